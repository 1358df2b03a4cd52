/-! a view's rows, added one behind another -/
def fldB {α : Type} (f : α → Option (Row × Int)) : List α → Bg → Option Bg
  | [], B => some B
  | x :: L, B => match f x with
    | none => fldB f L B
    | some q => match addB q.1 q.2 B with
      | none => none
      | some B' => fldB f L B'
theorem fld_skip {α : Type} {f : α → Option (Row × Int)} {L : List α} {B : Bg} {k : Nat} (hk : k < L.length) (h : f L[k] = none) : fldB f (L.drop k) B = fldB f (L.drop (k + 1)) B := by
  rw [List.drop_eq_getElem_cons hk]; simp only [fldB, h]
theorem fld_no {α : Type} {f : α → Option (Row × Int)} {L : List α} {B : Bg} {k : Nat} {q : Row × Int} (hk : k < L.length) (h : f L[k] = some q) (ha : addB q.1 q.2 B = none) : fldB f (L.drop k) B = none := by
  rw [List.drop_eq_getElem_cons hk]; simp only [fldB, h, ha]
theorem fld_yes {α : Type} {f : α → Option (Row × Int)} {L : List α} {B B' : Bg} {k : Nat} {q : Row × Int} (hk : k < L.length) (h : f L[k] = some q) (ha : addB q.1 q.2 B = some B') : fldB f (L.drop k) B = fldB f (L.drop (k + 1)) B' := by
  rw [List.drop_eq_getElem_cons hk]; simp only [fldB, h, ha]
theorem fld_end {α : Type} {f : α → Option (Row × Int)} {L : List α} {B : Bg} {k : Nat} (hk : L.length ≤ k) : fldB f (L.drop k) B = some B := by
  rw [List.drop_eq_nil_of_le hk]; rfl
theorem nm1 {q a : Nat} (h : q ≠ a) : q ∉ [a] := by simpa using h
theorem nm3 {q a b c : Nat} (h1 : q ≠ a) (h2 : q ≠ b) (h3 : q ≠ c) : q ∉ [a, b, c] := by simp [h1, h2, h3]
theorem nm4 {q a b c d : Nat} (h1 : q ≠ a) (h2 : q ≠ b) (h3 : q ≠ c) (h4 : q ≠ d) : q ∉ [a, b, c, d] := by simp [h1, h2, h3, h4]
theorem isBag.at {K : Cst} {g g' : Wd} {ad : List Nat} {b ca oa n : Nat} {cf tf : Nat → Int32} (h : isBag K g b ca oa n cf tf) (hF : Fr g g' ad) (h1 : b ∉ ad) (h2 : ca ∉ ad) (h3 : oa ∉ ad) : isBag K g' b ca oa n cf tf := ⟨hF.at h.1 h1, hF.at h.2.1 h2, hF.at h.2.2 h3⟩
theorem bagR.at {K : Cst} {g g' : Wd} {ad : List Nat} {b ca oa : Nat} {B : Bg} (h : bagR K g b ca oa B) (hF : Fr g g' ad) (h1 : b ∉ ad) (h2 : ca ∉ ad) (h3 : oa ∉ ad) : bagR K g' b ca oa B := by
  obtain ⟨cf, tf, hB, hr⟩ := h
  exact ⟨cf, tf, hB.at hF h1 h2 h3, hr⟩
/-- what makeInto leaves: into the bag at b, with the row at rw -/
def mkP (K : Cst) (g : Wd) (b ca oa rw : Nat) (I : (Nat → Int32) → Prop) (o : Option Bg) (v : Option Value) (g' : Wd) : Prop := Fr g g' [b, ca, oa, rw] ∧ (∃ rf, g' rw = some (aI K 4 rf) ∧ I rf) ∧ match o with
  | none => v = some (.int 0) ∧ ∃ n cf tf, isBag K g' b ca oa n cf tf
  | some B' => v = some (.int 1) ∧ bagR K g' b ca oa B' ∧ good B'
theorem row_copied {lf rf : Nat → Int32} {k : Nat} : rowAt (va_cpy lf rf (4 * k) 0 4) 0 = rowAt lf (4 * k) := by
  rw [rowAt_cpy_in (by omega) (by omega)]; simp
def cellR (r : Row) (c : Nat) : Int32 := match c with
  | 0 => r.1
  | 1 => r.2.1
  | 2 => r.2.2.1
  | _ => r.2.2.2
theorem cellR_at {f : Nat → Int32} {i c : Nat} (hc : c < 4) : f (i + c) = cellR (rowAt f i) c := by
  rcases (show c = 0 ∨ c = 1 ∨ c = 2 ∨ c = 3 by omega) with rfl | rfl | rfl | rfl <;> rfl
theorem rep_cell {f t : Nat → Int32} {B : Bg} (h : rep f t B) {k c : Nat} (hk : k < B.length) (hc : c < 4) : f (4 * k + c) = cellR (B[k]).1 c := by
  rw [cellR_at (f := f) (i := 4 * k) hc, (h k _ (List.getElem?_eq_getElem hk)).1]
theorem Bg_lt {B : Bg} (h : good B) {k : Nat} (hk : k < B.length) : (B[k]).2 ≤ 1000000000 ∧ 0 < (B[k]).2 := by
  have := h.2.2 _ (List.getElem_mem hk); omega
theorem fr2 {g g1 g2 : Wd} {b ca oa rw : Nat} (h : Fr g g1 [b, ca, oa, rw]) (h2 : Fr g1 g2 [rw]) : Fr g g2 [b, ca, oa, rw] := h.tr (h2.mono (fun q hq => by simp at hq; simp [hq]))
theorem fr3 {g g1 g2 g3 : Wd} {b ca oa rw : Nat} (h : Fr g g1 [b, ca, oa, rw]) (h2 : Fr g1 g2 [rw]) (h3 : Fr g2 g3 [b, ca, oa]) : Fr g g3 [b, ca, oa, rw] := (fr2 h h2).tr (h3.mono (fun q hq => by simp at hq; rcases hq with h | h | h <;> simp [h]))
theorem sub_l {a b : Nat} (ha : a ≤ 1000000000) (hb : b ≤ 1000000000) : (nI a - nI b).toInt64.toInt = (a : Int) - b := by
  rw [Int32.toInt_toInt64, pk_sub_toInt (by omega) (by omega)]
theorem tms_le {B : Bg} (h : good B) (r : Row) : tms B r ≤ 1000000000 := by
  unfold tms
  split
  · rename_i x hx
    have := h.2.2 x (List.mem_of_getElem? hx)
    split <;> omega
  · omega
/-- the comparisons of a selection -/
def selH (cm : Nat) (a x : Int32) : Bool := match cm with
  | 0 => decide (a = x)
  | 1 => decide (¬ a = x)
  | 2 => decide (a < x)
  | 3 => decide (x ≤ a)
  | 4 => decide (x < a)
  | _ => decide (a ≤ x)
theorem b01_t {x : Bool} (h : ¬ b01 x = 0) : x = true := by cases x; exact absurd rfl h; rfl
theorem b01_f {x : Bool} (h : b01 x = 0) : ¬ x = true := by cases x; decide; exact absurd h (by decide)
theorem b01_1 {x : Bool} (h : x = true) : (1 : Int32) = b01 x := by rw [h]; rfl
theorem b01_0 {x : Bool} (h : x = false) : (0 : Int32) = b01 x := by rw [h]; rfl
/-- chosen columns: none is NONE -/
def chv (o : Option Nat) : Int32 := match o with
  | none => -1
  | some c => nI c
def pk1 (cs : Nat → Option Nat) (r : Row) (i : Nat) : Int32 := match cs i with
  | none => 0
  | some c => cellR r c
def pickR (cs : Nat → Option Nat) (r : Row) : Row := (pk1 cs r 0, pk1 cs r 1, pk1 cs r 2, pk1 cs r 3)
theorem rowAt_f {f : Nat → Int32} {r : Row} (h : ∀ j, j < 4 → f j = cellR r j) : rowAt f 0 = r := by
  have h0 := h 0 (by omega); have h1 := h 1 (by omega); have h2 := h 2 (by omega); have h3 := h 3 (by omega)
  obtain ⟨a, b, c, d⟩ := r
  simp only [cellR] at h0 h1 h2 h3
  simp [rowAt, h0, h1, h2, h3]
theorem nI_m1ne {c : Nat} (h : c < 2 ^ 31) : ¬ nI c = -1 := fun q => by
  have := nI_toInt h
  rw [q] at this
  have e : (-1 : Int32).toInt = -1 := by decide
  omega
/-- a pair of rows, the left one of w columns, one behind the other -/
def pc1 (w : Nat) (x y : Row) (j : Nat) : Int32 := if j < w then cellR x j else cellR y (j - w)
def pairR (w : Nat) (x y : Row) : Row := (pc1 w x y 0, pc1 w x y 1, pc1 w x y 2, pc1 w x y 3)
theorem cellR_pair {w : Nat} {x y : Row} {j : Nat} (h : j < 4) : cellR (pairR w x y) j = pc1 w x y j := by
  rcases (show j = 0 ∨ j = 1 ∨ j = 2 ∨ j = 3 by omega) with rfl | rfl | rfl | rfl <;> rfl
theorem fld_cs {α : Type} {f : α → Option (Row × Int)} {Z : List α} {B : Bg} {a : α} (h : f a = none) : fldB f (a :: Z) B = fldB f Z B := by simp only [fldB, h]
theorem fld_cn {α : Type} {f : α → Option (Row × Int)} {Z : List α} {B : Bg} {a : α} {q : Row × Int} (h : f a = some q) (ha : addB q.1 q.2 B = none) : fldB f (a :: Z) B = none := by simp only [fldB, h, ha]
theorem fld_cy {α : Type} {f : α → Option (Row × Int)} {Z : List α} {B B' : Bg} {a : α} {q : Row × Int} (h : f a = some q) (ha : addB q.1 q.2 B = some B') : fldB f (a :: Z) B = fldB f Z B' := by simp only [fldB, h, ha]
/-- the pairs of two bags' rows -/
def prs (L R : Bg) : List ((Row × Nat) × (Row × Nat)) := L.flatMap (fun x => R.map (fun y => (x, y)))
theorem prs_drop {L R : Bg} {i : Nat} (h : i < L.length) : prs (L.drop i) R = (R.drop 0).map (fun y => (L[i], y)) ++ prs (L.drop (i + 1)) R := by
  unfold prs; rw [List.drop_eq_getElem_cons h, List.flatMap_cons, List.drop_zero]
theorem map_drop {R : Bg} {x : Row × Nat} {j : Nat} (h : j < R.length) (Z : List ((Row × Nat) × (Row × Nat))) : (R.drop j).map (fun y => (x, y)) ++ Z = (x, R[j]) :: ((R.drop (j + 1)).map (fun y => (x, y)) ++ Z) := by
  rw [List.drop_eq_getElem_cons h]; rfl
theorem mul_l {a b : Nat} (ha : a ≤ 1000000000) (hb : b ≤ 1000000000) : ((nI a).toInt64 * (nI b).toInt64).toInt = (a : Int) * b ∧ (0 : Int) ≤ (a : Int) * b ∧ (a : Int) * b ≤ 1000000000000000000 := by
  have h1 : a * b ≤ 1000000000 * 1000000000 := Nat.mul_le_mul ha hb
  have h2 : (a : Int) * b = ((a * b : Nat) : Int) := by simp
  have h3 : (0 : Int) ≤ (a : Int) * b := by rw [h2]; omega
  have h4 : (a : Int) * b ≤ 1000000000000000000 := by rw [h2]; omega
  refine ⟨?_, h3, h4⟩
  rw [Int64.toInt_mul, l_nI (by omega), l_nI (by omega), Int.bmod_def]
  split <;> omega
def jnF (c d w : Nat) (q : (Row × Nat) × (Row × Nat)) : Option (Row × Int) := if cellR q.1.1 c = cellR q.2.1 d then some (pairR w q.1.1 q.2.1, (q.1.2 : Int) * (q.2.2 : Int)) else none
theorem jnF_y {c d w : Nat} {x y : Row × Nat} (h : cellR x.1 c = cellR y.1 d) : jnF c d w (x, y) = some (pairR w x.1 y.1, (x.2 : Int) * (y.2 : Int)) := if_pos h
theorem jnF_n {c d w : Nat} {x y : Row × Nat} (h : ¬ cellR x.1 c = cellR y.1 d) : jnF c d w (x, y) = none := if_neg h
theorem jn_end {c d w : Nat} {x : Row × Nat} {R : Bg} {j : Nat} {Z : List ((Row × Nat) × (Row × Nat))} (h : R.length ≤ j) (B : Bg) : fldB (jnF c d w) ((R.drop j).map (fun y => (x, y)) ++ Z) B = fldB (jnF c d w) Z B := by
  rw [List.drop_eq_nil_of_le h]; rfl
theorem jn_skip {c d w : Nat} {x : Row × Nat} {R : Bg} {j : Nat} {Z : List ((Row × Nat) × (Row × Nat))} {B : Bg} (h : j < R.length) (hc : ¬ cellR x.1 c = cellR (R[j]).1 d) : fldB (jnF c d w) ((R.drop j).map (fun y => (x, y)) ++ Z) B = fldB (jnF c d w) ((R.drop (j + 1)).map (fun y => (x, y)) ++ Z) B := by
  rw [map_drop h, fld_cs (jnF_n hc)]
theorem jn_yes {c d w : Nat} {x : Row × Nat} {R : Bg} {j : Nat} {Z : List ((Row × Nat) × (Row × Nat))} {B B' : Bg} (h : j < R.length) (hc : cellR x.1 c = cellR (R[j]).1 d) (ha : addB (pairR w x.1 (R[j]).1) ((x.2 : Int) * ((R[j]).2 : Int)) B = some B') : fldB (jnF c d w) ((R.drop j).map (fun y => (x, y)) ++ Z) B = fldB (jnF c d w) ((R.drop (j + 1)).map (fun y => (x, y)) ++ Z) B' := by
  rw [map_drop h, fld_cy (jnF_y hc) ha]
theorem jn_no {c d w : Nat} {x : Row × Nat} {R : Bg} {j : Nat} {Z : List ((Row × Nat) × (Row × Nat))} {B : Bg} (h : j < R.length) (hc : cellR x.1 c = cellR (R[j]).1 d) (ha : addB (pairR w x.1 (R[j]).1) ((x.2 : Int) * ((R[j]).2 : Int)) B = none) : fldB (jnF c d w) ((R.drop j).map (fun y => (x, y)) ++ Z) B = none := by
  rw [map_drop h, fld_cn (jnF_y hc) ha]
