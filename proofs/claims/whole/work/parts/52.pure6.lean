/-! rows with nothing behind their width; differences; what a change makes of all -/
def zr (w : Nat) (r : Row) : Prop := ∀ c, w ≤ c → c < 4 → cellR r c = 0
def zw (w : Nat) (B : Bg) : Prop := ∀ x ∈ B, zr w x.1
theorem zw_nil (w : Nat) : zw w [] := fun x h => by simp at h
theorem addB_mem {r : Row} {M : Int} {B B' : Bg} (ha : addB r M B = some B') : ∀ x ∈ B', x ∈ B ∨ x.1 = r := by
  intro x hx
  rcases has_or B r with ⟨y, hy, he⟩ | ho
  · rw [addB_in hy he] at ha
    split at ha
    · cases ha
    · split at ha
      · cases ha
        exact Or.inl ((List.eraseIdx_sublist _ _).subset hx)
      · cases ha
        rcases List.mem_or_eq_of_mem_set hx with h | h
        · exact Or.inl h
        · exact Or.inr (by rw [h])
  · rw [addB_out ho] at ha
    split at ha
    · cases ha; exact Or.inl hx
    · split at ha
      · cases ha
      · cases ha
        rw [List.mem_insertIdx (plc_le B r)] at hx
        rcases hx with h | h
        · exact Or.inr (by rw [h])
        · exact Or.inl h
theorem fld_zw {α : Type} {f : α → Option (Row × Int)} {w : Nat} : ∀ {L : List α} {B B' : Bg}, (∀ a ∈ L, ∀ q, f a = some q → zr w q.1) → zw w B → fldB f L B = some B' → zw w B'
  | [], B, B', _, hB, h => by simp only [fldB] at h; cases h; exact hB
  | a :: L, B, B', hf, hB, h => by
    rcases hq : f a with _ | q
    · rw [fld_cs hq] at h
      exact fld_zw (fun b hb => hf b (List.mem_cons_of_mem _ hb)) hB h
    · rcases hb : addB q.1 q.2 B with _ | B1
      · rw [fld_cn hq hb] at h; cases h
      · rw [fld_cy hq hb] at h
        refine fld_zw (fun b hb => hf b (List.mem_cons_of_mem _ hb)) (fun x hx => ?_) h
        rcases addB_mem hb x hx with h1 | h1
        · exact hB x h1
        · rw [h1]; exact hf a (List.mem_cons_self ..) q hq
theorem fld_good {α : Type} {f : α → Option (Row × Int)} : ∀ {L : List α} {B B' : Bg}, good B → fldB f L B = some B' → good B'
  | [], B, B', hB, h => by simp only [fldB] at h; cases h; exact hB
  | a :: L, B, B', hB, h => by
    rcases hq : f a with _ | q
    · rw [fld_cs hq] at h
      exact fld_good hB h
    · rcases hb : addB q.1 q.2 B with _ | B1
      · rw [fld_cn hq hb] at h; cases h
      · rw [fld_cy hq hb] at h
        exact fld_good (addB_good hB hb) h
theorem evalV_good {kd wl : Nat} {n : Nat → Int32} {ot : Bool} {L R B : Bg} (gL : good L) (h : evalV kd wl n ot L R = some B) : good B := by
  unfold evalV at h
  split at h
  · split at h
    · exact fld_good good_nil h
    · exact fld_good good_nil h
  · exact fld_good good_nil h
  · exact fld_good good_nil h
  · exact fld_good gL h
  · exact fld_good good_nil h
  · exact fld_good good_nil h
  · exact fld_good good_nil h
  · cases h
/-- the width of a view by its sources' -/
def wOK (kd w wl wr : Nat) (n : Nat → Int32) : Prop := match kd with
  | 2 => w = wl
  | 3 => ∀ j, j < 4 → (j < w ↔ ¬ n j = -1)
  | 4 => w = wl + wr
  | 5 => w = wl ∧ wr = wl
  | 6 => w = wl ∧ wr = wl
  | 7 => w = wl
  | 8 => w = if n 0 = -1 then 1 else 2
  | _ => False
theorem cellR_pick {cs : Nat → Option Nat} {r : Row} {c : Nat} (hc : c < 4) : cellR (pickR cs r) c = pk1 cs r c := by
  rcases (show c = 0 ∨ c = 1 ∨ c = 2 ∨ c = 3 by omega) with h | h | h | h <;> subst h <;> rfl
theorem evalV_zw {kd w wl wr : Nat} {n : Nat → Int32} {ot : Bool} {L R B : Bg} (hL : zw wl L) (hR : zw wr R) (hw : wOK kd w wl wr n) (hp : vpOK kd wl n ot) (h : evalV kd wl n ot L R = some B) : zw w B := by
  unfold evalV at h
  split at h
  · rw [show w = wl from hw]
    split at h <;>
    · refine fld_zw (fun a ha q hq => ?_) (zw_nil _) h
      split at hq
      · cases hq; exact hL a ha
      · cases hq
  · refine fld_zw (fun a ha q hq => ?_) (zw_nil _) h
    cases hq
    intro c hc h4
    rw [cellR_pick h4]
    have : n c = -1 := Classical.byContradiction fun z => by have := ((show ∀ j, j < 4 → (j < w ↔ ¬ n j = -1) from hw) c h4).mpr z; omega
    simp only [pk1, this, chO_n]
  · refine fld_zw (fun a ha q hq => ?_) (zw_nil _) h
    rw [show w = wl + wr from hw]
    unfold jnF at hq
    split at hq
    · cases hq
      intro c hc h4
      rw [cellR_pair h4, pc1, if_neg (by omega)]
      obtain ⟨x, hx, y, hy, e⟩ : ∃ x, x ∈ L ∧ ∃ y, y ∈ R ∧ a = (x, y) := by
        simp only [prs, List.mem_flatMap, List.mem_map] at ha
        obtain ⟨x, hx, y, hy, e⟩ := ha
        exact ⟨x, hx, y, hy, e.symm⟩
      subst e
      exact hR y hy (c - wl) (by omega) (by omega)
    · cases hq
  · obtain ⟨e1, e2⟩ := (show w = wl ∧ wr = wl from hw)
    rw [e1]
    exact fld_zw (fun a ha q hq => by cases hq; rw [← e2]; exact hR a ha) hL h
  · rw [(show w = wl ∧ wr = wl from hw).1]
    exact fld_zw (fun a ha q hq => by cases hq; exact hL a ha) (zw_nil _) h
  · rw [show w = wl from hw]
    exact fld_zw (fun a ha q hq => by cases hq; exact hL a ha) (zw_nil _) h
  · refine fld_zw (fun a ha q hq => ?_) (zw_nil _) h
    unfold grF at hq
    split at hq
    · cases hq
      have hw9 : w = if n 0 = -1 then 1 else 2 := hw
      intro c hc h4
      rcases hp.1 with e | ⟨cb, hcb, e⟩
      · rw [if_pos e] at hw9
        rw [e, chO_n]
        rcases (show c = 1 ∨ c = 2 ∨ c = 3 by omega) with h | h | h <;> subst h <;> rfl
      · rw [if_neg (by rw [e]; exact nI_m1ne (by omega))] at hw9
        rw [e, chO_s (by omega)]
        rcases (show c = 2 ∨ c = 3 by omega) with h | h <;> subst h <;> rfl
    · cases hq
  · cases h
theorem difI_zero {A C : Bg} : ∀ (m i j : Nat), (A.length - i) + (C.length - j) ≤ m → difI A C m i j = 0 → A.drop i = C.drop j := by
  intro m
  induction m with
  | zero =>
    intro i j hm h
    rw [List.drop_eq_nil_of_le (by omega), List.drop_eq_nil_of_le (by omega)]
  | succ m ih =>
    intro i j hm h
    by_cases hi : i < A.length
    · by_cases hj : j < C.length
      · unfold difI at h
        rw [List.getElem?_eq_getElem hi, List.getElem?_eq_getElem hj] at h
        simp only at h
        split at h
        · omega
        · split at h
          · omega
          · rename_i h1 h2
            split at h
            · rename_i h3
              have e1 : A[i].1 = C[j].1 := key_inj (by omega)
              have := ih (i + 1) (j + 1) (by omega) (by omega)
              rw [List.drop_eq_getElem_cons hi, List.drop_eq_getElem_cons hj, this, Prod.ext e1 h3]
            · omega
      · rw [difI_end _ (Or.inr (by omega))] at h
        omega
    · rw [difI_end _ (Or.inl (by omega))] at h
      rw [List.drop_eq_nil_of_le (by omega), List.drop_eq_nil_of_le (by omega)]
theorem dif_zero {A C : Bg} (h : dif A C = 0) : A = C := by
  have := difI_zero (A := A) (C := C) _ 0 0 (by simp) h
  simpa using this
theorem difI_self {A : Bg} : ∀ (m i : Nat), (A.length - i) + (A.length - i) ≤ m → difI A A m i i = 0 := by
  intro m
  induction m with
  | zero => intro i hm; simp only [difI]; omega
  | succ m ih =>
    intro i hm
    by_cases hi : i < A.length
    · unfold difI
      rw [List.getElem?_eq_getElem hi]
      simp only
      rw [if_neg (by omega), if_neg (by omega), if_pos trivial, ih (i + 1) (by omega)]
    · rw [difI_end _ (Or.inl (by omega))]; omega
theorem dif_self (A : Bg) : dif A A = 0 := difI_self _ 0 (by simp)
theorem difI_le9 {A C : Bg} : ∀ (m i j : Nat), difI A C m i j ≤ (A.length - i) + (C.length - j) := by
  intro m
  induction m with
  | zero => intro i j; simp only [difI]; omega
  | succ m ih =>
    intro i j
    by_cases hi : i < A.length
    · by_cases hj : j < C.length
      · unfold difI
        rw [List.getElem?_eq_getElem hi, List.getElem?_eq_getElem hj]
        simp only
        have h1 := ih (i + 1) j; have h2 := ih i (j + 1); have h3 := ih (i + 1) (j + 1)
        split
        · omega
        · split
          · omega
          · split <;> omega
      · rw [difI_end _ (Or.inr (by omega))]; omega
    · rw [difI_end _ (Or.inl (by omega))]; omega
theorem dif_le {A C : Bg} (hA : good A) (hC : good C) : dif A C ≤ 40 := by
  have := difI_le9 (A := A) (C := C) (A.length + C.length) 0 0
  have h1 := hA.2.1; have h2 := hC.2.1
  unfold dif; omega
/-! the invariant -/
def InvI (A : Ab) (i : Nat) : Prop := (aw A i ≤ 4 ∧ ak A i ≤ 8 ∧ (ak A i = 0 ↔ aw A i = 0) ∧ ac A i ≤ 40) ∧ (ak A i = 0 → aB A i = []) ∧ (good (aB A i) ∧ zw (aw A i) (aB A i)) ∧ (ak A i ≤ 1 → ad A i = 0) ∧
  (2 ≤ ak A i → (al A i < 8 ∧ ar A i < 8 ∧ 0 < aw A (al A i) ∧ 0 < aw A (ar A i)) ∧ vpOK (ak A i) (aw A (al A i)) (an A i) (ao A i) ∧ wOK (ak A i) (aw A i) (aw A (al A i)) (aw A (ar A i)) (an A i) ∧ evalV (ak A i) (aw A (al A i)) (an A i) (ao A i) (aB A (al A i)) (aB A (ar A i)) = some (aB A i) ∧ ad A i = 1 + max (ad A (al A i)) (ad A (ar A i)))
def Inv (A : Ab) : Prop := ∀ i, i < 8 → InvI A i
def setA (A : Ab) (i w k l r : Nat) (n : Nat → Int32) (o : Bool) (B : Bg) : Ab := ((fu (aw A) i w, fu (ak A) i k, fu (al A) i l, fu (ar A) i r), (fu (an A) i n, fu (ao A) i o), (fu (aB A) i B, fu (ac A) i 0, fu (ad A) i (if 2 ≤ k then 1 + max (ad A l) (ad A r) else 0)))
def dropA (A : Ab) (i : Nat) : Ab := ((fu (aw A) i 0, fu (ak A) i 0, al A, ar A), (an A, ao A), (fu (aB A) i [], ac A, fu (ad A) i 0))
def putA (A : Ab) (N : Nat → Bg) : Ab := ((aw A, ak A, al A, ar A), (an A, ao A), (fun j => if j < 8 then N j else aB A j, fun j => if j < 8 then dif (N j) (aB A j) else ac A j, ad A))
def EqAt (A : Ab) (t : Nat) (B' : Bg) (M : Nat → Bg) (i : Nat) : Prop := (ak A i ≤ 1 → M i = if i = t then B' else aB A i) ∧ (2 ≤ ak A i → evalV (ak A i) (aw A (al A i)) (an A i) (ao A i) (M (al A i)) (M (ar A i)) = some (M i))
def Upd (A : Ab) (t : Nat) (B' : Bg) (N : Nat → Bg) : Prop := ∀ i, i < 8 → EqAt A t B' N i
theorem Inv.src {A : Ab} (h : Inv A) {i : Nat} (hi : i < 8) (k : 2 ≤ ak A i) : (al A i < 8 ∧ ar A i < 8) ∧ ad A (al A i) < ad A i ∧ ad A (ar A i) < ad A i := by
  obtain ⟨⟨h1, h2, _⟩, _, _, _, h3⟩ := (h i hi).2.2.2.2 k
  refine ⟨⟨h1, h2⟩, ?_, ?_⟩ <;> omega
theorem upd_part {A : Ab} (hI : Inv A) {t : Nat} {B' : Bg} {M N : Nat → Bg} {P : Nat → Prop} (hP : ∀ i, i < 8 → P i → 2 ≤ ak A i → P (al A i) ∧ P (ar A i)) (hM : ∀ i, i < 8 → P i → EqAt A t B' M i) (hN : Upd A t B' N) : ∀ i, i < 8 → P i → M i = N i := by
  have key9 : ∀ d i, i < 8 → ad A i ≤ d → P i → M i = N i := by
    intro d
    induction d with
    | zero =>
      intro i hi hd hp
      have k : ak A i ≤ 1 := Classical.byContradiction fun z => by have := (hI.src hi (by omega)).2; omega
      rw [(hM i hi hp).1 k, (hN i hi).1 k]
    | succ d ih =>
      intro i hi hd hp
      by_cases k : ak A i ≤ 1
      · rw [(hM i hi hp).1 k, (hN i hi).1 k]
      · have s := hI.src hi (by omega)
        have pp := hP i hi hp (by omega)
        have e1 := ih _ s.1.1 (by omega) pp.1
        have e2 := ih _ s.1.2 (by omega) pp.2
        have := (hM i hi hp).2 (by omega)
        rw [e1, e2, (hN i hi).2 (by omega)] at this
        exact (Option.some.inj this).symm
  exact fun i hi hp => key9 _ i hi (Nat.le_refl _) hp
theorem upd_uniq {A : Ab} (hI : Inv A) {t : Nat} {B' : Bg} {M N : Nat → Bg} (hM : Upd A t B' M) (hN : Upd A t B' N) : putA A M = putA A N := by
  have h := upd_part (P := fun _ => True) hI (fun _ _ _ _ => ⟨trivial, trivial⟩) (fun i hi _ => hM i hi) hN
  have e1 : (fun j => if j < 8 then M j else aB A j) = fun j => if j < 8 then N j else aB A j := funext fun j => by
    by_cases hj : j < 8
    · simp only [if_pos hj, h j hj trivial]
    · simp only [if_neg hj]
  have e2 : (fun j => if j < 8 then dif (M j) (aB A j) else ac A j) = fun j => if j < 8 then dif (N j) (aB A j) else ac A j := funext fun j => by
    by_cases hj : j < 8
    · simp only [if_pos hj, h j hj trivial]
    · simp only [if_neg hj]
  unfold putA
  rw [e1, e2]
/-! no chain is longer than 8 -/
theorem php : ∀ (n : Nat) (f : Nat → Nat), (∀ d, d ≤ n → f d < n) → ∃ a b, a < b ∧ b ≤ n ∧ f a = f b := by
  intro n
  induction n with
  | zero => intro f h; have := h 0 (Nat.le_refl 0); omega
  | succ n ih =>
    intro f h
    by_cases hh : ∃ d, d ≤ n ∧ f d = f (n + 1)
    · obtain ⟨d, h1, h2⟩ := hh; exact ⟨d, n + 1, by omega, Nat.le_refl _, h2⟩
    · have key8 : ∀ d, d ≤ n → f d ≠ f (n + 1) := fun d hd e => hh ⟨d, hd, e⟩
      obtain ⟨a, b, h1, h2, h3⟩ := ih (fun d => if f d = n then f (n + 1) else f d) (fun d hd => by
        have k1 := h d (by omega); have k2 := h (n + 1) (Nat.le_refl _); have k3 := key8 d hd
        by_cases e : f d = n
        · simp only [if_pos e]; omega
        · simp only [if_neg e]; omega)
      refine ⟨a, b, h1, by omega, ?_⟩
      have ka := key8 a (by omega); have kb := key8 b h2
      by_cases e1 : f a = n
      · by_cases e2 : f b = n
        · rw [e1, e2]
        · simp only [if_pos e1, if_neg e2] at h3; exact absurd h3.symm kb
      · by_cases e2 : f b = n
        · simp only [if_neg e1, if_pos e2] at h3; exact absurd h3 ka
        · simp only [if_neg e1, if_neg e2] at h3; exact h3
theorem Inv.chain {A : Ab} (hI : Inv A) : ∀ m i, i < 8 → ad A i = m → ∀ d, d ≤ m → ∃ j, j < 8 ∧ ad A j = d := by
  intro m
  induction m with
  | zero => intro i hi e d hd; exact ⟨i, hi, by omega⟩
  | succ m ih =>
    intro i hi e d hd
    by_cases hdm : d = m + 1
    · exact ⟨i, hi, by omega⟩
    · have k : 2 ≤ ak A i := Classical.byContradiction fun z => by have := (hI i hi).2.2.2.1 (by omega); omega
      obtain ⟨⟨h1, h2, _⟩, _, _, _, h3⟩ := (hI i hi).2.2.2.2 k
      by_cases hm : ad A (al A i) = m
      · exact ih _ h1 hm d (by omega)
      · exact ih _ h2 (by omega) d (by omega)
theorem Inv.dp {A : Ab} (hI : Inv A) {i : Nat} (hi : i < 8) : ad A i < 8 := Classical.byContradiction fun z => by
  have hc := hI.chain _ i hi rfl
  have hex : ∃ f : Nat → Nat, ∀ d, d ≤ 8 → f d < 8 ∧ ad A (f d) = d := by
    refine ⟨fun d => if h : d ≤ ad A i then Classical.choose (hc d h) else 0, fun d hd => ?_⟩
    have h9 : d ≤ ad A i := by omega
    simp only [dif_pos h9]
    exact Classical.choose_spec (hc d h9)
  obtain ⟨f, hf⟩ := hex
  obtain ⟨a, b, h1, h2, h3⟩ := php 8 f (fun d hd => (hf d hd).1)
  have ha := (hf a (by omega)).2; have hb := (hf b h2).2
  rw [h3] at ha
  omega
