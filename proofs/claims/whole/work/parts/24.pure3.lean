theorem addB_in {r : Row} {M : Int} {B : Bg} {x : Row × Nat} (hx : B[plc B r]? = some x) (he : x.1 = r) : addB r M B = if 1000000000 < (x.2 : Int) + M then none else if (x.2 : Int) + M ≤ 0 then some (B.eraseIdx (plc B r)) else some (B.set (plc B r) (r, ((x.2 : Int) + M).toNat)) := by
  unfold addB; rw [hx]; simp only [he, if_true]
theorem addB_out {r : Row} {M : Int} {B : Bg} (hx : ∀ x, B[plc B r]? = some x → x.1 ≠ r) : addB r M B = if M ≤ 0 then some B else if 20 ≤ B.length ∨ 1000000000 < M then none else some (B.insertIdx (plc B r) (r, M.toNat)) := by
  unfold addB
  split
  · rename_i x he
    rw [if_neg (hx x he)]
  · rfl
theorem has_or (B : Bg) (r : Row) : (∃ x, B[plc B r]? = some x ∧ x.1 = r) ∨ ∀ x, B[plc B r]? = some x → x.1 ≠ r := by
  rcases h : B[plc B r]? with _ | x
  · exact Or.inr (fun x hx => by cases hx)
  · by_cases he : x.1 = r
    · exact Or.inl ⟨x, rfl, he⟩
    · exact Or.inr (fun y hy => by cases hy; exact he)
theorem srt_erase {B : Bg} (h : srt B) (k : Nat) : srt (B.eraseIdx k) := by
  intro i j hij x y hx hy
  rw [List.getElem?_eraseIdx] at hx hy
  split at hx <;> split at hy
  · exact h i j hij x y hx hy
  · exact h i (j + 1) (by omega) x y hx hy
  · omega
  · exact h (i + 1) (j + 1) (by omega) x y hx hy
theorem srt_set {B : Bg} (h : srt B) {k m : Nat} {x : Row × Nat} (hk : B[k]? = some x) : srt (B.set k (x.1, m)) := by
  have e : ∀ (i : Nat) (y : Row × Nat), (B.set k (x.1, m))[i]? = some y → ∃ z : Row × Nat, B[i]? = some z ∧ z.1 = y.1 := by
    intro i y hy
    rw [List.getElem?_set] at hy
    split at hy
    · rename_i hi
      split at hy
      · cases hy; subst hi; exact ⟨x, hk, rfl⟩
      · cases hy
    · exact ⟨y, hy, rfl⟩
  intro i j hij a b ha hb
  obtain ⟨a', h1, h2⟩ := e i a ha
  obtain ⟨b', h3, h4⟩ := e j b hb
  rw [← h2, ← h4]
  exact h i j hij a' b' h1 h3
theorem srt_insert {B : Bg} (h : srt B) {r : Row} {m : Nat} (hx : ∀ x, B[plc B r]? = some x → x.1 ≠ r) : srt (B.insertIdx (plc B r) (r, m)) := by
  obtain ⟨s1, s2⟩ := plc_split h r
  have s3 : ∀ (i : Nat) (x : Row × Nat), plc B r ≤ i → B[i]? = some x → key r < key x.1 := by
    intro i x hi hxi
    rcases Nat.eq_or_lt_of_le hi with q | q
    · have a := s2 i x hi hxi
      have b : x.1 ≠ r := hx x (by rw [q]; exact hxi)
      rcases Int.lt_or_eq_of_le a with c | c
      · exact c
      · exact absurd (key_inj c.symm) b
    · have hlt : plc B r < B.length := by have := rep_lt hxi; omega
      have e : B[plc B r]? = some B[plc B r] := List.getElem?_eq_getElem hlt
      have a := s2 _ _ (Nat.le_refl _) e
      have b := h _ _ q _ _ e hxi
      omega
  have hpl := plc_le B r
  intro i j hij x y hx1 hy1
  rw [List.getElem?_insertIdx] at hx1 hy1
  split at hx1
  · rename_i hi
    split at hy1
    · exact h i j hij x y hx1 hy1
    · split at hy1
      · split at hy1
        · cases hy1; exact s1 i x hi hx1
        · first | (exfalso; omega) | cases hy1
      · rename_i h7 h8
        exact h i (j - 1) (by omega) x y hx1 hy1
  · rename_i hi
    split at hx1
    · rename_i hi2
      split at hx1
      · cases hx1
        rw [if_neg (by omega), if_neg (by omega)] at hy1
        exact s3 (j - 1) y (by omega) hy1
      · first | (exfalso; omega) | cases hx1
    · rename_i hi2
      rw [if_neg (by omega), if_neg (by omega)] at hy1
      exact h (i - 1) (j - 1) (by omega) x y hx1 hy1
theorem good_nil : good [] := ⟨fun i j _ x y h => by simp at h, by simp, fun x h => by simp at h⟩
theorem addB_good {r : Row} {M : Int} {B B' : Bg} (h : good B) (ha : addB r M B = some B') : good B' := by
  obtain ⟨hs, hl, hf⟩ := h
  rcases has_or B r with ⟨x, hx, he⟩ | hx
  · rw [addB_in hx he] at ha
    split at ha
    · cases ha
    · split at ha
      · cases ha
        exact ⟨srt_erase hs _, by rw [List.length_eraseIdx]; split <;> omega, fun y hy => hf y (List.mem_of_mem_eraseIdx hy)⟩
      · rename_i h1 h2
        cases ha
        refine ⟨by rw [← he]; rw [he]; rw [← he]; exact srt_set hs (by rw [he]; exact hx), by simpa using hl, fun y hy => ?_⟩
        rcases List.mem_or_eq_of_mem_set hy with q | q
        · exact hf y q
        · rw [q]; exact ⟨by show 0 < ((x.2 : Int) + M).toNat; omega, by show ((x.2 : Int) + M).toNat ≤ _; omega⟩
  · rw [addB_out hx] at ha
    split at ha
    · cases ha; exact ⟨hs, hl, hf⟩
    · split at ha
      · cases ha
      · rename_i h1 h2
        cases ha
        refine ⟨srt_insert hs hx, ?_, fun y hy => ?_⟩
        · rw [List.length_insertIdx]; split <;> omega
        · rcases (List.mem_insertIdx (plc_le B r)).mp hy with q | q
          · rw [q]; exact ⟨by show 0 < M.toNat; omega, by show M.toNat ≤ _; omega⟩
          · exact hf y q
/-! longs -/
theorem l_add {a b : Int64} (h1 : -9000000000000000000 ≤ a.toInt + b.toInt) (h2 : a.toInt + b.toInt ≤ 9000000000000000000) : (a + b).toInt = a.toInt + b.toInt := by
  rw [Int64.toInt_add, Int.bmod_def]
  split <;> omega
theorem l_nI {t : Nat} (h : t < 2 ^ 31) : (nI t).toInt64.toInt = (t : Int) := by rw [nI_l h, lN_toInt h]
theorem l_bil : (1000000000 : Int64).toInt = 1000000000 := by decide
theorem l_0 : (0 : Int64).toInt = 0 := by decide
theorem l_i32 {y : Int64} (h1 : 0 ≤ y.toInt) : y.toInt32 = nI y.toInt.toNat := by
  obtain ⟨k, hk, rfl⟩ := pk_lOf (x := y) (fun q => by have := Int64.lt_iff_toInt_lt.mp q; rw [l_0] at this; omega)
  rw [lN_i, pk_lT hk]; rfl
theorem l_lt {a b : Int64} : a < b ↔ a.toInt < b.toInt := Int64.lt_iff_toInt_lt
theorem l_le {a b : Int64} : a ≤ b ↔ a.toInt ≤ b.toInt := Int64.le_iff_toInt_le
/-- what add leaves -/
def addP (K : Cst) (g : Wd) (b ca oa : Nat) (o : Option Bg) (v : Option Value) (g' : Wd) : Prop := match o with
  | none => v = some (.int 0) ∧ g = g'
  | some B' => v = some (.int 1) ∧ bagR K g' b ca oa B' ∧ Fr g g' [b, ca, oa]
