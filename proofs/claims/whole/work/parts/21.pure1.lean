/-! ROWS AND BAGS AS MATHEMATICAL VALUES: a row is four ints; its key orders rows by their first column, then the second one, and so on -/
abbrev Row : Type := Int32 × Int32 × Int32 × Int32
def key (r : Row) : Int := ((r.1.toInt * 4294967296 + r.2.1.toInt) * 4294967296 + r.2.2.1.toInt) * 4294967296 + r.2.2.2.toInt
theorem i32_bd (x : Int32) : -2147483648 ≤ x.toInt ∧ x.toInt < 2147483648 := ⟨x.le_toInt, x.toInt_lt⟩
theorem key_inj {a b : Row} (h : key a = key b) : a = b := by
  obtain ⟨a1, a2, a3, a4⟩ := a
  obtain ⟨b1, b2, b3, b4⟩ := b
  simp only [key] at h
  have p1 := i32_bd a1; have p2 := i32_bd a2; have p3 := i32_bd a3; have p4 := i32_bd a4
  have q1 := i32_bd b1; have q2 := i32_bd b2; have q3 := i32_bd b3; have q4 := i32_bd b4
  have e1 : a1 = b1 := Int32.toInt_inj.mp (by omega)
  have e2 : a2 = b2 := Int32.toInt_inj.mp (by omega)
  have e3 : a3 = b3 := Int32.toInt_inj.mp (by omega)
  have e4 : a4 = b4 := Int32.toInt_inj.mp (by omega)
  rw [e1, e2, e3, e4]
def rowAt (f : Nat → Int32) (i : Nat) : Row := (f i, f (i + 1), f (i + 2), f (i + 3))
theorem i32_tri (x y : Int32) : x.toInt < y.toInt ∨ x = y ∨ y.toInt < x.toInt := by
  rcases Int.lt_trichotomy x.toInt y.toInt with h | h | h
  · exact Or.inl h
  · exact Or.inr (Or.inl (Int32.toInt_inj.mp h))
  · exact Or.inr (Or.inr h)
theorem cmpN_lt {f h : Nat → Int32} {m i j : Nat} (c : (f i).toInt < (h j).toInt) : cmpN f h (m + 1) i j = -1 := by
  rw [cmpN_s, if_neg (fun e => by rw [e] at c; omega), if_pos (Int32.lt_iff_toInt_lt.mpr c)]
theorem cmpN_gt {f h : Nat → Int32} {m i j : Nat} (c : (h j).toInt < (f i).toInt) : cmpN f h (m + 1) i j = 1 := by
  rw [cmpN_s, if_neg (fun e => by rw [e] at c; omega), if_neg (fun e => by have := Int32.lt_iff_toInt_lt.mp e; omega)]
theorem cmpN_eq {f h : Nat → Int32} {m i j : Nat} (c : f i = h j) : cmpN f h (m + 1) i j = cmpN f h m (i + 1) (j + 1) := by
  rw [cmpN_s, if_pos c]
/-- what the comparison of two rows answers, by their keys -/
theorem cmp4_tri (f h : Nat → Int32) (i j : Nat) : (cmp4 f i h j = -1 ∧ key (rowAt f i) < key (rowAt h j)) ∨ (cmp4 f i h j = 0 ∧ rowAt f i = rowAt h j) ∨ (cmp4 f i h j = 1 ∧ key (rowAt h j) < key (rowAt f i)) := by
  have p1 := i32_bd (f i); have p2 := i32_bd (f (i + 1)); have p3 := i32_bd (f (i + 2)); have p4 := i32_bd (f (i + 3))
  have q1 := i32_bd (h j); have q2 := i32_bd (h (j + 1)); have q3 := i32_bd (h (j + 2)); have q4 := i32_bd (h (j + 3))
  rcases i32_tri (f i) (h j) with c | c | c
  · exact Or.inl ⟨cmpN_lt c, by simp only [key, rowAt]; omega⟩
  · rcases i32_tri (f (i + 1)) (h (j + 1)) with c2 | c2 | c2
    · exact Or.inl ⟨(cmpN_eq c).trans (cmpN_lt c2), by simp only [key, rowAt, c]; omega⟩
    · rcases i32_tri (f (i + 2)) (h (j + 2)) with c3 | c3 | c3
      · exact Or.inl ⟨(cmpN_eq c).trans ((cmpN_eq c2).trans (cmpN_lt c3)), by simp only [key, rowAt, c, c2]; omega⟩
      · rcases i32_tri (f (i + 3)) (h (j + 3)) with c4 | c4 | c4
        · exact Or.inl ⟨(cmpN_eq c).trans ((cmpN_eq c2).trans ((cmpN_eq c3).trans (cmpN_lt c4))), by simp only [key, rowAt, c, c2, c3]; omega⟩
        · exact Or.inr (Or.inl ⟨(cmpN_eq c).trans ((cmpN_eq c2).trans ((cmpN_eq c3).trans (cmpN_eq c4))), by simp only [rowAt, c, c2, c3, c4]⟩)
        · exact Or.inr (Or.inr ⟨(cmpN_eq c).trans ((cmpN_eq c2).trans ((cmpN_eq c3).trans (cmpN_gt c4))), by simp only [key, rowAt, c, c2, c3]; omega⟩)
      · exact Or.inr (Or.inr ⟨(cmpN_eq c).trans ((cmpN_eq c2).trans (cmpN_gt c3)), by simp only [key, rowAt, c, c2]; omega⟩)
    · exact Or.inr (Or.inr ⟨(cmpN_eq c).trans (cmpN_gt c2), by simp only [key, rowAt, c]; omega⟩)
  · exact Or.inr (Or.inr ⟨cmpN_gt c, by simp only [key, rowAt]; omega⟩)
theorem cmp4_0 (f h : Nat → Int32) (i j : Nat) : cmp4 f i h j = 0 ↔ rowAt f i = rowAt h j := by
  rcases cmp4_tri f h i j with ⟨a, b⟩ | ⟨a, b⟩ | ⟨a, b⟩
  · rw [a]; exact ⟨fun q => absurd q (by decide), fun q => by rw [q] at b; omega⟩
  · exact ⟨fun _ => b, fun _ => a⟩
  · rw [a]; exact ⟨fun q => absurd q (by decide), fun q => by rw [q] at b; omega⟩
theorem cmp4_p (f h : Nat → Int32) (i j : Nat) : 0 < cmp4 f i h j ↔ key (rowAt h j) < key (rowAt f i) := by
  rcases cmp4_tri f h i j with ⟨a, b⟩ | ⟨a, b⟩ | ⟨a, b⟩
  · rw [a]; exact ⟨fun q => absurd q (by decide), fun q => by omega⟩
  · rw [a]; exact ⟨fun q => absurd q (by decide), fun q => by rw [b] at q; omega⟩
  · rw [a]; exact ⟨fun _ => b, fun _ => by decide⟩
/-! a bag: rows in their order, each with its times -/
abbrev Bg : Type := List (Row × Nat)
def srt (B : Bg) : Prop := ∀ i j : Nat, i < j → ∀ x y : Row × Nat, B[i]? = some x → B[j]? = some y → key x.1 < key y.1
/-- the cells f and the times t hold the bag B -/
def rep (f t : Nat → Int32) (B : Bg) : Prop := ∀ (k : Nat) (x : Row × Nat), B[k]? = some x → rowAt f (4 * k) = x.1 ∧ t k = nI x.2
def fine (B : Bg) : Prop := B.length ≤ 20 ∧ ∀ x ∈ B, 0 < x.2 ∧ x.2 ≤ 1000000000
/-- how many rows stand ahead of the row r -/
def plc (B : Bg) (r : Row) : Nat := (B.filter (fun x => decide (key x.1 < key r))).length
def tms (B : Bg) (r : Row) : Nat := match B[plc B r]? with
  | some x => if x.1 = r then x.2 else 0
  | none => 0
theorem plc_le (B : Bg) (r : Row) : plc B r ≤ B.length := List.length_filter_le _ _
theorem srt_tail {x : Row × Nat} {B : Bg} (h : srt (x :: B)) : srt B := fun i j hij a b ha hb => h (i + 1) (j + 1) (by omega) a b (by simpa using ha) (by simpa using hb)
theorem srt_head {x y : Row × Nat} {B : Bg} (h : srt (x :: B)) (hy : y ∈ B) : key x.1 < key y.1 := by
  obtain ⟨i, hi⟩ := List.getElem?_of_mem hy
  exact h 0 (i + 1) (by omega) x y (by simp) (by simpa using hi)
/-- a place with the lesser rows ahead and the others behind it is plc -/
theorem plc_of {B : Bg} {r : Row} : ∀ {q : Nat}, q ≤ B.length → (∀ (i : Nat) (x : Row × Nat), i < q → B[i]? = some x → key x.1 < key r) → (∀ (i : Nat) (x : Row × Nat), q ≤ i → B[i]? = some x → key r ≤ key x.1) → plc B r = q := by
  induction B with
  | nil => intro q hq _ _; simp at hq; subst hq; rfl
  | cons y B ih =>
    intro q hq h1 h2
    match q with
    | 0 =>
      have hy : ¬ key y.1 < key r := by have := h2 0 y (Nat.le_refl 0) (by simp); omega
      have := ih (q := 0) (Nat.zero_le _) (fun i x hi => absurd hi (by omega)) (fun i x _ hx => h2 (i + 1) x (by omega) (by simpa using hx))
      simp only [plc] at this ⊢
      rw [List.filter_cons_of_neg (by simpa using hy)]
      exact this
    | q + 1 =>
      have hy : key y.1 < key r := h1 0 y (by omega) (by simp)
      have := ih (q := q) (by simpa using hq) (fun i x hi hx => h1 (i + 1) x (by omega) (by simpa using hx)) (fun i x hi hx => h2 (i + 1) x (by omega) (by simpa using hx))
      simp only [plc] at this ⊢
      rw [List.filter_cons_of_pos (by simpa using hy)]
      simp [this]
theorem plc_split {B : Bg} (hs : srt B) (r : Row) : (∀ (i : Nat) (x : Row × Nat), i < plc B r → B[i]? = some x → key x.1 < key r) ∧ (∀ (i : Nat) (x : Row × Nat), plc B r ≤ i → B[i]? = some x → key r ≤ key x.1) := by
  induction B with
  | nil => exact ⟨fun i x _ h => by simp at h, fun i x _ h => by simp at h⟩
  | cons y B ih =>
    have h2 := ih (srt_tail hs)
    by_cases hy : key y.1 < key r
    · have e : plc (y :: B) r = plc B r + 1 := by simp only [plc]; rw [List.filter_cons_of_pos (by simpa using hy)]; rfl
      rw [e]
      refine ⟨fun i x hi hx => ?_, fun i x hi hx => ?_⟩
      · match i with
        | 0 => simp at hx; rw [← hx]; exact hy
        | i + 1 => exact h2.1 i x (by omega) (by simpa using hx)
      · match i with
        | 0 => omega
        | i + 1 => exact h2.2 i x (by omega) (by simpa using hx)
    · have hz : ∀ x ∈ B, ¬ key x.1 < key r := fun x hx => by have := srt_head hs hx; omega
      have e : plc (y :: B) r = 0 := by
        simp only [plc]; rw [List.filter_cons_of_neg (by simpa using hy), List.filter_eq_nil_iff.mpr (fun x hx => by simpa using hz x hx)]; rfl
      rw [e]
      refine ⟨fun i x hi => absurd hi (by omega), fun i x _ hx => ?_⟩
      match i with
      | 0 => simp at hx; rw [← hx]; omega
      | i + 1 => have := hz x (List.mem_of_getElem? (by simpa using hx)); omega
/-- the row's times, added to by m: none where the bounds are passed -/
def addB (r : Row) (m : Int) (B : Bg) : Option Bg :=
  match B[plc B r]? with
  | some x => if x.1 = r then (if 1000000000 < (x.2 : Int) + m then none else if (x.2 : Int) + m ≤ 0 then some (B.eraseIdx (plc B r)) else some (B.set (plc B r) (r, ((x.2 : Int) + m).toNat)))
    else if m ≤ 0 then some B else if 20 ≤ B.length ∨ 1000000000 < m then none else some (B.insertIdx (plc B r) (r, m.toNat))
  | none => if m ≤ 0 then some B else if 20 ≤ B.length ∨ 1000000000 < m then none else some (B.insertIdx (plc B r) (r, m.toNat))
