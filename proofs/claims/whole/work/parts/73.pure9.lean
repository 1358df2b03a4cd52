/-! rows compared by their first columns -/
theorem cellR_trunc {w : Nat} (h0 : 0 < w) {r : Row} {c : Nat} (hc : c < 4) : cellR (truncR w r) c = if c < w then cellR r c else 0 := by
  rcases (show c = 0 ∨ c = 1 ∨ c = 2 ∨ c = 3 by omega) with e | e | e | e <;> subst e
  · rw [if_pos h0]; rfl
  · rfl
  · rfl
  · rfl
theorem row_ext {x y : Row} (h : ∀ c, c < 4 → cellR x c = cellR y c) : x = y := by
  have h0 := h 0 (by decide); have h1 := h 1 (by decide); have h2 := h 2 (by decide); have h3 := h 3 (by decide)
  obtain ⟨a, b, c, d⟩ := x
  obtain ⟨a', b', c', d'⟩ := y
  have e0 : a = a' := h0
  have e1 : b = b' := h1
  have e2 : c = c' := h2
  have e3 : d = d' := h3
  rw [e0, e1, e2, e3]
theorem key_lt {x y : Row} {c : Nat} (hc : c < 4) (he : ∀ z, z < c → cellR x z = cellR y z) (hl : (cellR x c).toInt < (cellR y c).toInt) : key x < key y := by
  obtain ⟨a, b, d, e⟩ := x
  obtain ⟨a', b', d', e'⟩ := y
  have p1 := i32_bd a; have p2 := i32_bd b; have p3 := i32_bd d; have p4 := i32_bd e
  have q1 := i32_bd a'; have q2 := i32_bd b'; have q3 := i32_bd d'; have q4 := i32_bd e'
  rcases (show c = 0 ∨ c = 1 ∨ c = 2 ∨ c = 3 by omega) with z | z | z | z <;> subst z
  · have : a.toInt < a'.toInt := hl
    simp only [key]; omega
  · have h0 : a = a' := he 0 (by decide)
    have : b.toInt < b'.toInt := hl
    subst h0
    simp only [key]; omega
  · have h0 : a = a' := he 0 (by decide)
    have h1 : b = b' := he 1 (by decide)
    have : d.toInt < d'.toInt := hl
    subst h0; subst h1
    simp only [key]; omega
  · have h0 : a = a' := he 0 (by decide)
    have h1 : b = b' := he 1 (by decide)
    have h2 : d = d' := he 2 (by decide)
    have : e.toInt < e'.toInt := hl
    subst h0; subst h1; subst h2
    simp only [key]; omega
/-- x has nothing behind w columns: its first w cells say how it stands to the row r, cut to w -/
theorem trunc_eq {w : Nat} (h0 : 0 < w) {x r : Row} (hx : zr w x) (he : ∀ c, c < w → c < 4 → cellR x c = cellR r c) : x = truncR w r := row_ext fun c hc => by
  rw [cellR_trunc h0 hc]
  by_cases h : c < w
  · rw [if_pos h]; exact he c h hc
  · rw [if_neg h]; exact hx c (by omega) hc
theorem trunc_lt {w : Nat} (h0 : 0 < w) {x r : Row} {c : Nat} (hc : c < w) (h4 : c < 4) (he : ∀ z, z < c → cellR x z = cellR r z) (hl : cellR x c < cellR r c) : key x < key (truncR w r) := by
  refine key_lt h4 (fun z hz => ?_) ?_
  · rw [cellR_trunc h0 (by omega), if_pos (by omega)]; exact he z hz
  · rw [cellR_trunc h0 h4, if_pos hc]; exact Int32.lt_iff_toInt_lt.mp hl
theorem trunc_gt {w : Nat} (h0 : 0 < w) {x r : Row} {c : Nat} (hc : c < w) (h4 : c < 4) (he : ∀ z, z < c → cellR x z = cellR r z) (hl : cellR r c < cellR x c) : key (truncR w r) < key x := by
  refine key_lt h4 (fun z hz => ?_) ?_
  · rw [cellR_trunc h0 (by omega), if_pos (by omega)]; exact (he z hz).symm
  · rw [cellR_trunc h0 h4, if_pos hc]; exact Int32.lt_iff_toInt_lt.mp hl
theorem rowAt_cell {f : Nat → Int32} {c : Nat} (hc : c < 4) : f c = cellR (rowAt f 0) c := by
  have := cellR_at (f := f) (i := 0) hc
  rw [Nat.zero_add] at this
  exact this
