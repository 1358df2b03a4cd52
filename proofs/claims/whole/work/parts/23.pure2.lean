/-! arrays and bags -/
theorem rowAt_c {f h : Nat → Int32} {i j : Nat} (e : ∀ c, c < 4 → f (i + c) = h (j + c)) : rowAt f i = rowAt h j := by
  have e0 := e 0 (by omega); have e1 := e 1 (by omega); have e2 := e 2 (by omega); have e3 := e 3 (by omega)
  simp only [Nat.add_zero] at e0
  simp only [rowAt, e0, e1, e2, e3]
theorem rowAt_cpy_in {f h : Nat → Int32} {sp dp n i : Nat} (h1 : dp ≤ i) (h2 : i + 4 ≤ dp + n) : rowAt (va_cpy f h sp dp n) i = rowAt f (sp + (i - dp)) := rowAt_c (fun c hc => by
  rw [pk_cpy_in (by omega) (by omega)]; exact congrArg f (by omega))
theorem rowAt_cpy_out {f h : Nat → Int32} {sp dp n i : Nat} (h1 : i + 4 ≤ dp ∨ dp + n ≤ i) : rowAt (va_cpy f h sp dp n) i = rowAt h i := rowAt_c (fun c hc => by
  rw [pk_cpy_out (by omega)])
theorem rep_lt {B : Bg} {k : Nat} {x : Row × Nat} (h : B[k]? = some x) : k < B.length := (List.getElem?_eq_some_iff.mp h).1
theorem rep_erase {f t : Nat → Int32} {B : Bg} {k : Nat} (h : rep f t B) (hk : k < B.length) : rep (va_cpy f f (4 * k + 4) (4 * k) (4 * (B.length - 1 - k))) (va_cpy t t (k + 1) k (B.length - 1 - k)) (B.eraseIdx k) := by
  intro j x hx
  rw [List.getElem?_eraseIdx] at hx
  split at hx
  · rename_i hj
    rw [rowAt_cpy_out (by omega), pk_cpy_out (by omega)]
    exact h j x hx
  · rename_i hj
    have hl := rep_lt hx
    rw [rowAt_cpy_in (by omega) (by omega), pk_cpy_in (by omega) (by omega)]
    have := h (j + 1) x hx
    rw [show 4 * k + 4 + (4 * j - 4 * k) = 4 * (j + 1) by omega, show k + 1 + (j - k) = j + 1 by omega]
    exact this
theorem rep_set {f t : Nat → Int32} {B : Bg} {k m : Nat} {x : Row × Nat} (h : rep f t B) (hk : B[k]? = some x) : rep f (upd t k (nI m)) (B.set k (x.1, m)) := by
  intro j y hy
  rw [List.getElem?_set] at hy
  split at hy
  · rename_i hj
    split at hy
    · cases hy
      subst hj
      exact ⟨(h k x hk).1, pk_us⟩
    · cases hy
  · rename_i hj
    rw [pk_un (Ne.symm hj)]
    exact h j y hy
theorem rep_insert {f t rf : Nat → Int32} {B : Bg} {p m : Nat} (h : rep f t B) (hp : p ≤ B.length) : rep (va_cpy rf (va_cpy f f (4 * p) (4 * p + 4) (4 * (B.length - p))) 0 (4 * p) 4) (upd (va_cpy t t p (p + 1) (B.length - p)) p (nI m)) (B.insertIdx p (rowAt rf 0, m)) := by
  intro j x hx
  rw [List.getElem?_insertIdx] at hx
  split at hx
  · rename_i hj
    rw [rowAt_cpy_out (by omega), rowAt_cpy_out (by omega), pk_un (by omega), pk_cpy_out (by omega)]
    exact h j x hx
  · rename_i hj
    split at hx
    · rename_i hj2
      subst hj2
      split at hx
      · cases hx
        exact ⟨by rw [rowAt_cpy_in (by omega) (by omega)]; simp, pk_us⟩
      · first | (exfalso; omega) | cases hx
    · rename_i hj2
      have hl := rep_lt hx
      rw [rowAt_cpy_out (by omega), rowAt_cpy_in (by omega) (by omega), pk_un (by omega), pk_cpy_in (by omega) (by omega)]
      have := h (j - 1) x hx
      rw [show 4 * p + (4 * j - (4 * p + 4)) = 4 * (j - 1) by omega, show p + (j - (p + 1)) = j - 1 by omega]
      exact this
theorem rep_copy {f t f0 t0 : Nat → Int32} {B : Bg} (h : rep f t B) (hl : B.length ≤ 20) : rep (va_cpy f f0 0 0 80) (va_cpy t t0 0 0 20) B := by
  intro j x hx
  have hj := rep_lt hx
  rw [rowAt_cpy_in (by omega) (by omega), pk_cpy_in (by omega) (by omega)]
  simpa using h j x hx
/-! where the search from behind ends -/
theorem pbN_spec {f rf : Nat → Int32} {n : Nat} (hs : ∀ i j : Nat, i < j → j < n → key (rowAt f (4 * i)) < key (rowAt f (4 * j))) : ∀ p, p ≤ n → (∀ i, i < pbN f rf p → key (rowAt f (4 * i)) ≤ key (rowAt rf 0)) ∧ (∀ i, pbN f rf p ≤ i → i < p → key (rowAt rf 0) < key (rowAt f (4 * i))) := by
  intro p
  induction p with
  | zero => intro _; exact ⟨fun i hi => absurd hi (by simp [pbN]), fun i _ hi => absurd hi (by omega)⟩
  | succ p ih =>
    intro hp
    obtain ⟨h1, h2⟩ := ih (by omega)
    by_cases c : 0 < cmp4 f (4 * p) rf 0
    · rw [show pbN f rf (p + 1) = pbN f rf p from if_pos c]
      refine ⟨h1, fun i hi hlt => ?_⟩
      rcases Nat.lt_or_ge i p with q | q
      · exact h2 i hi q
      · rw [show i = p by omega]; exact (cmp4_p _ _ _ _).mp c
    · rw [show pbN f rf (p + 1) = p + 1 from if_neg c]
      have c2 : key (rowAt f (4 * p)) ≤ key (rowAt rf 0) := Int.not_lt.mp (fun q => c ((cmp4_p _ _ _ _).mpr q))
      refine ⟨fun i hi => ?_, fun i hi hlt => absurd hlt (by omega)⟩
      rcases Nat.lt_or_ge i p with q | q
      · have := hs i p q (by omega); omega
      · rw [show i = p by omega]; exact c2
theorem rep_srt {f t : Nat → Int32} {B : Bg} (h : rep f t B) (hs : srt B) : ∀ i j : Nat, i < j → j < B.length → key (rowAt f (4 * i)) < key (rowAt f (4 * j)) := fun i j hij hj => by
  have ei : B[i]? = some B[i] := List.getElem?_eq_getElem (by omega)
  have ej : B[j]? = some B[j] := List.getElem?_eq_getElem hj
  rw [(h i _ ei).1, (h j _ ej).1]
  exact hs i j hij _ _ ei ej
/-- the row stands in the bag: then the search ends behind it -/
theorem pb_in {f t rf : Nat → Int32} {B : Bg} (h : rep f t B) (hs : srt B) {x : Row × Nat} (hx : B[plc B (rowAt rf 0)]? = some x) (he : x.1 = rowAt rf 0) : pbN f rf B.length = plc B (rowAt rf 0) + 1 := by
  obtain ⟨h1, h2⟩ := pbN_spec (rf := rf) (rep_srt h hs) B.length (Nat.le_refl _)
  have hl := rep_lt hx
  have hle := pbN_le f rf B.length
  have hq := (h _ x hx).1
  rcases Nat.lt_or_ge (plc B (rowAt rf 0)) (pbN f rf B.length) with q | q
  · rcases Nat.lt_or_ge (plc B (rowAt rf 0) + 1) (pbN f rf B.length) with q2 | q2
    · have a := h1 (plc B (rowAt rf 0) + 1) q2
      have b := rep_srt h hs (plc B (rowAt rf 0)) (plc B (rowAt rf 0) + 1) (by omega) (by omega)
      rw [hq, he] at b; omega
    · omega
  · have a := h2 (plc B (rowAt rf 0)) q hl
    rw [hq, he] at a; omega
theorem pb_out {f t rf : Nat → Int32} {B : Bg} (h : rep f t B) (hs : srt B) (hx : ∀ x, B[plc B (rowAt rf 0)]? = some x → x.1 ≠ rowAt rf 0) : pbN f rf B.length = plc B (rowAt rf 0) := by
  obtain ⟨h1, h2⟩ := pbN_spec (rf := rf) (rep_srt h hs) B.length (Nat.le_refl _)
  obtain ⟨s1, s2⟩ := plc_split hs (rowAt rf 0)
  have hle := pbN_le f rf B.length
  have hpl := plc_le B (rowAt rf 0)
  rcases Nat.lt_trichotomy (pbN f rf B.length) (plc B (rowAt rf 0)) with q | q | q
  · have e : B[pbN f rf B.length]? = some B[pbN f rf B.length] := List.getElem?_eq_getElem (by omega)
    have a := h2 (pbN f rf B.length) (Nat.le_refl _) (by omega)
    have b := s1 _ _ q e
    rw [(h _ _ e).1] at a; omega
  · exact q
  · have e : B[plc B (rowAt rf 0)]? = some B[plc B (rowAt rf 0)] := List.getElem?_eq_getElem (by omega)
    have a := h1 _ q
    have b := s2 _ _ (Nat.le_refl _) e
    rw [(h _ _ e).1] at a
    exact absurd (key_inj (by omega)) (hx _ e)
theorem atP_in {f t rf : Nat → Int32} {B : Bg} (h : rep f t B) (hs : srt B) {x : Row × Nat} (hx : B[plc B (rowAt rf 0)]? = some x) (he : x.1 = rowAt rf 0) : atP f rf (pbN f rf B.length) = true := by
  rw [pb_in h hs hx he]
  have := (h _ x hx).1.trans he
  simp [atP, (cmp4_0 f rf (4 * plc B (rowAt rf 0)) 0).mpr this]
theorem atP_out {f t rf : Nat → Int32} {B : Bg} (h : rep f t B) (hs : srt B) (hx : ∀ x, B[plc B (rowAt rf 0)]? = some x → x.1 ≠ rowAt rf 0) : atP f rf (pbN f rf B.length) = false := by
  rw [pb_out h hs hx]
  rcases Nat.eq_zero_or_pos (plc B (rowAt rf 0)) with q | q
  · simp [atP, q]
  · have hpl := plc_le B (rowAt rf 0)
    have e : B[plc B (rowAt rf 0) - 1]? = some B[plc B (rowAt rf 0) - 1] := List.getElem?_eq_getElem (by omega)
    have a := (plc_split hs (rowAt rf 0)).1 _ _ (by omega) e
    have b : ¬ cmp4 f (4 * (plc B (rowAt rf 0) - 1)) rf 0 = 0 := fun z => by
      have := (cmp4_0 _ _ _ _).mp z
      rw [(h _ _ e).1] at this
      rw [this] at a; omega
    simp [atP, b]
theorem timesAt_eq {f t rf : Nat → Int32} {B : Bg} (h : rep f t B) (hs : srt B) : timesAt f t rf B.length = nI (tms B (rowAt rf 0)) := by
  rcases hq : B[plc B (rowAt rf 0)]? with _ | x
  · rw [timesAt, if_neg (by rw [atP_out h hs (fun x hx => by rw [hq] at hx; cases hx)]; decide), tms, hq]; rfl
  · by_cases he : x.1 = rowAt rf 0
    · rw [timesAt, if_pos (atP_in h hs hq he), pb_in h hs hq he, tms, hq]
      simp only [he, if_true]
      exact (h _ x hq).2
    · rw [timesAt, if_neg (by rw [atP_out h hs (fun y hy => by rw [hq] at hy; cases hy; exact he)]; decide), tms, hq]
      simp only [he, if_false]
      rfl
/-- the bag B stands at b, with its cells at ca and its times at oa -/
def bagR (K : Cst) (g : Wd) (b ca oa : Nat) (B : Bg) : Prop := ∃ cf tf, isBag K g b ca oa B.length cf tf ∧ rep cf tf B
def good (B : Bg) : Prop := srt B ∧ fine B
