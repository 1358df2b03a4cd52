/-! what changes at the relation r alone -/
def Kp (r : Nat) (F F' : Nat → Nat → Int32) : Prop := (∀ j, j < 11 → F' j = F j) ∧ (∀ q, q ≠ r → F' 13 q = F 13 q) ∧ (∀ j, (j < 80 * r ∨ 80 * r + 80 ≤ j) → F' 11 j = F 11 j) ∧ (∀ j, (j < 20 * r ∨ 20 * r + 20 ≤ j) → F' 12 j = F 12 j)
theorem Kp.rf (r : Nat) (F : Nat → Nat → Int32) : Kp r F F := ⟨fun _ _ => rfl, fun _ _ => rfl, fun _ _ => rfl, fun _ _ => rfl⟩
theorem Kp.tr {r : Nat} {F G H : Nat → Nat → Int32} (h1 : Kp r F G) (h2 : Kp r G H) : Kp r F H := ⟨fun j hj => (h2.1 j hj).trans (h1.1 j hj), fun q hq => (h2.2.1 q hq).trans (h1.2.1 q hq), fun j hj => (h2.2.2.1 j hj).trans (h1.2.2.1 j hj), fun j hj => (h2.2.2.2 j hj).trans (h1.2.2.2 j hj)⟩
theorem Kp.row {F G : Nat → Nat → Int32} (h : ∀ j, j ≠ 14 → G j = F j) (r : Nat) : Kp r F G := ⟨fun j hj => h j (by omega), fun q _ => congrFun (h 13 (by decide)) q, fun j _ => congrFun (h 11 (by decide)) j, fun j _ => congrFun (h 12 (by decide)) j⟩
theorem Kp.nb {r q : Nat} {F F' : Nat → Nat → Int32} {B : Bg} (h : Kp r F F') (hq : q ≠ r) (hB : NB F q B) (hl : B.length ≤ 20) : NB F' q B :=
  ⟨(h.2.1 q hq).trans hB.1, repA_cg hB.2 hl (fun j h1 h2 => h.2.2.1 j (by omega)) (fun j h1 h2 => h.2.2.2 j (by omega))⟩
theorem Kp.ob {r q : Nat} {F F' : Nat → Nat → Int32} {B : Bg} (h : Kp r F F') (hB : OB F q B) : OB F' q B := by
  unfold OB at hB ⊢
  rw [h.1 10 (by decide), h.1 8 (by decide), h.1 9 (by decide)]
  exact hB
theorem NB.row {r : Nat} {F G : Nat → Nat → Int32} {B : Bg} (h : ∀ j, j ≠ 14 → G j = F j) (hB : NB F r B) : NB G r B := by
  unfold NB at hB ⊢
  rw [h 13 (by decide), h 11 (by decide), h 12 (by decide)]
  exact hB
theorem repA_set {r : Nat} {f t : Nat → Int32} {B : Bg} {k m : Nat} {x : Row × Nat} (h : repA r f t B) (hk : B[k]? = some x) : repA r f (upd t (20 * r + k) (nI m)) (B.set k (x.1, m)) := by
  intro j y hy
  rw [List.getElem?_set] at hy
  split at hy
  · rename_i hj
    split at hy
    · cases hy
      subst hj
      exact ⟨(h k x hk).1, pk_us⟩
    · cases hy
  · rename_i hj
    rw [pk_un (by omega)]
    exact h j y hy
theorem repA_erase {r : Nat} {f t : Nat → Int32} {B : Bg} {k : Nat} (h : repA r f t B) (hk : k < B.length) : repA r (va_cpy f f (80 * r + 4 * k + 4) (80 * r + 4 * k) (4 * (B.length - 1 - k))) (va_cpy t t (20 * r + k + 1) (20 * r + k) (B.length - 1 - k)) (B.eraseIdx k) := by
  intro j x hx
  rw [List.getElem?_eraseIdx] at hx
  split at hx
  · rename_i hj
    rw [rowAt_cpy_out (by omega), pk_cpy_out (by omega)]
    exact h j x hx
  · rename_i hj
    have hl := rep_lt hx
    rw [rowAt_cpy_in (by omega) (by omega), pk_cpy_in (by omega) (by omega)]
    have := h (j + 1) x hx
    rw [show 80 * r + 4 * k + 4 + (80 * r + 4 * j - (80 * r + 4 * k)) = 80 * r + 4 * (j + 1) by omega, show 20 * r + k + 1 + (20 * r + j - (20 * r + k)) = 20 * r + (j + 1) by omega]
    exact this
theorem repA_ins {r : Nat} {f t f' t' : Nat → Int32} {B : Bg} {p : Nat} {x : Row × Nat} (h : repA r f t B) (hp : p ≤ B.length)
    (e1 : ∀ i, i < 80 * r + 4 * p → f' i = f i) (e2 : ∀ i, i < 20 * r + p → t' i = t i) (e3 : rowAt f' (80 * r + 4 * p) = x.1 ∧ t' (20 * r + p) = nI x.2)
    (e4 : ∀ i, 80 * r + 4 * p ≤ i → i < 80 * r + 4 * B.length → f' (i + 4) = f i) (e5 : ∀ i, 20 * r + p ≤ i → i < 20 * r + B.length → t' (i + 1) = t i) : repA r f' t' (B.insertIdx p x) := by
  intro j y hy
  have hl := rep_lt hy
  rw [List.length_insertIdx, if_pos hp] at hl
  rw [List.getElem?_insertIdx] at hy
  split at hy
  · rename_i hj
    rw [e2 _ (by omega), rowAt_c (fun c hc => e1 _ (by omega))]
    exact h j y hy
  · split at hy
    · rename_i h1 h2
      subst h2
      rw [if_pos hp] at hy
      cases hy
      exact e3
    · rename_i h1 h2
      obtain ⟨i, rfl⟩ : ∃ i, j = i + 1 := ⟨j - 1, by omega⟩
      have := h i y (by simpa using hy)
      refine ⟨?_, ?_⟩
      · rw [← this.1]
        exact rowAt_c (fun c hc => by rw [show 80 * r + 4 * (i + 1) + c = 80 * r + 4 * i + c + 4 by omega]; exact e4 _ (by omega) (by omega))
      · rw [← this.2, show 20 * r + (i + 1) = 20 * r + i + 1 by omega]; exact e5 _ (by omega) (by omega)
/-! rows shifted one by one -/
theorem sh_t {t : Nat → Int32} {a n : Nat} : upd (va_cpy t t (a + 1) (a + 2) n) (a + 1) (va_cpy t t (a + 1) (a + 2) n a) = va_cpy t t a (a + 1) (n + 1) := by
  funext i
  by_cases e : i = a + 1
  · subst e; rw [pk_us, pk_cpy_out (by omega), pk_cpy_in (by omega) (by omega)]; exact congrArg t (by omega)
  · rw [pk_un e]
    by_cases e2 : a + 2 ≤ i ∧ i < a + 2 + n
    · rw [pk_cpy_in (by omega) (by omega), pk_cpy_in (by omega) (by omega)]; exact congrArg t (by omega)
    · rw [pk_cpy_out (by omega), pk_cpy_out (by omega)]
theorem sh_c {E : Nat → Int32} {s c : Nat} (hc : c < 4) : upd (va_cpy E E s (s + 4) c) (s + 4 + c) (va_cpy E E s (s + 4) c (s + c)) = va_cpy E E s (s + 4) (c + 1) := by
  funext i
  by_cases e : i = s + 4 + c
  · subst e; rw [pk_us, pk_cpy_out (by omega), pk_cpy_in (by omega) (by omega)]; exact congrArg E (by omega)
  · rw [pk_un e]
    by_cases e2 : s + 4 ≤ i ∧ i < s + 4 + c
    · rw [pk_cpy_in (by omega) (by omega), pk_cpy_in (by omega) (by omega)]
    · rw [pk_cpy_out (by omega), pk_cpy_out (by omega)]
theorem sh_4 {f : Nat → Int32} {s n : Nat} : va_cpy (va_cpy f f (s + 4) (s + 8) n) (va_cpy f f (s + 4) (s + 8) n) s (s + 4) 4 = va_cpy f f s (s + 4) (n + 4) := by
  funext i
  by_cases e2 : s + 4 ≤ i ∧ i < s + 8
  · rw [pk_cpy_in (by omega) (by omega), pk_cpy_out (by omega), pk_cpy_in (by omega) (by omega)]
  · rw [pk_cpy_out (by omega)]
    by_cases e3 : s + 8 ≤ i ∧ i < s + 8 + n
    · rw [pk_cpy_in (by omega) (by omega), pk_cpy_in (by omega) (by omega)]; exact congrArg f (by omega)
    · rw [pk_cpy_out (by omega), pk_cpy_out (by omega)]
theorem sd_t {t : Nat → Int32} {a n : Nat} : upd (va_cpy t t (a + 1) a n) (a + n) (va_cpy t t (a + 1) a n (a + n + 1)) = va_cpy t t (a + 1) a (n + 1) := by
  funext i
  by_cases e : i = a + n
  · subst e; rw [pk_us, pk_cpy_out (by omega), pk_cpy_in (by omega) (by omega)]; exact congrArg t (by omega)
  · rw [pk_un e]
    by_cases e2 : a ≤ i ∧ i < a + n
    · rw [pk_cpy_in (by omega) (by omega), pk_cpy_in (by omega) (by omega)]
    · rw [pk_cpy_out (by omega), pk_cpy_out (by omega)]
theorem sd_c {E : Nat → Int32} {s c : Nat} (hc : c < 4) : upd (va_cpy E E (s + 4) s c) (s + c) (va_cpy E E (s + 4) s c (s + 4 + c)) = va_cpy E E (s + 4) s (c + 1) := by
  funext i
  by_cases e : i = s + c
  · subst e; rw [pk_us, pk_cpy_out (by omega), pk_cpy_in (by omega) (by omega)]; exact congrArg E (by omega)
  · rw [pk_un e]
    by_cases e2 : s ≤ i ∧ i < s + c
    · rw [pk_cpy_in (by omega) (by omega), pk_cpy_in (by omega) (by omega)]
    · rw [pk_cpy_out (by omega), pk_cpy_out (by omega)]
theorem sd_4 {f : Nat → Int32} {b n : Nat} : va_cpy (va_cpy f f (b + 4) b n) (va_cpy f f (b + 4) b n) (b + n + 4) (b + n) 4 = va_cpy f f (b + 4) b (n + 4) := by
  funext i
  by_cases e2 : b + n ≤ i ∧ i < b + n + 4
  · rw [pk_cpy_in (by omega) (by omega), pk_cpy_out (by omega), pk_cpy_in (by omega) (by omega)]; exact congrArg f (by omega)
  · rw [pk_cpy_out (by omega)]
    by_cases e3 : b ≤ i ∧ i < b + n
    · rw [pk_cpy_in (by omega) (by omega), pk_cpy_in (by omega) (by omega)]
    · rw [pk_cpy_out (by omega), pk_cpy_out (by omega)]
/-- a bag that may be beyond hope, but keeps its places -/
def wk (w : Nat) (B : Bg) : Prop := srt B ∧ zw w B ∧ B.length ≤ 20 ∧ ∀ x ∈ B, x.2 ≤ 1000000000
theorem good.wk {w : Nat} {B : Bg} (h : good B) (hz : zw w B) : wk w B := ⟨h.1, hz, h.2.1, fun x hx => (h.2.2 x hx).2⟩
theorem trunc_id {w : Nat} (h0 : 0 < w) {r : Row} (h : zr w r) : truncR w r = r := (trunc_eq h0 h (fun _ _ _ => rfl)).symm
theorem wk_set {w : Nat} {B : Bg} {k m : Nat} {x : Row × Nat} (h : wk w B) (hk : B[k]? = some x) (hm : m ≤ 1000000000) : wk w (B.set k (x.1, m)) := by
  have hx : x ∈ B := List.mem_of_getElem? hk
  refine ⟨srt_set h.1 hk, fun y hy => ?_, by rw [List.length_set]; exact h.2.2.1, fun y hy => ?_⟩
  · rcases List.mem_or_eq_of_mem_set hy with q | q
    · exact h.2.1 y q
    · subst q; exact h.2.1 x hx
  · rcases List.mem_or_eq_of_mem_set hy with q | q
    · exact h.2.2.2 y q
    · subst q; exact hm
theorem wk_ins {w : Nat} {B : Bg} {m : Nat} {r : Row} (h : wk w B) (hx : ∀ x, B[plc B r]? = some x → x.1 ≠ r) (hr : zr w r) (hl : B.length < 20) (hm : m ≤ 1000000000) : wk w (B.insertIdx (plc B r) (r, m)) := by
  refine ⟨srt_insert h.1 hx, fun y hy => ?_, by rw [List.length_insertIdx, if_pos (plc_le B r)]; omega, fun y hy => ?_⟩
  · rcases (List.mem_insertIdx (plc_le B r)).mp hy with q | q
    · subst q; exact hr
    · exact h.2.1 y q
  · rcases (List.mem_insertIdx (plc_le B r)).mp hy with q | q
    · subst q; exact hm
    · exact h.2.2.2 y q
theorem wk_erase {w : Nat} {B : Bg} {k : Nat} (h : wk w B) : wk w (B.eraseIdx k) :=
  ⟨srt_erase h.1 k, fun y hy => h.2.1 y (List.mem_of_mem_eraseIdx hy), Nat.le_trans (List.length_eraseIdx_le _ _) h.2.2.1, fun y hy => h.2.2.2 y (List.mem_of_mem_eraseIdx hy)⟩
