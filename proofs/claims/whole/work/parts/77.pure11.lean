/-! rows in the arrays a (cells), b (times), c (counts) -/
def rp (a b c : Nat) (F : Nat → Nat → Int32) (r : Nat) (B : Bg) : Prop := F c r = nI B.length ∧ repA r (F a) (F b) B
def Kg (a b c r : Nat) (F F' : Nat → Nat → Int32) : Prop := (∀ j, j ≠ a → j ≠ b → j ≠ c → F' j = F j) ∧ (∀ q, q ≠ r → F' c q = F c q) ∧ (∀ j, (j < 80 * r ∨ 80 * r + 80 ≤ j) → F' a j = F a j) ∧ (∀ j, (j < 20 * r ∨ 20 * r + 20 ≤ j) → F' b j = F b j)
theorem Kg.rf (a b c r : Nat) (F : Nat → Nat → Int32) : Kg a b c r F F := ⟨fun _ _ _ _ => rfl, fun _ _ => rfl, fun _ _ => rfl, fun _ _ => rfl⟩
theorem Kg.tr {a b c r : Nat} {F G H : Nat → Nat → Int32} (h1 : Kg a b c r F G) (h2 : Kg a b c r G H) : Kg a b c r F H := ⟨fun j x y z => (h2.1 j x y z).trans (h1.1 j x y z), fun q hq => (h2.2.1 q hq).trans (h1.2.1 q hq), fun j hj => (h2.2.2.1 j hj).trans (h1.2.2.1 j hj), fun j hj => (h2.2.2.2 j hj).trans (h1.2.2.2 j hj)⟩
theorem Kg.nb {a b c r q : Nat} {F F' : Nat → Nat → Int32} {B : Bg} (h : Kg a b c r F F') (hq : q ≠ r) (hB : rp a b c F q B) (hl : B.length ≤ 20) : rp a b c F' q B :=
  ⟨(h.2.1 q hq).trans hB.1, repA_cg hB.2 hl (fun j h1 h2 => h.2.2.1 j (by omega)) (fun j h1 h2 => h.2.2.2 j (by omega))⟩
theorem repA_of {r : Nat} {f t f' t' : Nat → Int32} {B : Bg} (h : repA r f t B) (e : ∀ i, i < B.length → t' (20 * r + i) = t (20 * r + i) ∧ ∀ c, c < 4 → f' (80 * r + 4 * i + c) = f (80 * r + 4 * i + c)) : repA r f' t' B := fun k x hx => by
  have hk := rep_lt hx
  obtain ⟨h1, h2⟩ := h k x hx
  exact ⟨by rw [← h1]; exact rowAt_c (fun c hc => (e k hk).2 c hc), by rw [(e k hk).1]; exact h2⟩
theorem difI_sym {A C : Bg} : ∀ (m i j : Nat), difI A C m i j = difI C A m j i := by
  intro m
  induction m with
  | zero => intro i j; unfold difI; omega
  | succ m ih =>
    intro i j
    by_cases hi : i < A.length
    · by_cases hj : j < C.length
      · unfold difI
        rw [List.getElem?_eq_getElem hi, List.getElem?_eq_getElem hj]
        simp only
        by_cases h1 : key A[i].1 < key C[j].1
        · rw [if_pos h1, if_neg (by omega), if_pos h1, ih]
        · by_cases h2 : key C[j].1 < key A[i].1
          · rw [if_neg h1, if_pos h2, if_pos h2, ih]
          · rw [if_neg h1, if_neg h2, if_neg h2, if_neg h1, ih]
            by_cases h3 : A[i].2 = C[j].2
            · rw [if_pos h3, if_pos h3.symm]
            · rw [if_neg h3, if_neg (fun q => h3 q.symm)]
      · rw [difI_end _ (Or.inr (by omega)), difI_end _ (Or.inl (by omega))]; omega
    · rw [difI_end _ (Or.inl (by omega)), difI_end _ (Or.inr (by omega))]; omega
theorem dif_sym (A C : Bg) : dif A C = dif C A := by unfold dif; rw [difI_sym, Nat.add_comm]
theorem difI_lt {A C : Bg} {m i j : Nat} (hi : i < A.length) (hj : j < C.length) (h : key A[i].1 < key C[j].1) : difI A C (m + 1) i j = 1 + difI A C m (i + 1) j := by
  show (match A[i]?, C[j]? with | some x, some y => _ | _, _ => _) = _
  rw [List.getElem?_eq_getElem hi, List.getElem?_eq_getElem hj]
  simp only
  rw [if_pos h]
theorem difI_gt {A C : Bg} {m i j : Nat} (hi : i < A.length) (hj : j < C.length) (h : key C[j].1 < key A[i].1) : difI A C (m + 1) i j = 1 + difI A C m i (j + 1) := by
  show (match A[i]?, C[j]? with | some x, some y => _ | _, _ => _) = _
  rw [List.getElem?_eq_getElem hi, List.getElem?_eq_getElem hj]
  simp only
  rw [if_neg (by omega), if_pos h]
theorem difI_eq {A C : Bg} {m i j : Nat} (hi : i < A.length) (hj : j < C.length) (h : A[i].1 = C[j].1) : difI A C (m + 1) i j = (if A[i].2 = C[j].2 then 0 else 1) + difI A C m (i + 1) (j + 1) := by
  show (match A[i]?, C[j]? with | some x, some y => _ | _, _ => _) = _
  rw [List.getElem?_eq_getElem hi, List.getElem?_eq_getElem hj]
  simp only
  rw [h, if_neg (by omega), if_neg (by omega)]
theorem plc_at {B : Bg} (hs : srt B) {k : Nat} {x : Row × Nat} (hx : B[k]? = some x) : plc B x.1 = k := by
  have hk := rep_lt hx
  refine plc_of (by omega) (fun i y hi hy => hs i k hi y x hy hx) (fun i y hi hy => ?_)
  rcases Nat.eq_or_lt_of_le hi with e | e
  · subst e; rw [hx] at hy; cases hy; exact Int.le_refl _
  · exact Int.le_of_lt (hs k i e x y hx hy)
theorem tms_at {B : Bg} (hs : srt B) {k : Nat} {x : Row × Nat} (hx : B[k]? = some x) : tms B x.1 = x.2 := by
  unfold tms
  rw [plc_at hs hx, hx]
  simp
theorem tms_no {B : Bg} {T : Row} (h : ∀ (k : Nat) (x : Row × Nat), B[k]? = some x → x.1 ≠ T) : tms B T = 0 := by
  unfold tms
  cases hx : B[plc B T]? with
  | none => rfl
  | some x => simp only; rw [if_neg (h _ x hx)]
/-! the order in which the relations came -/
def OdR (oc : Int32) (f : Nat → Int32) (Od : List Nat) : Prop := oc = nI Od.length ∧ ∀ k x, Od[k]? = some x → f k = nI x
theorem od_len {Od : List Nat} (h1 : Od.Nodup) (h2 : ∀ x ∈ Od, x < 8) : Od.length ≤ 8 := Classical.byContradiction fun z => by
  obtain ⟨a, b, hab, hb, e⟩ := php 8 (fun d => Od[d]?.getD 0) (fun d hd => by
    show Od[d]?.getD 0 < 8
    rw [List.getElem?_eq_getElem (by omega)]
    exact h2 _ (List.getElem_mem _))
  rw [List.getElem?_eq_getElem (by omega), List.getElem?_eq_getElem (by omega)] at e
  have := (List.getElem_inj h1).mp (show Od[a] = Od[b] from e)
  omega
theorem od_lt {Od : List Nat} {v : Nat} (h1 : Od.Nodup) (h2 : ∀ x ∈ Od, x < 8) (hv : v < 8) (h3 : v ∉ Od) : Od.length < 8 := by
  have := od_len (Od := v :: Od) (List.nodup_cons.mpr ⟨h3, h1⟩) (fun x hx => by
    rcases List.mem_cons.mp hx with q | q
    · omega
    · exact h2 x q)
  rw [List.length_cons] at this
  omega
def flt (Od : List Nat) (k v : Nat) : List Nat := (Od.take k).filter (· ≠ v)
theorem flt_snoc {Od : List Nat} {k v : Nat} (hk : k < Od.length) : flt Od (k + 1) v = flt Od k v ++ (if Od[k] ≠ v then [Od[k]] else []) := by
  unfold flt
  rw [List.take_add_one, List.getElem?_eq_getElem hk, List.filter_append]
  simp only [Option.toList, List.filter_cons, List.filter_nil]
  congr 1
  by_cases h : Od[k] ≠ v
  · rw [if_pos h]; simp [h]
  · rw [if_neg h]; simp [h]
theorem flt_len (Od : List Nat) (k v : Nat) : (flt Od k v).length ≤ k := Nat.le_trans (List.length_filter_le _ _) (by rw [List.length_take]; omega)
theorem flt_all {Od : List Nat} {k : Nat} (v : Nat) (h : Od.length ≤ k) : flt Od k v = Od.filter (· ≠ v) := by unfold flt; rw [List.take_of_length_le h]
theorem flt_0 (Od : List Nat) (v : Nat) : flt Od 0 v = [] := rfl
