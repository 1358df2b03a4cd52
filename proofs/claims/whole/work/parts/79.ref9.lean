/-! what the reference's arrays mean -/
def isB (kd : Nat) : Prop := kd = 4 ∨ kd = 5 ∨ kd = 6
def RVi (A : Ab) (F : Nat → Nat → Int32) (i : Nat) : Prop := F 2 i = nI (al A i) ∧ (isB (ak A i) → F 3 i = nI (ar A i)) ∧ (¬ isB (ak A i) → F 3 i = -1 ∧ ar A i = al A i) ∧ (∀ j, j < cntK (ak A i) → F 4 (4 * i + j) = an A i j) ∧ (ak A i = 2 → F 5 i = b01 (ao A i))
def RAi (A : Ab) (F : Nat → Nat → Int32) (i : Nat) : Prop := (F 0 i = nI (ak A i) ∧ F 1 i = nI (aw A i)) ∧ OB F i (aB A i) ∧ (0 < ak A i → F 7 i = nI (ac A i)) ∧ (2 ≤ ak A i → RVi A F i)
def RO (A : Ab) (Od : List Nat) : Prop := Od.Nodup ∧ (∀ x ∈ Od, x < 8) ∧ (∀ i, i < 8 → (i ∈ Od ↔ 0 < ak A i)) ∧ ∀ x ∈ Od, 2 ≤ ak A x → ∃ l1 l2, Od = l1 ++ x :: l2 ∧ al A x ∈ l1 ∧ ar A x ∈ l1
def RA (A : Ab) (Od : List Nat) (F : Nat → Nat → Int32) : Prop := RO A Od ∧ (∀ (k x : Nat), Od[k]? = some x → F 6 k = nI x) ∧ ∀ i, i < 8 → RAi A F i
def RX (K : Cst) (g : Wd) (m : Nat) (th : Int32) (A : Ab) : Prop := ∃ (Q : Nat → Nat) (Od : List Nat) (fi : Int32) (F : Nat → Nat → Int32), RS K g m Q th (nI Od.length) fi F ∧ RA A Od F
theorem RO.len {A : Ab} {Od : List Nat} (h : RO A Od) : Od.length ≤ 8 := od_len h.1 h.2.1
theorem cntK_le (kd : Nat) : cntK kd ≤ 4 := by unfold cntK; split <;> decide
theorem RVi.cg {A A' : Ab} {F G : Nat → Nat → Int32} {i : Nat} (h : RVi A F i) (e : ak A' i = ak A i ∧ al A' i = al A i ∧ ar A' i = ar A i ∧ an A' i = an A i ∧ ao A' i = ao A i) (h2 : G 2 i = F 2 i) (h3 : G 3 i = F 3 i) (h4 : ∀ j, j < 4 → G 4 (4 * i + j) = F 4 (4 * i + j)) (h5 : G 5 i = F 5 i) : RVi A' G i := by
  obtain ⟨e1, e2, e3, e4, e5⟩ := e
  unfold RVi at h ⊢
  rw [e1, e2, e3, e4, e5, h2, h3, h5]
  exact ⟨h.1, h.2.1, h.2.2.1, fun j hj => by rw [h4 j (Nat.lt_of_lt_of_le hj (cntK_le _))]; exact h.2.2.2.1 j hj, h.2.2.2.2⟩
/-- the relation i stays as it is where nothing of it changed -/
theorem RAi.cg {A A' : Ab} {F G : Nat → Nat → Int32} {i : Nat} (h : RAi A F i) (e : ak A' i = ak A i ∧ al A' i = al A i ∧ ar A' i = ar A i ∧ an A' i = an A i ∧ ao A' i = ao A i) (ew : aw A' i = aw A i) (ec : ac A' i = ac A i) (hB : OB G i (aB A' i)) (h0 : G 0 i = F 0 i) (h1 : G 1 i = F 1 i) (h2 : G 2 i = F 2 i) (h3 : G 3 i = F 3 i) (h4 : ∀ j, j < 4 → G 4 (4 * i + j) = F 4 (4 * i + j)) (h5 : G 5 i = F 5 i) (h7 : G 7 i = F 7 i) : RAi A' G i := by
  refine ⟨⟨?_, ?_⟩, hB, fun k => ?_, fun k => (h.2.2.2 (by rw [← e.1]; exact k)).cg e h2 h3 h4 h5⟩
  · rw [h0, e.1]; exact h.1.1
  · rw [h1, ew]; exact h.1.2
  · rw [h7, ec]; exact h.2.2.1 (by rw [← e.1]; exact k)
theorem RAi.vd {A : Ab} {F : Nat → Nat → Int32} {i : Nat} (h : RAi A F i) (k : 2 ≤ ak A i) (hl : F 1 (al A i) = nI (aw A (al A i))) (hr : F 1 (ar A i) = nI (aw A (ar A i))) : VD F i (ak A i) (aw A i) (al A i) (ar A i) (aw A (al A i)) (aw A (ar A i)) (an A i) (ao A i) :=
  ⟨⟨h.1.1, h.1.2, (h.2.2.2 k).1⟩, (h.2.2.2 k).2.1, (h.2.2.2 k).2.2.2.1, (h.2.2.2 k).2.2.2.2, hl, hr⟩
section Set
variable {A : Ab} {v w kd lf rt : Nat} {n : Nat → Int32} {ot : Bool} {B : Bg}
theorem setA_n {i : Nat} (h : i ≠ v) : (ak (setA A v w kd lf rt n ot B) i = ak A i ∧ al (setA A v w kd lf rt n ot B) i = al A i ∧ ar (setA A v w kd lf rt n ot B) i = ar A i ∧ an (setA A v w kd lf rt n ot B) i = an A i ∧ ao (setA A v w kd lf rt n ot B) i = ao A i) ∧ aw (setA A v w kd lf rt n ot B) i = aw A i ∧ ac (setA A v w kd lf rt n ot B) i = ac A i ∧ aB (setA A v w kd lf rt n ot B) i = aB A i :=
  ⟨⟨fu_n h, fu_n h, fu_n h, fu_n h, fu_n h⟩, fu_n h, fu_n h, fu_n h⟩
theorem setA_s : (ak (setA A v w kd lf rt n ot B) v = kd ∧ al (setA A v w kd lf rt n ot B) v = lf ∧ ar (setA A v w kd lf rt n ot B) v = rt ∧ an (setA A v w kd lf rt n ot B) v = n ∧ ao (setA A v w kd lf rt n ot B) v = ot) ∧ aw (setA A v w kd lf rt n ot B) v = w ∧ ac (setA A v w kd lf rt n ot B) v = 0 ∧ aB (setA A v w kd lf rt n ot B) v = B :=
  ⟨⟨fu_s _ _ _, fu_s _ _ _, fu_s _ _ _, fu_s _ _ _, fu_s _ _ _⟩, fu_s _ _ _, fu_s _ _ _, fu_s _ _ _⟩
end Set
/-- a relation came at the free place v -/
theorem RO.add {A : Ab} {Od : List Nat} (h : RO A Od) {v w kd lf rt : Nat} {n : Nat → Int32} {ot : Bool} {B : Bg} (hv : v < 8) (hf : ak A v = 0) (hk : 0 < kd) (hs : 2 ≤ kd → lf ∈ Od ∧ rt ∈ Od) : RO (setA A v w kd lf rt n ot B) (Od ++ [v]) := by
  have hnv : v ∉ Od := fun q => by have := (h.2.2.1 v hv).mp q; omega
  refine ⟨?_, fun x hx => ?_, fun i hi => ?_, fun x hx k => ?_⟩
  · refine List.nodup_append.mpr ⟨h.1, List.nodup_cons.mpr ⟨by simp, List.nodup_nil⟩, fun a ha b hb e => ?_⟩
    rw [List.mem_singleton] at hb
    exact hnv (by rw [← hb, ← e]; exact ha)
  · rcases List.mem_append.mp hx with q | q
    · exact h.2.1 x q
    · rw [List.mem_singleton] at q; omega
  · by_cases e : i = v
    · subst e; rw [setA_s.1.1]; exact ⟨fun _ => hk, fun _ => by simp⟩
    · rw [(setA_n e).1.1, ← h.2.2.1 i hi, List.mem_append, List.mem_singleton]
      exact ⟨fun q => q.resolve_right e, Or.inl⟩
  · rcases List.mem_append.mp hx with q | q
    · have e : x ≠ v := fun z => hnv (by rw [← z]; exact q)
      rw [(setA_n e).1.1] at k
      obtain ⟨l1, l2, e1, e2, e3⟩ := h.2.2.2 x q k
      rw [(setA_n e).1.2.1, (setA_n e).1.2.2.1]
      exact ⟨l1, l2 ++ [v], by rw [e1]; simp, e2, e3⟩
    · rw [List.mem_singleton] at q
      subst q
      rw [setA_s.1.1] at k
      rw [setA_s.1.2.1, setA_s.1.2.2.1]
      exact ⟨Od, [], rfl, hs k⟩
theorem RO.drop {A : Ab} {Od : List Nat} (h : RO A Od) {v : Nat} (hu : ∀ j, j < 8 → 2 ≤ ak A j → al A j ≠ v ∧ ar A j ≠ v) : RO (dropA A v) (Od.filter (· ≠ v)) := by
  refine ⟨h.1.filter _, fun x hx => h.2.1 x (List.mem_filter.mp hx).1, fun i hi => ?_, fun x hx k => ?_⟩
  · by_cases e : i = v
    · subst e
      rw [show ak (dropA A i) i = 0 from fu_s _ _ _]
      exact ⟨fun q => by simp at q, fun q => absurd q (by omega)⟩
    · rw [show ak (dropA A v) i = ak A i from fu_n e, ← h.2.2.1 i hi, List.mem_filter]
      exact ⟨fun q => q.1, fun q => ⟨q, by simp [e]⟩⟩
  · obtain ⟨hx1, hx2⟩ := List.mem_filter.mp hx
    have e : x ≠ v := by simpa using hx2
    rw [show ak (dropA A v) x = ak A x from fu_n e] at k
    obtain ⟨l1, l2, e1, e2, e3⟩ := h.2.2.2 x hx1 k
    obtain ⟨u1, u2⟩ := hu x (h.2.1 x hx1) k
    refine ⟨l1.filter (· ≠ v), l2.filter (· ≠ v), ?_, List.mem_filter.mpr ⟨e2, decide_eq_true u1⟩, List.mem_filter.mpr ⟨e3, decide_eq_true u2⟩⟩
    rw [e1, List.filter_append, List.filter_cons, if_pos (by simpa using e)]
theorem RO.put {A : Ab} {Od : List Nat} (h : RO A Od) (N : Nat → Bg) : RO (putA A N) Od := h
/-- the sources of what stands at k stand ahead of it -/
theorem RO.src {A : Ab} {Od : List Nat} (h : RO A Od) {k : Nat} (hk : k < Od.length) (h2 : 2 ≤ ak A Od[k]) : al A Od[k] ∈ Od.take k ∧ ar A Od[k] ∈ Od.take k := by
  obtain ⟨x, ex⟩ : ∃ x, x = Od[k] := ⟨_, rfl⟩
  rw [← ex] at h2 ⊢
  obtain ⟨l1, l2, e1, e2, e3⟩ := h.2.2.2 x (ex ▸ List.getElem_mem hk) h2
  have hl : l1.length < Od.length := by rw [e1]; simp
  have e4 : Od[l1.length] = Od[k] := by
    have : Od[l1.length]? = some x := by rw [e1, List.getElem?_append_right (Nat.le_refl _)]; simp
    rw [List.getElem?_eq_getElem hl] at this
    rw [← ex]
    exact Option.some.inj this
  have e5 : l1.length = k := (List.getElem_inj h.1).mp e4
  have e6 : Od.take k = l1 := by rw [← e5, e1]; simp
  rw [e6]
  exact ⟨e2, e3⟩
theorem RA.made {A : Ab} {Od : List Nat} {F G : Nat → Nat → Int32} (h : RA A Od F) {v w kd lf rt : Nat} {rtv : Int32} {n : Nat → Int32} {ot : Bool} {B : Bg} (hv : v < 8) (hf : ak A v = 0) (hk : 0 < kd) (hs : 2 ≤ kd → lf ∈ Od ∧ rt ∈ Od)
    (h0 : G 0 = upd (F 0) v (nI kd)) (h1 : G 1 = upd (F 1) v (nI w)) (h2 : G 2 = upd (F 2) v (nI lf) ∨ kd < 2 ∧ ∃ z, G 2 = upd (F 2) v z) (h3 : G 3 = upd (F 3) v rtv) (h7 : G 7 = upd (F 7) v (nI 0)) (h6 : G 6 = upd (F 6) Od.length (nI v)) (h4 : G 4 = F 4) (h5 : G 5 = F 5)
    (hd : 2 ≤ kd → (isB kd → rtv = nI rt) ∧ (¬ isB kd → rtv = -1 ∧ rt = lf) ∧ (∀ j, j < cntK kd → F 4 (4 * v + j) = n j) ∧ (kd = 2 → F 5 v = b01 ot))
    (hB : ∀ q, q < 8 → OB G q (fu (aB A) v B q)) : RA (setA A v w kd lf rt n ot B) (Od ++ [v]) G := by
  refine ⟨h.1.add hv hf hk hs, fun k x hx => ?_, fun i hi => ?_⟩
  · rw [h6]
    rcases Nat.lt_trichotomy k Od.length with q | q | q
    · rw [List.getElem?_append_left q] at hx; rw [pk_un (by omega)]; exact h.2.1 k x hx
    · subst q; rw [List.getElem?_append_right (Nat.le_refl _), Nat.sub_self] at hx; cases hx; rw [pk_us]
    · rw [List.getElem?_eq_none (by rw [List.length_append]; show _ + 1 ≤ k; omega)] at hx; cases hx
  · by_cases e : i = v
    · subst e
      have hb := hB i hi
      rw [fu_s] at hb
      refine ⟨⟨by rw [h0, pk_us, setA_s.1.1], by rw [h1, pk_us, setA_s.2.1]⟩, by rw [setA_s.2.2.2]; exact hb, fun _ => by rw [h7, pk_us, setA_s.2.2.1], fun k => ?_⟩
      rw [setA_s.1.1] at k
      obtain ⟨d1, d2, d3, d4⟩ := hd k
      have h2' := h2.resolve_right (fun q => by omega)
      unfold RVi
      rw [setA_s.1.1, setA_s.1.2.1, setA_s.1.2.2.1, setA_s.1.2.2.2.1, setA_s.1.2.2.2.2, h2', pk_us, h3, pk_us, h4, h5]
      exact ⟨rfl, d1, d2, d3, d4⟩
    · have hb := hB i hi
      rw [fu_n e] at hb
      have s := setA_n (A := A) (v := v) (w := w) (kd := kd) (lf := lf) (rt := rt) (n := n) (ot := ot) (B := B) e
      refine (h.2.2 i hi).cg s.1 s.2.1 s.2.2.1 (by rw [s.2.2.2]; exact hb) (by rw [h0, pk_un e]) (by rw [h1, pk_un e]) ?_ (by rw [h3, pk_un e]) (fun j _ => by rw [h4]) (by rw [h5]) (by rw [h7, pk_un e])
      rcases h2 with q | ⟨_, z, q⟩
      · rw [q, pk_un e]
      · rw [q, pk_un e]
