/-! THE REFERENCE'S STATE: m, its arrays Q 0 .. Q 14 (kinds widths lefts rights numbers others order changes cells times counts newCells newTimes newCounts row), what stands in them F 0 .. F 14 -/
def cl (K : Cst) (j : Nat) (f : Nat → Int32) : va_E := match j with
  | 4 => aI K 32 f
  | 5 => aZ K 8 f
  | 8 => aI K 2048 f
  | 9 => aI K 512 f
  | 11 => aI K 2048 f
  | 12 => aI K 512 f
  | 14 => aI K 4 f
  | _ => aI K 8 f
abbrev mOb (Q : Nat → Nat) (th oc fi : Int32) : va_E := ob 10 [.int th, .ref (Q 0), .ref (Q 1), .ref (Q 2), .ref (Q 3), .ref (Q 4), .ref (Q 5), .ref (Q 6), .int oc, .ref (Q 7), .ref (Q 8), .ref (Q 9), .ref (Q 10), .ref (Q 11), .ref (Q 12), .ref (Q 13), .int fi, .ref (Q 14)]
def RS (K : Cst) (g : Wd) (m : Nat) (Q : Nat → Nat) (th oc fi : Int32) (F : Nat → Nat → Int32) : Prop :=
  g m = some (mOb Q th oc fi) ∧ (∀ j, j < 15 → g (Q j) = some (cl K j (F j))) ∧ (∀ i, i < 15 → ∀ j, j < 15 → Q i = Q j → i = j) ∧ Sub (kF K) g ∧ ∀ q e, kF K q = some e → q ≠ m ∧ ∀ j, j < 15 → q ≠ Q j
theorem cl_ob (K : Cst) (j : Nat) (f : Nat → Int32) (ci : Nat) (fs : List Value) : cl K j f ≠ ob ci fs := by
  unfold cl
  split <;> exact fun q => by cases q
theorem RS.put {K : Cst} {g : Wd} {m : Nat} {Q : Nat → Nat} {th oc fi : Int32} {F : Nat → Nat → Int32} (h : RS K g m Q th oc fi F) (j : Nat) (hj : j < 15) (f : Nat → Int32) : RS K (up g (Q j) (cl K j f)) m Q th oc fi (fu F j f) := by
  obtain ⟨h1, h2, h3, h4, h5⟩ := h
  refine ⟨?_, fun i hi => ?_, h3, fun q e hq => ?_, h5⟩
  · rw [up_n (fun q => cl_ob K j (F j) _ _ (Option.some.inj ((h2 j hj).symm.trans (by rw [← q]; exact h1))))]; exact h1
  · by_cases e : i = j
    · subst e; rw [up_s, fu_s]
    · rw [up_n (fun q => e (h3 i hi j hj q)), fu_n e]; exact h2 i hi
  · rw [up_n ((h5 q e hq).2 j hj)]; exact h4 q e hq
theorem RS.obj {K : Cst} {g : Wd} {m : Nat} {Q : Nat → Nat} {th oc fi : Int32} {F : Nat → Nat → Int32} (h : RS K g m Q th oc fi F) (th' oc' fi' : Int32) : RS K (up g m (mOb Q th' oc' fi')) m Q th' oc' fi' F := by
  obtain ⟨h1, h2, h3, h4, h5⟩ := h
  refine ⟨up_s _ _ _, fun i hi => ?_, h3, fun q e hq => ?_, h5⟩
  · rw [up_n (fun q => cl_ob K i (F i) _ _ (Option.some.inj ((h2 i hi).symm.trans (by rw [q]; exact h1))))]; exact h2 i hi
  · rw [up_n (h5 q e hq).1]; exact h4 q e hq
theorem j_zastN {X : Cx} {cc : ByteArray} {own : String} {kc ks : Nat} {g : Wd} {pc : Nat} {lv : List (Nat × Value)} {rest : List Value} (hX : OK X cc own) {a n : Nat} {f : Nat → Int32} (hg : g a = some (aZ (xK X) n f)) {i : Int32} {b : Bool} (m : Nat) (hi : i = nI m) (hm : m < n) (hn : n < 2 ^ 31) (d : decode cc pc = .ok (.bastore, 1)) (k : J X kc ks (up g a (aZ (xK X) n (upd f m (b01 b)))) (pc + 1) lv rest) : J X kc ks g pc lv (.int (b01 b) :: .int i :: .ref a :: rest) := by
  subst hi
  refine j_zast hX hg (vp_in_nI hm hn) d ?_
  rw [nI_clamp (by omega), show vp_nar .boolean (b01 b) = b01 b by cases b <;> decide]
  exact k
/-- the rows from the place r on hold the bag B -/
def repA (r : Nat) (f t : Nat → Int32) (B : Bg) : Prop := ∀ (k : Nat) (x : Row × Nat), B[k]? = some x → rowAt f (80 * r + 4 * k) = x.1 ∧ t (20 * r + k) = nI x.2
/-- the new rows of r are B -/
def NB (F : Nat → Nat → Int32) (r : Nat) (B : Bg) : Prop := F 13 r = nI B.length ∧ repA r (F 11) (F 12) B
/-- the rows of r are B -/
def OB (F : Nat → Nat → Int32) (r : Nat) (B : Bg) : Prop := F 10 r = nI B.length ∧ repA r (F 8) (F 9) B
theorem ix20 (r k : Nat) : nI 20 * nI r + nI k = nI (20 * r + k) := by rw [pk_mul, nI_add]
theorem ix80 (r k c : Nat) : nI 4 * nI (20 * r + k) + nI c = nI (80 * r + 4 * k + c) := by rw [pk_mul, nI_add]; exact congrArg nI (by omega)
theorem repA_cell {r : Nat} {f t : Nat → Int32} {B : Bg} (h : repA r f t B) {k c : Nat} (hk : k < B.length) (hc : c < 4) : f (80 * r + 4 * k + c) = cellR (B[k]).1 c := by
  rw [cellR_at (f := f) (i := 80 * r + 4 * k) hc, (h k _ (List.getElem?_eq_getElem hk)).1]
theorem repA_time {r : Nat} {f t : Nat → Int32} {B : Bg} (h : repA r f t B) {k : Nat} (hk : k < B.length) : t (20 * r + k) = nI (B[k]).2 := (h k _ (List.getElem?_eq_getElem hk)).2
/-- a change at another relation's places leaves these -/
theorem repA_cg {r : Nat} {f t f' t' : Nat → Int32} {B : Bg} (h : repA r f t B) (hl : B.length ≤ 20) (e1 : ∀ j, 80 * r ≤ j → j < 80 * r + 80 → f' j = f j) (e2 : ∀ j, 20 * r ≤ j → j < 20 * r + 20 → t' j = t j) : repA r f' t' B := fun k x hx => by
  have hk := rep_lt hx
  obtain ⟨h1, h2⟩ := h k x hx
  refine ⟨?_, by rw [e2 _ (by omega) (by omega)]; exact h2⟩
  rw [← h1]
  exact rowAt_c (fun c hc => e1 _ (by omega) (by omega))
