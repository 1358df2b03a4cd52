/-! how a change goes through the views: M, the latest rows; Pr, those that are made anew already -/
def Mf (A : Ab) (p : Nat → Nat) (N : Nat → Bg) : Nat → Bg := fun i => if 0 < p i then N i else aB A i
def Pr (A : Ab) (d r i : Nat) : Prop := ak A i ≤ 1 ∨ ad A i < d ∨ (ad A i = d ∧ i < r)
def VI (A : Ab) (t : Nat) (B' : Bg) (p : Nat → Nat) (N : Nat → Bg) (d r : Nat) : Prop := (∀ i, i < 8 → 0 < p i → good (N i) ∧ 0 < aw A i) ∧ (∀ i, i < 8 → Pr A d r i → EqAt A t B' (Mf A p N) i ∧ p i = dif (Mf A p N i) (aB A i)) ∧ ∀ i, i < 8 → ¬ Pr A d r i → p i = 0
theorem VI.gd {A : Ab} (hI : Inv A) {t : Nat} {B' : Bg} {p : Nat → Nat} {N : Nat → Bg} {d r : Nat} (h : VI A t B' p N d r) {i : Nat} (hi : i < 8) : good (Mf A p N i) := by
  unfold Mf
  split
  · exact (h.1 i hi (by assumption)).1
  · exact (hI i hi).2.2.1.1
theorem VI.le {A : Ab} (hI : Inv A) {t : Nat} {B' : Bg} {p : Nat → Nat} {N : Nat → Bg} {d r : Nat} (h : VI A t B' p N d r) {i : Nat} (hi : i < 8) : p i ≤ 40 := by
  by_cases hp : Pr A d r i
  · rw [(h.2.1 i hi hp).2]; exact dif_le (h.gd hI hi) (hI i hi).2.2.1.1
  · rw [h.2.2 i hi hp]; omega
theorem Pr.src {A : Ab} (hI : Inv A) {d r i : Nat} (hi : i < 8) (h : Pr A d r i) (k : 2 ≤ ak A i) : Pr A d r (al A i) ∧ Pr A d r (ar A i) := by
  have s := hI.src hi k
  unfold Pr at h ⊢
  omega
theorem VI.no {A : Ab} (hI : Inv A) {t : Nat} {B' : Bg} {p : Nat → Nat} {N : Nat → Bg} {d r : Nat} (h : VI A t B' p N d r) (hr : r < 8) (hd : ad A r = d) (k : 2 ≤ ak A r) (he : evalV (ak A r) (aw A (al A r)) (an A r) (ao A r) (Mf A p N (al A r)) (Mf A p N (ar A r)) = none) : ∀ N', ¬ Upd A t B' N' := fun N' hN => by
  have s := hI.src hr k
  have hp := upd_part (P := Pr A d r) hI (fun i hi q k => q.src hI hi k) (fun i hi q => (h.2.1 i hi q).1) hN
  have e1 := hp _ s.1.1 (by unfold Pr; omega)
  have e2 := hp _ s.1.2 (by unfold Pr; omega)
  have := (hN r hr).2 k
  rw [← e1, ← e2, he] at this
  cases this
/-- at r nothing was to be done -/
theorem VI.skip {A : Ab} {t : Nat} {B' : Bg} {p : Nat → Nat} {N : Nat → Bg} {d r : Nat} (h : VI A t B' p N d r) (hd : ad A r ≠ d) : VI A t B' p N d (r + 1) := by
  have e : ∀ i, Pr A d (r + 1) i ↔ Pr A d r i := fun i => by
    unfold Pr
    by_cases q : i = r
    · subst q; omega
    · omega
  exact ⟨h.1, fun i hi q => h.2.1 i hi ((e i).mp q), fun i hi q => h.2.2 i hi (fun z => q ((e i).mpr z))⟩
theorem VI.next {A : Ab} {t : Nat} {B' : Bg} {p : Nat → Nat} {N : Nat → Bg} {d : Nat} (h : VI A t B' p N d 8) : VI A t B' p N (d + 1) 0 := by
  have e : ∀ i, i < 8 → (Pr A (d + 1) 0 i ↔ Pr A d 8 i) := fun i hi => by unfold Pr; omega
  exact ⟨h.1, fun i hi q => h.2.1 i hi ((e i hi).mp q), fun i hi q => h.2.2 i hi (fun z => q ((e i hi).mpr z))⟩
/-- at r the view is untouched -/
theorem VI.same {A : Ab} (hI : Inv A) {t : Nat} {B' : Bg} {p : Nat → Nat} {N : Nat → Bg} {d r : Nat} (h : VI A t B' p N d r) (hr : r < 8) (hd : ad A r = d) (k : 2 ≤ ak A r) (h1 : p (al A r) = 0) (h2 : p (ar A r) = 0) : VI A t B' p N d (r + 1) := by
  have hp0 : p r = 0 := h.2.2 r hr (by unfold Pr; omega)
  have m0 : Mf A p N r = aB A r := by unfold Mf; rw [if_neg (by omega)]
  have m1 : Mf A p N (al A r) = aB A (al A r) := by unfold Mf; rw [if_neg (by omega)]
  have m2 : Mf A p N (ar A r) = aB A (ar A r) := by unfold Mf; rw [if_neg (by omega)]
  refine ⟨h.1, fun i hi q => ?_, fun i hi q => h.2.2 i hi (fun z => q (by unfold Pr at z ⊢; omega))⟩
  by_cases e : i = r
  · subst e
    refine ⟨⟨fun q => absurd q (by omega), fun _ => ?_⟩, by rw [m0, dif_self, hp0]⟩
    rw [m0, m1, m2]
    exact ((hI i hr).2.2.2.2 k).2.2.2.1
  · exact h.2.1 i hi (by unfold Pr at q ⊢; omega)
/-- at r the view is made anew -/
theorem VI.made {A : Ab} (hI : Inv A) {t : Nat} {B' B2 : Bg} {p : Nat → Nat} {N : Nat → Bg} {d r : Nat} (h : VI A t B' p N d r) (hr : r < 8) (hd : ad A r = d) (k : 2 ≤ ak A r) (he : evalV (ak A r) (aw A (al A r)) (an A r) (ao A r) (Mf A p N (al A r)) (Mf A p N (ar A r)) = some B2) (gB : good B2) : VI A t B' (fu p r (dif B2 (aB A r))) (fu N r B2) d (r + 1) := by
  have hp0 : p r = 0 := h.2.2 r hr (by unfold Pr; omega)
  have mr : Mf A (fu p r (dif B2 (aB A r))) (fu N r B2) r = B2 := by
    unfold Mf; rw [fu_s, fu_s]
    split
    · rfl
    · exact (dif_zero (by omega)).symm
  have mo : ∀ i, i ≠ r → Mf A (fu p r (dif B2 (aB A r))) (fu N r B2) i = Mf A p N i := fun i hi => by unfold Mf; rw [fu_n hi, fu_n hi]
  have nsrc : ∀ i, i < 8 → 2 ≤ ak A i → ad A i ≤ d → al A i ≠ r ∧ ar A i ≠ r := fun i hi k2 hd2 => by
    have s := hI.src hi k2
    exact ⟨fun q => by rw [q] at s; omega, fun q => by rw [q] at s; omega⟩
  refine ⟨fun i hi q => ?_, fun i hi q => ?_, fun i hi q => ?_⟩
  · by_cases e : i = r
    · subst e; rw [fu_s]; exact ⟨gB, by have := (hI i hr).1.2.2.1; omega⟩
    · rw [fu_n e] at q ⊢; exact h.1 i hi q
  · by_cases e : i = r
    · subst e
      obtain ⟨n1, n2⟩ := nsrc i hr k (by omega)
      refine ⟨⟨fun q => absurd q (by omega), fun _ => ?_⟩, by rw [mr, fu_s]⟩
      rw [mo _ n1, mo _ n2, mr]; exact he
    · have hq : Pr A d r i := by unfold Pr at q ⊢; omega
      obtain ⟨⟨a1, a2⟩, a3⟩ := h.2.1 i hi hq
      refine ⟨⟨fun q1 => ?_, fun k2 => ?_⟩, ?_⟩
      · rw [mo i e]; exact a1 q1
      · obtain ⟨n1, n2⟩ := nsrc i hi k2 (by unfold Pr at hq; omega)
        rw [mo _ n1, mo _ n2, mo i e]; exact a2 k2
      · rw [mo i e, fu_n e]; exact a3
  · by_cases e : i = r
    · subst e; exact absurd (by unfold Pr; omega) q
    · rw [fu_n e]; exact h.2.2 i hi (fun z => q (by unfold Pr at z ⊢; omega))
theorem VI.start {A : Ab} (hI : Inv A) {t : Nat} {B' : Bg} {N : Nat → Bg} (ht : t < 8) (kt : ak A t = 1) (gB : good B') (N' : Nat → Bg) (hN : N' = fu N t B') : VI A t B' (fu (fun _ => 0) t (dif B' (aB A t))) N' 1 0 := by
  subst hN
  have mr : Mf A (fu (fun _ => 0) t (dif B' (aB A t))) (fu N t B') t = B' := by
    unfold Mf; rw [fu_s, fu_s]
    split
    · rfl
    · exact (dif_zero (by omega)).symm
  have mo : ∀ i, i ≠ t → Mf A (fu (fun _ => 0) t (dif B' (aB A t))) (fu N t B') i = aB A i := fun i hi => by unfold Mf; rw [fu_n hi, if_neg (by omega)]
  refine ⟨fun i hi q => ?_, fun i hi q => ?_, fun i hi q => ?_⟩
  · by_cases e : i = t
    · subst e; rw [fu_s]; exact ⟨gB, by have := (hI i ht).1.2.2.1; omega⟩
    · rw [fu_n e] at q; omega
  · have k : ak A i ≤ 1 := Classical.byContradiction fun z => by
      have s := (hI.src hi (by omega)).2
      unfold Pr at q; omega
    by_cases e : i = t
    · subst e; exact ⟨⟨fun _ => by rw [mr, if_pos rfl], fun q => absurd q (by omega)⟩, by rw [mr, fu_s]⟩
    · exact ⟨⟨fun _ => by rw [mo i e, if_neg e], fun q => absurd q (by omega)⟩, by rw [mo i e, fu_n e, dif_self]⟩
  · by_cases e : i = t
    · subst e; exact absurd (Or.inl (by omega)) q
    · rw [fu_n e]
theorem VI.fin {A : Ab} (hI : Inv A) {t : Nat} {B' : Bg} {p : Nat → Nat} {N : Nat → Bg} (h : VI A t B' p N 8 0) : Upd A t B' (Mf A p N) ∧ ∀ i, i < 8 → p i = dif (Mf A p N i) (aB A i) :=
  ⟨fun i hi => (h.2.1 i hi (Or.inr (Or.inl (hI.dp hi)))).1, fun i hi => (h.2.1 i hi (Or.inr (Or.inl (hI.dp hi)))).2⟩
/-! taking over -/
def setR (A : Ab) (M : Nat → Bg) (p : Nat → Nat) (r : Nat) : Ab := (A.1, A.2.1, (fun j => if j < r then M j else aB A j, fun j => if j < r then p j else ac A j, ad A))
def pR (p : Nat → Nat) (r : Nat) : Nat → Nat := fun j => if j < r then 0 else p j
theorem setR_0 (A : Ab) (M : Nat → Bg) (p : Nat → Nat) : setR A M p 0 = A := rfl
theorem pR_0 (p : Nat → Nat) : pR p 0 = p := rfl
theorem setR_put {A : Ab} {M : Nat → Bg} {p : Nat → Nat} (h : ∀ i, i < 8 → p i = dif (M i) (aB A i)) : setR A M p 8 = putA A M := by
  have e : (fun j => if j < 8 then p j else ac A j) = fun j => if j < 8 then dif (M j) (aB A j) else ac A j := funext fun j => by
    by_cases hj : j < 8
    · simp only [if_pos hj, h j hj]
    · simp only [if_neg hj]
  unfold setR putA
  rw [e]
theorem D2.swap {f h : Nat → Nat} (hD : D2 f h) {i : Nat} (hi : i < 8) : D2 (fu f i (h i)) (fu h i (f i)) := by
  intro a ha b hb
  have d1 := hD a ha b hb; have d2 := hD b hb a ha; have d3 := hD a ha i hi; have d4 := hD i hi a ha; have d5 := hD b hb i hi; have d6 := hD i hi b hb
  by_cases ea : a = i
  · subst ea
    by_cases eb : b = a
    · subst eb; rw [fu_s, fu_s]; exact ⟨fun _ => rfl, fun _ => rfl, fun q => d1.2.2 q.symm⟩
    · rw [fu_s, fu_s, fu_n eb, fu_n eb]; exact ⟨fun q => absurd q.symm d2.2.2, fun q => absurd q d1.2.2, fun q => eb (d2.2.1 q.symm)⟩
  · by_cases eb : b = i
    · subst eb; rw [fu_s, fu_s, fu_n ea, fu_n ea]; exact ⟨fun q => absurd q d1.2.2, fun q => absurd q.symm d2.2.2, fun q => ea (d1.1 q)⟩
    · rw [fu_n ea, fu_n ea, fu_n eb, fu_n eb]; exact d1
def swY (Y : Lt) (i : Nat) : Lt := (Y.1, (fu (ynb Y) i (yxb Y i), fu (ync Y) i (yxc Y i), fu (yno Y) i (yxo Y i)), (fu (yxb Y) i (ynb Y i), fu (yxc Y) i (ync Y i), fu (yxo Y) i (yno Y i)), Y.2.2.2)
