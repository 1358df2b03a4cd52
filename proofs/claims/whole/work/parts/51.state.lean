/-! THE STATE OF THE WHOLE. Ab: what it means (widths, kinds, sources, numbers, by a column, rows, changed, depth); Lt: where it lies in the class -/
abbrev Ab : Type := ((Nat → Nat) × (Nat → Nat) × (Nat → Nat) × (Nat → Nat)) × ((Nat → Nat → Int32) × (Nat → Bool)) × ((Nat → Bg) × (Nat → Nat) × (Nat → Nat))
abbrev aw (A : Ab) : Nat → Nat := A.1.1
abbrev ak (A : Ab) : Nat → Nat := A.1.2.1
abbrev al (A : Ab) : Nat → Nat := A.1.2.2.1
abbrev ar (A : Ab) : Nat → Nat := A.1.2.2.2
abbrev an (A : Ab) : Nat → Nat → Int32 := A.2.1.1
abbrev ao (A : Ab) : Nat → Bool := A.2.1.2
abbrev aB (A : Ab) : Nat → Bg := A.2.2.1
abbrev ac (A : Ab) : Nat → Nat := A.2.2.2.1
abbrev ad (A : Ab) : Nat → Nat := A.2.2.2.2
abbrev Lt : Type := (Nat × Nat) × ((Nat → Nat) × (Nat → Nat) × (Nat → Nat)) × ((Nat → Nat) × (Nat → Nat) × (Nat → Nat)) × ((Nat → Nat) × (Nat → Nat) × (Nat → Nat) × (Nat → Nat))
abbrev yra (Y : Lt) : Nat := Y.1.1
abbrev yta (Y : Lt) : Nat := Y.1.2
abbrev ynb (Y : Lt) : Nat → Nat := Y.2.1.1
abbrev ync (Y : Lt) : Nat → Nat := Y.2.1.2.1
abbrev yno (Y : Lt) : Nat → Nat := Y.2.1.2.2
abbrev yxb (Y : Lt) : Nat → Nat := Y.2.2.1.1
abbrev yxc (Y : Lt) : Nat → Nat := Y.2.2.1.2.1
abbrev yxo (Y : Lt) : Nat → Nat := Y.2.2.1.2.2
abbrev yR (Y : Lt) : Nat → Nat := Y.2.2.2.1
abbrev yV (Y : Lt) : Nat → Nat := Y.2.2.2.2.1
abbrev yw (Y : Lt) : Nat → Nat := Y.2.2.2.2.2.1
abbrev yk (Y : Lt) : Nat → Nat := Y.2.2.2.2.2.2
def fu {α : Type} (f : Nat → α) (i : Nat) (v : α) : Nat → α := fun j => if j = i then v else f j
theorem fu_s {α : Type} (f : Nat → α) (i : Nat) (v : α) : fu f i v i = v := if_pos rfl
theorem fu_n {α : Type} {f : Nat → α} {i j : Nat} {v : α} (h : j ≠ i) : fu f i v j = f j := if_neg h
def bagQ (K : Cst) (g : Wd) (b c o : Nat) (P : Prop) (B : Bg) : Prop := ∃ n cf tf, isBag K g b c o n cf tf ∧ (P → n = B.length ∧ rep cf tf B)
def vwf (A : Ab) (Y : Lt) (j : Nat) : Value := if 2 ≤ ak A j then .ref (yV Y j) else .null
def rwI (K : Cst) (g : Wd) (rw : Nat) (I : (Nat → Int32) → Prop) : Prop := ∃ rf, g rw = some (aI K 4 rf) ∧ I rf
/-- the relation j -/
def RI (K : Cst) (g : Wd) (A : Ab) (Y : Lt) (ch : Nat → Int32) (p : Nat → Nat) (N : Nat → Bg) (j : Nat) : Prop :=
  g (yR Y j) = some (ob 6 [.ref (ynb Y j), .ref (yxb Y j), vwf A Y j, .int (nI (aw A j)), .int (nI (p j)), .int (ch j)]) ∧
  bagQ K g (ynb Y j) (ync Y j) (yno Y j) (0 < aw A j) (aB A j) ∧ bagQ K g (yxb Y j) (yxc Y j) (yxo Y j) (0 < p j) (N j) ∧
  (2 ≤ ak A j → vwAt K g (yV Y j) (ak A j) (yR Y (al A j)) (yR Y (ar A j)) (ad A j) (yw Y j) (yk Y j) (an A j) (ao A j) ∧ rwI K g (yw Y j) (rowIv (ak A j) (an A j))) ∧
  (0 < aw A j → ch j = nI (ac A j))
def D2 (f h : Nat → Nat) : Prop := ∀ i, i < 8 → ∀ j, j < 8 → (f i = f j → i = j) ∧ (h i = h j → i = j) ∧ f i ≠ h j
def DJ (A : Ab) (Y : Lt) : Prop := (∀ i, i < 8 → ∀ j, j < 8 → yR Y i = yR Y j → i = j) ∧ (D2 (ynb Y) (yxb Y) ∧ D2 (ync Y) (yxc Y) ∧ D2 (yno Y) (yxo Y)) ∧
  ∀ i, i < 8 → 2 ≤ ak A i → yw Y i ≠ yta Y ∧ (ak A i = 3 → yk Y i ≠ yta Y) ∧ ∀ j, j < 8 → 2 ≤ ak A j → (yw Y i = yw Y j → i = j) ∧ (ak A j = 3 → yw Y i ≠ yk Y j)
/-- q is none of the cells of the relation i -/
def ZI (A : Ab) (Y : Lt) (i q : Nat) : Prop := (q ≠ yR Y i ∧ q ≠ ynb Y i ∧ q ≠ ync Y i ∧ q ≠ yno Y i ∧ q ≠ yxb Y i ∧ q ≠ yxc Y i ∧ q ≠ yxo Y i) ∧ (2 ≤ ak A i → q ≠ yw Y i ∧ q ≠ yV Y i ∧ (ak A i = 3 → q ≠ yk Y i))
def ZN (x : Nat) (A : Ab) (Y : Lt) (q : Nat) : Prop := (q ≠ x ∧ q ≠ yra Y ∧ q ≠ yta Y) ∧ ∀ i, i < 8 → ZI A Y i q
/-- the cells of others stand there, and are none of these -/
def ZF (K : Cst) (g : Wd) (x : Nat) (A : Ab) (Y : Lt) : Prop := Sub (kF K) g ∧ ∀ q e, kF K q = some e → ZN x A Y q
def CS (K : Cst) (g : Wd) (x : Nat) (A : Ab) (Y : Lt) (ch : Nat → Int32) (p : Nat → Nat) (N : Nat → Bg) : Prop :=
  bvAt K g x (yra Y) (yta Y) (yR Y) ∧ rwI K g (yta Y) (fun _ => ZF K g x A Y) ∧ (∀ j, j < 8 → RI K g A Y ch p N j) ∧ DJ A Y
/-- from g to g' no cell of another relation than i is touched; ta may be -/
def Fam (g g' : Wd) (A : Ab) (Y : Lt) (i : Nat) : Prop := ∀ q e, g q = some e → q ≠ yR Y i → q ≠ ynb Y i → q ≠ ync Y i → q ≠ yno Y i → q ≠ yxb Y i → q ≠ yxc Y i → q ≠ yxo Y i → q ≠ yta Y → (2 ≤ ak A i → q ≠ yw Y i) → g' q = some e
theorem aI_ne {K : Cst} {m n : Nat} {f h : Nat → Int32} (e : m ≠ n) : aI K m f ≠ aI K n h := fun q => by
  injection q with q; injection q with q1 q2; injection q2 with q3 q4; exact e q3
theorem aI_ob {K : Cst} {m ci : Nat} {f : Nat → Int32} {fs : List Value} : aI K m f ≠ ob ci fs := fun q => by cases q
theorem ob_aI {K : Cst} {m ci : Nat} {f : Nat → Int32} {fs : List Value} : ob ci fs ≠ aI K m f := fun q => by cases q
theorem ob_ci {c d : Nat} {fs gs : List Value} (e : c ≠ d) : ob c fs ≠ ob d gs := fun q => by
  injection q with q; injection q with q1 q2; exact e q1
theorem aQ_ob {K : Cst} {m ci : Nat} {f : Nat → Option Nat} {fs : List Value} : aQ K m f ≠ ob ci fs := fun q => by cases q
theorem aQ_aI {K : Cst} {m n : Nat} {f : Nat → Option Nat} {h : Nat → Int32} : aQ K m f ≠ aI K n h := fun q => by
  injection q with q; injection q with q1 q2; injection q2 with q3 q4; cases q4
theorem isBag.sub {K : Cst} {g g' : Wd} {b c o n : Nat} {cf tf : Nat → Int32} (hs : Sub g g') (h : isBag K g b c o n cf tf) : isBag K g' b c o n cf tf := ⟨hs _ _ h.1, hs _ _ h.2.1, hs _ _ h.2.2⟩
theorem bagQ.sub {K : Cst} {g g' : Wd} {b c o : Nat} {P : Prop} {B : Bg} (hs : Sub g g') (h : bagQ K g b c o P B) : bagQ K g' b c o P B := by
  obtain ⟨n, cf, tf, h1, h2⟩ := h
  exact ⟨n, cf, tf, h1.sub hs, h2⟩
theorem rwI.sub {K : Cst} {g g' : Wd} {rw : Nat} {I : (Nat → Int32) → Prop} (hs : Sub g g') (h : rwI K g rw I) : rwI K g' rw I := by
  obtain ⟨rf, h1, h2⟩ := h
  exact ⟨rf, hs _ _ h1, h2⟩
theorem bvAt.sub {K : Cst} {g g' : Wd} {x ra ta : Nat} {R : Nat → Nat} (hs : Sub g g') (h : bvAt K g x ra ta R) : bvAt K g' x ra ta R := by
  obtain ⟨h1, f, h2, h3⟩ := h
  exact ⟨hs _ _ h1, f, hs _ _ h2, h3⟩
theorem RI.sub {K : Cst} {g g' : Wd} {A : Ab} {Y : Lt} {ch : Nat → Int32} {p : Nat → Nat} {N : Nat → Bg} {j : Nat} (hs : Sub g g') (h : RI K g A Y ch p N j) : RI K g' A Y ch p N j :=
  ⟨hs _ _ h.1, h.2.1.sub hs, h.2.2.1.sub hs, fun k => ⟨(h.2.2.2.1 k).1.sub hs, (h.2.2.2.1 k).2.sub hs⟩, h.2.2.2.2⟩
theorem CS.sub {K : Cst} {g g' : Wd} {x : Nat} {A : Ab} {Y : Lt} {ch : Nat → Int32} {p : Nat → Nat} {N : Nat → Bg} (hs : Sub g g') (h : CS K g x A Y ch p N) : CS K g' x A Y ch p N := by
  obtain ⟨tf, ht, hz⟩ := h.2.1
  exact ⟨h.1.sub hs, ⟨tf, hs _ _ ht, fun q e hq => hs _ _ (hz.1 q e hq), hz.2⟩, fun j hj => (h.2.2.1 j hj).sub hs, h.2.2.2⟩
theorem CS.rels {K : Cst} {g : Wd} {x : Nat} {A : Ab} {Y : Lt} {ch : Nat → Int32} {p : Nat → Nat} {N : Nat → Bg} (h : CS K g x A Y ch p N) : relsAt g (yR Y) (ynb Y) (yxb Y) (vwf A Y) (aw A) (fun i => nI (p i)) ch := fun j hj => (h.2.2.1 j hj).1
theorem vwAt.keep {K : Cst} {g g' : Wd} {v kd lr rr dp rw ck : Nat} {n : Nat → Int32} {ot : Bool} (h : vwAt K g v kd lr rr dp rw ck n ot) (h1 : ∀ ci fs, g v = some (ob ci fs) → ci ≠ 0 → ci ≠ 6 → g' v = some (ob ci fs)) (h2 : kd = 3 → ∀ f, g ck = some (aI K 4 f) → g' ck = some (aI K 4 f)) : vwAt K g' v kd lr rr dp rw ck n ot := by
  match kd, h, h2 with
  | 2, h, _ => exact h1 _ _ h (by decide) (by decide)
  | 3, h, h2 => exact ⟨h1 _ _ h.1 (by decide) (by decide), h2 rfl _ h.2.1, h.2.2⟩
  | 4, h, _ => exact h1 _ _ h (by decide) (by decide)
  | 5, h, _ => exact h1 _ _ h (by decide) (by decide)
  | 6, h, _ => exact h1 _ _ h (by decide) (by decide)
  | 7, h, _ => exact h1 _ _ h (by decide) (by decide)
  | 8, h, _ => exact h1 _ _ h (by decide) (by decide)
  | 0, h, _ => exact h.elim
  | 1, h, _ => exact h.elim
  | _ + 9, h, _ => exact h.elim
section Step
variable {K : Cst} {g g' : Wd} {x : Nat} {A : Ab} {Y : Lt} {ch : Nat → Int32} {p : Nat → Nat} {N : Nat → Bg} {i : Nat}
/-- what is of the kind of the cells of i -/
theorem CS.cells (h : CS K g x A Y ch p N) (hi : i < 8) : (∃ fs, g (yR Y i) = some (ob 6 fs)) ∧ (∃ fs, g (ynb Y i) = some (ob 0 fs)) ∧ (∃ f, g (ync Y i) = some (aI K 80 f)) ∧ (∃ f, g (yno Y i) = some (aI K 20 f)) ∧ (∃ fs, g (yxb Y i) = some (ob 0 fs)) ∧ (∃ f, g (yxc Y i) = some (aI K 80 f)) ∧ (∃ f, g (yxo Y i) = some (aI K 20 f)) ∧ (∃ f, g (yta Y) = some (aI K 4 f)) ∧ (2 ≤ ak A i → ∃ f, g (yw Y i) = some (aI K 4 f)) := by
  obtain ⟨h1, ⟨n, cf, tf, h2, _⟩, ⟨m, df, uf, h3, _⟩, h4, _⟩ := h.2.2.1 i hi
  obtain ⟨tf9, ht, _⟩ := h.2.1
  exact ⟨⟨_, h1⟩, ⟨_, h2.1⟩, ⟨_, h2.2.1⟩, ⟨_, h2.2.2⟩, ⟨_, h3.1⟩, ⟨_, h3.2.1⟩, ⟨_, h3.2.2⟩, ⟨_, ht⟩, fun k => by obtain ⟨rf, q, _⟩ := (h4 k).2; exact ⟨rf, q⟩⟩
theorem Fam.ob (hF : Fam g g' A Y i) (h : CS K g x A Y ch p N) (hi : i < 8) {q ci : Nat} {fs : List Value} (hq : g q = some (ob ci fs)) (h6 : ci = 6 → q ≠ yR Y i) (h0 : ci = 0 → q ≠ ynb Y i ∧ q ≠ yxb Y i) : g' q = some (ob ci fs) := by
  obtain ⟨⟨f1, c1⟩, ⟨f2, c2⟩, ⟨f3, c3⟩, ⟨f4, c4⟩, ⟨f5, c5⟩, ⟨f6, c6⟩, ⟨f7, c7⟩, ⟨f8, c8⟩, c9⟩ := h.cells hi
  refine hF q _ hq ?_ ?_ (ne_ob hq c3 ob_aI) (ne_ob hq c4 ob_aI) ?_ (ne_ob hq c6 ob_aI) (ne_ob hq c7 ob_aI) (ne_ob hq c8 ob_aI) (fun k => by obtain ⟨f9, c9⟩ := c9 k; exact ne_ob hq c9 ob_aI)
  · by_cases e : ci = 6
    · exact h6 e
    · exact ne_ob hq c1 (ob_ci e)
  · by_cases e : ci = 0
    · exact (h0 e).1
    · exact ne_ob hq c2 (ob_ci e)
  · by_cases e : ci = 0
    · exact (h0 e).2
    · exact ne_ob hq c5 (ob_ci e)
theorem Fam.ai (hF : Fam g g' A Y i) (h : CS K g x A Y ch p N) (hi : i < 8) {q n : Nat} {f : Nat → Int32} (hq : g q = some (aI K n f)) (h80 : n = 80 → q ≠ ync Y i ∧ q ≠ yxc Y i) (h20 : n = 20 → q ≠ yno Y i ∧ q ≠ yxo Y i) (h4 : n = 4 → q ≠ yta Y ∧ (2 ≤ ak A i → q ≠ yw Y i)) : g' q = some (aI K n f) := by
  obtain ⟨⟨f1, c1⟩, ⟨f2, c2⟩, ⟨f3, c3⟩, ⟨f4, c4⟩, ⟨f5, c5⟩, ⟨f6, c6⟩, ⟨f7, c7⟩, ⟨f8, c8⟩, c9⟩ := h.cells hi
  refine hF q _ hq (ne_ob hq c1 aI_ob) (ne_ob hq c2 aI_ob) ?_ ?_ (ne_ob hq c5 aI_ob) ?_ ?_ ?_ (fun k => ?_)
  · by_cases e : n = 80
    · exact (h80 e).1
    · exact ne_ob hq c3 (aI_ne e)
  · by_cases e : n = 20
    · exact (h20 e).1
    · exact ne_ob hq c4 (aI_ne e)
  · by_cases e : n = 80
    · exact (h80 e).2
    · exact ne_ob hq c6 (aI_ne e)
  · by_cases e : n = 20
    · exact (h20 e).2
    · exact ne_ob hq c7 (aI_ne e)
  · by_cases e : n = 4
    · exact (h4 e).1
    · exact ne_ob hq c8 (aI_ne e)
  · by_cases e : n = 4
    · exact (h4 e).2 k
    · obtain ⟨f9, c9⟩ := c9 k; exact ne_ob hq c9 (aI_ne e)
theorem Fam.bv (hF : Fam g g' A Y i) (h : CS K g x A Y ch p N) (hi : i < 8) : bvAt K g' x (yra Y) (yta Y) (yR Y) := by
  obtain ⟨⟨f1, c1⟩, ⟨f2, c2⟩, ⟨f3, c3⟩, ⟨f4, c4⟩, ⟨f5, c5⟩, ⟨f6, c6⟩, ⟨f7, c7⟩, ⟨f8, c8⟩, c9⟩ := h.cells hi
  obtain ⟨b1, f, b2, b3⟩ := h.1
  refine ⟨hF.ob h hi b1 (fun e => absurd e (by decide)) (fun e => absurd e (by decide)), f, hF _ _ b2 (ne_ob b2 c1 aQ_ob) (ne_ob b2 c2 aQ_ob) (ne_ob b2 c3 aQ_aI) (ne_ob b2 c4 aQ_aI) (ne_ob b2 c5 aQ_ob) (ne_ob b2 c6 aQ_aI) (ne_ob b2 c7 aQ_aI) (ne_ob b2 c8 aQ_aI) (fun k => by obtain ⟨f9, c9⟩ := c9 k; exact ne_ob b2 c9 aQ_aI), b3⟩
/-- a view's object and its columns stay -/
theorem Fam.vw (hF : Fam g g' A Y i) (h : CS K g x A Y ch p N) (hi : i < 8) {j : Nat} (hj : j < 8) (k : 2 ≤ ak A j) : vwAt K g' (yV Y j) (ak A j) (yR Y (al A j)) (yR Y (ar A j)) (ad A j) (yw Y j) (yk Y j) (an A j) (ao A j) := by
  refine ((h.2.2.1 j hj).2.2.2.1 k).1.keep (fun ci fs hv h0 h6 => hF.ob h hi hv (fun e => absurd e h6) (fun e => absurd e h0)) (fun e f hf => ?_)
  have d := h.2.2.2.2.2
  refine hF.ai h hi hf (fun e => absurd e (by decide)) (fun e => absurd e (by decide)) (fun _ => ⟨((d j hj k).2.1) e, fun k2 => (((d i hi k2).2.2 j hj k).2 e).symm⟩)
/-- the other relations stay -/
theorem Fam.other (hF : Fam g g' A Y i) (h : CS K g x A Y ch p N) (hi : i < 8) {j : Nat} (hj : j < 8) (hji : j ≠ i) : RI K g' A Y ch p N j := by
  obtain ⟨h1, ⟨n, cf, tf, h2, h2b⟩, ⟨m, df, uf, h3, h3b⟩, h4, h5⟩ := h.2.2.1 j hj
  obtain ⟨dR, ⟨d1, d2, d3⟩, d4⟩ := h.2.2.2
  have e1 := d1 j hj i hi; have e1' := d1 i hi j hj
  have e2 := d2 j hj i hi; have e2' := d2 i hi j hj
  have e3 := d3 j hj i hi; have e3' := d3 i hi j hj
  refine ⟨hF.ob h hi h1 (fun _ q => hji (dR j hj i hi q)) (fun e => absurd e (by decide)), ⟨n, cf, tf, ⟨?_, ?_, ?_⟩, h2b⟩, ⟨m, df, uf, ⟨?_, ?_, ?_⟩, h3b⟩, fun k => ⟨hF.vw h hi hj k, ?_⟩, h5⟩
  · exact hF.ob h hi h2.1 (fun e => absurd e (by decide)) (fun _ => ⟨fun q => hji (e1.1 q), e1.2.2⟩)
  · exact hF.ai h hi h2.2.1 (fun _ => ⟨fun q => hji (e2.1 q), e2.2.2⟩) (fun e => absurd e (by decide)) (fun e => absurd e (by decide))
  · exact hF.ai h hi h2.2.2 (fun e => absurd e (by decide)) (fun _ => ⟨fun q => hji (e3.1 q), e3.2.2⟩) (fun e => absurd e (by decide))
  · exact hF.ob h hi h3.1 (fun e => absurd e (by decide)) (fun _ => ⟨fun q => e1'.2.2 q.symm, fun q => hji (e1.2.1 q)⟩)
  · exact hF.ai h hi h3.2.1 (fun _ => ⟨fun q => e2'.2.2 q.symm, fun q => hji (e2.2.1 q)⟩) (fun e => absurd e (by decide)) (fun e => absurd e (by decide))
  · exact hF.ai h hi h3.2.2 (fun e => absurd e (by decide)) (fun _ => ⟨fun q => e3'.2.2 q.symm, fun q => hji (e3.2.1 q)⟩) (fun e => absurd e (by decide))
  · obtain ⟨rf, q, hq⟩ := (h4 k).2
    exact ⟨rf, hF.ai h hi q (fun e => absurd e (by decide)) (fun e => absurd e (by decide)) (fun _ => ⟨(d4 j hj k).1, fun k2 z => hji (((d4 j hj k).2.2 i hi k2).1 z)⟩), hq⟩
end Step
theorem Fam.zf {K : Cst} {g g' : Wd} {x : Nat} {A : Ab} {Y : Lt} {ch : Nat → Int32} {p : Nat → Nat} {N : Nat → Bg} {i : Nat} (hF : Fam g g' A Y i) (h : CS K g x A Y ch p N) (hi : i < 8) : Sub (kF K) g' := fun q e hq => by
  obtain ⟨_, _, z1, z2⟩ := h.2.1
  obtain ⟨⟨_, _, z3⟩, z4⟩ := z2 q e hq
  obtain ⟨⟨b1, b2, b3, b4, b5, b6, b7⟩, b8⟩ := z4 i hi
  exact hF q e (z1 q e hq) b1 b2 b3 b4 b5 b6 b7 z3 (fun k => (b8 k).1)
/-- a relation's facts speak of its own place alone -/
theorem RI.cg {K : Cst} {g : Wd} {A A' : Ab} {Y Y' : Lt} {ch ch' : Nat → Int32} {p p' : Nat → Nat} {N N' : Nat → Bg} {j : Nat} (h : RI K g A Y ch p N j) (eR : yR Y' = yR Y) (e1 : ynb Y' j = ynb Y j ∧ ync Y' j = ync Y j ∧ yno Y' j = yno Y j ∧ yxb Y' j = yxb Y j ∧ yxc Y' j = yxc Y j ∧ yxo Y' j = yxo Y j) (e2 : yV Y' j = yV Y j ∧ yw Y' j = yw Y j ∧ yk Y' j = yk Y j)
    (e3 : aw A' j = aw A j ∧ ak A' j = ak A j ∧ al A' j = al A j ∧ ar A' j = ar A j ∧ an A' j = an A j ∧ ao A' j = ao A j ∧ aB A' j = aB A j ∧ ac A' j = ac A j ∧ ad A' j = ad A j) (e4 : ch' j = ch j ∧ p' j = p j ∧ N' j = N j) : RI K g A' Y' ch' p' N' j := by
  obtain ⟨a1, a2, a3, a4, a5, a6⟩ := e1
  obtain ⟨b1, b2, b3⟩ := e2
  obtain ⟨c1, c2, c3, c4, c5, c6, c7, c8, c9⟩ := e3
  obtain ⟨f1, f2, f3⟩ := e4
  unfold RI vwf at h ⊢
  rw [eR, a1, a2, a3, a4, a5, a6, b1, b2, b3, c1, c2, c3, c4, c5, c6, c7, c8, c9, f1, f2, f3]
  exact h
