/-! the state changes at one relation -/
def CSx (K : Cst) (g : Wd) (x : Nat) (A : Ab) : Prop := ∃ Y ch N, CS K g x A Y ch (fun _ => 0) N
def setY (Y : Lt) (i v rw ck : Nat) : Lt := (Y.1, Y.2.1, Y.2.2.1, (yR Y, fu (yV Y) i v, fu (yw Y) i rw, fu (yk Y) i ck))
section Acc9
variable (A : Ab) (Y : Lt) (i w k l r v rw ck : Nat) (n : Nat → Int32) (o : Bool) (B : Bg)
theorem aw_set : aw (setA A i w k l r n o B) = fu (aw A) i w := rfl
theorem ak_set : ak (setA A i w k l r n o B) = fu (ak A) i k := rfl
theorem al_set : al (setA A i w k l r n o B) = fu (al A) i l := rfl
theorem ar_set : ar (setA A i w k l r n o B) = fu (ar A) i r := rfl
theorem an_set : an (setA A i w k l r n o B) = fu (an A) i n := rfl
theorem ao_set : ao (setA A i w k l r n o B) = fu (ao A) i o := rfl
theorem aB_set : aB (setA A i w k l r n o B) = fu (aB A) i B := rfl
theorem ac_set : ac (setA A i w k l r n o B) = fu (ac A) i 0 := rfl
theorem ad_set : ad (setA A i w k l r n o B) = fu (ad A) i (if 2 ≤ k then 1 + max (ad A l) (ad A r) else 0) := rfl
theorem yra_set : yra (setY Y i v rw ck) = yra Y := rfl
theorem yta_set : yta (setY Y i v rw ck) = yta Y := rfl
theorem ynb_set : ynb (setY Y i v rw ck) = ynb Y := rfl
theorem ync_set : ync (setY Y i v rw ck) = ync Y := rfl
theorem yno_set : yno (setY Y i v rw ck) = yno Y := rfl
theorem yxb_set : yxb (setY Y i v rw ck) = yxb Y := rfl
theorem yxc_set : yxc (setY Y i v rw ck) = yxc Y := rfl
theorem yxo_set : yxo (setY Y i v rw ck) = yxo Y := rfl
theorem yR_set : yR (setY Y i v rw ck) = yR Y := rfl
theorem yV_set : yV (setY Y i v rw ck) = fu (yV Y) i v := rfl
theorem yw_set : yw (setY Y i v rw ck) = fu (yw Y) i rw := rfl
theorem yk_set : yk (setY Y i v rw ck) = fu (yk Y) i ck := rfl
theorem aw_drop : aw (dropA A i) = fu (aw A) i 0 := rfl
theorem ak_drop : ak (dropA A i) = fu (ak A) i 0 := rfl
theorem al_drop : al (dropA A i) = al A := rfl
theorem ar_drop : ar (dropA A i) = ar A := rfl
theorem an_drop : an (dropA A i) = an A := rfl
theorem ao_drop : ao (dropA A i) = ao A := rfl
theorem aB_drop : aB (dropA A i) = fu (aB A) i [] := rfl
theorem ac_drop : ac (dropA A i) = ac A := rfl
theorem ad_drop : ad (dropA A i) = fu (ad A) i 0 := rfl
end Acc9
theorem CS.put {K : Cst} {g g' : Wd} {x : Nat} {A A' : Ab} {Y Y' : Lt} {ch ch' : Nat → Int32} {p p' : Nat → Nat} {N N' : Nat → Bg} {i : Nat} (hC : CS K g x A Y ch p N) (hi : i < 8) (hF : Fam g g' A Y i) (hta : rwI K g' (yta Y) (fun _ => True)) (eR : yR Y' = yR Y ∧ yra Y' = yra Y ∧ yta Y' = yta Y) (hRI : RI K g' A' Y' ch' p' N' i) (hDJ : DJ A' Y')
    (e1 : ∀ j, j ≠ i → ynb Y' j = ynb Y j ∧ ync Y' j = ync Y j ∧ yno Y' j = yno Y j ∧ yxb Y' j = yxb Y j ∧ yxc Y' j = yxc Y j ∧ yxo Y' j = yxo Y j) (e2 : ∀ j, j ≠ i → yV Y' j = yV Y j ∧ yw Y' j = yw Y j ∧ yk Y' j = yk Y j)
    (e3 : ∀ j, j ≠ i → aw A' j = aw A j ∧ ak A' j = ak A j ∧ al A' j = al A j ∧ ar A' j = ar A j ∧ an A' j = an A j ∧ ao A' j = ao A j ∧ aB A' j = aB A j ∧ ac A' j = ac A j ∧ ad A' j = ad A j) (e4 : ∀ j, j ≠ i → ch' j = ch j ∧ p' j = p j ∧ N' j = N j) (hz : ∀ q e, g q = some e → ZN x A Y q → ZI A' Y' i q := by exact fun q e _ h => h.2 _ (by assumption)) : CS K g' x A' Y' ch' p' N' := by
  refine ⟨?_, ?_, fun j hj => ?_, hDJ⟩
  · rw [eR.1, eR.2.1, eR.2.2]; exact hF.bv hC hi
  · rw [eR.2.2]
    obtain ⟨tf, ht, _⟩ := hta
    obtain ⟨_, _, z1, z2⟩ := hC.2.1
    refine ⟨tf, ht, hF.zf hC hi, fun q e hq => ?_⟩
    have zn := z2 q e hq
    refine ⟨by rw [eR.2.1, eR.2.2]; exact zn.1, fun j hj => ?_⟩
    by_cases hji : j = i
    · rw [hji]; exact hz q e (z1 q e hq) zn
    · have zj := zn.2 j hj
      obtain ⟨a1, a2, a3, a4, a5, a6⟩ := e1 j hji
      obtain ⟨b1, b2, b3⟩ := e2 j hji
      unfold ZI at zj ⊢
      rw [eR.1, a1, a2, a3, a4, a5, a6, b1, b2, b3, (e3 j hji).2.1]
      exact zj
  · by_cases hji : j = i
    · rw [hji]; exact hRI
    · exact (hF.other hC hi hj hji).cg eR.1 (e1 j hji) (e2 j hji) (e3 j hji) (e4 j hji)
/-- a view is made at i -/
theorem CS.view {K : Cst} {g g' : Wd} {x : Nat} {A : Ab} {Y : Lt} {ch : Nat → Int32} {N : Nat → Bg} {i w kd l r v rw ck : Nat} {n : Nat → Int32} {ot : Bool} {B : Bg} (hC : CS K g x A Y ch (fun _ => 0) N) (hi : i < 8) (hF : Fam g g' A Y i) (hta : rwI K g' (yta Y) (fun _ => True)) (hk : 2 ≤ kd) (h0 : ak A i = 0) (fv : g v = none) (frw : g rw = none) (fck : kd = 3 → g ck = none) (nck : kd = 3 → ck ≠ rw)
    (hR : g' (yR Y i) = some (ob 6 [.ref (ynb Y i), .ref (yxb Y i), .ref v, .int (nI w), .int 0, .int 0])) (hB : bagR K g' (ynb Y i) (ync Y i) (yno Y i) B) (hX : ∃ n cf tf, isBag K g' (yxb Y i) (yxc Y i) (yxo Y i) n cf tf) (hv : vwAt K g' v kd (yR Y l) (yR Y r) (1 + max (ad A l) (ad A r)) rw ck n ot) (hrw : rwI K g' rw (rowIv kd n)) : CS K g' x (setA A i w kd l r n ot B) (setY Y i v rw ck) (fu ch i 0) (fun _ => 0) N := by
  refine hC.put hi hF hta ⟨rfl, rfl, rfl⟩ ?_ ?_ (fun j _ => ⟨rfl, rfl, rfl, rfl, rfl, rfl⟩) (fun j h => ⟨fu_n h, fu_n h, fu_n h⟩) (fun j h => ⟨fu_n h, fu_n h, fu_n h, fu_n h, fu_n h, fu_n h, fu_n h, fu_n h, fu_n h⟩) (fun j h => ⟨fu_n h, rfl, rfl⟩) (fun q e hq zn => by
    obtain ⟨b1, b2⟩ := zn.2 i hi
    unfold ZI
    simp only [aw_set, ak_set, al_set, ar_set, an_set, ao_set, aB_set, ac_set, ad_set, yra_set, yta_set, ynb_set, ync_set, yno_set, yxb_set, yxc_set, yxo_set, yR_set, yV_set, yw_set, yk_set, fu_s]
    exact ⟨b1, fun _ => ⟨ne_fr hq frw, ne_fr hq fv, fun e3 => ne_fr hq (fck e3)⟩⟩)
  · unfold RI vwf
    simp only [aw_set, ak_set, al_set, ar_set, an_set, ao_set, aB_set, ac_set, ad_set, yra_set, yta_set, ynb_set, ync_set, yno_set, yxb_set, yxc_set, yxo_set, yR_set, yV_set, yw_set, yk_set, fu_s, if_pos hk]
    obtain ⟨cf, tf, hb, hr⟩ := hB
    obtain ⟨n9, cf9, tf9, hx⟩ := hX
    exact ⟨hR, ⟨_, cf, tf, hb, fun _ => ⟨rfl, hr⟩⟩, ⟨n9, cf9, tf9, hx, fun q => absurd q (by decide)⟩, fun _ => ⟨hv, hrw⟩, fun _ => rfl⟩
  · obtain ⟨dR, d3, d4⟩ := hC.2.2.2
    obtain ⟨tf, ht, _⟩ := hC.2.1
    have key9 : ∀ j, j < 8 → 2 ≤ ak A j → (∃ f, g (yw Y j) = some (aI K 4 f)) ∧ (ak A j = 3 → ∃ f, g (yk Y j) = some (aI K 4 f)) := fun j hj k => by
      obtain ⟨v9, rf, h9, _⟩ := (hC.2.2.1 j hj).2.2.2.1 k
      refine ⟨⟨rf, h9⟩, fun e => ?_⟩
      rw [e] at v9
      exact ⟨_, v9.2.1⟩
    refine ⟨dR, d3, fun a ha k => ?_⟩
    by_cases hai : a = i
    · subst hai
      simp only [aw_set, ak_set, al_set, ar_set, an_set, ao_set, aB_set, ac_set, ad_set, yra_set, yta_set, ynb_set, ync_set, yno_set, yxb_set, yxc_set, yxo_set, yR_set, yV_set, yw_set, yk_set, fu_s]
      refine ⟨fun q => (by rw [q, ht] at frw; cases frw), fun e q => (by have := fck e; rw [q, ht] at this; cases this), fun j hj kj => ?_⟩
      by_cases hja : j = a
      · subst hja
        simp only [fu_s]
        exact ⟨fun _ => trivial, fun e => (nck e).symm⟩
      · simp only [fu_n hja]
        simp only [aw_set, ak_set, al_set, ar_set, an_set, ao_set, aB_set, ac_set, ad_set, yra_set, yta_set, ynb_set, ync_set, yno_set, yxb_set, yxc_set, yxo_set, yR_set, yV_set, yw_set, yk_set, fu_n hja] at kj
        obtain ⟨⟨f1, q1⟩, q2⟩ := key9 j hj kj
        refine ⟨fun q => (by rw [q, q1] at frw; cases frw), fun e q => ?_⟩
        obtain ⟨f2, q2⟩ := q2 e
        rw [q, q2] at frw; cases frw
    · simp only [aw_set, ak_set, al_set, ar_set, an_set, ao_set, aB_set, ac_set, ad_set, yra_set, yta_set, ynb_set, ync_set, yno_set, yxb_set, yxc_set, yxo_set, yR_set, yV_set, yw_set, yk_set, fu_n hai] at k ⊢
      obtain ⟨h1, h2, h3⟩ := d4 a ha k
      obtain ⟨⟨f1, q1⟩, q2⟩ := key9 a ha k
      refine ⟨h1, h2, fun j hj kj => ?_⟩
      by_cases hja : j = i
      · subst hja
        simp only [fu_s]
        exact ⟨fun q => (by rw [← q, q1] at frw; cases frw), fun e q => (by have := fck e; rw [← q, q1] at this; cases this)⟩
      · simp only [fu_n hja] at kj ⊢
        exact h3 j hj kj
/-- what a call that may be refused comes to: k is 0, or 1 to 4 by what it throws -/
def OutG {α : Type} (ins used ok : Prop) (o : α → Prop) (A : Ab) (mk : α → Ab) (k : Nat) (A' : Ab) : Prop :=
  (k = 1 ∧ ¬ ins ∧ A' = A) ∨ (k = 2 ∧ ins ∧ used ∧ A' = A) ∨ (k = 3 ∧ ins ∧ ¬ used ∧ ¬ ok ∧ A' = A) ∨ (k = 4 ∧ ins ∧ ¬ used ∧ ok ∧ (¬ ∃ a, o a) ∧ A' = A) ∨ (k = 0 ∧ ins ∧ ¬ used ∧ ok ∧ ∃ a, o a ∧ A' = mk a)
theorem OutG.det {α : Type} {ins used ok : Prop} {o : α → Prop} {A : Ab} {mk : α → Ab} {k1 k2 : Nat} {A1 A2 : Ab} (hu : ∀ a b, o a → o b → mk a = mk b) (h1 : OutG ins used ok o A mk k1 A1) (h2 : OutG ins used ok o A mk k2 A2) : k1 = k2 ∧ A1 = A2 := by
  rcases h1 with ⟨rfl, a1, rfl⟩ | ⟨rfl, a1, b1, rfl⟩ | ⟨rfl, a1, b1, c1, rfl⟩ | ⟨rfl, a1, b1, c1, d1, rfl⟩ | ⟨rfl, a1, b1, c1, ⟨z1, d1, rfl⟩⟩ <;>
  rcases h2 with ⟨rfl, a2, rfl⟩ | ⟨rfl, a2, b2, rfl⟩ | ⟨rfl, a2, b2, c2, rfl⟩ | ⟨rfl, a2, b2, c2, d2, rfl⟩ | ⟨rfl, a2, b2, c2, ⟨z2, d2, rfl⟩⟩ <;>
  first
  | exact ⟨rfl, rfl⟩
  | exact absurd a2 a1
  | exact absurd a1 a2
  | exact absurd b2 b1
  | exact absurd b1 b2
  | exact absurd c2 c1
  | exact absurd c1 c2
  | exact absurd ⟨_, d2⟩ d1
  | exact absurd ⟨_, d1⟩ d2
  | exact ⟨rfl, hu _ _ d1 d2⟩
def exn (k : Nat) : String := match k with
  | 1 => "java/lang/IndexOutOfBoundsException"
  | 2 => "java/lang/IllegalStateException"
  | 3 => "java/lang/IllegalArgumentException"
  | _ => "java/lang/UnsupportedOperationException"
/-- what a method owes that comes to an outcome -/
def PostG (K : Cst) (x : Nat) (O : Nat → Ab → Prop) : Option Value → Wd → Prop := fun v g' => v = none ∧ ∃ A', O 0 A' ∧ CSx K g' x A'
def XG (K : Cst) (x : Nat) (O : Nat → Ab → Prop) : String → Wd → Prop := fun E g' => ∃ k A', (1 ≤ k ∧ k ≤ 4) ∧ E = exn k ∧ O k A' ∧ CSx K g' x A'
