def A0 : Ab := ((fun _ => 0, fun _ => 0, fun _ => 0, fun _ => 0), (fun _ _ => 0, fun _ => false), (fun _ => [], fun _ => 0, fun _ => 0))
def D2n (n : Nat) (f h : Nat → Nat) : Prop := ∀ i, i < n → ∀ j, j < n → (f i = f j → i = j) ∧ (h i = h j → i = j) ∧ f i ≠ h j
theorem D2n.more {n : Nat} {f h : Nat → Nat} {a b : Nat} (hD : D2n n f h) (hab : a ≠ b) (hf : ∀ i, i < n → f i ≠ a ∧ f i ≠ b ∧ h i ≠ a ∧ h i ≠ b) : D2n (n + 1) (fu f n a) (fu h n b) := by
  intro i hi j hj
  by_cases ei : i = n
  · subst ei
    by_cases ej : j = i
    · subst ej; rw [fu_s, fu_s]; exact ⟨fun _ => rfl, fun _ => rfl, hab⟩
    · have := hf j (by omega)
      rw [fu_s, fu_s, fu_n ej, fu_n ej]; exact ⟨fun q => absurd q.symm this.1, fun q => absurd q.symm this.2.2.2, fun q => this.2.2.1 q.symm⟩
  · by_cases ej : j = n
    · subst ej
      have := hf i (by omega)
      rw [fu_s, fu_s, fu_n ei, fu_n ei]; exact ⟨fun q => absurd q this.1, fun q => absurd q this.2.2.2, this.2.1⟩
    · rw [fu_n ei, fu_n ei, fu_n ej, fu_n ej]; exact hD i (by omega) j (by omega)
/-- the first k relations are made -/
def IniR (K : Cst) (g : Wd) (Y : Lt) (j : Nat) : Prop := g (yR Y j) = some (ob 6 [.ref (ynb Y j), .ref (yxb Y j), .null, .int 0, .int 0, .int 0]) ∧ isBag K g (ynb Y j) (ync Y j) (yno Y j) 0 (fun _ => 0) (fun _ => 0) ∧ isBag K g (yxb Y j) (yxc Y j) (yxo Y j) 0 (fun _ => 0) (fun _ => 0)
def Ini (K : Cst) (g : Wd) (x ra ta k : Nat) : Prop := ∃ Y f, (yra Y = ra ∧ yta Y = ta) ∧ g x = some (ob 9 [.ref ra, .ref ta]) ∧ g ta = some (aI K 4 (fun _ => 0)) ∧ g ra = some (aQ K 8 f) ∧ (∀ j, j < k → f j = some (yR Y j)) ∧ (∀ j, j < k → IniR K g Y j) ∧ ((∀ i, i < k → ∀ j, j < k → yR Y i = yR Y j → i = j) ∧ D2n k (ynb Y) (yxb Y) ∧ D2n k (ync Y) (yxc Y) ∧ D2n k (yno Y) (yxo Y)) ∧ Sub (kF K) g ∧ ∀ q e, kF K q = some e → (q ≠ x ∧ q ≠ ra ∧ q ≠ ta) ∧ ∀ j, j < k → q ≠ yR Y j ∧ q ≠ ynb Y j ∧ q ≠ ync Y j ∧ q ≠ yno Y j ∧ q ≠ yxb Y j ∧ q ≠ yxc Y j ∧ q ≠ yxo Y j
theorem Ini.fin {K : Cst} {g : Wd} {x ra ta : Nat} (h : Ini K g x ra ta 8) : CSx K g x A0 := by
  obtain ⟨Y, f, ⟨e1, e2⟩, h1, h2, h3, h4, h5, ⟨d1, d2, d3, d4⟩, z1, z2⟩ := h
  subst e1; subst e2
  refine ⟨Y, fun _ => 0, fun _ => [], ⟨h1, f, h3, h4⟩, ⟨_, h2, z1, fun q e hq => ⟨(z2 q e hq).1, fun i hi => ⟨(z2 q e hq).2 i hi, fun k => absurd (show 2 ≤ 0 from k) (by decide)⟩⟩⟩, fun j hj => ?_, d1, ⟨d2, d3, d4⟩, fun i hi k => absurd (show 2 ≤ 0 from k) (by decide)⟩
  obtain ⟨a1, a2, a3⟩ := h5 j hj
  exact ⟨a1, ⟨0, _, _, a2, fun q => absurd q (Nat.lt_irrefl 0)⟩, ⟨0, _, _, a3, fun q => absurd q (Nat.lt_irrefl 0)⟩, fun k => absurd (show 2 ≤ 0 from k) (by decide), fun q => absurd q (Nat.lt_irrefl 0)⟩
def iniY (Y : Lt) (k r b1 c1 o1 b2 c2 o2 : Nat) : Lt := (Y.1, (fu (ynb Y) k b1, fu (ync Y) k c1, fu (yno Y) k o1), (fu (yxb Y) k b2, fu (yxc Y) k c2, fu (yxo Y) k o2), (fu (yR Y) k r, yV Y, yw Y, yk Y))
theorem Ini.step {K : Cst} {g g' : Wd} {x ra ta k r b1 c1 o1 b2 c2 o2 : Nat} (hk : k < 8) {Y : Lt} {f : Nat → Option Nat} (e12 : yra Y = ra ∧ yta Y = ta) (h1 : g x = some (ob 9 [.ref ra, .ref ta])) (h2 : g ta = some (aI K 4 (fun _ => 0))) (h3 : g ra = some (aQ K 8 f)) (h4 : ∀ j, j < k → f j = some (yR Y j)) (h5 : ∀ j, j < k → IniR K g Y j) (h6 : (∀ i, i < k → ∀ j, j < k → yR Y i = yR Y j → i = j) ∧ D2n k (ynb Y) (yxb Y) ∧ D2n k (ync Y) (yxc Y) ∧ D2n k (yno Y) (yxo Y)) (z1 : Sub (kF K) g) (z2 : ∀ q e, kF K q = some e → (q ≠ x ∧ q ≠ ra ∧ q ≠ ta) ∧ ∀ j, j < k → q ≠ yR Y j ∧ q ≠ ynb Y j ∧ q ≠ ync Y j ∧ q ≠ yno Y j ∧ q ≠ yxb Y j ∧ q ≠ yxc Y j ∧ q ≠ yxo Y j)
    (fr : g r = none ∧ g b1 = none ∧ g c1 = none ∧ g o1 = none ∧ g b2 = none ∧ g c2 = none ∧ g o2 = none) (nn : b1 ≠ b2 ∧ c1 ≠ c2 ∧ o1 ≠ o2) (hr : g' r = some (ob 6 [.ref b1, .ref b2, .null, .int 0, .int 0, .int 0])) (hb1 : isBag K g' b1 c1 o1 0 (fun _ => 0) (fun _ => 0)) (hb2 : isBag K g' b2 c2 o2 0 (fun _ => 0) (fun _ => 0)) (hra : g' ra = some (aQ K 8 (va_up f k (some r)))) (hkeep : ∀ q e, g q = some e → q ≠ ra → g' q = some e) : Ini K g' x ra ta (k + 1) := by
  obtain ⟨f1, f2, f3, f4, f5, f6, f7⟩ := fr
  have nra : ∀ {q ci fs}, g q = some (ob ci fs) → q ≠ ra := fun h => ne_ob h h3 (fun z => by cases z)
  have nra' : ∀ {q n h9}, g q = some (aI K n h9) → q ≠ ra := fun h => (ne_ob h3 h aQ_aI).symm
  refine ⟨iniY Y k r b1 c1 o1 b2 c2 o2, va_up f k (some r), e12, hkeep _ _ h1 (nra h1), hkeep _ _ h2 (nra' h2), hra, fun j hj => ?_, fun j hj => ?_, ⟨fun i hi j hj => ?_, h6.2.1.more nn.1 (fun i hi => ?_), h6.2.2.1.more nn.2.1 (fun i hi => ?_), h6.2.2.2.more nn.2.2 (fun i hi => ?_)⟩, fun q e hq => hkeep q e (z1 q e hq) (z2 q e hq).1.2.1, fun q e hq => ⟨(z2 q e hq).1, fun j hj => ?_⟩⟩
  · by_cases ej : j = k
    · subst ej; rw [va_up_self]; exact congrArg some (fu_s (yR Y) j r).symm
    · rw [va_up_ne _ _ ej, h4 j (by omega)]; exact congrArg some (fu_n ej).symm
  · unfold IniR iniY
    by_cases ej : j = k
    · subst ej
      show g' (fu (yR Y) j r j) = _ ∧ isBag K g' (fu (ynb Y) j b1 j) (fu (ync Y) j c1 j) (fu (yno Y) j o1 j) _ _ _ ∧ isBag K g' (fu (yxb Y) j b2 j) (fu (yxc Y) j c2 j) (fu (yxo Y) j o2 j) _ _ _
      simp only [fu_s]
      refine ⟨?_, hb1, hb2⟩
      show g' r = some (ob 6 [.ref (fu (ynb Y) j b1 j), .ref (fu (yxb Y) j b2 j), .null, .int 0, .int 0, .int 0])
      rw [fu_s, fu_s]; exact hr
    · obtain ⟨a1, a2, a3⟩ := h5 j (by omega)
      show g' (fu (yR Y) k r j) = some (ob 6 [.ref (fu (ynb Y) k b1 j), .ref (fu (yxb Y) k b2 j), .null, .int 0, .int 0, .int 0]) ∧ isBag K g' (fu (ynb Y) k b1 j) (fu (ync Y) k c1 j) (fu (yno Y) k o1 j) _ _ _ ∧ isBag K g' (fu (yxb Y) k b2 j) (fu (yxc Y) k c2 j) (fu (yxo Y) k o2 j) _ _ _
      simp only [fu_n ej]
      exact ⟨hkeep _ _ a1 (nra a1), ⟨hkeep _ _ a2.1 (nra a2.1), hkeep _ _ a2.2.1 (nra' a2.2.1), hkeep _ _ a2.2.2 (nra' a2.2.2)⟩, ⟨hkeep _ _ a3.1 (nra a3.1), hkeep _ _ a3.2.1 (nra' a3.2.1), hkeep _ _ a3.2.2 (nra' a3.2.2)⟩⟩
  · show fu (yR Y) k r i = fu (yR Y) k r j → i = j
    by_cases ei : i = k
    · subst ei
      by_cases ej : j = i
      · exact fun _ => ej.symm
      · rw [fu_s, fu_n ej]; exact fun q => absurd q.symm (ne_fr (h5 j (by omega)).1 f1)
    · by_cases ej : j = k
      · subst ej; rw [fu_s, fu_n ei]; exact fun q => absurd q (ne_fr (h5 i (by omega)).1 f1)
      · rw [fu_n ei, fu_n ej]; exact h6.1 i (by omega) j (by omega)
  · obtain ⟨_, a2, a3⟩ := h5 i hi
    exact ⟨ne_fr a2.1 f2, ne_fr a2.1 f5, ne_fr a3.1 f2, ne_fr a3.1 f5⟩
  · obtain ⟨_, a2, a3⟩ := h5 i hi
    exact ⟨ne_fr a2.2.1 f3, ne_fr a2.2.1 f6, ne_fr a3.2.1 f3, ne_fr a3.2.1 f6⟩
  · obtain ⟨_, a2, a3⟩ := h5 i hi
    exact ⟨ne_fr a2.2.2 f4, ne_fr a2.2.2 f7, ne_fr a3.2.2 f4, ne_fr a3.2.2 f7⟩
  · show q ≠ fu (yR Y) k r j ∧ q ≠ fu (ynb Y) k b1 j ∧ q ≠ fu (ync Y) k c1 j ∧ q ≠ fu (yno Y) k o1 j ∧ q ≠ fu (yxb Y) k b2 j ∧ q ≠ fu (yxc Y) k c2 j ∧ q ≠ fu (yxo Y) k o2 j
    have zq := z1 q e hq
    by_cases ej : j = k
    · subst ej
      simp only [fu_s]
      exact ⟨ne_fr zq f1, ne_fr zq f2, ne_fr zq f3, ne_fr zq f4, ne_fr zq f5, ne_fr zq f6, ne_fr zq f7⟩
    · simp only [fu_n ej]
      exact (z2 q e hq).2 j (by omega)
set_option maxRecDepth 20000 in
set_option maxHeartbeats 600000 in
/-- BagViews() -/
theorem c_X10_init (l : Launch) (K : Cst) (g : Wd) (x : Nat) (hx : g x = some (ob 9 [.null, .null])) (hz : Sub (kF K) g) (hzx : ∀ q e, kF K q = some e → q ≠ x) : Ct l K yX10_init cX10_init 2 none 3 [.ref x] g (fun v g' => v = none ∧ CSx K g' x A0) (fun _ _ => False) 58 1708 := by
  refine ct_of (by decide) (Nat.le_of_ble_eq_true rfl) ?_
  intro X hl hK hX hE hn hL hR hm
  subst hl; subst hK
  show J X 0 0 g 0 [(0, .ref x)] []
  refine j_aload_n hX dX10_init_0 0 rfl ?_
  refine j_objI hX lk_X10_1 (by rw [hL]; decide) (Nat.le_of_ble_eq_true rfl) dX10_init_1 ?_
  refine j_aload_n hX dX10_init_4 0 rfl ?_
  refine j_bipush (v := nI 8) hX dX10_init_5 (by decide) ?_
  refine j_newQ (n := 8) hX (rfl) (by decide) lk_X10_9 dX10_init_7 (by rw [hR]; decide) (by rw [hR]; decide) (fun ra fra => ?_)
  obtain ⟨g1, eg1⟩ : ∃ z : Wd, z = up g ra (aQ (xK X) 8 (fun _ => none)) := ⟨_, rfl⟩
  refine j_w eg1.symm ?_
  have k1_x := (congrFun eg1 x).trans ((up_n (ne_fr (hx) fra)).trans (hx))
  have k1_ra : g1 ra = some (aQ (xK X) 8 (fun _ => none)) := by rw [eg1]; exact up_s _ _ _
  show J X 1 8 g1 10 [(0, .ref x)] [.ref ra, .ref x]
  refine j_putF hX hm k1_x rfl wf_X10 tyX10_ok nmX10 0 (by decide) lk_X10_11 (fun _ h => h) rfl rfl (tyX10_ok 0 (by decide)) rfl rfl (Nat.le_of_ble_eq_true rfl) dX10_init_10 ?_
  obtain ⟨g2, eg2⟩ : ∃ z : Wd, z = up g1 x (ob 9 [.ref ra, .null]) := ⟨_, rfl⟩
  refine j_w eg2.symm ?_
  have k2_x : g2 x = some (ob 9 [.ref ra, .null]) := by rw [eg2]; exact up_s _ _ _
  have k2_ra := (congrFun eg2 ra).trans ((up_n (by first | exact ne_ob (k1_ra) (k1_x) (by first | simp | decide | (intro h9; cases h9) | (simp only [ne_eq]; intro h9; injection h9 with h8; simp at h8)) | assumption | (apply Ne.symm; assumption))).trans (k1_ra))
  refine j_aload_n hX dX10_init_13 0 rfl ?_
  refine j_iconst (v := nI 4) hX dX10_init_14 (by decide) ?_
  refine j_newI (n := 4) hX (rfl) (by decide) dX10_init_15 (by rw [hR]; decide) (by rw [hR]; decide) (fun ta fta => ?_)
  obtain ⟨g3, eg3⟩ : ∃ z : Wd, z = up g2 ta (aI (xK X) 4 (fun _ => 0)) := ⟨_, rfl⟩
  refine j_w eg3.symm ?_
  have k3_x := (congrFun eg3 x).trans ((up_n (ne_fr (k2_x) fta)).trans (k2_x))
  have k3_ra := (congrFun eg3 ra).trans ((up_n (ne_fr (k2_ra) fta)).trans (k2_ra))
  have k3_ta : g3 ta = some (aI (xK X) 4 (fun _ => 0)) := by rw [eg3]; exact up_s _ _ _
  show J X 2 12 g3 17 [(0, .ref x)] [.ref ta, .ref x]
  refine j_putF hX hm k3_x rfl wf_X10 tyX10_ok nmX10 1 (by decide) lk_X10_15 (fun _ h => h) rfl rfl (tyX10_ok 1 (by decide)) rfl rfl (Nat.le_of_ble_eq_true rfl) dX10_init_17 ?_
  obtain ⟨g4, eg4⟩ : ∃ z : Wd, z = up g3 x (ob 9 [.ref ra, .ref ta]) := ⟨_, rfl⟩
  refine j_w eg4.symm ?_
  have k4_x : g4 x = some (ob 9 [.ref ra, .ref ta]) := by rw [eg4]; exact up_s _ _ _
  have k4_ra := (congrFun eg4 ra).trans ((up_n (by first | exact ne_ob (k3_ra) (k3_x) (by first | simp | decide | (intro h9; cases h9) | (simp only [ne_eq]; intro h9; injection h9 with h8; simp at h8)) | assumption | (apply Ne.symm; assumption))).trans (k3_ra))
  have k4_ta := (congrFun eg4 ta).trans ((up_n (by first | exact ne_ob (k3_ta) (k3_x) (by first | simp | decide | (intro h9; cases h9) | (simp only [ne_eq]; intro h9; injection h9 with h8; simp at h8)) | assumption | (apply Ne.symm; assumption))).trans (k3_ta))
  refine j_iconst (v := nI 0) hX dX10_init_20 (by decide) ?_
  refine j_istore_n (lv' := [(1, .int (nI 0)), (0, .ref x)]) hX dX10_init_21 (by rw [hn]; decide) rfl ?_
  have hs2 : ∀ q e, g q = some e → q ≠ x → g2 q = some e := fun q e hq hn => by rw [eg2, up_n hn, eg1, up_n (ne_fr hq fra)]; exact hq
  have zsub : Sub (kF (xK X)) g4 := fun q e hq => by
    have hq0 := hz q e hq
    have n1 := ne_fr hq0 fra
    have n2 : q ≠ ta := ne_fr (hs2 q e hq0 (hzx q e hq)) fta
    rw [eg4, up_n (hzx q e hq), eg3, up_n n2]
    exact hs2 q e hq0 (hzx q e hq)
  have loop : ∀ (m k : Nat) (g : Wd), k + m = 8 → Ini (xK X) g x ra ta k → J X (2 + 7 * k) (12 + 212 * k) g 22 [(1, .int (nI k)), (0, .ref x)] [] := by
    intro m
    induction m with
    | zero =>
      intro k g hk hinv
      refine j_iload_n hX dX10_init_22 0 rfl ?_
      refine j_bipush (v := nI 8) hX dX10_init_23 (by decide) ?_
      refine j_icmp_ge hX 47 dX10_init_25 (by decide) (fun _ => ?_) (fun c_25 => absurd (nI_le (a := 8) (b := k) (by omega) (by omega)) c_25)
      exact j_vret hX hE dX10_init_47 (⟨rfl, (show Ini (xK X) g x ra ta 8 by rw [← show k = 8 by omega]; exact hinv).fin⟩) (by omega) (by omega)
    | succ m ih =>
      intro k g hk hinv
      obtain ⟨Y, f, e12, h1, h2, h3, h4, h5, h6, z1, z2⟩ := hinv
      refine j_iload_n hX dX10_init_22 0 rfl ?_
      refine j_bipush (v := nI 8) hX dX10_init_23 (by decide) ?_
      refine j_icmp_ge hX 47 dX10_init_25 (by decide) (fun c_25 => absurd c_25 (nI_ge (a := k) (b := 8) (by omega) (by decide))) (fun _ => ?_)
      refine j_aload_n hX dX10_init_28 1 rfl ?_
      refine j_get (v := .ref ra) hX h1 rfl wf_X10 0 (by decide) lk_X10_11 (fun _ h => h) rfl dX10_init_29 ?_
      refine j_iload_n hX dX10_init_32 0 rfl ?_
      refine j_new (ci := 6) (fs := [.null, .null, .null, .int 0, .int 0, .int 0]) hX rfl wf_X6 tyX6_ok lk_X10_9 wA_X6 wN_X6 (fun j hj => by rcases (show j = 0 ∨ j = 1 ∨ j = 2 ∨ j = 3 ∨ j = 4 ∨ j = 5 by omega) with rfl | rfl | rfl | rfl | rfl | rfl <;> rfl) dX10_init_33 (by rw [hR]; dsimp only [rmL]; omega) (by rw [hR]; dsimp only [rmL]; omega) (fun r fr => ?_)
      obtain ⟨g1, eg1⟩ : ∃ z : Wd, z = up g r (ob 6 [.null, .null, .null, .int 0, .int 0, .int 0]) := ⟨_, rfl⟩
      refine j_w eg1.symm ?_
      have k1_x := (congrFun eg1 x).trans ((up_n (ne_fr (h1) fr)).trans (h1))
      have k1_ra := (congrFun eg1 ra).trans ((up_n (ne_fr (h3) fr)).trans (h3))
      have k1_r : g1 r = some (ob 6 [.null, .null, .null, .int 0, .int 0, .int 0]) := by rw [eg1]; exact up_s _ _ _
      show J X (2 + 7 * k + 1) (12 + 212 * k + 6) g1 36 [(1, .int (nI k)), (0, .ref x)] [.ref r, .int (nI k), .ref ra]
      refine j_dup hX dX10_init_36 rfl ?_
      refine j_callIN (As := []) (rest := [.ref r, .int (nI k), .ref ra]) hX (c_X6_init (xl X) (xK X) g1 r k1_r) nk_X10_19 wI_X6_init wN_X6 wC_X6_init rfl hd_X6_init rfl (by rw [hL]; decide) (by decide) rfl (Nat.le_of_ble_eq_true rfl) dX10_init_37 (by rw [hR]; dsimp only [rmL]; omega) (by rw [hR]; dsimp only [rmL]; omega) ?_
      rintro _ w1 ⟨rfl, b1, c1, o1, b2, c2, o2, ⟨fb1, fc1, fo1, fb2, fc2, fo2⟩, nn, hr1, hb1, hb2, hF1⟩
      have u1 : ∀ q, g1 q = none → g q = none := fun q h => dom_up (by rw [← eg1]; exact h)
      have keep1 : ∀ q e, g q = some e → w1 q = some e := fun q e hq => by
        have hq1 : g1 q = some e := by rw [eg1, up_n (ne_fr hq fr)]; exact hq
        rw [hF1 q (by simp [ne_fr hq fr, ne_fr hq1 fb1, ne_fr hq1 fc1, ne_fr hq1 fo1, ne_fr hq1 fb2, ne_fr hq1 fc2, ne_fr hq1 fo2])]; exact hq1
      have ra1 := keep1 _ _ h3
      show J X (2 + 7 * k + 1 + 6) (12 + 212 * k + 6 + 206) w1 40 [(1, .int (nI k)), (0, .ref x)] [.ref r, .int (nI k), .ref ra]
      refine j_aast hX ra1 hr1 rfl (k) (rfl) (by omega) (by decide) dX10_init_40 ?_
      obtain ⟨g2, eg2⟩ : ∃ z : Wd, z = up w1 ra (aQ (xK X) 8 (va_up f (k) (some r))) := ⟨_, rfl⟩
      refine j_w eg2.symm ?_
      have k2_ra : g2 ra = some (aQ (xK X) 8 (va_up f (k) (some r))) := by rw [eg2]; exact up_s _ _ _
      have k2_r := (congrFun eg2 r).trans ((up_n (by first | exact ne_ob (hr1) (ra1) (by first | simp | decide | (intro h9; cases h9) | (simp only [ne_eq]; intro h9; injection h9 with h8; simp at h8)) | assumption | (apply Ne.symm; assumption))).trans (hr1))
      refine j_iinc (v := nI (k + 1)) (lv' := [(1, .int (nI (k + 1))), (0, .ref x)]) hX dX10_init_41 0 rfl (nI_1 k) (by rw [hn]; decide) rfl ?_
      refine j_goto hX 22 dX10_init_44 (by decide) ?_
      have nra : ∀ {q ci fs}, w1 q = some (ob ci fs) → q ≠ ra := fun h => ne_ob h ra1 (fun z => by cases z)
      have nra' : ∀ {q n h9}, w1 q = some (aI (xK X) n h9) → q ≠ ra := fun h => (ne_ob ra1 h aQ_aI).symm
      have e2 : ∀ q, q ≠ ra → g2 q = w1 q := fun q hq => by rw [eg2]; exact up_n hq
      refine j_sub [0, 1] rfl ?_
      refine j_more (show 2 + 7 * k + 1 + 6 ≤ 2 + 7 * (k + 1) by omega) (show 12 + 212 * k + 6 + 206 ≤ 12 + 212 * (k + 1) by omega) ?_
      exact ih (k + 1) g2 (by omega) (Ini.step (by omega) e12 h1 h2 h3 h4 h5 h6 z1 z2 ⟨fr, u1 _ fb1, u1 _ fc1, u1 _ fo1, u1 _ fb2, u1 _ fc2, u1 _ fo2⟩ nn ((e2 _ (nra hr1)).trans hr1) ⟨(e2 _ (nra hb1.1)).trans hb1.1, (e2 _ (nra' hb1.2.1)).trans hb1.2.1, (e2 _ (nra' hb1.2.2)).trans hb1.2.2⟩ ⟨(e2 _ (nra hb2.1)).trans hb2.1, (e2 _ (nra' hb2.2.1)).trans hb2.2.1, (e2 _ (nra' hb2.2.2)).trans hb2.2.2⟩ k2_ra (fun q e hq hn => (e2 q hn).trans (keep1 q e hq)))
  refine j_sub (lv' := [(1, .int (nI 0)), (0, .ref x)]) [0, 1] rfl ?_
  exact loop 8 0 g4 (by omega) ⟨((ra, ta), (fun _ => 0, fun _ => 0, fun _ => 0), (fun _ => 0, fun _ => 0, fun _ => 0), (fun _ => 0, fun _ => 0, fun _ => 0, fun _ => 0)), _, ⟨rfl, rfl⟩, k4_x, k4_ta, k4_ra, fun j hj => absurd hj (by omega), fun j hj => absurd hj (by omega), ⟨fun i hi => absurd hi (by omega), fun i hi => absurd hi (by omega), fun i hi => absurd hi (by omega), fun i hi => absurd hi (by omega)⟩, zsub, fun q e hq => ⟨⟨hzx q e hq, ne_fr (hz q e hq) fra, ne_fr (hs2 q e (hz q e hq) (hzx q e hq)) fta⟩, fun j hj => absurd hj (by omega)⟩⟩

