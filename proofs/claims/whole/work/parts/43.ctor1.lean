theorem dom_up {g : Wd} {a q : Nat} {e : va_E} (h : up g a e q = none) : g q = none := by
  by_cases hq : q = a
  · rw [hq, up_s] at h; cases h
  · rw [up_n hq] at h; exact h
theorem dom_fr {K : Cst} {g w : Wd} {b ca oa n q : Nat} {cf tf : Nat → Int32} (hf : ∀ q, q ≠ b → q ≠ ca → q ≠ oa → w q = g q) (hB : isBag K w b ca oa n cf tf) (h : w q = none) : g q = none := by
  rw [← hf q (fun e => by rw [e, hB.1] at h; cases h) (fun e => by rw [e, hB.2.1] at h; cases h) (fun e => by rw [e, hB.2.2] at h; cases h)]; exact h
set_option maxRecDepth 20000 in
set_option maxHeartbeats 600000 in
/-- Bag() -/
theorem c_X0_init (l : Launch) (K : Cst) (g : Wd) (b : Nat) (hb9 : g b = some (ob 0 [.null, .null, .int 0])) : Ct l K yX0_init cX0_init 1 none 1 [.ref b] g (fun v g' => v = none ∧ ∃ ca oa, g ca = none ∧ g oa = none ∧ ca ≠ oa ∧ isBag K g' b ca oa 0 (fun _ => 0) (fun _ => 0) ∧ ∀ q, q ≠ b → q ≠ ca → q ≠ oa → g' q = g q) (fun _ _ => False) 2 100 := by
  refine ct_of (by decide) (Nat.le_of_ble_eq_true rfl) ?_
  intro X hl hK hX hE hn hL hR hm
  subst hl; subst hK
  show J X 0 0 g 0 [(0, .ref b)] []
  refine j_aload_n hX dX0_init_0 0 rfl ?_
  refine j_objI hX lk_X0_3 (by rw [hL]; decide) (Nat.le_of_ble_eq_true rfl) dX0_init_1 ?_
  refine j_aload_n hX dX0_init_4 0 rfl ?_
  refine j_bipush (v := nI 80) hX dX0_init_5 (by decide) ?_
  refine j_newI (n := 80) hX (rfl) (by decide) dX0_init_7 (by rw [hR]; decide) (by rw [hR]; decide) (fun ca fca => ?_)
  obtain ⟨g1, eg1⟩ : ∃ z : Wd, z = up g ca (aI (xK X) 80 (fun _ => 0)) := ⟨_, rfl⟩
  refine j_w eg1.symm ?_
  have k1_b := (congrFun eg1 b).trans ((up_n (ne_fr (hb9) fca)).trans (hb9))
  have k1_ca : g1 ca = some (aI (xK X) 80 (fun _ => 0)) := by rw [eg1]; exact up_s _ _ _
  show J X 1 80 g1 9 [(0, .ref b)] [.ref ca, .ref b]
  refine j_putF hX hm k1_b rfl wf_X0 tyX0_ok nmX0 0 (by decide) lk_X0_9 (fun _ h => h) rfl rfl (tyX0_ok 0 (by decide)) rfl rfl (Nat.le_of_ble_eq_true rfl) dX0_init_9 ?_
  obtain ⟨g2, eg2⟩ : ∃ z : Wd, z = up g1 b (ob 0 [.ref ca, .null, .int 0]) := ⟨_, rfl⟩
  refine j_w eg2.symm ?_
  have k2_b : g2 b = some (ob 0 [.ref ca, .null, .int 0]) := by rw [eg2]; exact up_s _ _ _
  have k2_ca := (congrFun eg2 ca).trans ((up_n (by first | exact ne_ob (k1_ca) (k1_b) (by first | simp | decide | (intro h9; cases h9) | (simp only [ne_eq]; intro h9; injection h9 with h8; simp at h8)) | assumption | (apply Ne.symm; assumption))).trans (k1_ca))
  have k1_ca9 := k2_ca
  refine j_aload_n hX dX0_init_12 0 rfl ?_
  refine j_bipush (v := nI 20) hX dX0_init_13 (by decide) ?_
  refine j_newI (n := 20) hX (rfl) (by decide) dX0_init_15 (by rw [hR]; decide) (by rw [hR]; decide) (fun oa foa => ?_)
  have n_oa_b : oa ≠ b := (ne_fr k2_b foa).symm
  have n_oa_ca : oa ≠ ca := (ne_fr k2_ca foa).symm
  have foa9 : g oa = none := by rw [← foa, eg2, up_n n_oa_b, eg1, up_n n_oa_ca]
  obtain ⟨g3, eg3⟩ : ∃ z : Wd, z = up g2 oa (aI (xK X) 20 (fun _ => 0)) := ⟨_, rfl⟩
  refine j_w eg3.symm ?_
  have k3_b := (congrFun eg3 b).trans ((up_n (ne_fr (k2_b) foa)).trans (k2_b))
  have k3_ca := (congrFun eg3 ca).trans ((up_n (ne_fr (k2_ca) foa)).trans (k2_ca))
  have k3_oa : g3 oa = some (aI (xK X) 20 (fun _ => 0)) := by rw [eg3]; exact up_s _ _ _
  show J X 2 100 g3 17 [(0, .ref b)] [.ref oa, .ref b]
  refine j_putF hX hm k3_b rfl wf_X0 tyX0_ok nmX0 1 (by decide) lk_X0_15 (fun _ h => h) rfl rfl (tyX0_ok 1 (by decide)) rfl rfl (Nat.le_of_ble_eq_true rfl) dX0_init_17 ?_
  obtain ⟨g4, eg4⟩ : ∃ z : Wd, z = up g3 b (ob 0 [.ref ca, .ref oa, .int 0]) := ⟨_, rfl⟩
  refine j_w eg4.symm ?_
  have k4_b : g4 b = some (ob 0 [.ref ca, .ref oa, .int 0]) := by rw [eg4]; exact up_s _ _ _
  have k4_ca := (congrFun eg4 ca).trans ((up_n (by first | exact ne_ob (k3_ca) (k3_b) (by first | simp | decide | (intro h9; cases h9) | (simp only [ne_eq]; intro h9; injection h9 with h8; simp at h8)) | assumption | (apply Ne.symm; assumption))).trans (k3_ca))
  have k4_oa := (congrFun eg4 oa).trans ((up_n (by first | exact ne_ob (k3_oa) (k3_b) (by first | simp | decide | (intro h9; cases h9) | (simp only [ne_eq]; intro h9; injection h9 with h8; simp at h8)) | assumption | (apply Ne.symm; assumption))).trans (k3_oa))
  exact j_vret hX hE dX0_init_20 (⟨rfl, ca, oa, fca, foa9, n_oa_ca.symm, ⟨k4_b, k4_ca, k4_oa⟩, fun q h1 h2 h3 => by rw [eg4, up_n h1, eg3, up_n h3, eg2, up_n h1, eg1, up_n h2]⟩) (by decide) (by decide)

set_option maxRecDepth 20000 in
set_option maxHeartbeats 600000 in
/-- Relation() -/
theorem c_X6_init (l : Launch) (K : Cst) (g : Wd) (r : Nat) (hr : g r = some (ob 6 [.null, .null, .null, .int 0, .int 0, .int 0])) : Ct l K yX6_init cX6_init 1 none 2 [.ref r] g (fun v g' => v = none ∧ ∃ b1 ca1 oa1 b2 ca2 oa2, (g b1 = none ∧ g ca1 = none ∧ g oa1 = none ∧ g b2 = none ∧ g ca2 = none ∧ g oa2 = none) ∧ (b1 ≠ b2 ∧ ca1 ≠ ca2 ∧ oa1 ≠ oa2) ∧ g' r = some (ob 6 [.ref b1, .ref b2, .null, .int 0, .int 0, .int 0]) ∧ isBag K g' b1 ca1 oa1 0 (fun _ => 0) (fun _ => 0) ∧ isBag K g' b2 ca2 oa2 0 (fun _ => 0) (fun _ => 0) ∧ ∀ q, q ∉ [r, b1, ca1, oa1, b2, ca2, oa2] → g' q = g q) (fun _ _ => False) 6 206 := by
  refine ct_of (by decide) (Nat.le_of_ble_eq_true rfl) ?_
  intro X hl hK hX hE hn hL hR hm
  subst hl; subst hK
  show J X 0 0 g 0 [(0, .ref r)] []
  refine j_aload_n hX dX6_init_0 0 rfl ?_
  refine j_objI hX lk_X6_1 (by rw [hL]; decide) (Nat.le_of_ble_eq_true rfl) dX6_init_1 ?_
  refine j_aload_n hX dX6_init_4 0 rfl ?_
  refine j_new (ci := 0) (fs := [.null, .null, .int 0]) hX rfl wf_X0 tyX0_ok lk_X6_7 wA_X0 wN_X0 (fun j hj => by rcases (show j = 0 ∨ j = 1 ∨ j = 2 by omega) with rfl | rfl | rfl <;> rfl) dX6_init_5 (by rw [hR]; decide) (by rw [hR]; decide) (fun b1 fb1 => ?_)
  obtain ⟨g1, eg1⟩ : ∃ z : Wd, z = up g b1 (ob 0 [.null, .null, .int 0]) := ⟨_, rfl⟩
  refine j_w eg1.symm ?_
  have k1_r := (congrFun eg1 r).trans ((up_n (ne_fr (hr) fb1)).trans (hr))
  have k1_b1 : g1 b1 = some (ob 0 [.null, .null, .int 0]) := by rw [eg1]; exact up_s _ _ _
  show J X 1 3 g1 8 [(0, .ref r)] [.ref b1, .ref r]
  refine j_dup hX dX6_init_8 rfl ?_
  refine j_callIN (As := []) (rest := [.ref b1, .ref r]) hX (c_X0_init (xl X) (xK X) g1 b1 k1_b1) nk_X6_9 wI_X0_init wN_X0 wC_X0_init rfl hd_X0_init rfl (by rw [hL]; decide) (by decide) rfl (Nat.le_of_ble_eq_true rfl) dX6_init_9 (by rw [hR]; decide) (by rw [hR]; decide) ?_
  rintro _ w1 ⟨rfl, ca1, oa1, fc1, fo1, n_co1, B1w, hw1⟩
  have rw1 := (hw1 r (ne_ob (k1_r) (k1_b1) (by simp)) (ne_fr (k1_r) fc1) (ne_fr (k1_r) fo1)).trans (k1_r)
  show J X 3 103 w1 12 [(0, .ref r)] [.ref b1, .ref r]
  refine j_put hX rw1 rfl wf_X6 tyX6_ok nmX6 0 (by decide) lk_X6_10 (fun _ h => h) rfl (tyX6_ok 0 (by decide)) rfl rfl (Nat.le_of_ble_eq_true rfl) dX6_init_12 ?_
  obtain ⟨g2, eg2⟩ : ∃ z : Wd, z = up w1 r (ob 6 [.ref b1, .null, .null, .int 0, .int 0, .int 0]) := ⟨_, rfl⟩
  refine j_w eg2.symm ?_
  have k2_r : g2 r = some (ob 6 [.ref b1, .null, .null, .int 0, .int 0, .int 0]) := by rw [eg2]; exact up_s _ _ _
  have k2_b1 := (congrFun eg2 b1).trans ((up_n (by first | exact ne_ob (B1w.1) (rw1) (by first | simp | decide | (intro h9; cases h9) | (simp only [ne_eq]; intro h9; injection h9 with h8; simp at h8)) | assumption | (apply Ne.symm; assumption))).trans (B1w.1))
  have k2_ca1 := (congrFun eg2 ca1).trans ((up_n (by first | exact ne_ob (B1w.2.1) (rw1) (by first | simp | decide | (intro h9; cases h9) | (simp only [ne_eq]; intro h9; injection h9 with h8; simp at h8)) | assumption | (apply Ne.symm; assumption))).trans (B1w.2.1))
  have k2_oa1 := (congrFun eg2 oa1).trans ((up_n (by first | exact ne_ob (B1w.2.2) (rw1) (by first | simp | decide | (intro h9; cases h9) | (simp only [ne_eq]; intro h9; injection h9 with h8; simp at h8)) | assumption | (apply Ne.symm; assumption))).trans (B1w.2.2))
  refine j_aload_n hX dX6_init_15 0 rfl ?_
  refine j_new (ci := 0) (fs := [.null, .null, .int 0]) hX rfl wf_X0 tyX0_ok lk_X6_7 wA_X0 wN_X0 (fun j hj => by rcases (show j = 0 ∨ j = 1 ∨ j = 2 by omega) with rfl | rfl | rfl <;> rfl) dX6_init_16 (by rw [hR]; decide) (by rw [hR]; decide) (fun b2 fb2 => ?_)
  obtain ⟨g3, eg3⟩ : ∃ z : Wd, z = up g2 b2 (ob 0 [.null, .null, .int 0]) := ⟨_, rfl⟩
  refine j_w eg3.symm ?_
  have k3_r := (congrFun eg3 r).trans ((up_n (ne_fr (k2_r) fb2)).trans (k2_r))
  have k3_b1 := (congrFun eg3 b1).trans ((up_n (ne_fr (k2_b1) fb2)).trans (k2_b1))
  have k3_ca1 := (congrFun eg3 ca1).trans ((up_n (ne_fr (k2_ca1) fb2)).trans (k2_ca1))
  have k3_oa1 := (congrFun eg3 oa1).trans ((up_n (ne_fr (k2_oa1) fb2)).trans (k2_oa1))
  have k3_b2 : g3 b2 = some (ob 0 [.null, .null, .int 0]) := by rw [eg3]; exact up_s _ _ _
  show J X 4 106 g3 19 [(0, .ref r)] [.ref b2, .ref r]
  refine j_dup hX dX6_init_19 rfl ?_
  refine j_callIN (As := []) (rest := [.ref b2, .ref r]) hX (c_X0_init (xl X) (xK X) g3 b2 k3_b2) nk_X6_9 wI_X0_init wN_X0 wC_X0_init rfl hd_X0_init rfl (by rw [hL]; decide) (by decide) rfl (Nat.le_of_ble_eq_true rfl) dX6_init_20 (by rw [hR]; decide) (by rw [hR]; decide) ?_
  rintro _ w2 ⟨rfl, ca2, oa2, fc2, fo2, n_co2, B2w, hw2⟩
  have rw2 := (hw2 r (ne_ob (k3_r) (k3_b2) (by simp)) (ne_fr (k3_r) fc2) (ne_fr (k3_r) fo2)).trans (k3_r)
  have zb10 := (hw2 b1 (ne_fr k2_b1 fb2) (ne_fr (k3_b1) fc2) (ne_fr (k3_b1) fo2)).trans (k3_b1)
  have zca11 := (hw2 ca1 (ne_fr k2_ca1 fb2) (ne_fr (k3_ca1) fc2) (ne_fr (k3_ca1) fo2)).trans (k3_ca1)
  have zoa12 := (hw2 oa1 (ne_fr k2_oa1 fb2) (ne_fr (k3_oa1) fc2) (ne_fr (k3_oa1) fo2)).trans (k3_oa1)
  show J X 6 206 w2 23 [(0, .ref r)] [.ref b2, .ref r]
  refine j_put hX rw2 rfl wf_X6 tyX6_ok nmX6 1 (by decide) lk_X6_16 (fun _ h => h) rfl (tyX6_ok 1 (by decide)) rfl rfl (Nat.le_of_ble_eq_true rfl) dX6_init_23 ?_
  obtain ⟨g4, eg4⟩ : ∃ z : Wd, z = up w2 r (ob 6 [.ref b1, .ref b2, .null, .int 0, .int 0, .int 0]) := ⟨_, rfl⟩
  refine j_w eg4.symm ?_
  have k4_r : g4 r = some (ob 6 [.ref b1, .ref b2, .null, .int 0, .int 0, .int 0]) := by rw [eg4]; exact up_s _ _ _
  have k4_b2 := (congrFun eg4 b2).trans ((up_n (by first | exact ne_ob (B2w.1) (rw2) (by first | simp | decide | (intro h9; cases h9) | (simp only [ne_eq]; intro h9; injection h9 with h8; simp at h8)) | assumption | (apply Ne.symm; assumption))).trans (B2w.1))
  have k4_ca2 := (congrFun eg4 ca2).trans ((up_n (by first | exact ne_ob (B2w.2.1) (rw2) (by first | simp | decide | (intro h9; cases h9) | (simp only [ne_eq]; intro h9; injection h9 with h8; simp at h8)) | assumption | (apply Ne.symm; assumption))).trans (B2w.2.1))
  have k4_oa2 := (congrFun eg4 oa2).trans ((up_n (by first | exact ne_ob (B2w.2.2) (rw2) (by first | simp | decide | (intro h9; cases h9) | (simp only [ne_eq]; intro h9; injection h9 with h8; simp at h8)) | assumption | (apply Ne.symm; assumption))).trans (B2w.2.2))
  have k4_b1 := (congrFun eg4 b1).trans ((up_n (by first | exact ne_ob (zb10) (rw2) (by first | simp | decide | (intro h9; cases h9) | (simp only [ne_eq]; intro h9; injection h9 with h8; simp at h8)) | assumption | (apply Ne.symm; assumption))).trans (zb10))
  have k4_ca1 := (congrFun eg4 ca1).trans ((up_n (by first | exact ne_ob (zca11) (rw2) (by first | simp | decide | (intro h9; cases h9) | (simp only [ne_eq]; intro h9; injection h9 with h8; simp at h8)) | assumption | (apply Ne.symm; assumption))).trans (zca11))
  have k4_oa1 := (congrFun eg4 oa1).trans ((up_n (by first | exact ne_ob (zoa12) (rw2) (by first | simp | decide | (intro h9; cases h9) | (simp only [ne_eq]; intro h9; injection h9 with h8; simp at h8)) | assumption | (apply Ne.symm; assumption))).trans (zoa12))
  refine j_aload_n hX dX6_init_26 0 rfl ?_
  refine j_null hX dX6_init_27 ?_
  refine j_put hX k4_r rfl wf_X6 tyX6_ok nmX6 2 (by decide) lk_X6_19 (fun _ h => h) rfl (tyX6_ok 2 (by decide)) rfl rfl (Nat.le_of_ble_eq_true rfl) dX6_init_28 ?_
  obtain ⟨g5, eg5⟩ : ∃ z : Wd, z = up g4 r (ob 6 [.ref b1, .ref b2, .null, .int 0, .int 0, .int 0]) := ⟨_, rfl⟩
  refine j_w eg5.symm ?_
  have k5_r : g5 r = some (ob 6 [.ref b1, .ref b2, .null, .int 0, .int 0, .int 0]) := by rw [eg5]; exact up_s _ _ _
  have k5_b2 := (congrFun eg5 b2).trans ((up_n (by first | exact ne_ob (k4_b2) (k4_r) (by first | simp | decide | (intro h9; cases h9) | (simp only [ne_eq]; intro h9; injection h9 with h8; simp at h8)) | assumption | (apply Ne.symm; assumption))).trans (k4_b2))
  have k5_ca2 := (congrFun eg5 ca2).trans ((up_n (by first | exact ne_ob (k4_ca2) (k4_r) (by first | simp | decide | (intro h9; cases h9) | (simp only [ne_eq]; intro h9; injection h9 with h8; simp at h8)) | assumption | (apply Ne.symm; assumption))).trans (k4_ca2))
  have k5_oa2 := (congrFun eg5 oa2).trans ((up_n (by first | exact ne_ob (k4_oa2) (k4_r) (by first | simp | decide | (intro h9; cases h9) | (simp only [ne_eq]; intro h9; injection h9 with h8; simp at h8)) | assumption | (apply Ne.symm; assumption))).trans (k4_oa2))
  have k5_b1 := (congrFun eg5 b1).trans ((up_n (by first | exact ne_ob (k4_b1) (k4_r) (by first | simp | decide | (intro h9; cases h9) | (simp only [ne_eq]; intro h9; injection h9 with h8; simp at h8)) | assumption | (apply Ne.symm; assumption))).trans (k4_b1))
  have k5_ca1 := (congrFun eg5 ca1).trans ((up_n (by first | exact ne_ob (k4_ca1) (k4_r) (by first | simp | decide | (intro h9; cases h9) | (simp only [ne_eq]; intro h9; injection h9 with h8; simp at h8)) | assumption | (apply Ne.symm; assumption))).trans (k4_ca1))
  have k5_oa1 := (congrFun eg5 oa1).trans ((up_n (by first | exact ne_ob (k4_oa1) (k4_r) (by first | simp | decide | (intro h9; cases h9) | (simp only [ne_eq]; intro h9; injection h9 with h8; simp at h8)) | assumption | (apply Ne.symm; assumption))).trans (k4_oa1))
  refine j_aload_n hX dX6_init_31 0 rfl ?_
  refine j_iconst (v := 0) hX dX6_init_32 (by decide) ?_
  refine j_put hX k5_r rfl wf_X6 tyX6_ok nmX6 3 (by decide) lk_X6_23 (fun _ h => h) rfl (tyX6_ok 3 (by decide)) rfl rfl (Nat.le_of_ble_eq_true rfl) dX6_init_33 ?_
  obtain ⟨g6, eg6⟩ : ∃ z : Wd, z = up g5 r (ob 6 [.ref b1, .ref b2, .null, .int 0, .int 0, .int 0]) := ⟨_, rfl⟩
  refine j_w eg6.symm ?_
  have k6_r : g6 r = some (ob 6 [.ref b1, .ref b2, .null, .int 0, .int 0, .int 0]) := by rw [eg6]; exact up_s _ _ _
  have k6_b2 := (congrFun eg6 b2).trans ((up_n (by first | exact ne_ob (k5_b2) (k5_r) (by first | simp | decide | (intro h9; cases h9) | (simp only [ne_eq]; intro h9; injection h9 with h8; simp at h8)) | assumption | (apply Ne.symm; assumption))).trans (k5_b2))
  have k6_ca2 := (congrFun eg6 ca2).trans ((up_n (by first | exact ne_ob (k5_ca2) (k5_r) (by first | simp | decide | (intro h9; cases h9) | (simp only [ne_eq]; intro h9; injection h9 with h8; simp at h8)) | assumption | (apply Ne.symm; assumption))).trans (k5_ca2))
  have k6_oa2 := (congrFun eg6 oa2).trans ((up_n (by first | exact ne_ob (k5_oa2) (k5_r) (by first | simp | decide | (intro h9; cases h9) | (simp only [ne_eq]; intro h9; injection h9 with h8; simp at h8)) | assumption | (apply Ne.symm; assumption))).trans (k5_oa2))
  have k6_b1 := (congrFun eg6 b1).trans ((up_n (by first | exact ne_ob (k5_b1) (k5_r) (by first | simp | decide | (intro h9; cases h9) | (simp only [ne_eq]; intro h9; injection h9 with h8; simp at h8)) | assumption | (apply Ne.symm; assumption))).trans (k5_b1))
  have k6_ca1 := (congrFun eg6 ca1).trans ((up_n (by first | exact ne_ob (k5_ca1) (k5_r) (by first | simp | decide | (intro h9; cases h9) | (simp only [ne_eq]; intro h9; injection h9 with h8; simp at h8)) | assumption | (apply Ne.symm; assumption))).trans (k5_ca1))
  have k6_oa1 := (congrFun eg6 oa1).trans ((up_n (by first | exact ne_ob (k5_oa1) (k5_r) (by first | simp | decide | (intro h9; cases h9) | (simp only [ne_eq]; intro h9; injection h9 with h8; simp at h8)) | assumption | (apply Ne.symm; assumption))).trans (k5_oa1))
  refine j_aload_n hX dX6_init_36 0 rfl ?_
  refine j_iconst (v := 0) hX dX6_init_37 (by decide) ?_
  refine j_put hX k6_r rfl wf_X6 tyX6_ok nmX6 4 (by decide) lk_X6_27 (fun _ h => h) rfl (tyX6_ok 4 (by decide)) rfl rfl (Nat.le_of_ble_eq_true rfl) dX6_init_38 ?_
  obtain ⟨g7, eg7⟩ : ∃ z : Wd, z = up g6 r (ob 6 [.ref b1, .ref b2, .null, .int 0, .int 0, .int 0]) := ⟨_, rfl⟩
  refine j_w eg7.symm ?_
  have k7_r : g7 r = some (ob 6 [.ref b1, .ref b2, .null, .int 0, .int 0, .int 0]) := by rw [eg7]; exact up_s _ _ _
  have k7_b2 := (congrFun eg7 b2).trans ((up_n (by first | exact ne_ob (k6_b2) (k6_r) (by first | simp | decide | (intro h9; cases h9) | (simp only [ne_eq]; intro h9; injection h9 with h8; simp at h8)) | assumption | (apply Ne.symm; assumption))).trans (k6_b2))
  have k7_ca2 := (congrFun eg7 ca2).trans ((up_n (by first | exact ne_ob (k6_ca2) (k6_r) (by first | simp | decide | (intro h9; cases h9) | (simp only [ne_eq]; intro h9; injection h9 with h8; simp at h8)) | assumption | (apply Ne.symm; assumption))).trans (k6_ca2))
  have k7_oa2 := (congrFun eg7 oa2).trans ((up_n (by first | exact ne_ob (k6_oa2) (k6_r) (by first | simp | decide | (intro h9; cases h9) | (simp only [ne_eq]; intro h9; injection h9 with h8; simp at h8)) | assumption | (apply Ne.symm; assumption))).trans (k6_oa2))
  have k7_b1 := (congrFun eg7 b1).trans ((up_n (by first | exact ne_ob (k6_b1) (k6_r) (by first | simp | decide | (intro h9; cases h9) | (simp only [ne_eq]; intro h9; injection h9 with h8; simp at h8)) | assumption | (apply Ne.symm; assumption))).trans (k6_b1))
  have k7_ca1 := (congrFun eg7 ca1).trans ((up_n (by first | exact ne_ob (k6_ca1) (k6_r) (by first | simp | decide | (intro h9; cases h9) | (simp only [ne_eq]; intro h9; injection h9 with h8; simp at h8)) | assumption | (apply Ne.symm; assumption))).trans (k6_ca1))
  have k7_oa1 := (congrFun eg7 oa1).trans ((up_n (by first | exact ne_ob (k6_oa1) (k6_r) (by first | simp | decide | (intro h9; cases h9) | (simp only [ne_eq]; intro h9; injection h9 with h8; simp at h8)) | assumption | (apply Ne.symm; assumption))).trans (k6_oa1))
  refine j_aload_n hX dX6_init_41 0 rfl ?_
  refine j_iconst (v := 0) hX dX6_init_42 (by decide) ?_
  refine j_put hX k7_r rfl wf_X6 tyX6_ok nmX6 5 (by decide) lk_X6_30 (fun _ h => h) rfl (tyX6_ok 5 (by decide)) rfl rfl (Nat.le_of_ble_eq_true rfl) dX6_init_43 ?_
  obtain ⟨g8, eg8⟩ : ∃ z : Wd, z = up g7 r (ob 6 [.ref b1, .ref b2, .null, .int 0, .int 0, .int 0]) := ⟨_, rfl⟩
  refine j_w eg8.symm ?_
  have k8_r : g8 r = some (ob 6 [.ref b1, .ref b2, .null, .int 0, .int 0, .int 0]) := by rw [eg8]; exact up_s _ _ _
  have k8_b2 := (congrFun eg8 b2).trans ((up_n (by first | exact ne_ob (k7_b2) (k7_r) (by first | simp | decide | (intro h9; cases h9) | (simp only [ne_eq]; intro h9; injection h9 with h8; simp at h8)) | assumption | (apply Ne.symm; assumption))).trans (k7_b2))
  have k8_ca2 := (congrFun eg8 ca2).trans ((up_n (by first | exact ne_ob (k7_ca2) (k7_r) (by first | simp | decide | (intro h9; cases h9) | (simp only [ne_eq]; intro h9; injection h9 with h8; simp at h8)) | assumption | (apply Ne.symm; assumption))).trans (k7_ca2))
  have k8_oa2 := (congrFun eg8 oa2).trans ((up_n (by first | exact ne_ob (k7_oa2) (k7_r) (by first | simp | decide | (intro h9; cases h9) | (simp only [ne_eq]; intro h9; injection h9 with h8; simp at h8)) | assumption | (apply Ne.symm; assumption))).trans (k7_oa2))
  have k8_b1 := (congrFun eg8 b1).trans ((up_n (by first | exact ne_ob (k7_b1) (k7_r) (by first | simp | decide | (intro h9; cases h9) | (simp only [ne_eq]; intro h9; injection h9 with h8; simp at h8)) | assumption | (apply Ne.symm; assumption))).trans (k7_b1))
  have k8_ca1 := (congrFun eg8 ca1).trans ((up_n (by first | exact ne_ob (k7_ca1) (k7_r) (by first | simp | decide | (intro h9; cases h9) | (simp only [ne_eq]; intro h9; injection h9 with h8; simp at h8)) | assumption | (apply Ne.symm; assumption))).trans (k7_ca1))
  have k8_oa1 := (congrFun eg8 oa1).trans ((up_n (by first | exact ne_ob (k7_oa1) (k7_r) (by first | simp | decide | (intro h9; cases h9) | (simp only [ne_eq]; intro h9; injection h9 with h8; simp at h8)) | assumption | (apply Ne.symm; assumption))).trans (k7_oa1))
  have u1 : ∀ q, g1 q = none → g q = none := fun q h => dom_up (by rw [← eg1]; exact h)
  have u2 : ∀ q, w1 q = none → g q = none := fun q h => u1 q (dom_fr hw1 B1w h)
  have u3 : ∀ q, g2 q = none → g q = none := fun q h => u2 q (dom_up (by rw [← eg2]; exact h))
  have u4 : ∀ q, g3 q = none → g q = none := fun q h => u3 q (dom_up (by rw [← eg3]; exact h))
  exact j_vret hX hE dX6_init_46 (⟨rfl, b1, ca1, oa1, b2, ca2, oa2, ⟨fb1, u1 _ fc1, u1 _ fo1, u3 _ fb2, u4 _ fc2, u4 _ fo2⟩, ⟨ne_fr k2_b1 fb2, ne_fr k3_ca1 fc2, ne_fr k3_oa1 fo2⟩, k8_r, ⟨k8_b1, k8_ca1, k8_oa1⟩, ⟨k8_b2, k8_ca2, k8_oa2⟩, fun q hq => by
    simp only [List.mem_cons, List.not_mem_nil, or_false, not_or] at hq
    obtain ⟨h0, h1, h2, h3, h4, h5, h6⟩ := hq
    rw [eg8, up_n h0, eg7, up_n h0, eg6, up_n h0, eg5, up_n h0, eg4, up_n h0, hw2 q h4 h5 h6, eg3, up_n h4, eg2, up_n h0, hw1 q h1 h2 h3, eg1, up_n h1]⟩) (by decide) (by decide)

