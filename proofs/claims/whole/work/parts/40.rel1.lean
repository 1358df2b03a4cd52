set_option maxRecDepth 20000 in
set_option maxHeartbeats 600000 in
/-- begin(columns, view) -/
theorem c_X6_begin_n (l : Launch) (K : Cst) (g : Wd) (r nw nx : Nat) (w pd ch : Int32) (vw : Value) (co : Int32) (hr : g r = some (ob 6 [.ref nw, .ref nx, vw, .int w, .int pd, .int ch])) : Ct l K yX6_begin cX6_begin 3 none 0 [.ref r, .int co, .null] g (fun v9 g' => v9 = none ∧ up g r (ob 6 [.ref nw, .ref nx, .null, .int co, .int pd, .int 0]) = g') (fun _ _ => False) 0 0 := by
  refine ct_of (by decide) (Nat.le_of_ble_eq_true rfl) ?_
  intro X hl hK hX hE hn hL hR hm
  subst hl; subst hK
  show J X 0 0 g 0 [(0, .ref r), (1, .int co), (2, .null)] []
  refine j_aload_n hX dX6_begin_0 0 rfl ?_
  refine j_iload_n hX dX6_begin_1 1 rfl ?_
  refine j_put hX hr rfl wf_X6 tyX6_ok nmX6 3 (by decide) lk_X6_23 (fun _ h => h) rfl (tyX6_ok 3 (by decide)) rfl rfl (Nat.le_of_ble_eq_true rfl) dX6_begin_2 ?_
  obtain ⟨g1, eg1⟩ : ∃ z : Wd, z = up g r (ob 6 [.ref nw, .ref nx, vw, .int co, .int pd, .int ch]) := ⟨_, rfl⟩
  refine j_w eg1.symm ?_
  have k1_r : g1 r = some (ob 6 [.ref nw, .ref nx, vw, .int co, .int pd, .int ch]) := by rw [eg1]; exact up_s _ _ _
  refine j_aload_n hX dX6_begin_5 0 rfl ?_
  refine j_aload_nN hX dX6_begin_6 2 rfl ?_
  refine j_put hX k1_r rfl wf_X6 tyX6_ok nmX6 2 (by decide) lk_X6_19 (fun _ h => h) rfl (tyX6_ok 2 (by decide)) rfl rfl (Nat.le_of_ble_eq_true rfl) dX6_begin_7 ?_
  obtain ⟨g2, eg2⟩ : ∃ z : Wd, z = up g1 r (ob 6 [.ref nw, .ref nx, .null, .int co, .int pd, .int ch]) := ⟨_, rfl⟩
  refine j_w eg2.symm ?_
  have k2_r : g2 r = some (ob 6 [.ref nw, .ref nx, .null, .int co, .int pd, .int ch]) := by rw [eg2]; exact up_s _ _ _
  refine j_aload_n hX dX6_begin_10 0 rfl ?_
  refine j_iconst (v := 0) hX dX6_begin_11 (by decide) ?_
  refine j_put hX k2_r rfl wf_X6 tyX6_ok nmX6 5 (by decide) lk_X6_30 (fun _ h => h) rfl (tyX6_ok 5 (by decide)) rfl rfl (Nat.le_of_ble_eq_true rfl) dX6_begin_12 ?_
  obtain ⟨g3, eg3⟩ : ∃ z : Wd, z = up g2 r (ob 6 [.ref nw, .ref nx, .null, .int co, .int pd, .int 0]) := ⟨_, rfl⟩
  refine j_w eg3.symm ?_
  have k3_r : g3 r = some (ob 6 [.ref nw, .ref nx, .null, .int co, .int pd, .int 0]) := by rw [eg3]; exact up_s _ _ _
  exact j_vret hX hE dX6_begin_15 (⟨rfl, by rw [eg3, eg2, up_up, eg1, up_up]⟩) (by decide) (by decide)

set_option maxRecDepth 20000 in
set_option maxHeartbeats 600000 in
/-- begin(columns, view) -/
theorem c_X6_begin_r (l : Launch) (K : Cst) (g : Wd) (r nw nx : Nat) (w pd ch : Int32) (vw : Value) (co : Int32) (v : Nat) (hr : g r = some (ob 6 [.ref nw, .ref nx, vw, .int w, .int pd, .int ch])) : Ct l K yX6_begin cX6_begin 3 none 0 [.ref r, .int co, .ref v] g (fun v9 g' => v9 = none ∧ up g r (ob 6 [.ref nw, .ref nx, .ref v, .int co, .int pd, .int 0]) = g') (fun _ _ => False) 0 0 := by
  refine ct_of (by decide) (Nat.le_of_ble_eq_true rfl) ?_
  intro X hl hK hX hE hn hL hR hm
  subst hl; subst hK
  show J X 0 0 g 0 [(0, .ref r), (1, .int co), (2, .ref v)] []
  refine j_aload_n hX dX6_begin_0 0 rfl ?_
  refine j_iload_n hX dX6_begin_1 1 rfl ?_
  refine j_put hX hr rfl wf_X6 tyX6_ok nmX6 3 (by decide) lk_X6_23 (fun _ h => h) rfl (tyX6_ok 3 (by decide)) rfl rfl (Nat.le_of_ble_eq_true rfl) dX6_begin_2 ?_
  obtain ⟨g1, eg1⟩ : ∃ z : Wd, z = up g r (ob 6 [.ref nw, .ref nx, vw, .int co, .int pd, .int ch]) := ⟨_, rfl⟩
  refine j_w eg1.symm ?_
  have k1_r : g1 r = some (ob 6 [.ref nw, .ref nx, vw, .int co, .int pd, .int ch]) := by rw [eg1]; exact up_s _ _ _
  refine j_aload_n hX dX6_begin_5 0 rfl ?_
  refine j_aload_n hX dX6_begin_6 2 rfl ?_
  refine j_put hX k1_r rfl wf_X6 tyX6_ok nmX6 2 (by decide) lk_X6_19 (fun _ h => h) rfl (tyX6_ok 2 (by decide)) rfl rfl (Nat.le_of_ble_eq_true rfl) dX6_begin_7 ?_
  obtain ⟨g2, eg2⟩ : ∃ z : Wd, z = up g1 r (ob 6 [.ref nw, .ref nx, .ref v, .int co, .int pd, .int ch]) := ⟨_, rfl⟩
  refine j_w eg2.symm ?_
  have k2_r : g2 r = some (ob 6 [.ref nw, .ref nx, .ref v, .int co, .int pd, .int ch]) := by rw [eg2]; exact up_s _ _ _
  refine j_aload_n hX dX6_begin_10 0 rfl ?_
  refine j_iconst (v := 0) hX dX6_begin_11 (by decide) ?_
  refine j_put hX k2_r rfl wf_X6 tyX6_ok nmX6 5 (by decide) lk_X6_30 (fun _ h => h) rfl (tyX6_ok 5 (by decide)) rfl rfl (Nat.le_of_ble_eq_true rfl) dX6_begin_12 ?_
  obtain ⟨g3, eg3⟩ : ∃ z : Wd, z = up g2 r (ob 6 [.ref nw, .ref nx, .ref v, .int co, .int pd, .int 0]) := ⟨_, rfl⟩
  refine j_w eg3.symm ?_
  have k3_r : g3 r = some (ob 6 [.ref nw, .ref nx, .ref v, .int co, .int pd, .int 0]) := by rw [eg3]; exact up_s _ _ _
  exact j_vret hX hE dX6_begin_15 (⟨rfl, by rw [eg3, eg2, up_up, eg1, up_up]⟩) (by decide) (by decide)

set_option maxRecDepth 20000 in
set_option maxHeartbeats 600000 in
/-- end() -/
theorem c_X6_end (l : Launch) (K : Cst) (g : Wd) (r nw nx : Nat) (w pd ch : Int32) (vw : Value) (hr : g r = some (ob 6 [.ref nw, .ref nx, vw, .int w, .int pd, .int ch])) : Ct l K yX6_end cX6_end 1 none 0 [.ref r] g (fun v9 g' => v9 = none ∧ up g r (ob 6 [.ref nw, .ref nx, .null, .int 0, .int pd, .int ch]) = g') (fun _ _ => False) 0 0 := by
  refine ct_of (by decide) (Nat.le_of_ble_eq_true rfl) ?_
  intro X hl hK hX hE hn hL hR hm
  subst hl; subst hK
  show J X 0 0 g 0 [(0, .ref r)] []
  refine j_aload_n hX dX6_end_0 0 rfl ?_
  refine j_iconst (v := 0) hX dX6_end_1 (by decide) ?_
  refine j_put hX hr rfl wf_X6 tyX6_ok nmX6 3 (by decide) lk_X6_23 (fun _ h => h) rfl (tyX6_ok 3 (by decide)) rfl rfl (Nat.le_of_ble_eq_true rfl) dX6_end_2 ?_
  obtain ⟨g1, eg1⟩ : ∃ z : Wd, z = up g r (ob 6 [.ref nw, .ref nx, vw, .int 0, .int pd, .int ch]) := ⟨_, rfl⟩
  refine j_w eg1.symm ?_
  have k1_r : g1 r = some (ob 6 [.ref nw, .ref nx, vw, .int 0, .int pd, .int ch]) := by rw [eg1]; exact up_s _ _ _
  refine j_aload_n hX dX6_end_5 0 rfl ?_
  refine j_null hX dX6_end_6 ?_
  refine j_put hX k1_r rfl wf_X6 tyX6_ok nmX6 2 (by decide) lk_X6_19 (fun _ h => h) rfl (tyX6_ok 2 (by decide)) rfl rfl (Nat.le_of_ble_eq_true rfl) dX6_end_7 ?_
  obtain ⟨g2, eg2⟩ : ∃ z : Wd, z = up g1 r (ob 6 [.ref nw, .ref nx, .null, .int 0, .int pd, .int ch]) := ⟨_, rfl⟩
  refine j_w eg2.symm ?_
  have k2_r : g2 r = some (ob 6 [.ref nw, .ref nx, .null, .int 0, .int pd, .int ch]) := by rw [eg2]; exact up_s _ _ _
  exact j_vret hX hE dX6_end_10 (⟨rfl, by rw [eg2, eg1, up_up]⟩) (by decide) (by decide)

set_option maxRecDepth 20000 in
set_option maxHeartbeats 600000 in
/-- isThere() -/
theorem c_X6_isThere (l : Launch) (K : Cst) (g : Wd) (r nw nx w : Nat) (pd ch : Int32) (vw : Value) (hw : w < 2 ^ 31) (hr : g r = some (ob 6 [.ref nw, .ref nx, vw, .int (nI w), .int pd, .int ch])) : Ct l K yX6_isThere cX6_isThere 1 (some .boolean) 0 [.ref r] g (fun v g' => v = some (.int (b01 (decide (0 < w)))) ∧ g = g') (fun _ _ => False) 0 0 := by
  refine ct_of (by decide) (Nat.le_of_ble_eq_true rfl) ?_
  intro X hl hK hX hE hn hL hR hm
  subst hl; subst hK
  show J X 0 0 g 0 [(0, .ref r)] []
  refine j_aload_n hX dX6_isThere_0 0 rfl ?_
  refine j_get (v := .int (nI w)) hX hr rfl wf_X6 3 (by decide) lk_X6_23 (fun _ h => h) rfl dX6_isThere_1 ?_
  refine j_if_le hX 11 dX6_isThere_4 (by decide) (fun c_4 => ?_) (fun c_4 => ?_)
  · have c4 : ¬ 0 < w := fun q => nI_nle q hw c_4
    refine j_iconst (v := 0) hX dX6_isThere_11 (by decide) ?_
    exact j_zret hX hE dX6_isThere_12 (by first | rfl | decide | assumption) (⟨congrArg (fun z => some (Value.int z)) (b01_0 (decide_eq_false c4)), rfl⟩) (by decide) (by decide)
  · have c4 : 0 < w := Nat.pos_of_ne_zero (fun q => c_4 (by rw [q]; decide))
    refine j_iconst (v := 1) hX dX6_isThere_7 (by decide) ?_
    refine j_goto hX 12 dX6_isThere_8 (by decide) ?_
    exact j_zret hX hE dX6_isThere_12 (by first | rfl | decide | assumption) (⟨congrArg (fun z => some (Value.int z)) (b01_1 (decide_eq_true c4)), rfl⟩) (by decide) (by decide)

set_option maxRecDepth 20000 in
set_option maxHeartbeats 600000 in
/-- settle(fits) -/
theorem c_X6_settle_tp (l : Launch) (K : Cst) (g : Wd) (r nw nx : Nat) (w ch : Int32) (vw : Value) (p : Nat) (hp : p < 2 ^ 31) (hp0 : 0 < p) (hr : g r = some (ob 6 [.ref nw, .ref nx, vw, .int w, .int (nI p), .int ch])) : Ct l K yX6_settle cX6_settle 3 none 0 [.ref r, .int 1] g (fun v9 g' => v9 = none ∧ up g r (ob 6 [.ref nx, .ref nw, vw, .int w, .int 0, .int (nI p)]) = g') (fun _ _ => False) 0 0 := by
  refine ct_of (by decide) (Nat.le_of_ble_eq_true rfl) ?_
  intro X hl hK hX hE hn hL hR hm
  subst hl; subst hK
  show J X 0 0 g 0 [(0, .ref r), (1, .int 1)] []
  refine j_iload_n hX dX6_settle_0 1 rfl ?_
  refine j_if_eq hX 12 dX6_settle_1 (by decide) (fun c_1 => absurd c_1 (show ¬ (1 : Int32) = 0 by decide)) (fun _ => ?_)
  refine j_aload_n hX dX6_settle_4 0 rfl ?_
  refine j_aload_n hX dX6_settle_5 0 rfl ?_
  refine j_get (v := .int (nI p)) hX hr rfl wf_X6 4 (by decide) lk_X6_27 (fun _ h => h) rfl dX6_settle_6 ?_
  refine j_put hX hr rfl wf_X6 tyX6_ok nmX6 5 (by decide) lk_X6_30 (fun _ h => h) rfl (tyX6_ok 5 (by decide)) rfl rfl (Nat.le_of_ble_eq_true rfl) dX6_settle_9 ?_
  obtain ⟨g1, eg1⟩ : ∃ z : Wd, z = up g r (ob 6 [.ref nw, .ref nx, vw, .int w, .int (nI p), .int (nI p)]) := ⟨_, rfl⟩
  refine j_w eg1.symm ?_
  have k1_r : g1 r = some (ob 6 [.ref nw, .ref nx, vw, .int w, .int (nI p), .int (nI p)]) := by rw [eg1]; exact up_s _ _ _
  refine j_iload_n hX dX6_settle_12 1 rfl ?_
  refine j_if_eq hX 41 dX6_settle_13 (by decide) (fun c_13 => absurd c_13 (show ¬ (1 : Int32) = 0 by decide)) (fun _ => ?_)
  refine j_aload_n hX dX6_settle_16 0 rfl ?_
  refine j_get (v := .int (nI p)) hX k1_r rfl wf_X6 4 (by decide) lk_X6_27 (fun _ h => h) rfl dX6_settle_17 ?_
  refine j_if_le hX 41 dX6_settle_20 (by decide) (fun c_20 => absurd c_20 (nI_nle hp0 hp)) (fun _ => ?_)
  refine j_aload_n hX dX6_settle_23 0 rfl ?_
  refine j_get (v := .ref nw) hX k1_r rfl wf_X6 0 (by decide) lk_X6_10 (fun _ h => h) rfl dX6_settle_24 ?_
  refine j_astore_n (lv' := [(2, .ref nw), (0, .ref r), (1, .int 1)]) hX dX6_settle_27 (by rw [hn]; decide) rfl ?_
  refine j_aload_n hX dX6_settle_28 1 rfl ?_
  refine j_aload_n hX dX6_settle_29 1 rfl ?_
  refine j_get (v := .ref nx) hX k1_r rfl wf_X6 1 (by decide) lk_X6_16 (fun _ h => h) rfl dX6_settle_30 ?_
  refine j_put hX k1_r rfl wf_X6 tyX6_ok nmX6 0 (by decide) lk_X6_10 (fun _ h => h) rfl (tyX6_ok 0 (by decide)) rfl rfl (Nat.le_of_ble_eq_true rfl) dX6_settle_33 ?_
  obtain ⟨g2, eg2⟩ : ∃ z : Wd, z = up g1 r (ob 6 [.ref nx, .ref nx, vw, .int w, .int (nI p), .int (nI p)]) := ⟨_, rfl⟩
  refine j_w eg2.symm ?_
  have k2_r : g2 r = some (ob 6 [.ref nx, .ref nx, vw, .int w, .int (nI p), .int (nI p)]) := by rw [eg2]; exact up_s _ _ _
  refine j_aload_n hX dX6_settle_36 1 rfl ?_
  refine j_aload_n hX dX6_settle_37 0 rfl ?_
  refine j_put hX k2_r rfl wf_X6 tyX6_ok nmX6 1 (by decide) lk_X6_16 (fun _ h => h) rfl (tyX6_ok 1 (by decide)) rfl rfl (Nat.le_of_ble_eq_true rfl) dX6_settle_38 ?_
  obtain ⟨g3, eg3⟩ : ∃ z : Wd, z = up g2 r (ob 6 [.ref nx, .ref nw, vw, .int w, .int (nI p), .int (nI p)]) := ⟨_, rfl⟩
  refine j_w eg3.symm ?_
  have k3_r : g3 r = some (ob 6 [.ref nx, .ref nw, vw, .int w, .int (nI p), .int (nI p)]) := by rw [eg3]; exact up_s _ _ _
  refine j_aload_n hX dX6_settle_41 1 rfl ?_
  refine j_iconst (v := 0) hX dX6_settle_42 (by decide) ?_
  refine j_put hX k3_r rfl wf_X6 tyX6_ok nmX6 4 (by decide) lk_X6_27 (fun _ h => h) rfl (tyX6_ok 4 (by decide)) rfl rfl (Nat.le_of_ble_eq_true rfl) dX6_settle_43 ?_
  obtain ⟨g4, eg4⟩ : ∃ z : Wd, z = up g3 r (ob 6 [.ref nx, .ref nw, vw, .int w, .int 0, .int (nI p)]) := ⟨_, rfl⟩
  refine j_w eg4.symm ?_
  have k4_r : g4 r = some (ob 6 [.ref nx, .ref nw, vw, .int w, .int 0, .int (nI p)]) := by rw [eg4]; exact up_s _ _ _
  exact j_vret hX hE dX6_settle_46 (⟨rfl, by rw [eg4, eg3, up_up, eg2, up_up, eg1, up_up]⟩) (by decide) (by decide)

set_option maxRecDepth 20000 in
set_option maxHeartbeats 600000 in
/-- settle(fits) -/
theorem c_X6_settle_t0 (l : Launch) (K : Cst) (g : Wd) (r nw nx : Nat) (w ch : Int32) (vw : Value) (p : Nat) (hp : p < 2 ^ 31) (hp0 : p = 0) (hr : g r = some (ob 6 [.ref nw, .ref nx, vw, .int w, .int (nI p), .int ch])) : Ct l K yX6_settle cX6_settle 3 none 0 [.ref r, .int 1] g (fun v9 g' => v9 = none ∧ up g r (ob 6 [.ref nw, .ref nx, vw, .int w, .int 0, .int (nI p)]) = g') (fun _ _ => False) 0 0 := by
  refine ct_of (by decide) (Nat.le_of_ble_eq_true rfl) ?_
  intro X hl hK hX hE hn hL hR hm
  subst hl; subst hK
  show J X 0 0 g 0 [(0, .ref r), (1, .int 1)] []
  refine j_iload_n hX dX6_settle_0 1 rfl ?_
  refine j_if_eq hX 12 dX6_settle_1 (by decide) (fun c_1 => absurd c_1 (show ¬ (1 : Int32) = 0 by decide)) (fun _ => ?_)
  refine j_aload_n hX dX6_settle_4 0 rfl ?_
  refine j_aload_n hX dX6_settle_5 0 rfl ?_
  refine j_get (v := .int (nI p)) hX hr rfl wf_X6 4 (by decide) lk_X6_27 (fun _ h => h) rfl dX6_settle_6 ?_
  refine j_put hX hr rfl wf_X6 tyX6_ok nmX6 5 (by decide) lk_X6_30 (fun _ h => h) rfl (tyX6_ok 5 (by decide)) rfl rfl (Nat.le_of_ble_eq_true rfl) dX6_settle_9 ?_
  obtain ⟨g1, eg1⟩ : ∃ z : Wd, z = up g r (ob 6 [.ref nw, .ref nx, vw, .int w, .int (nI p), .int (nI p)]) := ⟨_, rfl⟩
  refine j_w eg1.symm ?_
  have k1_r : g1 r = some (ob 6 [.ref nw, .ref nx, vw, .int w, .int (nI p), .int (nI p)]) := by rw [eg1]; exact up_s _ _ _
  refine j_iload_n hX dX6_settle_12 1 rfl ?_
  refine j_if_eq hX 41 dX6_settle_13 (by decide) (fun c_13 => absurd c_13 (show ¬ (1 : Int32) = 0 by decide)) (fun _ => ?_)
  refine j_aload_n hX dX6_settle_16 0 rfl ?_
  refine j_get (v := .int (nI p)) hX k1_r rfl wf_X6 4 (by decide) lk_X6_27 (fun _ h => h) rfl dX6_settle_17 ?_
  refine j_if_le hX 41 dX6_settle_20 (by decide) (fun _ => ?_) (fun c_20 => absurd (show nI p ≤ 0 by rw [hp0]; decide) c_20)
  refine j_aload_n hX dX6_settle_41 0 rfl ?_
  refine j_iconst (v := 0) hX dX6_settle_42 (by decide) ?_
  refine j_put hX k1_r rfl wf_X6 tyX6_ok nmX6 4 (by decide) lk_X6_27 (fun _ h => h) rfl (tyX6_ok 4 (by decide)) rfl rfl (Nat.le_of_ble_eq_true rfl) dX6_settle_43 ?_
  obtain ⟨g2, eg2⟩ : ∃ z : Wd, z = up g1 r (ob 6 [.ref nw, .ref nx, vw, .int w, .int 0, .int (nI p)]) := ⟨_, rfl⟩
  refine j_w eg2.symm ?_
  have k2_r : g2 r = some (ob 6 [.ref nw, .ref nx, vw, .int w, .int 0, .int (nI p)]) := by rw [eg2]; exact up_s _ _ _
  exact j_vret hX hE dX6_settle_46 (⟨rfl, by rw [eg2, eg1, up_up]⟩) (by decide) (by decide)

set_option maxRecDepth 20000 in
set_option maxHeartbeats 600000 in
/-- settle(fits) -/
theorem c_X6_settle_f (l : Launch) (K : Cst) (g : Wd) (r nw nx : Nat) (w ch : Int32) (vw : Value) (p : Nat) (hp : p < 2 ^ 31) (hr : g r = some (ob 6 [.ref nw, .ref nx, vw, .int w, .int (nI p), .int ch])) : Ct l K yX6_settle cX6_settle 3 none 0 [.ref r, .int 0] g (fun v9 g' => v9 = none ∧ up g r (ob 6 [.ref nw, .ref nx, vw, .int w, .int 0, .int ch]) = g') (fun _ _ => False) 0 0 := by
  refine ct_of (by decide) (Nat.le_of_ble_eq_true rfl) ?_
  intro X hl hK hX hE hn hL hR hm
  subst hl; subst hK
  show J X 0 0 g 0 [(0, .ref r), (1, .int 0)] []
  refine j_iload_n hX dX6_settle_0 1 rfl ?_
  refine j_if_eq hX 12 dX6_settle_1 (by decide) (fun _ => ?_) (fun c_1 => absurd (show (0 : Int32) = 0 from rfl) c_1)
  refine j_iload_n hX dX6_settle_12 1 rfl ?_
  refine j_if_eq hX 41 dX6_settle_13 (by decide) (fun _ => ?_) (fun c_13 => absurd (show (0 : Int32) = 0 from rfl) c_13)
  refine j_aload_n hX dX6_settle_41 0 rfl ?_
  refine j_iconst (v := 0) hX dX6_settle_42 (by decide) ?_
  refine j_put hX hr rfl wf_X6 tyX6_ok nmX6 4 (by decide) lk_X6_27 (fun _ h => h) rfl (tyX6_ok 4 (by decide)) rfl rfl (Nat.le_of_ble_eq_true rfl) dX6_settle_43 ?_
  obtain ⟨g1, eg1⟩ : ∃ z : Wd, z = up g r (ob 6 [.ref nw, .ref nx, vw, .int w, .int 0, .int ch]) := ⟨_, rfl⟩
  refine j_w eg1.symm ?_
  have k1_r : g1 r = some (ob 6 [.ref nw, .ref nx, vw, .int w, .int 0, .int ch]) := by rw [eg1]; exact up_s _ _ _
  exact j_vret hX hE dX6_settle_46 (⟨rfl, by rw [eg1]⟩) (by decide) (by decide)

set_option maxRecDepth 20000 in
set_option maxHeartbeats 600000 in
/-- depth() of a view -/
theorem c_X6_depth_X1 (l : Launch) (K : Cst) (g : Wd) (r nw nx : Nat) (w pd ch : Int32) (v lr rr rw : Nat) (dp : Int32) (ck : Nat) (hr : g r = some (ob 6 [.ref nw, .ref nx, .ref v, .int w, .int pd, .int ch])) (hv : g v = some (ob 1 [.ref lr, .ref rr, .int dp, .ref rw, .ref ck])) : Ct l K yX6_depth cX6_depth 1 (some .int) 0 [.ref r] g (fun v g' => v = some (.int dp) ∧ g = g') (fun _ _ => False) 0 0 := by
  refine ct_of (by decide) (Nat.le_of_ble_eq_true rfl) ?_
  intro X hl hK hX hE hn hL hR hm
  subst hl; subst hK
  show J X 0 0 g 0 [(0, .ref r)] []
  refine j_aload_n hX dX6_depth_0 0 rfl ?_
  refine j_get (v := .ref v) hX hr rfl wf_X6 2 (by decide) lk_X6_19 (fun _ h => h) rfl dX6_depth_1 ?_
  refine j_ifnonnull_r hX 11 dX6_depth_4 (by decide) ?_
  refine j_aload_n hX dX6_depth_11 0 rfl ?_
  refine j_get (v := .ref v) hX hr rfl wf_X6 2 (by decide) lk_X6_19 (fun _ h => h) rfl dX6_depth_12 ?_
  refine j_get (v := .int dp) hX hv rfl wf_X1 2 (by decide) lk_X6_42 (fun _ h => h) rfl dX6_depth_15 ?_
  exact j_iret hX hE dX6_depth_18 (⟨rfl, rfl⟩) (by decide) (by decide)

set_option maxRecDepth 20000 in
set_option maxHeartbeats 600000 in
/-- isOf(source) of a view -/
theorem c_X6_isOf_X1 (l : Launch) (K : Cst) (g : Wd) (r nw nx : Nat) (w pd ch : Int32) (v lr rr rw sr : Nat) (dp : Int32) (ck : Nat) (hr : g r = some (ob 6 [.ref nw, .ref nx, .ref v, .int w, .int pd, .int ch])) (hv : g v = some (ob 1 [.ref lr, .ref rr, .int dp, .ref rw, .ref ck])) : Ct l K yX6_isOf cX6_isOf 2 (some .boolean) 0 [.ref r, .ref sr] g (fun v g' => v = some (.int (b01 (decide (lr = sr) || decide (rr = sr)))) ∧ g = g') (fun _ _ => False) 0 0 := by
  refine ct_of (by decide) (Nat.le_of_ble_eq_true rfl) ?_
  intro X hl hK hX hE hn hL hR hm
  subst hl; subst hK
  show J X 0 0 g 0 [(0, .ref r), (1, .ref sr)] []
  refine j_aload_n hX dX6_isOf_0 0 rfl ?_
  refine j_get (v := .ref v) hX hr rfl wf_X6 2 (by decide) lk_X6_19 (fun _ h => h) rfl dX6_isOf_1 ?_
  refine j_ifnull_r hX dX6_isOf_4 ?_
  refine j_aload_n hX dX6_isOf_7 0 rfl ?_
  refine j_get (v := .ref v) hX hr rfl wf_X6 2 (by decide) lk_X6_19 (fun _ h => h) rfl dX6_isOf_8 ?_
  refine j_get (v := .ref lr) hX hv rfl wf_X1 0 (by decide) lk_X6_33 (fun _ h => h) rfl dX6_isOf_11 ?_
  refine j_aload_n hX dX6_isOf_14 1 rfl ?_
  refine j_acmp_eq hX 29 dX6_isOf_15 (by decide) (fun c_15 => ?_) (fun c_15 => ?_)
  · refine j_iconst (v := 1) hX dX6_isOf_29 (by decide) ?_
    refine j_goto hX 34 dX6_isOf_30 (by decide) ?_
    exact j_zret hX hE dX6_isOf_34 (by first | rfl | decide | assumption) (⟨congrArg (fun z => some (Value.int z)) (b01_1 (by simp [c_15])), rfl⟩) (by decide) (by decide)
  · refine j_aload_n hX dX6_isOf_18 0 rfl ?_
    refine j_get (v := .ref v) hX hr rfl wf_X6 2 (by decide) lk_X6_19 (fun _ h => h) rfl dX6_isOf_19 ?_
    refine j_get (v := .ref rr) hX hv rfl wf_X1 1 (by decide) lk_X6_39 (fun _ h => h) rfl dX6_isOf_22 ?_
    refine j_aload_n hX dX6_isOf_25 1 rfl ?_
    refine j_acmp_ne hX 33 dX6_isOf_26 (by decide) (fun c_26 => ?_) (fun c_26 => ?_)
    · refine j_iconst (v := 0) hX dX6_isOf_33 (by decide) ?_
      exact j_zret hX hE dX6_isOf_34 (by first | rfl | decide | assumption) (⟨congrArg (fun z => some (Value.int z)) (b01_0 (by simp [c_15, c_26])), rfl⟩) (by decide) (by decide)
    · refine j_iconst (v := 1) hX dX6_isOf_29 (by decide) ?_
      refine j_goto hX 34 dX6_isOf_30 (by decide) ?_
      exact j_zret hX hE dX6_isOf_34 (by first | rfl | decide | assumption) (⟨congrArg (fun z => some (Value.int z)) (b01_1 (by simp [c_26])), rfl⟩) (by decide) (by decide)

set_option maxRecDepth 20000 in
set_option maxHeartbeats 600000 in
/-- isTouched() -/
theorem c_X9_isTouched_X1 (l : Launch) (K : Cst) (g : Wd) (v lr rr rw nw nx nwB nxB p pB : Nat) (vw vwB : Value) (w ch wB chB dp : Int32) (ck : Nat) (hv : g v = some (ob 1 [.ref lr, .ref rr, .int dp, .ref rw, .ref ck])) (hl9 : g lr = some (ob 6 [.ref nw, .ref nx, vw, .int w, .int (nI p), .int ch])) (hr9 : g rr = some (ob 6 [.ref nwB, .ref nxB, vwB, .int wB, .int (nI pB), .int chB])) (hp : p < 2 ^ 31) (hpB : pB < 2 ^ 31) : Ct l K yX9_isTouched cX9_isTouched 1 (some .boolean) 0 [.ref v] g (fun v g' => v = some (.int (b01 (decide (0 < p) || decide (0 < pB)))) ∧ g = g') (fun _ _ => False) 0 0 := by
  refine ct_of (by decide) (Nat.le_of_ble_eq_true rfl) ?_
  intro X hl hK hX hE hn hL hR hm
  subst hl; subst hK
  show J X 0 0 g 0 [(0, .ref v)] []
  refine j_aload_n hX dX9_isTouched_0 0 rfl ?_
  refine j_get (v := .ref lr) hX hv rfl wf_X1 0 (by decide) lk_X9_15 (fun _ h => h) rfl dX9_isTouched_1 ?_
  refine j_getN (v := .int (nI p)) hX hl9 rfl wf_X6 4 (by decide) nk_X9_37 (fun _ h => h) rfl dX9_isTouched_4 ?_
  refine j_if_gt hX 20 dX9_isTouched_7 (by decide) (fun c_7 => ?_) (fun c_7 => ?_)
  · have c7 : 0 < p := Nat.pos_of_ne_zero (fun q => by rw [q] at c_7; exact absurd c_7 (by decide))
    refine j_iconst (v := 1) hX dX9_isTouched_20 (by decide) ?_
    refine j_goto hX 25 dX9_isTouched_21 (by decide) ?_
    exact j_zret hX hE dX9_isTouched_25 (by first | rfl | decide | assumption) (⟨congrArg (fun z => some (Value.int z)) (b01_1 (by simp [c7])), rfl⟩) (by decide) (by decide)
  · have c7 : ¬ 0 < p := fun q => c_7 (by have := nI_nle q hp; exact Int32.not_le.mp this)
    refine j_aload_n hX dX9_isTouched_10 0 rfl ?_
    refine j_get (v := .ref rr) hX hv rfl wf_X1 1 (by decide) lk_X9_19 (fun _ h => h) rfl dX9_isTouched_11 ?_
    refine j_getN (v := .int (nI pB)) hX hr9 rfl wf_X6 4 (by decide) nk_X9_37 (fun _ h => h) rfl dX9_isTouched_14 ?_
    refine j_if_le hX 24 dX9_isTouched_17 (by decide) (fun c_17 => ?_) (fun c_17 => ?_)
    · have c17 : ¬ 0 < pB := fun q => nI_nle q hpB c_17
      refine j_iconst (v := 0) hX dX9_isTouched_24 (by decide) ?_
      exact j_zret hX hE dX9_isTouched_25 (by first | rfl | decide | assumption) (⟨congrArg (fun z => some (Value.int z)) (b01_0 (by simp; omega)), rfl⟩) (by decide) (by decide)
    · have c17 : 0 < pB := Nat.pos_of_ne_zero (fun q => c_17 (by rw [q]; decide))
      refine j_iconst (v := 1) hX dX9_isTouched_20 (by decide) ?_
      refine j_goto hX 25 dX9_isTouched_21 (by decide) ?_
      exact j_zret hX hE dX9_isTouched_25 (by first | rfl | decide | assumption) (⟨congrArg (fun z => some (Value.int z)) (b01_1 (by simp [c17])), rfl⟩) (by decide) (by decide)

set_option maxRecDepth 20000 in
set_option maxHeartbeats 600000 in
/-- depth() of a view -/
theorem c_X6_depth_X2 (l : Launch) (K : Cst) (g : Wd) (r nw nx : Nat) (w pd ch : Int32) (v lr rr rw : Nat) (dp : Int32) (hr : g r = some (ob 6 [.ref nw, .ref nx, .ref v, .int w, .int pd, .int ch])) (hv : g v = some (ob 2 [.ref lr, .ref rr, .int dp, .ref rw])) : Ct l K yX6_depth cX6_depth 1 (some .int) 0 [.ref r] g (fun v g' => v = some (.int dp) ∧ g = g') (fun _ _ => False) 0 0 := by
  refine ct_of (by decide) (Nat.le_of_ble_eq_true rfl) ?_
  intro X hl hK hX hE hn hL hR hm
  subst hl; subst hK
  show J X 0 0 g 0 [(0, .ref r)] []
  refine j_aload_n hX dX6_depth_0 0 rfl ?_
  refine j_get (v := .ref v) hX hr rfl wf_X6 2 (by decide) lk_X6_19 (fun _ h => h) rfl dX6_depth_1 ?_
  refine j_ifnonnull_r hX 11 dX6_depth_4 (by decide) ?_
  refine j_aload_n hX dX6_depth_11 0 rfl ?_
  refine j_get (v := .ref v) hX hr rfl wf_X6 2 (by decide) lk_X6_19 (fun _ h => h) rfl dX6_depth_12 ?_
  refine j_get (v := .int dp) hX hv rfl wf_X2 2 (by decide) lk_X6_42 (fun _ h => h) rfl dX6_depth_15 ?_
  exact j_iret hX hE dX6_depth_18 (⟨rfl, rfl⟩) (by decide) (by decide)

set_option maxRecDepth 20000 in
set_option maxHeartbeats 600000 in
/-- isOf(source) of a view -/
theorem c_X6_isOf_X2 (l : Launch) (K : Cst) (g : Wd) (r nw nx : Nat) (w pd ch : Int32) (v lr rr rw sr : Nat) (dp : Int32) (hr : g r = some (ob 6 [.ref nw, .ref nx, .ref v, .int w, .int pd, .int ch])) (hv : g v = some (ob 2 [.ref lr, .ref rr, .int dp, .ref rw])) : Ct l K yX6_isOf cX6_isOf 2 (some .boolean) 0 [.ref r, .ref sr] g (fun v g' => v = some (.int (b01 (decide (lr = sr) || decide (rr = sr)))) ∧ g = g') (fun _ _ => False) 0 0 := by
  refine ct_of (by decide) (Nat.le_of_ble_eq_true rfl) ?_
  intro X hl hK hX hE hn hL hR hm
  subst hl; subst hK
  show J X 0 0 g 0 [(0, .ref r), (1, .ref sr)] []
  refine j_aload_n hX dX6_isOf_0 0 rfl ?_
  refine j_get (v := .ref v) hX hr rfl wf_X6 2 (by decide) lk_X6_19 (fun _ h => h) rfl dX6_isOf_1 ?_
  refine j_ifnull_r hX dX6_isOf_4 ?_
  refine j_aload_n hX dX6_isOf_7 0 rfl ?_
  refine j_get (v := .ref v) hX hr rfl wf_X6 2 (by decide) lk_X6_19 (fun _ h => h) rfl dX6_isOf_8 ?_
  refine j_get (v := .ref lr) hX hv rfl wf_X2 0 (by decide) lk_X6_33 (fun _ h => h) rfl dX6_isOf_11 ?_
  refine j_aload_n hX dX6_isOf_14 1 rfl ?_
  refine j_acmp_eq hX 29 dX6_isOf_15 (by decide) (fun c_15 => ?_) (fun c_15 => ?_)
  · refine j_iconst (v := 1) hX dX6_isOf_29 (by decide) ?_
    refine j_goto hX 34 dX6_isOf_30 (by decide) ?_
    exact j_zret hX hE dX6_isOf_34 (by first | rfl | decide | assumption) (⟨congrArg (fun z => some (Value.int z)) (b01_1 (by simp [c_15])), rfl⟩) (by decide) (by decide)
  · refine j_aload_n hX dX6_isOf_18 0 rfl ?_
    refine j_get (v := .ref v) hX hr rfl wf_X6 2 (by decide) lk_X6_19 (fun _ h => h) rfl dX6_isOf_19 ?_
    refine j_get (v := .ref rr) hX hv rfl wf_X2 1 (by decide) lk_X6_39 (fun _ h => h) rfl dX6_isOf_22 ?_
    refine j_aload_n hX dX6_isOf_25 1 rfl ?_
    refine j_acmp_ne hX 33 dX6_isOf_26 (by decide) (fun c_26 => ?_) (fun c_26 => ?_)
    · refine j_iconst (v := 0) hX dX6_isOf_33 (by decide) ?_
      exact j_zret hX hE dX6_isOf_34 (by first | rfl | decide | assumption) (⟨congrArg (fun z => some (Value.int z)) (b01_0 (by simp [c_15, c_26])), rfl⟩) (by decide) (by decide)
    · refine j_iconst (v := 1) hX dX6_isOf_29 (by decide) ?_
      refine j_goto hX 34 dX6_isOf_30 (by decide) ?_
      exact j_zret hX hE dX6_isOf_34 (by first | rfl | decide | assumption) (⟨congrArg (fun z => some (Value.int z)) (b01_1 (by simp [c_26])), rfl⟩) (by decide) (by decide)

set_option maxRecDepth 20000 in
set_option maxHeartbeats 600000 in
/-- isTouched() -/
theorem c_X9_isTouched_X2 (l : Launch) (K : Cst) (g : Wd) (v lr rr rw nw nx nwB nxB p pB : Nat) (vw vwB : Value) (w ch wB chB dp : Int32) (hv : g v = some (ob 2 [.ref lr, .ref rr, .int dp, .ref rw])) (hl9 : g lr = some (ob 6 [.ref nw, .ref nx, vw, .int w, .int (nI p), .int ch])) (hr9 : g rr = some (ob 6 [.ref nwB, .ref nxB, vwB, .int wB, .int (nI pB), .int chB])) (hp : p < 2 ^ 31) (hpB : pB < 2 ^ 31) : Ct l K yX9_isTouched cX9_isTouched 1 (some .boolean) 0 [.ref v] g (fun v g' => v = some (.int (b01 (decide (0 < p) || decide (0 < pB)))) ∧ g = g') (fun _ _ => False) 0 0 := by
  refine ct_of (by decide) (Nat.le_of_ble_eq_true rfl) ?_
  intro X hl hK hX hE hn hL hR hm
  subst hl; subst hK
  show J X 0 0 g 0 [(0, .ref v)] []
  refine j_aload_n hX dX9_isTouched_0 0 rfl ?_
  refine j_get (v := .ref lr) hX hv rfl wf_X2 0 (by decide) lk_X9_15 (fun _ h => h) rfl dX9_isTouched_1 ?_
  refine j_getN (v := .int (nI p)) hX hl9 rfl wf_X6 4 (by decide) nk_X9_37 (fun _ h => h) rfl dX9_isTouched_4 ?_
  refine j_if_gt hX 20 dX9_isTouched_7 (by decide) (fun c_7 => ?_) (fun c_7 => ?_)
  · have c7 : 0 < p := Nat.pos_of_ne_zero (fun q => by rw [q] at c_7; exact absurd c_7 (by decide))
    refine j_iconst (v := 1) hX dX9_isTouched_20 (by decide) ?_
    refine j_goto hX 25 dX9_isTouched_21 (by decide) ?_
    exact j_zret hX hE dX9_isTouched_25 (by first | rfl | decide | assumption) (⟨congrArg (fun z => some (Value.int z)) (b01_1 (by simp [c7])), rfl⟩) (by decide) (by decide)
  · have c7 : ¬ 0 < p := fun q => c_7 (by have := nI_nle q hp; exact Int32.not_le.mp this)
    refine j_aload_n hX dX9_isTouched_10 0 rfl ?_
    refine j_get (v := .ref rr) hX hv rfl wf_X2 1 (by decide) lk_X9_19 (fun _ h => h) rfl dX9_isTouched_11 ?_
    refine j_getN (v := .int (nI pB)) hX hr9 rfl wf_X6 4 (by decide) nk_X9_37 (fun _ h => h) rfl dX9_isTouched_14 ?_
    refine j_if_le hX 24 dX9_isTouched_17 (by decide) (fun c_17 => ?_) (fun c_17 => ?_)
    · have c17 : ¬ 0 < pB := fun q => nI_nle q hpB c_17
      refine j_iconst (v := 0) hX dX9_isTouched_24 (by decide) ?_
      exact j_zret hX hE dX9_isTouched_25 (by first | rfl | decide | assumption) (⟨congrArg (fun z => some (Value.int z)) (b01_0 (by simp; omega)), rfl⟩) (by decide) (by decide)
    · have c17 : 0 < pB := Nat.pos_of_ne_zero (fun q => c_17 (by rw [q]; decide))
      refine j_iconst (v := 1) hX dX9_isTouched_20 (by decide) ?_
      refine j_goto hX 25 dX9_isTouched_21 (by decide) ?_
      exact j_zret hX hE dX9_isTouched_25 (by first | rfl | decide | assumption) (⟨congrArg (fun z => some (Value.int z)) (b01_1 (by simp [c17])), rfl⟩) (by decide) (by decide)

set_option maxRecDepth 20000 in
set_option maxHeartbeats 600000 in
/-- depth() of a view -/
theorem c_X6_depth_X3 (l : Launch) (K : Cst) (g : Wd) (r nw nx : Nat) (w pd ch : Int32) (v lr rr rw : Nat) (dp : Int32) (e1 e2 e3 : Int32) (hr : g r = some (ob 6 [.ref nw, .ref nx, .ref v, .int w, .int pd, .int ch])) (hv : g v = some (ob 3 [.ref lr, .ref rr, .int dp, .ref rw, .int e1, .int e2, .int e3])) : Ct l K yX6_depth cX6_depth 1 (some .int) 0 [.ref r] g (fun v g' => v = some (.int dp) ∧ g = g') (fun _ _ => False) 0 0 := by
  refine ct_of (by decide) (Nat.le_of_ble_eq_true rfl) ?_
  intro X hl hK hX hE hn hL hR hm
  subst hl; subst hK
  show J X 0 0 g 0 [(0, .ref r)] []
  refine j_aload_n hX dX6_depth_0 0 rfl ?_
  refine j_get (v := .ref v) hX hr rfl wf_X6 2 (by decide) lk_X6_19 (fun _ h => h) rfl dX6_depth_1 ?_
  refine j_ifnonnull_r hX 11 dX6_depth_4 (by decide) ?_
  refine j_aload_n hX dX6_depth_11 0 rfl ?_
  refine j_get (v := .ref v) hX hr rfl wf_X6 2 (by decide) lk_X6_19 (fun _ h => h) rfl dX6_depth_12 ?_
  refine j_get (v := .int dp) hX hv rfl wf_X3 2 (by decide) lk_X6_42 (fun _ h => h) rfl dX6_depth_15 ?_
  exact j_iret hX hE dX6_depth_18 (⟨rfl, rfl⟩) (by decide) (by decide)

set_option maxRecDepth 20000 in
set_option maxHeartbeats 600000 in
/-- isOf(source) of a view -/
theorem c_X6_isOf_X3 (l : Launch) (K : Cst) (g : Wd) (r nw nx : Nat) (w pd ch : Int32) (v lr rr rw sr : Nat) (dp : Int32) (e1 e2 e3 : Int32) (hr : g r = some (ob 6 [.ref nw, .ref nx, .ref v, .int w, .int pd, .int ch])) (hv : g v = some (ob 3 [.ref lr, .ref rr, .int dp, .ref rw, .int e1, .int e2, .int e3])) : Ct l K yX6_isOf cX6_isOf 2 (some .boolean) 0 [.ref r, .ref sr] g (fun v g' => v = some (.int (b01 (decide (lr = sr) || decide (rr = sr)))) ∧ g = g') (fun _ _ => False) 0 0 := by
  refine ct_of (by decide) (Nat.le_of_ble_eq_true rfl) ?_
  intro X hl hK hX hE hn hL hR hm
  subst hl; subst hK
  show J X 0 0 g 0 [(0, .ref r), (1, .ref sr)] []
  refine j_aload_n hX dX6_isOf_0 0 rfl ?_
  refine j_get (v := .ref v) hX hr rfl wf_X6 2 (by decide) lk_X6_19 (fun _ h => h) rfl dX6_isOf_1 ?_
  refine j_ifnull_r hX dX6_isOf_4 ?_
  refine j_aload_n hX dX6_isOf_7 0 rfl ?_
  refine j_get (v := .ref v) hX hr rfl wf_X6 2 (by decide) lk_X6_19 (fun _ h => h) rfl dX6_isOf_8 ?_
  refine j_get (v := .ref lr) hX hv rfl wf_X3 0 (by decide) lk_X6_33 (fun _ h => h) rfl dX6_isOf_11 ?_
  refine j_aload_n hX dX6_isOf_14 1 rfl ?_
  refine j_acmp_eq hX 29 dX6_isOf_15 (by decide) (fun c_15 => ?_) (fun c_15 => ?_)
  · refine j_iconst (v := 1) hX dX6_isOf_29 (by decide) ?_
    refine j_goto hX 34 dX6_isOf_30 (by decide) ?_
    exact j_zret hX hE dX6_isOf_34 (by first | rfl | decide | assumption) (⟨congrArg (fun z => some (Value.int z)) (b01_1 (by simp [c_15])), rfl⟩) (by decide) (by decide)
  · refine j_aload_n hX dX6_isOf_18 0 rfl ?_
    refine j_get (v := .ref v) hX hr rfl wf_X6 2 (by decide) lk_X6_19 (fun _ h => h) rfl dX6_isOf_19 ?_
    refine j_get (v := .ref rr) hX hv rfl wf_X3 1 (by decide) lk_X6_39 (fun _ h => h) rfl dX6_isOf_22 ?_
    refine j_aload_n hX dX6_isOf_25 1 rfl ?_
    refine j_acmp_ne hX 33 dX6_isOf_26 (by decide) (fun c_26 => ?_) (fun c_26 => ?_)
    · refine j_iconst (v := 0) hX dX6_isOf_33 (by decide) ?_
      exact j_zret hX hE dX6_isOf_34 (by first | rfl | decide | assumption) (⟨congrArg (fun z => some (Value.int z)) (b01_0 (by simp [c_15, c_26])), rfl⟩) (by decide) (by decide)
    · refine j_iconst (v := 1) hX dX6_isOf_29 (by decide) ?_
      refine j_goto hX 34 dX6_isOf_30 (by decide) ?_
      exact j_zret hX hE dX6_isOf_34 (by first | rfl | decide | assumption) (⟨congrArg (fun z => some (Value.int z)) (b01_1 (by simp [c_26])), rfl⟩) (by decide) (by decide)

set_option maxRecDepth 20000 in
set_option maxHeartbeats 600000 in
/-- isTouched() -/
theorem c_X9_isTouched_X3 (l : Launch) (K : Cst) (g : Wd) (v lr rr rw nw nx nwB nxB p pB : Nat) (vw vwB : Value) (w ch wB chB dp : Int32) (e1 e2 e3 : Int32) (hv : g v = some (ob 3 [.ref lr, .ref rr, .int dp, .ref rw, .int e1, .int e2, .int e3])) (hl9 : g lr = some (ob 6 [.ref nw, .ref nx, vw, .int w, .int (nI p), .int ch])) (hr9 : g rr = some (ob 6 [.ref nwB, .ref nxB, vwB, .int wB, .int (nI pB), .int chB])) (hp : p < 2 ^ 31) (hpB : pB < 2 ^ 31) : Ct l K yX9_isTouched cX9_isTouched 1 (some .boolean) 0 [.ref v] g (fun v g' => v = some (.int (b01 (decide (0 < p) || decide (0 < pB)))) ∧ g = g') (fun _ _ => False) 0 0 := by
  refine ct_of (by decide) (Nat.le_of_ble_eq_true rfl) ?_
  intro X hl hK hX hE hn hL hR hm
  subst hl; subst hK
  show J X 0 0 g 0 [(0, .ref v)] []
  refine j_aload_n hX dX9_isTouched_0 0 rfl ?_
  refine j_get (v := .ref lr) hX hv rfl wf_X3 0 (by decide) lk_X9_15 (fun _ h => h) rfl dX9_isTouched_1 ?_
  refine j_getN (v := .int (nI p)) hX hl9 rfl wf_X6 4 (by decide) nk_X9_37 (fun _ h => h) rfl dX9_isTouched_4 ?_
  refine j_if_gt hX 20 dX9_isTouched_7 (by decide) (fun c_7 => ?_) (fun c_7 => ?_)
  · have c7 : 0 < p := Nat.pos_of_ne_zero (fun q => by rw [q] at c_7; exact absurd c_7 (by decide))
    refine j_iconst (v := 1) hX dX9_isTouched_20 (by decide) ?_
    refine j_goto hX 25 dX9_isTouched_21 (by decide) ?_
    exact j_zret hX hE dX9_isTouched_25 (by first | rfl | decide | assumption) (⟨congrArg (fun z => some (Value.int z)) (b01_1 (by simp [c7])), rfl⟩) (by decide) (by decide)
  · have c7 : ¬ 0 < p := fun q => c_7 (by have := nI_nle q hp; exact Int32.not_le.mp this)
    refine j_aload_n hX dX9_isTouched_10 0 rfl ?_
    refine j_get (v := .ref rr) hX hv rfl wf_X3 1 (by decide) lk_X9_19 (fun _ h => h) rfl dX9_isTouched_11 ?_
    refine j_getN (v := .int (nI pB)) hX hr9 rfl wf_X6 4 (by decide) nk_X9_37 (fun _ h => h) rfl dX9_isTouched_14 ?_
    refine j_if_le hX 24 dX9_isTouched_17 (by decide) (fun c_17 => ?_) (fun c_17 => ?_)
    · have c17 : ¬ 0 < pB := fun q => nI_nle q hpB c_17
      refine j_iconst (v := 0) hX dX9_isTouched_24 (by decide) ?_
      exact j_zret hX hE dX9_isTouched_25 (by first | rfl | decide | assumption) (⟨congrArg (fun z => some (Value.int z)) (b01_0 (by simp; omega)), rfl⟩) (by decide) (by decide)
    · have c17 : 0 < pB := Nat.pos_of_ne_zero (fun q => c_17 (by rw [q]; decide))
      refine j_iconst (v := 1) hX dX9_isTouched_20 (by decide) ?_
      refine j_goto hX 25 dX9_isTouched_21 (by decide) ?_
      exact j_zret hX hE dX9_isTouched_25 (by first | rfl | decide | assumption) (⟨congrArg (fun z => some (Value.int z)) (b01_1 (by simp [c17])), rfl⟩) (by decide) (by decide)

set_option maxRecDepth 20000 in
set_option maxHeartbeats 600000 in
/-- depth() of a view -/
theorem c_X6_depth_X4 (l : Launch) (K : Cst) (g : Wd) (r nw nx : Nat) (w pd ch : Int32) (v lr rr rw : Nat) (dp : Int32) (e1 e2 : Int32) (hr : g r = some (ob 6 [.ref nw, .ref nx, .ref v, .int w, .int pd, .int ch])) (hv : g v = some (ob 4 [.ref lr, .ref rr, .int dp, .ref rw, .int e1, .int e2])) : Ct l K yX6_depth cX6_depth 1 (some .int) 0 [.ref r] g (fun v g' => v = some (.int dp) ∧ g = g') (fun _ _ => False) 0 0 := by
  refine ct_of (by decide) (Nat.le_of_ble_eq_true rfl) ?_
  intro X hl hK hX hE hn hL hR hm
  subst hl; subst hK
  show J X 0 0 g 0 [(0, .ref r)] []
  refine j_aload_n hX dX6_depth_0 0 rfl ?_
  refine j_get (v := .ref v) hX hr rfl wf_X6 2 (by decide) lk_X6_19 (fun _ h => h) rfl dX6_depth_1 ?_
  refine j_ifnonnull_r hX 11 dX6_depth_4 (by decide) ?_
  refine j_aload_n hX dX6_depth_11 0 rfl ?_
  refine j_get (v := .ref v) hX hr rfl wf_X6 2 (by decide) lk_X6_19 (fun _ h => h) rfl dX6_depth_12 ?_
  refine j_get (v := .int dp) hX hv rfl wf_X4 2 (by decide) lk_X6_42 (fun _ h => h) rfl dX6_depth_15 ?_
  exact j_iret hX hE dX6_depth_18 (⟨rfl, rfl⟩) (by decide) (by decide)

set_option maxRecDepth 20000 in
set_option maxHeartbeats 600000 in
/-- isOf(source) of a view -/
theorem c_X6_isOf_X4 (l : Launch) (K : Cst) (g : Wd) (r nw nx : Nat) (w pd ch : Int32) (v lr rr rw sr : Nat) (dp : Int32) (e1 e2 : Int32) (hr : g r = some (ob 6 [.ref nw, .ref nx, .ref v, .int w, .int pd, .int ch])) (hv : g v = some (ob 4 [.ref lr, .ref rr, .int dp, .ref rw, .int e1, .int e2])) : Ct l K yX6_isOf cX6_isOf 2 (some .boolean) 0 [.ref r, .ref sr] g (fun v g' => v = some (.int (b01 (decide (lr = sr) || decide (rr = sr)))) ∧ g = g') (fun _ _ => False) 0 0 := by
  refine ct_of (by decide) (Nat.le_of_ble_eq_true rfl) ?_
  intro X hl hK hX hE hn hL hR hm
  subst hl; subst hK
  show J X 0 0 g 0 [(0, .ref r), (1, .ref sr)] []
  refine j_aload_n hX dX6_isOf_0 0 rfl ?_
  refine j_get (v := .ref v) hX hr rfl wf_X6 2 (by decide) lk_X6_19 (fun _ h => h) rfl dX6_isOf_1 ?_
  refine j_ifnull_r hX dX6_isOf_4 ?_
  refine j_aload_n hX dX6_isOf_7 0 rfl ?_
  refine j_get (v := .ref v) hX hr rfl wf_X6 2 (by decide) lk_X6_19 (fun _ h => h) rfl dX6_isOf_8 ?_
  refine j_get (v := .ref lr) hX hv rfl wf_X4 0 (by decide) lk_X6_33 (fun _ h => h) rfl dX6_isOf_11 ?_
  refine j_aload_n hX dX6_isOf_14 1 rfl ?_
  refine j_acmp_eq hX 29 dX6_isOf_15 (by decide) (fun c_15 => ?_) (fun c_15 => ?_)
  · refine j_iconst (v := 1) hX dX6_isOf_29 (by decide) ?_
    refine j_goto hX 34 dX6_isOf_30 (by decide) ?_
    exact j_zret hX hE dX6_isOf_34 (by first | rfl | decide | assumption) (⟨congrArg (fun z => some (Value.int z)) (b01_1 (by simp [c_15])), rfl⟩) (by decide) (by decide)
  · refine j_aload_n hX dX6_isOf_18 0 rfl ?_
    refine j_get (v := .ref v) hX hr rfl wf_X6 2 (by decide) lk_X6_19 (fun _ h => h) rfl dX6_isOf_19 ?_
    refine j_get (v := .ref rr) hX hv rfl wf_X4 1 (by decide) lk_X6_39 (fun _ h => h) rfl dX6_isOf_22 ?_
    refine j_aload_n hX dX6_isOf_25 1 rfl ?_
    refine j_acmp_ne hX 33 dX6_isOf_26 (by decide) (fun c_26 => ?_) (fun c_26 => ?_)
    · refine j_iconst (v := 0) hX dX6_isOf_33 (by decide) ?_
      exact j_zret hX hE dX6_isOf_34 (by first | rfl | decide | assumption) (⟨congrArg (fun z => some (Value.int z)) (b01_0 (by simp [c_15, c_26])), rfl⟩) (by decide) (by decide)
    · refine j_iconst (v := 1) hX dX6_isOf_29 (by decide) ?_
      refine j_goto hX 34 dX6_isOf_30 (by decide) ?_
      exact j_zret hX hE dX6_isOf_34 (by first | rfl | decide | assumption) (⟨congrArg (fun z => some (Value.int z)) (b01_1 (by simp [c_26])), rfl⟩) (by decide) (by decide)

set_option maxRecDepth 20000 in
set_option maxHeartbeats 600000 in
/-- isTouched() -/
theorem c_X9_isTouched_X4 (l : Launch) (K : Cst) (g : Wd) (v lr rr rw nw nx nwB nxB p pB : Nat) (vw vwB : Value) (w ch wB chB dp : Int32) (e1 e2 : Int32) (hv : g v = some (ob 4 [.ref lr, .ref rr, .int dp, .ref rw, .int e1, .int e2])) (hl9 : g lr = some (ob 6 [.ref nw, .ref nx, vw, .int w, .int (nI p), .int ch])) (hr9 : g rr = some (ob 6 [.ref nwB, .ref nxB, vwB, .int wB, .int (nI pB), .int chB])) (hp : p < 2 ^ 31) (hpB : pB < 2 ^ 31) : Ct l K yX9_isTouched cX9_isTouched 1 (some .boolean) 0 [.ref v] g (fun v g' => v = some (.int (b01 (decide (0 < p) || decide (0 < pB)))) ∧ g = g') (fun _ _ => False) 0 0 := by
  refine ct_of (by decide) (Nat.le_of_ble_eq_true rfl) ?_
  intro X hl hK hX hE hn hL hR hm
  subst hl; subst hK
  show J X 0 0 g 0 [(0, .ref v)] []
  refine j_aload_n hX dX9_isTouched_0 0 rfl ?_
  refine j_get (v := .ref lr) hX hv rfl wf_X4 0 (by decide) lk_X9_15 (fun _ h => h) rfl dX9_isTouched_1 ?_
  refine j_getN (v := .int (nI p)) hX hl9 rfl wf_X6 4 (by decide) nk_X9_37 (fun _ h => h) rfl dX9_isTouched_4 ?_
  refine j_if_gt hX 20 dX9_isTouched_7 (by decide) (fun c_7 => ?_) (fun c_7 => ?_)
  · have c7 : 0 < p := Nat.pos_of_ne_zero (fun q => by rw [q] at c_7; exact absurd c_7 (by decide))
    refine j_iconst (v := 1) hX dX9_isTouched_20 (by decide) ?_
    refine j_goto hX 25 dX9_isTouched_21 (by decide) ?_
    exact j_zret hX hE dX9_isTouched_25 (by first | rfl | decide | assumption) (⟨congrArg (fun z => some (Value.int z)) (b01_1 (by simp [c7])), rfl⟩) (by decide) (by decide)
  · have c7 : ¬ 0 < p := fun q => c_7 (by have := nI_nle q hp; exact Int32.not_le.mp this)
    refine j_aload_n hX dX9_isTouched_10 0 rfl ?_
    refine j_get (v := .ref rr) hX hv rfl wf_X4 1 (by decide) lk_X9_19 (fun _ h => h) rfl dX9_isTouched_11 ?_
    refine j_getN (v := .int (nI pB)) hX hr9 rfl wf_X6 4 (by decide) nk_X9_37 (fun _ h => h) rfl dX9_isTouched_14 ?_
    refine j_if_le hX 24 dX9_isTouched_17 (by decide) (fun c_17 => ?_) (fun c_17 => ?_)
    · have c17 : ¬ 0 < pB := fun q => nI_nle q hpB c_17
      refine j_iconst (v := 0) hX dX9_isTouched_24 (by decide) ?_
      exact j_zret hX hE dX9_isTouched_25 (by first | rfl | decide | assumption) (⟨congrArg (fun z => some (Value.int z)) (b01_0 (by simp; omega)), rfl⟩) (by decide) (by decide)
    · have c17 : 0 < pB := Nat.pos_of_ne_zero (fun q => c_17 (by rw [q]; decide))
      refine j_iconst (v := 1) hX dX9_isTouched_20 (by decide) ?_
      refine j_goto hX 25 dX9_isTouched_21 (by decide) ?_
      exact j_zret hX hE dX9_isTouched_25 (by first | rfl | decide | assumption) (⟨congrArg (fun z => some (Value.int z)) (b01_1 (by simp [c17])), rfl⟩) (by decide) (by decide)

set_option maxRecDepth 20000 in
set_option maxHeartbeats 600000 in
/-- depth() of a view -/
theorem c_X6_depth_X5 (l : Launch) (K : Cst) (g : Wd) (r nw nx : Nat) (w pd ch : Int32) (v lr rr rw : Nat) (dp : Int32) (hr : g r = some (ob 6 [.ref nw, .ref nx, .ref v, .int w, .int pd, .int ch])) (hv : g v = some (ob 5 [.ref lr, .ref rr, .int dp, .ref rw])) : Ct l K yX6_depth cX6_depth 1 (some .int) 0 [.ref r] g (fun v g' => v = some (.int dp) ∧ g = g') (fun _ _ => False) 0 0 := by
  refine ct_of (by decide) (Nat.le_of_ble_eq_true rfl) ?_
  intro X hl hK hX hE hn hL hR hm
  subst hl; subst hK
  show J X 0 0 g 0 [(0, .ref r)] []
  refine j_aload_n hX dX6_depth_0 0 rfl ?_
  refine j_get (v := .ref v) hX hr rfl wf_X6 2 (by decide) lk_X6_19 (fun _ h => h) rfl dX6_depth_1 ?_
  refine j_ifnonnull_r hX 11 dX6_depth_4 (by decide) ?_
  refine j_aload_n hX dX6_depth_11 0 rfl ?_
  refine j_get (v := .ref v) hX hr rfl wf_X6 2 (by decide) lk_X6_19 (fun _ h => h) rfl dX6_depth_12 ?_
  refine j_get (v := .int dp) hX hv rfl wf_X5 2 (by decide) lk_X6_42 (fun _ h => h) rfl dX6_depth_15 ?_
  exact j_iret hX hE dX6_depth_18 (⟨rfl, rfl⟩) (by decide) (by decide)

set_option maxRecDepth 20000 in
set_option maxHeartbeats 600000 in
/-- isOf(source) of a view -/
theorem c_X6_isOf_X5 (l : Launch) (K : Cst) (g : Wd) (r nw nx : Nat) (w pd ch : Int32) (v lr rr rw sr : Nat) (dp : Int32) (hr : g r = some (ob 6 [.ref nw, .ref nx, .ref v, .int w, .int pd, .int ch])) (hv : g v = some (ob 5 [.ref lr, .ref rr, .int dp, .ref rw])) : Ct l K yX6_isOf cX6_isOf 2 (some .boolean) 0 [.ref r, .ref sr] g (fun v g' => v = some (.int (b01 (decide (lr = sr) || decide (rr = sr)))) ∧ g = g') (fun _ _ => False) 0 0 := by
  refine ct_of (by decide) (Nat.le_of_ble_eq_true rfl) ?_
  intro X hl hK hX hE hn hL hR hm
  subst hl; subst hK
  show J X 0 0 g 0 [(0, .ref r), (1, .ref sr)] []
  refine j_aload_n hX dX6_isOf_0 0 rfl ?_
  refine j_get (v := .ref v) hX hr rfl wf_X6 2 (by decide) lk_X6_19 (fun _ h => h) rfl dX6_isOf_1 ?_
  refine j_ifnull_r hX dX6_isOf_4 ?_
  refine j_aload_n hX dX6_isOf_7 0 rfl ?_
  refine j_get (v := .ref v) hX hr rfl wf_X6 2 (by decide) lk_X6_19 (fun _ h => h) rfl dX6_isOf_8 ?_
  refine j_get (v := .ref lr) hX hv rfl wf_X5 0 (by decide) lk_X6_33 (fun _ h => h) rfl dX6_isOf_11 ?_
  refine j_aload_n hX dX6_isOf_14 1 rfl ?_
  refine j_acmp_eq hX 29 dX6_isOf_15 (by decide) (fun c_15 => ?_) (fun c_15 => ?_)
  · refine j_iconst (v := 1) hX dX6_isOf_29 (by decide) ?_
    refine j_goto hX 34 dX6_isOf_30 (by decide) ?_
    exact j_zret hX hE dX6_isOf_34 (by first | rfl | decide | assumption) (⟨congrArg (fun z => some (Value.int z)) (b01_1 (by simp [c_15])), rfl⟩) (by decide) (by decide)
  · refine j_aload_n hX dX6_isOf_18 0 rfl ?_
    refine j_get (v := .ref v) hX hr rfl wf_X6 2 (by decide) lk_X6_19 (fun _ h => h) rfl dX6_isOf_19 ?_
    refine j_get (v := .ref rr) hX hv rfl wf_X5 1 (by decide) lk_X6_39 (fun _ h => h) rfl dX6_isOf_22 ?_
    refine j_aload_n hX dX6_isOf_25 1 rfl ?_
    refine j_acmp_ne hX 33 dX6_isOf_26 (by decide) (fun c_26 => ?_) (fun c_26 => ?_)
    · refine j_iconst (v := 0) hX dX6_isOf_33 (by decide) ?_
      exact j_zret hX hE dX6_isOf_34 (by first | rfl | decide | assumption) (⟨congrArg (fun z => some (Value.int z)) (b01_0 (by simp [c_15, c_26])), rfl⟩) (by decide) (by decide)
    · refine j_iconst (v := 1) hX dX6_isOf_29 (by decide) ?_
      refine j_goto hX 34 dX6_isOf_30 (by decide) ?_
      exact j_zret hX hE dX6_isOf_34 (by first | rfl | decide | assumption) (⟨congrArg (fun z => some (Value.int z)) (b01_1 (by simp [c_26])), rfl⟩) (by decide) (by decide)

set_option maxRecDepth 20000 in
set_option maxHeartbeats 600000 in
/-- isTouched() -/
theorem c_X9_isTouched_X5 (l : Launch) (K : Cst) (g : Wd) (v lr rr rw nw nx nwB nxB p pB : Nat) (vw vwB : Value) (w ch wB chB dp : Int32) (hv : g v = some (ob 5 [.ref lr, .ref rr, .int dp, .ref rw])) (hl9 : g lr = some (ob 6 [.ref nw, .ref nx, vw, .int w, .int (nI p), .int ch])) (hr9 : g rr = some (ob 6 [.ref nwB, .ref nxB, vwB, .int wB, .int (nI pB), .int chB])) (hp : p < 2 ^ 31) (hpB : pB < 2 ^ 31) : Ct l K yX9_isTouched cX9_isTouched 1 (some .boolean) 0 [.ref v] g (fun v g' => v = some (.int (b01 (decide (0 < p) || decide (0 < pB)))) ∧ g = g') (fun _ _ => False) 0 0 := by
  refine ct_of (by decide) (Nat.le_of_ble_eq_true rfl) ?_
  intro X hl hK hX hE hn hL hR hm
  subst hl; subst hK
  show J X 0 0 g 0 [(0, .ref v)] []
  refine j_aload_n hX dX9_isTouched_0 0 rfl ?_
  refine j_get (v := .ref lr) hX hv rfl wf_X5 0 (by decide) lk_X9_15 (fun _ h => h) rfl dX9_isTouched_1 ?_
  refine j_getN (v := .int (nI p)) hX hl9 rfl wf_X6 4 (by decide) nk_X9_37 (fun _ h => h) rfl dX9_isTouched_4 ?_
  refine j_if_gt hX 20 dX9_isTouched_7 (by decide) (fun c_7 => ?_) (fun c_7 => ?_)
  · have c7 : 0 < p := Nat.pos_of_ne_zero (fun q => by rw [q] at c_7; exact absurd c_7 (by decide))
    refine j_iconst (v := 1) hX dX9_isTouched_20 (by decide) ?_
    refine j_goto hX 25 dX9_isTouched_21 (by decide) ?_
    exact j_zret hX hE dX9_isTouched_25 (by first | rfl | decide | assumption) (⟨congrArg (fun z => some (Value.int z)) (b01_1 (by simp [c7])), rfl⟩) (by decide) (by decide)
  · have c7 : ¬ 0 < p := fun q => c_7 (by have := nI_nle q hp; exact Int32.not_le.mp this)
    refine j_aload_n hX dX9_isTouched_10 0 rfl ?_
    refine j_get (v := .ref rr) hX hv rfl wf_X5 1 (by decide) lk_X9_19 (fun _ h => h) rfl dX9_isTouched_11 ?_
    refine j_getN (v := .int (nI pB)) hX hr9 rfl wf_X6 4 (by decide) nk_X9_37 (fun _ h => h) rfl dX9_isTouched_14 ?_
    refine j_if_le hX 24 dX9_isTouched_17 (by decide) (fun c_17 => ?_) (fun c_17 => ?_)
    · have c17 : ¬ 0 < pB := fun q => nI_nle q hpB c_17
      refine j_iconst (v := 0) hX dX9_isTouched_24 (by decide) ?_
      exact j_zret hX hE dX9_isTouched_25 (by first | rfl | decide | assumption) (⟨congrArg (fun z => some (Value.int z)) (b01_0 (by simp; omega)), rfl⟩) (by decide) (by decide)
    · have c17 : 0 < pB := Nat.pos_of_ne_zero (fun q => c_17 (by rw [q]; decide))
      refine j_iconst (v := 1) hX dX9_isTouched_20 (by decide) ?_
      refine j_goto hX 25 dX9_isTouched_21 (by decide) ?_
      exact j_zret hX hE dX9_isTouched_25 (by first | rfl | decide | assumption) (⟨congrArg (fun z => some (Value.int z)) (b01_1 (by simp [c17])), rfl⟩) (by decide) (by decide)

set_option maxRecDepth 20000 in
set_option maxHeartbeats 600000 in
/-- depth() of a view -/
theorem c_X6_depth_X7 (l : Launch) (K : Cst) (g : Wd) (r nw nx : Nat) (w pd ch : Int32) (v lr rr rw : Nat) (dp : Int32) (e1 e2 e3 e4 : Int32) (hr : g r = some (ob 6 [.ref nw, .ref nx, .ref v, .int w, .int pd, .int ch])) (hv : g v = some (ob 7 [.ref lr, .ref rr, .int dp, .ref rw, .int e1, .int e2, .int e3, .int e4])) : Ct l K yX6_depth cX6_depth 1 (some .int) 0 [.ref r] g (fun v g' => v = some (.int dp) ∧ g = g') (fun _ _ => False) 0 0 := by
  refine ct_of (by decide) (Nat.le_of_ble_eq_true rfl) ?_
  intro X hl hK hX hE hn hL hR hm
  subst hl; subst hK
  show J X 0 0 g 0 [(0, .ref r)] []
  refine j_aload_n hX dX6_depth_0 0 rfl ?_
  refine j_get (v := .ref v) hX hr rfl wf_X6 2 (by decide) lk_X6_19 (fun _ h => h) rfl dX6_depth_1 ?_
  refine j_ifnonnull_r hX 11 dX6_depth_4 (by decide) ?_
  refine j_aload_n hX dX6_depth_11 0 rfl ?_
  refine j_get (v := .ref v) hX hr rfl wf_X6 2 (by decide) lk_X6_19 (fun _ h => h) rfl dX6_depth_12 ?_
  refine j_get (v := .int dp) hX hv rfl wf_X7 2 (by decide) lk_X6_42 (fun _ h => h) rfl dX6_depth_15 ?_
  exact j_iret hX hE dX6_depth_18 (⟨rfl, rfl⟩) (by decide) (by decide)

set_option maxRecDepth 20000 in
set_option maxHeartbeats 600000 in
/-- isOf(source) of a view -/
theorem c_X6_isOf_X7 (l : Launch) (K : Cst) (g : Wd) (r nw nx : Nat) (w pd ch : Int32) (v lr rr rw sr : Nat) (dp : Int32) (e1 e2 e3 e4 : Int32) (hr : g r = some (ob 6 [.ref nw, .ref nx, .ref v, .int w, .int pd, .int ch])) (hv : g v = some (ob 7 [.ref lr, .ref rr, .int dp, .ref rw, .int e1, .int e2, .int e3, .int e4])) : Ct l K yX6_isOf cX6_isOf 2 (some .boolean) 0 [.ref r, .ref sr] g (fun v g' => v = some (.int (b01 (decide (lr = sr) || decide (rr = sr)))) ∧ g = g') (fun _ _ => False) 0 0 := by
  refine ct_of (by decide) (Nat.le_of_ble_eq_true rfl) ?_
  intro X hl hK hX hE hn hL hR hm
  subst hl; subst hK
  show J X 0 0 g 0 [(0, .ref r), (1, .ref sr)] []
  refine j_aload_n hX dX6_isOf_0 0 rfl ?_
  refine j_get (v := .ref v) hX hr rfl wf_X6 2 (by decide) lk_X6_19 (fun _ h => h) rfl dX6_isOf_1 ?_
  refine j_ifnull_r hX dX6_isOf_4 ?_
  refine j_aload_n hX dX6_isOf_7 0 rfl ?_
  refine j_get (v := .ref v) hX hr rfl wf_X6 2 (by decide) lk_X6_19 (fun _ h => h) rfl dX6_isOf_8 ?_
  refine j_get (v := .ref lr) hX hv rfl wf_X7 0 (by decide) lk_X6_33 (fun _ h => h) rfl dX6_isOf_11 ?_
  refine j_aload_n hX dX6_isOf_14 1 rfl ?_
  refine j_acmp_eq hX 29 dX6_isOf_15 (by decide) (fun c_15 => ?_) (fun c_15 => ?_)
  · refine j_iconst (v := 1) hX dX6_isOf_29 (by decide) ?_
    refine j_goto hX 34 dX6_isOf_30 (by decide) ?_
    exact j_zret hX hE dX6_isOf_34 (by first | rfl | decide | assumption) (⟨congrArg (fun z => some (Value.int z)) (b01_1 (by simp [c_15])), rfl⟩) (by decide) (by decide)
  · refine j_aload_n hX dX6_isOf_18 0 rfl ?_
    refine j_get (v := .ref v) hX hr rfl wf_X6 2 (by decide) lk_X6_19 (fun _ h => h) rfl dX6_isOf_19 ?_
    refine j_get (v := .ref rr) hX hv rfl wf_X7 1 (by decide) lk_X6_39 (fun _ h => h) rfl dX6_isOf_22 ?_
    refine j_aload_n hX dX6_isOf_25 1 rfl ?_
    refine j_acmp_ne hX 33 dX6_isOf_26 (by decide) (fun c_26 => ?_) (fun c_26 => ?_)
    · refine j_iconst (v := 0) hX dX6_isOf_33 (by decide) ?_
      exact j_zret hX hE dX6_isOf_34 (by first | rfl | decide | assumption) (⟨congrArg (fun z => some (Value.int z)) (b01_0 (by simp [c_15, c_26])), rfl⟩) (by decide) (by decide)
    · refine j_iconst (v := 1) hX dX6_isOf_29 (by decide) ?_
      refine j_goto hX 34 dX6_isOf_30 (by decide) ?_
      exact j_zret hX hE dX6_isOf_34 (by first | rfl | decide | assumption) (⟨congrArg (fun z => some (Value.int z)) (b01_1 (by simp [c_26])), rfl⟩) (by decide) (by decide)

set_option maxRecDepth 20000 in
set_option maxHeartbeats 600000 in
/-- isTouched() -/
theorem c_X9_isTouched_X7 (l : Launch) (K : Cst) (g : Wd) (v lr rr rw nw nx nwB nxB p pB : Nat) (vw vwB : Value) (w ch wB chB dp : Int32) (e1 e2 e3 e4 : Int32) (hv : g v = some (ob 7 [.ref lr, .ref rr, .int dp, .ref rw, .int e1, .int e2, .int e3, .int e4])) (hl9 : g lr = some (ob 6 [.ref nw, .ref nx, vw, .int w, .int (nI p), .int ch])) (hr9 : g rr = some (ob 6 [.ref nwB, .ref nxB, vwB, .int wB, .int (nI pB), .int chB])) (hp : p < 2 ^ 31) (hpB : pB < 2 ^ 31) : Ct l K yX9_isTouched cX9_isTouched 1 (some .boolean) 0 [.ref v] g (fun v g' => v = some (.int (b01 (decide (0 < p) || decide (0 < pB)))) ∧ g = g') (fun _ _ => False) 0 0 := by
  refine ct_of (by decide) (Nat.le_of_ble_eq_true rfl) ?_
  intro X hl hK hX hE hn hL hR hm
  subst hl; subst hK
  show J X 0 0 g 0 [(0, .ref v)] []
  refine j_aload_n hX dX9_isTouched_0 0 rfl ?_
  refine j_get (v := .ref lr) hX hv rfl wf_X7 0 (by decide) lk_X9_15 (fun _ h => h) rfl dX9_isTouched_1 ?_
  refine j_getN (v := .int (nI p)) hX hl9 rfl wf_X6 4 (by decide) nk_X9_37 (fun _ h => h) rfl dX9_isTouched_4 ?_
  refine j_if_gt hX 20 dX9_isTouched_7 (by decide) (fun c_7 => ?_) (fun c_7 => ?_)
  · have c7 : 0 < p := Nat.pos_of_ne_zero (fun q => by rw [q] at c_7; exact absurd c_7 (by decide))
    refine j_iconst (v := 1) hX dX9_isTouched_20 (by decide) ?_
    refine j_goto hX 25 dX9_isTouched_21 (by decide) ?_
    exact j_zret hX hE dX9_isTouched_25 (by first | rfl | decide | assumption) (⟨congrArg (fun z => some (Value.int z)) (b01_1 (by simp [c7])), rfl⟩) (by decide) (by decide)
  · have c7 : ¬ 0 < p := fun q => c_7 (by have := nI_nle q hp; exact Int32.not_le.mp this)
    refine j_aload_n hX dX9_isTouched_10 0 rfl ?_
    refine j_get (v := .ref rr) hX hv rfl wf_X7 1 (by decide) lk_X9_19 (fun _ h => h) rfl dX9_isTouched_11 ?_
    refine j_getN (v := .int (nI pB)) hX hr9 rfl wf_X6 4 (by decide) nk_X9_37 (fun _ h => h) rfl dX9_isTouched_14 ?_
    refine j_if_le hX 24 dX9_isTouched_17 (by decide) (fun c_17 => ?_) (fun c_17 => ?_)
    · have c17 : ¬ 0 < pB := fun q => nI_nle q hpB c_17
      refine j_iconst (v := 0) hX dX9_isTouched_24 (by decide) ?_
      exact j_zret hX hE dX9_isTouched_25 (by first | rfl | decide | assumption) (⟨congrArg (fun z => some (Value.int z)) (b01_0 (by simp; omega)), rfl⟩) (by decide) (by decide)
    · have c17 : 0 < pB := Nat.pos_of_ne_zero (fun q => c_17 (by rw [q]; decide))
      refine j_iconst (v := 1) hX dX9_isTouched_20 (by decide) ?_
      refine j_goto hX 25 dX9_isTouched_21 (by decide) ?_
      exact j_zret hX hE dX9_isTouched_25 (by first | rfl | decide | assumption) (⟨congrArg (fun z => some (Value.int z)) (b01_1 (by simp [c17])), rfl⟩) (by decide) (by decide)

set_option maxRecDepth 20000 in
set_option maxHeartbeats 600000 in
/-- depth() of a view -/
theorem c_X6_depth_X8 (l : Launch) (K : Cst) (g : Wd) (r nw nx : Nat) (w pd ch : Int32) (v lr rr rw : Nat) (dp : Int32) (hr : g r = some (ob 6 [.ref nw, .ref nx, .ref v, .int w, .int pd, .int ch])) (hv : g v = some (ob 8 [.ref lr, .ref rr, .int dp, .ref rw])) : Ct l K yX6_depth cX6_depth 1 (some .int) 0 [.ref r] g (fun v g' => v = some (.int dp) ∧ g = g') (fun _ _ => False) 0 0 := by
  refine ct_of (by decide) (Nat.le_of_ble_eq_true rfl) ?_
  intro X hl hK hX hE hn hL hR hm
  subst hl; subst hK
  show J X 0 0 g 0 [(0, .ref r)] []
  refine j_aload_n hX dX6_depth_0 0 rfl ?_
  refine j_get (v := .ref v) hX hr rfl wf_X6 2 (by decide) lk_X6_19 (fun _ h => h) rfl dX6_depth_1 ?_
  refine j_ifnonnull_r hX 11 dX6_depth_4 (by decide) ?_
  refine j_aload_n hX dX6_depth_11 0 rfl ?_
  refine j_get (v := .ref v) hX hr rfl wf_X6 2 (by decide) lk_X6_19 (fun _ h => h) rfl dX6_depth_12 ?_
  refine j_get (v := .int dp) hX hv rfl wf_X8 2 (by decide) lk_X6_42 (fun _ h => h) rfl dX6_depth_15 ?_
  exact j_iret hX hE dX6_depth_18 (⟨rfl, rfl⟩) (by decide) (by decide)

set_option maxRecDepth 20000 in
set_option maxHeartbeats 600000 in
/-- isOf(source) of a view -/
theorem c_X6_isOf_X8 (l : Launch) (K : Cst) (g : Wd) (r nw nx : Nat) (w pd ch : Int32) (v lr rr rw sr : Nat) (dp : Int32) (hr : g r = some (ob 6 [.ref nw, .ref nx, .ref v, .int w, .int pd, .int ch])) (hv : g v = some (ob 8 [.ref lr, .ref rr, .int dp, .ref rw])) : Ct l K yX6_isOf cX6_isOf 2 (some .boolean) 0 [.ref r, .ref sr] g (fun v g' => v = some (.int (b01 (decide (lr = sr) || decide (rr = sr)))) ∧ g = g') (fun _ _ => False) 0 0 := by
  refine ct_of (by decide) (Nat.le_of_ble_eq_true rfl) ?_
  intro X hl hK hX hE hn hL hR hm
  subst hl; subst hK
  show J X 0 0 g 0 [(0, .ref r), (1, .ref sr)] []
  refine j_aload_n hX dX6_isOf_0 0 rfl ?_
  refine j_get (v := .ref v) hX hr rfl wf_X6 2 (by decide) lk_X6_19 (fun _ h => h) rfl dX6_isOf_1 ?_
  refine j_ifnull_r hX dX6_isOf_4 ?_
  refine j_aload_n hX dX6_isOf_7 0 rfl ?_
  refine j_get (v := .ref v) hX hr rfl wf_X6 2 (by decide) lk_X6_19 (fun _ h => h) rfl dX6_isOf_8 ?_
  refine j_get (v := .ref lr) hX hv rfl wf_X8 0 (by decide) lk_X6_33 (fun _ h => h) rfl dX6_isOf_11 ?_
  refine j_aload_n hX dX6_isOf_14 1 rfl ?_
  refine j_acmp_eq hX 29 dX6_isOf_15 (by decide) (fun c_15 => ?_) (fun c_15 => ?_)
  · refine j_iconst (v := 1) hX dX6_isOf_29 (by decide) ?_
    refine j_goto hX 34 dX6_isOf_30 (by decide) ?_
    exact j_zret hX hE dX6_isOf_34 (by first | rfl | decide | assumption) (⟨congrArg (fun z => some (Value.int z)) (b01_1 (by simp [c_15])), rfl⟩) (by decide) (by decide)
  · refine j_aload_n hX dX6_isOf_18 0 rfl ?_
    refine j_get (v := .ref v) hX hr rfl wf_X6 2 (by decide) lk_X6_19 (fun _ h => h) rfl dX6_isOf_19 ?_
    refine j_get (v := .ref rr) hX hv rfl wf_X8 1 (by decide) lk_X6_39 (fun _ h => h) rfl dX6_isOf_22 ?_
    refine j_aload_n hX dX6_isOf_25 1 rfl ?_
    refine j_acmp_ne hX 33 dX6_isOf_26 (by decide) (fun c_26 => ?_) (fun c_26 => ?_)
    · refine j_iconst (v := 0) hX dX6_isOf_33 (by decide) ?_
      exact j_zret hX hE dX6_isOf_34 (by first | rfl | decide | assumption) (⟨congrArg (fun z => some (Value.int z)) (b01_0 (by simp [c_15, c_26])), rfl⟩) (by decide) (by decide)
    · refine j_iconst (v := 1) hX dX6_isOf_29 (by decide) ?_
      refine j_goto hX 34 dX6_isOf_30 (by decide) ?_
      exact j_zret hX hE dX6_isOf_34 (by first | rfl | decide | assumption) (⟨congrArg (fun z => some (Value.int z)) (b01_1 (by simp [c_26])), rfl⟩) (by decide) (by decide)

set_option maxRecDepth 20000 in
set_option maxHeartbeats 600000 in
/-- isTouched() -/
theorem c_X9_isTouched_X8 (l : Launch) (K : Cst) (g : Wd) (v lr rr rw nw nx nwB nxB p pB : Nat) (vw vwB : Value) (w ch wB chB dp : Int32) (hv : g v = some (ob 8 [.ref lr, .ref rr, .int dp, .ref rw])) (hl9 : g lr = some (ob 6 [.ref nw, .ref nx, vw, .int w, .int (nI p), .int ch])) (hr9 : g rr = some (ob 6 [.ref nwB, .ref nxB, vwB, .int wB, .int (nI pB), .int chB])) (hp : p < 2 ^ 31) (hpB : pB < 2 ^ 31) : Ct l K yX9_isTouched cX9_isTouched 1 (some .boolean) 0 [.ref v] g (fun v g' => v = some (.int (b01 (decide (0 < p) || decide (0 < pB)))) ∧ g = g') (fun _ _ => False) 0 0 := by
  refine ct_of (by decide) (Nat.le_of_ble_eq_true rfl) ?_
  intro X hl hK hX hE hn hL hR hm
  subst hl; subst hK
  show J X 0 0 g 0 [(0, .ref v)] []
  refine j_aload_n hX dX9_isTouched_0 0 rfl ?_
  refine j_get (v := .ref lr) hX hv rfl wf_X8 0 (by decide) lk_X9_15 (fun _ h => h) rfl dX9_isTouched_1 ?_
  refine j_getN (v := .int (nI p)) hX hl9 rfl wf_X6 4 (by decide) nk_X9_37 (fun _ h => h) rfl dX9_isTouched_4 ?_
  refine j_if_gt hX 20 dX9_isTouched_7 (by decide) (fun c_7 => ?_) (fun c_7 => ?_)
  · have c7 : 0 < p := Nat.pos_of_ne_zero (fun q => by rw [q] at c_7; exact absurd c_7 (by decide))
    refine j_iconst (v := 1) hX dX9_isTouched_20 (by decide) ?_
    refine j_goto hX 25 dX9_isTouched_21 (by decide) ?_
    exact j_zret hX hE dX9_isTouched_25 (by first | rfl | decide | assumption) (⟨congrArg (fun z => some (Value.int z)) (b01_1 (by simp [c7])), rfl⟩) (by decide) (by decide)
  · have c7 : ¬ 0 < p := fun q => c_7 (by have := nI_nle q hp; exact Int32.not_le.mp this)
    refine j_aload_n hX dX9_isTouched_10 0 rfl ?_
    refine j_get (v := .ref rr) hX hv rfl wf_X8 1 (by decide) lk_X9_19 (fun _ h => h) rfl dX9_isTouched_11 ?_
    refine j_getN (v := .int (nI pB)) hX hr9 rfl wf_X6 4 (by decide) nk_X9_37 (fun _ h => h) rfl dX9_isTouched_14 ?_
    refine j_if_le hX 24 dX9_isTouched_17 (by decide) (fun c_17 => ?_) (fun c_17 => ?_)
    · have c17 : ¬ 0 < pB := fun q => nI_nle q hpB c_17
      refine j_iconst (v := 0) hX dX9_isTouched_24 (by decide) ?_
      exact j_zret hX hE dX9_isTouched_25 (by first | rfl | decide | assumption) (⟨congrArg (fun z => some (Value.int z)) (b01_0 (by simp; omega)), rfl⟩) (by decide) (by decide)
    · have c17 : 0 < pB := Nat.pos_of_ne_zero (fun q => c_17 (by rw [q]; decide))
      refine j_iconst (v := 1) hX dX9_isTouched_20 (by decide) ?_
      refine j_goto hX 25 dX9_isTouched_21 (by decide) ?_
      exact j_zret hX hE dX9_isTouched_25 (by first | rfl | decide | assumption) (⟨congrArg (fun z => some (Value.int z)) (b01_1 (by simp [c17])), rfl⟩) (by decide) (by decide)

set_option maxRecDepth 20000 in
set_option maxHeartbeats 600000 in
/-- depth() of no view -/
theorem c_X6_depth_n (l : Launch) (K : Cst) (g : Wd) (r nw nx : Nat) (w pd ch : Int32) (hr : g r = some (ob 6 [.ref nw, .ref nx, .null, .int w, .int pd, .int ch])) : Ct l K yX6_depth cX6_depth 1 (some .int) 0 [.ref r] g (fun v g' => v = some (.int 0) ∧ g = g') (fun _ _ => False) 0 0 := by
  refine ct_of (by decide) (Nat.le_of_ble_eq_true rfl) ?_
  intro X hl hK hX hE hn hL hR hm
  subst hl; subst hK
  show J X 0 0 g 0 [(0, .ref r)] []
  refine j_aload_n hX dX6_depth_0 0 rfl ?_
  refine j_get (v := .null) hX hr rfl wf_X6 2 (by decide) lk_X6_19 (fun _ h => h) rfl dX6_depth_1 ?_
  refine j_ifnonnull_n hX dX6_depth_4 ?_
  refine j_iconst (v := 0) hX dX6_depth_7 (by decide) ?_
  refine j_goto hX 18 dX6_depth_8 (by decide) ?_
  exact j_iret hX hE dX6_depth_18 (⟨rfl, rfl⟩) (by decide) (by decide)

set_option maxRecDepth 20000 in
set_option maxHeartbeats 600000 in
/-- isOf(source) of no view -/
theorem c_X6_isOf_n (l : Launch) (K : Cst) (g : Wd) (r nw nx : Nat) (w pd ch : Int32) (sr : Nat) (hr : g r = some (ob 6 [.ref nw, .ref nx, .null, .int w, .int pd, .int ch])) : Ct l K yX6_isOf cX6_isOf 2 (some .boolean) 0 [.ref r, .ref sr] g (fun v g' => v = some (.int 0) ∧ g = g') (fun _ _ => False) 0 0 := by
  refine ct_of (by decide) (Nat.le_of_ble_eq_true rfl) ?_
  intro X hl hK hX hE hn hL hR hm
  subst hl; subst hK
  show J X 0 0 g 0 [(0, .ref r), (1, .ref sr)] []
  refine j_aload_n hX dX6_isOf_0 0 rfl ?_
  refine j_get (v := .null) hX hr rfl wf_X6 2 (by decide) lk_X6_19 (fun _ h => h) rfl dX6_isOf_1 ?_
  refine j_ifnull_n hX 33 dX6_isOf_4 (by decide) ?_
  refine j_iconst (v := 0) hX dX6_isOf_33 (by decide) ?_
  exact j_zret hX hE dX6_isOf_34 (by first | rfl | decide | assumption) (⟨rfl, rfl⟩) (by decide) (by decide)

