/-- d is the depth of the relation at r -/
def depAt (K : Cst) (g : Wd) (r d : Nat) : Prop := ∃ nw nx w pd ch, (g r = some (ob 6 [.ref nw, .ref nx, .null, .int w, .int pd, .int ch]) ∧ d = 0) ∨ ∃ v kd lr rr rw ck n ot, g r = some (ob 6 [.ref nw, .ref nx, .ref v, .int w, .int pd, .int ch]) ∧ vwAt K g v kd lr rr d rw ck n ot
def Sub (g g' : Wd) : Prop := ∀ q e, g q = some e → g' q = some e
theorem vwAt.sub {K : Cst} {g g' : Wd} {v kd lr rr dp rw ck : Nat} {n : Nat → Int32} {ot : Bool} (hs : Sub g g') (h : vwAt K g v kd lr rr dp rw ck n ot) : vwAt K g' v kd lr rr dp rw ck n ot := by
  match kd, h with
  | 2, h => exact hs _ _ h
  | 3, h => exact ⟨hs _ _ h.1, hs _ _ h.2.1, h.2.2⟩
  | 4, h => exact hs _ _ h
  | 5, h => exact hs _ _ h
  | 6, h => exact hs _ _ h
  | 7, h => exact hs _ _ h
  | 8, h => exact hs _ _ h
  | 0, h => exact h.elim
  | 1, h => exact h.elim
  | _ + 9, h => exact h.elim
theorem depAt.sub {K : Cst} {g g' : Wd} {r d : Nat} (hs : Sub g g') (h : depAt K g r d) : depAt K g' r d := by
  obtain ⟨nw, nx, w, pd, ch, h⟩ := h
  refine ⟨nw, nx, w, pd, ch, ?_⟩
  rcases h with ⟨h1, h2⟩ | ⟨v, kd, lr, rr, rw, ck, n, ot, h1, h2⟩
  · exact Or.inl ⟨hs _ _ h1, h2⟩
  · exact Or.inr ⟨v, kd, lr, rr, rw, ck, n, ot, hs _ _ h1, h2.sub hs⟩
theorem Sub.up {g g' : Wd} {a : Nat} {e : va_E} (hs : Sub g g') (ha : g a = none) : Sub g (up g' a e) := fun q x hq => by
  rw [up_n (ne_fr hq ha)]; exact hs q x hq
theorem depAt.is {K : Cst} {g : Wd} {r d : Nat} (h : depAt K g r d) : ∃ fs, g r = some (ob 6 fs) := by
  obtain ⟨nw, nx, w, pd, ch, h⟩ := h
  rcases h with ⟨h1, h2⟩ | ⟨v, kd, lr, rr, rw, ck, n, ot, h1, h2⟩
  · exact ⟨_, h1⟩
  · exact ⟨_, h1⟩
theorem c_X6_dep (l : Launch) (K : Cst) (g : Wd) (r d : Nat) (h : depAt K g r d) : Ct l K yX6_depth cX6_depth 1 (some .int) 0 [.ref r] g (fun v g' => v = some (.int (nI d)) ∧ g = g') (fun _ _ => False) 0 0 := by
  obtain ⟨nw, nx, w, pd, ch, h⟩ := h
  rcases h with ⟨h1, h2⟩ | ⟨v, kd, lr, rr, rw, ck, n, ot, h1, h2⟩
  · rw [h2]; exact c_X6_depth_n l K g r nw nx w pd ch h1
  · exact c_X6_depth l K g r nw nx w pd ch v kd lr rr d rw ck n ot h1 h2
theorem dmax {a b : Nat} (ha : a < 2 ^ 20) (hb : b < 2 ^ 20) : 1 + (if nI a < nI b then nI b else nI a) = nI (1 + max a b) := by
  have e1 : (1 : Int32) = nI 1 := rfl
  by_cases h : a < b
  · rw [if_pos (nI_lt h (by omega)), e1, nI_add, Nat.max_eq_right (by omega)]
  · rw [if_neg (nI_nlt (by omega) (by omega)), e1, nI_add, Nat.max_eq_left (by omega)]
theorem dom_s {g g' : Wd} {q : Nat} (hs : Sub g g') (h : g' q = none) : g q = none := by
  cases hq : g q with
  | none => rfl
  | some e => exact absurd (hs q e hq) (by rw [h]; simp)
set_option maxRecDepth 20000 in
set_option maxHeartbeats 600000 in
/-- View(left, right) -/
theorem c_X9_init_X1 (l : Launch) (K : Cst) (g0 g : Wd) (v lr rr dl dr : Nat) (h0 : g0 v = none) (hs : Sub g0 g) (hdl : depAt K g0 lr dl) (hdr : depAt K g0 rr dr) (bl : dl < 2 ^ 20) (br : dr < 2 ^ 20) (hv : g v = some (ob 1 [.null, .null, .int 0, .null, .null])) : Ct l K yX9_init cX9_init 3 none 2 [.ref v, .ref lr, .ref rr] g (fun v9 g' => v9 = none ∧ ∃ rw, g rw = none ∧ g' = up (up g rw (aI K 4 (fun _ => 0))) v (ob 1 [.ref lr, .ref rr, .int (nI (1 + max dl dr)), .ref rw, .null])) (fun _ _ => False) 1 4 := by
  refine ct_of (by decide) (Nat.le_of_ble_eq_true rfl) ?_
  intro X hl hK hX hE hn hL hR hm
  subst hl; subst hK
  show J X 0 0 g 0 [(0, .ref v), (1, .ref lr), (2, .ref rr)] []
  obtain ⟨fl9, hl9⟩ := (hdl.sub hs).is
  obtain ⟨fr9, hr9⟩ := (hdr.sub hs).is
  refine j_aload_n hX dX9_init_0 0 rfl ?_
  refine j_objI hX lk_X9_3 (by rw [hL]; decide) (Nat.le_of_ble_eq_true rfl) dX9_init_1 ?_
  refine j_aload_n hX dX9_init_4 0 rfl ?_
  refine j_iconst (v := nI 4) hX dX9_init_5 (by decide) ?_
  refine j_newI (n := 4) hX (rfl) (by decide) dX9_init_6 (by rw [hR]; decide) (by rw [hR]; decide) (fun rw frw => ?_)
  obtain ⟨g1, eg1⟩ : ∃ z : Wd, z = up g rw (aI (xK X) 4 (fun _ => 0)) := ⟨_, rfl⟩
  refine j_w eg1.symm ?_
  have k1_v := (congrFun eg1 v).trans ((up_n (ne_fr (hv) frw)).trans (hv))
  have k1_lr := (congrFun eg1 lr).trans ((up_n (ne_fr (hl9) frw)).trans (hl9))
  have k1_rr := (congrFun eg1 rr).trans ((up_n (ne_fr (hr9) frw)).trans (hr9))
  have k1_rw : g1 rw = some (aI (xK X) 4 (fun _ => 0)) := by rw [eg1]; exact up_s _ _ _
  show J X 1 4 g1 8 [(0, .ref v), (1, .ref lr), (2, .ref rr)] [.ref rw, .ref v]
  refine j_putF hX hm k1_v rfl wf_X1 tyX1_ok nmX1 3 (by decide) lk_X9_9 (fun _ h => h) rfl rfl (tyX1_ok 3 (by decide)) rfl rfl (Nat.le_of_ble_eq_true rfl) dX9_init_8 ?_
  obtain ⟨g2, eg2⟩ : ∃ z : Wd, z = up g1 v (ob 1 [.null, .null, .int 0, .ref rw, .null]) := ⟨_, rfl⟩
  refine j_w eg2.symm ?_
  have k2_v : g2 v = some (ob 1 [.null, .null, .int 0, .ref rw, .null]) := by rw [eg2]; exact up_s _ _ _
  have k2_lr := (congrFun eg2 lr).trans ((up_n (by first | exact ne_ob (k1_lr) (k1_v) (by first | simp | decide | (intro h9; cases h9) | (simp only [ne_eq]; intro h9; injection h9 with h8; simp at h8)) | assumption | (apply Ne.symm; assumption))).trans (k1_lr))
  have k2_rr := (congrFun eg2 rr).trans ((up_n (by first | exact ne_ob (k1_rr) (k1_v) (by first | simp | decide | (intro h9; cases h9) | (simp only [ne_eq]; intro h9; injection h9 with h8; simp at h8)) | assumption | (apply Ne.symm; assumption))).trans (k1_rr))
  have k2_rw := (congrFun eg2 rw).trans ((up_n (by first | exact ne_ob (k1_rw) (k1_v) (by first | simp | decide | (intro h9; cases h9) | (simp only [ne_eq]; intro h9; injection h9 with h8; simp at h8)) | assumption | (apply Ne.symm; assumption))).trans (k1_rw))
  refine j_aload_n hX dX9_init_11 0 rfl ?_
  refine j_aload_n hX dX9_init_12 1 rfl ?_
  refine j_putF hX hm k2_v rfl wf_X1 tyX1_ok nmX1 0 (by decide) lk_X9_15 (fun _ h => h) rfl rfl (tyX1_ok 0 (by decide)) rfl rfl (Nat.le_of_ble_eq_true rfl) dX9_init_13 ?_
  obtain ⟨g3, eg3⟩ : ∃ z : Wd, z = up g2 v (ob 1 [.ref lr, .null, .int 0, .ref rw, .null]) := ⟨_, rfl⟩
  refine j_w eg3.symm ?_
  have k3_v : g3 v = some (ob 1 [.ref lr, .null, .int 0, .ref rw, .null]) := by rw [eg3]; exact up_s _ _ _
  have k3_lr := (congrFun eg3 lr).trans ((up_n (by first | exact ne_ob (k2_lr) (k2_v) (by first | simp | decide | (intro h9; cases h9) | (simp only [ne_eq]; intro h9; injection h9 with h8; simp at h8)) | assumption | (apply Ne.symm; assumption))).trans (k2_lr))
  have k3_rr := (congrFun eg3 rr).trans ((up_n (by first | exact ne_ob (k2_rr) (k2_v) (by first | simp | decide | (intro h9; cases h9) | (simp only [ne_eq]; intro h9; injection h9 with h8; simp at h8)) | assumption | (apply Ne.symm; assumption))).trans (k2_rr))
  have k3_rw := (congrFun eg3 rw).trans ((up_n (by first | exact ne_ob (k2_rw) (k2_v) (by first | simp | decide | (intro h9; cases h9) | (simp only [ne_eq]; intro h9; injection h9 with h8; simp at h8)) | assumption | (apply Ne.symm; assumption))).trans (k2_rw))
  refine j_aload_n hX dX9_init_16 0 rfl ?_
  refine j_aload_n hX dX9_init_17 2 rfl ?_
  refine j_putF hX hm k3_v rfl wf_X1 tyX1_ok nmX1 1 (by decide) lk_X9_19 (fun _ h => h) rfl rfl (tyX1_ok 1 (by decide)) rfl rfl (Nat.le_of_ble_eq_true rfl) dX9_init_18 ?_
  obtain ⟨g4, eg4⟩ : ∃ z : Wd, z = up g3 v (ob 1 [.ref lr, .ref rr, .int 0, .ref rw, .null]) := ⟨_, rfl⟩
  refine j_w eg4.symm ?_
  have k4_v : g4 v = some (ob 1 [.ref lr, .ref rr, .int 0, .ref rw, .null]) := by rw [eg4]; exact up_s _ _ _
  have k4_lr := (congrFun eg4 lr).trans ((up_n (by first | exact ne_ob (k3_lr) (k3_v) (by first | simp | decide | (intro h9; cases h9) | (simp only [ne_eq]; intro h9; injection h9 with h8; simp at h8)) | assumption | (apply Ne.symm; assumption))).trans (k3_lr))
  have k4_rr := (congrFun eg4 rr).trans ((up_n (by first | exact ne_ob (k3_rr) (k3_v) (by first | simp | decide | (intro h9; cases h9) | (simp only [ne_eq]; intro h9; injection h9 with h8; simp at h8)) | assumption | (apply Ne.symm; assumption))).trans (k3_rr))
  have k4_rw := (congrFun eg4 rw).trans ((up_n (by first | exact ne_ob (k3_rw) (k3_v) (by first | simp | decide | (intro h9; cases h9) | (simp only [ne_eq]; intro h9; injection h9 with h8; simp at h8)) | assumption | (apply Ne.symm; assumption))).trans (k3_rw))
  have S1 : Sub g0 g2 := by rw [eg2, eg1]; exact (hs.up (dom_s hs frw)).up h0
  have S2 : Sub g0 g3 := by rw [eg3]; exact S1.up h0
  have S3 : Sub g0 g4 := by rw [eg4]; exact S2.up h0
  refine j_aload_n hX dX9_init_21 0 rfl ?_
  refine j_iconst (v := 1) hX dX9_init_22 (by decide) ?_
  refine j_aload_n hX dX9_init_23 1 rfl ?_
  refine j_callV (As := []) (rest := [.int 1, .ref v]) hX (c_X6_dep (xl X) (xK X) g4 lr dl (hdl.sub S3)) k4_lr rfl lk_X9_22 wI_X6_depth wV_X6_X6_depth wN_X6 wC_X6_depth hd_X6_depth rfl (by rw [hL]; decide) (by decide) rfl (Nat.le_of_ble_eq_true rfl) dX9_init_24 (by rw [hR]; decide) (by rw [hR]; decide) jx_no ?_
  rintro _ _ ⟨rfl, rfl⟩
  show J X 1 4 g4 27 [(0, .ref v), (1, .ref lr), (2, .ref rr)] [.int (nI dl), .int 1, .ref v]
  refine j_aload_n hX dX9_init_27 2 rfl ?_
  refine j_callV (As := []) (rest := [.int (nI dl), .int 1, .ref v]) hX (c_X6_dep (xl X) (xK X) g4 rr dr (hdr.sub S3)) k4_rr rfl lk_X9_22 wI_X6_depth wV_X6_X6_depth wN_X6 wC_X6_depth hd_X6_depth rfl (by rw [hL]; decide) (by decide) rfl (Nat.le_of_ble_eq_true rfl) dX9_init_28 (by rw [hR]; decide) (by rw [hR]; decide) jx_no ?_
  rintro _ _ ⟨rfl, rfl⟩
  show J X 1 4 g4 31 [(0, .ref v), (1, .ref lr), (2, .ref rr)] [.int (nI dr), .int (nI dl), .int 1, .ref v]
  refine j_max hX lk_X9_28 (by rw [hL]; decide) (Nat.le_of_ble_eq_true rfl) (by rw [hR]; decide) (by rw [hR]; decide) dX9_init_31 ?_
  refine j_iadd hX dX9_init_34 ?_
  refine j_eqi (y := nI (1 + max dl dr)) (dmax bl br) ?_
  refine j_putF hX hm k4_v rfl wf_X1 tyX1_ok nmX1 2 (by decide) lk_X9_34 (fun _ h => h) rfl rfl (tyX1_ok 2 (by decide)) rfl rfl (Nat.le_of_ble_eq_true rfl) dX9_init_35 ?_
  obtain ⟨g5, eg5⟩ : ∃ z : Wd, z = up g4 v (ob 1 [.ref lr, .ref rr, .int (nI (1 + max dl dr)), .ref rw, .null]) := ⟨_, rfl⟩
  refine j_w eg5.symm ?_
  have k5_v : g5 v = some (ob 1 [.ref lr, .ref rr, .int (nI (1 + max dl dr)), .ref rw, .null]) := by rw [eg5]; exact up_s _ _ _
  exact j_vret hX hE dX9_init_38 (⟨rfl, rw, frw, by rw [eg5, eg4, up_up, eg3, up_up, eg2, up_up, eg1]⟩) (by decide) (by decide)

set_option maxRecDepth 20000 in
set_option maxHeartbeats 600000 in
/-- View(left, right) -/
theorem c_X9_init_X2 (l : Launch) (K : Cst) (g0 g : Wd) (v lr rr dl dr : Nat) (h0 : g0 v = none) (hs : Sub g0 g) (hdl : depAt K g0 lr dl) (hdr : depAt K g0 rr dr) (bl : dl < 2 ^ 20) (br : dr < 2 ^ 20) (hv : g v = some (ob 2 [.null, .null, .int 0, .null])) : Ct l K yX9_init cX9_init 3 none 2 [.ref v, .ref lr, .ref rr] g (fun v9 g' => v9 = none ∧ ∃ rw, g rw = none ∧ g' = up (up g rw (aI K 4 (fun _ => 0))) v (ob 2 [.ref lr, .ref rr, .int (nI (1 + max dl dr)), .ref rw])) (fun _ _ => False) 1 4 := by
  refine ct_of (by decide) (Nat.le_of_ble_eq_true rfl) ?_
  intro X hl hK hX hE hn hL hR hm
  subst hl; subst hK
  show J X 0 0 g 0 [(0, .ref v), (1, .ref lr), (2, .ref rr)] []
  obtain ⟨fl9, hl9⟩ := (hdl.sub hs).is
  obtain ⟨fr9, hr9⟩ := (hdr.sub hs).is
  refine j_aload_n hX dX9_init_0 0 rfl ?_
  refine j_objI hX lk_X9_3 (by rw [hL]; decide) (Nat.le_of_ble_eq_true rfl) dX9_init_1 ?_
  refine j_aload_n hX dX9_init_4 0 rfl ?_
  refine j_iconst (v := nI 4) hX dX9_init_5 (by decide) ?_
  refine j_newI (n := 4) hX (rfl) (by decide) dX9_init_6 (by rw [hR]; decide) (by rw [hR]; decide) (fun rw frw => ?_)
  obtain ⟨g1, eg1⟩ : ∃ z : Wd, z = up g rw (aI (xK X) 4 (fun _ => 0)) := ⟨_, rfl⟩
  refine j_w eg1.symm ?_
  have k1_v := (congrFun eg1 v).trans ((up_n (ne_fr (hv) frw)).trans (hv))
  have k1_lr := (congrFun eg1 lr).trans ((up_n (ne_fr (hl9) frw)).trans (hl9))
  have k1_rr := (congrFun eg1 rr).trans ((up_n (ne_fr (hr9) frw)).trans (hr9))
  have k1_rw : g1 rw = some (aI (xK X) 4 (fun _ => 0)) := by rw [eg1]; exact up_s _ _ _
  show J X 1 4 g1 8 [(0, .ref v), (1, .ref lr), (2, .ref rr)] [.ref rw, .ref v]
  refine j_putF hX hm k1_v rfl wf_X2 tyX2_ok nmX2 3 (by decide) lk_X9_9 (fun _ h => h) rfl rfl (tyX2_ok 3 (by decide)) rfl rfl (Nat.le_of_ble_eq_true rfl) dX9_init_8 ?_
  obtain ⟨g2, eg2⟩ : ∃ z : Wd, z = up g1 v (ob 2 [.null, .null, .int 0, .ref rw]) := ⟨_, rfl⟩
  refine j_w eg2.symm ?_
  have k2_v : g2 v = some (ob 2 [.null, .null, .int 0, .ref rw]) := by rw [eg2]; exact up_s _ _ _
  have k2_lr := (congrFun eg2 lr).trans ((up_n (by first | exact ne_ob (k1_lr) (k1_v) (by first | simp | decide | (intro h9; cases h9) | (simp only [ne_eq]; intro h9; injection h9 with h8; simp at h8)) | assumption | (apply Ne.symm; assumption))).trans (k1_lr))
  have k2_rr := (congrFun eg2 rr).trans ((up_n (by first | exact ne_ob (k1_rr) (k1_v) (by first | simp | decide | (intro h9; cases h9) | (simp only [ne_eq]; intro h9; injection h9 with h8; simp at h8)) | assumption | (apply Ne.symm; assumption))).trans (k1_rr))
  have k2_rw := (congrFun eg2 rw).trans ((up_n (by first | exact ne_ob (k1_rw) (k1_v) (by first | simp | decide | (intro h9; cases h9) | (simp only [ne_eq]; intro h9; injection h9 with h8; simp at h8)) | assumption | (apply Ne.symm; assumption))).trans (k1_rw))
  refine j_aload_n hX dX9_init_11 0 rfl ?_
  refine j_aload_n hX dX9_init_12 1 rfl ?_
  refine j_putF hX hm k2_v rfl wf_X2 tyX2_ok nmX2 0 (by decide) lk_X9_15 (fun _ h => h) rfl rfl (tyX2_ok 0 (by decide)) rfl rfl (Nat.le_of_ble_eq_true rfl) dX9_init_13 ?_
  obtain ⟨g3, eg3⟩ : ∃ z : Wd, z = up g2 v (ob 2 [.ref lr, .null, .int 0, .ref rw]) := ⟨_, rfl⟩
  refine j_w eg3.symm ?_
  have k3_v : g3 v = some (ob 2 [.ref lr, .null, .int 0, .ref rw]) := by rw [eg3]; exact up_s _ _ _
  have k3_lr := (congrFun eg3 lr).trans ((up_n (by first | exact ne_ob (k2_lr) (k2_v) (by first | simp | decide | (intro h9; cases h9) | (simp only [ne_eq]; intro h9; injection h9 with h8; simp at h8)) | assumption | (apply Ne.symm; assumption))).trans (k2_lr))
  have k3_rr := (congrFun eg3 rr).trans ((up_n (by first | exact ne_ob (k2_rr) (k2_v) (by first | simp | decide | (intro h9; cases h9) | (simp only [ne_eq]; intro h9; injection h9 with h8; simp at h8)) | assumption | (apply Ne.symm; assumption))).trans (k2_rr))
  have k3_rw := (congrFun eg3 rw).trans ((up_n (by first | exact ne_ob (k2_rw) (k2_v) (by first | simp | decide | (intro h9; cases h9) | (simp only [ne_eq]; intro h9; injection h9 with h8; simp at h8)) | assumption | (apply Ne.symm; assumption))).trans (k2_rw))
  refine j_aload_n hX dX9_init_16 0 rfl ?_
  refine j_aload_n hX dX9_init_17 2 rfl ?_
  refine j_putF hX hm k3_v rfl wf_X2 tyX2_ok nmX2 1 (by decide) lk_X9_19 (fun _ h => h) rfl rfl (tyX2_ok 1 (by decide)) rfl rfl (Nat.le_of_ble_eq_true rfl) dX9_init_18 ?_
  obtain ⟨g4, eg4⟩ : ∃ z : Wd, z = up g3 v (ob 2 [.ref lr, .ref rr, .int 0, .ref rw]) := ⟨_, rfl⟩
  refine j_w eg4.symm ?_
  have k4_v : g4 v = some (ob 2 [.ref lr, .ref rr, .int 0, .ref rw]) := by rw [eg4]; exact up_s _ _ _
  have k4_lr := (congrFun eg4 lr).trans ((up_n (by first | exact ne_ob (k3_lr) (k3_v) (by first | simp | decide | (intro h9; cases h9) | (simp only [ne_eq]; intro h9; injection h9 with h8; simp at h8)) | assumption | (apply Ne.symm; assumption))).trans (k3_lr))
  have k4_rr := (congrFun eg4 rr).trans ((up_n (by first | exact ne_ob (k3_rr) (k3_v) (by first | simp | decide | (intro h9; cases h9) | (simp only [ne_eq]; intro h9; injection h9 with h8; simp at h8)) | assumption | (apply Ne.symm; assumption))).trans (k3_rr))
  have k4_rw := (congrFun eg4 rw).trans ((up_n (by first | exact ne_ob (k3_rw) (k3_v) (by first | simp | decide | (intro h9; cases h9) | (simp only [ne_eq]; intro h9; injection h9 with h8; simp at h8)) | assumption | (apply Ne.symm; assumption))).trans (k3_rw))
  have S1 : Sub g0 g2 := by rw [eg2, eg1]; exact (hs.up (dom_s hs frw)).up h0
  have S2 : Sub g0 g3 := by rw [eg3]; exact S1.up h0
  have S3 : Sub g0 g4 := by rw [eg4]; exact S2.up h0
  refine j_aload_n hX dX9_init_21 0 rfl ?_
  refine j_iconst (v := 1) hX dX9_init_22 (by decide) ?_
  refine j_aload_n hX dX9_init_23 1 rfl ?_
  refine j_callV (As := []) (rest := [.int 1, .ref v]) hX (c_X6_dep (xl X) (xK X) g4 lr dl (hdl.sub S3)) k4_lr rfl lk_X9_22 wI_X6_depth wV_X6_X6_depth wN_X6 wC_X6_depth hd_X6_depth rfl (by rw [hL]; decide) (by decide) rfl (Nat.le_of_ble_eq_true rfl) dX9_init_24 (by rw [hR]; decide) (by rw [hR]; decide) jx_no ?_
  rintro _ _ ⟨rfl, rfl⟩
  show J X 1 4 g4 27 [(0, .ref v), (1, .ref lr), (2, .ref rr)] [.int (nI dl), .int 1, .ref v]
  refine j_aload_n hX dX9_init_27 2 rfl ?_
  refine j_callV (As := []) (rest := [.int (nI dl), .int 1, .ref v]) hX (c_X6_dep (xl X) (xK X) g4 rr dr (hdr.sub S3)) k4_rr rfl lk_X9_22 wI_X6_depth wV_X6_X6_depth wN_X6 wC_X6_depth hd_X6_depth rfl (by rw [hL]; decide) (by decide) rfl (Nat.le_of_ble_eq_true rfl) dX9_init_28 (by rw [hR]; decide) (by rw [hR]; decide) jx_no ?_
  rintro _ _ ⟨rfl, rfl⟩
  show J X 1 4 g4 31 [(0, .ref v), (1, .ref lr), (2, .ref rr)] [.int (nI dr), .int (nI dl), .int 1, .ref v]
  refine j_max hX lk_X9_28 (by rw [hL]; decide) (Nat.le_of_ble_eq_true rfl) (by rw [hR]; decide) (by rw [hR]; decide) dX9_init_31 ?_
  refine j_iadd hX dX9_init_34 ?_
  refine j_eqi (y := nI (1 + max dl dr)) (dmax bl br) ?_
  refine j_putF hX hm k4_v rfl wf_X2 tyX2_ok nmX2 2 (by decide) lk_X9_34 (fun _ h => h) rfl rfl (tyX2_ok 2 (by decide)) rfl rfl (Nat.le_of_ble_eq_true rfl) dX9_init_35 ?_
  obtain ⟨g5, eg5⟩ : ∃ z : Wd, z = up g4 v (ob 2 [.ref lr, .ref rr, .int (nI (1 + max dl dr)), .ref rw]) := ⟨_, rfl⟩
  refine j_w eg5.symm ?_
  have k5_v : g5 v = some (ob 2 [.ref lr, .ref rr, .int (nI (1 + max dl dr)), .ref rw]) := by rw [eg5]; exact up_s _ _ _
  exact j_vret hX hE dX9_init_38 (⟨rfl, rw, frw, by rw [eg5, eg4, up_up, eg3, up_up, eg2, up_up, eg1]⟩) (by decide) (by decide)

set_option maxRecDepth 20000 in
set_option maxHeartbeats 600000 in
/-- View(left, right) -/
theorem c_X9_init_X3 (l : Launch) (K : Cst) (g0 g : Wd) (v lr rr dl dr : Nat) (h0 : g0 v = none) (hs : Sub g0 g) (hdl : depAt K g0 lr dl) (hdr : depAt K g0 rr dr) (bl : dl < 2 ^ 20) (br : dr < 2 ^ 20) (hv : g v = some (ob 3 [.null, .null, .int 0, .null, .int 0, .int 0, .int 0])) : Ct l K yX9_init cX9_init 3 none 2 [.ref v, .ref lr, .ref rr] g (fun v9 g' => v9 = none ∧ ∃ rw, g rw = none ∧ g' = up (up g rw (aI K 4 (fun _ => 0))) v (ob 3 [.ref lr, .ref rr, .int (nI (1 + max dl dr)), .ref rw, .int 0, .int 0, .int 0])) (fun _ _ => False) 1 4 := by
  refine ct_of (by decide) (Nat.le_of_ble_eq_true rfl) ?_
  intro X hl hK hX hE hn hL hR hm
  subst hl; subst hK
  show J X 0 0 g 0 [(0, .ref v), (1, .ref lr), (2, .ref rr)] []
  obtain ⟨fl9, hl9⟩ := (hdl.sub hs).is
  obtain ⟨fr9, hr9⟩ := (hdr.sub hs).is
  refine j_aload_n hX dX9_init_0 0 rfl ?_
  refine j_objI hX lk_X9_3 (by rw [hL]; decide) (Nat.le_of_ble_eq_true rfl) dX9_init_1 ?_
  refine j_aload_n hX dX9_init_4 0 rfl ?_
  refine j_iconst (v := nI 4) hX dX9_init_5 (by decide) ?_
  refine j_newI (n := 4) hX (rfl) (by decide) dX9_init_6 (by rw [hR]; decide) (by rw [hR]; decide) (fun rw frw => ?_)
  obtain ⟨g1, eg1⟩ : ∃ z : Wd, z = up g rw (aI (xK X) 4 (fun _ => 0)) := ⟨_, rfl⟩
  refine j_w eg1.symm ?_
  have k1_v := (congrFun eg1 v).trans ((up_n (ne_fr (hv) frw)).trans (hv))
  have k1_lr := (congrFun eg1 lr).trans ((up_n (ne_fr (hl9) frw)).trans (hl9))
  have k1_rr := (congrFun eg1 rr).trans ((up_n (ne_fr (hr9) frw)).trans (hr9))
  have k1_rw : g1 rw = some (aI (xK X) 4 (fun _ => 0)) := by rw [eg1]; exact up_s _ _ _
  show J X 1 4 g1 8 [(0, .ref v), (1, .ref lr), (2, .ref rr)] [.ref rw, .ref v]
  refine j_putF hX hm k1_v rfl wf_X3 tyX3_ok nmX3 3 (by decide) lk_X9_9 (fun _ h => h) rfl rfl (tyX3_ok 3 (by decide)) rfl rfl (Nat.le_of_ble_eq_true rfl) dX9_init_8 ?_
  obtain ⟨g2, eg2⟩ : ∃ z : Wd, z = up g1 v (ob 3 [.null, .null, .int 0, .ref rw, .int 0, .int 0, .int 0]) := ⟨_, rfl⟩
  refine j_w eg2.symm ?_
  have k2_v : g2 v = some (ob 3 [.null, .null, .int 0, .ref rw, .int 0, .int 0, .int 0]) := by rw [eg2]; exact up_s _ _ _
  have k2_lr := (congrFun eg2 lr).trans ((up_n (by first | exact ne_ob (k1_lr) (k1_v) (by first | simp | decide | (intro h9; cases h9) | (simp only [ne_eq]; intro h9; injection h9 with h8; simp at h8)) | assumption | (apply Ne.symm; assumption))).trans (k1_lr))
  have k2_rr := (congrFun eg2 rr).trans ((up_n (by first | exact ne_ob (k1_rr) (k1_v) (by first | simp | decide | (intro h9; cases h9) | (simp only [ne_eq]; intro h9; injection h9 with h8; simp at h8)) | assumption | (apply Ne.symm; assumption))).trans (k1_rr))
  have k2_rw := (congrFun eg2 rw).trans ((up_n (by first | exact ne_ob (k1_rw) (k1_v) (by first | simp | decide | (intro h9; cases h9) | (simp only [ne_eq]; intro h9; injection h9 with h8; simp at h8)) | assumption | (apply Ne.symm; assumption))).trans (k1_rw))
  refine j_aload_n hX dX9_init_11 0 rfl ?_
  refine j_aload_n hX dX9_init_12 1 rfl ?_
  refine j_putF hX hm k2_v rfl wf_X3 tyX3_ok nmX3 0 (by decide) lk_X9_15 (fun _ h => h) rfl rfl (tyX3_ok 0 (by decide)) rfl rfl (Nat.le_of_ble_eq_true rfl) dX9_init_13 ?_
  obtain ⟨g3, eg3⟩ : ∃ z : Wd, z = up g2 v (ob 3 [.ref lr, .null, .int 0, .ref rw, .int 0, .int 0, .int 0]) := ⟨_, rfl⟩
  refine j_w eg3.symm ?_
  have k3_v : g3 v = some (ob 3 [.ref lr, .null, .int 0, .ref rw, .int 0, .int 0, .int 0]) := by rw [eg3]; exact up_s _ _ _
  have k3_lr := (congrFun eg3 lr).trans ((up_n (by first | exact ne_ob (k2_lr) (k2_v) (by first | simp | decide | (intro h9; cases h9) | (simp only [ne_eq]; intro h9; injection h9 with h8; simp at h8)) | assumption | (apply Ne.symm; assumption))).trans (k2_lr))
  have k3_rr := (congrFun eg3 rr).trans ((up_n (by first | exact ne_ob (k2_rr) (k2_v) (by first | simp | decide | (intro h9; cases h9) | (simp only [ne_eq]; intro h9; injection h9 with h8; simp at h8)) | assumption | (apply Ne.symm; assumption))).trans (k2_rr))
  have k3_rw := (congrFun eg3 rw).trans ((up_n (by first | exact ne_ob (k2_rw) (k2_v) (by first | simp | decide | (intro h9; cases h9) | (simp only [ne_eq]; intro h9; injection h9 with h8; simp at h8)) | assumption | (apply Ne.symm; assumption))).trans (k2_rw))
  refine j_aload_n hX dX9_init_16 0 rfl ?_
  refine j_aload_n hX dX9_init_17 2 rfl ?_
  refine j_putF hX hm k3_v rfl wf_X3 tyX3_ok nmX3 1 (by decide) lk_X9_19 (fun _ h => h) rfl rfl (tyX3_ok 1 (by decide)) rfl rfl (Nat.le_of_ble_eq_true rfl) dX9_init_18 ?_
  obtain ⟨g4, eg4⟩ : ∃ z : Wd, z = up g3 v (ob 3 [.ref lr, .ref rr, .int 0, .ref rw, .int 0, .int 0, .int 0]) := ⟨_, rfl⟩
  refine j_w eg4.symm ?_
  have k4_v : g4 v = some (ob 3 [.ref lr, .ref rr, .int 0, .ref rw, .int 0, .int 0, .int 0]) := by rw [eg4]; exact up_s _ _ _
  have k4_lr := (congrFun eg4 lr).trans ((up_n (by first | exact ne_ob (k3_lr) (k3_v) (by first | simp | decide | (intro h9; cases h9) | (simp only [ne_eq]; intro h9; injection h9 with h8; simp at h8)) | assumption | (apply Ne.symm; assumption))).trans (k3_lr))
  have k4_rr := (congrFun eg4 rr).trans ((up_n (by first | exact ne_ob (k3_rr) (k3_v) (by first | simp | decide | (intro h9; cases h9) | (simp only [ne_eq]; intro h9; injection h9 with h8; simp at h8)) | assumption | (apply Ne.symm; assumption))).trans (k3_rr))
  have k4_rw := (congrFun eg4 rw).trans ((up_n (by first | exact ne_ob (k3_rw) (k3_v) (by first | simp | decide | (intro h9; cases h9) | (simp only [ne_eq]; intro h9; injection h9 with h8; simp at h8)) | assumption | (apply Ne.symm; assumption))).trans (k3_rw))
  have S1 : Sub g0 g2 := by rw [eg2, eg1]; exact (hs.up (dom_s hs frw)).up h0
  have S2 : Sub g0 g3 := by rw [eg3]; exact S1.up h0
  have S3 : Sub g0 g4 := by rw [eg4]; exact S2.up h0
  refine j_aload_n hX dX9_init_21 0 rfl ?_
  refine j_iconst (v := 1) hX dX9_init_22 (by decide) ?_
  refine j_aload_n hX dX9_init_23 1 rfl ?_
  refine j_callV (As := []) (rest := [.int 1, .ref v]) hX (c_X6_dep (xl X) (xK X) g4 lr dl (hdl.sub S3)) k4_lr rfl lk_X9_22 wI_X6_depth wV_X6_X6_depth wN_X6 wC_X6_depth hd_X6_depth rfl (by rw [hL]; decide) (by decide) rfl (Nat.le_of_ble_eq_true rfl) dX9_init_24 (by rw [hR]; decide) (by rw [hR]; decide) jx_no ?_
  rintro _ _ ⟨rfl, rfl⟩
  show J X 1 4 g4 27 [(0, .ref v), (1, .ref lr), (2, .ref rr)] [.int (nI dl), .int 1, .ref v]
  refine j_aload_n hX dX9_init_27 2 rfl ?_
  refine j_callV (As := []) (rest := [.int (nI dl), .int 1, .ref v]) hX (c_X6_dep (xl X) (xK X) g4 rr dr (hdr.sub S3)) k4_rr rfl lk_X9_22 wI_X6_depth wV_X6_X6_depth wN_X6 wC_X6_depth hd_X6_depth rfl (by rw [hL]; decide) (by decide) rfl (Nat.le_of_ble_eq_true rfl) dX9_init_28 (by rw [hR]; decide) (by rw [hR]; decide) jx_no ?_
  rintro _ _ ⟨rfl, rfl⟩
  show J X 1 4 g4 31 [(0, .ref v), (1, .ref lr), (2, .ref rr)] [.int (nI dr), .int (nI dl), .int 1, .ref v]
  refine j_max hX lk_X9_28 (by rw [hL]; decide) (Nat.le_of_ble_eq_true rfl) (by rw [hR]; decide) (by rw [hR]; decide) dX9_init_31 ?_
  refine j_iadd hX dX9_init_34 ?_
  refine j_eqi (y := nI (1 + max dl dr)) (dmax bl br) ?_
  refine j_putF hX hm k4_v rfl wf_X3 tyX3_ok nmX3 2 (by decide) lk_X9_34 (fun _ h => h) rfl rfl (tyX3_ok 2 (by decide)) rfl rfl (Nat.le_of_ble_eq_true rfl) dX9_init_35 ?_
  obtain ⟨g5, eg5⟩ : ∃ z : Wd, z = up g4 v (ob 3 [.ref lr, .ref rr, .int (nI (1 + max dl dr)), .ref rw, .int 0, .int 0, .int 0]) := ⟨_, rfl⟩
  refine j_w eg5.symm ?_
  have k5_v : g5 v = some (ob 3 [.ref lr, .ref rr, .int (nI (1 + max dl dr)), .ref rw, .int 0, .int 0, .int 0]) := by rw [eg5]; exact up_s _ _ _
  exact j_vret hX hE dX9_init_38 (⟨rfl, rw, frw, by rw [eg5, eg4, up_up, eg3, up_up, eg2, up_up, eg1]⟩) (by decide) (by decide)

set_option maxRecDepth 20000 in
set_option maxHeartbeats 600000 in
/-- View(left, right) -/
theorem c_X9_init_X4 (l : Launch) (K : Cst) (g0 g : Wd) (v lr rr dl dr : Nat) (h0 : g0 v = none) (hs : Sub g0 g) (hdl : depAt K g0 lr dl) (hdr : depAt K g0 rr dr) (bl : dl < 2 ^ 20) (br : dr < 2 ^ 20) (hv : g v = some (ob 4 [.null, .null, .int 0, .null, .int 0, .int 0])) : Ct l K yX9_init cX9_init 3 none 2 [.ref v, .ref lr, .ref rr] g (fun v9 g' => v9 = none ∧ ∃ rw, g rw = none ∧ g' = up (up g rw (aI K 4 (fun _ => 0))) v (ob 4 [.ref lr, .ref rr, .int (nI (1 + max dl dr)), .ref rw, .int 0, .int 0])) (fun _ _ => False) 1 4 := by
  refine ct_of (by decide) (Nat.le_of_ble_eq_true rfl) ?_
  intro X hl hK hX hE hn hL hR hm
  subst hl; subst hK
  show J X 0 0 g 0 [(0, .ref v), (1, .ref lr), (2, .ref rr)] []
  obtain ⟨fl9, hl9⟩ := (hdl.sub hs).is
  obtain ⟨fr9, hr9⟩ := (hdr.sub hs).is
  refine j_aload_n hX dX9_init_0 0 rfl ?_
  refine j_objI hX lk_X9_3 (by rw [hL]; decide) (Nat.le_of_ble_eq_true rfl) dX9_init_1 ?_
  refine j_aload_n hX dX9_init_4 0 rfl ?_
  refine j_iconst (v := nI 4) hX dX9_init_5 (by decide) ?_
  refine j_newI (n := 4) hX (rfl) (by decide) dX9_init_6 (by rw [hR]; decide) (by rw [hR]; decide) (fun rw frw => ?_)
  obtain ⟨g1, eg1⟩ : ∃ z : Wd, z = up g rw (aI (xK X) 4 (fun _ => 0)) := ⟨_, rfl⟩
  refine j_w eg1.symm ?_
  have k1_v := (congrFun eg1 v).trans ((up_n (ne_fr (hv) frw)).trans (hv))
  have k1_lr := (congrFun eg1 lr).trans ((up_n (ne_fr (hl9) frw)).trans (hl9))
  have k1_rr := (congrFun eg1 rr).trans ((up_n (ne_fr (hr9) frw)).trans (hr9))
  have k1_rw : g1 rw = some (aI (xK X) 4 (fun _ => 0)) := by rw [eg1]; exact up_s _ _ _
  show J X 1 4 g1 8 [(0, .ref v), (1, .ref lr), (2, .ref rr)] [.ref rw, .ref v]
  refine j_putF hX hm k1_v rfl wf_X4 tyX4_ok nmX4 3 (by decide) lk_X9_9 (fun _ h => h) rfl rfl (tyX4_ok 3 (by decide)) rfl rfl (Nat.le_of_ble_eq_true rfl) dX9_init_8 ?_
  obtain ⟨g2, eg2⟩ : ∃ z : Wd, z = up g1 v (ob 4 [.null, .null, .int 0, .ref rw, .int 0, .int 0]) := ⟨_, rfl⟩
  refine j_w eg2.symm ?_
  have k2_v : g2 v = some (ob 4 [.null, .null, .int 0, .ref rw, .int 0, .int 0]) := by rw [eg2]; exact up_s _ _ _
  have k2_lr := (congrFun eg2 lr).trans ((up_n (by first | exact ne_ob (k1_lr) (k1_v) (by first | simp | decide | (intro h9; cases h9) | (simp only [ne_eq]; intro h9; injection h9 with h8; simp at h8)) | assumption | (apply Ne.symm; assumption))).trans (k1_lr))
  have k2_rr := (congrFun eg2 rr).trans ((up_n (by first | exact ne_ob (k1_rr) (k1_v) (by first | simp | decide | (intro h9; cases h9) | (simp only [ne_eq]; intro h9; injection h9 with h8; simp at h8)) | assumption | (apply Ne.symm; assumption))).trans (k1_rr))
  have k2_rw := (congrFun eg2 rw).trans ((up_n (by first | exact ne_ob (k1_rw) (k1_v) (by first | simp | decide | (intro h9; cases h9) | (simp only [ne_eq]; intro h9; injection h9 with h8; simp at h8)) | assumption | (apply Ne.symm; assumption))).trans (k1_rw))
  refine j_aload_n hX dX9_init_11 0 rfl ?_
  refine j_aload_n hX dX9_init_12 1 rfl ?_
  refine j_putF hX hm k2_v rfl wf_X4 tyX4_ok nmX4 0 (by decide) lk_X9_15 (fun _ h => h) rfl rfl (tyX4_ok 0 (by decide)) rfl rfl (Nat.le_of_ble_eq_true rfl) dX9_init_13 ?_
  obtain ⟨g3, eg3⟩ : ∃ z : Wd, z = up g2 v (ob 4 [.ref lr, .null, .int 0, .ref rw, .int 0, .int 0]) := ⟨_, rfl⟩
  refine j_w eg3.symm ?_
  have k3_v : g3 v = some (ob 4 [.ref lr, .null, .int 0, .ref rw, .int 0, .int 0]) := by rw [eg3]; exact up_s _ _ _
  have k3_lr := (congrFun eg3 lr).trans ((up_n (by first | exact ne_ob (k2_lr) (k2_v) (by first | simp | decide | (intro h9; cases h9) | (simp only [ne_eq]; intro h9; injection h9 with h8; simp at h8)) | assumption | (apply Ne.symm; assumption))).trans (k2_lr))
  have k3_rr := (congrFun eg3 rr).trans ((up_n (by first | exact ne_ob (k2_rr) (k2_v) (by first | simp | decide | (intro h9; cases h9) | (simp only [ne_eq]; intro h9; injection h9 with h8; simp at h8)) | assumption | (apply Ne.symm; assumption))).trans (k2_rr))
  have k3_rw := (congrFun eg3 rw).trans ((up_n (by first | exact ne_ob (k2_rw) (k2_v) (by first | simp | decide | (intro h9; cases h9) | (simp only [ne_eq]; intro h9; injection h9 with h8; simp at h8)) | assumption | (apply Ne.symm; assumption))).trans (k2_rw))
  refine j_aload_n hX dX9_init_16 0 rfl ?_
  refine j_aload_n hX dX9_init_17 2 rfl ?_
  refine j_putF hX hm k3_v rfl wf_X4 tyX4_ok nmX4 1 (by decide) lk_X9_19 (fun _ h => h) rfl rfl (tyX4_ok 1 (by decide)) rfl rfl (Nat.le_of_ble_eq_true rfl) dX9_init_18 ?_
  obtain ⟨g4, eg4⟩ : ∃ z : Wd, z = up g3 v (ob 4 [.ref lr, .ref rr, .int 0, .ref rw, .int 0, .int 0]) := ⟨_, rfl⟩
  refine j_w eg4.symm ?_
  have k4_v : g4 v = some (ob 4 [.ref lr, .ref rr, .int 0, .ref rw, .int 0, .int 0]) := by rw [eg4]; exact up_s _ _ _
  have k4_lr := (congrFun eg4 lr).trans ((up_n (by first | exact ne_ob (k3_lr) (k3_v) (by first | simp | decide | (intro h9; cases h9) | (simp only [ne_eq]; intro h9; injection h9 with h8; simp at h8)) | assumption | (apply Ne.symm; assumption))).trans (k3_lr))
  have k4_rr := (congrFun eg4 rr).trans ((up_n (by first | exact ne_ob (k3_rr) (k3_v) (by first | simp | decide | (intro h9; cases h9) | (simp only [ne_eq]; intro h9; injection h9 with h8; simp at h8)) | assumption | (apply Ne.symm; assumption))).trans (k3_rr))
  have k4_rw := (congrFun eg4 rw).trans ((up_n (by first | exact ne_ob (k3_rw) (k3_v) (by first | simp | decide | (intro h9; cases h9) | (simp only [ne_eq]; intro h9; injection h9 with h8; simp at h8)) | assumption | (apply Ne.symm; assumption))).trans (k3_rw))
  have S1 : Sub g0 g2 := by rw [eg2, eg1]; exact (hs.up (dom_s hs frw)).up h0
  have S2 : Sub g0 g3 := by rw [eg3]; exact S1.up h0
  have S3 : Sub g0 g4 := by rw [eg4]; exact S2.up h0
  refine j_aload_n hX dX9_init_21 0 rfl ?_
  refine j_iconst (v := 1) hX dX9_init_22 (by decide) ?_
  refine j_aload_n hX dX9_init_23 1 rfl ?_
  refine j_callV (As := []) (rest := [.int 1, .ref v]) hX (c_X6_dep (xl X) (xK X) g4 lr dl (hdl.sub S3)) k4_lr rfl lk_X9_22 wI_X6_depth wV_X6_X6_depth wN_X6 wC_X6_depth hd_X6_depth rfl (by rw [hL]; decide) (by decide) rfl (Nat.le_of_ble_eq_true rfl) dX9_init_24 (by rw [hR]; decide) (by rw [hR]; decide) jx_no ?_
  rintro _ _ ⟨rfl, rfl⟩
  show J X 1 4 g4 27 [(0, .ref v), (1, .ref lr), (2, .ref rr)] [.int (nI dl), .int 1, .ref v]
  refine j_aload_n hX dX9_init_27 2 rfl ?_
  refine j_callV (As := []) (rest := [.int (nI dl), .int 1, .ref v]) hX (c_X6_dep (xl X) (xK X) g4 rr dr (hdr.sub S3)) k4_rr rfl lk_X9_22 wI_X6_depth wV_X6_X6_depth wN_X6 wC_X6_depth hd_X6_depth rfl (by rw [hL]; decide) (by decide) rfl (Nat.le_of_ble_eq_true rfl) dX9_init_28 (by rw [hR]; decide) (by rw [hR]; decide) jx_no ?_
  rintro _ _ ⟨rfl, rfl⟩
  show J X 1 4 g4 31 [(0, .ref v), (1, .ref lr), (2, .ref rr)] [.int (nI dr), .int (nI dl), .int 1, .ref v]
  refine j_max hX lk_X9_28 (by rw [hL]; decide) (Nat.le_of_ble_eq_true rfl) (by rw [hR]; decide) (by rw [hR]; decide) dX9_init_31 ?_
  refine j_iadd hX dX9_init_34 ?_
  refine j_eqi (y := nI (1 + max dl dr)) (dmax bl br) ?_
  refine j_putF hX hm k4_v rfl wf_X4 tyX4_ok nmX4 2 (by decide) lk_X9_34 (fun _ h => h) rfl rfl (tyX4_ok 2 (by decide)) rfl rfl (Nat.le_of_ble_eq_true rfl) dX9_init_35 ?_
  obtain ⟨g5, eg5⟩ : ∃ z : Wd, z = up g4 v (ob 4 [.ref lr, .ref rr, .int (nI (1 + max dl dr)), .ref rw, .int 0, .int 0]) := ⟨_, rfl⟩
  refine j_w eg5.symm ?_
  have k5_v : g5 v = some (ob 4 [.ref lr, .ref rr, .int (nI (1 + max dl dr)), .ref rw, .int 0, .int 0]) := by rw [eg5]; exact up_s _ _ _
  exact j_vret hX hE dX9_init_38 (⟨rfl, rw, frw, by rw [eg5, eg4, up_up, eg3, up_up, eg2, up_up, eg1]⟩) (by decide) (by decide)

set_option maxRecDepth 20000 in
set_option maxHeartbeats 600000 in
/-- View(left, right) -/
theorem c_X9_init_X5 (l : Launch) (K : Cst) (g0 g : Wd) (v lr rr dl dr : Nat) (h0 : g0 v = none) (hs : Sub g0 g) (hdl : depAt K g0 lr dl) (hdr : depAt K g0 rr dr) (bl : dl < 2 ^ 20) (br : dr < 2 ^ 20) (hv : g v = some (ob 5 [.null, .null, .int 0, .null])) : Ct l K yX9_init cX9_init 3 none 2 [.ref v, .ref lr, .ref rr] g (fun v9 g' => v9 = none ∧ ∃ rw, g rw = none ∧ g' = up (up g rw (aI K 4 (fun _ => 0))) v (ob 5 [.ref lr, .ref rr, .int (nI (1 + max dl dr)), .ref rw])) (fun _ _ => False) 1 4 := by
  refine ct_of (by decide) (Nat.le_of_ble_eq_true rfl) ?_
  intro X hl hK hX hE hn hL hR hm
  subst hl; subst hK
  show J X 0 0 g 0 [(0, .ref v), (1, .ref lr), (2, .ref rr)] []
  obtain ⟨fl9, hl9⟩ := (hdl.sub hs).is
  obtain ⟨fr9, hr9⟩ := (hdr.sub hs).is
  refine j_aload_n hX dX9_init_0 0 rfl ?_
  refine j_objI hX lk_X9_3 (by rw [hL]; decide) (Nat.le_of_ble_eq_true rfl) dX9_init_1 ?_
  refine j_aload_n hX dX9_init_4 0 rfl ?_
  refine j_iconst (v := nI 4) hX dX9_init_5 (by decide) ?_
  refine j_newI (n := 4) hX (rfl) (by decide) dX9_init_6 (by rw [hR]; decide) (by rw [hR]; decide) (fun rw frw => ?_)
  obtain ⟨g1, eg1⟩ : ∃ z : Wd, z = up g rw (aI (xK X) 4 (fun _ => 0)) := ⟨_, rfl⟩
  refine j_w eg1.symm ?_
  have k1_v := (congrFun eg1 v).trans ((up_n (ne_fr (hv) frw)).trans (hv))
  have k1_lr := (congrFun eg1 lr).trans ((up_n (ne_fr (hl9) frw)).trans (hl9))
  have k1_rr := (congrFun eg1 rr).trans ((up_n (ne_fr (hr9) frw)).trans (hr9))
  have k1_rw : g1 rw = some (aI (xK X) 4 (fun _ => 0)) := by rw [eg1]; exact up_s _ _ _
  show J X 1 4 g1 8 [(0, .ref v), (1, .ref lr), (2, .ref rr)] [.ref rw, .ref v]
  refine j_putF hX hm k1_v rfl wf_X5 tyX5_ok nmX5 3 (by decide) lk_X9_9 (fun _ h => h) rfl rfl (tyX5_ok 3 (by decide)) rfl rfl (Nat.le_of_ble_eq_true rfl) dX9_init_8 ?_
  obtain ⟨g2, eg2⟩ : ∃ z : Wd, z = up g1 v (ob 5 [.null, .null, .int 0, .ref rw]) := ⟨_, rfl⟩
  refine j_w eg2.symm ?_
  have k2_v : g2 v = some (ob 5 [.null, .null, .int 0, .ref rw]) := by rw [eg2]; exact up_s _ _ _
  have k2_lr := (congrFun eg2 lr).trans ((up_n (by first | exact ne_ob (k1_lr) (k1_v) (by first | simp | decide | (intro h9; cases h9) | (simp only [ne_eq]; intro h9; injection h9 with h8; simp at h8)) | assumption | (apply Ne.symm; assumption))).trans (k1_lr))
  have k2_rr := (congrFun eg2 rr).trans ((up_n (by first | exact ne_ob (k1_rr) (k1_v) (by first | simp | decide | (intro h9; cases h9) | (simp only [ne_eq]; intro h9; injection h9 with h8; simp at h8)) | assumption | (apply Ne.symm; assumption))).trans (k1_rr))
  have k2_rw := (congrFun eg2 rw).trans ((up_n (by first | exact ne_ob (k1_rw) (k1_v) (by first | simp | decide | (intro h9; cases h9) | (simp only [ne_eq]; intro h9; injection h9 with h8; simp at h8)) | assumption | (apply Ne.symm; assumption))).trans (k1_rw))
  refine j_aload_n hX dX9_init_11 0 rfl ?_
  refine j_aload_n hX dX9_init_12 1 rfl ?_
  refine j_putF hX hm k2_v rfl wf_X5 tyX5_ok nmX5 0 (by decide) lk_X9_15 (fun _ h => h) rfl rfl (tyX5_ok 0 (by decide)) rfl rfl (Nat.le_of_ble_eq_true rfl) dX9_init_13 ?_
  obtain ⟨g3, eg3⟩ : ∃ z : Wd, z = up g2 v (ob 5 [.ref lr, .null, .int 0, .ref rw]) := ⟨_, rfl⟩
  refine j_w eg3.symm ?_
  have k3_v : g3 v = some (ob 5 [.ref lr, .null, .int 0, .ref rw]) := by rw [eg3]; exact up_s _ _ _
  have k3_lr := (congrFun eg3 lr).trans ((up_n (by first | exact ne_ob (k2_lr) (k2_v) (by first | simp | decide | (intro h9; cases h9) | (simp only [ne_eq]; intro h9; injection h9 with h8; simp at h8)) | assumption | (apply Ne.symm; assumption))).trans (k2_lr))
  have k3_rr := (congrFun eg3 rr).trans ((up_n (by first | exact ne_ob (k2_rr) (k2_v) (by first | simp | decide | (intro h9; cases h9) | (simp only [ne_eq]; intro h9; injection h9 with h8; simp at h8)) | assumption | (apply Ne.symm; assumption))).trans (k2_rr))
  have k3_rw := (congrFun eg3 rw).trans ((up_n (by first | exact ne_ob (k2_rw) (k2_v) (by first | simp | decide | (intro h9; cases h9) | (simp only [ne_eq]; intro h9; injection h9 with h8; simp at h8)) | assumption | (apply Ne.symm; assumption))).trans (k2_rw))
  refine j_aload_n hX dX9_init_16 0 rfl ?_
  refine j_aload_n hX dX9_init_17 2 rfl ?_
  refine j_putF hX hm k3_v rfl wf_X5 tyX5_ok nmX5 1 (by decide) lk_X9_19 (fun _ h => h) rfl rfl (tyX5_ok 1 (by decide)) rfl rfl (Nat.le_of_ble_eq_true rfl) dX9_init_18 ?_
  obtain ⟨g4, eg4⟩ : ∃ z : Wd, z = up g3 v (ob 5 [.ref lr, .ref rr, .int 0, .ref rw]) := ⟨_, rfl⟩
  refine j_w eg4.symm ?_
  have k4_v : g4 v = some (ob 5 [.ref lr, .ref rr, .int 0, .ref rw]) := by rw [eg4]; exact up_s _ _ _
  have k4_lr := (congrFun eg4 lr).trans ((up_n (by first | exact ne_ob (k3_lr) (k3_v) (by first | simp | decide | (intro h9; cases h9) | (simp only [ne_eq]; intro h9; injection h9 with h8; simp at h8)) | assumption | (apply Ne.symm; assumption))).trans (k3_lr))
  have k4_rr := (congrFun eg4 rr).trans ((up_n (by first | exact ne_ob (k3_rr) (k3_v) (by first | simp | decide | (intro h9; cases h9) | (simp only [ne_eq]; intro h9; injection h9 with h8; simp at h8)) | assumption | (apply Ne.symm; assumption))).trans (k3_rr))
  have k4_rw := (congrFun eg4 rw).trans ((up_n (by first | exact ne_ob (k3_rw) (k3_v) (by first | simp | decide | (intro h9; cases h9) | (simp only [ne_eq]; intro h9; injection h9 with h8; simp at h8)) | assumption | (apply Ne.symm; assumption))).trans (k3_rw))
  have S1 : Sub g0 g2 := by rw [eg2, eg1]; exact (hs.up (dom_s hs frw)).up h0
  have S2 : Sub g0 g3 := by rw [eg3]; exact S1.up h0
  have S3 : Sub g0 g4 := by rw [eg4]; exact S2.up h0
  refine j_aload_n hX dX9_init_21 0 rfl ?_
  refine j_iconst (v := 1) hX dX9_init_22 (by decide) ?_
  refine j_aload_n hX dX9_init_23 1 rfl ?_
  refine j_callV (As := []) (rest := [.int 1, .ref v]) hX (c_X6_dep (xl X) (xK X) g4 lr dl (hdl.sub S3)) k4_lr rfl lk_X9_22 wI_X6_depth wV_X6_X6_depth wN_X6 wC_X6_depth hd_X6_depth rfl (by rw [hL]; decide) (by decide) rfl (Nat.le_of_ble_eq_true rfl) dX9_init_24 (by rw [hR]; decide) (by rw [hR]; decide) jx_no ?_
  rintro _ _ ⟨rfl, rfl⟩
  show J X 1 4 g4 27 [(0, .ref v), (1, .ref lr), (2, .ref rr)] [.int (nI dl), .int 1, .ref v]
  refine j_aload_n hX dX9_init_27 2 rfl ?_
  refine j_callV (As := []) (rest := [.int (nI dl), .int 1, .ref v]) hX (c_X6_dep (xl X) (xK X) g4 rr dr (hdr.sub S3)) k4_rr rfl lk_X9_22 wI_X6_depth wV_X6_X6_depth wN_X6 wC_X6_depth hd_X6_depth rfl (by rw [hL]; decide) (by decide) rfl (Nat.le_of_ble_eq_true rfl) dX9_init_28 (by rw [hR]; decide) (by rw [hR]; decide) jx_no ?_
  rintro _ _ ⟨rfl, rfl⟩
  show J X 1 4 g4 31 [(0, .ref v), (1, .ref lr), (2, .ref rr)] [.int (nI dr), .int (nI dl), .int 1, .ref v]
  refine j_max hX lk_X9_28 (by rw [hL]; decide) (Nat.le_of_ble_eq_true rfl) (by rw [hR]; decide) (by rw [hR]; decide) dX9_init_31 ?_
  refine j_iadd hX dX9_init_34 ?_
  refine j_eqi (y := nI (1 + max dl dr)) (dmax bl br) ?_
  refine j_putF hX hm k4_v rfl wf_X5 tyX5_ok nmX5 2 (by decide) lk_X9_34 (fun _ h => h) rfl rfl (tyX5_ok 2 (by decide)) rfl rfl (Nat.le_of_ble_eq_true rfl) dX9_init_35 ?_
  obtain ⟨g5, eg5⟩ : ∃ z : Wd, z = up g4 v (ob 5 [.ref lr, .ref rr, .int (nI (1 + max dl dr)), .ref rw]) := ⟨_, rfl⟩
  refine j_w eg5.symm ?_
  have k5_v : g5 v = some (ob 5 [.ref lr, .ref rr, .int (nI (1 + max dl dr)), .ref rw]) := by rw [eg5]; exact up_s _ _ _
  exact j_vret hX hE dX9_init_38 (⟨rfl, rw, frw, by rw [eg5, eg4, up_up, eg3, up_up, eg2, up_up, eg1]⟩) (by decide) (by decide)

set_option maxRecDepth 20000 in
set_option maxHeartbeats 600000 in
/-- View(left, right) -/
theorem c_X9_init_X7 (l : Launch) (K : Cst) (g0 g : Wd) (v lr rr dl dr : Nat) (h0 : g0 v = none) (hs : Sub g0 g) (hdl : depAt K g0 lr dl) (hdr : depAt K g0 rr dr) (bl : dl < 2 ^ 20) (br : dr < 2 ^ 20) (hv : g v = some (ob 7 [.null, .null, .int 0, .null, .int 0, .int 0, .int 0, .int 0])) : Ct l K yX9_init cX9_init 3 none 2 [.ref v, .ref lr, .ref rr] g (fun v9 g' => v9 = none ∧ ∃ rw, g rw = none ∧ g' = up (up g rw (aI K 4 (fun _ => 0))) v (ob 7 [.ref lr, .ref rr, .int (nI (1 + max dl dr)), .ref rw, .int 0, .int 0, .int 0, .int 0])) (fun _ _ => False) 1 4 := by
  refine ct_of (by decide) (Nat.le_of_ble_eq_true rfl) ?_
  intro X hl hK hX hE hn hL hR hm
  subst hl; subst hK
  show J X 0 0 g 0 [(0, .ref v), (1, .ref lr), (2, .ref rr)] []
  obtain ⟨fl9, hl9⟩ := (hdl.sub hs).is
  obtain ⟨fr9, hr9⟩ := (hdr.sub hs).is
  refine j_aload_n hX dX9_init_0 0 rfl ?_
  refine j_objI hX lk_X9_3 (by rw [hL]; decide) (Nat.le_of_ble_eq_true rfl) dX9_init_1 ?_
  refine j_aload_n hX dX9_init_4 0 rfl ?_
  refine j_iconst (v := nI 4) hX dX9_init_5 (by decide) ?_
  refine j_newI (n := 4) hX (rfl) (by decide) dX9_init_6 (by rw [hR]; decide) (by rw [hR]; decide) (fun rw frw => ?_)
  obtain ⟨g1, eg1⟩ : ∃ z : Wd, z = up g rw (aI (xK X) 4 (fun _ => 0)) := ⟨_, rfl⟩
  refine j_w eg1.symm ?_
  have k1_v := (congrFun eg1 v).trans ((up_n (ne_fr (hv) frw)).trans (hv))
  have k1_lr := (congrFun eg1 lr).trans ((up_n (ne_fr (hl9) frw)).trans (hl9))
  have k1_rr := (congrFun eg1 rr).trans ((up_n (ne_fr (hr9) frw)).trans (hr9))
  have k1_rw : g1 rw = some (aI (xK X) 4 (fun _ => 0)) := by rw [eg1]; exact up_s _ _ _
  show J X 1 4 g1 8 [(0, .ref v), (1, .ref lr), (2, .ref rr)] [.ref rw, .ref v]
  refine j_putF hX hm k1_v rfl wf_X7 tyX7_ok nmX7 3 (by decide) lk_X9_9 (fun _ h => h) rfl rfl (tyX7_ok 3 (by decide)) rfl rfl (Nat.le_of_ble_eq_true rfl) dX9_init_8 ?_
  obtain ⟨g2, eg2⟩ : ∃ z : Wd, z = up g1 v (ob 7 [.null, .null, .int 0, .ref rw, .int 0, .int 0, .int 0, .int 0]) := ⟨_, rfl⟩
  refine j_w eg2.symm ?_
  have k2_v : g2 v = some (ob 7 [.null, .null, .int 0, .ref rw, .int 0, .int 0, .int 0, .int 0]) := by rw [eg2]; exact up_s _ _ _
  have k2_lr := (congrFun eg2 lr).trans ((up_n (by first | exact ne_ob (k1_lr) (k1_v) (by first | simp | decide | (intro h9; cases h9) | (simp only [ne_eq]; intro h9; injection h9 with h8; simp at h8)) | assumption | (apply Ne.symm; assumption))).trans (k1_lr))
  have k2_rr := (congrFun eg2 rr).trans ((up_n (by first | exact ne_ob (k1_rr) (k1_v) (by first | simp | decide | (intro h9; cases h9) | (simp only [ne_eq]; intro h9; injection h9 with h8; simp at h8)) | assumption | (apply Ne.symm; assumption))).trans (k1_rr))
  have k2_rw := (congrFun eg2 rw).trans ((up_n (by first | exact ne_ob (k1_rw) (k1_v) (by first | simp | decide | (intro h9; cases h9) | (simp only [ne_eq]; intro h9; injection h9 with h8; simp at h8)) | assumption | (apply Ne.symm; assumption))).trans (k1_rw))
  refine j_aload_n hX dX9_init_11 0 rfl ?_
  refine j_aload_n hX dX9_init_12 1 rfl ?_
  refine j_putF hX hm k2_v rfl wf_X7 tyX7_ok nmX7 0 (by decide) lk_X9_15 (fun _ h => h) rfl rfl (tyX7_ok 0 (by decide)) rfl rfl (Nat.le_of_ble_eq_true rfl) dX9_init_13 ?_
  obtain ⟨g3, eg3⟩ : ∃ z : Wd, z = up g2 v (ob 7 [.ref lr, .null, .int 0, .ref rw, .int 0, .int 0, .int 0, .int 0]) := ⟨_, rfl⟩
  refine j_w eg3.symm ?_
  have k3_v : g3 v = some (ob 7 [.ref lr, .null, .int 0, .ref rw, .int 0, .int 0, .int 0, .int 0]) := by rw [eg3]; exact up_s _ _ _
  have k3_lr := (congrFun eg3 lr).trans ((up_n (by first | exact ne_ob (k2_lr) (k2_v) (by first | simp | decide | (intro h9; cases h9) | (simp only [ne_eq]; intro h9; injection h9 with h8; simp at h8)) | assumption | (apply Ne.symm; assumption))).trans (k2_lr))
  have k3_rr := (congrFun eg3 rr).trans ((up_n (by first | exact ne_ob (k2_rr) (k2_v) (by first | simp | decide | (intro h9; cases h9) | (simp only [ne_eq]; intro h9; injection h9 with h8; simp at h8)) | assumption | (apply Ne.symm; assumption))).trans (k2_rr))
  have k3_rw := (congrFun eg3 rw).trans ((up_n (by first | exact ne_ob (k2_rw) (k2_v) (by first | simp | decide | (intro h9; cases h9) | (simp only [ne_eq]; intro h9; injection h9 with h8; simp at h8)) | assumption | (apply Ne.symm; assumption))).trans (k2_rw))
  refine j_aload_n hX dX9_init_16 0 rfl ?_
  refine j_aload_n hX dX9_init_17 2 rfl ?_
  refine j_putF hX hm k3_v rfl wf_X7 tyX7_ok nmX7 1 (by decide) lk_X9_19 (fun _ h => h) rfl rfl (tyX7_ok 1 (by decide)) rfl rfl (Nat.le_of_ble_eq_true rfl) dX9_init_18 ?_
  obtain ⟨g4, eg4⟩ : ∃ z : Wd, z = up g3 v (ob 7 [.ref lr, .ref rr, .int 0, .ref rw, .int 0, .int 0, .int 0, .int 0]) := ⟨_, rfl⟩
  refine j_w eg4.symm ?_
  have k4_v : g4 v = some (ob 7 [.ref lr, .ref rr, .int 0, .ref rw, .int 0, .int 0, .int 0, .int 0]) := by rw [eg4]; exact up_s _ _ _
  have k4_lr := (congrFun eg4 lr).trans ((up_n (by first | exact ne_ob (k3_lr) (k3_v) (by first | simp | decide | (intro h9; cases h9) | (simp only [ne_eq]; intro h9; injection h9 with h8; simp at h8)) | assumption | (apply Ne.symm; assumption))).trans (k3_lr))
  have k4_rr := (congrFun eg4 rr).trans ((up_n (by first | exact ne_ob (k3_rr) (k3_v) (by first | simp | decide | (intro h9; cases h9) | (simp only [ne_eq]; intro h9; injection h9 with h8; simp at h8)) | assumption | (apply Ne.symm; assumption))).trans (k3_rr))
  have k4_rw := (congrFun eg4 rw).trans ((up_n (by first | exact ne_ob (k3_rw) (k3_v) (by first | simp | decide | (intro h9; cases h9) | (simp only [ne_eq]; intro h9; injection h9 with h8; simp at h8)) | assumption | (apply Ne.symm; assumption))).trans (k3_rw))
  have S1 : Sub g0 g2 := by rw [eg2, eg1]; exact (hs.up (dom_s hs frw)).up h0
  have S2 : Sub g0 g3 := by rw [eg3]; exact S1.up h0
  have S3 : Sub g0 g4 := by rw [eg4]; exact S2.up h0
  refine j_aload_n hX dX9_init_21 0 rfl ?_
  refine j_iconst (v := 1) hX dX9_init_22 (by decide) ?_
  refine j_aload_n hX dX9_init_23 1 rfl ?_
  refine j_callV (As := []) (rest := [.int 1, .ref v]) hX (c_X6_dep (xl X) (xK X) g4 lr dl (hdl.sub S3)) k4_lr rfl lk_X9_22 wI_X6_depth wV_X6_X6_depth wN_X6 wC_X6_depth hd_X6_depth rfl (by rw [hL]; decide) (by decide) rfl (Nat.le_of_ble_eq_true rfl) dX9_init_24 (by rw [hR]; decide) (by rw [hR]; decide) jx_no ?_
  rintro _ _ ⟨rfl, rfl⟩
  show J X 1 4 g4 27 [(0, .ref v), (1, .ref lr), (2, .ref rr)] [.int (nI dl), .int 1, .ref v]
  refine j_aload_n hX dX9_init_27 2 rfl ?_
  refine j_callV (As := []) (rest := [.int (nI dl), .int 1, .ref v]) hX (c_X6_dep (xl X) (xK X) g4 rr dr (hdr.sub S3)) k4_rr rfl lk_X9_22 wI_X6_depth wV_X6_X6_depth wN_X6 wC_X6_depth hd_X6_depth rfl (by rw [hL]; decide) (by decide) rfl (Nat.le_of_ble_eq_true rfl) dX9_init_28 (by rw [hR]; decide) (by rw [hR]; decide) jx_no ?_
  rintro _ _ ⟨rfl, rfl⟩
  show J X 1 4 g4 31 [(0, .ref v), (1, .ref lr), (2, .ref rr)] [.int (nI dr), .int (nI dl), .int 1, .ref v]
  refine j_max hX lk_X9_28 (by rw [hL]; decide) (Nat.le_of_ble_eq_true rfl) (by rw [hR]; decide) (by rw [hR]; decide) dX9_init_31 ?_
  refine j_iadd hX dX9_init_34 ?_
  refine j_eqi (y := nI (1 + max dl dr)) (dmax bl br) ?_
  refine j_putF hX hm k4_v rfl wf_X7 tyX7_ok nmX7 2 (by decide) lk_X9_34 (fun _ h => h) rfl rfl (tyX7_ok 2 (by decide)) rfl rfl (Nat.le_of_ble_eq_true rfl) dX9_init_35 ?_
  obtain ⟨g5, eg5⟩ : ∃ z : Wd, z = up g4 v (ob 7 [.ref lr, .ref rr, .int (nI (1 + max dl dr)), .ref rw, .int 0, .int 0, .int 0, .int 0]) := ⟨_, rfl⟩
  refine j_w eg5.symm ?_
  have k5_v : g5 v = some (ob 7 [.ref lr, .ref rr, .int (nI (1 + max dl dr)), .ref rw, .int 0, .int 0, .int 0, .int 0]) := by rw [eg5]; exact up_s _ _ _
  exact j_vret hX hE dX9_init_38 (⟨rfl, rw, frw, by rw [eg5, eg4, up_up, eg3, up_up, eg2, up_up, eg1]⟩) (by decide) (by decide)

set_option maxRecDepth 20000 in
set_option maxHeartbeats 600000 in
/-- View(left, right) -/
theorem c_X9_init_X8 (l : Launch) (K : Cst) (g0 g : Wd) (v lr rr dl dr : Nat) (h0 : g0 v = none) (hs : Sub g0 g) (hdl : depAt K g0 lr dl) (hdr : depAt K g0 rr dr) (bl : dl < 2 ^ 20) (br : dr < 2 ^ 20) (hv : g v = some (ob 8 [.null, .null, .int 0, .null])) : Ct l K yX9_init cX9_init 3 none 2 [.ref v, .ref lr, .ref rr] g (fun v9 g' => v9 = none ∧ ∃ rw, g rw = none ∧ g' = up (up g rw (aI K 4 (fun _ => 0))) v (ob 8 [.ref lr, .ref rr, .int (nI (1 + max dl dr)), .ref rw])) (fun _ _ => False) 1 4 := by
  refine ct_of (by decide) (Nat.le_of_ble_eq_true rfl) ?_
  intro X hl hK hX hE hn hL hR hm
  subst hl; subst hK
  show J X 0 0 g 0 [(0, .ref v), (1, .ref lr), (2, .ref rr)] []
  obtain ⟨fl9, hl9⟩ := (hdl.sub hs).is
  obtain ⟨fr9, hr9⟩ := (hdr.sub hs).is
  refine j_aload_n hX dX9_init_0 0 rfl ?_
  refine j_objI hX lk_X9_3 (by rw [hL]; decide) (Nat.le_of_ble_eq_true rfl) dX9_init_1 ?_
  refine j_aload_n hX dX9_init_4 0 rfl ?_
  refine j_iconst (v := nI 4) hX dX9_init_5 (by decide) ?_
  refine j_newI (n := 4) hX (rfl) (by decide) dX9_init_6 (by rw [hR]; decide) (by rw [hR]; decide) (fun rw frw => ?_)
  obtain ⟨g1, eg1⟩ : ∃ z : Wd, z = up g rw (aI (xK X) 4 (fun _ => 0)) := ⟨_, rfl⟩
  refine j_w eg1.symm ?_
  have k1_v := (congrFun eg1 v).trans ((up_n (ne_fr (hv) frw)).trans (hv))
  have k1_lr := (congrFun eg1 lr).trans ((up_n (ne_fr (hl9) frw)).trans (hl9))
  have k1_rr := (congrFun eg1 rr).trans ((up_n (ne_fr (hr9) frw)).trans (hr9))
  have k1_rw : g1 rw = some (aI (xK X) 4 (fun _ => 0)) := by rw [eg1]; exact up_s _ _ _
  show J X 1 4 g1 8 [(0, .ref v), (1, .ref lr), (2, .ref rr)] [.ref rw, .ref v]
  refine j_putF hX hm k1_v rfl wf_X8 tyX8_ok nmX8 3 (by decide) lk_X9_9 (fun _ h => h) rfl rfl (tyX8_ok 3 (by decide)) rfl rfl (Nat.le_of_ble_eq_true rfl) dX9_init_8 ?_
  obtain ⟨g2, eg2⟩ : ∃ z : Wd, z = up g1 v (ob 8 [.null, .null, .int 0, .ref rw]) := ⟨_, rfl⟩
  refine j_w eg2.symm ?_
  have k2_v : g2 v = some (ob 8 [.null, .null, .int 0, .ref rw]) := by rw [eg2]; exact up_s _ _ _
  have k2_lr := (congrFun eg2 lr).trans ((up_n (by first | exact ne_ob (k1_lr) (k1_v) (by first | simp | decide | (intro h9; cases h9) | (simp only [ne_eq]; intro h9; injection h9 with h8; simp at h8)) | assumption | (apply Ne.symm; assumption))).trans (k1_lr))
  have k2_rr := (congrFun eg2 rr).trans ((up_n (by first | exact ne_ob (k1_rr) (k1_v) (by first | simp | decide | (intro h9; cases h9) | (simp only [ne_eq]; intro h9; injection h9 with h8; simp at h8)) | assumption | (apply Ne.symm; assumption))).trans (k1_rr))
  have k2_rw := (congrFun eg2 rw).trans ((up_n (by first | exact ne_ob (k1_rw) (k1_v) (by first | simp | decide | (intro h9; cases h9) | (simp only [ne_eq]; intro h9; injection h9 with h8; simp at h8)) | assumption | (apply Ne.symm; assumption))).trans (k1_rw))
  refine j_aload_n hX dX9_init_11 0 rfl ?_
  refine j_aload_n hX dX9_init_12 1 rfl ?_
  refine j_putF hX hm k2_v rfl wf_X8 tyX8_ok nmX8 0 (by decide) lk_X9_15 (fun _ h => h) rfl rfl (tyX8_ok 0 (by decide)) rfl rfl (Nat.le_of_ble_eq_true rfl) dX9_init_13 ?_
  obtain ⟨g3, eg3⟩ : ∃ z : Wd, z = up g2 v (ob 8 [.ref lr, .null, .int 0, .ref rw]) := ⟨_, rfl⟩
  refine j_w eg3.symm ?_
  have k3_v : g3 v = some (ob 8 [.ref lr, .null, .int 0, .ref rw]) := by rw [eg3]; exact up_s _ _ _
  have k3_lr := (congrFun eg3 lr).trans ((up_n (by first | exact ne_ob (k2_lr) (k2_v) (by first | simp | decide | (intro h9; cases h9) | (simp only [ne_eq]; intro h9; injection h9 with h8; simp at h8)) | assumption | (apply Ne.symm; assumption))).trans (k2_lr))
  have k3_rr := (congrFun eg3 rr).trans ((up_n (by first | exact ne_ob (k2_rr) (k2_v) (by first | simp | decide | (intro h9; cases h9) | (simp only [ne_eq]; intro h9; injection h9 with h8; simp at h8)) | assumption | (apply Ne.symm; assumption))).trans (k2_rr))
  have k3_rw := (congrFun eg3 rw).trans ((up_n (by first | exact ne_ob (k2_rw) (k2_v) (by first | simp | decide | (intro h9; cases h9) | (simp only [ne_eq]; intro h9; injection h9 with h8; simp at h8)) | assumption | (apply Ne.symm; assumption))).trans (k2_rw))
  refine j_aload_n hX dX9_init_16 0 rfl ?_
  refine j_aload_n hX dX9_init_17 2 rfl ?_
  refine j_putF hX hm k3_v rfl wf_X8 tyX8_ok nmX8 1 (by decide) lk_X9_19 (fun _ h => h) rfl rfl (tyX8_ok 1 (by decide)) rfl rfl (Nat.le_of_ble_eq_true rfl) dX9_init_18 ?_
  obtain ⟨g4, eg4⟩ : ∃ z : Wd, z = up g3 v (ob 8 [.ref lr, .ref rr, .int 0, .ref rw]) := ⟨_, rfl⟩
  refine j_w eg4.symm ?_
  have k4_v : g4 v = some (ob 8 [.ref lr, .ref rr, .int 0, .ref rw]) := by rw [eg4]; exact up_s _ _ _
  have k4_lr := (congrFun eg4 lr).trans ((up_n (by first | exact ne_ob (k3_lr) (k3_v) (by first | simp | decide | (intro h9; cases h9) | (simp only [ne_eq]; intro h9; injection h9 with h8; simp at h8)) | assumption | (apply Ne.symm; assumption))).trans (k3_lr))
  have k4_rr := (congrFun eg4 rr).trans ((up_n (by first | exact ne_ob (k3_rr) (k3_v) (by first | simp | decide | (intro h9; cases h9) | (simp only [ne_eq]; intro h9; injection h9 with h8; simp at h8)) | assumption | (apply Ne.symm; assumption))).trans (k3_rr))
  have k4_rw := (congrFun eg4 rw).trans ((up_n (by first | exact ne_ob (k3_rw) (k3_v) (by first | simp | decide | (intro h9; cases h9) | (simp only [ne_eq]; intro h9; injection h9 with h8; simp at h8)) | assumption | (apply Ne.symm; assumption))).trans (k3_rw))
  have S1 : Sub g0 g2 := by rw [eg2, eg1]; exact (hs.up (dom_s hs frw)).up h0
  have S2 : Sub g0 g3 := by rw [eg3]; exact S1.up h0
  have S3 : Sub g0 g4 := by rw [eg4]; exact S2.up h0
  refine j_aload_n hX dX9_init_21 0 rfl ?_
  refine j_iconst (v := 1) hX dX9_init_22 (by decide) ?_
  refine j_aload_n hX dX9_init_23 1 rfl ?_
  refine j_callV (As := []) (rest := [.int 1, .ref v]) hX (c_X6_dep (xl X) (xK X) g4 lr dl (hdl.sub S3)) k4_lr rfl lk_X9_22 wI_X6_depth wV_X6_X6_depth wN_X6 wC_X6_depth hd_X6_depth rfl (by rw [hL]; decide) (by decide) rfl (Nat.le_of_ble_eq_true rfl) dX9_init_24 (by rw [hR]; decide) (by rw [hR]; decide) jx_no ?_
  rintro _ _ ⟨rfl, rfl⟩
  show J X 1 4 g4 27 [(0, .ref v), (1, .ref lr), (2, .ref rr)] [.int (nI dl), .int 1, .ref v]
  refine j_aload_n hX dX9_init_27 2 rfl ?_
  refine j_callV (As := []) (rest := [.int (nI dl), .int 1, .ref v]) hX (c_X6_dep (xl X) (xK X) g4 rr dr (hdr.sub S3)) k4_rr rfl lk_X9_22 wI_X6_depth wV_X6_X6_depth wN_X6 wC_X6_depth hd_X6_depth rfl (by rw [hL]; decide) (by decide) rfl (Nat.le_of_ble_eq_true rfl) dX9_init_28 (by rw [hR]; decide) (by rw [hR]; decide) jx_no ?_
  rintro _ _ ⟨rfl, rfl⟩
  show J X 1 4 g4 31 [(0, .ref v), (1, .ref lr), (2, .ref rr)] [.int (nI dr), .int (nI dl), .int 1, .ref v]
  refine j_max hX lk_X9_28 (by rw [hL]; decide) (Nat.le_of_ble_eq_true rfl) (by rw [hR]; decide) (by rw [hR]; decide) dX9_init_31 ?_
  refine j_iadd hX dX9_init_34 ?_
  refine j_eqi (y := nI (1 + max dl dr)) (dmax bl br) ?_
  refine j_putF hX hm k4_v rfl wf_X8 tyX8_ok nmX8 2 (by decide) lk_X9_34 (fun _ h => h) rfl rfl (tyX8_ok 2 (by decide)) rfl rfl (Nat.le_of_ble_eq_true rfl) dX9_init_35 ?_
  obtain ⟨g5, eg5⟩ : ∃ z : Wd, z = up g4 v (ob 8 [.ref lr, .ref rr, .int (nI (1 + max dl dr)), .ref rw]) := ⟨_, rfl⟩
  refine j_w eg5.symm ?_
  have k5_v : g5 v = some (ob 8 [.ref lr, .ref rr, .int (nI (1 + max dl dr)), .ref rw]) := by rw [eg5]; exact up_s _ _ _
  exact j_vret hX hE dX9_init_38 (⟨rfl, rw, frw, by rw [eg5, eg4, up_up, eg3, up_up, eg2, up_up, eg1]⟩) (by decide) (by decide)

set_option maxRecDepth 20000 in
set_option maxHeartbeats 600000 in
/-- a view's constructor -/
theorem c_X7_init (l : Launch) (K : Cst) (g0 g : Wd) (v lr dl : Nat) (c cm th : Int32) (ot : Bool) (h0 : g0 v = none) (hs : Sub g0 g) (hdl : depAt K g0 lr dl) (bl : dl < 2 ^ 20) (hv : g v = some (ob 7 [.null, .null, .int 0, .null, .int 0, .int 0, .int 0, .int 0])) : Ct l K yX7_init cX7_init 6 none 3 [.ref v, .ref lr, .int c, .int cm, .int th, .int (b01 ot)] g (fun v9 g' => v9 = none ∧ ∃ rw, g rw = none ∧ rw ≠ v ∧ g' rw = some (aI K 4 (fun _ => 0)) ∧ g' v = some (ob 7 [.ref lr, .ref lr, .int (nI (1 + max dl dl)), .ref rw, .int c, .int cm, .int th, .int (b01 ot)]) ∧ Fr g g' [v, rw]) (fun _ _ => False) 1 4 := by
  refine ct_of (by decide) (Nat.le_of_ble_eq_true rfl) ?_
  intro X hl hK hX hE hn hL hR hm
  subst hl; subst hK
  show J X 0 0 g 0 [(0, .ref v), (1, .ref lr), (2, .int c), (3, .int cm), (4, .int th), (5, .int (b01 ot))] []
  refine j_aload_n hX dX7_init_0 0 rfl ?_
  refine j_aload_n hX dX7_init_1 1 rfl ?_
  refine j_aload_n hX dX7_init_2 1 rfl ?_
  refine j_callI (As := [.ref lr, .ref lr]) (rest := []) hX (c_X9_init_X7 (xl X) (xK X) g0 g v lr lr dl dl h0 hs hdl hdl bl bl hv) lk_X7_3 wI_X9_init wN_X9 wC_X9_init rfl hd_X9_init rfl (by rw [hL]; decide) (by decide) rfl (Nat.le_of_ble_eq_true rfl) dX7_init_3 (by rw [hR]; decide) (by rw [hR]; decide) ?_
  rintro _ w1 ⟨rfl, rw, frw, ew1⟩
  have hv1 : w1 v = some (ob 7 [.ref lr, .ref lr, .int (nI (1 + max dl dl)), .ref rw, .int 0, .int 0, .int 0, .int 0]) := by rw [ew1]; exact up_s _ _ _
  have nrw : rw ≠ v := (ne_fr hv frw).symm
  have hrw1 : w1 rw = some (aI (xK X) 4 (fun _ => 0)) := by rw [ew1, up_n nrw]; exact up_s _ _ _
  show J X 1 4 w1 6 [(0, .ref v), (1, .ref lr), (2, .int c), (3, .int cm), (4, .int th), (5, .int (b01 ot))] []
  refine j_aload_n hX dX7_init_6 0 rfl ?_
  refine j_iload_n hX dX7_init_7 2 rfl ?_
  refine j_putF hX hm hv1 rfl wf_X7 tyX7_ok nmX7 4 (by decide) lk_X7_9 (fun _ h => h) rfl rfl (tyX7_ok 4 (by decide)) rfl rfl (Nat.le_of_ble_eq_true rfl) dX7_init_8 ?_
  obtain ⟨g1, eg1⟩ : ∃ z : Wd, z = up w1 v (ob 7 [.ref lr, .ref lr, .int (nI (1 + max dl dl)), .ref rw, .int c, .int 0, .int 0, .int 0]) := ⟨_, rfl⟩
  refine j_w eg1.symm ?_
  have k1_v : g1 v = some (ob 7 [.ref lr, .ref lr, .int (nI (1 + max dl dl)), .ref rw, .int c, .int 0, .int 0, .int 0]) := by rw [eg1]; exact up_s _ _ _
  have k1_rw := (congrFun eg1 rw).trans ((up_n (by first | exact ne_ob (hrw1) (hv1) (by first | simp | decide | (intro h9; cases h9) | (simp only [ne_eq]; intro h9; injection h9 with h8; simp at h8)) | assumption | (apply Ne.symm; assumption))).trans (hrw1))
  refine j_aload_n hX dX7_init_11 0 rfl ?_
  refine j_iload_n hX dX7_init_12 3 rfl ?_
  refine j_putF hX hm k1_v rfl wf_X7 tyX7_ok nmX7 5 (by decide) lk_X7_15 (fun _ h => h) rfl rfl (tyX7_ok 5 (by decide)) rfl rfl (Nat.le_of_ble_eq_true rfl) dX7_init_13 ?_
  obtain ⟨g2, eg2⟩ : ∃ z : Wd, z = up g1 v (ob 7 [.ref lr, .ref lr, .int (nI (1 + max dl dl)), .ref rw, .int c, .int cm, .int 0, .int 0]) := ⟨_, rfl⟩
  refine j_w eg2.symm ?_
  have k2_v : g2 v = some (ob 7 [.ref lr, .ref lr, .int (nI (1 + max dl dl)), .ref rw, .int c, .int cm, .int 0, .int 0]) := by rw [eg2]; exact up_s _ _ _
  have k2_rw := (congrFun eg2 rw).trans ((up_n (by first | exact ne_ob (k1_rw) (k1_v) (by first | simp | decide | (intro h9; cases h9) | (simp only [ne_eq]; intro h9; injection h9 with h8; simp at h8)) | assumption | (apply Ne.symm; assumption))).trans (k1_rw))
  refine j_aload_n hX dX7_init_16 0 rfl ?_
  refine j_iload hX dX7_init_17 4 rfl ?_
  refine j_putF hX hm k2_v rfl wf_X7 tyX7_ok nmX7 6 (by decide) lk_X7_18 (fun _ h => h) rfl rfl (tyX7_ok 6 (by decide)) rfl rfl (Nat.le_of_ble_eq_true rfl) dX7_init_19 ?_
  obtain ⟨g3, eg3⟩ : ∃ z : Wd, z = up g2 v (ob 7 [.ref lr, .ref lr, .int (nI (1 + max dl dl)), .ref rw, .int c, .int cm, .int th, .int 0]) := ⟨_, rfl⟩
  refine j_w eg3.symm ?_
  have k3_v : g3 v = some (ob 7 [.ref lr, .ref lr, .int (nI (1 + max dl dl)), .ref rw, .int c, .int cm, .int th, .int 0]) := by rw [eg3]; exact up_s _ _ _
  have k3_rw := (congrFun eg3 rw).trans ((up_n (by first | exact ne_ob (k2_rw) (k2_v) (by first | simp | decide | (intro h9; cases h9) | (simp only [ne_eq]; intro h9; injection h9 with h8; simp at h8)) | assumption | (apply Ne.symm; assumption))).trans (k2_rw))
  refine j_aload_n hX dX7_init_22 0 rfl ?_
  refine j_iload hX dX7_init_23 5 rfl ?_
  refine j_putF hX hm k3_v rfl wf_X7 tyX7_ok nmX7 7 (by decide) lk_X7_21 (fun _ h => h) rfl rfl (tyX7_ok 7 (by decide)) (by cases ot <;> rfl) (by cases ot <;> rfl) (Nat.le_of_ble_eq_true rfl) dX7_init_25 ?_
  obtain ⟨g4, eg4⟩ : ∃ z : Wd, z = up g3 v (ob 7 [.ref lr, .ref lr, .int (nI (1 + max dl dl)), .ref rw, .int c, .int cm, .int th, .int (b01 ot)]) := ⟨_, rfl⟩
  refine j_w eg4.symm ?_
  have k4_v : g4 v = some (ob 7 [.ref lr, .ref lr, .int (nI (1 + max dl dl)), .ref rw, .int c, .int cm, .int th, .int (b01 ot)]) := by rw [eg4]; exact up_s _ _ _
  have k4_rw := (congrFun eg4 rw).trans ((up_n (by first | exact ne_ob (k3_rw) (k3_v) (by first | simp | decide | (intro h9; cases h9) | (simp only [ne_eq]; intro h9; injection h9 with h8; simp at h8)) | assumption | (apply Ne.symm; assumption))).trans (k3_rw))
  exact j_vret hX hE dX7_init_28 (⟨rfl, rw, frw, nrw, k4_rw, k4_v, fun q hq => by
    simp only [List.mem_cons, List.not_mem_nil, or_false, not_or] at hq
    obtain ⟨h1, h2⟩ := hq
    rw [eg4, up_n h1, eg3, up_n h1, eg2, up_n h1, eg1, up_n h1, ew1, up_n h1, up_n h2]⟩) (by decide) (by decide)

set_option maxRecDepth 20000 in
set_option maxHeartbeats 600000 in
/-- a view's constructor -/
theorem c_X1_init (l : Launch) (K : Cst) (g0 g : Wd) (v lr dl : Nat) (ck : Nat) (h0 : g0 v = none) (hs : Sub g0 g) (hdl : depAt K g0 lr dl) (bl : dl < 2 ^ 20) (hv : g v = some (ob 1 [.null, .null, .int 0, .null, .null])) : Ct l K yX1_init cX1_init 3 none 3 [.ref v, .ref lr, .ref ck] g (fun v9 g' => v9 = none ∧ ∃ rw, g rw = none ∧ rw ≠ v ∧ g' rw = some (aI K 4 (fun _ => 0)) ∧ g' v = some (ob 1 [.ref lr, .ref lr, .int (nI (1 + max dl dl)), .ref rw, .ref ck]) ∧ Fr g g' [v, rw]) (fun _ _ => False) 1 4 := by
  refine ct_of (by decide) (Nat.le_of_ble_eq_true rfl) ?_
  intro X hl hK hX hE hn hL hR hm
  subst hl; subst hK
  show J X 0 0 g 0 [(0, .ref v), (1, .ref lr), (2, .ref ck)] []
  refine j_aload_n hX dX1_init_0 0 rfl ?_
  refine j_aload_n hX dX1_init_1 1 rfl ?_
  refine j_aload_n hX dX1_init_2 1 rfl ?_
  refine j_callI (As := [.ref lr, .ref lr]) (rest := []) hX (c_X9_init_X1 (xl X) (xK X) g0 g v lr lr dl dl h0 hs hdl hdl bl bl hv) lk_X1_3 wI_X9_init wN_X9 wC_X9_init rfl hd_X9_init rfl (by rw [hL]; decide) (by decide) rfl (Nat.le_of_ble_eq_true rfl) dX1_init_3 (by rw [hR]; decide) (by rw [hR]; decide) ?_
  rintro _ w1 ⟨rfl, rw, frw, ew1⟩
  have hv1 : w1 v = some (ob 1 [.ref lr, .ref lr, .int (nI (1 + max dl dl)), .ref rw, .null]) := by rw [ew1]; exact up_s _ _ _
  have nrw : rw ≠ v := (ne_fr hv frw).symm
  have hrw1 : w1 rw = some (aI (xK X) 4 (fun _ => 0)) := by rw [ew1, up_n nrw]; exact up_s _ _ _
  show J X 1 4 w1 6 [(0, .ref v), (1, .ref lr), (2, .ref ck)] []
  refine j_aload_n hX dX1_init_6 0 rfl ?_
  refine j_aload_n hX dX1_init_7 2 rfl ?_
  refine j_putF hX hm hv1 rfl wf_X1 tyX1_ok nmX1 4 (by decide) lk_X1_9 (fun _ h => h) rfl rfl (tyX1_ok 4 (by decide)) rfl rfl (Nat.le_of_ble_eq_true rfl) dX1_init_8 ?_
  obtain ⟨g1, eg1⟩ : ∃ z : Wd, z = up w1 v (ob 1 [.ref lr, .ref lr, .int (nI (1 + max dl dl)), .ref rw, .ref ck]) := ⟨_, rfl⟩
  refine j_w eg1.symm ?_
  have k1_v : g1 v = some (ob 1 [.ref lr, .ref lr, .int (nI (1 + max dl dl)), .ref rw, .ref ck]) := by rw [eg1]; exact up_s _ _ _
  have k1_rw := (congrFun eg1 rw).trans ((up_n (by first | exact ne_ob (hrw1) (hv1) (by first | simp | decide | (intro h9; cases h9) | (simp only [ne_eq]; intro h9; injection h9 with h8; simp at h8)) | assumption | (apply Ne.symm; assumption))).trans (hrw1))
  exact j_vret hX hE dX1_init_11 (⟨rfl, rw, frw, nrw, k1_rw, k1_v, fun q hq => by
    simp only [List.mem_cons, List.not_mem_nil, or_false, not_or] at hq
    obtain ⟨h1, h2⟩ := hq
    rw [eg1, up_n h1, ew1, up_n h1, up_n h2]⟩) (by decide) (by decide)

set_option maxRecDepth 20000 in
set_option maxHeartbeats 600000 in
/-- a view's constructor -/
theorem c_X4_init (l : Launch) (K : Cst) (g0 g : Wd) (v lr rr dl dr : Nat) (c d : Int32) (h0 : g0 v = none) (hs : Sub g0 g) (hdl : depAt K g0 lr dl) (hdr : depAt K g0 rr dr) (bl : dl < 2 ^ 20) (br : dr < 2 ^ 20) (hv : g v = some (ob 4 [.null, .null, .int 0, .null, .int 0, .int 0])) : Ct l K yX4_init cX4_init 5 none 3 [.ref v, .ref lr, .ref rr, .int c, .int d] g (fun v9 g' => v9 = none ∧ ∃ rw, g rw = none ∧ rw ≠ v ∧ g' rw = some (aI K 4 (fun _ => 0)) ∧ g' v = some (ob 4 [.ref lr, .ref rr, .int (nI (1 + max dl dr)), .ref rw, .int c, .int d]) ∧ Fr g g' [v, rw]) (fun _ _ => False) 1 4 := by
  refine ct_of (by decide) (Nat.le_of_ble_eq_true rfl) ?_
  intro X hl hK hX hE hn hL hR hm
  subst hl; subst hK
  show J X 0 0 g 0 [(0, .ref v), (1, .ref lr), (2, .ref rr), (3, .int c), (4, .int d)] []
  refine j_aload_n hX dX4_init_0 0 rfl ?_
  refine j_aload_n hX dX4_init_1 1 rfl ?_
  refine j_aload_n hX dX4_init_2 2 rfl ?_
  refine j_callI (As := [.ref lr, .ref rr]) (rest := []) hX (c_X9_init_X4 (xl X) (xK X) g0 g v lr rr dl dr h0 hs hdl hdr bl br hv) lk_X4_3 wI_X9_init wN_X9 wC_X9_init rfl hd_X9_init rfl (by rw [hL]; decide) (by decide) rfl (Nat.le_of_ble_eq_true rfl) dX4_init_3 (by rw [hR]; decide) (by rw [hR]; decide) ?_
  rintro _ w1 ⟨rfl, rw, frw, ew1⟩
  have hv1 : w1 v = some (ob 4 [.ref lr, .ref rr, .int (nI (1 + max dl dr)), .ref rw, .int 0, .int 0]) := by rw [ew1]; exact up_s _ _ _
  have nrw : rw ≠ v := (ne_fr hv frw).symm
  have hrw1 : w1 rw = some (aI (xK X) 4 (fun _ => 0)) := by rw [ew1, up_n nrw]; exact up_s _ _ _
  show J X 1 4 w1 6 [(0, .ref v), (1, .ref lr), (2, .ref rr), (3, .int c), (4, .int d)] []
  refine j_aload_n hX dX4_init_6 0 rfl ?_
  refine j_iload_n hX dX4_init_7 3 rfl ?_
  refine j_putF hX hm hv1 rfl wf_X4 tyX4_ok nmX4 4 (by decide) lk_X4_9 (fun _ h => h) rfl rfl (tyX4_ok 4 (by decide)) rfl rfl (Nat.le_of_ble_eq_true rfl) dX4_init_8 ?_
  obtain ⟨g1, eg1⟩ : ∃ z : Wd, z = up w1 v (ob 4 [.ref lr, .ref rr, .int (nI (1 + max dl dr)), .ref rw, .int c, .int 0]) := ⟨_, rfl⟩
  refine j_w eg1.symm ?_
  have k1_v : g1 v = some (ob 4 [.ref lr, .ref rr, .int (nI (1 + max dl dr)), .ref rw, .int c, .int 0]) := by rw [eg1]; exact up_s _ _ _
  have k1_rw := (congrFun eg1 rw).trans ((up_n (by first | exact ne_ob (hrw1) (hv1) (by first | simp | decide | (intro h9; cases h9) | (simp only [ne_eq]; intro h9; injection h9 with h8; simp at h8)) | assumption | (apply Ne.symm; assumption))).trans (hrw1))
  refine j_aload_n hX dX4_init_11 0 rfl ?_
  refine j_iload hX dX4_init_12 4 rfl ?_
  refine j_putF hX hm k1_v rfl wf_X4 tyX4_ok nmX4 5 (by decide) lk_X4_15 (fun _ h => h) rfl rfl (tyX4_ok 5 (by decide)) rfl rfl (Nat.le_of_ble_eq_true rfl) dX4_init_14 ?_
  obtain ⟨g2, eg2⟩ : ∃ z : Wd, z = up g1 v (ob 4 [.ref lr, .ref rr, .int (nI (1 + max dl dr)), .ref rw, .int c, .int d]) := ⟨_, rfl⟩
  refine j_w eg2.symm ?_
  have k2_v : g2 v = some (ob 4 [.ref lr, .ref rr, .int (nI (1 + max dl dr)), .ref rw, .int c, .int d]) := by rw [eg2]; exact up_s _ _ _
  have k2_rw := (congrFun eg2 rw).trans ((up_n (by first | exact ne_ob (k1_rw) (k1_v) (by first | simp | decide | (intro h9; cases h9) | (simp only [ne_eq]; intro h9; injection h9 with h8; simp at h8)) | assumption | (apply Ne.symm; assumption))).trans (k1_rw))
  exact j_vret hX hE dX4_init_17 (⟨rfl, rw, frw, nrw, k2_rw, k2_v, fun q hq => by
    simp only [List.mem_cons, List.not_mem_nil, or_false, not_or] at hq
    obtain ⟨h1, h2⟩ := hq
    rw [eg2, up_n h1, eg1, up_n h1, ew1, up_n h1, up_n h2]⟩) (by decide) (by decide)

set_option maxRecDepth 20000 in
set_option maxHeartbeats 600000 in
/-- a view's constructor -/
theorem c_X8_init (l : Launch) (K : Cst) (g0 g : Wd) (v lr rr dl dr : Nat)  (h0 : g0 v = none) (hs : Sub g0 g) (hdl : depAt K g0 lr dl) (hdr : depAt K g0 rr dr) (bl : dl < 2 ^ 20) (br : dr < 2 ^ 20) (hv : g v = some (ob 8 [.null, .null, .int 0, .null])) : Ct l K yX8_init cX8_init 3 none 3 [.ref v, .ref lr, .ref rr] g (fun v9 g' => v9 = none ∧ ∃ rw, g rw = none ∧ rw ≠ v ∧ g' rw = some (aI K 4 (fun _ => 0)) ∧ g' v = some (ob 8 [.ref lr, .ref rr, .int (nI (1 + max dl dr)), .ref rw]) ∧ Fr g g' [v, rw]) (fun _ _ => False) 1 4 := by
  refine ct_of (by decide) (Nat.le_of_ble_eq_true rfl) ?_
  intro X hl hK hX hE hn hL hR hm
  subst hl; subst hK
  show J X 0 0 g 0 [(0, .ref v), (1, .ref lr), (2, .ref rr)] []
  refine j_aload_n hX dX8_init_0 0 rfl ?_
  refine j_aload_n hX dX8_init_1 1 rfl ?_
  refine j_aload_n hX dX8_init_2 2 rfl ?_
  refine j_callI (As := [.ref lr, .ref rr]) (rest := []) hX (c_X9_init_X8 (xl X) (xK X) g0 g v lr rr dl dr h0 hs hdl hdr bl br hv) lk_X8_1 wI_X9_init wN_X9 wC_X9_init rfl hd_X9_init rfl (by rw [hL]; decide) (by decide) rfl (Nat.le_of_ble_eq_true rfl) dX8_init_3 (by rw [hR]; decide) (by rw [hR]; decide) ?_
  rintro _ w1 ⟨rfl, rw, frw, ew1⟩
  have hv1 : w1 v = some (ob 8 [.ref lr, .ref rr, .int (nI (1 + max dl dr)), .ref rw]) := by rw [ew1]; exact up_s _ _ _
  have nrw : rw ≠ v := (ne_fr hv frw).symm
  have hrw1 : w1 rw = some (aI (xK X) 4 (fun _ => 0)) := by rw [ew1, up_n nrw]; exact up_s _ _ _
  show J X 1 4 w1 6 [(0, .ref v), (1, .ref lr), (2, .ref rr)] []
  exact j_vret hX hE dX8_init_6 (⟨rfl, rw, frw, nrw, hrw1, hv1, fun q hq => by
    simp only [List.mem_cons, List.not_mem_nil, or_false, not_or] at hq
    obtain ⟨h1, h2⟩ := hq
    rw [ew1, up_n h1, up_n h2]⟩) (by decide) (by decide)

set_option maxRecDepth 20000 in
set_option maxHeartbeats 600000 in
/-- a view's constructor -/
theorem c_X2_init (l : Launch) (K : Cst) (g0 g : Wd) (v lr rr dl dr : Nat)  (h0 : g0 v = none) (hs : Sub g0 g) (hdl : depAt K g0 lr dl) (hdr : depAt K g0 rr dr) (bl : dl < 2 ^ 20) (br : dr < 2 ^ 20) (hv : g v = some (ob 2 [.null, .null, .int 0, .null])) : Ct l K yX2_init cX2_init 3 none 3 [.ref v, .ref lr, .ref rr] g (fun v9 g' => v9 = none ∧ ∃ rw, g rw = none ∧ rw ≠ v ∧ g' rw = some (aI K 4 (fun _ => 0)) ∧ g' v = some (ob 2 [.ref lr, .ref rr, .int (nI (1 + max dl dr)), .ref rw]) ∧ Fr g g' [v, rw]) (fun _ _ => False) 1 4 := by
  refine ct_of (by decide) (Nat.le_of_ble_eq_true rfl) ?_
  intro X hl hK hX hE hn hL hR hm
  subst hl; subst hK
  show J X 0 0 g 0 [(0, .ref v), (1, .ref lr), (2, .ref rr)] []
  refine j_aload_n hX dX2_init_0 0 rfl ?_
  refine j_aload_n hX dX2_init_1 1 rfl ?_
  refine j_aload_n hX dX2_init_2 2 rfl ?_
  refine j_callI (As := [.ref lr, .ref rr]) (rest := []) hX (c_X9_init_X2 (xl X) (xK X) g0 g v lr rr dl dr h0 hs hdl hdr bl br hv) lk_X2_1 wI_X9_init wN_X9 wC_X9_init rfl hd_X9_init rfl (by rw [hL]; decide) (by decide) rfl (Nat.le_of_ble_eq_true rfl) dX2_init_3 (by rw [hR]; decide) (by rw [hR]; decide) ?_
  rintro _ w1 ⟨rfl, rw, frw, ew1⟩
  have hv1 : w1 v = some (ob 2 [.ref lr, .ref rr, .int (nI (1 + max dl dr)), .ref rw]) := by rw [ew1]; exact up_s _ _ _
  have nrw : rw ≠ v := (ne_fr hv frw).symm
  have hrw1 : w1 rw = some (aI (xK X) 4 (fun _ => 0)) := by rw [ew1, up_n nrw]; exact up_s _ _ _
  show J X 1 4 w1 6 [(0, .ref v), (1, .ref lr), (2, .ref rr)] []
  exact j_vret hX hE dX2_init_6 (⟨rfl, rw, frw, nrw, hrw1, hv1, fun q hq => by
    simp only [List.mem_cons, List.not_mem_nil, or_false, not_or] at hq
    obtain ⟨h1, h2⟩ := hq
    rw [ew1, up_n h1, up_n h2]⟩) (by decide) (by decide)

set_option maxRecDepth 20000 in
set_option maxHeartbeats 600000 in
/-- a view's constructor -/
theorem c_X5_init (l : Launch) (K : Cst) (g0 g : Wd) (v lr dl : Nat)  (h0 : g0 v = none) (hs : Sub g0 g) (hdl : depAt K g0 lr dl) (bl : dl < 2 ^ 20) (hv : g v = some (ob 5 [.null, .null, .int 0, .null])) : Ct l K yX5_init cX5_init 2 none 3 [.ref v, .ref lr] g (fun v9 g' => v9 = none ∧ ∃ rw, g rw = none ∧ rw ≠ v ∧ g' rw = some (aI K 4 (fun _ => 0)) ∧ g' v = some (ob 5 [.ref lr, .ref lr, .int (nI (1 + max dl dl)), .ref rw]) ∧ Fr g g' [v, rw]) (fun _ _ => False) 1 4 := by
  refine ct_of (by decide) (Nat.le_of_ble_eq_true rfl) ?_
  intro X hl hK hX hE hn hL hR hm
  subst hl; subst hK
  show J X 0 0 g 0 [(0, .ref v), (1, .ref lr)] []
  refine j_aload_n hX dX5_init_0 0 rfl ?_
  refine j_aload_n hX dX5_init_1 1 rfl ?_
  refine j_aload_n hX dX5_init_2 1 rfl ?_
  refine j_callI (As := [.ref lr, .ref lr]) (rest := []) hX (c_X9_init_X5 (xl X) (xK X) g0 g v lr lr dl dl h0 hs hdl hdl bl bl hv) lk_X5_1 wI_X9_init wN_X9 wC_X9_init rfl hd_X9_init rfl (by rw [hL]; decide) (by decide) rfl (Nat.le_of_ble_eq_true rfl) dX5_init_3 (by rw [hR]; decide) (by rw [hR]; decide) ?_
  rintro _ w1 ⟨rfl, rw, frw, ew1⟩
  have hv1 : w1 v = some (ob 5 [.ref lr, .ref lr, .int (nI (1 + max dl dl)), .ref rw]) := by rw [ew1]; exact up_s _ _ _
  have nrw : rw ≠ v := (ne_fr hv frw).symm
  have hrw1 : w1 rw = some (aI (xK X) 4 (fun _ => 0)) := by rw [ew1, up_n nrw]; exact up_s _ _ _
  show J X 1 4 w1 6 [(0, .ref v), (1, .ref lr)] []
  exact j_vret hX hE dX5_init_6 (⟨rfl, rw, frw, nrw, hrw1, hv1, fun q hq => by
    simp only [List.mem_cons, List.not_mem_nil, or_false, not_or] at hq
    obtain ⟨h1, h2⟩ := hq
    rw [ew1, up_n h1, up_n h2]⟩) (by decide) (by decide)

set_option maxRecDepth 20000 in
set_option maxHeartbeats 600000 in
/-- a view's constructor -/
theorem c_X3_init (l : Launch) (K : Cst) (g0 g : Wd) (v lr dl : Nat) (bY st c : Int32) (h0 : g0 v = none) (hs : Sub g0 g) (hdl : depAt K g0 lr dl) (bl : dl < 2 ^ 20) (hv : g v = some (ob 3 [.null, .null, .int 0, .null, .int 0, .int 0, .int 0])) : Ct l K yX3_init cX3_init 5 none 3 [.ref v, .ref lr, .int bY, .int st, .int c] g (fun v9 g' => v9 = none ∧ ∃ rw, g rw = none ∧ rw ≠ v ∧ g' rw = some (aI K 4 (fun _ => 0)) ∧ g' v = some (ob 3 [.ref lr, .ref lr, .int (nI (1 + max dl dl)), .ref rw, .int bY, .int st, .int c]) ∧ Fr g g' [v, rw]) (fun _ _ => False) 1 4 := by
  refine ct_of (by decide) (Nat.le_of_ble_eq_true rfl) ?_
  intro X hl hK hX hE hn hL hR hm
  subst hl; subst hK
  show J X 0 0 g 0 [(0, .ref v), (1, .ref lr), (2, .int bY), (3, .int st), (4, .int c)] []
  refine j_aload_n hX dX3_init_0 0 rfl ?_
  refine j_aload_n hX dX3_init_1 1 rfl ?_
  refine j_aload_n hX dX3_init_2 1 rfl ?_
  refine j_callI (As := [.ref lr, .ref lr]) (rest := []) hX (c_X9_init_X3 (xl X) (xK X) g0 g v lr lr dl dl h0 hs hdl hdl bl bl hv) lk_X3_3 wI_X9_init wN_X9 wC_X9_init rfl hd_X9_init rfl (by rw [hL]; decide) (by decide) rfl (Nat.le_of_ble_eq_true rfl) dX3_init_3 (by rw [hR]; decide) (by rw [hR]; decide) ?_
  rintro _ w1 ⟨rfl, rw, frw, ew1⟩
  have hv1 : w1 v = some (ob 3 [.ref lr, .ref lr, .int (nI (1 + max dl dl)), .ref rw, .int 0, .int 0, .int 0]) := by rw [ew1]; exact up_s _ _ _
  have nrw : rw ≠ v := (ne_fr hv frw).symm
  have hrw1 : w1 rw = some (aI (xK X) 4 (fun _ => 0)) := by rw [ew1, up_n nrw]; exact up_s _ _ _
  show J X 1 4 w1 6 [(0, .ref v), (1, .ref lr), (2, .int bY), (3, .int st), (4, .int c)] []
  refine j_aload_n hX dX3_init_6 0 rfl ?_
  refine j_iload_n hX dX3_init_7 2 rfl ?_
  refine j_putF hX hm hv1 rfl wf_X3 tyX3_ok nmX3 4 (by decide) lk_X3_9 (fun _ h => h) rfl rfl (tyX3_ok 4 (by decide)) rfl rfl (Nat.le_of_ble_eq_true rfl) dX3_init_8 ?_
  obtain ⟨g1, eg1⟩ : ∃ z : Wd, z = up w1 v (ob 3 [.ref lr, .ref lr, .int (nI (1 + max dl dl)), .ref rw, .int bY, .int 0, .int 0]) := ⟨_, rfl⟩
  refine j_w eg1.symm ?_
  have k1_v : g1 v = some (ob 3 [.ref lr, .ref lr, .int (nI (1 + max dl dl)), .ref rw, .int bY, .int 0, .int 0]) := by rw [eg1]; exact up_s _ _ _
  have k1_rw := (congrFun eg1 rw).trans ((up_n (by first | exact ne_ob (hrw1) (hv1) (by first | simp | decide | (intro h9; cases h9) | (simp only [ne_eq]; intro h9; injection h9 with h8; simp at h8)) | assumption | (apply Ne.symm; assumption))).trans (hrw1))
  refine j_aload_n hX dX3_init_11 0 rfl ?_
  refine j_iload_n hX dX3_init_12 3 rfl ?_
  refine j_putF hX hm k1_v rfl wf_X3 tyX3_ok nmX3 5 (by decide) lk_X3_15 (fun _ h => h) rfl rfl (tyX3_ok 5 (by decide)) rfl rfl (Nat.le_of_ble_eq_true rfl) dX3_init_13 ?_
  obtain ⟨g2, eg2⟩ : ∃ z : Wd, z = up g1 v (ob 3 [.ref lr, .ref lr, .int (nI (1 + max dl dl)), .ref rw, .int bY, .int st, .int 0]) := ⟨_, rfl⟩
  refine j_w eg2.symm ?_
  have k2_v : g2 v = some (ob 3 [.ref lr, .ref lr, .int (nI (1 + max dl dl)), .ref rw, .int bY, .int st, .int 0]) := by rw [eg2]; exact up_s _ _ _
  have k2_rw := (congrFun eg2 rw).trans ((up_n (by first | exact ne_ob (k1_rw) (k1_v) (by first | simp | decide | (intro h9; cases h9) | (simp only [ne_eq]; intro h9; injection h9 with h8; simp at h8)) | assumption | (apply Ne.symm; assumption))).trans (k1_rw))
  refine j_aload_n hX dX3_init_16 0 rfl ?_
  refine j_iload hX dX3_init_17 4 rfl ?_
  refine j_putF hX hm k2_v rfl wf_X3 tyX3_ok nmX3 6 (by decide) lk_X3_18 (fun _ h => h) rfl rfl (tyX3_ok 6 (by decide)) rfl rfl (Nat.le_of_ble_eq_true rfl) dX3_init_19 ?_
  obtain ⟨g3, eg3⟩ : ∃ z : Wd, z = up g2 v (ob 3 [.ref lr, .ref lr, .int (nI (1 + max dl dl)), .ref rw, .int bY, .int st, .int c]) := ⟨_, rfl⟩
  refine j_w eg3.symm ?_
  have k3_v : g3 v = some (ob 3 [.ref lr, .ref lr, .int (nI (1 + max dl dl)), .ref rw, .int bY, .int st, .int c]) := by rw [eg3]; exact up_s _ _ _
  have k3_rw := (congrFun eg3 rw).trans ((up_n (by first | exact ne_ob (k2_rw) (k2_v) (by first | simp | decide | (intro h9; cases h9) | (simp only [ne_eq]; intro h9; injection h9 with h8; simp at h8)) | assumption | (apply Ne.symm; assumption))).trans (k2_rw))
  exact j_vret hX hE dX3_init_22 (⟨rfl, rw, frw, nrw, k3_rw, k3_v, fun q hq => by
    simp only [List.mem_cons, List.not_mem_nil, or_false, not_or] at hq
    obtain ⟨h1, h2⟩ := hq
    rw [eg3, up_n h1, eg2, up_n h1, eg1, up_n h1, ew1, up_n h1, up_n h2]⟩) (by decide) (by decide)

