set_option maxRecDepth 20000 in
set_option maxHeartbeats 600000 in
/-- latest() -/
theorem c_X6_latest (l : Launch) (K : Cst) (g : Wd) (lr nw nx p : Nat) (vw : Value) (cc ch : Int32) (hlr : g lr = some (ob 6 [.ref nw, .ref nx, vw, .int cc, .int (nI p), .int ch])) (hp : p < 2 ^ 31) : Ct l K yX6_latest cX6_latest 1 (some (.object "BagViews$Bag")) 0 [.ref lr] g (fun v g' => v = some (.ref (if 0 < p then nx else nw)) ∧ g = g') (fun _ _ => False) 0 0 := by
  refine ct_of (by decide) (Nat.le_of_ble_eq_true rfl) ?_
  intro X hl hK hX hE hn hL hR hm
  subst hl; subst hK
  show J X 0 0 g 0 [(0, .ref lr)] []
  refine j_aload_n hX dX6_latest_0 0 rfl ?_
  refine j_get (v := .int (nI p)) hX hlr rfl wf_X6 4 (by decide) lk_X6_27 (fun _ h => h) rfl dX6_latest_1 ?_
  refine j_if_le hX 14 dX6_latest_4 (by decide) (fun c_4 => ?_) (fun c_4 => ?_)
  · have c4 : ¬ 0 < p := fun q => nI_nle q hp c_4
    refine j_aload_n hX dX6_latest_14 0 rfl ?_
    refine j_get (v := .ref nw) hX hlr rfl wf_X6 0 (by decide) lk_X6_10 (fun _ h => h) rfl dX6_latest_15 ?_
    exact j_aret hX hE dX6_latest_18 (⟨by rw [if_neg c4], rfl⟩) (by decide) (by decide)
  · have c4 : 0 < p := Nat.pos_of_ne_zero (fun q => c_4 (by rw [q]; decide))
    refine j_aload_n hX dX6_latest_7 0 rfl ?_
    refine j_get (v := .ref nx) hX hlr rfl wf_X6 1 (by decide) lk_X6_16 (fun _ h => h) rfl dX6_latest_8 ?_
    refine j_goto hX 18 dX6_latest_11 (by decide) ?_
    exact j_aret hX hE dX6_latest_18 (⟨by rw [if_pos c4], rfl⟩) (by decide) (by decide)

set_option maxRecDepth 20000 in
set_option maxHeartbeats 600000 in
/-- once: makeInto -/
theorem c_X5_makeInto (l : Launch) (K : Cst) (g : Wd) (b ca oa rw : Nat) (rf0 : Nat → Int32) (hI : bagR K g b ca oa []) (hrw : g rw = some (aI K 4 rf0)) (v rr : Nat) (dp : Int32) (lr nw nx p : Nat) (vw : Value) (cc ch : Int32) (hlr : g lr = some (ob 6 [.ref nw, .ref nx, vw, .int cc, .int (nI p), .int ch])) (hp : p < 2 ^ 31) (lb lca loa : Nat) (L : Bg) (hlb : (if 0 < p then nx else nw) = lb) (hL : bagR K g lb lca loa L) (gL : good L) (nb : lb ≠ b) (nca : lca ≠ ca) (noa : loa ≠ oa) (hv : g v = some (ob 5 [.ref lr, .ref rr, .int dp, .ref rw])) : Ct l K yX5_makeInto cX5_makeInto 5 (some .boolean) 4 [.ref v, .ref b] g (mkP K g b ca oa rw (fun _ => True) (fldB (fun x : Row × Nat => some (x.1, (1 : Int))) L [])) (fun _ _ => False) 0 0 := by
  refine ct_of (by decide) (Nat.le_of_ble_eq_true rfl) ?_
  intro X hl hK hX hE hn hL hR hm
  subst hl; subst hK
  show J X 0 0 g 0 [(0, .ref v), (1, .ref b)] []
  obtain ⟨if0, it0, hI0, hIr⟩ := id hI
  obtain ⟨lf, lt, hbg, hLr⟩ := hL
  have hLn : L.length ≤ 20 := gL.2.1
  have n_v_b : v ≠ b := ne_ob (hv) (hI0.1) (by simp)
  have n_v_ca : v ≠ ca := ne_ob (hv) (hI0.2.1) (by simp)
  have n_v_oa : v ≠ oa := ne_ob (hv) (hI0.2.2) (by simp)
  have n_v_rw : v ≠ rw := ne_ob (hv) (hrw) (by simp)
  have n_lr_b : lr ≠ b := ne_ob (hlr) (hI0.1) (by simp)
  have n_lr_ca : lr ≠ ca := ne_ob (hlr) (hI0.2.1) (by simp)
  have n_lr_oa : lr ≠ oa := ne_ob (hlr) (hI0.2.2) (by simp)
  have n_lr_rw : lr ≠ rw := ne_ob (hlr) (hrw) (by simp)
  have n_lb_b : lb ≠ b := nb
  have n_lb_ca : lb ≠ ca := ne_ob (hbg.1) (hI0.2.1) (by simp)
  have n_lb_oa : lb ≠ oa := ne_ob (hbg.1) (hI0.2.2) (by simp)
  have n_lb_rw : lb ≠ rw := ne_ob (hbg.1) (hrw) (by simp)
  have n_lca_b : lca ≠ b := ne_ob (hbg.2.1) (hI0.1) (by simp)
  have n_lca_ca : lca ≠ ca := nca
  have n_lca_oa : lca ≠ oa := ne_ob (hbg.2.1) (hI0.2.2) (by simp)
  have n_lca_rw : lca ≠ rw := ne_ob (hbg.2.1) (hrw) (by simp)
  have n_loa_b : loa ≠ b := ne_ob (hbg.2.2) (hI0.1) (by simp)
  have n_loa_ca : loa ≠ ca := ne_ob (hbg.2.2) (hI0.2.1) (by simp)
  have n_loa_oa : loa ≠ oa := noa
  have n_loa_rw : loa ≠ rw := ne_ob (hbg.2.2) (hrw) (by simp)
  have n_b_rw : b ≠ rw := ne_ob (hI0.1) hrw (by simp)
  have n_ca_rw : ca ≠ rw := ne_ob (hI0.2.1) hrw (by simp)
  have n_oa_rw : oa ≠ rw := ne_ob (hI0.2.2) hrw (by simp)
  have loop : ∀ (m k : Nat) (g1 : Wd) (acc : Bg), k + m = L.length → Fr g g1 [b, ca, oa, rw] → bagR (xK X) g1 b ca oa acc → good acc → (∃ rf, g1 rw = some (aI (xK X) 4 rf) ∧ (fun _ => True) rf) → fldB (fun x : Row × Nat => some (x.1, (1 : Int))) (L.drop k) acc = fldB (fun x : Row × Nat => some (x.1, (1 : Int))) L [] → J X 0 0 g1 13 [(4, .int (nI k)), (3, .int 1), (2, .ref lb), (0, .ref v), (1, .ref b)] [] := by
    intro m
    induction m with
    | zero =>
      intro k g1 acc hk hF hI1 hGa hrwE hRs
      obtain ⟨rf1, rw1, hIr1⟩ := hrwE
      have v1 := Fr.at hF hv (nm4 n_v_b n_v_ca n_v_oa n_v_rw)
      have lr1 := Fr.at hF hlr (nm4 n_lr_b n_lr_ca n_lr_oa n_lr_rw)
      have bg1 := isBag.at hbg hF (nm4 n_lb_b n_lb_ca n_lb_oa n_lb_rw) (nm4 n_lca_b n_lca_ca n_lca_oa n_lca_rw) (nm4 n_loa_b n_loa_ca n_loa_oa n_loa_rw)
      refine j_iload hX dX5_makeInto_13 0 rfl ?_
      refine j_aload_n hX dX5_makeInto_15 2 rfl ?_
      refine j_getN (v := .int (nI L.length)) hX bg1.1 rfl wf_X0 2 (by decide) nk_X5_19 (fun _ h => h) rfl dX5_makeInto_16 ?_
      refine j_icmp_ge hX 52 dX5_makeInto_19 (by decide) (fun _ => ?_) (fun c_19 => absurd (nI_le (a := L.length) (b := k) (by omega) (by omega)) c_19)
      refine j_iload_n hX dX5_makeInto_52 1 rfl ?_
      exact j_zret hX hE dX5_makeInto_53 (by first | rfl | decide | assumption) (⟨hF, ⟨rf1, rw1, hIr1⟩, by rw [← hRs, fld_end (by omega)]; exact ⟨rfl, hI1, hGa⟩⟩) (by decide) (by decide)
    | succ m ih =>
      intro k g1 acc hk hF hI1 hGa hrwE hRs
      obtain ⟨rf1, rw1, hIr1⟩ := hrwE
      have hk9 : k < L.length := by omega
      have hx9 : L[k]? = some L[k] := List.getElem?_eq_getElem hk9
      have hLk := Bg_lt gL hk9
      have v1 := Fr.at hF hv (nm4 n_v_b n_v_ca n_v_oa n_v_rw)
      have lr1 := Fr.at hF hlr (nm4 n_lr_b n_lr_ca n_lr_oa n_lr_rw)
      have bg1 := isBag.at hbg hF (nm4 n_lb_b n_lb_ca n_lb_oa n_lb_rw) (nm4 n_lca_b n_lca_ca n_lca_oa n_lca_rw) (nm4 n_loa_b n_loa_ca n_loa_oa n_loa_rw)
      refine j_iload hX dX5_makeInto_13 0 rfl ?_
      refine j_aload_n hX dX5_makeInto_15 2 rfl ?_
      refine j_getN (v := .int (nI L.length)) hX bg1.1 rfl wf_X0 2 (by decide) nk_X5_19 (fun _ h => h) rfl dX5_makeInto_16 ?_
      refine j_icmp_ge hX 52 dX5_makeInto_19 (by decide) (fun c_19 => absurd c_19 (nI_ge (a := k) (b := L.length) (by omega) (by omega))) (fun _ => ?_)
      refine j_iload_n hX dX5_makeInto_22 1 rfl ?_
      refine j_if_eq hX 52 dX5_makeInto_23 (by decide) (fun c_23 => absurd c_23 (show ¬ (1 : Int32) = 0 by decide)) (fun _ => ?_)
      refine j_aload_n hX dX5_makeInto_26 2 rfl ?_
      refine j_iload hX dX5_makeInto_27 0 rfl ?_
      refine j_aload_n hX dX5_makeInto_29 3 rfl ?_
      refine j_get (v := .ref rw) hX v1 rfl wf_X5 3 (by decide) lk_X5_25 (fun z h => u_same (hX.ts _ wz_21) z h) rfl dX5_makeInto_30 ?_
      refine j_callV (As := [.int (nI k), .ref rw]) (rest := []) hX (c_X0_readRow (xl X) (xK X) g1 lb lca loa L.length lf lt bg1 rw rf1 rw1 k (by omega)) bg1.1 rfl lk_X5_29 wI_X0_readRow wV_X0_X0_readRow wN_X0 wC_X0_readRow hd_X0_readRow rfl (by rw [hL]; decide) (by decide) rfl (Nat.le_of_ble_eq_true rfl) dX5_makeInto_33 (by rw [hR]; decide) (by rw [hR]; decide) jx_no ?_
      rintro _ g2 ⟨rfl, rw2, hF2⟩
      have v2 := Fr.at hF2 v1 (nm1 n_v_rw)
      have lr2 := Fr.at hF2 lr1 (nm1 n_lr_rw)
      have bg2 := isBag.at bg1 hF2 (nm1 n_lb_rw) (nm1 n_lca_rw) (nm1 n_loa_rw)
      have iR2 := bagR.at hI1 hF2 (nm1 n_b_rw) (nm1 n_ca_rw) (nm1 n_oa_rw)
      obtain ⟨if2, it2, iB2, iRp2⟩ := id iR2
      have hrow : rowAt (va_cpy lf rf1 (4 * k) 0 4) 0 = (L[k]).1 := by rw [row_copied, (hLr k _ hx9).1]
      show J X 0 0 g2 36 [(4, .int (nI k)), (3, .int 1), (2, .ref lb), (0, .ref v), (1, .ref b)] []
      refine j_aload_n hX dX5_makeInto_36 4 rfl ?_
      refine j_aload_n hX dX5_makeInto_37 3 rfl ?_
      refine j_get (v := .ref rw) hX v2 rfl wf_X5 3 (by decide) lk_X5_25 (fun z h => u_same (hX.ts _ wz_21) z h) rfl dX5_makeInto_38 ?_
      refine j_lconst (v := 1) hX dX5_makeInto_41 (by decide) ?_
      refine j_callV (As := [.ref rw, .long 1]) (rest := []) hX (c_X0_add (xl X) (xK X) g2 b ca oa acc iR2 hGa rw _ rw2 (1) (1) (by decide) (by decide) (by decide)) iB2.1 rfl lk_X5_33 wI_X0_add wV_X0_X0_add wN_X0 wC_X0_add hd_X0_add rfl (by rw [hL]; decide) (by decide) rfl (Nat.le_of_ble_eq_true rfl) dX5_makeInto_42 (by rw [hR]; decide) (by rw [hR]; decide) jx_no ?_
      intro v9 g3 h9
      rw [hrow] at h9
      rcases h8 : addB (L[k]).1 (1) acc with _ | B9
      · rw [h8] at h9
        obtain ⟨rfl, rfl⟩ := h9
        show J X 0 0 g2 45 [(4, .int (nI k)), (3, .int 1), (2, .ref lb), (0, .ref v), (1, .ref b)] [.int 0]
        refine j_istore_n (lv' := [(3, .int 0), (4, .int (nI k)), (2, .ref lb), (0, .ref v), (1, .ref b)]) hX dX5_makeInto_45 (by rw [hn]; decide) rfl ?_
        refine j_iinc (v := nI (k + 1)) (lv' := [(4, .int (nI (k + 1))), (3, .int 0), (2, .ref lb), (0, .ref v), (1, .ref b)]) hX dX5_makeInto_46 1 rfl (nI_1 k) (by rw [hn]; decide) rfl ?_
        refine j_goto hX 13 dX5_makeInto_49 (by decide) ?_
        refine j_iload hX dX5_makeInto_13 0 rfl ?_
        refine j_aload_n hX dX5_makeInto_15 2 rfl ?_
        refine j_getN (v := .int (nI L.length)) hX bg2.1 rfl wf_X0 2 (by decide) nk_X5_19 (fun _ h => h) rfl dX5_makeInto_16 ?_
        refine j_icmp_ge hX 52 dX5_makeInto_19 (by decide) (fun c_19 => ?_) (fun c_19 => ?_)
        · refine j_iload_n hX dX5_makeInto_52 1 rfl ?_
          exact j_zret hX hE dX5_makeInto_53 (by first | rfl | decide | assumption) (⟨fr2 hF hF2, ⟨_, rw2, trivial⟩, by rw [← hRs, fld_no (q := ((L[k]).1, 1)) hk9 rfl h8]; exact ⟨rfl, _, _, _, iB2⟩⟩) (by decide) (by decide)
        · refine j_iload_n hX dX5_makeInto_22 1 rfl ?_
          refine j_if_eq hX 52 dX5_makeInto_23 (by decide) (fun _ => ?_) (fun c_23 => absurd (show (0 : Int32) = 0 from rfl) c_23)
          refine j_iload_n hX dX5_makeInto_52 1 rfl ?_
          exact j_zret hX hE dX5_makeInto_53 (by first | rfl | decide | assumption) (⟨fr2 hF hF2, ⟨_, rw2, trivial⟩, by rw [← hRs, fld_no (q := ((L[k]).1, 1)) hk9 rfl h8]; exact ⟨rfl, _, _, _, iB2⟩⟩) (by decide) (by decide)
      · rw [h8] at h9
        obtain ⟨rfl, hB3, hF3⟩ := h9
        show J X 0 0 g3 45 [(4, .int (nI k)), (3, .int 1), (2, .ref lb), (0, .ref v), (1, .ref b)] [.int 1]
        refine j_istore_n (lv' := [(3, .int 1), (4, .int (nI k)), (2, .ref lb), (0, .ref v), (1, .ref b)]) hX dX5_makeInto_45 (by rw [hn]; decide) rfl ?_
        refine j_iinc (v := nI (k + 1)) (lv' := [(4, .int (nI (k + 1))), (3, .int 1), (2, .ref lb), (0, .ref v), (1, .ref b)]) hX dX5_makeInto_46 1 rfl (nI_1 k) (by rw [hn]; decide) rfl ?_
        refine j_goto hX 13 dX5_makeInto_49 (by decide) ?_
        refine j_sub [0, 1, 2, 3, 4] rfl ?_
        exact ih (k + 1) g3 B9 (by omega) (fr3 hF hF2 hF3) hB3 (addB_good hGa h8) ⟨_, Fr.at hF3 rw2 (nm3 n_b_rw.symm n_ca_rw.symm n_oa_rw.symm), trivial⟩ (by rw [← hRs, fld_yes (q := ((L[k]).1, 1)) hk9 rfl h8])
  refine j_aload_n hX dX5_makeInto_0 0 rfl ?_
  refine j_get (v := .ref lr) hX hv rfl wf_X5 0 (by decide) lk_X5_7 (fun z h => u_same (hX.ts _ wz_20) z h) rfl dX5_makeInto_1 ?_
  refine j_callV (As := []) (rest := []) hX (c_X6_latest (xl X) (xK X) g lr nw nx p vw cc ch hlr hp) hlr rfl lk_X5_13 wI_X6_latest wV_X6_X6_latest wN_X6 wC_X6_latest hd_X6_latest rfl (by rw [hL]; decide) (by decide) rfl (Nat.le_of_ble_eq_true rfl) dX5_makeInto_4 (by rw [hR]; decide) (by rw [hR]; decide) jx_no ?_
  rintro _ _ ⟨rfl, rfl⟩
  rw [hlb]
  show J X 0 0 g 7 [(0, .ref v), (1, .ref b)] [.ref lb]
  refine j_astore_n (lv' := [(2, .ref lb), (0, .ref v), (1, .ref b)]) hX dX5_makeInto_7 (by rw [hn]; decide) rfl ?_
  refine j_iconst (v := 1) hX dX5_makeInto_8 (by decide) ?_
  refine j_istore_n (lv' := [(3, .int 1), (2, .ref lb), (0, .ref v), (1, .ref b)]) hX dX5_makeInto_9 (by rw [hn]; decide) rfl ?_
  refine j_iconst (v := nI 0) hX dX5_makeInto_10 (by decide) ?_
  refine j_istore (lv' := [(4, .int (nI 0)), (3, .int 1), (2, .ref lb), (0, .ref v), (1, .ref b)]) hX dX5_makeInto_11 (by rw [hn]; decide) rfl ?_
  refine j_sub [0, 1, 2, 3, 4] rfl ?_
  exact loop L.length 0 g [] (by omega) (Fr.rf _ _) hI good_nil ⟨_, hrw, trivial⟩ rfl

set_option maxRecDepth 20000 in
set_option maxHeartbeats 600000 in
/-- union: makeInto -/
theorem c_X8_makeInto (l : Launch) (K : Cst) (g : Wd) (b ca oa rw : Nat) (rf0 : Nat → Int32) (hI : bagR K g b ca oa []) (hrw : g rw = some (aI K 4 rf0)) (v : Nat) (dp : Int32) (lr nw nx p : Nat) (vw : Value) (cc ch : Int32) (hlr : g lr = some (ob 6 [.ref nw, .ref nx, vw, .int cc, .int (nI p), .int ch])) (hp : p < 2 ^ 31) (lb lca loa : Nat) (L : Bg) (hlb : (if 0 < p then nx else nw) = lb) (hL : bagR K g lb lca loa L) (gL : good L) (nb : lb ≠ b) (nca : lca ≠ ca) (noa : loa ≠ oa) (lrB nwB nxB pB : Nat) (vwB : Value) (ccB chB : Int32) (hlrB : g lrB = some (ob 6 [.ref nwB, .ref nxB, vwB, .int ccB, .int (nI pB), .int chB])) (hpB : pB < 2 ^ 31) (lbB lcaB loaB : Nat) (LB : Bg) (hlbB : (if 0 < pB then nxB else nwB) = lbB) (hLB : bagR K g lbB lcaB loaB LB) (gLB : good LB) (nbB : lbB ≠ b) (ncaB : lcaB ≠ ca) (noaB : loaB ≠ oa) (hv : g v = some (ob 8 [.ref lr, .ref lrB, .int dp, .ref rw])) : Ct l K yX8_makeInto cX8_makeInto 5 (some .boolean) 4 [.ref v, .ref b] g (mkP K g b ca oa rw (fun _ => True) (fldB (fun x : Row × Nat => some (x.1, (x.2 : Int))) LB L)) (fun _ _ => False) 0 0 := by
  refine ct_of (by decide) (Nat.le_of_ble_eq_true rfl) ?_
  intro X hl hK hX hE hn hL hR hm
  subst hl; subst hK
  show J X 0 0 g 0 [(0, .ref v), (1, .ref b)] []
  obtain ⟨if0, it0, hI0, hIr⟩ := id hI
  obtain ⟨lf, lt, hbg, hLr⟩ := hL
  have hLn : L.length ≤ 20 := gL.2.1
  obtain ⟨lfB, ltB, hbgB, hLrB⟩ := hLB
  have hLnB : LB.length ≤ 20 := gLB.2.1
  have n_v_b : v ≠ b := ne_ob (hv) (hI0.1) (by simp)
  have n_v_ca : v ≠ ca := ne_ob (hv) (hI0.2.1) (by simp)
  have n_v_oa : v ≠ oa := ne_ob (hv) (hI0.2.2) (by simp)
  have n_v_rw : v ≠ rw := ne_ob (hv) (hrw) (by simp)
  have n_lr_b : lr ≠ b := ne_ob (hlr) (hI0.1) (by simp)
  have n_lr_ca : lr ≠ ca := ne_ob (hlr) (hI0.2.1) (by simp)
  have n_lr_oa : lr ≠ oa := ne_ob (hlr) (hI0.2.2) (by simp)
  have n_lr_rw : lr ≠ rw := ne_ob (hlr) (hrw) (by simp)
  have n_lb_b : lb ≠ b := nb
  have n_lb_ca : lb ≠ ca := ne_ob (hbg.1) (hI0.2.1) (by simp)
  have n_lb_oa : lb ≠ oa := ne_ob (hbg.1) (hI0.2.2) (by simp)
  have n_lb_rw : lb ≠ rw := ne_ob (hbg.1) (hrw) (by simp)
  have n_lca_b : lca ≠ b := ne_ob (hbg.2.1) (hI0.1) (by simp)
  have n_lca_ca : lca ≠ ca := nca
  have n_lca_oa : lca ≠ oa := ne_ob (hbg.2.1) (hI0.2.2) (by simp)
  have n_lca_rw : lca ≠ rw := ne_ob (hbg.2.1) (hrw) (by simp)
  have n_loa_b : loa ≠ b := ne_ob (hbg.2.2) (hI0.1) (by simp)
  have n_loa_ca : loa ≠ ca := ne_ob (hbg.2.2) (hI0.2.1) (by simp)
  have n_loa_oa : loa ≠ oa := noa
  have n_loa_rw : loa ≠ rw := ne_ob (hbg.2.2) (hrw) (by simp)
  have n_lrB_b : lrB ≠ b := ne_ob (hlrB) (hI0.1) (by simp)
  have n_lrB_ca : lrB ≠ ca := ne_ob (hlrB) (hI0.2.1) (by simp)
  have n_lrB_oa : lrB ≠ oa := ne_ob (hlrB) (hI0.2.2) (by simp)
  have n_lrB_rw : lrB ≠ rw := ne_ob (hlrB) (hrw) (by simp)
  have n_lbB_b : lbB ≠ b := nbB
  have n_lbB_ca : lbB ≠ ca := ne_ob (hbgB.1) (hI0.2.1) (by simp)
  have n_lbB_oa : lbB ≠ oa := ne_ob (hbgB.1) (hI0.2.2) (by simp)
  have n_lbB_rw : lbB ≠ rw := ne_ob (hbgB.1) (hrw) (by simp)
  have n_lcaB_b : lcaB ≠ b := ne_ob (hbgB.2.1) (hI0.1) (by simp)
  have n_lcaB_ca : lcaB ≠ ca := ncaB
  have n_lcaB_oa : lcaB ≠ oa := ne_ob (hbgB.2.1) (hI0.2.2) (by simp)
  have n_lcaB_rw : lcaB ≠ rw := ne_ob (hbgB.2.1) (hrw) (by simp)
  have n_loaB_b : loaB ≠ b := ne_ob (hbgB.2.2) (hI0.1) (by simp)
  have n_loaB_ca : loaB ≠ ca := ne_ob (hbgB.2.2) (hI0.2.1) (by simp)
  have n_loaB_oa : loaB ≠ oa := noaB
  have n_loaB_rw : loaB ≠ rw := ne_ob (hbgB.2.2) (hrw) (by simp)
  have n_b_rw : b ≠ rw := ne_ob (hI0.1) hrw (by simp)
  have n_ca_rw : ca ≠ rw := ne_ob (hI0.2.1) hrw (by simp)
  have n_oa_rw : oa ≠ rw := ne_ob (hI0.2.2) hrw (by simp)
  have loop : ∀ (m k : Nat) (g1 : Wd) (acc : Bg), k + m = LB.length → Fr g g1 [b, ca, oa, rw] → bagR (xK X) g1 b ca oa acc → good acc → (∃ rf, g1 rw = some (aI (xK X) 4 rf) ∧ (fun _ => True) rf) → fldB (fun x : Row × Nat => some (x.1, (x.2 : Int))) (LB.drop k) acc = fldB (fun x : Row × Nat => some (x.1, (x.2 : Int))) LB L → J X 0 0 g1 24 [(4, .int (nI k)), (3, .int 1), (2, .ref lbB), (0, .ref v), (1, .ref b)] [] := by
    intro m
    induction m with
    | zero =>
      intro k g1 acc hk hF hI1 hGa hrwE hRs
      obtain ⟨rf1, rw1, hIr1⟩ := hrwE
      have v1 := Fr.at hF hv (nm4 n_v_b n_v_ca n_v_oa n_v_rw)
      have lr1 := Fr.at hF hlr (nm4 n_lr_b n_lr_ca n_lr_oa n_lr_rw)
      have bg1 := isBag.at hbg hF (nm4 n_lb_b n_lb_ca n_lb_oa n_lb_rw) (nm4 n_lca_b n_lca_ca n_lca_oa n_lca_rw) (nm4 n_loa_b n_loa_ca n_loa_oa n_loa_rw)
      have lrB1 := Fr.at hF hlrB (nm4 n_lrB_b n_lrB_ca n_lrB_oa n_lrB_rw)
      have bgB1 := isBag.at hbgB hF (nm4 n_lbB_b n_lbB_ca n_lbB_oa n_lbB_rw) (nm4 n_lcaB_b n_lcaB_ca n_lcaB_oa n_lcaB_rw) (nm4 n_loaB_b n_loaB_ca n_loaB_oa n_loaB_rw)
      refine j_iload hX dX8_makeInto_24 0 rfl ?_
      refine j_aload_n hX dX8_makeInto_26 2 rfl ?_
      refine j_getN (v := .int (nI LB.length)) hX bgB1.1 rfl wf_X0 2 (by decide) nk_X8_28 (fun _ h => h) rfl dX8_makeInto_27 ?_
      refine j_icmp_ge hX 70 dX8_makeInto_30 (by decide) (fun _ => ?_) (fun c_30 => absurd (nI_le (a := LB.length) (b := k) (by omega) (by omega)) c_30)
      refine j_iload_n hX dX8_makeInto_70 1 rfl ?_
      exact j_zret hX hE dX8_makeInto_71 (by first | rfl | decide | assumption) (⟨hF, ⟨rf1, rw1, hIr1⟩, by rw [← hRs, fld_end (by omega)]; exact ⟨rfl, hI1, hGa⟩⟩) (by decide) (by decide)
    | succ m ih =>
      intro k g1 acc hk hF hI1 hGa hrwE hRs
      obtain ⟨rf1, rw1, hIr1⟩ := hrwE
      have hk9 : k < LB.length := by omega
      have hx9 : LB[k]? = some LB[k] := List.getElem?_eq_getElem hk9
      have hLk := Bg_lt gLB hk9
      have v1 := Fr.at hF hv (nm4 n_v_b n_v_ca n_v_oa n_v_rw)
      have lr1 := Fr.at hF hlr (nm4 n_lr_b n_lr_ca n_lr_oa n_lr_rw)
      have bg1 := isBag.at hbg hF (nm4 n_lb_b n_lb_ca n_lb_oa n_lb_rw) (nm4 n_lca_b n_lca_ca n_lca_oa n_lca_rw) (nm4 n_loa_b n_loa_ca n_loa_oa n_loa_rw)
      have lrB1 := Fr.at hF hlrB (nm4 n_lrB_b n_lrB_ca n_lrB_oa n_lrB_rw)
      have bgB1 := isBag.at hbgB hF (nm4 n_lbB_b n_lbB_ca n_lbB_oa n_lbB_rw) (nm4 n_lcaB_b n_lcaB_ca n_lcaB_oa n_lcaB_rw) (nm4 n_loaB_b n_loaB_ca n_loaB_oa n_loaB_rw)
      refine j_iload hX dX8_makeInto_24 0 rfl ?_
      refine j_aload_n hX dX8_makeInto_26 2 rfl ?_
      refine j_getN (v := .int (nI LB.length)) hX bgB1.1 rfl wf_X0 2 (by decide) nk_X8_28 (fun _ h => h) rfl dX8_makeInto_27 ?_
      refine j_icmp_ge hX 70 dX8_makeInto_30 (by decide) (fun c_30 => absurd c_30 (nI_ge (a := k) (b := LB.length) (by omega) (by omega))) (fun _ => ?_)
      refine j_iload_n hX dX8_makeInto_33 1 rfl ?_
      refine j_if_eq hX 70 dX8_makeInto_34 (by decide) (fun c_34 => absurd c_34 (show ¬ (1 : Int32) = 0 by decide)) (fun _ => ?_)
      refine j_aload_n hX dX8_makeInto_37 2 rfl ?_
      refine j_iload hX dX8_makeInto_38 0 rfl ?_
      refine j_aload_n hX dX8_makeInto_40 3 rfl ?_
      refine j_get (v := .ref rw) hX v1 rfl wf_X8 3 (by decide) lk_X8_32 (fun z h => u_same (hX.ts _ wz_26) z h) rfl dX8_makeInto_41 ?_
      refine j_callV (As := [.int (nI k), .ref rw]) (rest := []) hX (c_X0_readRow (xl X) (xK X) g1 lbB lcaB loaB LB.length lfB ltB bgB1 rw rf1 rw1 k (by omega)) bgB1.1 rfl lk_X8_36 wI_X0_readRow wV_X0_X0_readRow wN_X0 wC_X0_readRow hd_X0_readRow rfl (by rw [hL]; decide) (by decide) rfl (Nat.le_of_ble_eq_true rfl) dX8_makeInto_44 (by rw [hR]; decide) (by rw [hR]; decide) jx_no ?_
      rintro _ g2 ⟨rfl, rw2, hF2⟩
      have v2 := Fr.at hF2 v1 (nm1 n_v_rw)
      have lr2 := Fr.at hF2 lr1 (nm1 n_lr_rw)
      have bg2 := isBag.at bg1 hF2 (nm1 n_lb_rw) (nm1 n_lca_rw) (nm1 n_loa_rw)
      have lrB2 := Fr.at hF2 lrB1 (nm1 n_lrB_rw)
      have bgB2 := isBag.at bgB1 hF2 (nm1 n_lbB_rw) (nm1 n_lcaB_rw) (nm1 n_loaB_rw)
      have iR2 := bagR.at hI1 hF2 (nm1 n_b_rw) (nm1 n_ca_rw) (nm1 n_oa_rw)
      obtain ⟨if2, it2, iB2, iRp2⟩ := id iR2
      have hrow : rowAt (va_cpy lfB rf1 (4 * k) 0 4) 0 = (LB[k]).1 := by rw [row_copied, (hLrB k _ hx9).1]
      show J X 0 0 g2 47 [(4, .int (nI k)), (3, .int 1), (2, .ref lbB), (0, .ref v), (1, .ref b)] []
      refine j_aload_n hX dX8_makeInto_47 4 rfl ?_
      refine j_aload_n hX dX8_makeInto_48 3 rfl ?_
      refine j_get (v := .ref rw) hX v2 rfl wf_X8 3 (by decide) lk_X8_32 (fun z h => u_same (hX.ts _ wz_26) z h) rfl dX8_makeInto_49 ?_
      refine j_aload_n hX dX8_makeInto_52 2 rfl ?_
      refine j_getN (v := .ref loaB) hX bgB2.1 rfl wf_X0 1 (by decide) nk_X8_40 (fun _ h => h) rfl dX8_makeInto_53 ?_
      refine j_iload hX dX8_makeInto_56 0 rfl ?_
      refine j_ialdN hX bgB2.2.2 (k) (rfl) (by omega) (by decide) dX8_makeInto_58 ?_
      refine j_eqi (y := nI (LB[k]).2) ((hLrB k _ hx9).2) ?_
      refine j_i2l hX dX8_makeInto_59 ?_
      refine j_callV (As := [.ref rw, .long ((nI (LB[k]).2).toInt64)]) (rest := []) hX (c_X0_add (xl X) (xK X) g2 b ca oa acc iR2 hGa rw _ rw2 ((nI (LB[k]).2).toInt64) (((LB[k]).2 : Int)) (l_nI (by omega)) (by omega) (by omega)) iB2.1 rfl lk_X8_43 wI_X0_add wV_X0_X0_add wN_X0 wC_X0_add hd_X0_add rfl (by rw [hL]; decide) (by decide) rfl (Nat.le_of_ble_eq_true rfl) dX8_makeInto_60 (by rw [hR]; decide) (by rw [hR]; decide) jx_no ?_
      intro v9 g3 h9
      rw [hrow] at h9
      rcases h8 : addB (LB[k]).1 (((LB[k]).2 : Int)) acc with _ | B9
      · rw [h8] at h9
        obtain ⟨rfl, rfl⟩ := h9
        show J X 0 0 g2 63 [(4, .int (nI k)), (3, .int 1), (2, .ref lbB), (0, .ref v), (1, .ref b)] [.int 0]
        refine j_istore_n (lv' := [(3, .int 0), (4, .int (nI k)), (2, .ref lbB), (0, .ref v), (1, .ref b)]) hX dX8_makeInto_63 (by rw [hn]; decide) rfl ?_
        refine j_iinc (v := nI (k + 1)) (lv' := [(4, .int (nI (k + 1))), (3, .int 0), (2, .ref lbB), (0, .ref v), (1, .ref b)]) hX dX8_makeInto_64 1 rfl (nI_1 k) (by rw [hn]; decide) rfl ?_
        refine j_goto hX 24 dX8_makeInto_67 (by decide) ?_
        refine j_iload hX dX8_makeInto_24 0 rfl ?_
        refine j_aload_n hX dX8_makeInto_26 2 rfl ?_
        refine j_getN (v := .int (nI LB.length)) hX bgB2.1 rfl wf_X0 2 (by decide) nk_X8_28 (fun _ h => h) rfl dX8_makeInto_27 ?_
        refine j_icmp_ge hX 70 dX8_makeInto_30 (by decide) (fun c_30 => ?_) (fun c_30 => ?_)
        · refine j_iload_n hX dX8_makeInto_70 1 rfl ?_
          exact j_zret hX hE dX8_makeInto_71 (by first | rfl | decide | assumption) (⟨fr2 hF hF2, ⟨_, rw2, trivial⟩, by rw [← hRs, fld_no (q := ((LB[k]).1, ((LB[k]).2 : Int))) hk9 rfl h8]; exact ⟨rfl, _, _, _, iB2⟩⟩) (by decide) (by decide)
        · refine j_iload_n hX dX8_makeInto_33 1 rfl ?_
          refine j_if_eq hX 70 dX8_makeInto_34 (by decide) (fun _ => ?_) (fun c_34 => absurd (show (0 : Int32) = 0 from rfl) c_34)
          refine j_iload_n hX dX8_makeInto_70 1 rfl ?_
          exact j_zret hX hE dX8_makeInto_71 (by first | rfl | decide | assumption) (⟨fr2 hF hF2, ⟨_, rw2, trivial⟩, by rw [← hRs, fld_no (q := ((LB[k]).1, ((LB[k]).2 : Int))) hk9 rfl h8]; exact ⟨rfl, _, _, _, iB2⟩⟩) (by decide) (by decide)
      · rw [h8] at h9
        obtain ⟨rfl, hB3, hF3⟩ := h9
        show J X 0 0 g3 63 [(4, .int (nI k)), (3, .int 1), (2, .ref lbB), (0, .ref v), (1, .ref b)] [.int 1]
        refine j_istore_n (lv' := [(3, .int 1), (4, .int (nI k)), (2, .ref lbB), (0, .ref v), (1, .ref b)]) hX dX8_makeInto_63 (by rw [hn]; decide) rfl ?_
        refine j_iinc (v := nI (k + 1)) (lv' := [(4, .int (nI (k + 1))), (3, .int 1), (2, .ref lbB), (0, .ref v), (1, .ref b)]) hX dX8_makeInto_64 1 rfl (nI_1 k) (by rw [hn]; decide) rfl ?_
        refine j_goto hX 24 dX8_makeInto_67 (by decide) ?_
        refine j_sub [0, 1, 2, 3, 4] rfl ?_
        exact ih (k + 1) g3 B9 (by omega) (fr3 hF hF2 hF3) hB3 (addB_good hGa h8) ⟨_, Fr.at hF3 rw2 (nm3 n_b_rw.symm n_ca_rw.symm n_oa_rw.symm), trivial⟩ (by rw [← hRs, fld_yes (q := ((LB[k]).1, ((LB[k]).2 : Int))) hk9 rfl h8])
  refine j_aload_n hX dX8_makeInto_0 1 rfl ?_
  refine j_aload_n hX dX8_makeInto_1 0 rfl ?_
  refine j_get (v := .ref lr) hX hv rfl wf_X8 0 (by decide) lk_X8_7 (fun z h => u_same (hX.ts _ wz_24) z h) rfl dX8_makeInto_2 ?_
  refine j_callV (As := []) (rest := [.ref b]) hX (c_X6_latest (xl X) (xK X) g lr nw nx p vw cc ch hlr hp) hlr rfl lk_X8_13 wI_X6_latest wV_X6_X6_latest wN_X6 wC_X6_latest hd_X6_latest rfl (by rw [hL]; decide) (by decide) rfl (Nat.le_of_ble_eq_true rfl) dX8_makeInto_5 (by rw [hR]; decide) (by rw [hR]; decide) jx_no ?_
  rintro _ _ ⟨rfl, rfl⟩
  rw [hlb]
  show J X 0 0 g 8 [(0, .ref v), (1, .ref b)] [.ref lb, .ref b]
  refine j_callV (As := [.ref lb]) (rest := []) hX (c_X0_copyFrom (xl X) (xK X) g b ca oa 0 if0 it0 hI0 lb lca loa L.length lf lt hbg nb nca noa) hI0.1 rfl lk_X8_19 wI_X0_copyFrom wV_X0_X0_copyFrom wN_X0 wC_X0_copyFrom hd_X0_copyFrom rfl (by rw [hL]; decide) (by decide) rfl (Nat.le_of_ble_eq_true rfl) dX8_makeInto_8 (by rw [hR]; decide) (by rw [hR]; decide) jx_no ?_
  rintro _ g0 ⟨rfl, iB0, hF0⟩
  have v0 := Fr.at hF0 hv (nm3 n_v_b n_v_ca n_v_oa)
  have lr0 := Fr.at hF0 hlr (nm3 n_lr_b n_lr_ca n_lr_oa)
  have bg0 := isBag.at hbg hF0 (nm3 n_lb_b n_lb_ca n_lb_oa) (nm3 n_lca_b n_lca_ca n_lca_oa) (nm3 n_loa_b n_loa_ca n_loa_oa)
  have lrB0 := Fr.at hF0 hlrB (nm3 n_lrB_b n_lrB_ca n_lrB_oa)
  have bgB0 := isBag.at hbgB hF0 (nm3 n_lbB_b n_lbB_ca n_lbB_oa) (nm3 n_lcaB_b n_lcaB_ca n_lcaB_oa) (nm3 n_loaB_b n_loaB_ca n_loaB_oa)
  have rw0 := Fr.at hF0 hrw (nm3 n_b_rw.symm n_ca_rw.symm n_oa_rw.symm)
  show J X 0 0 g0 11 [(0, .ref v), (1, .ref b)] []
  refine j_aload_n hX dX8_makeInto_11 0 rfl ?_
  refine j_get (v := .ref lrB) hX v0 rfl wf_X8 1 (by decide) lk_X8_25 (fun z h => u_same (hX.ts _ wz_25) z h) rfl dX8_makeInto_12 ?_
  refine j_callV (As := []) (rest := []) hX (c_X6_latest (xl X) (xK X) g0 lrB nwB nxB pB vwB ccB chB lrB0 hpB) lrB0 rfl lk_X8_13 wI_X6_latest wV_X6_X6_latest wN_X6 wC_X6_latest hd_X6_latest rfl (by rw [hL]; decide) (by decide) rfl (Nat.le_of_ble_eq_true rfl) dX8_makeInto_15 (by rw [hR]; decide) (by rw [hR]; decide) jx_no ?_
  rintro _ _ ⟨rfl, rfl⟩
  rw [hlbB]
  show J X 0 0 g0 18 [(0, .ref v), (1, .ref b)] [.ref lbB]
  refine j_astore_n (lv' := [(2, .ref lbB), (0, .ref v), (1, .ref b)]) hX dX8_makeInto_18 (by rw [hn]; decide) rfl ?_
  refine j_iconst (v := 1) hX dX8_makeInto_19 (by decide) ?_
  refine j_istore_n (lv' := [(3, .int 1), (2, .ref lbB), (0, .ref v), (1, .ref b)]) hX dX8_makeInto_20 (by rw [hn]; decide) rfl ?_
  refine j_iconst (v := nI 0) hX dX8_makeInto_21 (by decide) ?_
  refine j_istore (lv' := [(4, .int (nI 0)), (3, .int 1), (2, .ref lbB), (0, .ref v), (1, .ref b)]) hX dX8_makeInto_22 (by rw [hn]; decide) rfl ?_
  refine j_sub [0, 1, 2, 3, 4] rfl ?_
  exact loop LB.length 0 g0 L (by omega) (fr3 (Fr.rf _ _) (Fr.rf _ _) hF0) ⟨_, _, iB0, rep_copy hLr hLn⟩ gL ⟨_, rw0, trivial⟩ rfl

set_option maxRecDepth 20000 in
set_option maxHeartbeats 600000 in
/-- difference: makeInto -/
theorem c_X2_makeInto (l : Launch) (K : Cst) (g : Wd) (b ca oa rw : Nat) (rf0 : Nat → Int32) (hI : bagR K g b ca oa []) (hrw : g rw = some (aI K 4 rf0)) (v : Nat) (dp : Int32) (lr nw nx p : Nat) (vw : Value) (cc ch : Int32) (hlr : g lr = some (ob 6 [.ref nw, .ref nx, vw, .int cc, .int (nI p), .int ch])) (hp : p < 2 ^ 31) (lb lca loa : Nat) (L : Bg) (hlb : (if 0 < p then nx else nw) = lb) (hL : bagR K g lb lca loa L) (gL : good L) (nb : lb ≠ b) (nca : lca ≠ ca) (noa : loa ≠ oa) (lrB nwB nxB pB : Nat) (vwB : Value) (ccB chB : Int32) (hlrB : g lrB = some (ob 6 [.ref nwB, .ref nxB, vwB, .int ccB, .int (nI pB), .int chB])) (hpB : pB < 2 ^ 31) (lbB lcaB loaB : Nat) (LB : Bg) (hlbB : (if 0 < pB then nxB else nwB) = lbB) (hLB : bagR K g lbB lcaB loaB LB) (gLB : good LB) (nbB : lbB ≠ b) (ncaB : lcaB ≠ ca) (noaB : loaB ≠ oa) (hv : g v = some (ob 2 [.ref lr, .ref lrB, .int dp, .ref rw])) : Ct l K yX2_makeInto cX2_makeInto 6 (some .boolean) 4 [.ref v, .ref b] g (mkP K g b ca oa rw (fun _ => True) (fldB (fun x : Row × Nat => some (x.1, (x.2 : Int) - (tms LB x.1 : Int))) L [])) (fun _ _ => False) 0 0 := by
  refine ct_of (by decide) (Nat.le_of_ble_eq_true rfl) ?_
  intro X hl hK hX hE hn hL hR hm
  subst hl; subst hK
  show J X 0 0 g 0 [(0, .ref v), (1, .ref b)] []
  obtain ⟨if0, it0, hI0, hIr⟩ := id hI
  obtain ⟨lf, lt, hbg, hLr⟩ := hL
  have hLn : L.length ≤ 20 := gL.2.1
  obtain ⟨lfB, ltB, hbgB, hLrB⟩ := hLB
  have hLnB : LB.length ≤ 20 := gLB.2.1
  have n_v_b : v ≠ b := ne_ob (hv) (hI0.1) (by simp)
  have n_v_ca : v ≠ ca := ne_ob (hv) (hI0.2.1) (by simp)
  have n_v_oa : v ≠ oa := ne_ob (hv) (hI0.2.2) (by simp)
  have n_v_rw : v ≠ rw := ne_ob (hv) (hrw) (by simp)
  have n_lr_b : lr ≠ b := ne_ob (hlr) (hI0.1) (by simp)
  have n_lr_ca : lr ≠ ca := ne_ob (hlr) (hI0.2.1) (by simp)
  have n_lr_oa : lr ≠ oa := ne_ob (hlr) (hI0.2.2) (by simp)
  have n_lr_rw : lr ≠ rw := ne_ob (hlr) (hrw) (by simp)
  have n_lb_b : lb ≠ b := nb
  have n_lb_ca : lb ≠ ca := ne_ob (hbg.1) (hI0.2.1) (by simp)
  have n_lb_oa : lb ≠ oa := ne_ob (hbg.1) (hI0.2.2) (by simp)
  have n_lb_rw : lb ≠ rw := ne_ob (hbg.1) (hrw) (by simp)
  have n_lca_b : lca ≠ b := ne_ob (hbg.2.1) (hI0.1) (by simp)
  have n_lca_ca : lca ≠ ca := nca
  have n_lca_oa : lca ≠ oa := ne_ob (hbg.2.1) (hI0.2.2) (by simp)
  have n_lca_rw : lca ≠ rw := ne_ob (hbg.2.1) (hrw) (by simp)
  have n_loa_b : loa ≠ b := ne_ob (hbg.2.2) (hI0.1) (by simp)
  have n_loa_ca : loa ≠ ca := ne_ob (hbg.2.2) (hI0.2.1) (by simp)
  have n_loa_oa : loa ≠ oa := noa
  have n_loa_rw : loa ≠ rw := ne_ob (hbg.2.2) (hrw) (by simp)
  have n_lrB_b : lrB ≠ b := ne_ob (hlrB) (hI0.1) (by simp)
  have n_lrB_ca : lrB ≠ ca := ne_ob (hlrB) (hI0.2.1) (by simp)
  have n_lrB_oa : lrB ≠ oa := ne_ob (hlrB) (hI0.2.2) (by simp)
  have n_lrB_rw : lrB ≠ rw := ne_ob (hlrB) (hrw) (by simp)
  have n_lbB_b : lbB ≠ b := nbB
  have n_lbB_ca : lbB ≠ ca := ne_ob (hbgB.1) (hI0.2.1) (by simp)
  have n_lbB_oa : lbB ≠ oa := ne_ob (hbgB.1) (hI0.2.2) (by simp)
  have n_lbB_rw : lbB ≠ rw := ne_ob (hbgB.1) (hrw) (by simp)
  have n_lcaB_b : lcaB ≠ b := ne_ob (hbgB.2.1) (hI0.1) (by simp)
  have n_lcaB_ca : lcaB ≠ ca := ncaB
  have n_lcaB_oa : lcaB ≠ oa := ne_ob (hbgB.2.1) (hI0.2.2) (by simp)
  have n_lcaB_rw : lcaB ≠ rw := ne_ob (hbgB.2.1) (hrw) (by simp)
  have n_loaB_b : loaB ≠ b := ne_ob (hbgB.2.2) (hI0.1) (by simp)
  have n_loaB_ca : loaB ≠ ca := ne_ob (hbgB.2.2) (hI0.2.1) (by simp)
  have n_loaB_oa : loaB ≠ oa := noaB
  have n_loaB_rw : loaB ≠ rw := ne_ob (hbgB.2.2) (hrw) (by simp)
  have n_b_rw : b ≠ rw := ne_ob (hI0.1) hrw (by simp)
  have n_ca_rw : ca ≠ rw := ne_ob (hI0.2.1) hrw (by simp)
  have n_oa_rw : oa ≠ rw := ne_ob (hI0.2.2) hrw (by simp)
  have loop : ∀ (m k : Nat) (g1 : Wd) (acc : Bg), k + m = L.length → Fr g g1 [b, ca, oa, rw] → bagR (xK X) g1 b ca oa acc → good acc → (∃ rf, g1 rw = some (aI (xK X) 4 rf) ∧ (fun _ => True) rf) → fldB (fun x : Row × Nat => some (x.1, (x.2 : Int) - (tms LB x.1 : Int))) (L.drop k) acc = fldB (fun x : Row × Nat => some (x.1, (x.2 : Int) - (tms LB x.1 : Int))) L [] → J X 0 0 g1 22 [(5, .int (nI k)), (4, .int 1), (2, .ref lb), (3, .ref lbB), (0, .ref v), (1, .ref b)] [] := by
    intro m
    induction m with
    | zero =>
      intro k g1 acc hk hF hI1 hGa hrwE hRs
      obtain ⟨rf1, rw1, hIr1⟩ := hrwE
      have v1 := Fr.at hF hv (nm4 n_v_b n_v_ca n_v_oa n_v_rw)
      have lr1 := Fr.at hF hlr (nm4 n_lr_b n_lr_ca n_lr_oa n_lr_rw)
      have bg1 := isBag.at hbg hF (nm4 n_lb_b n_lb_ca n_lb_oa n_lb_rw) (nm4 n_lca_b n_lca_ca n_lca_oa n_lca_rw) (nm4 n_loa_b n_loa_ca n_loa_oa n_loa_rw)
      have lrB1 := Fr.at hF hlrB (nm4 n_lrB_b n_lrB_ca n_lrB_oa n_lrB_rw)
      have bgB1 := isBag.at hbgB hF (nm4 n_lbB_b n_lbB_ca n_lbB_oa n_lbB_rw) (nm4 n_lcaB_b n_lcaB_ca n_lcaB_oa n_lcaB_rw) (nm4 n_loaB_b n_loaB_ca n_loaB_oa n_loaB_rw)
      refine j_iload hX dX2_makeInto_22 0 rfl ?_
      refine j_aload_n hX dX2_makeInto_24 2 rfl ?_
      refine j_getN (v := .int (nI L.length)) hX bg1.1 rfl wf_X0 2 (by decide) nk_X2_22 (fun _ h => h) rfl dX2_makeInto_25 ?_
      refine j_icmp_ge hX 79 dX2_makeInto_28 (by decide) (fun _ => ?_) (fun c_28 => absurd (nI_le (a := L.length) (b := k) (by omega) (by omega)) c_28)
      refine j_iload hX dX2_makeInto_79 1 rfl ?_
      exact j_zret hX hE dX2_makeInto_81 (by first | rfl | decide | assumption) (⟨hF, ⟨rf1, rw1, hIr1⟩, by rw [← hRs, fld_end (by omega)]; exact ⟨rfl, hI1, hGa⟩⟩) (by decide) (by decide)
    | succ m ih =>
      intro k g1 acc hk hF hI1 hGa hrwE hRs
      obtain ⟨rf1, rw1, hIr1⟩ := hrwE
      have hk9 : k < L.length := by omega
      have hx9 : L[k]? = some L[k] := List.getElem?_eq_getElem hk9
      have hLk := Bg_lt gL hk9
      have v1 := Fr.at hF hv (nm4 n_v_b n_v_ca n_v_oa n_v_rw)
      have lr1 := Fr.at hF hlr (nm4 n_lr_b n_lr_ca n_lr_oa n_lr_rw)
      have bg1 := isBag.at hbg hF (nm4 n_lb_b n_lb_ca n_lb_oa n_lb_rw) (nm4 n_lca_b n_lca_ca n_lca_oa n_lca_rw) (nm4 n_loa_b n_loa_ca n_loa_oa n_loa_rw)
      have lrB1 := Fr.at hF hlrB (nm4 n_lrB_b n_lrB_ca n_lrB_oa n_lrB_rw)
      have bgB1 := isBag.at hbgB hF (nm4 n_lbB_b n_lbB_ca n_lbB_oa n_lbB_rw) (nm4 n_lcaB_b n_lcaB_ca n_lcaB_oa n_lcaB_rw) (nm4 n_loaB_b n_loaB_ca n_loaB_oa n_loaB_rw)
      refine j_iload hX dX2_makeInto_22 0 rfl ?_
      refine j_aload_n hX dX2_makeInto_24 2 rfl ?_
      refine j_getN (v := .int (nI L.length)) hX bg1.1 rfl wf_X0 2 (by decide) nk_X2_22 (fun _ h => h) rfl dX2_makeInto_25 ?_
      refine j_icmp_ge hX 79 dX2_makeInto_28 (by decide) (fun c_28 => absurd c_28 (nI_ge (a := k) (b := L.length) (by omega) (by omega))) (fun _ => ?_)
      refine j_iload hX dX2_makeInto_31 1 rfl ?_
      refine j_if_eq hX 79 dX2_makeInto_33 (by decide) (fun c_33 => absurd c_33 (show ¬ (1 : Int32) = 0 by decide)) (fun _ => ?_)
      refine j_aload_n hX dX2_makeInto_36 2 rfl ?_
      refine j_iload hX dX2_makeInto_37 0 rfl ?_
      refine j_aload_n hX dX2_makeInto_39 4 rfl ?_
      refine j_get (v := .ref rw) hX v1 rfl wf_X2 3 (by decide) lk_X2_28 (fun z h => u_same (hX.ts _ wz_12) z h) rfl dX2_makeInto_40 ?_
      refine j_callV (As := [.int (nI k), .ref rw]) (rest := []) hX (c_X0_readRow (xl X) (xK X) g1 lb lca loa L.length lf lt bg1 rw rf1 rw1 k (by omega)) bg1.1 rfl lk_X2_32 wI_X0_readRow wV_X0_X0_readRow wN_X0 wC_X0_readRow hd_X0_readRow rfl (by rw [hL]; decide) (by decide) rfl (Nat.le_of_ble_eq_true rfl) dX2_makeInto_43 (by rw [hR]; decide) (by rw [hR]; decide) jx_no ?_
      rintro _ g2 ⟨rfl, rw2, hF2⟩
      have v2 := Fr.at hF2 v1 (nm1 n_v_rw)
      have lr2 := Fr.at hF2 lr1 (nm1 n_lr_rw)
      have bg2 := isBag.at bg1 hF2 (nm1 n_lb_rw) (nm1 n_lca_rw) (nm1 n_loa_rw)
      have lrB2 := Fr.at hF2 lrB1 (nm1 n_lrB_rw)
      have bgB2 := isBag.at bgB1 hF2 (nm1 n_lbB_rw) (nm1 n_lcaB_rw) (nm1 n_loaB_rw)
      have iR2 := bagR.at hI1 hF2 (nm1 n_b_rw) (nm1 n_ca_rw) (nm1 n_oa_rw)
      obtain ⟨if2, it2, iB2, iRp2⟩ := id iR2
      have hrow : rowAt (va_cpy lf rf1 (4 * k) 0 4) 0 = (L[k]).1 := by rw [row_copied, (hLr k _ hx9).1]
      show J X 0 0 g2 46 [(5, .int (nI k)), (4, .int 1), (2, .ref lb), (3, .ref lbB), (0, .ref v), (1, .ref b)] []
      refine j_aload_n hX dX2_makeInto_46 5 rfl ?_
      refine j_aload_n hX dX2_makeInto_47 4 rfl ?_
      refine j_get (v := .ref rw) hX v2 rfl wf_X2 3 (by decide) lk_X2_28 (fun z h => u_same (hX.ts _ wz_12) z h) rfl dX2_makeInto_48 ?_
      refine j_aload_n hX dX2_makeInto_51 2 rfl ?_
      refine j_getN (v := .ref loa) hX bg2.1 rfl wf_X0 1 (by decide) nk_X2_36 (fun _ h => h) rfl dX2_makeInto_52 ?_
      refine j_iload hX dX2_makeInto_55 0 rfl ?_
      refine j_ialdN hX bg2.2.2 (k) (rfl) (by omega) (by decide) dX2_makeInto_57 ?_
      refine j_eqi (y := nI (L[k]).2) ((hLr k _ hx9).2) ?_
      refine j_aload_n hX dX2_makeInto_58 3 rfl ?_
      refine j_aload_n hX dX2_makeInto_59 4 rfl ?_
      refine j_get (v := .ref rw) hX v2 rfl wf_X2 3 (by decide) lk_X2_28 (fun z h => u_same (hX.ts _ wz_12) z h) rfl dX2_makeInto_60 ?_
      refine j_callV (As := [.ref rw]) (rest := [.int (nI (L[k]).2), .ref rw, .ref b]) hX (c_X0_timesOf (xl X) (xK X) g2 lbB lcaB loaB LB.length lfB ltB bgB2 rw _ rw2 (by omega)) bgB2.1 rfl lk_X2_39 wI_X0_timesOf wV_X0_X0_timesOf wN_X0 wC_X0_timesOf hd_X0_timesOf rfl (by rw [hL]; decide) (by decide) rfl (Nat.le_of_ble_eq_true rfl) dX2_makeInto_63 (by rw [hR]; decide) (by rw [hR]; decide) jx_no ?_
      rintro _ _ ⟨rfl, rfl⟩
      show J X 0 0 g2 66 [(5, .int (nI k)), (4, .int 1), (2, .ref lb), (3, .ref lbB), (0, .ref v), (1, .ref b)] [.int (timesAt lfB ltB (va_cpy lf rf1 (4 * k) 0 4) LB.length), .int (nI (L[k]).2), .ref rw, .ref b]
      refine j_eqi (y := nI (tms LB (L[k]).1)) (by rw [timesAt_eq hLrB gLB.1, hrow]) ?_
      refine j_isub hX dX2_makeInto_66 ?_
      refine j_i2l hX dX2_makeInto_67 ?_
      refine j_callV (As := [.ref rw, .long (((nI (L[k]).2) - (nI (tms LB (L[k]).1))).toInt64)]) (rest := []) hX (c_X0_add (xl X) (xK X) g2 b ca oa acc iR2 hGa rw _ rw2 ((nI (L[k]).2 - nI (tms LB (L[k]).1)).toInt64) (((L[k]).2 : Int) - (tms LB (L[k]).1 : Int)) (sub_l hLk.1 (tms_le gLB _)) (by have := tms_le gLB (L[k]).1; omega) (by have := tms_le gLB (L[k]).1; omega)) iB2.1 rfl lk_X2_43 wI_X0_add wV_X0_X0_add wN_X0 wC_X0_add hd_X0_add rfl (by rw [hL]; decide) (by decide) rfl (Nat.le_of_ble_eq_true rfl) dX2_makeInto_68 (by rw [hR]; decide) (by rw [hR]; decide) jx_no ?_
      intro v9 g3 h9
      rw [hrow] at h9
      rcases h8 : addB (L[k]).1 (((L[k]).2 : Int) - (tms LB (L[k]).1 : Int)) acc with _ | B9
      · rw [h8] at h9
        obtain ⟨rfl, rfl⟩ := h9
        show J X 0 0 g2 71 [(5, .int (nI k)), (4, .int 1), (2, .ref lb), (3, .ref lbB), (0, .ref v), (1, .ref b)] [.int 0]
        refine j_istore (lv' := [(4, .int 0), (5, .int (nI k)), (2, .ref lb), (3, .ref lbB), (0, .ref v), (1, .ref b)]) hX dX2_makeInto_71 (by rw [hn]; decide) rfl ?_
        refine j_iinc (v := nI (k + 1)) (lv' := [(5, .int (nI (k + 1))), (4, .int 0), (2, .ref lb), (3, .ref lbB), (0, .ref v), (1, .ref b)]) hX dX2_makeInto_73 1 rfl (nI_1 k) (by rw [hn]; decide) rfl ?_
        refine j_goto hX 22 dX2_makeInto_76 (by decide) ?_
        refine j_iload hX dX2_makeInto_22 0 rfl ?_
        refine j_aload_n hX dX2_makeInto_24 2 rfl ?_
        refine j_getN (v := .int (nI L.length)) hX bg2.1 rfl wf_X0 2 (by decide) nk_X2_22 (fun _ h => h) rfl dX2_makeInto_25 ?_
        refine j_icmp_ge hX 79 dX2_makeInto_28 (by decide) (fun c_28 => ?_) (fun c_28 => ?_)
        · refine j_iload hX dX2_makeInto_79 1 rfl ?_
          exact j_zret hX hE dX2_makeInto_81 (by first | rfl | decide | assumption) (⟨fr2 hF hF2, ⟨_, rw2, trivial⟩, by rw [← hRs, fld_no (q := ((L[k]).1, ((L[k]).2 : Int) - (tms LB (L[k]).1 : Int))) hk9 rfl h8]; exact ⟨rfl, _, _, _, iB2⟩⟩) (by decide) (by decide)
        · refine j_iload hX dX2_makeInto_31 1 rfl ?_
          refine j_if_eq hX 79 dX2_makeInto_33 (by decide) (fun _ => ?_) (fun c_33 => absurd (show (0 : Int32) = 0 from rfl) c_33)
          refine j_iload hX dX2_makeInto_79 1 rfl ?_
          exact j_zret hX hE dX2_makeInto_81 (by first | rfl | decide | assumption) (⟨fr2 hF hF2, ⟨_, rw2, trivial⟩, by rw [← hRs, fld_no (q := ((L[k]).1, ((L[k]).2 : Int) - (tms LB (L[k]).1 : Int))) hk9 rfl h8]; exact ⟨rfl, _, _, _, iB2⟩⟩) (by decide) (by decide)
      · rw [h8] at h9
        obtain ⟨rfl, hB3, hF3⟩ := h9
        show J X 0 0 g3 71 [(5, .int (nI k)), (4, .int 1), (2, .ref lb), (3, .ref lbB), (0, .ref v), (1, .ref b)] [.int 1]
        refine j_istore (lv' := [(4, .int 1), (5, .int (nI k)), (2, .ref lb), (3, .ref lbB), (0, .ref v), (1, .ref b)]) hX dX2_makeInto_71 (by rw [hn]; decide) rfl ?_
        refine j_iinc (v := nI (k + 1)) (lv' := [(5, .int (nI (k + 1))), (4, .int 1), (2, .ref lb), (3, .ref lbB), (0, .ref v), (1, .ref b)]) hX dX2_makeInto_73 1 rfl (nI_1 k) (by rw [hn]; decide) rfl ?_
        refine j_goto hX 22 dX2_makeInto_76 (by decide) ?_
        refine j_sub [0, 1, 2, 3, 4, 5] rfl ?_
        exact ih (k + 1) g3 B9 (by omega) (fr3 hF hF2 hF3) hB3 (addB_good hGa h8) ⟨_, Fr.at hF3 rw2 (nm3 n_b_rw.symm n_ca_rw.symm n_oa_rw.symm), trivial⟩ (by rw [← hRs, fld_yes (q := ((L[k]).1, ((L[k]).2 : Int) - (tms LB (L[k]).1 : Int))) hk9 rfl h8])
  refine j_aload_n hX dX2_makeInto_0 0 rfl ?_
  refine j_get (v := .ref lr) hX hv rfl wf_X2 0 (by decide) lk_X2_7 (fun z h => u_same (hX.ts _ wz_10) z h) rfl dX2_makeInto_1 ?_
  refine j_callV (As := []) (rest := []) hX (c_X6_latest (xl X) (xK X) g lr nw nx p vw cc ch hlr hp) hlr rfl lk_X2_13 wI_X6_latest wV_X6_X6_latest wN_X6 wC_X6_latest hd_X6_latest rfl (by rw [hL]; decide) (by decide) rfl (Nat.le_of_ble_eq_true rfl) dX2_makeInto_4 (by rw [hR]; decide) (by rw [hR]; decide) jx_no ?_
  rintro _ _ ⟨rfl, rfl⟩
  rw [hlb]
  show J X 0 0 g 7 [(0, .ref v), (1, .ref b)] [.ref lb]
  refine j_astore_n (lv' := [(2, .ref lb), (0, .ref v), (1, .ref b)]) hX dX2_makeInto_7 (by rw [hn]; decide) rfl ?_
  refine j_aload_n hX dX2_makeInto_8 1 rfl ?_
  refine j_get (v := .ref lrB) hX hv rfl wf_X2 1 (by decide) lk_X2_19 (fun z h => u_same (hX.ts _ wz_11) z h) rfl dX2_makeInto_9 ?_
  refine j_callV (As := []) (rest := []) hX (c_X6_latest (xl X) (xK X) g lrB nwB nxB pB vwB ccB chB hlrB hpB) hlrB rfl lk_X2_13 wI_X6_latest wV_X6_X6_latest wN_X6 wC_X6_latest hd_X6_latest rfl (by rw [hL]; decide) (by decide) rfl (Nat.le_of_ble_eq_true rfl) dX2_makeInto_12 (by rw [hR]; decide) (by rw [hR]; decide) jx_no ?_
  rintro _ _ ⟨rfl, rfl⟩
  rw [hlbB]
  show J X 0 0 g 15 [(2, .ref lb), (0, .ref v), (1, .ref b)] [.ref lbB]
  refine j_astore_n (lv' := [(3, .ref lbB), (2, .ref lb), (0, .ref v), (1, .ref b)]) hX dX2_makeInto_15 (by rw [hn]; decide) rfl ?_
  refine j_iconst (v := 1) hX dX2_makeInto_16 (by decide) ?_
  refine j_istore (lv' := [(4, .int 1), (3, .ref lbB), (2, .ref lb), (0, .ref v), (1, .ref b)]) hX dX2_makeInto_17 (by rw [hn]; decide) rfl ?_
  refine j_iconst (v := nI 0) hX dX2_makeInto_19 (by decide) ?_
  refine j_istore (lv' := [(5, .int (nI 0)), (4, .int 1), (3, .ref lbB), (2, .ref lb), (0, .ref v), (1, .ref b)]) hX dX2_makeInto_20 (by rw [hn]; decide) rfl ?_
  refine j_sub [0, 1, 3, 2, 4, 5] rfl ?_
  exact loop L.length 0 g [] (by omega) (Fr.rf _ _) hI good_nil ⟨_, hrw, trivial⟩ rfl

