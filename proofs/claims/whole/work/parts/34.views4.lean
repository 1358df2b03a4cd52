set_option maxRecDepth 20000 in
set_option maxHeartbeats 600000 in
/-- readPair(lefts, i, rights, j) -/
theorem c_X4_readPair (l : Launch) (K : Cst) (g : Wd) (v lr lrB rw c d w nw nx : Nat) (dp pp ch : Int32) (vw : Value) (rf0 : Nat → Int32) (rw0 : g rw = some (aI K 4 rf0)) (v0 : g v = some (ob 4 [.ref lr, .ref lrB, .int dp, .ref rw, .int (nI c), .int (nI d)])) (lr0 : g lr = some (ob 6 [.ref nw, .ref nx, vw, .int (nI w), .int pp, .int ch])) (hw4 : w ≤ 4) (lb lca loa lbB lcaB loaB : Nat) (L LB : Bg) (hL : bagR K g lb lca loa L) (gL : good L) (hLB : bagR K g lbB lcaB loaB LB) (gLB : good LB) (i j : Nat) (hi9 : i < L.length) (hj9 : j < LB.length) : Ct l K yX4_readPair cX4_readPair 6 none 2 [.ref v, .ref lb, .int (nI i), .ref lbB, .int (nI j)] g (fun v9 g' => v9 = none ∧ (∃ rf, g' rw = some (aI K 4 rf) ∧ rowAt rf 0 = pairR w (L[i]).1 (LB[j]).1) ∧ Fr g g' [rw]) (fun _ _ => False) 0 0 := by
  refine ct_of (by decide) (Nat.le_of_ble_eq_true rfl) ?_
  intro X hl hK hX hE hn hL hR hm
  subst hl; subst hK
  show J X 0 0 g 0 [(0, .ref v), (1, .ref lb), (2, .int (nI i)), (3, .ref lbB), (4, .int (nI j))] []
  obtain ⟨lf, lt, bg0, hLr⟩ := hL
  obtain ⟨lfB, ltB, bgB0, hLrB⟩ := hLB
  have hLn := gL.2.1
  have hLnB := gLB.2.1
  have n_v_rw : v ≠ rw := ne_ob (v0) rw0 (by simp)
  have n_lr_rw : lr ≠ rw := ne_ob (lr0) rw0 (by simp)
  have n_lb_rw : lb ≠ rw := ne_ob (bg0.1) rw0 (by simp)
  have n_lca_rw : lca ≠ rw := ne_ob (bg0.2.1) rw0 (by simp)
  have n_loa_rw : loa ≠ rw := ne_ob (bg0.2.2) rw0 (by simp)
  have n_lbB_rw : lbB ≠ rw := ne_ob (bgB0.1) rw0 (by simp)
  have n_lcaB_rw : lcaB ≠ rw := ne_ob (bgB0.2.1) rw0 (by simp)
  have n_loaB_rw : loaB ≠ rw := ne_ob (bgB0.2.2) rw0 (by simp)
  have loop : ∀ (m at9 : Nat) (g1 : Wd) (rf1 : Nat → Int32), at9 + m = 4 → w ≤ at9 → Fr g g1 [rw] → g1 rw = some (aI (xK X) 4 rf1) → (∀ q, q < at9 → rf1 q = pc1 w (L[i]).1 (LB[j]).1 q) → J X 0 0 g1 18 [(5, .int (nI at9)), (0, .ref v), (1, .ref lb), (2, .int (nI i)), (3, .ref lbB), (4, .int (nI j))] [] := by
    intro m
    induction m with
    | zero =>
      intro at9 g1 rf1 hat hw hF rw1 hpk
      have v1 := Fr.at hF v0 (nm1 n_v_rw)
      have lr1 := Fr.at hF lr0 (nm1 n_lr_rw)
      have bg1 := isBag.at bg0 hF (nm1 n_lb_rw) (nm1 n_lca_rw) (nm1 n_loa_rw)
      have bgB1 := isBag.at bgB0 hF (nm1 n_lbB_rw) (nm1 n_lcaB_rw) (nm1 n_loaB_rw)
      refine j_iload hX dX4_readPair_18 0 rfl ?_
      refine j_iconst (v := nI 4) hX dX4_readPair_20 (by decide) ?_
      refine j_icmp_ge hX 53 dX4_readPair_21 (by decide) (fun _ => ?_) (fun c_21 => absurd (nI_le (a := 4) (b := at9) (by omega) (by omega)) c_21)
      exact j_vret hX hE dX4_readPair_53 (⟨rfl, ⟨rf1, rw1, rowAt_f (fun q hq => by rw [hpk q (by omega), cellR_pair hq])⟩, hF⟩) (by decide) (by decide)
    | succ m ih =>
      intro at9 g1 rf1 hat hw hF rw1 hpk
      have v1 := Fr.at hF v0 (nm1 n_v_rw)
      have lr1 := Fr.at hF lr0 (nm1 n_lr_rw)
      have bg1 := isBag.at bg0 hF (nm1 n_lb_rw) (nm1 n_lca_rw) (nm1 n_loa_rw)
      have bgB1 := isBag.at bgB0 hF (nm1 n_lbB_rw) (nm1 n_lcaB_rw) (nm1 n_loaB_rw)
      refine j_iload hX dX4_readPair_18 0 rfl ?_
      refine j_iconst (v := nI 4) hX dX4_readPair_20 (by decide) ?_
      refine j_icmp_ge hX 53 dX4_readPair_21 (by decide) (fun c_21 => absurd c_21 (nI_ge (a := at9) (b := 4) (by omega) (by decide))) (fun _ => ?_)
      refine j_aload_n hX dX4_readPair_24 1 rfl ?_
      refine j_get (v := .ref rw) hX v1 rfl wf_X4 3 (by decide) lk_X4_44 (fun z h => u_same (hX.ts _ wz_19) z h) rfl dX4_readPair_25 ?_
      refine j_iload hX dX4_readPair_28 0 rfl ?_
      refine j_aload_n hX dX4_readPair_30 4 rfl ?_
      refine j_iload hX dX4_readPair_31 5 rfl ?_
      refine j_iload hX dX4_readPair_33 0 rfl ?_
      refine j_aload_n hX dX4_readPair_35 1 rfl ?_
      refine j_get (v := .ref lr) hX v1 rfl wf_X4 0 (by decide) lk_X4_18 (fun z h => u_same (hX.ts _ wz_17) z h) rfl dX4_readPair_36 ?_
      refine j_getN (v := .int (nI w)) hX lr1 rfl wf_X6 3 (by decide) nk_X4_59 (fun _ h => h) rfl dX4_readPair_39 ?_
      refine j_isub hX dX4_readPair_42 ?_
      refine j_eqi (y := nI (at9 - w)) (pk_sub (by omega)) ?_
      refine j_callV (As := [.int (nI j), .int (nI (at9 - w))]) (rest := [.int (nI at9), .ref rw]) hX (c_X0_cellAt (xl X) (xK X) g1 lbB lcaB loaB LB.length lfB ltB bgB1 j (at9 - w) (by omega) (by omega)) bgB1.1 rfl lk_X4_36 wI_X0_cellAt wV_X0_X0_cellAt wN_X0 wC_X0_cellAt hd_X0_cellAt rfl (by rw [hL]; decide) (by decide) rfl (Nat.le_of_ble_eq_true rfl) dX4_readPair_43 (by rw [hR]; decide) (by rw [hR]; decide) jx_no ?_
      rintro _ _ ⟨rfl, rfl⟩
      show J X 0 0 g1 46 [(5, .int (nI at9)), (0, .ref v), (1, .ref lb), (2, .int (nI i)), (3, .ref lbB), (4, .int (nI j))] [.int (lfB (4 * j + (at9 - w))), .int (nI at9), .ref rw]
      refine j_eqi (y := cellR (LB[j]).1 (at9 - w)) (rep_cell hLrB hj9 (by omega)) ?_
      refine j_iastN hX rw1 (at9) (rfl) (by omega) (by decide) dX4_readPair_46 ?_
      obtain ⟨g2, eg2⟩ : ∃ z : Wd, z = up g1 rw (aI (xK X) 4 (upd rf1 (at9) (cellR (LB[j]).1 (at9 - w)))) := ⟨_, rfl⟩
      refine j_w eg2.symm ?_
      have H2_v := (congrFun eg2 v).trans ((up_n (n_v_rw)).trans (v1))
      have H2_rw : g2 rw = some (aI (xK X) 4 (upd rf1 (at9) (cellR (LB[j]).1 (at9 - w)))) := by rw [eg2]; exact up_s _ _ _
      have H2_lr := (congrFun eg2 lr).trans ((up_n (n_lr_rw)).trans (lr1))
      have H2_lb := (congrFun eg2 lb).trans ((up_n (n_lb_rw)).trans (bg1.1))
      have H2_lbB := (congrFun eg2 lbB).trans ((up_n (n_lbB_rw)).trans (bgB1.1))
      refine j_iinc (v := nI (at9 + 1)) (lv' := [(5, .int (nI (at9 + 1))), (0, .ref v), (1, .ref lb), (2, .int (nI i)), (3, .ref lbB), (4, .int (nI j))]) hX dX4_readPair_47 0 rfl (nI_1 at9) (by rw [hn]; decide) rfl ?_
      refine j_goto hX 18 dX4_readPair_50 (by decide) ?_
      refine j_sub [0, 1, 2, 3, 4, 5] rfl ?_
      exact ih (at9 + 1) g2 (upd rf1 at9 (cellR (LB[j]).1 (at9 - w))) (by omega) (by omega) (hF.tr (fun q hq => by rw [eg2, up_n (by simpa using hq)])) H2_rw (fun q hq => by
        by_cases e : q = at9
        · subst e; rw [pk_us, pc1, if_neg (by omega)]
        · rw [pk_un e]; exact hpk q (by omega))
  refine j_aload_n hX dX4_readPair_0 1 rfl ?_
  refine j_iload_n hX dX4_readPair_1 2 rfl ?_
  refine j_aload_n hX dX4_readPair_2 0 rfl ?_
  refine j_get (v := .ref rw) hX v0 rfl wf_X4 3 (by decide) lk_X4_44 (fun z h => u_same (hX.ts _ wz_19) z h) rfl dX4_readPair_3 ?_
  refine j_callV (As := [.int (nI i), .ref rw]) (rest := []) hX (c_X0_readRow (xl X) (xK X) g lb lca loa L.length lf lt bg0 rw rf0 rw0 i (by omega)) bg0.1 rfl lk_X4_55 wI_X0_readRow wV_X0_X0_readRow wN_X0 wC_X0_readRow hd_X0_readRow rfl (by rw [hL]; decide) (by decide) rfl (Nat.le_of_ble_eq_true rfl) dX4_readPair_6 (by rw [hR]; decide) (by rw [hR]; decide) jx_no ?_
  rintro _ g3 ⟨rfl, rw3, hF3⟩
  have v3 := Fr.at hF3 v0 (nm1 n_v_rw)
  have lr3 := Fr.at hF3 lr0 (nm1 n_lr_rw)
  have bg3 := isBag.at bg0 hF3 (nm1 n_lb_rw) (nm1 n_lca_rw) (nm1 n_loa_rw)
  have bgB3 := isBag.at bgB0 hF3 (nm1 n_lbB_rw) (nm1 n_lcaB_rw) (nm1 n_loaB_rw)
  show J X 0 0 g3 9 [(0, .ref v), (1, .ref lb), (2, .int (nI i)), (3, .ref lbB), (4, .int (nI j))] []
  refine j_aload_n hX dX4_readPair_9 0 rfl ?_
  refine j_get (v := .ref lr) hX v3 rfl wf_X4 0 (by decide) lk_X4_18 (fun z h => u_same (hX.ts _ wz_17) z h) rfl dX4_readPair_10 ?_
  refine j_getN (v := .int (nI w)) hX lr3 rfl wf_X6 3 (by decide) nk_X4_59 (fun _ h => h) rfl dX4_readPair_13 ?_
  refine j_istore (lv' := [(5, .int (nI w)), (0, .ref v), (1, .ref lb), (2, .int (nI i)), (3, .ref lbB), (4, .int (nI j))]) hX dX4_readPair_16 (by rw [hn]; decide) rfl ?_
  refine j_sub [0, 1, 2, 3, 4, 5] rfl ?_
  exact loop (4 - w) w g3 _ (by omega) (Nat.le_refl _) hF3 rw3 (fun q hq => by rw [pk_cpy_in (by omega) (by omega), pc1, if_pos hq, ← rep_cell hLr hi9 (by omega)]; exact congrArg lf (by omega))

set_option maxRecDepth 20000 in
set_option maxHeartbeats 600000 in
/-- join: makeInto -/
theorem c_X4_makeInto (l : Launch) (K : Cst) (g : Wd) (b ca oa rw : Nat) (rf0 : Nat → Int32) (hI : bagR K g b ca oa []) (hrw : g rw = some (aI K 4 rf0)) (v : Nat) (dp : Int32) (c d w : Nat) (hc4 : c < 4) (hd4 : d < 4) (hw4 : w ≤ 4) (lr nw nx p : Nat) (vw : Value) (ch : Int32) (hlr : g lr = some (ob 6 [.ref nw, .ref nx, vw, .int (nI w), .int (nI p), .int ch])) (hp : p < 2 ^ 31) (lb lca loa : Nat) (L : Bg) (hlb : (if 0 < p then nx else nw) = lb) (hL : bagR K g lb lca loa L) (gL : good L) (nb : lb ≠ b) (nca : lca ≠ ca) (noa : loa ≠ oa) (lrB nwB nxB pB : Nat) (vwB : Value) (ccB chB : Int32) (hlrB : g lrB = some (ob 6 [.ref nwB, .ref nxB, vwB, .int ccB, .int (nI pB), .int chB])) (hpB : pB < 2 ^ 31) (lbB lcaB loaB : Nat) (LB : Bg) (hlbB : (if 0 < pB then nxB else nwB) = lbB) (hLB : bagR K g lbB lcaB loaB LB) (gLB : good LB) (nbB : lbB ≠ b) (ncaB : lcaB ≠ ca) (noaB : loaB ≠ oa) (hv : g v = some (ob 4 [.ref lr, .ref lrB, .int dp, .ref rw, .int (nI c), .int (nI d)])) : Ct l K yX4_makeInto cX4_makeInto 6 (some .boolean) 4 [.ref v, .ref b] g (mkP K g b ca oa rw (fun _ => True) (fldB (jnF c d w) (prs L LB) [])) (fun _ _ => False) 0 0 := by
  refine ct_of (by decide) (Nat.le_of_ble_eq_true rfl) ?_
  intro X hl hK hX hE hn hL hR hm
  subst hl; subst hK
  show J X 0 0 g 0 [(0, .ref v), (1, .ref b)] []
  obtain ⟨if0, it0, hI0, hIr⟩ := id hI
  obtain ⟨lf, lt, hbg, hLr⟩ := hL
  have hLn : L.length ≤ 20 := gL.2.1
  obtain ⟨lfB, ltB, hbgB, hLrB⟩ := hLB
  have hLnB : LB.length ≤ 20 := gLB.2.1
  have n_v_b : v ≠ b := ne_ob (hv) (hI0.1) (by simp)
  have n_v_ca : v ≠ ca := ne_ob (hv) (hI0.2.1) (by simp)
  have n_v_oa : v ≠ oa := ne_ob (hv) (hI0.2.2) (by simp)
  have n_v_rw : v ≠ rw := ne_ob (hv) (hrw) (by simp)
  have n_lr_b : lr ≠ b := ne_ob (hlr) (hI0.1) (by simp)
  have n_lr_ca : lr ≠ ca := ne_ob (hlr) (hI0.2.1) (by simp)
  have n_lr_oa : lr ≠ oa := ne_ob (hlr) (hI0.2.2) (by simp)
  have n_lr_rw : lr ≠ rw := ne_ob (hlr) (hrw) (by simp)
  have n_lb_b : lb ≠ b := nb
  have n_lb_ca : lb ≠ ca := ne_ob (hbg.1) (hI0.2.1) (by simp)
  have n_lb_oa : lb ≠ oa := ne_ob (hbg.1) (hI0.2.2) (by simp)
  have n_lb_rw : lb ≠ rw := ne_ob (hbg.1) (hrw) (by simp)
  have n_lca_b : lca ≠ b := ne_ob (hbg.2.1) (hI0.1) (by simp)
  have n_lca_ca : lca ≠ ca := nca
  have n_lca_oa : lca ≠ oa := ne_ob (hbg.2.1) (hI0.2.2) (by simp)
  have n_lca_rw : lca ≠ rw := ne_ob (hbg.2.1) (hrw) (by simp)
  have n_loa_b : loa ≠ b := ne_ob (hbg.2.2) (hI0.1) (by simp)
  have n_loa_ca : loa ≠ ca := ne_ob (hbg.2.2) (hI0.2.1) (by simp)
  have n_loa_oa : loa ≠ oa := noa
  have n_loa_rw : loa ≠ rw := ne_ob (hbg.2.2) (hrw) (by simp)
  have n_lrB_b : lrB ≠ b := ne_ob (hlrB) (hI0.1) (by simp)
  have n_lrB_ca : lrB ≠ ca := ne_ob (hlrB) (hI0.2.1) (by simp)
  have n_lrB_oa : lrB ≠ oa := ne_ob (hlrB) (hI0.2.2) (by simp)
  have n_lrB_rw : lrB ≠ rw := ne_ob (hlrB) (hrw) (by simp)
  have n_lbB_b : lbB ≠ b := nbB
  have n_lbB_ca : lbB ≠ ca := ne_ob (hbgB.1) (hI0.2.1) (by simp)
  have n_lbB_oa : lbB ≠ oa := ne_ob (hbgB.1) (hI0.2.2) (by simp)
  have n_lbB_rw : lbB ≠ rw := ne_ob (hbgB.1) (hrw) (by simp)
  have n_lcaB_b : lcaB ≠ b := ne_ob (hbgB.2.1) (hI0.1) (by simp)
  have n_lcaB_ca : lcaB ≠ ca := ncaB
  have n_lcaB_oa : lcaB ≠ oa := ne_ob (hbgB.2.1) (hI0.2.2) (by simp)
  have n_lcaB_rw : lcaB ≠ rw := ne_ob (hbgB.2.1) (hrw) (by simp)
  have n_loaB_b : loaB ≠ b := ne_ob (hbgB.2.2) (hI0.1) (by simp)
  have n_loaB_ca : loaB ≠ ca := ne_ob (hbgB.2.2) (hI0.2.1) (by simp)
  have n_loaB_oa : loaB ≠ oa := noaB
  have n_loaB_rw : loaB ≠ rw := ne_ob (hbgB.2.2) (hrw) (by simp)
  have n_b_rw : b ≠ rw := ne_ob (hI0.1) hrw (by simp)
  have n_ca_rw : ca ≠ rw := ne_ob (hI0.2.1) hrw (by simp)
  have n_oa_rw : oa ≠ rw := ne_ob (hI0.2.2) hrw (by simp)
  have loop : ∀ (m i : Nat) (g1 : Wd) (acc : Bg), i + m = L.length → Fr g g1 [b, ca, oa, rw] → bagR (xK X) g1 b ca oa acc → good acc → (∃ rf, g1 rw = some (aI (xK X) 4 rf) ∧ (fun _ => True) rf) → fldB (jnF c d w) (prs (L.drop i) LB) acc = fldB (jnF c d w) (prs L LB) [] → J X 0 0 g1 19 [(4, .int (nI i)), (3, .ref lbB), (2, .ref lb), (0, .ref v), (1, .ref b)] [] := by
    intro m
    induction m with
    | zero =>
      intro i g1 acc hi hF hI1 hGa hrwE hRs
      obtain ⟨rf1, rw1, hIr1⟩ := hrwE
      have v1 := Fr.at hF hv (nm4 n_v_b n_v_ca n_v_oa n_v_rw)
      have lr1 := Fr.at hF hlr (nm4 n_lr_b n_lr_ca n_lr_oa n_lr_rw)
      have bg1 := isBag.at hbg hF (nm4 n_lb_b n_lb_ca n_lb_oa n_lb_rw) (nm4 n_lca_b n_lca_ca n_lca_oa n_lca_rw) (nm4 n_loa_b n_loa_ca n_loa_oa n_loa_rw)
      have lrB1 := Fr.at hF hlrB (nm4 n_lrB_b n_lrB_ca n_lrB_oa n_lrB_rw)
      have bgB1 := isBag.at hbgB hF (nm4 n_lbB_b n_lbB_ca n_lbB_oa n_lbB_rw) (nm4 n_lcaB_b n_lcaB_ca n_lcaB_oa n_lcaB_rw) (nm4 n_loaB_b n_loaB_ca n_loaB_oa n_loaB_rw)
      refine j_iload hX dX4_makeInto_19 0 rfl ?_
      refine j_aload_n hX dX4_makeInto_21 2 rfl ?_
      refine j_getN (v := .int (nI L.length)) hX bg1.1 rfl wf_X0 2 (by decide) nk_X4_31 (fun _ h => h) rfl dX4_makeInto_22 ?_
      refine j_icmp_ge hX 115 dX4_makeInto_25 (by decide) (fun _ => ?_) (fun c_25 => absurd (nI_le (a := L.length) (b := i) (by omega) (by omega)) c_25)
      refine j_iconst (v := 1) hX dX4_makeInto_115 (by decide) ?_
      exact j_zret hX hE dX4_makeInto_116 (by first | rfl | decide | assumption) (⟨hF, ⟨rf1, rw1, hIr1⟩, by rw [← hRs, List.drop_eq_nil_of_le (by omega)]; exact ⟨rfl, hI1, hGa⟩⟩) (by decide) (by decide)
    | succ m ih =>
      intro i g1 acc hi hF hI1 hGa hrwE hRs
      obtain ⟨rf1, rw1, hIr1⟩ := hrwE
      have hi9 : i < L.length := by omega
      have inner : ∀ (m2 j : Nat) (g1 : Wd) (acc : Bg), j + m2 = LB.length → Fr g g1 [b, ca, oa, rw] → bagR (xK X) g1 b ca oa acc → good acc → (∃ rf, g1 rw = some (aI (xK X) 4 rf) ∧ (fun _ => True) rf) → fldB (jnF c d w) ((LB.drop j).map (fun y => (L[i], y)) ++ prs (L.drop (i + 1)) LB) acc = fldB (jnF c d w) (prs L LB) [] → J X 0 0 g1 31 [(5, .int (nI j)), (4, .int (nI i)), (3, .ref lbB), (2, .ref lb), (0, .ref v), (1, .ref b)] [] := by
        intro m2
        induction m2 with
        | zero =>
          intro j g1 acc hj hF hI1 hGa hrwE hRs
          obtain ⟨rf1, rw1, hIr1⟩ := hrwE
          have v1 := Fr.at hF hv (nm4 n_v_b n_v_ca n_v_oa n_v_rw)
          have lr1 := Fr.at hF hlr (nm4 n_lr_b n_lr_ca n_lr_oa n_lr_rw)
          have bg1 := isBag.at hbg hF (nm4 n_lb_b n_lb_ca n_lb_oa n_lb_rw) (nm4 n_lca_b n_lca_ca n_lca_oa n_lca_rw) (nm4 n_loa_b n_loa_ca n_loa_oa n_loa_rw)
          have lrB1 := Fr.at hF hlrB (nm4 n_lrB_b n_lrB_ca n_lrB_oa n_lrB_rw)
          have bgB1 := isBag.at hbgB hF (nm4 n_lbB_b n_lbB_ca n_lbB_oa n_lbB_rw) (nm4 n_lcaB_b n_lcaB_ca n_lcaB_oa n_lcaB_rw) (nm4 n_loaB_b n_loaB_ca n_loaB_oa n_loaB_rw)
          refine j_iload hX dX4_makeInto_31 0 rfl ?_
          refine j_aload_n hX dX4_makeInto_33 2 rfl ?_
          refine j_getN (v := .int (nI LB.length)) hX bgB1.1 rfl wf_X0 2 (by decide) nk_X4_31 (fun _ h => h) rfl dX4_makeInto_34 ?_
          refine j_icmp_ge hX 109 dX4_makeInto_37 (by decide) (fun _ => ?_) (fun c_37 => absurd (nI_le (a := LB.length) (b := j) (by omega) (by omega)) c_37)
          refine j_iinc (v := nI (i + 1)) (lv' := [(4, .int (nI (i + 1))), (5, .int (nI j)), (3, .ref lbB), (2, .ref lb), (0, .ref v), (1, .ref b)]) hX dX4_makeInto_109 1 rfl (nI_1 i) (by rw [hn]; decide) rfl ?_
          refine j_goto hX 19 dX4_makeInto_112 (by decide) ?_
          refine j_sub [0, 2, 3, 4, 5] rfl ?_
          exact ih (i + 1) g1 acc (by omega) hF hI1 hGa ⟨rf1, rw1, hIr1⟩ (by rw [← hRs, jn_end (by omega)])
        | succ m2 ihi =>
          intro j g1 acc hj hF hI1 hGa hrwE hRs
          obtain ⟨rf1, rw1, hIr1⟩ := hrwE
          have hj9 : j < LB.length := by omega
          have hmu := mul_l (Bg_lt gL hi9).1 (Bg_lt gLB hj9).1
          have v1 := Fr.at hF hv (nm4 n_v_b n_v_ca n_v_oa n_v_rw)
          have lr1 := Fr.at hF hlr (nm4 n_lr_b n_lr_ca n_lr_oa n_lr_rw)
          have bg1 := isBag.at hbg hF (nm4 n_lb_b n_lb_ca n_lb_oa n_lb_rw) (nm4 n_lca_b n_lca_ca n_lca_oa n_lca_rw) (nm4 n_loa_b n_loa_ca n_loa_oa n_loa_rw)
          have lrB1 := Fr.at hF hlrB (nm4 n_lrB_b n_lrB_ca n_lrB_oa n_lrB_rw)
          have bgB1 := isBag.at hbgB hF (nm4 n_lbB_b n_lbB_ca n_lbB_oa n_lbB_rw) (nm4 n_lcaB_b n_lcaB_ca n_lcaB_oa n_lcaB_rw) (nm4 n_loaB_b n_loaB_ca n_loaB_oa n_loaB_rw)
          refine j_iload hX dX4_makeInto_31 0 rfl ?_
          refine j_aload_n hX dX4_makeInto_33 2 rfl ?_
          refine j_getN (v := .int (nI LB.length)) hX bgB1.1 rfl wf_X0 2 (by decide) nk_X4_31 (fun _ h => h) rfl dX4_makeInto_34 ?_
          refine j_icmp_ge hX 109 dX4_makeInto_37 (by decide) (fun c_37 => absurd c_37 (nI_ge (a := j) (b := LB.length) (by omega) (by omega))) (fun _ => ?_)
          refine j_aload_n hX dX4_makeInto_40 3 rfl ?_
          refine j_iload hX dX4_makeInto_41 1 rfl ?_
          refine j_aload_n hX dX4_makeInto_43 4 rfl ?_
          refine j_get (v := .int (nI c)) hX v1 rfl wf_X4 4 (by decide) lk_X4_9 (fun _ h => h) rfl dX4_makeInto_44 ?_
          refine j_callV (As := [.int (nI i), .int (nI c)]) (rest := []) hX (c_X0_cellAt (xl X) (xK X) g1 lb lca loa L.length lf lt bg1 i c (by omega) (by omega)) bg1.1 rfl lk_X4_36 wI_X0_cellAt wV_X0_X0_cellAt wN_X0 wC_X0_cellAt hd_X0_cellAt rfl (by rw [hL]; decide) (by decide) rfl (Nat.le_of_ble_eq_true rfl) dX4_makeInto_47 (by rw [hR]; decide) (by rw [hR]; decide) jx_no ?_
          rintro _ _ ⟨rfl, rfl⟩
          show J X 0 0 g1 50 [(5, .int (nI j)), (4, .int (nI i)), (3, .ref lbB), (2, .ref lb), (0, .ref v), (1, .ref b)] [.int (lf (4 * i + c))]
          refine j_eqi (y := cellR (L[i]).1 c) (rep_cell hLr hi9 (by omega)) ?_
          refine j_aload_n hX dX4_makeInto_50 2 rfl ?_
          refine j_iload hX dX4_makeInto_51 0 rfl ?_
          refine j_aload_n hX dX4_makeInto_53 4 rfl ?_
          refine j_get (v := .int (nI d)) hX v1 rfl wf_X4 5 (by decide) lk_X4_15 (fun _ h => h) rfl dX4_makeInto_54 ?_
          refine j_callV (As := [.int (nI j), .int (nI d)]) (rest := [.int (cellR (L[i]).1 c)]) hX (c_X0_cellAt (xl X) (xK X) g1 lbB lcaB loaB LB.length lfB ltB bgB1 j d (by omega) (by omega)) bgB1.1 rfl lk_X4_36 wI_X0_cellAt wV_X0_X0_cellAt wN_X0 wC_X0_cellAt hd_X0_cellAt rfl (by rw [hL]; decide) (by decide) rfl (Nat.le_of_ble_eq_true rfl) dX4_makeInto_57 (by rw [hR]; decide) (by rw [hR]; decide) jx_no ?_
          rintro _ _ ⟨rfl, rfl⟩
          show J X 0 0 g1 60 [(5, .int (nI j)), (4, .int (nI i)), (3, .ref lbB), (2, .ref lb), (0, .ref v), (1, .ref b)] [.int (lfB (4 * j + d)), .int (cellR (L[i]).1 c)]
          refine j_eqi (y := cellR (LB[j]).1 d) (rep_cell hLrB hj9 (by omega)) ?_
          refine j_icmp_ne hX 103 dX4_makeInto_60 (by decide) (fun c_60 => ?_) (fun c_60 => ?_)
          · refine j_iinc (v := nI (j + 1)) (lv' := [(5, .int (nI (j + 1))), (4, .int (nI i)), (3, .ref lbB), (2, .ref lb), (0, .ref v), (1, .ref b)]) hX dX4_makeInto_103 0 rfl (nI_1 j) (by rw [hn]; decide) rfl ?_
            refine j_goto hX 31 dX4_makeInto_106 (by decide) ?_
            refine j_sub [0, 1, 2, 3, 4, 5] rfl ?_
            exact ihi (j + 1) g1 acc (by omega) hF hI1 hGa ⟨rf1, rw1, hIr1⟩ (by rw [← hRs, jn_skip hj9 c_60])
          · refine j_aload_n hX dX4_makeInto_63 4 rfl ?_
            refine j_aload_n hX dX4_makeInto_64 3 rfl ?_
            refine j_iload hX dX4_makeInto_65 1 rfl ?_
            refine j_aload_n hX dX4_makeInto_67 2 rfl ?_
            refine j_iload hX dX4_makeInto_68 0 rfl ?_
            refine j_callV (As := [.ref lb, .int (nI i), .ref lbB, .int (nI j)]) (rest := []) hX (c_X4_readPair (xl X) (xK X) g1 v lr lrB rw c d w nw nx dp (nI p) ch vw rf1 rw1 v1 lr1 (by omega) lb lca loa lbB lcaB loaB L LB ⟨lf, lt, bg1, hLr⟩ gL ⟨lfB, ltB, bgB1, hLrB⟩ gLB i j hi9 hj9) v1 rfl lk_X4_40 wI_X4_readPair wV_X4_X4_readPair wN_X4 wC_X4_readPair hd_X4_readPair rfl (by rw [hL]; decide) (by decide) rfl (Nat.le_of_ble_eq_true rfl) dX4_makeInto_70 (by rw [hR]; decide) (by rw [hR]; decide) jx_no ?_
            rintro _ g2 ⟨rfl, ⟨rf2, rw2, hrow⟩, hF2⟩
            have v2 := Fr.at hF2 v1 (nm1 n_v_rw)
            have lr2 := Fr.at hF2 lr1 (nm1 n_lr_rw)
            have bg2 := isBag.at bg1 hF2 (nm1 n_lb_rw) (nm1 n_lca_rw) (nm1 n_loa_rw)
            have lrB2 := Fr.at hF2 lrB1 (nm1 n_lrB_rw)
            have bgB2 := isBag.at bgB1 hF2 (nm1 n_lbB_rw) (nm1 n_lcaB_rw) (nm1 n_loaB_rw)
            have iR2 := bagR.at hI1 hF2 (nm1 n_b_rw) (nm1 n_ca_rw) (nm1 n_oa_rw)
            obtain ⟨if2, it2, iB2, iRp2⟩ := id iR2
            show J X 0 0 g2 73 [(5, .int (nI j)), (4, .int (nI i)), (3, .ref lbB), (2, .ref lb), (0, .ref v), (1, .ref b)] []
            refine j_aload_n hX dX4_makeInto_73 5 rfl ?_
            refine j_aload_n hX dX4_makeInto_74 4 rfl ?_
            refine j_get (v := .ref rw) hX v2 rfl wf_X4 3 (by decide) lk_X4_44 (fun z h => u_same (hX.ts _ wz_19) z h) rfl dX4_makeInto_75 ?_
            refine j_aload_n hX dX4_makeInto_78 3 rfl ?_
            refine j_getN (v := .ref loa) hX bg2.1 rfl wf_X0 1 (by decide) nk_X4_48 (fun _ h => h) rfl dX4_makeInto_79 ?_
            refine j_iload hX dX4_makeInto_82 1 rfl ?_
            refine j_ialdN hX bg2.2.2 (i) (rfl) (by omega) (by decide) dX4_makeInto_84 ?_
            refine j_eqi (y := nI (L[i]).2) ((hLr i _ (List.getElem?_eq_getElem hi9)).2) ?_
            refine j_i2l hX dX4_makeInto_85 ?_
            refine j_aload_n hX dX4_makeInto_86 2 rfl ?_
            refine j_getN (v := .ref loaB) hX bgB2.1 rfl wf_X0 1 (by decide) nk_X4_48 (fun _ h => h) rfl dX4_makeInto_87 ?_
            refine j_iload hX dX4_makeInto_90 0 rfl ?_
            refine j_ialdN hX bgB2.2.2 (j) (rfl) (by omega) (by decide) dX4_makeInto_92 ?_
            refine j_eqi (y := nI (LB[j]).2) ((hLrB j _ (List.getElem?_eq_getElem hj9)).2) ?_
            refine j_i2l hX dX4_makeInto_93 ?_
            refine j_lmul hX dX4_makeInto_94 ?_
            refine j_callV (As := [.ref rw, .long (((nI (L[i]).2).toInt64) * ((nI (LB[j]).2).toInt64))]) (rest := []) hX (c_X0_add (xl X) (xK X) g2 b ca oa acc iR2 hGa rw _ rw2 ((nI (L[i]).2).toInt64 * (nI (LB[j]).2).toInt64) (((L[i]).2 : Int) * ((LB[j]).2 : Int)) hmu.1 (by omega) (by omega)) iB2.1 rfl lk_X4_51 wI_X0_add wV_X0_X0_add wN_X0 wC_X0_add hd_X0_add rfl (by rw [hL]; decide) (by decide) rfl (Nat.le_of_ble_eq_true rfl) dX4_makeInto_95 (by rw [hR]; decide) (by rw [hR]; decide) jx_no ?_
            intro v9 g3 h9
            rw [hrow] at h9
            rcases h8 : addB (pairR w (L[i]).1 (LB[j]).1) (((L[i]).2 : Int) * ((LB[j]).2 : Int)) acc with _ | B9
            · rw [h8] at h9
              obtain ⟨rfl, rfl⟩ := h9
              show J X 0 0 g2 98 [(5, .int (nI j)), (4, .int (nI i)), (3, .ref lbB), (2, .ref lb), (0, .ref v), (1, .ref b)] [.int 0]
              refine j_if_ne hX 103 dX4_makeInto_98 (by decide) (fun c_98 => absurd c_98 (show ¬ ¬ (0 : Int32) = 0 from fun q => q rfl)) (fun _ => ?_)
              refine j_iconst (v := 0) hX dX4_makeInto_101 (by decide) ?_
              exact j_zret hX hE dX4_makeInto_102 (by first | rfl | decide | assumption) (⟨fr2 hF hF2, ⟨_, rw2, trivial⟩, by rw [← hRs, jn_no hj9 c_60 h8]; exact ⟨rfl, _, _, _, iB2⟩⟩) (by decide) (by decide)
            · rw [h8] at h9
              obtain ⟨rfl, hB3, hF3⟩ := h9
              show J X 0 0 g3 98 [(5, .int (nI j)), (4, .int (nI i)), (3, .ref lbB), (2, .ref lb), (0, .ref v), (1, .ref b)] [.int 1]
              refine j_if_ne hX 103 dX4_makeInto_98 (by decide) (fun _ => ?_) (fun c_98 => absurd c_98 (show ¬ (1 : Int32) = 0 by decide))
              refine j_iinc (v := nI (j + 1)) (lv' := [(5, .int (nI (j + 1))), (4, .int (nI i)), (3, .ref lbB), (2, .ref lb), (0, .ref v), (1, .ref b)]) hX dX4_makeInto_103 0 rfl (nI_1 j) (by rw [hn]; decide) rfl ?_
              refine j_goto hX 31 dX4_makeInto_106 (by decide) ?_
              refine j_sub [0, 1, 2, 3, 4, 5] rfl ?_
              exact ihi (j + 1) g3 B9 (by omega) (fr3 hF hF2 hF3) hB3 (addB_good hGa h8) ⟨_, Fr.at hF3 rw2 (nm3 n_b_rw.symm n_ca_rw.symm n_oa_rw.symm), trivial⟩ (by rw [← hRs, jn_yes hj9 c_60 h8])
      have v1 := Fr.at hF hv (nm4 n_v_b n_v_ca n_v_oa n_v_rw)
      have lr1 := Fr.at hF hlr (nm4 n_lr_b n_lr_ca n_lr_oa n_lr_rw)
      have bg1 := isBag.at hbg hF (nm4 n_lb_b n_lb_ca n_lb_oa n_lb_rw) (nm4 n_lca_b n_lca_ca n_lca_oa n_lca_rw) (nm4 n_loa_b n_loa_ca n_loa_oa n_loa_rw)
      have lrB1 := Fr.at hF hlrB (nm4 n_lrB_b n_lrB_ca n_lrB_oa n_lrB_rw)
      have bgB1 := isBag.at hbgB hF (nm4 n_lbB_b n_lbB_ca n_lbB_oa n_lbB_rw) (nm4 n_lcaB_b n_lcaB_ca n_lcaB_oa n_lcaB_rw) (nm4 n_loaB_b n_loaB_ca n_loaB_oa n_loaB_rw)
      refine j_iload hX dX4_makeInto_19 0 rfl ?_
      refine j_aload_n hX dX4_makeInto_21 2 rfl ?_
      refine j_getN (v := .int (nI L.length)) hX bg1.1 rfl wf_X0 2 (by decide) nk_X4_31 (fun _ h => h) rfl dX4_makeInto_22 ?_
      refine j_icmp_ge hX 115 dX4_makeInto_25 (by decide) (fun c_25 => absurd c_25 (nI_ge (a := i) (b := L.length) (by omega) (by omega))) (fun _ => ?_)
      refine j_iconst (v := nI 0) hX dX4_makeInto_28 (by decide) ?_
      refine j_istore (lv' := [(5, .int (nI 0)), (4, .int (nI i)), (3, .ref lbB), (2, .ref lb), (0, .ref v), (1, .ref b)]) hX dX4_makeInto_29 (by rw [hn]; decide) rfl ?_
      exact inner LB.length 0 g1 acc (by omega) hF hI1 hGa ⟨rf1, rw1, hIr1⟩ (by rw [← hRs, prs_drop hi9])
  refine j_aload_n hX dX4_makeInto_0 0 rfl ?_
  refine j_get (v := .ref lr) hX hv rfl wf_X4 0 (by decide) lk_X4_18 (fun z h => u_same (hX.ts _ wz_17) z h) rfl dX4_makeInto_1 ?_
  refine j_callV (As := []) (rest := []) hX (c_X6_latest (xl X) (xK X) g lr nw nx p vw (nI w) ch hlr hp) hlr rfl lk_X4_22 wI_X6_latest wV_X6_X6_latest wN_X6 wC_X6_latest hd_X6_latest rfl (by rw [hL]; decide) (by decide) rfl (Nat.le_of_ble_eq_true rfl) dX4_makeInto_4 (by rw [hR]; decide) (by rw [hR]; decide) jx_no ?_
  rintro _ _ ⟨rfl, rfl⟩
  rw [hlb]
  show J X 0 0 g 7 [(0, .ref v), (1, .ref b)] [.ref lb]
  refine j_astore_n (lv' := [(2, .ref lb), (0, .ref v), (1, .ref b)]) hX dX4_makeInto_7 (by rw [hn]; decide) rfl ?_
  refine j_aload_n hX dX4_makeInto_8 1 rfl ?_
  refine j_get (v := .ref lrB) hX hv rfl wf_X4 1 (by decide) lk_X4_28 (fun z h => u_same (hX.ts _ wz_18) z h) rfl dX4_makeInto_9 ?_
  refine j_callV (As := []) (rest := []) hX (c_X6_latest (xl X) (xK X) g lrB nwB nxB pB vwB ccB chB hlrB hpB) hlrB rfl lk_X4_22 wI_X6_latest wV_X6_X6_latest wN_X6 wC_X6_latest hd_X6_latest rfl (by rw [hL]; decide) (by decide) rfl (Nat.le_of_ble_eq_true rfl) dX4_makeInto_12 (by rw [hR]; decide) (by rw [hR]; decide) jx_no ?_
  rintro _ _ ⟨rfl, rfl⟩
  rw [hlbB]
  show J X 0 0 g 15 [(2, .ref lb), (0, .ref v), (1, .ref b)] [.ref lbB]
  refine j_astore_n (lv' := [(3, .ref lbB), (2, .ref lb), (0, .ref v), (1, .ref b)]) hX dX4_makeInto_15 (by rw [hn]; decide) rfl ?_
  refine j_iconst (v := nI 0) hX dX4_makeInto_16 (by decide) ?_
  refine j_istore (lv' := [(4, .int (nI 0)), (3, .ref lbB), (2, .ref lb), (0, .ref v), (1, .ref b)]) hX dX4_makeInto_17 (by rw [hn]; decide) rfl ?_
  exact loop L.length 0 g [] (by omega) (Fr.rf _ _) hI good_nil ⟨_, hrw, trivial⟩ rfl

