set_option maxRecDepth 20000 in
set_option maxHeartbeats 600000 in
/-- holds(value, against) -/
theorem c_X7_holds (l : Launch) (K : Cst) (g : Wd) (v lr rr rw : Nat) (dp cl th ot : Int32) (cm : Nat) (hv : g v = some (ob 7 [.ref lr, .ref rr, .int dp, .ref rw, .int cl, .int (nI cm), .int th, .int ot])) (hcm : cm ≤ 5) (a x : Int32) : Ct l K yX7_holds cX7_holds 3 (some .boolean) 0 [.ref v, .int a, .int x] g (fun v g' => v = some (.int (b01 (selH cm a x))) ∧ g = g') (fun _ _ => False) 0 0 := by
  refine ct_of (by decide) (Nat.le_of_ble_eq_true rfl) ?_
  intro X hl hK hX hE hn hL hR hm
  subst hl; subst hK
  show J X 0 0 g 0 [(0, .ref v), (1, .int a), (2, .int x)] []
  rcases (show cm = 0 ∨ cm = 1 ∨ cm = 2 ∨ cm = 3 ∨ cm = 4 ∨ cm = 5 by omega) with rfl | rfl | rfl | rfl | rfl | rfl
  · refine j_aload_n hX dX7_holds_0 0 rfl ?_
    refine j_get (v := .int (nI 0)) hX hv rfl wf_X7 5 (by decide) lk_X7_15 (fun _ h => h) rfl dX7_holds_1 ?_
    refine j_tabIn (off := 36) hX 40 dX7_holds_4 (by decide) (by decide) (by decide) (by decide) ?_
    refine j_iload_n hX dX7_holds_40 1 rfl ?_
    refine j_iload_n hX dX7_holds_41 2 rfl ?_
    refine j_icmp_ne hX 49 dX7_holds_42 (by decide) (fun c_42 => ?_) (fun c_42 => ?_)
    · refine j_iconst (v := 0) hX dX7_holds_49 (by decide) ?_
      exact j_zret hX hE dX7_holds_50 (by first | rfl | decide | assumption) (⟨congrArg (fun z => some (Value.int z)) (b01_0 (decide_eq_false c_42)), rfl⟩) (by decide) (by decide)
    · refine j_iconst (v := 1) hX dX7_holds_45 (by decide) ?_
      refine j_goto hX 50 dX7_holds_46 (by decide) ?_
      exact j_zret hX hE dX7_holds_50 (by first | rfl | decide | assumption) (⟨congrArg (fun z => some (Value.int z)) (b01_1 (decide_eq_true c_42)), rfl⟩) (by decide) (by decide)
  · refine j_aload_n hX dX7_holds_0 0 rfl ?_
    refine j_get (v := .int (nI 1)) hX hv rfl wf_X7 5 (by decide) lk_X7_15 (fun _ h => h) rfl dX7_holds_1 ?_
    refine j_tabIn (off := 47) hX 51 dX7_holds_4 (by decide) (by decide) (by decide) (by decide) ?_
    refine j_iload_n hX dX7_holds_51 1 rfl ?_
    refine j_iload_n hX dX7_holds_52 2 rfl ?_
    refine j_icmp_eq hX 60 dX7_holds_53 (by decide) (fun c_53 => ?_) (fun c_53 => ?_)
    · refine j_iconst (v := 0) hX dX7_holds_60 (by decide) ?_
      exact j_zret hX hE dX7_holds_61 (by first | rfl | decide | assumption) (⟨congrArg (fun z => some (Value.int z)) (b01_0 (decide_eq_false (fun q => q c_53))), rfl⟩) (by decide) (by decide)
    · refine j_iconst (v := 1) hX dX7_holds_56 (by decide) ?_
      refine j_goto hX 61 dX7_holds_57 (by decide) ?_
      exact j_zret hX hE dX7_holds_61 (by first | rfl | decide | assumption) (⟨congrArg (fun z => some (Value.int z)) (b01_1 (decide_eq_true c_53)), rfl⟩) (by decide) (by decide)
  · refine j_aload_n hX dX7_holds_0 0 rfl ?_
    refine j_get (v := .int (nI 2)) hX hv rfl wf_X7 5 (by decide) lk_X7_15 (fun _ h => h) rfl dX7_holds_1 ?_
    refine j_tabIn (off := 58) hX 62 dX7_holds_4 (by decide) (by decide) (by decide) (by decide) ?_
    refine j_iload_n hX dX7_holds_62 1 rfl ?_
    refine j_iload_n hX dX7_holds_63 2 rfl ?_
    refine j_icmp_ge hX 71 dX7_holds_64 (by decide) (fun c_64 => ?_) (fun c_64 => ?_)
    · refine j_iconst (v := 0) hX dX7_holds_71 (by decide) ?_
      exact j_zret hX hE dX7_holds_72 (by first | rfl | decide | assumption) (⟨congrArg (fun z => some (Value.int z)) (b01_0 (decide_eq_false (Int32.not_lt.mpr c_64))), rfl⟩) (by decide) (by decide)
    · refine j_iconst (v := 1) hX dX7_holds_67 (by decide) ?_
      refine j_goto hX 72 dX7_holds_68 (by decide) ?_
      exact j_zret hX hE dX7_holds_72 (by first | rfl | decide | assumption) (⟨congrArg (fun z => some (Value.int z)) (b01_1 (decide_eq_true (Int32.not_le.mp c_64))), rfl⟩) (by decide) (by decide)
  · refine j_aload_n hX dX7_holds_0 0 rfl ?_
    refine j_get (v := .int (nI 3)) hX hv rfl wf_X7 5 (by decide) lk_X7_15 (fun _ h => h) rfl dX7_holds_1 ?_
    refine j_tabIn (off := 69) hX 73 dX7_holds_4 (by decide) (by decide) (by decide) (by decide) ?_
    refine j_iload_n hX dX7_holds_73 1 rfl ?_
    refine j_iload_n hX dX7_holds_74 2 rfl ?_
    refine j_icmp_lt hX 82 dX7_holds_75 (by decide) (fun c_75 => ?_) (fun c_75 => ?_)
    · refine j_iconst (v := 0) hX dX7_holds_82 (by decide) ?_
      exact j_zret hX hE dX7_holds_83 (by first | rfl | decide | assumption) (⟨congrArg (fun z => some (Value.int z)) (b01_0 (decide_eq_false (Int32.not_le.mpr c_75))), rfl⟩) (by decide) (by decide)
    · refine j_iconst (v := 1) hX dX7_holds_78 (by decide) ?_
      refine j_goto hX 83 dX7_holds_79 (by decide) ?_
      exact j_zret hX hE dX7_holds_83 (by first | rfl | decide | assumption) (⟨congrArg (fun z => some (Value.int z)) (b01_1 (decide_eq_true (Int32.not_lt.mp c_75))), rfl⟩) (by decide) (by decide)
  · refine j_aload_n hX dX7_holds_0 0 rfl ?_
    refine j_get (v := .int (nI 4)) hX hv rfl wf_X7 5 (by decide) lk_X7_15 (fun _ h => h) rfl dX7_holds_1 ?_
    refine j_tabIn (off := 80) hX 84 dX7_holds_4 (by decide) (by decide) (by decide) (by decide) ?_
    refine j_iload_n hX dX7_holds_84 1 rfl ?_
    refine j_iload_n hX dX7_holds_85 2 rfl ?_
    refine j_icmp_le hX 93 dX7_holds_86 (by decide) (fun c_86 => ?_) (fun c_86 => ?_)
    · refine j_iconst (v := 0) hX dX7_holds_93 (by decide) ?_
      exact j_zret hX hE dX7_holds_94 (by first | rfl | decide | assumption) (⟨congrArg (fun z => some (Value.int z)) (b01_0 (decide_eq_false (Int32.not_lt.mpr c_86))), rfl⟩) (by decide) (by decide)
    · refine j_iconst (v := 1) hX dX7_holds_89 (by decide) ?_
      refine j_goto hX 94 dX7_holds_90 (by decide) ?_
      exact j_zret hX hE dX7_holds_94 (by first | rfl | decide | assumption) (⟨congrArg (fun z => some (Value.int z)) (b01_1 (decide_eq_true (Int32.not_le.mp c_86))), rfl⟩) (by decide) (by decide)
  · refine j_aload_n hX dX7_holds_0 0 rfl ?_
    refine j_get (v := .int (nI 5)) hX hv rfl wf_X7 5 (by decide) lk_X7_15 (fun _ h => h) rfl dX7_holds_1 ?_
    refine j_tabOut hX 95 dX7_holds_4 (by decide) (by decide) ?_
    refine j_iload_n hX dX7_holds_95 1 rfl ?_
    refine j_iload_n hX dX7_holds_96 2 rfl ?_
    refine j_icmp_gt hX 104 dX7_holds_97 (by decide) (fun c_97 => ?_) (fun c_97 => ?_)
    · refine j_iconst (v := 0) hX dX7_holds_104 (by decide) ?_
      exact j_zret hX hE dX7_holds_105 (by first | rfl | decide | assumption) (⟨congrArg (fun z => some (Value.int z)) (b01_0 (decide_eq_false (Int32.not_le.mpr c_97))), rfl⟩) (by decide) (by decide)
    · refine j_iconst (v := 1) hX dX7_holds_100 (by decide) ?_
      refine j_goto hX 105 dX7_holds_101 (by decide) ?_
      exact j_zret hX hE dX7_holds_105 (by first | rfl | decide | assumption) (⟨congrArg (fun z => some (Value.int z)) (b01_1 (decide_eq_true (Int32.not_lt.mp c_97))), rfl⟩) (by decide) (by decide)

set_option maxRecDepth 20000 in
set_option maxHeartbeats 600000 in
/-- selection: makeInto -/
theorem c_X7_makeInto_t (l : Launch) (K : Cst) (g : Wd) (b ca oa rw : Nat) (rf0 : Nat → Int32) (hI : bagR K g b ca oa []) (hrw : g rw = some (aI K 4 rf0)) (v rr : Nat) (dp : Int32) (c cm tc : Nat) (hc4 : c < 4) (hcm : cm ≤ 5) (htc : tc < 4) (lr nw nx p : Nat) (vw : Value) (cc ch : Int32) (hlr : g lr = some (ob 6 [.ref nw, .ref nx, vw, .int cc, .int (nI p), .int ch])) (hp : p < 2 ^ 31) (lb lca loa : Nat) (L : Bg) (hlb : (if 0 < p then nx else nw) = lb) (hL : bagR K g lb lca loa L) (gL : good L) (nb : lb ≠ b) (nca : lca ≠ ca) (noa : loa ≠ oa) (hv : g v = some (ob 7 [.ref lr, .ref rr, .int dp, .ref rw, .int (nI c), .int (nI cm), .int (nI tc), .int 1])) : Ct l K yX7_makeInto cX7_makeInto 6 (some .boolean) 4 [.ref v, .ref b] g (mkP K g b ca oa rw (fun _ => True) (fldB (fun x : Row × Nat => if selH cm (cellR x.1 c) (cellR x.1 tc) = true then some (x.1, (x.2 : Int)) else none) L [])) (fun _ _ => False) 0 0 := by
  refine ct_of (by decide) (Nat.le_of_ble_eq_true rfl) ?_
  intro X hl hK hX hE hn hL hR hm
  subst hl; subst hK
  show J X 0 0 g 0 [(0, .ref v), (1, .ref b)] []
  obtain ⟨if0, it0, hI0, hIr⟩ := id hI
  obtain ⟨lf, lt, hbg, hLr⟩ := hL
  have hLn : L.length ≤ 20 := gL.2.1
  have n_v_b : v ≠ b := ne_ob (hv) (hI0.1) (by simp)
  have n_v_ca : v ≠ ca := ne_ob (hv) (hI0.2.1) (by simp)
  have n_v_oa : v ≠ oa := ne_ob (hv) (hI0.2.2) (by simp)
  have n_v_rw : v ≠ rw := ne_ob (hv) (hrw) (by simp)
  have n_lr_b : lr ≠ b := ne_ob (hlr) (hI0.1) (by simp)
  have n_lr_ca : lr ≠ ca := ne_ob (hlr) (hI0.2.1) (by simp)
  have n_lr_oa : lr ≠ oa := ne_ob (hlr) (hI0.2.2) (by simp)
  have n_lr_rw : lr ≠ rw := ne_ob (hlr) (hrw) (by simp)
  have n_lb_b : lb ≠ b := nb
  have n_lb_ca : lb ≠ ca := ne_ob (hbg.1) (hI0.2.1) (by simp)
  have n_lb_oa : lb ≠ oa := ne_ob (hbg.1) (hI0.2.2) (by simp)
  have n_lb_rw : lb ≠ rw := ne_ob (hbg.1) (hrw) (by simp)
  have n_lca_b : lca ≠ b := ne_ob (hbg.2.1) (hI0.1) (by simp)
  have n_lca_ca : lca ≠ ca := nca
  have n_lca_oa : lca ≠ oa := ne_ob (hbg.2.1) (hI0.2.2) (by simp)
  have n_lca_rw : lca ≠ rw := ne_ob (hbg.2.1) (hrw) (by simp)
  have n_loa_b : loa ≠ b := ne_ob (hbg.2.2) (hI0.1) (by simp)
  have n_loa_ca : loa ≠ ca := ne_ob (hbg.2.2) (hI0.2.1) (by simp)
  have n_loa_oa : loa ≠ oa := noa
  have n_loa_rw : loa ≠ rw := ne_ob (hbg.2.2) (hrw) (by simp)
  have n_b_rw : b ≠ rw := ne_ob (hI0.1) hrw (by simp)
  have n_ca_rw : ca ≠ rw := ne_ob (hI0.2.1) hrw (by simp)
  have n_oa_rw : oa ≠ rw := ne_ob (hI0.2.2) hrw (by simp)
  have loop : ∀ (m k : Nat) (g1 : Wd) (acc : Bg), k + m = L.length → Fr g g1 [b, ca, oa, rw] → bagR (xK X) g1 b ca oa acc → good acc → (∃ rf, g1 rw = some (aI (xK X) 4 rf) ∧ (fun _ => True) rf) → fldB (fun x : Row × Nat => if selH cm (cellR x.1 c) (cellR x.1 tc) = true then some (x.1, (x.2 : Int)) else none) (L.drop k) acc = fldB (fun x : Row × Nat => if selH cm (cellR x.1 c) (cellR x.1 tc) = true then some (x.1, (x.2 : Int)) else none) L [] → J X 0 0 g1 13 [(4, .int (nI k)), (3, .int 1), (2, .ref lb), (0, .ref v), (1, .ref b)] [] := by
    intro m
    induction m with
    | zero =>
      intro k g1 acc hk hF hI1 hGa hrwE hRs
      obtain ⟨rf1, rw1, hIr1⟩ := hrwE
      have v1 := Fr.at hF hv (nm4 n_v_b n_v_ca n_v_oa n_v_rw)
      have lr1 := Fr.at hF hlr (nm4 n_lr_b n_lr_ca n_lr_oa n_lr_rw)
      have bg1 := isBag.at hbg hF (nm4 n_lb_b n_lb_ca n_lb_oa n_lb_rw) (nm4 n_lca_b n_lca_ca n_lca_oa n_lca_rw) (nm4 n_loa_b n_loa_ca n_loa_oa n_loa_rw)
      refine j_iload hX dX7_makeInto_13 0 rfl ?_
      refine j_aload_n hX dX7_makeInto_15 2 rfl ?_
      refine j_getN (v := .int (nI L.length)) hX bg1.1 rfl wf_X0 2 (by decide) nk_X7_35 (fun _ h => h) rfl dX7_makeInto_16 ?_
      refine j_icmp_ge hX 104 dX7_makeInto_19 (by decide) (fun _ => ?_) (fun c_19 => absurd (nI_le (a := L.length) (b := k) (by omega) (by omega)) c_19)
      refine j_iload_n hX dX7_makeInto_104 1 rfl ?_
      exact j_zret hX hE dX7_makeInto_105 (by first | rfl | decide | assumption) (⟨hF, ⟨rf1, rw1, hIr1⟩, by rw [← hRs, fld_end (by omega)]; exact ⟨rfl, hI1, hGa⟩⟩) (by decide) (by decide)
    | succ m ih =>
      intro k g1 acc hk hF hI1 hGa hrwE hRs
      obtain ⟨rf1, rw1, hIr1⟩ := hrwE
      have hk9 : k < L.length := by omega
      have hx9 : L[k]? = some L[k] := List.getElem?_eq_getElem hk9
      have hLk := Bg_lt gL hk9
      have v1 := Fr.at hF hv (nm4 n_v_b n_v_ca n_v_oa n_v_rw)
      have lr1 := Fr.at hF hlr (nm4 n_lr_b n_lr_ca n_lr_oa n_lr_rw)
      have bg1 := isBag.at hbg hF (nm4 n_lb_b n_lb_ca n_lb_oa n_lb_rw) (nm4 n_lca_b n_lca_ca n_lca_oa n_lca_rw) (nm4 n_loa_b n_loa_ca n_loa_oa n_loa_rw)
      refine j_iload hX dX7_makeInto_13 0 rfl ?_
      refine j_aload_n hX dX7_makeInto_15 2 rfl ?_
      refine j_getN (v := .int (nI L.length)) hX bg1.1 rfl wf_X0 2 (by decide) nk_X7_35 (fun _ h => h) rfl dX7_makeInto_16 ?_
      refine j_icmp_ge hX 104 dX7_makeInto_19 (by decide) (fun c_19 => absurd c_19 (nI_ge (a := k) (b := L.length) (by omega) (by omega))) (fun _ => ?_)
      refine j_iload_n hX dX7_makeInto_22 1 rfl ?_
      refine j_if_eq hX 104 dX7_makeInto_23 (by decide) (fun c_23 => absurd c_23 (show ¬ (1 : Int32) = 0 by decide)) (fun _ => ?_)
      refine j_aload_n hX dX7_makeInto_26 3 rfl ?_
      refine j_get (v := .int 1) hX v1 rfl wf_X7 7 (by decide) lk_X7_21 (fun _ h => h) rfl dX7_makeInto_27 ?_
      refine j_if_eq hX 46 dX7_makeInto_30 (by decide) (fun c_30 => absurd c_30 (show ¬ (1 : Int32) = 0 by decide)) (fun _ => ?_)
      refine j_aload_n hX dX7_makeInto_33 2 rfl ?_
      refine j_iload hX dX7_makeInto_34 0 rfl ?_
      refine j_aload_n hX dX7_makeInto_36 3 rfl ?_
      refine j_get (v := .int (nI tc)) hX v1 rfl wf_X7 6 (by decide) lk_X7_18 (fun _ h => h) rfl dX7_makeInto_37 ?_
      refine j_callV (As := [.int (nI k), .int (nI tc)]) (rest := []) hX (c_X0_cellAt (xl X) (xK X) g1 lb lca loa L.length lf lt bg1 k tc (by omega) (by omega)) bg1.1 rfl lk_X7_40 wI_X0_cellAt wV_X0_X0_cellAt wN_X0 wC_X0_cellAt hd_X0_cellAt rfl (by rw [hL]; decide) (by decide) rfl (Nat.le_of_ble_eq_true rfl) dX7_makeInto_40 (by rw [hR]; decide) (by rw [hR]; decide) jx_no ?_
      rintro _ _ ⟨rfl, rfl⟩
      show J X 0 0 g1 43 [(4, .int (nI k)), (3, .int 1), (2, .ref lb), (0, .ref v), (1, .ref b)] [.int (lf (4 * k + tc))]
      refine j_eqi (y := cellR (L[k]).1 tc) (rep_cell hLr hk9 (by omega)) ?_
      refine j_goto hX 50 dX7_makeInto_43 (by decide) ?_
      refine j_istore (lv' := [(5, .int (cellR (L[k]).1 tc)), (4, .int (nI k)), (3, .int 1), (2, .ref lb), (0, .ref v), (1, .ref b)]) hX dX7_makeInto_50 (by rw [hn]; decide) rfl ?_
      refine j_aload_n hX dX7_makeInto_52 4 rfl ?_
      refine j_aload_n hX dX7_makeInto_53 3 rfl ?_
      refine j_iload hX dX7_makeInto_54 1 rfl ?_
      refine j_aload_n hX dX7_makeInto_56 4 rfl ?_
      refine j_get (v := .int (nI c)) hX v1 rfl wf_X7 4 (by decide) lk_X7_9 (fun _ h => h) rfl dX7_makeInto_57 ?_
      refine j_callV (As := [.int (nI k), .int (nI c)]) (rest := [.ref v]) hX (c_X0_cellAt (xl X) (xK X) g1 lb lca loa L.length lf lt bg1 k c (by omega) (by omega)) bg1.1 rfl lk_X7_40 wI_X0_cellAt wV_X0_X0_cellAt wN_X0 wC_X0_cellAt hd_X0_cellAt rfl (by rw [hL]; decide) (by decide) rfl (Nat.le_of_ble_eq_true rfl) dX7_makeInto_60 (by rw [hR]; decide) (by rw [hR]; decide) jx_no ?_
      rintro _ _ ⟨rfl, rfl⟩
      show J X 0 0 g1 63 [(5, .int (cellR (L[k]).1 tc)), (4, .int (nI k)), (3, .int 1), (2, .ref lb), (0, .ref v), (1, .ref b)] [.int (lf (4 * k + c)), .ref v]
      refine j_eqi (y := cellR (L[k]).1 c) (rep_cell hLr hk9 (by omega)) ?_
      refine j_iload hX dX7_makeInto_63 0 rfl ?_
      refine j_callV (As := [.int (cellR (L[k]).1 c), .int (cellR (L[k]).1 tc)]) (rest := []) hX (c_X7_holds (xl X) (xK X) g1 v lr rr rw dp (nI c) (nI tc) 1 cm v1 hcm _ _) v1 rfl lk_X7_44 wI_X7_holds wV_X7_X7_holds wN_X7 wC_X7_holds hd_X7_holds rfl (by rw [hL]; decide) (by decide) rfl (Nat.le_of_ble_eq_true rfl) dX7_makeInto_65 (by rw [hR]; decide) (by rw [hR]; decide) jx_no ?_
      rintro _ _ ⟨rfl, rfl⟩
      show J X 0 0 g1 68 [(5, .int (cellR (L[k]).1 tc)), (4, .int (nI k)), (3, .int 1), (2, .ref lb), (0, .ref v), (1, .ref b)] [.int (b01 (selH cm (cellR (L[k]).1 c) (cellR (L[k]).1 tc)))]
      refine j_if_eq hX 98 dX7_makeInto_68 (by decide) (fun c_68 => ?_) (fun c_68 => ?_)
      · have c68 := b01_f c_68
        refine j_iinc (v := nI (k + 1)) (lv' := [(4, .int (nI (k + 1))), (5, .int (cellR (L[k]).1 tc)), (3, .int 1), (2, .ref lb), (0, .ref v), (1, .ref b)]) hX dX7_makeInto_98 1 rfl (nI_1 k) (by rw [hn]; decide) rfl ?_
        refine j_goto hX 13 dX7_makeInto_101 (by decide) ?_
        refine j_sub [0, 2, 3, 4, 5] rfl ?_
        exact ih (k + 1) g1 acc (by omega) hF hI1 hGa ⟨rf1, rw1, hIr1⟩ (by rw [← hRs, fld_skip hk9 (if_neg c68)])
      · have c68 := b01_t c_68
        refine j_aload_n hX dX7_makeInto_71 3 rfl ?_
        refine j_iload hX dX7_makeInto_72 1 rfl ?_
        refine j_aload_n hX dX7_makeInto_74 4 rfl ?_
        refine j_get (v := .ref rw) hX v1 rfl wf_X7 3 (by decide) lk_X7_48 (fun z h => u_same (hX.ts _ wz_23) z h) rfl dX7_makeInto_75 ?_
        refine j_callV (As := [.int (nI k), .ref rw]) (rest := []) hX (c_X0_readRow (xl X) (xK X) g1 lb lca loa L.length lf lt bg1 rw rf1 rw1 k (by omega)) bg1.1 rfl lk_X7_52 wI_X0_readRow wV_X0_X0_readRow wN_X0 wC_X0_readRow hd_X0_readRow rfl (by rw [hL]; decide) (by decide) rfl (Nat.le_of_ble_eq_true rfl) dX7_makeInto_78 (by rw [hR]; decide) (by rw [hR]; decide) jx_no ?_
        rintro _ g2 ⟨rfl, rw2, hF2⟩
        have v2 := Fr.at hF2 v1 (nm1 n_v_rw)
        have lr2 := Fr.at hF2 lr1 (nm1 n_lr_rw)
        have bg2 := isBag.at bg1 hF2 (nm1 n_lb_rw) (nm1 n_lca_rw) (nm1 n_loa_rw)
        have iR2 := bagR.at hI1 hF2 (nm1 n_b_rw) (nm1 n_ca_rw) (nm1 n_oa_rw)
        obtain ⟨if2, it2, iB2, iRp2⟩ := id iR2
        have hrow : rowAt (va_cpy lf rf1 (4 * k) 0 4) 0 = (L[k]).1 := by rw [row_copied, (hLr k _ hx9).1]
        show J X 0 0 g2 81 [(5, .int (cellR (L[k]).1 tc)), (4, .int (nI k)), (3, .int 1), (2, .ref lb), (0, .ref v), (1, .ref b)] []
        refine j_aload_n hX dX7_makeInto_81 5 rfl ?_
        refine j_aload_n hX dX7_makeInto_82 4 rfl ?_
        refine j_get (v := .ref rw) hX v2 rfl wf_X7 3 (by decide) lk_X7_48 (fun z h => u_same (hX.ts _ wz_23) z h) rfl dX7_makeInto_83 ?_
        refine j_aload_n hX dX7_makeInto_86 3 rfl ?_
        refine j_getN (v := .ref loa) hX bg2.1 rfl wf_X0 1 (by decide) nk_X7_56 (fun _ h => h) rfl dX7_makeInto_87 ?_
        refine j_iload hX dX7_makeInto_90 1 rfl ?_
        refine j_ialdN hX bg2.2.2 (k) (rfl) (by omega) (by decide) dX7_makeInto_92 ?_
        refine j_eqi (y := nI (L[k]).2) ((hLr k _ hx9).2) ?_
        refine j_i2l hX dX7_makeInto_93 ?_
        refine j_callV (As := [.ref rw, .long ((nI (L[k]).2).toInt64)]) (rest := []) hX (c_X0_add (xl X) (xK X) g2 b ca oa acc iR2 hGa rw _ rw2 ((nI (L[k]).2).toInt64) (((L[k]).2 : Int)) (l_nI (by omega)) (by omega) (by omega)) iB2.1 rfl lk_X7_59 wI_X0_add wV_X0_X0_add wN_X0 wC_X0_add hd_X0_add rfl (by rw [hL]; decide) (by decide) rfl (Nat.le_of_ble_eq_true rfl) dX7_makeInto_94 (by rw [hR]; decide) (by rw [hR]; decide) jx_no ?_
        intro v9 g3 h9
        rw [hrow] at h9
        rcases h8 : addB (L[k]).1 (((L[k]).2 : Int)) acc with _ | B9
        · rw [h8] at h9
          obtain ⟨rfl, rfl⟩ := h9
          show J X 0 0 g2 97 [(5, .int (cellR (L[k]).1 tc)), (4, .int (nI k)), (3, .int 1), (2, .ref lb), (0, .ref v), (1, .ref b)] [.int 0]
          refine j_istore_n (lv' := [(3, .int 0), (5, .int (cellR (L[k]).1 tc)), (4, .int (nI k)), (2, .ref lb), (0, .ref v), (1, .ref b)]) hX dX7_makeInto_97 (by rw [hn]; decide) rfl ?_
          refine j_iinc (v := nI (k + 1)) (lv' := [(4, .int (nI (k + 1))), (3, .int 0), (5, .int (cellR (L[k]).1 tc)), (2, .ref lb), (0, .ref v), (1, .ref b)]) hX dX7_makeInto_98 2 rfl (nI_1 k) (by rw [hn]; decide) rfl ?_
          refine j_goto hX 13 dX7_makeInto_101 (by decide) ?_
          refine j_iload hX dX7_makeInto_13 0 rfl ?_
          refine j_aload_n hX dX7_makeInto_15 3 rfl ?_
          refine j_getN (v := .int (nI L.length)) hX bg2.1 rfl wf_X0 2 (by decide) nk_X7_35 (fun _ h => h) rfl dX7_makeInto_16 ?_
          refine j_icmp_ge hX 104 dX7_makeInto_19 (by decide) (fun c_19 => ?_) (fun c_19 => ?_)
          · refine j_iload_n hX dX7_makeInto_104 1 rfl ?_
            exact j_zret hX hE dX7_makeInto_105 (by first | rfl | decide | assumption) (⟨fr2 hF hF2, ⟨_, rw2, trivial⟩, by rw [← hRs, fld_no (q := ((L[k]).1, ((L[k]).2 : Int))) hk9 (if_pos c68) h8]; exact ⟨rfl, _, _, _, iB2⟩⟩) (by decide) (by decide)
          · refine j_iload_n hX dX7_makeInto_22 1 rfl ?_
            refine j_if_eq hX 104 dX7_makeInto_23 (by decide) (fun _ => ?_) (fun c_23 => absurd (show (0 : Int32) = 0 from rfl) c_23)
            refine j_iload_n hX dX7_makeInto_104 1 rfl ?_
            exact j_zret hX hE dX7_makeInto_105 (by first | rfl | decide | assumption) (⟨fr2 hF hF2, ⟨_, rw2, trivial⟩, by rw [← hRs, fld_no (q := ((L[k]).1, ((L[k]).2 : Int))) hk9 (if_pos c68) h8]; exact ⟨rfl, _, _, _, iB2⟩⟩) (by decide) (by decide)
        · rw [h8] at h9
          obtain ⟨rfl, hB3, hF3⟩ := h9
          show J X 0 0 g3 97 [(5, .int (cellR (L[k]).1 tc)), (4, .int (nI k)), (3, .int 1), (2, .ref lb), (0, .ref v), (1, .ref b)] [.int 1]
          refine j_istore_n (lv' := [(3, .int 1), (5, .int (cellR (L[k]).1 tc)), (4, .int (nI k)), (2, .ref lb), (0, .ref v), (1, .ref b)]) hX dX7_makeInto_97 (by rw [hn]; decide) rfl ?_
          refine j_iinc (v := nI (k + 1)) (lv' := [(4, .int (nI (k + 1))), (3, .int 1), (5, .int (cellR (L[k]).1 tc)), (2, .ref lb), (0, .ref v), (1, .ref b)]) hX dX7_makeInto_98 2 rfl (nI_1 k) (by rw [hn]; decide) rfl ?_
          refine j_goto hX 13 dX7_makeInto_101 (by decide) ?_
          refine j_sub [0, 1, 3, 4, 5] rfl ?_
          exact ih (k + 1) g3 B9 (by omega) (fr3 hF hF2 hF3) hB3 (addB_good hGa h8) ⟨_, Fr.at hF3 rw2 (nm3 n_b_rw.symm n_ca_rw.symm n_oa_rw.symm), trivial⟩ (by rw [← hRs, fld_yes (q := ((L[k]).1, ((L[k]).2 : Int))) hk9 (if_pos c68) h8])
  refine j_aload_n hX dX7_makeInto_0 0 rfl ?_
  refine j_get (v := .ref lr) hX hv rfl wf_X7 0 (by decide) lk_X7_25 (fun z h => u_same (hX.ts _ wz_22) z h) rfl dX7_makeInto_1 ?_
  refine j_callV (As := []) (rest := []) hX (c_X6_latest (xl X) (xK X) g lr nw nx p vw cc ch hlr hp) hlr rfl lk_X7_29 wI_X6_latest wV_X6_X6_latest wN_X6 wC_X6_latest hd_X6_latest rfl (by rw [hL]; decide) (by decide) rfl (Nat.le_of_ble_eq_true rfl) dX7_makeInto_4 (by rw [hR]; decide) (by rw [hR]; decide) jx_no ?_
  rintro _ _ ⟨rfl, rfl⟩
  rw [hlb]
  show J X 0 0 g 7 [(0, .ref v), (1, .ref b)] [.ref lb]
  refine j_astore_n (lv' := [(2, .ref lb), (0, .ref v), (1, .ref b)]) hX dX7_makeInto_7 (by rw [hn]; decide) rfl ?_
  refine j_iconst (v := 1) hX dX7_makeInto_8 (by decide) ?_
  refine j_istore_n (lv' := [(3, .int 1), (2, .ref lb), (0, .ref v), (1, .ref b)]) hX dX7_makeInto_9 (by rw [hn]; decide) rfl ?_
  refine j_iconst (v := nI 0) hX dX7_makeInto_10 (by decide) ?_
  refine j_istore (lv' := [(4, .int (nI 0)), (3, .int 1), (2, .ref lb), (0, .ref v), (1, .ref b)]) hX dX7_makeInto_11 (by rw [hn]; decide) rfl ?_
  refine j_sub [0, 1, 2, 3, 4] rfl ?_
  exact loop L.length 0 g [] (by omega) (Fr.rf _ _) hI good_nil ⟨_, hrw, trivial⟩ rfl

set_option maxRecDepth 20000 in
set_option maxHeartbeats 600000 in
/-- selection: makeInto -/
theorem c_X7_makeInto_f (l : Launch) (K : Cst) (g : Wd) (b ca oa rw : Nat) (rf0 : Nat → Int32) (hI : bagR K g b ca oa []) (hrw : g rw = some (aI K 4 rf0)) (v rr : Nat) (dp : Int32) (c cm : Nat) (th : Int32) (hc4 : c < 4) (hcm : cm ≤ 5) (lr nw nx p : Nat) (vw : Value) (cc ch : Int32) (hlr : g lr = some (ob 6 [.ref nw, .ref nx, vw, .int cc, .int (nI p), .int ch])) (hp : p < 2 ^ 31) (lb lca loa : Nat) (L : Bg) (hlb : (if 0 < p then nx else nw) = lb) (hL : bagR K g lb lca loa L) (gL : good L) (nb : lb ≠ b) (nca : lca ≠ ca) (noa : loa ≠ oa) (hv : g v = some (ob 7 [.ref lr, .ref rr, .int dp, .ref rw, .int (nI c), .int (nI cm), .int th, .int 0])) : Ct l K yX7_makeInto cX7_makeInto 6 (some .boolean) 4 [.ref v, .ref b] g (mkP K g b ca oa rw (fun _ => True) (fldB (fun x : Row × Nat => if selH cm (cellR x.1 c) (th) = true then some (x.1, (x.2 : Int)) else none) L [])) (fun _ _ => False) 0 0 := by
  refine ct_of (by decide) (Nat.le_of_ble_eq_true rfl) ?_
  intro X hl hK hX hE hn hL hR hm
  subst hl; subst hK
  show J X 0 0 g 0 [(0, .ref v), (1, .ref b)] []
  obtain ⟨if0, it0, hI0, hIr⟩ := id hI
  obtain ⟨lf, lt, hbg, hLr⟩ := hL
  have hLn : L.length ≤ 20 := gL.2.1
  have n_v_b : v ≠ b := ne_ob (hv) (hI0.1) (by simp)
  have n_v_ca : v ≠ ca := ne_ob (hv) (hI0.2.1) (by simp)
  have n_v_oa : v ≠ oa := ne_ob (hv) (hI0.2.2) (by simp)
  have n_v_rw : v ≠ rw := ne_ob (hv) (hrw) (by simp)
  have n_lr_b : lr ≠ b := ne_ob (hlr) (hI0.1) (by simp)
  have n_lr_ca : lr ≠ ca := ne_ob (hlr) (hI0.2.1) (by simp)
  have n_lr_oa : lr ≠ oa := ne_ob (hlr) (hI0.2.2) (by simp)
  have n_lr_rw : lr ≠ rw := ne_ob (hlr) (hrw) (by simp)
  have n_lb_b : lb ≠ b := nb
  have n_lb_ca : lb ≠ ca := ne_ob (hbg.1) (hI0.2.1) (by simp)
  have n_lb_oa : lb ≠ oa := ne_ob (hbg.1) (hI0.2.2) (by simp)
  have n_lb_rw : lb ≠ rw := ne_ob (hbg.1) (hrw) (by simp)
  have n_lca_b : lca ≠ b := ne_ob (hbg.2.1) (hI0.1) (by simp)
  have n_lca_ca : lca ≠ ca := nca
  have n_lca_oa : lca ≠ oa := ne_ob (hbg.2.1) (hI0.2.2) (by simp)
  have n_lca_rw : lca ≠ rw := ne_ob (hbg.2.1) (hrw) (by simp)
  have n_loa_b : loa ≠ b := ne_ob (hbg.2.2) (hI0.1) (by simp)
  have n_loa_ca : loa ≠ ca := ne_ob (hbg.2.2) (hI0.2.1) (by simp)
  have n_loa_oa : loa ≠ oa := noa
  have n_loa_rw : loa ≠ rw := ne_ob (hbg.2.2) (hrw) (by simp)
  have n_b_rw : b ≠ rw := ne_ob (hI0.1) hrw (by simp)
  have n_ca_rw : ca ≠ rw := ne_ob (hI0.2.1) hrw (by simp)
  have n_oa_rw : oa ≠ rw := ne_ob (hI0.2.2) hrw (by simp)
  have loop : ∀ (m k : Nat) (g1 : Wd) (acc : Bg), k + m = L.length → Fr g g1 [b, ca, oa, rw] → bagR (xK X) g1 b ca oa acc → good acc → (∃ rf, g1 rw = some (aI (xK X) 4 rf) ∧ (fun _ => True) rf) → fldB (fun x : Row × Nat => if selH cm (cellR x.1 c) (th) = true then some (x.1, (x.2 : Int)) else none) (L.drop k) acc = fldB (fun x : Row × Nat => if selH cm (cellR x.1 c) (th) = true then some (x.1, (x.2 : Int)) else none) L [] → J X 0 0 g1 13 [(4, .int (nI k)), (3, .int 1), (2, .ref lb), (0, .ref v), (1, .ref b)] [] := by
    intro m
    induction m with
    | zero =>
      intro k g1 acc hk hF hI1 hGa hrwE hRs
      obtain ⟨rf1, rw1, hIr1⟩ := hrwE
      have v1 := Fr.at hF hv (nm4 n_v_b n_v_ca n_v_oa n_v_rw)
      have lr1 := Fr.at hF hlr (nm4 n_lr_b n_lr_ca n_lr_oa n_lr_rw)
      have bg1 := isBag.at hbg hF (nm4 n_lb_b n_lb_ca n_lb_oa n_lb_rw) (nm4 n_lca_b n_lca_ca n_lca_oa n_lca_rw) (nm4 n_loa_b n_loa_ca n_loa_oa n_loa_rw)
      refine j_iload hX dX7_makeInto_13 0 rfl ?_
      refine j_aload_n hX dX7_makeInto_15 2 rfl ?_
      refine j_getN (v := .int (nI L.length)) hX bg1.1 rfl wf_X0 2 (by decide) nk_X7_35 (fun _ h => h) rfl dX7_makeInto_16 ?_
      refine j_icmp_ge hX 104 dX7_makeInto_19 (by decide) (fun _ => ?_) (fun c_19 => absurd (nI_le (a := L.length) (b := k) (by omega) (by omega)) c_19)
      refine j_iload_n hX dX7_makeInto_104 1 rfl ?_
      exact j_zret hX hE dX7_makeInto_105 (by first | rfl | decide | assumption) (⟨hF, ⟨rf1, rw1, hIr1⟩, by rw [← hRs, fld_end (by omega)]; exact ⟨rfl, hI1, hGa⟩⟩) (by decide) (by decide)
    | succ m ih =>
      intro k g1 acc hk hF hI1 hGa hrwE hRs
      obtain ⟨rf1, rw1, hIr1⟩ := hrwE
      have hk9 : k < L.length := by omega
      have hx9 : L[k]? = some L[k] := List.getElem?_eq_getElem hk9
      have hLk := Bg_lt gL hk9
      have v1 := Fr.at hF hv (nm4 n_v_b n_v_ca n_v_oa n_v_rw)
      have lr1 := Fr.at hF hlr (nm4 n_lr_b n_lr_ca n_lr_oa n_lr_rw)
      have bg1 := isBag.at hbg hF (nm4 n_lb_b n_lb_ca n_lb_oa n_lb_rw) (nm4 n_lca_b n_lca_ca n_lca_oa n_lca_rw) (nm4 n_loa_b n_loa_ca n_loa_oa n_loa_rw)
      refine j_iload hX dX7_makeInto_13 0 rfl ?_
      refine j_aload_n hX dX7_makeInto_15 2 rfl ?_
      refine j_getN (v := .int (nI L.length)) hX bg1.1 rfl wf_X0 2 (by decide) nk_X7_35 (fun _ h => h) rfl dX7_makeInto_16 ?_
      refine j_icmp_ge hX 104 dX7_makeInto_19 (by decide) (fun c_19 => absurd c_19 (nI_ge (a := k) (b := L.length) (by omega) (by omega))) (fun _ => ?_)
      refine j_iload_n hX dX7_makeInto_22 1 rfl ?_
      refine j_if_eq hX 104 dX7_makeInto_23 (by decide) (fun c_23 => absurd c_23 (show ¬ (1 : Int32) = 0 by decide)) (fun _ => ?_)
      refine j_aload_n hX dX7_makeInto_26 3 rfl ?_
      refine j_get (v := .int 0) hX v1 rfl wf_X7 7 (by decide) lk_X7_21 (fun _ h => h) rfl dX7_makeInto_27 ?_
      refine j_if_eq hX 46 dX7_makeInto_30 (by decide) (fun _ => ?_) (fun c_30 => absurd (show (0 : Int32) = 0 from rfl) c_30)
      refine j_aload_n hX dX7_makeInto_46 3 rfl ?_
      refine j_get (v := .int th) hX v1 rfl wf_X7 6 (by decide) lk_X7_18 (fun _ h => h) rfl dX7_makeInto_47 ?_
      refine j_istore (lv' := [(5, .int th), (4, .int (nI k)), (3, .int 1), (2, .ref lb), (0, .ref v), (1, .ref b)]) hX dX7_makeInto_50 (by rw [hn]; decide) rfl ?_
      refine j_aload_n hX dX7_makeInto_52 4 rfl ?_
      refine j_aload_n hX dX7_makeInto_53 3 rfl ?_
      refine j_iload hX dX7_makeInto_54 1 rfl ?_
      refine j_aload_n hX dX7_makeInto_56 4 rfl ?_
      refine j_get (v := .int (nI c)) hX v1 rfl wf_X7 4 (by decide) lk_X7_9 (fun _ h => h) rfl dX7_makeInto_57 ?_
      refine j_callV (As := [.int (nI k), .int (nI c)]) (rest := [.ref v]) hX (c_X0_cellAt (xl X) (xK X) g1 lb lca loa L.length lf lt bg1 k c (by omega) (by omega)) bg1.1 rfl lk_X7_40 wI_X0_cellAt wV_X0_X0_cellAt wN_X0 wC_X0_cellAt hd_X0_cellAt rfl (by rw [hL]; decide) (by decide) rfl (Nat.le_of_ble_eq_true rfl) dX7_makeInto_60 (by rw [hR]; decide) (by rw [hR]; decide) jx_no ?_
      rintro _ _ ⟨rfl, rfl⟩
      show J X 0 0 g1 63 [(5, .int th), (4, .int (nI k)), (3, .int 1), (2, .ref lb), (0, .ref v), (1, .ref b)] [.int (lf (4 * k + c)), .ref v]
      refine j_eqi (y := cellR (L[k]).1 c) (rep_cell hLr hk9 (by omega)) ?_
      refine j_iload hX dX7_makeInto_63 0 rfl ?_
      refine j_callV (As := [.int (cellR (L[k]).1 c), .int th]) (rest := []) hX (c_X7_holds (xl X) (xK X) g1 v lr rr rw dp (nI c) (th) 0 cm v1 hcm _ _) v1 rfl lk_X7_44 wI_X7_holds wV_X7_X7_holds wN_X7 wC_X7_holds hd_X7_holds rfl (by rw [hL]; decide) (by decide) rfl (Nat.le_of_ble_eq_true rfl) dX7_makeInto_65 (by rw [hR]; decide) (by rw [hR]; decide) jx_no ?_
      rintro _ _ ⟨rfl, rfl⟩
      show J X 0 0 g1 68 [(5, .int th), (4, .int (nI k)), (3, .int 1), (2, .ref lb), (0, .ref v), (1, .ref b)] [.int (b01 (selH cm (cellR (L[k]).1 c) (th)))]
      refine j_if_eq hX 98 dX7_makeInto_68 (by decide) (fun c_68 => ?_) (fun c_68 => ?_)
      · have c68 := b01_f c_68
        refine j_iinc (v := nI (k + 1)) (lv' := [(4, .int (nI (k + 1))), (5, .int th), (3, .int 1), (2, .ref lb), (0, .ref v), (1, .ref b)]) hX dX7_makeInto_98 1 rfl (nI_1 k) (by rw [hn]; decide) rfl ?_
        refine j_goto hX 13 dX7_makeInto_101 (by decide) ?_
        refine j_sub [0, 2, 3, 4, 5] rfl ?_
        exact ih (k + 1) g1 acc (by omega) hF hI1 hGa ⟨rf1, rw1, hIr1⟩ (by rw [← hRs, fld_skip hk9 (if_neg c68)])
      · have c68 := b01_t c_68
        refine j_aload_n hX dX7_makeInto_71 3 rfl ?_
        refine j_iload hX dX7_makeInto_72 1 rfl ?_
        refine j_aload_n hX dX7_makeInto_74 4 rfl ?_
        refine j_get (v := .ref rw) hX v1 rfl wf_X7 3 (by decide) lk_X7_48 (fun z h => u_same (hX.ts _ wz_23) z h) rfl dX7_makeInto_75 ?_
        refine j_callV (As := [.int (nI k), .ref rw]) (rest := []) hX (c_X0_readRow (xl X) (xK X) g1 lb lca loa L.length lf lt bg1 rw rf1 rw1 k (by omega)) bg1.1 rfl lk_X7_52 wI_X0_readRow wV_X0_X0_readRow wN_X0 wC_X0_readRow hd_X0_readRow rfl (by rw [hL]; decide) (by decide) rfl (Nat.le_of_ble_eq_true rfl) dX7_makeInto_78 (by rw [hR]; decide) (by rw [hR]; decide) jx_no ?_
        rintro _ g2 ⟨rfl, rw2, hF2⟩
        have v2 := Fr.at hF2 v1 (nm1 n_v_rw)
        have lr2 := Fr.at hF2 lr1 (nm1 n_lr_rw)
        have bg2 := isBag.at bg1 hF2 (nm1 n_lb_rw) (nm1 n_lca_rw) (nm1 n_loa_rw)
        have iR2 := bagR.at hI1 hF2 (nm1 n_b_rw) (nm1 n_ca_rw) (nm1 n_oa_rw)
        obtain ⟨if2, it2, iB2, iRp2⟩ := id iR2
        have hrow : rowAt (va_cpy lf rf1 (4 * k) 0 4) 0 = (L[k]).1 := by rw [row_copied, (hLr k _ hx9).1]
        show J X 0 0 g2 81 [(5, .int th), (4, .int (nI k)), (3, .int 1), (2, .ref lb), (0, .ref v), (1, .ref b)] []
        refine j_aload_n hX dX7_makeInto_81 5 rfl ?_
        refine j_aload_n hX dX7_makeInto_82 4 rfl ?_
        refine j_get (v := .ref rw) hX v2 rfl wf_X7 3 (by decide) lk_X7_48 (fun z h => u_same (hX.ts _ wz_23) z h) rfl dX7_makeInto_83 ?_
        refine j_aload_n hX dX7_makeInto_86 3 rfl ?_
        refine j_getN (v := .ref loa) hX bg2.1 rfl wf_X0 1 (by decide) nk_X7_56 (fun _ h => h) rfl dX7_makeInto_87 ?_
        refine j_iload hX dX7_makeInto_90 1 rfl ?_
        refine j_ialdN hX bg2.2.2 (k) (rfl) (by omega) (by decide) dX7_makeInto_92 ?_
        refine j_eqi (y := nI (L[k]).2) ((hLr k _ hx9).2) ?_
        refine j_i2l hX dX7_makeInto_93 ?_
        refine j_callV (As := [.ref rw, .long ((nI (L[k]).2).toInt64)]) (rest := []) hX (c_X0_add (xl X) (xK X) g2 b ca oa acc iR2 hGa rw _ rw2 ((nI (L[k]).2).toInt64) (((L[k]).2 : Int)) (l_nI (by omega)) (by omega) (by omega)) iB2.1 rfl lk_X7_59 wI_X0_add wV_X0_X0_add wN_X0 wC_X0_add hd_X0_add rfl (by rw [hL]; decide) (by decide) rfl (Nat.le_of_ble_eq_true rfl) dX7_makeInto_94 (by rw [hR]; decide) (by rw [hR]; decide) jx_no ?_
        intro v9 g3 h9
        rw [hrow] at h9
        rcases h8 : addB (L[k]).1 (((L[k]).2 : Int)) acc with _ | B9
        · rw [h8] at h9
          obtain ⟨rfl, rfl⟩ := h9
          show J X 0 0 g2 97 [(5, .int th), (4, .int (nI k)), (3, .int 1), (2, .ref lb), (0, .ref v), (1, .ref b)] [.int 0]
          refine j_istore_n (lv' := [(3, .int 0), (5, .int th), (4, .int (nI k)), (2, .ref lb), (0, .ref v), (1, .ref b)]) hX dX7_makeInto_97 (by rw [hn]; decide) rfl ?_
          refine j_iinc (v := nI (k + 1)) (lv' := [(4, .int (nI (k + 1))), (3, .int 0), (5, .int th), (2, .ref lb), (0, .ref v), (1, .ref b)]) hX dX7_makeInto_98 2 rfl (nI_1 k) (by rw [hn]; decide) rfl ?_
          refine j_goto hX 13 dX7_makeInto_101 (by decide) ?_
          refine j_iload hX dX7_makeInto_13 0 rfl ?_
          refine j_aload_n hX dX7_makeInto_15 3 rfl ?_
          refine j_getN (v := .int (nI L.length)) hX bg2.1 rfl wf_X0 2 (by decide) nk_X7_35 (fun _ h => h) rfl dX7_makeInto_16 ?_
          refine j_icmp_ge hX 104 dX7_makeInto_19 (by decide) (fun c_19 => ?_) (fun c_19 => ?_)
          · refine j_iload_n hX dX7_makeInto_104 1 rfl ?_
            exact j_zret hX hE dX7_makeInto_105 (by first | rfl | decide | assumption) (⟨fr2 hF hF2, ⟨_, rw2, trivial⟩, by rw [← hRs, fld_no (q := ((L[k]).1, ((L[k]).2 : Int))) hk9 (if_pos c68) h8]; exact ⟨rfl, _, _, _, iB2⟩⟩) (by decide) (by decide)
          · refine j_iload_n hX dX7_makeInto_22 1 rfl ?_
            refine j_if_eq hX 104 dX7_makeInto_23 (by decide) (fun _ => ?_) (fun c_23 => absurd (show (0 : Int32) = 0 from rfl) c_23)
            refine j_iload_n hX dX7_makeInto_104 1 rfl ?_
            exact j_zret hX hE dX7_makeInto_105 (by first | rfl | decide | assumption) (⟨fr2 hF hF2, ⟨_, rw2, trivial⟩, by rw [← hRs, fld_no (q := ((L[k]).1, ((L[k]).2 : Int))) hk9 (if_pos c68) h8]; exact ⟨rfl, _, _, _, iB2⟩⟩) (by decide) (by decide)
        · rw [h8] at h9
          obtain ⟨rfl, hB3, hF3⟩ := h9
          show J X 0 0 g3 97 [(5, .int th), (4, .int (nI k)), (3, .int 1), (2, .ref lb), (0, .ref v), (1, .ref b)] [.int 1]
          refine j_istore_n (lv' := [(3, .int 1), (5, .int th), (4, .int (nI k)), (2, .ref lb), (0, .ref v), (1, .ref b)]) hX dX7_makeInto_97 (by rw [hn]; decide) rfl ?_
          refine j_iinc (v := nI (k + 1)) (lv' := [(4, .int (nI (k + 1))), (3, .int 1), (5, .int th), (2, .ref lb), (0, .ref v), (1, .ref b)]) hX dX7_makeInto_98 2 rfl (nI_1 k) (by rw [hn]; decide) rfl ?_
          refine j_goto hX 13 dX7_makeInto_101 (by decide) ?_
          refine j_sub [0, 1, 3, 4, 5] rfl ?_
          exact ih (k + 1) g3 B9 (by omega) (fr3 hF hF2 hF3) hB3 (addB_good hGa h8) ⟨_, Fr.at hF3 rw2 (nm3 n_b_rw.symm n_ca_rw.symm n_oa_rw.symm), trivial⟩ (by rw [← hRs, fld_yes (q := ((L[k]).1, ((L[k]).2 : Int))) hk9 (if_pos c68) h8])
  refine j_aload_n hX dX7_makeInto_0 0 rfl ?_
  refine j_get (v := .ref lr) hX hv rfl wf_X7 0 (by decide) lk_X7_25 (fun z h => u_same (hX.ts _ wz_22) z h) rfl dX7_makeInto_1 ?_
  refine j_callV (As := []) (rest := []) hX (c_X6_latest (xl X) (xK X) g lr nw nx p vw cc ch hlr hp) hlr rfl lk_X7_29 wI_X6_latest wV_X6_X6_latest wN_X6 wC_X6_latest hd_X6_latest rfl (by rw [hL]; decide) (by decide) rfl (Nat.le_of_ble_eq_true rfl) dX7_makeInto_4 (by rw [hR]; decide) (by rw [hR]; decide) jx_no ?_
  rintro _ _ ⟨rfl, rfl⟩
  rw [hlb]
  show J X 0 0 g 7 [(0, .ref v), (1, .ref b)] [.ref lb]
  refine j_astore_n (lv' := [(2, .ref lb), (0, .ref v), (1, .ref b)]) hX dX7_makeInto_7 (by rw [hn]; decide) rfl ?_
  refine j_iconst (v := 1) hX dX7_makeInto_8 (by decide) ?_
  refine j_istore_n (lv' := [(3, .int 1), (2, .ref lb), (0, .ref v), (1, .ref b)]) hX dX7_makeInto_9 (by rw [hn]; decide) rfl ?_
  refine j_iconst (v := nI 0) hX dX7_makeInto_10 (by decide) ?_
  refine j_istore (lv' := [(4, .int (nI 0)), (3, .int 1), (2, .ref lb), (0, .ref v), (1, .ref b)]) hX dX7_makeInto_11 (by rw [hn]; decide) rfl ?_
  refine j_sub [0, 1, 2, 3, 4] rfl ?_
  exact loop L.length 0 g [] (by omega) (Fr.rf _ _) hI good_nil ⟨_, hrw, trivial⟩ rfl

