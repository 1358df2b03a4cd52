set_option maxRecDepth 20000 in
set_option maxHeartbeats 600000 in
/-- columns: makeInto -/
theorem c_X1_makeInto (l : Launch) (K : Cst) (g : Wd) (b ca oa rw : Nat) (rf0 : Nat → Int32) (hI : bagR K g b ca oa []) (hrw : g rw = some (aI K 4 rf0)) (v rr ck : Nat) (dp : Int32) (cs : Nat → Option Nat) (hcs : ∀ i, i < 4 → ∀ c, cs i = some c → c < 4) (hck : g ck = some (aI K 4 (fun i => chv (cs i)))) (nck : ck ≠ rw) (lr nw nx p : Nat) (vw : Value) (cc ch : Int32) (hlr : g lr = some (ob 6 [.ref nw, .ref nx, vw, .int cc, .int (nI p), .int ch])) (hp : p < 2 ^ 31) (lb lca loa : Nat) (L : Bg) (hlb : (if 0 < p then nx else nw) = lb) (hL : bagR K g lb lca loa L) (gL : good L) (nb : lb ≠ b) (nca : lca ≠ ca) (noa : loa ≠ oa) (hv : g v = some (ob 1 [.ref lr, .ref rr, .int dp, .ref rw, .ref ck])) : Ct l K yX1_makeInto cX1_makeInto 6 (some .boolean) 4 [.ref v, .ref b] g (mkP K g b ca oa rw (fun _ => True) (fldB (fun x : Row × Nat => some (pickR cs x.1, (x.2 : Int))) L [])) (fun _ _ => False) 0 0 := by
  refine ct_of (by decide) (Nat.le_of_ble_eq_true rfl) ?_
  intro X hl hK hX hE hn hL hR hm
  subst hl; subst hK
  show J X 0 0 g 0 [(0, .ref v), (1, .ref b)] []
  obtain ⟨if0, it0, hI0, hIr⟩ := id hI
  obtain ⟨lf, lt, hbg, hLr⟩ := hL
  have hLn : L.length ≤ 20 := gL.2.1
  have n_v_b : v ≠ b := ne_ob (hv) (hI0.1) (by simp)
  have n_v_ca : v ≠ ca := ne_ob (hv) (hI0.2.1) (by simp)
  have n_v_oa : v ≠ oa := ne_ob (hv) (hI0.2.2) (by simp)
  have n_v_rw : v ≠ rw := ne_ob (hv) (hrw) (by simp)
  have n_lr_b : lr ≠ b := ne_ob (hlr) (hI0.1) (by simp)
  have n_lr_ca : lr ≠ ca := ne_ob (hlr) (hI0.2.1) (by simp)
  have n_lr_oa : lr ≠ oa := ne_ob (hlr) (hI0.2.2) (by simp)
  have n_lr_rw : lr ≠ rw := ne_ob (hlr) (hrw) (by simp)
  have n_lb_b : lb ≠ b := nb
  have n_lb_ca : lb ≠ ca := ne_ob (hbg.1) (hI0.2.1) (by simp)
  have n_lb_oa : lb ≠ oa := ne_ob (hbg.1) (hI0.2.2) (by simp)
  have n_lb_rw : lb ≠ rw := ne_ob (hbg.1) (hrw) (by simp)
  have n_lca_b : lca ≠ b := ne_ob (hbg.2.1) (hI0.1) (by simp)
  have n_lca_ca : lca ≠ ca := nca
  have n_lca_oa : lca ≠ oa := ne_ob (hbg.2.1) (hI0.2.2) (by simp)
  have n_lca_rw : lca ≠ rw := ne_ob (hbg.2.1) (hrw) (by simp)
  have n_loa_b : loa ≠ b := ne_ob (hbg.2.2) (hI0.1) (by simp)
  have n_loa_ca : loa ≠ ca := ne_ob (hbg.2.2) (hI0.2.1) (by simp)
  have n_loa_oa : loa ≠ oa := noa
  have n_loa_rw : loa ≠ rw := ne_ob (hbg.2.2) (hrw) (by simp)
  have n_ck_b : ck ≠ b := ne_ob (hck) (hI0.1) (by simp)
  have n_ck_ca : ck ≠ ca := ne_ob (hck) (hI0.2.1) (by simp)
  have n_ck_oa : ck ≠ oa := ne_ob (hck) (hI0.2.2) (by simp)
  have n_ck_rw : ck ≠ rw := nck
  have n_b_rw : b ≠ rw := ne_ob (hI0.1) hrw (by simp)
  have n_ca_rw : ca ≠ rw := ne_ob (hI0.2.1) hrw (by simp)
  have n_oa_rw : oa ≠ rw := ne_ob (hI0.2.2) hrw (by simp)
  have loop : ∀ (m k : Nat) (g1 : Wd) (acc : Bg), k + m = L.length → Fr g g1 [b, ca, oa, rw] → bagR (xK X) g1 b ca oa acc → good acc → (∃ rf, g1 rw = some (aI (xK X) 4 rf) ∧ (fun _ => True) rf) → fldB (fun x : Row × Nat => some (pickR cs x.1, (x.2 : Int))) (L.drop k) acc = fldB (fun x : Row × Nat => some (pickR cs x.1, (x.2 : Int))) L [] → J X 0 0 g1 13 [(4, .int (nI k)), (3, .int 1), (2, .ref lb), (0, .ref v), (1, .ref b)] [] := by
    intro m
    induction m with
    | zero =>
      intro k g1 acc hk hF hI1 hGa hrwE hRs
      obtain ⟨rf1, rw1, hIr1⟩ := hrwE
      have v1 := Fr.at hF hv (nm4 n_v_b n_v_ca n_v_oa n_v_rw)
      have lr1 := Fr.at hF hlr (nm4 n_lr_b n_lr_ca n_lr_oa n_lr_rw)
      have bg1 := isBag.at hbg hF (nm4 n_lb_b n_lb_ca n_lb_oa n_lb_rw) (nm4 n_lca_b n_lca_ca n_lca_oa n_lca_rw) (nm4 n_loa_b n_loa_ca n_loa_oa n_loa_rw)
      have ck1 := Fr.at hF hck (nm4 n_ck_b n_ck_ca n_ck_oa n_ck_rw)
      refine j_iload hX dX1_makeInto_13 0 rfl ?_
      refine j_aload_n hX dX1_makeInto_15 2 rfl ?_
      refine j_getN (v := .int (nI L.length)) hX bg1.1 rfl wf_X0 2 (by decide) nk_X1_25 (fun _ h => h) rfl dX1_makeInto_16 ?_
      refine j_icmp_ge hX 99 dX1_makeInto_19 (by decide) (fun _ => ?_) (fun c_19 => absurd (nI_le (a := L.length) (b := k) (by omega) (by omega)) c_19)
      refine j_iload_n hX dX1_makeInto_99 1 rfl ?_
      exact j_zret hX hE dX1_makeInto_100 (by first | rfl | decide | assumption) (⟨hF, ⟨rf1, rw1, hIr1⟩, by rw [← hRs, fld_end (by omega)]; exact ⟨rfl, hI1, hGa⟩⟩) (by decide) (by decide)
    | succ m ih =>
      intro k g1 acc hk hF hI1 hGa hrwE hRs
      obtain ⟨rf1, rw1, hIr1⟩ := hrwE
      have hk9 : k < L.length := by omega
      have hx9 : L[k]? = some L[k] := List.getElem?_eq_getElem hk9
      have hLk := Bg_lt gL hk9
      have v1 := Fr.at hF hv (nm4 n_v_b n_v_ca n_v_oa n_v_rw)
      have lr1 := Fr.at hF hlr (nm4 n_lr_b n_lr_ca n_lr_oa n_lr_rw)
      have bg1 := isBag.at hbg hF (nm4 n_lb_b n_lb_ca n_lb_oa n_lb_rw) (nm4 n_lca_b n_lca_ca n_lca_oa n_lca_rw) (nm4 n_loa_b n_loa_ca n_loa_oa n_loa_rw)
      have ck1 := Fr.at hF hck (nm4 n_ck_b n_ck_ca n_ck_oa n_ck_rw)
      have inner : ∀ (m i : Nat) (g2 : Wd) (rf2 : Nat → Int32), i + m = 4 → Fr g1 g2 [rw] → g2 rw = some (aI (xK X) 4 rf2) → (∀ j, j < i → rf2 j = pk1 cs (L[k]).1 j) → J X 0 0 g2 29 [(5, .int (nI i)), (4, .int (nI k)), (3, .int 1), (2, .ref lb), (0, .ref v), (1, .ref b)] [] := by
        intro m
        induction m with
        | zero =>
          intro i g2 rf2 hi hF2 rw2 hpk
          have v2 := Fr.at hF2 v1 (nm1 n_v_rw)
          have lr2 := Fr.at hF2 lr1 (nm1 n_lr_rw)
          have bg2 := isBag.at bg1 hF2 (nm1 n_lb_rw) (nm1 n_lca_rw) (nm1 n_loa_rw)
          have ck2 := Fr.at hF2 ck1 (nm1 n_ck_rw)
          have iR2 := bagR.at hI1 hF2 (nm1 n_b_rw) (nm1 n_ca_rw) (nm1 n_oa_rw)
          obtain ⟨if2, it2, iB2, iRp2⟩ := id iR2
          have hrow : rowAt rf2 0 = pickR cs (L[k]).1 := rowAt_f (fun j hj => by rw [hpk j (by omega)]; rcases (show j = 0 ∨ j = 1 ∨ j = 2 ∨ j = 3 by omega) with rfl | rfl | rfl | rfl <;> rfl)
          refine j_iload hX dX1_makeInto_29 0 rfl ?_
          refine j_iconst (v := nI 4) hX dX1_makeInto_31 (by decide) ?_
          refine j_icmp_ge hX 76 dX1_makeInto_32 (by decide) (fun _ => ?_) (fun c_32 => absurd (nI_le (a := 4) (b := i) (by omega) (by omega)) c_32)
          refine j_aload_n hX dX1_makeInto_76 5 rfl ?_
          refine j_aload_n hX dX1_makeInto_77 4 rfl ?_
          refine j_get (v := .ref rw) hX v2 rfl wf_X1 3 (by decide) lk_X1_31 (fun z h => u_same (hX.ts _ wz_7) z h) rfl dX1_makeInto_78 ?_
          refine j_aload_n hX dX1_makeInto_81 3 rfl ?_
          refine j_getN (v := .ref loa) hX bg2.1 rfl wf_X0 1 (by decide) nk_X1_38 (fun _ h => h) rfl dX1_makeInto_82 ?_
          refine j_iload hX dX1_makeInto_85 1 rfl ?_
          refine j_ialdN hX bg2.2.2 (k) (rfl) (by omega) (by decide) dX1_makeInto_87 ?_
          refine j_eqi (y := nI (L[k]).2) ((hLr k _ hx9).2) ?_
          refine j_i2l hX dX1_makeInto_88 ?_
          refine j_callV (As := [.ref rw, .long ((nI (L[k]).2).toInt64)]) (rest := []) hX (c_X0_add (xl X) (xK X) g2 b ca oa acc iR2 hGa rw _ rw2 ((nI (L[k]).2).toInt64) (((L[k]).2 : Int)) (l_nI (by omega)) (by omega) (by omega)) iB2.1 rfl lk_X1_41 wI_X0_add wV_X0_X0_add wN_X0 wC_X0_add hd_X0_add rfl (by rw [hL]; decide) (by decide) rfl (Nat.le_of_ble_eq_true rfl) dX1_makeInto_89 (by rw [hR]; decide) (by rw [hR]; decide) jx_no ?_
          intro v9 g3 h9
          rw [hrow] at h9
          rcases h8 : addB (pickR cs (L[k]).1) (((L[k]).2 : Int)) acc with _ | B9
          · rw [h8] at h9
            obtain ⟨rfl, rfl⟩ := h9
            show J X 0 0 g2 92 [(5, .int (nI i)), (4, .int (nI k)), (3, .int 1), (2, .ref lb), (0, .ref v), (1, .ref b)] [.int 0]
            refine j_istore_n (lv' := [(3, .int 0), (5, .int (nI i)), (4, .int (nI k)), (2, .ref lb), (0, .ref v), (1, .ref b)]) hX dX1_makeInto_92 (by rw [hn]; decide) rfl ?_
            refine j_iinc (v := nI (k + 1)) (lv' := [(4, .int (nI (k + 1))), (3, .int 0), (5, .int (nI i)), (2, .ref lb), (0, .ref v), (1, .ref b)]) hX dX1_makeInto_93 2 rfl (nI_1 k) (by rw [hn]; decide) rfl ?_
            refine j_goto hX 13 dX1_makeInto_96 (by decide) ?_
            refine j_iload hX dX1_makeInto_13 0 rfl ?_
            refine j_aload_n hX dX1_makeInto_15 3 rfl ?_
            refine j_getN (v := .int (nI L.length)) hX bg2.1 rfl wf_X0 2 (by decide) nk_X1_25 (fun _ h => h) rfl dX1_makeInto_16 ?_
            refine j_icmp_ge hX 99 dX1_makeInto_19 (by decide) (fun c_19 => ?_) (fun c_19 => ?_)
            · refine j_iload_n hX dX1_makeInto_99 1 rfl ?_
              exact j_zret hX hE dX1_makeInto_100 (by first | rfl | decide | assumption) (⟨fr2 hF hF2, ⟨_, rw2, trivial⟩, by rw [← hRs, fld_no (q := (pickR cs (L[k]).1, ((L[k]).2 : Int))) hk9 rfl h8]; exact ⟨rfl, _, _, _, iB2⟩⟩) (by decide) (by decide)
            · refine j_iload_n hX dX1_makeInto_22 1 rfl ?_
              refine j_if_eq hX 99 dX1_makeInto_23 (by decide) (fun _ => ?_) (fun c_23 => absurd (show (0 : Int32) = 0 from rfl) c_23)
              refine j_iload_n hX dX1_makeInto_99 1 rfl ?_
              exact j_zret hX hE dX1_makeInto_100 (by first | rfl | decide | assumption) (⟨fr2 hF hF2, ⟨_, rw2, trivial⟩, by rw [← hRs, fld_no (q := (pickR cs (L[k]).1, ((L[k]).2 : Int))) hk9 rfl h8]; exact ⟨rfl, _, _, _, iB2⟩⟩) (by decide) (by decide)
          · rw [h8] at h9
            obtain ⟨rfl, hB3, hF3⟩ := h9
            show J X 0 0 g3 92 [(5, .int (nI i)), (4, .int (nI k)), (3, .int 1), (2, .ref lb), (0, .ref v), (1, .ref b)] [.int 1]
            refine j_istore_n (lv' := [(3, .int 1), (5, .int (nI i)), (4, .int (nI k)), (2, .ref lb), (0, .ref v), (1, .ref b)]) hX dX1_makeInto_92 (by rw [hn]; decide) rfl ?_
            refine j_iinc (v := nI (k + 1)) (lv' := [(4, .int (nI (k + 1))), (3, .int 1), (5, .int (nI i)), (2, .ref lb), (0, .ref v), (1, .ref b)]) hX dX1_makeInto_93 2 rfl (nI_1 k) (by rw [hn]; decide) rfl ?_
            refine j_goto hX 13 dX1_makeInto_96 (by decide) ?_
            refine j_sub [0, 1, 3, 4, 5] rfl ?_
            exact ih (k + 1) g3 B9 (by omega) (fr3 hF hF2 hF3) hB3 (addB_good hGa h8) ⟨_, Fr.at hF3 rw2 (nm3 n_b_rw.symm n_ca_rw.symm n_oa_rw.symm), trivial⟩ (by rw [← hRs, fld_yes (q := (pickR cs (L[k]).1, ((L[k]).2 : Int))) hk9 rfl h8])
        | succ m ihi =>
          intro i g2 rf2 hi hF2 rw2 hpk
          have v2 := Fr.at hF2 v1 (nm1 n_v_rw)
          have lr2 := Fr.at hF2 lr1 (nm1 n_lr_rw)
          have bg2 := isBag.at bg1 hF2 (nm1 n_lb_rw) (nm1 n_lca_rw) (nm1 n_loa_rw)
          have ck2 := Fr.at hF2 ck1 (nm1 n_ck_rw)
          have iR2 := bagR.at hI1 hF2 (nm1 n_b_rw) (nm1 n_ca_rw) (nm1 n_oa_rw)
          obtain ⟨if2, it2, iB2, iRp2⟩ := id iR2
          rcases hcs9 : cs i with _ | c9
          · refine j_iload hX dX1_makeInto_29 0 rfl ?_
            refine j_iconst (v := nI 4) hX dX1_makeInto_31 (by decide) ?_
            refine j_icmp_ge hX 76 dX1_makeInto_32 (by decide) (fun c_32 => absurd c_32 (nI_ge (a := i) (b := 4) (by omega) (by decide))) (fun _ => ?_)
            refine j_aload_n hX dX1_makeInto_35 4 rfl ?_
            refine j_get (v := .ref rw) hX v2 rfl wf_X1 3 (by decide) lk_X1_31 (fun z h => u_same (hX.ts _ wz_7) z h) rfl dX1_makeInto_36 ?_
            refine j_iload hX dX1_makeInto_39 0 rfl ?_
            refine j_aload_n hX dX1_makeInto_41 4 rfl ?_
            refine j_get (v := .ref ck) hX v2 rfl wf_X1 4 (by decide) lk_X1_9 (fun _ h => h) rfl dX1_makeInto_42 ?_
            refine j_iload hX dX1_makeInto_45 0 rfl ?_
            refine j_ialdN hX ck2 (i) (rfl) (by omega) (by decide) dX1_makeInto_47 ?_
            refine j_eqi (y := (-1)) (by rw [hcs9]; rfl) ?_
            refine j_iconst (v := (-1)) hX dX1_makeInto_48 (by decide) ?_
            refine j_icmp_ne hX 56 dX1_makeInto_49 (by decide) (fun c_49 => absurd c_49 (show ¬ ¬ (-1 : Int32) = -1 from fun q => q rfl)) (fun _ => ?_)
            refine j_iconst (v := 0) hX dX1_makeInto_52 (by decide) ?_
            refine j_goto hX 69 dX1_makeInto_53 (by decide) ?_
            refine j_iastN hX rw2 (i) (rfl) (by omega) (by decide) dX1_makeInto_69 ?_
            obtain ⟨g4, eg4⟩ : ∃ z : Wd, z = up g2 rw (aI (xK X) 4 (upd rf2 (i) 0)) := ⟨_, rfl⟩
            refine j_w eg4.symm ?_
            have H4_v := (congrFun eg4 v).trans ((up_n (n_v_rw)).trans (v2))
            have H4_rw : g4 rw = some (aI (xK X) 4 (upd rf2 (i) 0)) := by rw [eg4]; exact up_s _ _ _
            have H4_b := (congrFun eg4 b).trans ((up_n (n_b_rw)).trans (iB2.1))
            have H4_lr := (congrFun eg4 lr).trans ((up_n (n_lr_rw)).trans (lr2))
            have H4_lb := (congrFun eg4 lb).trans ((up_n (n_lb_rw)).trans (bg2.1))
            have H4_lca := (congrFun eg4 lca).trans ((up_n (n_lca_rw)).trans (bg2.2.1))
            have H4_loa := (congrFun eg4 loa).trans ((up_n (n_loa_rw)).trans (bg2.2.2))
            have H4_ck := (congrFun eg4 ck).trans ((up_n (nck)).trans (ck2))
            refine j_iinc (v := nI (i + 1)) (lv' := [(5, .int (nI (i + 1))), (4, .int (nI k)), (3, .int 1), (2, .ref lb), (0, .ref v), (1, .ref b)]) hX dX1_makeInto_70 0 rfl (nI_1 i) (by rw [hn]; decide) rfl ?_
            refine j_goto hX 29 dX1_makeInto_73 (by decide) ?_
            refine j_sub [0, 1, 2, 3, 4, 5] rfl ?_
            exact ihi (i + 1) g4 (upd rf2 i (0)) (by omega) (hF2.tr (fun q hq => by rw [eg4, up_n (by simpa using hq)])) H4_rw (fun j hj => by
              by_cases e : j = i
              · subst e; rw [pk_us, pk1, hcs9]
              · rw [pk_un e]; exact hpk j (by omega))
          · have hc9 : c9 < 4 := hcs i (by omega) c9 hcs9
            refine j_iload hX dX1_makeInto_29 0 rfl ?_
            refine j_iconst (v := nI 4) hX dX1_makeInto_31 (by decide) ?_
            refine j_icmp_ge hX 76 dX1_makeInto_32 (by decide) (fun c_32 => absurd c_32 (nI_ge (a := i) (b := 4) (by omega) (by decide))) (fun _ => ?_)
            refine j_aload_n hX dX1_makeInto_35 4 rfl ?_
            refine j_get (v := .ref rw) hX v2 rfl wf_X1 3 (by decide) lk_X1_31 (fun z h => u_same (hX.ts _ wz_7) z h) rfl dX1_makeInto_36 ?_
            refine j_iload hX dX1_makeInto_39 0 rfl ?_
            refine j_aload_n hX dX1_makeInto_41 4 rfl ?_
            refine j_get (v := .ref ck) hX v2 rfl wf_X1 4 (by decide) lk_X1_9 (fun _ h => h) rfl dX1_makeInto_42 ?_
            refine j_iload hX dX1_makeInto_45 0 rfl ?_
            refine j_ialdN hX ck2 (i) (rfl) (by omega) (by decide) dX1_makeInto_47 ?_
            refine j_eqi (y := nI c9) (by rw [hcs9]; rfl) ?_
            refine j_iconst (v := (-1)) hX dX1_makeInto_48 (by decide) ?_
            refine j_icmp_ne hX 56 dX1_makeInto_49 (by decide) (fun _ => ?_) (fun c_49 => absurd c_49 (nI_m1ne (c := c9) (by omega)))
            refine j_aload_n hX dX1_makeInto_56 3 rfl ?_
            refine j_iload hX dX1_makeInto_57 1 rfl ?_
            refine j_aload_n hX dX1_makeInto_59 4 rfl ?_
            refine j_get (v := .ref ck) hX v2 rfl wf_X1 4 (by decide) lk_X1_9 (fun _ h => h) rfl dX1_makeInto_60 ?_
            refine j_iload hX dX1_makeInto_63 0 rfl ?_
            refine j_ialdN hX ck2 (i) (rfl) (by omega) (by decide) dX1_makeInto_65 ?_
            refine j_eqi (y := nI c9) (by rw [hcs9]; rfl) ?_
            refine j_callV (As := [.int (nI k), .int (nI c9)]) (rest := [.int (nI i), .ref rw]) hX (c_X0_cellAt (xl X) (xK X) g2 lb lca loa L.length lf lt bg2 k c9 (by omega) hc9) bg2.1 rfl lk_X1_34 wI_X0_cellAt wV_X0_X0_cellAt wN_X0 wC_X0_cellAt hd_X0_cellAt rfl (by rw [hL]; decide) (by decide) rfl (Nat.le_of_ble_eq_true rfl) dX1_makeInto_66 (by rw [hR]; decide) (by rw [hR]; decide) jx_no ?_
            rintro _ _ ⟨rfl, rfl⟩
            show J X 0 0 g2 69 [(5, .int (nI i)), (4, .int (nI k)), (3, .int 1), (2, .ref lb), (0, .ref v), (1, .ref b)] [.int (lf (4 * k + c9)), .int (nI i), .ref rw]
            refine j_eqi (y := cellR (L[k]).1 c9) (rep_cell hLr hk9 hc9) ?_
            refine j_iastN hX rw2 (i) (rfl) (by omega) (by decide) dX1_makeInto_69 ?_
            obtain ⟨g4, eg4⟩ : ∃ z : Wd, z = up g2 rw (aI (xK X) 4 (upd rf2 (i) (cellR (L[k]).1 c9))) := ⟨_, rfl⟩
            refine j_w eg4.symm ?_
            have H4_v := (congrFun eg4 v).trans ((up_n (n_v_rw)).trans (v2))
            have H4_rw : g4 rw = some (aI (xK X) 4 (upd rf2 (i) (cellR (L[k]).1 c9))) := by rw [eg4]; exact up_s _ _ _
            have H4_b := (congrFun eg4 b).trans ((up_n (n_b_rw)).trans (iB2.1))
            have H4_lr := (congrFun eg4 lr).trans ((up_n (n_lr_rw)).trans (lr2))
            have H4_lb := (congrFun eg4 lb).trans ((up_n (n_lb_rw)).trans (bg2.1))
            have H4_lca := (congrFun eg4 lca).trans ((up_n (n_lca_rw)).trans (bg2.2.1))
            have H4_loa := (congrFun eg4 loa).trans ((up_n (n_loa_rw)).trans (bg2.2.2))
            have H4_ck := (congrFun eg4 ck).trans ((up_n (nck)).trans (ck2))
            refine j_iinc (v := nI (i + 1)) (lv' := [(5, .int (nI (i + 1))), (4, .int (nI k)), (3, .int 1), (2, .ref lb), (0, .ref v), (1, .ref b)]) hX dX1_makeInto_70 0 rfl (nI_1 i) (by rw [hn]; decide) rfl ?_
            refine j_goto hX 29 dX1_makeInto_73 (by decide) ?_
            refine j_sub [0, 1, 2, 3, 4, 5] rfl ?_
            exact ihi (i + 1) g4 (upd rf2 i (cellR (L[k]).1 c9)) (by omega) (hF2.tr (fun q hq => by rw [eg4, up_n (by simpa using hq)])) H4_rw (fun j hj => by
              by_cases e : j = i
              · subst e; rw [pk_us, pk1, hcs9]
              · rw [pk_un e]; exact hpk j (by omega))
      refine j_iload hX dX1_makeInto_13 0 rfl ?_
      refine j_aload_n hX dX1_makeInto_15 2 rfl ?_
      refine j_getN (v := .int (nI L.length)) hX bg1.1 rfl wf_X0 2 (by decide) nk_X1_25 (fun _ h => h) rfl dX1_makeInto_16 ?_
      refine j_icmp_ge hX 99 dX1_makeInto_19 (by decide) (fun c_19 => absurd c_19 (nI_ge (a := k) (b := L.length) (by omega) (by omega))) (fun _ => ?_)
      refine j_iload_n hX dX1_makeInto_22 1 rfl ?_
      refine j_if_eq hX 99 dX1_makeInto_23 (by decide) (fun c_23 => absurd c_23 (show ¬ (1 : Int32) = 0 by decide)) (fun _ => ?_)
      refine j_iconst (v := nI 0) hX dX1_makeInto_26 (by decide) ?_
      refine j_istore (lv' := [(5, .int (nI 0)), (4, .int (nI k)), (3, .int 1), (2, .ref lb), (0, .ref v), (1, .ref b)]) hX dX1_makeInto_27 (by rw [hn]; decide) rfl ?_
      exact inner 4 0 g1 rf1 (by omega) (Fr.rf _ _) rw1 (fun j hj => absurd hj (by omega))
  refine j_aload_n hX dX1_makeInto_0 0 rfl ?_
  refine j_get (v := .ref lr) hX hv rfl wf_X1 0 (by decide) lk_X1_15 (fun z h => u_same (hX.ts _ wz_6) z h) rfl dX1_makeInto_1 ?_
  refine j_callV (As := []) (rest := []) hX (c_X6_latest (xl X) (xK X) g lr nw nx p vw cc ch hlr hp) hlr rfl lk_X1_19 wI_X6_latest wV_X6_X6_latest wN_X6 wC_X6_latest hd_X6_latest rfl (by rw [hL]; decide) (by decide) rfl (Nat.le_of_ble_eq_true rfl) dX1_makeInto_4 (by rw [hR]; decide) (by rw [hR]; decide) jx_no ?_
  rintro _ _ ⟨rfl, rfl⟩
  rw [hlb]
  show J X 0 0 g 7 [(0, .ref v), (1, .ref b)] [.ref lb]
  refine j_astore_n (lv' := [(2, .ref lb), (0, .ref v), (1, .ref b)]) hX dX1_makeInto_7 (by rw [hn]; decide) rfl ?_
  refine j_iconst (v := 1) hX dX1_makeInto_8 (by decide) ?_
  refine j_istore_n (lv' := [(3, .int 1), (2, .ref lb), (0, .ref v), (1, .ref b)]) hX dX1_makeInto_9 (by rw [hn]; decide) rfl ?_
  refine j_iconst (v := nI 0) hX dX1_makeInto_10 (by decide) ?_
  refine j_istore (lv' := [(4, .int (nI 0)), (3, .int 1), (2, .ref lb), (0, .ref v), (1, .ref b)]) hX dX1_makeInto_11 (by rw [hn]; decide) rfl ?_
  refine j_sub [0, 1, 2, 3, 4] rfl ?_
  exact loop L.length 0 g [] (by omega) (Fr.rf _ _) hI good_nil ⟨_, hrw, trivial⟩ rfl

