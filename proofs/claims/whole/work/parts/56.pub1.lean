set_option maxRecDepth 20000 in
set_option maxHeartbeats 600000 in
/-- once -/
theorem c_X10_once (l : Launch) (K : Cst) (g : Wd) (hlt : l.stackTraces = false) (x : Nat) (A : Ab) (Y : Lt) (ch : Nat → Int32) (N : Nat → Bg) (hC : CS K g x A Y ch (fun _ => 0) N) (hI : Inv A) (v ofr : Int32) : Ct l K yX10_once cX10_once 5 none 9 [.ref x, .int v, .int ofr] g (PostG K x (onceO A v ofr)) (XG K x (onceO A v ofr)) 7 38 := by
  refine ct_of (by decide) (Nat.le_of_ble_eq_true rfl) ?_
  intro X hl hK hX hE hn hL hR hm
  subst hl; subst hK
  show J X 0 0 g 0 [(0, .ref x), (1, .int v), (2, .int ofr)] []
  refine j_aload_n hX dX10_once_0 0 rfl ?_
  refine j_iload_n hX dX10_once_1 1 rfl ?_
  refine j_callV (As := [.int v]) (rest := []) hX (c_X10_placeAt (xl X) (xK X) g hlt x (yra Y) (yta Y) (yR Y) hC.1 v) hC.1.1 rfl lk_X10_20 wI_X10_placeAt wV_X10_X10_placeAt wN_X10 wC_X10_placeAt hd_X10_placeAt rfl (by rw [hL]; decide) (by decide) rfl (Nat.le_of_ble_eq_true rfl) dX10_once_2 (by rw [hR]; decide) (by rw [hR]; decide) (fun E g9 h9 => jx_out hX hE ⟨1, A, by decide, h9.1, Or.inl ⟨rfl, fun q => h9.2.2 q.1, rfl⟩, by rw [← h9.2.1]; exact ⟨Y, ch, N, hC⟩⟩ (by decide) (by decide)) ?_
  rintro _ _ ⟨i, hi, ei, rfl, rfl⟩
  have zi : vnat v = i := by rw [ei, vnat_nI (by omega)]
  have ri : g (yR Y i) = some (ob 6 [.ref (ynb Y i), .ref (yxb Y i), vwf A Y i, .int (nI (aw A i)), .int (nI 0), .int (ch i)]) := (hC.2.2.1 i hi).1
  show J X 1 6 g 5 [(0, .ref x), (1, .int v), (2, .int ofr)] [.ref (yR Y i)]
  refine j_astore_n (lv' := [(3, .ref (yR Y i)), (0, .ref x), (1, .int v), (2, .int ofr)]) hX dX10_once_5 (by rw [hn]; decide) rfl ?_
  refine j_aload_n hX dX10_once_6 1 rfl ?_
  refine j_iload_n hX dX10_once_7 3 rfl ?_
  refine j_callV (As := [.int ofr]) (rest := []) hX (c_X10_relationAt (xl X) (xK X) g hlt x (yra Y) (yta Y) (yR Y) hC.1 (ynb Y) (yxb Y) (vwf A Y) (aw A) (fun i => nI ((fun _ => 0) i)) ch hC.rels (fun i hi => (hI i hi).1.1) ofr) hC.1.1 rfl lk_X10_48 wI_X10_relationAt wV_X10_X10_relationAt wN_X10 wC_X10_relationAt hd_X10_relationAt rfl (by rw [hL]; decide) (by decide) rfl (Nat.le_of_ble_eq_true rfl) dX10_once_8 (by rw [hR]; decide) (by rw [hR]; decide) (fun E g9 h9 => jx_out hX hE ⟨1, A, by decide, h9.1, Or.inl ⟨rfl, fun q => h9.2.2 q.2, rfl⟩, by rw [← h9.2.1]; exact ⟨Y, ch, N, hC⟩⟩ (by decide) (by decide)) ?_
  rintro _ _ ⟨j, hj, ej, wj, rfl, rfl⟩
  have zj : vnat ofr = j := by rw [ej, vnat_nI (by omega)]
  have qj : isR A ofr := ⟨j, hj, ej, wj⟩
  have rj : g (yR Y j) = some (ob 6 [.ref (ynb Y j), .ref (yxb Y j), vwf A Y j, .int (nI (aw A j)), .int (nI 0), .int (ch j)]) := (hC.2.2.1 j hj).1
  show J X 3 18 g 11 [(3, .ref (yR Y i)), (0, .ref x), (1, .int v), (2, .int ofr)] [.ref (yR Y j)]
  refine j_astore (lv' := [(4, .ref (yR Y j)), (3, .ref (yR Y i)), (0, .ref x), (1, .int v), (2, .int ofr)]) hX dX10_once_11 (by rw [hn]; decide) rfl ?_
  refine j_aload_n hX dX10_once_13 1 rfl ?_
  refine j_callS (As := [.ref (yR Y i)]) (rest := []) hX (c_X10_needFree (xl X) (xK X) g hlt (yR Y i) (ynb Y i) (yxb Y i) (vwf A Y i) (aw A i) (nI 0) (ch i) ri (hI i hi).1.1) lk_X10_24 wS_X10_needFree wN_X10 wC_X10_needFree hd_X10_needFree rfl (by rw [hL]; decide) (by decide) rfl (Nat.le_of_ble_eq_true rfl) dX10_once_14 (by rw [hR]; decide) (by rw [hR]; decide) (fun E g9 h9 => jx_out hX hE ⟨2, A, by decide, h9.1, Or.inr (Or.inl ⟨rfl, ⟨⟨i, hi, ei⟩, qj⟩, by rw [zi]; exact h9.2.2, rfl⟩), by rw [← h9.2.1]; exact ⟨Y, ch, N, hC⟩⟩ (by decide) (by decide)) ?_
  rintro _ _ ⟨rfl, fi, rfl⟩
  show J X 4 24 g 17 [(4, .ref (yR Y j)), (3, .ref (yR Y i)), (0, .ref x), (1, .int v), (2, .int ofr)] []
  refine j_aload_n hX dX10_once_17 1 rfl ?_
  refine j_aload hX dX10_once_18 0 rfl ?_
  refine j_getN (v := .int (nI (aw A j))) hX rj rfl wf_X6 3 (by decide) nk_X10_57 (fun _ h => h) rfl dX10_once_20 ?_
  refine j_new (ci := 5) (fs := [.null, .null, .int 0, .null]) hX rfl wf_X5 tyX5_ok lk_X10_99 wA_X5 wN_X5 (fun j hj => by rcases (show j = 0 ∨ j = 1 ∨ j = 2 ∨ j = 3 by omega) with rfl | rfl | rfl | rfl <;> rfl) dX10_once_23 (by rw [hR]; decide) (by rw [hR]; decide) (fun vv fvv => ?_)
  obtain ⟨g1, eg1⟩ : ∃ z : Wd, z = up g vv (ob 5 [.null, .null, .int 0, .null]) := ⟨_, rfl⟩
  refine j_w eg1.symm ?_
  have k1_x := (congrFun eg1 x).trans ((up_n (ne_fr (hC.1.1) fvv)).trans (hC.1.1))
  have k1_yRYi := (congrFun eg1 (yR Y i)).trans ((up_n (ne_fr (ri) fvv)).trans (ri))
  have k1_yRYj := (congrFun eg1 (yR Y j)).trans ((up_n (ne_fr (rj) fvv)).trans (rj))
  have k1_vv : g1 vv = some (ob 5 [.null, .null, .int 0, .null]) := by rw [eg1]; exact up_s _ _ _
  show J X 5 28 g1 26 [(4, .ref (yR Y j)), (3, .ref (yR Y i)), (0, .ref x), (1, .int v), (2, .int ofr)] [.ref vv, .int (nI (aw A j)), .ref (yR Y i)]
  have fvv0 : g vv = none := fvv
  have hsub : Sub g g1 := by rw [eg1]; exact Sub.up (Sub.rf g) fvv
  refine j_dup hX dX10_once_26 rfl ?_
  refine j_aload hX dX10_once_27 0 rfl ?_
  refine j_callI (As := [.ref (yR Y j)]) (rest := [.ref vv, .int (nI (aw A j)), .ref (yR Y i)]) hX (c_X5_init (xl X) (xK X) g g1 vv (yR Y j) (ad A j)  fvv0 hsub (hC.dep hI hj) (Nat.lt_of_lt_of_le (hI.dp hj) (by decide)) k1_vv) lk_X10_101 wI_X5_init wN_X5 wC_X5_init rfl hd_X5_init rfl (by rw [hL]; decide) (by decide) rfl (Nat.le_of_ble_eq_true rfl) dX10_once_29 (by rw [hR]; decide) (by rw [hR]; decide) ?_
  rintro _ w1 ⟨rfl, rw, frw, nrw, hrw1, hv1, hF1⟩
  have hsub1 : Sub g w1 := Sub.ctor hsub fvv0 frw hF1
  have frw0 : g rw = none := dom_s hsub frw
  show J X 6 32 w1 32 [(4, .ref (yR Y j)), (3, .ref (yR Y i)), (0, .ref x), (1, .int v), (2, .int ofr)] [.ref vv, .int (nI (aw A j)), .ref (yR Y i)]
  refine j_callS (As := [.ref (yR Y i), .int (nI (aw A j)), .ref vv]) (rest := []) hX (c_X10_makeView (xl X) (xK X) g w1 hlt x A Y ch N hC hI i hi fi hsub1 vv (aw A j) 7 j j rw 0 (fun _ => 0) false (by decide) fvv0 frw0 (fun e => absurd e (by decide)) hv1 hrw1 hj hj wj wj trivial) lk_X10_66 wS_X10_makeView wN_X10 wC_X10_makeView hd_X10_makeView rfl (by rw [hL]; decide) (by decide) rfl (Nat.le_of_ble_eq_true rfl) dX10_once_32 (by rw [hR]; decide) (by rw [hR]; decide) (fun E g9 h9 => jx_out hX hE ⟨4, A, by decide, h9.1, Or.inr (Or.inr (Or.inr (Or.inl ⟨rfl, ⟨⟨i, hi, ei⟩, qj⟩, by rw [zi]; omega, trivial, fun ⟨B, hB⟩ => by rw [zj] at hB; exact absurd (h9.2.1.symm.trans hB) (by simp), rfl⟩))), h9.2.2⟩ (by decide) (by decide)) ?_
  rintro _ g2 ⟨rfl, B9, ho9, hC9⟩
  show J X 7 38 g2 35 [(4, .ref (yR Y j)), (3, .ref (yR Y i)), (0, .ref x), (1, .int v), (2, .int ofr)] []
  exact j_vret hX hE dX10_once_35 (⟨rfl, _, (by unfold onceO viewO OutG; rw [zi, zj]; exact Or.inr (Or.inr (Or.inr (Or.inr ⟨rfl, ⟨⟨i, hi, ei⟩, qj⟩, by omega, trivial, B9, ho9, rfl⟩)))), hC9⟩) (by decide) (by decide)

set_option maxRecDepth 20000 in
set_option maxHeartbeats 600000 in
/-- select -/
theorem c_X10_select (l : Launch) (K : Cst) (g : Wd) (hlt : l.stackTraces = false) (x : Nat) (A : Ab) (Y : Lt) (ch : Nat → Int32) (N : Nat → Bg) (hC : CS K g x A Y ch (fun _ => 0) N) (hI : Inv A) (v ofr c cm th : Int32) (ot : Bool) : Ct l K yX10_select cX10_select 9 none 9 [.ref x, .int v, .int ofr, .int c, .int cm, .int th, .int (b01 ot)] g (PostG K x (selO A v ofr c cm th ot)) (XG K x (selO A v ofr c cm th ot)) 9 54 := by
  refine ct_of (by decide) (Nat.le_of_ble_eq_true rfl) ?_
  intro X hl hK hX hE hn hL hR hm
  subst hl; subst hK
  show J X 0 0 g 0 [(0, .ref x), (1, .int v), (2, .int ofr), (3, .int c), (4, .int cm), (5, .int th), (6, .int (b01 ot))] []
  cases ot with
  | false =>
    show J X 0 0 g 0 [(0, .ref x), (1, .int v), (2, .int ofr), (3, .int c), (4, .int cm), (5, .int th), (6, .int (b01 false))] []
    refine j_aload_n hX dX10_select_0 0 rfl ?_
    refine j_iload_n hX dX10_select_1 1 rfl ?_
    refine j_callV (As := [.int v]) (rest := []) hX (c_X10_placeAt (xl X) (xK X) g hlt x (yra Y) (yta Y) (yR Y) hC.1 v) hC.1.1 rfl lk_X10_20 wI_X10_placeAt wV_X10_X10_placeAt wN_X10 wC_X10_placeAt hd_X10_placeAt rfl (by rw [hL]; decide) (by decide) rfl (Nat.le_of_ble_eq_true rfl) dX10_select_2 (by rw [hR]; decide) (by rw [hR]; decide) (fun E g9 h9 => jx_out hX hE ⟨1, A, by decide, h9.1, Or.inl ⟨rfl, fun q => h9.2.2 q.1, rfl⟩, by rw [← h9.2.1]; exact ⟨Y, ch, N, hC⟩⟩ (by decide) (by decide)) ?_
    rintro _ _ ⟨i, hi, ei, rfl, rfl⟩
    have zi : vnat v = i := by rw [ei, vnat_nI (by omega)]
    have ri : g (yR Y i) = some (ob 6 [.ref (ynb Y i), .ref (yxb Y i), vwf A Y i, .int (nI (aw A i)), .int (nI 0), .int (ch i)]) := (hC.2.2.1 i hi).1
    show J X 1 6 g 5 [(0, .ref x), (1, .int v), (2, .int ofr), (3, .int c), (4, .int cm), (5, .int th), (6, .int (b01 false))] [.ref (yR Y i)]
    refine j_astore (lv' := [(7, .ref (yR Y i)), (0, .ref x), (1, .int v), (2, .int ofr), (3, .int c), (4, .int cm), (5, .int th), (6, .int (b01 false))]) hX dX10_select_5 (by rw [hn]; decide) rfl ?_
    refine j_aload_n hX dX10_select_7 1 rfl ?_
    refine j_iload_n hX dX10_select_8 3 rfl ?_
    refine j_callV (As := [.int ofr]) (rest := []) hX (c_X10_relationAt (xl X) (xK X) g hlt x (yra Y) (yta Y) (yR Y) hC.1 (ynb Y) (yxb Y) (vwf A Y) (aw A) (fun i => nI ((fun _ => 0) i)) ch hC.rels (fun i hi => (hI i hi).1.1) ofr) hC.1.1 rfl lk_X10_48 wI_X10_relationAt wV_X10_X10_relationAt wN_X10 wC_X10_relationAt hd_X10_relationAt rfl (by rw [hL]; decide) (by decide) rfl (Nat.le_of_ble_eq_true rfl) dX10_select_9 (by rw [hR]; decide) (by rw [hR]; decide) (fun E g9 h9 => jx_out hX hE ⟨1, A, by decide, h9.1, Or.inl ⟨rfl, fun q => h9.2.2 q.2.1.1, rfl⟩, by rw [← h9.2.1]; exact ⟨Y, ch, N, hC⟩⟩ (by decide) (by decide)) ?_
    rintro _ _ ⟨j, hj, ej, wj, rfl, rfl⟩
    have zj : vnat ofr = j := by rw [ej, vnat_nI (by omega)]
    have qj : isR A ofr := ⟨j, hj, ej, wj⟩
    have rj : g (yR Y j) = some (ob 6 [.ref (ynb Y j), .ref (yxb Y j), vwf A Y j, .int (nI (aw A j)), .int (nI 0), .int (ch j)]) := (hC.2.2.1 j hj).1
    show J X 3 18 g 12 [(7, .ref (yR Y i)), (0, .ref x), (1, .int v), (2, .int ofr), (3, .int c), (4, .int cm), (5, .int th), (6, .int (b01 false))] [.ref (yR Y j)]
    refine j_astore (lv' := [(8, .ref (yR Y j)), (7, .ref (yR Y i)), (0, .ref x), (1, .int v), (2, .int ofr), (3, .int c), (4, .int cm), (5, .int th), (6, .int (b01 false))]) hX dX10_select_12 (by rw [hn]; decide) rfl ?_
    refine j_aload hX dX10_select_14 0 rfl ?_
    refine j_iload_n hX dX10_select_16 5 rfl ?_
    refine j_callS (As := [.ref (yR Y j), .int c]) (rest := []) hX (c_X10_needColumn (xl X) (xK X) g hlt (yR Y j) (ynb Y j) (yxb Y j) (vwf A Y j) (aw A j) (nI 0) (ch j) rj (hI j hj).1.1 c) lk_X10_51 wS_X10_needColumn wN_X10 wC_X10_needColumn hd_X10_needColumn rfl (by rw [hL]; decide) (by decide) rfl (Nat.le_of_ble_eq_true rfl) dX10_select_17 (by rw [hR]; decide) (by rw [hR]; decide) (fun E g9 h9 => jx_out hX hE ⟨1, A, by decide, h9.1, Or.inl ⟨rfl, fun q => h9.2.2 (by have := q.2.1.2; rw [zj] at this; exact this), rfl⟩, by rw [← h9.2.1]; exact ⟨Y, ch, N, hC⟩⟩ (by decide) (by decide)) ?_
    rintro _ _ ⟨rfl, rfl, cc⟩
    have ic : isC A ofr c := ⟨qj, by rw [zj]; exact cc⟩
    show J X 4 24 g 20 [(8, .ref (yR Y j)), (7, .ref (yR Y i)), (0, .ref x), (1, .int v), (2, .int ofr), (3, .int c), (4, .int cm), (5, .int th), (6, .int (b01 false))] []
    refine j_iload hX dX10_select_20 8 rfl ?_
    refine j_if_eq hX 32 dX10_select_22 (by decide) (fun _ => ?_) (fun c_22 => absurd (rfl : b01 false = 0) c_22)
    refine j_aload hX dX10_select_32 1 rfl ?_
    refine j_callS (As := [.ref (yR Y i)]) (rest := []) hX (c_X10_needFree (xl X) (xK X) g hlt (yR Y i) (ynb Y i) (yxb Y i) (vwf A Y i) (aw A i) (nI 0) (ch i) ri (hI i hi).1.1) lk_X10_24 wS_X10_needFree wN_X10 wC_X10_needFree hd_X10_needFree rfl (by rw [hL]; decide) (by decide) rfl (Nat.le_of_ble_eq_true rfl) dX10_select_34 (by rw [hR]; decide) (by rw [hR]; decide) (fun E g9 h9 => jx_out hX hE ⟨2, A, by decide, h9.1, Or.inr (Or.inl ⟨rfl, ⟨⟨i, hi, ei⟩, ic, fun e => absurd e (by decide)⟩, by rw [zi]; exact h9.2.2, rfl⟩), by rw [← h9.2.1]; exact ⟨Y, ch, N, hC⟩⟩ (by decide) (by decide)) ?_
    rintro _ _ ⟨rfl, fi, rfl⟩
    show J X 5 30 g 37 [(8, .ref (yR Y j)), (7, .ref (yR Y i)), (0, .ref x), (1, .int v), (2, .int ofr), (3, .int c), (4, .int cm), (5, .int th), (6, .int (b01 false))] []
    rcases i32_in cm 6 (by decide) with h9c | ⟨m9, hm9, em⟩
    · refine j_iload hX dX10_select_37 6 rfl ?_
      refine j_if_lt hX 48 dX10_select_39 (by decide) (fun c_39 => ?_) (fun c_39 => ?_)
      · exact j_IAE hX hE hlt sk_X10_55 (by rw [hL]; decide) (Nat.le_of_ble_eq_true rfl) dX10_select_48 dX10_select_51 dX10_select_52 dX10_select_54 dX10_select_57 (⟨3, A, by decide, rfl, Or.inr (Or.inr (Or.inl ⟨rfl, ⟨⟨i, hi, ei⟩, ic, fun e => absurd e (by decide)⟩, by rw [zi]; omega, i32_out (by decide) h9c, rfl⟩)), Y, ch, N, hC⟩) (by decide) (by decide) (by rw [hR]; decide) (by rw [hR]; decide)
      · refine j_iload hX dX10_select_42 6 rfl ?_
        refine j_iconst (v := nI 5) hX dX10_select_44 (by decide) ?_
        refine j_icmp_le hX 58 dX10_select_45 (by decide) (fun c_45 => absurd c_45 (fun q => absurd (Int32.le_trans (h9c.resolve_left c_39) q) (nI_ge (a := 5) (b := 6) (by decide) (by decide)))) (fun _ => ?_)
        exact j_IAE hX hE hlt sk_X10_55 (by rw [hL]; decide) (Nat.le_of_ble_eq_true rfl) dX10_select_48 dX10_select_51 dX10_select_52 dX10_select_54 dX10_select_57 (⟨3, A, by decide, rfl, Or.inr (Or.inr (Or.inl ⟨rfl, ⟨⟨i, hi, ei⟩, ic, fun e => absurd e (by decide)⟩, by rw [zi]; omega, i32_out (by decide) h9c, rfl⟩)), Y, ch, N, hC⟩) (by decide) (by decide) (by rw [hR]; decide) (by rw [hR]; decide)
    · refine j_iload hX dX10_select_37 6 rfl ?_
      refine j_if_lt hX 48 dX10_select_39 (by decide) (fun c_39 => absurd c_39 (by rw [em]; exact nI_pos (by omega))) (fun _ => ?_)
      refine j_iload hX dX10_select_42 6 rfl ?_
      refine j_iconst (v := nI 5) hX dX10_select_44 (by decide) ?_
      refine j_icmp_le hX 58 dX10_select_45 (by decide) (fun _ => ?_) (fun c_45 => absurd (show cm ≤ nI 5 by rw [em]; exact nI_le (by omega) (by decide)) c_45)
      refine j_aload hX dX10_select_58 1 rfl ?_
      refine j_aload hX dX10_select_60 0 rfl ?_
      refine j_getN (v := .int (nI (aw A j))) hX rj rfl wf_X6 3 (by decide) nk_X10_57 (fun _ h => h) rfl dX10_select_62 ?_
      refine j_new (ci := 7) (fs := [.null, .null, .int 0, .null, .int 0, .int 0, .int 0, .int 0]) hX rfl wf_X7 tyX7_ok lk_X10_61 wA_X7 wN_X7 (fun j hj => by rcases (show j = 0 ∨ j = 1 ∨ j = 2 ∨ j = 3 ∨ j = 4 ∨ j = 5 ∨ j = 6 ∨ j = 7 by omega) with rfl | rfl | rfl | rfl | rfl | rfl | rfl | rfl <;> rfl) dX10_select_65 (by rw [hR]; decide) (by rw [hR]; decide) (fun vv fvv => ?_)
      obtain ⟨g1, eg1⟩ : ∃ z : Wd, z = up g vv (ob 7 [.null, .null, .int 0, .null, .int 0, .int 0, .int 0, .int 0]) := ⟨_, rfl⟩
      refine j_w eg1.symm ?_
      have k1_x := (congrFun eg1 x).trans ((up_n (ne_fr (hC.1.1) fvv)).trans (hC.1.1))
      have k1_yRYi := (congrFun eg1 (yR Y i)).trans ((up_n (ne_fr (ri) fvv)).trans (ri))
      have k1_yRYj := (congrFun eg1 (yR Y j)).trans ((up_n (ne_fr (rj) fvv)).trans (rj))
      have k1_vv : g1 vv = some (ob 7 [.null, .null, .int 0, .null, .int 0, .int 0, .int 0, .int 0]) := by rw [eg1]; exact up_s _ _ _
      show J X 6 38 g1 68 [(8, .ref (yR Y j)), (7, .ref (yR Y i)), (0, .ref x), (1, .int v), (2, .int ofr), (3, .int c), (4, .int cm), (5, .int th), (6, .int (b01 false))] [.ref vv, .int (nI (aw A j)), .ref (yR Y i)]
      have fvv0 : g vv = none := fvv
      have hsub : Sub g g1 := by rw [eg1]; exact Sub.up (Sub.rf g) fvv
      refine j_dup hX dX10_select_68 rfl ?_
      refine j_aload hX dX10_select_69 0 rfl ?_
      refine j_iload_n hX dX10_select_71 5 rfl ?_
      refine j_iload hX dX10_select_72 6 rfl ?_
      refine j_iload hX dX10_select_74 7 rfl ?_
      refine j_iload hX dX10_select_76 8 rfl ?_
      refine j_callI (As := [.ref (yR Y j), .int c, .int cm, .int th, .int (b01 false)]) (rest := [.ref vv, .int (nI (aw A j)), .ref (yR Y i)]) hX (c_X7_init (xl X) (xK X) g g1 vv (yR Y j) (ad A j) c cm th false fvv0 hsub (hC.dep hI hj) (Nat.lt_of_lt_of_le (hI.dp hj) (by decide)) k1_vv) lk_X10_63 wI_X7_init wN_X7 wC_X7_init rfl hd_X7_init rfl (by rw [hL]; decide) (by decide) rfl (Nat.le_of_ble_eq_true rfl) dX10_select_78 (by rw [hR]; decide) (by rw [hR]; decide) ?_
      rintro _ w1 ⟨rfl, rw, frw, nrw, hrw1, hv1, hF1⟩
      have hsub1 : Sub g w1 := Sub.ctor hsub fvv0 frw hF1
      have frw0 : g rw = none := dom_s hsub frw
      show J X 7 42 w1 81 [(8, .ref (yR Y j)), (7, .ref (yR Y i)), (0, .ref x), (1, .int v), (2, .int ofr), (3, .int c), (4, .int cm), (5, .int th), (6, .int (b01 false))] [.ref vv, .int (nI (aw A j)), .ref (yR Y i)]
      refine j_callS (As := [.ref (yR Y i), .int (nI (aw A j)), .ref vv]) (rest := []) hX (c_X10_makeView (xl X) (xK X) g w1 hlt x A Y ch N hC hI i hi fi hsub1 vv (aw A j) 2 j j rw 0 (nC c cm th 0) false (by decide) fvv0 frw0 (fun e => absurd e (by decide)) (by unfold vwAt; simp only [nC_0, nC_1, nC_2]; exact hv1) hrw1 hj hj wj wj ⟨by rw [nC_0]; exact (by obtain ⟨k9, b1, b2⟩ := cc; exact ⟨k9, by have := (hI j hj).1.1; omega, b2⟩), by rw [nC_1]; exact ⟨m9, by omega, em⟩, fun e => absurd e (by decide)⟩) lk_X10_66 wS_X10_makeView wN_X10 wC_X10_makeView hd_X10_makeView rfl (by rw [hL]; decide) (by decide) rfl (Nat.le_of_ble_eq_true rfl) dX10_select_81 (by rw [hR]; decide) (by rw [hR]; decide) (fun E g9 h9 => jx_out hX hE ⟨4, A, by decide, h9.1, Or.inr (Or.inr (Or.inr (Or.inl ⟨rfl, ⟨⟨i, hi, ei⟩, ic, fun e => absurd e (by decide)⟩, by rw [zi]; omega, ⟨m9, hm9, em⟩, fun ⟨B, hB⟩ => by rw [zj] at hB; exact absurd (h9.2.1.symm.trans hB) (by simp), rfl⟩))), h9.2.2⟩ (by decide) (by decide)) ?_
      rintro _ g2 ⟨rfl, B9, ho9, hC9⟩
      show J X 8 48 g2 84 [(8, .ref (yR Y j)), (7, .ref (yR Y i)), (0, .ref x), (1, .int v), (2, .int ofr), (3, .int c), (4, .int cm), (5, .int th), (6, .int (b01 false))] []
      exact j_vret hX hE dX10_select_84 (⟨rfl, _, (by unfold selO viewO OutG; rw [zi, zj]; exact Or.inr (Or.inr (Or.inr (Or.inr ⟨rfl, ⟨⟨i, hi, ei⟩, ic, fun e => absurd e (by decide)⟩, by omega, ⟨m9, hm9, em⟩, B9, ho9, rfl⟩)))), hC9⟩) (by decide) (by decide)
  | true =>
    show J X 0 0 g 0 [(0, .ref x), (1, .int v), (2, .int ofr), (3, .int c), (4, .int cm), (5, .int th), (6, .int (b01 true))] []
    refine j_aload_n hX dX10_select_0 0 rfl ?_
    refine j_iload_n hX dX10_select_1 1 rfl ?_
    refine j_callV (As := [.int v]) (rest := []) hX (c_X10_placeAt (xl X) (xK X) g hlt x (yra Y) (yta Y) (yR Y) hC.1 v) hC.1.1 rfl lk_X10_20 wI_X10_placeAt wV_X10_X10_placeAt wN_X10 wC_X10_placeAt hd_X10_placeAt rfl (by rw [hL]; decide) (by decide) rfl (Nat.le_of_ble_eq_true rfl) dX10_select_2 (by rw [hR]; decide) (by rw [hR]; decide) (fun E g9 h9 => jx_out hX hE ⟨1, A, by decide, h9.1, Or.inl ⟨rfl, fun q => h9.2.2 q.1, rfl⟩, by rw [← h9.2.1]; exact ⟨Y, ch, N, hC⟩⟩ (by decide) (by decide)) ?_
    rintro _ _ ⟨i, hi, ei, rfl, rfl⟩
    have zi : vnat v = i := by rw [ei, vnat_nI (by omega)]
    have ri : g (yR Y i) = some (ob 6 [.ref (ynb Y i), .ref (yxb Y i), vwf A Y i, .int (nI (aw A i)), .int (nI 0), .int (ch i)]) := (hC.2.2.1 i hi).1
    show J X 1 6 g 5 [(0, .ref x), (1, .int v), (2, .int ofr), (3, .int c), (4, .int cm), (5, .int th), (6, .int (b01 true))] [.ref (yR Y i)]
    refine j_astore (lv' := [(7, .ref (yR Y i)), (0, .ref x), (1, .int v), (2, .int ofr), (3, .int c), (4, .int cm), (5, .int th), (6, .int (b01 true))]) hX dX10_select_5 (by rw [hn]; decide) rfl ?_
    refine j_aload_n hX dX10_select_7 1 rfl ?_
    refine j_iload_n hX dX10_select_8 3 rfl ?_
    refine j_callV (As := [.int ofr]) (rest := []) hX (c_X10_relationAt (xl X) (xK X) g hlt x (yra Y) (yta Y) (yR Y) hC.1 (ynb Y) (yxb Y) (vwf A Y) (aw A) (fun i => nI ((fun _ => 0) i)) ch hC.rels (fun i hi => (hI i hi).1.1) ofr) hC.1.1 rfl lk_X10_48 wI_X10_relationAt wV_X10_X10_relationAt wN_X10 wC_X10_relationAt hd_X10_relationAt rfl (by rw [hL]; decide) (by decide) rfl (Nat.le_of_ble_eq_true rfl) dX10_select_9 (by rw [hR]; decide) (by rw [hR]; decide) (fun E g9 h9 => jx_out hX hE ⟨1, A, by decide, h9.1, Or.inl ⟨rfl, fun q => h9.2.2 q.2.1.1, rfl⟩, by rw [← h9.2.1]; exact ⟨Y, ch, N, hC⟩⟩ (by decide) (by decide)) ?_
    rintro _ _ ⟨j, hj, ej, wj, rfl, rfl⟩
    have zj : vnat ofr = j := by rw [ej, vnat_nI (by omega)]
    have qj : isR A ofr := ⟨j, hj, ej, wj⟩
    have rj : g (yR Y j) = some (ob 6 [.ref (ynb Y j), .ref (yxb Y j), vwf A Y j, .int (nI (aw A j)), .int (nI 0), .int (ch j)]) := (hC.2.2.1 j hj).1
    show J X 3 18 g 12 [(7, .ref (yR Y i)), (0, .ref x), (1, .int v), (2, .int ofr), (3, .int c), (4, .int cm), (5, .int th), (6, .int (b01 true))] [.ref (yR Y j)]
    refine j_astore (lv' := [(8, .ref (yR Y j)), (7, .ref (yR Y i)), (0, .ref x), (1, .int v), (2, .int ofr), (3, .int c), (4, .int cm), (5, .int th), (6, .int (b01 true))]) hX dX10_select_12 (by rw [hn]; decide) rfl ?_
    refine j_aload hX dX10_select_14 0 rfl ?_
    refine j_iload_n hX dX10_select_16 5 rfl ?_
    refine j_callS (As := [.ref (yR Y j), .int c]) (rest := []) hX (c_X10_needColumn (xl X) (xK X) g hlt (yR Y j) (ynb Y j) (yxb Y j) (vwf A Y j) (aw A j) (nI 0) (ch j) rj (hI j hj).1.1 c) lk_X10_51 wS_X10_needColumn wN_X10 wC_X10_needColumn hd_X10_needColumn rfl (by rw [hL]; decide) (by decide) rfl (Nat.le_of_ble_eq_true rfl) dX10_select_17 (by rw [hR]; decide) (by rw [hR]; decide) (fun E g9 h9 => jx_out hX hE ⟨1, A, by decide, h9.1, Or.inl ⟨rfl, fun q => h9.2.2 (by have := q.2.1.2; rw [zj] at this; exact this), rfl⟩, by rw [← h9.2.1]; exact ⟨Y, ch, N, hC⟩⟩ (by decide) (by decide)) ?_
    rintro _ _ ⟨rfl, rfl, cc⟩
    have ic : isC A ofr c := ⟨qj, by rw [zj]; exact cc⟩
    show J X 4 24 g 20 [(8, .ref (yR Y j)), (7, .ref (yR Y i)), (0, .ref x), (1, .int v), (2, .int ofr), (3, .int c), (4, .int cm), (5, .int th), (6, .int (b01 true))] []
    refine j_iload hX dX10_select_20 8 rfl ?_
    refine j_if_eq hX 32 dX10_select_22 (by decide) (fun c_22 => absurd c_22 (by decide)) (fun _ => ?_)
    refine j_aload hX dX10_select_25 0 rfl ?_
    refine j_iload hX dX10_select_27 7 rfl ?_
    refine j_callS (As := [.ref (yR Y j), .int th]) (rest := []) hX (c_X10_needColumn (xl X) (xK X) g hlt (yR Y j) (ynb Y j) (yxb Y j) (vwf A Y j) (aw A j) (nI 0) (ch j) rj (hI j hj).1.1 th) lk_X10_51 wS_X10_needColumn wN_X10 wC_X10_needColumn hd_X10_needColumn rfl (by rw [hL]; decide) (by decide) rfl (Nat.le_of_ble_eq_true rfl) dX10_select_29 (by rw [hR]; decide) (by rw [hR]; decide) (fun E g9 h9 => jx_out hX hE ⟨1, A, by decide, h9.1, Or.inl ⟨rfl, fun q => h9.2.2 (by have := (q.2.2 rfl).2; rw [zj] at this; exact this), rfl⟩, by rw [← h9.2.1]; exact ⟨Y, ch, N, hC⟩⟩ (by decide) (by decide)) ?_
    rintro _ _ ⟨rfl, rfl, ct⟩
    have it : isC A ofr th := ⟨qj, by rw [zj]; exact ct⟩
    show J X 5 30 g 32 [(8, .ref (yR Y j)), (7, .ref (yR Y i)), (0, .ref x), (1, .int v), (2, .int ofr), (3, .int c), (4, .int cm), (5, .int th), (6, .int (b01 true))] []
    refine j_aload hX dX10_select_32 1 rfl ?_
    refine j_callS (As := [.ref (yR Y i)]) (rest := []) hX (c_X10_needFree (xl X) (xK X) g hlt (yR Y i) (ynb Y i) (yxb Y i) (vwf A Y i) (aw A i) (nI 0) (ch i) ri (hI i hi).1.1) lk_X10_24 wS_X10_needFree wN_X10 wC_X10_needFree hd_X10_needFree rfl (by rw [hL]; decide) (by decide) rfl (Nat.le_of_ble_eq_true rfl) dX10_select_34 (by rw [hR]; decide) (by rw [hR]; decide) (fun E g9 h9 => jx_out hX hE ⟨2, A, by decide, h9.1, Or.inr (Or.inl ⟨rfl, ⟨⟨i, hi, ei⟩, ic, fun _ => it⟩, by rw [zi]; exact h9.2.2, rfl⟩), by rw [← h9.2.1]; exact ⟨Y, ch, N, hC⟩⟩ (by decide) (by decide)) ?_
    rintro _ _ ⟨rfl, fi, rfl⟩
    show J X 6 36 g 37 [(8, .ref (yR Y j)), (7, .ref (yR Y i)), (0, .ref x), (1, .int v), (2, .int ofr), (3, .int c), (4, .int cm), (5, .int th), (6, .int (b01 true))] []
    rcases i32_in cm 6 (by decide) with h9c | ⟨m9, hm9, em⟩
    · refine j_iload hX dX10_select_37 6 rfl ?_
      refine j_if_lt hX 48 dX10_select_39 (by decide) (fun c_39 => ?_) (fun c_39 => ?_)
      · exact j_IAE hX hE hlt sk_X10_55 (by rw [hL]; decide) (Nat.le_of_ble_eq_true rfl) dX10_select_48 dX10_select_51 dX10_select_52 dX10_select_54 dX10_select_57 (⟨3, A, by decide, rfl, Or.inr (Or.inr (Or.inl ⟨rfl, ⟨⟨i, hi, ei⟩, ic, fun _ => it⟩, by rw [zi]; omega, i32_out (by decide) h9c, rfl⟩)), Y, ch, N, hC⟩) (by decide) (by decide) (by rw [hR]; decide) (by rw [hR]; decide)
      · refine j_iload hX dX10_select_42 6 rfl ?_
        refine j_iconst (v := nI 5) hX dX10_select_44 (by decide) ?_
        refine j_icmp_le hX 58 dX10_select_45 (by decide) (fun c_45 => absurd c_45 (fun q => absurd (Int32.le_trans (h9c.resolve_left c_39) q) (nI_ge (a := 5) (b := 6) (by decide) (by decide)))) (fun _ => ?_)
        exact j_IAE hX hE hlt sk_X10_55 (by rw [hL]; decide) (Nat.le_of_ble_eq_true rfl) dX10_select_48 dX10_select_51 dX10_select_52 dX10_select_54 dX10_select_57 (⟨3, A, by decide, rfl, Or.inr (Or.inr (Or.inl ⟨rfl, ⟨⟨i, hi, ei⟩, ic, fun _ => it⟩, by rw [zi]; omega, i32_out (by decide) h9c, rfl⟩)), Y, ch, N, hC⟩) (by decide) (by decide) (by rw [hR]; decide) (by rw [hR]; decide)
    · refine j_iload hX dX10_select_37 6 rfl ?_
      refine j_if_lt hX 48 dX10_select_39 (by decide) (fun c_39 => absurd c_39 (by rw [em]; exact nI_pos (by omega))) (fun _ => ?_)
      refine j_iload hX dX10_select_42 6 rfl ?_
      refine j_iconst (v := nI 5) hX dX10_select_44 (by decide) ?_
      refine j_icmp_le hX 58 dX10_select_45 (by decide) (fun _ => ?_) (fun c_45 => absurd (show cm ≤ nI 5 by rw [em]; exact nI_le (by omega) (by decide)) c_45)
      refine j_aload hX dX10_select_58 1 rfl ?_
      refine j_aload hX dX10_select_60 0 rfl ?_
      refine j_getN (v := .int (nI (aw A j))) hX rj rfl wf_X6 3 (by decide) nk_X10_57 (fun _ h => h) rfl dX10_select_62 ?_
      refine j_new (ci := 7) (fs := [.null, .null, .int 0, .null, .int 0, .int 0, .int 0, .int 0]) hX rfl wf_X7 tyX7_ok lk_X10_61 wA_X7 wN_X7 (fun j hj => by rcases (show j = 0 ∨ j = 1 ∨ j = 2 ∨ j = 3 ∨ j = 4 ∨ j = 5 ∨ j = 6 ∨ j = 7 by omega) with rfl | rfl | rfl | rfl | rfl | rfl | rfl | rfl <;> rfl) dX10_select_65 (by rw [hR]; decide) (by rw [hR]; decide) (fun vv fvv => ?_)
      obtain ⟨g1, eg1⟩ : ∃ z : Wd, z = up g vv (ob 7 [.null, .null, .int 0, .null, .int 0, .int 0, .int 0, .int 0]) := ⟨_, rfl⟩
      refine j_w eg1.symm ?_
      have k1_x := (congrFun eg1 x).trans ((up_n (ne_fr (hC.1.1) fvv)).trans (hC.1.1))
      have k1_yRYi := (congrFun eg1 (yR Y i)).trans ((up_n (ne_fr (ri) fvv)).trans (ri))
      have k1_yRYj := (congrFun eg1 (yR Y j)).trans ((up_n (ne_fr (rj) fvv)).trans (rj))
      have k1_vv : g1 vv = some (ob 7 [.null, .null, .int 0, .null, .int 0, .int 0, .int 0, .int 0]) := by rw [eg1]; exact up_s _ _ _
      show J X 7 44 g1 68 [(8, .ref (yR Y j)), (7, .ref (yR Y i)), (0, .ref x), (1, .int v), (2, .int ofr), (3, .int c), (4, .int cm), (5, .int th), (6, .int (b01 true))] [.ref vv, .int (nI (aw A j)), .ref (yR Y i)]
      have fvv0 : g vv = none := fvv
      have hsub : Sub g g1 := by rw [eg1]; exact Sub.up (Sub.rf g) fvv
      refine j_dup hX dX10_select_68 rfl ?_
      refine j_aload hX dX10_select_69 0 rfl ?_
      refine j_iload_n hX dX10_select_71 5 rfl ?_
      refine j_iload hX dX10_select_72 6 rfl ?_
      refine j_iload hX dX10_select_74 7 rfl ?_
      refine j_iload hX dX10_select_76 8 rfl ?_
      refine j_callI (As := [.ref (yR Y j), .int c, .int cm, .int th, .int (b01 true)]) (rest := [.ref vv, .int (nI (aw A j)), .ref (yR Y i)]) hX (c_X7_init (xl X) (xK X) g g1 vv (yR Y j) (ad A j) c cm th true fvv0 hsub (hC.dep hI hj) (Nat.lt_of_lt_of_le (hI.dp hj) (by decide)) k1_vv) lk_X10_63 wI_X7_init wN_X7 wC_X7_init rfl hd_X7_init rfl (by rw [hL]; decide) (by decide) rfl (Nat.le_of_ble_eq_true rfl) dX10_select_78 (by rw [hR]; decide) (by rw [hR]; decide) ?_
      rintro _ w1 ⟨rfl, rw, frw, nrw, hrw1, hv1, hF1⟩
      have hsub1 : Sub g w1 := Sub.ctor hsub fvv0 frw hF1
      have frw0 : g rw = none := dom_s hsub frw
      show J X 8 48 w1 81 [(8, .ref (yR Y j)), (7, .ref (yR Y i)), (0, .ref x), (1, .int v), (2, .int ofr), (3, .int c), (4, .int cm), (5, .int th), (6, .int (b01 true))] [.ref vv, .int (nI (aw A j)), .ref (yR Y i)]
      refine j_callS (As := [.ref (yR Y i), .int (nI (aw A j)), .ref vv]) (rest := []) hX (c_X10_makeView (xl X) (xK X) g w1 hlt x A Y ch N hC hI i hi fi hsub1 vv (aw A j) 2 j j rw 0 (nC c cm th 0) true (by decide) fvv0 frw0 (fun e => absurd e (by decide)) (by unfold vwAt; simp only [nC_0, nC_1, nC_2]; exact hv1) hrw1 hj hj wj wj ⟨by rw [nC_0]; exact (by obtain ⟨k9, b1, b2⟩ := cc; exact ⟨k9, by have := (hI j hj).1.1; omega, b2⟩), by rw [nC_1]; exact ⟨m9, by omega, em⟩, fun _ => by rw [nC_2]; exact (by obtain ⟨k9, b1, b2⟩ := ct; exact ⟨k9, by have := (hI j hj).1.1; omega, b2⟩)⟩) lk_X10_66 wS_X10_makeView wN_X10 wC_X10_makeView hd_X10_makeView rfl (by rw [hL]; decide) (by decide) rfl (Nat.le_of_ble_eq_true rfl) dX10_select_81 (by rw [hR]; decide) (by rw [hR]; decide) (fun E g9 h9 => jx_out hX hE ⟨4, A, by decide, h9.1, Or.inr (Or.inr (Or.inr (Or.inl ⟨rfl, ⟨⟨i, hi, ei⟩, ic, fun _ => it⟩, by rw [zi]; omega, ⟨m9, hm9, em⟩, fun ⟨B, hB⟩ => by rw [zj] at hB; exact absurd (h9.2.1.symm.trans hB) (by simp), rfl⟩))), h9.2.2⟩ (by decide) (by decide)) ?_
      rintro _ g2 ⟨rfl, B9, ho9, hC9⟩
      show J X 9 54 g2 84 [(8, .ref (yR Y j)), (7, .ref (yR Y i)), (0, .ref x), (1, .int v), (2, .int ofr), (3, .int c), (4, .int cm), (5, .int th), (6, .int (b01 true))] []
      exact j_vret hX hE dX10_select_84 (⟨rfl, _, (by unfold selO viewO OutG; rw [zi, zj]; exact Or.inr (Or.inr (Or.inr (Or.inr ⟨rfl, ⟨⟨i, hi, ei⟩, ic, fun _ => it⟩, by omega, ⟨m9, hm9, em⟩, B9, ho9, rfl⟩)))), hC9⟩) (by decide) (by decide)

set_option maxRecDepth 20000 in
set_option maxHeartbeats 600000 in
/-- columns -/
theorem c_X10_columns (l : Launch) (K : Cst) (g : Wd) (hlt : l.stackTraces = false) (x : Nat) (A : Ab) (Y : Lt) (ch : Nat → Int32) (N : Nat → Bg) (hC : CS K g x A Y ch (fun _ => 0) N) (hI : Inv A) (v ofr a b c d : Int32) : Ct l K yX10_columns cX10_columns 10 none 9 [.ref x, .int v, .int ofr, .int a, .int b, .int c, .int d] g (PostG K x (colO A v ofr a b c d)) (XG K x (colO A v ofr a b c d)) 13 73 := by
  refine ct_of (by decide) (Nat.le_of_ble_eq_true rfl) ?_
  intro X hl hK hX hE hn hL hR hm
  subst hl; subst hK
  show J X 0 0 g 0 [(0, .ref x), (1, .int v), (2, .int ofr), (3, .int a), (4, .int b), (5, .int c), (6, .int d)] []
  refine j_aload_n hX dX10_columns_0 0 rfl ?_
  refine j_iload_n hX dX10_columns_1 1 rfl ?_
  refine j_callV (As := [.int v]) (rest := []) hX (c_X10_placeAt (xl X) (xK X) g hlt x (yra Y) (yta Y) (yR Y) hC.1 v) hC.1.1 rfl lk_X10_20 wI_X10_placeAt wV_X10_X10_placeAt wN_X10 wC_X10_placeAt hd_X10_placeAt rfl (by rw [hL]; decide) (by decide) rfl (Nat.le_of_ble_eq_true rfl) dX10_columns_2 (by rw [hR]; decide) (by rw [hR]; decide) (fun E g9 h9 => jx_out hX hE ⟨1, A, by decide, h9.1, Or.inl ⟨rfl, fun q => h9.2.2 q.1, rfl⟩, by rw [← h9.2.1]; exact ⟨Y, ch, N, hC⟩⟩ (by decide) (by decide)) ?_
  rintro _ _ ⟨i, hi, ei, rfl, rfl⟩
  have zi : vnat v = i := by rw [ei, vnat_nI (by omega)]
  have ri : g (yR Y i) = some (ob 6 [.ref (ynb Y i), .ref (yxb Y i), vwf A Y i, .int (nI (aw A i)), .int (nI 0), .int (ch i)]) := (hC.2.2.1 i hi).1
  show J X 1 6 g 5 [(0, .ref x), (1, .int v), (2, .int ofr), (3, .int a), (4, .int b), (5, .int c), (6, .int d)] [.ref (yR Y i)]
  refine j_astore (lv' := [(7, .ref (yR Y i)), (0, .ref x), (1, .int v), (2, .int ofr), (3, .int a), (4, .int b), (5, .int c), (6, .int d)]) hX dX10_columns_5 (by rw [hn]; decide) rfl ?_
  refine j_aload_n hX dX10_columns_7 1 rfl ?_
  refine j_iload_n hX dX10_columns_8 3 rfl ?_
  refine j_callV (As := [.int ofr]) (rest := []) hX (c_X10_relationAt (xl X) (xK X) g hlt x (yra Y) (yta Y) (yR Y) hC.1 (ynb Y) (yxb Y) (vwf A Y) (aw A) (fun i => nI ((fun _ => 0) i)) ch hC.rels (fun i hi => (hI i hi).1.1) ofr) hC.1.1 rfl lk_X10_48 wI_X10_relationAt wV_X10_X10_relationAt wN_X10 wC_X10_relationAt hd_X10_relationAt rfl (by rw [hL]; decide) (by decide) rfl (Nat.le_of_ble_eq_true rfl) dX10_columns_9 (by rw [hR]; decide) (by rw [hR]; decide) (fun E g9 h9 => jx_out hX hE ⟨1, A, by decide, h9.1, Or.inl ⟨rfl, fun q => h9.2.2 q.2.1, rfl⟩, by rw [← h9.2.1]; exact ⟨Y, ch, N, hC⟩⟩ (by decide) (by decide)) ?_
  rintro _ _ ⟨j, hj, ej, wj, rfl, rfl⟩
  have zj : vnat ofr = j := by rw [ej, vnat_nI (by omega)]
  have qj : isR A ofr := ⟨j, hj, ej, wj⟩
  have rj : g (yR Y j) = some (ob 6 [.ref (ynb Y j), .ref (yxb Y j), vwf A Y j, .int (nI (aw A j)), .int (nI 0), .int (ch j)]) := (hC.2.2.1 j hj).1
  show J X 3 18 g 12 [(7, .ref (yR Y i)), (0, .ref x), (1, .int v), (2, .int ofr), (3, .int a), (4, .int b), (5, .int c), (6, .int d)] [.ref (yR Y j)]
  refine j_astore (lv' := [(8, .ref (yR Y j)), (7, .ref (yR Y i)), (0, .ref x), (1, .int v), (2, .int ofr), (3, .int a), (4, .int b), (5, .int c), (6, .int d)]) hX dX10_columns_12 (by rw [hn]; decide) rfl ?_
  refine j_aload hX dX10_columns_14 0 rfl ?_
  refine j_iload_n hX dX10_columns_16 5 rfl ?_
  refine j_callS (As := [.ref (yR Y j), .int a]) (rest := []) hX (c_X10_needColumnOrNone (xl X) (xK X) g hlt (yR Y j) (ynb Y j) (yxb Y j) (vwf A Y j) (aw A j) (nI 0) (ch j) rj (hI j hj).1.1 a) lk_X10_70 wS_X10_needColumnOrNone wN_X10 wC_X10_needColumnOrNone hd_X10_needColumnOrNone rfl (by rw [hL]; decide) (by decide) rfl (Nat.le_of_ble_eq_true rfl) dX10_columns_17 (by rw [hR]; decide) (by rw [hR]; decide) (fun E g9 h9 => jx_out hX hE ⟨1, A, by decide, h9.1, Or.inl ⟨rfl, fun q => h9.2.2 (by have := q.2.2.1; unfold isN at this; rw [zj] at this; exact this), rfl⟩, by rw [← h9.2.1]; exact ⟨Y, ch, N, hC⟩⟩ (by decide) (by decide)) ?_
  rintro _ _ ⟨rfl, rfl, ca⟩
  have ia : isN A ofr a := by unfold isN; rw [zj]; exact ca
  show J X 4 24 g 20 [(8, .ref (yR Y j)), (7, .ref (yR Y i)), (0, .ref x), (1, .int v), (2, .int ofr), (3, .int a), (4, .int b), (5, .int c), (6, .int d)] []
  refine j_aload hX dX10_columns_20 0 rfl ?_
  refine j_iload hX dX10_columns_22 6 rfl ?_
  refine j_callS (As := [.ref (yR Y j), .int b]) (rest := []) hX (c_X10_needColumnOrNone (xl X) (xK X) g hlt (yR Y j) (ynb Y j) (yxb Y j) (vwf A Y j) (aw A j) (nI 0) (ch j) rj (hI j hj).1.1 b) lk_X10_70 wS_X10_needColumnOrNone wN_X10 wC_X10_needColumnOrNone hd_X10_needColumnOrNone rfl (by rw [hL]; decide) (by decide) rfl (Nat.le_of_ble_eq_true rfl) dX10_columns_24 (by rw [hR]; decide) (by rw [hR]; decide) (fun E g9 h9 => jx_out hX hE ⟨1, A, by decide, h9.1, Or.inl ⟨rfl, fun q => h9.2.2 (by have := q.2.2.2.1; unfold isN at this; rw [zj] at this; exact this), rfl⟩, by rw [← h9.2.1]; exact ⟨Y, ch, N, hC⟩⟩ (by decide) (by decide)) ?_
  rintro _ _ ⟨rfl, rfl, cb⟩
  have ib : isN A ofr b := by unfold isN; rw [zj]; exact cb
  show J X 5 30 g 27 [(8, .ref (yR Y j)), (7, .ref (yR Y i)), (0, .ref x), (1, .int v), (2, .int ofr), (3, .int a), (4, .int b), (5, .int c), (6, .int d)] []
  refine j_aload hX dX10_columns_27 0 rfl ?_
  refine j_iload hX dX10_columns_29 7 rfl ?_
  refine j_callS (As := [.ref (yR Y j), .int c]) (rest := []) hX (c_X10_needColumnOrNone (xl X) (xK X) g hlt (yR Y j) (ynb Y j) (yxb Y j) (vwf A Y j) (aw A j) (nI 0) (ch j) rj (hI j hj).1.1 c) lk_X10_70 wS_X10_needColumnOrNone wN_X10 wC_X10_needColumnOrNone hd_X10_needColumnOrNone rfl (by rw [hL]; decide) (by decide) rfl (Nat.le_of_ble_eq_true rfl) dX10_columns_31 (by rw [hR]; decide) (by rw [hR]; decide) (fun E g9 h9 => jx_out hX hE ⟨1, A, by decide, h9.1, Or.inl ⟨rfl, fun q => h9.2.2 (by have := q.2.2.2.2.1; unfold isN at this; rw [zj] at this; exact this), rfl⟩, by rw [← h9.2.1]; exact ⟨Y, ch, N, hC⟩⟩ (by decide) (by decide)) ?_
  rintro _ _ ⟨rfl, rfl, cc⟩
  have ic : isN A ofr c := by unfold isN; rw [zj]; exact cc
  show J X 6 36 g 34 [(8, .ref (yR Y j)), (7, .ref (yR Y i)), (0, .ref x), (1, .int v), (2, .int ofr), (3, .int a), (4, .int b), (5, .int c), (6, .int d)] []
  refine j_aload hX dX10_columns_34 0 rfl ?_
  refine j_iload hX dX10_columns_36 8 rfl ?_
  refine j_callS (As := [.ref (yR Y j), .int d]) (rest := []) hX (c_X10_needColumnOrNone (xl X) (xK X) g hlt (yR Y j) (ynb Y j) (yxb Y j) (vwf A Y j) (aw A j) (nI 0) (ch j) rj (hI j hj).1.1 d) lk_X10_70 wS_X10_needColumnOrNone wN_X10 wC_X10_needColumnOrNone hd_X10_needColumnOrNone rfl (by rw [hL]; decide) (by decide) rfl (Nat.le_of_ble_eq_true rfl) dX10_columns_38 (by rw [hR]; decide) (by rw [hR]; decide) (fun E g9 h9 => jx_out hX hE ⟨1, A, by decide, h9.1, Or.inl ⟨rfl, fun q => h9.2.2 (by have := q.2.2.2.2.2; unfold isN at this; rw [zj] at this; exact this), rfl⟩, by rw [← h9.2.1]; exact ⟨Y, ch, N, hC⟩⟩ (by decide) (by decide)) ?_
  rintro _ _ ⟨rfl, rfl, cd⟩
  have id : isN A ofr d := by unfold isN; rw [zj]; exact cd
  show J X 7 42 g 41 [(8, .ref (yR Y j)), (7, .ref (yR Y i)), (0, .ref x), (1, .int v), (2, .int ofr), (3, .int a), (4, .int b), (5, .int c), (6, .int d)] []
  refine j_aload hX dX10_columns_41 1 rfl ?_
  refine j_callS (As := [.ref (yR Y i)]) (rest := []) hX (c_X10_needFree (xl X) (xK X) g hlt (yR Y i) (ynb Y i) (yxb Y i) (vwf A Y i) (aw A i) (nI 0) (ch i) ri (hI i hi).1.1) lk_X10_24 wS_X10_needFree wN_X10 wC_X10_needFree hd_X10_needFree rfl (by rw [hL]; decide) (by decide) rfl (Nat.le_of_ble_eq_true rfl) dX10_columns_43 (by rw [hR]; decide) (by rw [hR]; decide) (fun E g9 h9 => jx_out hX hE ⟨2, A, by decide, h9.1, Or.inr (Or.inl ⟨rfl, ⟨⟨i, hi, ei⟩, qj, ia, ib, ic, id⟩, by rw [zi]; exact h9.2.2, rfl⟩), by rw [← h9.2.1]; exact ⟨Y, ch, N, hC⟩⟩ (by decide) (by decide)) ?_
  rintro _ _ ⟨rfl, fi, rfl⟩
  show J X 8 48 g 46 [(8, .ref (yR Y j)), (7, .ref (yR Y i)), (0, .ref x), (1, .int v), (2, .int ofr), (3, .int a), (4, .int b), (5, .int c), (6, .int d)] []
  refine j_iconst (v := nI 4) hX dX10_columns_46 (by decide) ?_
  refine j_newI (n := 4) hX (rfl) (by decide) dX10_columns_47 (by rw [hR]; decide) (by rw [hR]; decide) (fun ck fck => ?_)
  obtain ⟨g1, eg1⟩ : ∃ z : Wd, z = up g ck (aI (xK X) 4 (fun _ => 0)) := ⟨_, rfl⟩
  refine j_w eg1.symm ?_
  have k1_x := (congrFun eg1 x).trans ((up_n (ne_fr (hC.1.1) fck)).trans (hC.1.1))
  have k1_yRYi := (congrFun eg1 (yR Y i)).trans ((up_n (ne_fr (ri) fck)).trans (ri))
  have k1_yRYj := (congrFun eg1 (yR Y j)).trans ((up_n (ne_fr (rj) fck)).trans (rj))
  have k1_ck : g1 ck = some (aI (xK X) 4 (fun _ => 0)) := by rw [eg1]; exact up_s _ _ _
  show J X 9 52 g1 49 [(8, .ref (yR Y j)), (7, .ref (yR Y i)), (0, .ref x), (1, .int v), (2, .int ofr), (3, .int a), (4, .int b), (5, .int c), (6, .int d)] [.ref ck]
  refine j_dup hX dX10_columns_49 rfl ?_
  refine j_iconst (v := nI 0) hX dX10_columns_50 (by decide) ?_
  refine j_iload_n hX dX10_columns_51 5 rfl ?_
  refine j_iastN hX k1_ck (0) (rfl) (by omega) (by decide) dX10_columns_52 ?_
  obtain ⟨g2, eg2⟩ : ∃ z : Wd, z = up g1 ck (aI (xK X) 4 (upd (fun _ => 0) (0) a)) := ⟨_, rfl⟩
  refine j_w eg2.symm ?_
  have k2_x := (congrFun eg2 x).trans ((up_n (by first | exact ne_ob (k1_x) (k1_ck) (by first | simp | decide | (intro h9; cases h9) | (simp only [ne_eq]; intro h9; injection h9 with h8; simp at h8)) | assumption | (apply Ne.symm; assumption))).trans (k1_x))
  have k2_yRYi := (congrFun eg2 (yR Y i)).trans ((up_n (by first | exact ne_ob (k1_yRYi) (k1_ck) (by first | simp | decide | (intro h9; cases h9) | (simp only [ne_eq]; intro h9; injection h9 with h8; simp at h8)) | assumption | (apply Ne.symm; assumption))).trans (k1_yRYi))
  have k2_yRYj := (congrFun eg2 (yR Y j)).trans ((up_n (by first | exact ne_ob (k1_yRYj) (k1_ck) (by first | simp | decide | (intro h9; cases h9) | (simp only [ne_eq]; intro h9; injection h9 with h8; simp at h8)) | assumption | (apply Ne.symm; assumption))).trans (k1_yRYj))
  have k2_ck : g2 ck = some (aI (xK X) 4 (upd (fun _ => 0) (0) a)) := by rw [eg2]; exact up_s _ _ _
  refine j_dup hX dX10_columns_53 rfl ?_
  refine j_iconst (v := nI 1) hX dX10_columns_54 (by decide) ?_
  refine j_iload hX dX10_columns_55 6 rfl ?_
  refine j_iastN hX k2_ck (1) (rfl) (by omega) (by decide) dX10_columns_57 ?_
  obtain ⟨g3, eg3⟩ : ∃ z : Wd, z = up g2 ck (aI (xK X) 4 (upd (upd (fun _ => 0) (0) a) (1) b)) := ⟨_, rfl⟩
  refine j_w eg3.symm ?_
  have k3_x := (congrFun eg3 x).trans ((up_n (by first | exact ne_ob (k2_x) (k2_ck) (by first | simp | decide | (intro h9; cases h9) | (simp only [ne_eq]; intro h9; injection h9 with h8; simp at h8)) | assumption | (apply Ne.symm; assumption))).trans (k2_x))
  have k3_yRYi := (congrFun eg3 (yR Y i)).trans ((up_n (by first | exact ne_ob (k2_yRYi) (k2_ck) (by first | simp | decide | (intro h9; cases h9) | (simp only [ne_eq]; intro h9; injection h9 with h8; simp at h8)) | assumption | (apply Ne.symm; assumption))).trans (k2_yRYi))
  have k3_yRYj := (congrFun eg3 (yR Y j)).trans ((up_n (by first | exact ne_ob (k2_yRYj) (k2_ck) (by first | simp | decide | (intro h9; cases h9) | (simp only [ne_eq]; intro h9; injection h9 with h8; simp at h8)) | assumption | (apply Ne.symm; assumption))).trans (k2_yRYj))
  have k3_ck : g3 ck = some (aI (xK X) 4 (upd (upd (fun _ => 0) (0) a) (1) b)) := by rw [eg3]; exact up_s _ _ _
  refine j_dup hX dX10_columns_58 rfl ?_
  refine j_iconst (v := nI 2) hX dX10_columns_59 (by decide) ?_
  refine j_iload hX dX10_columns_60 7 rfl ?_
  refine j_iastN hX k3_ck (2) (rfl) (by omega) (by decide) dX10_columns_62 ?_
  obtain ⟨g4, eg4⟩ : ∃ z : Wd, z = up g3 ck (aI (xK X) 4 (upd (upd (upd (fun _ => 0) (0) a) (1) b) (2) c)) := ⟨_, rfl⟩
  refine j_w eg4.symm ?_
  have k4_x := (congrFun eg4 x).trans ((up_n (by first | exact ne_ob (k3_x) (k3_ck) (by first | simp | decide | (intro h9; cases h9) | (simp only [ne_eq]; intro h9; injection h9 with h8; simp at h8)) | assumption | (apply Ne.symm; assumption))).trans (k3_x))
  have k4_yRYi := (congrFun eg4 (yR Y i)).trans ((up_n (by first | exact ne_ob (k3_yRYi) (k3_ck) (by first | simp | decide | (intro h9; cases h9) | (simp only [ne_eq]; intro h9; injection h9 with h8; simp at h8)) | assumption | (apply Ne.symm; assumption))).trans (k3_yRYi))
  have k4_yRYj := (congrFun eg4 (yR Y j)).trans ((up_n (by first | exact ne_ob (k3_yRYj) (k3_ck) (by first | simp | decide | (intro h9; cases h9) | (simp only [ne_eq]; intro h9; injection h9 with h8; simp at h8)) | assumption | (apply Ne.symm; assumption))).trans (k3_yRYj))
  have k4_ck : g4 ck = some (aI (xK X) 4 (upd (upd (upd (fun _ => 0) (0) a) (1) b) (2) c)) := by rw [eg4]; exact up_s _ _ _
  refine j_dup hX dX10_columns_63 rfl ?_
  refine j_iconst (v := nI 3) hX dX10_columns_64 (by decide) ?_
  refine j_iload hX dX10_columns_65 8 rfl ?_
  refine j_iastN hX k4_ck (3) (rfl) (by omega) (by decide) dX10_columns_67 ?_
  obtain ⟨g5, eg5⟩ : ∃ z : Wd, z = up g4 ck (aI (xK X) 4 (upd (upd (upd (upd (fun _ => 0) (0) a) (1) b) (2) c) (3) d)) := ⟨_, rfl⟩
  refine j_w eg5.symm ?_
  have k5_x := (congrFun eg5 x).trans ((up_n (by first | exact ne_ob (k4_x) (k4_ck) (by first | simp | decide | (intro h9; cases h9) | (simp only [ne_eq]; intro h9; injection h9 with h8; simp at h8)) | assumption | (apply Ne.symm; assumption))).trans (k4_x))
  have k5_yRYi := (congrFun eg5 (yR Y i)).trans ((up_n (by first | exact ne_ob (k4_yRYi) (k4_ck) (by first | simp | decide | (intro h9; cases h9) | (simp only [ne_eq]; intro h9; injection h9 with h8; simp at h8)) | assumption | (apply Ne.symm; assumption))).trans (k4_yRYi))
  have k5_yRYj := (congrFun eg5 (yR Y j)).trans ((up_n (by first | exact ne_ob (k4_yRYj) (k4_ck) (by first | simp | decide | (intro h9; cases h9) | (simp only [ne_eq]; intro h9; injection h9 with h8; simp at h8)) | assumption | (apply Ne.symm; assumption))).trans (k4_yRYj))
  have k5_ck : g5 ck = some (aI (xK X) 4 (upd (upd (upd (upd (fun _ => 0) (0) a) (1) b) (2) c) (3) d)) := by rw [eg5]; exact up_s _ _ _
  refine j_astore (lv' := [(9, .ref ck), (8, .ref (yR Y j)), (7, .ref (yR Y i)), (0, .ref x), (1, .int v), (2, .int ofr), (3, .int a), (4, .int b), (5, .int c), (6, .int d)]) hX dX10_columns_68 (by rw [hn]; decide) rfl ?_
  have hsub5 : Sub g g5 := by rw [eg5, eg4, eg3, eg2, eg1]; exact (((((Sub.rf g).up fck).up fck).up fck).up fck).up fck
  have hck5 : g5 ck = some (aI (xK X) 4 (nC a b c d)) := k5_ck
  refine j_aload hX dX10_columns_70 2 rfl ?_
  refine j_aload hX dX10_columns_72 0 rfl ?_
  refine j_callS (As := [.ref ck]) (rest := [.ref (yR Y i)]) hX (c_X10_countChosen (xl X) (xK X) g5 hlt ck (nC a b c d) hck5) lk_X10_73 wS_X10_countChosen wN_X10 wC_X10_countChosen hd_X10_countChosen rfl (by rw [hL]; decide) (by decide) rfl (Nat.le_of_ble_eq_true rfl) dX10_columns_74 (by rw [hR]; decide) (by rw [hR]; decide) (fun E g9 h9 => jx_out hX hE ⟨3, A, by decide, h9.1, Or.inr (Or.inr (Or.inl ⟨rfl, ⟨⟨i, hi, ei⟩, qj, ia, ib, ic, id⟩, by rw [zi]; omega, h9.2.2, rfl⟩)), by rw [← h9.2.1]; exact ⟨Y, ch, N, hC.sub hsub5⟩⟩ (by decide) (by decide)) ?_
  rintro _ _ ⟨k9, k0, k4, rfl, rfl, kp, kq⟩
  have kw : cwN (nC a b c d) = k9 := chK_w k4 kp kq
  have kk : chK (nC a b c d) := ⟨k9, k0, k4, kp, kq⟩
  show J X 10 58 g5 77 [(9, .ref ck), (8, .ref (yR Y j)), (7, .ref (yR Y i)), (0, .ref x), (1, .int v), (2, .int ofr), (3, .int a), (4, .int b), (5, .int c), (6, .int d)] [.int (nI k9), .ref (yR Y i)]
  refine j_new (ci := 1) (fs := [.null, .null, .int 0, .null, .null]) hX rfl wf_X1 tyX1_ok lk_X10_77 wA_X1 wN_X1 (fun j hj => by rcases (show j = 0 ∨ j = 1 ∨ j = 2 ∨ j = 3 ∨ j = 4 by omega) with rfl | rfl | rfl | rfl | rfl <;> rfl) dX10_columns_77 (by rw [hR]; decide) (by rw [hR]; decide) (fun vv fvv => ?_)
  obtain ⟨g6, eg6⟩ : ∃ z : Wd, z = up g5 vv (ob 1 [.null, .null, .int 0, .null, .null]) := ⟨_, rfl⟩
  refine j_w eg6.symm ?_
  have k6_x := (congrFun eg6 x).trans ((up_n (ne_fr (k5_x) fvv)).trans (k5_x))
  have k6_yRYi := (congrFun eg6 (yR Y i)).trans ((up_n (ne_fr (k5_yRYi) fvv)).trans (k5_yRYi))
  have k6_yRYj := (congrFun eg6 (yR Y j)).trans ((up_n (ne_fr (k5_yRYj) fvv)).trans (k5_yRYj))
  have k6_ck := (congrFun eg6 ck).trans ((up_n (ne_fr (k5_ck) fvv)).trans (k5_ck))
  have k6_vv : g6 vv = some (ob 1 [.null, .null, .int 0, .null, .null]) := by rw [eg6]; exact up_s _ _ _
  show J X 11 63 g6 80 [(9, .ref ck), (8, .ref (yR Y j)), (7, .ref (yR Y i)), (0, .ref x), (1, .int v), (2, .int ofr), (3, .int a), (4, .int b), (5, .int c), (6, .int d)] [.ref vv, .int (nI k9), .ref (yR Y i)]
  have fvv0 : g vv = none := dom_s hsub5 fvv
  have hsub : Sub g g6 := by rw [eg6]; exact hsub5.up fvv0
  have hck6 : g6 ck = some (aI (xK X) 4 (nC a b c d)) := k6_ck
  have nckv : ck ≠ vv := ne_fr hck5 fvv
  refine j_dup hX dX10_columns_80 rfl ?_
  refine j_aload hX dX10_columns_81 1 rfl ?_
  refine j_aload hX dX10_columns_83 0 rfl ?_
  refine j_callI (As := [.ref (yR Y j), .ref ck]) (rest := [.ref vv, .int (nI k9), .ref (yR Y i)]) hX (c_X1_init (xl X) (xK X) g g6 vv (yR Y j) (ad A j) ck fvv0 hsub (hC.dep hI hj) (Nat.lt_of_lt_of_le (hI.dp hj) (by decide)) k6_vv) lk_X10_79 wI_X1_init wN_X1 wC_X1_init rfl hd_X1_init rfl (by rw [hL]; decide) (by decide) rfl (Nat.le_of_ble_eq_true rfl) dX10_columns_85 (by rw [hR]; decide) (by rw [hR]; decide) ?_
  rintro _ w1 ⟨rfl, rw, frw, nrw, hrw1, hv1, hF1⟩
  have hsub1 : Sub g w1 := Sub.ctor hsub fvv0 frw hF1
  have frw0 : g rw = none := dom_s hsub frw
  show J X 12 67 w1 88 [(9, .ref ck), (8, .ref (yR Y j)), (7, .ref (yR Y i)), (0, .ref x), (1, .int v), (2, .int ofr), (3, .int a), (4, .int b), (5, .int c), (6, .int d)] [.ref vv, .int (nI k9), .ref (yR Y i)]
  refine j_callS (As := [.ref (yR Y i), .int (nI k9), .ref vv]) (rest := []) hX (c_X10_makeView (xl X) (xK X) g w1 hlt x A Y ch N hC hI i hi fi hsub1 vv k9 3 j j rw ck (nC a b c d) false (by decide) fvv0 frw0 (fun _ => fck) (show vwAt _ _ _ 3 _ _ _ _ _ _ _ from ⟨hv1, (hF1 ck (by simp [nckv, ne_fr hck6 frw])).trans hck6, ne_fr hck6 frw⟩) hrw1 hj hj wj wj (fun q => by
      have h4 : ∀ z : Int32, (z = -1 ∨ ∃ c, c < aw A j ∧ z = nI c) → (z = -1 ∨ ∃ c, c < 4 ∧ z = nI c) := fun z hz => hz.elim Or.inl (fun ⟨c9, b1, b2⟩ => Or.inr ⟨c9, by have := (hI j hj).1.1; omega, b2⟩)
      rcases (show q = 0 ∨ q = 1 ∨ q = 2 ∨ q = 3 ∨ 4 ≤ q by omega) with e | e | e | e | e
      · rw [e, nC_0]; exact h4 _ ca
      · rw [e, nC_1]; exact h4 _ cb
      · rw [e, nC_2]; exact h4 _ cc
      · rw [e, nC_3]; exact h4 _ cd
      · rw [nC_4 e]; exact Or.inr ⟨0, by decide, rfl⟩)) lk_X10_66 wS_X10_makeView wN_X10 wC_X10_makeView hd_X10_makeView rfl (by rw [hL]; decide) (by decide) rfl (Nat.le_of_ble_eq_true rfl) dX10_columns_88 (by rw [hR]; decide) (by rw [hR]; decide) (fun E g9 h9 => jx_out hX hE ⟨4, A, by decide, h9.1, Or.inr (Or.inr (Or.inr (Or.inl ⟨rfl, ⟨⟨i, hi, ei⟩, qj, ia, ib, ic, id⟩, by rw [zi]; omega, kk, fun ⟨B, hB⟩ => by rw [zj] at hB; exact absurd (h9.2.1.symm.trans hB) (by simp), rfl⟩))), h9.2.2⟩ (by decide) (by decide)) ?_
  rintro _ g2 ⟨rfl, B9, ho9, hC9⟩
  show J X 13 73 g2 91 [(9, .ref ck), (8, .ref (yR Y j)), (7, .ref (yR Y i)), (0, .ref x), (1, .int v), (2, .int ofr), (3, .int a), (4, .int b), (5, .int c), (6, .int d)] []
  exact j_vret hX hE dX10_columns_91 (⟨rfl, _, (by unfold colO viewO OutG; rw [zi, zj, kw]; exact Or.inr (Or.inr (Or.inr (Or.inr ⟨rfl, ⟨⟨i, hi, ei⟩, qj, ia, ib, ic, id⟩, by omega, kk, B9, ho9, rfl⟩)))), hC9⟩) (by decide) (by decide)

set_option maxRecDepth 20000 in
set_option maxHeartbeats 600000 in
/-- join -/
theorem c_X10_join (l : Launch) (K : Cst) (g : Wd) (hlt : l.stackTraces = false) (x : Nat) (A : Ab) (Y : Lt) (ch : Nat → Int32) (N : Nat → Bg) (hC : CS K g x A Y ch (fun _ => 0) N) (hI : Inv A) (v le rI c d : Int32) : Ct l K yX10_join cX10_join 10 none 9 [.ref x, .int v, .int le, .int rI, .int c, .int d] g (PostG K x (joinO A v le rI c d)) (XG K x (joinO A v le rI c d)) 11 64 := by
  refine ct_of (by decide) (Nat.le_of_ble_eq_true rfl) ?_
  intro X hl hK hX hE hn hL hR hm
  subst hl; subst hK
  show J X 0 0 g 0 [(0, .ref x), (1, .int v), (2, .int le), (3, .int rI), (4, .int c), (5, .int d)] []
  refine j_aload_n hX dX10_join_0 0 rfl ?_
  refine j_iload_n hX dX10_join_1 1 rfl ?_
  refine j_callV (As := [.int v]) (rest := []) hX (c_X10_placeAt (xl X) (xK X) g hlt x (yra Y) (yta Y) (yR Y) hC.1 v) hC.1.1 rfl lk_X10_20 wI_X10_placeAt wV_X10_X10_placeAt wN_X10 wC_X10_placeAt hd_X10_placeAt rfl (by rw [hL]; decide) (by decide) rfl (Nat.le_of_ble_eq_true rfl) dX10_join_2 (by rw [hR]; decide) (by rw [hR]; decide) (fun E g9 h9 => jx_out hX hE ⟨1, A, by decide, h9.1, Or.inl ⟨rfl, fun q => h9.2.2 q.1, rfl⟩, by rw [← h9.2.1]; exact ⟨Y, ch, N, hC⟩⟩ (by decide) (by decide)) ?_
  rintro _ _ ⟨i, hi, ei, rfl, rfl⟩
  have zi : vnat v = i := by rw [ei, vnat_nI (by omega)]
  have ri : g (yR Y i) = some (ob 6 [.ref (ynb Y i), .ref (yxb Y i), vwf A Y i, .int (nI (aw A i)), .int (nI 0), .int (ch i)]) := (hC.2.2.1 i hi).1
  show J X 1 6 g 5 [(0, .ref x), (1, .int v), (2, .int le), (3, .int rI), (4, .int c), (5, .int d)] [.ref (yR Y i)]
  refine j_astore (lv' := [(6, .ref (yR Y i)), (0, .ref x), (1, .int v), (2, .int le), (3, .int rI), (4, .int c), (5, .int d)]) hX dX10_join_5 (by rw [hn]; decide) rfl ?_
  refine j_aload_n hX dX10_join_7 1 rfl ?_
  refine j_iload_n hX dX10_join_8 3 rfl ?_
  refine j_callV (As := [.int le]) (rest := []) hX (c_X10_relationAt (xl X) (xK X) g hlt x (yra Y) (yta Y) (yR Y) hC.1 (ynb Y) (yxb Y) (vwf A Y) (aw A) (fun i => nI ((fun _ => 0) i)) ch hC.rels (fun i hi => (hI i hi).1.1) le) hC.1.1 rfl lk_X10_48 wI_X10_relationAt wV_X10_X10_relationAt wN_X10 wC_X10_relationAt hd_X10_relationAt rfl (by rw [hL]; decide) (by decide) rfl (Nat.le_of_ble_eq_true rfl) dX10_join_9 (by rw [hR]; decide) (by rw [hR]; decide) (fun E g9 h9 => jx_out hX hE ⟨1, A, by decide, h9.1, Or.inl ⟨rfl, fun q => h9.2.2 q.2.1.1, rfl⟩, by rw [← h9.2.1]; exact ⟨Y, ch, N, hC⟩⟩ (by decide) (by decide)) ?_
  rintro _ _ ⟨j, hj, ej, wj, rfl, rfl⟩
  have zj : vnat le = j := by rw [ej, vnat_nI (by omega)]
  have qj : isR A le := ⟨j, hj, ej, wj⟩
  have rj : g (yR Y j) = some (ob 6 [.ref (ynb Y j), .ref (yxb Y j), vwf A Y j, .int (nI (aw A j)), .int (nI 0), .int (ch j)]) := (hC.2.2.1 j hj).1
  show J X 3 18 g 12 [(6, .ref (yR Y i)), (0, .ref x), (1, .int v), (2, .int le), (3, .int rI), (4, .int c), (5, .int d)] [.ref (yR Y j)]
  refine j_astore (lv' := [(7, .ref (yR Y j)), (6, .ref (yR Y i)), (0, .ref x), (1, .int v), (2, .int le), (3, .int rI), (4, .int c), (5, .int d)]) hX dX10_join_12 (by rw [hn]; decide) rfl ?_
  refine j_aload_n hX dX10_join_14 2 rfl ?_
  refine j_iload_n hX dX10_join_15 5 rfl ?_
  refine j_callV (As := [.int rI]) (rest := []) hX (c_X10_relationAt (xl X) (xK X) g hlt x (yra Y) (yta Y) (yR Y) hC.1 (ynb Y) (yxb Y) (vwf A Y) (aw A) (fun i => nI ((fun _ => 0) i)) ch hC.rels (fun i hi => (hI i hi).1.1) rI) hC.1.1 rfl lk_X10_48 wI_X10_relationAt wV_X10_X10_relationAt wN_X10 wC_X10_relationAt hd_X10_relationAt rfl (by rw [hL]; decide) (by decide) rfl (Nat.le_of_ble_eq_true rfl) dX10_join_16 (by rw [hR]; decide) (by rw [hR]; decide) (fun E g9 h9 => jx_out hX hE ⟨1, A, by decide, h9.1, Or.inl ⟨rfl, fun q => h9.2.2 q.2.2.1, rfl⟩, by rw [← h9.2.1]; exact ⟨Y, ch, N, hC⟩⟩ (by decide) (by decide)) ?_
  rintro _ _ ⟨k, hk, ek, wk, rfl, rfl⟩
  have zk : vnat rI = k := by rw [ek, vnat_nI (by omega)]
  have qk : isR A rI := ⟨k, hk, ek, wk⟩
  have rk : g (yR Y k) = some (ob 6 [.ref (ynb Y k), .ref (yxb Y k), vwf A Y k, .int (nI (aw A k)), .int (nI 0), .int (ch k)]) := (hC.2.2.1 k hk).1
  show J X 5 30 g 19 [(7, .ref (yR Y j)), (6, .ref (yR Y i)), (0, .ref x), (1, .int v), (2, .int le), (3, .int rI), (4, .int c), (5, .int d)] [.ref (yR Y k)]
  refine j_astore (lv' := [(8, .ref (yR Y k)), (7, .ref (yR Y j)), (6, .ref (yR Y i)), (0, .ref x), (1, .int v), (2, .int le), (3, .int rI), (4, .int c), (5, .int d)]) hX dX10_join_19 (by rw [hn]; decide) rfl ?_
  refine j_aload hX dX10_join_21 1 rfl ?_
  refine j_iload hX dX10_join_23 7 rfl ?_
  refine j_callS (As := [.ref (yR Y j), .int c]) (rest := []) hX (c_X10_needColumn (xl X) (xK X) g hlt (yR Y j) (ynb Y j) (yxb Y j) (vwf A Y j) (aw A j) (nI 0) (ch j) rj (hI j hj).1.1 c) lk_X10_51 wS_X10_needColumn wN_X10 wC_X10_needColumn hd_X10_needColumn rfl (by rw [hL]; decide) (by decide) rfl (Nat.le_of_ble_eq_true rfl) dX10_join_25 (by rw [hR]; decide) (by rw [hR]; decide) (fun E g9 h9 => jx_out hX hE ⟨1, A, by decide, h9.1, Or.inl ⟨rfl, fun q => h9.2.2 (by have := q.2.1.2; rw [zj] at this; exact this), rfl⟩, by rw [← h9.2.1]; exact ⟨Y, ch, N, hC⟩⟩ (by decide) (by decide)) ?_
  rintro _ _ ⟨rfl, rfl, cc⟩
  have ic : isC A le c := ⟨qj, by rw [zj]; exact cc⟩
  show J X 6 36 g 28 [(8, .ref (yR Y k)), (7, .ref (yR Y j)), (6, .ref (yR Y i)), (0, .ref x), (1, .int v), (2, .int le), (3, .int rI), (4, .int c), (5, .int d)] []
  refine j_aload hX dX10_join_28 0 rfl ?_
  refine j_iload hX dX10_join_30 8 rfl ?_
  refine j_callS (As := [.ref (yR Y k), .int d]) (rest := []) hX (c_X10_needColumn (xl X) (xK X) g hlt (yR Y k) (ynb Y k) (yxb Y k) (vwf A Y k) (aw A k) (nI 0) (ch k) rk (hI k hk).1.1 d) lk_X10_51 wS_X10_needColumn wN_X10 wC_X10_needColumn hd_X10_needColumn rfl (by rw [hL]; decide) (by decide) rfl (Nat.le_of_ble_eq_true rfl) dX10_join_32 (by rw [hR]; decide) (by rw [hR]; decide) (fun E g9 h9 => jx_out hX hE ⟨1, A, by decide, h9.1, Or.inl ⟨rfl, fun q => h9.2.2 (by have := q.2.2.2; rw [zk] at this; exact this), rfl⟩, by rw [← h9.2.1]; exact ⟨Y, ch, N, hC⟩⟩ (by decide) (by decide)) ?_
  rintro _ _ ⟨rfl, rfl, cd⟩
  have id : isC A rI d := ⟨qk, by rw [zk]; exact cd⟩
  show J X 7 42 g 35 [(8, .ref (yR Y k)), (7, .ref (yR Y j)), (6, .ref (yR Y i)), (0, .ref x), (1, .int v), (2, .int le), (3, .int rI), (4, .int c), (5, .int d)] []
  refine j_aload hX dX10_join_35 2 rfl ?_
  refine j_callS (As := [.ref (yR Y i)]) (rest := []) hX (c_X10_needFree (xl X) (xK X) g hlt (yR Y i) (ynb Y i) (yxb Y i) (vwf A Y i) (aw A i) (nI 0) (ch i) ri (hI i hi).1.1) lk_X10_24 wS_X10_needFree wN_X10 wC_X10_needFree hd_X10_needFree rfl (by rw [hL]; decide) (by decide) rfl (Nat.le_of_ble_eq_true rfl) dX10_join_37 (by rw [hR]; decide) (by rw [hR]; decide) (fun E g9 h9 => jx_out hX hE ⟨2, A, by decide, h9.1, Or.inr (Or.inl ⟨rfl, ⟨⟨i, hi, ei⟩, ic, id⟩, by rw [zi]; exact h9.2.2, rfl⟩), by rw [← h9.2.1]; exact ⟨Y, ch, N, hC⟩⟩ (by decide) (by decide)) ?_
  rintro _ _ ⟨rfl, fi, rfl⟩
  show J X 8 48 g 40 [(8, .ref (yR Y k)), (7, .ref (yR Y j)), (6, .ref (yR Y i)), (0, .ref x), (1, .int v), (2, .int le), (3, .int rI), (4, .int c), (5, .int d)] []
  refine j_aload hX dX10_join_40 1 rfl ?_
  refine j_getN (v := .int (nI (aw A j))) hX rj rfl wf_X6 3 (by decide) nk_X10_57 (fun _ h => h) rfl dX10_join_42 ?_
  refine j_aload hX dX10_join_45 0 rfl ?_
  refine j_getN (v := .int (nI (aw A k))) hX rk rfl wf_X6 3 (by decide) nk_X10_57 (fun _ h => h) rfl dX10_join_47 ?_
  refine j_iadd hX dX10_join_50 ?_
  refine j_eqi (y := nI (aw A j + aw A k)) (nI_add _ _) ?_
  refine j_istore (lv' := [(9, .int (nI (aw A j + aw A k))), (8, .ref (yR Y k)), (7, .ref (yR Y j)), (6, .ref (yR Y i)), (0, .ref x), (1, .int v), (2, .int le), (3, .int rI), (4, .int c), (5, .int d)]) hX dX10_join_51 (by rw [hn]; decide) rfl ?_
  rcases Nat.lt_or_ge 4 (aw A j + aw A k) with h4 | h4
  · refine j_iload hX dX10_join_53 0 rfl ?_
    refine j_iconst (v := nI 4) hX dX10_join_55 (by decide) ?_
    refine j_icmp_le hX 69 dX10_join_56 (by decide) (fun c_56 => absurd c_56 (nI_ge (by omega) (by have := (hI j hj).1.1; have := (hI k hk).1.1; omega))) (fun _ => ?_)
    exact j_IAE hX hE hlt sk_X10_82 (by rw [hL]; decide) (Nat.le_of_ble_eq_true rfl) dX10_join_59 dX10_join_62 dX10_join_63 dX10_join_65 dX10_join_68 (⟨3, A, by decide, rfl, Or.inr (Or.inr (Or.inl ⟨rfl, ⟨⟨i, hi, ei⟩, ic, id⟩, by rw [zi]; omega, by rw [zj, zk]; omega, rfl⟩)), Y, ch, N, hC⟩) (by decide) (by decide) (by rw [hR]; decide) (by rw [hR]; decide)
  · refine j_iload hX dX10_join_53 0 rfl ?_
    refine j_iconst (v := nI 4) hX dX10_join_55 (by decide) ?_
    refine j_icmp_le hX 69 dX10_join_56 (by decide) (fun _ => ?_) (fun c_56 => absurd (nI_le (b := 4) h4 (by decide)) c_56)
    refine j_aload hX dX10_join_69 3 rfl ?_
    refine j_iload hX dX10_join_71 0 rfl ?_
    refine j_new (ci := 4) (fs := [.null, .null, .int 0, .null, .int 0, .int 0]) hX rfl wf_X4 tyX4_ok lk_X10_84 wA_X4 wN_X4 (fun j hj => by rcases (show j = 0 ∨ j = 1 ∨ j = 2 ∨ j = 3 ∨ j = 4 ∨ j = 5 by omega) with rfl | rfl | rfl | rfl | rfl | rfl <;> rfl) dX10_join_73 (by rw [hR]; decide) (by rw [hR]; decide) (fun vv fvv => ?_)
    obtain ⟨g1, eg1⟩ : ∃ z : Wd, z = up g vv (ob 4 [.null, .null, .int 0, .null, .int 0, .int 0]) := ⟨_, rfl⟩
    refine j_w eg1.symm ?_
    have k1_x := (congrFun eg1 x).trans ((up_n (ne_fr (hC.1.1) fvv)).trans (hC.1.1))
    have k1_yRYi := (congrFun eg1 (yR Y i)).trans ((up_n (ne_fr (ri) fvv)).trans (ri))
    have k1_yRYj := (congrFun eg1 (yR Y j)).trans ((up_n (ne_fr (rj) fvv)).trans (rj))
    have k1_yRYk := (congrFun eg1 (yR Y k)).trans ((up_n (ne_fr (rk) fvv)).trans (rk))
    have k1_vv : g1 vv = some (ob 4 [.null, .null, .int 0, .null, .int 0, .int 0]) := by rw [eg1]; exact up_s _ _ _
    show J X 9 54 g1 76 [(9, .int (nI (aw A j + aw A k))), (8, .ref (yR Y k)), (7, .ref (yR Y j)), (6, .ref (yR Y i)), (0, .ref x), (1, .int v), (2, .int le), (3, .int rI), (4, .int c), (5, .int d)] [.ref vv, .int (nI (aw A j + aw A k)), .ref (yR Y i)]
    have fvv0 : g vv = none := fvv
    have hsub : Sub g g1 := by rw [eg1]; exact Sub.up (Sub.rf g) fvv
    refine j_dup hX dX10_join_76 rfl ?_
    refine j_aload hX dX10_join_77 2 rfl ?_
    refine j_aload hX dX10_join_79 1 rfl ?_
    refine j_iload hX dX10_join_81 8 rfl ?_
    refine j_iload hX dX10_join_83 9 rfl ?_
    refine j_callI (As := [.ref (yR Y j), .ref (yR Y k), .int c, .int d]) (rest := [.ref vv, .int (nI (aw A j + aw A k)), .ref (yR Y i)]) hX (c_X4_init (xl X) (xK X) g g1 vv (yR Y j) (yR Y k) (ad A j) (ad A k) c d fvv0 hsub (hC.dep hI hj) (hC.dep hI hk) (Nat.lt_of_lt_of_le (hI.dp hj) (by decide)) (Nat.lt_of_lt_of_le (hI.dp hk) (by decide)) k1_vv) lk_X10_86 wI_X4_init wN_X4 wC_X4_init rfl hd_X4_init rfl (by rw [hL]; decide) (by decide) rfl (Nat.le_of_ble_eq_true rfl) dX10_join_85 (by rw [hR]; decide) (by rw [hR]; decide) ?_
    rintro _ w1 ⟨rfl, rw, frw, nrw, hrw1, hv1, hF1⟩
    have hsub1 : Sub g w1 := Sub.ctor hsub fvv0 frw hF1
    have frw0 : g rw = none := dom_s hsub frw
    show J X 10 58 w1 88 [(9, .int (nI (aw A j + aw A k))), (8, .ref (yR Y k)), (7, .ref (yR Y j)), (6, .ref (yR Y i)), (0, .ref x), (1, .int v), (2, .int le), (3, .int rI), (4, .int c), (5, .int d)] [.ref vv, .int (nI (aw A j + aw A k)), .ref (yR Y i)]
    refine j_callS (As := [.ref (yR Y i), .int (nI (aw A j + aw A k)), .ref vv]) (rest := []) hX (c_X10_makeView (xl X) (xK X) g w1 hlt x A Y ch N hC hI i hi fi hsub1 vv (aw A j + aw A k) 4 j k rw 0 (nC c d 0 0) false (by decide) fvv0 frw0 (fun e => absurd e (by decide)) (by unfold vwAt; simp only [nC_0, nC_1]; exact hv1) hrw1 hj hk wj wk ⟨by rw [nC_0]; exact (by obtain ⟨k9, b1, b2⟩ := cc; exact ⟨k9, by have := (hI j hj).1.1; omega, b2⟩), by rw [nC_1]; exact (by obtain ⟨k9, b1, b2⟩ := cd; exact ⟨k9, by have := (hI k hk).1.1; omega, b2⟩), (hI j hj).1.1⟩) lk_X10_66 wS_X10_makeView wN_X10 wC_X10_makeView hd_X10_makeView rfl (by rw [hL]; decide) (by decide) rfl (Nat.le_of_ble_eq_true rfl) dX10_join_88 (by rw [hR]; decide) (by rw [hR]; decide) (fun E g9 h9 => jx_out hX hE ⟨4, A, by decide, h9.1, Or.inr (Or.inr (Or.inr (Or.inl ⟨rfl, ⟨⟨i, hi, ei⟩, ic, id⟩, by rw [zi]; omega, by rw [zj, zk]; exact h4, fun ⟨B, hB⟩ => by rw [zj, zk] at hB; exact absurd (h9.2.1.symm.trans hB) (by simp), rfl⟩))), h9.2.2⟩ (by decide) (by decide)) ?_
    rintro _ g2 ⟨rfl, B9, ho9, hC9⟩
    show J X 11 64 g2 91 [(9, .int (nI (aw A j + aw A k))), (8, .ref (yR Y k)), (7, .ref (yR Y j)), (6, .ref (yR Y i)), (0, .ref x), (1, .int v), (2, .int le), (3, .int rI), (4, .int c), (5, .int d)] []
    exact j_vret hX hE dX10_join_91 (⟨rfl, _, (by unfold joinO viewO OutG; rw [zi, zj, zk]; exact Or.inr (Or.inr (Or.inr (Or.inr ⟨rfl, ⟨⟨i, hi, ei⟩, ic, id⟩, by omega, h4, B9, ho9, rfl⟩)))), hC9⟩) (by decide) (by decide)

set_option maxRecDepth 20000 in
set_option maxHeartbeats 600000 in
/-- both -/
theorem c_X10_both (l : Launch) (K : Cst) (g : Wd) (hlt : l.stackTraces = false) (x : Nat) (A : Ab) (Y : Lt) (ch : Nat → Int32) (N : Nat → Bg) (hC : CS K g x A Y ch (fun _ => 0) N) (hI : Inv A) (v le rI : Int32) (ls : Bool) : Ct l K yX10_both cX10_both 9 none 9 [.ref x, .int v, .int le, .int rI, .int (b01 ls)] g (PostG K x (bothO A v le rI ls)) (XG K x (bothO A v le rI ls)) 9 50 := by
  refine ct_of (by decide) (Nat.le_of_ble_eq_true rfl) ?_
  intro X hl hK hX hE hn hL hR hm
  subst hl; subst hK
  show J X 0 0 g 0 [(0, .ref x), (1, .int v), (2, .int le), (3, .int rI), (4, .int (b01 ls))] []
  cases ls with
  | false =>
    show J X 0 0 g 0 [(0, .ref x), (1, .int v), (2, .int le), (3, .int rI), (4, .int (b01 false))] []
    refine j_aload_n hX dX10_both_0 0 rfl ?_
    refine j_iload_n hX dX10_both_1 1 rfl ?_
    refine j_callV (As := [.int v]) (rest := []) hX (c_X10_placeAt (xl X) (xK X) g hlt x (yra Y) (yta Y) (yR Y) hC.1 v) hC.1.1 rfl lk_X10_20 wI_X10_placeAt wV_X10_X10_placeAt wN_X10 wC_X10_placeAt hd_X10_placeAt rfl (by rw [hL]; decide) (by decide) rfl (Nat.le_of_ble_eq_true rfl) dX10_both_2 (by rw [hR]; decide) (by rw [hR]; decide) (fun E g9 h9 => jx_out hX hE ⟨1, A, by decide, h9.1, Or.inl ⟨rfl, fun q => h9.2.2 q.1, rfl⟩, by rw [← h9.2.1]; exact ⟨Y, ch, N, hC⟩⟩ (by decide) (by decide)) ?_
    rintro _ _ ⟨i, hi, ei, rfl, rfl⟩
    have zi : vnat v = i := by rw [ei, vnat_nI (by omega)]
    have ri : g (yR Y i) = some (ob 6 [.ref (ynb Y i), .ref (yxb Y i), vwf A Y i, .int (nI (aw A i)), .int (nI 0), .int (ch i)]) := (hC.2.2.1 i hi).1
    show J X 1 6 g 5 [(0, .ref x), (1, .int v), (2, .int le), (3, .int rI), (4, .int (b01 false))] [.ref (yR Y i)]
    refine j_astore (lv' := [(5, .ref (yR Y i)), (0, .ref x), (1, .int v), (2, .int le), (3, .int rI), (4, .int (b01 false))]) hX dX10_both_5 (by rw [hn]; decide) rfl ?_
    refine j_aload_n hX dX10_both_7 1 rfl ?_
    refine j_iload_n hX dX10_both_8 3 rfl ?_
    refine j_callV (As := [.int le]) (rest := []) hX (c_X10_relationAt (xl X) (xK X) g hlt x (yra Y) (yta Y) (yR Y) hC.1 (ynb Y) (yxb Y) (vwf A Y) (aw A) (fun i => nI ((fun _ => 0) i)) ch hC.rels (fun i hi => (hI i hi).1.1) le) hC.1.1 rfl lk_X10_48 wI_X10_relationAt wV_X10_X10_relationAt wN_X10 wC_X10_relationAt hd_X10_relationAt rfl (by rw [hL]; decide) (by decide) rfl (Nat.le_of_ble_eq_true rfl) dX10_both_9 (by rw [hR]; decide) (by rw [hR]; decide) (fun E g9 h9 => jx_out hX hE ⟨1, A, by decide, h9.1, Or.inl ⟨rfl, fun q => h9.2.2 q.2.1, rfl⟩, by rw [← h9.2.1]; exact ⟨Y, ch, N, hC⟩⟩ (by decide) (by decide)) ?_
    rintro _ _ ⟨j, hj, ej, wj, rfl, rfl⟩
    have zj : vnat le = j := by rw [ej, vnat_nI (by omega)]
    have qj : isR A le := ⟨j, hj, ej, wj⟩
    have rj : g (yR Y j) = some (ob 6 [.ref (ynb Y j), .ref (yxb Y j), vwf A Y j, .int (nI (aw A j)), .int (nI 0), .int (ch j)]) := (hC.2.2.1 j hj).1
    show J X 3 18 g 12 [(5, .ref (yR Y i)), (0, .ref x), (1, .int v), (2, .int le), (3, .int rI), (4, .int (b01 false))] [.ref (yR Y j)]
    refine j_astore (lv' := [(6, .ref (yR Y j)), (5, .ref (yR Y i)), (0, .ref x), (1, .int v), (2, .int le), (3, .int rI), (4, .int (b01 false))]) hX dX10_both_12 (by rw [hn]; decide) rfl ?_
    refine j_aload_n hX dX10_both_14 2 rfl ?_
    refine j_iload_n hX dX10_both_15 5 rfl ?_
    refine j_callV (As := [.int rI]) (rest := []) hX (c_X10_relationAt (xl X) (xK X) g hlt x (yra Y) (yta Y) (yR Y) hC.1 (ynb Y) (yxb Y) (vwf A Y) (aw A) (fun i => nI ((fun _ => 0) i)) ch hC.rels (fun i hi => (hI i hi).1.1) rI) hC.1.1 rfl lk_X10_48 wI_X10_relationAt wV_X10_X10_relationAt wN_X10 wC_X10_relationAt hd_X10_relationAt rfl (by rw [hL]; decide) (by decide) rfl (Nat.le_of_ble_eq_true rfl) dX10_both_16 (by rw [hR]; decide) (by rw [hR]; decide) (fun E g9 h9 => jx_out hX hE ⟨1, A, by decide, h9.1, Or.inl ⟨rfl, fun q => h9.2.2 q.2.2, rfl⟩, by rw [← h9.2.1]; exact ⟨Y, ch, N, hC⟩⟩ (by decide) (by decide)) ?_
    rintro _ _ ⟨k, hk, ek, wk, rfl, rfl⟩
    have zk : vnat rI = k := by rw [ek, vnat_nI (by omega)]
    have qk : isR A rI := ⟨k, hk, ek, wk⟩
    have rk : g (yR Y k) = some (ob 6 [.ref (ynb Y k), .ref (yxb Y k), vwf A Y k, .int (nI (aw A k)), .int (nI 0), .int (ch k)]) := (hC.2.2.1 k hk).1
    show J X 5 30 g 19 [(6, .ref (yR Y j)), (5, .ref (yR Y i)), (0, .ref x), (1, .int v), (2, .int le), (3, .int rI), (4, .int (b01 false))] [.ref (yR Y k)]
    refine j_astore (lv' := [(7, .ref (yR Y k)), (6, .ref (yR Y j)), (5, .ref (yR Y i)), (0, .ref x), (1, .int v), (2, .int le), (3, .int rI), (4, .int (b01 false))]) hX dX10_both_19 (by rw [hn]; decide) rfl ?_
    refine j_aload hX dX10_both_21 2 rfl ?_
    refine j_callS (As := [.ref (yR Y i)]) (rest := []) hX (c_X10_needFree (xl X) (xK X) g hlt (yR Y i) (ynb Y i) (yxb Y i) (vwf A Y i) (aw A i) (nI 0) (ch i) ri (hI i hi).1.1) lk_X10_24 wS_X10_needFree wN_X10 wC_X10_needFree hd_X10_needFree rfl (by rw [hL]; decide) (by decide) rfl (Nat.le_of_ble_eq_true rfl) dX10_both_23 (by rw [hR]; decide) (by rw [hR]; decide) (fun E g9 h9 => jx_out hX hE ⟨2, A, by decide, h9.1, Or.inr (Or.inl ⟨rfl, ⟨⟨i, hi, ei⟩, qj, qk⟩, by rw [zi]; exact h9.2.2, rfl⟩), by rw [← h9.2.1]; exact ⟨Y, ch, N, hC⟩⟩ (by decide) (by decide)) ?_
    rintro _ _ ⟨rfl, fi, rfl⟩
    show J X 6 36 g 26 [(7, .ref (yR Y k)), (6, .ref (yR Y j)), (5, .ref (yR Y i)), (0, .ref x), (1, .int v), (2, .int le), (3, .int rI), (4, .int (b01 false))] []
    refine j_aload hX dX10_both_26 1 rfl ?_
    refine j_getN (v := .int (nI (aw A j))) hX rj rfl wf_X6 3 (by decide) nk_X10_57 (fun _ h => h) rfl dX10_both_28 ?_
    refine j_aload hX dX10_both_31 0 rfl ?_
    refine j_getN (v := .int (nI (aw A k))) hX rk rfl wf_X6 3 (by decide) nk_X10_57 (fun _ h => h) rfl dX10_both_33 ?_
    rcases Classical.em (aw A j = aw A k) with h4 | h4
    · refine j_icmp_eq hX 49 dX10_both_36 (by decide) (fun _ => ?_) (fun c_36 => absurd (congrArg nI h4) c_36)
      refine j_iload hX dX10_both_49 7 rfl ?_
      refine j_if_eq hX 68 dX10_both_51 (by decide) (fun _ => ?_) (fun c_51 => absurd (rfl : b01 false = 0) c_51)
      refine j_new (ci := 8) (fs := [.null, .null, .int 0, .null]) hX rfl wf_X8 tyX8_ok lk_X10_96 wA_X8 wN_X8 (fun j hj => by rcases (show j = 0 ∨ j = 1 ∨ j = 2 ∨ j = 3 by omega) with rfl | rfl | rfl | rfl <;> rfl) dX10_both_68 (by rw [hR]; decide) (by rw [hR]; decide) (fun vv fvv => ?_)
      obtain ⟨g1, eg1⟩ : ∃ z : Wd, z = up g vv (ob 8 [.null, .null, .int 0, .null]) := ⟨_, rfl⟩
      refine j_w eg1.symm ?_
      have k1_x := (congrFun eg1 x).trans ((up_n (ne_fr (hC.1.1) fvv)).trans (hC.1.1))
      have k1_yRYi := (congrFun eg1 (yR Y i)).trans ((up_n (ne_fr (ri) fvv)).trans (ri))
      have k1_yRYj := (congrFun eg1 (yR Y j)).trans ((up_n (ne_fr (rj) fvv)).trans (rj))
      have k1_yRYk := (congrFun eg1 (yR Y k)).trans ((up_n (ne_fr (rk) fvv)).trans (rk))
      have k1_vv : g1 vv = some (ob 8 [.null, .null, .int 0, .null]) := by rw [eg1]; exact up_s _ _ _
      show J X 7 40 g1 71 [(7, .ref (yR Y k)), (6, .ref (yR Y j)), (5, .ref (yR Y i)), (0, .ref x), (1, .int v), (2, .int le), (3, .int rI), (4, .int (b01 false))] [.ref vv]
      have fvv0 : g vv = none := fvv
      have hsub : Sub g g1 := by rw [eg1]; exact Sub.up (Sub.rf g) fvv
      refine j_dup hX dX10_both_71 rfl ?_
      refine j_aload hX dX10_both_72 1 rfl ?_
      refine j_aload hX dX10_both_74 0 rfl ?_
      refine j_callI (As := [.ref (yR Y j), .ref (yR Y k)]) (rest := [.ref vv]) hX (c_X8_init (xl X) (xK X) g g1 vv (yR Y j) (yR Y k) (ad A j) (ad A k)  fvv0 hsub (hC.dep hI hj) (hC.dep hI hk) (Nat.lt_of_lt_of_le (hI.dp hj) (by decide)) (Nat.lt_of_lt_of_le (hI.dp hk) (by decide)) k1_vv) lk_X10_98 wI_X8_init wN_X8 wC_X8_init rfl hd_X8_init rfl (by rw [hL]; decide) (by decide) rfl (Nat.le_of_ble_eq_true rfl) dX10_both_76 (by rw [hR]; decide) (by rw [hR]; decide) ?_
      rintro _ w1 ⟨rfl, rw, frw, nrw, hrw1, hv1, hF1⟩
      have hsub1 : Sub g w1 := Sub.ctor hsub fvv0 frw hF1
      have frw0 : g rw = none := dom_s hsub frw
      have rj1 := hsub1 _ _ rj
      show J X 8 44 w1 79 [(7, .ref (yR Y k)), (6, .ref (yR Y j)), (5, .ref (yR Y i)), (0, .ref x), (1, .int v), (2, .int le), (3, .int rI), (4, .int (b01 false))] [.ref vv]
      refine j_astore (lv' := [(8, .ref vv), (7, .ref (yR Y k)), (6, .ref (yR Y j)), (5, .ref (yR Y i)), (0, .ref x), (1, .int v), (2, .int le), (3, .int rI), (4, .int (b01 false))]) hX dX10_both_79 (by rw [hn]; decide) rfl ?_
      refine j_aload hX dX10_both_81 3 rfl ?_
      refine j_aload hX dX10_both_83 2 rfl ?_
      refine j_getN (v := .int (nI (aw A j))) hX rj1 rfl wf_X6 3 (by decide) nk_X10_57 (fun _ h => h) rfl dX10_both_85 ?_
      refine j_aload hX dX10_both_88 0 rfl ?_
      refine j_callS (As := [.ref (yR Y i), .int (nI (aw A j)), .ref vv]) (rest := []) hX (c_X10_makeView (xl X) (xK X) g w1 hlt x A Y ch N hC hI i hi fi hsub1 vv (aw A j) 5 j k rw 0 (fun _ => 0) false (by decide) fvv0 frw0 (fun e => absurd e (by decide)) hv1 hrw1 hj hk wj wk trivial) lk_X10_66 wS_X10_makeView wN_X10 wC_X10_makeView hd_X10_makeView rfl (by rw [hL]; decide) (by decide) rfl (Nat.le_of_ble_eq_true rfl) dX10_both_90 (by rw [hR]; decide) (by rw [hR]; decide) (fun E g9 h9 => jx_out hX hE ⟨4, A, by decide, h9.1, Or.inr (Or.inr (Or.inr (Or.inl ⟨rfl, ⟨⟨i, hi, ei⟩, qj, qk⟩, by rw [zi]; omega, by rw [zj, zk]; exact h4, fun ⟨B, hB⟩ => by rw [zj, zk] at hB; exact absurd (h9.2.1.symm.trans hB) (by simp), rfl⟩))), h9.2.2⟩ (by decide) (by decide)) ?_
      rintro _ g2 ⟨rfl, B9, ho9, hC9⟩
      show J X 9 50 g2 93 [(8, .ref vv), (7, .ref (yR Y k)), (6, .ref (yR Y j)), (5, .ref (yR Y i)), (0, .ref x), (1, .int v), (2, .int le), (3, .int rI), (4, .int (b01 false))] []
      exact j_vret hX hE dX10_both_93 (⟨rfl, _, (by unfold bothO viewO OutG; rw [zi, zj, zk]; exact Or.inr (Or.inr (Or.inr (Or.inr ⟨rfl, ⟨⟨i, hi, ei⟩, qj, qk⟩, by omega, h4, B9, ho9, rfl⟩)))), hC9⟩) (by decide) (by decide)
    · refine j_icmp_eq hX 49 dX10_both_36 (by decide) (fun c_36 => absurd c_36 (fun q => h4 ((nI_eq (by have := (hI j hj).1.1; omega) (by have := (hI k hk).1.1; omega)).mp q))) (fun _ => ?_)
      exact j_IAE hX hE hlt sk_X10_89 (by rw [hL]; decide) (Nat.le_of_ble_eq_true rfl) dX10_both_39 dX10_both_42 dX10_both_43 dX10_both_45 dX10_both_48 (⟨3, A, by decide, rfl, Or.inr (Or.inr (Or.inl ⟨rfl, ⟨⟨i, hi, ei⟩, qj, qk⟩, by rw [zi]; omega, by rw [zj, zk]; exact h4, rfl⟩)), Y, ch, N, hC⟩) (by decide) (by decide) (by rw [hR]; decide) (by rw [hR]; decide)
  | true =>
    show J X 0 0 g 0 [(0, .ref x), (1, .int v), (2, .int le), (3, .int rI), (4, .int (b01 true))] []
    refine j_aload_n hX dX10_both_0 0 rfl ?_
    refine j_iload_n hX dX10_both_1 1 rfl ?_
    refine j_callV (As := [.int v]) (rest := []) hX (c_X10_placeAt (xl X) (xK X) g hlt x (yra Y) (yta Y) (yR Y) hC.1 v) hC.1.1 rfl lk_X10_20 wI_X10_placeAt wV_X10_X10_placeAt wN_X10 wC_X10_placeAt hd_X10_placeAt rfl (by rw [hL]; decide) (by decide) rfl (Nat.le_of_ble_eq_true rfl) dX10_both_2 (by rw [hR]; decide) (by rw [hR]; decide) (fun E g9 h9 => jx_out hX hE ⟨1, A, by decide, h9.1, Or.inl ⟨rfl, fun q => h9.2.2 q.1, rfl⟩, by rw [← h9.2.1]; exact ⟨Y, ch, N, hC⟩⟩ (by decide) (by decide)) ?_
    rintro _ _ ⟨i, hi, ei, rfl, rfl⟩
    have zi : vnat v = i := by rw [ei, vnat_nI (by omega)]
    have ri : g (yR Y i) = some (ob 6 [.ref (ynb Y i), .ref (yxb Y i), vwf A Y i, .int (nI (aw A i)), .int (nI 0), .int (ch i)]) := (hC.2.2.1 i hi).1
    show J X 1 6 g 5 [(0, .ref x), (1, .int v), (2, .int le), (3, .int rI), (4, .int (b01 true))] [.ref (yR Y i)]
    refine j_astore (lv' := [(5, .ref (yR Y i)), (0, .ref x), (1, .int v), (2, .int le), (3, .int rI), (4, .int (b01 true))]) hX dX10_both_5 (by rw [hn]; decide) rfl ?_
    refine j_aload_n hX dX10_both_7 1 rfl ?_
    refine j_iload_n hX dX10_both_8 3 rfl ?_
    refine j_callV (As := [.int le]) (rest := []) hX (c_X10_relationAt (xl X) (xK X) g hlt x (yra Y) (yta Y) (yR Y) hC.1 (ynb Y) (yxb Y) (vwf A Y) (aw A) (fun i => nI ((fun _ => 0) i)) ch hC.rels (fun i hi => (hI i hi).1.1) le) hC.1.1 rfl lk_X10_48 wI_X10_relationAt wV_X10_X10_relationAt wN_X10 wC_X10_relationAt hd_X10_relationAt rfl (by rw [hL]; decide) (by decide) rfl (Nat.le_of_ble_eq_true rfl) dX10_both_9 (by rw [hR]; decide) (by rw [hR]; decide) (fun E g9 h9 => jx_out hX hE ⟨1, A, by decide, h9.1, Or.inl ⟨rfl, fun q => h9.2.2 q.2.1, rfl⟩, by rw [← h9.2.1]; exact ⟨Y, ch, N, hC⟩⟩ (by decide) (by decide)) ?_
    rintro _ _ ⟨j, hj, ej, wj, rfl, rfl⟩
    have zj : vnat le = j := by rw [ej, vnat_nI (by omega)]
    have qj : isR A le := ⟨j, hj, ej, wj⟩
    have rj : g (yR Y j) = some (ob 6 [.ref (ynb Y j), .ref (yxb Y j), vwf A Y j, .int (nI (aw A j)), .int (nI 0), .int (ch j)]) := (hC.2.2.1 j hj).1
    show J X 3 18 g 12 [(5, .ref (yR Y i)), (0, .ref x), (1, .int v), (2, .int le), (3, .int rI), (4, .int (b01 true))] [.ref (yR Y j)]
    refine j_astore (lv' := [(6, .ref (yR Y j)), (5, .ref (yR Y i)), (0, .ref x), (1, .int v), (2, .int le), (3, .int rI), (4, .int (b01 true))]) hX dX10_both_12 (by rw [hn]; decide) rfl ?_
    refine j_aload_n hX dX10_both_14 2 rfl ?_
    refine j_iload_n hX dX10_both_15 5 rfl ?_
    refine j_callV (As := [.int rI]) (rest := []) hX (c_X10_relationAt (xl X) (xK X) g hlt x (yra Y) (yta Y) (yR Y) hC.1 (ynb Y) (yxb Y) (vwf A Y) (aw A) (fun i => nI ((fun _ => 0) i)) ch hC.rels (fun i hi => (hI i hi).1.1) rI) hC.1.1 rfl lk_X10_48 wI_X10_relationAt wV_X10_X10_relationAt wN_X10 wC_X10_relationAt hd_X10_relationAt rfl (by rw [hL]; decide) (by decide) rfl (Nat.le_of_ble_eq_true rfl) dX10_both_16 (by rw [hR]; decide) (by rw [hR]; decide) (fun E g9 h9 => jx_out hX hE ⟨1, A, by decide, h9.1, Or.inl ⟨rfl, fun q => h9.2.2 q.2.2, rfl⟩, by rw [← h9.2.1]; exact ⟨Y, ch, N, hC⟩⟩ (by decide) (by decide)) ?_
    rintro _ _ ⟨k, hk, ek, wk, rfl, rfl⟩
    have zk : vnat rI = k := by rw [ek, vnat_nI (by omega)]
    have qk : isR A rI := ⟨k, hk, ek, wk⟩
    have rk : g (yR Y k) = some (ob 6 [.ref (ynb Y k), .ref (yxb Y k), vwf A Y k, .int (nI (aw A k)), .int (nI 0), .int (ch k)]) := (hC.2.2.1 k hk).1
    show J X 5 30 g 19 [(6, .ref (yR Y j)), (5, .ref (yR Y i)), (0, .ref x), (1, .int v), (2, .int le), (3, .int rI), (4, .int (b01 true))] [.ref (yR Y k)]
    refine j_astore (lv' := [(7, .ref (yR Y k)), (6, .ref (yR Y j)), (5, .ref (yR Y i)), (0, .ref x), (1, .int v), (2, .int le), (3, .int rI), (4, .int (b01 true))]) hX dX10_both_19 (by rw [hn]; decide) rfl ?_
    refine j_aload hX dX10_both_21 2 rfl ?_
    refine j_callS (As := [.ref (yR Y i)]) (rest := []) hX (c_X10_needFree (xl X) (xK X) g hlt (yR Y i) (ynb Y i) (yxb Y i) (vwf A Y i) (aw A i) (nI 0) (ch i) ri (hI i hi).1.1) lk_X10_24 wS_X10_needFree wN_X10 wC_X10_needFree hd_X10_needFree rfl (by rw [hL]; decide) (by decide) rfl (Nat.le_of_ble_eq_true rfl) dX10_both_23 (by rw [hR]; decide) (by rw [hR]; decide) (fun E g9 h9 => jx_out hX hE ⟨2, A, by decide, h9.1, Or.inr (Or.inl ⟨rfl, ⟨⟨i, hi, ei⟩, qj, qk⟩, by rw [zi]; exact h9.2.2, rfl⟩), by rw [← h9.2.1]; exact ⟨Y, ch, N, hC⟩⟩ (by decide) (by decide)) ?_
    rintro _ _ ⟨rfl, fi, rfl⟩
    show J X 6 36 g 26 [(7, .ref (yR Y k)), (6, .ref (yR Y j)), (5, .ref (yR Y i)), (0, .ref x), (1, .int v), (2, .int le), (3, .int rI), (4, .int (b01 true))] []
    refine j_aload hX dX10_both_26 1 rfl ?_
    refine j_getN (v := .int (nI (aw A j))) hX rj rfl wf_X6 3 (by decide) nk_X10_57 (fun _ h => h) rfl dX10_both_28 ?_
    refine j_aload hX dX10_both_31 0 rfl ?_
    refine j_getN (v := .int (nI (aw A k))) hX rk rfl wf_X6 3 (by decide) nk_X10_57 (fun _ h => h) rfl dX10_both_33 ?_
    rcases Classical.em (aw A j = aw A k) with h4 | h4
    · refine j_icmp_eq hX 49 dX10_both_36 (by decide) (fun _ => ?_) (fun c_36 => absurd (congrArg nI h4) c_36)
      refine j_iload hX dX10_both_49 7 rfl ?_
      refine j_if_eq hX 68 dX10_both_51 (by decide) (fun c_51 => absurd c_51 (by decide)) (fun _ => ?_)
      refine j_new (ci := 2) (fs := [.null, .null, .int 0, .null]) hX rfl wf_X2 tyX2_ok lk_X10_91 wA_X2 wN_X2 (fun j hj => by rcases (show j = 0 ∨ j = 1 ∨ j = 2 ∨ j = 3 by omega) with rfl | rfl | rfl | rfl <;> rfl) dX10_both_54 (by rw [hR]; decide) (by rw [hR]; decide) (fun vv fvv => ?_)
      obtain ⟨g1, eg1⟩ : ∃ z : Wd, z = up g vv (ob 2 [.null, .null, .int 0, .null]) := ⟨_, rfl⟩
      refine j_w eg1.symm ?_
      have k1_x := (congrFun eg1 x).trans ((up_n (ne_fr (hC.1.1) fvv)).trans (hC.1.1))
      have k1_yRYi := (congrFun eg1 (yR Y i)).trans ((up_n (ne_fr (ri) fvv)).trans (ri))
      have k1_yRYj := (congrFun eg1 (yR Y j)).trans ((up_n (ne_fr (rj) fvv)).trans (rj))
      have k1_yRYk := (congrFun eg1 (yR Y k)).trans ((up_n (ne_fr (rk) fvv)).trans (rk))
      have k1_vv : g1 vv = some (ob 2 [.null, .null, .int 0, .null]) := by rw [eg1]; exact up_s _ _ _
      show J X 7 40 g1 57 [(7, .ref (yR Y k)), (6, .ref (yR Y j)), (5, .ref (yR Y i)), (0, .ref x), (1, .int v), (2, .int le), (3, .int rI), (4, .int (b01 true))] [.ref vv]
      have fvv0 : g vv = none := fvv
      have hsub : Sub g g1 := by rw [eg1]; exact Sub.up (Sub.rf g) fvv
      refine j_dup hX dX10_both_57 rfl ?_
      refine j_aload hX dX10_both_58 1 rfl ?_
      refine j_aload hX dX10_both_60 0 rfl ?_
      refine j_callI (As := [.ref (yR Y j), .ref (yR Y k)]) (rest := [.ref vv]) hX (c_X2_init (xl X) (xK X) g g1 vv (yR Y j) (yR Y k) (ad A j) (ad A k)  fvv0 hsub (hC.dep hI hj) (hC.dep hI hk) (Nat.lt_of_lt_of_le (hI.dp hj) (by decide)) (Nat.lt_of_lt_of_le (hI.dp hk) (by decide)) k1_vv) lk_X10_93 wI_X2_init wN_X2 wC_X2_init rfl hd_X2_init rfl (by rw [hL]; decide) (by decide) rfl (Nat.le_of_ble_eq_true rfl) dX10_both_62 (by rw [hR]; decide) (by rw [hR]; decide) ?_
      rintro _ w1 ⟨rfl, rw, frw, nrw, hrw1, hv1, hF1⟩
      have hsub1 : Sub g w1 := Sub.ctor hsub fvv0 frw hF1
      have frw0 : g rw = none := dom_s hsub frw
      have rj1 := hsub1 _ _ rj
      show J X 8 44 w1 65 [(7, .ref (yR Y k)), (6, .ref (yR Y j)), (5, .ref (yR Y i)), (0, .ref x), (1, .int v), (2, .int le), (3, .int rI), (4, .int (b01 true))] [.ref vv]
      refine j_goto hX 79 dX10_both_65 (by decide) ?_
      refine j_astore (lv' := [(8, .ref vv), (7, .ref (yR Y k)), (6, .ref (yR Y j)), (5, .ref (yR Y i)), (0, .ref x), (1, .int v), (2, .int le), (3, .int rI), (4, .int (b01 true))]) hX dX10_both_79 (by rw [hn]; decide) rfl ?_
      refine j_aload hX dX10_both_81 3 rfl ?_
      refine j_aload hX dX10_both_83 2 rfl ?_
      refine j_getN (v := .int (nI (aw A j))) hX rj1 rfl wf_X6 3 (by decide) nk_X10_57 (fun _ h => h) rfl dX10_both_85 ?_
      refine j_aload hX dX10_both_88 0 rfl ?_
      refine j_callS (As := [.ref (yR Y i), .int (nI (aw A j)), .ref vv]) (rest := []) hX (c_X10_makeView (xl X) (xK X) g w1 hlt x A Y ch N hC hI i hi fi hsub1 vv (aw A j) 6 j k rw 0 (fun _ => 0) false (by decide) fvv0 frw0 (fun e => absurd e (by decide)) hv1 hrw1 hj hk wj wk trivial) lk_X10_66 wS_X10_makeView wN_X10 wC_X10_makeView hd_X10_makeView rfl (by rw [hL]; decide) (by decide) rfl (Nat.le_of_ble_eq_true rfl) dX10_both_90 (by rw [hR]; decide) (by rw [hR]; decide) (fun E g9 h9 => jx_out hX hE ⟨4, A, by decide, h9.1, Or.inr (Or.inr (Or.inr (Or.inl ⟨rfl, ⟨⟨i, hi, ei⟩, qj, qk⟩, by rw [zi]; omega, by rw [zj, zk]; exact h4, fun ⟨B, hB⟩ => by rw [zj, zk] at hB; exact absurd (h9.2.1.symm.trans hB) (by simp), rfl⟩))), h9.2.2⟩ (by decide) (by decide)) ?_
      rintro _ g2 ⟨rfl, B9, ho9, hC9⟩
      show J X 9 50 g2 93 [(8, .ref vv), (7, .ref (yR Y k)), (6, .ref (yR Y j)), (5, .ref (yR Y i)), (0, .ref x), (1, .int v), (2, .int le), (3, .int rI), (4, .int (b01 true))] []
      exact j_vret hX hE dX10_both_93 (⟨rfl, _, (by unfold bothO viewO OutG; rw [zi, zj, zk]; exact Or.inr (Or.inr (Or.inr (Or.inr ⟨rfl, ⟨⟨i, hi, ei⟩, qj, qk⟩, by omega, h4, B9, ho9, rfl⟩)))), hC9⟩) (by decide) (by decide)
    · refine j_icmp_eq hX 49 dX10_both_36 (by decide) (fun c_36 => absurd c_36 (fun q => h4 ((nI_eq (by have := (hI j hj).1.1; omega) (by have := (hI k hk).1.1; omega)).mp q))) (fun _ => ?_)
      exact j_IAE hX hE hlt sk_X10_89 (by rw [hL]; decide) (Nat.le_of_ble_eq_true rfl) dX10_both_39 dX10_both_42 dX10_both_43 dX10_both_45 dX10_both_48 (⟨3, A, by decide, rfl, Or.inr (Or.inr (Or.inl ⟨rfl, ⟨⟨i, hi, ei⟩, qj, qk⟩, by rw [zi]; omega, by rw [zj, zk]; exact h4, rfl⟩)), Y, ch, N, hC⟩) (by decide) (by decide) (by rw [hR]; decide) (by rw [hR]; decide)

set_option maxRecDepth 20000 in
set_option maxHeartbeats 600000 in
/-- group -/
theorem c_X10_group (l : Launch) (K : Cst) (g : Wd) (hlt : l.stackTraces = false) (x : Nat) (A : Ab) (Y : Lt) (ch : Nat → Int32) (N : Nat → Bg) (hC : CS K g x A Y ch (fun _ => 0) N) (hI : Inv A) (v ofr bY st c : Int32) : Ct l K yX10_group cX10_group 8 none 9 [.ref x, .int v, .int ofr, .int bY, .int st, .int c] g (PostG K x (groupO A v ofr bY st c)) (XG K x (groupO A v ofr bY st c)) 9 53 := by
  refine ct_of (by decide) (Nat.le_of_ble_eq_true rfl) ?_
  intro X hl hK hX hE hn hL hR hm
  subst hl; subst hK
  show J X 0 0 g 0 [(0, .ref x), (1, .int v), (2, .int ofr), (3, .int bY), (4, .int st), (5, .int c)] []
  rcases Classical.em (bY = -1) with hb | hb
  · refine j_aload_n hX dX10_group_0 0 rfl ?_
    refine j_iload_n hX dX10_group_1 1 rfl ?_
    refine j_callV (As := [.int v]) (rest := []) hX (c_X10_placeAt (xl X) (xK X) g hlt x (yra Y) (yta Y) (yR Y) hC.1 v) hC.1.1 rfl lk_X10_20 wI_X10_placeAt wV_X10_X10_placeAt wN_X10 wC_X10_placeAt hd_X10_placeAt rfl (by rw [hL]; decide) (by decide) rfl (Nat.le_of_ble_eq_true rfl) dX10_group_2 (by rw [hR]; decide) (by rw [hR]; decide) (fun E g9 h9 => jx_out hX hE ⟨1, A, by decide, h9.1, Or.inl ⟨rfl, fun q => h9.2.2 q.1, rfl⟩, by rw [← h9.2.1]; exact ⟨Y, ch, N, hC⟩⟩ (by decide) (by decide)) ?_
    rintro _ _ ⟨i, hi, ei, rfl, rfl⟩
    have zi : vnat v = i := by rw [ei, vnat_nI (by omega)]
    have ri : g (yR Y i) = some (ob 6 [.ref (ynb Y i), .ref (yxb Y i), vwf A Y i, .int (nI (aw A i)), .int (nI 0), .int (ch i)]) := (hC.2.2.1 i hi).1
    show J X 1 6 g 5 [(0, .ref x), (1, .int v), (2, .int ofr), (3, .int bY), (4, .int st), (5, .int c)] [.ref (yR Y i)]
    refine j_astore (lv' := [(6, .ref (yR Y i)), (0, .ref x), (1, .int v), (2, .int ofr), (3, .int bY), (4, .int st), (5, .int c)]) hX dX10_group_5 (by rw [hn]; decide) rfl ?_
    refine j_aload_n hX dX10_group_7 1 rfl ?_
    refine j_iload_n hX dX10_group_8 3 rfl ?_
    refine j_callV (As := [.int ofr]) (rest := []) hX (c_X10_relationAt (xl X) (xK X) g hlt x (yra Y) (yta Y) (yR Y) hC.1 (ynb Y) (yxb Y) (vwf A Y) (aw A) (fun i => nI ((fun _ => 0) i)) ch hC.rels (fun i hi => (hI i hi).1.1) ofr) hC.1.1 rfl lk_X10_48 wI_X10_relationAt wV_X10_X10_relationAt wN_X10 wC_X10_relationAt hd_X10_relationAt rfl (by rw [hL]; decide) (by decide) rfl (Nat.le_of_ble_eq_true rfl) dX10_group_9 (by rw [hR]; decide) (by rw [hR]; decide) (fun E g9 h9 => jx_out hX hE ⟨1, A, by decide, h9.1, Or.inl ⟨rfl, fun q => h9.2.2 q.2.1.1, rfl⟩, by rw [← h9.2.1]; exact ⟨Y, ch, N, hC⟩⟩ (by decide) (by decide)) ?_
    rintro _ _ ⟨j, hj, ej, wj, rfl, rfl⟩
    have zj : vnat ofr = j := by rw [ej, vnat_nI (by omega)]
    have qj : isR A ofr := ⟨j, hj, ej, wj⟩
    have rj : g (yR Y j) = some (ob 6 [.ref (ynb Y j), .ref (yxb Y j), vwf A Y j, .int (nI (aw A j)), .int (nI 0), .int (ch j)]) := (hC.2.2.1 j hj).1
    show J X 3 18 g 12 [(6, .ref (yR Y i)), (0, .ref x), (1, .int v), (2, .int ofr), (3, .int bY), (4, .int st), (5, .int c)] [.ref (yR Y j)]
    refine j_astore (lv' := [(7, .ref (yR Y j)), (6, .ref (yR Y i)), (0, .ref x), (1, .int v), (2, .int ofr), (3, .int bY), (4, .int st), (5, .int c)]) hX dX10_group_12 (by rw [hn]; decide) rfl ?_
    refine j_aload hX dX10_group_14 0 rfl ?_
    refine j_iload_n hX dX10_group_16 5 rfl ?_
    refine j_callS (As := [.ref (yR Y j), .int bY]) (rest := []) hX (c_X10_needColumnOrNone (xl X) (xK X) g hlt (yR Y j) (ynb Y j) (yxb Y j) (vwf A Y j) (aw A j) (nI 0) (ch j) rj (hI j hj).1.1 bY) lk_X10_70 wS_X10_needColumnOrNone wN_X10 wC_X10_needColumnOrNone hd_X10_needColumnOrNone rfl (by rw [hL]; decide) (by decide) rfl (Nat.le_of_ble_eq_true rfl) dX10_group_17 (by rw [hR]; decide) (by rw [hR]; decide) (fun E g9 h9 => jx_out hX hE ⟨1, A, by decide, h9.1, Or.inl ⟨rfl, fun q => h9.2.2 (by have := q.2.2; unfold isN at this; rw [zj] at this; exact this), rfl⟩, by rw [← h9.2.1]; exact ⟨Y, ch, N, hC⟩⟩ (by decide) (by decide)) ?_
    rintro _ _ ⟨rfl, rfl, cb⟩
    have ib : isN A ofr bY := by unfold isN; rw [zj]; exact cb
    show J X 4 24 g 20 [(7, .ref (yR Y j)), (6, .ref (yR Y i)), (0, .ref x), (1, .int v), (2, .int ofr), (3, .int bY), (4, .int st), (5, .int c)] []
    refine j_aload hX dX10_group_20 0 rfl ?_
    refine j_iload hX dX10_group_22 7 rfl ?_
    refine j_callS (As := [.ref (yR Y j), .int c]) (rest := []) hX (c_X10_needColumn (xl X) (xK X) g hlt (yR Y j) (ynb Y j) (yxb Y j) (vwf A Y j) (aw A j) (nI 0) (ch j) rj (hI j hj).1.1 c) lk_X10_51 wS_X10_needColumn wN_X10 wC_X10_needColumn hd_X10_needColumn rfl (by rw [hL]; decide) (by decide) rfl (Nat.le_of_ble_eq_true rfl) dX10_group_24 (by rw [hR]; decide) (by rw [hR]; decide) (fun E g9 h9 => jx_out hX hE ⟨1, A, by decide, h9.1, Or.inl ⟨rfl, fun q => h9.2.2 (by have := q.2.1.2; rw [zj] at this; exact this), rfl⟩, by rw [← h9.2.1]; exact ⟨Y, ch, N, hC⟩⟩ (by decide) (by decide)) ?_
    rintro _ _ ⟨rfl, rfl, cc⟩
    have ic : isC A ofr c := ⟨qj, by rw [zj]; exact cc⟩
    show J X 5 30 g 27 [(7, .ref (yR Y j)), (6, .ref (yR Y i)), (0, .ref x), (1, .int v), (2, .int ofr), (3, .int bY), (4, .int st), (5, .int c)] []
    refine j_aload hX dX10_group_27 1 rfl ?_
    refine j_callS (As := [.ref (yR Y i)]) (rest := []) hX (c_X10_needFree (xl X) (xK X) g hlt (yR Y i) (ynb Y i) (yxb Y i) (vwf A Y i) (aw A i) (nI 0) (ch i) ri (hI i hi).1.1) lk_X10_24 wS_X10_needFree wN_X10 wC_X10_needFree hd_X10_needFree rfl (by rw [hL]; decide) (by decide) rfl (Nat.le_of_ble_eq_true rfl) dX10_group_29 (by rw [hR]; decide) (by rw [hR]; decide) (fun E g9 h9 => jx_out hX hE ⟨2, A, by decide, h9.1, Or.inr (Or.inl ⟨rfl, ⟨⟨i, hi, ei⟩, ic, ib⟩, by rw [zi]; exact h9.2.2, rfl⟩), by rw [← h9.2.1]; exact ⟨Y, ch, N, hC⟩⟩ (by decide) (by decide)) ?_
    rintro _ _ ⟨rfl, fi, rfl⟩
    show J X 6 36 g 32 [(7, .ref (yR Y j)), (6, .ref (yR Y i)), (0, .ref x), (1, .int v), (2, .int ofr), (3, .int bY), (4, .int st), (5, .int c)] []
    rcases i32_in st 4 (by decide) with h9c | ⟨m9, hm9, em⟩
    · refine j_iload hX dX10_group_32 6 rfl ?_
      refine j_if_lt hX 43 dX10_group_34 (by decide) (fun c_34 => ?_) (fun c_34 => ?_)
      · exact j_IAE hX hE hlt sk_X10_103 (by rw [hL]; decide) (Nat.le_of_ble_eq_true rfl) dX10_group_43 dX10_group_46 dX10_group_47 dX10_group_49 dX10_group_52 (⟨3, A, by decide, rfl, Or.inr (Or.inr (Or.inl ⟨rfl, ⟨⟨i, hi, ei⟩, ic, ib⟩, by rw [zi]; omega, i32_out (by decide) h9c, rfl⟩)), Y, ch, N, hC⟩) (by decide) (by decide) (by rw [hR]; decide) (by rw [hR]; decide)
      · refine j_iload hX dX10_group_37 6 rfl ?_
        refine j_iconst (v := nI 3) hX dX10_group_39 (by decide) ?_
        refine j_icmp_le hX 53 dX10_group_40 (by decide) (fun c_40 => absurd c_40 (fun q => absurd (Int32.le_trans (h9c.resolve_left c_34) q) (nI_ge (a := 3) (b := 4) (by decide) (by decide)))) (fun _ => ?_)
        exact j_IAE hX hE hlt sk_X10_103 (by rw [hL]; decide) (Nat.le_of_ble_eq_true rfl) dX10_group_43 dX10_group_46 dX10_group_47 dX10_group_49 dX10_group_52 (⟨3, A, by decide, rfl, Or.inr (Or.inr (Or.inl ⟨rfl, ⟨⟨i, hi, ei⟩, ic, ib⟩, by rw [zi]; omega, i32_out (by decide) h9c, rfl⟩)), Y, ch, N, hC⟩) (by decide) (by decide) (by rw [hR]; decide) (by rw [hR]; decide)
    · refine j_iload hX dX10_group_32 6 rfl ?_
      refine j_if_lt hX 43 dX10_group_34 (by decide) (fun c_34 => absurd c_34 (by rw [em]; exact nI_pos (by omega))) (fun _ => ?_)
      refine j_iload hX dX10_group_37 6 rfl ?_
      refine j_iconst (v := nI 3) hX dX10_group_39 (by decide) ?_
      refine j_icmp_le hX 53 dX10_group_40 (by decide) (fun _ => ?_) (fun c_40 => absurd (show st ≤ nI 3 by rw [em]; exact nI_le (by omega) (by decide)) c_40)
      refine j_aload hX dX10_group_53 1 rfl ?_
      refine j_iload_n hX dX10_group_55 5 rfl ?_
      refine j_iconst (v := (-1)) hX dX10_group_56 (by decide) ?_
      refine j_icmp_ne hX 64 dX10_group_57 (by decide) (fun c_57 => absurd c_57 (fun q => q hb)) (fun _ => ?_)
      refine j_iconst (v := nI 1) hX dX10_group_60 (by decide) ?_
      refine j_goto hX 65 dX10_group_61 (by decide) ?_
      refine j_new (ci := 3) (fs := [.null, .null, .int 0, .null, .int 0, .int 0, .int 0]) hX rfl wf_X3 tyX3_ok lk_X10_105 wA_X3 wN_X3 (fun j hj => by rcases (show j = 0 ∨ j = 1 ∨ j = 2 ∨ j = 3 ∨ j = 4 ∨ j = 5 ∨ j = 6 by omega) with rfl | rfl | rfl | rfl | rfl | rfl | rfl <;> rfl) dX10_group_65 (by rw [hR]; decide) (by rw [hR]; decide) (fun vv fvv => ?_)
      obtain ⟨g1, eg1⟩ : ∃ z : Wd, z = up g vv (ob 3 [.null, .null, .int 0, .null, .int 0, .int 0, .int 0]) := ⟨_, rfl⟩
      refine j_w eg1.symm ?_
      have k1_x := (congrFun eg1 x).trans ((up_n (ne_fr (hC.1.1) fvv)).trans (hC.1.1))
      have k1_yRYi := (congrFun eg1 (yR Y i)).trans ((up_n (ne_fr (ri) fvv)).trans (ri))
      have k1_yRYj := (congrFun eg1 (yR Y j)).trans ((up_n (ne_fr (rj) fvv)).trans (rj))
      have k1_vv : g1 vv = some (ob 3 [.null, .null, .int 0, .null, .int 0, .int 0, .int 0]) := by rw [eg1]; exact up_s _ _ _
      show J X 7 43 g1 68 [(7, .ref (yR Y j)), (6, .ref (yR Y i)), (0, .ref x), (1, .int v), (2, .int ofr), (3, .int bY), (4, .int st), (5, .int c)] [.ref vv, .int (nI 1), .ref (yR Y i)]
      have fvv0 : g vv = none := fvv
      have hsub : Sub g g1 := by rw [eg1]; exact Sub.up (Sub.rf g) fvv
      refine j_dup hX dX10_group_68 rfl ?_
      refine j_aload hX dX10_group_69 0 rfl ?_
      refine j_iload_n hX dX10_group_71 5 rfl ?_
      refine j_iload hX dX10_group_72 6 rfl ?_
      refine j_iload hX dX10_group_74 7 rfl ?_
      refine j_callI (As := [.ref (yR Y j), .int bY, .int st, .int c]) (rest := [.ref vv, .int (nI 1), .ref (yR Y i)]) hX (c_X3_init (xl X) (xK X) g g1 vv (yR Y j) (ad A j) bY st c fvv0 hsub (hC.dep hI hj) (Nat.lt_of_lt_of_le (hI.dp hj) (by decide)) k1_vv) lk_X10_107 wI_X3_init wN_X3 wC_X3_init rfl hd_X3_init rfl (by rw [hL]; decide) (by decide) rfl (Nat.le_of_ble_eq_true rfl) dX10_group_76 (by rw [hR]; decide) (by rw [hR]; decide) ?_
      rintro _ w1 ⟨rfl, rw, frw, nrw, hrw1, hv1, hF1⟩
      have hsub1 : Sub g w1 := Sub.ctor hsub fvv0 frw hF1
      have frw0 : g rw = none := dom_s hsub frw
      show J X 8 47 w1 79 [(7, .ref (yR Y j)), (6, .ref (yR Y i)), (0, .ref x), (1, .int v), (2, .int ofr), (3, .int bY), (4, .int st), (5, .int c)] [.ref vv, .int (nI 1), .ref (yR Y i)]
      refine j_callS (As := [.ref (yR Y i), .int (nI 1), .ref vv]) (rest := []) hX (c_X10_makeView (xl X) (xK X) g w1 hlt x A Y ch N hC hI i hi fi hsub1 vv 1 8 j j rw 0 (nC bY st c 0) false (by decide) fvv0 frw0 (fun e => absurd e (by decide)) (by unfold vwAt; simp only [nC_0, nC_1, nC_2]; exact hv1) hrw1 hj hj wj wj ⟨by rw [nC_0]; exact cb.elim Or.inl (fun ⟨c9, b1, b2⟩ => Or.inr ⟨c9, by have := (hI j hj).1.1; omega, b2⟩), by rw [nC_1]; exact ⟨m9, by omega, em⟩, by rw [nC_2]; exact (by obtain ⟨k9, b1, b2⟩ := cc; exact ⟨k9, by have := (hI j hj).1.1; omega, b2⟩)⟩) lk_X10_66 wS_X10_makeView wN_X10 wC_X10_makeView hd_X10_makeView rfl (by rw [hL]; decide) (by decide) rfl (Nat.le_of_ble_eq_true rfl) dX10_group_79 (by rw [hR]; decide) (by rw [hR]; decide) (fun E g9 h9 => jx_out hX hE ⟨4, A, by decide, h9.1, Or.inr (Or.inr (Or.inr (Or.inl ⟨rfl, ⟨⟨i, hi, ei⟩, ic, ib⟩, by rw [zi]; omega, ⟨m9, hm9, em⟩, fun ⟨B, hB⟩ => by rw [zj] at hB; exact absurd (h9.2.1.symm.trans hB) (by simp), rfl⟩))), h9.2.2⟩ (by decide) (by decide)) ?_
      rintro _ g2 ⟨rfl, B9, ho9, hC9⟩
      show J X 9 53 g2 82 [(7, .ref (yR Y j)), (6, .ref (yR Y i)), (0, .ref x), (1, .int v), (2, .int ofr), (3, .int bY), (4, .int st), (5, .int c)] []
      exact j_vret hX hE dX10_group_82 (⟨rfl, _, (by unfold groupO viewO OutG; rw [zi, zj, if_pos hb]; exact Or.inr (Or.inr (Or.inr (Or.inr ⟨rfl, ⟨⟨i, hi, ei⟩, ic, ib⟩, by omega, ⟨m9, hm9, em⟩, B9, ho9, rfl⟩)))), hC9⟩) (by decide) (by decide)
  · refine j_aload_n hX dX10_group_0 0 rfl ?_
    refine j_iload_n hX dX10_group_1 1 rfl ?_
    refine j_callV (As := [.int v]) (rest := []) hX (c_X10_placeAt (xl X) (xK X) g hlt x (yra Y) (yta Y) (yR Y) hC.1 v) hC.1.1 rfl lk_X10_20 wI_X10_placeAt wV_X10_X10_placeAt wN_X10 wC_X10_placeAt hd_X10_placeAt rfl (by rw [hL]; decide) (by decide) rfl (Nat.le_of_ble_eq_true rfl) dX10_group_2 (by rw [hR]; decide) (by rw [hR]; decide) (fun E g9 h9 => jx_out hX hE ⟨1, A, by decide, h9.1, Or.inl ⟨rfl, fun q => h9.2.2 q.1, rfl⟩, by rw [← h9.2.1]; exact ⟨Y, ch, N, hC⟩⟩ (by decide) (by decide)) ?_
    rintro _ _ ⟨i, hi, ei, rfl, rfl⟩
    have zi : vnat v = i := by rw [ei, vnat_nI (by omega)]
    have ri : g (yR Y i) = some (ob 6 [.ref (ynb Y i), .ref (yxb Y i), vwf A Y i, .int (nI (aw A i)), .int (nI 0), .int (ch i)]) := (hC.2.2.1 i hi).1
    show J X 1 6 g 5 [(0, .ref x), (1, .int v), (2, .int ofr), (3, .int bY), (4, .int st), (5, .int c)] [.ref (yR Y i)]
    refine j_astore (lv' := [(6, .ref (yR Y i)), (0, .ref x), (1, .int v), (2, .int ofr), (3, .int bY), (4, .int st), (5, .int c)]) hX dX10_group_5 (by rw [hn]; decide) rfl ?_
    refine j_aload_n hX dX10_group_7 1 rfl ?_
    refine j_iload_n hX dX10_group_8 3 rfl ?_
    refine j_callV (As := [.int ofr]) (rest := []) hX (c_X10_relationAt (xl X) (xK X) g hlt x (yra Y) (yta Y) (yR Y) hC.1 (ynb Y) (yxb Y) (vwf A Y) (aw A) (fun i => nI ((fun _ => 0) i)) ch hC.rels (fun i hi => (hI i hi).1.1) ofr) hC.1.1 rfl lk_X10_48 wI_X10_relationAt wV_X10_X10_relationAt wN_X10 wC_X10_relationAt hd_X10_relationAt rfl (by rw [hL]; decide) (by decide) rfl (Nat.le_of_ble_eq_true rfl) dX10_group_9 (by rw [hR]; decide) (by rw [hR]; decide) (fun E g9 h9 => jx_out hX hE ⟨1, A, by decide, h9.1, Or.inl ⟨rfl, fun q => h9.2.2 q.2.1.1, rfl⟩, by rw [← h9.2.1]; exact ⟨Y, ch, N, hC⟩⟩ (by decide) (by decide)) ?_
    rintro _ _ ⟨j, hj, ej, wj, rfl, rfl⟩
    have zj : vnat ofr = j := by rw [ej, vnat_nI (by omega)]
    have qj : isR A ofr := ⟨j, hj, ej, wj⟩
    have rj : g (yR Y j) = some (ob 6 [.ref (ynb Y j), .ref (yxb Y j), vwf A Y j, .int (nI (aw A j)), .int (nI 0), .int (ch j)]) := (hC.2.2.1 j hj).1
    show J X 3 18 g 12 [(6, .ref (yR Y i)), (0, .ref x), (1, .int v), (2, .int ofr), (3, .int bY), (4, .int st), (5, .int c)] [.ref (yR Y j)]
    refine j_astore (lv' := [(7, .ref (yR Y j)), (6, .ref (yR Y i)), (0, .ref x), (1, .int v), (2, .int ofr), (3, .int bY), (4, .int st), (5, .int c)]) hX dX10_group_12 (by rw [hn]; decide) rfl ?_
    refine j_aload hX dX10_group_14 0 rfl ?_
    refine j_iload_n hX dX10_group_16 5 rfl ?_
    refine j_callS (As := [.ref (yR Y j), .int bY]) (rest := []) hX (c_X10_needColumnOrNone (xl X) (xK X) g hlt (yR Y j) (ynb Y j) (yxb Y j) (vwf A Y j) (aw A j) (nI 0) (ch j) rj (hI j hj).1.1 bY) lk_X10_70 wS_X10_needColumnOrNone wN_X10 wC_X10_needColumnOrNone hd_X10_needColumnOrNone rfl (by rw [hL]; decide) (by decide) rfl (Nat.le_of_ble_eq_true rfl) dX10_group_17 (by rw [hR]; decide) (by rw [hR]; decide) (fun E g9 h9 => jx_out hX hE ⟨1, A, by decide, h9.1, Or.inl ⟨rfl, fun q => h9.2.2 (by have := q.2.2; unfold isN at this; rw [zj] at this; exact this), rfl⟩, by rw [← h9.2.1]; exact ⟨Y, ch, N, hC⟩⟩ (by decide) (by decide)) ?_
    rintro _ _ ⟨rfl, rfl, cb⟩
    have ib : isN A ofr bY := by unfold isN; rw [zj]; exact cb
    show J X 4 24 g 20 [(7, .ref (yR Y j)), (6, .ref (yR Y i)), (0, .ref x), (1, .int v), (2, .int ofr), (3, .int bY), (4, .int st), (5, .int c)] []
    refine j_aload hX dX10_group_20 0 rfl ?_
    refine j_iload hX dX10_group_22 7 rfl ?_
    refine j_callS (As := [.ref (yR Y j), .int c]) (rest := []) hX (c_X10_needColumn (xl X) (xK X) g hlt (yR Y j) (ynb Y j) (yxb Y j) (vwf A Y j) (aw A j) (nI 0) (ch j) rj (hI j hj).1.1 c) lk_X10_51 wS_X10_needColumn wN_X10 wC_X10_needColumn hd_X10_needColumn rfl (by rw [hL]; decide) (by decide) rfl (Nat.le_of_ble_eq_true rfl) dX10_group_24 (by rw [hR]; decide) (by rw [hR]; decide) (fun E g9 h9 => jx_out hX hE ⟨1, A, by decide, h9.1, Or.inl ⟨rfl, fun q => h9.2.2 (by have := q.2.1.2; rw [zj] at this; exact this), rfl⟩, by rw [← h9.2.1]; exact ⟨Y, ch, N, hC⟩⟩ (by decide) (by decide)) ?_
    rintro _ _ ⟨rfl, rfl, cc⟩
    have ic : isC A ofr c := ⟨qj, by rw [zj]; exact cc⟩
    show J X 5 30 g 27 [(7, .ref (yR Y j)), (6, .ref (yR Y i)), (0, .ref x), (1, .int v), (2, .int ofr), (3, .int bY), (4, .int st), (5, .int c)] []
    refine j_aload hX dX10_group_27 1 rfl ?_
    refine j_callS (As := [.ref (yR Y i)]) (rest := []) hX (c_X10_needFree (xl X) (xK X) g hlt (yR Y i) (ynb Y i) (yxb Y i) (vwf A Y i) (aw A i) (nI 0) (ch i) ri (hI i hi).1.1) lk_X10_24 wS_X10_needFree wN_X10 wC_X10_needFree hd_X10_needFree rfl (by rw [hL]; decide) (by decide) rfl (Nat.le_of_ble_eq_true rfl) dX10_group_29 (by rw [hR]; decide) (by rw [hR]; decide) (fun E g9 h9 => jx_out hX hE ⟨2, A, by decide, h9.1, Or.inr (Or.inl ⟨rfl, ⟨⟨i, hi, ei⟩, ic, ib⟩, by rw [zi]; exact h9.2.2, rfl⟩), by rw [← h9.2.1]; exact ⟨Y, ch, N, hC⟩⟩ (by decide) (by decide)) ?_
    rintro _ _ ⟨rfl, fi, rfl⟩
    show J X 6 36 g 32 [(7, .ref (yR Y j)), (6, .ref (yR Y i)), (0, .ref x), (1, .int v), (2, .int ofr), (3, .int bY), (4, .int st), (5, .int c)] []
    rcases i32_in st 4 (by decide) with h9c | ⟨m9, hm9, em⟩
    · refine j_iload hX dX10_group_32 6 rfl ?_
      refine j_if_lt hX 43 dX10_group_34 (by decide) (fun c_34 => ?_) (fun c_34 => ?_)
      · exact j_IAE hX hE hlt sk_X10_103 (by rw [hL]; decide) (Nat.le_of_ble_eq_true rfl) dX10_group_43 dX10_group_46 dX10_group_47 dX10_group_49 dX10_group_52 (⟨3, A, by decide, rfl, Or.inr (Or.inr (Or.inl ⟨rfl, ⟨⟨i, hi, ei⟩, ic, ib⟩, by rw [zi]; omega, i32_out (by decide) h9c, rfl⟩)), Y, ch, N, hC⟩) (by decide) (by decide) (by rw [hR]; decide) (by rw [hR]; decide)
      · refine j_iload hX dX10_group_37 6 rfl ?_
        refine j_iconst (v := nI 3) hX dX10_group_39 (by decide) ?_
        refine j_icmp_le hX 53 dX10_group_40 (by decide) (fun c_40 => absurd c_40 (fun q => absurd (Int32.le_trans (h9c.resolve_left c_34) q) (nI_ge (a := 3) (b := 4) (by decide) (by decide)))) (fun _ => ?_)
        exact j_IAE hX hE hlt sk_X10_103 (by rw [hL]; decide) (Nat.le_of_ble_eq_true rfl) dX10_group_43 dX10_group_46 dX10_group_47 dX10_group_49 dX10_group_52 (⟨3, A, by decide, rfl, Or.inr (Or.inr (Or.inl ⟨rfl, ⟨⟨i, hi, ei⟩, ic, ib⟩, by rw [zi]; omega, i32_out (by decide) h9c, rfl⟩)), Y, ch, N, hC⟩) (by decide) (by decide) (by rw [hR]; decide) (by rw [hR]; decide)
    · refine j_iload hX dX10_group_32 6 rfl ?_
      refine j_if_lt hX 43 dX10_group_34 (by decide) (fun c_34 => absurd c_34 (by rw [em]; exact nI_pos (by omega))) (fun _ => ?_)
      refine j_iload hX dX10_group_37 6 rfl ?_
      refine j_iconst (v := nI 3) hX dX10_group_39 (by decide) ?_
      refine j_icmp_le hX 53 dX10_group_40 (by decide) (fun _ => ?_) (fun c_40 => absurd (show st ≤ nI 3 by rw [em]; exact nI_le (by omega) (by decide)) c_40)
      refine j_aload hX dX10_group_53 1 rfl ?_
      refine j_iload_n hX dX10_group_55 5 rfl ?_
      refine j_iconst (v := (-1)) hX dX10_group_56 (by decide) ?_
      refine j_icmp_ne hX 64 dX10_group_57 (by decide) (fun _ => ?_) (fun c_57 => absurd c_57 hb)
      refine j_iconst (v := nI 2) hX dX10_group_64 (by decide) ?_
      refine j_new (ci := 3) (fs := [.null, .null, .int 0, .null, .int 0, .int 0, .int 0]) hX rfl wf_X3 tyX3_ok lk_X10_105 wA_X3 wN_X3 (fun j hj => by rcases (show j = 0 ∨ j = 1 ∨ j = 2 ∨ j = 3 ∨ j = 4 ∨ j = 5 ∨ j = 6 by omega) with rfl | rfl | rfl | rfl | rfl | rfl | rfl <;> rfl) dX10_group_65 (by rw [hR]; decide) (by rw [hR]; decide) (fun vv fvv => ?_)
      obtain ⟨g1, eg1⟩ : ∃ z : Wd, z = up g vv (ob 3 [.null, .null, .int 0, .null, .int 0, .int 0, .int 0]) := ⟨_, rfl⟩
      refine j_w eg1.symm ?_
      have k1_x := (congrFun eg1 x).trans ((up_n (ne_fr (hC.1.1) fvv)).trans (hC.1.1))
      have k1_yRYi := (congrFun eg1 (yR Y i)).trans ((up_n (ne_fr (ri) fvv)).trans (ri))
      have k1_yRYj := (congrFun eg1 (yR Y j)).trans ((up_n (ne_fr (rj) fvv)).trans (rj))
      have k1_vv : g1 vv = some (ob 3 [.null, .null, .int 0, .null, .int 0, .int 0, .int 0]) := by rw [eg1]; exact up_s _ _ _
      show J X 7 43 g1 68 [(7, .ref (yR Y j)), (6, .ref (yR Y i)), (0, .ref x), (1, .int v), (2, .int ofr), (3, .int bY), (4, .int st), (5, .int c)] [.ref vv, .int (nI 2), .ref (yR Y i)]
      have fvv0 : g vv = none := fvv
      have hsub : Sub g g1 := by rw [eg1]; exact Sub.up (Sub.rf g) fvv
      refine j_dup hX dX10_group_68 rfl ?_
      refine j_aload hX dX10_group_69 0 rfl ?_
      refine j_iload_n hX dX10_group_71 5 rfl ?_
      refine j_iload hX dX10_group_72 6 rfl ?_
      refine j_iload hX dX10_group_74 7 rfl ?_
      refine j_callI (As := [.ref (yR Y j), .int bY, .int st, .int c]) (rest := [.ref vv, .int (nI 2), .ref (yR Y i)]) hX (c_X3_init (xl X) (xK X) g g1 vv (yR Y j) (ad A j) bY st c fvv0 hsub (hC.dep hI hj) (Nat.lt_of_lt_of_le (hI.dp hj) (by decide)) k1_vv) lk_X10_107 wI_X3_init wN_X3 wC_X3_init rfl hd_X3_init rfl (by rw [hL]; decide) (by decide) rfl (Nat.le_of_ble_eq_true rfl) dX10_group_76 (by rw [hR]; decide) (by rw [hR]; decide) ?_
      rintro _ w1 ⟨rfl, rw, frw, nrw, hrw1, hv1, hF1⟩
      have hsub1 : Sub g w1 := Sub.ctor hsub fvv0 frw hF1
      have frw0 : g rw = none := dom_s hsub frw
      show J X 8 47 w1 79 [(7, .ref (yR Y j)), (6, .ref (yR Y i)), (0, .ref x), (1, .int v), (2, .int ofr), (3, .int bY), (4, .int st), (5, .int c)] [.ref vv, .int (nI 2), .ref (yR Y i)]
      refine j_callS (As := [.ref (yR Y i), .int (nI 2), .ref vv]) (rest := []) hX (c_X10_makeView (xl X) (xK X) g w1 hlt x A Y ch N hC hI i hi fi hsub1 vv 2 8 j j rw 0 (nC bY st c 0) false (by decide) fvv0 frw0 (fun e => absurd e (by decide)) (by unfold vwAt; simp only [nC_0, nC_1, nC_2]; exact hv1) hrw1 hj hj wj wj ⟨by rw [nC_0]; exact cb.elim Or.inl (fun ⟨c9, b1, b2⟩ => Or.inr ⟨c9, by have := (hI j hj).1.1; omega, b2⟩), by rw [nC_1]; exact ⟨m9, by omega, em⟩, by rw [nC_2]; exact (by obtain ⟨k9, b1, b2⟩ := cc; exact ⟨k9, by have := (hI j hj).1.1; omega, b2⟩)⟩) lk_X10_66 wS_X10_makeView wN_X10 wC_X10_makeView hd_X10_makeView rfl (by rw [hL]; decide) (by decide) rfl (Nat.le_of_ble_eq_true rfl) dX10_group_79 (by rw [hR]; decide) (by rw [hR]; decide) (fun E g9 h9 => jx_out hX hE ⟨4, A, by decide, h9.1, Or.inr (Or.inr (Or.inr (Or.inl ⟨rfl, ⟨⟨i, hi, ei⟩, ic, ib⟩, by rw [zi]; omega, ⟨m9, hm9, em⟩, fun ⟨B, hB⟩ => by rw [zj] at hB; exact absurd (h9.2.1.symm.trans hB) (by simp), rfl⟩))), h9.2.2⟩ (by decide) (by decide)) ?_
      rintro _ g2 ⟨rfl, B9, ho9, hC9⟩
      show J X 9 53 g2 82 [(7, .ref (yR Y j)), (6, .ref (yR Y i)), (0, .ref x), (1, .int v), (2, .int ofr), (3, .int bY), (4, .int st), (5, .int c)] []
      exact j_vret hX hE dX10_group_82 (⟨rfl, _, (by unfold groupO viewO OutG; rw [zi, zj, if_neg hb]; exact Or.inr (Or.inr (Or.inr (Or.inr ⟨rfl, ⟨⟨i, hi, ei⟩, ic, ib⟩, by omega, ⟨m9, hm9, em⟩, B9, ho9, rfl⟩)))), hC9⟩) (by decide) (by decide)

