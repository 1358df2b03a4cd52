set_option maxRecDepth 20000 in
set_option maxHeartbeats 600000 in
/-- add(row, m) -/
theorem c_X0_add (l : Launch) (K : Cst) (g : Wd) (b ca oa : Nat) (B : Bg) (hR0 : bagR K g b ca oa B) (hG : good B) (ra : Nat) (rf : Nat → Int32) (hr : g ra = some (aI K 4 rf)) (m : Int64) (M : Int) (hm9 : m.toInt = M) (hM1 : -2000000000000000000 ≤ M) (hM2 : M ≤ 2000000000000000000) : Ct l K yX0_add cX0_add 5 (some .boolean) 3 [.ref b, .ref ra, .long m] g (addP K g b ca oa (addB (rowAt rf 0) M B)) (fun _ _ => False) 0 0 := by
  refine ct_of (by decide) (Nat.le_of_ble_eq_true rfl) ?_
  intro X hl hK hX hE hn hL hR hm
  subst hl; subst hK
  show J X 0 0 g 0 [(0, .ref b), (1, .ref ra), (2, .long m)] []
  obtain ⟨cf, tf, hB, hrep⟩ := hR0
  have hn20 : B.length ≤ 20 := hG.2.1
  rcases has_or B (rowAt rf 0) with ⟨x, hx, he⟩ | hx
  · have hpb := pb_in hrep hG.1 hx he
    have hat := atP_in hrep hG.1 hx he
    rw [hpb] at hat
    have hlt := rep_lt hx
    have hx2 := hG.2.2 x (List.mem_of_getElem? hx)
    obtain ⟨q, hq⟩ : ∃ q, q = plc B (rowAt rf 0) := ⟨_, rfl⟩
    rw [← hq] at hpb hat hlt hx
    refine j_aload_n hX dX0_add_0 0 rfl ?_
    refine j_aload_n hX dX0_add_1 1 rfl ?_
    refine j_callV (As := [.ref ra]) (rest := []) hX (c_X0_placeBehind (xl X) (xK X) g b ca oa B.length cf tf hB ra rf hr hn20) hB.1 rfl lk_X0_28 wI_X0_placeBehind wV_X0_X0_placeBehind wN_X0 wC_X0_placeBehind hd_X0_placeBehind rfl (by rw [hL]; decide) (by decide) rfl (Nat.le_of_ble_eq_true rfl) dX0_add_2 (by rw [hR]; decide) (by rw [hR]; decide) jx_no ?_
    rintro _ _ ⟨rfl, rfl⟩
    show J X 0 0 g 5 [(0, .ref b), (1, .ref ra), (2, .long m)] [.int (nI (pbN cf rf B.length))]
    refine j_eqi (y := nI (q + 1)) (congrArg nI hpb) ?_
    refine j_istore (lv' := [(4, .int (nI (q + 1))), (0, .ref b), (1, .ref ra), (2, .long m)]) hX dX0_add_5 (by rw [hn]; decide) rfl ?_
    refine j_aload_n hX dX0_add_7 1 rfl ?_
    refine j_iload hX dX0_add_8 0 rfl ?_
    refine j_iconst (v := 1) hX dX0_add_10 (by decide) ?_
    refine j_isub hX dX0_add_11 ?_
    refine j_aload_n hX dX0_add_12 2 rfl ?_
    refine j_callV (As := [.int ((nI (q + 1)) - 1), .ref ra]) (rest := []) hX (c_X0_isAt (xl X) (xK X) g b ca oa B.length cf tf hB ra rf hr (q + 1) (by omega)) hB.1 rfl lk_X0_32 wI_X0_isAt wV_X0_X0_isAt wN_X0 wC_X0_isAt hd_X0_isAt rfl (by rw [hL]; decide) (by decide) rfl (Nat.le_of_ble_eq_true rfl) dX0_add_13 (by rw [hR]; decide) (by rw [hR]; decide) jx_no ?_
    rintro _ _ ⟨rfl, rfl⟩
    show J X 0 0 g 16 [(4, .int (nI (q + 1))), (0, .ref b), (1, .ref ra), (2, .long m)] [.int (b01 (atP cf rf (q + 1)))]
    refine j_eqi (y := 1) (by rw [hat]; rfl) ?_
    refine j_if_eq hX 40 dX0_add_16 (by decide) (fun c_16 => absurd c_16 (show ¬ (1 : Int32) = 0 by decide)) (fun _ => ?_)
    refine j_aload_n hX dX0_add_19 1 rfl ?_
    refine j_iload hX dX0_add_20 0 rfl ?_
    refine j_iconst (v := 1) hX dX0_add_22 (by decide) ?_
    refine j_isub hX dX0_add_23 ?_
    refine j_eqi (y := nI q) (nI_pred q) ?_
    refine j_aload_n hX dX0_add_24 1 rfl ?_
    refine j_get (v := .ref oa) hX hB.1 rfl wf_X0 1 (by decide) lk_X0_15 (fun _ h => h) rfl dX0_add_25 ?_
    refine j_iload hX dX0_add_28 0 rfl ?_
    refine j_iconst (v := 1) hX dX0_add_30 (by decide) ?_
    refine j_isub hX dX0_add_31 ?_
    refine j_eqi (y := nI q) (nI_pred q) ?_
    refine j_ialdN hX hB.2.2 (q) (rfl) (by omega) (by decide) dX0_add_32 ?_
    refine j_eqi (y := nI x.2) ((hrep q x hx).2) ?_
    refine j_i2l hX dX0_add_33 ?_
    refine j_lload_n hX dX0_add_34 3 rfl ?_
    refine j_ladd hX dX0_add_35 ?_
    refine j_topl (fun y ey => ?_)
    have hy : y.toInt = (x.2 : Int) + M := by rw [ey, l_add (by rw [l_nI (by omega)]; omega) (by rw [l_nI (by omega)]; omega), l_nI (by omega), hm9]
    have hAd := addB_in (M := M) (by rw [← hq]; exact hx) he
    rw [← hq] at hAd
    refine j_callV (As := [.int (nI q), .long y]) (rest := []) hX (c_X0_setTimes (xl X) (xK X) g b ca oa B.length cf tf hB q y hlt hn20) hB.1 rfl lk_X0_36 wI_X0_setTimes wV_X0_X0_setTimes wN_X0 wC_X0_setTimes hd_X0_setTimes rfl (by rw [hL]; decide) (by decide) rfl (Nat.le_of_ble_eq_true rfl) dX0_add_36 (by rw [hR]; decide) (by rw [hR]; decide) jx_no ?_
    rintro _ g' (⟨c1, rfl, rfl⟩ | ⟨c1, rfl, hB', hF⟩ | ⟨c1, c2, rfl, hB', hF⟩)
    · show J X 0 0 g 39 [(4, .int (nI (q + 1))), (0, .ref b), (1, .ref ra), (2, .long m)] [.int 0]
      exact j_zret hX hE dX0_add_39 (by first | rfl | decide | assumption) (by rw [hAd, if_pos (by have := l_lt.mp c1; rw [l_bil, hy] at this; exact this)]; exact ⟨rfl, rfl⟩) (by decide) (by decide)
    · show J X 0 0 g' 39 [(4, .int (nI (q + 1))), (0, .ref b), (1, .ref ra), (2, .long m)] [.int 1]
      exact j_zret hX hE dX0_add_39 (by first | rfl | decide | assumption) (by rw [hAd, if_neg (by have := l_le.mp c1; rw [l_0, hy] at this; omega), if_pos (by have := l_le.mp c1; rw [l_0, hy] at this; exact this)]; exact ⟨rfl, ⟨_, _, by rw [List.length_eraseIdx, if_pos hlt]; exact hB', rep_erase hrep hlt⟩, hF⟩) (by decide) (by decide)
    · show J X 0 0 g' 39 [(4, .int (nI (q + 1))), (0, .ref b), (1, .ref ra), (2, .long m)] [.int 1]
      exact j_zret hX hE dX0_add_39 (by first | rfl | decide | assumption) (by rw [hAd, if_neg (by have := l_le.mp c2; rw [l_bil, hy] at this; omega), if_neg (by have := l_lt.mp c1; rw [l_0, hy] at this; omega)]; exact ⟨rfl, ⟨cf, _, by rw [List.length_set]; exact hB', by rw [← hy, ← he, l_i32 (by have := l_lt.mp c1; rw [l_0] at this; omega)]; exact rep_set hrep hx⟩, hF⟩) (by decide) (by decide)
  · have hpb := pb_out hrep hG.1 hx
    have hat := atP_out hrep hG.1 hx
    rw [hpb] at hat
    have hle := plc_le B (rowAt rf 0)
    have hAd := addB_out (M := M) hx
    obtain ⟨q, hq⟩ : ∃ q, q = plc B (rowAt rf 0) := ⟨_, rfl⟩
    rw [← hq] at hpb hat hle hAd
    refine j_aload_n hX dX0_add_0 0 rfl ?_
    refine j_aload_n hX dX0_add_1 1 rfl ?_
    refine j_callV (As := [.ref ra]) (rest := []) hX (c_X0_placeBehind (xl X) (xK X) g b ca oa B.length cf tf hB ra rf hr hn20) hB.1 rfl lk_X0_28 wI_X0_placeBehind wV_X0_X0_placeBehind wN_X0 wC_X0_placeBehind hd_X0_placeBehind rfl (by rw [hL]; decide) (by decide) rfl (Nat.le_of_ble_eq_true rfl) dX0_add_2 (by rw [hR]; decide) (by rw [hR]; decide) jx_no ?_
    rintro _ _ ⟨rfl, rfl⟩
    show J X 0 0 g 5 [(0, .ref b), (1, .ref ra), (2, .long m)] [.int (nI (pbN cf rf B.length))]
    refine j_eqi (y := nI q) (congrArg nI hpb) ?_
    refine j_istore (lv' := [(4, .int (nI q)), (0, .ref b), (1, .ref ra), (2, .long m)]) hX dX0_add_5 (by rw [hn]; decide) rfl ?_
    refine j_aload_n hX dX0_add_7 1 rfl ?_
    refine j_iload hX dX0_add_8 0 rfl ?_
    refine j_iconst (v := 1) hX dX0_add_10 (by decide) ?_
    refine j_isub hX dX0_add_11 ?_
    refine j_aload_n hX dX0_add_12 2 rfl ?_
    refine j_callV (As := [.int ((nI q) - 1), .ref ra]) (rest := []) hX (c_X0_isAt (xl X) (xK X) g b ca oa B.length cf tf hB ra rf hr q (by omega)) hB.1 rfl lk_X0_32 wI_X0_isAt wV_X0_X0_isAt wN_X0 wC_X0_isAt hd_X0_isAt rfl (by rw [hL]; decide) (by decide) rfl (Nat.le_of_ble_eq_true rfl) dX0_add_13 (by rw [hR]; decide) (by rw [hR]; decide) jx_no ?_
    rintro _ _ ⟨rfl, rfl⟩
    show J X 0 0 g 16 [(4, .int (nI q)), (0, .ref b), (1, .ref ra), (2, .long m)] [.int (b01 (atP cf rf q))]
    refine j_eqi (y := 0) (by rw [hat]; rfl) ?_
    refine j_if_eq hX 40 dX0_add_16 (by decide) (fun _ => ?_) (fun c_16 => absurd (show (0 : Int32) = 0 from rfl) c_16)
    refine j_lload_n hX dX0_add_40 3 rfl ?_
    refine j_lconst (v := 0) hX dX0_add_41 (by decide) ?_
    refine j_lcmp hX dX0_add_42 ?_
    refine j_if_le hX 57 dX0_add_43 (by decide) (fun c_43 => ?_) (fun c_43 => ?_)
    · have c43 := (lg_cmp_le _ _).mp c_43
      refine j_iconst (v := 1) hX dX0_add_57 (by decide) ?_
      refine j_goto hX 62 dX0_add_58 (by decide) ?_
      exact j_zret hX hE dX0_add_62 (by first | rfl | decide | assumption) (by rw [hAd, if_pos (by have := l_le.mp c43; rw [l_0, hm9] at this; exact this)]; exact ⟨rfl, ⟨cf, tf, hB, hrep⟩, Fr.rf _ _⟩) (by decide) (by decide)
    · have c43 : 0 < m := Int64.not_le.mp (fun q => c_43 ((lg_cmp_le _ _).mpr q))
      refine j_aload_n hX dX0_add_46 1 rfl ?_
      refine j_iload hX dX0_add_47 0 rfl ?_
      refine j_aload_n hX dX0_add_49 2 rfl ?_
      refine j_lload_n hX dX0_add_50 3 rfl ?_
      refine j_callV (As := [.int (nI q), .ref ra, .long m]) (rest := []) hX (c_X0_insert (xl X) (xK X) g b ca oa B.length cf tf hB ra rf hr q m hle hn20) hB.1 rfl lk_X0_40 wI_X0_insert wV_X0_X0_insert wN_X0 wC_X0_insert hd_X0_insert rfl (by rw [hL]; decide) (by decide) rfl (Nat.le_of_ble_eq_true rfl) dX0_add_51 (by rw [hR]; decide) (by rw [hR]; decide) jx_no ?_
      rintro _ g' (⟨c1, rfl, rfl⟩ | ⟨c1, c2, rfl, hB', hF⟩)
      · show J X 0 0 g 54 [(4, .int (nI q)), (0, .ref b), (1, .ref ra), (2, .long m)] [.int 0]
        refine j_if_eq hX 61 dX0_add_54 (by decide) (fun _ => ?_) (fun c_54 => absurd (show (0 : Int32) = 0 from rfl) c_54)
        refine j_iconst (v := 0) hX dX0_add_61 (by decide) ?_
        exact j_zret hX hE dX0_add_62 (by first | rfl | decide | assumption) (by rw [hAd, if_neg (by have := l_lt.mp c43; rw [l_0, hm9] at this; omega)]; rw [if_pos (c1.imp_right (fun h => by have := l_lt.mp h; rw [l_bil, hm9] at this; exact this))]; exact ⟨rfl, rfl⟩) (by decide) (by decide)
      · show J X 0 0 g' 54 [(4, .int (nI q)), (0, .ref b), (1, .ref ra), (2, .long m)] [.int 1]
        refine j_if_eq hX 61 dX0_add_54 (by decide) (fun c_54 => absurd c_54 (show ¬ (1 : Int32) = 0 by decide)) (fun _ => ?_)
        refine j_iconst (v := 1) hX dX0_add_57 (by decide) ?_
        refine j_goto hX 62 dX0_add_58 (by decide) ?_
        exact j_zret hX hE dX0_add_62 (by first | rfl | decide | assumption) (by rw [hAd, if_neg (by have := l_lt.mp c43; rw [l_0, hm9] at this; omega)]; rw [if_neg (by have := l_le.mp c2; rw [l_bil, hm9] at this; omega)]; exact ⟨rfl, ⟨_, _, by rw [List.length_insertIdx, if_pos hle]; exact hB', by rw [← hm9, l_i32 (by have := l_lt.mp c43; rw [l_0] at this; omega)]; exact rep_insert hrep hle⟩, hF⟩) (by decide) (by decide)

