def RdI (K : Cst) (m : Nat) (A : Ab) (ins : Prop) (va : Int32) : Option Value → Wd → Prop := fun r g' => ∃ (k : Nat) (v : Int32), r = some (.int v) ∧ RX K g' m (nI k) A ∧ ((k = 0 ∧ ins ∧ v = va) ∨ (k = 1 ∧ ¬ ins))
def RdL (K : Cst) (m : Nat) (A : Ab) (ins : Prop) (va : Int64) : Option Value → Wd → Prop := fun r g' => ∃ (k : Nat) (v : Int64), r = some (.long v) ∧ RX K g' m (nI k) A ∧ ((k = 0 ∧ ins ∧ v = va) ∨ (k = 1 ∧ ¬ ins))
set_option maxRecDepth 20000 in
set_option maxHeartbeats 1600000 in
/-- c_X11_width -/
theorem c_X11_width (l : Launch) (K : Cst) (g : Wd) (m : Nat) (Q : Nat → Nat) (th fi : Int32) (F : Nat → Nat → Int32) (Od : List Nat) (hS : RS K g m Q th (nI Od.length) fi F) (A : Ab) (hI : Inv A) (hA : RA A Od F) (r : Int32) : Ct l K yX11_width cX11_width 2 (some .int) 5 [.ref m, .int r] g (RdI K m A (P8 r) (nI (aw A (vnat r)))) (fun _ _ => False) 0 0 := by
  refine ct_of (by decide) (Nat.le_of_ble_eq_true rfl) ?_
  intro X hl hK hX hE hn hL hR hm
  subst hl; subst hK
  show J X 0 0 g 0 [(0, .ref m), (1, .int r)] []
  by_cases hP : P8 r
  · obtain ⟨ri, hri, rfl⟩ := hP
    show J X 0 0 g 0 [(0, .ref m), (1, .int (nI ri))] []
    refine j_aload_n hX dX11_width_0 0 rfl ?_
    refine j_iload_n hX dX11_width_1 1 rfl ?_
    refine j_callS (As := [.int (nI ri)]) (rest := [.ref m]) hX (c_X11_isPlace (xl X) (xK X) g (nI ri)) lk_X11_109 wS_X11_isPlace wN_X11 wC_X11_isPlace hd_X11_isPlace rfl (by rw [hL]; decide) (by decide) rfl (Nat.le_of_ble_eq_true rfl) dX11_width_2 (by rw [hR]; decide) (by rw [hR]; decide) jx_no ?_
    rintro _ _ ⟨b9, rfl, hb9, rfl⟩
    obtain rfl : b9 = true := hb9.mpr ⟨ri, hri, rfl⟩
    clear hb9
    show J X 0 0 g 5 [(0, .ref m), (1, .int (nI ri))] [.int (b01 true), .ref m]
    refine j_if_eq hX 12 dX11_width_5 (by decide) (fun c_5 => absurd c_5 (by decide)) (fun _ => ?_)
    refine j_iconst (v := nI 0) hX dX11_width_8 (by decide) ?_
    refine j_goto hX 13 dX11_width_9 (by decide) ?_
    refine j_put hX hS.1 rfl wf_X11 tyX11_ok nmX11 0 (by decide) lk_X11_56 (fun _ h => h) rfl (tyX11_ok 0 (by decide)) rfl rfl (Nat.le_of_ble_eq_true rfl) dX11_width_13 ?_
    obtain ⟨g1, eg1⟩ : ∃ z : Wd, z = up g m (ob 10 [.int (nI 0), .ref (Q 0), .ref (Q 1), .ref (Q 2), .ref (Q 3), .ref (Q 4), .ref (Q 5), .ref (Q 6), .int (nI Od.length), .ref (Q 7), .ref (Q 8), .ref (Q 9), .ref (Q 10), .ref (Q 11), .ref (Q 12), .ref (Q 13), .int fi, .ref (Q 14)]) := ⟨_, rfl⟩
    refine j_w eg1.symm ?_
    have hS1 : RS (xK X) g1 m Q (nI 0) (nI Od.length) fi F := by rw [eg1]; exact hS.obj _ _ _
    refine j_aload_n hX dX11_width_16 0 rfl ?_
    refine j_get (v := .int (nI 0)) hX hS1.1 rfl wf_X11 0 (by decide) lk_X11_56 (fun _ h => h) rfl dX11_width_17 ?_
    refine j_if_le hX 27 dX11_width_20 (by decide) (fun _ => ?_) (fun c_20 => absurd (by decide) c_20)
    refine j_aload_n hX dX11_width_27 0 rfl ?_
    refine j_get (v := .ref (Q 1)) hX hS1.1 rfl wf_X11 2 (by decide) lk_X11_13 (fun _ h => h) rfl dX11_width_28 ?_
    refine j_iload_n hX dX11_width_31 1 rfl ?_
    refine j_ialdN hX (show g1 (Q 1) = some (aI (xK X) 8 (F 1)) from hS1.2.1 1 (by decide)) (ri) (rfl) (hri) (by decide) dX11_width_32 ?_
    refine j_eqi (y := nI (aw A ri)) ((hA.2.2 ri hri).1.2) ?_
    exact j_iret hX hE dX11_width_33 (⟨0, (nI (aw A ri)), rfl, ⟨Q, Od, fi, F, hS1, hA⟩, Or.inl ⟨rfl, ⟨ri, hri, rfl⟩, by rw [vnat_nI (by omega)]⟩⟩) (by decide) (by decide)
  · show J X 0 0 g 0 [(0, .ref m), (1, .int r)] []
    refine j_aload_n hX dX11_width_0 0 rfl ?_
    refine j_iload_n hX dX11_width_1 1 rfl ?_
    refine j_callS (As := [.int r]) (rest := [.ref m]) hX (c_X11_isPlace (xl X) (xK X) g (r)) lk_X11_109 wS_X11_isPlace wN_X11 wC_X11_isPlace hd_X11_isPlace rfl (by rw [hL]; decide) (by decide) rfl (Nat.le_of_ble_eq_true rfl) dX11_width_2 (by rw [hR]; decide) (by rw [hR]; decide) jx_no ?_
    rintro _ _ ⟨b9, rfl, hb9, rfl⟩
    obtain rfl : b9 = false := Bool.eq_false_iff.mpr (fun q => hP (hb9.mp q))
    clear hb9
    show J X 0 0 g 5 [(0, .ref m), (1, .int r)] [.int (b01 false), .ref m]
    refine j_if_eq hX 12 dX11_width_5 (by decide) (fun _ => ?_) (fun c_5 => absurd (by decide) c_5)
    refine j_iconst (v := nI 1) hX dX11_width_12 (by decide) ?_
    refine j_put hX hS.1 rfl wf_X11 tyX11_ok nmX11 0 (by decide) lk_X11_56 (fun _ h => h) rfl (tyX11_ok 0 (by decide)) rfl rfl (Nat.le_of_ble_eq_true rfl) dX11_width_13 ?_
    obtain ⟨g1, eg1⟩ : ∃ z : Wd, z = up g m (ob 10 [.int (nI 1), .ref (Q 0), .ref (Q 1), .ref (Q 2), .ref (Q 3), .ref (Q 4), .ref (Q 5), .ref (Q 6), .int (nI Od.length), .ref (Q 7), .ref (Q 8), .ref (Q 9), .ref (Q 10), .ref (Q 11), .ref (Q 12), .ref (Q 13), .int fi, .ref (Q 14)]) := ⟨_, rfl⟩
    refine j_w eg1.symm ?_
    have hS1 : RS (xK X) g1 m Q (nI 1) (nI Od.length) fi F := by rw [eg1]; exact hS.obj _ _ _
    refine j_aload_n hX dX11_width_16 0 rfl ?_
    refine j_get (v := .int (nI 1)) hX hS1.1 rfl wf_X11 0 (by decide) lk_X11_56 (fun _ h => h) rfl dX11_width_17 ?_
    refine j_if_le hX 27 dX11_width_20 (by decide) (fun c_20 => absurd c_20 (by decide)) (fun _ => ?_)
    refine j_iconst (v := nI 0) hX dX11_width_23 (by decide) ?_
    refine j_goto hX 33 dX11_width_24 (by decide) ?_
    exact j_iret hX hE dX11_width_33 (⟨1, _, rfl, ⟨Q, Od, fi, F, hS1, hA⟩, Or.inr ⟨rfl, hP⟩⟩) (by decide) (by decide)

set_option maxRecDepth 20000 in
set_option maxHeartbeats 1600000 in
/-- c_X11_rows -/
theorem c_X11_rows (l : Launch) (K : Cst) (g : Wd) (m : Nat) (Q : Nat → Nat) (th fi : Int32) (F : Nat → Nat → Int32) (Od : List Nat) (hS : RS K g m Q th (nI Od.length) fi F) (A : Ab) (hI : Inv A) (hA : RA A Od F) (r : Int32) : Ct l K yX11_rows cX11_rows 2 (some .int) 5 [.ref m, .int r] g (RdI K m A (isR A r) (nI (aB A (vnat r)).length)) (fun _ _ => False) 0 0 := by
  refine ct_of (by decide) (Nat.le_of_ble_eq_true rfl) ?_
  intro X hl hK hX hE hn hL hR hm
  subst hl; subst hK
  show J X 0 0 g 0 [(0, .ref m), (1, .int r)] []
  by_cases hP : isR A r
  · obtain ⟨ri, hri, rfl, hwr⟩ := hP
    show J X 0 0 g 0 [(0, .ref m), (1, .int (nI ri))] []
    refine j_aload_n hX dX11_rows_0 0 rfl ?_
    refine j_aload_n hX dX11_rows_1 0 rfl ?_
    refine j_iload_n hX dX11_rows_2 1 rfl ?_
    refine j_callV (As := [.int (nI ri)]) (rest := [.ref m]) hX (c_X11_is (xl X) (xK X) g m Q th (nI Od.length) fi F hS (nI ri)) hS.1 rfl lk_X11_113 wI_X11_is wV_X11_X11_is wN_X11 wC_X11_is hd_X11_is rfl (by rw [hL]; decide) (by decide) rfl (Nat.le_of_ble_eq_true rfl) dX11_rows_3 (by rw [hR]; decide) (by rw [hR]; decide) jx_no ?_
    rintro _ _ ⟨b9, rfl, hb9, rfl⟩
    obtain rfl : b9 = true := hb9.mpr ((hA.is hI _).mpr ⟨ri, hri, rfl, hwr⟩)
    clear hb9
    show J X 0 0 g 6 [(0, .ref m), (1, .int (nI ri))] [.int (b01 true), .ref m]
    refine j_if_eq hX 13 dX11_rows_6 (by decide) (fun c_6 => absurd c_6 (by decide)) (fun _ => ?_)
    refine j_iconst (v := nI 0) hX dX11_rows_9 (by decide) ?_
    refine j_goto hX 14 dX11_rows_10 (by decide) ?_
    refine j_put hX hS.1 rfl wf_X11 tyX11_ok nmX11 0 (by decide) lk_X11_56 (fun _ h => h) rfl (tyX11_ok 0 (by decide)) rfl rfl (Nat.le_of_ble_eq_true rfl) dX11_rows_14 ?_
    obtain ⟨g1, eg1⟩ : ∃ z : Wd, z = up g m (ob 10 [.int (nI 0), .ref (Q 0), .ref (Q 1), .ref (Q 2), .ref (Q 3), .ref (Q 4), .ref (Q 5), .ref (Q 6), .int (nI Od.length), .ref (Q 7), .ref (Q 8), .ref (Q 9), .ref (Q 10), .ref (Q 11), .ref (Q 12), .ref (Q 13), .int fi, .ref (Q 14)]) := ⟨_, rfl⟩
    refine j_w eg1.symm ?_
    have hS1 : RS (xK X) g1 m Q (nI 0) (nI Od.length) fi F := by rw [eg1]; exact hS.obj _ _ _
    refine j_aload_n hX dX11_rows_17 0 rfl ?_
    refine j_get (v := .int (nI 0)) hX hS1.1 rfl wf_X11 0 (by decide) lk_X11_56 (fun _ h => h) rfl dX11_rows_18 ?_
    refine j_if_le hX 28 dX11_rows_21 (by decide) (fun _ => ?_) (fun c_21 => absurd (by decide) c_21)
    refine j_aload_n hX dX11_rows_28 0 rfl ?_
    refine j_get (v := .ref (Q 10)) hX hS1.1 rfl wf_X11 12 (by decide) lk_X11_41 (fun _ h => h) rfl dX11_rows_29 ?_
    refine j_iload_n hX dX11_rows_32 1 rfl ?_
    refine j_ialdN hX (show g1 (Q 10) = some (aI (xK X) 8 (F 10)) from hS1.2.1 10 (by decide)) (ri) (rfl) (hri) (by decide) dX11_rows_33 ?_
    refine j_eqi (y := nI (aB A ri).length) ((hA.2.2 ri hri).2.1.1) ?_
    exact j_iret hX hE dX11_rows_34 (⟨0, (nI (aB A ri).length), rfl, ⟨Q, Od, fi, F, hS1, hA⟩, Or.inl ⟨rfl, ⟨ri, hri, rfl, hwr⟩, by rw [vnat_nI (by omega)]⟩⟩) (by decide) (by decide)
  · show J X 0 0 g 0 [(0, .ref m), (1, .int r)] []
    refine j_aload_n hX dX11_rows_0 0 rfl ?_
    refine j_aload_n hX dX11_rows_1 0 rfl ?_
    refine j_iload_n hX dX11_rows_2 1 rfl ?_
    refine j_callV (As := [.int r]) (rest := [.ref m]) hX (c_X11_is (xl X) (xK X) g m Q th (nI Od.length) fi F hS (r)) hS.1 rfl lk_X11_113 wI_X11_is wV_X11_X11_is wN_X11 wC_X11_is hd_X11_is rfl (by rw [hL]; decide) (by decide) rfl (Nat.le_of_ble_eq_true rfl) dX11_rows_3 (by rw [hR]; decide) (by rw [hR]; decide) jx_no ?_
    rintro _ _ ⟨b9, rfl, hb9, rfl⟩
    obtain rfl : b9 = false := Bool.eq_false_iff.mpr (fun q => hP ((hA.is hI _).mp (hb9.mp q)))
    clear hb9
    show J X 0 0 g 6 [(0, .ref m), (1, .int r)] [.int (b01 false), .ref m]
    refine j_if_eq hX 13 dX11_rows_6 (by decide) (fun _ => ?_) (fun c_6 => absurd (by decide) c_6)
    refine j_iconst (v := nI 1) hX dX11_rows_13 (by decide) ?_
    refine j_put hX hS.1 rfl wf_X11 tyX11_ok nmX11 0 (by decide) lk_X11_56 (fun _ h => h) rfl (tyX11_ok 0 (by decide)) rfl rfl (Nat.le_of_ble_eq_true rfl) dX11_rows_14 ?_
    obtain ⟨g1, eg1⟩ : ∃ z : Wd, z = up g m (ob 10 [.int (nI 1), .ref (Q 0), .ref (Q 1), .ref (Q 2), .ref (Q 3), .ref (Q 4), .ref (Q 5), .ref (Q 6), .int (nI Od.length), .ref (Q 7), .ref (Q 8), .ref (Q 9), .ref (Q 10), .ref (Q 11), .ref (Q 12), .ref (Q 13), .int fi, .ref (Q 14)]) := ⟨_, rfl⟩
    refine j_w eg1.symm ?_
    have hS1 : RS (xK X) g1 m Q (nI 1) (nI Od.length) fi F := by rw [eg1]; exact hS.obj _ _ _
    refine j_aload_n hX dX11_rows_17 0 rfl ?_
    refine j_get (v := .int (nI 1)) hX hS1.1 rfl wf_X11 0 (by decide) lk_X11_56 (fun _ h => h) rfl dX11_rows_18 ?_
    refine j_if_le hX 28 dX11_rows_21 (by decide) (fun c_21 => absurd c_21 (by decide)) (fun _ => ?_)
    refine j_iconst (v := nI 0) hX dX11_rows_24 (by decide) ?_
    refine j_goto hX 34 dX11_rows_25 (by decide) ?_
    exact j_iret hX hE dX11_rows_34 (⟨1, _, rfl, ⟨Q, Od, fi, F, hS1, hA⟩, Or.inr ⟨rfl, hP⟩⟩) (by decide) (by decide)

set_option maxRecDepth 20000 in
set_option maxHeartbeats 1600000 in
/-- c_X11_changed -/
theorem c_X11_changed (l : Launch) (K : Cst) (g : Wd) (m : Nat) (Q : Nat → Nat) (th fi : Int32) (F : Nat → Nat → Int32) (Od : List Nat) (hS : RS K g m Q th (nI Od.length) fi F) (A : Ab) (hI : Inv A) (hA : RA A Od F) (r : Int32) : Ct l K yX11_changed cX11_changed 2 (some .int) 5 [.ref m, .int r] g (RdI K m A (isR A r) (nI (ac A (vnat r)))) (fun _ _ => False) 0 0 := by
  refine ct_of (by decide) (Nat.le_of_ble_eq_true rfl) ?_
  intro X hl hK hX hE hn hL hR hm
  subst hl; subst hK
  show J X 0 0 g 0 [(0, .ref m), (1, .int r)] []
  by_cases hP : isR A r
  · obtain ⟨ri, hri, rfl, hwr⟩ := hP
    show J X 0 0 g 0 [(0, .ref m), (1, .int (nI ri))] []
    refine j_aload_n hX dX11_changed_0 0 rfl ?_
    refine j_aload_n hX dX11_changed_1 0 rfl ?_
    refine j_iload_n hX dX11_changed_2 1 rfl ?_
    refine j_callV (As := [.int (nI ri)]) (rest := [.ref m]) hX (c_X11_is (xl X) (xK X) g m Q th (nI Od.length) fi F hS (nI ri)) hS.1 rfl lk_X11_113 wI_X11_is wV_X11_X11_is wN_X11 wC_X11_is hd_X11_is rfl (by rw [hL]; decide) (by decide) rfl (Nat.le_of_ble_eq_true rfl) dX11_changed_3 (by rw [hR]; decide) (by rw [hR]; decide) jx_no ?_
    rintro _ _ ⟨b9, rfl, hb9, rfl⟩
    obtain rfl : b9 = true := hb9.mpr ((hA.is hI _).mpr ⟨ri, hri, rfl, hwr⟩)
    clear hb9
    show J X 0 0 g 6 [(0, .ref m), (1, .int (nI ri))] [.int (b01 true), .ref m]
    refine j_if_eq hX 13 dX11_changed_6 (by decide) (fun c_6 => absurd c_6 (by decide)) (fun _ => ?_)
    refine j_iconst (v := nI 0) hX dX11_changed_9 (by decide) ?_
    refine j_goto hX 14 dX11_changed_10 (by decide) ?_
    refine j_put hX hS.1 rfl wf_X11 tyX11_ok nmX11 0 (by decide) lk_X11_56 (fun _ h => h) rfl (tyX11_ok 0 (by decide)) rfl rfl (Nat.le_of_ble_eq_true rfl) dX11_changed_14 ?_
    obtain ⟨g1, eg1⟩ : ∃ z : Wd, z = up g m (ob 10 [.int (nI 0), .ref (Q 0), .ref (Q 1), .ref (Q 2), .ref (Q 3), .ref (Q 4), .ref (Q 5), .ref (Q 6), .int (nI Od.length), .ref (Q 7), .ref (Q 8), .ref (Q 9), .ref (Q 10), .ref (Q 11), .ref (Q 12), .ref (Q 13), .int fi, .ref (Q 14)]) := ⟨_, rfl⟩
    refine j_w eg1.symm ?_
    have hS1 : RS (xK X) g1 m Q (nI 0) (nI Od.length) fi F := by rw [eg1]; exact hS.obj _ _ _
    refine j_aload_n hX dX11_changed_17 0 rfl ?_
    refine j_get (v := .int (nI 0)) hX hS1.1 rfl wf_X11 0 (by decide) lk_X11_56 (fun _ h => h) rfl dX11_changed_18 ?_
    refine j_if_le hX 28 dX11_changed_21 (by decide) (fun _ => ?_) (fun c_21 => absurd (by decide) c_21)
    refine j_aload_n hX dX11_changed_28 0 rfl ?_
    refine j_get (v := .ref (Q 7)) hX hS1.1 rfl wf_X11 9 (by decide) lk_X11_32 (fun _ h => h) rfl dX11_changed_29 ?_
    refine j_iload_n hX dX11_changed_32 1 rfl ?_
    refine j_ialdN hX (show g1 (Q 7) = some (aI (xK X) 8 (F 7)) from hS1.2.1 7 (by decide)) (ri) (rfl) (hri) (by decide) dX11_changed_33 ?_
    refine j_eqi (y := nI (ac A ri)) ((hA.2.2 ri hri).2.2.1 ((hA.free hI hri).2 hwr).1) ?_
    exact j_iret hX hE dX11_changed_34 (⟨0, (nI (ac A ri)), rfl, ⟨Q, Od, fi, F, hS1, hA⟩, Or.inl ⟨rfl, ⟨ri, hri, rfl, hwr⟩, by rw [vnat_nI (by omega)]⟩⟩) (by decide) (by decide)
  · show J X 0 0 g 0 [(0, .ref m), (1, .int r)] []
    refine j_aload_n hX dX11_changed_0 0 rfl ?_
    refine j_aload_n hX dX11_changed_1 0 rfl ?_
    refine j_iload_n hX dX11_changed_2 1 rfl ?_
    refine j_callV (As := [.int r]) (rest := [.ref m]) hX (c_X11_is (xl X) (xK X) g m Q th (nI Od.length) fi F hS (r)) hS.1 rfl lk_X11_113 wI_X11_is wV_X11_X11_is wN_X11 wC_X11_is hd_X11_is rfl (by rw [hL]; decide) (by decide) rfl (Nat.le_of_ble_eq_true rfl) dX11_changed_3 (by rw [hR]; decide) (by rw [hR]; decide) jx_no ?_
    rintro _ _ ⟨b9, rfl, hb9, rfl⟩
    obtain rfl : b9 = false := Bool.eq_false_iff.mpr (fun q => hP ((hA.is hI _).mp (hb9.mp q)))
    clear hb9
    show J X 0 0 g 6 [(0, .ref m), (1, .int r)] [.int (b01 false), .ref m]
    refine j_if_eq hX 13 dX11_changed_6 (by decide) (fun _ => ?_) (fun c_6 => absurd (by decide) c_6)
    refine j_iconst (v := nI 1) hX dX11_changed_13 (by decide) ?_
    refine j_put hX hS.1 rfl wf_X11 tyX11_ok nmX11 0 (by decide) lk_X11_56 (fun _ h => h) rfl (tyX11_ok 0 (by decide)) rfl rfl (Nat.le_of_ble_eq_true rfl) dX11_changed_14 ?_
    obtain ⟨g1, eg1⟩ : ∃ z : Wd, z = up g m (ob 10 [.int (nI 1), .ref (Q 0), .ref (Q 1), .ref (Q 2), .ref (Q 3), .ref (Q 4), .ref (Q 5), .ref (Q 6), .int (nI Od.length), .ref (Q 7), .ref (Q 8), .ref (Q 9), .ref (Q 10), .ref (Q 11), .ref (Q 12), .ref (Q 13), .int fi, .ref (Q 14)]) := ⟨_, rfl⟩
    refine j_w eg1.symm ?_
    have hS1 : RS (xK X) g1 m Q (nI 1) (nI Od.length) fi F := by rw [eg1]; exact hS.obj _ _ _
    refine j_aload_n hX dX11_changed_17 0 rfl ?_
    refine j_get (v := .int (nI 1)) hX hS1.1 rfl wf_X11 0 (by decide) lk_X11_56 (fun _ h => h) rfl dX11_changed_18 ?_
    refine j_if_le hX 28 dX11_changed_21 (by decide) (fun c_21 => absurd c_21 (by decide)) (fun _ => ?_)
    refine j_iconst (v := nI 0) hX dX11_changed_24 (by decide) ?_
    refine j_goto hX 34 dX11_changed_25 (by decide) ?_
    exact j_iret hX hE dX11_changed_34 (⟨1, _, rfl, ⟨Q, Od, fi, F, hS1, hA⟩, Or.inr ⟨rfl, hP⟩⟩) (by decide) (by decide)

set_option maxRecDepth 20000 in
set_option maxHeartbeats 1600000 in
/-- c_X11_size -/
theorem c_X11_size (l : Launch) (K : Cst) (g : Wd) (m : Nat) (Q : Nat → Nat) (th fi : Int32) (F : Nat → Nat → Int32) (Od : List Nat) (hS : RS K g m Q th (nI Od.length) fi F) (A : Ab) (hI : Inv A) (hA : RA A Od F) (r : Int32) : Ct l K yX11_size cX11_size 5 (some .long) 5 [.ref m, .int r] g (RdL K m A (isR A r) (sizeB (aB A (vnat r)))) (fun _ _ => False) 0 0 := by
  refine ct_of (by decide) (Nat.le_of_ble_eq_true rfl) ?_
  intro X hl hK hX hE hn hL hR hm
  subst hl; subst hK
  show J X 0 0 g 0 [(0, .ref m), (1, .int r)] []
  by_cases hP : isR A r
  · obtain ⟨ri, hri, rfl, hwr⟩ := hP
    have hob := (hA.2.2 ri hri).2.1
    have hl20 := (hI ri hri).2.2.1.1.2.1
    show J X 0 0 g 0 [(0, .ref m), (1, .int (nI ri))] []
    refine j_aload_n hX dX11_size_0 0 rfl ?_
    refine j_aload_n hX dX11_size_1 0 rfl ?_
    refine j_iload_n hX dX11_size_2 1 rfl ?_
    refine j_callV (As := [.int (nI ri)]) (rest := [.ref m]) hX (c_X11_is (xl X) (xK X) g m Q th (nI Od.length) fi F hS (nI ri)) hS.1 rfl lk_X11_113 wI_X11_is wV_X11_X11_is wN_X11 wC_X11_is hd_X11_is rfl (by rw [hL]; decide) (by decide) rfl (Nat.le_of_ble_eq_true rfl) dX11_size_3 (by rw [hR]; decide) (by rw [hR]; decide) jx_no ?_
    rintro _ _ ⟨b9, rfl, hb9, rfl⟩
    obtain rfl : b9 = true := hb9.mpr ((hA.is hI _).mpr ⟨ri, hri, rfl, hwr⟩)
    clear hb9
    show J X 0 0 g 6 [(0, .ref m), (1, .int (nI ri))] [.int (b01 true), .ref m]
    refine j_if_eq hX 13 dX11_size_6 (by decide) (fun c_6 => absurd c_6 (by decide)) (fun _ => ?_)
    refine j_iconst (v := nI 0) hX dX11_size_9 (by decide) ?_
    refine j_goto hX 14 dX11_size_10 (by decide) ?_
    refine j_put hX hS.1 rfl wf_X11 tyX11_ok nmX11 0 (by decide) lk_X11_56 (fun _ h => h) rfl (tyX11_ok 0 (by decide)) rfl rfl (Nat.le_of_ble_eq_true rfl) dX11_size_14 ?_
    obtain ⟨g1, eg1⟩ : ∃ z : Wd, z = up g m (ob 10 [.int (nI 0), .ref (Q 0), .ref (Q 1), .ref (Q 2), .ref (Q 3), .ref (Q 4), .ref (Q 5), .ref (Q 6), .int (nI Od.length), .ref (Q 7), .ref (Q 8), .ref (Q 9), .ref (Q 10), .ref (Q 11), .ref (Q 12), .ref (Q 13), .int fi, .ref (Q 14)]) := ⟨_, rfl⟩
    refine j_w eg1.symm ?_
    have hS1 : RS (xK X) g1 m Q (nI 0) (nI Od.length) fi F := by rw [eg1]; exact hS.obj _ _ _
    refine j_lconst (v := 0) hX dX11_size_17 (by decide) ?_
    refine j_lstore_n (lv' := [(2, .long 0), (0, .ref m), (1, .int (nI ri))]) hX dX11_size_18 (by rw [hn]; decide) rfl ?_
    refine j_iconst (v := nI 0) hX dX11_size_19 (by decide) ?_
    refine j_istore (lv' := [(4, .int (nI 0)), (2, .long 0), (0, .ref m), (1, .int (nI ri))]) hX dX11_size_20 (by rw [hn]; decide) rfl ?_
    have loop : ∀ (p k : Nat), k + p = (aB A ri).length → J X 0 0 g1 22 [(4, .int (nI k)), (2, .long (sumL (fun k => nI (tmG (aB A ri) k)) k)), (0, .ref m), (1, .int (nI ri))] [] := by
      intro p
      induction p with
      | zero =>
        intro k hk
        refine j_aload_n hX dX11_size_22 2 rfl ?_
        refine j_get (v := .int (nI 0)) hX hS1.1 rfl wf_X11 0 (by decide) lk_X11_56 (fun _ h => h) rfl dX11_size_23 ?_
        refine j_if_ne hX 62 dX11_size_26 (by decide) (fun c_26 => absurd c_26 (fun q => q (by rfl))) (fun _ => ?_)
        refine j_iload hX dX11_size_29 0 rfl ?_
        refine j_aload_n hX dX11_size_31 2 rfl ?_
        refine j_get (v := .ref (Q 10)) hX hS1.1 rfl wf_X11 12 (by decide) lk_X11_41 (fun _ h => h) rfl dX11_size_32 ?_
        refine j_iload_n hX dX11_size_35 3 rfl ?_
        refine j_ialdN hX (show g1 (Q 10) = some (aI (xK X) 8 (F 10)) from hS1.2.1 10 (by decide)) (ri) (rfl) (hri) (by decide) dX11_size_36 ?_
        refine j_eqi (y := nI (aB A ri).length) (hob.1) ?_
        refine j_icmp_ge hX 62 dX11_size_37 (by decide) (fun _ => ?_) (fun c_37 => absurd (nI_le (a := (aB A ri).length) (b := k) (by omega) (by omega)) c_37)
        refine j_lload_n hX dX11_size_62 1 rfl ?_
        exact j_lret hX hE dX11_size_63 (⟨0, (sumL (fun k => nI (tmG (aB A ri) k)) k), rfl, ⟨Q, Od, fi, F, hS1, hA⟩, Or.inl ⟨rfl, ⟨ri, hri, rfl, hwr⟩, by rw [vnat_nI (by omega), show k = (aB A ri).length by omega]; rfl⟩⟩) (by decide) (by decide)
      | succ p ih =>
        intro k hk
        refine j_aload_n hX dX11_size_22 2 rfl ?_
        refine j_get (v := .int (nI 0)) hX hS1.1 rfl wf_X11 0 (by decide) lk_X11_56 (fun _ h => h) rfl dX11_size_23 ?_
        refine j_if_ne hX 62 dX11_size_26 (by decide) (fun c_26 => absurd c_26 (fun q => q (by rfl))) (fun _ => ?_)
        refine j_iload hX dX11_size_29 0 rfl ?_
        refine j_aload_n hX dX11_size_31 2 rfl ?_
        refine j_get (v := .ref (Q 10)) hX hS1.1 rfl wf_X11 12 (by decide) lk_X11_41 (fun _ h => h) rfl dX11_size_32 ?_
        refine j_iload_n hX dX11_size_35 3 rfl ?_
        refine j_ialdN hX (show g1 (Q 10) = some (aI (xK X) 8 (F 10)) from hS1.2.1 10 (by decide)) (ri) (rfl) (hri) (by decide) dX11_size_36 ?_
        refine j_eqi (y := nI (aB A ri).length) (hob.1) ?_
        refine j_icmp_ge hX 62 dX11_size_37 (by decide) (fun c_37 => absurd c_37 (nI_ge (a := k) (b := (aB A ri).length) (by omega) (by omega))) (fun _ => ?_)
        refine j_lload_n hX dX11_size_40 1 rfl ?_
        refine j_aload_n hX dX11_size_41 2 rfl ?_
        refine j_get (v := .ref (Q 9)) hX hS1.1 rfl wf_X11 11 (by decide) lk_X11_38 (fun _ h => h) rfl dX11_size_42 ?_
        refine j_bipush (v := nI 20) hX dX11_size_45 (by decide) ?_
        refine j_iload_n hX dX11_size_47 3 rfl ?_
        refine j_imul hX dX11_size_48 ?_
        refine j_iload hX dX11_size_49 0 rfl ?_
        refine j_iadd hX dX11_size_51 ?_
        refine j_eqi (y := nI (20 * ri + k)) (ix20 ri k) ?_
        refine j_ialdN hX (show g1 (Q 9) = some (aI (xK X) 512 (F 9)) from hS1.2.1 9 (by decide)) (20 * ri + k) (rfl) (by omega) (by decide) dX11_size_52 ?_
        refine j_eqi (y := nI (tmG (aB A ri) k)) (by rw [tmG_at (by omega)]; exact repA_time hob.2 (by omega)) ?_
        refine j_i2l hX dX11_size_53 ?_
        refine j_ladd hX dX11_size_54 ?_
        refine j_eql (y := sumL (fun k => nI (tmG (aB A ri) k)) (k + 1)) (rfl) ?_
        refine j_lstore_n (lv' := [(2, .long (sumL (fun k => nI (tmG (aB A ri) k)) (k + 1))), (4, .int (nI k)), (0, .ref m), (1, .int (nI ri))]) hX dX11_size_55 (by rw [hn]; decide) rfl ?_
        refine j_iinc (v := nI (k + 1)) (lv' := [(4, .int (nI (k + 1))), (2, .long (sumL (fun k => nI (tmG (aB A ri) k)) (k + 1))), (0, .ref m), (1, .int (nI ri))]) hX dX11_size_56 1 rfl (nI_1 k) (by rw [hn]; decide) rfl ?_
        refine j_goto hX 22 dX11_size_59 (by decide) ?_
        refine j_sub [0, 1, 2, 3] rfl ?_
        exact ih (k + 1) (by omega)
    refine j_sub (lv' := [(4, .int (nI 0)), (2, .long 0), (0, .ref m), (1, .int (nI ri))]) [0, 1, 2, 3] rfl ?_
    exact loop (aB A ri).length 0 (by omega)
  · show J X 0 0 g 0 [(0, .ref m), (1, .int r)] []
    refine j_aload_n hX dX11_size_0 0 rfl ?_
    refine j_aload_n hX dX11_size_1 0 rfl ?_
    refine j_iload_n hX dX11_size_2 1 rfl ?_
    refine j_callV (As := [.int r]) (rest := [.ref m]) hX (c_X11_is (xl X) (xK X) g m Q th (nI Od.length) fi F hS (r)) hS.1 rfl lk_X11_113 wI_X11_is wV_X11_X11_is wN_X11 wC_X11_is hd_X11_is rfl (by rw [hL]; decide) (by decide) rfl (Nat.le_of_ble_eq_true rfl) dX11_size_3 (by rw [hR]; decide) (by rw [hR]; decide) jx_no ?_
    rintro _ _ ⟨b9, rfl, hb9, rfl⟩
    obtain rfl : b9 = false := Bool.eq_false_iff.mpr (fun q => hP ((hA.is hI _).mp (hb9.mp q)))
    clear hb9
    show J X 0 0 g 6 [(0, .ref m), (1, .int r)] [.int (b01 false), .ref m]
    refine j_if_eq hX 13 dX11_size_6 (by decide) (fun _ => ?_) (fun c_6 => absurd (by decide) c_6)
    refine j_iconst (v := nI 1) hX dX11_size_13 (by decide) ?_
    refine j_put hX hS.1 rfl wf_X11 tyX11_ok nmX11 0 (by decide) lk_X11_56 (fun _ h => h) rfl (tyX11_ok 0 (by decide)) rfl rfl (Nat.le_of_ble_eq_true rfl) dX11_size_14 ?_
    obtain ⟨g1, eg1⟩ : ∃ z : Wd, z = up g m (ob 10 [.int (nI 1), .ref (Q 0), .ref (Q 1), .ref (Q 2), .ref (Q 3), .ref (Q 4), .ref (Q 5), .ref (Q 6), .int (nI Od.length), .ref (Q 7), .ref (Q 8), .ref (Q 9), .ref (Q 10), .ref (Q 11), .ref (Q 12), .ref (Q 13), .int fi, .ref (Q 14)]) := ⟨_, rfl⟩
    refine j_w eg1.symm ?_
    have hS1 : RS (xK X) g1 m Q (nI 1) (nI Od.length) fi F := by rw [eg1]; exact hS.obj _ _ _
    refine j_lconst (v := 0) hX dX11_size_17 (by decide) ?_
    refine j_lstore_n (lv' := [(2, .long 0), (0, .ref m), (1, .int r)]) hX dX11_size_18 (by rw [hn]; decide) rfl ?_
    refine j_iconst (v := nI 0) hX dX11_size_19 (by decide) ?_
    refine j_istore (lv' := [(4, .int (nI 0)), (2, .long 0), (0, .ref m), (1, .int r)]) hX dX11_size_20 (by rw [hn]; decide) rfl ?_
    refine j_aload_n hX dX11_size_22 2 rfl ?_
    refine j_get (v := .int (nI 1)) hX hS1.1 rfl wf_X11 0 (by decide) lk_X11_56 (fun _ h => h) rfl dX11_size_23 ?_
    refine j_if_ne hX 62 dX11_size_26 (by decide) (fun _ => ?_) (fun c_26 => absurd c_26 (by decide))
    refine j_lload_n hX dX11_size_62 1 rfl ?_
    exact j_lret hX hE dX11_size_63 (⟨1, _, rfl, ⟨Q, Od, fi, F, hS1, hA⟩, Or.inr ⟨rfl, hP⟩⟩) (by decide) (by decide)

set_option maxRecDepth 20000 in
set_option maxHeartbeats 1600000 in
/-- c_X11_times -/
theorem c_X11_times (l : Launch) (K : Cst) (g : Wd) (m : Nat) (Q : Nat → Nat) (th fi : Int32) (F : Nat → Nat → Int32) (Od : List Nat) (hS : RS K g m Q th (nI Od.length) fi F) (A : Ab) (hI : Inv A) (hA : RA A Od F) (r a b c d : Int32) : Ct l K yX11_times cX11_times 6 (some .int) 5 [.ref m, .int r, .int a, .int b, .int c, .int d] g (RdI K m A (isR A r) (nI (tms (aB A (vnat r)) (truncR (aw A (vnat r)) (a, b, c, d))))) (fun _ _ => False) 0 0 := by
  refine ct_of (by decide) (Nat.le_of_ble_eq_true rfl) ?_
  intro X hl hK hX hE hn hL hR hm
  subst hl; subst hK
  show J X 0 0 g 0 [(0, .ref m), (1, .int r), (2, .int a), (3, .int b), (4, .int c), (5, .int d)] []
  by_cases hP : isR A r
  · obtain ⟨ri, hri, rfl, hwr⟩ := hP
    have hw4 := (hI ri hri).1.1
    show J X 0 0 g 0 [(0, .ref m), (1, .int (nI ri)), (2, .int a), (3, .int b), (4, .int c), (5, .int d)] []
    refine j_aload_n hX dX11_times_0 0 rfl ?_
    refine j_aload_n hX dX11_times_1 0 rfl ?_
    refine j_iload_n hX dX11_times_2 1 rfl ?_
    refine j_callV (As := [.int (nI ri)]) (rest := [.ref m]) hX (c_X11_is (xl X) (xK X) g m Q th (nI Od.length) fi F hS (nI ri)) hS.1 rfl lk_X11_113 wI_X11_is wV_X11_X11_is wN_X11 wC_X11_is hd_X11_is rfl (by rw [hL]; decide) (by decide) rfl (Nat.le_of_ble_eq_true rfl) dX11_times_3 (by rw [hR]; decide) (by rw [hR]; decide) jx_no ?_
    rintro _ _ ⟨b9, rfl, hb9, rfl⟩
    obtain rfl : b9 = true := hb9.mpr ((hA.is hI _).mpr ⟨ri, hri, rfl, hwr⟩)
    clear hb9
    show J X 0 0 g 6 [(0, .ref m), (1, .int (nI ri)), (2, .int a), (3, .int b), (4, .int c), (5, .int d)] [.int (b01 true), .ref m]
    refine j_if_eq hX 13 dX11_times_6 (by decide) (fun c_6 => absurd c_6 (by decide)) (fun _ => ?_)
    refine j_iconst (v := nI 0) hX dX11_times_9 (by decide) ?_
    refine j_goto hX 14 dX11_times_10 (by decide) ?_
    refine j_put hX hS.1 rfl wf_X11 tyX11_ok nmX11 0 (by decide) lk_X11_56 (fun _ h => h) rfl (tyX11_ok 0 (by decide)) rfl rfl (Nat.le_of_ble_eq_true rfl) dX11_times_14 ?_
    obtain ⟨g1, eg1⟩ : ∃ z : Wd, z = up g m (ob 10 [.int (nI 0), .ref (Q 0), .ref (Q 1), .ref (Q 2), .ref (Q 3), .ref (Q 4), .ref (Q 5), .ref (Q 6), .int (nI Od.length), .ref (Q 7), .ref (Q 8), .ref (Q 9), .ref (Q 10), .ref (Q 11), .ref (Q 12), .ref (Q 13), .int fi, .ref (Q 14)]) := ⟨_, rfl⟩
    refine j_w eg1.symm ?_
    have hS1 : RS (xK X) g1 m Q (nI 0) (nI Od.length) fi F := by rw [eg1]; exact hS.obj _ _ _
    refine j_aload_n hX dX11_times_17 0 rfl ?_
    refine j_iload_n hX dX11_times_18 2 rfl ?_
    refine j_iload_n hX dX11_times_19 3 rfl ?_
    refine j_iload hX dX11_times_20 4 rfl ?_
    refine j_iload hX dX11_times_22 5 rfl ?_
    refine j_callV (As := [.int a, .int b, .int c, .int d]) (rest := []) hX (c_X11_setRow (xl X) (xK X) g1 m Q (nI 0) (nI Od.length) fi F hS1 a b c d) hS1.1 rfl lk_X11_147 wI_X11_setRow wV_X11_X11_setRow wN_X11 wC_X11_setRow hd_X11_setRow rfl (by rw [hL]; decide) (by decide) rfl (Nat.le_of_ble_eq_true rfl) dX11_times_24 (by rw [hR]; decide) (by rw [hR]; decide) jx_no ?_
    rintro _ g7 ⟨rfl, F7, hS7, k7, r7⟩
    show J X 0 0 g7 27 [(0, .ref m), (1, .int (nI ri)), (2, .int a), (3, .int b), (4, .int c), (5, .int d)] []
    refine j_aload_n hX dX11_times_27 0 rfl ?_
    refine j_get (v := .int (nI 0)) hX hS7.1 rfl wf_X11 0 (by decide) lk_X11_56 (fun _ h => h) rfl dX11_times_28 ?_
    refine j_if_le hX 38 dX11_times_31 (by decide) (fun _ => ?_) (fun c_31 => absurd (by decide) c_31)
    refine j_aload_n hX dX11_times_38 0 rfl ?_
    refine j_iload_n hX dX11_times_39 1 rfl ?_
    refine j_callV (As := [.int (nI ri)]) (rest := []) hX (c_X11_timesHere (xl X) (xK X) g7 m Q (nI 0) (nI Od.length) fi F7 hS7 ri (aw A ri) (aB A) hri ((hA.kp (fun j hj => k7 j (by omega))).2.2 ri hri).1.2 hwr hw4 (fun q hq => ((hA.kp (fun j hj => k7 j (by omega))).2.2 q hq).2.1) (((hI ri hri).2.2.1.1).wk (hI ri hri).2.2.1.2) (truncR (aw A ri) (a, b, c, d)) (by rw [r7])) hS7.1 rfl lk_X11_153 wI_X11_timesHere wV_X11_X11_timesHere wN_X11 wC_X11_timesHere hd_X11_timesHere rfl (by rw [hL]; decide) (by decide) rfl (Nat.le_of_ble_eq_true rfl) dX11_times_40 (by rw [hR]; decide) (by rw [hR]; decide) jx_no ?_
    rintro _ g8 ⟨rfl, F8, hS8, k8⟩
    show J X 0 0 g8 43 [(0, .ref m), (1, .int (nI ri)), (2, .int a), (3, .int b), (4, .int c), (5, .int d)] [.int (nI (tms (aB A ri) (truncR (aw A ri) (a, b, c, d))))]
    exact j_iret hX hE dX11_times_43 (⟨0, (nI (tms (aB A ri) (truncR (aw A ri) (a, b, c, d)))), rfl, ⟨Q, Od, fi, F8, hS8, (hA.kp (fun j hj => (k8 j (by omega)).trans (k7 j (by omega))))⟩, Or.inl ⟨rfl, ⟨ri, hri, rfl, hwr⟩, by rw [vnat_nI (by omega)]⟩⟩) (by decide) (by decide)
  · show J X 0 0 g 0 [(0, .ref m), (1, .int r), (2, .int a), (3, .int b), (4, .int c), (5, .int d)] []
    refine j_aload_n hX dX11_times_0 0 rfl ?_
    refine j_aload_n hX dX11_times_1 0 rfl ?_
    refine j_iload_n hX dX11_times_2 1 rfl ?_
    refine j_callV (As := [.int r]) (rest := [.ref m]) hX (c_X11_is (xl X) (xK X) g m Q th (nI Od.length) fi F hS (r)) hS.1 rfl lk_X11_113 wI_X11_is wV_X11_X11_is wN_X11 wC_X11_is hd_X11_is rfl (by rw [hL]; decide) (by decide) rfl (Nat.le_of_ble_eq_true rfl) dX11_times_3 (by rw [hR]; decide) (by rw [hR]; decide) jx_no ?_
    rintro _ _ ⟨b9, rfl, hb9, rfl⟩
    obtain rfl : b9 = false := Bool.eq_false_iff.mpr (fun q => hP ((hA.is hI _).mp (hb9.mp q)))
    clear hb9
    show J X 0 0 g 6 [(0, .ref m), (1, .int r), (2, .int a), (3, .int b), (4, .int c), (5, .int d)] [.int (b01 false), .ref m]
    refine j_if_eq hX 13 dX11_times_6 (by decide) (fun _ => ?_) (fun c_6 => absurd (by decide) c_6)
    refine j_iconst (v := nI 1) hX dX11_times_13 (by decide) ?_
    refine j_put hX hS.1 rfl wf_X11 tyX11_ok nmX11 0 (by decide) lk_X11_56 (fun _ h => h) rfl (tyX11_ok 0 (by decide)) rfl rfl (Nat.le_of_ble_eq_true rfl) dX11_times_14 ?_
    obtain ⟨g1, eg1⟩ : ∃ z : Wd, z = up g m (ob 10 [.int (nI 1), .ref (Q 0), .ref (Q 1), .ref (Q 2), .ref (Q 3), .ref (Q 4), .ref (Q 5), .ref (Q 6), .int (nI Od.length), .ref (Q 7), .ref (Q 8), .ref (Q 9), .ref (Q 10), .ref (Q 11), .ref (Q 12), .ref (Q 13), .int fi, .ref (Q 14)]) := ⟨_, rfl⟩
    refine j_w eg1.symm ?_
    have hS1 : RS (xK X) g1 m Q (nI 1) (nI Od.length) fi F := by rw [eg1]; exact hS.obj _ _ _
    refine j_aload_n hX dX11_times_17 0 rfl ?_
    refine j_iload_n hX dX11_times_18 2 rfl ?_
    refine j_iload_n hX dX11_times_19 3 rfl ?_
    refine j_iload hX dX11_times_20 4 rfl ?_
    refine j_iload hX dX11_times_22 5 rfl ?_
    refine j_callV (As := [.int a, .int b, .int c, .int d]) (rest := []) hX (c_X11_setRow (xl X) (xK X) g1 m Q (nI 1) (nI Od.length) fi F hS1 a b c d) hS1.1 rfl lk_X11_147 wI_X11_setRow wV_X11_X11_setRow wN_X11 wC_X11_setRow hd_X11_setRow rfl (by rw [hL]; decide) (by decide) rfl (Nat.le_of_ble_eq_true rfl) dX11_times_24 (by rw [hR]; decide) (by rw [hR]; decide) jx_no ?_
    rintro _ g7 ⟨rfl, F7, hS7, k7, r7⟩
    show J X 0 0 g7 27 [(0, .ref m), (1, .int r), (2, .int a), (3, .int b), (4, .int c), (5, .int d)] []
    refine j_aload_n hX dX11_times_27 0 rfl ?_
    refine j_get (v := .int (nI 1)) hX hS7.1 rfl wf_X11 0 (by decide) lk_X11_56 (fun _ h => h) rfl dX11_times_28 ?_
    refine j_if_le hX 38 dX11_times_31 (by decide) (fun c_31 => absurd c_31 (by decide)) (fun _ => ?_)
    refine j_iconst (v := nI 0) hX dX11_times_34 (by decide) ?_
    refine j_goto hX 43 dX11_times_35 (by decide) ?_
    exact j_iret hX hE dX11_times_43 (⟨1, _, rfl, ⟨Q, Od, fi, F7, hS7, hA.kp (fun j hj => k7 j (by omega))⟩, Or.inr ⟨rfl, hP⟩⟩) (by decide) (by decide)

set_option maxRecDepth 20000 in
set_option maxHeartbeats 1600000 in
/-- c_X11_cell -/
theorem c_X11_cell (l : Launch) (K : Cst) (g : Wd) (m : Nat) (Q : Nat → Nat) (th fi : Int32) (F : Nat → Nat → Int32) (Od : List Nat) (hS : RS K g m Q th (nI Od.length) fi F) (A : Ab) (hI : Inv A) (hA : RA A Od F) (r kk co : Int32) : Ct l K yX11_cell cX11_cell 4 (some .int) 5 [.ref m, .int r, .int kk, .int co] g (RdI K m A (isR A r ∧ (∃ k, k < (aB A (vnat r)).length ∧ kk = nI k) ∧ ∃ c, c ≤ aw A (vnat r) ∧ co = nI c) (if co = nI (aw A (vnat r)) then nI (tmG (aB A (vnat r)) (vnat kk)) else cellR (rowG (aB A (vnat r)) (vnat kk)) (vnat co))) (fun _ _ => False) 0 0 := by
  refine ct_of (by decide) (Nat.le_of_ble_eq_true rfl) ?_
  intro X hl hK hX hE hn hL hR hm
  subst hl; subst hK
  show J X 0 0 g 0 [(0, .ref m), (1, .int r), (2, .int kk), (3, .int co)] []
  by_cases hP : isR A r
  · obtain ⟨ri, hri, rfl, hwr⟩ := hP
    have hob := (hA.2.2 ri hri).2.1
    have hl20 := (hI ri hri).2.2.1.1.2.1
    have hw4 := (hI ri hri).1.1
    by_cases hk : ∃ k, k < (aB A ri).length ∧ kk = nI k
    · obtain ⟨ki, hki, rfl⟩ := hk
      by_cases hc : ∃ c, c ≤ aw A ri ∧ co = nI c
      · obtain ⟨ci, hci, rfl⟩ := hc
        by_cases he : ci = aw A ri
        · show J X 0 0 g 0 [(0, .ref m), (1, .int (nI ri)), (2, .int (nI ki)), (3, .int (nI ci))] []
          refine j_aload_n hX dX11_cell_0 0 rfl ?_
          refine j_aload_n hX dX11_cell_1 0 rfl ?_
          refine j_iload_n hX dX11_cell_2 1 rfl ?_
          refine j_callV (As := [.int (nI ri)]) (rest := [.ref m]) hX (c_X11_is (xl X) (xK X) g m Q th (nI Od.length) fi F hS (nI ri)) hS.1 rfl lk_X11_113 wI_X11_is wV_X11_X11_is wN_X11 wC_X11_is hd_X11_is rfl (by rw [hL]; decide) (by decide) rfl (Nat.le_of_ble_eq_true rfl) dX11_cell_3 (by rw [hR]; decide) (by rw [hR]; decide) jx_no ?_
          rintro _ _ ⟨b9, rfl, hb9, rfl⟩
          obtain rfl : b9 = true := hb9.mpr ((hA.is hI _).mpr ⟨ri, hri, rfl, hwr⟩)
          clear hb9
          show J X 0 0 g 6 [(0, .ref m), (1, .int (nI ri)), (2, .int (nI ki)), (3, .int (nI ci))] [.int (b01 true), .ref m]
          refine j_if_eq hX 41 dX11_cell_6 (by decide) (fun c_6 => absurd c_6 (by decide)) (fun _ => ?_)
          refine j_iload_n hX dX11_cell_9 2 rfl ?_
          refine j_if_lt hX 41 dX11_cell_10 (by decide) (fun c_10 => absurd c_10 (nI_pos (n := ki) (by omega))) (fun _ => ?_)
          refine j_iload_n hX dX11_cell_13 2 rfl ?_
          refine j_aload_n hX dX11_cell_14 0 rfl ?_
          refine j_get (v := .ref (Q 10)) hX hS.1 rfl wf_X11 12 (by decide) lk_X11_41 (fun _ h => h) rfl dX11_cell_15 ?_
          refine j_iload_n hX dX11_cell_18 1 rfl ?_
          refine j_ialdN hX (show g (Q 10) = some (aI (xK X) 8 (F 10)) from hS.2.1 10 (by decide)) (ri) (rfl) (hri) (by decide) dX11_cell_19 ?_
          refine j_eqi (y := nI (aB A ri).length) (hob.1) ?_
          refine j_icmp_ge hX 41 dX11_cell_20 (by decide) (fun c_20 => absurd c_20 (nI_ge (a := ki) (b := (aB A ri).length) hki (by omega))) (fun _ => ?_)
          refine j_iload_n hX dX11_cell_23 3 rfl ?_
          refine j_if_lt hX 41 dX11_cell_24 (by decide) (fun c_24 => absurd c_24 (nI_pos (n := ci) (by omega))) (fun _ => ?_)
          refine j_iload_n hX dX11_cell_27 3 rfl ?_
          refine j_aload_n hX dX11_cell_28 0 rfl ?_
          refine j_get (v := .ref (Q 1)) hX hS.1 rfl wf_X11 2 (by decide) lk_X11_13 (fun _ h => h) rfl dX11_cell_29 ?_
          refine j_iload_n hX dX11_cell_32 1 rfl ?_
          refine j_ialdN hX (show g (Q 1) = some (aI (xK X) 8 (F 1)) from hS.2.1 1 (by decide)) (ri) (rfl) (hri) (by decide) dX11_cell_33 ?_
          refine j_eqi (y := nI (aw A ri)) ((hA.2.2 ri hri).1.2) ?_
          refine j_icmp_gt hX 41 dX11_cell_34 (by decide) (fun c_34 => absurd c_34 (Int32.not_lt.mpr (nI_le (a := ci) (b := aw A ri) hci (by omega)))) (fun _ => ?_)
          refine j_iconst (v := nI 0) hX dX11_cell_37 (by decide) ?_
          refine j_goto hX 42 dX11_cell_38 (by decide) ?_
          refine j_put hX hS.1 rfl wf_X11 tyX11_ok nmX11 0 (by decide) lk_X11_56 (fun _ h => h) rfl (tyX11_ok 0 (by decide)) rfl rfl (Nat.le_of_ble_eq_true rfl) dX11_cell_42 ?_
          obtain ⟨g1, eg1⟩ : ∃ z : Wd, z = up g m (ob 10 [.int (nI 0), .ref (Q 0), .ref (Q 1), .ref (Q 2), .ref (Q 3), .ref (Q 4), .ref (Q 5), .ref (Q 6), .int (nI Od.length), .ref (Q 7), .ref (Q 8), .ref (Q 9), .ref (Q 10), .ref (Q 11), .ref (Q 12), .ref (Q 13), .int fi, .ref (Q 14)]) := ⟨_, rfl⟩
          refine j_w eg1.symm ?_
          have hS1 : RS (xK X) g1 m Q (nI 0) (nI Od.length) fi F := by rw [eg1]; exact hS.obj _ _ _
          refine j_aload_n hX dX11_cell_45 0 rfl ?_
          refine j_get (v := .int (nI 0)) hX hS1.1 rfl wf_X11 0 (by decide) lk_X11_56 (fun _ h => h) rfl dX11_cell_46 ?_
          refine j_if_le hX 54 dX11_cell_49 (by decide) (fun _ => ?_) (fun c_49 => absurd (by decide) c_49)
          refine j_iload_n hX dX11_cell_54 3 rfl ?_
          refine j_aload_n hX dX11_cell_55 0 rfl ?_
          refine j_get (v := .ref (Q 1)) hX hS1.1 rfl wf_X11 2 (by decide) lk_X11_13 (fun _ h => h) rfl dX11_cell_56 ?_
          refine j_iload_n hX dX11_cell_59 1 rfl ?_
          refine j_ialdN hX (show g1 (Q 1) = some (aI (xK X) 8 (F 1)) from hS1.2.1 1 (by decide)) (ri) (rfl) (hri) (by decide) dX11_cell_60 ?_
          refine j_eqi (y := nI (aw A ri)) ((hA.2.2 ri hri).1.2) ?_
          refine j_icmp_ne hX 78 dX11_cell_61 (by decide) (fun c_61 => absurd c_61 (fun q => q (congrArg nI he))) (fun _ => ?_)
          refine j_aload_n hX dX11_cell_64 0 rfl ?_
          refine j_get (v := .ref (Q 9)) hX hS1.1 rfl wf_X11 11 (by decide) lk_X11_38 (fun _ h => h) rfl dX11_cell_65 ?_
          refine j_bipush (v := nI 20) hX dX11_cell_68 (by decide) ?_
          refine j_iload_n hX dX11_cell_70 1 rfl ?_
          refine j_imul hX dX11_cell_71 ?_
          refine j_iload_n hX dX11_cell_72 2 rfl ?_
          refine j_iadd hX dX11_cell_73 ?_
          refine j_eqi (y := nI (20 * ri + ki)) (ix20 ri ki) ?_
          refine j_ialdN hX (show g1 (Q 9) = some (aI (xK X) 512 (F 9)) from hS1.2.1 9 (by decide)) (20 * ri + ki) (rfl) (by omega) (by decide) dX11_cell_74 ?_
          refine j_goto hX 93 dX11_cell_75 (by decide) ?_
          exact j_iret hX hE dX11_cell_93 (⟨0, (F 9 (20 * ri + ki)), rfl, ⟨Q, Od, fi, F, hS1, hA⟩, Or.inl ⟨rfl, ⟨⟨ri, hri, rfl, hwr⟩, ⟨ki, by rw [vnat_nI (by omega)]; exact hki, rfl⟩, ci, by rw [vnat_nI (by omega)]; exact hci, rfl⟩, by rw [vnat_nI (by omega), vnat_nI (by omega), if_pos (congrArg nI he), tmG_at hki]; exact repA_time hob.2 hki⟩⟩) (by decide) (by decide)
        · show J X 0 0 g 0 [(0, .ref m), (1, .int (nI ri)), (2, .int (nI ki)), (3, .int (nI ci))] []
          refine j_aload_n hX dX11_cell_0 0 rfl ?_
          refine j_aload_n hX dX11_cell_1 0 rfl ?_
          refine j_iload_n hX dX11_cell_2 1 rfl ?_
          refine j_callV (As := [.int (nI ri)]) (rest := [.ref m]) hX (c_X11_is (xl X) (xK X) g m Q th (nI Od.length) fi F hS (nI ri)) hS.1 rfl lk_X11_113 wI_X11_is wV_X11_X11_is wN_X11 wC_X11_is hd_X11_is rfl (by rw [hL]; decide) (by decide) rfl (Nat.le_of_ble_eq_true rfl) dX11_cell_3 (by rw [hR]; decide) (by rw [hR]; decide) jx_no ?_
          rintro _ _ ⟨b9, rfl, hb9, rfl⟩
          obtain rfl : b9 = true := hb9.mpr ((hA.is hI _).mpr ⟨ri, hri, rfl, hwr⟩)
          clear hb9
          show J X 0 0 g 6 [(0, .ref m), (1, .int (nI ri)), (2, .int (nI ki)), (3, .int (nI ci))] [.int (b01 true), .ref m]
          refine j_if_eq hX 41 dX11_cell_6 (by decide) (fun c_6 => absurd c_6 (by decide)) (fun _ => ?_)
          refine j_iload_n hX dX11_cell_9 2 rfl ?_
          refine j_if_lt hX 41 dX11_cell_10 (by decide) (fun c_10 => absurd c_10 (nI_pos (n := ki) (by omega))) (fun _ => ?_)
          refine j_iload_n hX dX11_cell_13 2 rfl ?_
          refine j_aload_n hX dX11_cell_14 0 rfl ?_
          refine j_get (v := .ref (Q 10)) hX hS.1 rfl wf_X11 12 (by decide) lk_X11_41 (fun _ h => h) rfl dX11_cell_15 ?_
          refine j_iload_n hX dX11_cell_18 1 rfl ?_
          refine j_ialdN hX (show g (Q 10) = some (aI (xK X) 8 (F 10)) from hS.2.1 10 (by decide)) (ri) (rfl) (hri) (by decide) dX11_cell_19 ?_
          refine j_eqi (y := nI (aB A ri).length) (hob.1) ?_
          refine j_icmp_ge hX 41 dX11_cell_20 (by decide) (fun c_20 => absurd c_20 (nI_ge (a := ki) (b := (aB A ri).length) hki (by omega))) (fun _ => ?_)
          refine j_iload_n hX dX11_cell_23 3 rfl ?_
          refine j_if_lt hX 41 dX11_cell_24 (by decide) (fun c_24 => absurd c_24 (nI_pos (n := ci) (by omega))) (fun _ => ?_)
          refine j_iload_n hX dX11_cell_27 3 rfl ?_
          refine j_aload_n hX dX11_cell_28 0 rfl ?_
          refine j_get (v := .ref (Q 1)) hX hS.1 rfl wf_X11 2 (by decide) lk_X11_13 (fun _ h => h) rfl dX11_cell_29 ?_
          refine j_iload_n hX dX11_cell_32 1 rfl ?_
          refine j_ialdN hX (show g (Q 1) = some (aI (xK X) 8 (F 1)) from hS.2.1 1 (by decide)) (ri) (rfl) (hri) (by decide) dX11_cell_33 ?_
          refine j_eqi (y := nI (aw A ri)) ((hA.2.2 ri hri).1.2) ?_
          refine j_icmp_gt hX 41 dX11_cell_34 (by decide) (fun c_34 => absurd c_34 (Int32.not_lt.mpr (nI_le (a := ci) (b := aw A ri) hci (by omega)))) (fun _ => ?_)
          refine j_iconst (v := nI 0) hX dX11_cell_37 (by decide) ?_
          refine j_goto hX 42 dX11_cell_38 (by decide) ?_
          refine j_put hX hS.1 rfl wf_X11 tyX11_ok nmX11 0 (by decide) lk_X11_56 (fun _ h => h) rfl (tyX11_ok 0 (by decide)) rfl rfl (Nat.le_of_ble_eq_true rfl) dX11_cell_42 ?_
          obtain ⟨g1, eg1⟩ : ∃ z : Wd, z = up g m (ob 10 [.int (nI 0), .ref (Q 0), .ref (Q 1), .ref (Q 2), .ref (Q 3), .ref (Q 4), .ref (Q 5), .ref (Q 6), .int (nI Od.length), .ref (Q 7), .ref (Q 8), .ref (Q 9), .ref (Q 10), .ref (Q 11), .ref (Q 12), .ref (Q 13), .int fi, .ref (Q 14)]) := ⟨_, rfl⟩
          refine j_w eg1.symm ?_
          have hS1 : RS (xK X) g1 m Q (nI 0) (nI Od.length) fi F := by rw [eg1]; exact hS.obj _ _ _
          refine j_aload_n hX dX11_cell_45 0 rfl ?_
          refine j_get (v := .int (nI 0)) hX hS1.1 rfl wf_X11 0 (by decide) lk_X11_56 (fun _ h => h) rfl dX11_cell_46 ?_
          refine j_if_le hX 54 dX11_cell_49 (by decide) (fun _ => ?_) (fun c_49 => absurd (by decide) c_49)
          refine j_iload_n hX dX11_cell_54 3 rfl ?_
          refine j_aload_n hX dX11_cell_55 0 rfl ?_
          refine j_get (v := .ref (Q 1)) hX hS1.1 rfl wf_X11 2 (by decide) lk_X11_13 (fun _ h => h) rfl dX11_cell_56 ?_
          refine j_iload_n hX dX11_cell_59 1 rfl ?_
          refine j_ialdN hX (show g1 (Q 1) = some (aI (xK X) 8 (F 1)) from hS1.2.1 1 (by decide)) (ri) (rfl) (hri) (by decide) dX11_cell_60 ?_
          refine j_eqi (y := nI (aw A ri)) ((hA.2.2 ri hri).1.2) ?_
          refine j_icmp_ne hX 78 dX11_cell_61 (by decide) (fun _ => ?_) (fun c_61 => absurd c_61 (nI_ne (a := ci) (b := aw A ri) (by omega) (by omega) he))
          refine j_aload_n hX dX11_cell_78 0 rfl ?_
          refine j_get (v := .ref (Q 8)) hX hS1.1 rfl wf_X11 10 (by decide) lk_X11_35 (fun _ h => h) rfl dX11_cell_79 ?_
          refine j_iconst (v := nI 4) hX dX11_cell_82 (by decide) ?_
          refine j_bipush (v := nI 20) hX dX11_cell_83 (by decide) ?_
          refine j_iload_n hX dX11_cell_85 1 rfl ?_
          refine j_imul hX dX11_cell_86 ?_
          refine j_iload_n hX dX11_cell_87 2 rfl ?_
          refine j_iadd hX dX11_cell_88 ?_
          refine j_eqi (y := nI (20 * ri + ki)) (ix20 ri ki) ?_
          refine j_imul hX dX11_cell_89 ?_
          refine j_iload_n hX dX11_cell_90 3 rfl ?_
          refine j_iadd hX dX11_cell_91 ?_
          refine j_eqi (y := nI (80 * ri + 4 * ki + ci)) (ix80 ri ki ci) ?_
          refine j_ialdN hX (show g1 (Q 8) = some (aI (xK X) 2048 (F 8)) from hS1.2.1 8 (by decide)) (80 * ri + 4 * ki + ci) (rfl) (by omega) (by decide) dX11_cell_92 ?_
          exact j_iret hX hE dX11_cell_93 (⟨0, (F 8 (80 * ri + 4 * ki + ci)), rfl, ⟨Q, Od, fi, F, hS1, hA⟩, Or.inl ⟨rfl, ⟨⟨ri, hri, rfl, hwr⟩, ⟨ki, by rw [vnat_nI (by omega)]; exact hki, rfl⟩, ci, by rw [vnat_nI (by omega)]; exact hci, rfl⟩, by rw [vnat_nI (show ri < 2 ^ 31 by omega), vnat_nI (show ki < 2 ^ 31 by omega), vnat_nI (show ci < 2 ^ 31 by omega), if_neg (nI_ne (by omega) (by omega) he), rowG_at hki]; exact repA_cell hob.2 hki (by omega)⟩⟩) (by decide) (by decide)
      · have hc9 : ¬ (¬ co < 0 ∧ co ≤ nI (aw A ri)) := fun q => hc (by obtain ⟨w, _, q2, q3⟩ := i32_rng (a := 0) (b := aw A ri) (by decide) (by omega) (Int32.not_lt.mp q.1) q.2; exact ⟨w, q2, q3⟩)
        show J X 0 0 g 0 [(0, .ref m), (1, .int (nI ri)), (2, .int (nI ki)), (3, .int co)] []
        refine j_aload_n hX dX11_cell_0 0 rfl ?_
        refine j_aload_n hX dX11_cell_1 0 rfl ?_
        refine j_iload_n hX dX11_cell_2 1 rfl ?_
        refine j_callV (As := [.int (nI ri)]) (rest := [.ref m]) hX (c_X11_is (xl X) (xK X) g m Q th (nI Od.length) fi F hS (nI ri)) hS.1 rfl lk_X11_113 wI_X11_is wV_X11_X11_is wN_X11 wC_X11_is hd_X11_is rfl (by rw [hL]; decide) (by decide) rfl (Nat.le_of_ble_eq_true rfl) dX11_cell_3 (by rw [hR]; decide) (by rw [hR]; decide) jx_no ?_
        rintro _ _ ⟨b9, rfl, hb9, rfl⟩
        obtain rfl : b9 = true := hb9.mpr ((hA.is hI _).mpr ⟨ri, hri, rfl, hwr⟩)
        clear hb9
        show J X 0 0 g 6 [(0, .ref m), (1, .int (nI ri)), (2, .int (nI ki)), (3, .int co)] [.int (b01 true), .ref m]
        refine j_if_eq hX 41 dX11_cell_6 (by decide) (fun c_6 => absurd c_6 (by decide)) (fun _ => ?_)
        refine j_iload_n hX dX11_cell_9 2 rfl ?_
        refine j_if_lt hX 41 dX11_cell_10 (by decide) (fun c_10 => absurd c_10 (nI_pos (n := ki) (by omega))) (fun _ => ?_)
        refine j_iload_n hX dX11_cell_13 2 rfl ?_
        refine j_aload_n hX dX11_cell_14 0 rfl ?_
        refine j_get (v := .ref (Q 10)) hX hS.1 rfl wf_X11 12 (by decide) lk_X11_41 (fun _ h => h) rfl dX11_cell_15 ?_
        refine j_iload_n hX dX11_cell_18 1 rfl ?_
        refine j_ialdN hX (show g (Q 10) = some (aI (xK X) 8 (F 10)) from hS.2.1 10 (by decide)) (ri) (rfl) (hri) (by decide) dX11_cell_19 ?_
        refine j_eqi (y := nI (aB A ri).length) (hob.1) ?_
        refine j_icmp_ge hX 41 dX11_cell_20 (by decide) (fun c_20 => absurd c_20 (nI_ge (a := ki) (b := (aB A ri).length) hki (by omega))) (fun _ => ?_)
        refine j_iload_n hX dX11_cell_23 3 rfl ?_
        refine j_if_lt hX 41 dX11_cell_24 (by decide) (fun c_24 => ?_) (fun c_24 => ?_)
        · refine j_iconst (v := nI 1) hX dX11_cell_41 (by decide) ?_
          refine j_put hX hS.1 rfl wf_X11 tyX11_ok nmX11 0 (by decide) lk_X11_56 (fun _ h => h) rfl (tyX11_ok 0 (by decide)) rfl rfl (Nat.le_of_ble_eq_true rfl) dX11_cell_42 ?_
          obtain ⟨g1, eg1⟩ : ∃ z : Wd, z = up g m (ob 10 [.int (nI 1), .ref (Q 0), .ref (Q 1), .ref (Q 2), .ref (Q 3), .ref (Q 4), .ref (Q 5), .ref (Q 6), .int (nI Od.length), .ref (Q 7), .ref (Q 8), .ref (Q 9), .ref (Q 10), .ref (Q 11), .ref (Q 12), .ref (Q 13), .int fi, .ref (Q 14)]) := ⟨_, rfl⟩
          refine j_w eg1.symm ?_
          have hS1 : RS (xK X) g1 m Q (nI 1) (nI Od.length) fi F := by rw [eg1]; exact hS.obj _ _ _
          refine j_aload_n hX dX11_cell_45 0 rfl ?_
          refine j_get (v := .int (nI 1)) hX hS1.1 rfl wf_X11 0 (by decide) lk_X11_56 (fun _ h => h) rfl dX11_cell_46 ?_
          refine j_if_le hX 54 dX11_cell_49 (by decide) (fun c_49 => absurd c_49 (by decide)) (fun _ => ?_)
          refine j_iconst (v := nI 0) hX dX11_cell_52 (by decide) ?_
          exact j_iret hX hE dX11_cell_53 (⟨1, _, rfl, ⟨Q, Od, fi, F, hS1, hA⟩, Or.inr ⟨rfl, fun q => hc (by have := q.2.2; rw [vnat_nI (by omega)] at this; exact this)⟩⟩) (by decide) (by decide)
        · refine j_iload_n hX dX11_cell_27 3 rfl ?_
          refine j_aload_n hX dX11_cell_28 0 rfl ?_
          refine j_get (v := .ref (Q 1)) hX hS.1 rfl wf_X11 2 (by decide) lk_X11_13 (fun _ h => h) rfl dX11_cell_29 ?_
          refine j_iload_n hX dX11_cell_32 1 rfl ?_
          refine j_ialdN hX (show g (Q 1) = some (aI (xK X) 8 (F 1)) from hS.2.1 1 (by decide)) (ri) (rfl) (hri) (by decide) dX11_cell_33 ?_
          refine j_eqi (y := nI (aw A ri)) ((hA.2.2 ri hri).1.2) ?_
          refine j_icmp_gt hX 41 dX11_cell_34 (by decide) (fun _ => ?_) (fun c_34 => absurd (Int32.not_le.mp (fun q => hc9 ⟨c_24, q⟩)) c_34)
          refine j_iconst (v := nI 1) hX dX11_cell_41 (by decide) ?_
          refine j_put hX hS.1 rfl wf_X11 tyX11_ok nmX11 0 (by decide) lk_X11_56 (fun _ h => h) rfl (tyX11_ok 0 (by decide)) rfl rfl (Nat.le_of_ble_eq_true rfl) dX11_cell_42 ?_
          obtain ⟨g2, eg2⟩ : ∃ z : Wd, z = up g m (ob 10 [.int (nI 1), .ref (Q 0), .ref (Q 1), .ref (Q 2), .ref (Q 3), .ref (Q 4), .ref (Q 5), .ref (Q 6), .int (nI Od.length), .ref (Q 7), .ref (Q 8), .ref (Q 9), .ref (Q 10), .ref (Q 11), .ref (Q 12), .ref (Q 13), .int fi, .ref (Q 14)]) := ⟨_, rfl⟩
          refine j_w eg2.symm ?_
          have hS2 : RS (xK X) g2 m Q (nI 1) (nI Od.length) fi F := by rw [eg2]; exact hS.obj _ _ _
          refine j_aload_n hX dX11_cell_45 0 rfl ?_
          refine j_get (v := .int (nI 1)) hX hS2.1 rfl wf_X11 0 (by decide) lk_X11_56 (fun _ h => h) rfl dX11_cell_46 ?_
          refine j_if_le hX 54 dX11_cell_49 (by decide) (fun c_49 => absurd c_49 (by decide)) (fun _ => ?_)
          refine j_iconst (v := nI 0) hX dX11_cell_52 (by decide) ?_
          exact j_iret hX hE dX11_cell_53 (⟨1, _, rfl, ⟨Q, Od, fi, F, hS2, hA⟩, Or.inr ⟨rfl, fun q => hc (by have := q.2.2; rw [vnat_nI (by omega)] at this; exact this)⟩⟩) (by decide) (by decide)
    · have hk9 : ¬ (¬ kk < 0 ∧ kk < nI (aB A ri).length) := fun q => hk (by
        have q1 := Int32.lt_iff_toInt_lt.mp q.2
        have q2 := Int32.le_iff_toInt_le.mp (Int32.not_lt.mp q.1)
        rw [nI_toInt (by omega)] at q1
        rw [show (0 : Int32).toInt = 0 from rfl] at q2
        exact ⟨kk.toInt.toNat, by omega, Int32.toInt_inj.mp (by rw [nI_toInt (by omega)]; omega)⟩)
      show J X 0 0 g 0 [(0, .ref m), (1, .int (nI ri)), (2, .int kk), (3, .int co)] []
      refine j_aload_n hX dX11_cell_0 0 rfl ?_
      refine j_aload_n hX dX11_cell_1 0 rfl ?_
      refine j_iload_n hX dX11_cell_2 1 rfl ?_
      refine j_callV (As := [.int (nI ri)]) (rest := [.ref m]) hX (c_X11_is (xl X) (xK X) g m Q th (nI Od.length) fi F hS (nI ri)) hS.1 rfl lk_X11_113 wI_X11_is wV_X11_X11_is wN_X11 wC_X11_is hd_X11_is rfl (by rw [hL]; decide) (by decide) rfl (Nat.le_of_ble_eq_true rfl) dX11_cell_3 (by rw [hR]; decide) (by rw [hR]; decide) jx_no ?_
      rintro _ _ ⟨b9, rfl, hb9, rfl⟩
      obtain rfl : b9 = true := hb9.mpr ((hA.is hI _).mpr ⟨ri, hri, rfl, hwr⟩)
      clear hb9
      show J X 0 0 g 6 [(0, .ref m), (1, .int (nI ri)), (2, .int kk), (3, .int co)] [.int (b01 true), .ref m]
      refine j_if_eq hX 41 dX11_cell_6 (by decide) (fun c_6 => absurd c_6 (by decide)) (fun _ => ?_)
      refine j_iload_n hX dX11_cell_9 2 rfl ?_
      refine j_if_lt hX 41 dX11_cell_10 (by decide) (fun c_10 => ?_) (fun c_10 => ?_)
      · refine j_iconst (v := nI 1) hX dX11_cell_41 (by decide) ?_
        refine j_put hX hS.1 rfl wf_X11 tyX11_ok nmX11 0 (by decide) lk_X11_56 (fun _ h => h) rfl (tyX11_ok 0 (by decide)) rfl rfl (Nat.le_of_ble_eq_true rfl) dX11_cell_42 ?_
        obtain ⟨g1, eg1⟩ : ∃ z : Wd, z = up g m (ob 10 [.int (nI 1), .ref (Q 0), .ref (Q 1), .ref (Q 2), .ref (Q 3), .ref (Q 4), .ref (Q 5), .ref (Q 6), .int (nI Od.length), .ref (Q 7), .ref (Q 8), .ref (Q 9), .ref (Q 10), .ref (Q 11), .ref (Q 12), .ref (Q 13), .int fi, .ref (Q 14)]) := ⟨_, rfl⟩
        refine j_w eg1.symm ?_
        have hS1 : RS (xK X) g1 m Q (nI 1) (nI Od.length) fi F := by rw [eg1]; exact hS.obj _ _ _
        refine j_aload_n hX dX11_cell_45 0 rfl ?_
        refine j_get (v := .int (nI 1)) hX hS1.1 rfl wf_X11 0 (by decide) lk_X11_56 (fun _ h => h) rfl dX11_cell_46 ?_
        refine j_if_le hX 54 dX11_cell_49 (by decide) (fun c_49 => absurd c_49 (by decide)) (fun _ => ?_)
        refine j_iconst (v := nI 0) hX dX11_cell_52 (by decide) ?_
        exact j_iret hX hE dX11_cell_53 (⟨1, _, rfl, ⟨Q, Od, fi, F, hS1, hA⟩, Or.inr ⟨rfl, fun q => hk (by have := q.2.1; rw [vnat_nI (by omega)] at this; exact this)⟩⟩) (by decide) (by decide)
      · refine j_iload_n hX dX11_cell_13 2 rfl ?_
        refine j_aload_n hX dX11_cell_14 0 rfl ?_
        refine j_get (v := .ref (Q 10)) hX hS.1 rfl wf_X11 12 (by decide) lk_X11_41 (fun _ h => h) rfl dX11_cell_15 ?_
        refine j_iload_n hX dX11_cell_18 1 rfl ?_
        refine j_ialdN hX (show g (Q 10) = some (aI (xK X) 8 (F 10)) from hS.2.1 10 (by decide)) (ri) (rfl) (hri) (by decide) dX11_cell_19 ?_
        refine j_eqi (y := nI (aB A ri).length) (hob.1) ?_
        refine j_icmp_ge hX 41 dX11_cell_20 (by decide) (fun _ => ?_) (fun c_20 => absurd (Int32.not_lt.mp (fun q => hk9 ⟨c_10, q⟩)) c_20)
        refine j_iconst (v := nI 1) hX dX11_cell_41 (by decide) ?_
        refine j_put hX hS.1 rfl wf_X11 tyX11_ok nmX11 0 (by decide) lk_X11_56 (fun _ h => h) rfl (tyX11_ok 0 (by decide)) rfl rfl (Nat.le_of_ble_eq_true rfl) dX11_cell_42 ?_
        obtain ⟨g2, eg2⟩ : ∃ z : Wd, z = up g m (ob 10 [.int (nI 1), .ref (Q 0), .ref (Q 1), .ref (Q 2), .ref (Q 3), .ref (Q 4), .ref (Q 5), .ref (Q 6), .int (nI Od.length), .ref (Q 7), .ref (Q 8), .ref (Q 9), .ref (Q 10), .ref (Q 11), .ref (Q 12), .ref (Q 13), .int fi, .ref (Q 14)]) := ⟨_, rfl⟩
        refine j_w eg2.symm ?_
        have hS2 : RS (xK X) g2 m Q (nI 1) (nI Od.length) fi F := by rw [eg2]; exact hS.obj _ _ _
        refine j_aload_n hX dX11_cell_45 0 rfl ?_
        refine j_get (v := .int (nI 1)) hX hS2.1 rfl wf_X11 0 (by decide) lk_X11_56 (fun _ h => h) rfl dX11_cell_46 ?_
        refine j_if_le hX 54 dX11_cell_49 (by decide) (fun c_49 => absurd c_49 (by decide)) (fun _ => ?_)
        refine j_iconst (v := nI 0) hX dX11_cell_52 (by decide) ?_
        exact j_iret hX hE dX11_cell_53 (⟨1, _, rfl, ⟨Q, Od, fi, F, hS2, hA⟩, Or.inr ⟨rfl, fun q => hk (by have := q.2.1; rw [vnat_nI (by omega)] at this; exact this)⟩⟩) (by decide) (by decide)
  · show J X 0 0 g 0 [(0, .ref m), (1, .int r), (2, .int kk), (3, .int co)] []
    refine j_aload_n hX dX11_cell_0 0 rfl ?_
    refine j_aload_n hX dX11_cell_1 0 rfl ?_
    refine j_iload_n hX dX11_cell_2 1 rfl ?_
    refine j_callV (As := [.int r]) (rest := [.ref m]) hX (c_X11_is (xl X) (xK X) g m Q th (nI Od.length) fi F hS (r)) hS.1 rfl lk_X11_113 wI_X11_is wV_X11_X11_is wN_X11 wC_X11_is hd_X11_is rfl (by rw [hL]; decide) (by decide) rfl (Nat.le_of_ble_eq_true rfl) dX11_cell_3 (by rw [hR]; decide) (by rw [hR]; decide) jx_no ?_
    rintro _ _ ⟨b9, rfl, hb9, rfl⟩
    obtain rfl : b9 = false := Bool.eq_false_iff.mpr (fun q => hP ((hA.is hI _).mp (hb9.mp q)))
    clear hb9
    show J X 0 0 g 6 [(0, .ref m), (1, .int r), (2, .int kk), (3, .int co)] [.int (b01 false), .ref m]
    refine j_if_eq hX 41 dX11_cell_6 (by decide) (fun _ => ?_) (fun c_6 => absurd (by decide) c_6)
    refine j_iconst (v := nI 1) hX dX11_cell_41 (by decide) ?_
    refine j_put hX hS.1 rfl wf_X11 tyX11_ok nmX11 0 (by decide) lk_X11_56 (fun _ h => h) rfl (tyX11_ok 0 (by decide)) rfl rfl (Nat.le_of_ble_eq_true rfl) dX11_cell_42 ?_
    obtain ⟨g1, eg1⟩ : ∃ z : Wd, z = up g m (ob 10 [.int (nI 1), .ref (Q 0), .ref (Q 1), .ref (Q 2), .ref (Q 3), .ref (Q 4), .ref (Q 5), .ref (Q 6), .int (nI Od.length), .ref (Q 7), .ref (Q 8), .ref (Q 9), .ref (Q 10), .ref (Q 11), .ref (Q 12), .ref (Q 13), .int fi, .ref (Q 14)]) := ⟨_, rfl⟩
    refine j_w eg1.symm ?_
    have hS1 : RS (xK X) g1 m Q (nI 1) (nI Od.length) fi F := by rw [eg1]; exact hS.obj _ _ _
    refine j_aload_n hX dX11_cell_45 0 rfl ?_
    refine j_get (v := .int (nI 1)) hX hS1.1 rfl wf_X11 0 (by decide) lk_X11_56 (fun _ h => h) rfl dX11_cell_46 ?_
    refine j_if_le hX 54 dX11_cell_49 (by decide) (fun c_49 => absurd c_49 (by decide)) (fun _ => ?_)
    refine j_iconst (v := nI 0) hX dX11_cell_52 (by decide) ?_
    exact j_iret hX hE dX11_cell_53 (⟨1, _, rfl, ⟨Q, Od, fi, F, hS1, hA⟩, Or.inr ⟨rfl, fun q => hP q.1⟩⟩) (by decide) (by decide)

set_option maxRecDepth 20000 in
set_option maxHeartbeats 1600000 in
/-- c_X11_count -/
theorem c_X11_count (l : Launch) (K : Cst) (g : Wd) (m : Nat) (Q : Nat → Nat) (th fi : Int32) (F : Nat → Nat → Int32) (Od : List Nat) (hS : RS K g m Q th (nI Od.length) fi F) (A : Ab) (hI : Inv A) (hA : RA A Od F) (wh : Int32) : Ct l K yX11_count cX11_count 6 (some .int) 5 [.ref m, .int wh] g (RdI K m A (∃ q, q < 3 ∧ wh = nI q) (nI (cntN A (vnat wh) 8))) (fun _ _ => False) 0 0 := by
  refine ct_of (by decide) (Nat.le_of_ble_eq_true rfl) ?_
  intro X hl hK hX hE hn hL hR hm
  subst hl; subst hK
  show J X 0 0 g 0 [(0, .ref m), (1, .int wh)] []
  by_cases hP : ∃ q, q < 3 ∧ wh = nI q
  · obtain ⟨q, hq, rfl⟩ := hP
    show J X 0 0 g 0 [(0, .ref m), (1, .int (nI q))] []
    refine j_aload_n hX dX11_count_0 0 rfl ?_
    refine j_iload_n hX dX11_count_1 1 rfl ?_
    refine j_if_lt hX 14 dX11_count_2 (by decide) (fun c_2 => absurd c_2 (nI_pos (n := q) (by omega))) (fun _ => ?_)
    refine j_iload_n hX dX11_count_5 1 rfl ?_
    refine j_iconst (v := nI 2) hX dX11_count_6 (by decide) ?_
    refine j_icmp_gt hX 14 dX11_count_7 (by decide) (fun c_7 => absurd c_7 (Int32.not_lt.mpr (nI_le (a := q) (b := 2) (by omega) (by decide)))) (fun _ => ?_)
    refine j_iconst (v := nI 0) hX dX11_count_10 (by decide) ?_
    refine j_goto hX 15 dX11_count_11 (by decide) ?_
    refine j_put hX hS.1 rfl wf_X11 tyX11_ok nmX11 0 (by decide) lk_X11_56 (fun _ h => h) rfl (tyX11_ok 0 (by decide)) rfl rfl (Nat.le_of_ble_eq_true rfl) dX11_count_15 ?_
    obtain ⟨g1, eg1⟩ : ∃ z : Wd, z = up g m (ob 10 [.int (nI 0), .ref (Q 0), .ref (Q 1), .ref (Q 2), .ref (Q 3), .ref (Q 4), .ref (Q 5), .ref (Q 6), .int (nI Od.length), .ref (Q 7), .ref (Q 8), .ref (Q 9), .ref (Q 10), .ref (Q 11), .ref (Q 12), .ref (Q 13), .int fi, .ref (Q 14)]) := ⟨_, rfl⟩
    refine j_w eg1.symm ?_
    have hS1 : RS (xK X) g1 m Q (nI 0) (nI Od.length) fi F := by rw [eg1]; exact hS.obj _ _ _
    refine j_aload_n hX dX11_count_18 0 rfl ?_
    refine j_get (v := .int (nI 0)) hX hS1.1 rfl wf_X11 0 (by decide) lk_X11_56 (fun _ h => h) rfl dX11_count_19 ?_
    refine j_if_le hX 27 dX11_count_22 (by decide) (fun _ => ?_) (fun c_22 => absurd (by decide) c_22)
    refine j_iconst (v := nI 0) hX dX11_count_27 (by decide) ?_
    refine j_istore_n (lv' := [(2, .int (nI 0)), (0, .ref m), (1, .int (nI q))]) hX dX11_count_28 (by rw [hn]; decide) rfl ?_
    refine j_iconst (v := nI 0) hX dX11_count_29 (by decide) ?_
    refine j_istore_n (lv' := [(3, .int (nI 0)), (2, .int (nI 0)), (0, .ref m), (1, .int (nI q))]) hX dX11_count_30 (by rw [hn]; decide) rfl ?_
    refine j_iconst (v := nI 0) hX dX11_count_31 (by decide) ?_
    refine j_istore (lv' := [(4, .int (nI 0)), (3, .int (nI 0)), (2, .int (nI 0)), (0, .ref m), (1, .int (nI q))]) hX dX11_count_32 (by rw [hn]; decide) rfl ?_
    refine j_iconst (v := nI 0) hX dX11_count_34 (by decide) ?_
    refine j_istore (lv' := [(5, .int (nI 0)), (4, .int (nI 0)), (3, .int (nI 0)), (2, .int (nI 0)), (0, .ref m), (1, .int (nI q))]) hX dX11_count_35 (by rw [hn]; decide) rfl ?_
    have loop : ∀ (p k : Nat), k + p = 8 → J X 0 0 g1 37 [(5, .int (nI k)), (4, .int (nI (cntN A 2 k))), (3, .int (nI (cntN A 1 k))), (2, .int (nI (cntN A 0 k))), (0, .ref m), (1, .int (nI q))] [] := by
      intro p
      induction p with
      | zero =>
        intro k hk8
        obtain rfl : k = 8 := by omega
        rcases (show q = 0 ∨ q = 1 ∨ q = 2 by omega) with e | e | e <;> subst e
        · show J X 0 0 g1 37 [(5, .int (nI 8)), (4, .int (nI (cntN A 2 8))), (3, .int (nI (cntN A 1 8))), (2, .int (nI (cntN A 0 8))), (0, .ref m), (1, .int (nI 0))] []
          refine j_iload hX dX11_count_37 0 rfl ?_
          refine j_bipush (v := nI 8) hX dX11_count_39 (by decide) ?_
          refine j_icmp_ge hX 114 dX11_count_41 (by decide) (fun _ => ?_) (fun c_41 => absurd (by decide) c_41)
          refine j_iload_n hX dX11_count_114 5 rfl ?_
          refine j_if_ne hX 122 dX11_count_115 (by decide) (fun c_115 => absurd c_115 (fun q => q (by rfl))) (fun _ => ?_)
          refine j_iload_n hX dX11_count_118 3 rfl ?_
          refine j_goto hX 133 dX11_count_119 (by decide) ?_
          exact j_iret hX hE dX11_count_133 (⟨0, (nI (cntN A 0 8)), rfl, ⟨Q, Od, fi, F, hS1, hA⟩, Or.inl ⟨rfl, ⟨0, by decide, rfl⟩, by rw [vnat_nI (by decide)]⟩⟩) (by decide) (by decide)
        · show J X 0 0 g1 37 [(5, .int (nI 8)), (4, .int (nI (cntN A 2 8))), (3, .int (nI (cntN A 1 8))), (2, .int (nI (cntN A 0 8))), (0, .ref m), (1, .int (nI 1))] []
          refine j_iload hX dX11_count_37 0 rfl ?_
          refine j_bipush (v := nI 8) hX dX11_count_39 (by decide) ?_
          refine j_icmp_ge hX 114 dX11_count_41 (by decide) (fun _ => ?_) (fun c_41 => absurd (by decide) c_41)
          refine j_iload_n hX dX11_count_114 5 rfl ?_
          refine j_if_ne hX 122 dX11_count_115 (by decide) (fun _ => ?_) (fun c_115 => absurd c_115 (by decide))
          refine j_iload_n hX dX11_count_122 5 rfl ?_
          refine j_iconst (v := nI 1) hX dX11_count_123 (by decide) ?_
          refine j_icmp_ne hX 131 dX11_count_124 (by decide) (fun c_124 => absurd c_124 (fun q => q (by rfl))) (fun _ => ?_)
          refine j_iload_n hX dX11_count_127 2 rfl ?_
          refine j_goto hX 133 dX11_count_128 (by decide) ?_
          exact j_iret hX hE dX11_count_133 (⟨0, (nI (cntN A 1 8)), rfl, ⟨Q, Od, fi, F, hS1, hA⟩, Or.inl ⟨rfl, ⟨1, by decide, rfl⟩, by rw [vnat_nI (by decide)]⟩⟩) (by decide) (by decide)
        · show J X 0 0 g1 37 [(5, .int (nI 8)), (4, .int (nI (cntN A 2 8))), (3, .int (nI (cntN A 1 8))), (2, .int (nI (cntN A 0 8))), (0, .ref m), (1, .int (nI 2))] []
          refine j_iload hX dX11_count_37 0 rfl ?_
          refine j_bipush (v := nI 8) hX dX11_count_39 (by decide) ?_
          refine j_icmp_ge hX 114 dX11_count_41 (by decide) (fun _ => ?_) (fun c_41 => absurd (by decide) c_41)
          refine j_iload_n hX dX11_count_114 5 rfl ?_
          refine j_if_ne hX 122 dX11_count_115 (by decide) (fun _ => ?_) (fun c_115 => absurd c_115 (by decide))
          refine j_iload_n hX dX11_count_122 5 rfl ?_
          refine j_iconst (v := nI 1) hX dX11_count_123 (by decide) ?_
          refine j_icmp_ne hX 131 dX11_count_124 (by decide) (fun _ => ?_) (fun c_124 => absurd c_124 (by decide))
          refine j_iload hX dX11_count_131 1 rfl ?_
          exact j_iret hX hE dX11_count_133 (⟨0, (nI (cntN A 2 8)), rfl, ⟨Q, Od, fi, F, hS1, hA⟩, Or.inl ⟨rfl, ⟨2, by decide, rfl⟩, by rw [vnat_nI (by decide)]⟩⟩) (by decide) (by decide)
      | succ p ih =>
        intro k hk8
        have hk : k < 8 := by omega
        have hak8 := (hI k hk).1.2.1
        have h0 := (hI k hk).1.2.2.1
        by_cases h9 : ak A k = 0
        · refine j_iload hX dX11_count_37 0 rfl ?_
          refine j_bipush (v := nI 8) hX dX11_count_39 (by decide) ?_
          refine j_icmp_ge hX 114 dX11_count_41 (by decide) (fun c_41 => absurd c_41 (nI_ge (a := k) (b := 8) (by omega) (by decide))) (fun _ => ?_)
          refine j_aload_n hX dX11_count_44 4 rfl ?_
          refine j_get (v := .ref (Q 0)) hX hS1.1 rfl wf_X11 1 (by decide) lk_X11_7 (fun _ h => h) rfl dX11_count_45 ?_
          refine j_iload hX dX11_count_48 0 rfl ?_
          refine j_ialdN hX (show g1 (Q 0) = some (aI (xK X) 8 (F 0)) from hS1.2.1 0 (by decide)) (k) (rfl) (hk) (by decide) dX11_count_50 ?_
          refine j_eqi (y := nI (ak A k)) ((hA.2.2 k hk).1.1) ?_
          refine j_if_le hX 60 dX11_count_51 (by decide) (fun _ => ?_) (fun c_51 => absurd (by rw [h9]; decide) c_51)
          refine j_iload_n hX dX11_count_60 3 rfl ?_
          refine j_istore_n (lv' := [(2, .int (nI (cntN A 0 k))), (5, .int (nI k)), (4, .int (nI (cntN A 2 k))), (3, .int (nI (cntN A 1 k))), (0, .ref m), (1, .int (nI q))]) hX dX11_count_61 (by rw [hn]; decide) rfl ?_
          refine j_aload_n hX dX11_count_62 4 rfl ?_
          refine j_get (v := .ref (Q 0)) hX hS1.1 rfl wf_X11 1 (by decide) lk_X11_7 (fun _ h => h) rfl dX11_count_63 ?_
          refine j_iload hX dX11_count_66 1 rfl ?_
          refine j_ialdN hX (show g1 (Q 0) = some (aI (xK X) 8 (F 0)) from hS1.2.1 0 (by decide)) (k) (rfl) (hk) (by decide) dX11_count_68 ?_
          refine j_eqi (y := nI (ak A k)) ((hA.2.2 k hk).1.1) ?_
          refine j_iconst (v := nI 1) hX dX11_count_69 (by decide) ?_
          refine j_icmp_ne hX 79 dX11_count_70 (by decide) (fun _ => ?_) (fun c_70 => absurd c_70 (by rw [h9]; decide))
          refine j_iload_n hX dX11_count_79 3 rfl ?_
          refine j_istore_n (lv' := [(3, .int (nI (cntN A 1 k))), (2, .int (nI (cntN A 0 k))), (5, .int (nI k)), (4, .int (nI (cntN A 2 k))), (0, .ref m), (1, .int (nI q))]) hX dX11_count_80 (by rw [hn]; decide) rfl ?_
          refine j_aload_n hX dX11_count_81 4 rfl ?_
          refine j_get (v := .ref (Q 0)) hX hS1.1 rfl wf_X11 1 (by decide) lk_X11_7 (fun _ h => h) rfl dX11_count_82 ?_
          refine j_iload hX dX11_count_85 2 rfl ?_
          refine j_ialdN hX (show g1 (Q 0) = some (aI (xK X) 8 (F 0)) from hS1.2.1 0 (by decide)) (k) (rfl) (hk) (by decide) dX11_count_87 ?_
          refine j_eqi (y := nI (ak A k)) ((hA.2.2 k hk).1.1) ?_
          refine j_if_le hX 104 dX11_count_88 (by decide) (fun _ => ?_) (fun c_88 => absurd (by rw [h9]; decide) c_88)
          refine j_iload hX dX11_count_104 3 rfl ?_
          refine j_istore (lv' := [(4, .int (nI (cntN A 2 k))), (3, .int (nI (cntN A 1 k))), (2, .int (nI (cntN A 0 k))), (5, .int (nI k)), (0, .ref m), (1, .int (nI q))]) hX dX11_count_106 (by rw [hn]; decide) rfl ?_
          refine j_iinc (v := nI (k + 1)) (lv' := [(5, .int (nI (k + 1))), (4, .int (nI (cntN A 2 k))), (3, .int (nI (cntN A 1 k))), (2, .int (nI (cntN A 0 k))), (0, .ref m), (1, .int (nI q))]) hX dX11_count_108 3 rfl (nI_1 k) (by rw [hn]; decide) rfl ?_
          refine j_goto hX 37 dX11_count_111 (by decide) ?_
          refine j_sub (lv' := [(5, .int (nI (k + 1))), (4, .int (nI (cntN A 2 k))), (3, .int (nI (cntN A 1 k))), (2, .int (nI (cntN A 0 k))), (0, .ref m), (1, .int (nI q))]) [0, 1, 2, 3, 4, 5] rfl ?_
          have e0 : ∀ q, cntN A q (k + 1) = cntN A q k := fun q => by rw [cntN_s, if_neg (by omega)]; rfl
          have := ih (k + 1) (by omega)
          rw [e0, e0, e0] at this
          exact this
        · have hpos : 0 < aw A k := by omega
          by_cases h9 : ak A k = 1
          · refine j_iload hX dX11_count_37 0 rfl ?_
            refine j_bipush (v := nI 8) hX dX11_count_39 (by decide) ?_
            refine j_icmp_ge hX 114 dX11_count_41 (by decide) (fun c_41 => absurd c_41 (nI_ge (a := k) (b := 8) (by omega) (by decide))) (fun _ => ?_)
            refine j_aload_n hX dX11_count_44 4 rfl ?_
            refine j_get (v := .ref (Q 0)) hX hS1.1 rfl wf_X11 1 (by decide) lk_X11_7 (fun _ h => h) rfl dX11_count_45 ?_
            refine j_iload hX dX11_count_48 0 rfl ?_
            refine j_ialdN hX (show g1 (Q 0) = some (aI (xK X) 8 (F 0)) from hS1.2.1 0 (by decide)) (k) (rfl) (hk) (by decide) dX11_count_50 ?_
            refine j_eqi (y := nI (ak A k)) ((hA.2.2 k hk).1.1) ?_
            refine j_if_le hX 60 dX11_count_51 (by decide) (fun c_51 => absurd c_51 (by rw [h9]; decide)) (fun _ => ?_)
            refine j_iload_n hX dX11_count_54 3 rfl ?_
            refine j_iconst (v := nI 1) hX dX11_count_55 (by decide) ?_
            refine j_iadd hX dX11_count_56 ?_
            refine j_eqi (y := nI (cntN A 0 k + 1)) (nI_add _ 1) ?_
            refine j_goto hX 61 dX11_count_57 (by decide) ?_
            refine j_istore_n (lv' := [(2, .int (nI (cntN A 0 k + 1))), (5, .int (nI k)), (4, .int (nI (cntN A 2 k))), (3, .int (nI (cntN A 1 k))), (0, .ref m), (1, .int (nI q))]) hX dX11_count_61 (by rw [hn]; decide) rfl ?_
            refine j_aload_n hX dX11_count_62 4 rfl ?_
            refine j_get (v := .ref (Q 0)) hX hS1.1 rfl wf_X11 1 (by decide) lk_X11_7 (fun _ h => h) rfl dX11_count_63 ?_
            refine j_iload hX dX11_count_66 1 rfl ?_
            refine j_ialdN hX (show g1 (Q 0) = some (aI (xK X) 8 (F 0)) from hS1.2.1 0 (by decide)) (k) (rfl) (hk) (by decide) dX11_count_68 ?_
            refine j_eqi (y := nI (ak A k)) ((hA.2.2 k hk).1.1) ?_
            refine j_iconst (v := nI 1) hX dX11_count_69 (by decide) ?_
            refine j_icmp_ne hX 79 dX11_count_70 (by decide) (fun c_70 => absurd c_70 (fun q => q (by rw [h9]))) (fun _ => ?_)
            refine j_iload_n hX dX11_count_73 3 rfl ?_
            refine j_iconst (v := nI 1) hX dX11_count_74 (by decide) ?_
            refine j_iadd hX dX11_count_75 ?_
            refine j_eqi (y := nI (cntN A 1 k + 1)) (nI_add _ 1) ?_
            refine j_goto hX 80 dX11_count_76 (by decide) ?_
            refine j_istore_n (lv' := [(3, .int (nI (cntN A 1 k + 1))), (2, .int (nI (cntN A 0 k + 1))), (5, .int (nI k)), (4, .int (nI (cntN A 2 k))), (0, .ref m), (1, .int (nI q))]) hX dX11_count_80 (by rw [hn]; decide) rfl ?_
            refine j_aload_n hX dX11_count_81 4 rfl ?_
            refine j_get (v := .ref (Q 0)) hX hS1.1 rfl wf_X11 1 (by decide) lk_X11_7 (fun _ h => h) rfl dX11_count_82 ?_
            refine j_iload hX dX11_count_85 2 rfl ?_
            refine j_ialdN hX (show g1 (Q 0) = some (aI (xK X) 8 (F 0)) from hS1.2.1 0 (by decide)) (k) (rfl) (hk) (by decide) dX11_count_87 ?_
            refine j_eqi (y := nI (ak A k)) ((hA.2.2 k hk).1.1) ?_
            refine j_if_le hX 104 dX11_count_88 (by decide) (fun c_88 => absurd c_88 (by rw [h9]; decide)) (fun _ => ?_)
            refine j_iload hX dX11_count_91 3 rfl ?_
            refine j_aload_n hX dX11_count_93 4 rfl ?_
            refine j_get (v := .ref (Q 10)) hX hS1.1 rfl wf_X11 12 (by decide) lk_X11_41 (fun _ h => h) rfl dX11_count_94 ?_
            refine j_iload hX dX11_count_97 2 rfl ?_
            refine j_ialdN hX (show g1 (Q 10) = some (aI (xK X) 8 (F 10)) from hS1.2.1 10 (by decide)) (k) (rfl) (hk) (by decide) dX11_count_99 ?_
            refine j_eqi (y := nI (aB A k).length) ((hA.2.2 k hk).2.1.1) ?_
            refine j_iadd hX dX11_count_100 ?_
            refine j_eqi (y := nI (cntN A 2 k + (aB A k).length)) (nI_add _ _) ?_
            refine j_goto hX 106 dX11_count_101 (by decide) ?_
            refine j_istore (lv' := [(4, .int (nI (cntN A 2 k + (aB A k).length))), (3, .int (nI (cntN A 1 k + 1))), (2, .int (nI (cntN A 0 k + 1))), (5, .int (nI k)), (0, .ref m), (1, .int (nI q))]) hX dX11_count_106 (by rw [hn]; decide) rfl ?_
            refine j_iinc (v := nI (k + 1)) (lv' := [(5, .int (nI (k + 1))), (4, .int (nI (cntN A 2 k + (aB A k).length))), (3, .int (nI (cntN A 1 k + 1))), (2, .int (nI (cntN A 0 k + 1))), (0, .ref m), (1, .int (nI q))]) hX dX11_count_108 3 rfl (nI_1 k) (by rw [hn]; decide) rfl ?_
            refine j_goto hX 37 dX11_count_111 (by decide) ?_
            refine j_sub (lv' := [(5, .int (nI (k + 1))), (4, .int (nI (cntN A 2 k + (aB A k).length))), (3, .int (nI (cntN A 1 k + 1))), (2, .int (nI (cntN A 0 k + 1))), (0, .ref m), (1, .int (nI q))]) [0, 1, 2, 3, 4, 5] rfl ?_
            have := ih (k + 1) (by omega)
            rw [cntN_s A 0, cntN_s A 1, cntN_s A 2, if_pos hpos, if_pos hpos, if_pos hpos, show cntI A 0 k = 1 from rfl, show cntI A 1 k = 1 by show (if 2 ≤ ak A k then 0 else 1) = 1; rw [if_neg (by omega)], show cntI A 2 k = (aB A k).length from rfl] at this
            exact this
          · refine j_iload hX dX11_count_37 0 rfl ?_
            refine j_bipush (v := nI 8) hX dX11_count_39 (by decide) ?_
            refine j_icmp_ge hX 114 dX11_count_41 (by decide) (fun c_41 => absurd c_41 (nI_ge (a := k) (b := 8) (by omega) (by decide))) (fun _ => ?_)
            refine j_aload_n hX dX11_count_44 4 rfl ?_
            refine j_get (v := .ref (Q 0)) hX hS1.1 rfl wf_X11 1 (by decide) lk_X11_7 (fun _ h => h) rfl dX11_count_45 ?_
            refine j_iload hX dX11_count_48 0 rfl ?_
            refine j_ialdN hX (show g1 (Q 0) = some (aI (xK X) 8 (F 0)) from hS1.2.1 0 (by decide)) (k) (rfl) (hk) (by decide) dX11_count_50 ?_
            refine j_eqi (y := nI (ak A k)) ((hA.2.2 k hk).1.1) ?_
            refine j_if_le hX 60 dX11_count_51 (by decide) (fun c_51 => absurd c_51 (nI_nle (n := ak A k) (by omega) (by omega))) (fun _ => ?_)
            refine j_iload_n hX dX11_count_54 3 rfl ?_
            refine j_iconst (v := nI 1) hX dX11_count_55 (by decide) ?_
            refine j_iadd hX dX11_count_56 ?_
            refine j_eqi (y := nI (cntN A 0 k + 1)) (nI_add _ 1) ?_
            refine j_goto hX 61 dX11_count_57 (by decide) ?_
            refine j_istore_n (lv' := [(2, .int (nI (cntN A 0 k + 1))), (5, .int (nI k)), (4, .int (nI (cntN A 2 k))), (3, .int (nI (cntN A 1 k))), (0, .ref m), (1, .int (nI q))]) hX dX11_count_61 (by rw [hn]; decide) rfl ?_
            refine j_aload_n hX dX11_count_62 4 rfl ?_
            refine j_get (v := .ref (Q 0)) hX hS1.1 rfl wf_X11 1 (by decide) lk_X11_7 (fun _ h => h) rfl dX11_count_63 ?_
            refine j_iload hX dX11_count_66 1 rfl ?_
            refine j_ialdN hX (show g1 (Q 0) = some (aI (xK X) 8 (F 0)) from hS1.2.1 0 (by decide)) (k) (rfl) (hk) (by decide) dX11_count_68 ?_
            refine j_eqi (y := nI (ak A k)) ((hA.2.2 k hk).1.1) ?_
            refine j_iconst (v := nI 1) hX dX11_count_69 (by decide) ?_
            refine j_icmp_ne hX 79 dX11_count_70 (by decide) (fun _ => ?_) (fun c_70 => absurd c_70 (nI_ne (a := ak A k) (b := 1) (by omega) (by decide) (by omega)))
            refine j_iload_n hX dX11_count_79 3 rfl ?_
            refine j_istore_n (lv' := [(3, .int (nI (cntN A 1 k))), (2, .int (nI (cntN A 0 k + 1))), (5, .int (nI k)), (4, .int (nI (cntN A 2 k))), (0, .ref m), (1, .int (nI q))]) hX dX11_count_80 (by rw [hn]; decide) rfl ?_
            refine j_aload_n hX dX11_count_81 4 rfl ?_
            refine j_get (v := .ref (Q 0)) hX hS1.1 rfl wf_X11 1 (by decide) lk_X11_7 (fun _ h => h) rfl dX11_count_82 ?_
            refine j_iload hX dX11_count_85 2 rfl ?_
            refine j_ialdN hX (show g1 (Q 0) = some (aI (xK X) 8 (F 0)) from hS1.2.1 0 (by decide)) (k) (rfl) (hk) (by decide) dX11_count_87 ?_
            refine j_eqi (y := nI (ak A k)) ((hA.2.2 k hk).1.1) ?_
            refine j_if_le hX 104 dX11_count_88 (by decide) (fun c_88 => absurd c_88 (nI_nle (n := ak A k) (by omega) (by omega))) (fun _ => ?_)
            refine j_iload hX dX11_count_91 3 rfl ?_
            refine j_aload_n hX dX11_count_93 4 rfl ?_
            refine j_get (v := .ref (Q 10)) hX hS1.1 rfl wf_X11 12 (by decide) lk_X11_41 (fun _ h => h) rfl dX11_count_94 ?_
            refine j_iload hX dX11_count_97 2 rfl ?_
            refine j_ialdN hX (show g1 (Q 10) = some (aI (xK X) 8 (F 10)) from hS1.2.1 10 (by decide)) (k) (rfl) (hk) (by decide) dX11_count_99 ?_
            refine j_eqi (y := nI (aB A k).length) ((hA.2.2 k hk).2.1.1) ?_
            refine j_iadd hX dX11_count_100 ?_
            refine j_eqi (y := nI (cntN A 2 k + (aB A k).length)) (nI_add _ _) ?_
            refine j_goto hX 106 dX11_count_101 (by decide) ?_
            refine j_istore (lv' := [(4, .int (nI (cntN A 2 k + (aB A k).length))), (3, .int (nI (cntN A 1 k))), (2, .int (nI (cntN A 0 k + 1))), (5, .int (nI k)), (0, .ref m), (1, .int (nI q))]) hX dX11_count_106 (by rw [hn]; decide) rfl ?_
            refine j_iinc (v := nI (k + 1)) (lv' := [(5, .int (nI (k + 1))), (4, .int (nI (cntN A 2 k + (aB A k).length))), (3, .int (nI (cntN A 1 k))), (2, .int (nI (cntN A 0 k + 1))), (0, .ref m), (1, .int (nI q))]) hX dX11_count_108 3 rfl (nI_1 k) (by rw [hn]; decide) rfl ?_
            refine j_goto hX 37 dX11_count_111 (by decide) ?_
            refine j_sub (lv' := [(5, .int (nI (k + 1))), (4, .int (nI (cntN A 2 k + (aB A k).length))), (3, .int (nI (cntN A 1 k))), (2, .int (nI (cntN A 0 k + 1))), (0, .ref m), (1, .int (nI q))]) [0, 1, 2, 3, 4, 5] rfl ?_
            have := ih (k + 1) (by omega)
            rw [cntN_s A 0, cntN_s A 1, cntN_s A 2, if_pos hpos, if_pos hpos, if_pos hpos, show cntI A 0 k = 1 from rfl, show cntI A 1 k = 0 by show (if 2 ≤ ak A k then 0 else 1) = 0; rw [if_pos (by omega)], show cntI A 2 k = (aB A k).length from rfl] at this
            exact this
    refine j_sub (lv' := [(5, .int (nI 0)), (4, .int (nI 0)), (3, .int (nI 0)), (2, .int (nI 0)), (0, .ref m), (1, .int (nI q))]) [0, 1, 2, 3, 4, 5] rfl ?_
    exact loop 8 0 (by omega)
  · have hq9 : ¬ (¬ wh < 0 ∧ wh ≤ nI 2) := fun q => hP (by obtain ⟨w, _, q2, q3⟩ := i32_rng (a := 0) (b := 2) (by decide) (by decide) (Int32.not_lt.mp q.1) q.2; exact ⟨w, by omega, q3⟩)
    show J X 0 0 g 0 [(0, .ref m), (1, .int wh)] []
    refine j_aload_n hX dX11_count_0 0 rfl ?_
    refine j_iload_n hX dX11_count_1 1 rfl ?_
    refine j_if_lt hX 14 dX11_count_2 (by decide) (fun c_2 => ?_) (fun c_2 => ?_)
    · refine j_iconst (v := nI 1) hX dX11_count_14 (by decide) ?_
      refine j_put hX hS.1 rfl wf_X11 tyX11_ok nmX11 0 (by decide) lk_X11_56 (fun _ h => h) rfl (tyX11_ok 0 (by decide)) rfl rfl (Nat.le_of_ble_eq_true rfl) dX11_count_15 ?_
      obtain ⟨g1, eg1⟩ : ∃ z : Wd, z = up g m (ob 10 [.int (nI 1), .ref (Q 0), .ref (Q 1), .ref (Q 2), .ref (Q 3), .ref (Q 4), .ref (Q 5), .ref (Q 6), .int (nI Od.length), .ref (Q 7), .ref (Q 8), .ref (Q 9), .ref (Q 10), .ref (Q 11), .ref (Q 12), .ref (Q 13), .int fi, .ref (Q 14)]) := ⟨_, rfl⟩
      refine j_w eg1.symm ?_
      have hS1 : RS (xK X) g1 m Q (nI 1) (nI Od.length) fi F := by rw [eg1]; exact hS.obj _ _ _
      refine j_aload_n hX dX11_count_18 0 rfl ?_
      refine j_get (v := .int (nI 1)) hX hS1.1 rfl wf_X11 0 (by decide) lk_X11_56 (fun _ h => h) rfl dX11_count_19 ?_
      refine j_if_le hX 27 dX11_count_22 (by decide) (fun c_22 => absurd c_22 (by decide)) (fun _ => ?_)
      refine j_iconst (v := nI 0) hX dX11_count_25 (by decide) ?_
      exact j_iret hX hE dX11_count_26 (⟨1, _, rfl, ⟨Q, Od, fi, F, hS1, hA⟩, Or.inr ⟨rfl, hP⟩⟩) (by decide) (by decide)
    · refine j_iload_n hX dX11_count_5 1 rfl ?_
      refine j_iconst (v := nI 2) hX dX11_count_6 (by decide) ?_
      refine j_icmp_gt hX 14 dX11_count_7 (by decide) (fun _ => ?_) (fun c_7 => absurd (Int32.not_le.mp (fun q => hq9 ⟨c_2, q⟩)) c_7)
      refine j_iconst (v := nI 1) hX dX11_count_14 (by decide) ?_
      refine j_put hX hS.1 rfl wf_X11 tyX11_ok nmX11 0 (by decide) lk_X11_56 (fun _ h => h) rfl (tyX11_ok 0 (by decide)) rfl rfl (Nat.le_of_ble_eq_true rfl) dX11_count_15 ?_
      obtain ⟨g2, eg2⟩ : ∃ z : Wd, z = up g m (ob 10 [.int (nI 1), .ref (Q 0), .ref (Q 1), .ref (Q 2), .ref (Q 3), .ref (Q 4), .ref (Q 5), .ref (Q 6), .int (nI Od.length), .ref (Q 7), .ref (Q 8), .ref (Q 9), .ref (Q 10), .ref (Q 11), .ref (Q 12), .ref (Q 13), .int fi, .ref (Q 14)]) := ⟨_, rfl⟩
      refine j_w eg2.symm ?_
      have hS2 : RS (xK X) g2 m Q (nI 1) (nI Od.length) fi F := by rw [eg2]; exact hS.obj _ _ _
      refine j_aload_n hX dX11_count_18 0 rfl ?_
      refine j_get (v := .int (nI 1)) hX hS2.1 rfl wf_X11 0 (by decide) lk_X11_56 (fun _ h => h) rfl dX11_count_19 ?_
      refine j_if_le hX 27 dX11_count_22 (by decide) (fun c_22 => absurd c_22 (by decide)) (fun _ => ?_)
      refine j_iconst (v := nI 0) hX dX11_count_25 (by decide) ?_
      exact j_iret hX hE dX11_count_26 (⟨1, _, rfl, ⟨Q, Od, fi, F, hS2, hA⟩, Or.inr ⟨rfl, hP⟩⟩) (by decide) (by decide)

