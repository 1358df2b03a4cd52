set_option maxRecDepth 20000 in
set_option maxHeartbeats 600000 in
theorem c_X11_thrown (l : Launch) (K : Cst) (g : Wd) (m : Nat) (Q : Nat → Nat) (th oc fi : Int32) (F : Nat → Nat → Int32) (hS : RS K g m Q th oc fi F) : Ct l K yX11_thrown cX11_thrown 1 (some .int) 0 [.ref m] g (fun v g' => v = some (.int th) ∧ g = g') (fun _ _ => False) 0 0 := by
  refine ct_of (by decide) (Nat.le_of_ble_eq_true rfl) ?_
  intro X hl hK hX hE hn hL hR hm
  subst hl; subst hK
  show J X 0 0 g 0 [(0, .ref m)] []
  refine j_aload_n hX dX11_thrown_0 0 rfl ?_
  refine j_get (v := .int th) hX hS.1 rfl wf_X11 0 (by decide) lk_X11_56 (fun _ h => h) rfl dX11_thrown_1 ?_
  exact j_iret hX hE dX11_thrown_4 (⟨rfl, rfl⟩) (by decide) (by decide)

set_option maxRecDepth 20000 in
set_option maxHeartbeats 600000 in
theorem c_X11_cellOf (l : Launch) (K : Cst) (g : Wd) (m : Nat) (Q : Nat → Nat) (th oc fi : Int32) (F : Nat → Nat → Int32) (hS : RS K g m Q th oc fi F) (r k c : Nat) (hr : r < 8) (hk : k < 20) (hc : c < 4) : Ct l K yX11_cellOf cX11_cellOf 4 (some .int) 0 [.ref m, .int (nI r), .int (nI k), .int (nI c)] g (fun v g' => v = some (.int (F 11 (80 * r + 4 * k + c))) ∧ g = g') (fun _ _ => False) 0 0 := by
  refine ct_of (by decide) (Nat.le_of_ble_eq_true rfl) ?_
  intro X hl hK hX hE hn hL hR hm
  subst hl; subst hK
  show J X 0 0 g 0 [(0, .ref m), (1, .int (nI r)), (2, .int (nI k)), (3, .int (nI c))] []
  refine j_aload_n hX dX11_cellOf_0 0 rfl ?_
  refine j_get (v := .ref (Q 11)) hX hS.1 rfl wf_X11 13 (by decide) lk_X11_44 (fun _ h => h) rfl dX11_cellOf_1 ?_
  refine j_iconst (v := nI 4) hX dX11_cellOf_4 (by decide) ?_
  refine j_bipush (v := nI 20) hX dX11_cellOf_5 (by decide) ?_
  refine j_iload_n hX dX11_cellOf_7 1 rfl ?_
  refine j_imul hX dX11_cellOf_8 ?_
  refine j_iload_n hX dX11_cellOf_9 2 rfl ?_
  refine j_iadd hX dX11_cellOf_10 ?_
  refine j_eqi (y := nI (20 * r + k)) (ix20 r k) ?_
  refine j_imul hX dX11_cellOf_11 ?_
  refine j_iload_n hX dX11_cellOf_12 3 rfl ?_
  refine j_iadd hX dX11_cellOf_13 ?_
  refine j_eqi (y := nI (80 * r + 4 * k + c)) (ix80 r k c) ?_
  refine j_ialdN hX (show g (Q 11) = some (aI (xK X) 2048 (F 11)) from hS.2.1 11 (by decide)) (80 * r + 4 * k + c) (rfl) (by omega) (by decide) dX11_cellOf_14 ?_
  exact j_iret hX hE dX11_cellOf_15 (⟨rfl, rfl⟩) (by decide) (by decide)

set_option maxRecDepth 20000 in
set_option maxHeartbeats 600000 in
theorem c_X11_timesOf (l : Launch) (K : Cst) (g : Wd) (m : Nat) (Q : Nat → Nat) (th oc fi : Int32) (F : Nat → Nat → Int32) (hS : RS K g m Q th oc fi F) (r k : Nat) (hr : r < 8) (hk : k < 20) : Ct l K yX11_timesOf cX11_timesOf 3 (some .long) 0 [.ref m, .int (nI r), .int (nI k)] g (fun v g' => v = some (.long (F 12 (20 * r + k)).toInt64) ∧ g = g') (fun _ _ => False) 0 0 := by
  refine ct_of (by decide) (Nat.le_of_ble_eq_true rfl) ?_
  intro X hl hK hX hE hn hL hR hm
  subst hl; subst hK
  show J X 0 0 g 0 [(0, .ref m), (1, .int (nI r)), (2, .int (nI k))] []
  refine j_aload_n hX dX11_timesOf_0 0 rfl ?_
  refine j_get (v := .ref (Q 12)) hX hS.1 rfl wf_X11 14 (by decide) lk_X11_47 (fun _ h => h) rfl dX11_timesOf_1 ?_
  refine j_bipush (v := nI 20) hX dX11_timesOf_4 (by decide) ?_
  refine j_iload_n hX dX11_timesOf_6 1 rfl ?_
  refine j_imul hX dX11_timesOf_7 ?_
  refine j_iload_n hX dX11_timesOf_8 2 rfl ?_
  refine j_iadd hX dX11_timesOf_9 ?_
  refine j_eqi (y := nI (20 * r + k)) (ix20 r k) ?_
  refine j_ialdN hX (show g (Q 12) = some (aI (xK X) 512 (F 12)) from hS.2.1 12 (by decide)) (20 * r + k) (rfl) (by omega) (by decide) dX11_timesOf_10 ?_
  refine j_i2l hX dX11_timesOf_11 ?_
  exact j_lret hX hE dX11_timesOf_12 (⟨rfl, rfl⟩) (by decide) (by decide)

set_option maxRecDepth 20000 in
set_option maxHeartbeats 600000 in
theorem c_X11_take (l : Launch) (K : Cst) (g : Wd) (m : Nat) (Q : Nat → Nat) (th oc fi : Int32) (F : Nat → Nat → Int32) (hS : RS K g m Q th oc fi F) (r k : Nat) (hr : r < 8) (hk : k < 20) : Ct l K yX11_take cX11_take 4 none 1 [.ref m, .int (nI r), .int (nI k)] g (fun v g' => v = none ∧ ∃ F', RS K g' m Q th oc fi F' ∧ (∀ j, j ≠ 14 → F' j = F j) ∧ rowAt (F' 14) 0 = rowAt (F 11) (80 * r + 4 * k)) (fun _ _ => False) 0 0 := by
  refine ct_of (by decide) (Nat.le_of_ble_eq_true rfl) ?_
  intro X hl hK hX hE hn hL hR hm
  subst hl; subst hK
  show J X 0 0 g 0 [(0, .ref m), (1, .int (nI r)), (2, .int (nI k))] []
  have loop : ∀ (q c : Nat) (G : Nat → Nat → Int32) (g9 : Wd), c + q = 4 → RS (xK X) g9 m Q th oc fi G → (∀ j, j ≠ 14 → G j = F j) → (∀ z, z < c → G 14 z = F 11 (80 * r + 4 * k + z)) → J X 0 0 g9 2 [(3, .int (nI c)), (2, .int (nI k)), (1, .int (nI r)), (0, .ref m)] [] := by
    intro q
    induction q with
    | zero =>
      intro c G g9 hc hG hK hR9
      refine j_iload_n hX dX11_take_2 0 rfl ?_
      refine j_iconst (v := nI 4) hX dX11_take_3 (by decide) ?_
      refine j_icmp_ge hX 26 dX11_take_4 (by decide) (fun _ => ?_) (fun c_4 => absurd (nI_le (a := 4) (b := c) (by omega) (by omega)) c_4)
      exact j_vret hX hE dX11_take_26 (⟨rfl, G, hG, hK, rowAt_c (fun z hz => by rw [Nat.zero_add]; exact hR9 z (by omega))⟩) (by decide) (by decide)
    | succ q ih =>
      intro c G g9 hc hG hK hR9
      refine j_iload_n hX dX11_take_2 0 rfl ?_
      refine j_iconst (v := nI 4) hX dX11_take_3 (by decide) ?_
      refine j_icmp_ge hX 26 dX11_take_4 (by decide) (fun c_4 => absurd c_4 (nI_ge (a := c) (b := 4) (by omega) (by decide))) (fun _ => ?_)
      refine j_aload_n hX dX11_take_7 3 rfl ?_
      refine j_get (v := .ref (Q 14)) hX hG.1 rfl wf_X11 17 (by decide) lk_X11_53 (fun _ h => h) rfl dX11_take_8 ?_
      refine j_iload_n hX dX11_take_11 0 rfl ?_
      refine j_aload_n hX dX11_take_12 3 rfl ?_
      refine j_iload_n hX dX11_take_13 2 rfl ?_
      refine j_iload_n hX dX11_take_14 1 rfl ?_
      refine j_iload_n hX dX11_take_15 0 rfl ?_
      refine j_callV (As := [.int (nI r), .int (nI k), .int (nI c)]) (rest := [.int (nI c), .ref (Q 14)]) hX (c_X11_cellOf (xl X) (xK X) g9 m Q th oc fi G hG r k c hr hk (by omega)) hG.1 rfl lk_X11_74 wI_X11_cellOf wV_X11_X11_cellOf wN_X11 wC_X11_cellOf hd_X11_cellOf rfl (by rw [hL]; decide) (by decide) rfl (Nat.le_of_ble_eq_true rfl) dX11_take_16 (by rw [hR]; decide) (by rw [hR]; decide) jx_no ?_
      rintro _ _ ⟨rfl, rfl⟩
      show J X 0 0 g9 19 [(3, .int (nI c)), (2, .int (nI k)), (1, .int (nI r)), (0, .ref m)] [.int (G 11 (80 * r + 4 * k + c)), .int (nI c), .ref (Q 14)]
      refine j_iastN hX (show g9 (Q 14) = some (aI (xK X) 4 (G 14)) from hG.2.1 14 (by decide)) (c) (rfl) (by omega) (by decide) dX11_take_19 ?_
      obtain ⟨gt1, egt1⟩ : ∃ z : Wd, z = up g9 (Q 14) (aI (xK X) 4 (upd (G 14) (c) (G 11 (80 * r + 4 * k + c)))) := ⟨_, rfl⟩
      refine j_w egt1.symm ?_
      obtain ⟨Ft1, eFt1⟩ : ∃ z, z = fu G 14 (upd (G 14) (c) (G 11 (80 * r + 4 * k + c))) := ⟨_, rfl⟩
      have hSt1 : RS (xK X) gt1 m Q th oc fi Ft1 := by rw [egt1, eFt1]; exact hG.put 14 (by decide) _
      refine j_iinc (v := nI (c + 1)) (lv' := [(3, .int (nI (c + 1))), (2, .int (nI k)), (1, .int (nI r)), (0, .ref m)]) hX dX11_take_20 0 rfl (nI_1 c) (by rw [hn]; decide) rfl ?_
      refine j_goto hX 2 dX11_take_23 (by decide) ?_
      refine j_sub [0, 1, 2, 3] rfl ?_
      exact ih (c + 1) Ft1 gt1 (by omega) hSt1 (fun j hj => by rw [eFt1, fu_n hj]; exact hK j hj) (fun z hz => by
        rw [eFt1, fu_s]
        by_cases e : z = c
        · rw [e, pk_us, hK 11 (by decide)]
        · rw [pk_un e]; exact hR9 z (by omega))
  refine j_iconst (v := nI 0) hX dX11_take_0 (by decide) ?_
  refine j_istore_n (lv' := [(3, .int (nI 0)), (0, .ref m), (1, .int (nI r)), (2, .int (nI k))]) hX dX11_take_1 (by rw [hn]; decide) rfl ?_
  refine j_sub (lv' := [(3, .int (nI 0)), (2, .int (nI k)), (1, .int (nI r)), (0, .ref m)]) [0, 3, 2, 1] rfl ?_
  exact loop 4 0 F g (by omega) hS (fun _ _ => rfl) (fun z hz => absurd hz (by omega))

set_option maxRecDepth 20000 in
set_option maxHeartbeats 600000 in
theorem c_X11_isPlace (l : Launch) (K : Cst) (g : Wd) (r : Int32) : Ct l K yX11_isPlace cX11_isPlace 1 (some .boolean) 0 [.int r] g (fun v g' => ∃ b : Bool, v = some (.int (b01 b)) ∧ (b = true ↔ P8 r) ∧ g = g') (fun _ _ => False) 0 0 := by
  refine ct_of (by decide) (Nat.le_of_ble_eq_true rfl) ?_
  intro X hl hK hX hE hn hL hR hm
  subst hl; subst hK
  show J X 0 0 g 0 [(0, .int r)] []
  rcases i32_in r 8 (by decide) with h9 | ⟨i, hi, rfl⟩
  · refine j_iload_n hX dX11_isPlace_0 0 rfl ?_
    refine j_if_lt hX 14 dX11_isPlace_1 (by decide) (fun c_1 => ?_) (fun c_1 => ?_)
    · refine j_iconst (v := 0) hX dX11_isPlace_14 (by decide) ?_
      exact j_zret hX hE dX11_isPlace_15 (rfl) (⟨false, rfl, ⟨fun q => absurd q (by decide), fun q => absurd q (i32_out (by decide) h9)⟩, rfl⟩) (by decide) (by decide)
    · refine j_iload_n hX dX11_isPlace_4 0 rfl ?_
      refine j_bipush (v := nI 8) hX dX11_isPlace_5 (by decide) ?_
      refine j_icmp_ge hX 14 dX11_isPlace_7 (by decide) (fun _ => ?_) (fun c_7 => absurd (h9.resolve_left c_1) c_7)
      refine j_iconst (v := 0) hX dX11_isPlace_14 (by decide) ?_
      exact j_zret hX hE dX11_isPlace_15 (rfl) (⟨false, rfl, ⟨fun q => absurd q (by decide), fun q => absurd q (i32_out (by decide) h9)⟩, rfl⟩) (by decide) (by decide)
  · refine j_iload_n hX dX11_isPlace_0 0 rfl ?_
    refine j_if_lt hX 14 dX11_isPlace_1 (by decide) (fun c_1 => absurd c_1 (nI_pos (n := i) (by omega))) (fun _ => ?_)
    refine j_iload_n hX dX11_isPlace_4 0 rfl ?_
    refine j_bipush (v := nI 8) hX dX11_isPlace_5 (by decide) ?_
    refine j_icmp_ge hX 14 dX11_isPlace_7 (by decide) (fun c_7 => absurd c_7 (nI_ge (a := i) (b := 8) hi (by decide))) (fun _ => ?_)
    refine j_iconst (v := 1) hX dX11_isPlace_10 (by decide) ?_
    refine j_goto hX 15 dX11_isPlace_11 (by decide) ?_
    exact j_zret hX hE dX11_isPlace_15 (rfl) (⟨true, rfl, ⟨fun _ => ⟨i, hi, rfl⟩, fun _ => rfl⟩, rfl⟩) (by decide) (by decide)

set_option maxRecDepth 20000 in
set_option maxHeartbeats 600000 in
theorem c_X11_is (l : Launch) (K : Cst) (g : Wd) (m : Nat) (Q : Nat → Nat) (th oc fi : Int32) (F : Nat → Nat → Int32) (hS : RS K g m Q th oc fi F) (r : Int32) : Ct l K yX11_is cX11_is 2 (some .boolean) 1 [.ref m, .int r] g (fun v g' => ∃ b : Bool, v = some (.int (b01 b)) ∧ (b = true ↔ ∃ i, i < 8 ∧ r = nI i ∧ 0 < F 0 i) ∧ g = g') (fun _ _ => False) 0 0 := by
  refine ct_of (by decide) (Nat.le_of_ble_eq_true rfl) ?_
  intro X hl hK hX hE hn hL hR hm
  subst hl; subst hK
  show J X 0 0 g 0 [(0, .ref m), (1, .int r)] []
  refine j_iload_n hX dX11_is_0 1 rfl ?_
  refine j_callS (As := [.int r]) (rest := []) hX (c_X11_isPlace (xl X) (xK X) g r) lk_X11_109 wS_X11_isPlace wN_X11 wC_X11_isPlace hd_X11_isPlace rfl (by rw [hL]; decide) (by decide) rfl (Nat.le_of_ble_eq_true rfl) dX11_is_1 (by rw [hR]; decide) (by rw [hR]; decide) jx_no ?_
  rintro _ _ ⟨b, rfl, hb, rfl⟩
  show J X 0 0 g 4 [(0, .ref m), (1, .int r)] [.int (b01 b)]
  refine j_if_eq hX 20 dX11_is_4 (by decide) (fun c_4 => ?_) (fun c_4 => ?_)
  · refine j_iconst (v := 0) hX dX11_is_20 (by decide) ?_
    exact j_zret hX hE dX11_is_21 (rfl) (⟨false, rfl, ⟨fun q => absurd q (by decide), fun q => absurd q (fun ⟨i, h1, h2, h3⟩ => b01_f c_4 (hb.mpr ⟨i, h1, h2⟩))⟩, rfl⟩) (by decide) (by decide)
  · obtain ⟨i, hi, ei⟩ := hb.mp (b01_t c_4)
    refine j_aload_n hX dX11_is_7 0 rfl ?_
    refine j_get (v := .ref (Q 0)) hX hS.1 rfl wf_X11 1 (by decide) lk_X11_7 (fun _ h => h) rfl dX11_is_8 ?_
    refine j_iload_n hX dX11_is_11 1 rfl ?_
    refine j_ialdN hX (show g (Q 0) = some (aI (xK X) 8 (F 0)) from hS.2.1 0 (by decide)) (i) (ei) (hi) (by decide) dX11_is_12 ?_
    refine j_if_le hX 20 dX11_is_13 (by decide) (fun c_13 => ?_) (fun c_13 => ?_)
    · refine j_iconst (v := 0) hX dX11_is_20 (by decide) ?_
      exact j_zret hX hE dX11_is_21 (rfl) (⟨false, rfl, ⟨fun q => absurd q (by decide), fun q => absurd q (fun ⟨j, h1, h2, h3⟩ => Int32.not_lt.mpr c_13 (by rw [(nI_eq (by omega) (by omega)).mp (ei.symm.trans h2)]; exact h3))⟩, rfl⟩) (by decide) (by decide)
    · refine j_iconst (v := 1) hX dX11_is_16 (by decide) ?_
      refine j_goto hX 21 dX11_is_17 (by decide) ?_
      exact j_zret hX hE dX11_is_21 (rfl) (⟨true, rfl, ⟨fun _ => ⟨i, hi, ei, Int32.not_le.mp c_13⟩, fun _ => rfl⟩, rfl⟩) (by decide) (by decide)

set_option maxRecDepth 20000 in
set_option maxHeartbeats 600000 in
theorem c_X11_isColumn (l : Launch) (K : Cst) (g : Wd) (m : Nat) (Q : Nat → Nat) (th oc fi : Int32) (F : Nat → Nat → Int32) (hS : RS K g m Q th oc fi F) (r c : Int32) : Ct l K yX11_isColumn cX11_isColumn 3 (some .boolean) 2 [.ref m, .int r, .int c] g (fun v g' => ∃ b : Bool, v = some (.int (b01 b)) ∧ (b = true ↔ ∃ i, i < 8 ∧ r = nI i ∧ 0 < F 0 i ∧ ¬ c < 0 ∧ c < F 1 i) ∧ g = g') (fun _ _ => False) 0 0 := by
  refine ct_of (by decide) (Nat.le_of_ble_eq_true rfl) ?_
  intro X hl hK hX hE hn hL hR hm
  subst hl; subst hK
  show J X 0 0 g 0 [(0, .ref m), (1, .int r), (2, .int c)] []
  refine j_aload_n hX dX11_isColumn_0 0 rfl ?_
  refine j_iload_n hX dX11_isColumn_1 1 rfl ?_
  refine j_callV (As := [.int r]) (rest := []) hX (c_X11_is (xl X) (xK X) g m Q th oc fi F hS r) hS.1 rfl lk_X11_113 wI_X11_is wV_X11_X11_is wN_X11 wC_X11_is hd_X11_is rfl (by rw [hL]; decide) (by decide) rfl (Nat.le_of_ble_eq_true rfl) dX11_isColumn_2 (by rw [hR]; decide) (by rw [hR]; decide) jx_no ?_
  rintro _ _ ⟨b, rfl, hb, rfl⟩
  show J X 0 0 g 5 [(0, .ref m), (1, .int r), (2, .int c)] [.int (b01 b)]
  refine j_if_eq hX 26 dX11_isColumn_5 (by decide) (fun c_5 => ?_) (fun c_5 => ?_)
  · refine j_iconst (v := 0) hX dX11_isColumn_26 (by decide) ?_
    exact j_zret hX hE dX11_isColumn_27 (rfl) (⟨false, rfl, ⟨fun q => absurd q (by decide), fun q => absurd q (fun ⟨i, h1, h2, h3, _⟩ => b01_f c_5 (hb.mpr ⟨i, h1, h2, h3⟩))⟩, rfl⟩) (by decide) (by decide)
  · obtain ⟨i, hi, ei, hk9⟩ := hb.mp (b01_t c_5)
    refine j_iload_n hX dX11_isColumn_8 2 rfl ?_
    refine j_if_lt hX 26 dX11_isColumn_9 (by decide) (fun c_9 => ?_) (fun c_9 => ?_)
    · refine j_iconst (v := 0) hX dX11_isColumn_26 (by decide) ?_
      exact j_zret hX hE dX11_isColumn_27 (rfl) (⟨false, rfl, ⟨fun q => absurd q (by decide), fun q => absurd q (fun ⟨_, _, _, _, h4, _⟩ => h4 c_9)⟩, rfl⟩) (by decide) (by decide)
    · refine j_iload_n hX dX11_isColumn_12 2 rfl ?_
      refine j_aload_n hX dX11_isColumn_13 0 rfl ?_
      refine j_get (v := .ref (Q 1)) hX hS.1 rfl wf_X11 2 (by decide) lk_X11_13 (fun _ h => h) rfl dX11_isColumn_14 ?_
      refine j_iload_n hX dX11_isColumn_17 1 rfl ?_
      refine j_ialdN hX (show g (Q 1) = some (aI (xK X) 8 (F 1)) from hS.2.1 1 (by decide)) (i) (ei) (hi) (by decide) dX11_isColumn_18 ?_
      refine j_icmp_ge hX 26 dX11_isColumn_19 (by decide) (fun c_19 => ?_) (fun c_19 => ?_)
      · refine j_iconst (v := 0) hX dX11_isColumn_26 (by decide) ?_
        exact j_zret hX hE dX11_isColumn_27 (rfl) (⟨false, rfl, ⟨fun q => absurd q (by decide), fun q => absurd q (fun ⟨j, h1, h2, h3, h4, h5⟩ => Int32.not_lt.mpr c_19 (by rw [(nI_eq (by omega) (by omega)).mp (ei.symm.trans h2)]; exact h5))⟩, rfl⟩) (by decide) (by decide)
      · refine j_iconst (v := 1) hX dX11_isColumn_22 (by decide) ?_
        refine j_goto hX 27 dX11_isColumn_23 (by decide) ?_
        exact j_zret hX hE dX11_isColumn_27 (rfl) (⟨true, rfl, ⟨fun _ => ⟨i, hi, ei, hk9, c_9, Int32.not_le.mp c_19⟩, fun _ => rfl⟩, rfl⟩) (by decide) (by decide)

set_option maxRecDepth 20000 in
set_option maxHeartbeats 600000 in
theorem c_X11_setRow (l : Launch) (K : Cst) (g : Wd) (m : Nat) (Q : Nat → Nat) (th oc fi : Int32) (F : Nat → Nat → Int32) (hS : RS K g m Q th oc fi F) (a b c d : Int32) : Ct l K yX11_setRow cX11_setRow 5 none 0 [.ref m, .int a, .int b, .int c, .int d] g (fun v g' => v = none ∧ ∃ F', RS K g' m Q th oc fi F' ∧ (∀ j, j ≠ 14 → F' j = F j) ∧ rowAt (F' 14) 0 = (a, b, c, d)) (fun _ _ => False) 0 0 := by
  refine ct_of (by decide) (Nat.le_of_ble_eq_true rfl) ?_
  intro X hl hK hX hE hn hL hR hm
  subst hl; subst hK
  show J X 0 0 g 0 [(0, .ref m), (1, .int a), (2, .int b), (3, .int c), (4, .int d)] []
  refine j_aload_n hX dX11_setRow_0 0 rfl ?_
  refine j_get (v := .ref (Q 14)) hX hS.1 rfl wf_X11 17 (by decide) lk_X11_53 (fun _ h => h) rfl dX11_setRow_1 ?_
  refine j_iconst (v := nI 0) hX dX11_setRow_4 (by decide) ?_
  refine j_iload_n hX dX11_setRow_5 1 rfl ?_
  refine j_iastN hX (show g (Q 14) = some (aI (xK X) 4 (F 14)) from hS.2.1 14 (by decide)) (0) (rfl) (by decide) (by decide) dX11_setRow_6 ?_
  obtain ⟨g1, eg1⟩ : ∃ z : Wd, z = up g (Q 14) (aI (xK X) 4 (upd (F 14) (0) a)) := ⟨_, rfl⟩
  refine j_w eg1.symm ?_
  obtain ⟨F1, eF1⟩ : ∃ z, z = fu F 14 (upd (F 14) (0) a) := ⟨_, rfl⟩
  have hS1 : RS (xK X) g1 m Q th oc fi F1 := by rw [eg1, eF1]; exact hS.put 14 (by decide) _
  refine j_aload_n hX dX11_setRow_7 0 rfl ?_
  refine j_get (v := .ref (Q 14)) hX hS1.1 rfl wf_X11 17 (by decide) lk_X11_53 (fun _ h => h) rfl dX11_setRow_8 ?_
  refine j_iconst (v := nI 1) hX dX11_setRow_11 (by decide) ?_
  refine j_iload_n hX dX11_setRow_12 2 rfl ?_
  refine j_iastN hX (show g1 (Q 14) = some (aI (xK X) 4 (F1 14)) from hS1.2.1 14 (by decide)) (1) (rfl) (by decide) (by decide) dX11_setRow_13 ?_
  obtain ⟨g2, eg2⟩ : ∃ z : Wd, z = up g1 (Q 14) (aI (xK X) 4 (upd (F1 14) (1) b)) := ⟨_, rfl⟩
  refine j_w eg2.symm ?_
  obtain ⟨F2, eF2⟩ : ∃ z, z = fu F1 14 (upd (F1 14) (1) b) := ⟨_, rfl⟩
  have hS2 : RS (xK X) g2 m Q th oc fi F2 := by rw [eg2, eF2]; exact hS1.put 14 (by decide) _
  refine j_aload_n hX dX11_setRow_14 0 rfl ?_
  refine j_get (v := .ref (Q 14)) hX hS2.1 rfl wf_X11 17 (by decide) lk_X11_53 (fun _ h => h) rfl dX11_setRow_15 ?_
  refine j_iconst (v := nI 2) hX dX11_setRow_18 (by decide) ?_
  refine j_iload_n hX dX11_setRow_19 3 rfl ?_
  refine j_iastN hX (show g2 (Q 14) = some (aI (xK X) 4 (F2 14)) from hS2.2.1 14 (by decide)) (2) (rfl) (by decide) (by decide) dX11_setRow_20 ?_
  obtain ⟨g3, eg3⟩ : ∃ z : Wd, z = up g2 (Q 14) (aI (xK X) 4 (upd (F2 14) (2) c)) := ⟨_, rfl⟩
  refine j_w eg3.symm ?_
  obtain ⟨F3, eF3⟩ : ∃ z, z = fu F2 14 (upd (F2 14) (2) c) := ⟨_, rfl⟩
  have hS3 : RS (xK X) g3 m Q th oc fi F3 := by rw [eg3, eF3]; exact hS2.put 14 (by decide) _
  refine j_aload_n hX dX11_setRow_21 0 rfl ?_
  refine j_get (v := .ref (Q 14)) hX hS3.1 rfl wf_X11 17 (by decide) lk_X11_53 (fun _ h => h) rfl dX11_setRow_22 ?_
  refine j_iconst (v := nI 3) hX dX11_setRow_25 (by decide) ?_
  refine j_iload hX dX11_setRow_26 4 rfl ?_
  refine j_iastN hX (show g3 (Q 14) = some (aI (xK X) 4 (F3 14)) from hS3.2.1 14 (by decide)) (3) (rfl) (by decide) (by decide) dX11_setRow_28 ?_
  obtain ⟨g4, eg4⟩ : ∃ z : Wd, z = up g3 (Q 14) (aI (xK X) 4 (upd (F3 14) (3) d)) := ⟨_, rfl⟩
  refine j_w eg4.symm ?_
  obtain ⟨F4, eF4⟩ : ∃ z, z = fu F3 14 (upd (F3 14) (3) d) := ⟨_, rfl⟩
  have hS4 : RS (xK X) g4 m Q th oc fi F4 := by rw [eg4, eF4]; exact hS3.put 14 (by decide) _
  exact j_vret hX hE dX11_setRow_29 (⟨rfl, F4, hS4, fun j hj => by rw [eF4, fu_n hj, eF3, fu_n hj, eF2, fu_n hj, eF1, fu_n hj], by rw [eF4, fu_s, eF3, fu_s, eF2, fu_s, eF1, fu_s]; simp [rowAt, upd]⟩) (by decide) (by decide)

set_option maxRecDepth 20000 in
set_option maxHeartbeats 600000 in
theorem c_X11_compares (l : Launch) (K : Cst) (g : Wd) (cm : Nat) (a b : Int32) (hcm : cm ≤ 5) : Ct l K yX11_compares cX11_compares 3 (some .boolean) 0 [.int (nI cm), .int a, .int b] g (fun v g' => v = some (.int (b01 (selH cm a b))) ∧ g = g') (fun _ _ => False) 0 0 := by
  refine ct_of (by decide) (Nat.le_of_ble_eq_true rfl) ?_
  intro X hl hK hX hE hn hL hR hm
  subst hl; subst hK
  show J X 0 0 g 0 [(0, .int (nI cm)), (1, .int a), (2, .int b)] []
  rcases (show cm = 0 ∨ cm = 1 ∨ cm = 2 ∨ cm = 3 ∨ cm = 4 ∨ cm = 5 by omega) with h | h | h | h | h | h <;> subst h
  · show J X 0 0 g 0 [(0, .int (nI 0)), (1, .int a), (2, .int b)] []
    refine j_iload_n hX dX11_compares_0 0 rfl ?_
    refine j_if_ne hX 17 dX11_compares_1 (by decide) (fun c_1 => absurd c_1 (fun q => q rfl)) (fun _ => ?_)
    refine j_iload_n hX dX11_compares_4 1 rfl ?_
    refine j_iload_n hX dX11_compares_5 2 rfl ?_
    refine j_icmp_ne hX 13 dX11_compares_6 (by decide) (fun c_6 => ?_) (fun c_6 => ?_)
    · refine j_iconst (v := 0) hX dX11_compares_13 (by decide) ?_
      refine j_goto hX 99 dX11_compares_14 (by decide) ?_
      exact j_zret hX hE dX11_compares_99 (rfl) (⟨by simp [selH, b01, c_6], rfl⟩) (by decide) (by decide)
    · refine j_iconst (v := 1) hX dX11_compares_9 (by decide) ?_
      refine j_goto hX 99 dX11_compares_10 (by decide) ?_
      exact j_zret hX hE dX11_compares_99 (rfl) (⟨by simp [selH, b01, c_6], rfl⟩) (by decide) (by decide)
  · show J X 0 0 g 0 [(0, .int (nI 1)), (1, .int a), (2, .int b)] []
    refine j_iload_n hX dX11_compares_0 0 rfl ?_
    refine j_if_ne hX 17 dX11_compares_1 (by decide) (fun _ => ?_) (fun c_1 => absurd c_1 (by decide))
    refine j_iload_n hX dX11_compares_17 0 rfl ?_
    refine j_iconst (v := nI 1) hX dX11_compares_18 (by decide) ?_
    refine j_icmp_ne hX 35 dX11_compares_19 (by decide) (fun c_19 => absurd c_19 (fun q => q rfl)) (fun _ => ?_)
    refine j_iload_n hX dX11_compares_22 1 rfl ?_
    refine j_iload_n hX dX11_compares_23 2 rfl ?_
    refine j_icmp_eq hX 31 dX11_compares_24 (by decide) (fun c_24 => ?_) (fun c_24 => ?_)
    · refine j_iconst (v := 0) hX dX11_compares_31 (by decide) ?_
      refine j_goto hX 99 dX11_compares_32 (by decide) ?_
      exact j_zret hX hE dX11_compares_99 (rfl) (⟨by simp [selH, b01, c_24], rfl⟩) (by decide) (by decide)
    · refine j_iconst (v := 1) hX dX11_compares_27 (by decide) ?_
      refine j_goto hX 99 dX11_compares_28 (by decide) ?_
      exact j_zret hX hE dX11_compares_99 (rfl) (⟨by simp [selH, b01, c_24], rfl⟩) (by decide) (by decide)
  · show J X 0 0 g 0 [(0, .int (nI 2)), (1, .int a), (2, .int b)] []
    refine j_iload_n hX dX11_compares_0 0 rfl ?_
    refine j_if_ne hX 17 dX11_compares_1 (by decide) (fun _ => ?_) (fun c_1 => absurd c_1 (by decide))
    refine j_iload_n hX dX11_compares_17 0 rfl ?_
    refine j_iconst (v := nI 1) hX dX11_compares_18 (by decide) ?_
    refine j_icmp_ne hX 35 dX11_compares_19 (by decide) (fun _ => ?_) (fun c_19 => absurd c_19 (by decide))
    refine j_iload_n hX dX11_compares_35 0 rfl ?_
    refine j_iconst (v := nI 2) hX dX11_compares_36 (by decide) ?_
    refine j_icmp_ne hX 53 dX11_compares_37 (by decide) (fun c_37 => absurd c_37 (fun q => q rfl)) (fun _ => ?_)
    refine j_iload_n hX dX11_compares_40 1 rfl ?_
    refine j_iload_n hX dX11_compares_41 2 rfl ?_
    refine j_icmp_ge hX 49 dX11_compares_42 (by decide) (fun c_42 => ?_) (fun c_42 => ?_)
    · refine j_iconst (v := 0) hX dX11_compares_49 (by decide) ?_
      refine j_goto hX 99 dX11_compares_50 (by decide) ?_
      exact j_zret hX hE dX11_compares_99 (rfl) (⟨by simp [selH, b01, c_42], rfl⟩) (by decide) (by decide)
    · refine j_iconst (v := 1) hX dX11_compares_45 (by decide) ?_
      refine j_goto hX 99 dX11_compares_46 (by decide) ?_
      exact j_zret hX hE dX11_compares_99 (rfl) (⟨by simp [selH, b01, c_42], rfl⟩) (by decide) (by decide)
  · show J X 0 0 g 0 [(0, .int (nI 3)), (1, .int a), (2, .int b)] []
    refine j_iload_n hX dX11_compares_0 0 rfl ?_
    refine j_if_ne hX 17 dX11_compares_1 (by decide) (fun _ => ?_) (fun c_1 => absurd c_1 (by decide))
    refine j_iload_n hX dX11_compares_17 0 rfl ?_
    refine j_iconst (v := nI 1) hX dX11_compares_18 (by decide) ?_
    refine j_icmp_ne hX 35 dX11_compares_19 (by decide) (fun _ => ?_) (fun c_19 => absurd c_19 (by decide))
    refine j_iload_n hX dX11_compares_35 0 rfl ?_
    refine j_iconst (v := nI 2) hX dX11_compares_36 (by decide) ?_
    refine j_icmp_ne hX 53 dX11_compares_37 (by decide) (fun _ => ?_) (fun c_37 => absurd c_37 (by decide))
    refine j_iload_n hX dX11_compares_53 0 rfl ?_
    refine j_iconst (v := nI 3) hX dX11_compares_54 (by decide) ?_
    refine j_icmp_ne hX 71 dX11_compares_55 (by decide) (fun c_55 => absurd c_55 (fun q => q rfl)) (fun _ => ?_)
    refine j_iload_n hX dX11_compares_58 1 rfl ?_
    refine j_iload_n hX dX11_compares_59 2 rfl ?_
    refine j_icmp_lt hX 67 dX11_compares_60 (by decide) (fun c_60 => ?_) (fun c_60 => ?_)
    · refine j_iconst (v := 0) hX dX11_compares_67 (by decide) ?_
      refine j_goto hX 99 dX11_compares_68 (by decide) ?_
      exact j_zret hX hE dX11_compares_99 (rfl) (⟨by simp [selH, b01, c_60], rfl⟩) (by decide) (by decide)
    · refine j_iconst (v := 1) hX dX11_compares_63 (by decide) ?_
      refine j_goto hX 99 dX11_compares_64 (by decide) ?_
      exact j_zret hX hE dX11_compares_99 (rfl) (⟨by simp [selH, b01, c_60], rfl⟩) (by decide) (by decide)
  · show J X 0 0 g 0 [(0, .int (nI 4)), (1, .int a), (2, .int b)] []
    refine j_iload_n hX dX11_compares_0 0 rfl ?_
    refine j_if_ne hX 17 dX11_compares_1 (by decide) (fun _ => ?_) (fun c_1 => absurd c_1 (by decide))
    refine j_iload_n hX dX11_compares_17 0 rfl ?_
    refine j_iconst (v := nI 1) hX dX11_compares_18 (by decide) ?_
    refine j_icmp_ne hX 35 dX11_compares_19 (by decide) (fun _ => ?_) (fun c_19 => absurd c_19 (by decide))
    refine j_iload_n hX dX11_compares_35 0 rfl ?_
    refine j_iconst (v := nI 2) hX dX11_compares_36 (by decide) ?_
    refine j_icmp_ne hX 53 dX11_compares_37 (by decide) (fun _ => ?_) (fun c_37 => absurd c_37 (by decide))
    refine j_iload_n hX dX11_compares_53 0 rfl ?_
    refine j_iconst (v := nI 3) hX dX11_compares_54 (by decide) ?_
    refine j_icmp_ne hX 71 dX11_compares_55 (by decide) (fun _ => ?_) (fun c_55 => absurd c_55 (by decide))
    refine j_iload_n hX dX11_compares_71 0 rfl ?_
    refine j_iconst (v := nI 4) hX dX11_compares_72 (by decide) ?_
    refine j_icmp_ne hX 89 dX11_compares_73 (by decide) (fun c_73 => absurd c_73 (fun q => q rfl)) (fun _ => ?_)
    refine j_iload_n hX dX11_compares_76 1 rfl ?_
    refine j_iload_n hX dX11_compares_77 2 rfl ?_
    refine j_icmp_le hX 85 dX11_compares_78 (by decide) (fun c_78 => ?_) (fun c_78 => ?_)
    · refine j_iconst (v := 0) hX dX11_compares_85 (by decide) ?_
      refine j_goto hX 99 dX11_compares_86 (by decide) ?_
      exact j_zret hX hE dX11_compares_99 (rfl) (⟨by simp [selH, b01, c_78], rfl⟩) (by decide) (by decide)
    · refine j_iconst (v := 1) hX dX11_compares_81 (by decide) ?_
      refine j_goto hX 99 dX11_compares_82 (by decide) ?_
      exact j_zret hX hE dX11_compares_99 (rfl) (⟨by simp [selH, b01, c_78], rfl⟩) (by decide) (by decide)
  · show J X 0 0 g 0 [(0, .int (nI 5)), (1, .int a), (2, .int b)] []
    refine j_iload_n hX dX11_compares_0 0 rfl ?_
    refine j_if_ne hX 17 dX11_compares_1 (by decide) (fun _ => ?_) (fun c_1 => absurd c_1 (by decide))
    refine j_iload_n hX dX11_compares_17 0 rfl ?_
    refine j_iconst (v := nI 1) hX dX11_compares_18 (by decide) ?_
    refine j_icmp_ne hX 35 dX11_compares_19 (by decide) (fun _ => ?_) (fun c_19 => absurd c_19 (by decide))
    refine j_iload_n hX dX11_compares_35 0 rfl ?_
    refine j_iconst (v := nI 2) hX dX11_compares_36 (by decide) ?_
    refine j_icmp_ne hX 53 dX11_compares_37 (by decide) (fun _ => ?_) (fun c_37 => absurd c_37 (by decide))
    refine j_iload_n hX dX11_compares_53 0 rfl ?_
    refine j_iconst (v := nI 3) hX dX11_compares_54 (by decide) ?_
    refine j_icmp_ne hX 71 dX11_compares_55 (by decide) (fun _ => ?_) (fun c_55 => absurd c_55 (by decide))
    refine j_iload_n hX dX11_compares_71 0 rfl ?_
    refine j_iconst (v := nI 4) hX dX11_compares_72 (by decide) ?_
    refine j_icmp_ne hX 89 dX11_compares_73 (by decide) (fun _ => ?_) (fun c_73 => absurd c_73 (by decide))
    refine j_iload_n hX dX11_compares_89 1 rfl ?_
    refine j_iload_n hX dX11_compares_90 2 rfl ?_
    refine j_icmp_gt hX 98 dX11_compares_91 (by decide) (fun c_91 => ?_) (fun c_91 => ?_)
    · refine j_iconst (v := 0) hX dX11_compares_98 (by decide) ?_
      exact j_zret hX hE dX11_compares_99 (rfl) (⟨by simp [selH, b01, c_91], rfl⟩) (by decide) (by decide)
    · refine j_iconst (v := 1) hX dX11_compares_94 (by decide) ?_
      refine j_goto hX 99 dX11_compares_95 (by decide) ?_
      exact j_zret hX hE dX11_compares_99 (rfl) (⟨by simp [selH, b01, c_91], rfl⟩) (by decide) (by decide)

set_option maxRecDepth 20000 in
set_option maxHeartbeats 600000 in
theorem c_X11_same_n (l : Launch) (K : Cst) (g : Wd) (m : Nat) (Q : Nat → Nat) (th oc fi : Int32) (F : Nat → Nat → Int32) (hS : RS K g m Q th oc fi F) (r i j : Nat) : Ct l K yX11_isSameGroup cX11_isSameGroup 5 (some .boolean) 1 [.ref m, .int (nI r), .int (-1), .int (nI i), .int (nI j)] g (fun v g' => v = some (.int (b01 true)) ∧ g = g') (fun _ _ => False) 0 0 := by
  refine ct_of (by decide) (Nat.le_of_ble_eq_true rfl) ?_
  intro X hl hK hX hE hn hL hR hm
  subst hl; subst hK
  show J X 0 0 g 0 [(0, .ref m), (1, .int (nI r)), (2, .int (-1)), (3, .int (nI i)), (4, .int (nI j))] []
  refine j_iload_n hX dX11_isSameGroup_0 2 rfl ?_
  refine j_if_lt hX 22 dX11_isSameGroup_1 (by decide) (fun _ => ?_) (fun c_1 => absurd (by decide) c_1)
  refine j_iconst (v := 1) hX dX11_isSameGroup_22 (by decide) ?_
  refine j_goto hX 27 dX11_isSameGroup_23 (by decide) ?_
  exact j_zret hX hE dX11_isSameGroup_27 (rfl) (⟨rfl, rfl⟩) (by decide) (by decide)

set_option maxRecDepth 20000 in
set_option maxHeartbeats 600000 in
theorem c_X11_same_s (l : Launch) (K : Cst) (g : Wd) (m : Nat) (Q : Nat → Nat) (th oc fi : Int32) (F : Nat → Nat → Int32) (hS : RS K g m Q th oc fi F) (r cb i j : Nat) (hr : r < 8) (hcb : cb < 4) (hi : i < 20) (hj : j < 20) : Ct l K yX11_isSameGroup cX11_isSameGroup 5 (some .boolean) 1 [.ref m, .int (nI r), .int (nI cb), .int (nI i), .int (nI j)] g (fun v g' => v = some (.int (b01 (decide (F 11 (80 * r + 4 * i + cb) = F 11 (80 * r + 4 * j + cb))))) ∧ g = g') (fun _ _ => False) 0 0 := by
  refine ct_of (by decide) (Nat.le_of_ble_eq_true rfl) ?_
  intro X hl hK hX hE hn hL hR hm
  subst hl; subst hK
  show J X 0 0 g 0 [(0, .ref m), (1, .int (nI r)), (2, .int (nI cb)), (3, .int (nI i)), (4, .int (nI j))] []
  refine j_iload_n hX dX11_isSameGroup_0 2 rfl ?_
  refine j_if_lt hX 22 dX11_isSameGroup_1 (by decide) (fun c_1 => absurd c_1 (nI_pos (n := cb) (by omega))) (fun _ => ?_)
  refine j_aload_n hX dX11_isSameGroup_4 0 rfl ?_
  refine j_iload_n hX dX11_isSameGroup_5 1 rfl ?_
  refine j_iload_n hX dX11_isSameGroup_6 3 rfl ?_
  refine j_iload_n hX dX11_isSameGroup_7 2 rfl ?_
  refine j_callV (As := [.int (nI r), .int (nI i), .int (nI cb)]) (rest := []) hX (c_X11_cellOf (xl X) (xK X) g m Q th oc fi F hS r i cb hr hi hcb) hS.1 rfl lk_X11_74 wI_X11_cellOf wV_X11_X11_cellOf wN_X11 wC_X11_cellOf hd_X11_cellOf rfl (by rw [hL]; decide) (by decide) rfl (Nat.le_of_ble_eq_true rfl) dX11_isSameGroup_8 (by rw [hR]; decide) (by rw [hR]; decide) jx_no ?_
  rintro _ _ ⟨rfl, rfl⟩
  show J X 0 0 g 11 [(0, .ref m), (1, .int (nI r)), (2, .int (nI cb)), (3, .int (nI i)), (4, .int (nI j))] [.int (F 11 (80 * r + 4 * i + cb))]
  refine j_aload_n hX dX11_isSameGroup_11 0 rfl ?_
  refine j_iload_n hX dX11_isSameGroup_12 1 rfl ?_
  refine j_iload hX dX11_isSameGroup_13 4 rfl ?_
  refine j_iload_n hX dX11_isSameGroup_15 2 rfl ?_
  refine j_callV (As := [.int (nI r), .int (nI j), .int (nI cb)]) (rest := [.int (F 11 (80 * r + 4 * i + cb))]) hX (c_X11_cellOf (xl X) (xK X) g m Q th oc fi F hS r j cb hr hj hcb) hS.1 rfl lk_X11_74 wI_X11_cellOf wV_X11_X11_cellOf wN_X11 wC_X11_cellOf hd_X11_cellOf rfl (by rw [hL]; decide) (by decide) rfl (Nat.le_of_ble_eq_true rfl) dX11_isSameGroup_16 (by rw [hR]; decide) (by rw [hR]; decide) jx_no ?_
  rintro _ _ ⟨rfl, rfl⟩
  show J X 0 0 g 19 [(0, .ref m), (1, .int (nI r)), (2, .int (nI cb)), (3, .int (nI i)), (4, .int (nI j))] [.int (F 11 (80 * r + 4 * j + cb)), .int (F 11 (80 * r + 4 * i + cb))]
  refine j_icmp_ne hX 26 dX11_isSameGroup_19 (by decide) (fun c_19 => ?_) (fun c_19 => ?_)
  · refine j_iconst (v := 0) hX dX11_isSameGroup_26 (by decide) ?_
    exact j_zret hX hE dX11_isSameGroup_27 (rfl) (⟨by simp [b01, c_19], rfl⟩) (by decide) (by decide)
  · refine j_iconst (v := 1) hX dX11_isSameGroup_22 (by decide) ?_
    refine j_goto hX 27 dX11_isSameGroup_23 (by decide) ?_
    exact j_zret hX hE dX11_isSameGroup_27 (rfl) (⟨by simp [b01, c_19], rfl⟩) (by decide) (by decide)

