set_option maxRecDepth 20000 in
set_option maxHeartbeats 600000 in
theorem c_L_table (l : Launch) (K : Cst) (g : Wd) (hlt : l.stackTraces = false) (x : Nat) (A : Ab) (Y : Lt) (ch : Nat → Int32) (N : Nat → Bg) (hC : CS K g x A Y ch (fun _ => 0) N) (hI : Inv A) (p0 p1 : Int32) : CtH l K yL_table cL_table 4 (some .int) [(0, 6, 9, 13), (0, 6, 12, 15), (0, 6, 15, 17)] 10 [.ref x, .int p0, .int p1] g (fun v g' => ∃ k A', v = some (.int (nI k)) ∧ (tabO A p0 p1) k A' ∧ CSx K g' x A') (fun _ _ => False) 3 18 := by
  refine ctH_of (by decide) (Nat.le_of_ble_eq_true rfl) ?_
  intro X hl hK hX hE hT hn hL hR
  subst hl; subst hK
  show J X 0 0 g 0 [(0, .ref x), (1, .int p0), (2, .int p1)] []
  have KX : ∀ E g9, XG (xK X) x (tabO A p0 p1) E g9 → JX X (0 + 3) (0 + 18) g9 3 [(0, .ref x), (1, .int p0), (2, .int p1)] [] E := by
    rintro E g9 ⟨k, A1, ⟨hk1, hk4⟩, rfl, hO, hCx⟩
    rcases (show k = 1 ∨ k = 2 ∨ k = 3 ∨ k = 4 by omega) with h | h | h | h <;> subst h
    · refine jx_catch (E := "java/lang/IndexOutOfBoundsException") hX hT [] [(0, 6, 12, 15), (0, 6, 15, 17)] (0, 6, 9, 13) rfl (fun z hz => by cases hz) (by decide) (by decide) (by decide) lk_L_13 nc_0 (fun q => ?_)
      show J X 3 18 g9 9 [(0, .ref x), (1, .int p0), (2, .int p1)] [.ref q]
      refine j_astore_n (lv' := [(3, .ref q), (0, .ref x), (1, .int p0), (2, .int p1)]) hX dL_table_9 (by rw [hn]; decide) rfl ?_
      refine j_iconst (v := nI 1) hX dL_table_10 (by decide) ?_
      exact j_iretH hX hE dL_table_11 (⟨1, A1, rfl, hO, hCx⟩) (by decide) (by decide)
    · refine jx_catch (E := "java/lang/IllegalStateException") hX hT [(0, 6, 9, 13)] [(0, 6, 15, 17)] (0, 6, 12, 15) rfl (fun z hz => by
          simp only [List.mem_cons, List.not_mem_nil, or_false] at hz
          rcases hz with rfl
          · exact ⟨by decide, _, lk_L_13, nn_1_0⟩) (by decide) (by decide) (by decide) lk_L_15 nc_1 (fun q => ?_)
      show J X 3 18 g9 12 [(0, .ref x), (1, .int p0), (2, .int p1)] [.ref q]
      refine j_astore_n (lv' := [(3, .ref q), (0, .ref x), (1, .int p0), (2, .int p1)]) hX dL_table_12 (by rw [hn]; decide) rfl ?_
      refine j_iconst (v := nI 2) hX dL_table_13 (by decide) ?_
      exact j_iretH hX hE dL_table_14 (⟨2, A1, rfl, hO, hCx⟩) (by decide) (by decide)
    · refine jx_catch (E := "java/lang/IllegalArgumentException") hX hT [(0, 6, 9, 13), (0, 6, 12, 15)] [] (0, 6, 15, 17) rfl (fun z hz => by
          simp only [List.mem_cons, List.not_mem_nil, or_false] at hz
          rcases hz with rfl | rfl
          · exact ⟨by decide, _, lk_L_13, nn_2_0⟩
          · exact ⟨by decide, _, lk_L_15, nn_2_1⟩) (by decide) (by decide) (by decide) lk_L_17 nc_2 (fun q => ?_)
      show J X 3 18 g9 15 [(0, .ref x), (1, .int p0), (2, .int p1)] [.ref q]
      refine j_astore_n (lv' := [(3, .ref q), (0, .ref x), (1, .int p0), (2, .int p1)]) hX dL_table_15 (by rw [hn]; decide) rfl ?_
      refine j_iconst (v := nI 3) hX dL_table_16 (by decide) ?_
      exact j_iretH hX hE dL_table_17 (⟨3, A1, rfl, hO, hCx⟩) (by decide) (by decide)
    · exact False.elim (by rcases hO with ⟨h, _⟩ | ⟨h, _⟩ | ⟨h, _⟩ | ⟨_, _, _, _, h, _⟩ | ⟨h, _⟩; all_goals first | exact absurd h (by decide) | exact h ⟨(), trivial⟩)
  refine j_aload_n hX dL_table_0 0 rfl ?_
  refine j_iload_n hX dL_table_1 1 rfl ?_
  refine j_iload_n hX dL_table_2 2 rfl ?_
  refine j_callV (As := [.int p0, .int p1]) (rest := []) hX (c_X10_table (xl X) (xK X) g hlt x A Y ch N hC hI p0 p1) hC.1.1 rfl lk_L_7 wI_X10_table wV_X10_X10_table wN_X10 wC_X10_table hd_X10_table rfl (by rw [hL]; decide) (by decide) rfl (Nat.le_of_ble_eq_true rfl) dL_table_3 (by rw [hR]; decide) (by rw [hR]; decide) KX ?_
  rintro _ g1 ⟨rfl, A1, hO, hCx⟩
  show J X 3 18 g1 6 [(0, .ref x), (1, .int p0), (2, .int p1)] []
  refine j_goto hX 18 dL_table_6 (by decide) ?_
  refine j_iconst (v := nI 0) hX dL_table_18 (by decide) ?_
  exact j_iretH hX hE dL_table_19 (⟨0, A1, rfl, hO, hCx⟩) (by decide) (by decide)

set_option maxRecDepth 20000 in
set_option maxHeartbeats 600000 in
theorem c_L_select (l : Launch) (K : Cst) (g : Wd) (hlt : l.stackTraces = false) (x : Nat) (A : Ab) (Y : Lt) (ch : Nat → Int32) (N : Nat → Bg) (hC : CS K g x A Y ch (fun _ => 0) N) (hI : Inv A) (p0 p1 p2 p3 p4 : Int32) (p5 : Bool) : CtH l K yL_select cL_select 8 (some .int) [(0, 13, 16, 13), (0, 13, 20, 15), (0, 13, 24, 17), (0, 13, 28, 23)] 10 [.ref x, .int p0, .int p1, .int p2, .int p3, .int p4, .int (b01 p5)] g (fun v g' => ∃ k A', v = some (.int (nI k)) ∧ (selO A p0 p1 p2 p3 p4 p5) k A' ∧ CSx K g' x A') (fun _ _ => False) 9 54 := by
  refine ctH_of (by decide) (Nat.le_of_ble_eq_true rfl) ?_
  intro X hl hK hX hE hT hn hL hR
  subst hl; subst hK
  show J X 0 0 g 0 [(0, .ref x), (1, .int p0), (2, .int p1), (3, .int p2), (4, .int p3), (5, .int p4), (6, .int (b01 p5))] []
  have KX : ∀ E g9, XG (xK X) x (selO A p0 p1 p2 p3 p4 p5) E g9 → JX X (0 + 9) (0 + 54) g9 10 [(0, .ref x), (1, .int p0), (2, .int p1), (3, .int p2), (4, .int p3), (5, .int p4), (6, .int (b01 p5))] [] E := by
    rintro E g9 ⟨k, A1, ⟨hk1, hk4⟩, rfl, hO, hCx⟩
    rcases (show k = 1 ∨ k = 2 ∨ k = 3 ∨ k = 4 by omega) with h | h | h | h <;> subst h
    · refine jx_catch (E := "java/lang/IndexOutOfBoundsException") hX hT [] [(0, 13, 20, 15), (0, 13, 24, 17), (0, 13, 28, 23)] (0, 13, 16, 13) rfl (fun z hz => by cases hz) (by decide) (by decide) (by decide) lk_L_13 nc_0 (fun q => ?_)
      show J X 9 54 g9 16 [(0, .ref x), (1, .int p0), (2, .int p1), (3, .int p2), (4, .int p3), (5, .int p4), (6, .int (b01 p5))] [.ref q]
      refine j_astore (lv' := [(7, .ref q), (0, .ref x), (1, .int p0), (2, .int p1), (3, .int p2), (4, .int p3), (5, .int p4), (6, .int (b01 p5))]) hX dL_select_16 (by rw [hn]; decide) rfl ?_
      refine j_iconst (v := nI 1) hX dL_select_18 (by decide) ?_
      exact j_iretH hX hE dL_select_19 (⟨1, A1, rfl, hO, hCx⟩) (by decide) (by decide)
    · refine jx_catch (E := "java/lang/IllegalStateException") hX hT [(0, 13, 16, 13)] [(0, 13, 24, 17), (0, 13, 28, 23)] (0, 13, 20, 15) rfl (fun z hz => by
          simp only [List.mem_cons, List.not_mem_nil, or_false] at hz
          rcases hz with rfl
          · exact ⟨by decide, _, lk_L_13, nn_1_0⟩) (by decide) (by decide) (by decide) lk_L_15 nc_1 (fun q => ?_)
      show J X 9 54 g9 20 [(0, .ref x), (1, .int p0), (2, .int p1), (3, .int p2), (4, .int p3), (5, .int p4), (6, .int (b01 p5))] [.ref q]
      refine j_astore (lv' := [(7, .ref q), (0, .ref x), (1, .int p0), (2, .int p1), (3, .int p2), (4, .int p3), (5, .int p4), (6, .int (b01 p5))]) hX dL_select_20 (by rw [hn]; decide) rfl ?_
      refine j_iconst (v := nI 2) hX dL_select_22 (by decide) ?_
      exact j_iretH hX hE dL_select_23 (⟨2, A1, rfl, hO, hCx⟩) (by decide) (by decide)
    · refine jx_catch (E := "java/lang/IllegalArgumentException") hX hT [(0, 13, 16, 13), (0, 13, 20, 15)] [(0, 13, 28, 23)] (0, 13, 24, 17) rfl (fun z hz => by
          simp only [List.mem_cons, List.not_mem_nil, or_false] at hz
          rcases hz with rfl | rfl
          · exact ⟨by decide, _, lk_L_13, nn_2_0⟩
          · exact ⟨by decide, _, lk_L_15, nn_2_1⟩) (by decide) (by decide) (by decide) lk_L_17 nc_2 (fun q => ?_)
      show J X 9 54 g9 24 [(0, .ref x), (1, .int p0), (2, .int p1), (3, .int p2), (4, .int p3), (5, .int p4), (6, .int (b01 p5))] [.ref q]
      refine j_astore (lv' := [(7, .ref q), (0, .ref x), (1, .int p0), (2, .int p1), (3, .int p2), (4, .int p3), (5, .int p4), (6, .int (b01 p5))]) hX dL_select_24 (by rw [hn]; decide) rfl ?_
      refine j_iconst (v := nI 3) hX dL_select_26 (by decide) ?_
      exact j_iretH hX hE dL_select_27 (⟨3, A1, rfl, hO, hCx⟩) (by decide) (by decide)
    · refine jx_catch (E := "java/lang/UnsupportedOperationException") hX hT [(0, 13, 16, 13), (0, 13, 20, 15), (0, 13, 24, 17)] [] (0, 13, 28, 23) rfl (fun z hz => by
          simp only [List.mem_cons, List.not_mem_nil, or_false] at hz
          rcases hz with rfl | rfl | rfl
          · exact ⟨by decide, _, lk_L_13, nn_3_0⟩
          · exact ⟨by decide, _, lk_L_15, nn_3_1⟩
          · exact ⟨by decide, _, lk_L_17, nn_3_2⟩) (by decide) (by decide) (by decide) lk_L_23 nc_3 (fun q => ?_)
      show J X 9 54 g9 28 [(0, .ref x), (1, .int p0), (2, .int p1), (3, .int p2), (4, .int p3), (5, .int p4), (6, .int (b01 p5))] [.ref q]
      refine j_astore (lv' := [(7, .ref q), (0, .ref x), (1, .int p0), (2, .int p1), (3, .int p2), (4, .int p3), (5, .int p4), (6, .int (b01 p5))]) hX dL_select_28 (by rw [hn]; decide) rfl ?_
      refine j_iconst (v := nI 4) hX dL_select_30 (by decide) ?_
      exact j_iretH hX hE dL_select_31 (⟨4, A1, rfl, hO, hCx⟩) (by decide) (by decide)
  refine j_aload_n hX dL_select_0 0 rfl ?_
  refine j_iload_n hX dL_select_1 1 rfl ?_
  refine j_iload_n hX dL_select_2 2 rfl ?_
  refine j_iload_n hX dL_select_3 3 rfl ?_
  refine j_iload hX dL_select_4 4 rfl ?_
  refine j_iload hX dL_select_6 5 rfl ?_
  refine j_iload hX dL_select_8 6 rfl ?_
  refine j_callV (As := [.int p0, .int p1, .int p2, .int p3, .int p4, .int (b01 p5)]) (rest := []) hX (c_X10_select (xl X) (xK X) g hlt x A Y ch N hC hI p0 p1 p2 p3 p4 p5) hC.1.1 rfl lk_L_19 wI_X10_select wV_X10_X10_select wN_X10 wC_X10_select hd_X10_select rfl (by rw [hL]; decide) (by decide) rfl (Nat.le_of_ble_eq_true rfl) dL_select_10 (by rw [hR]; decide) (by rw [hR]; decide) KX ?_
  rintro _ g1 ⟨rfl, A1, hO, hCx⟩
  show J X 9 54 g1 13 [(0, .ref x), (1, .int p0), (2, .int p1), (3, .int p2), (4, .int p3), (5, .int p4), (6, .int (b01 p5))] []
  refine j_goto hX 32 dL_select_13 (by decide) ?_
  refine j_iconst (v := nI 0) hX dL_select_32 (by decide) ?_
  exact j_iretH hX hE dL_select_33 (⟨0, A1, rfl, hO, hCx⟩) (by decide) (by decide)

set_option maxRecDepth 20000 in
set_option maxHeartbeats 600000 in
theorem c_L_columns (l : Launch) (K : Cst) (g : Wd) (hlt : l.stackTraces = false) (x : Nat) (A : Ab) (Y : Lt) (ch : Nat → Int32) (N : Nat → Bg) (hC : CS K g x A Y ch (fun _ => 0) N) (hI : Inv A) (p0 p1 p2 p3 p4 p5 : Int32) : CtH l K yL_columns cL_columns 8 (some .int) [(0, 13, 16, 13), (0, 13, 20, 15), (0, 13, 24, 17), (0, 13, 28, 23)] 10 [.ref x, .int p0, .int p1, .int p2, .int p3, .int p4, .int p5] g (fun v g' => ∃ k A', v = some (.int (nI k)) ∧ (colO A p0 p1 p2 p3 p4 p5) k A' ∧ CSx K g' x A') (fun _ _ => False) 13 73 := by
  refine ctH_of (by decide) (Nat.le_of_ble_eq_true rfl) ?_
  intro X hl hK hX hE hT hn hL hR
  subst hl; subst hK
  show J X 0 0 g 0 [(0, .ref x), (1, .int p0), (2, .int p1), (3, .int p2), (4, .int p3), (5, .int p4), (6, .int p5)] []
  have KX : ∀ E g9, XG (xK X) x (colO A p0 p1 p2 p3 p4 p5) E g9 → JX X (0 + 13) (0 + 73) g9 10 [(0, .ref x), (1, .int p0), (2, .int p1), (3, .int p2), (4, .int p3), (5, .int p4), (6, .int p5)] [] E := by
    rintro E g9 ⟨k, A1, ⟨hk1, hk4⟩, rfl, hO, hCx⟩
    rcases (show k = 1 ∨ k = 2 ∨ k = 3 ∨ k = 4 by omega) with h | h | h | h <;> subst h
    · refine jx_catch (E := "java/lang/IndexOutOfBoundsException") hX hT [] [(0, 13, 20, 15), (0, 13, 24, 17), (0, 13, 28, 23)] (0, 13, 16, 13) rfl (fun z hz => by cases hz) (by decide) (by decide) (by decide) lk_L_13 nc_0 (fun q => ?_)
      show J X 13 73 g9 16 [(0, .ref x), (1, .int p0), (2, .int p1), (3, .int p2), (4, .int p3), (5, .int p4), (6, .int p5)] [.ref q]
      refine j_astore (lv' := [(7, .ref q), (0, .ref x), (1, .int p0), (2, .int p1), (3, .int p2), (4, .int p3), (5, .int p4), (6, .int p5)]) hX dL_columns_16 (by rw [hn]; decide) rfl ?_
      refine j_iconst (v := nI 1) hX dL_columns_18 (by decide) ?_
      exact j_iretH hX hE dL_columns_19 (⟨1, A1, rfl, hO, hCx⟩) (by decide) (by decide)
    · refine jx_catch (E := "java/lang/IllegalStateException") hX hT [(0, 13, 16, 13)] [(0, 13, 24, 17), (0, 13, 28, 23)] (0, 13, 20, 15) rfl (fun z hz => by
          simp only [List.mem_cons, List.not_mem_nil, or_false] at hz
          rcases hz with rfl
          · exact ⟨by decide, _, lk_L_13, nn_1_0⟩) (by decide) (by decide) (by decide) lk_L_15 nc_1 (fun q => ?_)
      show J X 13 73 g9 20 [(0, .ref x), (1, .int p0), (2, .int p1), (3, .int p2), (4, .int p3), (5, .int p4), (6, .int p5)] [.ref q]
      refine j_astore (lv' := [(7, .ref q), (0, .ref x), (1, .int p0), (2, .int p1), (3, .int p2), (4, .int p3), (5, .int p4), (6, .int p5)]) hX dL_columns_20 (by rw [hn]; decide) rfl ?_
      refine j_iconst (v := nI 2) hX dL_columns_22 (by decide) ?_
      exact j_iretH hX hE dL_columns_23 (⟨2, A1, rfl, hO, hCx⟩) (by decide) (by decide)
    · refine jx_catch (E := "java/lang/IllegalArgumentException") hX hT [(0, 13, 16, 13), (0, 13, 20, 15)] [(0, 13, 28, 23)] (0, 13, 24, 17) rfl (fun z hz => by
          simp only [List.mem_cons, List.not_mem_nil, or_false] at hz
          rcases hz with rfl | rfl
          · exact ⟨by decide, _, lk_L_13, nn_2_0⟩
          · exact ⟨by decide, _, lk_L_15, nn_2_1⟩) (by decide) (by decide) (by decide) lk_L_17 nc_2 (fun q => ?_)
      show J X 13 73 g9 24 [(0, .ref x), (1, .int p0), (2, .int p1), (3, .int p2), (4, .int p3), (5, .int p4), (6, .int p5)] [.ref q]
      refine j_astore (lv' := [(7, .ref q), (0, .ref x), (1, .int p0), (2, .int p1), (3, .int p2), (4, .int p3), (5, .int p4), (6, .int p5)]) hX dL_columns_24 (by rw [hn]; decide) rfl ?_
      refine j_iconst (v := nI 3) hX dL_columns_26 (by decide) ?_
      exact j_iretH hX hE dL_columns_27 (⟨3, A1, rfl, hO, hCx⟩) (by decide) (by decide)
    · refine jx_catch (E := "java/lang/UnsupportedOperationException") hX hT [(0, 13, 16, 13), (0, 13, 20, 15), (0, 13, 24, 17)] [] (0, 13, 28, 23) rfl (fun z hz => by
          simp only [List.mem_cons, List.not_mem_nil, or_false] at hz
          rcases hz with rfl | rfl | rfl
          · exact ⟨by decide, _, lk_L_13, nn_3_0⟩
          · exact ⟨by decide, _, lk_L_15, nn_3_1⟩
          · exact ⟨by decide, _, lk_L_17, nn_3_2⟩) (by decide) (by decide) (by decide) lk_L_23 nc_3 (fun q => ?_)
      show J X 13 73 g9 28 [(0, .ref x), (1, .int p0), (2, .int p1), (3, .int p2), (4, .int p3), (5, .int p4), (6, .int p5)] [.ref q]
      refine j_astore (lv' := [(7, .ref q), (0, .ref x), (1, .int p0), (2, .int p1), (3, .int p2), (4, .int p3), (5, .int p4), (6, .int p5)]) hX dL_columns_28 (by rw [hn]; decide) rfl ?_
      refine j_iconst (v := nI 4) hX dL_columns_30 (by decide) ?_
      exact j_iretH hX hE dL_columns_31 (⟨4, A1, rfl, hO, hCx⟩) (by decide) (by decide)
  refine j_aload_n hX dL_columns_0 0 rfl ?_
  refine j_iload_n hX dL_columns_1 1 rfl ?_
  refine j_iload_n hX dL_columns_2 2 rfl ?_
  refine j_iload_n hX dL_columns_3 3 rfl ?_
  refine j_iload hX dL_columns_4 4 rfl ?_
  refine j_iload hX dL_columns_6 5 rfl ?_
  refine j_iload hX dL_columns_8 6 rfl ?_
  refine j_callV (As := [.int p0, .int p1, .int p2, .int p3, .int p4, .int p5]) (rest := []) hX (c_X10_columns (xl X) (xK X) g hlt x A Y ch N hC hI p0 p1 p2 p3 p4 p5) hC.1.1 rfl lk_L_25 wI_X10_columns wV_X10_X10_columns wN_X10 wC_X10_columns hd_X10_columns rfl (by rw [hL]; decide) (by decide) rfl (Nat.le_of_ble_eq_true rfl) dL_columns_10 (by rw [hR]; decide) (by rw [hR]; decide) KX ?_
  rintro _ g1 ⟨rfl, A1, hO, hCx⟩
  show J X 13 73 g1 13 [(0, .ref x), (1, .int p0), (2, .int p1), (3, .int p2), (4, .int p3), (5, .int p4), (6, .int p5)] []
  refine j_goto hX 32 dL_columns_13 (by decide) ?_
  refine j_iconst (v := nI 0) hX dL_columns_32 (by decide) ?_
  exact j_iretH hX hE dL_columns_33 (⟨0, A1, rfl, hO, hCx⟩) (by decide) (by decide)

set_option maxRecDepth 20000 in
set_option maxHeartbeats 600000 in
theorem c_L_join (l : Launch) (K : Cst) (g : Wd) (hlt : l.stackTraces = false) (x : Nat) (A : Ab) (Y : Lt) (ch : Nat → Int32) (N : Nat → Bg) (hC : CS K g x A Y ch (fun _ => 0) N) (hI : Inv A) (p0 p1 p2 p3 p4 : Int32) : CtH l K yL_join cL_join 7 (some .int) [(0, 11, 14, 13), (0, 11, 18, 15), (0, 11, 22, 17), (0, 11, 26, 23)] 10 [.ref x, .int p0, .int p1, .int p2, .int p3, .int p4] g (fun v g' => ∃ k A', v = some (.int (nI k)) ∧ (joinO A p0 p1 p2 p3 p4) k A' ∧ CSx K g' x A') (fun _ _ => False) 11 64 := by
  refine ctH_of (by decide) (Nat.le_of_ble_eq_true rfl) ?_
  intro X hl hK hX hE hT hn hL hR
  subst hl; subst hK
  show J X 0 0 g 0 [(0, .ref x), (1, .int p0), (2, .int p1), (3, .int p2), (4, .int p3), (5, .int p4)] []
  have KX : ∀ E g9, XG (xK X) x (joinO A p0 p1 p2 p3 p4) E g9 → JX X (0 + 11) (0 + 64) g9 8 [(0, .ref x), (1, .int p0), (2, .int p1), (3, .int p2), (4, .int p3), (5, .int p4)] [] E := by
    rintro E g9 ⟨k, A1, ⟨hk1, hk4⟩, rfl, hO, hCx⟩
    rcases (show k = 1 ∨ k = 2 ∨ k = 3 ∨ k = 4 by omega) with h | h | h | h <;> subst h
    · refine jx_catch (E := "java/lang/IndexOutOfBoundsException") hX hT [] [(0, 11, 18, 15), (0, 11, 22, 17), (0, 11, 26, 23)] (0, 11, 14, 13) rfl (fun z hz => by cases hz) (by decide) (by decide) (by decide) lk_L_13 nc_0 (fun q => ?_)
      show J X 11 64 g9 14 [(0, .ref x), (1, .int p0), (2, .int p1), (3, .int p2), (4, .int p3), (5, .int p4)] [.ref q]
      refine j_astore (lv' := [(6, .ref q), (0, .ref x), (1, .int p0), (2, .int p1), (3, .int p2), (4, .int p3), (5, .int p4)]) hX dL_join_14 (by rw [hn]; decide) rfl ?_
      refine j_iconst (v := nI 1) hX dL_join_16 (by decide) ?_
      exact j_iretH hX hE dL_join_17 (⟨1, A1, rfl, hO, hCx⟩) (by decide) (by decide)
    · refine jx_catch (E := "java/lang/IllegalStateException") hX hT [(0, 11, 14, 13)] [(0, 11, 22, 17), (0, 11, 26, 23)] (0, 11, 18, 15) rfl (fun z hz => by
          simp only [List.mem_cons, List.not_mem_nil, or_false] at hz
          rcases hz with rfl
          · exact ⟨by decide, _, lk_L_13, nn_1_0⟩) (by decide) (by decide) (by decide) lk_L_15 nc_1 (fun q => ?_)
      show J X 11 64 g9 18 [(0, .ref x), (1, .int p0), (2, .int p1), (3, .int p2), (4, .int p3), (5, .int p4)] [.ref q]
      refine j_astore (lv' := [(6, .ref q), (0, .ref x), (1, .int p0), (2, .int p1), (3, .int p2), (4, .int p3), (5, .int p4)]) hX dL_join_18 (by rw [hn]; decide) rfl ?_
      refine j_iconst (v := nI 2) hX dL_join_20 (by decide) ?_
      exact j_iretH hX hE dL_join_21 (⟨2, A1, rfl, hO, hCx⟩) (by decide) (by decide)
    · refine jx_catch (E := "java/lang/IllegalArgumentException") hX hT [(0, 11, 14, 13), (0, 11, 18, 15)] [(0, 11, 26, 23)] (0, 11, 22, 17) rfl (fun z hz => by
          simp only [List.mem_cons, List.not_mem_nil, or_false] at hz
          rcases hz with rfl | rfl
          · exact ⟨by decide, _, lk_L_13, nn_2_0⟩
          · exact ⟨by decide, _, lk_L_15, nn_2_1⟩) (by decide) (by decide) (by decide) lk_L_17 nc_2 (fun q => ?_)
      show J X 11 64 g9 22 [(0, .ref x), (1, .int p0), (2, .int p1), (3, .int p2), (4, .int p3), (5, .int p4)] [.ref q]
      refine j_astore (lv' := [(6, .ref q), (0, .ref x), (1, .int p0), (2, .int p1), (3, .int p2), (4, .int p3), (5, .int p4)]) hX dL_join_22 (by rw [hn]; decide) rfl ?_
      refine j_iconst (v := nI 3) hX dL_join_24 (by decide) ?_
      exact j_iretH hX hE dL_join_25 (⟨3, A1, rfl, hO, hCx⟩) (by decide) (by decide)
    · refine jx_catch (E := "java/lang/UnsupportedOperationException") hX hT [(0, 11, 14, 13), (0, 11, 18, 15), (0, 11, 22, 17)] [] (0, 11, 26, 23) rfl (fun z hz => by
          simp only [List.mem_cons, List.not_mem_nil, or_false] at hz
          rcases hz with rfl | rfl | rfl
          · exact ⟨by decide, _, lk_L_13, nn_3_0⟩
          · exact ⟨by decide, _, lk_L_15, nn_3_1⟩
          · exact ⟨by decide, _, lk_L_17, nn_3_2⟩) (by decide) (by decide) (by decide) lk_L_23 nc_3 (fun q => ?_)
      show J X 11 64 g9 26 [(0, .ref x), (1, .int p0), (2, .int p1), (3, .int p2), (4, .int p3), (5, .int p4)] [.ref q]
      refine j_astore (lv' := [(6, .ref q), (0, .ref x), (1, .int p0), (2, .int p1), (3, .int p2), (4, .int p3), (5, .int p4)]) hX dL_join_26 (by rw [hn]; decide) rfl ?_
      refine j_iconst (v := nI 4) hX dL_join_28 (by decide) ?_
      exact j_iretH hX hE dL_join_29 (⟨4, A1, rfl, hO, hCx⟩) (by decide) (by decide)
  refine j_aload_n hX dL_join_0 0 rfl ?_
  refine j_iload_n hX dL_join_1 1 rfl ?_
  refine j_iload_n hX dL_join_2 2 rfl ?_
  refine j_iload_n hX dL_join_3 3 rfl ?_
  refine j_iload hX dL_join_4 4 rfl ?_
  refine j_iload hX dL_join_6 5 rfl ?_
  refine j_callV (As := [.int p0, .int p1, .int p2, .int p3, .int p4]) (rest := []) hX (c_X10_join (xl X) (xK X) g hlt x A Y ch N hC hI p0 p1 p2 p3 p4) hC.1.1 rfl lk_L_29 wI_X10_join wV_X10_X10_join wN_X10 wC_X10_join hd_X10_join rfl (by rw [hL]; decide) (by decide) rfl (Nat.le_of_ble_eq_true rfl) dL_join_8 (by rw [hR]; decide) (by rw [hR]; decide) KX ?_
  rintro _ g1 ⟨rfl, A1, hO, hCx⟩
  show J X 11 64 g1 11 [(0, .ref x), (1, .int p0), (2, .int p1), (3, .int p2), (4, .int p3), (5, .int p4)] []
  refine j_goto hX 30 dL_join_11 (by decide) ?_
  refine j_iconst (v := nI 0) hX dL_join_30 (by decide) ?_
  exact j_iretH hX hE dL_join_31 (⟨0, A1, rfl, hO, hCx⟩) (by decide) (by decide)

set_option maxRecDepth 20000 in
set_option maxHeartbeats 600000 in
theorem c_L_both (l : Launch) (K : Cst) (g : Wd) (hlt : l.stackTraces = false) (x : Nat) (A : Ab) (Y : Lt) (ch : Nat → Int32) (N : Nat → Bg) (hC : CS K g x A Y ch (fun _ => 0) N) (hI : Inv A) (p0 p1 p2 : Int32) (p3 : Bool) : CtH l K yL_both cL_both 6 (some .int) [(0, 9, 12, 13), (0, 9, 16, 15), (0, 9, 20, 17), (0, 9, 24, 23)] 10 [.ref x, .int p0, .int p1, .int p2, .int (b01 p3)] g (fun v g' => ∃ k A', v = some (.int (nI k)) ∧ (bothO A p0 p1 p2 p3) k A' ∧ CSx K g' x A') (fun _ _ => False) 9 50 := by
  refine ctH_of (by decide) (Nat.le_of_ble_eq_true rfl) ?_
  intro X hl hK hX hE hT hn hL hR
  subst hl; subst hK
  show J X 0 0 g 0 [(0, .ref x), (1, .int p0), (2, .int p1), (3, .int p2), (4, .int (b01 p3))] []
  have KX : ∀ E g9, XG (xK X) x (bothO A p0 p1 p2 p3) E g9 → JX X (0 + 9) (0 + 50) g9 6 [(0, .ref x), (1, .int p0), (2, .int p1), (3, .int p2), (4, .int (b01 p3))] [] E := by
    rintro E g9 ⟨k, A1, ⟨hk1, hk4⟩, rfl, hO, hCx⟩
    rcases (show k = 1 ∨ k = 2 ∨ k = 3 ∨ k = 4 by omega) with h | h | h | h <;> subst h
    · refine jx_catch (E := "java/lang/IndexOutOfBoundsException") hX hT [] [(0, 9, 16, 15), (0, 9, 20, 17), (0, 9, 24, 23)] (0, 9, 12, 13) rfl (fun z hz => by cases hz) (by decide) (by decide) (by decide) lk_L_13 nc_0 (fun q => ?_)
      show J X 9 50 g9 12 [(0, .ref x), (1, .int p0), (2, .int p1), (3, .int p2), (4, .int (b01 p3))] [.ref q]
      refine j_astore (lv' := [(5, .ref q), (0, .ref x), (1, .int p0), (2, .int p1), (3, .int p2), (4, .int (b01 p3))]) hX dL_both_12 (by rw [hn]; decide) rfl ?_
      refine j_iconst (v := nI 1) hX dL_both_14 (by decide) ?_
      exact j_iretH hX hE dL_both_15 (⟨1, A1, rfl, hO, hCx⟩) (by decide) (by decide)
    · refine jx_catch (E := "java/lang/IllegalStateException") hX hT [(0, 9, 12, 13)] [(0, 9, 20, 17), (0, 9, 24, 23)] (0, 9, 16, 15) rfl (fun z hz => by
          simp only [List.mem_cons, List.not_mem_nil, or_false] at hz
          rcases hz with rfl
          · exact ⟨by decide, _, lk_L_13, nn_1_0⟩) (by decide) (by decide) (by decide) lk_L_15 nc_1 (fun q => ?_)
      show J X 9 50 g9 16 [(0, .ref x), (1, .int p0), (2, .int p1), (3, .int p2), (4, .int (b01 p3))] [.ref q]
      refine j_astore (lv' := [(5, .ref q), (0, .ref x), (1, .int p0), (2, .int p1), (3, .int p2), (4, .int (b01 p3))]) hX dL_both_16 (by rw [hn]; decide) rfl ?_
      refine j_iconst (v := nI 2) hX dL_both_18 (by decide) ?_
      exact j_iretH hX hE dL_both_19 (⟨2, A1, rfl, hO, hCx⟩) (by decide) (by decide)
    · refine jx_catch (E := "java/lang/IllegalArgumentException") hX hT [(0, 9, 12, 13), (0, 9, 16, 15)] [(0, 9, 24, 23)] (0, 9, 20, 17) rfl (fun z hz => by
          simp only [List.mem_cons, List.not_mem_nil, or_false] at hz
          rcases hz with rfl | rfl
          · exact ⟨by decide, _, lk_L_13, nn_2_0⟩
          · exact ⟨by decide, _, lk_L_15, nn_2_1⟩) (by decide) (by decide) (by decide) lk_L_17 nc_2 (fun q => ?_)
      show J X 9 50 g9 20 [(0, .ref x), (1, .int p0), (2, .int p1), (3, .int p2), (4, .int (b01 p3))] [.ref q]
      refine j_astore (lv' := [(5, .ref q), (0, .ref x), (1, .int p0), (2, .int p1), (3, .int p2), (4, .int (b01 p3))]) hX dL_both_20 (by rw [hn]; decide) rfl ?_
      refine j_iconst (v := nI 3) hX dL_both_22 (by decide) ?_
      exact j_iretH hX hE dL_both_23 (⟨3, A1, rfl, hO, hCx⟩) (by decide) (by decide)
    · refine jx_catch (E := "java/lang/UnsupportedOperationException") hX hT [(0, 9, 12, 13), (0, 9, 16, 15), (0, 9, 20, 17)] [] (0, 9, 24, 23) rfl (fun z hz => by
          simp only [List.mem_cons, List.not_mem_nil, or_false] at hz
          rcases hz with rfl | rfl | rfl
          · exact ⟨by decide, _, lk_L_13, nn_3_0⟩
          · exact ⟨by decide, _, lk_L_15, nn_3_1⟩
          · exact ⟨by decide, _, lk_L_17, nn_3_2⟩) (by decide) (by decide) (by decide) lk_L_23 nc_3 (fun q => ?_)
      show J X 9 50 g9 24 [(0, .ref x), (1, .int p0), (2, .int p1), (3, .int p2), (4, .int (b01 p3))] [.ref q]
      refine j_astore (lv' := [(5, .ref q), (0, .ref x), (1, .int p0), (2, .int p1), (3, .int p2), (4, .int (b01 p3))]) hX dL_both_24 (by rw [hn]; decide) rfl ?_
      refine j_iconst (v := nI 4) hX dL_both_26 (by decide) ?_
      exact j_iretH hX hE dL_both_27 (⟨4, A1, rfl, hO, hCx⟩) (by decide) (by decide)
  refine j_aload_n hX dL_both_0 0 rfl ?_
  refine j_iload_n hX dL_both_1 1 rfl ?_
  refine j_iload_n hX dL_both_2 2 rfl ?_
  refine j_iload_n hX dL_both_3 3 rfl ?_
  refine j_iload hX dL_both_4 4 rfl ?_
  refine j_callV (As := [.int p0, .int p1, .int p2, .int (b01 p3)]) (rest := []) hX (c_X10_both (xl X) (xK X) g hlt x A Y ch N hC hI p0 p1 p2 p3) hC.1.1 rfl lk_L_33 wI_X10_both wV_X10_X10_both wN_X10 wC_X10_both hd_X10_both rfl (by rw [hL]; decide) (by decide) rfl (Nat.le_of_ble_eq_true rfl) dL_both_6 (by rw [hR]; decide) (by rw [hR]; decide) KX ?_
  rintro _ g1 ⟨rfl, A1, hO, hCx⟩
  show J X 9 50 g1 9 [(0, .ref x), (1, .int p0), (2, .int p1), (3, .int p2), (4, .int (b01 p3))] []
  refine j_goto hX 28 dL_both_9 (by decide) ?_
  refine j_iconst (v := nI 0) hX dL_both_28 (by decide) ?_
  exact j_iretH hX hE dL_both_29 (⟨0, A1, rfl, hO, hCx⟩) (by decide) (by decide)

set_option maxRecDepth 20000 in
set_option maxHeartbeats 600000 in
theorem c_L_once (l : Launch) (K : Cst) (g : Wd) (hlt : l.stackTraces = false) (x : Nat) (A : Ab) (Y : Lt) (ch : Nat → Int32) (N : Nat → Bg) (hC : CS K g x A Y ch (fun _ => 0) N) (hI : Inv A) (p0 p1 : Int32) : CtH l K yL_once cL_once 4 (some .int) [(0, 6, 9, 13), (0, 6, 12, 15), (0, 6, 15, 23)] 10 [.ref x, .int p0, .int p1] g (fun v g' => ∃ k A', v = some (.int (nI (if k = 4 then 3 else k))) ∧ (onceO A p0 p1) k A' ∧ CSx K g' x A') (fun _ _ => False) 7 38 := by
  refine ctH_of (by decide) (Nat.le_of_ble_eq_true rfl) ?_
  intro X hl hK hX hE hT hn hL hR
  subst hl; subst hK
  show J X 0 0 g 0 [(0, .ref x), (1, .int p0), (2, .int p1)] []
  have KX : ∀ E g9, XG (xK X) x (onceO A p0 p1) E g9 → JX X (0 + 7) (0 + 38) g9 3 [(0, .ref x), (1, .int p0), (2, .int p1)] [] E := by
    rintro E g9 ⟨k, A1, ⟨hk1, hk4⟩, rfl, hO, hCx⟩
    rcases (show k = 1 ∨ k = 2 ∨ k = 3 ∨ k = 4 by omega) with h | h | h | h <;> subst h
    · refine jx_catch (E := "java/lang/IndexOutOfBoundsException") hX hT [] [(0, 6, 12, 15), (0, 6, 15, 23)] (0, 6, 9, 13) rfl (fun z hz => by cases hz) (by decide) (by decide) (by decide) lk_L_13 nc_0 (fun q => ?_)
      show J X 7 38 g9 9 [(0, .ref x), (1, .int p0), (2, .int p1)] [.ref q]
      refine j_astore_n (lv' := [(3, .ref q), (0, .ref x), (1, .int p0), (2, .int p1)]) hX dL_once_9 (by rw [hn]; decide) rfl ?_
      refine j_iconst (v := nI 1) hX dL_once_10 (by decide) ?_
      exact j_iretH hX hE dL_once_11 (⟨1, A1, rfl, hO, hCx⟩) (by decide) (by decide)
    · refine jx_catch (E := "java/lang/IllegalStateException") hX hT [(0, 6, 9, 13)] [(0, 6, 15, 23)] (0, 6, 12, 15) rfl (fun z hz => by
          simp only [List.mem_cons, List.not_mem_nil, or_false] at hz
          rcases hz with rfl
          · exact ⟨by decide, _, lk_L_13, nn_1_0⟩) (by decide) (by decide) (by decide) lk_L_15 nc_1 (fun q => ?_)
      show J X 7 38 g9 12 [(0, .ref x), (1, .int p0), (2, .int p1)] [.ref q]
      refine j_astore_n (lv' := [(3, .ref q), (0, .ref x), (1, .int p0), (2, .int p1)]) hX dL_once_12 (by rw [hn]; decide) rfl ?_
      refine j_iconst (v := nI 2) hX dL_once_13 (by decide) ?_
      exact j_iretH hX hE dL_once_14 (⟨2, A1, rfl, hO, hCx⟩) (by decide) (by decide)
    · exact False.elim (by rcases hO with ⟨h, _⟩ | ⟨h, _⟩ | ⟨_, _, _, h, _⟩ | ⟨h, _⟩ | ⟨h, _⟩; all_goals first | exact absurd h (by decide) | exact h trivial)
    · refine jx_catch (E := "java/lang/UnsupportedOperationException") hX hT [(0, 6, 9, 13), (0, 6, 12, 15)] [] (0, 6, 15, 23) rfl (fun z hz => by
          simp only [List.mem_cons, List.not_mem_nil, or_false] at hz
          rcases hz with rfl | rfl
          · exact ⟨by decide, _, lk_L_13, nn_3_0⟩
          · exact ⟨by decide, _, lk_L_15, nn_3_1⟩) (by decide) (by decide) (by decide) lk_L_23 nc_3 (fun q => ?_)
      show J X 7 38 g9 15 [(0, .ref x), (1, .int p0), (2, .int p1)] [.ref q]
      refine j_astore_n (lv' := [(3, .ref q), (0, .ref x), (1, .int p0), (2, .int p1)]) hX dL_once_15 (by rw [hn]; decide) rfl ?_
      refine j_iconst (v := nI 3) hX dL_once_16 (by decide) ?_
      exact j_iretH hX hE dL_once_17 (⟨4, A1, rfl, hO, hCx⟩) (by decide) (by decide)
  refine j_aload_n hX dL_once_0 0 rfl ?_
  refine j_iload_n hX dL_once_1 1 rfl ?_
  refine j_iload_n hX dL_once_2 2 rfl ?_
  refine j_callV (As := [.int p0, .int p1]) (rest := []) hX (c_X10_once (xl X) (xK X) g hlt x A Y ch N hC hI p0 p1) hC.1.1 rfl lk_L_37 wI_X10_once wV_X10_X10_once wN_X10 wC_X10_once hd_X10_once rfl (by rw [hL]; decide) (by decide) rfl (Nat.le_of_ble_eq_true rfl) dL_once_3 (by rw [hR]; decide) (by rw [hR]; decide) KX ?_
  rintro _ g1 ⟨rfl, A1, hO, hCx⟩
  show J X 7 38 g1 6 [(0, .ref x), (1, .int p0), (2, .int p1)] []
  refine j_goto hX 18 dL_once_6 (by decide) ?_
  refine j_iconst (v := nI 0) hX dL_once_18 (by decide) ?_
  exact j_iretH hX hE dL_once_19 (⟨0, A1, rfl, hO, hCx⟩) (by decide) (by decide)

set_option maxRecDepth 20000 in
set_option maxHeartbeats 600000 in
theorem c_L_group (l : Launch) (K : Cst) (g : Wd) (hlt : l.stackTraces = false) (x : Nat) (A : Ab) (Y : Lt) (ch : Nat → Int32) (N : Nat → Bg) (hC : CS K g x A Y ch (fun _ => 0) N) (hI : Inv A) (p0 p1 p2 p3 p4 : Int32) : CtH l K yL_group cL_group 7 (some .int) [(0, 11, 14, 13), (0, 11, 18, 15), (0, 11, 22, 17), (0, 11, 26, 23)] 10 [.ref x, .int p0, .int p1, .int p2, .int p3, .int p4] g (fun v g' => ∃ k A', v = some (.int (nI k)) ∧ (groupO A p0 p1 p2 p3 p4) k A' ∧ CSx K g' x A') (fun _ _ => False) 9 53 := by
  refine ctH_of (by decide) (Nat.le_of_ble_eq_true rfl) ?_
  intro X hl hK hX hE hT hn hL hR
  subst hl; subst hK
  show J X 0 0 g 0 [(0, .ref x), (1, .int p0), (2, .int p1), (3, .int p2), (4, .int p3), (5, .int p4)] []
  have KX : ∀ E g9, XG (xK X) x (groupO A p0 p1 p2 p3 p4) E g9 → JX X (0 + 9) (0 + 53) g9 8 [(0, .ref x), (1, .int p0), (2, .int p1), (3, .int p2), (4, .int p3), (5, .int p4)] [] E := by
    rintro E g9 ⟨k, A1, ⟨hk1, hk4⟩, rfl, hO, hCx⟩
    rcases (show k = 1 ∨ k = 2 ∨ k = 3 ∨ k = 4 by omega) with h | h | h | h <;> subst h
    · refine jx_catch (E := "java/lang/IndexOutOfBoundsException") hX hT [] [(0, 11, 18, 15), (0, 11, 22, 17), (0, 11, 26, 23)] (0, 11, 14, 13) rfl (fun z hz => by cases hz) (by decide) (by decide) (by decide) lk_L_13 nc_0 (fun q => ?_)
      show J X 9 53 g9 14 [(0, .ref x), (1, .int p0), (2, .int p1), (3, .int p2), (4, .int p3), (5, .int p4)] [.ref q]
      refine j_astore (lv' := [(6, .ref q), (0, .ref x), (1, .int p0), (2, .int p1), (3, .int p2), (4, .int p3), (5, .int p4)]) hX dL_group_14 (by rw [hn]; decide) rfl ?_
      refine j_iconst (v := nI 1) hX dL_group_16 (by decide) ?_
      exact j_iretH hX hE dL_group_17 (⟨1, A1, rfl, hO, hCx⟩) (by decide) (by decide)
    · refine jx_catch (E := "java/lang/IllegalStateException") hX hT [(0, 11, 14, 13)] [(0, 11, 22, 17), (0, 11, 26, 23)] (0, 11, 18, 15) rfl (fun z hz => by
          simp only [List.mem_cons, List.not_mem_nil, or_false] at hz
          rcases hz with rfl
          · exact ⟨by decide, _, lk_L_13, nn_1_0⟩) (by decide) (by decide) (by decide) lk_L_15 nc_1 (fun q => ?_)
      show J X 9 53 g9 18 [(0, .ref x), (1, .int p0), (2, .int p1), (3, .int p2), (4, .int p3), (5, .int p4)] [.ref q]
      refine j_astore (lv' := [(6, .ref q), (0, .ref x), (1, .int p0), (2, .int p1), (3, .int p2), (4, .int p3), (5, .int p4)]) hX dL_group_18 (by rw [hn]; decide) rfl ?_
      refine j_iconst (v := nI 2) hX dL_group_20 (by decide) ?_
      exact j_iretH hX hE dL_group_21 (⟨2, A1, rfl, hO, hCx⟩) (by decide) (by decide)
    · refine jx_catch (E := "java/lang/IllegalArgumentException") hX hT [(0, 11, 14, 13), (0, 11, 18, 15)] [(0, 11, 26, 23)] (0, 11, 22, 17) rfl (fun z hz => by
          simp only [List.mem_cons, List.not_mem_nil, or_false] at hz
          rcases hz with rfl | rfl
          · exact ⟨by decide, _, lk_L_13, nn_2_0⟩
          · exact ⟨by decide, _, lk_L_15, nn_2_1⟩) (by decide) (by decide) (by decide) lk_L_17 nc_2 (fun q => ?_)
      show J X 9 53 g9 22 [(0, .ref x), (1, .int p0), (2, .int p1), (3, .int p2), (4, .int p3), (5, .int p4)] [.ref q]
      refine j_astore (lv' := [(6, .ref q), (0, .ref x), (1, .int p0), (2, .int p1), (3, .int p2), (4, .int p3), (5, .int p4)]) hX dL_group_22 (by rw [hn]; decide) rfl ?_
      refine j_iconst (v := nI 3) hX dL_group_24 (by decide) ?_
      exact j_iretH hX hE dL_group_25 (⟨3, A1, rfl, hO, hCx⟩) (by decide) (by decide)
    · refine jx_catch (E := "java/lang/UnsupportedOperationException") hX hT [(0, 11, 14, 13), (0, 11, 18, 15), (0, 11, 22, 17)] [] (0, 11, 26, 23) rfl (fun z hz => by
          simp only [List.mem_cons, List.not_mem_nil, or_false] at hz
          rcases hz with rfl | rfl | rfl
          · exact ⟨by decide, _, lk_L_13, nn_3_0⟩
          · exact ⟨by decide, _, lk_L_15, nn_3_1⟩
          · exact ⟨by decide, _, lk_L_17, nn_3_2⟩) (by decide) (by decide) (by decide) lk_L_23 nc_3 (fun q => ?_)
      show J X 9 53 g9 26 [(0, .ref x), (1, .int p0), (2, .int p1), (3, .int p2), (4, .int p3), (5, .int p4)] [.ref q]
      refine j_astore (lv' := [(6, .ref q), (0, .ref x), (1, .int p0), (2, .int p1), (3, .int p2), (4, .int p3), (5, .int p4)]) hX dL_group_26 (by rw [hn]; decide) rfl ?_
      refine j_iconst (v := nI 4) hX dL_group_28 (by decide) ?_
      exact j_iretH hX hE dL_group_29 (⟨4, A1, rfl, hO, hCx⟩) (by decide) (by decide)
  refine j_aload_n hX dL_group_0 0 rfl ?_
  refine j_iload_n hX dL_group_1 1 rfl ?_
  refine j_iload_n hX dL_group_2 2 rfl ?_
  refine j_iload_n hX dL_group_3 3 rfl ?_
  refine j_iload hX dL_group_4 4 rfl ?_
  refine j_iload hX dL_group_6 5 rfl ?_
  refine j_callV (As := [.int p0, .int p1, .int p2, .int p3, .int p4]) (rest := []) hX (c_X10_group (xl X) (xK X) g hlt x A Y ch N hC hI p0 p1 p2 p3 p4) hC.1.1 rfl lk_L_40 wI_X10_group wV_X10_X10_group wN_X10 wC_X10_group hd_X10_group rfl (by rw [hL]; decide) (by decide) rfl (Nat.le_of_ble_eq_true rfl) dL_group_8 (by rw [hR]; decide) (by rw [hR]; decide) KX ?_
  rintro _ g1 ⟨rfl, A1, hO, hCx⟩
  show J X 9 53 g1 11 [(0, .ref x), (1, .int p0), (2, .int p1), (3, .int p2), (4, .int p3), (5, .int p4)] []
  refine j_goto hX 30 dL_group_11 (by decide) ?_
  refine j_iconst (v := nI 0) hX dL_group_30 (by decide) ?_
  exact j_iretH hX hE dL_group_31 (⟨0, A1, rfl, hO, hCx⟩) (by decide) (by decide)

set_option maxRecDepth 20000 in
set_option maxHeartbeats 600000 in
theorem c_L_drop (l : Launch) (K : Cst) (g : Wd) (hlt : l.stackTraces = false) (x : Nat) (A : Ab) (Y : Lt) (ch : Nat → Int32) (N : Nat → Bg) (hC : CS K g x A Y ch (fun _ => 0) N) (hI : Inv A) (p0 : Int32) : CtH l K yL_drop cL_drop 3 (some .int) [(0, 5, 8, 13), (0, 5, 11, 15)] 10 [.ref x, .int p0] g (fun v g' => ∃ k A', v = some (.int (nI k)) ∧ (dropO A p0) k A' ∧ CSx K g' x A') (fun _ _ => False) 3 18 := by
  refine ctH_of (by decide) (Nat.le_of_ble_eq_true rfl) ?_
  intro X hl hK hX hE hT hn hL hR
  subst hl; subst hK
  show J X 0 0 g 0 [(0, .ref x), (1, .int p0)] []
  have KX : ∀ E g9, XG (xK X) x (dropO A p0) E g9 → JX X (0 + 3) (0 + 18) g9 2 [(0, .ref x), (1, .int p0)] [] E := by
    rintro E g9 ⟨k, A1, ⟨hk1, hk4⟩, rfl, hO, hCx⟩
    rcases (show k = 1 ∨ k = 2 ∨ k = 3 ∨ k = 4 by omega) with h | h | h | h <;> subst h
    · refine jx_catch (E := "java/lang/IndexOutOfBoundsException") hX hT [] [(0, 5, 11, 15)] (0, 5, 8, 13) rfl (fun z hz => by cases hz) (by decide) (by decide) (by decide) lk_L_13 nc_0 (fun q => ?_)
      show J X 3 18 g9 8 [(0, .ref x), (1, .int p0)] [.ref q]
      refine j_astore_n (lv' := [(2, .ref q), (0, .ref x), (1, .int p0)]) hX dL_drop_8 (by rw [hn]; decide) rfl ?_
      refine j_iconst (v := nI 1) hX dL_drop_9 (by decide) ?_
      exact j_iretH hX hE dL_drop_10 (⟨1, A1, rfl, hO, hCx⟩) (by decide) (by decide)
    · refine jx_catch (E := "java/lang/IllegalStateException") hX hT [(0, 5, 8, 13)] [] (0, 5, 11, 15) rfl (fun z hz => by
          simp only [List.mem_cons, List.not_mem_nil, or_false] at hz
          rcases hz with rfl
          · exact ⟨by decide, _, lk_L_13, nn_1_0⟩) (by decide) (by decide) (by decide) lk_L_15 nc_1 (fun q => ?_)
      show J X 3 18 g9 11 [(0, .ref x), (1, .int p0)] [.ref q]
      refine j_astore_n (lv' := [(2, .ref q), (0, .ref x), (1, .int p0)]) hX dL_drop_11 (by rw [hn]; decide) rfl ?_
      refine j_iconst (v := nI 2) hX dL_drop_12 (by decide) ?_
      exact j_iretH hX hE dL_drop_13 (⟨2, A1, rfl, hO, hCx⟩) (by decide) (by decide)
    · exact False.elim (by rcases hO with ⟨h, _⟩ | ⟨h, _⟩ | ⟨_, _, _, h, _⟩ | ⟨h, _⟩ | ⟨h, _⟩; all_goals first | exact absurd h (by decide) | exact h trivial)
    · exact False.elim (by rcases hO with ⟨h, _⟩ | ⟨h, _⟩ | ⟨h, _⟩ | ⟨_, _, _, _, h, _⟩ | ⟨h, _⟩; all_goals first | exact absurd h (by decide) | exact h ⟨(), trivial⟩)
  refine j_aload_n hX dL_drop_0 0 rfl ?_
  refine j_iload_n hX dL_drop_1 1 rfl ?_
  refine j_callV (As := [.int p0]) (rest := []) hX (c_X10_drop (xl X) (xK X) g hlt x A Y ch N hC hI p0) hC.1.1 rfl lk_L_43 wI_X10_drop wV_X10_X10_drop wN_X10 wC_X10_drop hd_X10_drop rfl (by rw [hL]; decide) (by decide) rfl (Nat.le_of_ble_eq_true rfl) dL_drop_2 (by rw [hR]; decide) (by rw [hR]; decide) KX ?_
  rintro _ g1 ⟨rfl, A1, hO, hCx⟩
  show J X 3 18 g1 5 [(0, .ref x), (1, .int p0)] []
  refine j_goto hX 14 dL_drop_5 (by decide) ?_
  refine j_iconst (v := nI 0) hX dL_drop_14 (by decide) ?_
  exact j_iretH hX hE dL_drop_15 (⟨0, A1, rfl, hO, hCx⟩) (by decide) (by decide)

theorem updL_s (f : Nat → Int64) (m : Nat) (x : Int64) : vp_updL f m x m = x := by simp [vp_updL]
set_option maxRecDepth 20000 in
set_option maxHeartbeats 600000 in
theorem c_L_put (l : Launch) (K : Cst) (g : Wd) (hlt : l.stackTraces = false) (x : Nat) (A : Ab) (Y : Lt) (ch : Nat → Int32) (N : Nat → Bg) (hC : CS K g x A Y ch (fun _ => 0) N) (hI : Inv A) (oo : Nat) (f : Nat → Int64) (ho : g oo = some (aJ K 1 f)) (hko : kF K oo = none) (p0 p1 p2 p3 p4 p5 : Int32) : CtH l K yL_put cL_put 9 (some .int) [(0, 18, 21, 13), (0, 18, 25, 15), (0, 18, 29, 17), (0, 18, 33, 23)] 10 [.ref x, .int p0, .int p1, .int p2, .int p3, .int p4, .int p5, .ref oo] g (fun v g' => ∃ k A' f', v = some (.int (nI k)) ∧ (putO A p0 p1 p2 p3 p4 p5) k A' ∧ CSx K g' x A' ∧ g' oo = some (aJ K 1 f') ∧ (k = 0 → f' 0 = Int32.toInt64 (nI (tms (aB A (vnat p0)) (rowP A p0 p1 p2 p3 p4)) + p5))) (fun _ _ => False) 4 24 := by
  refine ctH_of (by decide) (Nat.le_of_ble_eq_true rfl) ?_
  intro X hl hK hX hE hT hn hL hR
  subst hl; subst hK
  show J X 0 0 g 0 [(0, .ref x), (1, .int p0), (2, .int p1), (3, .int p2), (4, .int p3), (5, .int p4), (6, .int p5), (7, .ref oo)] []
  have hzo : ZN x A Y oo := hC.zn (fun e he => by rw [ho] at he; cases he; exact ⟨_, _, rfl⟩)
  have KX : ∀ E g9, XG (reF (xK X) (frm (ZN x A Y) g)) x (putO A p0 p1 p2 p3 p4 p5) E g9 → JX X (0 + 4) (0 + 24) g9 13 [(0, .ref x), (1, .int p0), (2, .int p1), (3, .int p2), (4, .int p3), (5, .int p4), (6, .int p5), (7, .ref oo)] [.int (nI 0), .ref oo] E := by
    rintro E g9 ⟨k, A1, ⟨hk1, hk4⟩, rfl, hO, Y1, ch1, N1, hC1⟩
    have ho1 := hC1.fr.1 oo _ (frm_get hzo ho)
    rcases (show k = 1 ∨ k = 2 ∨ k = 3 ∨ k = 4 by omega) with h | h | h | h <;> subst h
    · refine jx_catch (E := "java/lang/IndexOutOfBoundsException") hX hT [] [(0, 18, 25, 15), (0, 18, 29, 17), (0, 18, 33, 23)] (0, 18, 21, 13) rfl (fun z hz => by cases hz) (by decide) (by decide) (by decide) lk_L_13 nc_0 (fun q => ?_)
      show J X 4 24 g9 21 [(0, .ref x), (1, .int p0), (2, .int p1), (3, .int p2), (4, .int p3), (5, .int p4), (6, .int p5), (7, .ref oo)] [.ref q]
      refine j_astore (lv' := [(8, .ref q), (0, .ref x), (1, .int p0), (2, .int p1), (3, .int p2), (4, .int p3), (5, .int p4), (6, .int p5), (7, .ref oo)]) hX dL_put_21 (by rw [hn]; decide) rfl ?_
      refine j_iconst (v := nI 1) hX dL_put_23 (by decide) ?_
      exact j_iretH hX hE dL_put_24 (⟨1, A1, f, rfl, hO, ⟨Y1, ch1, N1, hC.back0 hC1⟩, ho1, fun e => absurd e (by decide)⟩) (by decide) (by decide)
    · refine jx_catch (E := "java/lang/IllegalStateException") hX hT [(0, 18, 21, 13)] [(0, 18, 29, 17), (0, 18, 33, 23)] (0, 18, 25, 15) rfl (fun z hz => by
          simp only [List.mem_cons, List.not_mem_nil, or_false] at hz
          rcases hz with rfl
          · exact ⟨by decide, _, lk_L_13, nn_1_0⟩) (by decide) (by decide) (by decide) lk_L_15 nc_1 (fun q => ?_)
      show J X 4 24 g9 25 [(0, .ref x), (1, .int p0), (2, .int p1), (3, .int p2), (4, .int p3), (5, .int p4), (6, .int p5), (7, .ref oo)] [.ref q]
      refine j_astore (lv' := [(8, .ref q), (0, .ref x), (1, .int p0), (2, .int p1), (3, .int p2), (4, .int p3), (5, .int p4), (6, .int p5), (7, .ref oo)]) hX dL_put_25 (by rw [hn]; decide) rfl ?_
      refine j_iconst (v := nI 2) hX dL_put_27 (by decide) ?_
      exact j_iretH hX hE dL_put_28 (⟨2, A1, f, rfl, hO, ⟨Y1, ch1, N1, hC.back0 hC1⟩, ho1, fun e => absurd e (by decide)⟩) (by decide) (by decide)
    · refine jx_catch (E := "java/lang/IllegalArgumentException") hX hT [(0, 18, 21, 13), (0, 18, 25, 15)] [(0, 18, 33, 23)] (0, 18, 29, 17) rfl (fun z hz => by
          simp only [List.mem_cons, List.not_mem_nil, or_false] at hz
          rcases hz with rfl | rfl
          · exact ⟨by decide, _, lk_L_13, nn_2_0⟩
          · exact ⟨by decide, _, lk_L_15, nn_2_1⟩) (by decide) (by decide) (by decide) lk_L_17 nc_2 (fun q => ?_)
      show J X 4 24 g9 29 [(0, .ref x), (1, .int p0), (2, .int p1), (3, .int p2), (4, .int p3), (5, .int p4), (6, .int p5), (7, .ref oo)] [.ref q]
      refine j_astore (lv' := [(8, .ref q), (0, .ref x), (1, .int p0), (2, .int p1), (3, .int p2), (4, .int p3), (5, .int p4), (6, .int p5), (7, .ref oo)]) hX dL_put_29 (by rw [hn]; decide) rfl ?_
      refine j_iconst (v := nI 3) hX dL_put_31 (by decide) ?_
      exact j_iretH hX hE dL_put_32 (⟨3, A1, f, rfl, hO, ⟨Y1, ch1, N1, hC.back0 hC1⟩, ho1, fun e => absurd e (by decide)⟩) (by decide) (by decide)
    · refine jx_catch (E := "java/lang/UnsupportedOperationException") hX hT [(0, 18, 21, 13), (0, 18, 25, 15), (0, 18, 29, 17)] [] (0, 18, 33, 23) rfl (fun z hz => by
          simp only [List.mem_cons, List.not_mem_nil, or_false] at hz
          rcases hz with rfl | rfl | rfl
          · exact ⟨by decide, _, lk_L_13, nn_3_0⟩
          · exact ⟨by decide, _, lk_L_15, nn_3_1⟩
          · exact ⟨by decide, _, lk_L_17, nn_3_2⟩) (by decide) (by decide) (by decide) lk_L_23 nc_3 (fun q => ?_)
      show J X 4 24 g9 33 [(0, .ref x), (1, .int p0), (2, .int p1), (3, .int p2), (4, .int p3), (5, .int p4), (6, .int p5), (7, .ref oo)] [.ref q]
      refine j_astore (lv' := [(8, .ref q), (0, .ref x), (1, .int p0), (2, .int p1), (3, .int p2), (4, .int p3), (5, .int p4), (6, .int p5), (7, .ref oo)]) hX dL_put_33 (by rw [hn]; decide) rfl ?_
      refine j_iconst (v := nI 4) hX dL_put_35 (by decide) ?_
      exact j_iretH hX hE dL_put_36 (⟨4, A1, f, rfl, hO, ⟨Y1, ch1, N1, hC.back0 hC1⟩, ho1, fun e => absurd e (by decide)⟩) (by decide) (by decide)
  refine j_aload hX dL_put_0 7 rfl ?_
  refine j_iconst (v := nI 0) hX dL_put_2 (by decide) ?_
  refine j_aload_n hX dL_put_3 0 rfl ?_
  refine j_iload_n hX dL_put_4 1 rfl ?_
  refine j_iload_n hX dL_put_5 2 rfl ?_
  refine j_iload_n hX dL_put_6 3 rfl ?_
  refine j_iload hX dL_put_7 4 rfl ?_
  refine j_iload hX dL_put_9 5 rfl ?_
  refine j_iload hX dL_put_11 6 rfl ?_
  refine j_callV (As := [.int p0, .int p1, .int p2, .int p3, .int p4, .int p5]) (rest := [.int (nI 0), .ref oo]) hX (Ct.re (c_X10_put (xl X) (reF (xK X) (frm (ZN x A Y) g)) g hlt x A Y ch N hC.all hI p0 p1 p2 p3 p4 p5)) hC.1.1 rfl lk_L_47 wI_X10_put wV_X10_X10_put wN_X10 wC_X10_put hd_X10_put rfl (by rw [hL]; decide) (by decide) rfl (Nat.le_of_ble_eq_true rfl) dL_put_13 (by rw [hR]; decide) (by rw [hR]; decide) KX ?_
  rintro _ g1 ⟨A1, hO, rfl, Y1, ch1, N1, hC1⟩
  have ho1 := hC1.fr.1 oo _ (frm_get hzo ho)
  show J X 4 24 g1 16 [(0, .ref x), (1, .int p0), (2, .int p1), (3, .int p2), (4, .int p3), (5, .int p4), (6, .int p5), (7, .ref oo)] [.int (nI (tms (aB A (vnat p0)) (rowP A p0 p1 p2 p3 p4)) + p5), .int (nI 0), .ref oo]
  refine j_i2l hX dL_put_16 ?_
  refine j_lastN hX ho1 (0) (rfl) (by decide) (by decide) dL_put_17 ?_
  obtain ⟨g2, eg2⟩ : ∃ z : Wd, z = up g1 oo (aJ (xK X) 1 (vp_updL f (0) ((nI (tms (aB A (vnat p0)) (rowP A p0 p1 p2 p3 p4)) + p5).toInt64))) := ⟨_, rfl⟩
  refine j_w eg2.symm ?_
  refine j_goto hX 37 dL_put_18 (by decide) ?_
  refine j_iconst (v := nI 0) hX dL_put_37 (by decide) ?_
  exact j_iretH hX hE dL_put_38 (⟨0, A1, _, rfl, hO, ⟨Y1, ch1, N1, by rw [eg2]; exact hC.back hC1 hzo ho hko _⟩, by rw [eg2]; exact up_s _ _ _, fun _ => updL_s _ _ _⟩) (by decide) (by decide)

set_option maxRecDepth 20000 in
set_option maxHeartbeats 600000 in
theorem c_L_fill (l : Launch) (K : Cst) (g : Wd) (hlt : l.stackTraces = false) (x : Nat) (A : Ab) (Y : Lt) (ch : Nat → Int32) (N : Nat → Bg) (hC : CS K g x A Y ch (fun _ => 0) N) (hI : Inv A) (oo : Nat) (f : Nat → Int64) (ho : g oo = some (aJ K 1 f)) (hko : kF K oo = none) (p0 p1 p2 p3 p4 p5 : Int32) : CtH l K yL_fill cL_fill 9 (some .int) [(0, 18, 21, 13), (0, 18, 25, 15), (0, 18, 29, 17), (0, 18, 33, 23)] 10 [.ref x, .int p0, .int p1, .int p2, .int p3, .int p4, .int p5, .ref oo] g (fun v g' => ∃ k A' f', v = some (.int (nI k)) ∧ (fillO A p0 p1 p2 p3 p4 p5) k A' ∧ CSx K g' x A' ∧ g' oo = some (aJ K 1 f') ∧ (k = 0 → f' 0 = Int32.toInt64 (nI (aB A' (vnat p0)).length))) (fun _ _ => False) 4 24 := by
  refine ctH_of (by decide) (Nat.le_of_ble_eq_true rfl) ?_
  intro X hl hK hX hE hT hn hL hR
  subst hl; subst hK
  show J X 0 0 g 0 [(0, .ref x), (1, .int p0), (2, .int p1), (3, .int p2), (4, .int p3), (5, .int p4), (6, .int p5), (7, .ref oo)] []
  have hzo : ZN x A Y oo := hC.zn (fun e he => by rw [ho] at he; cases he; exact ⟨_, _, rfl⟩)
  have KX : ∀ E g9, XG (reF (xK X) (frm (ZN x A Y) g)) x (fillO A p0 p1 p2 p3 p4 p5) E g9 → JX X (0 + 4) (0 + 24) g9 13 [(0, .ref x), (1, .int p0), (2, .int p1), (3, .int p2), (4, .int p3), (5, .int p4), (6, .int p5), (7, .ref oo)] [.int (nI 0), .ref oo] E := by
    rintro E g9 ⟨k, A1, ⟨hk1, hk4⟩, rfl, hO, Y1, ch1, N1, hC1⟩
    have ho1 := hC1.fr.1 oo _ (frm_get hzo ho)
    rcases (show k = 1 ∨ k = 2 ∨ k = 3 ∨ k = 4 by omega) with h | h | h | h <;> subst h
    · refine jx_catch (E := "java/lang/IndexOutOfBoundsException") hX hT [] [(0, 18, 25, 15), (0, 18, 29, 17), (0, 18, 33, 23)] (0, 18, 21, 13) rfl (fun z hz => by cases hz) (by decide) (by decide) (by decide) lk_L_13 nc_0 (fun q => ?_)
      show J X 4 24 g9 21 [(0, .ref x), (1, .int p0), (2, .int p1), (3, .int p2), (4, .int p3), (5, .int p4), (6, .int p5), (7, .ref oo)] [.ref q]
      refine j_astore (lv' := [(8, .ref q), (0, .ref x), (1, .int p0), (2, .int p1), (3, .int p2), (4, .int p3), (5, .int p4), (6, .int p5), (7, .ref oo)]) hX dL_fill_21 (by rw [hn]; decide) rfl ?_
      refine j_iconst (v := nI 1) hX dL_fill_23 (by decide) ?_
      exact j_iretH hX hE dL_fill_24 (⟨1, A1, f, rfl, hO, ⟨Y1, ch1, N1, hC.back0 hC1⟩, ho1, fun e => absurd e (by decide)⟩) (by decide) (by decide)
    · refine jx_catch (E := "java/lang/IllegalStateException") hX hT [(0, 18, 21, 13)] [(0, 18, 29, 17), (0, 18, 33, 23)] (0, 18, 25, 15) rfl (fun z hz => by
          simp only [List.mem_cons, List.not_mem_nil, or_false] at hz
          rcases hz with rfl
          · exact ⟨by decide, _, lk_L_13, nn_1_0⟩) (by decide) (by decide) (by decide) lk_L_15 nc_1 (fun q => ?_)
      show J X 4 24 g9 25 [(0, .ref x), (1, .int p0), (2, .int p1), (3, .int p2), (4, .int p3), (5, .int p4), (6, .int p5), (7, .ref oo)] [.ref q]
      refine j_astore (lv' := [(8, .ref q), (0, .ref x), (1, .int p0), (2, .int p1), (3, .int p2), (4, .int p3), (5, .int p4), (6, .int p5), (7, .ref oo)]) hX dL_fill_25 (by rw [hn]; decide) rfl ?_
      refine j_iconst (v := nI 2) hX dL_fill_27 (by decide) ?_
      exact j_iretH hX hE dL_fill_28 (⟨2, A1, f, rfl, hO, ⟨Y1, ch1, N1, hC.back0 hC1⟩, ho1, fun e => absurd e (by decide)⟩) (by decide) (by decide)
    · refine jx_catch (E := "java/lang/IllegalArgumentException") hX hT [(0, 18, 21, 13), (0, 18, 25, 15)] [(0, 18, 33, 23)] (0, 18, 29, 17) rfl (fun z hz => by
          simp only [List.mem_cons, List.not_mem_nil, or_false] at hz
          rcases hz with rfl | rfl
          · exact ⟨by decide, _, lk_L_13, nn_2_0⟩
          · exact ⟨by decide, _, lk_L_15, nn_2_1⟩) (by decide) (by decide) (by decide) lk_L_17 nc_2 (fun q => ?_)
      show J X 4 24 g9 29 [(0, .ref x), (1, .int p0), (2, .int p1), (3, .int p2), (4, .int p3), (5, .int p4), (6, .int p5), (7, .ref oo)] [.ref q]
      refine j_astore (lv' := [(8, .ref q), (0, .ref x), (1, .int p0), (2, .int p1), (3, .int p2), (4, .int p3), (5, .int p4), (6, .int p5), (7, .ref oo)]) hX dL_fill_29 (by rw [hn]; decide) rfl ?_
      refine j_iconst (v := nI 3) hX dL_fill_31 (by decide) ?_
      exact j_iretH hX hE dL_fill_32 (⟨3, A1, f, rfl, hO, ⟨Y1, ch1, N1, hC.back0 hC1⟩, ho1, fun e => absurd e (by decide)⟩) (by decide) (by decide)
    · refine jx_catch (E := "java/lang/UnsupportedOperationException") hX hT [(0, 18, 21, 13), (0, 18, 25, 15), (0, 18, 29, 17)] [] (0, 18, 33, 23) rfl (fun z hz => by
          simp only [List.mem_cons, List.not_mem_nil, or_false] at hz
          rcases hz with rfl | rfl | rfl
          · exact ⟨by decide, _, lk_L_13, nn_3_0⟩
          · exact ⟨by decide, _, lk_L_15, nn_3_1⟩
          · exact ⟨by decide, _, lk_L_17, nn_3_2⟩) (by decide) (by decide) (by decide) lk_L_23 nc_3 (fun q => ?_)
      show J X 4 24 g9 33 [(0, .ref x), (1, .int p0), (2, .int p1), (3, .int p2), (4, .int p3), (5, .int p4), (6, .int p5), (7, .ref oo)] [.ref q]
      refine j_astore (lv' := [(8, .ref q), (0, .ref x), (1, .int p0), (2, .int p1), (3, .int p2), (4, .int p3), (5, .int p4), (6, .int p5), (7, .ref oo)]) hX dL_fill_33 (by rw [hn]; decide) rfl ?_
      refine j_iconst (v := nI 4) hX dL_fill_35 (by decide) ?_
      exact j_iretH hX hE dL_fill_36 (⟨4, A1, f, rfl, hO, ⟨Y1, ch1, N1, hC.back0 hC1⟩, ho1, fun e => absurd e (by decide)⟩) (by decide) (by decide)
  refine j_aload hX dL_fill_0 7 rfl ?_
  refine j_iconst (v := nI 0) hX dL_fill_2 (by decide) ?_
  refine j_aload_n hX dL_fill_3 0 rfl ?_
  refine j_iload_n hX dL_fill_4 1 rfl ?_
  refine j_iload_n hX dL_fill_5 2 rfl ?_
  refine j_iload_n hX dL_fill_6 3 rfl ?_
  refine j_iload hX dL_fill_7 4 rfl ?_
  refine j_iload hX dL_fill_9 5 rfl ?_
  refine j_iload hX dL_fill_11 6 rfl ?_
  refine j_callV (As := [.int p0, .int p1, .int p2, .int p3, .int p4, .int p5]) (rest := [.int (nI 0), .ref oo]) hX (Ct.re (c_X10_fill (xl X) (reF (xK X) (frm (ZN x A Y) g)) g hlt x A Y ch N hC.all hI p0 p1 p2 p3 p4 p5)) hC.1.1 rfl lk_L_51 wI_X10_fill wV_X10_X10_fill wN_X10 wC_X10_fill hd_X10_fill rfl (by rw [hL]; decide) (by decide) rfl (Nat.le_of_ble_eq_true rfl) dL_fill_13 (by rw [hR]; decide) (by rw [hR]; decide) KX ?_
  rintro _ g1 ⟨A1, hO, rfl, Y1, ch1, N1, hC1⟩
  have ho1 := hC1.fr.1 oo _ (frm_get hzo ho)
  show J X 4 24 g1 16 [(0, .ref x), (1, .int p0), (2, .int p1), (3, .int p2), (4, .int p3), (5, .int p4), (6, .int p5), (7, .ref oo)] [.int (nI (aB A1 (vnat p0)).length), .int (nI 0), .ref oo]
  refine j_i2l hX dL_fill_16 ?_
  refine j_lastN hX ho1 (0) (rfl) (by decide) (by decide) dL_fill_17 ?_
  obtain ⟨g2, eg2⟩ : ∃ z : Wd, z = up g1 oo (aJ (xK X) 1 (vp_updL f (0) ((nI (aB A1 (vnat p0)).length).toInt64))) := ⟨_, rfl⟩
  refine j_w eg2.symm ?_
  refine j_goto hX 37 dL_fill_18 (by decide) ?_
  refine j_iconst (v := nI 0) hX dL_fill_37 (by decide) ?_
  exact j_iretH hX hE dL_fill_38 (⟨0, A1, _, rfl, hO, ⟨Y1, ch1, N1, by rw [eg2]; exact hC.back hC1 hzo ho hko _⟩, by rw [eg2]; exact up_s _ _ _, fun _ => updL_s _ _ _⟩) (by decide) (by decide)

set_option maxRecDepth 20000 in
set_option maxHeartbeats 600000 in
theorem c_L_width (l : Launch) (K : Cst) (g : Wd) (hlt : l.stackTraces = false) (x : Nat) (A : Ab) (Y : Lt) (ch : Nat → Int32) (N : Nat → Bg) (hC : CS K g x A Y ch (fun _ => 0) N) (hI : Inv A) (oo : Nat) (f : Nat → Int64) (ho : g oo = some (aJ K 1 f)) (hko : kF K oo = none) (p0 : Int32) : CtH l K yL_width cL_width 4 (some .int) [(0, 9, 12, 13)] 10 [.ref x, .int p0, .ref oo] g (fun v g' => ∃ k f', v = some (.int (nI k)) ∧ CSx K g' x A ∧ g' oo = some (aJ K 1 f') ∧ ((k = 0 ∧ (P8 p0) ∧ f' 0 = Int32.toInt64 (nI (aw A (vnat p0)))) ∨ (k = 1 ∧ ¬ (P8 p0)))) (fun _ _ => False) 1 6 := by
  refine ctH_of (by decide) (Nat.le_of_ble_eq_true rfl) ?_
  intro X hl hK hX hE hT hn hL hR
  subst hl; subst hK
  show J X 0 0 g 0 [(0, .ref x), (1, .int p0), (2, .ref oo)] []
  have hzo : ZN x A Y oo := hC.zn (fun e he => by rw [ho] at he; cases he; exact ⟨_, _, rfl⟩)
  have KX : ∀ E g9, XR (reF (xK X) (frm (ZN x A Y) g)) x 1 (P8 p0) A E g9 → JX X (0 + 1) (0 + 6) g9 4 [(0, .ref x), (1, .int p0), (2, .ref oo)] [.int (nI 0), .ref oo] E := by
    rintro E g9 ⟨rfl, hni, Y1, ch1, N1, hC1⟩
    have ho1 := hC1.fr.1 oo _ (frm_get hzo ho)
    refine jx_catch (E := "java/lang/IndexOutOfBoundsException") hX hT [] [] (0, 9, 12, 13) rfl (fun z hz => by cases hz) (by decide) (by decide) (by decide) lk_L_13 nc_0 (fun q => ?_)
    show J X 1 6 g9 12 [(0, .ref x), (1, .int p0), (2, .ref oo)] [.ref q]
    refine j_astore_n (lv' := [(3, .ref q), (0, .ref x), (1, .int p0), (2, .ref oo)]) hX dL_width_12 (by rw [hn]; decide) rfl ?_
    refine j_iconst (v := nI 1) hX dL_width_13 (by decide) ?_
    exact j_iretH hX hE dL_width_14 (⟨1, f, rfl, ⟨Y1, ch1, N1, hC.back0 hC1⟩, ho1, Or.inr ⟨rfl, hni⟩⟩) (by decide) (by decide)
  refine j_aload_n hX dL_width_0 2 rfl ?_
  refine j_iconst (v := nI 0) hX dL_width_1 (by decide) ?_
  refine j_aload_n hX dL_width_2 0 rfl ?_
  refine j_iload_n hX dL_width_3 1 rfl ?_
  refine j_callV (As := [.int p0]) (rest := [.int (nI 0), .ref oo]) hX (Ct.re (c_X10_width (xl X) (reF (xK X) (frm (ZN x A Y) g)) g hlt x A Y ch N hC.all hI p0)) hC.1.1 rfl lk_L_54 wI_X10_width wV_X10_X10_width wN_X10 wC_X10_width hd_X10_width rfl (by rw [hL]; decide) (by decide) rfl (Nat.le_of_ble_eq_true rfl) dL_width_4 (by rw [hR]; decide) (by rw [hR]; decide) KX ?_
  rintro _ g1 ⟨rfl, hin, Y1, ch1, N1, hC1⟩
  have ho1 := hC1.fr.1 oo _ (frm_get hzo ho)
  show J X 1 6 g1 7 [(0, .ref x), (1, .int p0), (2, .ref oo)] [.int (nI (aw A (vnat p0))), .int (nI 0), .ref oo]
  refine j_i2l hX dL_width_7 ?_
  refine j_lastN hX ho1 (0) (rfl) (by decide) (by decide) dL_width_8 ?_
  obtain ⟨g2, eg2⟩ : ∃ z : Wd, z = up g1 oo (aJ (xK X) 1 (vp_updL f (0) ((nI (aw A (vnat p0))).toInt64))) := ⟨_, rfl⟩
  refine j_w eg2.symm ?_
  refine j_goto hX 15 dL_width_9 (by decide) ?_
  refine j_iconst (v := nI 0) hX dL_width_15 (by decide) ?_
  exact j_iretH hX hE dL_width_16 (⟨0, _, rfl, ⟨Y1, ch1, N1, by rw [eg2]; exact hC.back hC1 hzo ho hko _⟩, by rw [eg2]; exact up_s _ _ _, Or.inl ⟨rfl, hin, updL_s _ _ _⟩⟩) (by decide) (by decide)

set_option maxRecDepth 20000 in
set_option maxHeartbeats 600000 in
theorem c_L_rows (l : Launch) (K : Cst) (g : Wd) (hlt : l.stackTraces = false) (x : Nat) (A : Ab) (Y : Lt) (ch : Nat → Int32) (N : Nat → Bg) (hC : CS K g x A Y ch (fun _ => 0) N) (hI : Inv A) (oo : Nat) (f : Nat → Int64) (ho : g oo = some (aJ K 1 f)) (hko : kF K oo = none) (p0 : Int32) : CtH l K yL_rows cL_rows 4 (some .int) [(0, 9, 12, 13)] 10 [.ref x, .int p0, .ref oo] g (fun v g' => ∃ k f', v = some (.int (nI k)) ∧ CSx K g' x A ∧ g' oo = some (aJ K 1 f') ∧ ((k = 0 ∧ (isR A p0) ∧ f' 0 = Int32.toInt64 (nI (aB A (vnat p0)).length)) ∨ (k = 1 ∧ ¬ (isR A p0)))) (fun _ _ => False) 2 12 := by
  refine ctH_of (by decide) (Nat.le_of_ble_eq_true rfl) ?_
  intro X hl hK hX hE hT hn hL hR
  subst hl; subst hK
  show J X 0 0 g 0 [(0, .ref x), (1, .int p0), (2, .ref oo)] []
  have hzo : ZN x A Y oo := hC.zn (fun e he => by rw [ho] at he; cases he; exact ⟨_, _, rfl⟩)
  have KX : ∀ E g9, XR (reF (xK X) (frm (ZN x A Y) g)) x 1 (isR A p0) A E g9 → JX X (0 + 2) (0 + 12) g9 4 [(0, .ref x), (1, .int p0), (2, .ref oo)] [.int (nI 0), .ref oo] E := by
    rintro E g9 ⟨rfl, hni, Y1, ch1, N1, hC1⟩
    have ho1 := hC1.fr.1 oo _ (frm_get hzo ho)
    refine jx_catch (E := "java/lang/IndexOutOfBoundsException") hX hT [] [] (0, 9, 12, 13) rfl (fun z hz => by cases hz) (by decide) (by decide) (by decide) lk_L_13 nc_0 (fun q => ?_)
    show J X 2 12 g9 12 [(0, .ref x), (1, .int p0), (2, .ref oo)] [.ref q]
    refine j_astore_n (lv' := [(3, .ref q), (0, .ref x), (1, .int p0), (2, .ref oo)]) hX dL_rows_12 (by rw [hn]; decide) rfl ?_
    refine j_iconst (v := nI 1) hX dL_rows_13 (by decide) ?_
    exact j_iretH hX hE dL_rows_14 (⟨1, f, rfl, ⟨Y1, ch1, N1, hC.back0 hC1⟩, ho1, Or.inr ⟨rfl, hni⟩⟩) (by decide) (by decide)
  refine j_aload_n hX dL_rows_0 2 rfl ?_
  refine j_iconst (v := nI 0) hX dL_rows_1 (by decide) ?_
  refine j_aload_n hX dL_rows_2 0 rfl ?_
  refine j_iload_n hX dL_rows_3 1 rfl ?_
  refine j_callV (As := [.int p0]) (rest := [.int (nI 0), .ref oo]) hX (Ct.re (c_X10_rows (xl X) (reF (xK X) (frm (ZN x A Y) g)) g hlt x A Y ch N hC.all hI p0)) hC.1.1 rfl lk_L_58 wI_X10_rows wV_X10_X10_rows wN_X10 wC_X10_rows hd_X10_rows rfl (by rw [hL]; decide) (by decide) rfl (Nat.le_of_ble_eq_true rfl) dL_rows_4 (by rw [hR]; decide) (by rw [hR]; decide) KX ?_
  rintro _ g1 ⟨rfl, hin, Y1, ch1, N1, hC1⟩
  have ho1 := hC1.fr.1 oo _ (frm_get hzo ho)
  show J X 2 12 g1 7 [(0, .ref x), (1, .int p0), (2, .ref oo)] [.int (nI (aB A (vnat p0)).length), .int (nI 0), .ref oo]
  refine j_i2l hX dL_rows_7 ?_
  refine j_lastN hX ho1 (0) (rfl) (by decide) (by decide) dL_rows_8 ?_
  obtain ⟨g2, eg2⟩ : ∃ z : Wd, z = up g1 oo (aJ (xK X) 1 (vp_updL f (0) ((nI (aB A (vnat p0)).length).toInt64))) := ⟨_, rfl⟩
  refine j_w eg2.symm ?_
  refine j_goto hX 15 dL_rows_9 (by decide) ?_
  refine j_iconst (v := nI 0) hX dL_rows_15 (by decide) ?_
  exact j_iretH hX hE dL_rows_16 (⟨0, _, rfl, ⟨Y1, ch1, N1, by rw [eg2]; exact hC.back hC1 hzo ho hko _⟩, by rw [eg2]; exact up_s _ _ _, Or.inl ⟨rfl, hin, updL_s _ _ _⟩⟩) (by decide) (by decide)

set_option maxRecDepth 20000 in
set_option maxHeartbeats 600000 in
theorem c_L_size (l : Launch) (K : Cst) (g : Wd) (hlt : l.stackTraces = false) (x : Nat) (A : Ab) (Y : Lt) (ch : Nat → Int32) (N : Nat → Bg) (hC : CS K g x A Y ch (fun _ => 0) N) (hI : Inv A) (oo : Nat) (f : Nat → Int64) (ho : g oo = some (aJ K 1 f)) (hko : kF K oo = none) (p0 : Int32) : CtH l K yL_size cL_size 4 (some .int) [(0, 8, 11, 13)] 10 [.ref x, .int p0, .ref oo] g (fun v g' => ∃ k f', v = some (.int (nI k)) ∧ CSx K g' x A ∧ g' oo = some (aJ K 1 f') ∧ ((k = 0 ∧ (isR A p0) ∧ f' 0 = sizeB (aB A (vnat p0))) ∨ (k = 1 ∧ ¬ (isR A p0)))) (fun _ _ => False) 2 12 := by
  refine ctH_of (by decide) (Nat.le_of_ble_eq_true rfl) ?_
  intro X hl hK hX hE hT hn hL hR
  subst hl; subst hK
  show J X 0 0 g 0 [(0, .ref x), (1, .int p0), (2, .ref oo)] []
  have hzo : ZN x A Y oo := hC.zn (fun e he => by rw [ho] at he; cases he; exact ⟨_, _, rfl⟩)
  have KX : ∀ E g9, XR (reF (xK X) (frm (ZN x A Y) g)) x 1 (isR A p0) A E g9 → JX X (0 + 2) (0 + 12) g9 4 [(0, .ref x), (1, .int p0), (2, .ref oo)] [.int (nI 0), .ref oo] E := by
    rintro E g9 ⟨rfl, hni, Y1, ch1, N1, hC1⟩
    have ho1 := hC1.fr.1 oo _ (frm_get hzo ho)
    refine jx_catch (E := "java/lang/IndexOutOfBoundsException") hX hT [] [] (0, 8, 11, 13) rfl (fun z hz => by cases hz) (by decide) (by decide) (by decide) lk_L_13 nc_0 (fun q => ?_)
    show J X 2 12 g9 11 [(0, .ref x), (1, .int p0), (2, .ref oo)] [.ref q]
    refine j_astore_n (lv' := [(3, .ref q), (0, .ref x), (1, .int p0), (2, .ref oo)]) hX dL_size_11 (by rw [hn]; decide) rfl ?_
    refine j_iconst (v := nI 1) hX dL_size_12 (by decide) ?_
    exact j_iretH hX hE dL_size_13 (⟨1, f, rfl, ⟨Y1, ch1, N1, hC.back0 hC1⟩, ho1, Or.inr ⟨rfl, hni⟩⟩) (by decide) (by decide)
  refine j_aload_n hX dL_size_0 2 rfl ?_
  refine j_iconst (v := nI 0) hX dL_size_1 (by decide) ?_
  refine j_aload_n hX dL_size_2 0 rfl ?_
  refine j_iload_n hX dL_size_3 1 rfl ?_
  refine j_callV (As := [.int p0]) (rest := [.int (nI 0), .ref oo]) hX (Ct.re (c_X10_size (xl X) (reF (xK X) (frm (ZN x A Y) g)) g hlt x A Y ch N hC.all hI p0)) hC.1.1 rfl lk_L_61 wI_X10_size wV_X10_X10_size wN_X10 wC_X10_size hd_X10_size rfl (by rw [hL]; decide) (by decide) rfl (Nat.le_of_ble_eq_true rfl) dL_size_4 (by rw [hR]; decide) (by rw [hR]; decide) KX ?_
  rintro _ g1 ⟨rfl, hin, Y1, ch1, N1, hC1⟩
  have ho1 := hC1.fr.1 oo _ (frm_get hzo ho)
  show J X 2 12 g1 7 [(0, .ref x), (1, .int p0), (2, .ref oo)] [.long (sizeB (aB A (vnat p0))), .int (nI 0), .ref oo]
  refine j_lastN hX ho1 (0) (rfl) (by decide) (by decide) dL_size_7 ?_
  obtain ⟨g2, eg2⟩ : ∃ z : Wd, z = up g1 oo (aJ (xK X) 1 (vp_updL f (0) (sizeB (aB A (vnat p0))))) := ⟨_, rfl⟩
  refine j_w eg2.symm ?_
  refine j_goto hX 14 dL_size_8 (by decide) ?_
  refine j_iconst (v := nI 0) hX dL_size_14 (by decide) ?_
  exact j_iretH hX hE dL_size_15 (⟨0, _, rfl, ⟨Y1, ch1, N1, by rw [eg2]; exact hC.back hC1 hzo ho hko _⟩, by rw [eg2]; exact up_s _ _ _, Or.inl ⟨rfl, hin, updL_s _ _ _⟩⟩) (by decide) (by decide)

set_option maxRecDepth 20000 in
set_option maxHeartbeats 600000 in
theorem c_L_times (l : Launch) (K : Cst) (g : Wd) (hlt : l.stackTraces = false) (x : Nat) (A : Ab) (Y : Lt) (ch : Nat → Int32) (N : Nat → Bg) (hC : CS K g x A Y ch (fun _ => 0) N) (hI : Inv A) (oo : Nat) (f : Nat → Int64) (ho : g oo = some (aJ K 1 f)) (hko : kF K oo = none) (p0 p1 p2 p3 p4 : Int32) : CtH l K yL_times cL_times 8 (some .int) [(0, 16, 19, 13)] 10 [.ref x, .int p0, .int p1, .int p2, .int p3, .int p4, .ref oo] g (fun v g' => ∃ k f', v = some (.int (nI k)) ∧ CSx K g' x A ∧ g' oo = some (aJ K 1 f') ∧ ((k = 0 ∧ (isR A p0) ∧ f' 0 = Int32.toInt64 (nI (tms (aB A (vnat p0)) (truncR (aw A (vnat p0)) (p1, p2, p3, p4))))) ∨ (k = 1 ∧ ¬ (isR A p0)))) (fun _ _ => False) 2 12 := by
  refine ctH_of (by decide) (Nat.le_of_ble_eq_true rfl) ?_
  intro X hl hK hX hE hT hn hL hR
  subst hl; subst hK
  show J X 0 0 g 0 [(0, .ref x), (1, .int p0), (2, .int p1), (3, .int p2), (4, .int p3), (5, .int p4), (6, .ref oo)] []
  have hzo : ZN x A Y oo := hC.zn (fun e he => by rw [ho] at he; cases he; exact ⟨_, _, rfl⟩)
  have KX : ∀ E g9, XR (reF (xK X) (frm (ZN x A Y) g)) x 1 (isR A p0) A E g9 → JX X (0 + 2) (0 + 12) g9 11 [(0, .ref x), (1, .int p0), (2, .int p1), (3, .int p2), (4, .int p3), (5, .int p4), (6, .ref oo)] [.int (nI 0), .ref oo] E := by
    rintro E g9 ⟨rfl, hni, Y1, ch1, N1, hC1⟩
    have ho1 := hC1.fr.1 oo _ (frm_get hzo ho)
    refine jx_catch (E := "java/lang/IndexOutOfBoundsException") hX hT [] [] (0, 16, 19, 13) rfl (fun z hz => by cases hz) (by decide) (by decide) (by decide) lk_L_13 nc_0 (fun q => ?_)
    show J X 2 12 g9 19 [(0, .ref x), (1, .int p0), (2, .int p1), (3, .int p2), (4, .int p3), (5, .int p4), (6, .ref oo)] [.ref q]
    refine j_astore (lv' := [(7, .ref q), (0, .ref x), (1, .int p0), (2, .int p1), (3, .int p2), (4, .int p3), (5, .int p4), (6, .ref oo)]) hX dL_times_19 (by rw [hn]; decide) rfl ?_
    refine j_iconst (v := nI 1) hX dL_times_21 (by decide) ?_
    exact j_iretH hX hE dL_times_22 (⟨1, f, rfl, ⟨Y1, ch1, N1, hC.back0 hC1⟩, ho1, Or.inr ⟨rfl, hni⟩⟩) (by decide) (by decide)
  refine j_aload hX dL_times_0 6 rfl ?_
  refine j_iconst (v := nI 0) hX dL_times_2 (by decide) ?_
  refine j_aload_n hX dL_times_3 0 rfl ?_
  refine j_iload_n hX dL_times_4 1 rfl ?_
  refine j_iload_n hX dL_times_5 2 rfl ?_
  refine j_iload_n hX dL_times_6 3 rfl ?_
  refine j_iload hX dL_times_7 4 rfl ?_
  refine j_iload hX dL_times_9 5 rfl ?_
  refine j_callV (As := [.int p0, .int p1, .int p2, .int p3, .int p4]) (rest := [.int (nI 0), .ref oo]) hX (Ct.re (c_X10_times (xl X) (reF (xK X) (frm (ZN x A Y) g)) g hlt x A Y ch N hC.all hI p0 p1 p2 p3 p4)) hC.1.1 rfl lk_L_65 wI_X10_times wV_X10_X10_times wN_X10 wC_X10_times hd_X10_times rfl (by rw [hL]; decide) (by decide) rfl (Nat.le_of_ble_eq_true rfl) dL_times_11 (by rw [hR]; decide) (by rw [hR]; decide) KX ?_
  rintro _ g1 ⟨rfl, hin, Y1, ch1, N1, hC1⟩
  have ho1 := hC1.fr.1 oo _ (frm_get hzo ho)
  show J X 2 12 g1 14 [(0, .ref x), (1, .int p0), (2, .int p1), (3, .int p2), (4, .int p3), (5, .int p4), (6, .ref oo)] [.int (nI (tms (aB A (vnat p0)) (truncR (aw A (vnat p0)) (p1, p2, p3, p4)))), .int (nI 0), .ref oo]
  refine j_i2l hX dL_times_14 ?_
  refine j_lastN hX ho1 (0) (rfl) (by decide) (by decide) dL_times_15 ?_
  obtain ⟨g2, eg2⟩ : ∃ z : Wd, z = up g1 oo (aJ (xK X) 1 (vp_updL f (0) ((nI (tms (aB A (vnat p0)) (truncR (aw A (vnat p0)) (p1, p2, p3, p4)))).toInt64))) := ⟨_, rfl⟩
  refine j_w eg2.symm ?_
  refine j_goto hX 23 dL_times_16 (by decide) ?_
  refine j_iconst (v := nI 0) hX dL_times_23 (by decide) ?_
  exact j_iretH hX hE dL_times_24 (⟨0, _, rfl, ⟨Y1, ch1, N1, by rw [eg2]; exact hC.back hC1 hzo ho hko _⟩, by rw [eg2]; exact up_s _ _ _, Or.inl ⟨rfl, hin, updL_s _ _ _⟩⟩) (by decide) (by decide)

set_option maxRecDepth 20000 in
set_option maxHeartbeats 600000 in
theorem c_L_cell (l : Launch) (K : Cst) (g : Wd) (hlt : l.stackTraces = false) (x : Nat) (A : Ab) (Y : Lt) (ch : Nat → Int32) (N : Nat → Bg) (hC : CS K g x A Y ch (fun _ => 0) N) (hI : Inv A) (oo : Nat) (f : Nat → Int64) (ho : g oo = some (aJ K 1 f)) (hko : kF K oo = none) (p0 p1 p2 : Int32) : CtH l K yL_cell cL_cell 6 (some .int) [(0, 12, 15, 13)] 10 [.ref x, .int p0, .int p1, .int p2, .ref oo] g (fun v g' => ∃ k f', v = some (.int (nI k)) ∧ CSx K g' x A ∧ g' oo = some (aJ K 1 f') ∧ ((k = 0 ∧ (isR A p0 ∧ (∃ k, k < (aB A (vnat p0)).length ∧ p1 = nI k) ∧ ∃ c, c ≤ aw A (vnat p0) ∧ p2 = nI c) ∧ f' 0 = Int32.toInt64 (if p2 = nI (aw A (vnat p0)) then nI (tmG (aB A (vnat p0)) (vnat p1)) else cellR (rowG (aB A (vnat p0)) (vnat p1)) (vnat p2))) ∨ (k = 1 ∧ ¬ (isR A p0 ∧ (∃ k, k < (aB A (vnat p0)).length ∧ p1 = nI k) ∧ ∃ c, c ≤ aw A (vnat p0) ∧ p2 = nI c)))) (fun _ _ => False) 4 24 := by
  refine ctH_of (by decide) (Nat.le_of_ble_eq_true rfl) ?_
  intro X hl hK hX hE hT hn hL hR
  subst hl; subst hK
  show J X 0 0 g 0 [(0, .ref x), (1, .int p0), (2, .int p1), (3, .int p2), (4, .ref oo)] []
  have hzo : ZN x A Y oo := hC.zn (fun e he => by rw [ho] at he; cases he; exact ⟨_, _, rfl⟩)
  have KX : ∀ E g9, XR (reF (xK X) (frm (ZN x A Y) g)) x 1 (isR A p0 ∧ (∃ k, k < (aB A (vnat p0)).length ∧ p1 = nI k) ∧ ∃ c, c ≤ aw A (vnat p0) ∧ p2 = nI c) A E g9 → JX X (0 + 4) (0 + 24) g9 7 [(0, .ref x), (1, .int p0), (2, .int p1), (3, .int p2), (4, .ref oo)] [.int (nI 0), .ref oo] E := by
    rintro E g9 ⟨rfl, hni, Y1, ch1, N1, hC1⟩
    have ho1 := hC1.fr.1 oo _ (frm_get hzo ho)
    refine jx_catch (E := "java/lang/IndexOutOfBoundsException") hX hT [] [] (0, 12, 15, 13) rfl (fun z hz => by cases hz) (by decide) (by decide) (by decide) lk_L_13 nc_0 (fun q => ?_)
    show J X 4 24 g9 15 [(0, .ref x), (1, .int p0), (2, .int p1), (3, .int p2), (4, .ref oo)] [.ref q]
    refine j_astore (lv' := [(5, .ref q), (0, .ref x), (1, .int p0), (2, .int p1), (3, .int p2), (4, .ref oo)]) hX dL_cell_15 (by rw [hn]; decide) rfl ?_
    refine j_iconst (v := nI 1) hX dL_cell_17 (by decide) ?_
    exact j_iretH hX hE dL_cell_18 (⟨1, f, rfl, ⟨Y1, ch1, N1, hC.back0 hC1⟩, ho1, Or.inr ⟨rfl, hni⟩⟩) (by decide) (by decide)
  refine j_aload hX dL_cell_0 4 rfl ?_
  refine j_iconst (v := nI 0) hX dL_cell_2 (by decide) ?_
  refine j_aload_n hX dL_cell_3 0 rfl ?_
  refine j_iload_n hX dL_cell_4 1 rfl ?_
  refine j_iload_n hX dL_cell_5 2 rfl ?_
  refine j_iload_n hX dL_cell_6 3 rfl ?_
  refine j_callV (As := [.int p0, .int p1, .int p2]) (rest := [.int (nI 0), .ref oo]) hX (Ct.re (c_X10_cell (xl X) (reF (xK X) (frm (ZN x A Y) g)) g hlt x A Y ch N hC.all hI p0 p1 p2)) hC.1.1 rfl lk_L_69 wI_X10_cell wV_X10_X10_cell wN_X10 wC_X10_cell hd_X10_cell rfl (by rw [hL]; decide) (by decide) rfl (Nat.le_of_ble_eq_true rfl) dL_cell_7 (by rw [hR]; decide) (by rw [hR]; decide) KX ?_
  rintro _ g1 ⟨rfl, hin, Y1, ch1, N1, hC1⟩
  have ho1 := hC1.fr.1 oo _ (frm_get hzo ho)
  show J X 4 24 g1 10 [(0, .ref x), (1, .int p0), (2, .int p1), (3, .int p2), (4, .ref oo)] [.int (if p2 = nI (aw A (vnat p0)) then nI (tmG (aB A (vnat p0)) (vnat p1)) else cellR (rowG (aB A (vnat p0)) (vnat p1)) (vnat p2)), .int (nI 0), .ref oo]
  refine j_i2l hX dL_cell_10 ?_
  refine j_lastN hX ho1 (0) (rfl) (by decide) (by decide) dL_cell_11 ?_
  obtain ⟨g2, eg2⟩ : ∃ z : Wd, z = up g1 oo (aJ (xK X) 1 (vp_updL f (0) ((if p2 = nI (aw A (vnat p0)) then nI (tmG (aB A (vnat p0)) (vnat p1)) else cellR (rowG (aB A (vnat p0)) (vnat p1)) (vnat p2)).toInt64))) := ⟨_, rfl⟩
  refine j_w eg2.symm ?_
  refine j_goto hX 19 dL_cell_12 (by decide) ?_
  refine j_iconst (v := nI 0) hX dL_cell_19 (by decide) ?_
  exact j_iretH hX hE dL_cell_20 (⟨0, _, rfl, ⟨Y1, ch1, N1, by rw [eg2]; exact hC.back hC1 hzo ho hko _⟩, by rw [eg2]; exact up_s _ _ _, Or.inl ⟨rfl, hin, updL_s _ _ _⟩⟩) (by decide) (by decide)

set_option maxRecDepth 20000 in
set_option maxHeartbeats 600000 in
theorem c_L_changed (l : Launch) (K : Cst) (g : Wd) (hlt : l.stackTraces = false) (x : Nat) (A : Ab) (Y : Lt) (ch : Nat → Int32) (N : Nat → Bg) (hC : CS K g x A Y ch (fun _ => 0) N) (hI : Inv A) (oo : Nat) (f : Nat → Int64) (ho : g oo = some (aJ K 1 f)) (hko : kF K oo = none) (p0 : Int32) : CtH l K yL_changed cL_changed 4 (some .int) [(0, 9, 12, 13)] 10 [.ref x, .int p0, .ref oo] g (fun v g' => ∃ k f', v = some (.int (nI k)) ∧ CSx K g' x A ∧ g' oo = some (aJ K 1 f') ∧ ((k = 0 ∧ (isR A p0) ∧ f' 0 = Int32.toInt64 (nI (ac A (vnat p0)))) ∨ (k = 1 ∧ ¬ (isR A p0)))) (fun _ _ => False) 2 12 := by
  refine ctH_of (by decide) (Nat.le_of_ble_eq_true rfl) ?_
  intro X hl hK hX hE hT hn hL hR
  subst hl; subst hK
  show J X 0 0 g 0 [(0, .ref x), (1, .int p0), (2, .ref oo)] []
  have hzo : ZN x A Y oo := hC.zn (fun e he => by rw [ho] at he; cases he; exact ⟨_, _, rfl⟩)
  have KX : ∀ E g9, XR (reF (xK X) (frm (ZN x A Y) g)) x 1 (isR A p0) A E g9 → JX X (0 + 2) (0 + 12) g9 4 [(0, .ref x), (1, .int p0), (2, .ref oo)] [.int (nI 0), .ref oo] E := by
    rintro E g9 ⟨rfl, hni, Y1, ch1, N1, hC1⟩
    have ho1 := hC1.fr.1 oo _ (frm_get hzo ho)
    refine jx_catch (E := "java/lang/IndexOutOfBoundsException") hX hT [] [] (0, 9, 12, 13) rfl (fun z hz => by cases hz) (by decide) (by decide) (by decide) lk_L_13 nc_0 (fun q => ?_)
    show J X 2 12 g9 12 [(0, .ref x), (1, .int p0), (2, .ref oo)] [.ref q]
    refine j_astore_n (lv' := [(3, .ref q), (0, .ref x), (1, .int p0), (2, .ref oo)]) hX dL_changed_12 (by rw [hn]; decide) rfl ?_
    refine j_iconst (v := nI 1) hX dL_changed_13 (by decide) ?_
    exact j_iretH hX hE dL_changed_14 (⟨1, f, rfl, ⟨Y1, ch1, N1, hC.back0 hC1⟩, ho1, Or.inr ⟨rfl, hni⟩⟩) (by decide) (by decide)
  refine j_aload_n hX dL_changed_0 2 rfl ?_
  refine j_iconst (v := nI 0) hX dL_changed_1 (by decide) ?_
  refine j_aload_n hX dL_changed_2 0 rfl ?_
  refine j_iload_n hX dL_changed_3 1 rfl ?_
  refine j_callV (As := [.int p0]) (rest := [.int (nI 0), .ref oo]) hX (Ct.re (c_X10_changed (xl X) (reF (xK X) (frm (ZN x A Y) g)) g hlt x A Y ch N hC.all hI p0)) hC.1.1 rfl lk_L_73 wI_X10_changed wV_X10_X10_changed wN_X10 wC_X10_changed hd_X10_changed rfl (by rw [hL]; decide) (by decide) rfl (Nat.le_of_ble_eq_true rfl) dL_changed_4 (by rw [hR]; decide) (by rw [hR]; decide) KX ?_
  rintro _ g1 ⟨rfl, hin, Y1, ch1, N1, hC1⟩
  have ho1 := hC1.fr.1 oo _ (frm_get hzo ho)
  show J X 2 12 g1 7 [(0, .ref x), (1, .int p0), (2, .ref oo)] [.int (nI (ac A (vnat p0))), .int (nI 0), .ref oo]
  refine j_i2l hX dL_changed_7 ?_
  refine j_lastN hX ho1 (0) (rfl) (by decide) (by decide) dL_changed_8 ?_
  obtain ⟨g2, eg2⟩ : ∃ z : Wd, z = up g1 oo (aJ (xK X) 1 (vp_updL f (0) ((nI (ac A (vnat p0))).toInt64))) := ⟨_, rfl⟩
  refine j_w eg2.symm ?_
  refine j_goto hX 15 dL_changed_9 (by decide) ?_
  refine j_iconst (v := nI 0) hX dL_changed_15 (by decide) ?_
  exact j_iretH hX hE dL_changed_16 (⟨0, _, rfl, ⟨Y1, ch1, N1, by rw [eg2]; exact hC.back hC1 hzo ho hko _⟩, by rw [eg2]; exact up_s _ _ _, Or.inl ⟨rfl, hin, updL_s _ _ _⟩⟩) (by decide) (by decide)

set_option maxRecDepth 20000 in
set_option maxHeartbeats 600000 in
theorem c_L_count (l : Launch) (K : Cst) (g : Wd) (hlt : l.stackTraces = false) (x : Nat) (A : Ab) (Y : Lt) (ch : Nat → Int32) (N : Nat → Bg) (hC : CS K g x A Y ch (fun _ => 0) N) (hI : Inv A) (oo : Nat) (f : Nat → Int64) (ho : g oo = some (aJ K 1 f)) (hko : kF K oo = none) (p0 : Int32) : CtH l K yL_count cL_count 4 (some .int) [(0, 9, 12, 17)] 10 [.ref x, .int p0, .ref oo] g (fun v g' => ∃ k f', v = some (.int (nI k)) ∧ CSx K g' x A ∧ g' oo = some (aJ K 1 f') ∧ ((k = 0 ∧ (∃ q, q < 3 ∧ p0 = nI q) ∧ f' 0 = Int32.toInt64 (nI (cntN A (vnat p0) 8))) ∨ (k = 1 ∧ ¬ (∃ q, q < 3 ∧ p0 = nI q)))) (fun _ _ => False) 1 6 := by
  refine ctH_of (by decide) (Nat.le_of_ble_eq_true rfl) ?_
  intro X hl hK hX hE hT hn hL hR
  subst hl; subst hK
  show J X 0 0 g 0 [(0, .ref x), (1, .int p0), (2, .ref oo)] []
  have hzo : ZN x A Y oo := hC.zn (fun e he => by rw [ho] at he; cases he; exact ⟨_, _, rfl⟩)
  have KX : ∀ E g9, XR (reF (xK X) (frm (ZN x A Y) g)) x 3 (∃ q, q < 3 ∧ p0 = nI q) A E g9 → JX X (0 + 1) (0 + 6) g9 4 [(0, .ref x), (1, .int p0), (2, .ref oo)] [.int (nI 0), .ref oo] E := by
    rintro E g9 ⟨rfl, hni, Y1, ch1, N1, hC1⟩
    have ho1 := hC1.fr.1 oo _ (frm_get hzo ho)
    refine jx_catch (E := "java/lang/IllegalArgumentException") hX hT [] [] (0, 9, 12, 17) rfl (fun z hz => by cases hz) (by decide) (by decide) (by decide) lk_L_17 nc_2 (fun q => ?_)
    show J X 1 6 g9 12 [(0, .ref x), (1, .int p0), (2, .ref oo)] [.ref q]
    refine j_astore_n (lv' := [(3, .ref q), (0, .ref x), (1, .int p0), (2, .ref oo)]) hX dL_count_12 (by rw [hn]; decide) rfl ?_
    refine j_iconst (v := nI 1) hX dL_count_13 (by decide) ?_
    exact j_iretH hX hE dL_count_14 (⟨1, f, rfl, ⟨Y1, ch1, N1, hC.back0 hC1⟩, ho1, Or.inr ⟨rfl, hni⟩⟩) (by decide) (by decide)
  refine j_aload_n hX dL_count_0 2 rfl ?_
  refine j_iconst (v := nI 0) hX dL_count_1 (by decide) ?_
  refine j_aload_n hX dL_count_2 0 rfl ?_
  refine j_iload_n hX dL_count_3 1 rfl ?_
  refine j_callV (As := [.int p0]) (rest := [.int (nI 0), .ref oo]) hX (Ct.re (c_X10_count (xl X) (reF (xK X) (frm (ZN x A Y) g)) g hlt x A Y ch N hC.all hI p0)) hC.1.1 rfl lk_L_76 wI_X10_count wV_X10_X10_count wN_X10 wC_X10_count hd_X10_count rfl (by rw [hL]; decide) (by decide) rfl (Nat.le_of_ble_eq_true rfl) dL_count_4 (by rw [hR]; decide) (by rw [hR]; decide) KX ?_
  rintro _ g1 ⟨rfl, hin, Y1, ch1, N1, hC1⟩
  have ho1 := hC1.fr.1 oo _ (frm_get hzo ho)
  show J X 1 6 g1 7 [(0, .ref x), (1, .int p0), (2, .ref oo)] [.int (nI (cntN A (vnat p0) 8)), .int (nI 0), .ref oo]
  refine j_i2l hX dL_count_7 ?_
  refine j_lastN hX ho1 (0) (rfl) (by decide) (by decide) dL_count_8 ?_
  obtain ⟨g2, eg2⟩ : ∃ z : Wd, z = up g1 oo (aJ (xK X) 1 (vp_updL f (0) ((nI (cntN A (vnat p0) 8)).toInt64))) := ⟨_, rfl⟩
  refine j_w eg2.symm ?_
  refine j_goto hX 15 dL_count_9 (by decide) ?_
  refine j_iconst (v := nI 0) hX dL_count_15 (by decide) ?_
  exact j_iretH hX hE dL_count_16 (⟨0, _, rfl, ⟨Y1, ch1, N1, by rw [eg2]; exact hC.back hC1 hzo ho hko _⟩, by rw [eg2]; exact up_s _ _ _, Or.inl ⟨rfl, hin, updL_s _ _ _⟩⟩) (by decide) (by decide)

