/-- in how many rows two bags differ: from the places i and j on, m steps at the most -/
def difI (A C : Bg) : Nat → Nat → Nat → Nat
  | 0, i, j => (A.length - i) + (C.length - j)
  | m + 1, i, j => match A[i]?, C[j]? with
    | some x, some y => if key x.1 < key y.1 then 1 + difI A C m (i + 1) j else if key y.1 < key x.1 then 1 + difI A C m i (j + 1) else (if x.2 = y.2 then 0 else 1) + difI A C m (i + 1) (j + 1)
    | _, _ => (A.length - i) + (C.length - j)
def dif (A C : Bg) : Nat := difI A C (A.length + C.length) 0 0
theorem difI_end {A C : Bg} (m : Nat) {i j : Nat} (h : A.length ≤ i ∨ C.length ≤ j) : difI A C m i j = (A.length - i) + (C.length - j) := by
  match m with
  | 0 => rfl
  | m + 1 =>
    unfold difI
    rcases h with h | h
    · rw [List.getElem?_eq_none h]
    · rw [List.getElem?_eq_none h]
      split
      · rename_i h1; cases h1
      · rfl
theorem difI_step {A C : Bg} {m i j : Nat} {x y : Row × Nat} (hx : A[i]? = some x) (hy : C[j]? = some y) : difI A C (m + 1) i j = if key x.1 < key y.1 then 1 + difI A C m (i + 1) j else if key y.1 < key x.1 then 1 + difI A C m i (j + 1) else (if x.2 = y.2 then 0 else 1) + difI A C m (i + 1) (j + 1) := by
  conv => lhs; unfold difI
  rw [hx, hy]
theorem difI_le {A C : Bg} : ∀ (m i j : Nat), difI A C m i j ≤ (A.length - i) + (C.length - j) := by
  intro m
  induction m with
  | zero => intro i j; exact Nat.le_refl _
  | succ m ih =>
    intro i j
    rcases Nat.lt_or_ge i A.length with hi | hi
    · rcases Nat.lt_or_ge j C.length with hj | hj
      · rw [difI_step (List.getElem?_eq_getElem hi) (List.getElem?_eq_getElem hj)]
        have h1 := ih (i + 1) j; have h2 := ih i (j + 1); have h3 := ih (i + 1) (j + 1)
        split
        · omega
        · split
          · omega
          · split <;> omega
      · rw [difI_end _ (Or.inr hj)]; exact Nat.le_refl _
    · rw [difI_end _ (Or.inl hi)]; exact Nat.le_refl _
set_option maxRecDepth 20000 in
set_option maxHeartbeats 600000 in
/-- countDifferent(other) -/
theorem c_X0_countDifferent (l : Launch) (K : Cst) (g : Wd) (b ca oa b2 ca2 oa2 : Nat) (A C : Bg) (hR1 : bagR K g b ca oa A) (hR2 : bagR K g b2 ca2 oa2 C) (hA : good A) (hC : good C) : Ct l K yX0_countDifferent cX0_countDifferent 6 (some .int) 1 [.ref b, .ref b2] g (fun v g' => v = some (.int (nI (dif A C))) ∧ g = g') (fun _ _ => False) 0 0 := by
  refine ct_of (by decide) (Nat.le_of_ble_eq_true rfl) ?_
  intro X hl hK hX hE hn hL hR hm
  subst hl; subst hK
  show J X 0 0 g 0 [(0, .ref b), (1, .ref b2)] []
  obtain ⟨cf, tf, hB, hr1⟩ := hR1
  obtain ⟨cf2, tf2, hB2, hr2⟩ := hR2
  have hn1 : A.length ≤ 20 := hA.2.1
  have hn2 : C.length ≤ 20 := hC.2.1
  have loop : ∀ (m d i j : Nat), i ≤ A.length → j ≤ C.length → (A.length - i) + (C.length - j) ≤ m → d + difI A C m i j = dif A C → J X 0 0 g 7 [(2, .int (nI d)), (3, .int (nI i)), (4, .int (nI j)), (0, .ref b), (1, .ref b2)] [] := by
    intro m
    have hdif : dif A C ≤ 40 := by have := difI_le (A := A) (C := C) (A.length + C.length) 0 0; unfold dif; omega
    induction m with
    | zero =>
      intro d i j hi9 hj9 hm9 hr
      have hend : A.length ≤ i ∨ C.length ≤ j := Or.inl (by omega)
      refine j_iload_n hX dX0_countDifferent_7 1 rfl ?_
      refine j_aload_n hX dX0_countDifferent_8 3 rfl ?_
      refine j_get (v := .int (nI A.length)) hX hB.1 rfl wf_X0 2 (by decide) lk_X0_18 (fun _ h => h) rfl dX0_countDifferent_9 ?_
      refine j_icmp_ge hX 82 dX0_countDifferent_12 (by decide) (fun _ => ?_) (fun c_12 => absurd (nI_le (a := A.length) (b := i) (by omega) (by omega)) c_12)
      refine j_iload_n hX dX0_countDifferent_82 0 rfl ?_
      refine j_aload_n hX dX0_countDifferent_83 3 rfl ?_
      refine j_get (v := .int (nI A.length)) hX hB.1 rfl wf_X0 2 (by decide) lk_X0_18 (fun _ h => h) rfl dX0_countDifferent_84 ?_
      refine j_iload_n hX dX0_countDifferent_87 1 rfl ?_
      refine j_isub hX dX0_countDifferent_88 ?_
      refine j_eqi (y := nI (A.length - i)) (pk_sub (by omega)) ?_
      refine j_iadd hX dX0_countDifferent_89 ?_
      refine j_eqi (y := nI (d + (A.length - i))) (nI_add _ _) ?_
      refine j_aload_n hX dX0_countDifferent_90 4 rfl ?_
      refine j_get (v := .int (nI C.length)) hX hB2.1 rfl wf_X0 2 (by decide) lk_X0_18 (fun _ h => h) rfl dX0_countDifferent_91 ?_
      refine j_iload hX dX0_countDifferent_94 2 rfl ?_
      refine j_isub hX dX0_countDifferent_96 ?_
      refine j_eqi (y := nI (C.length - j)) (pk_sub (by omega)) ?_
      refine j_iadd hX dX0_countDifferent_97 ?_
      refine j_eqi (y := nI (d + (A.length - i) + (C.length - j))) (nI_add _ _) ?_
      exact j_iret hX hE dX0_countDifferent_98 (⟨by rw [show d + (A.length - i) + (C.length - j) = dif A C by rw [← hr, difI_end _ hend]; omega], rfl⟩) (by decide) (by decide)
    | succ m ih =>
      intro d i j hi9 hj9 hm9 hr
      refine j_iload_n hX dX0_countDifferent_7 1 rfl ?_
      refine j_aload_n hX dX0_countDifferent_8 3 rfl ?_
      refine j_get (v := .int (nI A.length)) hX hB.1 rfl wf_X0 2 (by decide) lk_X0_18 (fun _ h => h) rfl dX0_countDifferent_9 ?_
      refine j_icmp_ge hX 82 dX0_countDifferent_12 (by decide) (fun c_12 => ?_) (fun c_12 => ?_)
      · have hend : A.length ≤ i ∨ C.length ≤ j := Or.inl ((nI_leI (by omega) (by omega)).mp c_12)
        refine j_iload_n hX dX0_countDifferent_82 0 rfl ?_
        refine j_aload_n hX dX0_countDifferent_83 3 rfl ?_
        refine j_get (v := .int (nI A.length)) hX hB.1 rfl wf_X0 2 (by decide) lk_X0_18 (fun _ h => h) rfl dX0_countDifferent_84 ?_
        refine j_iload_n hX dX0_countDifferent_87 1 rfl ?_
        refine j_isub hX dX0_countDifferent_88 ?_
        refine j_eqi (y := nI (A.length - i)) (pk_sub (by omega)) ?_
        refine j_iadd hX dX0_countDifferent_89 ?_
        refine j_eqi (y := nI (d + (A.length - i))) (nI_add _ _) ?_
        refine j_aload_n hX dX0_countDifferent_90 4 rfl ?_
        refine j_get (v := .int (nI C.length)) hX hB2.1 rfl wf_X0 2 (by decide) lk_X0_18 (fun _ h => h) rfl dX0_countDifferent_91 ?_
        refine j_iload hX dX0_countDifferent_94 2 rfl ?_
        refine j_isub hX dX0_countDifferent_96 ?_
        refine j_eqi (y := nI (C.length - j)) (pk_sub (by omega)) ?_
        refine j_iadd hX dX0_countDifferent_97 ?_
        refine j_eqi (y := nI (d + (A.length - i) + (C.length - j))) (nI_add _ _) ?_
        exact j_iret hX hE dX0_countDifferent_98 (⟨by rw [show d + (A.length - i) + (C.length - j) = dif A C by rw [← hr, difI_end _ hend]; omega], rfl⟩) (by decide) (by decide)
      · have hi : i < A.length := Nat.not_le.mp (fun q => c_12 (nI_le q (by omega)))
        refine j_iload hX dX0_countDifferent_15 2 rfl ?_
        refine j_aload_n hX dX0_countDifferent_17 4 rfl ?_
        refine j_get (v := .int (nI C.length)) hX hB2.1 rfl wf_X0 2 (by decide) lk_X0_18 (fun _ h => h) rfl dX0_countDifferent_18 ?_
        refine j_icmp_ge hX 82 dX0_countDifferent_21 (by decide) (fun c_21 => ?_) (fun c_21 => ?_)
        · have hend : A.length ≤ i ∨ C.length ≤ j := Or.inr ((nI_leI (by omega) (by omega)).mp c_21)
          refine j_iload_n hX dX0_countDifferent_82 0 rfl ?_
          refine j_aload_n hX dX0_countDifferent_83 3 rfl ?_
          refine j_get (v := .int (nI A.length)) hX hB.1 rfl wf_X0 2 (by decide) lk_X0_18 (fun _ h => h) rfl dX0_countDifferent_84 ?_
          refine j_iload_n hX dX0_countDifferent_87 1 rfl ?_
          refine j_isub hX dX0_countDifferent_88 ?_
          refine j_eqi (y := nI (A.length - i)) (pk_sub (by omega)) ?_
          refine j_iadd hX dX0_countDifferent_89 ?_
          refine j_eqi (y := nI (d + (A.length - i))) (nI_add _ _) ?_
          refine j_aload_n hX dX0_countDifferent_90 4 rfl ?_
          refine j_get (v := .int (nI C.length)) hX hB2.1 rfl wf_X0 2 (by decide) lk_X0_18 (fun _ h => h) rfl dX0_countDifferent_91 ?_
          refine j_iload hX dX0_countDifferent_94 2 rfl ?_
          refine j_isub hX dX0_countDifferent_96 ?_
          refine j_eqi (y := nI (C.length - j)) (pk_sub (by omega)) ?_
          refine j_iadd hX dX0_countDifferent_97 ?_
          refine j_eqi (y := nI (d + (A.length - i) + (C.length - j))) (nI_add _ _) ?_
          exact j_iret hX hE dX0_countDifferent_98 (⟨by rw [show d + (A.length - i) + (C.length - j) = dif A C by rw [← hr, difI_end _ hend]; omega], rfl⟩) (by decide) (by decide)
        · have hj : j < C.length := Nat.not_le.mp (fun q => c_21 (nI_le q (by omega)))
          have ei : A[i]? = some A[i] := List.getElem?_eq_getElem hi
          have ej : C[j]? = some C[j] := List.getElem?_eq_getElem hj
          have ki := hr1 i _ ei
          have kj := hr2 j _ ej
          have hAi := hA.2.2 _ (List.mem_of_getElem? ei)
          have hCj := hC.2.2 _ (List.mem_of_getElem? ej)
          have t57 : tf i = tf2 j ↔ (A[i]).2 = (C[j]).2 := by rw [ki.2, kj.2]; exact nI_eq (by omega) (by omega)
          refine j_aload_n hX dX0_countDifferent_24 3 rfl ?_
          refine j_iload_n hX dX0_countDifferent_25 1 rfl ?_
          refine j_aload_n hX dX0_countDifferent_26 4 rfl ?_
          refine j_get (v := .ref ca2) hX hB2.1 rfl wf_X0 0 (by decide) lk_X0_9 (fun _ h => h) rfl dX0_countDifferent_27 ?_
          refine j_iload hX dX0_countDifferent_30 2 rfl ?_
          refine j_iconst (v := 4) hX dX0_countDifferent_32 (by decide) ?_
          refine j_imul hX dX0_countDifferent_33 ?_
          refine j_eqi (y := nI (4 * j)) (ix4' j) ?_
          refine j_callV (As := [.int (nI i), .ref ca2, .int (nI (4 * j))]) (rest := []) hX (c_X0_compareRow (xl X) (xK X) g b ca oa A.length cf tf hB i ca2 80 (4 * j) cf2 (by omega) hB2.2.1 (by omega) (by decide)) hB.1 rfl lk_X0_44 wI_X0_compareRow wV_X0_X0_compareRow wN_X0 wC_X0_compareRow hd_X0_compareRow rfl (by rw [hL]; decide) (by decide) rfl (Nat.le_of_ble_eq_true rfl) dX0_countDifferent_34 (by rw [hR]; decide) (by rw [hR]; decide) jx_no ?_
          rintro _ _ ⟨rfl, rfl⟩
          rcases cmp4_tri cf cf2 (4 * i) (4 * j) with ⟨e9, c9⟩ | ⟨e9, c9⟩ | ⟨e9, c9⟩
          · rw [e9]
            have hk : key (A[i]).1 < key (C[j]).1 := by rw [← ki.1, ← kj.1]; exact c9
            show J X 0 0 g 37 [(2, .int (nI d)), (3, .int (nI i)), (4, .int (nI j)), (0, .ref b), (1, .ref b2)] [.int (-1)]
            refine j_istore (lv' := [(5, .int (-1)), (2, .int (nI d)), (3, .int (nI i)), (4, .int (nI j)), (0, .ref b), (1, .ref b2)]) hX dX0_countDifferent_37 (by rw [hn]; decide) rfl ?_
            refine j_iload hX dX0_countDifferent_39 0 rfl ?_
            refine j_if_ne hX 60 dX0_countDifferent_41 (by decide) (fun _ => ?_) (fun c_41 => absurd c_41 (show ¬ (-1 : Int32) = 0 by decide))
            refine j_iinc (v := nI (d + 1)) (lv' := [(2, .int (nI (d + 1))), (5, .int (-1)), (3, .int (nI i)), (4, .int (nI j)), (0, .ref b), (1, .ref b2)]) hX dX0_countDifferent_60 1 rfl (nI_1 d) (by rw [hn]; decide) rfl ?_
            refine j_iload hX dX0_countDifferent_63 1 rfl ?_
            refine j_if_gt hX 71 dX0_countDifferent_65 (by decide) (fun c_65 => absurd c_65 (show ¬ (0 : Int32) < -1 by decide)) (fun _ => ?_)
            refine j_iinc (v := nI (i + 1)) (lv' := [(3, .int (nI (i + 1))), (2, .int (nI (d + 1))), (5, .int (-1)), (4, .int (nI j)), (0, .ref b), (1, .ref b2)]) hX dX0_countDifferent_68 2 rfl (nI_1 i) (by rw [hn]; decide) rfl ?_
            refine j_iload hX dX0_countDifferent_71 2 rfl ?_
            refine j_if_lt hX 79 dX0_countDifferent_73 (by decide) (fun _ => ?_) (fun c_73 => absurd (show (-1 : Int32) < 0 by decide) c_73)
            refine j_goto hX 7 dX0_countDifferent_79 (by decide) ?_
            refine j_sub [1, 0, 3, 4, 5] rfl ?_
            rw [difI_step ei ej] at hr
            exact ih (d + 1) (i + 1) j (by omega) (by omega) (by omega) (by rw [if_pos hk] at hr; omega)
          · rw [e9]
            have hk : (A[i]).1 = (C[j]).1 := by rw [← ki.1, ← kj.1]; exact c9
            have hk2 : key (A[i]).1 = key (C[j]).1 := by rw [hk]
            show J X 0 0 g 37 [(2, .int (nI d)), (3, .int (nI i)), (4, .int (nI j)), (0, .ref b), (1, .ref b2)] [.int 0]
            refine j_istore (lv' := [(5, .int 0), (2, .int (nI d)), (3, .int (nI i)), (4, .int (nI j)), (0, .ref b), (1, .ref b2)]) hX dX0_countDifferent_37 (by rw [hn]; decide) rfl ?_
            refine j_iload hX dX0_countDifferent_39 0 rfl ?_
            refine j_if_ne hX 60 dX0_countDifferent_41 (by decide) (fun c_41 => absurd c_41 (show ¬ ¬ (0 : Int32) = 0 from fun q => q rfl)) (fun _ => ?_)
            refine j_aload_n hX dX0_countDifferent_44 4 rfl ?_
            refine j_get (v := .ref oa) hX hB.1 rfl wf_X0 1 (by decide) lk_X0_15 (fun _ h => h) rfl dX0_countDifferent_45 ?_
            refine j_iload_n hX dX0_countDifferent_48 2 rfl ?_
            refine j_ialdN hX hB.2.2 (i) (rfl) (by omega) (by decide) dX0_countDifferent_49 ?_
            refine j_aload_n hX dX0_countDifferent_50 5 rfl ?_
            refine j_get (v := .ref oa2) hX hB2.1 rfl wf_X0 1 (by decide) lk_X0_15 (fun _ h => h) rfl dX0_countDifferent_51 ?_
            refine j_iload hX dX0_countDifferent_54 3 rfl ?_
            refine j_ialdN hX hB2.2.2 (j) (rfl) (by omega) (by decide) dX0_countDifferent_56 ?_
            refine j_icmp_eq hX 63 dX0_countDifferent_57 (by decide) (fun c_57 => ?_) (fun c_57 => ?_)
            · refine j_iload hX dX0_countDifferent_63 0 rfl ?_
              refine j_if_gt hX 71 dX0_countDifferent_65 (by decide) (fun c_65 => absurd c_65 (show ¬ (0 : Int32) < 0 by decide)) (fun _ => ?_)
              refine j_iinc (v := nI (i + 1)) (lv' := [(3, .int (nI (i + 1))), (5, .int 0), (2, .int (nI d)), (4, .int (nI j)), (0, .ref b), (1, .ref b2)]) hX dX0_countDifferent_68 2 rfl (nI_1 i) (by rw [hn]; decide) rfl ?_
              refine j_iload hX dX0_countDifferent_71 1 rfl ?_
              refine j_if_lt hX 79 dX0_countDifferent_73 (by decide) (fun c_73 => absurd c_73 (show ¬ (0 : Int32) < 0 by decide)) (fun _ => ?_)
              refine j_iinc (v := nI (j + 1)) (lv' := [(4, .int (nI (j + 1))), (3, .int (nI (i + 1))), (5, .int 0), (2, .int (nI d)), (0, .ref b), (1, .ref b2)]) hX dX0_countDifferent_76 3 rfl (nI_1 j) (by rw [hn]; decide) rfl ?_
              refine j_goto hX 7 dX0_countDifferent_79 (by decide) ?_
              refine j_sub [3, 1, 0, 4, 5] rfl ?_
              rw [difI_step ei ej] at hr
              exact ih d (i + 1) (j + 1) (by omega) (by omega) (by omega) (by rw [if_neg (by omega), if_neg (by omega), if_pos (t57.mp c_57)] at hr; omega)
            · refine j_iinc (v := nI (d + 1)) (lv' := [(2, .int (nI (d + 1))), (5, .int 0), (3, .int (nI i)), (4, .int (nI j)), (0, .ref b), (1, .ref b2)]) hX dX0_countDifferent_60 1 rfl (nI_1 d) (by rw [hn]; decide) rfl ?_
              refine j_iload hX dX0_countDifferent_63 1 rfl ?_
              refine j_if_gt hX 71 dX0_countDifferent_65 (by decide) (fun c_65 => absurd c_65 (show ¬ (0 : Int32) < 0 by decide)) (fun _ => ?_)
              refine j_iinc (v := nI (i + 1)) (lv' := [(3, .int (nI (i + 1))), (2, .int (nI (d + 1))), (5, .int 0), (4, .int (nI j)), (0, .ref b), (1, .ref b2)]) hX dX0_countDifferent_68 2 rfl (nI_1 i) (by rw [hn]; decide) rfl ?_
              refine j_iload hX dX0_countDifferent_71 2 rfl ?_
              refine j_if_lt hX 79 dX0_countDifferent_73 (by decide) (fun c_73 => absurd c_73 (show ¬ (0 : Int32) < 0 by decide)) (fun _ => ?_)
              refine j_iinc (v := nI (j + 1)) (lv' := [(4, .int (nI (j + 1))), (3, .int (nI (i + 1))), (2, .int (nI (d + 1))), (5, .int 0), (0, .ref b), (1, .ref b2)]) hX dX0_countDifferent_76 3 rfl (nI_1 j) (by rw [hn]; decide) rfl ?_
              refine j_goto hX 7 dX0_countDifferent_79 (by decide) ?_
              refine j_sub [2, 1, 0, 4, 5] rfl ?_
              rw [difI_step ei ej] at hr
              exact ih (d + 1) (i + 1) (j + 1) (by omega) (by omega) (by omega) (by rw [if_neg (by omega), if_neg (by omega), if_neg (fun q => c_57 (t57.mpr q))] at hr; omega)
          · rw [e9]
            have hk : key (C[j]).1 < key (A[i]).1 := by rw [← ki.1, ← kj.1]; exact c9
            show J X 0 0 g 37 [(2, .int (nI d)), (3, .int (nI i)), (4, .int (nI j)), (0, .ref b), (1, .ref b2)] [.int 1]
            refine j_istore (lv' := [(5, .int 1), (2, .int (nI d)), (3, .int (nI i)), (4, .int (nI j)), (0, .ref b), (1, .ref b2)]) hX dX0_countDifferent_37 (by rw [hn]; decide) rfl ?_
            refine j_iload hX dX0_countDifferent_39 0 rfl ?_
            refine j_if_ne hX 60 dX0_countDifferent_41 (by decide) (fun _ => ?_) (fun c_41 => absurd c_41 (show ¬ (1 : Int32) = 0 by decide))
            refine j_iinc (v := nI (d + 1)) (lv' := [(2, .int (nI (d + 1))), (5, .int 1), (3, .int (nI i)), (4, .int (nI j)), (0, .ref b), (1, .ref b2)]) hX dX0_countDifferent_60 1 rfl (nI_1 d) (by rw [hn]; decide) rfl ?_
            refine j_iload hX dX0_countDifferent_63 1 rfl ?_
            refine j_if_gt hX 71 dX0_countDifferent_65 (by decide) (fun _ => ?_) (fun c_65 => absurd (show (0 : Int32) < 1 by decide) c_65)
            refine j_iload hX dX0_countDifferent_71 1 rfl ?_
            refine j_if_lt hX 79 dX0_countDifferent_73 (by decide) (fun c_73 => absurd c_73 (show ¬ (1 : Int32) < 0 by decide)) (fun _ => ?_)
            refine j_iinc (v := nI (j + 1)) (lv' := [(4, .int (nI (j + 1))), (2, .int (nI (d + 1))), (5, .int 1), (3, .int (nI i)), (0, .ref b), (1, .ref b2)]) hX dX0_countDifferent_76 3 rfl (nI_1 j) (by rw [hn]; decide) rfl ?_
            refine j_goto hX 7 dX0_countDifferent_79 (by decide) ?_
            refine j_sub [1, 3, 0, 4, 5] rfl ?_
            rw [difI_step ei ej] at hr
            exact ih (d + 1) i (j + 1) (by omega) (by omega) (by omega) (by rw [if_neg (by omega), if_pos hk] at hr; omega)
  refine j_iconst (v := nI 0) hX dX0_countDifferent_0 (by decide) ?_
  refine j_istore_n (lv' := [(2, .int (nI 0)), (0, .ref b), (1, .ref b2)]) hX dX0_countDifferent_1 (by rw [hn]; decide) rfl ?_
  refine j_iconst (v := nI 0) hX dX0_countDifferent_2 (by decide) ?_
  refine j_istore_n (lv' := [(3, .int (nI 0)), (2, .int (nI 0)), (0, .ref b), (1, .ref b2)]) hX dX0_countDifferent_3 (by rw [hn]; decide) rfl ?_
  refine j_iconst (v := nI 0) hX dX0_countDifferent_4 (by decide) ?_
  refine j_istore (lv' := [(4, .int (nI 0)), (3, .int (nI 0)), (2, .int (nI 0)), (0, .ref b), (1, .ref b2)]) hX dX0_countDifferent_5 (by rw [hn]; decide) rfl ?_
  refine j_sub [2, 1, 0, 3, 4] rfl ?_
  exact loop (A.length + C.length) 0 0 0 (by omega) (by omega) (by omega) (by rw [Nat.zero_add]; rfl)

