set_option maxRecDepth 20000 in
set_option maxHeartbeats 600000 in
theorem c_X11_begin (l : Launch) (K : Cst) (g : Wd) (m : Nat) (Q : Nat → Nat) (th oc fi : Int32) (F : Nat → Nat → Int32) (hS : RS K g m Q th oc fi F) (Bs : Nat → Bg) (hO : ∀ q, q < 8 → rp 8 9 10 F q (Bs q)) (hl : ∀ q, q < 8 → (Bs q).length ≤ 20) : Ct l K yX11_begin cX11_begin 4 none 0 [.ref m] g (fun v g' => v = none ∧ ∃ F', RS K g' m Q th oc (b01 true) F' ∧ (∀ j, j ≠ 11 → j ≠ 12 → j ≠ 13 → F' j = F j) ∧ ∀ q, q < 8 → rp 11 12 13 F' q (Bs q)) (fun _ _ => False) 0 0 := by
  refine ct_of (by decide) (Nat.le_of_ble_eq_true rfl) ?_
  intro X hl hK hX hE hn hL hR hm
  subst hl; subst hK
  show J X 0 0 g 0 [(0, .ref m)] []
  refine j_aload_n hX dX11_begin_0 0 rfl ?_
  refine j_iconst (v := b01 true) hX dX11_begin_1 (by decide) ?_
  refine j_put hX hS.1 rfl wf_X11 tyX11_ok nmX11 16 (by decide) lk_X11_68 (fun _ h => h) rfl (tyX11_ok 16 (by decide)) rfl rfl (Nat.le_of_ble_eq_true rfl) dX11_begin_2 ?_
  obtain ⟨g1, eg1⟩ : ∃ z : Wd, z = up g m (ob 10 [.int th, .ref (Q 0), .ref (Q 1), .ref (Q 2), .ref (Q 3), .ref (Q 4), .ref (Q 5), .ref (Q 6), .int oc, .ref (Q 7), .ref (Q 8), .ref (Q 9), .ref (Q 10), .ref (Q 11), .ref (Q 12), .ref (Q 13), .int (b01 true), .ref (Q 14)]) := ⟨_, rfl⟩
  refine j_w eg1.symm ?_
  have hS1 : RS (xK X) g1 m Q th oc (b01 true) F := by rw [eg1]; exact hS.obj _ _ _
  refine j_iconst (v := nI 0) hX dX11_begin_5 (by decide) ?_
  refine j_istore_n (lv' := [(1, .int (nI 0)), (0, .ref m)]) hX dX11_begin_6 (by rw [hn]; decide) rfl ?_
  have loop : ∀ (n r : Nat) (G : Nat → Nat → Int32) (g9 : Wd), r + n = 8 → RS (xK X) g9 m Q th oc (b01 true) G → (∀ j, j ≠ 11 → j ≠ 12 → j ≠ 13 → G j = F j) → (∀ q, q < r → rp 11 12 13 G q (Bs q)) → J X 0 0 g9 7 [(1, .int (nI r)), (0, .ref m)] [] := by
    intro n
    induction n with
    | zero =>
      intro r G g9 hr8 hG hK hN
      refine j_iload_n hX dX11_begin_7 0 rfl ?_
      refine j_bipush (v := nI 8) hX dX11_begin_8 (by decide) ?_
      refine j_icmp_ge hX 102 dX11_begin_10 (by decide) (fun _ => ?_) (fun c_10 => absurd (nI_le (a := 8) (b := r) (by omega) (by omega)) c_10)
      exact j_vret hX hE dX11_begin_102 (⟨rfl, G, hG, hK, fun q hq => hN q (by omega)⟩) (by decide) (by decide)
    | succ n ih =>
      intro r G g9 hr8 hG hK hN
      have hr : r < 8 := by omega
      have hlr := hl r hr
      refine j_iload_n hX dX11_begin_7 0 rfl ?_
      refine j_bipush (v := nI 8) hX dX11_begin_8 (by decide) ?_
      refine j_icmp_ge hX 102 dX11_begin_10 (by decide) (fun c_10 => absurd c_10 (nI_ge (a := r) (b := 8) hr (by decide))) (fun _ => ?_)
      refine j_aload_n hX dX11_begin_13 1 rfl ?_
      refine j_get (v := .ref (Q 13)) hX hG.1 rfl wf_X11 15 (by decide) lk_X11_50 (fun _ h => h) rfl dX11_begin_14 ?_
      refine j_iload_n hX dX11_begin_17 0 rfl ?_
      refine j_aload_n hX dX11_begin_18 1 rfl ?_
      refine j_get (v := .ref (Q 10)) hX hG.1 rfl wf_X11 12 (by decide) lk_X11_41 (fun _ h => h) rfl dX11_begin_19 ?_
      refine j_iload_n hX dX11_begin_22 0 rfl ?_
      refine j_ialdN hX (show g9 (Q 10) = some (aI (xK X) 8 (G 10)) from hG.2.1 10 (by decide)) (r) (rfl) (hr) (by decide) dX11_begin_23 ?_
      refine j_eqi (y := nI (Bs r).length) (by rw [hK 10 (by decide) (by decide) (by decide)]; exact (hO r hr).1) ?_
      refine j_iastN hX (show g9 (Q 13) = some (aI (xK X) 8 (G 13)) from hG.2.1 13 (by decide)) (r) (rfl) (hr) (by decide) dX11_begin_24 ?_
      obtain ⟨go1, ego1⟩ : ∃ z : Wd, z = up g9 (Q 13) (aI (xK X) 8 (upd (G 13) (r) (nI (Bs r).length))) := ⟨_, rfl⟩
      refine j_w ego1.symm ?_
      obtain ⟨Fo1, eFo1⟩ : ∃ z, z = fu G 13 (upd (G 13) (r) (nI (Bs r).length)) := ⟨_, rfl⟩
      have hSo1 : RS (xK X) go1 m Q th oc (b01 true) Fo1 := by rw [ego1, eFo1]; exact hG.put 13 (by decide) _
      refine j_bipush (v := nI 20) hX dX11_begin_25 (by decide) ?_
      refine j_iload_n hX dX11_begin_27 0 rfl ?_
      refine j_imul hX dX11_begin_28 ?_
      refine j_eqi (y := nI (20 * r + 0)) (by rw [pk_mul]; rfl) ?_
      refine j_istore_n (lv' := [(2, .int (nI (20 * r + 0))), (1, .int (nI r)), (0, .ref m)]) hX dX11_begin_29 (by rw [hn]; decide) rfl ?_
      have mid : ∀ (p k : Nat) (D : Nat → Nat → Int32) (gd : Wd), k + p = (Bs r).length → RS (xK X) gd m Q th oc (b01 true) D → Kg 11 12 13 r G D → D 13 r = nI (Bs r).length → (∀ i, i < k → D 12 (20 * r + i) = F 9 (20 * r + i) ∧ ∀ z, z < 4 → D 11 (80 * r + 4 * i + z) = F 8 (80 * r + 4 * i + z)) → J X 0 0 gd 30 [(2, .int (nI (20 * r + k))), (1, .int (nI r)), (0, .ref m)] [] := by
        intro p
        induction p with
        | zero =>
          intro k D gd hk hD hKD hcD hM
          refine j_iload_n hX dX11_begin_30 0 rfl ?_
          refine j_bipush (v := nI 20) hX dX11_begin_31 (by decide) ?_
          refine j_iload_n hX dX11_begin_33 1 rfl ?_
          refine j_imul hX dX11_begin_34 ?_
          refine j_aload_n hX dX11_begin_35 2 rfl ?_
          refine j_get (v := .ref (Q 10)) hX hD.1 rfl wf_X11 12 (by decide) lk_X11_41 (fun _ h => h) rfl dX11_begin_36 ?_
          refine j_iload_n hX dX11_begin_39 1 rfl ?_
          refine j_ialdN hX (show gd (Q 10) = some (aI (xK X) 8 (D 10)) from hD.2.1 10 (by decide)) (r) (rfl) (hr) (by decide) dX11_begin_40 ?_
          refine j_eqi (y := nI (Bs r).length) (by rw [hKD.1 10 (by decide) (by decide) (by decide), hK 10 (by decide) (by decide) (by decide)]; exact (hO r hr).1) ?_
          refine j_iadd hX dX11_begin_41 ?_
          refine j_eqi (y := nI (20 * r + (Bs r).length)) (ix20 r _) ?_
          refine j_icmp_ge hX 96 dX11_begin_42 (by decide) (fun _ => ?_) (fun c_42 => absurd (nI_le (a := 20 * r + (Bs r).length) (b := 20 * r + k) (by omega) (by omega)) c_42)
          refine j_iinc (v := nI (r + 1)) (lv' := [(1, .int (nI (r + 1))), (2, .int (nI (20 * r + k))), (0, .ref m)]) hX dX11_begin_96 1 rfl (nI_1 r) (by rw [hn]; decide) rfl ?_
          refine j_goto hX 7 dX11_begin_99 (by decide) ?_
          refine j_sub [0, 2] rfl ?_
          exact ih (r + 1) D gd (by omega) hD (fun j h1 h2 h3 => (hKD.1 j h1 h2 h3).trans (hK j h1 h2 h3)) (fun q hq => by
            by_cases e : q = r
            · subst e; exact ⟨hcD, repA_of (hO q hr).2 (fun i hi => hM i (by omega))⟩
            · exact hKD.nb e (hN q (by omega)) (hl q (by omega)))
        | succ p ihk =>
          intro k D gd hk hD hKD hcD hM
          refine j_iload_n hX dX11_begin_30 0 rfl ?_
          refine j_bipush (v := nI 20) hX dX11_begin_31 (by decide) ?_
          refine j_iload_n hX dX11_begin_33 1 rfl ?_
          refine j_imul hX dX11_begin_34 ?_
          refine j_aload_n hX dX11_begin_35 2 rfl ?_
          refine j_get (v := .ref (Q 10)) hX hD.1 rfl wf_X11 12 (by decide) lk_X11_41 (fun _ h => h) rfl dX11_begin_36 ?_
          refine j_iload_n hX dX11_begin_39 1 rfl ?_
          refine j_ialdN hX (show gd (Q 10) = some (aI (xK X) 8 (D 10)) from hD.2.1 10 (by decide)) (r) (rfl) (hr) (by decide) dX11_begin_40 ?_
          refine j_eqi (y := nI (Bs r).length) (by rw [hKD.1 10 (by decide) (by decide) (by decide), hK 10 (by decide) (by decide) (by decide)]; exact (hO r hr).1) ?_
          refine j_iadd hX dX11_begin_41 ?_
          refine j_eqi (y := nI (20 * r + (Bs r).length)) (ix20 r _) ?_
          refine j_icmp_ge hX 96 dX11_begin_42 (by decide) (fun c_42 => absurd c_42 (nI_ge (a := 20 * r + k) (b := 20 * r + (Bs r).length) (by omega) (by omega))) (fun _ => ?_)
          refine j_aload_n hX dX11_begin_45 2 rfl ?_
          refine j_get (v := .ref (Q 12)) hX hD.1 rfl wf_X11 14 (by decide) lk_X11_47 (fun _ h => h) rfl dX11_begin_46 ?_
          refine j_iload_n hX dX11_begin_49 0 rfl ?_
          refine j_aload_n hX dX11_begin_50 2 rfl ?_
          refine j_get (v := .ref (Q 9)) hX hD.1 rfl wf_X11 11 (by decide) lk_X11_38 (fun _ h => h) rfl dX11_begin_51 ?_
          refine j_iload_n hX dX11_begin_54 0 rfl ?_
          refine j_ialdN hX (show gd (Q 9) = some (aI (xK X) 512 (D 9)) from hD.2.1 9 (by decide)) (20 * r + k) (rfl) (by omega) (by decide) dX11_begin_55 ?_
          refine j_iastN hX (show gd (Q 12) = some (aI (xK X) 512 (D 12)) from hD.2.1 12 (by decide)) (20 * r + k) (rfl) (by omega) (by decide) dX11_begin_56 ?_
          obtain ⟨gk1, egk1⟩ : ∃ z : Wd, z = up gd (Q 12) (aI (xK X) 512 (upd (D 12) (20 * r + k) (D 9 (20 * r + k)))) := ⟨_, rfl⟩
          refine j_w egk1.symm ?_
          obtain ⟨Fk1, eFk1⟩ : ∃ z, z = fu D 12 (upd (D 12) (20 * r + k) (D 9 (20 * r + k))) := ⟨_, rfl⟩
          have hSk1 : RS (xK X) gk1 m Q th oc (b01 true) Fk1 := by rw [egk1, eFk1]; exact hD.put 12 (by decide) _
          refine j_iconst (v := nI 0) hX dX11_begin_57 (by decide) ?_
          refine j_istore_n (lv' := [(3, .int (nI 0)), (2, .int (nI (20 * r + k))), (1, .int (nI r)), (0, .ref m)]) hX dX11_begin_58 (by rw [hn]; decide) rfl ?_
          have inner : ∀ (q c : Nat) (W : Nat → Nat → Int32) (gw : Wd), c + q = 4 → RS (xK X) gw m Q th oc (b01 true) W → (∀ j, j ≠ 11 → W j = Fk1 j) → (∀ i, (i < 80 * r + 4 * k ∨ 80 * r + 4 * k + c ≤ i) → W 11 i = Fk1 11 i) → (∀ z, z < c → W 11 (80 * r + 4 * k + z) = F 8 (80 * r + 4 * k + z)) → J X 0 0 gw 59 [(3, .int (nI c)), (2, .int (nI (20 * r + k))), (1, .int (nI r)), (0, .ref m)] [] := by
            intro q
            induction q with
            | zero =>
              intro c W gw hc hW hP hP1 hP2
              refine j_iload_n hX dX11_begin_59 0 rfl ?_
              refine j_iconst (v := nI 4) hX dX11_begin_60 (by decide) ?_
              refine j_icmp_ge hX 90 dX11_begin_61 (by decide) (fun _ => ?_) (fun c_61 => absurd (nI_le (a := 4) (b := c) (by omega) (by omega)) c_61)
              refine j_iinc (v := nI (20 * r + (k + 1))) (lv' := [(2, .int (nI (20 * r + (k + 1)))), (3, .int (nI c)), (1, .int (nI r)), (0, .ref m)]) hX dX11_begin_90 1 rfl (nI_1 (20 * r + k)) (by rw [hn]; decide) rfl ?_
              refine j_goto hX 30 dX11_begin_93 (by decide) ?_
              refine j_sub [0, 2, 3] rfl ?_
              exact ihk (k + 1) W gw (by omega) hW ⟨fun j h1 h2 h3 => by rw [hP j h1, eFk1, fu_n h2]; exact hKD.1 j h1 h2 h3, fun q hq => by rw [hP 13 (by decide), eFk1, fu_n (by decide)]; exact hKD.2.1 q hq, fun j hj => by rw [hP1 j (by omega), eFk1, fu_n (by decide)]; exact hKD.2.2.1 j hj, fun j hj => by rw [hP 12 (by decide), eFk1, fu_s, pk_un (by omega)]; exact hKD.2.2.2 j hj⟩ (by rw [hP 13 (by decide), eFk1, fu_n (by decide)]; exact hcD) (fun i hi => by
                by_cases e : i = k
                · subst e
                  exact ⟨by rw [hP 12 (by decide), eFk1, fu_s, pk_us, hKD.1 9 (by decide) (by decide) (by decide), hK 9 (by decide) (by decide) (by decide)], fun z hz => hP2 z (by omega)⟩
                · refine ⟨by rw [hP 12 (by decide), eFk1, fu_s, pk_un (by omega)]; exact (hM i (by omega)).1, fun z hz => ?_⟩
                  rw [hP1 _ (by omega), eFk1, fu_n (by decide)]; exact (hM i (by omega)).2 z hz)
            | succ q ihc =>
              intro c W gw hc hW hP hP1 hP2
              refine j_iload_n hX dX11_begin_59 0 rfl ?_
              refine j_iconst (v := nI 4) hX dX11_begin_60 (by decide) ?_
              refine j_icmp_ge hX 90 dX11_begin_61 (by decide) (fun c_61 => absurd c_61 (nI_ge (a := c) (b := 4) (by omega) (by decide))) (fun _ => ?_)
              refine j_aload_n hX dX11_begin_64 3 rfl ?_
              refine j_get (v := .ref (Q 11)) hX hW.1 rfl wf_X11 13 (by decide) lk_X11_44 (fun _ h => h) rfl dX11_begin_65 ?_
              refine j_iconst (v := nI 4) hX dX11_begin_68 (by decide) ?_
              refine j_iload_n hX dX11_begin_69 1 rfl ?_
              refine j_imul hX dX11_begin_70 ?_
              refine j_iload_n hX dX11_begin_71 0 rfl ?_
              refine j_iadd hX dX11_begin_72 ?_
              refine j_eqi (y := nI (80 * r + 4 * k + c)) (ix80 r k c) ?_
              refine j_aload_n hX dX11_begin_73 3 rfl ?_
              refine j_get (v := .ref (Q 8)) hX hW.1 rfl wf_X11 10 (by decide) lk_X11_35 (fun _ h => h) rfl dX11_begin_74 ?_
              refine j_iconst (v := nI 4) hX dX11_begin_77 (by decide) ?_
              refine j_iload_n hX dX11_begin_78 1 rfl ?_
              refine j_imul hX dX11_begin_79 ?_
              refine j_iload_n hX dX11_begin_80 0 rfl ?_
              refine j_iadd hX dX11_begin_81 ?_
              refine j_eqi (y := nI (80 * r + 4 * k + c)) (ix80 r k c) ?_
              refine j_ialdN hX (show gw (Q 8) = some (aI (xK X) 2048 (W 8)) from hW.2.1 8 (by decide)) (80 * r + 4 * k + c) (rfl) (by omega) (by decide) dX11_begin_82 ?_
              refine j_iastN hX (show gw (Q 11) = some (aI (xK X) 2048 (W 11)) from hW.2.1 11 (by decide)) (80 * r + 4 * k + c) (rfl) (by omega) (by decide) dX11_begin_83 ?_
              obtain ⟨gi1, egi1⟩ : ∃ z : Wd, z = up gw (Q 11) (aI (xK X) 2048 (upd (W 11) (80 * r + 4 * k + c) (W 8 (80 * r + 4 * k + c)))) := ⟨_, rfl⟩
              refine j_w egi1.symm ?_
              obtain ⟨Fi1, eFi1⟩ : ∃ z, z = fu W 11 (upd (W 11) (80 * r + 4 * k + c) (W 8 (80 * r + 4 * k + c))) := ⟨_, rfl⟩
              have hSi1 : RS (xK X) gi1 m Q th oc (b01 true) Fi1 := by rw [egi1, eFi1]; exact hW.put 11 (by decide) _
              refine j_iinc (v := nI (c + 1)) (lv' := [(3, .int (nI (c + 1))), (2, .int (nI (20 * r + k))), (1, .int (nI r)), (0, .ref m)]) hX dX11_begin_84 0 rfl (nI_1 c) (by rw [hn]; decide) rfl ?_
              refine j_goto hX 59 dX11_begin_87 (by decide) ?_
              refine j_sub [0, 1, 2, 3] rfl ?_
              exact ihc (c + 1) Fi1 gi1 (by omega) hSi1 (fun i hi => by rw [eFi1, fu_n hi]; exact hP i hi) (fun i hi => by rw [eFi1, fu_s, pk_un (by omega)]; exact hP1 i (by omega)) (fun z hz => by
                rw [eFi1, fu_s]
                by_cases e : z = c
                · rw [e, pk_us, hP 8 (by decide), eFk1, fu_n (by decide), hKD.1 8 (by decide) (by decide) (by decide), hK 8 (by decide) (by decide) (by decide)]
                · rw [pk_un (by omega)]; exact hP2 z (by omega))
          refine j_sub (lv' := [(3, .int (nI 0)), (2, .int (nI (20 * r + k))), (1, .int (nI r)), (0, .ref m)]) [0, 1, 2, 3] rfl ?_
          exact inner 4 0 Fk1 gk1 (by omega) hSk1 (fun _ _ => rfl) (fun _ _ => rfl) (fun z hz => absurd hz (by omega))
      refine j_sub (lv' := [(2, .int (nI (20 * r + 0))), (1, .int (nI r)), (0, .ref m)]) [0, 1, 2] rfl ?_
      exact mid (Bs r).length 0 Fo1 go1 (by omega) hSo1 ⟨fun j h1 h2 h3 => by rw [eFo1, fu_n h3], fun q hq => by rw [eFo1, fu_s, pk_un hq], fun j hj => by rw [eFo1, fu_n (by decide)], fun j hj => by rw [eFo1, fu_n (by decide)]⟩ (by rw [eFo1, fu_s, pk_us]) (fun i hi => absurd hi (by omega))
  refine j_sub (lv' := [(1, .int (nI 0)), (0, .ref m)]) [0, 1] rfl ?_
  exact loop 8 0 F g1 (by omega) hS1 (fun _ _ _ _ => rfl) (fun q hq => absurd hq (by omega))

set_option maxRecDepth 20000 in
set_option maxHeartbeats 600000 in
theorem c_X11_become (l : Launch) (K : Cst) (g : Wd) (m : Nat) (Q : Nat → Nat) (th oc fi : Int32) (F : Nat → Nat → Int32) (hS : RS K g m Q th oc fi F) (Bs : Nat → Bg) (hO : ∀ q, q < 8 → rp 11 12 13 F q (Bs q)) (hl : ∀ q, q < 8 → (Bs q).length ≤ 20) : Ct l K yX11_become cX11_become 4 none 0 [.ref m] g (fun v g' => v = none ∧ ∃ F', RS K g' m Q th oc fi F' ∧ (∀ j, j ≠ 8 → j ≠ 9 → j ≠ 10 → F' j = F j) ∧ ∀ q, q < 8 → rp 8 9 10 F' q (Bs q)) (fun _ _ => False) 0 0 := by
  refine ct_of (by decide) (Nat.le_of_ble_eq_true rfl) ?_
  intro X hl hK hX hE hn hL hR hm
  subst hl; subst hK
  show J X 0 0 g 0 [(0, .ref m)] []
  refine j_iconst (v := nI 0) hX dX11_become_0 (by decide) ?_
  refine j_istore_n (lv' := [(1, .int (nI 0)), (0, .ref m)]) hX dX11_become_1 (by rw [hn]; decide) rfl ?_
  have loop : ∀ (n r : Nat) (G : Nat → Nat → Int32) (g9 : Wd), r + n = 8 → RS (xK X) g9 m Q th oc fi G → (∀ j, j ≠ 8 → j ≠ 9 → j ≠ 10 → G j = F j) → (∀ q, q < r → rp 8 9 10 G q (Bs q)) → J X 0 0 g9 2 [(1, .int (nI r)), (0, .ref m)] [] := by
    intro n
    induction n with
    | zero =>
      intro r G g9 hr8 hG hK hN
      refine j_iload_n hX dX11_become_2 0 rfl ?_
      refine j_bipush (v := nI 8) hX dX11_become_3 (by decide) ?_
      refine j_icmp_ge hX 97 dX11_become_5 (by decide) (fun _ => ?_) (fun c_5 => absurd (nI_le (a := 8) (b := r) (by omega) (by omega)) c_5)
      exact j_vret hX hE dX11_become_97 (⟨rfl, G, hG, hK, fun q hq => hN q (by omega)⟩) (by decide) (by decide)
    | succ n ih =>
      intro r G g9 hr8 hG hK hN
      have hr : r < 8 := by omega
      have hlr := hl r hr
      refine j_iload_n hX dX11_become_2 0 rfl ?_
      refine j_bipush (v := nI 8) hX dX11_become_3 (by decide) ?_
      refine j_icmp_ge hX 97 dX11_become_5 (by decide) (fun c_5 => absurd c_5 (nI_ge (a := r) (b := 8) hr (by decide))) (fun _ => ?_)
      refine j_aload_n hX dX11_become_8 1 rfl ?_
      refine j_get (v := .ref (Q 10)) hX hG.1 rfl wf_X11 12 (by decide) lk_X11_41 (fun _ h => h) rfl dX11_become_9 ?_
      refine j_iload_n hX dX11_become_12 0 rfl ?_
      refine j_aload_n hX dX11_become_13 1 rfl ?_
      refine j_get (v := .ref (Q 13)) hX hG.1 rfl wf_X11 15 (by decide) lk_X11_50 (fun _ h => h) rfl dX11_become_14 ?_
      refine j_iload_n hX dX11_become_17 0 rfl ?_
      refine j_ialdN hX (show g9 (Q 13) = some (aI (xK X) 8 (G 13)) from hG.2.1 13 (by decide)) (r) (rfl) (hr) (by decide) dX11_become_18 ?_
      refine j_eqi (y := nI (Bs r).length) (by rw [hK 13 (by decide) (by decide) (by decide)]; exact (hO r hr).1) ?_
      refine j_iastN hX (show g9 (Q 10) = some (aI (xK X) 8 (G 10)) from hG.2.1 10 (by decide)) (r) (rfl) (hr) (by decide) dX11_become_19 ?_
      obtain ⟨go1, ego1⟩ : ∃ z : Wd, z = up g9 (Q 10) (aI (xK X) 8 (upd (G 10) (r) (nI (Bs r).length))) := ⟨_, rfl⟩
      refine j_w ego1.symm ?_
      obtain ⟨Fo1, eFo1⟩ : ∃ z, z = fu G 10 (upd (G 10) (r) (nI (Bs r).length)) := ⟨_, rfl⟩
      have hSo1 : RS (xK X) go1 m Q th oc fi Fo1 := by rw [ego1, eFo1]; exact hG.put 10 (by decide) _
      refine j_bipush (v := nI 20) hX dX11_become_20 (by decide) ?_
      refine j_iload_n hX dX11_become_22 0 rfl ?_
      refine j_imul hX dX11_become_23 ?_
      refine j_eqi (y := nI (20 * r + 0)) (by rw [pk_mul]; rfl) ?_
      refine j_istore_n (lv' := [(2, .int (nI (20 * r + 0))), (1, .int (nI r)), (0, .ref m)]) hX dX11_become_24 (by rw [hn]; decide) rfl ?_
      have mid : ∀ (p k : Nat) (D : Nat → Nat → Int32) (gd : Wd), k + p = (Bs r).length → RS (xK X) gd m Q th oc fi D → Kg 8 9 10 r G D → D 10 r = nI (Bs r).length → (∀ i, i < k → D 9 (20 * r + i) = F 12 (20 * r + i) ∧ ∀ z, z < 4 → D 8 (80 * r + 4 * i + z) = F 11 (80 * r + 4 * i + z)) → J X 0 0 gd 25 [(2, .int (nI (20 * r + k))), (1, .int (nI r)), (0, .ref m)] [] := by
        intro p
        induction p with
        | zero =>
          intro k D gd hk hD hKD hcD hM
          refine j_iload_n hX dX11_become_25 0 rfl ?_
          refine j_bipush (v := nI 20) hX dX11_become_26 (by decide) ?_
          refine j_iload_n hX dX11_become_28 1 rfl ?_
          refine j_imul hX dX11_become_29 ?_
          refine j_aload_n hX dX11_become_30 2 rfl ?_
          refine j_get (v := .ref (Q 10)) hX hD.1 rfl wf_X11 12 (by decide) lk_X11_41 (fun _ h => h) rfl dX11_become_31 ?_
          refine j_iload_n hX dX11_become_34 1 rfl ?_
          refine j_ialdN hX (show gd (Q 10) = some (aI (xK X) 8 (D 10)) from hD.2.1 10 (by decide)) (r) (rfl) (hr) (by decide) dX11_become_35 ?_
          refine j_eqi (y := nI (Bs r).length) (hcD) ?_
          refine j_iadd hX dX11_become_36 ?_
          refine j_eqi (y := nI (20 * r + (Bs r).length)) (ix20 r _) ?_
          refine j_icmp_ge hX 91 dX11_become_37 (by decide) (fun _ => ?_) (fun c_37 => absurd (nI_le (a := 20 * r + (Bs r).length) (b := 20 * r + k) (by omega) (by omega)) c_37)
          refine j_iinc (v := nI (r + 1)) (lv' := [(1, .int (nI (r + 1))), (2, .int (nI (20 * r + k))), (0, .ref m)]) hX dX11_become_91 1 rfl (nI_1 r) (by rw [hn]; decide) rfl ?_
          refine j_goto hX 2 dX11_become_94 (by decide) ?_
          refine j_sub [0, 2] rfl ?_
          exact ih (r + 1) D gd (by omega) hD (fun j h1 h2 h3 => (hKD.1 j h1 h2 h3).trans (hK j h1 h2 h3)) (fun q hq => by
            by_cases e : q = r
            · subst e; exact ⟨hcD, repA_of (hO q hr).2 (fun i hi => hM i (by omega))⟩
            · exact hKD.nb e (hN q (by omega)) (hl q (by omega)))
        | succ p ihk =>
          intro k D gd hk hD hKD hcD hM
          refine j_iload_n hX dX11_become_25 0 rfl ?_
          refine j_bipush (v := nI 20) hX dX11_become_26 (by decide) ?_
          refine j_iload_n hX dX11_become_28 1 rfl ?_
          refine j_imul hX dX11_become_29 ?_
          refine j_aload_n hX dX11_become_30 2 rfl ?_
          refine j_get (v := .ref (Q 10)) hX hD.1 rfl wf_X11 12 (by decide) lk_X11_41 (fun _ h => h) rfl dX11_become_31 ?_
          refine j_iload_n hX dX11_become_34 1 rfl ?_
          refine j_ialdN hX (show gd (Q 10) = some (aI (xK X) 8 (D 10)) from hD.2.1 10 (by decide)) (r) (rfl) (hr) (by decide) dX11_become_35 ?_
          refine j_eqi (y := nI (Bs r).length) (hcD) ?_
          refine j_iadd hX dX11_become_36 ?_
          refine j_eqi (y := nI (20 * r + (Bs r).length)) (ix20 r _) ?_
          refine j_icmp_ge hX 91 dX11_become_37 (by decide) (fun c_37 => absurd c_37 (nI_ge (a := 20 * r + k) (b := 20 * r + (Bs r).length) (by omega) (by omega))) (fun _ => ?_)
          refine j_aload_n hX dX11_become_40 2 rfl ?_
          refine j_get (v := .ref (Q 9)) hX hD.1 rfl wf_X11 11 (by decide) lk_X11_38 (fun _ h => h) rfl dX11_become_41 ?_
          refine j_iload_n hX dX11_become_44 0 rfl ?_
          refine j_aload_n hX dX11_become_45 2 rfl ?_
          refine j_get (v := .ref (Q 12)) hX hD.1 rfl wf_X11 14 (by decide) lk_X11_47 (fun _ h => h) rfl dX11_become_46 ?_
          refine j_iload_n hX dX11_become_49 0 rfl ?_
          refine j_ialdN hX (show gd (Q 12) = some (aI (xK X) 512 (D 12)) from hD.2.1 12 (by decide)) (20 * r + k) (rfl) (by omega) (by decide) dX11_become_50 ?_
          refine j_iastN hX (show gd (Q 9) = some (aI (xK X) 512 (D 9)) from hD.2.1 9 (by decide)) (20 * r + k) (rfl) (by omega) (by decide) dX11_become_51 ?_
          obtain ⟨gk1, egk1⟩ : ∃ z : Wd, z = up gd (Q 9) (aI (xK X) 512 (upd (D 9) (20 * r + k) (D 12 (20 * r + k)))) := ⟨_, rfl⟩
          refine j_w egk1.symm ?_
          obtain ⟨Fk1, eFk1⟩ : ∃ z, z = fu D 9 (upd (D 9) (20 * r + k) (D 12 (20 * r + k))) := ⟨_, rfl⟩
          have hSk1 : RS (xK X) gk1 m Q th oc fi Fk1 := by rw [egk1, eFk1]; exact hD.put 9 (by decide) _
          refine j_iconst (v := nI 0) hX dX11_become_52 (by decide) ?_
          refine j_istore_n (lv' := [(3, .int (nI 0)), (2, .int (nI (20 * r + k))), (1, .int (nI r)), (0, .ref m)]) hX dX11_become_53 (by rw [hn]; decide) rfl ?_
          have inner : ∀ (q c : Nat) (W : Nat → Nat → Int32) (gw : Wd), c + q = 4 → RS (xK X) gw m Q th oc fi W → (∀ j, j ≠ 8 → W j = Fk1 j) → (∀ i, (i < 80 * r + 4 * k ∨ 80 * r + 4 * k + c ≤ i) → W 8 i = Fk1 8 i) → (∀ z, z < c → W 8 (80 * r + 4 * k + z) = F 11 (80 * r + 4 * k + z)) → J X 0 0 gw 54 [(3, .int (nI c)), (2, .int (nI (20 * r + k))), (1, .int (nI r)), (0, .ref m)] [] := by
            intro q
            induction q with
            | zero =>
              intro c W gw hc hW hP hP1 hP2
              refine j_iload_n hX dX11_become_54 0 rfl ?_
              refine j_iconst (v := nI 4) hX dX11_become_55 (by decide) ?_
              refine j_icmp_ge hX 85 dX11_become_56 (by decide) (fun _ => ?_) (fun c_56 => absurd (nI_le (a := 4) (b := c) (by omega) (by omega)) c_56)
              refine j_iinc (v := nI (20 * r + (k + 1))) (lv' := [(2, .int (nI (20 * r + (k + 1)))), (3, .int (nI c)), (1, .int (nI r)), (0, .ref m)]) hX dX11_become_85 1 rfl (nI_1 (20 * r + k)) (by rw [hn]; decide) rfl ?_
              refine j_goto hX 25 dX11_become_88 (by decide) ?_
              refine j_sub [0, 2, 3] rfl ?_
              exact ihk (k + 1) W gw (by omega) hW ⟨fun j h1 h2 h3 => by rw [hP j h1, eFk1, fu_n h2]; exact hKD.1 j h1 h2 h3, fun q hq => by rw [hP 10 (by decide), eFk1, fu_n (by decide)]; exact hKD.2.1 q hq, fun j hj => by rw [hP1 j (by omega), eFk1, fu_n (by decide)]; exact hKD.2.2.1 j hj, fun j hj => by rw [hP 9 (by decide), eFk1, fu_s, pk_un (by omega)]; exact hKD.2.2.2 j hj⟩ (by rw [hP 10 (by decide), eFk1, fu_n (by decide)]; exact hcD) (fun i hi => by
                by_cases e : i = k
                · subst e
                  exact ⟨by rw [hP 9 (by decide), eFk1, fu_s, pk_us, hKD.1 12 (by decide) (by decide) (by decide), hK 12 (by decide) (by decide) (by decide)], fun z hz => hP2 z (by omega)⟩
                · refine ⟨by rw [hP 9 (by decide), eFk1, fu_s, pk_un (by omega)]; exact (hM i (by omega)).1, fun z hz => ?_⟩
                  rw [hP1 _ (by omega), eFk1, fu_n (by decide)]; exact (hM i (by omega)).2 z hz)
            | succ q ihc =>
              intro c W gw hc hW hP hP1 hP2
              refine j_iload_n hX dX11_become_54 0 rfl ?_
              refine j_iconst (v := nI 4) hX dX11_become_55 (by decide) ?_
              refine j_icmp_ge hX 85 dX11_become_56 (by decide) (fun c_56 => absurd c_56 (nI_ge (a := c) (b := 4) (by omega) (by decide))) (fun _ => ?_)
              refine j_aload_n hX dX11_become_59 3 rfl ?_
              refine j_get (v := .ref (Q 8)) hX hW.1 rfl wf_X11 10 (by decide) lk_X11_35 (fun _ h => h) rfl dX11_become_60 ?_
              refine j_iconst (v := nI 4) hX dX11_become_63 (by decide) ?_
              refine j_iload_n hX dX11_become_64 1 rfl ?_
              refine j_imul hX dX11_become_65 ?_
              refine j_iload_n hX dX11_become_66 0 rfl ?_
              refine j_iadd hX dX11_become_67 ?_
              refine j_eqi (y := nI (80 * r + 4 * k + c)) (ix80 r k c) ?_
              refine j_aload_n hX dX11_become_68 3 rfl ?_
              refine j_get (v := .ref (Q 11)) hX hW.1 rfl wf_X11 13 (by decide) lk_X11_44 (fun _ h => h) rfl dX11_become_69 ?_
              refine j_iconst (v := nI 4) hX dX11_become_72 (by decide) ?_
              refine j_iload_n hX dX11_become_73 1 rfl ?_
              refine j_imul hX dX11_become_74 ?_
              refine j_iload_n hX dX11_become_75 0 rfl ?_
              refine j_iadd hX dX11_become_76 ?_
              refine j_eqi (y := nI (80 * r + 4 * k + c)) (ix80 r k c) ?_
              refine j_ialdN hX (show gw (Q 11) = some (aI (xK X) 2048 (W 11)) from hW.2.1 11 (by decide)) (80 * r + 4 * k + c) (rfl) (by omega) (by decide) dX11_become_77 ?_
              refine j_iastN hX (show gw (Q 8) = some (aI (xK X) 2048 (W 8)) from hW.2.1 8 (by decide)) (80 * r + 4 * k + c) (rfl) (by omega) (by decide) dX11_become_78 ?_
              obtain ⟨gi1, egi1⟩ : ∃ z : Wd, z = up gw (Q 8) (aI (xK X) 2048 (upd (W 8) (80 * r + 4 * k + c) (W 11 (80 * r + 4 * k + c)))) := ⟨_, rfl⟩
              refine j_w egi1.symm ?_
              obtain ⟨Fi1, eFi1⟩ : ∃ z, z = fu W 8 (upd (W 8) (80 * r + 4 * k + c) (W 11 (80 * r + 4 * k + c))) := ⟨_, rfl⟩
              have hSi1 : RS (xK X) gi1 m Q th oc fi Fi1 := by rw [egi1, eFi1]; exact hW.put 8 (by decide) _
              refine j_iinc (v := nI (c + 1)) (lv' := [(3, .int (nI (c + 1))), (2, .int (nI (20 * r + k))), (1, .int (nI r)), (0, .ref m)]) hX dX11_become_79 0 rfl (nI_1 c) (by rw [hn]; decide) rfl ?_
              refine j_goto hX 54 dX11_become_82 (by decide) ?_
              refine j_sub [0, 1, 2, 3] rfl ?_
              exact ihc (c + 1) Fi1 gi1 (by omega) hSi1 (fun i hi => by rw [eFi1, fu_n hi]; exact hP i hi) (fun i hi => by rw [eFi1, fu_s, pk_un (by omega)]; exact hP1 i (by omega)) (fun z hz => by
                rw [eFi1, fu_s]
                by_cases e : z = c
                · rw [e, pk_us, hP 11 (by decide), eFk1, fu_n (by decide), hKD.1 11 (by decide) (by decide) (by decide), hK 11 (by decide) (by decide) (by decide)]
                · rw [pk_un (by omega)]; exact hP2 z (by omega))
          refine j_sub (lv' := [(3, .int (nI 0)), (2, .int (nI (20 * r + k))), (1, .int (nI r)), (0, .ref m)]) [0, 1, 2, 3] rfl ?_
          exact inner 4 0 Fk1 gk1 (by omega) hSk1 (fun _ _ => rfl) (fun _ _ => rfl) (fun z hz => absurd hz (by omega))
      refine j_sub (lv' := [(2, .int (nI (20 * r + 0))), (1, .int (nI r)), (0, .ref m)]) [0, 1, 2] rfl ?_
      exact mid (Bs r).length 0 Fo1 go1 (by omega) hSo1 ⟨fun j h1 h2 h3 => by rw [eFo1, fu_n h3], fun q hq => by rw [eFo1, fu_s, pk_un hq], fun j hj => by rw [eFo1, fu_n (by decide)], fun j hj => by rw [eFo1, fu_n (by decide)]⟩ (by rw [eFo1, fu_s, pk_us]) (fun i hi => absurd hi (by omega))
  refine j_sub (lv' := [(1, .int (nI 0)), (0, .ref m)]) [0, 1] rfl ?_
  exact loop 8 0 F g (by omega) hS (fun _ _ _ _ => rfl) (fun q hq => absurd hq (by omega))

set_option maxRecDepth 20000 in
set_option maxHeartbeats 600000 in
theorem c_X11_enter (l : Launch) (K : Cst) (g : Wd) (m nO : Nat) (Q : Nat → Nat) (th fi : Int32) (F : Nat → Nat → Int32) (hS : RS K g m Q th (nI nO) fi F) (v : Nat) (hv : v < 8) (hnO : nO < 8) (kd wd lf rt : Int32) : Ct l K yX11_enter cX11_enter 6 none 0 [.ref m, .int (nI v), .int kd, .int wd, .int lf, .int rt] g (fun z g' => z = none ∧ ∃ F', RS K g' m Q th (nI (nO + 1)) fi F' ∧ F' 0 = upd (F 0) v kd ∧ F' 1 = upd (F 1) v wd ∧ F' 2 = upd (F 2) v lf ∧ F' 3 = upd (F 3) v rt ∧ F' 10 = upd (F 10) v (nI 0) ∧ F' 7 = upd (F 7) v (nI 0) ∧ F' 6 = upd (F 6) nO (nI v) ∧ ∀ j, j ≠ 0 → j ≠ 1 → j ≠ 2 → j ≠ 3 → j ≠ 6 → j ≠ 7 → j ≠ 10 → F' j = F j) (fun _ _ => False) 0 0 := by
  refine ct_of (by decide) (Nat.le_of_ble_eq_true rfl) ?_
  intro X hl hK hX hE hn hL hR hm
  subst hl; subst hK
  show J X 0 0 g 0 [(0, .ref m), (1, .int (nI v)), (2, .int kd), (3, .int wd), (4, .int lf), (5, .int rt)] []
  refine j_aload_n hX dX11_enter_0 0 rfl ?_
  refine j_get (v := .ref (Q 0)) hX hS.1 rfl wf_X11 1 (by decide) lk_X11_7 (fun _ h => h) rfl dX11_enter_1 ?_
  refine j_iload_n hX dX11_enter_4 1 rfl ?_
  refine j_iload_n hX dX11_enter_5 2 rfl ?_
  refine j_iastN hX (show g (Q 0) = some (aI (xK X) 8 (F 0)) from hS.2.1 0 (by decide)) (v) (rfl) (hv) (by decide) dX11_enter_6 ?_
  obtain ⟨g1, eg1⟩ : ∃ z : Wd, z = up g (Q 0) (aI (xK X) 8 (upd (F 0) (v) kd)) := ⟨_, rfl⟩
  refine j_w eg1.symm ?_
  obtain ⟨F1, eF1⟩ : ∃ z, z = fu F 0 (upd (F 0) (v) kd) := ⟨_, rfl⟩
  have hS1 : RS (xK X) g1 m Q th (nI nO) fi F1 := by rw [eg1, eF1]; exact hS.put 0 (by decide) _
  refine j_aload_n hX dX11_enter_7 0 rfl ?_
  refine j_get (v := .ref (Q 1)) hX hS1.1 rfl wf_X11 2 (by decide) lk_X11_13 (fun _ h => h) rfl dX11_enter_8 ?_
  refine j_iload_n hX dX11_enter_11 1 rfl ?_
  refine j_iload_n hX dX11_enter_12 3 rfl ?_
  refine j_iastN hX (show g1 (Q 1) = some (aI (xK X) 8 (F1 1)) from hS1.2.1 1 (by decide)) (v) (rfl) (hv) (by decide) dX11_enter_13 ?_
  obtain ⟨g2, eg2⟩ : ∃ z : Wd, z = up g1 (Q 1) (aI (xK X) 8 (upd (F1 1) (v) wd)) := ⟨_, rfl⟩
  refine j_w eg2.symm ?_
  obtain ⟨F2, eF2⟩ : ∃ z, z = fu F1 1 (upd (F1 1) (v) wd) := ⟨_, rfl⟩
  have hS2 : RS (xK X) g2 m Q th (nI nO) fi F2 := by rw [eg2, eF2]; exact hS1.put 1 (by decide) _
  refine j_aload_n hX dX11_enter_14 0 rfl ?_
  refine j_get (v := .ref (Q 2)) hX hS2.1 rfl wf_X11 3 (by decide) lk_X11_16 (fun _ h => h) rfl dX11_enter_15 ?_
  refine j_iload_n hX dX11_enter_18 1 rfl ?_
  refine j_iload hX dX11_enter_19 4 rfl ?_
  refine j_iastN hX (show g2 (Q 2) = some (aI (xK X) 8 (F2 2)) from hS2.2.1 2 (by decide)) (v) (rfl) (hv) (by decide) dX11_enter_21 ?_
  obtain ⟨g3, eg3⟩ : ∃ z : Wd, z = up g2 (Q 2) (aI (xK X) 8 (upd (F2 2) (v) lf)) := ⟨_, rfl⟩
  refine j_w eg3.symm ?_
  obtain ⟨F3, eF3⟩ : ∃ z, z = fu F2 2 (upd (F2 2) (v) lf) := ⟨_, rfl⟩
  have hS3 : RS (xK X) g3 m Q th (nI nO) fi F3 := by rw [eg3, eF3]; exact hS2.put 2 (by decide) _
  refine j_aload_n hX dX11_enter_22 0 rfl ?_
  refine j_get (v := .ref (Q 3)) hX hS3.1 rfl wf_X11 4 (by decide) lk_X11_19 (fun _ h => h) rfl dX11_enter_23 ?_
  refine j_iload_n hX dX11_enter_26 1 rfl ?_
  refine j_iload hX dX11_enter_27 5 rfl ?_
  refine j_iastN hX (show g3 (Q 3) = some (aI (xK X) 8 (F3 3)) from hS3.2.1 3 (by decide)) (v) (rfl) (hv) (by decide) dX11_enter_29 ?_
  obtain ⟨g4, eg4⟩ : ∃ z : Wd, z = up g3 (Q 3) (aI (xK X) 8 (upd (F3 3) (v) rt)) := ⟨_, rfl⟩
  refine j_w eg4.symm ?_
  obtain ⟨F4, eF4⟩ : ∃ z, z = fu F3 3 (upd (F3 3) (v) rt) := ⟨_, rfl⟩
  have hS4 : RS (xK X) g4 m Q th (nI nO) fi F4 := by rw [eg4, eF4]; exact hS3.put 3 (by decide) _
  refine j_aload_n hX dX11_enter_30 0 rfl ?_
  refine j_get (v := .ref (Q 10)) hX hS4.1 rfl wf_X11 12 (by decide) lk_X11_41 (fun _ h => h) rfl dX11_enter_31 ?_
  refine j_iload_n hX dX11_enter_34 1 rfl ?_
  refine j_iconst (v := nI 0) hX dX11_enter_35 (by decide) ?_
  refine j_iastN hX (show g4 (Q 10) = some (aI (xK X) 8 (F4 10)) from hS4.2.1 10 (by decide)) (v) (rfl) (hv) (by decide) dX11_enter_36 ?_
  obtain ⟨g5, eg5⟩ : ∃ z : Wd, z = up g4 (Q 10) (aI (xK X) 8 (upd (F4 10) (v) (nI 0))) := ⟨_, rfl⟩
  refine j_w eg5.symm ?_
  obtain ⟨F5, eF5⟩ : ∃ z, z = fu F4 10 (upd (F4 10) (v) (nI 0)) := ⟨_, rfl⟩
  have hS5 : RS (xK X) g5 m Q th (nI nO) fi F5 := by rw [eg5, eF5]; exact hS4.put 10 (by decide) _
  refine j_aload_n hX dX11_enter_37 0 rfl ?_
  refine j_get (v := .ref (Q 7)) hX hS5.1 rfl wf_X11 9 (by decide) lk_X11_32 (fun _ h => h) rfl dX11_enter_38 ?_
  refine j_iload_n hX dX11_enter_41 1 rfl ?_
  refine j_iconst (v := nI 0) hX dX11_enter_42 (by decide) ?_
  refine j_iastN hX (show g5 (Q 7) = some (aI (xK X) 8 (F5 7)) from hS5.2.1 7 (by decide)) (v) (rfl) (hv) (by decide) dX11_enter_43 ?_
  obtain ⟨g6, eg6⟩ : ∃ z : Wd, z = up g5 (Q 7) (aI (xK X) 8 (upd (F5 7) (v) (nI 0))) := ⟨_, rfl⟩
  refine j_w eg6.symm ?_
  obtain ⟨F6, eF6⟩ : ∃ z, z = fu F5 7 (upd (F5 7) (v) (nI 0)) := ⟨_, rfl⟩
  have hS6 : RS (xK X) g6 m Q th (nI nO) fi F6 := by rw [eg6, eF6]; exact hS5.put 7 (by decide) _
  refine j_aload_n hX dX11_enter_44 0 rfl ?_
  refine j_get (v := .ref (Q 6)) hX hS6.1 rfl wf_X11 7 (by decide) lk_X11_29 (fun _ h => h) rfl dX11_enter_45 ?_
  refine j_aload_n hX dX11_enter_48 0 rfl ?_
  refine j_get (v := .int (nI nO)) hX hS6.1 rfl wf_X11 8 (by decide) lk_X11_116 (fun _ h => h) rfl dX11_enter_49 ?_
  refine j_iload_n hX dX11_enter_52 1 rfl ?_
  refine j_iastN hX (show g6 (Q 6) = some (aI (xK X) 8 (F6 6)) from hS6.2.1 6 (by decide)) (nO) (rfl) (hnO) (by decide) dX11_enter_53 ?_
  obtain ⟨g7, eg7⟩ : ∃ z : Wd, z = up g6 (Q 6) (aI (xK X) 8 (upd (F6 6) (nO) (nI v))) := ⟨_, rfl⟩
  refine j_w eg7.symm ?_
  obtain ⟨F7, eF7⟩ : ∃ z, z = fu F6 6 (upd (F6 6) (nO) (nI v)) := ⟨_, rfl⟩
  have hS7 : RS (xK X) g7 m Q th (nI nO) fi F7 := by rw [eg7, eF7]; exact hS6.put 6 (by decide) _
  refine j_aload_n hX dX11_enter_54 0 rfl ?_
  refine j_dup hX dX11_enter_55 rfl ?_
  refine j_get (v := .int (nI nO)) hX hS7.1 rfl wf_X11 8 (by decide) lk_X11_116 (fun _ h => h) rfl dX11_enter_56 ?_
  refine j_iconst (v := nI 1) hX dX11_enter_59 (by decide) ?_
  refine j_iadd hX dX11_enter_60 ?_
  refine j_eqi (y := nI (nO + 1)) (nI_add nO 1) ?_
  refine j_put hX hS7.1 rfl wf_X11 tyX11_ok nmX11 8 (by decide) lk_X11_116 (fun _ h => h) rfl (tyX11_ok 8 (by decide)) rfl rfl (Nat.le_of_ble_eq_true rfl) dX11_enter_61 ?_
  obtain ⟨g8, eg8⟩ : ∃ z : Wd, z = up g7 m (ob 10 [.int th, .ref (Q 0), .ref (Q 1), .ref (Q 2), .ref (Q 3), .ref (Q 4), .ref (Q 5), .ref (Q 6), .int (nI (nO + 1)), .ref (Q 7), .ref (Q 8), .ref (Q 9), .ref (Q 10), .ref (Q 11), .ref (Q 12), .ref (Q 13), .int fi, .ref (Q 14)]) := ⟨_, rfl⟩
  refine j_w eg8.symm ?_
  have hS8 : RS (xK X) g8 m Q th (nI (nO + 1)) fi F7 := by rw [eg8]; exact hS7.obj _ _ _
  exact j_vret hX hE dX11_enter_64 (⟨rfl, F7, hS8, by simp [eF7, eF6, eF5, eF4, eF3, eF2, eF1, fu], by simp [eF7, eF6, eF5, eF4, eF3, eF2, eF1, fu], by simp [eF7, eF6, eF5, eF4, eF3, eF2, eF1, fu], by simp [eF7, eF6, eF5, eF4, eF3, eF2, eF1, fu], by simp [eF7, eF6, eF5, eF4, eF3, eF2, eF1, fu], by simp [eF7, eF6, eF5, eF4, eF3, eF2, eF1, fu], by simp [eF7, eF6, eF5, eF4, eF3, eF2, eF1, fu], fun j h0 h1 h2 h3 h6 h7 h10 => by rw [eF7, fu_n h6, eF6, fu_n h7, eF5, fu_n h10, eF4, fu_n h3, eF3, fu_n h2, eF2, fu_n h1, eF1, fu_n h0]⟩) (by decide) (by decide)

set_option maxRecDepth 20000 in
set_option maxHeartbeats 600000 in
theorem c_X11_leave (l : Launch) (K : Cst) (g : Wd) (m : Nat) (Od : List Nat) (Q : Nat → Nat) (th fi : Int32) (F : Nat → Nat → Int32) (hS : RS K g m Q th (nI Od.length) fi F) (v : Nat) (hv : v < 8) (hO : ∀ k x, Od[k]? = some x → F 6 k = nI x) (hOl : Od.length ≤ 8) (hO8 : ∀ x ∈ Od, x < 8) : Ct l K yX11_leave cX11_leave 4 none 0 [.ref m, .int (nI v)] g (fun z g' => z = none ∧ ∃ F', RS K g' m Q th (nI (Od.filter (· ≠ v)).length) fi F' ∧ F' 0 = upd (F 0) v (nI 0) ∧ F' 1 = upd (F 1) v (nI 0) ∧ F' 10 = upd (F 10) v (nI 0) ∧ (∀ j, j ≠ 0 → j ≠ 1 → j ≠ 6 → j ≠ 10 → F' j = F j) ∧ ∀ i x, (Od.filter (· ≠ v))[i]? = some x → F' 6 i = nI x) (fun _ _ => False) 0 0 := by
  refine ct_of (by decide) (Nat.le_of_ble_eq_true rfl) ?_
  intro X hl hK hX hE hn hL hR hm
  subst hl; subst hK
  show J X 0 0 g 0 [(0, .ref m), (1, .int (nI v))] []
  refine j_aload_n hX dX11_leave_0 0 rfl ?_
  refine j_get (v := .ref (Q 0)) hX hS.1 rfl wf_X11 1 (by decide) lk_X11_7 (fun _ h => h) rfl dX11_leave_1 ?_
  refine j_iload_n hX dX11_leave_4 1 rfl ?_
  refine j_iconst (v := nI 0) hX dX11_leave_5 (by decide) ?_
  refine j_iastN hX (show g (Q 0) = some (aI (xK X) 8 (F 0)) from hS.2.1 0 (by decide)) (v) (rfl) (hv) (by decide) dX11_leave_6 ?_
  obtain ⟨g1, eg1⟩ : ∃ z : Wd, z = up g (Q 0) (aI (xK X) 8 (upd (F 0) (v) (nI 0))) := ⟨_, rfl⟩
  refine j_w eg1.symm ?_
  obtain ⟨F1, eF1⟩ : ∃ z, z = fu F 0 (upd (F 0) (v) (nI 0)) := ⟨_, rfl⟩
  have hS1 : RS (xK X) g1 m Q th (nI Od.length) fi F1 := by rw [eg1, eF1]; exact hS.put 0 (by decide) _
  refine j_aload_n hX dX11_leave_7 0 rfl ?_
  refine j_get (v := .ref (Q 1)) hX hS1.1 rfl wf_X11 2 (by decide) lk_X11_13 (fun _ h => h) rfl dX11_leave_8 ?_
  refine j_iload_n hX dX11_leave_11 1 rfl ?_
  refine j_iconst (v := nI 0) hX dX11_leave_12 (by decide) ?_
  refine j_iastN hX (show g1 (Q 1) = some (aI (xK X) 8 (F1 1)) from hS1.2.1 1 (by decide)) (v) (rfl) (hv) (by decide) dX11_leave_13 ?_
  obtain ⟨g2, eg2⟩ : ∃ z : Wd, z = up g1 (Q 1) (aI (xK X) 8 (upd (F1 1) (v) (nI 0))) := ⟨_, rfl⟩
  refine j_w eg2.symm ?_
  obtain ⟨F2, eF2⟩ : ∃ z, z = fu F1 1 (upd (F1 1) (v) (nI 0)) := ⟨_, rfl⟩
  have hS2 : RS (xK X) g2 m Q th (nI Od.length) fi F2 := by rw [eg2, eF2]; exact hS1.put 1 (by decide) _
  refine j_aload_n hX dX11_leave_14 0 rfl ?_
  refine j_get (v := .ref (Q 10)) hX hS2.1 rfl wf_X11 12 (by decide) lk_X11_41 (fun _ h => h) rfl dX11_leave_15 ?_
  refine j_iload_n hX dX11_leave_18 1 rfl ?_
  refine j_iconst (v := nI 0) hX dX11_leave_19 (by decide) ?_
  refine j_iastN hX (show g2 (Q 10) = some (aI (xK X) 8 (F2 10)) from hS2.2.1 10 (by decide)) (v) (rfl) (hv) (by decide) dX11_leave_20 ?_
  obtain ⟨g3, eg3⟩ : ∃ z : Wd, z = up g2 (Q 10) (aI (xK X) 8 (upd (F2 10) (v) (nI 0))) := ⟨_, rfl⟩
  refine j_w eg3.symm ?_
  obtain ⟨F3, eF3⟩ : ∃ z, z = fu F2 10 (upd (F2 10) (v) (nI 0)) := ⟨_, rfl⟩
  have hS3 : RS (xK X) g3 m Q th (nI Od.length) fi F3 := by rw [eg3, eF3]; exact hS2.put 10 (by decide) _
  refine j_iconst (v := nI 0) hX dX11_leave_21 (by decide) ?_
  refine j_istore_n (lv' := [(2, .int (nI 0)), (0, .ref m), (1, .int (nI v))]) hX dX11_leave_22 (by rw [hn]; decide) rfl ?_
  refine j_iconst (v := nI 0) hX dX11_leave_23 (by decide) ?_
  refine j_istore_n (lv' := [(3, .int (nI 0)), (2, .int (nI 0)), (0, .ref m), (1, .int (nI v))]) hX dX11_leave_24 (by rw [hn]; decide) rfl ?_
  have loop : ∀ (n k : Nat) (G : Nat → Nat → Int32) (g9 : Wd), k + n = Od.length → RS (xK X) g9 m Q th (nI Od.length) fi G → (∀ j, j ≠ 6 → G j = F3 j) → (∀ i x, k ≤ i → Od[i]? = some x → G 6 i = nI x) → (∀ i x, (flt Od k v)[i]? = some x → G 6 i = nI x) → J X 0 0 g9 25 [(3, .int (nI k)), (2, .int (nI (flt Od k v).length)), (1, .int (nI v)), (0, .ref m)] [] := by
    intro n
    induction n with
    | zero =>
      intro k G g9 hk hG hK hR9 hF
      refine j_iload_n hX dX11_leave_25 0 rfl ?_
      refine j_aload_n hX dX11_leave_26 3 rfl ?_
      refine j_get (v := .int (nI Od.length)) hX hG.1 rfl wf_X11 8 (by decide) lk_X11_116 (fun _ h => h) rfl dX11_leave_27 ?_
      refine j_icmp_ge hX 64 dX11_leave_30 (by decide) (fun _ => ?_) (fun c_30 => absurd (nI_le (a := Od.length) (b := k) (by omega) (by omega)) c_30)
      refine j_aload_n hX dX11_leave_64 3 rfl ?_
      refine j_iload_n hX dX11_leave_65 1 rfl ?_
      refine j_put hX hG.1 rfl wf_X11 tyX11_ok nmX11 8 (by decide) lk_X11_116 (fun _ h => h) rfl (tyX11_ok 8 (by decide)) rfl rfl (Nat.le_of_ble_eq_true rfl) dX11_leave_66 ?_
      obtain ⟨ge1, ege1⟩ : ∃ z : Wd, z = up g9 m (ob 10 [.int th, .ref (Q 0), .ref (Q 1), .ref (Q 2), .ref (Q 3), .ref (Q 4), .ref (Q 5), .ref (Q 6), .int (nI (flt Od k v).length), .ref (Q 7), .ref (Q 8), .ref (Q 9), .ref (Q 10), .ref (Q 11), .ref (Q 12), .ref (Q 13), .int fi, .ref (Q 14)]) := ⟨_, rfl⟩
      refine j_w ege1.symm ?_
      have hSe1 : RS (xK X) ge1 m Q th (nI (flt Od k v).length) fi G := by rw [ege1]; exact hG.obj _ _ _
      exact j_vret hX hE dX11_leave_69 (⟨rfl, G, by rw [← flt_all v (show Od.length ≤ k by omega)]; exact hSe1, by rw [hK 0 (by decide), eF3, fu_n (by decide), eF2, fu_n (by decide), eF1, fu_s], by rw [hK 1 (by decide), eF3, fu_n (by decide), eF2, fu_s, eF1, fu_n (by decide)], by rw [hK 10 (by decide), eF3, fu_s, eF2, fu_n (by decide), eF1, fu_n (by decide)], fun j h0 h1 h6 h10 => by rw [hK j h6, eF3, fu_n h10, eF2, fu_n h1, eF1, fu_n h0], fun i x hx => hF i x (by rw [flt_all v (show Od.length ≤ k by omega)]; exact hx)⟩) (by decide) (by decide)
    | succ n ih =>
      intro k G g9 hk hG hK hR9 hF
      have hkl : k < Od.length := by omega
      by_cases hev : Od[k] = v
      · have eS : flt Od (k + 1) v = flt Od k v := by rw [flt_snoc hkl, if_neg (fun q => q hev), List.append_nil]
        refine j_iload_n hX dX11_leave_25 0 rfl ?_
        refine j_aload_n hX dX11_leave_26 3 rfl ?_
        refine j_get (v := .int (nI Od.length)) hX hG.1 rfl wf_X11 8 (by decide) lk_X11_116 (fun _ h => h) rfl dX11_leave_27 ?_
        refine j_icmp_ge hX 64 dX11_leave_30 (by decide) (fun c_30 => absurd c_30 (nI_ge (a := k) (b := Od.length) (by omega) (by omega))) (fun _ => ?_)
        refine j_aload_n hX dX11_leave_33 3 rfl ?_
        refine j_get (v := .ref (Q 6)) hX hG.1 rfl wf_X11 7 (by decide) lk_X11_29 (fun _ h => h) rfl dX11_leave_34 ?_
        refine j_iload_n hX dX11_leave_37 0 rfl ?_
        refine j_ialdN hX (show g9 (Q 6) = some (aI (xK X) 8 (G 6)) from hG.2.1 6 (by decide)) (k) (rfl) (by omega) (by decide) dX11_leave_38 ?_
        refine j_eqi (y := nI Od[k]) (hR9 k _ (Nat.le_refl k) (List.getElem?_eq_getElem hkl)) ?_
        refine j_iload_n hX dX11_leave_39 2 rfl ?_
        refine j_icmp_eq hX 58 dX11_leave_40 (by decide) (fun _ => ?_) (fun c_40 => absurd (congrArg nI hev) c_40)
        refine j_iinc (v := nI (k + 1)) (lv' := [(3, .int (nI (k + 1))), (2, .int (nI (flt Od k v).length)), (1, .int (nI v)), (0, .ref m)]) hX dX11_leave_58 0 rfl (nI_1 k) (by rw [hn]; decide) rfl ?_
        refine j_goto hX 25 dX11_leave_61 (by decide) ?_
        refine j_sub (lv' := [(3, .int (nI (k + 1))), (2, .int (nI (flt Od k v).length)), (1, .int (nI v)), (0, .ref m)]) [0, 1, 2, 3] rfl ?_
        have := ih (k + 1) G g9 (by omega) hG hK (fun i x h1 h2 => hR9 i x (by omega) h2) (fun i x hx => hF i x (by rw [eS] at hx; exact hx))
        rw [eS] at this
        exact this
      · have eS : flt Od (k + 1) v = flt Od k v ++ [Od[k]] := by rw [flt_snoc hkl, if_pos hev]
        refine j_iload_n hX dX11_leave_25 0 rfl ?_
        refine j_aload_n hX dX11_leave_26 3 rfl ?_
        refine j_get (v := .int (nI Od.length)) hX hG.1 rfl wf_X11 8 (by decide) lk_X11_116 (fun _ h => h) rfl dX11_leave_27 ?_
        refine j_icmp_ge hX 64 dX11_leave_30 (by decide) (fun c_30 => absurd c_30 (nI_ge (a := k) (b := Od.length) (by omega) (by omega))) (fun _ => ?_)
        refine j_aload_n hX dX11_leave_33 3 rfl ?_
        refine j_get (v := .ref (Q 6)) hX hG.1 rfl wf_X11 7 (by decide) lk_X11_29 (fun _ h => h) rfl dX11_leave_34 ?_
        refine j_iload_n hX dX11_leave_37 0 rfl ?_
        refine j_ialdN hX (show g9 (Q 6) = some (aI (xK X) 8 (G 6)) from hG.2.1 6 (by decide)) (k) (rfl) (by omega) (by decide) dX11_leave_38 ?_
        refine j_eqi (y := nI Od[k]) (hR9 k _ (Nat.le_refl k) (List.getElem?_eq_getElem hkl)) ?_
        refine j_iload_n hX dX11_leave_39 2 rfl ?_
        refine j_icmp_eq hX 58 dX11_leave_40 (by decide) (fun c_40 => absurd c_40 (fun q => hev ((nI_eq (by have := hO8 Od[k] (List.getElem_mem _); omega) (by omega)).mp q))) (fun _ => ?_)
        refine j_aload_n hX dX11_leave_43 3 rfl ?_
        refine j_get (v := .ref (Q 6)) hX hG.1 rfl wf_X11 7 (by decide) lk_X11_29 (fun _ h => h) rfl dX11_leave_44 ?_
        refine j_iload_n hX dX11_leave_47 1 rfl ?_
        refine j_aload_n hX dX11_leave_48 3 rfl ?_
        refine j_get (v := .ref (Q 6)) hX hG.1 rfl wf_X11 7 (by decide) lk_X11_29 (fun _ h => h) rfl dX11_leave_49 ?_
        refine j_iload_n hX dX11_leave_52 0 rfl ?_
        refine j_ialdN hX (show g9 (Q 6) = some (aI (xK X) 8 (G 6)) from hG.2.1 6 (by decide)) (k) (rfl) (by omega) (by decide) dX11_leave_53 ?_
        refine j_eqi (y := nI Od[k]) (hR9 k _ (Nat.le_refl k) (List.getElem?_eq_getElem hkl)) ?_
        refine j_iastN hX (show g9 (Q 6) = some (aI (xK X) 8 (G 6)) from hG.2.1 6 (by decide)) ((flt Od k v).length) (rfl) (by have := flt_len Od k v; omega) (by decide) dX11_leave_54 ?_
        obtain ⟨gs1, egs1⟩ : ∃ z : Wd, z = up g9 (Q 6) (aI (xK X) 8 (upd (G 6) ((flt Od k v).length) (nI Od[k]))) := ⟨_, rfl⟩
        refine j_w egs1.symm ?_
        obtain ⟨Fs1, eFs1⟩ : ∃ z, z = fu G 6 (upd (G 6) ((flt Od k v).length) (nI Od[k])) := ⟨_, rfl⟩
        have hSs1 : RS (xK X) gs1 m Q th (nI Od.length) fi Fs1 := by rw [egs1, eFs1]; exact hG.put 6 (by decide) _
        refine j_iinc (v := nI ((flt Od k v).length + 1)) (lv' := [(2, .int (nI ((flt Od k v).length + 1))), (3, .int (nI k)), (1, .int (nI v)), (0, .ref m)]) hX dX11_leave_55 1 rfl (nI_1 _) (by rw [hn]; decide) rfl ?_
        refine j_iinc (v := nI (k + 1)) (lv' := [(3, .int (nI (k + 1))), (2, .int (nI ((flt Od k v).length + 1))), (1, .int (nI v)), (0, .ref m)]) hX dX11_leave_58 1 rfl (nI_1 k) (by rw [hn]; decide) rfl ?_
        refine j_goto hX 25 dX11_leave_61 (by decide) ?_
        refine j_sub (lv' := [(3, .int (nI (k + 1))), (2, .int (nI ((flt Od k v).length + 1))), (1, .int (nI v)), (0, .ref m)]) [0, 1, 2, 3] rfl ?_
        have := ih (k + 1) Fs1 gs1 (by omega) hSs1 (fun j h => by rw [eFs1, fu_n h]; exact hK j h) (fun i x h1 h2 => by rw [eFs1, fu_s, pk_un (by have := flt_len Od k v; omega)]; exact hR9 i x (by omega) h2) (fun i x hx => by
          rw [eS] at hx
          rw [eFs1, fu_s]
          rcases Nat.lt_trichotomy i (flt Od k v).length with q | q | q
          · rw [List.getElem?_append_left q] at hx; rw [pk_un (by omega)]; exact hF i x hx
          · subst q; rw [List.getElem?_append_right (Nat.le_refl _), Nat.sub_self] at hx; cases hx; rw [pk_us]
          · rw [List.getElem?_eq_none (by rw [List.length_append]; show _ + 1 ≤ i; omega)] at hx; cases hx)
        rw [eS, List.length_append] at this
        exact this
  refine j_sub (lv' := [(3, .int (nI 0)), (2, .int (nI 0)), (1, .int (nI v)), (0, .ref m)]) [0, 1, 3, 2] rfl ?_
  exact loop Od.length 0 F3 g3 (by omega) hS3 (fun _ _ => rfl) (fun i x _ hx => by rw [eF3, fu_n (by decide), eF2, fu_n (by decide), eF1, fu_n (by decide)]; exact hO i x hx) (fun i x hx => by rw [flt_0] at hx; cases hx)

