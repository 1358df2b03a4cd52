theorem ix84 (r j c : Nat) : nI 4 * nI (20 * r + j) + nI 4 + nI c = nI (80 * r + 4 * j + 4 + c) := by rw [pk_mul, nI_add, nI_add]; exact congrArg nI (by omega)
theorem ix8m (r j c : Nat) : nI 4 * nI (20 * r + (j + 1)) - nI 4 + nI c = nI (80 * r + 4 * j + c) := by rw [pk_mul, pk_sub (by omega), nI_add]; exact congrArg nI (by omega)
theorem ix2m (r j : Nat) : nI (20 * r + (j + 1)) - nI 1 = nI (20 * r + j) := by rw [pk_sub (by omega)]; rfl
theorem ix2d (r j : Nat) : nI (20 * r + (j + 1)) + Int32.ofInt (-1) = nI (20 * r + j) := by rw [← ix2m r j, Int32.sub_eq_add_neg]; rfl
theorem Kp.of {r : Nat} {F G : Nat → Nat → Int32} (h1 : ∀ j, j ≠ 11 → j ≠ 12 → j ≠ 13 → G j = F j) (h2 : ∀ q, q ≠ r → G 13 q = F 13 q) (h3 : ∀ j, (j < 80 * r ∨ 80 * r + 80 ≤ j) → G 11 j = F 11 j) (h4 : ∀ j, (j < 20 * r ∨ 20 * r + 20 ≤ j) → G 12 j = F 12 j) : Kp r F G := ⟨fun j hj => h1 j (by omega) (by omega) (by omega), h2, h3, h4⟩
set_option maxRecDepth 20000 in
set_option maxHeartbeats 600000 in
/-- cut(r, k) -/
theorem c_X11_cut (l : Launch) (K : Cst) (g : Wd) (m : Nat) (Q : Nat → Nat) (th oc fi : Int32) (F : Nat → Nat → Int32) (hS : RS K g m Q th oc fi F) (r k : Nat) (B : Bg) (hr : r < 8) (hB : NB F r B) (hl : B.length ≤ 20) (hk : k < B.length) : Ct l K yX11_cut cX11_cut 5 none 0 [.ref m, .int (nI r), .int (nI k)] g (fun v g' => v = none ∧ ∃ F', RS K g' m Q th oc fi F' ∧ Kp r F F' ∧ NB F' r (B.eraseIdx k)) (fun _ _ => False) 0 0 := by
  refine ct_of (by decide) (Nat.le_of_ble_eq_true rfl) ?_
  intro X hl hK hX hE hn hL hR hm
  subst hl; subst hK
  show J X 0 0 g 0 [(0, .ref m), (1, .int (nI r)), (2, .int (nI k))] []
  refine j_aload_n hX dX11_cut_0 0 rfl ?_
  refine j_get (v := .ref (Q 13)) hX hS.1 rfl wf_X11 15 (by decide) lk_X11_50 (fun _ h => h) rfl dX11_cut_1 ?_
  refine j_iload_n hX dX11_cut_4 1 rfl ?_
  refine j_dup2 hX dX11_cut_5 rfl rfl ?_
  refine j_ialdN hX (show g (Q 13) = some (aI (xK X) 8 (F 13)) from hS.2.1 13 (by decide)) (r) (rfl) (hr) (by decide) dX11_cut_6 ?_
  refine j_iconst (v := nI 1) hX dX11_cut_7 (by decide) ?_
  refine j_isub hX dX11_cut_8 ?_
  refine j_eqi (y := nI (B.length - 1)) (by rw [hB.1, pk_sub (by omega)]) ?_
  refine j_iastN hX (show g (Q 13) = some (aI (xK X) 8 (F 13)) from hS.2.1 13 (by decide)) (r) (rfl) (hr) (by decide) dX11_cut_9 ?_
  obtain ⟨g1, eg1⟩ : ∃ z : Wd, z = up g (Q 13) (aI (xK X) 8 (upd (F 13) (r) (nI (B.length - 1)))) := ⟨_, rfl⟩
  refine j_w eg1.symm ?_
  obtain ⟨F1, eF1⟩ : ∃ z, z = fu F 13 (upd (F 13) (r) (nI (B.length - 1))) := ⟨_, rfl⟩
  have hS1 : RS (xK X) g1 m Q th oc fi F1 := by rw [eg1, eF1]; exact hS.put 13 (by decide) _
  refine j_bipush (v := nI 20) hX dX11_cut_10 (by decide) ?_
  refine j_iload_n hX dX11_cut_12 1 rfl ?_
  refine j_imul hX dX11_cut_13 ?_
  refine j_iload_n hX dX11_cut_14 2 rfl ?_
  refine j_iadd hX dX11_cut_15 ?_
  refine j_eqi (y := nI (20 * r + k)) (ix20 r k) ?_
  refine j_istore_n (lv' := [(3, .int (nI (20 * r + k))), (0, .ref m), (1, .int (nI r)), (2, .int (nI k))]) hX dX11_cut_16 (by rw [hn]; decide) rfl ?_
  have loop : ∀ (q j : Nat) (G : Nat → Nat → Int32) (g9 : Wd), j + q = B.length - 1 → k ≤ j → RS (xK X) g9 m Q th oc fi G → (∀ i, i ≠ 11 → i ≠ 12 → G i = F1 i) → G 11 = va_cpy (F 11) (F 11) (80 * r + 4 * k + 4) (80 * r + 4 * k) (4 * (j - k)) → G 12 = va_cpy (F 12) (F 12) (20 * r + k + 1) (20 * r + k) (j - k) → J X 0 0 g9 17 [(3, .int (nI (20 * r + j))), (2, .int (nI k)), (1, .int (nI r)), (0, .ref m)] [] := by
    intro q
    induction q with
    | zero =>
      intro j G g9 hj hkj hG hK hC hT
      refine j_iload_n hX dX11_cut_17 0 rfl ?_
      refine j_bipush (v := nI 20) hX dX11_cut_18 (by decide) ?_
      refine j_iload_n hX dX11_cut_20 2 rfl ?_
      refine j_imul hX dX11_cut_21 ?_
      refine j_aload_n hX dX11_cut_22 3 rfl ?_
      refine j_get (v := .ref (Q 13)) hX hG.1 rfl wf_X11 15 (by decide) lk_X11_50 (fun _ h => h) rfl dX11_cut_23 ?_
      refine j_iload_n hX dX11_cut_26 2 rfl ?_
      refine j_ialdN hX (show g9 (Q 13) = some (aI (xK X) 8 (G 13)) from hG.2.1 13 (by decide)) (r) (rfl) (hr) (by decide) dX11_cut_27 ?_
      refine j_eqi (y := nI (B.length - 1)) (by rw [hK 13 (by decide) (by decide), eF1, fu_s, pk_us]) ?_
      refine j_iadd hX dX11_cut_28 ?_
      refine j_eqi (y := nI (20 * r + (B.length - 1))) (ix20 r _) ?_
      refine j_icmp_ge hX 91 dX11_cut_29 (by decide) (fun _ => ?_) (fun c_29 => absurd (nI_le (a := 20 * r + (B.length - 1)) (b := 20 * r + j) (by omega) (by omega)) c_29)
      exact j_vret hX hE dX11_cut_91 (⟨rfl, G, hG, Kp.of (fun i h1 h2 h3 => (hK i h1 h2).trans (by rw [eF1, fu_n h3])) (fun q hq => by rw [hK 13 (by decide) (by decide), eF1, fu_s, pk_un hq]) (fun i hi => by rw [hC, pk_cpy_out (by omega)]) (fun i hi => by rw [hT, pk_cpy_out (by omega)]), by rw [hK 13 (by decide) (by decide), eF1, fu_s, pk_us, List.length_eraseIdx, if_pos hk], by rw [hC, hT, show j - k = B.length - 1 - k by omega]; exact repA_erase hB.2 hk⟩) (by decide) (by decide)
    | succ q ih =>
      intro j G g9 hj hkj hG hK hC hT
      refine j_iload_n hX dX11_cut_17 0 rfl ?_
      refine j_bipush (v := nI 20) hX dX11_cut_18 (by decide) ?_
      refine j_iload_n hX dX11_cut_20 2 rfl ?_
      refine j_imul hX dX11_cut_21 ?_
      refine j_aload_n hX dX11_cut_22 3 rfl ?_
      refine j_get (v := .ref (Q 13)) hX hG.1 rfl wf_X11 15 (by decide) lk_X11_50 (fun _ h => h) rfl dX11_cut_23 ?_
      refine j_iload_n hX dX11_cut_26 2 rfl ?_
      refine j_ialdN hX (show g9 (Q 13) = some (aI (xK X) 8 (G 13)) from hG.2.1 13 (by decide)) (r) (rfl) (hr) (by decide) dX11_cut_27 ?_
      refine j_eqi (y := nI (B.length - 1)) (by rw [hK 13 (by decide) (by decide), eF1, fu_s, pk_us]) ?_
      refine j_iadd hX dX11_cut_28 ?_
      refine j_eqi (y := nI (20 * r + (B.length - 1))) (ix20 r _) ?_
      refine j_icmp_ge hX 91 dX11_cut_29 (by decide) (fun c_29 => absurd c_29 (nI_ge (a := 20 * r + j) (b := 20 * r + (B.length - 1)) (by omega) (by omega))) (fun _ => ?_)
      refine j_aload_n hX dX11_cut_32 3 rfl ?_
      refine j_get (v := .ref (Q 12)) hX hG.1 rfl wf_X11 14 (by decide) lk_X11_47 (fun _ h => h) rfl dX11_cut_33 ?_
      refine j_iload_n hX dX11_cut_36 0 rfl ?_
      refine j_aload_n hX dX11_cut_37 3 rfl ?_
      refine j_get (v := .ref (Q 12)) hX hG.1 rfl wf_X11 14 (by decide) lk_X11_47 (fun _ h => h) rfl dX11_cut_38 ?_
      refine j_iload_n hX dX11_cut_41 0 rfl ?_
      refine j_iconst (v := nI 1) hX dX11_cut_42 (by decide) ?_
      refine j_iadd hX dX11_cut_43 ?_
      refine j_eqi (y := nI (20 * r + j + 1)) (nI_add (20 * r + j) 1) ?_
      refine j_ialdN hX (show g9 (Q 12) = some (aI (xK X) 512 (G 12)) from hG.2.1 12 (by decide)) (20 * r + j + 1) (rfl) (by omega) (by decide) dX11_cut_44 ?_
      refine j_iastN hX (show g9 (Q 12) = some (aI (xK X) 512 (G 12)) from hG.2.1 12 (by decide)) (20 * r + j) (rfl) (by omega) (by decide) dX11_cut_45 ?_
      obtain ⟨gt1, egt1⟩ : ∃ z : Wd, z = up g9 (Q 12) (aI (xK X) 512 (upd (G 12) (20 * r + j) (G 12 (20 * r + j + 1)))) := ⟨_, rfl⟩
      refine j_w egt1.symm ?_
      obtain ⟨Ft1, eFt1⟩ : ∃ z, z = fu G 12 (upd (G 12) (20 * r + j) (G 12 (20 * r + j + 1))) := ⟨_, rfl⟩
      have hSt1 : RS (xK X) gt1 m Q th oc fi Ft1 := by rw [egt1, eFt1]; exact hG.put 12 (by decide) _
      refine j_iconst (v := nI 0) hX dX11_cut_46 (by decide) ?_
      refine j_istore (lv' := [(4, .int (nI 0)), (3, .int (nI (20 * r + j))), (2, .int (nI k)), (1, .int (nI r)), (0, .ref m)]) hX dX11_cut_47 (by rw [hn]; decide) rfl ?_
      have hK2 : ∀ i, i ≠ 11 → i ≠ 12 → Ft1 i = F1 i := fun i h1 h2 => by rw [eFt1, fu_n h2]; exact hK i h1 h2
      have hE2 : Ft1 11 = va_cpy (F 11) (F 11) (80 * r + 4 * k + 4) (80 * r + 4 * k) (4 * (j - k)) := by rw [eFt1, fu_n (by decide)]; exact hC
      have hT2 : Ft1 12 = va_cpy (F 12) (F 12) (20 * r + k + 1) (20 * r + k) (j + 1 - k) := by rw [eFt1, fu_s, hT, show 20 * r + j = 20 * r + k + (j - k) by omega, sd_t, show j - k + 1 = j + 1 - k by omega]
      have inner : ∀ (q c : Nat) (D : Nat → Nat → Int32) (gd : Wd), c + q = 4 → RS (xK X) gd m Q th oc fi D → (∀ i, i ≠ 11 → D i = Ft1 i) → D 11 = va_cpy (Ft1 11) (Ft1 11) (80 * r + 4 * j + 4) (80 * r + 4 * j) c → J X 0 0 gd 49 [(4, .int (nI c)), (3, .int (nI (20 * r + j))), (2, .int (nI k)), (1, .int (nI r)), (0, .ref m)] [] := by
        intro q
        induction q with
        | zero =>
          intro c D gd hc hD hDK hDC
          refine j_iload hX dX11_cut_49 0 rfl ?_
          refine j_iconst (v := nI 4) hX dX11_cut_51 (by decide) ?_
          refine j_icmp_ge hX 85 dX11_cut_52 (by decide) (fun _ => ?_) (fun c_52 => absurd (nI_le (a := 4) (b := c) (by omega) (by omega)) c_52)
          refine j_iinc (v := nI (20 * r + (j + 1))) (lv' := [(3, .int (nI (20 * r + (j + 1)))), (4, .int (nI c)), (2, .int (nI k)), (1, .int (nI r)), (0, .ref m)]) hX dX11_cut_85 1 rfl (nI_1 (20 * r + j)) (by rw [hn]; decide) rfl ?_
          refine j_goto hX 17 dX11_cut_88 (by decide) ?_
          refine j_sub [0, 2, 3, 4] rfl ?_
          exact ih (j + 1) D gd (by omega) (by omega) hD (fun i h1 h2 => (hDK i h1).trans (hK2 i h1 h2)) (by rw [hDC, show c = 4 by omega, hE2, show 80 * r + 4 * j = 80 * r + 4 * k + 4 * (j - k) by omega, sd_4]; exact congrArg _ (by omega)) ((hDK 12 (by decide)).trans hT2)
        | succ q ihc =>
          intro c D gd hc hD hDK hDC
          refine j_iload hX dX11_cut_49 0 rfl ?_
          refine j_iconst (v := nI 4) hX dX11_cut_51 (by decide) ?_
          refine j_icmp_ge hX 85 dX11_cut_52 (by decide) (fun c_52 => absurd c_52 (nI_ge (a := c) (b := 4) (by omega) (by decide))) (fun _ => ?_)
          refine j_aload_n hX dX11_cut_55 4 rfl ?_
          refine j_get (v := .ref (Q 11)) hX hD.1 rfl wf_X11 13 (by decide) lk_X11_44 (fun _ h => h) rfl dX11_cut_56 ?_
          refine j_iconst (v := nI 4) hX dX11_cut_59 (by decide) ?_
          refine j_iload_n hX dX11_cut_60 1 rfl ?_
          refine j_imul hX dX11_cut_61 ?_
          refine j_iload hX dX11_cut_62 0 rfl ?_
          refine j_iadd hX dX11_cut_64 ?_
          refine j_eqi (y := nI (80 * r + 4 * j + c)) (ix80 r j c) ?_
          refine j_aload_n hX dX11_cut_65 4 rfl ?_
          refine j_get (v := .ref (Q 11)) hX hD.1 rfl wf_X11 13 (by decide) lk_X11_44 (fun _ h => h) rfl dX11_cut_66 ?_
          refine j_iconst (v := nI 4) hX dX11_cut_69 (by decide) ?_
          refine j_iload_n hX dX11_cut_70 1 rfl ?_
          refine j_imul hX dX11_cut_71 ?_
          refine j_iconst (v := nI 4) hX dX11_cut_72 (by decide) ?_
          refine j_iadd hX dX11_cut_73 ?_
          refine j_iload hX dX11_cut_74 0 rfl ?_
          refine j_iadd hX dX11_cut_76 ?_
          refine j_eqi (y := nI (80 * r + 4 * j + 4 + c)) (ix84 r j c) ?_
          refine j_ialdN hX (show gd (Q 11) = some (aI (xK X) 2048 (D 11)) from hD.2.1 11 (by decide)) (80 * r + 4 * j + 4 + c) (rfl) (by omega) (by decide) dX11_cut_77 ?_
          refine j_iastN hX (show gd (Q 11) = some (aI (xK X) 2048 (D 11)) from hD.2.1 11 (by decide)) (80 * r + 4 * j + c) (rfl) (by omega) (by decide) dX11_cut_78 ?_
          obtain ⟨gi1, egi1⟩ : ∃ z : Wd, z = up gd (Q 11) (aI (xK X) 2048 (upd (D 11) (80 * r + 4 * j + c) (D 11 (80 * r + 4 * j + 4 + c)))) := ⟨_, rfl⟩
          refine j_w egi1.symm ?_
          obtain ⟨Fi1, eFi1⟩ : ∃ z, z = fu D 11 (upd (D 11) (80 * r + 4 * j + c) (D 11 (80 * r + 4 * j + 4 + c))) := ⟨_, rfl⟩
          have hSi1 : RS (xK X) gi1 m Q th oc fi Fi1 := by rw [egi1, eFi1]; exact hD.put 11 (by decide) _
          refine j_iinc (v := nI (c + 1)) (lv' := [(4, .int (nI (c + 1))), (3, .int (nI (20 * r + j))), (2, .int (nI k)), (1, .int (nI r)), (0, .ref m)]) hX dX11_cut_79 0 rfl (nI_1 c) (by rw [hn]; decide) rfl ?_
          refine j_goto hX 49 dX11_cut_82 (by decide) ?_
          refine j_sub [0, 1, 2, 3, 4] rfl ?_
          exact ihc (c + 1) Fi1 gi1 (by omega) hSi1 (fun i hi => by rw [eFi1, fu_n hi]; exact hDK i hi) (by rw [eFi1, fu_s, hDC]; exact sd_c (by omega))
      refine j_sub (lv' := [(4, .int (nI 0)), (3, .int (nI (20 * r + j))), (2, .int (nI k)), (1, .int (nI r)), (0, .ref m)]) [0, 1, 2, 3, 4] rfl ?_
      exact inner 4 0 Ft1 gt1 (by omega) hSt1 (fun _ _ => rfl) (by funext i; rw [pk_cpy_out (by omega)])
  refine j_sub (lv' := [(3, .int (nI (20 * r + k))), (2, .int (nI k)), (1, .int (nI r)), (0, .ref m)]) [0, 3, 2, 1] rfl ?_
  exact loop (B.length - 1 - k) k F1 g1 (by omega) (Nat.le_refl k) hS1 (fun _ _ _ => rfl) (by rw [eF1, fu_n (by decide)]; funext i; rw [pk_cpy_out (by omega)]) (by rw [eF1, fu_n (by decide)]; funext i; rw [pk_cpy_out (by omega)])

theorem ix8p (r j c : Nat) : nI 4 * nI (20 * r + (j + 1)) + nI c = nI (80 * r + 4 * j + 4 + c) := by rw [ix80]; exact congrArg nI (by omega)
/-- what add leaves: B' with the row, or no fit -/
def AddP (K : Cst) (m : Nat) (Q : Nat → Nat) (th oc : Int32) (fb : Bool) (F : Nat → Nat → Int32) (r w : Nat) (T : Row) (M : Int) (B : Bg) (v : Option Value) (g' : Wd) : Prop := v = none ∧ ∃ (F' : Nat → Nat → Int32) (fb' : Bool) (B' : Bg), RS K g' m Q th oc (b01 fb') F' ∧ Kp r F F' ∧ NB F' r B' ∧ wk w B' ∧ (fb' = true → fb = true ∧ addB T M B = some B') ∧ (fb' = false → fb = true → addB T M B = none)
theorem addP_at {K : Cst} {g' : Wd} {m : Nat} {Q : Nat → Nat} {th oc : Int32} {fb fb' : Bool} {F F' : Nat → Nat → Int32} {r w p s : Nat} {T : Row} {M : Int} {B : Bg} {x : Row × Nat} (hS : RS K g' m Q th oc (b01 fb') F') (eF : F' = fu F 12 (upd (F 12) (20 * r + p) (nI s))) (ep : p = plc B T) (hB : NB F r B) (hw : wk w B) (hx : B[p]? = some x) (hx1 : x.1 = T) (h0 : 0 < M) (h1 : fb' = true → fb = true ∧ (s : Int) = x.2 + M ∧ s ≤ 1000000000) (h2 : fb' = false → s = 0 ∧ (fb = true → 1000000000 < (x.2 : Int) + M)) : AddP K m Q th oc fb F r w T M B none g' := by
  have hp := rep_lt hx
  have hl := hw.2.2.1
  have hs : s ≤ 1000000000 := by
    cases fb'
    · have := (h2 rfl).1; omega
    · exact (h1 rfl).2.2
  have ha := addB_in (M := M) (ep ▸ hx) hx1
  refine ⟨rfl, F', fb', B.set p (x.1, s), hS, ?_, ⟨?_, ?_⟩, wk_set hw hx hs, fun e => ⟨(h1 e).1, ?_⟩, fun e f => ?_⟩
  · exact Kp.of (fun j _ h12 _ => by rw [eF, fu_n h12]) (fun q _ => by rw [eF, fu_n (by decide)]) (fun q _ => by rw [eF, fu_n (by decide)]) (fun q _ => by rw [eF, fu_s, pk_un (by omega)])
  · rw [eF, fu_n (by decide), List.length_set]; exact hB.1
  · rw [eF, fu_n (by decide), fu_s]; exact repA_set hB.2 hx
  · obtain ⟨_, e1, e2⟩ := h1 e
    rw [ha, if_neg (by omega), if_neg (by omega), ← ep, hx1, show ((x.2 : Int) + M).toNat = s by omega]
  · rw [ha, if_pos ((h2 e).2 f)]
theorem addP_no {K : Cst} {g' : Wd} {m : Nat} {Q : Nat → Nat} {th oc : Int32} {fb : Bool} {F : Nat → Nat → Int32} {r w : Nat} {T : Row} {M : Int} {B : Bg} (hS : RS K g' m Q th oc (b01 false) F) (hB : NB F r B) (hw : wk w B) (hx : ∀ x, B[plc B T]? = some x → x.1 ≠ T) (h0 : 0 < M) (h1 : 20 ≤ B.length ∨ 1000000000 < M) : AddP K m Q th oc fb F r w T M B none g' :=
  ⟨rfl, F, false, B, hS, Kp.rf r F, hB, hw, fun e => absurd e (by decide), fun _ _ => by rw [addB_out hx, if_neg (by omega), if_pos h1]⟩
theorem addP_ins {K : Cst} {g' : Wd} {m : Nat} {Q : Nat → Nat} {th oc : Int32} {fb : Bool} {F F' : Nat → Nat → Int32} {r w p : Nat} {T : Row} {M : Int} {B : Bg} (hS : RS K g' m Q th oc (b01 fb) F') (hK : ∀ i, i ≠ 11 → i ≠ 12 → i ≠ 13 → F' i = F i) (h13 : F' 13 = upd (F 13) r (nI (B.length + 1))) (ep : p = plc B T) (hB : NB F r B) (hw : wk w B) (hT : zr w T) (hx : ∀ x, B[plc B T]? = some x → x.1 ≠ T) (h0 : 0 < M) (h1 : M ≤ 1000000000) (hl : B.length < 20)
    (hC : ∀ i, (i < 80 * r + 4 * p ∨ 80 * r + 4 * p + 4 ≤ i) → F' 11 i = va_cpy (F 11) (F 11) (80 * r + 4 * p) (80 * r + 4 * p + 4) (4 * (B.length - p)) i) (hC2 : ∀ z, z < 4 → F' 11 (80 * r + 4 * p + z) = cellR T z) (h12 : F' 12 = upd (va_cpy (F 12) (F 12) (20 * r + p) (20 * r + p + 1) (B.length - p)) (20 * r + p) (nI M.toNat)) : AddP K m Q th oc fb F r w T M B none g' := by
  have hp : p ≤ B.length := by rw [ep]; exact plc_le B T
  have ha := addB_out (M := M) hx
  rw [if_neg (by omega), if_neg (by omega)] at ha
  refine ⟨rfl, F', fb, B.insertIdx p (T, M.toNat), hS, ?_, ⟨?_, ?_⟩, ?_, fun e => ⟨e, by rw [ha, ep]⟩, fun e f => absurd f (by rw [e]; decide)⟩
  · exact Kp.of hK (fun q hq => by rw [h13, pk_un hq]) (fun q _ => by rw [hC q (by omega), pk_cpy_out (by omega)]) (fun q _ => by rw [h12, pk_un (by omega), pk_cpy_out (by omega)])
  · rw [h13, pk_us, List.length_insertIdx, if_pos hp]
  · refine repA_ins hB.2 hp (fun i hi => ?_) (fun i hi => ?_) ⟨row_ext fun c hc => ?_, ?_⟩ (fun i h2 h3 => ?_) (fun i h2 h3 => ?_)
    · rw [hC i (Or.inl hi), pk_cpy_out (by omega)]
    · rw [h12, pk_un (by omega), pk_cpy_out (by omega)]
    · rw [← cellR_at hc]; exact hC2 c hc
    · rw [h12, pk_us]
    · rw [hC (i + 4) (by omega), pk_cpy_in (by omega) (by omega)]; exact congrArg (F 11) (by omega)
    · rw [h12, pk_un (by omega), pk_cpy_in (by omega) (by omega)]; exact congrArg (F 12) (by omega)
  · rw [ep]; exact wk_ins hw hx hT hl (by omega)
set_option maxRecDepth 20000 in
set_option maxHeartbeats 600000 in
/-- add(r, n) -/
theorem c_X11_add (l : Launch) (K : Cst) (g : Wd) (m : Nat) (Q : Nat → Nat) (th oc : Int32) (fb : Bool) (F : Nat → Nat → Int32) (hS : RS K g m Q th oc (b01 fb) F) (r w : Nat) (B : Bg) (hr : r < 8) (hw : F 1 r = nI w) (hw1 : 1 ≤ w) (hw4 : w ≤ 4) (hB : NB F r B) (hwk : wk w B) (T : Row) (hT : T = truncR w (rowAt (F 14) 0)) (n : Int64) (hM : 0 < n.toInt) (hM2 : n.toInt ≤ 1000000000000000000) : Ct l K yX11_add cX11_add 8 none 1 [.ref m, .int (nI r), .long n] g (AddP K m Q th oc fb F r w T n.toInt B) (fun _ _ => False) 0 0 := by
  refine ct_of (by decide) (Nat.le_of_ble_eq_true rfl) ?_
  intro X hl hK hX hE hn hL hR hm
  subst hl; subst hK
  show J X 0 0 g 0 [(0, .ref m), (1, .int (nI r)), (2, .long n)] []
  refine j_aload_n hX dX11_add_0 0 rfl ?_
  refine j_iload_n hX dX11_add_1 1 rfl ?_
  refine j_callV (As := [.int (nI r)]) (rest := []) hX (c_X11_place (xl X) (xK X) g m Q th oc (b01 fb) F hS r w B hr hw hw1 hw4 hB hwk.2.2.1 hwk.1 hwk.2.1) hS.1 rfl lk_X11_60 wI_X11_place wV_X11_X11_place wN_X11 wC_X11_place hd_X11_place rfl (by rw [hL]; decide) (by decide) rfl (Nat.le_of_ble_eq_true rfl) dX11_add_2 (by rw [hR]; decide) (by rw [hR]; decide) jx_no ?_
  rintro _ _ ⟨rfl, rfl⟩
  rw [← hT]
  obtain ⟨p, ep⟩ : ∃ z, z = plc B T := ⟨_, rfl⟩
  rw [← ep]
  have hp : p ≤ B.length := by rw [ep]; exact plc_le B T
  have hl := hwk.2.2.1
  show J X 0 0 g 5 [(0, .ref m), (1, .int (nI r)), (2, .long n)] [.int (nI p)]
  refine j_istore (lv' := [(4, .int (nI p)), (0, .ref m), (1, .int (nI r)), (2, .long n)]) hX dX11_add_5 (by rw [hn]; decide) rfl ?_
  refine j_bipush (v := nI 20) hX dX11_add_7 (by decide) ?_
  refine j_iload_n hX dX11_add_9 2 rfl ?_
  refine j_imul hX dX11_add_10 ?_
  refine j_iload hX dX11_add_11 0 rfl ?_
  refine j_iadd hX dX11_add_13 ?_
  refine j_eqi (y := nI (20 * r + p)) (ix20 r p) ?_
  refine j_istore (lv' := [(5, .int (nI (20 * r + p))), (4, .int (nI p)), (0, .ref m), (1, .int (nI r)), (2, .long n)]) hX dX11_add_14 (by rw [hn]; decide) rfl ?_
  refine j_aload_n hX dX11_add_16 2 rfl ?_
  refine j_iload_n hX dX11_add_17 3 rfl ?_
  refine j_iload hX dX11_add_18 1 rfl ?_
  refine j_callV (As := [.int (nI r), .int (nI p)]) (rest := []) hX (c_X11_isAt (xl X) (xK X) g m Q th oc (b01 fb) F hS r w B hr hw hw1 hw4 hB hwk.2.2.1 hwk.1 hwk.2.1 p (by omega)) hS.1 rfl lk_X11_64 wI_X11_isAt wV_X11_X11_isAt wN_X11 wC_X11_isAt hd_X11_isAt rfl (by rw [hL]; decide) (by decide) rfl (Nat.le_of_ble_eq_true rfl) dX11_add_20 (by rw [hR]; decide) (by rw [hR]; decide) jx_no ?_
  rintro _ _ ⟨b9, rfl, hb, rfl⟩
  rw [← hT] at hb
  show J X 0 0 g 23 [(5, .int (nI (20 * r + p))), (4, .int (nI p)), (0, .ref m), (1, .int (nI r)), (2, .long n)] [.int (b01 b9)]
  refine j_if_eq hX 87 dX11_add_23 (by decide) (fun c_23 => ?_) (fun c_23 => ?_)
  · have hno : ∀ x, B[plc B T]? = some x → x.1 ≠ T := fun x h1 h2 => b01_f c_23 (hb.mpr ⟨x, by rw [ep]; exact h1, h2⟩)
    refine j_aload_n hX dX11_add_87 2 rfl ?_
    refine j_get (v := .ref (Q 13)) hX hS.1 rfl wf_X11 15 (by decide) lk_X11_50 (fun _ h => h) rfl dX11_add_88 ?_
    refine j_iload_n hX dX11_add_91 3 rfl ?_
    refine j_ialdN hX (show g (Q 13) = some (aI (xK X) 8 (F 13)) from hS.2.1 13 (by decide)) (r) (rfl) (hr) (by decide) dX11_add_92 ?_
    refine j_bipush (v := nI 20) hX dX11_add_93 (by decide) ?_
    refine j_icmp_eq hX 106 dX11_add_95 (by decide) (fun c_95 => ?_) (fun c_95 => ?_)
    · refine j_aload_n hX dX11_add_106 2 rfl ?_
      refine j_iconst (v := b01 false) hX dX11_add_107 (by decide) ?_
      refine j_put hX hS.1 rfl wf_X11 tyX11_ok nmX11 16 (by decide) lk_X11_68 (fun _ h => h) rfl (tyX11_ok 16 (by decide)) rfl rfl (Nat.le_of_ble_eq_true rfl) dX11_add_108 ?_
      obtain ⟨g1, eg1⟩ : ∃ z : Wd, z = up g m (ob 10 [.int th, .ref (Q 0), .ref (Q 1), .ref (Q 2), .ref (Q 3), .ref (Q 4), .ref (Q 5), .ref (Q 6), .int oc, .ref (Q 7), .ref (Q 8), .ref (Q 9), .ref (Q 10), .ref (Q 11), .ref (Q 12), .ref (Q 13), .int (b01 false), .ref (Q 14)]) := ⟨_, rfl⟩
      refine j_w eg1.symm ?_
      have hS1 : RS (xK X) g1 m Q th oc (b01 false) F := by rw [eg1]; exact hS.obj _ _ _
      refine j_goto hX 265 dX11_add_111 (by decide) ?_
      exact j_vret hX hE dX11_add_265 (addP_no hS1 hB hwk hno hM (Or.inl (by have := (nI_eq (by omega) (by decide)).mp (hB.1.symm.trans c_95); omega))) (by decide) (by decide)
    · have hl19 : B.length < 20 := by
        rcases Nat.lt_or_ge B.length 20 with q | q
        · exact q
        · exact absurd (by rw [hB.1, show B.length = 20 by omega]) c_95
      refine j_lload_n hX dX11_add_98 4 rfl ?_
      refine j_ldc2 (v := 1000000000) hX lk_X11_72 dX11_add_99 ?_
      refine j_lcmp hX dX11_add_102 ?_
      refine j_if_le hX 114 dX11_add_103 (by decide) (fun c_103 => ?_) (fun c_103 => ?_)
      · have c103 := l_le.mp ((lg_cmp_le _ _).mp c_103)
        rw [l_bil] at c103
        refine j_bipush (v := nI 20) hX dX11_add_114 (by decide) ?_
        refine j_iload_n hX dX11_add_116 3 rfl ?_
        refine j_imul hX dX11_add_117 ?_
        refine j_aload_n hX dX11_add_118 2 rfl ?_
        refine j_get (v := .ref (Q 13)) hX hS.1 rfl wf_X11 15 (by decide) lk_X11_50 (fun _ h => h) rfl dX11_add_119 ?_
        refine j_iload_n hX dX11_add_122 3 rfl ?_
        refine j_ialdN hX (show g (Q 13) = some (aI (xK X) 8 (F 13)) from hS.2.1 13 (by decide)) (r) (rfl) (hr) (by decide) dX11_add_123 ?_
        refine j_eqi (y := nI B.length) (hB.1) ?_
        refine j_iadd hX dX11_add_124 ?_
        refine j_eqi (y := nI (20 * r + B.length)) (ix20 r _) ?_
        refine j_istore (lv' := [(6, .int (nI (20 * r + B.length))), (5, .int (nI (20 * r + p))), (4, .int (nI p)), (0, .ref m), (1, .int (nI r)), (2, .long n)]) hX dX11_add_125 (by rw [hn]; decide) rfl ?_
        have loop : ∀ (q j nn a9 s9 : Nat) (G : Nat → Nat → Int32) (g9 : Wd), j = p + q → nn + j = B.length → a9 = 20 * r + j → s9 = 80 * r + 4 * j → RS (xK X) g9 m Q th oc (b01 fb) G → (∀ i, i ≠ 11 → i ≠ 12 → G i = F i) → G 12 = va_cpy (F 12) (F 12) a9 (a9 + 1) nn → G 11 = va_cpy (F 11) (F 11) s9 (s9 + 4) (4 * nn) → J X 0 0 g9 127 [(6, .int (nI (20 * r + j))), (5, .int (nI (20 * r + p))), (4, .int (nI p)), (0, .ref m), (1, .int (nI r)), (2, .long n)] [] := by
          intro q
          induction q with
          | zero =>
            intro j nn a9 s9 G g9 hj hn9 ha hs9 hG hK hT2 hC
            refine j_iload hX dX11_add_127 0 rfl ?_
            refine j_iload hX dX11_add_129 1 rfl ?_
            refine j_icmp_le hX 197 dX11_add_131 (by decide) (fun _ => ?_) (fun c_131 => absurd (nI_le (a := 20 * r + j) (b := 20 * r + p) (by omega) (by omega)) c_131)
            refine j_aload_n hX dX11_add_197 3 rfl ?_
            refine j_get (v := .ref (Q 12)) hX hG.1 rfl wf_X11 14 (by decide) lk_X11_47 (fun _ h => h) rfl dX11_add_198 ?_
            refine j_iload hX dX11_add_201 1 rfl ?_
            refine j_lload_n hX dX11_add_203 5 rfl ?_
            refine j_l2i hX dX11_add_204 ?_
            refine j_eqi (y := nI n.toInt.toNat) (l_i32 (by omega)) ?_
            refine j_iastN hX (show g9 (Q 12) = some (aI (xK X) 512 (G 12)) from hG.2.1 12 (by decide)) (20 * r + p) (rfl) (by omega) (by decide) dX11_add_205 ?_
            obtain ⟨gz1, egz1⟩ : ∃ z : Wd, z = up g9 (Q 12) (aI (xK X) 512 (upd (G 12) (20 * r + p) (nI n.toInt.toNat))) := ⟨_, rfl⟩
            refine j_w egz1.symm ?_
            obtain ⟨Fz1, eFz1⟩ : ∃ z, z = fu G 12 (upd (G 12) (20 * r + p) (nI n.toInt.toNat)) := ⟨_, rfl⟩
            have hSz1 : RS (xK X) gz1 m Q th oc (b01 fb) Fz1 := by rw [egz1, eFz1]; exact hG.put 12 (by decide) _
            refine j_iconst (v := nI 0) hX dX11_add_206 (by decide) ?_
            refine j_istore (lv' := [(6, .int (nI 0)), (5, .int (nI (20 * r + p))), (4, .int (nI p)), (0, .ref m), (1, .int (nI r)), (2, .long n)]) hX dX11_add_207 (by rw [hn]; decide) rfl ?_
            have hz0 : ∀ i, i ≠ 11 → i ≠ 12 → Fz1 i = F i := fun i h1 h2 => by rw [eFz1, fu_n h2]; exact hK i h1 h2
            have hz13 : Fz1 13 = F 13 := hz0 13 (by decide) (by decide)
            have hz11 : Fz1 11 = va_cpy (F 11) (F 11) (80 * r + 4 * p) (80 * r + 4 * p + 4) (4 * (B.length - p)) := by rw [eFz1, fu_n (by decide), hC, show s9 = 80 * r + 4 * p by omega, show nn = B.length - p by omega]
            have hz12 : Fz1 12 = upd (va_cpy (F 12) (F 12) (20 * r + p) (20 * r + p + 1) (B.length - p)) (20 * r + p) (nI n.toInt.toNat) := by rw [eFz1, fu_s, hT2, show a9 = 20 * r + p by omega, show nn = B.length - p by omega]
            have fin : ∀ (q c : Nat) (D : Nat → Nat → Int32) (gd : Wd), c + q = 4 → RS (xK X) gd m Q th oc (b01 fb) D → (∀ i, i ≠ 11 → D i = Fz1 i) → (∀ i, (i < 80 * r + 4 * p ∨ 80 * r + 4 * p + c ≤ i) → D 11 i = Fz1 11 i) → (∀ z, z < c → D 11 (80 * r + 4 * p + z) = cellR T z) → J X 0 0 gd 209 [(6, .int (nI c)), (5, .int (nI (20 * r + p))), (4, .int (nI p)), (0, .ref m), (1, .int (nI r)), (2, .long n)] [] := by
              intro q
              induction q with
              | zero =>
                intro c D gd hc hD hDK hD1 hD2
                refine j_iload hX dX11_add_209 0 rfl ?_
                refine j_iconst (v := nI 4) hX dX11_add_211 (by decide) ?_
                refine j_icmp_ge hX 255 dX11_add_212 (by decide) (fun _ => ?_) (fun c_212 => absurd (nI_le (a := 4) (b := c) (by omega) (by omega)) c_212)
                refine j_aload_n hX dX11_add_255 3 rfl ?_
                refine j_get (v := .ref (Q 13)) hX hD.1 rfl wf_X11 15 (by decide) lk_X11_50 (fun _ h => h) rfl dX11_add_256 ?_
                refine j_iload_n hX dX11_add_259 4 rfl ?_
                refine j_dup2 hX dX11_add_260 rfl rfl ?_
                refine j_ialdN hX (show gd (Q 13) = some (aI (xK X) 8 (D 13)) from hD.2.1 13 (by decide)) (r) (rfl) (hr) (by decide) dX11_add_261 ?_
                refine j_iconst (v := nI 1) hX dX11_add_262 (by decide) ?_
                refine j_iadd hX dX11_add_263 ?_
                refine j_eqi (y := nI (B.length + 1)) (by rw [hDK 13 (by decide), hz13, hB.1, nI_add]) ?_
                refine j_iastN hX (show gd (Q 13) = some (aI (xK X) 8 (D 13)) from hD.2.1 13 (by decide)) (r) (rfl) (hr) (by decide) dX11_add_264 ?_
                obtain ⟨ge1, ege1⟩ : ∃ z : Wd, z = up gd (Q 13) (aI (xK X) 8 (upd (D 13) (r) (nI (B.length + 1)))) := ⟨_, rfl⟩
                refine j_w ege1.symm ?_
                obtain ⟨Fe1, eFe1⟩ : ∃ z, z = fu D 13 (upd (D 13) (r) (nI (B.length + 1))) := ⟨_, rfl⟩
                have hSe1 : RS (xK X) ge1 m Q th oc (b01 fb) Fe1 := by rw [ege1, eFe1]; exact hD.put 13 (by decide) _
                exact j_vret hX hE dX11_add_265 (addP_ins hSe1 (fun i h1 h2 h3 => by rw [eFe1, fu_n h3, hDK i h1]; exact hz0 i h1 h2) (by rw [eFe1, fu_s, hDK 13 (by decide), hz13]) ep hB hwk (by rw [hT]; exact zr_trunc hw1 _) hno hM (by omega) (by omega) (fun i hi => by rw [eFe1, fu_n (by decide), hD1 i (by omega), hz11]) (fun z hz => by rw [eFe1, fu_n (by decide)]; exact hD2 z (by omega)) (by rw [eFe1, fu_n (by decide), hDK 12 (by decide), hz12])) (by decide) (by decide)
              | succ q ihc =>
                intro c D gd hc hD hDK hD1 hD2
                rcases Nat.lt_or_ge c w with hcw | hcw
                · refine j_iload hX dX11_add_209 0 rfl ?_
                  refine j_iconst (v := nI 4) hX dX11_add_211 (by decide) ?_
                  refine j_icmp_ge hX 255 dX11_add_212 (by decide) (fun c_212 => absurd c_212 (nI_ge (a := c) (b := 4) (by omega) (by decide))) (fun _ => ?_)
                  refine j_aload_n hX dX11_add_215 3 rfl ?_
                  refine j_get (v := .ref (Q 11)) hX hD.1 rfl wf_X11 13 (by decide) lk_X11_44 (fun _ h => h) rfl dX11_add_216 ?_
                  refine j_iconst (v := nI 4) hX dX11_add_219 (by decide) ?_
                  refine j_iload hX dX11_add_220 1 rfl ?_
                  refine j_imul hX dX11_add_222 ?_
                  refine j_iload hX dX11_add_223 0 rfl ?_
                  refine j_iadd hX dX11_add_225 ?_
                  refine j_eqi (y := nI (80 * r + 4 * p + c)) (ix80 r p c) ?_
                  refine j_iload hX dX11_add_226 0 rfl ?_
                  refine j_aload_n hX dX11_add_228 3 rfl ?_
                  refine j_get (v := .ref (Q 1)) hX hD.1 rfl wf_X11 2 (by decide) lk_X11_13 (fun _ h => h) rfl dX11_add_229 ?_
                  refine j_iload_n hX dX11_add_232 4 rfl ?_
                  refine j_ialdN hX (show gd (Q 1) = some (aI (xK X) 8 (D 1)) from hD.2.1 1 (by decide)) (r) (rfl) (hr) (by decide) dX11_add_233 ?_
                  refine j_eqi (y := nI w) (by rw [hDK 1 (by decide), hz0 1 (by decide) (by decide)]; exact hw) ?_
                  refine j_icmp_ge hX 247 dX11_add_234 (by decide) (fun c_234 => absurd c_234 (nI_ge (a := c) (b := w) (by omega) (by omega))) (fun _ => ?_)
                  refine j_aload_n hX dX11_add_237 3 rfl ?_
                  refine j_get (v := .ref (Q 14)) hX hD.1 rfl wf_X11 17 (by decide) lk_X11_53 (fun _ h => h) rfl dX11_add_238 ?_
                  refine j_iload hX dX11_add_241 0 rfl ?_
                  refine j_ialdN hX (show gd (Q 14) = some (aI (xK X) 4 (D 14)) from hD.2.1 14 (by decide)) (c) (rfl) (by omega) (by decide) dX11_add_243 ?_
                  refine j_eqi (y := cellR T c) (by rw [hDK 14 (by decide), hz0 14 (by decide) (by decide), hT, cellR_trunc hw1 (by omega), if_pos hcw]; exact rowAt_cell (by omega)) ?_
                  refine j_goto hX 248 dX11_add_244 (by decide) ?_
                  refine j_iastN hX (show gd (Q 11) = some (aI (xK X) 2048 (D 11)) from hD.2.1 11 (by decide)) (80 * r + 4 * p + c) (rfl) (by omega) (by decide) dX11_add_248 ?_
                  obtain ⟨gs1, egs1⟩ : ∃ z : Wd, z = up gd (Q 11) (aI (xK X) 2048 (upd (D 11) (80 * r + 4 * p + c) (cellR T c))) := ⟨_, rfl⟩
                  refine j_w egs1.symm ?_
                  obtain ⟨Fs1, eFs1⟩ : ∃ z, z = fu D 11 (upd (D 11) (80 * r + 4 * p + c) (cellR T c)) := ⟨_, rfl⟩
                  have hSs1 : RS (xK X) gs1 m Q th oc (b01 fb) Fs1 := by rw [egs1, eFs1]; exact hD.put 11 (by decide) _
                  refine j_iinc (v := nI (c + 1)) (lv' := [(6, .int (nI (c + 1))), (5, .int (nI (20 * r + p))), (4, .int (nI p)), (0, .ref m), (1, .int (nI r)), (2, .long n)]) hX dX11_add_249 0 rfl (nI_1 c) (by rw [hn]; decide) rfl ?_
                  refine j_goto hX 209 dX11_add_252 (by decide) ?_
                  refine j_sub [0, 1, 2, 3, 4, 5] rfl ?_
                  exact ihc (c + 1) Fs1 gs1 (by omega) hSs1 (fun i hi => by rw [eFs1, fu_n hi]; exact hDK i hi) (fun i hi => by rw [eFs1, fu_s, pk_un (by omega)]; exact hD1 i (by omega)) (fun z hz => by
                    rw [eFs1, fu_s]
                    by_cases e : z = c
                    · rw [e, pk_us]
                    · rw [pk_un (by omega)]; exact hD2 z (by omega))
                · refine j_iload hX dX11_add_209 0 rfl ?_
                  refine j_iconst (v := nI 4) hX dX11_add_211 (by decide) ?_
                  refine j_icmp_ge hX 255 dX11_add_212 (by decide) (fun c_212 => absurd c_212 (nI_ge (a := c) (b := 4) (by omega) (by decide))) (fun _ => ?_)
                  refine j_aload_n hX dX11_add_215 3 rfl ?_
                  refine j_get (v := .ref (Q 11)) hX hD.1 rfl wf_X11 13 (by decide) lk_X11_44 (fun _ h => h) rfl dX11_add_216 ?_
                  refine j_iconst (v := nI 4) hX dX11_add_219 (by decide) ?_
                  refine j_iload hX dX11_add_220 1 rfl ?_
                  refine j_imul hX dX11_add_222 ?_
                  refine j_iload hX dX11_add_223 0 rfl ?_
                  refine j_iadd hX dX11_add_225 ?_
                  refine j_eqi (y := nI (80 * r + 4 * p + c)) (ix80 r p c) ?_
                  refine j_iload hX dX11_add_226 0 rfl ?_
                  refine j_aload_n hX dX11_add_228 3 rfl ?_
                  refine j_get (v := .ref (Q 1)) hX hD.1 rfl wf_X11 2 (by decide) lk_X11_13 (fun _ h => h) rfl dX11_add_229 ?_
                  refine j_iload_n hX dX11_add_232 4 rfl ?_
                  refine j_ialdN hX (show gd (Q 1) = some (aI (xK X) 8 (D 1)) from hD.2.1 1 (by decide)) (r) (rfl) (hr) (by decide) dX11_add_233 ?_
                  refine j_eqi (y := nI w) (by rw [hDK 1 (by decide), hz0 1 (by decide) (by decide)]; exact hw) ?_
                  refine j_icmp_ge hX 247 dX11_add_234 (by decide) (fun _ => ?_) (fun c_234 => absurd (nI_le (a := w) (b := c) (by omega) (by omega)) c_234)
                  refine j_iconst (v := nI 0) hX dX11_add_247 (by decide) ?_
                  refine j_eqi (y := cellR T c) (by rw [hT, cellR_trunc hw1 (by omega), if_neg (by omega)]; rfl) ?_
                  refine j_iastN hX (show gd (Q 11) = some (aI (xK X) 2048 (D 11)) from hD.2.1 11 (by decide)) (80 * r + 4 * p + c) (rfl) (by omega) (by decide) dX11_add_248 ?_
                  obtain ⟨gs1, egs1⟩ : ∃ z : Wd, z = up gd (Q 11) (aI (xK X) 2048 (upd (D 11) (80 * r + 4 * p + c) (cellR T c))) := ⟨_, rfl⟩
                  refine j_w egs1.symm ?_
                  obtain ⟨Fs1, eFs1⟩ : ∃ z, z = fu D 11 (upd (D 11) (80 * r + 4 * p + c) (cellR T c)) := ⟨_, rfl⟩
                  have hSs1 : RS (xK X) gs1 m Q th oc (b01 fb) Fs1 := by rw [egs1, eFs1]; exact hD.put 11 (by decide) _
                  refine j_iinc (v := nI (c + 1)) (lv' := [(6, .int (nI (c + 1))), (5, .int (nI (20 * r + p))), (4, .int (nI p)), (0, .ref m), (1, .int (nI r)), (2, .long n)]) hX dX11_add_249 0 rfl (nI_1 c) (by rw [hn]; decide) rfl ?_
                  refine j_goto hX 209 dX11_add_252 (by decide) ?_
                  refine j_sub [0, 1, 2, 3, 4, 5] rfl ?_
                  exact ihc (c + 1) Fs1 gs1 (by omega) hSs1 (fun i hi => by rw [eFs1, fu_n hi]; exact hDK i hi) (fun i hi => by rw [eFs1, fu_s, pk_un (by omega)]; exact hD1 i (by omega)) (fun z hz => by
                    rw [eFs1, fu_s]
                    by_cases e : z = c
                    · rw [e, pk_us]
                    · rw [pk_un (by omega)]; exact hD2 z (by omega))
            refine j_sub (lv' := [(6, .int (nI 0)), (5, .int (nI (20 * r + p))), (4, .int (nI p)), (0, .ref m), (1, .int (nI r)), (2, .long n)]) [0, 1, 2, 3, 4, 5] rfl ?_
            exact fin 4 0 Fz1 gz1 (by omega) hSz1 (fun _ _ => rfl) (fun _ _ => rfl) (fun z hz => absurd hz (by omega))
          | succ q ih =>
            intro j nn a9 s9 G g9 hj hn9 ha hs9 hG hK hT2 hC
            obtain ⟨j, rfl⟩ : ∃ z, j = z + 1 := ⟨j - 1, by omega⟩
            refine j_iload hX dX11_add_127 0 rfl ?_
            refine j_iload hX dX11_add_129 1 rfl ?_
            refine j_icmp_le hX 197 dX11_add_131 (by decide) (fun c_131 => absurd c_131 (nI_ge (a := 20 * r + p) (b := 20 * r + (j + 1)) (by omega) (by omega))) (fun _ => ?_)
            refine j_aload_n hX dX11_add_134 3 rfl ?_
            refine j_get (v := .ref (Q 12)) hX hG.1 rfl wf_X11 14 (by decide) lk_X11_47 (fun _ h => h) rfl dX11_add_135 ?_
            refine j_iload hX dX11_add_138 0 rfl ?_
            refine j_aload_n hX dX11_add_140 3 rfl ?_
            refine j_get (v := .ref (Q 12)) hX hG.1 rfl wf_X11 14 (by decide) lk_X11_47 (fun _ h => h) rfl dX11_add_141 ?_
            refine j_iload hX dX11_add_144 0 rfl ?_
            refine j_iconst (v := nI 1) hX dX11_add_146 (by decide) ?_
            refine j_isub hX dX11_add_147 ?_
            refine j_eqi (y := nI (20 * r + j)) (ix2m r j) ?_
            refine j_ialdN hX (show g9 (Q 12) = some (aI (xK X) 512 (G 12)) from hG.2.1 12 (by decide)) (20 * r + j) (rfl) (by omega) (by decide) dX11_add_148 ?_
            refine j_iastN hX (show g9 (Q 12) = some (aI (xK X) 512 (G 12)) from hG.2.1 12 (by decide)) (20 * r + (j + 1)) (rfl) (by omega) (by decide) dX11_add_149 ?_
            obtain ⟨gt1, egt1⟩ : ∃ z : Wd, z = up g9 (Q 12) (aI (xK X) 512 (upd (G 12) (20 * r + (j + 1)) (G 12 (20 * r + j)))) := ⟨_, rfl⟩
            refine j_w egt1.symm ?_
            obtain ⟨Ft1, eFt1⟩ : ∃ z, z = fu G 12 (upd (G 12) (20 * r + (j + 1)) (G 12 (20 * r + j))) := ⟨_, rfl⟩
            have hSt1 : RS (xK X) gt1 m Q th oc (b01 fb) Ft1 := by rw [egt1, eFt1]; exact hG.put 12 (by decide) _
            refine j_iconst (v := nI 0) hX dX11_add_150 (by decide) ?_
            refine j_istore (lv' := [(7, .int (nI 0)), (6, .int (nI (20 * r + (j + 1)))), (5, .int (nI (20 * r + p))), (4, .int (nI p)), (0, .ref m), (1, .int (nI r)), (2, .long n)]) hX dX11_add_151 (by rw [hn]; decide) rfl ?_
            have hK2 : ∀ i, i ≠ 11 → i ≠ 12 → Ft1 i = F i := fun i h1 h2 => by rw [eFt1, fu_n h2]; exact hK i h1 h2
            have hE2 : Ft1 11 = va_cpy (F 11) (F 11) (80 * r + 4 * j + 4) (80 * r + 4 * j + 8) (4 * nn) := by rw [eFt1, fu_n (by decide), hC, show s9 = 80 * r + 4 * j + 4 by omega]
            have hT3 : Ft1 12 = va_cpy (F 12) (F 12) (20 * r + j) (20 * r + j + 1) (nn + 1) := by rw [eFt1, fu_s, hT2, show a9 = 20 * r + j + 1 by omega]; exact sh_t
            have inner : ∀ (q c : Nat) (D : Nat → Nat → Int32) (gd : Wd), c + q = 4 → RS (xK X) gd m Q th oc (b01 fb) D → (∀ i, i ≠ 11 → D i = Ft1 i) → D 11 = va_cpy (Ft1 11) (Ft1 11) (80 * r + 4 * j) (80 * r + 4 * j + 4) c → J X 0 0 gd 153 [(7, .int (nI c)), (6, .int (nI (20 * r + (j + 1)))), (5, .int (nI (20 * r + p))), (4, .int (nI p)), (0, .ref m), (1, .int (nI r)), (2, .long n)] [] := by
              intro q
              induction q with
              | zero =>
                intro c D gd hc hD hDK hDC
                refine j_iload hX dX11_add_153 0 rfl ?_
                refine j_iconst (v := nI 4) hX dX11_add_155 (by decide) ?_
                refine j_icmp_ge hX 191 dX11_add_156 (by decide) (fun _ => ?_) (fun c_156 => absurd (nI_le (a := 4) (b := c) (by omega) (by omega)) c_156)
                refine j_iinc (v := nI (20 * r + j)) (lv' := [(6, .int (nI (20 * r + j))), (7, .int (nI c)), (5, .int (nI (20 * r + p))), (4, .int (nI p)), (0, .ref m), (1, .int (nI r)), (2, .long n)]) hX dX11_add_191 1 rfl (ix2d r j) (by rw [hn]; decide) rfl ?_
                refine j_goto hX 127 dX11_add_194 (by decide) ?_
                refine j_sub [0, 2, 3, 4, 5, 6] rfl ?_
                exact ih j (nn + 1) (20 * r + j) (80 * r + 4 * j) D gd (by omega) (by omega) rfl rfl hD (fun i h1 h2 => (hDK i h1).trans (hK2 i h1 h2)) ((hDK 12 (by decide)).trans hT3) (by rw [hDC, show c = 4 by omega, hE2, sh_4]; rfl)
              | succ q ihc =>
                intro c D gd hc hD hDK hDC
                refine j_iload hX dX11_add_153 0 rfl ?_
                refine j_iconst (v := nI 4) hX dX11_add_155 (by decide) ?_
                refine j_icmp_ge hX 191 dX11_add_156 (by decide) (fun c_156 => absurd c_156 (nI_ge (a := c) (b := 4) (by omega) (by decide))) (fun _ => ?_)
                refine j_aload_n hX dX11_add_159 4 rfl ?_
                refine j_get (v := .ref (Q 11)) hX hD.1 rfl wf_X11 13 (by decide) lk_X11_44 (fun _ h => h) rfl dX11_add_160 ?_
                refine j_iconst (v := nI 4) hX dX11_add_163 (by decide) ?_
                refine j_iload hX dX11_add_164 1 rfl ?_
                refine j_imul hX dX11_add_166 ?_
                refine j_iload hX dX11_add_167 0 rfl ?_
                refine j_iadd hX dX11_add_169 ?_
                refine j_eqi (y := nI (80 * r + 4 * j + 4 + c)) (ix8p r j c) ?_
                refine j_aload_n hX dX11_add_170 4 rfl ?_
                refine j_get (v := .ref (Q 11)) hX hD.1 rfl wf_X11 13 (by decide) lk_X11_44 (fun _ h => h) rfl dX11_add_171 ?_
                refine j_iconst (v := nI 4) hX dX11_add_174 (by decide) ?_
                refine j_iload hX dX11_add_175 1 rfl ?_
                refine j_imul hX dX11_add_177 ?_
                refine j_iconst (v := nI 4) hX dX11_add_178 (by decide) ?_
                refine j_isub hX dX11_add_179 ?_
                refine j_iload hX dX11_add_180 0 rfl ?_
                refine j_iadd hX dX11_add_182 ?_
                refine j_eqi (y := nI (80 * r + 4 * j + c)) (ix8m r j c) ?_
                refine j_ialdN hX (show gd (Q 11) = some (aI (xK X) 2048 (D 11)) from hD.2.1 11 (by decide)) (80 * r + 4 * j + c) (rfl) (by omega) (by decide) dX11_add_183 ?_
                refine j_iastN hX (show gd (Q 11) = some (aI (xK X) 2048 (D 11)) from hD.2.1 11 (by decide)) (80 * r + 4 * j + 4 + c) (rfl) (by omega) (by decide) dX11_add_184 ?_
                obtain ⟨gi1, egi1⟩ : ∃ z : Wd, z = up gd (Q 11) (aI (xK X) 2048 (upd (D 11) (80 * r + 4 * j + 4 + c) (D 11 (80 * r + 4 * j + c)))) := ⟨_, rfl⟩
                refine j_w egi1.symm ?_
                obtain ⟨Fi1, eFi1⟩ : ∃ z, z = fu D 11 (upd (D 11) (80 * r + 4 * j + 4 + c) (D 11 (80 * r + 4 * j + c))) := ⟨_, rfl⟩
                have hSi1 : RS (xK X) gi1 m Q th oc (b01 fb) Fi1 := by rw [egi1, eFi1]; exact hD.put 11 (by decide) _
                refine j_iinc (v := nI (c + 1)) (lv' := [(7, .int (nI (c + 1))), (6, .int (nI (20 * r + (j + 1)))), (5, .int (nI (20 * r + p))), (4, .int (nI p)), (0, .ref m), (1, .int (nI r)), (2, .long n)]) hX dX11_add_185 0 rfl (nI_1 c) (by rw [hn]; decide) rfl ?_
                refine j_goto hX 153 dX11_add_188 (by decide) ?_
                refine j_sub [0, 1, 2, 3, 4, 5, 6] rfl ?_
                exact ihc (c + 1) Fi1 gi1 (by omega) hSi1 (fun i hi => by rw [eFi1, fu_n hi]; exact hDK i hi) (by rw [eFi1, fu_s, hDC]; exact sh_c (by omega))
            refine j_sub (lv' := [(7, .int (nI 0)), (6, .int (nI (20 * r + (j + 1)))), (5, .int (nI (20 * r + p))), (4, .int (nI p)), (0, .ref m), (1, .int (nI r)), (2, .long n)]) [0, 1, 2, 3, 4, 5, 6] rfl ?_
            exact inner 4 0 Ft1 gt1 (by omega) hSt1 (fun _ _ => rfl) (by funext i; rw [pk_cpy_out (by omega)])
        refine j_sub (lv' := [(6, .int (nI (20 * r + B.length))), (5, .int (nI (20 * r + p))), (4, .int (nI p)), (0, .ref m), (1, .int (nI r)), (2, .long n)]) [0, 1, 2, 3, 4, 5] rfl ?_
        exact loop (B.length - p) B.length 0 (20 * r + B.length) (80 * r + 4 * B.length) F g (by omega) (by omega) rfl rfl hS (fun _ _ _ => rfl) (by funext i; rw [pk_cpy_out (by omega)]) (by funext i; rw [pk_cpy_out (by omega)])
      · have c103 : 1000000000 < n := Int64.not_le.mp (fun q => c_103 ((lg_cmp_le _ _).mpr q))
        refine j_aload_n hX dX11_add_106 2 rfl ?_
        refine j_iconst (v := b01 false) hX dX11_add_107 (by decide) ?_
        refine j_put hX hS.1 rfl wf_X11 tyX11_ok nmX11 16 (by decide) lk_X11_68 (fun _ h => h) rfl (tyX11_ok 16 (by decide)) rfl rfl (Nat.le_of_ble_eq_true rfl) dX11_add_108 ?_
        obtain ⟨g2, eg2⟩ : ∃ z : Wd, z = up g m (ob 10 [.int th, .ref (Q 0), .ref (Q 1), .ref (Q 2), .ref (Q 3), .ref (Q 4), .ref (Q 5), .ref (Q 6), .int oc, .ref (Q 7), .ref (Q 8), .ref (Q 9), .ref (Q 10), .ref (Q 11), .ref (Q 12), .ref (Q 13), .int (b01 false), .ref (Q 14)]) := ⟨_, rfl⟩
        refine j_w eg2.symm ?_
        have hS2 : RS (xK X) g2 m Q th oc (b01 false) F := by rw [eg2]; exact hS.obj _ _ _
        refine j_goto hX 265 dX11_add_111 (by decide) ?_
        exact j_vret hX hE dX11_add_265 (addP_no hS2 hB hwk hno hM (Or.inr (by have := l_lt.mp c103; rw [l_bil] at this; exact this))) (by decide) (by decide)
  · obtain ⟨x, hx, hx1⟩ := hb.mp (b01_t c_23)
    have hpl := rep_lt hx
    have hx2 := hwk.2.2.2 x (List.mem_of_getElem? hx)
    refine j_aload_n hX dX11_add_26 2 rfl ?_
    refine j_get (v := .ref (Q 12)) hX hS.1 rfl wf_X11 14 (by decide) lk_X11_47 (fun _ h => h) rfl dX11_add_27 ?_
    refine j_iload hX dX11_add_30 0 rfl ?_
    refine j_ialdN hX (show g (Q 12) = some (aI (xK X) 512 (F 12)) from hS.2.1 12 (by decide)) (20 * r + p) (rfl) (by omega) (by decide) dX11_add_32 ?_
    refine j_eqi (y := nI x.2) ((hB.2 p x hx).2) ?_
    refine j_i2l hX dX11_add_33 ?_
    refine j_lload_n hX dX11_add_34 4 rfl ?_
    refine j_ladd hX dX11_add_35 ?_
    refine j_topl (fun y ey => ?_)
    have hy : y.toInt = (x.2 : Int) + n.toInt := by rw [ey, l_add (by rw [l_nI (by omega)]; omega) (by rw [l_nI (by omega)]; omega), l_nI (by omega)]
    refine j_lstore (lv' := [(6, .long y), (5, .int (nI (20 * r + p))), (4, .int (nI p)), (0, .ref m), (1, .int (nI r)), (2, .long n)]) hX dX11_add_36 (by rw [hn]; decide) rfl ?_
    refine j_aload_n hX dX11_add_38 3 rfl ?_
    refine j_aload_n hX dX11_add_39 3 rfl ?_
    refine j_get (v := .int (b01 fb)) hX hS.1 rfl wf_X11 16 (by decide) lk_X11_68 (fun _ h => h) rfl dX11_add_40 ?_
    refine j_if_eq hX 59 dX11_add_43 (by decide) (fun c_43 => ?_) (fun c_43 => ?_)
    · refine j_iconst (v := b01 false) hX dX11_add_59 (by decide) ?_
      refine j_put hX hS.1 rfl wf_X11 tyX11_ok nmX11 16 (by decide) lk_X11_68 (fun _ h => h) rfl (tyX11_ok 16 (by decide)) rfl rfl (Nat.le_of_ble_eq_true rfl) dX11_add_60 ?_
      obtain ⟨g3, eg3⟩ : ∃ z : Wd, z = up g m (ob 10 [.int th, .ref (Q 0), .ref (Q 1), .ref (Q 2), .ref (Q 3), .ref (Q 4), .ref (Q 5), .ref (Q 6), .int oc, .ref (Q 7), .ref (Q 8), .ref (Q 9), .ref (Q 10), .ref (Q 11), .ref (Q 12), .ref (Q 13), .int (b01 false), .ref (Q 14)]) := ⟨_, rfl⟩
      refine j_w eg3.symm ?_
      have hS3 : RS (xK X) g3 m Q th oc (b01 false) F := by rw [eg3]; exact hS.obj _ _ _
      refine j_aload_n hX dX11_add_63 3 rfl ?_
      refine j_get (v := .ref (Q 12)) hX hS3.1 rfl wf_X11 14 (by decide) lk_X11_47 (fun _ h => h) rfl dX11_add_64 ?_
      refine j_iload hX dX11_add_67 1 rfl ?_
      refine j_aload_n hX dX11_add_69 3 rfl ?_
      refine j_get (v := .int (b01 false)) hX hS3.1 rfl wf_X11 16 (by decide) lk_X11_68 (fun _ h => h) rfl dX11_add_70 ?_
      refine j_if_eq hX 82 dX11_add_73 (by decide) (fun _ => ?_) (fun c_73 => absurd (by rfl) c_73)
      refine j_iconst (v := nI 0) hX dX11_add_82 (by decide) ?_
      refine j_iastN hX (show g3 (Q 12) = some (aI (xK X) 512 (F 12)) from hS3.2.1 12 (by decide)) (20 * r + p) (rfl) (by omega) (by decide) dX11_add_83 ?_
      obtain ⟨g4, eg4⟩ : ∃ z : Wd, z = up g3 (Q 12) (aI (xK X) 512 (upd (F 12) (20 * r + p) (nI 0))) := ⟨_, rfl⟩
      refine j_w eg4.symm ?_
      obtain ⟨F4, eF4⟩ : ∃ z, z = fu F 12 (upd (F 12) (20 * r + p) (nI 0)) := ⟨_, rfl⟩
      have hS4 : RS (xK X) g4 m Q th oc (b01 false) F4 := by rw [eg4, eF4]; exact hS3.put 12 (by decide) _
      refine j_goto hX 265 dX11_add_84 (by decide) ?_
      exact j_vret hX hE dX11_add_265 (addP_at hS4 (by rw [eF4]) ep hB hwk hx hx1 hM (fun e => absurd e (by decide)) (fun _ => ⟨rfl, fun e => absurd e (b01_f c_43)⟩)) (by decide) (by decide)
    · refine j_lload hX dX11_add_46 0 rfl ?_
      refine j_ldc2 (v := 1000000000) hX lk_X11_72 dX11_add_48 ?_
      refine j_lcmp hX dX11_add_51 ?_
      refine j_if_gt hX 59 dX11_add_52 (by decide) (fun c_52 => ?_) (fun c_52 => ?_)
      · have c52 := l_lt.mp ((lg_cmp_gt _ _).mp c_52)
        rw [l_bil] at c52
        refine j_iconst (v := b01 false) hX dX11_add_59 (by decide) ?_
        refine j_put hX hS.1 rfl wf_X11 tyX11_ok nmX11 16 (by decide) lk_X11_68 (fun _ h => h) rfl (tyX11_ok 16 (by decide)) rfl rfl (Nat.le_of_ble_eq_true rfl) dX11_add_60 ?_
        obtain ⟨g5, eg5⟩ : ∃ z : Wd, z = up g m (ob 10 [.int th, .ref (Q 0), .ref (Q 1), .ref (Q 2), .ref (Q 3), .ref (Q 4), .ref (Q 5), .ref (Q 6), .int oc, .ref (Q 7), .ref (Q 8), .ref (Q 9), .ref (Q 10), .ref (Q 11), .ref (Q 12), .ref (Q 13), .int (b01 false), .ref (Q 14)]) := ⟨_, rfl⟩
        refine j_w eg5.symm ?_
        have hS5 : RS (xK X) g5 m Q th oc (b01 false) F := by rw [eg5]; exact hS.obj _ _ _
        refine j_aload_n hX dX11_add_63 3 rfl ?_
        refine j_get (v := .ref (Q 12)) hX hS5.1 rfl wf_X11 14 (by decide) lk_X11_47 (fun _ h => h) rfl dX11_add_64 ?_
        refine j_iload hX dX11_add_67 1 rfl ?_
        refine j_aload_n hX dX11_add_69 3 rfl ?_
        refine j_get (v := .int (b01 false)) hX hS5.1 rfl wf_X11 16 (by decide) lk_X11_68 (fun _ h => h) rfl dX11_add_70 ?_
        refine j_if_eq hX 82 dX11_add_73 (by decide) (fun _ => ?_) (fun c_73 => absurd (by rfl) c_73)
        refine j_iconst (v := nI 0) hX dX11_add_82 (by decide) ?_
        refine j_iastN hX (show g5 (Q 12) = some (aI (xK X) 512 (F 12)) from hS5.2.1 12 (by decide)) (20 * r + p) (rfl) (by omega) (by decide) dX11_add_83 ?_
        obtain ⟨g6, eg6⟩ : ∃ z : Wd, z = up g5 (Q 12) (aI (xK X) 512 (upd (F 12) (20 * r + p) (nI 0))) := ⟨_, rfl⟩
        refine j_w eg6.symm ?_
        obtain ⟨F6, eF6⟩ : ∃ z, z = fu F 12 (upd (F 12) (20 * r + p) (nI 0)) := ⟨_, rfl⟩
        have hS6 : RS (xK X) g6 m Q th oc (b01 false) F6 := by rw [eg6, eF6]; exact hS5.put 12 (by decide) _
        refine j_goto hX 265 dX11_add_84 (by decide) ?_
        exact j_vret hX hE dX11_add_265 (addP_at hS6 (by rw [eF6]) ep hB hwk hx hx1 hM (fun e => absurd e (by decide)) (fun _ => ⟨rfl, fun _ => by omega⟩)) (by decide) (by decide)
      · have c52 := l_le.mp (Int64.not_lt.mp (fun q => c_52 ((lg_cmp_gt _ _).mpr q)))
        rw [l_bil] at c52
        refine j_iconst (v := b01 true) hX dX11_add_55 (by decide) ?_
        refine j_goto hX 60 dX11_add_56 (by decide) ?_
        refine j_put hX hS.1 rfl wf_X11 tyX11_ok nmX11 16 (by decide) lk_X11_68 (fun _ h => h) rfl (tyX11_ok 16 (by decide)) rfl rfl (Nat.le_of_ble_eq_true rfl) dX11_add_60 ?_
        obtain ⟨g7, eg7⟩ : ∃ z : Wd, z = up g m (ob 10 [.int th, .ref (Q 0), .ref (Q 1), .ref (Q 2), .ref (Q 3), .ref (Q 4), .ref (Q 5), .ref (Q 6), .int oc, .ref (Q 7), .ref (Q 8), .ref (Q 9), .ref (Q 10), .ref (Q 11), .ref (Q 12), .ref (Q 13), .int (b01 true), .ref (Q 14)]) := ⟨_, rfl⟩
        refine j_w eg7.symm ?_
        have hS7 : RS (xK X) g7 m Q th oc (b01 true) F := by rw [eg7]; exact hS.obj _ _ _
        refine j_aload_n hX dX11_add_63 3 rfl ?_
        refine j_get (v := .ref (Q 12)) hX hS7.1 rfl wf_X11 14 (by decide) lk_X11_47 (fun _ h => h) rfl dX11_add_64 ?_
        refine j_iload hX dX11_add_67 1 rfl ?_
        refine j_aload_n hX dX11_add_69 3 rfl ?_
        refine j_get (v := .int (b01 true)) hX hS7.1 rfl wf_X11 16 (by decide) lk_X11_68 (fun _ h => h) rfl dX11_add_70 ?_
        refine j_if_eq hX 82 dX11_add_73 (by decide) (fun c_73 => absurd c_73 (by decide)) (fun _ => ?_)
        refine j_lload hX dX11_add_76 0 rfl ?_
        refine j_l2i hX dX11_add_78 ?_
        refine j_eqi (y := nI y.toInt.toNat) (l_i32 (by omega)) ?_
        refine j_goto hX 83 dX11_add_79 (by decide) ?_
        refine j_iastN hX (show g7 (Q 12) = some (aI (xK X) 512 (F 12)) from hS7.2.1 12 (by decide)) (20 * r + p) (rfl) (by omega) (by decide) dX11_add_83 ?_
        obtain ⟨g8, eg8⟩ : ∃ z : Wd, z = up g7 (Q 12) (aI (xK X) 512 (upd (F 12) (20 * r + p) (nI y.toInt.toNat))) := ⟨_, rfl⟩
        refine j_w eg8.symm ?_
        obtain ⟨F8, eF8⟩ : ∃ z, z = fu F 12 (upd (F 12) (20 * r + p) (nI y.toInt.toNat)) := ⟨_, rfl⟩
        have hS8 : RS (xK X) g8 m Q th oc (b01 true) F8 := by rw [eg8, eF8]; exact hS7.put 12 (by decide) _
        refine j_goto hX 265 dX11_add_84 (by decide) ?_
        exact j_vret hX hE dX11_add_265 (addP_at hS8 (by rw [eF8]) ep hB hwk hx hx1 hM (fun _ => ⟨b01_t c_43, by omega, by omega⟩) (fun e => absurd e (by decide))) (by decide) (by decide)

theorem nI_plus {a : Nat} {n : Int32} (h1 : a ≤ 1000000000) (h2 : n.toInt ≤ 1000000) (h3 : 0 ≤ (a : Int) + n.toInt) : nI a + n = nI ((a : Int) + n.toInt).toNat := by
  apply Int32.toInt_inj.mp
  rw [Int32.toInt_add, nI_toInt (by omega), nI_toInt (by omega), Int.bmod_eq_of_le (by omega) (by omega)]
  omega
theorem set_erase {B : Bg} {p : Nat} {x : Row × Nat} : (B.set p x).eraseIdx p = B.eraseIdx p := by
  apply List.ext_getElem?
  intro i
  rw [List.getElem?_eraseIdx, List.getElem?_eraseIdx]
  split
  · rw [List.getElem?_set_ne (by omega)]
  · rw [List.getElem?_set_ne (by omega)]
set_option maxRecDepth 20000 in
set_option maxHeartbeats 600000 in
/-- change(r, n) -/
theorem c_X11_change (l : Launch) (K : Cst) (g : Wd) (m : Nat) (Q : Nat → Nat) (th oc : Int32) (fb : Bool) (F : Nat → Nat → Int32) (hS : RS K g m Q th oc (b01 fb) F) (r w : Nat) (B : Bg) (hr : r < 8) (hw : F 1 r = nI w) (hw1 : 1 ≤ w) (hw4 : w ≤ 4) (hB : NB F r B) (hwk : wk w B) (T : Row) (hT : T = truncR w (rowAt (F 14) 0)) (n : Int32) (hn9 : n.toInt ≤ 1000000) (hc : 0 < n.toInt ∨ (n.toInt < 0 ∧ ∃ x, B[plc B T]? = some x ∧ x.1 = T ∧ 0 ≤ (x.2 : Int) + n.toInt)) : Ct l K yX11_change cX11_change 4 none 2 [.ref m, .int (nI r), .int n] g (AddP K m Q th oc fb F r w T n.toInt B) (fun _ _ => False) 0 0 := by
  refine ct_of (by decide) (Nat.le_of_ble_eq_true rfl) ?_
  intro X hl hK hX hE hn hL hR hm
  subst hl; subst hK
  show J X 0 0 g 0 [(0, .ref m), (1, .int (nI r)), (2, .int n)] []
  refine j_aload_n hX dX11_change_0 0 rfl ?_
  refine j_iload_n hX dX11_change_1 1 rfl ?_
  refine j_callV (As := [.int (nI r)]) (rest := []) hX (c_X11_place (xl X) (xK X) g m Q th oc (b01 fb) F hS r w B hr hw hw1 hw4 hB hwk.2.2.1 hwk.1 hwk.2.1) hS.1 rfl lk_X11_60 wI_X11_place wV_X11_X11_place wN_X11 wC_X11_place hd_X11_place rfl (by rw [hL]; decide) (by decide) rfl (Nat.le_of_ble_eq_true rfl) dX11_change_2 (by rw [hR]; decide) (by rw [hR]; decide) jx_no ?_
  rintro _ _ ⟨rfl, rfl⟩
  rw [← hT]
  obtain ⟨p, ep⟩ : ∃ z, z = plc B T := ⟨_, rfl⟩
  rw [← ep]
  have hp : p ≤ B.length := by rw [ep]; exact plc_le B T
  have hl := hwk.2.2.1
  show J X 0 0 g 5 [(0, .ref m), (1, .int (nI r)), (2, .int n)] [.int (nI p)]
  refine j_istore_n (lv' := [(3, .int (nI p)), (0, .ref m), (1, .int (nI r)), (2, .int n)]) hX dX11_change_5 (by rw [hn]; decide) rfl ?_
  refine j_iload_n hX dX11_change_6 3 rfl ?_
  refine j_if_ge hX 48 dX11_change_7 (by decide) (fun c_7 => ?_) (fun c_7 => ?_)
  · have hpos : 0 < n.toInt := hc.resolve_right (fun q => by have := Int32.le_iff_toInt_le.mp c_7; rw [show (0 : Int32).toInt = 0 from rfl] at this; omega)
    refine j_aload_n hX dX11_change_48 1 rfl ?_
    refine j_iload_n hX dX11_change_49 2 rfl ?_
    refine j_iload_n hX dX11_change_50 3 rfl ?_
    refine j_i2l hX dX11_change_51 ?_
    refine j_callV (As := [.int (nI r), .long n.toInt64]) (rest := []) hX (c_X11_add (xl X) (xK X) g m Q th oc fb F hS r w B hr hw hw1 hw4 hB hwk T hT n.toInt64 (by rw [Int32.toInt_toInt64]; omega) (by rw [Int32.toInt_toInt64]; omega)) hS.1 rfl lk_X11_97 wI_X11_add wV_X11_X11_add wN_X11 wC_X11_add hd_X11_add rfl (by rw [hL]; decide) (by decide) rfl (Nat.le_of_ble_eq_true rfl) dX11_change_52 (by rw [hR]; decide) (by rw [hR]; decide) jx_no ?_
    rintro _ g2 ⟨rfl, h9⟩
    rw [Int32.toInt_toInt64] at h9
    show J X 0 0 g2 55 [(3, .int (nI p)), (0, .ref m), (1, .int (nI r)), (2, .int n)] []
    exact j_vret hX hE dX11_change_55 (⟨rfl, h9⟩) (by decide) (by decide)
  · obtain ⟨hneg, x, hx, hx1, hx3⟩ := hc.resolve_left (fun q => c_7 (Int32.le_iff_toInt_le.mpr (by rw [show (0 : Int32).toInt = 0 from rfl]; omega)))
    rw [← ep] at hx
    have hpl := rep_lt hx
    have hx2 := hwk.2.2.2 x (List.mem_of_getElem? hx)
    obtain ⟨s, es⟩ : ∃ s, s = ((x.2 : Int) + n.toInt).toNat := ⟨_, rfl⟩
    refine j_aload_n hX dX11_change_10 1 rfl ?_
    refine j_get (v := .ref (Q 12)) hX hS.1 rfl wf_X11 14 (by decide) lk_X11_47 (fun _ h => h) rfl dX11_change_11 ?_
    refine j_bipush (v := nI 20) hX dX11_change_14 (by decide) ?_
    refine j_iload_n hX dX11_change_16 2 rfl ?_
    refine j_imul hX dX11_change_17 ?_
    refine j_iload_n hX dX11_change_18 0 rfl ?_
    refine j_iadd hX dX11_change_19 ?_
    refine j_eqi (y := nI (20 * r + p)) (ix20 r p) ?_
    refine j_dup2 hX dX11_change_20 rfl rfl ?_
    refine j_ialdN hX (show g (Q 12) = some (aI (xK X) 512 (F 12)) from hS.2.1 12 (by decide)) (20 * r + p) (rfl) (by omega) (by decide) dX11_change_21 ?_
    refine j_eqi (y := nI x.2) ((hB.2 p x hx).2) ?_
    refine j_iload_n hX dX11_change_22 3 rfl ?_
    refine j_iadd hX dX11_change_23 ?_
    refine j_eqi (y := nI s) (by rw [nI_plus hx2 hn9 hx3, es]) ?_
    refine j_iastN hX (show g (Q 12) = some (aI (xK X) 512 (F 12)) from hS.2.1 12 (by decide)) (20 * r + p) (rfl) (by omega) (by decide) dX11_change_24 ?_
    obtain ⟨g1, eg1⟩ : ∃ z : Wd, z = up g (Q 12) (aI (xK X) 512 (upd (F 12) (20 * r + p) (nI s))) := ⟨_, rfl⟩
    refine j_w eg1.symm ?_
    obtain ⟨F1, eF1⟩ : ∃ z, z = fu F 12 (upd (F 12) (20 * r + p) (nI s)) := ⟨_, rfl⟩
    have hS1 : RS (xK X) g1 m Q th oc (b01 fb) F1 := by rw [eg1, eF1]; exact hS.put 12 (by decide) _
    have hK1 : Kp r F F1 := Kp.of (fun j _ h12 _ => by rw [eF1, fu_n h12]) (fun q _ => by rw [eF1, fu_n (by decide)]) (fun q _ => by rw [eF1, fu_n (by decide)]) (fun q _ => by rw [eF1, fu_s, pk_un (by omega)])
    have hN1 : NB F1 r (B.set p (x.1, s)) := ⟨by rw [eF1, fu_n (by decide), List.length_set]; exact hB.1, by rw [eF1, fu_n (by decide), fu_s]; exact repA_set hB.2 hx⟩
    refine j_aload_n hX dX11_change_25 1 rfl ?_
    refine j_get (v := .ref (Q 12)) hX hS1.1 rfl wf_X11 14 (by decide) lk_X11_47 (fun _ h => h) rfl dX11_change_26 ?_
    refine j_bipush (v := nI 20) hX dX11_change_29 (by decide) ?_
    refine j_iload_n hX dX11_change_31 2 rfl ?_
    refine j_imul hX dX11_change_32 ?_
    refine j_iload_n hX dX11_change_33 0 rfl ?_
    refine j_iadd hX dX11_change_34 ?_
    refine j_eqi (y := nI (20 * r + p)) (ix20 r p) ?_
    refine j_ialdN hX (show g1 (Q 12) = some (aI (xK X) 512 (F1 12)) from hS1.2.1 12 (by decide)) (20 * r + p) (rfl) (by omega) (by decide) dX11_change_35 ?_
    refine j_eqi (y := nI s) (by rw [eF1, fu_s, pk_us]) ?_
    refine j_if_ne hX 55 dX11_change_36 (by decide) (fun c_36 => ?_) (fun c_36 => ?_)
    · exact j_vret hX hE dX11_change_55 (⟨rfl, F1, fb, B.set p (x.1, s), hS1, hK1, hN1, wk_set hwk hx (by omega), fun e => ⟨e, by rw [(addB_in (M := n.toInt) (ep ▸ hx) hx1), if_neg (by omega), if_neg (fun q => c_36 (by rw [show s = 0 by omega]; rfl)), ← ep, hx1, es]⟩, fun e f => absurd f (by rw [e]; decide)⟩) (by decide) (by decide)
    · refine j_aload_n hX dX11_change_39 1 rfl ?_
      refine j_iload_n hX dX11_change_40 2 rfl ?_
      refine j_iload_n hX dX11_change_41 0 rfl ?_
      refine j_callV (As := [.int (nI r), .int (nI p)]) (rest := []) hX (c_X11_cut (xl X) (xK X) g1 m Q th oc (b01 fb) F1 hS1 r p (B.set p (x.1, s)) hr hN1 (by rw [List.length_set]; exact hl) (by rw [List.length_set]; exact hpl)) hS1.1 rfl lk_X11_141 wI_X11_cut wV_X11_X11_cut wN_X11 wC_X11_cut hd_X11_cut rfl (by rw [hL]; decide) (by decide) rfl (Nat.le_of_ble_eq_true rfl) dX11_change_42 (by rw [hR]; decide) (by rw [hR]; decide) jx_no ?_
      rintro _ g2 ⟨rfl, F2, hS2, hK2, hN2⟩
      rw [set_erase] at hN2
      show J X 0 0 g2 45 [(3, .int (nI p)), (0, .ref m), (1, .int (nI r)), (2, .int n)] []
      refine j_goto hX 55 dX11_change_45 (by decide) ?_
      exact j_vret hX hE dX11_change_55 (⟨rfl, F2, fb, B.eraseIdx p, hS2, hK1.tr hK2, hN2, wk_erase hwk, fun e => ⟨e, by rw [(addB_in (M := n.toInt) (ep ▸ hx) hx1), if_neg (by omega), if_pos (by have := (nI_eq (a := s) (b := 0) (by omega) (by decide)).mp c_36; omega), ep]⟩, fun e f => absurd f (by rw [e]; decide)⟩) (by decide) (by decide)

