set_option maxRecDepth 20000 in
set_option maxHeartbeats 1600000 in
/-- makeJoin(v) -/
theorem c_X11_makeJoin (l : Launch) (K : Cst) (g : Wd) (m : Nat) (Q : Nat → Nat) (th oc : Int32) (F : Nat → Nat → Int32) (hS : RS K g m Q th oc (b01 true) F) (v lf rt w wl wr c d : Nat) (L R : Bg) (hv : v < 8) (hlf : lf < 8) (hrt : rt < 8) (hne : lf ≠ v) (hne2 : rt ≠ v) (hw : F 1 v = nI w) (hw1 : 1 ≤ w) (hw4 : w ≤ 4) (hwl : F 1 lf = nI wl) (ew : w = wl + wr) (hLb : NB F lf L) (gL : good L) (hRb : NB F rt R) (gR : good R) (zR : zw wr R) (hB : NB F v []) (h2 : F 2 v = nI lf) (h3 : F 3 v = nI rt) (hc : c < 4) (hd : d < 4) (h40 : F 4 (4 * v) = nI c) (h41 : F 4 (4 * v + 1) = nI d) : Ct l K yX11_makeJoin cX11_makeJoin 7 none 2 [.ref m, .int (nI v)] g (MkP K m Q th oc F v w (fldB (jnF c d wl) (prs L R) [])) (fun _ _ => False) 0 0 := by
  refine ct_of (by decide) (Nat.le_of_ble_eq_true rfl) ?_
  intro X hl hK hX hE hn hL hR hm
  subst hl; subst hK
  show J X 0 0 g 0 [(0, .ref m), (1, .int (nI v))] []
  have hl20 := gL.2.1
  have hr20 := gR.2.1
  have dead : fldB (jnF c d wl) (prs L R) [] = none → ∀ (G : Nat → Nat → Int32) (g9 : Wd), RS (xK X) g9 m Q th oc (b01 false) G → Kp v F G → ∀ (n i : Nat), i + n = L.length → J X 0 0 g9 17 [(4, .int (nI i)), (3, .int (nI rt)), (2, .int (nI lf)), (1, .int (nI v)), (0, .ref m)] [] := by
    intro hno G g9 hG hK n
    induction n with
    | zero =>
      intro i hi
      refine j_iload hX dX11_makeJoin_17 0 rfl ?_
      refine j_aload_n hX dX11_makeJoin_19 4 rfl ?_
      refine j_get (v := .ref (Q 13)) hX hG.1 rfl wf_X11 15 (by decide) lk_X11_50 (fun _ h => h) rfl dX11_makeJoin_20 ?_
      refine j_iload_n hX dX11_makeJoin_23 2 rfl ?_
      refine j_ialdN hX (show g9 (Q 13) = some (aI (xK X) 8 (G 13)) from hG.2.1 13 (by decide)) (lf) (rfl) (hlf) (by decide) dX11_makeJoin_24 ?_
      refine j_eqi (y := nI L.length) (by rw [hK.2.1 lf hne]; exact hLb.1) ?_
      refine j_icmp_ge hX 182 dX11_makeJoin_25 (by decide) (fun _ => ?_) (fun c_25 => absurd (nI_le (a := L.length) (b := i) (by omega) (by omega)) c_25)
      exact j_vret hX hE dX11_makeJoin_182 (⟨rfl, G, false, hG, hK, fun e => absurd e (by decide), fun _ => hno⟩) (by decide) (by decide)
    | succ n ih =>
      intro i hi
      refine j_iload hX dX11_makeJoin_17 0 rfl ?_
      refine j_aload_n hX dX11_makeJoin_19 4 rfl ?_
      refine j_get (v := .ref (Q 13)) hX hG.1 rfl wf_X11 15 (by decide) lk_X11_50 (fun _ h => h) rfl dX11_makeJoin_20 ?_
      refine j_iload_n hX dX11_makeJoin_23 2 rfl ?_
      refine j_ialdN hX (show g9 (Q 13) = some (aI (xK X) 8 (G 13)) from hG.2.1 13 (by decide)) (lf) (rfl) (hlf) (by decide) dX11_makeJoin_24 ?_
      refine j_eqi (y := nI L.length) (by rw [hK.2.1 lf hne]; exact hLb.1) ?_
      refine j_icmp_ge hX 182 dX11_makeJoin_25 (by decide) (fun c_25 => absurd c_25 (nI_ge (a := i) (b := L.length) (by omega) (by omega))) (fun _ => ?_)
      refine j_iconst (v := nI 0) hX dX11_makeJoin_28 (by decide) ?_
      refine j_istore (lv' := [(5, .int (nI 0)), (4, .int (nI i)), (3, .int (nI rt)), (2, .int (nI lf)), (1, .int (nI v)), (0, .ref m)]) hX dX11_makeJoin_29 (by rw [hn]; decide) rfl ?_
      refine j_aload_n hX dX11_makeJoin_31 5 rfl ?_
      refine j_get (v := .int (b01 false)) hX hG.1 rfl wf_X11 16 (by decide) lk_X11_68 (fun _ h => h) rfl dX11_makeJoin_32 ?_
      refine j_if_eq hX 176 dX11_makeJoin_35 (by decide) (fun _ => ?_) (fun c_35 => absurd (by rfl) c_35)
      refine j_iinc (v := nI (i + 1)) (lv' := [(4, .int (nI (i + 1))), (5, .int (nI 0)), (3, .int (nI rt)), (2, .int (nI lf)), (1, .int (nI v)), (0, .ref m)]) hX dX11_makeJoin_176 1 rfl (nI_1 i) (by rw [hn]; decide) rfl ?_
      refine j_goto hX 17 dX11_makeJoin_179 (by decide) ?_
      refine j_sub [0, 2, 3, 4, 5] rfl ?_
      exact ih (i + 1) (by omega)
  have live : ∀ (n i : Nat) (G : Nat → Nat → Int32) (g9 : Wd) (B : Bg), i + n = L.length → RS (xK X) g9 m Q th oc (b01 true) G → Kp v F G → NB G v B → wk w B → fldB (jnF c d wl) (prs L R) [] = fldB (jnF c d wl) (prs (L.drop i) R) B → J X 0 0 g9 17 [(4, .int (nI i)), (3, .int (nI rt)), (2, .int (nI lf)), (1, .int (nI v)), (0, .ref m)] [] := by
    intro n
    induction n with
    | zero =>
      intro i G g9 B hi9 hG hK hN kB hf
      refine j_iload hX dX11_makeJoin_17 0 rfl ?_
      refine j_aload_n hX dX11_makeJoin_19 4 rfl ?_
      refine j_get (v := .ref (Q 13)) hX hG.1 rfl wf_X11 15 (by decide) lk_X11_50 (fun _ h => h) rfl dX11_makeJoin_20 ?_
      refine j_iload_n hX dX11_makeJoin_23 2 rfl ?_
      refine j_ialdN hX (show g9 (Q 13) = some (aI (xK X) 8 (G 13)) from hG.2.1 13 (by decide)) (lf) (rfl) (hlf) (by decide) dX11_makeJoin_24 ?_
      refine j_eqi (y := nI L.length) (by rw [hK.2.1 lf hne]; exact hLb.1) ?_
      refine j_icmp_ge hX 182 dX11_makeJoin_25 (by decide) (fun _ => ?_) (fun c_25 => absurd (nI_le (a := L.length) (b := i) (by omega) (by omega)) c_25)
      exact j_vret hX hE dX11_makeJoin_182 (⟨rfl, G, true, hG, hK, fun _ => ⟨B, by rw [hf, List.drop_eq_nil_of_le (by omega)]; rfl, hN, kB⟩, fun e => absurd e (by decide)⟩) (by decide) (by decide)
    | succ n ih =>
      intro i G g9 B hi9 hG hK hN kB hf
      have hi : i < L.length := by omega
      have hx0 := Bg_lt gL hi
      refine j_iload hX dX11_makeJoin_17 0 rfl ?_
      refine j_aload_n hX dX11_makeJoin_19 4 rfl ?_
      refine j_get (v := .ref (Q 13)) hX hG.1 rfl wf_X11 15 (by decide) lk_X11_50 (fun _ h => h) rfl dX11_makeJoin_20 ?_
      refine j_iload_n hX dX11_makeJoin_23 2 rfl ?_
      refine j_ialdN hX (show g9 (Q 13) = some (aI (xK X) 8 (G 13)) from hG.2.1 13 (by decide)) (lf) (rfl) (hlf) (by decide) dX11_makeJoin_24 ?_
      refine j_eqi (y := nI L.length) (by rw [hK.2.1 lf hne]; exact hLb.1) ?_
      refine j_icmp_ge hX 182 dX11_makeJoin_25 (by decide) (fun c_25 => absurd c_25 (nI_ge (a := i) (b := L.length) (by omega) (by omega))) (fun _ => ?_)
      refine j_iconst (v := nI 0) hX dX11_makeJoin_28 (by decide) ?_
      refine j_istore (lv' := [(5, .int (nI 0)), (4, .int (nI i)), (3, .int (nI rt)), (2, .int (nI lf)), (1, .int (nI v)), (0, .ref m)]) hX dX11_makeJoin_29 (by rw [hn]; decide) rfl ?_
      have inner : ∀ (p j : Nat) (D : Nat → Nat → Int32) (gd : Wd) (C : Bg), j + p = R.length → RS (xK X) gd m Q th oc (b01 true) D → Kp v F D → NB D v C → wk w C → fldB (jnF c d wl) (prs L R) [] = fldB (jnF c d wl) ((R.drop j).map (fun y => (L[i], y)) ++ prs (L.drop (i + 1)) R) C → J X 0 0 gd 31 [(5, .int (nI j)), (4, .int (nI i)), (3, .int (nI rt)), (2, .int (nI lf)), (1, .int (nI v)), (0, .ref m)] [] := by
        intro p
        induction p with
        | zero =>
          intro j D gd C hj9 hD hK hN kB hf
          refine j_aload_n hX dX11_makeJoin_31 5 rfl ?_
          refine j_get (v := .int (b01 true)) hX hD.1 rfl wf_X11 16 (by decide) lk_X11_68 (fun _ h => h) rfl dX11_makeJoin_32 ?_
          refine j_if_eq hX 176 dX11_makeJoin_35 (by decide) (fun c_35 => absurd c_35 (by decide)) (fun _ => ?_)
          refine j_iload hX dX11_makeJoin_38 0 rfl ?_
          refine j_aload_n hX dX11_makeJoin_40 5 rfl ?_
          refine j_get (v := .ref (Q 13)) hX hD.1 rfl wf_X11 15 (by decide) lk_X11_50 (fun _ h => h) rfl dX11_makeJoin_41 ?_
          refine j_iload_n hX dX11_makeJoin_44 2 rfl ?_
          refine j_ialdN hX (show gd (Q 13) = some (aI (xK X) 8 (D 13)) from hD.2.1 13 (by decide)) (rt) (rfl) (hrt) (by decide) dX11_makeJoin_45 ?_
          refine j_eqi (y := nI R.length) (by rw [hK.2.1 rt hne2]; exact hRb.1) ?_
          refine j_icmp_ge hX 176 dX11_makeJoin_46 (by decide) (fun _ => ?_) (fun c_46 => absurd (nI_le (a := R.length) (b := j) (by omega) (by omega)) c_46)
          refine j_iinc (v := nI (i + 1)) (lv' := [(4, .int (nI (i + 1))), (5, .int (nI j)), (3, .int (nI rt)), (2, .int (nI lf)), (1, .int (nI v)), (0, .ref m)]) hX dX11_makeJoin_176 1 rfl (nI_1 i) (by rw [hn]; decide) rfl ?_
          refine j_goto hX 17 dX11_makeJoin_179 (by decide) ?_
          refine j_sub [0, 2, 3, 4, 5] rfl ?_
          exact ih (i + 1) D gd C (by omega) hD hK hN kB (by rw [hf, jn_end (by omega)])
        | succ p ihj =>
          intro j D gd C hj9 hD hK hN kB hf
          have hj : j < R.length := by omega
          have hy0 := Bg_lt gR hj
          have hml := mul_l hx0.1 hy0.1
          refine j_aload_n hX dX11_makeJoin_31 5 rfl ?_
          refine j_get (v := .int (b01 true)) hX hD.1 rfl wf_X11 16 (by decide) lk_X11_68 (fun _ h => h) rfl dX11_makeJoin_32 ?_
          refine j_if_eq hX 176 dX11_makeJoin_35 (by decide) (fun c_35 => absurd c_35 (by decide)) (fun _ => ?_)
          refine j_iload hX dX11_makeJoin_38 0 rfl ?_
          refine j_aload_n hX dX11_makeJoin_40 5 rfl ?_
          refine j_get (v := .ref (Q 13)) hX hD.1 rfl wf_X11 15 (by decide) lk_X11_50 (fun _ h => h) rfl dX11_makeJoin_41 ?_
          refine j_iload_n hX dX11_makeJoin_44 2 rfl ?_
          refine j_ialdN hX (show gd (Q 13) = some (aI (xK X) 8 (D 13)) from hD.2.1 13 (by decide)) (rt) (rfl) (hrt) (by decide) dX11_makeJoin_45 ?_
          refine j_eqi (y := nI R.length) (by rw [hK.2.1 rt hne2]; exact hRb.1) ?_
          refine j_icmp_ge hX 176 dX11_makeJoin_46 (by decide) (fun c_46 => absurd c_46 (nI_ge (a := j) (b := R.length) (by omega) (by omega))) (fun _ => ?_)
          refine j_aload_n hX dX11_makeJoin_49 5 rfl ?_
          refine j_iload_n hX dX11_makeJoin_50 3 rfl ?_
          refine j_iload hX dX11_makeJoin_51 1 rfl ?_
          refine j_aload_n hX dX11_makeJoin_53 5 rfl ?_
          refine j_get (v := .ref (Q 4)) hX hD.1 rfl wf_X11 5 (by decide) lk_X11_22 (fun _ h => h) rfl dX11_makeJoin_54 ?_
          refine j_iconst (v := nI 4) hX dX11_makeJoin_57 (by decide) ?_
          refine j_iload_n hX dX11_makeJoin_58 4 rfl ?_
          refine j_imul hX dX11_makeJoin_59 ?_
          refine j_eqi (y := nI (4 * v)) (pk_mul 4 v) ?_
          refine j_ialdN hX (show gd (Q 4) = some (aI (xK X) 32 (D 4)) from hD.2.1 4 (by decide)) (4 * v) (rfl) (by omega) (by decide) dX11_makeJoin_60 ?_
          refine j_eqi (y := nI c) (by rw [hK.1 4 (by decide)]; exact h40) ?_
          refine j_callV (As := [.int (nI lf), .int (nI i), .int (nI c)]) (rest := []) hX (c_X11_cellOf (xl X) (xK X) gd m Q th oc (b01 true) D hD lf i c hlf (by omega) hc) hD.1 rfl lk_X11_74 wI_X11_cellOf wV_X11_X11_cellOf wN_X11 wC_X11_cellOf hd_X11_cellOf rfl (by rw [hL]; decide) (by decide) rfl (Nat.le_of_ble_eq_true rfl) dX11_makeJoin_61 (by rw [hR]; decide) (by rw [hR]; decide) jx_no ?_
          rintro _ _ ⟨rfl, rfl⟩
          show J X 0 0 gd 64 [(5, .int (nI j)), (4, .int (nI i)), (3, .int (nI rt)), (2, .int (nI lf)), (1, .int (nI v)), (0, .ref m)] [.int (D 11 (80 * lf + 4 * i + c))]
          refine j_eqi (y := cellR (L[i]).1 c) (repA_cell (hK.nb hne hLb hl20).2 hi (by omega)) ?_
          refine j_aload_n hX dX11_makeJoin_64 5 rfl ?_
          refine j_iload_n hX dX11_makeJoin_65 2 rfl ?_
          refine j_iload hX dX11_makeJoin_66 0 rfl ?_
          refine j_aload_n hX dX11_makeJoin_68 5 rfl ?_
          refine j_get (v := .ref (Q 4)) hX hD.1 rfl wf_X11 5 (by decide) lk_X11_22 (fun _ h => h) rfl dX11_makeJoin_69 ?_
          refine j_iconst (v := nI 4) hX dX11_makeJoin_72 (by decide) ?_
          refine j_iload_n hX dX11_makeJoin_73 4 rfl ?_
          refine j_imul hX dX11_makeJoin_74 ?_
          refine j_eqi (y := nI (4 * v)) (pk_mul 4 v) ?_
          refine j_iconst (v := nI 1) hX dX11_makeJoin_75 (by decide) ?_
          refine j_iadd hX dX11_makeJoin_76 ?_
          refine j_eqi (y := nI (4 * v + 1)) (ix4v v 1) ?_
          refine j_ialdN hX (show gd (Q 4) = some (aI (xK X) 32 (D 4)) from hD.2.1 4 (by decide)) (4 * v + 1) (rfl) (by omega) (by decide) dX11_makeJoin_77 ?_
          refine j_eqi (y := nI d) (by rw [hK.1 4 (by decide)]; exact h41) ?_
          refine j_callV (As := [.int (nI rt), .int (nI j), .int (nI d)]) (rest := [.int (cellR (L[i]).1 c)]) hX (c_X11_cellOf (xl X) (xK X) gd m Q th oc (b01 true) D hD rt j d hrt (by omega) hd) hD.1 rfl lk_X11_74 wI_X11_cellOf wV_X11_X11_cellOf wN_X11 wC_X11_cellOf hd_X11_cellOf rfl (by rw [hL]; decide) (by decide) rfl (Nat.le_of_ble_eq_true rfl) dX11_makeJoin_78 (by rw [hR]; decide) (by rw [hR]; decide) jx_no ?_
          rintro _ _ ⟨rfl, rfl⟩
          show J X 0 0 gd 81 [(5, .int (nI j)), (4, .int (nI i)), (3, .int (nI rt)), (2, .int (nI lf)), (1, .int (nI v)), (0, .ref m)] [.int (D 11 (80 * rt + 4 * j + d)), .int (cellR (L[i]).1 c)]
          refine j_eqi (y := cellR (R[j]).1 d) (repA_cell (hK.nb hne2 hRb hr20).2 hj (by omega)) ?_
          refine j_icmp_ne hX 170 dX11_makeJoin_81 (by decide) (fun c_81 => ?_) (fun c_81 => ?_)
          · refine j_iinc (v := nI (j + 1)) (lv' := [(5, .int (nI (j + 1))), (4, .int (nI i)), (3, .int (nI rt)), (2, .int (nI lf)), (1, .int (nI v)), (0, .ref m)]) hX dX11_makeJoin_170 0 rfl (nI_1 j) (by rw [hn]; decide) rfl ?_
            refine j_goto hX 31 dX11_makeJoin_173 (by decide) ?_
            refine j_sub [0, 1, 2, 3, 4, 5] rfl ?_
            exact ihj (j + 1) D gd C (by omega) hD hK hN kB (by rw [hf, jn_skip hj c_81])
          · have hce : cellR (L[i]).1 c = cellR (R[j]).1 d := c_81
            refine j_iconst (v := nI 0) hX dX11_makeJoin_84 (by decide) ?_
            refine j_istore (lv' := [(6, .int (nI 0)), (5, .int (nI j)), (4, .int (nI i)), (3, .int (nI rt)), (2, .int (nI lf)), (1, .int (nI v)), (0, .ref m)]) hX dX11_makeJoin_85 (by rw [hn]; decide) rfl ?_
            have rowl : ∀ (q cz : Nat) (W : Nat → Nat → Int32) (gw : Wd), cz + q = w → RS (xK X) gw m Q th oc (b01 true) W → (∀ y, y ≠ 14 → W y = D y) → (∀ y, y < cz → W 14 y = pc1 wl (L[i]).1 (R[j]).1 y) → J X 0 0 gw 87 [(6, .int (nI cz)), (5, .int (nI j)), (4, .int (nI i)), (3, .int (nI rt)), (2, .int (nI lf)), (1, .int (nI v)), (0, .ref m)] [] := by
              intro q
              induction q with
              | zero =>
                intro cz W gw hz hW hKW hz9
                refine j_iload hX dX11_makeJoin_87 0 rfl ?_
                refine j_aload_n hX dX11_makeJoin_89 6 rfl ?_
                refine j_get (v := .ref (Q 1)) hX hW.1 rfl wf_X11 2 (by decide) lk_X11_13 (fun _ h => h) rfl dX11_makeJoin_90 ?_
                refine j_iload_n hX dX11_makeJoin_93 5 rfl ?_
                refine j_ialdN hX (show gw (Q 1) = some (aI (xK X) 8 (W 1)) from hW.2.1 1 (by decide)) (v) (rfl) (hv) (by decide) dX11_makeJoin_94 ?_
                refine j_eqi (y := nI w) (by rw [hKW 1 (by decide), hK.1 1 (by decide)]; exact hw) ?_
                refine j_icmp_ge hX 150 dX11_makeJoin_95 (by decide) (fun _ => ?_) (fun c_95 => absurd (nI_le (a := w) (b := cz) (by omega) (by omega)) c_95)
                refine j_aload_n hX dX11_makeJoin_150 6 rfl ?_
                refine j_iload_n hX dX11_makeJoin_151 5 rfl ?_
                refine j_aload_n hX dX11_makeJoin_152 6 rfl ?_
                refine j_iload_n hX dX11_makeJoin_153 4 rfl ?_
                refine j_iload hX dX11_makeJoin_154 2 rfl ?_
                refine j_callV (As := [.int (nI lf), .int (nI i)]) (rest := [.int (nI v), .ref m]) hX (c_X11_timesOf (xl X) (xK X) gw m Q th oc (b01 true) W hW lf i hlf (by omega)) hW.1 rfl lk_X11_93 wI_X11_timesOf wV_X11_X11_timesOf wN_X11 wC_X11_timesOf hd_X11_timesOf rfl (by rw [hL]; decide) (by decide) rfl (Nat.le_of_ble_eq_true rfl) dX11_makeJoin_156 (by rw [hR]; decide) (by rw [hR]; decide) jx_no ?_
                rintro _ _ ⟨rfl, rfl⟩
                show J X 0 0 gw 159 [(6, .int (nI cz)), (5, .int (nI j)), (4, .int (nI i)), (3, .int (nI rt)), (2, .int (nI lf)), (1, .int (nI v)), (0, .ref m)] [.long ((W 12 (20 * lf + i)).toInt64), .int (nI v), .ref m]
                refine j_eql (y := (nI (L[i]).2).toInt64) (by rw [hKW 12 (by decide), repA_time (hK.nb hne hLb hl20).2 hi]) ?_
                refine j_aload_n hX dX11_makeJoin_159 6 rfl ?_
                refine j_iload_n hX dX11_makeJoin_160 3 rfl ?_
                refine j_iload hX dX11_makeJoin_161 1 rfl ?_
                refine j_callV (As := [.int (nI rt), .int (nI j)]) (rest := [.long ((nI (L[i]).2).toInt64), .int (nI v), .ref m]) hX (c_X11_timesOf (xl X) (xK X) gw m Q th oc (b01 true) W hW rt j hrt (by omega)) hW.1 rfl lk_X11_93 wI_X11_timesOf wV_X11_X11_timesOf wN_X11 wC_X11_timesOf hd_X11_timesOf rfl (by rw [hL]; decide) (by decide) rfl (Nat.le_of_ble_eq_true rfl) dX11_makeJoin_163 (by rw [hR]; decide) (by rw [hR]; decide) jx_no ?_
                rintro _ _ ⟨rfl, rfl⟩
                show J X 0 0 gw 166 [(6, .int (nI cz)), (5, .int (nI j)), (4, .int (nI i)), (3, .int (nI rt)), (2, .int (nI lf)), (1, .int (nI v)), (0, .ref m)] [.long ((W 12 (20 * rt + j)).toInt64), .long ((nI (L[i]).2).toInt64), .int (nI v), .ref m]
                refine j_eql (y := (nI (R[j]).2).toInt64) (by rw [hKW 12 (by decide), repA_time (hK.nb hne2 hRb hr20).2 hj]) ?_
                refine j_lmul hX dX11_makeJoin_166 ?_
                refine j_callV (As := [.int (nI v), .long (((nI (L[i]).2).toInt64) * ((nI (R[j]).2).toInt64))]) (rest := []) hX (c_X11_add (xl X) (xK X) gw m Q th oc true W hW v w C hv (by rw [hKW 1 (by decide), hK.1 1 (by decide)]; exact hw) hw1 hw4 (NB.row hKW hN) kB (pairR wl (L[i]).1 (R[j]).1) (trunc_eq hw1 (fun y h1 h2 => by rw [cellR_pair h2]; show (if y < wl then _ else _) = _; rw [if_neg (by omega)]; exact zR _ (List.getElem_mem hj) _ (by omega) (by omega)) (fun y h1 h2 => by rw [← rowAt_cell h2, hz9 y (by omega), cellR_pair h2])) ((nI (L[i]).2).toInt64 * (nI (R[j]).2).toInt64) (by rw [hml.1]; have := Int.mul_pos (show (0 : Int) < (L[i]).2 by omega) (show (0 : Int) < (R[j]).2 by omega); omega) (by rw [hml.1]; omega)) hW.1 rfl lk_X11_97 wI_X11_add wV_X11_X11_add wN_X11 wC_X11_add hd_X11_add rfl (by rw [hL]; decide) (by decide) rfl (Nat.le_of_ble_eq_true rfl) dX11_makeJoin_167 (by rw [hR]; decide) (by rw [hR]; decide) jx_no ?_
                rintro _ g2 ⟨rfl, G2, fb2, B2, hS2, hK2, hN2, kB2, ht2, hf2⟩
                rw [hml.1] at ht2 hf2
                cases fb2
                · have hdead := dead (by rw [hf, jn_no hj hce (hf2 rfl rfl)]) G2 g2 hS2 ((hK.tr (Kp.row hKW v)).tr hK2)
                  show J X 0 0 g2 170 [(6, .int (nI cz)), (5, .int (nI j)), (4, .int (nI i)), (3, .int (nI rt)), (2, .int (nI lf)), (1, .int (nI v)), (0, .ref m)] []
                  refine j_iinc (v := nI (j + 1)) (lv' := [(5, .int (nI (j + 1))), (6, .int (nI cz)), (4, .int (nI i)), (3, .int (nI rt)), (2, .int (nI lf)), (1, .int (nI v)), (0, .ref m)]) hX dX11_makeJoin_170 1 rfl (nI_1 j) (by rw [hn]; decide) rfl ?_
                  refine j_goto hX 31 dX11_makeJoin_173 (by decide) ?_
                  refine j_aload_n hX dX11_makeJoin_31 6 rfl ?_
                  refine j_get (v := .int (b01 false)) hX hS2.1 rfl wf_X11 16 (by decide) lk_X11_68 (fun _ h => h) rfl dX11_makeJoin_32 ?_
                  refine j_if_eq hX 176 dX11_makeJoin_35 (by decide) (fun _ => ?_) (fun c_35 => absurd (by rfl) c_35)
                  refine j_iinc (v := nI (i + 1)) (lv' := [(4, .int (nI (i + 1))), (5, .int (nI (j + 1))), (6, .int (nI cz)), (3, .int (nI rt)), (2, .int (nI lf)), (1, .int (nI v)), (0, .ref m)]) hX dX11_makeJoin_176 2 rfl (nI_1 i) (by rw [hn]; decide) rfl ?_
                  refine j_goto hX 17 dX11_makeJoin_179 (by decide) ?_
                  refine j_sub [0, 3, 4, 5, 6] rfl ?_
                  exact hdead n (i + 1) (by omega)
                · show J X 0 0 g2 170 [(6, .int (nI cz)), (5, .int (nI j)), (4, .int (nI i)), (3, .int (nI rt)), (2, .int (nI lf)), (1, .int (nI v)), (0, .ref m)] []
                  refine j_iinc (v := nI (j + 1)) (lv' := [(5, .int (nI (j + 1))), (6, .int (nI cz)), (4, .int (nI i)), (3, .int (nI rt)), (2, .int (nI lf)), (1, .int (nI v)), (0, .ref m)]) hX dX11_makeJoin_170 1 rfl (nI_1 j) (by rw [hn]; decide) rfl ?_
                  refine j_goto hX 31 dX11_makeJoin_173 (by decide) ?_
                  refine j_sub [0, 2, 3, 4, 5, 6] rfl ?_
                  exact ihj (j + 1) G2 g2 B2 (by omega) hS2 ((hK.tr (Kp.row hKW v)).tr hK2) hN2 kB2 (by rw [hf, jn_yes hj hce (ht2 rfl).2])
              | succ q ihz =>
                intro cz W gw hz hW hKW hz9
                rcases Nat.lt_or_ge cz wl with hzl | hzl
                · refine j_iload hX dX11_makeJoin_87 0 rfl ?_
                  refine j_aload_n hX dX11_makeJoin_89 6 rfl ?_
                  refine j_get (v := .ref (Q 1)) hX hW.1 rfl wf_X11 2 (by decide) lk_X11_13 (fun _ h => h) rfl dX11_makeJoin_90 ?_
                  refine j_iload_n hX dX11_makeJoin_93 5 rfl ?_
                  refine j_ialdN hX (show gw (Q 1) = some (aI (xK X) 8 (W 1)) from hW.2.1 1 (by decide)) (v) (rfl) (hv) (by decide) dX11_makeJoin_94 ?_
                  refine j_eqi (y := nI w) (by rw [hKW 1 (by decide), hK.1 1 (by decide)]; exact hw) ?_
                  refine j_icmp_ge hX 150 dX11_makeJoin_95 (by decide) (fun c_95 => absurd c_95 (nI_ge (a := cz) (b := w) (by omega) (by omega))) (fun _ => ?_)
                  refine j_aload_n hX dX11_makeJoin_98 6 rfl ?_
                  refine j_get (v := .ref (Q 14)) hX hW.1 rfl wf_X11 17 (by decide) lk_X11_53 (fun _ h => h) rfl dX11_makeJoin_99 ?_
                  refine j_iload hX dX11_makeJoin_102 0 rfl ?_
                  refine j_iload hX dX11_makeJoin_104 0 rfl ?_
                  refine j_aload_n hX dX11_makeJoin_106 6 rfl ?_
                  refine j_get (v := .ref (Q 1)) hX hW.1 rfl wf_X11 2 (by decide) lk_X11_13 (fun _ h => h) rfl dX11_makeJoin_107 ?_
                  refine j_iload_n hX dX11_makeJoin_110 4 rfl ?_
                  refine j_ialdN hX (show gw (Q 1) = some (aI (xK X) 8 (W 1)) from hW.2.1 1 (by decide)) (lf) (rfl) (hlf) (by decide) dX11_makeJoin_111 ?_
                  refine j_eqi (y := nI wl) (by rw [hKW 1 (by decide), hK.1 1 (by decide)]; exact hwl) ?_
                  refine j_icmp_ge hX 127 dX11_makeJoin_112 (by decide) (fun c_112 => absurd c_112 (nI_ge (a := cz) (b := wl) (by omega) (by omega))) (fun _ => ?_)
                  refine j_aload_n hX dX11_makeJoin_115 6 rfl ?_
                  refine j_iload_n hX dX11_makeJoin_116 4 rfl ?_
                  refine j_iload hX dX11_makeJoin_117 2 rfl ?_
                  refine j_iload hX dX11_makeJoin_119 0 rfl ?_
                  refine j_callV (As := [.int (nI lf), .int (nI i), .int (nI cz)]) (rest := [.int (nI cz), .ref (Q 14)]) hX (c_X11_cellOf (xl X) (xK X) gw m Q th oc (b01 true) W hW lf i cz hlf (by omega) (by omega)) hW.1 rfl lk_X11_74 wI_X11_cellOf wV_X11_X11_cellOf wN_X11 wC_X11_cellOf hd_X11_cellOf rfl (by rw [hL]; decide) (by decide) rfl (Nat.le_of_ble_eq_true rfl) dX11_makeJoin_121 (by rw [hR]; decide) (by rw [hR]; decide) jx_no ?_
                  rintro _ _ ⟨rfl, rfl⟩
                  show J X 0 0 gw 124 [(6, .int (nI cz)), (5, .int (nI j)), (4, .int (nI i)), (3, .int (nI rt)), (2, .int (nI lf)), (1, .int (nI v)), (0, .ref m)] [.int (W 11 (80 * lf + 4 * i + cz)), .int (nI cz), .ref (Q 14)]
                  refine j_goto hX 143 dX11_makeJoin_124 (by decide) ?_
                  refine j_eqi (y := pc1 wl (L[i]).1 (R[j]).1 cz) (by rw [hKW 11 (by decide), repA_cell (hK.nb hne hLb hl20).2 hi (by omega)]; exact (if_pos hzl).symm) ?_
                  refine j_iastN hX (show gw (Q 14) = some (aI (xK X) 4 (W 14)) from hW.2.1 14 (by decide)) (cz) (rfl) (by omega) (by decide) dX11_makeJoin_143 ?_
                  obtain ⟨gs1, egs1⟩ : ∃ z : Wd, z = up gw (Q 14) (aI (xK X) 4 (upd (W 14) (cz) (pc1 wl (L[i]).1 (R[j]).1 cz))) := ⟨_, rfl⟩
                  refine j_w egs1.symm ?_
                  obtain ⟨Fs1, eFs1⟩ : ∃ z, z = fu W 14 (upd (W 14) (cz) (pc1 wl (L[i]).1 (R[j]).1 cz)) := ⟨_, rfl⟩
                  have hSs1 : RS (xK X) gs1 m Q th oc (b01 true) Fs1 := by rw [egs1, eFs1]; exact hW.put 14 (by decide) _
                  refine j_iinc (v := nI (cz + 1)) (lv' := [(6, .int (nI (cz + 1))), (5, .int (nI j)), (4, .int (nI i)), (3, .int (nI rt)), (2, .int (nI lf)), (1, .int (nI v)), (0, .ref m)]) hX dX11_makeJoin_144 0 rfl (nI_1 cz) (by rw [hn]; decide) rfl ?_
                  refine j_goto hX 87 dX11_makeJoin_147 (by decide) ?_
                  refine j_sub [0, 1, 2, 3, 4, 5, 6] rfl ?_
                  exact ihz (cz + 1) Fs1 gs1 (by omega) hSs1 (fun y hy => by rw [eFs1, fu_n hy]; exact hKW y hy) (fun y hy => by
                    rw [eFs1, fu_s]
                    by_cases e : y = cz
                    · rw [e, pk_us]
                    · rw [pk_un e]; exact hz9 y (by omega))
                · refine j_iload hX dX11_makeJoin_87 0 rfl ?_
                  refine j_aload_n hX dX11_makeJoin_89 6 rfl ?_
                  refine j_get (v := .ref (Q 1)) hX hW.1 rfl wf_X11 2 (by decide) lk_X11_13 (fun _ h => h) rfl dX11_makeJoin_90 ?_
                  refine j_iload_n hX dX11_makeJoin_93 5 rfl ?_
                  refine j_ialdN hX (show gw (Q 1) = some (aI (xK X) 8 (W 1)) from hW.2.1 1 (by decide)) (v) (rfl) (hv) (by decide) dX11_makeJoin_94 ?_
                  refine j_eqi (y := nI w) (by rw [hKW 1 (by decide), hK.1 1 (by decide)]; exact hw) ?_
                  refine j_icmp_ge hX 150 dX11_makeJoin_95 (by decide) (fun c_95 => absurd c_95 (nI_ge (a := cz) (b := w) (by omega) (by omega))) (fun _ => ?_)
                  refine j_aload_n hX dX11_makeJoin_98 6 rfl ?_
                  refine j_get (v := .ref (Q 14)) hX hW.1 rfl wf_X11 17 (by decide) lk_X11_53 (fun _ h => h) rfl dX11_makeJoin_99 ?_
                  refine j_iload hX dX11_makeJoin_102 0 rfl ?_
                  refine j_iload hX dX11_makeJoin_104 0 rfl ?_
                  refine j_aload_n hX dX11_makeJoin_106 6 rfl ?_
                  refine j_get (v := .ref (Q 1)) hX hW.1 rfl wf_X11 2 (by decide) lk_X11_13 (fun _ h => h) rfl dX11_makeJoin_107 ?_
                  refine j_iload_n hX dX11_makeJoin_110 4 rfl ?_
                  refine j_ialdN hX (show gw (Q 1) = some (aI (xK X) 8 (W 1)) from hW.2.1 1 (by decide)) (lf) (rfl) (hlf) (by decide) dX11_makeJoin_111 ?_
                  refine j_eqi (y := nI wl) (by rw [hKW 1 (by decide), hK.1 1 (by decide)]; exact hwl) ?_
                  refine j_icmp_ge hX 127 dX11_makeJoin_112 (by decide) (fun _ => ?_) (fun c_112 => absurd (nI_le (a := wl) (b := cz) (by omega) (by omega)) c_112)
                  refine j_aload_n hX dX11_makeJoin_127 6 rfl ?_
                  refine j_iload_n hX dX11_makeJoin_128 3 rfl ?_
                  refine j_iload hX dX11_makeJoin_129 1 rfl ?_
                  refine j_iload hX dX11_makeJoin_131 0 rfl ?_
                  refine j_aload_n hX dX11_makeJoin_133 6 rfl ?_
                  refine j_get (v := .ref (Q 1)) hX hW.1 rfl wf_X11 2 (by decide) lk_X11_13 (fun _ h => h) rfl dX11_makeJoin_134 ?_
                  refine j_iload_n hX dX11_makeJoin_137 4 rfl ?_
                  refine j_ialdN hX (show gw (Q 1) = some (aI (xK X) 8 (W 1)) from hW.2.1 1 (by decide)) (lf) (rfl) (hlf) (by decide) dX11_makeJoin_138 ?_
                  refine j_eqi (y := nI wl) (by rw [hKW 1 (by decide), hK.1 1 (by decide)]; exact hwl) ?_
                  refine j_isub hX dX11_makeJoin_139 ?_
                  refine j_eqi (y := nI (cz - wl)) (pk_sub (by omega)) ?_
                  refine j_callV (As := [.int (nI rt), .int (nI j), .int (nI (cz - wl))]) (rest := [.int (nI cz), .ref (Q 14)]) hX (c_X11_cellOf (xl X) (xK X) gw m Q th oc (b01 true) W hW rt j (cz - wl) hrt (by omega) (by omega)) hW.1 rfl lk_X11_74 wI_X11_cellOf wV_X11_X11_cellOf wN_X11 wC_X11_cellOf hd_X11_cellOf rfl (by rw [hL]; decide) (by decide) rfl (Nat.le_of_ble_eq_true rfl) dX11_makeJoin_140 (by rw [hR]; decide) (by rw [hR]; decide) jx_no ?_
                  rintro _ _ ⟨rfl, rfl⟩
                  show J X 0 0 gw 143 [(6, .int (nI cz)), (5, .int (nI j)), (4, .int (nI i)), (3, .int (nI rt)), (2, .int (nI lf)), (1, .int (nI v)), (0, .ref m)] [.int (W 11 (80 * rt + 4 * j + (cz - wl))), .int (nI cz), .ref (Q 14)]
                  refine j_eqi (y := pc1 wl (L[i]).1 (R[j]).1 cz) (by rw [hKW 11 (by decide), repA_cell (hK.nb hne2 hRb hr20).2 hj (by omega)]; exact (if_neg (by omega)).symm) ?_
                  refine j_iastN hX (show gw (Q 14) = some (aI (xK X) 4 (W 14)) from hW.2.1 14 (by decide)) (cz) (rfl) (by omega) (by decide) dX11_makeJoin_143 ?_
                  obtain ⟨gs1, egs1⟩ : ∃ z : Wd, z = up gw (Q 14) (aI (xK X) 4 (upd (W 14) (cz) (pc1 wl (L[i]).1 (R[j]).1 cz))) := ⟨_, rfl⟩
                  refine j_w egs1.symm ?_
                  obtain ⟨Fs1, eFs1⟩ : ∃ z, z = fu W 14 (upd (W 14) (cz) (pc1 wl (L[i]).1 (R[j]).1 cz)) := ⟨_, rfl⟩
                  have hSs1 : RS (xK X) gs1 m Q th oc (b01 true) Fs1 := by rw [egs1, eFs1]; exact hW.put 14 (by decide) _
                  refine j_iinc (v := nI (cz + 1)) (lv' := [(6, .int (nI (cz + 1))), (5, .int (nI j)), (4, .int (nI i)), (3, .int (nI rt)), (2, .int (nI lf)), (1, .int (nI v)), (0, .ref m)]) hX dX11_makeJoin_144 0 rfl (nI_1 cz) (by rw [hn]; decide) rfl ?_
                  refine j_goto hX 87 dX11_makeJoin_147 (by decide) ?_
                  refine j_sub [0, 1, 2, 3, 4, 5, 6] rfl ?_
                  exact ihz (cz + 1) Fs1 gs1 (by omega) hSs1 (fun y hy => by rw [eFs1, fu_n hy]; exact hKW y hy) (fun y hy => by
                    rw [eFs1, fu_s]
                    by_cases e : y = cz
                    · rw [e, pk_us]
                    · rw [pk_un e]; exact hz9 y (by omega))
            refine j_sub (lv' := [(6, .int (nI 0)), (5, .int (nI j)), (4, .int (nI i)), (3, .int (nI rt)), (2, .int (nI lf)), (1, .int (nI v)), (0, .ref m)]) [0, 1, 2, 3, 4, 5, 6] rfl ?_
            exact rowl w 0 D gd (by omega) hD (fun _ _ => rfl) (fun y hy => absurd hy (by omega))
      refine j_sub (lv' := [(5, .int (nI 0)), (4, .int (nI i)), (3, .int (nI rt)), (2, .int (nI lf)), (1, .int (nI v)), (0, .ref m)]) [0, 1, 2, 3, 4, 5] rfl ?_
      exact inner R.length 0 G g9 B (by omega) hG hK hN kB (by rw [hf, prs_drop hi])
  refine j_aload_n hX dX11_makeJoin_0 0 rfl ?_
  refine j_get (v := .ref (Q 2)) hX hS.1 rfl wf_X11 3 (by decide) lk_X11_16 (fun _ h => h) rfl dX11_makeJoin_1 ?_
  refine j_iload_n hX dX11_makeJoin_4 1 rfl ?_
  refine j_ialdN hX (show g (Q 2) = some (aI (xK X) 8 (F 2)) from hS.2.1 2 (by decide)) (v) (rfl) (hv) (by decide) dX11_makeJoin_5 ?_
  refine j_eqi (y := nI lf) (h2) ?_
  refine j_istore_n (lv' := [(2, .int (nI lf)), (0, .ref m), (1, .int (nI v))]) hX dX11_makeJoin_6 (by rw [hn]; decide) rfl ?_
  refine j_aload_n hX dX11_makeJoin_7 1 rfl ?_
  refine j_get (v := .ref (Q 3)) hX hS.1 rfl wf_X11 4 (by decide) lk_X11_19 (fun _ h => h) rfl dX11_makeJoin_8 ?_
  refine j_iload_n hX dX11_makeJoin_11 2 rfl ?_
  refine j_ialdN hX (show g (Q 3) = some (aI (xK X) 8 (F 3)) from hS.2.1 3 (by decide)) (v) (rfl) (hv) (by decide) dX11_makeJoin_12 ?_
  refine j_eqi (y := nI rt) (h3) ?_
  refine j_istore_n (lv' := [(3, .int (nI rt)), (2, .int (nI lf)), (0, .ref m), (1, .int (nI v))]) hX dX11_makeJoin_13 (by rw [hn]; decide) rfl ?_
  refine j_iconst (v := nI 0) hX dX11_makeJoin_14 (by decide) ?_
  refine j_istore (lv' := [(4, .int (nI 0)), (3, .int (nI rt)), (2, .int (nI lf)), (0, .ref m), (1, .int (nI v))]) hX dX11_makeJoin_15 (by rw [hn]; decide) rfl ?_
  refine j_sub (lv' := [(4, .int (nI 0)), (3, .int (nI rt)), (2, .int (nI lf)), (1, .int (nI v)), (0, .ref m)]) [0, 1, 2, 4, 3] rfl ?_
  exact live L.length 0 F g [] (by omega) hS (Kp.rf v F) hB (good_nil.wk (zw_nil w)) rfl

theorem tog_sym (by_ : Option Nat) (a b : Row) : tog by_ a b = tog by_ b a := by
  cases by_ with
  | none => rfl
  | some c => show decide (cellR a c = cellR b c) = decide (cellR b c = cellR a c); exact decide_eq_decide.mpr ⟨Eq.symm, Eq.symm⟩
theorem c_X11_same (l : Launch) (K : Cst) (g : Wd) (m : Nat) (Q : Nat → Nat) (th oc fi : Int32) (F : Nat → Nat → Int32) (hS : RS K g m Q th oc fi F) (r i j : Nat) (L : Bg) (by_ : Option Nat) (hby : ∀ c, by_ = some c → c < 4) (hr : r < 8) (hLb : NB F r L) (hi : i < L.length) (hj : j < L.length) (hl : L.length ≤ 20) : Ct l K yX11_isSameGroup cX11_isSameGroup 5 (some .boolean) 1 [.ref m, .int (nI r), .int (chv by_), .int (nI i), .int (nI j)] g (fun v g' => v = some (.int (b01 (tog by_ (L[i]).1 (L[j]).1))) ∧ g = g') (fun _ _ => False) 0 0 := by
  cases by_ with
  | none => exact c_X11_same_n l K g m Q th oc fi F hS r i j
  | some c =>
    have h := c_X11_same_s l K g m Q th oc fi F hS r c i j hr (hby c rfl) (by omega) (by omega)
    have hc := hby c rfl
    rw [repA_cell hLb.2 hi (by omega), repA_cell hLb.2 hj (by omega)] at h
    exact h
set_option maxRecDepth 20000 in
set_option maxHeartbeats 1600000 in
/-- makeGroups(v) -/
theorem c_X11_makeGroups (l : Launch) (K : Cst) (g : Wd) (m : Nat) (Q : Nat → Nat) (th oc : Int32) (F : Nat → Nat → Int32) (hS : RS K g m Q th oc (b01 true) F) (v lf w st c : Nat) (L : Bg) (by_ : Option Nat) (hby : ∀ c, by_ = some c → c < 4) (hv : v < 8) (hlf : lf < 8) (hne : lf ≠ v) (hw : F 1 v = nI w) (ew : w = if by_ = none then 1 else 2) (hLb : NB F lf L) (gL : good L) (hB : NB F v []) (h2 : F 2 v = nI lf) (h40 : F 4 (4 * v) = chv by_) (hst : st ≤ 3) (h41 : F 4 (4 * v + 1) = nI st) (hc : c < 4) (h42 : F 4 (4 * v + 2) = nI c) : Ct l K yX11_makeGroups cX11_makeGroups 12 none 2 [.ref m, .int (nI v)] g (MkP K m Q th oc F v w (fldB (grF by_ st c L) (List.range L.length) [])) (fun _ _ => False) 0 0 := by
  refine ct_of (by decide) (Nat.le_of_ble_eq_true rfl) ?_
  intro X hl hK hX hE hn hL hR hm
  subst hl; subst hK
  show J X 0 0 g 0 [(0, .ref m), (1, .int (nI v))] []
  have hl20 := gL.2.1
  have hw1 : 1 ≤ w := by rw [ew]; split <;> omega
  have hw4 : w ≤ 4 := by rw [ew]; split <;> omega
  have live : ∀ (n k : Nat) (G : Nat → Nat → Int32) (g9 : Wd) (B : Bg), k + n = L.length → RS (xK X) g9 m Q th oc (b01 true) G → Kp v F G → NB G v B → wk w B → fldB (grF by_ st c L) (List.range L.length) [] = fldB (grF by_ st c L) ((List.range L.length).drop k) B → J X 0 0 g9 43 [(6, .int (nI k)), (5, .int (nI c)), (4, .int (nI st)), (3, .int (chv by_)), (2, .int (nI lf)), (1, .int (nI v)), (0, .ref m)] [] := by
    intro n
    induction n with
    | zero =>
      intro k G g9 B hk9 hG hK hN kB hf
      refine j_aload_n hX dX11_makeGroups_43 6 rfl ?_
      refine j_get (v := .int (b01 true)) hX hG.1 rfl wf_X11 16 (by decide) lk_X11_68 (fun _ h => h) rfl dX11_makeGroups_44 ?_
      refine j_if_eq hX 298 dX11_makeGroups_47 (by decide) (fun c_47 => absurd c_47 (by decide)) (fun _ => ?_)
      refine j_iload hX dX11_makeGroups_50 0 rfl ?_
      refine j_aload_n hX dX11_makeGroups_52 6 rfl ?_
      refine j_get (v := .ref (Q 13)) hX hG.1 rfl wf_X11 15 (by decide) lk_X11_50 (fun _ h => h) rfl dX11_makeGroups_53 ?_
      refine j_iload_n hX dX11_makeGroups_56 4 rfl ?_
      refine j_ialdN hX (show g9 (Q 13) = some (aI (xK X) 8 (G 13)) from hG.2.1 13 (by decide)) (lf) (rfl) (hlf) (by decide) dX11_makeGroups_57 ?_
      refine j_eqi (y := nI L.length) (by rw [hK.2.1 lf hne]; exact hLb.1) ?_
      refine j_icmp_ge hX 298 dX11_makeGroups_58 (by decide) (fun _ => ?_) (fun c_58 => absurd (nI_le (a := L.length) (b := k) (by omega) (by omega)) c_58)
      exact j_vret hX hE dX11_makeGroups_298 (⟨rfl, G, true, hG, hK, fun _ => ⟨B, by rw [hf, gr_end (by omega)], hN, kB⟩, fun e => absurd e (by decide)⟩) (by decide) (by decide)
    | succ n ih =>
      intro k G g9 B hk9 hG hK hN kB hf
      have hk : k < L.length := by omega
      have notF : firstG by_ L k = false → J X 0 0 g9 105 [(7, .int (nI 0)), (6, .int (nI k)), (5, .int (nI c)), (4, .int (nI st)), (3, .int (chv by_)), (2, .int (nI lf)), (1, .int (nI v)), (0, .ref m)] [] := by
        intro hfi
        refine j_iload hX dX11_makeGroups_105 0 rfl ?_
        refine j_if_eq hX 292 dX11_makeGroups_107 (by decide) (fun _ => ?_) (fun c_107 => absurd (by rfl) c_107)
        refine j_iinc (v := nI (k + 1)) (lv' := [(6, .int (nI (k + 1))), (7, .int (nI 0)), (5, .int (nI c)), (4, .int (nI st)), (3, .int (chv by_)), (2, .int (nI lf)), (1, .int (nI v)), (0, .ref m)]) hX dX11_makeGroups_292 1 rfl (nI_1 k) (by rw [hn]; decide) rfl ?_
        refine j_goto hX 43 dX11_makeGroups_295 (by decide) ?_
        refine j_sub [0, 2, 3, 4, 5, 6, 7] rfl ?_
        exact ih (k + 1) G g9 B (by omega) hG hK hN kB (by rw [hf, gr_skip hk (by rw [hfi]; decide)])
      have isF : firstG by_ L k = true → J X 0 0 g9 105 [(7, .int (nI 1)), (6, .int (nI k)), (5, .int (nI c)), (4, .int (nI st)), (3, .int (chv by_)), (2, .int (nI lf)), (1, .int (nI v)), (0, .ref m)] [] := by
        intro hfi
        have fin : ∀ va : Int32, valueG by_ st c L k = va → J X 0 0 g9 255 [(8, .int va), (6, .int (nI k)), (5, .int (nI c)), (4, .int (nI st)), (3, .int (chv by_)), (2, .int (nI lf)), (1, .int (nI v)), (0, .ref m)] [] := by
          intro va hva
          rcases (show by_ = none ∨ ∃ cb, by_ = some cb by cases by_ with | none => exact Or.inl rfl | some cb => exact Or.inr ⟨cb, rfl⟩) with hby_ | ⟨cb, hby_⟩
          · subst hby_
            show J X 0 0 g9 255 [(8, .int va), (6, .int (nI k)), (5, .int (nI c)), (4, .int (nI st)), (3, .int (-1)), (2, .int (nI lf)), (1, .int (nI v)), (0, .ref m)] []
            refine j_aload_n hX dX11_makeGroups_255 7 rfl ?_
            refine j_get (v := .ref (Q 14)) hX hG.1 rfl wf_X11 17 (by decide) lk_X11_53 (fun _ h => h) rfl dX11_makeGroups_256 ?_
            refine j_iconst (v := nI 0) hX dX11_makeGroups_259 (by decide) ?_
            refine j_iload_n hX dX11_makeGroups_260 4 rfl ?_
            refine j_if_ge hX 269 dX11_makeGroups_261 (by decide) (fun c_261 => absurd c_261 (by decide)) (fun _ => ?_)
            refine j_iload hX dX11_makeGroups_264 0 rfl ?_
            refine j_goto hX 277 dX11_makeGroups_266 (by decide) ?_
            skip
            refine j_iastN hX (show g9 (Q 14) = some (aI (xK X) 4 (G 14)) from hG.2.1 14 (by decide)) (0) (rfl) (by decide) (by decide) dX11_makeGroups_277 ?_
            obtain ⟨gq1, egq1⟩ : ∃ z : Wd, z = up g9 (Q 14) (aI (xK X) 4 (upd (G 14) (0) va)) := ⟨_, rfl⟩
            refine j_w egq1.symm ?_
            obtain ⟨Fq1, eFq1⟩ : ∃ z, z = fu G 14 (upd (G 14) (0) va) := ⟨_, rfl⟩
            have hSq1 : RS (xK X) gq1 m Q th oc (b01 true) Fq1 := by rw [egq1, eFq1]; exact hG.put 14 (by decide) _
            refine j_aload_n hX dX11_makeGroups_278 7 rfl ?_
            refine j_get (v := .ref (Q 14)) hX hSq1.1 rfl wf_X11 17 (by decide) lk_X11_53 (fun _ h => h) rfl dX11_makeGroups_279 ?_
            refine j_iconst (v := nI 1) hX dX11_makeGroups_282 (by decide) ?_
            refine j_iload hX dX11_makeGroups_283 0 rfl ?_
            refine j_iastN hX (show gq1 (Q 14) = some (aI (xK X) 4 (Fq1 14)) from hSq1.2.1 14 (by decide)) (1) (rfl) (by decide) (by decide) dX11_makeGroups_285 ?_
            obtain ⟨gq2, egq2⟩ : ∃ z : Wd, z = up gq1 (Q 14) (aI (xK X) 4 (upd (Fq1 14) (1) va)) := ⟨_, rfl⟩
            refine j_w egq2.symm ?_
            obtain ⟨Fq2, eFq2⟩ : ∃ z, z = fu Fq1 14 (upd (Fq1 14) (1) va) := ⟨_, rfl⟩
            have hSq2 : RS (xK X) gq2 m Q th oc (b01 true) Fq2 := by rw [egq2, eFq2]; exact hSq1.put 14 (by decide) _
            have hq : ∀ j, j ≠ 14 → Fq2 j = G j := fun j hj => by rw [eFq2, fu_n hj, eFq1, fu_n hj]
            have hT : growG none st c L k = truncR w (rowAt (Fq2 14) 0) := by
              rw [ew, eFq2, fu_s, eFq1, fu_s]
              simp [growG, truncR, rowAt, upd, hva]
            refine j_aload_n hX dX11_makeGroups_286 7 rfl ?_
            refine j_iload_n hX dX11_makeGroups_287 6 rfl ?_
            refine j_lconst (v := 1) hX dX11_makeGroups_288 (by decide) ?_
            refine j_callV (As := [.int (nI v), .long 1]) (rest := []) hX (c_X11_add (xl X) (xK X) gq2 m Q th oc true Fq2 hSq2 v w B hv (by rw [hq 1 (by decide), hK.1 1 (by decide)]; exact hw) hw1 hw4 (NB.row hq hN) kB _ hT 1 (by decide) (by decide)) hSq2.1 rfl lk_X11_97 wI_X11_add wV_X11_X11_add wN_X11 wC_X11_add hd_X11_add rfl (by rw [hL]; decide) (by decide) rfl (Nat.le_of_ble_eq_true rfl) dX11_makeGroups_289 (by rw [hR]; decide) (by rw [hR]; decide) jx_no ?_
            rintro _ g2 ⟨rfl, G2, fb2, B2, hS2, hK2, hN2, kB2, ht2, hf2⟩
            rw [show (1 : Int64).toInt = 1 from rfl] at ht2 hf2
            have hKK := (hK.tr (Kp.row hq v)).tr hK2
            cases fb2
            · have hdead := hf.trans (gr_no hk hfi (hf2 rfl rfl))
              show J X 0 0 g2 292 [(8, .int va), (6, .int (nI k)), (5, .int (nI c)), (4, .int (nI st)), (3, .int (-1)), (2, .int (nI lf)), (1, .int (nI v)), (0, .ref m)] []
              refine j_iinc (v := nI (k + 1)) (lv' := [(6, .int (nI (k + 1))), (8, .int va), (5, .int (nI c)), (4, .int (nI st)), (3, .int (-1)), (2, .int (nI lf)), (1, .int (nI v)), (0, .ref m)]) hX dX11_makeGroups_292 1 rfl (nI_1 k) (by rw [hn]; decide) rfl ?_
              refine j_goto hX 43 dX11_makeGroups_295 (by decide) ?_
              refine j_aload_n hX dX11_makeGroups_43 7 rfl ?_
              refine j_get (v := .int (b01 false)) hX hS2.1 rfl wf_X11 16 (by decide) lk_X11_68 (fun _ h => h) rfl dX11_makeGroups_44 ?_
              refine j_if_eq hX 298 dX11_makeGroups_47 (by decide) (fun _ => ?_) (fun c_47 => absurd (by rfl) c_47)
              exact j_vret hX hE dX11_makeGroups_298 (⟨rfl, G2, false, hS2, hKK, fun e => absurd e (by decide), fun _ => hdead⟩) (by decide) (by decide)
            · show J X 0 0 g2 292 [(8, .int va), (6, .int (nI k)), (5, .int (nI c)), (4, .int (nI st)), (3, .int (-1)), (2, .int (nI lf)), (1, .int (nI v)), (0, .ref m)] []
              refine j_iinc (v := nI (k + 1)) (lv' := [(6, .int (nI (k + 1))), (8, .int va), (5, .int (nI c)), (4, .int (nI st)), (3, .int (-1)), (2, .int (nI lf)), (1, .int (nI v)), (0, .ref m)]) hX dX11_makeGroups_292 1 rfl (nI_1 k) (by rw [hn]; decide) rfl ?_
              refine j_goto hX 43 dX11_makeGroups_295 (by decide) ?_
              refine j_sub [0, 2, 3, 4, 5, 6, 7] rfl ?_
              exact ih (k + 1) G2 g2 B2 (by omega) hS2 hKK hN2 kB2 (by rw [hf, gr_yes hk hfi (ht2 rfl).2])
          · have hcb := hby cb hby_
            subst hby_
            show J X 0 0 g9 255 [(8, .int va), (6, .int (nI k)), (5, .int (nI c)), (4, .int (nI st)), (3, .int (nI cb)), (2, .int (nI lf)), (1, .int (nI v)), (0, .ref m)] []
            refine j_aload_n hX dX11_makeGroups_255 7 rfl ?_
            refine j_get (v := .ref (Q 14)) hX hG.1 rfl wf_X11 17 (by decide) lk_X11_53 (fun _ h => h) rfl dX11_makeGroups_256 ?_
            refine j_iconst (v := nI 0) hX dX11_makeGroups_259 (by decide) ?_
            refine j_iload_n hX dX11_makeGroups_260 4 rfl ?_
            refine j_if_ge hX 269 dX11_makeGroups_261 (by decide) (fun _ => ?_) (fun c_261 => absurd (Int32.not_lt.mp (nI_pos (n := cb) (by omega))) c_261)
            refine j_aload_n hX dX11_makeGroups_269 7 rfl ?_
            refine j_iload_n hX dX11_makeGroups_270 5 rfl ?_
            refine j_iload hX dX11_makeGroups_271 1 rfl ?_
            refine j_iload_n hX dX11_makeGroups_273 4 rfl ?_
            refine j_callV (As := [.int (nI lf), .int (nI k), .int (nI cb)]) (rest := [.int (nI 0), .ref (Q 14)]) hX (c_X11_cellOf (xl X) (xK X) g9 m Q th oc (b01 true) G hG lf k cb hlf (by omega) (by omega)) hG.1 rfl lk_X11_74 wI_X11_cellOf wV_X11_X11_cellOf wN_X11 wC_X11_cellOf hd_X11_cellOf rfl (by rw [hL]; decide) (by decide) rfl (Nat.le_of_ble_eq_true rfl) dX11_makeGroups_274 (by rw [hR]; decide) (by rw [hR]; decide) jx_no ?_
            rintro _ _ ⟨rfl, rfl⟩
            show J X 0 0 g9 277 [(8, .int va), (6, .int (nI k)), (5, .int (nI c)), (4, .int (nI st)), (3, .int (nI cb)), (2, .int (nI lf)), (1, .int (nI v)), (0, .ref m)] [.int (G 11 (80 * lf + 4 * k + cb)), .int (nI 0), .ref (Q 14)]
            refine j_eqi (y := cellR (rowG L k) cb) (by rw [rowG_at hk]; exact repA_cell (hK.nb hne hLb hl20).2 hk (by omega)) ?_
            refine j_iastN hX (show g9 (Q 14) = some (aI (xK X) 4 (G 14)) from hG.2.1 14 (by decide)) (0) (rfl) (by decide) (by decide) dX11_makeGroups_277 ?_
            obtain ⟨gq1, egq1⟩ : ∃ z : Wd, z = up g9 (Q 14) (aI (xK X) 4 (upd (G 14) (0) (cellR (rowG L k) cb))) := ⟨_, rfl⟩
            refine j_w egq1.symm ?_
            obtain ⟨Fq1, eFq1⟩ : ∃ z, z = fu G 14 (upd (G 14) (0) (cellR (rowG L k) cb)) := ⟨_, rfl⟩
            have hSq1 : RS (xK X) gq1 m Q th oc (b01 true) Fq1 := by rw [egq1, eFq1]; exact hG.put 14 (by decide) _
            refine j_aload_n hX dX11_makeGroups_278 7 rfl ?_
            refine j_get (v := .ref (Q 14)) hX hSq1.1 rfl wf_X11 17 (by decide) lk_X11_53 (fun _ h => h) rfl dX11_makeGroups_279 ?_
            refine j_iconst (v := nI 1) hX dX11_makeGroups_282 (by decide) ?_
            refine j_iload hX dX11_makeGroups_283 0 rfl ?_
            refine j_iastN hX (show gq1 (Q 14) = some (aI (xK X) 4 (Fq1 14)) from hSq1.2.1 14 (by decide)) (1) (rfl) (by decide) (by decide) dX11_makeGroups_285 ?_
            obtain ⟨gq2, egq2⟩ : ∃ z : Wd, z = up gq1 (Q 14) (aI (xK X) 4 (upd (Fq1 14) (1) va)) := ⟨_, rfl⟩
            refine j_w egq2.symm ?_
            obtain ⟨Fq2, eFq2⟩ : ∃ z, z = fu Fq1 14 (upd (Fq1 14) (1) va) := ⟨_, rfl⟩
            have hSq2 : RS (xK X) gq2 m Q th oc (b01 true) Fq2 := by rw [egq2, eFq2]; exact hSq1.put 14 (by decide) _
            have hq : ∀ j, j ≠ 14 → Fq2 j = G j := fun j hj => by rw [eFq2, fu_n hj, eFq1, fu_n hj]
            have hT : growG (some cb) st c L k = truncR w (rowAt (Fq2 14) 0) := by
              rw [ew, eFq2, fu_s, eFq1, fu_s]
              simp [growG, truncR, rowAt, upd, hva]
            refine j_aload_n hX dX11_makeGroups_286 7 rfl ?_
            refine j_iload_n hX dX11_makeGroups_287 6 rfl ?_
            refine j_lconst (v := 1) hX dX11_makeGroups_288 (by decide) ?_
            refine j_callV (As := [.int (nI v), .long 1]) (rest := []) hX (c_X11_add (xl X) (xK X) gq2 m Q th oc true Fq2 hSq2 v w B hv (by rw [hq 1 (by decide), hK.1 1 (by decide)]; exact hw) hw1 hw4 (NB.row hq hN) kB _ hT 1 (by decide) (by decide)) hSq2.1 rfl lk_X11_97 wI_X11_add wV_X11_X11_add wN_X11 wC_X11_add hd_X11_add rfl (by rw [hL]; decide) (by decide) rfl (Nat.le_of_ble_eq_true rfl) dX11_makeGroups_289 (by rw [hR]; decide) (by rw [hR]; decide) jx_no ?_
            rintro _ g2 ⟨rfl, G2, fb2, B2, hS2, hK2, hN2, kB2, ht2, hf2⟩
            rw [show (1 : Int64).toInt = 1 from rfl] at ht2 hf2
            have hKK := (hK.tr (Kp.row hq v)).tr hK2
            cases fb2
            · have hdead := hf.trans (gr_no hk hfi (hf2 rfl rfl))
              show J X 0 0 g2 292 [(8, .int va), (6, .int (nI k)), (5, .int (nI c)), (4, .int (nI st)), (3, .int (nI cb)), (2, .int (nI lf)), (1, .int (nI v)), (0, .ref m)] []
              refine j_iinc (v := nI (k + 1)) (lv' := [(6, .int (nI (k + 1))), (8, .int va), (5, .int (nI c)), (4, .int (nI st)), (3, .int (nI cb)), (2, .int (nI lf)), (1, .int (nI v)), (0, .ref m)]) hX dX11_makeGroups_292 1 rfl (nI_1 k) (by rw [hn]; decide) rfl ?_
              refine j_goto hX 43 dX11_makeGroups_295 (by decide) ?_
              refine j_aload_n hX dX11_makeGroups_43 7 rfl ?_
              refine j_get (v := .int (b01 false)) hX hS2.1 rfl wf_X11 16 (by decide) lk_X11_68 (fun _ h => h) rfl dX11_makeGroups_44 ?_
              refine j_if_eq hX 298 dX11_makeGroups_47 (by decide) (fun _ => ?_) (fun c_47 => absurd (by rfl) c_47)
              exact j_vret hX hE dX11_makeGroups_298 (⟨rfl, G2, false, hS2, hKK, fun e => absurd e (by decide), fun _ => hdead⟩) (by decide) (by decide)
            · show J X 0 0 g2 292 [(8, .int va), (6, .int (nI k)), (5, .int (nI c)), (4, .int (nI st)), (3, .int (nI cb)), (2, .int (nI lf)), (1, .int (nI v)), (0, .ref m)] []
              refine j_iinc (v := nI (k + 1)) (lv' := [(6, .int (nI (k + 1))), (8, .int va), (5, .int (nI c)), (4, .int (nI st)), (3, .int (nI cb)), (2, .int (nI lf)), (1, .int (nI v)), (0, .ref m)]) hX dX11_makeGroups_292 1 rfl (nI_1 k) (by rw [hn]; decide) rfl ?_
              refine j_goto hX 43 dX11_makeGroups_295 (by decide) ?_
              refine j_sub [0, 2, 3, 4, 5, 6, 7] rfl ?_
              exact ih (k + 1) G2 g2 B2 (by omega) hS2 hKK hN2 kB2 (by rw [hf, gr_yes hk hfi (ht2 rfl).2])
        have vloop : ∀ (p j : Nat) (va : Int32), j + p = L.length → k ≤ j → valueG by_ st c L k = valG by_ st c L k (L.length - j) j va → J X 0 0 g9 135 [(9, .int (nI j)), (8, .int va), (6, .int (nI k)), (5, .int (nI c)), (4, .int (nI st)), (3, .int (chv by_)), (2, .int (nI lf)), (1, .int (nI v)), (0, .ref m)] [] := by
          intro p
          induction p with
          | zero =>
            intro j va hj9 hkj hvv
            refine j_iload hX dX11_makeGroups_135 0 rfl ?_
            refine j_aload_n hX dX11_makeGroups_137 8 rfl ?_
            refine j_get (v := .ref (Q 13)) hX hG.1 rfl wf_X11 15 (by decide) lk_X11_50 (fun _ h => h) rfl dX11_makeGroups_138 ?_
            refine j_iload_n hX dX11_makeGroups_141 6 rfl ?_
            refine j_ialdN hX (show g9 (Q 13) = some (aI (xK X) 8 (G 13)) from hG.2.1 13 (by decide)) (lf) (rfl) (hlf) (by decide) dX11_makeGroups_142 ?_
            refine j_eqi (y := nI L.length) (by rw [hK.2.1 lf hne]; exact hLb.1) ?_
            refine j_icmp_ge hX 255 dX11_makeGroups_143 (by decide) (fun _ => ?_) (fun c_143 => absurd (nI_le (a := L.length) (b := j) (by omega) (by omega)) c_143)
            refine j_sub [1, 2, 3, 4, 5, 6, 7, 8] rfl ?_
            exact fin va (by rw [hvv, show L.length - j = 0 by omega]; rfl)
          | succ p ihv =>
            intro j va hj9 hkj hvv
            have hj : j < L.length := by omega
            have eV : valG by_ st c L k (L.length - j) j va = valG by_ st c L k (L.length - (j + 1)) (j + 1) (if tog by_ (rowG L k) (rowG L j) = true then withR st va (cellR (rowG L j) c) (nI (tmG L j)) else va) := by rw [show L.length - j = L.length - (j + 1) + 1 by omega]; rfl
            rcases (show st = 0 ∨ st = 1 ∨ st = 2 ∨ st = 3 by omega) with h | h | h | h <;> subst h
            · show J X 0 0 g9 135 [(9, .int (nI j)), (8, .int va), (6, .int (nI k)), (5, .int (nI c)), (4, .int (nI 0)), (3, .int (chv by_)), (2, .int (nI lf)), (1, .int (nI v)), (0, .ref m)] []
              refine j_iload hX dX11_makeGroups_135 0 rfl ?_
              refine j_aload_n hX dX11_makeGroups_137 8 rfl ?_
              refine j_get (v := .ref (Q 13)) hX hG.1 rfl wf_X11 15 (by decide) lk_X11_50 (fun _ h => h) rfl dX11_makeGroups_138 ?_
              refine j_iload_n hX dX11_makeGroups_141 6 rfl ?_
              refine j_ialdN hX (show g9 (Q 13) = some (aI (xK X) 8 (G 13)) from hG.2.1 13 (by decide)) (lf) (rfl) (hlf) (by decide) dX11_makeGroups_142 ?_
              refine j_eqi (y := nI L.length) (by rw [hK.2.1 lf hne]; exact hLb.1) ?_
              refine j_icmp_ge hX 255 dX11_makeGroups_143 (by decide) (fun c_143 => absurd c_143 (nI_ge (a := j) (b := L.length) (by omega) (by omega))) (fun _ => ?_)
              refine j_aload_n hX dX11_makeGroups_146 8 rfl ?_
              refine j_iload_n hX dX11_makeGroups_147 6 rfl ?_
              refine j_iload_n hX dX11_makeGroups_148 5 rfl ?_
              refine j_iload hX dX11_makeGroups_149 0 rfl ?_
              refine j_iload hX dX11_makeGroups_151 2 rfl ?_
              refine j_callV (As := [.int (nI lf), .int (chv by_), .int (nI j), .int (nI k)]) (rest := []) hX (c_X11_same (xl X) (xK X) g9 m Q th oc (b01 true) G hG lf j k L by_ hby hlf (hK.nb hne hLb hl20) (by omega) (by omega) hl20) hG.1 rfl lk_X11_105 wI_X11_isSameGroup wV_X11_X11_isSameGroup wN_X11 wC_X11_isSameGroup hd_X11_isSameGroup rfl (by rw [hL]; decide) (by decide) rfl (Nat.le_of_ble_eq_true rfl) dX11_makeGroups_153 (by rw [hR]; decide) (by rw [hR]; decide) jx_no ?_
              rintro _ _ ⟨rfl, rfl⟩
              show J X 0 0 g9 156 [(9, .int (nI j)), (8, .int va), (6, .int (nI k)), (5, .int (nI c)), (4, .int (nI 0)), (3, .int (chv by_)), (2, .int (nI lf)), (1, .int (nI v)), (0, .ref m)] [.int (b01 (tog by_ (L[j]).1 (L[k]).1))]
              refine j_if_eq hX 249 dX11_makeGroups_156 (by decide) (fun c_156 => ?_) (fun c_156 => ?_)
              · refine j_iinc (v := nI (j + 1)) (lv' := [(9, .int (nI (j + 1))), (8, .int va), (6, .int (nI k)), (5, .int (nI c)), (4, .int (nI 0)), (3, .int (chv by_)), (2, .int (nI lf)), (1, .int (nI v)), (0, .ref m)]) hX dX11_makeGroups_249 0 rfl (nI_1 j) (by rw [hn]; decide) rfl ?_
                refine j_goto hX 135 dX11_makeGroups_252 (by decide) ?_
                refine j_sub [0, 1, 2, 3, 4, 5, 6, 7, 8] rfl ?_
                exact ihv (j + 1) va (by omega) (by omega) (by rw [hvv, eV, if_neg (by rw [rowG_at hk, rowG_at hj, tog_sym]; exact b01_f c_156)])
              · refine j_aload_n hX dX11_makeGroups_159 8 rfl ?_
                refine j_iload_n hX dX11_makeGroups_160 6 rfl ?_
                refine j_iload hX dX11_makeGroups_161 0 rfl ?_
                refine j_iload hX dX11_makeGroups_163 3 rfl ?_
                refine j_callV (As := [.int (nI lf), .int (nI j), .int (nI c)]) (rest := []) hX (c_X11_cellOf (xl X) (xK X) g9 m Q th oc (b01 true) G hG lf j c hlf (by omega) hc) hG.1 rfl lk_X11_74 wI_X11_cellOf wV_X11_X11_cellOf wN_X11 wC_X11_cellOf hd_X11_cellOf rfl (by rw [hL]; decide) (by decide) rfl (Nat.le_of_ble_eq_true rfl) dX11_makeGroups_165 (by rw [hR]; decide) (by rw [hR]; decide) jx_no ?_
                rintro _ _ ⟨rfl, rfl⟩
                show J X 0 0 g9 168 [(9, .int (nI j)), (8, .int va), (6, .int (nI k)), (5, .int (nI c)), (4, .int (nI 0)), (3, .int (chv by_)), (2, .int (nI lf)), (1, .int (nI v)), (0, .ref m)] [.int (G 11 (80 * lf + 4 * j + c))]
                refine j_eqi (y := cellR (L[j]).1 c) (repA_cell (hK.nb hne hLb hl20).2 hj (by omega)) ?_
                refine j_istore (lv' := [(10, .int (cellR (L[j]).1 c)), (9, .int (nI j)), (8, .int va), (6, .int (nI k)), (5, .int (nI c)), (4, .int (nI 0)), (3, .int (chv by_)), (2, .int (nI lf)), (1, .int (nI v)), (0, .ref m)]) hX dX11_makeGroups_168 (by rw [hn]; decide) rfl ?_
                refine j_aload_n hX dX11_makeGroups_170 9 rfl ?_
                refine j_iload_n hX dX11_makeGroups_171 7 rfl ?_
                refine j_iload hX dX11_makeGroups_172 1 rfl ?_
                refine j_callV (As := [.int (nI lf), .int (nI j)]) (rest := []) hX (c_X11_timesOf (xl X) (xK X) g9 m Q th oc (b01 true) G hG lf j hlf (by omega)) hG.1 rfl lk_X11_93 wI_X11_timesOf wV_X11_X11_timesOf wN_X11 wC_X11_timesOf hd_X11_timesOf rfl (by rw [hL]; decide) (by decide) rfl (Nat.le_of_ble_eq_true rfl) dX11_makeGroups_174 (by rw [hR]; decide) (by rw [hR]; decide) jx_no ?_
                rintro _ _ ⟨rfl, rfl⟩
                show J X 0 0 g9 177 [(10, .int (cellR (L[j]).1 c)), (9, .int (nI j)), (8, .int va), (6, .int (nI k)), (5, .int (nI c)), (4, .int (nI 0)), (3, .int (chv by_)), (2, .int (nI lf)), (1, .int (nI v)), (0, .ref m)] [.long ((G 12 (20 * lf + j)).toInt64)]
                refine j_l2i hX dX11_makeGroups_177 ?_
                refine j_eqi (y := nI (L[j]).2) (by rw [repA_time (hK.nb hne hLb hl20).2 hj]; simp) ?_
                refine j_istore (lv' := [(11, .int (nI (L[j]).2)), (10, .int (cellR (L[j]).1 c)), (9, .int (nI j)), (8, .int va), (6, .int (nI k)), (5, .int (nI c)), (4, .int (nI 0)), (3, .int (chv by_)), (2, .int (nI lf)), (1, .int (nI v)), (0, .ref m)]) hX dX11_makeGroups_178 (by rw [hn]; decide) rfl ?_
                refine j_iload hX dX11_makeGroups_180 6 rfl ?_
                refine j_if_ne hX 193 dX11_makeGroups_182 (by decide) (fun c_182 => absurd c_182 (fun q => q (by rfl))) (fun _ => ?_)
                refine j_iload hX dX11_makeGroups_185 3 rfl ?_
                refine j_iload hX dX11_makeGroups_187 0 rfl ?_
                refine j_iadd hX dX11_makeGroups_189 ?_
                refine j_goto hX 247 dX11_makeGroups_190 (by decide) ?_
                refine j_istore (lv' := [(8, .int (va + (nI (L[j]).2))), (11, .int (nI (L[j]).2)), (10, .int (cellR (L[j]).1 c)), (9, .int (nI j)), (6, .int (nI k)), (5, .int (nI c)), (4, .int (nI 0)), (3, .int (chv by_)), (2, .int (nI lf)), (1, .int (nI v)), (0, .ref m)]) hX dX11_makeGroups_247 (by rw [hn]; decide) rfl ?_
                refine j_iinc (v := nI (j + 1)) (lv' := [(9, .int (nI (j + 1))), (8, .int (va + (nI (L[j]).2))), (11, .int (nI (L[j]).2)), (10, .int (cellR (L[j]).1 c)), (6, .int (nI k)), (5, .int (nI c)), (4, .int (nI 0)), (3, .int (chv by_)), (2, .int (nI lf)), (1, .int (nI v)), (0, .ref m)]) hX dX11_makeGroups_249 3 rfl (nI_1 j) (by rw [hn]; decide) rfl ?_
                refine j_goto hX 135 dX11_makeGroups_252 (by decide) ?_
                refine j_sub [0, 1, 4, 5, 6, 7, 8, 9, 10] rfl ?_
                have hwr : va + (nI (L[j]).2) = withR 0 va (cellR (L[j]).1 c) (nI (L[j]).2) := rfl
                exact ihv (j + 1) _ (by omega) (by omega) (by rw [hwr, hvv, eV, if_pos (by rw [rowG_at hk, rowG_at hj, tog_sym]; exact b01_t c_156), rowG_at hj, tmG_at hj])
            · show J X 0 0 g9 135 [(9, .int (nI j)), (8, .int va), (6, .int (nI k)), (5, .int (nI c)), (4, .int (nI 1)), (3, .int (chv by_)), (2, .int (nI lf)), (1, .int (nI v)), (0, .ref m)] []
              refine j_iload hX dX11_makeGroups_135 0 rfl ?_
              refine j_aload_n hX dX11_makeGroups_137 8 rfl ?_
              refine j_get (v := .ref (Q 13)) hX hG.1 rfl wf_X11 15 (by decide) lk_X11_50 (fun _ h => h) rfl dX11_makeGroups_138 ?_
              refine j_iload_n hX dX11_makeGroups_141 6 rfl ?_
              refine j_ialdN hX (show g9 (Q 13) = some (aI (xK X) 8 (G 13)) from hG.2.1 13 (by decide)) (lf) (rfl) (hlf) (by decide) dX11_makeGroups_142 ?_
              refine j_eqi (y := nI L.length) (by rw [hK.2.1 lf hne]; exact hLb.1) ?_
              refine j_icmp_ge hX 255 dX11_makeGroups_143 (by decide) (fun c_143 => absurd c_143 (nI_ge (a := j) (b := L.length) (by omega) (by omega))) (fun _ => ?_)
              refine j_aload_n hX dX11_makeGroups_146 8 rfl ?_
              refine j_iload_n hX dX11_makeGroups_147 6 rfl ?_
              refine j_iload_n hX dX11_makeGroups_148 5 rfl ?_
              refine j_iload hX dX11_makeGroups_149 0 rfl ?_
              refine j_iload hX dX11_makeGroups_151 2 rfl ?_
              refine j_callV (As := [.int (nI lf), .int (chv by_), .int (nI j), .int (nI k)]) (rest := []) hX (c_X11_same (xl X) (xK X) g9 m Q th oc (b01 true) G hG lf j k L by_ hby hlf (hK.nb hne hLb hl20) (by omega) (by omega) hl20) hG.1 rfl lk_X11_105 wI_X11_isSameGroup wV_X11_X11_isSameGroup wN_X11 wC_X11_isSameGroup hd_X11_isSameGroup rfl (by rw [hL]; decide) (by decide) rfl (Nat.le_of_ble_eq_true rfl) dX11_makeGroups_153 (by rw [hR]; decide) (by rw [hR]; decide) jx_no ?_
              rintro _ _ ⟨rfl, rfl⟩
              show J X 0 0 g9 156 [(9, .int (nI j)), (8, .int va), (6, .int (nI k)), (5, .int (nI c)), (4, .int (nI 1)), (3, .int (chv by_)), (2, .int (nI lf)), (1, .int (nI v)), (0, .ref m)] [.int (b01 (tog by_ (L[j]).1 (L[k]).1))]
              refine j_if_eq hX 249 dX11_makeGroups_156 (by decide) (fun c_156 => ?_) (fun c_156 => ?_)
              · refine j_iinc (v := nI (j + 1)) (lv' := [(9, .int (nI (j + 1))), (8, .int va), (6, .int (nI k)), (5, .int (nI c)), (4, .int (nI 1)), (3, .int (chv by_)), (2, .int (nI lf)), (1, .int (nI v)), (0, .ref m)]) hX dX11_makeGroups_249 0 rfl (nI_1 j) (by rw [hn]; decide) rfl ?_
                refine j_goto hX 135 dX11_makeGroups_252 (by decide) ?_
                refine j_sub [0, 1, 2, 3, 4, 5, 6, 7, 8] rfl ?_
                exact ihv (j + 1) va (by omega) (by omega) (by rw [hvv, eV, if_neg (by rw [rowG_at hk, rowG_at hj, tog_sym]; exact b01_f c_156)])
              · refine j_aload_n hX dX11_makeGroups_159 8 rfl ?_
                refine j_iload_n hX dX11_makeGroups_160 6 rfl ?_
                refine j_iload hX dX11_makeGroups_161 0 rfl ?_
                refine j_iload hX dX11_makeGroups_163 3 rfl ?_
                refine j_callV (As := [.int (nI lf), .int (nI j), .int (nI c)]) (rest := []) hX (c_X11_cellOf (xl X) (xK X) g9 m Q th oc (b01 true) G hG lf j c hlf (by omega) hc) hG.1 rfl lk_X11_74 wI_X11_cellOf wV_X11_X11_cellOf wN_X11 wC_X11_cellOf hd_X11_cellOf rfl (by rw [hL]; decide) (by decide) rfl (Nat.le_of_ble_eq_true rfl) dX11_makeGroups_165 (by rw [hR]; decide) (by rw [hR]; decide) jx_no ?_
                rintro _ _ ⟨rfl, rfl⟩
                show J X 0 0 g9 168 [(9, .int (nI j)), (8, .int va), (6, .int (nI k)), (5, .int (nI c)), (4, .int (nI 1)), (3, .int (chv by_)), (2, .int (nI lf)), (1, .int (nI v)), (0, .ref m)] [.int (G 11 (80 * lf + 4 * j + c))]
                refine j_eqi (y := cellR (L[j]).1 c) (repA_cell (hK.nb hne hLb hl20).2 hj (by omega)) ?_
                refine j_istore (lv' := [(10, .int (cellR (L[j]).1 c)), (9, .int (nI j)), (8, .int va), (6, .int (nI k)), (5, .int (nI c)), (4, .int (nI 1)), (3, .int (chv by_)), (2, .int (nI lf)), (1, .int (nI v)), (0, .ref m)]) hX dX11_makeGroups_168 (by rw [hn]; decide) rfl ?_
                refine j_aload_n hX dX11_makeGroups_170 9 rfl ?_
                refine j_iload_n hX dX11_makeGroups_171 7 rfl ?_
                refine j_iload hX dX11_makeGroups_172 1 rfl ?_
                refine j_callV (As := [.int (nI lf), .int (nI j)]) (rest := []) hX (c_X11_timesOf (xl X) (xK X) g9 m Q th oc (b01 true) G hG lf j hlf (by omega)) hG.1 rfl lk_X11_93 wI_X11_timesOf wV_X11_X11_timesOf wN_X11 wC_X11_timesOf hd_X11_timesOf rfl (by rw [hL]; decide) (by decide) rfl (Nat.le_of_ble_eq_true rfl) dX11_makeGroups_174 (by rw [hR]; decide) (by rw [hR]; decide) jx_no ?_
                rintro _ _ ⟨rfl, rfl⟩
                show J X 0 0 g9 177 [(10, .int (cellR (L[j]).1 c)), (9, .int (nI j)), (8, .int va), (6, .int (nI k)), (5, .int (nI c)), (4, .int (nI 1)), (3, .int (chv by_)), (2, .int (nI lf)), (1, .int (nI v)), (0, .ref m)] [.long ((G 12 (20 * lf + j)).toInt64)]
                refine j_l2i hX dX11_makeGroups_177 ?_
                refine j_eqi (y := nI (L[j]).2) (by rw [repA_time (hK.nb hne hLb hl20).2 hj]; simp) ?_
                refine j_istore (lv' := [(11, .int (nI (L[j]).2)), (10, .int (cellR (L[j]).1 c)), (9, .int (nI j)), (8, .int va), (6, .int (nI k)), (5, .int (nI c)), (4, .int (nI 1)), (3, .int (chv by_)), (2, .int (nI lf)), (1, .int (nI v)), (0, .ref m)]) hX dX11_makeGroups_178 (by rw [hn]; decide) rfl ?_
                refine j_iload hX dX11_makeGroups_180 6 rfl ?_
                refine j_if_ne hX 193 dX11_makeGroups_182 (by decide) (fun _ => ?_) (fun c_182 => absurd c_182 (by decide))
                refine j_iload hX dX11_makeGroups_193 6 rfl ?_
                refine j_iconst (v := nI 1) hX dX11_makeGroups_195 (by decide) ?_
                refine j_icmp_ne hX 210 dX11_makeGroups_196 (by decide) (fun c_196 => absurd c_196 (fun q => q (by rfl))) (fun _ => ?_)
                refine j_iload hX dX11_makeGroups_199 3 rfl ?_
                refine j_iload hX dX11_makeGroups_201 0 rfl ?_
                refine j_iload hX dX11_makeGroups_203 1 rfl ?_
                refine j_imul hX dX11_makeGroups_205 ?_
                refine j_iadd hX dX11_makeGroups_206 ?_
                refine j_goto hX 247 dX11_makeGroups_207 (by decide) ?_
                refine j_istore (lv' := [(8, .int (va + ((nI (L[j]).2) * (cellR (L[j]).1 c)))), (11, .int (nI (L[j]).2)), (10, .int (cellR (L[j]).1 c)), (9, .int (nI j)), (6, .int (nI k)), (5, .int (nI c)), (4, .int (nI 1)), (3, .int (chv by_)), (2, .int (nI lf)), (1, .int (nI v)), (0, .ref m)]) hX dX11_makeGroups_247 (by rw [hn]; decide) rfl ?_
                refine j_iinc (v := nI (j + 1)) (lv' := [(9, .int (nI (j + 1))), (8, .int (va + ((nI (L[j]).2) * (cellR (L[j]).1 c)))), (11, .int (nI (L[j]).2)), (10, .int (cellR (L[j]).1 c)), (6, .int (nI k)), (5, .int (nI c)), (4, .int (nI 1)), (3, .int (chv by_)), (2, .int (nI lf)), (1, .int (nI v)), (0, .ref m)]) hX dX11_makeGroups_249 3 rfl (nI_1 j) (by rw [hn]; decide) rfl ?_
                refine j_goto hX 135 dX11_makeGroups_252 (by decide) ?_
                refine j_sub [0, 1, 4, 5, 6, 7, 8, 9, 10] rfl ?_
                have hwr : va + ((nI (L[j]).2) * (cellR (L[j]).1 c)) = withR 1 va (cellR (L[j]).1 c) (nI (L[j]).2) := by show _ = va + _ * _; rw [Int32.mul_comm]
                exact ihv (j + 1) _ (by omega) (by omega) (by rw [hwr, hvv, eV, if_pos (by rw [rowG_at hk, rowG_at hj, tog_sym]; exact b01_t c_156), rowG_at hj, tmG_at hj])
            · show J X 0 0 g9 135 [(9, .int (nI j)), (8, .int va), (6, .int (nI k)), (5, .int (nI c)), (4, .int (nI 2)), (3, .int (chv by_)), (2, .int (nI lf)), (1, .int (nI v)), (0, .ref m)] []
              refine j_iload hX dX11_makeGroups_135 0 rfl ?_
              refine j_aload_n hX dX11_makeGroups_137 8 rfl ?_
              refine j_get (v := .ref (Q 13)) hX hG.1 rfl wf_X11 15 (by decide) lk_X11_50 (fun _ h => h) rfl dX11_makeGroups_138 ?_
              refine j_iload_n hX dX11_makeGroups_141 6 rfl ?_
              refine j_ialdN hX (show g9 (Q 13) = some (aI (xK X) 8 (G 13)) from hG.2.1 13 (by decide)) (lf) (rfl) (hlf) (by decide) dX11_makeGroups_142 ?_
              refine j_eqi (y := nI L.length) (by rw [hK.2.1 lf hne]; exact hLb.1) ?_
              refine j_icmp_ge hX 255 dX11_makeGroups_143 (by decide) (fun c_143 => absurd c_143 (nI_ge (a := j) (b := L.length) (by omega) (by omega))) (fun _ => ?_)
              refine j_aload_n hX dX11_makeGroups_146 8 rfl ?_
              refine j_iload_n hX dX11_makeGroups_147 6 rfl ?_
              refine j_iload_n hX dX11_makeGroups_148 5 rfl ?_
              refine j_iload hX dX11_makeGroups_149 0 rfl ?_
              refine j_iload hX dX11_makeGroups_151 2 rfl ?_
              refine j_callV (As := [.int (nI lf), .int (chv by_), .int (nI j), .int (nI k)]) (rest := []) hX (c_X11_same (xl X) (xK X) g9 m Q th oc (b01 true) G hG lf j k L by_ hby hlf (hK.nb hne hLb hl20) (by omega) (by omega) hl20) hG.1 rfl lk_X11_105 wI_X11_isSameGroup wV_X11_X11_isSameGroup wN_X11 wC_X11_isSameGroup hd_X11_isSameGroup rfl (by rw [hL]; decide) (by decide) rfl (Nat.le_of_ble_eq_true rfl) dX11_makeGroups_153 (by rw [hR]; decide) (by rw [hR]; decide) jx_no ?_
              rintro _ _ ⟨rfl, rfl⟩
              show J X 0 0 g9 156 [(9, .int (nI j)), (8, .int va), (6, .int (nI k)), (5, .int (nI c)), (4, .int (nI 2)), (3, .int (chv by_)), (2, .int (nI lf)), (1, .int (nI v)), (0, .ref m)] [.int (b01 (tog by_ (L[j]).1 (L[k]).1))]
              refine j_if_eq hX 249 dX11_makeGroups_156 (by decide) (fun c_156 => ?_) (fun c_156 => ?_)
              · refine j_iinc (v := nI (j + 1)) (lv' := [(9, .int (nI (j + 1))), (8, .int va), (6, .int (nI k)), (5, .int (nI c)), (4, .int (nI 2)), (3, .int (chv by_)), (2, .int (nI lf)), (1, .int (nI v)), (0, .ref m)]) hX dX11_makeGroups_249 0 rfl (nI_1 j) (by rw [hn]; decide) rfl ?_
                refine j_goto hX 135 dX11_makeGroups_252 (by decide) ?_
                refine j_sub [0, 1, 2, 3, 4, 5, 6, 7, 8] rfl ?_
                exact ihv (j + 1) va (by omega) (by omega) (by rw [hvv, eV, if_neg (by rw [rowG_at hk, rowG_at hj, tog_sym]; exact b01_f c_156)])
              · refine j_aload_n hX dX11_makeGroups_159 8 rfl ?_
                refine j_iload_n hX dX11_makeGroups_160 6 rfl ?_
                refine j_iload hX dX11_makeGroups_161 0 rfl ?_
                refine j_iload hX dX11_makeGroups_163 3 rfl ?_
                refine j_callV (As := [.int (nI lf), .int (nI j), .int (nI c)]) (rest := []) hX (c_X11_cellOf (xl X) (xK X) g9 m Q th oc (b01 true) G hG lf j c hlf (by omega) hc) hG.1 rfl lk_X11_74 wI_X11_cellOf wV_X11_X11_cellOf wN_X11 wC_X11_cellOf hd_X11_cellOf rfl (by rw [hL]; decide) (by decide) rfl (Nat.le_of_ble_eq_true rfl) dX11_makeGroups_165 (by rw [hR]; decide) (by rw [hR]; decide) jx_no ?_
                rintro _ _ ⟨rfl, rfl⟩
                show J X 0 0 g9 168 [(9, .int (nI j)), (8, .int va), (6, .int (nI k)), (5, .int (nI c)), (4, .int (nI 2)), (3, .int (chv by_)), (2, .int (nI lf)), (1, .int (nI v)), (0, .ref m)] [.int (G 11 (80 * lf + 4 * j + c))]
                refine j_eqi (y := cellR (L[j]).1 c) (repA_cell (hK.nb hne hLb hl20).2 hj (by omega)) ?_
                refine j_istore (lv' := [(10, .int (cellR (L[j]).1 c)), (9, .int (nI j)), (8, .int va), (6, .int (nI k)), (5, .int (nI c)), (4, .int (nI 2)), (3, .int (chv by_)), (2, .int (nI lf)), (1, .int (nI v)), (0, .ref m)]) hX dX11_makeGroups_168 (by rw [hn]; decide) rfl ?_
                refine j_aload_n hX dX11_makeGroups_170 9 rfl ?_
                refine j_iload_n hX dX11_makeGroups_171 7 rfl ?_
                refine j_iload hX dX11_makeGroups_172 1 rfl ?_
                refine j_callV (As := [.int (nI lf), .int (nI j)]) (rest := []) hX (c_X11_timesOf (xl X) (xK X) g9 m Q th oc (b01 true) G hG lf j hlf (by omega)) hG.1 rfl lk_X11_93 wI_X11_timesOf wV_X11_X11_timesOf wN_X11 wC_X11_timesOf hd_X11_timesOf rfl (by rw [hL]; decide) (by decide) rfl (Nat.le_of_ble_eq_true rfl) dX11_makeGroups_174 (by rw [hR]; decide) (by rw [hR]; decide) jx_no ?_
                rintro _ _ ⟨rfl, rfl⟩
                show J X 0 0 g9 177 [(10, .int (cellR (L[j]).1 c)), (9, .int (nI j)), (8, .int va), (6, .int (nI k)), (5, .int (nI c)), (4, .int (nI 2)), (3, .int (chv by_)), (2, .int (nI lf)), (1, .int (nI v)), (0, .ref m)] [.long ((G 12 (20 * lf + j)).toInt64)]
                refine j_l2i hX dX11_makeGroups_177 ?_
                refine j_eqi (y := nI (L[j]).2) (by rw [repA_time (hK.nb hne hLb hl20).2 hj]; simp) ?_
                refine j_istore (lv' := [(11, .int (nI (L[j]).2)), (10, .int (cellR (L[j]).1 c)), (9, .int (nI j)), (8, .int va), (6, .int (nI k)), (5, .int (nI c)), (4, .int (nI 2)), (3, .int (chv by_)), (2, .int (nI lf)), (1, .int (nI v)), (0, .ref m)]) hX dX11_makeGroups_178 (by rw [hn]; decide) rfl ?_
                refine j_iload hX dX11_makeGroups_180 6 rfl ?_
                refine j_if_ne hX 193 dX11_makeGroups_182 (by decide) (fun _ => ?_) (fun c_182 => absurd c_182 (by decide))
                refine j_iload hX dX11_makeGroups_193 6 rfl ?_
                refine j_iconst (v := nI 1) hX dX11_makeGroups_195 (by decide) ?_
                refine j_icmp_ne hX 210 dX11_makeGroups_196 (by decide) (fun _ => ?_) (fun c_196 => absurd c_196 (by decide))
                refine j_iload hX dX11_makeGroups_210 6 rfl ?_
                refine j_iconst (v := nI 2) hX dX11_makeGroups_212 (by decide) ?_
                refine j_icmp_ne hX 233 dX11_makeGroups_213 (by decide) (fun c_213 => absurd c_213 (fun q => q (by rfl))) (fun _ => ?_)
                refine j_iload hX dX11_makeGroups_216 1 rfl ?_
                refine j_iload hX dX11_makeGroups_218 3 rfl ?_
                refine j_icmp_ge hX 228 dX11_makeGroups_220 (by decide) (fun c_220 => ?_) (fun c_220 => ?_)
                · refine j_iload hX dX11_makeGroups_228 3 rfl ?_
                  refine j_goto hX 247 dX11_makeGroups_230 (by decide) ?_
                  refine j_istore (lv' := [(8, .int va), (11, .int (nI (L[j]).2)), (10, .int (cellR (L[j]).1 c)), (9, .int (nI j)), (6, .int (nI k)), (5, .int (nI c)), (4, .int (nI 2)), (3, .int (chv by_)), (2, .int (nI lf)), (1, .int (nI v)), (0, .ref m)]) hX dX11_makeGroups_247 (by rw [hn]; decide) rfl ?_
                  refine j_iinc (v := nI (j + 1)) (lv' := [(9, .int (nI (j + 1))), (8, .int va), (11, .int (nI (L[j]).2)), (10, .int (cellR (L[j]).1 c)), (6, .int (nI k)), (5, .int (nI c)), (4, .int (nI 2)), (3, .int (chv by_)), (2, .int (nI lf)), (1, .int (nI v)), (0, .ref m)]) hX dX11_makeGroups_249 3 rfl (nI_1 j) (by rw [hn]; decide) rfl ?_
                  refine j_goto hX 135 dX11_makeGroups_252 (by decide) ?_
                  refine j_sub [0, 1, 4, 5, 6, 7, 8, 9, 10] rfl ?_
                  have hwr : va = withR 2 va (cellR (L[j]).1 c) (nI (L[j]).2) := (if_neg (Int32.not_lt.mpr c_220)).symm
                  exact ihv (j + 1) _ (by omega) (by omega) (by rw [hwr, hvv, eV, if_pos (by rw [rowG_at hk, rowG_at hj, tog_sym]; exact b01_t c_156), rowG_at hj, tmG_at hj])
                · refine j_iload hX dX11_makeGroups_223 1 rfl ?_
                  refine j_goto hX 247 dX11_makeGroups_225 (by decide) ?_
                  refine j_istore (lv' := [(8, .int (cellR (L[j]).1 c)), (11, .int (nI (L[j]).2)), (10, .int (cellR (L[j]).1 c)), (9, .int (nI j)), (6, .int (nI k)), (5, .int (nI c)), (4, .int (nI 2)), (3, .int (chv by_)), (2, .int (nI lf)), (1, .int (nI v)), (0, .ref m)]) hX dX11_makeGroups_247 (by rw [hn]; decide) rfl ?_
                  refine j_iinc (v := nI (j + 1)) (lv' := [(9, .int (nI (j + 1))), (8, .int (cellR (L[j]).1 c)), (11, .int (nI (L[j]).2)), (10, .int (cellR (L[j]).1 c)), (6, .int (nI k)), (5, .int (nI c)), (4, .int (nI 2)), (3, .int (chv by_)), (2, .int (nI lf)), (1, .int (nI v)), (0, .ref m)]) hX dX11_makeGroups_249 3 rfl (nI_1 j) (by rw [hn]; decide) rfl ?_
                  refine j_goto hX 135 dX11_makeGroups_252 (by decide) ?_
                  refine j_sub [0, 1, 4, 5, 6, 7, 8, 9, 10] rfl ?_
                  have hwr : cellR (L[j]).1 c = withR 2 va (cellR (L[j]).1 c) (nI (L[j]).2) := (if_pos (Int32.not_le.mp c_220)).symm
                  exact ihv (j + 1) _ (by omega) (by omega) (by rw [hwr, hvv, eV, if_pos (by rw [rowG_at hk, rowG_at hj, tog_sym]; exact b01_t c_156), rowG_at hj, tmG_at hj])
            · show J X 0 0 g9 135 [(9, .int (nI j)), (8, .int va), (6, .int (nI k)), (5, .int (nI c)), (4, .int (nI 3)), (3, .int (chv by_)), (2, .int (nI lf)), (1, .int (nI v)), (0, .ref m)] []
              refine j_iload hX dX11_makeGroups_135 0 rfl ?_
              refine j_aload_n hX dX11_makeGroups_137 8 rfl ?_
              refine j_get (v := .ref (Q 13)) hX hG.1 rfl wf_X11 15 (by decide) lk_X11_50 (fun _ h => h) rfl dX11_makeGroups_138 ?_
              refine j_iload_n hX dX11_makeGroups_141 6 rfl ?_
              refine j_ialdN hX (show g9 (Q 13) = some (aI (xK X) 8 (G 13)) from hG.2.1 13 (by decide)) (lf) (rfl) (hlf) (by decide) dX11_makeGroups_142 ?_
              refine j_eqi (y := nI L.length) (by rw [hK.2.1 lf hne]; exact hLb.1) ?_
              refine j_icmp_ge hX 255 dX11_makeGroups_143 (by decide) (fun c_143 => absurd c_143 (nI_ge (a := j) (b := L.length) (by omega) (by omega))) (fun _ => ?_)
              refine j_aload_n hX dX11_makeGroups_146 8 rfl ?_
              refine j_iload_n hX dX11_makeGroups_147 6 rfl ?_
              refine j_iload_n hX dX11_makeGroups_148 5 rfl ?_
              refine j_iload hX dX11_makeGroups_149 0 rfl ?_
              refine j_iload hX dX11_makeGroups_151 2 rfl ?_
              refine j_callV (As := [.int (nI lf), .int (chv by_), .int (nI j), .int (nI k)]) (rest := []) hX (c_X11_same (xl X) (xK X) g9 m Q th oc (b01 true) G hG lf j k L by_ hby hlf (hK.nb hne hLb hl20) (by omega) (by omega) hl20) hG.1 rfl lk_X11_105 wI_X11_isSameGroup wV_X11_X11_isSameGroup wN_X11 wC_X11_isSameGroup hd_X11_isSameGroup rfl (by rw [hL]; decide) (by decide) rfl (Nat.le_of_ble_eq_true rfl) dX11_makeGroups_153 (by rw [hR]; decide) (by rw [hR]; decide) jx_no ?_
              rintro _ _ ⟨rfl, rfl⟩
              show J X 0 0 g9 156 [(9, .int (nI j)), (8, .int va), (6, .int (nI k)), (5, .int (nI c)), (4, .int (nI 3)), (3, .int (chv by_)), (2, .int (nI lf)), (1, .int (nI v)), (0, .ref m)] [.int (b01 (tog by_ (L[j]).1 (L[k]).1))]
              refine j_if_eq hX 249 dX11_makeGroups_156 (by decide) (fun c_156 => ?_) (fun c_156 => ?_)
              · refine j_iinc (v := nI (j + 1)) (lv' := [(9, .int (nI (j + 1))), (8, .int va), (6, .int (nI k)), (5, .int (nI c)), (4, .int (nI 3)), (3, .int (chv by_)), (2, .int (nI lf)), (1, .int (nI v)), (0, .ref m)]) hX dX11_makeGroups_249 0 rfl (nI_1 j) (by rw [hn]; decide) rfl ?_
                refine j_goto hX 135 dX11_makeGroups_252 (by decide) ?_
                refine j_sub [0, 1, 2, 3, 4, 5, 6, 7, 8] rfl ?_
                exact ihv (j + 1) va (by omega) (by omega) (by rw [hvv, eV, if_neg (by rw [rowG_at hk, rowG_at hj, tog_sym]; exact b01_f c_156)])
              · refine j_aload_n hX dX11_makeGroups_159 8 rfl ?_
                refine j_iload_n hX dX11_makeGroups_160 6 rfl ?_
                refine j_iload hX dX11_makeGroups_161 0 rfl ?_
                refine j_iload hX dX11_makeGroups_163 3 rfl ?_
                refine j_callV (As := [.int (nI lf), .int (nI j), .int (nI c)]) (rest := []) hX (c_X11_cellOf (xl X) (xK X) g9 m Q th oc (b01 true) G hG lf j c hlf (by omega) hc) hG.1 rfl lk_X11_74 wI_X11_cellOf wV_X11_X11_cellOf wN_X11 wC_X11_cellOf hd_X11_cellOf rfl (by rw [hL]; decide) (by decide) rfl (Nat.le_of_ble_eq_true rfl) dX11_makeGroups_165 (by rw [hR]; decide) (by rw [hR]; decide) jx_no ?_
                rintro _ _ ⟨rfl, rfl⟩
                show J X 0 0 g9 168 [(9, .int (nI j)), (8, .int va), (6, .int (nI k)), (5, .int (nI c)), (4, .int (nI 3)), (3, .int (chv by_)), (2, .int (nI lf)), (1, .int (nI v)), (0, .ref m)] [.int (G 11 (80 * lf + 4 * j + c))]
                refine j_eqi (y := cellR (L[j]).1 c) (repA_cell (hK.nb hne hLb hl20).2 hj (by omega)) ?_
                refine j_istore (lv' := [(10, .int (cellR (L[j]).1 c)), (9, .int (nI j)), (8, .int va), (6, .int (nI k)), (5, .int (nI c)), (4, .int (nI 3)), (3, .int (chv by_)), (2, .int (nI lf)), (1, .int (nI v)), (0, .ref m)]) hX dX11_makeGroups_168 (by rw [hn]; decide) rfl ?_
                refine j_aload_n hX dX11_makeGroups_170 9 rfl ?_
                refine j_iload_n hX dX11_makeGroups_171 7 rfl ?_
                refine j_iload hX dX11_makeGroups_172 1 rfl ?_
                refine j_callV (As := [.int (nI lf), .int (nI j)]) (rest := []) hX (c_X11_timesOf (xl X) (xK X) g9 m Q th oc (b01 true) G hG lf j hlf (by omega)) hG.1 rfl lk_X11_93 wI_X11_timesOf wV_X11_X11_timesOf wN_X11 wC_X11_timesOf hd_X11_timesOf rfl (by rw [hL]; decide) (by decide) rfl (Nat.le_of_ble_eq_true rfl) dX11_makeGroups_174 (by rw [hR]; decide) (by rw [hR]; decide) jx_no ?_
                rintro _ _ ⟨rfl, rfl⟩
                show J X 0 0 g9 177 [(10, .int (cellR (L[j]).1 c)), (9, .int (nI j)), (8, .int va), (6, .int (nI k)), (5, .int (nI c)), (4, .int (nI 3)), (3, .int (chv by_)), (2, .int (nI lf)), (1, .int (nI v)), (0, .ref m)] [.long ((G 12 (20 * lf + j)).toInt64)]
                refine j_l2i hX dX11_makeGroups_177 ?_
                refine j_eqi (y := nI (L[j]).2) (by rw [repA_time (hK.nb hne hLb hl20).2 hj]; simp) ?_
                refine j_istore (lv' := [(11, .int (nI (L[j]).2)), (10, .int (cellR (L[j]).1 c)), (9, .int (nI j)), (8, .int va), (6, .int (nI k)), (5, .int (nI c)), (4, .int (nI 3)), (3, .int (chv by_)), (2, .int (nI lf)), (1, .int (nI v)), (0, .ref m)]) hX dX11_makeGroups_178 (by rw [hn]; decide) rfl ?_
                refine j_iload hX dX11_makeGroups_180 6 rfl ?_
                refine j_if_ne hX 193 dX11_makeGroups_182 (by decide) (fun _ => ?_) (fun c_182 => absurd c_182 (by decide))
                refine j_iload hX dX11_makeGroups_193 6 rfl ?_
                refine j_iconst (v := nI 1) hX dX11_makeGroups_195 (by decide) ?_
                refine j_icmp_ne hX 210 dX11_makeGroups_196 (by decide) (fun _ => ?_) (fun c_196 => absurd c_196 (by decide))
                refine j_iload hX dX11_makeGroups_210 6 rfl ?_
                refine j_iconst (v := nI 2) hX dX11_makeGroups_212 (by decide) ?_
                refine j_icmp_ne hX 233 dX11_makeGroups_213 (by decide) (fun _ => ?_) (fun c_213 => absurd c_213 (by decide))
                refine j_iload hX dX11_makeGroups_233 1 rfl ?_
                refine j_iload hX dX11_makeGroups_235 3 rfl ?_
                refine j_icmp_le hX 245 dX11_makeGroups_237 (by decide) (fun c_237 => ?_) (fun c_237 => ?_)
                · refine j_iload hX dX11_makeGroups_245 3 rfl ?_
                  refine j_istore (lv' := [(8, .int va), (11, .int (nI (L[j]).2)), (10, .int (cellR (L[j]).1 c)), (9, .int (nI j)), (6, .int (nI k)), (5, .int (nI c)), (4, .int (nI 3)), (3, .int (chv by_)), (2, .int (nI lf)), (1, .int (nI v)), (0, .ref m)]) hX dX11_makeGroups_247 (by rw [hn]; decide) rfl ?_
                  refine j_iinc (v := nI (j + 1)) (lv' := [(9, .int (nI (j + 1))), (8, .int va), (11, .int (nI (L[j]).2)), (10, .int (cellR (L[j]).1 c)), (6, .int (nI k)), (5, .int (nI c)), (4, .int (nI 3)), (3, .int (chv by_)), (2, .int (nI lf)), (1, .int (nI v)), (0, .ref m)]) hX dX11_makeGroups_249 3 rfl (nI_1 j) (by rw [hn]; decide) rfl ?_
                  refine j_goto hX 135 dX11_makeGroups_252 (by decide) ?_
                  refine j_sub [0, 1, 4, 5, 6, 7, 8, 9, 10] rfl ?_
                  have hwr : va = withR 3 va (cellR (L[j]).1 c) (nI (L[j]).2) := (if_neg (Int32.not_lt.mpr c_237)).symm
                  exact ihv (j + 1) _ (by omega) (by omega) (by rw [hwr, hvv, eV, if_pos (by rw [rowG_at hk, rowG_at hj, tog_sym]; exact b01_t c_156), rowG_at hj, tmG_at hj])
                · refine j_iload hX dX11_makeGroups_240 1 rfl ?_
                  refine j_goto hX 247 dX11_makeGroups_242 (by decide) ?_
                  refine j_istore (lv' := [(8, .int (cellR (L[j]).1 c)), (11, .int (nI (L[j]).2)), (10, .int (cellR (L[j]).1 c)), (9, .int (nI j)), (6, .int (nI k)), (5, .int (nI c)), (4, .int (nI 3)), (3, .int (chv by_)), (2, .int (nI lf)), (1, .int (nI v)), (0, .ref m)]) hX dX11_makeGroups_247 (by rw [hn]; decide) rfl ?_
                  refine j_iinc (v := nI (j + 1)) (lv' := [(9, .int (nI (j + 1))), (8, .int (cellR (L[j]).1 c)), (11, .int (nI (L[j]).2)), (10, .int (cellR (L[j]).1 c)), (6, .int (nI k)), (5, .int (nI c)), (4, .int (nI 3)), (3, .int (chv by_)), (2, .int (nI lf)), (1, .int (nI v)), (0, .ref m)]) hX dX11_makeGroups_249 3 rfl (nI_1 j) (by rw [hn]; decide) rfl ?_
                  refine j_goto hX 135 dX11_makeGroups_252 (by decide) ?_
                  refine j_sub [0, 1, 4, 5, 6, 7, 8, 9, 10] rfl ?_
                  have hwr : cellR (L[j]).1 c = withR 3 va (cellR (L[j]).1 c) (nI (L[j]).2) := (if_pos (Int32.not_le.mp c_237)).symm
                  exact ihv (j + 1) _ (by omega) (by omega) (by rw [hwr, hvv, eV, if_pos (by rw [rowG_at hk, rowG_at hj, tog_sym]; exact b01_t c_156), rowG_at hj, tmG_at hj])
        rcases Nat.lt_or_ge st 2 with hs2 | hs2
        · refine j_iload hX dX11_makeGroups_105 0 rfl ?_
          refine j_if_eq hX 292 dX11_makeGroups_107 (by decide) (fun c_107 => absurd c_107 (by decide)) (fun _ => ?_)
          refine j_iload hX dX11_makeGroups_110 3 rfl ?_
          refine j_iconst (v := nI 2) hX dX11_makeGroups_112 (by decide) ?_
          refine j_icmp_ge hX 120 dX11_makeGroups_113 (by decide) (fun c_113 => absurd c_113 (nI_ge (a := st) (b := 2) (by omega) (by decide))) (fun _ => ?_)
          refine j_iconst (v := nI 0) hX dX11_makeGroups_116 (by decide) ?_
          refine j_goto hX 129 dX11_makeGroups_117 (by decide) ?_
          refine j_eqi (y := initG st c L k) (by unfold initG; rw [if_pos (by omega)]; rfl) ?_
          refine j_istore (lv' := [(8, .int (initG st c L k)), (7, .int (nI 1)), (6, .int (nI k)), (5, .int (nI c)), (4, .int (nI st)), (3, .int (chv by_)), (2, .int (nI lf)), (1, .int (nI v)), (0, .ref m)]) hX dX11_makeGroups_129 (by rw [hn]; decide) rfl ?_
          refine j_iload hX dX11_makeGroups_131 2 rfl ?_
          refine j_istore (lv' := [(9, .int (nI k)), (8, .int (initG st c L k)), (7, .int (nI 1)), (6, .int (nI k)), (5, .int (nI c)), (4, .int (nI st)), (3, .int (chv by_)), (2, .int (nI lf)), (1, .int (nI v)), (0, .ref m)]) hX dX11_makeGroups_133 (by rw [hn]; decide) rfl ?_
          refine j_sub (lv' := [(9, .int (nI k)), (8, .int (initG st c L k)), (6, .int (nI k)), (5, .int (nI c)), (4, .int (nI st)), (3, .int (chv by_)), (2, .int (nI lf)), (1, .int (nI v)), (0, .ref m)]) [0, 1, 3, 4, 5, 6, 7, 8, 9] rfl ?_
          exact vloop (L.length - k) k _ (by omega) (by omega) rfl
        · refine j_iload hX dX11_makeGroups_105 0 rfl ?_
          refine j_if_eq hX 292 dX11_makeGroups_107 (by decide) (fun c_107 => absurd c_107 (by decide)) (fun _ => ?_)
          refine j_iload hX dX11_makeGroups_110 3 rfl ?_
          refine j_iconst (v := nI 2) hX dX11_makeGroups_112 (by decide) ?_
          refine j_icmp_ge hX 120 dX11_makeGroups_113 (by decide) (fun _ => ?_) (fun c_113 => absurd (nI_le (a := 2) (b := st) (by omega) (by omega)) c_113)
          refine j_aload_n hX dX11_makeGroups_120 7 rfl ?_
          refine j_iload_n hX dX11_makeGroups_121 5 rfl ?_
          refine j_iload hX dX11_makeGroups_122 1 rfl ?_
          refine j_iload hX dX11_makeGroups_124 2 rfl ?_
          refine j_callV (As := [.int (nI lf), .int (nI k), .int (nI c)]) (rest := []) hX (c_X11_cellOf (xl X) (xK X) g9 m Q th oc (b01 true) G hG lf k c hlf (by omega) hc) hG.1 rfl lk_X11_74 wI_X11_cellOf wV_X11_X11_cellOf wN_X11 wC_X11_cellOf hd_X11_cellOf rfl (by rw [hL]; decide) (by decide) rfl (Nat.le_of_ble_eq_true rfl) dX11_makeGroups_126 (by rw [hR]; decide) (by rw [hR]; decide) jx_no ?_
          rintro _ _ ⟨rfl, rfl⟩
          show J X 0 0 g9 129 [(7, .int (nI 1)), (6, .int (nI k)), (5, .int (nI c)), (4, .int (nI st)), (3, .int (chv by_)), (2, .int (nI lf)), (1, .int (nI v)), (0, .ref m)] [.int (G 11 (80 * lf + 4 * k + c))]
          refine j_eqi (y := initG st c L k) (by unfold initG; rw [if_neg (by omega), rowG_at hk]; exact repA_cell (hK.nb hne hLb hl20).2 hk (by omega)) ?_
          refine j_istore (lv' := [(8, .int (initG st c L k)), (7, .int (nI 1)), (6, .int (nI k)), (5, .int (nI c)), (4, .int (nI st)), (3, .int (chv by_)), (2, .int (nI lf)), (1, .int (nI v)), (0, .ref m)]) hX dX11_makeGroups_129 (by rw [hn]; decide) rfl ?_
          refine j_iload hX dX11_makeGroups_131 2 rfl ?_
          refine j_istore (lv' := [(9, .int (nI k)), (8, .int (initG st c L k)), (7, .int (nI 1)), (6, .int (nI k)), (5, .int (nI c)), (4, .int (nI st)), (3, .int (chv by_)), (2, .int (nI lf)), (1, .int (nI v)), (0, .ref m)]) hX dX11_makeGroups_133 (by rw [hn]; decide) rfl ?_
          refine j_sub (lv' := [(9, .int (nI k)), (8, .int (initG st c L k)), (6, .int (nI k)), (5, .int (nI c)), (4, .int (nI st)), (3, .int (chv by_)), (2, .int (nI lf)), (1, .int (nI v)), (0, .ref m)]) [0, 1, 3, 4, 5, 6, 7, 8, 9] rfl ?_
          exact vloop (L.length - k) k _ (by omega) (by omega) rfl
      have stop0 : ∀ j : Nat, firstG by_ L k = false → J X 0 0 g9 67 [(8, .int (nI j)), (7, .int (nI 0)), (6, .int (nI k)), (5, .int (nI c)), (4, .int (nI st)), (3, .int (chv by_)), (2, .int (nI lf)), (1, .int (nI v)), (0, .ref m)] [] := by
        intro j hfi
        refine j_iload hX dX11_makeGroups_67 1 rfl ?_
        refine j_if_eq hX 105 dX11_makeGroups_69 (by decide) (fun _ => ?_) (fun c_69 => absurd (by rfl) c_69)
        refine j_sub [1, 2, 3, 4, 5, 6, 7, 8] rfl ?_
        exact notF hfi
      have floop : ∀ (p j : Nat), j + p = k → firstG by_ L k = fstG by_ L k p j → J X 0 0 g9 67 [(8, .int (nI j)), (7, .int (nI 1)), (6, .int (nI k)), (5, .int (nI c)), (4, .int (nI st)), (3, .int (chv by_)), (2, .int (nI lf)), (1, .int (nI v)), (0, .ref m)] [] := by
        intro p
        induction p with
        | zero =>
          intro j hj9 hfj
          refine j_iload hX dX11_makeGroups_67 1 rfl ?_
          refine j_if_eq hX 105 dX11_makeGroups_69 (by decide) (fun c_69 => absurd c_69 (by decide)) (fun _ => ?_)
          refine j_iload hX dX11_makeGroups_72 0 rfl ?_
          refine j_iload hX dX11_makeGroups_74 2 rfl ?_
          refine j_icmp_ge hX 105 dX11_makeGroups_76 (by decide) (fun _ => ?_) (fun c_76 => absurd (nI_le (a := k) (b := j) (by omega) (by omega)) c_76)
          refine j_sub [1, 2, 3, 4, 5, 6, 7, 8] rfl ?_
          exact isF hfj
        | succ p floop =>
          intro j hj9 hfj
          refine j_iload hX dX11_makeGroups_67 1 rfl ?_
          refine j_if_eq hX 105 dX11_makeGroups_69 (by decide) (fun c_69 => absurd c_69 (by decide)) (fun _ => ?_)
          refine j_iload hX dX11_makeGroups_72 0 rfl ?_
          refine j_iload hX dX11_makeGroups_74 2 rfl ?_
          refine j_icmp_ge hX 105 dX11_makeGroups_76 (by decide) (fun c_76 => absurd c_76 (nI_ge (a := j) (b := k) (by omega) (by omega))) (fun _ => ?_)
          refine j_aload_n hX dX11_makeGroups_79 8 rfl ?_
          refine j_iload_n hX dX11_makeGroups_80 6 rfl ?_
          refine j_iload_n hX dX11_makeGroups_81 5 rfl ?_
          refine j_iload hX dX11_makeGroups_82 0 rfl ?_
          refine j_iload hX dX11_makeGroups_84 2 rfl ?_
          refine j_callV (As := [.int (nI lf), .int (chv by_), .int (nI j), .int (nI k)]) (rest := []) hX (c_X11_same (xl X) (xK X) g9 m Q th oc (b01 true) G hG lf j k L by_ hby hlf (hK.nb hne hLb hl20) (by omega) (by omega) hl20) hG.1 rfl lk_X11_105 wI_X11_isSameGroup wV_X11_X11_isSameGroup wN_X11 wC_X11_isSameGroup hd_X11_isSameGroup rfl (by rw [hL]; decide) (by decide) rfl (Nat.le_of_ble_eq_true rfl) dX11_makeGroups_86 (by rw [hR]; decide) (by rw [hR]; decide) jx_no ?_
          rintro _ _ ⟨rfl, rfl⟩
          show J X 0 0 g9 89 [(8, .int (nI j)), (7, .int (nI 1)), (6, .int (nI k)), (5, .int (nI c)), (4, .int (nI st)), (3, .int (chv by_)), (2, .int (nI lf)), (1, .int (nI v)), (0, .ref m)] [.int (b01 (tog by_ (L[j]).1 (L[k]).1))]
          refine j_if_ne hX 96 dX11_makeGroups_89 (by decide) (fun c_89 => ?_) (fun c_89 => ?_)
          · refine j_iconst (v := nI 0) hX dX11_makeGroups_96 (by decide) ?_
            refine j_istore (lv' := [(7, .int (nI 0)), (8, .int (nI j)), (6, .int (nI k)), (5, .int (nI c)), (4, .int (nI st)), (3, .int (chv by_)), (2, .int (nI lf)), (1, .int (nI v)), (0, .ref m)]) hX dX11_makeGroups_97 (by rw [hn]; decide) rfl ?_
            refine j_iinc (v := nI (j + 1)) (lv' := [(8, .int (nI (j + 1))), (7, .int (nI 0)), (6, .int (nI k)), (5, .int (nI c)), (4, .int (nI st)), (3, .int (chv by_)), (2, .int (nI lf)), (1, .int (nI v)), (0, .ref m)]) hX dX11_makeGroups_99 1 rfl (nI_1 j) (by rw [hn]; decide) rfl ?_
            refine j_goto hX 67 dX11_makeGroups_102 (by decide) ?_
            refine j_sub [0, 1, 2, 3, 4, 5, 6, 7, 8] rfl ?_
            exact stop0 (j + 1) (by rw [hfj]; show (if tog by_ (rowG L j) (rowG L k) = true then false else _) = false; rw [rowG_at hk, rowG_at (by omega), if_pos (b01_t c_89)])
          · refine j_iconst (v := nI 1) hX dX11_makeGroups_92 (by decide) ?_
            refine j_goto hX 97 dX11_makeGroups_93 (by decide) ?_
            refine j_istore (lv' := [(7, .int (nI 1)), (8, .int (nI j)), (6, .int (nI k)), (5, .int (nI c)), (4, .int (nI st)), (3, .int (chv by_)), (2, .int (nI lf)), (1, .int (nI v)), (0, .ref m)]) hX dX11_makeGroups_97 (by rw [hn]; decide) rfl ?_
            refine j_iinc (v := nI (j + 1)) (lv' := [(8, .int (nI (j + 1))), (7, .int (nI 1)), (6, .int (nI k)), (5, .int (nI c)), (4, .int (nI st)), (3, .int (chv by_)), (2, .int (nI lf)), (1, .int (nI v)), (0, .ref m)]) hX dX11_makeGroups_99 1 rfl (nI_1 j) (by rw [hn]; decide) rfl ?_
            refine j_goto hX 67 dX11_makeGroups_102 (by decide) ?_
            refine j_sub [0, 1, 2, 3, 4, 5, 6, 7, 8] rfl ?_
            exact floop (j + 1) (by omega) (by rw [hfj]; show (if tog by_ (rowG L j) (rowG L k) = true then false else _) = _; rw [rowG_at hk, rowG_at (by omega), if_neg (b01_f c_89)])
      refine j_aload_n hX dX11_makeGroups_43 6 rfl ?_
      refine j_get (v := .int (b01 true)) hX hG.1 rfl wf_X11 16 (by decide) lk_X11_68 (fun _ h => h) rfl dX11_makeGroups_44 ?_
      refine j_if_eq hX 298 dX11_makeGroups_47 (by decide) (fun c_47 => absurd c_47 (by decide)) (fun _ => ?_)
      refine j_iload hX dX11_makeGroups_50 0 rfl ?_
      refine j_aload_n hX dX11_makeGroups_52 6 rfl ?_
      refine j_get (v := .ref (Q 13)) hX hG.1 rfl wf_X11 15 (by decide) lk_X11_50 (fun _ h => h) rfl dX11_makeGroups_53 ?_
      refine j_iload_n hX dX11_makeGroups_56 4 rfl ?_
      refine j_ialdN hX (show g9 (Q 13) = some (aI (xK X) 8 (G 13)) from hG.2.1 13 (by decide)) (lf) (rfl) (hlf) (by decide) dX11_makeGroups_57 ?_
      refine j_eqi (y := nI L.length) (by rw [hK.2.1 lf hne]; exact hLb.1) ?_
      refine j_icmp_ge hX 298 dX11_makeGroups_58 (by decide) (fun c_58 => absurd c_58 (nI_ge (a := k) (b := L.length) (by omega) (by omega))) (fun _ => ?_)
      refine j_iconst (v := nI 1) hX dX11_makeGroups_61 (by decide) ?_
      refine j_istore (lv' := [(7, .int (nI 1)), (6, .int (nI k)), (5, .int (nI c)), (4, .int (nI st)), (3, .int (chv by_)), (2, .int (nI lf)), (1, .int (nI v)), (0, .ref m)]) hX dX11_makeGroups_62 (by rw [hn]; decide) rfl ?_
      refine j_iconst (v := nI 0) hX dX11_makeGroups_64 (by decide) ?_
      refine j_istore (lv' := [(8, .int (nI 0)), (7, .int (nI 1)), (6, .int (nI k)), (5, .int (nI c)), (4, .int (nI st)), (3, .int (chv by_)), (2, .int (nI lf)), (1, .int (nI v)), (0, .ref m)]) hX dX11_makeGroups_65 (by rw [hn]; decide) rfl ?_
      refine j_sub (lv' := [(8, .int (nI 0)), (7, .int (nI 1)), (6, .int (nI k)), (5, .int (nI c)), (4, .int (nI st)), (3, .int (chv by_)), (2, .int (nI lf)), (1, .int (nI v)), (0, .ref m)]) [0, 1, 2, 3, 4, 5, 6, 7, 8] rfl ?_
      exact floop k 0 (by omega) rfl
  refine j_aload_n hX dX11_makeGroups_0 0 rfl ?_
  refine j_get (v := .ref (Q 2)) hX hS.1 rfl wf_X11 3 (by decide) lk_X11_16 (fun _ h => h) rfl dX11_makeGroups_1 ?_
  refine j_iload_n hX dX11_makeGroups_4 1 rfl ?_
  refine j_ialdN hX (show g (Q 2) = some (aI (xK X) 8 (F 2)) from hS.2.1 2 (by decide)) (v) (rfl) (hv) (by decide) dX11_makeGroups_5 ?_
  refine j_eqi (y := nI lf) (h2) ?_
  refine j_istore_n (lv' := [(2, .int (nI lf)), (0, .ref m), (1, .int (nI v))]) hX dX11_makeGroups_6 (by rw [hn]; decide) rfl ?_
  refine j_aload_n hX dX11_makeGroups_7 1 rfl ?_
  refine j_get (v := .ref (Q 4)) hX hS.1 rfl wf_X11 5 (by decide) lk_X11_22 (fun _ h => h) rfl dX11_makeGroups_8 ?_
  refine j_iconst (v := nI 4) hX dX11_makeGroups_11 (by decide) ?_
  refine j_iload_n hX dX11_makeGroups_12 2 rfl ?_
  refine j_imul hX dX11_makeGroups_13 ?_
  refine j_eqi (y := nI (4 * v)) (pk_mul 4 v) ?_
  refine j_ialdN hX (show g (Q 4) = some (aI (xK X) 32 (F 4)) from hS.2.1 4 (by decide)) (4 * v) (rfl) (by omega) (by decide) dX11_makeGroups_14 ?_
  refine j_eqi (y := chv by_) (h40) ?_
  refine j_istore_n (lv' := [(3, .int (chv by_)), (2, .int (nI lf)), (0, .ref m), (1, .int (nI v))]) hX dX11_makeGroups_15 (by rw [hn]; decide) rfl ?_
  refine j_aload_n hX dX11_makeGroups_16 2 rfl ?_
  refine j_get (v := .ref (Q 4)) hX hS.1 rfl wf_X11 5 (by decide) lk_X11_22 (fun _ h => h) rfl dX11_makeGroups_17 ?_
  refine j_iconst (v := nI 4) hX dX11_makeGroups_20 (by decide) ?_
  refine j_iload_n hX dX11_makeGroups_21 3 rfl ?_
  refine j_imul hX dX11_makeGroups_22 ?_
  refine j_eqi (y := nI (4 * v)) (pk_mul 4 v) ?_
  refine j_iconst (v := nI 1) hX dX11_makeGroups_23 (by decide) ?_
  refine j_iadd hX dX11_makeGroups_24 ?_
  refine j_eqi (y := nI (4 * v + 1)) (ix4v v 1) ?_
  refine j_ialdN hX (show g (Q 4) = some (aI (xK X) 32 (F 4)) from hS.2.1 4 (by decide)) (4 * v + 1) (rfl) (by omega) (by decide) dX11_makeGroups_25 ?_
  refine j_eqi (y := nI st) (h41) ?_
  refine j_istore (lv' := [(4, .int (nI st)), (3, .int (chv by_)), (2, .int (nI lf)), (0, .ref m), (1, .int (nI v))]) hX dX11_makeGroups_26 (by rw [hn]; decide) rfl ?_
  refine j_aload_n hX dX11_makeGroups_28 3 rfl ?_
  refine j_get (v := .ref (Q 4)) hX hS.1 rfl wf_X11 5 (by decide) lk_X11_22 (fun _ h => h) rfl dX11_makeGroups_29 ?_
  refine j_iconst (v := nI 4) hX dX11_makeGroups_32 (by decide) ?_
  refine j_iload_n hX dX11_makeGroups_33 4 rfl ?_
  refine j_imul hX dX11_makeGroups_34 ?_
  refine j_eqi (y := nI (4 * v)) (pk_mul 4 v) ?_
  refine j_iconst (v := nI 2) hX dX11_makeGroups_35 (by decide) ?_
  refine j_iadd hX dX11_makeGroups_36 ?_
  refine j_eqi (y := nI (4 * v + 2)) (ix4v v 2) ?_
  refine j_ialdN hX (show g (Q 4) = some (aI (xK X) 32 (F 4)) from hS.2.1 4 (by decide)) (4 * v + 2) (rfl) (by omega) (by decide) dX11_makeGroups_37 ?_
  refine j_eqi (y := nI c) (h42) ?_
  refine j_istore (lv' := [(5, .int (nI c)), (4, .int (nI st)), (3, .int (chv by_)), (2, .int (nI lf)), (0, .ref m), (1, .int (nI v))]) hX dX11_makeGroups_38 (by rw [hn]; decide) rfl ?_
  refine j_iconst (v := nI 0) hX dX11_makeGroups_40 (by decide) ?_
  refine j_istore (lv' := [(6, .int (nI 0)), (5, .int (nI c)), (4, .int (nI st)), (3, .int (chv by_)), (2, .int (nI lf)), (0, .ref m), (1, .int (nI v))]) hX dX11_makeGroups_41 (by rw [hn]; decide) rfl ?_
  refine j_sub (lv' := [(6, .int (nI 0)), (5, .int (nI c)), (4, .int (nI st)), (3, .int (chv by_)), (2, .int (nI lf)), (1, .int (nI v)), (0, .ref m)]) [0, 1, 2, 3, 4, 6, 5] rfl ?_
  exact live L.length 0 F g [] (by omega) hS (Kp.rf v F) hB (good_nil.wk (zw_nil w)) rfl

