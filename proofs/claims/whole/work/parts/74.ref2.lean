theorem srt_le {B : Bg} (h : srt B) {i j : Nat} {x y : Row × Nat} (hij : i ≤ j) (hx : B[i]? = some x) (hy : B[j]? = some y) : key x.1 ≤ key y.1 := by
  rcases Nat.eq_or_lt_of_le hij with e | e
  · subst e; rw [hx] at hy; cases hy; exact Int.le_refl _
  · exact Int.le_of_lt (h i j e x y hx hy)
set_option maxRecDepth 20000 in
set_option maxHeartbeats 600000 in
/-- place(r) -/
theorem c_X11_place (l : Launch) (K : Cst) (g : Wd) (m : Nat) (Q : Nat → Nat) (th oc fi : Int32) (F : Nat → Nat → Int32) (hS : RS K g m Q th oc fi F) (r w : Nat) (B : Bg) (hr : r < 8) (hw : F 1 r = nI w) (hw1 : 1 ≤ w) (hw4 : w ≤ 4) (hB : NB F r B) (hl : B.length ≤ 20) (hs : srt B) (hz : zw w B) : Ct l K yX11_place cX11_place 8 (some .int) 0 [.ref m, .int (nI r)] g (fun v g' => v = some (.int (nI (plc B (truncR w (rowAt (F 14) 0))))) ∧ g = g') (fun _ _ => False) 0 0 := by
  refine ct_of (by decide) (Nat.le_of_ble_eq_true rfl) ?_
  intro X hl hK hX hE hn hL hR hm
  subst hl; subst hK
  show J X 0 0 g 0 [(0, .ref m), (1, .int (nI r))] []
  have loop : ∀ (n lo hi : Nat), hi ≤ lo + n → lo ≤ hi → hi ≤ B.length → (∀ (i : Nat) (x : Row × Nat), i < lo → B[i]? = some x → key x.1 < key (truncR w (rowAt (F 14) 0))) → (∀ (i : Nat) (x : Row × Nat), hi ≤ i → B[i]? = some x → key (truncR w (rowAt (F 14) 0)) ≤ key x.1) → J X 0 0 g 9 [(2, .int (nI lo)), (3, .int (nI hi)), (1, .int (nI r)), (0, .ref m)] [] := by
    intro n
    induction n with
    | zero =>
      intro lo hi hfu hlo hhi h1 h2
      refine j_iload_n hX dX11_place_9 0 rfl ?_
      refine j_iload_n hX dX11_place_10 1 rfl ?_
      refine j_icmp_ge hX 122 dX11_place_11 (by decide) (fun _ => ?_) (fun c_11 => absurd (nI_le (a := hi) (b := lo) (by omega) (by omega)) c_11)
      refine j_iload_n hX dX11_place_122 0 rfl ?_
      exact j_iret hX hE dX11_place_123 (⟨by rw [plc_of (q := lo) (by omega) h1 (fun i x hi9 => h2 i x (by omega))], rfl⟩) (by decide) (by decide)
    | succ n ih =>
      intro lo hi hfu hlo hhi h1 h2
      rcases Nat.eq_or_lt_of_le hlo with heq | hlt
      · refine j_iload_n hX dX11_place_9 0 rfl ?_
        refine j_iload_n hX dX11_place_10 1 rfl ?_
        refine j_icmp_ge hX 122 dX11_place_11 (by decide) (fun _ => ?_) (fun c_11 => absurd (nI_le (a := hi) (b := lo) (by omega) (by omega)) c_11)
        refine j_iload_n hX dX11_place_122 0 rfl ?_
        exact j_iret hX hE dX11_place_123 (⟨by rw [plc_of (q := lo) (by omega) h1 (fun i x hi9 => h2 i x (by omega))], rfl⟩) (by decide) (by decide)
      · obtain ⟨mid, emid⟩ : ∃ z, z = (lo + hi) / 2 := ⟨_, rfl⟩
        have hm1 : lo ≤ mid ∧ mid < hi := by omega
        have hmB : mid < B.length := by omega
        have K103 : ∀ ls : Int32, ((0 < ls ∧ key (B[mid]).1 < key (truncR w (rowAt (F 14) 0))) ∨ (ls ≤ 0 ∧ key (truncR w (rowAt (F 14) 0)) ≤ key (B[mid]).1)) → J X 0 0 g 103 [(5, .int ls), (4, .int (nI mid)), (3, .int (nI hi)), (2, .int (nI lo)), (1, .int (nI r)), (0, .ref m)] [] := by
          intro ls hls
          refine j_iload hX dX11_place_103 0 rfl ?_
          refine j_if_le hX 116 dX11_place_105 (by decide) (fun c_105 => ?_) (fun c_105 => ?_)
          · refine j_iload hX dX11_place_116 1 rfl ?_
            refine j_istore_n (lv' := [(3, .int (nI mid)), (5, .int ls), (4, .int (nI mid)), (2, .int (nI lo)), (1, .int (nI r)), (0, .ref m)]) hX dX11_place_118 (by rw [hn]; decide) rfl ?_
            refine j_goto hX 9 dX11_place_119 (by decide) ?_
            refine j_sub (lv' := [(2, .int (nI lo)), (3, .int (nI mid)), (1, .int (nI r)), (0, .ref m)]) [3, 0, 4, 5] rfl ?_
            exact ih lo mid (by omega) (by omega) (by omega) h1 (fun i x hi9 hx => by
              have hK := (hls.resolve_left (fun h => absurd h.1 (Int32.not_lt.mpr c_105))).2
              exact Int.le_trans hK (srt_le hs (by omega) (List.getElem?_eq_getElem hmB) hx))
          · refine j_iload hX dX11_place_108 1 rfl ?_
            refine j_iconst (v := nI 1) hX dX11_place_110 (by decide) ?_
            refine j_iadd hX dX11_place_111 ?_
            refine j_eqi (y := nI (mid + 1)) (nI_add mid 1) ?_
            refine j_istore_n (lv' := [(2, .int (nI (mid + 1))), (5, .int ls), (4, .int (nI mid)), (3, .int (nI hi)), (1, .int (nI r)), (0, .ref m)]) hX dX11_place_112 (by rw [hn]; decide) rfl ?_
            refine j_goto hX 119 dX11_place_113 (by decide) ?_
            refine j_goto hX 9 dX11_place_119 (by decide) ?_
            refine j_sub (lv' := [(2, .int (nI (mid + 1))), (3, .int (nI hi)), (1, .int (nI r)), (0, .ref m)]) [0, 3, 4, 5] rfl ?_
            exact ih (mid + 1) hi (by omega) (by omega) (by omega) (fun i x hi9 hx => by
              have hK := (hls.resolve_right (fun h => c_105 h.1)).2
              exact Int.lt_of_le_of_lt (srt_le hs (by omega) hx (List.getElem?_eq_getElem hmB)) hK) h2
        have stop : ∀ (ls : Int32) (c : Nat), ¬ ls = 0 → ((0 < ls ∧ key (B[mid]).1 < key (truncR w (rowAt (F 14) 0))) ∨ (ls ≤ 0 ∧ key (truncR w (rowAt (F 14) 0)) ≤ key (B[mid]).1)) → J X 0 0 g 27 [(6, .int (nI c)), (5, .int ls), (4, .int (nI mid)), (3, .int (nI hi)), (2, .int (nI lo)), (1, .int (nI r)), (0, .ref m)] [] := by
          intro ls c hne hls
          refine j_iload hX dX11_place_27 0 rfl ?_
          refine j_aload_n hX dX11_place_29 6 rfl ?_
          refine j_get (v := .ref (Q 1)) hX hS.1 rfl wf_X11 2 (by decide) lk_X11_13 (fun _ h => h) rfl dX11_place_30 ?_
          refine j_iload_n hX dX11_place_33 5 rfl ?_
          refine j_ialdN hX (show g (Q 1) = some (aI (xK X) 8 (F 1)) from hS.2.1 1 (by decide)) (r) (rfl) (hr) (by decide) dX11_place_34 ?_
          refine j_eqi (y := nI w) (hw) ?_
          refine j_icmp_ge hX 103 dX11_place_35 (by decide) (fun c_35 => ?_) (fun c_35 => ?_)
          · refine j_sub [1, 2, 3, 4, 5, 6] rfl ?_
            exact K103 ls hls
          · refine j_iload hX dX11_place_38 1 rfl ?_
            refine j_if_ne hX 103 dX11_place_40 (by decide) (fun _ => ?_) (fun c_40 => absurd c_40 hne)
            refine j_sub [1, 2, 3, 4, 5, 6] rfl ?_
            exact K103 ls hls
        have inner : ∀ (q c : Nat), c + q = w → (∀ z, z < c → cellR (B[mid]).1 z = cellR (rowAt (F 14) 0) z) → J X 0 0 g 27 [(6, .int (nI c)), (5, .int (nI 0)), (4, .int (nI mid)), (3, .int (nI hi)), (2, .int (nI lo)), (1, .int (nI r)), (0, .ref m)] [] := by
          intro q
          induction q with
          | zero =>
            intro c hc he
            refine j_iload hX dX11_place_27 0 rfl ?_
            refine j_aload_n hX dX11_place_29 6 rfl ?_
            refine j_get (v := .ref (Q 1)) hX hS.1 rfl wf_X11 2 (by decide) lk_X11_13 (fun _ h => h) rfl dX11_place_30 ?_
            refine j_iload_n hX dX11_place_33 5 rfl ?_
            refine j_ialdN hX (show g (Q 1) = some (aI (xK X) 8 (F 1)) from hS.2.1 1 (by decide)) (r) (rfl) (hr) (by decide) dX11_place_34 ?_
            refine j_eqi (y := nI w) (hw) ?_
            refine j_icmp_ge hX 103 dX11_place_35 (by decide) (fun _ => ?_) (fun c_35 => absurd (nI_le (a := w) (b := c) (by omega) (by omega)) c_35)
            refine j_sub [1, 2, 3, 4, 5, 6] rfl ?_
            exact K103 (nI 0) (Or.inr ⟨by decide, by rw [trunc_eq hw1 (hz _ (List.getElem_mem hmB)) (fun z h1 h2 => he z (by omega))]; exact Int.le_refl _⟩)
          | succ q ihc =>
            intro c hc he
            refine j_iload hX dX11_place_27 0 rfl ?_
            refine j_aload_n hX dX11_place_29 6 rfl ?_
            refine j_get (v := .ref (Q 1)) hX hS.1 rfl wf_X11 2 (by decide) lk_X11_13 (fun _ h => h) rfl dX11_place_30 ?_
            refine j_iload_n hX dX11_place_33 5 rfl ?_
            refine j_ialdN hX (show g (Q 1) = some (aI (xK X) 8 (F 1)) from hS.2.1 1 (by decide)) (r) (rfl) (hr) (by decide) dX11_place_34 ?_
            refine j_eqi (y := nI w) (hw) ?_
            refine j_icmp_ge hX 103 dX11_place_35 (by decide) (fun c_35 => absurd c_35 (nI_ge (a := c) (b := w) (by omega) (by omega))) (fun _ => ?_)
            refine j_iload hX dX11_place_38 1 rfl ?_
            refine j_if_ne hX 103 dX11_place_40 (by decide) (fun c_40 => absurd c_40 (by decide)) (fun _ => ?_)
            refine j_aload_n hX dX11_place_43 6 rfl ?_
            refine j_get (v := .ref (Q 11)) hX hS.1 rfl wf_X11 13 (by decide) lk_X11_44 (fun _ h => h) rfl dX11_place_44 ?_
            refine j_iconst (v := nI 4) hX dX11_place_47 (by decide) ?_
            refine j_bipush (v := nI 20) hX dX11_place_48 (by decide) ?_
            refine j_iload_n hX dX11_place_50 5 rfl ?_
            refine j_imul hX dX11_place_51 ?_
            refine j_iload hX dX11_place_52 2 rfl ?_
            refine j_iadd hX dX11_place_54 ?_
            refine j_eqi (y := nI (20 * r + mid)) (ix20 r mid) ?_
            refine j_imul hX dX11_place_55 ?_
            refine j_iload hX dX11_place_56 0 rfl ?_
            refine j_iadd hX dX11_place_58 ?_
            refine j_eqi (y := nI (80 * r + 4 * mid + c)) (ix80 r mid c) ?_
            refine j_ialdN hX (show g (Q 11) = some (aI (xK X) 2048 (F 11)) from hS.2.1 11 (by decide)) (80 * r + 4 * mid + c) (rfl) (by omega) (by decide) dX11_place_59 ?_
            refine j_eqi (y := cellR (B[mid]).1 c) (repA_cell hB.2 hmB (by omega)) ?_
            refine j_istore (lv' := [(7, .int (cellR (B[mid]).1 c)), (6, .int (nI c)), (5, .int (nI 0)), (4, .int (nI mid)), (3, .int (nI hi)), (2, .int (nI lo)), (1, .int (nI r)), (0, .ref m)]) hX dX11_place_60 (by rw [hn]; decide) rfl ?_
            refine j_iload hX dX11_place_62 0 rfl ?_
            refine j_aload_n hX dX11_place_64 7 rfl ?_
            refine j_get (v := .ref (Q 14)) hX hS.1 rfl wf_X11 17 (by decide) lk_X11_53 (fun _ h => h) rfl dX11_place_65 ?_
            refine j_iload hX dX11_place_68 1 rfl ?_
            refine j_ialdN hX (show g (Q 14) = some (aI (xK X) 4 (F 14)) from hS.2.1 14 (by decide)) (c) (rfl) (by omega) (by decide) dX11_place_70 ?_
            refine j_eqi (y := cellR (rowAt (F 14) 0) c) (rowAt_cell (by omega)) ?_
            refine j_icmp_ge hX 78 dX11_place_71 (by decide) (fun c_71 => ?_) (fun c_71 => ?_)
            · refine j_iload hX dX11_place_78 0 rfl ?_
              refine j_aload_n hX dX11_place_80 7 rfl ?_
              refine j_get (v := .ref (Q 14)) hX hS.1 rfl wf_X11 17 (by decide) lk_X11_53 (fun _ h => h) rfl dX11_place_81 ?_
              refine j_iload hX dX11_place_84 1 rfl ?_
              refine j_ialdN hX (show g (Q 14) = some (aI (xK X) 4 (F 14)) from hS.2.1 14 (by decide)) (c) (rfl) (by omega) (by decide) dX11_place_86 ?_
              refine j_eqi (y := cellR (rowAt (F 14) 0) c) (rowAt_cell (by omega)) ?_
              refine j_icmp_le hX 94 dX11_place_87 (by decide) (fun c_87 => ?_) (fun c_87 => ?_)
              · refine j_iconst (v := nI 0) hX dX11_place_94 (by decide) ?_
                refine j_istore (lv' := [(5, .int (nI 0)), (7, .int (cellR (B[mid]).1 c)), (6, .int (nI c)), (4, .int (nI mid)), (3, .int (nI hi)), (2, .int (nI lo)), (1, .int (nI r)), (0, .ref m)]) hX dX11_place_95 (by rw [hn]; decide) rfl ?_
                refine j_iinc (v := nI (c + 1)) (lv' := [(6, .int (nI (c + 1))), (5, .int (nI 0)), (7, .int (cellR (B[mid]).1 c)), (4, .int (nI mid)), (3, .int (nI hi)), (2, .int (nI lo)), (1, .int (nI r)), (0, .ref m)]) hX dX11_place_97 2 rfl (nI_1 c) (by rw [hn]; decide) rfl ?_
                refine j_goto hX 27 dX11_place_100 (by decide) ?_
                refine j_sub [0, 1, 3, 4, 5, 6, 7] rfl ?_
                exact ihc (c + 1) (by omega) (fun z hz9 => by
                  rcases Nat.lt_or_ge z c with q | q
                  · exact he z q
                  · rw [show z = c by omega]; exact Int32.le_antisymm c_87 c_71)
              · refine j_iconst (v := (-1)) hX dX11_place_90 (by decide) ?_
                refine j_goto hX 95 dX11_place_91 (by decide) ?_
                refine j_istore (lv' := [(5, .int (-1)), (7, .int (cellR (B[mid]).1 c)), (6, .int (nI c)), (4, .int (nI mid)), (3, .int (nI hi)), (2, .int (nI lo)), (1, .int (nI r)), (0, .ref m)]) hX dX11_place_95 (by rw [hn]; decide) rfl ?_
                refine j_iinc (v := nI (c + 1)) (lv' := [(6, .int (nI (c + 1))), (5, .int (-1)), (7, .int (cellR (B[mid]).1 c)), (4, .int (nI mid)), (3, .int (nI hi)), (2, .int (nI lo)), (1, .int (nI r)), (0, .ref m)]) hX dX11_place_97 2 rfl (nI_1 c) (by rw [hn]; decide) rfl ?_
                refine j_goto hX 27 dX11_place_100 (by decide) ?_
                refine j_sub [0, 1, 3, 4, 5, 6, 7] rfl ?_
                exact stop (-1) (c + 1) (by decide) (Or.inr ⟨by decide, Int.le_of_lt (trunc_gt hw1 (by omega) (by omega) he (Int32.not_le.mp c_87))⟩)
            · refine j_iconst (v := nI 1) hX dX11_place_74 (by decide) ?_
              refine j_goto hX 95 dX11_place_75 (by decide) ?_
              refine j_istore (lv' := [(5, .int (nI 1)), (7, .int (cellR (B[mid]).1 c)), (6, .int (nI c)), (4, .int (nI mid)), (3, .int (nI hi)), (2, .int (nI lo)), (1, .int (nI r)), (0, .ref m)]) hX dX11_place_95 (by rw [hn]; decide) rfl ?_
              refine j_iinc (v := nI (c + 1)) (lv' := [(6, .int (nI (c + 1))), (5, .int (nI 1)), (7, .int (cellR (B[mid]).1 c)), (4, .int (nI mid)), (3, .int (nI hi)), (2, .int (nI lo)), (1, .int (nI r)), (0, .ref m)]) hX dX11_place_97 2 rfl (nI_1 c) (by rw [hn]; decide) rfl ?_
              refine j_goto hX 27 dX11_place_100 (by decide) ?_
              refine j_sub [0, 1, 3, 4, 5, 6, 7] rfl ?_
              exact stop (nI 1) (c + 1) (by decide) (Or.inl ⟨by decide, trunc_lt hw1 (by omega) (by omega) he (Int32.not_le.mp c_71)⟩)
        refine j_iload_n hX dX11_place_9 0 rfl ?_
        refine j_iload_n hX dX11_place_10 1 rfl ?_
        refine j_icmp_ge hX 122 dX11_place_11 (by decide) (fun c_11 => absurd c_11 (nI_ge (a := lo) (b := hi) (by omega) (by omega))) (fun _ => ?_)
        refine j_iload_n hX dX11_place_14 0 rfl ?_
        refine j_iload_n hX dX11_place_15 1 rfl ?_
        refine j_iadd hX dX11_place_16 ?_
        refine j_eqi (y := nI (lo + hi)) (nI_add lo hi) ?_
        refine j_iconst (v := nI 2) hX dX11_place_17 (by decide) ?_
        refine j_idiv hX dX11_place_18 (by decide) ?_
        refine j_eqi (y := nI mid) (by rw [pk_div (by omega) (by decide) (by decide), emid]) ?_
        refine j_istore (lv' := [(4, .int (nI mid)), (2, .int (nI lo)), (3, .int (nI hi)), (1, .int (nI r)), (0, .ref m)]) hX dX11_place_19 (by rw [hn]; decide) rfl ?_
        refine j_iconst (v := nI 0) hX dX11_place_21 (by decide) ?_
        refine j_istore (lv' := [(5, .int (nI 0)), (4, .int (nI mid)), (2, .int (nI lo)), (3, .int (nI hi)), (1, .int (nI r)), (0, .ref m)]) hX dX11_place_22 (by rw [hn]; decide) rfl ?_
        refine j_iconst (v := nI 0) hX dX11_place_24 (by decide) ?_
        refine j_istore (lv' := [(6, .int (nI 0)), (5, .int (nI 0)), (4, .int (nI mid)), (2, .int (nI lo)), (3, .int (nI hi)), (1, .int (nI r)), (0, .ref m)]) hX dX11_place_25 (by rw [hn]; decide) rfl ?_
        refine j_sub (lv' := [(6, .int (nI 0)), (5, .int (nI 0)), (4, .int (nI mid)), (3, .int (nI hi)), (2, .int (nI lo)), (1, .int (nI r)), (0, .ref m)]) [0, 1, 2, 4, 3, 5, 6] rfl ?_
        exact inner w 0 (by omega) (fun z hz9 => absurd hz9 (by omega))
  refine j_iconst (v := nI 0) hX dX11_place_0 (by decide) ?_
  refine j_istore_n (lv' := [(2, .int (nI 0)), (0, .ref m), (1, .int (nI r))]) hX dX11_place_1 (by rw [hn]; decide) rfl ?_
  refine j_aload_n hX dX11_place_2 1 rfl ?_
  refine j_get (v := .ref (Q 13)) hX hS.1 rfl wf_X11 15 (by decide) lk_X11_50 (fun _ h => h) rfl dX11_place_3 ?_
  refine j_iload_n hX dX11_place_6 2 rfl ?_
  refine j_ialdN hX (show g (Q 13) = some (aI (xK X) 8 (F 13)) from hS.2.1 13 (by decide)) (r) (rfl) (hr) (by decide) dX11_place_7 ?_
  refine j_eqi (y := nI B.length) (hB.1) ?_
  refine j_istore_n (lv' := [(3, .int (nI B.length)), (2, .int (nI 0)), (0, .ref m), (1, .int (nI r))]) hX dX11_place_8 (by rw [hn]; decide) rfl ?_
  refine j_sub (lv' := [(2, .int (nI 0)), (3, .int (nI B.length)), (1, .int (nI r)), (0, .ref m)]) [1, 0, 3, 2] rfl ?_
  exact loop B.length 0 B.length (by omega) (by omega) (Nat.le_refl _) (fun i x hi => absurd hi (by omega)) (fun i x hi hx => absurd (rep_lt hx) (by omega))

set_option maxRecDepth 20000 in
set_option maxHeartbeats 600000 in
/-- isAt(r, k) -/
theorem c_X11_isAt (l : Launch) (K : Cst) (g : Wd) (m : Nat) (Q : Nat → Nat) (th oc fi : Int32) (F : Nat → Nat → Int32) (hS : RS K g m Q th oc fi F) (r w : Nat) (B : Bg) (hr : r < 8) (hw : F 1 r = nI w) (hw1 : 1 ≤ w) (hw4 : w ≤ 4) (hB : NB F r B) (hl : B.length ≤ 20) (hs : srt B) (hz : zw w B) (k : Nat) (hk20 : k ≤ 20) : Ct l K yX11_isAt cX11_isAt 5 (some .boolean) 0 [.ref m, .int (nI r), .int (nI k)] g (fun v g' => ∃ b : Bool, v = some (.int (b01 b)) ∧ (b = true ↔ ∃ x, B[k]? = some x ∧ x.1 = (truncR w (rowAt (F 14) 0))) ∧ g = g') (fun _ _ => False) 0 0 := by
  refine ct_of (by decide) (Nat.le_of_ble_eq_true rfl) ?_
  intro X hl hK hX hE hn hL hR hm
  subst hl; subst hK
  show J X 0 0 g 0 [(0, .ref m), (1, .int (nI r)), (2, .int (nI k))] []
  have no : ∀ c : Nat, ¬ (∃ x, B[k]? = some x ∧ x.1 = (truncR w (rowAt (F 14) 0))) → J X 0 0 g 19 [(4, .int (nI c)), (3, .int 0), (2, .int (nI k)), (1, .int (nI r)), (0, .ref m)] [] := by
    intro c hno
    refine j_iload_n hX dX11_isAt_19 1 rfl ?_
    refine j_if_eq hX 72 dX11_isAt_20 (by decide) (fun _ => ?_) (fun c_20 => absurd rfl c_20)
    refine j_iload_n hX dX11_isAt_72 1 rfl ?_
    exact j_zret hX hE dX11_isAt_73 (rfl) (⟨false, rfl, ⟨fun q => absurd q (by decide), fun q => absurd q hno⟩, rfl⟩) (by decide) (by decide)
  rcases Nat.lt_or_ge k B.length with hk | hk
  · have loop : ∀ (q c : Nat), c + q = w → (∀ z, z < c → cellR (B[k]).1 z = cellR (rowAt (F 14) 0) z) → J X 0 0 g 19 [(4, .int (nI c)), (3, .int 1), (2, .int (nI k)), (1, .int (nI r)), (0, .ref m)] [] := by
      intro q
      induction q with
      | zero =>
        intro c hc he
        refine j_iload_n hX dX11_isAt_19 1 rfl ?_
        refine j_if_eq hX 72 dX11_isAt_20 (by decide) (fun c_20 => absurd c_20 (by decide)) (fun _ => ?_)
        refine j_iload hX dX11_isAt_23 0 rfl ?_
        refine j_aload_n hX dX11_isAt_25 4 rfl ?_
        refine j_get (v := .ref (Q 1)) hX hS.1 rfl wf_X11 2 (by decide) lk_X11_13 (fun _ h => h) rfl dX11_isAt_26 ?_
        refine j_iload_n hX dX11_isAt_29 3 rfl ?_
        refine j_ialdN hX (show g (Q 1) = some (aI (xK X) 8 (F 1)) from hS.2.1 1 (by decide)) (r) (rfl) (hr) (by decide) dX11_isAt_30 ?_
        refine j_eqi (y := nI w) (hw) ?_
        refine j_icmp_ge hX 72 dX11_isAt_31 (by decide) (fun _ => ?_) (fun c_31 => absurd (nI_le (a := w) (b := c) (by omega) (by omega)) c_31)
        refine j_iload_n hX dX11_isAt_72 1 rfl ?_
        exact j_zret hX hE dX11_isAt_73 (rfl) (⟨true, rfl, ⟨fun _ => ⟨_, List.getElem?_eq_getElem hk, trunc_eq hw1 (hz _ (List.getElem_mem hk)) (fun z h1 h2 => he z (by omega))⟩, fun _ => rfl⟩, rfl⟩) (by decide) (by decide)
      | succ q ih =>
        intro c hc he
        refine j_iload_n hX dX11_isAt_19 1 rfl ?_
        refine j_if_eq hX 72 dX11_isAt_20 (by decide) (fun c_20 => absurd c_20 (by decide)) (fun _ => ?_)
        refine j_iload hX dX11_isAt_23 0 rfl ?_
        refine j_aload_n hX dX11_isAt_25 4 rfl ?_
        refine j_get (v := .ref (Q 1)) hX hS.1 rfl wf_X11 2 (by decide) lk_X11_13 (fun _ h => h) rfl dX11_isAt_26 ?_
        refine j_iload_n hX dX11_isAt_29 3 rfl ?_
        refine j_ialdN hX (show g (Q 1) = some (aI (xK X) 8 (F 1)) from hS.2.1 1 (by decide)) (r) (rfl) (hr) (by decide) dX11_isAt_30 ?_
        refine j_eqi (y := nI w) (hw) ?_
        refine j_icmp_ge hX 72 dX11_isAt_31 (by decide) (fun c_31 => absurd c_31 (nI_ge (a := c) (b := w) (by omega) (by omega))) (fun _ => ?_)
        refine j_aload_n hX dX11_isAt_34 4 rfl ?_
        refine j_get (v := .ref (Q 11)) hX hS.1 rfl wf_X11 13 (by decide) lk_X11_44 (fun _ h => h) rfl dX11_isAt_35 ?_
        refine j_iconst (v := nI 4) hX dX11_isAt_38 (by decide) ?_
        refine j_bipush (v := nI 20) hX dX11_isAt_39 (by decide) ?_
        refine j_iload_n hX dX11_isAt_41 3 rfl ?_
        refine j_imul hX dX11_isAt_42 ?_
        refine j_iload_n hX dX11_isAt_43 2 rfl ?_
        refine j_iadd hX dX11_isAt_44 ?_
        refine j_eqi (y := nI (20 * r + k)) (ix20 r k) ?_
        refine j_imul hX dX11_isAt_45 ?_
        refine j_iload hX dX11_isAt_46 0 rfl ?_
        refine j_iadd hX dX11_isAt_48 ?_
        refine j_eqi (y := nI (80 * r + 4 * k + c)) (ix80 r k c) ?_
        refine j_ialdN hX (show g (Q 11) = some (aI (xK X) 2048 (F 11)) from hS.2.1 11 (by decide)) (80 * r + 4 * k + c) (rfl) (by omega) (by decide) dX11_isAt_49 ?_
        refine j_eqi (y := cellR (B[k]).1 c) (repA_cell hB.2 hk (by omega)) ?_
        refine j_aload_n hX dX11_isAt_50 4 rfl ?_
        refine j_get (v := .ref (Q 14)) hX hS.1 rfl wf_X11 17 (by decide) lk_X11_53 (fun _ h => h) rfl dX11_isAt_51 ?_
        refine j_iload hX dX11_isAt_54 0 rfl ?_
        refine j_ialdN hX (show g (Q 14) = some (aI (xK X) 4 (F 14)) from hS.2.1 14 (by decide)) (c) (rfl) (by omega) (by decide) dX11_isAt_56 ?_
        refine j_eqi (y := cellR (rowAt (F 14) 0) c) (rowAt_cell (by omega)) ?_
        refine j_icmp_ne hX 64 dX11_isAt_57 (by decide) (fun c_57 => ?_) (fun c_57 => ?_)
        · refine j_iconst (v := 0) hX dX11_isAt_64 (by decide) ?_
          refine j_istore_n (lv' := [(3, .int 0), (4, .int (nI c)), (2, .int (nI k)), (1, .int (nI r)), (0, .ref m)]) hX dX11_isAt_65 (by rw [hn]; decide) rfl ?_
          refine j_iinc (v := nI (c + 1)) (lv' := [(4, .int (nI (c + 1))), (3, .int 0), (2, .int (nI k)), (1, .int (nI r)), (0, .ref m)]) hX dX11_isAt_66 1 rfl (nI_1 c) (by rw [hn]; decide) rfl ?_
          refine j_goto hX 19 dX11_isAt_69 (by decide) ?_
          refine j_sub [0, 1, 2, 3, 4] rfl ?_
          exact no (c + 1) (fun ⟨x, hx, hx2⟩ => c_57 (by
            rw [List.getElem?_eq_getElem hk] at hx; cases hx
            rw [hx2, cellR_trunc hw1 (by omega), if_pos (by omega)]))
        · refine j_iconst (v := 1) hX dX11_isAt_60 (by decide) ?_
          refine j_goto hX 65 dX11_isAt_61 (by decide) ?_
          refine j_istore_n (lv' := [(3, .int 1), (4, .int (nI c)), (2, .int (nI k)), (1, .int (nI r)), (0, .ref m)]) hX dX11_isAt_65 (by rw [hn]; decide) rfl ?_
          refine j_iinc (v := nI (c + 1)) (lv' := [(4, .int (nI (c + 1))), (3, .int 1), (2, .int (nI k)), (1, .int (nI r)), (0, .ref m)]) hX dX11_isAt_66 1 rfl (nI_1 c) (by rw [hn]; decide) rfl ?_
          refine j_goto hX 19 dX11_isAt_69 (by decide) ?_
          refine j_sub [0, 1, 2, 3, 4] rfl ?_
          exact ih (c + 1) (by omega) (fun z hz9 => by
            rcases Nat.lt_or_ge z c with q | q
            · exact he z q
            · rw [show z = c by omega]; exact c_57)
    refine j_iload_n hX dX11_isAt_0 2 rfl ?_
    refine j_aload_n hX dX11_isAt_1 0 rfl ?_
    refine j_get (v := .ref (Q 13)) hX hS.1 rfl wf_X11 15 (by decide) lk_X11_50 (fun _ h => h) rfl dX11_isAt_2 ?_
    refine j_iload_n hX dX11_isAt_5 1 rfl ?_
    refine j_ialdN hX (show g (Q 13) = some (aI (xK X) 8 (F 13)) from hS.2.1 13 (by decide)) (r) (rfl) (hr) (by decide) dX11_isAt_6 ?_
    refine j_eqi (y := nI B.length) (hB.1) ?_
    refine j_icmp_ge hX 14 dX11_isAt_7 (by decide) (fun c_7 => absurd c_7 (nI_ge (a := k) (b := B.length) hk (by omega))) (fun _ => ?_)
    refine j_iconst (v := 1) hX dX11_isAt_10 (by decide) ?_
    refine j_goto hX 15 dX11_isAt_11 (by decide) ?_
    refine j_istore_n (lv' := [(3, .int 1), (0, .ref m), (1, .int (nI r)), (2, .int (nI k))]) hX dX11_isAt_15 (by rw [hn]; decide) rfl ?_
    refine j_iconst (v := nI 0) hX dX11_isAt_16 (by decide) ?_
    refine j_istore (lv' := [(4, .int (nI 0)), (3, .int 1), (0, .ref m), (1, .int (nI r)), (2, .int (nI k))]) hX dX11_isAt_17 (by rw [hn]; decide) rfl ?_
    refine j_sub (lv' := [(4, .int (nI 0)), (3, .int 1), (2, .int (nI k)), (1, .int (nI r)), (0, .ref m)]) [0, 1, 4, 3, 2] rfl ?_
    exact loop w 0 (by omega) (fun z hz9 => absurd hz9 (by omega))
  · refine j_iload_n hX dX11_isAt_0 2 rfl ?_
    refine j_aload_n hX dX11_isAt_1 0 rfl ?_
    refine j_get (v := .ref (Q 13)) hX hS.1 rfl wf_X11 15 (by decide) lk_X11_50 (fun _ h => h) rfl dX11_isAt_2 ?_
    refine j_iload_n hX dX11_isAt_5 1 rfl ?_
    refine j_ialdN hX (show g (Q 13) = some (aI (xK X) 8 (F 13)) from hS.2.1 13 (by decide)) (r) (rfl) (hr) (by decide) dX11_isAt_6 ?_
    refine j_eqi (y := nI B.length) (hB.1) ?_
    refine j_icmp_ge hX 14 dX11_isAt_7 (by decide) (fun _ => ?_) (fun c_7 => absurd (nI_le (a := B.length) (b := k) hk (by omega)) c_7)
    refine j_iconst (v := 0) hX dX11_isAt_14 (by decide) ?_
    refine j_istore_n (lv' := [(3, .int 0), (0, .ref m), (1, .int (nI r)), (2, .int (nI k))]) hX dX11_isAt_15 (by rw [hn]; decide) rfl ?_
    refine j_iconst (v := nI 0) hX dX11_isAt_16 (by decide) ?_
    refine j_istore (lv' := [(4, .int (nI 0)), (3, .int 0), (0, .ref m), (1, .int (nI r)), (2, .int (nI k))]) hX dX11_isAt_17 (by rw [hn]; decide) rfl ?_
    refine j_sub (lv' := [(4, .int (nI 0)), (3, .int 0), (2, .int (nI k)), (1, .int (nI r)), (0, .ref m)]) [0, 1, 4, 3, 2] rfl ?_
    exact no 0 (fun ⟨x, hx, _⟩ => absurd (rep_lt hx) (by omega))

