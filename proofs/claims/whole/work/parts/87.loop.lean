set_option maxRecDepth 20000 in
set_option maxHeartbeats 1600000 in
/-- the law's loop -/
theorem law_loop (l : Launch) (hlt : l.stackTraces = false) (X : Cx) (hX : OK X cL_law RL) (hl : xl X = l) (hn : xn X = 8) (hL : xlev X = 11) (hR : xR X = room_1) (hk0 : ∀ q, kF (xK X) q = none) (b L : Nat) (sc : Nat → Int32) (hsc : Scr X b L sc) (hL9 : L ≤ 3584) (x m oo : Nat) (hret : ∀ (kc ks : Nat) (g : Wd) (lv : List (Nat × Value)), kc ≤ 601024 → ks ≤ 7293034 → J X kc ks g 1430 lv [.int 1]) : ∀ (p nn : Nat), nn + p = L / 7 → ∀ (g : Wd) (A : Ab) (Y : Lt) (ch : Nat → Int32) (N : Nat → Bg) (Q : Nat → Nat) (th fi : Int32) (F : Nat → Nat → Int32) (Od : List Nat) (f : Nat → Int64), CS (xK X) g x A Y ch (fun _ => 0) N → RS (xK X) g m Q th (nI Od.length) fi F → RA A Od F → (∀ q, isM m Q q → ZN x A Y q) → g oo = some (aJ (xK X) 1 f) → Inv A → J X (200 + 20 * nn) (8000 + 80 * nn) g 23 [(4, .int (nI (7 * nn))), (3, .ref oo), (2, .ref m), (1, .ref x), (0, .ref b)] [] := by
  have hrc : room_1.cells = 601024 := rfl
  have hrs : room_1.slots = 7293034 := rfl
  intro p
  induction p with
  | zero =>
    intro nn hp g A Y ch N Q th fi F Od f  hC hS hA hd ho hI
    have hq : L < 7 * nn + 7 := by omega
    refine j_iload hX dL_law_23 0 rfl ?_
    refine j_aload_n hX dL_law_25 4 rfl ?_
    refine j_slen hX hsc dL_law_26 ?_
    refine j_bipush (v := nI 7) hX dL_law_27 (by decide) ?_
    refine j_isub hX dL_law_29 ?_
    refine j_icmp_gt hX 1429 dL_law_30 (by decide) (fun _ => ?_) (fun c_30 => absurd ((scr_cmp (by omega) (by omega)).mpr (by omega)) c_30)
    refine j_iconst (v := 1) hX dL_law_1429 (by decide) ?_
    exact hret _ _ _ _ (by omega) (by omega)
  | succ p ih =>
    intro nn hp g A Y ch N Q th fi F Od f  hC hS hA hd ho hI
    have hq : 7 * nn + 7 ≤ L := by omega
    have KEND : ∀ (g : Wd) (A : Ab) (Y : Lt) (ch : Nat → Int32) (N : Nat → Bg) (Q : Nat → Nat) (th fi : Int32) (F : Nat → Nat → Int32) (Od : List Nat) (f : Nat → Int64), CS (xK X) g x A Y ch (fun _ => 0) N → RS (xK X) g m Q th (nI Od.length) fi F → RA A Od F → (∀ q, isM m Q q → ZN x A Y q) → g oo = some (aJ (xK X) 1 f) → Inv A → J X (200 + 20 * (nn + 1)) (8000 + 80 * (nn + 1)) g 1423 [(4, .int (nI (7 * nn))), (3, .ref oo), (2, .ref m), (1, .ref x), (0, .ref b)] [] := by
      intro g A Y ch N Q th fi F Od f  hC hS hA hd ho hI
      refine j_iinc (v := nI (7 * (nn + 1))) (lv' := [(4, .int (nI (7 * (nn + 1)))), (3, .ref oo), (2, .ref m), (1, .ref x), (0, .ref b)]) hX dL_law_1423 0 rfl ((nI_add (7 * nn) 7).trans (congrArg nI (by omega))) (by rw [hn]; decide) rfl ?_
      refine j_goto hX 23 dL_law_1426 (by decide) ?_
      refine j_sub [0, 1, 2, 3, 4] rfl ?_
      exact ih (nn + 1) (by omega) g A Y ch N Q th fi F Od f hC hS hA hd ho hI
    refine j_iload hX dL_law_23 0 rfl ?_
    refine j_aload_n hX dL_law_25 4 rfl ?_
    refine j_slen hX hsc dL_law_26 ?_
    refine j_bipush (v := nI 7) hX dL_law_27 (by decide) ?_
    refine j_isub hX dL_law_29 ?_
    refine j_icmp_gt hX 1429 dL_law_30 (by decide) (fun c_30 => absurd c_30 (fun q => absurd ((scr_cmp (by omega) (by omega)).mp q) (by omega))) (fun _ => ?_)
    refine j_aload_n hX dL_law_33 4 rfl ?_
    refine j_iload hX dL_law_34 0 rfl ?_
    refine j_sld hX hsc (7 * nn) (rfl) (by omega) (by omega) dL_law_36 ?_
    refine j_bipush (v := nI 31) hX dL_law_37 (by decide) ?_
    refine j_iand hX dL_law_39 ?_
    obtain ⟨w, hw, ew⟩ := and31 (sc (7 * nn))
    refine j_eqi (y := nI w) ew ?_
    rcases (show w = 0 ∨ w = 1 ∨ w = 2 ∨ w = 3 ∨ w = 4 ∨ w = 5 ∨ w = 6 ∨ w = 7 ∨ w = 8 ∨ w = 9 ∨ w = 10 ∨ w = 11 ∨ w = 12 ∨ w = 13 ∨ w = 14 ∨ w = 15 ∨ w = 16 ∨ 17 ≤ w by omega) with h | h | h | h | h | h | h | h | h | h | h | h | h | h | h | h | h | h
    · subst h
      refine j_tabIn (off := 84) hX 124 dL_law_40 (by decide) (by decide) (by decide) (by decide) ?_
      exact law_table l hlt X hX hl hn hL hR hk0 b L sc hsc hL9 x m oo nn (by omega) g A Y ch N Q th fi F Od f hC hS hA hd ho hI KEND
    · subst h
      refine j_tabIn (off := 132) hX 172 dL_law_40 (by decide) (by decide) (by decide) (by decide) ?_
      exact law_select l hlt X hX hl hn hL hR hk0 b L sc hsc hL9 x m oo nn (by omega) g A Y ch N Q th fi F Od f hC hS hA hd ho hI KEND
    · subst h
      refine j_tabIn (off := 246) hX 286 dL_law_40 (by decide) (by decide) (by decide) (by decide) ?_
      exact law_columns l hlt X hX hl hn hL hR hk0 b L sc hsc hL9 x m oo nn (by omega) g A Y ch N Q th fi F Od f hC hS hA hd ho hI KEND
    · subst h
      refine j_tabIn (off := 344) hX 384 dL_law_40 (by decide) (by decide) (by decide) (by decide) ?_
      exact law_join l hlt X hX hl hn hL hR hk0 b L sc hsc hL9 x m oo nn (by omega) g A Y ch N Q th fi F Od f hC hS hA hd ho hI KEND
    · subst h
      refine j_tabIn (off := 428) hX 468 dL_law_40 (by decide) (by decide) (by decide) (by decide) ?_
      exact law_both l hlt X hX hl hn hL hR hk0 b L sc hsc hL9 x m oo nn (by omega) g A Y ch N Q th fi F Od f hC hS hA hd ho hI KEND
    · subst h
      refine j_tabIn (off := 516) hX 556 dL_law_40 (by decide) (by decide) (by decide) (by decide) ?_
      exact law_once l hlt X hX hl hn hL hR hk0 b L sc hsc hL9 x m oo nn (by omega) g A Y ch N Q th fi F Od f hC hS hA hd ho hI KEND
    · subst h
      refine j_tabIn (off := 564) hX 604 dL_law_40 (by decide) (by decide) (by decide) (by decide) ?_
      exact law_group l hlt X hX hl hn hL hR hk0 b L sc hsc hL9 x m oo nn (by omega) g A Y ch N Q th fi F Od f hC hS hA hd ho hI KEND
    · subst h
      refine j_tabIn (off := 648) hX 688 dL_law_40 (by decide) (by decide) (by decide) (by decide) ?_
      exact law_drop l hlt X hX hl hn hL hR hk0 b L sc hsc hL9 x m oo nn (by omega) g A Y ch N Q th fi F Od f hC hS hA hd ho hI KEND
    · subst h
      refine j_tabIn (off := 684) hX 724 dL_law_40 (by decide) (by decide) (by decide) (by decide) ?_
      exact law_put l hlt X hX hl hn hL hR hk0 b L sc hsc hL9 x m oo nn (by omega) g A Y ch N Q th fi F Od f hC hS hA hd ho hI KEND
    · subst h
      refine j_tabIn (off := 802) hX 842 dL_law_40 (by decide) (by decide) (by decide) (by decide) ?_
      exact law_fill l hlt X hX hl hn hL hR hk0 b L sc hsc hL9 x m oo nn (by omega) g A Y ch N Q th fi F Od f hC hS hA hd ho hI KEND
    · subst h
      refine j_tabIn (off := 920) hX 960 dL_law_40 (by decide) (by decide) (by decide) (by decide) ?_
      exact law_width l hlt X hX hl hn hL hR hk0 b L sc hsc hL9 x m oo nn (by omega) g A Y ch N Q th fi F Od f hC hS hA hd ho hI KEND
    · subst h
      refine j_tabIn (off := 976) hX 1016 dL_law_40 (by decide) (by decide) (by decide) (by decide) ?_
      exact law_rows l hlt X hX hl hn hL hR hk0 b L sc hsc hL9 x m oo nn (by omega) g A Y ch N Q th fi F Od f hC hS hA hd ho hI KEND
    · subst h
      refine j_tabIn (off := 1032) hX 1072 dL_law_40 (by decide) (by decide) (by decide) (by decide) ?_
      exact law_size l hlt X hX hl hn hL hR hk0 b L sc hsc hL9 x m oo nn (by omega) g A Y ch N Q th fi F Od f hC hS hA hd ho hI KEND
    · subst h
      refine j_tabIn (off := 1087) hX 1127 dL_law_40 (by decide) (by decide) (by decide) (by decide) ?_
      exact law_times l hlt X hX hl hn hL hR hk0 b L sc hsc hL9 x m oo nn (by omega) g A Y ch N Q th fi F Od f hC hS hA hd ho hI KEND
    · subst h
      refine j_tabIn (off := 1191) hX 1231 dL_law_40 (by decide) (by decide) (by decide) (by decide) ?_
      exact law_cell l hlt X hX hl hn hL hR hk0 b L sc hsc hL9 x m oo nn (by omega) g A Y ch N Q th fi F Od f hC hS hA hd ho hI KEND
    · subst h
      refine j_tabIn (off := 1271) hX 1311 dL_law_40 (by decide) (by decide) (by decide) (by decide) ?_
      exact law_changed l hlt X hX hl hn hL hR hk0 b L sc hsc hL9 x m oo nn (by omega) g A Y ch N Q th fi F Od f hC hS hA hd ho hI KEND
    · subst h
      refine j_tabIn (off := 1327) hX 1367 dL_law_40 (by decide) (by decide) (by decide) (by decide) ?_
      exact law_count l hlt X hX hl hn hL hR hk0 b L sc hsc hL9 x m oo nn (by omega) g A Y ch N Q th fi F Od f hC hS hA hd ho hI KEND
    · refine j_tabOut hX 1423 dL_law_40 (Or.inr (by rw [nI_toInt (by omega)]; omega)) (by decide) ?_
      refine J.mono (kc' := 200 + 20 * (nn + 1)) (ks' := 8000 + 80 * (nn + 1)) ?_ (by omega) (by omega)
      exact KEND g A Y ch N Q th fi F Od f hC hS hA hd ho hI

