set_option maxRecDepth 20000 in
set_option maxHeartbeats 1600000 in
theorem law_run (l : Launch) (hlt : l.stackTraces = false) (X : Cx) (hX : OK X cL_law RL) (hl : xl X = l) (hn : xn X = 8) (hL : xlev X = 11) (hR : xR X = room_1) (hk0 : ∀ q, kF (xK X) q = none) (b L : Nat) (sc : Nat → Int32) (hsc : Scr X b L sc) (hL9 : L ≤ 3584) (hret : ∀ (kc ks : Nat) (g : Wd) (lv : List (Nat × Value)), kc ≤ 601024 → ks ≤ 7293034 → J X kc ks g 1430 lv [.int 1]) : J X 0 0 (fun _ => none) 0 [(0, .ref b)] [] := by
  refine j_new (ci := 9) (fs := [.null, .null]) hX rfl wf_X10 tyX10_ok lk_L_8 wA_X10 wN_X10 (fun j hj => by rcases (show j = 0 ∨ j = 1 by omega) with rfl | rfl <;> rfl) dL_law_0 (by rw [hR]; decide) (by rw [hR]; decide) (fun x fx => ?_)
  obtain ⟨g1, eg1⟩ : ∃ z : Wd, z = up (fun _ => none) x (ob 9 [.null, .null]) := ⟨_, rfl⟩
  refine j_w eg1.symm ?_
  have kg1 : g1 x = some (ob 9 [.null, .null]) := by rw [eg1]; exact up_s _ _ _
  show J X 1 2 g1 3 [(0, .ref b)] [.ref x]
  refine j_dup hX dL_law_3 rfl ?_
  refine j_callI (As := []) (rest := [.ref x]) hX (c_X10_init (xl X) (xK X) g1 x kg1 (fun q d hq => by rw [hk0] at hq; cases hq) (fun q d hq => by rw [hk0] at hq; cases hq)) lk_L_79 wI_X10_init wN_X10 wC_X10_init rfl hd_X10_init rfl (by rw [hL]; decide) (by decide) rfl (Nat.le_of_ble_eq_true rfl) dL_law_4 (by rw [hR]; decide) (by rw [hR]; decide) ?_
  rintro _ g2 ⟨rfl, Y, ch, N, hC⟩
  show J X 59 1710 g2 7 [(0, .ref b)] [.ref x]
  refine j_astore_n (lv' := [(1, .ref x), (0, .ref b)]) hX dL_law_7 (by rw [hn]; decide) rfl ?_
  refine j_new (ci := 10) (fs := [.int 0, .null, .null, .null, .null, .null, .null, .null, .int 0, .null, .null, .null, .null, .null, .null, .null, .int 0, .null]) hX rfl wf_X11 tyX11_ok lk_L_80 wA_X11 wN_X11 (fun j hj => by rcases (show j = 0 ∨ j = 1 ∨ j = 2 ∨ j = 3 ∨ j = 4 ∨ j = 5 ∨ j = 6 ∨ j = 7 ∨ j = 8 ∨ j = 9 ∨ j = 10 ∨ j = 11 ∨ j = 12 ∨ j = 13 ∨ j = 14 ∨ j = 15 ∨ j = 16 ∨ j = 17 by omega) with rfl | rfl | rfl | rfl | rfl | rfl | rfl | rfl | rfl | rfl | rfl | rfl | rfl | rfl | rfl | rfl | rfl | rfl <;> rfl) dL_law_8 (by rw [hR]; decide) (by rw [hR]; decide) (fun m fm => ?_)
  obtain ⟨g3, eg3⟩ : ∃ z : Wd, z = up g2 m (ob 10 [.int 0, .null, .null, .null, .null, .null, .null, .null, .int 0, .null, .null, .null, .null, .null, .null, .null, .int 0, .null]) := ⟨_, rfl⟩
  refine j_w eg3.symm ?_
  have kg3 : g3 m = some (ob 10 [.int 0, .null, .null, .null, .null, .null, .null, .null, .int 0, .null, .null, .null, .null, .null, .null, .null, .int 0, .null]) := by rw [eg3]; exact up_s _ _ _
  show J X 60 1728 g3 11 [(1, .ref x), (0, .ref b)] [.ref m]
  refine j_dup hX dL_law_11 rfl ?_
  refine j_callI (As := []) (rest := [.ref m]) hX (Ct.re (c_X11_init (xl X) (reF (xK X) (frm (fun q => q ≠ m) g3)) g3 m kg3 (frm_sub _ _) (fun q e h => frm_in (P := fun q => q ≠ m) (g := g3) h))) lk_L_82 wI_X11_init wN_X11 wC_X11_init rfl hd_X11_init rfl (by rw [hL]; decide) (by decide) rfl (Nat.le_of_ble_eq_true rfl) dL_law_12 (by rw [hR]; decide) (by rw [hR]; decide) ?_
  rintro _ g4 ⟨rfl, Q, Od, fi, F, hS4, hA⟩
  have hzm : ZN x A0 Y m := hC.zn (fun e he => by rw [fm] at he; cases he)
  have h23 : ∀ q e, g2 q = some e → g3 q = some e := fun q e hq => by rw [eg3, up_n (ne_fr hq fm)]; exact hq
  have hC4 : CS (xK X) g4 x A0 Y ch (fun _ => 0) N := hC.mv (F := kF (xK X)) (fun q e hq hz => hS4.2.2.2.1 q e (frm_get (P := fun q => q ≠ m) (fun z => hz (by rw [z]; exact hzm)) (h23 q e hq))) (fun q d hq => by rw [hk0] at hq; cases hq) (fun q d hq => by rw [hk0] at hq; cases hq)
  have hS : RS (xK X) g4 m Q (nI 0) (nI Od.length) fi F := hS4.mv (F := kF (xK X)) (fun q e hq _ => hq) (fun q d hq => by rw [hk0] at hq; cases hq) (fun q d hq => by rw [hk0] at hq; cases hq)
  have hd : ∀ q, isM m Q q → ZN x A0 Y q := fun q hq => Classical.byContradiction fun hz => by
    have hqm : q ≠ m := fun z => hz (by rw [z]; exact hzm)
    have hex : ∃ e, g2 q = some e := Classical.byContradiction fun hn => hz (hC.zn (fun e he => absurd ⟨e, he⟩ hn))
    obtain ⟨e, he⟩ := hex
    have h5 := hS4.2.2.2.2 q e (frm_get (P := fun q => q ≠ m) hqm (h23 q e he))
    rcases hq with z | ⟨j, hj, z⟩
    · exact hqm z
    · exact h5.2 j hj z
  show J X 75 6956 g4 15 [(1, .ref x), (0, .ref b)] [.ref m]
  refine j_astore_n (lv' := [(2, .ref m), (1, .ref x), (0, .ref b)]) hX dL_law_15 (by rw [hn]; decide) rfl ?_
  refine j_iconst (v := nI 1) hX dL_law_16 (by decide) ?_
  refine j_newJ (n := 1) hX (rfl) (by decide) dL_law_17 (by rw [hR]; decide) (by rw [hR]; decide) (fun oo foo => ?_)
  obtain ⟨g5, eg5⟩ : ∃ z : Wd, z = up g4 oo (aJ (xK X) 1 (fun _ => 0)) := ⟨_, rfl⟩
  refine j_w eg5.symm ?_
  have kg5 : g5 oo = some (aJ (xK X) 1 (fun _ => 0)) := by rw [eg5]; exact up_s _ _ _
  show J X 76 6957 g5 19 [(2, .ref m), (1, .ref x), (0, .ref b)] [.ref oo]
  refine j_astore_n (lv' := [(3, .ref oo), (2, .ref m), (1, .ref x), (0, .ref b)]) hX dL_law_19 (by rw [hn]; decide) rfl ?_
  refine j_iconst (v := nI 0) hX dL_law_20 (by decide) ?_
  refine j_istore (lv' := [(4, .int (nI 0)), (3, .ref oo), (2, .ref m), (1, .ref x), (0, .ref b)]) hX dL_law_21 (by rw [hn]; decide) rfl ?_
  have h45 : ∀ q e, g4 q = some e → g5 q = some e := fun q e hq => by rw [eg5, up_n (ne_fr hq foo)]; exact hq
  have hC5 : CS (xK X) g5 x A0 Y ch (fun _ => 0) N := hC4.sub h45
  have hS5 : RS (xK X) g5 m Q (nI 0) (nI Od.length) fi F := hS.mv (F := kF (xK X)) (fun q e hq _ => h45 q e hq) (fun q d hq => by rw [hk0] at hq; cases hq) (fun q d hq => by rw [hk0] at hq; cases hq)
  refine J.mono (kc' := 200 + 20 * 0) (ks' := 8000 + 80 * 0) ?_ (by decide) (by decide)
  refine j_sub (lv' := [(4, .int (nI (7 * 0))), (3, .ref oo), (2, .ref m), (1, .ref x), (0, .ref b)]) [0, 1, 2, 3, 4] rfl ?_
  exact law_loop l hlt X hX hl hn hL hR hk0 b L sc hsc hL9 x m oo hret (L / 7) 0 (by omega) g5 A0 Y ch N Q (nI 0) fi F Od (fun _ => 0) hC5 hS5 hA hd kg5 inv_0

