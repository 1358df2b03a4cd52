theorem sw_yra (Y : Lt) (i : Nat) : yra (swY Y i) = yra Y := rfl
theorem sw_yta (Y : Lt) (i : Nat) : yta (swY Y i) = yta Y := rfl
theorem sw_yR (Y : Lt) (i : Nat) : yR (swY Y i) = yR Y := rfl
theorem sw_yV (Y : Lt) (i : Nat) : yV (swY Y i) = yV Y := rfl
theorem sw_yw (Y : Lt) (i : Nat) : yw (swY Y i) = yw Y := rfl
theorem sw_yk (Y : Lt) (i : Nat) : yk (swY Y i) = yk Y := rfl
theorem sw_ynb (Y : Lt) (i : Nat) : ynb (swY Y i) = fu (ynb Y) i (yxb Y i) := rfl
theorem sw_ync (Y : Lt) (i : Nat) : ync (swY Y i) = fu (ync Y) i (yxc Y i) := rfl
theorem sw_yno (Y : Lt) (i : Nat) : yno (swY Y i) = fu (yno Y) i (yxo Y i) := rfl
theorem sw_yxb (Y : Lt) (i : Nat) : yxb (swY Y i) = fu (yxb Y) i (ynb Y i) := rfl
theorem sw_yxc (Y : Lt) (i : Nat) : yxc (swY Y i) = fu (yxc Y) i (ync Y i) := rfl
theorem sw_yxo (Y : Lt) (i : Nat) : yxo (swY Y i) = fu (yxo Y) i (yno Y i) := rfl
theorem setR_fu (A : Ab) (M : Nat → Bg) (p : Nat → Nat) (k : Nat) : (∀ j, j ≠ k → aB (setR A M p (k + 1)) j = aB (setR A M p k) j ∧ ac (setR A M p (k + 1)) j = ac (setR A M p k) j ∧ pR p (k + 1) j = pR p k j) ∧ aB (setR A M p (k + 1)) k = M k ∧ ac (setR A M p (k + 1)) k = p k ∧ pR p (k + 1) k = 0 ∧ aB (setR A M p k) k = aB A k ∧ pR p k k = p k := by
  refine ⟨fun j hj => ?_, if_pos (Nat.lt_succ_self k), if_pos (Nat.lt_succ_self k), if_pos (Nat.lt_succ_self k), if_neg (Nat.lt_irrefl k), if_neg (Nat.lt_irrefl k)⟩
  have e : j < k + 1 ↔ j < k := by omega
  refine ⟨?_, ?_, ?_⟩
  · show (if j < k + 1 then M j else aB A j) = if j < k then M j else aB A j
    simp only [e]
  · show (if j < k + 1 then p j else ac A j) = if j < k then p j else ac A j
    simp only [e]
  · show (if j < k + 1 then 0 else p j) = if j < k then 0 else p j
    simp only [e]
/-- one relation is settled: taken over -/
theorem CS.settle {K : Cst} {g g' : Wd} {x : Nat} {A : Ab} {Y1 : Lt} {ch1 : Nat → Int32} {p : Nat → Nat} {N : Nat → Bg} {k : Nat} (hk : k < 8) (hC : CS K g x (setR A (Mf A p N) p k) Y1 ch1 (pR p k) N) (e3 : ∀ q, q ≠ yR Y1 k → g' q = g q)
    (s3 : g' (yR Y1 k) = some (ob 6 [.ref (if 0 < p k then yxb Y1 k else ynb Y1 k), .ref (if 0 < p k then ynb Y1 k else yxb Y1 k), vwf A Y1 k, .int (nI (aw A k)), .int 0, .int (nI (p k))])) : ∃ Y2, CS K g' x (setR A (Mf A p N) p (k + 1)) Y2 (fu ch1 k (nI (p k))) (pR p (k + 1)) N ∧ yR Y2 = yR Y1 ∧ yra Y2 = yra Y1 := by
  obtain ⟨eo, eB, ec, ep, eB0, ep0⟩ := setR_fu A (Mf A p N) p k
  obtain ⟨h1, ⟨n1, cf1, tf1, b1, q1⟩, ⟨n2, cf2, tf2, b2, q2⟩, h4, h5⟩ := hC.2.2.1 k hk
  obtain ⟨tf0, ht0, _⟩ := hC.2.1
  have hFam : Fam g g' (setR A (Mf A p N) p k) Y1 k := fun q e hq z1 _ _ _ _ _ _ _ _ => (e3 q z1).trans hq
  have t3 : rwI K g' (yta Y1) (fun _ => True) := ⟨tf0, (e3 _ (ne_ob ht0 h1 aI_ob)).trans ht0, trivial⟩
  have b1' : isBag K g' (ynb Y1 k) (ync Y1 k) (yno Y1 k) n1 cf1 tf1 := ⟨(e3 _ (ne_ob b1.1 h1 (ob_ci (by decide)))).trans b1.1, (e3 _ (ne_ob b1.2.1 h1 aI_ob)).trans b1.2.1, (e3 _ (ne_ob b1.2.2 h1 aI_ob)).trans b1.2.2⟩
  have b2' : isBag K g' (yxb Y1 k) (yxc Y1 k) (yxo Y1 k) n2 cf2 tf2 := ⟨(e3 _ (ne_ob b2.1 h1 (ob_ci (by decide)))).trans b2.1, (e3 _ (ne_ob b2.2.1 h1 aI_ob)).trans b2.2.1, (e3 _ (ne_ob b2.2.2 h1 aI_ob)).trans b2.2.2⟩
  have h4' : 2 ≤ ak A k → vwAt K g' (yV Y1 k) (ak A k) (yR Y1 (al A k)) (yR Y1 (ar A k)) (ad A k) (yw Y1 k) (yk Y1 k) (an A k) (ao A k) ∧ rwI K g' (yw Y1 k) (rowIv (ak A k) (an A k)) := fun k2 => by
    refine ⟨hFam.vw hC hk hk k2, ?_⟩
    obtain ⟨rf, c1, c2⟩ := (h4 k2).2
    exact ⟨rf, (e3 _ (ne_ob c1 h1 aI_ob)).trans c1, c2⟩
  rw [ep0] at q2
  rw [eB0] at q1
  by_cases hp : 0 < p k
  · rw [if_pos hp, if_pos hp] at s3
    obtain ⟨d1, ⟨d2, d3, d4⟩, d5⟩ := hC.2.2.2
    refine ⟨swY Y1 k, hC.put hk hFam t3 ⟨rfl, rfl, rfl⟩ ?_ ⟨d1, ⟨d2.swap hk, d3.swap hk, d4.swap hk⟩, d5⟩ (fun j h => ⟨fu_n h, fu_n h, fu_n h, fu_n h, fu_n h, fu_n h⟩) (fun j _ => ⟨rfl, rfl, rfl⟩) (fun j h => ⟨rfl, rfl, rfl, rfl, rfl, rfl, (eo j h).1, (eo j h).2.1, rfl⟩) (fun j h => ⟨fu_n h, (eo j h).2.2, rfl⟩) (fun q e _ zn => by
      obtain ⟨⟨b1, b2, b3, b4, b5, b6, b7⟩, b8⟩ := zn.2 k hk
      unfold ZI
      rw [sw_yR, sw_ynb, sw_ync, sw_yno, sw_yxb, sw_yxc, sw_yxo, sw_yw, sw_yV, sw_yk]
      simp only [fu_s]
      exact ⟨⟨b1, b5, b6, b7, b2, b3, b4⟩, b8⟩), rfl, rfl⟩
    unfold RI
    rw [eB, ec, ep, fu_s]
    have em : Mf A p N k = N k := by unfold Mf; rw [if_pos hp]
    rw [em]
    rw [sw_yR, sw_yV, sw_yw, sw_yk, sw_ynb, sw_ync, sw_yno, sw_yxb, sw_yxc, sw_yxo]
    simp only [fu_s]
    exact ⟨s3, ⟨n2, cf2, tf2, b2', fun _ => q2 hp⟩, ⟨n1, cf1, tf1, b1', fun q => absurd q (Nat.lt_irrefl 0)⟩, h4', fun _ => trivial⟩
  · rw [if_neg hp, if_neg hp] at s3
    refine ⟨Y1, hC.put hk hFam t3 ⟨rfl, rfl, rfl⟩ ?_ hC.2.2.2 (fun j h => ⟨rfl, rfl, rfl, rfl, rfl, rfl⟩) (fun j _ => ⟨rfl, rfl, rfl⟩) (fun j h => ⟨rfl, rfl, rfl, rfl, rfl, rfl, (eo j h).1, (eo j h).2.1, rfl⟩) (fun j h => ⟨fu_n h, (eo j h).2.2, rfl⟩), rfl, rfl⟩
    unfold RI
    rw [eB, ec, ep, fu_s]
    have em : Mf A p N k = aB A k := by unfold Mf; rw [if_neg hp]
    rw [em]
    exact ⟨s3, ⟨n1, cf1, tf1, b1', q1⟩, ⟨n2, cf2, tf2, b2', fun q => absurd q (Nat.lt_irrefl 0)⟩, h4', fun _ => rfl⟩
/-- one relation is settled: left as it was -/
theorem CS.settleF {K : Cst} {g g' : Wd} {x : Nat} {A : Ab} {Y : Lt} {ch : Nat → Int32} {p : Nat → Nat} {N : Nat → Bg} {k : Nat} (hk : k < 8) (hC : CS K g x A Y ch (pR p k) N) (e3 : ∀ q, q ≠ yR Y k → g' q = g q)
    (s3 : g' (yR Y k) = some (ob 6 [.ref (ynb Y k), .ref (yxb Y k), vwf A Y k, .int (nI (aw A k)), .int 0, .int (ch k)])) : CS K g' x A Y ch (pR p (k + 1)) N := by
  obtain ⟨eo, eB, ec, ep, eB0, ep0⟩ := setR_fu A (aB A) p k
  obtain ⟨h1, ⟨n1, cf1, tf1, b1, q1⟩, ⟨n2, cf2, tf2, b2, q2⟩, h4, h5⟩ := hC.2.2.1 k hk
  obtain ⟨tf0, ht0, _⟩ := hC.2.1
  have hFam : Fam g g' A Y k := fun q e hq z1 _ _ _ _ _ _ _ _ => (e3 q z1).trans hq
  refine hC.put hk hFam ⟨tf0, (e3 _ (ne_ob ht0 h1 aI_ob)).trans ht0, trivial⟩ ⟨rfl, rfl, rfl⟩ ?_ hC.2.2.2 (fun j h => ⟨rfl, rfl, rfl, rfl, rfl, rfl⟩) (fun j _ => ⟨rfl, rfl, rfl⟩) (fun j h => ⟨rfl, rfl, rfl, rfl, rfl, rfl, rfl, rfl, rfl⟩) (fun j h => ⟨rfl, (eo j h).2.2, rfl⟩)
  unfold RI
  rw [ep]
  refine ⟨s3, ⟨n1, cf1, tf1, ⟨(e3 _ (ne_ob b1.1 h1 (ob_ci (by decide)))).trans b1.1, (e3 _ (ne_ob b1.2.1 h1 aI_ob)).trans b1.2.1, (e3 _ (ne_ob b1.2.2 h1 aI_ob)).trans b1.2.2⟩, q1⟩, ⟨n2, cf2, tf2, ⟨(e3 _ (ne_ob b2.1 h1 (ob_ci (by decide)))).trans b2.1, (e3 _ (ne_ob b2.2.1 h1 aI_ob)).trans b2.2.1, (e3 _ (ne_ob b2.2.2 h1 aI_ob)).trans b2.2.2⟩, fun q => absurd q (Nat.lt_irrefl 0)⟩, fun k2 => ⟨hFam.vw hC hk hk k2, ?_⟩, h5⟩
  obtain ⟨rf, c1, c2⟩ := (h4 k2).2
  exact ⟨rf, (e3 _ (ne_ob c1 h1 aI_ob)).trans c1, c2⟩
theorem CS.pz {K : Cst} {g : Wd} {x : Nat} {A : Ab} {Y : Lt} {ch : Nat → Int32} {p p' : Nat → Nat} {N : Nat → Bg} (h : CS K g x A Y ch p N) (e : ∀ j, j < 8 → p j = p' j) : CS K g x A Y ch p' N :=
  ⟨h.1, h.2.1, fun j hj => (h.2.2.1 j hj).cg rfl ⟨rfl, rfl, rfl, rfl, rfl, rfl⟩ ⟨rfl, rfl, rfl⟩ ⟨rfl, rfl, rfl, rfl, rfl, rfl, rfl, rfl, rfl⟩ ⟨rfl, (e j hj).symm, rfl⟩, h.2.2.2⟩
set_option maxRecDepth 20000 in
set_option maxHeartbeats 600000 in
/-- takeOver(true) -/
theorem c_X10_takeOver_t (l : Launch) (K : Cst) (g : Wd) (x : Nat) (A : Ab) (Y : Lt) (ch : Nat → Int32) (p : Nat → Nat) (N : Nat → Bg) (hC : CS K g x A Y ch p N) (hp : ∀ i, i < 8 → p i ≤ 40) : Ct l K yX10_takeOver cX10_takeOver 6 none 6 [.ref x, .int 1] g (fun v g' => v = none ∧ ∃ Y1 ch1 N1, CS K g' x (setR A (Mf A p N) p 8) Y1 ch1 (fun _ => 0) N1 ∧ yR Y1 = yR Y) (fun _ _ => False) 0 0 := by
  refine ct_of (by decide) (Nat.le_of_ble_eq_true rfl) ?_
  intro X hl hK hX hE hn hL hR hm
  subst hl; subst hK
  show J X 0 0 g 0 [(0, .ref x), (1, .int 1)] []
  obtain ⟨f0, hra0, _⟩ := hC.1.2
  have loop : ∀ (m k : Nat) (g : Wd), k + m = 8 → (∃ Y1 ch1, CS (xK X) g x (setR A (Mf A p N) p k) Y1 ch1 (pR p k) N ∧ yR Y1 = yR Y ∧ yra Y1 = yra Y) → J X 0 0 g 11 [(4, .int (nI k)), (3, .int (nI 8)), (2, .ref (yra Y)), (1, .int 1), (0, .ref x)] [] := by
    intro m
    induction m with
    | zero =>
      intro k g hk8 hinv
      obtain ⟨Y1, ch1, hC1, eR1, era⟩ := hinv
      obtain ⟨f9, hra, hf9⟩ := hC1.1.2
      rw [era] at hra
      have e8 : k = 8 := by omega
      rw [e8] at hC1
      have he := hC1.pz (p' := fun _ => 0) (fun j hj => if_pos hj)
      refine j_iload hX dX10_takeOver_11 0 rfl ?_
      refine j_iload_n hX dX10_takeOver_13 1 rfl ?_
      refine j_icmp_ge hX 35 dX10_takeOver_14 (by decide) (fun _ => ?_) (fun c_14 => absurd (nI_le (a := 8) (b := k) (by omega) (by omega)) c_14)
      refine j_iload_n hX dX10_takeOver_35 3 rfl ?_
      refine j_if_ne hX 49 dX10_takeOver_36 (by decide) (fun _ => ?_) (fun c_36 => absurd c_36 (by decide))
      exact j_vret hX hE dX10_takeOver_49 (⟨rfl, Y1, ch1, N, he, eR1⟩) (by decide) (by decide)
    | succ m ih =>
      intro k g hk8 hinv
      have hk : k < 8 := by omega
      obtain ⟨Y1, ch1, hC1, eR1, era⟩ := hinv
      obtain ⟨f9, hra, hf9⟩ := hC1.1.2
      rw [era] at hra
      refine j_iload hX dX10_takeOver_11 0 rfl ?_
      refine j_iload_n hX dX10_takeOver_13 1 rfl ?_
      refine j_icmp_ge hX 35 dX10_takeOver_14 (by decide) (fun c_14 => absurd c_14 (nI_ge (a := k) (b := 8) (by omega) (by decide))) (fun _ => ?_)
      refine j_aload_n hX dX10_takeOver_17 2 rfl ?_
      refine j_iload hX dX10_takeOver_18 0 rfl ?_
      refine j_aaldN hX hra (k) (rfl) (hk) (by decide) (hf9 k hk) dX10_takeOver_20 ?_
      have rk : g (yR Y1 k) = some (ob 6 [.ref (ynb Y1 k), .ref (yxb Y1 k), vwf A Y1 k, .int (nI (aw A k)), .int (nI (p k)), .int (ch1 k)]) := by
        have h9 := (hC1.2.2.1 k hk).1
        rw [show pR p k k = p k from if_neg (Nat.lt_irrefl k)] at h9
        exact h9
      have st : Ct (xl X) (xK X) yX6_settle cX6_settle 3 none 0 [.ref (yR Y1 k), .int 1] g (fun v9 g' => v9 = none ∧ up g (yR Y1 k) (ob 6 [.ref (if 0 < p k then yxb Y1 k else ynb Y1 k), .ref (if 0 < p k then ynb Y1 k else yxb Y1 k), vwf A Y1 k, .int (nI (aw A k)), .int 0, .int (nI (p k))]) = g') (fun _ _ => False) 0 0 := by
        by_cases hp9 : 0 < p k
        · rw [if_pos hp9, if_pos hp9]; exact c_X6_settle_tp (xl X) (xK X) g (yR Y1 k) (ynb Y1 k) (yxb Y1 k) (nI (aw A k)) (ch1 k) (vwf A Y1 k) (p k) (by have := hp k hk; omega) hp9 rk
        · rw [if_neg hp9, if_neg hp9]; exact c_X6_settle_t0 (xl X) (xK X) g (yR Y1 k) (ynb Y1 k) (yxb Y1 k) (nI (aw A k)) (ch1 k) (vwf A Y1 k) (p k) (by have := hp k hk; omega) (by omega) rk
      refine j_astore (lv' := [(5, .ref (yR Y1 k)), (4, .int (nI k)), (3, .int (nI 8)), (2, .ref (yra Y)), (1, .int 1), (0, .ref x)]) hX dX10_takeOver_21 (by rw [hn]; decide) rfl ?_
      refine j_aload hX dX10_takeOver_23 0 rfl ?_
      refine j_iload_n hX dX10_takeOver_25 4 rfl ?_
      refine j_callV (As := [.int 1]) (rest := []) hX (st) rk rfl lk_X10_233 wI_X6_settle wV_X6_X6_settle wN_X6 wC_X6_settle hd_X6_settle rfl (by rw [hL]; decide) (by decide) rfl (Nat.le_of_ble_eq_true rfl) dX10_takeOver_26 (by rw [hR]; decide) (by rw [hR]; decide) jx_no ?_
      rintro _ g3 ⟨rfl, eg3⟩
      obtain ⟨Y2, hC2, eR2, era2⟩ := hC1.settle hk (fun q hq => by rw [← eg3]; exact up_n hq) ((congrFun eg3 (yR Y1 k)).symm.trans (up_s _ _ _))
      show J X 0 0 g3 29 [(5, .ref (yR Y1 k)), (4, .int (nI k)), (3, .int (nI 8)), (2, .ref (yra Y)), (1, .int 1), (0, .ref x)] []
      refine j_iinc (v := nI (k + 1)) (lv' := [(4, .int (nI (k + 1))), (5, .ref (yR Y1 k)), (3, .int (nI 8)), (2, .ref (yra Y)), (1, .int 1), (0, .ref x)]) hX dX10_takeOver_29 1 rfl (nI_1 k) (by rw [hn]; decide) rfl ?_
      refine j_goto hX 11 dX10_takeOver_32 (by decide) ?_
      refine j_sub [0, 2, 3, 4, 5] rfl ?_
      exact ih (k + 1) g3 (by omega) (⟨Y2, _, hC2, eR2.trans eR1, era2.trans era⟩)
  refine j_aload_n hX dX10_takeOver_0 0 rfl ?_
  refine j_get (v := .ref (yra Y)) hX hC.1.1 rfl wf_X10 0 (by decide) lk_X10_11 (fun _ h => h) rfl dX10_takeOver_1 ?_
  refine j_astore_n (lv' := [(2, .ref (yra Y)), (0, .ref x), (1, .int 1)]) hX dX10_takeOver_4 (by rw [hn]; decide) rfl ?_
  refine j_aload_n hX dX10_takeOver_5 0 rfl ?_
  refine j_alenQ hX hra0 dX10_takeOver_6 ?_
  refine j_istore_n (lv' := [(3, .int (nI 8)), (2, .ref (yra Y)), (0, .ref x), (1, .int 1)]) hX dX10_takeOver_7 (by rw [hn]; decide) rfl ?_
  refine j_iconst (v := nI 0) hX dX10_takeOver_8 (by decide) ?_
  refine j_istore (lv' := [(4, .int (nI 0)), (3, .int (nI 8)), (2, .ref (yra Y)), (0, .ref x), (1, .int 1)]) hX dX10_takeOver_9 (by rw [hn]; decide) rfl ?_
  refine j_sub (lv' := [(4, .int (nI 0)), (3, .int (nI 8)), (2, .ref (yra Y)), (1, .int 1), (0, .ref x)]) [0, 1, 2, 4, 3] rfl ?_
  exact loop 8 0 g (by omega) ⟨Y, ch, by rw [setR_0, pR_0]; exact hC, rfl, rfl⟩

set_option maxRecDepth 20000 in
set_option maxHeartbeats 600000 in
/-- takeOver(false) -/
theorem c_X10_takeOver_f (l : Launch) (K : Cst) (g : Wd) (x : Nat) (A : Ab) (Y : Lt) (ch : Nat → Int32) (p : Nat → Nat) (N : Nat → Bg) (hC : CS K g x A Y ch p N) (hp : ∀ i, i < 8 → p i ≤ 40) (hlt : l.stackTraces = false) : Ct l K yX10_takeOver cX10_takeOver 6 none 6 [.ref x, .int 0] g (fun _ _ => False) (fun E g' => E = exn 4 ∧ CSx K g' x A) 1 6 := by
  refine ct_of (by decide) (Nat.le_of_ble_eq_true rfl) ?_
  intro X hl hK hX hE hn hL hR hm
  subst hl; subst hK
  show J X 0 0 g 0 [(0, .ref x), (1, .int 0)] []
  obtain ⟨f0, hra0, _⟩ := hC.1.2
  have loop : ∀ (m k : Nat) (g : Wd), k + m = 8 → CS (xK X) g x A Y ch (pR p k) N → J X 0 0 g 11 [(4, .int (nI k)), (3, .int (nI 8)), (2, .ref (yra Y)), (1, .int 0), (0, .ref x)] [] := by
    intro m
    induction m with
    | zero =>
      intro k g hk8 hinv
      have hC1 := hinv
      obtain ⟨f9, hra, hf9⟩ := hC1.1.2
      have e8 : k = 8 := by omega
      rw [e8] at hC1
      have he := hC1.pz (p' := fun _ => 0) (fun j hj => if_pos hj)
      refine j_iload hX dX10_takeOver_11 0 rfl ?_
      refine j_iload_n hX dX10_takeOver_13 1 rfl ?_
      refine j_icmp_ge hX 35 dX10_takeOver_14 (by decide) (fun _ => ?_) (fun c_14 => absurd (nI_le (a := 8) (b := k) (by omega) (by omega)) c_14)
      refine j_iload_n hX dX10_takeOver_35 3 rfl ?_
      refine j_if_ne hX 49 dX10_takeOver_36 (by decide) (fun c_36 => absurd c_36 (fun q => q rfl)) (fun _ => ?_)
      exact j_UOE hX hE hlt sk_X10_236 (by rw [hL]; decide) (Nat.le_of_ble_eq_true rfl) dX10_takeOver_39 dX10_takeOver_42 dX10_takeOver_43 dX10_takeOver_45 dX10_takeOver_48 (⟨rfl, Y, ch, N, he⟩) (by decide) (by decide) (by rw [hR]; decide) (by rw [hR]; decide)
    | succ m ih =>
      intro k g hk8 hinv
      have hk : k < 8 := by omega
      have hC1 := hinv
      obtain ⟨f9, hra, hf9⟩ := hC1.1.2
      refine j_iload hX dX10_takeOver_11 0 rfl ?_
      refine j_iload_n hX dX10_takeOver_13 1 rfl ?_
      refine j_icmp_ge hX 35 dX10_takeOver_14 (by decide) (fun c_14 => absurd c_14 (nI_ge (a := k) (b := 8) (by omega) (by decide))) (fun _ => ?_)
      refine j_aload_n hX dX10_takeOver_17 2 rfl ?_
      refine j_iload hX dX10_takeOver_18 0 rfl ?_
      refine j_aaldN hX hra (k) (rfl) (hk) (by decide) (hf9 k hk) dX10_takeOver_20 ?_
      have rk : g (yR Y k) = some (ob 6 [.ref (ynb Y k), .ref (yxb Y k), vwf A Y k, .int (nI (aw A k)), .int (nI (p k)), .int (ch k)]) := by
        have h9 := (hC1.2.2.1 k hk).1
        rw [show pR p k k = p k from if_neg (Nat.lt_irrefl k)] at h9
        exact h9
      refine j_astore (lv' := [(5, .ref (yR Y k)), (4, .int (nI k)), (3, .int (nI 8)), (2, .ref (yra Y)), (1, .int 0), (0, .ref x)]) hX dX10_takeOver_21 (by rw [hn]; decide) rfl ?_
      refine j_aload hX dX10_takeOver_23 0 rfl ?_
      refine j_iload_n hX dX10_takeOver_25 4 rfl ?_
      refine j_callV (As := [.int 0]) (rest := []) hX (c_X6_settle_f (xl X) (xK X) g (yR Y k) (ynb Y k) (yxb Y k) (nI (aw A k)) (ch k) (vwf A Y k) (p k) (by have := hp k hk; omega) rk) rk rfl lk_X10_233 wI_X6_settle wV_X6_X6_settle wN_X6 wC_X6_settle hd_X6_settle rfl (by rw [hL]; decide) (by decide) rfl (Nat.le_of_ble_eq_true rfl) dX10_takeOver_26 (by rw [hR]; decide) (by rw [hR]; decide) jx_no ?_
      rintro _ g3 ⟨rfl, eg3⟩
      have hC2 := hC1.settleF hk (fun q hq => by rw [← eg3]; exact up_n hq) ((congrFun eg3 (yR Y k)).symm.trans (up_s _ _ _))
      show J X 0 0 g3 29 [(5, .ref (yR Y k)), (4, .int (nI k)), (3, .int (nI 8)), (2, .ref (yra Y)), (1, .int 0), (0, .ref x)] []
      refine j_iinc (v := nI (k + 1)) (lv' := [(4, .int (nI (k + 1))), (5, .ref (yR Y k)), (3, .int (nI 8)), (2, .ref (yra Y)), (1, .int 0), (0, .ref x)]) hX dX10_takeOver_29 1 rfl (nI_1 k) (by rw [hn]; decide) rfl ?_
      refine j_goto hX 11 dX10_takeOver_32 (by decide) ?_
      refine j_sub [0, 2, 3, 4, 5] rfl ?_
      exact ih (k + 1) g3 (by omega) (hC2)
  refine j_aload_n hX dX10_takeOver_0 0 rfl ?_
  refine j_get (v := .ref (yra Y)) hX hC.1.1 rfl wf_X10 0 (by decide) lk_X10_11 (fun _ h => h) rfl dX10_takeOver_1 ?_
  refine j_astore_n (lv' := [(2, .ref (yra Y)), (0, .ref x), (1, .int 0)]) hX dX10_takeOver_4 (by rw [hn]; decide) rfl ?_
  refine j_aload_n hX dX10_takeOver_5 0 rfl ?_
  refine j_alenQ hX hra0 dX10_takeOver_6 ?_
  refine j_istore_n (lv' := [(3, .int (nI 8)), (2, .ref (yra Y)), (0, .ref x), (1, .int 0)]) hX dX10_takeOver_7 (by rw [hn]; decide) rfl ?_
  refine j_iconst (v := nI 0) hX dX10_takeOver_8 (by decide) ?_
  refine j_istore (lv' := [(4, .int (nI 0)), (3, .int (nI 8)), (2, .ref (yra Y)), (0, .ref x), (1, .int 0)]) hX dX10_takeOver_9 (by rw [hn]; decide) rfl ?_
  refine j_sub (lv' := [(4, .int (nI 0)), (3, .int (nI 8)), (2, .ref (yra Y)), (1, .int 0), (0, .ref x)]) [0, 1, 2, 4, 3] rfl ?_
  exact loop 8 0 g (by omega) hC

