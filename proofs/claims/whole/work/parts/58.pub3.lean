/-- isOf, at two relations of the state -/
theorem c_isOf (l : Launch) (K : Cst) (g : Wd) (x : Nat) (A : Ab) (Y : Lt) (ch : Nat → Int32) (p : Nat → Nat) (N : Nat → Bg) (hC : CS K g x A Y ch p N) (hI : Inv A) (k i : Nat) (hk : k < 8) (hi : i < 8) : Ct l K yX6_isOf cX6_isOf 2 (some .boolean) 0 [.ref (yR Y k), .ref (yR Y i)] g (fun v g' => v = some (.int (b01 (decide (2 ≤ ak A k ∧ (al A k = i ∨ ar A k = i))))) ∧ g = g') (fun _ _ => False) 0 0 := by
  have h1 := (hC.2.2.1 k hk).1
  unfold vwf at h1
  by_cases k2 : 2 ≤ ak A k
  · rw [if_pos k2] at h1
    have s := hI.src hk k2
    have e : b01 (decide (2 ≤ ak A k ∧ (al A k = i ∨ ar A k = i))) = b01 (decide (yR Y (al A k) = yR Y i) || decide (yR Y (ar A k) = yR Y i)) := by
      congr 1
      rw [Bool.eq_iff_iff]
      simp only [Bool.or_eq_true, decide_eq_true_eq]
      exact ⟨fun q => q.2.imp (congrArg _) (congrArg _), fun q => ⟨k2, q.imp (hC.2.2.2.1 _ s.1.1 _ hi) (hC.2.2.2.1 _ s.1.2 _ hi)⟩⟩
    rw [e]
    exact c_X6_isOf l K g _ _ _ _ _ _ _ _ _ _ _ _ _ _ _ (yR Y i) h1 ((hC.2.2.1 k hk).2.2.2.1 k2).1
  · rw [if_neg k2] at h1
    rw [show decide (2 ≤ ak A k ∧ (al A k = i ∨ ar A k = i)) = false from decide_eq_false (fun q => k2 q.1)]
    exact c_X6_isOf_n l K g _ _ _ _ _ _ (yR Y i) h1
set_option maxRecDepth 20000 in
set_option maxHeartbeats 600000 in
/-- drop -/
theorem c_X10_drop (l : Launch) (K : Cst) (g : Wd) (hlt : l.stackTraces = false) (x : Nat) (A : Ab) (Y : Lt) (ch : Nat → Int32) (N : Nat → Bg) (hC : CS K g x A Y ch (fun _ => 0) N) (hI : Inv A) (r : Int32) : Ct l K yX10_drop cX10_drop 7 none 9 [.ref x, .int r] g (PostG K x (dropO A r)) (XG K x (dropO A r)) 3 18 := by
  refine ct_of (by decide) (Nat.le_of_ble_eq_true rfl) ?_
  intro X hl hK hX hE hn hL hR hm
  subst hl; subst hK
  show J X 0 0 g 0 [(0, .ref x), (1, .int r)] []
  refine j_aload_n hX dX10_drop_0 0 rfl ?_
  refine j_iload_n hX dX10_drop_1 1 rfl ?_
  refine j_callV (As := [.int r]) (rest := []) hX (c_X10_relationAt (xl X) (xK X) g hlt x (yra Y) (yta Y) (yR Y) hC.1 (ynb Y) (yxb Y) (vwf A Y) (aw A) (fun i => nI ((fun _ => 0) i)) ch hC.rels (fun i hi => (hI i hi).1.1) r) hC.1.1 rfl lk_X10_48 wI_X10_relationAt wV_X10_X10_relationAt wN_X10 wC_X10_relationAt hd_X10_relationAt rfl (by rw [hL]; decide) (by decide) rfl (Nat.le_of_ble_eq_true rfl) dX10_drop_2 (by rw [hR]; decide) (by rw [hR]; decide) (fun E g9 h9 => jx_out hX hE ⟨1, A, by decide, h9.1, Or.inl ⟨rfl, h9.2.2, rfl⟩, by rw [← h9.2.1]; exact ⟨Y, ch, N, hC⟩⟩ (by decide) (by decide)) ?_
  rintro _ _ ⟨i, hi, ei, wi, rfl, rfl⟩
  have zi : vnat r = i := by rw [ei, vnat_nI (by omega)]
  have qi : isR A r := ⟨i, hi, ei, wi⟩
  have ri : g (yR Y i) = some (ob 6 [.ref (ynb Y i), .ref (yxb Y i), vwf A Y i, .int (nI (aw A i)), .int (nI 0), .int (ch i)]) := (hC.2.2.1 i hi).1
  obtain ⟨f9, hra, hf9⟩ := hC.1.2
  show J X 2 12 g 5 [(0, .ref x), (1, .int r)] [.ref (yR Y i)]
  refine j_astore_n (lv' := [(2, .ref (yR Y i)), (0, .ref x), (1, .int r)]) hX dX10_drop_5 (by rw [hn]; decide) rfl ?_
  refine j_aload_n hX dX10_drop_6 1 rfl ?_
  refine j_get (v := .ref (yra Y)) hX hC.1.1 rfl wf_X10 0 (by decide) lk_X10_11 (fun _ h => h) rfl dX10_drop_7 ?_
  refine j_astore_n (lv' := [(3, .ref (yra Y)), (2, .ref (yR Y i)), (0, .ref x), (1, .int r)]) hX dX10_drop_10 (by rw [hn]; decide) rfl ?_
  refine j_aload_n hX dX10_drop_11 0 rfl ?_
  refine j_alenQ hX hra dX10_drop_12 ?_
  refine j_istore (lv' := [(4, .int (nI 8)), (3, .ref (yra Y)), (2, .ref (yR Y i)), (0, .ref x), (1, .int r)]) hX dX10_drop_13 (by rw [hn]; decide) rfl ?_
  refine j_iconst (v := nI 0) hX dX10_drop_15 (by decide) ?_
  refine j_istore (lv' := [(5, .int (nI 0)), (4, .int (nI 8)), (3, .ref (yra Y)), (2, .ref (yR Y i)), (0, .ref x), (1, .int r)]) hX dX10_drop_16 (by rw [hn]; decide) rfl ?_
  have loop : ∀ (m k : Nat), k + m = 8 → (∀ q, q < k → ¬ (2 ≤ ak A q ∧ (al A q = i ∨ ar A q = i))) → J X 2 12 g 18 [(5, .int (nI k)), (4, .int (nI 8)), (3, .ref (yra Y)), (2, .ref (yR Y i)), (0, .ref x)] [] := by
    intro m
    induction m with
    | zero =>
      intro k hk8 hno
      refine j_iload hX dX10_drop_18 0 rfl ?_
      refine j_iload hX dX10_drop_20 1 rfl ?_
      refine j_icmp_ge hX 56 dX10_drop_22 (by decide) (fun _ => ?_) (fun c_22 => absurd (nI_le (a := 8) (b := k) (by omega) (by omega)) c_22)
      refine j_aload_n hX dX10_drop_56 3 rfl ?_
      refine j_callV (As := []) (rest := []) hX (c_X6_end (xl X) (xK X) g (yR Y i) (ynb Y i) (yxb Y i) (nI (aw A i)) (nI 0) (ch i) (vwf A Y i) ri) ri rfl lk_X10_119 wI_X6_end wV_X6_X6_end wN_X6 wC_X6_end hd_X6_end rfl (by rw [hL]; decide) (by decide) rfl (Nat.le_of_ble_eq_true rfl) dX10_drop_57 (by rw [hR]; decide) (by rw [hR]; decide) jx_no ?_
      rintro _ g3 ⟨rfl, eg3⟩
      have e3 : ∀ q, q ≠ yR Y i → g3 q = g q := fun q hq => by rw [← eg3]; exact up_n hq
      have s3 := (congrFun eg3 (yR Y i)).symm.trans (up_s _ _ _)
      obtain ⟨tf0, ht0, _⟩ := hC.2.1
      obtain ⟨n1, cf1, tf1, b1, _⟩ := (hC.2.2.1 i hi).2.1
      obtain ⟨n2, cf2, tf2, b2, _⟩ := (hC.2.2.1 i hi).2.2.1
      show J X 2 12 g3 60 [(5, .int (nI k)), (4, .int (nI 8)), (3, .ref (yra Y)), (2, .ref (yR Y i)), (0, .ref x)] []
      exact j_vret hX hE dX10_drop_60 (⟨rfl, dropA A i, (by unfold dropO OutG; rw [zi]; exact Or.inr (Or.inr (Or.inr (Or.inr ⟨rfl, qi, fun ⟨j, b1, b2, b3⟩ => hno j (by omega) ⟨b2, b3⟩, trivial, (), trivial, rfl⟩)))), Y, ch, N, hC.put hi (fun q e hq h1 h2 h3 h4 h5 h6 h7 h8 h9 => by rw [e3 q h1]; exact hq) ⟨tf0, (e3 _ (ne_ob ht0 ri aI_ob)).trans ht0, trivial⟩ ⟨rfl, rfl, rfl⟩ (by
      unfold RI vwf
      simp only [aw_drop, ak_drop, al_drop, ar_drop, an_drop, ao_drop, aB_drop, ac_drop, ad_drop, fu_s]
      exact ⟨s3, ⟨n1, cf1, tf1, ⟨(e3 _ (ne_ob b1.1 ri (ob_ci (by decide)))).trans b1.1, (e3 _ (ne_ob b1.2.1 ri aI_ob)).trans b1.2.1, (e3 _ (ne_ob b1.2.2 ri aI_ob)).trans b1.2.2⟩, fun q => absurd q (by decide)⟩, ⟨n2, cf2, tf2, ⟨(e3 _ (ne_ob b2.1 ri (ob_ci (by decide)))).trans b2.1, (e3 _ (ne_ob b2.2.1 ri aI_ob)).trans b2.2.1, (e3 _ (ne_ob b2.2.2 ri aI_ob)).trans b2.2.2⟩, fun q => absurd q (Nat.lt_irrefl 0)⟩, fun q => absurd q (by decide), fun q => absurd q (by decide)⟩) (hC.2.2.2.less (fun j hj => by
      by_cases hji : j = i
      · subst hji; simp only [aw_drop, ak_drop, al_drop, ar_drop, an_drop, ao_drop, aB_drop, ac_drop, ad_drop, fu_s] at hj; omega
      · simp only [aw_drop, ak_drop, al_drop, ar_drop, an_drop, ao_drop, aB_drop, ac_drop, ad_drop, fu_n hji])) (fun j _ => ⟨rfl, rfl, rfl, rfl, rfl, rfl⟩) (fun j _ => ⟨rfl, rfl, rfl⟩) (fun j h => ⟨fu_n h, fu_n h, rfl, rfl, rfl, rfl, fu_n h, rfl, fu_n h⟩) (fun j h => ⟨rfl, rfl, rfl⟩) (fun q e _ zn => ⟨(zn.2 i hi).1, fun k9 => absurd (show 2 ≤ fu (ak A) i 0 i from k9) (by rw [fu_s]; omega)⟩)⟩) (by decide) (by decide)
    | succ m ih =>
      intro k hk8 hno
      have hk : k < 8 := by omega
      refine j_iload hX dX10_drop_18 0 rfl ?_
      refine j_iload hX dX10_drop_20 1 rfl ?_
      refine j_icmp_ge hX 56 dX10_drop_22 (by decide) (fun c_22 => absurd c_22 (nI_ge (a := k) (b := 8) (by omega) (by decide))) (fun _ => ?_)
      refine j_aload_n hX dX10_drop_25 2 rfl ?_
      refine j_iload hX dX10_drop_26 0 rfl ?_
      refine j_aaldN hX hra (k) (rfl) (hk) (by decide) (hf9 k hk) dX10_drop_28 ?_
      have rk : g (yR Y k) = some (ob 6 [.ref (ynb Y k), .ref (yxb Y k), vwf A Y k, .int (nI (aw A k)), .int (nI 0), .int (ch k)]) := (hC.2.2.1 k hk).1
      refine j_astore (lv' := [(6, .ref (yR Y k)), (5, .int (nI k)), (4, .int (nI 8)), (3, .ref (yra Y)), (2, .ref (yR Y i)), (0, .ref x)]) hX dX10_drop_29 (by rw [hn]; decide) rfl ?_
      refine j_aload hX dX10_drop_31 0 rfl ?_
      refine j_aload_n hX dX10_drop_33 4 rfl ?_
      refine j_callV (As := [.ref (yR Y i)]) (rest := []) hX (c_isOf (xl X) (xK X) g x A Y ch (fun _ => 0) N hC hI k i hk hi) rk rfl lk_X10_110 wI_X6_isOf wV_X6_X6_isOf wN_X6 wC_X6_isOf hd_X6_isOf rfl (by rw [hL]; decide) (by decide) rfl (Nat.le_of_ble_eq_true rfl) dX10_drop_34 (by rw [hR]; decide) (by rw [hR]; decide) jx_no ?_
      rintro _ _ ⟨rfl, rfl⟩
      show J X 2 12 g 37 [(6, .ref (yR Y k)), (5, .int (nI k)), (4, .int (nI 8)), (3, .ref (yra Y)), (2, .ref (yR Y i)), (0, .ref x)] [.int (b01 (decide (2 ≤ ak A k ∧ (al A k = i ∨ ar A k = i))))]
      refine j_if_eq hX 50 dX10_drop_37 (by decide) (fun c_37 => ?_) (fun c_37 => ?_)
      · have c37 : ¬ _ := fun q => b01_f c_37 (decide_eq_true q)
        refine j_iinc (v := nI (k + 1)) (lv' := [(5, .int (nI (k + 1))), (6, .ref (yR Y k)), (4, .int (nI 8)), (3, .ref (yra Y)), (2, .ref (yR Y i)), (0, .ref x)]) hX dX10_drop_50 1 rfl (nI_1 k) (by rw [hn]; decide) rfl ?_
        refine j_goto hX 18 dX10_drop_53 (by decide) ?_
        refine j_sub [0, 2, 3, 4, 5] rfl ?_
        exact ih (k + 1) (by omega) (fun q hq => by rcases Nat.lt_or_ge q k with z | z; exact hno q z; rw [show q = k by omega]; exact c37)
      · have c37 := of_decide_eq_true (b01_t c_37)
        exact j_ISE hX hE hlt sk_X10_116 (by rw [hL]; decide) (Nat.le_of_ble_eq_true rfl) dX10_drop_40 dX10_drop_43 dX10_drop_44 dX10_drop_46 dX10_drop_49 (⟨2, A, by decide, rfl, Or.inr (Or.inl ⟨rfl, qi, ⟨k, hk, c37.1, by rw [zi]; exact c37.2⟩, rfl⟩), Y, ch, N, hC⟩) (by decide) (by decide) (by rw [hR]; decide) (by rw [hR]; decide)
  refine j_sub (lv' := [(5, .int (nI 0)), (4, .int (nI 8)), (3, .ref (yra Y)), (2, .ref (yR Y i)), (0, .ref x)]) [0, 1, 2, 3, 4] rfl ?_
  exact loop 8 0 (by omega) (fun q hq => absurd hq (by omega))

def cntI (A : Ab) (q n : Nat) : Nat := if q = 0 then 1 else if q = 1 then (if 2 ≤ ak A n then 0 else 1) else (aB A n).length
theorem cntN_s (A : Ab) (q n : Nat) : cntN A q (n + 1) = cntN A q n + (if 0 < aw A n then cntI A q n else 0) := rfl
set_option maxRecDepth 20000 in
set_option maxHeartbeats 600000 in
/-- countIn(relation, what) -/
theorem c_X10_countIn (l : Launch) (K : Cst) (g : Wd) (x : Nat) (A : Ab) (Y : Lt) (ch : Nat → Int32) (N : Nat → Bg) (hC : CS K g x A Y ch (fun _ => 0) N) (hI : Inv A) (k q : Nat) (hk : k < 8) (hq : q < 3) (wk : 0 < aw A k) : Ct l K yX10_countIn cX10_countIn 2 (some .int) 1 [.ref (yR Y k), .int (nI q)] g (fun v g' => v = some (.int (nI (cntI A q k))) ∧ g = g') (fun _ _ => False) 0 0 := by
  refine ct_of (by decide) (Nat.le_of_ble_eq_true rfl) ?_
  intro X hl hK hX hE hn hL hR hm
  subst hl; subst hK
  show J X 0 0 g 0 [(0, .ref (yR Y k)), (1, .int (nI q))] []
  obtain ⟨n1, cf1, tf1, b1, hb1⟩ := (hC.2.2.1 k hk).2.1
  obtain ⟨e1, _⟩ := hb1 wk
  subst e1
  have rk := (hC.2.2.1 k hk).1
  unfold vwf at rk
  rcases (show q = 0 ∨ q = 1 ∨ q = 2 by omega) with h | h | h
  · subst h
    show J X 0 0 g 0 [(0, .ref (yR Y k)), (1, .int (nI 0))] []
    refine j_iload_n hX dX10_countIn_0 1 rfl ?_
    refine j_look (off := 27) hX 28 dX10_countIn_1 (by decide) (by decide) (by decide) ?_
    refine j_iconst (v := nI 1) hX dX10_countIn_28 (by decide) ?_
    exact j_iret hX hE dX10_countIn_29 (⟨by simp only [cntI, if_true], rfl⟩) (by decide) (by decide)
  · subst h
    show J X 0 0 g 0 [(0, .ref (yR Y k)), (1, .int (nI 1))] []
    by_cases k2 : 2 ≤ ak A k
    · rw [if_pos k2] at rk
      refine j_iload_n hX dX10_countIn_0 1 rfl ?_
      refine j_look (off := 29) hX 30 dX10_countIn_1 (by decide) (by decide) (by decide) ?_
      refine j_aload_n hX dX10_countIn_30 0 rfl ?_
      refine j_getN (v := .ref (yV Y k)) hX rk rfl wf_X6 2 (by decide) nk_X10_190 (fun _ h => h) rfl dX10_countIn_31 ?_
      refine j_ifnonnull_r hX 41 dX10_countIn_34 (by decide) ?_
      refine j_iconst (v := nI 0) hX dX10_countIn_41 (by decide) ?_
      exact j_iret hX hE dX10_countIn_42 (⟨by simp [cntI, k2], rfl⟩) (by decide) (by decide)
    · rw [if_neg k2] at rk
      refine j_iload_n hX dX10_countIn_0 1 rfl ?_
      refine j_look (off := 29) hX 30 dX10_countIn_1 (by decide) (by decide) (by decide) ?_
      refine j_aload_n hX dX10_countIn_30 0 rfl ?_
      refine j_getN (v := .null) hX rk rfl wf_X6 2 (by decide) nk_X10_190 (fun _ h => h) rfl dX10_countIn_31 ?_
      refine j_ifnonnull_n hX dX10_countIn_34 ?_
      refine j_iconst (v := nI 1) hX dX10_countIn_37 (by decide) ?_
      refine j_goto hX 42 dX10_countIn_38 (by decide) ?_
      exact j_iret hX hE dX10_countIn_42 (⟨by simp [cntI, k2], rfl⟩) (by decide) (by decide)
  · subst h
    show J X 0 0 g 0 [(0, .ref (yR Y k)), (1, .int (nI 2))] []
    refine j_iload_n hX dX10_countIn_0 1 rfl ?_
    refine j_look (off := 42) hX 43 dX10_countIn_1 (by decide) (by decide) (by decide) ?_
    refine j_aload_n hX dX10_countIn_43 0 rfl ?_
    refine j_getN (v := .ref (ynb Y k)) hX rk rfl wf_X6 0 (by decide) nk_X10_35 (fun _ h => h) rfl dX10_countIn_44 ?_
    refine j_getN (v := .int (nI (aB A k).length)) hX b1.1 rfl wf_X0 2 (by decide) nk_X10_158 (fun _ h => h) rfl dX10_countIn_47 ?_
    exact j_iret hX hE dX10_countIn_50 (⟨by simp [cntI], rfl⟩) (by decide) (by decide)

set_option maxRecDepth 20000 in
set_option maxHeartbeats 600000 in
/-- count -/
theorem c_X10_count (l : Launch) (K : Cst) (g : Wd) (hlt : l.stackTraces = false) (x : Nat) (A : Ab) (Y : Lt) (ch : Nat → Int32) (N : Nat → Bg) (hC : CS K g x A Y ch (fun _ => 0) N) (hI : Inv A) (what : Int32) : Ct l K yX10_count cX10_count 7 (some .int) 7 [.ref x, .int what] g (PostR K x (∃ q, q < 3 ∧ what = nI q) (.int (nI (cntN A (vnat what) 8))) A) (XR K x 3 (∃ q, q < 3 ∧ what = nI q) A) 1 6 := by
  refine ct_of (by decide) (Nat.le_of_ble_eq_true rfl) ?_
  intro X hl hK hX hE hn hL hR hm
  subst hl; subst hK
  show J X 0 0 g 0 [(0, .ref x), (1, .int what)] []
  rcases i32_in what 3 (by decide) with h9c | ⟨q, hq, rfl⟩
  · refine j_iload_n hX dX10_count_0 1 rfl ?_
    refine j_if_lt hX 9 dX10_count_1 (by decide) (fun c_1 => ?_) (fun c_1 => ?_)
    · exact j_IAE hX hE hlt sk_X10_180 (by rw [hL]; decide) (Nat.le_of_ble_eq_true rfl) dX10_count_9 dX10_count_12 dX10_count_13 dX10_count_15 dX10_count_18 (⟨rfl, i32_out (by decide) h9c, Y, ch, N, hC⟩) (by decide) (by decide) (by rw [hR]; decide) (by rw [hR]; decide)
    · refine j_iload_n hX dX10_count_4 1 rfl ?_
      refine j_iconst (v := nI 2) hX dX10_count_5 (by decide) ?_
      refine j_icmp_le hX 19 dX10_count_6 (by decide) (fun c_6 => absurd c_6 (fun q => absurd (Int32.le_trans (h9c.resolve_left c_1) q) (nI_ge (a := 2) (b := 3) (by decide) (by decide)))) (fun _ => ?_)
      exact j_IAE hX hE hlt sk_X10_180 (by rw [hL]; decide) (Nat.le_of_ble_eq_true rfl) dX10_count_9 dX10_count_12 dX10_count_13 dX10_count_15 dX10_count_18 (⟨rfl, i32_out (by decide) h9c, Y, ch, N, hC⟩) (by decide) (by decide) (by rw [hR]; decide) (by rw [hR]; decide)
  · obtain ⟨f9, hra, hf9⟩ := hC.1.2
    have loop : ∀ (m k : Nat), k + m = 8 → J X 0 0 g 33 [(5, .int (nI k)), (4, .int (nI 8)), (3, .ref (yra Y)), (2, .int (nI (cntN A q k))), (1, .int (nI q)), (0, .ref x)] [] := by
      intro m
      induction m with
      | zero =>
        intro k hk8
        refine j_iload hX dX10_count_33 0 rfl ?_
        refine j_iload hX dX10_count_35 1 rfl ?_
        refine j_icmp_ge hX 69 dX10_count_37 (by decide) (fun _ => ?_) (fun c_37 => absurd (nI_le (a := 8) (b := k) (by omega) (by omega)) c_37)
        refine j_iload_n hX dX10_count_69 3 rfl ?_
        exact j_iret hX hE dX10_count_70 (⟨by rw [show k = 8 by omega, vnat_nI (by omega)], ⟨q, hq, rfl⟩, Y, ch, N, hC⟩) (by decide) (by decide)
      | succ m ih =>
        intro k hk8
        have hk : k < 8 := by omega
        refine j_iload hX dX10_count_33 0 rfl ?_
        refine j_iload hX dX10_count_35 1 rfl ?_
        refine j_icmp_ge hX 69 dX10_count_37 (by decide) (fun c_37 => absurd c_37 (nI_ge (a := k) (b := 8) (by omega) (by decide))) (fun _ => ?_)
        refine j_aload_n hX dX10_count_40 2 rfl ?_
        refine j_iload hX dX10_count_41 0 rfl ?_
        refine j_aaldN hX hra (k) (rfl) (hk) (by decide) (hf9 k hk) dX10_count_43 ?_
        have rk : g (yR Y k) = some (ob 6 [.ref (ynb Y k), .ref (yxb Y k), vwf A Y k, .int (nI (aw A k)), .int (nI 0), .int (ch k)]) := (hC.2.2.1 k hk).1
        refine j_astore (lv' := [(6, .ref (yR Y k)), (5, .int (nI k)), (4, .int (nI 8)), (3, .ref (yra Y)), (2, .int (nI (cntN A q k))), (1, .int (nI q)), (0, .ref x)]) hX dX10_count_44 (by rw [hn]; decide) rfl ?_
        refine j_aload hX dX10_count_46 0 rfl ?_
        refine j_callV (As := []) (rest := []) hX (c_X6_isThere (xl X) (xK X) g (yR Y k) (ynb Y k) (yxb Y k) (aw A k) (nI 0) (ch k) (vwf A Y k) (by have := (hI k hk).1.1; omega) rk) rk rfl lk_X10_182 wI_X6_isThere wV_X6_X6_isThere wN_X6 wC_X6_isThere hd_X6_isThere rfl (by rw [hL]; decide) (by decide) rfl (Nat.le_of_ble_eq_true rfl) dX10_count_48 (by rw [hR]; decide) (by rw [hR]; decide) jx_no ?_
        rintro _ _ ⟨rfl, rfl⟩
        show J X 0 0 g 51 [(6, .ref (yR Y k)), (5, .int (nI k)), (4, .int (nI 8)), (3, .ref (yra Y)), (2, .int (nI (cntN A q k))), (1, .int (nI q)), (0, .ref x)] [.int (b01 (decide (0 < aw A k)))]
        refine j_if_eq hX 63 dX10_count_51 (by decide) (fun c_51 => ?_) (fun c_51 => ?_)
        · have c51 : ¬ 0 < aw A k := fun q => b01_f c_51 (decide_eq_true q)
          refine j_iinc (v := nI (k + 1)) (lv' := [(5, .int (nI (k + 1))), (6, .ref (yR Y k)), (4, .int (nI 8)), (3, .ref (yra Y)), (2, .int (nI (cntN A q k))), (1, .int (nI q)), (0, .ref x)]) hX dX10_count_63 1 rfl (nI_1 k) (by rw [hn]; decide) rfl ?_
          refine j_goto hX 33 dX10_count_66 (by decide) ?_
          refine j_sub (lv' := [(5, .int (nI (k + 1))), (4, .int (nI 8)), (3, .ref (yra Y)), (2, .int (nI (cntN A q (k + 1)))), (1, .int (nI q)), (0, .ref x)]) [0, 2, 3, 4, 5, 6] (by rw [cntN_s, if_neg c51, Nat.add_zero]; rfl) ?_
          exact ih (k + 1) (by omega)
        · have c51 := of_decide_eq_true (b01_t c_51)
          refine j_iload_n hX dX10_count_54 4 rfl ?_
          refine j_aload hX dX10_count_55 0 rfl ?_
          refine j_iload_n hX dX10_count_57 5 rfl ?_
          refine j_callS (As := [.ref (yR Y k), .int (nI q)]) (rest := [.int (nI (cntN A q k))]) hX (c_X10_countIn (xl X) (xK X) g x A Y ch N hC hI k q hk hq c51) lk_X10_186 wS_X10_countIn wN_X10 wC_X10_countIn hd_X10_countIn rfl (by rw [hL]; decide) (by decide) rfl (Nat.le_of_ble_eq_true rfl) dX10_count_58 (by rw [hR]; decide) (by rw [hR]; decide) jx_no ?_
          rintro _ _ ⟨rfl, rfl⟩
          show J X 0 0 g 61 [(6, .ref (yR Y k)), (5, .int (nI k)), (4, .int (nI 8)), (3, .ref (yra Y)), (2, .int (nI (cntN A q k))), (1, .int (nI q)), (0, .ref x)] [.int (nI (cntI A q k)), .int (nI (cntN A q k))]
          refine j_iadd hX dX10_count_61 ?_
          refine j_eqi (y := nI (cntN A q k + cntI A q k)) (nI_add _ _) ?_
          refine j_istore_n (lv' := [(2, .int (nI (cntN A q k + cntI A q k))), (6, .ref (yR Y k)), (5, .int (nI k)), (4, .int (nI 8)), (3, .ref (yra Y)), (1, .int (nI q)), (0, .ref x)]) hX dX10_count_62 (by rw [hn]; decide) rfl ?_
          refine j_iinc (v := nI (k + 1)) (lv' := [(5, .int (nI (k + 1))), (2, .int (nI (cntN A q k + cntI A q k))), (6, .ref (yR Y k)), (4, .int (nI 8)), (3, .ref (yra Y)), (1, .int (nI q)), (0, .ref x)]) hX dX10_count_63 2 rfl (nI_1 k) (by rw [hn]; decide) rfl ?_
          refine j_goto hX 33 dX10_count_66 (by decide) ?_
          refine j_sub (lv' := [(5, .int (nI (k + 1))), (4, .int (nI 8)), (3, .ref (yra Y)), (2, .int (nI (cntN A q (k + 1)))), (1, .int (nI q)), (0, .ref x)]) [0, 3, 4, 1, 5, 6] (by rw [cntN_s, if_pos c51]; rfl) ?_
          exact ih (k + 1) (by omega)
    refine j_iload_n hX dX10_count_0 1 rfl ?_
    refine j_if_lt hX 9 dX10_count_1 (by decide) (fun c_1 => absurd c_1 (nI_pos (n := q) (by omega))) (fun _ => ?_)
    refine j_iload_n hX dX10_count_4 1 rfl ?_
    refine j_iconst (v := nI 2) hX dX10_count_5 (by decide) ?_
    refine j_icmp_le hX 19 dX10_count_6 (by decide) (fun _ => ?_) (fun c_6 => absurd (nI_le (a := q) (b := 2) (by omega) (by decide)) c_6)
    refine j_iconst (v := nI 0) hX dX10_count_19 (by decide) ?_
    refine j_istore_n (lv' := [(2, .int (nI 0)), (0, .ref x), (1, .int (nI q))]) hX dX10_count_20 (by rw [hn]; decide) rfl ?_
    refine j_aload_n hX dX10_count_21 1 rfl ?_
    refine j_get (v := .ref (yra Y)) hX hC.1.1 rfl wf_X10 0 (by decide) lk_X10_11 (fun _ h => h) rfl dX10_count_22 ?_
    refine j_astore_n (lv' := [(3, .ref (yra Y)), (2, .int (nI 0)), (0, .ref x), (1, .int (nI q))]) hX dX10_count_25 (by rw [hn]; decide) rfl ?_
    refine j_aload_n hX dX10_count_26 0 rfl ?_
    refine j_alenQ hX hra dX10_count_27 ?_
    refine j_istore (lv' := [(4, .int (nI 8)), (3, .ref (yra Y)), (2, .int (nI 0)), (0, .ref x), (1, .int (nI q))]) hX dX10_count_28 (by rw [hn]; decide) rfl ?_
    refine j_iconst (v := nI 0) hX dX10_count_30 (by decide) ?_
    refine j_istore (lv' := [(5, .int (nI 0)), (4, .int (nI 8)), (3, .ref (yra Y)), (2, .int (nI 0)), (0, .ref x), (1, .int (nI q))]) hX dX10_count_31 (by rw [hn]; decide) rfl ?_
    refine j_sub (lv' := [(5, .int (nI 0)), (4, .int (nI 8)), (3, .ref (yra Y)), (2, .int (nI (cntN A q 0))), (1, .int (nI q)), (0, .ref x)]) [0, 1, 2, 3, 5, 4] rfl ?_
    exact loop 8 0 (by omega)

