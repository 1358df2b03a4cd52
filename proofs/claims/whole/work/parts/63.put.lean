/-- the rows of a relation that aren't taken over yet change -/
theorem CS.nextB {K : Cst} {g g' : Wd} {x : Nat} {A : Ab} {Y : Lt} {ch : Nat → Int32} {p : Nat → Nat} {N : Nat → Bg} (hC : CS K g x A Y ch p N) {i : Nat} (hi : i < 8) (hp : p i = 0) (hF : Fr g g' [yxb Y i, yxc Y i, yxo Y i]) (hb : ∃ n cf tf, isBag K g' (yxb Y i) (yxc Y i) (yxo Y i) n cf tf) : CS K g' x A Y ch p N := by
  obtain ⟨h1, ⟨n1, cf1, tf1, b1, q1⟩, ⟨n2, cf2, tf2, b2, q2⟩, h4, h5⟩ := hC.2.2.1 i hi
  obtain ⟨tf0, ht0, _⟩ := hC.2.1
  obtain ⟨dR, ⟨d1, d2, d3⟩, d4⟩ := hC.2.2.2
  have hFam : Fam g g' A Y i := fun q e hq _ _ _ _ z5 z6 z7 _ _ => (hF q (nm3 z5 z6 z7)).trans hq
  have n_of : ∀ q, q ≠ yxb Y i → q ≠ yxc Y i → q ≠ yxo Y i → g' q = g q := fun q z1 z2 z3 => hF q (nm3 z1 z2 z3)
  refine hC.put hi hFam ⟨tf0, (n_of _ (ne_ob ht0 b2.1 aI_ob) (ne_ob ht0 b2.2.1 (aI_ne (by decide))) (ne_ob ht0 b2.2.2 (aI_ne (by decide)))).trans ht0, trivial⟩ ⟨rfl, rfl, rfl⟩ ?_ hC.2.2.2 (fun j _ => ⟨rfl, rfl, rfl, rfl, rfl, rfl⟩) (fun j _ => ⟨rfl, rfl, rfl⟩) (fun j _ => ⟨rfl, rfl, rfl, rfl, rfl, rfl, rfl, rfl, rfl⟩) (fun j _ => ⟨rfl, rfl, rfl⟩)
  obtain ⟨n9, cf9, tf9, hb⟩ := hb
  refine ⟨(n_of _ (ne_ob h1 b2.1 (ob_ci (by decide))) (ne_ob h1 b2.2.1 ob_aI) (ne_ob h1 b2.2.2 ob_aI)).trans h1, ⟨n1, cf1, tf1, ⟨(n_of _ (d1 i hi i hi).2.2 (ne_ob b1.1 b2.2.1 ob_aI) (ne_ob b1.1 b2.2.2 ob_aI)).trans b1.1, (n_of _ (ne_ob b1.2.1 b2.1 aI_ob) (d2 i hi i hi).2.2 (ne_ob b1.2.1 b2.2.2 (aI_ne (by decide)))).trans b1.2.1, (n_of _ (ne_ob b1.2.2 b2.1 aI_ob) (ne_ob b1.2.2 b2.2.1 (aI_ne (by decide))) (d3 i hi i hi).2.2).trans b1.2.2⟩, q1⟩, ⟨n9, cf9, tf9, hb, fun q => absurd q (by omega)⟩, fun k => ⟨hFam.vw hC hi hi k, ?_⟩, h5⟩
  obtain ⟨rf, c1, c2⟩ := (h4 k).2
  exact ⟨rf, (n_of _ (ne_ob c1 b2.1 aI_ob) (ne_ob c1 b2.2.1 (aI_ne (by decide))) (ne_ob c1 b2.2.2 (aI_ne (by decide)))).trans c1, c2⟩
theorem vwf_or (A : Ab) (Y : Lt) (j : Nat) : vwf A Y j = .null ∨ ∃ v, vwf A Y j = .ref v := by
  unfold vwf; split
  · exact Or.inr ⟨_, rfl⟩
  · exact Or.inl rfl
theorem vwf_n {A : Ab} {Y : Lt} {j : Nat} (h : vwf A Y j = .null) : ak A j < 2 := by
  unfold vwf at h; split at h
  · cases h
  · omega
theorem vwf_r {A : Ab} {Y : Lt} {j v : Nat} (h : vwf A Y j = .ref v) : 2 ≤ ak A j := by
  unfold vwf at h; split at h
  · assumption
  · cases h
def okP (had : Nat) (n : Int32) : Prop := ¬ n = 0 ∧ ¬ n < -1000000 ∧ n ≤ 1000000 ∧ 0 ≤ nI had + n
def rowP (A : Ab) (r a b c d : Int32) : Row := truncR (aw A (vnat r)) (a, b, c, d)
def putO (A : Ab) (r a b c d n : Int32) : Nat → Ab → Prop := OutG (isR A r) (2 ≤ ak A (vnat r)) (okP (tms (aB A (vnat r)) (rowP A r a b c d)) n) (fun N => ∃ B', addB (rowP A r a b c d) n.toInt (aB A (vnat r)) = some B' ∧ Upd A (vnat r) B' N) A (fun N => putA A N)
def filF (w : Nat) (a st b ot : Int32) (k : Nat) : Option (Row × Int) := some (truncR w (a + nI k * st, b + nI k * ot, 0, 0), 1)
def fillO (A : Ab) (r a st b ot n : Int32) : Nat → Ab → Prop := OutG (isR A r) (2 ≤ ak A (vnat r)) (∃ m, 1 ≤ m ∧ m ≤ 40 ∧ n = nI m) (fun N => ∃ B', fldB (filF (aw A (vnat r)) a st b ot) (List.range (vnat n)) (aB A (vnat r)) = some B' ∧ Upd A (vnat r) B' N) A (fun N => putA A N)
def PostV (K : Cst) (x : Nat) (O : Nat → Ab → Prop) (va : Ab → Value) : Option Value → Wd → Prop := fun v g' => ∃ A', O 0 A' ∧ v = some (va A') ∧ CSx K g' x A'
set_option maxRecDepth 20000 in
set_option maxHeartbeats 600000 in
/-- put(r, a, b, c, d, n) -/
theorem c_X10_put (l : Launch) (K : Cst) (g : Wd) (hlt : l.stackTraces = false) (x : Nat) (A : Ab) (Y : Lt) (ch : Nat → Int32) (N : Nat → Bg) (hC : CS K g x A Y ch (fun _ => 0) N) (hI : Inv A) (r a b c d n : Int32) : Ct l K yX10_put cX10_put 9 (some .int) 9 [.ref x, .int r, .int a, .int b, .int c, .int d, .int n] g (PostV K x (putO A r a b c d n) (fun _ => .int (nI (tms (aB A (vnat r)) (rowP A r a b c d)) + n))) (XG K x (putO A r a b c d n)) 4 24 := by
  refine ct_of (by decide) (Nat.le_of_ble_eq_true rfl) ?_
  intro X hl hK hX hE hn hL hR hm
  subst hl; subst hK
  show J X 0 0 g 0 [(0, .ref x), (1, .int r), (2, .int a), (3, .int b), (4, .int c), (5, .int d), (6, .int n)] []
  refine j_aload_n hX dX10_put_0 0 rfl ?_
  refine j_iload_n hX dX10_put_1 1 rfl ?_
  refine j_callV (As := [.int r]) (rest := []) hX (c_X10_tableAt (xl X) (xK X) g hlt x (yra Y) (yta Y) (yR Y) hC.1 (ynb Y) (yxb Y) (vwf A Y) (aw A) (fun i => nI ((fun _ => 0) i)) ch hC.rels (fun i hi => (hI i hi).1.1) (fun i _ => vwf_or A Y i) r) hC.1.1 rfl lk_X10_122 wI_X10_tableAt wV_X10_X10_tableAt wN_X10 wC_X10_tableAt hd_X10_tableAt rfl (by rw [hL]; decide) (by decide) rfl (Nat.le_of_ble_eq_true rfl) dX10_put_2 (by rw [hR]; decide) (by rw [hR]; decide) (fun E g9 h9 => h9.elim (fun h9 => jx_out hX hE ⟨1, A, by decide, h9.1, Or.inl ⟨rfl, h9.2.2, rfl⟩, by rw [← h9.2.1]; exact ⟨Y, ch, N, hC⟩⟩ (by decide) (by decide)) (fun h9 => jx_out hX hE ⟨2, A, by decide, h9.1, Or.inr (Or.inl ⟨rfl, (by obtain ⟨i, hi, ei, wi, _⟩ := h9.2.2; exact ⟨i, hi, ei, wi⟩), (by obtain ⟨i, hi, ei, wi, v9, e9⟩ := h9.2.2; rw [ei, vnat_nI (by omega)]; exact vwf_r e9), rfl⟩), by rw [← h9.2.1]; exact ⟨Y, ch, N, hC⟩⟩ (by decide) (by decide))) ?_
  rintro _ _ ⟨i, hi, ei, wi, vi, rfl, rfl⟩
  have zi : vnat r = i := by rw [ei, vnat_nI (by omega)]
  have qi : isR A r := ⟨i, hi, ei, wi⟩
  have k2 := vwf_n vi
  have ki : ak A i = 1 := by have := (hI i hi).1.2.2.1; omega
  have ri : g (yR Y i) = some (ob 6 [.ref (ynb Y i), .ref (yxb Y i), vwf A Y i, .int (nI (aw A i)), .int (nI 0), .int (ch i)]) := (hC.2.2.1 i hi).1
  obtain ⟨tf0, ht0, _⟩ := hC.2.1
  have gi := (hI i hi).2.2.1.1
  show J X 3 18 g 5 [(0, .ref x), (1, .int r), (2, .int a), (3, .int b), (4, .int c), (5, .int d), (6, .int n)] [.ref (yR Y i)]
  refine j_astore (lv' := [(7, .ref (yR Y i)), (0, .ref x), (1, .int r), (2, .int a), (3, .int b), (4, .int c), (5, .int d), (6, .int n)]) hX dX10_put_5 (by rw [hn]; decide) rfl ?_
  refine j_iload hX dX10_put_7 7 rfl ?_
  refine j_if_eq hX 26 dX10_put_9 (by decide) (fun c_9 => ?_) (fun c_9 => ?_)
  · exact j_IAE hX hE hlt sk_X10_127 (by rw [hL]; decide) (Nat.le_of_ble_eq_true rfl) dX10_put_26 dX10_put_29 dX10_put_30 dX10_put_32 dX10_put_35 (⟨3, A, by decide, rfl, Or.inr (Or.inr (Or.inl ⟨rfl, qi, by rw [zi]; omega, fun q => q.1 c_9, rfl⟩)), Y, ch, N, hC⟩) (by decide) (by decide) (by rw [hR]; decide) (by rw [hR]; decide)
  · refine j_iload hX dX10_put_12 7 rfl ?_
    refine j_ldc (v := (-1000000)) hX lk_X10_125 dX10_put_14 ?_
    refine j_icmp_lt hX 26 dX10_put_16 (by decide) (fun c_16 => ?_) (fun c_16 => ?_)
    · exact j_IAE hX hE hlt sk_X10_127 (by rw [hL]; decide) (Nat.le_of_ble_eq_true rfl) dX10_put_26 dX10_put_29 dX10_put_30 dX10_put_32 dX10_put_35 (⟨3, A, by decide, rfl, Or.inr (Or.inr (Or.inl ⟨rfl, qi, by rw [zi]; omega, fun q => q.2.1 c_16, rfl⟩)), Y, ch, N, hC⟩) (by decide) (by decide) (by rw [hR]; decide) (by rw [hR]; decide)
    · refine j_iload hX dX10_put_19 7 rfl ?_
      refine j_ldc (v := 1000000) hX lk_X10_126 dX10_put_21 ?_
      refine j_icmp_le hX 36 dX10_put_23 (by decide) (fun c_23 => ?_) (fun c_23 => ?_)
      · refine j_aload_n hX dX10_put_36 1 rfl ?_
        refine j_aload hX dX10_put_37 0 rfl ?_
        refine j_iload_n hX dX10_put_39 3 rfl ?_
        refine j_iload_n hX dX10_put_40 4 rfl ?_
        refine j_iload hX dX10_put_41 5 rfl ?_
        refine j_iload hX dX10_put_43 6 rfl ?_
        refine j_callV (As := [.ref (yR Y i), .int a, .int b, .int c, .int d]) (rest := []) hX (c_X10_tell (xl X) (xK X) g x (yra Y) (yta Y) ⟨hC.1.1, trivial⟩ tf0 ht0 (yR Y i) (ynb Y i) (yxb Y i) (vwf A Y i) (aw A i) (nI 0) (ch i) ri (hI i hi).1.1 a b c d) hC.1.1 rfl lk_X10_129 wI_X10_tell wV_X10_X10_tell wN_X10 wC_X10_tell hd_X10_tell rfl (by rw [hL]; decide) (by decide) rfl (Nat.le_of_ble_eq_true rfl) dX10_put_45 (by rw [hR]; decide) (by rw [hR]; decide) jx_no ?_
        rintro _ g1 ⟨rfl, ⟨tf1, ht1, er1⟩, hF1⟩
        have hC1 := hC.told hF1 ⟨tf1, ht1, trivial⟩
        have ri1 : g1 (yR Y i) = some (ob 6 [.ref (ynb Y i), .ref (yxb Y i), vwf A Y i, .int (nI (aw A i)), .int (nI 0), .int (ch i)]) := (hC1.2.2.1 i hi).1
        obtain ⟨n1, cf1, tf9, b1, q1⟩ := (hC1.2.2.1 i hi).2.1
        obtain ⟨e1, rp1⟩ := q1 wi
        subst e1
        obtain ⟨n2, cf2, tf2, b2, q2⟩ := (hC1.2.2.1 i hi).2.2.1
        obtain ⟨dR, ⟨d1, d2, d3⟩, d4⟩ := hC1.2.2.2
        show J X 3 18 g1 48 [(7, .ref (yR Y i)), (0, .ref x), (1, .int r), (2, .int a), (3, .int b), (4, .int c), (5, .int d), (6, .int n)] []
        refine j_aload hX dX10_put_48 0 rfl ?_
        refine j_getN (v := .ref (ynb Y i)) hX ri1 rfl wf_X6 0 (by decide) nk_X10_35 (fun _ h => h) rfl dX10_put_50 ?_
        refine j_aload_n hX dX10_put_53 1 rfl ?_
        refine j_get (v := .ref (yta Y)) hX hC1.1.1 rfl wf_X10 1 (by decide) lk_X10_15 (fun _ h => h) rfl dX10_put_54 ?_
        refine j_callV (As := [.ref (yta Y)]) (rest := []) hX (c_X0_timesOf (xl X) (xK X) g1 (ynb Y i) (ync Y i) (yno Y i) (aB A i).length cf1 tf9 b1 (yta Y) tf1 ht1 gi.2.1) b1.1 rfl lk_X10_133 wI_X0_timesOf wV_X0_X0_timesOf wN_X0 wC_X0_timesOf hd_X0_timesOf rfl (by rw [hL]; decide) (by decide) rfl (Nat.le_of_ble_eq_true rfl) dX10_put_57 (by rw [hR]; decide) (by rw [hR]; decide) jx_no ?_
        rintro _ _ ⟨rfl, rfl⟩
        show J X 3 18 g1 60 [(7, .ref (yR Y i)), (0, .ref x), (1, .int r), (2, .int a), (3, .int b), (4, .int c), (5, .int d), (6, .int n)] [.int (timesAt cf1 tf9 tf1 (aB A i).length)]
        refine j_eqi (y := nI (tms (aB A i) (truncR (aw A i) (a, b, c, d)))) (by rw [timesAt_eq rp1 gi.1, er1]) ?_
        refine j_istore (lv' := [(8, .int (nI (tms (aB A i) (truncR (aw A i) (a, b, c, d))))), (7, .ref (yR Y i)), (0, .ref x), (1, .int r), (2, .int a), (3, .int b), (4, .int c), (5, .int d), (6, .int n)]) hX dX10_put_60 (by rw [hn]; decide) rfl ?_
        refine j_iload hX dX10_put_62 0 rfl ?_
        refine j_iload hX dX10_put_64 8 rfl ?_
        refine j_iadd hX dX10_put_66 ?_
        refine j_if_ge hX 80 dX10_put_67 (by decide) (fun c_67 => ?_) (fun c_67 => ?_)
        · refine j_aload hX dX10_put_80 1 rfl ?_
          refine j_getN (v := .ref (yxb Y i)) hX ri1 rfl wf_X6 1 (by decide) nk_X10_138 (fun _ h => h) rfl dX10_put_82 ?_
          refine j_aload hX dX10_put_85 1 rfl ?_
          refine j_getN (v := .ref (ynb Y i)) hX ri1 rfl wf_X6 0 (by decide) nk_X10_35 (fun _ h => h) rfl dX10_put_87 ?_
          refine j_callV (As := [.ref (ynb Y i)]) (rest := []) hX (c_X0_copyFrom (xl X) (xK X) g1 (yxb Y i) (yxc Y i) (yxo Y i) n2 cf2 tf2 b2 (ynb Y i) (ync Y i) (yno Y i) (aB A i).length cf1 tf9 b1 (d1 i hi i hi).2.2 (d2 i hi i hi).2.2 (d3 i hi i hi).2.2) b2.1 rfl lk_X10_141 wI_X0_copyFrom wV_X0_X0_copyFrom wN_X0 wC_X0_copyFrom hd_X0_copyFrom rfl (by rw [hL]; decide) (by decide) rfl (Nat.le_of_ble_eq_true rfl) dX10_put_90 (by rw [hR]; decide) (by rw [hR]; decide) jx_no ?_
          rintro _ g2 ⟨rfl, x2, hF2⟩
          have hC2 := hC1.nextB hi rfl hF2 ⟨_, _, _, x2⟩
          have XB2 : bagR (xK X) g2 (yxb Y i) (yxc Y i) (yxo Y i) (aB A i) := ⟨_, _, x2, rep_copy rp1 gi.2.1⟩
          have ht2 := (hF2 (yta Y) (nm3 (ne_ob ht1 b2.1 aI_ob) (ne_ob ht1 b2.2.1 (aI_ne (by decide))) (ne_ob ht1 b2.2.2 (aI_ne (by decide))))).trans ht1
          have ri2 : g2 (yR Y i) = some (ob 6 [.ref (ynb Y i), .ref (yxb Y i), vwf A Y i, .int (nI (aw A i)), .int (nI 0), .int (ch i)]) := (hC2.2.2.1 i hi).1
          show J X 3 18 g2 93 [(8, .int (nI (tms (aB A i) (truncR (aw A i) (a, b, c, d))))), (7, .ref (yR Y i)), (0, .ref x), (1, .int r), (2, .int a), (3, .int b), (4, .int c), (5, .int d), (6, .int n)] []
          refine j_aload_n hX dX10_put_93 2 rfl ?_
          refine j_aload hX dX10_put_94 1 rfl ?_
          refine j_getN (v := .ref (yxb Y i)) hX ri2 rfl wf_X6 1 (by decide) nk_X10_138 (fun _ h => h) rfl dX10_put_96 ?_
          refine j_aload_n hX dX10_put_99 2 rfl ?_
          refine j_get (v := .ref (yta Y)) hX hC2.1.1 rfl wf_X10 1 (by decide) lk_X10_15 (fun _ h => h) rfl dX10_put_100 ?_
          refine j_iload hX dX10_put_103 8 rfl ?_
          refine j_i2l hX dX10_put_105 ?_
          refine j_callV (As := [.ref (yta Y), .long n.toInt64]) (rest := [.ref x]) hX (c_X0_add (xl X) (xK X) g2 (yxb Y i) (yxc Y i) (yxo Y i) (aB A i) XB2 gi (yta Y) tf1 ht2 n.toInt64 n.toInt (Int32.toInt_toInt64 n) (by have := i32_bd n; omega) (by have := i32_bd n; omega)) x2.1 rfl lk_X10_145 wI_X0_add wV_X0_X0_add wN_X0 wC_X0_add hd_X0_add rfl (by rw [hL]; decide) (by decide) rfl (Nat.le_of_ble_eq_true rfl) dX10_put_106 (by rw [hR]; decide) (by rw [hR]; decide) jx_no ?_
          intro v9 g3 h3
          rw [er1] at h3
          rcases ha : addB (truncR (aw A i) (a, b, c, d)) n.toInt (aB A i) with _ | B'
          
          · rw [ha] at h3
            obtain ⟨rfl, rfl⟩ := h3
            show J X 3 18 g2 109 [(8, .int (nI (tms (aB A i) (truncR (aw A i) (a, b, c, d))))), (7, .ref (yR Y i)), (0, .ref x), (1, .int r), (2, .int a), (3, .int b), (4, .int c), (5, .int d), (6, .int n)] [.int 0, .ref x]
            refine j_if_eq hX 125 dX10_put_109 (by decide) (fun _ => ?_) (fun c_109 => absurd rfl c_109)
            refine j_iconst (v := 0) hX dX10_put_125 (by decide) ?_
            refine j_callV (As := [.int 0]) (rest := []) hX (c_X10_takeOver_f (xl X) (xK X) g2 x A Y ch (fun _ => 0) N hC2 (fun _ _ => by decide) hlt) hC2.1.1 rfl lk_X10_152 wI_X10_takeOver wV_X10_X10_takeOver wN_X10 wC_X10_takeOver hd_X10_takeOver rfl (by rw [hL]; decide) (by decide) rfl (Nat.le_of_ble_eq_true rfl) dX10_put_126 (by rw [hR]; decide) (by rw [hR]; decide) (fun E g9 h9 => jx_out hX hE ⟨4, A, by decide, h9.1, Or.inr (Or.inr (Or.inr (Or.inl ⟨rfl, qi, by rw [zi]; omega, (by rw [zi]; unfold rowP; rw [zi]; exact ⟨c_9, c_16, c_23, c_67⟩), (by rintro ⟨N9, B9, h1, h2⟩; unfold rowP at h1; rw [zi, ha] at h1; cases h1), rfl⟩))), h9.2⟩ (by decide) (by decide)) ?_
            exact fun _ _ h => h.elim
          · rw [ha] at h3
            obtain ⟨rfl, XB3, hF3⟩ := h3
            have gB := addB_good gi ha
            have hC3 := hC2.nextB hi rfl hF3 (by obtain ⟨cf, tf, z, _⟩ := XB3; exact ⟨_, _, _, z⟩)
            have ri3 : g3 (yR Y i) = some (ob 6 [.ref (ynb Y i), .ref (yxb Y i), vwf A Y i, .int (nI (aw A i)), .int (nI 0), .int (ch i)]) := (hC3.2.2.1 i hi).1
            show J X 3 18 g3 109 [(8, .int (nI (tms (aB A i) (truncR (aw A i) (a, b, c, d))))), (7, .ref (yR Y i)), (0, .ref x), (1, .int r), (2, .int a), (3, .int b), (4, .int c), (5, .int d), (6, .int n)] [.int 1, .ref x]
            refine j_if_eq hX 125 dX10_put_109 (by decide) (fun c_109 => absurd c_109 (by decide)) (fun _ => ?_)
            refine j_aload_n hX dX10_put_112 2 rfl ?_
            refine j_aload hX dX10_put_113 1 rfl ?_
            refine j_callV (As := [.ref (yR Y i)]) (rest := [.ref x]) hX (c_X10_viewsFit (xl X) (xK X) g3 x A Y ch N hC3 hI i hi ki B' XB3 gB) hC3.1.1 rfl lk_X10_149 wI_X10_viewsFit wV_X10_X10_viewsFit wN_X10 wC_X10_viewsFit hd_X10_viewsFit rfl (by rw [hL]; decide) (by decide) rfl (Nat.le_of_ble_eq_true rfl) dX10_put_115 (by rw [hR]; decide) (by rw [hR]; decide) jx_no ?_
            rintro v9 g4 (⟨rfl, p, N', hC4, hp4, hU, hd4⟩ | ⟨rfl, ⟨p, N', hC4, hp4⟩, hno⟩)
            · show J X 3 18 g4 118 [(8, .int (nI (tms (aB A i) (truncR (aw A i) (a, b, c, d))))), (7, .ref (yR Y i)), (0, .ref x), (1, .int r), (2, .int a), (3, .int b), (4, .int c), (5, .int d), (6, .int n)] [.int 1, .ref x]
              refine j_if_eq hX 125 dX10_put_118 (by decide) (fun c_118 => absurd c_118 (by decide)) (fun _ => ?_)
              refine j_iconst (v := 1) hX dX10_put_121 (by decide) ?_
              refine j_goto hX 126 dX10_put_122 (by decide) ?_
              refine j_callV (As := [.int 1]) (rest := []) hX (c_X10_takeOver_t (xl X) (xK X) g4 x A Y ch p N' hC4 hp4) hC4.1.1 rfl lk_X10_152 wI_X10_takeOver wV_X10_X10_takeOver wN_X10 wC_X10_takeOver hd_X10_takeOver rfl (by rw [hL]; decide) (by decide) rfl (Nat.le_of_ble_eq_true rfl) dX10_put_126 (by rw [hR]; decide) (by rw [hR]; decide) jx_no ?_
              rintro _ g5 ⟨rfl, Y5, ch5, N5, hC5, eR5⟩
              rw [setR_put hd4] at hC5
              show J X 3 18 g5 129 [(8, .int (nI (tms (aB A i) (truncR (aw A i) (a, b, c, d))))), (7, .ref (yR Y i)), (0, .ref x), (1, .int r), (2, .int a), (3, .int b), (4, .int c), (5, .int d), (6, .int n)] []
              refine j_iload hX dX10_put_129 0 rfl ?_
              refine j_iload hX dX10_put_131 8 rfl ?_
              refine j_iadd hX dX10_put_133 ?_
              exact j_iret hX hE dX10_put_134 (⟨putA A (Mf A p N'), (by unfold putO OutG rowP; rw [zi]; exact Or.inr (Or.inr (Or.inr (Or.inr ⟨rfl, qi, by omega, ⟨c_9, c_16, c_23, c_67⟩, Mf A p N', ⟨B', ha, hU⟩, rfl⟩)))), by rw [zi]; unfold rowP; rw [zi], Y5, ch5, N5, hC5⟩) (by decide) (by decide)
            · show J X 3 18 g4 118 [(8, .int (nI (tms (aB A i) (truncR (aw A i) (a, b, c, d))))), (7, .ref (yR Y i)), (0, .ref x), (1, .int r), (2, .int a), (3, .int b), (4, .int c), (5, .int d), (6, .int n)] [.int 0, .ref x]
              refine j_if_eq hX 125 dX10_put_118 (by decide) (fun _ => ?_) (fun c_118 => absurd rfl c_118)
              refine j_iconst (v := 0) hX dX10_put_125 (by decide) ?_
              refine j_callV (As := [.int 0]) (rest := []) hX (c_X10_takeOver_f (xl X) (xK X) g4 x A Y ch p N' hC4 hp4 hlt) hC4.1.1 rfl lk_X10_152 wI_X10_takeOver wV_X10_X10_takeOver wN_X10 wC_X10_takeOver hd_X10_takeOver rfl (by rw [hL]; decide) (by decide) rfl (Nat.le_of_ble_eq_true rfl) dX10_put_126 (by rw [hR]; decide) (by rw [hR]; decide) (fun E g9 h9 => jx_out hX hE ⟨4, A, by decide, h9.1, Or.inr (Or.inr (Or.inr (Or.inl ⟨rfl, qi, by rw [zi]; omega, (by rw [zi]; unfold rowP; rw [zi]; exact ⟨c_9, c_16, c_23, c_67⟩), (by rintro ⟨N9, B9, h1, h2⟩; unfold rowP at h1; rw [zi, ha] at h1; cases h1; rw [zi] at h2; exact hno N9 h2), rfl⟩))), h9.2⟩ (by decide) (by decide)) ?_
              exact fun _ _ h => h.elim
        · exact j_IAE hX hE hlt sk_X10_136 (by rw [hL]; decide) (Nat.le_of_ble_eq_true rfl) dX10_put_70 dX10_put_73 dX10_put_74 dX10_put_76 dX10_put_79 (⟨3, A, by decide, rfl, Or.inr (Or.inr (Or.inl ⟨rfl, qi, by rw [zi]; omega, (by rw [zi]; unfold rowP; rw [zi]; exact fun q => c_67 q.2.2.2), rfl⟩)), Y, ch, N, hC1⟩) (by decide) (by decide) (by rw [hR]; decide) (by rw [hR]; decide)
      · exact j_IAE hX hE hlt sk_X10_127 (by rw [hL]; decide) (Nat.le_of_ble_eq_true rfl) dX10_put_26 dX10_put_29 dX10_put_30 dX10_put_32 dX10_put_35 (⟨3, A, by decide, rfl, Or.inr (Or.inr (Or.inl ⟨rfl, qi, by rw [zi]; omega, fun q => c_23 q.2.2.1, rfl⟩)), Y, ch, N, hC⟩) (by decide) (by decide) (by rw [hR]; decide) (by rw [hR]; decide)

set_option maxRecDepth 20000 in
set_option maxHeartbeats 600000 in
/-- fill(r, a, step, b, other, n) -/
theorem c_X10_fill (l : Launch) (K : Cst) (g : Wd) (hlt : l.stackTraces = false) (x : Nat) (A : Ab) (Y : Lt) (ch : Nat → Int32) (N : Nat → Bg) (hC : CS K g x A Y ch (fun _ => 0) N) (hI : Inv A) (r a st b ot n : Int32) : Ct l K yX10_fill cX10_fill 10 (some .int) 9 [.ref x, .int r, .int a, .int st, .int b, .int ot, .int n] g (PostV K x (fillO A r a st b ot n) (fun A' => .int (nI (aB A' (vnat r)).length))) (XG K x (fillO A r a st b ot n)) 4 24 := by
  refine ct_of (by decide) (Nat.le_of_ble_eq_true rfl) ?_
  intro X hl hK hX hE hn hL hR hm
  subst hl; subst hK
  show J X 0 0 g 0 [(0, .ref x), (1, .int r), (2, .int a), (3, .int st), (4, .int b), (5, .int ot), (6, .int n)] []
  refine j_aload_n hX dX10_fill_0 0 rfl ?_
  refine j_iload_n hX dX10_fill_1 1 rfl ?_
  refine j_callV (As := [.int r]) (rest := []) hX (c_X10_tableAt (xl X) (xK X) g hlt x (yra Y) (yta Y) (yR Y) hC.1 (ynb Y) (yxb Y) (vwf A Y) (aw A) (fun i => nI ((fun _ => 0) i)) ch hC.rels (fun i hi => (hI i hi).1.1) (fun i _ => vwf_or A Y i) r) hC.1.1 rfl lk_X10_122 wI_X10_tableAt wV_X10_X10_tableAt wN_X10 wC_X10_tableAt hd_X10_tableAt rfl (by rw [hL]; decide) (by decide) rfl (Nat.le_of_ble_eq_true rfl) dX10_fill_2 (by rw [hR]; decide) (by rw [hR]; decide) (fun E g9 h9 => h9.elim (fun h9 => jx_out hX hE ⟨1, A, by decide, h9.1, Or.inl ⟨rfl, h9.2.2, rfl⟩, by rw [← h9.2.1]; exact ⟨Y, ch, N, hC⟩⟩ (by decide) (by decide)) (fun h9 => jx_out hX hE ⟨2, A, by decide, h9.1, Or.inr (Or.inl ⟨rfl, (by obtain ⟨i, hi, ei, wi, _⟩ := h9.2.2; exact ⟨i, hi, ei, wi⟩), (by obtain ⟨i, hi, ei, wi, v9, e9⟩ := h9.2.2; rw [ei, vnat_nI (by omega)]; exact vwf_r e9), rfl⟩), by rw [← h9.2.1]; exact ⟨Y, ch, N, hC⟩⟩ (by decide) (by decide))) ?_
  rintro _ _ ⟨i, hi, ei, wi, vi, rfl, rfl⟩
  have zi : vnat r = i := by rw [ei, vnat_nI (by omega)]
  have qi : isR A r := ⟨i, hi, ei, wi⟩
  have k2 := vwf_n vi
  have ki : ak A i = 1 := by have := (hI i hi).1.2.2.1; omega
  have ri : g (yR Y i) = some (ob 6 [.ref (ynb Y i), .ref (yxb Y i), vwf A Y i, .int (nI (aw A i)), .int (nI 0), .int (ch i)]) := (hC.2.2.1 i hi).1
  obtain ⟨tf0, ht0, _⟩ := hC.2.1
  have gi := (hI i hi).2.2.1.1
  show J X 3 18 g 5 [(0, .ref x), (1, .int r), (2, .int a), (3, .int st), (4, .int b), (5, .int ot), (6, .int n)] [.ref (yR Y i)]
  refine j_astore (lv' := [(7, .ref (yR Y i)), (0, .ref x), (1, .int r), (2, .int a), (3, .int st), (4, .int b), (5, .int ot), (6, .int n)]) hX dX10_fill_5 (by rw [hn]; decide) rfl ?_
  have h9 : (n < nI 1 ∨ nI 41 ≤ n) ∨ ∃ m9, 1 ≤ m9 ∧ m9 < 41 ∧ n = nI m9 := by
    rcases i32_in n 41 (by decide) with (h | h) | ⟨w9, h1, h2⟩
    · exact Or.inl (Or.inl (Int32.lt_trans h (by decide)))
    · exact Or.inl (Or.inr h)
    · rcases Nat.eq_zero_or_pos w9 with e | e
      · exact Or.inl (Or.inl (by rw [h2, e]; decide))
      · exact Or.inr ⟨w9, e, h1, h2⟩
  rcases h9 with h9c | ⟨m9, hm1, hm5, em⟩
  · refine j_iload hX dX10_fill_7 7 rfl ?_
    refine j_iconst (v := nI 1) hX dX10_fill_9 (by decide) ?_
    refine j_icmp_lt hX 20 dX10_fill_10 (by decide) (fun c_10 => ?_) (fun c_10 => ?_)
    · exact j_IAE hX hE hlt sk_X10_156 (by rw [hL]; decide) (Nat.le_of_ble_eq_true rfl) dX10_fill_20 dX10_fill_23 dX10_fill_24 dX10_fill_26 dX10_fill_29 (⟨3, A, by decide, rfl, Or.inr (Or.inr (Or.inl ⟨rfl, qi, by rw [zi]; omega, (fun ⟨w9, b1, b2, b3⟩ => by rcases h9c with q | q; exact nI_nlt b1 (by omega) (by rw [b3] at q; exact q); exact nI_ge (show w9 < 41 by omega) (by decide) (by rw [b3] at q; exact q)), rfl⟩)), Y, ch, N, hC⟩) (by decide) (by decide) (by rw [hR]; decide) (by rw [hR]; decide)
    · refine j_iload hX dX10_fill_13 7 rfl ?_
      refine j_bipush (v := nI 40) hX dX10_fill_15 (by decide) ?_
      refine j_icmp_le hX 30 dX10_fill_17 (by decide) (fun c_17 => absurd c_17 (fun q => (h9c.resolve_left c_10) |> fun z => absurd (Int32.le_trans z q) (nI_ge (a := 40) (b := 41) (by decide) (by decide)))) (fun _ => ?_)
      exact j_IAE hX hE hlt sk_X10_156 (by rw [hL]; decide) (Nat.le_of_ble_eq_true rfl) dX10_fill_20 dX10_fill_23 dX10_fill_24 dX10_fill_26 dX10_fill_29 (⟨3, A, by decide, rfl, Or.inr (Or.inr (Or.inl ⟨rfl, qi, by rw [zi]; omega, (fun ⟨w9, b1, b2, b3⟩ => by rcases h9c with q | q; exact nI_nlt b1 (by omega) (by rw [b3] at q; exact q); exact nI_ge (show w9 < 41 by omega) (by decide) (by rw [b3] at q; exact q)), rfl⟩)), Y, ch, N, hC⟩) (by decide) (by decide) (by rw [hR]; decide) (by rw [hR]; decide)
  · have zn : vnat n = m9 := by rw [em, vnat_nI (by omega)]
    obtain ⟨n1, cf1, tf9, b1, q1⟩ := (hC.2.2.1 i hi).2.1
    obtain ⟨e1, rp1⟩ := q1 wi
    subst e1
    obtain ⟨n2, cf2, tf2, b2, q2⟩ := (hC.2.2.1 i hi).2.2.1
    obtain ⟨dR, ⟨d1, d2, d3⟩, d4⟩ := hC.2.2.2
    have tail1 : ∀ (g3 : Wd) (B' : Bg), CS (xK X) g3 x A Y ch (fun _ => 0) N → bagR (xK X) g3 (yxb Y i) (yxc Y i) (yxo Y i) B' → good B' → fldB (filF (aw A i) a st b ot) (List.range m9) (aB A i) = some B' → J X 3 18 g3 104 [(8, .int 1), (7, .ref (yR Y i)), (6, .int (nI m9)), (5, .int ot), (4, .int b), (3, .int st), (2, .int a), (1, .int r), (0, .ref x)] [] := by
        intro g3 B' hC3 XB3 gB hsum
        have ri3 : g3 (yR Y i) = some (ob 6 [.ref (ynb Y i), .ref (yxb Y i), vwf A Y i, .int (nI (aw A i)), .int (nI 0), .int (ch i)]) := (hC3.2.2.1 i hi).1
        refine j_aload_n hX dX10_fill_104 8 rfl ?_
        refine j_iload hX dX10_fill_105 0 rfl ?_
        refine j_if_eq hX 123 dX10_fill_107 (by decide) (fun c_107 => absurd c_107 (by decide)) (fun _ => ?_)
        refine j_aload_n hX dX10_fill_110 8 rfl ?_
        refine j_aload hX dX10_fill_111 1 rfl ?_
        refine j_callV (As := [.ref (yR Y i)]) (rest := [.ref x]) hX (c_X10_viewsFit (xl X) (xK X) g3 x A Y ch N hC3 hI i hi ki B' XB3 gB) hC3.1.1 rfl lk_X10_149 wI_X10_viewsFit wV_X10_X10_viewsFit wN_X10 wC_X10_viewsFit hd_X10_viewsFit rfl (by rw [hL]; decide) (by decide) rfl (Nat.le_of_ble_eq_true rfl) dX10_fill_113 (by rw [hR]; decide) (by rw [hR]; decide) jx_no ?_
        rintro v9 g4 (⟨rfl, p, N', hC4, hp4, hU, hd4⟩ | ⟨rfl, ⟨p, N', hC4, hp4⟩, hno⟩)
        · show J X 3 18 g4 116 [(8, .int 1), (7, .ref (yR Y i)), (6, .int (nI m9)), (5, .int ot), (4, .int b), (3, .int st), (2, .int a), (1, .int r), (0, .ref x)] [.int 1, .ref x]
          refine j_if_eq hX 123 dX10_fill_116 (by decide) (fun c_116 => absurd c_116 (by decide)) (fun _ => ?_)
          refine j_iconst (v := 1) hX dX10_fill_119 (by decide) ?_
          refine j_goto hX 124 dX10_fill_120 (by decide) ?_
          refine j_callV (As := [.int 1]) (rest := []) hX (c_X10_takeOver_t (xl X) (xK X) g4 x A Y ch p N' hC4 hp4) hC4.1.1 rfl lk_X10_152 wI_X10_takeOver wV_X10_X10_takeOver wN_X10 wC_X10_takeOver hd_X10_takeOver rfl (by rw [hL]; decide) (by decide) rfl (Nat.le_of_ble_eq_true rfl) dX10_fill_124 (by rw [hR]; decide) (by rw [hR]; decide) jx_no ?_
          rintro _ g5 ⟨rfl, Y5, ch5, N5, hC5, eR5⟩
          rw [setR_put hd4] at hC5
          have ri5 := (hC5.2.2.1 i hi).1
          rw [eR5] at ri5
          obtain ⟨n5, cf5, tf5, b5, q5⟩ := (hC5.2.2.1 i hi).2.1
          obtain ⟨e5, rp5⟩ := q5 wi
          subst e5
          show J X 3 18 g5 127 [(8, .int 1), (7, .ref (yR Y i)), (6, .int (nI m9)), (5, .int ot), (4, .int b), (3, .int st), (2, .int a), (1, .int r), (0, .ref x)] []
          refine j_aload hX dX10_fill_127 1 rfl ?_
          refine j_getN (v := .ref (ynb Y5 i)) hX ri5 rfl wf_X6 0 (by decide) nk_X10_35 (fun _ h => h) rfl dX10_fill_129 ?_
          refine j_getN (v := .int (nI (aB (putA A (Mf A p N')) i).length)) hX b5.1 rfl wf_X0 2 (by decide) nk_X10_158 (fun _ h => h) rfl dX10_fill_132 ?_
          exact j_iret hX hE dX10_fill_135 (⟨putA A (Mf A p N'), (by unfold fillO OutG; rw [zi, zn]; exact Or.inr (Or.inr (Or.inr (Or.inr ⟨rfl, qi, by omega, (by exact ⟨m9, hm1, by omega, em⟩), Mf A p N', ⟨B', hsum, hU⟩, rfl⟩)))), by rw [zi], Y5, ch5, N5, hC5⟩) (by decide) (by decide)
        · show J X 3 18 g4 116 [(8, .int 1), (7, .ref (yR Y i)), (6, .int (nI m9)), (5, .int ot), (4, .int b), (3, .int st), (2, .int a), (1, .int r), (0, .ref x)] [.int 0, .ref x]
          refine j_if_eq hX 123 dX10_fill_116 (by decide) (fun _ => ?_) (fun c_116 => absurd rfl c_116)
          refine j_iconst (v := 0) hX dX10_fill_123 (by decide) ?_
          refine j_callV (As := [.int 0]) (rest := []) hX (c_X10_takeOver_f (xl X) (xK X) g4 x A Y ch p N' hC4 hp4 hlt) hC4.1.1 rfl lk_X10_152 wI_X10_takeOver wV_X10_X10_takeOver wN_X10 wC_X10_takeOver hd_X10_takeOver rfl (by rw [hL]; decide) (by decide) rfl (Nat.le_of_ble_eq_true rfl) dX10_fill_124 (by rw [hR]; decide) (by rw [hR]; decide) (fun E g9 h9 => jx_out hX hE ⟨4, A, by decide, h9.1, Or.inr (Or.inr (Or.inr (Or.inl ⟨rfl, qi, by rw [zi]; omega, (by exact ⟨m9, hm1, by omega, em⟩), (by rintro ⟨N9, B9, h1, h2⟩; rw [zi, zn, hsum] at h1; cases h1; rw [zi] at h2; exact hno N9 h2), rfl⟩))), h9.2⟩ (by decide) (by decide)) ?_
          exact fun _ _ h => h.elim
    have tail0 : ∀ (g2 : Wd), CS (xK X) g2 x A Y ch (fun _ => 0) N → fldB (filF (aw A i) a st b ot) (List.range m9) (aB A i) = none → J X 3 18 g2 104 [(8, .int 0), (7, .ref (yR Y i)), (6, .int (nI m9)), (5, .int ot), (4, .int b), (3, .int st), (2, .int a), (1, .int r), (0, .ref x)] [] := by
        intro g2 hC2 hsum
        refine j_aload_n hX dX10_fill_104 8 rfl ?_
        refine j_iload hX dX10_fill_105 0 rfl ?_
        refine j_if_eq hX 123 dX10_fill_107 (by decide) (fun _ => ?_) (fun c_107 => absurd rfl c_107)
        refine j_iconst (v := 0) hX dX10_fill_123 (by decide) ?_
        refine j_callV (As := [.int 0]) (rest := []) hX (c_X10_takeOver_f (xl X) (xK X) g2 x A Y ch (fun _ => 0) N hC2 (fun _ _ => by decide) hlt) hC2.1.1 rfl lk_X10_152 wI_X10_takeOver wV_X10_X10_takeOver wN_X10 wC_X10_takeOver hd_X10_takeOver rfl (by rw [hL]; decide) (by decide) rfl (Nat.le_of_ble_eq_true rfl) dX10_fill_124 (by rw [hR]; decide) (by rw [hR]; decide) (fun E g9 h9 => jx_out hX hE ⟨4, A, by decide, h9.1, Or.inr (Or.inr (Or.inr (Or.inl ⟨rfl, qi, by rw [zi]; omega, (by exact ⟨m9, hm1, by omega, em⟩), (by rintro ⟨N9, B9, h1, h2⟩; rw [zi, zn, hsum] at h1; cases h1), rfl⟩))), h9.2⟩ (by decide) (by decide)) ?_
        exact fun _ _ h => h.elim
    have stop : ∀ (k : Nat) (g2 : Wd), CS (xK X) g2 x A Y ch (fun _ => 0) N → fldB (filF (aw A i) a st b ot) (List.range m9) (aB A i) = none → J X 3 18 g2 49 [(9, .int (nI k)), (8, .int 0), (7, .ref (yR Y i)), (6, .int (nI m9)), (5, .int ot), (4, .int b), (3, .int st), (2, .int a), (1, .int r), (0, .ref x)] [] := by
        intro k g2 hC2 hsum
        refine j_iload hX dX10_fill_49 0 rfl ?_
        refine j_iload hX dX10_fill_51 3 rfl ?_
        refine j_icmp_ge hX 104 dX10_fill_53 (by decide) (fun c_53 => ?_) (fun c_53 => ?_)
        · refine j_sub [1, 2, 3, 4, 5, 6, 7, 8, 9] rfl ?_
          exact tail0 g2 hC2 hsum
        · refine j_iload hX dX10_fill_56 1 rfl ?_
          refine j_if_eq hX 104 dX10_fill_58 (by decide) (fun _ => ?_) (fun c_58 => absurd rfl c_58)
          refine j_sub [1, 2, 3, 4, 5, 6, 7, 8, 9] rfl ?_
          exact tail0 g2 hC2 hsum
    have loop : ∀ (q k : Nat) (g2 : Wd) (Bk : Bg), k + q = m9 → CS (xK X) g2 x A Y ch (fun _ => 0) N → bagR (xK X) g2 (yxb Y i) (yxc Y i) (yxo Y i) Bk → good Bk → fldB (filF (aw A i) a st b ot) (List.range m9) (aB A i) = fldB (filF (aw A i) a st b ot) ((List.range m9).drop k) Bk → J X 3 18 g2 49 [(9, .int (nI k)), (8, .int 1), (7, .ref (yR Y i)), (6, .int (nI m9)), (5, .int ot), (4, .int b), (3, .int st), (2, .int a), (1, .int r), (0, .ref x)] [] := by
        intro q
        induction q with
        | zero =>
          intro k g2 Bk hk hC2 XB2 gB hsum
          refine j_iload hX dX10_fill_49 0 rfl ?_
          refine j_iload hX dX10_fill_51 3 rfl ?_
          refine j_icmp_ge hX 104 dX10_fill_53 (by decide) (fun _ => ?_) (fun c_53 => absurd (nI_le (a := m9) (b := k) (by omega) (by omega)) c_53)
          refine j_sub [1, 2, 3, 4, 5, 6, 7, 8, 9] rfl ?_
          exact tail1 g2 Bk hC2 XB2 gB (hsum.trans (fld_end (by simp; omega)))
        | succ q ih =>
          intro k g2 Bk hk hC2 XB2 gB hsum
          have ri2 : g2 (yR Y i) = some (ob 6 [.ref (ynb Y i), .ref (yxb Y i), vwf A Y i, .int (nI (aw A i)), .int (nI 0), .int (ch i)]) := (hC2.2.2.1 i hi).1
          obtain ⟨tf2, ht2, _⟩ := hC2.2.1
          refine j_iload hX dX10_fill_49 0 rfl ?_
          refine j_iload hX dX10_fill_51 3 rfl ?_
          refine j_icmp_ge hX 104 dX10_fill_53 (by decide) (fun c_53 => absurd c_53 (nI_ge (a := k) (b := m9) (by omega) (by omega))) (fun _ => ?_)
          refine j_iload hX dX10_fill_56 1 rfl ?_
          refine j_if_eq hX 104 dX10_fill_58 (by decide) (fun c_58 => absurd c_58 (by decide)) (fun _ => ?_)
          refine j_aload_n hX dX10_fill_61 9 rfl ?_
          refine j_aload hX dX10_fill_62 2 rfl ?_
          refine j_iload_n hX dX10_fill_64 7 rfl ?_
          refine j_iload hX dX10_fill_65 0 rfl ?_
          refine j_iload_n hX dX10_fill_67 6 rfl ?_
          refine j_imul hX dX10_fill_68 ?_
          refine j_iadd hX dX10_fill_69 ?_
          refine j_iload hX dX10_fill_70 5 rfl ?_
          refine j_iload hX dX10_fill_72 0 rfl ?_
          refine j_iload hX dX10_fill_74 4 rfl ?_
          refine j_imul hX dX10_fill_76 ?_
          refine j_iadd hX dX10_fill_77 ?_
          refine j_iconst (v := 0) hX dX10_fill_78 (by decide) ?_
          refine j_iconst (v := 0) hX dX10_fill_79 (by decide) ?_
          refine j_callV (As := [.ref (yR Y i), .int (a + ((nI k) * st)), .int (b + ((nI k) * ot)), .int 0, .int 0]) (rest := []) hX (c_X10_tell (xl X) (xK X) g2 x (yra Y) (yta Y) ⟨hC2.1.1, trivial⟩ tf2 ht2 (yR Y i) (ynb Y i) (yxb Y i) (vwf A Y i) (aw A i) (nI 0) (ch i) ri2 (hI i hi).1.1 (a + nI k * st) (b + nI k * ot) 0 0) hC2.1.1 rfl lk_X10_129 wI_X10_tell wV_X10_X10_tell wN_X10 wC_X10_tell hd_X10_tell rfl (by rw [hL]; decide) (by decide) rfl (Nat.le_of_ble_eq_true rfl) dX10_fill_80 (by rw [hR]; decide) (by rw [hR]; decide) jx_no ?_
          rintro _ g3 ⟨rfl, ⟨tf3, ht3, er3⟩, hF3⟩
          have hC3 := hC2.told hF3 ⟨tf3, ht3, trivial⟩
          have ri3 : g3 (yR Y i) = some (ob 6 [.ref (ynb Y i), .ref (yxb Y i), vwf A Y i, .int (nI (aw A i)), .int (nI 0), .int (ch i)]) := (hC3.2.2.1 i hi).1
          obtain ⟨cfx, tfx, x2, rpx⟩ := XB2
          have x3 : isBag (xK X) g3 (yxb Y i) (yxc Y i) (yxo Y i) Bk.length cfx tfx := x2.at hF3 (nm1 (ne_ob x2.1 ht2 ob_aI)) (nm1 (ne_ob x2.2.1 ht2 (aI_ne (by decide)))) (nm1 (ne_ob x2.2.2 ht2 (aI_ne (by decide))))
          have XB3 : bagR (xK X) g3 (yxb Y i) (yxc Y i) (yxo Y i) Bk := ⟨cfx, tfx, x3, rpx⟩
          show J X 3 18 g3 83 [(9, .int (nI k)), (8, .int 1), (7, .ref (yR Y i)), (6, .int (nI m9)), (5, .int ot), (4, .int b), (3, .int st), (2, .int a), (1, .int r), (0, .ref x)] []
          refine j_aload hX dX10_fill_83 2 rfl ?_
          refine j_getN (v := .ref (yxb Y i)) hX ri3 rfl wf_X6 1 (by decide) nk_X10_138 (fun _ h => h) rfl dX10_fill_85 ?_
          refine j_aload_n hX dX10_fill_88 9 rfl ?_
          refine j_get (v := .ref (yta Y)) hX hC3.1.1 rfl wf_X10 1 (by decide) lk_X10_15 (fun _ h => h) rfl dX10_fill_89 ?_
          refine j_lconst (v := 1) hX dX10_fill_92 (by decide) ?_
          refine j_callV (As := [.ref (yta Y), .long 1]) (rest := []) hX (c_X0_add (xl X) (xK X) g3 (yxb Y i) (yxc Y i) (yxo Y i) Bk XB3 gB (yta Y) tf3 ht3 1 1 (by decide) (by decide) (by decide)) x3.1 rfl lk_X10_145 wI_X0_add wV_X0_X0_add wN_X0 wC_X0_add hd_X0_add rfl (by rw [hL]; decide) (by decide) rfl (Nat.le_of_ble_eq_true rfl) dX10_fill_93 (by rw [hR]; decide) (by rw [hR]; decide) jx_no ?_
          intro v9 g4 h4
          rw [er3] at h4
          rcases ha : addB (truncR (aw A i) (a + nI k * st, b + nI k * ot, 0, 0)) 1 Bk with _ | B'
          
          · rw [ha] at h4
            obtain ⟨rfl, rfl⟩ := h4
            show J X 3 18 g3 96 [(9, .int (nI k)), (8, .int 1), (7, .ref (yR Y i)), (6, .int (nI m9)), (5, .int ot), (4, .int b), (3, .int st), (2, .int a), (1, .int r), (0, .ref x)] [.int 0]
            refine j_istore (lv' := [(8, .int 0), (9, .int (nI k)), (7, .ref (yR Y i)), (6, .int (nI m9)), (5, .int ot), (4, .int b), (3, .int st), (2, .int a), (1, .int r), (0, .ref x)]) hX dX10_fill_96 (by rw [hn]; decide) rfl ?_
            refine j_iinc (v := nI (k + 1)) (lv' := [(9, .int (nI (k + 1))), (8, .int 0), (7, .ref (yR Y i)), (6, .int (nI m9)), (5, .int ot), (4, .int b), (3, .int st), (2, .int a), (1, .int r), (0, .ref x)]) hX dX10_fill_98 1 rfl (nI_1 k) (by rw [hn]; decide) rfl ?_
            refine j_goto hX 49 dX10_fill_101 (by decide) ?_
            refine j_sub [0, 1, 2, 3, 4, 5, 6, 7, 8, 9] rfl ?_
            exact stop (k + 1) g3 hC3 (hsum.trans (fld_no (q := ((truncR (aw A i) (a + nI k * st, b + nI k * ot, 0, 0)), 1)) (by simp; omega) (by simp [filF]) ha))
          · rw [ha] at h4
            obtain ⟨rfl, XB4, hF4⟩ := h4
            have hC4 := hC3.nextB hi rfl hF4 (by obtain ⟨cf, tf, z, _⟩ := XB4; exact ⟨_, _, _, z⟩)
            show J X 3 18 g4 96 [(9, .int (nI k)), (8, .int 1), (7, .ref (yR Y i)), (6, .int (nI m9)), (5, .int ot), (4, .int b), (3, .int st), (2, .int a), (1, .int r), (0, .ref x)] [.int 1]
            refine j_istore (lv' := [(8, .int 1), (9, .int (nI k)), (7, .ref (yR Y i)), (6, .int (nI m9)), (5, .int ot), (4, .int b), (3, .int st), (2, .int a), (1, .int r), (0, .ref x)]) hX dX10_fill_96 (by rw [hn]; decide) rfl ?_
            refine j_iinc (v := nI (k + 1)) (lv' := [(9, .int (nI (k + 1))), (8, .int 1), (7, .ref (yR Y i)), (6, .int (nI m9)), (5, .int ot), (4, .int b), (3, .int st), (2, .int a), (1, .int r), (0, .ref x)]) hX dX10_fill_98 1 rfl (nI_1 k) (by rw [hn]; decide) rfl ?_
            refine j_goto hX 49 dX10_fill_101 (by decide) ?_
            refine j_sub [0, 1, 2, 3, 4, 5, 6, 7, 8, 9] rfl ?_
            exact ih (k + 1) g4 B' (by omega) hC4 XB4 (addB_good gB ha) (hsum.trans (fld_yes (q := ((truncR (aw A i) (a + nI k * st, b + nI k * ot, 0, 0)), 1)) (by simp; omega) (by simp [filF]) ha))
    refine j_iload hX dX10_fill_7 7 rfl ?_
    refine j_iconst (v := nI 1) hX dX10_fill_9 (by decide) ?_
    refine j_icmp_lt hX 20 dX10_fill_10 (by decide) (fun c_10 => absurd c_10 (by rw [em]; exact nI_nlt hm1 (by omega))) (fun _ => ?_)
    refine j_iload hX dX10_fill_13 7 rfl ?_
    refine j_bipush (v := nI 40) hX dX10_fill_15 (by decide) ?_
    refine j_icmp_le hX 30 dX10_fill_17 (by decide) (fun _ => ?_) (fun c_17 => absurd (by rw [em]; exact nI_le (by omega) (by decide)) c_17)
    refine j_aload hX dX10_fill_30 0 rfl ?_
    refine j_getN (v := .ref (yxb Y i)) hX ri rfl wf_X6 1 (by decide) nk_X10_138 (fun _ h => h) rfl dX10_fill_32 ?_
    refine j_aload hX dX10_fill_35 0 rfl ?_
    refine j_getN (v := .ref (ynb Y i)) hX ri rfl wf_X6 0 (by decide) nk_X10_35 (fun _ h => h) rfl dX10_fill_37 ?_
    refine j_callV (As := [.ref (ynb Y i)]) (rest := []) hX (c_X0_copyFrom (xl X) (xK X) g (yxb Y i) (yxc Y i) (yxo Y i) n2 cf2 tf2 b2 (ynb Y i) (ync Y i) (yno Y i) (aB A i).length cf1 tf9 b1 (d1 i hi i hi).2.2 (d2 i hi i hi).2.2 (d3 i hi i hi).2.2) b2.1 rfl lk_X10_141 wI_X0_copyFrom wV_X0_X0_copyFrom wN_X0 wC_X0_copyFrom hd_X0_copyFrom rfl (by rw [hL]; decide) (by decide) rfl (Nat.le_of_ble_eq_true rfl) dX10_fill_40 (by rw [hR]; decide) (by rw [hR]; decide) jx_no ?_
    rintro _ g2 ⟨rfl, x2, hF2⟩
    have hC2 := hC.nextB hi rfl hF2 ⟨_, _, _, x2⟩
    have XB2 : bagR (xK X) g2 (yxb Y i) (yxc Y i) (yxo Y i) (aB A i) := ⟨_, _, x2, rep_copy rp1 gi.2.1⟩
    show J X 3 18 g2 43 [(7, .ref (yR Y i)), (0, .ref x), (1, .int r), (2, .int a), (3, .int st), (4, .int b), (5, .int ot), (6, .int n)] []
    refine j_iconst (v := 1) hX dX10_fill_43 (by decide) ?_
    refine j_istore (lv' := [(8, .int 1), (7, .ref (yR Y i)), (0, .ref x), (1, .int r), (2, .int a), (3, .int st), (4, .int b), (5, .int ot), (6, .int n)]) hX dX10_fill_44 (by rw [hn]; decide) rfl ?_
    refine j_iconst (v := nI 0) hX dX10_fill_46 (by decide) ?_
    refine j_istore (lv' := [(9, .int (nI 0)), (8, .int 1), (7, .ref (yR Y i)), (0, .ref x), (1, .int r), (2, .int a), (3, .int st), (4, .int b), (5, .int ot), (6, .int n)]) hX dX10_fill_47 (by rw [hn]; decide) rfl ?_
    refine j_sub (lv' := [(9, .int (nI 0)), (8, .int 1), (7, .ref (yR Y i)), (6, .int (nI m9)), (5, .int ot), (4, .int b), (3, .int st), (2, .int a), (1, .int r), (0, .ref x)]) [0, 1, 2, 9, 8, 7, 6, 5, 4, 3] (by rw [em]; rfl) ?_
    exact loop m9 0 g2 (aB A i) (by omega) hC2 XB2 gi rfl

