set_option maxRecDepth 20000 in
set_option maxHeartbeats 600000 in
/-- makeView(made, columns, view) -/
theorem c_X10_makeView (l : Launch) (K : Cst) (g0 g : Wd) (hlt : l.stackTraces = false) (x : Nat) (A : Ab) (Y : Lt) (ch : Nat → Int32) (N : Nat → Bg) (hC : CS K g0 x A Y ch (fun _ => 0) N) (hI : Inv A) (i : Nat) (hi : i < 8) (h0 : aw A i = 0) (hs : Sub g0 g) (v w kd ll rr rw ck : Nat) (n : Nat → Int32) (ot : Bool) (hk : 2 ≤ kd) (fv : g0 v = none) (frw : g0 rw = none) (fck : kd = 3 → g0 ck = none) (hv : vwAt K g v kd (yR Y ll) (yR Y rr) (1 + max (ad A ll) (ad A rr)) rw ck n ot) (hrw : g rw = some (aI K 4 (fun _ => 0))) (hl8 : ll < 8) (hr8 : rr < 8) (wl0 : 0 < aw A ll) (wr0 : 0 < aw A rr) (hvp : vpOK kd (aw A ll) n ot) : Ct l K yX10_makeView cX10_makeView 3 none 6 [.ref (yR Y i), .int (nI w), .ref v] g (fun v9 g' => v9 = none ∧ ∃ B, evalV kd (aw A ll) n ot (aB A ll) (aB A rr) = some B ∧ CSx K g' x (setA A i w kd ll rr n ot B)) (fun E g' => E = exn 4 ∧ evalV kd (aw A ll) n ot (aB A ll) (aB A rr) = none ∧ CSx K g' x A) 1 6 := by
  refine ct_of (by decide) (Nat.le_of_ble_eq_true rfl) ?_
  intro X hl hK hX hE hn hL hR hm
  subst hl; subst hK
  show J X 0 0 g 0 [(0, .ref (yR Y i)), (1, .int (nI w)), (2, .ref v)] []
  have hk0 : ak A i = 0 := (hI i hi).1.2.2.1.mpr h0
  have hCg := hC.sub hs
  obtain ⟨r1, ⟨n1, cf1, tf1, b1, _⟩, ⟨n2, cf2, tf2, b2, _⟩, _, _⟩ := hCg.2.2.1 i hi
  have ev : vwf A Y i = .null := by unfold vwf; rw [if_neg (by omega)]
  rw [ev, h0] at r1
  obtain ⟨rl, ⟨nl, cfl, tfl, bl, hbl⟩, _⟩ := hCg.2.2.1 ll hl8
  obtain ⟨rR, ⟨nr, cfr, tfr, br, hbr⟩, _⟩ := hCg.2.2.1 rr hr8
  obtain ⟨dR, ⟨d1, d2, d3⟩, d4⟩ := hC.2.2.2
  have nli : ll ≠ i := fun q => by rw [q] at wl0; omega
  have nri : rr ≠ i := fun q => by rw [q] at wr0; omega
  obtain ⟨el, rpl⟩ := hbl wl0
  obtain ⟨er, rpr⟩ := hbr wr0
  subst el; subst er
  have n_rw : ∀ {q e}, g0 q = some e → q ≠ rw := fun h => ne_fr h frw
  have z1 := hC.cells hi
  obtain ⟨⟨f1, c1⟩, ⟨f2, c2⟩, ⟨f3, c3⟩, ⟨f4, c4⟩, ⟨f5, c5⟩, ⟨f6, c6⟩, ⟨f7, c7⟩, ⟨f8, c8⟩, _⟩ := z1
  have nR : yR Y i ∉ [ynb Y i, ync Y i, yno Y i, rw] := nm4 (ne_ob c1 c2 (ob_ci (by decide))) (ne_ob c1 c3 ob_aI) (ne_ob c1 c4 ob_aI) (n_rw c1)
  have n_R_nb : yR Y i ≠ ynb Y i := ne_ob c1 c2 (ob_ci (by decide))
  have n_rw_nb : rw ≠ ynb Y i := (n_rw c2).symm
  have n_xb : yxb Y i ∉ [ynb Y i, ync Y i, yno Y i, rw] := nm4 (d1 i hi i hi).2.2.symm (ne_ob c5 c3 ob_aI) (ne_ob c5 c4 ob_aI) (n_rw c5)
  have n_xc : yxc Y i ∉ [ynb Y i, ync Y i, yno Y i, rw] := nm4 (ne_ob c6 c2 aI_ob) (d2 i hi i hi).2.2.symm (ne_ob c6 c4 (aI_ne (by decide))) (n_rw c6)
  have n_xo : yxo Y i ∉ [ynb Y i, ync Y i, yno Y i, rw] := nm4 (ne_ob c7 c2 aI_ob) (ne_ob c7 c3 (aI_ne (by decide))) (d3 i hi i hi).2.2.symm (n_rw c7)
  have n_ta : yta Y ∉ [ynb Y i, ync Y i, yno Y i, rw] := nm4 (ne_ob c8 c2 aI_ob) (ne_ob c8 c3 (aI_ne (by decide))) (ne_ob c8 c4 (aI_ne (by decide))) (n_rw c8)
  have n_v : ∀ {q e}, g q = some e → (∀ ci fs, e = ob ci fs → ci = 0 ∨ ci = 6 ∨ ci = 9 ∨ ci = 10) → v ≠ q := fun hq h9 => hv.ne hq ⟨fun _ _ => trivial, h9⟩
  have nv : v ∉ [ynb Y i, ync Y i, yno Y i, rw] := nm4 (n_v b1.1 (fun ci fs e => by simp at e; omega)) (n_v b1.2.1 (fun ci fs e => by cases e)) (n_v b1.2.2 (fun ci fs e => by cases e)) (n_v hrw (fun ci fs e => by cases e))
  have nvR : v ≠ yR Y i := n_v r1 (fun ci fs e => by simp at e; omega)
  have nck9 : kd = 3 → g ck = some (aI (xK X) 4 n) ∧ ck ≠ rw := fun e => by subst e; exact hv.2
  have nck : kd = 3 → ck ∉ [ynb Y i, ync Y i, yno Y i, rw] := fun e => nm4 (ne_ob (nck9 e).1 b1.1 aI_ob) (ne_ob (nck9 e).1 b1.2.1 (aI_ne (by decide))) (ne_ob (nck9 e).1 b1.2.2 (aI_ne (by decide))) (nck9 e).2
  refine j_aload_n hX dX10_makeView_0 0 rfl ?_
  refine j_getN (v := .ref (ynb Y i)) hX r1 rfl wf_X6 0 (by decide) nk_X10_35 (fun _ h => h) rfl dX10_makeView_1 ?_
  refine j_callV (As := []) (rest := []) hX (c_X0_clear (xl X) (xK X) g (ynb Y i) (ync Y i) (yno Y i) n1 cf1 tf1 b1) b1.1 rfl lk_X10_39 wI_X0_clear wV_X0_X0_clear wN_X0 wC_X0_clear hd_X0_clear rfl (by rw [hL]; decide) (by decide) rfl (Nat.le_of_ble_eq_true rfl) dX10_makeView_4 (by rw [hR]; decide) (by rw [hR]; decide) jx_no ?_
  rintro _ g1 ⟨rfl, B1, hF1⟩
  have e1 : ∀ q, q ≠ ynb Y i → g1 q = g q := fun q hq => hF1 q (nm1 hq)
  have s1 : g1 (yR Y i) = _ := (e1 _ n_R_nb).trans r1
  have hv1 := hv.at hF1 (fun q => nv (by simp at q; simp [q])) (fun e q => nck e (by simp at q; simp [q]))
  have hrw1 := (e1 _ n_rw_nb).trans hrw
  have Bl1 : bagR (xK X) g1 (ynb Y ll) (ync Y ll) (yno Y ll) (aB A ll) := ⟨cfl, tfl, ⟨(e1 _ (fun q => nli ((d1 ll hl8 i hi).1 q))).trans bl.1, (e1 _ (ne_ob bl.2.1 b1.1 aI_ob)).trans bl.2.1, (e1 _ (ne_ob bl.2.2 b1.1 aI_ob)).trans bl.2.2⟩, rpl⟩
  have Br1 : bagR (xK X) g1 (ynb Y rr) (ync Y rr) (yno Y rr) (aB A rr) := ⟨cfr, tfr, ⟨(e1 _ (fun q => nri ((d1 rr hr8 i hi).1 q))).trans br.1, (e1 _ (ne_ob br.2.1 b1.1 aI_ob)).trans br.2.1, (e1 _ (ne_ob br.2.2 b1.1 aI_ob)).trans br.2.2⟩, rpr⟩
  have rl1 := (e1 _ (ne_ob rl b1.1 (ob_ci (by decide)))).trans rl
  have rR1 := (e1 _ (ne_ob rR b1.1 (ob_ci (by decide)))).trans rR
  have B1e : bagR (xK X) g1 (ynb Y i) (ync Y i) (yno Y i) [] := ⟨cf1, tf1, B1, fun k y hy => by simp at hy⟩
  show J X 0 0 g1 7 [(0, .ref (yR Y i)), (1, .int (nI w)), (2, .ref v)] []
  refine j_aload_n hX dX10_makeView_7 2 rfl ?_
  refine j_aload_n hX dX10_makeView_8 0 rfl ?_
  refine j_getN (v := .ref (ynb Y i)) hX s1 rfl wf_X6 0 (by decide) nk_X10_35 (fun _ h => h) rfl dX10_makeView_9 ?_
  refine j_make hX lk_X10_208 hv1 hrw1 (fun _ => ⟨rfl, rfl, fun _ => rfl⟩) B1e _ _ 0 _ _ _ rl1 (by decide) (ynb Y ll) (ync Y ll) (yno Y ll) (aB A ll) (if_neg (by decide)) Bl1 (hI ll hl8).2.2.1.1 (fun q => nli ((d1 ll hl8 i hi).1 q)) (fun q => nli ((d2 ll hl8 i hi).1 q)) (fun q => nli ((d3 ll hl8 i hi).1 q)) _ _ 0 _ _ _ rR1 (by decide) (ynb Y rr) (ync Y rr) (yno Y rr) (aB A rr) (if_neg (by decide)) Br1 (hI rr hr8).2.2.1.1 (fun q => nri ((d1 rr hr8 i hi).1 q)) (fun q => nri ((d2 rr hr8 i hi).1 q)) (fun q => nri ((d3 rr hr8 i hi).1 q)) hvp (by rw [hL]; decide) (by decide) (by rw [hR]; decide) (by rw [hR]; decide) dX10_makeView_12 ?_
  rintro o9 g2 ⟨hF2, hrw2, hm9⟩
  have s2 := (hF2 _ nR).trans s1
  have t2 : rwI (xK X) g2 (yta Y) (fun _ => True) := by
    obtain ⟨tf9, ht9, _⟩ := hCg.2.1
    exact ⟨tf9, (hF2 _ n_ta).trans ((e1 _ (fun q => n_ta (by rw [q]; simp))).trans ht9), trivial⟩
  have x2 : ∃ n cf tf, isBag (xK X) g2 (yxb Y i) (yxc Y i) (yxo Y i) n cf tf := ⟨n2, cf2, tf2, (hF2 _ n_xb).trans ((e1 _ (fun q => n_xb (by rw [q]; simp))).trans b2.1), (hF2 _ n_xc).trans ((e1 _ (fun q => n_xc (by rw [q]; simp))).trans b2.2.1), (hF2 _ n_xo).trans ((e1 _ (fun q => n_xo (by rw [q]; simp))).trans b2.2.2)⟩
  have hv2 := hv1.at hF2 nv nck
  rcases ho : evalV kd (aw A ll) n ot (aB A ll) (aB A rr) with _ | B9
  · rw [ho] at hm9
    obtain ⟨rfl, n9, cf9, tf9, hb9⟩ := hm9
    show J X 0 0 g2 15 [(0, .ref (yR Y i)), (1, .int (nI w)), (2, .ref v)] [.int 0]
    refine j_if_ne hX 28 dX10_makeView_15 (by decide) (fun q => absurd rfl q) (fun _ => ?_)
    exact j_UOE hX hE hlt sk_X10_216 (by rw [hL]; decide) (Nat.le_of_ble_eq_true rfl) dX10_makeView_18 dX10_makeView_21 dX10_makeView_22 dX10_makeView_24 dX10_makeView_27 (⟨rfl, ho, Y, ch, N, hC.put hi (fun q e hq h1 h2 h3 h4 h5 h6 h7 h8 h9 => by
        have hq2 : q ∉ [ynb Y i, ync Y i, yno Y i, rw] := nm4 h2 h3 h4 (n_rw hq)
        rw [hF2 q hq2, e1 q h2]; exact hs q e hq) t2 ⟨rfl, rfl, rfl⟩ ⟨by rw [ev, h0]; exact s2, ⟨n9, cf9, tf9, hb9, fun q => absurd q (by omega)⟩, by obtain ⟨a, b, c, hh⟩ := x2; exact ⟨a, b, c, hh, fun q => absurd q (Nat.lt_irrefl 0)⟩, fun q => absurd q (by omega), fun q => absurd q (by omega)⟩ hC.2.2.2 (fun j _ => ⟨rfl, rfl, rfl, rfl, rfl, rfl⟩) (fun j _ => ⟨rfl, rfl, rfl⟩) (fun j _ => ⟨rfl, rfl, rfl, rfl, rfl, rfl, rfl, rfl, rfl⟩) (fun j _ => ⟨rfl, rfl, rfl⟩)⟩) (by decide) (by decide) (by rw [hR]; decide) (by rw [hR]; decide)
  · rw [ho] at hm9
    obtain ⟨rfl, hb9, gb9⟩ := hm9
    show J X 0 0 g2 15 [(0, .ref (yR Y i)), (1, .int (nI w)), (2, .ref v)] [.int 1]
    refine j_if_ne hX 28 dX10_makeView_15 (by decide) (fun _ => ?_) (fun q => absurd q (by decide))
    refine j_aload_n hX dX10_makeView_28 0 rfl ?_
    refine j_iload_n hX dX10_makeView_29 1 rfl ?_
    refine j_aload_n hX dX10_makeView_30 2 rfl ?_
    refine j_callV (As := [.int (nI w), .ref v]) (rest := []) hX (c_X6_begin_r (xl X) (xK X) g2 (yR Y i) (ynb Y i) (yxb Y i) (nI 0) (nI 0) (ch i) .null (nI w) v s2) s2 rfl lk_X10_44 wI_X6_begin wV_X6_X6_begin wN_X6 wC_X6_begin hd_X6_begin rfl (by rw [hL]; decide) (by decide) rfl (Nat.le_of_ble_eq_true rfl) dX10_makeView_31 (by rw [hR]; decide) (by rw [hR]; decide) jx_no ?_
    rintro _ g3 ⟨rfl, eg3⟩
    have e3 : ∀ q, q ≠ yR Y i → g3 q = g2 q := fun q hq => by rw [← eg3]; exact up_n hq
    have s3 := (congrFun eg3 (yR Y i)).symm.trans (up_s _ _ _)
    have hF3 : Fr g2 g3 [yR Y i] := fun q hq => e3 q (by simpa using hq)
    have hv3 := hv2.at hF3 (by simpa using nvR) (fun e => by simpa using ne_ob (nck9 e).1 r1 aI_ob)
    obtain ⟨cf9, tf9, hb9, rp9⟩ := hb9
    obtain ⟨rf2, hrw2, hri2⟩ := hrw2
    obtain ⟨nx9, cfx, tfx, hx9⟩ := x2
    obtain ⟨tft, ht9, _⟩ := t2
    show J X 0 0 g3 34 [(0, .ref (yR Y i)), (1, .int (nI w)), (2, .ref v)] []
    exact j_vret hX hE dX10_makeView_34 (⟨rfl, B9, ho, setY Y i v rw ck, fu ch i 0, N, hC.view hi (fun q e hq h1 h2 h3 h4 h5 h6 h7 h8 h9 => by
        have hq2 : q ∉ [ynb Y i, ync Y i, yno Y i, rw] := nm4 h2 h3 h4 (n_rw hq)
        rw [e3 q h1, hF2 q hq2, e1 q h2]; exact hs q e hq) ⟨tft, (e3 _ (ne_ob ht9 s2 aI_ob)).trans ht9, trivial⟩ hk hk0 fv frw fck (fun e => (nck9 e).2) s3 ⟨cf9, tf9, ⟨(e3 _ (ne_ob hb9.1 s2 (ob_ci (by decide)))).trans hb9.1, (e3 _ (ne_ob hb9.2.1 s2 aI_ob)).trans hb9.2.1, (e3 _ (ne_ob hb9.2.2 s2 aI_ob)).trans hb9.2.2⟩, rp9⟩ ⟨nx9, cfx, tfx, (e3 _ (ne_ob hx9.1 s2 (ob_ci (by decide)))).trans hx9.1, (e3 _ (ne_ob hx9.2.1 s2 aI_ob)).trans hx9.2.1, (e3 _ (ne_ob hx9.2.2 s2 aI_ob)).trans hx9.2.2⟩ hv3 ⟨rf2, (e3 _ (ne_ob hrw2 s2 aI_ob)).trans hrw2, hri2⟩⟩) (by decide) (by decide)

