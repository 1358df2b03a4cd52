theorem vwAt.at {K : Cst} {g g' : Wd} {ad : List Nat} {v kd lr rr dp rw ck : Nat} {n : Nat → Int32} {ot : Bool} (h : vwAt K g v kd lr rr dp rw ck n ot) (hF : Fr g g' ad) (h1 : v ∉ ad) (h2 : kd = 3 → ck ∉ ad) : vwAt K g' v kd lr rr dp rw ck n ot := by
  match kd, h, h2 with
  | 2, h, _ => exact hF.at h h1
  | 3, h, h2 => exact ⟨hF.at h.1 h1, hF.at h.2.1 (h2 rfl), h.2.2⟩
  | 4, h, _ => exact hF.at h h1
  | 5, h, _ => exact hF.at h h1
  | 6, h, _ => exact hF.at h h1
  | 7, h, _ => exact hF.at h h1
  | 8, h, _ => exact hF.at h h1
  | 0, h, _ => exact h.elim
  | 1, h, _ => exact h.elim
  | _ + 9, h, _ => exact h.elim
theorem vwAt.ne {K : Cst} {g : Wd} {v kd lr rr dp rw ck q : Nat} {n : Nat → Int32} {ot : Bool} {e : va_E} (h : vwAt K g v kd lr rr dp rw ck n ot) (hq : g q = some e) (he : (∀ fs, e = ob 0 fs → True) ∧ (∀ ci fs, e = ob ci fs → ci = 0 ∨ ci = 6 ∨ ci = 9 ∨ ci = 10)) : v ≠ q := by
  have key9 : ∀ {ci : Nat} {fs : List Value}, g v = some (ob ci fs) → (ci ≠ 0 ∧ ci ≠ 6 ∧ ci ≠ 9 ∧ ci ≠ 10) → v ≠ q := fun {ci fs} hv hn z => by
    rw [z, hq] at hv
    rcases he.2 ci fs (Option.some.inj hv) with r | r | r | r
    · exact hn.1 r
    · exact hn.2.1 r
    · exact hn.2.2.1 r
    · exact hn.2.2.2 r
  match kd, h with
  | 2, h => exact key9 h (by decide)
  | 3, h => exact key9 h.1 (by decide)
  | 4, h => exact key9 h (by decide)
  | 5, h => exact key9 h (by decide)
  | 6, h => exact key9 h (by decide)
  | 7, h => exact key9 h (by decide)
  | 8, h => exact key9 h (by decide)
  | 0, h => exact h.elim
  | 1, h => exact h.elim
  | _ + 9, h => exact h.elim
/-- what remake leaves: t: the view is touched, o: its rows made anew, C: what it had -/
def remP (K : Cst) (g : Wd) (r nw nx xc xo rw v : Nat) (w ch : Int32) (I : (Nat → Int32) → Prop) (t : Bool) (o : Option Bg) (C : Bg) (a : Option Value) (g' : Wd) : Prop :=
  if t = true then Fr g g' [nx, xc, xo, rw, r] ∧ (∃ rf, g' rw = some (aI K 4 rf) ∧ I rf) ∧ (match o with
    | none => a = some (.int 0) ∧ (∃ n cf tf, isBag K g' nx xc xo n cf tf) ∧ g' r = g r
    | some B' => a = some (.int 1) ∧ bagR K g' nx xc xo B' ∧ good B' ∧ g' r = some (ob 6 [.ref nw, .ref nx, .ref v, .int w, .int (nI (dif B' C)), .int ch]))
  else a = some (.int 1) ∧ g = g'
set_option maxRecDepth 20000 in
set_option maxHeartbeats 600000 in
/-- remake() of no view -/
theorem c_X6_remake_n (l : Launch) (K : Cst) (g : Wd) (r nw nx : Nat) (w pd ch : Int32) (hr : g r = some (ob 6 [.ref nw, .ref nx, .null, .int w, .int pd, .int ch])) : Ct l K yX6_remake cX6_remake 1 (some .boolean) 6 [.ref r] g (fun v g' => v = some (.int 1) ∧ g = g') (fun _ _ => False) 0 0 := by
  refine ct_of (by decide) (Nat.le_of_ble_eq_true rfl) ?_
  intro X hl hK hX hE hn hL hR hm
  subst hl; subst hK
  show J X 0 0 g 0 [(0, .ref r)] []
  refine j_aload_n hX dX6_remake_0 0 rfl ?_
  refine j_get (v := .null) hX hr rfl wf_X6 2 (by decide) lk_X6_19 (fun _ h => h) rfl dX6_remake_1 ?_
  refine j_ifnull_n hX 17 dX6_remake_4 (by decide) ?_
  refine j_iconst (v := 1) hX dX6_remake_17 (by decide) ?_
  exact j_zret hX hE dX6_remake_18 (by first | rfl | decide | assumption) (⟨rfl, rfl⟩) (by decide) (by decide)

set_option maxRecDepth 20000 in
set_option maxHeartbeats 600000 in
/-- remake() -/
theorem c_X6_remake (l : Launch) (K : Cst) (g : Wd) (r nw nx : Nat) (w ch : Int32) (v kd lr rr dp rw ck : Nat) (n : Nat → Int32) (ot : Bool) (hr : g r = some (ob 6 [.ref nw, .ref nx, .ref v, .int w, .int 0, .int ch])) (hv : vwAt K g v kd lr rr dp rw ck n ot) (rf0 : Nat → Int32) (hrw : g rw = some (aI K 4 rf0)) (hri : rowIv kd n rf0)
    (xc xo xn : Nat) (xcf xtf : Nat → Int32) (hXB : isBag K g nx xc xo xn xcf xtf) (nc no : Nat) (C : Bg) (hNB : bagR K g nw nc no C) (gC : good C) (n1 : nw ≠ nx) (n2 : nc ≠ xc) (n3 : no ≠ xo)
    (nwL nxL pL : Nat) (vwL : Value) (wl : Nat) (chL : Int32) (hlr : g lr = some (ob 6 [.ref nwL, .ref nxL, vwL, .int (nI wl), .int (nI pL), .int chL])) (hpL : pL < 2 ^ 31) (lb lca loa : Nat) (L : Bg) (hlb : (if 0 < pL then nxL else nwL) = lb) (hL9 : bagR K g lb lca loa L) (gL : good L) (nb : lb ≠ nx) (nca : lca ≠ xc) (noa : loa ≠ xo)
    (nwB nxB pB : Nat) (vwB : Value) (wr : Nat) (chB : Int32) (hrr : g rr = some (ob 6 [.ref nwB, .ref nxB, vwB, .int (nI wr), .int (nI pB), .int chB])) (hpB : pB < 2 ^ 31) (lbB lcaB loaB : Nat) (LB : Bg) (hlbB : (if 0 < pB then nxB else nwB) = lbB) (hLB9 : bagR K g lbB lcaB loaB LB) (gLB : good LB) (nbB : lbB ≠ nx) (ncaB : lcaB ≠ xc) (noaB : loaB ≠ xo) (hvp : vpOK kd wl n ot) : Ct l K yX6_remake cX6_remake 1 (some .boolean) 6 [.ref r] g (remP K g r nw nx xc xo rw v w ch (rowIv kd n) (decide (0 < pL) || decide (0 < pB)) (evalV kd wl n ot L LB) C) (fun _ _ => False) 0 0 := by
  refine ct_of (by decide) (Nat.le_of_ble_eq_true rfl) ?_
  intro X hl hK hX hE hn hL hR hm
  subst hl; subst hK
  show J X 0 0 g 0 [(0, .ref r)] []
  have n_nx_rw : nx ≠ rw := ne_ob hXB.1 hrw (by simp)
  have n_xc_rw : xc ≠ rw := ne_ob hXB.2.1 hrw (by simp)
  have n_xo_rw : xo ≠ rw := ne_ob hXB.2.2 hrw (by simp)
  have n_r_nx : r ≠ nx := ne_ob hr hXB.1 (by simp)
  have n_r_xc : r ≠ xc := ne_ob hr hXB.2.1 (by simp)
  have n_r_xo : r ≠ xo := ne_ob hr hXB.2.2 (by simp)
  have n_r_rw : r ≠ rw := ne_ob hr hrw (by simp)
  have n_v_nx : v ≠ nx := hv.ne hXB.1 ⟨fun _ _ => trivial, fun ci fs e => by simp at e; omega⟩
  have n_v_r : v ≠ r := hv.ne hr ⟨fun _ _ => trivial, fun ci fs e => by simp at e; omega⟩
  have n_lr_nx : lr ≠ nx := ne_ob hlr hXB.1 (by simp)
  have n_rr_nx : rr ≠ nx := ne_ob hrr hXB.1 (by simp)
  have n_rw_nx := n_nx_rw.symm
  refine j_aload_n hX dX6_remake_0 0 rfl ?_
  refine j_get (v := .ref v) hX hr rfl wf_X6 2 (by decide) lk_X6_19 (fun _ h => h) rfl dX6_remake_1 ?_
  refine j_ifnull_r hX dX6_remake_4 ?_
  refine j_aload_n hX dX6_remake_7 0 rfl ?_
  refine j_get (v := .ref v) hX hr rfl wf_X6 2 (by decide) lk_X6_19 (fun _ h => h) rfl dX6_remake_8 ?_
  refine j_touch hX lk_X6_45 hv nwL nxL nwB nxB pL pB vwL vwB (nI wl) chL (nI wr) chB hlr hrr hpL hpB (by rw [hL]; decide) (by decide) (by rw [hR]; decide) (by rw [hR]; decide) dX6_remake_11 ?_
  show J X 0 0 g 14 [(0, .ref r)] [.int (b01 (decide (0 < pL) || decide (0 < pB)))]
  refine j_if_ne hX 19 dX6_remake_14 (by decide) (fun c_14 => ?_) (fun c_14 => ?_)
  · have c14 : (decide (0 < pL) || decide (0 < pB)) = true := b01_t c_14
    refine j_aload_n hX dX6_remake_19 0 rfl ?_
    refine j_get (v := .ref nx) hX hr rfl wf_X6 1 (by decide) lk_X6_16 (fun _ h => h) rfl dX6_remake_20 ?_
    refine j_callV (As := []) (rest := []) hX (c_X0_clear (xl X) (xK X) g nx xc xo xn xcf xtf hXB) hXB.1 rfl lk_X6_49 wI_X0_clear wV_X0_X0_clear wN_X0 wC_X0_clear hd_X0_clear rfl (by rw [hL]; decide) (by decide) rfl (Nat.le_of_ble_eq_true rfl) dX6_remake_23 (by rw [hR]; decide) (by rw [hR]; decide) jx_no ?_
    rintro _ g1 ⟨rfl, XB1, hF1⟩
    have r1 := Fr.at hF1 hr (nm1 n_r_nx)
    have rw1 := Fr.at hF1 hrw (nm1 n_rw_nx)
    have v1 := vwAt.at hv hF1 (nm1 n_v_nx) (fun q => by subst q; exact nm1 (ne_ob hv.2.1 hXB.1 (by simp)))
    have lr1 := Fr.at hF1 hlr (nm1 n_lr_nx)
    have rr1 := Fr.at hF1 hrr (nm1 n_rr_nx)
    obtain ⟨lf0, lt0, hl0, hlr0⟩ := id hL9
    obtain ⟨lf1, lt1, hl1, hlr1⟩ := id hLB9
    obtain ⟨nf0, nt0, hNB0, hNr0⟩ := id hNB
    have L1 := bagR.at hL9 hF1 (nm1 nb) (nm1 (ne_ob hl0.2.1 hXB.1 (by simp))) (nm1 (ne_ob hl0.2.2 hXB.1 (by simp)))
    have LB1 := bagR.at hLB9 hF1 (nm1 nbB) (nm1 (ne_ob hl1.2.1 hXB.1 (by simp))) (nm1 (ne_ob hl1.2.2 hXB.1 (by simp)))
    have NB1 := bagR.at hNB hF1 (nm1 n1) (nm1 (ne_ob hNB0.2.1 hXB.1 (by simp))) (nm1 (ne_ob hNB0.2.2 hXB.1 (by simp)))
    have I1 : bagR (xK X) g1 nx xc xo [] := ⟨xcf, xtf, XB1, fun k x h => by simp at h⟩
    show J X 0 0 g1 26 [(0, .ref r)] []
    refine j_aload_n hX dX6_remake_26 0 rfl ?_
    refine j_get (v := .ref v) hX r1 rfl wf_X6 2 (by decide) lk_X6_19 (fun _ h => h) rfl dX6_remake_27 ?_
    refine j_aload_n hX dX6_remake_30 0 rfl ?_
    refine j_get (v := .ref nx) hX r1 rfl wf_X6 1 (by decide) lk_X6_16 (fun _ h => h) rfl dX6_remake_31 ?_
    refine j_make hX lk_X6_52 v1 rw1 hri I1 nwL nxL pL vwL wl chL lr1 hpL lb lca loa L hlb L1 gL nb nca noa nwB nxB pB vwB wr chB rr1 hpB lbB lcaB loaB LB hlbB LB1 gLB nbB ncaB noaB hvp (by rw [hL]; decide) (by decide) (by rw [hR]; decide) (by rw [hR]; decide) dX6_remake_34 ?_
    intro o9 g2 h9
    obtain ⟨hF2, ⟨rf2, rw2, hri2⟩, h8⟩ := h9
    have r2 := Fr.at hF2 r1 (nm4 n_r_nx n_r_xc n_r_xo n_r_rw)
    rcases h7 : evalV kd wl n ot L LB with _ | B9
    · rw [h7] at h8
      obtain ⟨rfl, hbf⟩ := h8
      obtain ⟨ifn, if2, it2, iB2⟩ := id hbf
      show J X 0 0 g2 37 [(0, .ref r)] [.int 0]
      refine j_if_ne hX 42 dX6_remake_37 (by decide) (fun c_37 => absurd c_37 (show ¬ ¬ (0 : Int32) = 0 from fun q => q rfl)) (fun _ => ?_)
      refine j_iconst (v := 0) hX dX6_remake_40 (by decide) ?_
      exact j_zret hX hE dX6_remake_41 (by first | rfl | decide | assumption) (by unfold remP; rw [if_pos c14]; exact ⟨(fun q hq => by simp only [List.mem_cons, List.not_mem_nil, or_false, not_or] at hq; rw [hF2 q (by simp [hq.1, hq.2.1, hq.2.2.1, hq.2.2.2.1]), hF1 q (by simp [hq.1])]), ⟨rf2, rw2, hri2⟩, by rw [h7]; exact ⟨rfl, hbf, (r2.trans hr.symm)⟩⟩) (by decide) (by decide)
    · rw [h7] at h8
      obtain ⟨rfl, hB2, gB2⟩ := h8
      obtain ⟨if2, it2, iB2, iRp2⟩ := id hB2
      have NB2 := bagR.at NB1 hF2 (nm4 n1 (ne_ob hNB0.1 hXB.2.1 (by simp)) (ne_ob hNB0.1 hXB.2.2 (by simp)) (ne_ob hNB0.1 hrw (by simp))) (nm4 (ne_ob hNB0.2.1 hXB.1 (by simp)) n2 (ne_ob hNB0.2.1 hXB.2.2 (by simp)) (ne_ob hNB0.2.1 hrw (by simp))) (nm4 (ne_ob hNB0.2.2 hXB.1 (by simp)) (ne_ob hNB0.2.2 hXB.2.1 (by simp)) n3 (ne_ob hNB0.2.2 hrw (by simp)))
      obtain ⟨nf2, nt2, nB2, nRp2⟩ := id NB2
      show J X 0 0 g2 37 [(0, .ref r)] [.int 1]
      refine j_if_ne hX 42 dX6_remake_37 (by decide) (fun _ => ?_) (fun c_37 => absurd c_37 (show ¬ (1 : Int32) = 0 by decide))
      refine j_aload_n hX dX6_remake_42 0 rfl ?_
      refine j_aload_n hX dX6_remake_43 0 rfl ?_
      refine j_get (v := .ref nx) hX r2 rfl wf_X6 1 (by decide) lk_X6_16 (fun _ h => h) rfl dX6_remake_44 ?_
      refine j_aload_n hX dX6_remake_47 0 rfl ?_
      refine j_get (v := .ref nw) hX r2 rfl wf_X6 0 (by decide) lk_X6_10 (fun _ h => h) rfl dX6_remake_48 ?_
      refine j_callV (As := [.ref nw]) (rest := [.ref r]) hX (c_X0_countDifferent (xl X) (xK X) g2 nx xc xo nw nc no B9 C hB2 NB2 gB2 gC) iB2.1 rfl lk_X6_56 wI_X0_countDifferent wV_X0_X0_countDifferent wN_X0 wC_X0_countDifferent hd_X0_countDifferent rfl (by rw [hL]; decide) (by decide) rfl (Nat.le_of_ble_eq_true rfl) dX6_remake_51 (by rw [hR]; decide) (by rw [hR]; decide) jx_no ?_
      rintro _ _ ⟨rfl, rfl⟩
      show J X 0 0 g2 54 [(0, .ref r)] [.int (nI (dif B9 C)), .ref r]
      refine j_put hX r2 rfl wf_X6 tyX6_ok nmX6 4 (by decide) lk_X6_27 (fun _ h => h) rfl (tyX6_ok 4 (by decide)) rfl rfl (Nat.le_of_ble_eq_true rfl) dX6_remake_54 ?_
      obtain ⟨g3, eg3⟩ : ∃ z : Wd, z = up g2 r (ob 6 [.ref nw, .ref nx, .ref v, .int w, .int (nI (dif B9 C)), .int ch]) := ⟨_, rfl⟩
      refine j_w eg3.symm ?_
      have H3_r : g3 r = some (ob 6 [.ref nw, .ref nx, .ref v, .int w, .int (nI (dif B9 C)), .int ch]) := by rw [eg3]; exact up_s _ _ _
      have H3_nx := (congrFun eg3 nx).trans ((up_n (n_r_nx.symm)).trans (iB2.1))
      have H3_nw := (congrFun eg3 nw).trans ((up_n ((ne_ob nB2.1 r2 (by simp)))).trans (nB2.1))
      refine j_iconst (v := 1) hX dX6_remake_57 (by decide) ?_
      exact j_zret hX hE dX6_remake_58 (by first | rfl | decide | assumption) (by unfold remP; rw [if_pos c14]; exact ⟨(fun q hq => by simp only [List.mem_cons, List.not_mem_nil, or_false, not_or] at hq; rw [eg3, up_n hq.2.2.2.2, hF2 q (by simp [hq.1, hq.2.1, hq.2.2.1, hq.2.2.2.1]), hF1 q (by simp [hq.1])]), ⟨rf2, by rw [eg3, up_n n_r_rw.symm]; exact rw2, hri2⟩, by rw [h7]; exact ⟨rfl, bagR.at hB2 (fun q hq => by rw [eg3, up_n (by simpa using hq)]) (nm1 n_r_nx.symm) (nm1 n_r_xc.symm) (nm1 n_r_xo.symm), gB2, H3_r⟩⟩) (by decide) (by decide)
  · have c14 := b01_f c_14
    refine j_iconst (v := 1) hX dX6_remake_17 (by decide) ?_
    exact j_zret hX hE dX6_remake_18 (by first | rfl | decide | assumption) (by unfold remP; rw [if_neg c14]; exact ⟨rfl, rfl⟩) (by decide) (by decide)

