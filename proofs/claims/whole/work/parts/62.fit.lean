theorem CS.latest {K : Cst} {g : Wd} {x : Nat} {A : Ab} {Y : Lt} {ch : Nat → Int32} {p : Nat → Nat} {N : Nat → Bg} (hC : CS K g x A Y ch p N) {j : Nat} (hj : j < 8) (w0 : 0 < aw A j) : ∃ lb lc lo, (if 0 < p j then yxb Y j else ynb Y j) = lb ∧ bagR K g lb lc lo (Mf A p N j) ∧ ∀ r, r < 8 → j ≠ r → lb ≠ yxb Y r ∧ lc ≠ yxc Y r ∧ lo ≠ yxo Y r := by
  obtain ⟨_, ⟨n1, cf1, tf1, b1, q1⟩, ⟨n2, cf2, tf2, b2, q2⟩, _, _⟩ := hC.2.2.1 j hj
  obtain ⟨dR, ⟨d1, d2, d3⟩, d4⟩ := hC.2.2.2
  by_cases hp : 0 < p j
  · obtain ⟨e, rp⟩ := q2 hp
    subst e
    exact ⟨yxb Y j, yxc Y j, yxo Y j, if_pos hp, by unfold Mf; rw [if_pos hp]; exact ⟨cf2, tf2, b2, rp⟩, fun r hr hn => ⟨fun q => hn ((d1 j hj r hr).2.1 q), fun q => hn ((d2 j hj r hr).2.1 q), fun q => hn ((d3 j hj r hr).2.1 q)⟩⟩
  · obtain ⟨e, rp⟩ := q1 w0
    subst e
    exact ⟨ynb Y j, ync Y j, yno Y j, if_neg hp, by unfold Mf; rw [if_neg hp]; exact ⟨cf1, tf1, b1, rp⟩, fun r hr hn => ⟨(d1 j hj r hr).2.2, (d2 j hj r hr).2.2, (d3 j hj r hr).2.2⟩⟩
theorem rem_step {K : Cst} {g g3 : Wd} {x : Nat} {A : Ab} {Y : Lt} {ch : Nat → Int32} {p : Nat → Nat} {N : Nat → Bg} {t d r : Nat} {B' : Bg} {v9 : Option Value} (hC : CS K g x A Y ch p N) (hI : Inv A) (hV : VI A t B' p N d r) (hr : r < 8) (hd : ad A r = d) (k : 2 ≤ ak A r)
    (h : remP K g (yR Y r) (ynb Y r) (yxb Y r) (yxc Y r) (yxo Y r) (yw Y r) (yV Y r) (nI (aw A r)) (ch r) (rowIv (ak A r) (an A r)) (decide (0 < p (al A r)) || decide (0 < p (ar A r))) (evalV (ak A r) (aw A (al A r)) (an A r) (ao A r) (Mf A p N (al A r)) (Mf A p N (ar A r))) (aB A r) v9 g3) :
    (v9 = some (.int 1) ∧ ∃ p' N', CS K g3 x A Y ch p' N' ∧ VI A t B' p' N' d (r + 1)) ∨ (v9 = some (.int 0) ∧ (∃ p' N', CS K g3 x A Y ch p' N' ∧ ∀ i, i < 8 → p' i ≤ 40) ∧ ∀ N', ¬ Upd A t B' N') := by
  have s := hI.src hr k
  have hp0 : p r = 0 := hV.2.2 r hr (by unfold Pr; omega)
  obtain ⟨h1, ⟨n1, cf1, tf1, b1, q1⟩, ⟨n2, cf2, tf2, b2, q2⟩, h4, h5⟩ := hC.2.2.1 r hr
  obtain ⟨tf0, ht0, _⟩ := hC.2.1
  obtain ⟨dR, ⟨d1, d2, d3⟩, d4⟩ := hC.2.2.2
  unfold remP at h
  split at h
  · obtain ⟨hF, hrw, ho⟩ := h
    have hFam : Fam g g3 A Y r := fun q e hq z1 z2 z3 z4 z5 z6 z7 z8 z9 => (hF q (by simp [z1, z5, z6, z7, z9 k])).trans hq
    obtain ⟨rf, c1, c2⟩ := (h4 k).2
    have n_of : ∀ q, q ≠ yxb Y r → q ≠ yxc Y r → q ≠ yxo Y r → q ≠ yw Y r → q ≠ yR Y r → g3 q = g q := fun q z1 z2 z3 z4 z5 => hF q (by simp [z1, z2, z3, z4, z5])
    have b1' : isBag K g3 (ynb Y r) (ync Y r) (yno Y r) n1 cf1 tf1 := ⟨(n_of _ (d1 r hr r hr).2.2 (ne_ob b1.1 b2.2.1 ob_aI) (ne_ob b1.1 b2.2.2 ob_aI) (ne_ob b1.1 c1 ob_aI) (ne_ob b1.1 h1 (ob_ci (by decide)))).trans b1.1,
      (n_of _ (ne_ob b1.2.1 b2.1 aI_ob) (d2 r hr r hr).2.2 (ne_ob b1.2.1 b2.2.2 (aI_ne (by decide))) (ne_ob b1.2.1 c1 (aI_ne (by decide))) (ne_ob b1.2.1 h1 aI_ob)).trans b1.2.1,
      (n_of _ (ne_ob b1.2.2 b2.1 aI_ob) (ne_ob b1.2.2 b2.2.1 (aI_ne (by decide))) (d3 r hr r hr).2.2 (ne_ob b1.2.2 c1 (aI_ne (by decide))) (ne_ob b1.2.2 h1 aI_ob)).trans b1.2.2⟩
    have t3 : rwI K g3 (yta Y) (fun _ => True) := ⟨tf0, (n_of _ (ne_ob ht0 b2.1 aI_ob) (ne_ob ht0 b2.2.1 (aI_ne (by decide))) (ne_ob ht0 b2.2.2 (aI_ne (by decide))) (d4 r hr k).1.symm (ne_ob ht0 h1 aI_ob)).trans ht0, trivial⟩
    rcases he : evalV (ak A r) (aw A (al A r)) (an A r) (ao A r) (Mf A p N (al A r)) (Mf A p N (ar A r)) with _ | B2
    · rw [he] at ho
      obtain ⟨e9, ⟨n9, cf9, tf9, hb9⟩, hr9⟩ := ho
      refine Or.inr ⟨e9, ⟨p, N, ?_, fun i hi => hV.le hI hi⟩, hV.no hI hr hd k he⟩
      refine hC.put hr hFam t3 ⟨rfl, rfl, rfl⟩ ?_ hC.2.2.2 (fun j _ => ⟨rfl, rfl, rfl, rfl, rfl, rfl⟩) (fun j _ => ⟨rfl, rfl, rfl⟩) (fun j _ => ⟨rfl, rfl, rfl, rfl, rfl, rfl, rfl, rfl, rfl⟩) (fun j _ => ⟨rfl, rfl, rfl⟩)
      exact ⟨hr9.trans h1, ⟨n1, cf1, tf1, b1', q1⟩, ⟨n9, cf9, tf9, hb9, fun q => absurd q (by omega)⟩, fun _ => ⟨hFam.vw hC hr hr k, hrw⟩, h5⟩
    · rw [he] at ho
      obtain ⟨e9, ⟨cf9, tf9, hb9, rp9⟩, gB, hr9⟩ := ho
      refine Or.inl ⟨e9, fu p r (dif B2 (aB A r)), fu N r B2, ?_, hV.made hI hr hd k he gB⟩
      refine hC.put hr hFam t3 ⟨rfl, rfl, rfl⟩ ?_ hC.2.2.2 (fun j _ => ⟨rfl, rfl, rfl, rfl, rfl, rfl⟩) (fun j _ => ⟨rfl, rfl, rfl⟩) (fun j _ => ⟨rfl, rfl, rfl, rfl, rfl, rfl, rfl, rfl, rfl⟩) (fun j h => ⟨rfl, fu_n h, fu_n h⟩)
      unfold RI
      rw [fu_s, fu_s]
      refine ⟨?_, ⟨n1, cf1, tf1, b1', q1⟩, ⟨_, cf9, tf9, hb9, fun _ => ⟨rfl, rp9⟩⟩, fun _ => ⟨hFam.vw hC hr hr k, hrw⟩, h5⟩
      rw [show vwf A Y r = .ref (yV Y r) from if_pos k]
      exact hr9
  · rename_i ht
    obtain ⟨e9, rfl⟩ := h
    have h1 : p (al A r) = 0 := Nat.eq_zero_of_not_pos (fun q => ht (by simp [q]))
    have h2 : p (ar A r) = 0 := Nat.eq_zero_of_not_pos (fun q => ht (by simp [q]))
    exact Or.inl ⟨e9, p, N, hC, hV.same hI hr hd k h1 h2⟩
set_option maxRecDepth 20000 in
set_option maxHeartbeats 600000 in
/-- viewsFit(table) -/
theorem c_X10_viewsFit (l : Launch) (K : Cst) (g : Wd) (x : Nat) (A : Ab) (Y : Lt) (ch : Nat → Int32) (N : Nat → Bg) (hC : CS K g x A Y ch (fun _ => 0) N) (hI : Inv A) (t : Nat) (ht : t < 8) (kt : ak A t = 1) (B' : Bg) (hXB : bagR K g (yxb Y t) (yxc Y t) (yxo Y t) B') (gB : good B') : Ct l K yX10_viewsFit cX10_viewsFit 7 (some .boolean) 7 [.ref x, .ref (yR Y t)] g (fun v g' => (v = some (.int 1) ∧ ∃ p N', CS K g' x A Y ch p N' ∧ (∀ i, i < 8 → p i ≤ 40) ∧ Upd A t B' (Mf A p N') ∧ ∀ i, i < 8 → p i = dif (Mf A p N' i) (aB A i)) ∨ (v = some (.int 0) ∧ (∃ p N', CS K g' x A Y ch p N' ∧ ∀ i, i < 8 → p i ≤ 40) ∧ ∀ N', ¬ Upd A t B' N')) (fun _ _ => False) 0 0 := by
  refine ct_of (by decide) (Nat.le_of_ble_eq_true rfl) ?_
  intro X hl hK hX hE hn hL hR hm
  subst hl; subst hK
  show J X 0 0 g 0 [(0, .ref x), (1, .ref (yR Y t))] []
  have outer : ∀ (md d : Nat) (g : Wd), d + md = 8 → 1 ≤ d → (∃ p N', CS (xK X) g x A Y ch p N' ∧ VI A t B' p N' d 0) → J X 0 0 g 17 [(2, .int (nI d)), (1, .ref (yR Y t)), (0, .ref x)] [] := by
    intro md
    induction md with
    | zero =>
      intro d g hd8 hd1 hinv
      obtain ⟨p, N', hC1, hV1⟩ := hinv
      refine j_iload_n hX dX10_viewsFit_17 0 rfl ?_
      refine j_bipush (v := nI 8) hX dX10_viewsFit_18 (by decide) ?_
      refine j_icmp_ge hX 79 dX10_viewsFit_20 (by decide) (fun _ => ?_) (fun c_20 => absurd (nI_le (a := 8) (b := d) (by omega) (by omega)) c_20)
      refine j_iconst (v := 1) hX dX10_viewsFit_79 (by decide) ?_
      exact j_zret hX hE dX10_viewsFit_80 (by first | rfl | decide | assumption) (Or.inl ⟨rfl, p, N', hC1, fun i hi => hV1.le hI hi, (VI.fin hI (show VI A t B' p N' 8 0 by rw [← show d = 8 by omega]; exact hV1)).1, (VI.fin hI (show VI A t B' p N' 8 0 by rw [← show d = 8 by omega]; exact hV1)).2⟩) (by decide) (by decide)
    | succ md ihd =>
        intro d g hd8 hd1 hinv
        obtain ⟨p, N', hC1, hV1⟩ := hinv
        obtain ⟨f9, hra, hf9⟩ := hC1.1.2
        have inner : ∀ (mr r : Nat) (g : Wd), r + mr = 8 → (∃ p N', CS (xK X) g x A Y ch p N' ∧ VI A t B' p N' d r) → J X 0 0 g 35 [(5, .int (nI r)), (4, .int (nI 8)), (3, .ref (yra Y)), (2, .int (nI d)), (1, .ref (yR Y t)), (0, .ref x)] [] := by
          intro mr
          induction mr with
          | zero =>
            intro r g hr8 hinv
            obtain ⟨p, N', hC1, hV1⟩ := hinv
            refine j_iload hX dX10_viewsFit_35 0 rfl ?_
            refine j_iload hX dX10_viewsFit_37 1 rfl ?_
            refine j_icmp_ge hX 73 dX10_viewsFit_39 (by decide) (fun _ => ?_) (fun c_39 => absurd (nI_le (a := 8) (b := r) (by omega) (by omega)) c_39)
            refine j_iinc (v := nI (d + 1)) (lv' := [(2, .int (nI (d + 1))), (5, .int (nI r)), (4, .int (nI 8)), (3, .ref (yra Y)), (1, .ref (yR Y t)), (0, .ref x)]) hX dX10_viewsFit_73 3 rfl (nI_1 d) (by rw [hn]; decide) rfl ?_
            refine j_goto hX 17 dX10_viewsFit_76 (by decide) ?_
            refine j_sub [0, 4, 5] rfl ?_
            exact ihd (d + 1) g (by omega) (by omega) ⟨p, N', hC1, (show VI A t B' p N' d 8 by rw [← show r = 8 by omega]; exact hV1).next⟩
          | succ mr ihr =>
            intro r g hr8 hinv
            have hr : r < 8 := by omega
            obtain ⟨p, N', hC1, hV1⟩ := hinv
            obtain ⟨f9, hra, hf9⟩ := hC1.1.2
            refine j_iload hX dX10_viewsFit_35 0 rfl ?_
            refine j_iload hX dX10_viewsFit_37 1 rfl ?_
            refine j_icmp_ge hX 73 dX10_viewsFit_39 (by decide) (fun c_39 => absurd c_39 (nI_ge (a := r) (b := 8) (by omega) (by decide))) (fun _ => ?_)
            refine j_aload_n hX dX10_viewsFit_42 2 rfl ?_
            refine j_iload hX dX10_viewsFit_43 0 rfl ?_
            refine j_aaldN hX hra (r) (rfl) (hr) (by decide) (hf9 r hr) dX10_viewsFit_45 ?_
            have rr9 : g (yR Y r) = some (ob 6 [.ref (ynb Y r), .ref (yxb Y r), vwf A Y r, .int (nI (aw A r)), .int (nI (p r)), .int (ch r)]) := (hC1.2.2.1 r hr).1
            refine j_astore (lv' := [(6, .ref (yR Y r)), (5, .int (nI r)), (4, .int (nI 8)), (3, .ref (yra Y)), (2, .int (nI d)), (1, .ref (yR Y t)), (0, .ref x)]) hX dX10_viewsFit_46 (by rw [hn]; decide) rfl ?_
            refine j_aload hX dX10_viewsFit_48 0 rfl ?_
            refine j_callV (As := []) (rest := []) hX (c_X6_dep (xl X) (xK X) g (yR Y r) (ad A r) (hC1.dep hI hr)) rr9 rfl lk_X10_226 wI_X6_depth wV_X6_X6_depth wN_X6 wC_X6_depth hd_X6_depth rfl (by rw [hL]; decide) (by decide) rfl (Nat.le_of_ble_eq_true rfl) dX10_viewsFit_50 (by rw [hR]; decide) (by rw [hR]; decide) jx_no ?_
            rintro _ _ ⟨rfl, rfl⟩
            show J X 0 0 g 53 [(6, .ref (yR Y r)), (5, .int (nI r)), (4, .int (nI 8)), (3, .ref (yra Y)), (2, .int (nI d)), (1, .ref (yR Y t)), (0, .ref x)] [.int (nI (ad A r))]
            refine j_iload_n hX dX10_viewsFit_53 4 rfl ?_
            refine j_icmp_ne hX 67 dX10_viewsFit_54 (by decide) (fun c_54 => ?_) (fun C54 => ?_)
            · refine j_iinc (v := nI (r + 1)) (lv' := [(5, .int (nI (r + 1))), (6, .ref (yR Y r)), (4, .int (nI 8)), (3, .ref (yra Y)), (2, .int (nI d)), (1, .ref (yR Y t)), (0, .ref x)]) hX dX10_viewsFit_67 1 rfl (nI_1 r) (by rw [hn]; decide) rfl ?_
              refine j_goto hX 35 dX10_viewsFit_70 (by decide) ?_
              refine j_sub [0, 2, 3, 4, 5, 6] rfl ?_
              exact ihr (r + 1) g (by omega) (⟨p, N', hC1, hV1.skip (fun q => c_54 (by rw [q]))⟩)
            · have c54 : ad A r = d := (nI_eq (by have := hI.dp hr; omega) (by omega)).mp C54
              have k9 : 2 ≤ ak A r := Classical.byContradiction fun z => by have := (hI r hr).2.2.2.1 (by omega); omega
              have s9 := hI.src hr k9
              obtain ⟨⟨wl0, wr0⟩, _⟩ : (0 < aw A (al A r) ∧ 0 < aw A (ar A r)) ∧ True := ⟨((hI r hr).2.2.2.2 k9).1.2.2, trivial⟩
              obtain ⟨_, ⟨n1, cf1, tf1, b1, q1⟩, ⟨n2, cf2, tf2, b2, q2⟩, h4, h5⟩ := hC1.2.2.1 r hr
              obtain ⟨hv9, rf9, hrw9, hri9⟩ := h4 k9
              obtain ⟨e1, rp1⟩ := q1 (Nat.pos_of_ne_zero fun z => by have := (hI r hr).1.2.2.1.mpr z; omega)
              subst e1
              have NB9 : bagR (xK X) g (ynb Y r) (ync Y r) (yno Y r) (aB A r) := ⟨cf1, tf1, b1, rp1⟩
              have gC9 := (hI r hr).2.2.1.1
              obtain ⟨dR, ⟨d1, d2, d3⟩, d4⟩ := hC1.2.2.2
              have hp0 : p r = 0 := hV1.2.2 r hr (by unfold Pr; omega)
              have rr8 : g (yR Y r) = some (ob 6 [.ref (ynb Y r), .ref (yxb Y r), .ref (yV Y r), .int (nI (aw A r)), .int 0, .int (ch r)]) := by
                have z := rr9
                rw [hp0, show vwf A Y r = .ref (yV Y r) from if_pos k9] at z
                exact z
              have rl9 := (hC1.2.2.1 (al A r) s9.1.1).1
              have rR9 := (hC1.2.2.1 (ar A r) s9.1.2).1
              obtain ⟨lb, lc, lo, elb, hLl, nl⟩ := hC1.latest s9.1.1 wl0
              obtain ⟨mb, mc, mo, emb, hLr, nr9⟩ := hC1.latest s9.1.2 wr0
              have nlr : al A r ≠ r := fun q => by have := s9.2.1; rw [q] at this; omega
              have nrr : ar A r ≠ r := fun q => by have := s9.2.2; rw [q] at this; omega
              refine j_aload hX dX10_viewsFit_57 0 rfl ?_
              refine j_callV (As := []) (rest := []) hX (c_X6_remake (xl X) (xK X) g (yR Y r) (ynb Y r) (yxb Y r) (nI (aw A r)) (ch r) (yV Y r) (ak A r) (yR Y (al A r)) (yR Y (ar A r)) (ad A r) (yw Y r) (yk Y r) (an A r) (ao A r) rr8 hv9 rf9 hrw9 hri9 (yxc Y r) (yxo Y r) n2 cf2 tf2 b2 (ync Y r) (yno Y r) (aB A r) NB9 gC9 (d1 r hr r hr).2.2 (d2 r hr r hr).2.2 (d3 r hr r hr).2.2 (ynb Y (al A r)) (yxb Y (al A r)) (p (al A r)) (vwf A Y (al A r)) (aw A (al A r)) (ch (al A r)) rl9 (by have := hV1.le hI s9.1.1; omega) lb lc lo (Mf A p N' (al A r)) elb hLl (hV1.gd hI s9.1.1) (nl r hr nlr).1 (nl r hr nlr).2.1 (nl r hr nlr).2.2 (ynb Y (ar A r)) (yxb Y (ar A r)) (p (ar A r)) (vwf A Y (ar A r)) (aw A (ar A r)) (ch (ar A r)) rR9 (by have := hV1.le hI s9.1.2; omega) mb mc mo (Mf A p N' (ar A r)) emb hLr (hV1.gd hI s9.1.2) (nr9 r hr nrr).1 (nr9 r hr nrr).2.1 (nr9 r hr nrr).2.2 ((hI r hr).2.2.2.2 k9).2.1) rr9 rfl lk_X10_230 wI_X6_remake wV_X6_X6_remake wN_X6 wC_X6_remake hd_X6_remake rfl (by rw [hL]; decide) (by decide) rfl (Nat.le_of_ble_eq_true rfl) dX10_viewsFit_59 (by rw [hR]; decide) (by rw [hR]; decide) jx_no ?_
              rintro v9 g3 h3
              rcases rem_step hC1 hI hV1 hr c54 k9 h3 with ⟨rfl, hinv3⟩ | ⟨rfl, hfail⟩
              · show J X 0 0 g3 62 [(6, .ref (yR Y r)), (5, .int (nI r)), (4, .int (nI 8)), (3, .ref (yra Y)), (2, .int (nI d)), (1, .ref (yR Y t)), (0, .ref x)] [.int 1]
                refine j_if_ne hX 67 dX10_viewsFit_62 (by decide) (fun _ => ?_) (fun c_62 => absurd c_62 (by decide))
                refine j_iinc (v := nI (r + 1)) (lv' := [(5, .int (nI (r + 1))), (6, .ref (yR Y r)), (4, .int (nI 8)), (3, .ref (yra Y)), (2, .int (nI d)), (1, .ref (yR Y t)), (0, .ref x)]) hX dX10_viewsFit_67 1 rfl (nI_1 r) (by rw [hn]; decide) rfl ?_
                refine j_goto hX 35 dX10_viewsFit_70 (by decide) ?_
                refine j_sub [0, 2, 3, 4, 5, 6] rfl ?_
                exact ihr (r + 1) g3 (by omega) (hinv3)
              · show J X 0 0 g3 62 [(6, .ref (yR Y r)), (5, .int (nI r)), (4, .int (nI 8)), (3, .ref (yra Y)), (2, .int (nI d)), (1, .ref (yR Y t)), (0, .ref x)] [.int 0]
                refine j_if_ne hX 67 dX10_viewsFit_62 (by decide) (fun c_62 => absurd c_62 (fun q => q rfl)) (fun _ => ?_)
                refine j_iconst (v := 0) hX dX10_viewsFit_65 (by decide) ?_
                exact j_zret hX hE dX10_viewsFit_66 (by first | rfl | decide | assumption) (Or.inr ⟨rfl, hfail⟩) (by decide) (by decide)
        refine j_iload_n hX dX10_viewsFit_17 0 rfl ?_
        refine j_bipush (v := nI 8) hX dX10_viewsFit_18 (by decide) ?_
        refine j_icmp_ge hX 79 dX10_viewsFit_20 (by decide) (fun c_20 => absurd c_20 (nI_ge (a := d) (b := 8) (by omega) (by decide))) (fun _ => ?_)
        refine j_aload_n hX dX10_viewsFit_23 2 rfl ?_
        refine j_get (v := .ref (yra Y)) hX hC1.1.1 rfl wf_X10 0 (by decide) lk_X10_11 (fun _ h => h) rfl dX10_viewsFit_24 ?_
        refine j_astore_n (lv' := [(3, .ref (yra Y)), (2, .int (nI d)), (1, .ref (yR Y t)), (0, .ref x)]) hX dX10_viewsFit_27 (by rw [hn]; decide) rfl ?_
        refine j_aload_n hX dX10_viewsFit_28 0 rfl ?_
        refine j_alenQ hX hra dX10_viewsFit_29 ?_
        refine j_istore (lv' := [(4, .int (nI 8)), (3, .ref (yra Y)), (2, .int (nI d)), (1, .ref (yR Y t)), (0, .ref x)]) hX dX10_viewsFit_30 (by rw [hn]; decide) rfl ?_
        refine j_iconst (v := nI 0) hX dX10_viewsFit_32 (by decide) ?_
        refine j_istore (lv' := [(5, .int (nI 0)), (4, .int (nI 8)), (3, .ref (yra Y)), (2, .int (nI d)), (1, .ref (yR Y t)), (0, .ref x)]) hX dX10_viewsFit_33 (by rw [hn]; decide) rfl ?_
        refine j_sub (lv' := [(5, .int (nI 0)), (4, .int (nI 8)), (3, .ref (yra Y)), (2, .int (nI d)), (1, .ref (yR Y t)), (0, .ref x)]) [0, 1, 2, 3, 4, 5] rfl ?_
        exact inner 8 0 g (by omega) ⟨p, N', hC1, hV1⟩
  have w0 : 0 < aw A t := Nat.pos_of_ne_zero fun z => by have := (hI t ht).1.2.2.1.mpr z; omega
  obtain ⟨rt, ⟨n1, cf1, tf1, b1, q1⟩, _⟩ := hC.2.2.1 t ht
  obtain ⟨e1, rp1⟩ := q1 w0
  subst e1
  have NB : bagR (xK X) g (ynb Y t) (ync Y t) (yno Y t) (aB A t) := ⟨cf1, tf1, b1, rp1⟩
  have gC := (hI t ht).2.2.1.1
  obtain ⟨cfx, tfx, x9, rpx⟩ := id hXB
  refine j_aload_n hX dX10_viewsFit_0 1 rfl ?_
  refine j_aload_n hX dX10_viewsFit_1 1 rfl ?_
  refine j_getN (v := .ref (yxb Y t)) hX rt rfl wf_X6 1 (by decide) nk_X10_138 (fun _ h => h) rfl dX10_viewsFit_2 ?_
  refine j_aload_n hX dX10_viewsFit_5 1 rfl ?_
  refine j_getN (v := .ref (ynb Y t)) hX rt rfl wf_X6 0 (by decide) nk_X10_35 (fun _ h => h) rfl dX10_viewsFit_6 ?_
  refine j_callV (As := [.ref (ynb Y t)]) (rest := [.ref (yR Y t)]) hX (c_X0_countDifferent (xl X) (xK X) g (yxb Y t) (yxc Y t) (yxo Y t) (ynb Y t) (ync Y t) (yno Y t) B' (aB A t) hXB NB gB gC) x9.1 rfl lk_X10_219 wI_X0_countDifferent wV_X0_X0_countDifferent wN_X0 wC_X0_countDifferent hd_X0_countDifferent rfl (by rw [hL]; decide) (by decide) rfl (Nat.le_of_ble_eq_true rfl) dX10_viewsFit_9 (by rw [hR]; decide) (by rw [hR]; decide) jx_no ?_
  rintro _ _ ⟨rfl, rfl⟩
  show J X 0 0 g 12 [(0, .ref x), (1, .ref (yR Y t))] [.int (nI (dif B' (aB A t))), .ref (yR Y t)]
  refine j_putN hX rt rfl wf_X6 tyX6_ok nmX6 4 (by decide) nk_X10_223 (fun _ h => h) rfl (tyX6_ok 4 (by decide)) rfl rfl (Nat.le_of_ble_eq_true rfl) dX10_viewsFit_12 ?_
  obtain ⟨g1, eg1⟩ : ∃ z : Wd, z = up g (yR Y t) (ob 6 [.ref (ynb Y t), .ref (yxb Y t), vwf A Y t, .int (nI (aw A t)), .int (nI (dif B' (aB A t))), .int (ch t)]) := ⟨_, rfl⟩
  refine j_w eg1.symm ?_
  have k1_yRYt : g1 (yR Y t) = some (ob 6 [.ref (ynb Y t), .ref (yxb Y t), vwf A Y t, .int (nI (aw A t)), .int (nI (dif B' (aB A t))), .int (ch t)]) := by rw [eg1]; exact up_s _ _ _
  have e3 : ∀ q, q ≠ yR Y t → g1 q = g q := fun q hq => by rw [eg1]; exact up_n hq
  obtain ⟨tf0, ht0, _⟩ := hC.2.1
  obtain ⟨_, _, _, h4, h5⟩ := hC.2.2.1 t ht
  have hFam : Fam g g1 A Y t := fun q e hq z1 _ _ _ _ _ _ _ _ => (e3 q z1).trans hq
  have hC9 : CS (xK X) g1 x A Y ch (fu (fun _ => 0) t (dif B' (aB A t))) (fu N t B') := by
    refine hC.put ht hFam ⟨tf0, (e3 _ (ne_ob ht0 rt aI_ob)).trans ht0, trivial⟩ ⟨rfl, rfl, rfl⟩ ?_ hC.2.2.2 (fun j _ => ⟨rfl, rfl, rfl, rfl, rfl, rfl⟩) (fun j _ => ⟨rfl, rfl, rfl⟩) (fun j _ => ⟨rfl, rfl, rfl, rfl, rfl, rfl, rfl, rfl, rfl⟩) (fun j h => ⟨rfl, fu_n h, fu_n h⟩)
    unfold RI
    rw [fu_s, fu_s]
    exact ⟨k1_yRYt, ⟨_, cf1, tf1, ⟨(e3 _ (ne_ob b1.1 rt (ob_ci (by decide)))).trans b1.1, (e3 _ (ne_ob b1.2.1 rt aI_ob)).trans b1.2.1, (e3 _ (ne_ob b1.2.2 rt aI_ob)).trans b1.2.2⟩, fun _ => ⟨rfl, rp1⟩⟩, ⟨_, cfx, tfx, ⟨(e3 _ (ne_ob x9.1 rt (ob_ci (by decide)))).trans x9.1, (e3 _ (ne_ob x9.2.1 rt aI_ob)).trans x9.2.1, (e3 _ (ne_ob x9.2.2 rt aI_ob)).trans x9.2.2⟩, fun _ => ⟨rfl, rpx⟩⟩, fun q => absurd q (by omega), h5⟩
  have k1_yxbYt := (congrFun eg1 (yxb Y t)).trans ((up_n (by first | exact ne_ob (x9.1) (rt) (by first | simp | decide | (intro h9; cases h9) | (simp only [ne_eq]; intro h9; injection h9 with h8; simp at h8)) | assumption | (apply Ne.symm; assumption))).trans (x9.1))
  have k1_ynbYt := (congrFun eg1 (ynb Y t)).trans ((up_n (by first | exact ne_ob (b1.1) (rt) (by first | simp | decide | (intro h9; cases h9) | (simp only [ne_eq]; intro h9; injection h9 with h8; simp at h8)) | assumption | (apply Ne.symm; assumption))).trans (b1.1))
  refine j_iconst (v := nI 1) hX dX10_viewsFit_15 (by decide) ?_
  refine j_istore_n (lv' := [(2, .int (nI 1)), (0, .ref x), (1, .ref (yR Y t))]) hX dX10_viewsFit_16 (by rw [hn]; decide) rfl ?_
  refine j_sub (lv' := [(2, .int (nI 1)), (1, .ref (yR Y t)), (0, .ref x)]) [0, 2, 1] rfl ?_
  exact outer 7 1 g1 (by omega) (by omega) ⟨fu (fun _ => 0) t (dif B' (aB A t)), fu N t B', hC9, VI.start hI ht kt gB _ rfl⟩

