theorem addB_tms {B B' : Bg} (hs : srt B) {T : Row} {M : Int} (h0 : 0 ≤ (tms B T : Int) + M) (ha : addB T M B = some B') : (tms B' T : Int) = (tms B T : Int) + M := by
  rcases has_or B T with ⟨x, hx, he⟩ | hx
  · have ht : tms B T = x.2 := by rw [← he]; exact tms_at hs hx
    rw [ht] at h0 ⊢
    rw [addB_in hx he] at ha
    split at ha
    · cases ha
    · split at ha
      · cases ha
        rw [tms_no (fun k y hy e => ?_)]
        · omega
        · rw [List.getElem?_eraseIdx] at hy
          rw [← he] at e
          split at hy
          · have := hs k _ (by assumption) y x hy hx
            rw [e] at this; omega
          · have := hs _ (k + 1) (by omega) x y hx hy
            rw [e] at this; omega
      · cases ha
        have hl := rep_lt hx
        have e1 : (B.set (plc B T) (T, ((x.2 : Int) + M).toNat))[plc B T]? = some (T, ((x.2 : Int) + M).toNat) := by rw [List.getElem?_set_self hl]
        have e2 := tms_at (by have := srt_set (m := ((x.2 : Int) + M).toNat) hs hx; rw [he] at this; exact this) e1
        rw [e2]; omega
  · have ht : tms B T = 0 := by
      unfold tms
      cases h : B[plc B T]? with
      | none => rfl
      | some x => simp only; rw [if_neg (hx x h)]
    rw [ht] at h0 ⊢
    rw [addB_out hx] at ha
    split at ha
    · cases ha; rw [ht]; omega
    · split at ha
      · cases ha
      · cases ha
        have e1 : (B.insertIdx (plc B T) (T, M.toNat))[plc B T]? = some (T, M.toNat) := by rw [List.getElem?_insertIdx_self, if_pos (plc_le B T)]
        rw [tms_at (srt_insert hs hx) e1]; omega
theorem okP_i {B : Bg} (hB : good B) {T : Row} {n : Int32} (h : okP (tms B T) n) : -1000000 ≤ n.toInt ∧ n.toInt ≤ 1000000 ∧ n.toInt ≠ 0 ∧ 0 ≤ (tms B T : Int) + n.toInt ∧ nI (tms B T) + n = nI ((tms B T : Int) + n.toInt).toNat := by
  obtain ⟨h1, h2, h3, h4⟩ := h
  have ht := tms_le hB T
  have q2 := Int32.le_iff_toInt_le.mp (Int32.not_lt.mp h2)
  have q3 := Int32.le_iff_toInt_le.mp h3
  rw [show (-1000000 : Int32).toInt = -1000000 from rfl] at q2
  rw [show (1000000 : Int32).toInt = 1000000 from rfl] at q3
  have q4 := Int32.le_iff_toInt_le.mp h4
  rw [Int32.toInt_add, nI_toInt (by omega), Int.bmod_eq_of_le (by omega) (by omega), show (0 : Int32).toInt = 0 from rfl] at q4
  exact ⟨q2, q3, fun e => h1 (Int32.toInt_inj.mp (by rw [e]; rfl)), q4, nI_plus ht q3 q4⟩
theorem chg_c {B : Bg} {T : Row} {n : Int32} (h1 : n.toInt ≠ 0) (h2 : 0 ≤ (tms B T : Int) + n.toInt) (hs : srt B) : 0 < n.toInt ∨ (n.toInt < 0 ∧ ∃ x, B[plc B T]? = some x ∧ x.1 = T ∧ 0 ≤ (x.2 : Int) + n.toInt) := by
  by_cases q : 0 < n.toInt
  · exact Or.inl q
  · refine Or.inr ⟨by omega, ?_⟩
    rcases has_or B T with ⟨x, hx, he⟩ | hx
    · have : tms B T = x.2 := by rw [← he]; exact tms_at hs hx
      exact ⟨x, hx, he, by omega⟩
    · have ht : tms B T = 0 := by
        unfold tms
        cases h : B[plc B T]? with
        | none => rfl
        | some x => simp only; rw [if_neg (hx x h)]
      omega
def PVo (K : Cst) (m : Nat) (O : Nat → Ab → Prop) (va : Ab → Int32) : Option Value → Wd → Prop := fun r g' => ∃ (k : Nat) (v : Int32) (A' : Ab), r = some (.int v) ∧ O k A' ∧ RX K g' m (nI k) A' ∧ (k = 0 → v = va A')
set_option maxRecDepth 20000 in
set_option maxHeartbeats 1600000 in
/-- c_X11_put -/
theorem c_X11_put (l : Launch) (K : Cst) (g : Wd) (m : Nat) (Q : Nat → Nat) (th fi : Int32) (F : Nat → Nat → Int32) (Od : List Nat) (hS : RS K g m Q th (nI Od.length) fi F) (A : Ab) (hI : Inv A) (hA : RA A Od F) (r a b c d n : Int32) : Ct l K yX11_put cX11_put 8 (some .int) 5 [.ref m, .int r, .int a, .int b, .int c, .int d, .int n] g (PVo K m (putO A r a b c d n) (fun _ => nI (tms (aB A (vnat r)) (rowP A r a b c d)) + n)) (fun _ _ => False) 0 0 := by
  refine ct_of (by decide) (Nat.le_of_ble_eq_true rfl) ?_
  intro X hl hK hX hE hn hL hR hm
  subst hl; subst hK
  show J X 0 0 g 0 [(0, .ref m), (1, .int r), (2, .int a), (3, .int b), (4, .int c), (5, .int d), (6, .int n)] []
  refine j_aload_n hX dX11_put_0 0 rfl ?_
  refine j_iload_n hX dX11_put_1 2 rfl ?_
  refine j_iload_n hX dX11_put_2 3 rfl ?_
  refine j_iload hX dX11_put_3 4 rfl ?_
  refine j_iload hX dX11_put_5 5 rfl ?_
  refine j_callV (As := [.int a, .int b, .int c, .int d]) (rest := []) hX (c_X11_setRow (xl X) (xK X) g m Q th (nI Od.length) fi F hS a b c d) hS.1 rfl lk_X11_147 wI_X11_setRow wV_X11_X11_setRow wN_X11 wC_X11_setRow hd_X11_setRow rfl (by rw [hL]; decide) (by decide) rfl (Nat.le_of_ble_eq_true rfl) dX11_put_7 (by rw [hR]; decide) (by rw [hR]; decide) jx_no ?_
  rintro _ g7 ⟨rfl, F7, hS7, k7, r7⟩
  show J X 0 0 g7 10 [(0, .ref m), (1, .int r), (2, .int a), (3, .int b), (4, .int c), (5, .int d), (6, .int n)] []
  have hA7 : RA A Od F7 := hA.kp (fun j hj => k7 j (by omega))
  have K36 : ∀ y : Bool, (y = true ↔ ¬ n = 0 ∧ ¬ n < -1000000 ∧ n ≤ 1000000) → J X 0 0 g7 36 [(7, .int (b01 y)), (0, .ref m), (1, .int r), (2, .int a), (3, .int b), (4, .int c), (5, .int d), (6, .int n)] [] := by
    intro y hy
    by_cases hP : isR A r
    · obtain ⟨ri, hri, rfl, hwr⟩ := hP
      have hw4 := (hI ri hri).1.1
      have hak8 := (hI ri hri).1.2.1
      have hakp := ((hA7.free hI hri).2 hwr).1
      obtain ⟨T, hT⟩ : ∃ T, T = truncR (aw A ri) (a, b, c, d) := ⟨_, rfl⟩
      have hTr : rowP A (nI ri) a b c d = T := by unfold rowP; rw [vnat_nI (by omega), hT]
      by_cases hk1 : ak A ri = 1
      · cases y with
        | false =>
          show J X 0 0 g7 36 [(7, .int (b01 false)), (0, .ref m), (1, .int (nI ri)), (2, .int a), (3, .int b), (4, .int c), (5, .int d), (6, .int n)] []
          refine j_aload_n hX dX11_put_36 1 rfl ?_
          refine j_aload_n hX dX11_put_37 1 rfl ?_
          refine j_iload_n hX dX11_put_38 2 rfl ?_
          refine j_callV (As := [.int (nI ri)]) (rest := [.ref m]) hX (c_X11_is (xl X) (xK X) g7 m Q th (nI Od.length) fi F7 hS7 (nI ri)) hS7.1 rfl lk_X11_113 wI_X11_is wV_X11_X11_is wN_X11 wC_X11_is hd_X11_is rfl (by rw [hL]; decide) (by decide) rfl (Nat.le_of_ble_eq_true rfl) dX11_put_39 (by rw [hR]; decide) (by rw [hR]; decide) jx_no ?_
          rintro _ _ ⟨b9, rfl, hb9, rfl⟩
          obtain rfl : b9 = true := hb9.mpr ((hA7.is hI _).mpr ⟨ri, hri, rfl, hwr⟩)
          clear hb9
          show J X 0 0 g7 42 [(7, .int (b01 false)), (0, .ref m), (1, .int (nI ri)), (2, .int a), (3, .int b), (4, .int c), (5, .int d), (6, .int n)] [.int (b01 true), .ref m]
          refine j_if_ne hX 49 dX11_put_42 (by decide) (fun _ => ?_) (fun c_42 => absurd c_42 (by decide))
          refine j_aload_n hX dX11_put_49 1 rfl ?_
          refine j_get (v := .ref (Q 0)) hX hS7.1 rfl wf_X11 1 (by decide) lk_X11_7 (fun _ h => h) rfl dX11_put_50 ?_
          refine j_iload_n hX dX11_put_53 2 rfl ?_
          refine j_ialdN hX (show g7 (Q 0) = some (aI (xK X) 8 (F7 0)) from hS7.2.1 0 (by decide)) (ri) (rfl) (hri) (by decide) dX11_put_54 ?_
          refine j_eqi (y := nI (ak A ri)) ((hA7.2.2 ri hri).1.1) ?_
          refine j_iconst (v := nI 1) hX dX11_put_55 (by decide) ?_
          refine j_icmp_eq hX 63 dX11_put_56 (by decide) (fun _ => ?_) (fun c_56 => absurd (congrArg nI hk1) c_56)
          refine j_iload hX dX11_put_63 0 rfl ?_
          refine j_if_eq hX 79 dX11_put_65 (by decide) (fun _ => ?_) (fun c_65 => absurd (by decide) c_65)
          refine j_iconst (v := nI 3) hX dX11_put_79 (by decide) ?_
          refine j_goto hX 84 dX11_put_80 (by decide) ?_
          refine j_put hX hS7.1 rfl wf_X11 tyX11_ok nmX11 0 (by decide) lk_X11_56 (fun _ h => h) rfl (tyX11_ok 0 (by decide)) rfl rfl (Nat.le_of_ble_eq_true rfl) dX11_put_84 ?_
          obtain ⟨g1, eg1⟩ : ∃ z : Wd, z = up g7 m (ob 10 [.int (nI 3), .ref (Q 0), .ref (Q 1), .ref (Q 2), .ref (Q 3), .ref (Q 4), .ref (Q 5), .ref (Q 6), .int (nI Od.length), .ref (Q 7), .ref (Q 8), .ref (Q 9), .ref (Q 10), .ref (Q 11), .ref (Q 12), .ref (Q 13), .int fi, .ref (Q 14)]) := ⟨_, rfl⟩
          refine j_w eg1.symm ?_
          have hS1 : RS (xK X) g1 m Q (nI 3) (nI Od.length) fi F7 := by rw [eg1]; exact hS7.obj _ _ _
          refine j_aload_n hX dX11_put_87 1 rfl ?_
          refine j_get (v := .int (nI 3)) hX hS1.1 rfl wf_X11 0 (by decide) lk_X11_56 (fun _ h => h) rfl dX11_put_88 ?_
          refine j_if_le hX 96 dX11_put_91 (by decide) (fun c_91 => absurd c_91 (by decide)) (fun _ => ?_)
          refine j_iconst (v := nI 0) hX dX11_put_94 (by decide) ?_
          exact j_iret hX hE dX11_put_95 (⟨3, _, A, rfl, Or.inr (Or.inr (Or.inl ⟨rfl, ⟨ri, hri, rfl, hwr⟩, by rw [vnat_nI (by omega)]; omega, fun q => absurd (hy.mpr ⟨q.1, q.2.1, q.2.2.1⟩) (by decide), rfl⟩)), ⟨Q, Od, fi, F7, hS1, hA7⟩, fun q => absurd q (by decide)⟩) (by decide) (by decide)
        | true =>
          by_cases hsg : 0 ≤ nI (tms (aB A ri) T) + n
          · have hok : okP (tms (aB A (vnat (nI ri))) (rowP A (nI ri) a b c d)) n := by rw [vnat_nI (by omega), hTr]; exact ⟨(hy.mp rfl).1, (hy.mp rfl).2.1, (hy.mp rfl).2.2, hsg⟩
            have ho := okP_i (hI ri hri).2.2.1.1 (show okP (tms (aB A ri) T) n from ⟨(hy.mp rfl).1, (hy.mp rfl).2.1, (hy.mp rfl).2.2, hsg⟩)
            show J X 0 0 g7 36 [(7, .int (b01 true)), (0, .ref m), (1, .int (nI ri)), (2, .int a), (3, .int b), (4, .int c), (5, .int d), (6, .int n)] []
            refine j_aload_n hX dX11_put_36 1 rfl ?_
            refine j_aload_n hX dX11_put_37 1 rfl ?_
            refine j_iload_n hX dX11_put_38 2 rfl ?_
            refine j_callV (As := [.int (nI ri)]) (rest := [.ref m]) hX (c_X11_is (xl X) (xK X) g7 m Q th (nI Od.length) fi F7 hS7 (nI ri)) hS7.1 rfl lk_X11_113 wI_X11_is wV_X11_X11_is wN_X11 wC_X11_is hd_X11_is rfl (by rw [hL]; decide) (by decide) rfl (Nat.le_of_ble_eq_true rfl) dX11_put_39 (by rw [hR]; decide) (by rw [hR]; decide) jx_no ?_
            rintro _ _ ⟨b9, rfl, hb9, rfl⟩
            obtain rfl : b9 = true := hb9.mpr ((hA7.is hI _).mpr ⟨ri, hri, rfl, hwr⟩)
            clear hb9
            show J X 0 0 g7 42 [(7, .int (b01 true)), (0, .ref m), (1, .int (nI ri)), (2, .int a), (3, .int b), (4, .int c), (5, .int d), (6, .int n)] [.int (b01 true), .ref m]
            refine j_if_ne hX 49 dX11_put_42 (by decide) (fun _ => ?_) (fun c_42 => absurd c_42 (by decide))
            refine j_aload_n hX dX11_put_49 1 rfl ?_
            refine j_get (v := .ref (Q 0)) hX hS7.1 rfl wf_X11 1 (by decide) lk_X11_7 (fun _ h => h) rfl dX11_put_50 ?_
            refine j_iload_n hX dX11_put_53 2 rfl ?_
            refine j_ialdN hX (show g7 (Q 0) = some (aI (xK X) 8 (F7 0)) from hS7.2.1 0 (by decide)) (ri) (rfl) (hri) (by decide) dX11_put_54 ?_
            refine j_eqi (y := nI (ak A ri)) ((hA7.2.2 ri hri).1.1) ?_
            refine j_iconst (v := nI 1) hX dX11_put_55 (by decide) ?_
            refine j_icmp_eq hX 63 dX11_put_56 (by decide) (fun _ => ?_) (fun c_56 => absurd (congrArg nI hk1) c_56)
            refine j_iload hX dX11_put_63 0 rfl ?_
            refine j_if_eq hX 79 dX11_put_65 (by decide) (fun c_65 => absurd c_65 (by decide)) (fun _ => ?_)
            refine j_aload_n hX dX11_put_68 1 rfl ?_
            refine j_iload_n hX dX11_put_69 2 rfl ?_
            refine j_callV (As := [.int (nI ri)]) (rest := [.ref m]) hX (c_X11_timesHere (xl X) (xK X) g7 m Q th (nI Od.length) fi F7 hS7 ri (aw A ri) (aB A) hri (hA7.2.2 ri hri).1.2 hwr hw4 (fun q hq => (hA7.2.2 q hq).2.1) (((hI ri hri).2.2.1.1).wk (hI ri hri).2.2.1.2) T (by rw [r7]; exact hT)) hS7.1 rfl lk_X11_153 wI_X11_timesHere wV_X11_X11_timesHere wN_X11 wC_X11_timesHere hd_X11_timesHere rfl (by rw [hL]; decide) (by decide) rfl (Nat.le_of_ble_eq_true rfl) dX11_put_70 (by rw [hR]; decide) (by rw [hR]; decide) jx_no ?_
            rintro _ g8 ⟨rfl, F8, hS8, k8⟩
            have hA8 : RA A Od F8 := hA7.kp (fun j hj => k8 j (by omega))
            show J X 0 0 g8 73 [(7, .int (b01 true)), (0, .ref m), (1, .int (nI ri)), (2, .int a), (3, .int b), (4, .int c), (5, .int d), (6, .int n)] [.int (nI (tms (aB A ri) T)), .ref m]
            refine j_iload hX dX11_put_73 7 rfl ?_
            refine j_iadd hX dX11_put_75 ?_
            refine j_if_ge hX 83 dX11_put_76 (by decide) (fun _ => ?_) (fun c_76 => absurd hsg c_76)
            refine j_iconst (v := nI 0) hX dX11_put_83 (by decide) ?_
            refine j_put hX hS8.1 rfl wf_X11 tyX11_ok nmX11 0 (by decide) lk_X11_56 (fun _ h => h) rfl (tyX11_ok 0 (by decide)) rfl rfl (Nat.le_of_ble_eq_true rfl) dX11_put_84 ?_
            obtain ⟨g1, eg1⟩ : ∃ z : Wd, z = up g8 m (ob 10 [.int (nI 0), .ref (Q 0), .ref (Q 1), .ref (Q 2), .ref (Q 3), .ref (Q 4), .ref (Q 5), .ref (Q 6), .int (nI Od.length), .ref (Q 7), .ref (Q 8), .ref (Q 9), .ref (Q 10), .ref (Q 11), .ref (Q 12), .ref (Q 13), .int fi, .ref (Q 14)]) := ⟨_, rfl⟩
            refine j_w eg1.symm ?_
            have hS1 : RS (xK X) g1 m Q (nI 0) (nI Od.length) fi F8 := by rw [eg1]; exact hS8.obj _ _ _
            refine j_aload_n hX dX11_put_87 1 rfl ?_
            refine j_get (v := .int (nI 0)) hX hS1.1 rfl wf_X11 0 (by decide) lk_X11_56 (fun _ h => h) rfl dX11_put_88 ?_
            refine j_if_le hX 96 dX11_put_91 (by decide) (fun _ => ?_) (fun c_91 => absurd (by decide) c_91)
            refine j_aload_n hX dX11_put_96 1 rfl ?_
            refine j_callV (As := []) (rest := []) hX (c_X11_begin (xl X) (xK X) g1 m Q (nI 0) (nI Od.length) fi F8 hS1 (aB A) (fun q hq => (hA8.2.2 q hq).2.1) (fun q hq => (hI q hq).2.2.1.1.2.1)) hS1.1 rfl lk_X11_123 wI_X11_begin wV_X11_X11_begin wN_X11 wC_X11_begin hd_X11_begin rfl (by rw [hL]; decide) (by decide) rfl (Nat.le_of_ble_eq_true rfl) dX11_put_97 (by rw [hR]; decide) (by rw [hR]; decide) jx_no ?_
            rintro _ gb ⟨rfl, Fb, hSb, kb, hNb⟩
            have hAb : RA A Od Fb := hA8.kp (fun j hj => kb j (by omega) (by omega) (by omega))
            show J X 0 0 gb 100 [(7, .int (b01 true)), (0, .ref m), (1, .int (nI ri)), (2, .int a), (3, .int b), (4, .int c), (5, .int d), (6, .int n)] []
            refine j_aload_n hX dX11_put_100 1 rfl ?_
            refine j_iload_n hX dX11_put_101 2 rfl ?_
            refine j_iload hX dX11_put_102 7 rfl ?_
            refine j_callV (As := [.int (nI ri), .int n]) (rest := []) hX (c_X11_change (xl X) (xK X) gb m Q (nI 0) (nI Od.length) true Fb hSb ri (aw A ri) (aB A ri) hri (hAb.2.2 ri hri).1.2 hwr hw4 (hNb ri hri) (((hI ri hri).2.2.1.1).wk (hI ri hri).2.2.1.2) T (by rw [kb 14 (by decide) (by decide) (by decide), k8 14 (by decide), r7]; exact hT) n ho.2.1 (chg_c ho.2.2.1 ho.2.2.2.1 (hI ri hri).2.2.1.1.1)) hSb.1 rfl lk_X11_156 wI_X11_change wV_X11_X11_change wN_X11 wC_X11_change hd_X11_change rfl (by rw [hL]; decide) (by decide) rfl (Nat.le_of_ble_eq_true rfl) dX11_put_104 (by rw [hR]; decide) (by rw [hR]; decide) jx_no ?_
            rintro _ gc ⟨rfl, Fc, fc, Bc, hSc, hKc, hNc, kBc, htc, hfc⟩
            have hAc : RA A Od Fc := hAb.kp hKc.1
            have hNs : fc = true → (good Bc ∧ zw (aw A ri) Bc) ∧ ∀ q, q < 8 → NB Fc q (if q = ri then Bc else aB A q) := fun e => ⟨⟨addB_good (hI ri hri).2.2.1.1 (htc e).2, kBc.2.1⟩, fun q hq => by
              by_cases z : q = ri
              · rw [if_pos z, z]; exact hNc
              · rw [if_neg z]; exact hKc.nb z (hNb q hq) (hI q hq).2.2.1.1.2.1⟩
            show J X 0 0 gc 107 [(7, .int (b01 true)), (0, .ref m), (1, .int (nI ri)), (2, .int a), (3, .int b), (4, .int c), (5, .int d), (6, .int n)] []
            refine j_aload_n hX dX11_put_107 1 rfl ?_
            refine j_aload_n hX dX11_put_108 1 rfl ?_
            refine j_callV (As := []) (rest := [.ref m]) hX (c_X11_settle (xl X) (xK X) gc m Q (nI 0) fc Fc Od hSc A hI hAc ri Bc hri hk1 hNs) hSc.1 rfl lk_X11_159 wI_X11_settle wV_X11_X11_settle wN_X11 wC_X11_settle hd_X11_settle rfl (by rw [hL]; decide) (by decide) rfl (Nat.le_of_ble_eq_true rfl) dX11_put_109 (by rw [hR]; decide) (by rw [hR]; decide) jx_no ?_
            rintro _ gs ⟨bs, rfl, hbt, hbf⟩
            cases bs
            · obtain ⟨hno, Q, Od9, fi9, F9, hS9, hR9⟩ := hbf rfl
              have hno4 : ∀ (N : Nat → Bg) (B9 : Bg), addB T n.toInt (aB A ri) = some B9 → Upd A ri B9 N → False := by
                intro N B9 e1 e2
                cases fc with
                | false => rw [hfc rfl rfl] at e1; cases e1
                | true => rw [(htc rfl).2] at e1; cases e1; exact hno ⟨rfl, N, e2⟩
              show J X 0 0 gs 112 [(7, .int (b01 true)), (0, .ref m), (1, .int (nI ri)), (2, .int a), (3, .int b), (4, .int c), (5, .int d), (6, .int n)] [.int (b01 false), .ref m]
              refine j_if_eq hX 119 dX11_put_112 (by decide) (fun _ => ?_) (fun c_112 => absurd (by decide) c_112)
              refine j_iconst (v := nI 4) hX dX11_put_119 (by decide) ?_
              refine j_put hX hS9.1 rfl wf_X11 tyX11_ok nmX11 0 (by decide) lk_X11_56 (fun _ h => h) rfl (tyX11_ok 0 (by decide)) rfl rfl (Nat.le_of_ble_eq_true rfl) dX11_put_120 ?_
              obtain ⟨g2, eg2⟩ : ∃ z : Wd, z = up gs m (ob 10 [.int (nI 4), .ref (Q 0), .ref (Q 1), .ref (Q 2), .ref (Q 3), .ref (Q 4), .ref (Q 5), .ref (Q 6), .int (nI Od9.length), .ref (Q 7), .ref (Q 8), .ref (Q 9), .ref (Q 10), .ref (Q 11), .ref (Q 12), .ref (Q 13), .int fi9, .ref (Q 14)]) := ⟨_, rfl⟩
              refine j_w eg2.symm ?_
              have hS2 : RS (xK X) g2 m Q (nI 4) (nI Od9.length) fi9 F9 := by rw [eg2]; exact hS9.obj _ _ _
              refine j_aload_n hX dX11_put_123 1 rfl ?_
              refine j_iload_n hX dX11_put_124 3 rfl ?_
              refine j_iload_n hX dX11_put_125 4 rfl ?_
              refine j_iload hX dX11_put_126 5 rfl ?_
              refine j_iload hX dX11_put_128 6 rfl ?_
              refine j_callV (As := [.int a, .int b, .int c, .int d]) (rest := []) hX (c_X11_setRow (xl X) (xK X) g2 m Q (nI 4) (nI Od9.length) fi9 F9 hS2 a b c d) hS2.1 rfl lk_X11_147 wI_X11_setRow wV_X11_X11_setRow wN_X11 wC_X11_setRow hd_X11_setRow rfl (by rw [hL]; decide) (by decide) rfl (Nat.le_of_ble_eq_true rfl) dX11_put_130 (by rw [hR]; decide) (by rw [hR]; decide) jx_no ?_
              rintro _ g11 ⟨rfl, F11, hS11, k11, r11⟩
              show J X 0 0 g11 133 [(7, .int (b01 true)), (0, .ref m), (1, .int (nI ri)), (2, .int a), (3, .int b), (4, .int c), (5, .int d), (6, .int n)] []
              refine j_aload_n hX dX11_put_133 1 rfl ?_
              refine j_get (v := .int (nI 4)) hX hS11.1 rfl wf_X11 0 (by decide) lk_X11_56 (fun _ h => h) rfl dX11_put_134 ?_
              refine j_if_le hX 144 dX11_put_137 (by decide) (fun c_137 => absurd c_137 (by decide)) (fun _ => ?_)
              refine j_iconst (v := nI 0) hX dX11_put_140 (by decide) ?_
              refine j_goto hX 149 dX11_put_141 (by decide) ?_
              exact j_iret hX hE dX11_put_149 (⟨4, _, A, rfl, Or.inr (Or.inr (Or.inr (Or.inl ⟨rfl, ⟨ri, hri, rfl, hwr⟩, by rw [vnat_nI (by omega)]; omega, hok, (fun ⟨N, B9, e1, e2⟩ => hno4 N B9 (by rw [vnat_nI (by omega), hTr] at e1; exact e1) (by rw [vnat_nI (by omega)] at e2; exact e2)), rfl⟩))), ⟨Q, Od9, fi9, F11, hS11, hR9.kp (fun j hj => k11 j (by omega))⟩, fun q => absurd q (by decide)⟩) (by decide) (by decide)
            · obtain ⟨hfc1, N, hU, Q, Od9, fi9, F9, hS9, hR9⟩ := hbt rfl
              have hB9 : aB (putA A N) ri = Bc := by rw [show aB (putA A N) ri = N ri from if_pos hri, (hU ri hri).1 (by omega), if_pos rfl]
              show J X 0 0 gs 112 [(7, .int (b01 true)), (0, .ref m), (1, .int (nI ri)), (2, .int a), (3, .int b), (4, .int c), (5, .int d), (6, .int n)] [.int (b01 true), .ref m]
              refine j_if_eq hX 119 dX11_put_112 (by decide) (fun c_112 => absurd c_112 (by decide)) (fun _ => ?_)
              refine j_iconst (v := nI 0) hX dX11_put_115 (by decide) ?_
              refine j_goto hX 120 dX11_put_116 (by decide) ?_
              refine j_put hX hS9.1 rfl wf_X11 tyX11_ok nmX11 0 (by decide) lk_X11_56 (fun _ h => h) rfl (tyX11_ok 0 (by decide)) rfl rfl (Nat.le_of_ble_eq_true rfl) dX11_put_120 ?_
              obtain ⟨g3, eg3⟩ : ∃ z : Wd, z = up gs m (ob 10 [.int (nI 0), .ref (Q 0), .ref (Q 1), .ref (Q 2), .ref (Q 3), .ref (Q 4), .ref (Q 5), .ref (Q 6), .int (nI Od9.length), .ref (Q 7), .ref (Q 8), .ref (Q 9), .ref (Q 10), .ref (Q 11), .ref (Q 12), .ref (Q 13), .int fi9, .ref (Q 14)]) := ⟨_, rfl⟩
              refine j_w eg3.symm ?_
              have hS3 : RS (xK X) g3 m Q (nI 0) (nI Od9.length) fi9 F9 := by rw [eg3]; exact hS9.obj _ _ _
              refine j_aload_n hX dX11_put_123 1 rfl ?_
              refine j_iload_n hX dX11_put_124 3 rfl ?_
              refine j_iload_n hX dX11_put_125 4 rfl ?_
              refine j_iload hX dX11_put_126 5 rfl ?_
              refine j_iload hX dX11_put_128 6 rfl ?_
              refine j_callV (As := [.int a, .int b, .int c, .int d]) (rest := []) hX (c_X11_setRow (xl X) (xK X) g3 m Q (nI 0) (nI Od9.length) fi9 F9 hS3 a b c d) hS3.1 rfl lk_X11_147 wI_X11_setRow wV_X11_X11_setRow wN_X11 wC_X11_setRow hd_X11_setRow rfl (by rw [hL]; decide) (by decide) rfl (Nat.le_of_ble_eq_true rfl) dX11_put_130 (by rw [hR]; decide) (by rw [hR]; decide) jx_no ?_
              rintro _ g11 ⟨rfl, F11, hS11, k11, r11⟩
              show J X 0 0 g11 133 [(7, .int (b01 true)), (0, .ref m), (1, .int (nI ri)), (2, .int a), (3, .int b), (4, .int c), (5, .int d), (6, .int n)] []
              refine j_aload_n hX dX11_put_133 1 rfl ?_
              refine j_get (v := .int (nI 0)) hX hS11.1 rfl wf_X11 0 (by decide) lk_X11_56 (fun _ h => h) rfl dX11_put_134 ?_
              refine j_if_le hX 144 dX11_put_137 (by decide) (fun _ => ?_) (fun c_137 => absurd (by decide) c_137)
              refine j_aload_n hX dX11_put_144 1 rfl ?_
              refine j_iload_n hX dX11_put_145 2 rfl ?_
              refine j_callV (As := [.int (nI ri)]) (rest := []) hX (c_X11_timesHere (xl X) (xK X) g11 m Q (nI 0) (nI Od9.length) fi9 F11 hS11 ri (aw A ri) (aB (putA A N)) hri (by rw [k11 1 (by decide)]; exact (hR9.2.2 ri hri).1.2) hwr hw4 (fun q hq => by have := (hR9.2.2 q hq).2.1; unfold OB at this ⊢; rw [k11 10 (by decide), k11 8 (by decide), k11 9 (by decide)]; exact this) (by rw [hB9]; exact kBc) T (by rw [r11]; exact hT)) hS11.1 rfl lk_X11_153 wI_X11_timesHere wV_X11_X11_timesHere wN_X11 wC_X11_timesHere hd_X11_timesHere rfl (by rw [hL]; decide) (by decide) rfl (Nat.le_of_ble_eq_true rfl) dX11_put_146 (by rw [hR]; decide) (by rw [hR]; decide) jx_no ?_
              rintro _ g12 ⟨rfl, F12, hS12, k12⟩
              show J X 0 0 g12 149 [(7, .int (b01 true)), (0, .ref m), (1, .int (nI ri)), (2, .int a), (3, .int b), (4, .int c), (5, .int d), (6, .int n)] [.int (nI (tms (aB (putA A N) ri) T))]
              exact j_iret hX hE dX11_put_149 (⟨0, _, putA A N, rfl, Or.inr (Or.inr (Or.inr (Or.inr ⟨rfl, ⟨ri, hri, rfl, hwr⟩, by rw [vnat_nI (by omega)]; omega, hok, N, ⟨Bc, by rw [vnat_nI (by omega), hTr]; exact (htc hfc1).2, by rw [vnat_nI (by omega)]; exact hU⟩, rfl⟩))), ⟨Q, Od9, fi9, F12, hS12, hR9.kp (fun j hj => (k12 j (by omega)).trans (k11 j (by omega)))⟩, fun _ => by
  have e := addB_tms (hI ri hri).2.2.1.1.1 ho.2.2.2.1 (htc hfc1).2
  rw [hB9, vnat_nI (by omega), hTr, ho.2.2.2.2, show tms Bc T = ((tms (aB A ri) T : Int) + n.toInt).toNat by omega]⟩) (by decide) (by decide)
          · skip
            show J X 0 0 g7 36 [(7, .int (b01 true)), (0, .ref m), (1, .int (nI ri)), (2, .int a), (3, .int b), (4, .int c), (5, .int d), (6, .int n)] []
            refine j_aload_n hX dX11_put_36 1 rfl ?_
            refine j_aload_n hX dX11_put_37 1 rfl ?_
            refine j_iload_n hX dX11_put_38 2 rfl ?_
            refine j_callV (As := [.int (nI ri)]) (rest := [.ref m]) hX (c_X11_is (xl X) (xK X) g7 m Q th (nI Od.length) fi F7 hS7 (nI ri)) hS7.1 rfl lk_X11_113 wI_X11_is wV_X11_X11_is wN_X11 wC_X11_is hd_X11_is rfl (by rw [hL]; decide) (by decide) rfl (Nat.le_of_ble_eq_true rfl) dX11_put_39 (by rw [hR]; decide) (by rw [hR]; decide) jx_no ?_
            rintro _ _ ⟨b9, rfl, hb9, rfl⟩
            obtain rfl : b9 = true := hb9.mpr ((hA7.is hI _).mpr ⟨ri, hri, rfl, hwr⟩)
            clear hb9
            show J X 0 0 g7 42 [(7, .int (b01 true)), (0, .ref m), (1, .int (nI ri)), (2, .int a), (3, .int b), (4, .int c), (5, .int d), (6, .int n)] [.int (b01 true), .ref m]
            refine j_if_ne hX 49 dX11_put_42 (by decide) (fun _ => ?_) (fun c_42 => absurd c_42 (by decide))
            refine j_aload_n hX dX11_put_49 1 rfl ?_
            refine j_get (v := .ref (Q 0)) hX hS7.1 rfl wf_X11 1 (by decide) lk_X11_7 (fun _ h => h) rfl dX11_put_50 ?_
            refine j_iload_n hX dX11_put_53 2 rfl ?_
            refine j_ialdN hX (show g7 (Q 0) = some (aI (xK X) 8 (F7 0)) from hS7.2.1 0 (by decide)) (ri) (rfl) (hri) (by decide) dX11_put_54 ?_
            refine j_eqi (y := nI (ak A ri)) ((hA7.2.2 ri hri).1.1) ?_
            refine j_iconst (v := nI 1) hX dX11_put_55 (by decide) ?_
            refine j_icmp_eq hX 63 dX11_put_56 (by decide) (fun _ => ?_) (fun c_56 => absurd (congrArg nI hk1) c_56)
            refine j_iload hX dX11_put_63 0 rfl ?_
            refine j_if_eq hX 79 dX11_put_65 (by decide) (fun c_65 => absurd c_65 (by decide)) (fun _ => ?_)
            refine j_aload_n hX dX11_put_68 1 rfl ?_
            refine j_iload_n hX dX11_put_69 2 rfl ?_
            refine j_callV (As := [.int (nI ri)]) (rest := [.ref m]) hX (c_X11_timesHere (xl X) (xK X) g7 m Q th (nI Od.length) fi F7 hS7 ri (aw A ri) (aB A) hri (hA7.2.2 ri hri).1.2 hwr hw4 (fun q hq => (hA7.2.2 q hq).2.1) (((hI ri hri).2.2.1.1).wk (hI ri hri).2.2.1.2) T (by rw [r7]; exact hT)) hS7.1 rfl lk_X11_153 wI_X11_timesHere wV_X11_X11_timesHere wN_X11 wC_X11_timesHere hd_X11_timesHere rfl (by rw [hL]; decide) (by decide) rfl (Nat.le_of_ble_eq_true rfl) dX11_put_70 (by rw [hR]; decide) (by rw [hR]; decide) jx_no ?_
            rintro _ g8 ⟨rfl, F8, hS8, k8⟩
            have hA8 : RA A Od F8 := hA7.kp (fun j hj => k8 j (by omega))
            show J X 0 0 g8 73 [(7, .int (b01 true)), (0, .ref m), (1, .int (nI ri)), (2, .int a), (3, .int b), (4, .int c), (5, .int d), (6, .int n)] [.int (nI (tms (aB A ri) T)), .ref m]
            refine j_iload hX dX11_put_73 7 rfl ?_
            refine j_iadd hX dX11_put_75 ?_
            refine j_if_ge hX 83 dX11_put_76 (by decide) (fun c_76 => absurd c_76 hsg) (fun _ => ?_)
            refine j_iconst (v := nI 3) hX dX11_put_79 (by decide) ?_
            refine j_goto hX 84 dX11_put_80 (by decide) ?_
            refine j_put hX hS8.1 rfl wf_X11 tyX11_ok nmX11 0 (by decide) lk_X11_56 (fun _ h => h) rfl (tyX11_ok 0 (by decide)) rfl rfl (Nat.le_of_ble_eq_true rfl) dX11_put_84 ?_
            obtain ⟨g1, eg1⟩ : ∃ z : Wd, z = up g8 m (ob 10 [.int (nI 3), .ref (Q 0), .ref (Q 1), .ref (Q 2), .ref (Q 3), .ref (Q 4), .ref (Q 5), .ref (Q 6), .int (nI Od.length), .ref (Q 7), .ref (Q 8), .ref (Q 9), .ref (Q 10), .ref (Q 11), .ref (Q 12), .ref (Q 13), .int fi, .ref (Q 14)]) := ⟨_, rfl⟩
            refine j_w eg1.symm ?_
            have hS1 : RS (xK X) g1 m Q (nI 3) (nI Od.length) fi F8 := by rw [eg1]; exact hS8.obj _ _ _
            refine j_aload_n hX dX11_put_87 1 rfl ?_
            refine j_get (v := .int (nI 3)) hX hS1.1 rfl wf_X11 0 (by decide) lk_X11_56 (fun _ h => h) rfl dX11_put_88 ?_
            refine j_if_le hX 96 dX11_put_91 (by decide) (fun c_91 => absurd c_91 (by decide)) (fun _ => ?_)
            refine j_iconst (v := nI 0) hX dX11_put_94 (by decide) ?_
            exact j_iret hX hE dX11_put_95 (⟨3, _, A, rfl, Or.inr (Or.inr (Or.inl ⟨rfl, ⟨ri, hri, rfl, hwr⟩, by rw [vnat_nI (by omega)]; omega, fun q => hsg (by have := q.2.2.2; rw [vnat_nI (by omega), hTr] at this; exact this), rfl⟩)), ⟨Q, Od, fi, F8, hS1, hA8⟩, fun q => absurd q (by decide)⟩) (by decide) (by decide)
      · show J X 0 0 g7 36 [(7, .int (b01 y)), (0, .ref m), (1, .int (nI ri)), (2, .int a), (3, .int b), (4, .int c), (5, .int d), (6, .int n)] []
        refine j_aload_n hX dX11_put_36 1 rfl ?_
        refine j_aload_n hX dX11_put_37 1 rfl ?_
        refine j_iload_n hX dX11_put_38 2 rfl ?_
        refine j_callV (As := [.int (nI ri)]) (rest := [.ref m]) hX (c_X11_is (xl X) (xK X) g7 m Q th (nI Od.length) fi F7 hS7 (nI ri)) hS7.1 rfl lk_X11_113 wI_X11_is wV_X11_X11_is wN_X11 wC_X11_is hd_X11_is rfl (by rw [hL]; decide) (by decide) rfl (Nat.le_of_ble_eq_true rfl) dX11_put_39 (by rw [hR]; decide) (by rw [hR]; decide) jx_no ?_
        rintro _ _ ⟨b9, rfl, hb9, rfl⟩
        obtain rfl : b9 = true := hb9.mpr ((hA7.is hI _).mpr ⟨ri, hri, rfl, hwr⟩)
        clear hb9
        show J X 0 0 g7 42 [(7, .int (b01 y)), (0, .ref m), (1, .int (nI ri)), (2, .int a), (3, .int b), (4, .int c), (5, .int d), (6, .int n)] [.int (b01 true), .ref m]
        refine j_if_ne hX 49 dX11_put_42 (by decide) (fun _ => ?_) (fun c_42 => absurd c_42 (by decide))
        refine j_aload_n hX dX11_put_49 1 rfl ?_
        refine j_get (v := .ref (Q 0)) hX hS7.1 rfl wf_X11 1 (by decide) lk_X11_7 (fun _ h => h) rfl dX11_put_50 ?_
        refine j_iload_n hX dX11_put_53 2 rfl ?_
        refine j_ialdN hX (show g7 (Q 0) = some (aI (xK X) 8 (F7 0)) from hS7.2.1 0 (by decide)) (ri) (rfl) (hri) (by decide) dX11_put_54 ?_
        refine j_eqi (y := nI (ak A ri)) ((hA7.2.2 ri hri).1.1) ?_
        refine j_iconst (v := nI 1) hX dX11_put_55 (by decide) ?_
        refine j_icmp_eq hX 63 dX11_put_56 (by decide) (fun c_56 => absurd c_56 (nI_ne (a := ak A ri) (b := 1) (by omega) (by decide) hk1)) (fun _ => ?_)
        refine j_iconst (v := nI 2) hX dX11_put_59 (by decide) ?_
        refine j_goto hX 84 dX11_put_60 (by decide) ?_
        refine j_put hX hS7.1 rfl wf_X11 tyX11_ok nmX11 0 (by decide) lk_X11_56 (fun _ h => h) rfl (tyX11_ok 0 (by decide)) rfl rfl (Nat.le_of_ble_eq_true rfl) dX11_put_84 ?_
        obtain ⟨g1, eg1⟩ : ∃ z : Wd, z = up g7 m (ob 10 [.int (nI 2), .ref (Q 0), .ref (Q 1), .ref (Q 2), .ref (Q 3), .ref (Q 4), .ref (Q 5), .ref (Q 6), .int (nI Od.length), .ref (Q 7), .ref (Q 8), .ref (Q 9), .ref (Q 10), .ref (Q 11), .ref (Q 12), .ref (Q 13), .int fi, .ref (Q 14)]) := ⟨_, rfl⟩
        refine j_w eg1.symm ?_
        have hS1 : RS (xK X) g1 m Q (nI 2) (nI Od.length) fi F7 := by rw [eg1]; exact hS7.obj _ _ _
        refine j_aload_n hX dX11_put_87 1 rfl ?_
        refine j_get (v := .int (nI 2)) hX hS1.1 rfl wf_X11 0 (by decide) lk_X11_56 (fun _ h => h) rfl dX11_put_88 ?_
        refine j_if_le hX 96 dX11_put_91 (by decide) (fun c_91 => absurd c_91 (by decide)) (fun _ => ?_)
        refine j_iconst (v := nI 0) hX dX11_put_94 (by decide) ?_
        exact j_iret hX hE dX11_put_95 (⟨2, _, A, rfl, Or.inr (Or.inl ⟨rfl, ⟨ri, hri, rfl, hwr⟩, by rw [vnat_nI (by omega)]; omega, rfl⟩), ⟨Q, Od, fi, F7, hS1, hA7⟩, fun q => absurd q (by decide)⟩) (by decide) (by decide)
    · show J X 0 0 g7 36 [(7, .int (b01 y)), (0, .ref m), (1, .int r), (2, .int a), (3, .int b), (4, .int c), (5, .int d), (6, .int n)] []
      refine j_aload_n hX dX11_put_36 1 rfl ?_
      refine j_aload_n hX dX11_put_37 1 rfl ?_
      refine j_iload_n hX dX11_put_38 2 rfl ?_
      refine j_callV (As := [.int r]) (rest := [.ref m]) hX (c_X11_is (xl X) (xK X) g7 m Q th (nI Od.length) fi F7 hS7 (r)) hS7.1 rfl lk_X11_113 wI_X11_is wV_X11_X11_is wN_X11 wC_X11_is hd_X11_is rfl (by rw [hL]; decide) (by decide) rfl (Nat.le_of_ble_eq_true rfl) dX11_put_39 (by rw [hR]; decide) (by rw [hR]; decide) jx_no ?_
      rintro _ _ ⟨b9, rfl, hb9, rfl⟩
      obtain rfl : b9 = false := Bool.eq_false_iff.mpr (fun q => hP ((hA7.is hI _).mp (hb9.mp q)))
      clear hb9
      show J X 0 0 g7 42 [(7, .int (b01 y)), (0, .ref m), (1, .int r), (2, .int a), (3, .int b), (4, .int c), (5, .int d), (6, .int n)] [.int (b01 false), .ref m]
      refine j_if_ne hX 49 dX11_put_42 (by decide) (fun c_42 => absurd c_42 (fun q => q (by rfl))) (fun _ => ?_)
      refine j_iconst (v := nI 1) hX dX11_put_45 (by decide) ?_
      refine j_goto hX 84 dX11_put_46 (by decide) ?_
      refine j_put hX hS7.1 rfl wf_X11 tyX11_ok nmX11 0 (by decide) lk_X11_56 (fun _ h => h) rfl (tyX11_ok 0 (by decide)) rfl rfl (Nat.le_of_ble_eq_true rfl) dX11_put_84 ?_
      obtain ⟨g1, eg1⟩ : ∃ z : Wd, z = up g7 m (ob 10 [.int (nI 1), .ref (Q 0), .ref (Q 1), .ref (Q 2), .ref (Q 3), .ref (Q 4), .ref (Q 5), .ref (Q 6), .int (nI Od.length), .ref (Q 7), .ref (Q 8), .ref (Q 9), .ref (Q 10), .ref (Q 11), .ref (Q 12), .ref (Q 13), .int fi, .ref (Q 14)]) := ⟨_, rfl⟩
      refine j_w eg1.symm ?_
      have hS1 : RS (xK X) g1 m Q (nI 1) (nI Od.length) fi F7 := by rw [eg1]; exact hS7.obj _ _ _
      refine j_aload_n hX dX11_put_87 1 rfl ?_
      refine j_get (v := .int (nI 1)) hX hS1.1 rfl wf_X11 0 (by decide) lk_X11_56 (fun _ h => h) rfl dX11_put_88 ?_
      refine j_if_le hX 96 dX11_put_91 (by decide) (fun c_91 => absurd c_91 (by decide)) (fun _ => ?_)
      refine j_iconst (v := nI 0) hX dX11_put_94 (by decide) ?_
      exact j_iret hX hE dX11_put_95 (⟨1, _, A, rfl, Or.inl ⟨rfl, hP, rfl⟩, ⟨Q, Od, fi, F7, hS1, hA7⟩, fun q => absurd q (by decide)⟩) (by decide) (by decide)
  refine j_iload hX dX11_put_10 6 rfl ?_
  refine j_if_eq hX 33 dX11_put_12 (by decide) (fun c_12 => ?_) (fun c_12 => ?_)
  · refine j_iconst (v := b01 false) hX dX11_put_33 (by decide) ?_
    refine j_istore (lv' := [(7, .int (b01 false)), (0, .ref m), (1, .int r), (2, .int a), (3, .int b), (4, .int c), (5, .int d), (6, .int n)]) hX dX11_put_34 (by rw [hn]; decide) rfl ?_
    refine j_sub [0, 1, 2, 3, 4, 5, 6, 7] rfl ?_
    exact K36 false ⟨fun q => absurd q (by decide), fun q => absurd c_12 q.1⟩
  · refine j_iload hX dX11_put_15 6 rfl ?_
    refine j_ldc (v := (-1000000)) hX lk_X11_151 dX11_put_17 ?_
    refine j_icmp_lt hX 33 dX11_put_19 (by decide) (fun c_19 => ?_) (fun c_19 => ?_)
    · refine j_iconst (v := b01 false) hX dX11_put_33 (by decide) ?_
      refine j_istore (lv' := [(7, .int (b01 false)), (0, .ref m), (1, .int r), (2, .int a), (3, .int b), (4, .int c), (5, .int d), (6, .int n)]) hX dX11_put_34 (by rw [hn]; decide) rfl ?_
      refine j_sub [0, 1, 2, 3, 4, 5, 6, 7] rfl ?_
      exact K36 false ⟨fun q => absurd q (by decide), fun q => absurd c_19 q.2.1⟩
    · refine j_iload hX dX11_put_22 6 rfl ?_
      refine j_ldc (v := 1000000) hX lk_X11_152 dX11_put_24 ?_
      refine j_icmp_gt hX 33 dX11_put_26 (by decide) (fun c_26 => ?_) (fun c_26 => ?_)
      · refine j_iconst (v := b01 false) hX dX11_put_33 (by decide) ?_
        refine j_istore (lv' := [(7, .int (b01 false)), (0, .ref m), (1, .int r), (2, .int a), (3, .int b), (4, .int c), (5, .int d), (6, .int n)]) hX dX11_put_34 (by rw [hn]; decide) rfl ?_
        refine j_sub [0, 1, 2, 3, 4, 5, 6, 7] rfl ?_
        exact K36 false ⟨fun q => absurd q (by decide), fun q => absurd c_26 (Int32.not_lt.mpr q.2.2)⟩
      · refine j_iconst (v := b01 true) hX dX11_put_29 (by decide) ?_
        refine j_goto hX 34 dX11_put_30 (by decide) ?_
        refine j_istore (lv' := [(7, .int (b01 true)), (0, .ref m), (1, .int r), (2, .int a), (3, .int b), (4, .int c), (5, .int d), (6, .int n)]) hX dX11_put_34 (by rw [hn]; decide) rfl ?_
        refine j_sub [0, 1, 2, 3, 4, 5, 6, 7] rfl ?_
        exact K36 true ⟨fun _ => ⟨c_12, c_19, Int32.not_lt.mp c_26⟩, fun _ => rfl⟩

set_option maxRecDepth 20000 in
set_option maxHeartbeats 1600000 in
/-- c_X11_fill -/
theorem c_X11_fill (l : Launch) (K : Cst) (g : Wd) (m : Nat) (Q : Nat → Nat) (th fi : Int32) (F : Nat → Nat → Int32) (Od : List Nat) (hS : RS K g m Q th (nI Od.length) fi F) (A : Ab) (hI : Inv A) (hA : RA A Od F) (r a sP b oT n : Int32) : Ct l K yX11_fill cX11_fill 8 (some .int) 5 [.ref m, .int r, .int a, .int sP, .int b, .int oT, .int n] g (PVo K m (fillO A r a sP b oT n) (fun A' => nI (aB A' (vnat r)).length)) (fun _ _ => False) 0 0 := by
  refine ct_of (by decide) (Nat.le_of_ble_eq_true rfl) ?_
  intro X hl hK hX hE hn hL hR hm
  subst hl; subst hK
  show J X 0 0 g 0 [(0, .ref m), (1, .int r), (2, .int a), (3, .int sP), (4, .int b), (5, .int oT), (6, .int n)] []
  by_cases hP : isR A r
  · obtain ⟨ri, hri, rfl, hwr⟩ := hP
    have hw4 := (hI ri hri).1.1
    have hak8 := (hI ri hri).1.2.1
    have hakp := ((hA.free hI hri).2 hwr).1
    by_cases hk1 : ak A ri = 1
    · by_cases hm9 : ∃ q, 1 ≤ q ∧ q ≤ 40 ∧ n = nI q
      · obtain ⟨mm, hm1, hm40, rfl⟩ := hm9
        have hA8 := hA
        show J X 0 0 g 0 [(0, .ref m), (1, .int (nI ri)), (2, .int a), (3, .int sP), (4, .int b), (5, .int oT), (6, .int (nI mm))] []
        refine j_aload_n hX dX11_fill_0 0 rfl ?_
        refine j_aload_n hX dX11_fill_1 0 rfl ?_
        refine j_iload_n hX dX11_fill_2 1 rfl ?_
        refine j_callV (As := [.int (nI ri)]) (rest := [.ref m]) hX (c_X11_is (xl X) (xK X) g m Q th (nI Od.length) fi F hS (nI ri)) hS.1 rfl lk_X11_113 wI_X11_is wV_X11_X11_is wN_X11 wC_X11_is hd_X11_is rfl (by rw [hL]; decide) (by decide) rfl (Nat.le_of_ble_eq_true rfl) dX11_fill_3 (by rw [hR]; decide) (by rw [hR]; decide) jx_no ?_
        rintro _ _ ⟨b9, rfl, hb9, rfl⟩
        obtain rfl : b9 = true := hb9.mpr ((hA.is hI _).mpr ⟨ri, hri, rfl, hwr⟩)
        clear hb9
        show J X 0 0 g 6 [(0, .ref m), (1, .int (nI ri)), (2, .int a), (3, .int sP), (4, .int b), (5, .int oT), (6, .int (nI mm))] [.int (b01 true), .ref m]
        refine j_if_ne hX 13 dX11_fill_6 (by decide) (fun _ => ?_) (fun c_6 => absurd c_6 (by decide))
        refine j_aload_n hX dX11_fill_13 0 rfl ?_
        refine j_get (v := .ref (Q 0)) hX hS.1 rfl wf_X11 1 (by decide) lk_X11_7 (fun _ h => h) rfl dX11_fill_14 ?_
        refine j_iload_n hX dX11_fill_17 1 rfl ?_
        refine j_ialdN hX (show g (Q 0) = some (aI (xK X) 8 (F 0)) from hS.2.1 0 (by decide)) (ri) (rfl) (hri) (by decide) dX11_fill_18 ?_
        refine j_eqi (y := nI (ak A ri)) ((hA.2.2 ri hri).1.1) ?_
        refine j_iconst (v := nI 1) hX dX11_fill_19 (by decide) ?_
        refine j_icmp_eq hX 27 dX11_fill_20 (by decide) (fun _ => ?_) (fun c_20 => absurd (congrArg nI hk1) c_20)
        refine j_iload hX dX11_fill_27 6 rfl ?_
        refine j_iconst (v := nI 1) hX dX11_fill_29 (by decide) ?_
        refine j_icmp_lt hX 40 dX11_fill_30 (by decide) (fun c_30 => absurd c_30 (nI_nlt2 (a := mm) (b := 1) hm1 (by omega))) (fun _ => ?_)
        refine j_iload hX dX11_fill_33 6 rfl ?_
        refine j_bipush (v := nI 40) hX dX11_fill_35 (by decide) ?_
        refine j_icmp_le hX 44 dX11_fill_37 (by decide) (fun _ => ?_) (fun c_37 => absurd (nI_le (a := mm) (b := 40) hm40 (by decide)) c_37)
        refine j_iconst (v := nI 0) hX dX11_fill_44 (by decide) ?_
        refine j_put hX hS.1 rfl wf_X11 tyX11_ok nmX11 0 (by decide) lk_X11_56 (fun _ h => h) rfl (tyX11_ok 0 (by decide)) rfl rfl (Nat.le_of_ble_eq_true rfl) dX11_fill_45 ?_
        obtain ⟨g1, eg1⟩ : ∃ z : Wd, z = up g m (ob 10 [.int (nI 0), .ref (Q 0), .ref (Q 1), .ref (Q 2), .ref (Q 3), .ref (Q 4), .ref (Q 5), .ref (Q 6), .int (nI Od.length), .ref (Q 7), .ref (Q 8), .ref (Q 9), .ref (Q 10), .ref (Q 11), .ref (Q 12), .ref (Q 13), .int fi, .ref (Q 14)]) := ⟨_, rfl⟩
        refine j_w eg1.symm ?_
        have hS1 : RS (xK X) g1 m Q (nI 0) (nI Od.length) fi F := by rw [eg1]; exact hS.obj _ _ _
        refine j_aload_n hX dX11_fill_48 0 rfl ?_
        refine j_get (v := .int (nI 0)) hX hS1.1 rfl wf_X11 0 (by decide) lk_X11_56 (fun _ h => h) rfl dX11_fill_49 ?_
        refine j_if_le hX 57 dX11_fill_52 (by decide) (fun _ => ?_) (fun c_52 => absurd (by decide) c_52)
        refine j_aload_n hX dX11_fill_57 0 rfl ?_
        refine j_callV (As := []) (rest := []) hX (c_X11_begin (xl X) (xK X) g1 m Q (nI 0) (nI Od.length) fi F hS1 (aB A) (fun q hq => (hA8.2.2 q hq).2.1) (fun q hq => (hI q hq).2.2.1.1.2.1)) hS1.1 rfl lk_X11_123 wI_X11_begin wV_X11_X11_begin wN_X11 wC_X11_begin hd_X11_begin rfl (by rw [hL]; decide) (by decide) rfl (Nat.le_of_ble_eq_true rfl) dX11_fill_58 (by rw [hR]; decide) (by rw [hR]; decide) jx_no ?_
        rintro _ gb ⟨rfl, Fb, hSb, kb, hNb⟩
        have hAb : RA A Od Fb := hA8.kp (fun j hj => kb j (by omega) (by omega) (by omega))
        show J X 0 0 gb 61 [(0, .ref m), (1, .int (nI ri)), (2, .int a), (3, .int sP), (4, .int b), (5, .int oT), (6, .int (nI mm))] []
        refine j_iconst (v := nI 0) hX dX11_fill_61 (by decide) ?_
        refine j_istore (lv' := [(7, .int (nI 0)), (0, .ref m), (1, .int (nI ri)), (2, .int a), (3, .int sP), (4, .int b), (5, .int oT), (6, .int (nI mm))]) hX dX11_fill_62 (by rw [hn]; decide) rfl ?_
        have loop : ∀ (p k : Nat) (G : Nat → Nat → Int32) (g9 : Wd) (fg : Bool) (B : Bg), k + p = mm → RS (xK X) g9 m Q (nI 0) (nI Od.length) (b01 fg) G → Kp ri Fb G → NB G ri B → wk (aw A ri) B → (fg = true → fldB (filF (aw A ri) a sP b oT) (List.range mm) (aB A ri) = fldB (filF (aw A ri) a sP b oT) ((List.range mm).drop k) B) → (fg = false → fldB (filF (aw A ri) a sP b oT) (List.range mm) (aB A ri) = none) → J X 0 0 g9 64 [(7, .int (nI k)), (0, .ref m), (1, .int (nI ri)), (2, .int a), (3, .int sP), (4, .int b), (5, .int oT), (6, .int (nI mm))] [] := by
          intro p
          induction p with
          | zero =>
            intro k Fc gc fc Bc hk hSc hKb hNc kBc ht9 hfc
            have htc : fc = true → fldB (filF (aw A ri) a sP b oT) (List.range mm) (aB A ri) = some Bc := fun e => (ht9 e).trans (fld_end (by rw [List.length_range]; omega))
            have hAc : RA A Od Fc := hAb.kp hKb.1
            have hNs : fc = true → (good Bc ∧ zw (aw A ri) Bc) ∧ ∀ q, q < 8 → NB Fc q (if q = ri then Bc else aB A q) := fun e => ⟨⟨fld_good (hI ri hri).2.2.1.1 (htc e), kBc.2.1⟩, fun q hq => by
              by_cases z : q = ri
              · rw [if_pos z, z]; exact hNc
              · rw [if_neg z]; exact hKb.nb z (hNb q hq) (hI q hq).2.2.1.1.2.1⟩
            refine j_iload hX dX11_fill_64 0 rfl ?_
            refine j_iload hX dX11_fill_66 7 rfl ?_
            refine j_icmp_ge hX 103 dX11_fill_68 (by decide) (fun _ => ?_) (fun c_68 => absurd (nI_le (a := mm) (b := k) (by omega) (by omega)) c_68)
            refine j_aload_n hX dX11_fill_103 1 rfl ?_
            refine j_aload_n hX dX11_fill_104 1 rfl ?_
            refine j_callV (As := []) (rest := [.ref m]) hX (c_X11_settle (xl X) (xK X) gc m Q (nI 0) fc Fc Od hSc A hI hAc ri Bc hri hk1 hNs) hSc.1 rfl lk_X11_159 wI_X11_settle wV_X11_X11_settle wN_X11 wC_X11_settle hd_X11_settle rfl (by rw [hL]; decide) (by decide) rfl (Nat.le_of_ble_eq_true rfl) dX11_fill_105 (by rw [hR]; decide) (by rw [hR]; decide) jx_no ?_
            rintro _ gs ⟨bs, rfl, hbt, hbf⟩
            cases bs
            · obtain ⟨hno, Q, Od9, fi9, F9, hS9, hR9⟩ := hbf rfl
              have hno4 : ∀ (N : Nat → Bg) (B9 : Bg), fldB (filF (aw A ri) a sP b oT) (List.range mm) (aB A ri) = some B9 → Upd A ri B9 N → False := by
                intro N B9 e1 e2
                cases fc with
                | false => rw [hfc rfl] at e1; cases e1
                | true => rw [htc rfl] at e1; cases e1; exact hno ⟨rfl, N, e2⟩
              show J X 0 0 gs 108 [(7, .int (nI k)), (0, .ref m), (1, .int (nI ri)), (2, .int a), (3, .int sP), (4, .int b), (5, .int oT), (6, .int (nI mm))] [.int (b01 false), .ref m]
              refine j_if_eq hX 115 dX11_fill_108 (by decide) (fun _ => ?_) (fun c_108 => absurd (by decide) c_108)
              refine j_iconst (v := nI 4) hX dX11_fill_115 (by decide) ?_
              refine j_put hX hS9.1 rfl wf_X11 tyX11_ok nmX11 0 (by decide) lk_X11_56 (fun _ h => h) rfl (tyX11_ok 0 (by decide)) rfl rfl (Nat.le_of_ble_eq_true rfl) dX11_fill_116 ?_
              obtain ⟨g1, eg1⟩ : ∃ z : Wd, z = up gs m (ob 10 [.int (nI 4), .ref (Q 0), .ref (Q 1), .ref (Q 2), .ref (Q 3), .ref (Q 4), .ref (Q 5), .ref (Q 6), .int (nI Od9.length), .ref (Q 7), .ref (Q 8), .ref (Q 9), .ref (Q 10), .ref (Q 11), .ref (Q 12), .ref (Q 13), .int fi9, .ref (Q 14)]) := ⟨_, rfl⟩
              refine j_w eg1.symm ?_
              have hS1 : RS (xK X) g1 m Q (nI 4) (nI Od9.length) fi9 F9 := by rw [eg1]; exact hS9.obj _ _ _
              refine j_aload_n hX dX11_fill_119 1 rfl ?_
              refine j_get (v := .int (nI 4)) hX hS1.1 rfl wf_X11 0 (by decide) lk_X11_56 (fun _ h => h) rfl dX11_fill_120 ?_
              refine j_if_le hX 130 dX11_fill_123 (by decide) (fun c_123 => absurd c_123 (by decide)) (fun _ => ?_)
              refine j_iconst (v := nI 0) hX dX11_fill_126 (by decide) ?_
              refine j_goto hX 136 dX11_fill_127 (by decide) ?_
              exact j_iret hX hE dX11_fill_136 (⟨4, _, A, rfl, Or.inr (Or.inr (Or.inr (Or.inl ⟨rfl, ⟨ri, hri, rfl, hwr⟩, by rw [vnat_nI (by omega)]; omega, ⟨mm, hm1, hm40, rfl⟩, (fun ⟨N, B9, e1, e2⟩ => hno4 N B9 (by rw [vnat_nI (show ri < 2 ^ 31 by omega), vnat_nI (show mm < 2 ^ 31 by omega)] at e1; exact e1) (by rw [vnat_nI (by omega)] at e2; exact e2)), rfl⟩))), ⟨Q, Od9, fi9, F9, hS1, hR9⟩, fun q => absurd q (by decide)⟩) (by decide) (by decide)
            · obtain ⟨hfc1, N, hU, Q, Od9, fi9, F9, hS9, hR9⟩ := hbt rfl
              have hB9 : aB (putA A N) ri = Bc := by rw [show aB (putA A N) ri = N ri from if_pos hri, (hU ri hri).1 (by omega), if_pos rfl]
              show J X 0 0 gs 108 [(7, .int (nI k)), (0, .ref m), (1, .int (nI ri)), (2, .int a), (3, .int sP), (4, .int b), (5, .int oT), (6, .int (nI mm))] [.int (b01 true), .ref m]
              refine j_if_eq hX 115 dX11_fill_108 (by decide) (fun c_108 => absurd c_108 (by decide)) (fun _ => ?_)
              refine j_iconst (v := nI 0) hX dX11_fill_111 (by decide) ?_
              refine j_goto hX 116 dX11_fill_112 (by decide) ?_
              refine j_put hX hS9.1 rfl wf_X11 tyX11_ok nmX11 0 (by decide) lk_X11_56 (fun _ h => h) rfl (tyX11_ok 0 (by decide)) rfl rfl (Nat.le_of_ble_eq_true rfl) dX11_fill_116 ?_
              obtain ⟨g2, eg2⟩ : ∃ z : Wd, z = up gs m (ob 10 [.int (nI 0), .ref (Q 0), .ref (Q 1), .ref (Q 2), .ref (Q 3), .ref (Q 4), .ref (Q 5), .ref (Q 6), .int (nI Od9.length), .ref (Q 7), .ref (Q 8), .ref (Q 9), .ref (Q 10), .ref (Q 11), .ref (Q 12), .ref (Q 13), .int fi9, .ref (Q 14)]) := ⟨_, rfl⟩
              refine j_w eg2.symm ?_
              have hS2 : RS (xK X) g2 m Q (nI 0) (nI Od9.length) fi9 F9 := by rw [eg2]; exact hS9.obj _ _ _
              refine j_aload_n hX dX11_fill_119 1 rfl ?_
              refine j_get (v := .int (nI 0)) hX hS2.1 rfl wf_X11 0 (by decide) lk_X11_56 (fun _ h => h) rfl dX11_fill_120 ?_
              refine j_if_le hX 130 dX11_fill_123 (by decide) (fun _ => ?_) (fun c_123 => absurd (by decide) c_123)
              refine j_aload_n hX dX11_fill_130 1 rfl ?_
              refine j_get (v := .ref (Q 10)) hX hS2.1 rfl wf_X11 12 (by decide) lk_X11_41 (fun _ h => h) rfl dX11_fill_131 ?_
              refine j_iload_n hX dX11_fill_134 2 rfl ?_
              refine j_ialdN hX (show g2 (Q 10) = some (aI (xK X) 8 (F9 10)) from hS2.2.1 10 (by decide)) (ri) (rfl) (hri) (by decide) dX11_fill_135 ?_
              refine j_eqi (y := nI (aB (putA A N) ri).length) ((hR9.2.2 ri hri).2.1.1) ?_
              exact j_iret hX hE dX11_fill_136 (⟨0, _, putA A N, rfl, Or.inr (Or.inr (Or.inr (Or.inr ⟨rfl, ⟨ri, hri, rfl, hwr⟩, by rw [vnat_nI (by omega)]; omega, ⟨mm, hm1, hm40, rfl⟩, N, ⟨Bc, by rw [vnat_nI (show ri < 2 ^ 31 by omega), vnat_nI (show mm < 2 ^ 31 by omega)]; exact htc hfc1, by rw [vnat_nI (by omega)]; exact hU⟩, rfl⟩))), ⟨Q, Od9, fi9, F9, hS2, hR9⟩, fun _ => by rw [vnat_nI (by omega)]⟩) (by decide) (by decide)
          | succ p ih =>
            intro k G g9 fg B hk hG hKb hN kB ht9 hf9
            refine j_iload hX dX11_fill_64 0 rfl ?_
            refine j_iload hX dX11_fill_66 7 rfl ?_
            refine j_icmp_ge hX 103 dX11_fill_68 (by decide) (fun c_68 => absurd c_68 (nI_ge (a := k) (b := mm) (by omega) (by omega))) (fun _ => ?_)
            refine j_aload_n hX dX11_fill_71 1 rfl ?_
            refine j_iload_n hX dX11_fill_72 3 rfl ?_
            refine j_iload hX dX11_fill_73 0 rfl ?_
            refine j_iload_n hX dX11_fill_75 4 rfl ?_
            refine j_imul hX dX11_fill_76 ?_
            refine j_iadd hX dX11_fill_77 ?_
            refine j_iload hX dX11_fill_78 5 rfl ?_
            refine j_iload hX dX11_fill_80 0 rfl ?_
            refine j_iload hX dX11_fill_82 6 rfl ?_
            refine j_imul hX dX11_fill_84 ?_
            refine j_iadd hX dX11_fill_85 ?_
            refine j_iconst (v := 0) hX dX11_fill_86 (by decide) ?_
            refine j_iconst (v := 0) hX dX11_fill_87 (by decide) ?_
            refine j_callV (As := [.int (a + ((nI k) * sP)), .int (b + ((nI k) * oT)), .int 0, .int 0]) (rest := []) hX (c_X11_setRow (xl X) (xK X) g9 m Q (nI 0) (nI Od.length) (b01 fg) G hG (a + nI k * sP) (b + nI k * oT) 0 0) hG.1 rfl lk_X11_147 wI_X11_setRow wV_X11_X11_setRow wN_X11 wC_X11_setRow hd_X11_setRow rfl (by rw [hL]; decide) (by decide) rfl (Nat.le_of_ble_eq_true rfl) dX11_fill_88 (by rw [hR]; decide) (by rw [hR]; decide) jx_no ?_
            rintro _ g7 ⟨rfl, F7, hS7, k7, r7⟩
            show J X 0 0 g7 91 [(7, .int (nI k)), (0, .ref m), (1, .int (nI ri)), (2, .int a), (3, .int sP), (4, .int b), (5, .int oT), (6, .int (nI mm))] []
            refine j_aload_n hX dX11_fill_91 1 rfl ?_
            refine j_iload_n hX dX11_fill_92 2 rfl ?_
            refine j_iconst (v := 1) hX dX11_fill_93 (by decide) ?_
            refine j_callV (As := [.int (nI ri), .int 1]) (rest := []) hX (c_X11_change (xl X) (xK X) g7 m Q (nI 0) (nI Od.length) fg F7 hS7 ri (aw A ri) B hri (by rw [k7 1 (by decide), hKb.1 1 (by decide)]; exact (hAb.2.2 ri hri).1.2) hwr hw4 (NB.row k7 hN) kB (truncR (aw A ri) (a + nI k * sP, b + nI k * oT, 0, 0)) (by rw [r7]) 1 (by decide) (Or.inl (by decide))) hS7.1 rfl lk_X11_156 wI_X11_change wV_X11_X11_change wN_X11 wC_X11_change hd_X11_change rfl (by rw [hL]; decide) (by decide) rfl (Nat.le_of_ble_eq_true rfl) dX11_fill_94 (by rw [hR]; decide) (by rw [hR]; decide) jx_no ?_
            rintro _ g8 ⟨rfl, F8, f8, B8, hS8, hK8, hN8, kB8, ht8, hf8⟩
            rw [show (1 : Int32).toInt = 1 from rfl] at ht8 hf8
            show J X 0 0 g8 97 [(7, .int (nI k)), (0, .ref m), (1, .int (nI ri)), (2, .int a), (3, .int sP), (4, .int b), (5, .int oT), (6, .int (nI mm))] []
            refine j_iinc (v := nI (k + 1)) (lv' := [(7, .int (nI (k + 1))), (0, .ref m), (1, .int (nI ri)), (2, .int a), (3, .int sP), (4, .int b), (5, .int oT), (6, .int (nI mm))]) hX dX11_fill_97 0 rfl (nI_1 k) (by rw [hn]; decide) rfl ?_
            refine j_goto hX 64 dX11_fill_100 (by decide) ?_
            refine j_sub [0, 1, 2, 3, 4, 5, 6, 7] rfl ?_
            have hkr : k < (List.range mm).length := by rw [List.length_range]; omega
            have hfk : (filF (aw A ri) a sP b oT) (List.range mm)[k] = some (truncR (aw A ri) (a + nI k * sP, b + nI k * oT, 0, 0), 1) := by rw [List.getElem_range]; rfl
            exact ih (k + 1) F8 g8 f8 B8 (by omega) hS8 ((hKb.tr (Kp.row k7 ri)).tr hK8) hN8 kB8 (fun e => (ht9 (ht8 e).1).trans (fld_yes hkr hfk (ht8 e).2)) (fun e => by
              cases hg9 : fg with
              | false => exact hf9 hg9
              | true => exact (ht9 hg9).trans (fld_no hkr hfk (hf8 e hg9)))
        refine j_sub (lv' := [(7, .int (nI 0)), (0, .ref m), (1, .int (nI ri)), (2, .int a), (3, .int sP), (4, .int b), (5, .int oT), (6, .int (nI mm))]) [0, 1, 2, 3, 4, 5, 6, 7] rfl ?_
        exact loop mm 0 Fb gb true (aB A ri) (by omega) hSb (Kp.rf ri Fb) (hNb ri hri) (((hI ri hri).2.2.1.1).wk (hI ri hri).2.2.1.2) (fun _ => rfl) (fun e => absurd e (by decide))
      · have hn9 : ¬ (¬ n < nI 1 ∧ n ≤ nI 40) := fun q => hm9 (i32_rng (by decide) (by decide) (Int32.not_lt.mp q.1) q.2)
        show J X 0 0 g 0 [(0, .ref m), (1, .int (nI ri)), (2, .int a), (3, .int sP), (4, .int b), (5, .int oT), (6, .int n)] []
        refine j_aload_n hX dX11_fill_0 0 rfl ?_
        refine j_aload_n hX dX11_fill_1 0 rfl ?_
        refine j_iload_n hX dX11_fill_2 1 rfl ?_
        refine j_callV (As := [.int (nI ri)]) (rest := [.ref m]) hX (c_X11_is (xl X) (xK X) g m Q th (nI Od.length) fi F hS (nI ri)) hS.1 rfl lk_X11_113 wI_X11_is wV_X11_X11_is wN_X11 wC_X11_is hd_X11_is rfl (by rw [hL]; decide) (by decide) rfl (Nat.le_of_ble_eq_true rfl) dX11_fill_3 (by rw [hR]; decide) (by rw [hR]; decide) jx_no ?_
        rintro _ _ ⟨b9, rfl, hb9, rfl⟩
        obtain rfl : b9 = true := hb9.mpr ((hA.is hI _).mpr ⟨ri, hri, rfl, hwr⟩)
        clear hb9
        show J X 0 0 g 6 [(0, .ref m), (1, .int (nI ri)), (2, .int a), (3, .int sP), (4, .int b), (5, .int oT), (6, .int n)] [.int (b01 true), .ref m]
        refine j_if_ne hX 13 dX11_fill_6 (by decide) (fun _ => ?_) (fun c_6 => absurd c_6 (by decide))
        refine j_aload_n hX dX11_fill_13 0 rfl ?_
        refine j_get (v := .ref (Q 0)) hX hS.1 rfl wf_X11 1 (by decide) lk_X11_7 (fun _ h => h) rfl dX11_fill_14 ?_
        refine j_iload_n hX dX11_fill_17 1 rfl ?_
        refine j_ialdN hX (show g (Q 0) = some (aI (xK X) 8 (F 0)) from hS.2.1 0 (by decide)) (ri) (rfl) (hri) (by decide) dX11_fill_18 ?_
        refine j_eqi (y := nI (ak A ri)) ((hA.2.2 ri hri).1.1) ?_
        refine j_iconst (v := nI 1) hX dX11_fill_19 (by decide) ?_
        refine j_icmp_eq hX 27 dX11_fill_20 (by decide) (fun _ => ?_) (fun c_20 => absurd (congrArg nI hk1) c_20)
        refine j_iload hX dX11_fill_27 6 rfl ?_
        refine j_iconst (v := nI 1) hX dX11_fill_29 (by decide) ?_
        refine j_icmp_lt hX 40 dX11_fill_30 (by decide) (fun c_30 => ?_) (fun c_30 => ?_)
        · refine j_iconst (v := nI 3) hX dX11_fill_40 (by decide) ?_
          refine j_goto hX 45 dX11_fill_41 (by decide) ?_
          refine j_put hX hS.1 rfl wf_X11 tyX11_ok nmX11 0 (by decide) lk_X11_56 (fun _ h => h) rfl (tyX11_ok 0 (by decide)) rfl rfl (Nat.le_of_ble_eq_true rfl) dX11_fill_45 ?_
          obtain ⟨g1, eg1⟩ : ∃ z : Wd, z = up g m (ob 10 [.int (nI 3), .ref (Q 0), .ref (Q 1), .ref (Q 2), .ref (Q 3), .ref (Q 4), .ref (Q 5), .ref (Q 6), .int (nI Od.length), .ref (Q 7), .ref (Q 8), .ref (Q 9), .ref (Q 10), .ref (Q 11), .ref (Q 12), .ref (Q 13), .int fi, .ref (Q 14)]) := ⟨_, rfl⟩
          refine j_w eg1.symm ?_
          have hS1 : RS (xK X) g1 m Q (nI 3) (nI Od.length) fi F := by rw [eg1]; exact hS.obj _ _ _
          refine j_aload_n hX dX11_fill_48 0 rfl ?_
          refine j_get (v := .int (nI 3)) hX hS1.1 rfl wf_X11 0 (by decide) lk_X11_56 (fun _ h => h) rfl dX11_fill_49 ?_
          refine j_if_le hX 57 dX11_fill_52 (by decide) (fun c_52 => absurd c_52 (by decide)) (fun _ => ?_)
          refine j_iconst (v := nI 0) hX dX11_fill_55 (by decide) ?_
          exact j_iret hX hE dX11_fill_56 (⟨3, _, A, rfl, Or.inr (Or.inr (Or.inl ⟨rfl, ⟨ri, hri, rfl, hwr⟩, by rw [vnat_nI (by omega)]; omega, hm9, rfl⟩)), ⟨Q, Od, fi, F, hS1, hA⟩, fun q => absurd q (by decide)⟩) (by decide) (by decide)
        · refine j_iload hX dX11_fill_33 6 rfl ?_
          refine j_bipush (v := nI 40) hX dX11_fill_35 (by decide) ?_
          refine j_icmp_le hX 44 dX11_fill_37 (by decide) (fun c_37 => absurd c_37 (fun q => hn9 ⟨c_30, q⟩)) (fun _ => ?_)
          refine j_iconst (v := nI 3) hX dX11_fill_40 (by decide) ?_
          refine j_goto hX 45 dX11_fill_41 (by decide) ?_
          refine j_put hX hS.1 rfl wf_X11 tyX11_ok nmX11 0 (by decide) lk_X11_56 (fun _ h => h) rfl (tyX11_ok 0 (by decide)) rfl rfl (Nat.le_of_ble_eq_true rfl) dX11_fill_45 ?_
          obtain ⟨g2, eg2⟩ : ∃ z : Wd, z = up g m (ob 10 [.int (nI 3), .ref (Q 0), .ref (Q 1), .ref (Q 2), .ref (Q 3), .ref (Q 4), .ref (Q 5), .ref (Q 6), .int (nI Od.length), .ref (Q 7), .ref (Q 8), .ref (Q 9), .ref (Q 10), .ref (Q 11), .ref (Q 12), .ref (Q 13), .int fi, .ref (Q 14)]) := ⟨_, rfl⟩
          refine j_w eg2.symm ?_
          have hS2 : RS (xK X) g2 m Q (nI 3) (nI Od.length) fi F := by rw [eg2]; exact hS.obj _ _ _
          refine j_aload_n hX dX11_fill_48 0 rfl ?_
          refine j_get (v := .int (nI 3)) hX hS2.1 rfl wf_X11 0 (by decide) lk_X11_56 (fun _ h => h) rfl dX11_fill_49 ?_
          refine j_if_le hX 57 dX11_fill_52 (by decide) (fun c_52 => absurd c_52 (by decide)) (fun _ => ?_)
          refine j_iconst (v := nI 0) hX dX11_fill_55 (by decide) ?_
          exact j_iret hX hE dX11_fill_56 (⟨3, _, A, rfl, Or.inr (Or.inr (Or.inl ⟨rfl, ⟨ri, hri, rfl, hwr⟩, by rw [vnat_nI (by omega)]; omega, hm9, rfl⟩)), ⟨Q, Od, fi, F, hS2, hA⟩, fun q => absurd q (by decide)⟩) (by decide) (by decide)
    · show J X 0 0 g 0 [(0, .ref m), (1, .int (nI ri)), (2, .int a), (3, .int sP), (4, .int b), (5, .int oT), (6, .int n)] []
      refine j_aload_n hX dX11_fill_0 0 rfl ?_
      refine j_aload_n hX dX11_fill_1 0 rfl ?_
      refine j_iload_n hX dX11_fill_2 1 rfl ?_
      refine j_callV (As := [.int (nI ri)]) (rest := [.ref m]) hX (c_X11_is (xl X) (xK X) g m Q th (nI Od.length) fi F hS (nI ri)) hS.1 rfl lk_X11_113 wI_X11_is wV_X11_X11_is wN_X11 wC_X11_is hd_X11_is rfl (by rw [hL]; decide) (by decide) rfl (Nat.le_of_ble_eq_true rfl) dX11_fill_3 (by rw [hR]; decide) (by rw [hR]; decide) jx_no ?_
      rintro _ _ ⟨b9, rfl, hb9, rfl⟩
      obtain rfl : b9 = true := hb9.mpr ((hA.is hI _).mpr ⟨ri, hri, rfl, hwr⟩)
      clear hb9
      show J X 0 0 g 6 [(0, .ref m), (1, .int (nI ri)), (2, .int a), (3, .int sP), (4, .int b), (5, .int oT), (6, .int n)] [.int (b01 true), .ref m]
      refine j_if_ne hX 13 dX11_fill_6 (by decide) (fun _ => ?_) (fun c_6 => absurd c_6 (by decide))
      refine j_aload_n hX dX11_fill_13 0 rfl ?_
      refine j_get (v := .ref (Q 0)) hX hS.1 rfl wf_X11 1 (by decide) lk_X11_7 (fun _ h => h) rfl dX11_fill_14 ?_
      refine j_iload_n hX dX11_fill_17 1 rfl ?_
      refine j_ialdN hX (show g (Q 0) = some (aI (xK X) 8 (F 0)) from hS.2.1 0 (by decide)) (ri) (rfl) (hri) (by decide) dX11_fill_18 ?_
      refine j_eqi (y := nI (ak A ri)) ((hA.2.2 ri hri).1.1) ?_
      refine j_iconst (v := nI 1) hX dX11_fill_19 (by decide) ?_
      refine j_icmp_eq hX 27 dX11_fill_20 (by decide) (fun c_20 => absurd c_20 (nI_ne (a := ak A ri) (b := 1) (by omega) (by decide) hk1)) (fun _ => ?_)
      refine j_iconst (v := nI 2) hX dX11_fill_23 (by decide) ?_
      refine j_goto hX 45 dX11_fill_24 (by decide) ?_
      refine j_put hX hS.1 rfl wf_X11 tyX11_ok nmX11 0 (by decide) lk_X11_56 (fun _ h => h) rfl (tyX11_ok 0 (by decide)) rfl rfl (Nat.le_of_ble_eq_true rfl) dX11_fill_45 ?_
      obtain ⟨g1, eg1⟩ : ∃ z : Wd, z = up g m (ob 10 [.int (nI 2), .ref (Q 0), .ref (Q 1), .ref (Q 2), .ref (Q 3), .ref (Q 4), .ref (Q 5), .ref (Q 6), .int (nI Od.length), .ref (Q 7), .ref (Q 8), .ref (Q 9), .ref (Q 10), .ref (Q 11), .ref (Q 12), .ref (Q 13), .int fi, .ref (Q 14)]) := ⟨_, rfl⟩
      refine j_w eg1.symm ?_
      have hS1 : RS (xK X) g1 m Q (nI 2) (nI Od.length) fi F := by rw [eg1]; exact hS.obj _ _ _
      refine j_aload_n hX dX11_fill_48 0 rfl ?_
      refine j_get (v := .int (nI 2)) hX hS1.1 rfl wf_X11 0 (by decide) lk_X11_56 (fun _ h => h) rfl dX11_fill_49 ?_
      refine j_if_le hX 57 dX11_fill_52 (by decide) (fun c_52 => absurd c_52 (by decide)) (fun _ => ?_)
      refine j_iconst (v := nI 0) hX dX11_fill_55 (by decide) ?_
      exact j_iret hX hE dX11_fill_56 (⟨2, _, A, rfl, Or.inr (Or.inl ⟨rfl, ⟨ri, hri, rfl, hwr⟩, by rw [vnat_nI (by omega)]; omega, rfl⟩), ⟨Q, Od, fi, F, hS1, hA⟩, fun q => absurd q (by decide)⟩) (by decide) (by decide)
  · show J X 0 0 g 0 [(0, .ref m), (1, .int r), (2, .int a), (3, .int sP), (4, .int b), (5, .int oT), (6, .int n)] []
    refine j_aload_n hX dX11_fill_0 0 rfl ?_
    refine j_aload_n hX dX11_fill_1 0 rfl ?_
    refine j_iload_n hX dX11_fill_2 1 rfl ?_
    refine j_callV (As := [.int r]) (rest := [.ref m]) hX (c_X11_is (xl X) (xK X) g m Q th (nI Od.length) fi F hS (r)) hS.1 rfl lk_X11_113 wI_X11_is wV_X11_X11_is wN_X11 wC_X11_is hd_X11_is rfl (by rw [hL]; decide) (by decide) rfl (Nat.le_of_ble_eq_true rfl) dX11_fill_3 (by rw [hR]; decide) (by rw [hR]; decide) jx_no ?_
    rintro _ _ ⟨b9, rfl, hb9, rfl⟩
    obtain rfl : b9 = false := Bool.eq_false_iff.mpr (fun q => hP ((hA.is hI _).mp (hb9.mp q)))
    clear hb9
    show J X 0 0 g 6 [(0, .ref m), (1, .int r), (2, .int a), (3, .int sP), (4, .int b), (5, .int oT), (6, .int n)] [.int (b01 false), .ref m]
    refine j_if_ne hX 13 dX11_fill_6 (by decide) (fun c_6 => absurd c_6 (fun q => q (by rfl))) (fun _ => ?_)
    refine j_iconst (v := nI 1) hX dX11_fill_9 (by decide) ?_
    refine j_goto hX 45 dX11_fill_10 (by decide) ?_
    refine j_put hX hS.1 rfl wf_X11 tyX11_ok nmX11 0 (by decide) lk_X11_56 (fun _ h => h) rfl (tyX11_ok 0 (by decide)) rfl rfl (Nat.le_of_ble_eq_true rfl) dX11_fill_45 ?_
    obtain ⟨g1, eg1⟩ : ∃ z : Wd, z = up g m (ob 10 [.int (nI 1), .ref (Q 0), .ref (Q 1), .ref (Q 2), .ref (Q 3), .ref (Q 4), .ref (Q 5), .ref (Q 6), .int (nI Od.length), .ref (Q 7), .ref (Q 8), .ref (Q 9), .ref (Q 10), .ref (Q 11), .ref (Q 12), .ref (Q 13), .int fi, .ref (Q 14)]) := ⟨_, rfl⟩
    refine j_w eg1.symm ?_
    have hS1 : RS (xK X) g1 m Q (nI 1) (nI Od.length) fi F := by rw [eg1]; exact hS.obj _ _ _
    refine j_aload_n hX dX11_fill_48 0 rfl ?_
    refine j_get (v := .int (nI 1)) hX hS1.1 rfl wf_X11 0 (by decide) lk_X11_56 (fun _ h => h) rfl dX11_fill_49 ?_
    refine j_if_le hX 57 dX11_fill_52 (by decide) (fun c_52 => absurd c_52 (by decide)) (fun _ => ?_)
    refine j_iconst (v := nI 0) hX dX11_fill_55 (by decide) ?_
    exact j_iret hX hE dX11_fill_56 (⟨1, _, A, rfl, Or.inl ⟨rfl, hP, rfl⟩, ⟨Q, Od, fi, F, hS1, hA⟩, fun q => absurd q (by decide)⟩) (by decide) (by decide)

