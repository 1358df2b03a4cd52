theorem RA.is {A : Ab} {Od : List Nat} {F : Nat → Nat → Int32} (hA : RA A Od F) (hI : Inv A) (r : Int32) : (∃ i, i < 8 ∧ r = nI i ∧ 0 < F 0 i) ↔ isR A r := by
  have key : ∀ i, i < 8 → (0 < F 0 i ↔ 0 < aw A i) := fun i hi => by
    have h8 := (hI i hi).1.2.1
    have h0 := (hI i hi).1.2.2.1
    rw [(hA.2.2 i hi).1.1, Int32.lt_iff_toInt_lt, nI_toInt (by omega), show (0 : Int32).toInt = 0 from rfl]
    omega
  exact ⟨fun ⟨i, h1, h2, h3⟩ => ⟨i, h1, h2, (key i h1).mp h3⟩, fun ⟨i, h1, h2, h3⟩ => ⟨i, h1, h2, (key i h1).mpr h3⟩⟩
theorem RA.isc {A : Ab} {Od : List Nat} {F : Nat → Nat → Int32} (hA : RA A Od F) (hI : Inv A) (r c : Int32) : (∃ i, i < 8 ∧ r = nI i ∧ 0 < F 0 i ∧ ¬ c < 0 ∧ c < F 1 i) ↔ isC A r c := by
  constructor
  · rintro ⟨i, h1, h2, h3, h4, h5⟩
    have h8 := (hI i h1).1.1
    refine ⟨(hA.is hI r).mp ⟨i, h1, h2, h3⟩, ?_⟩
    rw [h2, vnat_nI (by omega)]
    rw [(hA.2.2 i h1).1.2, Int32.lt_iff_toInt_lt, nI_toInt (by omega)] at h5
    have h6 := Int32.le_iff_toInt_le.mp (Int32.not_lt.mp h4)
    rw [show (0 : Int32).toInt = 0 from rfl] at h6
    refine ⟨c.toInt.toNat, by omega, Int32.toInt_inj.mp ?_⟩
    rw [nI_toInt (by omega)]; omega
  · rintro ⟨hr, k, hk, hc⟩
    obtain ⟨i, h1, h2, h3⟩ := (hA.is hI r).mpr hr
    have h8 := (hI i h1).1.1
    rw [h2, vnat_nI (by omega)] at hk
    refine ⟨i, h1, h2, h3, by rw [hc]; exact nI_pos (by omega), ?_⟩
    rw [hc, (hA.2.2 i h1).1.2, Int32.lt_iff_toInt_lt, nI_toInt (by omega), nI_toInt (by omega)]
    omega
theorem isC_ok {A : Ab} (hI : Inv A) {r c : Int32} (h : isC A r c) : ∃ i k, i < 8 ∧ k < 4 ∧ k < aw A i ∧ r = nI i ∧ c = nI k ∧ 0 < aw A i := by
  obtain ⟨⟨i, h1, h2, h3⟩, k, hk, hc⟩ := h
  rw [h2, vnat_nI (by omega)] at hk
  have h8 := (hI i h1).1.1
  exact ⟨i, k, h1, by omega, hk, h2, hc, h3⟩
/-- a method that answers by thrown alone -/
def RPo (K : Cst) (m : Nat) (O : Nat → Ab → Prop) : Option Value → Wd → Prop := fun r g' => r = none ∧ ∃ k A', O k A' ∧ RX K g' m (nI k) A'
theorem view_out {K : Cst} {g' : Wd} {m : Nat} {A : Ab} {ins ok : Prop} {vv : Int32} {v w kd l r : Nat} {n : Nat → Int32} {ot : Bool} (ev : vnat vv = v) (hi : ins) (hu : ¬ 0 < aw A v) (ho : ok) (h : (∃ B, evalV kd (aw A l) n ot (aB A l) (aB A r) = some B ∧ RX K g' m (nI 0) (setA A v w kd l r n ot B)) ∨ (evalV kd (aw A l) n ot (aB A l) (aB A r) = none ∧ RX K g' m (nI 4) A)) : ∃ k A', viewO ins ok A vv w kd l r n ot k A' ∧ RX K g' m (nI k) A' := by
  subst ev
  rcases h with ⟨B, h1, h2⟩ | ⟨h1, h2⟩
  · exact ⟨0, _, Or.inr (Or.inr (Or.inr (Or.inr ⟨rfl, hi, hu, ho, B, h1, rfl⟩))), h2⟩
  · exact ⟨4, A, Or.inr (Or.inr (Or.inr (Or.inl ⟨rfl, hi, hu, ho, (fun ⟨B, q⟩ => by rw [h1] at q; cases q), rfl⟩))), h2⟩
theorem RA.num {A : Ab} {Od : List Nat} {F G : Nat → Nat → Int32} (h : RA A Od F) {v : Nat} (hf : ak A v = 0) (hj : ∀ j, j ≠ 4 → j ≠ 5 → G j = F j) (h4 : ∀ i, (i < 4 * v ∨ 4 * v + 4 ≤ i) → G 4 i = F 4 i) (h5 : ∀ i, i ≠ v → G 5 i = F 5 i) : RA A Od G :=
  ⟨h.1, fun k x hx => by rw [hj 6 (by decide) (by decide)]; exact h.2.1 k x hx, fun i hi => by
    have hb := h.2.2 i hi
    have hob : OB G i (aB A i) := by have := hb.2.1; unfold OB at this ⊢; rw [hj 10 (by decide) (by decide), hj 8 (by decide) (by decide), hj 9 (by decide) (by decide)]; exact this
    by_cases e : i = v
    · subst e
      exact ⟨⟨by rw [hj 0 (by decide) (by decide)]; exact hb.1.1, by rw [hj 1 (by decide) (by decide)]; exact hb.1.2⟩, hob, fun k => absurd k (by omega), fun k => absurd k (by omega)⟩
    · exact hb.cg ⟨rfl, rfl, rfl, rfl, rfl⟩ rfl rfl hob (by rw [hj 0 (by decide) (by decide)]) (by rw [hj 1 (by decide) (by decide)]) (by rw [hj 2 (by decide) (by decide)]) (by rw [hj 3 (by decide) (by decide)]) (fun j _ => h4 _ (by omega)) (h5 i e) (by rw [hj 7 (by decide) (by decide)])⟩
theorem RA.free {A : Ab} {Od : List Nat} {F : Nat → Nat → Int32} (h : RA A Od F) (hI : Inv A) {v : Nat} (hv : v < 8) : (¬ 0 < aw A v → ak A v = 0 ∧ F 0 v = nI 0) ∧ (0 < aw A v → 0 < ak A v ∧ 0 < F 0 v) := by
  have h0 := (hI v hv).1.2.2.1
  have h8 := (hI v hv).1.2.1
  refine ⟨fun q => ?_, fun q => ?_⟩
  · have : ak A v = 0 := by omega
    exact ⟨this, by rw [(h.2.2 v hv).1.1, this]⟩
  · have : 0 < ak A v := by omega
    refine ⟨this, ?_⟩
    rw [(h.2.2 v hv).1.1, Int32.lt_iff_toInt_lt, nI_toInt (by omega), show (0 : Int32).toInt = 0 from rfl]
    omega
theorem i32_rng {x : Int32} {a b : Nat} (ha : a < 2 ^ 31) (hb : b < 2 ^ 31) (h1 : nI a ≤ x) (h2 : x ≤ nI b) : ∃ w, a ≤ w ∧ w ≤ b ∧ x = nI w := by
  have q1 := Int32.le_iff_toInt_le.mp h1
  have q2 := Int32.le_iff_toInt_le.mp h2
  rw [nI_toInt ha] at q1
  rw [nI_toInt hb] at q2
  refine ⟨x.toInt.toNat, by omega, by omega, Int32.toInt_inj.mp ?_⟩
  rw [nI_toInt (by omega)]
  omega
set_option maxRecDepth 20000 in
set_option maxHeartbeats 600000 in
/-- table -/
theorem c_X11_table (l : Launch) (K : Cst) (g : Wd) (m : Nat) (Q : Nat → Nat) (th fi : Int32) (F : Nat → Nat → Int32) (Od : List Nat) (hS : RS K g m Q th (nI Od.length) fi F) (A : Ab) (hI : Inv A) (hA : RA A Od F) (r co : Int32) : Ct l K yX11_table cX11_table 3 none 5 [.ref m, .int r, .int co] g (RPo K m (tabO A r co)) (fun _ _ => False) 0 0 := by
  refine ct_of (by decide) (Nat.le_of_ble_eq_true rfl) ?_
  intro X hl hK hX hE hn hL hR hm
  subst hl; subst hK
  show J X 0 0 g 0 [(0, .ref m), (1, .int r), (2, .int co)] []
  by_cases hP : P8 r
  · obtain ⟨vi, hvi, rfl⟩ := hP
    by_cases hu : 0 < aw A vi
    · show J X 0 0 g 0 [(0, .ref m), (1, .int (nI vi)), (2, .int co)] []
      refine j_aload_n hX dX11_table_0 0 rfl ?_
      refine j_iload_n hX dX11_table_1 1 rfl ?_
      refine j_callS (As := [.int (nI vi)]) (rest := [.ref m]) hX (c_X11_isPlace (xl X) (xK X) g (nI vi)) lk_X11_109 wS_X11_isPlace wN_X11 wC_X11_isPlace hd_X11_isPlace rfl (by rw [hL]; decide) (by decide) rfl (Nat.le_of_ble_eq_true rfl) dX11_table_2 (by rw [hR]; decide) (by rw [hR]; decide) jx_no ?_
      rintro _ _ ⟨b9, rfl, hb9, rfl⟩
      obtain rfl : b9 = true := hb9.mpr ⟨vi, hvi, rfl⟩
      clear hb9
      show J X 0 0 g 5 [(0, .ref m), (1, .int (nI vi)), (2, .int co)] [.int (b01 true), .ref m]
      refine j_if_ne hX 12 dX11_table_5 (by decide) (fun _ => ?_) (fun c_5 => absurd c_5 (by decide))
      refine j_aload_n hX dX11_table_12 0 rfl ?_
      refine j_get (v := .ref (Q 0)) hX hS.1 rfl wf_X11 1 (by decide) lk_X11_7 (fun _ h => h) rfl dX11_table_13 ?_
      refine j_iload_n hX dX11_table_16 1 rfl ?_
      refine j_ialdN hX (show g (Q 0) = some (aI (xK X) 8 (F 0)) from hS.2.1 0 (by decide)) (vi) (rfl) (hvi) (by decide) dX11_table_17 ?_
      refine j_if_le hX 25 dX11_table_18 (by decide) (fun c_18 => absurd c_18 (Int32.not_le.mpr ((hA.free hI hvi).2 hu).2)) (fun _ => ?_)
      refine j_iconst (v := nI 2) hX dX11_table_21 (by decide) ?_
      refine j_goto hX 40 dX11_table_22 (by decide) ?_
      refine j_put hX hS.1 rfl wf_X11 tyX11_ok nmX11 0 (by decide) lk_X11_56 (fun _ h => h) rfl (tyX11_ok 0 (by decide)) rfl rfl (Nat.le_of_ble_eq_true rfl) dX11_table_40 ?_
      obtain ⟨g1, eg1⟩ : ∃ z : Wd, z = up g m (ob 10 [.int (nI 2), .ref (Q 0), .ref (Q 1), .ref (Q 2), .ref (Q 3), .ref (Q 4), .ref (Q 5), .ref (Q 6), .int (nI Od.length), .ref (Q 7), .ref (Q 8), .ref (Q 9), .ref (Q 10), .ref (Q 11), .ref (Q 12), .ref (Q 13), .int fi, .ref (Q 14)]) := ⟨_, rfl⟩
      refine j_w eg1.symm ?_
      have hS1 : RS (xK X) g1 m Q (nI 2) (nI Od.length) fi F := by rw [eg1]; exact hS.obj _ _ _
      refine j_aload_n hX dX11_table_43 0 rfl ?_
      refine j_get (v := .int (nI 2)) hX hS1.1 rfl wf_X11 0 (by decide) lk_X11_56 (fun _ h => h) rfl dX11_table_44 ?_
      refine j_if_ne hX 59 dX11_table_47 (by decide) (fun _ => ?_) (fun c_47 => absurd c_47 (by decide))
      exact j_vret hX hE dX11_table_59 (⟨rfl, 2, A, Or.inr (Or.inl ⟨rfl, ⟨vi, hvi, rfl⟩, by rw [vnat_nI (by omega)]; exact hu, rfl⟩), Q, Od, fi, F, hS1, hA⟩) (by decide) (by decide)
    · by_cases hw : ∃ w, 1 ≤ w ∧ w ≤ 4 ∧ co = nI w
      · obtain ⟨w, hw1, hw4, rfl⟩ := hw
        show J X 0 0 g 0 [(0, .ref m), (1, .int (nI vi)), (2, .int (nI w))] []
        refine j_aload_n hX dX11_table_0 0 rfl ?_
        refine j_iload_n hX dX11_table_1 1 rfl ?_
        refine j_callS (As := [.int (nI vi)]) (rest := [.ref m]) hX (c_X11_isPlace (xl X) (xK X) g (nI vi)) lk_X11_109 wS_X11_isPlace wN_X11 wC_X11_isPlace hd_X11_isPlace rfl (by rw [hL]; decide) (by decide) rfl (Nat.le_of_ble_eq_true rfl) dX11_table_2 (by rw [hR]; decide) (by rw [hR]; decide) jx_no ?_
        rintro _ _ ⟨b9, rfl, hb9, rfl⟩
        obtain rfl : b9 = true := hb9.mpr ⟨vi, hvi, rfl⟩
        clear hb9
        show J X 0 0 g 5 [(0, .ref m), (1, .int (nI vi)), (2, .int (nI w))] [.int (b01 true), .ref m]
        refine j_if_ne hX 12 dX11_table_5 (by decide) (fun _ => ?_) (fun c_5 => absurd c_5 (by decide))
        refine j_aload_n hX dX11_table_12 0 rfl ?_
        refine j_get (v := .ref (Q 0)) hX hS.1 rfl wf_X11 1 (by decide) lk_X11_7 (fun _ h => h) rfl dX11_table_13 ?_
        refine j_iload_n hX dX11_table_16 1 rfl ?_
        refine j_ialdN hX (show g (Q 0) = some (aI (xK X) 8 (F 0)) from hS.2.1 0 (by decide)) (vi) (rfl) (hvi) (by decide) dX11_table_17 ?_
        refine j_eqi (y := nI 0) ((hA.free hI hvi).1 hu |>.2) ?_
        refine j_if_le hX 25 dX11_table_18 (by decide) (fun _ => ?_) (fun c_18 => absurd (by decide) c_18)
        refine j_iload_n hX dX11_table_25 2 rfl ?_
        refine j_iconst (v := nI 1) hX dX11_table_26 (by decide) ?_
        refine j_icmp_lt hX 35 dX11_table_27 (by decide) (fun c_27 => absurd c_27 (nI_nlt2 (a := w) (b := 1) hw1 (by omega))) (fun _ => ?_)
        refine j_iload_n hX dX11_table_30 2 rfl ?_
        refine j_iconst (v := nI 4) hX dX11_table_31 (by decide) ?_
        refine j_icmp_le hX 39 dX11_table_32 (by decide) (fun _ => ?_) (fun c_32 => absurd (nI_le (a := w) (b := 4) hw4 (by decide)) c_32)
        refine j_iconst (v := nI 0) hX dX11_table_39 (by decide) ?_
        refine j_put hX hS.1 rfl wf_X11 tyX11_ok nmX11 0 (by decide) lk_X11_56 (fun _ h => h) rfl (tyX11_ok 0 (by decide)) rfl rfl (Nat.le_of_ble_eq_true rfl) dX11_table_40 ?_
        obtain ⟨g1, eg1⟩ : ∃ z : Wd, z = up g m (ob 10 [.int (nI 0), .ref (Q 0), .ref (Q 1), .ref (Q 2), .ref (Q 3), .ref (Q 4), .ref (Q 5), .ref (Q 6), .int (nI Od.length), .ref (Q 7), .ref (Q 8), .ref (Q 9), .ref (Q 10), .ref (Q 11), .ref (Q 12), .ref (Q 13), .int fi, .ref (Q 14)]) := ⟨_, rfl⟩
        refine j_w eg1.symm ?_
        have hS1 : RS (xK X) g1 m Q (nI 0) (nI Od.length) fi F := by rw [eg1]; exact hS.obj _ _ _
        refine j_aload_n hX dX11_table_43 0 rfl ?_
        refine j_get (v := .int (nI 0)) hX hS1.1 rfl wf_X11 0 (by decide) lk_X11_56 (fun _ h => h) rfl dX11_table_44 ?_
        refine j_if_ne hX 59 dX11_table_47 (by decide) (fun c_47 => absurd c_47 (fun q => q (by rfl))) (fun _ => ?_)
        refine j_aload_n hX dX11_table_50 0 rfl ?_
        refine j_iload_n hX dX11_table_51 1 rfl ?_
        refine j_iconst (v := nI 1) hX dX11_table_52 (by decide) ?_
        refine j_iload_n hX dX11_table_53 2 rfl ?_
        refine j_iconst (v := (-1)) hX dX11_table_54 (by decide) ?_
        refine j_iconst (v := (-1)) hX dX11_table_55 (by decide) ?_
        refine j_callV (As := [.int (nI vi), .int (nI 1), .int (nI w), .int (-1), .int (-1)]) (rest := []) hX (c_X11_enter (xl X) (xK X) g1 m Od.length Q (nI 0) fi F hS1 vi hvi (od_lt hA.1.1 hA.1.2.1 hvi (fun q => by have := (hA.1.2.2.1 vi hvi).mp q; have := ((hA.free hI hvi).1 hu).1; omega)) (nI 1) (nI w) (-1) (-1)) hS1.1 rfl lk_X11_119 wI_X11_enter wV_X11_X11_enter wN_X11 wC_X11_enter hd_X11_enter rfl (by rw [hL]; decide) (by decide) rfl (Nat.le_of_ble_eq_true rfl) dX11_table_56 (by rw [hR]; decide) (by rw [hR]; decide) jx_no ?_
        rintro _ g2 ⟨rfl, F2, hS2, a0, a1, a2, a3, a10, a7, a6, aj⟩
        show J X 0 0 g2 59 [(0, .ref m), (1, .int (nI vi)), (2, .int (nI w))] []
        exact j_vret hX hE dX11_table_59 (⟨rfl, 0, setA A (vnat (nI vi)) (vnat (nI w)) 1 0 0 (fun _ => 0) false [], Or.inr (Or.inr (Or.inr (Or.inr ⟨rfl, ⟨vi, hvi, rfl⟩, by rw [vnat_nI (by omega)]; exact hu, ⟨w, hw1, hw4, rfl⟩, (), trivial, rfl⟩))), Q, Od ++ [vi], fi, F2, by rw [List.length_append]; exact hS2, by rw [vnat_nI (by omega), vnat_nI (by omega)]; exact hA.made hvi ((hA.free hI hvi).1 hu).1 (by omega) (fun q => absurd q (by omega)) a0 a1 (Or.inr ⟨by decide, _, a2⟩) a3 a7 a6 (aj 4 (by decide) (by decide) (by decide) (by decide) (by decide) (by decide) (by decide)) (aj 5 (by decide) (by decide) (by decide) (by decide) (by decide) (by decide) (by decide)) (fun q => absurd q (by omega)) (fun q hq => by
  by_cases e : q = vi
  · subst e; rw [fu_s]; exact ⟨by rw [a10, pk_us]; rfl, fun k x hx => by cases hx⟩
  · rw [fu_n e]
    have hb := (hA.2.2 q hq).2.1
    exact ⟨by rw [a10, pk_un e]; exact hb.1, by rw [aj 8 (by decide) (by decide) (by decide) (by decide) (by decide) (by decide) (by decide), aj 9 (by decide) (by decide) (by decide) (by decide) (by decide) (by decide) (by decide)]; exact hb.2⟩)⟩) (by decide) (by decide)
      · have hw9 : ¬ (¬ co < nI 1 ∧ co ≤ nI 4) := fun q => hw (i32_rng (by decide) (by decide) (Int32.not_lt.mp q.1) q.2)
        show J X 0 0 g 0 [(0, .ref m), (1, .int (nI vi)), (2, .int co)] []
        refine j_aload_n hX dX11_table_0 0 rfl ?_
        refine j_iload_n hX dX11_table_1 1 rfl ?_
        refine j_callS (As := [.int (nI vi)]) (rest := [.ref m]) hX (c_X11_isPlace (xl X) (xK X) g (nI vi)) lk_X11_109 wS_X11_isPlace wN_X11 wC_X11_isPlace hd_X11_isPlace rfl (by rw [hL]; decide) (by decide) rfl (Nat.le_of_ble_eq_true rfl) dX11_table_2 (by rw [hR]; decide) (by rw [hR]; decide) jx_no ?_
        rintro _ _ ⟨b9, rfl, hb9, rfl⟩
        obtain rfl : b9 = true := hb9.mpr ⟨vi, hvi, rfl⟩
        clear hb9
        show J X 0 0 g 5 [(0, .ref m), (1, .int (nI vi)), (2, .int co)] [.int (b01 true), .ref m]
        refine j_if_ne hX 12 dX11_table_5 (by decide) (fun _ => ?_) (fun c_5 => absurd c_5 (by decide))
        refine j_aload_n hX dX11_table_12 0 rfl ?_
        refine j_get (v := .ref (Q 0)) hX hS.1 rfl wf_X11 1 (by decide) lk_X11_7 (fun _ h => h) rfl dX11_table_13 ?_
        refine j_iload_n hX dX11_table_16 1 rfl ?_
        refine j_ialdN hX (show g (Q 0) = some (aI (xK X) 8 (F 0)) from hS.2.1 0 (by decide)) (vi) (rfl) (hvi) (by decide) dX11_table_17 ?_
        refine j_eqi (y := nI 0) ((hA.free hI hvi).1 hu |>.2) ?_
        refine j_if_le hX 25 dX11_table_18 (by decide) (fun _ => ?_) (fun c_18 => absurd (by decide) c_18)
        refine j_iload_n hX dX11_table_25 2 rfl ?_
        refine j_iconst (v := nI 1) hX dX11_table_26 (by decide) ?_
        refine j_icmp_lt hX 35 dX11_table_27 (by decide) (fun c_27 => ?_) (fun c_27 => ?_)
        · refine j_iconst (v := nI 3) hX dX11_table_35 (by decide) ?_
          refine j_goto hX 40 dX11_table_36 (by decide) ?_
          refine j_put hX hS.1 rfl wf_X11 tyX11_ok nmX11 0 (by decide) lk_X11_56 (fun _ h => h) rfl (tyX11_ok 0 (by decide)) rfl rfl (Nat.le_of_ble_eq_true rfl) dX11_table_40 ?_
          obtain ⟨g1, eg1⟩ : ∃ z : Wd, z = up g m (ob 10 [.int (nI 3), .ref (Q 0), .ref (Q 1), .ref (Q 2), .ref (Q 3), .ref (Q 4), .ref (Q 5), .ref (Q 6), .int (nI Od.length), .ref (Q 7), .ref (Q 8), .ref (Q 9), .ref (Q 10), .ref (Q 11), .ref (Q 12), .ref (Q 13), .int fi, .ref (Q 14)]) := ⟨_, rfl⟩
          refine j_w eg1.symm ?_
          have hS1 : RS (xK X) g1 m Q (nI 3) (nI Od.length) fi F := by rw [eg1]; exact hS.obj _ _ _
          refine j_aload_n hX dX11_table_43 0 rfl ?_
          refine j_get (v := .int (nI 3)) hX hS1.1 rfl wf_X11 0 (by decide) lk_X11_56 (fun _ h => h) rfl dX11_table_44 ?_
          refine j_if_ne hX 59 dX11_table_47 (by decide) (fun _ => ?_) (fun c_47 => absurd c_47 (by decide))
          exact j_vret hX hE dX11_table_59 (⟨rfl, 3, A, Or.inr (Or.inr (Or.inl ⟨rfl, ⟨vi, hvi, rfl⟩, by rw [vnat_nI (by omega)]; exact hu, hw, rfl⟩)), Q, Od, fi, F, hS1, hA⟩) (by decide) (by decide)
        · refine j_iload_n hX dX11_table_30 2 rfl ?_
          refine j_iconst (v := nI 4) hX dX11_table_31 (by decide) ?_
          refine j_icmp_le hX 39 dX11_table_32 (by decide) (fun c_32 => absurd c_32 (fun q => hw9 ⟨c_27, q⟩)) (fun _ => ?_)
          refine j_iconst (v := nI 3) hX dX11_table_35 (by decide) ?_
          refine j_goto hX 40 dX11_table_36 (by decide) ?_
          refine j_put hX hS.1 rfl wf_X11 tyX11_ok nmX11 0 (by decide) lk_X11_56 (fun _ h => h) rfl (tyX11_ok 0 (by decide)) rfl rfl (Nat.le_of_ble_eq_true rfl) dX11_table_40 ?_
          obtain ⟨g2, eg2⟩ : ∃ z : Wd, z = up g m (ob 10 [.int (nI 3), .ref (Q 0), .ref (Q 1), .ref (Q 2), .ref (Q 3), .ref (Q 4), .ref (Q 5), .ref (Q 6), .int (nI Od.length), .ref (Q 7), .ref (Q 8), .ref (Q 9), .ref (Q 10), .ref (Q 11), .ref (Q 12), .ref (Q 13), .int fi, .ref (Q 14)]) := ⟨_, rfl⟩
          refine j_w eg2.symm ?_
          have hS2 : RS (xK X) g2 m Q (nI 3) (nI Od.length) fi F := by rw [eg2]; exact hS.obj _ _ _
          refine j_aload_n hX dX11_table_43 0 rfl ?_
          refine j_get (v := .int (nI 3)) hX hS2.1 rfl wf_X11 0 (by decide) lk_X11_56 (fun _ h => h) rfl dX11_table_44 ?_
          refine j_if_ne hX 59 dX11_table_47 (by decide) (fun _ => ?_) (fun c_47 => absurd c_47 (by decide))
          exact j_vret hX hE dX11_table_59 (⟨rfl, 3, A, Or.inr (Or.inr (Or.inl ⟨rfl, ⟨vi, hvi, rfl⟩, by rw [vnat_nI (by omega)]; exact hu, hw, rfl⟩)), Q, Od, fi, F, hS2, hA⟩) (by decide) (by decide)
  · show J X 0 0 g 0 [(0, .ref m), (1, .int r), (2, .int co)] []
    refine j_aload_n hX dX11_table_0 0 rfl ?_
    refine j_iload_n hX dX11_table_1 1 rfl ?_
    refine j_callS (As := [.int r]) (rest := [.ref m]) hX (c_X11_isPlace (xl X) (xK X) g (r)) lk_X11_109 wS_X11_isPlace wN_X11 wC_X11_isPlace hd_X11_isPlace rfl (by rw [hL]; decide) (by decide) rfl (Nat.le_of_ble_eq_true rfl) dX11_table_2 (by rw [hR]; decide) (by rw [hR]; decide) jx_no ?_
    rintro _ _ ⟨b9, rfl, hb9, rfl⟩
    obtain rfl : b9 = false := Bool.eq_false_iff.mpr (fun q => hP (hb9.mp q))
    clear hb9
    show J X 0 0 g 5 [(0, .ref m), (1, .int r), (2, .int co)] [.int (b01 false), .ref m]
    refine j_if_ne hX 12 dX11_table_5 (by decide) (fun c_5 => absurd c_5 (fun q => q (by rfl))) (fun _ => ?_)
    refine j_iconst (v := nI 1) hX dX11_table_8 (by decide) ?_
    refine j_goto hX 40 dX11_table_9 (by decide) ?_
    refine j_put hX hS.1 rfl wf_X11 tyX11_ok nmX11 0 (by decide) lk_X11_56 (fun _ h => h) rfl (tyX11_ok 0 (by decide)) rfl rfl (Nat.le_of_ble_eq_true rfl) dX11_table_40 ?_
    obtain ⟨g1, eg1⟩ : ∃ z : Wd, z = up g m (ob 10 [.int (nI 1), .ref (Q 0), .ref (Q 1), .ref (Q 2), .ref (Q 3), .ref (Q 4), .ref (Q 5), .ref (Q 6), .int (nI Od.length), .ref (Q 7), .ref (Q 8), .ref (Q 9), .ref (Q 10), .ref (Q 11), .ref (Q 12), .ref (Q 13), .int fi, .ref (Q 14)]) := ⟨_, rfl⟩
    refine j_w eg1.symm ?_
    have hS1 : RS (xK X) g1 m Q (nI 1) (nI Od.length) fi F := by rw [eg1]; exact hS.obj _ _ _
    refine j_aload_n hX dX11_table_43 0 rfl ?_
    refine j_get (v := .int (nI 1)) hX hS1.1 rfl wf_X11 0 (by decide) lk_X11_56 (fun _ h => h) rfl dX11_table_44 ?_
    refine j_if_ne hX 59 dX11_table_47 (by decide) (fun _ => ?_) (fun c_47 => absurd c_47 (by decide))
    exact j_vret hX hE dX11_table_59 (⟨rfl, 1, A, Or.inl ⟨rfl, hP, rfl⟩, Q, Od, fi, F, hS1, hA⟩) (by decide) (by decide)

def RPo1 (K : Cst) (m : Nat) (O : Nat → Ab → Prop) : Option Value → Wd → Prop := fun r g' => r = none ∧ ∃ k A', O k A' ∧ RX K g' m (nI (if k = 4 then 3 else k)) A'
set_option maxRecDepth 20000 in
set_option maxHeartbeats 1600000 in
/-- c_X11_once -/
theorem c_X11_once (l : Launch) (K : Cst) (g : Wd) (m : Nat) (Q : Nat → Nat) (th fi : Int32) (F : Nat → Nat → Int32) (Od : List Nat) (hS : RS K g m Q th (nI Od.length) fi F) (A : Ab) (hI : Inv A) (hA : RA A Od F) (v ofr : Int32) : Ct l K yX11_once cX11_once 4 none 5 [.ref m, .int v, .int ofr] g (RPo1 K m (onceO A v ofr)) (fun _ _ => False) 0 0 := by
  refine ct_of (by decide) (Nat.le_of_ble_eq_true rfl) ?_
  intro X hl hK hX hE hn hL hR hm
  subst hl; subst hK
  show J X 0 0 g 0 [(0, .ref m), (1, .int v), (2, .int ofr)] []
  by_cases hP : P8 v
  · obtain ⟨vi, hvi, rfl⟩ := hP
    by_cases hR9 : isR A ofr
    · obtain ⟨oi, hoi, rfl, hwo⟩ := hR9
      by_cases hu : 0 < aw A vi
      · show J X 0 0 g 0 [(0, .ref m), (1, .int (nI vi)), (2, .int (nI oi))] []
        refine j_iload_n hX dX11_once_0 1 rfl ?_
        refine j_callS (As := [.int (nI vi)]) (rest := []) hX (c_X11_isPlace (xl X) (xK X) g (nI vi)) lk_X11_109 wS_X11_isPlace wN_X11 wC_X11_isPlace hd_X11_isPlace rfl (by rw [hL]; decide) (by decide) rfl (Nat.le_of_ble_eq_true rfl) dX11_once_1 (by rw [hR]; decide) (by rw [hR]; decide) jx_no ?_
        rintro _ _ ⟨b9, rfl, hb9, rfl⟩
        obtain rfl : b9 = true := hb9.mpr ⟨vi, hvi, rfl⟩
        clear hb9
        show J X 0 0 g 4 [(0, .ref m), (1, .int (nI vi)), (2, .int (nI oi))] [.int (b01 true)]
        refine j_if_eq hX 19 dX11_once_4 (by decide) (fun c_4 => absurd c_4 (by decide)) (fun _ => ?_)
        refine j_aload_n hX dX11_once_7 0 rfl ?_
        refine j_iload_n hX dX11_once_8 2 rfl ?_
        refine j_callV (As := [.int (nI oi)]) (rest := []) hX (c_X11_is (xl X) (xK X) g m Q th (nI Od.length) fi F hS (nI oi)) hS.1 rfl lk_X11_113 wI_X11_is wV_X11_X11_is wN_X11 wC_X11_is hd_X11_is rfl (by rw [hL]; decide) (by decide) rfl (Nat.le_of_ble_eq_true rfl) dX11_once_9 (by rw [hR]; decide) (by rw [hR]; decide) jx_no ?_
        rintro _ _ ⟨b9, rfl, hb9, rfl⟩
        obtain rfl : b9 = true := hb9.mpr ((hA.is hI _).mpr ⟨oi, hoi, rfl, hwo⟩)
        clear hb9
        show J X 0 0 g 12 [(0, .ref m), (1, .int (nI vi)), (2, .int (nI oi))] [.int (b01 true)]
        refine j_if_eq hX 19 dX11_once_12 (by decide) (fun c_12 => absurd c_12 (by decide)) (fun _ => ?_)
        refine j_iconst (v := nI 1) hX dX11_once_15 (by decide) ?_
        refine j_goto hX 20 dX11_once_16 (by decide) ?_
        refine j_istore_n (lv' := [(3, .int (nI 1)), (0, .ref m), (1, .int (nI vi)), (2, .int (nI oi))]) hX dX11_once_20 (by rw [hn]; decide) rfl ?_
        refine j_aload_n hX dX11_once_21 1 rfl ?_
        refine j_iload_n hX dX11_once_22 0 rfl ?_
        refine j_if_ne hX 30 dX11_once_23 (by decide) (fun _ => ?_) (fun c_23 => absurd c_23 (by decide))
        refine j_aload_n hX dX11_once_30 1 rfl ?_
        refine j_get (v := .ref (Q 0)) hX hS.1 rfl wf_X11 1 (by decide) lk_X11_7 (fun _ h => h) rfl dX11_once_31 ?_
        refine j_iload_n hX dX11_once_34 2 rfl ?_
        refine j_ialdN hX (show g (Q 0) = some (aI (xK X) 8 (F 0)) from hS.2.1 0 (by decide)) (vi) (rfl) (hvi) (by decide) dX11_once_35 ?_
        refine j_if_le hX 43 dX11_once_36 (by decide) (fun c_36 => absurd c_36 (Int32.not_le.mpr ((hA.free hI hvi).2 hu).2)) (fun _ => ?_)
        refine j_iconst (v := nI 2) hX dX11_once_39 (by decide) ?_
        refine j_goto hX 44 dX11_once_40 (by decide) ?_
        refine j_put hX hS.1 rfl wf_X11 tyX11_ok nmX11 0 (by decide) lk_X11_56 (fun _ h => h) rfl (tyX11_ok 0 (by decide)) rfl rfl (Nat.le_of_ble_eq_true rfl) dX11_once_44 ?_
        obtain ⟨g1, eg1⟩ : ∃ z : Wd, z = up g m (ob 10 [.int (nI 2), .ref (Q 0), .ref (Q 1), .ref (Q 2), .ref (Q 3), .ref (Q 4), .ref (Q 5), .ref (Q 6), .int (nI Od.length), .ref (Q 7), .ref (Q 8), .ref (Q 9), .ref (Q 10), .ref (Q 11), .ref (Q 12), .ref (Q 13), .int fi, .ref (Q 14)]) := ⟨_, rfl⟩
        refine j_w eg1.symm ?_
        have hS1 : RS (xK X) g1 m Q (nI 2) (nI Od.length) fi F := by rw [eg1]; exact hS.obj _ _ _
        refine j_aload_n hX dX11_once_47 1 rfl ?_
        refine j_get (v := .int (nI 2)) hX hS1.1 rfl wf_X11 0 (by decide) lk_X11_56 (fun _ h => h) rfl dX11_once_48 ?_
        refine j_if_ne hX 85 dX11_once_51 (by decide) (fun _ => ?_) (fun c_51 => absurd c_51 (by decide))
        exact j_vret hX hE dX11_once_85 (⟨rfl, 2, A, Or.inr (Or.inl ⟨rfl, ⟨⟨vi, hvi, rfl⟩, oi, hoi, rfl, hwo⟩, by rw [vnat_nI (by omega)]; exact hu, rfl⟩), Q, Od, fi, F, hS1, hA⟩) (by decide) (by decide)
      · have hfv := ((hA.free hI hvi).1 hu).1
        have hkl := ((hA.free hI hoi).2 hwo).1
        have hkr := hkl
        have hA9 := hA
        show J X 0 0 g 0 [(0, .ref m), (1, .int (nI vi)), (2, .int (nI oi))] []
        refine j_iload_n hX dX11_once_0 1 rfl ?_
        refine j_callS (As := [.int (nI vi)]) (rest := []) hX (c_X11_isPlace (xl X) (xK X) g (nI vi)) lk_X11_109 wS_X11_isPlace wN_X11 wC_X11_isPlace hd_X11_isPlace rfl (by rw [hL]; decide) (by decide) rfl (Nat.le_of_ble_eq_true rfl) dX11_once_1 (by rw [hR]; decide) (by rw [hR]; decide) jx_no ?_
        rintro _ _ ⟨b9, rfl, hb9, rfl⟩
        obtain rfl : b9 = true := hb9.mpr ⟨vi, hvi, rfl⟩
        clear hb9
        show J X 0 0 g 4 [(0, .ref m), (1, .int (nI vi)), (2, .int (nI oi))] [.int (b01 true)]
        refine j_if_eq hX 19 dX11_once_4 (by decide) (fun c_4 => absurd c_4 (by decide)) (fun _ => ?_)
        refine j_aload_n hX dX11_once_7 0 rfl ?_
        refine j_iload_n hX dX11_once_8 2 rfl ?_
        refine j_callV (As := [.int (nI oi)]) (rest := []) hX (c_X11_is (xl X) (xK X) g m Q th (nI Od.length) fi F hS (nI oi)) hS.1 rfl lk_X11_113 wI_X11_is wV_X11_X11_is wN_X11 wC_X11_is hd_X11_is rfl (by rw [hL]; decide) (by decide) rfl (Nat.le_of_ble_eq_true rfl) dX11_once_9 (by rw [hR]; decide) (by rw [hR]; decide) jx_no ?_
        rintro _ _ ⟨b9, rfl, hb9, rfl⟩
        obtain rfl : b9 = true := hb9.mpr ((hA.is hI _).mpr ⟨oi, hoi, rfl, hwo⟩)
        clear hb9
        show J X 0 0 g 12 [(0, .ref m), (1, .int (nI vi)), (2, .int (nI oi))] [.int (b01 true)]
        refine j_if_eq hX 19 dX11_once_12 (by decide) (fun c_12 => absurd c_12 (by decide)) (fun _ => ?_)
        refine j_iconst (v := nI 1) hX dX11_once_15 (by decide) ?_
        refine j_goto hX 20 dX11_once_16 (by decide) ?_
        refine j_istore_n (lv' := [(3, .int (nI 1)), (0, .ref m), (1, .int (nI vi)), (2, .int (nI oi))]) hX dX11_once_20 (by rw [hn]; decide) rfl ?_
        refine j_aload_n hX dX11_once_21 1 rfl ?_
        refine j_iload_n hX dX11_once_22 0 rfl ?_
        refine j_if_ne hX 30 dX11_once_23 (by decide) (fun _ => ?_) (fun c_23 => absurd c_23 (by decide))
        refine j_aload_n hX dX11_once_30 1 rfl ?_
        refine j_get (v := .ref (Q 0)) hX hS.1 rfl wf_X11 1 (by decide) lk_X11_7 (fun _ h => h) rfl dX11_once_31 ?_
        refine j_iload_n hX dX11_once_34 2 rfl ?_
        refine j_ialdN hX (show g (Q 0) = some (aI (xK X) 8 (F 0)) from hS.2.1 0 (by decide)) (vi) (rfl) (hvi) (by decide) dX11_once_35 ?_
        refine j_eqi (y := nI 0) ((hA.free hI hvi).1 hu |>.2) ?_
        refine j_if_le hX 43 dX11_once_36 (by decide) (fun _ => ?_) (fun c_36 => absurd (by decide) c_36)
        refine j_iconst (v := nI 0) hX dX11_once_43 (by decide) ?_
        refine j_put hX hS.1 rfl wf_X11 tyX11_ok nmX11 0 (by decide) lk_X11_56 (fun _ h => h) rfl (tyX11_ok 0 (by decide)) rfl rfl (Nat.le_of_ble_eq_true rfl) dX11_once_44 ?_
        obtain ⟨g1, eg1⟩ : ∃ z : Wd, z = up g m (ob 10 [.int (nI 0), .ref (Q 0), .ref (Q 1), .ref (Q 2), .ref (Q 3), .ref (Q 4), .ref (Q 5), .ref (Q 6), .int (nI Od.length), .ref (Q 7), .ref (Q 8), .ref (Q 9), .ref (Q 10), .ref (Q 11), .ref (Q 12), .ref (Q 13), .int fi, .ref (Q 14)]) := ⟨_, rfl⟩
        refine j_w eg1.symm ?_
        have hS1 : RS (xK X) g1 m Q (nI 0) (nI Od.length) fi F := by rw [eg1]; exact hS.obj _ _ _
        refine j_aload_n hX dX11_once_47 1 rfl ?_
        refine j_get (v := .int (nI 0)) hX hS1.1 rfl wf_X11 0 (by decide) lk_X11_56 (fun _ h => h) rfl dX11_once_48 ?_
        refine j_if_ne hX 85 dX11_once_51 (by decide) (fun c_51 => absurd c_51 (fun q => q (by rfl))) (fun _ => ?_)
        refine j_aload_n hX dX11_once_54 1 rfl ?_
        refine j_iload_n hX dX11_once_55 2 rfl ?_
        refine j_bipush (v := nI 7) hX dX11_once_56 (by decide) ?_
        refine j_aload_n hX dX11_once_58 1 rfl ?_
        refine j_get (v := .ref (Q 1)) hX hS1.1 rfl wf_X11 2 (by decide) lk_X11_13 (fun _ h => h) rfl dX11_once_59 ?_
        refine j_iload_n hX dX11_once_62 3 rfl ?_
        refine j_ialdN hX (show g1 (Q 1) = some (aI (xK X) 8 (F 1)) from hS1.2.1 1 (by decide)) (oi) (rfl) (hoi) (by decide) dX11_once_63 ?_
        refine j_eqi (y := nI (aw A oi)) ((hA9.2.2 oi hoi).1.2) ?_
        refine j_iload_n hX dX11_once_64 3 rfl ?_
        refine j_iconst (v := (-1)) hX dX11_once_65 (by decide) ?_
        refine j_callV (As := [.int (nI vi), .int (nI 7), .int (nI (aw A oi)), .int (nI oi), .int (-1)]) (rest := []) hX (c_X11_view (xl X) (xK X) g1 m Q (nI 0) fi F Od hS1 A hI hA9 vi 7 (aw A oi) oi oi (-1) (fun _ => 0) false hvi hfv (by decide) hoi hoi hkl hkr (hwo) ((hI oi hoi).1.1) (⟨fun q => absurd q (by unfold isB; omega), fun _ => ⟨rfl, rfl⟩, fun j hj => absurd hj (by show ¬ j < 0; omega), fun q => absurd q (by decide)⟩) (trivial) (rfl)) hS1.1 rfl lk_X11_138 wI_X11_view wV_X11_X11_view wN_X11 wC_X11_view hd_X11_view rfl (by rw [hL]; decide) (by decide) rfl (Nat.le_of_ble_eq_true rfl) dX11_once_66 (by rw [hR]; decide) (by rw [hR]; decide) jx_no ?_
        rintro _ g9 ⟨rfl, h9⟩
        rcases h9 with ⟨B, h1, Q, Od9, fi9, F9, hS9, hR9⟩ | ⟨h1, Q, Od9, fi9, F9, hS9, hR9⟩
        · show J X 0 0 g9 69 [(3, .int (nI 1)), (0, .ref m), (1, .int (nI vi)), (2, .int (nI oi))] []
          refine j_aload_n hX dX11_once_69 1 rfl ?_
          refine j_aload_n hX dX11_once_70 1 rfl ?_
          refine j_get (v := .int (nI 0)) hX hS9.1 rfl wf_X11 0 (by decide) lk_X11_56 (fun _ h => h) rfl dX11_once_71 ?_
          refine j_if_le hX 81 dX11_once_74 (by decide) (fun _ => ?_) (fun c_74 => absurd (by decide) c_74)
          refine j_iconst (v := nI 0) hX dX11_once_81 (by decide) ?_
          refine j_put hX hS9.1 rfl wf_X11 tyX11_ok nmX11 0 (by decide) lk_X11_56 (fun _ h => h) rfl (tyX11_ok 0 (by decide)) rfl rfl (Nat.le_of_ble_eq_true rfl) dX11_once_82 ?_
          obtain ⟨g2, eg2⟩ : ∃ z : Wd, z = up g9 m (ob 10 [.int (nI 0), .ref (Q 0), .ref (Q 1), .ref (Q 2), .ref (Q 3), .ref (Q 4), .ref (Q 5), .ref (Q 6), .int (nI Od9.length), .ref (Q 7), .ref (Q 8), .ref (Q 9), .ref (Q 10), .ref (Q 11), .ref (Q 12), .ref (Q 13), .int fi9, .ref (Q 14)]) := ⟨_, rfl⟩
          refine j_w eg2.symm ?_
          have hS2 : RS (xK X) g2 m Q (nI 0) (nI Od9.length) fi9 F9 := by rw [eg2]; exact hS9.obj _ _ _
          exact j_vret hX hE dX11_once_85 (⟨rfl, 0, _, Or.inr (Or.inr (Or.inr (Or.inr ⟨rfl, ⟨⟨vi, hvi, rfl⟩, oi, hoi, rfl, hwo⟩, by rw [vnat_nI (by omega)]; exact hu, trivial, B, by rw [vnat_nI (by omega)]; exact h1, rfl⟩))), Q, Od9, fi9, F9, hS2, by rw [vnat_nI (show vi < 2 ^ 31 by omega), vnat_nI (show oi < 2 ^ 31 by omega)]; exact hR9⟩) (by decide) (by decide)
        · show J X 0 0 g9 69 [(3, .int (nI 1)), (0, .ref m), (1, .int (nI vi)), (2, .int (nI oi))] []
          refine j_aload_n hX dX11_once_69 1 rfl ?_
          refine j_aload_n hX dX11_once_70 1 rfl ?_
          refine j_get (v := .int (nI 4)) hX hS9.1 rfl wf_X11 0 (by decide) lk_X11_56 (fun _ h => h) rfl dX11_once_71 ?_
          refine j_if_le hX 81 dX11_once_74 (by decide) (fun c_74 => absurd c_74 (by decide)) (fun _ => ?_)
          refine j_iconst (v := nI 3) hX dX11_once_77 (by decide) ?_
          refine j_goto hX 82 dX11_once_78 (by decide) ?_
          refine j_put hX hS9.1 rfl wf_X11 tyX11_ok nmX11 0 (by decide) lk_X11_56 (fun _ h => h) rfl (tyX11_ok 0 (by decide)) rfl rfl (Nat.le_of_ble_eq_true rfl) dX11_once_82 ?_
          obtain ⟨g3, eg3⟩ : ∃ z : Wd, z = up g9 m (ob 10 [.int (nI 3), .ref (Q 0), .ref (Q 1), .ref (Q 2), .ref (Q 3), .ref (Q 4), .ref (Q 5), .ref (Q 6), .int (nI Od9.length), .ref (Q 7), .ref (Q 8), .ref (Q 9), .ref (Q 10), .ref (Q 11), .ref (Q 12), .ref (Q 13), .int fi9, .ref (Q 14)]) := ⟨_, rfl⟩
          refine j_w eg3.symm ?_
          have hS3 : RS (xK X) g3 m Q (nI 3) (nI Od9.length) fi9 F9 := by rw [eg3]; exact hS9.obj _ _ _
          exact j_vret hX hE dX11_once_85 (⟨rfl, 4, A, Or.inr (Or.inr (Or.inr (Or.inl ⟨rfl, ⟨⟨vi, hvi, rfl⟩, oi, hoi, rfl, hwo⟩, by rw [vnat_nI (by omega)]; exact hu, trivial, (fun ⟨B, q⟩ => by rw [vnat_nI (by omega), h1] at q; cases q), rfl⟩))), Q, Od9, fi9, F9, hS3, hR9⟩) (by decide) (by decide)
    · show J X 0 0 g 0 [(0, .ref m), (1, .int (nI vi)), (2, .int ofr)] []
      refine j_iload_n hX dX11_once_0 1 rfl ?_
      refine j_callS (As := [.int (nI vi)]) (rest := []) hX (c_X11_isPlace (xl X) (xK X) g (nI vi)) lk_X11_109 wS_X11_isPlace wN_X11 wC_X11_isPlace hd_X11_isPlace rfl (by rw [hL]; decide) (by decide) rfl (Nat.le_of_ble_eq_true rfl) dX11_once_1 (by rw [hR]; decide) (by rw [hR]; decide) jx_no ?_
      rintro _ _ ⟨b9, rfl, hb9, rfl⟩
      obtain rfl : b9 = true := hb9.mpr ⟨vi, hvi, rfl⟩
      clear hb9
      show J X 0 0 g 4 [(0, .ref m), (1, .int (nI vi)), (2, .int ofr)] [.int (b01 true)]
      refine j_if_eq hX 19 dX11_once_4 (by decide) (fun c_4 => absurd c_4 (by decide)) (fun _ => ?_)
      refine j_aload_n hX dX11_once_7 0 rfl ?_
      refine j_iload_n hX dX11_once_8 2 rfl ?_
      refine j_callV (As := [.int ofr]) (rest := []) hX (c_X11_is (xl X) (xK X) g m Q th (nI Od.length) fi F hS (ofr)) hS.1 rfl lk_X11_113 wI_X11_is wV_X11_X11_is wN_X11 wC_X11_is hd_X11_is rfl (by rw [hL]; decide) (by decide) rfl (Nat.le_of_ble_eq_true rfl) dX11_once_9 (by rw [hR]; decide) (by rw [hR]; decide) jx_no ?_
      rintro _ _ ⟨b9, rfl, hb9, rfl⟩
      obtain rfl : b9 = false := Bool.eq_false_iff.mpr (fun q => hR9 ((hA.is hI _).mp (hb9.mp q)))
      clear hb9
      show J X 0 0 g 12 [(0, .ref m), (1, .int (nI vi)), (2, .int ofr)] [.int (b01 false)]
      refine j_if_eq hX 19 dX11_once_12 (by decide) (fun _ => ?_) (fun c_12 => absurd (by decide) c_12)
      refine j_iconst (v := nI 0) hX dX11_once_19 (by decide) ?_
      refine j_istore_n (lv' := [(3, .int (nI 0)), (0, .ref m), (1, .int (nI vi)), (2, .int ofr)]) hX dX11_once_20 (by rw [hn]; decide) rfl ?_
      refine j_aload_n hX dX11_once_21 1 rfl ?_
      refine j_iload_n hX dX11_once_22 0 rfl ?_
      refine j_if_ne hX 30 dX11_once_23 (by decide) (fun c_23 => absurd c_23 (fun q => q (by rfl))) (fun _ => ?_)
      refine j_iconst (v := nI 1) hX dX11_once_26 (by decide) ?_
      refine j_goto hX 44 dX11_once_27 (by decide) ?_
      refine j_put hX hS.1 rfl wf_X11 tyX11_ok nmX11 0 (by decide) lk_X11_56 (fun _ h => h) rfl (tyX11_ok 0 (by decide)) rfl rfl (Nat.le_of_ble_eq_true rfl) dX11_once_44 ?_
      obtain ⟨g1, eg1⟩ : ∃ z : Wd, z = up g m (ob 10 [.int (nI 1), .ref (Q 0), .ref (Q 1), .ref (Q 2), .ref (Q 3), .ref (Q 4), .ref (Q 5), .ref (Q 6), .int (nI Od.length), .ref (Q 7), .ref (Q 8), .ref (Q 9), .ref (Q 10), .ref (Q 11), .ref (Q 12), .ref (Q 13), .int fi, .ref (Q 14)]) := ⟨_, rfl⟩
      refine j_w eg1.symm ?_
      have hS1 : RS (xK X) g1 m Q (nI 1) (nI Od.length) fi F := by rw [eg1]; exact hS.obj _ _ _
      refine j_aload_n hX dX11_once_47 1 rfl ?_
      refine j_get (v := .int (nI 1)) hX hS1.1 rfl wf_X11 0 (by decide) lk_X11_56 (fun _ h => h) rfl dX11_once_48 ?_
      refine j_if_ne hX 85 dX11_once_51 (by decide) (fun _ => ?_) (fun c_51 => absurd c_51 (by decide))
      exact j_vret hX hE dX11_once_85 (⟨rfl, 1, A, Or.inl ⟨rfl, fun q => hR9 q.2, rfl⟩, Q, Od, fi, F, hS1, hA⟩) (by decide) (by decide)
  · show J X 0 0 g 0 [(0, .ref m), (1, .int v), (2, .int ofr)] []
    refine j_iload_n hX dX11_once_0 1 rfl ?_
    refine j_callS (As := [.int v]) (rest := []) hX (c_X11_isPlace (xl X) (xK X) g (v)) lk_X11_109 wS_X11_isPlace wN_X11 wC_X11_isPlace hd_X11_isPlace rfl (by rw [hL]; decide) (by decide) rfl (Nat.le_of_ble_eq_true rfl) dX11_once_1 (by rw [hR]; decide) (by rw [hR]; decide) jx_no ?_
    rintro _ _ ⟨b9, rfl, hb9, rfl⟩
    obtain rfl : b9 = false := Bool.eq_false_iff.mpr (fun q => hP (hb9.mp q))
    clear hb9
    show J X 0 0 g 4 [(0, .ref m), (1, .int v), (2, .int ofr)] [.int (b01 false)]
    refine j_if_eq hX 19 dX11_once_4 (by decide) (fun _ => ?_) (fun c_4 => absurd (by decide) c_4)
    refine j_iconst (v := nI 0) hX dX11_once_19 (by decide) ?_
    refine j_istore_n (lv' := [(3, .int (nI 0)), (0, .ref m), (1, .int v), (2, .int ofr)]) hX dX11_once_20 (by rw [hn]; decide) rfl ?_
    refine j_aload_n hX dX11_once_21 1 rfl ?_
    refine j_iload_n hX dX11_once_22 0 rfl ?_
    refine j_if_ne hX 30 dX11_once_23 (by decide) (fun c_23 => absurd c_23 (fun q => q (by rfl))) (fun _ => ?_)
    refine j_iconst (v := nI 1) hX dX11_once_26 (by decide) ?_
    refine j_goto hX 44 dX11_once_27 (by decide) ?_
    refine j_put hX hS.1 rfl wf_X11 tyX11_ok nmX11 0 (by decide) lk_X11_56 (fun _ h => h) rfl (tyX11_ok 0 (by decide)) rfl rfl (Nat.le_of_ble_eq_true rfl) dX11_once_44 ?_
    obtain ⟨g1, eg1⟩ : ∃ z : Wd, z = up g m (ob 10 [.int (nI 1), .ref (Q 0), .ref (Q 1), .ref (Q 2), .ref (Q 3), .ref (Q 4), .ref (Q 5), .ref (Q 6), .int (nI Od.length), .ref (Q 7), .ref (Q 8), .ref (Q 9), .ref (Q 10), .ref (Q 11), .ref (Q 12), .ref (Q 13), .int fi, .ref (Q 14)]) := ⟨_, rfl⟩
    refine j_w eg1.symm ?_
    have hS1 : RS (xK X) g1 m Q (nI 1) (nI Od.length) fi F := by rw [eg1]; exact hS.obj _ _ _
    refine j_aload_n hX dX11_once_47 1 rfl ?_
    refine j_get (v := .int (nI 1)) hX hS1.1 rfl wf_X11 0 (by decide) lk_X11_56 (fun _ h => h) rfl dX11_once_48 ?_
    refine j_if_ne hX 85 dX11_once_51 (by decide) (fun _ => ?_) (fun c_51 => absurd c_51 (by decide))
    exact j_vret hX hE dX11_once_85 (⟨rfl, 1, A, Or.inl ⟨rfl, fun q => hP q.1, rfl⟩, Q, Od, fi, F, hS1, hA⟩) (by decide) (by decide)

set_option maxRecDepth 20000 in
set_option maxHeartbeats 1600000 in
/-- c_X11_both -/
theorem c_X11_both (l : Launch) (K : Cst) (g : Wd) (m : Nat) (Q : Nat → Nat) (th fi : Int32) (F : Nat → Nat → Int32) (Od : List Nat) (hS : RS K g m Q th (nI Od.length) fi F) (A : Ab) (hI : Inv A) (hA : RA A Od F) (v le ri : Int32) (ls : Bool) : Ct l K yX11_both cX11_both 6 none 5 [.ref m, .int v, .int le, .int ri, .int (b01 ls)] g (RPo K m (bothO A v le ri ls)) (fun _ _ => False) 0 0 := by
  refine ct_of (by decide) (Nat.le_of_ble_eq_true rfl) ?_
  intro X hl hK hX hE hn hL hR hm
  subst hl; subst hK
  show J X 0 0 g 0 [(0, .ref m), (1, .int v), (2, .int le), (3, .int ri), (4, .int (b01 ls))] []
  by_cases hP : P8 v
  · obtain ⟨vi, hvi, rfl⟩ := hP
    by_cases hl9 : isR A le
    · obtain ⟨oi, hoi, rfl, hwo⟩ := hl9
      by_cases hr9 : isR A ri
      · obtain ⟨pi, hpi, rfl, hwp⟩ := hr9
        by_cases hu : 0 < aw A vi
        · show J X 0 0 g 0 [(0, .ref m), (1, .int (nI vi)), (2, .int (nI oi)), (3, .int (nI pi)), (4, .int (b01 ls))] []
          refine j_iload_n hX dX11_both_0 1 rfl ?_
          refine j_callS (As := [.int (nI vi)]) (rest := []) hX (c_X11_isPlace (xl X) (xK X) g (nI vi)) lk_X11_109 wS_X11_isPlace wN_X11 wC_X11_isPlace hd_X11_isPlace rfl (by rw [hL]; decide) (by decide) rfl (Nat.le_of_ble_eq_true rfl) dX11_both_1 (by rw [hR]; decide) (by rw [hR]; decide) jx_no ?_
          rintro _ _ ⟨b9, rfl, hb9, rfl⟩
          obtain rfl : b9 = true := hb9.mpr ⟨vi, hvi, rfl⟩
          clear hb9
          show J X 0 0 g 4 [(0, .ref m), (1, .int (nI vi)), (2, .int (nI oi)), (3, .int (nI pi)), (4, .int (b01 ls))] [.int (b01 true)]
          refine j_if_eq hX 27 dX11_both_4 (by decide) (fun c_4 => absurd c_4 (by decide)) (fun _ => ?_)
          refine j_aload_n hX dX11_both_7 0 rfl ?_
          refine j_iload_n hX dX11_both_8 2 rfl ?_
          refine j_callV (As := [.int (nI oi)]) (rest := []) hX (c_X11_is (xl X) (xK X) g m Q th (nI Od.length) fi F hS (nI oi)) hS.1 rfl lk_X11_113 wI_X11_is wV_X11_X11_is wN_X11 wC_X11_is hd_X11_is rfl (by rw [hL]; decide) (by decide) rfl (Nat.le_of_ble_eq_true rfl) dX11_both_9 (by rw [hR]; decide) (by rw [hR]; decide) jx_no ?_
          rintro _ _ ⟨b9, rfl, hb9, rfl⟩
          obtain rfl : b9 = true := hb9.mpr ((hA.is hI _).mpr ⟨oi, hoi, rfl, hwo⟩)
          clear hb9
          show J X 0 0 g 12 [(0, .ref m), (1, .int (nI vi)), (2, .int (nI oi)), (3, .int (nI pi)), (4, .int (b01 ls))] [.int (b01 true)]
          refine j_if_eq hX 27 dX11_both_12 (by decide) (fun c_12 => absurd c_12 (by decide)) (fun _ => ?_)
          refine j_aload_n hX dX11_both_15 0 rfl ?_
          refine j_iload_n hX dX11_both_16 3 rfl ?_
          refine j_callV (As := [.int (nI pi)]) (rest := []) hX (c_X11_is (xl X) (xK X) g m Q th (nI Od.length) fi F hS (nI pi)) hS.1 rfl lk_X11_113 wI_X11_is wV_X11_X11_is wN_X11 wC_X11_is hd_X11_is rfl (by rw [hL]; decide) (by decide) rfl (Nat.le_of_ble_eq_true rfl) dX11_both_17 (by rw [hR]; decide) (by rw [hR]; decide) jx_no ?_
          rintro _ _ ⟨b9, rfl, hb9, rfl⟩
          obtain rfl : b9 = true := hb9.mpr ((hA.is hI _).mpr ⟨pi, hpi, rfl, hwp⟩)
          clear hb9
          show J X 0 0 g 20 [(0, .ref m), (1, .int (nI vi)), (2, .int (nI oi)), (3, .int (nI pi)), (4, .int (b01 ls))] [.int (b01 true)]
          refine j_if_eq hX 27 dX11_both_20 (by decide) (fun c_20 => absurd c_20 (by decide)) (fun _ => ?_)
          refine j_iconst (v := nI 1) hX dX11_both_23 (by decide) ?_
          refine j_goto hX 28 dX11_both_24 (by decide) ?_
          refine j_istore (lv' := [(5, .int (nI 1)), (0, .ref m), (1, .int (nI vi)), (2, .int (nI oi)), (3, .int (nI pi)), (4, .int (b01 ls))]) hX dX11_both_28 (by rw [hn]; decide) rfl ?_
          refine j_aload_n hX dX11_both_30 1 rfl ?_
          refine j_iload hX dX11_both_31 0 rfl ?_
          refine j_if_ne hX 40 dX11_both_33 (by decide) (fun _ => ?_) (fun c_33 => absurd c_33 (by decide))
          refine j_aload_n hX dX11_both_40 1 rfl ?_
          refine j_get (v := .ref (Q 0)) hX hS.1 rfl wf_X11 1 (by decide) lk_X11_7 (fun _ h => h) rfl dX11_both_41 ?_
          refine j_iload_n hX dX11_both_44 2 rfl ?_
          refine j_ialdN hX (show g (Q 0) = some (aI (xK X) 8 (F 0)) from hS.2.1 0 (by decide)) (vi) (rfl) (hvi) (by decide) dX11_both_45 ?_
          refine j_if_le hX 53 dX11_both_46 (by decide) (fun c_46 => absurd c_46 (Int32.not_le.mpr ((hA.free hI hvi).2 hu).2)) (fun _ => ?_)
          refine j_iconst (v := nI 2) hX dX11_both_49 (by decide) ?_
          refine j_goto hX 73 dX11_both_50 (by decide) ?_
          refine j_put hX hS.1 rfl wf_X11 tyX11_ok nmX11 0 (by decide) lk_X11_56 (fun _ h => h) rfl (tyX11_ok 0 (by decide)) rfl rfl (Nat.le_of_ble_eq_true rfl) dX11_both_73 ?_
          obtain ⟨g1, eg1⟩ : ∃ z : Wd, z = up g m (ob 10 [.int (nI 2), .ref (Q 0), .ref (Q 1), .ref (Q 2), .ref (Q 3), .ref (Q 4), .ref (Q 5), .ref (Q 6), .int (nI Od.length), .ref (Q 7), .ref (Q 8), .ref (Q 9), .ref (Q 10), .ref (Q 11), .ref (Q 12), .ref (Q 13), .int fi, .ref (Q 14)]) := ⟨_, rfl⟩
          refine j_w eg1.symm ?_
          have hS1 : RS (xK X) g1 m Q (nI 2) (nI Od.length) fi F := by rw [eg1]; exact hS.obj _ _ _
          refine j_aload_n hX dX11_both_76 1 rfl ?_
          refine j_get (v := .int (nI 2)) hX hS1.1 rfl wf_X11 0 (by decide) lk_X11_56 (fun _ h => h) rfl dX11_both_77 ?_
          refine j_if_ne hX 107 dX11_both_80 (by decide) (fun _ => ?_) (fun c_80 => absurd c_80 (by decide))
          exact j_vret hX hE dX11_both_107 (⟨rfl, 2, A, Or.inr (Or.inl ⟨rfl, ⟨⟨vi, hvi, rfl⟩, ⟨oi, hoi, rfl, hwo⟩, pi, hpi, rfl, hwp⟩, by rw [vnat_nI (by omega)]; exact hu, rfl⟩), Q, Od, fi, F, hS1, hA⟩) (by decide) (by decide)
        · have h4o := (hI oi hoi).1.1
          have h4p := (hI pi hpi).1.1
          by_cases hw : aw A oi = aw A pi
          · have hfv := ((hA.free hI hvi).1 hu).1
            have hkl := ((hA.free hI hoi).2 hwo).1
            have hkr := ((hA.free hI hpi).2 hwp).1
            have hA9 := hA
            cases ls with
            | true =>
              show J X 0 0 g 0 [(0, .ref m), (1, .int (nI vi)), (2, .int (nI oi)), (3, .int (nI pi)), (4, .int (b01 true))] []
              refine j_iload_n hX dX11_both_0 1 rfl ?_
              refine j_callS (As := [.int (nI vi)]) (rest := []) hX (c_X11_isPlace (xl X) (xK X) g (nI vi)) lk_X11_109 wS_X11_isPlace wN_X11 wC_X11_isPlace hd_X11_isPlace rfl (by rw [hL]; decide) (by decide) rfl (Nat.le_of_ble_eq_true rfl) dX11_both_1 (by rw [hR]; decide) (by rw [hR]; decide) jx_no ?_
              rintro _ _ ⟨b9, rfl, hb9, rfl⟩
              obtain rfl : b9 = true := hb9.mpr ⟨vi, hvi, rfl⟩
              clear hb9
              show J X 0 0 g 4 [(0, .ref m), (1, .int (nI vi)), (2, .int (nI oi)), (3, .int (nI pi)), (4, .int (b01 true))] [.int (b01 true)]
              refine j_if_eq hX 27 dX11_both_4 (by decide) (fun c_4 => absurd c_4 (by decide)) (fun _ => ?_)
              refine j_aload_n hX dX11_both_7 0 rfl ?_
              refine j_iload_n hX dX11_both_8 2 rfl ?_
              refine j_callV (As := [.int (nI oi)]) (rest := []) hX (c_X11_is (xl X) (xK X) g m Q th (nI Od.length) fi F hS (nI oi)) hS.1 rfl lk_X11_113 wI_X11_is wV_X11_X11_is wN_X11 wC_X11_is hd_X11_is rfl (by rw [hL]; decide) (by decide) rfl (Nat.le_of_ble_eq_true rfl) dX11_both_9 (by rw [hR]; decide) (by rw [hR]; decide) jx_no ?_
              rintro _ _ ⟨b9, rfl, hb9, rfl⟩
              obtain rfl : b9 = true := hb9.mpr ((hA.is hI _).mpr ⟨oi, hoi, rfl, hwo⟩)
              clear hb9
              show J X 0 0 g 12 [(0, .ref m), (1, .int (nI vi)), (2, .int (nI oi)), (3, .int (nI pi)), (4, .int (b01 true))] [.int (b01 true)]
              refine j_if_eq hX 27 dX11_both_12 (by decide) (fun c_12 => absurd c_12 (by decide)) (fun _ => ?_)
              refine j_aload_n hX dX11_both_15 0 rfl ?_
              refine j_iload_n hX dX11_both_16 3 rfl ?_
              refine j_callV (As := [.int (nI pi)]) (rest := []) hX (c_X11_is (xl X) (xK X) g m Q th (nI Od.length) fi F hS (nI pi)) hS.1 rfl lk_X11_113 wI_X11_is wV_X11_X11_is wN_X11 wC_X11_is hd_X11_is rfl (by rw [hL]; decide) (by decide) rfl (Nat.le_of_ble_eq_true rfl) dX11_both_17 (by rw [hR]; decide) (by rw [hR]; decide) jx_no ?_
              rintro _ _ ⟨b9, rfl, hb9, rfl⟩
              obtain rfl : b9 = true := hb9.mpr ((hA.is hI _).mpr ⟨pi, hpi, rfl, hwp⟩)
              clear hb9
              show J X 0 0 g 20 [(0, .ref m), (1, .int (nI vi)), (2, .int (nI oi)), (3, .int (nI pi)), (4, .int (b01 true))] [.int (b01 true)]
              refine j_if_eq hX 27 dX11_both_20 (by decide) (fun c_20 => absurd c_20 (by decide)) (fun _ => ?_)
              refine j_iconst (v := nI 1) hX dX11_both_23 (by decide) ?_
              refine j_goto hX 28 dX11_both_24 (by decide) ?_
              refine j_istore (lv' := [(5, .int (nI 1)), (0, .ref m), (1, .int (nI vi)), (2, .int (nI oi)), (3, .int (nI pi)), (4, .int (b01 true))]) hX dX11_both_28 (by rw [hn]; decide) rfl ?_
              refine j_aload_n hX dX11_both_30 1 rfl ?_
              refine j_iload hX dX11_both_31 0 rfl ?_
              refine j_if_ne hX 40 dX11_both_33 (by decide) (fun _ => ?_) (fun c_33 => absurd c_33 (by decide))
              refine j_aload_n hX dX11_both_40 1 rfl ?_
              refine j_get (v := .ref (Q 0)) hX hS.1 rfl wf_X11 1 (by decide) lk_X11_7 (fun _ h => h) rfl dX11_both_41 ?_
              refine j_iload_n hX dX11_both_44 2 rfl ?_
              refine j_ialdN hX (show g (Q 0) = some (aI (xK X) 8 (F 0)) from hS.2.1 0 (by decide)) (vi) (rfl) (hvi) (by decide) dX11_both_45 ?_
              refine j_eqi (y := nI 0) ((hA.free hI hvi).1 hu |>.2) ?_
              refine j_if_le hX 53 dX11_both_46 (by decide) (fun _ => ?_) (fun c_46 => absurd (by decide) c_46)
              refine j_aload_n hX dX11_both_53 1 rfl ?_
              refine j_get (v := .ref (Q 1)) hX hS.1 rfl wf_X11 2 (by decide) lk_X11_13 (fun _ h => h) rfl dX11_both_54 ?_
              refine j_iload_n hX dX11_both_57 3 rfl ?_
              refine j_ialdN hX (show g (Q 1) = some (aI (xK X) 8 (F 1)) from hS.2.1 1 (by decide)) (oi) (rfl) (hoi) (by decide) dX11_both_58 ?_
              refine j_eqi (y := nI (aw A oi)) ((hA.2.2 oi hoi).1.2) ?_
              refine j_aload_n hX dX11_both_59 1 rfl ?_
              refine j_get (v := .ref (Q 1)) hX hS.1 rfl wf_X11 2 (by decide) lk_X11_13 (fun _ h => h) rfl dX11_both_60 ?_
              refine j_iload_n hX dX11_both_63 4 rfl ?_
              refine j_ialdN hX (show g (Q 1) = some (aI (xK X) 8 (F 1)) from hS.2.1 1 (by decide)) (pi) (rfl) (hpi) (by decide) dX11_both_64 ?_
              refine j_eqi (y := nI (aw A pi)) ((hA.2.2 pi hpi).1.2) ?_
              refine j_icmp_eq hX 72 dX11_both_65 (by decide) (fun _ => ?_) (fun c_65 => absurd (congrArg nI hw) c_65)
              refine j_iconst (v := nI 0) hX dX11_both_72 (by decide) ?_
              refine j_put hX hS.1 rfl wf_X11 tyX11_ok nmX11 0 (by decide) lk_X11_56 (fun _ h => h) rfl (tyX11_ok 0 (by decide)) rfl rfl (Nat.le_of_ble_eq_true rfl) dX11_both_73 ?_
              obtain ⟨g1, eg1⟩ : ∃ z : Wd, z = up g m (ob 10 [.int (nI 0), .ref (Q 0), .ref (Q 1), .ref (Q 2), .ref (Q 3), .ref (Q 4), .ref (Q 5), .ref (Q 6), .int (nI Od.length), .ref (Q 7), .ref (Q 8), .ref (Q 9), .ref (Q 10), .ref (Q 11), .ref (Q 12), .ref (Q 13), .int fi, .ref (Q 14)]) := ⟨_, rfl⟩
              refine j_w eg1.symm ?_
              have hS1 : RS (xK X) g1 m Q (nI 0) (nI Od.length) fi F := by rw [eg1]; exact hS.obj _ _ _
              refine j_aload_n hX dX11_both_76 1 rfl ?_
              refine j_get (v := .int (nI 0)) hX hS1.1 rfl wf_X11 0 (by decide) lk_X11_56 (fun _ h => h) rfl dX11_both_77 ?_
              refine j_if_ne hX 107 dX11_both_80 (by decide) (fun c_80 => absurd c_80 (fun q => q (by rfl))) (fun _ => ?_)
              refine j_aload_n hX dX11_both_83 1 rfl ?_
              refine j_iload_n hX dX11_both_84 2 rfl ?_
              refine j_iload hX dX11_both_85 5 rfl ?_
              refine j_if_eq hX 95 dX11_both_87 (by decide) (fun c_87 => absurd c_87 (by decide)) (fun _ => ?_)
              refine j_bipush (v := nI 6) hX dX11_both_90 (by decide) ?_
              refine j_goto hX 96 dX11_both_92 (by decide) ?_
              refine j_aload_n hX dX11_both_96 1 rfl ?_
              refine j_get (v := .ref (Q 1)) hX hS1.1 rfl wf_X11 2 (by decide) lk_X11_13 (fun _ h => h) rfl dX11_both_97 ?_
              refine j_iload_n hX dX11_both_100 3 rfl ?_
              refine j_ialdN hX (show g1 (Q 1) = some (aI (xK X) 8 (F 1)) from hS1.2.1 1 (by decide)) (oi) (rfl) (hoi) (by decide) dX11_both_101 ?_
              refine j_eqi (y := nI (aw A oi)) ((hA9.2.2 oi hoi).1.2) ?_
              refine j_iload_n hX dX11_both_102 3 rfl ?_
              refine j_iload_n hX dX11_both_103 4 rfl ?_
              refine j_callV (As := [.int (nI vi), .int (nI 6), .int (nI (aw A oi)), .int (nI oi), .int (nI pi)]) (rest := []) hX (c_X11_view (xl X) (xK X) g1 m Q (nI 0) fi F Od hS1 A hI hA9 vi 6 (aw A oi) oi pi (nI pi) (fun _ => 0) false hvi hfv (by decide) hoi hpi hkl hkr (hwo) (h4o) (⟨fun _ => rfl, fun q => absurd (by unfold isB; omega) q, fun j hj => absurd hj (by show ¬ j < 0; omega), fun q => absurd q (by decide)⟩) (trivial) (⟨rfl, hw.symm⟩)) hS1.1 rfl lk_X11_138 wI_X11_view wV_X11_X11_view wN_X11 wC_X11_view hd_X11_view rfl (by rw [hL]; decide) (by decide) rfl (Nat.le_of_ble_eq_true rfl) dX11_both_104 (by rw [hR]; decide) (by rw [hR]; decide) jx_no ?_
              rintro _ g9 ⟨rfl, h9⟩
              show J X 0 0 g9 107 [(5, .int (nI 1)), (0, .ref m), (1, .int (nI vi)), (2, .int (nI oi)), (3, .int (nI pi)), (4, .int (b01 true))] []
              exact j_vret hX hE dX11_both_107 (⟨rfl, by
  unfold bothO
  rw [vnat_nI (show oi < 2 ^ 31 by omega), vnat_nI (show pi < 2 ^ 31 by omega)]
  exact view_out (vnat_nI (by omega)) ⟨⟨vi, hvi, rfl⟩, ⟨oi, hoi, rfl, hwo⟩, pi, hpi, rfl, hwp⟩ hu hw h9⟩) (by decide) (by decide)
            | false =>
              show J X 0 0 g 0 [(0, .ref m), (1, .int (nI vi)), (2, .int (nI oi)), (3, .int (nI pi)), (4, .int (b01 false))] []
              refine j_iload_n hX dX11_both_0 1 rfl ?_
              refine j_callS (As := [.int (nI vi)]) (rest := []) hX (c_X11_isPlace (xl X) (xK X) g (nI vi)) lk_X11_109 wS_X11_isPlace wN_X11 wC_X11_isPlace hd_X11_isPlace rfl (by rw [hL]; decide) (by decide) rfl (Nat.le_of_ble_eq_true rfl) dX11_both_1 (by rw [hR]; decide) (by rw [hR]; decide) jx_no ?_
              rintro _ _ ⟨b9, rfl, hb9, rfl⟩
              obtain rfl : b9 = true := hb9.mpr ⟨vi, hvi, rfl⟩
              clear hb9
              show J X 0 0 g 4 [(0, .ref m), (1, .int (nI vi)), (2, .int (nI oi)), (3, .int (nI pi)), (4, .int (b01 false))] [.int (b01 true)]
              refine j_if_eq hX 27 dX11_both_4 (by decide) (fun c_4 => absurd c_4 (by decide)) (fun _ => ?_)
              refine j_aload_n hX dX11_both_7 0 rfl ?_
              refine j_iload_n hX dX11_both_8 2 rfl ?_
              refine j_callV (As := [.int (nI oi)]) (rest := []) hX (c_X11_is (xl X) (xK X) g m Q th (nI Od.length) fi F hS (nI oi)) hS.1 rfl lk_X11_113 wI_X11_is wV_X11_X11_is wN_X11 wC_X11_is hd_X11_is rfl (by rw [hL]; decide) (by decide) rfl (Nat.le_of_ble_eq_true rfl) dX11_both_9 (by rw [hR]; decide) (by rw [hR]; decide) jx_no ?_
              rintro _ _ ⟨b9, rfl, hb9, rfl⟩
              obtain rfl : b9 = true := hb9.mpr ((hA.is hI _).mpr ⟨oi, hoi, rfl, hwo⟩)
              clear hb9
              show J X 0 0 g 12 [(0, .ref m), (1, .int (nI vi)), (2, .int (nI oi)), (3, .int (nI pi)), (4, .int (b01 false))] [.int (b01 true)]
              refine j_if_eq hX 27 dX11_both_12 (by decide) (fun c_12 => absurd c_12 (by decide)) (fun _ => ?_)
              refine j_aload_n hX dX11_both_15 0 rfl ?_
              refine j_iload_n hX dX11_both_16 3 rfl ?_
              refine j_callV (As := [.int (nI pi)]) (rest := []) hX (c_X11_is (xl X) (xK X) g m Q th (nI Od.length) fi F hS (nI pi)) hS.1 rfl lk_X11_113 wI_X11_is wV_X11_X11_is wN_X11 wC_X11_is hd_X11_is rfl (by rw [hL]; decide) (by decide) rfl (Nat.le_of_ble_eq_true rfl) dX11_both_17 (by rw [hR]; decide) (by rw [hR]; decide) jx_no ?_
              rintro _ _ ⟨b9, rfl, hb9, rfl⟩
              obtain rfl : b9 = true := hb9.mpr ((hA.is hI _).mpr ⟨pi, hpi, rfl, hwp⟩)
              clear hb9
              show J X 0 0 g 20 [(0, .ref m), (1, .int (nI vi)), (2, .int (nI oi)), (3, .int (nI pi)), (4, .int (b01 false))] [.int (b01 true)]
              refine j_if_eq hX 27 dX11_both_20 (by decide) (fun c_20 => absurd c_20 (by decide)) (fun _ => ?_)
              refine j_iconst (v := nI 1) hX dX11_both_23 (by decide) ?_
              refine j_goto hX 28 dX11_both_24 (by decide) ?_
              refine j_istore (lv' := [(5, .int (nI 1)), (0, .ref m), (1, .int (nI vi)), (2, .int (nI oi)), (3, .int (nI pi)), (4, .int (b01 false))]) hX dX11_both_28 (by rw [hn]; decide) rfl ?_
              refine j_aload_n hX dX11_both_30 1 rfl ?_
              refine j_iload hX dX11_both_31 0 rfl ?_
              refine j_if_ne hX 40 dX11_both_33 (by decide) (fun _ => ?_) (fun c_33 => absurd c_33 (by decide))
              refine j_aload_n hX dX11_both_40 1 rfl ?_
              refine j_get (v := .ref (Q 0)) hX hS.1 rfl wf_X11 1 (by decide) lk_X11_7 (fun _ h => h) rfl dX11_both_41 ?_
              refine j_iload_n hX dX11_both_44 2 rfl ?_
              refine j_ialdN hX (show g (Q 0) = some (aI (xK X) 8 (F 0)) from hS.2.1 0 (by decide)) (vi) (rfl) (hvi) (by decide) dX11_both_45 ?_
              refine j_eqi (y := nI 0) ((hA.free hI hvi).1 hu |>.2) ?_
              refine j_if_le hX 53 dX11_both_46 (by decide) (fun _ => ?_) (fun c_46 => absurd (by decide) c_46)
              refine j_aload_n hX dX11_both_53 1 rfl ?_
              refine j_get (v := .ref (Q 1)) hX hS.1 rfl wf_X11 2 (by decide) lk_X11_13 (fun _ h => h) rfl dX11_both_54 ?_
              refine j_iload_n hX dX11_both_57 3 rfl ?_
              refine j_ialdN hX (show g (Q 1) = some (aI (xK X) 8 (F 1)) from hS.2.1 1 (by decide)) (oi) (rfl) (hoi) (by decide) dX11_both_58 ?_
              refine j_eqi (y := nI (aw A oi)) ((hA.2.2 oi hoi).1.2) ?_
              refine j_aload_n hX dX11_both_59 1 rfl ?_
              refine j_get (v := .ref (Q 1)) hX hS.1 rfl wf_X11 2 (by decide) lk_X11_13 (fun _ h => h) rfl dX11_both_60 ?_
              refine j_iload_n hX dX11_both_63 4 rfl ?_
              refine j_ialdN hX (show g (Q 1) = some (aI (xK X) 8 (F 1)) from hS.2.1 1 (by decide)) (pi) (rfl) (hpi) (by decide) dX11_both_64 ?_
              refine j_eqi (y := nI (aw A pi)) ((hA.2.2 pi hpi).1.2) ?_
              refine j_icmp_eq hX 72 dX11_both_65 (by decide) (fun _ => ?_) (fun c_65 => absurd (congrArg nI hw) c_65)
              refine j_iconst (v := nI 0) hX dX11_both_72 (by decide) ?_
              refine j_put hX hS.1 rfl wf_X11 tyX11_ok nmX11 0 (by decide) lk_X11_56 (fun _ h => h) rfl (tyX11_ok 0 (by decide)) rfl rfl (Nat.le_of_ble_eq_true rfl) dX11_both_73 ?_
              obtain ⟨g1, eg1⟩ : ∃ z : Wd, z = up g m (ob 10 [.int (nI 0), .ref (Q 0), .ref (Q 1), .ref (Q 2), .ref (Q 3), .ref (Q 4), .ref (Q 5), .ref (Q 6), .int (nI Od.length), .ref (Q 7), .ref (Q 8), .ref (Q 9), .ref (Q 10), .ref (Q 11), .ref (Q 12), .ref (Q 13), .int fi, .ref (Q 14)]) := ⟨_, rfl⟩
              refine j_w eg1.symm ?_
              have hS1 : RS (xK X) g1 m Q (nI 0) (nI Od.length) fi F := by rw [eg1]; exact hS.obj _ _ _
              refine j_aload_n hX dX11_both_76 1 rfl ?_
              refine j_get (v := .int (nI 0)) hX hS1.1 rfl wf_X11 0 (by decide) lk_X11_56 (fun _ h => h) rfl dX11_both_77 ?_
              refine j_if_ne hX 107 dX11_both_80 (by decide) (fun c_80 => absurd c_80 (fun q => q (by rfl))) (fun _ => ?_)
              refine j_aload_n hX dX11_both_83 1 rfl ?_
              refine j_iload_n hX dX11_both_84 2 rfl ?_
              refine j_iload hX dX11_both_85 5 rfl ?_
              refine j_if_eq hX 95 dX11_both_87 (by decide) (fun _ => ?_) (fun c_87 => absurd (by decide) c_87)
              refine j_iconst (v := nI 5) hX dX11_both_95 (by decide) ?_
              refine j_aload_n hX dX11_both_96 1 rfl ?_
              refine j_get (v := .ref (Q 1)) hX hS1.1 rfl wf_X11 2 (by decide) lk_X11_13 (fun _ h => h) rfl dX11_both_97 ?_
              refine j_iload_n hX dX11_both_100 3 rfl ?_
              refine j_ialdN hX (show g1 (Q 1) = some (aI (xK X) 8 (F 1)) from hS1.2.1 1 (by decide)) (oi) (rfl) (hoi) (by decide) dX11_both_101 ?_
              refine j_eqi (y := nI (aw A oi)) ((hA9.2.2 oi hoi).1.2) ?_
              refine j_iload_n hX dX11_both_102 3 rfl ?_
              refine j_iload_n hX dX11_both_103 4 rfl ?_
              refine j_callV (As := [.int (nI vi), .int (nI 5), .int (nI (aw A oi)), .int (nI oi), .int (nI pi)]) (rest := []) hX (c_X11_view (xl X) (xK X) g1 m Q (nI 0) fi F Od hS1 A hI hA9 vi 5 (aw A oi) oi pi (nI pi) (fun _ => 0) false hvi hfv (by decide) hoi hpi hkl hkr (hwo) (h4o) (⟨fun _ => rfl, fun q => absurd (by unfold isB; omega) q, fun j hj => absurd hj (by show ¬ j < 0; omega), fun q => absurd q (by decide)⟩) (trivial) (⟨rfl, hw.symm⟩)) hS1.1 rfl lk_X11_138 wI_X11_view wV_X11_X11_view wN_X11 wC_X11_view hd_X11_view rfl (by rw [hL]; decide) (by decide) rfl (Nat.le_of_ble_eq_true rfl) dX11_both_104 (by rw [hR]; decide) (by rw [hR]; decide) jx_no ?_
              rintro _ g9 ⟨rfl, h9⟩
              show J X 0 0 g9 107 [(5, .int (nI 1)), (0, .ref m), (1, .int (nI vi)), (2, .int (nI oi)), (3, .int (nI pi)), (4, .int (b01 false))] []
              exact j_vret hX hE dX11_both_107 (⟨rfl, by
  unfold bothO
  rw [vnat_nI (show oi < 2 ^ 31 by omega), vnat_nI (show pi < 2 ^ 31 by omega)]
  exact view_out (vnat_nI (by omega)) ⟨⟨vi, hvi, rfl⟩, ⟨oi, hoi, rfl, hwo⟩, pi, hpi, rfl, hwp⟩ hu hw h9⟩) (by decide) (by decide)
          · have hwn : ¬ nI (aw A oi) = nI (aw A pi) := nI_ne (by omega) (by omega) hw
            show J X 0 0 g 0 [(0, .ref m), (1, .int (nI vi)), (2, .int (nI oi)), (3, .int (nI pi)), (4, .int (b01 ls))] []
            refine j_iload_n hX dX11_both_0 1 rfl ?_
            refine j_callS (As := [.int (nI vi)]) (rest := []) hX (c_X11_isPlace (xl X) (xK X) g (nI vi)) lk_X11_109 wS_X11_isPlace wN_X11 wC_X11_isPlace hd_X11_isPlace rfl (by rw [hL]; decide) (by decide) rfl (Nat.le_of_ble_eq_true rfl) dX11_both_1 (by rw [hR]; decide) (by rw [hR]; decide) jx_no ?_
            rintro _ _ ⟨b9, rfl, hb9, rfl⟩
            obtain rfl : b9 = true := hb9.mpr ⟨vi, hvi, rfl⟩
            clear hb9
            show J X 0 0 g 4 [(0, .ref m), (1, .int (nI vi)), (2, .int (nI oi)), (3, .int (nI pi)), (4, .int (b01 ls))] [.int (b01 true)]
            refine j_if_eq hX 27 dX11_both_4 (by decide) (fun c_4 => absurd c_4 (by decide)) (fun _ => ?_)
            refine j_aload_n hX dX11_both_7 0 rfl ?_
            refine j_iload_n hX dX11_both_8 2 rfl ?_
            refine j_callV (As := [.int (nI oi)]) (rest := []) hX (c_X11_is (xl X) (xK X) g m Q th (nI Od.length) fi F hS (nI oi)) hS.1 rfl lk_X11_113 wI_X11_is wV_X11_X11_is wN_X11 wC_X11_is hd_X11_is rfl (by rw [hL]; decide) (by decide) rfl (Nat.le_of_ble_eq_true rfl) dX11_both_9 (by rw [hR]; decide) (by rw [hR]; decide) jx_no ?_
            rintro _ _ ⟨b9, rfl, hb9, rfl⟩
            obtain rfl : b9 = true := hb9.mpr ((hA.is hI _).mpr ⟨oi, hoi, rfl, hwo⟩)
            clear hb9
            show J X 0 0 g 12 [(0, .ref m), (1, .int (nI vi)), (2, .int (nI oi)), (3, .int (nI pi)), (4, .int (b01 ls))] [.int (b01 true)]
            refine j_if_eq hX 27 dX11_both_12 (by decide) (fun c_12 => absurd c_12 (by decide)) (fun _ => ?_)
            refine j_aload_n hX dX11_both_15 0 rfl ?_
            refine j_iload_n hX dX11_both_16 3 rfl ?_
            refine j_callV (As := [.int (nI pi)]) (rest := []) hX (c_X11_is (xl X) (xK X) g m Q th (nI Od.length) fi F hS (nI pi)) hS.1 rfl lk_X11_113 wI_X11_is wV_X11_X11_is wN_X11 wC_X11_is hd_X11_is rfl (by rw [hL]; decide) (by decide) rfl (Nat.le_of_ble_eq_true rfl) dX11_both_17 (by rw [hR]; decide) (by rw [hR]; decide) jx_no ?_
            rintro _ _ ⟨b9, rfl, hb9, rfl⟩
            obtain rfl : b9 = true := hb9.mpr ((hA.is hI _).mpr ⟨pi, hpi, rfl, hwp⟩)
            clear hb9
            show J X 0 0 g 20 [(0, .ref m), (1, .int (nI vi)), (2, .int (nI oi)), (3, .int (nI pi)), (4, .int (b01 ls))] [.int (b01 true)]
            refine j_if_eq hX 27 dX11_both_20 (by decide) (fun c_20 => absurd c_20 (by decide)) (fun _ => ?_)
            refine j_iconst (v := nI 1) hX dX11_both_23 (by decide) ?_
            refine j_goto hX 28 dX11_both_24 (by decide) ?_
            refine j_istore (lv' := [(5, .int (nI 1)), (0, .ref m), (1, .int (nI vi)), (2, .int (nI oi)), (3, .int (nI pi)), (4, .int (b01 ls))]) hX dX11_both_28 (by rw [hn]; decide) rfl ?_
            refine j_aload_n hX dX11_both_30 1 rfl ?_
            refine j_iload hX dX11_both_31 0 rfl ?_
            refine j_if_ne hX 40 dX11_both_33 (by decide) (fun _ => ?_) (fun c_33 => absurd c_33 (by decide))
            refine j_aload_n hX dX11_both_40 1 rfl ?_
            refine j_get (v := .ref (Q 0)) hX hS.1 rfl wf_X11 1 (by decide) lk_X11_7 (fun _ h => h) rfl dX11_both_41 ?_
            refine j_iload_n hX dX11_both_44 2 rfl ?_
            refine j_ialdN hX (show g (Q 0) = some (aI (xK X) 8 (F 0)) from hS.2.1 0 (by decide)) (vi) (rfl) (hvi) (by decide) dX11_both_45 ?_
            refine j_eqi (y := nI 0) ((hA.free hI hvi).1 hu |>.2) ?_
            refine j_if_le hX 53 dX11_both_46 (by decide) (fun _ => ?_) (fun c_46 => absurd (by decide) c_46)
            refine j_aload_n hX dX11_both_53 1 rfl ?_
            refine j_get (v := .ref (Q 1)) hX hS.1 rfl wf_X11 2 (by decide) lk_X11_13 (fun _ h => h) rfl dX11_both_54 ?_
            refine j_iload_n hX dX11_both_57 3 rfl ?_
            refine j_ialdN hX (show g (Q 1) = some (aI (xK X) 8 (F 1)) from hS.2.1 1 (by decide)) (oi) (rfl) (hoi) (by decide) dX11_both_58 ?_
            refine j_eqi (y := nI (aw A oi)) ((hA.2.2 oi hoi).1.2) ?_
            refine j_aload_n hX dX11_both_59 1 rfl ?_
            refine j_get (v := .ref (Q 1)) hX hS.1 rfl wf_X11 2 (by decide) lk_X11_13 (fun _ h => h) rfl dX11_both_60 ?_
            refine j_iload_n hX dX11_both_63 4 rfl ?_
            refine j_ialdN hX (show g (Q 1) = some (aI (xK X) 8 (F 1)) from hS.2.1 1 (by decide)) (pi) (rfl) (hpi) (by decide) dX11_both_64 ?_
            refine j_eqi (y := nI (aw A pi)) ((hA.2.2 pi hpi).1.2) ?_
            refine j_icmp_eq hX 72 dX11_both_65 (by decide) (fun c_65 => absurd c_65 hwn) (fun _ => ?_)
            refine j_iconst (v := nI 3) hX dX11_both_68 (by decide) ?_
            refine j_goto hX 73 dX11_both_69 (by decide) ?_
            refine j_put hX hS.1 rfl wf_X11 tyX11_ok nmX11 0 (by decide) lk_X11_56 (fun _ h => h) rfl (tyX11_ok 0 (by decide)) rfl rfl (Nat.le_of_ble_eq_true rfl) dX11_both_73 ?_
            obtain ⟨g1, eg1⟩ : ∃ z : Wd, z = up g m (ob 10 [.int (nI 3), .ref (Q 0), .ref (Q 1), .ref (Q 2), .ref (Q 3), .ref (Q 4), .ref (Q 5), .ref (Q 6), .int (nI Od.length), .ref (Q 7), .ref (Q 8), .ref (Q 9), .ref (Q 10), .ref (Q 11), .ref (Q 12), .ref (Q 13), .int fi, .ref (Q 14)]) := ⟨_, rfl⟩
            refine j_w eg1.symm ?_
            have hS1 : RS (xK X) g1 m Q (nI 3) (nI Od.length) fi F := by rw [eg1]; exact hS.obj _ _ _
            refine j_aload_n hX dX11_both_76 1 rfl ?_
            refine j_get (v := .int (nI 3)) hX hS1.1 rfl wf_X11 0 (by decide) lk_X11_56 (fun _ h => h) rfl dX11_both_77 ?_
            refine j_if_ne hX 107 dX11_both_80 (by decide) (fun _ => ?_) (fun c_80 => absurd c_80 (by decide))
            exact j_vret hX hE dX11_both_107 (⟨rfl, 3, A, Or.inr (Or.inr (Or.inl ⟨rfl, ⟨⟨vi, hvi, rfl⟩, ⟨oi, hoi, rfl, hwo⟩, pi, hpi, rfl, hwp⟩, by rw [vnat_nI (by omega)]; exact hu, by rw [vnat_nI (by omega), vnat_nI (by omega)]; exact hw, rfl⟩)), Q, Od, fi, F, hS1, hA⟩) (by decide) (by decide)
      · show J X 0 0 g 0 [(0, .ref m), (1, .int (nI vi)), (2, .int (nI oi)), (3, .int ri), (4, .int (b01 ls))] []
        refine j_iload_n hX dX11_both_0 1 rfl ?_
        refine j_callS (As := [.int (nI vi)]) (rest := []) hX (c_X11_isPlace (xl X) (xK X) g (nI vi)) lk_X11_109 wS_X11_isPlace wN_X11 wC_X11_isPlace hd_X11_isPlace rfl (by rw [hL]; decide) (by decide) rfl (Nat.le_of_ble_eq_true rfl) dX11_both_1 (by rw [hR]; decide) (by rw [hR]; decide) jx_no ?_
        rintro _ _ ⟨b9, rfl, hb9, rfl⟩
        obtain rfl : b9 = true := hb9.mpr ⟨vi, hvi, rfl⟩
        clear hb9
        show J X 0 0 g 4 [(0, .ref m), (1, .int (nI vi)), (2, .int (nI oi)), (3, .int ri), (4, .int (b01 ls))] [.int (b01 true)]
        refine j_if_eq hX 27 dX11_both_4 (by decide) (fun c_4 => absurd c_4 (by decide)) (fun _ => ?_)
        refine j_aload_n hX dX11_both_7 0 rfl ?_
        refine j_iload_n hX dX11_both_8 2 rfl ?_
        refine j_callV (As := [.int (nI oi)]) (rest := []) hX (c_X11_is (xl X) (xK X) g m Q th (nI Od.length) fi F hS (nI oi)) hS.1 rfl lk_X11_113 wI_X11_is wV_X11_X11_is wN_X11 wC_X11_is hd_X11_is rfl (by rw [hL]; decide) (by decide) rfl (Nat.le_of_ble_eq_true rfl) dX11_both_9 (by rw [hR]; decide) (by rw [hR]; decide) jx_no ?_
        rintro _ _ ⟨b9, rfl, hb9, rfl⟩
        obtain rfl : b9 = true := hb9.mpr ((hA.is hI _).mpr ⟨oi, hoi, rfl, hwo⟩)
        clear hb9
        show J X 0 0 g 12 [(0, .ref m), (1, .int (nI vi)), (2, .int (nI oi)), (3, .int ri), (4, .int (b01 ls))] [.int (b01 true)]
        refine j_if_eq hX 27 dX11_both_12 (by decide) (fun c_12 => absurd c_12 (by decide)) (fun _ => ?_)
        refine j_aload_n hX dX11_both_15 0 rfl ?_
        refine j_iload_n hX dX11_both_16 3 rfl ?_
        refine j_callV (As := [.int ri]) (rest := []) hX (c_X11_is (xl X) (xK X) g m Q th (nI Od.length) fi F hS (ri)) hS.1 rfl lk_X11_113 wI_X11_is wV_X11_X11_is wN_X11 wC_X11_is hd_X11_is rfl (by rw [hL]; decide) (by decide) rfl (Nat.le_of_ble_eq_true rfl) dX11_both_17 (by rw [hR]; decide) (by rw [hR]; decide) jx_no ?_
        rintro _ _ ⟨b9, rfl, hb9, rfl⟩
        obtain rfl : b9 = false := Bool.eq_false_iff.mpr (fun q => hr9 ((hA.is hI _).mp (hb9.mp q)))
        clear hb9
        show J X 0 0 g 20 [(0, .ref m), (1, .int (nI vi)), (2, .int (nI oi)), (3, .int ri), (4, .int (b01 ls))] [.int (b01 false)]
        refine j_if_eq hX 27 dX11_both_20 (by decide) (fun _ => ?_) (fun c_20 => absurd (by decide) c_20)
        refine j_iconst (v := nI 0) hX dX11_both_27 (by decide) ?_
        refine j_istore (lv' := [(5, .int (nI 0)), (0, .ref m), (1, .int (nI vi)), (2, .int (nI oi)), (3, .int ri), (4, .int (b01 ls))]) hX dX11_both_28 (by rw [hn]; decide) rfl ?_
        refine j_aload_n hX dX11_both_30 1 rfl ?_
        refine j_iload hX dX11_both_31 0 rfl ?_
        refine j_if_ne hX 40 dX11_both_33 (by decide) (fun c_33 => absurd c_33 (fun q => q (by rfl))) (fun _ => ?_)
        refine j_iconst (v := nI 1) hX dX11_both_36 (by decide) ?_
        refine j_goto hX 73 dX11_both_37 (by decide) ?_
        refine j_put hX hS.1 rfl wf_X11 tyX11_ok nmX11 0 (by decide) lk_X11_56 (fun _ h => h) rfl (tyX11_ok 0 (by decide)) rfl rfl (Nat.le_of_ble_eq_true rfl) dX11_both_73 ?_
        obtain ⟨g1, eg1⟩ : ∃ z : Wd, z = up g m (ob 10 [.int (nI 1), .ref (Q 0), .ref (Q 1), .ref (Q 2), .ref (Q 3), .ref (Q 4), .ref (Q 5), .ref (Q 6), .int (nI Od.length), .ref (Q 7), .ref (Q 8), .ref (Q 9), .ref (Q 10), .ref (Q 11), .ref (Q 12), .ref (Q 13), .int fi, .ref (Q 14)]) := ⟨_, rfl⟩
        refine j_w eg1.symm ?_
        have hS1 : RS (xK X) g1 m Q (nI 1) (nI Od.length) fi F := by rw [eg1]; exact hS.obj _ _ _
        refine j_aload_n hX dX11_both_76 1 rfl ?_
        refine j_get (v := .int (nI 1)) hX hS1.1 rfl wf_X11 0 (by decide) lk_X11_56 (fun _ h => h) rfl dX11_both_77 ?_
        refine j_if_ne hX 107 dX11_both_80 (by decide) (fun _ => ?_) (fun c_80 => absurd c_80 (by decide))
        exact j_vret hX hE dX11_both_107 (⟨rfl, 1, A, Or.inl ⟨rfl, fun q => hr9 q.2.2, rfl⟩, Q, Od, fi, F, hS1, hA⟩) (by decide) (by decide)
    · show J X 0 0 g 0 [(0, .ref m), (1, .int (nI vi)), (2, .int le), (3, .int ri), (4, .int (b01 ls))] []
      refine j_iload_n hX dX11_both_0 1 rfl ?_
      refine j_callS (As := [.int (nI vi)]) (rest := []) hX (c_X11_isPlace (xl X) (xK X) g (nI vi)) lk_X11_109 wS_X11_isPlace wN_X11 wC_X11_isPlace hd_X11_isPlace rfl (by rw [hL]; decide) (by decide) rfl (Nat.le_of_ble_eq_true rfl) dX11_both_1 (by rw [hR]; decide) (by rw [hR]; decide) jx_no ?_
      rintro _ _ ⟨b9, rfl, hb9, rfl⟩
      obtain rfl : b9 = true := hb9.mpr ⟨vi, hvi, rfl⟩
      clear hb9
      show J X 0 0 g 4 [(0, .ref m), (1, .int (nI vi)), (2, .int le), (3, .int ri), (4, .int (b01 ls))] [.int (b01 true)]
      refine j_if_eq hX 27 dX11_both_4 (by decide) (fun c_4 => absurd c_4 (by decide)) (fun _ => ?_)
      refine j_aload_n hX dX11_both_7 0 rfl ?_
      refine j_iload_n hX dX11_both_8 2 rfl ?_
      refine j_callV (As := [.int le]) (rest := []) hX (c_X11_is (xl X) (xK X) g m Q th (nI Od.length) fi F hS (le)) hS.1 rfl lk_X11_113 wI_X11_is wV_X11_X11_is wN_X11 wC_X11_is hd_X11_is rfl (by rw [hL]; decide) (by decide) rfl (Nat.le_of_ble_eq_true rfl) dX11_both_9 (by rw [hR]; decide) (by rw [hR]; decide) jx_no ?_
      rintro _ _ ⟨b9, rfl, hb9, rfl⟩
      obtain rfl : b9 = false := Bool.eq_false_iff.mpr (fun q => hl9 ((hA.is hI _).mp (hb9.mp q)))
      clear hb9
      show J X 0 0 g 12 [(0, .ref m), (1, .int (nI vi)), (2, .int le), (3, .int ri), (4, .int (b01 ls))] [.int (b01 false)]
      refine j_if_eq hX 27 dX11_both_12 (by decide) (fun _ => ?_) (fun c_12 => absurd (by decide) c_12)
      refine j_iconst (v := nI 0) hX dX11_both_27 (by decide) ?_
      refine j_istore (lv' := [(5, .int (nI 0)), (0, .ref m), (1, .int (nI vi)), (2, .int le), (3, .int ri), (4, .int (b01 ls))]) hX dX11_both_28 (by rw [hn]; decide) rfl ?_
      refine j_aload_n hX dX11_both_30 1 rfl ?_
      refine j_iload hX dX11_both_31 0 rfl ?_
      refine j_if_ne hX 40 dX11_both_33 (by decide) (fun c_33 => absurd c_33 (fun q => q (by rfl))) (fun _ => ?_)
      refine j_iconst (v := nI 1) hX dX11_both_36 (by decide) ?_
      refine j_goto hX 73 dX11_both_37 (by decide) ?_
      refine j_put hX hS.1 rfl wf_X11 tyX11_ok nmX11 0 (by decide) lk_X11_56 (fun _ h => h) rfl (tyX11_ok 0 (by decide)) rfl rfl (Nat.le_of_ble_eq_true rfl) dX11_both_73 ?_
      obtain ⟨g1, eg1⟩ : ∃ z : Wd, z = up g m (ob 10 [.int (nI 1), .ref (Q 0), .ref (Q 1), .ref (Q 2), .ref (Q 3), .ref (Q 4), .ref (Q 5), .ref (Q 6), .int (nI Od.length), .ref (Q 7), .ref (Q 8), .ref (Q 9), .ref (Q 10), .ref (Q 11), .ref (Q 12), .ref (Q 13), .int fi, .ref (Q 14)]) := ⟨_, rfl⟩
      refine j_w eg1.symm ?_
      have hS1 : RS (xK X) g1 m Q (nI 1) (nI Od.length) fi F := by rw [eg1]; exact hS.obj _ _ _
      refine j_aload_n hX dX11_both_76 1 rfl ?_
      refine j_get (v := .int (nI 1)) hX hS1.1 rfl wf_X11 0 (by decide) lk_X11_56 (fun _ h => h) rfl dX11_both_77 ?_
      refine j_if_ne hX 107 dX11_both_80 (by decide) (fun _ => ?_) (fun c_80 => absurd c_80 (by decide))
      exact j_vret hX hE dX11_both_107 (⟨rfl, 1, A, Or.inl ⟨rfl, fun q => hl9 q.2.1, rfl⟩, Q, Od, fi, F, hS1, hA⟩) (by decide) (by decide)
  · show J X 0 0 g 0 [(0, .ref m), (1, .int v), (2, .int le), (3, .int ri), (4, .int (b01 ls))] []
    refine j_iload_n hX dX11_both_0 1 rfl ?_
    refine j_callS (As := [.int v]) (rest := []) hX (c_X11_isPlace (xl X) (xK X) g (v)) lk_X11_109 wS_X11_isPlace wN_X11 wC_X11_isPlace hd_X11_isPlace rfl (by rw [hL]; decide) (by decide) rfl (Nat.le_of_ble_eq_true rfl) dX11_both_1 (by rw [hR]; decide) (by rw [hR]; decide) jx_no ?_
    rintro _ _ ⟨b9, rfl, hb9, rfl⟩
    obtain rfl : b9 = false := Bool.eq_false_iff.mpr (fun q => hP (hb9.mp q))
    clear hb9
    show J X 0 0 g 4 [(0, .ref m), (1, .int v), (2, .int le), (3, .int ri), (4, .int (b01 ls))] [.int (b01 false)]
    refine j_if_eq hX 27 dX11_both_4 (by decide) (fun _ => ?_) (fun c_4 => absurd (by decide) c_4)
    refine j_iconst (v := nI 0) hX dX11_both_27 (by decide) ?_
    refine j_istore (lv' := [(5, .int (nI 0)), (0, .ref m), (1, .int v), (2, .int le), (3, .int ri), (4, .int (b01 ls))]) hX dX11_both_28 (by rw [hn]; decide) rfl ?_
    refine j_aload_n hX dX11_both_30 1 rfl ?_
    refine j_iload hX dX11_both_31 0 rfl ?_
    refine j_if_ne hX 40 dX11_both_33 (by decide) (fun c_33 => absurd c_33 (fun q => q (by rfl))) (fun _ => ?_)
    refine j_iconst (v := nI 1) hX dX11_both_36 (by decide) ?_
    refine j_goto hX 73 dX11_both_37 (by decide) ?_
    refine j_put hX hS.1 rfl wf_X11 tyX11_ok nmX11 0 (by decide) lk_X11_56 (fun _ h => h) rfl (tyX11_ok 0 (by decide)) rfl rfl (Nat.le_of_ble_eq_true rfl) dX11_both_73 ?_
    obtain ⟨g1, eg1⟩ : ∃ z : Wd, z = up g m (ob 10 [.int (nI 1), .ref (Q 0), .ref (Q 1), .ref (Q 2), .ref (Q 3), .ref (Q 4), .ref (Q 5), .ref (Q 6), .int (nI Od.length), .ref (Q 7), .ref (Q 8), .ref (Q 9), .ref (Q 10), .ref (Q 11), .ref (Q 12), .ref (Q 13), .int fi, .ref (Q 14)]) := ⟨_, rfl⟩
    refine j_w eg1.symm ?_
    have hS1 : RS (xK X) g1 m Q (nI 1) (nI Od.length) fi F := by rw [eg1]; exact hS.obj _ _ _
    refine j_aload_n hX dX11_both_76 1 rfl ?_
    refine j_get (v := .int (nI 1)) hX hS1.1 rfl wf_X11 0 (by decide) lk_X11_56 (fun _ h => h) rfl dX11_both_77 ?_
    refine j_if_ne hX 107 dX11_both_80 (by decide) (fun _ => ?_) (fun c_80 => absurd c_80 (by decide))
    exact j_vret hX hE dX11_both_107 (⟨rfl, 1, A, Or.inl ⟨rfl, fun q => hP q.1, rfl⟩, Q, Od, fi, F, hS1, hA⟩) (by decide) (by decide)

set_option maxRecDepth 20000 in
set_option maxHeartbeats 1600000 in
/-- c_X11_join -/
theorem c_X11_join (l : Launch) (K : Cst) (g : Wd) (m : Nat) (Q : Nat → Nat) (th fi : Int32) (F : Nat → Nat → Int32) (Od : List Nat) (hS : RS K g m Q th (nI Od.length) fi F) (A : Ab) (hI : Inv A) (hA : RA A Od F) (v le ri c d : Int32) : Ct l K yX11_join cX11_join 7 none 5 [.ref m, .int v, .int le, .int ri, .int c, .int d] g (RPo K m (joinO A v le ri c d)) (fun _ _ => False) 0 0 := by
  refine ct_of (by decide) (Nat.le_of_ble_eq_true rfl) ?_
  intro X hl hK hX hE hn hL hR hm
  subst hl; subst hK
  show J X 0 0 g 0 [(0, .ref m), (1, .int v), (2, .int le), (3, .int ri), (4, .int c), (5, .int d)] []
  by_cases hP : P8 v
  · obtain ⟨vi, hvi, rfl⟩ := hP
    by_cases hl9 : isC A le c
    · obtain ⟨oi, ci, hoi, hci, hcw, rfl, rfl, hwo⟩ := isC_ok hI hl9
      by_cases hr9 : isC A ri d
      · obtain ⟨pi, di, hpi, hdi, hdw, rfl, rfl, hwp⟩ := isC_ok hI hr9
        by_cases hu : 0 < aw A vi
        · show J X 0 0 g 0 [(0, .ref m), (1, .int (nI vi)), (2, .int (nI oi)), (3, .int (nI pi)), (4, .int (nI ci)), (5, .int (nI di))] []
          refine j_iload_n hX dX11_join_0 1 rfl ?_
          refine j_callS (As := [.int (nI vi)]) (rest := []) hX (c_X11_isPlace (xl X) (xK X) g (nI vi)) lk_X11_109 wS_X11_isPlace wN_X11 wC_X11_isPlace hd_X11_isPlace rfl (by rw [hL]; decide) (by decide) rfl (Nat.le_of_ble_eq_true rfl) dX11_join_1 (by rw [hR]; decide) (by rw [hR]; decide) jx_no ?_
          rintro _ _ ⟨b9, rfl, hb9, rfl⟩
          obtain rfl : b9 = true := hb9.mpr ⟨vi, hvi, rfl⟩
          clear hb9
          show J X 0 0 g 4 [(0, .ref m), (1, .int (nI vi)), (2, .int (nI oi)), (3, .int (nI pi)), (4, .int (nI ci)), (5, .int (nI di))] [.int (b01 true)]
          refine j_if_eq hX 31 dX11_join_4 (by decide) (fun c_4 => absurd c_4 (by decide)) (fun _ => ?_)
          refine j_aload_n hX dX11_join_7 0 rfl ?_
          refine j_iload_n hX dX11_join_8 2 rfl ?_
          refine j_iload hX dX11_join_9 4 rfl ?_
          refine j_callV (As := [.int (nI oi), .int (nI ci)]) (rest := []) hX (c_X11_isColumn (xl X) (xK X) g m Q th (nI Od.length) fi F hS (nI oi) (nI ci)) hS.1 rfl lk_X11_135 wI_X11_isColumn wV_X11_X11_isColumn wN_X11 wC_X11_isColumn hd_X11_isColumn rfl (by rw [hL]; decide) (by decide) rfl (Nat.le_of_ble_eq_true rfl) dX11_join_11 (by rw [hR]; decide) (by rw [hR]; decide) jx_no ?_
          rintro _ _ ⟨b9, rfl, hb9, rfl⟩
          obtain rfl : b9 = true := hb9.mpr ((hA.isc hI _ _).mpr hl9)
          clear hb9
          show J X 0 0 g 14 [(0, .ref m), (1, .int (nI vi)), (2, .int (nI oi)), (3, .int (nI pi)), (4, .int (nI ci)), (5, .int (nI di))] [.int (b01 true)]
          refine j_if_eq hX 31 dX11_join_14 (by decide) (fun c_14 => absurd c_14 (by decide)) (fun _ => ?_)
          refine j_aload_n hX dX11_join_17 0 rfl ?_
          refine j_iload_n hX dX11_join_18 3 rfl ?_
          refine j_iload hX dX11_join_19 5 rfl ?_
          refine j_callV (As := [.int (nI pi), .int (nI di)]) (rest := []) hX (c_X11_isColumn (xl X) (xK X) g m Q th (nI Od.length) fi F hS (nI pi) (nI di)) hS.1 rfl lk_X11_135 wI_X11_isColumn wV_X11_X11_isColumn wN_X11 wC_X11_isColumn hd_X11_isColumn rfl (by rw [hL]; decide) (by decide) rfl (Nat.le_of_ble_eq_true rfl) dX11_join_21 (by rw [hR]; decide) (by rw [hR]; decide) jx_no ?_
          rintro _ _ ⟨b9, rfl, hb9, rfl⟩
          obtain rfl : b9 = true := hb9.mpr ((hA.isc hI _ _).mpr hr9)
          clear hb9
          show J X 0 0 g 24 [(0, .ref m), (1, .int (nI vi)), (2, .int (nI oi)), (3, .int (nI pi)), (4, .int (nI ci)), (5, .int (nI di))] [.int (b01 true)]
          refine j_if_eq hX 31 dX11_join_24 (by decide) (fun c_24 => absurd c_24 (by decide)) (fun _ => ?_)
          refine j_iconst (v := nI 1) hX dX11_join_27 (by decide) ?_
          refine j_goto hX 32 dX11_join_28 (by decide) ?_
          refine j_istore (lv' := [(6, .int (nI 1)), (0, .ref m), (1, .int (nI vi)), (2, .int (nI oi)), (3, .int (nI pi)), (4, .int (nI ci)), (5, .int (nI di))]) hX dX11_join_32 (by rw [hn]; decide) rfl ?_
          refine j_aload_n hX dX11_join_34 1 rfl ?_
          refine j_iload hX dX11_join_35 0 rfl ?_
          refine j_if_ne hX 44 dX11_join_37 (by decide) (fun _ => ?_) (fun c_37 => absurd c_37 (by decide))
          refine j_aload_n hX dX11_join_44 1 rfl ?_
          refine j_get (v := .ref (Q 0)) hX hS.1 rfl wf_X11 1 (by decide) lk_X11_7 (fun _ h => h) rfl dX11_join_45 ?_
          refine j_iload_n hX dX11_join_48 2 rfl ?_
          refine j_ialdN hX (show g (Q 0) = some (aI (xK X) 8 (F 0)) from hS.2.1 0 (by decide)) (vi) (rfl) (hvi) (by decide) dX11_join_49 ?_
          refine j_if_le hX 57 dX11_join_50 (by decide) (fun c_50 => absurd c_50 (Int32.not_le.mpr ((hA.free hI hvi).2 hu).2)) (fun _ => ?_)
          refine j_iconst (v := nI 2) hX dX11_join_53 (by decide) ?_
          refine j_goto hX 79 dX11_join_54 (by decide) ?_
          refine j_put hX hS.1 rfl wf_X11 tyX11_ok nmX11 0 (by decide) lk_X11_56 (fun _ h => h) rfl (tyX11_ok 0 (by decide)) rfl rfl (Nat.le_of_ble_eq_true rfl) dX11_join_79 ?_
          obtain ⟨g1, eg1⟩ : ∃ z : Wd, z = up g m (ob 10 [.int (nI 2), .ref (Q 0), .ref (Q 1), .ref (Q 2), .ref (Q 3), .ref (Q 4), .ref (Q 5), .ref (Q 6), .int (nI Od.length), .ref (Q 7), .ref (Q 8), .ref (Q 9), .ref (Q 10), .ref (Q 11), .ref (Q 12), .ref (Q 13), .int fi, .ref (Q 14)]) := ⟨_, rfl⟩
          refine j_w eg1.symm ?_
          have hS1 : RS (xK X) g1 m Q (nI 2) (nI Od.length) fi F := by rw [eg1]; exact hS.obj _ _ _
          refine j_aload_n hX dX11_join_82 1 rfl ?_
          refine j_get (v := .int (nI 2)) hX hS1.1 rfl wf_X11 0 (by decide) lk_X11_56 (fun _ h => h) rfl dX11_join_83 ?_
          refine j_if_ne hX 132 dX11_join_86 (by decide) (fun _ => ?_) (fun c_86 => absurd c_86 (by decide))
          exact j_vret hX hE dX11_join_132 (⟨rfl, 2, A, Or.inr (Or.inl ⟨rfl, ⟨⟨vi, hvi, rfl⟩, hl9, hr9⟩, by rw [vnat_nI (by omega)]; exact hu, rfl⟩), Q, Od, fi, F, hS1, hA⟩) (by decide) (by decide)
        · have h4o := (hI oi hoi).1.1
          have h4p := (hI pi hpi).1.1
          by_cases hw : aw A oi + aw A pi ≤ 4
          · have hfv := ((hA.free hI hvi).1 hu).1
            have hkl := ((hA.free hI hoi).2 hwo).1
            have hkr := ((hA.free hI hpi).2 hwp).1
            show J X 0 0 g 0 [(0, .ref m), (1, .int (nI vi)), (2, .int (nI oi)), (3, .int (nI pi)), (4, .int (nI ci)), (5, .int (nI di))] []
            refine j_iload_n hX dX11_join_0 1 rfl ?_
            refine j_callS (As := [.int (nI vi)]) (rest := []) hX (c_X11_isPlace (xl X) (xK X) g (nI vi)) lk_X11_109 wS_X11_isPlace wN_X11 wC_X11_isPlace hd_X11_isPlace rfl (by rw [hL]; decide) (by decide) rfl (Nat.le_of_ble_eq_true rfl) dX11_join_1 (by rw [hR]; decide) (by rw [hR]; decide) jx_no ?_
            rintro _ _ ⟨b9, rfl, hb9, rfl⟩
            obtain rfl : b9 = true := hb9.mpr ⟨vi, hvi, rfl⟩
            clear hb9
            show J X 0 0 g 4 [(0, .ref m), (1, .int (nI vi)), (2, .int (nI oi)), (3, .int (nI pi)), (4, .int (nI ci)), (5, .int (nI di))] [.int (b01 true)]
            refine j_if_eq hX 31 dX11_join_4 (by decide) (fun c_4 => absurd c_4 (by decide)) (fun _ => ?_)
            refine j_aload_n hX dX11_join_7 0 rfl ?_
            refine j_iload_n hX dX11_join_8 2 rfl ?_
            refine j_iload hX dX11_join_9 4 rfl ?_
            refine j_callV (As := [.int (nI oi), .int (nI ci)]) (rest := []) hX (c_X11_isColumn (xl X) (xK X) g m Q th (nI Od.length) fi F hS (nI oi) (nI ci)) hS.1 rfl lk_X11_135 wI_X11_isColumn wV_X11_X11_isColumn wN_X11 wC_X11_isColumn hd_X11_isColumn rfl (by rw [hL]; decide) (by decide) rfl (Nat.le_of_ble_eq_true rfl) dX11_join_11 (by rw [hR]; decide) (by rw [hR]; decide) jx_no ?_
            rintro _ _ ⟨b9, rfl, hb9, rfl⟩
            obtain rfl : b9 = true := hb9.mpr ((hA.isc hI _ _).mpr hl9)
            clear hb9
            show J X 0 0 g 14 [(0, .ref m), (1, .int (nI vi)), (2, .int (nI oi)), (3, .int (nI pi)), (4, .int (nI ci)), (5, .int (nI di))] [.int (b01 true)]
            refine j_if_eq hX 31 dX11_join_14 (by decide) (fun c_14 => absurd c_14 (by decide)) (fun _ => ?_)
            refine j_aload_n hX dX11_join_17 0 rfl ?_
            refine j_iload_n hX dX11_join_18 3 rfl ?_
            refine j_iload hX dX11_join_19 5 rfl ?_
            refine j_callV (As := [.int (nI pi), .int (nI di)]) (rest := []) hX (c_X11_isColumn (xl X) (xK X) g m Q th (nI Od.length) fi F hS (nI pi) (nI di)) hS.1 rfl lk_X11_135 wI_X11_isColumn wV_X11_X11_isColumn wN_X11 wC_X11_isColumn hd_X11_isColumn rfl (by rw [hL]; decide) (by decide) rfl (Nat.le_of_ble_eq_true rfl) dX11_join_21 (by rw [hR]; decide) (by rw [hR]; decide) jx_no ?_
            rintro _ _ ⟨b9, rfl, hb9, rfl⟩
            obtain rfl : b9 = true := hb9.mpr ((hA.isc hI _ _).mpr hr9)
            clear hb9
            show J X 0 0 g 24 [(0, .ref m), (1, .int (nI vi)), (2, .int (nI oi)), (3, .int (nI pi)), (4, .int (nI ci)), (5, .int (nI di))] [.int (b01 true)]
            refine j_if_eq hX 31 dX11_join_24 (by decide) (fun c_24 => absurd c_24 (by decide)) (fun _ => ?_)
            refine j_iconst (v := nI 1) hX dX11_join_27 (by decide) ?_
            refine j_goto hX 32 dX11_join_28 (by decide) ?_
            refine j_istore (lv' := [(6, .int (nI 1)), (0, .ref m), (1, .int (nI vi)), (2, .int (nI oi)), (3, .int (nI pi)), (4, .int (nI ci)), (5, .int (nI di))]) hX dX11_join_32 (by rw [hn]; decide) rfl ?_
            refine j_aload_n hX dX11_join_34 1 rfl ?_
            refine j_iload hX dX11_join_35 0 rfl ?_
            refine j_if_ne hX 44 dX11_join_37 (by decide) (fun _ => ?_) (fun c_37 => absurd c_37 (by decide))
            refine j_aload_n hX dX11_join_44 1 rfl ?_
            refine j_get (v := .ref (Q 0)) hX hS.1 rfl wf_X11 1 (by decide) lk_X11_7 (fun _ h => h) rfl dX11_join_45 ?_
            refine j_iload_n hX dX11_join_48 2 rfl ?_
            refine j_ialdN hX (show g (Q 0) = some (aI (xK X) 8 (F 0)) from hS.2.1 0 (by decide)) (vi) (rfl) (hvi) (by decide) dX11_join_49 ?_
            refine j_eqi (y := nI 0) ((hA.free hI hvi).1 hu |>.2) ?_
            refine j_if_le hX 57 dX11_join_50 (by decide) (fun _ => ?_) (fun c_50 => absurd (by decide) c_50)
            refine j_aload_n hX dX11_join_57 1 rfl ?_
            refine j_get (v := .ref (Q 1)) hX hS.1 rfl wf_X11 2 (by decide) lk_X11_13 (fun _ h => h) rfl dX11_join_58 ?_
            refine j_iload_n hX dX11_join_61 3 rfl ?_
            refine j_ialdN hX (show g (Q 1) = some (aI (xK X) 8 (F 1)) from hS.2.1 1 (by decide)) (oi) (rfl) (hoi) (by decide) dX11_join_62 ?_
            refine j_eqi (y := nI (aw A oi)) ((hA.2.2 oi hoi).1.2) ?_
            refine j_aload_n hX dX11_join_63 1 rfl ?_
            refine j_get (v := .ref (Q 1)) hX hS.1 rfl wf_X11 2 (by decide) lk_X11_13 (fun _ h => h) rfl dX11_join_64 ?_
            refine j_iload_n hX dX11_join_67 4 rfl ?_
            refine j_ialdN hX (show g (Q 1) = some (aI (xK X) 8 (F 1)) from hS.2.1 1 (by decide)) (pi) (rfl) (hpi) (by decide) dX11_join_68 ?_
            refine j_eqi (y := nI (aw A pi)) ((hA.2.2 pi hpi).1.2) ?_
            refine j_iadd hX dX11_join_69 ?_
            refine j_eqi (y := nI (aw A oi + aw A pi)) (nI_add _ _) ?_
            refine j_iconst (v := nI 4) hX dX11_join_70 (by decide) ?_
            refine j_icmp_le hX 78 dX11_join_71 (by decide) (fun _ => ?_) (fun c_71 => absurd (nI_le (a := aw A oi + aw A pi) (b := 4) hw (by decide)) c_71)
            refine j_iconst (v := nI 0) hX dX11_join_78 (by decide) ?_
            refine j_put hX hS.1 rfl wf_X11 tyX11_ok nmX11 0 (by decide) lk_X11_56 (fun _ h => h) rfl (tyX11_ok 0 (by decide)) rfl rfl (Nat.le_of_ble_eq_true rfl) dX11_join_79 ?_
            obtain ⟨g1, eg1⟩ : ∃ z : Wd, z = up g m (ob 10 [.int (nI 0), .ref (Q 0), .ref (Q 1), .ref (Q 2), .ref (Q 3), .ref (Q 4), .ref (Q 5), .ref (Q 6), .int (nI Od.length), .ref (Q 7), .ref (Q 8), .ref (Q 9), .ref (Q 10), .ref (Q 11), .ref (Q 12), .ref (Q 13), .int fi, .ref (Q 14)]) := ⟨_, rfl⟩
            refine j_w eg1.symm ?_
            have hS1 : RS (xK X) g1 m Q (nI 0) (nI Od.length) fi F := by rw [eg1]; exact hS.obj _ _ _
            refine j_aload_n hX dX11_join_82 1 rfl ?_
            refine j_get (v := .int (nI 0)) hX hS1.1 rfl wf_X11 0 (by decide) lk_X11_56 (fun _ h => h) rfl dX11_join_83 ?_
            refine j_if_ne hX 132 dX11_join_86 (by decide) (fun c_86 => absurd c_86 (fun q => q (by rfl))) (fun _ => ?_)
            refine j_aload_n hX dX11_join_89 1 rfl ?_
            refine j_get (v := .ref (Q 4)) hX hS1.1 rfl wf_X11 5 (by decide) lk_X11_22 (fun _ h => h) rfl dX11_join_90 ?_
            refine j_iconst (v := nI 4) hX dX11_join_93 (by decide) ?_
            refine j_iload_n hX dX11_join_94 2 rfl ?_
            refine j_imul hX dX11_join_95 ?_
            refine j_eqi (y := nI (4 * vi)) (pk_mul 4 vi) ?_
            refine j_iload hX dX11_join_96 5 rfl ?_
            refine j_iastN hX (show g1 (Q 4) = some (aI (xK X) 32 (F 4)) from hS1.2.1 4 (by decide)) (4 * vi) (rfl) (by omega) (by decide) dX11_join_98 ?_
            obtain ⟨g2, eg2⟩ : ∃ z : Wd, z = up g1 (Q 4) (aI (xK X) 32 (upd (F 4) (4 * vi) (nI ci))) := ⟨_, rfl⟩
            refine j_w eg2.symm ?_
            obtain ⟨F2, eF2⟩ : ∃ z, z = fu F 4 (upd (F 4) (4 * vi) (nI ci)) := ⟨_, rfl⟩
            have hS2 : RS (xK X) g2 m Q (nI 0) (nI Od.length) fi F2 := by rw [eg2, eF2]; exact hS1.put 4 (by decide) _
            refine j_aload_n hX dX11_join_99 1 rfl ?_
            refine j_get (v := .ref (Q 4)) hX hS2.1 rfl wf_X11 5 (by decide) lk_X11_22 (fun _ h => h) rfl dX11_join_100 ?_
            refine j_iconst (v := nI 4) hX dX11_join_103 (by decide) ?_
            refine j_iload_n hX dX11_join_104 2 rfl ?_
            refine j_imul hX dX11_join_105 ?_
            refine j_eqi (y := nI (4 * vi)) (pk_mul 4 vi) ?_
            refine j_iconst (v := nI 1) hX dX11_join_106 (by decide) ?_
            refine j_iadd hX dX11_join_107 ?_
            refine j_eqi (y := nI (4 * vi + 1)) (ix4v vi 1) ?_
            refine j_iload hX dX11_join_108 6 rfl ?_
            refine j_iastN hX (show g2 (Q 4) = some (aI (xK X) 32 (F2 4)) from hS2.2.1 4 (by decide)) (4 * vi + 1) (rfl) (by omega) (by decide) dX11_join_110 ?_
            obtain ⟨g3, eg3⟩ : ∃ z : Wd, z = up g2 (Q 4) (aI (xK X) 32 (upd (F2 4) (4 * vi + 1) (nI di))) := ⟨_, rfl⟩
            refine j_w eg3.symm ?_
            obtain ⟨F3, eF3⟩ : ∃ z, z = fu F2 4 (upd (F2 4) (4 * vi + 1) (nI di)) := ⟨_, rfl⟩
            have hS3 : RS (xK X) g3 m Q (nI 0) (nI Od.length) fi F3 := by rw [eg3, eF3]; exact hS2.put 4 (by decide) _
            have hA9 : RA A Od F3 := hA.num hfv (fun j h4 h5 => by rw [eF3, fu_n h4, eF2, fu_n h4]) (fun i hi => by rw [eF3, fu_s, pk_un (by omega), eF2, fu_s, pk_un (by omega)]) (fun i hi => by rw [eF3, fu_n (by decide), eF2, fu_n (by decide)])
            refine j_aload_n hX dX11_join_111 1 rfl ?_
            refine j_iload_n hX dX11_join_112 2 rfl ?_
            refine j_iconst (v := nI 4) hX dX11_join_113 (by decide) ?_
            refine j_aload_n hX dX11_join_114 1 rfl ?_
            refine j_get (v := .ref (Q 1)) hX hS3.1 rfl wf_X11 2 (by decide) lk_X11_13 (fun _ h => h) rfl dX11_join_115 ?_
            refine j_iload_n hX dX11_join_118 3 rfl ?_
            refine j_ialdN hX (show g3 (Q 1) = some (aI (xK X) 8 (F3 1)) from hS3.2.1 1 (by decide)) (oi) (rfl) (hoi) (by decide) dX11_join_119 ?_
            refine j_eqi (y := nI (aw A oi)) ((hA9.2.2 oi hoi).1.2) ?_
            refine j_aload_n hX dX11_join_120 1 rfl ?_
            refine j_get (v := .ref (Q 1)) hX hS3.1 rfl wf_X11 2 (by decide) lk_X11_13 (fun _ h => h) rfl dX11_join_121 ?_
            refine j_iload_n hX dX11_join_124 4 rfl ?_
            refine j_ialdN hX (show g3 (Q 1) = some (aI (xK X) 8 (F3 1)) from hS3.2.1 1 (by decide)) (pi) (rfl) (hpi) (by decide) dX11_join_125 ?_
            refine j_eqi (y := nI (aw A pi)) ((hA9.2.2 pi hpi).1.2) ?_
            refine j_iadd hX dX11_join_126 ?_
            refine j_eqi (y := nI (aw A oi + aw A pi)) (nI_add _ _) ?_
            refine j_iload_n hX dX11_join_127 3 rfl ?_
            refine j_iload_n hX dX11_join_128 4 rfl ?_
            refine j_callV (As := [.int (nI vi), .int (nI 4), .int (nI (aw A oi + aw A pi)), .int (nI oi), .int (nI pi)]) (rest := []) hX (c_X11_view (xl X) (xK X) g3 m Q (nI 0) fi F3 Od hS3 A hI hA9 vi 4 (aw A oi + aw A pi) oi pi (nI pi) (nC (nI ci) (nI di) 0 0) false hvi hfv (by decide) hoi hpi hkl hkr (by omega) (hw) (⟨fun _ => rfl, fun q => absurd (by unfold isB; omega) q, fun j hj => by rcases (show j = 0 ∨ j = 1 by have : j < 2 := hj; omega) with rfl | rfl <;> simp [eF2, eF3, fu, upd, nC], fun q => absurd q (by decide)⟩) (⟨⟨ci, hci, nC_0 _ _ _ _⟩, ⟨di, hdi, nC_1 _ _ _ _⟩, h4o⟩) (rfl)) hS3.1 rfl lk_X11_138 wI_X11_view wV_X11_X11_view wN_X11 wC_X11_view hd_X11_view rfl (by rw [hL]; decide) (by decide) rfl (Nat.le_of_ble_eq_true rfl) dX11_join_129 (by rw [hR]; decide) (by rw [hR]; decide) jx_no ?_
            rintro _ g9 ⟨rfl, h9⟩
            show J X 0 0 g9 132 [(6, .int (nI 1)), (0, .ref m), (1, .int (nI vi)), (2, .int (nI oi)), (3, .int (nI pi)), (4, .int (nI ci)), (5, .int (nI di))] []
            exact j_vret hX hE dX11_join_132 (⟨rfl, by
  unfold joinO
  rw [vnat_nI (show oi < 2 ^ 31 by omega), vnat_nI (show pi < 2 ^ 31 by omega)]
  exact view_out (vnat_nI (by omega)) ⟨⟨vi, hvi, rfl⟩, hl9, hr9⟩ hu hw h9⟩) (by decide) (by decide)
          · show J X 0 0 g 0 [(0, .ref m), (1, .int (nI vi)), (2, .int (nI oi)), (3, .int (nI pi)), (4, .int (nI ci)), (5, .int (nI di))] []
            refine j_iload_n hX dX11_join_0 1 rfl ?_
            refine j_callS (As := [.int (nI vi)]) (rest := []) hX (c_X11_isPlace (xl X) (xK X) g (nI vi)) lk_X11_109 wS_X11_isPlace wN_X11 wC_X11_isPlace hd_X11_isPlace rfl (by rw [hL]; decide) (by decide) rfl (Nat.le_of_ble_eq_true rfl) dX11_join_1 (by rw [hR]; decide) (by rw [hR]; decide) jx_no ?_
            rintro _ _ ⟨b9, rfl, hb9, rfl⟩
            obtain rfl : b9 = true := hb9.mpr ⟨vi, hvi, rfl⟩
            clear hb9
            show J X 0 0 g 4 [(0, .ref m), (1, .int (nI vi)), (2, .int (nI oi)), (3, .int (nI pi)), (4, .int (nI ci)), (5, .int (nI di))] [.int (b01 true)]
            refine j_if_eq hX 31 dX11_join_4 (by decide) (fun c_4 => absurd c_4 (by decide)) (fun _ => ?_)
            refine j_aload_n hX dX11_join_7 0 rfl ?_
            refine j_iload_n hX dX11_join_8 2 rfl ?_
            refine j_iload hX dX11_join_9 4 rfl ?_
            refine j_callV (As := [.int (nI oi), .int (nI ci)]) (rest := []) hX (c_X11_isColumn (xl X) (xK X) g m Q th (nI Od.length) fi F hS (nI oi) (nI ci)) hS.1 rfl lk_X11_135 wI_X11_isColumn wV_X11_X11_isColumn wN_X11 wC_X11_isColumn hd_X11_isColumn rfl (by rw [hL]; decide) (by decide) rfl (Nat.le_of_ble_eq_true rfl) dX11_join_11 (by rw [hR]; decide) (by rw [hR]; decide) jx_no ?_
            rintro _ _ ⟨b9, rfl, hb9, rfl⟩
            obtain rfl : b9 = true := hb9.mpr ((hA.isc hI _ _).mpr hl9)
            clear hb9
            show J X 0 0 g 14 [(0, .ref m), (1, .int (nI vi)), (2, .int (nI oi)), (3, .int (nI pi)), (4, .int (nI ci)), (5, .int (nI di))] [.int (b01 true)]
            refine j_if_eq hX 31 dX11_join_14 (by decide) (fun c_14 => absurd c_14 (by decide)) (fun _ => ?_)
            refine j_aload_n hX dX11_join_17 0 rfl ?_
            refine j_iload_n hX dX11_join_18 3 rfl ?_
            refine j_iload hX dX11_join_19 5 rfl ?_
            refine j_callV (As := [.int (nI pi), .int (nI di)]) (rest := []) hX (c_X11_isColumn (xl X) (xK X) g m Q th (nI Od.length) fi F hS (nI pi) (nI di)) hS.1 rfl lk_X11_135 wI_X11_isColumn wV_X11_X11_isColumn wN_X11 wC_X11_isColumn hd_X11_isColumn rfl (by rw [hL]; decide) (by decide) rfl (Nat.le_of_ble_eq_true rfl) dX11_join_21 (by rw [hR]; decide) (by rw [hR]; decide) jx_no ?_
            rintro _ _ ⟨b9, rfl, hb9, rfl⟩
            obtain rfl : b9 = true := hb9.mpr ((hA.isc hI _ _).mpr hr9)
            clear hb9
            show J X 0 0 g 24 [(0, .ref m), (1, .int (nI vi)), (2, .int (nI oi)), (3, .int (nI pi)), (4, .int (nI ci)), (5, .int (nI di))] [.int (b01 true)]
            refine j_if_eq hX 31 dX11_join_24 (by decide) (fun c_24 => absurd c_24 (by decide)) (fun _ => ?_)
            refine j_iconst (v := nI 1) hX dX11_join_27 (by decide) ?_
            refine j_goto hX 32 dX11_join_28 (by decide) ?_
            refine j_istore (lv' := [(6, .int (nI 1)), (0, .ref m), (1, .int (nI vi)), (2, .int (nI oi)), (3, .int (nI pi)), (4, .int (nI ci)), (5, .int (nI di))]) hX dX11_join_32 (by rw [hn]; decide) rfl ?_
            refine j_aload_n hX dX11_join_34 1 rfl ?_
            refine j_iload hX dX11_join_35 0 rfl ?_
            refine j_if_ne hX 44 dX11_join_37 (by decide) (fun _ => ?_) (fun c_37 => absurd c_37 (by decide))
            refine j_aload_n hX dX11_join_44 1 rfl ?_
            refine j_get (v := .ref (Q 0)) hX hS.1 rfl wf_X11 1 (by decide) lk_X11_7 (fun _ h => h) rfl dX11_join_45 ?_
            refine j_iload_n hX dX11_join_48 2 rfl ?_
            refine j_ialdN hX (show g (Q 0) = some (aI (xK X) 8 (F 0)) from hS.2.1 0 (by decide)) (vi) (rfl) (hvi) (by decide) dX11_join_49 ?_
            refine j_eqi (y := nI 0) ((hA.free hI hvi).1 hu |>.2) ?_
            refine j_if_le hX 57 dX11_join_50 (by decide) (fun _ => ?_) (fun c_50 => absurd (by decide) c_50)
            refine j_aload_n hX dX11_join_57 1 rfl ?_
            refine j_get (v := .ref (Q 1)) hX hS.1 rfl wf_X11 2 (by decide) lk_X11_13 (fun _ h => h) rfl dX11_join_58 ?_
            refine j_iload_n hX dX11_join_61 3 rfl ?_
            refine j_ialdN hX (show g (Q 1) = some (aI (xK X) 8 (F 1)) from hS.2.1 1 (by decide)) (oi) (rfl) (hoi) (by decide) dX11_join_62 ?_
            refine j_eqi (y := nI (aw A oi)) ((hA.2.2 oi hoi).1.2) ?_
            refine j_aload_n hX dX11_join_63 1 rfl ?_
            refine j_get (v := .ref (Q 1)) hX hS.1 rfl wf_X11 2 (by decide) lk_X11_13 (fun _ h => h) rfl dX11_join_64 ?_
            refine j_iload_n hX dX11_join_67 4 rfl ?_
            refine j_ialdN hX (show g (Q 1) = some (aI (xK X) 8 (F 1)) from hS.2.1 1 (by decide)) (pi) (rfl) (hpi) (by decide) dX11_join_68 ?_
            refine j_eqi (y := nI (aw A pi)) ((hA.2.2 pi hpi).1.2) ?_
            refine j_iadd hX dX11_join_69 ?_
            refine j_eqi (y := nI (aw A oi + aw A pi)) (nI_add _ _) ?_
            refine j_iconst (v := nI 4) hX dX11_join_70 (by decide) ?_
            refine j_icmp_le hX 78 dX11_join_71 (by decide) (fun c_71 => absurd c_71 (nI_ge (a := 4) (b := aw A oi + aw A pi) (by omega) (by omega))) (fun _ => ?_)
            refine j_iconst (v := nI 3) hX dX11_join_74 (by decide) ?_
            refine j_goto hX 79 dX11_join_75 (by decide) ?_
            refine j_put hX hS.1 rfl wf_X11 tyX11_ok nmX11 0 (by decide) lk_X11_56 (fun _ h => h) rfl (tyX11_ok 0 (by decide)) rfl rfl (Nat.le_of_ble_eq_true rfl) dX11_join_79 ?_
            obtain ⟨g1, eg1⟩ : ∃ z : Wd, z = up g m (ob 10 [.int (nI 3), .ref (Q 0), .ref (Q 1), .ref (Q 2), .ref (Q 3), .ref (Q 4), .ref (Q 5), .ref (Q 6), .int (nI Od.length), .ref (Q 7), .ref (Q 8), .ref (Q 9), .ref (Q 10), .ref (Q 11), .ref (Q 12), .ref (Q 13), .int fi, .ref (Q 14)]) := ⟨_, rfl⟩
            refine j_w eg1.symm ?_
            have hS1 : RS (xK X) g1 m Q (nI 3) (nI Od.length) fi F := by rw [eg1]; exact hS.obj _ _ _
            refine j_aload_n hX dX11_join_82 1 rfl ?_
            refine j_get (v := .int (nI 3)) hX hS1.1 rfl wf_X11 0 (by decide) lk_X11_56 (fun _ h => h) rfl dX11_join_83 ?_
            refine j_if_ne hX 132 dX11_join_86 (by decide) (fun _ => ?_) (fun c_86 => absurd c_86 (by decide))
            exact j_vret hX hE dX11_join_132 (⟨rfl, 3, A, Or.inr (Or.inr (Or.inl ⟨rfl, ⟨⟨vi, hvi, rfl⟩, hl9, hr9⟩, by rw [vnat_nI (by omega)]; exact hu, by rw [vnat_nI (by omega), vnat_nI (by omega)]; exact hw, rfl⟩)), Q, Od, fi, F, hS1, hA⟩) (by decide) (by decide)
      · show J X 0 0 g 0 [(0, .ref m), (1, .int (nI vi)), (2, .int (nI oi)), (3, .int ri), (4, .int (nI ci)), (5, .int d)] []
        refine j_iload_n hX dX11_join_0 1 rfl ?_
        refine j_callS (As := [.int (nI vi)]) (rest := []) hX (c_X11_isPlace (xl X) (xK X) g (nI vi)) lk_X11_109 wS_X11_isPlace wN_X11 wC_X11_isPlace hd_X11_isPlace rfl (by rw [hL]; decide) (by decide) rfl (Nat.le_of_ble_eq_true rfl) dX11_join_1 (by rw [hR]; decide) (by rw [hR]; decide) jx_no ?_
        rintro _ _ ⟨b9, rfl, hb9, rfl⟩
        obtain rfl : b9 = true := hb9.mpr ⟨vi, hvi, rfl⟩
        clear hb9
        show J X 0 0 g 4 [(0, .ref m), (1, .int (nI vi)), (2, .int (nI oi)), (3, .int ri), (4, .int (nI ci)), (5, .int d)] [.int (b01 true)]
        refine j_if_eq hX 31 dX11_join_4 (by decide) (fun c_4 => absurd c_4 (by decide)) (fun _ => ?_)
        refine j_aload_n hX dX11_join_7 0 rfl ?_
        refine j_iload_n hX dX11_join_8 2 rfl ?_
        refine j_iload hX dX11_join_9 4 rfl ?_
        refine j_callV (As := [.int (nI oi), .int (nI ci)]) (rest := []) hX (c_X11_isColumn (xl X) (xK X) g m Q th (nI Od.length) fi F hS (nI oi) (nI ci)) hS.1 rfl lk_X11_135 wI_X11_isColumn wV_X11_X11_isColumn wN_X11 wC_X11_isColumn hd_X11_isColumn rfl (by rw [hL]; decide) (by decide) rfl (Nat.le_of_ble_eq_true rfl) dX11_join_11 (by rw [hR]; decide) (by rw [hR]; decide) jx_no ?_
        rintro _ _ ⟨b9, rfl, hb9, rfl⟩
        obtain rfl : b9 = true := hb9.mpr ((hA.isc hI _ _).mpr hl9)
        clear hb9
        show J X 0 0 g 14 [(0, .ref m), (1, .int (nI vi)), (2, .int (nI oi)), (3, .int ri), (4, .int (nI ci)), (5, .int d)] [.int (b01 true)]
        refine j_if_eq hX 31 dX11_join_14 (by decide) (fun c_14 => absurd c_14 (by decide)) (fun _ => ?_)
        refine j_aload_n hX dX11_join_17 0 rfl ?_
        refine j_iload_n hX dX11_join_18 3 rfl ?_
        refine j_iload hX dX11_join_19 5 rfl ?_
        refine j_callV (As := [.int ri, .int d]) (rest := []) hX (c_X11_isColumn (xl X) (xK X) g m Q th (nI Od.length) fi F hS (ri) (d)) hS.1 rfl lk_X11_135 wI_X11_isColumn wV_X11_X11_isColumn wN_X11 wC_X11_isColumn hd_X11_isColumn rfl (by rw [hL]; decide) (by decide) rfl (Nat.le_of_ble_eq_true rfl) dX11_join_21 (by rw [hR]; decide) (by rw [hR]; decide) jx_no ?_
        rintro _ _ ⟨b9, rfl, hb9, rfl⟩
        obtain rfl : b9 = false := Bool.eq_false_iff.mpr (fun q => hr9 ((hA.isc hI _ _).mp (hb9.mp q)))
        clear hb9
        show J X 0 0 g 24 [(0, .ref m), (1, .int (nI vi)), (2, .int (nI oi)), (3, .int ri), (4, .int (nI ci)), (5, .int d)] [.int (b01 false)]
        refine j_if_eq hX 31 dX11_join_24 (by decide) (fun _ => ?_) (fun c_24 => absurd (by decide) c_24)
        refine j_iconst (v := nI 0) hX dX11_join_31 (by decide) ?_
        refine j_istore (lv' := [(6, .int (nI 0)), (0, .ref m), (1, .int (nI vi)), (2, .int (nI oi)), (3, .int ri), (4, .int (nI ci)), (5, .int d)]) hX dX11_join_32 (by rw [hn]; decide) rfl ?_
        refine j_aload_n hX dX11_join_34 1 rfl ?_
        refine j_iload hX dX11_join_35 0 rfl ?_
        refine j_if_ne hX 44 dX11_join_37 (by decide) (fun c_37 => absurd c_37 (fun q => q (by rfl))) (fun _ => ?_)
        refine j_iconst (v := nI 1) hX dX11_join_40 (by decide) ?_
        refine j_goto hX 79 dX11_join_41 (by decide) ?_
        refine j_put hX hS.1 rfl wf_X11 tyX11_ok nmX11 0 (by decide) lk_X11_56 (fun _ h => h) rfl (tyX11_ok 0 (by decide)) rfl rfl (Nat.le_of_ble_eq_true rfl) dX11_join_79 ?_
        obtain ⟨g1, eg1⟩ : ∃ z : Wd, z = up g m (ob 10 [.int (nI 1), .ref (Q 0), .ref (Q 1), .ref (Q 2), .ref (Q 3), .ref (Q 4), .ref (Q 5), .ref (Q 6), .int (nI Od.length), .ref (Q 7), .ref (Q 8), .ref (Q 9), .ref (Q 10), .ref (Q 11), .ref (Q 12), .ref (Q 13), .int fi, .ref (Q 14)]) := ⟨_, rfl⟩
        refine j_w eg1.symm ?_
        have hS1 : RS (xK X) g1 m Q (nI 1) (nI Od.length) fi F := by rw [eg1]; exact hS.obj _ _ _
        refine j_aload_n hX dX11_join_82 1 rfl ?_
        refine j_get (v := .int (nI 1)) hX hS1.1 rfl wf_X11 0 (by decide) lk_X11_56 (fun _ h => h) rfl dX11_join_83 ?_
        refine j_if_ne hX 132 dX11_join_86 (by decide) (fun _ => ?_) (fun c_86 => absurd c_86 (by decide))
        exact j_vret hX hE dX11_join_132 (⟨rfl, 1, A, Or.inl ⟨rfl, fun q => hr9 q.2.2, rfl⟩, Q, Od, fi, F, hS1, hA⟩) (by decide) (by decide)
    · show J X 0 0 g 0 [(0, .ref m), (1, .int (nI vi)), (2, .int le), (3, .int ri), (4, .int c), (5, .int d)] []
      refine j_iload_n hX dX11_join_0 1 rfl ?_
      refine j_callS (As := [.int (nI vi)]) (rest := []) hX (c_X11_isPlace (xl X) (xK X) g (nI vi)) lk_X11_109 wS_X11_isPlace wN_X11 wC_X11_isPlace hd_X11_isPlace rfl (by rw [hL]; decide) (by decide) rfl (Nat.le_of_ble_eq_true rfl) dX11_join_1 (by rw [hR]; decide) (by rw [hR]; decide) jx_no ?_
      rintro _ _ ⟨b9, rfl, hb9, rfl⟩
      obtain rfl : b9 = true := hb9.mpr ⟨vi, hvi, rfl⟩
      clear hb9
      show J X 0 0 g 4 [(0, .ref m), (1, .int (nI vi)), (2, .int le), (3, .int ri), (4, .int c), (5, .int d)] [.int (b01 true)]
      refine j_if_eq hX 31 dX11_join_4 (by decide) (fun c_4 => absurd c_4 (by decide)) (fun _ => ?_)
      refine j_aload_n hX dX11_join_7 0 rfl ?_
      refine j_iload_n hX dX11_join_8 2 rfl ?_
      refine j_iload hX dX11_join_9 4 rfl ?_
      refine j_callV (As := [.int le, .int c]) (rest := []) hX (c_X11_isColumn (xl X) (xK X) g m Q th (nI Od.length) fi F hS (le) (c)) hS.1 rfl lk_X11_135 wI_X11_isColumn wV_X11_X11_isColumn wN_X11 wC_X11_isColumn hd_X11_isColumn rfl (by rw [hL]; decide) (by decide) rfl (Nat.le_of_ble_eq_true rfl) dX11_join_11 (by rw [hR]; decide) (by rw [hR]; decide) jx_no ?_
      rintro _ _ ⟨b9, rfl, hb9, rfl⟩
      obtain rfl : b9 = false := Bool.eq_false_iff.mpr (fun q => hl9 ((hA.isc hI _ _).mp (hb9.mp q)))
      clear hb9
      show J X 0 0 g 14 [(0, .ref m), (1, .int (nI vi)), (2, .int le), (3, .int ri), (4, .int c), (5, .int d)] [.int (b01 false)]
      refine j_if_eq hX 31 dX11_join_14 (by decide) (fun _ => ?_) (fun c_14 => absurd (by decide) c_14)
      refine j_iconst (v := nI 0) hX dX11_join_31 (by decide) ?_
      refine j_istore (lv' := [(6, .int (nI 0)), (0, .ref m), (1, .int (nI vi)), (2, .int le), (3, .int ri), (4, .int c), (5, .int d)]) hX dX11_join_32 (by rw [hn]; decide) rfl ?_
      refine j_aload_n hX dX11_join_34 1 rfl ?_
      refine j_iload hX dX11_join_35 0 rfl ?_
      refine j_if_ne hX 44 dX11_join_37 (by decide) (fun c_37 => absurd c_37 (fun q => q (by rfl))) (fun _ => ?_)
      refine j_iconst (v := nI 1) hX dX11_join_40 (by decide) ?_
      refine j_goto hX 79 dX11_join_41 (by decide) ?_
      refine j_put hX hS.1 rfl wf_X11 tyX11_ok nmX11 0 (by decide) lk_X11_56 (fun _ h => h) rfl (tyX11_ok 0 (by decide)) rfl rfl (Nat.le_of_ble_eq_true rfl) dX11_join_79 ?_
      obtain ⟨g1, eg1⟩ : ∃ z : Wd, z = up g m (ob 10 [.int (nI 1), .ref (Q 0), .ref (Q 1), .ref (Q 2), .ref (Q 3), .ref (Q 4), .ref (Q 5), .ref (Q 6), .int (nI Od.length), .ref (Q 7), .ref (Q 8), .ref (Q 9), .ref (Q 10), .ref (Q 11), .ref (Q 12), .ref (Q 13), .int fi, .ref (Q 14)]) := ⟨_, rfl⟩
      refine j_w eg1.symm ?_
      have hS1 : RS (xK X) g1 m Q (nI 1) (nI Od.length) fi F := by rw [eg1]; exact hS.obj _ _ _
      refine j_aload_n hX dX11_join_82 1 rfl ?_
      refine j_get (v := .int (nI 1)) hX hS1.1 rfl wf_X11 0 (by decide) lk_X11_56 (fun _ h => h) rfl dX11_join_83 ?_
      refine j_if_ne hX 132 dX11_join_86 (by decide) (fun _ => ?_) (fun c_86 => absurd c_86 (by decide))
      exact j_vret hX hE dX11_join_132 (⟨rfl, 1, A, Or.inl ⟨rfl, fun q => hl9 q.2.1, rfl⟩, Q, Od, fi, F, hS1, hA⟩) (by decide) (by decide)
  · show J X 0 0 g 0 [(0, .ref m), (1, .int v), (2, .int le), (3, .int ri), (4, .int c), (5, .int d)] []
    refine j_iload_n hX dX11_join_0 1 rfl ?_
    refine j_callS (As := [.int v]) (rest := []) hX (c_X11_isPlace (xl X) (xK X) g (v)) lk_X11_109 wS_X11_isPlace wN_X11 wC_X11_isPlace hd_X11_isPlace rfl (by rw [hL]; decide) (by decide) rfl (Nat.le_of_ble_eq_true rfl) dX11_join_1 (by rw [hR]; decide) (by rw [hR]; decide) jx_no ?_
    rintro _ _ ⟨b9, rfl, hb9, rfl⟩
    obtain rfl : b9 = false := Bool.eq_false_iff.mpr (fun q => hP (hb9.mp q))
    clear hb9
    show J X 0 0 g 4 [(0, .ref m), (1, .int v), (2, .int le), (3, .int ri), (4, .int c), (5, .int d)] [.int (b01 false)]
    refine j_if_eq hX 31 dX11_join_4 (by decide) (fun _ => ?_) (fun c_4 => absurd (by decide) c_4)
    refine j_iconst (v := nI 0) hX dX11_join_31 (by decide) ?_
    refine j_istore (lv' := [(6, .int (nI 0)), (0, .ref m), (1, .int v), (2, .int le), (3, .int ri), (4, .int c), (5, .int d)]) hX dX11_join_32 (by rw [hn]; decide) rfl ?_
    refine j_aload_n hX dX11_join_34 1 rfl ?_
    refine j_iload hX dX11_join_35 0 rfl ?_
    refine j_if_ne hX 44 dX11_join_37 (by decide) (fun c_37 => absurd c_37 (fun q => q (by rfl))) (fun _ => ?_)
    refine j_iconst (v := nI 1) hX dX11_join_40 (by decide) ?_
    refine j_goto hX 79 dX11_join_41 (by decide) ?_
    refine j_put hX hS.1 rfl wf_X11 tyX11_ok nmX11 0 (by decide) lk_X11_56 (fun _ h => h) rfl (tyX11_ok 0 (by decide)) rfl rfl (Nat.le_of_ble_eq_true rfl) dX11_join_79 ?_
    obtain ⟨g1, eg1⟩ : ∃ z : Wd, z = up g m (ob 10 [.int (nI 1), .ref (Q 0), .ref (Q 1), .ref (Q 2), .ref (Q 3), .ref (Q 4), .ref (Q 5), .ref (Q 6), .int (nI Od.length), .ref (Q 7), .ref (Q 8), .ref (Q 9), .ref (Q 10), .ref (Q 11), .ref (Q 12), .ref (Q 13), .int fi, .ref (Q 14)]) := ⟨_, rfl⟩
    refine j_w eg1.symm ?_
    have hS1 : RS (xK X) g1 m Q (nI 1) (nI Od.length) fi F := by rw [eg1]; exact hS.obj _ _ _
    refine j_aload_n hX dX11_join_82 1 rfl ?_
    refine j_get (v := .int (nI 1)) hX hS1.1 rfl wf_X11 0 (by decide) lk_X11_56 (fun _ h => h) rfl dX11_join_83 ?_
    refine j_if_ne hX 132 dX11_join_86 (by decide) (fun _ => ?_) (fun c_86 => absurd c_86 (by decide))
    exact j_vret hX hE dX11_join_132 (⟨rfl, 1, A, Or.inl ⟨rfl, fun q => hP q.1, rfl⟩, Q, Od, fi, F, hS1, hA⟩) (by decide) (by decide)

set_option maxRecDepth 20000 in
set_option maxHeartbeats 1600000 in
/-- c_X11_group -/
theorem c_X11_group (l : Launch) (K : Cst) (g : Wd) (m : Nat) (Q : Nat → Nat) (th fi : Int32) (F : Nat → Nat → Int32) (Od : List Nat) (hS : RS K g m Q th (nI Od.length) fi F) (A : Ab) (hI : Inv A) (hA : RA A Od F) (v ofr bY sT c : Int32) : Ct l K yX11_group cX11_group 7 none 5 [.ref m, .int v, .int ofr, .int bY, .int sT, .int c] g (RPo K m (groupO A v ofr bY sT c)) (fun _ _ => False) 0 0 := by
  refine ct_of (by decide) (Nat.le_of_ble_eq_true rfl) ?_
  intro X hl hK hX hE hn hL hR hm
  subst hl; subst hK
  show J X 0 0 g 0 [(0, .ref m), (1, .int v), (2, .int ofr), (3, .int bY), (4, .int sT), (5, .int c)] []
  by_cases hP : P8 v
  · obtain ⟨vi, hvi, rfl⟩ := hP
    by_cases hl9 : isC A ofr c
    · obtain ⟨oi, ci, hoi, hci, hcw, rfl, rfl, hwo⟩ := isC_ok hI hl9
      have h4o := (hI oi hoi).1.1
      by_cases hb1 : bY = -1
      · subst hb1
        by_cases hu : 0 < aw A vi
        · show J X 0 0 g 0 [(0, .ref m), (1, .int (nI vi)), (2, .int (nI oi)), (3, .int (-1)), (4, .int sT), (5, .int (nI ci))] []
          refine j_iload_n hX dX11_group_0 1 rfl ?_
          refine j_callS (As := [.int (nI vi)]) (rest := []) hX (c_X11_isPlace (xl X) (xK X) g (nI vi)) lk_X11_109 wS_X11_isPlace wN_X11 wC_X11_isPlace hd_X11_isPlace rfl (by rw [hL]; decide) (by decide) rfl (Nat.le_of_ble_eq_true rfl) dX11_group_1 (by rw [hR]; decide) (by rw [hR]; decide) jx_no ?_
          rintro _ _ ⟨b9, rfl, hb9, rfl⟩
          obtain rfl : b9 = true := hb9.mpr ⟨vi, hvi, rfl⟩
          clear hb9
          show J X 0 0 g 4 [(0, .ref m), (1, .int (nI vi)), (2, .int (nI oi)), (3, .int (-1)), (4, .int sT), (5, .int (nI ci))] [.int (b01 true)]
          refine j_if_eq hX 35 dX11_group_4 (by decide) (fun c_4 => absurd c_4 (by decide)) (fun _ => ?_)
          refine j_aload_n hX dX11_group_7 0 rfl ?_
          refine j_iload_n hX dX11_group_8 2 rfl ?_
          refine j_iload hX dX11_group_9 5 rfl ?_
          refine j_callV (As := [.int (nI oi), .int (nI ci)]) (rest := []) hX (c_X11_isColumn (xl X) (xK X) g m Q th (nI Od.length) fi F hS (nI oi) (nI ci)) hS.1 rfl lk_X11_135 wI_X11_isColumn wV_X11_X11_isColumn wN_X11 wC_X11_isColumn hd_X11_isColumn rfl (by rw [hL]; decide) (by decide) rfl (Nat.le_of_ble_eq_true rfl) dX11_group_11 (by rw [hR]; decide) (by rw [hR]; decide) jx_no ?_
          rintro _ _ ⟨b9, rfl, hb9, rfl⟩
          obtain rfl : b9 = true := hb9.mpr ((hA.isc hI _ _).mpr hl9)
          clear hb9
          show J X 0 0 g 14 [(0, .ref m), (1, .int (nI vi)), (2, .int (nI oi)), (3, .int (-1)), (4, .int sT), (5, .int (nI ci))] [.int (b01 true)]
          refine j_if_eq hX 35 dX11_group_14 (by decide) (fun c_14 => absurd c_14 (by decide)) (fun _ => ?_)
          refine j_iload_n hX dX11_group_17 3 rfl ?_
          refine j_iconst (v := (-1)) hX dX11_group_18 (by decide) ?_
          refine j_icmp_eq hX 31 dX11_group_19 (by decide) (fun _ => ?_) (fun c_19 => absurd (by rfl) c_19)
          refine j_iconst (v := nI 1) hX dX11_group_31 (by decide) ?_
          refine j_goto hX 36 dX11_group_32 (by decide) ?_
          refine j_istore (lv' := [(6, .int (nI 1)), (0, .ref m), (1, .int (nI vi)), (2, .int (nI oi)), (3, .int (-1)), (4, .int sT), (5, .int (nI ci))]) hX dX11_group_36 (by rw [hn]; decide) rfl ?_
          refine j_aload_n hX dX11_group_38 1 rfl ?_
          refine j_iload hX dX11_group_39 0 rfl ?_
          refine j_if_ne hX 48 dX11_group_41 (by decide) (fun _ => ?_) (fun c_41 => absurd c_41 (by decide))
          refine j_aload_n hX dX11_group_48 1 rfl ?_
          refine j_get (v := .ref (Q 0)) hX hS.1 rfl wf_X11 1 (by decide) lk_X11_7 (fun _ h => h) rfl dX11_group_49 ?_
          refine j_iload_n hX dX11_group_52 2 rfl ?_
          refine j_ialdN hX (show g (Q 0) = some (aI (xK X) 8 (F 0)) from hS.2.1 0 (by decide)) (vi) (rfl) (hvi) (by decide) dX11_group_53 ?_
          refine j_if_le hX 61 dX11_group_54 (by decide) (fun c_54 => absurd c_54 (Int32.not_le.mpr ((hA.free hI hvi).2 hu).2)) (fun _ => ?_)
          refine j_iconst (v := nI 2) hX dX11_group_57 (by decide) ?_
          refine j_goto hX 77 dX11_group_58 (by decide) ?_
          refine j_put hX hS.1 rfl wf_X11 tyX11_ok nmX11 0 (by decide) lk_X11_56 (fun _ h => h) rfl (tyX11_ok 0 (by decide)) rfl rfl (Nat.le_of_ble_eq_true rfl) dX11_group_77 ?_
          obtain ⟨g1, eg1⟩ : ∃ z : Wd, z = up g m (ob 10 [.int (nI 2), .ref (Q 0), .ref (Q 1), .ref (Q 2), .ref (Q 3), .ref (Q 4), .ref (Q 5), .ref (Q 6), .int (nI Od.length), .ref (Q 7), .ref (Q 8), .ref (Q 9), .ref (Q 10), .ref (Q 11), .ref (Q 12), .ref (Q 13), .int fi, .ref (Q 14)]) := ⟨_, rfl⟩
          refine j_w eg1.symm ?_
          have hS1 : RS (xK X) g1 m Q (nI 2) (nI Od.length) fi F := by rw [eg1]; exact hS.obj _ _ _
          refine j_aload_n hX dX11_group_80 1 rfl ?_
          refine j_get (v := .int (nI 2)) hX hS1.1 rfl wf_X11 0 (by decide) lk_X11_56 (fun _ h => h) rfl dX11_group_81 ?_
          refine j_if_ne hX 138 dX11_group_84 (by decide) (fun _ => ?_) (fun c_84 => absurd c_84 (by decide))
          exact j_vret hX hE dX11_group_138 (⟨rfl, 2, A, Or.inr (Or.inl ⟨rfl, ⟨⟨vi, hvi, rfl⟩, hl9, Or.inl rfl⟩, by rw [vnat_nI (by omega)]; exact hu, rfl⟩), Q, Od, fi, F, hS1, hA⟩) (by decide) (by decide)
        · by_cases hs : ∃ s, s < 4 ∧ sT = nI s
          · obtain ⟨si, hsi, rfl⟩ := hs
            have hfv := ((hA.free hI hvi).1 hu).1
            have hkl := ((hA.free hI hoi).2 hwo).1
            have hkr := hkl
            show J X 0 0 g 0 [(0, .ref m), (1, .int (nI vi)), (2, .int (nI oi)), (3, .int (-1)), (4, .int (nI si)), (5, .int (nI ci))] []
            refine j_iload_n hX dX11_group_0 1 rfl ?_
            refine j_callS (As := [.int (nI vi)]) (rest := []) hX (c_X11_isPlace (xl X) (xK X) g (nI vi)) lk_X11_109 wS_X11_isPlace wN_X11 wC_X11_isPlace hd_X11_isPlace rfl (by rw [hL]; decide) (by decide) rfl (Nat.le_of_ble_eq_true rfl) dX11_group_1 (by rw [hR]; decide) (by rw [hR]; decide) jx_no ?_
            rintro _ _ ⟨b9, rfl, hb9, rfl⟩
            obtain rfl : b9 = true := hb9.mpr ⟨vi, hvi, rfl⟩
            clear hb9
            show J X 0 0 g 4 [(0, .ref m), (1, .int (nI vi)), (2, .int (nI oi)), (3, .int (-1)), (4, .int (nI si)), (5, .int (nI ci))] [.int (b01 true)]
            refine j_if_eq hX 35 dX11_group_4 (by decide) (fun c_4 => absurd c_4 (by decide)) (fun _ => ?_)
            refine j_aload_n hX dX11_group_7 0 rfl ?_
            refine j_iload_n hX dX11_group_8 2 rfl ?_
            refine j_iload hX dX11_group_9 5 rfl ?_
            refine j_callV (As := [.int (nI oi), .int (nI ci)]) (rest := []) hX (c_X11_isColumn (xl X) (xK X) g m Q th (nI Od.length) fi F hS (nI oi) (nI ci)) hS.1 rfl lk_X11_135 wI_X11_isColumn wV_X11_X11_isColumn wN_X11 wC_X11_isColumn hd_X11_isColumn rfl (by rw [hL]; decide) (by decide) rfl (Nat.le_of_ble_eq_true rfl) dX11_group_11 (by rw [hR]; decide) (by rw [hR]; decide) jx_no ?_
            rintro _ _ ⟨b9, rfl, hb9, rfl⟩
            obtain rfl : b9 = true := hb9.mpr ((hA.isc hI _ _).mpr hl9)
            clear hb9
            show J X 0 0 g 14 [(0, .ref m), (1, .int (nI vi)), (2, .int (nI oi)), (3, .int (-1)), (4, .int (nI si)), (5, .int (nI ci))] [.int (b01 true)]
            refine j_if_eq hX 35 dX11_group_14 (by decide) (fun c_14 => absurd c_14 (by decide)) (fun _ => ?_)
            refine j_iload_n hX dX11_group_17 3 rfl ?_
            refine j_iconst (v := (-1)) hX dX11_group_18 (by decide) ?_
            refine j_icmp_eq hX 31 dX11_group_19 (by decide) (fun _ => ?_) (fun c_19 => absurd (by rfl) c_19)
            refine j_iconst (v := nI 1) hX dX11_group_31 (by decide) ?_
            refine j_goto hX 36 dX11_group_32 (by decide) ?_
            refine j_istore (lv' := [(6, .int (nI 1)), (0, .ref m), (1, .int (nI vi)), (2, .int (nI oi)), (3, .int (-1)), (4, .int (nI si)), (5, .int (nI ci))]) hX dX11_group_36 (by rw [hn]; decide) rfl ?_
            refine j_aload_n hX dX11_group_38 1 rfl ?_
            refine j_iload hX dX11_group_39 0 rfl ?_
            refine j_if_ne hX 48 dX11_group_41 (by decide) (fun _ => ?_) (fun c_41 => absurd c_41 (by decide))
            refine j_aload_n hX dX11_group_48 1 rfl ?_
            refine j_get (v := .ref (Q 0)) hX hS.1 rfl wf_X11 1 (by decide) lk_X11_7 (fun _ h => h) rfl dX11_group_49 ?_
            refine j_iload_n hX dX11_group_52 2 rfl ?_
            refine j_ialdN hX (show g (Q 0) = some (aI (xK X) 8 (F 0)) from hS.2.1 0 (by decide)) (vi) (rfl) (hvi) (by decide) dX11_group_53 ?_
            refine j_eqi (y := nI 0) ((hA.free hI hvi).1 hu |>.2) ?_
            refine j_if_le hX 61 dX11_group_54 (by decide) (fun _ => ?_) (fun c_54 => absurd (by decide) c_54)
            refine j_iload hX dX11_group_61 5 rfl ?_
            refine j_if_lt hX 72 dX11_group_63 (by decide) (fun c_63 => absurd c_63 (nI_pos (n := si) (by omega))) (fun _ => ?_)
            refine j_iload hX dX11_group_66 5 rfl ?_
            refine j_iconst (v := nI 3) hX dX11_group_68 (by decide) ?_
            refine j_icmp_le hX 76 dX11_group_69 (by decide) (fun _ => ?_) (fun c_69 => absurd (nI_le (a := si) (b := 3) (by omega) (by decide)) c_69)
            refine j_iconst (v := nI 0) hX dX11_group_76 (by decide) ?_
            refine j_put hX hS.1 rfl wf_X11 tyX11_ok nmX11 0 (by decide) lk_X11_56 (fun _ h => h) rfl (tyX11_ok 0 (by decide)) rfl rfl (Nat.le_of_ble_eq_true rfl) dX11_group_77 ?_
            obtain ⟨g1, eg1⟩ : ∃ z : Wd, z = up g m (ob 10 [.int (nI 0), .ref (Q 0), .ref (Q 1), .ref (Q 2), .ref (Q 3), .ref (Q 4), .ref (Q 5), .ref (Q 6), .int (nI Od.length), .ref (Q 7), .ref (Q 8), .ref (Q 9), .ref (Q 10), .ref (Q 11), .ref (Q 12), .ref (Q 13), .int fi, .ref (Q 14)]) := ⟨_, rfl⟩
            refine j_w eg1.symm ?_
            have hS1 : RS (xK X) g1 m Q (nI 0) (nI Od.length) fi F := by rw [eg1]; exact hS.obj _ _ _
            refine j_aload_n hX dX11_group_80 1 rfl ?_
            refine j_get (v := .int (nI 0)) hX hS1.1 rfl wf_X11 0 (by decide) lk_X11_56 (fun _ h => h) rfl dX11_group_81 ?_
            refine j_if_ne hX 138 dX11_group_84 (by decide) (fun c_84 => absurd c_84 (fun q => q (by rfl))) (fun _ => ?_)
            refine j_aload_n hX dX11_group_87 1 rfl ?_
            refine j_get (v := .ref (Q 4)) hX hS1.1 rfl wf_X11 5 (by decide) lk_X11_22 (fun _ h => h) rfl dX11_group_88 ?_
            refine j_iconst (v := nI 4) hX dX11_group_91 (by decide) ?_
            refine j_iload_n hX dX11_group_92 2 rfl ?_
            refine j_imul hX dX11_group_93 ?_
            refine j_eqi (y := nI (4 * vi)) (pk_mul 4 vi) ?_
            refine j_iload_n hX dX11_group_94 4 rfl ?_
            refine j_iastN hX (show g1 (Q 4) = some (aI (xK X) 32 (F 4)) from hS1.2.1 4 (by decide)) (4 * vi) (rfl) (by omega) (by decide) dX11_group_95 ?_
            obtain ⟨g2, eg2⟩ : ∃ z : Wd, z = up g1 (Q 4) (aI (xK X) 32 (upd (F 4) (4 * vi) (-1))) := ⟨_, rfl⟩
            refine j_w eg2.symm ?_
            obtain ⟨F2, eF2⟩ : ∃ z, z = fu F 4 (upd (F 4) (4 * vi) (-1)) := ⟨_, rfl⟩
            have hS2 : RS (xK X) g2 m Q (nI 0) (nI Od.length) fi F2 := by rw [eg2, eF2]; exact hS1.put 4 (by decide) _
            refine j_aload_n hX dX11_group_96 1 rfl ?_
            refine j_get (v := .ref (Q 4)) hX hS2.1 rfl wf_X11 5 (by decide) lk_X11_22 (fun _ h => h) rfl dX11_group_97 ?_
            refine j_iconst (v := nI 4) hX dX11_group_100 (by decide) ?_
            refine j_iload_n hX dX11_group_101 2 rfl ?_
            refine j_imul hX dX11_group_102 ?_
            refine j_eqi (y := nI (4 * vi)) (pk_mul 4 vi) ?_
            refine j_iconst (v := nI 1) hX dX11_group_103 (by decide) ?_
            refine j_iadd hX dX11_group_104 ?_
            refine j_eqi (y := nI (4 * vi + 1)) (ix4v vi 1) ?_
            refine j_iload hX dX11_group_105 5 rfl ?_
            refine j_iastN hX (show g2 (Q 4) = some (aI (xK X) 32 (F2 4)) from hS2.2.1 4 (by decide)) (4 * vi + 1) (rfl) (by omega) (by decide) dX11_group_107 ?_
            obtain ⟨g3, eg3⟩ : ∃ z : Wd, z = up g2 (Q 4) (aI (xK X) 32 (upd (F2 4) (4 * vi + 1) (nI si))) := ⟨_, rfl⟩
            refine j_w eg3.symm ?_
            obtain ⟨F3, eF3⟩ : ∃ z, z = fu F2 4 (upd (F2 4) (4 * vi + 1) (nI si)) := ⟨_, rfl⟩
            have hS3 : RS (xK X) g3 m Q (nI 0) (nI Od.length) fi F3 := by rw [eg3, eF3]; exact hS2.put 4 (by decide) _
            refine j_aload_n hX dX11_group_108 1 rfl ?_
            refine j_get (v := .ref (Q 4)) hX hS3.1 rfl wf_X11 5 (by decide) lk_X11_22 (fun _ h => h) rfl dX11_group_109 ?_
            refine j_iconst (v := nI 4) hX dX11_group_112 (by decide) ?_
            refine j_iload_n hX dX11_group_113 2 rfl ?_
            refine j_imul hX dX11_group_114 ?_
            refine j_eqi (y := nI (4 * vi)) (pk_mul 4 vi) ?_
            refine j_iconst (v := nI 2) hX dX11_group_115 (by decide) ?_
            refine j_iadd hX dX11_group_116 ?_
            refine j_eqi (y := nI (4 * vi + 2)) (ix4v vi 2) ?_
            refine j_iload hX dX11_group_117 6 rfl ?_
            refine j_iastN hX (show g3 (Q 4) = some (aI (xK X) 32 (F3 4)) from hS3.2.1 4 (by decide)) (4 * vi + 2) (rfl) (by omega) (by decide) dX11_group_119 ?_
            obtain ⟨g4, eg4⟩ : ∃ z : Wd, z = up g3 (Q 4) (aI (xK X) 32 (upd (F3 4) (4 * vi + 2) (nI ci))) := ⟨_, rfl⟩
            refine j_w eg4.symm ?_
            obtain ⟨F4, eF4⟩ : ∃ z, z = fu F3 4 (upd (F3 4) (4 * vi + 2) (nI ci)) := ⟨_, rfl⟩
            have hS4 : RS (xK X) g4 m Q (nI 0) (nI Od.length) fi F4 := by rw [eg4, eF4]; exact hS3.put 4 (by decide) _
            have hA9 : RA A Od F4 := hA.num hfv (fun j h4 h5 => by rw [eF4, fu_n h4, eF3, fu_n h4, eF2, fu_n h4]) (fun i hi => by rw [eF4, fu_s, pk_un (by omega), eF3, fu_s, pk_un (by omega), eF2, fu_s, pk_un (by omega)]) (fun i hi => by rw [eF4, fu_n (by decide), eF3, fu_n (by decide), eF2, fu_n (by decide)])
            refine j_aload_n hX dX11_group_120 1 rfl ?_
            refine j_iload_n hX dX11_group_121 2 rfl ?_
            refine j_bipush (v := nI 8) hX dX11_group_122 (by decide) ?_
            refine j_iload_n hX dX11_group_124 4 rfl ?_
            refine j_if_ge hX 132 dX11_group_125 (by decide) (fun c_125 => absurd c_125 (by decide)) (fun _ => ?_)
            refine j_iconst (v := nI 1) hX dX11_group_128 (by decide) ?_
            refine j_goto hX 133 dX11_group_129 (by decide) ?_
            refine j_iload_n hX dX11_group_133 3 rfl ?_
            refine j_iconst (v := (-1)) hX dX11_group_134 (by decide) ?_
            refine j_callV (As := [.int (nI vi), .int (nI 8), .int (nI 1), .int (nI oi), .int (-1)]) (rest := []) hX (c_X11_view (xl X) (xK X) g4 m Q (nI 0) fi F4 Od hS4 A hI hA9 vi 8 (1) oi oi (-1) (nC (-1) (nI si) (nI ci) 0) false hvi hfv (by decide) hoi hoi hkl hkr (by decide) (by decide) (⟨fun q => absurd q (by unfold isB; omega), fun _ => ⟨rfl, rfl⟩, fun j hj => by rcases (show j = 0 ∨ j = 1 ∨ j = 2 by have : j < 3 := hj; omega) with rfl | rfl | rfl <;> simp [eF2, eF3, eF4, fu, upd, nC], fun q => absurd q (by decide)⟩) (⟨Or.inl (nC_0 _ _ _ _), ⟨si, by omega, nC_1 _ _ _ _⟩, ⟨ci, hci, nC_2 _ _ _ _⟩⟩) (by show _ = if _ then _ else _; rw [nC_0]; rfl)) hS4.1 rfl lk_X11_138 wI_X11_view wV_X11_X11_view wN_X11 wC_X11_view hd_X11_view rfl (by rw [hL]; decide) (by decide) rfl (Nat.le_of_ble_eq_true rfl) dX11_group_135 (by rw [hR]; decide) (by rw [hR]; decide) jx_no ?_
            rintro _ g9 ⟨rfl, h9⟩
            show J X 0 0 g9 138 [(6, .int (nI 1)), (0, .ref m), (1, .int (nI vi)), (2, .int (nI oi)), (3, .int (-1)), (4, .int (nI si)), (5, .int (nI ci))] []
            exact j_vret hX hE dX11_group_138 (⟨rfl, by
  unfold groupO
  rw [vnat_nI (show oi < 2 ^ 31 by omega), if_pos rfl]
  exact view_out (vnat_nI (by omega)) ⟨⟨vi, hvi, rfl⟩, hl9, Or.inl rfl⟩ hu ⟨si, hsi, rfl⟩ h9⟩) (by decide) (by decide)
          · have hs9 : ¬ (¬ sT < 0 ∧ sT ≤ nI 3) := fun q => hs (by obtain ⟨w, _, q2, q3⟩ := i32_rng (a := 0) (b := 3) (by decide) (by decide) (Int32.not_lt.mp q.1) q.2; exact ⟨w, by omega, q3⟩)
            show J X 0 0 g 0 [(0, .ref m), (1, .int (nI vi)), (2, .int (nI oi)), (3, .int (-1)), (4, .int sT), (5, .int (nI ci))] []
            refine j_iload_n hX dX11_group_0 1 rfl ?_
            refine j_callS (As := [.int (nI vi)]) (rest := []) hX (c_X11_isPlace (xl X) (xK X) g (nI vi)) lk_X11_109 wS_X11_isPlace wN_X11 wC_X11_isPlace hd_X11_isPlace rfl (by rw [hL]; decide) (by decide) rfl (Nat.le_of_ble_eq_true rfl) dX11_group_1 (by rw [hR]; decide) (by rw [hR]; decide) jx_no ?_
            rintro _ _ ⟨b9, rfl, hb9, rfl⟩
            obtain rfl : b9 = true := hb9.mpr ⟨vi, hvi, rfl⟩
            clear hb9
            show J X 0 0 g 4 [(0, .ref m), (1, .int (nI vi)), (2, .int (nI oi)), (3, .int (-1)), (4, .int sT), (5, .int (nI ci))] [.int (b01 true)]
            refine j_if_eq hX 35 dX11_group_4 (by decide) (fun c_4 => absurd c_4 (by decide)) (fun _ => ?_)
            refine j_aload_n hX dX11_group_7 0 rfl ?_
            refine j_iload_n hX dX11_group_8 2 rfl ?_
            refine j_iload hX dX11_group_9 5 rfl ?_
            refine j_callV (As := [.int (nI oi), .int (nI ci)]) (rest := []) hX (c_X11_isColumn (xl X) (xK X) g m Q th (nI Od.length) fi F hS (nI oi) (nI ci)) hS.1 rfl lk_X11_135 wI_X11_isColumn wV_X11_X11_isColumn wN_X11 wC_X11_isColumn hd_X11_isColumn rfl (by rw [hL]; decide) (by decide) rfl (Nat.le_of_ble_eq_true rfl) dX11_group_11 (by rw [hR]; decide) (by rw [hR]; decide) jx_no ?_
            rintro _ _ ⟨b9, rfl, hb9, rfl⟩
            obtain rfl : b9 = true := hb9.mpr ((hA.isc hI _ _).mpr hl9)
            clear hb9
            show J X 0 0 g 14 [(0, .ref m), (1, .int (nI vi)), (2, .int (nI oi)), (3, .int (-1)), (4, .int sT), (5, .int (nI ci))] [.int (b01 true)]
            refine j_if_eq hX 35 dX11_group_14 (by decide) (fun c_14 => absurd c_14 (by decide)) (fun _ => ?_)
            refine j_iload_n hX dX11_group_17 3 rfl ?_
            refine j_iconst (v := (-1)) hX dX11_group_18 (by decide) ?_
            refine j_icmp_eq hX 31 dX11_group_19 (by decide) (fun _ => ?_) (fun c_19 => absurd (by rfl) c_19)
            refine j_iconst (v := nI 1) hX dX11_group_31 (by decide) ?_
            refine j_goto hX 36 dX11_group_32 (by decide) ?_
            refine j_istore (lv' := [(6, .int (nI 1)), (0, .ref m), (1, .int (nI vi)), (2, .int (nI oi)), (3, .int (-1)), (4, .int sT), (5, .int (nI ci))]) hX dX11_group_36 (by rw [hn]; decide) rfl ?_
            refine j_aload_n hX dX11_group_38 1 rfl ?_
            refine j_iload hX dX11_group_39 0 rfl ?_
            refine j_if_ne hX 48 dX11_group_41 (by decide) (fun _ => ?_) (fun c_41 => absurd c_41 (by decide))
            refine j_aload_n hX dX11_group_48 1 rfl ?_
            refine j_get (v := .ref (Q 0)) hX hS.1 rfl wf_X11 1 (by decide) lk_X11_7 (fun _ h => h) rfl dX11_group_49 ?_
            refine j_iload_n hX dX11_group_52 2 rfl ?_
            refine j_ialdN hX (show g (Q 0) = some (aI (xK X) 8 (F 0)) from hS.2.1 0 (by decide)) (vi) (rfl) (hvi) (by decide) dX11_group_53 ?_
            refine j_eqi (y := nI 0) ((hA.free hI hvi).1 hu |>.2) ?_
            refine j_if_le hX 61 dX11_group_54 (by decide) (fun _ => ?_) (fun c_54 => absurd (by decide) c_54)
            refine j_iload hX dX11_group_61 5 rfl ?_
            refine j_if_lt hX 72 dX11_group_63 (by decide) (fun c_63 => ?_) (fun c_63 => ?_)
            · refine j_iconst (v := nI 3) hX dX11_group_72 (by decide) ?_
              refine j_goto hX 77 dX11_group_73 (by decide) ?_
              refine j_put hX hS.1 rfl wf_X11 tyX11_ok nmX11 0 (by decide) lk_X11_56 (fun _ h => h) rfl (tyX11_ok 0 (by decide)) rfl rfl (Nat.le_of_ble_eq_true rfl) dX11_group_77 ?_
              obtain ⟨g1, eg1⟩ : ∃ z : Wd, z = up g m (ob 10 [.int (nI 3), .ref (Q 0), .ref (Q 1), .ref (Q 2), .ref (Q 3), .ref (Q 4), .ref (Q 5), .ref (Q 6), .int (nI Od.length), .ref (Q 7), .ref (Q 8), .ref (Q 9), .ref (Q 10), .ref (Q 11), .ref (Q 12), .ref (Q 13), .int fi, .ref (Q 14)]) := ⟨_, rfl⟩
              refine j_w eg1.symm ?_
              have hS1 : RS (xK X) g1 m Q (nI 3) (nI Od.length) fi F := by rw [eg1]; exact hS.obj _ _ _
              refine j_aload_n hX dX11_group_80 1 rfl ?_
              refine j_get (v := .int (nI 3)) hX hS1.1 rfl wf_X11 0 (by decide) lk_X11_56 (fun _ h => h) rfl dX11_group_81 ?_
              refine j_if_ne hX 138 dX11_group_84 (by decide) (fun _ => ?_) (fun c_84 => absurd c_84 (by decide))
              exact j_vret hX hE dX11_group_138 (⟨rfl, 3, A, Or.inr (Or.inr (Or.inl ⟨rfl, ⟨⟨vi, hvi, rfl⟩, hl9, Or.inl rfl⟩, by rw [vnat_nI (by omega)]; exact hu, hs, rfl⟩)), Q, Od, fi, F, hS1, hA⟩) (by decide) (by decide)
            · refine j_iload hX dX11_group_66 5 rfl ?_
              refine j_iconst (v := nI 3) hX dX11_group_68 (by decide) ?_
              refine j_icmp_le hX 76 dX11_group_69 (by decide) (fun c_69 => absurd c_69 (fun q => hs9 ⟨c_63, q⟩)) (fun _ => ?_)
              refine j_iconst (v := nI 3) hX dX11_group_72 (by decide) ?_
              refine j_goto hX 77 dX11_group_73 (by decide) ?_
              refine j_put hX hS.1 rfl wf_X11 tyX11_ok nmX11 0 (by decide) lk_X11_56 (fun _ h => h) rfl (tyX11_ok 0 (by decide)) rfl rfl (Nat.le_of_ble_eq_true rfl) dX11_group_77 ?_
              obtain ⟨g2, eg2⟩ : ∃ z : Wd, z = up g m (ob 10 [.int (nI 3), .ref (Q 0), .ref (Q 1), .ref (Q 2), .ref (Q 3), .ref (Q 4), .ref (Q 5), .ref (Q 6), .int (nI Od.length), .ref (Q 7), .ref (Q 8), .ref (Q 9), .ref (Q 10), .ref (Q 11), .ref (Q 12), .ref (Q 13), .int fi, .ref (Q 14)]) := ⟨_, rfl⟩
              refine j_w eg2.symm ?_
              have hS2 : RS (xK X) g2 m Q (nI 3) (nI Od.length) fi F := by rw [eg2]; exact hS.obj _ _ _
              refine j_aload_n hX dX11_group_80 1 rfl ?_
              refine j_get (v := .int (nI 3)) hX hS2.1 rfl wf_X11 0 (by decide) lk_X11_56 (fun _ h => h) rfl dX11_group_81 ?_
              refine j_if_ne hX 138 dX11_group_84 (by decide) (fun _ => ?_) (fun c_84 => absurd c_84 (by decide))
              exact j_vret hX hE dX11_group_138 (⟨rfl, 3, A, Or.inr (Or.inr (Or.inl ⟨rfl, ⟨⟨vi, hvi, rfl⟩, hl9, Or.inl rfl⟩, by rw [vnat_nI (by omega)]; exact hu, hs, rfl⟩)), Q, Od, fi, F, hS2, hA⟩) (by decide) (by decide)
      · by_cases hn9 : isC A (nI oi) bY
        · obtain ⟨oi2, bi, hoi2, hbi, hbw, e9, rfl, hwo2⟩ := isC_ok hI hn9
          obtain rfl : oi = oi2 := (nI_eq (by omega) (by omega)).mp e9
          by_cases hu : 0 < aw A vi
          · show J X 0 0 g 0 [(0, .ref m), (1, .int (nI vi)), (2, .int (nI oi)), (3, .int (nI bi)), (4, .int sT), (5, .int (nI ci))] []
            refine j_iload_n hX dX11_group_0 1 rfl ?_
            refine j_callS (As := [.int (nI vi)]) (rest := []) hX (c_X11_isPlace (xl X) (xK X) g (nI vi)) lk_X11_109 wS_X11_isPlace wN_X11 wC_X11_isPlace hd_X11_isPlace rfl (by rw [hL]; decide) (by decide) rfl (Nat.le_of_ble_eq_true rfl) dX11_group_1 (by rw [hR]; decide) (by rw [hR]; decide) jx_no ?_
            rintro _ _ ⟨b9, rfl, hb9, rfl⟩
            obtain rfl : b9 = true := hb9.mpr ⟨vi, hvi, rfl⟩
            clear hb9
            show J X 0 0 g 4 [(0, .ref m), (1, .int (nI vi)), (2, .int (nI oi)), (3, .int (nI bi)), (4, .int sT), (5, .int (nI ci))] [.int (b01 true)]
            refine j_if_eq hX 35 dX11_group_4 (by decide) (fun c_4 => absurd c_4 (by decide)) (fun _ => ?_)
            refine j_aload_n hX dX11_group_7 0 rfl ?_
            refine j_iload_n hX dX11_group_8 2 rfl ?_
            refine j_iload hX dX11_group_9 5 rfl ?_
            refine j_callV (As := [.int (nI oi), .int (nI ci)]) (rest := []) hX (c_X11_isColumn (xl X) (xK X) g m Q th (nI Od.length) fi F hS (nI oi) (nI ci)) hS.1 rfl lk_X11_135 wI_X11_isColumn wV_X11_X11_isColumn wN_X11 wC_X11_isColumn hd_X11_isColumn rfl (by rw [hL]; decide) (by decide) rfl (Nat.le_of_ble_eq_true rfl) dX11_group_11 (by rw [hR]; decide) (by rw [hR]; decide) jx_no ?_
            rintro _ _ ⟨b9, rfl, hb9, rfl⟩
            obtain rfl : b9 = true := hb9.mpr ((hA.isc hI _ _).mpr hl9)
            clear hb9
            show J X 0 0 g 14 [(0, .ref m), (1, .int (nI vi)), (2, .int (nI oi)), (3, .int (nI bi)), (4, .int sT), (5, .int (nI ci))] [.int (b01 true)]
            refine j_if_eq hX 35 dX11_group_14 (by decide) (fun c_14 => absurd c_14 (by decide)) (fun _ => ?_)
            refine j_iload_n hX dX11_group_17 3 rfl ?_
            refine j_iconst (v := (-1)) hX dX11_group_18 (by decide) ?_
            refine j_icmp_eq hX 31 dX11_group_19 (by decide) (fun c_19 => absurd c_19 hb1) (fun _ => ?_)
            refine j_aload_n hX dX11_group_22 0 rfl ?_
            refine j_iload_n hX dX11_group_23 2 rfl ?_
            refine j_iload_n hX dX11_group_24 3 rfl ?_
            refine j_callV (As := [.int (nI oi), .int (nI bi)]) (rest := []) hX (c_X11_isColumn (xl X) (xK X) g m Q th (nI Od.length) fi F hS (nI oi) (nI bi)) hS.1 rfl lk_X11_135 wI_X11_isColumn wV_X11_X11_isColumn wN_X11 wC_X11_isColumn hd_X11_isColumn rfl (by rw [hL]; decide) (by decide) rfl (Nat.le_of_ble_eq_true rfl) dX11_group_25 (by rw [hR]; decide) (by rw [hR]; decide) jx_no ?_
            rintro _ _ ⟨b9, rfl, hb9, rfl⟩
            obtain rfl : b9 = true := hb9.mpr ((hA.isc hI _ _).mpr hn9)
            clear hb9
            show J X 0 0 g 28 [(0, .ref m), (1, .int (nI vi)), (2, .int (nI oi)), (3, .int (nI bi)), (4, .int sT), (5, .int (nI ci))] [.int (b01 true)]
            refine j_if_eq hX 35 dX11_group_28 (by decide) (fun c_28 => absurd c_28 (by decide)) (fun _ => ?_)
            refine j_iconst (v := nI 1) hX dX11_group_31 (by decide) ?_
            refine j_goto hX 36 dX11_group_32 (by decide) ?_
            refine j_istore (lv' := [(6, .int (nI 1)), (0, .ref m), (1, .int (nI vi)), (2, .int (nI oi)), (3, .int (nI bi)), (4, .int sT), (5, .int (nI ci))]) hX dX11_group_36 (by rw [hn]; decide) rfl ?_
            refine j_aload_n hX dX11_group_38 1 rfl ?_
            refine j_iload hX dX11_group_39 0 rfl ?_
            refine j_if_ne hX 48 dX11_group_41 (by decide) (fun _ => ?_) (fun c_41 => absurd c_41 (by decide))
            refine j_aload_n hX dX11_group_48 1 rfl ?_
            refine j_get (v := .ref (Q 0)) hX hS.1 rfl wf_X11 1 (by decide) lk_X11_7 (fun _ h => h) rfl dX11_group_49 ?_
            refine j_iload_n hX dX11_group_52 2 rfl ?_
            refine j_ialdN hX (show g (Q 0) = some (aI (xK X) 8 (F 0)) from hS.2.1 0 (by decide)) (vi) (rfl) (hvi) (by decide) dX11_group_53 ?_
            refine j_if_le hX 61 dX11_group_54 (by decide) (fun c_54 => absurd c_54 (Int32.not_le.mpr ((hA.free hI hvi).2 hu).2)) (fun _ => ?_)
            refine j_iconst (v := nI 2) hX dX11_group_57 (by decide) ?_
            refine j_goto hX 77 dX11_group_58 (by decide) ?_
            refine j_put hX hS.1 rfl wf_X11 tyX11_ok nmX11 0 (by decide) lk_X11_56 (fun _ h => h) rfl (tyX11_ok 0 (by decide)) rfl rfl (Nat.le_of_ble_eq_true rfl) dX11_group_77 ?_
            obtain ⟨g1, eg1⟩ : ∃ z : Wd, z = up g m (ob 10 [.int (nI 2), .ref (Q 0), .ref (Q 1), .ref (Q 2), .ref (Q 3), .ref (Q 4), .ref (Q 5), .ref (Q 6), .int (nI Od.length), .ref (Q 7), .ref (Q 8), .ref (Q 9), .ref (Q 10), .ref (Q 11), .ref (Q 12), .ref (Q 13), .int fi, .ref (Q 14)]) := ⟨_, rfl⟩
            refine j_w eg1.symm ?_
            have hS1 : RS (xK X) g1 m Q (nI 2) (nI Od.length) fi F := by rw [eg1]; exact hS.obj _ _ _
            refine j_aload_n hX dX11_group_80 1 rfl ?_
            refine j_get (v := .int (nI 2)) hX hS1.1 rfl wf_X11 0 (by decide) lk_X11_56 (fun _ h => h) rfl dX11_group_81 ?_
            refine j_if_ne hX 138 dX11_group_84 (by decide) (fun _ => ?_) (fun c_84 => absurd c_84 (by decide))
            exact j_vret hX hE dX11_group_138 (⟨rfl, 2, A, Or.inr (Or.inl ⟨rfl, ⟨⟨vi, hvi, rfl⟩, hl9, Or.inr ⟨bi, by rw [vnat_nI (by omega)]; exact hbw, rfl⟩⟩, by rw [vnat_nI (by omega)]; exact hu, rfl⟩), Q, Od, fi, F, hS1, hA⟩) (by decide) (by decide)
          · by_cases hs : ∃ s, s < 4 ∧ sT = nI s
            · obtain ⟨si, hsi, rfl⟩ := hs
              have hfv := ((hA.free hI hvi).1 hu).1
              have hkl := ((hA.free hI hoi).2 hwo).1
              have hkr := hkl
              show J X 0 0 g 0 [(0, .ref m), (1, .int (nI vi)), (2, .int (nI oi)), (3, .int (nI bi)), (4, .int (nI si)), (5, .int (nI ci))] []
              refine j_iload_n hX dX11_group_0 1 rfl ?_
              refine j_callS (As := [.int (nI vi)]) (rest := []) hX (c_X11_isPlace (xl X) (xK X) g (nI vi)) lk_X11_109 wS_X11_isPlace wN_X11 wC_X11_isPlace hd_X11_isPlace rfl (by rw [hL]; decide) (by decide) rfl (Nat.le_of_ble_eq_true rfl) dX11_group_1 (by rw [hR]; decide) (by rw [hR]; decide) jx_no ?_
              rintro _ _ ⟨b9, rfl, hb9, rfl⟩
              obtain rfl : b9 = true := hb9.mpr ⟨vi, hvi, rfl⟩
              clear hb9
              show J X 0 0 g 4 [(0, .ref m), (1, .int (nI vi)), (2, .int (nI oi)), (3, .int (nI bi)), (4, .int (nI si)), (5, .int (nI ci))] [.int (b01 true)]
              refine j_if_eq hX 35 dX11_group_4 (by decide) (fun c_4 => absurd c_4 (by decide)) (fun _ => ?_)
              refine j_aload_n hX dX11_group_7 0 rfl ?_
              refine j_iload_n hX dX11_group_8 2 rfl ?_
              refine j_iload hX dX11_group_9 5 rfl ?_
              refine j_callV (As := [.int (nI oi), .int (nI ci)]) (rest := []) hX (c_X11_isColumn (xl X) (xK X) g m Q th (nI Od.length) fi F hS (nI oi) (nI ci)) hS.1 rfl lk_X11_135 wI_X11_isColumn wV_X11_X11_isColumn wN_X11 wC_X11_isColumn hd_X11_isColumn rfl (by rw [hL]; decide) (by decide) rfl (Nat.le_of_ble_eq_true rfl) dX11_group_11 (by rw [hR]; decide) (by rw [hR]; decide) jx_no ?_
              rintro _ _ ⟨b9, rfl, hb9, rfl⟩
              obtain rfl : b9 = true := hb9.mpr ((hA.isc hI _ _).mpr hl9)
              clear hb9
              show J X 0 0 g 14 [(0, .ref m), (1, .int (nI vi)), (2, .int (nI oi)), (3, .int (nI bi)), (4, .int (nI si)), (5, .int (nI ci))] [.int (b01 true)]
              refine j_if_eq hX 35 dX11_group_14 (by decide) (fun c_14 => absurd c_14 (by decide)) (fun _ => ?_)
              refine j_iload_n hX dX11_group_17 3 rfl ?_
              refine j_iconst (v := (-1)) hX dX11_group_18 (by decide) ?_
              refine j_icmp_eq hX 31 dX11_group_19 (by decide) (fun c_19 => absurd c_19 hb1) (fun _ => ?_)
              refine j_aload_n hX dX11_group_22 0 rfl ?_
              refine j_iload_n hX dX11_group_23 2 rfl ?_
              refine j_iload_n hX dX11_group_24 3 rfl ?_
              refine j_callV (As := [.int (nI oi), .int (nI bi)]) (rest := []) hX (c_X11_isColumn (xl X) (xK X) g m Q th (nI Od.length) fi F hS (nI oi) (nI bi)) hS.1 rfl lk_X11_135 wI_X11_isColumn wV_X11_X11_isColumn wN_X11 wC_X11_isColumn hd_X11_isColumn rfl (by rw [hL]; decide) (by decide) rfl (Nat.le_of_ble_eq_true rfl) dX11_group_25 (by rw [hR]; decide) (by rw [hR]; decide) jx_no ?_
              rintro _ _ ⟨b9, rfl, hb9, rfl⟩
              obtain rfl : b9 = true := hb9.mpr ((hA.isc hI _ _).mpr hn9)
              clear hb9
              show J X 0 0 g 28 [(0, .ref m), (1, .int (nI vi)), (2, .int (nI oi)), (3, .int (nI bi)), (4, .int (nI si)), (5, .int (nI ci))] [.int (b01 true)]
              refine j_if_eq hX 35 dX11_group_28 (by decide) (fun c_28 => absurd c_28 (by decide)) (fun _ => ?_)
              refine j_iconst (v := nI 1) hX dX11_group_31 (by decide) ?_
              refine j_goto hX 36 dX11_group_32 (by decide) ?_
              refine j_istore (lv' := [(6, .int (nI 1)), (0, .ref m), (1, .int (nI vi)), (2, .int (nI oi)), (3, .int (nI bi)), (4, .int (nI si)), (5, .int (nI ci))]) hX dX11_group_36 (by rw [hn]; decide) rfl ?_
              refine j_aload_n hX dX11_group_38 1 rfl ?_
              refine j_iload hX dX11_group_39 0 rfl ?_
              refine j_if_ne hX 48 dX11_group_41 (by decide) (fun _ => ?_) (fun c_41 => absurd c_41 (by decide))
              refine j_aload_n hX dX11_group_48 1 rfl ?_
              refine j_get (v := .ref (Q 0)) hX hS.1 rfl wf_X11 1 (by decide) lk_X11_7 (fun _ h => h) rfl dX11_group_49 ?_
              refine j_iload_n hX dX11_group_52 2 rfl ?_
              refine j_ialdN hX (show g (Q 0) = some (aI (xK X) 8 (F 0)) from hS.2.1 0 (by decide)) (vi) (rfl) (hvi) (by decide) dX11_group_53 ?_
              refine j_eqi (y := nI 0) ((hA.free hI hvi).1 hu |>.2) ?_
              refine j_if_le hX 61 dX11_group_54 (by decide) (fun _ => ?_) (fun c_54 => absurd (by decide) c_54)
              refine j_iload hX dX11_group_61 5 rfl ?_
              refine j_if_lt hX 72 dX11_group_63 (by decide) (fun c_63 => absurd c_63 (nI_pos (n := si) (by omega))) (fun _ => ?_)
              refine j_iload hX dX11_group_66 5 rfl ?_
              refine j_iconst (v := nI 3) hX dX11_group_68 (by decide) ?_
              refine j_icmp_le hX 76 dX11_group_69 (by decide) (fun _ => ?_) (fun c_69 => absurd (nI_le (a := si) (b := 3) (by omega) (by decide)) c_69)
              refine j_iconst (v := nI 0) hX dX11_group_76 (by decide) ?_
              refine j_put hX hS.1 rfl wf_X11 tyX11_ok nmX11 0 (by decide) lk_X11_56 (fun _ h => h) rfl (tyX11_ok 0 (by decide)) rfl rfl (Nat.le_of_ble_eq_true rfl) dX11_group_77 ?_
              obtain ⟨g1, eg1⟩ : ∃ z : Wd, z = up g m (ob 10 [.int (nI 0), .ref (Q 0), .ref (Q 1), .ref (Q 2), .ref (Q 3), .ref (Q 4), .ref (Q 5), .ref (Q 6), .int (nI Od.length), .ref (Q 7), .ref (Q 8), .ref (Q 9), .ref (Q 10), .ref (Q 11), .ref (Q 12), .ref (Q 13), .int fi, .ref (Q 14)]) := ⟨_, rfl⟩
              refine j_w eg1.symm ?_
              have hS1 : RS (xK X) g1 m Q (nI 0) (nI Od.length) fi F := by rw [eg1]; exact hS.obj _ _ _
              refine j_aload_n hX dX11_group_80 1 rfl ?_
              refine j_get (v := .int (nI 0)) hX hS1.1 rfl wf_X11 0 (by decide) lk_X11_56 (fun _ h => h) rfl dX11_group_81 ?_
              refine j_if_ne hX 138 dX11_group_84 (by decide) (fun c_84 => absurd c_84 (fun q => q (by rfl))) (fun _ => ?_)
              refine j_aload_n hX dX11_group_87 1 rfl ?_
              refine j_get (v := .ref (Q 4)) hX hS1.1 rfl wf_X11 5 (by decide) lk_X11_22 (fun _ h => h) rfl dX11_group_88 ?_
              refine j_iconst (v := nI 4) hX dX11_group_91 (by decide) ?_
              refine j_iload_n hX dX11_group_92 2 rfl ?_
              refine j_imul hX dX11_group_93 ?_
              refine j_eqi (y := nI (4 * vi)) (pk_mul 4 vi) ?_
              refine j_iload_n hX dX11_group_94 4 rfl ?_
              refine j_iastN hX (show g1 (Q 4) = some (aI (xK X) 32 (F 4)) from hS1.2.1 4 (by decide)) (4 * vi) (rfl) (by omega) (by decide) dX11_group_95 ?_
              obtain ⟨g2, eg2⟩ : ∃ z : Wd, z = up g1 (Q 4) (aI (xK X) 32 (upd (F 4) (4 * vi) (nI bi))) := ⟨_, rfl⟩
              refine j_w eg2.symm ?_
              obtain ⟨F2, eF2⟩ : ∃ z, z = fu F 4 (upd (F 4) (4 * vi) (nI bi)) := ⟨_, rfl⟩
              have hS2 : RS (xK X) g2 m Q (nI 0) (nI Od.length) fi F2 := by rw [eg2, eF2]; exact hS1.put 4 (by decide) _
              refine j_aload_n hX dX11_group_96 1 rfl ?_
              refine j_get (v := .ref (Q 4)) hX hS2.1 rfl wf_X11 5 (by decide) lk_X11_22 (fun _ h => h) rfl dX11_group_97 ?_
              refine j_iconst (v := nI 4) hX dX11_group_100 (by decide) ?_
              refine j_iload_n hX dX11_group_101 2 rfl ?_
              refine j_imul hX dX11_group_102 ?_
              refine j_eqi (y := nI (4 * vi)) (pk_mul 4 vi) ?_
              refine j_iconst (v := nI 1) hX dX11_group_103 (by decide) ?_
              refine j_iadd hX dX11_group_104 ?_
              refine j_eqi (y := nI (4 * vi + 1)) (ix4v vi 1) ?_
              refine j_iload hX dX11_group_105 5 rfl ?_
              refine j_iastN hX (show g2 (Q 4) = some (aI (xK X) 32 (F2 4)) from hS2.2.1 4 (by decide)) (4 * vi + 1) (rfl) (by omega) (by decide) dX11_group_107 ?_
              obtain ⟨g3, eg3⟩ : ∃ z : Wd, z = up g2 (Q 4) (aI (xK X) 32 (upd (F2 4) (4 * vi + 1) (nI si))) := ⟨_, rfl⟩
              refine j_w eg3.symm ?_
              obtain ⟨F3, eF3⟩ : ∃ z, z = fu F2 4 (upd (F2 4) (4 * vi + 1) (nI si)) := ⟨_, rfl⟩
              have hS3 : RS (xK X) g3 m Q (nI 0) (nI Od.length) fi F3 := by rw [eg3, eF3]; exact hS2.put 4 (by decide) _
              refine j_aload_n hX dX11_group_108 1 rfl ?_
              refine j_get (v := .ref (Q 4)) hX hS3.1 rfl wf_X11 5 (by decide) lk_X11_22 (fun _ h => h) rfl dX11_group_109 ?_
              refine j_iconst (v := nI 4) hX dX11_group_112 (by decide) ?_
              refine j_iload_n hX dX11_group_113 2 rfl ?_
              refine j_imul hX dX11_group_114 ?_
              refine j_eqi (y := nI (4 * vi)) (pk_mul 4 vi) ?_
              refine j_iconst (v := nI 2) hX dX11_group_115 (by decide) ?_
              refine j_iadd hX dX11_group_116 ?_
              refine j_eqi (y := nI (4 * vi + 2)) (ix4v vi 2) ?_
              refine j_iload hX dX11_group_117 6 rfl ?_
              refine j_iastN hX (show g3 (Q 4) = some (aI (xK X) 32 (F3 4)) from hS3.2.1 4 (by decide)) (4 * vi + 2) (rfl) (by omega) (by decide) dX11_group_119 ?_
              obtain ⟨g4, eg4⟩ : ∃ z : Wd, z = up g3 (Q 4) (aI (xK X) 32 (upd (F3 4) (4 * vi + 2) (nI ci))) := ⟨_, rfl⟩
              refine j_w eg4.symm ?_
              obtain ⟨F4, eF4⟩ : ∃ z, z = fu F3 4 (upd (F3 4) (4 * vi + 2) (nI ci)) := ⟨_, rfl⟩
              have hS4 : RS (xK X) g4 m Q (nI 0) (nI Od.length) fi F4 := by rw [eg4, eF4]; exact hS3.put 4 (by decide) _
              have hA9 : RA A Od F4 := hA.num hfv (fun j h4 h5 => by rw [eF4, fu_n h4, eF3, fu_n h4, eF2, fu_n h4]) (fun i hi => by rw [eF4, fu_s, pk_un (by omega), eF3, fu_s, pk_un (by omega), eF2, fu_s, pk_un (by omega)]) (fun i hi => by rw [eF4, fu_n (by decide), eF3, fu_n (by decide), eF2, fu_n (by decide)])
              refine j_aload_n hX dX11_group_120 1 rfl ?_
              refine j_iload_n hX dX11_group_121 2 rfl ?_
              refine j_bipush (v := nI 8) hX dX11_group_122 (by decide) ?_
              refine j_iload_n hX dX11_group_124 4 rfl ?_
              refine j_if_ge hX 132 dX11_group_125 (by decide) (fun _ => ?_) (fun c_125 => absurd (Int32.not_lt.mp (nI_pos (n := bi) (by omega))) c_125)
              refine j_iconst (v := nI 2) hX dX11_group_132 (by decide) ?_
              refine j_iload_n hX dX11_group_133 3 rfl ?_
              refine j_iconst (v := (-1)) hX dX11_group_134 (by decide) ?_
              refine j_callV (As := [.int (nI vi), .int (nI 8), .int (nI 2), .int (nI oi), .int (-1)]) (rest := []) hX (c_X11_view (xl X) (xK X) g4 m Q (nI 0) fi F4 Od hS4 A hI hA9 vi 8 (2) oi oi (-1) (nC (nI bi) (nI si) (nI ci) 0) false hvi hfv (by decide) hoi hoi hkl hkr (by decide) (by decide) (⟨fun q => absurd q (by unfold isB; omega), fun _ => ⟨rfl, rfl⟩, fun j hj => by rcases (show j = 0 ∨ j = 1 ∨ j = 2 by have : j < 3 := hj; omega) with rfl | rfl | rfl <;> simp [eF2, eF3, eF4, fu, upd, nC], fun q => absurd q (by decide)⟩) (⟨Or.inr ⟨bi, hbi, nC_0 _ _ _ _⟩, ⟨si, by omega, nC_1 _ _ _ _⟩, ⟨ci, hci, nC_2 _ _ _ _⟩⟩) (by show _ = if _ then _ else _; rw [nC_0, if_neg hb1])) hS4.1 rfl lk_X11_138 wI_X11_view wV_X11_X11_view wN_X11 wC_X11_view hd_X11_view rfl (by rw [hL]; decide) (by decide) rfl (Nat.le_of_ble_eq_true rfl) dX11_group_135 (by rw [hR]; decide) (by rw [hR]; decide) jx_no ?_
              rintro _ g9 ⟨rfl, h9⟩
              show J X 0 0 g9 138 [(6, .int (nI 1)), (0, .ref m), (1, .int (nI vi)), (2, .int (nI oi)), (3, .int (nI bi)), (4, .int (nI si)), (5, .int (nI ci))] []
              exact j_vret hX hE dX11_group_138 (⟨rfl, by
  unfold groupO
  rw [vnat_nI (show oi < 2 ^ 31 by omega), if_neg hb1]
  exact view_out (vnat_nI (by omega)) ⟨⟨vi, hvi, rfl⟩, hl9, Or.inr ⟨bi, by rw [vnat_nI (by omega)]; exact hbw, rfl⟩⟩ hu ⟨si, hsi, rfl⟩ h9⟩) (by decide) (by decide)
            · have hs9 : ¬ (¬ sT < 0 ∧ sT ≤ nI 3) := fun q => hs (by obtain ⟨w, _, q2, q3⟩ := i32_rng (a := 0) (b := 3) (by decide) (by decide) (Int32.not_lt.mp q.1) q.2; exact ⟨w, by omega, q3⟩)
              show J X 0 0 g 0 [(0, .ref m), (1, .int (nI vi)), (2, .int (nI oi)), (3, .int (nI bi)), (4, .int sT), (5, .int (nI ci))] []
              refine j_iload_n hX dX11_group_0 1 rfl ?_
              refine j_callS (As := [.int (nI vi)]) (rest := []) hX (c_X11_isPlace (xl X) (xK X) g (nI vi)) lk_X11_109 wS_X11_isPlace wN_X11 wC_X11_isPlace hd_X11_isPlace rfl (by rw [hL]; decide) (by decide) rfl (Nat.le_of_ble_eq_true rfl) dX11_group_1 (by rw [hR]; decide) (by rw [hR]; decide) jx_no ?_
              rintro _ _ ⟨b9, rfl, hb9, rfl⟩
              obtain rfl : b9 = true := hb9.mpr ⟨vi, hvi, rfl⟩
              clear hb9
              show J X 0 0 g 4 [(0, .ref m), (1, .int (nI vi)), (2, .int (nI oi)), (3, .int (nI bi)), (4, .int sT), (5, .int (nI ci))] [.int (b01 true)]
              refine j_if_eq hX 35 dX11_group_4 (by decide) (fun c_4 => absurd c_4 (by decide)) (fun _ => ?_)
              refine j_aload_n hX dX11_group_7 0 rfl ?_
              refine j_iload_n hX dX11_group_8 2 rfl ?_
              refine j_iload hX dX11_group_9 5 rfl ?_
              refine j_callV (As := [.int (nI oi), .int (nI ci)]) (rest := []) hX (c_X11_isColumn (xl X) (xK X) g m Q th (nI Od.length) fi F hS (nI oi) (nI ci)) hS.1 rfl lk_X11_135 wI_X11_isColumn wV_X11_X11_isColumn wN_X11 wC_X11_isColumn hd_X11_isColumn rfl (by rw [hL]; decide) (by decide) rfl (Nat.le_of_ble_eq_true rfl) dX11_group_11 (by rw [hR]; decide) (by rw [hR]; decide) jx_no ?_
              rintro _ _ ⟨b9, rfl, hb9, rfl⟩
              obtain rfl : b9 = true := hb9.mpr ((hA.isc hI _ _).mpr hl9)
              clear hb9
              show J X 0 0 g 14 [(0, .ref m), (1, .int (nI vi)), (2, .int (nI oi)), (3, .int (nI bi)), (4, .int sT), (5, .int (nI ci))] [.int (b01 true)]
              refine j_if_eq hX 35 dX11_group_14 (by decide) (fun c_14 => absurd c_14 (by decide)) (fun _ => ?_)
              refine j_iload_n hX dX11_group_17 3 rfl ?_
              refine j_iconst (v := (-1)) hX dX11_group_18 (by decide) ?_
              refine j_icmp_eq hX 31 dX11_group_19 (by decide) (fun c_19 => absurd c_19 hb1) (fun _ => ?_)
              refine j_aload_n hX dX11_group_22 0 rfl ?_
              refine j_iload_n hX dX11_group_23 2 rfl ?_
              refine j_iload_n hX dX11_group_24 3 rfl ?_
              refine j_callV (As := [.int (nI oi), .int (nI bi)]) (rest := []) hX (c_X11_isColumn (xl X) (xK X) g m Q th (nI Od.length) fi F hS (nI oi) (nI bi)) hS.1 rfl lk_X11_135 wI_X11_isColumn wV_X11_X11_isColumn wN_X11 wC_X11_isColumn hd_X11_isColumn rfl (by rw [hL]; decide) (by decide) rfl (Nat.le_of_ble_eq_true rfl) dX11_group_25 (by rw [hR]; decide) (by rw [hR]; decide) jx_no ?_
              rintro _ _ ⟨b9, rfl, hb9, rfl⟩
              obtain rfl : b9 = true := hb9.mpr ((hA.isc hI _ _).mpr hn9)
              clear hb9
              show J X 0 0 g 28 [(0, .ref m), (1, .int (nI vi)), (2, .int (nI oi)), (3, .int (nI bi)), (4, .int sT), (5, .int (nI ci))] [.int (b01 true)]
              refine j_if_eq hX 35 dX11_group_28 (by decide) (fun c_28 => absurd c_28 (by decide)) (fun _ => ?_)
              refine j_iconst (v := nI 1) hX dX11_group_31 (by decide) ?_
              refine j_goto hX 36 dX11_group_32 (by decide) ?_
              refine j_istore (lv' := [(6, .int (nI 1)), (0, .ref m), (1, .int (nI vi)), (2, .int (nI oi)), (3, .int (nI bi)), (4, .int sT), (5, .int (nI ci))]) hX dX11_group_36 (by rw [hn]; decide) rfl ?_
              refine j_aload_n hX dX11_group_38 1 rfl ?_
              refine j_iload hX dX11_group_39 0 rfl ?_
              refine j_if_ne hX 48 dX11_group_41 (by decide) (fun _ => ?_) (fun c_41 => absurd c_41 (by decide))
              refine j_aload_n hX dX11_group_48 1 rfl ?_
              refine j_get (v := .ref (Q 0)) hX hS.1 rfl wf_X11 1 (by decide) lk_X11_7 (fun _ h => h) rfl dX11_group_49 ?_
              refine j_iload_n hX dX11_group_52 2 rfl ?_
              refine j_ialdN hX (show g (Q 0) = some (aI (xK X) 8 (F 0)) from hS.2.1 0 (by decide)) (vi) (rfl) (hvi) (by decide) dX11_group_53 ?_
              refine j_eqi (y := nI 0) ((hA.free hI hvi).1 hu |>.2) ?_
              refine j_if_le hX 61 dX11_group_54 (by decide) (fun _ => ?_) (fun c_54 => absurd (by decide) c_54)
              refine j_iload hX dX11_group_61 5 rfl ?_
              refine j_if_lt hX 72 dX11_group_63 (by decide) (fun c_63 => ?_) (fun c_63 => ?_)
              · refine j_iconst (v := nI 3) hX dX11_group_72 (by decide) ?_
                refine j_goto hX 77 dX11_group_73 (by decide) ?_
                refine j_put hX hS.1 rfl wf_X11 tyX11_ok nmX11 0 (by decide) lk_X11_56 (fun _ h => h) rfl (tyX11_ok 0 (by decide)) rfl rfl (Nat.le_of_ble_eq_true rfl) dX11_group_77 ?_
                obtain ⟨g1, eg1⟩ : ∃ z : Wd, z = up g m (ob 10 [.int (nI 3), .ref (Q 0), .ref (Q 1), .ref (Q 2), .ref (Q 3), .ref (Q 4), .ref (Q 5), .ref (Q 6), .int (nI Od.length), .ref (Q 7), .ref (Q 8), .ref (Q 9), .ref (Q 10), .ref (Q 11), .ref (Q 12), .ref (Q 13), .int fi, .ref (Q 14)]) := ⟨_, rfl⟩
                refine j_w eg1.symm ?_
                have hS1 : RS (xK X) g1 m Q (nI 3) (nI Od.length) fi F := by rw [eg1]; exact hS.obj _ _ _
                refine j_aload_n hX dX11_group_80 1 rfl ?_
                refine j_get (v := .int (nI 3)) hX hS1.1 rfl wf_X11 0 (by decide) lk_X11_56 (fun _ h => h) rfl dX11_group_81 ?_
                refine j_if_ne hX 138 dX11_group_84 (by decide) (fun _ => ?_) (fun c_84 => absurd c_84 (by decide))
                exact j_vret hX hE dX11_group_138 (⟨rfl, 3, A, Or.inr (Or.inr (Or.inl ⟨rfl, ⟨⟨vi, hvi, rfl⟩, hl9, Or.inr ⟨bi, by rw [vnat_nI (by omega)]; exact hbw, rfl⟩⟩, by rw [vnat_nI (by omega)]; exact hu, hs, rfl⟩)), Q, Od, fi, F, hS1, hA⟩) (by decide) (by decide)
              · refine j_iload hX dX11_group_66 5 rfl ?_
                refine j_iconst (v := nI 3) hX dX11_group_68 (by decide) ?_
                refine j_icmp_le hX 76 dX11_group_69 (by decide) (fun c_69 => absurd c_69 (fun q => hs9 ⟨c_63, q⟩)) (fun _ => ?_)
                refine j_iconst (v := nI 3) hX dX11_group_72 (by decide) ?_
                refine j_goto hX 77 dX11_group_73 (by decide) ?_
                refine j_put hX hS.1 rfl wf_X11 tyX11_ok nmX11 0 (by decide) lk_X11_56 (fun _ h => h) rfl (tyX11_ok 0 (by decide)) rfl rfl (Nat.le_of_ble_eq_true rfl) dX11_group_77 ?_
                obtain ⟨g2, eg2⟩ : ∃ z : Wd, z = up g m (ob 10 [.int (nI 3), .ref (Q 0), .ref (Q 1), .ref (Q 2), .ref (Q 3), .ref (Q 4), .ref (Q 5), .ref (Q 6), .int (nI Od.length), .ref (Q 7), .ref (Q 8), .ref (Q 9), .ref (Q 10), .ref (Q 11), .ref (Q 12), .ref (Q 13), .int fi, .ref (Q 14)]) := ⟨_, rfl⟩
                refine j_w eg2.symm ?_
                have hS2 : RS (xK X) g2 m Q (nI 3) (nI Od.length) fi F := by rw [eg2]; exact hS.obj _ _ _
                refine j_aload_n hX dX11_group_80 1 rfl ?_
                refine j_get (v := .int (nI 3)) hX hS2.1 rfl wf_X11 0 (by decide) lk_X11_56 (fun _ h => h) rfl dX11_group_81 ?_
                refine j_if_ne hX 138 dX11_group_84 (by decide) (fun _ => ?_) (fun c_84 => absurd c_84 (by decide))
                exact j_vret hX hE dX11_group_138 (⟨rfl, 3, A, Or.inr (Or.inr (Or.inl ⟨rfl, ⟨⟨vi, hvi, rfl⟩, hl9, Or.inr ⟨bi, by rw [vnat_nI (by omega)]; exact hbw, rfl⟩⟩, by rw [vnat_nI (by omega)]; exact hu, hs, rfl⟩)), Q, Od, fi, F, hS2, hA⟩) (by decide) (by decide)
        · show J X 0 0 g 0 [(0, .ref m), (1, .int (nI vi)), (2, .int (nI oi)), (3, .int bY), (4, .int sT), (5, .int (nI ci))] []
          refine j_iload_n hX dX11_group_0 1 rfl ?_
          refine j_callS (As := [.int (nI vi)]) (rest := []) hX (c_X11_isPlace (xl X) (xK X) g (nI vi)) lk_X11_109 wS_X11_isPlace wN_X11 wC_X11_isPlace hd_X11_isPlace rfl (by rw [hL]; decide) (by decide) rfl (Nat.le_of_ble_eq_true rfl) dX11_group_1 (by rw [hR]; decide) (by rw [hR]; decide) jx_no ?_
          rintro _ _ ⟨b9, rfl, hb9, rfl⟩
          obtain rfl : b9 = true := hb9.mpr ⟨vi, hvi, rfl⟩
          clear hb9
          show J X 0 0 g 4 [(0, .ref m), (1, .int (nI vi)), (2, .int (nI oi)), (3, .int bY), (4, .int sT), (5, .int (nI ci))] [.int (b01 true)]
          refine j_if_eq hX 35 dX11_group_4 (by decide) (fun c_4 => absurd c_4 (by decide)) (fun _ => ?_)
          refine j_aload_n hX dX11_group_7 0 rfl ?_
          refine j_iload_n hX dX11_group_8 2 rfl ?_
          refine j_iload hX dX11_group_9 5 rfl ?_
          refine j_callV (As := [.int (nI oi), .int (nI ci)]) (rest := []) hX (c_X11_isColumn (xl X) (xK X) g m Q th (nI Od.length) fi F hS (nI oi) (nI ci)) hS.1 rfl lk_X11_135 wI_X11_isColumn wV_X11_X11_isColumn wN_X11 wC_X11_isColumn hd_X11_isColumn rfl (by rw [hL]; decide) (by decide) rfl (Nat.le_of_ble_eq_true rfl) dX11_group_11 (by rw [hR]; decide) (by rw [hR]; decide) jx_no ?_
          rintro _ _ ⟨b9, rfl, hb9, rfl⟩
          obtain rfl : b9 = true := hb9.mpr ((hA.isc hI _ _).mpr hl9)
          clear hb9
          show J X 0 0 g 14 [(0, .ref m), (1, .int (nI vi)), (2, .int (nI oi)), (3, .int bY), (4, .int sT), (5, .int (nI ci))] [.int (b01 true)]
          refine j_if_eq hX 35 dX11_group_14 (by decide) (fun c_14 => absurd c_14 (by decide)) (fun _ => ?_)
          refine j_iload_n hX dX11_group_17 3 rfl ?_
          refine j_iconst (v := (-1)) hX dX11_group_18 (by decide) ?_
          refine j_icmp_eq hX 31 dX11_group_19 (by decide) (fun c_19 => absurd c_19 hb1) (fun _ => ?_)
          refine j_aload_n hX dX11_group_22 0 rfl ?_
          refine j_iload_n hX dX11_group_23 2 rfl ?_
          refine j_iload_n hX dX11_group_24 3 rfl ?_
          refine j_callV (As := [.int (nI oi), .int bY]) (rest := []) hX (c_X11_isColumn (xl X) (xK X) g m Q th (nI Od.length) fi F hS (nI oi) (bY)) hS.1 rfl lk_X11_135 wI_X11_isColumn wV_X11_X11_isColumn wN_X11 wC_X11_isColumn hd_X11_isColumn rfl (by rw [hL]; decide) (by decide) rfl (Nat.le_of_ble_eq_true rfl) dX11_group_25 (by rw [hR]; decide) (by rw [hR]; decide) jx_no ?_
          rintro _ _ ⟨b9, rfl, hb9, rfl⟩
          obtain rfl : b9 = false := Bool.eq_false_iff.mpr (fun q => hn9 ((hA.isc hI _ _).mp (hb9.mp q)))
          clear hb9
          show J X 0 0 g 28 [(0, .ref m), (1, .int (nI vi)), (2, .int (nI oi)), (3, .int bY), (4, .int sT), (5, .int (nI ci))] [.int (b01 false)]
          refine j_if_eq hX 35 dX11_group_28 (by decide) (fun _ => ?_) (fun c_28 => absurd (by decide) c_28)
          refine j_iconst (v := nI 0) hX dX11_group_35 (by decide) ?_
          refine j_istore (lv' := [(6, .int (nI 0)), (0, .ref m), (1, .int (nI vi)), (2, .int (nI oi)), (3, .int bY), (4, .int sT), (5, .int (nI ci))]) hX dX11_group_36 (by rw [hn]; decide) rfl ?_
          refine j_aload_n hX dX11_group_38 1 rfl ?_
          refine j_iload hX dX11_group_39 0 rfl ?_
          refine j_if_ne hX 48 dX11_group_41 (by decide) (fun c_41 => absurd c_41 (fun q => q (by rfl))) (fun _ => ?_)
          refine j_iconst (v := nI 1) hX dX11_group_44 (by decide) ?_
          refine j_goto hX 77 dX11_group_45 (by decide) ?_
          refine j_put hX hS.1 rfl wf_X11 tyX11_ok nmX11 0 (by decide) lk_X11_56 (fun _ h => h) rfl (tyX11_ok 0 (by decide)) rfl rfl (Nat.le_of_ble_eq_true rfl) dX11_group_77 ?_
          obtain ⟨g1, eg1⟩ : ∃ z : Wd, z = up g m (ob 10 [.int (nI 1), .ref (Q 0), .ref (Q 1), .ref (Q 2), .ref (Q 3), .ref (Q 4), .ref (Q 5), .ref (Q 6), .int (nI Od.length), .ref (Q 7), .ref (Q 8), .ref (Q 9), .ref (Q 10), .ref (Q 11), .ref (Q 12), .ref (Q 13), .int fi, .ref (Q 14)]) := ⟨_, rfl⟩
          refine j_w eg1.symm ?_
          have hS1 : RS (xK X) g1 m Q (nI 1) (nI Od.length) fi F := by rw [eg1]; exact hS.obj _ _ _
          refine j_aload_n hX dX11_group_80 1 rfl ?_
          refine j_get (v := .int (nI 1)) hX hS1.1 rfl wf_X11 0 (by decide) lk_X11_56 (fun _ h => h) rfl dX11_group_81 ?_
          refine j_if_ne hX 138 dX11_group_84 (by decide) (fun _ => ?_) (fun c_84 => absurd c_84 (by decide))
          exact j_vret hX hE dX11_group_138 (⟨rfl, 1, A, Or.inl ⟨rfl, fun q => hn9 ⟨hl9.1, q.2.2.resolve_left hb1⟩, rfl⟩, Q, Od, fi, F, hS1, hA⟩) (by decide) (by decide)
    · show J X 0 0 g 0 [(0, .ref m), (1, .int (nI vi)), (2, .int ofr), (3, .int bY), (4, .int sT), (5, .int c)] []
      refine j_iload_n hX dX11_group_0 1 rfl ?_
      refine j_callS (As := [.int (nI vi)]) (rest := []) hX (c_X11_isPlace (xl X) (xK X) g (nI vi)) lk_X11_109 wS_X11_isPlace wN_X11 wC_X11_isPlace hd_X11_isPlace rfl (by rw [hL]; decide) (by decide) rfl (Nat.le_of_ble_eq_true rfl) dX11_group_1 (by rw [hR]; decide) (by rw [hR]; decide) jx_no ?_
      rintro _ _ ⟨b9, rfl, hb9, rfl⟩
      obtain rfl : b9 = true := hb9.mpr ⟨vi, hvi, rfl⟩
      clear hb9
      show J X 0 0 g 4 [(0, .ref m), (1, .int (nI vi)), (2, .int ofr), (3, .int bY), (4, .int sT), (5, .int c)] [.int (b01 true)]
      refine j_if_eq hX 35 dX11_group_4 (by decide) (fun c_4 => absurd c_4 (by decide)) (fun _ => ?_)
      refine j_aload_n hX dX11_group_7 0 rfl ?_
      refine j_iload_n hX dX11_group_8 2 rfl ?_
      refine j_iload hX dX11_group_9 5 rfl ?_
      refine j_callV (As := [.int ofr, .int c]) (rest := []) hX (c_X11_isColumn (xl X) (xK X) g m Q th (nI Od.length) fi F hS (ofr) (c)) hS.1 rfl lk_X11_135 wI_X11_isColumn wV_X11_X11_isColumn wN_X11 wC_X11_isColumn hd_X11_isColumn rfl (by rw [hL]; decide) (by decide) rfl (Nat.le_of_ble_eq_true rfl) dX11_group_11 (by rw [hR]; decide) (by rw [hR]; decide) jx_no ?_
      rintro _ _ ⟨b9, rfl, hb9, rfl⟩
      obtain rfl : b9 = false := Bool.eq_false_iff.mpr (fun q => hl9 ((hA.isc hI _ _).mp (hb9.mp q)))
      clear hb9
      show J X 0 0 g 14 [(0, .ref m), (1, .int (nI vi)), (2, .int ofr), (3, .int bY), (4, .int sT), (5, .int c)] [.int (b01 false)]
      refine j_if_eq hX 35 dX11_group_14 (by decide) (fun _ => ?_) (fun c_14 => absurd (by decide) c_14)
      refine j_iconst (v := nI 0) hX dX11_group_35 (by decide) ?_
      refine j_istore (lv' := [(6, .int (nI 0)), (0, .ref m), (1, .int (nI vi)), (2, .int ofr), (3, .int bY), (4, .int sT), (5, .int c)]) hX dX11_group_36 (by rw [hn]; decide) rfl ?_
      refine j_aload_n hX dX11_group_38 1 rfl ?_
      refine j_iload hX dX11_group_39 0 rfl ?_
      refine j_if_ne hX 48 dX11_group_41 (by decide) (fun c_41 => absurd c_41 (fun q => q (by rfl))) (fun _ => ?_)
      refine j_iconst (v := nI 1) hX dX11_group_44 (by decide) ?_
      refine j_goto hX 77 dX11_group_45 (by decide) ?_
      refine j_put hX hS.1 rfl wf_X11 tyX11_ok nmX11 0 (by decide) lk_X11_56 (fun _ h => h) rfl (tyX11_ok 0 (by decide)) rfl rfl (Nat.le_of_ble_eq_true rfl) dX11_group_77 ?_
      obtain ⟨g1, eg1⟩ : ∃ z : Wd, z = up g m (ob 10 [.int (nI 1), .ref (Q 0), .ref (Q 1), .ref (Q 2), .ref (Q 3), .ref (Q 4), .ref (Q 5), .ref (Q 6), .int (nI Od.length), .ref (Q 7), .ref (Q 8), .ref (Q 9), .ref (Q 10), .ref (Q 11), .ref (Q 12), .ref (Q 13), .int fi, .ref (Q 14)]) := ⟨_, rfl⟩
      refine j_w eg1.symm ?_
      have hS1 : RS (xK X) g1 m Q (nI 1) (nI Od.length) fi F := by rw [eg1]; exact hS.obj _ _ _
      refine j_aload_n hX dX11_group_80 1 rfl ?_
      refine j_get (v := .int (nI 1)) hX hS1.1 rfl wf_X11 0 (by decide) lk_X11_56 (fun _ h => h) rfl dX11_group_81 ?_
      refine j_if_ne hX 138 dX11_group_84 (by decide) (fun _ => ?_) (fun c_84 => absurd c_84 (by decide))
      exact j_vret hX hE dX11_group_138 (⟨rfl, 1, A, Or.inl ⟨rfl, fun q => hl9 q.2.1, rfl⟩, Q, Od, fi, F, hS1, hA⟩) (by decide) (by decide)
  · show J X 0 0 g 0 [(0, .ref m), (1, .int v), (2, .int ofr), (3, .int bY), (4, .int sT), (5, .int c)] []
    refine j_iload_n hX dX11_group_0 1 rfl ?_
    refine j_callS (As := [.int v]) (rest := []) hX (c_X11_isPlace (xl X) (xK X) g (v)) lk_X11_109 wS_X11_isPlace wN_X11 wC_X11_isPlace hd_X11_isPlace rfl (by rw [hL]; decide) (by decide) rfl (Nat.le_of_ble_eq_true rfl) dX11_group_1 (by rw [hR]; decide) (by rw [hR]; decide) jx_no ?_
    rintro _ _ ⟨b9, rfl, hb9, rfl⟩
    obtain rfl : b9 = false := Bool.eq_false_iff.mpr (fun q => hP (hb9.mp q))
    clear hb9
    show J X 0 0 g 4 [(0, .ref m), (1, .int v), (2, .int ofr), (3, .int bY), (4, .int sT), (5, .int c)] [.int (b01 false)]
    refine j_if_eq hX 35 dX11_group_4 (by decide) (fun _ => ?_) (fun c_4 => absurd (by decide) c_4)
    refine j_iconst (v := nI 0) hX dX11_group_35 (by decide) ?_
    refine j_istore (lv' := [(6, .int (nI 0)), (0, .ref m), (1, .int v), (2, .int ofr), (3, .int bY), (4, .int sT), (5, .int c)]) hX dX11_group_36 (by rw [hn]; decide) rfl ?_
    refine j_aload_n hX dX11_group_38 1 rfl ?_
    refine j_iload hX dX11_group_39 0 rfl ?_
    refine j_if_ne hX 48 dX11_group_41 (by decide) (fun c_41 => absurd c_41 (fun q => q (by rfl))) (fun _ => ?_)
    refine j_iconst (v := nI 1) hX dX11_group_44 (by decide) ?_
    refine j_goto hX 77 dX11_group_45 (by decide) ?_
    refine j_put hX hS.1 rfl wf_X11 tyX11_ok nmX11 0 (by decide) lk_X11_56 (fun _ h => h) rfl (tyX11_ok 0 (by decide)) rfl rfl (Nat.le_of_ble_eq_true rfl) dX11_group_77 ?_
    obtain ⟨g1, eg1⟩ : ∃ z : Wd, z = up g m (ob 10 [.int (nI 1), .ref (Q 0), .ref (Q 1), .ref (Q 2), .ref (Q 3), .ref (Q 4), .ref (Q 5), .ref (Q 6), .int (nI Od.length), .ref (Q 7), .ref (Q 8), .ref (Q 9), .ref (Q 10), .ref (Q 11), .ref (Q 12), .ref (Q 13), .int fi, .ref (Q 14)]) := ⟨_, rfl⟩
    refine j_w eg1.symm ?_
    have hS1 : RS (xK X) g1 m Q (nI 1) (nI Od.length) fi F := by rw [eg1]; exact hS.obj _ _ _
    refine j_aload_n hX dX11_group_80 1 rfl ?_
    refine j_get (v := .int (nI 1)) hX hS1.1 rfl wf_X11 0 (by decide) lk_X11_56 (fun _ h => h) rfl dX11_group_81 ?_
    refine j_if_ne hX 138 dX11_group_84 (by decide) (fun _ => ?_) (fun c_84 => absurd c_84 (by decide))
    exact j_vret hX hE dX11_group_138 (⟨rfl, 1, A, Or.inl ⟨rfl, fun q => hP q.1, rfl⟩, Q, Od, fi, F, hS1, hA⟩) (by decide) (by decide)

set_option maxRecDepth 20000 in
set_option maxHeartbeats 1600000 in
/-- c_X11_select -/
theorem c_X11_select (l : Launch) (K : Cst) (g : Wd) (m : Nat) (Q : Nat → Nat) (th fi : Int32) (F : Nat → Nat → Int32) (Od : List Nat) (hS : RS K g m Q th (nI Od.length) fi F) (A : Ab) (hI : Inv A) (hA : RA A Od F) (v ofr c cm tH : Int32) (ot : Bool) : Ct l K yX11_select cX11_select 8 none 5 [.ref m, .int v, .int ofr, .int c, .int cm, .int tH, .int (b01 ot)] g (RPo K m (selO A v ofr c cm tH ot)) (fun _ _ => False) 0 0 := by
  refine ct_of (by decide) (Nat.le_of_ble_eq_true rfl) ?_
  intro X hl hK hX hE hn hL hR hm
  subst hl; subst hK
  show J X 0 0 g 0 [(0, .ref m), (1, .int v), (2, .int ofr), (3, .int c), (4, .int cm), (5, .int tH), (6, .int (b01 ot))] []
  by_cases hP : P8 v
  · obtain ⟨vi, hvi, rfl⟩ := hP
    by_cases hl9 : isC A ofr c
    · obtain ⟨oi, ci, hoi, hci, hcw, rfl, rfl, hwo⟩ := isC_ok hI hl9
      have h4o := (hI oi hoi).1.1
      cases ot with
      | false =>
        by_cases hu : 0 < aw A vi
        · show J X 0 0 g 0 [(0, .ref m), (1, .int (nI vi)), (2, .int (nI oi)), (3, .int (nI ci)), (4, .int cm), (5, .int tH), (6, .int (b01 false))] []
          refine j_iload_n hX dX11_select_0 1 rfl ?_
          refine j_callS (As := [.int (nI vi)]) (rest := []) hX (c_X11_isPlace (xl X) (xK X) g (nI vi)) lk_X11_109 wS_X11_isPlace wN_X11 wC_X11_isPlace hd_X11_isPlace rfl (by rw [hL]; decide) (by decide) rfl (Nat.le_of_ble_eq_true rfl) dX11_select_1 (by rw [hR]; decide) (by rw [hR]; decide) jx_no ?_
          rintro _ _ ⟨b9, rfl, hb9, rfl⟩
          obtain rfl : b9 = true := hb9.mpr ⟨vi, hvi, rfl⟩
          clear hb9
          show J X 0 0 g 4 [(0, .ref m), (1, .int (nI vi)), (2, .int (nI oi)), (3, .int (nI ci)), (4, .int cm), (5, .int tH), (6, .int (b01 false))] [.int (b01 true)]
          refine j_if_eq hX 35 dX11_select_4 (by decide) (fun c_4 => absurd c_4 (by decide)) (fun _ => ?_)
          refine j_aload_n hX dX11_select_7 0 rfl ?_
          refine j_iload_n hX dX11_select_8 2 rfl ?_
          refine j_iload_n hX dX11_select_9 3 rfl ?_
          refine j_callV (As := [.int (nI oi), .int (nI ci)]) (rest := []) hX (c_X11_isColumn (xl X) (xK X) g m Q th (nI Od.length) fi F hS (nI oi) (nI ci)) hS.1 rfl lk_X11_135 wI_X11_isColumn wV_X11_X11_isColumn wN_X11 wC_X11_isColumn hd_X11_isColumn rfl (by rw [hL]; decide) (by decide) rfl (Nat.le_of_ble_eq_true rfl) dX11_select_10 (by rw [hR]; decide) (by rw [hR]; decide) jx_no ?_
          rintro _ _ ⟨b9, rfl, hb9, rfl⟩
          obtain rfl : b9 = true := hb9.mpr ((hA.isc hI _ _).mpr hl9)
          clear hb9
          show J X 0 0 g 13 [(0, .ref m), (1, .int (nI vi)), (2, .int (nI oi)), (3, .int (nI ci)), (4, .int cm), (5, .int tH), (6, .int (b01 false))] [.int (b01 true)]
          refine j_if_eq hX 35 dX11_select_13 (by decide) (fun c_13 => absurd c_13 (by decide)) (fun _ => ?_)
          refine j_iload hX dX11_select_16 6 rfl ?_
          refine j_if_eq hX 31 dX11_select_18 (by decide) (fun _ => ?_) (fun c_18 => absurd (by decide) c_18)
          refine j_iconst (v := nI 1) hX dX11_select_31 (by decide) ?_
          refine j_goto hX 36 dX11_select_32 (by decide) ?_
          refine j_istore (lv' := [(7, .int (nI 1)), (0, .ref m), (1, .int (nI vi)), (2, .int (nI oi)), (3, .int (nI ci)), (4, .int cm), (5, .int tH), (6, .int (b01 false))]) hX dX11_select_36 (by rw [hn]; decide) rfl ?_
          refine j_aload_n hX dX11_select_38 1 rfl ?_
          refine j_iload hX dX11_select_39 0 rfl ?_
          refine j_if_ne hX 48 dX11_select_41 (by decide) (fun _ => ?_) (fun c_41 => absurd c_41 (by decide))
          refine j_aload_n hX dX11_select_48 1 rfl ?_
          refine j_get (v := .ref (Q 0)) hX hS.1 rfl wf_X11 1 (by decide) lk_X11_7 (fun _ h => h) rfl dX11_select_49 ?_
          refine j_iload_n hX dX11_select_52 2 rfl ?_
          refine j_ialdN hX (show g (Q 0) = some (aI (xK X) 8 (F 0)) from hS.2.1 0 (by decide)) (vi) (rfl) (hvi) (by decide) dX11_select_53 ?_
          refine j_if_le hX 61 dX11_select_54 (by decide) (fun c_54 => absurd c_54 (Int32.not_le.mpr ((hA.free hI hvi).2 hu).2)) (fun _ => ?_)
          refine j_iconst (v := nI 2) hX dX11_select_57 (by decide) ?_
          refine j_goto hX 77 dX11_select_58 (by decide) ?_
          refine j_put hX hS.1 rfl wf_X11 tyX11_ok nmX11 0 (by decide) lk_X11_56 (fun _ h => h) rfl (tyX11_ok 0 (by decide)) rfl rfl (Nat.le_of_ble_eq_true rfl) dX11_select_77 ?_
          obtain ⟨g1, eg1⟩ : ∃ z : Wd, z = up g m (ob 10 [.int (nI 2), .ref (Q 0), .ref (Q 1), .ref (Q 2), .ref (Q 3), .ref (Q 4), .ref (Q 5), .ref (Q 6), .int (nI Od.length), .ref (Q 7), .ref (Q 8), .ref (Q 9), .ref (Q 10), .ref (Q 11), .ref (Q 12), .ref (Q 13), .int fi, .ref (Q 14)]) := ⟨_, rfl⟩
          refine j_w eg1.symm ?_
          have hS1 : RS (xK X) g1 m Q (nI 2) (nI Od.length) fi F := by rw [eg1]; exact hS.obj _ _ _
          refine j_aload_n hX dX11_select_80 1 rfl ?_
          refine j_get (v := .int (nI 2)) hX hS1.1 rfl wf_X11 0 (by decide) lk_X11_56 (fun _ h => h) rfl dX11_select_81 ?_
          refine j_if_ne hX 142 dX11_select_84 (by decide) (fun _ => ?_) (fun c_84 => absurd c_84 (by decide))
          exact j_vret hX hE dX11_select_142 (⟨rfl, 2, A, Or.inr (Or.inl ⟨rfl, ⟨⟨vi, hvi, rfl⟩, hl9, fun q => absurd q (by decide)⟩, by rw [vnat_nI (by omega)]; exact hu, rfl⟩), Q, Od, fi, F, hS1, hA⟩) (by decide) (by decide)
        · by_cases hs : ∃ s, s < 6 ∧ cm = nI s
          · obtain ⟨si, hsi, rfl⟩ := hs
            have hfv := ((hA.free hI hvi).1 hu).1
            have hkl := ((hA.free hI hoi).2 hwo).1
            have hkr := hkl
            show J X 0 0 g 0 [(0, .ref m), (1, .int (nI vi)), (2, .int (nI oi)), (3, .int (nI ci)), (4, .int (nI si)), (5, .int tH), (6, .int (b01 false))] []
            refine j_iload_n hX dX11_select_0 1 rfl ?_
            refine j_callS (As := [.int (nI vi)]) (rest := []) hX (c_X11_isPlace (xl X) (xK X) g (nI vi)) lk_X11_109 wS_X11_isPlace wN_X11 wC_X11_isPlace hd_X11_isPlace rfl (by rw [hL]; decide) (by decide) rfl (Nat.le_of_ble_eq_true rfl) dX11_select_1 (by rw [hR]; decide) (by rw [hR]; decide) jx_no ?_
            rintro _ _ ⟨b9, rfl, hb9, rfl⟩
            obtain rfl : b9 = true := hb9.mpr ⟨vi, hvi, rfl⟩
            clear hb9
            show J X 0 0 g 4 [(0, .ref m), (1, .int (nI vi)), (2, .int (nI oi)), (3, .int (nI ci)), (4, .int (nI si)), (5, .int tH), (6, .int (b01 false))] [.int (b01 true)]
            refine j_if_eq hX 35 dX11_select_4 (by decide) (fun c_4 => absurd c_4 (by decide)) (fun _ => ?_)
            refine j_aload_n hX dX11_select_7 0 rfl ?_
            refine j_iload_n hX dX11_select_8 2 rfl ?_
            refine j_iload_n hX dX11_select_9 3 rfl ?_
            refine j_callV (As := [.int (nI oi), .int (nI ci)]) (rest := []) hX (c_X11_isColumn (xl X) (xK X) g m Q th (nI Od.length) fi F hS (nI oi) (nI ci)) hS.1 rfl lk_X11_135 wI_X11_isColumn wV_X11_X11_isColumn wN_X11 wC_X11_isColumn hd_X11_isColumn rfl (by rw [hL]; decide) (by decide) rfl (Nat.le_of_ble_eq_true rfl) dX11_select_10 (by rw [hR]; decide) (by rw [hR]; decide) jx_no ?_
            rintro _ _ ⟨b9, rfl, hb9, rfl⟩
            obtain rfl : b9 = true := hb9.mpr ((hA.isc hI _ _).mpr hl9)
            clear hb9
            show J X 0 0 g 13 [(0, .ref m), (1, .int (nI vi)), (2, .int (nI oi)), (3, .int (nI ci)), (4, .int (nI si)), (5, .int tH), (6, .int (b01 false))] [.int (b01 true)]
            refine j_if_eq hX 35 dX11_select_13 (by decide) (fun c_13 => absurd c_13 (by decide)) (fun _ => ?_)
            refine j_iload hX dX11_select_16 6 rfl ?_
            refine j_if_eq hX 31 dX11_select_18 (by decide) (fun _ => ?_) (fun c_18 => absurd (by decide) c_18)
            refine j_iconst (v := nI 1) hX dX11_select_31 (by decide) ?_
            refine j_goto hX 36 dX11_select_32 (by decide) ?_
            refine j_istore (lv' := [(7, .int (nI 1)), (0, .ref m), (1, .int (nI vi)), (2, .int (nI oi)), (3, .int (nI ci)), (4, .int (nI si)), (5, .int tH), (6, .int (b01 false))]) hX dX11_select_36 (by rw [hn]; decide) rfl ?_
            refine j_aload_n hX dX11_select_38 1 rfl ?_
            refine j_iload hX dX11_select_39 0 rfl ?_
            refine j_if_ne hX 48 dX11_select_41 (by decide) (fun _ => ?_) (fun c_41 => absurd c_41 (by decide))
            refine j_aload_n hX dX11_select_48 1 rfl ?_
            refine j_get (v := .ref (Q 0)) hX hS.1 rfl wf_X11 1 (by decide) lk_X11_7 (fun _ h => h) rfl dX11_select_49 ?_
            refine j_iload_n hX dX11_select_52 2 rfl ?_
            refine j_ialdN hX (show g (Q 0) = some (aI (xK X) 8 (F 0)) from hS.2.1 0 (by decide)) (vi) (rfl) (hvi) (by decide) dX11_select_53 ?_
            refine j_eqi (y := nI 0) ((hA.free hI hvi).1 hu |>.2) ?_
            refine j_if_le hX 61 dX11_select_54 (by decide) (fun _ => ?_) (fun c_54 => absurd (by decide) c_54)
            refine j_iload hX dX11_select_61 5 rfl ?_
            refine j_if_lt hX 72 dX11_select_63 (by decide) (fun c_63 => absurd c_63 (nI_pos (n := si) (by omega))) (fun _ => ?_)
            refine j_iload hX dX11_select_66 5 rfl ?_
            refine j_iconst (v := nI 5) hX dX11_select_68 (by decide) ?_
            refine j_icmp_le hX 76 dX11_select_69 (by decide) (fun _ => ?_) (fun c_69 => absurd (nI_le (a := si) (b := 5) (by omega) (by decide)) c_69)
            refine j_iconst (v := nI 0) hX dX11_select_76 (by decide) ?_
            refine j_put hX hS.1 rfl wf_X11 tyX11_ok nmX11 0 (by decide) lk_X11_56 (fun _ h => h) rfl (tyX11_ok 0 (by decide)) rfl rfl (Nat.le_of_ble_eq_true rfl) dX11_select_77 ?_
            obtain ⟨g1, eg1⟩ : ∃ z : Wd, z = up g m (ob 10 [.int (nI 0), .ref (Q 0), .ref (Q 1), .ref (Q 2), .ref (Q 3), .ref (Q 4), .ref (Q 5), .ref (Q 6), .int (nI Od.length), .ref (Q 7), .ref (Q 8), .ref (Q 9), .ref (Q 10), .ref (Q 11), .ref (Q 12), .ref (Q 13), .int fi, .ref (Q 14)]) := ⟨_, rfl⟩
            refine j_w eg1.symm ?_
            have hS1 : RS (xK X) g1 m Q (nI 0) (nI Od.length) fi F := by rw [eg1]; exact hS.obj _ _ _
            refine j_aload_n hX dX11_select_80 1 rfl ?_
            refine j_get (v := .int (nI 0)) hX hS1.1 rfl wf_X11 0 (by decide) lk_X11_56 (fun _ h => h) rfl dX11_select_81 ?_
            refine j_if_ne hX 142 dX11_select_84 (by decide) (fun c_84 => absurd c_84 (fun q => q (by rfl))) (fun _ => ?_)
            refine j_aload_n hX dX11_select_87 1 rfl ?_
            refine j_get (v := .ref (Q 4)) hX hS1.1 rfl wf_X11 5 (by decide) lk_X11_22 (fun _ h => h) rfl dX11_select_88 ?_
            refine j_iconst (v := nI 4) hX dX11_select_91 (by decide) ?_
            refine j_iload_n hX dX11_select_92 2 rfl ?_
            refine j_imul hX dX11_select_93 ?_
            refine j_eqi (y := nI (4 * vi)) (pk_mul 4 vi) ?_
            refine j_iload_n hX dX11_select_94 4 rfl ?_
            refine j_iastN hX (show g1 (Q 4) = some (aI (xK X) 32 (F 4)) from hS1.2.1 4 (by decide)) (4 * vi) (rfl) (by omega) (by decide) dX11_select_95 ?_
            obtain ⟨g2, eg2⟩ : ∃ z : Wd, z = up g1 (Q 4) (aI (xK X) 32 (upd (F 4) (4 * vi) (nI ci))) := ⟨_, rfl⟩
            refine j_w eg2.symm ?_
            obtain ⟨F2, eF2⟩ : ∃ z, z = fu F 4 (upd (F 4) (4 * vi) (nI ci)) := ⟨_, rfl⟩
            have hS2 : RS (xK X) g2 m Q (nI 0) (nI Od.length) fi F2 := by rw [eg2, eF2]; exact hS1.put 4 (by decide) _
            refine j_aload_n hX dX11_select_96 1 rfl ?_
            refine j_get (v := .ref (Q 4)) hX hS2.1 rfl wf_X11 5 (by decide) lk_X11_22 (fun _ h => h) rfl dX11_select_97 ?_
            refine j_iconst (v := nI 4) hX dX11_select_100 (by decide) ?_
            refine j_iload_n hX dX11_select_101 2 rfl ?_
            refine j_imul hX dX11_select_102 ?_
            refine j_eqi (y := nI (4 * vi)) (pk_mul 4 vi) ?_
            refine j_iconst (v := nI 1) hX dX11_select_103 (by decide) ?_
            refine j_iadd hX dX11_select_104 ?_
            refine j_eqi (y := nI (4 * vi + 1)) (ix4v vi 1) ?_
            refine j_iload hX dX11_select_105 5 rfl ?_
            refine j_iastN hX (show g2 (Q 4) = some (aI (xK X) 32 (F2 4)) from hS2.2.1 4 (by decide)) (4 * vi + 1) (rfl) (by omega) (by decide) dX11_select_107 ?_
            obtain ⟨g3, eg3⟩ : ∃ z : Wd, z = up g2 (Q 4) (aI (xK X) 32 (upd (F2 4) (4 * vi + 1) (nI si))) := ⟨_, rfl⟩
            refine j_w eg3.symm ?_
            obtain ⟨F3, eF3⟩ : ∃ z, z = fu F2 4 (upd (F2 4) (4 * vi + 1) (nI si)) := ⟨_, rfl⟩
            have hS3 : RS (xK X) g3 m Q (nI 0) (nI Od.length) fi F3 := by rw [eg3, eF3]; exact hS2.put 4 (by decide) _
            refine j_aload_n hX dX11_select_108 1 rfl ?_
            refine j_get (v := .ref (Q 4)) hX hS3.1 rfl wf_X11 5 (by decide) lk_X11_22 (fun _ h => h) rfl dX11_select_109 ?_
            refine j_iconst (v := nI 4) hX dX11_select_112 (by decide) ?_
            refine j_iload_n hX dX11_select_113 2 rfl ?_
            refine j_imul hX dX11_select_114 ?_
            refine j_eqi (y := nI (4 * vi)) (pk_mul 4 vi) ?_
            refine j_iconst (v := nI 2) hX dX11_select_115 (by decide) ?_
            refine j_iadd hX dX11_select_116 ?_
            refine j_eqi (y := nI (4 * vi + 2)) (ix4v vi 2) ?_
            refine j_iload hX dX11_select_117 6 rfl ?_
            refine j_iastN hX (show g3 (Q 4) = some (aI (xK X) 32 (F3 4)) from hS3.2.1 4 (by decide)) (4 * vi + 2) (rfl) (by omega) (by decide) dX11_select_119 ?_
            obtain ⟨g4, eg4⟩ : ∃ z : Wd, z = up g3 (Q 4) (aI (xK X) 32 (upd (F3 4) (4 * vi + 2) tH)) := ⟨_, rfl⟩
            refine j_w eg4.symm ?_
            obtain ⟨F4, eF4⟩ : ∃ z, z = fu F3 4 (upd (F3 4) (4 * vi + 2) tH) := ⟨_, rfl⟩
            have hS4 : RS (xK X) g4 m Q (nI 0) (nI Od.length) fi F4 := by rw [eg4, eF4]; exact hS3.put 4 (by decide) _
            refine j_aload_n hX dX11_select_120 1 rfl ?_
            refine j_get (v := .ref (Q 5)) hX hS4.1 rfl wf_X11 6 (by decide) lk_X11_25 (fun _ h => h) rfl dX11_select_121 ?_
            refine j_iload_n hX dX11_select_124 2 rfl ?_
            refine j_iload hX dX11_select_125 7 rfl ?_
            refine j_zastN (b := false) hX (show g4 (Q 5) = some (aZ (xK X) 8 (F4 5)) from hS4.2.1 5 (by decide)) (vi) (rfl) (hvi) (by decide) dX11_select_127 ?_
            obtain ⟨g5, eg5⟩ : ∃ z : Wd, z = up g4 (Q 5) (aZ (xK X) 8 (upd (F4 5) (vi) (b01 false))) := ⟨_, rfl⟩
            refine j_w eg5.symm ?_
            obtain ⟨F5, eF5⟩ : ∃ z, z = fu F4 5 (upd (F4 5) (vi) (b01 false)) := ⟨_, rfl⟩
            have hS5 : RS (xK X) g5 m Q (nI 0) (nI Od.length) fi F5 := by rw [eg5, eF5]; exact hS4.put 5 (by decide) _
            have hA9 : RA A Od F5 := hA.num hfv (fun j h4 h5 => by rw [eF5, fu_n h5, eF4, fu_n h4, eF3, fu_n h4, eF2, fu_n h4]) (fun i hi => by rw [eF5, fu_n (by decide), eF4, fu_s, pk_un (by omega), eF3, fu_s, pk_un (by omega), eF2, fu_s, pk_un (by omega)]) (fun i hi => by rw [eF5, fu_s, pk_un hi, eF4, fu_n (by decide), eF3, fu_n (by decide), eF2, fu_n (by decide)])
            refine j_aload_n hX dX11_select_128 1 rfl ?_
            refine j_iload_n hX dX11_select_129 2 rfl ?_
            refine j_iconst (v := nI 2) hX dX11_select_130 (by decide) ?_
            refine j_aload_n hX dX11_select_131 1 rfl ?_
            refine j_get (v := .ref (Q 1)) hX hS5.1 rfl wf_X11 2 (by decide) lk_X11_13 (fun _ h => h) rfl dX11_select_132 ?_
            refine j_iload_n hX dX11_select_135 3 rfl ?_
            refine j_ialdN hX (show g5 (Q 1) = some (aI (xK X) 8 (F5 1)) from hS5.2.1 1 (by decide)) (oi) (rfl) (hoi) (by decide) dX11_select_136 ?_
            refine j_eqi (y := nI (aw A oi)) ((hA9.2.2 oi hoi).1.2) ?_
            refine j_iload_n hX dX11_select_137 3 rfl ?_
            refine j_iconst (v := (-1)) hX dX11_select_138 (by decide) ?_
            refine j_callV (As := [.int (nI vi), .int (nI 2), .int (nI (aw A oi)), .int (nI oi), .int (-1)]) (rest := []) hX (c_X11_view (xl X) (xK X) g5 m Q (nI 0) fi F5 Od hS5 A hI hA9 vi 2 (aw A oi) oi oi (-1) (nC (nI ci) (nI si) tH 0) false hvi hfv (by decide) hoi hoi hkl hkr (hwo) (h4o) (⟨fun q => absurd q (by unfold isB; omega), fun _ => ⟨rfl, rfl⟩, fun j hj => by rcases (show j = 0 ∨ j = 1 ∨ j = 2 by have : j < 3 := hj; omega) with rfl | rfl | rfl <;> simp [eF2, eF3, eF4, eF5, fu, upd, nC], fun _ => by simp [eF2, eF3, eF4, eF5, fu, upd, nC]⟩) (⟨⟨ci, hci, nC_0 _ _ _ _⟩, ⟨si, by omega, nC_1 _ _ _ _⟩, fun q => absurd q (by decide)⟩) (rfl)) hS5.1 rfl lk_X11_138 wI_X11_view wV_X11_X11_view wN_X11 wC_X11_view hd_X11_view rfl (by rw [hL]; decide) (by decide) rfl (Nat.le_of_ble_eq_true rfl) dX11_select_139 (by rw [hR]; decide) (by rw [hR]; decide) jx_no ?_
            rintro _ g9 ⟨rfl, h9⟩
            show J X 0 0 g9 142 [(7, .int (nI 1)), (0, .ref m), (1, .int (nI vi)), (2, .int (nI oi)), (3, .int (nI ci)), (4, .int (nI si)), (5, .int tH), (6, .int (b01 false))] []
            exact j_vret hX hE dX11_select_142 (⟨rfl, by
  unfold selO
  rw [vnat_nI (show oi < 2 ^ 31 by omega)]
  exact view_out (vnat_nI (by omega)) ⟨⟨vi, hvi, rfl⟩, hl9, fun q => absurd q (by decide)⟩ hu ⟨si, hsi, rfl⟩ h9⟩) (by decide) (by decide)
          · have hs9 : ¬ (¬ cm < 0 ∧ cm ≤ nI 5) := fun q => hs (by obtain ⟨w, _, q2, q3⟩ := i32_rng (a := 0) (b := 5) (by decide) (by decide) (Int32.not_lt.mp q.1) q.2; exact ⟨w, by omega, q3⟩)
            show J X 0 0 g 0 [(0, .ref m), (1, .int (nI vi)), (2, .int (nI oi)), (3, .int (nI ci)), (4, .int cm), (5, .int tH), (6, .int (b01 false))] []
            refine j_iload_n hX dX11_select_0 1 rfl ?_
            refine j_callS (As := [.int (nI vi)]) (rest := []) hX (c_X11_isPlace (xl X) (xK X) g (nI vi)) lk_X11_109 wS_X11_isPlace wN_X11 wC_X11_isPlace hd_X11_isPlace rfl (by rw [hL]; decide) (by decide) rfl (Nat.le_of_ble_eq_true rfl) dX11_select_1 (by rw [hR]; decide) (by rw [hR]; decide) jx_no ?_
            rintro _ _ ⟨b9, rfl, hb9, rfl⟩
            obtain rfl : b9 = true := hb9.mpr ⟨vi, hvi, rfl⟩
            clear hb9
            show J X 0 0 g 4 [(0, .ref m), (1, .int (nI vi)), (2, .int (nI oi)), (3, .int (nI ci)), (4, .int cm), (5, .int tH), (6, .int (b01 false))] [.int (b01 true)]
            refine j_if_eq hX 35 dX11_select_4 (by decide) (fun c_4 => absurd c_4 (by decide)) (fun _ => ?_)
            refine j_aload_n hX dX11_select_7 0 rfl ?_
            refine j_iload_n hX dX11_select_8 2 rfl ?_
            refine j_iload_n hX dX11_select_9 3 rfl ?_
            refine j_callV (As := [.int (nI oi), .int (nI ci)]) (rest := []) hX (c_X11_isColumn (xl X) (xK X) g m Q th (nI Od.length) fi F hS (nI oi) (nI ci)) hS.1 rfl lk_X11_135 wI_X11_isColumn wV_X11_X11_isColumn wN_X11 wC_X11_isColumn hd_X11_isColumn rfl (by rw [hL]; decide) (by decide) rfl (Nat.le_of_ble_eq_true rfl) dX11_select_10 (by rw [hR]; decide) (by rw [hR]; decide) jx_no ?_
            rintro _ _ ⟨b9, rfl, hb9, rfl⟩
            obtain rfl : b9 = true := hb9.mpr ((hA.isc hI _ _).mpr hl9)
            clear hb9
            show J X 0 0 g 13 [(0, .ref m), (1, .int (nI vi)), (2, .int (nI oi)), (3, .int (nI ci)), (4, .int cm), (5, .int tH), (6, .int (b01 false))] [.int (b01 true)]
            refine j_if_eq hX 35 dX11_select_13 (by decide) (fun c_13 => absurd c_13 (by decide)) (fun _ => ?_)
            refine j_iload hX dX11_select_16 6 rfl ?_
            refine j_if_eq hX 31 dX11_select_18 (by decide) (fun _ => ?_) (fun c_18 => absurd (by decide) c_18)
            refine j_iconst (v := nI 1) hX dX11_select_31 (by decide) ?_
            refine j_goto hX 36 dX11_select_32 (by decide) ?_
            refine j_istore (lv' := [(7, .int (nI 1)), (0, .ref m), (1, .int (nI vi)), (2, .int (nI oi)), (3, .int (nI ci)), (4, .int cm), (5, .int tH), (6, .int (b01 false))]) hX dX11_select_36 (by rw [hn]; decide) rfl ?_
            refine j_aload_n hX dX11_select_38 1 rfl ?_
            refine j_iload hX dX11_select_39 0 rfl ?_
            refine j_if_ne hX 48 dX11_select_41 (by decide) (fun _ => ?_) (fun c_41 => absurd c_41 (by decide))
            refine j_aload_n hX dX11_select_48 1 rfl ?_
            refine j_get (v := .ref (Q 0)) hX hS.1 rfl wf_X11 1 (by decide) lk_X11_7 (fun _ h => h) rfl dX11_select_49 ?_
            refine j_iload_n hX dX11_select_52 2 rfl ?_
            refine j_ialdN hX (show g (Q 0) = some (aI (xK X) 8 (F 0)) from hS.2.1 0 (by decide)) (vi) (rfl) (hvi) (by decide) dX11_select_53 ?_
            refine j_eqi (y := nI 0) ((hA.free hI hvi).1 hu |>.2) ?_
            refine j_if_le hX 61 dX11_select_54 (by decide) (fun _ => ?_) (fun c_54 => absurd (by decide) c_54)
            refine j_iload hX dX11_select_61 5 rfl ?_
            refine j_if_lt hX 72 dX11_select_63 (by decide) (fun c_63 => ?_) (fun c_63 => ?_)
            · refine j_iconst (v := nI 3) hX dX11_select_72 (by decide) ?_
              refine j_goto hX 77 dX11_select_73 (by decide) ?_
              refine j_put hX hS.1 rfl wf_X11 tyX11_ok nmX11 0 (by decide) lk_X11_56 (fun _ h => h) rfl (tyX11_ok 0 (by decide)) rfl rfl (Nat.le_of_ble_eq_true rfl) dX11_select_77 ?_
              obtain ⟨g1, eg1⟩ : ∃ z : Wd, z = up g m (ob 10 [.int (nI 3), .ref (Q 0), .ref (Q 1), .ref (Q 2), .ref (Q 3), .ref (Q 4), .ref (Q 5), .ref (Q 6), .int (nI Od.length), .ref (Q 7), .ref (Q 8), .ref (Q 9), .ref (Q 10), .ref (Q 11), .ref (Q 12), .ref (Q 13), .int fi, .ref (Q 14)]) := ⟨_, rfl⟩
              refine j_w eg1.symm ?_
              have hS1 : RS (xK X) g1 m Q (nI 3) (nI Od.length) fi F := by rw [eg1]; exact hS.obj _ _ _
              refine j_aload_n hX dX11_select_80 1 rfl ?_
              refine j_get (v := .int (nI 3)) hX hS1.1 rfl wf_X11 0 (by decide) lk_X11_56 (fun _ h => h) rfl dX11_select_81 ?_
              refine j_if_ne hX 142 dX11_select_84 (by decide) (fun _ => ?_) (fun c_84 => absurd c_84 (by decide))
              exact j_vret hX hE dX11_select_142 (⟨rfl, 3, A, Or.inr (Or.inr (Or.inl ⟨rfl, ⟨⟨vi, hvi, rfl⟩, hl9, fun q => absurd q (by decide)⟩, by rw [vnat_nI (by omega)]; exact hu, hs, rfl⟩)), Q, Od, fi, F, hS1, hA⟩) (by decide) (by decide)
            · refine j_iload hX dX11_select_66 5 rfl ?_
              refine j_iconst (v := nI 5) hX dX11_select_68 (by decide) ?_
              refine j_icmp_le hX 76 dX11_select_69 (by decide) (fun c_69 => absurd c_69 (fun q => hs9 ⟨c_63, q⟩)) (fun _ => ?_)
              refine j_iconst (v := nI 3) hX dX11_select_72 (by decide) ?_
              refine j_goto hX 77 dX11_select_73 (by decide) ?_
              refine j_put hX hS.1 rfl wf_X11 tyX11_ok nmX11 0 (by decide) lk_X11_56 (fun _ h => h) rfl (tyX11_ok 0 (by decide)) rfl rfl (Nat.le_of_ble_eq_true rfl) dX11_select_77 ?_
              obtain ⟨g2, eg2⟩ : ∃ z : Wd, z = up g m (ob 10 [.int (nI 3), .ref (Q 0), .ref (Q 1), .ref (Q 2), .ref (Q 3), .ref (Q 4), .ref (Q 5), .ref (Q 6), .int (nI Od.length), .ref (Q 7), .ref (Q 8), .ref (Q 9), .ref (Q 10), .ref (Q 11), .ref (Q 12), .ref (Q 13), .int fi, .ref (Q 14)]) := ⟨_, rfl⟩
              refine j_w eg2.symm ?_
              have hS2 : RS (xK X) g2 m Q (nI 3) (nI Od.length) fi F := by rw [eg2]; exact hS.obj _ _ _
              refine j_aload_n hX dX11_select_80 1 rfl ?_
              refine j_get (v := .int (nI 3)) hX hS2.1 rfl wf_X11 0 (by decide) lk_X11_56 (fun _ h => h) rfl dX11_select_81 ?_
              refine j_if_ne hX 142 dX11_select_84 (by decide) (fun _ => ?_) (fun c_84 => absurd c_84 (by decide))
              exact j_vret hX hE dX11_select_142 (⟨rfl, 3, A, Or.inr (Or.inr (Or.inl ⟨rfl, ⟨⟨vi, hvi, rfl⟩, hl9, fun q => absurd q (by decide)⟩, by rw [vnat_nI (by omega)]; exact hu, hs, rfl⟩)), Q, Od, fi, F, hS2, hA⟩) (by decide) (by decide)
      | true =>
        by_cases hn9 : isC A (nI oi) tH
        · obtain ⟨oi2, ti, hoi2, hti, htw, e9, rfl, hwo2⟩ := isC_ok hI hn9
          obtain rfl : oi = oi2 := (nI_eq (by omega) (by omega)).mp e9
          by_cases hu : 0 < aw A vi
          · show J X 0 0 g 0 [(0, .ref m), (1, .int (nI vi)), (2, .int (nI oi)), (3, .int (nI ci)), (4, .int cm), (5, .int (nI ti)), (6, .int (b01 true))] []
            refine j_iload_n hX dX11_select_0 1 rfl ?_
            refine j_callS (As := [.int (nI vi)]) (rest := []) hX (c_X11_isPlace (xl X) (xK X) g (nI vi)) lk_X11_109 wS_X11_isPlace wN_X11 wC_X11_isPlace hd_X11_isPlace rfl (by rw [hL]; decide) (by decide) rfl (Nat.le_of_ble_eq_true rfl) dX11_select_1 (by rw [hR]; decide) (by rw [hR]; decide) jx_no ?_
            rintro _ _ ⟨b9, rfl, hb9, rfl⟩
            obtain rfl : b9 = true := hb9.mpr ⟨vi, hvi, rfl⟩
            clear hb9
            show J X 0 0 g 4 [(0, .ref m), (1, .int (nI vi)), (2, .int (nI oi)), (3, .int (nI ci)), (4, .int cm), (5, .int (nI ti)), (6, .int (b01 true))] [.int (b01 true)]
            refine j_if_eq hX 35 dX11_select_4 (by decide) (fun c_4 => absurd c_4 (by decide)) (fun _ => ?_)
            refine j_aload_n hX dX11_select_7 0 rfl ?_
            refine j_iload_n hX dX11_select_8 2 rfl ?_
            refine j_iload_n hX dX11_select_9 3 rfl ?_
            refine j_callV (As := [.int (nI oi), .int (nI ci)]) (rest := []) hX (c_X11_isColumn (xl X) (xK X) g m Q th (nI Od.length) fi F hS (nI oi) (nI ci)) hS.1 rfl lk_X11_135 wI_X11_isColumn wV_X11_X11_isColumn wN_X11 wC_X11_isColumn hd_X11_isColumn rfl (by rw [hL]; decide) (by decide) rfl (Nat.le_of_ble_eq_true rfl) dX11_select_10 (by rw [hR]; decide) (by rw [hR]; decide) jx_no ?_
            rintro _ _ ⟨b9, rfl, hb9, rfl⟩
            obtain rfl : b9 = true := hb9.mpr ((hA.isc hI _ _).mpr hl9)
            clear hb9
            show J X 0 0 g 13 [(0, .ref m), (1, .int (nI vi)), (2, .int (nI oi)), (3, .int (nI ci)), (4, .int cm), (5, .int (nI ti)), (6, .int (b01 true))] [.int (b01 true)]
            refine j_if_eq hX 35 dX11_select_13 (by decide) (fun c_13 => absurd c_13 (by decide)) (fun _ => ?_)
            refine j_iload hX dX11_select_16 6 rfl ?_
            refine j_if_eq hX 31 dX11_select_18 (by decide) (fun c_18 => absurd c_18 (by decide)) (fun _ => ?_)
            refine j_aload_n hX dX11_select_21 0 rfl ?_
            refine j_iload_n hX dX11_select_22 2 rfl ?_
            refine j_iload hX dX11_select_23 5 rfl ?_
            refine j_callV (As := [.int (nI oi), .int (nI ti)]) (rest := []) hX (c_X11_isColumn (xl X) (xK X) g m Q th (nI Od.length) fi F hS (nI oi) (nI ti)) hS.1 rfl lk_X11_135 wI_X11_isColumn wV_X11_X11_isColumn wN_X11 wC_X11_isColumn hd_X11_isColumn rfl (by rw [hL]; decide) (by decide) rfl (Nat.le_of_ble_eq_true rfl) dX11_select_25 (by rw [hR]; decide) (by rw [hR]; decide) jx_no ?_
            rintro _ _ ⟨b9, rfl, hb9, rfl⟩
            obtain rfl : b9 = true := hb9.mpr ((hA.isc hI _ _).mpr hn9)
            clear hb9
            show J X 0 0 g 28 [(0, .ref m), (1, .int (nI vi)), (2, .int (nI oi)), (3, .int (nI ci)), (4, .int cm), (5, .int (nI ti)), (6, .int (b01 true))] [.int (b01 true)]
            refine j_if_eq hX 35 dX11_select_28 (by decide) (fun c_28 => absurd c_28 (by decide)) (fun _ => ?_)
            refine j_iconst (v := nI 1) hX dX11_select_31 (by decide) ?_
            refine j_goto hX 36 dX11_select_32 (by decide) ?_
            refine j_istore (lv' := [(7, .int (nI 1)), (0, .ref m), (1, .int (nI vi)), (2, .int (nI oi)), (3, .int (nI ci)), (4, .int cm), (5, .int (nI ti)), (6, .int (b01 true))]) hX dX11_select_36 (by rw [hn]; decide) rfl ?_
            refine j_aload_n hX dX11_select_38 1 rfl ?_
            refine j_iload hX dX11_select_39 0 rfl ?_
            refine j_if_ne hX 48 dX11_select_41 (by decide) (fun _ => ?_) (fun c_41 => absurd c_41 (by decide))
            refine j_aload_n hX dX11_select_48 1 rfl ?_
            refine j_get (v := .ref (Q 0)) hX hS.1 rfl wf_X11 1 (by decide) lk_X11_7 (fun _ h => h) rfl dX11_select_49 ?_
            refine j_iload_n hX dX11_select_52 2 rfl ?_
            refine j_ialdN hX (show g (Q 0) = some (aI (xK X) 8 (F 0)) from hS.2.1 0 (by decide)) (vi) (rfl) (hvi) (by decide) dX11_select_53 ?_
            refine j_if_le hX 61 dX11_select_54 (by decide) (fun c_54 => absurd c_54 (Int32.not_le.mpr ((hA.free hI hvi).2 hu).2)) (fun _ => ?_)
            refine j_iconst (v := nI 2) hX dX11_select_57 (by decide) ?_
            refine j_goto hX 77 dX11_select_58 (by decide) ?_
            refine j_put hX hS.1 rfl wf_X11 tyX11_ok nmX11 0 (by decide) lk_X11_56 (fun _ h => h) rfl (tyX11_ok 0 (by decide)) rfl rfl (Nat.le_of_ble_eq_true rfl) dX11_select_77 ?_
            obtain ⟨g1, eg1⟩ : ∃ z : Wd, z = up g m (ob 10 [.int (nI 2), .ref (Q 0), .ref (Q 1), .ref (Q 2), .ref (Q 3), .ref (Q 4), .ref (Q 5), .ref (Q 6), .int (nI Od.length), .ref (Q 7), .ref (Q 8), .ref (Q 9), .ref (Q 10), .ref (Q 11), .ref (Q 12), .ref (Q 13), .int fi, .ref (Q 14)]) := ⟨_, rfl⟩
            refine j_w eg1.symm ?_
            have hS1 : RS (xK X) g1 m Q (nI 2) (nI Od.length) fi F := by rw [eg1]; exact hS.obj _ _ _
            refine j_aload_n hX dX11_select_80 1 rfl ?_
            refine j_get (v := .int (nI 2)) hX hS1.1 rfl wf_X11 0 (by decide) lk_X11_56 (fun _ h => h) rfl dX11_select_81 ?_
            refine j_if_ne hX 142 dX11_select_84 (by decide) (fun _ => ?_) (fun c_84 => absurd c_84 (by decide))
            exact j_vret hX hE dX11_select_142 (⟨rfl, 2, A, Or.inr (Or.inl ⟨rfl, ⟨⟨vi, hvi, rfl⟩, hl9, fun _ => hn9⟩, by rw [vnat_nI (by omega)]; exact hu, rfl⟩), Q, Od, fi, F, hS1, hA⟩) (by decide) (by decide)
          · by_cases hs : ∃ s, s < 6 ∧ cm = nI s
            · obtain ⟨si, hsi, rfl⟩ := hs
              have hfv := ((hA.free hI hvi).1 hu).1
              have hkl := ((hA.free hI hoi).2 hwo).1
              have hkr := hkl
              show J X 0 0 g 0 [(0, .ref m), (1, .int (nI vi)), (2, .int (nI oi)), (3, .int (nI ci)), (4, .int (nI si)), (5, .int (nI ti)), (6, .int (b01 true))] []
              refine j_iload_n hX dX11_select_0 1 rfl ?_
              refine j_callS (As := [.int (nI vi)]) (rest := []) hX (c_X11_isPlace (xl X) (xK X) g (nI vi)) lk_X11_109 wS_X11_isPlace wN_X11 wC_X11_isPlace hd_X11_isPlace rfl (by rw [hL]; decide) (by decide) rfl (Nat.le_of_ble_eq_true rfl) dX11_select_1 (by rw [hR]; decide) (by rw [hR]; decide) jx_no ?_
              rintro _ _ ⟨b9, rfl, hb9, rfl⟩
              obtain rfl : b9 = true := hb9.mpr ⟨vi, hvi, rfl⟩
              clear hb9
              show J X 0 0 g 4 [(0, .ref m), (1, .int (nI vi)), (2, .int (nI oi)), (3, .int (nI ci)), (4, .int (nI si)), (5, .int (nI ti)), (6, .int (b01 true))] [.int (b01 true)]
              refine j_if_eq hX 35 dX11_select_4 (by decide) (fun c_4 => absurd c_4 (by decide)) (fun _ => ?_)
              refine j_aload_n hX dX11_select_7 0 rfl ?_
              refine j_iload_n hX dX11_select_8 2 rfl ?_
              refine j_iload_n hX dX11_select_9 3 rfl ?_
              refine j_callV (As := [.int (nI oi), .int (nI ci)]) (rest := []) hX (c_X11_isColumn (xl X) (xK X) g m Q th (nI Od.length) fi F hS (nI oi) (nI ci)) hS.1 rfl lk_X11_135 wI_X11_isColumn wV_X11_X11_isColumn wN_X11 wC_X11_isColumn hd_X11_isColumn rfl (by rw [hL]; decide) (by decide) rfl (Nat.le_of_ble_eq_true rfl) dX11_select_10 (by rw [hR]; decide) (by rw [hR]; decide) jx_no ?_
              rintro _ _ ⟨b9, rfl, hb9, rfl⟩
              obtain rfl : b9 = true := hb9.mpr ((hA.isc hI _ _).mpr hl9)
              clear hb9
              show J X 0 0 g 13 [(0, .ref m), (1, .int (nI vi)), (2, .int (nI oi)), (3, .int (nI ci)), (4, .int (nI si)), (5, .int (nI ti)), (6, .int (b01 true))] [.int (b01 true)]
              refine j_if_eq hX 35 dX11_select_13 (by decide) (fun c_13 => absurd c_13 (by decide)) (fun _ => ?_)
              refine j_iload hX dX11_select_16 6 rfl ?_
              refine j_if_eq hX 31 dX11_select_18 (by decide) (fun c_18 => absurd c_18 (by decide)) (fun _ => ?_)
              refine j_aload_n hX dX11_select_21 0 rfl ?_
              refine j_iload_n hX dX11_select_22 2 rfl ?_
              refine j_iload hX dX11_select_23 5 rfl ?_
              refine j_callV (As := [.int (nI oi), .int (nI ti)]) (rest := []) hX (c_X11_isColumn (xl X) (xK X) g m Q th (nI Od.length) fi F hS (nI oi) (nI ti)) hS.1 rfl lk_X11_135 wI_X11_isColumn wV_X11_X11_isColumn wN_X11 wC_X11_isColumn hd_X11_isColumn rfl (by rw [hL]; decide) (by decide) rfl (Nat.le_of_ble_eq_true rfl) dX11_select_25 (by rw [hR]; decide) (by rw [hR]; decide) jx_no ?_
              rintro _ _ ⟨b9, rfl, hb9, rfl⟩
              obtain rfl : b9 = true := hb9.mpr ((hA.isc hI _ _).mpr hn9)
              clear hb9
              show J X 0 0 g 28 [(0, .ref m), (1, .int (nI vi)), (2, .int (nI oi)), (3, .int (nI ci)), (4, .int (nI si)), (5, .int (nI ti)), (6, .int (b01 true))] [.int (b01 true)]
              refine j_if_eq hX 35 dX11_select_28 (by decide) (fun c_28 => absurd c_28 (by decide)) (fun _ => ?_)
              refine j_iconst (v := nI 1) hX dX11_select_31 (by decide) ?_
              refine j_goto hX 36 dX11_select_32 (by decide) ?_
              refine j_istore (lv' := [(7, .int (nI 1)), (0, .ref m), (1, .int (nI vi)), (2, .int (nI oi)), (3, .int (nI ci)), (4, .int (nI si)), (5, .int (nI ti)), (6, .int (b01 true))]) hX dX11_select_36 (by rw [hn]; decide) rfl ?_
              refine j_aload_n hX dX11_select_38 1 rfl ?_
              refine j_iload hX dX11_select_39 0 rfl ?_
              refine j_if_ne hX 48 dX11_select_41 (by decide) (fun _ => ?_) (fun c_41 => absurd c_41 (by decide))
              refine j_aload_n hX dX11_select_48 1 rfl ?_
              refine j_get (v := .ref (Q 0)) hX hS.1 rfl wf_X11 1 (by decide) lk_X11_7 (fun _ h => h) rfl dX11_select_49 ?_
              refine j_iload_n hX dX11_select_52 2 rfl ?_
              refine j_ialdN hX (show g (Q 0) = some (aI (xK X) 8 (F 0)) from hS.2.1 0 (by decide)) (vi) (rfl) (hvi) (by decide) dX11_select_53 ?_
              refine j_eqi (y := nI 0) ((hA.free hI hvi).1 hu |>.2) ?_
              refine j_if_le hX 61 dX11_select_54 (by decide) (fun _ => ?_) (fun c_54 => absurd (by decide) c_54)
              refine j_iload hX dX11_select_61 5 rfl ?_
              refine j_if_lt hX 72 dX11_select_63 (by decide) (fun c_63 => absurd c_63 (nI_pos (n := si) (by omega))) (fun _ => ?_)
              refine j_iload hX dX11_select_66 5 rfl ?_
              refine j_iconst (v := nI 5) hX dX11_select_68 (by decide) ?_
              refine j_icmp_le hX 76 dX11_select_69 (by decide) (fun _ => ?_) (fun c_69 => absurd (nI_le (a := si) (b := 5) (by omega) (by decide)) c_69)
              refine j_iconst (v := nI 0) hX dX11_select_76 (by decide) ?_
              refine j_put hX hS.1 rfl wf_X11 tyX11_ok nmX11 0 (by decide) lk_X11_56 (fun _ h => h) rfl (tyX11_ok 0 (by decide)) rfl rfl (Nat.le_of_ble_eq_true rfl) dX11_select_77 ?_
              obtain ⟨g1, eg1⟩ : ∃ z : Wd, z = up g m (ob 10 [.int (nI 0), .ref (Q 0), .ref (Q 1), .ref (Q 2), .ref (Q 3), .ref (Q 4), .ref (Q 5), .ref (Q 6), .int (nI Od.length), .ref (Q 7), .ref (Q 8), .ref (Q 9), .ref (Q 10), .ref (Q 11), .ref (Q 12), .ref (Q 13), .int fi, .ref (Q 14)]) := ⟨_, rfl⟩
              refine j_w eg1.symm ?_
              have hS1 : RS (xK X) g1 m Q (nI 0) (nI Od.length) fi F := by rw [eg1]; exact hS.obj _ _ _
              refine j_aload_n hX dX11_select_80 1 rfl ?_
              refine j_get (v := .int (nI 0)) hX hS1.1 rfl wf_X11 0 (by decide) lk_X11_56 (fun _ h => h) rfl dX11_select_81 ?_
              refine j_if_ne hX 142 dX11_select_84 (by decide) (fun c_84 => absurd c_84 (fun q => q (by rfl))) (fun _ => ?_)
              refine j_aload_n hX dX11_select_87 1 rfl ?_
              refine j_get (v := .ref (Q 4)) hX hS1.1 rfl wf_X11 5 (by decide) lk_X11_22 (fun _ h => h) rfl dX11_select_88 ?_
              refine j_iconst (v := nI 4) hX dX11_select_91 (by decide) ?_
              refine j_iload_n hX dX11_select_92 2 rfl ?_
              refine j_imul hX dX11_select_93 ?_
              refine j_eqi (y := nI (4 * vi)) (pk_mul 4 vi) ?_
              refine j_iload_n hX dX11_select_94 4 rfl ?_
              refine j_iastN hX (show g1 (Q 4) = some (aI (xK X) 32 (F 4)) from hS1.2.1 4 (by decide)) (4 * vi) (rfl) (by omega) (by decide) dX11_select_95 ?_
              obtain ⟨g2, eg2⟩ : ∃ z : Wd, z = up g1 (Q 4) (aI (xK X) 32 (upd (F 4) (4 * vi) (nI ci))) := ⟨_, rfl⟩
              refine j_w eg2.symm ?_
              obtain ⟨F2, eF2⟩ : ∃ z, z = fu F 4 (upd (F 4) (4 * vi) (nI ci)) := ⟨_, rfl⟩
              have hS2 : RS (xK X) g2 m Q (nI 0) (nI Od.length) fi F2 := by rw [eg2, eF2]; exact hS1.put 4 (by decide) _
              refine j_aload_n hX dX11_select_96 1 rfl ?_
              refine j_get (v := .ref (Q 4)) hX hS2.1 rfl wf_X11 5 (by decide) lk_X11_22 (fun _ h => h) rfl dX11_select_97 ?_
              refine j_iconst (v := nI 4) hX dX11_select_100 (by decide) ?_
              refine j_iload_n hX dX11_select_101 2 rfl ?_
              refine j_imul hX dX11_select_102 ?_
              refine j_eqi (y := nI (4 * vi)) (pk_mul 4 vi) ?_
              refine j_iconst (v := nI 1) hX dX11_select_103 (by decide) ?_
              refine j_iadd hX dX11_select_104 ?_
              refine j_eqi (y := nI (4 * vi + 1)) (ix4v vi 1) ?_
              refine j_iload hX dX11_select_105 5 rfl ?_
              refine j_iastN hX (show g2 (Q 4) = some (aI (xK X) 32 (F2 4)) from hS2.2.1 4 (by decide)) (4 * vi + 1) (rfl) (by omega) (by decide) dX11_select_107 ?_
              obtain ⟨g3, eg3⟩ : ∃ z : Wd, z = up g2 (Q 4) (aI (xK X) 32 (upd (F2 4) (4 * vi + 1) (nI si))) := ⟨_, rfl⟩
              refine j_w eg3.symm ?_
              obtain ⟨F3, eF3⟩ : ∃ z, z = fu F2 4 (upd (F2 4) (4 * vi + 1) (nI si)) := ⟨_, rfl⟩
              have hS3 : RS (xK X) g3 m Q (nI 0) (nI Od.length) fi F3 := by rw [eg3, eF3]; exact hS2.put 4 (by decide) _
              refine j_aload_n hX dX11_select_108 1 rfl ?_
              refine j_get (v := .ref (Q 4)) hX hS3.1 rfl wf_X11 5 (by decide) lk_X11_22 (fun _ h => h) rfl dX11_select_109 ?_
              refine j_iconst (v := nI 4) hX dX11_select_112 (by decide) ?_
              refine j_iload_n hX dX11_select_113 2 rfl ?_
              refine j_imul hX dX11_select_114 ?_
              refine j_eqi (y := nI (4 * vi)) (pk_mul 4 vi) ?_
              refine j_iconst (v := nI 2) hX dX11_select_115 (by decide) ?_
              refine j_iadd hX dX11_select_116 ?_
              refine j_eqi (y := nI (4 * vi + 2)) (ix4v vi 2) ?_
              refine j_iload hX dX11_select_117 6 rfl ?_
              refine j_iastN hX (show g3 (Q 4) = some (aI (xK X) 32 (F3 4)) from hS3.2.1 4 (by decide)) (4 * vi + 2) (rfl) (by omega) (by decide) dX11_select_119 ?_
              obtain ⟨g4, eg4⟩ : ∃ z : Wd, z = up g3 (Q 4) (aI (xK X) 32 (upd (F3 4) (4 * vi + 2) (nI ti))) := ⟨_, rfl⟩
              refine j_w eg4.symm ?_
              obtain ⟨F4, eF4⟩ : ∃ z, z = fu F3 4 (upd (F3 4) (4 * vi + 2) (nI ti)) := ⟨_, rfl⟩
              have hS4 : RS (xK X) g4 m Q (nI 0) (nI Od.length) fi F4 := by rw [eg4, eF4]; exact hS3.put 4 (by decide) _
              refine j_aload_n hX dX11_select_120 1 rfl ?_
              refine j_get (v := .ref (Q 5)) hX hS4.1 rfl wf_X11 6 (by decide) lk_X11_25 (fun _ h => h) rfl dX11_select_121 ?_
              refine j_iload_n hX dX11_select_124 2 rfl ?_
              refine j_iload hX dX11_select_125 7 rfl ?_
              refine j_zastN (b := true) hX (show g4 (Q 5) = some (aZ (xK X) 8 (F4 5)) from hS4.2.1 5 (by decide)) (vi) (rfl) (hvi) (by decide) dX11_select_127 ?_
              obtain ⟨g5, eg5⟩ : ∃ z : Wd, z = up g4 (Q 5) (aZ (xK X) 8 (upd (F4 5) (vi) (b01 true))) := ⟨_, rfl⟩
              refine j_w eg5.symm ?_
              obtain ⟨F5, eF5⟩ : ∃ z, z = fu F4 5 (upd (F4 5) (vi) (b01 true)) := ⟨_, rfl⟩
              have hS5 : RS (xK X) g5 m Q (nI 0) (nI Od.length) fi F5 := by rw [eg5, eF5]; exact hS4.put 5 (by decide) _
              have hA9 : RA A Od F5 := hA.num hfv (fun j h4 h5 => by rw [eF5, fu_n h5, eF4, fu_n h4, eF3, fu_n h4, eF2, fu_n h4]) (fun i hi => by rw [eF5, fu_n (by decide), eF4, fu_s, pk_un (by omega), eF3, fu_s, pk_un (by omega), eF2, fu_s, pk_un (by omega)]) (fun i hi => by rw [eF5, fu_s, pk_un hi, eF4, fu_n (by decide), eF3, fu_n (by decide), eF2, fu_n (by decide)])
              refine j_aload_n hX dX11_select_128 1 rfl ?_
              refine j_iload_n hX dX11_select_129 2 rfl ?_
              refine j_iconst (v := nI 2) hX dX11_select_130 (by decide) ?_
              refine j_aload_n hX dX11_select_131 1 rfl ?_
              refine j_get (v := .ref (Q 1)) hX hS5.1 rfl wf_X11 2 (by decide) lk_X11_13 (fun _ h => h) rfl dX11_select_132 ?_
              refine j_iload_n hX dX11_select_135 3 rfl ?_
              refine j_ialdN hX (show g5 (Q 1) = some (aI (xK X) 8 (F5 1)) from hS5.2.1 1 (by decide)) (oi) (rfl) (hoi) (by decide) dX11_select_136 ?_
              refine j_eqi (y := nI (aw A oi)) ((hA9.2.2 oi hoi).1.2) ?_
              refine j_iload_n hX dX11_select_137 3 rfl ?_
              refine j_iconst (v := (-1)) hX dX11_select_138 (by decide) ?_
              refine j_callV (As := [.int (nI vi), .int (nI 2), .int (nI (aw A oi)), .int (nI oi), .int (-1)]) (rest := []) hX (c_X11_view (xl X) (xK X) g5 m Q (nI 0) fi F5 Od hS5 A hI hA9 vi 2 (aw A oi) oi oi (-1) (nC (nI ci) (nI si) (nI ti) 0) true hvi hfv (by decide) hoi hoi hkl hkr (hwo) (h4o) (⟨fun q => absurd q (by unfold isB; omega), fun _ => ⟨rfl, rfl⟩, fun j hj => by rcases (show j = 0 ∨ j = 1 ∨ j = 2 by have : j < 3 := hj; omega) with rfl | rfl | rfl <;> simp [eF2, eF3, eF4, eF5, fu, upd, nC], fun _ => by simp [eF2, eF3, eF4, eF5, fu, upd, nC]⟩) (⟨⟨ci, hci, nC_0 _ _ _ _⟩, ⟨si, by omega, nC_1 _ _ _ _⟩, fun _ => ⟨ti, hti, nC_2 _ _ _ _⟩⟩) (rfl)) hS5.1 rfl lk_X11_138 wI_X11_view wV_X11_X11_view wN_X11 wC_X11_view hd_X11_view rfl (by rw [hL]; decide) (by decide) rfl (Nat.le_of_ble_eq_true rfl) dX11_select_139 (by rw [hR]; decide) (by rw [hR]; decide) jx_no ?_
              rintro _ g9 ⟨rfl, h9⟩
              show J X 0 0 g9 142 [(7, .int (nI 1)), (0, .ref m), (1, .int (nI vi)), (2, .int (nI oi)), (3, .int (nI ci)), (4, .int (nI si)), (5, .int (nI ti)), (6, .int (b01 true))] []
              exact j_vret hX hE dX11_select_142 (⟨rfl, by
  unfold selO
  rw [vnat_nI (show oi < 2 ^ 31 by omega)]
  exact view_out (vnat_nI (by omega)) ⟨⟨vi, hvi, rfl⟩, hl9, fun _ => hn9⟩ hu ⟨si, hsi, rfl⟩ h9⟩) (by decide) (by decide)
            · have hs9 : ¬ (¬ cm < 0 ∧ cm ≤ nI 5) := fun q => hs (by obtain ⟨w, _, q2, q3⟩ := i32_rng (a := 0) (b := 5) (by decide) (by decide) (Int32.not_lt.mp q.1) q.2; exact ⟨w, by omega, q3⟩)
              show J X 0 0 g 0 [(0, .ref m), (1, .int (nI vi)), (2, .int (nI oi)), (3, .int (nI ci)), (4, .int cm), (5, .int (nI ti)), (6, .int (b01 true))] []
              refine j_iload_n hX dX11_select_0 1 rfl ?_
              refine j_callS (As := [.int (nI vi)]) (rest := []) hX (c_X11_isPlace (xl X) (xK X) g (nI vi)) lk_X11_109 wS_X11_isPlace wN_X11 wC_X11_isPlace hd_X11_isPlace rfl (by rw [hL]; decide) (by decide) rfl (Nat.le_of_ble_eq_true rfl) dX11_select_1 (by rw [hR]; decide) (by rw [hR]; decide) jx_no ?_
              rintro _ _ ⟨b9, rfl, hb9, rfl⟩
              obtain rfl : b9 = true := hb9.mpr ⟨vi, hvi, rfl⟩
              clear hb9
              show J X 0 0 g 4 [(0, .ref m), (1, .int (nI vi)), (2, .int (nI oi)), (3, .int (nI ci)), (4, .int cm), (5, .int (nI ti)), (6, .int (b01 true))] [.int (b01 true)]
              refine j_if_eq hX 35 dX11_select_4 (by decide) (fun c_4 => absurd c_4 (by decide)) (fun _ => ?_)
              refine j_aload_n hX dX11_select_7 0 rfl ?_
              refine j_iload_n hX dX11_select_8 2 rfl ?_
              refine j_iload_n hX dX11_select_9 3 rfl ?_
              refine j_callV (As := [.int (nI oi), .int (nI ci)]) (rest := []) hX (c_X11_isColumn (xl X) (xK X) g m Q th (nI Od.length) fi F hS (nI oi) (nI ci)) hS.1 rfl lk_X11_135 wI_X11_isColumn wV_X11_X11_isColumn wN_X11 wC_X11_isColumn hd_X11_isColumn rfl (by rw [hL]; decide) (by decide) rfl (Nat.le_of_ble_eq_true rfl) dX11_select_10 (by rw [hR]; decide) (by rw [hR]; decide) jx_no ?_
              rintro _ _ ⟨b9, rfl, hb9, rfl⟩
              obtain rfl : b9 = true := hb9.mpr ((hA.isc hI _ _).mpr hl9)
              clear hb9
              show J X 0 0 g 13 [(0, .ref m), (1, .int (nI vi)), (2, .int (nI oi)), (3, .int (nI ci)), (4, .int cm), (5, .int (nI ti)), (6, .int (b01 true))] [.int (b01 true)]
              refine j_if_eq hX 35 dX11_select_13 (by decide) (fun c_13 => absurd c_13 (by decide)) (fun _ => ?_)
              refine j_iload hX dX11_select_16 6 rfl ?_
              refine j_if_eq hX 31 dX11_select_18 (by decide) (fun c_18 => absurd c_18 (by decide)) (fun _ => ?_)
              refine j_aload_n hX dX11_select_21 0 rfl ?_
              refine j_iload_n hX dX11_select_22 2 rfl ?_
              refine j_iload hX dX11_select_23 5 rfl ?_
              refine j_callV (As := [.int (nI oi), .int (nI ti)]) (rest := []) hX (c_X11_isColumn (xl X) (xK X) g m Q th (nI Od.length) fi F hS (nI oi) (nI ti)) hS.1 rfl lk_X11_135 wI_X11_isColumn wV_X11_X11_isColumn wN_X11 wC_X11_isColumn hd_X11_isColumn rfl (by rw [hL]; decide) (by decide) rfl (Nat.le_of_ble_eq_true rfl) dX11_select_25 (by rw [hR]; decide) (by rw [hR]; decide) jx_no ?_
              rintro _ _ ⟨b9, rfl, hb9, rfl⟩
              obtain rfl : b9 = true := hb9.mpr ((hA.isc hI _ _).mpr hn9)
              clear hb9
              show J X 0 0 g 28 [(0, .ref m), (1, .int (nI vi)), (2, .int (nI oi)), (3, .int (nI ci)), (4, .int cm), (5, .int (nI ti)), (6, .int (b01 true))] [.int (b01 true)]
              refine j_if_eq hX 35 dX11_select_28 (by decide) (fun c_28 => absurd c_28 (by decide)) (fun _ => ?_)
              refine j_iconst (v := nI 1) hX dX11_select_31 (by decide) ?_
              refine j_goto hX 36 dX11_select_32 (by decide) ?_
              refine j_istore (lv' := [(7, .int (nI 1)), (0, .ref m), (1, .int (nI vi)), (2, .int (nI oi)), (3, .int (nI ci)), (4, .int cm), (5, .int (nI ti)), (6, .int (b01 true))]) hX dX11_select_36 (by rw [hn]; decide) rfl ?_
              refine j_aload_n hX dX11_select_38 1 rfl ?_
              refine j_iload hX dX11_select_39 0 rfl ?_
              refine j_if_ne hX 48 dX11_select_41 (by decide) (fun _ => ?_) (fun c_41 => absurd c_41 (by decide))
              refine j_aload_n hX dX11_select_48 1 rfl ?_
              refine j_get (v := .ref (Q 0)) hX hS.1 rfl wf_X11 1 (by decide) lk_X11_7 (fun _ h => h) rfl dX11_select_49 ?_
              refine j_iload_n hX dX11_select_52 2 rfl ?_
              refine j_ialdN hX (show g (Q 0) = some (aI (xK X) 8 (F 0)) from hS.2.1 0 (by decide)) (vi) (rfl) (hvi) (by decide) dX11_select_53 ?_
              refine j_eqi (y := nI 0) ((hA.free hI hvi).1 hu |>.2) ?_
              refine j_if_le hX 61 dX11_select_54 (by decide) (fun _ => ?_) (fun c_54 => absurd (by decide) c_54)
              refine j_iload hX dX11_select_61 5 rfl ?_
              refine j_if_lt hX 72 dX11_select_63 (by decide) (fun c_63 => ?_) (fun c_63 => ?_)
              · refine j_iconst (v := nI 3) hX dX11_select_72 (by decide) ?_
                refine j_goto hX 77 dX11_select_73 (by decide) ?_
                refine j_put hX hS.1 rfl wf_X11 tyX11_ok nmX11 0 (by decide) lk_X11_56 (fun _ h => h) rfl (tyX11_ok 0 (by decide)) rfl rfl (Nat.le_of_ble_eq_true rfl) dX11_select_77 ?_
                obtain ⟨g1, eg1⟩ : ∃ z : Wd, z = up g m (ob 10 [.int (nI 3), .ref (Q 0), .ref (Q 1), .ref (Q 2), .ref (Q 3), .ref (Q 4), .ref (Q 5), .ref (Q 6), .int (nI Od.length), .ref (Q 7), .ref (Q 8), .ref (Q 9), .ref (Q 10), .ref (Q 11), .ref (Q 12), .ref (Q 13), .int fi, .ref (Q 14)]) := ⟨_, rfl⟩
                refine j_w eg1.symm ?_
                have hS1 : RS (xK X) g1 m Q (nI 3) (nI Od.length) fi F := by rw [eg1]; exact hS.obj _ _ _
                refine j_aload_n hX dX11_select_80 1 rfl ?_
                refine j_get (v := .int (nI 3)) hX hS1.1 rfl wf_X11 0 (by decide) lk_X11_56 (fun _ h => h) rfl dX11_select_81 ?_
                refine j_if_ne hX 142 dX11_select_84 (by decide) (fun _ => ?_) (fun c_84 => absurd c_84 (by decide))
                exact j_vret hX hE dX11_select_142 (⟨rfl, 3, A, Or.inr (Or.inr (Or.inl ⟨rfl, ⟨⟨vi, hvi, rfl⟩, hl9, fun _ => hn9⟩, by rw [vnat_nI (by omega)]; exact hu, hs, rfl⟩)), Q, Od, fi, F, hS1, hA⟩) (by decide) (by decide)
              · refine j_iload hX dX11_select_66 5 rfl ?_
                refine j_iconst (v := nI 5) hX dX11_select_68 (by decide) ?_
                refine j_icmp_le hX 76 dX11_select_69 (by decide) (fun c_69 => absurd c_69 (fun q => hs9 ⟨c_63, q⟩)) (fun _ => ?_)
                refine j_iconst (v := nI 3) hX dX11_select_72 (by decide) ?_
                refine j_goto hX 77 dX11_select_73 (by decide) ?_
                refine j_put hX hS.1 rfl wf_X11 tyX11_ok nmX11 0 (by decide) lk_X11_56 (fun _ h => h) rfl (tyX11_ok 0 (by decide)) rfl rfl (Nat.le_of_ble_eq_true rfl) dX11_select_77 ?_
                obtain ⟨g2, eg2⟩ : ∃ z : Wd, z = up g m (ob 10 [.int (nI 3), .ref (Q 0), .ref (Q 1), .ref (Q 2), .ref (Q 3), .ref (Q 4), .ref (Q 5), .ref (Q 6), .int (nI Od.length), .ref (Q 7), .ref (Q 8), .ref (Q 9), .ref (Q 10), .ref (Q 11), .ref (Q 12), .ref (Q 13), .int fi, .ref (Q 14)]) := ⟨_, rfl⟩
                refine j_w eg2.symm ?_
                have hS2 : RS (xK X) g2 m Q (nI 3) (nI Od.length) fi F := by rw [eg2]; exact hS.obj _ _ _
                refine j_aload_n hX dX11_select_80 1 rfl ?_
                refine j_get (v := .int (nI 3)) hX hS2.1 rfl wf_X11 0 (by decide) lk_X11_56 (fun _ h => h) rfl dX11_select_81 ?_
                refine j_if_ne hX 142 dX11_select_84 (by decide) (fun _ => ?_) (fun c_84 => absurd c_84 (by decide))
                exact j_vret hX hE dX11_select_142 (⟨rfl, 3, A, Or.inr (Or.inr (Or.inl ⟨rfl, ⟨⟨vi, hvi, rfl⟩, hl9, fun _ => hn9⟩, by rw [vnat_nI (by omega)]; exact hu, hs, rfl⟩)), Q, Od, fi, F, hS2, hA⟩) (by decide) (by decide)
        · show J X 0 0 g 0 [(0, .ref m), (1, .int (nI vi)), (2, .int (nI oi)), (3, .int (nI ci)), (4, .int cm), (5, .int tH), (6, .int (b01 true))] []
          refine j_iload_n hX dX11_select_0 1 rfl ?_
          refine j_callS (As := [.int (nI vi)]) (rest := []) hX (c_X11_isPlace (xl X) (xK X) g (nI vi)) lk_X11_109 wS_X11_isPlace wN_X11 wC_X11_isPlace hd_X11_isPlace rfl (by rw [hL]; decide) (by decide) rfl (Nat.le_of_ble_eq_true rfl) dX11_select_1 (by rw [hR]; decide) (by rw [hR]; decide) jx_no ?_
          rintro _ _ ⟨b9, rfl, hb9, rfl⟩
          obtain rfl : b9 = true := hb9.mpr ⟨vi, hvi, rfl⟩
          clear hb9
          show J X 0 0 g 4 [(0, .ref m), (1, .int (nI vi)), (2, .int (nI oi)), (3, .int (nI ci)), (4, .int cm), (5, .int tH), (6, .int (b01 true))] [.int (b01 true)]
          refine j_if_eq hX 35 dX11_select_4 (by decide) (fun c_4 => absurd c_4 (by decide)) (fun _ => ?_)
          refine j_aload_n hX dX11_select_7 0 rfl ?_
          refine j_iload_n hX dX11_select_8 2 rfl ?_
          refine j_iload_n hX dX11_select_9 3 rfl ?_
          refine j_callV (As := [.int (nI oi), .int (nI ci)]) (rest := []) hX (c_X11_isColumn (xl X) (xK X) g m Q th (nI Od.length) fi F hS (nI oi) (nI ci)) hS.1 rfl lk_X11_135 wI_X11_isColumn wV_X11_X11_isColumn wN_X11 wC_X11_isColumn hd_X11_isColumn rfl (by rw [hL]; decide) (by decide) rfl (Nat.le_of_ble_eq_true rfl) dX11_select_10 (by rw [hR]; decide) (by rw [hR]; decide) jx_no ?_
          rintro _ _ ⟨b9, rfl, hb9, rfl⟩
          obtain rfl : b9 = true := hb9.mpr ((hA.isc hI _ _).mpr hl9)
          clear hb9
          show J X 0 0 g 13 [(0, .ref m), (1, .int (nI vi)), (2, .int (nI oi)), (3, .int (nI ci)), (4, .int cm), (5, .int tH), (6, .int (b01 true))] [.int (b01 true)]
          refine j_if_eq hX 35 dX11_select_13 (by decide) (fun c_13 => absurd c_13 (by decide)) (fun _ => ?_)
          refine j_iload hX dX11_select_16 6 rfl ?_
          refine j_if_eq hX 31 dX11_select_18 (by decide) (fun c_18 => absurd c_18 (by decide)) (fun _ => ?_)
          refine j_aload_n hX dX11_select_21 0 rfl ?_
          refine j_iload_n hX dX11_select_22 2 rfl ?_
          refine j_iload hX dX11_select_23 5 rfl ?_
          refine j_callV (As := [.int (nI oi), .int tH]) (rest := []) hX (c_X11_isColumn (xl X) (xK X) g m Q th (nI Od.length) fi F hS (nI oi) (tH)) hS.1 rfl lk_X11_135 wI_X11_isColumn wV_X11_X11_isColumn wN_X11 wC_X11_isColumn hd_X11_isColumn rfl (by rw [hL]; decide) (by decide) rfl (Nat.le_of_ble_eq_true rfl) dX11_select_25 (by rw [hR]; decide) (by rw [hR]; decide) jx_no ?_
          rintro _ _ ⟨b9, rfl, hb9, rfl⟩
          obtain rfl : b9 = false := Bool.eq_false_iff.mpr (fun q => hn9 ((hA.isc hI _ _).mp (hb9.mp q)))
          clear hb9
          show J X 0 0 g 28 [(0, .ref m), (1, .int (nI vi)), (2, .int (nI oi)), (3, .int (nI ci)), (4, .int cm), (5, .int tH), (6, .int (b01 true))] [.int (b01 false)]
          refine j_if_eq hX 35 dX11_select_28 (by decide) (fun _ => ?_) (fun c_28 => absurd (by decide) c_28)
          refine j_iconst (v := nI 0) hX dX11_select_35 (by decide) ?_
          refine j_istore (lv' := [(7, .int (nI 0)), (0, .ref m), (1, .int (nI vi)), (2, .int (nI oi)), (3, .int (nI ci)), (4, .int cm), (5, .int tH), (6, .int (b01 true))]) hX dX11_select_36 (by rw [hn]; decide) rfl ?_
          refine j_aload_n hX dX11_select_38 1 rfl ?_
          refine j_iload hX dX11_select_39 0 rfl ?_
          refine j_if_ne hX 48 dX11_select_41 (by decide) (fun c_41 => absurd c_41 (fun q => q (by rfl))) (fun _ => ?_)
          refine j_iconst (v := nI 1) hX dX11_select_44 (by decide) ?_
          refine j_goto hX 77 dX11_select_45 (by decide) ?_
          refine j_put hX hS.1 rfl wf_X11 tyX11_ok nmX11 0 (by decide) lk_X11_56 (fun _ h => h) rfl (tyX11_ok 0 (by decide)) rfl rfl (Nat.le_of_ble_eq_true rfl) dX11_select_77 ?_
          obtain ⟨g1, eg1⟩ : ∃ z : Wd, z = up g m (ob 10 [.int (nI 1), .ref (Q 0), .ref (Q 1), .ref (Q 2), .ref (Q 3), .ref (Q 4), .ref (Q 5), .ref (Q 6), .int (nI Od.length), .ref (Q 7), .ref (Q 8), .ref (Q 9), .ref (Q 10), .ref (Q 11), .ref (Q 12), .ref (Q 13), .int fi, .ref (Q 14)]) := ⟨_, rfl⟩
          refine j_w eg1.symm ?_
          have hS1 : RS (xK X) g1 m Q (nI 1) (nI Od.length) fi F := by rw [eg1]; exact hS.obj _ _ _
          refine j_aload_n hX dX11_select_80 1 rfl ?_
          refine j_get (v := .int (nI 1)) hX hS1.1 rfl wf_X11 0 (by decide) lk_X11_56 (fun _ h => h) rfl dX11_select_81 ?_
          refine j_if_ne hX 142 dX11_select_84 (by decide) (fun _ => ?_) (fun c_84 => absurd c_84 (by decide))
          exact j_vret hX hE dX11_select_142 (⟨rfl, 1, A, Or.inl ⟨rfl, fun q => hn9 (q.2.2 rfl), rfl⟩, Q, Od, fi, F, hS1, hA⟩) (by decide) (by decide)
    · show J X 0 0 g 0 [(0, .ref m), (1, .int (nI vi)), (2, .int ofr), (3, .int c), (4, .int cm), (5, .int tH), (6, .int (b01 ot))] []
      refine j_iload_n hX dX11_select_0 1 rfl ?_
      refine j_callS (As := [.int (nI vi)]) (rest := []) hX (c_X11_isPlace (xl X) (xK X) g (nI vi)) lk_X11_109 wS_X11_isPlace wN_X11 wC_X11_isPlace hd_X11_isPlace rfl (by rw [hL]; decide) (by decide) rfl (Nat.le_of_ble_eq_true rfl) dX11_select_1 (by rw [hR]; decide) (by rw [hR]; decide) jx_no ?_
      rintro _ _ ⟨b9, rfl, hb9, rfl⟩
      obtain rfl : b9 = true := hb9.mpr ⟨vi, hvi, rfl⟩
      clear hb9
      show J X 0 0 g 4 [(0, .ref m), (1, .int (nI vi)), (2, .int ofr), (3, .int c), (4, .int cm), (5, .int tH), (6, .int (b01 ot))] [.int (b01 true)]
      refine j_if_eq hX 35 dX11_select_4 (by decide) (fun c_4 => absurd c_4 (by decide)) (fun _ => ?_)
      refine j_aload_n hX dX11_select_7 0 rfl ?_
      refine j_iload_n hX dX11_select_8 2 rfl ?_
      refine j_iload_n hX dX11_select_9 3 rfl ?_
      refine j_callV (As := [.int ofr, .int c]) (rest := []) hX (c_X11_isColumn (xl X) (xK X) g m Q th (nI Od.length) fi F hS (ofr) (c)) hS.1 rfl lk_X11_135 wI_X11_isColumn wV_X11_X11_isColumn wN_X11 wC_X11_isColumn hd_X11_isColumn rfl (by rw [hL]; decide) (by decide) rfl (Nat.le_of_ble_eq_true rfl) dX11_select_10 (by rw [hR]; decide) (by rw [hR]; decide) jx_no ?_
      rintro _ _ ⟨b9, rfl, hb9, rfl⟩
      obtain rfl : b9 = false := Bool.eq_false_iff.mpr (fun q => hl9 ((hA.isc hI _ _).mp (hb9.mp q)))
      clear hb9
      show J X 0 0 g 13 [(0, .ref m), (1, .int (nI vi)), (2, .int ofr), (3, .int c), (4, .int cm), (5, .int tH), (6, .int (b01 ot))] [.int (b01 false)]
      refine j_if_eq hX 35 dX11_select_13 (by decide) (fun _ => ?_) (fun c_13 => absurd (by decide) c_13)
      refine j_iconst (v := nI 0) hX dX11_select_35 (by decide) ?_
      refine j_istore (lv' := [(7, .int (nI 0)), (0, .ref m), (1, .int (nI vi)), (2, .int ofr), (3, .int c), (4, .int cm), (5, .int tH), (6, .int (b01 ot))]) hX dX11_select_36 (by rw [hn]; decide) rfl ?_
      refine j_aload_n hX dX11_select_38 1 rfl ?_
      refine j_iload hX dX11_select_39 0 rfl ?_
      refine j_if_ne hX 48 dX11_select_41 (by decide) (fun c_41 => absurd c_41 (fun q => q (by rfl))) (fun _ => ?_)
      refine j_iconst (v := nI 1) hX dX11_select_44 (by decide) ?_
      refine j_goto hX 77 dX11_select_45 (by decide) ?_
      refine j_put hX hS.1 rfl wf_X11 tyX11_ok nmX11 0 (by decide) lk_X11_56 (fun _ h => h) rfl (tyX11_ok 0 (by decide)) rfl rfl (Nat.le_of_ble_eq_true rfl) dX11_select_77 ?_
      obtain ⟨g1, eg1⟩ : ∃ z : Wd, z = up g m (ob 10 [.int (nI 1), .ref (Q 0), .ref (Q 1), .ref (Q 2), .ref (Q 3), .ref (Q 4), .ref (Q 5), .ref (Q 6), .int (nI Od.length), .ref (Q 7), .ref (Q 8), .ref (Q 9), .ref (Q 10), .ref (Q 11), .ref (Q 12), .ref (Q 13), .int fi, .ref (Q 14)]) := ⟨_, rfl⟩
      refine j_w eg1.symm ?_
      have hS1 : RS (xK X) g1 m Q (nI 1) (nI Od.length) fi F := by rw [eg1]; exact hS.obj _ _ _
      refine j_aload_n hX dX11_select_80 1 rfl ?_
      refine j_get (v := .int (nI 1)) hX hS1.1 rfl wf_X11 0 (by decide) lk_X11_56 (fun _ h => h) rfl dX11_select_81 ?_
      refine j_if_ne hX 142 dX11_select_84 (by decide) (fun _ => ?_) (fun c_84 => absurd c_84 (by decide))
      exact j_vret hX hE dX11_select_142 (⟨rfl, 1, A, Or.inl ⟨rfl, fun q => hl9 q.2.1, rfl⟩, Q, Od, fi, F, hS1, hA⟩) (by decide) (by decide)
  · show J X 0 0 g 0 [(0, .ref m), (1, .int v), (2, .int ofr), (3, .int c), (4, .int cm), (5, .int tH), (6, .int (b01 ot))] []
    refine j_iload_n hX dX11_select_0 1 rfl ?_
    refine j_callS (As := [.int v]) (rest := []) hX (c_X11_isPlace (xl X) (xK X) g (v)) lk_X11_109 wS_X11_isPlace wN_X11 wC_X11_isPlace hd_X11_isPlace rfl (by rw [hL]; decide) (by decide) rfl (Nat.le_of_ble_eq_true rfl) dX11_select_1 (by rw [hR]; decide) (by rw [hR]; decide) jx_no ?_
    rintro _ _ ⟨b9, rfl, hb9, rfl⟩
    obtain rfl : b9 = false := Bool.eq_false_iff.mpr (fun q => hP (hb9.mp q))
    clear hb9
    show J X 0 0 g 4 [(0, .ref m), (1, .int v), (2, .int ofr), (3, .int c), (4, .int cm), (5, .int tH), (6, .int (b01 ot))] [.int (b01 false)]
    refine j_if_eq hX 35 dX11_select_4 (by decide) (fun _ => ?_) (fun c_4 => absurd (by decide) c_4)
    refine j_iconst (v := nI 0) hX dX11_select_35 (by decide) ?_
    refine j_istore (lv' := [(7, .int (nI 0)), (0, .ref m), (1, .int v), (2, .int ofr), (3, .int c), (4, .int cm), (5, .int tH), (6, .int (b01 ot))]) hX dX11_select_36 (by rw [hn]; decide) rfl ?_
    refine j_aload_n hX dX11_select_38 1 rfl ?_
    refine j_iload hX dX11_select_39 0 rfl ?_
    refine j_if_ne hX 48 dX11_select_41 (by decide) (fun c_41 => absurd c_41 (fun q => q (by rfl))) (fun _ => ?_)
    refine j_iconst (v := nI 1) hX dX11_select_44 (by decide) ?_
    refine j_goto hX 77 dX11_select_45 (by decide) ?_
    refine j_put hX hS.1 rfl wf_X11 tyX11_ok nmX11 0 (by decide) lk_X11_56 (fun _ h => h) rfl (tyX11_ok 0 (by decide)) rfl rfl (Nat.le_of_ble_eq_true rfl) dX11_select_77 ?_
    obtain ⟨g1, eg1⟩ : ∃ z : Wd, z = up g m (ob 10 [.int (nI 1), .ref (Q 0), .ref (Q 1), .ref (Q 2), .ref (Q 3), .ref (Q 4), .ref (Q 5), .ref (Q 6), .int (nI Od.length), .ref (Q 7), .ref (Q 8), .ref (Q 9), .ref (Q 10), .ref (Q 11), .ref (Q 12), .ref (Q 13), .int fi, .ref (Q 14)]) := ⟨_, rfl⟩
    refine j_w eg1.symm ?_
    have hS1 : RS (xK X) g1 m Q (nI 1) (nI Od.length) fi F := by rw [eg1]; exact hS.obj _ _ _
    refine j_aload_n hX dX11_select_80 1 rfl ?_
    refine j_get (v := .int (nI 1)) hX hS1.1 rfl wf_X11 0 (by decide) lk_X11_56 (fun _ h => h) rfl dX11_select_81 ?_
    refine j_if_ne hX 142 dX11_select_84 (by decide) (fun _ => ?_) (fun c_84 => absurd c_84 (by decide))
    exact j_vret hX hE dX11_select_142 (⟨rfl, 1, A, Or.inl ⟨rfl, fun q => hP q.1, rfl⟩, Q, Od, fi, F, hS1, hA⟩) (by decide) (by decide)

