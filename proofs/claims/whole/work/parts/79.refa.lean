set_option maxRecDepth 20000 in
set_option maxHeartbeats 1600000 in
/-- view(v, kind, wide, left, right) -/
theorem c_X11_view (l : Launch) (K : Cst) (g : Wd) (m : Nat) (Q : Nat → Nat) (th fi : Int32) (F : Nat → Nat → Int32) (Od : List Nat) (hS : RS K g m Q th (nI Od.length) fi F) (A : Ab) (hI : Inv A) (hA : RA A Od F) (v kd w lf rt : Nat) (rtv : Int32) (n : Nat → Int32) (ot : Bool) (hv : v < 8) (hf : ak A v = 0) (hkd : 2 ≤ kd) (hlf : lf < 8) (hrt : rt < 8) (hlk : 0 < ak A lf) (hrk : 0 < ak A rt) (hw1 : 1 ≤ w) (hw4 : w ≤ 4) (hd : (isB kd → rtv = nI rt) ∧ (¬ isB kd → rtv = -1 ∧ rt = lf) ∧ (∀ j, j < cntK kd → F 4 (4 * v + j) = n j) ∧ (kd = 2 → F 5 v = b01 ot)) (hp : vpOK kd (aw A lf) n ot) (hwo : wOK kd w (aw A lf) (aw A rt) n) : Ct l K yX11_view cX11_view 6 none 4 [.ref m, .int (nI v), .int (nI kd), .int (nI w), .int (nI lf), .int rtv] g (fun r g' => r = none ∧ ((∃ B, evalV kd (aw A lf) n ot (aB A lf) (aB A rt) = some B ∧ RX K g' m th (setA A v w kd lf rt n ot B)) ∨ (evalV kd (aw A lf) n ot (aB A lf) (aB A rt) = none ∧ RX K g' m (nI 4) A))) (fun _ _ => False) 0 0 := by
  refine ct_of (by decide) (Nat.le_of_ble_eq_true rfl) ?_
  intro X hl hK hX hE hn hL hR hm
  subst hl; subst hK
  show J X 0 0 g 0 [(0, .ref m), (1, .int (nI v)), (2, .int (nI kd)), (3, .int (nI w)), (4, .int (nI lf)), (5, .int rtv)] []
  have hnv : v ∉ Od := fun q => by have := (hA.1.2.2.1 v hv).mp q; omega
  have hol : Od.length < 8 := od_lt hA.1.1 hA.1.2.1 hv hnv
  have hne : lf ≠ v := fun e => by rw [e] at hlk; omega
  have hne2 : rt ≠ v := fun e => by rw [e] at hrk; omega
  have hbv : aB A v = [] := (hI v hv).2.1 hf
  have hgz : ∀ q, q < 8 → good (aB A q) ∧ zw (aw A q) (aB A q) := fun q hq => (hI q hq).2.2.1
  refine j_aload_n hX dX11_view_0 0 rfl ?_
  refine j_iload_n hX dX11_view_1 1 rfl ?_
  refine j_iload_n hX dX11_view_2 2 rfl ?_
  refine j_iload_n hX dX11_view_3 3 rfl ?_
  refine j_iload hX dX11_view_4 4 rfl ?_
  refine j_iload hX dX11_view_6 5 rfl ?_
  refine j_callV (As := [.int (nI v), .int (nI kd), .int (nI w), .int (nI lf), .int rtv]) (rest := []) hX (c_X11_enter (xl X) (xK X) g m Od.length Q th fi F hS v hv hol (nI kd) (nI w) (nI lf) rtv) hS.1 rfl lk_X11_119 wI_X11_enter wV_X11_X11_enter wN_X11 wC_X11_enter hd_X11_enter rfl (by rw [hL]; decide) (by decide) rfl (Nat.le_of_ble_eq_true rfl) dX11_view_8 (by rw [hR]; decide) (by rw [hR]; decide) jx_no ?_
  rintro _ g1 ⟨rfl, F1, hS1, a0, a1, a2, a3, a10, a7, a6, aj⟩
  have hO1 : ∀ q, q < 8 → rp 8 9 10 F1 q (aB A q) := fun q hq => by
    have hb := (hA.2.2 q hq).2.1
    by_cases e : q = v
    · subst e; rw [hbv]; exact ⟨by rw [a10, pk_us]; rfl, fun k x hx => by cases hx⟩
    · exact ⟨by rw [a10, pk_un e]; exact hb.1, by rw [aj 8 (by decide) (by decide) (by decide) (by decide) (by decide) (by decide) (by decide), aj 9 (by decide) (by decide) (by decide) (by decide) (by decide) (by decide) (by decide)]; exact hb.2⟩
  show J X 0 0 g1 11 [(0, .ref m), (1, .int (nI v)), (2, .int (nI kd)), (3, .int (nI w)), (4, .int (nI lf)), (5, .int rtv)] []
  refine j_aload_n hX dX11_view_11 0 rfl ?_
  refine j_callV (As := []) (rest := []) hX (c_X11_begin (xl X) (xK X) g1 m Q th (nI (Od.length + 1)) fi F1 hS1 (aB A) hO1 (fun q hq => (hgz q hq).1.2.1)) hS1.1 rfl lk_X11_123 wI_X11_begin wV_X11_X11_begin wN_X11 wC_X11_begin hd_X11_begin rfl (by rw [hL]; decide) (by decide) rfl (Nat.le_of_ble_eq_true rfl) dX11_view_12 (by rw [hR]; decide) (by rw [hR]; decide) jx_no ?_
  rintro _ g2 ⟨rfl, F2, hS2, k2, hN2⟩
  have hV : VD F2 v kd w lf rt (aw A lf) (aw A rt) n ot := by
    unfold VD
    rw [k2 0 (by decide) (by decide) (by decide), k2 1 (by decide) (by decide) (by decide), k2 2 (by decide) (by decide) (by decide), k2 3 (by decide) (by decide) (by decide), k2 4 (by decide) (by decide) (by decide), k2 5 (by decide) (by decide) (by decide), a0, a1, a2, a3, aj 4 (by decide) (by decide) (by decide) (by decide) (by decide) (by decide) (by decide), aj 5 (by decide) (by decide) (by decide) (by decide) (by decide) (by decide) (by decide), pk_us, pk_us, pk_us, pk_us, pk_un hne, pk_un hne2]
    exact ⟨⟨rfl, rfl, rfl⟩, hd.1, hd.2.2.1, hd.2.2.2, (hA.2.2 lf hlf).1.2, (hA.2.2 rt hrt).1.2⟩
  show J X 0 0 g2 15 [(0, .ref m), (1, .int (nI v)), (2, .int (nI kd)), (3, .int (nI w)), (4, .int (nI lf)), (5, .int rtv)] []
  refine j_aload_n hX dX11_view_15 0 rfl ?_
  refine j_iload_n hX dX11_view_16 1 rfl ?_
  refine j_callV (As := [.int (nI v)]) (rest := []) hX (c_X11_make (xl X) (xK X) g2 m Q th (nI (Od.length + 1)) F2 hS2 v kd w lf rt (aw A lf) (aw A rt) n ot (aB A lf) (aB A rt) hv hlf hrt hne hne2 hV hw1 hw4 (hN2 lf hlf) (hgz lf hlf).1 (hgz lf hlf).2 (hN2 rt hrt) (hgz rt hrt).1 (hgz rt hrt).2 hp hwo) hS2.1 rfl lk_X11_126 wI_X11_make wV_X11_X11_make wN_X11 wC_X11_make hd_X11_make rfl (by rw [hL]; decide) (by decide) rfl (Nat.le_of_ble_eq_true rfl) dX11_view_17 (by rw [hR]; decide) (by rw [hR]; decide) jx_no ?_
  rintro _ g3 ⟨rfl, F3, fb3, hS3, hK3, ht3, hf3⟩
  have k31 : ∀ j, j < 11 → F3 j = F1 j := fun j hj => (hK3.1 j hj).trans (k2 j (by omega) (by omega) (by omega))
  cases fb3
  · have hev := hf3 rfl
    show J X 0 0 g3 20 [(0, .ref m), (1, .int (nI v)), (2, .int (nI kd)), (3, .int (nI w)), (4, .int (nI lf)), (5, .int rtv)] []
    refine j_aload_n hX dX11_view_20 0 rfl ?_
    refine j_get (v := .int (b01 false)) hX hS3.1 rfl wf_X11 16 (by decide) lk_X11_68 (fun _ h => h) rfl dX11_view_21 ?_
    refine j_if_eq hX 34 dX11_view_24 (by decide) (fun _ => ?_) (fun c_24 => absurd (by rfl) c_24)
    refine j_aload_n hX dX11_view_34 0 rfl ?_
    refine j_iload_n hX dX11_view_35 1 rfl ?_
    refine j_callV (As := [.int (nI v)]) (rest := []) hX (c_X11_leave (xl X) (xK X) g3 m (Od ++ [v]) Q th (b01 false) F3 (by rw [List.length_append]; exact hS3) v hv (fun k x hx => by
  rw [k31 6 (by decide), a6]
  rcases Nat.lt_trichotomy k Od.length with q | q | q
  · rw [List.getElem?_append_left q] at hx; rw [pk_un (by omega)]; exact hA.2.1 k x hx
  · subst q; rw [List.getElem?_append_right (Nat.le_refl _), Nat.sub_self] at hx; cases hx; rw [pk_us]
  · rw [List.getElem?_eq_none (by rw [List.length_append]; show _ + 1 ≤ k; omega)] at hx; cases hx) (by rw [List.length_append]; show _ + 1 ≤ 8; omega) (fun x hx => by
  rcases List.mem_append.mp hx with q | q
  · exact hA.1.2.1 x q
  · rw [List.mem_singleton] at q; omega)) hS3.1 rfl lk_X11_132 wI_X11_leave wV_X11_X11_leave wN_X11 wC_X11_leave hd_X11_leave rfl (by rw [hL]; decide) (by decide) rfl (Nat.le_of_ble_eq_true rfl) dX11_view_36 (by rw [hR]; decide) (by rw [hR]; decide) jx_no ?_
    rintro _ g4 ⟨rfl, F4, hS4, b0, b1, b10, bj, b6⟩
    have eod : (Od ++ [v]).filter (· ≠ v) = Od := by
      rw [List.filter_append, List.filter_eq_self.mpr (fun x hx => decide_eq_true (show x ≠ v from fun e => hnv (by rw [← e]; exact hx)))]
      simp
    rw [eod] at hS4 b6
    show J X 0 0 g4 39 [(0, .ref m), (1, .int (nI v)), (2, .int (nI kd)), (3, .int (nI w)), (4, .int (nI lf)), (5, .int rtv)] []
    have hold : RA A Od F4 := ⟨hA.1, b6, fun i hi => by
      have hb := (hA.2.2 i hi)
      have hob : OB F4 i (aB A i) := by
        by_cases e : i = v
        · subst e; rw [hbv]; exact ⟨by rw [b10, pk_us]; rfl, fun k x hx => by cases hx⟩
        · exact ⟨by rw [b10, pk_un e, k31 10 (by decide), a10, pk_un e]; exact hb.2.1.1, by rw [bj 8 (by decide) (by decide) (by decide) (by decide), bj 9 (by decide) (by decide) (by decide) (by decide), k31 8 (by decide), k31 9 (by decide), aj 8 (by decide) (by decide) (by decide) (by decide) (by decide) (by decide) (by decide), aj 9 (by decide) (by decide) (by decide) (by decide) (by decide) (by decide) (by decide)]; exact hb.2.1.2⟩
      by_cases e : i = v
      · subst e
        exact ⟨⟨by rw [b0, pk_us, hf], by rw [b1, pk_us, ((hI i hi).1.2.2.1).mp hf]⟩, hob, fun k => absurd k (by omega), fun k => absurd k (by omega)⟩
      · exact hb.cg ⟨rfl, rfl, rfl, rfl, rfl⟩ rfl rfl hob (by rw [b0, pk_un e, k31 0 (by decide), a0, pk_un e]) (by rw [b1, pk_un e, k31 1 (by decide), a1, pk_un e]) (by rw [bj 2 (by decide) (by decide) (by decide) (by decide), k31 2 (by decide), a2, pk_un e]) (by rw [bj 3 (by decide) (by decide) (by decide) (by decide), k31 3 (by decide), a3, pk_un e]) (fun j _ => by rw [bj 4 (by decide) (by decide) (by decide) (by decide), k31 4 (by decide), aj 4 (by decide) (by decide) (by decide) (by decide) (by decide) (by decide) (by decide)]) (by rw [bj 5 (by decide) (by decide) (by decide) (by decide), k31 5 (by decide), aj 5 (by decide) (by decide) (by decide) (by decide) (by decide) (by decide) (by decide)]) (by rw [bj 7 (by decide) (by decide) (by decide) (by decide), k31 7 (by decide), a7, pk_un e])⟩
    refine j_aload_n hX dX11_view_39 0 rfl ?_
    refine j_iconst (v := nI 4) hX dX11_view_40 (by decide) ?_
    refine j_put hX hS4.1 rfl wf_X11 tyX11_ok nmX11 0 (by decide) lk_X11_56 (fun _ h => h) rfl (tyX11_ok 0 (by decide)) rfl rfl (Nat.le_of_ble_eq_true rfl) dX11_view_41 ?_
    obtain ⟨g1, eg1⟩ : ∃ z : Wd, z = up g4 m (ob 10 [.int (nI 4), .ref (Q 0), .ref (Q 1), .ref (Q 2), .ref (Q 3), .ref (Q 4), .ref (Q 5), .ref (Q 6), .int (nI Od.length), .ref (Q 7), .ref (Q 8), .ref (Q 9), .ref (Q 10), .ref (Q 11), .ref (Q 12), .ref (Q 13), .int (b01 false), .ref (Q 14)]) := ⟨_, rfl⟩
    refine j_w eg1.symm ?_
    have hS1 : RS (xK X) g1 m Q (nI 4) (nI Od.length) (b01 false) F4 := by rw [eg1]; exact hS4.obj _ _ _
    exact j_vret hX hE dX11_view_44 (⟨rfl, Or.inr ⟨hev, Q, Od, b01 false, F4, hS1, hold⟩⟩) (by decide) (by decide)
  · obtain ⟨B, hev, hN3, kB3⟩ := ht3 rfl
    have hO3 : ∀ q, q < 8 → rp 11 12 13 F3 q (fu (aB A) v B q) := fun q hq => by
      by_cases e : q = v
      · subst e; rw [fu_s]; exact hN3
      · rw [fu_n e]; exact hK3.nb e (hN2 q hq) (hgz q hq).1.2.1
    have hl3 : ∀ q, q < 8 → (fu (aB A) v B q).length ≤ 20 := fun q hq => by
      by_cases e : q = v
      · subst e; rw [fu_s]; exact kB3.2.2.1
      · rw [fu_n e]; exact (hgz q hq).1.2.1
    show J X 0 0 g3 20 [(0, .ref m), (1, .int (nI v)), (2, .int (nI kd)), (3, .int (nI w)), (4, .int (nI lf)), (5, .int rtv)] []
    refine j_aload_n hX dX11_view_20 0 rfl ?_
    refine j_get (v := .int (b01 true)) hX hS3.1 rfl wf_X11 16 (by decide) lk_X11_68 (fun _ h => h) rfl dX11_view_21 ?_
    refine j_if_eq hX 34 dX11_view_24 (by decide) (fun c_24 => absurd c_24 (by decide)) (fun _ => ?_)
    refine j_aload_n hX dX11_view_27 0 rfl ?_
    refine j_callV (As := []) (rest := []) hX (c_X11_become (xl X) (xK X) g3 m Q th (nI (Od.length + 1)) (b01 true) F3 hS3 (fu (aB A) v B) hO3 hl3) hS3.1 rfl lk_X11_129 wI_X11_become wV_X11_X11_become wN_X11 wC_X11_become hd_X11_become rfl (by rw [hL]; decide) (by decide) rfl (Nat.le_of_ble_eq_true rfl) dX11_view_28 (by rw [hR]; decide) (by rw [hR]; decide) jx_no ?_
    rintro _ g4 ⟨rfl, F4, hS4, k4, hB4⟩
    have k41 : ∀ j, j < 8 → F4 j = F1 j := fun j hj => (k4 j (by omega) (by omega) (by omega)).trans (k31 j (by omega))
    show J X 0 0 g4 31 [(0, .ref m), (1, .int (nI v)), (2, .int (nI kd)), (3, .int (nI w)), (4, .int (nI lf)), (5, .int rtv)] []
    refine j_goto hX 44 dX11_view_31 (by decide) ?_
    exact j_vret hX hE dX11_view_44 (⟨rfl, Or.inl ⟨B, hev, Q, Od ++ [v], b01 true, F4, by rw [List.length_append]; exact hS4, hA.made hv hf (by omega) (fun _ => ⟨(hA.1.2.2.1 lf hlf).mpr hlk, (hA.1.2.2.1 rt hrt).mpr hrk⟩) ((k41 0 (by decide)).trans a0) ((k41 1 (by decide)).trans a1) (Or.inl ((k41 2 (by decide)).trans a2)) ((k41 3 (by decide)).trans a3) ((k41 7 (by decide)).trans a7) ((k41 6 (by decide)).trans a6) ((k41 4 (by decide)).trans (aj 4 (by decide) (by decide) (by decide) (by decide) (by decide) (by decide) (by decide))) ((k41 5 (by decide)).trans (aj 5 (by decide) (by decide) (by decide) (by decide) (by decide) (by decide) (by decide))) (fun _ => hd) hB4⟩⟩) (by decide) (by decide)

theorem RA.kp {A : Ab} {Od : List Nat} {F G : Nat → Nat → Int32} (h : RA A Od F) (hK : ∀ j, j < 11 → G j = F j) : RA A Od G :=
  ⟨h.1, fun k x hx => by rw [hK 6 (by decide)]; exact h.2.1 k x hx, fun i hi => (h.2.2 i hi).cg ⟨rfl, rfl, rfl, rfl, rfl⟩ rfl rfl (by have := (h.2.2 i hi).2.1; unfold OB at this ⊢; rw [hK 10 (by decide), hK 8 (by decide), hK 9 (by decide)]; exact this) (by rw [hK 0 (by decide)]) (by rw [hK 1 (by decide)]) (by rw [hK 2 (by decide)]) (by rw [hK 3 (by decide)]) (fun j _ => by rw [hK 4 (by decide)]) (by rw [hK 5 (by decide)]) (by rw [hK 7 (by decide)])⟩
/-- what is made of the sources that were made is what every whole update has there -/
theorem upd_none {A : Ab} (hI : Inv A) {Od : List Nat} (hO : RO A Od) {t : Nat} {B9 : Bg} {M : Nat → Bg} {j : Nat} (hj : j < Od.length) (hE : ∀ i, i < 8 → (ak A i ≤ 1 ∨ i ∈ Od.take j) → EqAt A t B9 M i) (h2 : 2 ≤ ak A Od[j]) (hev : evalV (ak A Od[j]) (aw A (al A Od[j])) (an A Od[j]) (ao A Od[j]) (M (al A Od[j])) (M (ar A Od[j])) = none) : ¬ ∃ N, Upd A t B9 N := fun ⟨N, hU⟩ => by
  have hx : Od[j] < 8 := hO.2.1 _ (List.getElem_mem hj)
  obtain ⟨s1, s2⟩ := hO.src hj h2
  obtain ⟨⟨q1, q2⟩, _⟩ := hI.src hx h2
  have hp := upd_part hI (t := t) (B' := B9) (M := M) (N := N) (P := fun i => ak A i ≤ 1 ∨ i ∈ Od.take j) (fun i hi hPi k => by
    have hi2 : i ∈ Od.take j := hPi.resolve_left (by omega)
    obtain ⟨p, hp, e⟩ := List.mem_iff_getElem.mp hi2
    rw [List.length_take] at hp
    have hpl : p < Od.length := by omega
    have e2 : Od[p] = i := by rw [← e, List.getElem_take]
    have := hO.src hpl (by rw [e2]; exact k)
    rw [e2] at this
    exact ⟨Or.inr (List.take_subset_take_left (l := Od) (by omega) this.1), Or.inr (List.take_subset_take_left (l := Od) (by omega) this.2)⟩) hE hU
  have h1 := hp _ q1 (Or.inr s1)
  have h3 := hp _ q2 (Or.inr s2)
  have := (hU _ hx).2 h2
  rw [← h1, ← h3, hev] at this
  cases this
theorem eq_step {A : Ab} {Od : List Nat} (hO : RO A Od) {t : Nat} {B9 B : Bg} {M : Nat → Bg} {j : Nat} (hj : j < Od.length) (hE : ∀ i, i < 8 → (ak A i ≤ 1 ∨ i ∈ Od.take j) → EqAt A t B9 M i) (h2 : 2 ≤ ak A Od[j]) (hev : evalV (ak A Od[j]) (aw A (al A Od[j])) (an A Od[j]) (ao A Od[j]) (M (al A Od[j])) (M (ar A Od[j])) = some B) : ∀ i, i < 8 → (ak A i ≤ 1 ∨ i ∈ Od.take (j + 1)) → EqAt A t B9 (fu M Od[j] B) i := by
  have hno : Od[j] ∉ Od.take j := fun q => by
    obtain ⟨p, hp, e⟩ := List.mem_iff_getElem.mp q
    rw [List.length_take] at hp
    rw [List.getElem_take] at e
    have := (List.getElem_inj hO.1).mp e
    omega
  obtain ⟨s1, s2⟩ := hO.src hj h2
  intro i hi hPi
  by_cases e : i = Od[j]
  · subst e
    refine ⟨fun q => by omega, fun _ => ?_⟩
    rw [fu_s, fu_n (fun q => hno (by rw [← q]; exact s1)), fu_n (fun q => hno (by rw [← q]; exact s2))]
    exact hev
  · have hP2 : ak A i ≤ 1 ∨ i ∈ Od.take j := hPi.imp id (fun q => by
      rw [List.take_add_one, List.getElem?_eq_getElem hj] at q
      rcases List.mem_append.mp q with q | q
      · exact q
      · exact absurd (by simpa using q) e)
    obtain ⟨h3, h4⟩ := hE i hi hP2
    refine ⟨fun k => by rw [fu_n e]; exact h3 k, fun k => ?_⟩
    have hi2 : i ∈ Od.take j := hP2.resolve_left (by omega)
    obtain ⟨p, hp, e9⟩ := List.mem_iff_getElem.mp hi2
    rw [List.length_take] at hp
    have hpl : p < Od.length := by omega
    have e2 : Od[p] = i := by rw [← e9, List.getElem_take]
    have := hO.src hpl (by rw [e2]; exact k)
    rw [e2] at this
    have u1 := List.take_subset_take_left (l := Od) (show p ≤ j by omega) this.1
    have u2 := List.take_subset_take_left (l := Od) (show p ≤ j by omega) this.2
    rw [fu_n e, fu_n (fun q => hno (by rw [← q]; exact u1)), fu_n (fun q => hno (by rw [← q]; exact u2))]
    exact h4 k
theorem eq_skip {A : Ab} {Od : List Nat} {t : Nat} {B9 : Bg} {M : Nat → Bg} {j : Nat} (hj : j < Od.length) (hE : ∀ i, i < 8 → (ak A i ≤ 1 ∨ i ∈ Od.take j) → EqAt A t B9 M i) (h1 : ak A Od[j] ≤ 1) : ∀ i, i < 8 → (ak A i ≤ 1 ∨ i ∈ Od.take (j + 1)) → EqAt A t B9 M i := fun i hi hPi => hE i hi (by
  rcases hPi with q | q
  · exact Or.inl q
  · rw [List.take_add_one, List.getElem?_eq_getElem hj] at q
    rcases List.mem_append.mp q with q | q
    · exact Or.inr q
    · rw [show i = Od[j] by simpa using q]; exact Or.inl h1)
set_option maxRecDepth 20000 in
set_option maxHeartbeats 1600000 in
/-- settle() -/
theorem c_X11_settle (l : Launch) (K : Cst) (g : Wd) (m : Nat) (Q : Nat → Nat) (th : Int32) (fb : Bool) (F : Nat → Nat → Int32) (Od : List Nat) (hS : RS K g m Q th (nI Od.length) (b01 fb) F) (A : Ab) (hI : Inv A) (hA : RA A Od F) (t : Nat) (B9 : Bg) (ht : t < 8) (hkt : ak A t = 1) (hN : fb = true → (good B9 ∧ zw (aw A t) B9) ∧ ∀ q, q < 8 → NB F q (if q = t then B9 else aB A q)) : Ct l K yX11_settle cX11_settle 2 (some .boolean) 4 [.ref m] g (fun r g' => ∃ b : Bool, r = some (.int (b01 b)) ∧ (b = true → fb = true ∧ ∃ N, Upd A t B9 N ∧ RX K g' m th (putA A N)) ∧ (b = false → ¬ (fb = true ∧ ∃ N, Upd A t B9 N) ∧ RX K g' m th A)) (fun _ _ => False) 0 0 := by
  refine ct_of (by decide) (Nat.le_of_ble_eq_true rfl) ?_
  intro X hl hK hX hE hn hL hR hm
  subst hl; subst hK
  show J X 0 0 g 0 [(0, .ref m)] []
  refine j_iconst (v := nI 0) hX dX11_settle_0 (by decide) ?_
  refine j_istore_n (lv' := [(1, .int (nI 0)), (0, .ref m)]) hX dX11_settle_1 (by rw [hn]; decide) rfl ?_
  have hol := hA.1.len
  have dead : ∀ (j : Nat) (G : Nat → Nat → Int32) (g9 : Wd), RS (xK X) g9 m Q th (nI Od.length) (b01 false) G → (∀ j, j < 11 → G j = F j) → ¬ (fb = true ∧ ∃ N, Upd A t B9 N) → J X 0 0 g9 2 [(1, .int (nI j)), (0, .ref m)] [] := by
    intro j G g9 hG hK hno
    refine j_aload_n hX dX11_settle_2 1 rfl ?_
    refine j_get (v := .int (b01 false)) hX hG.1 rfl wf_X11 16 (by decide) lk_X11_68 (fun _ h => h) rfl dX11_settle_3 ?_
    refine j_if_eq hX 48 dX11_settle_6 (by decide) (fun _ => ?_) (fun c_6 => absurd (by rfl) c_6)
    refine j_aload_n hX dX11_settle_48 1 rfl ?_
    refine j_get (v := .int (b01 false)) hX hG.1 rfl wf_X11 16 (by decide) lk_X11_68 (fun _ h => h) rfl dX11_settle_49 ?_
    refine j_if_ne hX 57 dX11_settle_52 (by decide) (fun c_52 => absurd c_52 (fun q => q (by rfl))) (fun _ => ?_)
    refine j_iconst (v := b01 false) hX dX11_settle_55 (by decide) ?_
    exact j_zret hX hE dX11_settle_56 (by rfl) (⟨false, rfl, fun e => absurd e (by decide), fun _ => ⟨hno, Q, Od, b01 false, G, hG, hA.kp hK⟩⟩) (by decide) (by decide)
  rcases (show fb = true ∨ fb = false by cases fb <;> simp) with hfb | hfb
  · have live : ∀ (n j : Nat) (M : Nat → Bg) (G : Nat → Nat → Int32) (g9 : Wd), j + n = Od.length → RS (xK X) g9 m Q th (nI Od.length) (b01 true) G → (∀ j, j < 11 → G j = F j) → (∀ q, q < 8 → NB G q (M q) ∧ good (M q) ∧ zw (aw A q) (M q)) → (∀ i, i < 8 → (ak A i ≤ 1 ∨ i ∈ Od.take j) → EqAt A t B9 M i) → J X 0 0 g9 2 [(1, .int (nI j)), (0, .ref m)] [] := by
      intro n
      induction n with
      | zero =>
        intro j M G g9 hj9 hG hK hM hEq
        refine j_aload_n hX dX11_settle_2 1 rfl ?_
        refine j_get (v := .int (b01 true)) hX hG.1 rfl wf_X11 16 (by decide) lk_X11_68 (fun _ h => h) rfl dX11_settle_3 ?_
        refine j_if_eq hX 48 dX11_settle_6 (by decide) (fun c_6 => absurd c_6 (by decide)) (fun _ => ?_)
        refine j_iload_n hX dX11_settle_9 0 rfl ?_
        refine j_aload_n hX dX11_settle_10 1 rfl ?_
        refine j_get (v := .int (nI Od.length)) hX hG.1 rfl wf_X11 8 (by decide) lk_X11_116 (fun _ h => h) rfl dX11_settle_11 ?_
        refine j_icmp_ge hX 48 dX11_settle_14 (by decide) (fun _ => ?_) (fun c_14 => absurd (nI_le (a := Od.length) (b := j) (by omega) (by omega)) c_14)
        refine j_aload_n hX dX11_settle_48 1 rfl ?_
        refine j_get (v := .int (b01 true)) hX hG.1 rfl wf_X11 16 (by decide) lk_X11_68 (fun _ h => h) rfl dX11_settle_49 ?_
        refine j_if_ne hX 57 dX11_settle_52 (by decide) (fun _ => ?_) (fun c_52 => absurd c_52 (by decide))
        refine j_iconst (v := nI 0) hX dX11_settle_57 (by decide) ?_
        refine j_istore_n (lv' := [(1, .int (nI 0)), (0, .ref m)]) hX dX11_settle_58 (by rw [hn]; decide) rfl ?_
        have hU : Upd A t B9 M := fun i hi => hEq i hi (by
          by_cases k : ak A i ≤ 1
          · exact Or.inl k
          · exact Or.inr (by rw [List.take_of_length_le (by omega)]; exact (hA.1.2.2.1 i hi).mpr (by omega)))
        have chg : ∀ (n x : Nat) (C : Nat → Nat → Int32) (gc : Wd), x + n = 8 → RS (xK X) gc m Q th (nI Od.length) (b01 true) C → (∀ j, j ≠ 7 → C j = G j) → (∀ q, q < x → 0 < ak A q → C 7 q = nI (dif (M q) (aB A q))) → J X 0 0 gc 59 [(1, .int (nI x)), (0, .ref m)] [] := by
          intro n
          induction n with
          | zero =>
            intro x C gc hx9 hC hKC h7
            refine j_iload_n hX dX11_settle_59 0 rfl ?_
            refine j_bipush (v := nI 8) hX dX11_settle_60 (by decide) ?_
            refine j_icmp_ge hX 95 dX11_settle_62 (by decide) (fun _ => ?_) (fun c_62 => absurd (nI_le (a := 8) (b := x) (by omega) (by omega)) c_62)
            refine j_aload_n hX dX11_settle_95 1 rfl ?_
            refine j_callV (As := []) (rest := []) hX (c_X11_become (xl X) (xK X) gc m Q th (nI Od.length) (b01 true) C hC M (fun q hq => (show NB C q (M q) from by have := (hM q hq).1; unfold NB at this ⊢; rw [hKC 13 (by decide), hKC 11 (by decide), hKC 12 (by decide)]; exact this)) (fun q hq => (hM q hq).2.1.2.1)) hC.1 rfl lk_X11_129 wI_X11_become wV_X11_X11_become wN_X11 wC_X11_become hd_X11_become rfl (by rw [hL]; decide) (by decide) rfl (Nat.le_of_ble_eq_true rfl) dX11_settle_96 (by rw [hR]; decide) (by rw [hR]; decide) jx_no ?_
            rintro _ g4 ⟨rfl, F4, hS4, k4, hB4⟩
            have k41 : ∀ j, j < 8 → j ≠ 7 → F4 j = F j := fun j hj h7 => (k4 j (by omega) (by omega) (by omega)).trans ((hKC j h7).trans (hK j (by omega)))
            show J X 0 0 g4 99 [(1, .int (nI x)), (0, .ref m)] []
            refine j_iconst (v := b01 true) hX dX11_settle_99 (by decide) ?_
            exact j_zret hX hE dX11_settle_100 (by rfl) (⟨true, rfl, fun _ => ⟨hfb, M, hU, Q, Od, b01 true, F4, hS4, hA.1.put M, fun k x hx => by rw [k41 6 (by decide) (by decide)]; exact hA.2.1 k x hx, fun i hi => ⟨⟨by rw [k41 0 (by decide) (by decide)]; exact (hA.2.2 i hi).1.1, by rw [k41 1 (by decide) (by decide)]; exact (hA.2.2 i hi).1.2⟩, by rw [show aB (putA A M) i = M i from if_pos hi]; exact hB4 i hi, fun k => by rw [k4 7 (by decide) (by decide) (by decide), h7 i (by omega) k, show ac (putA A M) i = dif (M i) (aB A i) from if_pos hi], fun k => ((hA.2.2 i hi).2.2.2 k).cg (A' := putA A M) ⟨rfl, rfl, rfl, rfl, rfl⟩ (by rw [k41 2 (by decide) (by decide)]) (by rw [k41 3 (by decide) (by decide)]) (fun j _ => by rw [k41 4 (by decide) (by decide)]) (by rw [k41 5 (by decide) (by decide)])⟩⟩, fun e => absurd e (by decide)⟩) (by decide) (by decide)
          | succ n ihx =>
            intro x C gc hx9 hC hKC h7
            have hx : x < 8 := by omega
            have hak8 := (hI x hx).1.2.1
            by_cases hp : 0 < ak A x
            · refine j_iload_n hX dX11_settle_59 0 rfl ?_
              refine j_bipush (v := nI 8) hX dX11_settle_60 (by decide) ?_
              refine j_icmp_ge hX 95 dX11_settle_62 (by decide) (fun c_62 => absurd c_62 (nI_ge (a := x) (b := 8) hx (by decide))) (fun _ => ?_)
              refine j_aload_n hX dX11_settle_65 1 rfl ?_
              refine j_get (v := .ref (Q 7)) hX hC.1 rfl wf_X11 9 (by decide) lk_X11_32 (fun _ h => h) rfl dX11_settle_66 ?_
              refine j_iload_n hX dX11_settle_69 0 rfl ?_
              refine j_aload_n hX dX11_settle_70 1 rfl ?_
              refine j_get (v := .ref (Q 0)) hX hC.1 rfl wf_X11 1 (by decide) lk_X11_7 (fun _ h => h) rfl dX11_settle_71 ?_
              refine j_iload_n hX dX11_settle_74 0 rfl ?_
              refine j_ialdN hX (show gc (Q 0) = some (aI (xK X) 8 (C 0)) from hC.2.1 0 (by decide)) (x) (rfl) (hx) (by decide) dX11_settle_75 ?_
              refine j_eqi (y := nI (ak A x)) (by rw [hKC 0 (by decide), hK 0 (by decide)]; exact (hA.2.2 x hx).1.1) ?_
              refine j_if_le hX 87 dX11_settle_76 (by decide) (fun c_76 => absurd c_76 (nI_nle (n := ak A x) (by omega) (by omega))) (fun _ => ?_)
              refine j_aload_n hX dX11_settle_79 1 rfl ?_
              refine j_iload_n hX dX11_settle_80 0 rfl ?_
              refine j_callV (As := [.int (nI x)]) (rest := [.int (nI x), .ref (Q 7)]) hX (c_X11_difference (xl X) (xK X) gc m Q th (nI Od.length) (b01 true) C hC x (aw A x) (aB A x) (M x) hx (by rw [hKC 1 (by decide), hK 1 (by decide)]; exact (hA.2.2 x hx).1.2) (by have := (hI x hx).1.2.2.1; omega) (hI x hx).1.1 (by have := (hA.2.2 x hx).2.1; unfold OB at this ⊢; rw [hKC 10 (by decide), hKC 8 (by decide), hKC 9 (by decide), hK 10 (by decide), hK 8 (by decide), hK 9 (by decide)]; exact this) (by have := (hM x hx).1; unfold NB at this ⊢; rw [hKC 13 (by decide), hKC 11 (by decide), hKC 12 (by decide)]; exact this) (((hI x hx).2.2.1.1).wk (hI x hx).2.2.1.2) ((hM x hx).2.1.wk (hM x hx).2.2)) hC.1 rfl lk_X11_144 wI_X11_difference wV_X11_X11_difference wN_X11 wC_X11_difference hd_X11_difference rfl (by rw [hL]; decide) (by decide) rfl (Nat.le_of_ble_eq_true rfl) dX11_settle_81 (by rw [hR]; decide) (by rw [hR]; decide) jx_no ?_
              rintro _ _ ⟨rfl, rfl⟩
              show J X 0 0 gc 84 [(1, .int (nI x)), (0, .ref m)] [.int (nI (dif (aB A x) (M x))), .int (nI x), .ref (Q 7)]
              refine j_goto hX 88 dX11_settle_84 (by decide) ?_
              refine j_iastN hX (show gc (Q 7) = some (aI (xK X) 8 (C 7)) from hC.2.1 7 (by decide)) (x) (rfl) (hx) (by decide) dX11_settle_88 ?_
              obtain ⟨gx1, egx1⟩ : ∃ z : Wd, z = up gc (Q 7) (aI (xK X) 8 (upd (C 7) (x) (nI (dif (aB A x) (M x))))) := ⟨_, rfl⟩
              refine j_w egx1.symm ?_
              obtain ⟨Fx1, eFx1⟩ : ∃ z, z = fu C 7 (upd (C 7) (x) (nI (dif (aB A x) (M x)))) := ⟨_, rfl⟩
              have hSx1 : RS (xK X) gx1 m Q th (nI Od.length) (b01 true) Fx1 := by rw [egx1, eFx1]; exact hC.put 7 (by decide) _
              refine j_iinc (v := nI (x + 1)) (lv' := [(1, .int (nI (x + 1))), (0, .ref m)]) hX dX11_settle_89 0 rfl (nI_1 x) (by rw [hn]; decide) rfl ?_
              refine j_goto hX 59 dX11_settle_92 (by decide) ?_
              refine j_sub [0, 1] rfl ?_
              exact ihx (x + 1) Fx1 gx1 (by omega) hSx1 (fun j hj => by rw [eFx1, fu_n hj]; exact hKC j hj) (fun q hq k => by
                rw [eFx1, fu_s]
                by_cases e : q = x
                · subst e; rw [pk_us, dif_sym]
                · rw [pk_un e]; exact h7 q (by omega) k)
            · refine j_iload_n hX dX11_settle_59 0 rfl ?_
              refine j_bipush (v := nI 8) hX dX11_settle_60 (by decide) ?_
              refine j_icmp_ge hX 95 dX11_settle_62 (by decide) (fun c_62 => absurd c_62 (nI_ge (a := x) (b := 8) hx (by decide))) (fun _ => ?_)
              refine j_aload_n hX dX11_settle_65 1 rfl ?_
              refine j_get (v := .ref (Q 7)) hX hC.1 rfl wf_X11 9 (by decide) lk_X11_32 (fun _ h => h) rfl dX11_settle_66 ?_
              refine j_iload_n hX dX11_settle_69 0 rfl ?_
              refine j_aload_n hX dX11_settle_70 1 rfl ?_
              refine j_get (v := .ref (Q 0)) hX hC.1 rfl wf_X11 1 (by decide) lk_X11_7 (fun _ h => h) rfl dX11_settle_71 ?_
              refine j_iload_n hX dX11_settle_74 0 rfl ?_
              refine j_ialdN hX (show gc (Q 0) = some (aI (xK X) 8 (C 0)) from hC.2.1 0 (by decide)) (x) (rfl) (hx) (by decide) dX11_settle_75 ?_
              refine j_eqi (y := nI (ak A x)) (by rw [hKC 0 (by decide), hK 0 (by decide)]; exact (hA.2.2 x hx).1.1) ?_
              refine j_if_le hX 87 dX11_settle_76 (by decide) (fun _ => ?_) (fun c_76 => absurd (by rw [show ak A x = 0 by omega]; decide) c_76)
              refine j_iconst (v := nI 0) hX dX11_settle_87 (by decide) ?_
              refine j_iastN hX (show gc (Q 7) = some (aI (xK X) 8 (C 7)) from hC.2.1 7 (by decide)) (x) (rfl) (hx) (by decide) dX11_settle_88 ?_
              obtain ⟨gx1, egx1⟩ : ∃ z : Wd, z = up gc (Q 7) (aI (xK X) 8 (upd (C 7) (x) (nI 0))) := ⟨_, rfl⟩
              refine j_w egx1.symm ?_
              obtain ⟨Fx1, eFx1⟩ : ∃ z, z = fu C 7 (upd (C 7) (x) (nI 0)) := ⟨_, rfl⟩
              have hSx1 : RS (xK X) gx1 m Q th (nI Od.length) (b01 true) Fx1 := by rw [egx1, eFx1]; exact hC.put 7 (by decide) _
              refine j_iinc (v := nI (x + 1)) (lv' := [(1, .int (nI (x + 1))), (0, .ref m)]) hX dX11_settle_89 0 rfl (nI_1 x) (by rw [hn]; decide) rfl ?_
              refine j_goto hX 59 dX11_settle_92 (by decide) ?_
              refine j_sub [0, 1] rfl ?_
              exact ihx (x + 1) Fx1 gx1 (by omega) hSx1 (fun j hj => by rw [eFx1, fu_n hj]; exact hKC j hj) (fun q hq k => by
                rw [eFx1, fu_s]
                by_cases e : q = x
                · subst e; omega
                · rw [pk_un e]; exact h7 q (by omega) k)
        refine j_sub (lv' := [(1, .int (nI 0)), (0, .ref m)]) [0, 1] rfl ?_
        exact chg 8 0 G g9 (by omega) hG (fun _ _ => rfl) (fun q hq => absurd hq (by omega))
      | succ n ih =>
        intro j M G g9 hj9 hG hK hM hEq
        have hj : j < Od.length := by omega
        have hx8 : Od[j] < 8 := hA.1.2.1 _ (List.getElem_mem hj)
        have hax : 0 < ak A Od[j] := (hA.1.2.2.1 _ hx8).mp (List.getElem_mem hj)
        have hax8 := (hI _ hx8).1.2.1
        by_cases h1 : ak A Od[j] = 1
        · refine j_aload_n hX dX11_settle_2 1 rfl ?_
          refine j_get (v := .int (b01 true)) hX hG.1 rfl wf_X11 16 (by decide) lk_X11_68 (fun _ h => h) rfl dX11_settle_3 ?_
          refine j_if_eq hX 48 dX11_settle_6 (by decide) (fun c_6 => absurd c_6 (by decide)) (fun _ => ?_)
          refine j_iload_n hX dX11_settle_9 0 rfl ?_
          refine j_aload_n hX dX11_settle_10 1 rfl ?_
          refine j_get (v := .int (nI Od.length)) hX hG.1 rfl wf_X11 8 (by decide) lk_X11_116 (fun _ h => h) rfl dX11_settle_11 ?_
          refine j_icmp_ge hX 48 dX11_settle_14 (by decide) (fun c_14 => absurd c_14 (nI_ge (a := j) (b := Od.length) (by omega) (by omega))) (fun _ => ?_)
          refine j_aload_n hX dX11_settle_17 1 rfl ?_
          refine j_get (v := .ref (Q 0)) hX hG.1 rfl wf_X11 1 (by decide) lk_X11_7 (fun _ h => h) rfl dX11_settle_18 ?_
          refine j_aload_n hX dX11_settle_21 1 rfl ?_
          refine j_get (v := .ref (Q 6)) hX hG.1 rfl wf_X11 7 (by decide) lk_X11_29 (fun _ h => h) rfl dX11_settle_22 ?_
          refine j_iload_n hX dX11_settle_25 0 rfl ?_
          refine j_ialdN hX (show g9 (Q 6) = some (aI (xK X) 8 (G 6)) from hG.2.1 6 (by decide)) (j) (rfl) (by omega) (by decide) dX11_settle_26 ?_
          refine j_eqi (y := nI Od[j]) (by rw [hK 6 (by decide)]; exact hA.2.1 j _ (List.getElem?_eq_getElem hj)) ?_
          refine j_ialdN hX (show g9 (Q 0) = some (aI (xK X) 8 (G 0)) from hG.2.1 0 (by decide)) (Od[j]) (rfl) (hx8) (by decide) dX11_settle_27 ?_
          refine j_eqi (y := nI (ak A Od[j])) (by rw [hK 0 (by decide)]; exact (hA.2.2 _ hx8).1.1) ?_
          refine j_iconst (v := nI 1) hX dX11_settle_28 (by decide) ?_
          refine j_icmp_eq hX 42 dX11_settle_29 (by decide) (fun _ => ?_) (fun c_29 => absurd (congrArg nI h1) c_29)
          refine j_iinc (v := nI (j + 1)) (lv' := [(1, .int (nI (j + 1))), (0, .ref m)]) hX dX11_settle_42 0 rfl (nI_1 j) (by rw [hn]; decide) rfl ?_
          refine j_goto hX 2 dX11_settle_45 (by decide) ?_
          refine j_sub [0, 1] rfl ?_
          exact ih (j + 1) M G g9 (by omega) hG hK hM (eq_skip hj hEq (by omega))
        · have h2 : 2 ≤ ak A Od[j] := by omega
          have iv := (hI _ hx8).2.2.2.2 h2
          obtain ⟨⟨s1, s2⟩, sd1, sd2⟩ := hI.src hx8 h2
          have hne : al A Od[j] ≠ Od[j] := fun e => by rw [e] at sd1; omega
          have hne2 : ar A Od[j] ≠ Od[j] := fun e => by rw [e] at sd2; omega
          refine j_aload_n hX dX11_settle_2 1 rfl ?_
          refine j_get (v := .int (b01 true)) hX hG.1 rfl wf_X11 16 (by decide) lk_X11_68 (fun _ h => h) rfl dX11_settle_3 ?_
          refine j_if_eq hX 48 dX11_settle_6 (by decide) (fun c_6 => absurd c_6 (by decide)) (fun _ => ?_)
          refine j_iload_n hX dX11_settle_9 0 rfl ?_
          refine j_aload_n hX dX11_settle_10 1 rfl ?_
          refine j_get (v := .int (nI Od.length)) hX hG.1 rfl wf_X11 8 (by decide) lk_X11_116 (fun _ h => h) rfl dX11_settle_11 ?_
          refine j_icmp_ge hX 48 dX11_settle_14 (by decide) (fun c_14 => absurd c_14 (nI_ge (a := j) (b := Od.length) (by omega) (by omega))) (fun _ => ?_)
          refine j_aload_n hX dX11_settle_17 1 rfl ?_
          refine j_get (v := .ref (Q 0)) hX hG.1 rfl wf_X11 1 (by decide) lk_X11_7 (fun _ h => h) rfl dX11_settle_18 ?_
          refine j_aload_n hX dX11_settle_21 1 rfl ?_
          refine j_get (v := .ref (Q 6)) hX hG.1 rfl wf_X11 7 (by decide) lk_X11_29 (fun _ h => h) rfl dX11_settle_22 ?_
          refine j_iload_n hX dX11_settle_25 0 rfl ?_
          refine j_ialdN hX (show g9 (Q 6) = some (aI (xK X) 8 (G 6)) from hG.2.1 6 (by decide)) (j) (rfl) (by omega) (by decide) dX11_settle_26 ?_
          refine j_eqi (y := nI Od[j]) (by rw [hK 6 (by decide)]; exact hA.2.1 j _ (List.getElem?_eq_getElem hj)) ?_
          refine j_ialdN hX (show g9 (Q 0) = some (aI (xK X) 8 (G 0)) from hG.2.1 0 (by decide)) (Od[j]) (rfl) (hx8) (by decide) dX11_settle_27 ?_
          refine j_eqi (y := nI (ak A Od[j])) (by rw [hK 0 (by decide)]; exact (hA.2.2 _ hx8).1.1) ?_
          refine j_iconst (v := nI 1) hX dX11_settle_28 (by decide) ?_
          refine j_icmp_eq hX 42 dX11_settle_29 (by decide) (fun c_29 => absurd c_29 (fun q => h1 ((nI_eq (by omega) (by decide)).mp q))) (fun _ => ?_)
          refine j_aload_n hX dX11_settle_32 1 rfl ?_
          refine j_aload_n hX dX11_settle_33 1 rfl ?_
          refine j_get (v := .ref (Q 6)) hX hG.1 rfl wf_X11 7 (by decide) lk_X11_29 (fun _ h => h) rfl dX11_settle_34 ?_
          refine j_iload_n hX dX11_settle_37 0 rfl ?_
          refine j_ialdN hX (show g9 (Q 6) = some (aI (xK X) 8 (G 6)) from hG.2.1 6 (by decide)) (j) (rfl) (by omega) (by decide) dX11_settle_38 ?_
          refine j_eqi (y := nI Od[j]) (by rw [hK 6 (by decide)]; exact hA.2.1 j _ (List.getElem?_eq_getElem hj)) ?_
          refine j_callV (As := [.int (nI Od[j])]) (rest := []) hX (c_X11_make (xl X) (xK X) g9 m Q th (nI Od.length) G hG Od[j] (ak A Od[j]) (aw A Od[j]) (al A Od[j]) (ar A Od[j]) (aw A (al A Od[j])) (aw A (ar A Od[j])) (an A Od[j]) (ao A Od[j]) (M (al A Od[j])) (M (ar A Od[j])) hx8 s1 s2 hne hne2 ((hA.kp hK).2.2 _ hx8 |>.vd h2 (((hA.kp hK).2.2 _ s1).1.2) (((hA.kp hK).2.2 _ s2).1.2)) (by have := (hI _ hx8).1.2.2.1; omega) (hI _ hx8).1.1 (hM _ s1).1 (hM _ s1).2.1 (hM _ s1).2.2 (hM _ s2).1 (hM _ s2).2.1 (hM _ s2).2.2 iv.2.1 iv.2.2.1) hG.1 rfl lk_X11_126 wI_X11_make wV_X11_X11_make wN_X11 wC_X11_make hd_X11_make rfl (by rw [hL]; decide) (by decide) rfl (Nat.le_of_ble_eq_true rfl) dX11_settle_39 (by rw [hR]; decide) (by rw [hR]; decide) jx_no ?_
          rintro _ g3 ⟨rfl, F3, fb3, hS3, hK3, ht3, hf3⟩
          have k3 : ∀ j, j < 11 → F3 j = F j := fun j hj => (hK3.1 j hj).trans (hK j hj)
          cases fb3
          · have hev := hf3 rfl
            show J X 0 0 g3 42 [(1, .int (nI j)), (0, .ref m)] []
            refine j_iinc (v := nI (j + 1)) (lv' := [(1, .int (nI (j + 1))), (0, .ref m)]) hX dX11_settle_42 0 rfl (nI_1 j) (by rw [hn]; decide) rfl ?_
            refine j_goto hX 2 dX11_settle_45 (by decide) ?_
            refine j_sub [0, 1] rfl ?_
            exact dead (j + 1) F3 g3 hS3 k3 (fun q => upd_none hI hA.1 hj hEq h2 hev q.2)
          · obtain ⟨B, hev, hN3, kB3⟩ := ht3 rfl
            show J X 0 0 g3 42 [(1, .int (nI j)), (0, .ref m)] []
            refine j_iinc (v := nI (j + 1)) (lv' := [(1, .int (nI (j + 1))), (0, .ref m)]) hX dX11_settle_42 0 rfl (nI_1 j) (by rw [hn]; decide) rfl ?_
            refine j_goto hX 2 dX11_settle_45 (by decide) ?_
            refine j_sub [0, 1] rfl ?_
            exact ih (j + 1) (fu M Od[j] B) F3 g3 (by omega) hS3 k3 (fun q hq => by
              by_cases e : q = Od[j]
              · rw [e, fu_s]; exact ⟨hN3, evalV_good (hM _ s1).2.1 hev, kB3.2.1⟩
              · rw [fu_n e]; exact ⟨hK3.nb e (hM q hq).1 (hM q hq).2.1.2.1, (hM q hq).2⟩) (eq_step hA.1 hj hEq h2 hev)
    obtain ⟨⟨gB, zB⟩, hN9⟩ := hN hfb
    subst hfb
    refine j_sub (lv' := [(1, .int (nI 0)), (0, .ref m)]) [0, 1] rfl ?_
    exact live Od.length 0 (fun q => if q = t then B9 else aB A q) F g (by omega) hS (fun _ _ => rfl) (fun q hq => ⟨hN9 q hq, by
      show good (if q = t then B9 else aB A q) ∧ zw (aw A q) (if q = t then B9 else aB A q)
      by_cases e : q = t
      · subst e; rw [if_pos rfl]; exact ⟨gB, zB⟩
      · rw [if_neg e]; exact (hI q hq).2.2.1⟩) (fun i hi hPi => by
      have hPi : ak A i ≤ 1 := hPi.resolve_right (by simp)
      exact ⟨fun _ => rfl, fun k => by omega⟩)
  · subst hfb
    refine j_sub (lv' := [(1, .int (nI 0)), (0, .ref m)]) [0, 1] rfl ?_
    exact dead 0 F g hS (fun _ _ => rfl) (fun q => absurd q.1 (by decide))

