/-- the first n arrays are made -/
def PR (K : Cst) (g : Wd) (m : Nat) (Q : Nat → Nat) (n : Nat) (fs : List Value) : Prop := g m = some (ob 10 fs) ∧ (∀ j, j < n → g (Q j) = some (cl K j (fun _ => 0))) ∧ (∀ i, i < n → ∀ j, j < n → Q i = Q j → i = j) ∧ Sub (kF K) g ∧ ∀ q e, kF K q = some e → q ≠ m ∧ ∀ j, j < n → q ≠ Q j
theorem PR.new {K : Cst} {g : Wd} {m : Nat} {Q : Nat → Nat} {n : Nat} {fs : List Value} (h : PR K g m Q n fs) {q : Nat} (hq : g q = none) : PR K (up g q (cl K n (fun _ => 0))) m (fu Q n q) (n + 1) fs := by
  obtain ⟨h1, h2, h3, h4, h5⟩ := h
  refine ⟨?_, fun j hj => ?_, fun i hi j hj e => ?_, fun z e hz => ?_, fun z e hz => ?_⟩
  · rw [up_n (ne_fr h1 hq)]; exact h1
  · by_cases e : j = n
    · subst e; rw [fu_s, up_s]
    · rw [fu_n e, up_n (ne_fr (h2 j (by omega)) hq)]; exact h2 j (by omega)
  · by_cases e1 : i = n
    · by_cases e2 : j = n
      · omega
      · rw [e1, fu_s, fu_n e2] at e
        exact absurd e.symm (ne_fr (h2 j (by omega)) hq)
    · by_cases e2 : j = n
      · rw [e2, fu_s, fu_n e1] at e
        exact absurd e (ne_fr (h2 i (by omega)) hq)
      · rw [fu_n e1, fu_n e2] at e; exact h3 i (by omega) j (by omega) e
  · rw [up_n (ne_fr (h4 z e hz) hq)]; exact h4 z e hz
  · refine ⟨(h5 z e hz).1, fun j hj => ?_⟩
    by_cases e2 : j = n
    · subst e2; rw [fu_s]; exact ne_fr (h4 z e hz) hq
    · rw [fu_n e2]; exact (h5 z e hz).2 j (by omega)
theorem PR.put {K : Cst} {g : Wd} {m : Nat} {Q : Nat → Nat} {n : Nat} {fs : List Value} (h : PR K g m Q n fs) (fs' : List Value) : PR K (up g m (ob 10 fs')) m Q n fs' := by
  obtain ⟨h1, h2, h3, h4, h5⟩ := h
  refine ⟨up_s _ _ _, fun j hj => ?_, h3, fun z e hz => ?_, h5⟩
  · rw [up_n (fun q => cl_ob K j (fun _ => 0) _ _ (Option.some.inj ((h2 j hj).symm.trans (by rw [q]; exact h1))))]; exact h2 j hj
  · rw [up_n (h5 z e hz).1]; exact h4 z e hz
theorem RA0 : RA A0 [] (fun _ _ => 0) := by
  refine ⟨⟨List.nodup_nil, fun x hx => ?_, fun i hi => ⟨fun q => ?_, fun q => absurd (show 0 < 0 from q) (by decide)⟩, fun x hx => ?_⟩, fun k x hx => ?_, fun i hi => ⟨⟨rfl, rfl⟩, ⟨rfl, fun k x hx => ?_⟩, fun k => absurd (show 0 < 0 from k) (by decide), fun k => absurd (show 2 ≤ 0 from k) (by decide)⟩⟩
  · cases hx
  · cases q
  · cases hx
  · cases hx
  · cases hx
set_option maxRecDepth 20000 in
set_option maxHeartbeats 600000 in
/-- BagViewsModel() -/
theorem c_X11_init (l : Launch) (K : Cst) (g : Wd) (m : Nat) (hm9 : g m = some (ob 10 [.int 0, .null, .null, .null, .null, .null, .null, .null, .int 0, .null, .null, .null, .null, .null, .null, .null, .int 0, .null])) (hz : Sub (kF K) g) (hzm : ∀ q e, kF K q = some e → q ≠ m) : Ct l K yX11_init cX11_init 1 none 1 [.ref m] g (fun v g' => v = none ∧ RX K g' m (nI 0) A0) (fun _ _ => False) 15 5228 := by
  refine ct_of (by decide) (Nat.le_of_ble_eq_true rfl) ?_
  intro X hl hK hX hE hn hL hR hm
  subst hl; subst hK
  show J X 0 0 g 0 [(0, .ref m)] []
  have hP0 : PR (xK X) g m (fun _ => 0) 0 [.int 0, .null, .null, .null, .null, .null, .null, .null, .int 0, .null, .null, .null, .null, .null, .null, .null, .int 0, .null] := ⟨hm9, fun j hj => absurd hj (by omega), fun i hi => absurd hi (by omega), hz, fun q e hq => ⟨hzm q e hq, fun j hj => absurd hj (by omega)⟩⟩
  refine j_aload_n hX dX11_init_0 0 rfl ?_
  refine j_objI hX lk_X11_1 (by rw [hL]; decide) (Nat.le_of_ble_eq_true rfl) dX11_init_1 ?_
  refine j_aload_n hX dX11_init_4 0 rfl ?_
  refine j_bipush (v := nI 8) hX dX11_init_5 (by decide) ?_
  refine j_newI (n := 8) hX (rfl) (by decide) dX11_init_7 (by rw [hR]; decide) (by rw [hR]; decide) (fun q0 fq0 => ?_)
  obtain ⟨g1, eg1⟩ : ∃ z : Wd, z = up g q0 (aI (xK X) 8 (fun _ => 0)) := ⟨_, rfl⟩
  refine j_w eg1.symm ?_
  have hP1 : PR (xK X) g1 m (fu (fun _ => 0) 0 q0) 1 [.int 0, .null, .null, .null, .null, .null, .null, .null, .int 0, .null, .null, .null, .null, .null, .null, .null, .int 0, .null] := by rw [eg1]; exact hP0.new fq0
  show J X 1 8 g1 9 [(0, .ref m)] [.ref q0, .ref m]
  refine j_putF hX hm hP1.1 rfl wf_X11 tyX11_ok nmX11 1 (by decide) lk_X11_7 (fun _ h => h) rfl rfl (tyX11_ok 1 (by decide)) rfl rfl (Nat.le_of_ble_eq_true rfl) dX11_init_9 ?_
  obtain ⟨g2, eg2⟩ : ∃ z : Wd, z = up g1 m (ob 10 [.int 0, .ref q0, .null, .null, .null, .null, .null, .null, .int 0, .null, .null, .null, .null, .null, .null, .null, .int 0, .null]) := ⟨_, rfl⟩
  refine j_w eg2.symm ?_
  have hP2 : PR (xK X) g2 m (fu (fun _ => 0) 0 q0) 1 [.int 0, .ref q0, .null, .null, .null, .null, .null, .null, .int 0, .null, .null, .null, .null, .null, .null, .null, .int 0, .null] := by rw [eg2]; exact hP1.put _
  refine j_aload_n hX dX11_init_12 0 rfl ?_
  refine j_bipush (v := nI 8) hX dX11_init_13 (by decide) ?_
  refine j_newI (n := 8) hX (rfl) (by decide) dX11_init_15 (by rw [hR]; decide) (by rw [hR]; decide) (fun q1 fq1 => ?_)
  obtain ⟨g3, eg3⟩ : ∃ z : Wd, z = up g2 q1 (aI (xK X) 8 (fun _ => 0)) := ⟨_, rfl⟩
  refine j_w eg3.symm ?_
  have hP3 : PR (xK X) g3 m (fu (fu (fun _ => 0) 0 q0) 1 q1) 2 [.int 0, .ref q0, .null, .null, .null, .null, .null, .null, .int 0, .null, .null, .null, .null, .null, .null, .null, .int 0, .null] := by rw [eg3]; exact hP2.new fq1
  show J X 2 16 g3 17 [(0, .ref m)] [.ref q1, .ref m]
  refine j_putF hX hm hP3.1 rfl wf_X11 tyX11_ok nmX11 2 (by decide) lk_X11_13 (fun _ h => h) rfl rfl (tyX11_ok 2 (by decide)) rfl rfl (Nat.le_of_ble_eq_true rfl) dX11_init_17 ?_
  obtain ⟨g4, eg4⟩ : ∃ z : Wd, z = up g3 m (ob 10 [.int 0, .ref q0, .ref q1, .null, .null, .null, .null, .null, .int 0, .null, .null, .null, .null, .null, .null, .null, .int 0, .null]) := ⟨_, rfl⟩
  refine j_w eg4.symm ?_
  have hP4 : PR (xK X) g4 m (fu (fu (fun _ => 0) 0 q0) 1 q1) 2 [.int 0, .ref q0, .ref q1, .null, .null, .null, .null, .null, .int 0, .null, .null, .null, .null, .null, .null, .null, .int 0, .null] := by rw [eg4]; exact hP3.put _
  refine j_aload_n hX dX11_init_20 0 rfl ?_
  refine j_bipush (v := nI 8) hX dX11_init_21 (by decide) ?_
  refine j_newI (n := 8) hX (rfl) (by decide) dX11_init_23 (by rw [hR]; decide) (by rw [hR]; decide) (fun q2 fq2 => ?_)
  obtain ⟨g5, eg5⟩ : ∃ z : Wd, z = up g4 q2 (aI (xK X) 8 (fun _ => 0)) := ⟨_, rfl⟩
  refine j_w eg5.symm ?_
  have hP5 : PR (xK X) g5 m (fu (fu (fu (fun _ => 0) 0 q0) 1 q1) 2 q2) 3 [.int 0, .ref q0, .ref q1, .null, .null, .null, .null, .null, .int 0, .null, .null, .null, .null, .null, .null, .null, .int 0, .null] := by rw [eg5]; exact hP4.new fq2
  show J X 3 24 g5 25 [(0, .ref m)] [.ref q2, .ref m]
  refine j_putF hX hm hP5.1 rfl wf_X11 tyX11_ok nmX11 3 (by decide) lk_X11_16 (fun _ h => h) rfl rfl (tyX11_ok 3 (by decide)) rfl rfl (Nat.le_of_ble_eq_true rfl) dX11_init_25 ?_
  obtain ⟨g6, eg6⟩ : ∃ z : Wd, z = up g5 m (ob 10 [.int 0, .ref q0, .ref q1, .ref q2, .null, .null, .null, .null, .int 0, .null, .null, .null, .null, .null, .null, .null, .int 0, .null]) := ⟨_, rfl⟩
  refine j_w eg6.symm ?_
  have hP6 : PR (xK X) g6 m (fu (fu (fu (fun _ => 0) 0 q0) 1 q1) 2 q2) 3 [.int 0, .ref q0, .ref q1, .ref q2, .null, .null, .null, .null, .int 0, .null, .null, .null, .null, .null, .null, .null, .int 0, .null] := by rw [eg6]; exact hP5.put _
  refine j_aload_n hX dX11_init_28 0 rfl ?_
  refine j_bipush (v := nI 8) hX dX11_init_29 (by decide) ?_
  refine j_newI (n := 8) hX (rfl) (by decide) dX11_init_31 (by rw [hR]; decide) (by rw [hR]; decide) (fun q3 fq3 => ?_)
  obtain ⟨g7, eg7⟩ : ∃ z : Wd, z = up g6 q3 (aI (xK X) 8 (fun _ => 0)) := ⟨_, rfl⟩
  refine j_w eg7.symm ?_
  have hP7 : PR (xK X) g7 m (fu (fu (fu (fu (fun _ => 0) 0 q0) 1 q1) 2 q2) 3 q3) 4 [.int 0, .ref q0, .ref q1, .ref q2, .null, .null, .null, .null, .int 0, .null, .null, .null, .null, .null, .null, .null, .int 0, .null] := by rw [eg7]; exact hP6.new fq3
  show J X 4 32 g7 33 [(0, .ref m)] [.ref q3, .ref m]
  refine j_putF hX hm hP7.1 rfl wf_X11 tyX11_ok nmX11 4 (by decide) lk_X11_19 (fun _ h => h) rfl rfl (tyX11_ok 4 (by decide)) rfl rfl (Nat.le_of_ble_eq_true rfl) dX11_init_33 ?_
  obtain ⟨g8, eg8⟩ : ∃ z : Wd, z = up g7 m (ob 10 [.int 0, .ref q0, .ref q1, .ref q2, .ref q3, .null, .null, .null, .int 0, .null, .null, .null, .null, .null, .null, .null, .int 0, .null]) := ⟨_, rfl⟩
  refine j_w eg8.symm ?_
  have hP8 : PR (xK X) g8 m (fu (fu (fu (fu (fun _ => 0) 0 q0) 1 q1) 2 q2) 3 q3) 4 [.int 0, .ref q0, .ref q1, .ref q2, .ref q3, .null, .null, .null, .int 0, .null, .null, .null, .null, .null, .null, .null, .int 0, .null] := by rw [eg8]; exact hP7.put _
  refine j_aload_n hX dX11_init_36 0 rfl ?_
  refine j_bipush (v := nI 32) hX dX11_init_37 (by decide) ?_
  refine j_newI (n := 32) hX (rfl) (by decide) dX11_init_39 (by rw [hR]; decide) (by rw [hR]; decide) (fun q4 fq4 => ?_)
  obtain ⟨g9, eg9⟩ : ∃ z : Wd, z = up g8 q4 (aI (xK X) 32 (fun _ => 0)) := ⟨_, rfl⟩
  refine j_w eg9.symm ?_
  have hP9 : PR (xK X) g9 m (fu (fu (fu (fu (fu (fun _ => 0) 0 q0) 1 q1) 2 q2) 3 q3) 4 q4) 5 [.int 0, .ref q0, .ref q1, .ref q2, .ref q3, .null, .null, .null, .int 0, .null, .null, .null, .null, .null, .null, .null, .int 0, .null] := by rw [eg9]; exact hP8.new fq4
  show J X 5 64 g9 41 [(0, .ref m)] [.ref q4, .ref m]
  refine j_putF hX hm hP9.1 rfl wf_X11 tyX11_ok nmX11 5 (by decide) lk_X11_22 (fun _ h => h) rfl rfl (tyX11_ok 5 (by decide)) rfl rfl (Nat.le_of_ble_eq_true rfl) dX11_init_41 ?_
  obtain ⟨g10, eg10⟩ : ∃ z : Wd, z = up g9 m (ob 10 [.int 0, .ref q0, .ref q1, .ref q2, .ref q3, .ref q4, .null, .null, .int 0, .null, .null, .null, .null, .null, .null, .null, .int 0, .null]) := ⟨_, rfl⟩
  refine j_w eg10.symm ?_
  have hP10 : PR (xK X) g10 m (fu (fu (fu (fu (fu (fun _ => 0) 0 q0) 1 q1) 2 q2) 3 q3) 4 q4) 5 [.int 0, .ref q0, .ref q1, .ref q2, .ref q3, .ref q4, .null, .null, .int 0, .null, .null, .null, .null, .null, .null, .null, .int 0, .null] := by rw [eg10]; exact hP9.put _
  refine j_aload_n hX dX11_init_44 0 rfl ?_
  refine j_bipush (v := nI 8) hX dX11_init_45 (by decide) ?_
  refine j_newZ (n := 8) hX (rfl) (by decide) dX11_init_47 (by rw [hR]; decide) (by rw [hR]; decide) (fun q5 fq5 => ?_)
  obtain ⟨g11, eg11⟩ : ∃ z : Wd, z = up g10 q5 (aZ (xK X) 8 (fun _ => 0)) := ⟨_, rfl⟩
  refine j_w eg11.symm ?_
  have hP11 : PR (xK X) g11 m (fu (fu (fu (fu (fu (fu (fun _ => 0) 0 q0) 1 q1) 2 q2) 3 q3) 4 q4) 5 q5) 6 [.int 0, .ref q0, .ref q1, .ref q2, .ref q3, .ref q4, .null, .null, .int 0, .null, .null, .null, .null, .null, .null, .null, .int 0, .null] := by rw [eg11]; exact hP10.new fq5
  show J X 6 72 g11 49 [(0, .ref m)] [.ref q5, .ref m]
  refine j_putF hX hm hP11.1 rfl wf_X11 tyX11_ok nmX11 6 (by decide) lk_X11_25 (fun _ h => h) rfl rfl (tyX11_ok 6 (by decide)) rfl rfl (Nat.le_of_ble_eq_true rfl) dX11_init_49 ?_
  obtain ⟨g12, eg12⟩ : ∃ z : Wd, z = up g11 m (ob 10 [.int 0, .ref q0, .ref q1, .ref q2, .ref q3, .ref q4, .ref q5, .null, .int 0, .null, .null, .null, .null, .null, .null, .null, .int 0, .null]) := ⟨_, rfl⟩
  refine j_w eg12.symm ?_
  have hP12 : PR (xK X) g12 m (fu (fu (fu (fu (fu (fu (fun _ => 0) 0 q0) 1 q1) 2 q2) 3 q3) 4 q4) 5 q5) 6 [.int 0, .ref q0, .ref q1, .ref q2, .ref q3, .ref q4, .ref q5, .null, .int 0, .null, .null, .null, .null, .null, .null, .null, .int 0, .null] := by rw [eg12]; exact hP11.put _
  refine j_aload_n hX dX11_init_52 0 rfl ?_
  refine j_bipush (v := nI 8) hX dX11_init_53 (by decide) ?_
  refine j_newI (n := 8) hX (rfl) (by decide) dX11_init_55 (by rw [hR]; decide) (by rw [hR]; decide) (fun q6 fq6 => ?_)
  obtain ⟨g13, eg13⟩ : ∃ z : Wd, z = up g12 q6 (aI (xK X) 8 (fun _ => 0)) := ⟨_, rfl⟩
  refine j_w eg13.symm ?_
  have hP13 : PR (xK X) g13 m (fu (fu (fu (fu (fu (fu (fu (fun _ => 0) 0 q0) 1 q1) 2 q2) 3 q3) 4 q4) 5 q5) 6 q6) 7 [.int 0, .ref q0, .ref q1, .ref q2, .ref q3, .ref q4, .ref q5, .null, .int 0, .null, .null, .null, .null, .null, .null, .null, .int 0, .null] := by rw [eg13]; exact hP12.new fq6
  show J X 7 80 g13 57 [(0, .ref m)] [.ref q6, .ref m]
  refine j_putF hX hm hP13.1 rfl wf_X11 tyX11_ok nmX11 7 (by decide) lk_X11_29 (fun _ h => h) rfl rfl (tyX11_ok 7 (by decide)) rfl rfl (Nat.le_of_ble_eq_true rfl) dX11_init_57 ?_
  obtain ⟨g14, eg14⟩ : ∃ z : Wd, z = up g13 m (ob 10 [.int 0, .ref q0, .ref q1, .ref q2, .ref q3, .ref q4, .ref q5, .ref q6, .int 0, .null, .null, .null, .null, .null, .null, .null, .int 0, .null]) := ⟨_, rfl⟩
  refine j_w eg14.symm ?_
  have hP14 : PR (xK X) g14 m (fu (fu (fu (fu (fu (fu (fu (fun _ => 0) 0 q0) 1 q1) 2 q2) 3 q3) 4 q4) 5 q5) 6 q6) 7 [.int 0, .ref q0, .ref q1, .ref q2, .ref q3, .ref q4, .ref q5, .ref q6, .int 0, .null, .null, .null, .null, .null, .null, .null, .int 0, .null] := by rw [eg14]; exact hP13.put _
  refine j_aload_n hX dX11_init_60 0 rfl ?_
  refine j_bipush (v := nI 8) hX dX11_init_61 (by decide) ?_
  refine j_newI (n := 8) hX (rfl) (by decide) dX11_init_63 (by rw [hR]; decide) (by rw [hR]; decide) (fun q7 fq7 => ?_)
  obtain ⟨g15, eg15⟩ : ∃ z : Wd, z = up g14 q7 (aI (xK X) 8 (fun _ => 0)) := ⟨_, rfl⟩
  refine j_w eg15.symm ?_
  have hP15 : PR (xK X) g15 m (fu (fu (fu (fu (fu (fu (fu (fu (fun _ => 0) 0 q0) 1 q1) 2 q2) 3 q3) 4 q4) 5 q5) 6 q6) 7 q7) 8 [.int 0, .ref q0, .ref q1, .ref q2, .ref q3, .ref q4, .ref q5, .ref q6, .int 0, .null, .null, .null, .null, .null, .null, .null, .int 0, .null] := by rw [eg15]; exact hP14.new fq7
  show J X 8 88 g15 65 [(0, .ref m)] [.ref q7, .ref m]
  refine j_putF hX hm hP15.1 rfl wf_X11 tyX11_ok nmX11 9 (by decide) lk_X11_32 (fun _ h => h) rfl rfl (tyX11_ok 9 (by decide)) rfl rfl (Nat.le_of_ble_eq_true rfl) dX11_init_65 ?_
  obtain ⟨g16, eg16⟩ : ∃ z : Wd, z = up g15 m (ob 10 [.int 0, .ref q0, .ref q1, .ref q2, .ref q3, .ref q4, .ref q5, .ref q6, .int 0, .ref q7, .null, .null, .null, .null, .null, .null, .int 0, .null]) := ⟨_, rfl⟩
  refine j_w eg16.symm ?_
  have hP16 : PR (xK X) g16 m (fu (fu (fu (fu (fu (fu (fu (fu (fun _ => 0) 0 q0) 1 q1) 2 q2) 3 q3) 4 q4) 5 q5) 6 q6) 7 q7) 8 [.int 0, .ref q0, .ref q1, .ref q2, .ref q3, .ref q4, .ref q5, .ref q6, .int 0, .ref q7, .null, .null, .null, .null, .null, .null, .int 0, .null] := by rw [eg16]; exact hP15.put _
  refine j_aload_n hX dX11_init_68 0 rfl ?_
  refine j_sipush (v := nI 2048) hX dX11_init_69 (by decide) ?_
  refine j_newI (n := 2048) hX (rfl) (by decide) dX11_init_72 (by rw [hR]; decide) (by rw [hR]; decide) (fun q8 fq8 => ?_)
  obtain ⟨g17, eg17⟩ : ∃ z : Wd, z = up g16 q8 (aI (xK X) 2048 (fun _ => 0)) := ⟨_, rfl⟩
  refine j_w eg17.symm ?_
  have hP17 : PR (xK X) g17 m (fu (fu (fu (fu (fu (fu (fu (fu (fu (fun _ => 0) 0 q0) 1 q1) 2 q2) 3 q3) 4 q4) 5 q5) 6 q6) 7 q7) 8 q8) 9 [.int 0, .ref q0, .ref q1, .ref q2, .ref q3, .ref q4, .ref q5, .ref q6, .int 0, .ref q7, .null, .null, .null, .null, .null, .null, .int 0, .null] := by rw [eg17]; exact hP16.new fq8
  show J X 9 2136 g17 74 [(0, .ref m)] [.ref q8, .ref m]
  refine j_putF hX hm hP17.1 rfl wf_X11 tyX11_ok nmX11 10 (by decide) lk_X11_35 (fun _ h => h) rfl rfl (tyX11_ok 10 (by decide)) rfl rfl (Nat.le_of_ble_eq_true rfl) dX11_init_74 ?_
  obtain ⟨g18, eg18⟩ : ∃ z : Wd, z = up g17 m (ob 10 [.int 0, .ref q0, .ref q1, .ref q2, .ref q3, .ref q4, .ref q5, .ref q6, .int 0, .ref q7, .ref q8, .null, .null, .null, .null, .null, .int 0, .null]) := ⟨_, rfl⟩
  refine j_w eg18.symm ?_
  have hP18 : PR (xK X) g18 m (fu (fu (fu (fu (fu (fu (fu (fu (fu (fun _ => 0) 0 q0) 1 q1) 2 q2) 3 q3) 4 q4) 5 q5) 6 q6) 7 q7) 8 q8) 9 [.int 0, .ref q0, .ref q1, .ref q2, .ref q3, .ref q4, .ref q5, .ref q6, .int 0, .ref q7, .ref q8, .null, .null, .null, .null, .null, .int 0, .null] := by rw [eg18]; exact hP17.put _
  refine j_aload_n hX dX11_init_77 0 rfl ?_
  refine j_sipush (v := nI 512) hX dX11_init_78 (by decide) ?_
  refine j_newI (n := 512) hX (rfl) (by decide) dX11_init_81 (by rw [hR]; decide) (by rw [hR]; decide) (fun q9 fq9 => ?_)
  obtain ⟨g19, eg19⟩ : ∃ z : Wd, z = up g18 q9 (aI (xK X) 512 (fun _ => 0)) := ⟨_, rfl⟩
  refine j_w eg19.symm ?_
  have hP19 : PR (xK X) g19 m (fu (fu (fu (fu (fu (fu (fu (fu (fu (fu (fun _ => 0) 0 q0) 1 q1) 2 q2) 3 q3) 4 q4) 5 q5) 6 q6) 7 q7) 8 q8) 9 q9) 10 [.int 0, .ref q0, .ref q1, .ref q2, .ref q3, .ref q4, .ref q5, .ref q6, .int 0, .ref q7, .ref q8, .null, .null, .null, .null, .null, .int 0, .null] := by rw [eg19]; exact hP18.new fq9
  show J X 10 2648 g19 83 [(0, .ref m)] [.ref q9, .ref m]
  refine j_putF hX hm hP19.1 rfl wf_X11 tyX11_ok nmX11 11 (by decide) lk_X11_38 (fun _ h => h) rfl rfl (tyX11_ok 11 (by decide)) rfl rfl (Nat.le_of_ble_eq_true rfl) dX11_init_83 ?_
  obtain ⟨g20, eg20⟩ : ∃ z : Wd, z = up g19 m (ob 10 [.int 0, .ref q0, .ref q1, .ref q2, .ref q3, .ref q4, .ref q5, .ref q6, .int 0, .ref q7, .ref q8, .ref q9, .null, .null, .null, .null, .int 0, .null]) := ⟨_, rfl⟩
  refine j_w eg20.symm ?_
  have hP20 : PR (xK X) g20 m (fu (fu (fu (fu (fu (fu (fu (fu (fu (fu (fun _ => 0) 0 q0) 1 q1) 2 q2) 3 q3) 4 q4) 5 q5) 6 q6) 7 q7) 8 q8) 9 q9) 10 [.int 0, .ref q0, .ref q1, .ref q2, .ref q3, .ref q4, .ref q5, .ref q6, .int 0, .ref q7, .ref q8, .ref q9, .null, .null, .null, .null, .int 0, .null] := by rw [eg20]; exact hP19.put _
  refine j_aload_n hX dX11_init_86 0 rfl ?_
  refine j_bipush (v := nI 8) hX dX11_init_87 (by decide) ?_
  refine j_newI (n := 8) hX (rfl) (by decide) dX11_init_89 (by rw [hR]; decide) (by rw [hR]; decide) (fun q10 fq10 => ?_)
  obtain ⟨g21, eg21⟩ : ∃ z : Wd, z = up g20 q10 (aI (xK X) 8 (fun _ => 0)) := ⟨_, rfl⟩
  refine j_w eg21.symm ?_
  have hP21 : PR (xK X) g21 m (fu (fu (fu (fu (fu (fu (fu (fu (fu (fu (fu (fun _ => 0) 0 q0) 1 q1) 2 q2) 3 q3) 4 q4) 5 q5) 6 q6) 7 q7) 8 q8) 9 q9) 10 q10) 11 [.int 0, .ref q0, .ref q1, .ref q2, .ref q3, .ref q4, .ref q5, .ref q6, .int 0, .ref q7, .ref q8, .ref q9, .null, .null, .null, .null, .int 0, .null] := by rw [eg21]; exact hP20.new fq10
  show J X 11 2656 g21 91 [(0, .ref m)] [.ref q10, .ref m]
  refine j_putF hX hm hP21.1 rfl wf_X11 tyX11_ok nmX11 12 (by decide) lk_X11_41 (fun _ h => h) rfl rfl (tyX11_ok 12 (by decide)) rfl rfl (Nat.le_of_ble_eq_true rfl) dX11_init_91 ?_
  obtain ⟨g22, eg22⟩ : ∃ z : Wd, z = up g21 m (ob 10 [.int 0, .ref q0, .ref q1, .ref q2, .ref q3, .ref q4, .ref q5, .ref q6, .int 0, .ref q7, .ref q8, .ref q9, .ref q10, .null, .null, .null, .int 0, .null]) := ⟨_, rfl⟩
  refine j_w eg22.symm ?_
  have hP22 : PR (xK X) g22 m (fu (fu (fu (fu (fu (fu (fu (fu (fu (fu (fu (fun _ => 0) 0 q0) 1 q1) 2 q2) 3 q3) 4 q4) 5 q5) 6 q6) 7 q7) 8 q8) 9 q9) 10 q10) 11 [.int 0, .ref q0, .ref q1, .ref q2, .ref q3, .ref q4, .ref q5, .ref q6, .int 0, .ref q7, .ref q8, .ref q9, .ref q10, .null, .null, .null, .int 0, .null] := by rw [eg22]; exact hP21.put _
  refine j_aload_n hX dX11_init_94 0 rfl ?_
  refine j_sipush (v := nI 2048) hX dX11_init_95 (by decide) ?_
  refine j_newI (n := 2048) hX (rfl) (by decide) dX11_init_98 (by rw [hR]; decide) (by rw [hR]; decide) (fun q11 fq11 => ?_)
  obtain ⟨g23, eg23⟩ : ∃ z : Wd, z = up g22 q11 (aI (xK X) 2048 (fun _ => 0)) := ⟨_, rfl⟩
  refine j_w eg23.symm ?_
  have hP23 : PR (xK X) g23 m (fu (fu (fu (fu (fu (fu (fu (fu (fu (fu (fu (fu (fun _ => 0) 0 q0) 1 q1) 2 q2) 3 q3) 4 q4) 5 q5) 6 q6) 7 q7) 8 q8) 9 q9) 10 q10) 11 q11) 12 [.int 0, .ref q0, .ref q1, .ref q2, .ref q3, .ref q4, .ref q5, .ref q6, .int 0, .ref q7, .ref q8, .ref q9, .ref q10, .null, .null, .null, .int 0, .null] := by rw [eg23]; exact hP22.new fq11
  show J X 12 4704 g23 100 [(0, .ref m)] [.ref q11, .ref m]
  refine j_putF hX hm hP23.1 rfl wf_X11 tyX11_ok nmX11 13 (by decide) lk_X11_44 (fun _ h => h) rfl rfl (tyX11_ok 13 (by decide)) rfl rfl (Nat.le_of_ble_eq_true rfl) dX11_init_100 ?_
  obtain ⟨g24, eg24⟩ : ∃ z : Wd, z = up g23 m (ob 10 [.int 0, .ref q0, .ref q1, .ref q2, .ref q3, .ref q4, .ref q5, .ref q6, .int 0, .ref q7, .ref q8, .ref q9, .ref q10, .ref q11, .null, .null, .int 0, .null]) := ⟨_, rfl⟩
  refine j_w eg24.symm ?_
  have hP24 : PR (xK X) g24 m (fu (fu (fu (fu (fu (fu (fu (fu (fu (fu (fu (fu (fun _ => 0) 0 q0) 1 q1) 2 q2) 3 q3) 4 q4) 5 q5) 6 q6) 7 q7) 8 q8) 9 q9) 10 q10) 11 q11) 12 [.int 0, .ref q0, .ref q1, .ref q2, .ref q3, .ref q4, .ref q5, .ref q6, .int 0, .ref q7, .ref q8, .ref q9, .ref q10, .ref q11, .null, .null, .int 0, .null] := by rw [eg24]; exact hP23.put _
  refine j_aload_n hX dX11_init_103 0 rfl ?_
  refine j_sipush (v := nI 512) hX dX11_init_104 (by decide) ?_
  refine j_newI (n := 512) hX (rfl) (by decide) dX11_init_107 (by rw [hR]; decide) (by rw [hR]; decide) (fun q12 fq12 => ?_)
  obtain ⟨g25, eg25⟩ : ∃ z : Wd, z = up g24 q12 (aI (xK X) 512 (fun _ => 0)) := ⟨_, rfl⟩
  refine j_w eg25.symm ?_
  have hP25 : PR (xK X) g25 m (fu (fu (fu (fu (fu (fu (fu (fu (fu (fu (fu (fu (fu (fun _ => 0) 0 q0) 1 q1) 2 q2) 3 q3) 4 q4) 5 q5) 6 q6) 7 q7) 8 q8) 9 q9) 10 q10) 11 q11) 12 q12) 13 [.int 0, .ref q0, .ref q1, .ref q2, .ref q3, .ref q4, .ref q5, .ref q6, .int 0, .ref q7, .ref q8, .ref q9, .ref q10, .ref q11, .null, .null, .int 0, .null] := by rw [eg25]; exact hP24.new fq12
  show J X 13 5216 g25 109 [(0, .ref m)] [.ref q12, .ref m]
  refine j_putF hX hm hP25.1 rfl wf_X11 tyX11_ok nmX11 14 (by decide) lk_X11_47 (fun _ h => h) rfl rfl (tyX11_ok 14 (by decide)) rfl rfl (Nat.le_of_ble_eq_true rfl) dX11_init_109 ?_
  obtain ⟨g26, eg26⟩ : ∃ z : Wd, z = up g25 m (ob 10 [.int 0, .ref q0, .ref q1, .ref q2, .ref q3, .ref q4, .ref q5, .ref q6, .int 0, .ref q7, .ref q8, .ref q9, .ref q10, .ref q11, .ref q12, .null, .int 0, .null]) := ⟨_, rfl⟩
  refine j_w eg26.symm ?_
  have hP26 : PR (xK X) g26 m (fu (fu (fu (fu (fu (fu (fu (fu (fu (fu (fu (fu (fu (fun _ => 0) 0 q0) 1 q1) 2 q2) 3 q3) 4 q4) 5 q5) 6 q6) 7 q7) 8 q8) 9 q9) 10 q10) 11 q11) 12 q12) 13 [.int 0, .ref q0, .ref q1, .ref q2, .ref q3, .ref q4, .ref q5, .ref q6, .int 0, .ref q7, .ref q8, .ref q9, .ref q10, .ref q11, .ref q12, .null, .int 0, .null] := by rw [eg26]; exact hP25.put _
  refine j_aload_n hX dX11_init_112 0 rfl ?_
  refine j_bipush (v := nI 8) hX dX11_init_113 (by decide) ?_
  refine j_newI (n := 8) hX (rfl) (by decide) dX11_init_115 (by rw [hR]; decide) (by rw [hR]; decide) (fun q13 fq13 => ?_)
  obtain ⟨g27, eg27⟩ : ∃ z : Wd, z = up g26 q13 (aI (xK X) 8 (fun _ => 0)) := ⟨_, rfl⟩
  refine j_w eg27.symm ?_
  have hP27 : PR (xK X) g27 m (fu (fu (fu (fu (fu (fu (fu (fu (fu (fu (fu (fu (fu (fu (fun _ => 0) 0 q0) 1 q1) 2 q2) 3 q3) 4 q4) 5 q5) 6 q6) 7 q7) 8 q8) 9 q9) 10 q10) 11 q11) 12 q12) 13 q13) 14 [.int 0, .ref q0, .ref q1, .ref q2, .ref q3, .ref q4, .ref q5, .ref q6, .int 0, .ref q7, .ref q8, .ref q9, .ref q10, .ref q11, .ref q12, .null, .int 0, .null] := by rw [eg27]; exact hP26.new fq13
  show J X 14 5224 g27 117 [(0, .ref m)] [.ref q13, .ref m]
  refine j_putF hX hm hP27.1 rfl wf_X11 tyX11_ok nmX11 15 (by decide) lk_X11_50 (fun _ h => h) rfl rfl (tyX11_ok 15 (by decide)) rfl rfl (Nat.le_of_ble_eq_true rfl) dX11_init_117 ?_
  obtain ⟨g28, eg28⟩ : ∃ z : Wd, z = up g27 m (ob 10 [.int 0, .ref q0, .ref q1, .ref q2, .ref q3, .ref q4, .ref q5, .ref q6, .int 0, .ref q7, .ref q8, .ref q9, .ref q10, .ref q11, .ref q12, .ref q13, .int 0, .null]) := ⟨_, rfl⟩
  refine j_w eg28.symm ?_
  have hP28 : PR (xK X) g28 m (fu (fu (fu (fu (fu (fu (fu (fu (fu (fu (fu (fu (fu (fu (fun _ => 0) 0 q0) 1 q1) 2 q2) 3 q3) 4 q4) 5 q5) 6 q6) 7 q7) 8 q8) 9 q9) 10 q10) 11 q11) 12 q12) 13 q13) 14 [.int 0, .ref q0, .ref q1, .ref q2, .ref q3, .ref q4, .ref q5, .ref q6, .int 0, .ref q7, .ref q8, .ref q9, .ref q10, .ref q11, .ref q12, .ref q13, .int 0, .null] := by rw [eg28]; exact hP27.put _
  refine j_aload_n hX dX11_init_120 0 rfl ?_
  refine j_iconst (v := nI 4) hX dX11_init_121 (by decide) ?_
  refine j_newI (n := 4) hX (rfl) (by decide) dX11_init_122 (by rw [hR]; decide) (by rw [hR]; decide) (fun q14 fq14 => ?_)
  obtain ⟨g29, eg29⟩ : ∃ z : Wd, z = up g28 q14 (aI (xK X) 4 (fun _ => 0)) := ⟨_, rfl⟩
  refine j_w eg29.symm ?_
  have hP29 : PR (xK X) g29 m (fu (fu (fu (fu (fu (fu (fu (fu (fu (fu (fu (fu (fu (fu (fu (fun _ => 0) 0 q0) 1 q1) 2 q2) 3 q3) 4 q4) 5 q5) 6 q6) 7 q7) 8 q8) 9 q9) 10 q10) 11 q11) 12 q12) 13 q13) 14 q14) 15 [.int 0, .ref q0, .ref q1, .ref q2, .ref q3, .ref q4, .ref q5, .ref q6, .int 0, .ref q7, .ref q8, .ref q9, .ref q10, .ref q11, .ref q12, .ref q13, .int 0, .null] := by rw [eg29]; exact hP28.new fq14
  show J X 15 5228 g29 124 [(0, .ref m)] [.ref q14, .ref m]
  refine j_putF hX hm hP29.1 rfl wf_X11 tyX11_ok nmX11 17 (by decide) lk_X11_53 (fun _ h => h) rfl rfl (tyX11_ok 17 (by decide)) rfl rfl (Nat.le_of_ble_eq_true rfl) dX11_init_124 ?_
  obtain ⟨g30, eg30⟩ : ∃ z : Wd, z = up g29 m (ob 10 [.int 0, .ref q0, .ref q1, .ref q2, .ref q3, .ref q4, .ref q5, .ref q6, .int 0, .ref q7, .ref q8, .ref q9, .ref q10, .ref q11, .ref q12, .ref q13, .int 0, .ref q14]) := ⟨_, rfl⟩
  refine j_w eg30.symm ?_
  have hP30 : PR (xK X) g30 m (fu (fu (fu (fu (fu (fu (fu (fu (fu (fu (fu (fu (fu (fu (fu (fun _ => 0) 0 q0) 1 q1) 2 q2) 3 q3) 4 q4) 5 q5) 6 q6) 7 q7) 8 q8) 9 q9) 10 q10) 11 q11) 12 q12) 13 q13) 14 q14) 15 [.int 0, .ref q0, .ref q1, .ref q2, .ref q3, .ref q4, .ref q5, .ref q6, .int 0, .ref q7, .ref q8, .ref q9, .ref q10, .ref q11, .ref q12, .ref q13, .int 0, .ref q14] := by rw [eg30]; exact hP29.put _
  exact j_vret hX hE dX11_init_127 (⟨rfl, (fu (fu (fu (fu (fu (fu (fu (fu (fu (fu (fu (fu (fu (fu (fu (fun _ => 0) 0 q0) 1 q1) 2 q2) 3 q3) 4 q4) 5 q5) 6 q6) 7 q7) 8 q8) 9 q9) 10 q10) 11 q11) 12 q12) 13 q13) 14 q14), [], 0, fun _ _ => 0, ⟨hP30.1, hP30.2⟩, RA0⟩) (by decide) (by decide)

