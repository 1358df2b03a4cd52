/-- what is made at the place v: the bag o, or no fit -/
def MkP (K : Cst) (m : Nat) (Q : Nat → Nat) (th oc : Int32) (F : Nat → Nat → Int32) (v w : Nat) (o : Option Bg) (r : Option Value) (g' : Wd) : Prop := r = none ∧ ∃ (F' : Nat → Nat → Int32) (fb : Bool), RS K g' m Q th oc (b01 fb) F' ∧ Kp v F F' ∧ (fb = true → ∃ B', o = some B' ∧ NB F' v B' ∧ wk w B') ∧ (fb = false → o = none)
theorem AddP.mk {K : Cst} {m : Nat} {Q : Nat → Nat} {th oc : Int32} {F : Nat → Nat → Int32} {r w : Nat} {T : Row} {M : Int} {B : Bg} {v : Option Value} {g' : Wd} (h : AddP K m Q th oc true F r w T M B v g') : MkP K m Q th oc F r w (addB T M B) v g' := by
  obtain ⟨h0, F', fb, B', h1, h2, h3, h4, h5, h6⟩ := h
  exact ⟨h0, F', fb, h1, h2, fun e => ⟨B', (h5 e).2, h3, h4⟩, fun e => h6 e rfl⟩
theorem MkP.tr {K : Cst} {m : Nat} {Q : Nat → Nat} {th oc : Int32} {F G : Nat → Nat → Int32} {v w : Nat} {o : Option Bg} {r : Option Value} {g' : Wd} (hK : Kp v F G) (h : MkP K m Q th oc G v w o r g') : MkP K m Q th oc F v w o r g' := by
  obtain ⟨h0, F', fb, h1, h2, h3, h4⟩ := h
  exact ⟨h0, F', fb, h1, hK.tr h2, h3, h4⟩
theorem MkP.no {K : Cst} {m : Nat} {Q : Nat → Nat} {th oc : Int32} {F G : Nat → Nat → Int32} {v w : Nat} {B : Bg} {g' : Wd} (hS : RS K g' m Q th oc (b01 true) G) (hK : Kp v F G) (hB : NB G v B) (hw : wk w B) : MkP K m Q th oc F v w (some B) none g' := ⟨rfl, G, true, hS, hK, fun _ => ⟨B, rfl, hB, hw⟩, fun e => absurd e (by decide)⟩
/-- a good bag's rows, added one by one to none, are the bag -/
theorem fld_self {L : Bg} (h : good L) : ∀ n k, k + n = L.length → fldB (fun x : Row × Nat => some (x.1, (x.2 : Int))) (L.drop k) (L.take k) = some L := by
  intro n
  induction n with
  | zero => intro k hk; rw [fld_end (by omega), List.take_of_length_le (by omega)]
  | succ n ih =>
    intro k hk
    have hkl : k < L.length := by omega
    have hlt : (L.take k).length = k := by rw [List.length_take]; omega
    obtain ⟨h9, h0⟩ := Bg_lt h hkl
    have hl := h.2.1
    have hp : plc (L.take k) (L[k]).1 = k := plc_of (by omega) (fun i x hi hx => by
      rw [List.getElem?_take_of_lt hi] at hx
      exact h.1 i k hi x _ hx (List.getElem?_eq_getElem hkl)) (fun i x hi hx => absurd (rep_lt hx) (by omega))
    have ha : addB (L[k]).1 ((L[k]).2 : Int) (L.take k) = some (L.take (k + 1)) := by
      rw [addB_out (fun x hx => absurd (rep_lt hx) (by omega)), if_neg (by omega), if_neg (by omega), hp]
      have e : (L.take k).insertIdx k ((L[k]).1, ((L[k]).2 : Int).toNat) = (L.take k).insertIdx (L.take k).length L[k] := by rw [hlt]; rfl
      rw [e, List.insertIdx_length_self, List.take_add_one, List.getElem?_eq_getElem hkl]
      rfl
    rw [fld_yes (f := fun x : Row × Nat => some (x.1, (x.2 : Int))) hkl rfl ha]
    exact ih (k + 1) (by omega)
def lsF (R : Bg) (x : Row × Nat) : Option (Row × Int) := if tms R x.1 < x.2 then some (x.1, (x.2 : Int) - (tms R x.1 : Int)) else none
theorem fld_less {L R : Bg} (h : good L) : ∀ n k (B : Bg), k + n = L.length → (∀ y ∈ B, ∀ (i : Nat) (x : Row × Nat), k ≤ i → L[i]? = some x → key y.1 < key x.1) → fldB (fun x : Row × Nat => some (x.1, (x.2 : Int) - (tms R x.1 : Int))) (L.drop k) B = fldB (lsF R) (L.drop k) B := by
  intro n
  induction n with
  | zero => intro k B hk _; rw [fld_end (by omega), fld_end (by omega)]
  | succ n ih =>
    intro k B hk hB
    have hkl : k < L.length := by omega
    obtain ⟨M, eM⟩ : ∃ z, z = ((L[k]).2 : Int) - (tms R (L[k]).1 : Int) := ⟨_, rfl⟩
    obtain ⟨f6, ef⟩ : ∃ z : Row × Nat → Option (Row × Int), z = fun x : Row × Nat => some (x.1, (x.2 : Int) - (tms R x.1 : Int)) := ⟨_, rfl⟩
    have hf6 : f6 L[k] = some ((L[k]).1, M) := by rw [ef, eM]
    rw [← ef] at ih ⊢
    by_cases ht : tms R (L[k]).1 < (L[k]).2
    · have hf : lsF R L[k] = some ((L[k]).1, M) := by unfold lsF; rw [if_pos ht, eM]
      cases ha : addB (L[k]).1 M B with
      | none => rw [fld_no hkl hf6 ha, fld_no hkl hf ha]
      | some B' =>
        rw [fld_yes hkl hf6 ha, fld_yes hkl hf ha]
        refine ih (k + 1) B' (by omega) (fun y hy i x hi hx => ?_)
        rcases addB_mem ha y hy with q | q
        · exact hB y q i x (by omega) hx
        · rw [q]; exact h.1 k i (by omega) _ x (List.getElem?_eq_getElem hkl) hx
    · have hf : lsF R L[k] = none := if_neg ht
      have ha : addB (L[k]).1 M B = some B := by
        rw [addB_out (fun x hx e => by have := hB x (List.mem_of_getElem? hx) k _ (Nat.le_refl k) (List.getElem?_eq_getElem hkl); rw [e] at this; omega), if_pos (by omega)]
      rw [fld_yes hkl hf6 ha, fld_skip hkl hf]
      exact ih (k + 1) B (by omega) (fun y hy i x hi hx => hB y hy i x (by omega) hx)
theorem pk1_n {n : Nat → Int32} {r : Row} {z : Nat} (h : n z = -1) : pk1 (fun i => chO (n i)) r z = 0 := by
  show (match chO (n z) with | none => (0 : Int32) | some c => cellR r c) = 0
  rw [h, chO_n]
theorem pk1_s {n : Nat → Int32} {r : Row} {z c : Nat} (h : n z = nI c) (hc : c < 4) : pk1 (fun i => chO (n i)) r z = cellR r c := by
  show (match chO (n z) with | none => (0 : Int32) | some c => cellR r c) = cellR r c
  rw [h, chO_s (by omega)]
theorem ix4v (v j : Nat) : nI (4 * v) + nI j = nI (4 * v + j) := nI_add _ _
set_option maxRecDepth 20000 in
set_option maxHeartbeats 600000 in
/-- makeRow: a selection -/
theorem c_X11_row2 (l : Launch) (K : Cst) (g : Wd) (m : Nat) (Q : Nat → Nat) (th oc : Int32) (F : Nat → Nat → Int32) (hS : RS K g m Q th oc (b01 true) F) (v lf w k : Nat) (L B : Bg) (hv : v < 8) (hlf : lf < 8) (hne : lf ≠ v) (hw : F 1 v = nI w) (hw1 : 1 ≤ w) (hw4 : w ≤ 4) (hLb : NB F lf L) (gL : good L) (hB : NB F v B) (kB : wk w B) (hk : k < L.length) (hk0 : F 0 v = nI 2) (zL : zw w L) (ot : Bool) (hot : F 5 v = b01 ot) (c cm : Nat) (hc : c < 4) (hn0 : F 4 (4 * v) = nI c) (hcm : cm ≤ 5) (hn1 : F 4 (4 * v + 1) = nI cm) (hn2 : ot = true → ∃ tc, tc < 4 ∧ F 4 (4 * v + 2) = nI tc) : Ct l K yX11_makeRow cX11_makeRow 8 none 2 [.ref m, .int (nI v), .int (nI lf), .int (nI k)] g (MkP K m Q th oc F v w (if selH cm (cellR (L[k]).1 c) (if ot = true then cellR (L[k]).1 (vnat (F 4 (4 * v + 2))) else F 4 (4 * v + 2)) = true then addB (L[k]).1 ((L[k]).2 : Int) B else some B)) (fun _ _ => False) 0 0 := by
  refine ct_of (by decide) (Nat.le_of_ble_eq_true rfl) ?_
  intro X hl hK hX hE hn hL hR hm
  subst hl; subst hK
  show J X 0 0 g 0 [(0, .ref m), (1, .int (nI v)), (2, .int (nI lf)), (3, .int (nI k))] []
  cases ot with
  | true =>
    obtain ⟨tc, htc, hn2⟩ := hn2 rfl
    rw [show (if true = true then cellR (L[k]).1 (vnat (F 4 (4 * v + 2))) else F 4 (4 * v + 2)) = cellR (L[k]).1 tc by rw [if_pos rfl, hn2, vnat_nI (by omega)]] at hE
    refine j_iconst (v := nI 4) hX dX11_makeRow_0 (by decide) ?_
    refine j_iload_n hX dX11_makeRow_1 1 rfl ?_
    refine j_imul hX dX11_makeRow_2 ?_
    refine j_eqi (y := nI (4 * v)) (pk_mul 4 v) ?_
    refine j_istore (lv' := [(4, .int (nI (4 * v))), (0, .ref m), (1, .int (nI v)), (2, .int (nI lf)), (3, .int (nI k))]) hX dX11_makeRow_3 (by rw [hn]; decide) rfl ?_
    refine j_aload_n hX dX11_makeRow_5 1 rfl ?_
    refine j_iload_n hX dX11_makeRow_6 3 rfl ?_
    refine j_iload_n hX dX11_makeRow_7 4 rfl ?_
    refine j_callV (As := [.int (nI lf), .int (nI k)]) (rest := []) hX (c_X11_take (xl X) (xK X) g m Q th oc (b01 true) F hS lf k hlf (by have := gL.2.1; omega)) hS.1 rfl lk_X11_89 wI_X11_take wV_X11_X11_take wN_X11 wC_X11_take hd_X11_take rfl (by rw [hL]; decide) (by decide) rfl (Nat.le_of_ble_eq_true rfl) dX11_makeRow_8 (by rw [hR]; decide) (by rw [hR]; decide) jx_no ?_
    rintro _ g1 ⟨rfl, F1, hS1, hK, h14⟩
    have hl20 := gL.2.1
    have hx0 := Bg_lt gL hk
    have hP : Kp v F F1 := Kp.row hK v
    rw [(hLb.2 k _ (List.getElem?_eq_getElem hk)).1] at h14
    show J X 0 0 g1 11 [(4, .int (nI (4 * v))), (0, .ref m), (1, .int (nI v)), (2, .int (nI lf)), (3, .int (nI k))] []
    refine j_aload_n hX dX11_makeRow_11 1 rfl ?_
    refine j_get (v := .ref (Q 0)) hX hS1.1 rfl wf_X11 1 (by decide) lk_X11_7 (fun _ h => h) rfl dX11_makeRow_12 ?_
    refine j_iload_n hX dX11_makeRow_15 2 rfl ?_
    refine j_ialdN hX (show g1 (Q 0) = some (aI (xK X) 8 (F1 0)) from hS1.2.1 0 (by decide)) (v) (rfl) (hv) (by decide) dX11_makeRow_16 ?_
    refine j_eqi (y := nI 2) (by rw [hK 0 (by decide)]; exact hk0) ?_
    refine j_iconst (v := nI 2) hX dX11_makeRow_17 (by decide) ?_
    refine j_icmp_ne hX 103 dX11_makeRow_18 (by decide) (fun c_18 => absurd c_18 (fun q => q (by rfl))) (fun _ => ?_)
    refine j_aload_n hX dX11_makeRow_21 1 rfl ?_
    refine j_get (v := .ref (Q 5)) hX hS1.1 rfl wf_X11 6 (by decide) lk_X11_25 (fun _ h => h) rfl dX11_makeRow_22 ?_
    refine j_iload_n hX dX11_makeRow_25 2 rfl ?_
    refine j_zaldN hX (show g1 (Q 5) = some (aZ (xK X) 8 (F1 5)) from hS1.2.1 5 (by decide)) (v) (rfl) (hv) (by decide) dX11_makeRow_26 ?_
    refine j_eqi (y := b01 true) (by rw [hK 5 (by decide)]; exact hot) ?_
    refine j_if_eq hX 48 dX11_makeRow_27 (by decide) (fun c_27 => absurd c_27 (by decide)) (fun _ => ?_)
    refine j_aload_n hX dX11_makeRow_30 1 rfl ?_
    refine j_iload_n hX dX11_makeRow_31 3 rfl ?_
    refine j_iload_n hX dX11_makeRow_32 4 rfl ?_
    refine j_aload_n hX dX11_makeRow_33 1 rfl ?_
    refine j_get (v := .ref (Q 4)) hX hS1.1 rfl wf_X11 5 (by decide) lk_X11_22 (fun _ h => h) rfl dX11_makeRow_34 ?_
    refine j_iload hX dX11_makeRow_37 0 rfl ?_
    refine j_iconst (v := nI 2) hX dX11_makeRow_39 (by decide) ?_
    refine j_iadd hX dX11_makeRow_40 ?_
    refine j_eqi (y := nI (4 * v + 2)) (ix4v v 2) ?_
    refine j_ialdN hX (show g1 (Q 4) = some (aI (xK X) 32 (F1 4)) from hS1.2.1 4 (by decide)) (4 * v + 2) (rfl) (by omega) (by decide) dX11_makeRow_41 ?_
    refine j_eqi (y := nI tc) (by rw [hK 4 (by decide)]; exact hn2) ?_
    refine j_callV (As := [.int (nI lf), .int (nI k), .int (nI tc)]) (rest := []) hX (c_X11_cellOf (xl X) (xK X) g1 m Q th oc (b01 true) F1 hS1 lf k tc hlf (by omega) htc) hS1.1 rfl lk_X11_74 wI_X11_cellOf wV_X11_X11_cellOf wN_X11 wC_X11_cellOf hd_X11_cellOf rfl (by rw [hL]; decide) (by decide) rfl (Nat.le_of_ble_eq_true rfl) dX11_makeRow_42 (by rw [hR]; decide) (by rw [hR]; decide) jx_no ?_
    rintro _ _ ⟨rfl, rfl⟩
    show J X 0 0 g1 45 [(4, .int (nI (4 * v))), (0, .ref m), (1, .int (nI v)), (2, .int (nI lf)), (3, .int (nI k))] [.int (F1 11 (80 * lf + 4 * k + tc))]
    refine j_eqi (y := cellR (L[k]).1 tc) (by rw [hK 11 (by decide)]; exact repA_cell hLb.2 hk (by omega)) ?_
    refine j_goto hX 57 dX11_makeRow_45 (by decide) ?_
    refine j_istore (lv' := [(5, .int (cellR (L[k]).1 tc)), (4, .int (nI (4 * v))), (0, .ref m), (1, .int (nI v)), (2, .int (nI lf)), (3, .int (nI k))]) hX dX11_makeRow_57 (by rw [hn]; decide) rfl ?_
    refine j_aload_n hX dX11_makeRow_59 2 rfl ?_
    refine j_get (v := .ref (Q 4)) hX hS1.1 rfl wf_X11 5 (by decide) lk_X11_22 (fun _ h => h) rfl dX11_makeRow_60 ?_
    refine j_iload hX dX11_makeRow_63 1 rfl ?_
    refine j_iconst (v := nI 1) hX dX11_makeRow_65 (by decide) ?_
    refine j_iadd hX dX11_makeRow_66 ?_
    refine j_eqi (y := nI (4 * v + 1)) (ix4v v 1) ?_
    refine j_ialdN hX (show g1 (Q 4) = some (aI (xK X) 32 (F1 4)) from hS1.2.1 4 (by decide)) (4 * v + 1) (rfl) (by omega) (by decide) dX11_makeRow_67 ?_
    refine j_eqi (y := nI cm) (by rw [hK 4 (by decide)]; exact hn1) ?_
    refine j_aload_n hX dX11_makeRow_68 2 rfl ?_
    refine j_iload_n hX dX11_makeRow_69 4 rfl ?_
    refine j_iload_n hX dX11_makeRow_70 5 rfl ?_
    refine j_aload_n hX dX11_makeRow_71 2 rfl ?_
    refine j_get (v := .ref (Q 4)) hX hS1.1 rfl wf_X11 5 (by decide) lk_X11_22 (fun _ h => h) rfl dX11_makeRow_72 ?_
    refine j_iload hX dX11_makeRow_75 1 rfl ?_
    refine j_ialdN hX (show g1 (Q 4) = some (aI (xK X) 32 (F1 4)) from hS1.2.1 4 (by decide)) (4 * v) (rfl) (by omega) (by decide) dX11_makeRow_77 ?_
    refine j_eqi (y := nI c) (by rw [hK 4 (by decide)]; exact hn0) ?_
    refine j_callV (As := [.int (nI lf), .int (nI k), .int (nI c)]) (rest := [.int (nI cm)]) hX (c_X11_cellOf (xl X) (xK X) g1 m Q th oc (b01 true) F1 hS1 lf k c hlf (by omega) hc) hS1.1 rfl lk_X11_74 wI_X11_cellOf wV_X11_X11_cellOf wN_X11 wC_X11_cellOf hd_X11_cellOf rfl (by rw [hL]; decide) (by decide) rfl (Nat.le_of_ble_eq_true rfl) dX11_makeRow_78 (by rw [hR]; decide) (by rw [hR]; decide) jx_no ?_
    rintro _ _ ⟨rfl, rfl⟩
    show J X 0 0 g1 81 [(5, .int (cellR (L[k]).1 tc)), (4, .int (nI (4 * v))), (0, .ref m), (1, .int (nI v)), (2, .int (nI lf)), (3, .int (nI k))] [.int (F1 11 (80 * lf + 4 * k + c)), .int (nI cm)]
    refine j_eqi (y := cellR (L[k]).1 c) (by rw [hK 11 (by decide)]; exact repA_cell hLb.2 hk (by omega)) ?_
    refine j_iload hX dX11_makeRow_81 0 rfl ?_
    refine j_callS (As := [.int (nI cm), .int (cellR (L[k]).1 c), .int (cellR (L[k]).1 tc)]) (rest := []) hX (c_X11_compares (xl X) (xK X) g1 cm (cellR (L[k]).1 c) (cellR (L[k]).1 tc) hcm) lk_X11_101 wS_X11_compares wN_X11 wC_X11_compares hd_X11_compares rfl (by rw [hL]; decide) (by decide) rfl (Nat.le_of_ble_eq_true rfl) dX11_makeRow_83 (by rw [hR]; decide) (by rw [hR]; decide) jx_no ?_
    rintro _ _ ⟨rfl, rfl⟩
    show J X 0 0 g1 86 [(5, .int (cellR (L[k]).1 tc)), (4, .int (nI (4 * v))), (0, .ref m), (1, .int (nI v)), (2, .int (nI lf)), (3, .int (nI k))] [.int (b01 (selH cm (cellR (L[k]).1 c) (cellR (L[k]).1 tc)))]
    refine j_if_eq hX 100 dX11_makeRow_86 (by decide) (fun c_86 => ?_) (fun c_86 => ?_)
    · refine j_goto hX 281 dX11_makeRow_100 (by decide) ?_
      exact j_vret hX hE dX11_makeRow_281 (by rw [if_neg (b01_f c_86)]; exact MkP.no hS1 hP (NB.row hK hB) kB) (by decide) (by decide)
    · refine j_aload_n hX dX11_makeRow_89 2 rfl ?_
      refine j_iload_n hX dX11_makeRow_90 3 rfl ?_
      refine j_aload_n hX dX11_makeRow_91 2 rfl ?_
      refine j_iload_n hX dX11_makeRow_92 4 rfl ?_
      refine j_iload_n hX dX11_makeRow_93 5 rfl ?_
      refine j_callV (As := [.int (nI lf), .int (nI k)]) (rest := [.int (nI v), .ref m]) hX (c_X11_timesOf (xl X) (xK X) g1 m Q th oc (b01 true) F1 hS1 lf k hlf (by omega)) hS1.1 rfl lk_X11_93 wI_X11_timesOf wV_X11_X11_timesOf wN_X11 wC_X11_timesOf hd_X11_timesOf rfl (by rw [hL]; decide) (by decide) rfl (Nat.le_of_ble_eq_true rfl) dX11_makeRow_94 (by rw [hR]; decide) (by rw [hR]; decide) jx_no ?_
      rintro _ _ ⟨rfl, rfl⟩
      show J X 0 0 g1 97 [(5, .int (cellR (L[k]).1 tc)), (4, .int (nI (4 * v))), (0, .ref m), (1, .int (nI v)), (2, .int (nI lf)), (3, .int (nI k))] [.long ((F1 12 (20 * lf + k)).toInt64), .int (nI v), .ref m]
      refine j_eql (y := (nI (L[k]).2).toInt64) (by rw [hK 12 (by decide), repA_time hLb.2 hk]) ?_
      refine j_callV (As := [.int (nI v), .long ((nI (L[k]).2).toInt64)]) (rest := []) hX (c_X11_add (xl X) (xK X) g1 m Q th oc true F1 hS1 v w B hv (by rw [hK 1 (by decide)]; exact hw) hw1 hw4 (NB.row hK hB) kB (L[k]).1 (by rw [h14, trunc_id hw1 (zL _ (List.getElem_mem hk))]) ((nI (L[k]).2).toInt64) (by rw [l_nI (by omega)]; omega) (by rw [l_nI (by omega)]; omega)) hS1.1 rfl lk_X11_97 wI_X11_add wV_X11_X11_add wN_X11 wC_X11_add hd_X11_add rfl (by rw [hL]; decide) (by decide) rfl (Nat.le_of_ble_eq_true rfl) dX11_makeRow_97 (by rw [hR]; decide) (by rw [hR]; decide) jx_no ?_
      rintro _ g2 ⟨rfl, h9⟩
      rw [l_nI (by omega)] at h9
      show J X 0 0 g2 100 [(5, .int (cellR (L[k]).1 tc)), (4, .int (nI (4 * v))), (0, .ref m), (1, .int (nI v)), (2, .int (nI lf)), (3, .int (nI k))] []
      refine j_goto hX 281 dX11_makeRow_100 (by decide) ?_
      exact j_vret hX hE dX11_makeRow_281 (by rw [if_pos (b01_t c_86)]; exact (AddP.mk ⟨rfl, h9⟩).tr hP) (by decide) (by decide)
  | false =>
    rw [show (if false = true then cellR (L[k]).1 (vnat (F 4 (4 * v + 2))) else F 4 (4 * v + 2)) = F 4 (4 * v + 2) from rfl] at hE
    refine j_iconst (v := nI 4) hX dX11_makeRow_0 (by decide) ?_
    refine j_iload_n hX dX11_makeRow_1 1 rfl ?_
    refine j_imul hX dX11_makeRow_2 ?_
    refine j_eqi (y := nI (4 * v)) (pk_mul 4 v) ?_
    refine j_istore (lv' := [(4, .int (nI (4 * v))), (0, .ref m), (1, .int (nI v)), (2, .int (nI lf)), (3, .int (nI k))]) hX dX11_makeRow_3 (by rw [hn]; decide) rfl ?_
    refine j_aload_n hX dX11_makeRow_5 1 rfl ?_
    refine j_iload_n hX dX11_makeRow_6 3 rfl ?_
    refine j_iload_n hX dX11_makeRow_7 4 rfl ?_
    refine j_callV (As := [.int (nI lf), .int (nI k)]) (rest := []) hX (c_X11_take (xl X) (xK X) g m Q th oc (b01 true) F hS lf k hlf (by have := gL.2.1; omega)) hS.1 rfl lk_X11_89 wI_X11_take wV_X11_X11_take wN_X11 wC_X11_take hd_X11_take rfl (by rw [hL]; decide) (by decide) rfl (Nat.le_of_ble_eq_true rfl) dX11_makeRow_8 (by rw [hR]; decide) (by rw [hR]; decide) jx_no ?_
    rintro _ g1 ⟨rfl, F1, hS1, hK, h14⟩
    have hl20 := gL.2.1
    have hx0 := Bg_lt gL hk
    have hP : Kp v F F1 := Kp.row hK v
    rw [(hLb.2 k _ (List.getElem?_eq_getElem hk)).1] at h14
    show J X 0 0 g1 11 [(4, .int (nI (4 * v))), (0, .ref m), (1, .int (nI v)), (2, .int (nI lf)), (3, .int (nI k))] []
    refine j_aload_n hX dX11_makeRow_11 1 rfl ?_
    refine j_get (v := .ref (Q 0)) hX hS1.1 rfl wf_X11 1 (by decide) lk_X11_7 (fun _ h => h) rfl dX11_makeRow_12 ?_
    refine j_iload_n hX dX11_makeRow_15 2 rfl ?_
    refine j_ialdN hX (show g1 (Q 0) = some (aI (xK X) 8 (F1 0)) from hS1.2.1 0 (by decide)) (v) (rfl) (hv) (by decide) dX11_makeRow_16 ?_
    refine j_eqi (y := nI 2) (by rw [hK 0 (by decide)]; exact hk0) ?_
    refine j_iconst (v := nI 2) hX dX11_makeRow_17 (by decide) ?_
    refine j_icmp_ne hX 103 dX11_makeRow_18 (by decide) (fun c_18 => absurd c_18 (fun q => q (by rfl))) (fun _ => ?_)
    refine j_aload_n hX dX11_makeRow_21 1 rfl ?_
    refine j_get (v := .ref (Q 5)) hX hS1.1 rfl wf_X11 6 (by decide) lk_X11_25 (fun _ h => h) rfl dX11_makeRow_22 ?_
    refine j_iload_n hX dX11_makeRow_25 2 rfl ?_
    refine j_zaldN hX (show g1 (Q 5) = some (aZ (xK X) 8 (F1 5)) from hS1.2.1 5 (by decide)) (v) (rfl) (hv) (by decide) dX11_makeRow_26 ?_
    refine j_eqi (y := b01 false) (by rw [hK 5 (by decide)]; exact hot) ?_
    refine j_if_eq hX 48 dX11_makeRow_27 (by decide) (fun _ => ?_) (fun c_27 => absurd (by rfl) c_27)
    refine j_aload_n hX dX11_makeRow_48 1 rfl ?_
    refine j_get (v := .ref (Q 4)) hX hS1.1 rfl wf_X11 5 (by decide) lk_X11_22 (fun _ h => h) rfl dX11_makeRow_49 ?_
    refine j_iload hX dX11_makeRow_52 0 rfl ?_
    refine j_iconst (v := nI 2) hX dX11_makeRow_54 (by decide) ?_
    refine j_iadd hX dX11_makeRow_55 ?_
    refine j_eqi (y := nI (4 * v + 2)) (ix4v v 2) ?_
    refine j_ialdN hX (show g1 (Q 4) = some (aI (xK X) 32 (F1 4)) from hS1.2.1 4 (by decide)) (4 * v + 2) (rfl) (by omega) (by decide) dX11_makeRow_56 ?_
    refine j_eqi (y := F 4 (4 * v + 2)) (by rw [hK 4 (by decide)]) ?_
    refine j_istore (lv' := [(5, .int (F 4 (4 * v + 2))), (4, .int (nI (4 * v))), (0, .ref m), (1, .int (nI v)), (2, .int (nI lf)), (3, .int (nI k))]) hX dX11_makeRow_57 (by rw [hn]; decide) rfl ?_
    refine j_aload_n hX dX11_makeRow_59 2 rfl ?_
    refine j_get (v := .ref (Q 4)) hX hS1.1 rfl wf_X11 5 (by decide) lk_X11_22 (fun _ h => h) rfl dX11_makeRow_60 ?_
    refine j_iload hX dX11_makeRow_63 1 rfl ?_
    refine j_iconst (v := nI 1) hX dX11_makeRow_65 (by decide) ?_
    refine j_iadd hX dX11_makeRow_66 ?_
    refine j_eqi (y := nI (4 * v + 1)) (ix4v v 1) ?_
    refine j_ialdN hX (show g1 (Q 4) = some (aI (xK X) 32 (F1 4)) from hS1.2.1 4 (by decide)) (4 * v + 1) (rfl) (by omega) (by decide) dX11_makeRow_67 ?_
    refine j_eqi (y := nI cm) (by rw [hK 4 (by decide)]; exact hn1) ?_
    refine j_aload_n hX dX11_makeRow_68 2 rfl ?_
    refine j_iload_n hX dX11_makeRow_69 4 rfl ?_
    refine j_iload_n hX dX11_makeRow_70 5 rfl ?_
    refine j_aload_n hX dX11_makeRow_71 2 rfl ?_
    refine j_get (v := .ref (Q 4)) hX hS1.1 rfl wf_X11 5 (by decide) lk_X11_22 (fun _ h => h) rfl dX11_makeRow_72 ?_
    refine j_iload hX dX11_makeRow_75 1 rfl ?_
    refine j_ialdN hX (show g1 (Q 4) = some (aI (xK X) 32 (F1 4)) from hS1.2.1 4 (by decide)) (4 * v) (rfl) (by omega) (by decide) dX11_makeRow_77 ?_
    refine j_eqi (y := nI c) (by rw [hK 4 (by decide)]; exact hn0) ?_
    refine j_callV (As := [.int (nI lf), .int (nI k), .int (nI c)]) (rest := [.int (nI cm)]) hX (c_X11_cellOf (xl X) (xK X) g1 m Q th oc (b01 true) F1 hS1 lf k c hlf (by omega) hc) hS1.1 rfl lk_X11_74 wI_X11_cellOf wV_X11_X11_cellOf wN_X11 wC_X11_cellOf hd_X11_cellOf rfl (by rw [hL]; decide) (by decide) rfl (Nat.le_of_ble_eq_true rfl) dX11_makeRow_78 (by rw [hR]; decide) (by rw [hR]; decide) jx_no ?_
    rintro _ _ ⟨rfl, rfl⟩
    show J X 0 0 g1 81 [(5, .int (F 4 (4 * v + 2))), (4, .int (nI (4 * v))), (0, .ref m), (1, .int (nI v)), (2, .int (nI lf)), (3, .int (nI k))] [.int (F1 11 (80 * lf + 4 * k + c)), .int (nI cm)]
    refine j_eqi (y := cellR (L[k]).1 c) (by rw [hK 11 (by decide)]; exact repA_cell hLb.2 hk (by omega)) ?_
    refine j_iload hX dX11_makeRow_81 0 rfl ?_
    refine j_callS (As := [.int (nI cm), .int (cellR (L[k]).1 c), .int (F 4 (4 * v + 2))]) (rest := []) hX (c_X11_compares (xl X) (xK X) g1 cm (cellR (L[k]).1 c) (F 4 (4 * v + 2)) hcm) lk_X11_101 wS_X11_compares wN_X11 wC_X11_compares hd_X11_compares rfl (by rw [hL]; decide) (by decide) rfl (Nat.le_of_ble_eq_true rfl) dX11_makeRow_83 (by rw [hR]; decide) (by rw [hR]; decide) jx_no ?_
    rintro _ _ ⟨rfl, rfl⟩
    show J X 0 0 g1 86 [(5, .int (F 4 (4 * v + 2))), (4, .int (nI (4 * v))), (0, .ref m), (1, .int (nI v)), (2, .int (nI lf)), (3, .int (nI k))] [.int (b01 (selH cm (cellR (L[k]).1 c) (F 4 (4 * v + 2))))]
    refine j_if_eq hX 100 dX11_makeRow_86 (by decide) (fun c_86 => ?_) (fun c_86 => ?_)
    · refine j_goto hX 281 dX11_makeRow_100 (by decide) ?_
      exact j_vret hX hE dX11_makeRow_281 (by rw [if_neg (b01_f c_86)]; exact MkP.no hS1 hP (NB.row hK hB) kB) (by decide) (by decide)
    · refine j_aload_n hX dX11_makeRow_89 2 rfl ?_
      refine j_iload_n hX dX11_makeRow_90 3 rfl ?_
      refine j_aload_n hX dX11_makeRow_91 2 rfl ?_
      refine j_iload_n hX dX11_makeRow_92 4 rfl ?_
      refine j_iload_n hX dX11_makeRow_93 5 rfl ?_
      refine j_callV (As := [.int (nI lf), .int (nI k)]) (rest := [.int (nI v), .ref m]) hX (c_X11_timesOf (xl X) (xK X) g1 m Q th oc (b01 true) F1 hS1 lf k hlf (by omega)) hS1.1 rfl lk_X11_93 wI_X11_timesOf wV_X11_X11_timesOf wN_X11 wC_X11_timesOf hd_X11_timesOf rfl (by rw [hL]; decide) (by decide) rfl (Nat.le_of_ble_eq_true rfl) dX11_makeRow_94 (by rw [hR]; decide) (by rw [hR]; decide) jx_no ?_
      rintro _ _ ⟨rfl, rfl⟩
      show J X 0 0 g1 97 [(5, .int (F 4 (4 * v + 2))), (4, .int (nI (4 * v))), (0, .ref m), (1, .int (nI v)), (2, .int (nI lf)), (3, .int (nI k))] [.long ((F1 12 (20 * lf + k)).toInt64), .int (nI v), .ref m]
      refine j_eql (y := (nI (L[k]).2).toInt64) (by rw [hK 12 (by decide), repA_time hLb.2 hk]) ?_
      refine j_callV (As := [.int (nI v), .long ((nI (L[k]).2).toInt64)]) (rest := []) hX (c_X11_add (xl X) (xK X) g1 m Q th oc true F1 hS1 v w B hv (by rw [hK 1 (by decide)]; exact hw) hw1 hw4 (NB.row hK hB) kB (L[k]).1 (by rw [h14, trunc_id hw1 (zL _ (List.getElem_mem hk))]) ((nI (L[k]).2).toInt64) (by rw [l_nI (by omega)]; omega) (by rw [l_nI (by omega)]; omega)) hS1.1 rfl lk_X11_97 wI_X11_add wV_X11_X11_add wN_X11 wC_X11_add hd_X11_add rfl (by rw [hL]; decide) (by decide) rfl (Nat.le_of_ble_eq_true rfl) dX11_makeRow_97 (by rw [hR]; decide) (by rw [hR]; decide) jx_no ?_
      rintro _ g2 ⟨rfl, h9⟩
      rw [l_nI (by omega)] at h9
      show J X 0 0 g2 100 [(5, .int (F 4 (4 * v + 2))), (4, .int (nI (4 * v))), (0, .ref m), (1, .int (nI v)), (2, .int (nI lf)), (3, .int (nI k))] []
      refine j_goto hX 281 dX11_makeRow_100 (by decide) ?_
      exact j_vret hX hE dX11_makeRow_281 (by rw [if_pos (b01_t c_86)]; exact (AddP.mk ⟨rfl, h9⟩).tr hP) (by decide) (by decide)

set_option maxRecDepth 20000 in
set_option maxHeartbeats 600000 in
theorem c_X11_row5 (l : Launch) (K : Cst) (g : Wd) (m : Nat) (Q : Nat → Nat) (th oc : Int32) (F : Nat → Nat → Int32) (hS : RS K g m Q th oc (b01 true) F) (v lf w k : Nat) (L B : Bg) (hv : v < 8) (hlf : lf < 8) (hne : lf ≠ v) (hw : F 1 v = nI w) (hw1 : 1 ≤ w) (hw4 : w ≤ 4) (hLb : NB F lf L) (gL : good L) (hB : NB F v B) (kB : wk w B) (hk : k < L.length) (hk0 : F 0 v = nI 5) (zL : zw w L) : Ct l K yX11_makeRow cX11_makeRow 8 none 2 [.ref m, .int (nI v), .int (nI lf), .int (nI k)] g (MkP K m Q th oc F v w (addB (L[k]).1 ((L[k]).2 : Int) B)) (fun _ _ => False) 0 0 := by
  refine ct_of (by decide) (Nat.le_of_ble_eq_true rfl) ?_
  intro X hl hK hX hE hn hL hR hm
  subst hl; subst hK
  show J X 0 0 g 0 [(0, .ref m), (1, .int (nI v)), (2, .int (nI lf)), (3, .int (nI k))] []
  refine j_iconst (v := nI 4) hX dX11_makeRow_0 (by decide) ?_
  refine j_iload_n hX dX11_makeRow_1 1 rfl ?_
  refine j_imul hX dX11_makeRow_2 ?_
  refine j_eqi (y := nI (4 * v)) (pk_mul 4 v) ?_
  refine j_istore (lv' := [(4, .int (nI (4 * v))), (0, .ref m), (1, .int (nI v)), (2, .int (nI lf)), (3, .int (nI k))]) hX dX11_makeRow_3 (by rw [hn]; decide) rfl ?_
  refine j_aload_n hX dX11_makeRow_5 1 rfl ?_
  refine j_iload_n hX dX11_makeRow_6 3 rfl ?_
  refine j_iload_n hX dX11_makeRow_7 4 rfl ?_
  refine j_callV (As := [.int (nI lf), .int (nI k)]) (rest := []) hX (c_X11_take (xl X) (xK X) g m Q th oc (b01 true) F hS lf k hlf (by have := gL.2.1; omega)) hS.1 rfl lk_X11_89 wI_X11_take wV_X11_X11_take wN_X11 wC_X11_take hd_X11_take rfl (by rw [hL]; decide) (by decide) rfl (Nat.le_of_ble_eq_true rfl) dX11_makeRow_8 (by rw [hR]; decide) (by rw [hR]; decide) jx_no ?_
  rintro _ g1 ⟨rfl, F1, hS1, hK, h14⟩
  have hl20 := gL.2.1
  have hx0 := Bg_lt gL hk
  have hP : Kp v F F1 := Kp.row hK v
  rw [(hLb.2 k _ (List.getElem?_eq_getElem hk)).1] at h14
  show J X 0 0 g1 11 [(4, .int (nI (4 * v))), (0, .ref m), (1, .int (nI v)), (2, .int (nI lf)), (3, .int (nI k))] []
  refine j_aload_n hX dX11_makeRow_11 1 rfl ?_
  refine j_get (v := .ref (Q 0)) hX hS1.1 rfl wf_X11 1 (by decide) lk_X11_7 (fun _ h => h) rfl dX11_makeRow_12 ?_
  refine j_iload_n hX dX11_makeRow_15 2 rfl ?_
  refine j_ialdN hX (show g1 (Q 0) = some (aI (xK X) 8 (F1 0)) from hS1.2.1 0 (by decide)) (v) (rfl) (hv) (by decide) dX11_makeRow_16 ?_
  refine j_eqi (y := nI 5) (by rw [hK 0 (by decide)]; exact hk0) ?_
  refine j_iconst (v := nI 2) hX dX11_makeRow_17 (by decide) ?_
  refine j_icmp_ne hX 103 dX11_makeRow_18 (by decide) (fun _ => ?_) (fun c_18 => absurd c_18 (by decide))
  refine j_aload_n hX dX11_makeRow_103 1 rfl ?_
  refine j_get (v := .ref (Q 0)) hX hS1.1 rfl wf_X11 1 (by decide) lk_X11_7 (fun _ h => h) rfl dX11_makeRow_104 ?_
  refine j_iload_n hX dX11_makeRow_107 2 rfl ?_
  refine j_ialdN hX (show g1 (Q 0) = some (aI (xK X) 8 (F1 0)) from hS1.2.1 0 (by decide)) (v) (rfl) (hv) (by decide) dX11_makeRow_108 ?_
  refine j_eqi (y := nI 5) (by rw [hK 0 (by decide)]; exact hk0) ?_
  refine j_iconst (v := nI 3) hX dX11_makeRow_109 (by decide) ?_
  refine j_icmp_ne hX 170 dX11_makeRow_110 (by decide) (fun _ => ?_) (fun c_110 => absurd c_110 (by decide))
  refine j_aload_n hX dX11_makeRow_170 1 rfl ?_
  refine j_get (v := .ref (Q 0)) hX hS1.1 rfl wf_X11 1 (by decide) lk_X11_7 (fun _ h => h) rfl dX11_makeRow_171 ?_
  refine j_iload_n hX dX11_makeRow_174 2 rfl ?_
  refine j_ialdN hX (show g1 (Q 0) = some (aI (xK X) 8 (F1 0)) from hS1.2.1 0 (by decide)) (v) (rfl) (hv) (by decide) dX11_makeRow_175 ?_
  refine j_eqi (y := nI 5) (by rw [hK 0 (by decide)]; exact hk0) ?_
  refine j_bipush (v := nI 6) hX dX11_makeRow_176 (by decide) ?_
  refine j_icmp_ne hX 255 dX11_makeRow_178 (by decide) (fun _ => ?_) (fun c_178 => absurd c_178 (by decide))
  refine j_aload_n hX dX11_makeRow_255 1 rfl ?_
  refine j_iload_n hX dX11_makeRow_256 2 rfl ?_
  refine j_aload_n hX dX11_makeRow_257 1 rfl ?_
  refine j_get (v := .ref (Q 0)) hX hS1.1 rfl wf_X11 1 (by decide) lk_X11_7 (fun _ h => h) rfl dX11_makeRow_258 ?_
  refine j_iload_n hX dX11_makeRow_261 2 rfl ?_
  refine j_ialdN hX (show g1 (Q 0) = some (aI (xK X) 8 (F1 0)) from hS1.2.1 0 (by decide)) (v) (rfl) (hv) (by decide) dX11_makeRow_262 ?_
  refine j_eqi (y := nI 5) (by rw [hK 0 (by decide)]; exact hk0) ?_
  refine j_bipush (v := nI 7) hX dX11_makeRow_263 (by decide) ?_
  refine j_icmp_ne hX 272 dX11_makeRow_265 (by decide) (fun _ => ?_) (fun c_265 => absurd c_265 (by decide))
  refine j_aload_n hX dX11_makeRow_272 1 rfl ?_
  refine j_iload_n hX dX11_makeRow_273 3 rfl ?_
  refine j_iload_n hX dX11_makeRow_274 4 rfl ?_
  refine j_callV (As := [.int (nI lf), .int (nI k)]) (rest := [.int (nI v), .ref m]) hX (c_X11_timesOf (xl X) (xK X) g1 m Q th oc (b01 true) F1 hS1 lf k hlf (by omega)) hS1.1 rfl lk_X11_93 wI_X11_timesOf wV_X11_X11_timesOf wN_X11 wC_X11_timesOf hd_X11_timesOf rfl (by rw [hL]; decide) (by decide) rfl (Nat.le_of_ble_eq_true rfl) dX11_makeRow_275 (by rw [hR]; decide) (by rw [hR]; decide) jx_no ?_
  rintro _ _ ⟨rfl, rfl⟩
  show J X 0 0 g1 278 [(4, .int (nI (4 * v))), (0, .ref m), (1, .int (nI v)), (2, .int (nI lf)), (3, .int (nI k))] [.long ((F1 12 (20 * lf + k)).toInt64), .int (nI v), .ref m]
  refine j_eql (y := (nI (L[k]).2).toInt64) (by rw [hK 12 (by decide), repA_time hLb.2 hk]) ?_
  refine j_callV (As := [.int (nI v), .long ((nI (L[k]).2).toInt64)]) (rest := []) hX (c_X11_add (xl X) (xK X) g1 m Q th oc true F1 hS1 v w B hv (by rw [hK 1 (by decide)]; exact hw) hw1 hw4 (NB.row hK hB) kB (L[k]).1 (by rw [h14, trunc_id hw1 (zL _ (List.getElem_mem hk))]) ((nI (L[k]).2).toInt64) (by rw [l_nI (by omega)]; omega) (by rw [l_nI (by omega)]; omega)) hS1.1 rfl lk_X11_97 wI_X11_add wV_X11_X11_add wN_X11 wC_X11_add hd_X11_add rfl (by rw [hL]; decide) (by decide) rfl (Nat.le_of_ble_eq_true rfl) dX11_makeRow_278 (by rw [hR]; decide) (by rw [hR]; decide) jx_no ?_
  rintro _ g2 ⟨rfl, h9⟩
  rw [l_nI (by omega)] at h9
  show J X 0 0 g2 281 [(4, .int (nI (4 * v))), (0, .ref m), (1, .int (nI v)), (2, .int (nI lf)), (3, .int (nI k))] []
  exact j_vret hX hE dX11_makeRow_281 ((AddP.mk ⟨rfl, h9⟩).tr hP) (by decide) (by decide)

set_option maxRecDepth 20000 in
set_option maxHeartbeats 600000 in
theorem c_X11_row7 (l : Launch) (K : Cst) (g : Wd) (m : Nat) (Q : Nat → Nat) (th oc : Int32) (F : Nat → Nat → Int32) (hS : RS K g m Q th oc (b01 true) F) (v lf w k : Nat) (L B : Bg) (hv : v < 8) (hlf : lf < 8) (hne : lf ≠ v) (hw : F 1 v = nI w) (hw1 : 1 ≤ w) (hw4 : w ≤ 4) (hLb : NB F lf L) (gL : good L) (hB : NB F v B) (kB : wk w B) (hk : k < L.length) (hk0 : F 0 v = nI 7) (zL : zw w L) : Ct l K yX11_makeRow cX11_makeRow 8 none 2 [.ref m, .int (nI v), .int (nI lf), .int (nI k)] g (MkP K m Q th oc F v w (addB (L[k]).1 1 B)) (fun _ _ => False) 0 0 := by
  refine ct_of (by decide) (Nat.le_of_ble_eq_true rfl) ?_
  intro X hl hK hX hE hn hL hR hm
  subst hl; subst hK
  show J X 0 0 g 0 [(0, .ref m), (1, .int (nI v)), (2, .int (nI lf)), (3, .int (nI k))] []
  refine j_iconst (v := nI 4) hX dX11_makeRow_0 (by decide) ?_
  refine j_iload_n hX dX11_makeRow_1 1 rfl ?_
  refine j_imul hX dX11_makeRow_2 ?_
  refine j_eqi (y := nI (4 * v)) (pk_mul 4 v) ?_
  refine j_istore (lv' := [(4, .int (nI (4 * v))), (0, .ref m), (1, .int (nI v)), (2, .int (nI lf)), (3, .int (nI k))]) hX dX11_makeRow_3 (by rw [hn]; decide) rfl ?_
  refine j_aload_n hX dX11_makeRow_5 1 rfl ?_
  refine j_iload_n hX dX11_makeRow_6 3 rfl ?_
  refine j_iload_n hX dX11_makeRow_7 4 rfl ?_
  refine j_callV (As := [.int (nI lf), .int (nI k)]) (rest := []) hX (c_X11_take (xl X) (xK X) g m Q th oc (b01 true) F hS lf k hlf (by have := gL.2.1; omega)) hS.1 rfl lk_X11_89 wI_X11_take wV_X11_X11_take wN_X11 wC_X11_take hd_X11_take rfl (by rw [hL]; decide) (by decide) rfl (Nat.le_of_ble_eq_true rfl) dX11_makeRow_8 (by rw [hR]; decide) (by rw [hR]; decide) jx_no ?_
  rintro _ g1 ⟨rfl, F1, hS1, hK, h14⟩
  have hl20 := gL.2.1
  have hx0 := Bg_lt gL hk
  have hP : Kp v F F1 := Kp.row hK v
  rw [(hLb.2 k _ (List.getElem?_eq_getElem hk)).1] at h14
  show J X 0 0 g1 11 [(4, .int (nI (4 * v))), (0, .ref m), (1, .int (nI v)), (2, .int (nI lf)), (3, .int (nI k))] []
  refine j_aload_n hX dX11_makeRow_11 1 rfl ?_
  refine j_get (v := .ref (Q 0)) hX hS1.1 rfl wf_X11 1 (by decide) lk_X11_7 (fun _ h => h) rfl dX11_makeRow_12 ?_
  refine j_iload_n hX dX11_makeRow_15 2 rfl ?_
  refine j_ialdN hX (show g1 (Q 0) = some (aI (xK X) 8 (F1 0)) from hS1.2.1 0 (by decide)) (v) (rfl) (hv) (by decide) dX11_makeRow_16 ?_
  refine j_eqi (y := nI 7) (by rw [hK 0 (by decide)]; exact hk0) ?_
  refine j_iconst (v := nI 2) hX dX11_makeRow_17 (by decide) ?_
  refine j_icmp_ne hX 103 dX11_makeRow_18 (by decide) (fun _ => ?_) (fun c_18 => absurd c_18 (by decide))
  refine j_aload_n hX dX11_makeRow_103 1 rfl ?_
  refine j_get (v := .ref (Q 0)) hX hS1.1 rfl wf_X11 1 (by decide) lk_X11_7 (fun _ h => h) rfl dX11_makeRow_104 ?_
  refine j_iload_n hX dX11_makeRow_107 2 rfl ?_
  refine j_ialdN hX (show g1 (Q 0) = some (aI (xK X) 8 (F1 0)) from hS1.2.1 0 (by decide)) (v) (rfl) (hv) (by decide) dX11_makeRow_108 ?_
  refine j_eqi (y := nI 7) (by rw [hK 0 (by decide)]; exact hk0) ?_
  refine j_iconst (v := nI 3) hX dX11_makeRow_109 (by decide) ?_
  refine j_icmp_ne hX 170 dX11_makeRow_110 (by decide) (fun _ => ?_) (fun c_110 => absurd c_110 (by decide))
  refine j_aload_n hX dX11_makeRow_170 1 rfl ?_
  refine j_get (v := .ref (Q 0)) hX hS1.1 rfl wf_X11 1 (by decide) lk_X11_7 (fun _ h => h) rfl dX11_makeRow_171 ?_
  refine j_iload_n hX dX11_makeRow_174 2 rfl ?_
  refine j_ialdN hX (show g1 (Q 0) = some (aI (xK X) 8 (F1 0)) from hS1.2.1 0 (by decide)) (v) (rfl) (hv) (by decide) dX11_makeRow_175 ?_
  refine j_eqi (y := nI 7) (by rw [hK 0 (by decide)]; exact hk0) ?_
  refine j_bipush (v := nI 6) hX dX11_makeRow_176 (by decide) ?_
  refine j_icmp_ne hX 255 dX11_makeRow_178 (by decide) (fun _ => ?_) (fun c_178 => absurd c_178 (by decide))
  refine j_aload_n hX dX11_makeRow_255 1 rfl ?_
  refine j_iload_n hX dX11_makeRow_256 2 rfl ?_
  refine j_aload_n hX dX11_makeRow_257 1 rfl ?_
  refine j_get (v := .ref (Q 0)) hX hS1.1 rfl wf_X11 1 (by decide) lk_X11_7 (fun _ h => h) rfl dX11_makeRow_258 ?_
  refine j_iload_n hX dX11_makeRow_261 2 rfl ?_
  refine j_ialdN hX (show g1 (Q 0) = some (aI (xK X) 8 (F1 0)) from hS1.2.1 0 (by decide)) (v) (rfl) (hv) (by decide) dX11_makeRow_262 ?_
  refine j_eqi (y := nI 7) (by rw [hK 0 (by decide)]; exact hk0) ?_
  refine j_bipush (v := nI 7) hX dX11_makeRow_263 (by decide) ?_
  refine j_icmp_ne hX 272 dX11_makeRow_265 (by decide) (fun c_265 => absurd c_265 (fun q => q (by rfl))) (fun _ => ?_)
  refine j_lconst (v := 1) hX dX11_makeRow_268 (by decide) ?_
  refine j_goto hX 278 dX11_makeRow_269 (by decide) ?_
  refine j_callV (As := [.int (nI v), .long 1]) (rest := []) hX (c_X11_add (xl X) (xK X) g1 m Q th oc true F1 hS1 v w B hv (by rw [hK 1 (by decide)]; exact hw) hw1 hw4 (NB.row hK hB) kB (L[k]).1 (by rw [h14, trunc_id hw1 (zL _ (List.getElem_mem hk))]) (1) (by decide) (by decide)) hS1.1 rfl lk_X11_97 wI_X11_add wV_X11_X11_add wN_X11 wC_X11_add hd_X11_add rfl (by rw [hL]; decide) (by decide) rfl (Nat.le_of_ble_eq_true rfl) dX11_makeRow_278 (by rw [hR]; decide) (by rw [hR]; decide) jx_no ?_
  rintro _ g2 ⟨rfl, h9⟩
  rw [show (1 : Int64).toInt = 1 from rfl] at h9
  show J X 0 0 g2 281 [(4, .int (nI (4 * v))), (0, .ref m), (1, .int (nI v)), (2, .int (nI lf)), (3, .int (nI k))] []
  exact j_vret hX hE dX11_makeRow_281 ((AddP.mk ⟨rfl, h9⟩).tr hP) (by decide) (by decide)

theorem l_sub {a b : Int64} (h1 : -9000000000000000000 ≤ a.toInt - b.toInt) (h2 : a.toInt - b.toInt ≤ 9000000000000000000) : (a - b).toInt = a.toInt - b.toInt := by
  rw [Int64.toInt_sub, Int.bmod_eq_of_le (by omega) (by omega)]
set_option maxRecDepth 20000 in
set_option maxHeartbeats 600000 in
/-- makeRow: a difference -/
theorem c_X11_row6 (l : Launch) (K : Cst) (g : Wd) (m : Nat) (Q : Nat → Nat) (th oc : Int32) (F : Nat → Nat → Int32) (hS : RS K g m Q th oc (b01 true) F) (v lf w k : Nat) (L B : Bg) (hv : v < 8) (hlf : lf < 8) (hne : lf ≠ v) (hw : F 1 v = nI w) (hw1 : 1 ≤ w) (hw4 : w ≤ 4) (hLb : NB F lf L) (gL : good L) (hB : NB F v B) (kB : wk w B) (hk : k < L.length) (hk0 : F 0 v = nI 6) (zL : zw w L) (rt : Nat) (R : Bg) (hrt : rt < 8) (hn3 : F 3 v = nI rt) (hwr : F 1 rt = nI w) (hRb : NB F rt R) (gR : good R) (zR : zw w R) : Ct l K yX11_makeRow cX11_makeRow 8 none 2 [.ref m, .int (nI v), .int (nI lf), .int (nI k)] g (MkP K m Q th oc F v w (if tms R (L[k]).1 < (L[k]).2 then addB (L[k]).1 (((L[k]).2 : Int) - (tms R (L[k]).1 : Int)) B else some B)) (fun _ _ => False) 0 0 := by
  refine ct_of (by decide) (Nat.le_of_ble_eq_true rfl) ?_
  intro X hl hK hX hE hn hL hR hm
  subst hl; subst hK
  show J X 0 0 g 0 [(0, .ref m), (1, .int (nI v)), (2, .int (nI lf)), (3, .int (nI k))] []
  refine j_iconst (v := nI 4) hX dX11_makeRow_0 (by decide) ?_
  refine j_iload_n hX dX11_makeRow_1 1 rfl ?_
  refine j_imul hX dX11_makeRow_2 ?_
  refine j_eqi (y := nI (4 * v)) (pk_mul 4 v) ?_
  refine j_istore (lv' := [(4, .int (nI (4 * v))), (0, .ref m), (1, .int (nI v)), (2, .int (nI lf)), (3, .int (nI k))]) hX dX11_makeRow_3 (by rw [hn]; decide) rfl ?_
  refine j_aload_n hX dX11_makeRow_5 1 rfl ?_
  refine j_iload_n hX dX11_makeRow_6 3 rfl ?_
  refine j_iload_n hX dX11_makeRow_7 4 rfl ?_
  refine j_callV (As := [.int (nI lf), .int (nI k)]) (rest := []) hX (c_X11_take (xl X) (xK X) g m Q th oc (b01 true) F hS lf k hlf (by have := gL.2.1; omega)) hS.1 rfl lk_X11_89 wI_X11_take wV_X11_X11_take wN_X11 wC_X11_take hd_X11_take rfl (by rw [hL]; decide) (by decide) rfl (Nat.le_of_ble_eq_true rfl) dX11_makeRow_8 (by rw [hR]; decide) (by rw [hR]; decide) jx_no ?_
  rintro _ g1 ⟨rfl, F1, hS1, hK, h14⟩
  have hl20 := gL.2.1
  have hx0 := Bg_lt gL hk
  have hP : Kp v F F1 := Kp.row hK v
  rw [(hLb.2 k _ (List.getElem?_eq_getElem hk)).1] at h14
  show J X 0 0 g1 11 [(4, .int (nI (4 * v))), (0, .ref m), (1, .int (nI v)), (2, .int (nI lf)), (3, .int (nI k))] []
  refine j_aload_n hX dX11_makeRow_11 1 rfl ?_
  refine j_get (v := .ref (Q 0)) hX hS1.1 rfl wf_X11 1 (by decide) lk_X11_7 (fun _ h => h) rfl dX11_makeRow_12 ?_
  refine j_iload_n hX dX11_makeRow_15 2 rfl ?_
  refine j_ialdN hX (show g1 (Q 0) = some (aI (xK X) 8 (F1 0)) from hS1.2.1 0 (by decide)) (v) (rfl) (hv) (by decide) dX11_makeRow_16 ?_
  refine j_eqi (y := nI 6) (by rw [hK 0 (by decide)]; exact hk0) ?_
  refine j_iconst (v := nI 2) hX dX11_makeRow_17 (by decide) ?_
  refine j_icmp_ne hX 103 dX11_makeRow_18 (by decide) (fun _ => ?_) (fun c_18 => absurd c_18 (by decide))
  refine j_aload_n hX dX11_makeRow_103 1 rfl ?_
  refine j_get (v := .ref (Q 0)) hX hS1.1 rfl wf_X11 1 (by decide) lk_X11_7 (fun _ h => h) rfl dX11_makeRow_104 ?_
  refine j_iload_n hX dX11_makeRow_107 2 rfl ?_
  refine j_ialdN hX (show g1 (Q 0) = some (aI (xK X) 8 (F1 0)) from hS1.2.1 0 (by decide)) (v) (rfl) (hv) (by decide) dX11_makeRow_108 ?_
  refine j_eqi (y := nI 6) (by rw [hK 0 (by decide)]; exact hk0) ?_
  refine j_iconst (v := nI 3) hX dX11_makeRow_109 (by decide) ?_
  refine j_icmp_ne hX 170 dX11_makeRow_110 (by decide) (fun _ => ?_) (fun c_110 => absurd c_110 (by decide))
  refine j_aload_n hX dX11_makeRow_170 1 rfl ?_
  refine j_get (v := .ref (Q 0)) hX hS1.1 rfl wf_X11 1 (by decide) lk_X11_7 (fun _ h => h) rfl dX11_makeRow_171 ?_
  refine j_iload_n hX dX11_makeRow_174 2 rfl ?_
  refine j_ialdN hX (show g1 (Q 0) = some (aI (xK X) 8 (F1 0)) from hS1.2.1 0 (by decide)) (v) (rfl) (hv) (by decide) dX11_makeRow_175 ?_
  refine j_eqi (y := nI 6) (by rw [hK 0 (by decide)]; exact hk0) ?_
  refine j_bipush (v := nI 6) hX dX11_makeRow_176 (by decide) ?_
  refine j_icmp_ne hX 255 dX11_makeRow_178 (by decide) (fun c_178 => absurd c_178 (fun q => q (by rfl))) (fun _ => ?_)
  refine j_aload_n hX dX11_makeRow_181 1 rfl ?_
  refine j_aload_n hX dX11_makeRow_182 1 rfl ?_
  refine j_get (v := .ref (Q 3)) hX hS1.1 rfl wf_X11 4 (by decide) lk_X11_19 (fun _ h => h) rfl dX11_makeRow_183 ?_
  refine j_iload_n hX dX11_makeRow_186 2 rfl ?_
  refine j_ialdN hX (show g1 (Q 3) = some (aI (xK X) 8 (F1 3)) from hS1.2.1 3 (by decide)) (v) (rfl) (hv) (by decide) dX11_makeRow_187 ?_
  refine j_eqi (y := nI rt) (by rw [hK 3 (by decide)]; exact hn3) ?_
  refine j_callV (As := [.int (nI rt)]) (rest := []) hX (c_X11_place (xl X) (xK X) g1 m Q th oc (b01 true) F1 hS1 rt w R hrt (by rw [hK 1 (by decide)]; exact hwr) hw1 hw4 (NB.row hK hRb) gR.2.1 gR.1 zR) hS1.1 rfl lk_X11_60 wI_X11_place wV_X11_X11_place wN_X11 wC_X11_place hd_X11_place rfl (by rw [hL]; decide) (by decide) rfl (Nat.le_of_ble_eq_true rfl) dX11_makeRow_188 (by rw [hR]; decide) (by rw [hR]; decide) jx_no ?_
  rintro _ _ ⟨rfl, rfl⟩
  rw [h14, trunc_id hw1 (zL _ (List.getElem_mem hk))]
  obtain ⟨p, ep⟩ : ∃ z, z = plc R (L[k]).1 := ⟨_, rfl⟩
  rw [← ep]
  have hp : p ≤ R.length := by rw [ep]; exact plc_le R _
  have hr20 := gR.2.1
  show J X 0 0 g1 191 [(4, .int (nI (4 * v))), (0, .ref m), (1, .int (nI v)), (2, .int (nI lf)), (3, .int (nI k))] [.int (nI p)]
  refine j_istore (lv' := [(5, .int (nI p)), (4, .int (nI (4 * v))), (0, .ref m), (1, .int (nI v)), (2, .int (nI lf)), (3, .int (nI k))]) hX dX11_makeRow_191 (by rw [hn]; decide) rfl ?_
  refine j_aload_n hX dX11_makeRow_193 2 rfl ?_
  refine j_aload_n hX dX11_makeRow_194 2 rfl ?_
  refine j_get (v := .ref (Q 3)) hX hS1.1 rfl wf_X11 4 (by decide) lk_X11_19 (fun _ h => h) rfl dX11_makeRow_195 ?_
  refine j_iload_n hX dX11_makeRow_198 3 rfl ?_
  refine j_ialdN hX (show g1 (Q 3) = some (aI (xK X) 8 (F1 3)) from hS1.2.1 3 (by decide)) (v) (rfl) (hv) (by decide) dX11_makeRow_199 ?_
  refine j_eqi (y := nI rt) (by rw [hK 3 (by decide)]; exact hn3) ?_
  refine j_iload hX dX11_makeRow_200 0 rfl ?_
  refine j_callV (As := [.int (nI rt), .int (nI p)]) (rest := []) hX (c_X11_isAt (xl X) (xK X) g1 m Q th oc (b01 true) F1 hS1 rt w R hrt (by rw [hK 1 (by decide)]; exact hwr) hw1 hw4 (NB.row hK hRb) gR.2.1 gR.1 zR p (by omega)) hS1.1 rfl lk_X11_64 wI_X11_isAt wV_X11_X11_isAt wN_X11 wC_X11_isAt hd_X11_isAt rfl (by rw [hL]; decide) (by decide) rfl (Nat.le_of_ble_eq_true rfl) dX11_makeRow_202 (by rw [hR]; decide) (by rw [hR]; decide) jx_no ?_
  rintro _ _ ⟨b9, rfl, hb, rfl⟩
  rw [h14, trunc_id hw1 (zL _ (List.getElem_mem hk))] at hb
  show J X 0 0 g1 205 [(5, .int (nI p)), (4, .int (nI (4 * v))), (0, .ref m), (1, .int (nI v)), (2, .int (nI lf)), (3, .int (nI k))] [.int (b01 b9)]
  refine j_if_eq hX 223 dX11_makeRow_205 (by decide) (fun c_205 => ?_) (fun c_205 => ?_)
  · have ht : tms R (L[k]).1 = 0 := by
      unfold tms
      rw [← ep]
      cases hx : R[p]? with
      | none => rfl
      | some x => simp only; rw [if_neg (fun q => b01_f c_205 (hb.mpr ⟨x, hx, q⟩))]
    refine j_lconst (v := 0) hX dX11_makeRow_223 (by decide) ?_
    refine j_eql (y := (nI (tms R (L[k]).1)).toInt64) (by rw [ht]; rfl) ?_
    refine j_lstore (lv' := [(6, .long ((nI (tms R (L[k]).1)).toInt64)), (5, .int (nI p)), (4, .int (nI (4 * v))), (0, .ref m), (1, .int (nI v)), (2, .int (nI lf)), (3, .int (nI k))]) hX dX11_makeRow_224 (by rw [hn]; decide) rfl ?_
    refine j_aload_n hX dX11_makeRow_226 3 rfl ?_
    refine j_iload_n hX dX11_makeRow_227 5 rfl ?_
    refine j_iload_n hX dX11_makeRow_228 6 rfl ?_
    refine j_callV (As := [.int (nI lf), .int (nI k)]) (rest := []) hX (c_X11_timesOf (xl X) (xK X) g1 m Q th oc (b01 true) F1 hS1 lf k hlf (by omega)) hS1.1 rfl lk_X11_93 wI_X11_timesOf wV_X11_X11_timesOf wN_X11 wC_X11_timesOf hd_X11_timesOf rfl (by rw [hL]; decide) (by decide) rfl (Nat.le_of_ble_eq_true rfl) dX11_makeRow_229 (by rw [hR]; decide) (by rw [hR]; decide) jx_no ?_
    rintro _ _ ⟨rfl, rfl⟩
    show J X 0 0 g1 232 [(6, .long ((nI (tms R (L[k]).1)).toInt64)), (5, .int (nI p)), (4, .int (nI (4 * v))), (0, .ref m), (1, .int (nI v)), (2, .int (nI lf)), (3, .int (nI k))] [.long ((F1 12 (20 * lf + k)).toInt64)]
    have htl := tms_le gR (L[k]).1
    refine j_eql (y := (nI (L[k]).2).toInt64) (by rw [hK 12 (by decide), repA_time hLb.2 hk]) ?_
    refine j_lload hX dX11_makeRow_232 0 rfl ?_
    refine j_lcmp hX dX11_makeRow_234 ?_
    refine j_if_le hX 252 dX11_makeRow_235 (by decide) (fun c_235 => ?_) (fun c_235 => ?_)
    · have c235 := l_le.mp ((lg_cmp_le _ _).mp c_235)
      rw [l_nI (by omega), l_nI (by omega)] at c235
      refine j_goto hX 281 dX11_makeRow_252 (by decide) ?_
      exact j_vret hX hE dX11_makeRow_281 (by rw [if_neg (by omega)]; exact MkP.no hS1 hP (NB.row hK hB) kB) (by decide) (by decide)
    · have c235 := l_lt.mp (Int64.not_le.mp (fun q => c_235 ((lg_cmp_le _ _).mpr q)))
      rw [l_nI (by omega), l_nI (by omega)] at c235
      have hy : ((nI (L[k]).2).toInt64 - (nI (tms R (L[k]).1)).toInt64).toInt = ((L[k]).2 : Int) - (tms R (L[k]).1 : Int) := by rw [l_sub (by rw [l_nI (by omega), l_nI (by omega)]; omega) (by rw [l_nI (by omega), l_nI (by omega)]; omega), l_nI (by omega), l_nI (by omega)]
      refine j_aload_n hX dX11_makeRow_238 3 rfl ?_
      refine j_iload_n hX dX11_makeRow_239 4 rfl ?_
      refine j_aload_n hX dX11_makeRow_240 3 rfl ?_
      refine j_iload_n hX dX11_makeRow_241 5 rfl ?_
      refine j_iload_n hX dX11_makeRow_242 6 rfl ?_
      refine j_callV (As := [.int (nI lf), .int (nI k)]) (rest := [.int (nI v), .ref m]) hX (c_X11_timesOf (xl X) (xK X) g1 m Q th oc (b01 true) F1 hS1 lf k hlf (by omega)) hS1.1 rfl lk_X11_93 wI_X11_timesOf wV_X11_X11_timesOf wN_X11 wC_X11_timesOf hd_X11_timesOf rfl (by rw [hL]; decide) (by decide) rfl (Nat.le_of_ble_eq_true rfl) dX11_makeRow_243 (by rw [hR]; decide) (by rw [hR]; decide) jx_no ?_
      rintro _ _ ⟨rfl, rfl⟩
      show J X 0 0 g1 246 [(6, .long ((nI (tms R (L[k]).1)).toInt64)), (5, .int (nI p)), (4, .int (nI (4 * v))), (0, .ref m), (1, .int (nI v)), (2, .int (nI lf)), (3, .int (nI k))] [.long ((F1 12 (20 * lf + k)).toInt64), .int (nI v), .ref m]
      refine j_eql (y := (nI (L[k]).2).toInt64) (by rw [hK 12 (by decide), repA_time hLb.2 hk]) ?_
      refine j_lload hX dX11_makeRow_246 0 rfl ?_
      refine j_lsub hX dX11_makeRow_248 ?_
      refine j_callV (As := [.int (nI v), .long (((nI (L[k]).2).toInt64) - ((nI (tms R (L[k]).1)).toInt64))]) (rest := []) hX (c_X11_add (xl X) (xK X) g1 m Q th oc true F1 hS1 v w B hv (by rw [hK 1 (by decide)]; exact hw) hw1 hw4 (NB.row hK hB) kB (L[k]).1 (by rw [h14, trunc_id hw1 (zL _ (List.getElem_mem hk))]) ((nI (L[k]).2).toInt64 - (nI (tms R (L[k]).1)).toInt64) (by rw [hy]; omega) (by rw [hy]; omega)) hS1.1 rfl lk_X11_97 wI_X11_add wV_X11_X11_add wN_X11 wC_X11_add hd_X11_add rfl (by rw [hL]; decide) (by decide) rfl (Nat.le_of_ble_eq_true rfl) dX11_makeRow_249 (by rw [hR]; decide) (by rw [hR]; decide) jx_no ?_
      rintro _ g2 ⟨rfl, h9⟩
      rw [hy] at h9
      show J X 0 0 g2 252 [(6, .long ((nI (tms R (L[k]).1)).toInt64)), (5, .int (nI p)), (4, .int (nI (4 * v))), (0, .ref m), (1, .int (nI v)), (2, .int (nI lf)), (3, .int (nI k))] []
      refine j_goto hX 281 dX11_makeRow_252 (by decide) ?_
      exact j_vret hX hE dX11_makeRow_281 (by rw [if_pos (by omega)]; exact (AddP.mk ⟨rfl, h9⟩).tr hP) (by decide) (by decide)
  · obtain ⟨x, hx, hx1⟩ := hb.mp (b01_t c_205)
    have hpl := rep_lt hx
    have ht : tms R (L[k]).1 = x.2 := by rw [← hx1]; exact tms_at gR.1 hx
    refine j_aload_n hX dX11_makeRow_208 2 rfl ?_
    refine j_aload_n hX dX11_makeRow_209 2 rfl ?_
    refine j_get (v := .ref (Q 3)) hX hS1.1 rfl wf_X11 4 (by decide) lk_X11_19 (fun _ h => h) rfl dX11_makeRow_210 ?_
    refine j_iload_n hX dX11_makeRow_213 3 rfl ?_
    refine j_ialdN hX (show g1 (Q 3) = some (aI (xK X) 8 (F1 3)) from hS1.2.1 3 (by decide)) (v) (rfl) (hv) (by decide) dX11_makeRow_214 ?_
    refine j_eqi (y := nI rt) (by rw [hK 3 (by decide)]; exact hn3) ?_
    refine j_iload hX dX11_makeRow_215 0 rfl ?_
    refine j_callV (As := [.int (nI rt), .int (nI p)]) (rest := []) hX (c_X11_timesOf (xl X) (xK X) g1 m Q th oc (b01 true) F1 hS1 rt p hrt (by omega)) hS1.1 rfl lk_X11_93 wI_X11_timesOf wV_X11_X11_timesOf wN_X11 wC_X11_timesOf hd_X11_timesOf rfl (by rw [hL]; decide) (by decide) rfl (Nat.le_of_ble_eq_true rfl) dX11_makeRow_217 (by rw [hR]; decide) (by rw [hR]; decide) jx_no ?_
    rintro _ _ ⟨rfl, rfl⟩
    show J X 0 0 g1 220 [(5, .int (nI p)), (4, .int (nI (4 * v))), (0, .ref m), (1, .int (nI v)), (2, .int (nI lf)), (3, .int (nI k))] [.long ((F1 12 (20 * rt + p)).toInt64)]
    refine j_eql (y := (nI (tms R (L[k]).1)).toInt64) (by rw [hK 12 (by decide), (hRb.2 p x hx).2, ht]) ?_
    refine j_goto hX 224 dX11_makeRow_220 (by decide) ?_
    refine j_lstore (lv' := [(6, .long ((nI (tms R (L[k]).1)).toInt64)), (5, .int (nI p)), (4, .int (nI (4 * v))), (0, .ref m), (1, .int (nI v)), (2, .int (nI lf)), (3, .int (nI k))]) hX dX11_makeRow_224 (by rw [hn]; decide) rfl ?_
    refine j_aload_n hX dX11_makeRow_226 3 rfl ?_
    refine j_iload_n hX dX11_makeRow_227 5 rfl ?_
    refine j_iload_n hX dX11_makeRow_228 6 rfl ?_
    refine j_callV (As := [.int (nI lf), .int (nI k)]) (rest := []) hX (c_X11_timesOf (xl X) (xK X) g1 m Q th oc (b01 true) F1 hS1 lf k hlf (by omega)) hS1.1 rfl lk_X11_93 wI_X11_timesOf wV_X11_X11_timesOf wN_X11 wC_X11_timesOf hd_X11_timesOf rfl (by rw [hL]; decide) (by decide) rfl (Nat.le_of_ble_eq_true rfl) dX11_makeRow_229 (by rw [hR]; decide) (by rw [hR]; decide) jx_no ?_
    rintro _ _ ⟨rfl, rfl⟩
    show J X 0 0 g1 232 [(6, .long ((nI (tms R (L[k]).1)).toInt64)), (5, .int (nI p)), (4, .int (nI (4 * v))), (0, .ref m), (1, .int (nI v)), (2, .int (nI lf)), (3, .int (nI k))] [.long ((F1 12 (20 * lf + k)).toInt64)]
    have htl := tms_le gR (L[k]).1
    refine j_eql (y := (nI (L[k]).2).toInt64) (by rw [hK 12 (by decide), repA_time hLb.2 hk]) ?_
    refine j_lload hX dX11_makeRow_232 0 rfl ?_
    refine j_lcmp hX dX11_makeRow_234 ?_
    refine j_if_le hX 252 dX11_makeRow_235 (by decide) (fun c_235 => ?_) (fun c_235 => ?_)
    · have c235 := l_le.mp ((lg_cmp_le _ _).mp c_235)
      rw [l_nI (by omega), l_nI (by omega)] at c235
      refine j_goto hX 281 dX11_makeRow_252 (by decide) ?_
      exact j_vret hX hE dX11_makeRow_281 (by rw [if_neg (by omega)]; exact MkP.no hS1 hP (NB.row hK hB) kB) (by decide) (by decide)
    · have c235 := l_lt.mp (Int64.not_le.mp (fun q => c_235 ((lg_cmp_le _ _).mpr q)))
      rw [l_nI (by omega), l_nI (by omega)] at c235
      have hy : ((nI (L[k]).2).toInt64 - (nI (tms R (L[k]).1)).toInt64).toInt = ((L[k]).2 : Int) - (tms R (L[k]).1 : Int) := by rw [l_sub (by rw [l_nI (by omega), l_nI (by omega)]; omega) (by rw [l_nI (by omega), l_nI (by omega)]; omega), l_nI (by omega), l_nI (by omega)]
      refine j_aload_n hX dX11_makeRow_238 3 rfl ?_
      refine j_iload_n hX dX11_makeRow_239 4 rfl ?_
      refine j_aload_n hX dX11_makeRow_240 3 rfl ?_
      refine j_iload_n hX dX11_makeRow_241 5 rfl ?_
      refine j_iload_n hX dX11_makeRow_242 6 rfl ?_
      refine j_callV (As := [.int (nI lf), .int (nI k)]) (rest := [.int (nI v), .ref m]) hX (c_X11_timesOf (xl X) (xK X) g1 m Q th oc (b01 true) F1 hS1 lf k hlf (by omega)) hS1.1 rfl lk_X11_93 wI_X11_timesOf wV_X11_X11_timesOf wN_X11 wC_X11_timesOf hd_X11_timesOf rfl (by rw [hL]; decide) (by decide) rfl (Nat.le_of_ble_eq_true rfl) dX11_makeRow_243 (by rw [hR]; decide) (by rw [hR]; decide) jx_no ?_
      rintro _ _ ⟨rfl, rfl⟩
      show J X 0 0 g1 246 [(6, .long ((nI (tms R (L[k]).1)).toInt64)), (5, .int (nI p)), (4, .int (nI (4 * v))), (0, .ref m), (1, .int (nI v)), (2, .int (nI lf)), (3, .int (nI k))] [.long ((F1 12 (20 * lf + k)).toInt64), .int (nI v), .ref m]
      refine j_eql (y := (nI (L[k]).2).toInt64) (by rw [hK 12 (by decide), repA_time hLb.2 hk]) ?_
      refine j_lload hX dX11_makeRow_246 0 rfl ?_
      refine j_lsub hX dX11_makeRow_248 ?_
      refine j_callV (As := [.int (nI v), .long (((nI (L[k]).2).toInt64) - ((nI (tms R (L[k]).1)).toInt64))]) (rest := []) hX (c_X11_add (xl X) (xK X) g1 m Q th oc true F1 hS1 v w B hv (by rw [hK 1 (by decide)]; exact hw) hw1 hw4 (NB.row hK hB) kB (L[k]).1 (by rw [h14, trunc_id hw1 (zL _ (List.getElem_mem hk))]) ((nI (L[k]).2).toInt64 - (nI (tms R (L[k]).1)).toInt64) (by rw [hy]; omega) (by rw [hy]; omega)) hS1.1 rfl lk_X11_97 wI_X11_add wV_X11_X11_add wN_X11 wC_X11_add hd_X11_add rfl (by rw [hL]; decide) (by decide) rfl (Nat.le_of_ble_eq_true rfl) dX11_makeRow_249 (by rw [hR]; decide) (by rw [hR]; decide) jx_no ?_
      rintro _ g2 ⟨rfl, h9⟩
      rw [hy] at h9
      show J X 0 0 g2 252 [(6, .long ((nI (tms R (L[k]).1)).toInt64)), (5, .int (nI p)), (4, .int (nI (4 * v))), (0, .ref m), (1, .int (nI v)), (2, .int (nI lf)), (3, .int (nI k))] []
      refine j_goto hX 281 dX11_makeRow_252 (by decide) ?_
      exact j_vret hX hE dX11_makeRow_281 (by rw [if_pos (by omega)]; exact (AddP.mk ⟨rfl, h9⟩).tr hP) (by decide) (by decide)

set_option maxRecDepth 20000 in
set_option maxHeartbeats 600000 in
/-- makeRow: columns -/
theorem c_X11_row3 (l : Launch) (K : Cst) (g : Wd) (m : Nat) (Q : Nat → Nat) (th oc : Int32) (F : Nat → Nat → Int32) (hS : RS K g m Q th oc (b01 true) F) (v lf w k : Nat) (L B : Bg) (hv : v < 8) (hlf : lf < 8) (hne : lf ≠ v) (hw : F 1 v = nI w) (hw1 : 1 ≤ w) (hw4 : w ≤ 4) (hLb : NB F lf L) (gL : good L) (hB : NB F v B) (kB : wk w B) (hk : k < L.length) (hk0 : F 0 v = nI 3) (n : Nat → Int32) (hnb : ∀ j, j < 4 → F 4 (4 * v + j) = n j) (hnv : ∀ i, n i = -1 ∨ ∃ c, c < 4 ∧ n i = nI c) (hwk : ∀ j, j < 4 → (j < w ↔ ¬ n j = -1)) : Ct l K yX11_makeRow cX11_makeRow 8 none 2 [.ref m, .int (nI v), .int (nI lf), .int (nI k)] g (MkP K m Q th oc F v w (addB (pickR (fun i => chO (n i)) (L[k]).1) ((L[k]).2 : Int) B)) (fun _ _ => False) 0 0 := by
  refine ct_of (by decide) (Nat.le_of_ble_eq_true rfl) ?_
  intro X hl hK hX hE hn hL hR hm
  subst hl; subst hK
  show J X 0 0 g 0 [(0, .ref m), (1, .int (nI v)), (2, .int (nI lf)), (3, .int (nI k))] []
  refine j_iconst (v := nI 4) hX dX11_makeRow_0 (by decide) ?_
  refine j_iload_n hX dX11_makeRow_1 1 rfl ?_
  refine j_imul hX dX11_makeRow_2 ?_
  refine j_eqi (y := nI (4 * v)) (pk_mul 4 v) ?_
  refine j_istore (lv' := [(4, .int (nI (4 * v))), (0, .ref m), (1, .int (nI v)), (2, .int (nI lf)), (3, .int (nI k))]) hX dX11_makeRow_3 (by rw [hn]; decide) rfl ?_
  refine j_aload_n hX dX11_makeRow_5 1 rfl ?_
  refine j_iload_n hX dX11_makeRow_6 3 rfl ?_
  refine j_iload_n hX dX11_makeRow_7 4 rfl ?_
  refine j_callV (As := [.int (nI lf), .int (nI k)]) (rest := []) hX (c_X11_take (xl X) (xK X) g m Q th oc (b01 true) F hS lf k hlf (by have := gL.2.1; omega)) hS.1 rfl lk_X11_89 wI_X11_take wV_X11_X11_take wN_X11 wC_X11_take hd_X11_take rfl (by rw [hL]; decide) (by decide) rfl (Nat.le_of_ble_eq_true rfl) dX11_makeRow_8 (by rw [hR]; decide) (by rw [hR]; decide) jx_no ?_
  rintro _ g1 ⟨rfl, F1, hS1, hK, h14⟩
  have hl20 := gL.2.1
  have hx0 := Bg_lt gL hk
  have hP : Kp v F F1 := Kp.row hK v
  rw [(hLb.2 k _ (List.getElem?_eq_getElem hk)).1] at h14
  show J X 0 0 g1 11 [(4, .int (nI (4 * v))), (0, .ref m), (1, .int (nI v)), (2, .int (nI lf)), (3, .int (nI k))] []
  refine j_aload_n hX dX11_makeRow_11 1 rfl ?_
  refine j_get (v := .ref (Q 0)) hX hS1.1 rfl wf_X11 1 (by decide) lk_X11_7 (fun _ h => h) rfl dX11_makeRow_12 ?_
  refine j_iload_n hX dX11_makeRow_15 2 rfl ?_
  refine j_ialdN hX (show g1 (Q 0) = some (aI (xK X) 8 (F1 0)) from hS1.2.1 0 (by decide)) (v) (rfl) (hv) (by decide) dX11_makeRow_16 ?_
  refine j_eqi (y := nI 3) (by rw [hK 0 (by decide)]; exact hk0) ?_
  refine j_iconst (v := nI 2) hX dX11_makeRow_17 (by decide) ?_
  refine j_icmp_ne hX 103 dX11_makeRow_18 (by decide) (fun _ => ?_) (fun c_18 => absurd c_18 (by decide))
  refine j_aload_n hX dX11_makeRow_103 1 rfl ?_
  refine j_get (v := .ref (Q 0)) hX hS1.1 rfl wf_X11 1 (by decide) lk_X11_7 (fun _ h => h) rfl dX11_makeRow_104 ?_
  refine j_iload_n hX dX11_makeRow_107 2 rfl ?_
  refine j_ialdN hX (show g1 (Q 0) = some (aI (xK X) 8 (F1 0)) from hS1.2.1 0 (by decide)) (v) (rfl) (hv) (by decide) dX11_makeRow_108 ?_
  refine j_eqi (y := nI 3) (by rw [hK 0 (by decide)]; exact hk0) ?_
  refine j_iconst (v := nI 3) hX dX11_makeRow_109 (by decide) ?_
  refine j_icmp_ne hX 170 dX11_makeRow_110 (by decide) (fun c_110 => absurd c_110 (fun q => q (by rfl))) (fun _ => ?_)
  refine j_iconst (v := nI 0) hX dX11_makeRow_113 (by decide) ?_
  refine j_istore (lv' := [(5, .int (nI 0)), (4, .int (nI (4 * v))), (0, .ref m), (1, .int (nI v)), (2, .int (nI lf)), (3, .int (nI k))]) hX dX11_makeRow_114 (by rw [hn]; decide) rfl ?_
  have loop : ∀ (q c : Nat) (D : Nat → Nat → Int32) (gd : Wd), c + q = w → RS (xK X) gd m Q th oc (b01 true) D → (∀ j, j ≠ 14 → D j = F j) → (∀ z, z < c → D 14 z = pk1 (fun i => chO (n i)) (L[k]).1 z) → J X 0 0 gd 116 [(5, .int (nI c)), (4, .int (nI (4 * v))), (0, .ref m), (1, .int (nI v)), (2, .int (nI lf)), (3, .int (nI k))] [] := by
    intro q
    induction q with
    | zero =>
      intro c D gd hc hD hK9 hc2
      refine j_iload hX dX11_makeRow_116 0 rfl ?_
      refine j_aload_n hX dX11_makeRow_118 2 rfl ?_
      refine j_get (v := .ref (Q 1)) hX hD.1 rfl wf_X11 2 (by decide) lk_X11_13 (fun _ h => h) rfl dX11_makeRow_119 ?_
      refine j_iload_n hX dX11_makeRow_122 3 rfl ?_
      refine j_ialdN hX (show gd (Q 1) = some (aI (xK X) 8 (D 1)) from hD.2.1 1 (by decide)) (v) (rfl) (hv) (by decide) dX11_makeRow_123 ?_
      refine j_eqi (y := nI w) (by rw [hK9 1 (by decide)]; exact hw) ?_
      refine j_icmp_ge hX 156 dX11_makeRow_124 (by decide) (fun _ => ?_) (fun c_124 => absurd (nI_le (a := w) (b := c) (by omega) (by omega)) c_124)
      refine j_aload_n hX dX11_makeRow_156 2 rfl ?_
      refine j_iload_n hX dX11_makeRow_157 3 rfl ?_
      refine j_aload_n hX dX11_makeRow_158 2 rfl ?_
      refine j_iload_n hX dX11_makeRow_159 4 rfl ?_
      refine j_iload_n hX dX11_makeRow_160 5 rfl ?_
      refine j_callV (As := [.int (nI lf), .int (nI k)]) (rest := [.int (nI v), .ref m]) hX (c_X11_timesOf (xl X) (xK X) gd m Q th oc (b01 true) D hD lf k hlf (by omega)) hD.1 rfl lk_X11_93 wI_X11_timesOf wV_X11_X11_timesOf wN_X11 wC_X11_timesOf hd_X11_timesOf rfl (by rw [hL]; decide) (by decide) rfl (Nat.le_of_ble_eq_true rfl) dX11_makeRow_161 (by rw [hR]; decide) (by rw [hR]; decide) jx_no ?_
      rintro _ _ ⟨rfl, rfl⟩
      show J X 0 0 gd 164 [(5, .int (nI c)), (4, .int (nI (4 * v))), (0, .ref m), (1, .int (nI v)), (2, .int (nI lf)), (3, .int (nI k))] [.long ((D 12 (20 * lf + k)).toInt64), .int (nI v), .ref m]
      refine j_eql (y := (nI (L[k]).2).toInt64) (by rw [hK9 12 (by decide), repA_time hLb.2 hk]) ?_
      refine j_callV (As := [.int (nI v), .long ((nI (L[k]).2).toInt64)]) (rest := []) hX (c_X11_add (xl X) (xK X) gd m Q th oc true D hD v w B hv (by rw [hK9 1 (by decide)]; exact hw) hw1 hw4 (NB.row hK9 hB) kB (pickR (fun i => chO (n i)) (L[k]).1) ((trunc_eq hw1 (fun z h1 h2 => by rw [cellR_pick h2]; exact pk1_n (Classical.not_not.mp (fun q => absurd ((hwk z h2).mpr q) (by omega)))) (fun z h1 h2 => by rw [← rowAt_cell h2, hc2 z (by omega), cellR_pick h2]))) ((nI (L[k]).2).toInt64) (by rw [l_nI (by omega)]; omega) (by rw [l_nI (by omega)]; omega)) hD.1 rfl lk_X11_97 wI_X11_add wV_X11_X11_add wN_X11 wC_X11_add hd_X11_add rfl (by rw [hL]; decide) (by decide) rfl (Nat.le_of_ble_eq_true rfl) dX11_makeRow_164 (by rw [hR]; decide) (by rw [hR]; decide) jx_no ?_
      rintro _ g2 ⟨rfl, h9⟩
      rw [l_nI (by omega)] at h9
      show J X 0 0 g2 167 [(5, .int (nI c)), (4, .int (nI (4 * v))), (0, .ref m), (1, .int (nI v)), (2, .int (nI lf)), (3, .int (nI k))] []
      refine j_goto hX 281 dX11_makeRow_167 (by decide) ?_
      exact j_vret hX hE dX11_makeRow_281 ((AddP.mk ⟨rfl, h9⟩).tr (Kp.row hK9 v)) (by decide) (by decide)
    | succ q ih =>
      intro c D gd hc hD hK9 hc2
      obtain ⟨cc, hcc, ecc⟩ := (hnv c).resolve_left ((hwk c (by omega)).mp (by omega))
      refine j_iload hX dX11_makeRow_116 0 rfl ?_
      refine j_aload_n hX dX11_makeRow_118 2 rfl ?_
      refine j_get (v := .ref (Q 1)) hX hD.1 rfl wf_X11 2 (by decide) lk_X11_13 (fun _ h => h) rfl dX11_makeRow_119 ?_
      refine j_iload_n hX dX11_makeRow_122 3 rfl ?_
      refine j_ialdN hX (show gd (Q 1) = some (aI (xK X) 8 (D 1)) from hD.2.1 1 (by decide)) (v) (rfl) (hv) (by decide) dX11_makeRow_123 ?_
      refine j_eqi (y := nI w) (by rw [hK9 1 (by decide)]; exact hw) ?_
      refine j_icmp_ge hX 156 dX11_makeRow_124 (by decide) (fun c_124 => absurd c_124 (nI_ge (a := c) (b := w) (by omega) (by omega))) (fun _ => ?_)
      refine j_aload_n hX dX11_makeRow_127 2 rfl ?_
      refine j_get (v := .ref (Q 14)) hX hD.1 rfl wf_X11 17 (by decide) lk_X11_53 (fun _ h => h) rfl dX11_makeRow_128 ?_
      refine j_iload hX dX11_makeRow_131 0 rfl ?_
      refine j_aload_n hX dX11_makeRow_133 2 rfl ?_
      refine j_iload_n hX dX11_makeRow_134 4 rfl ?_
      refine j_iload_n hX dX11_makeRow_135 5 rfl ?_
      refine j_aload_n hX dX11_makeRow_136 2 rfl ?_
      refine j_get (v := .ref (Q 4)) hX hD.1 rfl wf_X11 5 (by decide) lk_X11_22 (fun _ h => h) rfl dX11_makeRow_137 ?_
      refine j_iload hX dX11_makeRow_140 1 rfl ?_
      refine j_iload hX dX11_makeRow_142 0 rfl ?_
      refine j_iadd hX dX11_makeRow_144 ?_
      refine j_eqi (y := nI (4 * v + c)) (ix4v v c) ?_
      refine j_ialdN hX (show gd (Q 4) = some (aI (xK X) 32 (D 4)) from hD.2.1 4 (by decide)) (4 * v + c) (rfl) (by omega) (by decide) dX11_makeRow_145 ?_
      refine j_eqi (y := nI cc) (by rw [hK9 4 (by decide), hnb c (by omega)]; exact ecc) ?_
      refine j_callV (As := [.int (nI lf), .int (nI k), .int (nI cc)]) (rest := [.int (nI c), .ref (Q 14)]) hX (c_X11_cellOf (xl X) (xK X) gd m Q th oc (b01 true) D hD lf k cc hlf (by omega) hcc) hD.1 rfl lk_X11_74 wI_X11_cellOf wV_X11_X11_cellOf wN_X11 wC_X11_cellOf hd_X11_cellOf rfl (by rw [hL]; decide) (by decide) rfl (Nat.le_of_ble_eq_true rfl) dX11_makeRow_146 (by rw [hR]; decide) (by rw [hR]; decide) jx_no ?_
      rintro _ _ ⟨rfl, rfl⟩
      show J X 0 0 gd 149 [(5, .int (nI c)), (4, .int (nI (4 * v))), (0, .ref m), (1, .int (nI v)), (2, .int (nI lf)), (3, .int (nI k))] [.int (D 11 (80 * lf + 4 * k + cc)), .int (nI c), .ref (Q 14)]
      refine j_iastN hX (show gd (Q 14) = some (aI (xK X) 4 (D 14)) from hD.2.1 14 (by decide)) (c) (rfl) (by omega) (by decide) dX11_makeRow_149 ?_
      obtain ⟨gs1, egs1⟩ : ∃ z : Wd, z = up gd (Q 14) (aI (xK X) 4 (upd (D 14) (c) (D 11 (80 * lf + 4 * k + cc)))) := ⟨_, rfl⟩
      refine j_w egs1.symm ?_
      obtain ⟨Fs1, eFs1⟩ : ∃ z, z = fu D 14 (upd (D 14) (c) (D 11 (80 * lf + 4 * k + cc))) := ⟨_, rfl⟩
      have hSs1 : RS (xK X) gs1 m Q th oc (b01 true) Fs1 := by rw [egs1, eFs1]; exact hD.put 14 (by decide) _
      refine j_iinc (v := nI (c + 1)) (lv' := [(5, .int (nI (c + 1))), (4, .int (nI (4 * v))), (0, .ref m), (1, .int (nI v)), (2, .int (nI lf)), (3, .int (nI k))]) hX dX11_makeRow_150 0 rfl (nI_1 c) (by rw [hn]; decide) rfl ?_
      refine j_goto hX 116 dX11_makeRow_153 (by decide) ?_
      refine j_sub [0, 1, 2, 3, 4, 5] rfl ?_
      exact ih (c + 1) Fs1 gs1 (by omega) hSs1 (fun j hj => by rw [eFs1, fu_n hj]; exact hK9 j hj) (fun z hz => by
        rw [eFs1, fu_s]
        by_cases e : z = c
        · rw [e, pk_us, hK9 11 (by decide), repA_cell hLb.2 hk (by omega)]; exact (pk1_s ecc hcc).symm
        · rw [pk_un e]; exact hc2 z (by omega))
  refine j_sub (lv' := [(5, .int (nI 0)), (4, .int (nI (4 * v))), (0, .ref m), (1, .int (nI v)), (2, .int (nI lf)), (3, .int (nI k))]) [0, 1, 2, 3, 4, 5] rfl ?_
  exact loop w 0 F1 g1 (by omega) hS1 hK (fun z hz => absurd hz (by omega))

