def stepB (q : Option (Row × Int)) (B : Bg) : Option Bg := match q with
  | none => some B
  | some q => addB q.1 q.2 B
theorem fld_sn {α : Type} {f : α → Option (Row × Int)} {L : List α} {B : Bg} {k : Nat} (hk : k < L.length) (h : stepB (f L[k]) B = none) : fldB f (L.drop k) B = none := by
  cases e : f L[k] with
  | none => rw [e] at h; cases h
  | some q => rw [e] at h; exact fld_no hk e h
theorem fld_sy {α : Type} {f : α → Option (Row × Int)} {L : List α} {B B' : Bg} {k : Nat} (hk : k < L.length) (h : stepB (f L[k]) B = some B') : fldB f (L.drop k) B = fldB f (L.drop (k + 1)) B' := by
  cases e : f L[k] with
  | none => rw [e] at h; cases h; exact fld_skip hk e
  | some q => rw [e] at h; exact fld_yes hk e h
def cntK (kd : Nat) : Nat := match kd with
  | 2 => 3
  | 3 => 4
  | 4 => 2
  | 8 => 3
  | _ => 0
/-- what the reference keeps of the view v -/
def VD (F : Nat → Nat → Int32) (v kd w lf rt wl wr : Nat) (n : Nat → Int32) (ot : Bool) : Prop := (F 0 v = nI kd ∧ F 1 v = nI w ∧ F 2 v = nI lf) ∧ ((kd = 4 ∨ kd = 5 ∨ kd = 6) → F 3 v = nI rt) ∧ (∀ j, j < cntK kd → F 4 (4 * v + j) = n j) ∧ (kd = 2 → F 5 v = b01 ot) ∧ F 1 lf = nI wl ∧ F 1 rt = nI wr
theorem VD.kp {q : Nat} {F G : Nat → Nat → Int32} {v kd w lf rt wl wr : Nat} {n : Nat → Int32} {ot : Bool} (hK : Kp q F G) (h : VD F v kd w lf rt wl wr n ot) : VD G v kd w lf rt wl wr n ot := by
  unfold VD at h ⊢
  rw [hK.1 0 (by decide), hK.1 1 (by decide), hK.1 2 (by decide), hK.1 3 (by decide), hK.1 4 (by decide), hK.1 5 (by decide)]
  exact h
set_option maxRecDepth 20000 in
set_option maxHeartbeats 600000 in
theorem c_X11_make4 (l : Launch) (K : Cst) (g : Wd) (m : Nat) (Q : Nat → Nat) (th oc : Int32) (F : Nat → Nat → Int32) (hS : RS K g m Q th oc (b01 true) F) (v kd w lf : Nat) (L : Bg) (hv : v < 8) (hlf : lf < 8) (hne : lf ≠ v) (hk0 : F 0 v = nI kd) (h2 : F 2 v = nI lf) (hLb : NB F lf L) (gL : good L) (O : Option Bg) (e4 : kd = 4) (hcall : ∀ (G : Nat → Nat → Int32) (g9 : Wd), RS K g9 m Q th oc (b01 true) G → Kp v F G → NB G v [] → Ct l K yX11_makeJoin cX11_makeJoin 7 none 2 [.ref m, .int (nI v)] g9 (MkP K m Q th oc G v w O) (fun _ _ => False) 0 0) : Ct l K yX11_make cX11_make 4 none 3 [.ref m, .int (nI v)] g (MkP K m Q th oc F v w O) (fun _ _ => False) 0 0 := by
  refine ct_of (by decide) (Nat.le_of_ble_eq_true rfl) ?_
  intro X hl hK hX hE hn hL hR hm
  subst hl; subst hK
  show J X 0 0 g 0 [(0, .ref m), (1, .int (nI v))] []
  refine j_aload_n hX dX11_make_0 0 rfl ?_
  refine j_get (v := .ref (Q 13)) hX hS.1 rfl wf_X11 15 (by decide) lk_X11_50 (fun _ h => h) rfl dX11_make_1 ?_
  refine j_iload_n hX dX11_make_4 1 rfl ?_
  refine j_iconst (v := nI 0) hX dX11_make_5 (by decide) ?_
  refine j_iastN hX (show g (Q 13) = some (aI (xK X) 8 (F 13)) from hS.2.1 13 (by decide)) (v) (rfl) (hv) (by decide) dX11_make_6 ?_
  obtain ⟨g1, eg1⟩ : ∃ z : Wd, z = up g (Q 13) (aI (xK X) 8 (upd (F 13) (v) (nI 0))) := ⟨_, rfl⟩
  refine j_w eg1.symm ?_
  obtain ⟨F1, eF1⟩ : ∃ z, z = fu F 13 (upd (F 13) (v) (nI 0)) := ⟨_, rfl⟩
  have hS1 : RS (xK X) g1 m Q th oc (b01 true) F1 := by rw [eg1, eF1]; exact hS.put 13 (by decide) _
  have hK1 : Kp v F F1 := Kp.of (fun j _ _ h13 => by rw [eF1, fu_n h13]) (fun q hq => by rw [eF1, fu_s, pk_un hq]) (fun q _ => by rw [eF1, fu_n (by decide)]) (fun q _ => by rw [eF1, fu_n (by decide)])
  have hN1 : NB F1 v [] := ⟨by rw [eF1, fu_s, pk_us]; rfl, fun k x hx => by cases hx⟩
  refine j_aload_n hX dX11_make_7 0 rfl ?_
  refine j_get (v := .ref (Q 2)) hX hS1.1 rfl wf_X11 3 (by decide) lk_X11_16 (fun _ h => h) rfl dX11_make_8 ?_
  refine j_iload_n hX dX11_make_11 1 rfl ?_
  refine j_ialdN hX (show g1 (Q 2) = some (aI (xK X) 8 (F1 2)) from hS1.2.1 2 (by decide)) (v) (rfl) (hv) (by decide) dX11_make_12 ?_
  refine j_eqi (y := nI lf) (by rw [hK1.1 2 (by decide)]; exact h2) ?_
  refine j_istore_n (lv' := [(2, .int (nI lf)), (0, .ref m), (1, .int (nI v))]) hX dX11_make_13 (by rw [hn]; decide) rfl ?_
  refine j_aload_n hX dX11_make_14 1 rfl ?_
  refine j_get (v := .ref (Q 0)) hX hS1.1 rfl wf_X11 1 (by decide) lk_X11_7 (fun _ h => h) rfl dX11_make_15 ?_
  refine j_iload_n hX dX11_make_18 2 rfl ?_
  refine j_ialdN hX (show g1 (Q 0) = some (aI (xK X) 8 (F1 0)) from hS1.2.1 0 (by decide)) (v) (rfl) (hv) (by decide) dX11_make_19 ?_
  refine j_eqi (y := nI kd) (by rw [hK1.1 0 (by decide)]; exact hk0) ?_
  refine j_iconst (v := nI 4) hX dX11_make_20 (by decide) ?_
  refine j_icmp_ne hX 32 dX11_make_21 (by decide) (fun c_21 => absurd c_21 (fun q => q (by rw [e4]))) (fun _ => ?_)
  refine j_aload_n hX dX11_make_24 1 rfl ?_
  refine j_iload_n hX dX11_make_25 2 rfl ?_
  refine j_callV (As := [.int (nI v)]) (rest := []) hX (hcall F1 g1 hS1 hK1 hN1) hS1.1 rfl lk_X11_78 wI_X11_makeJoin wV_X11_X11_makeJoin wN_X11 wC_X11_makeJoin hd_X11_makeJoin rfl (by rw [hL]; decide) (by decide) rfl (Nat.le_of_ble_eq_true rfl) dX11_make_26 (by rw [hR]; decide) (by rw [hR]; decide) jx_no ?_
  rintro _ g2 ⟨rfl, h9⟩
  show J X 0 0 g2 29 [(2, .int (nI lf)), (0, .ref m), (1, .int (nI v))] []
  refine j_goto hX 150 dX11_make_29 (by decide) ?_
  exact j_vret hX hE dX11_make_150 ((show MkP (xK X) m Q th oc F1 v w _ none g2 from ⟨rfl, h9⟩).tr hK1) (by decide) (by decide)

set_option maxRecDepth 20000 in
set_option maxHeartbeats 600000 in
theorem c_X11_make8 (l : Launch) (K : Cst) (g : Wd) (m : Nat) (Q : Nat → Nat) (th oc : Int32) (F : Nat → Nat → Int32) (hS : RS K g m Q th oc (b01 true) F) (v kd w lf : Nat) (L : Bg) (hv : v < 8) (hlf : lf < 8) (hne : lf ≠ v) (hk0 : F 0 v = nI kd) (h2 : F 2 v = nI lf) (hLb : NB F lf L) (gL : good L) (O : Option Bg) (e8 : kd = 8) (hcall : ∀ (G : Nat → Nat → Int32) (g9 : Wd), RS K g9 m Q th oc (b01 true) G → Kp v F G → NB G v [] → Ct l K yX11_makeGroups cX11_makeGroups 12 none 2 [.ref m, .int (nI v)] g9 (MkP K m Q th oc G v w O) (fun _ _ => False) 0 0) : Ct l K yX11_make cX11_make 4 none 3 [.ref m, .int (nI v)] g (MkP K m Q th oc F v w O) (fun _ _ => False) 0 0 := by
  refine ct_of (by decide) (Nat.le_of_ble_eq_true rfl) ?_
  intro X hl hK hX hE hn hL hR hm
  subst hl; subst hK
  show J X 0 0 g 0 [(0, .ref m), (1, .int (nI v))] []
  refine j_aload_n hX dX11_make_0 0 rfl ?_
  refine j_get (v := .ref (Q 13)) hX hS.1 rfl wf_X11 15 (by decide) lk_X11_50 (fun _ h => h) rfl dX11_make_1 ?_
  refine j_iload_n hX dX11_make_4 1 rfl ?_
  refine j_iconst (v := nI 0) hX dX11_make_5 (by decide) ?_
  refine j_iastN hX (show g (Q 13) = some (aI (xK X) 8 (F 13)) from hS.2.1 13 (by decide)) (v) (rfl) (hv) (by decide) dX11_make_6 ?_
  obtain ⟨g1, eg1⟩ : ∃ z : Wd, z = up g (Q 13) (aI (xK X) 8 (upd (F 13) (v) (nI 0))) := ⟨_, rfl⟩
  refine j_w eg1.symm ?_
  obtain ⟨F1, eF1⟩ : ∃ z, z = fu F 13 (upd (F 13) (v) (nI 0)) := ⟨_, rfl⟩
  have hS1 : RS (xK X) g1 m Q th oc (b01 true) F1 := by rw [eg1, eF1]; exact hS.put 13 (by decide) _
  have hK1 : Kp v F F1 := Kp.of (fun j _ _ h13 => by rw [eF1, fu_n h13]) (fun q hq => by rw [eF1, fu_s, pk_un hq]) (fun q _ => by rw [eF1, fu_n (by decide)]) (fun q _ => by rw [eF1, fu_n (by decide)])
  have hN1 : NB F1 v [] := ⟨by rw [eF1, fu_s, pk_us]; rfl, fun k x hx => by cases hx⟩
  refine j_aload_n hX dX11_make_7 0 rfl ?_
  refine j_get (v := .ref (Q 2)) hX hS1.1 rfl wf_X11 3 (by decide) lk_X11_16 (fun _ h => h) rfl dX11_make_8 ?_
  refine j_iload_n hX dX11_make_11 1 rfl ?_
  refine j_ialdN hX (show g1 (Q 2) = some (aI (xK X) 8 (F1 2)) from hS1.2.1 2 (by decide)) (v) (rfl) (hv) (by decide) dX11_make_12 ?_
  refine j_eqi (y := nI lf) (by rw [hK1.1 2 (by decide)]; exact h2) ?_
  refine j_istore_n (lv' := [(2, .int (nI lf)), (0, .ref m), (1, .int (nI v))]) hX dX11_make_13 (by rw [hn]; decide) rfl ?_
  refine j_aload_n hX dX11_make_14 1 rfl ?_
  refine j_get (v := .ref (Q 0)) hX hS1.1 rfl wf_X11 1 (by decide) lk_X11_7 (fun _ h => h) rfl dX11_make_15 ?_
  refine j_iload_n hX dX11_make_18 2 rfl ?_
  refine j_ialdN hX (show g1 (Q 0) = some (aI (xK X) 8 (F1 0)) from hS1.2.1 0 (by decide)) (v) (rfl) (hv) (by decide) dX11_make_19 ?_
  refine j_eqi (y := nI kd) (by rw [hK1.1 0 (by decide)]; exact hk0) ?_
  refine j_iconst (v := nI 4) hX dX11_make_20 (by decide) ?_
  refine j_icmp_ne hX 32 dX11_make_21 (by decide) (fun _ => ?_) (fun c_21 => absurd c_21 (by rw [e8]; decide))
  refine j_aload_n hX dX11_make_32 1 rfl ?_
  refine j_get (v := .ref (Q 0)) hX hS1.1 rfl wf_X11 1 (by decide) lk_X11_7 (fun _ h => h) rfl dX11_make_33 ?_
  refine j_iload_n hX dX11_make_36 2 rfl ?_
  refine j_ialdN hX (show g1 (Q 0) = some (aI (xK X) 8 (F1 0)) from hS1.2.1 0 (by decide)) (v) (rfl) (hv) (by decide) dX11_make_37 ?_
  refine j_eqi (y := nI kd) (by rw [hK1.1 0 (by decide)]; exact hk0) ?_
  refine j_bipush (v := nI 8) hX dX11_make_38 (by decide) ?_
  refine j_icmp_ne hX 51 dX11_make_40 (by decide) (fun c_40 => absurd c_40 (fun q => q (by rw [e8]))) (fun _ => ?_)
  refine j_aload_n hX dX11_make_43 1 rfl ?_
  refine j_iload_n hX dX11_make_44 2 rfl ?_
  refine j_callV (As := [.int (nI v)]) (rest := []) hX (hcall F1 g1 hS1 hK1 hN1) hS1.1 rfl lk_X11_82 wI_X11_makeGroups wV_X11_X11_makeGroups wN_X11 wC_X11_makeGroups hd_X11_makeGroups rfl (by rw [hL]; decide) (by decide) rfl (Nat.le_of_ble_eq_true rfl) dX11_make_45 (by rw [hR]; decide) (by rw [hR]; decide) jx_no ?_
  rintro _ g2 ⟨rfl, h9⟩
  show J X 0 0 g2 48 [(2, .int (nI lf)), (0, .ref m), (1, .int (nI v))] []
  refine j_goto hX 150 dX11_make_48 (by decide) ?_
  exact j_vret hX hE dX11_make_150 ((show MkP (xK X) m Q th oc F1 v w _ none g2 from ⟨rfl, h9⟩).tr hK1) (by decide) (by decide)

set_option maxRecDepth 20000 in
set_option maxHeartbeats 600000 in
theorem c_X11_makeR (l : Launch) (K : Cst) (g : Wd) (m : Nat) (Q : Nat → Nat) (th oc : Int32) (F : Nat → Nat → Int32) (hS : RS K g m Q th oc (b01 true) F) (v kd w lf : Nat) (L : Bg) (hv : v < 8) (hlf : lf < 8) (hne : lf ≠ v) (hk0 : F 0 v = nI kd) (h2 : F 2 v = nI lf) (hLb : NB F lf L) (gL : good L) (f : Row × Nat → Option (Row × Int)) (h4 : ¬ nI kd = nI 4) (h5 : ¬ nI kd = nI 5) (h8 : ¬ nI kd = nI 8) (hrow : ∀ (G : Nat → Nat → Int32) (g9 : Wd) (B : Bg) (k : Nat) (hk : k < L.length), RS K g9 m Q th oc (b01 true) G → Kp v F G → NB G v B → wk w B → Ct l K yX11_makeRow cX11_makeRow 8 none 2 [.ref m, .int (nI v), .int (nI lf), .int (nI k)] g9 (MkP K m Q th oc G v w (stepB (f L[k]) B)) (fun _ _ => False) 0 0) : Ct l K yX11_make cX11_make 4 none 3 [.ref m, .int (nI v)] g (MkP K m Q th oc F v w (fldB f L [])) (fun _ _ => False) 0 0 := by
  refine ct_of (by decide) (Nat.le_of_ble_eq_true rfl) ?_
  intro X hl hK hX hE hn hL hR hm
  subst hl; subst hK
  show J X 0 0 g 0 [(0, .ref m), (1, .int (nI v))] []
  have hl20 := gL.2.1
  have live : ∀ (n k : Nat) (G : Nat → Nat → Int32) (g9 : Wd) (B : Bg), k + n = L.length → RS (xK X) g9 m Q th oc (b01 true) G → Kp v F G → NB G v B → wk w B → fldB f L [] = fldB f (L.drop k) B → J X 0 0 g9 53 [(3, .int (nI k)), (2, .int (nI lf)), (0, .ref m), (1, .int (nI v))] [] := by
    intro n
    induction n with
    | zero =>
      intro k G g9 B hk9 hG hK hN kB hf
      refine j_aload_n hX dX11_make_53 2 rfl ?_
      refine j_get (v := .int (b01 true)) hX hG.1 rfl wf_X11 16 (by decide) lk_X11_68 (fun _ h => h) rfl dX11_make_54 ?_
      refine j_if_eq hX 83 dX11_make_57 (by decide) (fun c_57 => absurd c_57 (by decide)) (fun _ => ?_)
      refine j_iload_n hX dX11_make_60 0 rfl ?_
      refine j_aload_n hX dX11_make_61 2 rfl ?_
      refine j_get (v := .ref (Q 13)) hX hG.1 rfl wf_X11 15 (by decide) lk_X11_50 (fun _ h => h) rfl dX11_make_62 ?_
      refine j_iload_n hX dX11_make_65 1 rfl ?_
      refine j_ialdN hX (show g9 (Q 13) = some (aI (xK X) 8 (G 13)) from hG.2.1 13 (by decide)) (lf) (rfl) (hlf) (by decide) dX11_make_66 ?_
      refine j_eqi (y := nI L.length) (by rw [hK.2.1 lf hne]; exact hLb.1) ?_
      refine j_icmp_ge hX 83 dX11_make_67 (by decide) (fun _ => ?_) (fun c_67 => absurd (nI_le (a := L.length) (b := k) (by omega) (by omega)) c_67)
      refine j_iconst (v := nI 0) hX dX11_make_83 (by decide) ?_
      refine j_istore_n (lv' := [(3, .int (nI 0)), (2, .int (nI lf)), (0, .ref m), (1, .int (nI v))]) hX dX11_make_84 (by rw [hn]; decide) rfl ?_
      refine j_aload_n hX dX11_make_85 2 rfl ?_
      refine j_get (v := .int (b01 true)) hX hG.1 rfl wf_X11 16 (by decide) lk_X11_68 (fun _ h => h) rfl dX11_make_86 ?_
      refine j_if_eq hX 150 dX11_make_89 (by decide) (fun c_89 => absurd c_89 (by decide)) (fun _ => ?_)
      refine j_aload_n hX dX11_make_92 2 rfl ?_
      refine j_get (v := .ref (Q 0)) hX hG.1 rfl wf_X11 1 (by decide) lk_X11_7 (fun _ h => h) rfl dX11_make_93 ?_
      refine j_iload_n hX dX11_make_96 3 rfl ?_
      refine j_ialdN hX (show g9 (Q 0) = some (aI (xK X) 8 (G 0)) from hG.2.1 0 (by decide)) (v) (rfl) (hv) (by decide) dX11_make_97 ?_
      refine j_eqi (y := nI kd) (by rw [hK.1 0 (by decide)]; exact hk0) ?_
      refine j_iconst (v := nI 5) hX dX11_make_98 (by decide) ?_
      refine j_icmp_ne hX 150 dX11_make_99 (by decide) (fun _ => ?_) (fun c_99 => absurd c_99 h5)
      exact j_vret hX hE dX11_make_150 (⟨rfl, G, true, hG, hK, fun _ => ⟨B, by rw [hf, fld_end (by omega)], hN, kB⟩, fun e => absurd e (by decide)⟩) (by decide) (by decide)
    | succ n ih =>
      intro k G g9 B hk9 hG hK hN kB hf
      have hk : k < L.length := by omega
      refine j_aload_n hX dX11_make_53 2 rfl ?_
      refine j_get (v := .int (b01 true)) hX hG.1 rfl wf_X11 16 (by decide) lk_X11_68 (fun _ h => h) rfl dX11_make_54 ?_
      refine j_if_eq hX 83 dX11_make_57 (by decide) (fun c_57 => absurd c_57 (by decide)) (fun _ => ?_)
      refine j_iload_n hX dX11_make_60 0 rfl ?_
      refine j_aload_n hX dX11_make_61 2 rfl ?_
      refine j_get (v := .ref (Q 13)) hX hG.1 rfl wf_X11 15 (by decide) lk_X11_50 (fun _ h => h) rfl dX11_make_62 ?_
      refine j_iload_n hX dX11_make_65 1 rfl ?_
      refine j_ialdN hX (show g9 (Q 13) = some (aI (xK X) 8 (G 13)) from hG.2.1 13 (by decide)) (lf) (rfl) (hlf) (by decide) dX11_make_66 ?_
      refine j_eqi (y := nI L.length) (by rw [hK.2.1 lf hne]; exact hLb.1) ?_
      refine j_icmp_ge hX 83 dX11_make_67 (by decide) (fun c_67 => absurd c_67 (nI_ge (a := k) (b := L.length) (by omega) (by omega))) (fun _ => ?_)
      refine j_aload_n hX dX11_make_70 2 rfl ?_
      refine j_iload_n hX dX11_make_71 3 rfl ?_
      refine j_iload_n hX dX11_make_72 1 rfl ?_
      refine j_iload_n hX dX11_make_73 0 rfl ?_
      refine j_callV (As := [.int (nI v), .int (nI lf), .int (nI k)]) (rest := []) hX (hrow G g9 B k hk hG hK hN kB) hG.1 rfl lk_X11_85 wI_X11_makeRow wV_X11_X11_makeRow wN_X11 wC_X11_makeRow hd_X11_makeRow rfl (by rw [hL]; decide) (by decide) rfl (Nat.le_of_ble_eq_true rfl) dX11_make_74 (by rw [hR]; decide) (by rw [hR]; decide) jx_no ?_
      rintro _ g2 ⟨rfl, G2, fb2, hS2, hK2, ht2, hf2⟩
      cases fb2
      · have hdead := hf.trans (fld_sn hk (hf2 rfl))
        have hKK := hK.tr hK2
        show J X 0 0 g2 77 [(3, .int (nI k)), (2, .int (nI lf)), (0, .ref m), (1, .int (nI v))] []
        refine j_iinc (v := nI (k + 1)) (lv' := [(3, .int (nI (k + 1))), (2, .int (nI lf)), (0, .ref m), (1, .int (nI v))]) hX dX11_make_77 0 rfl (nI_1 k) (by rw [hn]; decide) rfl ?_
        refine j_goto hX 53 dX11_make_80 (by decide) ?_
        refine j_aload_n hX dX11_make_53 2 rfl ?_
        refine j_get (v := .int (b01 false)) hX hS2.1 rfl wf_X11 16 (by decide) lk_X11_68 (fun _ h => h) rfl dX11_make_54 ?_
        refine j_if_eq hX 83 dX11_make_57 (by decide) (fun _ => ?_) (fun c_57 => absurd (by rfl) c_57)
        refine j_iconst (v := nI 0) hX dX11_make_83 (by decide) ?_
        refine j_istore_n (lv' := [(3, .int (nI 0)), (2, .int (nI lf)), (0, .ref m), (1, .int (nI v))]) hX dX11_make_84 (by rw [hn]; decide) rfl ?_
        refine j_aload_n hX dX11_make_85 2 rfl ?_
        refine j_get (v := .int (b01 false)) hX hS2.1 rfl wf_X11 16 (by decide) lk_X11_68 (fun _ h => h) rfl dX11_make_86 ?_
        refine j_if_eq hX 150 dX11_make_89 (by decide) (fun _ => ?_) (fun c_89 => absurd (by rfl) c_89)
        exact j_vret hX hE dX11_make_150 (⟨rfl, G2, false, hS2, hKK, fun e => absurd e (by decide), fun _ => hdead⟩) (by decide) (by decide)
      · obtain ⟨B2, hb2, hN2, kB2⟩ := ht2 rfl
        have hKK := hK.tr hK2
        show J X 0 0 g2 77 [(3, .int (nI k)), (2, .int (nI lf)), (0, .ref m), (1, .int (nI v))] []
        refine j_iinc (v := nI (k + 1)) (lv' := [(3, .int (nI (k + 1))), (2, .int (nI lf)), (0, .ref m), (1, .int (nI v))]) hX dX11_make_77 0 rfl (nI_1 k) (by rw [hn]; decide) rfl ?_
        refine j_goto hX 53 dX11_make_80 (by decide) ?_
        refine j_sub [0, 1, 2, 3] rfl ?_
        exact ih (k + 1) G2 g2 B2 (by omega) hS2 hKK hN2 kB2 (hf.trans (fld_sy hk hb2))
  refine j_aload_n hX dX11_make_0 0 rfl ?_
  refine j_get (v := .ref (Q 13)) hX hS.1 rfl wf_X11 15 (by decide) lk_X11_50 (fun _ h => h) rfl dX11_make_1 ?_
  refine j_iload_n hX dX11_make_4 1 rfl ?_
  refine j_iconst (v := nI 0) hX dX11_make_5 (by decide) ?_
  refine j_iastN hX (show g (Q 13) = some (aI (xK X) 8 (F 13)) from hS.2.1 13 (by decide)) (v) (rfl) (hv) (by decide) dX11_make_6 ?_
  obtain ⟨g1, eg1⟩ : ∃ z : Wd, z = up g (Q 13) (aI (xK X) 8 (upd (F 13) (v) (nI 0))) := ⟨_, rfl⟩
  refine j_w eg1.symm ?_
  obtain ⟨F1, eF1⟩ : ∃ z, z = fu F 13 (upd (F 13) (v) (nI 0)) := ⟨_, rfl⟩
  have hS1 : RS (xK X) g1 m Q th oc (b01 true) F1 := by rw [eg1, eF1]; exact hS.put 13 (by decide) _
  have hK1 : Kp v F F1 := Kp.of (fun j _ _ h13 => by rw [eF1, fu_n h13]) (fun q hq => by rw [eF1, fu_s, pk_un hq]) (fun q _ => by rw [eF1, fu_n (by decide)]) (fun q _ => by rw [eF1, fu_n (by decide)])
  have hN1 : NB F1 v [] := ⟨by rw [eF1, fu_s, pk_us]; rfl, fun k x hx => by cases hx⟩
  refine j_aload_n hX dX11_make_7 0 rfl ?_
  refine j_get (v := .ref (Q 2)) hX hS1.1 rfl wf_X11 3 (by decide) lk_X11_16 (fun _ h => h) rfl dX11_make_8 ?_
  refine j_iload_n hX dX11_make_11 1 rfl ?_
  refine j_ialdN hX (show g1 (Q 2) = some (aI (xK X) 8 (F1 2)) from hS1.2.1 2 (by decide)) (v) (rfl) (hv) (by decide) dX11_make_12 ?_
  refine j_eqi (y := nI lf) (by rw [hK1.1 2 (by decide)]; exact h2) ?_
  refine j_istore_n (lv' := [(2, .int (nI lf)), (0, .ref m), (1, .int (nI v))]) hX dX11_make_13 (by rw [hn]; decide) rfl ?_
  refine j_aload_n hX dX11_make_14 1 rfl ?_
  refine j_get (v := .ref (Q 0)) hX hS1.1 rfl wf_X11 1 (by decide) lk_X11_7 (fun _ h => h) rfl dX11_make_15 ?_
  refine j_iload_n hX dX11_make_18 2 rfl ?_
  refine j_ialdN hX (show g1 (Q 0) = some (aI (xK X) 8 (F1 0)) from hS1.2.1 0 (by decide)) (v) (rfl) (hv) (by decide) dX11_make_19 ?_
  refine j_eqi (y := nI kd) (by rw [hK1.1 0 (by decide)]; exact hk0) ?_
  refine j_iconst (v := nI 4) hX dX11_make_20 (by decide) ?_
  refine j_icmp_ne hX 32 dX11_make_21 (by decide) (fun _ => ?_) (fun c_21 => absurd c_21 h4)
  refine j_aload_n hX dX11_make_32 1 rfl ?_
  refine j_get (v := .ref (Q 0)) hX hS1.1 rfl wf_X11 1 (by decide) lk_X11_7 (fun _ h => h) rfl dX11_make_33 ?_
  refine j_iload_n hX dX11_make_36 2 rfl ?_
  refine j_ialdN hX (show g1 (Q 0) = some (aI (xK X) 8 (F1 0)) from hS1.2.1 0 (by decide)) (v) (rfl) (hv) (by decide) dX11_make_37 ?_
  refine j_eqi (y := nI kd) (by rw [hK1.1 0 (by decide)]; exact hk0) ?_
  refine j_bipush (v := nI 8) hX dX11_make_38 (by decide) ?_
  refine j_icmp_ne hX 51 dX11_make_40 (by decide) (fun _ => ?_) (fun c_40 => absurd c_40 h8)
  refine j_iconst (v := nI 0) hX dX11_make_51 (by decide) ?_
  refine j_istore_n (lv' := [(3, .int (nI 0)), (2, .int (nI lf)), (0, .ref m), (1, .int (nI v))]) hX dX11_make_52 (by rw [hn]; decide) rfl ?_
  refine j_sub (lv' := [(3, .int (nI 0)), (2, .int (nI lf)), (0, .ref m), (1, .int (nI v))]) [0, 1, 2, 3] rfl ?_
  exact live L.length 0 F1 g1 [] (by omega) hS1 hK1 hN1 (good_nil.wk (zw_nil w)) rfl

set_option maxRecDepth 20000 in
set_option maxHeartbeats 600000 in
theorem c_X11_makeU (l : Launch) (K : Cst) (g : Wd) (m : Nat) (Q : Nat → Nat) (th oc : Int32) (F : Nat → Nat → Int32) (hS : RS K g m Q th oc (b01 true) F) (v kd w lf : Nat) (L : Bg) (hv : v < 8) (hlf : lf < 8) (hne : lf ≠ v) (hk0 : F 0 v = nI kd) (h2 : F 2 v = nI lf) (hLb : NB F lf L) (gL : good L) (rt : Nat) (R : Bg) (e5 : kd = 5) (hw : F 1 v = nI w) (hw1 : 1 ≤ w) (hw4 : w ≤ 4) (hrt : rt < 8) (hne2 : rt ≠ v) (h3 : F 3 v = nI rt) (hRb : NB F rt R) (gR : good R) (zR : zw w R) (hrow : ∀ (G : Nat → Nat → Int32) (g9 : Wd) (B : Bg) (k : Nat) (hk : k < L.length), RS K g9 m Q th oc (b01 true) G → Kp v F G → NB G v B → wk w B → Ct l K yX11_makeRow cX11_makeRow 8 none 2 [.ref m, .int (nI v), .int (nI lf), .int (nI k)] g9 (MkP K m Q th oc G v w (stepB (some ((L[k]).1, ((L[k]).2 : Int))) B)) (fun _ _ => False) 0 0) : Ct l K yX11_make cX11_make 4 none 3 [.ref m, .int (nI v)] g (MkP K m Q th oc F v w (fldB (fun x : Row × Nat => some (x.1, (x.2 : Int))) R L)) (fun _ _ => False) 0 0 := by
  refine ct_of (by decide) (Nat.le_of_ble_eq_true rfl) ?_
  intro X hl hK hX hE hn hL hR hm
  subst hl; subst hK
  show J X 0 0 g 0 [(0, .ref m), (1, .int (nI v))] []
  have hl20 := gL.2.1
  have hr20 := gR.2.1
  have second : ∀ (G : Nat → Nat → Int32) (g9 : Wd) (B : Bg), RS (xK X) g9 m Q th oc (b01 true) G → Kp v F G → NB G v B → wk w B → some L = some B → J X 0 0 g9 85 [(3, .int (nI 0)), (2, .int (nI lf)), (0, .ref m), (1, .int (nI v))] [] := by
    intro G g9 B hG hKG hNG kBG hBL
    have loop : ∀ (n k : Nat) (C : Nat → Nat → Int32) (gc : Wd) (D : Bg), k + n = R.length → RS (xK X) gc m Q th oc (b01 true) C → Kp v F C → NB C v D → wk w D → fldB (fun x : Row × Nat => some (x.1, (x.2 : Int))) R L = fldB (fun x : Row × Nat => some (x.1, (x.2 : Int))) (R.drop k) D → J X 0 0 gc 85 [(3, .int (nI k)), (2, .int (nI lf)), (0, .ref m), (1, .int (nI v))] [] := by
      intro n
      induction n with
      | zero =>
        intro k C gc D hk9 hC hKC hN kB hf
        refine j_aload_n hX dX11_make_85 2 rfl ?_
        refine j_get (v := .int (b01 true)) hX hC.1 rfl wf_X11 16 (by decide) lk_X11_68 (fun _ h => h) rfl dX11_make_86 ?_
        refine j_if_eq hX 150 dX11_make_89 (by decide) (fun c_89 => absurd c_89 (by decide)) (fun _ => ?_)
        refine j_aload_n hX dX11_make_92 2 rfl ?_
        refine j_get (v := .ref (Q 0)) hX hC.1 rfl wf_X11 1 (by decide) lk_X11_7 (fun _ h => h) rfl dX11_make_93 ?_
        refine j_iload_n hX dX11_make_96 3 rfl ?_
        refine j_ialdN hX (show gc (Q 0) = some (aI (xK X) 8 (C 0)) from hC.2.1 0 (by decide)) (v) (rfl) (hv) (by decide) dX11_make_97 ?_
        refine j_eqi (y := nI kd) (by rw [hKC.1 0 (by decide)]; exact hk0) ?_
        refine j_iconst (v := nI 5) hX dX11_make_98 (by decide) ?_
        refine j_icmp_ne hX 150 dX11_make_99 (by decide) (fun c_99 => absurd c_99 (fun q => q (by rw [e5]))) (fun _ => ?_)
        refine j_iload_n hX dX11_make_102 0 rfl ?_
        refine j_aload_n hX dX11_make_103 2 rfl ?_
        refine j_get (v := .ref (Q 13)) hX hC.1 rfl wf_X11 15 (by decide) lk_X11_50 (fun _ h => h) rfl dX11_make_104 ?_
        refine j_aload_n hX dX11_make_107 2 rfl ?_
        refine j_get (v := .ref (Q 3)) hX hC.1 rfl wf_X11 4 (by decide) lk_X11_19 (fun _ h => h) rfl dX11_make_108 ?_
        refine j_iload_n hX dX11_make_111 3 rfl ?_
        refine j_ialdN hX (show gc (Q 3) = some (aI (xK X) 8 (C 3)) from hC.2.1 3 (by decide)) (v) (rfl) (hv) (by decide) dX11_make_112 ?_
        refine j_eqi (y := nI rt) (by rw [hKC.1 3 (by decide)]; exact h3) ?_
        refine j_ialdN hX (show gc (Q 13) = some (aI (xK X) 8 (C 13)) from hC.2.1 13 (by decide)) (rt) (rfl) (hrt) (by decide) dX11_make_113 ?_
        refine j_eqi (y := nI R.length) (by rw [hKC.2.1 rt hne2]; exact hRb.1) ?_
        refine j_icmp_ge hX 150 dX11_make_114 (by decide) (fun _ => ?_) (fun c_114 => absurd (nI_le (a := R.length) (b := k) (by omega) (by omega)) c_114)
        exact j_vret hX hE dX11_make_150 (⟨rfl, C, true, hC, hKC, fun _ => ⟨D, by rw [hf, fld_end (by omega)], hN, kB⟩, fun e => absurd e (by decide)⟩) (by decide) (by decide)
      | succ n ih =>
        intro k C gc D hk9 hC hKC hN kB hf
        have hk : k < R.length := by omega
        refine j_aload_n hX dX11_make_85 2 rfl ?_
        refine j_get (v := .int (b01 true)) hX hC.1 rfl wf_X11 16 (by decide) lk_X11_68 (fun _ h => h) rfl dX11_make_86 ?_
        refine j_if_eq hX 150 dX11_make_89 (by decide) (fun c_89 => absurd c_89 (by decide)) (fun _ => ?_)
        refine j_aload_n hX dX11_make_92 2 rfl ?_
        refine j_get (v := .ref (Q 0)) hX hC.1 rfl wf_X11 1 (by decide) lk_X11_7 (fun _ h => h) rfl dX11_make_93 ?_
        refine j_iload_n hX dX11_make_96 3 rfl ?_
        refine j_ialdN hX (show gc (Q 0) = some (aI (xK X) 8 (C 0)) from hC.2.1 0 (by decide)) (v) (rfl) (hv) (by decide) dX11_make_97 ?_
        refine j_eqi (y := nI kd) (by rw [hKC.1 0 (by decide)]; exact hk0) ?_
        refine j_iconst (v := nI 5) hX dX11_make_98 (by decide) ?_
        refine j_icmp_ne hX 150 dX11_make_99 (by decide) (fun c_99 => absurd c_99 (fun q => q (by rw [e5]))) (fun _ => ?_)
        refine j_iload_n hX dX11_make_102 0 rfl ?_
        refine j_aload_n hX dX11_make_103 2 rfl ?_
        refine j_get (v := .ref (Q 13)) hX hC.1 rfl wf_X11 15 (by decide) lk_X11_50 (fun _ h => h) rfl dX11_make_104 ?_
        refine j_aload_n hX dX11_make_107 2 rfl ?_
        refine j_get (v := .ref (Q 3)) hX hC.1 rfl wf_X11 4 (by decide) lk_X11_19 (fun _ h => h) rfl dX11_make_108 ?_
        refine j_iload_n hX dX11_make_111 3 rfl ?_
        refine j_ialdN hX (show gc (Q 3) = some (aI (xK X) 8 (C 3)) from hC.2.1 3 (by decide)) (v) (rfl) (hv) (by decide) dX11_make_112 ?_
        refine j_eqi (y := nI rt) (by rw [hKC.1 3 (by decide)]; exact h3) ?_
        refine j_ialdN hX (show gc (Q 13) = some (aI (xK X) 8 (C 13)) from hC.2.1 13 (by decide)) (rt) (rfl) (hrt) (by decide) dX11_make_113 ?_
        refine j_eqi (y := nI R.length) (by rw [hKC.2.1 rt hne2]; exact hRb.1) ?_
        refine j_icmp_ge hX 150 dX11_make_114 (by decide) (fun c_114 => absurd c_114 (nI_ge (a := k) (b := R.length) (by omega) (by omega))) (fun _ => ?_)
        refine j_aload_n hX dX11_make_117 2 rfl ?_
        refine j_aload_n hX dX11_make_118 2 rfl ?_
        refine j_get (v := .ref (Q 3)) hX hC.1 rfl wf_X11 4 (by decide) lk_X11_19 (fun _ h => h) rfl dX11_make_119 ?_
        refine j_iload_n hX dX11_make_122 3 rfl ?_
        refine j_ialdN hX (show gc (Q 3) = some (aI (xK X) 8 (C 3)) from hC.2.1 3 (by decide)) (v) (rfl) (hv) (by decide) dX11_make_123 ?_
        refine j_eqi (y := nI rt) (by rw [hKC.1 3 (by decide)]; exact h3) ?_
        refine j_iload_n hX dX11_make_124 0 rfl ?_
        refine j_callV (As := [.int (nI rt), .int (nI k)]) (rest := []) hX (c_X11_take (xl X) (xK X) gc m Q th oc (b01 true) C hC rt k hrt (by omega)) hC.1 rfl lk_X11_89 wI_X11_take wV_X11_X11_take wN_X11 wC_X11_take hd_X11_take rfl (by rw [hL]; decide) (by decide) rfl (Nat.le_of_ble_eq_true rfl) dX11_make_125 (by rw [hR]; decide) (by rw [hR]; decide) jx_no ?_
        rintro _ g1 ⟨rfl, F1, hS1, hK, h14⟩
        have hy0 := Bg_lt gR hk
        rw [((hKC.nb hne2 hRb hr20).2 k _ (List.getElem?_eq_getElem hk)).1] at h14
        show J X 0 0 g1 128 [(3, .int (nI k)), (2, .int (nI lf)), (0, .ref m), (1, .int (nI v))] []
        refine j_aload_n hX dX11_make_128 2 rfl ?_
        refine j_iload_n hX dX11_make_129 3 rfl ?_
        refine j_aload_n hX dX11_make_130 2 rfl ?_
        refine j_aload_n hX dX11_make_131 2 rfl ?_
        refine j_get (v := .ref (Q 3)) hX hS1.1 rfl wf_X11 4 (by decide) lk_X11_19 (fun _ h => h) rfl dX11_make_132 ?_
        refine j_iload_n hX dX11_make_135 3 rfl ?_
        refine j_ialdN hX (show g1 (Q 3) = some (aI (xK X) 8 (F1 3)) from hS1.2.1 3 (by decide)) (v) (rfl) (hv) (by decide) dX11_make_136 ?_
        refine j_eqi (y := nI rt) (by rw [hK 3 (by decide), hKC.1 3 (by decide)]; exact h3) ?_
        refine j_iload_n hX dX11_make_137 0 rfl ?_
        refine j_callV (As := [.int (nI rt), .int (nI k)]) (rest := [.int (nI v), .ref m]) hX (c_X11_timesOf (xl X) (xK X) g1 m Q th oc (b01 true) F1 hS1 rt k hrt (by omega)) hS1.1 rfl lk_X11_93 wI_X11_timesOf wV_X11_X11_timesOf wN_X11 wC_X11_timesOf hd_X11_timesOf rfl (by rw [hL]; decide) (by decide) rfl (Nat.le_of_ble_eq_true rfl) dX11_make_138 (by rw [hR]; decide) (by rw [hR]; decide) jx_no ?_
        rintro _ _ ⟨rfl, rfl⟩
        show J X 0 0 g1 141 [(3, .int (nI k)), (2, .int (nI lf)), (0, .ref m), (1, .int (nI v))] [.long ((F1 12 (20 * rt + k)).toInt64), .int (nI v), .ref m]
        refine j_eql (y := (nI (R[k]).2).toInt64) (by rw [hK 12 (by decide), repA_time (hKC.nb hne2 hRb hr20).2 hk]) ?_
        refine j_callV (As := [.int (nI v), .long ((nI (R[k]).2).toInt64)]) (rest := []) hX (c_X11_add (xl X) (xK X) g1 m Q th oc true F1 hS1 v w D hv (by rw [hK 1 (by decide), hKC.1 1 (by decide)]; exact hw) hw1 hw4 (NB.row hK hN) kB (R[k]).1 (by rw [h14, trunc_id hw1 (zR _ (List.getElem_mem hk))]) (nI (R[k]).2).toInt64 (by rw [l_nI (by omega)]; omega) (by rw [l_nI (by omega)]; omega)) hS1.1 rfl lk_X11_97 wI_X11_add wV_X11_X11_add wN_X11 wC_X11_add hd_X11_add rfl (by rw [hL]; decide) (by decide) rfl (Nat.le_of_ble_eq_true rfl) dX11_make_141 (by rw [hR]; decide) (by rw [hR]; decide) jx_no ?_
        rintro _ g2 ⟨rfl, G2, fb2, B2, hS2, hK2, hN2, kB2, ht2, hf2⟩
        rw [l_nI (by omega)] at ht2 hf2
        have hKK := (hKC.tr (Kp.row hK v)).tr hK2
        cases fb2
        · have hdead := hf.trans (fld_no (f := (fun x : Row × Nat => some (x.1, (x.2 : Int)))) hk rfl (hf2 rfl rfl))
          show J X 0 0 g2 144 [(3, .int (nI k)), (2, .int (nI lf)), (0, .ref m), (1, .int (nI v))] []
          refine j_iinc (v := nI (k + 1)) (lv' := [(3, .int (nI (k + 1))), (2, .int (nI lf)), (0, .ref m), (1, .int (nI v))]) hX dX11_make_144 0 rfl (nI_1 k) (by rw [hn]; decide) rfl ?_
          refine j_goto hX 85 dX11_make_147 (by decide) ?_
          refine j_aload_n hX dX11_make_85 2 rfl ?_
          refine j_get (v := .int (b01 false)) hX hS2.1 rfl wf_X11 16 (by decide) lk_X11_68 (fun _ h => h) rfl dX11_make_86 ?_
          refine j_if_eq hX 150 dX11_make_89 (by decide) (fun _ => ?_) (fun c_89 => absurd (by rfl) c_89)
          exact j_vret hX hE dX11_make_150 (⟨rfl, G2, false, hS2, hKK, fun e => absurd e (by decide), fun _ => hdead⟩) (by decide) (by decide)
        · have hgo := hf.trans (fld_yes (f := (fun x : Row × Nat => some (x.1, (x.2 : Int)))) hk rfl (ht2 rfl).2)
          show J X 0 0 g2 144 [(3, .int (nI k)), (2, .int (nI lf)), (0, .ref m), (1, .int (nI v))] []
          refine j_iinc (v := nI (k + 1)) (lv' := [(3, .int (nI (k + 1))), (2, .int (nI lf)), (0, .ref m), (1, .int (nI v))]) hX dX11_make_144 0 rfl (nI_1 k) (by rw [hn]; decide) rfl ?_
          refine j_goto hX 85 dX11_make_147 (by decide) ?_
          refine j_sub [0, 1, 2, 3] rfl ?_
          exact ih (k + 1) G2 g2 B2 (by omega) hS2 hKK hN2 kB2 hgo
    cases hBL
    exact loop R.length 0 G g9 L (by omega) hG hKG hNG kBG rfl
  have live : ∀ (n k : Nat) (G : Nat → Nat → Int32) (g9 : Wd) (B : Bg), k + n = L.length → RS (xK X) g9 m Q th oc (b01 true) G → Kp v F G → NB G v B → wk w B → fldB (fun x : Row × Nat => some (x.1, (x.2 : Int))) L [] = fldB (fun x : Row × Nat => some (x.1, (x.2 : Int))) (L.drop k) B → J X 0 0 g9 53 [(3, .int (nI k)), (2, .int (nI lf)), (0, .ref m), (1, .int (nI v))] [] := by
    intro n
    induction n with
    | zero =>
      intro k G g9 B hk9 hG hK hN kB hf
      refine j_aload_n hX dX11_make_53 2 rfl ?_
      refine j_get (v := .int (b01 true)) hX hG.1 rfl wf_X11 16 (by decide) lk_X11_68 (fun _ h => h) rfl dX11_make_54 ?_
      refine j_if_eq hX 83 dX11_make_57 (by decide) (fun c_57 => absurd c_57 (by decide)) (fun _ => ?_)
      refine j_iload_n hX dX11_make_60 0 rfl ?_
      refine j_aload_n hX dX11_make_61 2 rfl ?_
      refine j_get (v := .ref (Q 13)) hX hG.1 rfl wf_X11 15 (by decide) lk_X11_50 (fun _ h => h) rfl dX11_make_62 ?_
      refine j_iload_n hX dX11_make_65 1 rfl ?_
      refine j_ialdN hX (show g9 (Q 13) = some (aI (xK X) 8 (G 13)) from hG.2.1 13 (by decide)) (lf) (rfl) (hlf) (by decide) dX11_make_66 ?_
      refine j_eqi (y := nI L.length) (by rw [hK.2.1 lf hne]; exact hLb.1) ?_
      refine j_icmp_ge hX 83 dX11_make_67 (by decide) (fun _ => ?_) (fun c_67 => absurd (nI_le (a := L.length) (b := k) (by omega) (by omega)) c_67)
      refine j_iconst (v := nI 0) hX dX11_make_83 (by decide) ?_
      refine j_istore_n (lv' := [(3, .int (nI 0)), (2, .int (nI lf)), (0, .ref m), (1, .int (nI v))]) hX dX11_make_84 (by rw [hn]; decide) rfl ?_
      refine j_sub (lv' := [(3, .int (nI 0)), (2, .int (nI lf)), (0, .ref m), (1, .int (nI v))]) [0, 1, 2, 3] rfl ?_
      exact second G g9 B hG hK hN kB (by rw [← fld_end (f := fun x : Row × Nat => some (x.1, (x.2 : Int))) (L := L) (B := B) (k := k) (by omega), ← hf]; exact (fld_self gL L.length 0 (by omega)).symm)
    | succ n ih =>
      intro k G g9 B hk9 hG hK hN kB hf
      have hk : k < L.length := by omega
      refine j_aload_n hX dX11_make_53 2 rfl ?_
      refine j_get (v := .int (b01 true)) hX hG.1 rfl wf_X11 16 (by decide) lk_X11_68 (fun _ h => h) rfl dX11_make_54 ?_
      refine j_if_eq hX 83 dX11_make_57 (by decide) (fun c_57 => absurd c_57 (by decide)) (fun _ => ?_)
      refine j_iload_n hX dX11_make_60 0 rfl ?_
      refine j_aload_n hX dX11_make_61 2 rfl ?_
      refine j_get (v := .ref (Q 13)) hX hG.1 rfl wf_X11 15 (by decide) lk_X11_50 (fun _ h => h) rfl dX11_make_62 ?_
      refine j_iload_n hX dX11_make_65 1 rfl ?_
      refine j_ialdN hX (show g9 (Q 13) = some (aI (xK X) 8 (G 13)) from hG.2.1 13 (by decide)) (lf) (rfl) (hlf) (by decide) dX11_make_66 ?_
      refine j_eqi (y := nI L.length) (by rw [hK.2.1 lf hne]; exact hLb.1) ?_
      refine j_icmp_ge hX 83 dX11_make_67 (by decide) (fun c_67 => absurd c_67 (nI_ge (a := k) (b := L.length) (by omega) (by omega))) (fun _ => ?_)
      refine j_aload_n hX dX11_make_70 2 rfl ?_
      refine j_iload_n hX dX11_make_71 3 rfl ?_
      refine j_iload_n hX dX11_make_72 1 rfl ?_
      refine j_iload_n hX dX11_make_73 0 rfl ?_
      refine j_callV (As := [.int (nI v), .int (nI lf), .int (nI k)]) (rest := []) hX (hrow G g9 B k hk hG hK hN kB) hG.1 rfl lk_X11_85 wI_X11_makeRow wV_X11_X11_makeRow wN_X11 wC_X11_makeRow hd_X11_makeRow rfl (by rw [hL]; decide) (by decide) rfl (Nat.le_of_ble_eq_true rfl) dX11_make_74 (by rw [hR]; decide) (by rw [hR]; decide) jx_no ?_
      rintro _ g2 ⟨rfl, G2, fb2, hS2, hK2, ht2, hf2⟩
      cases fb2
      · have hdead := hf.trans (fld_sn hk (hf2 rfl))
        have hKK := hK.tr hK2
        show J X 0 0 g2 77 [(3, .int (nI k)), (2, .int (nI lf)), (0, .ref m), (1, .int (nI v))] []
        refine j_iinc (v := nI (k + 1)) (lv' := [(3, .int (nI (k + 1))), (2, .int (nI lf)), (0, .ref m), (1, .int (nI v))]) hX dX11_make_77 0 rfl (nI_1 k) (by rw [hn]; decide) rfl ?_
        refine j_goto hX 53 dX11_make_80 (by decide) ?_
        refine j_aload_n hX dX11_make_53 2 rfl ?_
        refine j_get (v := .int (b01 false)) hX hS2.1 rfl wf_X11 16 (by decide) lk_X11_68 (fun _ h => h) rfl dX11_make_54 ?_
        refine j_if_eq hX 83 dX11_make_57 (by decide) (fun _ => ?_) (fun c_57 => absurd (by rfl) c_57)
        refine j_iconst (v := nI 0) hX dX11_make_83 (by decide) ?_
        refine j_istore_n (lv' := [(3, .int (nI 0)), (2, .int (nI lf)), (0, .ref m), (1, .int (nI v))]) hX dX11_make_84 (by rw [hn]; decide) rfl ?_
        refine j_aload_n hX dX11_make_85 2 rfl ?_
        refine j_get (v := .int (b01 false)) hX hS2.1 rfl wf_X11 16 (by decide) lk_X11_68 (fun _ h => h) rfl dX11_make_86 ?_
        refine j_if_eq hX 150 dX11_make_89 (by decide) (fun _ => ?_) (fun c_89 => absurd (by rfl) c_89)
        exact j_vret hX hE dX11_make_150 (⟨rfl, G2, false, hS2, hKK, fun e => absurd e (by decide), fun _ => absurd ((fld_self gL L.length 0 (by omega)).symm.trans hdead) (by simp)⟩) (by decide) (by decide)
      · obtain ⟨B2, hb2, hN2, kB2⟩ := ht2 rfl
        have hKK := hK.tr hK2
        show J X 0 0 g2 77 [(3, .int (nI k)), (2, .int (nI lf)), (0, .ref m), (1, .int (nI v))] []
        refine j_iinc (v := nI (k + 1)) (lv' := [(3, .int (nI (k + 1))), (2, .int (nI lf)), (0, .ref m), (1, .int (nI v))]) hX dX11_make_77 0 rfl (nI_1 k) (by rw [hn]; decide) rfl ?_
        refine j_goto hX 53 dX11_make_80 (by decide) ?_
        refine j_sub [0, 1, 2, 3] rfl ?_
        exact ih (k + 1) G2 g2 B2 (by omega) hS2 hKK hN2 kB2 (hf.trans (fld_sy hk hb2))
  refine j_aload_n hX dX11_make_0 0 rfl ?_
  refine j_get (v := .ref (Q 13)) hX hS.1 rfl wf_X11 15 (by decide) lk_X11_50 (fun _ h => h) rfl dX11_make_1 ?_
  refine j_iload_n hX dX11_make_4 1 rfl ?_
  refine j_iconst (v := nI 0) hX dX11_make_5 (by decide) ?_
  refine j_iastN hX (show g (Q 13) = some (aI (xK X) 8 (F 13)) from hS.2.1 13 (by decide)) (v) (rfl) (hv) (by decide) dX11_make_6 ?_
  obtain ⟨g1, eg1⟩ : ∃ z : Wd, z = up g (Q 13) (aI (xK X) 8 (upd (F 13) (v) (nI 0))) := ⟨_, rfl⟩
  refine j_w eg1.symm ?_
  obtain ⟨F1, eF1⟩ : ∃ z, z = fu F 13 (upd (F 13) (v) (nI 0)) := ⟨_, rfl⟩
  have hS1 : RS (xK X) g1 m Q th oc (b01 true) F1 := by rw [eg1, eF1]; exact hS.put 13 (by decide) _
  have hK1 : Kp v F F1 := Kp.of (fun j _ _ h13 => by rw [eF1, fu_n h13]) (fun q hq => by rw [eF1, fu_s, pk_un hq]) (fun q _ => by rw [eF1, fu_n (by decide)]) (fun q _ => by rw [eF1, fu_n (by decide)])
  have hN1 : NB F1 v [] := ⟨by rw [eF1, fu_s, pk_us]; rfl, fun k x hx => by cases hx⟩
  refine j_aload_n hX dX11_make_7 0 rfl ?_
  refine j_get (v := .ref (Q 2)) hX hS1.1 rfl wf_X11 3 (by decide) lk_X11_16 (fun _ h => h) rfl dX11_make_8 ?_
  refine j_iload_n hX dX11_make_11 1 rfl ?_
  refine j_ialdN hX (show g1 (Q 2) = some (aI (xK X) 8 (F1 2)) from hS1.2.1 2 (by decide)) (v) (rfl) (hv) (by decide) dX11_make_12 ?_
  refine j_eqi (y := nI lf) (by rw [hK1.1 2 (by decide)]; exact h2) ?_
  refine j_istore_n (lv' := [(2, .int (nI lf)), (0, .ref m), (1, .int (nI v))]) hX dX11_make_13 (by rw [hn]; decide) rfl ?_
  refine j_aload_n hX dX11_make_14 1 rfl ?_
  refine j_get (v := .ref (Q 0)) hX hS1.1 rfl wf_X11 1 (by decide) lk_X11_7 (fun _ h => h) rfl dX11_make_15 ?_
  refine j_iload_n hX dX11_make_18 2 rfl ?_
  refine j_ialdN hX (show g1 (Q 0) = some (aI (xK X) 8 (F1 0)) from hS1.2.1 0 (by decide)) (v) (rfl) (hv) (by decide) dX11_make_19 ?_
  refine j_eqi (y := nI kd) (by rw [hK1.1 0 (by decide)]; exact hk0) ?_
  refine j_iconst (v := nI 4) hX dX11_make_20 (by decide) ?_
  refine j_icmp_ne hX 32 dX11_make_21 (by decide) (fun _ => ?_) (fun c_21 => absurd c_21 (by rw [e5]; decide))
  refine j_aload_n hX dX11_make_32 1 rfl ?_
  refine j_get (v := .ref (Q 0)) hX hS1.1 rfl wf_X11 1 (by decide) lk_X11_7 (fun _ h => h) rfl dX11_make_33 ?_
  refine j_iload_n hX dX11_make_36 2 rfl ?_
  refine j_ialdN hX (show g1 (Q 0) = some (aI (xK X) 8 (F1 0)) from hS1.2.1 0 (by decide)) (v) (rfl) (hv) (by decide) dX11_make_37 ?_
  refine j_eqi (y := nI kd) (by rw [hK1.1 0 (by decide)]; exact hk0) ?_
  refine j_bipush (v := nI 8) hX dX11_make_38 (by decide) ?_
  refine j_icmp_ne hX 51 dX11_make_40 (by decide) (fun _ => ?_) (fun c_40 => absurd c_40 (by rw [e5]; decide))
  refine j_iconst (v := nI 0) hX dX11_make_51 (by decide) ?_
  refine j_istore_n (lv' := [(3, .int (nI 0)), (2, .int (nI lf)), (0, .ref m), (1, .int (nI v))]) hX dX11_make_52 (by rw [hn]; decide) rfl ?_
  refine j_sub (lv' := [(3, .int (nI 0)), (2, .int (nI lf)), (0, .ref m), (1, .int (nI v))]) [0, 1, 2, 3] rfl ?_
  exact live L.length 0 F1 g1 [] (by omega) hS1 hK1 hN1 (good_nil.wk (zw_nil w)) rfl

/-- make(v): the view's rows, as the document says them -/
theorem c_X11_make (l : Launch) (K : Cst) (g : Wd) (m : Nat) (Q : Nat → Nat) (th oc : Int32) (F : Nat → Nat → Int32) (hS : RS K g m Q th oc (b01 true) F) (v kd w lf rt wl wr : Nat) (n : Nat → Int32) (ot : Bool) (L R : Bg) (hv : v < 8) (hlf : lf < 8) (hrt : rt < 8) (hne : lf ≠ v) (hne2 : rt ≠ v) (hV : VD F v kd w lf rt wl wr n ot) (hw1 : 1 ≤ w) (hw4 : w ≤ 4) (hLb : NB F lf L) (gL : good L) (zL : zw wl L) (hRb : NB F rt R) (gR : good R) (zR : zw wr R) (hp : vpOK kd wl n ot) (hwo : wOK kd w wl wr n) : Ct l K yX11_make cX11_make 4 none 3 [.ref m, .int (nI v)] g (MkP K m Q th oc F v w (evalV kd wl n ot L R)) (fun _ _ => False) 0 0 := by
  have hl20 := gL.2.1
  have hr20 := gR.2.1
  obtain ⟨⟨hk0, hw, h2⟩, h3, hn4, h5, hwl, hwr⟩ := hV
  match kd, hp, hwo, hk0, h3, hn4, h5 with
  | 2, hp, hwo, hk0, h3, hn4, h5 =>
    obtain ⟨⟨c, hc, e0⟩, ⟨cm, hcm, e1⟩, htc⟩ := hp
    have hww : w = wl := hwo
    have q0 := hn4 0 (by decide); have q1 := hn4 1 (by decide); have q2 := hn4 2 (by decide)
    rw [Nat.add_zero] at q0
    have hfin : evalV 2 wl n ot L R = fldB (fun x : Row × Nat => if selH cm (cellR x.1 c) (if ot = true then cellR x.1 (vnat (n 2)) else n 2) = true then some (x.1, (x.2 : Int)) else none) L [] := by
      show (if ot = true then fldB _ L [] else fldB _ L []) = _
      rw [e0, e1, vnat_nI (by omega), vnat_nI (by omega)]
      cases ot <;> rfl
    rw [hfin]
    refine c_X11_makeR l K g m Q th oc F hS v 2 w lf L hv hlf hne hk0 h2 hLb gL _ (by decide) (by decide) (by decide) (fun G g9 B k hk hG hK hN kB => ?_)
    have e4 := hK.1 4 (by decide)
    have r := c_X11_row2 l K g9 m Q th oc G hG v lf w k L B hv hlf hne (by rw [hK.1 1 (by decide)]; exact hw) hw1 hw4 (hK.nb hne hLb hl20) gL hN kB hk (by rw [hK.1 0 (by decide)]; exact hk0) (by rw [hww]; exact zL) ot (by rw [hK.1 5 (by decide)]; exact h5 rfl) c cm hc (by rw [e4, q0, e0]) hcm (by rw [e4, q1, e1]) (fun e => by obtain ⟨tc, h6, h7⟩ := htc e; exact ⟨tc, h6, by rw [e4, q2, h7]⟩)
    rw [e4, q2] at r
    have e : stepB ((fun x : Row × Nat => if selH cm (cellR x.1 c) (if ot = true then cellR x.1 (vnat (n 2)) else n 2) = true then some (x.1, (x.2 : Int)) else none) L[k]) B = if selH cm (cellR (L[k]).1 c) (if ot = true then cellR (L[k]).1 (vnat (n 2)) else n 2) = true then addB (L[k]).1 ((L[k]).2 : Int) B else some B := by
      show stepB (if _ then _ else _) B = _
      generalize (if ot = true then cellR (L[k]).1 (vnat (n 2)) else n 2) = th
      by_cases q : selH cm (cellR (L[k]).1 c) th = true
      · rw [if_pos q, if_pos q]; rfl
      · rw [if_neg q, if_neg q]; rfl
    rw [e]
    exact r
  | 3, hp, hwo, hk0, h3, hn4, h5 =>
    refine c_X11_makeR l K g m Q th oc F hS v 3 w lf L hv hlf hne hk0 h2 hLb gL _ (by decide) (by decide) (by decide) (fun G g9 B k hk hG hK hN kB => ?_)
    have e4 := hK.1 4 (by decide)
    exact c_X11_row3 l K g9 m Q th oc G hG v lf w k L B hv hlf hne (by rw [hK.1 1 (by decide)]; exact hw) hw1 hw4 (hK.nb hne hLb hl20) gL hN kB hk (by rw [hK.1 0 (by decide)]; exact hk0) n (fun j hj => by rw [e4]; exact hn4 j hj) hp hwo
  | 4, hp, hwo, hk0, h3, hn4, h5 =>
    obtain ⟨⟨c, hc, e0⟩, ⟨d, hd, e1⟩, _⟩ := hp
    have q0 := hn4 0 (by decide); have q1 := hn4 1 (by decide)
    rw [Nat.add_zero] at q0
    have hfin : evalV 4 wl n ot L R = fldB (jnF c d wl) (prs L R) [] := by
      show fldB (jnF (vnat (n 0)) (vnat (n 1)) wl) (prs L R) [] = _
      rw [e0, e1, vnat_nI (by omega), vnat_nI (by omega)]
    rw [hfin]
    refine c_X11_make4 l K g m Q th oc F hS v 4 w lf L hv hlf hne hk0 h2 hLb gL _ rfl (fun G g9 hG hK hN => ?_)
    exact c_X11_makeJoin l K g9 m Q th oc G hG v lf rt w wl wr c d L R hv hlf hrt hne hne2 (by rw [hK.1 1 (by decide)]; exact hw) hw1 hw4 (by rw [hK.1 1 (by decide)]; exact hwl) hwo (hK.nb hne hLb hl20) gL (hK.nb hne2 hRb hr20) gR zR hN (by rw [hK.1 2 (by decide)]; exact h2) (by rw [hK.1 3 (by decide)]; exact h3 (Or.inl rfl)) hc hd (by rw [hK.1 4 (by decide), q0, e0]) (by rw [hK.1 4 (by decide), q1, e1])
  | 5, hp, hwo, hk0, h3, hn4, h5 =>
    obtain ⟨hw2, hw3⟩ := hwo
    refine c_X11_makeU l K g m Q th oc F hS v 5 w lf L hv hlf hne hk0 h2 hLb gL rt R rfl hw hw1 hw4 hrt hne2 (h3 (Or.inr (Or.inl rfl))) hRb gR (by rw [show w = wr by omega]; exact zR) (fun G g9 B k hk hG hK hN kB => ?_)
    exact c_X11_row5 l K g9 m Q th oc G hG v lf w k L B hv hlf hne (by rw [hK.1 1 (by decide)]; exact hw) hw1 hw4 (hK.nb hne hLb hl20) gL hN kB hk (by rw [hK.1 0 (by decide)]; exact hk0) (by rw [hw2]; exact zL)
  | 6, hp, hwo, hk0, h3, hn4, h5 =>
    obtain ⟨hw2, hw3⟩ := hwo
    have hfin : evalV 6 wl n ot L R = fldB (lsF R) L [] := fld_less gL L.length 0 [] (by omega) (fun y hy => by cases hy)
    rw [hfin]
    refine c_X11_makeR l K g m Q th oc F hS v 6 w lf L hv hlf hne hk0 h2 hLb gL _ (by decide) (by decide) (by decide) (fun G g9 B k hk hG hK hN kB => ?_)
    have r := c_X11_row6 l K g9 m Q th oc G hG v lf w k L B hv hlf hne (by rw [hK.1 1 (by decide)]; exact hw) hw1 hw4 (hK.nb hne hLb hl20) gL hN kB hk (by rw [hK.1 0 (by decide)]; exact hk0) (by rw [hw2]; exact zL) rt R hrt (by rw [hK.1 3 (by decide)]; exact h3 (Or.inr (Or.inr rfl))) (by rw [hK.1 1 (by decide), hwr, show w = wr by omega]) (hK.nb hne2 hRb hr20) gR (by rw [show w = wr by omega]; exact zR)
    have e : stepB (lsF R L[k]) B = if tms R (L[k]).1 < (L[k]).2 then addB (L[k]).1 (((L[k]).2 : Int) - (tms R (L[k]).1 : Int)) B else some B := by
      unfold lsF
      split <;> rfl
    rw [e]
    exact r
  | 7, hp, hwo, hk0, h3, hn4, h5 =>
    have hw2 : w = wl := hwo
    refine c_X11_makeR l K g m Q th oc F hS v 7 w lf L hv hlf hne hk0 h2 hLb gL _ (by decide) (by decide) (by decide) (fun G g9 B k hk hG hK hN kB => ?_)
    exact c_X11_row7 l K g9 m Q th oc G hG v lf w k L B hv hlf hne (by rw [hK.1 1 (by decide)]; exact hw) hw1 hw4 (hK.nb hne hLb hl20) gL hN kB hk (by rw [hK.1 0 (by decide)]; exact hk0) (by rw [hw2]; exact zL)
  | 8, hp, hwo, hk0, h3, hn4, h5 =>
    obtain ⟨hb, ⟨st, hst, e1⟩, ⟨c, hc, e2⟩⟩ := hp
    have hww : w = if n 0 = -1 then 1 else 2 := hwo
    have q0 := hn4 0 (by decide); have q1 := hn4 1 (by decide); have q2 := hn4 2 (by decide)
    rw [Nat.add_zero] at q0
    have hfin : evalV 8 wl n ot L R = fldB (grF (chO (n 0)) st c L) (List.range L.length) [] := by
      show fldB (grF (chO (n 0)) (vnat (n 1)) (vnat (n 2)) L) (List.range L.length) [] = _
      rw [e1, e2, vnat_nI (by omega), vnat_nI (by omega)]
    rw [hfin]
    refine c_X11_make8 l K g m Q th oc F hS v 8 w lf L hv hlf hne hk0 h2 hLb gL _ rfl (fun G g9 hG hK hN => ?_)
    have hcv : chv (chO (n 0)) = n 0 := by
      rcases hb with h | ⟨cb, h6, h7⟩
      · rw [h, chO_n]; rfl
      · rw [h7, chO_s (by omega)]; rfl
    exact c_X11_makeGroups l K g9 m Q th oc G hG v lf w st c L (chO (n 0)) (fun cb hcb => by
      rcases hb with h | ⟨c9, h6, h7⟩
      · rw [h, chO_n] at hcb; cases hcb
      · rw [h7, chO_s (by omega)] at hcb; cases hcb; exact h6) hv hlf hne (by rw [hK.1 1 (by decide)]; exact hw) (by
      rw [hww]
      rcases hb with h | ⟨c9, h6, h7⟩
      · rw [if_pos h, h, chO_n, if_pos rfl]
      · rw [if_neg (by rw [h7]; exact nI_m1ne (by omega)), h7, chO_s (by omega), if_neg (by simp)]) (hK.nb hne hLb hl20) gL hN (by rw [hK.1 2 (by decide)]; exact h2) (by rw [hK.1 4 (by decide), q0, hcv]) hst (by rw [hK.1 4 (by decide), q1, e1]) hc (by rw [hK.1 4 (by decide), q2, e2])
  | 0, _, hwo, _, _, _, _ => exact hwo.elim
  | 1, _, hwo, _, _, _, _ => exact hwo.elim
  | _ + 9, _, hwo, _, _, _, _ => exact hwo.elim
