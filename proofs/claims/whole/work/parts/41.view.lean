/-! A VIEW BY ITS KIND: 2 selection, 3 columns, 4 join, 5 union, 6 difference, 7 once, 8 group; n: its numbers, ot: by a column -/
def vnat (x : Int32) : Nat := x.toNatClampNeg
def chO (x : Int32) : Option Nat := if x < 0 then none else some x.toNatClampNeg
theorem vnat_nI {c : Nat} (h : c < 2 ^ 31) : vnat (nI c) = c := nI_clamp h
theorem chO_n : chO (-1) = none := by decide
theorem chO_s {c : Nat} (h : c < 2 ^ 31) : chO (nI c) = some c := by unfold chO; rw [if_neg (nI_pos h), nI_clamp h]
def selF1 (cm c tc : Nat) (x : Row × Nat) : Option (Row × Int) := if selH cm (cellR x.1 c) (cellR x.1 tc) = true then some (x.1, (x.2 : Int)) else none
def selF0 (cm c : Nat) (th : Int32) (x : Row × Nat) : Option (Row × Int) := if selH cm (cellR x.1 c) th = true then some (x.1, (x.2 : Int)) else none
def evalV (kd wl : Nat) (n : Nat → Int32) (ot : Bool) (L R : Bg) : Option Bg := match kd with
  | 2 => if ot = true then fldB (fun x : Row × Nat => if selH (vnat (n 1)) (cellR x.1 (vnat (n 0))) (cellR x.1 (vnat (n 2))) = true then some (x.1, (x.2 : Int)) else none) L [] else fldB (fun x : Row × Nat => if selH (vnat (n 1)) (cellR x.1 (vnat (n 0))) (n 2) = true then some (x.1, (x.2 : Int)) else none) L []
  | 3 => fldB (fun x : Row × Nat => some (pickR (fun i => chO (n i)) x.1, (x.2 : Int))) L []
  | 4 => fldB (jnF (vnat (n 0)) (vnat (n 1)) wl) (prs L R) []
  | 5 => fldB (fun x : Row × Nat => some (x.1, (x.2 : Int))) R L
  | 6 => fldB (fun x : Row × Nat => some (x.1, (x.2 : Int) - (tms R x.1 : Int))) L []
  | 7 => fldB (fun x : Row × Nat => some (x.1, (1 : Int))) L []
  | 8 => fldB (grF (chO (n 0)) (vnat (n 1)) (vnat (n 2)) L) (List.range L.length) []
  | _ => none
def vpOK (kd wl : Nat) (n : Nat → Int32) (ot : Bool) : Prop := match kd with
  | 2 => (∃ c, c < 4 ∧ n 0 = nI c) ∧ (∃ cm, cm ≤ 5 ∧ n 1 = nI cm) ∧ (ot = true → ∃ tc, tc < 4 ∧ n 2 = nI tc)
  | 3 => ∀ i, n i = -1 ∨ ∃ c, c < 4 ∧ n i = nI c
  | 4 => (∃ c, c < 4 ∧ n 0 = nI c) ∧ (∃ d, d < 4 ∧ n 1 = nI d) ∧ wl ≤ 4
  | 8 => (n 0 = -1 ∨ ∃ c, c < 4 ∧ n 0 = nI c) ∧ (∃ st, st ≤ 3 ∧ n 1 = nI st) ∧ ∃ c, c < 4 ∧ n 2 = nI c
  | _ => True
def rowIv (kd : Nat) (n rf : Nat → Int32) : Prop := kd = 8 → rowI (chO (n 0)) rf
def vwAt (K : Cst) (g : Wd) (v kd lr rr dp rw ck : Nat) (n : Nat → Int32) (ot : Bool) : Prop := match kd with
  | 2 => g v = some (ob 7 [.ref lr, .ref rr, .int (nI dp), .ref rw, .int (n 0), .int (n 1), .int (n 2), .int (b01 ot)])
  | 3 => g v = some (ob 1 [.ref lr, .ref rr, .int (nI dp), .ref rw, .ref ck]) ∧ g ck = some (aI K 4 n) ∧ ck ≠ rw
  | 4 => g v = some (ob 4 [.ref lr, .ref rr, .int (nI dp), .ref rw, .int (n 0), .int (n 1)])
  | 5 => g v = some (ob 8 [.ref lr, .ref rr, .int (nI dp), .ref rw])
  | 6 => g v = some (ob 2 [.ref lr, .ref rr, .int (nI dp), .ref rw])
  | 7 => g v = some (ob 5 [.ref lr, .ref rr, .int (nI dp), .ref rw])
  | 8 => g v = some (ob 3 [.ref lr, .ref rr, .int (nI dp), .ref rw, .int (n 0), .int (n 1), .int (n 2)])
  | _ => False
theorem mkP.mono {K : Cst} {g : Wd} {b ca oa rw : Nat} {I I' : (Nat → Int32) → Prop} {o : Option Bg} {v : Option Value} {g' : Wd} (h : mkP K g b ca oa rw I o v g') (hI : ∀ rf, I rf → I' rf) : mkP K g b ca oa rw I' o v g' := by
  obtain ⟨h1, ⟨rf, h2, h3⟩, h4⟩ := h
  exact ⟨h1, ⟨rf, h2, hI rf h3⟩, h4⟩
abbrev yVmk : MethodName := ⟨"BagViews$View", "makeInto", "(LBagViews$Bag;)Z"⟩
abbrev yVto : MethodName := ⟨"BagViews$View", "isTouched", "()Z"⟩
set_option maxRecDepth 20000 in
set_option maxHeartbeats 1000000 in
theorem j_make {X : Cx} {cc : ByteArray} {own : String} {kc ks : Nat} {g : Wd} {pc : Nat} {lv : List (Nat × Value)} {rest : List Value} (hX : OK X cc own) {idx : Nat} (wk : Cond.methodLink own idx yVmk ∈ wsL_law) {v kd lr rr dp rw ck : Nat} {n : Nat → Int32} {ot : Bool} (hv : vwAt (xK X) g v kd lr rr dp rw ck n ot) {rf0 : Nat → Int32} (hrw : g rw = some (aI (xK X) 4 rf0)) (hri : rowIv kd n rf0) {b ca oa : Nat} (hI : bagR (xK X) g b ca oa []) (nw nx p : Nat) (vw : Value) (wl : Nat) (ch : Int32) (hlr : g lr = some (ob 6 [.ref nw, .ref nx, vw, .int (nI wl), .int (nI p), .int ch])) (hp : p < 2 ^ 31) (lb lca loa : Nat) (L : Bg) (hlb : (if 0 < p then nx else nw) = lb) (hL : bagR (xK X) g lb lca loa L) (gL : good L) (nb : lb ≠ b) (nca : lca ≠ ca) (noa : loa ≠ oa) (nwB nxB pB : Nat) (vwB : Value) (wr : Nat) (chB : Int32) (hlrB : g rr = some (ob 6 [.ref nwB, .ref nxB, vwB, .int (nI wr), .int (nI pB), .int chB])) (hpB : pB < 2 ^ 31) (lbB lcaB loaB : Nat) (LB : Bg) (hlbB : (if 0 < pB then nxB else nwB) = lbB) (hLB : bagR (xK X) g lbB lcaB loaB LB) (gLB : good LB) (nbB : lbB ≠ b) (ncaB : lcaB ≠ ca) (noaB : loaB ≠ oa) (hvp : vpOK kd wl n ot) (hlev : 5 ≤ xlev X) (hrest : (rest.map fun v => v.category).sum ≤ 8) (hkc : kc ≤ (xR X).cells) (hks : ks ≤ (xR X).slots) (d : decode cc pc = .ok (.invokevirtual idx, 3))
    (kk : ∀ o g', mkP (xK X) g b ca oa rw (rowIv kd n) (evalV kd wl n ot L LB) o g' → J X kc ks g' (pc + 3) lv (o.toList ++ rest)) : J X kc ks g pc lv (.ref b :: .ref v :: rest) := by
  match kd, hv, hri, hvp, kk with
  | 2, hv, hri, hvp, kk =>
    obtain ⟨⟨c, hc, e0⟩, ⟨cm, hcm, e1⟩, ht⟩ := hvp
    simp only [vwAt] at hv
    simp only [evalV, e0, e1, vnat_nI (show c < 2 ^ 31 by omega), vnat_nI (show cm < 2 ^ 31 by omega)] at kk
    rw [e0, e1] at hv
    rcases hot : ot with _ | _
    · rw [hot] at hv kk
      refine j_callA (na := 1) (As := [.ref b]) (rest := rest) hX (c_X7_makeInto_f (xl X) (xK X) g b ca oa rw rf0 hI hrw v rr (nI dp) c cm (n 2) hc hcm lr nw nx p vw (nI wl) ch hlr hp lb lca loa L hlb hL gL nb nca noa hv) hv rfl wk wz_5 nd_31 wI_X7_makeInto wV_X7_X7_makeInto wN_X7 wC_X7_makeInto rfl (by decide +kernel) rfl hlev (by decide) rfl hrest d (by omega) (by omega) (fun o9 g9 h9 => kk o9 g9 ?_)
      exact mkP.mono h9 (fun rf _ => fun q => absurd q (by decide))
    · obtain ⟨tc, htc, e2⟩ := ht hot
      rw [hot, e2] at hv
      simp only [hot, e2, vnat_nI (show tc < 2 ^ 31 by omega), if_true] at kk
      refine j_callA (na := 1) (As := [.ref b]) (rest := rest) hX (c_X7_makeInto_t (xl X) (xK X) g b ca oa rw rf0 hI hrw v rr (nI dp) c cm tc hc hcm htc lr nw nx p vw (nI wl) ch hlr hp lb lca loa L hlb hL gL nb nca noa hv) hv rfl wk wz_5 nd_31 wI_X7_makeInto wV_X7_X7_makeInto wN_X7 wC_X7_makeInto rfl (by decide +kernel) rfl hlev (by decide) rfl hrest d (by omega) (by omega) (fun o9 g9 h9 => kk o9 g9 ?_)
      exact mkP.mono h9 (fun rf _ => fun q => absurd q (by decide))
  | 3, hv, hri, hvp, kk =>
    obtain ⟨hv, hck, nck⟩ := hv
    have en : n = fun i => chv (chO (n i)) := funext fun i => by
      rcases hvp i with e | ⟨c, hc, e⟩
      · rw [e, chO_n]; rfl
      · rw [e, chO_s (by omega)]; rfl
    refine j_callA (na := 1) (As := [.ref b]) (rest := rest) hX (c_X1_makeInto (xl X) (xK X) g b ca oa rw rf0 hI hrw v rr ck (nI dp) (fun i => chO (n i)) (fun i _ c e => by
        rcases hvp i with q | ⟨c9, hc9, q⟩
        · rw [q, chO_n] at e; cases e
        · rw [q, chO_s (by omega)] at e; cases e; exact hc9) (by rw [← en]; exact hck) nck lr nw nx p vw (nI wl) ch hlr hp lb lca loa L hlb hL gL nb nca noa hv) hv rfl wk wz_5 nd_31 wI_X1_makeInto wV_X1_X1_makeInto wN_X1 wC_X1_makeInto rfl (by decide +kernel) rfl hlev (by decide) rfl hrest d (by omega) (by omega) (fun o9 g9 h9 => kk o9 g9 ?_)
    exact mkP.mono h9 (fun rf _ => fun q => absurd q (by decide))
  | 4, hv, hri, hvp, kk =>
    obtain ⟨⟨c, hc, e0⟩, ⟨d9, hd9, e1⟩, hwl⟩ := hvp
    simp only [vwAt] at hv
    rw [e0, e1] at hv
    simp only [evalV, e0, e1, vnat_nI (show c < 2 ^ 31 by omega), vnat_nI (show d9 < 2 ^ 31 by omega)] at kk
    refine j_callA (na := 1) (As := [.ref b]) (rest := rest) hX (c_X4_makeInto (xl X) (xK X) g b ca oa rw rf0 hI hrw v (nI dp) c d9 wl hc hd9 hwl lr nw nx p vw ch hlr hp lb lca loa L hlb hL gL nb nca noa rr nwB nxB pB vwB (nI wr) chB hlrB hpB lbB lcaB loaB LB hlbB hLB gLB nbB ncaB noaB hv) hv rfl wk wz_5 nd_31 wI_X4_makeInto wV_X4_X4_makeInto wN_X4 wC_X4_makeInto rfl (by decide +kernel) rfl hlev (by decide) rfl hrest d (by omega) (by omega) (fun o9 g9 h9 => kk o9 g9 ?_)
    exact mkP.mono h9 (fun rf _ => fun q => absurd q (by decide))
  | 5, hv, hri, hvp, kk =>
    refine j_callA (na := 1) (As := [.ref b]) (rest := rest) hX (c_X8_makeInto (xl X) (xK X) g b ca oa rw rf0 hI hrw v (nI dp) lr nw nx p vw (nI wl) ch hlr hp lb lca loa L hlb hL gL nb nca noa rr nwB nxB pB vwB (nI wr) chB hlrB hpB lbB lcaB loaB LB hlbB hLB gLB nbB ncaB noaB hv) (show g v = some (ob _ _) from hv) rfl wk wz_5 nd_31 wI_X8_makeInto wV_X8_X8_makeInto wN_X8 wC_X8_makeInto rfl (by decide +kernel) rfl hlev (by decide) rfl hrest d (by omega) (by omega) (fun o9 g9 h9 => kk o9 g9 ?_)
    exact mkP.mono h9 (fun rf _ => fun q => absurd q (by decide))
  | 6, hv, hri, hvp, kk =>
    refine j_callA (na := 1) (As := [.ref b]) (rest := rest) hX (c_X2_makeInto (xl X) (xK X) g b ca oa rw rf0 hI hrw v (nI dp) lr nw nx p vw (nI wl) ch hlr hp lb lca loa L hlb hL gL nb nca noa rr nwB nxB pB vwB (nI wr) chB hlrB hpB lbB lcaB loaB LB hlbB hLB gLB nbB ncaB noaB hv) (show g v = some (ob _ _) from hv) rfl wk wz_5 nd_31 wI_X2_makeInto wV_X2_X2_makeInto wN_X2 wC_X2_makeInto rfl (by decide +kernel) rfl hlev (by decide) rfl hrest d (by omega) (by omega) (fun o9 g9 h9 => kk o9 g9 ?_)
    exact mkP.mono h9 (fun rf _ => fun q => absurd q (by decide))
  | 7, hv, hri, hvp, kk =>
    refine j_callA (na := 1) (As := [.ref b]) (rest := rest) hX (c_X5_makeInto (xl X) (xK X) g b ca oa rw rf0 hI hrw v rr (nI dp) lr nw nx p vw (nI wl) ch hlr hp lb lca loa L hlb hL gL nb nca noa hv) (show g v = some (ob _ _) from hv) rfl wk wz_5 nd_31 wI_X5_makeInto wV_X5_X5_makeInto wN_X5 wC_X5_makeInto rfl (by decide +kernel) rfl hlev (by decide) rfl hrest d (by omega) (by omega) (fun o9 g9 h9 => kk o9 g9 ?_)
    exact mkP.mono h9 (fun rf _ => fun q => absurd q (by decide))
  | 8, hv, hri, hvp, kk =>
    obtain ⟨e0, ⟨st, hst, e1⟩, ⟨c, hc, e2⟩⟩ := hvp
    simp only [vwAt] at hv
    rw [e1, e2] at hv
    simp only [evalV, e1, e2, vnat_nI (show c < 2 ^ 31 by omega), vnat_nI (show st < 2 ^ 31 by omega)] at kk
    have en : n 0 = chv (chO (n 0)) := by
      rcases e0 with e | ⟨c9, hc9, e⟩
      · rw [e, chO_n]; rfl
      · rw [e, chO_s (by omega)]; rfl
    rw [en] at hv
    refine j_callA (na := 1) (As := [.ref b]) (rest := rest) hX (c_X3_makeInto (xl X) (xK X) g b ca oa rw rf0 hI hrw v rr (nI dp) (chO (n 0)) st c (fun cb e => by
        rcases e0 with q | ⟨c9, hc9, q⟩
        · rw [q, chO_n] at e; cases e
        · rw [q, chO_s (by omega)] at e; cases e; exact hc9) hst hc (hri rfl) lr nw nx p vw (nI wl) ch hlr hp lb lca loa L hlb hL gL nb nca noa hv) hv rfl wk wz_5 nd_31 wI_X3_makeInto wV_X3_X3_makeInto wN_X3 wC_X3_makeInto rfl (by decide +kernel) rfl hlev (by decide) rfl hrest d (by omega) (by omega) (fun o9 g9 h9 => kk o9 g9 ?_)
    exact mkP.mono h9 (fun rf h _ => h)
  | 0, hv, _, _, _ => exact hv.elim
  | 1, hv, _, _, _ => exact hv.elim
  | _ + 9, hv, _, _, _ => exact hv.elim
set_option maxRecDepth 20000 in
set_option maxHeartbeats 1000000 in
theorem j_touch {X : Cx} {cc : ByteArray} {own : String} {kc ks : Nat} {g : Wd} {pc : Nat} {lv : List (Nat × Value)} {rest : List Value} (hX : OK X cc own) {idx : Nat} (wk : Cond.methodLink own idx yVto ∈ wsL_law) {v kd lr rr dp rw ck : Nat} {n : Nat → Int32} {ot : Bool} (hv : vwAt (xK X) g v kd lr rr dp rw ck n ot) (nw nx nwB nxB p pB : Nat) (vw vwB : Value) (w ch wB chB : Int32) (hl9 : g lr = some (ob 6 [.ref nw, .ref nx, vw, .int w, .int (nI p), .int ch])) (hr9 : g rr = some (ob 6 [.ref nwB, .ref nxB, vwB, .int wB, .int (nI pB), .int chB])) (hp : p < 2 ^ 31) (hpB : pB < 2 ^ 31) (hlev : 1 ≤ xlev X) (hrest : (rest.map fun v => v.category).sum ≤ 8) (hkc : kc ≤ (xR X).cells) (hks : ks ≤ (xR X).slots) (d : decode cc pc = .ok (.invokevirtual idx, 3))
    (kk : J X kc ks g (pc + 3) lv (.int (b01 (decide (0 < p) || decide (0 < pB))) :: rest)) : J X kc ks g pc lv (.ref v :: rest) := by
  match kd, hv with
  | 2, hv =>
    refine j_callU (na := 0) (As := []) (rest := rest) hX (c_X9_isTouched_X7 (xl X) (xK X) g v lr rr rw nw nx nwB nxB p pB vw vwB w ch wB chB (nI dp) (n 0) (n 1) (n 2) (b01 ot) hv hl9 hr9 hp hpB) (show g v = some (ob _ _) from hv) rfl wk wz_27 rfl wI_X9_isTouched wV_X7_X9_isTouched wN_X9 wC_X9_isTouched (by decide +kernel) rfl hlev (by decide) rfl hrest d (by omega) (by omega) ?_
    rintro _ _ ⟨rfl, rfl⟩
    exact kk
  | 3, hv =>
    refine j_callU (na := 0) (As := []) (rest := rest) hX (c_X9_isTouched_X1 (xl X) (xK X) g v lr rr rw nw nx nwB nxB p pB vw vwB w ch wB chB (nI dp) ck hv.1 hl9 hr9 hp hpB) (show g v = some (ob _ _) from hv.1) rfl wk wz_27 rfl wI_X9_isTouched wV_X1_X9_isTouched wN_X9 wC_X9_isTouched (by decide +kernel) rfl hlev (by decide) rfl hrest d (by omega) (by omega) ?_
    rintro _ _ ⟨rfl, rfl⟩
    exact kk
  | 4, hv =>
    refine j_callU (na := 0) (As := []) (rest := rest) hX (c_X9_isTouched_X4 (xl X) (xK X) g v lr rr rw nw nx nwB nxB p pB vw vwB w ch wB chB (nI dp) (n 0) (n 1) hv hl9 hr9 hp hpB) (show g v = some (ob _ _) from hv) rfl wk wz_27 rfl wI_X9_isTouched wV_X4_X9_isTouched wN_X9 wC_X9_isTouched (by decide +kernel) rfl hlev (by decide) rfl hrest d (by omega) (by omega) ?_
    rintro _ _ ⟨rfl, rfl⟩
    exact kk
  | 5, hv =>
    refine j_callU (na := 0) (As := []) (rest := rest) hX (c_X9_isTouched_X8 (xl X) (xK X) g v lr rr rw nw nx nwB nxB p pB vw vwB w ch wB chB (nI dp)  hv hl9 hr9 hp hpB) (show g v = some (ob _ _) from hv) rfl wk wz_27 rfl wI_X9_isTouched wV_X8_X9_isTouched wN_X9 wC_X9_isTouched (by decide +kernel) rfl hlev (by decide) rfl hrest d (by omega) (by omega) ?_
    rintro _ _ ⟨rfl, rfl⟩
    exact kk
  | 6, hv =>
    refine j_callU (na := 0) (As := []) (rest := rest) hX (c_X9_isTouched_X2 (xl X) (xK X) g v lr rr rw nw nx nwB nxB p pB vw vwB w ch wB chB (nI dp)  hv hl9 hr9 hp hpB) (show g v = some (ob _ _) from hv) rfl wk wz_27 rfl wI_X9_isTouched wV_X2_X9_isTouched wN_X9 wC_X9_isTouched (by decide +kernel) rfl hlev (by decide) rfl hrest d (by omega) (by omega) ?_
    rintro _ _ ⟨rfl, rfl⟩
    exact kk
  | 7, hv =>
    refine j_callU (na := 0) (As := []) (rest := rest) hX (c_X9_isTouched_X5 (xl X) (xK X) g v lr rr rw nw nx nwB nxB p pB vw vwB w ch wB chB (nI dp)  hv hl9 hr9 hp hpB) (show g v = some (ob _ _) from hv) rfl wk wz_27 rfl wI_X9_isTouched wV_X5_X9_isTouched wN_X9 wC_X9_isTouched (by decide +kernel) rfl hlev (by decide) rfl hrest d (by omega) (by omega) ?_
    rintro _ _ ⟨rfl, rfl⟩
    exact kk
  | 8, hv =>
    refine j_callU (na := 0) (As := []) (rest := rest) hX (c_X9_isTouched_X3 (xl X) (xK X) g v lr rr rw nw nx nwB nxB p pB vw vwB w ch wB chB (nI dp) (n 0) (n 1) (n 2) hv hl9 hr9 hp hpB) (show g v = some (ob _ _) from hv) rfl wk wz_27 rfl wI_X9_isTouched wV_X3_X9_isTouched wN_X9 wC_X9_isTouched (by decide +kernel) rfl hlev (by decide) rfl hrest d (by omega) (by omega) ?_
    rintro _ _ ⟨rfl, rfl⟩
    exact kk
  | 0, hv => exact hv.elim
  | 1, hv => exact hv.elim
  | _ + 9, hv => exact hv.elim
theorem c_X6_depth (l : Launch) (K : Cst) (g : Wd) (r nw nx : Nat) (w pd ch : Int32) (v kd lr rr dp rw ck : Nat) (n : Nat → Int32) (ot : Bool) (hr : g r = some (ob 6 [.ref nw, .ref nx, .ref v, .int w, .int pd, .int ch])) (hv : vwAt K g v kd lr rr dp rw ck n ot) : Ct l K yX6_depth cX6_depth 1 (some .int) 0 [.ref r] g (fun v g' => v = some (.int (nI dp)) ∧ g = g') (fun _ _ => False) 0 0 := by
  match kd, hv with
  | 2, hv => exact c_X6_depth_X7 l K g r nw nx w pd ch v lr rr rw  (nI dp) (n 0) (n 1) (n 2) (b01 ot) hr hv
  | 3, hv => exact c_X6_depth_X1 l K g r nw nx w pd ch v lr rr rw  (nI dp) ck hr hv.1
  | 4, hv => exact c_X6_depth_X4 l K g r nw nx w pd ch v lr rr rw  (nI dp) (n 0) (n 1) hr hv
  | 5, hv => exact c_X6_depth_X8 l K g r nw nx w pd ch v lr rr rw  (nI dp)  hr hv
  | 6, hv => exact c_X6_depth_X2 l K g r nw nx w pd ch v lr rr rw  (nI dp)  hr hv
  | 7, hv => exact c_X6_depth_X5 l K g r nw nx w pd ch v lr rr rw  (nI dp)  hr hv
  | 8, hv => exact c_X6_depth_X3 l K g r nw nx w pd ch v lr rr rw  (nI dp) (n 0) (n 1) (n 2) hr hv
  | 0, hv => exact hv.elim
  | 1, hv => exact hv.elim
  | _ + 9, hv => exact hv.elim
theorem c_X6_isOf (l : Launch) (K : Cst) (g : Wd) (r nw nx : Nat) (w pd ch : Int32) (v kd lr rr dp rw ck : Nat) (n : Nat → Int32) (ot : Bool) (sr : Nat) (hr : g r = some (ob 6 [.ref nw, .ref nx, .ref v, .int w, .int pd, .int ch])) (hv : vwAt K g v kd lr rr dp rw ck n ot) : Ct l K yX6_isOf cX6_isOf 2 (some .boolean) 0 [.ref r, .ref sr] g (fun v g' => v = some (.int (b01 (decide (lr = sr) || decide (rr = sr)))) ∧ g = g') (fun _ _ => False) 0 0 := by
  match kd, hv with
  | 2, hv => exact c_X6_isOf_X7 l K g r nw nx w pd ch v lr rr rw sr (nI dp) (n 0) (n 1) (n 2) (b01 ot) hr hv
  | 3, hv => exact c_X6_isOf_X1 l K g r nw nx w pd ch v lr rr rw sr (nI dp) ck hr hv.1
  | 4, hv => exact c_X6_isOf_X4 l K g r nw nx w pd ch v lr rr rw sr (nI dp) (n 0) (n 1) hr hv
  | 5, hv => exact c_X6_isOf_X8 l K g r nw nx w pd ch v lr rr rw sr (nI dp)  hr hv
  | 6, hv => exact c_X6_isOf_X2 l K g r nw nx w pd ch v lr rr rw sr (nI dp)  hr hv
  | 7, hv => exact c_X6_isOf_X5 l K g r nw nx w pd ch v lr rr rw sr (nI dp)  hr hv
  | 8, hv => exact c_X6_isOf_X3 l K g r nw nx w pd ch v lr rr rw sr (nI dp) (n 0) (n 1) (n 2) hr hv
  | 0, hv => exact hv.elim
  | 1, hv => exact hv.elim
  | _ + 9, hv => exact hv.elim
