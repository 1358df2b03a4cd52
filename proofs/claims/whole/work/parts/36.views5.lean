set_option maxRecDepth 20000 in
set_option maxHeartbeats 600000 in
/-- isTogether(of, i, k) -/
theorem c_X3_isTogether (l : Launch) (K : Cst) (g : Wd) (v lr rr rw : Nat) (dp : Int32) (by9 : Option Nat) (st c : Nat) (hv : g v = some (ob 3 [.ref lr, .ref rr, .int dp, .ref rw, .int (chv by9), .int (nI st), .int (nI c)])) (lb lca loa : Nat) (L : Bg) (lf lt : Nat → Int32) (bg : isBag K g lb lca loa L.length lf lt) (hLr : rep lf lt L) (gL : good L) (hby : ∀ cb, by9 = some cb → cb < 4) (i k : Nat) (hi : i < L.length) (hk : k < L.length) : Ct l K yX3_isTogether cX3_isTogether 4 (some .boolean) 1 [.ref v, .ref lb, .int (nI i), .int (nI k)] g (fun v g' => v = some (.int (b01 (tog by9 (L[i]).1 (L[k]).1))) ∧ g = g') (fun _ _ => False) 0 0 := by
  refine ct_of (by decide) (Nat.le_of_ble_eq_true rfl) ?_
  intro X hl hK hX hE hn hL hR hm
  subst hl; subst hK
  show J X 0 0 g 0 [(0, .ref v), (1, .ref lb), (2, .int (nI i)), (3, .int (nI k))] []
  have hLn := gL.2.1
  rcases by9 with _ | cb
  · refine j_aload_n hX dX3_isTogether_0 0 rfl ?_
    refine j_get (v := .int (-1)) hX hv rfl wf_X3 4 (by decide) lk_X3_9 (fun _ h => h) rfl dX3_isTogether_1 ?_
    refine j_iconst (v := (-1)) hX dX3_isTogether_4 (by decide) ?_
    refine j_icmp_eq hX 29 dX3_isTogether_5 (by decide) (fun _ => ?_) (fun c_5 => absurd (show (-1 : Int32) = -1 from rfl) c_5)
    refine j_iconst (v := 1) hX dX3_isTogether_29 (by decide) ?_
    refine j_goto hX 34 dX3_isTogether_30 (by decide) ?_
    exact j_zret hX hE dX3_isTogether_34 (by first | rfl | decide | assumption) (⟨rfl, rfl⟩) (by decide) (by decide)
  · have hcb := hby cb rfl
    refine j_aload_n hX dX3_isTogether_0 0 rfl ?_
    refine j_get (v := .int (nI cb)) hX hv rfl wf_X3 4 (by decide) lk_X3_9 (fun _ h => h) rfl dX3_isTogether_1 ?_
    refine j_iconst (v := (-1)) hX dX3_isTogether_4 (by decide) ?_
    refine j_icmp_eq hX 29 dX3_isTogether_5 (by decide) (fun c_5 => absurd c_5 (nI_m1ne (c := cb) (by omega))) (fun _ => ?_)
    refine j_aload_n hX dX3_isTogether_8 1 rfl ?_
    refine j_iload_n hX dX3_isTogether_9 2 rfl ?_
    refine j_aload_n hX dX3_isTogether_10 0 rfl ?_
    refine j_get (v := .int (nI cb)) hX hv rfl wf_X3 4 (by decide) lk_X3_9 (fun _ h => h) rfl dX3_isTogether_11 ?_
    refine j_callV (As := [.int (nI i), .int (nI cb)]) (rest := []) hX (c_X0_cellAt (xl X) (xK X) g lb lca loa L.length lf lt bg i cb (by omega) (hcb)) bg.1 rfl lk_X3_44 wI_X0_cellAt wV_X0_X0_cellAt wN_X0 wC_X0_cellAt hd_X0_cellAt rfl (by rw [hL]; decide) (by decide) rfl (Nat.le_of_ble_eq_true rfl) dX3_isTogether_14 (by rw [hR]; decide) (by rw [hR]; decide) jx_no ?_
    rintro _ _ ⟨rfl, rfl⟩
    show J X 0 0 g 17 [(0, .ref v), (1, .ref lb), (2, .int (nI i)), (3, .int (nI k))] [.int (lf (4 * i + cb))]
    refine j_eqi (y := cellR (L[i]).1 cb) (rep_cell hLr hi (hcb)) ?_
    refine j_aload_n hX dX3_isTogether_17 1 rfl ?_
    refine j_iload_n hX dX3_isTogether_18 3 rfl ?_
    refine j_aload_n hX dX3_isTogether_19 0 rfl ?_
    refine j_get (v := .int (nI cb)) hX hv rfl wf_X3 4 (by decide) lk_X3_9 (fun _ h => h) rfl dX3_isTogether_20 ?_
    refine j_callV (As := [.int (nI k), .int (nI cb)]) (rest := [.int (cellR (L[i]).1 cb)]) hX (c_X0_cellAt (xl X) (xK X) g lb lca loa L.length lf lt bg k cb (by omega) (hcb)) bg.1 rfl lk_X3_44 wI_X0_cellAt wV_X0_X0_cellAt wN_X0 wC_X0_cellAt hd_X0_cellAt rfl (by rw [hL]; decide) (by decide) rfl (Nat.le_of_ble_eq_true rfl) dX3_isTogether_23 (by rw [hR]; decide) (by rw [hR]; decide) jx_no ?_
    rintro _ _ ⟨rfl, rfl⟩
    show J X 0 0 g 26 [(0, .ref v), (1, .ref lb), (2, .int (nI i)), (3, .int (nI k))] [.int (lf (4 * k + cb)), .int (cellR (L[i]).1 cb)]
    refine j_eqi (y := cellR (L[k]).1 cb) (rep_cell hLr hk (hcb)) ?_
    refine j_icmp_ne hX 33 dX3_isTogether_26 (by decide) (fun c_26 => ?_) (fun c_26 => ?_)
    · refine j_iconst (v := 0) hX dX3_isTogether_33 (by decide) ?_
      exact j_zret hX hE dX3_isTogether_34 (by first | rfl | decide | assumption) (⟨congrArg (fun z => some (Value.int z)) (b01_0 (decide_eq_false c_26)), rfl⟩) (by decide) (by decide)
    · refine j_iconst (v := 1) hX dX3_isTogether_29 (by decide) ?_
      refine j_goto hX 34 dX3_isTogether_30 (by decide) ?_
      exact j_zret hX hE dX3_isTogether_34 (by first | rfl | decide | assumption) (⟨congrArg (fun z => some (Value.int z)) (b01_1 (decide_eq_true c_26)), rfl⟩) (by decide) (by decide)

set_option maxRecDepth 20000 in
set_option maxHeartbeats 600000 in
/-- isFirst(of, k) -/
theorem c_X3_isFirst (l : Launch) (K : Cst) (g : Wd) (v lr rr rw : Nat) (dp : Int32) (by9 : Option Nat) (st c : Nat) (hv : g v = some (ob 3 [.ref lr, .ref rr, .int dp, .ref rw, .int (chv by9), .int (nI st), .int (nI c)])) (lb lca loa : Nat) (L : Bg) (lf lt : Nat → Int32) (bg : isBag K g lb lca loa L.length lf lt) (hLr : rep lf lt L) (gL : good L) (hby : ∀ cb, by9 = some cb → cb < 4) (k : Nat) (hk : k < L.length) : Ct l K yX3_isFirst cX3_isFirst 4 (some .boolean) 2 [.ref v, .ref lb, .int (nI k)] g (fun v g' => v = some (.int (b01 (firstG by9 L k))) ∧ g = g') (fun _ _ => False) 0 0 := by
  refine ct_of (by decide) (Nat.le_of_ble_eq_true rfl) ?_
  intro X hl hK hX hE hn hL hR hm
  subst hl; subst hK
  show J X 0 0 g 0 [(0, .ref v), (1, .ref lb), (2, .int (nI k))] []
  have hLn := gL.2.1
  have loop : ∀ (m i : Nat), i + m = k → fstG by9 L k m i = firstG by9 L k → J X 0 0 g 2 [(3, .int (nI i)), (0, .ref v), (1, .ref lb), (2, .int (nI k))] [] := by
    intro m
    induction m with
    | zero =>
      intro i hi hr9
      refine j_iload_n hX dX3_isFirst_2 0 rfl ?_
      refine j_iload_n hX dX3_isFirst_3 3 rfl ?_
      refine j_icmp_ge hX 25 dX3_isFirst_4 (by decide) (fun _ => ?_) (fun c_4 => absurd (nI_le (a := k) (b := i) (by omega) (by omega)) c_4)
      refine j_iconst (v := 1) hX dX3_isFirst_25 (by decide) ?_
      exact j_zret hX hE dX3_isFirst_26 (by first | rfl | decide | assumption) (⟨by rw [← hr9]; rfl, rfl⟩) (by decide) (by decide)
    | succ m ih =>
      intro i hi hr9
      have hi9 : i < L.length := by omega
      refine j_iload_n hX dX3_isFirst_2 0 rfl ?_
      refine j_iload_n hX dX3_isFirst_3 3 rfl ?_
      refine j_icmp_ge hX 25 dX3_isFirst_4 (by decide) (fun c_4 => absurd c_4 (nI_ge (a := i) (b := k) (by omega) (by omega))) (fun _ => ?_)
      refine j_aload_n hX dX3_isFirst_7 1 rfl ?_
      refine j_aload_n hX dX3_isFirst_8 2 rfl ?_
      refine j_iload_n hX dX3_isFirst_9 0 rfl ?_
      refine j_iload_n hX dX3_isFirst_10 3 rfl ?_
      refine j_callV (As := [.ref lb, .int (nI i), .int (nI k)]) (rest := []) hX (c_X3_isTogether (xl X) (xK X) g v lr rr rw dp by9 st c hv lb lca loa L lf lt bg hLr gL hby i k hi9 hk) hv rfl lk_X3_56 wI_X3_isTogether wV_X3_X3_isTogether wN_X3 wC_X3_isTogether hd_X3_isTogether rfl (by rw [hL]; decide) (by decide) rfl (Nat.le_of_ble_eq_true rfl) dX3_isFirst_11 (by rw [hR]; decide) (by rw [hR]; decide) jx_no ?_
      rintro _ _ ⟨rfl, rfl⟩
      show J X 0 0 g 14 [(3, .int (nI i)), (0, .ref v), (1, .ref lb), (2, .int (nI k))] [.int (b01 (tog by9 (L[i]).1 (L[k]).1))]
      refine j_if_eq hX 19 dX3_isFirst_14 (by decide) (fun c_14 => ?_) (fun c_14 => ?_)
      · refine j_iinc (v := nI (i + 1)) (lv' := [(3, .int (nI (i + 1))), (0, .ref v), (1, .ref lb), (2, .int (nI k))]) hX dX3_isFirst_19 0 rfl (nI_1 i) (by rw [hn]; decide) rfl ?_
        refine j_goto hX 2 dX3_isFirst_22 (by decide) ?_
        refine j_sub [0, 1, 2, 3] rfl ?_
        exact ih (i + 1) (by omega) (by rw [← hr9, fstG, if_neg (by rw [rowG_at hi9, rowG_at hk]; exact b01_f c_14)])
      · refine j_iconst (v := 0) hX dX3_isFirst_17 (by decide) ?_
        exact j_zret hX hE dX3_isFirst_18 (by first | rfl | decide | assumption) (⟨by rw [← hr9, fstG, if_pos (by rw [rowG_at hi9, rowG_at hk]; exact b01_t c_14)]; rfl, rfl⟩) (by decide) (by decide)
  refine j_iconst (v := nI 0) hX dX3_isFirst_0 (by decide) ?_
  refine j_istore_n (lv' := [(3, .int (nI 0)), (0, .ref v), (1, .ref lb), (2, .int (nI k))]) hX dX3_isFirst_1 (by rw [hn]; decide) rfl ?_
  exact loop k 0 (by omega) rfl

set_option maxRecDepth 20000 in
set_option maxHeartbeats 600000 in
/-- withRow(value, cell, often) -/
theorem c_X3_withRow (l : Launch) (K : Cst) (g : Wd) (v lr rr rw : Nat) (dp : Int32) (by9 : Option Nat) (st c : Nat) (hv : g v = some (ob 3 [.ref lr, .ref rr, .int dp, .ref rw, .int (chv by9), .int (nI st), .int (nI c)])) (hst : st ≤ 3) (va cl oft : Int32) : Ct l K yX3_withRow cX3_withRow 4 (some .int) 1 [.ref v, .int va, .int cl, .int oft] g (fun v g' => v = some (.int (withR st va cl oft)) ∧ g = g') (fun _ _ => False) 0 0 := by
  refine ct_of (by decide) (Nat.le_of_ble_eq_true rfl) ?_
  intro X hl hK hX hE hn hL hR hm
  subst hl; subst hK
  show J X 0 0 g 0 [(0, .ref v), (1, .int va), (2, .int cl), (3, .int oft)] []
  rcases (show st = 0 ∨ st = 1 ∨ st = 2 ∨ st = 3 by omega) with rfl | rfl | rfl | rfl
  · refine j_aload_n hX dX3_withRow_0 0 rfl ?_
    refine j_get (v := .int (nI 0)) hX hv rfl wf_X3 5 (by decide) lk_X3_15 (fun _ h => h) rfl dX3_withRow_1 ?_
    refine j_tabIn (off := 28) hX 32 dX3_withRow_4 (by decide) (by decide) (by decide) (by decide) ?_
    refine j_iload_n hX dX3_withRow_32 1 rfl ?_
    refine j_iload_n hX dX3_withRow_33 3 rfl ?_
    refine j_iadd hX dX3_withRow_34 ?_
    exact j_iret hX hE dX3_withRow_35 (⟨rfl, rfl⟩) (by decide) (by decide)
  · refine j_aload_n hX dX3_withRow_0 0 rfl ?_
    refine j_get (v := .int (nI 1)) hX hv rfl wf_X3 5 (by decide) lk_X3_15 (fun _ h => h) rfl dX3_withRow_1 ?_
    refine j_tabIn (off := 32) hX 36 dX3_withRow_4 (by decide) (by decide) (by decide) (by decide) ?_
    refine j_iload_n hX dX3_withRow_36 1 rfl ?_
    refine j_iload_n hX dX3_withRow_37 2 rfl ?_
    refine j_iload_n hX dX3_withRow_38 3 rfl ?_
    refine j_imul hX dX3_withRow_39 ?_
    refine j_iadd hX dX3_withRow_40 ?_
    exact j_iret hX hE dX3_withRow_41 (⟨rfl, rfl⟩) (by decide) (by decide)
  · refine j_aload_n hX dX3_withRow_0 0 rfl ?_
    refine j_get (v := .int (nI 2)) hX hv rfl wf_X3 5 (by decide) lk_X3_15 (fun _ h => h) rfl dX3_withRow_1 ?_
    refine j_tabIn (off := 38) hX 42 dX3_withRow_4 (by decide) (by decide) (by decide) (by decide) ?_
    refine j_iload_n hX dX3_withRow_42 1 rfl ?_
    refine j_iload_n hX dX3_withRow_43 2 rfl ?_
    refine j_min hX lk_X3_67 (by rw [hL]; decide) (by decide) (by rw [hR]; decide) (by rw [hR]; decide) dX3_withRow_44 ?_
    exact j_iret hX hE dX3_withRow_47 ⟨rfl, rfl⟩ (by decide) (by decide)
  · refine j_aload_n hX dX3_withRow_0 0 rfl ?_
    refine j_get (v := .int (nI 3)) hX hv rfl wf_X3 5 (by decide) lk_X3_15 (fun _ h => h) rfl dX3_withRow_1 ?_
    refine j_tabOut hX 48 dX3_withRow_4 (by decide) (by decide) ?_
    refine j_iload_n hX dX3_withRow_48 1 rfl ?_
    refine j_iload_n hX dX3_withRow_49 2 rfl ?_
    refine j_max hX lk_X3_72 (by rw [hL]; decide) (by decide) (by rw [hR]; decide) (by rw [hR]; decide) dX3_withRow_50 ?_
    exact j_iret hX hE dX3_withRow_53 ⟨rfl, rfl⟩ (by decide) (by decide)

set_option maxRecDepth 20000 in
set_option maxHeartbeats 600000 in
/-- valueFrom(of, first) -/
theorem c_X3_valueFrom (l : Launch) (K : Cst) (g : Wd) (v lr rr rw : Nat) (dp : Int32) (by9 : Option Nat) (st c : Nat) (hv : g v = some (ob 3 [.ref lr, .ref rr, .int dp, .ref rw, .int (chv by9), .int (nI st), .int (nI c)])) (lb lca loa : Nat) (L : Bg) (lf lt : Nat → Int32) (bg : isBag K g lb lca loa L.length lf lt) (hLr : rep lf lt L) (gL : good L) (hby : ∀ cb, by9 = some cb → cb < 4) (hst : st ≤ 3) (hc4 : c < 4) (f : Nat) (hf : f < L.length) : Ct l K yX3_valueFrom cX3_valueFrom 5 (some .int) 2 [.ref v, .ref lb, .int (nI f)] g (fun v g' => v = some (.int (valueG by9 st c L f)) ∧ g = g') (fun _ _ => False) 0 0 := by
  refine ct_of (by decide) (Nat.le_of_ble_eq_true rfl) ?_
  intro X hl hK hX hE hn hL hR hm
  subst hl; subst hK
  show J X 0 0 g 0 [(0, .ref v), (1, .ref lb), (2, .int (nI f))] []
  have hLn := gL.2.1
  have loop : ∀ (m k : Nat) (va : Int32), k + m = L.length → f ≤ k → valG by9 st c L f m k va = valueG by9 st c L f → J X 0 0 g 32 [(4, .int (nI k)), (3, .int va), (0, .ref v), (1, .ref lb), (2, .int (nI f))] [] := by
    intro m
    induction m with
    | zero =>
      intro k va hk hfk hr9
      refine j_iload hX dX3_valueFrom_32 0 rfl ?_
      refine j_aload_n hX dX3_valueFrom_34 3 rfl ?_
      refine j_getN (v := .int (nI L.length)) hX bg.1 rfl wf_X0 2 (by decide) nk_X3_31 (fun _ h => h) rfl dX3_valueFrom_35 ?_
      refine j_icmp_ge hX 81 dX3_valueFrom_38 (by decide) (fun _ => ?_) (fun c_38 => absurd (nI_le (a := L.length) (b := k) (by omega) (by omega)) c_38)
      refine j_iload_n hX dX3_valueFrom_81 1 rfl ?_
      exact j_iret hX hE dX3_valueFrom_82 (⟨by rw [← hr9]; rfl, rfl⟩) (by decide) (by decide)
    | succ m ih =>
      intro k va hk hfk hr9
      have hk9 : k < L.length := by omega
      refine j_iload hX dX3_valueFrom_32 0 rfl ?_
      refine j_aload_n hX dX3_valueFrom_34 3 rfl ?_
      refine j_getN (v := .int (nI L.length)) hX bg.1 rfl wf_X0 2 (by decide) nk_X3_31 (fun _ h => h) rfl dX3_valueFrom_35 ?_
      refine j_icmp_ge hX 81 dX3_valueFrom_38 (by decide) (fun c_38 => absurd c_38 (nI_ge (a := k) (b := L.length) (by omega) (by omega))) (fun _ => ?_)
      refine j_aload_n hX dX3_valueFrom_41 2 rfl ?_
      refine j_aload_n hX dX3_valueFrom_42 3 rfl ?_
      refine j_iload_n hX dX3_valueFrom_43 4 rfl ?_
      refine j_iload hX dX3_valueFrom_44 0 rfl ?_
      refine j_callV (As := [.ref lb, .int (nI f), .int (nI k)]) (rest := []) hX (c_X3_isTogether (xl X) (xK X) g v lr rr rw dp by9 st c hv lb lca loa L lf lt bg hLr gL hby f k hf hk9) hv rfl lk_X3_56 wI_X3_isTogether wV_X3_X3_isTogether wN_X3 wC_X3_isTogether hd_X3_isTogether rfl (by rw [hL]; decide) (by decide) rfl (Nat.le_of_ble_eq_true rfl) dX3_valueFrom_46 (by rw [hR]; decide) (by rw [hR]; decide) jx_no ?_
      rintro _ _ ⟨rfl, rfl⟩
      show J X 0 0 g 49 [(4, .int (nI k)), (3, .int va), (0, .ref v), (1, .ref lb), (2, .int (nI f))] [.int (b01 (tog by9 (L[f]).1 (L[k]).1))]
      refine j_if_eq hX 75 dX3_valueFrom_49 (by decide) (fun c_49 => ?_) (fun c_49 => ?_)
      · refine j_iinc (v := nI (k + 1)) (lv' := [(4, .int (nI (k + 1))), (3, .int va), (0, .ref v), (1, .ref lb), (2, .int (nI f))]) hX dX3_valueFrom_75 0 rfl (nI_1 k) (by rw [hn]; decide) rfl ?_
        refine j_goto hX 32 dX3_valueFrom_78 (by decide) ?_
        refine j_sub [0, 1, 2, 3, 4] rfl ?_
        exact ih (k + 1) va (by omega) (by omega) (by rw [← hr9, valG, if_neg (by rw [rowG_at hf, rowG_at hk9]; exact b01_f c_49)])
      · refine j_aload_n hX dX3_valueFrom_52 2 rfl ?_
        refine j_iload_n hX dX3_valueFrom_53 1 rfl ?_
        refine j_aload_n hX dX3_valueFrom_54 3 rfl ?_
        refine j_iload hX dX3_valueFrom_55 0 rfl ?_
        refine j_aload_n hX dX3_valueFrom_57 2 rfl ?_
        refine j_get (v := .int (nI c)) hX hv rfl wf_X3 6 (by decide) lk_X3_18 (fun _ h => h) rfl dX3_valueFrom_58 ?_
        refine j_callV (As := [.int (nI k), .int (nI c)]) (rest := [.int va, .ref v]) hX (c_X0_cellAt (xl X) (xK X) g lb lca loa L.length lf lt bg k c (by omega) (hc4)) bg.1 rfl lk_X3_44 wI_X0_cellAt wV_X0_X0_cellAt wN_X0 wC_X0_cellAt hd_X0_cellAt rfl (by rw [hL]; decide) (by decide) rfl (Nat.le_of_ble_eq_true rfl) dX3_valueFrom_61 (by rw [hR]; decide) (by rw [hR]; decide) jx_no ?_
        rintro _ _ ⟨rfl, rfl⟩
        show J X 0 0 g 64 [(4, .int (nI k)), (3, .int va), (0, .ref v), (1, .ref lb), (2, .int (nI f))] [.int (lf (4 * k + c)), .int va, .ref v]
        refine j_eqi (y := cellR (L[k]).1 c) (rep_cell hLr hk9 (hc4)) ?_
        refine j_aload_n hX dX3_valueFrom_64 3 rfl ?_
        refine j_getN (v := .ref loa) hX bg.1 rfl wf_X0 1 (by decide) nk_X3_60 (fun _ h => h) rfl dX3_valueFrom_65 ?_
        refine j_iload hX dX3_valueFrom_68 0 rfl ?_
        refine j_ialdN hX bg.2.2 (k) (rfl) (by omega) (by decide) dX3_valueFrom_70 ?_
        refine j_eqi (y := nI (L[k]).2) ((hLr k _ (List.getElem?_eq_getElem hk9)).2) ?_
        refine j_callV (As := [.int va, .int (cellR (L[k]).1 c), .int (nI (L[k]).2)]) (rest := []) hX (c_X3_withRow (xl X) (xK X) g v lr rr rw dp by9 st c hv hst _ _ _) hv rfl lk_X3_63 wI_X3_withRow wV_X3_X3_withRow wN_X3 wC_X3_withRow hd_X3_withRow rfl (by rw [hL]; decide) (by decide) rfl (Nat.le_of_ble_eq_true rfl) dX3_valueFrom_71 (by rw [hR]; decide) (by rw [hR]; decide) jx_no ?_
        rintro _ _ ⟨rfl, rfl⟩
        show J X 0 0 g 74 [(4, .int (nI k)), (3, .int va), (0, .ref v), (1, .ref lb), (2, .int (nI f))] [.int (withR st va (cellR (L[k]).1 c) (nI (L[k]).2))]
        refine j_istore_n (lv' := [(3, .int (withR st va (cellR (L[k]).1 c) (nI (L[k]).2))), (4, .int (nI k)), (0, .ref v), (1, .ref lb), (2, .int (nI f))]) hX dX3_valueFrom_74 (by rw [hn]; decide) rfl ?_
        refine j_iinc (v := nI (k + 1)) (lv' := [(4, .int (nI (k + 1))), (3, .int (withR st va (cellR (L[k]).1 c) (nI (L[k]).2))), (0, .ref v), (1, .ref lb), (2, .int (nI f))]) hX dX3_valueFrom_75 1 rfl (nI_1 k) (by rw [hn]; decide) rfl ?_
        refine j_goto hX 32 dX3_valueFrom_78 (by decide) ?_
        refine j_sub [0, 1, 2, 3, 4] rfl ?_
        exact ih (k + 1) _ (by omega) (by omega) (by rw [← hr9, valG, if_pos (by rw [rowG_at hf, rowG_at hk9]; exact b01_t c_49), rowG_at hk9, tmG_at hk9])
  rcases (show st = 0 ∨ st = 1 ∨ (st = 2 ∨ st = 3) by omega) with h9 | h9 | h9
  · refine j_aload_n hX dX3_valueFrom_0 0 rfl ?_
    refine j_get (v := .int (nI st)) hX hv rfl wf_X3 5 (by decide) lk_X3_15 (fun _ h => h) rfl dX3_valueFrom_1 ?_
    refine j_if_eq hX 15 dX3_valueFrom_4 (by decide) (fun _ => ?_) (fun c_4 => absurd (by rw [h9]; decide) c_4)
    refine j_iconst (v := 0) hX dX3_valueFrom_15 (by decide) ?_
    refine j_goto hX 28 dX3_valueFrom_16 (by decide) ?_
    refine j_istore_n (lv' := [(3, .int 0), (0, .ref v), (1, .ref lb), (2, .int (nI f))]) hX dX3_valueFrom_28 (by rw [hn]; decide) rfl ?_
    refine j_iload_n hX dX3_valueFrom_29 3 rfl ?_
    refine j_istore (lv' := [(4, .int (nI f)), (3, .int 0), (0, .ref v), (1, .ref lb), (2, .int (nI f))]) hX dX3_valueFrom_30 (by rw [hn]; decide) rfl ?_
    refine j_sub [0, 1, 2, 3, 4] rfl ?_
    exact loop (L.length - f) f _ (by omega) (Nat.le_refl _) (by rw [valueG, initG, if_pos (by omega)])
  · refine j_aload_n hX dX3_valueFrom_0 0 rfl ?_
    refine j_get (v := .int (nI st)) hX hv rfl wf_X3 5 (by decide) lk_X3_15 (fun _ h => h) rfl dX3_valueFrom_1 ?_
    refine j_if_eq hX 15 dX3_valueFrom_4 (by decide) (fun c_4 => absurd c_4 (by rw [h9]; decide)) (fun _ => ?_)
    refine j_aload_n hX dX3_valueFrom_7 0 rfl ?_
    refine j_get (v := .int (nI st)) hX hv rfl wf_X3 5 (by decide) lk_X3_15 (fun _ h => h) rfl dX3_valueFrom_8 ?_
    refine j_iconst (v := 1) hX dX3_valueFrom_11 (by decide) ?_
    refine j_icmp_ne hX 19 dX3_valueFrom_12 (by decide) (fun c_12 => absurd c_12 (by rw [h9]; decide)) (fun _ => ?_)
    refine j_iconst (v := 0) hX dX3_valueFrom_15 (by decide) ?_
    refine j_goto hX 28 dX3_valueFrom_16 (by decide) ?_
    refine j_istore_n (lv' := [(3, .int 0), (0, .ref v), (1, .ref lb), (2, .int (nI f))]) hX dX3_valueFrom_28 (by rw [hn]; decide) rfl ?_
    refine j_iload_n hX dX3_valueFrom_29 3 rfl ?_
    refine j_istore (lv' := [(4, .int (nI f)), (3, .int 0), (0, .ref v), (1, .ref lb), (2, .int (nI f))]) hX dX3_valueFrom_30 (by rw [hn]; decide) rfl ?_
    refine j_sub [0, 1, 2, 3, 4] rfl ?_
    exact loop (L.length - f) f _ (by omega) (Nat.le_refl _) (by rw [valueG, initG, if_pos (by omega)])
  · refine j_aload_n hX dX3_valueFrom_0 0 rfl ?_
    refine j_get (v := .int (nI st)) hX hv rfl wf_X3 5 (by decide) lk_X3_15 (fun _ h => h) rfl dX3_valueFrom_1 ?_
    refine j_if_eq hX 15 dX3_valueFrom_4 (by decide) (fun c_4 => absurd c_4 (by rcases h9 with h9 | h9 <;> rw [h9] <;> decide)) (fun _ => ?_)
    refine j_aload_n hX dX3_valueFrom_7 0 rfl ?_
    refine j_get (v := .int (nI st)) hX hv rfl wf_X3 5 (by decide) lk_X3_15 (fun _ h => h) rfl dX3_valueFrom_8 ?_
    refine j_iconst (v := 1) hX dX3_valueFrom_11 (by decide) ?_
    refine j_icmp_ne hX 19 dX3_valueFrom_12 (by decide) (fun _ => ?_) (fun c_12 => absurd c_12 (by rcases h9 with h9 | h9 <;> rw [h9] <;> decide))
    refine j_aload_n hX dX3_valueFrom_19 1 rfl ?_
    refine j_iload_n hX dX3_valueFrom_20 2 rfl ?_
    refine j_aload_n hX dX3_valueFrom_21 0 rfl ?_
    refine j_get (v := .int (nI c)) hX hv rfl wf_X3 6 (by decide) lk_X3_18 (fun _ h => h) rfl dX3_valueFrom_22 ?_
    refine j_callV (As := [.int (nI f), .int (nI c)]) (rest := []) hX (c_X0_cellAt (xl X) (xK X) g lb lca loa L.length lf lt bg f c (by omega) (hc4)) bg.1 rfl lk_X3_44 wI_X0_cellAt wV_X0_X0_cellAt wN_X0 wC_X0_cellAt hd_X0_cellAt rfl (by rw [hL]; decide) (by decide) rfl (Nat.le_of_ble_eq_true rfl) dX3_valueFrom_25 (by rw [hR]; decide) (by rw [hR]; decide) jx_no ?_
    rintro _ _ ⟨rfl, rfl⟩
    show J X 0 0 g 28 [(0, .ref v), (1, .ref lb), (2, .int (nI f))] [.int (lf (4 * f + c))]
    refine j_eqi (y := cellR (L[f]).1 c) (rep_cell hLr hf (hc4)) ?_
    refine j_istore_n (lv' := [(3, .int (cellR (L[f]).1 c)), (0, .ref v), (1, .ref lb), (2, .int (nI f))]) hX dX3_valueFrom_28 (by rw [hn]; decide) rfl ?_
    refine j_iload_n hX dX3_valueFrom_29 3 rfl ?_
    refine j_istore (lv' := [(4, .int (nI f)), (3, .int (cellR (L[f]).1 c)), (0, .ref v), (1, .ref lb), (2, .int (nI f))]) hX dX3_valueFrom_30 (by rw [hn]; decide) rfl ?_
    refine j_sub [0, 1, 2, 3, 4] rfl ?_
    exact loop (L.length - f) f _ (by omega) (Nat.le_refl _) (by rw [valueG, initG, if_neg (by omega), rowG_at hf])

set_option maxRecDepth 20000 in
set_option maxHeartbeats 600000 in
/-- group: makeInto -/
theorem c_X3_makeInto (l : Launch) (K : Cst) (g : Wd) (b ca oa rw : Nat) (rf0 : Nat → Int32) (hI : bagR K g b ca oa []) (hrw : g rw = some (aI K 4 rf0)) (v rr : Nat) (dp : Int32) (by9 : Option Nat) (st c : Nat) (hby : ∀ cb, by9 = some cb → cb < 4) (hst : st ≤ 3) (hc4 : c < 4) (hri : rowI by9 rf0) (lr nw nx p : Nat) (vw : Value) (cc ch : Int32) (hlr : g lr = some (ob 6 [.ref nw, .ref nx, vw, .int cc, .int (nI p), .int ch])) (hp : p < 2 ^ 31) (lb lca loa : Nat) (L : Bg) (hlb : (if 0 < p then nx else nw) = lb) (hL : bagR K g lb lca loa L) (gL : good L) (nb : lb ≠ b) (nca : lca ≠ ca) (noa : loa ≠ oa) (hv : g v = some (ob 3 [.ref lr, .ref rr, .int dp, .ref rw, .int (chv by9), .int (nI st), .int (nI c)])) : Ct l K yX3_makeInto cX3_makeInto 5 (some .boolean) 4 [.ref v, .ref b] g (mkP K g b ca oa rw (rowI by9) (fldB (grF by9 st c L) (List.range L.length) [])) (fun _ _ => False) 0 0 := by
  refine ct_of (by decide) (Nat.le_of_ble_eq_true rfl) ?_
  intro X hl hK hX hE hn hL hR hm
  subst hl; subst hK
  show J X 0 0 g 0 [(0, .ref v), (1, .ref b)] []
  obtain ⟨if0, it0, hI0, hIr⟩ := id hI
  obtain ⟨lf, lt, hbg, hLr⟩ := hL
  have hLn : L.length ≤ 20 := gL.2.1
  have n_v_b : v ≠ b := ne_ob (hv) (hI0.1) (by simp)
  have n_v_ca : v ≠ ca := ne_ob (hv) (hI0.2.1) (by simp)
  have n_v_oa : v ≠ oa := ne_ob (hv) (hI0.2.2) (by simp)
  have n_v_rw : v ≠ rw := ne_ob (hv) (hrw) (by simp)
  have n_lr_b : lr ≠ b := ne_ob (hlr) (hI0.1) (by simp)
  have n_lr_ca : lr ≠ ca := ne_ob (hlr) (hI0.2.1) (by simp)
  have n_lr_oa : lr ≠ oa := ne_ob (hlr) (hI0.2.2) (by simp)
  have n_lr_rw : lr ≠ rw := ne_ob (hlr) (hrw) (by simp)
  have n_lb_b : lb ≠ b := nb
  have n_lb_ca : lb ≠ ca := ne_ob (hbg.1) (hI0.2.1) (by simp)
  have n_lb_oa : lb ≠ oa := ne_ob (hbg.1) (hI0.2.2) (by simp)
  have n_lb_rw : lb ≠ rw := ne_ob (hbg.1) (hrw) (by simp)
  have n_lca_b : lca ≠ b := ne_ob (hbg.2.1) (hI0.1) (by simp)
  have n_lca_ca : lca ≠ ca := nca
  have n_lca_oa : lca ≠ oa := ne_ob (hbg.2.1) (hI0.2.2) (by simp)
  have n_lca_rw : lca ≠ rw := ne_ob (hbg.2.1) (hrw) (by simp)
  have n_loa_b : loa ≠ b := ne_ob (hbg.2.2) (hI0.1) (by simp)
  have n_loa_ca : loa ≠ ca := ne_ob (hbg.2.2) (hI0.2.1) (by simp)
  have n_loa_oa : loa ≠ oa := noa
  have n_loa_rw : loa ≠ rw := ne_ob (hbg.2.2) (hrw) (by simp)
  have n_b_rw : b ≠ rw := ne_ob (hI0.1) hrw (by simp)
  have n_ca_rw : ca ≠ rw := ne_ob (hI0.2.1) hrw (by simp)
  have n_oa_rw : oa ≠ rw := ne_ob (hI0.2.2) hrw (by simp)
  have loop : ∀ (m k : Nat) (g1 : Wd) (acc : Bg), k + m = L.length → Fr g g1 [b, ca, oa, rw] → bagR (xK X) g1 b ca oa acc → good acc → (∃ rf, g1 rw = some (aI (xK X) 4 rf) ∧ (rowI by9) rf) → fldB (grF by9 st c L) ((List.range L.length).drop k) acc = fldB (grF by9 st c L) (List.range L.length) [] → J X 0 0 g1 13 [(4, .int (nI k)), (3, .int 1), (2, .ref lb), (0, .ref v), (1, .ref b)] [] := by
    intro m
    induction m with
    | zero =>
      intro k g1 acc hk hF hI1 hGa hrwE hRs
      obtain ⟨rf1, rw1, hIr1⟩ := hrwE
      have v1 := Fr.at hF hv (nm4 n_v_b n_v_ca n_v_oa n_v_rw)
      have lr1 := Fr.at hF hlr (nm4 n_lr_b n_lr_ca n_lr_oa n_lr_rw)
      have bg1 := isBag.at hbg hF (nm4 n_lb_b n_lb_ca n_lb_oa n_lb_rw) (nm4 n_lca_b n_lca_ca n_lca_oa n_lca_rw) (nm4 n_loa_b n_loa_ca n_loa_oa n_loa_rw)
      refine j_iload hX dX3_makeInto_13 0 rfl ?_
      refine j_aload_n hX dX3_makeInto_15 2 rfl ?_
      refine j_getN (v := .int (nI L.length)) hX bg1.1 rfl wf_X0 2 (by decide) nk_X3_31 (fun _ h => h) rfl dX3_makeInto_16 ?_
      refine j_icmp_ge hX 105 dX3_makeInto_19 (by decide) (fun _ => ?_) (fun c_19 => absurd (nI_le (a := L.length) (b := k) (by omega) (by omega)) c_19)
      refine j_iload_n hX dX3_makeInto_105 1 rfl ?_
      exact j_zret hX hE dX3_makeInto_106 (by first | rfl | decide | assumption) (⟨hF, ⟨rf1, rw1, hIr1⟩, by rw [← hRs, gr_end (by omega)]; exact ⟨rfl, hI1, hGa⟩⟩) (by decide) (by decide)
    | succ m ih =>
      intro k g1 acc hk hF hI1 hGa hrwE hRs
      obtain ⟨rf1, rw1, hIr1⟩ := hrwE
      have hk9 : k < L.length := by omega
      obtain ⟨if1, it1, iB1, iRp1⟩ := id hI1
      have v1 := Fr.at hF hv (nm4 n_v_b n_v_ca n_v_oa n_v_rw)
      have lr1 := Fr.at hF hlr (nm4 n_lr_b n_lr_ca n_lr_oa n_lr_rw)
      have bg1 := isBag.at hbg hF (nm4 n_lb_b n_lb_ca n_lb_oa n_lb_rw) (nm4 n_lca_b n_lca_ca n_lca_oa n_lca_rw) (nm4 n_loa_b n_loa_ca n_loa_oa n_loa_rw)
      rcases by9 with _ | cb
      · refine j_iload hX dX3_makeInto_13 0 rfl ?_
        refine j_aload_n hX dX3_makeInto_15 2 rfl ?_
        refine j_getN (v := .int (nI L.length)) hX bg1.1 rfl wf_X0 2 (by decide) nk_X3_31 (fun _ h => h) rfl dX3_makeInto_16 ?_
        refine j_icmp_ge hX 105 dX3_makeInto_19 (by decide) (fun c_19 => absurd c_19 (nI_ge (a := k) (b := L.length) (by omega) (by omega))) (fun _ => ?_)
        refine j_iload_n hX dX3_makeInto_22 1 rfl ?_
        refine j_if_eq hX 105 dX3_makeInto_23 (by decide) (fun c_23 => absurd c_23 (show ¬ (1 : Int32) = 0 by decide)) (fun _ => ?_)
        refine j_aload_n hX dX3_makeInto_26 3 rfl ?_
        refine j_aload_n hX dX3_makeInto_27 2 rfl ?_
        refine j_iload hX dX3_makeInto_28 0 rfl ?_
        refine j_callV (As := [.ref lb, .int (nI k)]) (rest := []) hX (c_X3_isFirst (xl X) (xK X) g1 v lr rr rw dp none st c v1 lb lca loa L lf lt bg1 hLr gL hby k hk9) v1 rfl lk_X3_36 wI_X3_isFirst wV_X3_X3_isFirst wN_X3 wC_X3_isFirst hd_X3_isFirst rfl (by rw [hL]; decide) (by decide) rfl (Nat.le_of_ble_eq_true rfl) dX3_makeInto_30 (by rw [hR]; decide) (by rw [hR]; decide) jx_no ?_
        rintro _ _ ⟨rfl, rfl⟩
        show J X 0 0 g1 33 [(4, .int (nI k)), (3, .int 1), (2, .ref lb), (0, .ref v), (1, .ref b)] [.int (b01 (firstG none L k))]
        refine j_if_eq hX 99 dX3_makeInto_33 (by decide) (fun c_33 => ?_) (fun c_33 => ?_)
        · refine j_iinc (v := nI (k + 1)) (lv' := [(4, .int (nI (k + 1))), (3, .int 1), (2, .ref lb), (0, .ref v), (1, .ref b)]) hX dX3_makeInto_99 0 rfl (nI_1 k) (by rw [hn]; decide) rfl ?_
          refine j_goto hX 13 dX3_makeInto_102 (by decide) ?_
          refine j_sub [0, 1, 2, 3, 4] rfl ?_
          exact ih (k + 1) g1 acc (by omega) hF hI1 hGa ⟨rf1, rw1, hIr1⟩ (by rw [← hRs, gr_skip hk9 (b01_f c_33)])
        · refine j_aload_n hX dX3_makeInto_36 3 rfl ?_
          refine j_get (v := .ref rw) hX v1 rfl wf_X3 3 (by decide) lk_X3_40 (fun z h => u_same (hX.ts _ wz_14) z h) rfl dX3_makeInto_37 ?_
          refine j_iconst (v := nI 0) hX dX3_makeInto_40 (by decide) ?_
          refine j_aload_n hX dX3_makeInto_41 3 rfl ?_
          refine j_get (v := .int (-1)) hX v1 rfl wf_X3 4 (by decide) lk_X3_9 (fun _ h => h) rfl dX3_makeInto_42 ?_
          refine j_iconst (v := (-1)) hX dX3_makeInto_45 (by decide) ?_
          refine j_icmp_ne hX 53 dX3_makeInto_46 (by decide) (fun c_46 => absurd c_46 (show ¬ ¬ (-1 : Int32) = -1 from fun q => q rfl)) (fun _ => ?_)
          refine j_iconst (v := 0) hX dX3_makeInto_49 (by decide) ?_
          refine j_goto hX 63 dX3_makeInto_50 (by decide) ?_
          refine j_iastN hX rw1 (0) (rfl) (by omega) (by decide) dX3_makeInto_63 ?_
          obtain ⟨g3, eg3⟩ : ∃ z : Wd, z = up g1 rw (aI (xK X) 4 (upd rf1 (0) 0)) := ⟨_, rfl⟩
          refine j_w eg3.symm ?_
          have H3_v := (congrFun eg3 v).trans ((up_n (n_v_rw)).trans (v1))
          have H3_rw : g3 rw = some (aI (xK X) 4 (upd rf1 (0) 0)) := by rw [eg3]; exact up_s _ _ _
          have H3_lr := (congrFun eg3 lr).trans ((up_n (n_lr_rw)).trans (lr1))
          have H3_lb := (congrFun eg3 lb).trans ((up_n (n_lb_rw)).trans (bg1.1))
          have H3_lca := (congrFun eg3 lca).trans ((up_n (n_lca_rw)).trans (bg1.2.1))
          have H3_loa := (congrFun eg3 loa).trans ((up_n (n_loa_rw)).trans (bg1.2.2))
          have H3_b := (congrFun eg3 b).trans ((up_n (n_b_rw)).trans (iB1.1))
          have bg3 : isBag (xK X) g3 lb lca loa L.length lf lt := ⟨H3_lb, H3_lca, H3_loa⟩
          refine j_aload_n hX dX3_makeInto_64 3 rfl ?_
          refine j_get (v := .ref rw) hX H3_v rfl wf_X3 3 (by decide) lk_X3_40 (fun z h => u_same (hX.ts _ wz_14) z h) rfl dX3_makeInto_65 ?_
          refine j_aload_n hX dX3_makeInto_68 3 rfl ?_
          refine j_get (v := .int (-1)) hX H3_v rfl wf_X3 4 (by decide) lk_X3_9 (fun _ h => h) rfl dX3_makeInto_69 ?_
          refine j_iconst (v := (-1)) hX dX3_makeInto_72 (by decide) ?_
          refine j_icmp_ne hX 80 dX3_makeInto_73 (by decide) (fun c_73 => absurd c_73 (show ¬ ¬ (-1 : Int32) = -1 from fun q => q rfl)) (fun _ => ?_)
          refine j_iconst (v := nI 0) hX dX3_makeInto_76 (by decide) ?_
          refine j_goto hX 81 dX3_makeInto_77 (by decide) ?_
          refine j_aload_n hX dX3_makeInto_81 3 rfl ?_
          refine j_aload_n hX dX3_makeInto_82 2 rfl ?_
          refine j_iload hX dX3_makeInto_83 0 rfl ?_
          refine j_callV (As := [.ref lb, .int (nI k)]) (rest := [.int (nI 0), .ref rw]) hX (c_X3_valueFrom (xl X) (xK X) g3 v lr rr rw dp none st c H3_v lb lca loa L lf lt bg3 hLr gL hby hst hc4 k hk9) H3_v rfl lk_X3_48 wI_X3_valueFrom wV_X3_X3_valueFrom wN_X3 wC_X3_valueFrom hd_X3_valueFrom rfl (by rw [hL]; decide) (by decide) rfl (Nat.le_of_ble_eq_true rfl) dX3_makeInto_85 (by rw [hR]; decide) (by rw [hR]; decide) jx_no ?_
          rintro _ _ ⟨rfl, rfl⟩
          show J X 0 0 g3 88 [(4, .int (nI k)), (3, .int 1), (2, .ref lb), (0, .ref v), (1, .ref b)] [.int (valueG none st c L k), .int (nI 0), .ref rw]
          refine j_iastN hX H3_rw (0) (rfl) (by omega) (by decide) dX3_makeInto_88 ?_
          obtain ⟨g4, eg4⟩ : ∃ z : Wd, z = up g3 rw (aI (xK X) 4 (upd (upd rf1 (0) 0) (0) (valueG none st c L k))) := ⟨_, rfl⟩
          refine j_w eg4.symm ?_
          have H4_v := (congrFun eg4 v).trans ((up_n (n_v_rw)).trans (H3_v))
          have H4_rw : g4 rw = some (aI (xK X) 4 (upd (upd rf1 (0) 0) (0) (valueG none st c L k))) := by rw [eg4]; exact up_s _ _ _
          have H4_lr := (congrFun eg4 lr).trans ((up_n (n_lr_rw)).trans (H3_lr))
          have H4_lb := (congrFun eg4 lb).trans ((up_n (n_lb_rw)).trans (H3_lb))
          have H4_lca := (congrFun eg4 lca).trans ((up_n (n_lca_rw)).trans (H3_lca))
          have H4_loa := (congrFun eg4 loa).trans ((up_n (n_loa_rw)).trans (H3_loa))
          have H4_b := (congrFun eg4 b).trans ((up_n (n_b_rw)).trans (H3_b))
          have hF4 : Fr g1 g4 [rw] := fun q hq => by rw [eg4, up_n (by simpa using hq), eg3, up_n (by simpa using hq)]
          have iR4 := bagR.at hI1 hF4 (nm1 n_b_rw) (nm1 n_ca_rw) (nm1 n_oa_rw)
          obtain ⟨if4, it4, iB4, iRp4⟩ := id iR4
          have hI4 : rowI none (upd (upd rf1 0 0) 0 (valueG none st c L k)) := ⟨by rw [pk_un (by decide), pk_un (by decide)]; exact hIr1.1, by rw [pk_un (by decide), pk_un (by decide)]; exact hIr1.2.1, fun _ => by rw [pk_un (by decide), pk_un (by decide)]; exact hIr1.2.2 rfl⟩
          have hrow : rowAt (upd (upd rf1 0 0) 0 (valueG none st c L k)) 0 = growG none st c L k := rowAt_f (fun j hj => by
            rcases (show j = 0 ∨ j = 1 ∨ j = 2 ∨ j = 3 by omega) with rfl | rfl | rfl | rfl
            · exact pk_us
            · exact hI4.2.2 rfl
            · exact hI4.1
            · exact hI4.2.1)
          refine j_aload_n hX dX3_makeInto_89 4 rfl ?_
          refine j_aload_n hX dX3_makeInto_90 3 rfl ?_
          refine j_get (v := .ref rw) hX H4_v rfl wf_X3 3 (by decide) lk_X3_40 (fun z h => u_same (hX.ts _ wz_14) z h) rfl dX3_makeInto_91 ?_
          refine j_lconst (v := 1) hX dX3_makeInto_94 (by decide) ?_
          refine j_callV (As := [.ref rw, .long 1]) (rest := []) hX (c_X0_add (xl X) (xK X) g4 b ca oa acc iR4 hGa rw _ H4_rw 1 1 (by decide) (by decide) (by decide)) H4_b rfl lk_X3_52 wI_X0_add wV_X0_X0_add wN_X0 wC_X0_add hd_X0_add rfl (by rw [hL]; decide) (by decide) rfl (Nat.le_of_ble_eq_true rfl) dX3_makeInto_95 (by rw [hR]; decide) (by rw [hR]; decide) jx_no ?_
          intro v9 g5 h9
          rw [hrow] at h9
          rcases h8 : addB (growG none st c L k) 1 acc with _ | B9
          · rw [h8] at h9
            obtain ⟨rfl, rfl⟩ := h9
            show J X 0 0 g4 98 [(4, .int (nI k)), (3, .int 1), (2, .ref lb), (0, .ref v), (1, .ref b)] [.int 0]
            refine j_istore_n (lv' := [(3, .int 0), (4, .int (nI k)), (2, .ref lb), (0, .ref v), (1, .ref b)]) hX dX3_makeInto_98 (by rw [hn]; decide) rfl ?_
            refine j_iinc (v := nI (k + 1)) (lv' := [(4, .int (nI (k + 1))), (3, .int 0), (2, .ref lb), (0, .ref v), (1, .ref b)]) hX dX3_makeInto_99 1 rfl (nI_1 k) (by rw [hn]; decide) rfl ?_
            refine j_goto hX 13 dX3_makeInto_102 (by decide) ?_
            refine j_iload hX dX3_makeInto_13 0 rfl ?_
            refine j_aload_n hX dX3_makeInto_15 2 rfl ?_
            refine j_getN (v := .int (nI L.length)) hX H4_lb rfl wf_X0 2 (by decide) nk_X3_31 (fun _ h => h) rfl dX3_makeInto_16 ?_
            refine j_icmp_ge hX 105 dX3_makeInto_19 (by decide) (fun c_19 => ?_) (fun c_19 => ?_)
            · refine j_iload_n hX dX3_makeInto_105 1 rfl ?_
              exact j_zret hX hE dX3_makeInto_106 (by first | rfl | decide | assumption) (⟨fr2 hF hF4, ⟨_, H4_rw, hI4⟩, by rw [← hRs, gr_no hk9 (b01_t c_33) h8]; exact ⟨rfl, _, _, _, iB4⟩⟩) (by decide) (by decide)
            · refine j_iload_n hX dX3_makeInto_22 1 rfl ?_
              refine j_if_eq hX 105 dX3_makeInto_23 (by decide) (fun _ => ?_) (fun c_23 => absurd (show (0 : Int32) = 0 from rfl) c_23)
              refine j_iload_n hX dX3_makeInto_105 1 rfl ?_
              exact j_zret hX hE dX3_makeInto_106 (by first | rfl | decide | assumption) (⟨fr2 hF hF4, ⟨_, H4_rw, hI4⟩, by rw [← hRs, gr_no hk9 (b01_t c_33) h8]; exact ⟨rfl, _, _, _, iB4⟩⟩) (by decide) (by decide)
          · rw [h8] at h9
            obtain ⟨rfl, hB5, hF5⟩ := h9
            show J X 0 0 g5 98 [(4, .int (nI k)), (3, .int 1), (2, .ref lb), (0, .ref v), (1, .ref b)] [.int 1]
            refine j_istore_n (lv' := [(3, .int 1), (4, .int (nI k)), (2, .ref lb), (0, .ref v), (1, .ref b)]) hX dX3_makeInto_98 (by rw [hn]; decide) rfl ?_
            refine j_iinc (v := nI (k + 1)) (lv' := [(4, .int (nI (k + 1))), (3, .int 1), (2, .ref lb), (0, .ref v), (1, .ref b)]) hX dX3_makeInto_99 1 rfl (nI_1 k) (by rw [hn]; decide) rfl ?_
            refine j_goto hX 13 dX3_makeInto_102 (by decide) ?_
            refine j_sub [0, 1, 2, 3, 4] rfl ?_
            exact ih (k + 1) g5 B9 (by omega) (fr3 hF hF4 hF5) hB5 (addB_good hGa h8) ⟨_, Fr.at hF5 H4_rw (nm3 n_b_rw.symm n_ca_rw.symm n_oa_rw.symm), hI4⟩ (by rw [← hRs, gr_yes hk9 (b01_t c_33) h8])
      · have hcb : cb < 4 := hby cb rfl
        refine j_iload hX dX3_makeInto_13 0 rfl ?_
        refine j_aload_n hX dX3_makeInto_15 2 rfl ?_
        refine j_getN (v := .int (nI L.length)) hX bg1.1 rfl wf_X0 2 (by decide) nk_X3_31 (fun _ h => h) rfl dX3_makeInto_16 ?_
        refine j_icmp_ge hX 105 dX3_makeInto_19 (by decide) (fun c_19 => absurd c_19 (nI_ge (a := k) (b := L.length) (by omega) (by omega))) (fun _ => ?_)
        refine j_iload_n hX dX3_makeInto_22 1 rfl ?_
        refine j_if_eq hX 105 dX3_makeInto_23 (by decide) (fun c_23 => absurd c_23 (show ¬ (1 : Int32) = 0 by decide)) (fun _ => ?_)
        refine j_aload_n hX dX3_makeInto_26 3 rfl ?_
        refine j_aload_n hX dX3_makeInto_27 2 rfl ?_
        refine j_iload hX dX3_makeInto_28 0 rfl ?_
        refine j_callV (As := [.ref lb, .int (nI k)]) (rest := []) hX (c_X3_isFirst (xl X) (xK X) g1 v lr rr rw dp (some cb) st c v1 lb lca loa L lf lt bg1 hLr gL hby k hk9) v1 rfl lk_X3_36 wI_X3_isFirst wV_X3_X3_isFirst wN_X3 wC_X3_isFirst hd_X3_isFirst rfl (by rw [hL]; decide) (by decide) rfl (Nat.le_of_ble_eq_true rfl) dX3_makeInto_30 (by rw [hR]; decide) (by rw [hR]; decide) jx_no ?_
        rintro _ _ ⟨rfl, rfl⟩
        show J X 0 0 g1 33 [(4, .int (nI k)), (3, .int 1), (2, .ref lb), (0, .ref v), (1, .ref b)] [.int (b01 (firstG (some cb) L k))]
        refine j_if_eq hX 99 dX3_makeInto_33 (by decide) (fun c_33 => ?_) (fun c_33 => ?_)
        · refine j_iinc (v := nI (k + 1)) (lv' := [(4, .int (nI (k + 1))), (3, .int 1), (2, .ref lb), (0, .ref v), (1, .ref b)]) hX dX3_makeInto_99 0 rfl (nI_1 k) (by rw [hn]; decide) rfl ?_
          refine j_goto hX 13 dX3_makeInto_102 (by decide) ?_
          refine j_sub [0, 1, 2, 3, 4] rfl ?_
          exact ih (k + 1) g1 acc (by omega) hF hI1 hGa ⟨rf1, rw1, hIr1⟩ (by rw [← hRs, gr_skip hk9 (b01_f c_33)])
        · refine j_aload_n hX dX3_makeInto_36 3 rfl ?_
          refine j_get (v := .ref rw) hX v1 rfl wf_X3 3 (by decide) lk_X3_40 (fun z h => u_same (hX.ts _ wz_14) z h) rfl dX3_makeInto_37 ?_
          refine j_iconst (v := nI 0) hX dX3_makeInto_40 (by decide) ?_
          refine j_aload_n hX dX3_makeInto_41 3 rfl ?_
          refine j_get (v := .int (nI cb)) hX v1 rfl wf_X3 4 (by decide) lk_X3_9 (fun _ h => h) rfl dX3_makeInto_42 ?_
          refine j_iconst (v := (-1)) hX dX3_makeInto_45 (by decide) ?_
          refine j_icmp_ne hX 53 dX3_makeInto_46 (by decide) (fun _ => ?_) (fun c_46 => absurd c_46 (nI_m1ne (c := cb) (by omega)))
          refine j_aload_n hX dX3_makeInto_53 2 rfl ?_
          refine j_iload hX dX3_makeInto_54 0 rfl ?_
          refine j_aload_n hX dX3_makeInto_56 3 rfl ?_
          refine j_get (v := .int (nI cb)) hX v1 rfl wf_X3 4 (by decide) lk_X3_9 (fun _ h => h) rfl dX3_makeInto_57 ?_
          refine j_callV (As := [.int (nI k), .int (nI cb)]) (rest := [.int (nI 0), .ref rw]) hX (c_X0_cellAt (xl X) (xK X) g1 lb lca loa L.length lf lt bg1 k cb (by omega) hcb) bg1.1 rfl lk_X3_44 wI_X0_cellAt wV_X0_X0_cellAt wN_X0 wC_X0_cellAt hd_X0_cellAt rfl (by rw [hL]; decide) (by decide) rfl (Nat.le_of_ble_eq_true rfl) dX3_makeInto_60 (by rw [hR]; decide) (by rw [hR]; decide) jx_no ?_
          rintro _ _ ⟨rfl, rfl⟩
          show J X 0 0 g1 63 [(4, .int (nI k)), (3, .int 1), (2, .ref lb), (0, .ref v), (1, .ref b)] [.int (lf (4 * k + cb)), .int (nI 0), .ref rw]
          refine j_eqi (y := cellR (L[k]).1 cb) (rep_cell hLr hk9 hcb) ?_
          refine j_iastN hX rw1 (0) (rfl) (by omega) (by decide) dX3_makeInto_63 ?_
          obtain ⟨g3, eg3⟩ : ∃ z : Wd, z = up g1 rw (aI (xK X) 4 (upd rf1 (0) (cellR (L[k]).1 cb))) := ⟨_, rfl⟩
          refine j_w eg3.symm ?_
          have H3_v := (congrFun eg3 v).trans ((up_n (n_v_rw)).trans (v1))
          have H3_rw : g3 rw = some (aI (xK X) 4 (upd rf1 (0) (cellR (L[k]).1 cb))) := by rw [eg3]; exact up_s _ _ _
          have H3_lr := (congrFun eg3 lr).trans ((up_n (n_lr_rw)).trans (lr1))
          have H3_lb := (congrFun eg3 lb).trans ((up_n (n_lb_rw)).trans (bg1.1))
          have H3_lca := (congrFun eg3 lca).trans ((up_n (n_lca_rw)).trans (bg1.2.1))
          have H3_loa := (congrFun eg3 loa).trans ((up_n (n_loa_rw)).trans (bg1.2.2))
          have H3_b := (congrFun eg3 b).trans ((up_n (n_b_rw)).trans (iB1.1))
          have bg3 : isBag (xK X) g3 lb lca loa L.length lf lt := ⟨H3_lb, H3_lca, H3_loa⟩
          refine j_aload_n hX dX3_makeInto_64 3 rfl ?_
          refine j_get (v := .ref rw) hX H3_v rfl wf_X3 3 (by decide) lk_X3_40 (fun z h => u_same (hX.ts _ wz_14) z h) rfl dX3_makeInto_65 ?_
          refine j_aload_n hX dX3_makeInto_68 3 rfl ?_
          refine j_get (v := .int (nI cb)) hX H3_v rfl wf_X3 4 (by decide) lk_X3_9 (fun _ h => h) rfl dX3_makeInto_69 ?_
          refine j_iconst (v := (-1)) hX dX3_makeInto_72 (by decide) ?_
          refine j_icmp_ne hX 80 dX3_makeInto_73 (by decide) (fun _ => ?_) (fun c_73 => absurd c_73 (nI_m1ne (c := cb) (by omega)))
          refine j_iconst (v := nI 1) hX dX3_makeInto_80 (by decide) ?_
          refine j_aload_n hX dX3_makeInto_81 3 rfl ?_
          refine j_aload_n hX dX3_makeInto_82 2 rfl ?_
          refine j_iload hX dX3_makeInto_83 0 rfl ?_
          refine j_callV (As := [.ref lb, .int (nI k)]) (rest := [.int (nI 1), .ref rw]) hX (c_X3_valueFrom (xl X) (xK X) g3 v lr rr rw dp (some cb) st c H3_v lb lca loa L lf lt bg3 hLr gL hby hst hc4 k hk9) H3_v rfl lk_X3_48 wI_X3_valueFrom wV_X3_X3_valueFrom wN_X3 wC_X3_valueFrom hd_X3_valueFrom rfl (by rw [hL]; decide) (by decide) rfl (Nat.le_of_ble_eq_true rfl) dX3_makeInto_85 (by rw [hR]; decide) (by rw [hR]; decide) jx_no ?_
          rintro _ _ ⟨rfl, rfl⟩
          show J X 0 0 g3 88 [(4, .int (nI k)), (3, .int 1), (2, .ref lb), (0, .ref v), (1, .ref b)] [.int (valueG (some cb) st c L k), .int (nI 1), .ref rw]
          refine j_iastN hX H3_rw (1) (rfl) (by omega) (by decide) dX3_makeInto_88 ?_
          obtain ⟨g4, eg4⟩ : ∃ z : Wd, z = up g3 rw (aI (xK X) 4 (upd (upd rf1 (0) (cellR (L[k]).1 cb)) (1) (valueG (some cb) st c L k))) := ⟨_, rfl⟩
          refine j_w eg4.symm ?_
          have H4_v := (congrFun eg4 v).trans ((up_n (n_v_rw)).trans (H3_v))
          have H4_rw : g4 rw = some (aI (xK X) 4 (upd (upd rf1 (0) (cellR (L[k]).1 cb)) (1) (valueG (some cb) st c L k))) := by rw [eg4]; exact up_s _ _ _
          have H4_lr := (congrFun eg4 lr).trans ((up_n (n_lr_rw)).trans (H3_lr))
          have H4_lb := (congrFun eg4 lb).trans ((up_n (n_lb_rw)).trans (H3_lb))
          have H4_lca := (congrFun eg4 lca).trans ((up_n (n_lca_rw)).trans (H3_lca))
          have H4_loa := (congrFun eg4 loa).trans ((up_n (n_loa_rw)).trans (H3_loa))
          have H4_b := (congrFun eg4 b).trans ((up_n (n_b_rw)).trans (H3_b))
          have hF4 : Fr g1 g4 [rw] := fun q hq => by rw [eg4, up_n (by simpa using hq), eg3, up_n (by simpa using hq)]
          have iR4 := bagR.at hI1 hF4 (nm1 n_b_rw) (nm1 n_ca_rw) (nm1 n_oa_rw)
          obtain ⟨if4, it4, iB4, iRp4⟩ := id iR4
          have hI4 : rowI (some cb) (upd (upd rf1 0 (cellR (L[k]).1 cb)) 1 (valueG (some cb) st c L k)) := ⟨by rw [pk_un (by decide), pk_un (by decide)]; exact hIr1.1, by rw [pk_un (by decide), pk_un (by decide)]; exact hIr1.2.1, fun q => by cases q⟩
          have hrow : rowAt (upd (upd rf1 0 (cellR (L[k]).1 cb)) 1 (valueG (some cb) st c L k)) 0 = growG (some cb) st c L k := rowAt_f (fun j hj => by
            rcases (show j = 0 ∨ j = 1 ∨ j = 2 ∨ j = 3 by omega) with rfl | rfl | rfl | rfl
            · rw [pk_un (by decide), pk_us]; show _ = cellR (rowG L k) cb; rw [rowG_at hk9]
            · exact pk_us
            · exact hI4.1
            · exact hI4.2.1)
          refine j_aload_n hX dX3_makeInto_89 4 rfl ?_
          refine j_aload_n hX dX3_makeInto_90 3 rfl ?_
          refine j_get (v := .ref rw) hX H4_v rfl wf_X3 3 (by decide) lk_X3_40 (fun z h => u_same (hX.ts _ wz_14) z h) rfl dX3_makeInto_91 ?_
          refine j_lconst (v := 1) hX dX3_makeInto_94 (by decide) ?_
          refine j_callV (As := [.ref rw, .long 1]) (rest := []) hX (c_X0_add (xl X) (xK X) g4 b ca oa acc iR4 hGa rw _ H4_rw 1 1 (by decide) (by decide) (by decide)) H4_b rfl lk_X3_52 wI_X0_add wV_X0_X0_add wN_X0 wC_X0_add hd_X0_add rfl (by rw [hL]; decide) (by decide) rfl (Nat.le_of_ble_eq_true rfl) dX3_makeInto_95 (by rw [hR]; decide) (by rw [hR]; decide) jx_no ?_
          intro v9 g5 h9
          rw [hrow] at h9
          rcases h8 : addB (growG (some cb) st c L k) 1 acc with _ | B9
          · rw [h8] at h9
            obtain ⟨rfl, rfl⟩ := h9
            show J X 0 0 g4 98 [(4, .int (nI k)), (3, .int 1), (2, .ref lb), (0, .ref v), (1, .ref b)] [.int 0]
            refine j_istore_n (lv' := [(3, .int 0), (4, .int (nI k)), (2, .ref lb), (0, .ref v), (1, .ref b)]) hX dX3_makeInto_98 (by rw [hn]; decide) rfl ?_
            refine j_iinc (v := nI (k + 1)) (lv' := [(4, .int (nI (k + 1))), (3, .int 0), (2, .ref lb), (0, .ref v), (1, .ref b)]) hX dX3_makeInto_99 1 rfl (nI_1 k) (by rw [hn]; decide) rfl ?_
            refine j_goto hX 13 dX3_makeInto_102 (by decide) ?_
            refine j_iload hX dX3_makeInto_13 0 rfl ?_
            refine j_aload_n hX dX3_makeInto_15 2 rfl ?_
            refine j_getN (v := .int (nI L.length)) hX H4_lb rfl wf_X0 2 (by decide) nk_X3_31 (fun _ h => h) rfl dX3_makeInto_16 ?_
            refine j_icmp_ge hX 105 dX3_makeInto_19 (by decide) (fun c_19 => ?_) (fun c_19 => ?_)
            · refine j_iload_n hX dX3_makeInto_105 1 rfl ?_
              exact j_zret hX hE dX3_makeInto_106 (by first | rfl | decide | assumption) (⟨fr2 hF hF4, ⟨_, H4_rw, hI4⟩, by rw [← hRs, gr_no hk9 (b01_t c_33) h8]; exact ⟨rfl, _, _, _, iB4⟩⟩) (by decide) (by decide)
            · refine j_iload_n hX dX3_makeInto_22 1 rfl ?_
              refine j_if_eq hX 105 dX3_makeInto_23 (by decide) (fun _ => ?_) (fun c_23 => absurd (show (0 : Int32) = 0 from rfl) c_23)
              refine j_iload_n hX dX3_makeInto_105 1 rfl ?_
              exact j_zret hX hE dX3_makeInto_106 (by first | rfl | decide | assumption) (⟨fr2 hF hF4, ⟨_, H4_rw, hI4⟩, by rw [← hRs, gr_no hk9 (b01_t c_33) h8]; exact ⟨rfl, _, _, _, iB4⟩⟩) (by decide) (by decide)
          · rw [h8] at h9
            obtain ⟨rfl, hB5, hF5⟩ := h9
            show J X 0 0 g5 98 [(4, .int (nI k)), (3, .int 1), (2, .ref lb), (0, .ref v), (1, .ref b)] [.int 1]
            refine j_istore_n (lv' := [(3, .int 1), (4, .int (nI k)), (2, .ref lb), (0, .ref v), (1, .ref b)]) hX dX3_makeInto_98 (by rw [hn]; decide) rfl ?_
            refine j_iinc (v := nI (k + 1)) (lv' := [(4, .int (nI (k + 1))), (3, .int 1), (2, .ref lb), (0, .ref v), (1, .ref b)]) hX dX3_makeInto_99 1 rfl (nI_1 k) (by rw [hn]; decide) rfl ?_
            refine j_goto hX 13 dX3_makeInto_102 (by decide) ?_
            refine j_sub [0, 1, 2, 3, 4] rfl ?_
            exact ih (k + 1) g5 B9 (by omega) (fr3 hF hF4 hF5) hB5 (addB_good hGa h8) ⟨_, Fr.at hF5 H4_rw (nm3 n_b_rw.symm n_ca_rw.symm n_oa_rw.symm), hI4⟩ (by rw [← hRs, gr_yes hk9 (b01_t c_33) h8])
  refine j_aload_n hX dX3_makeInto_0 0 rfl ?_
  refine j_get (v := .ref lr) hX hv rfl wf_X3 0 (by decide) lk_X3_21 (fun z h => u_same (hX.ts _ wz_13) z h) rfl dX3_makeInto_1 ?_
  refine j_callV (As := []) (rest := []) hX (c_X6_latest (xl X) (xK X) g lr nw nx p vw cc ch hlr hp) hlr rfl lk_X3_25 wI_X6_latest wV_X6_X6_latest wN_X6 wC_X6_latest hd_X6_latest rfl (by rw [hL]; decide) (by decide) rfl (Nat.le_of_ble_eq_true rfl) dX3_makeInto_4 (by rw [hR]; decide) (by rw [hR]; decide) jx_no ?_
  rintro _ _ ⟨rfl, rfl⟩
  rw [hlb]
  show J X 0 0 g 7 [(0, .ref v), (1, .ref b)] [.ref lb]
  refine j_astore_n (lv' := [(2, .ref lb), (0, .ref v), (1, .ref b)]) hX dX3_makeInto_7 (by rw [hn]; decide) rfl ?_
  refine j_iconst (v := 1) hX dX3_makeInto_8 (by decide) ?_
  refine j_istore_n (lv' := [(3, .int 1), (2, .ref lb), (0, .ref v), (1, .ref b)]) hX dX3_makeInto_9 (by rw [hn]; decide) rfl ?_
  refine j_iconst (v := nI 0) hX dX3_makeInto_10 (by decide) ?_
  refine j_istore (lv' := [(4, .int (nI 0)), (3, .int 1), (2, .ref lb), (0, .ref v), (1, .ref b)]) hX dX3_makeInto_11 (by rw [hn]; decide) rfl ?_
  refine j_sub [0, 1, 2, 3, 4] rfl ?_
  exact loop L.length 0 g [] (by omega) (Fr.rf _ _) hI good_nil ⟨_, hrw, hri⟩ rfl

