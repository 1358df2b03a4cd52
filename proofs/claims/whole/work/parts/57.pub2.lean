theorem DJ.less {A A' : Ab} {Y : Lt} (h : DJ A Y) (hk : ∀ j, 2 ≤ ak A' j → ak A' j = ak A j) : DJ A' Y := by
  refine ⟨h.1, h.2.1, fun a ha k => ?_⟩
  have ka := hk a k
  obtain ⟨h1, h2, h3⟩ := h.2.2 a ha (by omega)
  refine ⟨h1, fun e => h2 (by omega), fun j hj kj => ?_⟩
  have kj' := hk j kj
  obtain ⟨h4, h5⟩ := h3 j hj (by omega)
  exact ⟨h4, fun e => h5 (by omega)⟩
/-- the told row alone changes -/
theorem CS.told {K : Cst} {g g' : Wd} {x : Nat} {A : Ab} {Y : Lt} {ch : Nat → Int32} {p : Nat → Nat} {N : Nat → Bg} (h : CS K g x A Y ch p N) (hF : Fr g g' [yta Y]) (ht : rwI K g' (yta Y) (fun _ => True)) : CS K g' x A Y ch p N := by
  have hFam : ∀ i, Fam g g' A Y i := fun i q e hq _ _ _ _ _ _ _ h8 _ => (hF q (by simpa using h8)).trans hq
  obtain ⟨tf9, ht9, _⟩ := ht
  obtain ⟨_, _, z1, z2⟩ := h.2.1
  refine ⟨(hFam 0).bv h (by decide), ⟨tf9, ht9, (hFam 0).zf h (by decide), z2⟩, fun j hj => ?_, h.2.2.2⟩
  by_cases hj0 : j = 0
  · exact (hFam 1).other h (by decide) hj (by omega)
  · exact (hFam 0).other h (by decide) hj hj0
def PostR (K : Cst) (x : Nat) (ins : Prop) (va : Value) (A : Ab) : Option Value → Wd → Prop := fun v g' => v = some va ∧ ins ∧ CSx K g' x A
def XR (K : Cst) (x k : Nat) (ins : Prop) (A : Ab) : String → Wd → Prop := fun E g' => E = exn k ∧ ¬ ins ∧ CSx K g' x A
def cntN (A : Ab) (q : Nat) : Nat → Nat
  | 0 => 0
  | n + 1 => cntN A q n + (if 0 < aw A n then (if q = 0 then 1 else if q = 1 then (if 2 ≤ ak A n then 0 else 1) else (aB A n).length) else 0)
theorem sumL_cg {f h : Nat → Int32} : ∀ n, (∀ k, k < n → f k = h k) → sumL f n = sumL h n
  | 0, _ => rfl
  | n + 1, e => by simp only [sumL]; rw [sumL_cg n (fun k hk => e k (by omega)), e n (by omega)]
def sizeB (B : Bg) : Int64 := sumL (fun k => nI (tmG B k)) B.length
theorem sumL_rep {cf tf : Nat → Int32} {B : Bg} (h : rep cf tf B) : sumL tf B.length = sizeB B := sumL_cg _ (fun k hk => by
  rw [tmG_at hk]; exact (h k _ (List.getElem?_eq_getElem hk)).2)
theorem j_look {X : Cx} {cc : ByteArray} {own : String} {kc ks : Nat} {g : Wd} {pc : Nat} {lv : List (Nat × Value)} {rest : List Value} (hX : OK X cc own) {dflt : Int} {ps : Array (Int × Int)} {len : Nat} {x : Int32} {off : Int} (tgt : Nat) (d : decode cc pc = .ok (.lookupswitch dflt ps, len)) (hp : (ps.toList.zip (ps.toList.drop 1)).all (fun (a, next) => a.1 < next.1) = true) (ho : Op.lookupswitch.offset ps.toList dflt x.toInt = off) (ht : (pc : Int) + off = (tgt : Int)) (k : J X kc ks g tgt lv rest) : J X kc ks g pc lv (.int x :: rest) := j_lift (fun _ _ _ _ _ _ k => lv_lookup hX.x hX.b d hp ho ht k) k
set_option maxRecDepth 20000 in
set_option maxHeartbeats 600000 in
/-- width -/
theorem c_X10_width (l : Launch) (K : Cst) (g : Wd) (hlt : l.stackTraces = false) (x : Nat) (A : Ab) (Y : Lt) (ch : Nat → Int32) (N : Nat → Bg) (hC : CS K g x A Y ch (fun _ => 0) N) (hI : Inv A) (r : Int32) : Ct l K yX10_width cX10_width 2 (some .int) 8 [.ref x, .int r] g (PostR K x (P8 r) (.int (nI (aw A (vnat r)))) A) (XR K x 1 (P8 r) A) 1 6 := by
  refine ct_of (by decide) (Nat.le_of_ble_eq_true rfl) ?_
  intro X hl hK hX hE hn hL hR hm
  subst hl; subst hK
  show J X 0 0 g 0 [(0, .ref x), (1, .int r)] []
  refine j_aload_n hX dX10_width_0 0 rfl ?_
  refine j_iload_n hX dX10_width_1 1 rfl ?_
  refine j_callV (As := [.int r]) (rest := []) hX (c_X10_placeAt (xl X) (xK X) g hlt x (yra Y) (yta Y) (yR Y) hC.1 r) hC.1.1 rfl lk_X10_20 wI_X10_placeAt wV_X10_X10_placeAt wN_X10 wC_X10_placeAt hd_X10_placeAt rfl (by rw [hL]; decide) (by decide) rfl (Nat.le_of_ble_eq_true rfl) dX10_width_2 (by rw [hR]; decide) (by rw [hR]; decide) (fun E g9 h9 => jx_out hX hE ⟨h9.1, h9.2.2, by rw [← h9.2.1]; exact ⟨Y, ch, N, hC⟩⟩ (by decide) (by decide)) ?_
  rintro _ _ ⟨i, hi, ei, rfl, rfl⟩
  have zi : vnat r = i := by rw [ei, vnat_nI (by omega)]
  have ri : g (yR Y i) = some (ob 6 [.ref (ynb Y i), .ref (yxb Y i), vwf A Y i, .int (nI (aw A i)), .int (nI 0), .int (ch i)]) := (hC.2.2.1 i hi).1
  show J X 1 6 g 5 [(0, .ref x), (1, .int r)] [.ref (yR Y i)]
  refine j_getN (v := .int (nI (aw A i))) hX ri rfl wf_X6 3 (by decide) nk_X10_57 (fun _ h => h) rfl dX10_width_5 ?_
  exact j_iret hX hE dX10_width_8 (⟨by rw [zi], ⟨i, hi, ei⟩, ⟨Y, ch, N, hC⟩⟩) (by decide) (by decide)

set_option maxRecDepth 20000 in
set_option maxHeartbeats 600000 in
/-- rows -/
theorem c_X10_rows (l : Launch) (K : Cst) (g : Wd) (hlt : l.stackTraces = false) (x : Nat) (A : Ab) (Y : Lt) (ch : Nat → Int32) (N : Nat → Bg) (hC : CS K g x A Y ch (fun _ => 0) N) (hI : Inv A) (r : Int32) : Ct l K yX10_rows cX10_rows 2 (some .int) 8 [.ref x, .int r] g (PostR K x (isR A r) (.int (nI (aB A (vnat r)).length)) A) (XR K x 1 (isR A r) A) 2 12 := by
  refine ct_of (by decide) (Nat.le_of_ble_eq_true rfl) ?_
  intro X hl hK hX hE hn hL hR hm
  subst hl; subst hK
  show J X 0 0 g 0 [(0, .ref x), (1, .int r)] []
  refine j_aload_n hX dX10_rows_0 0 rfl ?_
  refine j_iload_n hX dX10_rows_1 1 rfl ?_
  refine j_callV (As := [.int r]) (rest := []) hX (c_X10_relationAt (xl X) (xK X) g hlt x (yra Y) (yta Y) (yR Y) hC.1 (ynb Y) (yxb Y) (vwf A Y) (aw A) (fun i => nI ((fun _ => 0) i)) ch hC.rels (fun i hi => (hI i hi).1.1) r) hC.1.1 rfl lk_X10_48 wI_X10_relationAt wV_X10_X10_relationAt wN_X10 wC_X10_relationAt hd_X10_relationAt rfl (by rw [hL]; decide) (by decide) rfl (Nat.le_of_ble_eq_true rfl) dX10_rows_2 (by rw [hR]; decide) (by rw [hR]; decide) (fun E g9 h9 => jx_out hX hE ⟨h9.1, h9.2.2, by rw [← h9.2.1]; exact ⟨Y, ch, N, hC⟩⟩ (by decide) (by decide)) ?_
  rintro _ _ ⟨i, hi, ei, wi, rfl, rfl⟩
  have zi : vnat r = i := by rw [ei, vnat_nI (by omega)]
  have qi : isR A r := ⟨i, hi, ei, wi⟩
  have ri : g (yR Y i) = some (ob 6 [.ref (ynb Y i), .ref (yxb Y i), vwf A Y i, .int (nI (aw A i)), .int (nI 0), .int (ch i)]) := (hC.2.2.1 i hi).1
  obtain ⟨ni, cfi, tfi, bi, hbi⟩ := (hC.2.2.1 i hi).2.1
  obtain ⟨eni, rpi⟩ := hbi wi
  subst eni
  have gi := (hI i hi).2.2.1.1
  show J X 2 12 g 5 [(0, .ref x), (1, .int r)] [.ref (yR Y i)]
  refine j_getN (v := .ref (ynb Y i)) hX ri rfl wf_X6 0 (by decide) nk_X10_35 (fun _ h => h) rfl dX10_rows_5 ?_
  refine j_getN (v := .int (nI (aB A i).length)) hX bi.1 rfl wf_X0 2 (by decide) nk_X10_158 (fun _ h => h) rfl dX10_rows_8 ?_
  exact j_iret hX hE dX10_rows_11 (⟨by rw [zi], qi, ⟨Y, ch, N, hC⟩⟩) (by decide) (by decide)

set_option maxRecDepth 20000 in
set_option maxHeartbeats 600000 in
/-- changed -/
theorem c_X10_changed (l : Launch) (K : Cst) (g : Wd) (hlt : l.stackTraces = false) (x : Nat) (A : Ab) (Y : Lt) (ch : Nat → Int32) (N : Nat → Bg) (hC : CS K g x A Y ch (fun _ => 0) N) (hI : Inv A) (r : Int32) : Ct l K yX10_changed cX10_changed 2 (some .int) 8 [.ref x, .int r] g (PostR K x (isR A r) (.int (nI (ac A (vnat r)))) A) (XR K x 1 (isR A r) A) 2 12 := by
  refine ct_of (by decide) (Nat.le_of_ble_eq_true rfl) ?_
  intro X hl hK hX hE hn hL hR hm
  subst hl; subst hK
  show J X 0 0 g 0 [(0, .ref x), (1, .int r)] []
  refine j_aload_n hX dX10_changed_0 0 rfl ?_
  refine j_iload_n hX dX10_changed_1 1 rfl ?_
  refine j_callV (As := [.int r]) (rest := []) hX (c_X10_relationAt (xl X) (xK X) g hlt x (yra Y) (yta Y) (yR Y) hC.1 (ynb Y) (yxb Y) (vwf A Y) (aw A) (fun i => nI ((fun _ => 0) i)) ch hC.rels (fun i hi => (hI i hi).1.1) r) hC.1.1 rfl lk_X10_48 wI_X10_relationAt wV_X10_X10_relationAt wN_X10 wC_X10_relationAt hd_X10_relationAt rfl (by rw [hL]; decide) (by decide) rfl (Nat.le_of_ble_eq_true rfl) dX10_changed_2 (by rw [hR]; decide) (by rw [hR]; decide) (fun E g9 h9 => jx_out hX hE ⟨h9.1, h9.2.2, by rw [← h9.2.1]; exact ⟨Y, ch, N, hC⟩⟩ (by decide) (by decide)) ?_
  rintro _ _ ⟨i, hi, ei, wi, rfl, rfl⟩
  have zi : vnat r = i := by rw [ei, vnat_nI (by omega)]
  have qi : isR A r := ⟨i, hi, ei, wi⟩
  have ri : g (yR Y i) = some (ob 6 [.ref (ynb Y i), .ref (yxb Y i), vwf A Y i, .int (nI (aw A i)), .int (nI 0), .int (ch i)]) := (hC.2.2.1 i hi).1
  show J X 2 12 g 5 [(0, .ref x), (1, .int r)] [.ref (yR Y i)]
  refine j_getN (v := .int (ch i)) hX ri rfl wf_X6 5 (by decide) nk_X10_177 (fun _ h => h) rfl dX10_changed_5 ?_
  exact j_iret hX hE dX10_changed_8 (⟨by rw [zi, (hC.2.2.1 i hi).2.2.2.2 wi], qi, ⟨Y, ch, N, hC⟩⟩) (by decide) (by decide)

set_option maxRecDepth 20000 in
set_option maxHeartbeats 600000 in
/-- size -/
theorem c_X10_size (l : Launch) (K : Cst) (g : Wd) (hlt : l.stackTraces = false) (x : Nat) (A : Ab) (Y : Lt) (ch : Nat → Int32) (N : Nat → Bg) (hC : CS K g x A Y ch (fun _ => 0) N) (hI : Inv A) (r : Int32) : Ct l K yX10_size cX10_size 2 (some .long) 8 [.ref x, .int r] g (PostR K x (isR A r) (.long (sizeB (aB A (vnat r)))) A) (XR K x 1 (isR A r) A) 2 12 := by
  refine ct_of (by decide) (Nat.le_of_ble_eq_true rfl) ?_
  intro X hl hK hX hE hn hL hR hm
  subst hl; subst hK
  show J X 0 0 g 0 [(0, .ref x), (1, .int r)] []
  refine j_aload_n hX dX10_size_0 0 rfl ?_
  refine j_iload_n hX dX10_size_1 1 rfl ?_
  refine j_callV (As := [.int r]) (rest := []) hX (c_X10_relationAt (xl X) (xK X) g hlt x (yra Y) (yta Y) (yR Y) hC.1 (ynb Y) (yxb Y) (vwf A Y) (aw A) (fun i => nI ((fun _ => 0) i)) ch hC.rels (fun i hi => (hI i hi).1.1) r) hC.1.1 rfl lk_X10_48 wI_X10_relationAt wV_X10_X10_relationAt wN_X10 wC_X10_relationAt hd_X10_relationAt rfl (by rw [hL]; decide) (by decide) rfl (Nat.le_of_ble_eq_true rfl) dX10_size_2 (by rw [hR]; decide) (by rw [hR]; decide) (fun E g9 h9 => jx_out hX hE ⟨h9.1, h9.2.2, by rw [← h9.2.1]; exact ⟨Y, ch, N, hC⟩⟩ (by decide) (by decide)) ?_
  rintro _ _ ⟨i, hi, ei, wi, rfl, rfl⟩
  have zi : vnat r = i := by rw [ei, vnat_nI (by omega)]
  have qi : isR A r := ⟨i, hi, ei, wi⟩
  have ri : g (yR Y i) = some (ob 6 [.ref (ynb Y i), .ref (yxb Y i), vwf A Y i, .int (nI (aw A i)), .int (nI 0), .int (ch i)]) := (hC.2.2.1 i hi).1
  obtain ⟨ni, cfi, tfi, bi, hbi⟩ := (hC.2.2.1 i hi).2.1
  obtain ⟨eni, rpi⟩ := hbi wi
  subst eni
  have gi := (hI i hi).2.2.1.1
  show J X 2 12 g 5 [(0, .ref x), (1, .int r)] [.ref (yR Y i)]
  refine j_getN (v := .ref (ynb Y i)) hX ri rfl wf_X6 0 (by decide) nk_X10_35 (fun _ h => h) rfl dX10_size_5 ?_
  refine j_callV (As := []) (rest := []) hX (c_X0_allTimes (xl X) (xK X) g (ynb Y i) (ync Y i) (yno Y i) (aB A i).length cfi tfi bi gi.2.1) bi.1 rfl lk_X10_161 wI_X0_allTimes wV_X0_X0_allTimes wN_X0 wC_X0_allTimes hd_X0_allTimes rfl (by rw [hL]; decide) (by decide) rfl (Nat.le_of_ble_eq_true rfl) dX10_size_8 (by rw [hR]; decide) (by rw [hR]; decide) jx_no ?_
  rintro _ _ ⟨rfl, rfl⟩
  show J X 2 12 g 11 [(0, .ref x), (1, .int r)] [.long (sumL tfi (aB A i).length)]
  exact j_lret hX hE dX10_size_11 (⟨by rw [zi, sumL_rep rpi], qi, ⟨Y, ch, N, hC⟩⟩) (by decide) (by decide)

set_option maxRecDepth 20000 in
set_option maxHeartbeats 600000 in
/-- times -/
theorem c_X10_times (l : Launch) (K : Cst) (g : Wd) (hlt : l.stackTraces = false) (x : Nat) (A : Ab) (Y : Lt) (ch : Nat → Int32) (N : Nat → Bg) (hC : CS K g x A Y ch (fun _ => 0) N) (hI : Inv A) (r a b c d : Int32) : Ct l K yX10_times cX10_times 7 (some .int) 8 [.ref x, .int r, .int a, .int b, .int c, .int d] g (PostR K x (isR A r) (.int (nI (tms (aB A (vnat r)) (truncR (aw A (vnat r)) (a, b, c, d))))) A) (XR K x 1 (isR A r) A) 2 12 := by
  refine ct_of (by decide) (Nat.le_of_ble_eq_true rfl) ?_
  intro X hl hK hX hE hn hL hR hm
  subst hl; subst hK
  show J X 0 0 g 0 [(0, .ref x), (1, .int r), (2, .int a), (3, .int b), (4, .int c), (5, .int d)] []
  refine j_aload_n hX dX10_times_0 0 rfl ?_
  refine j_iload_n hX dX10_times_1 1 rfl ?_
  refine j_callV (As := [.int r]) (rest := []) hX (c_X10_relationAt (xl X) (xK X) g hlt x (yra Y) (yta Y) (yR Y) hC.1 (ynb Y) (yxb Y) (vwf A Y) (aw A) (fun i => nI ((fun _ => 0) i)) ch hC.rels (fun i hi => (hI i hi).1.1) r) hC.1.1 rfl lk_X10_48 wI_X10_relationAt wV_X10_X10_relationAt wN_X10 wC_X10_relationAt hd_X10_relationAt rfl (by rw [hL]; decide) (by decide) rfl (Nat.le_of_ble_eq_true rfl) dX10_times_2 (by rw [hR]; decide) (by rw [hR]; decide) (fun E g9 h9 => jx_out hX hE ⟨h9.1, h9.2.2, by rw [← h9.2.1]; exact ⟨Y, ch, N, hC⟩⟩ (by decide) (by decide)) ?_
  rintro _ _ ⟨i, hi, ei, wi, rfl, rfl⟩
  have zi : vnat r = i := by rw [ei, vnat_nI (by omega)]
  have qi : isR A r := ⟨i, hi, ei, wi⟩
  have ri : g (yR Y i) = some (ob 6 [.ref (ynb Y i), .ref (yxb Y i), vwf A Y i, .int (nI (aw A i)), .int (nI 0), .int (ch i)]) := (hC.2.2.1 i hi).1
  obtain ⟨ni, cfi, tfi, bi, hbi⟩ := (hC.2.2.1 i hi).2.1
  obtain ⟨eni, rpi⟩ := hbi wi
  subst eni
  have gi := (hI i hi).2.2.1.1
  obtain ⟨tf0, ht0, _⟩ := hC.2.1
  show J X 2 12 g 5 [(0, .ref x), (1, .int r), (2, .int a), (3, .int b), (4, .int c), (5, .int d)] [.ref (yR Y i)]
  refine j_astore (lv' := [(6, .ref (yR Y i)), (0, .ref x), (1, .int r), (2, .int a), (3, .int b), (4, .int c), (5, .int d)]) hX dX10_times_5 (by rw [hn]; decide) rfl ?_
  refine j_aload_n hX dX10_times_7 1 rfl ?_
  refine j_aload hX dX10_times_8 0 rfl ?_
  refine j_iload_n hX dX10_times_10 3 rfl ?_
  refine j_iload_n hX dX10_times_11 4 rfl ?_
  refine j_iload hX dX10_times_12 5 rfl ?_
  refine j_iload hX dX10_times_14 6 rfl ?_
  refine j_callV (As := [.ref (yR Y i), .int a, .int b, .int c, .int d]) (rest := []) hX (c_X10_tell (xl X) (xK X) g x (yra Y) (yta Y) ⟨hC.1.1, trivial⟩ tf0 ht0 (yR Y i) (ynb Y i) (yxb Y i) (vwf A Y i) (aw A i) (nI 0) (ch i) ri (hI i hi).1.1 a b c d) hC.1.1 rfl lk_X10_129 wI_X10_tell wV_X10_X10_tell wN_X10 wC_X10_tell hd_X10_tell rfl (by rw [hL]; decide) (by decide) rfl (Nat.le_of_ble_eq_true rfl) dX10_times_16 (by rw [hR]; decide) (by rw [hR]; decide) jx_no ?_
  rintro _ g1 ⟨rfl, ⟨tf1, ht1, er1⟩, hF1⟩
  have hC1 := hC.told hF1 ⟨tf1, ht1, trivial⟩
  have ri1 : g1 (yR Y i) = some (ob 6 [.ref (ynb Y i), .ref (yxb Y i), vwf A Y i, .int (nI (aw A i)), .int (nI 0), .int (ch i)]) := (hC1.2.2.1 i hi).1
  obtain ⟨ni1, cfi1, tfi1, bi1, hbi1⟩ := (hC1.2.2.1 i hi).2.1
  obtain ⟨eni1, rpi1⟩ := hbi1 wi
  subst eni1
  show J X 2 12 g1 19 [(6, .ref (yR Y i)), (0, .ref x), (1, .int r), (2, .int a), (3, .int b), (4, .int c), (5, .int d)] []
  refine j_aload hX dX10_times_19 0 rfl ?_
  refine j_getN (v := .ref (ynb Y i)) hX ri1 rfl wf_X6 0 (by decide) nk_X10_35 (fun _ h => h) rfl dX10_times_21 ?_
  refine j_aload_n hX dX10_times_24 1 rfl ?_
  refine j_get (v := .ref (yta Y)) hX hC1.1.1 rfl wf_X10 1 (by decide) lk_X10_15 (fun _ h => h) rfl dX10_times_25 ?_
  refine j_callV (As := [.ref (yta Y)]) (rest := []) hX (c_X0_timesOf (xl X) (xK X) g1 (ynb Y i) (ync Y i) (yno Y i) (aB A i).length cfi1 tfi1 bi1 (yta Y) tf1 ht1 gi.2.1) bi1.1 rfl lk_X10_133 wI_X0_timesOf wV_X0_X0_timesOf wN_X0 wC_X0_timesOf hd_X0_timesOf rfl (by rw [hL]; decide) (by decide) rfl (Nat.le_of_ble_eq_true rfl) dX10_times_28 (by rw [hR]; decide) (by rw [hR]; decide) jx_no ?_
  rintro _ _ ⟨rfl, rfl⟩
  show J X 2 12 g1 31 [(6, .ref (yR Y i)), (0, .ref x), (1, .int r), (2, .int a), (3, .int b), (4, .int c), (5, .int d)] [.int (timesAt cfi1 tfi1 tf1 (aB A i).length)]
  exact j_iret hX hE dX10_times_31 (⟨by rw [zi, timesAt_eq rpi1 gi.1, er1], qi, Y, ch, N, hC1⟩) (by decide) (by decide)

set_option maxRecDepth 20000 in
set_option maxHeartbeats 600000 in
/-- cell -/
theorem c_X10_cell (l : Launch) (K : Cst) (g : Wd) (hlt : l.stackTraces = false) (x : Nat) (A : Ab) (Y : Lt) (ch : Nat → Int32) (N : Nat → Bg) (hC : CS K g x A Y ch (fun _ => 0) N) (hI : Inv A) (r kk co : Int32) : Ct l K yX10_cell cX10_cell 5 (some .int) 8 [.ref x, .int r, .int kk, .int co] g (PostR K x (isR A r ∧ (∃ k, k < (aB A (vnat r)).length ∧ kk = nI k) ∧ ∃ c, c ≤ aw A (vnat r) ∧ co = nI c) (.int (if co = nI (aw A (vnat r)) then nI (tmG (aB A (vnat r)) (vnat kk)) else cellR (rowG (aB A (vnat r)) (vnat kk)) (vnat co))) A) (XR K x 1 (isR A r ∧ (∃ k, k < (aB A (vnat r)).length ∧ kk = nI k) ∧ ∃ c, c ≤ aw A (vnat r) ∧ co = nI c) A) 4 24 := by
  refine ct_of (by decide) (Nat.le_of_ble_eq_true rfl) ?_
  intro X hl hK hX hE hn hL hR hm
  subst hl; subst hK
  show J X 0 0 g 0 [(0, .ref x), (1, .int r), (2, .int kk), (3, .int co)] []
  refine j_aload_n hX dX10_cell_0 0 rfl ?_
  refine j_iload_n hX dX10_cell_1 1 rfl ?_
  refine j_callV (As := [.int r]) (rest := []) hX (c_X10_relationAt (xl X) (xK X) g hlt x (yra Y) (yta Y) (yR Y) hC.1 (ynb Y) (yxb Y) (vwf A Y) (aw A) (fun i => nI ((fun _ => 0) i)) ch hC.rels (fun i hi => (hI i hi).1.1) r) hC.1.1 rfl lk_X10_48 wI_X10_relationAt wV_X10_X10_relationAt wN_X10 wC_X10_relationAt hd_X10_relationAt rfl (by rw [hL]; decide) (by decide) rfl (Nat.le_of_ble_eq_true rfl) dX10_cell_2 (by rw [hR]; decide) (by rw [hR]; decide) (fun E g9 h9 => jx_out hX hE ⟨h9.1, fun q => h9.2.2 q.1, by rw [← h9.2.1]; exact ⟨Y, ch, N, hC⟩⟩ (by decide) (by decide)) ?_
  rintro _ _ ⟨i, hi, ei, wi, rfl, rfl⟩
  have zi : vnat r = i := by rw [ei, vnat_nI (by omega)]
  have qi : isR A r := ⟨i, hi, ei, wi⟩
  have ri : g (yR Y i) = some (ob 6 [.ref (ynb Y i), .ref (yxb Y i), vwf A Y i, .int (nI (aw A i)), .int (nI 0), .int (ch i)]) := (hC.2.2.1 i hi).1
  obtain ⟨ni, cfi, tfi, bi, hbi⟩ := (hC.2.2.1 i hi).2.1
  obtain ⟨eni, rpi⟩ := hbi wi
  subst eni
  have gi := (hI i hi).2.2.1.1
  show J X 2 12 g 5 [(0, .ref x), (1, .int r), (2, .int kk), (3, .int co)] [.ref (yR Y i)]
  refine j_astore (lv' := [(4, .ref (yR Y i)), (0, .ref x), (1, .int r), (2, .int kk), (3, .int co)]) hX dX10_cell_5 (by rw [hn]; decide) rfl ?_
  rcases i32_in kk (aB A i).length (by have := gi.2.1; omega) with h9c | ⟨k, hk, ek⟩
  · refine j_iload_n hX dX10_cell_7 3 rfl ?_
    refine j_if_lt hX 23 dX10_cell_8 (by decide) (fun c_8 => ?_) (fun c_8 => ?_)
    · exact j_IOO hX hE hlt sk_X10_167 (by rw [hL]; decide) (Nat.le_of_ble_eq_true rfl) dX10_cell_23 dX10_cell_26 dX10_cell_27 dX10_cell_29 dX10_cell_32 (⟨rfl, fun q => by have := q.2.1; rw [zi] at this; exact i32_out (by have := gi.2.1; omega) h9c this, Y, ch, N, hC⟩) (by decide) (by decide) (by rw [hR]; decide) (by rw [hR]; decide)
    · refine j_iload_n hX dX10_cell_11 3 rfl ?_
      refine j_aload hX dX10_cell_12 0 rfl ?_
      refine j_getN (v := .ref (ynb Y i)) hX ri rfl wf_X6 0 (by decide) nk_X10_35 (fun _ h => h) rfl dX10_cell_14 ?_
      refine j_getN (v := .int (nI (aB A i).length)) hX bi.1 rfl wf_X0 2 (by decide) nk_X10_158 (fun _ h => h) rfl dX10_cell_17 ?_
      refine j_icmp_lt hX 33 dX10_cell_20 (by decide) (fun c_20 => absurd c_20 (fun q => absurd q (Int32.not_lt.mpr (h9c.resolve_left c_8)))) (fun _ => ?_)
      exact j_IOO hX hE hlt sk_X10_167 (by rw [hL]; decide) (Nat.le_of_ble_eq_true rfl) dX10_cell_23 dX10_cell_26 dX10_cell_27 dX10_cell_29 dX10_cell_32 (⟨rfl, fun q => by have := q.2.1; rw [zi] at this; exact i32_out (by have := gi.2.1; omega) h9c this, Y, ch, N, hC⟩) (by decide) (by decide) (by rw [hR]; decide) (by rw [hR]; decide)
  · refine j_iload_n hX dX10_cell_7 3 rfl ?_
    refine j_if_lt hX 23 dX10_cell_8 (by decide) (fun c_8 => absurd c_8 (by rw [ek]; exact nI_pos (by have := gi.2.1; omega))) (fun _ => ?_)
    refine j_iload_n hX dX10_cell_11 3 rfl ?_
    refine j_aload hX dX10_cell_12 0 rfl ?_
    refine j_getN (v := .ref (ynb Y i)) hX ri rfl wf_X6 0 (by decide) nk_X10_35 (fun _ h => h) rfl dX10_cell_14 ?_
    refine j_getN (v := .int (nI (aB A i).length)) hX bi.1 rfl wf_X0 2 (by decide) nk_X10_158 (fun _ h => h) rfl dX10_cell_17 ?_
    refine j_icmp_lt hX 33 dX10_cell_20 (by decide) (fun _ => ?_) (fun c_20 => absurd (by rw [ek]; exact nI_lt hk (by have := gi.2.1; omega)) c_20)
    refine j_iload_n hX dX10_cell_33 4 rfl ?_
    refine j_aload hX dX10_cell_34 0 rfl ?_
    refine j_getN (v := .int (nI (aw A i))) hX ri rfl wf_X6 3 (by decide) nk_X10_57 (fun _ h => h) rfl dX10_cell_36 ?_
    refine j_icmp_ne hX 53 dX10_cell_39 (by decide) (fun c_39 => ?_) (fun c_39 => ?_)
    · refine j_aload hX dX10_cell_53 0 rfl ?_
      refine j_iload_n hX dX10_cell_55 4 rfl ?_
      refine j_callS (As := [.ref (yR Y i), .int co]) (rest := []) hX (c_X10_needColumn (xl X) (xK X) g hlt (yR Y i) (ynb Y i) (yxb Y i) (vwf A Y i) (aw A i) (nI 0) (ch i) ri (hI i hi).1.1 co) lk_X10_51 wS_X10_needColumn wN_X10 wC_X10_needColumn hd_X10_needColumn rfl (by rw [hL]; decide) (by decide) rfl (Nat.le_of_ble_eq_true rfl) dX10_cell_56 (by rw [hR]; decide) (by rw [hR]; decide) (fun E g9 h9 => jx_out hX hE ⟨h9.1, fun q => by obtain ⟨c9, b1, b2⟩ := q.2.2; rw [zi] at b1; exact h9.2.2 ⟨c9, Nat.lt_of_le_of_ne b1 (fun e => c_39 (by rw [b2, e])), b2⟩, by rw [← h9.2.1]; exact ⟨Y, ch, N, hC⟩⟩ (by decide) (by decide)) ?_
      rintro _ _ ⟨rfl, rfl, c9, hc9, ec9⟩
      refine j_sub (lv' := [(0, .ref x), (1, .int r), (2, .int (nI k)), (3, .int (nI c9)), (4, .ref (yR Y i))]) [1, 2, 3, 4, 0] (by rw [← ek, ← ec9]; rfl) ?_
      refine j_aload hX dX10_cell_59 4 rfl ?_
      refine j_getN (v := .ref (ynb Y i)) hX ri rfl wf_X6 0 (by decide) nk_X10_35 (fun _ h => h) rfl dX10_cell_61 ?_
      refine j_iload_n hX dX10_cell_64 2 rfl ?_
      refine j_iload_n hX dX10_cell_65 3 rfl ?_
      refine j_callV (As := [.int (nI k), .int (nI c9)]) (rest := []) hX (c_X0_cellAt (xl X) (xK X) g (ynb Y i) (ync Y i) (yno Y i) (aB A i).length cfi tfi bi k c9 (by have := gi.2.1; omega) (by have := (hI i hi).1.1; omega)) bi.1 rfl lk_X10_173 wI_X0_cellAt wV_X0_X0_cellAt wN_X0 wC_X0_cellAt hd_X0_cellAt rfl (by rw [hL]; decide) (by decide) rfl (Nat.le_of_ble_eq_true rfl) dX10_cell_66 (by rw [hR]; decide) (by rw [hR]; decide) jx_no ?_
      rintro _ _ ⟨rfl, rfl⟩
      show J X 3 18 g 69 [(0, .ref x), (1, .int r), (2, .int (nI k)), (3, .int (nI c9)), (4, .ref (yR Y i))] [.int (cfi (4 * k + c9))]
      exact j_iret hX hE dX10_cell_69 (⟨by rw [zi, if_neg c_39, ek, ec9, vnat_nI (by have := gi.2.1; omega), vnat_nI (by have := (hI i hi).1.1; omega), rep_cell rpi hk (by have := (hI i hi).1.1; omega), rowG_at hk], ⟨qi, by rw [zi]; exact ⟨k, hk, ek⟩, c9, by rw [zi]; omega, ec9⟩, Y, ch, N, hC⟩) (by decide) (by decide)
    · refine j_aload hX dX10_cell_42 0 rfl ?_
      refine j_getN (v := .ref (ynb Y i)) hX ri rfl wf_X6 0 (by decide) nk_X10_35 (fun _ h => h) rfl dX10_cell_44 ?_
      refine j_getN (v := .ref (yno Y i)) hX bi.1 rfl wf_X0 1 (by decide) nk_X10_170 (fun _ h => h) rfl dX10_cell_47 ?_
      refine j_iload_n hX dX10_cell_50 3 rfl ?_
      refine j_ialdN hX bi.2.2 (k) (ek) (by have := gi.2.1; omega) (by decide) dX10_cell_51 ?_
      exact j_iret hX hE dX10_cell_52 (⟨by rw [zi, c_39, if_pos rfl, ek, vnat_nI (by have := gi.2.1; omega), tmG_at hk, (rpi k _ (List.getElem?_eq_getElem hk)).2], ⟨qi, by rw [zi]; exact ⟨k, hk, ek⟩, aw A i, by rw [zi]; exact Nat.le_refl _, c_39⟩, Y, ch, N, hC⟩) (by decide) (by decide)

set_option maxRecDepth 20000 in
set_option maxHeartbeats 600000 in
/-- table -/
theorem c_X10_table (l : Launch) (K : Cst) (g : Wd) (hlt : l.stackTraces = false) (x : Nat) (A : Ab) (Y : Lt) (ch : Nat → Int32) (N : Nat → Bg) (hC : CS K g x A Y ch (fun _ => 0) N) (hI : Inv A) (r co : Int32) : Ct l K yX10_table cX10_table 4 none 9 [.ref x, .int r, .int co] g (PostG K x (tabO A r co)) (XG K x (tabO A r co)) 3 18 := by
  refine ct_of (by decide) (Nat.le_of_ble_eq_true rfl) ?_
  intro X hl hK hX hE hn hL hR hm
  subst hl; subst hK
  show J X 0 0 g 0 [(0, .ref x), (1, .int r), (2, .int co)] []
  refine j_aload_n hX dX10_table_0 0 rfl ?_
  refine j_iload_n hX dX10_table_1 1 rfl ?_
  refine j_callV (As := [.int r]) (rest := []) hX (c_X10_placeAt (xl X) (xK X) g hlt x (yra Y) (yta Y) (yR Y) hC.1 r) hC.1.1 rfl lk_X10_20 wI_X10_placeAt wV_X10_X10_placeAt wN_X10 wC_X10_placeAt hd_X10_placeAt rfl (by rw [hL]; decide) (by decide) rfl (Nat.le_of_ble_eq_true rfl) dX10_table_2 (by rw [hR]; decide) (by rw [hR]; decide) (fun E g9 h9 => jx_out hX hE ⟨1, A, by decide, h9.1, Or.inl ⟨rfl, h9.2.2, rfl⟩, by rw [← h9.2.1]; exact ⟨Y, ch, N, hC⟩⟩ (by decide) (by decide)) ?_
  rintro _ _ ⟨i, hi, ei, rfl, rfl⟩
  have zi : vnat r = i := by rw [ei, vnat_nI (by omega)]
  have ri : g (yR Y i) = some (ob 6 [.ref (ynb Y i), .ref (yxb Y i), vwf A Y i, .int (nI (aw A i)), .int (nI 0), .int (ch i)]) := (hC.2.2.1 i hi).1
  show J X 1 6 g 5 [(0, .ref x), (1, .int r), (2, .int co)] [.ref (yR Y i)]
  refine j_astore_n (lv' := [(3, .ref (yR Y i)), (0, .ref x), (1, .int r), (2, .int co)]) hX dX10_table_5 (by rw [hn]; decide) rfl ?_
  refine j_aload_n hX dX10_table_6 0 rfl ?_
  refine j_callS (As := [.ref (yR Y i)]) (rest := []) hX (c_X10_needFree (xl X) (xK X) g hlt (yR Y i) (ynb Y i) (yxb Y i) (vwf A Y i) (aw A i) (nI 0) (ch i) ri (hI i hi).1.1) lk_X10_24 wS_X10_needFree wN_X10 wC_X10_needFree hd_X10_needFree rfl (by rw [hL]; decide) (by decide) rfl (Nat.le_of_ble_eq_true rfl) dX10_table_7 (by rw [hR]; decide) (by rw [hR]; decide) (fun E g9 h9 => jx_out hX hE ⟨2, A, by decide, h9.1, Or.inr (Or.inl ⟨rfl, ⟨i, hi, ei⟩, by rw [zi]; exact h9.2.2, rfl⟩), by rw [← h9.2.1]; exact ⟨Y, ch, N, hC⟩⟩ (by decide) (by decide)) ?_
  rintro _ _ ⟨rfl, fi, rfl⟩
  show J X 2 12 g 10 [(3, .ref (yR Y i)), (0, .ref x), (1, .int r), (2, .int co)] []
  have h9 : (co < nI 1 ∨ nI 5 ≤ co) ∨ ∃ w9, 1 ≤ w9 ∧ w9 < 5 ∧ co = nI w9 := by
    rcases i32_in co 5 (by decide) with (h | h) | ⟨w9, h1, h2⟩
    · exact Or.inl (Or.inl (Int32.lt_trans h (by decide)))
    · exact Or.inl (Or.inr h)
    · rcases Nat.eq_zero_or_pos w9 with e | e
      · exact Or.inl (Or.inl (by rw [h2, e]; decide))
      · exact Or.inr ⟨w9, e, h1, h2⟩
  rcases h9 with h9c | ⟨w9, hw1, hw5, ew⟩
  · refine j_iload_n hX dX10_table_10 3 rfl ?_
    refine j_iconst (v := nI 1) hX dX10_table_11 (by decide) ?_
    refine j_icmp_lt hX 20 dX10_table_12 (by decide) (fun c_12 => ?_) (fun c_12 => ?_)
    · exact j_IAE hX hE hlt sk_X10_30 (by rw [hL]; decide) (Nat.le_of_ble_eq_true rfl) dX10_table_20 dX10_table_23 dX10_table_24 dX10_table_26 dX10_table_29 (⟨3, A, by decide, rfl, Or.inr (Or.inr (Or.inl ⟨rfl, ⟨i, hi, ei⟩, by rw [zi]; omega, fun ⟨w9, b1, b2, b3⟩ => by rcases h9c with q | q; exact nI_nlt b1 (by omega) (by rw [b3] at q; exact q); exact nI_ge (show w9 < 5 by omega) (by decide) (by rw [b3] at q; exact q), rfl⟩)), Y, ch, N, hC⟩) (by decide) (by decide) (by rw [hR]; decide) (by rw [hR]; decide)
    · refine j_iload_n hX dX10_table_15 3 rfl ?_
      refine j_iconst (v := nI 4) hX dX10_table_16 (by decide) ?_
      refine j_icmp_le hX 30 dX10_table_17 (by decide) (fun c_17 => absurd c_17 (fun q => (h9c.resolve_left c_12) |> fun z => absurd (Int32.le_trans z q) (nI_ge (a := 4) (b := 5) (by decide) (by decide)))) (fun _ => ?_)
      exact j_IAE hX hE hlt sk_X10_30 (by rw [hL]; decide) (Nat.le_of_ble_eq_true rfl) dX10_table_20 dX10_table_23 dX10_table_24 dX10_table_26 dX10_table_29 (⟨3, A, by decide, rfl, Or.inr (Or.inr (Or.inl ⟨rfl, ⟨i, hi, ei⟩, by rw [zi]; omega, fun ⟨w9, b1, b2, b3⟩ => by rcases h9c with q | q; exact nI_nlt b1 (by omega) (by rw [b3] at q; exact q); exact nI_ge (show w9 < 5 by omega) (by decide) (by rw [b3] at q; exact q), rfl⟩)), Y, ch, N, hC⟩) (by decide) (by decide) (by rw [hR]; decide) (by rw [hR]; decide)
  · refine j_iload_n hX dX10_table_10 3 rfl ?_
    refine j_iconst (v := nI 1) hX dX10_table_11 (by decide) ?_
    refine j_icmp_lt hX 20 dX10_table_12 (by decide) (fun c_12 => absurd c_12 (by rw [ew]; exact nI_nlt hw1 (by omega))) (fun _ => ?_)
    refine j_iload_n hX dX10_table_15 3 rfl ?_
    refine j_iconst (v := nI 4) hX dX10_table_16 (by decide) ?_
    refine j_icmp_le hX 30 dX10_table_17 (by decide) (fun _ => ?_) (fun c_17 => absurd (by rw [ew]; exact nI_le (by omega) (by decide)) c_17)
    refine j_aload_n hX dX10_table_30 0 rfl ?_
    refine j_getN (v := .ref (ynb Y i)) hX ri rfl wf_X6 0 (by decide) nk_X10_35 (fun _ h => h) rfl dX10_table_31 ?_
    obtain ⟨n1, cf1, tf1, b1, _⟩ := (hC.2.2.1 i hi).2.1
    obtain ⟨n2, cf2, tf2, b2, _⟩ := (hC.2.2.1 i hi).2.2.1
    refine j_callV (As := []) (rest := []) hX (c_X0_clear (xl X) (xK X) g (ynb Y i) (ync Y i) (yno Y i) n1 cf1 tf1 b1) b1.1 rfl lk_X10_39 wI_X0_clear wV_X0_X0_clear wN_X0 wC_X0_clear hd_X0_clear rfl (by rw [hL]; decide) (by decide) rfl (Nat.le_of_ble_eq_true rfl) dX10_table_34 (by rw [hR]; decide) (by rw [hR]; decide) jx_no ?_
    rintro _ g1 ⟨rfl, B1, hF1⟩
    have e1 : ∀ q, q ≠ ynb Y i → g1 q = g q := fun q hq => hF1 q (nm1 hq)
    have s1 : g1 (yR Y i) = some (ob 6 [.ref (ynb Y i), .ref (yxb Y i), vwf A Y i, .int (nI (aw A i)), .int (nI 0), .int (ch i)]) := (e1 _ (ne_ob ri b1.1 (ob_ci (by decide)))).trans ri
    show J X 2 12 g1 37 [(3, .ref (yR Y i)), (0, .ref x), (1, .int r), (2, .int co)] []
    refine j_aload_n hX dX10_table_37 0 rfl ?_
    refine j_iload_n hX dX10_table_38 3 rfl ?_
    refine j_null hX dX10_table_39 ?_
    refine j_callV (As := [.int co, .null]) (rest := []) hX (c_X6_begin_n (xl X) (xK X) g1 (yR Y i) (ynb Y i) (yxb Y i) (nI (aw A i)) (nI 0) (ch i) (vwf A Y i) co s1) s1 rfl lk_X10_44 wI_X6_begin wV_X6_X6_begin wN_X6 wC_X6_begin hd_X6_begin rfl (by rw [hL]; decide) (by decide) rfl (Nat.le_of_ble_eq_true rfl) dX10_table_40 (by rw [hR]; decide) (by rw [hR]; decide) jx_no ?_
    rintro _ g3 ⟨rfl, eg3⟩
    have e3 : ∀ q, q ≠ yR Y i → g3 q = g1 q := fun q hq => by rw [← eg3]; exact up_n hq
    have s3 := (congrFun eg3 (yR Y i)).symm.trans (up_s _ _ _)
    obtain ⟨tf0, ht0, _⟩ := hC.2.1
    show J X 2 12 g3 43 [(3, .ref (yR Y i)), (0, .ref x), (1, .int r), (2, .int co)] []
    exact j_vret hX hE dX10_table_43 (⟨rfl, setA A i w9 1 0 0 (fun _ => 0) false [], (by unfold tabO OutG; rw [zi, ew, vnat_nI (by omega)]; exact Or.inr (Or.inr (Or.inr (Or.inr ⟨rfl, ⟨i, hi, ei⟩, by omega, ⟨w9, hw1, by omega, rfl⟩, (), trivial, rfl⟩)))), Y, fu ch i 0, N, hC.put hi (fun q e hq h1 h2 h3 h4 h5 h6 h7 h8 h9 => by rw [e3 q h1, e1 q h2]; exact hq) ⟨tf0, (e3 _ (ne_ob ht0 ri aI_ob)).trans ((e1 _ (ne_ob ht0 b1.1 aI_ob)).trans ht0), trivial⟩ ⟨rfl, rfl, rfl⟩ (by
        unfold RI vwf
        simp only [aw_set, ak_set, al_set, ar_set, an_set, ao_set, aB_set, ac_set, ad_set, yra_set, yta_set, ynb_set, ync_set, yno_set, yxb_set, yxc_set, yxo_set, yR_set, yV_set, yw_set, yk_set, fu_s]
        exact ⟨by rw [← ew]; exact s3, ⟨0, cf1, tf1, ⟨(e3 _ (ne_ob B1.1 s1 (ob_ci (by decide)))).trans B1.1, (e3 _ (ne_ob B1.2.1 s1 aI_ob)).trans B1.2.1, (e3 _ (ne_ob B1.2.2 s1 aI_ob)).trans B1.2.2⟩, fun _ => ⟨rfl, fun k y hy => by simp at hy⟩⟩, ⟨n2, cf2, tf2, ⟨(e3 _ (ne_ob b2.1 ri (ob_ci (by decide)))).trans ((e1 _ (hC.2.2.2.2.1.1 i hi i hi).2.2.symm).trans b2.1), (e3 _ (ne_ob b2.2.1 ri aI_ob)).trans ((e1 _ (ne_ob b2.2.1 b1.1 aI_ob)).trans b2.2.1), (e3 _ (ne_ob b2.2.2 ri aI_ob)).trans ((e1 _ (ne_ob b2.2.2 b1.1 aI_ob)).trans b2.2.2)⟩, fun q => absurd q (Nat.lt_irrefl 0)⟩, fun q => absurd q (by decide), fun _ => rfl⟩) (hC.2.2.2.less (fun j hj => by
        by_cases hji : j = i
        · subst hji; simp only [aw_set, ak_set, al_set, ar_set, an_set, ao_set, aB_set, ac_set, ad_set, yra_set, yta_set, ynb_set, ync_set, yno_set, yxb_set, yxc_set, yxo_set, yR_set, yV_set, yw_set, yk_set, fu_s] at hj; omega
        · simp only [aw_set, ak_set, al_set, ar_set, an_set, ao_set, aB_set, ac_set, ad_set, yra_set, yta_set, ynb_set, ync_set, yno_set, yxb_set, yxc_set, yxo_set, yR_set, yV_set, yw_set, yk_set, fu_n hji])) (fun j _ => ⟨rfl, rfl, rfl, rfl, rfl, rfl⟩) (fun j _ => ⟨rfl, rfl, rfl⟩) (fun j h => ⟨fu_n h, fu_n h, fu_n h, fu_n h, fu_n h, fu_n h, fu_n h, fu_n h, fu_n h⟩) (fun j h => ⟨fu_n h, rfl, rfl⟩) (fun q e _ zn => ⟨(zn.2 i hi).1, fun k9 => absurd (show 2 ≤ fu (ak A) i 1 i from k9) (by rw [fu_s]; omega)⟩)⟩) (by decide) (by decide)

