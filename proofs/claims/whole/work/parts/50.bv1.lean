/-- the relations' objects: by their places -/
def relsAt (g : Wd) (R nw nx : Nat → Nat) (vw : Nat → Value) (w : Nat → Nat) (pd ch : Nat → Int32) : Prop := ∀ i, i < 8 → g (R i) = some (ob 6 [.ref (nw i), .ref (nx i), vw i, .int (nI (w i)), .int (pd i), .int (ch i)])
/-- the object itself: its relations, its row -/
def bvAt (K : Cst) (g : Wd) (x ra ta : Nat) (R : Nat → Nat) : Prop := g x = some (ob 9 [.ref ra, .ref ta]) ∧ ∃ f, g ra = some (aQ K 8 f) ∧ ∀ i, i < 8 → f i = some (R i)
theorem i32_in (r : Int32) (n : Nat) (hn : n < 2 ^ 31) : (r < 0 ∨ nI n ≤ r) ∨ ∃ i, i < n ∧ r = nI i := by
  rcases pk_ix r hn with h | h | h
  · exact Or.inl (Or.inl h)
  · exact Or.inl (Or.inr h)
  · exact Or.inr h
theorem i32_out {r : Int32} {n : Nat} (hn : n < 2 ^ 31) (h : r < 0 ∨ nI n ≤ r) : ¬ ∃ i, i < n ∧ r = nI i := by
  rintro ⟨i, hi, rfl⟩
  rcases h with h | h
  · exact nI_pos (by omega) h
  · exact nI_ge hi hn h
set_option maxRecDepth 20000 in
set_option maxHeartbeats 600000 in
/-- placeAt(r) -/
theorem c_X10_placeAt (l : Launch) (K : Cst) (g : Wd) (hlt : l.stackTraces = false) (x ra ta : Nat) (R : Nat → Nat) (hx : bvAt K g x ra ta R) (r : Int32) : Ct l K yX10_placeAt cX10_placeAt 2 (some (.object "BagViews$Relation")) 6 [.ref x, .int r] g (fun v g' => ∃ i, i < 8 ∧ r = nI i ∧ v = some (.ref (R i)) ∧ g = g') (fun E g' => E = "java/lang/IndexOutOfBoundsException" ∧ g = g' ∧ ¬ ∃ i, i < 8 ∧ r = nI i) 1 6 := by
  refine ct_of (by decide) (Nat.le_of_ble_eq_true rfl) ?_
  intro X hl hK hX hE hn hL hR hm
  subst hl; subst hK
  show J X 0 0 g 0 [(0, .ref x), (1, .int r)] []
  obtain ⟨f, hra, hf⟩ := hx.2
  rcases i32_in r 8 (by decide) with h9 | ⟨i, hi, rfl⟩
  · refine j_iload_n hX dX10_placeAt_0 1 rfl ?_
    refine j_if_lt hX 10 dX10_placeAt_1 (by decide) (fun c_1 => ?_) (fun c_1 => ?_)
    · exact j_IOO hX hE hlt sk_X10_194 (by rw [hL]; decide) (Nat.le_of_ble_eq_true rfl) dX10_placeAt_10 dX10_placeAt_13 dX10_placeAt_14 dX10_placeAt_16 dX10_placeAt_19 (⟨rfl, rfl, i32_out (by decide) h9⟩) (by decide) (by decide) (by rw [hR]; decide) (by rw [hR]; decide)
    · refine j_iload_n hX dX10_placeAt_4 1 rfl ?_
      refine j_bipush (v := nI 8) hX dX10_placeAt_5 (by decide) ?_
      refine j_icmp_lt hX 20 dX10_placeAt_7 (by decide) (fun c_7 => absurd c_7 (fun q => (h9.resolve_left c_1) |> fun z => absurd q (Int32.not_lt.mpr z))) (fun _ => ?_)
      exact j_IOO hX hE hlt sk_X10_194 (by rw [hL]; decide) (Nat.le_of_ble_eq_true rfl) dX10_placeAt_10 dX10_placeAt_13 dX10_placeAt_14 dX10_placeAt_16 dX10_placeAt_19 (⟨rfl, rfl, i32_out (by decide) h9⟩) (by decide) (by decide) (by rw [hR]; decide) (by rw [hR]; decide)
  · refine j_iload_n hX dX10_placeAt_0 1 rfl ?_
    refine j_if_lt hX 10 dX10_placeAt_1 (by decide) (fun c_1 => absurd c_1 (nI_pos (n := i) (by omega))) (fun _ => ?_)
    refine j_iload_n hX dX10_placeAt_4 1 rfl ?_
    refine j_bipush (v := nI 8) hX dX10_placeAt_5 (by decide) ?_
    refine j_icmp_lt hX 20 dX10_placeAt_7 (by decide) (fun _ => ?_) (fun c_7 => absurd (nI_lt hi (by decide)) c_7)
    refine j_aload_n hX dX10_placeAt_20 0 rfl ?_
    refine j_get (v := .ref ra) hX hx.1 rfl wf_X10 0 (by decide) lk_X10_11 (fun _ h => h) rfl dX10_placeAt_21 ?_
    refine j_iload_n hX dX10_placeAt_24 1 rfl ?_
    refine j_aaldN hX hra (i) (rfl) (hi) (by decide) (hf i hi) dX10_placeAt_25 ?_
    exact j_aret hX hE dX10_placeAt_26 (⟨i, hi, rfl, rfl, rfl⟩) (by decide) (by decide)

set_option maxRecDepth 20000 in
set_option maxHeartbeats 600000 in
/-- relationAt(r) -/
theorem c_X10_relationAt (l : Launch) (K : Cst) (g : Wd) (hlt : l.stackTraces = false) (x ra ta : Nat) (R : Nat → Nat) (hx : bvAt K g x ra ta R) (nw nx : Nat → Nat) (vw : Nat → Value) (w : Nat → Nat) (pd ch : Nat → Int32) (hrel : relsAt g R nw nx vw w pd ch) (hw : ∀ i, i < 8 → w i ≤ 4) (r : Int32) : Ct l K yX10_relationAt cX10_relationAt 3 (some (.object "BagViews$Relation")) 7 [.ref x, .int r] g (fun v g' => ∃ i, i < 8 ∧ r = nI i ∧ 0 < w i ∧ v = some (.ref (R i)) ∧ g = g') (fun E g' => E = "java/lang/IndexOutOfBoundsException" ∧ g = g' ∧ ¬ ∃ i, i < 8 ∧ r = nI i ∧ 0 < w i) 2 12 := by
  refine ct_of (by decide) (Nat.le_of_ble_eq_true rfl) ?_
  intro X hl hK hX hE hn hL hR hm
  subst hl; subst hK
  show J X 0 0 g 0 [(0, .ref x), (1, .int r)] []
  refine j_aload_n hX dX10_relationAt_0 0 rfl ?_
  refine j_iload_n hX dX10_relationAt_1 1 rfl ?_
  refine j_callV (As := [.int r]) (rest := []) hX (c_X10_placeAt (xl X) (xK X) g hlt x ra ta R hx r) hx.1 rfl lk_X10_20 wI_X10_placeAt wV_X10_X10_placeAt wN_X10 wC_X10_placeAt hd_X10_placeAt rfl (by rw [hL]; decide) (by decide) rfl (Nat.le_of_ble_eq_true rfl) dX10_relationAt_2 (by rw [hR]; decide) (by rw [hR]; decide) (fun E g9 h9 => jx_out hX hE ⟨h9.1, h9.2.1, fun ⟨i, h1, h2, _⟩ => h9.2.2 ⟨i, h1, h2⟩⟩ (by decide) (by decide)) ?_
  rintro _ _ ⟨i, hi, hri, rfl, rfl⟩
  show J X 1 6 g 5 [(0, .ref x), (1, .int r)] [.ref (R i)]
  refine j_astore_n (lv' := [(2, .ref (R i)), (0, .ref x), (1, .int r)]) hX dX10_relationAt_5 (by rw [hn]; decide) rfl ?_
  refine j_aload_n hX dX10_relationAt_6 0 rfl ?_
  refine j_callV (As := []) (rest := []) hX (c_X6_isThere (xl X) (xK X) g (R i) (nw i) (nx i) (w i) (pd i) (ch i) (vw i) (by have := hw i hi; omega) (hrel i hi)) (hrel i hi) rfl lk_X10_182 wI_X6_isThere wV_X6_X6_isThere wN_X6 wC_X6_isThere hd_X6_isThere rfl (by rw [hL]; decide) (by decide) rfl (Nat.le_of_ble_eq_true rfl) dX10_relationAt_7 (by rw [hR]; decide) (by rw [hR]; decide) jx_no ?_
  rintro _ _ ⟨rfl, rfl⟩
  show J X 1 6 g 10 [(2, .ref (R i)), (0, .ref x), (1, .int r)] [.int (b01 (decide (0 < w i)))]
  refine j_if_ne hX 23 dX10_relationAt_10 (by decide) (fun c_10 => ?_) (fun c_10 => ?_)
  · have c10 := of_decide_eq_true (b01_t c_10)
    refine j_aload_n hX dX10_relationAt_23 0 rfl ?_
    exact j_aret hX hE dX10_relationAt_24 (⟨i, hi, hri, c10, rfl, rfl⟩) (by decide) (by decide)
  · have c10 : ¬ 0 < w i := fun q => b01_f c_10 (decide_eq_true q)
    exact j_IOO hX hE hlt sk_X10_196 (by rw [hL]; decide) (Nat.le_of_ble_eq_true rfl) dX10_relationAt_13 dX10_relationAt_16 dX10_relationAt_17 dX10_relationAt_19 dX10_relationAt_22 (⟨rfl, rfl, fun ⟨j, h1, h2, h3⟩ => c10 (by rw [(nI_eq (by omega) (by omega)).mp (hri.symm.trans h2)]; exact h3)⟩) (by decide) (by decide) (by rw [hR]; decide) (by rw [hR]; decide)

set_option maxRecDepth 20000 in
set_option maxHeartbeats 600000 in
/-- tableAt(r) -/
theorem c_X10_tableAt (l : Launch) (K : Cst) (g : Wd) (hlt : l.stackTraces = false) (x ra ta : Nat) (R : Nat → Nat) (hx : bvAt K g x ra ta R) (nw nx : Nat → Nat) (vw : Nat → Value) (w : Nat → Nat) (pd ch : Nat → Int32) (hrel : relsAt g R nw nx vw w pd ch) (hw : ∀ i, i < 8 → w i ≤ 4) (hvw : ∀ i, i < 8 → vw i = .null ∨ ∃ v, vw i = .ref v) (r : Int32) : Ct l K yX10_tableAt cX10_tableAt 3 (some (.object "BagViews$Relation")) 8 [.ref x, .int r] g (fun v g' => ∃ i, i < 8 ∧ r = nI i ∧ 0 < w i ∧ vw i = .null ∧ v = some (.ref (R i)) ∧ g = g') (fun E g' => (E = "java/lang/IndexOutOfBoundsException" ∧ g = g' ∧ ¬ ∃ i, i < 8 ∧ r = nI i ∧ 0 < w i) ∨ (E = "java/lang/IllegalStateException" ∧ g = g' ∧ ∃ i, i < 8 ∧ r = nI i ∧ 0 < w i ∧ ∃ v, vw i = .ref v)) 3 18 := by
  refine ct_of (by decide) (Nat.le_of_ble_eq_true rfl) ?_
  intro X hl hK hX hE hn hL hR hm
  subst hl; subst hK
  show J X 0 0 g 0 [(0, .ref x), (1, .int r)] []
  refine j_aload_n hX dX10_tableAt_0 0 rfl ?_
  refine j_iload_n hX dX10_tableAt_1 1 rfl ?_
  refine j_callV (As := [.int r]) (rest := []) hX (c_X10_relationAt (xl X) (xK X) g hlt x ra ta R hx nw nx vw w pd ch hrel hw r) hx.1 rfl lk_X10_48 wI_X10_relationAt wV_X10_X10_relationAt wN_X10 wC_X10_relationAt hd_X10_relationAt rfl (by rw [hL]; decide) (by decide) rfl (Nat.le_of_ble_eq_true rfl) dX10_tableAt_2 (by rw [hR]; decide) (by rw [hR]; decide) (fun E g9 h9 => jx_out hX hE (Or.inl ⟨h9.1, h9.2.1, h9.2.2⟩) (by decide) (by decide)) ?_
  rintro _ _ ⟨i, hi, hri, hw9, rfl, rfl⟩
  show J X 2 12 g 5 [(0, .ref x), (1, .int r)] [.ref (R i)]
  refine j_astore_n (lv' := [(2, .ref (R i)), (0, .ref x), (1, .int r)]) hX dX10_tableAt_5 (by rw [hn]; decide) rfl ?_
  refine j_aload_n hX dX10_tableAt_6 0 rfl ?_
  refine j_getN (v := vw i) hX (hrel i hi) rfl wf_X6 2 (by decide) nk_X10_190 (fun _ h => h) rfl dX10_tableAt_7 ?_
  rcases hvw i hi with h9 | ⟨v9, h9⟩
  · rw [h9]
    refine j_ifnull_n hX 23 dX10_tableAt_10 (by decide) ?_
    refine j_aload_n hX dX10_tableAt_23 0 rfl ?_
    exact j_aret hX hE dX10_tableAt_24 (⟨i, hi, hri, hw9, h9, rfl, rfl⟩) (by decide) (by decide)
  · rw [h9]
    refine j_ifnull_r hX dX10_tableAt_10 ?_
    exact j_ISE hX hE hlt sk_X10_198 (by rw [hL]; decide) (Nat.le_of_ble_eq_true rfl) dX10_tableAt_13 dX10_tableAt_16 dX10_tableAt_17 dX10_tableAt_19 dX10_tableAt_22 (Or.inr ⟨rfl, rfl, i, hi, hri, hw9, v9, h9⟩) (by decide) (by decide) (by rw [hR]; decide) (by rw [hR]; decide)

set_option maxRecDepth 20000 in
set_option maxHeartbeats 600000 in
/-- needFree(made) -/
theorem c_X10_needFree (l : Launch) (K : Cst) (g : Wd) (hlt : l.stackTraces = false) (r nw nx : Nat) (vw : Value) (w : Nat) (pd ch : Int32) (hr : g r = some (ob 6 [.ref nw, .ref nx, vw, .int (nI w), .int pd, .int ch])) (hw : w ≤ 4) : Ct l K yX10_needFree cX10_needFree 1 none 6 [.ref r] g (fun v g' => v = none ∧ w = 0 ∧ g = g') (fun E g' => E = "java/lang/IllegalStateException" ∧ g = g' ∧ 0 < w) 1 6 := by
  refine ct_of (by decide) (Nat.le_of_ble_eq_true rfl) ?_
  intro X hl hK hX hE hn hL hR hm
  subst hl; subst hK
  show J X 0 0 g 0 [(0, .ref r)] []
  refine j_aload_n hX dX10_needFree_0 0 rfl ?_
  refine j_callV (As := []) (rest := []) hX (c_X6_isThere (xl X) (xK X) g r nw nx w pd ch vw (by omega) hr) hr rfl lk_X10_182 wI_X6_isThere wV_X6_X6_isThere wN_X6 wC_X6_isThere hd_X6_isThere rfl (by rw [hL]; decide) (by decide) rfl (Nat.le_of_ble_eq_true rfl) dX10_needFree_1 (by rw [hR]; decide) (by rw [hR]; decide) jx_no ?_
  rintro _ _ ⟨rfl, rfl⟩
  show J X 0 0 g 4 [(0, .ref r)] [.int (b01 (decide (0 < w)))]
  refine j_if_eq hX 17 dX10_needFree_4 (by decide) (fun c_4 => ?_) (fun c_4 => ?_)
  · have c4 : w = 0 := by have := b01_f c_4; simp at this; omega
    exact j_vret hX hE dX10_needFree_17 (⟨rfl, c4, rfl⟩) (by decide) (by decide)
  · have c4 := of_decide_eq_true (b01_t c_4)
    exact j_ISE hX hE hlt sk_X10_200 (by rw [hL]; decide) (Nat.le_of_ble_eq_true rfl) dX10_needFree_7 dX10_needFree_10 dX10_needFree_11 dX10_needFree_13 dX10_needFree_16 (⟨rfl, rfl, c4⟩) (by decide) (by decide) (by rw [hR]; decide) (by rw [hR]; decide)

set_option maxRecDepth 20000 in
set_option maxHeartbeats 600000 in
/-- needColumn(relation, column) -/
theorem c_X10_needColumn (l : Launch) (K : Cst) (g : Wd) (hlt : l.stackTraces = false) (r nw nx : Nat) (vw : Value) (w : Nat) (pd ch : Int32) (hr : g r = some (ob 6 [.ref nw, .ref nx, vw, .int (nI w), .int pd, .int ch])) (hw : w ≤ 4) (co : Int32) : Ct l K yX10_needColumn cX10_needColumn 2 none 6 [.ref r, .int co] g (fun v g' => v = none ∧ g = g' ∧ ∃ c, c < w ∧ co = nI c) (fun E g' => E = "java/lang/IndexOutOfBoundsException" ∧ g = g' ∧ ¬ ∃ c, c < w ∧ co = nI c) 1 6 := by
  refine ct_of (by decide) (Nat.le_of_ble_eq_true rfl) ?_
  intro X hl hK hX hE hn hL hR hm
  subst hl; subst hK
  show J X 0 0 g 0 [(0, .ref r), (1, .int co)] []
  rcases i32_in co w (by omega) with h9 | ⟨c, hc, rfl⟩
  · refine j_iload_n hX dX10_needColumn_0 1 rfl ?_
    refine j_if_lt hX 12 dX10_needColumn_1 (by decide) (fun c_1 => ?_) (fun c_1 => ?_)
    · exact j_IOO hX hE hlt sk_X10_202 (by rw [hL]; decide) (Nat.le_of_ble_eq_true rfl) dX10_needColumn_12 dX10_needColumn_15 dX10_needColumn_16 dX10_needColumn_18 dX10_needColumn_21 (⟨rfl, rfl, i32_out (by omega) h9⟩) (by decide) (by decide) (by rw [hR]; decide) (by rw [hR]; decide)
    · refine j_iload_n hX dX10_needColumn_4 1 rfl ?_
      refine j_aload_n hX dX10_needColumn_5 0 rfl ?_
      refine j_getN (v := .int (nI w)) hX hr rfl wf_X6 3 (by decide) nk_X10_57 (fun _ h => h) rfl dX10_needColumn_6 ?_
      refine j_icmp_lt hX 22 dX10_needColumn_9 (by decide) (fun c_9 => absurd c_9 (fun q => absurd q (Int32.not_lt.mpr (h9.resolve_left c_1)))) (fun _ => ?_)
      exact j_IOO hX hE hlt sk_X10_202 (by rw [hL]; decide) (Nat.le_of_ble_eq_true rfl) dX10_needColumn_12 dX10_needColumn_15 dX10_needColumn_16 dX10_needColumn_18 dX10_needColumn_21 (⟨rfl, rfl, i32_out (by omega) h9⟩) (by decide) (by decide) (by rw [hR]; decide) (by rw [hR]; decide)
  · refine j_iload_n hX dX10_needColumn_0 1 rfl ?_
    refine j_if_lt hX 12 dX10_needColumn_1 (by decide) (fun c_1 => absurd c_1 (nI_pos (n := c) (by omega))) (fun _ => ?_)
    refine j_iload_n hX dX10_needColumn_4 1 rfl ?_
    refine j_aload_n hX dX10_needColumn_5 0 rfl ?_
    refine j_getN (v := .int (nI w)) hX hr rfl wf_X6 3 (by decide) nk_X10_57 (fun _ h => h) rfl dX10_needColumn_6 ?_
    refine j_icmp_lt hX 22 dX10_needColumn_9 (by decide) (fun _ => ?_) (fun c_9 => absurd (nI_lt hc (by omega)) c_9)
    exact j_vret hX hE dX10_needColumn_22 (⟨rfl, rfl, c, hc, rfl⟩) (by decide) (by decide)

set_option maxRecDepth 20000 in
set_option maxHeartbeats 600000 in
/-- needColumnOrNone(relation, column) -/
theorem c_X10_needColumnOrNone (l : Launch) (K : Cst) (g : Wd) (hlt : l.stackTraces = false) (r nw nx : Nat) (vw : Value) (w : Nat) (pd ch : Int32) (hr : g r = some (ob 6 [.ref nw, .ref nx, vw, .int (nI w), .int pd, .int ch])) (hw : w ≤ 4) (co : Int32) : Ct l K yX10_needColumnOrNone cX10_needColumnOrNone 2 none 7 [.ref r, .int co] g (fun v g' => v = none ∧ g = g' ∧ (co = -1 ∨ ∃ c, c < w ∧ co = nI c)) (fun E g' => E = "java/lang/IndexOutOfBoundsException" ∧ g = g' ∧ ¬ (co = -1 ∨ ∃ c, c < w ∧ co = nI c)) 1 6 := by
  refine ct_of (by decide) (Nat.le_of_ble_eq_true rfl) ?_
  intro X hl hK hX hE hn hL hR hm
  subst hl; subst hK
  show J X 0 0 g 0 [(0, .ref r), (1, .int co)] []
  refine j_iload_n hX dX10_needColumnOrNone_0 1 rfl ?_
  refine j_iconst (v := (-1)) hX dX10_needColumnOrNone_1 (by decide) ?_
  refine j_icmp_eq hX 10 dX10_needColumnOrNone_2 (by decide) (fun c_2 => ?_) (fun c_2 => ?_)
  · exact j_vret hX hE dX10_needColumnOrNone_10 (⟨rfl, rfl, Or.inl c_2⟩) (by decide) (by decide)
  · refine j_aload_n hX dX10_needColumnOrNone_5 0 rfl ?_
    refine j_iload_n hX dX10_needColumnOrNone_6 1 rfl ?_
    refine j_callS (As := [.ref r, .int co]) (rest := []) hX (c_X10_needColumn (xl X) (xK X) g hlt r nw nx vw w pd ch hr hw co) lk_X10_51 wS_X10_needColumn wN_X10 wC_X10_needColumn hd_X10_needColumn rfl (by rw [hL]; decide) (by decide) rfl (Nat.le_of_ble_eq_true rfl) dX10_needColumnOrNone_7 (by rw [hR]; decide) (by rw [hR]; decide) (fun E g9 h9 => jx_out hX hE ⟨h9.1, h9.2.1, fun q => q.elim c_2 h9.2.2⟩ (by decide) (by decide)) ?_
    rintro _ _ ⟨rfl, rfl, hco⟩
    show J X 1 6 g 10 [(0, .ref r), (1, .int co)] []
    exact j_vret hX hE dX10_needColumnOrNone_10 (⟨rfl, rfl, Or.inr hco⟩) (by decide) (by decide)

set_option maxRecDepth 20000 in
set_option maxHeartbeats 600000 in
/-- countChosen(chosen) -/
theorem c_X10_countChosen (l : Launch) (K : Cst) (g : Wd) (hlt : l.stackTraces = false) (ck : Nat) (cf : Nat → Int32) (hck : g ck = some (aI K 4 cf)) : Ct l K yX10_countChosen cX10_countChosen 3 (some .int) 6 [.ref ck] g (fun v g' => ∃ k, 0 < k ∧ k ≤ 4 ∧ v = some (.int (nI k)) ∧ g = g' ∧ (∀ q, q < k → ¬ cf q = -1) ∧ ∀ q, k ≤ q → q < 4 → cf q = -1) (fun E g' => E = "java/lang/IllegalArgumentException" ∧ g = g' ∧ ¬ ∃ k, 0 < k ∧ k ≤ 4 ∧ (∀ q, q < k → ¬ cf q = -1) ∧ ∀ q, k ≤ q → q < 4 → cf q = -1) 1 6 := by
  refine ct_of (by decide) (Nat.le_of_ble_eq_true rfl) ?_
  intro X hl hK hX hE hn hL hR hm
  subst hl; subst hK
  show J X 0 0 g 0 [(0, .ref ck)] []
  have tail : ∀ k, k ≤ 4 → (∀ q, q < k → ¬ cf q = -1) → (4 ≤ k ∨ cf k = -1) → J X 0 0 g 21 [(1, .int (nI k)), (0, .ref ck)] [] := by
    intro k hk4 hpre hnx
    have loop2 : 0 < k → ∀ (m j : Nat), j + m = 4 → k ≤ j → (∀ q, k ≤ q → q < j → cf q = -1) → J X 0 0 g 37 [(2, .int (nI j)), (1, .int (nI k)), (0, .ref ck)] [] := by
      intro hk0 m
      induction m with
      | zero =>
        intro j hj hkj hmid
        refine j_iload_n hX dX10_countChosen_37 0 rfl ?_
        refine j_aload_n hX dX10_countChosen_38 2 rfl ?_
        refine j_alenI hX hck dX10_countChosen_39 ?_
        refine j_icmp_ge hX 66 dX10_countChosen_40 (by decide) (fun _ => ?_) (fun c_40 => absurd (nI_le (a := 4) (b := j) (by omega) (by omega)) c_40)
        refine j_iload_n hX dX10_countChosen_66 1 rfl ?_
        exact j_iret hX hE dX10_countChosen_67 (⟨k, by omega, hk4, rfl, rfl, hpre, fun q h1 h2 => hmid q h1 (by omega)⟩) (by decide) (by decide)
      | succ m ih =>
        intro j hj hkj hmid
        refine j_iload_n hX dX10_countChosen_37 0 rfl ?_
        refine j_aload_n hX dX10_countChosen_38 2 rfl ?_
        refine j_alenI hX hck dX10_countChosen_39 ?_
        refine j_icmp_ge hX 66 dX10_countChosen_40 (by decide) (fun c_40 => absurd c_40 (nI_ge (a := j) (b := 4) (by omega) (by decide))) (fun _ => ?_)
        refine j_aload_n hX dX10_countChosen_43 2 rfl ?_
        refine j_iload_n hX dX10_countChosen_44 0 rfl ?_
        refine j_ialdN hX hck (j) (rfl) (by omega) (by decide) dX10_countChosen_45 ?_
        refine j_iconst (v := (-1)) hX dX10_countChosen_46 (by decide) ?_
        refine j_icmp_eq hX 60 dX10_countChosen_47 (by decide) (fun c_47 => ?_) (fun c_47 => ?_)
        · refine j_iinc (v := nI (j + 1)) (lv' := [(2, .int (nI (j + 1))), (1, .int (nI k)), (0, .ref ck)]) hX dX10_countChosen_60 0 rfl (nI_1 j) (by rw [hn]; decide) rfl ?_
          refine j_goto hX 37 dX10_countChosen_63 (by decide) ?_
          refine j_sub [0, 1, 2] rfl ?_
          exact ih (j + 1) (by omega) (by omega) (fun q h1 h2 => by rcases Nat.lt_or_ge q j with z | z; exact hmid q h1 z; rw [show q = j by omega]; exact c_47)
        · exact j_IAE hX hE hlt sk_X10_206 (by rw [hL]; decide) (Nat.le_of_ble_eq_true rfl) dX10_countChosen_50 dX10_countChosen_53 dX10_countChosen_54 dX10_countChosen_56 dX10_countChosen_59 (⟨rfl, rfl, fun ⟨z, h1, h2, h3, h4⟩ => by
                      rcases Nat.lt_or_ge j z with q | q
                      · rcases hnx with q2 | q2
                        · omega
                        · exact h3 k (by omega) q2
                      · exact c_47 (h4 j q (by omega))⟩) (by decide) (by decide) (by rw [hR]; decide) (by rw [hR]; decide)
    refine j_iload_n hX dX10_countChosen_21 0 rfl ?_
    refine j_if_ne hX 35 dX10_countChosen_22 (by decide) (fun c_22 => ?_) (fun c_22 => ?_)
    · have hk0 : 0 < k := Nat.pos_of_ne_zero (fun q => c_22 (by rw [q]; rfl))
      refine j_iload_n hX dX10_countChosen_35 0 rfl ?_
      refine j_istore_n (lv' := [(2, .int (nI k)), (1, .int (nI k)), (0, .ref ck)]) hX dX10_countChosen_36 (by rw [hn]; decide) rfl ?_
      exact loop2 hk0 (4 - k) k (by omega) (Nat.le_refl _) (fun q h1 h2 => absurd h1 (by omega))
    · have hk0 : k = 0 := (nI_eq (by omega) (by omega)).mp c_22
      exact j_IAE hX hE hlt sk_X10_204 (by rw [hL]; decide) (Nat.le_of_ble_eq_true rfl) dX10_countChosen_25 dX10_countChosen_28 dX10_countChosen_29 dX10_countChosen_31 dX10_countChosen_34 (⟨rfl, rfl, fun ⟨z, h1, h2, h3, h4⟩ => by
              rcases hnx with q2 | q2
              · omega
              · exact h3 k (by omega) q2⟩) (by decide) (by decide) (by rw [hR]; decide) (by rw [hR]; decide)
  have loop : ∀ (m i : Nat), i + m = 4 → (∀ q, q < i → ¬ cf q = -1) → J X 0 0 g 2 [(1, .int (nI i)), (0, .ref ck)] [] := by
    intro m
    induction m with
    | zero =>
      intro i hi hpre
      refine j_iload_n hX dX10_countChosen_2 0 rfl ?_
      refine j_aload_n hX dX10_countChosen_3 1 rfl ?_
      refine j_alenI hX hck dX10_countChosen_4 ?_
      refine j_icmp_ge hX 21 dX10_countChosen_5 (by decide) (fun _ => ?_) (fun c_5 => absurd (nI_le (a := 4) (b := i) (by omega) (by omega)) c_5)
      exact tail i (by omega) hpre (Or.inl (by omega))
    | succ m ih =>
      intro i hi hpre
      refine j_iload_n hX dX10_countChosen_2 0 rfl ?_
      refine j_aload_n hX dX10_countChosen_3 1 rfl ?_
      refine j_alenI hX hck dX10_countChosen_4 ?_
      refine j_icmp_ge hX 21 dX10_countChosen_5 (by decide) (fun c_5 => absurd c_5 (nI_ge (a := i) (b := 4) (by omega) (by decide))) (fun _ => ?_)
      refine j_aload_n hX dX10_countChosen_8 1 rfl ?_
      refine j_iload_n hX dX10_countChosen_9 0 rfl ?_
      refine j_ialdN hX hck (i) (rfl) (by omega) (by decide) dX10_countChosen_10 ?_
      refine j_iconst (v := (-1)) hX dX10_countChosen_11 (by decide) ?_
      refine j_icmp_eq hX 21 dX10_countChosen_12 (by decide) (fun c_12 => ?_) (fun c_12 => ?_)
      · exact tail i (by omega) hpre (Or.inr c_12)
      · refine j_iinc (v := nI (i + 1)) (lv' := [(1, .int (nI (i + 1))), (0, .ref ck)]) hX dX10_countChosen_15 0 rfl (nI_1 i) (by rw [hn]; decide) rfl ?_
        refine j_goto hX 2 dX10_countChosen_18 (by decide) ?_
        refine j_sub [0, 1] rfl ?_
        exact ih (i + 1) (by omega) (fun q hq => by rcases Nat.lt_or_ge q i with z | z; exact hpre q z; rw [show q = i by omega]; exact c_12)
  refine j_iconst (v := nI 0) hX dX10_countChosen_0 (by decide) ?_
  refine j_istore_n (lv' := [(1, .int (nI 0)), (0, .ref ck)]) hX dX10_countChosen_1 (by rw [hn]; decide) rfl ?_
  exact loop 4 0 (by omega) (fun q hq => absurd hq (by omega))

def truncR (w : Nat) (r : Row) : Row := (r.1, if 1 < w then r.2.1 else 0, if 2 < w then r.2.2.1 else 0, if 3 < w then r.2.2.2 else 0)
set_option maxRecDepth 20000 in
set_option maxHeartbeats 600000 in
/-- tell(relation, a, b, c, d) -/
theorem c_X10_tell (l : Launch) (K : Cst) (g : Wd) (x ra ta : Nat) (hx : g x = some (ob 9 [.ref ra, .ref ta]) ∧ True) (tf : Nat → Int32) (hta : g ta = some (aI K 4 tf)) (r nw nx : Nat) (vw : Value) (w : Nat) (pd ch : Int32) (hr : g r = some (ob 6 [.ref nw, .ref nx, vw, .int (nI w), .int pd, .int ch])) (hw : w ≤ 4) (a b c d : Int32) : Ct l K yX10_tell cX10_tell 6 none 0 [.ref x, .ref r, .int a, .int b, .int c, .int d] g (fun v g' => v = none ∧ (∃ tf', g' ta = some (aI K 4 tf') ∧ rowAt tf' 0 = truncR w (a, b, c, d)) ∧ Fr g g' [ta]) (fun _ _ => False) 0 0 := by
  refine ct_of (by decide) (Nat.le_of_ble_eq_true rfl) ?_
  intro X hl hK hX hE hn hL hR hm
  subst hl; subst hK
  show J X 0 0 g 0 [(0, .ref x), (1, .ref r), (2, .int a), (3, .int b), (4, .int c), (5, .int d)] []
  have n_x_ta : x ≠ ta := ne_ob hx.1 hta (by simp)
  have n_r_ta : r ≠ ta := ne_ob hr hta (by simp)
  rcases (show w = 0 ∨ w = 1 ∨ w = 2 ∨ w = 3 ∨ w = 4 by omega) with h9 | h9 | h9 | h9 | h9
  · refine j_aload_n hX dX10_tell_0 0 rfl ?_
    refine j_get (v := .ref ta) hX hx.1 rfl wf_X10 1 (by decide) lk_X10_15 (fun _ h => h) rfl dX10_tell_1 ?_
    refine j_iconst (v := nI 0) hX dX10_tell_4 (by decide) ?_
    refine j_iload_n hX dX10_tell_5 2 rfl ?_
    refine j_iastN hX hta (0) (rfl) (by omega) (by decide) dX10_tell_6 ?_
    obtain ⟨g1, eg1⟩ : ∃ z : Wd, z = up g ta (aI (xK X) 4 (upd tf (0) a)) := ⟨_, rfl⟩
    refine j_w eg1.symm ?_
    have k1_x := (congrFun eg1 x).trans ((up_n (n_x_ta)).trans (hx.1))
    have k1_r := (congrFun eg1 r).trans ((up_n (n_r_ta)).trans (hr))
    have k1_ta : g1 ta = some (aI (xK X) 4 (upd tf (0) a)) := by rw [eg1]; exact up_s _ _ _
    refine j_aload_n hX dX10_tell_7 0 rfl ?_
    refine j_get (v := .ref ta) hX k1_x rfl wf_X10 1 (by decide) lk_X10_15 (fun _ h => h) rfl dX10_tell_8 ?_
    refine j_iconst (v := nI 1) hX dX10_tell_11 (by decide) ?_
    refine j_aload_n hX dX10_tell_12 1 rfl ?_
    refine j_getN (v := .int (nI w)) hX k1_r rfl wf_X6 3 (by decide) nk_X10_57 (fun _ h => h) rfl dX10_tell_13 ?_
    refine j_iconst (v := nI 1) hX dX10_tell_16 (by decide) ?_
    refine j_icmp_le hX 24 dX10_tell_17 (by decide) (fun _ => ?_) (fun c_17 => absurd (nI_le (a := w) (b := 1) (by omega) (by omega)) c_17)
    refine j_iconst (v := 0) hX dX10_tell_24 (by decide) ?_
    refine j_iastN hX k1_ta (1) (rfl) (by omega) (by decide) dX10_tell_25 ?_
    obtain ⟨g2, eg2⟩ : ∃ z : Wd, z = up g1 ta (aI (xK X) 4 (upd (upd tf (0) a) (1) 0)) := ⟨_, rfl⟩
    refine j_w eg2.symm ?_
    have k2_x := (congrFun eg2 x).trans ((up_n (n_x_ta)).trans (k1_x))
    have k2_r := (congrFun eg2 r).trans ((up_n (n_r_ta)).trans (k1_r))
    have k2_ta : g2 ta = some (aI (xK X) 4 (upd (upd tf (0) a) (1) 0)) := by rw [eg2]; exact up_s _ _ _
    refine j_aload_n hX dX10_tell_26 0 rfl ?_
    refine j_get (v := .ref ta) hX k2_x rfl wf_X10 1 (by decide) lk_X10_15 (fun _ h => h) rfl dX10_tell_27 ?_
    refine j_iconst (v := nI 2) hX dX10_tell_30 (by decide) ?_
    refine j_aload_n hX dX10_tell_31 1 rfl ?_
    refine j_getN (v := .int (nI w)) hX k2_r rfl wf_X6 3 (by decide) nk_X10_57 (fun _ h => h) rfl dX10_tell_32 ?_
    refine j_iconst (v := nI 2) hX dX10_tell_35 (by decide) ?_
    refine j_icmp_le hX 44 dX10_tell_36 (by decide) (fun _ => ?_) (fun c_36 => absurd (nI_le (a := w) (b := 2) (by omega) (by omega)) c_36)
    refine j_iconst (v := 0) hX dX10_tell_44 (by decide) ?_
    refine j_iastN hX k2_ta (2) (rfl) (by omega) (by decide) dX10_tell_45 ?_
    obtain ⟨g3, eg3⟩ : ∃ z : Wd, z = up g2 ta (aI (xK X) 4 (upd (upd (upd tf (0) a) (1) 0) (2) 0)) := ⟨_, rfl⟩
    refine j_w eg3.symm ?_
    have k3_x := (congrFun eg3 x).trans ((up_n (n_x_ta)).trans (k2_x))
    have k3_r := (congrFun eg3 r).trans ((up_n (n_r_ta)).trans (k2_r))
    have k3_ta : g3 ta = some (aI (xK X) 4 (upd (upd (upd tf (0) a) (1) 0) (2) 0)) := by rw [eg3]; exact up_s _ _ _
    refine j_aload_n hX dX10_tell_46 0 rfl ?_
    refine j_get (v := .ref ta) hX k3_x rfl wf_X10 1 (by decide) lk_X10_15 (fun _ h => h) rfl dX10_tell_47 ?_
    refine j_iconst (v := nI 3) hX dX10_tell_50 (by decide) ?_
    refine j_aload_n hX dX10_tell_51 1 rfl ?_
    refine j_getN (v := .int (nI w)) hX k3_r rfl wf_X6 3 (by decide) nk_X10_57 (fun _ h => h) rfl dX10_tell_52 ?_
    refine j_iconst (v := nI 3) hX dX10_tell_55 (by decide) ?_
    refine j_icmp_le hX 64 dX10_tell_56 (by decide) (fun _ => ?_) (fun c_56 => absurd (nI_le (a := w) (b := 3) (by omega) (by omega)) c_56)
    refine j_iconst (v := 0) hX dX10_tell_64 (by decide) ?_
    refine j_iastN hX k3_ta (3) (rfl) (by omega) (by decide) dX10_tell_65 ?_
    obtain ⟨g4, eg4⟩ : ∃ z : Wd, z = up g3 ta (aI (xK X) 4 (upd (upd (upd (upd tf (0) a) (1) 0) (2) 0) (3) 0)) := ⟨_, rfl⟩
    refine j_w eg4.symm ?_
    have k4_x := (congrFun eg4 x).trans ((up_n (n_x_ta)).trans (k3_x))
    have k4_r := (congrFun eg4 r).trans ((up_n (n_r_ta)).trans (k3_r))
    have k4_ta : g4 ta = some (aI (xK X) 4 (upd (upd (upd (upd tf (0) a) (1) 0) (2) 0) (3) 0)) := by rw [eg4]; exact up_s _ _ _
    exact j_vret hX hE dX10_tell_66 (⟨rfl, ⟨_, k4_ta, by simp [rowAt, truncR, upd, h9]⟩, fun q hq => by rw [eg4, up_n (by simpa using hq), eg3, up_n (by simpa using hq), eg2, up_n (by simpa using hq), eg1, up_n (by simpa using hq)]⟩) (by decide) (by decide)
  · refine j_aload_n hX dX10_tell_0 0 rfl ?_
    refine j_get (v := .ref ta) hX hx.1 rfl wf_X10 1 (by decide) lk_X10_15 (fun _ h => h) rfl dX10_tell_1 ?_
    refine j_iconst (v := nI 0) hX dX10_tell_4 (by decide) ?_
    refine j_iload_n hX dX10_tell_5 2 rfl ?_
    refine j_iastN hX hta (0) (rfl) (by omega) (by decide) dX10_tell_6 ?_
    obtain ⟨g1, eg1⟩ : ∃ z : Wd, z = up g ta (aI (xK X) 4 (upd tf (0) a)) := ⟨_, rfl⟩
    refine j_w eg1.symm ?_
    have k1_x := (congrFun eg1 x).trans ((up_n (n_x_ta)).trans (hx.1))
    have k1_r := (congrFun eg1 r).trans ((up_n (n_r_ta)).trans (hr))
    have k1_ta : g1 ta = some (aI (xK X) 4 (upd tf (0) a)) := by rw [eg1]; exact up_s _ _ _
    refine j_aload_n hX dX10_tell_7 0 rfl ?_
    refine j_get (v := .ref ta) hX k1_x rfl wf_X10 1 (by decide) lk_X10_15 (fun _ h => h) rfl dX10_tell_8 ?_
    refine j_iconst (v := nI 1) hX dX10_tell_11 (by decide) ?_
    refine j_aload_n hX dX10_tell_12 1 rfl ?_
    refine j_getN (v := .int (nI w)) hX k1_r rfl wf_X6 3 (by decide) nk_X10_57 (fun _ h => h) rfl dX10_tell_13 ?_
    refine j_iconst (v := nI 1) hX dX10_tell_16 (by decide) ?_
    refine j_icmp_le hX 24 dX10_tell_17 (by decide) (fun _ => ?_) (fun c_17 => absurd (nI_le (a := w) (b := 1) (by omega) (by omega)) c_17)
    refine j_iconst (v := 0) hX dX10_tell_24 (by decide) ?_
    refine j_iastN hX k1_ta (1) (rfl) (by omega) (by decide) dX10_tell_25 ?_
    obtain ⟨g2, eg2⟩ : ∃ z : Wd, z = up g1 ta (aI (xK X) 4 (upd (upd tf (0) a) (1) 0)) := ⟨_, rfl⟩
    refine j_w eg2.symm ?_
    have k2_x := (congrFun eg2 x).trans ((up_n (n_x_ta)).trans (k1_x))
    have k2_r := (congrFun eg2 r).trans ((up_n (n_r_ta)).trans (k1_r))
    have k2_ta : g2 ta = some (aI (xK X) 4 (upd (upd tf (0) a) (1) 0)) := by rw [eg2]; exact up_s _ _ _
    refine j_aload_n hX dX10_tell_26 0 rfl ?_
    refine j_get (v := .ref ta) hX k2_x rfl wf_X10 1 (by decide) lk_X10_15 (fun _ h => h) rfl dX10_tell_27 ?_
    refine j_iconst (v := nI 2) hX dX10_tell_30 (by decide) ?_
    refine j_aload_n hX dX10_tell_31 1 rfl ?_
    refine j_getN (v := .int (nI w)) hX k2_r rfl wf_X6 3 (by decide) nk_X10_57 (fun _ h => h) rfl dX10_tell_32 ?_
    refine j_iconst (v := nI 2) hX dX10_tell_35 (by decide) ?_
    refine j_icmp_le hX 44 dX10_tell_36 (by decide) (fun _ => ?_) (fun c_36 => absurd (nI_le (a := w) (b := 2) (by omega) (by omega)) c_36)
    refine j_iconst (v := 0) hX dX10_tell_44 (by decide) ?_
    refine j_iastN hX k2_ta (2) (rfl) (by omega) (by decide) dX10_tell_45 ?_
    obtain ⟨g3, eg3⟩ : ∃ z : Wd, z = up g2 ta (aI (xK X) 4 (upd (upd (upd tf (0) a) (1) 0) (2) 0)) := ⟨_, rfl⟩
    refine j_w eg3.symm ?_
    have k3_x := (congrFun eg3 x).trans ((up_n (n_x_ta)).trans (k2_x))
    have k3_r := (congrFun eg3 r).trans ((up_n (n_r_ta)).trans (k2_r))
    have k3_ta : g3 ta = some (aI (xK X) 4 (upd (upd (upd tf (0) a) (1) 0) (2) 0)) := by rw [eg3]; exact up_s _ _ _
    refine j_aload_n hX dX10_tell_46 0 rfl ?_
    refine j_get (v := .ref ta) hX k3_x rfl wf_X10 1 (by decide) lk_X10_15 (fun _ h => h) rfl dX10_tell_47 ?_
    refine j_iconst (v := nI 3) hX dX10_tell_50 (by decide) ?_
    refine j_aload_n hX dX10_tell_51 1 rfl ?_
    refine j_getN (v := .int (nI w)) hX k3_r rfl wf_X6 3 (by decide) nk_X10_57 (fun _ h => h) rfl dX10_tell_52 ?_
    refine j_iconst (v := nI 3) hX dX10_tell_55 (by decide) ?_
    refine j_icmp_le hX 64 dX10_tell_56 (by decide) (fun _ => ?_) (fun c_56 => absurd (nI_le (a := w) (b := 3) (by omega) (by omega)) c_56)
    refine j_iconst (v := 0) hX dX10_tell_64 (by decide) ?_
    refine j_iastN hX k3_ta (3) (rfl) (by omega) (by decide) dX10_tell_65 ?_
    obtain ⟨g4, eg4⟩ : ∃ z : Wd, z = up g3 ta (aI (xK X) 4 (upd (upd (upd (upd tf (0) a) (1) 0) (2) 0) (3) 0)) := ⟨_, rfl⟩
    refine j_w eg4.symm ?_
    have k4_x := (congrFun eg4 x).trans ((up_n (n_x_ta)).trans (k3_x))
    have k4_r := (congrFun eg4 r).trans ((up_n (n_r_ta)).trans (k3_r))
    have k4_ta : g4 ta = some (aI (xK X) 4 (upd (upd (upd (upd tf (0) a) (1) 0) (2) 0) (3) 0)) := by rw [eg4]; exact up_s _ _ _
    exact j_vret hX hE dX10_tell_66 (⟨rfl, ⟨_, k4_ta, by simp [rowAt, truncR, upd, h9]⟩, fun q hq => by rw [eg4, up_n (by simpa using hq), eg3, up_n (by simpa using hq), eg2, up_n (by simpa using hq), eg1, up_n (by simpa using hq)]⟩) (by decide) (by decide)
  · refine j_aload_n hX dX10_tell_0 0 rfl ?_
    refine j_get (v := .ref ta) hX hx.1 rfl wf_X10 1 (by decide) lk_X10_15 (fun _ h => h) rfl dX10_tell_1 ?_
    refine j_iconst (v := nI 0) hX dX10_tell_4 (by decide) ?_
    refine j_iload_n hX dX10_tell_5 2 rfl ?_
    refine j_iastN hX hta (0) (rfl) (by omega) (by decide) dX10_tell_6 ?_
    obtain ⟨g1, eg1⟩ : ∃ z : Wd, z = up g ta (aI (xK X) 4 (upd tf (0) a)) := ⟨_, rfl⟩
    refine j_w eg1.symm ?_
    have k1_x := (congrFun eg1 x).trans ((up_n (n_x_ta)).trans (hx.1))
    have k1_r := (congrFun eg1 r).trans ((up_n (n_r_ta)).trans (hr))
    have k1_ta : g1 ta = some (aI (xK X) 4 (upd tf (0) a)) := by rw [eg1]; exact up_s _ _ _
    refine j_aload_n hX dX10_tell_7 0 rfl ?_
    refine j_get (v := .ref ta) hX k1_x rfl wf_X10 1 (by decide) lk_X10_15 (fun _ h => h) rfl dX10_tell_8 ?_
    refine j_iconst (v := nI 1) hX dX10_tell_11 (by decide) ?_
    refine j_aload_n hX dX10_tell_12 1 rfl ?_
    refine j_getN (v := .int (nI w)) hX k1_r rfl wf_X6 3 (by decide) nk_X10_57 (fun _ h => h) rfl dX10_tell_13 ?_
    refine j_iconst (v := nI 1) hX dX10_tell_16 (by decide) ?_
    refine j_icmp_le hX 24 dX10_tell_17 (by decide) (fun c_17 => absurd c_17 (nI_ge (a := 1) (b := w) (by omega) (by omega))) (fun _ => ?_)
    refine j_iload_n hX dX10_tell_20 3 rfl ?_
    refine j_goto hX 25 dX10_tell_21 (by decide) ?_
    refine j_iastN hX k1_ta (1) (rfl) (by omega) (by decide) dX10_tell_25 ?_
    obtain ⟨g2, eg2⟩ : ∃ z : Wd, z = up g1 ta (aI (xK X) 4 (upd (upd tf (0) a) (1) b)) := ⟨_, rfl⟩
    refine j_w eg2.symm ?_
    have k2_x := (congrFun eg2 x).trans ((up_n (n_x_ta)).trans (k1_x))
    have k2_r := (congrFun eg2 r).trans ((up_n (n_r_ta)).trans (k1_r))
    have k2_ta : g2 ta = some (aI (xK X) 4 (upd (upd tf (0) a) (1) b)) := by rw [eg2]; exact up_s _ _ _
    refine j_aload_n hX dX10_tell_26 0 rfl ?_
    refine j_get (v := .ref ta) hX k2_x rfl wf_X10 1 (by decide) lk_X10_15 (fun _ h => h) rfl dX10_tell_27 ?_
    refine j_iconst (v := nI 2) hX dX10_tell_30 (by decide) ?_
    refine j_aload_n hX dX10_tell_31 1 rfl ?_
    refine j_getN (v := .int (nI w)) hX k2_r rfl wf_X6 3 (by decide) nk_X10_57 (fun _ h => h) rfl dX10_tell_32 ?_
    refine j_iconst (v := nI 2) hX dX10_tell_35 (by decide) ?_
    refine j_icmp_le hX 44 dX10_tell_36 (by decide) (fun _ => ?_) (fun c_36 => absurd (nI_le (a := w) (b := 2) (by omega) (by omega)) c_36)
    refine j_iconst (v := 0) hX dX10_tell_44 (by decide) ?_
    refine j_iastN hX k2_ta (2) (rfl) (by omega) (by decide) dX10_tell_45 ?_
    obtain ⟨g3, eg3⟩ : ∃ z : Wd, z = up g2 ta (aI (xK X) 4 (upd (upd (upd tf (0) a) (1) b) (2) 0)) := ⟨_, rfl⟩
    refine j_w eg3.symm ?_
    have k3_x := (congrFun eg3 x).trans ((up_n (n_x_ta)).trans (k2_x))
    have k3_r := (congrFun eg3 r).trans ((up_n (n_r_ta)).trans (k2_r))
    have k3_ta : g3 ta = some (aI (xK X) 4 (upd (upd (upd tf (0) a) (1) b) (2) 0)) := by rw [eg3]; exact up_s _ _ _
    refine j_aload_n hX dX10_tell_46 0 rfl ?_
    refine j_get (v := .ref ta) hX k3_x rfl wf_X10 1 (by decide) lk_X10_15 (fun _ h => h) rfl dX10_tell_47 ?_
    refine j_iconst (v := nI 3) hX dX10_tell_50 (by decide) ?_
    refine j_aload_n hX dX10_tell_51 1 rfl ?_
    refine j_getN (v := .int (nI w)) hX k3_r rfl wf_X6 3 (by decide) nk_X10_57 (fun _ h => h) rfl dX10_tell_52 ?_
    refine j_iconst (v := nI 3) hX dX10_tell_55 (by decide) ?_
    refine j_icmp_le hX 64 dX10_tell_56 (by decide) (fun _ => ?_) (fun c_56 => absurd (nI_le (a := w) (b := 3) (by omega) (by omega)) c_56)
    refine j_iconst (v := 0) hX dX10_tell_64 (by decide) ?_
    refine j_iastN hX k3_ta (3) (rfl) (by omega) (by decide) dX10_tell_65 ?_
    obtain ⟨g4, eg4⟩ : ∃ z : Wd, z = up g3 ta (aI (xK X) 4 (upd (upd (upd (upd tf (0) a) (1) b) (2) 0) (3) 0)) := ⟨_, rfl⟩
    refine j_w eg4.symm ?_
    have k4_x := (congrFun eg4 x).trans ((up_n (n_x_ta)).trans (k3_x))
    have k4_r := (congrFun eg4 r).trans ((up_n (n_r_ta)).trans (k3_r))
    have k4_ta : g4 ta = some (aI (xK X) 4 (upd (upd (upd (upd tf (0) a) (1) b) (2) 0) (3) 0)) := by rw [eg4]; exact up_s _ _ _
    exact j_vret hX hE dX10_tell_66 (⟨rfl, ⟨_, k4_ta, by simp [rowAt, truncR, upd, h9]⟩, fun q hq => by rw [eg4, up_n (by simpa using hq), eg3, up_n (by simpa using hq), eg2, up_n (by simpa using hq), eg1, up_n (by simpa using hq)]⟩) (by decide) (by decide)
  · refine j_aload_n hX dX10_tell_0 0 rfl ?_
    refine j_get (v := .ref ta) hX hx.1 rfl wf_X10 1 (by decide) lk_X10_15 (fun _ h => h) rfl dX10_tell_1 ?_
    refine j_iconst (v := nI 0) hX dX10_tell_4 (by decide) ?_
    refine j_iload_n hX dX10_tell_5 2 rfl ?_
    refine j_iastN hX hta (0) (rfl) (by omega) (by decide) dX10_tell_6 ?_
    obtain ⟨g1, eg1⟩ : ∃ z : Wd, z = up g ta (aI (xK X) 4 (upd tf (0) a)) := ⟨_, rfl⟩
    refine j_w eg1.symm ?_
    have k1_x := (congrFun eg1 x).trans ((up_n (n_x_ta)).trans (hx.1))
    have k1_r := (congrFun eg1 r).trans ((up_n (n_r_ta)).trans (hr))
    have k1_ta : g1 ta = some (aI (xK X) 4 (upd tf (0) a)) := by rw [eg1]; exact up_s _ _ _
    refine j_aload_n hX dX10_tell_7 0 rfl ?_
    refine j_get (v := .ref ta) hX k1_x rfl wf_X10 1 (by decide) lk_X10_15 (fun _ h => h) rfl dX10_tell_8 ?_
    refine j_iconst (v := nI 1) hX dX10_tell_11 (by decide) ?_
    refine j_aload_n hX dX10_tell_12 1 rfl ?_
    refine j_getN (v := .int (nI w)) hX k1_r rfl wf_X6 3 (by decide) nk_X10_57 (fun _ h => h) rfl dX10_tell_13 ?_
    refine j_iconst (v := nI 1) hX dX10_tell_16 (by decide) ?_
    refine j_icmp_le hX 24 dX10_tell_17 (by decide) (fun c_17 => absurd c_17 (nI_ge (a := 1) (b := w) (by omega) (by omega))) (fun _ => ?_)
    refine j_iload_n hX dX10_tell_20 3 rfl ?_
    refine j_goto hX 25 dX10_tell_21 (by decide) ?_
    refine j_iastN hX k1_ta (1) (rfl) (by omega) (by decide) dX10_tell_25 ?_
    obtain ⟨g2, eg2⟩ : ∃ z : Wd, z = up g1 ta (aI (xK X) 4 (upd (upd tf (0) a) (1) b)) := ⟨_, rfl⟩
    refine j_w eg2.symm ?_
    have k2_x := (congrFun eg2 x).trans ((up_n (n_x_ta)).trans (k1_x))
    have k2_r := (congrFun eg2 r).trans ((up_n (n_r_ta)).trans (k1_r))
    have k2_ta : g2 ta = some (aI (xK X) 4 (upd (upd tf (0) a) (1) b)) := by rw [eg2]; exact up_s _ _ _
    refine j_aload_n hX dX10_tell_26 0 rfl ?_
    refine j_get (v := .ref ta) hX k2_x rfl wf_X10 1 (by decide) lk_X10_15 (fun _ h => h) rfl dX10_tell_27 ?_
    refine j_iconst (v := nI 2) hX dX10_tell_30 (by decide) ?_
    refine j_aload_n hX dX10_tell_31 1 rfl ?_
    refine j_getN (v := .int (nI w)) hX k2_r rfl wf_X6 3 (by decide) nk_X10_57 (fun _ h => h) rfl dX10_tell_32 ?_
    refine j_iconst (v := nI 2) hX dX10_tell_35 (by decide) ?_
    refine j_icmp_le hX 44 dX10_tell_36 (by decide) (fun c_36 => absurd c_36 (nI_ge (a := 2) (b := w) (by omega) (by omega))) (fun _ => ?_)
    refine j_iload hX dX10_tell_39 4 rfl ?_
    refine j_goto hX 45 dX10_tell_41 (by decide) ?_
    refine j_iastN hX k2_ta (2) (rfl) (by omega) (by decide) dX10_tell_45 ?_
    obtain ⟨g3, eg3⟩ : ∃ z : Wd, z = up g2 ta (aI (xK X) 4 (upd (upd (upd tf (0) a) (1) b) (2) c)) := ⟨_, rfl⟩
    refine j_w eg3.symm ?_
    have k3_x := (congrFun eg3 x).trans ((up_n (n_x_ta)).trans (k2_x))
    have k3_r := (congrFun eg3 r).trans ((up_n (n_r_ta)).trans (k2_r))
    have k3_ta : g3 ta = some (aI (xK X) 4 (upd (upd (upd tf (0) a) (1) b) (2) c)) := by rw [eg3]; exact up_s _ _ _
    refine j_aload_n hX dX10_tell_46 0 rfl ?_
    refine j_get (v := .ref ta) hX k3_x rfl wf_X10 1 (by decide) lk_X10_15 (fun _ h => h) rfl dX10_tell_47 ?_
    refine j_iconst (v := nI 3) hX dX10_tell_50 (by decide) ?_
    refine j_aload_n hX dX10_tell_51 1 rfl ?_
    refine j_getN (v := .int (nI w)) hX k3_r rfl wf_X6 3 (by decide) nk_X10_57 (fun _ h => h) rfl dX10_tell_52 ?_
    refine j_iconst (v := nI 3) hX dX10_tell_55 (by decide) ?_
    refine j_icmp_le hX 64 dX10_tell_56 (by decide) (fun _ => ?_) (fun c_56 => absurd (nI_le (a := w) (b := 3) (by omega) (by omega)) c_56)
    refine j_iconst (v := 0) hX dX10_tell_64 (by decide) ?_
    refine j_iastN hX k3_ta (3) (rfl) (by omega) (by decide) dX10_tell_65 ?_
    obtain ⟨g4, eg4⟩ : ∃ z : Wd, z = up g3 ta (aI (xK X) 4 (upd (upd (upd (upd tf (0) a) (1) b) (2) c) (3) 0)) := ⟨_, rfl⟩
    refine j_w eg4.symm ?_
    have k4_x := (congrFun eg4 x).trans ((up_n (n_x_ta)).trans (k3_x))
    have k4_r := (congrFun eg4 r).trans ((up_n (n_r_ta)).trans (k3_r))
    have k4_ta : g4 ta = some (aI (xK X) 4 (upd (upd (upd (upd tf (0) a) (1) b) (2) c) (3) 0)) := by rw [eg4]; exact up_s _ _ _
    exact j_vret hX hE dX10_tell_66 (⟨rfl, ⟨_, k4_ta, by simp [rowAt, truncR, upd, h9]⟩, fun q hq => by rw [eg4, up_n (by simpa using hq), eg3, up_n (by simpa using hq), eg2, up_n (by simpa using hq), eg1, up_n (by simpa using hq)]⟩) (by decide) (by decide)
  · refine j_aload_n hX dX10_tell_0 0 rfl ?_
    refine j_get (v := .ref ta) hX hx.1 rfl wf_X10 1 (by decide) lk_X10_15 (fun _ h => h) rfl dX10_tell_1 ?_
    refine j_iconst (v := nI 0) hX dX10_tell_4 (by decide) ?_
    refine j_iload_n hX dX10_tell_5 2 rfl ?_
    refine j_iastN hX hta (0) (rfl) (by omega) (by decide) dX10_tell_6 ?_
    obtain ⟨g1, eg1⟩ : ∃ z : Wd, z = up g ta (aI (xK X) 4 (upd tf (0) a)) := ⟨_, rfl⟩
    refine j_w eg1.symm ?_
    have k1_x := (congrFun eg1 x).trans ((up_n (n_x_ta)).trans (hx.1))
    have k1_r := (congrFun eg1 r).trans ((up_n (n_r_ta)).trans (hr))
    have k1_ta : g1 ta = some (aI (xK X) 4 (upd tf (0) a)) := by rw [eg1]; exact up_s _ _ _
    refine j_aload_n hX dX10_tell_7 0 rfl ?_
    refine j_get (v := .ref ta) hX k1_x rfl wf_X10 1 (by decide) lk_X10_15 (fun _ h => h) rfl dX10_tell_8 ?_
    refine j_iconst (v := nI 1) hX dX10_tell_11 (by decide) ?_
    refine j_aload_n hX dX10_tell_12 1 rfl ?_
    refine j_getN (v := .int (nI w)) hX k1_r rfl wf_X6 3 (by decide) nk_X10_57 (fun _ h => h) rfl dX10_tell_13 ?_
    refine j_iconst (v := nI 1) hX dX10_tell_16 (by decide) ?_
    refine j_icmp_le hX 24 dX10_tell_17 (by decide) (fun c_17 => absurd c_17 (nI_ge (a := 1) (b := w) (by omega) (by omega))) (fun _ => ?_)
    refine j_iload_n hX dX10_tell_20 3 rfl ?_
    refine j_goto hX 25 dX10_tell_21 (by decide) ?_
    refine j_iastN hX k1_ta (1) (rfl) (by omega) (by decide) dX10_tell_25 ?_
    obtain ⟨g2, eg2⟩ : ∃ z : Wd, z = up g1 ta (aI (xK X) 4 (upd (upd tf (0) a) (1) b)) := ⟨_, rfl⟩
    refine j_w eg2.symm ?_
    have k2_x := (congrFun eg2 x).trans ((up_n (n_x_ta)).trans (k1_x))
    have k2_r := (congrFun eg2 r).trans ((up_n (n_r_ta)).trans (k1_r))
    have k2_ta : g2 ta = some (aI (xK X) 4 (upd (upd tf (0) a) (1) b)) := by rw [eg2]; exact up_s _ _ _
    refine j_aload_n hX dX10_tell_26 0 rfl ?_
    refine j_get (v := .ref ta) hX k2_x rfl wf_X10 1 (by decide) lk_X10_15 (fun _ h => h) rfl dX10_tell_27 ?_
    refine j_iconst (v := nI 2) hX dX10_tell_30 (by decide) ?_
    refine j_aload_n hX dX10_tell_31 1 rfl ?_
    refine j_getN (v := .int (nI w)) hX k2_r rfl wf_X6 3 (by decide) nk_X10_57 (fun _ h => h) rfl dX10_tell_32 ?_
    refine j_iconst (v := nI 2) hX dX10_tell_35 (by decide) ?_
    refine j_icmp_le hX 44 dX10_tell_36 (by decide) (fun c_36 => absurd c_36 (nI_ge (a := 2) (b := w) (by omega) (by omega))) (fun _ => ?_)
    refine j_iload hX dX10_tell_39 4 rfl ?_
    refine j_goto hX 45 dX10_tell_41 (by decide) ?_
    refine j_iastN hX k2_ta (2) (rfl) (by omega) (by decide) dX10_tell_45 ?_
    obtain ⟨g3, eg3⟩ : ∃ z : Wd, z = up g2 ta (aI (xK X) 4 (upd (upd (upd tf (0) a) (1) b) (2) c)) := ⟨_, rfl⟩
    refine j_w eg3.symm ?_
    have k3_x := (congrFun eg3 x).trans ((up_n (n_x_ta)).trans (k2_x))
    have k3_r := (congrFun eg3 r).trans ((up_n (n_r_ta)).trans (k2_r))
    have k3_ta : g3 ta = some (aI (xK X) 4 (upd (upd (upd tf (0) a) (1) b) (2) c)) := by rw [eg3]; exact up_s _ _ _
    refine j_aload_n hX dX10_tell_46 0 rfl ?_
    refine j_get (v := .ref ta) hX k3_x rfl wf_X10 1 (by decide) lk_X10_15 (fun _ h => h) rfl dX10_tell_47 ?_
    refine j_iconst (v := nI 3) hX dX10_tell_50 (by decide) ?_
    refine j_aload_n hX dX10_tell_51 1 rfl ?_
    refine j_getN (v := .int (nI w)) hX k3_r rfl wf_X6 3 (by decide) nk_X10_57 (fun _ h => h) rfl dX10_tell_52 ?_
    refine j_iconst (v := nI 3) hX dX10_tell_55 (by decide) ?_
    refine j_icmp_le hX 64 dX10_tell_56 (by decide) (fun c_56 => absurd c_56 (nI_ge (a := 3) (b := w) (by omega) (by omega))) (fun _ => ?_)
    refine j_iload hX dX10_tell_59 5 rfl ?_
    refine j_goto hX 65 dX10_tell_61 (by decide) ?_
    refine j_iastN hX k3_ta (3) (rfl) (by omega) (by decide) dX10_tell_65 ?_
    obtain ⟨g4, eg4⟩ : ∃ z : Wd, z = up g3 ta (aI (xK X) 4 (upd (upd (upd (upd tf (0) a) (1) b) (2) c) (3) d)) := ⟨_, rfl⟩
    refine j_w eg4.symm ?_
    have k4_x := (congrFun eg4 x).trans ((up_n (n_x_ta)).trans (k3_x))
    have k4_r := (congrFun eg4 r).trans ((up_n (n_r_ta)).trans (k3_r))
    have k4_ta : g4 ta = some (aI (xK X) 4 (upd (upd (upd (upd tf (0) a) (1) b) (2) c) (3) d)) := by rw [eg4]; exact up_s _ _ _
    exact j_vret hX hE dX10_tell_66 (⟨rfl, ⟨_, k4_ta, by simp [rowAt, truncR, upd, h9]⟩, fun q hq => by rw [eg4, up_n (by simpa using hq), eg3, up_n (by simpa using hq), eg2, up_n (by simpa using hq), eg1, up_n (by simpa using hq)]⟩) (by decide) (by decide)

