/-! A BAG: its object b, its cells ca (80 ints, 4 a row), its times oa (20 ints), n rows -/
def isBag (K : Cst) (g : Wd) (b ca oa n : Nat) (cf tf : Nat → Int32) : Prop := g b = some (ob 0 [.ref ca, .ref oa, .int (nI n)]) ∧ g ca = some (aI K 80 cf) ∧ g oa = some (aI K 20 tf)
/-- rows by their cells, from f's place i and h's place j on, m columns -/
def cmpN (f h : Nat → Int32) : Nat → Nat → Nat → Int32
  | 0, _, _ => 0
  | m + 1, i, j => if f i = h j then cmpN f h m (i + 1) (j + 1) else if f i < h j then -1 else 1
abbrev cmp4 (f : Nat → Int32) (i : Nat) (h : Nat → Int32) (j : Nat) : Int32 := cmpN f h 4 i j
theorem cmpN_s (f h : Nat → Int32) (m i j : Nat) : cmpN f h (m + 1) i j = if f i = h j then cmpN f h m (i + 1) (j + 1) else if f i < h j then -1 else 1 := rfl
/-- the place behind the last of p rows that is not above the row rf -/
def pbN (f rf : Nat → Int32) : Nat → Nat
  | 0 => 0
  | p + 1 => if 0 < cmp4 f (4 * p) rf 0 then pbN f rf p else p + 1
theorem pbN_le (f rf : Nat → Int32) : ∀ p, pbN f rf p ≤ p
  | 0 => Nat.le_refl 0
  | p + 1 => by
    unfold pbN
    split
    · exact Nat.le_succ_of_le (pbN_le f rf p)
    · exact Nat.le_refl _
/-- is the row rf at the place ahead of p? -/
def atP (f rf : Nat → Int32) (p : Nat) : Bool := decide (0 < p) && decide (cmp4 f (4 * (p - 1)) rf 0 = 0)
def timesAt (f tf rf : Nat → Int32) (n : Nat) : Int32 := if atP f rf (pbN f rf n) = true then tf (pbN f rf n - 1) else 0
abbrev b01 (x : Bool) : Int32 := if x = true then 1 else 0
theorem b01_z (x : Bool) : narrow .boolean (.int (b01 x)) = .int (b01 x) := by cases x <;> rfl
theorem nI_m1 {p : Nat} (h : 0 < p) : nI p - 1 = nI (p - 1) := by
  obtain ⟨q, rfl⟩ : ∃ q, p = q + 1 := ⟨p - 1, by omega⟩
  exact nI_pred q
theorem nI_0m : nI 0 - 1 < 0 := by decide
set_option maxRecDepth 20000 in
set_option maxHeartbeats 600000 in
/-- cellAt(k, c) -/
theorem c_X0_cellAt (l : Launch) (K : Cst) (g : Wd) (b ca oa n : Nat) (cf tf : Nat → Int32) (hB : isBag K g b ca oa n cf tf) (k c : Nat) (hk : k < 20) (hc : c < 4) : Ct l K yX0_cellAt cX0_cellAt 3 (some .int) 0 [.ref b, .int (nI k), .int (nI c)] g (fun v g' => v = some (.int (cf (4 * k + c))) ∧ g = g') (fun _ _ => False) 0 0 := by
  refine ct_of (by decide) (Nat.le_of_ble_eq_true rfl) ?_
  intro X hl hK hX hE hn hL hR hm
  subst hl; subst hK
  show J X 0 0 g 0 [(0, .ref b), (1, .int (nI k)), (2, .int (nI c))] []
  refine j_aload_n hX dX0_cellAt_0 0 rfl ?_
  refine j_get (v := .ref ca) hX hB.1 rfl wf_X0 0 (by decide) lk_X0_9 (fun _ h => h) rfl dX0_cellAt_1 ?_
  refine j_iload_n hX dX0_cellAt_4 1 rfl ?_
  refine j_iconst (v := 4) hX dX0_cellAt_5 (by decide) ?_
  refine j_imul hX dX0_cellAt_6 ?_
  refine j_iload_n hX dX0_cellAt_7 2 rfl ?_
  refine j_iadd hX dX0_cellAt_8 ?_
  refine j_ialdN hX hB.2.1 (4 * k + c) (ix4 k c) (by omega) (by decide) dX0_cellAt_9 ?_
  exact j_iret hX hE dX0_cellAt_10 (⟨rfl, rfl⟩) (by decide) (by decide)

set_option maxRecDepth 20000 in
set_option maxHeartbeats 600000 in
/-- compareRow(k, others, from) -/
theorem c_X0_compareRow (l : Launch) (K : Cst) (g : Wd) (b ca oa n : Nat) (cf tf : Nat → Int32) (hB : isBag K g b ca oa n cf tf) (k o no fr : Nat) (hf : Nat → Int32) (hk : k < 20) (ho : g o = some (aI K no hf)) (hno : fr + 4 ≤ no) (hn31 : no < 2 ^ 31) : Ct l K yX0_compareRow cX0_compareRow 7 (some .int) 0 [.ref b, .int (nI k), .ref o, .int (nI fr)] g (fun v g' => v = some (.int (cmp4 cf (4 * k) hf fr)) ∧ g = g') (fun _ _ => False) 0 0 := by
  refine ct_of (by decide) (Nat.le_of_ble_eq_true rfl) ?_
  intro X hl hK hX hE hn hL hR hm
  subst hl; subst hK
  show J X 0 0 g 0 [(0, .ref b), (1, .int (nI k)), (2, .ref o), (3, .int (nI fr))] []
  have loop : ∀ (m c : Nat), c + m = 4 → cmpN cf hf m (4 * k + c) (fr + c) = cmp4 cf (4 * k) hf fr → J X 0 0 g 3 [(4, .int (nI c)), (0, .ref b), (1, .int (nI k)), (2, .ref o), (3, .int (nI fr))] [] := by
    intro m
    induction m with
    | zero =>
      intro c hc hr
      refine j_iload hX dX0_compareRow_3 0 rfl ?_
      refine j_iconst (v := nI 4) hX dX0_compareRow_5 (by decide) ?_
      refine j_icmp_ge hX 56 dX0_compareRow_6 (by decide) (fun _ => ?_) (fun c_6 => absurd (show nI 4 ≤ nI c from nI_le (by omega) (by omega)) c_6)
      refine j_iconst (v := 0) hX dX0_compareRow_56 (by decide) ?_
      exact j_iret hX hE dX0_compareRow_57 (⟨by rw [← hr]; rfl, rfl⟩) (by decide) (by decide)
    | succ m ih =>
      intro c hc hr
      refine j_iload hX dX0_compareRow_3 0 rfl ?_
      refine j_iconst (v := nI 4) hX dX0_compareRow_5 (by decide) ?_
      refine j_icmp_ge hX 56 dX0_compareRow_6 (by decide) (fun c_6 => absurd c_6 (show ¬ nI 4 ≤ nI c from nI_ge (by omega) (by decide))) (fun _ => ?_)
      refine j_aload_n hX dX0_compareRow_9 1 rfl ?_
      refine j_get (v := .ref ca) hX hB.1 rfl wf_X0 0 (by decide) lk_X0_9 (fun _ h => h) rfl dX0_compareRow_10 ?_
      refine j_iload_n hX dX0_compareRow_13 2 rfl ?_
      refine j_iconst (v := 4) hX dX0_compareRow_14 (by decide) ?_
      refine j_imul hX dX0_compareRow_15 ?_
      refine j_iload hX dX0_compareRow_16 0 rfl ?_
      refine j_iadd hX dX0_compareRow_18 ?_
      refine j_ialdN hX hB.2.1 (4 * k + c) (ix4 k c) (by omega) (by decide) dX0_compareRow_19 ?_
      refine j_istore (lv' := [(5, .int (cf (4 * k + c))), (4, .int (nI c)), (0, .ref b), (1, .int (nI k)), (2, .ref o), (3, .int (nI fr))]) hX dX0_compareRow_20 (by rw [hn]; decide) rfl ?_
      refine j_aload_n hX dX0_compareRow_22 4 rfl ?_
      refine j_iload_n hX dX0_compareRow_23 5 rfl ?_
      refine j_iload hX dX0_compareRow_24 1 rfl ?_
      refine j_iadd hX dX0_compareRow_26 ?_
      refine j_ialdN hX ho (fr + c) (nI_add fr c) (by omega) hn31 dX0_compareRow_27 ?_
      refine j_istore (lv' := [(6, .int (hf (fr + c))), (5, .int (cf (4 * k + c))), (4, .int (nI c)), (0, .ref b), (1, .int (nI k)), (2, .ref o), (3, .int (nI fr))]) hX dX0_compareRow_28 (by rw [hn]; decide) rfl ?_
      refine j_iload hX dX0_compareRow_30 1 rfl ?_
      refine j_iload hX dX0_compareRow_32 0 rfl ?_
      refine j_icmp_eq hX 50 dX0_compareRow_34 (by decide) (fun c_34 => ?_) (fun c_34 => ?_)
      · refine j_iinc (v := nI (c + 1)) (lv' := [(4, .int (nI (c + 1))), (6, .int (hf (fr + c))), (5, .int (cf (4 * k + c))), (0, .ref b), (1, .int (nI k)), (2, .ref o), (3, .int (nI fr))]) hX dX0_compareRow_50 2 rfl (nI_1 c) (by rw [hn]; decide) rfl ?_
        refine j_goto hX 3 dX0_compareRow_53 (by decide) ?_
        refine j_sub [0, 3, 4, 5, 6] rfl ?_
        exact ih (c + 1) (by omega) (by rw [cmpN_s, if_pos c_34] at hr; exact hr)
      · refine j_iload hX dX0_compareRow_37 1 rfl ?_
        refine j_iload hX dX0_compareRow_39 0 rfl ?_
        refine j_icmp_ge hX 48 dX0_compareRow_41 (by decide) (fun c_41 => ?_) (fun c_41 => ?_)
        · refine j_iconst (v := 1) hX dX0_compareRow_48 (by decide) ?_
          exact j_iret hX hE dX0_compareRow_49 (⟨by rw [← hr, cmpN_s, if_neg c_34, if_neg (Int32.not_lt.mpr c_41)], rfl⟩) (by decide) (by decide)
        · refine j_iconst (v := (-1)) hX dX0_compareRow_44 (by decide) ?_
          refine j_goto hX 49 dX0_compareRow_45 (by decide) ?_
          exact j_iret hX hE dX0_compareRow_49 (⟨by rw [← hr, cmpN_s, if_neg c_34, if_pos (Int32.not_le.mp c_41)], rfl⟩) (by decide) (by decide)
  refine j_iconst (v := nI 0) hX dX0_compareRow_0 (by decide) ?_
  refine j_istore (lv' := [(4, .int (nI 0)), (0, .ref b), (1, .int (nI k)), (2, .ref o), (3, .int (nI fr))]) hX dX0_compareRow_1 (by rw [hn]; decide) rfl ?_
  refine j_sub [0, 1, 2, 3, 4] rfl ?_
  exact loop 4 0 rfl rfl

set_option maxRecDepth 20000 in
set_option maxHeartbeats 600000 in
/-- isAt(p - 1, row) -/
theorem c_X0_isAt (l : Launch) (K : Cst) (g : Wd) (b ca oa n : Nat) (cf tf : Nat → Int32) (hB : isBag K g b ca oa n cf tf) (ra : Nat) (rf : Nat → Int32) (hr : g ra = some (aI K 4 rf)) (p : Nat) (hp20 : p ≤ 20) : Ct l K yX0_isAt cX0_isAt 3 (some .boolean) 1 [.ref b, .int (nI p - 1), .ref ra] g (fun v g' => v = some (.int (b01 (atP cf rf p))) ∧ g = g') (fun _ _ => False) 0 0 := by
  refine ct_of (by decide) (Nat.le_of_ble_eq_true rfl) ?_
  intro X hl hK hX hE hn hL hR hm
  subst hl; subst hK
  show J X 0 0 g 0 [(0, .ref b), (1, .int (nI p - 1)), (2, .ref ra)] []
  rcases Nat.eq_zero_or_pos p with hp | hp
  · subst hp
    refine j_iload_n hX dX0_isAt_0 1 rfl ?_
    refine j_if_lt hX 18 dX0_isAt_1 (by decide) (fun _ => ?_) (fun c_1 => absurd nI_0m c_1)
    refine j_iconst (v := 0) hX dX0_isAt_18 (by decide) ?_
    exact j_zret hX hE dX0_isAt_19 (by first | rfl | decide | assumption) (⟨rfl, rfl⟩) (by decide) (by decide)
  · rw [nI_m1 hp]
    refine j_iload_n hX dX0_isAt_0 1 rfl ?_
    refine j_if_lt hX 18 dX0_isAt_1 (by decide) (fun c_1 => absurd c_1 (nI_pos (n := p - 1) (by omega))) (fun _ => ?_)
    refine j_aload_n hX dX0_isAt_4 0 rfl ?_
    refine j_iload_n hX dX0_isAt_5 1 rfl ?_
    refine j_aload_n hX dX0_isAt_6 2 rfl ?_
    refine j_iconst (v := nI 0) hX dX0_isAt_7 (by decide) ?_
    refine j_callV (As := [.int (nI (p - 1)), .ref ra, .int (nI 0)]) (rest := []) hX (c_X0_compareRow (xl X) (xK X) g b ca oa n cf tf hB (p - 1) ra 4 0 rf (by omega) hr (by omega) (by decide)) hB.1 rfl lk_X0_44 wI_X0_compareRow wV_X0_X0_compareRow wN_X0 wC_X0_compareRow hd_X0_compareRow rfl (by rw [hL]; decide) (by decide) rfl (Nat.le_of_ble_eq_true rfl) dX0_isAt_8 (by rw [hR]; decide) (by rw [hR]; decide) jx_no ?_
    rintro _ _ ⟨rfl, rfl⟩
    show J X 0 0 g 11 [(0, .ref b), (1, .int (nI (p - 1))), (2, .ref ra)] [.int (cmp4 cf (4 * (p - 1)) rf 0)]
    refine j_if_ne hX 18 dX0_isAt_11 (by decide) (fun c_11 => ?_) (fun c_11 => ?_)
    · refine j_iconst (v := 0) hX dX0_isAt_18 (by decide) ?_
      exact j_zret hX hE dX0_isAt_19 (by first | rfl | decide | assumption) (⟨by rw [show b01 (atP cf rf p) = 0 from if_neg (by simp [atP, c_11])], rfl⟩) (by decide) (by decide)
    · refine j_iconst (v := 1) hX dX0_isAt_14 (by decide) ?_
      refine j_goto hX 19 dX0_isAt_15 (by decide) ?_
      exact j_zret hX hE dX0_isAt_19 (by first | rfl | decide | assumption) (⟨by rw [show b01 (atP cf rf p) = 1 from if_pos (by simp [atP, hp, c_11])], rfl⟩) (by decide) (by decide)

set_option maxRecDepth 20000 in
set_option maxHeartbeats 600000 in
/-- placeBehind(row) -/
theorem c_X0_placeBehind (l : Launch) (K : Cst) (g : Wd) (b ca oa n : Nat) (cf tf : Nat → Int32) (hB : isBag K g b ca oa n cf tf) (ra : Nat) (rf : Nat → Int32) (hr : g ra = some (aI K 4 rf)) (hn20 : n ≤ 20) : Ct l K yX0_placeBehind cX0_placeBehind 3 (some .int) 1 [.ref b, .ref ra] g (fun v g' => v = some (.int (nI (pbN cf rf n))) ∧ g = g') (fun _ _ => False) 0 0 := by
  refine ct_of (by decide) (Nat.le_of_ble_eq_true rfl) ?_
  intro X hl hK hX hE hn hL hR hm
  subst hl; subst hK
  show J X 0 0 g 0 [(0, .ref b), (1, .ref ra)] []
  have loop : ∀ (p : Nat), p ≤ 20 → pbN cf rf p = pbN cf rf n → J X 0 0 g 5 [(2, .int (nI p)), (0, .ref b), (1, .ref ra)] [] := by
    intro p
    induction p with
    | zero =>
      intro hp hq
      refine j_iload_n hX dX0_placeBehind_5 0 rfl ?_
      refine j_if_le hX 27 dX0_placeBehind_6 (by decide) (fun _ => ?_) (fun c_6 => absurd (show nI 0 ≤ 0 by decide) c_6)
      refine j_iload_n hX dX0_placeBehind_27 0 rfl ?_
      exact j_iret hX hE dX0_placeBehind_28 (⟨by rw [← hq]; rfl, rfl⟩) (by decide) (by decide)
    | succ p ih =>
      intro hp hq
      refine j_iload_n hX dX0_placeBehind_5 0 rfl ?_
      refine j_if_le hX 27 dX0_placeBehind_6 (by decide) (fun c_6 => absurd c_6 (nI_nle (n := p + 1) (by omega) (by omega))) (fun _ => ?_)
      refine j_aload_n hX dX0_placeBehind_9 1 rfl ?_
      refine j_iload_n hX dX0_placeBehind_10 0 rfl ?_
      refine j_iconst (v := 1) hX dX0_placeBehind_11 (by decide) ?_
      refine j_isub hX dX0_placeBehind_12 ?_
      refine j_eqi (y := nI p) (nI_pred p) ?_
      refine j_aload_n hX dX0_placeBehind_13 2 rfl ?_
      refine j_iconst (v := nI 0) hX dX0_placeBehind_14 (by decide) ?_
      refine j_callV (As := [.int (nI p), .ref ra, .int (nI 0)]) (rest := []) hX (c_X0_compareRow (xl X) (xK X) g b ca oa n cf tf hB (p) ra 4 0 rf (by omega) hr (by omega) (by decide)) hB.1 rfl lk_X0_44 wI_X0_compareRow wV_X0_X0_compareRow wN_X0 wC_X0_compareRow hd_X0_compareRow rfl (by rw [hL]; decide) (by decide) rfl (Nat.le_of_ble_eq_true rfl) dX0_placeBehind_15 (by rw [hR]; decide) (by rw [hR]; decide) jx_no ?_
      rintro _ _ ⟨rfl, rfl⟩
      show J X 0 0 g 18 [(2, .int (nI (p + 1))), (0, .ref b), (1, .ref ra)] [.int (cmp4 cf (4 * (p)) rf 0)]
      refine j_if_le hX 27 dX0_placeBehind_18 (by decide) (fun c_18 => ?_) (fun c_18 => ?_)
      · refine j_iload_n hX dX0_placeBehind_27 0 rfl ?_
        exact j_iret hX hE dX0_placeBehind_28 (⟨by rw [← hq, pbN, if_neg (Int32.not_lt.mpr c_18)], rfl⟩) (by decide) (by decide)
      · refine j_iinc (v := nI p) (lv' := [(2, .int (nI p)), (0, .ref b), (1, .ref ra)]) hX dX0_placeBehind_21 0 rfl (pk_m1 p) (by rw [hn]; decide) rfl ?_
        refine j_goto hX 5 dX0_placeBehind_24 (by decide) ?_
        refine j_sub [0, 1, 2] rfl ?_
        exact ih (by omega) (by rw [pbN, if_pos (Int32.not_le.mp c_18)] at hq; exact hq)
  refine j_aload_n hX dX0_placeBehind_0 0 rfl ?_
  refine j_get (v := .int (nI n)) hX hB.1 rfl wf_X0 2 (by decide) lk_X0_18 (fun _ h => h) rfl dX0_placeBehind_1 ?_
  refine j_istore_n (lv' := [(2, .int (nI n)), (0, .ref b), (1, .ref ra)]) hX dX0_placeBehind_4 (by rw [hn]; decide) rfl ?_
  exact loop n hn20 rfl

set_option maxRecDepth 20000 in
set_option maxHeartbeats 600000 in
/-- timesOf(row) -/
theorem c_X0_timesOf (l : Launch) (K : Cst) (g : Wd) (b ca oa n : Nat) (cf tf : Nat → Int32) (hB : isBag K g b ca oa n cf tf) (ra : Nat) (rf : Nat → Int32) (hr : g ra = some (aI K 4 rf)) (hn20 : n ≤ 20) : Ct l K yX0_timesOf cX0_timesOf 3 (some .int) 2 [.ref b, .ref ra] g (fun v g' => v = some (.int (timesAt cf tf rf n)) ∧ g = g') (fun _ _ => False) 0 0 := by
  refine ct_of (by decide) (Nat.le_of_ble_eq_true rfl) ?_
  intro X hl hK hX hE hn hL hR hm
  subst hl; subst hK
  show J X 0 0 g 0 [(0, .ref b), (1, .ref ra)] []
  refine j_aload_n hX dX0_timesOf_0 0 rfl ?_
  refine j_aload_n hX dX0_timesOf_1 1 rfl ?_
  refine j_callV (As := [.ref ra]) (rest := []) hX (c_X0_placeBehind (xl X) (xK X) g b ca oa n cf tf hB ra rf hr hn20) hB.1 rfl lk_X0_28 wI_X0_placeBehind wV_X0_X0_placeBehind wN_X0 wC_X0_placeBehind hd_X0_placeBehind rfl (by rw [hL]; decide) (by decide) rfl (Nat.le_of_ble_eq_true rfl) dX0_timesOf_2 (by rw [hR]; decide) (by rw [hR]; decide) jx_no ?_
  rintro _ _ ⟨rfl, rfl⟩
  show J X 0 0 g 5 [(0, .ref b), (1, .ref ra)] [.int (nI (pbN cf rf n))]
  refine j_istore_n (lv' := [(2, .int (nI (pbN cf rf n))), (0, .ref b), (1, .ref ra)]) hX dX0_timesOf_5 (by rw [hn]; decide) rfl ?_
  refine j_aload_n hX dX0_timesOf_6 1 rfl ?_
  refine j_iload_n hX dX0_timesOf_7 0 rfl ?_
  refine j_iconst (v := 1) hX dX0_timesOf_8 (by decide) ?_
  refine j_isub hX dX0_timesOf_9 ?_
  refine j_aload_n hX dX0_timesOf_10 2 rfl ?_
  refine j_callV (As := [.int ((nI (pbN cf rf n)) - 1), .ref ra]) (rest := []) hX (c_X0_isAt (xl X) (xK X) g b ca oa n cf tf hB ra rf hr (pbN cf rf n) (Nat.le_trans (pbN_le cf rf n) hn20)) hB.1 rfl lk_X0_32 wI_X0_isAt wV_X0_X0_isAt wN_X0 wC_X0_isAt hd_X0_isAt rfl (by rw [hL]; decide) (by decide) rfl (Nat.le_of_ble_eq_true rfl) dX0_timesOf_11 (by rw [hR]; decide) (by rw [hR]; decide) jx_no ?_
  rintro _ _ ⟨rfl, rfl⟩
  show J X 0 0 g 14 [(2, .int (nI (pbN cf rf n))), (0, .ref b), (1, .ref ra)] [.int (b01 (atP cf rf (pbN cf rf n)))]
  refine j_if_eq hX 28 dX0_timesOf_14 (by decide) (fun c_14 => ?_) (fun c_14 => ?_)
  · have ha : ¬ atP cf rf (pbN cf rf n) = true := fun h9 => by rw [h9] at c_14; exact absurd c_14 (by decide)
    refine j_iconst (v := 0) hX dX0_timesOf_28 (by decide) ?_
    exact j_iret hX hE dX0_timesOf_29 (⟨by rw [timesAt, if_neg ha], rfl⟩) (by decide) (by decide)
  · have ha : atP cf rf (pbN cf rf n) = true := by
      rcases h9 : atP cf rf (pbN cf rf n) with _ | _
      · exact absurd (by rw [h9]; rfl) c_14
      · rfl
    have hp : 0 < pbN cf rf n := by
      simp [atP] at ha; exact ha.1
    refine j_aload_n hX dX0_timesOf_17 1 rfl ?_
    refine j_get (v := .ref oa) hX hB.1 rfl wf_X0 1 (by decide) lk_X0_15 (fun _ h => h) rfl dX0_timesOf_18 ?_
    refine j_iload_n hX dX0_timesOf_21 0 rfl ?_
    refine j_iconst (v := 1) hX dX0_timesOf_22 (by decide) ?_
    refine j_isub hX dX0_timesOf_23 ?_
    refine j_eqi (y := nI (pbN cf rf n - 1)) (nI_m1 hp) ?_
    refine j_ialdN hX hB.2.2 (pbN cf rf n - 1) (rfl) (by have := pbN_le cf rf n; omega) (by decide) dX0_timesOf_24 ?_
    refine j_goto hX 29 dX0_timesOf_25 (by decide) ?_
    exact j_iret hX hE dX0_timesOf_29 (⟨by rw [timesAt, if_pos ha], rfl⟩) (by decide) (by decide)

