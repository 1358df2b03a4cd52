/-- nothing but the cells at ad has changed -/
def Fr (g g' : Wd) (ad : List Nat) : Prop := ∀ q, q ∉ ad → g' q = g q
theorem Fr.rf (g : Wd) (ad : List Nat) : Fr g g ad := fun _ _ => rfl
theorem Fr.tr {g g' g'' : Wd} {ad : List Nat} (h : Fr g g' ad) (h2 : Fr g' g'' ad) : Fr g g'' ad := fun q hq => (h2 q hq).trans (h q hq)
theorem Fr.mono {g g' : Wd} {ad ad' : List Nat} (h : Fr g g' ad) (hs : ∀ q ∈ ad, q ∈ ad') : Fr g g' ad' := fun q hq => h q (fun x => hq (hs q x))
theorem Fr.at {g g' : Wd} {ad : List Nat} {q : Nat} {e : Option va_E} (h : Fr g g' ad) (hg : g q = e) (hq : q ∉ ad) : g' q = e := (h q hq).trans hg
def sumL (t : Nat → Int32) : Nat → Int64
  | 0 => 0
  | n + 1 => sumL t n + (t n).toInt64
theorem nI_p1 (a : Nat) : nI a + nI 1 = nI (a + 1) := nI_add a 1
set_option maxRecDepth 20000 in
set_option maxHeartbeats 600000 in
/-- clear() -/
theorem c_X0_clear (l : Launch) (K : Cst) (g : Wd) (b ca oa n : Nat) (cf tf : Nat → Int32) (hB : isBag K g b ca oa n cf tf) : Ct l K yX0_clear cX0_clear 1 none 0 [.ref b] g (fun v g' => v = none ∧ isBag K g' b ca oa 0 cf tf ∧ Fr g g' [b]) (fun _ _ => False) 0 0 := by
  refine ct_of (by decide) (Nat.le_of_ble_eq_true rfl) ?_
  intro X hl hK hX hE hn hL hR hm
  subst hl; subst hK
  show J X 0 0 g 0 [(0, .ref b)] []
  refine j_aload_n hX dX0_clear_0 0 rfl ?_
  refine j_iconst (v := nI 0) hX dX0_clear_1 (by decide) ?_
  refine j_put hX hB.1 rfl wf_X0 tyX0_ok nmX0 2 (by decide) lk_X0_18 (fun _ h => h) rfl (tyX0_ok 2 (by decide)) rfl rfl (Nat.le_of_ble_eq_true rfl) dX0_clear_2 ?_
  obtain ⟨g1, eg1⟩ : ∃ z : Wd, z = up g b (ob 0 [.ref ca, .ref oa, .int (nI 0)]) := ⟨_, rfl⟩
  refine j_w eg1.symm ?_
  have k1_b : g1 b = some (ob 0 [.ref ca, .ref oa, .int (nI 0)]) := by rw [eg1]; exact up_s _ _ _
  have k1_ca := (congrFun eg1 ca).trans ((up_n (by first | exact ne_ob (hB.2.1) (hB.1) (by first | simp | decide | (intro h9; cases h9) | (simp only [ne_eq]; intro h9; injection h9 with h8; simp at h8)) | assumption | (apply Ne.symm; assumption))).trans (hB.2.1))
  have k1_oa := (congrFun eg1 oa).trans ((up_n (by first | exact ne_ob (hB.2.2) (hB.1) (by first | simp | decide | (intro h9; cases h9) | (simp only [ne_eq]; intro h9; injection h9 with h8; simp at h8)) | assumption | (apply Ne.symm; assumption))).trans (hB.2.2))
  exact j_vret hX hE dX0_clear_5 (⟨rfl, ⟨k1_b, k1_ca, k1_oa⟩, fun q hq => by rw [eg1, up_n (by simpa using hq)]⟩) (by decide) (by decide)

set_option maxRecDepth 20000 in
set_option maxHeartbeats 600000 in
/-- readRow(k, row) -/
theorem c_X0_readRow (l : Launch) (K : Cst) (g : Wd) (b ca oa n : Nat) (cf tf : Nat → Int32) (hB : isBag K g b ca oa n cf tf) (ra : Nat) (rf : Nat → Int32) (hr : g ra = some (aI K 4 rf)) (k : Nat) (hk : k < 20) : Ct l K yX0_readRow cX0_readRow 3 none 1 [.ref b, .int (nI k), .ref ra] g (fun v g' => v = none ∧ g' ra = some (aI K 4 (va_cpy cf rf (4 * k) 0 4)) ∧ Fr g g' [ra]) (fun _ _ => False) 0 0 := by
  refine ct_of (by decide) (Nat.le_of_ble_eq_true rfl) ?_
  intro X hl hK hX hE hn hL hR hm
  subst hl; subst hK
  show J X 0 0 g 0 [(0, .ref b), (1, .int (nI k)), (2, .ref ra)] []
  refine j_aload_n hX dX0_readRow_0 0 rfl ?_
  refine j_get (v := .ref ca) hX hB.1 rfl wf_X0 0 (by decide) lk_X0_9 (fun _ h => h) rfl dX0_readRow_1 ?_
  refine j_iload_n hX dX0_readRow_4 1 rfl ?_
  refine j_iconst (v := 4) hX dX0_readRow_5 (by decide) ?_
  refine j_imul hX dX0_readRow_6 ?_
  refine j_eqi (y := nI (4 * k)) (ix4' k) ?_
  refine j_aload_n hX dX0_readRow_7 2 rfl ?_
  refine j_iconst (v := nI 0) hX dX0_readRow_8 (by decide) ?_
  refine j_iconst (v := nI 4) hX dX0_readRow_9 (by decide) ?_
  refine j_copyN hX lk_X0_22 hB.2.1 hr (4 * k) (0) (4) (rfl) (rfl) (rfl) (by omega) (by omega) (by decide) (by decide) (by rw [hL]; decide) (by decide) dX0_readRow_10 ?_
  obtain ⟨g1, eg1⟩ : ∃ z : Wd, z = up g ra (aI (xK X) 4 (va_cpy cf rf (4 * k) (0) (4))) := ⟨_, rfl⟩
  refine j_w eg1.symm ?_
  have k1_b := (congrFun eg1 b).trans ((up_n (by first | exact ne_ob (hB.1) (hr) (by first | simp | decide | (intro h9; cases h9) | (simp only [ne_eq]; intro h9; injection h9 with h8; simp at h8)) | assumption | (apply Ne.symm; assumption))).trans (hB.1))
  have k1_ca := (congrFun eg1 ca).trans ((up_n (by first | exact ne_ob (hB.2.1) (hr) (by first | simp | decide | (intro h9; cases h9) | (simp only [ne_eq]; intro h9; injection h9 with h8; simp at h8)) | assumption | (apply Ne.symm; assumption))).trans (hB.2.1))
  have k1_oa := (congrFun eg1 oa).trans ((up_n (by first | exact ne_ob (hB.2.2) (hr) (by first | simp | decide | (intro h9; cases h9) | (simp only [ne_eq]; intro h9; injection h9 with h8; simp at h8)) | assumption | (apply Ne.symm; assumption))).trans (hB.2.2))
  have k1_ra : g1 ra = some (aI (xK X) 4 (va_cpy cf rf (4 * k) (0) (4))) := by rw [eg1]; exact up_s _ _ _
  exact j_vret hX hE dX0_readRow_13 (⟨rfl, k1_ra, fun q hq => by rw [eg1, up_n (by simpa using hq)]⟩) (by decide) (by decide)

set_option maxRecDepth 20000 in
set_option maxHeartbeats 600000 in
/-- copyFrom(other) -/
theorem c_X0_copyFrom (l : Launch) (K : Cst) (g : Wd) (b ca oa n : Nat) (cf tf : Nat → Int32) (hB : isBag K g b ca oa n cf tf) (b2 ca2 oa2 n2 : Nat) (cf2 tf2 : Nat → Int32) (hB2 : isBag K g b2 ca2 oa2 n2 cf2 tf2) (nb : b2 ≠ b) (nca : ca2 ≠ ca) (noa : oa2 ≠ oa) : Ct l K yX0_copyFrom cX0_copyFrom 2 none 1 [.ref b, .ref b2] g (fun v g' => v = none ∧ isBag K g' b ca oa n2 (va_cpy cf2 cf 0 0 80) (va_cpy tf2 tf 0 0 20) ∧ Fr g g' [b, ca, oa]) (fun _ _ => False) 0 0 := by
  refine ct_of (by decide) (Nat.le_of_ble_eq_true rfl) ?_
  intro X hl hK hX hE hn hL hR hm
  subst hl; subst hK
  show J X 0 0 g 0 [(0, .ref b), (1, .ref b2)] []
  refine j_aload_n hX dX0_copyFrom_0 1 rfl ?_
  refine j_get (v := .ref ca2) hX hB2.1 rfl wf_X0 0 (by decide) lk_X0_9 (fun _ h => h) rfl dX0_copyFrom_1 ?_
  refine j_iconst (v := nI 0) hX dX0_copyFrom_4 (by decide) ?_
  refine j_aload_n hX dX0_copyFrom_5 0 rfl ?_
  refine j_get (v := .ref ca) hX hB.1 rfl wf_X0 0 (by decide) lk_X0_9 (fun _ h => h) rfl dX0_copyFrom_6 ?_
  refine j_iconst (v := nI 0) hX dX0_copyFrom_9 (by decide) ?_
  refine j_aload_n hX dX0_copyFrom_10 0 rfl ?_
  refine j_get (v := .ref ca) hX hB.1 rfl wf_X0 0 (by decide) lk_X0_9 (fun _ h => h) rfl dX0_copyFrom_11 ?_
  refine j_alenI hX hB.2.1 dX0_copyFrom_14 ?_
  refine j_copyN hX lk_X0_22 hB2.2.1 hB.2.1 (0) (0) (80) (rfl) (rfl) (rfl) (by omega) (by omega) (by decide) (by decide) (by rw [hL]; decide) (by decide) dX0_copyFrom_15 ?_
  obtain ⟨g1, eg1⟩ : ∃ z : Wd, z = up g ca (aI (xK X) 80 (va_cpy cf2 cf (0) (0) (80))) := ⟨_, rfl⟩
  refine j_w eg1.symm ?_
  have k1_b := (congrFun eg1 b).trans ((up_n (by first | exact ne_ob (hB.1) (hB.2.1) (by first | simp | decide | (intro h9; cases h9) | (simp only [ne_eq]; intro h9; injection h9 with h8; simp at h8)) | assumption | (apply Ne.symm; assumption))).trans (hB.1))
  have k1_ca : g1 ca = some (aI (xK X) 80 (va_cpy cf2 cf (0) (0) (80))) := by rw [eg1]; exact up_s _ _ _
  have k1_oa := (congrFun eg1 oa).trans ((up_n (by first | exact ne_ob (hB.2.2) (hB.2.1) (by first | simp | decide | (intro h9; cases h9) | (simp only [ne_eq]; intro h9; injection h9 with h8; simp at h8)) | assumption | (apply Ne.symm; assumption))).trans (hB.2.2))
  have k1_b2 := (congrFun eg1 b2).trans ((up_n (by first | exact ne_ob (hB2.1) (hB.2.1) (by first | simp | decide | (intro h9; cases h9) | (simp only [ne_eq]; intro h9; injection h9 with h8; simp at h8)) | assumption | (apply Ne.symm; assumption))).trans (hB2.1))
  have k1_ca2 := (congrFun eg1 ca2).trans ((up_n (nca)).trans (hB2.2.1))
  have k1_oa2 := (congrFun eg1 oa2).trans ((up_n (by first | exact ne_ob (hB2.2.2) (hB.2.1) (by first | simp | decide | (intro h9; cases h9) | (simp only [ne_eq]; intro h9; injection h9 with h8; simp at h8)) | assumption | (apply Ne.symm; assumption))).trans (hB2.2.2))
  refine j_aload_n hX dX0_copyFrom_18 1 rfl ?_
  refine j_get (v := .ref oa2) hX k1_b2 rfl wf_X0 1 (by decide) lk_X0_15 (fun _ h => h) rfl dX0_copyFrom_19 ?_
  refine j_iconst (v := nI 0) hX dX0_copyFrom_22 (by decide) ?_
  refine j_aload_n hX dX0_copyFrom_23 0 rfl ?_
  refine j_get (v := .ref oa) hX k1_b rfl wf_X0 1 (by decide) lk_X0_15 (fun _ h => h) rfl dX0_copyFrom_24 ?_
  refine j_iconst (v := nI 0) hX dX0_copyFrom_27 (by decide) ?_
  refine j_aload_n hX dX0_copyFrom_28 0 rfl ?_
  refine j_get (v := .ref oa) hX k1_b rfl wf_X0 1 (by decide) lk_X0_15 (fun _ h => h) rfl dX0_copyFrom_29 ?_
  refine j_alenI hX k1_oa dX0_copyFrom_32 ?_
  refine j_copyN hX lk_X0_22 k1_oa2 k1_oa (0) (0) (20) (rfl) (rfl) (rfl) (by omega) (by omega) (by decide) (by decide) (by rw [hL]; decide) (by decide) dX0_copyFrom_33 ?_
  obtain ⟨g2, eg2⟩ : ∃ z : Wd, z = up g1 oa (aI (xK X) 20 (va_cpy tf2 tf (0) (0) (20))) := ⟨_, rfl⟩
  refine j_w eg2.symm ?_
  have k2_b := (congrFun eg2 b).trans ((up_n (by first | exact ne_ob (k1_b) (k1_oa) (by first | simp | decide | (intro h9; cases h9) | (simp only [ne_eq]; intro h9; injection h9 with h8; simp at h8)) | assumption | (apply Ne.symm; assumption))).trans (k1_b))
  have k2_ca := (congrFun eg2 ca).trans ((up_n (by first | exact ne_ob (k1_ca) (k1_oa) (by first | simp | decide | (intro h9; cases h9) | (simp only [ne_eq]; intro h9; injection h9 with h8; simp at h8)) | assumption | (apply Ne.symm; assumption))).trans (k1_ca))
  have k2_oa : g2 oa = some (aI (xK X) 20 (va_cpy tf2 tf (0) (0) (20))) := by rw [eg2]; exact up_s _ _ _
  have k2_b2 := (congrFun eg2 b2).trans ((up_n (by first | exact ne_ob (k1_b2) (k1_oa) (by first | simp | decide | (intro h9; cases h9) | (simp only [ne_eq]; intro h9; injection h9 with h8; simp at h8)) | assumption | (apply Ne.symm; assumption))).trans (k1_b2))
  have k2_ca2 := (congrFun eg2 ca2).trans ((up_n (by first | exact ne_ob (k1_ca2) (k1_oa) (by first | simp | decide | (intro h9; cases h9) | (simp only [ne_eq]; intro h9; injection h9 with h8; simp at h8)) | assumption | (apply Ne.symm; assumption))).trans (k1_ca2))
  have k2_oa2 := (congrFun eg2 oa2).trans ((up_n (noa)).trans (k1_oa2))
  refine j_aload_n hX dX0_copyFrom_36 0 rfl ?_
  refine j_aload_n hX dX0_copyFrom_37 1 rfl ?_
  refine j_get (v := .int (nI n2)) hX k2_b2 rfl wf_X0 2 (by decide) lk_X0_18 (fun _ h => h) rfl dX0_copyFrom_38 ?_
  refine j_put hX k2_b rfl wf_X0 tyX0_ok nmX0 2 (by decide) lk_X0_18 (fun _ h => h) rfl (tyX0_ok 2 (by decide)) rfl rfl (Nat.le_of_ble_eq_true rfl) dX0_copyFrom_41 ?_
  obtain ⟨g3, eg3⟩ : ∃ z : Wd, z = up g2 b (ob 0 [.ref ca, .ref oa, .int (nI n2)]) := ⟨_, rfl⟩
  refine j_w eg3.symm ?_
  have k3_b : g3 b = some (ob 0 [.ref ca, .ref oa, .int (nI n2)]) := by rw [eg3]; exact up_s _ _ _
  have k3_ca := (congrFun eg3 ca).trans ((up_n (by first | exact ne_ob (k2_ca) (k2_b) (by first | simp | decide | (intro h9; cases h9) | (simp only [ne_eq]; intro h9; injection h9 with h8; simp at h8)) | assumption | (apply Ne.symm; assumption))).trans (k2_ca))
  have k3_oa := (congrFun eg3 oa).trans ((up_n (by first | exact ne_ob (k2_oa) (k2_b) (by first | simp | decide | (intro h9; cases h9) | (simp only [ne_eq]; intro h9; injection h9 with h8; simp at h8)) | assumption | (apply Ne.symm; assumption))).trans (k2_oa))
  have k3_b2 := (congrFun eg3 b2).trans ((up_n (nb)).trans (k2_b2))
  have k3_ca2 := (congrFun eg3 ca2).trans ((up_n (by first | exact ne_ob (k2_ca2) (k2_b) (by first | simp | decide | (intro h9; cases h9) | (simp only [ne_eq]; intro h9; injection h9 with h8; simp at h8)) | assumption | (apply Ne.symm; assumption))).trans (k2_ca2))
  have k3_oa2 := (congrFun eg3 oa2).trans ((up_n (by first | exact ne_ob (k2_oa2) (k2_b) (by first | simp | decide | (intro h9; cases h9) | (simp only [ne_eq]; intro h9; injection h9 with h8; simp at h8)) | assumption | (apply Ne.symm; assumption))).trans (k2_oa2))
  exact j_vret hX hE dX0_copyFrom_44 (⟨rfl, ⟨k3_b, k3_ca, k3_oa⟩, fun q hq => by simp only [List.mem_cons, List.not_mem_nil, or_false, not_or] at hq; rw [eg3, up_n hq.1, eg2, up_n hq.2.2, eg1, up_n hq.2.1]⟩) (by decide) (by decide)

set_option maxRecDepth 20000 in
set_option maxHeartbeats 600000 in
/-- allTimes() -/
theorem c_X0_allTimes (l : Launch) (K : Cst) (g : Wd) (b ca oa n : Nat) (cf tf : Nat → Int32) (hB : isBag K g b ca oa n cf tf) (hn20 : n ≤ 20) : Ct l K yX0_allTimes cX0_allTimes 4 (some .long) 0 [.ref b] g (fun v g' => v = some (.long (sumL tf n)) ∧ g = g') (fun _ _ => False) 0 0 := by
  refine ct_of (by decide) (Nat.le_of_ble_eq_true rfl) ?_
  intro X hl hK hX hE hn hL hR hm
  subst hl; subst hK
  show J X 0 0 g 0 [(0, .ref b)] []
  have loop : ∀ (m k : Nat), k + m = n → J X 0 0 g 4 [(3, .int (nI k)), (1, .long (sumL tf k)), (0, .ref b)] [] := by
    intro m
    induction m with
    | zero =>
      intro k hk
      refine j_iload_n hX dX0_allTimes_4 0 rfl ?_
      refine j_aload_n hX dX0_allTimes_5 2 rfl ?_
      refine j_get (v := .int (nI n)) hX hB.1 rfl wf_X0 2 (by decide) lk_X0_18 (fun _ h => h) rfl dX0_allTimes_6 ?_
      refine j_icmp_ge hX 28 dX0_allTimes_9 (by decide) (fun _ => ?_) (fun c_9 => absurd (nI_le (a := n) (b := k) (by omega) (by omega)) c_9)
      refine j_lload_n hX dX0_allTimes_28 1 rfl ?_
      exact j_lret hX hE dX0_allTimes_29 (⟨by rw [show k = n by omega], rfl⟩) (by decide) (by decide)
    | succ m ih =>
      intro k hk
      refine j_iload_n hX dX0_allTimes_4 0 rfl ?_
      refine j_aload_n hX dX0_allTimes_5 2 rfl ?_
      refine j_get (v := .int (nI n)) hX hB.1 rfl wf_X0 2 (by decide) lk_X0_18 (fun _ h => h) rfl dX0_allTimes_6 ?_
      refine j_icmp_ge hX 28 dX0_allTimes_9 (by decide) (fun c_9 => absurd c_9 (nI_ge (a := k) (b := n) (by omega) (by omega))) (fun _ => ?_)
      refine j_lload_n hX dX0_allTimes_12 1 rfl ?_
      refine j_aload_n hX dX0_allTimes_13 2 rfl ?_
      refine j_get (v := .ref oa) hX hB.1 rfl wf_X0 1 (by decide) lk_X0_15 (fun _ h => h) rfl dX0_allTimes_14 ?_
      refine j_iload_n hX dX0_allTimes_17 0 rfl ?_
      refine j_ialdN hX hB.2.2 (k) (rfl) (by omega) (by decide) dX0_allTimes_18 ?_
      refine j_i2l hX dX0_allTimes_19 ?_
      refine j_ladd hX dX0_allTimes_20 ?_
      refine j_eql (y := sumL tf (k + 1)) (rfl) ?_
      refine j_lstore_n (lv' := [(1, .long (sumL tf (k + 1))), (3, .int (nI k)), (0, .ref b)]) hX dX0_allTimes_21 (by rw [hn]; decide) rfl ?_
      refine j_iinc (v := nI (k + 1)) (lv' := [(3, .int (nI (k + 1))), (1, .long (sumL tf (k + 1))), (0, .ref b)]) hX dX0_allTimes_22 1 rfl (nI_1 k) (by rw [hn]; decide) rfl ?_
      refine j_goto hX 4 dX0_allTimes_25 (by decide) ?_
      refine j_sub [0, 1, 2] rfl ?_
      exact ih (k + 1) (by omega)
  refine j_lconst (v := 0) hX dX0_allTimes_0 (by decide) ?_
  refine j_lstore_n (lv' := [(1, .long 0), (0, .ref b)]) hX dX0_allTimes_1 (by rw [hn]; decide) rfl ?_
  refine j_iconst (v := nI 0) hX dX0_allTimes_2 (by decide) ?_
  refine j_istore_n (lv' := [(3, .int (nI 0)), (1, .long 0), (0, .ref b)]) hX dX0_allTimes_3 (by rw [hn]; decide) rfl ?_
  exact loop n 0 (by omega)

set_option maxRecDepth 20000 in
set_option maxHeartbeats 600000 in
/-- remove(k) -/
theorem c_X0_remove (l : Launch) (K : Cst) (g : Wd) (b ca oa n : Nat) (cf tf : Nat → Int32) (hB : isBag K g b ca oa n cf tf) (k : Nat) (hk : k < n) (hn20 : n ≤ 20) : Ct l K yX0_remove cX0_remove 4 none 1 [.ref b, .int (nI k)] g (fun v g' => v = none ∧ isBag K g' b ca oa (n - 1) (va_cpy cf cf (4 * k + 4) (4 * k) (4 * (n - 1 - k))) (va_cpy tf tf (k + 1) k (n - 1 - k)) ∧ Fr g g' [b, ca, oa]) (fun _ _ => False) 0 0 := by
  refine ct_of (by decide) (Nat.le_of_ble_eq_true rfl) ?_
  intro X hl hK hX hE hn hL hR hm
  subst hl; subst hK
  show J X 0 0 g 0 [(0, .ref b), (1, .int (nI k))] []
  refine j_aload_n hX dX0_remove_0 0 rfl ?_
  refine j_get (v := .int (nI n)) hX hB.1 rfl wf_X0 2 (by decide) lk_X0_18 (fun _ h => h) rfl dX0_remove_1 ?_
  refine j_iload_n hX dX0_remove_4 1 rfl ?_
  refine j_isub hX dX0_remove_5 ?_
  refine j_iconst (v := 1) hX dX0_remove_6 (by decide) ?_
  refine j_isub hX dX0_remove_7 ?_
  refine j_eqi (y := nI (n - 1 - k)) (by rw [pk_sub (by omega), nI_m1 (by omega)]; exact congrArg nI (by omega)) ?_
  refine j_istore_n (lv' := [(2, .int (nI (n - 1 - k))), (0, .ref b), (1, .int (nI k))]) hX dX0_remove_8 (by rw [hn]; decide) rfl ?_
  refine j_iload_n hX dX0_remove_9 2 rfl ?_
  refine j_iconst (v := 4) hX dX0_remove_10 (by decide) ?_
  refine j_imul hX dX0_remove_11 ?_
  refine j_eqi (y := nI (4 * k)) (ix4' k) ?_
  refine j_istore_n (lv' := [(3, .int (nI (4 * k))), (2, .int (nI (n - 1 - k))), (0, .ref b), (1, .int (nI k))]) hX dX0_remove_12 (by rw [hn]; decide) rfl ?_
  refine j_aload_n hX dX0_remove_13 2 rfl ?_
  refine j_get (v := .ref ca) hX hB.1 rfl wf_X0 0 (by decide) lk_X0_9 (fun _ h => h) rfl dX0_remove_14 ?_
  refine j_iload_n hX dX0_remove_17 0 rfl ?_
  refine j_iconst (v := nI 4) hX dX0_remove_18 (by decide) ?_
  refine j_iadd hX dX0_remove_19 ?_
  refine j_eqi (y := nI (4 * k + 4)) (nI_add _ _) ?_
  refine j_aload_n hX dX0_remove_20 2 rfl ?_
  refine j_get (v := .ref ca) hX hB.1 rfl wf_X0 0 (by decide) lk_X0_9 (fun _ h => h) rfl dX0_remove_21 ?_
  refine j_iload_n hX dX0_remove_24 0 rfl ?_
  refine j_iload_n hX dX0_remove_25 1 rfl ?_
  refine j_iconst (v := 4) hX dX0_remove_26 (by decide) ?_
  refine j_imul hX dX0_remove_27 ?_
  refine j_eqi (y := nI (4 * (n - 1 - k))) (ix4' _) ?_
  refine j_copyN hX lk_X0_22 hB.2.1 hB.2.1 (4 * k + 4) (4 * k) (4 * (n - 1 - k)) (rfl) (rfl) (rfl) (by omega) (by omega) (by decide) (by decide) (by rw [hL]; decide) (by decide) dX0_remove_28 ?_
  obtain ⟨g1, eg1⟩ : ∃ z : Wd, z = up g ca (aI (xK X) 80 (va_cpy cf cf (4 * k + 4) (4 * k) (4 * (n - 1 - k)))) := ⟨_, rfl⟩
  refine j_w eg1.symm ?_
  have k1_b := (congrFun eg1 b).trans ((up_n (by first | exact ne_ob (hB.1) (hB.2.1) (by first | simp | decide | (intro h9; cases h9) | (simp only [ne_eq]; intro h9; injection h9 with h8; simp at h8)) | assumption | (apply Ne.symm; assumption))).trans (hB.1))
  have k1_ca : g1 ca = some (aI (xK X) 80 (va_cpy cf cf (4 * k + 4) (4 * k) (4 * (n - 1 - k)))) := by rw [eg1]; exact up_s _ _ _
  have k1_oa := (congrFun eg1 oa).trans ((up_n (by first | exact ne_ob (hB.2.2) (hB.2.1) (by first | simp | decide | (intro h9; cases h9) | (simp only [ne_eq]; intro h9; injection h9 with h8; simp at h8)) | assumption | (apply Ne.symm; assumption))).trans (hB.2.2))
  refine j_aload_n hX dX0_remove_31 2 rfl ?_
  refine j_get (v := .ref oa) hX k1_b rfl wf_X0 1 (by decide) lk_X0_15 (fun _ h => h) rfl dX0_remove_32 ?_
  refine j_iload_n hX dX0_remove_35 3 rfl ?_
  refine j_iconst (v := nI 1) hX dX0_remove_36 (by decide) ?_
  refine j_iadd hX dX0_remove_37 ?_
  refine j_eqi (y := nI (k + 1)) (nI_add _ _) ?_
  refine j_aload_n hX dX0_remove_38 2 rfl ?_
  refine j_get (v := .ref oa) hX k1_b rfl wf_X0 1 (by decide) lk_X0_15 (fun _ h => h) rfl dX0_remove_39 ?_
  refine j_iload_n hX dX0_remove_42 3 rfl ?_
  refine j_iload_n hX dX0_remove_43 1 rfl ?_
  refine j_copyN hX lk_X0_22 k1_oa k1_oa (k + 1) (k) (n - 1 - k) (rfl) (rfl) (rfl) (by omega) (by omega) (by decide) (by decide) (by rw [hL]; decide) (by decide) dX0_remove_44 ?_
  obtain ⟨g2, eg2⟩ : ∃ z : Wd, z = up g1 oa (aI (xK X) 20 (va_cpy tf tf (k + 1) (k) (n - 1 - k))) := ⟨_, rfl⟩
  refine j_w eg2.symm ?_
  have k2_b := (congrFun eg2 b).trans ((up_n (by first | exact ne_ob (k1_b) (k1_oa) (by first | simp | decide | (intro h9; cases h9) | (simp only [ne_eq]; intro h9; injection h9 with h8; simp at h8)) | assumption | (apply Ne.symm; assumption))).trans (k1_b))
  have k2_ca := (congrFun eg2 ca).trans ((up_n (by first | exact ne_ob (k1_ca) (k1_oa) (by first | simp | decide | (intro h9; cases h9) | (simp only [ne_eq]; intro h9; injection h9 with h8; simp at h8)) | assumption | (apply Ne.symm; assumption))).trans (k1_ca))
  have k2_oa : g2 oa = some (aI (xK X) 20 (va_cpy tf tf (k + 1) (k) (n - 1 - k))) := by rw [eg2]; exact up_s _ _ _
  refine j_aload_n hX dX0_remove_47 2 rfl ?_
  refine j_dup hX dX0_remove_48 rfl ?_
  refine j_get (v := .int (nI n)) hX k2_b rfl wf_X0 2 (by decide) lk_X0_18 (fun _ h => h) rfl dX0_remove_49 ?_
  refine j_iconst (v := 1) hX dX0_remove_52 (by decide) ?_
  refine j_isub hX dX0_remove_53 ?_
  refine j_eqi (y := nI (n - 1)) (nI_m1 (by omega)) ?_
  refine j_put hX k2_b rfl wf_X0 tyX0_ok nmX0 2 (by decide) lk_X0_18 (fun _ h => h) rfl (tyX0_ok 2 (by decide)) rfl rfl (Nat.le_of_ble_eq_true rfl) dX0_remove_54 ?_
  obtain ⟨g3, eg3⟩ : ∃ z : Wd, z = up g2 b (ob 0 [.ref ca, .ref oa, .int (nI (n - 1))]) := ⟨_, rfl⟩
  refine j_w eg3.symm ?_
  have k3_b : g3 b = some (ob 0 [.ref ca, .ref oa, .int (nI (n - 1))]) := by rw [eg3]; exact up_s _ _ _
  have k3_ca := (congrFun eg3 ca).trans ((up_n (by first | exact ne_ob (k2_ca) (k2_b) (by first | simp | decide | (intro h9; cases h9) | (simp only [ne_eq]; intro h9; injection h9 with h8; simp at h8)) | assumption | (apply Ne.symm; assumption))).trans (k2_ca))
  have k3_oa := (congrFun eg3 oa).trans ((up_n (by first | exact ne_ob (k2_oa) (k2_b) (by first | simp | decide | (intro h9; cases h9) | (simp only [ne_eq]; intro h9; injection h9 with h8; simp at h8)) | assumption | (apply Ne.symm; assumption))).trans (k2_oa))
  exact j_vret hX hE dX0_remove_57 (⟨rfl, ⟨k3_b, k3_ca, k3_oa⟩, fun q hq => by simp only [List.mem_cons, List.not_mem_nil, or_false, not_or] at hq; rw [eg3, up_n hq.1, eg2, up_n hq.2.2, eg1, up_n hq.2.1]⟩) (by decide) (by decide)

set_option maxRecDepth 20000 in
set_option maxHeartbeats 600000 in
/-- setTimes(k, m) -/
theorem c_X0_setTimes (l : Launch) (K : Cst) (g : Wd) (b ca oa n : Nat) (cf tf : Nat → Int32) (hB : isBag K g b ca oa n cf tf) (k : Nat) (m : Int64) (hk : k < n) (hn20 : n ≤ 20) : Ct l K yX0_setTimes cX0_setTimes 4 (some .boolean) 2 [.ref b, .int (nI k), .long m] g (fun v g' => (1000000000 < m ∧ v = some (.int 0) ∧ g = g') ∨ (m ≤ 0 ∧ v = some (.int 1) ∧ isBag K g' b ca oa (n - 1) (va_cpy cf cf (4 * k + 4) (4 * k) (4 * (n - 1 - k))) (va_cpy tf tf (k + 1) k (n - 1 - k)) ∧ Fr g g' [b, ca, oa]) ∨ (0 < m ∧ m ≤ 1000000000 ∧ v = some (.int 1) ∧ isBag K g' b ca oa n cf (upd tf k m.toInt32) ∧ Fr g g' [b, ca, oa])) (fun _ _ => False) 0 0 := by
  refine ct_of (by decide) (Nat.le_of_ble_eq_true rfl) ?_
  intro X hl hK hX hE hn hL hR hm
  subst hl; subst hK
  show J X 0 0 g 0 [(0, .ref b), (1, .int (nI k)), (2, .long m)] []
  refine j_lload_n hX dX0_setTimes_0 2 rfl ?_
  refine j_ldc2 (v := 1000000000) hX lk_X0_48 dX0_setTimes_1 ?_
  refine j_lcmp hX dX0_setTimes_4 ?_
  refine j_if_le hX 10 dX0_setTimes_5 (by decide) (fun c_5 => ?_) (fun c_5 => ?_)
  · have c5 := (lg_cmp_le _ _).mp c_5
    refine j_lload_n hX dX0_setTimes_10 2 rfl ?_
    refine j_lconst (v := 0) hX dX0_setTimes_11 (by decide) ?_
    refine j_lcmp hX dX0_setTimes_12 ?_
    refine j_if_gt hX 24 dX0_setTimes_13 (by decide) (fun c_13 => ?_) (fun c_13 => ?_)
    · have c13 := (lg_cmp_gt _ _).mp c_13
      refine j_aload_n hX dX0_setTimes_24 0 rfl ?_
      refine j_get (v := .ref oa) hX hB.1 rfl wf_X0 1 (by decide) lk_X0_15 (fun _ h => h) rfl dX0_setTimes_25 ?_
      refine j_iload_n hX dX0_setTimes_28 1 rfl ?_
      refine j_lload_n hX dX0_setTimes_29 2 rfl ?_
      refine j_l2i hX dX0_setTimes_30 ?_
      refine j_iastN hX hB.2.2 (k) (rfl) (by omega) (by decide) dX0_setTimes_31 ?_
      obtain ⟨g1, eg1⟩ : ∃ z : Wd, z = up g oa (aI (xK X) 20 (upd tf (k) m.toInt32)) := ⟨_, rfl⟩
      refine j_w eg1.symm ?_
      have k1_b := (congrFun eg1 b).trans ((up_n (by first | exact ne_ob (hB.1) (hB.2.2) (by first | simp | decide | (intro h9; cases h9) | (simp only [ne_eq]; intro h9; injection h9 with h8; simp at h8)) | assumption | (apply Ne.symm; assumption))).trans (hB.1))
      have k1_ca := (congrFun eg1 ca).trans ((up_n (by first | exact ne_ob (hB.2.1) (hB.2.2) (by first | simp | decide | (intro h9; cases h9) | (simp only [ne_eq]; intro h9; injection h9 with h8; simp at h8)) | assumption | (apply Ne.symm; assumption))).trans (hB.2.1))
      have k1_oa : g1 oa = some (aI (xK X) 20 (upd tf (k) m.toInt32)) := by rw [eg1]; exact up_s _ _ _
      refine j_iconst (v := 1) hX dX0_setTimes_32 (by decide) ?_
      exact j_zret hX hE dX0_setTimes_33 (by first | rfl | decide | assumption) (Or.inr (Or.inr ⟨c13, c5, rfl, ⟨k1_b, k1_ca, k1_oa⟩, fun q hq => by simp only [List.mem_cons, List.not_mem_nil, or_false, not_or] at hq; rw [eg1, up_n hq.2.2]⟩)) (by decide) (by decide)
    · have c13 : m ≤ 0 := Int64.not_lt.mp (fun q => c_13 ((lg_cmp_gt _ _).mpr q))
      refine j_aload_n hX dX0_setTimes_16 0 rfl ?_
      refine j_iload_n hX dX0_setTimes_17 1 rfl ?_
      refine j_callV (As := [.int (nI k)]) (rest := []) hX (c_X0_remove (xl X) (xK X) g b ca oa n cf tf hB k hk hn20) hB.1 rfl lk_X0_50 wI_X0_remove wV_X0_X0_remove wN_X0 wC_X0_remove hd_X0_remove rfl (by rw [hL]; decide) (by decide) rfl (Nat.le_of_ble_eq_true rfl) dX0_setTimes_18 (by rw [hR]; decide) (by rw [hR]; decide) jx_no ?_
      rintro _ g' ⟨rfl, hB', hF⟩
      show J X 0 0 g' 21 [(0, .ref b), (1, .int (nI k)), (2, .long m)] []
      refine j_goto hX 32 dX0_setTimes_21 (by decide) ?_
      refine j_iconst (v := 1) hX dX0_setTimes_32 (by decide) ?_
      exact j_zret hX hE dX0_setTimes_33 (by first | rfl | decide | assumption) (Or.inr (Or.inl ⟨c13, rfl, hB', hF⟩)) (by decide) (by decide)
  · have c5 : 1000000000 < m := Int64.not_le.mp (fun q => c_5 ((lg_cmp_le _ _).mpr q))
    refine j_iconst (v := 0) hX dX0_setTimes_8 (by decide) ?_
    exact j_zret hX hE dX0_setTimes_9 (by first | rfl | decide | assumption) (Or.inl ⟨c5, rfl, rfl⟩) (by decide) (by decide)

set_option maxRecDepth 20000 in
set_option maxHeartbeats 600000 in
/-- insert(p, row, m) -/
theorem c_X0_insert (l : Launch) (K : Cst) (g : Wd) (b ca oa n : Nat) (cf tf : Nat → Int32) (hB : isBag K g b ca oa n cf tf) (ra : Nat) (rf : Nat → Int32) (hr : g ra = some (aI K 4 rf)) (p : Nat) (m : Int64) (hp : p ≤ n) (hn20 : n ≤ 20) : Ct l K yX0_insert cX0_insert 7 (some .boolean) 1 [.ref b, .int (nI p), .ref ra, .long m] g (fun v g' => ((20 ≤ n ∨ 1000000000 < m) ∧ v = some (.int 0) ∧ g = g') ∨ (n < 20 ∧ m ≤ 1000000000 ∧ v = some (.int 1) ∧ isBag K g' b ca oa (n + 1) (va_cpy rf (va_cpy cf cf (4 * p) (4 * p + 4) (4 * (n - p))) 0 (4 * p) 4) (upd (va_cpy tf tf p (p + 1) (n - p)) p m.toInt32) ∧ Fr g g' [b, ca, oa])) (fun _ _ => False) 0 0 := by
  refine ct_of (by decide) (Nat.le_of_ble_eq_true rfl) ?_
  intro X hl hK hX hE hn hL hR hm
  subst hl; subst hK
  show J X 0 0 g 0 [(0, .ref b), (1, .int (nI p)), (2, .ref ra), (3, .long m)] []
  refine j_aload_n hX dX0_insert_0 0 rfl ?_
  refine j_get (v := .int (nI n)) hX hB.1 rfl wf_X0 2 (by decide) lk_X0_18 (fun _ h => h) rfl dX0_insert_1 ?_
  refine j_bipush (v := nI 20) hX dX0_insert_4 (by decide) ?_
  refine j_icmp_ge hX 17 dX0_insert_6 (by decide) (fun c_6 => ?_) (fun c_6 => ?_)
  · have c6 : 20 ≤ n := (nI_leI (by decide) (by omega)).mp c_6
    refine j_iconst (v := 0) hX dX0_insert_17 (by decide) ?_
    exact j_zret hX hE dX0_insert_18 (by first | rfl | decide | assumption) (Or.inl ⟨Or.inl c6, rfl, rfl⟩) (by decide) (by decide)
  · have c6 : n < 20 := Nat.not_le.mp (fun q => c_6 (nI_le q (by omega)))
    refine j_lload_n hX dX0_insert_9 3 rfl ?_
    refine j_ldc2 (v := 1000000000) hX lk_X0_48 dX0_insert_10 ?_
    refine j_lcmp hX dX0_insert_13 ?_
    refine j_if_le hX 19 dX0_insert_14 (by decide) (fun c_14 => ?_) (fun c_14 => ?_)
    · have c14 := (lg_cmp_le _ _).mp c_14
      refine j_aload_n hX dX0_insert_19 0 rfl ?_
      refine j_get (v := .int (nI n)) hX hB.1 rfl wf_X0 2 (by decide) lk_X0_18 (fun _ h => h) rfl dX0_insert_20 ?_
      refine j_iload_n hX dX0_insert_23 1 rfl ?_
      refine j_isub hX dX0_insert_24 ?_
      refine j_eqi (y := nI (n - p)) (pk_sub (by omega)) ?_
      refine j_istore (lv' := [(5, .int (nI (n - p))), (0, .ref b), (1, .int (nI p)), (2, .ref ra), (3, .long m)]) hX dX0_insert_25 (by rw [hn]; decide) rfl ?_
      refine j_iload_n hX dX0_insert_27 2 rfl ?_
      refine j_iconst (v := 4) hX dX0_insert_28 (by decide) ?_
      refine j_imul hX dX0_insert_29 ?_
      refine j_eqi (y := nI (4 * p)) (ix4' p) ?_
      refine j_istore (lv' := [(6, .int (nI (4 * p))), (5, .int (nI (n - p))), (0, .ref b), (1, .int (nI p)), (2, .ref ra), (3, .long m)]) hX dX0_insert_30 (by rw [hn]; decide) rfl ?_
      refine j_aload_n hX dX0_insert_32 2 rfl ?_
      refine j_get (v := .ref ca) hX hB.1 rfl wf_X0 0 (by decide) lk_X0_9 (fun _ h => h) rfl dX0_insert_33 ?_
      refine j_iload hX dX0_insert_36 0 rfl ?_
      refine j_aload_n hX dX0_insert_38 2 rfl ?_
      refine j_get (v := .ref ca) hX hB.1 rfl wf_X0 0 (by decide) lk_X0_9 (fun _ h => h) rfl dX0_insert_39 ?_
      refine j_iload hX dX0_insert_42 0 rfl ?_
      refine j_iconst (v := nI 4) hX dX0_insert_44 (by decide) ?_
      refine j_iadd hX dX0_insert_45 ?_
      refine j_eqi (y := nI (4 * p + 4)) (nI_add _ _) ?_
      refine j_iload hX dX0_insert_46 1 rfl ?_
      refine j_iconst (v := 4) hX dX0_insert_48 (by decide) ?_
      refine j_imul hX dX0_insert_49 ?_
      refine j_eqi (y := nI (4 * (n - p))) (ix4' _) ?_
      refine j_copyN hX lk_X0_22 hB.2.1 hB.2.1 (4 * p) (4 * p + 4) (4 * (n - p)) (rfl) (rfl) (rfl) (by omega) (by omega) (by decide) (by decide) (by rw [hL]; decide) (by decide) dX0_insert_50 ?_
      obtain ⟨g1, eg1⟩ : ∃ z : Wd, z = up g ca (aI (xK X) 80 (va_cpy cf cf (4 * p) (4 * p + 4) (4 * (n - p)))) := ⟨_, rfl⟩
      refine j_w eg1.symm ?_
      have k1_b := (congrFun eg1 b).trans ((up_n (by first | exact ne_ob (hB.1) (hB.2.1) (by first | simp | decide | (intro h9; cases h9) | (simp only [ne_eq]; intro h9; injection h9 with h8; simp at h8)) | assumption | (apply Ne.symm; assumption))).trans (hB.1))
      have k1_ca : g1 ca = some (aI (xK X) 80 (va_cpy cf cf (4 * p) (4 * p + 4) (4 * (n - p)))) := by rw [eg1]; exact up_s _ _ _
      have k1_oa := (congrFun eg1 oa).trans ((up_n (by first | exact ne_ob (hB.2.2) (hB.2.1) (by first | simp | decide | (intro h9; cases h9) | (simp only [ne_eq]; intro h9; injection h9 with h8; simp at h8)) | assumption | (apply Ne.symm; assumption))).trans (hB.2.2))
      have k1_ra := (congrFun eg1 ra).trans ((up_n (by first | exact ne_ob (hr) (hB.2.1) (by first | simp | decide | (intro h9; cases h9) | (simp only [ne_eq]; intro h9; injection h9 with h8; simp at h8)) | assumption | (apply Ne.symm; assumption))).trans (hr))
      refine j_aload_n hX dX0_insert_53 2 rfl ?_
      refine j_get (v := .ref oa) hX k1_b rfl wf_X0 1 (by decide) lk_X0_15 (fun _ h => h) rfl dX0_insert_54 ?_
      refine j_iload_n hX dX0_insert_57 3 rfl ?_
      refine j_aload_n hX dX0_insert_58 2 rfl ?_
      refine j_get (v := .ref oa) hX k1_b rfl wf_X0 1 (by decide) lk_X0_15 (fun _ h => h) rfl dX0_insert_59 ?_
      refine j_iload_n hX dX0_insert_62 3 rfl ?_
      refine j_iconst (v := nI 1) hX dX0_insert_63 (by decide) ?_
      refine j_iadd hX dX0_insert_64 ?_
      refine j_eqi (y := nI (p + 1)) (nI_add _ _) ?_
      refine j_iload hX dX0_insert_65 1 rfl ?_
      refine j_copyN hX lk_X0_22 k1_oa k1_oa (p) (p + 1) (n - p) (rfl) (rfl) (rfl) (by omega) (by omega) (by decide) (by decide) (by rw [hL]; decide) (by decide) dX0_insert_67 ?_
      obtain ⟨g2, eg2⟩ : ∃ z : Wd, z = up g1 oa (aI (xK X) 20 (va_cpy tf tf (p) (p + 1) (n - p))) := ⟨_, rfl⟩
      refine j_w eg2.symm ?_
      have k2_b := (congrFun eg2 b).trans ((up_n (by first | exact ne_ob (k1_b) (k1_oa) (by first | simp | decide | (intro h9; cases h9) | (simp only [ne_eq]; intro h9; injection h9 with h8; simp at h8)) | assumption | (apply Ne.symm; assumption))).trans (k1_b))
      have k2_ca := (congrFun eg2 ca).trans ((up_n (by first | exact ne_ob (k1_ca) (k1_oa) (by first | simp | decide | (intro h9; cases h9) | (simp only [ne_eq]; intro h9; injection h9 with h8; simp at h8)) | assumption | (apply Ne.symm; assumption))).trans (k1_ca))
      have k2_oa : g2 oa = some (aI (xK X) 20 (va_cpy tf tf (p) (p + 1) (n - p))) := by rw [eg2]; exact up_s _ _ _
      have k2_ra := (congrFun eg2 ra).trans ((up_n (by first | exact ne_ob (k1_ra) (k1_oa) (by first | simp | decide | (intro h9; cases h9) | (simp only [ne_eq]; intro h9; injection h9 with h8; simp at h8)) | assumption | (apply Ne.symm; assumption))).trans (k1_ra))
      refine j_aload_n hX dX0_insert_70 4 rfl ?_
      refine j_iconst (v := nI 0) hX dX0_insert_71 (by decide) ?_
      refine j_aload_n hX dX0_insert_72 2 rfl ?_
      refine j_get (v := .ref ca) hX k2_b rfl wf_X0 0 (by decide) lk_X0_9 (fun _ h => h) rfl dX0_insert_73 ?_
      refine j_iload hX dX0_insert_76 0 rfl ?_
      refine j_iconst (v := nI 4) hX dX0_insert_78 (by decide) ?_
      refine j_copyN hX lk_X0_22 k2_ra k2_ca (0) (4 * p) (4) (rfl) (rfl) (rfl) (by omega) (by omega) (by decide) (by decide) (by rw [hL]; decide) (by decide) dX0_insert_79 ?_
      obtain ⟨g3, eg3⟩ : ∃ z : Wd, z = up g2 ca (aI (xK X) 80 (va_cpy rf (va_cpy cf cf (4 * p) (4 * p + 4) (4 * (n - p))) (0) (4 * p) (4))) := ⟨_, rfl⟩
      refine j_w eg3.symm ?_
      have k3_b := (congrFun eg3 b).trans ((up_n (by first | exact ne_ob (k2_b) (k2_ca) (by first | simp | decide | (intro h9; cases h9) | (simp only [ne_eq]; intro h9; injection h9 with h8; simp at h8)) | assumption | (apply Ne.symm; assumption))).trans (k2_b))
      have k3_ca : g3 ca = some (aI (xK X) 80 (va_cpy rf (va_cpy cf cf (4 * p) (4 * p + 4) (4 * (n - p))) (0) (4 * p) (4))) := by rw [eg3]; exact up_s _ _ _
      have k3_oa := (congrFun eg3 oa).trans ((up_n (by first | exact ne_ob (k2_oa) (k2_ca) (by first | simp | decide | (intro h9; cases h9) | (simp only [ne_eq]; intro h9; injection h9 with h8; simp at h8)) | assumption | (apply Ne.symm; assumption))).trans (k2_oa))
      have k3_ra := (congrFun eg3 ra).trans ((up_n (by first | exact ne_ob (k2_ra) (k2_ca) (by first | simp | decide | (intro h9; cases h9) | (simp only [ne_eq]; intro h9; injection h9 with h8; simp at h8)) | assumption | (apply Ne.symm; assumption))).trans (k2_ra))
      refine j_aload_n hX dX0_insert_82 2 rfl ?_
      refine j_get (v := .ref oa) hX k3_b rfl wf_X0 1 (by decide) lk_X0_15 (fun _ h => h) rfl dX0_insert_83 ?_
      refine j_iload_n hX dX0_insert_86 3 rfl ?_
      refine j_lload_n hX dX0_insert_87 5 rfl ?_
      refine j_l2i hX dX0_insert_88 ?_
      refine j_iastN hX k3_oa (p) (rfl) (by omega) (by decide) dX0_insert_89 ?_
      obtain ⟨g4, eg4⟩ : ∃ z : Wd, z = up g3 oa (aI (xK X) 20 (upd (va_cpy tf tf (p) (p + 1) (n - p)) (p) m.toInt32)) := ⟨_, rfl⟩
      refine j_w eg4.symm ?_
      have k4_b := (congrFun eg4 b).trans ((up_n (by first | exact ne_ob (k3_b) (k3_oa) (by first | simp | decide | (intro h9; cases h9) | (simp only [ne_eq]; intro h9; injection h9 with h8; simp at h8)) | assumption | (apply Ne.symm; assumption))).trans (k3_b))
      have k4_ca := (congrFun eg4 ca).trans ((up_n (by first | exact ne_ob (k3_ca) (k3_oa) (by first | simp | decide | (intro h9; cases h9) | (simp only [ne_eq]; intro h9; injection h9 with h8; simp at h8)) | assumption | (apply Ne.symm; assumption))).trans (k3_ca))
      have k4_oa : g4 oa = some (aI (xK X) 20 (upd (va_cpy tf tf (p) (p + 1) (n - p)) (p) m.toInt32)) := by rw [eg4]; exact up_s _ _ _
      have k4_ra := (congrFun eg4 ra).trans ((up_n (by first | exact ne_ob (k3_ra) (k3_oa) (by first | simp | decide | (intro h9; cases h9) | (simp only [ne_eq]; intro h9; injection h9 with h8; simp at h8)) | assumption | (apply Ne.symm; assumption))).trans (k3_ra))
      refine j_aload_n hX dX0_insert_90 2 rfl ?_
      refine j_dup hX dX0_insert_91 rfl ?_
      refine j_get (v := .int (nI n)) hX k4_b rfl wf_X0 2 (by decide) lk_X0_18 (fun _ h => h) rfl dX0_insert_92 ?_
      refine j_iconst (v := nI 1) hX dX0_insert_95 (by decide) ?_
      refine j_iadd hX dX0_insert_96 ?_
      refine j_eqi (y := nI (n + 1)) (nI_add _ _) ?_
      refine j_put hX k4_b rfl wf_X0 tyX0_ok nmX0 2 (by decide) lk_X0_18 (fun _ h => h) rfl (tyX0_ok 2 (by decide)) rfl rfl (Nat.le_of_ble_eq_true rfl) dX0_insert_97 ?_
      obtain ⟨g5, eg5⟩ : ∃ z : Wd, z = up g4 b (ob 0 [.ref ca, .ref oa, .int (nI (n + 1))]) := ⟨_, rfl⟩
      refine j_w eg5.symm ?_
      have k5_b : g5 b = some (ob 0 [.ref ca, .ref oa, .int (nI (n + 1))]) := by rw [eg5]; exact up_s _ _ _
      have k5_ca := (congrFun eg5 ca).trans ((up_n (by first | exact ne_ob (k4_ca) (k4_b) (by first | simp | decide | (intro h9; cases h9) | (simp only [ne_eq]; intro h9; injection h9 with h8; simp at h8)) | assumption | (apply Ne.symm; assumption))).trans (k4_ca))
      have k5_oa := (congrFun eg5 oa).trans ((up_n (by first | exact ne_ob (k4_oa) (k4_b) (by first | simp | decide | (intro h9; cases h9) | (simp only [ne_eq]; intro h9; injection h9 with h8; simp at h8)) | assumption | (apply Ne.symm; assumption))).trans (k4_oa))
      have k5_ra := (congrFun eg5 ra).trans ((up_n (by first | exact ne_ob (k4_ra) (k4_b) (by first | simp | decide | (intro h9; cases h9) | (simp only [ne_eq]; intro h9; injection h9 with h8; simp at h8)) | assumption | (apply Ne.symm; assumption))).trans (k4_ra))
      refine j_iconst (v := 1) hX dX0_insert_100 (by decide) ?_
      exact j_zret hX hE dX0_insert_101 (by first | rfl | decide | assumption) (Or.inr ⟨c6, c14, rfl, ⟨k5_b, k5_ca, k5_oa⟩, fun q hq => by simp only [List.mem_cons, List.not_mem_nil, or_false, not_or] at hq; rw [eg5, up_n hq.1, eg4, up_n hq.2.2, eg3, up_n hq.2.1, eg2, up_n hq.2.2, eg1, up_n hq.2.1]⟩) (by decide) (by decide)
    · have c14 : 1000000000 < m := Int64.not_le.mp (fun q => c_14 ((lg_cmp_le _ _).mpr q))
      refine j_iconst (v := 0) hX dX0_insert_17 (by decide) ?_
      exact j_zret hX hE dX0_insert_18 (by first | rfl | decide | assumption) (Or.inl ⟨Or.inr c14, rfl, rfl⟩) (by decide) (by decide)

