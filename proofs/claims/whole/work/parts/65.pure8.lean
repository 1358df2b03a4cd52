/-! the invariant goes on -/
theorem inv_0 : Inv A0 := fun i hi => ⟨⟨by show 0 ≤ 4; decide, by show 0 ≤ 8; decide, Iff.rfl, by show 0 ≤ 40; decide⟩, fun _ => rfl, ⟨good_nil, zw_nil _⟩, fun _ => rfl, fun k => absurd (show 2 ≤ 0 from k) (by decide)⟩
theorem InvI.cg {A A' : Ab} {i : Nat} (h : InvI A i) (e : aw A' i = aw A i ∧ ak A' i = ak A i ∧ al A' i = al A i ∧ ar A' i = ar A i ∧ an A' i = an A i ∧ ao A' i = ao A i ∧ aB A' i = aB A i ∧ ac A' i = ac A i ∧ ad A' i = ad A i) (es : 2 ≤ ak A i → (aw A' (al A i) = aw A (al A i) ∧ aB A' (al A i) = aB A (al A i) ∧ ad A' (al A i) = ad A (al A i)) ∧ (aw A' (ar A i) = aw A (ar A i) ∧ aB A' (ar A i) = aB A (ar A i) ∧ ad A' (ar A i) = ad A (ar A i))) : InvI A' i := by
  obtain ⟨c1, c2, c3, c4, c5, c6, c7, c8, c9⟩ := e
  unfold InvI at h ⊢
  rw [c1, c2, c3, c4, c5, c6, c7, c8, c9]
  obtain ⟨h1, h2, h3, h4, h5⟩ := h
  refine ⟨h1, h2, h3, h4, fun k => ?_⟩
  obtain ⟨⟨e1, e2, e3⟩, ⟨e4, e5, e6⟩⟩ := es k
  rw [e1, e2, e3, e4, e5, e6]
  exact h5 k
theorem inv_set {A : Ab} (hI : Inv A) {i w kd l r : Nat} {n : Nat → Int32} {ot : Bool} {B : Bg} (hi : i < 8) (h0 : aw A i = 0) (hw : 1 ≤ w ∧ w ≤ 4) (hk : 1 ≤ kd ∧ kd ≤ 8) (gB : good B ∧ zw w B) (hv : 2 ≤ kd → (l < 8 ∧ r < 8 ∧ 0 < aw A l ∧ 0 < aw A r) ∧ vpOK kd (aw A l) n ot ∧ wOK kd w (aw A l) (aw A r) n ∧ evalV kd (aw A l) n ot (aB A l) (aB A r) = some B) : Inv (setA A i w kd l r n ot B) := by
  intro j hj
  by_cases hji : j = i
  · subst hji
    unfold InvI
    simp only [aw_set, ak_set, al_set, ar_set, an_set, ao_set, aB_set, ac_set, ad_set, fu_s]
    refine ⟨⟨hw.2, hk.2, ⟨fun q => absurd q (by omega), fun q => absurd q (by omega)⟩, by omega⟩, fun q => absurd q (by omega), gB, fun q => if_neg (by omega), fun k => ?_⟩
    obtain ⟨⟨l8, r8, wl, wr⟩, h2, h3, h4⟩ := hv k
    have nl : l ≠ j := fun q => by rw [q] at wl; omega
    have nr : r ≠ j := fun q => by rw [q] at wr; omega
    simp only [fu_n nl, fu_n nr, if_pos k]
    exact ⟨⟨l8, r8, wl, wr⟩, h2, h3, h4, trivial⟩
  · refine (hI j hj).cg ⟨fu_n hji, fu_n hji, fu_n hji, fu_n hji, fu_n hji, fu_n hji, fu_n hji, fu_n hji, fu_n hji⟩ (fun k => ?_)
    obtain ⟨⟨_, _, wl, wr⟩, _⟩ := (hI j hj).2.2.2.2 k
    have nl : al A j ≠ i := fun q => by rw [q] at wl; omega
    have nr : ar A j ≠ i := fun q => by rw [q] at wr; omega
    exact ⟨⟨fu_n nl, fu_n nl, fu_n nl⟩, ⟨fu_n nr, fu_n nr, fu_n nr⟩⟩
theorem inv_drop {A : Ab} (hI : Inv A) {i : Nat} (hno : ¬ ∃ j, j < 8 ∧ 2 ≤ ak A j ∧ (al A j = i ∨ ar A j = i)) : Inv (dropA A i) := by
  intro j hj
  by_cases hji : j = i
  · subst hji
    unfold InvI
    simp only [aw_drop, ak_drop, al_drop, ar_drop, an_drop, ao_drop, aB_drop, ac_drop, ad_drop, fu_s]
    exact ⟨⟨by omega, by omega, trivial, (hI j hj).1.2.2.2⟩, fun _ => trivial, ⟨good_nil, zw_nil _⟩, fun _ => trivial, fun k => absurd k (by omega)⟩
  · refine (hI j hj).cg ⟨fu_n hji, fu_n hji, rfl, rfl, rfl, rfl, fu_n hji, rfl, fu_n hji⟩ (fun k => ?_)
    have nl : al A j ≠ i := fun q => hno ⟨j, hj, k, Or.inl q⟩
    have nr : ar A j ≠ i := fun q => hno ⟨j, hj, k, Or.inr q⟩
    exact ⟨⟨fu_n nl, fu_n nl, fu_n nl⟩, ⟨fu_n nr, fu_n nr, fu_n nr⟩⟩
theorem upd_ok {A : Ab} (hI : Inv A) {t : Nat} {B' : Bg} {N : Nat → Bg} (gB : good B' ∧ zw (aw A t) B') (hU : Upd A t B' N) : ∀ i, i < 8 → good (N i) ∧ zw (aw A i) (N i) := by
  have key9 : ∀ d i, i < 8 → ad A i ≤ d → good (N i) ∧ zw (aw A i) (N i) := by
    intro d
    induction d with
    | zero =>
      intro i hi hd
      have k : ak A i ≤ 1 := Classical.byContradiction fun z => by have := (hI.src hi (by omega)).2; omega
      rw [(hU i hi).1 k]
      split
      · rename_i e; rw [e]; exact gB
      · exact (hI i hi).2.2.1
    | succ d ih =>
      intro i hi hd
      by_cases k : ak A i ≤ 1
      · rw [(hU i hi).1 k]
        split
        · rename_i e; rw [e]; exact gB
        · exact (hI i hi).2.2.1
      · have s := hI.src hi (by omega)
        have h1 := ih _ s.1.1 (by omega); have h2 := ih _ s.1.2 (by omega)
        obtain ⟨_, v1, v2, _, _⟩ := (hI i hi).2.2.2.2 (by omega)
        have he := (hU i hi).2 (by omega)
        exact ⟨evalV_good h1.1 he, evalV_zw h1.2 h2.2 v2 v1 he⟩
  exact fun i hi => key9 _ i hi (Nat.le_refl _)
theorem inv_put {A : Ab} (hI : Inv A) {t : Nat} {B' : Bg} {N : Nat → Bg} (kt : ak A t = 1) (gB : good B' ∧ zw (aw A t) B') (hU : Upd A t B' N) : Inv (putA A N) := by
  intro i hi
  have eB : ∀ j, j < 8 → aB (putA A N) j = N j := fun j hj => if_pos hj
  have ec : ac (putA A N) i = dif (N i) (aB A i) := if_pos hi
  have hok := upd_ok hI gB hU
  obtain ⟨h1, h2, h3, h4, h5⟩ := hI i hi
  unfold InvI
  rw [ec, eB i hi]
  refine ⟨⟨h1.1, h1.2.1, h1.2.2.1, dif_le (hok i hi).1 h3.1⟩, fun k => ?_, hok i hi, h4, fun k => ?_⟩
  · have := (hU i hi).1 (by have : ak A i = 0 := k; omega)
    rw [this, if_neg (fun e => by have : ak A i = 0 := k; rw [e] at this; omega)]
    exact h2 k
  · obtain ⟨s1, v1, v2, v3, v4⟩ := h5 k
    refine ⟨s1, v1, v2, ?_, v4⟩
    show evalV (ak A i) (aw A (al A i)) (an A i) (ao A i) (aB (putA A N) (al A i)) (aB (putA A N) (ar A i)) = some (N i)
    rw [eB _ s1.1, eB _ s1.2.1]
    exact (hU i hi).2 k
theorem zr_trunc {w : Nat} (h0 : 0 < w) (r : Row) : zr w (truncR w r) := fun c hc h4 => by
  rcases (show c = 1 ∨ c = 2 ∨ c = 3 by omega) with e | e | e <;> subst e
  · show (if 1 < w then r.2.1 else 0) = 0
    exact if_neg (by omega)
  · show (if 2 < w then r.2.2.1 else 0) = 0
    exact if_neg (by omega)
  · show (if 3 < w then r.2.2.2 else 0) = 0
    exact if_neg (by omega)
theorem addB_zw {w : Nat} {r : Row} {M : Int} {B B' : Bg} (hB : zw w B) (hr : zr w r) (ha : addB r M B = some B') : zw w B' := fun x hx => by
  rcases addB_mem ha x hx with h | h
  · exact hB x h
  · rw [h]; exact hr
/-! every outcome keeps it -/
section Outs
variable {A A' : Ab} {k : Nat}
theorem vn8 {v : Int32} (h : P8 v) : vnat v < 8 := by obtain ⟨i, hi, e⟩ := h; rw [e, vnat_nI (by omega)]; exact hi
theorem vnR {v : Int32} (h : isR A v) : vnat v < 8 ∧ 0 < aw A (vnat v) := by obtain ⟨i, hi, e, w⟩ := h; rw [e, vnat_nI (by omega)]; exact ⟨hi, w⟩
theorem viewO_inv (hI : Inv A) {ins ok : Prop} {v : Int32} {w kd l r : Nat} {n : Nat → Int32} {ot : Bool} (h : viewO ins ok A v w kd l r n ot k A') (hv : ins → vnat v < 8) (hk : 2 ≤ kd ∧ kd ≤ 8) (hs : ins → ok → (1 ≤ w ∧ w ≤ 4) ∧ (l < 8 ∧ r < 8 ∧ 0 < aw A l ∧ 0 < aw A r) ∧ vpOK kd (aw A l) n ot ∧ wOK kd w (aw A l) (aw A r) n) : Inv A' := by
  rcases h with ⟨_, _, rfl⟩ | ⟨_, _, _, rfl⟩ | ⟨_, _, _, _, rfl⟩ | ⟨_, _, _, _, _, rfl⟩ | ⟨_, hi, hu, ho, B, hB, rfl⟩
  · exact hI
  · exact hI
  · exact hI
  · exact hI
  · obtain ⟨h1, h2, h3, h4⟩ := hs hi ho
    exact inv_set hI (hv hi) (by omega) h1 ⟨by omega, hk.2⟩ ⟨evalV_good (hI l h2.1).2.2.1.1 hB, evalV_zw (hI l h2.1).2.2.1.2 (hI r h2.2.1).2.2.1.2 h4 h3 hB⟩ (fun _ => ⟨h2, h3, h4, hB⟩)
theorem tabO_inv (hI : Inv A) {r co : Int32} (h : tabO A r co k A') : Inv A' := by
  rcases h with ⟨_, _, rfl⟩ | ⟨_, _, _, rfl⟩ | ⟨_, _, _, _, rfl⟩ | ⟨_, _, _, _, _, rfl⟩ | ⟨_, hi, hu, ⟨w, w1, w4, rfl⟩, _, _, rfl⟩
  · exact hI
  · exact hI
  · exact hI
  · exact hI
  · rw [vnat_nI (show w < 2 ^ 31 by omega)]
    exact inv_set hI (vn8 hi) (by omega) ⟨w1, w4⟩ (by decide) ⟨good_nil, zw_nil _⟩ (fun q => absurd q (by decide))
theorem wc4 (hI : Inv A) {r c : Int32} (h : isC A r c) : ∃ q, q < 4 ∧ c = nI q := by
  obtain ⟨h1, q, h2, h3⟩ := h
  exact ⟨q, by have := (hI _ (vnR h1).1).1.1; omega, h3⟩
theorem selO_inv (hI : Inv A) {v ofr c cm th : Int32} {ot : Bool} (h : selO A v ofr c cm th ot k A') : Inv A' :=
  viewO_inv hI h (fun q => vn8 q.1) (by decide) (fun q ok => by
    obtain ⟨q1, q2, q3⟩ := q
    have r1 := vnR q2.1
    refine ⟨⟨r1.2, (hI _ r1.1).1.1⟩, ⟨r1.1, r1.1, r1.2, r1.2⟩, ⟨by rw [nC_0]; exact wc4 hI q2, by rw [nC_1]; obtain ⟨m, m1, m2⟩ := ok; exact ⟨m, by omega, m2⟩, fun e => by rw [nC_2]; exact wc4 hI (q3 e)⟩, rfl⟩)
theorem n4 (hI : Inv A) {r c : Int32} (h1 : isR A r) (h : isN A r c) : c = -1 ∨ ∃ q, q < 4 ∧ c = nI q := by
  rcases h with h | ⟨q, h2, h3⟩
  · exact Or.inl h
  · exact Or.inr ⟨q, by have := (hI _ (vnR h1).1).1.1; omega, h3⟩
theorem colO_inv (hI : Inv A) {v ofr a b c d : Int32} (h : colO A v ofr a b c d k A') : Inv A' :=
  viewO_inv hI h (fun q => vn8 q.1) (by decide) (fun q ok => by
    obtain ⟨q1, q2, qa, qb, qc, qd⟩ := q
    have r1 := vnR q2
    obtain ⟨kk, k0, k4, kp, kq⟩ := ok
    have kw := chK_w k4 kp kq
    rw [kw]
    refine ⟨⟨k0, k4⟩, ⟨r1.1, r1.1, r1.2, r1.2⟩, fun i => ?_, fun j hj => ?_⟩
    · rcases (show i = 0 ∨ i = 1 ∨ i = 2 ∨ i = 3 ∨ 4 ≤ i by omega) with e | e | e | e | e
      · rw [e, nC_0]; exact n4 hI q2 qa
      · rw [e, nC_1]; exact n4 hI q2 qb
      · rw [e, nC_2]; exact n4 hI q2 qc
      · rw [e, nC_3]; exact n4 hI q2 qd
      · rw [nC_4 e]; exact Or.inr ⟨0, by decide, rfl⟩
    · exact ⟨fun z => kp j z, fun z => Classical.byContradiction fun z2 => z (kq j (by omega) hj)⟩)
theorem joinO_inv (hI : Inv A) {v le rI c d : Int32} (h : joinO A v le rI c d k A') : Inv A' :=
  viewO_inv hI h (fun q => vn8 q.1) (by decide) (fun q ok => by
    obtain ⟨q1, q2, q3⟩ := q
    have r1 := vnR q2.1; have r2 := vnR q3.1
    exact ⟨⟨by omega, ok⟩, ⟨r1.1, r2.1, r1.2, r2.2⟩, ⟨by rw [nC_0]; exact wc4 hI q2, by rw [nC_1]; exact wc4 hI q3, (hI _ r1.1).1.1⟩, rfl⟩)
theorem bothO_inv (hI : Inv A) {v le rI : Int32} {ls : Bool} (h : bothO A v le rI ls k A') : Inv A' := by
  cases ls with
  | false => exact viewO_inv hI h (fun q => vn8 q.1) (by decide) (fun q ok => by
      obtain ⟨q1, q2, q3⟩ := q
      have r1 := vnR q2; have r2 := vnR q3
      exact ⟨⟨r1.2, (hI _ r1.1).1.1⟩, ⟨r1.1, r2.1, r1.2, r2.2⟩, trivial, rfl, ok.symm⟩)
  | true => exact viewO_inv hI h (fun q => vn8 q.1) (by decide) (fun q ok => by
      obtain ⟨q1, q2, q3⟩ := q
      have r1 := vnR q2; have r2 := vnR q3
      exact ⟨⟨r1.2, (hI _ r1.1).1.1⟩, ⟨r1.1, r2.1, r1.2, r2.2⟩, trivial, rfl, ok.symm⟩)
theorem onceO_inv (hI : Inv A) {v ofr : Int32} (h : onceO A v ofr k A') : Inv A' :=
  viewO_inv hI h (fun q => vn8 q.1) (by decide) (fun q ok => by
    have r1 := vnR q.2
    exact ⟨⟨r1.2, (hI _ r1.1).1.1⟩, ⟨r1.1, r1.1, r1.2, r1.2⟩, trivial, rfl⟩)
theorem groupO_inv (hI : Inv A) {v ofr bY st c : Int32} (h : groupO A v ofr bY st c k A') : Inv A' :=
  viewO_inv hI h (fun q => vn8 q.1) (by decide) (fun q ok => by
    obtain ⟨q1, q2, q3⟩ := q
    have r1 := vnR q2.1
    refine ⟨by split <;> omega, ⟨r1.1, r1.1, r1.2, r1.2⟩, ⟨by rw [nC_0]; exact n4 hI q2.1 q3, by rw [nC_1]; obtain ⟨m, m1, m2⟩ := ok; exact ⟨m, by omega, m2⟩, by rw [nC_2]; exact wc4 hI q2⟩, ?_⟩
    show (if bY = -1 then 1 else 2) = if nC bY st c 0 0 = -1 then 1 else 2
    rw [nC_0])
theorem dropO_inv (hI : Inv A) {r : Int32} (h : dropO A r k A') : Inv A' := by
  rcases h with ⟨_, _, rfl⟩ | ⟨_, _, _, rfl⟩ | ⟨_, _, _, _, rfl⟩ | ⟨_, _, _, _, _, rfl⟩ | ⟨_, hi, hu, _, _, _, rfl⟩
  · exact hI
  · exact hI
  · exact hI
  · exact hI
  · exact inv_drop hI hu
theorem ak1 (hI : Inv A) {r : Int32} (h : isR A r) (h2 : ¬ 2 ≤ ak A (vnat r)) : ak A (vnat r) = 1 := by
  have r1 := vnR h
  have := (hI _ r1.1).1.2.2.1
  omega
theorem putO_inv (hI : Inv A) {r a b c d n : Int32} (h : putO A r a b c d n k A') : Inv A' := by
  rcases h with ⟨_, _, rfl⟩ | ⟨_, _, _, rfl⟩ | ⟨_, _, _, _, rfl⟩ | ⟨_, _, _, _, _, rfl⟩ | ⟨_, hi, hu, _, N, ⟨B', hB, hU⟩, rfl⟩
  · exact hI
  · exact hI
  · exact hI
  · exact hI
  · have r1 := vnR hi
    exact inv_put hI (ak1 hI hi hu) ⟨addB_good (hI _ r1.1).2.2.1.1 hB, addB_zw (hI _ r1.1).2.2.1.2 (zr_trunc r1.2 _) hB⟩ hU
theorem fillO_inv (hI : Inv A) {r a st b ot n : Int32} (h : fillO A r a st b ot n k A') : Inv A' := by
  rcases h with ⟨_, _, rfl⟩ | ⟨_, _, _, rfl⟩ | ⟨_, _, _, _, rfl⟩ | ⟨_, _, _, _, _, rfl⟩ | ⟨_, hi, hu, _, N, ⟨B', hB, hU⟩, rfl⟩
  · exact hI
  · exact hI
  · exact hI
  · exact hI
  · have r1 := vnR hi
    exact inv_put hI (ak1 hI hi hu) ⟨fld_good (hI _ r1.1).2.2.1.1 hB, fld_zw (fun q _ z hz => by cases hz; exact zr_trunc r1.2 _) (hI _ r1.1).2.2.1.2 hB⟩ hU
end Outs
