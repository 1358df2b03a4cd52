/-- how many columns are told ahead of k -/
def wdN (n : Nat → Int32) : Nat → Nat
  | 0 => 0
  | k + 1 => if n k = -1 then wdN n k else wdN n k + 1
theorem wdN_le (n : Nat → Int32) : ∀ k, wdN n k ≤ k
  | 0 => Nat.le_refl 0
  | k + 1 => by
    have := wdN_le n k
    show (if n k = -1 then wdN n k else wdN n k + 1) ≤ k + 1
    split <;> omega
theorem wd_chK {n : Nat → Int32} : (¬ n 0 = -1 ∧ ∀ q, q < 4 → (n q = -1 ∨ wdN n q = q)) ↔ chK n := by
  have e0 : wdN n 0 = 0 := rfl
  have e1 : wdN n 1 = if n 0 = -1 then wdN n 0 else wdN n 0 + 1 := rfl
  have e2 : wdN n 2 = if n 1 = -1 then wdN n 1 else wdN n 1 + 1 := rfl
  have e3 : wdN n 3 = if n 2 = -1 then wdN n 2 else wdN n 2 + 1 := rfl
  constructor
  · rintro ⟨h0, h⟩
    have q1 := h 1 (by decide); have q2 := h 2 (by decide); have q3 := h 3 (by decide)
    rw [e1, if_neg h0, e0] at *
    by_cases h1 : n 1 = -1
    · rw [if_pos h1] at e2
      by_cases h2 : n 2 = -1
      · rw [if_pos h2] at e3
        have h3 : n 3 = -1 := q3.resolve_right (by omega)
        exact ⟨1, by omega, by omega, fun q hq => by rw [show q = 0 by omega]; exact h0, fun q hq hq4 => by rcases (show q = 1 ∨ q = 2 ∨ q = 3 by omega) with z | z | z <;> rw [z] <;> assumption⟩
      · exact absurd (q2.resolve_left h2) (by omega)
    · rw [if_neg h1] at e2
      by_cases h2 : n 2 = -1
      · rw [if_pos h2] at e3
        have h3 : n 3 = -1 := q3.resolve_right (by omega)
        exact ⟨2, by omega, by omega, fun q hq => by rcases (show q = 0 ∨ q = 1 by omega) with z | z <;> rw [z] <;> assumption, fun q hq hq4 => by rcases (show q = 2 ∨ q = 3 by omega) with z | z <;> rw [z] <;> assumption⟩
      · by_cases h3 : n 3 = -1
        · exact ⟨3, by omega, by omega, fun q hq => by rcases (show q = 0 ∨ q = 1 ∨ q = 2 by omega) with z | z | z <;> rw [z] <;> assumption, fun q hq hq4 => by rw [show q = 3 by omega]; exact h3⟩
        · exact ⟨4, by omega, by omega, fun q hq => by rcases (show q = 0 ∨ q = 1 ∨ q = 2 ∨ q = 3 by omega) with z | z | z | z <;> rw [z] <;> assumption, fun q hq hq4 => by omega⟩
  · rintro ⟨k, hk0, hk4, h1, h2⟩
    refine ⟨h1 0 hk0, fun q hq => ?_⟩
    by_cases e : q < k
    · refine Or.inr ?_
      have : ∀ p, p ≤ k → wdN n p = p := by
        intro p
        induction p with
        | zero => intro _; rfl
        | succ p ih => intro hp; show (if n p = -1 then wdN n p else wdN n p + 1) = p + 1; rw [if_neg (h1 p (by omega)), ih (by omega)]
      exact this q (by omega)
    · exact Or.inl (h2 q (by omega) hq)
theorem wd_cwN {n : Nat → Int32} (h : chK n) : wdN n 4 = cwN n := by
  obtain ⟨k, hk0, hk4, h1, h2⟩ := h
  rw [chK_w hk4 h1 h2]
  have a : ∀ p, p ≤ k → wdN n p = p := by
    intro p
    induction p with
    | zero => intro _; rfl
    | succ p ih => intro hp; show (if n p = -1 then wdN n p else wdN n p + 1) = p + 1; rw [if_neg (h1 p (by omega)), ih (by omega)]
  have b : ∀ p, k ≤ p → p ≤ 4 → wdN n p = k := by
    intro p
    induction p with
    | zero => intro q1 q2; omega
    | succ p ih =>
      intro q1 q2
      rcases Nat.lt_or_ge p k with z | z
      · rw [a (p + 1) (by omega)]; omega
      · show (if n p = -1 then wdN n p else wdN n p + 1) = k; rw [if_pos (h2 p z (by omega)), ih z (by omega)]
  exact b 4 hk4 (by omega)
set_option maxRecDepth 20000 in
set_option maxHeartbeats 1600000 in
/-- c_X11_columnsN -/
theorem c_X11_columnsN (l : Launch) (K : Cst) (g : Wd) (m : Nat) (Q : Nat → Nat) (th fi : Int32) (F : Nat → Nat → Int32) (Od : List Nat) (hS : RS K g m Q th (nI Od.length) fi F) (A : Ab) (hI : Inv A) (hA : RA A Od F) (v ofr : Int32) (n : Nat → Int32) (hnn : nC (n 0) (n 1) (n 2) (n 3) = n) : Ct l K yX11_columns cX11_columns 12 none 5 [.ref m, .int v, .int ofr, .int (n 0), .int (n 1), .int (n 2), .int (n 3)] g (RPo K m (colO A v ofr (n 0) (n 1) (n 2) (n 3))) (fun _ _ => False) 0 0 := by
  refine ct_of (by decide) (Nat.le_of_ble_eq_true rfl) ?_
  intro X hl hK hX hE hn hL hR hm
  subst hl; subst hK
  show J X 0 0 g 0 [(0, .ref m), (1, .int v), (2, .int ofr), (3, .int (n 0)), (4, .int (n 1)), (5, .int (n 2)), (6, .int (n 3))] []
  have loop : ∀ (p k : Nat) (ib rb : Bool), k + p = 4 → (ib = true ↔ (P8 v ∧ isR A ofr) ∧ ∀ q, q < k → (n q = -1 ∨ isC A ofr (n q))) → (rb = true ↔ ¬ n 0 = -1 ∧ ∀ q, q < k → (n q = -1 ∨ wdN n q = q)) → J X 0 0 g 40 [(10, .int (nI k)), (9, .int (nI (wdN n k))), (8, .int (b01 rb)), (7, .int (b01 ib)), (0, .ref m), (1, .int v), (2, .int ofr), (3, .int (n 0)), (4, .int (n 1)), (5, .int (n 2)), (6, .int (n 3))] [] := by
    intro p
    induction p with
    | zero =>
      intro k ib rb hk4 hib hrb
      obtain rfl : k = 4 := by omega
      by_cases hin : (P8 v ∧ isR A ofr) ∧ ∀ q, q < 4 → (n q = -1 ∨ isC A ofr (n q))
      · obtain rfl : ib = true := hib.mpr hin
        obtain ⟨⟨⟨vi, hvi, rfl⟩, ⟨oi, hoi, rfl, hwo⟩⟩, hq9⟩ := hin
        have hN : ∀ q, q < 4 → isN A (nI oi) (n q) := fun q hq => (hq9 q hq).imp id (fun z => z.2)
        by_cases hu : 0 < aw A vi
        · show J X 0 0 g 40 [(10, .int (nI 4)), (9, .int (nI (wdN n 4))), (8, .int (b01 rb)), (7, .int (b01 true)), (0, .ref m), (1, .int (nI vi)), (2, .int (nI oi)), (3, .int (n 0)), (4, .int (n 1)), (5, .int (n 2)), (6, .int (n 3))] []
          refine j_iload hX dX11_columns_40 0 rfl ?_
          refine j_iconst (v := nI 4) hX dX11_columns_42 (by decide) ?_
          refine j_icmp_ge hX 157 dX11_columns_43 (by decide) (fun _ => ?_) (fun c_43 => absurd (by decide) c_43)
          refine j_aload_n hX dX11_columns_157 4 rfl ?_
          refine j_iload hX dX11_columns_158 3 rfl ?_
          refine j_if_ne hX 167 dX11_columns_160 (by decide) (fun _ => ?_) (fun c_160 => absurd c_160 (by decide))
          refine j_aload_n hX dX11_columns_167 4 rfl ?_
          refine j_get (v := .ref (Q 0)) hX hS.1 rfl wf_X11 1 (by decide) lk_X11_7 (fun _ h => h) rfl dX11_columns_168 ?_
          refine j_iload_n hX dX11_columns_171 5 rfl ?_
          refine j_ialdN hX (show g (Q 0) = some (aI (xK X) 8 (F 0)) from hS.2.1 0 (by decide)) (vi) (rfl) (hvi) (by decide) dX11_columns_172 ?_
          refine j_if_le hX 180 dX11_columns_173 (by decide) (fun c_173 => absurd c_173 (Int32.not_le.mpr ((hA.free hI hvi).2 hu).2)) (fun _ => ?_)
          refine j_iconst (v := nI 2) hX dX11_columns_176 (by decide) ?_
          refine j_goto hX 190 dX11_columns_177 (by decide) ?_
          refine j_put hX hS.1 rfl wf_X11 tyX11_ok nmX11 0 (by decide) lk_X11_56 (fun _ h => h) rfl (tyX11_ok 0 (by decide)) rfl rfl (Nat.le_of_ble_eq_true rfl) dX11_columns_190 ?_
          obtain ⟨g1, eg1⟩ : ∃ z : Wd, z = up g m (ob 10 [.int (nI 2), .ref (Q 0), .ref (Q 1), .ref (Q 2), .ref (Q 3), .ref (Q 4), .ref (Q 5), .ref (Q 6), .int (nI Od.length), .ref (Q 7), .ref (Q 8), .ref (Q 9), .ref (Q 10), .ref (Q 11), .ref (Q 12), .ref (Q 13), .int fi, .ref (Q 14)]) := ⟨_, rfl⟩
          refine j_w eg1.symm ?_
          have hS1 : RS (xK X) g1 m Q (nI 2) (nI Od.length) fi F := by rw [eg1]; exact hS.obj _ _ _
          refine j_aload_n hX dX11_columns_193 4 rfl ?_
          refine j_get (v := .int (nI 2)) hX hS1.1 rfl wf_X11 0 (by decide) lk_X11_56 (fun _ h => h) rfl dX11_columns_194 ?_
          refine j_if_ne hX 255 dX11_columns_197 (by decide) (fun _ => ?_) (fun c_197 => absurd c_197 (by decide))
          exact j_vret hX hE dX11_columns_255 (⟨rfl, 2, A, Or.inr (Or.inl ⟨rfl, ⟨⟨vi, hvi, rfl⟩, ⟨oi, hoi, rfl, hwo⟩, hN 0 (by decide), hN 1 (by decide), hN 2 (by decide), hN 3 (by decide)⟩, by rw [vnat_nI (by omega)]; exact hu, rfl⟩), Q, Od, fi, F, hS1, hA⟩) (by decide) (by decide)
        · by_cases hc9 : chK n
          · obtain rfl : rb = true := hrb.mpr (wd_chK.mpr hc9)
            obtain ⟨kk, hk0, hk4, hq1, hq2⟩ := hc9
            have hcw := chK_w hk4 hq1 hq2
            have hwd := wd_cwN ⟨kk, hk0, hk4, hq1, hq2⟩
            have hfv := ((hA.free hI hvi).1 hu).1
            have hkl := ((hA.free hI hoi).2 hwo).1
            have hkr := hkl
            have h4o := (hI oi hoi).1.1
            rw [hwd, hcw]
            show J X 0 0 g 40 [(10, .int (nI 4)), (9, .int (nI kk)), (8, .int (b01 true)), (7, .int (b01 true)), (0, .ref m), (1, .int (nI vi)), (2, .int (nI oi)), (3, .int (n 0)), (4, .int (n 1)), (5, .int (n 2)), (6, .int (n 3))] []
            refine j_iload hX dX11_columns_40 0 rfl ?_
            refine j_iconst (v := nI 4) hX dX11_columns_42 (by decide) ?_
            refine j_icmp_ge hX 157 dX11_columns_43 (by decide) (fun _ => ?_) (fun c_43 => absurd (by decide) c_43)
            refine j_aload_n hX dX11_columns_157 4 rfl ?_
            refine j_iload hX dX11_columns_158 3 rfl ?_
            refine j_if_ne hX 167 dX11_columns_160 (by decide) (fun _ => ?_) (fun c_160 => absurd c_160 (by decide))
            refine j_aload_n hX dX11_columns_167 4 rfl ?_
            refine j_get (v := .ref (Q 0)) hX hS.1 rfl wf_X11 1 (by decide) lk_X11_7 (fun _ h => h) rfl dX11_columns_168 ?_
            refine j_iload_n hX dX11_columns_171 5 rfl ?_
            refine j_ialdN hX (show g (Q 0) = some (aI (xK X) 8 (F 0)) from hS.2.1 0 (by decide)) (vi) (rfl) (hvi) (by decide) dX11_columns_172 ?_
            refine j_eqi (y := nI 0) ((hA.free hI hvi).1 hu |>.2) ?_
            refine j_if_le hX 180 dX11_columns_173 (by decide) (fun _ => ?_) (fun c_173 => absurd (by decide) c_173)
            refine j_iload hX dX11_columns_180 2 rfl ?_
            refine j_if_ne hX 189 dX11_columns_182 (by decide) (fun _ => ?_) (fun c_182 => absurd c_182 (by decide))
            refine j_iconst (v := nI 0) hX dX11_columns_189 (by decide) ?_
            refine j_put hX hS.1 rfl wf_X11 tyX11_ok nmX11 0 (by decide) lk_X11_56 (fun _ h => h) rfl (tyX11_ok 0 (by decide)) rfl rfl (Nat.le_of_ble_eq_true rfl) dX11_columns_190 ?_
            obtain ⟨g1, eg1⟩ : ∃ z : Wd, z = up g m (ob 10 [.int (nI 0), .ref (Q 0), .ref (Q 1), .ref (Q 2), .ref (Q 3), .ref (Q 4), .ref (Q 5), .ref (Q 6), .int (nI Od.length), .ref (Q 7), .ref (Q 8), .ref (Q 9), .ref (Q 10), .ref (Q 11), .ref (Q 12), .ref (Q 13), .int fi, .ref (Q 14)]) := ⟨_, rfl⟩
            refine j_w eg1.symm ?_
            have hS1 : RS (xK X) g1 m Q (nI 0) (nI Od.length) fi F := by rw [eg1]; exact hS.obj _ _ _
            refine j_aload_n hX dX11_columns_193 4 rfl ?_
            refine j_get (v := .int (nI 0)) hX hS1.1 rfl wf_X11 0 (by decide) lk_X11_56 (fun _ h => h) rfl dX11_columns_194 ?_
            refine j_if_ne hX 255 dX11_columns_197 (by decide) (fun c_197 => absurd c_197 (fun q => q (by rfl))) (fun _ => ?_)
            refine j_aload_n hX dX11_columns_200 4 rfl ?_
            refine j_get (v := .ref (Q 4)) hX hS1.1 rfl wf_X11 5 (by decide) lk_X11_22 (fun _ h => h) rfl dX11_columns_201 ?_
            refine j_iconst (v := nI 4) hX dX11_columns_204 (by decide) ?_
            refine j_iload_n hX dX11_columns_205 5 rfl ?_
            refine j_imul hX dX11_columns_206 ?_
            refine j_eqi (y := nI (4 * vi)) (pk_mul 4 vi) ?_
            refine j_iload_n hX dX11_columns_207 7 rfl ?_
            refine j_iastN hX (show g1 (Q 4) = some (aI (xK X) 32 (F 4)) from hS1.2.1 4 (by decide)) (4 * vi) (rfl) (by omega) (by decide) dX11_columns_208 ?_
            obtain ⟨g2, eg2⟩ : ∃ z : Wd, z = up g1 (Q 4) (aI (xK X) 32 (upd (F 4) (4 * vi) (n 0))) := ⟨_, rfl⟩
            refine j_w eg2.symm ?_
            obtain ⟨F2, eF2⟩ : ∃ z, z = fu F 4 (upd (F 4) (4 * vi) (n 0)) := ⟨_, rfl⟩
            have hS2 : RS (xK X) g2 m Q (nI 0) (nI Od.length) fi F2 := by rw [eg2, eF2]; exact hS1.put 4 (by decide) _
            refine j_aload_n hX dX11_columns_209 4 rfl ?_
            refine j_get (v := .ref (Q 4)) hX hS2.1 rfl wf_X11 5 (by decide) lk_X11_22 (fun _ h => h) rfl dX11_columns_210 ?_
            refine j_iconst (v := nI 4) hX dX11_columns_213 (by decide) ?_
            refine j_iload_n hX dX11_columns_214 5 rfl ?_
            refine j_imul hX dX11_columns_215 ?_
            refine j_eqi (y := nI (4 * vi)) (pk_mul 4 vi) ?_
            refine j_iconst (v := nI 1) hX dX11_columns_216 (by decide) ?_
            refine j_iadd hX dX11_columns_217 ?_
            refine j_eqi (y := nI (4 * vi + 1)) (ix4v vi 1) ?_
            refine j_iload hX dX11_columns_218 8 rfl ?_
            refine j_iastN hX (show g2 (Q 4) = some (aI (xK X) 32 (F2 4)) from hS2.2.1 4 (by decide)) (4 * vi + 1) (rfl) (by omega) (by decide) dX11_columns_220 ?_
            obtain ⟨g3, eg3⟩ : ∃ z : Wd, z = up g2 (Q 4) (aI (xK X) 32 (upd (F2 4) (4 * vi + 1) (n 1))) := ⟨_, rfl⟩
            refine j_w eg3.symm ?_
            obtain ⟨F3, eF3⟩ : ∃ z, z = fu F2 4 (upd (F2 4) (4 * vi + 1) (n 1)) := ⟨_, rfl⟩
            have hS3 : RS (xK X) g3 m Q (nI 0) (nI Od.length) fi F3 := by rw [eg3, eF3]; exact hS2.put 4 (by decide) _
            refine j_aload_n hX dX11_columns_221 4 rfl ?_
            refine j_get (v := .ref (Q 4)) hX hS3.1 rfl wf_X11 5 (by decide) lk_X11_22 (fun _ h => h) rfl dX11_columns_222 ?_
            refine j_iconst (v := nI 4) hX dX11_columns_225 (by decide) ?_
            refine j_iload_n hX dX11_columns_226 5 rfl ?_
            refine j_imul hX dX11_columns_227 ?_
            refine j_eqi (y := nI (4 * vi)) (pk_mul 4 vi) ?_
            refine j_iconst (v := nI 2) hX dX11_columns_228 (by decide) ?_
            refine j_iadd hX dX11_columns_229 ?_
            refine j_eqi (y := nI (4 * vi + 2)) (ix4v vi 2) ?_
            refine j_iload hX dX11_columns_230 9 rfl ?_
            refine j_iastN hX (show g3 (Q 4) = some (aI (xK X) 32 (F3 4)) from hS3.2.1 4 (by decide)) (4 * vi + 2) (rfl) (by omega) (by decide) dX11_columns_232 ?_
            obtain ⟨g4, eg4⟩ : ∃ z : Wd, z = up g3 (Q 4) (aI (xK X) 32 (upd (F3 4) (4 * vi + 2) (n 2))) := ⟨_, rfl⟩
            refine j_w eg4.symm ?_
            obtain ⟨F4, eF4⟩ : ∃ z, z = fu F3 4 (upd (F3 4) (4 * vi + 2) (n 2)) := ⟨_, rfl⟩
            have hS4 : RS (xK X) g4 m Q (nI 0) (nI Od.length) fi F4 := by rw [eg4, eF4]; exact hS3.put 4 (by decide) _
            refine j_aload_n hX dX11_columns_233 4 rfl ?_
            refine j_get (v := .ref (Q 4)) hX hS4.1 rfl wf_X11 5 (by decide) lk_X11_22 (fun _ h => h) rfl dX11_columns_234 ?_
            refine j_iconst (v := nI 4) hX dX11_columns_237 (by decide) ?_
            refine j_iload_n hX dX11_columns_238 5 rfl ?_
            refine j_imul hX dX11_columns_239 ?_
            refine j_eqi (y := nI (4 * vi)) (pk_mul 4 vi) ?_
            refine j_iconst (v := nI 3) hX dX11_columns_240 (by decide) ?_
            refine j_iadd hX dX11_columns_241 ?_
            refine j_eqi (y := nI (4 * vi + 3)) (ix4v vi 3) ?_
            refine j_iload hX dX11_columns_242 10 rfl ?_
            refine j_iastN hX (show g4 (Q 4) = some (aI (xK X) 32 (F4 4)) from hS4.2.1 4 (by decide)) (4 * vi + 3) (rfl) (by omega) (by decide) dX11_columns_244 ?_
            obtain ⟨g5, eg5⟩ : ∃ z : Wd, z = up g4 (Q 4) (aI (xK X) 32 (upd (F4 4) (4 * vi + 3) (n 3))) := ⟨_, rfl⟩
            refine j_w eg5.symm ?_
            obtain ⟨F5, eF5⟩ : ∃ z, z = fu F4 4 (upd (F4 4) (4 * vi + 3) (n 3)) := ⟨_, rfl⟩
            have hS5 : RS (xK X) g5 m Q (nI 0) (nI Od.length) fi F5 := by rw [eg5, eF5]; exact hS4.put 4 (by decide) _
            have hA9 : RA A Od F5 := hA.num hfv (fun j h4 h5 => by rw [eF5, fu_n h4, eF4, fu_n h4, eF3, fu_n h4, eF2, fu_n h4]) (fun i hi => by rw [eF5, fu_s, pk_un (by omega), eF4, fu_s, pk_un (by omega), eF3, fu_s, pk_un (by omega), eF2, fu_s, pk_un (by omega)]) (fun i hi => by rw [eF5, fu_n (by decide), eF4, fu_n (by decide), eF3, fu_n (by decide), eF2, fu_n (by decide)])
            refine j_aload_n hX dX11_columns_245 4 rfl ?_
            refine j_iload_n hX dX11_columns_246 5 rfl ?_
            refine j_iconst (v := nI 3) hX dX11_columns_247 (by decide) ?_
            refine j_iload hX dX11_columns_248 1 rfl ?_
            refine j_iload_n hX dX11_columns_250 6 rfl ?_
            refine j_iconst (v := (-1)) hX dX11_columns_251 (by decide) ?_
            refine j_callV (As := [.int (nI vi), .int (nI 3), .int (nI kk), .int (nI oi), .int (-1)]) (rest := []) hX (c_X11_view (xl X) (xK X) g5 m Q (nI 0) fi F5 Od hS5 A hI hA9 vi 3 (kk) oi oi (-1) n false hvi hfv (by decide) hoi hoi hkl hkr (hk0) (hk4) (⟨fun q => absurd q (by unfold isB; omega), fun _ => ⟨rfl, rfl⟩, fun j hj => by rcases (show j = 0 ∨ j = 1 ∨ j = 2 ∨ j = 3 by have : j < 4 := hj; omega) with rfl | rfl | rfl | rfl <;> simp [eF2, eF3, eF4, eF5, fu, upd], fun q => absurd q (by decide)⟩) (fun i => by
    rcases Nat.lt_or_ge i 4 with q | q
    · exact (hN i q).imp id (fun ⟨z, z1, z2⟩ => ⟨z, by rw [vnat_nI (by omega)] at z1; omega, z2⟩)
    · exact Or.inr ⟨0, by decide, by rw [← hnn]; exact nC_4 q⟩) (fun j hj => ⟨fun q => hq1 j q, fun q => by
    rcases Nat.lt_or_ge j kk with z | z
    · exact z
    · exact absurd (hq2 j z hj) q⟩)) hS5.1 rfl lk_X11_138 wI_X11_view wV_X11_X11_view wN_X11 wC_X11_view hd_X11_view rfl (by rw [hL]; decide) (by decide) rfl (Nat.le_of_ble_eq_true rfl) dX11_columns_252 (by rw [hR]; decide) (by rw [hR]; decide) jx_no ?_
            rintro _ g9 ⟨rfl, h9⟩
            show J X 0 0 g9 255 [(10, .int (nI 4)), (9, .int (nI kk)), (8, .int (b01 true)), (7, .int (b01 true)), (0, .ref m), (1, .int (nI vi)), (2, .int (nI oi)), (3, .int (n 0)), (4, .int (n 1)), (5, .int (n 2)), (6, .int (n 3))] []
            exact j_vret hX hE dX11_columns_255 (⟨rfl, by
    unfold colO
    rw [hnn, hcw, vnat_nI (show oi < 2 ^ 31 by omega)]
    exact view_out (vnat_nI (by omega)) ⟨⟨vi, hvi, rfl⟩, ⟨oi, hoi, rfl, hwo⟩, hN 0 (by decide), hN 1 (by decide), hN 2 (by decide), hN 3 (by decide)⟩ hu ⟨kk, hk0, hk4, hq1, hq2⟩ h9⟩) (by decide) (by decide)
          · obtain rfl : rb = false := Bool.eq_false_iff.mpr (fun q => hc9 (wd_chK.mp (hrb.mp q)))
            show J X 0 0 g 40 [(10, .int (nI 4)), (9, .int (nI (wdN n 4))), (8, .int (b01 false)), (7, .int (b01 true)), (0, .ref m), (1, .int (nI vi)), (2, .int (nI oi)), (3, .int (n 0)), (4, .int (n 1)), (5, .int (n 2)), (6, .int (n 3))] []
            refine j_iload hX dX11_columns_40 0 rfl ?_
            refine j_iconst (v := nI 4) hX dX11_columns_42 (by decide) ?_
            refine j_icmp_ge hX 157 dX11_columns_43 (by decide) (fun _ => ?_) (fun c_43 => absurd (by decide) c_43)
            refine j_aload_n hX dX11_columns_157 4 rfl ?_
            refine j_iload hX dX11_columns_158 3 rfl ?_
            refine j_if_ne hX 167 dX11_columns_160 (by decide) (fun _ => ?_) (fun c_160 => absurd c_160 (by decide))
            refine j_aload_n hX dX11_columns_167 4 rfl ?_
            refine j_get (v := .ref (Q 0)) hX hS.1 rfl wf_X11 1 (by decide) lk_X11_7 (fun _ h => h) rfl dX11_columns_168 ?_
            refine j_iload_n hX dX11_columns_171 5 rfl ?_
            refine j_ialdN hX (show g (Q 0) = some (aI (xK X) 8 (F 0)) from hS.2.1 0 (by decide)) (vi) (rfl) (hvi) (by decide) dX11_columns_172 ?_
            refine j_eqi (y := nI 0) ((hA.free hI hvi).1 hu |>.2) ?_
            refine j_if_le hX 180 dX11_columns_173 (by decide) (fun _ => ?_) (fun c_173 => absurd (by decide) c_173)
            refine j_iload hX dX11_columns_180 2 rfl ?_
            refine j_if_ne hX 189 dX11_columns_182 (by decide) (fun c_182 => absurd c_182 (fun q => q (by rfl))) (fun _ => ?_)
            refine j_iconst (v := nI 3) hX dX11_columns_185 (by decide) ?_
            refine j_goto hX 190 dX11_columns_186 (by decide) ?_
            refine j_put hX hS.1 rfl wf_X11 tyX11_ok nmX11 0 (by decide) lk_X11_56 (fun _ h => h) rfl (tyX11_ok 0 (by decide)) rfl rfl (Nat.le_of_ble_eq_true rfl) dX11_columns_190 ?_
            obtain ⟨g1, eg1⟩ : ∃ z : Wd, z = up g m (ob 10 [.int (nI 3), .ref (Q 0), .ref (Q 1), .ref (Q 2), .ref (Q 3), .ref (Q 4), .ref (Q 5), .ref (Q 6), .int (nI Od.length), .ref (Q 7), .ref (Q 8), .ref (Q 9), .ref (Q 10), .ref (Q 11), .ref (Q 12), .ref (Q 13), .int fi, .ref (Q 14)]) := ⟨_, rfl⟩
            refine j_w eg1.symm ?_
            have hS1 : RS (xK X) g1 m Q (nI 3) (nI Od.length) fi F := by rw [eg1]; exact hS.obj _ _ _
            refine j_aload_n hX dX11_columns_193 4 rfl ?_
            refine j_get (v := .int (nI 3)) hX hS1.1 rfl wf_X11 0 (by decide) lk_X11_56 (fun _ h => h) rfl dX11_columns_194 ?_
            refine j_if_ne hX 255 dX11_columns_197 (by decide) (fun _ => ?_) (fun c_197 => absurd c_197 (by decide))
            exact j_vret hX hE dX11_columns_255 (⟨rfl, 3, A, Or.inr (Or.inr (Or.inl ⟨rfl, ⟨⟨vi, hvi, rfl⟩, ⟨oi, hoi, rfl, hwo⟩, hN 0 (by decide), hN 1 (by decide), hN 2 (by decide), hN 3 (by decide)⟩, by rw [vnat_nI (by omega)]; exact hu, by rw [hnn]; exact hc9, rfl⟩)), Q, Od, fi, F, hS1, hA⟩) (by decide) (by decide)
      · obtain rfl : ib = false := Bool.eq_false_iff.mpr (fun q => hin (hib.mp q))
        show J X 0 0 g 40 [(10, .int (nI 4)), (9, .int (nI (wdN n 4))), (8, .int (b01 rb)), (7, .int (b01 false)), (0, .ref m), (1, .int v), (2, .int ofr), (3, .int (n 0)), (4, .int (n 1)), (5, .int (n 2)), (6, .int (n 3))] []
        refine j_iload hX dX11_columns_40 0 rfl ?_
        refine j_iconst (v := nI 4) hX dX11_columns_42 (by decide) ?_
        refine j_icmp_ge hX 157 dX11_columns_43 (by decide) (fun _ => ?_) (fun c_43 => absurd (by decide) c_43)
        refine j_aload_n hX dX11_columns_157 4 rfl ?_
        refine j_iload hX dX11_columns_158 3 rfl ?_
        refine j_if_ne hX 167 dX11_columns_160 (by decide) (fun c_160 => absurd c_160 (fun q => q (by rfl))) (fun _ => ?_)
        refine j_iconst (v := nI 1) hX dX11_columns_163 (by decide) ?_
        refine j_goto hX 190 dX11_columns_164 (by decide) ?_
        refine j_put hX hS.1 rfl wf_X11 tyX11_ok nmX11 0 (by decide) lk_X11_56 (fun _ h => h) rfl (tyX11_ok 0 (by decide)) rfl rfl (Nat.le_of_ble_eq_true rfl) dX11_columns_190 ?_
        obtain ⟨g1, eg1⟩ : ∃ z : Wd, z = up g m (ob 10 [.int (nI 1), .ref (Q 0), .ref (Q 1), .ref (Q 2), .ref (Q 3), .ref (Q 4), .ref (Q 5), .ref (Q 6), .int (nI Od.length), .ref (Q 7), .ref (Q 8), .ref (Q 9), .ref (Q 10), .ref (Q 11), .ref (Q 12), .ref (Q 13), .int fi, .ref (Q 14)]) := ⟨_, rfl⟩
        refine j_w eg1.symm ?_
        have hS1 : RS (xK X) g1 m Q (nI 1) (nI Od.length) fi F := by rw [eg1]; exact hS.obj _ _ _
        refine j_aload_n hX dX11_columns_193 4 rfl ?_
        refine j_get (v := .int (nI 1)) hX hS1.1 rfl wf_X11 0 (by decide) lk_X11_56 (fun _ h => h) rfl dX11_columns_194 ?_
        refine j_if_ne hX 255 dX11_columns_197 (by decide) (fun _ => ?_) (fun c_197 => absurd c_197 (by decide))
        exact j_vret hX hE dX11_columns_255 (⟨rfl, 1, A, Or.inl ⟨rfl, fun q => hin ⟨⟨q.1, q.2.1⟩, fun z hz => by
    have hC : ∀ x, isN A ofr x → (x = -1 ∨ isC A ofr x) := fun x hx => hx.imp id (fun y => ⟨q.2.1, y⟩)
    rcases (show z = 0 ∨ z = 1 ∨ z = 2 ∨ z = 3 by omega) with e | e | e | e <;> subst e
    · exact hC _ q.2.2.1
    · exact hC _ q.2.2.2.1
    · exact hC _ q.2.2.2.2.1
    · exact hC _ q.2.2.2.2.2⟩, rfl⟩, Q, Od, fi, F, hS1, hA⟩) (by decide) (by decide)
    | succ p ih =>
      intro k ib rb hk4 hib hrb
      have hwl := wdN_le n k
      have stC : ∀ ib rb : Bool, (ib = true ↔ (P8 v ∧ isR A ofr) ∧ ∀ q, q < k + 1 → (n q = -1 ∨ isC A ofr (n q))) → (rb = true ↔ ¬ n 0 = -1 ∧ ∀ q, q < k + 1 → (n q = -1 ∨ wdN n q = q)) → J X 0 0 g 134 [(11, .int (n k)), (10, .int (nI k)), (9, .int (nI (wdN n k))), (8, .int (b01 rb)), (7, .int (b01 ib)), (0, .ref m), (1, .int v), (2, .int ofr), (3, .int (n 0)), (4, .int (n 1)), (5, .int (n 2)), (6, .int (n 3))] [] := by
        intro ib rb hib hrb
        refine j_iload hX dX11_columns_134 0 rfl ?_
        refine j_iconst (v := (-1)) hX dX11_columns_136 (by decide) ?_
        refine j_icmp_ne hX 145 dX11_columns_137 (by decide) (fun c_137 => ?_) (fun c_137 => ?_)
        · refine j_iload hX dX11_columns_145 2 rfl ?_
          refine j_iconst (v := nI 1) hX dX11_columns_147 (by decide) ?_
          refine j_iadd hX dX11_columns_148 ?_
          refine j_eqi (y := nI (wdN n k + 1)) (nI_add _ 1) ?_
          refine j_istore (lv' := [(9, .int (nI (wdN n k + 1))), (11, .int (n k)), (10, .int (nI k)), (8, .int (b01 rb)), (7, .int (b01 ib)), (0, .ref m), (1, .int v), (2, .int ofr), (3, .int (n 0)), (4, .int (n 1)), (5, .int (n 2)), (6, .int (n 3))]) hX dX11_columns_149 (by rw [hn]; decide) rfl ?_
          refine j_iinc (v := nI (k + 1)) (lv' := [(10, .int (nI (k + 1))), (9, .int (nI (wdN n k + 1))), (11, .int (n k)), (8, .int (b01 rb)), (7, .int (b01 ib)), (0, .ref m), (1, .int v), (2, .int ofr), (3, .int (n 0)), (4, .int (n 1)), (5, .int (n 2)), (6, .int (n 3))]) hX dX11_columns_151 2 rfl (nI_1 k) (by rw [hn]; decide) rfl ?_
          refine j_goto hX 40 dX11_columns_154 (by decide) ?_
          refine j_sub (lv' := [(10, .int (nI (k + 1))), (9, .int (nI (wdN n k + 1))), (8, .int (b01 rb)), (7, .int (b01 ib)), (0, .ref m), (1, .int v), (2, .int ofr), (3, .int (n 0)), (4, .int (n 1)), (5, .int (n 2)), (6, .int (n 3))]) [0, 1, 3, 4, 5, 6, 7, 8, 9, 10, 11] rfl ?_
          have := ih (k + 1) ib rb (by omega) hib hrb
          rw [show wdN n (k + 1) = wdN n k + 1 from if_neg c_137] at this
          exact this
        · refine j_iload hX dX11_columns_140 2 rfl ?_
          refine j_goto hX 149 dX11_columns_142 (by decide) ?_
          refine j_istore (lv' := [(9, .int (nI (wdN n k))), (11, .int (n k)), (10, .int (nI k)), (8, .int (b01 rb)), (7, .int (b01 ib)), (0, .ref m), (1, .int v), (2, .int ofr), (3, .int (n 0)), (4, .int (n 1)), (5, .int (n 2)), (6, .int (n 3))]) hX dX11_columns_149 (by rw [hn]; decide) rfl ?_
          refine j_iinc (v := nI (k + 1)) (lv' := [(10, .int (nI (k + 1))), (9, .int (nI (wdN n k))), (11, .int (n k)), (8, .int (b01 rb)), (7, .int (b01 ib)), (0, .ref m), (1, .int v), (2, .int ofr), (3, .int (n 0)), (4, .int (n 1)), (5, .int (n 2)), (6, .int (n 3))]) hX dX11_columns_151 2 rfl (nI_1 k) (by rw [hn]; decide) rfl ?_
          refine j_goto hX 40 dX11_columns_154 (by decide) ?_
          refine j_sub (lv' := [(10, .int (nI (k + 1))), (9, .int (nI (wdN n k))), (8, .int (b01 rb)), (7, .int (b01 ib)), (0, .ref m), (1, .int v), (2, .int ofr), (3, .int (n 0)), (4, .int (n 1)), (5, .int (n 2)), (6, .int (n 3))]) [0, 1, 3, 4, 5, 6, 7, 8, 9, 10, 11] rfl ?_
          have := ih (k + 1) ib rb (by omega) hib hrb
          rw [show wdN n (k + 1) = wdN n k from if_pos c_137] at this
          exact this
      have stB : ∀ ib rb : Bool, (ib = true ↔ (P8 v ∧ isR A ofr) ∧ ∀ q, q < k + 1 → (n q = -1 ∨ isC A ofr (n q))) → (rb = true ↔ ¬ n 0 = -1 ∧ ∀ q, q < k → (n q = -1 ∨ wdN n q = q)) → J X 0 0 g 109 [(11, .int (n k)), (10, .int (nI k)), (9, .int (nI (wdN n k))), (8, .int (b01 rb)), (7, .int (b01 ib)), (0, .ref m), (1, .int v), (2, .int ofr), (3, .int (n 0)), (4, .int (n 1)), (5, .int (n 2)), (6, .int (n 3))] [] := by
        intro ib rb hib hrb
        refine j_iload hX dX11_columns_109 3 rfl ?_
        refine j_if_eq hX 131 dX11_columns_111 (by decide) (fun c_111 => ?_) (fun c_111 => ?_)
        · refine j_iconst (v := b01 false) hX dX11_columns_131 (by decide) ?_
          refine j_istore (lv' := [(8, .int (b01 false)), (11, .int (n k)), (10, .int (nI k)), (9, .int (nI (wdN n k))), (7, .int (b01 ib)), (0, .ref m), (1, .int v), (2, .int ofr), (3, .int (n 0)), (4, .int (n 1)), (5, .int (n 2)), (6, .int (n 3))]) hX dX11_columns_132 (by rw [hn]; decide) rfl ?_
          refine j_sub [1, 2, 3, 0, 4, 5, 6, 7, 8, 9, 10, 11] rfl ?_
          exact stC ib false hib ⟨fun q => absurd q (by decide), fun q => absurd (hrb.mpr ⟨q.1, fun z hz => q.2 z (by omega)⟩) (b01_f c_111)⟩
        · refine j_iload hX dX11_columns_114 0 rfl ?_
          refine j_iconst (v := (-1)) hX dX11_columns_116 (by decide) ?_
          refine j_icmp_eq hX 127 dX11_columns_117 (by decide) (fun c_117 => ?_) (fun c_117 => ?_)
          · refine j_iconst (v := b01 true) hX dX11_columns_127 (by decide) ?_
            refine j_goto hX 132 dX11_columns_128 (by decide) ?_
            refine j_istore (lv' := [(8, .int (b01 true)), (11, .int (n k)), (10, .int (nI k)), (9, .int (nI (wdN n k))), (7, .int (b01 ib)), (0, .ref m), (1, .int v), (2, .int ofr), (3, .int (n 0)), (4, .int (n 1)), (5, .int (n 2)), (6, .int (n 3))]) hX dX11_columns_132 (by rw [hn]; decide) rfl ?_
            refine j_sub [1, 2, 3, 0, 4, 5, 6, 7, 8, 9, 10, 11] rfl ?_
            exact stC ib true hib ⟨fun _ => ⟨(hrb.mp (b01_t c_111)).1, fun z hz => by
              rcases Nat.lt_or_ge z k with q | q
              · exact (hrb.mp (b01_t c_111)).2 z q
              · rw [show z = k by omega]; exact Or.inl c_117⟩, fun _ => rfl⟩
          · refine j_iload hX dX11_columns_120 2 rfl ?_
            refine j_iload hX dX11_columns_122 1 rfl ?_
            refine j_icmp_ne hX 131 dX11_columns_124 (by decide) (fun c_124 => ?_) (fun c_124 => ?_)
            · refine j_iconst (v := b01 false) hX dX11_columns_131 (by decide) ?_
              refine j_istore (lv' := [(8, .int (b01 false)), (11, .int (n k)), (10, .int (nI k)), (9, .int (nI (wdN n k))), (7, .int (b01 ib)), (0, .ref m), (1, .int v), (2, .int ofr), (3, .int (n 0)), (4, .int (n 1)), (5, .int (n 2)), (6, .int (n 3))]) hX dX11_columns_132 (by rw [hn]; decide) rfl ?_
              refine j_sub [1, 2, 3, 0, 4, 5, 6, 7, 8, 9, 10, 11] rfl ?_
              exact stC ib false hib ⟨fun q => absurd q (by decide), fun q => absurd ((q.2 k (by omega)).resolve_left c_117) (fun z => c_124 (congrArg nI z))⟩
            · refine j_iconst (v := b01 true) hX dX11_columns_127 (by decide) ?_
              refine j_goto hX 132 dX11_columns_128 (by decide) ?_
              refine j_istore (lv' := [(8, .int (b01 true)), (11, .int (n k)), (10, .int (nI k)), (9, .int (nI (wdN n k))), (7, .int (b01 ib)), (0, .ref m), (1, .int v), (2, .int ofr), (3, .int (n 0)), (4, .int (n 1)), (5, .int (n 2)), (6, .int (n 3))]) hX dX11_columns_132 (by rw [hn]; decide) rfl ?_
              refine j_sub [1, 2, 3, 0, 4, 5, 6, 7, 8, 9, 10, 11] rfl ?_
              exact stC ib true hib ⟨fun _ => ⟨(hrb.mp (b01_t c_111)).1, fun z hz => by
                rcases Nat.lt_or_ge z k with q | q
                · exact (hrb.mp (b01_t c_111)).2 z q
                · rw [show z = k by omega]; exact Or.inr ((nI_eq (by omega) (by omega)).mp c_124)⟩, fun _ => rfl⟩
      rcases (show k = 0 ∨ k = 1 ∨ k = 2 ∨ k = 3 by omega) with hk | hk | hk | hk <;> subst hk
      · show J X 0 0 g 40 [(10, .int (nI 0)), (9, .int (nI (wdN n 0))), (8, .int (b01 rb)), (7, .int (b01 ib)), (0, .ref m), (1, .int v), (2, .int ofr), (3, .int (n 0)), (4, .int (n 1)), (5, .int (n 2)), (6, .int (n 3))] []
        refine j_iload hX dX11_columns_40 0 rfl ?_
        refine j_iconst (v := nI 4) hX dX11_columns_42 (by decide) ?_
        refine j_icmp_ge hX 157 dX11_columns_43 (by decide) (fun c_43 => absurd c_43 (nI_ge (a := 0) (b := 4) (by decide) (by decide))) (fun _ => ?_)
        refine j_iload hX dX11_columns_46 0 rfl ?_
        refine j_if_ne hX 55 dX11_columns_48 (by decide) (fun c_48 => absurd c_48 (fun q => q (by rfl))) (fun _ => ?_)
        refine j_iload_n hX dX11_columns_51 7 rfl ?_
        refine j_goto hX 79 dX11_columns_52 (by decide) ?_
        refine j_istore (lv' := [(11, .int (n 0)), (10, .int (nI 0)), (9, .int (nI (wdN n 0))), (8, .int (b01 rb)), (7, .int (b01 ib)), (0, .ref m), (1, .int v), (2, .int ofr), (3, .int (n 0)), (4, .int (n 1)), (5, .int (n 2)), (6, .int (n 3))]) hX dX11_columns_79 (by rw [hn]; decide) rfl ?_
        refine j_iload hX dX11_columns_81 4 rfl ?_
        refine j_if_eq hX 106 dX11_columns_83 (by decide) (fun c_83 => ?_) (fun c_83 => ?_)
        · refine j_iconst (v := b01 false) hX dX11_columns_106 (by decide) ?_
          refine j_istore (lv' := [(7, .int (b01 false)), (11, .int (n 0)), (10, .int (nI 0)), (9, .int (nI (wdN n 0))), (8, .int (b01 rb)), (0, .ref m), (1, .int v), (2, .int ofr), (3, .int (n 0)), (4, .int (n 1)), (5, .int (n 2)), (6, .int (n 3))]) hX dX11_columns_107 (by rw [hn]; decide) rfl ?_
          refine j_sub [1, 2, 3, 4, 0, 5, 6, 7, 8, 9, 10, 11] rfl ?_
          exact stB false rb ⟨fun q => absurd q (by decide), fun q => absurd (hib.mpr ⟨q.1, fun z hz => q.2 z (by omega)⟩) (b01_f c_83)⟩ hrb
        · refine j_iload hX dX11_columns_86 0 rfl ?_
          refine j_iconst (v := (-1)) hX dX11_columns_88 (by decide) ?_
          refine j_icmp_eq hX 102 dX11_columns_89 (by decide) (fun c_89 => ?_) (fun c_89 => ?_)
          · refine j_iconst (v := b01 true) hX dX11_columns_102 (by decide) ?_
            refine j_goto hX 107 dX11_columns_103 (by decide) ?_
            refine j_istore (lv' := [(7, .int (b01 true)), (11, .int (n 0)), (10, .int (nI 0)), (9, .int (nI (wdN n 0))), (8, .int (b01 rb)), (0, .ref m), (1, .int v), (2, .int ofr), (3, .int (n 0)), (4, .int (n 1)), (5, .int (n 2)), (6, .int (n 3))]) hX dX11_columns_107 (by rw [hn]; decide) rfl ?_
            refine j_sub [1, 2, 3, 4, 0, 5, 6, 7, 8, 9, 10, 11] rfl ?_
            exact stB true rb ⟨fun _ => ⟨(hib.mp (b01_t c_83)).1, fun z hz => by
              rcases Nat.lt_or_ge z 0 with q | q
              · exact (hib.mp (b01_t c_83)).2 z q
              · rw [show z = 0 by omega]; exact Or.inl c_89⟩, fun _ => rfl⟩ hrb
          · refine j_aload_n hX dX11_columns_92 5 rfl ?_
            refine j_iload_n hX dX11_columns_93 7 rfl ?_
            refine j_iload hX dX11_columns_94 0 rfl ?_
            refine j_callV (As := [.int ofr, .int (n 0)]) (rest := []) hX (c_X11_isColumn (xl X) (xK X) g m Q th (nI Od.length) fi F hS ofr (n 0)) hS.1 rfl lk_X11_135 wI_X11_isColumn wV_X11_X11_isColumn wN_X11 wC_X11_isColumn hd_X11_isColumn rfl (by rw [hL]; decide) (by decide) rfl (Nat.le_of_ble_eq_true rfl) dX11_columns_96 (by rw [hR]; decide) (by rw [hR]; decide) jx_no ?_
            rintro _ _ ⟨b9, rfl, hb9, rfl⟩
            show J X 0 0 g 99 [(11, .int (n 0)), (10, .int (nI 0)), (9, .int (nI (wdN n 0))), (8, .int (b01 rb)), (7, .int (b01 ib)), (0, .ref m), (1, .int v), (2, .int ofr), (3, .int (n 0)), (4, .int (n 1)), (5, .int (n 2)), (6, .int (n 3))] [.int (b01 b9)]
            refine j_if_eq hX 106 dX11_columns_99 (by decide) (fun c_99 => ?_) (fun c_99 => ?_)
            · refine j_iconst (v := b01 false) hX dX11_columns_106 (by decide) ?_
              refine j_istore (lv' := [(7, .int (b01 false)), (11, .int (n 0)), (10, .int (nI 0)), (9, .int (nI (wdN n 0))), (8, .int (b01 rb)), (0, .ref m), (1, .int v), (2, .int ofr), (3, .int (n 0)), (4, .int (n 1)), (5, .int (n 2)), (6, .int (n 3))]) hX dX11_columns_107 (by rw [hn]; decide) rfl ?_
              refine j_sub [1, 2, 3, 4, 0, 5, 6, 7, 8, 9, 10, 11] rfl ?_
              exact stB false rb ⟨fun q => absurd q (by decide), fun q => absurd ((q.2 0 (by omega)).resolve_left c_89) (fun z => b01_f c_99 (hb9.mpr ((hA.isc hI _ _).mpr z)))⟩ hrb
            · refine j_iconst (v := b01 true) hX dX11_columns_102 (by decide) ?_
              refine j_goto hX 107 dX11_columns_103 (by decide) ?_
              refine j_istore (lv' := [(7, .int (b01 true)), (11, .int (n 0)), (10, .int (nI 0)), (9, .int (nI (wdN n 0))), (8, .int (b01 rb)), (0, .ref m), (1, .int v), (2, .int ofr), (3, .int (n 0)), (4, .int (n 1)), (5, .int (n 2)), (6, .int (n 3))]) hX dX11_columns_107 (by rw [hn]; decide) rfl ?_
              refine j_sub [1, 2, 3, 4, 0, 5, 6, 7, 8, 9, 10, 11] rfl ?_
              exact stB true rb ⟨fun _ => ⟨(hib.mp (b01_t c_83)).1, fun z hz => by
                rcases Nat.lt_or_ge z 0 with q | q
                · exact (hib.mp (b01_t c_83)).2 z q
                · rw [show z = 0 by omega]; exact Or.inr ((hA.isc hI _ _).mp (hb9.mp (b01_t c_99)))⟩, fun _ => rfl⟩ hrb
      · show J X 0 0 g 40 [(10, .int (nI 1)), (9, .int (nI (wdN n 1))), (8, .int (b01 rb)), (7, .int (b01 ib)), (0, .ref m), (1, .int v), (2, .int ofr), (3, .int (n 0)), (4, .int (n 1)), (5, .int (n 2)), (6, .int (n 3))] []
        refine j_iload hX dX11_columns_40 0 rfl ?_
        refine j_iconst (v := nI 4) hX dX11_columns_42 (by decide) ?_
        refine j_icmp_ge hX 157 dX11_columns_43 (by decide) (fun c_43 => absurd c_43 (nI_ge (a := 1) (b := 4) (by decide) (by decide))) (fun _ => ?_)
        refine j_iload hX dX11_columns_46 0 rfl ?_
        refine j_if_ne hX 55 dX11_columns_48 (by decide) (fun _ => ?_) (fun c_48 => absurd c_48 (by decide))
        refine j_iload hX dX11_columns_55 0 rfl ?_
        refine j_iconst (v := nI 1) hX dX11_columns_57 (by decide) ?_
        refine j_icmp_ne hX 66 dX11_columns_58 (by decide) (fun c_58 => absurd c_58 (fun q => q (by rfl))) (fun _ => ?_)
        refine j_iload hX dX11_columns_61 8 rfl ?_
        refine j_goto hX 79 dX11_columns_63 (by decide) ?_
        refine j_istore (lv' := [(11, .int (n 1)), (10, .int (nI 1)), (9, .int (nI (wdN n 1))), (8, .int (b01 rb)), (7, .int (b01 ib)), (0, .ref m), (1, .int v), (2, .int ofr), (3, .int (n 0)), (4, .int (n 1)), (5, .int (n 2)), (6, .int (n 3))]) hX dX11_columns_79 (by rw [hn]; decide) rfl ?_
        refine j_iload hX dX11_columns_81 4 rfl ?_
        refine j_if_eq hX 106 dX11_columns_83 (by decide) (fun c_83 => ?_) (fun c_83 => ?_)
        · refine j_iconst (v := b01 false) hX dX11_columns_106 (by decide) ?_
          refine j_istore (lv' := [(7, .int (b01 false)), (11, .int (n 1)), (10, .int (nI 1)), (9, .int (nI (wdN n 1))), (8, .int (b01 rb)), (0, .ref m), (1, .int v), (2, .int ofr), (3, .int (n 0)), (4, .int (n 1)), (5, .int (n 2)), (6, .int (n 3))]) hX dX11_columns_107 (by rw [hn]; decide) rfl ?_
          refine j_sub [1, 2, 3, 4, 0, 5, 6, 7, 8, 9, 10, 11] rfl ?_
          exact stB false rb ⟨fun q => absurd q (by decide), fun q => absurd (hib.mpr ⟨q.1, fun z hz => q.2 z (by omega)⟩) (b01_f c_83)⟩ hrb
        · refine j_iload hX dX11_columns_86 0 rfl ?_
          refine j_iconst (v := (-1)) hX dX11_columns_88 (by decide) ?_
          refine j_icmp_eq hX 102 dX11_columns_89 (by decide) (fun c_89 => ?_) (fun c_89 => ?_)
          · refine j_iconst (v := b01 true) hX dX11_columns_102 (by decide) ?_
            refine j_goto hX 107 dX11_columns_103 (by decide) ?_
            refine j_istore (lv' := [(7, .int (b01 true)), (11, .int (n 1)), (10, .int (nI 1)), (9, .int (nI (wdN n 1))), (8, .int (b01 rb)), (0, .ref m), (1, .int v), (2, .int ofr), (3, .int (n 0)), (4, .int (n 1)), (5, .int (n 2)), (6, .int (n 3))]) hX dX11_columns_107 (by rw [hn]; decide) rfl ?_
            refine j_sub [1, 2, 3, 4, 0, 5, 6, 7, 8, 9, 10, 11] rfl ?_
            exact stB true rb ⟨fun _ => ⟨(hib.mp (b01_t c_83)).1, fun z hz => by
              rcases Nat.lt_or_ge z 1 with q | q
              · exact (hib.mp (b01_t c_83)).2 z q
              · rw [show z = 1 by omega]; exact Or.inl c_89⟩, fun _ => rfl⟩ hrb
          · refine j_aload_n hX dX11_columns_92 5 rfl ?_
            refine j_iload_n hX dX11_columns_93 7 rfl ?_
            refine j_iload hX dX11_columns_94 0 rfl ?_
            refine j_callV (As := [.int ofr, .int (n 1)]) (rest := []) hX (c_X11_isColumn (xl X) (xK X) g m Q th (nI Od.length) fi F hS ofr (n 1)) hS.1 rfl lk_X11_135 wI_X11_isColumn wV_X11_X11_isColumn wN_X11 wC_X11_isColumn hd_X11_isColumn rfl (by rw [hL]; decide) (by decide) rfl (Nat.le_of_ble_eq_true rfl) dX11_columns_96 (by rw [hR]; decide) (by rw [hR]; decide) jx_no ?_
            rintro _ _ ⟨b9, rfl, hb9, rfl⟩
            show J X 0 0 g 99 [(11, .int (n 1)), (10, .int (nI 1)), (9, .int (nI (wdN n 1))), (8, .int (b01 rb)), (7, .int (b01 ib)), (0, .ref m), (1, .int v), (2, .int ofr), (3, .int (n 0)), (4, .int (n 1)), (5, .int (n 2)), (6, .int (n 3))] [.int (b01 b9)]
            refine j_if_eq hX 106 dX11_columns_99 (by decide) (fun c_99 => ?_) (fun c_99 => ?_)
            · refine j_iconst (v := b01 false) hX dX11_columns_106 (by decide) ?_
              refine j_istore (lv' := [(7, .int (b01 false)), (11, .int (n 1)), (10, .int (nI 1)), (9, .int (nI (wdN n 1))), (8, .int (b01 rb)), (0, .ref m), (1, .int v), (2, .int ofr), (3, .int (n 0)), (4, .int (n 1)), (5, .int (n 2)), (6, .int (n 3))]) hX dX11_columns_107 (by rw [hn]; decide) rfl ?_
              refine j_sub [1, 2, 3, 4, 0, 5, 6, 7, 8, 9, 10, 11] rfl ?_
              exact stB false rb ⟨fun q => absurd q (by decide), fun q => absurd ((q.2 1 (by omega)).resolve_left c_89) (fun z => b01_f c_99 (hb9.mpr ((hA.isc hI _ _).mpr z)))⟩ hrb
            · refine j_iconst (v := b01 true) hX dX11_columns_102 (by decide) ?_
              refine j_goto hX 107 dX11_columns_103 (by decide) ?_
              refine j_istore (lv' := [(7, .int (b01 true)), (11, .int (n 1)), (10, .int (nI 1)), (9, .int (nI (wdN n 1))), (8, .int (b01 rb)), (0, .ref m), (1, .int v), (2, .int ofr), (3, .int (n 0)), (4, .int (n 1)), (5, .int (n 2)), (6, .int (n 3))]) hX dX11_columns_107 (by rw [hn]; decide) rfl ?_
              refine j_sub [1, 2, 3, 4, 0, 5, 6, 7, 8, 9, 10, 11] rfl ?_
              exact stB true rb ⟨fun _ => ⟨(hib.mp (b01_t c_83)).1, fun z hz => by
                rcases Nat.lt_or_ge z 1 with q | q
                · exact (hib.mp (b01_t c_83)).2 z q
                · rw [show z = 1 by omega]; exact Or.inr ((hA.isc hI _ _).mp (hb9.mp (b01_t c_99)))⟩, fun _ => rfl⟩ hrb
      · show J X 0 0 g 40 [(10, .int (nI 2)), (9, .int (nI (wdN n 2))), (8, .int (b01 rb)), (7, .int (b01 ib)), (0, .ref m), (1, .int v), (2, .int ofr), (3, .int (n 0)), (4, .int (n 1)), (5, .int (n 2)), (6, .int (n 3))] []
        refine j_iload hX dX11_columns_40 0 rfl ?_
        refine j_iconst (v := nI 4) hX dX11_columns_42 (by decide) ?_
        refine j_icmp_ge hX 157 dX11_columns_43 (by decide) (fun c_43 => absurd c_43 (nI_ge (a := 2) (b := 4) (by decide) (by decide))) (fun _ => ?_)
        refine j_iload hX dX11_columns_46 0 rfl ?_
        refine j_if_ne hX 55 dX11_columns_48 (by decide) (fun _ => ?_) (fun c_48 => absurd c_48 (by decide))
        refine j_iload hX dX11_columns_55 0 rfl ?_
        refine j_iconst (v := nI 1) hX dX11_columns_57 (by decide) ?_
        refine j_icmp_ne hX 66 dX11_columns_58 (by decide) (fun _ => ?_) (fun c_58 => absurd c_58 (by decide))
        refine j_iload hX dX11_columns_66 0 rfl ?_
        refine j_iconst (v := nI 2) hX dX11_columns_68 (by decide) ?_
        refine j_icmp_ne hX 77 dX11_columns_69 (by decide) (fun c_69 => absurd c_69 (fun q => q (by rfl))) (fun _ => ?_)
        refine j_iload hX dX11_columns_72 9 rfl ?_
        refine j_goto hX 79 dX11_columns_74 (by decide) ?_
        refine j_istore (lv' := [(11, .int (n 2)), (10, .int (nI 2)), (9, .int (nI (wdN n 2))), (8, .int (b01 rb)), (7, .int (b01 ib)), (0, .ref m), (1, .int v), (2, .int ofr), (3, .int (n 0)), (4, .int (n 1)), (5, .int (n 2)), (6, .int (n 3))]) hX dX11_columns_79 (by rw [hn]; decide) rfl ?_
        refine j_iload hX dX11_columns_81 4 rfl ?_
        refine j_if_eq hX 106 dX11_columns_83 (by decide) (fun c_83 => ?_) (fun c_83 => ?_)
        · refine j_iconst (v := b01 false) hX dX11_columns_106 (by decide) ?_
          refine j_istore (lv' := [(7, .int (b01 false)), (11, .int (n 2)), (10, .int (nI 2)), (9, .int (nI (wdN n 2))), (8, .int (b01 rb)), (0, .ref m), (1, .int v), (2, .int ofr), (3, .int (n 0)), (4, .int (n 1)), (5, .int (n 2)), (6, .int (n 3))]) hX dX11_columns_107 (by rw [hn]; decide) rfl ?_
          refine j_sub [1, 2, 3, 4, 0, 5, 6, 7, 8, 9, 10, 11] rfl ?_
          exact stB false rb ⟨fun q => absurd q (by decide), fun q => absurd (hib.mpr ⟨q.1, fun z hz => q.2 z (by omega)⟩) (b01_f c_83)⟩ hrb
        · refine j_iload hX dX11_columns_86 0 rfl ?_
          refine j_iconst (v := (-1)) hX dX11_columns_88 (by decide) ?_
          refine j_icmp_eq hX 102 dX11_columns_89 (by decide) (fun c_89 => ?_) (fun c_89 => ?_)
          · refine j_iconst (v := b01 true) hX dX11_columns_102 (by decide) ?_
            refine j_goto hX 107 dX11_columns_103 (by decide) ?_
            refine j_istore (lv' := [(7, .int (b01 true)), (11, .int (n 2)), (10, .int (nI 2)), (9, .int (nI (wdN n 2))), (8, .int (b01 rb)), (0, .ref m), (1, .int v), (2, .int ofr), (3, .int (n 0)), (4, .int (n 1)), (5, .int (n 2)), (6, .int (n 3))]) hX dX11_columns_107 (by rw [hn]; decide) rfl ?_
            refine j_sub [1, 2, 3, 4, 0, 5, 6, 7, 8, 9, 10, 11] rfl ?_
            exact stB true rb ⟨fun _ => ⟨(hib.mp (b01_t c_83)).1, fun z hz => by
              rcases Nat.lt_or_ge z 2 with q | q
              · exact (hib.mp (b01_t c_83)).2 z q
              · rw [show z = 2 by omega]; exact Or.inl c_89⟩, fun _ => rfl⟩ hrb
          · refine j_aload_n hX dX11_columns_92 5 rfl ?_
            refine j_iload_n hX dX11_columns_93 7 rfl ?_
            refine j_iload hX dX11_columns_94 0 rfl ?_
            refine j_callV (As := [.int ofr, .int (n 2)]) (rest := []) hX (c_X11_isColumn (xl X) (xK X) g m Q th (nI Od.length) fi F hS ofr (n 2)) hS.1 rfl lk_X11_135 wI_X11_isColumn wV_X11_X11_isColumn wN_X11 wC_X11_isColumn hd_X11_isColumn rfl (by rw [hL]; decide) (by decide) rfl (Nat.le_of_ble_eq_true rfl) dX11_columns_96 (by rw [hR]; decide) (by rw [hR]; decide) jx_no ?_
            rintro _ _ ⟨b9, rfl, hb9, rfl⟩
            show J X 0 0 g 99 [(11, .int (n 2)), (10, .int (nI 2)), (9, .int (nI (wdN n 2))), (8, .int (b01 rb)), (7, .int (b01 ib)), (0, .ref m), (1, .int v), (2, .int ofr), (3, .int (n 0)), (4, .int (n 1)), (5, .int (n 2)), (6, .int (n 3))] [.int (b01 b9)]
            refine j_if_eq hX 106 dX11_columns_99 (by decide) (fun c_99 => ?_) (fun c_99 => ?_)
            · refine j_iconst (v := b01 false) hX dX11_columns_106 (by decide) ?_
              refine j_istore (lv' := [(7, .int (b01 false)), (11, .int (n 2)), (10, .int (nI 2)), (9, .int (nI (wdN n 2))), (8, .int (b01 rb)), (0, .ref m), (1, .int v), (2, .int ofr), (3, .int (n 0)), (4, .int (n 1)), (5, .int (n 2)), (6, .int (n 3))]) hX dX11_columns_107 (by rw [hn]; decide) rfl ?_
              refine j_sub [1, 2, 3, 4, 0, 5, 6, 7, 8, 9, 10, 11] rfl ?_
              exact stB false rb ⟨fun q => absurd q (by decide), fun q => absurd ((q.2 2 (by omega)).resolve_left c_89) (fun z => b01_f c_99 (hb9.mpr ((hA.isc hI _ _).mpr z)))⟩ hrb
            · refine j_iconst (v := b01 true) hX dX11_columns_102 (by decide) ?_
              refine j_goto hX 107 dX11_columns_103 (by decide) ?_
              refine j_istore (lv' := [(7, .int (b01 true)), (11, .int (n 2)), (10, .int (nI 2)), (9, .int (nI (wdN n 2))), (8, .int (b01 rb)), (0, .ref m), (1, .int v), (2, .int ofr), (3, .int (n 0)), (4, .int (n 1)), (5, .int (n 2)), (6, .int (n 3))]) hX dX11_columns_107 (by rw [hn]; decide) rfl ?_
              refine j_sub [1, 2, 3, 4, 0, 5, 6, 7, 8, 9, 10, 11] rfl ?_
              exact stB true rb ⟨fun _ => ⟨(hib.mp (b01_t c_83)).1, fun z hz => by
                rcases Nat.lt_or_ge z 2 with q | q
                · exact (hib.mp (b01_t c_83)).2 z q
                · rw [show z = 2 by omega]; exact Or.inr ((hA.isc hI _ _).mp (hb9.mp (b01_t c_99)))⟩, fun _ => rfl⟩ hrb
      · show J X 0 0 g 40 [(10, .int (nI 3)), (9, .int (nI (wdN n 3))), (8, .int (b01 rb)), (7, .int (b01 ib)), (0, .ref m), (1, .int v), (2, .int ofr), (3, .int (n 0)), (4, .int (n 1)), (5, .int (n 2)), (6, .int (n 3))] []
        refine j_iload hX dX11_columns_40 0 rfl ?_
        refine j_iconst (v := nI 4) hX dX11_columns_42 (by decide) ?_
        refine j_icmp_ge hX 157 dX11_columns_43 (by decide) (fun c_43 => absurd c_43 (nI_ge (a := 3) (b := 4) (by decide) (by decide))) (fun _ => ?_)
        refine j_iload hX dX11_columns_46 0 rfl ?_
        refine j_if_ne hX 55 dX11_columns_48 (by decide) (fun _ => ?_) (fun c_48 => absurd c_48 (by decide))
        refine j_iload hX dX11_columns_55 0 rfl ?_
        refine j_iconst (v := nI 1) hX dX11_columns_57 (by decide) ?_
        refine j_icmp_ne hX 66 dX11_columns_58 (by decide) (fun _ => ?_) (fun c_58 => absurd c_58 (by decide))
        refine j_iload hX dX11_columns_66 0 rfl ?_
        refine j_iconst (v := nI 2) hX dX11_columns_68 (by decide) ?_
        refine j_icmp_ne hX 77 dX11_columns_69 (by decide) (fun _ => ?_) (fun c_69 => absurd c_69 (by decide))
        refine j_iload hX dX11_columns_77 10 rfl ?_
        refine j_istore (lv' := [(11, .int (n 3)), (10, .int (nI 3)), (9, .int (nI (wdN n 3))), (8, .int (b01 rb)), (7, .int (b01 ib)), (0, .ref m), (1, .int v), (2, .int ofr), (3, .int (n 0)), (4, .int (n 1)), (5, .int (n 2)), (6, .int (n 3))]) hX dX11_columns_79 (by rw [hn]; decide) rfl ?_
        refine j_iload hX dX11_columns_81 4 rfl ?_
        refine j_if_eq hX 106 dX11_columns_83 (by decide) (fun c_83 => ?_) (fun c_83 => ?_)
        · refine j_iconst (v := b01 false) hX dX11_columns_106 (by decide) ?_
          refine j_istore (lv' := [(7, .int (b01 false)), (11, .int (n 3)), (10, .int (nI 3)), (9, .int (nI (wdN n 3))), (8, .int (b01 rb)), (0, .ref m), (1, .int v), (2, .int ofr), (3, .int (n 0)), (4, .int (n 1)), (5, .int (n 2)), (6, .int (n 3))]) hX dX11_columns_107 (by rw [hn]; decide) rfl ?_
          refine j_sub [1, 2, 3, 4, 0, 5, 6, 7, 8, 9, 10, 11] rfl ?_
          exact stB false rb ⟨fun q => absurd q (by decide), fun q => absurd (hib.mpr ⟨q.1, fun z hz => q.2 z (by omega)⟩) (b01_f c_83)⟩ hrb
        · refine j_iload hX dX11_columns_86 0 rfl ?_
          refine j_iconst (v := (-1)) hX dX11_columns_88 (by decide) ?_
          refine j_icmp_eq hX 102 dX11_columns_89 (by decide) (fun c_89 => ?_) (fun c_89 => ?_)
          · refine j_iconst (v := b01 true) hX dX11_columns_102 (by decide) ?_
            refine j_goto hX 107 dX11_columns_103 (by decide) ?_
            refine j_istore (lv' := [(7, .int (b01 true)), (11, .int (n 3)), (10, .int (nI 3)), (9, .int (nI (wdN n 3))), (8, .int (b01 rb)), (0, .ref m), (1, .int v), (2, .int ofr), (3, .int (n 0)), (4, .int (n 1)), (5, .int (n 2)), (6, .int (n 3))]) hX dX11_columns_107 (by rw [hn]; decide) rfl ?_
            refine j_sub [1, 2, 3, 4, 0, 5, 6, 7, 8, 9, 10, 11] rfl ?_
            exact stB true rb ⟨fun _ => ⟨(hib.mp (b01_t c_83)).1, fun z hz => by
              rcases Nat.lt_or_ge z 3 with q | q
              · exact (hib.mp (b01_t c_83)).2 z q
              · rw [show z = 3 by omega]; exact Or.inl c_89⟩, fun _ => rfl⟩ hrb
          · refine j_aload_n hX dX11_columns_92 5 rfl ?_
            refine j_iload_n hX dX11_columns_93 7 rfl ?_
            refine j_iload hX dX11_columns_94 0 rfl ?_
            refine j_callV (As := [.int ofr, .int (n 3)]) (rest := []) hX (c_X11_isColumn (xl X) (xK X) g m Q th (nI Od.length) fi F hS ofr (n 3)) hS.1 rfl lk_X11_135 wI_X11_isColumn wV_X11_X11_isColumn wN_X11 wC_X11_isColumn hd_X11_isColumn rfl (by rw [hL]; decide) (by decide) rfl (Nat.le_of_ble_eq_true rfl) dX11_columns_96 (by rw [hR]; decide) (by rw [hR]; decide) jx_no ?_
            rintro _ _ ⟨b9, rfl, hb9, rfl⟩
            show J X 0 0 g 99 [(11, .int (n 3)), (10, .int (nI 3)), (9, .int (nI (wdN n 3))), (8, .int (b01 rb)), (7, .int (b01 ib)), (0, .ref m), (1, .int v), (2, .int ofr), (3, .int (n 0)), (4, .int (n 1)), (5, .int (n 2)), (6, .int (n 3))] [.int (b01 b9)]
            refine j_if_eq hX 106 dX11_columns_99 (by decide) (fun c_99 => ?_) (fun c_99 => ?_)
            · refine j_iconst (v := b01 false) hX dX11_columns_106 (by decide) ?_
              refine j_istore (lv' := [(7, .int (b01 false)), (11, .int (n 3)), (10, .int (nI 3)), (9, .int (nI (wdN n 3))), (8, .int (b01 rb)), (0, .ref m), (1, .int v), (2, .int ofr), (3, .int (n 0)), (4, .int (n 1)), (5, .int (n 2)), (6, .int (n 3))]) hX dX11_columns_107 (by rw [hn]; decide) rfl ?_
              refine j_sub [1, 2, 3, 4, 0, 5, 6, 7, 8, 9, 10, 11] rfl ?_
              exact stB false rb ⟨fun q => absurd q (by decide), fun q => absurd ((q.2 3 (by omega)).resolve_left c_89) (fun z => b01_f c_99 (hb9.mpr ((hA.isc hI _ _).mpr z)))⟩ hrb
            · refine j_iconst (v := b01 true) hX dX11_columns_102 (by decide) ?_
              refine j_goto hX 107 dX11_columns_103 (by decide) ?_
              refine j_istore (lv' := [(7, .int (b01 true)), (11, .int (n 3)), (10, .int (nI 3)), (9, .int (nI (wdN n 3))), (8, .int (b01 rb)), (0, .ref m), (1, .int v), (2, .int ofr), (3, .int (n 0)), (4, .int (n 1)), (5, .int (n 2)), (6, .int (n 3))]) hX dX11_columns_107 (by rw [hn]; decide) rfl ?_
              refine j_sub [1, 2, 3, 4, 0, 5, 6, 7, 8, 9, 10, 11] rfl ?_
              exact stB true rb ⟨fun _ => ⟨(hib.mp (b01_t c_83)).1, fun z hz => by
                rcases Nat.lt_or_ge z 3 with q | q
                · exact (hib.mp (b01_t c_83)).2 z q
                · rw [show z = 3 by omega]; exact Or.inr ((hA.isc hI _ _).mp (hb9.mp (b01_t c_99)))⟩, fun _ => rfl⟩ hrb
  refine j_iload_n hX dX11_columns_0 1 rfl ?_
  refine j_callS (As := [.int v]) (rest := []) hX (c_X11_isPlace (xl X) (xK X) g v) lk_X11_109 wS_X11_isPlace wN_X11 wC_X11_isPlace hd_X11_isPlace rfl (by rw [hL]; decide) (by decide) rfl (Nat.le_of_ble_eq_true rfl) dX11_columns_1 (by rw [hR]; decide) (by rw [hR]; decide) jx_no ?_
  rintro _ _ ⟨p9, rfl, hp9, rfl⟩
  show J X 0 0 g 4 [(0, .ref m), (1, .int v), (2, .int ofr), (3, .int (n 0)), (4, .int (n 1)), (5, .int (n 2)), (6, .int (n 3))] [.int (b01 p9)]
  refine j_if_eq hX 19 dX11_columns_4 (by decide) (fun c_4 => ?_) (fun c_4 => ?_)
  · refine j_iconst (v := b01 false) hX dX11_columns_19 (by decide) ?_
    refine j_istore (lv' := [(7, .int (b01 false)), (0, .ref m), (1, .int v), (2, .int ofr), (3, .int (n 0)), (4, .int (n 1)), (5, .int (n 2)), (6, .int (n 3))]) hX dX11_columns_20 (by rw [hn]; decide) rfl ?_
    refine j_iload_n hX dX11_columns_22 4 rfl ?_
    refine j_iconst (v := (-1)) hX dX11_columns_23 (by decide) ?_
    refine j_icmp_eq hX 31 dX11_columns_24 (by decide) (fun c_24 => ?_) (fun c_24 => ?_)
    · refine j_iconst (v := b01 false) hX dX11_columns_31 (by decide) ?_
      refine j_istore (lv' := [(8, .int (b01 false)), (7, .int (b01 false)), (0, .ref m), (1, .int v), (2, .int ofr), (3, .int (n 0)), (4, .int (n 1)), (5, .int (n 2)), (6, .int (n 3))]) hX dX11_columns_32 (by rw [hn]; decide) rfl ?_
      refine j_iconst (v := nI 0) hX dX11_columns_34 (by decide) ?_
      refine j_istore (lv' := [(9, .int (nI 0)), (8, .int (b01 false)), (7, .int (b01 false)), (0, .ref m), (1, .int v), (2, .int ofr), (3, .int (n 0)), (4, .int (n 1)), (5, .int (n 2)), (6, .int (n 3))]) hX dX11_columns_35 (by rw [hn]; decide) rfl ?_
      refine j_iconst (v := nI 0) hX dX11_columns_37 (by decide) ?_
      refine j_istore (lv' := [(10, .int (nI 0)), (9, .int (nI 0)), (8, .int (b01 false)), (7, .int (b01 false)), (0, .ref m), (1, .int v), (2, .int ofr), (3, .int (n 0)), (4, .int (n 1)), (5, .int (n 2)), (6, .int (n 3))]) hX dX11_columns_38 (by rw [hn]; decide) rfl ?_
      refine j_sub (lv' := [(10, .int (nI 0)), (9, .int (nI 0)), (8, .int (b01 false)), (7, .int (b01 false)), (0, .ref m), (1, .int v), (2, .int ofr), (3, .int (n 0)), (4, .int (n 1)), (5, .int (n 2)), (6, .int (n 3))]) [0, 1, 2, 3, 4, 5, 6, 7, 8, 9, 10] rfl ?_
      exact loop 4 0 false false (by omega) ⟨fun q => absurd q (by decide), fun q => absurd (hp9.mpr q.1.1) (b01_f c_4)⟩ ⟨fun q => absurd q (by decide), fun q => absurd c_24 q.1⟩
    · refine j_iconst (v := b01 true) hX dX11_columns_27 (by decide) ?_
      refine j_goto hX 32 dX11_columns_28 (by decide) ?_
      refine j_istore (lv' := [(8, .int (b01 true)), (7, .int (b01 false)), (0, .ref m), (1, .int v), (2, .int ofr), (3, .int (n 0)), (4, .int (n 1)), (5, .int (n 2)), (6, .int (n 3))]) hX dX11_columns_32 (by rw [hn]; decide) rfl ?_
      refine j_iconst (v := nI 0) hX dX11_columns_34 (by decide) ?_
      refine j_istore (lv' := [(9, .int (nI 0)), (8, .int (b01 true)), (7, .int (b01 false)), (0, .ref m), (1, .int v), (2, .int ofr), (3, .int (n 0)), (4, .int (n 1)), (5, .int (n 2)), (6, .int (n 3))]) hX dX11_columns_35 (by rw [hn]; decide) rfl ?_
      refine j_iconst (v := nI 0) hX dX11_columns_37 (by decide) ?_
      refine j_istore (lv' := [(10, .int (nI 0)), (9, .int (nI 0)), (8, .int (b01 true)), (7, .int (b01 false)), (0, .ref m), (1, .int v), (2, .int ofr), (3, .int (n 0)), (4, .int (n 1)), (5, .int (n 2)), (6, .int (n 3))]) hX dX11_columns_38 (by rw [hn]; decide) rfl ?_
      refine j_sub (lv' := [(10, .int (nI 0)), (9, .int (nI 0)), (8, .int (b01 true)), (7, .int (b01 false)), (0, .ref m), (1, .int v), (2, .int ofr), (3, .int (n 0)), (4, .int (n 1)), (5, .int (n 2)), (6, .int (n 3))]) [0, 1, 2, 3, 4, 5, 6, 7, 8, 9, 10] rfl ?_
      exact loop 4 0 false true (by omega) ⟨fun q => absurd q (by decide), fun q => absurd (hp9.mpr q.1.1) (b01_f c_4)⟩ ⟨fun _ => ⟨c_24, fun q hq => absurd hq (by omega)⟩, fun _ => rfl⟩
  · refine j_aload_n hX dX11_columns_7 0 rfl ?_
    refine j_iload_n hX dX11_columns_8 2 rfl ?_
    refine j_callV (As := [.int ofr]) (rest := []) hX (c_X11_is (xl X) (xK X) g m Q th (nI Od.length) fi F hS ofr) hS.1 rfl lk_X11_113 wI_X11_is wV_X11_X11_is wN_X11 wC_X11_is hd_X11_is rfl (by rw [hL]; decide) (by decide) rfl (Nat.le_of_ble_eq_true rfl) dX11_columns_9 (by rw [hR]; decide) (by rw [hR]; decide) jx_no ?_
    rintro _ _ ⟨b9, rfl, hb9, rfl⟩
    show J X 0 0 g 12 [(0, .ref m), (1, .int v), (2, .int ofr), (3, .int (n 0)), (4, .int (n 1)), (5, .int (n 2)), (6, .int (n 3))] [.int (b01 b9)]
    refine j_if_eq hX 19 dX11_columns_12 (by decide) (fun c_12 => ?_) (fun c_12 => ?_)
    · refine j_iconst (v := b01 false) hX dX11_columns_19 (by decide) ?_
      refine j_istore (lv' := [(7, .int (b01 false)), (0, .ref m), (1, .int v), (2, .int ofr), (3, .int (n 0)), (4, .int (n 1)), (5, .int (n 2)), (6, .int (n 3))]) hX dX11_columns_20 (by rw [hn]; decide) rfl ?_
      refine j_iload_n hX dX11_columns_22 4 rfl ?_
      refine j_iconst (v := (-1)) hX dX11_columns_23 (by decide) ?_
      refine j_icmp_eq hX 31 dX11_columns_24 (by decide) (fun c_24 => ?_) (fun c_24 => ?_)
      · refine j_iconst (v := b01 false) hX dX11_columns_31 (by decide) ?_
        refine j_istore (lv' := [(8, .int (b01 false)), (7, .int (b01 false)), (0, .ref m), (1, .int v), (2, .int ofr), (3, .int (n 0)), (4, .int (n 1)), (5, .int (n 2)), (6, .int (n 3))]) hX dX11_columns_32 (by rw [hn]; decide) rfl ?_
        refine j_iconst (v := nI 0) hX dX11_columns_34 (by decide) ?_
        refine j_istore (lv' := [(9, .int (nI 0)), (8, .int (b01 false)), (7, .int (b01 false)), (0, .ref m), (1, .int v), (2, .int ofr), (3, .int (n 0)), (4, .int (n 1)), (5, .int (n 2)), (6, .int (n 3))]) hX dX11_columns_35 (by rw [hn]; decide) rfl ?_
        refine j_iconst (v := nI 0) hX dX11_columns_37 (by decide) ?_
        refine j_istore (lv' := [(10, .int (nI 0)), (9, .int (nI 0)), (8, .int (b01 false)), (7, .int (b01 false)), (0, .ref m), (1, .int v), (2, .int ofr), (3, .int (n 0)), (4, .int (n 1)), (5, .int (n 2)), (6, .int (n 3))]) hX dX11_columns_38 (by rw [hn]; decide) rfl ?_
        refine j_sub (lv' := [(10, .int (nI 0)), (9, .int (nI 0)), (8, .int (b01 false)), (7, .int (b01 false)), (0, .ref m), (1, .int v), (2, .int ofr), (3, .int (n 0)), (4, .int (n 1)), (5, .int (n 2)), (6, .int (n 3))]) [0, 1, 2, 3, 4, 5, 6, 7, 8, 9, 10] rfl ?_
        exact loop 4 0 false false (by omega) ⟨fun q => absurd q (by decide), fun q => absurd (hb9.mpr ((hA.is hI _).mpr q.1.2)) (b01_f c_12)⟩ ⟨fun q => absurd q (by decide), fun q => absurd c_24 q.1⟩
      · refine j_iconst (v := b01 true) hX dX11_columns_27 (by decide) ?_
        refine j_goto hX 32 dX11_columns_28 (by decide) ?_
        refine j_istore (lv' := [(8, .int (b01 true)), (7, .int (b01 false)), (0, .ref m), (1, .int v), (2, .int ofr), (3, .int (n 0)), (4, .int (n 1)), (5, .int (n 2)), (6, .int (n 3))]) hX dX11_columns_32 (by rw [hn]; decide) rfl ?_
        refine j_iconst (v := nI 0) hX dX11_columns_34 (by decide) ?_
        refine j_istore (lv' := [(9, .int (nI 0)), (8, .int (b01 true)), (7, .int (b01 false)), (0, .ref m), (1, .int v), (2, .int ofr), (3, .int (n 0)), (4, .int (n 1)), (5, .int (n 2)), (6, .int (n 3))]) hX dX11_columns_35 (by rw [hn]; decide) rfl ?_
        refine j_iconst (v := nI 0) hX dX11_columns_37 (by decide) ?_
        refine j_istore (lv' := [(10, .int (nI 0)), (9, .int (nI 0)), (8, .int (b01 true)), (7, .int (b01 false)), (0, .ref m), (1, .int v), (2, .int ofr), (3, .int (n 0)), (4, .int (n 1)), (5, .int (n 2)), (6, .int (n 3))]) hX dX11_columns_38 (by rw [hn]; decide) rfl ?_
        refine j_sub (lv' := [(10, .int (nI 0)), (9, .int (nI 0)), (8, .int (b01 true)), (7, .int (b01 false)), (0, .ref m), (1, .int v), (2, .int ofr), (3, .int (n 0)), (4, .int (n 1)), (5, .int (n 2)), (6, .int (n 3))]) [0, 1, 2, 3, 4, 5, 6, 7, 8, 9, 10] rfl ?_
        exact loop 4 0 false true (by omega) ⟨fun q => absurd q (by decide), fun q => absurd (hb9.mpr ((hA.is hI _).mpr q.1.2)) (b01_f c_12)⟩ ⟨fun _ => ⟨c_24, fun q hq => absurd hq (by omega)⟩, fun _ => rfl⟩
    · refine j_iconst (v := b01 true) hX dX11_columns_15 (by decide) ?_
      refine j_goto hX 20 dX11_columns_16 (by decide) ?_
      refine j_istore (lv' := [(7, .int (b01 true)), (0, .ref m), (1, .int v), (2, .int ofr), (3, .int (n 0)), (4, .int (n 1)), (5, .int (n 2)), (6, .int (n 3))]) hX dX11_columns_20 (by rw [hn]; decide) rfl ?_
      refine j_iload_n hX dX11_columns_22 4 rfl ?_
      refine j_iconst (v := (-1)) hX dX11_columns_23 (by decide) ?_
      refine j_icmp_eq hX 31 dX11_columns_24 (by decide) (fun c_24 => ?_) (fun c_24 => ?_)
      · refine j_iconst (v := b01 false) hX dX11_columns_31 (by decide) ?_
        refine j_istore (lv' := [(8, .int (b01 false)), (7, .int (b01 true)), (0, .ref m), (1, .int v), (2, .int ofr), (3, .int (n 0)), (4, .int (n 1)), (5, .int (n 2)), (6, .int (n 3))]) hX dX11_columns_32 (by rw [hn]; decide) rfl ?_
        refine j_iconst (v := nI 0) hX dX11_columns_34 (by decide) ?_
        refine j_istore (lv' := [(9, .int (nI 0)), (8, .int (b01 false)), (7, .int (b01 true)), (0, .ref m), (1, .int v), (2, .int ofr), (3, .int (n 0)), (4, .int (n 1)), (5, .int (n 2)), (6, .int (n 3))]) hX dX11_columns_35 (by rw [hn]; decide) rfl ?_
        refine j_iconst (v := nI 0) hX dX11_columns_37 (by decide) ?_
        refine j_istore (lv' := [(10, .int (nI 0)), (9, .int (nI 0)), (8, .int (b01 false)), (7, .int (b01 true)), (0, .ref m), (1, .int v), (2, .int ofr), (3, .int (n 0)), (4, .int (n 1)), (5, .int (n 2)), (6, .int (n 3))]) hX dX11_columns_38 (by rw [hn]; decide) rfl ?_
        refine j_sub (lv' := [(10, .int (nI 0)), (9, .int (nI 0)), (8, .int (b01 false)), (7, .int (b01 true)), (0, .ref m), (1, .int v), (2, .int ofr), (3, .int (n 0)), (4, .int (n 1)), (5, .int (n 2)), (6, .int (n 3))]) [0, 1, 2, 3, 4, 5, 6, 7, 8, 9, 10] rfl ?_
        exact loop 4 0 true false (by omega) ⟨fun _ => ⟨⟨hp9.mp (b01_t c_4), (hA.is hI _).mp (hb9.mp (b01_t c_12))⟩, fun q hq => absurd hq (by omega)⟩, fun _ => rfl⟩ ⟨fun q => absurd q (by decide), fun q => absurd c_24 q.1⟩
      · refine j_iconst (v := b01 true) hX dX11_columns_27 (by decide) ?_
        refine j_goto hX 32 dX11_columns_28 (by decide) ?_
        refine j_istore (lv' := [(8, .int (b01 true)), (7, .int (b01 true)), (0, .ref m), (1, .int v), (2, .int ofr), (3, .int (n 0)), (4, .int (n 1)), (5, .int (n 2)), (6, .int (n 3))]) hX dX11_columns_32 (by rw [hn]; decide) rfl ?_
        refine j_iconst (v := nI 0) hX dX11_columns_34 (by decide) ?_
        refine j_istore (lv' := [(9, .int (nI 0)), (8, .int (b01 true)), (7, .int (b01 true)), (0, .ref m), (1, .int v), (2, .int ofr), (3, .int (n 0)), (4, .int (n 1)), (5, .int (n 2)), (6, .int (n 3))]) hX dX11_columns_35 (by rw [hn]; decide) rfl ?_
        refine j_iconst (v := nI 0) hX dX11_columns_37 (by decide) ?_
        refine j_istore (lv' := [(10, .int (nI 0)), (9, .int (nI 0)), (8, .int (b01 true)), (7, .int (b01 true)), (0, .ref m), (1, .int v), (2, .int ofr), (3, .int (n 0)), (4, .int (n 1)), (5, .int (n 2)), (6, .int (n 3))]) hX dX11_columns_38 (by rw [hn]; decide) rfl ?_
        refine j_sub (lv' := [(10, .int (nI 0)), (9, .int (nI 0)), (8, .int (b01 true)), (7, .int (b01 true)), (0, .ref m), (1, .int v), (2, .int ofr), (3, .int (n 0)), (4, .int (n 1)), (5, .int (n 2)), (6, .int (n 3))]) [0, 1, 2, 3, 4, 5, 6, 7, 8, 9, 10] rfl ?_
        exact loop 4 0 true true (by omega) ⟨fun _ => ⟨⟨hp9.mp (b01_t c_4), (hA.is hI _).mp (hb9.mp (b01_t c_12))⟩, fun q hq => absurd hq (by omega)⟩, fun _ => rfl⟩ ⟨fun _ => ⟨c_24, fun q hq => absurd hq (by omega)⟩, fun _ => rfl⟩

theorem c_X11_columns (l : Launch) (K : Cst) (g : Wd) (m : Nat) (Q : Nat → Nat) (th fi : Int32) (F : Nat → Nat → Int32) (Od : List Nat) (hS : RS K g m Q th (nI Od.length) fi F) (A : Ab) (hI : Inv A) (hA : RA A Od F) (v ofr a b c d : Int32) : Ct l K yX11_columns cX11_columns 12 none 5 [.ref m, .int v, .int ofr, .int a, .int b, .int c, .int d] g (RPo K m (colO A v ofr a b c d)) (fun _ _ => False) 0 0 := by
  have h := c_X11_columnsN l K g m Q th fi F Od hS A hI hA v ofr (nC a b c d) (by rw [nC_0, nC_1, nC_2, nC_3])
  rw [nC_0, nC_1, nC_2, nC_3] at h
  exact h
set_option maxRecDepth 20000 in
set_option maxHeartbeats 1600000 in
/-- c_X11_drop -/
theorem c_X11_drop (l : Launch) (K : Cst) (g : Wd) (m : Nat) (Q : Nat → Nat) (th fi : Int32) (F : Nat → Nat → Int32) (Od : List Nat) (hS : RS K g m Q th (nI Od.length) fi F) (A : Ab) (hI : Inv A) (hA : RA A Od F) (r : Int32) : Ct l K yX11_drop cX11_drop 4 none 5 [.ref m, .int r] g (RPo K m (dropO A r)) (fun _ _ => False) 0 0 := by
  refine ct_of (by decide) (Nat.le_of_ble_eq_true rfl) ?_
  intro X hl hK hX hE hn hL hR hm
  subst hl; subst hK
  show J X 0 0 g 0 [(0, .ref m), (1, .int r)] []
  have loop : ∀ (p k : Nat) (ub : Bool), k + p = 8 → (ub = true ↔ ∃ j, j < k ∧ 2 ≤ ak A j ∧ (F 2 j = r ∨ F 3 j = r)) → J X 0 0 g 4 [(3, .int (nI k)), (2, .int (b01 ub)), (0, .ref m), (1, .int r)] [] := by
    intro p
    induction p with
    | zero =>
      intro k ub hk8 hub
      obtain rfl : k = 8 := by omega
      by_cases hr9 : isR A r
      · obtain ⟨ri, hri, rfl, hwr⟩ := hr9
        have hsrc : ∀ j, j < 8 → 2 ≤ ak A j → ((F 2 j = nI ri ∨ F 3 j = nI ri) ↔ (al A j = ri ∨ ar A j = ri)) := fun j hj k2 => by
          have hv := (hA.2.2 j hj).2.2.2 k2
          obtain ⟨⟨s1, s2⟩, _⟩ := hI.src hj k2
          rw [hv.1]
          have q1 : nI (al A j) = nI ri ↔ al A j = ri := nI_eq (by omega) (by omega)
          have q2 : nI (ar A j) = nI ri ↔ ar A j = ri := nI_eq (by omega) (by omega)
          by_cases e : isB (ak A j)
          · rw [hv.2.1 e, q1, q2]
          · obtain ⟨h3, h4⟩ := hv.2.2.1 e
            rw [h3, q1, h4]
            exact ⟨fun z => Or.inl (z.resolve_right (fun y => nI_m1ne (show ri < 2 ^ 31 by omega) y.symm)), fun z => Or.inl (z.elim id id)⟩
        have hUE : (∃ j, j < 8 ∧ 2 ≤ ak A j ∧ (F 2 j = nI ri ∨ F 3 j = nI ri)) ↔ ∃ j, j < 8 ∧ 2 ≤ ak A j ∧ (al A j = vnat (nI ri) ∨ ar A j = vnat (nI ri)) := by
          rw [vnat_nI (by omega)]
          exact ⟨fun ⟨j, h1, h2, h3⟩ => ⟨j, h1, h2, (hsrc j h1 h2).mp h3⟩, fun ⟨j, h1, h2, h3⟩ => ⟨j, h1, h2, (hsrc j h1 h2).mpr h3⟩⟩
        cases ub with
        | true =>
          show J X 0 0 g 4 [(3, .int (nI 8)), (2, .int (b01 true)), (0, .ref m), (1, .int (nI ri))] []
          refine j_iload_n hX dX11_drop_4 0 rfl ?_
          refine j_bipush (v := nI 8) hX dX11_drop_5 (by decide) ?_
          refine j_icmp_ge hX 56 dX11_drop_7 (by decide) (fun _ => ?_) (fun c_7 => absurd (by decide) c_7)
          refine j_aload_n hX dX11_drop_56 2 rfl ?_
          refine j_aload_n hX dX11_drop_57 2 rfl ?_
          refine j_iload_n hX dX11_drop_58 3 rfl ?_
          refine j_callV (As := [.int (nI ri)]) (rest := [.ref m]) hX (c_X11_is (xl X) (xK X) g m Q th (nI Od.length) fi F hS (nI ri)) hS.1 rfl lk_X11_113 wI_X11_is wV_X11_X11_is wN_X11 wC_X11_is hd_X11_is rfl (by rw [hL]; decide) (by decide) rfl (Nat.le_of_ble_eq_true rfl) dX11_drop_59 (by rw [hR]; decide) (by rw [hR]; decide) jx_no ?_
          rintro _ _ ⟨b9, rfl, hb9, rfl⟩
          obtain rfl : b9 = true := hb9.mpr ((hA.is hI _).mpr ⟨ri, hri, rfl, hwr⟩)
          clear hb9
          show J X 0 0 g 62 [(3, .int (nI 8)), (2, .int (b01 true)), (0, .ref m), (1, .int (nI ri))] [.int (b01 true), .ref m]
          refine j_if_ne hX 69 dX11_drop_62 (by decide) (fun _ => ?_) (fun c_62 => absurd c_62 (by decide))
          refine j_iload_n hX dX11_drop_69 1 rfl ?_
          refine j_if_eq hX 77 dX11_drop_70 (by decide) (fun c_70 => absurd c_70 (by decide)) (fun _ => ?_)
          refine j_iconst (v := nI 2) hX dX11_drop_73 (by decide) ?_
          refine j_goto hX 78 dX11_drop_74 (by decide) ?_
          refine j_put hX hS.1 rfl wf_X11 tyX11_ok nmX11 0 (by decide) lk_X11_56 (fun _ h => h) rfl (tyX11_ok 0 (by decide)) rfl rfl (Nat.le_of_ble_eq_true rfl) dX11_drop_78 ?_
          obtain ⟨g1, eg1⟩ : ∃ z : Wd, z = up g m (ob 10 [.int (nI 2), .ref (Q 0), .ref (Q 1), .ref (Q 2), .ref (Q 3), .ref (Q 4), .ref (Q 5), .ref (Q 6), .int (nI Od.length), .ref (Q 7), .ref (Q 8), .ref (Q 9), .ref (Q 10), .ref (Q 11), .ref (Q 12), .ref (Q 13), .int fi, .ref (Q 14)]) := ⟨_, rfl⟩
          refine j_w eg1.symm ?_
          have hS1 : RS (xK X) g1 m Q (nI 2) (nI Od.length) fi F := by rw [eg1]; exact hS.obj _ _ _
          refine j_aload_n hX dX11_drop_81 2 rfl ?_
          refine j_get (v := .int (nI 2)) hX hS1.1 rfl wf_X11 0 (by decide) lk_X11_56 (fun _ h => h) rfl dX11_drop_82 ?_
          refine j_if_ne hX 93 dX11_drop_85 (by decide) (fun _ => ?_) (fun c_85 => absurd c_85 (by decide))
          exact j_vret hX hE dX11_drop_93 (⟨rfl, 2, A, Or.inr (Or.inl ⟨rfl, ⟨ri, hri, rfl, hwr⟩, hUE.mp (hub.mp rfl), rfl⟩), Q, Od, fi, F, hS1, hA⟩) (by decide) (by decide)
        | false =>
          have huN : ¬ ∃ j, j < 8 ∧ 2 ≤ ak A j ∧ (al A j = vnat (nI ri) ∨ ar A j = vnat (nI ri)) := fun q => absurd (hub.mpr (hUE.mpr q)) (by decide)
          show J X 0 0 g 4 [(3, .int (nI 8)), (2, .int (b01 false)), (0, .ref m), (1, .int (nI ri))] []
          refine j_iload_n hX dX11_drop_4 0 rfl ?_
          refine j_bipush (v := nI 8) hX dX11_drop_5 (by decide) ?_
          refine j_icmp_ge hX 56 dX11_drop_7 (by decide) (fun _ => ?_) (fun c_7 => absurd (by decide) c_7)
          refine j_aload_n hX dX11_drop_56 2 rfl ?_
          refine j_aload_n hX dX11_drop_57 2 rfl ?_
          refine j_iload_n hX dX11_drop_58 3 rfl ?_
          refine j_callV (As := [.int (nI ri)]) (rest := [.ref m]) hX (c_X11_is (xl X) (xK X) g m Q th (nI Od.length) fi F hS (nI ri)) hS.1 rfl lk_X11_113 wI_X11_is wV_X11_X11_is wN_X11 wC_X11_is hd_X11_is rfl (by rw [hL]; decide) (by decide) rfl (Nat.le_of_ble_eq_true rfl) dX11_drop_59 (by rw [hR]; decide) (by rw [hR]; decide) jx_no ?_
          rintro _ _ ⟨b9, rfl, hb9, rfl⟩
          obtain rfl : b9 = true := hb9.mpr ((hA.is hI _).mpr ⟨ri, hri, rfl, hwr⟩)
          clear hb9
          show J X 0 0 g 62 [(3, .int (nI 8)), (2, .int (b01 false)), (0, .ref m), (1, .int (nI ri))] [.int (b01 true), .ref m]
          refine j_if_ne hX 69 dX11_drop_62 (by decide) (fun _ => ?_) (fun c_62 => absurd c_62 (by decide))
          refine j_iload_n hX dX11_drop_69 1 rfl ?_
          refine j_if_eq hX 77 dX11_drop_70 (by decide) (fun _ => ?_) (fun c_70 => absurd (by decide) c_70)
          refine j_iconst (v := nI 0) hX dX11_drop_77 (by decide) ?_
          refine j_put hX hS.1 rfl wf_X11 tyX11_ok nmX11 0 (by decide) lk_X11_56 (fun _ h => h) rfl (tyX11_ok 0 (by decide)) rfl rfl (Nat.le_of_ble_eq_true rfl) dX11_drop_78 ?_
          obtain ⟨g1, eg1⟩ : ∃ z : Wd, z = up g m (ob 10 [.int (nI 0), .ref (Q 0), .ref (Q 1), .ref (Q 2), .ref (Q 3), .ref (Q 4), .ref (Q 5), .ref (Q 6), .int (nI Od.length), .ref (Q 7), .ref (Q 8), .ref (Q 9), .ref (Q 10), .ref (Q 11), .ref (Q 12), .ref (Q 13), .int fi, .ref (Q 14)]) := ⟨_, rfl⟩
          refine j_w eg1.symm ?_
          have hS1 : RS (xK X) g1 m Q (nI 0) (nI Od.length) fi F := by rw [eg1]; exact hS.obj _ _ _
          refine j_aload_n hX dX11_drop_81 2 rfl ?_
          refine j_get (v := .int (nI 0)) hX hS1.1 rfl wf_X11 0 (by decide) lk_X11_56 (fun _ h => h) rfl dX11_drop_82 ?_
          refine j_if_ne hX 93 dX11_drop_85 (by decide) (fun c_85 => absurd c_85 (fun q => q (by rfl))) (fun _ => ?_)
          refine j_aload_n hX dX11_drop_88 2 rfl ?_
          refine j_iload_n hX dX11_drop_89 3 rfl ?_
          refine j_callV (As := [.int (nI ri)]) (rest := []) hX (c_X11_leave (xl X) (xK X) g1 m Od Q (nI 0) fi F hS1 ri hri hA.2.1 hA.1.len hA.1.2.1) hS1.1 rfl lk_X11_132 wI_X11_leave wV_X11_X11_leave wN_X11 wC_X11_leave hd_X11_leave rfl (by rw [hL]; decide) (by decide) rfl (Nat.le_of_ble_eq_true rfl) dX11_drop_90 (by rw [hR]; decide) (by rw [hR]; decide) jx_no ?_
          rintro _ g4 ⟨rfl, F4, hS4, b0, b1, b10, bj, b6⟩
          show J X 0 0 g4 93 [(3, .int (nI 8)), (2, .int (b01 false)), (0, .ref m), (1, .int (nI ri))] []
          exact j_vret hX hE dX11_drop_93 (⟨rfl, 0, dropA A (vnat (nI ri)), Or.inr (Or.inr (Or.inr (Or.inr ⟨rfl, ⟨ri, hri, rfl, hwr⟩, huN, trivial, (), trivial, rfl⟩))), Q, Od.filter (· ≠ ri), fi, F4, hS4, by
    rw [vnat_nI (by omega)]
    refine ⟨hA.1.drop (fun j hj k2 => ⟨fun z => huN ⟨j, hj, k2, by rw [vnat_nI (by omega)]; exact Or.inl z⟩, fun z => huN ⟨j, hj, k2, by rw [vnat_nI (by omega)]; exact Or.inr z⟩⟩), b6, fun i hi => ?_⟩
    have hb := hA.2.2 i hi
    by_cases e : i = ri
    · subst e
      exact ⟨⟨by rw [b0, pk_us]; exact congrArg nI (fu_s _ _ _).symm, by rw [b1, pk_us]; exact congrArg nI (fu_s _ _ _).symm⟩, by rw [show aB (dropA A i) i = [] from fu_s _ _ _]; exact ⟨by rw [b10, pk_us]; rfl, fun k x hx => by cases hx⟩, fun k => absurd k (by rw [show ak (dropA A i) i = 0 from fu_s _ _ _]; omega), fun k => absurd k (by rw [show ak (dropA A i) i = 0 from fu_s _ _ _]; omega)⟩
    · have n8 := bj 8 (by decide) (by decide) (by decide) (by decide)
      have n9 := bj 9 (by decide) (by decide) (by decide) (by decide)
      exact hb.cg (A' := dropA A ri) ⟨fu_n e, rfl, rfl, rfl, rfl⟩ (fu_n e) rfl (by rw [show aB (dropA A ri) i = aB A i from fu_n e]; exact ⟨by rw [b10, pk_un e]; exact hb.2.1.1, by rw [n8, n9]; exact hb.2.1.2⟩) (by rw [b0, pk_un e]) (by rw [b1, pk_un e]) (by rw [bj 2 (by decide) (by decide) (by decide) (by decide)]) (by rw [bj 3 (by decide) (by decide) (by decide) (by decide)]) (fun j _ => by rw [bj 4 (by decide) (by decide) (by decide) (by decide)]) (by rw [bj 5 (by decide) (by decide) (by decide) (by decide)]) (by rw [bj 7 (by decide) (by decide) (by decide) (by decide)])⟩) (by decide) (by decide)
      · show J X 0 0 g 4 [(3, .int (nI 8)), (2, .int (b01 ub)), (0, .ref m), (1, .int r)] []
        refine j_iload_n hX dX11_drop_4 0 rfl ?_
        refine j_bipush (v := nI 8) hX dX11_drop_5 (by decide) ?_
        refine j_icmp_ge hX 56 dX11_drop_7 (by decide) (fun _ => ?_) (fun c_7 => absurd (by decide) c_7)
        refine j_aload_n hX dX11_drop_56 2 rfl ?_
        refine j_aload_n hX dX11_drop_57 2 rfl ?_
        refine j_iload_n hX dX11_drop_58 3 rfl ?_
        refine j_callV (As := [.int r]) (rest := [.ref m]) hX (c_X11_is (xl X) (xK X) g m Q th (nI Od.length) fi F hS (r)) hS.1 rfl lk_X11_113 wI_X11_is wV_X11_X11_is wN_X11 wC_X11_is hd_X11_is rfl (by rw [hL]; decide) (by decide) rfl (Nat.le_of_ble_eq_true rfl) dX11_drop_59 (by rw [hR]; decide) (by rw [hR]; decide) jx_no ?_
        rintro _ _ ⟨b9, rfl, hb9, rfl⟩
        obtain rfl : b9 = false := Bool.eq_false_iff.mpr (fun q => hr9 ((hA.is hI _).mp (hb9.mp q)))
        clear hb9
        show J X 0 0 g 62 [(3, .int (nI 8)), (2, .int (b01 ub)), (0, .ref m), (1, .int r)] [.int (b01 false), .ref m]
        refine j_if_ne hX 69 dX11_drop_62 (by decide) (fun c_62 => absurd c_62 (fun q => q (by rfl))) (fun _ => ?_)
        refine j_iconst (v := nI 1) hX dX11_drop_65 (by decide) ?_
        refine j_goto hX 78 dX11_drop_66 (by decide) ?_
        refine j_put hX hS.1 rfl wf_X11 tyX11_ok nmX11 0 (by decide) lk_X11_56 (fun _ h => h) rfl (tyX11_ok 0 (by decide)) rfl rfl (Nat.le_of_ble_eq_true rfl) dX11_drop_78 ?_
        obtain ⟨g1, eg1⟩ : ∃ z : Wd, z = up g m (ob 10 [.int (nI 1), .ref (Q 0), .ref (Q 1), .ref (Q 2), .ref (Q 3), .ref (Q 4), .ref (Q 5), .ref (Q 6), .int (nI Od.length), .ref (Q 7), .ref (Q 8), .ref (Q 9), .ref (Q 10), .ref (Q 11), .ref (Q 12), .ref (Q 13), .int fi, .ref (Q 14)]) := ⟨_, rfl⟩
        refine j_w eg1.symm ?_
        have hS1 : RS (xK X) g1 m Q (nI 1) (nI Od.length) fi F := by rw [eg1]; exact hS.obj _ _ _
        refine j_aload_n hX dX11_drop_81 2 rfl ?_
        refine j_get (v := .int (nI 1)) hX hS1.1 rfl wf_X11 0 (by decide) lk_X11_56 (fun _ h => h) rfl dX11_drop_82 ?_
        refine j_if_ne hX 93 dX11_drop_85 (by decide) (fun _ => ?_) (fun c_85 => absurd c_85 (by decide))
        exact j_vret hX hE dX11_drop_93 (⟨rfl, 1, A, Or.inl ⟨rfl, hr9, rfl⟩, Q, Od, fi, F, hS1, hA⟩) (by decide) (by decide)
    | succ p ih =>
      intro k ub hk8 hub
      have hk : k < 8 := by omega
      have hak8 := (hI k hk).1.2.1
      refine j_iload_n hX dX11_drop_4 0 rfl ?_
      refine j_bipush (v := nI 8) hX dX11_drop_5 (by decide) ?_
      refine j_icmp_ge hX 56 dX11_drop_7 (by decide) (fun c_7 => absurd c_7 (nI_ge (a := k) (b := 8) (by omega) (by decide))) (fun _ => ?_)
      refine j_iload_n hX dX11_drop_10 1 rfl ?_
      refine j_if_ne hX 44 dX11_drop_11 (by decide) (fun c_11 => ?_) (fun c_11 => ?_)
      · refine j_iconst (v := b01 true) hX dX11_drop_44 (by decide) ?_
        refine j_goto hX 49 dX11_drop_45 (by decide) ?_
        refine j_istore_n (lv' := [(2, .int (b01 true)), (3, .int (nI k)), (0, .ref m), (1, .int r)]) hX dX11_drop_49 (by rw [hn]; decide) rfl ?_
        refine j_iinc (v := nI (k + 1)) (lv' := [(3, .int (nI (k + 1))), (2, .int (b01 true)), (0, .ref m), (1, .int r)]) hX dX11_drop_50 1 rfl (nI_1 k) (by rw [hn]; decide) rfl ?_
        refine j_goto hX 4 dX11_drop_53 (by decide) ?_
        refine j_sub (lv' := [(3, .int (nI (k + 1))), (2, .int (b01 true)), (0, .ref m), (1, .int r)]) [0, 1, 2, 3] rfl ?_
        exact ih (k + 1) true (by omega) ⟨fun _ => by obtain ⟨j, h1, h2, h3⟩ := hub.mp (b01_t c_11); exact ⟨j, by omega, h2, h3⟩, fun _ => rfl⟩
      · refine j_aload_n hX dX11_drop_14 2 rfl ?_
        refine j_get (v := .ref (Q 0)) hX hS.1 rfl wf_X11 1 (by decide) lk_X11_7 (fun _ h => h) rfl dX11_drop_15 ?_
        refine j_iload_n hX dX11_drop_18 0 rfl ?_
        refine j_ialdN hX (show g (Q 0) = some (aI (xK X) 8 (F 0)) from hS.2.1 0 (by decide)) (k) (rfl) (hk) (by decide) dX11_drop_19 ?_
        refine j_eqi (y := nI (ak A k)) ((hA.2.2 k hk).1.1) ?_
        refine j_iconst (v := nI 1) hX dX11_drop_20 (by decide) ?_
        refine j_icmp_le hX 48 dX11_drop_21 (by decide) (fun c_21 => ?_) (fun c_21 => ?_)
        · refine j_iconst (v := b01 false) hX dX11_drop_48 (by decide) ?_
          refine j_istore_n (lv' := [(2, .int (b01 false)), (3, .int (nI k)), (0, .ref m), (1, .int r)]) hX dX11_drop_49 (by rw [hn]; decide) rfl ?_
          refine j_iinc (v := nI (k + 1)) (lv' := [(3, .int (nI (k + 1))), (2, .int (b01 false)), (0, .ref m), (1, .int r)]) hX dX11_drop_50 1 rfl (nI_1 k) (by rw [hn]; decide) rfl ?_
          refine j_goto hX 4 dX11_drop_53 (by decide) ?_
          refine j_sub (lv' := [(3, .int (nI (k + 1))), (2, .int (b01 false)), (0, .ref m), (1, .int r)]) [0, 1, 2, 3] rfl ?_
          exact ih (k + 1) false (by omega) ⟨fun q => absurd q (by decide), fun ⟨j, h1, h2, h3⟩ => by
            rcases Nat.lt_or_ge j k with q | q
            · exact absurd (hub.mpr ⟨j, q, h2, h3⟩) (b01_f (c_11))
            · obtain rfl : j = k := by omega
              exact absurd h2 (by have := Int32.le_iff_toInt_le.mp c_21; rw [nI_toInt (by omega), nI_toInt (by omega)] at this; omega)⟩
        · refine j_aload_n hX dX11_drop_24 2 rfl ?_
          refine j_get (v := .ref (Q 2)) hX hS.1 rfl wf_X11 3 (by decide) lk_X11_16 (fun _ h => h) rfl dX11_drop_25 ?_
          refine j_iload_n hX dX11_drop_28 0 rfl ?_
          refine j_ialdN hX (show g (Q 2) = some (aI (xK X) 8 (F 2)) from hS.2.1 2 (by decide)) (k) (rfl) (hk) (by decide) dX11_drop_29 ?_
          refine j_iload_n hX dX11_drop_30 3 rfl ?_
          refine j_icmp_eq hX 44 dX11_drop_31 (by decide) (fun c_31 => ?_) (fun c_31 => ?_)
          · refine j_iconst (v := b01 true) hX dX11_drop_44 (by decide) ?_
            refine j_goto hX 49 dX11_drop_45 (by decide) ?_
            refine j_istore_n (lv' := [(2, .int (b01 true)), (3, .int (nI k)), (0, .ref m), (1, .int r)]) hX dX11_drop_49 (by rw [hn]; decide) rfl ?_
            refine j_iinc (v := nI (k + 1)) (lv' := [(3, .int (nI (k + 1))), (2, .int (b01 true)), (0, .ref m), (1, .int r)]) hX dX11_drop_50 1 rfl (nI_1 k) (by rw [hn]; decide) rfl ?_
            refine j_goto hX 4 dX11_drop_53 (by decide) ?_
            refine j_sub (lv' := [(3, .int (nI (k + 1))), (2, .int (b01 true)), (0, .ref m), (1, .int r)]) [0, 1, 2, 3] rfl ?_
            exact ih (k + 1) true (by omega) ⟨fun _ => ⟨k, by omega, (by have := Int32.not_le.mp c_21; have := Int32.lt_iff_toInt_lt.mp this; rw [nI_toInt (by omega), nI_toInt (by omega)] at this; omega), Or.inl c_31⟩, fun _ => rfl⟩
          · refine j_aload_n hX dX11_drop_34 2 rfl ?_
            refine j_get (v := .ref (Q 3)) hX hS.1 rfl wf_X11 4 (by decide) lk_X11_19 (fun _ h => h) rfl dX11_drop_35 ?_
            refine j_iload_n hX dX11_drop_38 0 rfl ?_
            refine j_ialdN hX (show g (Q 3) = some (aI (xK X) 8 (F 3)) from hS.2.1 3 (by decide)) (k) (rfl) (hk) (by decide) dX11_drop_39 ?_
            refine j_iload_n hX dX11_drop_40 3 rfl ?_
            refine j_icmp_ne hX 48 dX11_drop_41 (by decide) (fun c_41 => ?_) (fun c_41 => ?_)
            · refine j_iconst (v := b01 false) hX dX11_drop_48 (by decide) ?_
              refine j_istore_n (lv' := [(2, .int (b01 false)), (3, .int (nI k)), (0, .ref m), (1, .int r)]) hX dX11_drop_49 (by rw [hn]; decide) rfl ?_
              refine j_iinc (v := nI (k + 1)) (lv' := [(3, .int (nI (k + 1))), (2, .int (b01 false)), (0, .ref m), (1, .int r)]) hX dX11_drop_50 1 rfl (nI_1 k) (by rw [hn]; decide) rfl ?_
              refine j_goto hX 4 dX11_drop_53 (by decide) ?_
              refine j_sub (lv' := [(3, .int (nI (k + 1))), (2, .int (b01 false)), (0, .ref m), (1, .int r)]) [0, 1, 2, 3] rfl ?_
              exact ih (k + 1) false (by omega) ⟨fun q => absurd q (by decide), fun ⟨j, h1, h2, h3⟩ => by
                rcases Nat.lt_or_ge j k with q | q
                · exact absurd (hub.mpr ⟨j, q, h2, h3⟩) (b01_f (c_11))
                · obtain rfl : j = k := by omega
                  exact absurd h3 (fun z => z.elim c_31 c_41)⟩
            · refine j_iconst (v := b01 true) hX dX11_drop_44 (by decide) ?_
              refine j_goto hX 49 dX11_drop_45 (by decide) ?_
              refine j_istore_n (lv' := [(2, .int (b01 true)), (3, .int (nI k)), (0, .ref m), (1, .int r)]) hX dX11_drop_49 (by rw [hn]; decide) rfl ?_
              refine j_iinc (v := nI (k + 1)) (lv' := [(3, .int (nI (k + 1))), (2, .int (b01 true)), (0, .ref m), (1, .int r)]) hX dX11_drop_50 1 rfl (nI_1 k) (by rw [hn]; decide) rfl ?_
              refine j_goto hX 4 dX11_drop_53 (by decide) ?_
              refine j_sub (lv' := [(3, .int (nI (k + 1))), (2, .int (b01 true)), (0, .ref m), (1, .int r)]) [0, 1, 2, 3] rfl ?_
              exact ih (k + 1) true (by omega) ⟨fun _ => ⟨k, by omega, (by have := Int32.not_le.mp c_21; have := Int32.lt_iff_toInt_lt.mp this; rw [nI_toInt (by omega), nI_toInt (by omega)] at this; omega), Or.inr c_41⟩, fun _ => rfl⟩
  refine j_iconst (v := b01 false) hX dX11_drop_0 (by decide) ?_
  refine j_istore_n (lv' := [(2, .int (b01 false)), (0, .ref m), (1, .int r)]) hX dX11_drop_1 (by rw [hn]; decide) rfl ?_
  refine j_iconst (v := nI 0) hX dX11_drop_2 (by decide) ?_
  refine j_istore_n (lv' := [(3, .int (nI 0)), (2, .int (b01 false)), (0, .ref m), (1, .int r)]) hX dX11_drop_3 (by rw [hn]; decide) rfl ?_
  refine j_sub (lv' := [(3, .int (nI 0)), (2, .int (b01 false)), (0, .ref m), (1, .int r)]) [0, 1, 2, 3] rfl ?_
  exact loop 8 0 false (by omega) ⟨fun q => absurd q (by decide), fun ⟨j, h1, _⟩ => absurd h1 (by omega)⟩

