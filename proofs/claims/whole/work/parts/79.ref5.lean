theorem nI_lt2 {a b : Nat} (h : a < b) (hb : b < 2 ^ 31) : nI a < nI b := Int32.lt_iff_toInt_lt.mpr (by rw [nI_toInt (by omega), nI_toInt hb]; omega)
theorem nI_nlt2 {a b : Nat} (h : b ≤ a) (ha : a < 2 ^ 31) : ¬ nI a < nI b := fun q => by
  have := Int32.lt_iff_toInt_lt.mp q
  rw [nI_toInt ha, nI_toInt (by omega)] at this
  omega
theorem nI_ne {a b : Nat} (ha : a < 2 ^ 31) (hb : b < 2 ^ 31) (h : a ≠ b) : ¬ nI a = nI b := fun q => h ((nI_eq ha hb).mp q)
set_option maxRecDepth 20000 in
set_option maxHeartbeats 1600000 in
/-- difference(r) -/
theorem c_X11_difference (l : Launch) (K : Cst) (g : Wd) (m : Nat) (Q : Nat → Nat) (th oc fi : Int32) (F : Nat → Nat → Int32) (hS : RS K g m Q th oc fi F) (r w : Nat) (O N : Bg) (hr : r < 8) (hw : F 1 r = nI w) (hw1 : 1 ≤ w) (hw4 : w ≤ 4) (hO : OB F r O) (hN : NB F r N) (kO : wk w O) (kN : wk w N) : Ct l K yX11_difference cX11_difference 10 (some .int) 1 [.ref m, .int (nI r)] g (fun v g' => v = some (.int (nI (dif O N))) ∧ g = g') (fun _ _ => False) 0 0 := by
  refine ct_of (by decide) (Nat.le_of_ble_eq_true rfl) ?_
  intro X hl hK hX hE hn hL hR hm
  subst hl; subst hK
  show J X 0 0 g 0 [(0, .ref m), (1, .int (nI r))] []
  have hlo := kO.2.2.1
  have hln := kN.2.2.1
  have loop : ∀ (m9 i j n : Nat), i ≤ O.length → j ≤ N.length → (O.length - i) + (N.length - j) ≤ m9 → dif O N = n + difI O N m9 i j → J X 0 0 g 7 [(2, .int (nI i)), (3, .int (nI j)), (4, .int (nI n)), (1, .int (nI r)), (0, .ref m)] [] := by
    intro m9
    induction m9 with
    | zero =>
      intro i j n hi9 hj9 hm9 hd
      refine j_iload_n hX dX11_difference_7 0 rfl ?_
      refine j_aload_n hX dX11_difference_8 4 rfl ?_
      refine j_get (v := .ref (Q 10)) hX hS.1 rfl wf_X11 12 (by decide) lk_X11_41 (fun _ h => h) rfl dX11_difference_9 ?_
      refine j_iload_n hX dX11_difference_12 3 rfl ?_
      refine j_ialdN hX (show g (Q 10) = some (aI (xK X) 8 (F 10)) from hS.2.1 10 (by decide)) (r) (rfl) (hr) (by decide) dX11_difference_13 ?_
      refine j_eqi (y := nI O.length) (hO.1) ?_
      refine j_icmp_lt hX 27 dX11_difference_14 (by decide) (fun c_14 => absurd c_14 (nI_nlt2 (a := i) (b := O.length) (by omega) (by omega))) (fun _ => ?_)
      refine j_iload_n hX dX11_difference_17 1 rfl ?_
      refine j_aload_n hX dX11_difference_18 4 rfl ?_
      refine j_get (v := .ref (Q 13)) hX hS.1 rfl wf_X11 15 (by decide) lk_X11_50 (fun _ h => h) rfl dX11_difference_19 ?_
      refine j_iload_n hX dX11_difference_22 3 rfl ?_
      refine j_ialdN hX (show g (Q 13) = some (aI (xK X) 8 (F 13)) from hS.2.1 13 (by decide)) (r) (rfl) (hr) (by decide) dX11_difference_23 ?_
      refine j_eqi (y := nI N.length) (hN.1) ?_
      refine j_icmp_ge hX 223 dX11_difference_24 (by decide) (fun _ => ?_) (fun c_24 => absurd (nI_le (a := N.length) (b := j) (by omega) (by omega)) c_24)
      refine j_iload hX dX11_difference_223 2 rfl ?_
      exact j_iret hX hE dX11_difference_225 (⟨by rw [show n = dif O N by rw [hd, difI_end _ (Or.inl (by omega))]; omega], rfl⟩) (by decide) (by decide)
    | succ m9 ih =>
      intro i j n hi9 hj9 hm9 hd
      by_cases hi : i < O.length
      · have KM : dif O N = n + 1 + difI O N m9 (i + 1) j → J X 0 0 g 153 [(5, .int (-1)), (2, .int (nI i)), (3, .int (nI j)), (4, .int (nI n)), (1, .int (nI r)), (0, .ref m)] [] := by
          intro hd
          refine j_iload hX dX11_difference_153 0 rfl ?_
          refine j_if_ne hX 183 dX11_difference_155 (by decide) (fun _ => ?_) (fun c_155 => absurd c_155 (by decide))
          refine j_iload hX dX11_difference_183 3 rfl ?_
          refine j_iconst (v := nI 1) hX dX11_difference_185 (by decide) ?_
          refine j_iadd hX dX11_difference_186 ?_
          refine j_eqi (y := nI (n + 1)) (nI_add n 1) ?_
          refine j_goto hX 192 dX11_difference_187 (by decide) ?_
          refine j_istore (lv' := [(4, .int (nI (n + 1))), (5, .int (-1)), (2, .int (nI i)), (3, .int (nI j)), (1, .int (nI r)), (0, .ref m)]) hX dX11_difference_192 (by rw [hn]; decide) rfl ?_
          refine j_iload hX dX11_difference_194 1 rfl ?_
          refine j_if_gt hX 205 dX11_difference_196 (by decide) (fun c_196 => absurd c_196 (by decide)) (fun _ => ?_)
          refine j_iload_n hX dX11_difference_199 2 rfl ?_
          refine j_iconst (v := nI 1) hX dX11_difference_200 (by decide) ?_
          refine j_iadd hX dX11_difference_201 ?_
          refine j_eqi (y := nI (i + 1)) (nI_add i 1) ?_
          refine j_goto hX 206 dX11_difference_202 (by decide) ?_
          refine j_istore_n (lv' := [(2, .int (nI (i + 1))), (4, .int (nI (n + 1))), (5, .int (-1)), (3, .int (nI j)), (1, .int (nI r)), (0, .ref m)]) hX dX11_difference_206 (by rw [hn]; decide) rfl ?_
          refine j_iload hX dX11_difference_207 2 rfl ?_
          refine j_if_lt hX 218 dX11_difference_209 (by decide) (fun _ => ?_) (fun c_209 => absurd (by decide) c_209)
          refine j_iload_n hX dX11_difference_218 3 rfl ?_
          refine j_istore_n (lv' := [(3, .int (nI j)), (2, .int (nI (i + 1))), (4, .int (nI (n + 1))), (5, .int (-1)), (1, .int (nI r)), (0, .ref m)]) hX dX11_difference_219 (by rw [hn]; decide) rfl ?_
          refine j_goto hX 7 dX11_difference_220 (by decide) ?_
          refine j_sub (lv' := [(2, .int (nI (i + 1))), (3, .int (nI j)), (4, .int (nI (n + 1))), (1, .int (nI r)), (0, .ref m)]) [1, 0, 2, 4, 5] rfl ?_
          exact ih (i + 1) (j) (n + 1) (by omega) (by omega) (by omega) (hd)
        by_cases hj : j < N.length
        · have KP : dif O N = n + 1 + difI O N m9 i (j + 1) → J X 0 0 g 153 [(5, .int (nI 1)), (2, .int (nI i)), (3, .int (nI j)), (4, .int (nI n)), (1, .int (nI r)), (0, .ref m)] [] := by
            intro hd
            refine j_iload hX dX11_difference_153 0 rfl ?_
            refine j_if_ne hX 183 dX11_difference_155 (by decide) (fun _ => ?_) (fun c_155 => absurd c_155 (by decide))
            refine j_iload hX dX11_difference_183 3 rfl ?_
            refine j_iconst (v := nI 1) hX dX11_difference_185 (by decide) ?_
            refine j_iadd hX dX11_difference_186 ?_
            refine j_eqi (y := nI (n + 1)) (nI_add n 1) ?_
            refine j_goto hX 192 dX11_difference_187 (by decide) ?_
            refine j_istore (lv' := [(4, .int (nI (n + 1))), (5, .int (nI 1)), (2, .int (nI i)), (3, .int (nI j)), (1, .int (nI r)), (0, .ref m)]) hX dX11_difference_192 (by rw [hn]; decide) rfl ?_
            refine j_iload hX dX11_difference_194 1 rfl ?_
            refine j_if_gt hX 205 dX11_difference_196 (by decide) (fun _ => ?_) (fun c_196 => absurd (by decide) c_196)
            refine j_iload_n hX dX11_difference_205 2 rfl ?_
            refine j_istore_n (lv' := [(2, .int (nI i)), (4, .int (nI (n + 1))), (5, .int (nI 1)), (3, .int (nI j)), (1, .int (nI r)), (0, .ref m)]) hX dX11_difference_206 (by rw [hn]; decide) rfl ?_
            refine j_iload hX dX11_difference_207 2 rfl ?_
            refine j_if_lt hX 218 dX11_difference_209 (by decide) (fun c_209 => absurd c_209 (by decide)) (fun _ => ?_)
            refine j_iload_n hX dX11_difference_212 3 rfl ?_
            refine j_iconst (v := nI 1) hX dX11_difference_213 (by decide) ?_
            refine j_iadd hX dX11_difference_214 ?_
            refine j_eqi (y := nI (j + 1)) (nI_add j 1) ?_
            refine j_goto hX 219 dX11_difference_215 (by decide) ?_
            refine j_istore_n (lv' := [(3, .int (nI (j + 1))), (2, .int (nI i)), (4, .int (nI (n + 1))), (5, .int (nI 1)), (1, .int (nI r)), (0, .ref m)]) hX dX11_difference_219 (by rw [hn]; decide) rfl ?_
            refine j_goto hX 7 dX11_difference_220 (by decide) ?_
            refine j_sub (lv' := [(2, .int (nI i)), (3, .int (nI (j + 1))), (4, .int (nI (n + 1))), (1, .int (nI r)), (0, .ref m)]) [1, 0, 2, 4, 5] rfl ?_
            exact ih (i) (j + 1) (n + 1) (by omega) (by omega) (by omega) (hd)
          have K0 : dif O N = n + ((if O[i].2 = N[j].2 then 0 else 1) + difI O N m9 (i + 1) (j + 1)) → J X 0 0 g 153 [(5, .int (nI 0)), (2, .int (nI i)), (3, .int (nI j)), (4, .int (nI n)), (1, .int (nI r)), (0, .ref m)] [] := by
            intro hd
            refine j_iload hX dX11_difference_153 0 rfl ?_
            refine j_if_ne hX 183 dX11_difference_155 (by decide) (fun c_155 => absurd c_155 (fun q => q (by rfl))) (fun _ => ?_)
            refine j_aload_n hX dX11_difference_158 5 rfl ?_
            refine j_get (v := .ref (Q 9)) hX hS.1 rfl wf_X11 11 (by decide) lk_X11_38 (fun _ h => h) rfl dX11_difference_159 ?_
            refine j_bipush (v := nI 20) hX dX11_difference_162 (by decide) ?_
            refine j_iload_n hX dX11_difference_164 4 rfl ?_
            refine j_imul hX dX11_difference_165 ?_
            refine j_iload_n hX dX11_difference_166 1 rfl ?_
            refine j_iadd hX dX11_difference_167 ?_
            refine j_eqi (y := nI (20 * r + i)) (ix20 r i) ?_
            refine j_ialdN hX (show g (Q 9) = some (aI (xK X) 512 (F 9)) from hS.2.1 9 (by decide)) (20 * r + i) (rfl) (by omega) (by decide) dX11_difference_168 ?_
            refine j_eqi (y := nI (O[i]).2) (repA_time hO.2 hi) ?_
            refine j_aload_n hX dX11_difference_169 5 rfl ?_
            refine j_get (v := .ref (Q 12)) hX hS.1 rfl wf_X11 14 (by decide) lk_X11_47 (fun _ h => h) rfl dX11_difference_170 ?_
            refine j_bipush (v := nI 20) hX dX11_difference_173 (by decide) ?_
            refine j_iload_n hX dX11_difference_175 4 rfl ?_
            refine j_imul hX dX11_difference_176 ?_
            refine j_iload_n hX dX11_difference_177 2 rfl ?_
            refine j_iadd hX dX11_difference_178 ?_
            refine j_eqi (y := nI (20 * r + j)) (ix20 r j) ?_
            refine j_ialdN hX (show g (Q 12) = some (aI (xK X) 512 (F 12)) from hS.2.1 12 (by decide)) (20 * r + j) (rfl) (by omega) (by decide) dX11_difference_179 ?_
            refine j_eqi (y := nI (N[j]).2) (repA_time hN.2 hj) ?_
            refine j_icmp_eq hX 190 dX11_difference_180 (by decide) (fun c_180 => ?_) (fun c_180 => ?_)
            · refine j_iload hX dX11_difference_190 3 rfl ?_
              refine j_istore (lv' := [(4, .int (nI n)), (5, .int (nI 0)), (2, .int (nI i)), (3, .int (nI j)), (1, .int (nI r)), (0, .ref m)]) hX dX11_difference_192 (by rw [hn]; decide) rfl ?_
              refine j_iload hX dX11_difference_194 1 rfl ?_
              refine j_if_gt hX 205 dX11_difference_196 (by decide) (fun c_196 => absurd c_196 (by decide)) (fun _ => ?_)
              refine j_iload_n hX dX11_difference_199 2 rfl ?_
              refine j_iconst (v := nI 1) hX dX11_difference_200 (by decide) ?_
              refine j_iadd hX dX11_difference_201 ?_
              refine j_eqi (y := nI (i + 1)) (nI_add i 1) ?_
              refine j_goto hX 206 dX11_difference_202 (by decide) ?_
              refine j_istore_n (lv' := [(2, .int (nI (i + 1))), (4, .int (nI n)), (5, .int (nI 0)), (3, .int (nI j)), (1, .int (nI r)), (0, .ref m)]) hX dX11_difference_206 (by rw [hn]; decide) rfl ?_
              refine j_iload hX dX11_difference_207 2 rfl ?_
              refine j_if_lt hX 218 dX11_difference_209 (by decide) (fun c_209 => absurd c_209 (by decide)) (fun _ => ?_)
              refine j_iload_n hX dX11_difference_212 3 rfl ?_
              refine j_iconst (v := nI 1) hX dX11_difference_213 (by decide) ?_
              refine j_iadd hX dX11_difference_214 ?_
              refine j_eqi (y := nI (j + 1)) (nI_add j 1) ?_
              refine j_goto hX 219 dX11_difference_215 (by decide) ?_
              refine j_istore_n (lv' := [(3, .int (nI (j + 1))), (2, .int (nI (i + 1))), (4, .int (nI n)), (5, .int (nI 0)), (1, .int (nI r)), (0, .ref m)]) hX dX11_difference_219 (by rw [hn]; decide) rfl ?_
              refine j_goto hX 7 dX11_difference_220 (by decide) ?_
              refine j_sub (lv' := [(2, .int (nI (i + 1))), (3, .int (nI (j + 1))), (4, .int (nI n)), (1, .int (nI r)), (0, .ref m)]) [1, 0, 2, 4, 5] rfl ?_
              exact ih (i + 1) (j + 1) (n) (by omega) (by omega) (by omega) (by rw [hd, if_pos ((nI_eq (by have := kO.2.2.2 _ (List.getElem_mem hi); omega) (by have := kN.2.2.2 _ (List.getElem_mem hj); omega)).mp c_180)]; omega)
            · refine j_iload hX dX11_difference_183 3 rfl ?_
              refine j_iconst (v := nI 1) hX dX11_difference_185 (by decide) ?_
              refine j_iadd hX dX11_difference_186 ?_
              refine j_eqi (y := nI (n + 1)) (nI_add n 1) ?_
              refine j_goto hX 192 dX11_difference_187 (by decide) ?_
              refine j_istore (lv' := [(4, .int (nI (n + 1))), (5, .int (nI 0)), (2, .int (nI i)), (3, .int (nI j)), (1, .int (nI r)), (0, .ref m)]) hX dX11_difference_192 (by rw [hn]; decide) rfl ?_
              refine j_iload hX dX11_difference_194 1 rfl ?_
              refine j_if_gt hX 205 dX11_difference_196 (by decide) (fun c_196 => absurd c_196 (by decide)) (fun _ => ?_)
              refine j_iload_n hX dX11_difference_199 2 rfl ?_
              refine j_iconst (v := nI 1) hX dX11_difference_200 (by decide) ?_
              refine j_iadd hX dX11_difference_201 ?_
              refine j_eqi (y := nI (i + 1)) (nI_add i 1) ?_
              refine j_goto hX 206 dX11_difference_202 (by decide) ?_
              refine j_istore_n (lv' := [(2, .int (nI (i + 1))), (4, .int (nI (n + 1))), (5, .int (nI 0)), (3, .int (nI j)), (1, .int (nI r)), (0, .ref m)]) hX dX11_difference_206 (by rw [hn]; decide) rfl ?_
              refine j_iload hX dX11_difference_207 2 rfl ?_
              refine j_if_lt hX 218 dX11_difference_209 (by decide) (fun c_209 => absurd c_209 (by decide)) (fun _ => ?_)
              refine j_iload_n hX dX11_difference_212 3 rfl ?_
              refine j_iconst (v := nI 1) hX dX11_difference_213 (by decide) ?_
              refine j_iadd hX dX11_difference_214 ?_
              refine j_eqi (y := nI (j + 1)) (nI_add j 1) ?_
              refine j_goto hX 219 dX11_difference_215 (by decide) ?_
              refine j_istore_n (lv' := [(3, .int (nI (j + 1))), (2, .int (nI (i + 1))), (4, .int (nI (n + 1))), (5, .int (nI 0)), (1, .int (nI r)), (0, .ref m)]) hX dX11_difference_219 (by rw [hn]; decide) rfl ?_
              refine j_goto hX 7 dX11_difference_220 (by decide) ?_
              refine j_sub (lv' := [(2, .int (nI (i + 1))), (3, .int (nI (j + 1))), (4, .int (nI (n + 1))), (1, .int (nI r)), (0, .ref m)]) [1, 0, 2, 4, 5] rfl ?_
              exact ih (i + 1) (j + 1) (n + 1) (by omega) (by omega) (by omega) (by rw [hd, if_neg (fun q => c_180 (congrArg nI q))]; omega)
          have stopM : ∀ c : Nat, dif O N = n + 1 + difI O N m9 (i + 1) j → J X 0 0 g 73 [(7, .int (nI c)), (6, .int (nI 1)), (5, .int (-1)), (2, .int (nI i)), (3, .int (nI j)), (4, .int (nI n)), (1, .int (nI r)), (0, .ref m)] [] := by
            intro c hd
            have K153 := KM hd
            refine j_iload hX dX11_difference_73 0 rfl ?_
            refine j_aload_n hX dX11_difference_75 7 rfl ?_
            refine j_get (v := .ref (Q 1)) hX hS.1 rfl wf_X11 2 (by decide) lk_X11_13 (fun _ h => h) rfl dX11_difference_76 ?_
            refine j_iload_n hX dX11_difference_79 6 rfl ?_
            refine j_ialdN hX (show g (Q 1) = some (aI (xK X) 8 (F 1)) from hS.2.1 1 (by decide)) (r) (rfl) (hr) (by decide) dX11_difference_80 ?_
            refine j_eqi (y := nI w) (hw) ?_
            refine j_icmp_ge hX 153 dX11_difference_81 (by decide) (fun c_81 => ?_) (fun c_81 => ?_)
            · refine j_sub [2, 3, 4, 5, 6, 7] rfl ?_
              exact K153
            · refine j_iload hX dX11_difference_84 1 rfl ?_
              refine j_if_eq hX 153 dX11_difference_86 (by decide) (fun c_86 => absurd c_86 (by decide)) (fun _ => ?_)
              refine j_iload hX dX11_difference_89 2 rfl ?_
              refine j_if_ne hX 153 dX11_difference_91 (by decide) (fun _ => ?_) (fun c_91 => absurd c_91 (by decide))
              refine j_sub [2, 3, 4, 5, 6, 7] rfl ?_
              exact K153
          have stopP : ∀ c : Nat, dif O N = n + 1 + difI O N m9 i (j + 1) → J X 0 0 g 73 [(7, .int (nI c)), (6, .int (nI 1)), (5, .int (nI 1)), (2, .int (nI i)), (3, .int (nI j)), (4, .int (nI n)), (1, .int (nI r)), (0, .ref m)] [] := by
            intro c hd
            have K153 := KP hd
            refine j_iload hX dX11_difference_73 0 rfl ?_
            refine j_aload_n hX dX11_difference_75 7 rfl ?_
            refine j_get (v := .ref (Q 1)) hX hS.1 rfl wf_X11 2 (by decide) lk_X11_13 (fun _ h => h) rfl dX11_difference_76 ?_
            refine j_iload_n hX dX11_difference_79 6 rfl ?_
            refine j_ialdN hX (show g (Q 1) = some (aI (xK X) 8 (F 1)) from hS.2.1 1 (by decide)) (r) (rfl) (hr) (by decide) dX11_difference_80 ?_
            refine j_eqi (y := nI w) (hw) ?_
            refine j_icmp_ge hX 153 dX11_difference_81 (by decide) (fun c_81 => ?_) (fun c_81 => ?_)
            · refine j_sub [2, 3, 4, 5, 6, 7] rfl ?_
              exact K153
            · refine j_iload hX dX11_difference_84 1 rfl ?_
              refine j_if_eq hX 153 dX11_difference_86 (by decide) (fun c_86 => absurd c_86 (by decide)) (fun _ => ?_)
              refine j_iload hX dX11_difference_89 2 rfl ?_
              refine j_if_ne hX 153 dX11_difference_91 (by decide) (fun _ => ?_) (fun c_91 => absurd c_91 (by decide))
              refine j_sub [2, 3, 4, 5, 6, 7] rfl ?_
              exact K153
          have inner : ∀ (q c : Nat), c + q = w → (∀ z, z < c → cellR (O[i]).1 z = cellR (N[j]).1 z) → J X 0 0 g 73 [(7, .int (nI c)), (6, .int (nI 1)), (5, .int (nI 0)), (2, .int (nI i)), (3, .int (nI j)), (4, .int (nI n)), (1, .int (nI r)), (0, .ref m)] [] := by
            intro q
            induction q with
            | zero =>
              intro c hc he
              refine j_iload hX dX11_difference_73 0 rfl ?_
              refine j_aload_n hX dX11_difference_75 7 rfl ?_
              refine j_get (v := .ref (Q 1)) hX hS.1 rfl wf_X11 2 (by decide) lk_X11_13 (fun _ h => h) rfl dX11_difference_76 ?_
              refine j_iload_n hX dX11_difference_79 6 rfl ?_
              refine j_ialdN hX (show g (Q 1) = some (aI (xK X) 8 (F 1)) from hS.2.1 1 (by decide)) (r) (rfl) (hr) (by decide) dX11_difference_80 ?_
              refine j_eqi (y := nI w) (hw) ?_
              refine j_icmp_ge hX 153 dX11_difference_81 (by decide) (fun _ => ?_) (fun c_81 => absurd (nI_le (a := w) (b := c) (by omega) (by omega)) c_81)
              refine j_sub [2, 3, 4, 5, 6, 7] rfl ?_
              exact K0 (by rw [hd, difI_eq hi hj (row_ext fun z hz => by
                rcases Nat.lt_or_ge z c with q | q
                · exact he z q
                · rw [kO.2.1 _ (List.getElem_mem hi) z (by omega) hz, kN.2.1 _ (List.getElem_mem hj) z (by omega) hz])])
            | succ q ihc =>
              intro c hc he
              refine j_iload hX dX11_difference_73 0 rfl ?_
              refine j_aload_n hX dX11_difference_75 7 rfl ?_
              refine j_get (v := .ref (Q 1)) hX hS.1 rfl wf_X11 2 (by decide) lk_X11_13 (fun _ h => h) rfl dX11_difference_76 ?_
              refine j_iload_n hX dX11_difference_79 6 rfl ?_
              refine j_ialdN hX (show g (Q 1) = some (aI (xK X) 8 (F 1)) from hS.2.1 1 (by decide)) (r) (rfl) (hr) (by decide) dX11_difference_80 ?_
              refine j_eqi (y := nI w) (hw) ?_
              refine j_icmp_ge hX 153 dX11_difference_81 (by decide) (fun c_81 => absurd c_81 (nI_ge (a := c) (b := w) (by omega) (by omega))) (fun _ => ?_)
              refine j_iload hX dX11_difference_84 1 rfl ?_
              refine j_if_eq hX 153 dX11_difference_86 (by decide) (fun c_86 => absurd c_86 (by decide)) (fun _ => ?_)
              refine j_iload hX dX11_difference_89 2 rfl ?_
              refine j_if_ne hX 153 dX11_difference_91 (by decide) (fun c_91 => absurd c_91 (fun q => q (by rfl))) (fun _ => ?_)
              refine j_aload_n hX dX11_difference_94 7 rfl ?_
              refine j_get (v := .ref (Q 8)) hX hS.1 rfl wf_X11 10 (by decide) lk_X11_35 (fun _ h => h) rfl dX11_difference_95 ?_
              refine j_iconst (v := nI 4) hX dX11_difference_98 (by decide) ?_
              refine j_bipush (v := nI 20) hX dX11_difference_99 (by decide) ?_
              refine j_iload_n hX dX11_difference_101 6 rfl ?_
              refine j_imul hX dX11_difference_102 ?_
              refine j_iload_n hX dX11_difference_103 3 rfl ?_
              refine j_iadd hX dX11_difference_104 ?_
              refine j_eqi (y := nI (20 * r + i)) (ix20 r i) ?_
              refine j_imul hX dX11_difference_105 ?_
              refine j_iload hX dX11_difference_106 0 rfl ?_
              refine j_iadd hX dX11_difference_108 ?_
              refine j_eqi (y := nI (80 * r + 4 * i + c)) (ix80 r i c) ?_
              refine j_ialdN hX (show g (Q 8) = some (aI (xK X) 2048 (F 8)) from hS.2.1 8 (by decide)) (80 * r + 4 * i + c) (rfl) (by omega) (by decide) dX11_difference_109 ?_
              refine j_eqi (y := cellR (O[i]).1 c) (repA_cell hO.2 hi (by omega)) ?_
              refine j_istore (lv' := [(8, .int (cellR (O[i]).1 c)), (7, .int (nI c)), (6, .int (nI 1)), (5, .int (nI 0)), (2, .int (nI i)), (3, .int (nI j)), (4, .int (nI n)), (1, .int (nI r)), (0, .ref m)]) hX dX11_difference_110 (by rw [hn]; decide) rfl ?_
              refine j_aload_n hX dX11_difference_112 8 rfl ?_
              refine j_iload_n hX dX11_difference_113 7 rfl ?_
              refine j_iload_n hX dX11_difference_114 5 rfl ?_
              refine j_iload hX dX11_difference_115 1 rfl ?_
              refine j_callV (As := [.int (nI r), .int (nI j), .int (nI c)]) (rest := []) hX (c_X11_cellOf (xl X) (xK X) g m Q th oc fi F hS r j c hr (by omega) (by omega)) hS.1 rfl lk_X11_74 wI_X11_cellOf wV_X11_X11_cellOf wN_X11 wC_X11_cellOf hd_X11_cellOf rfl (by rw [hL]; decide) (by decide) rfl (Nat.le_of_ble_eq_true rfl) dX11_difference_117 (by rw [hR]; decide) (by rw [hR]; decide) jx_no ?_
              rintro _ _ ⟨rfl, rfl⟩
              show J X 0 0 g 120 [(8, .int (cellR (O[i]).1 c)), (7, .int (nI c)), (6, .int (nI 1)), (5, .int (nI 0)), (2, .int (nI i)), (3, .int (nI j)), (4, .int (nI n)), (1, .int (nI r)), (0, .ref m)] [.int (F 11 (80 * r + 4 * j + c))]
              refine j_eqi (y := cellR (N[j]).1 c) (repA_cell hN.2 hj (by omega)) ?_
              refine j_istore (lv' := [(9, .int (cellR (N[j]).1 c)), (8, .int (cellR (O[i]).1 c)), (7, .int (nI c)), (6, .int (nI 1)), (5, .int (nI 0)), (2, .int (nI i)), (3, .int (nI j)), (4, .int (nI n)), (1, .int (nI r)), (0, .ref m)]) hX dX11_difference_120 (by rw [hn]; decide) rfl ?_
              refine j_iload hX dX11_difference_122 1 rfl ?_
              refine j_iload hX dX11_difference_124 0 rfl ?_
              refine j_icmp_ge hX 133 dX11_difference_126 (by decide) (fun c_126 => ?_) (fun c_126 => ?_)
              · refine j_iload hX dX11_difference_133 1 rfl ?_
                refine j_iload hX dX11_difference_135 0 rfl ?_
                refine j_icmp_le hX 144 dX11_difference_137 (by decide) (fun c_137 => ?_) (fun c_137 => ?_)
                · refine j_iconst (v := nI 0) hX dX11_difference_144 (by decide) ?_
                  refine j_istore (lv' := [(5, .int (nI 0)), (9, .int (cellR (N[j]).1 c)), (8, .int (cellR (O[i]).1 c)), (7, .int (nI c)), (6, .int (nI 1)), (2, .int (nI i)), (3, .int (nI j)), (4, .int (nI n)), (1, .int (nI r)), (0, .ref m)]) hX dX11_difference_145 (by rw [hn]; decide) rfl ?_
                  refine j_iinc (v := nI (c + 1)) (lv' := [(7, .int (nI (c + 1))), (5, .int (nI 0)), (9, .int (cellR (N[j]).1 c)), (8, .int (cellR (O[i]).1 c)), (6, .int (nI 1)), (2, .int (nI i)), (3, .int (nI j)), (4, .int (nI n)), (1, .int (nI r)), (0, .ref m)]) hX dX11_difference_147 3 rfl (nI_1 c) (by rw [hn]; decide) rfl ?_
                  refine j_goto hX 73 dX11_difference_150 (by decide) ?_
                  refine j_sub [0, 4, 1, 5, 6, 7, 8, 9] rfl ?_
                  exact ihc (c + 1) (by omega) (fun z hz => by
                    rcases Nat.lt_or_ge z c with q | q
                    · exact he z q
                    · rw [show z = c by omega]; exact Int32.le_antisymm c_137 c_126)
                · refine j_iconst (v := nI 1) hX dX11_difference_140 (by decide) ?_
                  refine j_goto hX 145 dX11_difference_141 (by decide) ?_
                  refine j_istore (lv' := [(5, .int (nI 1)), (9, .int (cellR (N[j]).1 c)), (8, .int (cellR (O[i]).1 c)), (7, .int (nI c)), (6, .int (nI 1)), (2, .int (nI i)), (3, .int (nI j)), (4, .int (nI n)), (1, .int (nI r)), (0, .ref m)]) hX dX11_difference_145 (by rw [hn]; decide) rfl ?_
                  refine j_iinc (v := nI (c + 1)) (lv' := [(7, .int (nI (c + 1))), (5, .int (nI 1)), (9, .int (cellR (N[j]).1 c)), (8, .int (cellR (O[i]).1 c)), (6, .int (nI 1)), (2, .int (nI i)), (3, .int (nI j)), (4, .int (nI n)), (1, .int (nI r)), (0, .ref m)]) hX dX11_difference_147 3 rfl (nI_1 c) (by rw [hn]; decide) rfl ?_
                  refine j_goto hX 73 dX11_difference_150 (by decide) ?_
                  refine j_sub [0, 4, 1, 5, 6, 7, 8, 9] rfl ?_
                  exact stopP (c + 1) (by rw [hd, difI_gt hi hj (key_lt (c := c) (by omega) (fun z hz => (he z hz).symm) (Int32.lt_iff_toInt_lt.mp (Int32.not_le.mp c_137)))]; omega)
              · refine j_iconst (v := (-1)) hX dX11_difference_129 (by decide) ?_
                refine j_goto hX 145 dX11_difference_130 (by decide) ?_
                refine j_istore (lv' := [(5, .int (-1)), (9, .int (cellR (N[j]).1 c)), (8, .int (cellR (O[i]).1 c)), (7, .int (nI c)), (6, .int (nI 1)), (2, .int (nI i)), (3, .int (nI j)), (4, .int (nI n)), (1, .int (nI r)), (0, .ref m)]) hX dX11_difference_145 (by rw [hn]; decide) rfl ?_
                refine j_iinc (v := nI (c + 1)) (lv' := [(7, .int (nI (c + 1))), (5, .int (-1)), (9, .int (cellR (N[j]).1 c)), (8, .int (cellR (O[i]).1 c)), (6, .int (nI 1)), (2, .int (nI i)), (3, .int (nI j)), (4, .int (nI n)), (1, .int (nI r)), (0, .ref m)]) hX dX11_difference_147 3 rfl (nI_1 c) (by rw [hn]; decide) rfl ?_
                refine j_goto hX 73 dX11_difference_150 (by decide) ?_
                refine j_sub [0, 4, 1, 5, 6, 7, 8, 9] rfl ?_
                exact stopM (c + 1) (by rw [hd, difI_lt hi hj (key_lt (c := c) (by omega) he (Int32.lt_iff_toInt_lt.mp (Int32.not_le.mp c_126)))]; omega)
          refine j_iload_n hX dX11_difference_7 0 rfl ?_
          refine j_aload_n hX dX11_difference_8 4 rfl ?_
          refine j_get (v := .ref (Q 10)) hX hS.1 rfl wf_X11 12 (by decide) lk_X11_41 (fun _ h => h) rfl dX11_difference_9 ?_
          refine j_iload_n hX dX11_difference_12 3 rfl ?_
          refine j_ialdN hX (show g (Q 10) = some (aI (xK X) 8 (F 10)) from hS.2.1 10 (by decide)) (r) (rfl) (hr) (by decide) dX11_difference_13 ?_
          refine j_eqi (y := nI O.length) (hO.1) ?_
          refine j_icmp_lt hX 27 dX11_difference_14 (by decide) (fun _ => ?_) (fun c_14 => absurd (nI_lt2 (a := i) (b := O.length) (by omega) (by omega)) c_14)
          refine j_iload_n hX dX11_difference_27 0 rfl ?_
          refine j_aload_n hX dX11_difference_28 4 rfl ?_
          refine j_get (v := .ref (Q 10)) hX hS.1 rfl wf_X11 12 (by decide) lk_X11_41 (fun _ h => h) rfl dX11_difference_29 ?_
          refine j_iload_n hX dX11_difference_32 3 rfl ?_
          refine j_ialdN hX (show g (Q 10) = some (aI (xK X) 8 (F 10)) from hS.2.1 10 (by decide)) (r) (rfl) (hr) (by decide) dX11_difference_33 ?_
          refine j_eqi (y := nI O.length) (hO.1) ?_
          refine j_icmp_ne hX 41 dX11_difference_34 (by decide) (fun _ => ?_) (fun c_34 => absurd c_34 (nI_ne (a := i) (b := O.length) (by omega) (by omega) (by omega)))
          refine j_iload_n hX dX11_difference_41 1 rfl ?_
          refine j_aload_n hX dX11_difference_42 4 rfl ?_
          refine j_get (v := .ref (Q 13)) hX hS.1 rfl wf_X11 15 (by decide) lk_X11_50 (fun _ h => h) rfl dX11_difference_43 ?_
          refine j_iload_n hX dX11_difference_46 3 rfl ?_
          refine j_ialdN hX (show g (Q 13) = some (aI (xK X) 8 (F 13)) from hS.2.1 13 (by decide)) (r) (rfl) (hr) (by decide) dX11_difference_47 ?_
          refine j_eqi (y := nI N.length) (hN.1) ?_
          refine j_icmp_ne hX 55 dX11_difference_48 (by decide) (fun _ => ?_) (fun c_48 => absurd c_48 (nI_ne (a := j) (b := N.length) (by omega) (by omega) (by omega)))
          refine j_iconst (v := nI 0) hX dX11_difference_55 (by decide) ?_
          refine j_istore (lv' := [(5, .int (nI 0)), (2, .int (nI i)), (3, .int (nI j)), (4, .int (nI n)), (1, .int (nI r)), (0, .ref m)]) hX dX11_difference_56 (by rw [hn]; decide) rfl ?_
          refine j_iload hX dX11_difference_58 0 rfl ?_
          refine j_if_ne hX 67 dX11_difference_60 (by decide) (fun c_60 => absurd c_60 (fun q => q (by rfl))) (fun _ => ?_)
          refine j_iconst (v := nI 1) hX dX11_difference_63 (by decide) ?_
          refine j_goto hX 68 dX11_difference_64 (by decide) ?_
          refine j_istore (lv' := [(6, .int (nI 1)), (5, .int (nI 0)), (2, .int (nI i)), (3, .int (nI j)), (4, .int (nI n)), (1, .int (nI r)), (0, .ref m)]) hX dX11_difference_68 (by rw [hn]; decide) rfl ?_
          refine j_iconst (v := nI 0) hX dX11_difference_70 (by decide) ?_
          refine j_istore (lv' := [(7, .int (nI 0)), (6, .int (nI 1)), (5, .int (nI 0)), (2, .int (nI i)), (3, .int (nI j)), (4, .int (nI n)), (1, .int (nI r)), (0, .ref m)]) hX dX11_difference_71 (by rw [hn]; decide) rfl ?_
          refine j_sub (lv' := [(7, .int (nI 0)), (6, .int (nI 1)), (5, .int (nI 0)), (2, .int (nI i)), (3, .int (nI j)), (4, .int (nI n)), (1, .int (nI r)), (0, .ref m)]) [0, 1, 2, 3, 4, 5, 6, 7] rfl ?_
          exact inner w 0 (by omega) (fun z hz => absurd hz (by omega))
        · skip
          refine j_iload_n hX dX11_difference_7 0 rfl ?_
          refine j_aload_n hX dX11_difference_8 4 rfl ?_
          refine j_get (v := .ref (Q 10)) hX hS.1 rfl wf_X11 12 (by decide) lk_X11_41 (fun _ h => h) rfl dX11_difference_9 ?_
          refine j_iload_n hX dX11_difference_12 3 rfl ?_
          refine j_ialdN hX (show g (Q 10) = some (aI (xK X) 8 (F 10)) from hS.2.1 10 (by decide)) (r) (rfl) (hr) (by decide) dX11_difference_13 ?_
          refine j_eqi (y := nI O.length) (hO.1) ?_
          refine j_icmp_lt hX 27 dX11_difference_14 (by decide) (fun _ => ?_) (fun c_14 => absurd (nI_lt2 (a := i) (b := O.length) (by omega) (by omega)) c_14)
          refine j_iload_n hX dX11_difference_27 0 rfl ?_
          refine j_aload_n hX dX11_difference_28 4 rfl ?_
          refine j_get (v := .ref (Q 10)) hX hS.1 rfl wf_X11 12 (by decide) lk_X11_41 (fun _ h => h) rfl dX11_difference_29 ?_
          refine j_iload_n hX dX11_difference_32 3 rfl ?_
          refine j_ialdN hX (show g (Q 10) = some (aI (xK X) 8 (F 10)) from hS.2.1 10 (by decide)) (r) (rfl) (hr) (by decide) dX11_difference_33 ?_
          refine j_eqi (y := nI O.length) (hO.1) ?_
          refine j_icmp_ne hX 41 dX11_difference_34 (by decide) (fun _ => ?_) (fun c_34 => absurd c_34 (nI_ne (a := i) (b := O.length) (by omega) (by omega) (by omega)))
          refine j_iload_n hX dX11_difference_41 1 rfl ?_
          refine j_aload_n hX dX11_difference_42 4 rfl ?_
          refine j_get (v := .ref (Q 13)) hX hS.1 rfl wf_X11 15 (by decide) lk_X11_50 (fun _ h => h) rfl dX11_difference_43 ?_
          refine j_iload_n hX dX11_difference_46 3 rfl ?_
          refine j_ialdN hX (show g (Q 13) = some (aI (xK X) 8 (F 13)) from hS.2.1 13 (by decide)) (r) (rfl) (hr) (by decide) dX11_difference_47 ?_
          refine j_eqi (y := nI N.length) (hN.1) ?_
          refine j_icmp_ne hX 55 dX11_difference_48 (by decide) (fun c_48 => absurd c_48 (fun q => q (by rw [show j = N.length by omega]))) (fun _ => ?_)
          refine j_iconst (v := (-1)) hX dX11_difference_51 (by decide) ?_
          refine j_goto hX 56 dX11_difference_52 (by decide) ?_
          refine j_istore (lv' := [(5, .int (-1)), (2, .int (nI i)), (3, .int (nI j)), (4, .int (nI n)), (1, .int (nI r)), (0, .ref m)]) hX dX11_difference_56 (by rw [hn]; decide) rfl ?_
          refine j_iload hX dX11_difference_58 0 rfl ?_
          refine j_if_ne hX 67 dX11_difference_60 (by decide) (fun _ => ?_) (fun c_60 => absurd c_60 (by decide))
          refine j_iconst (v := nI 0) hX dX11_difference_67 (by decide) ?_
          refine j_istore (lv' := [(6, .int (nI 0)), (5, .int (-1)), (2, .int (nI i)), (3, .int (nI j)), (4, .int (nI n)), (1, .int (nI r)), (0, .ref m)]) hX dX11_difference_68 (by rw [hn]; decide) rfl ?_
          refine j_iconst (v := nI 0) hX dX11_difference_70 (by decide) ?_
          refine j_istore (lv' := [(7, .int (nI 0)), (6, .int (nI 0)), (5, .int (-1)), (2, .int (nI i)), (3, .int (nI j)), (4, .int (nI n)), (1, .int (nI r)), (0, .ref m)]) hX dX11_difference_71 (by rw [hn]; decide) rfl ?_
          refine j_iload hX dX11_difference_73 0 rfl ?_
          refine j_aload_n hX dX11_difference_75 7 rfl ?_
          refine j_get (v := .ref (Q 1)) hX hS.1 rfl wf_X11 2 (by decide) lk_X11_13 (fun _ h => h) rfl dX11_difference_76 ?_
          refine j_iload_n hX dX11_difference_79 6 rfl ?_
          refine j_ialdN hX (show g (Q 1) = some (aI (xK X) 8 (F 1)) from hS.2.1 1 (by decide)) (r) (rfl) (hr) (by decide) dX11_difference_80 ?_
          refine j_eqi (y := nI w) (hw) ?_
          refine j_icmp_ge hX 153 dX11_difference_81 (by decide) (fun c_81 => absurd c_81 (nI_ge (a := 0) (b := w) (by omega) (by omega))) (fun _ => ?_)
          refine j_iload hX dX11_difference_84 1 rfl ?_
          refine j_if_eq hX 153 dX11_difference_86 (by decide) (fun _ => ?_) (fun c_86 => absurd (by rfl) c_86)
          refine j_sub [2, 3, 4, 5, 6, 7] rfl ?_
          exact KM (by rw [hd, difI_end _ (Or.inr (by omega)), difI_end _ (Or.inr (by omega))]; omega)
      · by_cases hj : j < N.length
        · have KP : dif O N = n + 1 + difI O N m9 i (j + 1) → J X 0 0 g 153 [(5, .int (nI 1)), (2, .int (nI i)), (3, .int (nI j)), (4, .int (nI n)), (1, .int (nI r)), (0, .ref m)] [] := by
            intro hd
            refine j_iload hX dX11_difference_153 0 rfl ?_
            refine j_if_ne hX 183 dX11_difference_155 (by decide) (fun _ => ?_) (fun c_155 => absurd c_155 (by decide))
            refine j_iload hX dX11_difference_183 3 rfl ?_
            refine j_iconst (v := nI 1) hX dX11_difference_185 (by decide) ?_
            refine j_iadd hX dX11_difference_186 ?_
            refine j_eqi (y := nI (n + 1)) (nI_add n 1) ?_
            refine j_goto hX 192 dX11_difference_187 (by decide) ?_
            refine j_istore (lv' := [(4, .int (nI (n + 1))), (5, .int (nI 1)), (2, .int (nI i)), (3, .int (nI j)), (1, .int (nI r)), (0, .ref m)]) hX dX11_difference_192 (by rw [hn]; decide) rfl ?_
            refine j_iload hX dX11_difference_194 1 rfl ?_
            refine j_if_gt hX 205 dX11_difference_196 (by decide) (fun _ => ?_) (fun c_196 => absurd (by decide) c_196)
            refine j_iload_n hX dX11_difference_205 2 rfl ?_
            refine j_istore_n (lv' := [(2, .int (nI i)), (4, .int (nI (n + 1))), (5, .int (nI 1)), (3, .int (nI j)), (1, .int (nI r)), (0, .ref m)]) hX dX11_difference_206 (by rw [hn]; decide) rfl ?_
            refine j_iload hX dX11_difference_207 2 rfl ?_
            refine j_if_lt hX 218 dX11_difference_209 (by decide) (fun c_209 => absurd c_209 (by decide)) (fun _ => ?_)
            refine j_iload_n hX dX11_difference_212 3 rfl ?_
            refine j_iconst (v := nI 1) hX dX11_difference_213 (by decide) ?_
            refine j_iadd hX dX11_difference_214 ?_
            refine j_eqi (y := nI (j + 1)) (nI_add j 1) ?_
            refine j_goto hX 219 dX11_difference_215 (by decide) ?_
            refine j_istore_n (lv' := [(3, .int (nI (j + 1))), (2, .int (nI i)), (4, .int (nI (n + 1))), (5, .int (nI 1)), (1, .int (nI r)), (0, .ref m)]) hX dX11_difference_219 (by rw [hn]; decide) rfl ?_
            refine j_goto hX 7 dX11_difference_220 (by decide) ?_
            refine j_sub (lv' := [(2, .int (nI i)), (3, .int (nI (j + 1))), (4, .int (nI (n + 1))), (1, .int (nI r)), (0, .ref m)]) [1, 0, 2, 4, 5] rfl ?_
            exact ih (i) (j + 1) (n + 1) (by omega) (by omega) (by omega) (hd)
          refine j_iload_n hX dX11_difference_7 0 rfl ?_
          refine j_aload_n hX dX11_difference_8 4 rfl ?_
          refine j_get (v := .ref (Q 10)) hX hS.1 rfl wf_X11 12 (by decide) lk_X11_41 (fun _ h => h) rfl dX11_difference_9 ?_
          refine j_iload_n hX dX11_difference_12 3 rfl ?_
          refine j_ialdN hX (show g (Q 10) = some (aI (xK X) 8 (F 10)) from hS.2.1 10 (by decide)) (r) (rfl) (hr) (by decide) dX11_difference_13 ?_
          refine j_eqi (y := nI O.length) (hO.1) ?_
          refine j_icmp_lt hX 27 dX11_difference_14 (by decide) (fun c_14 => absurd c_14 (nI_nlt2 (a := i) (b := O.length) (by omega) (by omega))) (fun _ => ?_)
          refine j_iload_n hX dX11_difference_17 1 rfl ?_
          refine j_aload_n hX dX11_difference_18 4 rfl ?_
          refine j_get (v := .ref (Q 13)) hX hS.1 rfl wf_X11 15 (by decide) lk_X11_50 (fun _ h => h) rfl dX11_difference_19 ?_
          refine j_iload_n hX dX11_difference_22 3 rfl ?_
          refine j_ialdN hX (show g (Q 13) = some (aI (xK X) 8 (F 13)) from hS.2.1 13 (by decide)) (r) (rfl) (hr) (by decide) dX11_difference_23 ?_
          refine j_eqi (y := nI N.length) (hN.1) ?_
          refine j_icmp_ge hX 223 dX11_difference_24 (by decide) (fun c_24 => absurd c_24 (nI_ge (a := j) (b := N.length) (by omega) (by omega))) (fun _ => ?_)
          refine j_iload_n hX dX11_difference_27 0 rfl ?_
          refine j_aload_n hX dX11_difference_28 4 rfl ?_
          refine j_get (v := .ref (Q 10)) hX hS.1 rfl wf_X11 12 (by decide) lk_X11_41 (fun _ h => h) rfl dX11_difference_29 ?_
          refine j_iload_n hX dX11_difference_32 3 rfl ?_
          refine j_ialdN hX (show g (Q 10) = some (aI (xK X) 8 (F 10)) from hS.2.1 10 (by decide)) (r) (rfl) (hr) (by decide) dX11_difference_33 ?_
          refine j_eqi (y := nI O.length) (hO.1) ?_
          refine j_icmp_ne hX 41 dX11_difference_34 (by decide) (fun c_34 => absurd c_34 (fun q => q (by rw [show i = O.length by omega]))) (fun _ => ?_)
          refine j_iconst (v := nI 1) hX dX11_difference_37 (by decide) ?_
          refine j_goto hX 56 dX11_difference_38 (by decide) ?_
          refine j_istore (lv' := [(5, .int (nI 1)), (2, .int (nI i)), (3, .int (nI j)), (4, .int (nI n)), (1, .int (nI r)), (0, .ref m)]) hX dX11_difference_56 (by rw [hn]; decide) rfl ?_
          refine j_iload hX dX11_difference_58 0 rfl ?_
          refine j_if_ne hX 67 dX11_difference_60 (by decide) (fun _ => ?_) (fun c_60 => absurd c_60 (by decide))
          refine j_iconst (v := nI 0) hX dX11_difference_67 (by decide) ?_
          refine j_istore (lv' := [(6, .int (nI 0)), (5, .int (nI 1)), (2, .int (nI i)), (3, .int (nI j)), (4, .int (nI n)), (1, .int (nI r)), (0, .ref m)]) hX dX11_difference_68 (by rw [hn]; decide) rfl ?_
          refine j_iconst (v := nI 0) hX dX11_difference_70 (by decide) ?_
          refine j_istore (lv' := [(7, .int (nI 0)), (6, .int (nI 0)), (5, .int (nI 1)), (2, .int (nI i)), (3, .int (nI j)), (4, .int (nI n)), (1, .int (nI r)), (0, .ref m)]) hX dX11_difference_71 (by rw [hn]; decide) rfl ?_
          refine j_iload hX dX11_difference_73 0 rfl ?_
          refine j_aload_n hX dX11_difference_75 7 rfl ?_
          refine j_get (v := .ref (Q 1)) hX hS.1 rfl wf_X11 2 (by decide) lk_X11_13 (fun _ h => h) rfl dX11_difference_76 ?_
          refine j_iload_n hX dX11_difference_79 6 rfl ?_
          refine j_ialdN hX (show g (Q 1) = some (aI (xK X) 8 (F 1)) from hS.2.1 1 (by decide)) (r) (rfl) (hr) (by decide) dX11_difference_80 ?_
          refine j_eqi (y := nI w) (hw) ?_
          refine j_icmp_ge hX 153 dX11_difference_81 (by decide) (fun c_81 => absurd c_81 (nI_ge (a := 0) (b := w) (by omega) (by omega))) (fun _ => ?_)
          refine j_iload hX dX11_difference_84 1 rfl ?_
          refine j_if_eq hX 153 dX11_difference_86 (by decide) (fun _ => ?_) (fun c_86 => absurd (by rfl) c_86)
          refine j_sub [2, 3, 4, 5, 6, 7] rfl ?_
          exact KP (by rw [hd, difI_end _ (Or.inl (by omega)), difI_end _ (Or.inl (by omega))]; omega)
        · skip
          refine j_iload_n hX dX11_difference_7 0 rfl ?_
          refine j_aload_n hX dX11_difference_8 4 rfl ?_
          refine j_get (v := .ref (Q 10)) hX hS.1 rfl wf_X11 12 (by decide) lk_X11_41 (fun _ h => h) rfl dX11_difference_9 ?_
          refine j_iload_n hX dX11_difference_12 3 rfl ?_
          refine j_ialdN hX (show g (Q 10) = some (aI (xK X) 8 (F 10)) from hS.2.1 10 (by decide)) (r) (rfl) (hr) (by decide) dX11_difference_13 ?_
          refine j_eqi (y := nI O.length) (hO.1) ?_
          refine j_icmp_lt hX 27 dX11_difference_14 (by decide) (fun c_14 => absurd c_14 (nI_nlt2 (a := i) (b := O.length) (by omega) (by omega))) (fun _ => ?_)
          refine j_iload_n hX dX11_difference_17 1 rfl ?_
          refine j_aload_n hX dX11_difference_18 4 rfl ?_
          refine j_get (v := .ref (Q 13)) hX hS.1 rfl wf_X11 15 (by decide) lk_X11_50 (fun _ h => h) rfl dX11_difference_19 ?_
          refine j_iload_n hX dX11_difference_22 3 rfl ?_
          refine j_ialdN hX (show g (Q 13) = some (aI (xK X) 8 (F 13)) from hS.2.1 13 (by decide)) (r) (rfl) (hr) (by decide) dX11_difference_23 ?_
          refine j_eqi (y := nI N.length) (hN.1) ?_
          refine j_icmp_ge hX 223 dX11_difference_24 (by decide) (fun _ => ?_) (fun c_24 => absurd (nI_le (a := N.length) (b := j) (by omega) (by omega)) c_24)
          refine j_iload hX dX11_difference_223 2 rfl ?_
          exact j_iret hX hE dX11_difference_225 (⟨by rw [show n = dif O N by rw [hd, difI_end _ (Or.inl (by omega))]; omega], rfl⟩) (by decide) (by decide)
  refine j_iconst (v := nI 0) hX dX11_difference_0 (by decide) ?_
  refine j_istore_n (lv' := [(2, .int (nI 0)), (0, .ref m), (1, .int (nI r))]) hX dX11_difference_1 (by rw [hn]; decide) rfl ?_
  refine j_iconst (v := nI 0) hX dX11_difference_2 (by decide) ?_
  refine j_istore_n (lv' := [(3, .int (nI 0)), (2, .int (nI 0)), (0, .ref m), (1, .int (nI r))]) hX dX11_difference_3 (by rw [hn]; decide) rfl ?_
  refine j_iconst (v := nI 0) hX dX11_difference_4 (by decide) ?_
  refine j_istore (lv' := [(4, .int (nI 0)), (3, .int (nI 0)), (2, .int (nI 0)), (0, .ref m), (1, .int (nI r))]) hX dX11_difference_5 (by rw [hn]; decide) rfl ?_
  refine j_sub (lv' := [(2, .int (nI 0)), (3, .int (nI 0)), (4, .int (nI 0)), (1, .int (nI r)), (0, .ref m)]) [2, 1, 0, 4, 3] rfl ?_
  exact loop (O.length + N.length) 0 0 0 (by omega) (by omega) (by omega) (by unfold dif; omega)

set_option maxRecDepth 20000 in
set_option maxHeartbeats 600000 in
/-- timesHere(r) -/
theorem c_X11_timesHere (l : Launch) (K : Cst) (g : Wd) (m : Nat) (Q : Nat → Nat) (th oc fi : Int32) (F : Nat → Nat → Int32) (hS : RS K g m Q th oc fi F) (r w : Nat) (Bs : Nat → Bg) (hr : r < 8) (hw : F 1 r = nI w) (hw1 : 1 ≤ w) (hw4 : w ≤ 4) (hO : ∀ q, q < 8 → OB F q (Bs q)) (kO : wk w (Bs r)) (T : Row) (hT : T = truncR w (rowAt (F 14) 0)) : Ct l K yX11_timesHere cX11_timesHere 5 (some .int) 0 [.ref m, .int (nI r)] g (fun v g' => v = some (.int (nI (tms (Bs r) T))) ∧ ∃ F', RS K g' m Q th oc fi F' ∧ ∀ j, j ≠ 13 → F' j = F j) (fun _ _ => False) 0 0 := by
  refine ct_of (by decide) (Nat.le_of_ble_eq_true rfl) ?_
  intro X hl hK hX hE hn hL hR hm
  subst hl; subst hK
  show J X 0 0 g 0 [(0, .ref m), (1, .int (nI r))] []
  have hl := kO.2.2.1
  have loop : ∀ (n x : Nat) (G : Nat → Nat → Int32) (g9 : Wd), x + n = 8 → RS (xK X) g9 m Q th oc fi G → (∀ j, j ≠ 13 → G j = F j) → J X 0 0 g9 2 [(2, .int (nI x)), (1, .int (nI r)), (0, .ref m)] [] := by
    intro n
    induction n with
    | zero =>
      intro x G g9 hx8 hG hK
      refine j_iload_n hX dX11_timesHere_2 0 rfl ?_
      refine j_bipush (v := nI 8) hX dX11_timesHere_3 (by decide) ?_
      refine j_icmp_ge hX 26 dX11_timesHere_5 (by decide) (fun _ => ?_) (fun c_5 => absurd (nI_le (a := 8) (b := x) (by omega) (by omega)) c_5)
      refine j_iconst (v := nI 0) hX dX11_timesHere_26 (by decide) ?_
      refine j_istore_n (lv' := [(2, .int (nI 0)), (1, .int (nI r)), (0, .ref m)]) hX dX11_timesHere_27 (by rw [hn]; decide) rfl ?_
      have srch : ∀ (n k : Nat), k + n = (Bs r).length → (∀ (i : Nat) (x : Row × Nat), i < k → (Bs r)[i]? = some x → x.1 ≠ T) → J X 0 0 g9 28 [(2, .int (nI k)), (1, .int (nI r)), (0, .ref m)] [] := by
        intro n
        induction n with
        | zero =>
          intro k hk9 hno
          refine j_iload_n hX dX11_timesHere_28 0 rfl ?_
          refine j_aload_n hX dX11_timesHere_29 2 rfl ?_
          refine j_get (v := .ref (Q 10)) hX hG.1 rfl wf_X11 12 (by decide) lk_X11_41 (fun _ h => h) rfl dX11_timesHere_30 ?_
          refine j_iload_n hX dX11_timesHere_33 1 rfl ?_
          refine j_ialdN hX (show g9 (Q 10) = some (aI (xK X) 8 (G 10)) from hG.2.1 10 (by decide)) (r) (rfl) (hr) (by decide) dX11_timesHere_34 ?_
          refine j_eqi (y := nI (Bs r).length) (by rw [hK 10 (by decide)]; exact (hO r hr).1) ?_
          refine j_icmp_ge hX 118 dX11_timesHere_35 (by decide) (fun _ => ?_) (fun c_35 => absurd (nI_le (a := (Bs r).length) (b := k) (by omega) (by omega)) c_35)
          refine j_iconst (v := nI 0) hX dX11_timesHere_118 (by decide) ?_
          exact j_iret hX hE dX11_timesHere_119 (⟨by rw [tms_no (fun i x hx => hno i x (by have := rep_lt hx; omega) hx)], G, hG, hK⟩) (by decide) (by decide)
        | succ n ih =>
          intro k hk9 hno
          have hk : k < (Bs r).length := by omega
          have no : ∀ c : Nat, ((Bs r)[k]).1 ≠ T → J X 0 0 g9 43 [(4, .int (nI c)), (3, .int (nI 0)), (2, .int (nI k)), (1, .int (nI r)), (0, .ref m)] [] := by
            intro c hne
            refine j_iload_n hX dX11_timesHere_43 1 rfl ?_
            refine j_if_eq hX 96 dX11_timesHere_44 (by decide) (fun _ => ?_) (fun c_44 => absurd (by rfl) c_44)
            refine j_iload_n hX dX11_timesHere_96 1 rfl ?_
            refine j_if_eq hX 112 dX11_timesHere_97 (by decide) (fun _ => ?_) (fun c_97 => absurd (by rfl) c_97)
            refine j_iinc (v := nI (k + 1)) (lv' := [(2, .int (nI (k + 1))), (4, .int (nI c)), (3, .int (nI 0)), (1, .int (nI r)), (0, .ref m)]) hX dX11_timesHere_112 2 rfl (nI_1 k) (by rw [hn]; decide) rfl ?_
            refine j_goto hX 28 dX11_timesHere_115 (by decide) ?_
            refine j_sub [0, 3, 4] rfl ?_
            exact ih (k + 1) (by omega) (fun i x hi hx => by
              rcases Nat.lt_or_ge i k with q | q
              · exact hno i x q hx
              · obtain rfl : i = k := by omega
                rw [List.getElem?_eq_getElem hk] at hx; cases hx
                exact hne)
          have inner : ∀ (q c : Nat), c + q = w → (∀ z, z < c → cellR ((Bs r)[k]).1 z = cellR (rowAt (F 14) 0) z) → J X 0 0 g9 43 [(4, .int (nI c)), (3, .int (nI 1)), (2, .int (nI k)), (1, .int (nI r)), (0, .ref m)] [] := by
            intro q
            induction q with
            | zero =>
              intro c hc he
              refine j_iload_n hX dX11_timesHere_43 1 rfl ?_
              refine j_if_eq hX 96 dX11_timesHere_44 (by decide) (fun c_44 => absurd c_44 (by decide)) (fun _ => ?_)
              refine j_iload hX dX11_timesHere_47 0 rfl ?_
              refine j_aload_n hX dX11_timesHere_49 4 rfl ?_
              refine j_get (v := .ref (Q 1)) hX hG.1 rfl wf_X11 2 (by decide) lk_X11_13 (fun _ h => h) rfl dX11_timesHere_50 ?_
              refine j_iload_n hX dX11_timesHere_53 3 rfl ?_
              refine j_ialdN hX (show g9 (Q 1) = some (aI (xK X) 8 (G 1)) from hG.2.1 1 (by decide)) (r) (rfl) (hr) (by decide) dX11_timesHere_54 ?_
              refine j_eqi (y := nI w) (by rw [hK 1 (by decide)]; exact hw) ?_
              refine j_icmp_ge hX 96 dX11_timesHere_55 (by decide) (fun _ => ?_) (fun c_55 => absurd (nI_le (a := w) (b := c) (by omega) (by omega)) c_55)
              refine j_iload_n hX dX11_timesHere_96 1 rfl ?_
              refine j_if_eq hX 112 dX11_timesHere_97 (by decide) (fun c_97 => absurd c_97 (by decide)) (fun _ => ?_)
              refine j_aload_n hX dX11_timesHere_100 4 rfl ?_
              refine j_get (v := .ref (Q 9)) hX hG.1 rfl wf_X11 11 (by decide) lk_X11_38 (fun _ h => h) rfl dX11_timesHere_101 ?_
              refine j_bipush (v := nI 20) hX dX11_timesHere_104 (by decide) ?_
              refine j_iload_n hX dX11_timesHere_106 3 rfl ?_
              refine j_imul hX dX11_timesHere_107 ?_
              refine j_iload_n hX dX11_timesHere_108 2 rfl ?_
              refine j_iadd hX dX11_timesHere_109 ?_
              refine j_eqi (y := nI (20 * r + k)) (ix20 r k) ?_
              refine j_ialdN hX (show g9 (Q 9) = some (aI (xK X) 512 (G 9)) from hG.2.1 9 (by decide)) (20 * r + k) (rfl) (by omega) (by decide) dX11_timesHere_110 ?_
              refine j_eqi (y := nI ((Bs r)[k]).2) (by rw [hK 9 (by decide)]; exact repA_time (hO r hr).2 hk) ?_
              exact j_iret hX hE dX11_timesHere_111 (⟨by rw [show T = ((Bs r)[k]).1 from hT.trans (trunc_eq hw1 (kO.2.1 _ (List.getElem_mem hk)) (fun z h1 h2 => he z (by omega))).symm, tms_at kO.1 (List.getElem?_eq_getElem hk)], G, hG, hK⟩) (by decide) (by decide)
            | succ q ihc =>
              intro c hc he
              refine j_iload_n hX dX11_timesHere_43 1 rfl ?_
              refine j_if_eq hX 96 dX11_timesHere_44 (by decide) (fun c_44 => absurd c_44 (by decide)) (fun _ => ?_)
              refine j_iload hX dX11_timesHere_47 0 rfl ?_
              refine j_aload_n hX dX11_timesHere_49 4 rfl ?_
              refine j_get (v := .ref (Q 1)) hX hG.1 rfl wf_X11 2 (by decide) lk_X11_13 (fun _ h => h) rfl dX11_timesHere_50 ?_
              refine j_iload_n hX dX11_timesHere_53 3 rfl ?_
              refine j_ialdN hX (show g9 (Q 1) = some (aI (xK X) 8 (G 1)) from hG.2.1 1 (by decide)) (r) (rfl) (hr) (by decide) dX11_timesHere_54 ?_
              refine j_eqi (y := nI w) (by rw [hK 1 (by decide)]; exact hw) ?_
              refine j_icmp_ge hX 96 dX11_timesHere_55 (by decide) (fun c_55 => absurd c_55 (nI_ge (a := c) (b := w) (by omega) (by omega))) (fun _ => ?_)
              refine j_aload_n hX dX11_timesHere_58 4 rfl ?_
              refine j_get (v := .ref (Q 8)) hX hG.1 rfl wf_X11 10 (by decide) lk_X11_35 (fun _ h => h) rfl dX11_timesHere_59 ?_
              refine j_iconst (v := nI 4) hX dX11_timesHere_62 (by decide) ?_
              refine j_bipush (v := nI 20) hX dX11_timesHere_63 (by decide) ?_
              refine j_iload_n hX dX11_timesHere_65 3 rfl ?_
              refine j_imul hX dX11_timesHere_66 ?_
              refine j_iload_n hX dX11_timesHere_67 2 rfl ?_
              refine j_iadd hX dX11_timesHere_68 ?_
              refine j_eqi (y := nI (20 * r + k)) (ix20 r k) ?_
              refine j_imul hX dX11_timesHere_69 ?_
              refine j_iload hX dX11_timesHere_70 0 rfl ?_
              refine j_iadd hX dX11_timesHere_72 ?_
              refine j_eqi (y := nI (80 * r + 4 * k + c)) (ix80 r k c) ?_
              refine j_ialdN hX (show g9 (Q 8) = some (aI (xK X) 2048 (G 8)) from hG.2.1 8 (by decide)) (80 * r + 4 * k + c) (rfl) (by omega) (by decide) dX11_timesHere_73 ?_
              refine j_eqi (y := cellR ((Bs r)[k]).1 c) (by rw [hK 8 (by decide)]; exact repA_cell (hO r hr).2 hk (by omega)) ?_
              refine j_aload_n hX dX11_timesHere_74 4 rfl ?_
              refine j_get (v := .ref (Q 14)) hX hG.1 rfl wf_X11 17 (by decide) lk_X11_53 (fun _ h => h) rfl dX11_timesHere_75 ?_
              refine j_iload hX dX11_timesHere_78 0 rfl ?_
              refine j_ialdN hX (show g9 (Q 14) = some (aI (xK X) 4 (G 14)) from hG.2.1 14 (by decide)) (c) (rfl) (by omega) (by decide) dX11_timesHere_80 ?_
              refine j_eqi (y := cellR (rowAt (F 14) 0) c) (by rw [hK 14 (by decide)]; exact rowAt_cell (by omega)) ?_
              refine j_icmp_ne hX 88 dX11_timesHere_81 (by decide) (fun c_81 => ?_) (fun c_81 => ?_)
              · refine j_iconst (v := nI 0) hX dX11_timesHere_88 (by decide) ?_
                refine j_istore_n (lv' := [(3, .int (nI 0)), (4, .int (nI c)), (2, .int (nI k)), (1, .int (nI r)), (0, .ref m)]) hX dX11_timesHere_89 (by rw [hn]; decide) rfl ?_
                refine j_iinc (v := nI (c + 1)) (lv' := [(4, .int (nI (c + 1))), (3, .int (nI 0)), (2, .int (nI k)), (1, .int (nI r)), (0, .ref m)]) hX dX11_timesHere_90 1 rfl (nI_1 c) (by rw [hn]; decide) rfl ?_
                refine j_goto hX 43 dX11_timesHere_93 (by decide) ?_
                refine j_sub [0, 1, 2, 3, 4] rfl ?_
                exact no (c + 1) (fun q => c_81 (by rw [q, hT, cellR_trunc hw1 (by omega), if_pos (by omega)]))
              · refine j_iconst (v := nI 1) hX dX11_timesHere_84 (by decide) ?_
                refine j_goto hX 89 dX11_timesHere_85 (by decide) ?_
                refine j_istore_n (lv' := [(3, .int (nI 1)), (4, .int (nI c)), (2, .int (nI k)), (1, .int (nI r)), (0, .ref m)]) hX dX11_timesHere_89 (by rw [hn]; decide) rfl ?_
                refine j_iinc (v := nI (c + 1)) (lv' := [(4, .int (nI (c + 1))), (3, .int (nI 1)), (2, .int (nI k)), (1, .int (nI r)), (0, .ref m)]) hX dX11_timesHere_90 1 rfl (nI_1 c) (by rw [hn]; decide) rfl ?_
                refine j_goto hX 43 dX11_timesHere_93 (by decide) ?_
                refine j_sub [0, 1, 2, 3, 4] rfl ?_
                exact ihc (c + 1) (by omega) (fun z hz => by
                  rcases Nat.lt_or_ge z c with q | q
                  · exact he z q
                  · rw [show z = c by omega]; exact c_81)
          refine j_iload_n hX dX11_timesHere_28 0 rfl ?_
          refine j_aload_n hX dX11_timesHere_29 2 rfl ?_
          refine j_get (v := .ref (Q 10)) hX hG.1 rfl wf_X11 12 (by decide) lk_X11_41 (fun _ h => h) rfl dX11_timesHere_30 ?_
          refine j_iload_n hX dX11_timesHere_33 1 rfl ?_
          refine j_ialdN hX (show g9 (Q 10) = some (aI (xK X) 8 (G 10)) from hG.2.1 10 (by decide)) (r) (rfl) (hr) (by decide) dX11_timesHere_34 ?_
          refine j_eqi (y := nI (Bs r).length) (by rw [hK 10 (by decide)]; exact (hO r hr).1) ?_
          refine j_icmp_ge hX 118 dX11_timesHere_35 (by decide) (fun c_35 => absurd c_35 (nI_ge (a := k) (b := (Bs r).length) (by omega) (by omega))) (fun _ => ?_)
          refine j_iconst (v := nI 1) hX dX11_timesHere_38 (by decide) ?_
          refine j_istore_n (lv' := [(3, .int (nI 1)), (2, .int (nI k)), (1, .int (nI r)), (0, .ref m)]) hX dX11_timesHere_39 (by rw [hn]; decide) rfl ?_
          refine j_iconst (v := nI 0) hX dX11_timesHere_40 (by decide) ?_
          refine j_istore (lv' := [(4, .int (nI 0)), (3, .int (nI 1)), (2, .int (nI k)), (1, .int (nI r)), (0, .ref m)]) hX dX11_timesHere_41 (by rw [hn]; decide) rfl ?_
          refine j_sub (lv' := [(4, .int (nI 0)), (3, .int (nI 1)), (2, .int (nI k)), (1, .int (nI r)), (0, .ref m)]) [0, 1, 2, 3, 4] rfl ?_
          exact inner w 0 (by omega) (fun z hz => absurd hz (by omega))
      refine j_sub (lv' := [(2, .int (nI 0)), (1, .int (nI r)), (0, .ref m)]) [0, 1, 2] rfl ?_
      exact srch (Bs r).length 0 (by omega) (fun i x hi => absurd hi (by omega))
    | succ n ih =>
      intro x G g9 hx8 hG hK
      refine j_iload_n hX dX11_timesHere_2 0 rfl ?_
      refine j_bipush (v := nI 8) hX dX11_timesHere_3 (by decide) ?_
      refine j_icmp_ge hX 26 dX11_timesHere_5 (by decide) (fun c_5 => absurd c_5 (nI_ge (a := x) (b := 8) (by omega) (by decide))) (fun _ => ?_)
      refine j_aload_n hX dX11_timesHere_8 2 rfl ?_
      refine j_get (v := .ref (Q 13)) hX hG.1 rfl wf_X11 15 (by decide) lk_X11_50 (fun _ h => h) rfl dX11_timesHere_9 ?_
      refine j_iload_n hX dX11_timesHere_12 0 rfl ?_
      refine j_aload_n hX dX11_timesHere_13 2 rfl ?_
      refine j_get (v := .ref (Q 10)) hX hG.1 rfl wf_X11 12 (by decide) lk_X11_41 (fun _ h => h) rfl dX11_timesHere_14 ?_
      refine j_iload_n hX dX11_timesHere_17 0 rfl ?_
      refine j_ialdN hX (show g9 (Q 10) = some (aI (xK X) 8 (G 10)) from hG.2.1 10 (by decide)) (x) (rfl) (by omega) (by decide) dX11_timesHere_18 ?_
      refine j_iastN hX (show g9 (Q 13) = some (aI (xK X) 8 (G 13)) from hG.2.1 13 (by decide)) (x) (rfl) (by omega) (by decide) dX11_timesHere_19 ?_
      obtain ⟨gc1, egc1⟩ : ∃ z : Wd, z = up g9 (Q 13) (aI (xK X) 8 (upd (G 13) (x) (G 10 (x)))) := ⟨_, rfl⟩
      refine j_w egc1.symm ?_
      obtain ⟨Fc1, eFc1⟩ : ∃ z, z = fu G 13 (upd (G 13) (x) (G 10 (x))) := ⟨_, rfl⟩
      have hSc1 : RS (xK X) gc1 m Q th oc fi Fc1 := by rw [egc1, eFc1]; exact hG.put 13 (by decide) _
      refine j_iinc (v := nI (x + 1)) (lv' := [(2, .int (nI (x + 1))), (1, .int (nI r)), (0, .ref m)]) hX dX11_timesHere_20 0 rfl (nI_1 x) (by rw [hn]; decide) rfl ?_
      refine j_goto hX 2 dX11_timesHere_23 (by decide) ?_
      refine j_sub [0, 1, 2] rfl ?_
      exact ih (x + 1) Fc1 gc1 (by omega) hSc1 (fun j hj => by rw [eFc1, fu_n hj]; exact hK j hj)
  refine j_iconst (v := nI 0) hX dX11_timesHere_0 (by decide) ?_
  refine j_istore_n (lv' := [(2, .int (nI 0)), (0, .ref m), (1, .int (nI r))]) hX dX11_timesHere_1 (by rw [hn]; decide) rfl ?_
  refine j_sub (lv' := [(2, .int (nI 0)), (1, .int (nI r)), (0, .ref m)]) [0, 2, 1] rfl ?_
  exact loop 8 0 F g (by omega) hS (fun _ _ => rfl)

