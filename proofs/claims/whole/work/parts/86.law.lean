set_option maxRecDepth 20000 in
set_option maxHeartbeats 1600000 in
theorem law_table (l : Launch) (hlt : l.stackTraces = false) (X : Cx) (hX : OK X cL_law RL) (hl : xl X = l) (hn : xn X = 8) (hL : xlev X = 11) (hR : xR X = room_1) (hk0 : ∀ q, kF (xK X) q = none) (b L : Nat) (sc : Nat → Int32) (hsc : Scr X b L sc) (hL9 : L ≤ 3584) (x m oo nn : Nat) (hnn : 7 * nn + 7 ≤ L) (g : Wd) (A : Ab) (Y : Lt) (ch : Nat → Int32) (N : Nat → Bg) (Q : Nat → Nat) (th fi : Int32) (F : Nat → Nat → Int32) (Od : List Nat) (f : Nat → Int64) (hC : CS (xK X) g x A Y ch (fun _ => 0) N) (hS : RS (xK X) g m Q th (nI Od.length) fi F) (hA : RA A Od F) (hd : ∀ q, isM m Q q → ZN x A Y q) (ho : g oo = some (aJ (xK X) 1 f)) (hI : Inv A) (KEND : ∀ (g : Wd) (A : Ab) (Y : Lt) (ch : Nat → Int32) (N : Nat → Bg) (Q : Nat → Nat) (th fi : Int32) (F : Nat → Nat → Int32) (Od : List Nat) (f : Nat → Int64), CS (xK X) g x A Y ch (fun _ => 0) N → RS (xK X) g m Q th (nI Od.length) fi F → RA A Od F → (∀ q, isM m Q q → ZN x A Y q) → g oo = some (aJ (xK X) 1 f) → Inv A → J X (200 + 20 * (nn + 1)) (8000 + 80 * (nn + 1)) g 1423 [(4, .int (nI (7 * nn))), (3, .ref oo), (2, .ref m), (1, .ref x), (0, .ref b)] []) : J X (200 + 20 * nn) (8000 + 80 * nn) g 124 [(4, .int (nI (7 * nn))), (3, .ref oo), (2, .ref m), (1, .ref x), (0, .ref b)] [] := by
  subst hl
  have hrc : room_1.cells = 601024 := rfl
  have hrs : room_1.slots = 7293034 := rfl
  have hnb : nn ≤ 512 := by omega
  have hzo : ZN x A Y oo := hC.znJ ho
  refine j_aload_n hX dL_law_124 3 rfl ?_
  refine j_aload_n hX dL_law_125 4 rfl ?_
  refine j_iload hX dL_law_126 0 rfl ?_
  refine j_iconst (v := nI 1) hX dL_law_128 (by decide) ?_
  refine j_iadd hX dL_law_129 ?_
  refine j_eqi (y := nI (7 * nn + 1)) (nI_add _ 1) ?_
  refine j_sld hX hsc (7 * nn + 1) (rfl) (by omega) (by omega) dL_law_130 ?_
  refine j_aload_n hX dL_law_131 4 rfl ?_
  refine j_iload hX dL_law_132 0 rfl ?_
  refine j_iconst (v := nI 2) hX dL_law_134 (by decide) ?_
  refine j_iadd hX dL_law_135 ?_
  refine j_eqi (y := nI (7 * nn + 2)) (nI_add _ 2) ?_
  refine j_sld hX hsc (7 * nn + 2) (rfl) (by omega) (by omega) dL_law_136 ?_
  refine j_callSH (As := [.ref x, .int (sc (7 * nn + 1)), .int (sc (7 * nn + 2))]) (rest := []) hX (CtH.re (c_L_table (xl X) (reF (xK X) (frm (fun q => ZN x A Y q) g)) g hlt x A Y ch N (hC.frm (fun q hq => hq)) hI (sc (7 * nn + 1)) (sc (7 * nn + 2)))) lk_L_83 wS_L_table wN_L wH_L_table hd_L_table.2 rfl (by rw [hL]; decide) (by decide) rfl (Nat.le_of_ble_eq_true rfl) dL_law_137 (by rw [hR]; omega) (by rw [hR]; omega) jx_no ?_
  rintro _ g1 ⟨k1, A1, rfl, hO1, Y1, ch1, N1, hC1⟩
  have ho1 := hC1.fr.1 oo _ (frm_get hzo ho)
  obtain ⟨hC1, hS1, hd1⟩ := law_c hk0 hS (P := (fun q => ZN x A Y q)) hd hC1
  have hI1 := tabO_inv hI hO1
  show J X ((200 + 20 * nn) + 3) ((8000 + 80 * nn) + 18) g1 140 [(4, .int (nI (7 * nn))), (3, .ref oo), (2, .ref m), (1, .ref x), (0, .ref b)] [.int (nI k1)]
  refine j_istore (lv' := [(5, .int (nI k1)), (4, .int (nI (7 * nn))), (3, .ref oo), (2, .ref m), (1, .ref x), (0, .ref b)]) hX dL_law_140 (by rw [hn]; decide) rfl ?_
  refine j_aload_n hX dL_law_142 3 rfl ?_
  refine j_aload_n hX dL_law_143 5 rfl ?_
  refine j_iload hX dL_law_144 1 rfl ?_
  refine j_iconst (v := nI 1) hX dL_law_146 (by decide) ?_
  refine j_iadd hX dL_law_147 ?_
  refine j_eqi (y := nI (7 * nn + 1)) (nI_add _ 1) ?_
  refine j_sld hX hsc (7 * nn + 1) (rfl) (by omega) (by omega) dL_law_148 ?_
  refine j_aload_n hX dL_law_149 5 rfl ?_
  refine j_iload hX dL_law_150 1 rfl ?_
  refine j_iconst (v := nI 2) hX dL_law_152 (by decide) ?_
  refine j_iadd hX dL_law_153 ?_
  refine j_eqi (y := nI (7 * nn + 2)) (nI_add _ 2) ?_
  refine j_sld hX hsc (7 * nn + 2) (rfl) (by omega) (by omega) dL_law_154 ?_
  refine j_callV (As := [.int (sc (7 * nn + 1)), .int (sc (7 * nn + 2))]) (rest := []) hX (Ct.re (c_X11_table (xl X) (reF (xK X) (frm (fun q => ¬ isM m Q q) g1)) g1 m Q th fi F Od hS1.frm A hI hA (sc (7 * nn + 1)) (sc (7 * nn + 2)))) hS1.1 rfl lk_L_88 wI_X11_table wV_X11_X11_table wN_X11 wC_X11_table hd_X11_table rfl (by rw [hL]; decide) (by decide) rfl (Nat.le_of_ble_eq_true rfl) dL_law_155 (by rw [hR]; omega) (by rw [hR]; omega) jx_no ?_
  rintro _ g2 ⟨rfl, k2, A2, hO2, Q2, Od2, fi2, F2, hS2, hA2⟩
  obtain ⟨hC2, hS2, hd2, hkp⟩ := law_m hk0 hC1 hd1 hS2
  obtain ⟨ek, eA⟩ := detU hO1 hO2
  rw [← ek] at hS2
  rw [← eA] at hA2
  have ho2 := hkp oo _ ho1 (hS1.noJ ho1)
  show J X ((200 + 20 * nn) + 3) ((8000 + 80 * nn) + 18) g2 158 [(5, .int (nI k1)), (4, .int (nI (7 * nn))), (3, .ref oo), (2, .ref m), (1, .ref x), (0, .ref b)] []
  refine j_aload_n hX dL_law_158 3 rfl ?_
  refine j_callV (As := []) (rest := []) hX (c_X11_thrown (xl X) (xK X) g2 m Q2 (nI k1) (nI Od2.length) fi2 F2 hS2) hS2.1 rfl lk_L_89 wI_X11_thrown wV_X11_X11_thrown wN_X11 wC_X11_thrown hd_X11_thrown rfl (by rw [hL]; decide) (by decide) rfl (Nat.le_of_ble_eq_true rfl) dL_law_159 (by rw [hR]; omega) (by rw [hR]; omega) jx_no ?_
  rintro _ _ ⟨rfl, rfl⟩
  show J X ((200 + 20 * nn) + 3) ((8000 + 80 * nn) + 18) g2 162 [(5, .int (nI k1)), (4, .int (nI (7 * nn))), (3, .ref oo), (2, .ref m), (1, .ref x), (0, .ref b)] [.int (nI k1)]
  refine j_iload hX dL_law_162 0 rfl ?_
  refine j_icmp_eq hX 169 dL_law_164 (by decide) (fun _ => ?_) (fun c_164 => absurd (by rfl) c_164)
  refine j_goto hX 1423 dL_law_169 (by decide) ?_
  refine J.mono (kc' := 200 + 20 * (nn + 1)) (ks' := 8000 + 80 * (nn + 1)) ?_ (by omega) (by omega)
  refine j_sub [1, 2, 3, 4, 5] rfl ?_
  exact KEND g2 A1 Y1 ch1 N1 Q2 _ fi2 F2 Od2 f hC2 hS2 hA2 hd2 ho2 hI1

set_option maxRecDepth 20000 in
set_option maxHeartbeats 1600000 in
theorem law_select (l : Launch) (hlt : l.stackTraces = false) (X : Cx) (hX : OK X cL_law RL) (hl : xl X = l) (hn : xn X = 8) (hL : xlev X = 11) (hR : xR X = room_1) (hk0 : ∀ q, kF (xK X) q = none) (b L : Nat) (sc : Nat → Int32) (hsc : Scr X b L sc) (hL9 : L ≤ 3584) (x m oo nn : Nat) (hnn : 7 * nn + 7 ≤ L) (g : Wd) (A : Ab) (Y : Lt) (ch : Nat → Int32) (N : Nat → Bg) (Q : Nat → Nat) (th fi : Int32) (F : Nat → Nat → Int32) (Od : List Nat) (f : Nat → Int64) (hC : CS (xK X) g x A Y ch (fun _ => 0) N) (hS : RS (xK X) g m Q th (nI Od.length) fi F) (hA : RA A Od F) (hd : ∀ q, isM m Q q → ZN x A Y q) (ho : g oo = some (aJ (xK X) 1 f)) (hI : Inv A) (KEND : ∀ (g : Wd) (A : Ab) (Y : Lt) (ch : Nat → Int32) (N : Nat → Bg) (Q : Nat → Nat) (th fi : Int32) (F : Nat → Nat → Int32) (Od : List Nat) (f : Nat → Int64), CS (xK X) g x A Y ch (fun _ => 0) N → RS (xK X) g m Q th (nI Od.length) fi F → RA A Od F → (∀ q, isM m Q q → ZN x A Y q) → g oo = some (aJ (xK X) 1 f) → Inv A → J X (200 + 20 * (nn + 1)) (8000 + 80 * (nn + 1)) g 1423 [(4, .int (nI (7 * nn))), (3, .ref oo), (2, .ref m), (1, .ref x), (0, .ref b)] []) : J X (200 + 20 * nn) (8000 + 80 * nn) g 172 [(4, .int (nI (7 * nn))), (3, .ref oo), (2, .ref m), (1, .ref x), (0, .ref b)] [] := by
  subst hl
  have hrc : room_1.cells = 601024 := rfl
  have hrs : room_1.slots = 7293034 := rfl
  have hnb : nn ≤ 512 := by omega
  have hzo : ZN x A Y oo := hC.znJ ho
  refine j_aload_n hX dL_law_172 3 rfl ?_
  refine j_aload_n hX dL_law_173 4 rfl ?_
  refine j_iload hX dL_law_174 0 rfl ?_
  refine j_iconst (v := nI 1) hX dL_law_176 (by decide) ?_
  refine j_iadd hX dL_law_177 ?_
  refine j_eqi (y := nI (7 * nn + 1)) (nI_add _ 1) ?_
  refine j_sld hX hsc (7 * nn + 1) (rfl) (by omega) (by omega) dL_law_178 ?_
  refine j_aload_n hX dL_law_179 4 rfl ?_
  refine j_iload hX dL_law_180 0 rfl ?_
  refine j_iconst (v := nI 2) hX dL_law_182 (by decide) ?_
  refine j_iadd hX dL_law_183 ?_
  refine j_eqi (y := nI (7 * nn + 2)) (nI_add _ 2) ?_
  refine j_sld hX hsc (7 * nn + 2) (rfl) (by omega) (by omega) dL_law_184 ?_
  refine j_aload_n hX dL_law_185 4 rfl ?_
  refine j_iload hX dL_law_186 0 rfl ?_
  refine j_iconst (v := nI 3) hX dL_law_188 (by decide) ?_
  refine j_iadd hX dL_law_189 ?_
  refine j_eqi (y := nI (7 * nn + 3)) (nI_add _ 3) ?_
  refine j_sld hX hsc (7 * nn + 3) (rfl) (by omega) (by omega) dL_law_190 ?_
  refine j_aload_n hX dL_law_191 4 rfl ?_
  refine j_iload hX dL_law_192 0 rfl ?_
  refine j_iconst (v := nI 4) hX dL_law_194 (by decide) ?_
  refine j_iadd hX dL_law_195 ?_
  refine j_eqi (y := nI (7 * nn + 4)) (nI_add _ 4) ?_
  refine j_sld hX hsc (7 * nn + 4) (rfl) (by omega) (by omega) dL_law_196 ?_
  refine j_aload_n hX dL_law_197 4 rfl ?_
  refine j_iload hX dL_law_198 0 rfl ?_
  refine j_iconst (v := nI 5) hX dL_law_200 (by decide) ?_
  refine j_iadd hX dL_law_201 ?_
  refine j_eqi (y := nI (7 * nn + 5)) (nI_add _ 5) ?_
  refine j_sld hX hsc (7 * nn + 5) (rfl) (by omega) (by omega) dL_law_202 ?_
  refine j_aload_n hX dL_law_203 4 rfl ?_
  refine j_iload hX dL_law_204 0 rfl ?_
  refine j_bipush (v := nI 6) hX dL_law_206 (by decide) ?_
  refine j_iadd hX dL_law_208 ?_
  refine j_eqi (y := nI (7 * nn + 6)) (nI_add _ 6) ?_
  refine j_sld hX hsc (7 * nn + 6) (rfl) (by omega) (by omega) dL_law_209 ?_
  refine j_if_eq hX 217 dL_law_210 (by decide) (fun c_210 => ?_) (fun c_210 => ?_)
  · refine j_iconst (v := b01 false) hX dL_law_217 (by decide) ?_
    refine j_callSH (As := [.ref x, .int (sc (7 * nn + 1)), .int (sc (7 * nn + 2)), .int (sc (7 * nn + 3)), .int (sc (7 * nn + 4)), .int (sc (7 * nn + 5)), .int (b01 false)]) (rest := []) hX (CtH.re (c_L_select (xl X) (reF (xK X) (frm (fun q => ZN x A Y q) g)) g hlt x A Y ch N (hC.frm (fun q hq => hq)) hI (sc (7 * nn + 1)) (sc (7 * nn + 2)) (sc (7 * nn + 3)) (sc (7 * nn + 4)) (sc (7 * nn + 5)) false)) lk_L_93 wS_L_select wN_L wH_L_select hd_L_select.2 rfl (by rw [hL]; decide) (by decide) rfl (Nat.le_of_ble_eq_true rfl) dL_law_218 (by rw [hR]; omega) (by rw [hR]; omega) jx_no ?_
    rintro _ g1 ⟨k1, A1, rfl, hO1, Y1, ch1, N1, hC1⟩
    have ho1 := hC1.fr.1 oo _ (frm_get hzo ho)
    obtain ⟨hC1, hS1, hd1⟩ := law_c hk0 hS (P := (fun q => ZN x A Y q)) hd hC1
    have hI1 := selO_inv hI hO1
    show J X ((200 + 20 * nn) + 9) ((8000 + 80 * nn) + 54) g1 221 [(4, .int (nI (7 * nn))), (3, .ref oo), (2, .ref m), (1, .ref x), (0, .ref b)] [.int (nI k1)]
    refine j_istore (lv' := [(5, .int (nI k1)), (4, .int (nI (7 * nn))), (3, .ref oo), (2, .ref m), (1, .ref x), (0, .ref b)]) hX dL_law_221 (by rw [hn]; decide) rfl ?_
    refine j_aload_n hX dL_law_223 3 rfl ?_
    refine j_aload_n hX dL_law_224 5 rfl ?_
    refine j_iload hX dL_law_225 1 rfl ?_
    refine j_iconst (v := nI 1) hX dL_law_227 (by decide) ?_
    refine j_iadd hX dL_law_228 ?_
    refine j_eqi (y := nI (7 * nn + 1)) (nI_add _ 1) ?_
    refine j_sld hX hsc (7 * nn + 1) (rfl) (by omega) (by omega) dL_law_229 ?_
    refine j_aload_n hX dL_law_230 5 rfl ?_
    refine j_iload hX dL_law_231 1 rfl ?_
    refine j_iconst (v := nI 2) hX dL_law_233 (by decide) ?_
    refine j_iadd hX dL_law_234 ?_
    refine j_eqi (y := nI (7 * nn + 2)) (nI_add _ 2) ?_
    refine j_sld hX hsc (7 * nn + 2) (rfl) (by omega) (by omega) dL_law_235 ?_
    refine j_aload_n hX dL_law_236 5 rfl ?_
    refine j_iload hX dL_law_237 1 rfl ?_
    refine j_iconst (v := nI 3) hX dL_law_239 (by decide) ?_
    refine j_iadd hX dL_law_240 ?_
    refine j_eqi (y := nI (7 * nn + 3)) (nI_add _ 3) ?_
    refine j_sld hX hsc (7 * nn + 3) (rfl) (by omega) (by omega) dL_law_241 ?_
    refine j_aload_n hX dL_law_242 5 rfl ?_
    refine j_iload hX dL_law_243 1 rfl ?_
    refine j_iconst (v := nI 4) hX dL_law_245 (by decide) ?_
    refine j_iadd hX dL_law_246 ?_
    refine j_eqi (y := nI (7 * nn + 4)) (nI_add _ 4) ?_
    refine j_sld hX hsc (7 * nn + 4) (rfl) (by omega) (by omega) dL_law_247 ?_
    refine j_aload_n hX dL_law_248 5 rfl ?_
    refine j_iload hX dL_law_249 1 rfl ?_
    refine j_iconst (v := nI 5) hX dL_law_251 (by decide) ?_
    refine j_iadd hX dL_law_252 ?_
    refine j_eqi (y := nI (7 * nn + 5)) (nI_add _ 5) ?_
    refine j_sld hX hsc (7 * nn + 5) (rfl) (by omega) (by omega) dL_law_253 ?_
    refine j_aload_n hX dL_law_254 5 rfl ?_
    refine j_iload hX dL_law_255 1 rfl ?_
    refine j_bipush (v := nI 6) hX dL_law_257 (by decide) ?_
    refine j_iadd hX dL_law_259 ?_
    refine j_eqi (y := nI (7 * nn + 6)) (nI_add _ 6) ?_
    refine j_sld hX hsc (7 * nn + 6) (rfl) (by omega) (by omega) dL_law_260 ?_
    refine j_if_eq hX 268 dL_law_261 (by decide) (fun _ => ?_) (fun c_261 => absurd c_210 c_261)
    refine j_iconst (v := b01 false) hX dL_law_268 (by decide) ?_
    refine j_callV (As := [.int (sc (7 * nn + 1)), .int (sc (7 * nn + 2)), .int (sc (7 * nn + 3)), .int (sc (7 * nn + 4)), .int (sc (7 * nn + 5)), .int (b01 false)]) (rest := []) hX (Ct.re (c_X11_select (xl X) (reF (xK X) (frm (fun q => ¬ isM m Q q) g1)) g1 m Q th fi F Od hS1.frm A hI hA (sc (7 * nn + 1)) (sc (7 * nn + 2)) (sc (7 * nn + 3)) (sc (7 * nn + 4)) (sc (7 * nn + 5)) false)) hS1.1 rfl lk_L_96 wI_X11_select wV_X11_X11_select wN_X11 wC_X11_select hd_X11_select rfl (by rw [hL]; decide) (by decide) rfl (Nat.le_of_ble_eq_true rfl) dL_law_269 (by rw [hR]; omega) (by rw [hR]; omega) jx_no ?_
    rintro _ g2 ⟨rfl, k2, A2, hO2, Q2, Od2, fi2, F2, hS2, hA2⟩
    obtain ⟨hC2, hS2, hd2, hkp⟩ := law_m hk0 hC1 hd1 hS2
    obtain ⟨ek, eA⟩ := detV hO1 hO2
    rw [← ek] at hS2
    rw [← eA] at hA2
    have ho2 := hkp oo _ ho1 (hS1.noJ ho1)
    show J X ((200 + 20 * nn) + 9) ((8000 + 80 * nn) + 54) g2 272 [(5, .int (nI k1)), (4, .int (nI (7 * nn))), (3, .ref oo), (2, .ref m), (1, .ref x), (0, .ref b)] []
    refine j_aload_n hX dL_law_272 3 rfl ?_
    refine j_callV (As := []) (rest := []) hX (c_X11_thrown (xl X) (xK X) g2 m Q2 (nI k1) (nI Od2.length) fi2 F2 hS2) hS2.1 rfl lk_L_89 wI_X11_thrown wV_X11_X11_thrown wN_X11 wC_X11_thrown hd_X11_thrown rfl (by rw [hL]; decide) (by decide) rfl (Nat.le_of_ble_eq_true rfl) dL_law_273 (by rw [hR]; omega) (by rw [hR]; omega) jx_no ?_
    rintro _ _ ⟨rfl, rfl⟩
    show J X ((200 + 20 * nn) + 9) ((8000 + 80 * nn) + 54) g2 276 [(5, .int (nI k1)), (4, .int (nI (7 * nn))), (3, .ref oo), (2, .ref m), (1, .ref x), (0, .ref b)] [.int (nI k1)]
    refine j_iload hX dL_law_276 0 rfl ?_
    refine j_icmp_eq hX 283 dL_law_278 (by decide) (fun _ => ?_) (fun c_278 => absurd (by rfl) c_278)
    refine j_goto hX 1423 dL_law_283 (by decide) ?_
    refine J.mono (kc' := 200 + 20 * (nn + 1)) (ks' := 8000 + 80 * (nn + 1)) ?_ (by omega) (by omega)
    refine j_sub [1, 2, 3, 4, 5] rfl ?_
    exact KEND g2 A1 Y1 ch1 N1 Q2 _ fi2 F2 Od2 f hC2 hS2 hA2 hd2 ho2 hI1
  · refine j_iconst (v := b01 true) hX dL_law_213 (by decide) ?_
    refine j_goto hX 218 dL_law_214 (by decide) ?_
    refine j_callSH (As := [.ref x, .int (sc (7 * nn + 1)), .int (sc (7 * nn + 2)), .int (sc (7 * nn + 3)), .int (sc (7 * nn + 4)), .int (sc (7 * nn + 5)), .int (b01 true)]) (rest := []) hX (CtH.re (c_L_select (xl X) (reF (xK X) (frm (fun q => ZN x A Y q) g)) g hlt x A Y ch N (hC.frm (fun q hq => hq)) hI (sc (7 * nn + 1)) (sc (7 * nn + 2)) (sc (7 * nn + 3)) (sc (7 * nn + 4)) (sc (7 * nn + 5)) true)) lk_L_93 wS_L_select wN_L wH_L_select hd_L_select.2 rfl (by rw [hL]; decide) (by decide) rfl (Nat.le_of_ble_eq_true rfl) dL_law_218 (by rw [hR]; omega) (by rw [hR]; omega) jx_no ?_
    rintro _ g1 ⟨k1, A1, rfl, hO1, Y1, ch1, N1, hC1⟩
    have ho1 := hC1.fr.1 oo _ (frm_get hzo ho)
    obtain ⟨hC1, hS1, hd1⟩ := law_c hk0 hS (P := (fun q => ZN x A Y q)) hd hC1
    have hI1 := selO_inv hI hO1
    show J X ((200 + 20 * nn) + 9) ((8000 + 80 * nn) + 54) g1 221 [(4, .int (nI (7 * nn))), (3, .ref oo), (2, .ref m), (1, .ref x), (0, .ref b)] [.int (nI k1)]
    refine j_istore (lv' := [(5, .int (nI k1)), (4, .int (nI (7 * nn))), (3, .ref oo), (2, .ref m), (1, .ref x), (0, .ref b)]) hX dL_law_221 (by rw [hn]; decide) rfl ?_
    refine j_aload_n hX dL_law_223 3 rfl ?_
    refine j_aload_n hX dL_law_224 5 rfl ?_
    refine j_iload hX dL_law_225 1 rfl ?_
    refine j_iconst (v := nI 1) hX dL_law_227 (by decide) ?_
    refine j_iadd hX dL_law_228 ?_
    refine j_eqi (y := nI (7 * nn + 1)) (nI_add _ 1) ?_
    refine j_sld hX hsc (7 * nn + 1) (rfl) (by omega) (by omega) dL_law_229 ?_
    refine j_aload_n hX dL_law_230 5 rfl ?_
    refine j_iload hX dL_law_231 1 rfl ?_
    refine j_iconst (v := nI 2) hX dL_law_233 (by decide) ?_
    refine j_iadd hX dL_law_234 ?_
    refine j_eqi (y := nI (7 * nn + 2)) (nI_add _ 2) ?_
    refine j_sld hX hsc (7 * nn + 2) (rfl) (by omega) (by omega) dL_law_235 ?_
    refine j_aload_n hX dL_law_236 5 rfl ?_
    refine j_iload hX dL_law_237 1 rfl ?_
    refine j_iconst (v := nI 3) hX dL_law_239 (by decide) ?_
    refine j_iadd hX dL_law_240 ?_
    refine j_eqi (y := nI (7 * nn + 3)) (nI_add _ 3) ?_
    refine j_sld hX hsc (7 * nn + 3) (rfl) (by omega) (by omega) dL_law_241 ?_
    refine j_aload_n hX dL_law_242 5 rfl ?_
    refine j_iload hX dL_law_243 1 rfl ?_
    refine j_iconst (v := nI 4) hX dL_law_245 (by decide) ?_
    refine j_iadd hX dL_law_246 ?_
    refine j_eqi (y := nI (7 * nn + 4)) (nI_add _ 4) ?_
    refine j_sld hX hsc (7 * nn + 4) (rfl) (by omega) (by omega) dL_law_247 ?_
    refine j_aload_n hX dL_law_248 5 rfl ?_
    refine j_iload hX dL_law_249 1 rfl ?_
    refine j_iconst (v := nI 5) hX dL_law_251 (by decide) ?_
    refine j_iadd hX dL_law_252 ?_
    refine j_eqi (y := nI (7 * nn + 5)) (nI_add _ 5) ?_
    refine j_sld hX hsc (7 * nn + 5) (rfl) (by omega) (by omega) dL_law_253 ?_
    refine j_aload_n hX dL_law_254 5 rfl ?_
    refine j_iload hX dL_law_255 1 rfl ?_
    refine j_bipush (v := nI 6) hX dL_law_257 (by decide) ?_
    refine j_iadd hX dL_law_259 ?_
    refine j_eqi (y := nI (7 * nn + 6)) (nI_add _ 6) ?_
    refine j_sld hX hsc (7 * nn + 6) (rfl) (by omega) (by omega) dL_law_260 ?_
    refine j_if_eq hX 268 dL_law_261 (by decide) (fun c_261 => absurd c_261 c_210) (fun _ => ?_)
    refine j_iconst (v := b01 true) hX dL_law_264 (by decide) ?_
    refine j_goto hX 269 dL_law_265 (by decide) ?_
    refine j_callV (As := [.int (sc (7 * nn + 1)), .int (sc (7 * nn + 2)), .int (sc (7 * nn + 3)), .int (sc (7 * nn + 4)), .int (sc (7 * nn + 5)), .int (b01 true)]) (rest := []) hX (Ct.re (c_X11_select (xl X) (reF (xK X) (frm (fun q => ¬ isM m Q q) g1)) g1 m Q th fi F Od hS1.frm A hI hA (sc (7 * nn + 1)) (sc (7 * nn + 2)) (sc (7 * nn + 3)) (sc (7 * nn + 4)) (sc (7 * nn + 5)) true)) hS1.1 rfl lk_L_96 wI_X11_select wV_X11_X11_select wN_X11 wC_X11_select hd_X11_select rfl (by rw [hL]; decide) (by decide) rfl (Nat.le_of_ble_eq_true rfl) dL_law_269 (by rw [hR]; omega) (by rw [hR]; omega) jx_no ?_
    rintro _ g2 ⟨rfl, k2, A2, hO2, Q2, Od2, fi2, F2, hS2, hA2⟩
    obtain ⟨hC2, hS2, hd2, hkp⟩ := law_m hk0 hC1 hd1 hS2
    obtain ⟨ek, eA⟩ := detV hO1 hO2
    rw [← ek] at hS2
    rw [← eA] at hA2
    have ho2 := hkp oo _ ho1 (hS1.noJ ho1)
    show J X ((200 + 20 * nn) + 9) ((8000 + 80 * nn) + 54) g2 272 [(5, .int (nI k1)), (4, .int (nI (7 * nn))), (3, .ref oo), (2, .ref m), (1, .ref x), (0, .ref b)] []
    refine j_aload_n hX dL_law_272 3 rfl ?_
    refine j_callV (As := []) (rest := []) hX (c_X11_thrown (xl X) (xK X) g2 m Q2 (nI k1) (nI Od2.length) fi2 F2 hS2) hS2.1 rfl lk_L_89 wI_X11_thrown wV_X11_X11_thrown wN_X11 wC_X11_thrown hd_X11_thrown rfl (by rw [hL]; decide) (by decide) rfl (Nat.le_of_ble_eq_true rfl) dL_law_273 (by rw [hR]; omega) (by rw [hR]; omega) jx_no ?_
    rintro _ _ ⟨rfl, rfl⟩
    show J X ((200 + 20 * nn) + 9) ((8000 + 80 * nn) + 54) g2 276 [(5, .int (nI k1)), (4, .int (nI (7 * nn))), (3, .ref oo), (2, .ref m), (1, .ref x), (0, .ref b)] [.int (nI k1)]
    refine j_iload hX dL_law_276 0 rfl ?_
    refine j_icmp_eq hX 283 dL_law_278 (by decide) (fun _ => ?_) (fun c_278 => absurd (by rfl) c_278)
    refine j_goto hX 1423 dL_law_283 (by decide) ?_
    refine J.mono (kc' := 200 + 20 * (nn + 1)) (ks' := 8000 + 80 * (nn + 1)) ?_ (by omega) (by omega)
    refine j_sub [1, 2, 3, 4, 5] rfl ?_
    exact KEND g2 A1 Y1 ch1 N1 Q2 _ fi2 F2 Od2 f hC2 hS2 hA2 hd2 ho2 hI1

set_option maxRecDepth 20000 in
set_option maxHeartbeats 1600000 in
theorem law_columns (l : Launch) (hlt : l.stackTraces = false) (X : Cx) (hX : OK X cL_law RL) (hl : xl X = l) (hn : xn X = 8) (hL : xlev X = 11) (hR : xR X = room_1) (hk0 : ∀ q, kF (xK X) q = none) (b L : Nat) (sc : Nat → Int32) (hsc : Scr X b L sc) (hL9 : L ≤ 3584) (x m oo nn : Nat) (hnn : 7 * nn + 7 ≤ L) (g : Wd) (A : Ab) (Y : Lt) (ch : Nat → Int32) (N : Nat → Bg) (Q : Nat → Nat) (th fi : Int32) (F : Nat → Nat → Int32) (Od : List Nat) (f : Nat → Int64) (hC : CS (xK X) g x A Y ch (fun _ => 0) N) (hS : RS (xK X) g m Q th (nI Od.length) fi F) (hA : RA A Od F) (hd : ∀ q, isM m Q q → ZN x A Y q) (ho : g oo = some (aJ (xK X) 1 f)) (hI : Inv A) (KEND : ∀ (g : Wd) (A : Ab) (Y : Lt) (ch : Nat → Int32) (N : Nat → Bg) (Q : Nat → Nat) (th fi : Int32) (F : Nat → Nat → Int32) (Od : List Nat) (f : Nat → Int64), CS (xK X) g x A Y ch (fun _ => 0) N → RS (xK X) g m Q th (nI Od.length) fi F → RA A Od F → (∀ q, isM m Q q → ZN x A Y q) → g oo = some (aJ (xK X) 1 f) → Inv A → J X (200 + 20 * (nn + 1)) (8000 + 80 * (nn + 1)) g 1423 [(4, .int (nI (7 * nn))), (3, .ref oo), (2, .ref m), (1, .ref x), (0, .ref b)] []) : J X (200 + 20 * nn) (8000 + 80 * nn) g 286 [(4, .int (nI (7 * nn))), (3, .ref oo), (2, .ref m), (1, .ref x), (0, .ref b)] [] := by
  subst hl
  have hrc : room_1.cells = 601024 := rfl
  have hrs : room_1.slots = 7293034 := rfl
  have hnb : nn ≤ 512 := by omega
  have hzo : ZN x A Y oo := hC.znJ ho
  refine j_aload_n hX dL_law_286 3 rfl ?_
  refine j_aload_n hX dL_law_287 4 rfl ?_
  refine j_iload hX dL_law_288 0 rfl ?_
  refine j_iconst (v := nI 1) hX dL_law_290 (by decide) ?_
  refine j_iadd hX dL_law_291 ?_
  refine j_eqi (y := nI (7 * nn + 1)) (nI_add _ 1) ?_
  refine j_sld hX hsc (7 * nn + 1) (rfl) (by omega) (by omega) dL_law_292 ?_
  refine j_aload_n hX dL_law_293 4 rfl ?_
  refine j_iload hX dL_law_294 0 rfl ?_
  refine j_iconst (v := nI 2) hX dL_law_296 (by decide) ?_
  refine j_iadd hX dL_law_297 ?_
  refine j_eqi (y := nI (7 * nn + 2)) (nI_add _ 2) ?_
  refine j_sld hX hsc (7 * nn + 2) (rfl) (by omega) (by omega) dL_law_298 ?_
  refine j_aload_n hX dL_law_299 4 rfl ?_
  refine j_iload hX dL_law_300 0 rfl ?_
  refine j_iconst (v := nI 3) hX dL_law_302 (by decide) ?_
  refine j_iadd hX dL_law_303 ?_
  refine j_eqi (y := nI (7 * nn + 3)) (nI_add _ 3) ?_
  refine j_sld hX hsc (7 * nn + 3) (rfl) (by omega) (by omega) dL_law_304 ?_
  refine j_aload_n hX dL_law_305 4 rfl ?_
  refine j_iload hX dL_law_306 0 rfl ?_
  refine j_iconst (v := nI 4) hX dL_law_308 (by decide) ?_
  refine j_iadd hX dL_law_309 ?_
  refine j_eqi (y := nI (7 * nn + 4)) (nI_add _ 4) ?_
  refine j_sld hX hsc (7 * nn + 4) (rfl) (by omega) (by omega) dL_law_310 ?_
  refine j_aload_n hX dL_law_311 4 rfl ?_
  refine j_iload hX dL_law_312 0 rfl ?_
  refine j_iconst (v := nI 5) hX dL_law_314 (by decide) ?_
  refine j_iadd hX dL_law_315 ?_
  refine j_eqi (y := nI (7 * nn + 5)) (nI_add _ 5) ?_
  refine j_sld hX hsc (7 * nn + 5) (rfl) (by omega) (by omega) dL_law_316 ?_
  refine j_aload_n hX dL_law_317 4 rfl ?_
  refine j_iload hX dL_law_318 0 rfl ?_
  refine j_bipush (v := nI 6) hX dL_law_320 (by decide) ?_
  refine j_iadd hX dL_law_322 ?_
  refine j_eqi (y := nI (7 * nn + 6)) (nI_add _ 6) ?_
  refine j_sld hX hsc (7 * nn + 6) (rfl) (by omega) (by omega) dL_law_323 ?_
  refine j_callSH (As := [.ref x, .int (sc (7 * nn + 1)), .int (sc (7 * nn + 2)), .int (sc (7 * nn + 3)), .int (sc (7 * nn + 4)), .int (sc (7 * nn + 5)), .int (sc (7 * nn + 6))]) (rest := []) hX (CtH.re (c_L_columns (xl X) (reF (xK X) (frm (fun q => ZN x A Y q) g)) g hlt x A Y ch N (hC.frm (fun q hq => hq)) hI (sc (7 * nn + 1)) (sc (7 * nn + 2)) (sc (7 * nn + 3)) (sc (7 * nn + 4)) (sc (7 * nn + 5)) (sc (7 * nn + 6)))) lk_L_97 wS_L_columns wN_L wH_L_columns hd_L_columns.2 rfl (by rw [hL]; decide) (by decide) rfl (Nat.le_of_ble_eq_true rfl) dL_law_324 (by rw [hR]; omega) (by rw [hR]; omega) jx_no ?_
  rintro _ g1 ⟨k1, A1, rfl, hO1, Y1, ch1, N1, hC1⟩
  have ho1 := hC1.fr.1 oo _ (frm_get hzo ho)
  obtain ⟨hC1, hS1, hd1⟩ := law_c hk0 hS (P := (fun q => ZN x A Y q)) hd hC1
  have hI1 := colO_inv hI hO1
  show J X ((200 + 20 * nn) + 13) ((8000 + 80 * nn) + 73) g1 327 [(4, .int (nI (7 * nn))), (3, .ref oo), (2, .ref m), (1, .ref x), (0, .ref b)] [.int (nI k1)]
  refine j_istore (lv' := [(5, .int (nI k1)), (4, .int (nI (7 * nn))), (3, .ref oo), (2, .ref m), (1, .ref x), (0, .ref b)]) hX dL_law_327 (by rw [hn]; decide) rfl ?_
  refine j_aload_n hX dL_law_329 3 rfl ?_
  refine j_aload_n hX dL_law_330 5 rfl ?_
  refine j_iload hX dL_law_331 1 rfl ?_
  refine j_iconst (v := nI 1) hX dL_law_333 (by decide) ?_
  refine j_iadd hX dL_law_334 ?_
  refine j_eqi (y := nI (7 * nn + 1)) (nI_add _ 1) ?_
  refine j_sld hX hsc (7 * nn + 1) (rfl) (by omega) (by omega) dL_law_335 ?_
  refine j_aload_n hX dL_law_336 5 rfl ?_
  refine j_iload hX dL_law_337 1 rfl ?_
  refine j_iconst (v := nI 2) hX dL_law_339 (by decide) ?_
  refine j_iadd hX dL_law_340 ?_
  refine j_eqi (y := nI (7 * nn + 2)) (nI_add _ 2) ?_
  refine j_sld hX hsc (7 * nn + 2) (rfl) (by omega) (by omega) dL_law_341 ?_
  refine j_aload_n hX dL_law_342 5 rfl ?_
  refine j_iload hX dL_law_343 1 rfl ?_
  refine j_iconst (v := nI 3) hX dL_law_345 (by decide) ?_
  refine j_iadd hX dL_law_346 ?_
  refine j_eqi (y := nI (7 * nn + 3)) (nI_add _ 3) ?_
  refine j_sld hX hsc (7 * nn + 3) (rfl) (by omega) (by omega) dL_law_347 ?_
  refine j_aload_n hX dL_law_348 5 rfl ?_
  refine j_iload hX dL_law_349 1 rfl ?_
  refine j_iconst (v := nI 4) hX dL_law_351 (by decide) ?_
  refine j_iadd hX dL_law_352 ?_
  refine j_eqi (y := nI (7 * nn + 4)) (nI_add _ 4) ?_
  refine j_sld hX hsc (7 * nn + 4) (rfl) (by omega) (by omega) dL_law_353 ?_
  refine j_aload_n hX dL_law_354 5 rfl ?_
  refine j_iload hX dL_law_355 1 rfl ?_
  refine j_iconst (v := nI 5) hX dL_law_357 (by decide) ?_
  refine j_iadd hX dL_law_358 ?_
  refine j_eqi (y := nI (7 * nn + 5)) (nI_add _ 5) ?_
  refine j_sld hX hsc (7 * nn + 5) (rfl) (by omega) (by omega) dL_law_359 ?_
  refine j_aload_n hX dL_law_360 5 rfl ?_
  refine j_iload hX dL_law_361 1 rfl ?_
  refine j_bipush (v := nI 6) hX dL_law_363 (by decide) ?_
  refine j_iadd hX dL_law_365 ?_
  refine j_eqi (y := nI (7 * nn + 6)) (nI_add _ 6) ?_
  refine j_sld hX hsc (7 * nn + 6) (rfl) (by omega) (by omega) dL_law_366 ?_
  refine j_callV (As := [.int (sc (7 * nn + 1)), .int (sc (7 * nn + 2)), .int (sc (7 * nn + 3)), .int (sc (7 * nn + 4)), .int (sc (7 * nn + 5)), .int (sc (7 * nn + 6))]) (rest := []) hX (Ct.re (c_X11_columns (xl X) (reF (xK X) (frm (fun q => ¬ isM m Q q) g1)) g1 m Q th fi F Od hS1.frm A hI hA (sc (7 * nn + 1)) (sc (7 * nn + 2)) (sc (7 * nn + 3)) (sc (7 * nn + 4)) (sc (7 * nn + 5)) (sc (7 * nn + 6)))) hS1.1 rfl lk_L_100 wI_X11_columns wV_X11_X11_columns wN_X11 wC_X11_columns hd_X11_columns rfl (by rw [hL]; decide) (by decide) rfl (Nat.le_of_ble_eq_true rfl) dL_law_367 (by rw [hR]; omega) (by rw [hR]; omega) jx_no ?_
  rintro _ g2 ⟨rfl, k2, A2, hO2, Q2, Od2, fi2, F2, hS2, hA2⟩
  obtain ⟨hC2, hS2, hd2, hkp⟩ := law_m hk0 hC1 hd1 hS2
  obtain ⟨ek, eA⟩ := detV hO1 hO2
  rw [← ek] at hS2
  rw [← eA] at hA2
  have ho2 := hkp oo _ ho1 (hS1.noJ ho1)
  show J X ((200 + 20 * nn) + 13) ((8000 + 80 * nn) + 73) g2 370 [(5, .int (nI k1)), (4, .int (nI (7 * nn))), (3, .ref oo), (2, .ref m), (1, .ref x), (0, .ref b)] []
  refine j_aload_n hX dL_law_370 3 rfl ?_
  refine j_callV (As := []) (rest := []) hX (c_X11_thrown (xl X) (xK X) g2 m Q2 (nI k1) (nI Od2.length) fi2 F2 hS2) hS2.1 rfl lk_L_89 wI_X11_thrown wV_X11_X11_thrown wN_X11 wC_X11_thrown hd_X11_thrown rfl (by rw [hL]; decide) (by decide) rfl (Nat.le_of_ble_eq_true rfl) dL_law_371 (by rw [hR]; omega) (by rw [hR]; omega) jx_no ?_
  rintro _ _ ⟨rfl, rfl⟩
  show J X ((200 + 20 * nn) + 13) ((8000 + 80 * nn) + 73) g2 374 [(5, .int (nI k1)), (4, .int (nI (7 * nn))), (3, .ref oo), (2, .ref m), (1, .ref x), (0, .ref b)] [.int (nI k1)]
  refine j_iload hX dL_law_374 0 rfl ?_
  refine j_icmp_eq hX 381 dL_law_376 (by decide) (fun _ => ?_) (fun c_376 => absurd (by rfl) c_376)
  refine j_goto hX 1423 dL_law_381 (by decide) ?_
  refine J.mono (kc' := 200 + 20 * (nn + 1)) (ks' := 8000 + 80 * (nn + 1)) ?_ (by omega) (by omega)
  refine j_sub [1, 2, 3, 4, 5] rfl ?_
  exact KEND g2 A1 Y1 ch1 N1 Q2 _ fi2 F2 Od2 f hC2 hS2 hA2 hd2 ho2 hI1

set_option maxRecDepth 20000 in
set_option maxHeartbeats 1600000 in
theorem law_join (l : Launch) (hlt : l.stackTraces = false) (X : Cx) (hX : OK X cL_law RL) (hl : xl X = l) (hn : xn X = 8) (hL : xlev X = 11) (hR : xR X = room_1) (hk0 : ∀ q, kF (xK X) q = none) (b L : Nat) (sc : Nat → Int32) (hsc : Scr X b L sc) (hL9 : L ≤ 3584) (x m oo nn : Nat) (hnn : 7 * nn + 7 ≤ L) (g : Wd) (A : Ab) (Y : Lt) (ch : Nat → Int32) (N : Nat → Bg) (Q : Nat → Nat) (th fi : Int32) (F : Nat → Nat → Int32) (Od : List Nat) (f : Nat → Int64) (hC : CS (xK X) g x A Y ch (fun _ => 0) N) (hS : RS (xK X) g m Q th (nI Od.length) fi F) (hA : RA A Od F) (hd : ∀ q, isM m Q q → ZN x A Y q) (ho : g oo = some (aJ (xK X) 1 f)) (hI : Inv A) (KEND : ∀ (g : Wd) (A : Ab) (Y : Lt) (ch : Nat → Int32) (N : Nat → Bg) (Q : Nat → Nat) (th fi : Int32) (F : Nat → Nat → Int32) (Od : List Nat) (f : Nat → Int64), CS (xK X) g x A Y ch (fun _ => 0) N → RS (xK X) g m Q th (nI Od.length) fi F → RA A Od F → (∀ q, isM m Q q → ZN x A Y q) → g oo = some (aJ (xK X) 1 f) → Inv A → J X (200 + 20 * (nn + 1)) (8000 + 80 * (nn + 1)) g 1423 [(4, .int (nI (7 * nn))), (3, .ref oo), (2, .ref m), (1, .ref x), (0, .ref b)] []) : J X (200 + 20 * nn) (8000 + 80 * nn) g 384 [(4, .int (nI (7 * nn))), (3, .ref oo), (2, .ref m), (1, .ref x), (0, .ref b)] [] := by
  subst hl
  have hrc : room_1.cells = 601024 := rfl
  have hrs : room_1.slots = 7293034 := rfl
  have hnb : nn ≤ 512 := by omega
  have hzo : ZN x A Y oo := hC.znJ ho
  refine j_aload_n hX dL_law_384 3 rfl ?_
  refine j_aload_n hX dL_law_385 4 rfl ?_
  refine j_iload hX dL_law_386 0 rfl ?_
  refine j_iconst (v := nI 1) hX dL_law_388 (by decide) ?_
  refine j_iadd hX dL_law_389 ?_
  refine j_eqi (y := nI (7 * nn + 1)) (nI_add _ 1) ?_
  refine j_sld hX hsc (7 * nn + 1) (rfl) (by omega) (by omega) dL_law_390 ?_
  refine j_aload_n hX dL_law_391 4 rfl ?_
  refine j_iload hX dL_law_392 0 rfl ?_
  refine j_iconst (v := nI 2) hX dL_law_394 (by decide) ?_
  refine j_iadd hX dL_law_395 ?_
  refine j_eqi (y := nI (7 * nn + 2)) (nI_add _ 2) ?_
  refine j_sld hX hsc (7 * nn + 2) (rfl) (by omega) (by omega) dL_law_396 ?_
  refine j_aload_n hX dL_law_397 4 rfl ?_
  refine j_iload hX dL_law_398 0 rfl ?_
  refine j_iconst (v := nI 3) hX dL_law_400 (by decide) ?_
  refine j_iadd hX dL_law_401 ?_
  refine j_eqi (y := nI (7 * nn + 3)) (nI_add _ 3) ?_
  refine j_sld hX hsc (7 * nn + 3) (rfl) (by omega) (by omega) dL_law_402 ?_
  refine j_aload_n hX dL_law_403 4 rfl ?_
  refine j_iload hX dL_law_404 0 rfl ?_
  refine j_iconst (v := nI 4) hX dL_law_406 (by decide) ?_
  refine j_iadd hX dL_law_407 ?_
  refine j_eqi (y := nI (7 * nn + 4)) (nI_add _ 4) ?_
  refine j_sld hX hsc (7 * nn + 4) (rfl) (by omega) (by omega) dL_law_408 ?_
  refine j_aload_n hX dL_law_409 4 rfl ?_
  refine j_iload hX dL_law_410 0 rfl ?_
  refine j_iconst (v := nI 5) hX dL_law_412 (by decide) ?_
  refine j_iadd hX dL_law_413 ?_
  refine j_eqi (y := nI (7 * nn + 5)) (nI_add _ 5) ?_
  refine j_sld hX hsc (7 * nn + 5) (rfl) (by omega) (by omega) dL_law_414 ?_
  refine j_callSH (As := [.ref x, .int (sc (7 * nn + 1)), .int (sc (7 * nn + 2)), .int (sc (7 * nn + 3)), .int (sc (7 * nn + 4)), .int (sc (7 * nn + 5))]) (rest := []) hX (CtH.re (c_L_join (xl X) (reF (xK X) (frm (fun q => ZN x A Y q) g)) g hlt x A Y ch N (hC.frm (fun q hq => hq)) hI (sc (7 * nn + 1)) (sc (7 * nn + 2)) (sc (7 * nn + 3)) (sc (7 * nn + 4)) (sc (7 * nn + 5)))) lk_L_101 wS_L_join wN_L wH_L_join hd_L_join.2 rfl (by rw [hL]; decide) (by decide) rfl (Nat.le_of_ble_eq_true rfl) dL_law_415 (by rw [hR]; omega) (by rw [hR]; omega) jx_no ?_
  rintro _ g1 ⟨k1, A1, rfl, hO1, Y1, ch1, N1, hC1⟩
  have ho1 := hC1.fr.1 oo _ (frm_get hzo ho)
  obtain ⟨hC1, hS1, hd1⟩ := law_c hk0 hS (P := (fun q => ZN x A Y q)) hd hC1
  have hI1 := joinO_inv hI hO1
  show J X ((200 + 20 * nn) + 11) ((8000 + 80 * nn) + 64) g1 418 [(4, .int (nI (7 * nn))), (3, .ref oo), (2, .ref m), (1, .ref x), (0, .ref b)] [.int (nI k1)]
  refine j_istore (lv' := [(5, .int (nI k1)), (4, .int (nI (7 * nn))), (3, .ref oo), (2, .ref m), (1, .ref x), (0, .ref b)]) hX dL_law_418 (by rw [hn]; decide) rfl ?_
  refine j_aload_n hX dL_law_420 3 rfl ?_
  refine j_aload_n hX dL_law_421 5 rfl ?_
  refine j_iload hX dL_law_422 1 rfl ?_
  refine j_iconst (v := nI 1) hX dL_law_424 (by decide) ?_
  refine j_iadd hX dL_law_425 ?_
  refine j_eqi (y := nI (7 * nn + 1)) (nI_add _ 1) ?_
  refine j_sld hX hsc (7 * nn + 1) (rfl) (by omega) (by omega) dL_law_426 ?_
  refine j_aload_n hX dL_law_427 5 rfl ?_
  refine j_iload hX dL_law_428 1 rfl ?_
  refine j_iconst (v := nI 2) hX dL_law_430 (by decide) ?_
  refine j_iadd hX dL_law_431 ?_
  refine j_eqi (y := nI (7 * nn + 2)) (nI_add _ 2) ?_
  refine j_sld hX hsc (7 * nn + 2) (rfl) (by omega) (by omega) dL_law_432 ?_
  refine j_aload_n hX dL_law_433 5 rfl ?_
  refine j_iload hX dL_law_434 1 rfl ?_
  refine j_iconst (v := nI 3) hX dL_law_436 (by decide) ?_
  refine j_iadd hX dL_law_437 ?_
  refine j_eqi (y := nI (7 * nn + 3)) (nI_add _ 3) ?_
  refine j_sld hX hsc (7 * nn + 3) (rfl) (by omega) (by omega) dL_law_438 ?_
  refine j_aload_n hX dL_law_439 5 rfl ?_
  refine j_iload hX dL_law_440 1 rfl ?_
  refine j_iconst (v := nI 4) hX dL_law_442 (by decide) ?_
  refine j_iadd hX dL_law_443 ?_
  refine j_eqi (y := nI (7 * nn + 4)) (nI_add _ 4) ?_
  refine j_sld hX hsc (7 * nn + 4) (rfl) (by omega) (by omega) dL_law_444 ?_
  refine j_aload_n hX dL_law_445 5 rfl ?_
  refine j_iload hX dL_law_446 1 rfl ?_
  refine j_iconst (v := nI 5) hX dL_law_448 (by decide) ?_
  refine j_iadd hX dL_law_449 ?_
  refine j_eqi (y := nI (7 * nn + 5)) (nI_add _ 5) ?_
  refine j_sld hX hsc (7 * nn + 5) (rfl) (by omega) (by omega) dL_law_450 ?_
  refine j_callV (As := [.int (sc (7 * nn + 1)), .int (sc (7 * nn + 2)), .int (sc (7 * nn + 3)), .int (sc (7 * nn + 4)), .int (sc (7 * nn + 5))]) (rest := []) hX (Ct.re (c_X11_join (xl X) (reF (xK X) (frm (fun q => ¬ isM m Q q) g1)) g1 m Q th fi F Od hS1.frm A hI hA (sc (7 * nn + 1)) (sc (7 * nn + 2)) (sc (7 * nn + 3)) (sc (7 * nn + 4)) (sc (7 * nn + 5)))) hS1.1 rfl lk_L_104 wI_X11_join wV_X11_X11_join wN_X11 wC_X11_join hd_X11_join rfl (by rw [hL]; decide) (by decide) rfl (Nat.le_of_ble_eq_true rfl) dL_law_451 (by rw [hR]; omega) (by rw [hR]; omega) jx_no ?_
  rintro _ g2 ⟨rfl, k2, A2, hO2, Q2, Od2, fi2, F2, hS2, hA2⟩
  obtain ⟨hC2, hS2, hd2, hkp⟩ := law_m hk0 hC1 hd1 hS2
  obtain ⟨ek, eA⟩ := detV hO1 hO2
  rw [← ek] at hS2
  rw [← eA] at hA2
  have ho2 := hkp oo _ ho1 (hS1.noJ ho1)
  show J X ((200 + 20 * nn) + 11) ((8000 + 80 * nn) + 64) g2 454 [(5, .int (nI k1)), (4, .int (nI (7 * nn))), (3, .ref oo), (2, .ref m), (1, .ref x), (0, .ref b)] []
  refine j_aload_n hX dL_law_454 3 rfl ?_
  refine j_callV (As := []) (rest := []) hX (c_X11_thrown (xl X) (xK X) g2 m Q2 (nI k1) (nI Od2.length) fi2 F2 hS2) hS2.1 rfl lk_L_89 wI_X11_thrown wV_X11_X11_thrown wN_X11 wC_X11_thrown hd_X11_thrown rfl (by rw [hL]; decide) (by decide) rfl (Nat.le_of_ble_eq_true rfl) dL_law_455 (by rw [hR]; omega) (by rw [hR]; omega) jx_no ?_
  rintro _ _ ⟨rfl, rfl⟩
  show J X ((200 + 20 * nn) + 11) ((8000 + 80 * nn) + 64) g2 458 [(5, .int (nI k1)), (4, .int (nI (7 * nn))), (3, .ref oo), (2, .ref m), (1, .ref x), (0, .ref b)] [.int (nI k1)]
  refine j_iload hX dL_law_458 0 rfl ?_
  refine j_icmp_eq hX 465 dL_law_460 (by decide) (fun _ => ?_) (fun c_460 => absurd (by rfl) c_460)
  refine j_goto hX 1423 dL_law_465 (by decide) ?_
  refine J.mono (kc' := 200 + 20 * (nn + 1)) (ks' := 8000 + 80 * (nn + 1)) ?_ (by omega) (by omega)
  refine j_sub [1, 2, 3, 4, 5] rfl ?_
  exact KEND g2 A1 Y1 ch1 N1 Q2 _ fi2 F2 Od2 f hC2 hS2 hA2 hd2 ho2 hI1

set_option maxRecDepth 20000 in
set_option maxHeartbeats 1600000 in
theorem law_both (l : Launch) (hlt : l.stackTraces = false) (X : Cx) (hX : OK X cL_law RL) (hl : xl X = l) (hn : xn X = 8) (hL : xlev X = 11) (hR : xR X = room_1) (hk0 : ∀ q, kF (xK X) q = none) (b L : Nat) (sc : Nat → Int32) (hsc : Scr X b L sc) (hL9 : L ≤ 3584) (x m oo nn : Nat) (hnn : 7 * nn + 7 ≤ L) (g : Wd) (A : Ab) (Y : Lt) (ch : Nat → Int32) (N : Nat → Bg) (Q : Nat → Nat) (th fi : Int32) (F : Nat → Nat → Int32) (Od : List Nat) (f : Nat → Int64) (hC : CS (xK X) g x A Y ch (fun _ => 0) N) (hS : RS (xK X) g m Q th (nI Od.length) fi F) (hA : RA A Od F) (hd : ∀ q, isM m Q q → ZN x A Y q) (ho : g oo = some (aJ (xK X) 1 f)) (hI : Inv A) (KEND : ∀ (g : Wd) (A : Ab) (Y : Lt) (ch : Nat → Int32) (N : Nat → Bg) (Q : Nat → Nat) (th fi : Int32) (F : Nat → Nat → Int32) (Od : List Nat) (f : Nat → Int64), CS (xK X) g x A Y ch (fun _ => 0) N → RS (xK X) g m Q th (nI Od.length) fi F → RA A Od F → (∀ q, isM m Q q → ZN x A Y q) → g oo = some (aJ (xK X) 1 f) → Inv A → J X (200 + 20 * (nn + 1)) (8000 + 80 * (nn + 1)) g 1423 [(4, .int (nI (7 * nn))), (3, .ref oo), (2, .ref m), (1, .ref x), (0, .ref b)] []) : J X (200 + 20 * nn) (8000 + 80 * nn) g 468 [(4, .int (nI (7 * nn))), (3, .ref oo), (2, .ref m), (1, .ref x), (0, .ref b)] [] := by
  subst hl
  have hrc : room_1.cells = 601024 := rfl
  have hrs : room_1.slots = 7293034 := rfl
  have hnb : nn ≤ 512 := by omega
  have hzo : ZN x A Y oo := hC.znJ ho
  refine j_aload_n hX dL_law_468 3 rfl ?_
  refine j_aload_n hX dL_law_469 4 rfl ?_
  refine j_iload hX dL_law_470 0 rfl ?_
  refine j_iconst (v := nI 1) hX dL_law_472 (by decide) ?_
  refine j_iadd hX dL_law_473 ?_
  refine j_eqi (y := nI (7 * nn + 1)) (nI_add _ 1) ?_
  refine j_sld hX hsc (7 * nn + 1) (rfl) (by omega) (by omega) dL_law_474 ?_
  refine j_aload_n hX dL_law_475 4 rfl ?_
  refine j_iload hX dL_law_476 0 rfl ?_
  refine j_iconst (v := nI 2) hX dL_law_478 (by decide) ?_
  refine j_iadd hX dL_law_479 ?_
  refine j_eqi (y := nI (7 * nn + 2)) (nI_add _ 2) ?_
  refine j_sld hX hsc (7 * nn + 2) (rfl) (by omega) (by omega) dL_law_480 ?_
  refine j_aload_n hX dL_law_481 4 rfl ?_
  refine j_iload hX dL_law_482 0 rfl ?_
  refine j_iconst (v := nI 3) hX dL_law_484 (by decide) ?_
  refine j_iadd hX dL_law_485 ?_
  refine j_eqi (y := nI (7 * nn + 3)) (nI_add _ 3) ?_
  refine j_sld hX hsc (7 * nn + 3) (rfl) (by omega) (by omega) dL_law_486 ?_
  refine j_aload_n hX dL_law_487 4 rfl ?_
  refine j_iload hX dL_law_488 0 rfl ?_
  refine j_iconst (v := nI 4) hX dL_law_490 (by decide) ?_
  refine j_iadd hX dL_law_491 ?_
  refine j_eqi (y := nI (7 * nn + 4)) (nI_add _ 4) ?_
  refine j_sld hX hsc (7 * nn + 4) (rfl) (by omega) (by omega) dL_law_492 ?_
  refine j_if_eq hX 500 dL_law_493 (by decide) (fun c_493 => ?_) (fun c_493 => ?_)
  · refine j_iconst (v := b01 false) hX dL_law_500 (by decide) ?_
    refine j_callSH (As := [.ref x, .int (sc (7 * nn + 1)), .int (sc (7 * nn + 2)), .int (sc (7 * nn + 3)), .int (b01 false)]) (rest := []) hX (CtH.re (c_L_both (xl X) (reF (xK X) (frm (fun q => ZN x A Y q) g)) g hlt x A Y ch N (hC.frm (fun q hq => hq)) hI (sc (7 * nn + 1)) (sc (7 * nn + 2)) (sc (7 * nn + 3)) false)) lk_L_105 wS_L_both wN_L wH_L_both hd_L_both.2 rfl (by rw [hL]; decide) (by decide) rfl (Nat.le_of_ble_eq_true rfl) dL_law_501 (by rw [hR]; omega) (by rw [hR]; omega) jx_no ?_
    rintro _ g1 ⟨k1, A1, rfl, hO1, Y1, ch1, N1, hC1⟩
    have ho1 := hC1.fr.1 oo _ (frm_get hzo ho)
    obtain ⟨hC1, hS1, hd1⟩ := law_c hk0 hS (P := (fun q => ZN x A Y q)) hd hC1
    have hI1 := bothO_inv hI hO1
    show J X ((200 + 20 * nn) + 9) ((8000 + 80 * nn) + 50) g1 504 [(4, .int (nI (7 * nn))), (3, .ref oo), (2, .ref m), (1, .ref x), (0, .ref b)] [.int (nI k1)]
    refine j_istore (lv' := [(5, .int (nI k1)), (4, .int (nI (7 * nn))), (3, .ref oo), (2, .ref m), (1, .ref x), (0, .ref b)]) hX dL_law_504 (by rw [hn]; decide) rfl ?_
    refine j_aload_n hX dL_law_506 3 rfl ?_
    refine j_aload_n hX dL_law_507 5 rfl ?_
    refine j_iload hX dL_law_508 1 rfl ?_
    refine j_iconst (v := nI 1) hX dL_law_510 (by decide) ?_
    refine j_iadd hX dL_law_511 ?_
    refine j_eqi (y := nI (7 * nn + 1)) (nI_add _ 1) ?_
    refine j_sld hX hsc (7 * nn + 1) (rfl) (by omega) (by omega) dL_law_512 ?_
    refine j_aload_n hX dL_law_513 5 rfl ?_
    refine j_iload hX dL_law_514 1 rfl ?_
    refine j_iconst (v := nI 2) hX dL_law_516 (by decide) ?_
    refine j_iadd hX dL_law_517 ?_
    refine j_eqi (y := nI (7 * nn + 2)) (nI_add _ 2) ?_
    refine j_sld hX hsc (7 * nn + 2) (rfl) (by omega) (by omega) dL_law_518 ?_
    refine j_aload_n hX dL_law_519 5 rfl ?_
    refine j_iload hX dL_law_520 1 rfl ?_
    refine j_iconst (v := nI 3) hX dL_law_522 (by decide) ?_
    refine j_iadd hX dL_law_523 ?_
    refine j_eqi (y := nI (7 * nn + 3)) (nI_add _ 3) ?_
    refine j_sld hX hsc (7 * nn + 3) (rfl) (by omega) (by omega) dL_law_524 ?_
    refine j_aload_n hX dL_law_525 5 rfl ?_
    refine j_iload hX dL_law_526 1 rfl ?_
    refine j_iconst (v := nI 4) hX dL_law_528 (by decide) ?_
    refine j_iadd hX dL_law_529 ?_
    refine j_eqi (y := nI (7 * nn + 4)) (nI_add _ 4) ?_
    refine j_sld hX hsc (7 * nn + 4) (rfl) (by omega) (by omega) dL_law_530 ?_
    refine j_if_eq hX 538 dL_law_531 (by decide) (fun _ => ?_) (fun c_531 => absurd c_493 c_531)
    refine j_iconst (v := b01 false) hX dL_law_538 (by decide) ?_
    refine j_callV (As := [.int (sc (7 * nn + 1)), .int (sc (7 * nn + 2)), .int (sc (7 * nn + 3)), .int (b01 false)]) (rest := []) hX (Ct.re (c_X11_both (xl X) (reF (xK X) (frm (fun q => ¬ isM m Q q) g1)) g1 m Q th fi F Od hS1.frm A hI hA (sc (7 * nn + 1)) (sc (7 * nn + 2)) (sc (7 * nn + 3)) false)) hS1.1 rfl lk_L_108 wI_X11_both wV_X11_X11_both wN_X11 wC_X11_both hd_X11_both rfl (by rw [hL]; decide) (by decide) rfl (Nat.le_of_ble_eq_true rfl) dL_law_539 (by rw [hR]; omega) (by rw [hR]; omega) jx_no ?_
    rintro _ g2 ⟨rfl, k2, A2, hO2, Q2, Od2, fi2, F2, hS2, hA2⟩
    obtain ⟨hC2, hS2, hd2, hkp⟩ := law_m hk0 hC1 hd1 hS2
    obtain ⟨ek, eA⟩ := detV hO1 hO2
    rw [← ek] at hS2
    rw [← eA] at hA2
    have ho2 := hkp oo _ ho1 (hS1.noJ ho1)
    show J X ((200 + 20 * nn) + 9) ((8000 + 80 * nn) + 50) g2 542 [(5, .int (nI k1)), (4, .int (nI (7 * nn))), (3, .ref oo), (2, .ref m), (1, .ref x), (0, .ref b)] []
    refine j_aload_n hX dL_law_542 3 rfl ?_
    refine j_callV (As := []) (rest := []) hX (c_X11_thrown (xl X) (xK X) g2 m Q2 (nI k1) (nI Od2.length) fi2 F2 hS2) hS2.1 rfl lk_L_89 wI_X11_thrown wV_X11_X11_thrown wN_X11 wC_X11_thrown hd_X11_thrown rfl (by rw [hL]; decide) (by decide) rfl (Nat.le_of_ble_eq_true rfl) dL_law_543 (by rw [hR]; omega) (by rw [hR]; omega) jx_no ?_
    rintro _ _ ⟨rfl, rfl⟩
    show J X ((200 + 20 * nn) + 9) ((8000 + 80 * nn) + 50) g2 546 [(5, .int (nI k1)), (4, .int (nI (7 * nn))), (3, .ref oo), (2, .ref m), (1, .ref x), (0, .ref b)] [.int (nI k1)]
    refine j_iload hX dL_law_546 0 rfl ?_
    refine j_icmp_eq hX 553 dL_law_548 (by decide) (fun _ => ?_) (fun c_548 => absurd (by rfl) c_548)
    refine j_goto hX 1423 dL_law_553 (by decide) ?_
    refine J.mono (kc' := 200 + 20 * (nn + 1)) (ks' := 8000 + 80 * (nn + 1)) ?_ (by omega) (by omega)
    refine j_sub [1, 2, 3, 4, 5] rfl ?_
    exact KEND g2 A1 Y1 ch1 N1 Q2 _ fi2 F2 Od2 f hC2 hS2 hA2 hd2 ho2 hI1
  · refine j_iconst (v := b01 true) hX dL_law_496 (by decide) ?_
    refine j_goto hX 501 dL_law_497 (by decide) ?_
    refine j_callSH (As := [.ref x, .int (sc (7 * nn + 1)), .int (sc (7 * nn + 2)), .int (sc (7 * nn + 3)), .int (b01 true)]) (rest := []) hX (CtH.re (c_L_both (xl X) (reF (xK X) (frm (fun q => ZN x A Y q) g)) g hlt x A Y ch N (hC.frm (fun q hq => hq)) hI (sc (7 * nn + 1)) (sc (7 * nn + 2)) (sc (7 * nn + 3)) true)) lk_L_105 wS_L_both wN_L wH_L_both hd_L_both.2 rfl (by rw [hL]; decide) (by decide) rfl (Nat.le_of_ble_eq_true rfl) dL_law_501 (by rw [hR]; omega) (by rw [hR]; omega) jx_no ?_
    rintro _ g1 ⟨k1, A1, rfl, hO1, Y1, ch1, N1, hC1⟩
    have ho1 := hC1.fr.1 oo _ (frm_get hzo ho)
    obtain ⟨hC1, hS1, hd1⟩ := law_c hk0 hS (P := (fun q => ZN x A Y q)) hd hC1
    have hI1 := bothO_inv hI hO1
    show J X ((200 + 20 * nn) + 9) ((8000 + 80 * nn) + 50) g1 504 [(4, .int (nI (7 * nn))), (3, .ref oo), (2, .ref m), (1, .ref x), (0, .ref b)] [.int (nI k1)]
    refine j_istore (lv' := [(5, .int (nI k1)), (4, .int (nI (7 * nn))), (3, .ref oo), (2, .ref m), (1, .ref x), (0, .ref b)]) hX dL_law_504 (by rw [hn]; decide) rfl ?_
    refine j_aload_n hX dL_law_506 3 rfl ?_
    refine j_aload_n hX dL_law_507 5 rfl ?_
    refine j_iload hX dL_law_508 1 rfl ?_
    refine j_iconst (v := nI 1) hX dL_law_510 (by decide) ?_
    refine j_iadd hX dL_law_511 ?_
    refine j_eqi (y := nI (7 * nn + 1)) (nI_add _ 1) ?_
    refine j_sld hX hsc (7 * nn + 1) (rfl) (by omega) (by omega) dL_law_512 ?_
    refine j_aload_n hX dL_law_513 5 rfl ?_
    refine j_iload hX dL_law_514 1 rfl ?_
    refine j_iconst (v := nI 2) hX dL_law_516 (by decide) ?_
    refine j_iadd hX dL_law_517 ?_
    refine j_eqi (y := nI (7 * nn + 2)) (nI_add _ 2) ?_
    refine j_sld hX hsc (7 * nn + 2) (rfl) (by omega) (by omega) dL_law_518 ?_
    refine j_aload_n hX dL_law_519 5 rfl ?_
    refine j_iload hX dL_law_520 1 rfl ?_
    refine j_iconst (v := nI 3) hX dL_law_522 (by decide) ?_
    refine j_iadd hX dL_law_523 ?_
    refine j_eqi (y := nI (7 * nn + 3)) (nI_add _ 3) ?_
    refine j_sld hX hsc (7 * nn + 3) (rfl) (by omega) (by omega) dL_law_524 ?_
    refine j_aload_n hX dL_law_525 5 rfl ?_
    refine j_iload hX dL_law_526 1 rfl ?_
    refine j_iconst (v := nI 4) hX dL_law_528 (by decide) ?_
    refine j_iadd hX dL_law_529 ?_
    refine j_eqi (y := nI (7 * nn + 4)) (nI_add _ 4) ?_
    refine j_sld hX hsc (7 * nn + 4) (rfl) (by omega) (by omega) dL_law_530 ?_
    refine j_if_eq hX 538 dL_law_531 (by decide) (fun c_531 => absurd c_531 c_493) (fun _ => ?_)
    refine j_iconst (v := b01 true) hX dL_law_534 (by decide) ?_
    refine j_goto hX 539 dL_law_535 (by decide) ?_
    refine j_callV (As := [.int (sc (7 * nn + 1)), .int (sc (7 * nn + 2)), .int (sc (7 * nn + 3)), .int (b01 true)]) (rest := []) hX (Ct.re (c_X11_both (xl X) (reF (xK X) (frm (fun q => ¬ isM m Q q) g1)) g1 m Q th fi F Od hS1.frm A hI hA (sc (7 * nn + 1)) (sc (7 * nn + 2)) (sc (7 * nn + 3)) true)) hS1.1 rfl lk_L_108 wI_X11_both wV_X11_X11_both wN_X11 wC_X11_both hd_X11_both rfl (by rw [hL]; decide) (by decide) rfl (Nat.le_of_ble_eq_true rfl) dL_law_539 (by rw [hR]; omega) (by rw [hR]; omega) jx_no ?_
    rintro _ g2 ⟨rfl, k2, A2, hO2, Q2, Od2, fi2, F2, hS2, hA2⟩
    obtain ⟨hC2, hS2, hd2, hkp⟩ := law_m hk0 hC1 hd1 hS2
    obtain ⟨ek, eA⟩ := detV hO1 hO2
    rw [← ek] at hS2
    rw [← eA] at hA2
    have ho2 := hkp oo _ ho1 (hS1.noJ ho1)
    show J X ((200 + 20 * nn) + 9) ((8000 + 80 * nn) + 50) g2 542 [(5, .int (nI k1)), (4, .int (nI (7 * nn))), (3, .ref oo), (2, .ref m), (1, .ref x), (0, .ref b)] []
    refine j_aload_n hX dL_law_542 3 rfl ?_
    refine j_callV (As := []) (rest := []) hX (c_X11_thrown (xl X) (xK X) g2 m Q2 (nI k1) (nI Od2.length) fi2 F2 hS2) hS2.1 rfl lk_L_89 wI_X11_thrown wV_X11_X11_thrown wN_X11 wC_X11_thrown hd_X11_thrown rfl (by rw [hL]; decide) (by decide) rfl (Nat.le_of_ble_eq_true rfl) dL_law_543 (by rw [hR]; omega) (by rw [hR]; omega) jx_no ?_
    rintro _ _ ⟨rfl, rfl⟩
    show J X ((200 + 20 * nn) + 9) ((8000 + 80 * nn) + 50) g2 546 [(5, .int (nI k1)), (4, .int (nI (7 * nn))), (3, .ref oo), (2, .ref m), (1, .ref x), (0, .ref b)] [.int (nI k1)]
    refine j_iload hX dL_law_546 0 rfl ?_
    refine j_icmp_eq hX 553 dL_law_548 (by decide) (fun _ => ?_) (fun c_548 => absurd (by rfl) c_548)
    refine j_goto hX 1423 dL_law_553 (by decide) ?_
    refine J.mono (kc' := 200 + 20 * (nn + 1)) (ks' := 8000 + 80 * (nn + 1)) ?_ (by omega) (by omega)
    refine j_sub [1, 2, 3, 4, 5] rfl ?_
    exact KEND g2 A1 Y1 ch1 N1 Q2 _ fi2 F2 Od2 f hC2 hS2 hA2 hd2 ho2 hI1

set_option maxRecDepth 20000 in
set_option maxHeartbeats 1600000 in
theorem law_once (l : Launch) (hlt : l.stackTraces = false) (X : Cx) (hX : OK X cL_law RL) (hl : xl X = l) (hn : xn X = 8) (hL : xlev X = 11) (hR : xR X = room_1) (hk0 : ∀ q, kF (xK X) q = none) (b L : Nat) (sc : Nat → Int32) (hsc : Scr X b L sc) (hL9 : L ≤ 3584) (x m oo nn : Nat) (hnn : 7 * nn + 7 ≤ L) (g : Wd) (A : Ab) (Y : Lt) (ch : Nat → Int32) (N : Nat → Bg) (Q : Nat → Nat) (th fi : Int32) (F : Nat → Nat → Int32) (Od : List Nat) (f : Nat → Int64) (hC : CS (xK X) g x A Y ch (fun _ => 0) N) (hS : RS (xK X) g m Q th (nI Od.length) fi F) (hA : RA A Od F) (hd : ∀ q, isM m Q q → ZN x A Y q) (ho : g oo = some (aJ (xK X) 1 f)) (hI : Inv A) (KEND : ∀ (g : Wd) (A : Ab) (Y : Lt) (ch : Nat → Int32) (N : Nat → Bg) (Q : Nat → Nat) (th fi : Int32) (F : Nat → Nat → Int32) (Od : List Nat) (f : Nat → Int64), CS (xK X) g x A Y ch (fun _ => 0) N → RS (xK X) g m Q th (nI Od.length) fi F → RA A Od F → (∀ q, isM m Q q → ZN x A Y q) → g oo = some (aJ (xK X) 1 f) → Inv A → J X (200 + 20 * (nn + 1)) (8000 + 80 * (nn + 1)) g 1423 [(4, .int (nI (7 * nn))), (3, .ref oo), (2, .ref m), (1, .ref x), (0, .ref b)] []) : J X (200 + 20 * nn) (8000 + 80 * nn) g 556 [(4, .int (nI (7 * nn))), (3, .ref oo), (2, .ref m), (1, .ref x), (0, .ref b)] [] := by
  subst hl
  have hrc : room_1.cells = 601024 := rfl
  have hrs : room_1.slots = 7293034 := rfl
  have hnb : nn ≤ 512 := by omega
  have hzo : ZN x A Y oo := hC.znJ ho
  refine j_aload_n hX dL_law_556 3 rfl ?_
  refine j_aload_n hX dL_law_557 4 rfl ?_
  refine j_iload hX dL_law_558 0 rfl ?_
  refine j_iconst (v := nI 1) hX dL_law_560 (by decide) ?_
  refine j_iadd hX dL_law_561 ?_
  refine j_eqi (y := nI (7 * nn + 1)) (nI_add _ 1) ?_
  refine j_sld hX hsc (7 * nn + 1) (rfl) (by omega) (by omega) dL_law_562 ?_
  refine j_aload_n hX dL_law_563 4 rfl ?_
  refine j_iload hX dL_law_564 0 rfl ?_
  refine j_iconst (v := nI 2) hX dL_law_566 (by decide) ?_
  refine j_iadd hX dL_law_567 ?_
  refine j_eqi (y := nI (7 * nn + 2)) (nI_add _ 2) ?_
  refine j_sld hX hsc (7 * nn + 2) (rfl) (by omega) (by omega) dL_law_568 ?_
  refine j_callSH (As := [.ref x, .int (sc (7 * nn + 1)), .int (sc (7 * nn + 2))]) (rest := []) hX (CtH.re (c_L_once (xl X) (reF (xK X) (frm (fun q => ZN x A Y q) g)) g hlt x A Y ch N (hC.frm (fun q hq => hq)) hI (sc (7 * nn + 1)) (sc (7 * nn + 2)))) lk_L_109 wS_L_once wN_L wH_L_once hd_L_once.2 rfl (by rw [hL]; decide) (by decide) rfl (Nat.le_of_ble_eq_true rfl) dL_law_569 (by rw [hR]; omega) (by rw [hR]; omega) jx_no ?_
  rintro _ g1 ⟨k1, A1, rfl, hO1, Y1, ch1, N1, hC1⟩
  have ho1 := hC1.fr.1 oo _ (frm_get hzo ho)
  obtain ⟨hC1, hS1, hd1⟩ := law_c hk0 hS (P := (fun q => ZN x A Y q)) hd hC1
  have hI1 := onceO_inv hI hO1
  show J X ((200 + 20 * nn) + 7) ((8000 + 80 * nn) + 38) g1 572 [(4, .int (nI (7 * nn))), (3, .ref oo), (2, .ref m), (1, .ref x), (0, .ref b)] [.int (nI (if k1 = 4 then 3 else k1))]
  refine j_istore (lv' := [(5, .int (nI (if k1 = 4 then 3 else k1))), (4, .int (nI (7 * nn))), (3, .ref oo), (2, .ref m), (1, .ref x), (0, .ref b)]) hX dL_law_572 (by rw [hn]; decide) rfl ?_
  refine j_aload_n hX dL_law_574 3 rfl ?_
  refine j_aload_n hX dL_law_575 5 rfl ?_
  refine j_iload hX dL_law_576 1 rfl ?_
  refine j_iconst (v := nI 1) hX dL_law_578 (by decide) ?_
  refine j_iadd hX dL_law_579 ?_
  refine j_eqi (y := nI (7 * nn + 1)) (nI_add _ 1) ?_
  refine j_sld hX hsc (7 * nn + 1) (rfl) (by omega) (by omega) dL_law_580 ?_
  refine j_aload_n hX dL_law_581 5 rfl ?_
  refine j_iload hX dL_law_582 1 rfl ?_
  refine j_iconst (v := nI 2) hX dL_law_584 (by decide) ?_
  refine j_iadd hX dL_law_585 ?_
  refine j_eqi (y := nI (7 * nn + 2)) (nI_add _ 2) ?_
  refine j_sld hX hsc (7 * nn + 2) (rfl) (by omega) (by omega) dL_law_586 ?_
  refine j_callV (As := [.int (sc (7 * nn + 1)), .int (sc (7 * nn + 2))]) (rest := []) hX (Ct.re (c_X11_once (xl X) (reF (xK X) (frm (fun q => ¬ isM m Q q) g1)) g1 m Q th fi F Od hS1.frm A hI hA (sc (7 * nn + 1)) (sc (7 * nn + 2)))) hS1.1 rfl lk_L_111 wI_X11_once wV_X11_X11_once wN_X11 wC_X11_once hd_X11_once rfl (by rw [hL]; decide) (by decide) rfl (Nat.le_of_ble_eq_true rfl) dL_law_587 (by rw [hR]; omega) (by rw [hR]; omega) jx_no ?_
  rintro _ g2 ⟨rfl, k2, A2, hO2, Q2, Od2, fi2, F2, hS2, hA2⟩
  obtain ⟨hC2, hS2, hd2, hkp⟩ := law_m hk0 hC1 hd1 hS2
  obtain ⟨ek, eA⟩ := detV hO1 hO2
  rw [← ek] at hS2
  rw [← eA] at hA2
  have ho2 := hkp oo _ ho1 (hS1.noJ ho1)
  show J X ((200 + 20 * nn) + 7) ((8000 + 80 * nn) + 38) g2 590 [(5, .int (nI (if k1 = 4 then 3 else k1))), (4, .int (nI (7 * nn))), (3, .ref oo), (2, .ref m), (1, .ref x), (0, .ref b)] []
  refine j_aload_n hX dL_law_590 3 rfl ?_
  refine j_callV (As := []) (rest := []) hX (c_X11_thrown (xl X) (xK X) g2 m Q2 (nI (if k1 = 4 then 3 else k1)) (nI Od2.length) fi2 F2 hS2) hS2.1 rfl lk_L_89 wI_X11_thrown wV_X11_X11_thrown wN_X11 wC_X11_thrown hd_X11_thrown rfl (by rw [hL]; decide) (by decide) rfl (Nat.le_of_ble_eq_true rfl) dL_law_591 (by rw [hR]; omega) (by rw [hR]; omega) jx_no ?_
  rintro _ _ ⟨rfl, rfl⟩
  show J X ((200 + 20 * nn) + 7) ((8000 + 80 * nn) + 38) g2 594 [(5, .int (nI (if k1 = 4 then 3 else k1))), (4, .int (nI (7 * nn))), (3, .ref oo), (2, .ref m), (1, .ref x), (0, .ref b)] [.int (nI (if k1 = 4 then 3 else k1))]
  refine j_iload hX dL_law_594 0 rfl ?_
  refine j_icmp_eq hX 601 dL_law_596 (by decide) (fun _ => ?_) (fun c_596 => absurd (by rfl) c_596)
  refine j_goto hX 1423 dL_law_601 (by decide) ?_
  refine J.mono (kc' := 200 + 20 * (nn + 1)) (ks' := 8000 + 80 * (nn + 1)) ?_ (by omega) (by omega)
  refine j_sub [1, 2, 3, 4, 5] rfl ?_
  exact KEND g2 A1 Y1 ch1 N1 Q2 _ fi2 F2 Od2 f hC2 hS2 hA2 hd2 ho2 hI1

set_option maxRecDepth 20000 in
set_option maxHeartbeats 1600000 in
theorem law_group (l : Launch) (hlt : l.stackTraces = false) (X : Cx) (hX : OK X cL_law RL) (hl : xl X = l) (hn : xn X = 8) (hL : xlev X = 11) (hR : xR X = room_1) (hk0 : ∀ q, kF (xK X) q = none) (b L : Nat) (sc : Nat → Int32) (hsc : Scr X b L sc) (hL9 : L ≤ 3584) (x m oo nn : Nat) (hnn : 7 * nn + 7 ≤ L) (g : Wd) (A : Ab) (Y : Lt) (ch : Nat → Int32) (N : Nat → Bg) (Q : Nat → Nat) (th fi : Int32) (F : Nat → Nat → Int32) (Od : List Nat) (f : Nat → Int64) (hC : CS (xK X) g x A Y ch (fun _ => 0) N) (hS : RS (xK X) g m Q th (nI Od.length) fi F) (hA : RA A Od F) (hd : ∀ q, isM m Q q → ZN x A Y q) (ho : g oo = some (aJ (xK X) 1 f)) (hI : Inv A) (KEND : ∀ (g : Wd) (A : Ab) (Y : Lt) (ch : Nat → Int32) (N : Nat → Bg) (Q : Nat → Nat) (th fi : Int32) (F : Nat → Nat → Int32) (Od : List Nat) (f : Nat → Int64), CS (xK X) g x A Y ch (fun _ => 0) N → RS (xK X) g m Q th (nI Od.length) fi F → RA A Od F → (∀ q, isM m Q q → ZN x A Y q) → g oo = some (aJ (xK X) 1 f) → Inv A → J X (200 + 20 * (nn + 1)) (8000 + 80 * (nn + 1)) g 1423 [(4, .int (nI (7 * nn))), (3, .ref oo), (2, .ref m), (1, .ref x), (0, .ref b)] []) : J X (200 + 20 * nn) (8000 + 80 * nn) g 604 [(4, .int (nI (7 * nn))), (3, .ref oo), (2, .ref m), (1, .ref x), (0, .ref b)] [] := by
  subst hl
  have hrc : room_1.cells = 601024 := rfl
  have hrs : room_1.slots = 7293034 := rfl
  have hnb : nn ≤ 512 := by omega
  have hzo : ZN x A Y oo := hC.znJ ho
  refine j_aload_n hX dL_law_604 3 rfl ?_
  refine j_aload_n hX dL_law_605 4 rfl ?_
  refine j_iload hX dL_law_606 0 rfl ?_
  refine j_iconst (v := nI 1) hX dL_law_608 (by decide) ?_
  refine j_iadd hX dL_law_609 ?_
  refine j_eqi (y := nI (7 * nn + 1)) (nI_add _ 1) ?_
  refine j_sld hX hsc (7 * nn + 1) (rfl) (by omega) (by omega) dL_law_610 ?_
  refine j_aload_n hX dL_law_611 4 rfl ?_
  refine j_iload hX dL_law_612 0 rfl ?_
  refine j_iconst (v := nI 2) hX dL_law_614 (by decide) ?_
  refine j_iadd hX dL_law_615 ?_
  refine j_eqi (y := nI (7 * nn + 2)) (nI_add _ 2) ?_
  refine j_sld hX hsc (7 * nn + 2) (rfl) (by omega) (by omega) dL_law_616 ?_
  refine j_aload_n hX dL_law_617 4 rfl ?_
  refine j_iload hX dL_law_618 0 rfl ?_
  refine j_iconst (v := nI 3) hX dL_law_620 (by decide) ?_
  refine j_iadd hX dL_law_621 ?_
  refine j_eqi (y := nI (7 * nn + 3)) (nI_add _ 3) ?_
  refine j_sld hX hsc (7 * nn + 3) (rfl) (by omega) (by omega) dL_law_622 ?_
  refine j_aload_n hX dL_law_623 4 rfl ?_
  refine j_iload hX dL_law_624 0 rfl ?_
  refine j_iconst (v := nI 4) hX dL_law_626 (by decide) ?_
  refine j_iadd hX dL_law_627 ?_
  refine j_eqi (y := nI (7 * nn + 4)) (nI_add _ 4) ?_
  refine j_sld hX hsc (7 * nn + 4) (rfl) (by omega) (by omega) dL_law_628 ?_
  refine j_aload_n hX dL_law_629 4 rfl ?_
  refine j_iload hX dL_law_630 0 rfl ?_
  refine j_iconst (v := nI 5) hX dL_law_632 (by decide) ?_
  refine j_iadd hX dL_law_633 ?_
  refine j_eqi (y := nI (7 * nn + 5)) (nI_add _ 5) ?_
  refine j_sld hX hsc (7 * nn + 5) (rfl) (by omega) (by omega) dL_law_634 ?_
  refine j_callSH (As := [.ref x, .int (sc (7 * nn + 1)), .int (sc (7 * nn + 2)), .int (sc (7 * nn + 3)), .int (sc (7 * nn + 4)), .int (sc (7 * nn + 5))]) (rest := []) hX (CtH.re (c_L_group (xl X) (reF (xK X) (frm (fun q => ZN x A Y q) g)) g hlt x A Y ch N (hC.frm (fun q hq => hq)) hI (sc (7 * nn + 1)) (sc (7 * nn + 2)) (sc (7 * nn + 3)) (sc (7 * nn + 4)) (sc (7 * nn + 5)))) lk_L_112 wS_L_group wN_L wH_L_group hd_L_group.2 rfl (by rw [hL]; decide) (by decide) rfl (Nat.le_of_ble_eq_true rfl) dL_law_635 (by rw [hR]; omega) (by rw [hR]; omega) jx_no ?_
  rintro _ g1 ⟨k1, A1, rfl, hO1, Y1, ch1, N1, hC1⟩
  have ho1 := hC1.fr.1 oo _ (frm_get hzo ho)
  obtain ⟨hC1, hS1, hd1⟩ := law_c hk0 hS (P := (fun q => ZN x A Y q)) hd hC1
  have hI1 := groupO_inv hI hO1
  show J X ((200 + 20 * nn) + 9) ((8000 + 80 * nn) + 53) g1 638 [(4, .int (nI (7 * nn))), (3, .ref oo), (2, .ref m), (1, .ref x), (0, .ref b)] [.int (nI k1)]
  refine j_istore (lv' := [(5, .int (nI k1)), (4, .int (nI (7 * nn))), (3, .ref oo), (2, .ref m), (1, .ref x), (0, .ref b)]) hX dL_law_638 (by rw [hn]; decide) rfl ?_
  refine j_aload_n hX dL_law_640 3 rfl ?_
  refine j_aload_n hX dL_law_641 5 rfl ?_
  refine j_iload hX dL_law_642 1 rfl ?_
  refine j_iconst (v := nI 1) hX dL_law_644 (by decide) ?_
  refine j_iadd hX dL_law_645 ?_
  refine j_eqi (y := nI (7 * nn + 1)) (nI_add _ 1) ?_
  refine j_sld hX hsc (7 * nn + 1) (rfl) (by omega) (by omega) dL_law_646 ?_
  refine j_aload_n hX dL_law_647 5 rfl ?_
  refine j_iload hX dL_law_648 1 rfl ?_
  refine j_iconst (v := nI 2) hX dL_law_650 (by decide) ?_
  refine j_iadd hX dL_law_651 ?_
  refine j_eqi (y := nI (7 * nn + 2)) (nI_add _ 2) ?_
  refine j_sld hX hsc (7 * nn + 2) (rfl) (by omega) (by omega) dL_law_652 ?_
  refine j_aload_n hX dL_law_653 5 rfl ?_
  refine j_iload hX dL_law_654 1 rfl ?_
  refine j_iconst (v := nI 3) hX dL_law_656 (by decide) ?_
  refine j_iadd hX dL_law_657 ?_
  refine j_eqi (y := nI (7 * nn + 3)) (nI_add _ 3) ?_
  refine j_sld hX hsc (7 * nn + 3) (rfl) (by omega) (by omega) dL_law_658 ?_
  refine j_aload_n hX dL_law_659 5 rfl ?_
  refine j_iload hX dL_law_660 1 rfl ?_
  refine j_iconst (v := nI 4) hX dL_law_662 (by decide) ?_
  refine j_iadd hX dL_law_663 ?_
  refine j_eqi (y := nI (7 * nn + 4)) (nI_add _ 4) ?_
  refine j_sld hX hsc (7 * nn + 4) (rfl) (by omega) (by omega) dL_law_664 ?_
  refine j_aload_n hX dL_law_665 5 rfl ?_
  refine j_iload hX dL_law_666 1 rfl ?_
  refine j_iconst (v := nI 5) hX dL_law_668 (by decide) ?_
  refine j_iadd hX dL_law_669 ?_
  refine j_eqi (y := nI (7 * nn + 5)) (nI_add _ 5) ?_
  refine j_sld hX hsc (7 * nn + 5) (rfl) (by omega) (by omega) dL_law_670 ?_
  refine j_callV (As := [.int (sc (7 * nn + 1)), .int (sc (7 * nn + 2)), .int (sc (7 * nn + 3)), .int (sc (7 * nn + 4)), .int (sc (7 * nn + 5))]) (rest := []) hX (Ct.re (c_X11_group (xl X) (reF (xK X) (frm (fun q => ¬ isM m Q q) g1)) g1 m Q th fi F Od hS1.frm A hI hA (sc (7 * nn + 1)) (sc (7 * nn + 2)) (sc (7 * nn + 3)) (sc (7 * nn + 4)) (sc (7 * nn + 5)))) hS1.1 rfl lk_L_114 wI_X11_group wV_X11_X11_group wN_X11 wC_X11_group hd_X11_group rfl (by rw [hL]; decide) (by decide) rfl (Nat.le_of_ble_eq_true rfl) dL_law_671 (by rw [hR]; omega) (by rw [hR]; omega) jx_no ?_
  rintro _ g2 ⟨rfl, k2, A2, hO2, Q2, Od2, fi2, F2, hS2, hA2⟩
  obtain ⟨hC2, hS2, hd2, hkp⟩ := law_m hk0 hC1 hd1 hS2
  obtain ⟨ek, eA⟩ := detV hO1 hO2
  rw [← ek] at hS2
  rw [← eA] at hA2
  have ho2 := hkp oo _ ho1 (hS1.noJ ho1)
  show J X ((200 + 20 * nn) + 9) ((8000 + 80 * nn) + 53) g2 674 [(5, .int (nI k1)), (4, .int (nI (7 * nn))), (3, .ref oo), (2, .ref m), (1, .ref x), (0, .ref b)] []
  refine j_aload_n hX dL_law_674 3 rfl ?_
  refine j_callV (As := []) (rest := []) hX (c_X11_thrown (xl X) (xK X) g2 m Q2 (nI k1) (nI Od2.length) fi2 F2 hS2) hS2.1 rfl lk_L_89 wI_X11_thrown wV_X11_X11_thrown wN_X11 wC_X11_thrown hd_X11_thrown rfl (by rw [hL]; decide) (by decide) rfl (Nat.le_of_ble_eq_true rfl) dL_law_675 (by rw [hR]; omega) (by rw [hR]; omega) jx_no ?_
  rintro _ _ ⟨rfl, rfl⟩
  show J X ((200 + 20 * nn) + 9) ((8000 + 80 * nn) + 53) g2 678 [(5, .int (nI k1)), (4, .int (nI (7 * nn))), (3, .ref oo), (2, .ref m), (1, .ref x), (0, .ref b)] [.int (nI k1)]
  refine j_iload hX dL_law_678 0 rfl ?_
  refine j_icmp_eq hX 685 dL_law_680 (by decide) (fun _ => ?_) (fun c_680 => absurd (by rfl) c_680)
  refine j_goto hX 1423 dL_law_685 (by decide) ?_
  refine J.mono (kc' := 200 + 20 * (nn + 1)) (ks' := 8000 + 80 * (nn + 1)) ?_ (by omega) (by omega)
  refine j_sub [1, 2, 3, 4, 5] rfl ?_
  exact KEND g2 A1 Y1 ch1 N1 Q2 _ fi2 F2 Od2 f hC2 hS2 hA2 hd2 ho2 hI1

set_option maxRecDepth 20000 in
set_option maxHeartbeats 1600000 in
theorem law_drop (l : Launch) (hlt : l.stackTraces = false) (X : Cx) (hX : OK X cL_law RL) (hl : xl X = l) (hn : xn X = 8) (hL : xlev X = 11) (hR : xR X = room_1) (hk0 : ∀ q, kF (xK X) q = none) (b L : Nat) (sc : Nat → Int32) (hsc : Scr X b L sc) (hL9 : L ≤ 3584) (x m oo nn : Nat) (hnn : 7 * nn + 7 ≤ L) (g : Wd) (A : Ab) (Y : Lt) (ch : Nat → Int32) (N : Nat → Bg) (Q : Nat → Nat) (th fi : Int32) (F : Nat → Nat → Int32) (Od : List Nat) (f : Nat → Int64) (hC : CS (xK X) g x A Y ch (fun _ => 0) N) (hS : RS (xK X) g m Q th (nI Od.length) fi F) (hA : RA A Od F) (hd : ∀ q, isM m Q q → ZN x A Y q) (ho : g oo = some (aJ (xK X) 1 f)) (hI : Inv A) (KEND : ∀ (g : Wd) (A : Ab) (Y : Lt) (ch : Nat → Int32) (N : Nat → Bg) (Q : Nat → Nat) (th fi : Int32) (F : Nat → Nat → Int32) (Od : List Nat) (f : Nat → Int64), CS (xK X) g x A Y ch (fun _ => 0) N → RS (xK X) g m Q th (nI Od.length) fi F → RA A Od F → (∀ q, isM m Q q → ZN x A Y q) → g oo = some (aJ (xK X) 1 f) → Inv A → J X (200 + 20 * (nn + 1)) (8000 + 80 * (nn + 1)) g 1423 [(4, .int (nI (7 * nn))), (3, .ref oo), (2, .ref m), (1, .ref x), (0, .ref b)] []) : J X (200 + 20 * nn) (8000 + 80 * nn) g 688 [(4, .int (nI (7 * nn))), (3, .ref oo), (2, .ref m), (1, .ref x), (0, .ref b)] [] := by
  subst hl
  have hrc : room_1.cells = 601024 := rfl
  have hrs : room_1.slots = 7293034 := rfl
  have hnb : nn ≤ 512 := by omega
  have hzo : ZN x A Y oo := hC.znJ ho
  refine j_aload_n hX dL_law_688 3 rfl ?_
  refine j_aload_n hX dL_law_689 4 rfl ?_
  refine j_iload hX dL_law_690 0 rfl ?_
  refine j_iconst (v := nI 1) hX dL_law_692 (by decide) ?_
  refine j_iadd hX dL_law_693 ?_
  refine j_eqi (y := nI (7 * nn + 1)) (nI_add _ 1) ?_
  refine j_sld hX hsc (7 * nn + 1) (rfl) (by omega) (by omega) dL_law_694 ?_
  refine j_callSH (As := [.ref x, .int (sc (7 * nn + 1))]) (rest := []) hX (CtH.re (c_L_drop (xl X) (reF (xK X) (frm (fun q => ZN x A Y q) g)) g hlt x A Y ch N (hC.frm (fun q hq => hq)) hI (sc (7 * nn + 1)))) lk_L_115 wS_L_drop wN_L wH_L_drop hd_L_drop.2 rfl (by rw [hL]; decide) (by decide) rfl (Nat.le_of_ble_eq_true rfl) dL_law_695 (by rw [hR]; omega) (by rw [hR]; omega) jx_no ?_
  rintro _ g1 ⟨k1, A1, rfl, hO1, Y1, ch1, N1, hC1⟩
  have ho1 := hC1.fr.1 oo _ (frm_get hzo ho)
  obtain ⟨hC1, hS1, hd1⟩ := law_c hk0 hS (P := (fun q => ZN x A Y q)) hd hC1
  have hI1 := dropO_inv hI hO1
  show J X ((200 + 20 * nn) + 3) ((8000 + 80 * nn) + 18) g1 698 [(4, .int (nI (7 * nn))), (3, .ref oo), (2, .ref m), (1, .ref x), (0, .ref b)] [.int (nI k1)]
  refine j_istore (lv' := [(5, .int (nI k1)), (4, .int (nI (7 * nn))), (3, .ref oo), (2, .ref m), (1, .ref x), (0, .ref b)]) hX dL_law_698 (by rw [hn]; decide) rfl ?_
  refine j_aload_n hX dL_law_700 3 rfl ?_
  refine j_aload_n hX dL_law_701 5 rfl ?_
  refine j_iload hX dL_law_702 1 rfl ?_
  refine j_iconst (v := nI 1) hX dL_law_704 (by decide) ?_
  refine j_iadd hX dL_law_705 ?_
  refine j_eqi (y := nI (7 * nn + 1)) (nI_add _ 1) ?_
  refine j_sld hX hsc (7 * nn + 1) (rfl) (by omega) (by omega) dL_law_706 ?_
  refine j_callV (As := [.int (sc (7 * nn + 1))]) (rest := []) hX (Ct.re (c_X11_drop (xl X) (reF (xK X) (frm (fun q => ¬ isM m Q q) g1)) g1 m Q th fi F Od hS1.frm A hI hA (sc (7 * nn + 1)))) hS1.1 rfl lk_L_118 wI_X11_drop wV_X11_X11_drop wN_X11 wC_X11_drop hd_X11_drop rfl (by rw [hL]; decide) (by decide) rfl (Nat.le_of_ble_eq_true rfl) dL_law_707 (by rw [hR]; omega) (by rw [hR]; omega) jx_no ?_
  rintro _ g2 ⟨rfl, k2, A2, hO2, Q2, Od2, fi2, F2, hS2, hA2⟩
  obtain ⟨hC2, hS2, hd2, hkp⟩ := law_m hk0 hC1 hd1 hS2
  obtain ⟨ek, eA⟩ := detU hO1 hO2
  rw [← ek] at hS2
  rw [← eA] at hA2
  have ho2 := hkp oo _ ho1 (hS1.noJ ho1)
  show J X ((200 + 20 * nn) + 3) ((8000 + 80 * nn) + 18) g2 710 [(5, .int (nI k1)), (4, .int (nI (7 * nn))), (3, .ref oo), (2, .ref m), (1, .ref x), (0, .ref b)] []
  refine j_aload_n hX dL_law_710 3 rfl ?_
  refine j_callV (As := []) (rest := []) hX (c_X11_thrown (xl X) (xK X) g2 m Q2 (nI k1) (nI Od2.length) fi2 F2 hS2) hS2.1 rfl lk_L_89 wI_X11_thrown wV_X11_X11_thrown wN_X11 wC_X11_thrown hd_X11_thrown rfl (by rw [hL]; decide) (by decide) rfl (Nat.le_of_ble_eq_true rfl) dL_law_711 (by rw [hR]; omega) (by rw [hR]; omega) jx_no ?_
  rintro _ _ ⟨rfl, rfl⟩
  show J X ((200 + 20 * nn) + 3) ((8000 + 80 * nn) + 18) g2 714 [(5, .int (nI k1)), (4, .int (nI (7 * nn))), (3, .ref oo), (2, .ref m), (1, .ref x), (0, .ref b)] [.int (nI k1)]
  refine j_iload hX dL_law_714 0 rfl ?_
  refine j_icmp_eq hX 721 dL_law_716 (by decide) (fun _ => ?_) (fun c_716 => absurd (by rfl) c_716)
  refine j_goto hX 1423 dL_law_721 (by decide) ?_
  refine J.mono (kc' := 200 + 20 * (nn + 1)) (ks' := 8000 + 80 * (nn + 1)) ?_ (by omega) (by omega)
  refine j_sub [1, 2, 3, 4, 5] rfl ?_
  exact KEND g2 A1 Y1 ch1 N1 Q2 _ fi2 F2 Od2 f hC2 hS2 hA2 hd2 ho2 hI1

set_option maxRecDepth 20000 in
set_option maxHeartbeats 1600000 in
theorem law_put (l : Launch) (hlt : l.stackTraces = false) (X : Cx) (hX : OK X cL_law RL) (hl : xl X = l) (hn : xn X = 8) (hL : xlev X = 11) (hR : xR X = room_1) (hk0 : ∀ q, kF (xK X) q = none) (b L : Nat) (sc : Nat → Int32) (hsc : Scr X b L sc) (hL9 : L ≤ 3584) (x m oo nn : Nat) (hnn : 7 * nn + 7 ≤ L) (g : Wd) (A : Ab) (Y : Lt) (ch : Nat → Int32) (N : Nat → Bg) (Q : Nat → Nat) (th fi : Int32) (F : Nat → Nat → Int32) (Od : List Nat) (f : Nat → Int64) (hC : CS (xK X) g x A Y ch (fun _ => 0) N) (hS : RS (xK X) g m Q th (nI Od.length) fi F) (hA : RA A Od F) (hd : ∀ q, isM m Q q → ZN x A Y q) (ho : g oo = some (aJ (xK X) 1 f)) (hI : Inv A) (KEND : ∀ (g : Wd) (A : Ab) (Y : Lt) (ch : Nat → Int32) (N : Nat → Bg) (Q : Nat → Nat) (th fi : Int32) (F : Nat → Nat → Int32) (Od : List Nat) (f : Nat → Int64), CS (xK X) g x A Y ch (fun _ => 0) N → RS (xK X) g m Q th (nI Od.length) fi F → RA A Od F → (∀ q, isM m Q q → ZN x A Y q) → g oo = some (aJ (xK X) 1 f) → Inv A → J X (200 + 20 * (nn + 1)) (8000 + 80 * (nn + 1)) g 1423 [(4, .int (nI (7 * nn))), (3, .ref oo), (2, .ref m), (1, .ref x), (0, .ref b)] []) : J X (200 + 20 * nn) (8000 + 80 * nn) g 724 [(4, .int (nI (7 * nn))), (3, .ref oo), (2, .ref m), (1, .ref x), (0, .ref b)] [] := by
  subst hl
  have hrc : room_1.cells = 601024 := rfl
  have hrs : room_1.slots = 7293034 := rfl
  have hnb : nn ≤ 512 := by omega
  have hzo : ZN x A Y oo := hC.znJ ho
  have hkF : kF (reF (xK X) (frm (fun q => ZN x A Y q ∧ q ≠ oo) g)) oo = none := by
    show frm (fun q => ZN x A Y q ∧ q ≠ oo) g oo = none
    unfold frm
    rw [if_neg (fun z => z.2 rfl)]
  refine j_aload_n hX dL_law_724 3 rfl ?_
  refine j_aload_n hX dL_law_725 4 rfl ?_
  refine j_iload hX dL_law_726 0 rfl ?_
  refine j_iconst (v := nI 1) hX dL_law_728 (by decide) ?_
  refine j_iadd hX dL_law_729 ?_
  refine j_eqi (y := nI (7 * nn + 1)) (nI_add _ 1) ?_
  refine j_sld hX hsc (7 * nn + 1) (rfl) (by omega) (by omega) dL_law_730 ?_
  refine j_aload_n hX dL_law_731 4 rfl ?_
  refine j_iload hX dL_law_732 0 rfl ?_
  refine j_iconst (v := nI 2) hX dL_law_734 (by decide) ?_
  refine j_iadd hX dL_law_735 ?_
  refine j_eqi (y := nI (7 * nn + 2)) (nI_add _ 2) ?_
  refine j_sld hX hsc (7 * nn + 2) (rfl) (by omega) (by omega) dL_law_736 ?_
  refine j_aload_n hX dL_law_737 4 rfl ?_
  refine j_iload hX dL_law_738 0 rfl ?_
  refine j_iconst (v := nI 3) hX dL_law_740 (by decide) ?_
  refine j_iadd hX dL_law_741 ?_
  refine j_eqi (y := nI (7 * nn + 3)) (nI_add _ 3) ?_
  refine j_sld hX hsc (7 * nn + 3) (rfl) (by omega) (by omega) dL_law_742 ?_
  refine j_aload_n hX dL_law_743 4 rfl ?_
  refine j_iload hX dL_law_744 0 rfl ?_
  refine j_iconst (v := nI 4) hX dL_law_746 (by decide) ?_
  refine j_iadd hX dL_law_747 ?_
  refine j_eqi (y := nI (7 * nn + 4)) (nI_add _ 4) ?_
  refine j_sld hX hsc (7 * nn + 4) (rfl) (by omega) (by omega) dL_law_748 ?_
  refine j_aload_n hX dL_law_749 4 rfl ?_
  refine j_iload hX dL_law_750 0 rfl ?_
  refine j_iconst (v := nI 5) hX dL_law_752 (by decide) ?_
  refine j_iadd hX dL_law_753 ?_
  refine j_eqi (y := nI (7 * nn + 5)) (nI_add _ 5) ?_
  refine j_sld hX hsc (7 * nn + 5) (rfl) (by omega) (by omega) dL_law_754 ?_
  refine j_aload_n hX dL_law_755 4 rfl ?_
  refine j_iload hX dL_law_756 0 rfl ?_
  refine j_bipush (v := nI 6) hX dL_law_758 (by decide) ?_
  refine j_iadd hX dL_law_760 ?_
  refine j_eqi (y := nI (7 * nn + 6)) (nI_add _ 6) ?_
  refine j_sld hX hsc (7 * nn + 6) (rfl) (by omega) (by omega) dL_law_761 ?_
  refine j_aload_n hX dL_law_762 1 rfl ?_
  refine j_callSH (As := [.ref x, .int (sc (7 * nn + 1)), .int (sc (7 * nn + 2)), .int (sc (7 * nn + 3)), .int (sc (7 * nn + 4)), .int (sc (7 * nn + 5)), .int (sc (7 * nn + 6)), .ref oo]) (rest := []) hX (CtH.re (c_L_put (xl X) (reF (xK X) (frm (fun q => ZN x A Y q ∧ q ≠ oo) g)) g hlt x A Y ch N (hC.frm (fun q hq => hq.1)) hI oo f ho hkF (sc (7 * nn + 1)) (sc (7 * nn + 2)) (sc (7 * nn + 3)) (sc (7 * nn + 4)) (sc (7 * nn + 5)) (sc (7 * nn + 6)))) lk_L_119 wS_L_put wN_L wH_L_put hd_L_put.2 rfl (by rw [hL]; decide) (by decide) rfl (Nat.le_of_ble_eq_true rfl) dL_law_763 (by rw [hR]; omega) (by rw [hR]; omega) jx_no ?_
  rintro _ g1 ⟨k1, A1, f1, rfl, hO1, ⟨Y1, ch1, N1, hC1⟩, ho1, hv1⟩
  obtain ⟨hC1, hS1, hd1⟩ := law_c hk0 hS (P := (fun q => ZN x A Y q ∧ q ≠ oo)) (fun q hq => ⟨hd q hq, fun z => hS.noJ ho (z ▸ hq)⟩) hC1
  have hI1 := putO_inv hI hO1
  show J X ((200 + 20 * nn) + 4) ((8000 + 80 * nn) + 24) g1 766 [(4, .int (nI (7 * nn))), (3, .ref oo), (2, .ref m), (1, .ref x), (0, .ref b)] [.int (nI k1)]
  refine j_istore (lv' := [(5, .int (nI k1)), (4, .int (nI (7 * nn))), (3, .ref oo), (2, .ref m), (1, .ref x), (0, .ref b)]) hX dL_law_766 (by rw [hn]; decide) rfl ?_
  refine j_aload_n hX dL_law_768 3 rfl ?_
  refine j_aload_n hX dL_law_769 5 rfl ?_
  refine j_iload hX dL_law_770 1 rfl ?_
  refine j_iconst (v := nI 1) hX dL_law_772 (by decide) ?_
  refine j_iadd hX dL_law_773 ?_
  refine j_eqi (y := nI (7 * nn + 1)) (nI_add _ 1) ?_
  refine j_sld hX hsc (7 * nn + 1) (rfl) (by omega) (by omega) dL_law_774 ?_
  refine j_aload_n hX dL_law_775 5 rfl ?_
  refine j_iload hX dL_law_776 1 rfl ?_
  refine j_iconst (v := nI 2) hX dL_law_778 (by decide) ?_
  refine j_iadd hX dL_law_779 ?_
  refine j_eqi (y := nI (7 * nn + 2)) (nI_add _ 2) ?_
  refine j_sld hX hsc (7 * nn + 2) (rfl) (by omega) (by omega) dL_law_780 ?_
  refine j_aload_n hX dL_law_781 5 rfl ?_
  refine j_iload hX dL_law_782 1 rfl ?_
  refine j_iconst (v := nI 3) hX dL_law_784 (by decide) ?_
  refine j_iadd hX dL_law_785 ?_
  refine j_eqi (y := nI (7 * nn + 3)) (nI_add _ 3) ?_
  refine j_sld hX hsc (7 * nn + 3) (rfl) (by omega) (by omega) dL_law_786 ?_
  refine j_aload_n hX dL_law_787 5 rfl ?_
  refine j_iload hX dL_law_788 1 rfl ?_
  refine j_iconst (v := nI 4) hX dL_law_790 (by decide) ?_
  refine j_iadd hX dL_law_791 ?_
  refine j_eqi (y := nI (7 * nn + 4)) (nI_add _ 4) ?_
  refine j_sld hX hsc (7 * nn + 4) (rfl) (by omega) (by omega) dL_law_792 ?_
  refine j_aload_n hX dL_law_793 5 rfl ?_
  refine j_iload hX dL_law_794 1 rfl ?_
  refine j_iconst (v := nI 5) hX dL_law_796 (by decide) ?_
  refine j_iadd hX dL_law_797 ?_
  refine j_eqi (y := nI (7 * nn + 5)) (nI_add _ 5) ?_
  refine j_sld hX hsc (7 * nn + 5) (rfl) (by omega) (by omega) dL_law_798 ?_
  refine j_aload_n hX dL_law_799 5 rfl ?_
  refine j_iload hX dL_law_800 1 rfl ?_
  refine j_bipush (v := nI 6) hX dL_law_802 (by decide) ?_
  refine j_iadd hX dL_law_804 ?_
  refine j_eqi (y := nI (7 * nn + 6)) (nI_add _ 6) ?_
  refine j_sld hX hsc (7 * nn + 6) (rfl) (by omega) (by omega) dL_law_805 ?_
  refine j_callV (As := [.int (sc (7 * nn + 1)), .int (sc (7 * nn + 2)), .int (sc (7 * nn + 3)), .int (sc (7 * nn + 4)), .int (sc (7 * nn + 5)), .int (sc (7 * nn + 6))]) (rest := []) hX (Ct.re (c_X11_put (xl X) (reF (xK X) (frm (fun q => ¬ isM m Q q) g1)) g1 m Q th fi F Od hS1.frm A hI hA (sc (7 * nn + 1)) (sc (7 * nn + 2)) (sc (7 * nn + 3)) (sc (7 * nn + 4)) (sc (7 * nn + 5)) (sc (7 * nn + 6)))) hS1.1 rfl lk_L_122 wI_X11_put wV_X11_X11_put wN_X11 wC_X11_put hd_X11_put rfl (by rw [hL]; decide) (by decide) rfl (Nat.le_of_ble_eq_true rfl) dL_law_806 (by rw [hR]; omega) (by rw [hR]; omega) jx_no ?_
  rintro _ g2 ⟨k2, v2, A2, rfl, hO2, ⟨Q2, Od2, fi2, F2, hS2, hA2⟩, hv2⟩
  obtain ⟨hC2, hS2, hd2, hkp⟩ := law_m hk0 hC1 hd1 hS2
  obtain ⟨ek, eA⟩ := detN hI hO1 hO2
  rw [← ek] at hS2 hv2
  rw [← eA] at hA2 hv2
  have hk4 := OutG.le hO1
  have ho2 := hkp oo _ ho1 (hS1.noJ ho1)
  show J X ((200 + 20 * nn) + 4) ((8000 + 80 * nn) + 24) g2 809 [(5, .int (nI k1)), (4, .int (nI (7 * nn))), (3, .ref oo), (2, .ref m), (1, .ref x), (0, .ref b)] [.int v2]
  refine j_istore (lv' := [(6, .int v2), (5, .int (nI k1)), (4, .int (nI (7 * nn))), (3, .ref oo), (2, .ref m), (1, .ref x), (0, .ref b)]) hX dL_law_809 (by rw [hn]; decide) rfl ?_
  refine j_aload_n hX dL_law_811 4 rfl ?_
  refine j_callV (As := []) (rest := []) hX (c_X11_thrown (xl X) (xK X) g2 m Q2 (nI k1) (nI Od2.length) fi2 F2 hS2) hS2.1 rfl lk_L_89 wI_X11_thrown wV_X11_X11_thrown wN_X11 wC_X11_thrown hd_X11_thrown rfl (by rw [hL]; decide) (by decide) rfl (Nat.le_of_ble_eq_true rfl) dL_law_812 (by rw [hR]; omega) (by rw [hR]; omega) jx_no ?_
  rintro _ _ ⟨rfl, rfl⟩
  show J X ((200 + 20 * nn) + 4) ((8000 + 80 * nn) + 24) g2 815 [(6, .int v2), (5, .int (nI k1)), (4, .int (nI (7 * nn))), (3, .ref oo), (2, .ref m), (1, .ref x), (0, .ref b)] [.int (nI k1)]
  refine j_iload hX dL_law_815 1 rfl ?_
  refine j_icmp_eq hX 822 dL_law_817 (by decide) (fun _ => ?_) (fun c_817 => absurd (by rfl) c_817)
  refine j_iload hX dL_law_822 1 rfl ?_
  refine j_if_ne hX 839 dL_law_824 (by decide) (fun c_824 => ?_) (fun c_824 => ?_)
  · refine j_goto hX 1423 dL_law_839 (by decide) ?_
    refine J.mono (kc' := 200 + 20 * (nn + 1)) (ks' := 8000 + 80 * (nn + 1)) ?_ (by omega) (by omega)
    refine j_sub [2, 3, 4, 5, 6] rfl ?_
    exact KEND g2 A1 Y1 ch1 N1 Q2 _ fi2 F2 Od2 f1 hC2 hS2 hA2 hd2 ho2 hI1
  · have hk00 : k1 = 0 := (nI_eq (by omega) (by decide)).mp c_824
    refine j_aload_n hX dL_law_827 3 rfl ?_
    refine j_iconst (v := nI 0) hX dL_law_828 (by decide) ?_
    refine j_laldN hX ho2 (0) (rfl) (by decide) (by decide) dL_law_829 ?_
    refine j_iload hX dL_law_830 0 rfl ?_
    refine j_i2l hX dL_law_832 ?_
    refine j_lcmp hX dL_law_833 ?_
    refine j_if_eq hX 839 dL_law_834 (by decide) (fun _ => ?_) (fun c_834 => absurd (by rw [lg_cmp_eq, hv1 hk00, hv2 hk00]) c_834)
    refine j_goto hX 1423 dL_law_839 (by decide) ?_
    refine J.mono (kc' := 200 + 20 * (nn + 1)) (ks' := 8000 + 80 * (nn + 1)) ?_ (by omega) (by omega)
    refine j_sub [2, 3, 4, 5, 6] rfl ?_
    exact KEND g2 A1 Y1 ch1 N1 Q2 _ fi2 F2 Od2 f1 hC2 hS2 hA2 hd2 ho2 hI1

set_option maxRecDepth 20000 in
set_option maxHeartbeats 1600000 in
theorem law_fill (l : Launch) (hlt : l.stackTraces = false) (X : Cx) (hX : OK X cL_law RL) (hl : xl X = l) (hn : xn X = 8) (hL : xlev X = 11) (hR : xR X = room_1) (hk0 : ∀ q, kF (xK X) q = none) (b L : Nat) (sc : Nat → Int32) (hsc : Scr X b L sc) (hL9 : L ≤ 3584) (x m oo nn : Nat) (hnn : 7 * nn + 7 ≤ L) (g : Wd) (A : Ab) (Y : Lt) (ch : Nat → Int32) (N : Nat → Bg) (Q : Nat → Nat) (th fi : Int32) (F : Nat → Nat → Int32) (Od : List Nat) (f : Nat → Int64) (hC : CS (xK X) g x A Y ch (fun _ => 0) N) (hS : RS (xK X) g m Q th (nI Od.length) fi F) (hA : RA A Od F) (hd : ∀ q, isM m Q q → ZN x A Y q) (ho : g oo = some (aJ (xK X) 1 f)) (hI : Inv A) (KEND : ∀ (g : Wd) (A : Ab) (Y : Lt) (ch : Nat → Int32) (N : Nat → Bg) (Q : Nat → Nat) (th fi : Int32) (F : Nat → Nat → Int32) (Od : List Nat) (f : Nat → Int64), CS (xK X) g x A Y ch (fun _ => 0) N → RS (xK X) g m Q th (nI Od.length) fi F → RA A Od F → (∀ q, isM m Q q → ZN x A Y q) → g oo = some (aJ (xK X) 1 f) → Inv A → J X (200 + 20 * (nn + 1)) (8000 + 80 * (nn + 1)) g 1423 [(4, .int (nI (7 * nn))), (3, .ref oo), (2, .ref m), (1, .ref x), (0, .ref b)] []) : J X (200 + 20 * nn) (8000 + 80 * nn) g 842 [(4, .int (nI (7 * nn))), (3, .ref oo), (2, .ref m), (1, .ref x), (0, .ref b)] [] := by
  subst hl
  have hrc : room_1.cells = 601024 := rfl
  have hrs : room_1.slots = 7293034 := rfl
  have hnb : nn ≤ 512 := by omega
  have hzo : ZN x A Y oo := hC.znJ ho
  have hkF : kF (reF (xK X) (frm (fun q => ZN x A Y q ∧ q ≠ oo) g)) oo = none := by
    show frm (fun q => ZN x A Y q ∧ q ≠ oo) g oo = none
    unfold frm
    rw [if_neg (fun z => z.2 rfl)]
  refine j_aload_n hX dL_law_842 3 rfl ?_
  refine j_aload_n hX dL_law_843 4 rfl ?_
  refine j_iload hX dL_law_844 0 rfl ?_
  refine j_iconst (v := nI 1) hX dL_law_846 (by decide) ?_
  refine j_iadd hX dL_law_847 ?_
  refine j_eqi (y := nI (7 * nn + 1)) (nI_add _ 1) ?_
  refine j_sld hX hsc (7 * nn + 1) (rfl) (by omega) (by omega) dL_law_848 ?_
  refine j_aload_n hX dL_law_849 4 rfl ?_
  refine j_iload hX dL_law_850 0 rfl ?_
  refine j_iconst (v := nI 2) hX dL_law_852 (by decide) ?_
  refine j_iadd hX dL_law_853 ?_
  refine j_eqi (y := nI (7 * nn + 2)) (nI_add _ 2) ?_
  refine j_sld hX hsc (7 * nn + 2) (rfl) (by omega) (by omega) dL_law_854 ?_
  refine j_aload_n hX dL_law_855 4 rfl ?_
  refine j_iload hX dL_law_856 0 rfl ?_
  refine j_iconst (v := nI 3) hX dL_law_858 (by decide) ?_
  refine j_iadd hX dL_law_859 ?_
  refine j_eqi (y := nI (7 * nn + 3)) (nI_add _ 3) ?_
  refine j_sld hX hsc (7 * nn + 3) (rfl) (by omega) (by omega) dL_law_860 ?_
  refine j_aload_n hX dL_law_861 4 rfl ?_
  refine j_iload hX dL_law_862 0 rfl ?_
  refine j_iconst (v := nI 4) hX dL_law_864 (by decide) ?_
  refine j_iadd hX dL_law_865 ?_
  refine j_eqi (y := nI (7 * nn + 4)) (nI_add _ 4) ?_
  refine j_sld hX hsc (7 * nn + 4) (rfl) (by omega) (by omega) dL_law_866 ?_
  refine j_aload_n hX dL_law_867 4 rfl ?_
  refine j_iload hX dL_law_868 0 rfl ?_
  refine j_iconst (v := nI 5) hX dL_law_870 (by decide) ?_
  refine j_iadd hX dL_law_871 ?_
  refine j_eqi (y := nI (7 * nn + 5)) (nI_add _ 5) ?_
  refine j_sld hX hsc (7 * nn + 5) (rfl) (by omega) (by omega) dL_law_872 ?_
  refine j_aload_n hX dL_law_873 4 rfl ?_
  refine j_iload hX dL_law_874 0 rfl ?_
  refine j_bipush (v := nI 6) hX dL_law_876 (by decide) ?_
  refine j_iadd hX dL_law_878 ?_
  refine j_eqi (y := nI (7 * nn + 6)) (nI_add _ 6) ?_
  refine j_sld hX hsc (7 * nn + 6) (rfl) (by omega) (by omega) dL_law_879 ?_
  refine j_aload_n hX dL_law_880 1 rfl ?_
  refine j_callSH (As := [.ref x, .int (sc (7 * nn + 1)), .int (sc (7 * nn + 2)), .int (sc (7 * nn + 3)), .int (sc (7 * nn + 4)), .int (sc (7 * nn + 5)), .int (sc (7 * nn + 6)), .ref oo]) (rest := []) hX (CtH.re (c_L_fill (xl X) (reF (xK X) (frm (fun q => ZN x A Y q ∧ q ≠ oo) g)) g hlt x A Y ch N (hC.frm (fun q hq => hq.1)) hI oo f ho hkF (sc (7 * nn + 1)) (sc (7 * nn + 2)) (sc (7 * nn + 3)) (sc (7 * nn + 4)) (sc (7 * nn + 5)) (sc (7 * nn + 6)))) lk_L_123 wS_L_fill wN_L wH_L_fill hd_L_fill.2 rfl (by rw [hL]; decide) (by decide) rfl (Nat.le_of_ble_eq_true rfl) dL_law_881 (by rw [hR]; omega) (by rw [hR]; omega) jx_no ?_
  rintro _ g1 ⟨k1, A1, f1, rfl, hO1, ⟨Y1, ch1, N1, hC1⟩, ho1, hv1⟩
  obtain ⟨hC1, hS1, hd1⟩ := law_c hk0 hS (P := (fun q => ZN x A Y q ∧ q ≠ oo)) (fun q hq => ⟨hd q hq, fun z => hS.noJ ho (z ▸ hq)⟩) hC1
  have hI1 := fillO_inv hI hO1
  show J X ((200 + 20 * nn) + 4) ((8000 + 80 * nn) + 24) g1 884 [(4, .int (nI (7 * nn))), (3, .ref oo), (2, .ref m), (1, .ref x), (0, .ref b)] [.int (nI k1)]
  refine j_istore (lv' := [(5, .int (nI k1)), (4, .int (nI (7 * nn))), (3, .ref oo), (2, .ref m), (1, .ref x), (0, .ref b)]) hX dL_law_884 (by rw [hn]; decide) rfl ?_
  refine j_aload_n hX dL_law_886 3 rfl ?_
  refine j_aload_n hX dL_law_887 5 rfl ?_
  refine j_iload hX dL_law_888 1 rfl ?_
  refine j_iconst (v := nI 1) hX dL_law_890 (by decide) ?_
  refine j_iadd hX dL_law_891 ?_
  refine j_eqi (y := nI (7 * nn + 1)) (nI_add _ 1) ?_
  refine j_sld hX hsc (7 * nn + 1) (rfl) (by omega) (by omega) dL_law_892 ?_
  refine j_aload_n hX dL_law_893 5 rfl ?_
  refine j_iload hX dL_law_894 1 rfl ?_
  refine j_iconst (v := nI 2) hX dL_law_896 (by decide) ?_
  refine j_iadd hX dL_law_897 ?_
  refine j_eqi (y := nI (7 * nn + 2)) (nI_add _ 2) ?_
  refine j_sld hX hsc (7 * nn + 2) (rfl) (by omega) (by omega) dL_law_898 ?_
  refine j_aload_n hX dL_law_899 5 rfl ?_
  refine j_iload hX dL_law_900 1 rfl ?_
  refine j_iconst (v := nI 3) hX dL_law_902 (by decide) ?_
  refine j_iadd hX dL_law_903 ?_
  refine j_eqi (y := nI (7 * nn + 3)) (nI_add _ 3) ?_
  refine j_sld hX hsc (7 * nn + 3) (rfl) (by omega) (by omega) dL_law_904 ?_
  refine j_aload_n hX dL_law_905 5 rfl ?_
  refine j_iload hX dL_law_906 1 rfl ?_
  refine j_iconst (v := nI 4) hX dL_law_908 (by decide) ?_
  refine j_iadd hX dL_law_909 ?_
  refine j_eqi (y := nI (7 * nn + 4)) (nI_add _ 4) ?_
  refine j_sld hX hsc (7 * nn + 4) (rfl) (by omega) (by omega) dL_law_910 ?_
  refine j_aload_n hX dL_law_911 5 rfl ?_
  refine j_iload hX dL_law_912 1 rfl ?_
  refine j_iconst (v := nI 5) hX dL_law_914 (by decide) ?_
  refine j_iadd hX dL_law_915 ?_
  refine j_eqi (y := nI (7 * nn + 5)) (nI_add _ 5) ?_
  refine j_sld hX hsc (7 * nn + 5) (rfl) (by omega) (by omega) dL_law_916 ?_
  refine j_aload_n hX dL_law_917 5 rfl ?_
  refine j_iload hX dL_law_918 1 rfl ?_
  refine j_bipush (v := nI 6) hX dL_law_920 (by decide) ?_
  refine j_iadd hX dL_law_922 ?_
  refine j_eqi (y := nI (7 * nn + 6)) (nI_add _ 6) ?_
  refine j_sld hX hsc (7 * nn + 6) (rfl) (by omega) (by omega) dL_law_923 ?_
  refine j_callV (As := [.int (sc (7 * nn + 1)), .int (sc (7 * nn + 2)), .int (sc (7 * nn + 3)), .int (sc (7 * nn + 4)), .int (sc (7 * nn + 5)), .int (sc (7 * nn + 6))]) (rest := []) hX (Ct.re (c_X11_fill (xl X) (reF (xK X) (frm (fun q => ¬ isM m Q q) g1)) g1 m Q th fi F Od hS1.frm A hI hA (sc (7 * nn + 1)) (sc (7 * nn + 2)) (sc (7 * nn + 3)) (sc (7 * nn + 4)) (sc (7 * nn + 5)) (sc (7 * nn + 6)))) hS1.1 rfl lk_L_125 wI_X11_fill wV_X11_X11_fill wN_X11 wC_X11_fill hd_X11_fill rfl (by rw [hL]; decide) (by decide) rfl (Nat.le_of_ble_eq_true rfl) dL_law_924 (by rw [hR]; omega) (by rw [hR]; omega) jx_no ?_
  rintro _ g2 ⟨k2, v2, A2, rfl, hO2, ⟨Q2, Od2, fi2, F2, hS2, hA2⟩, hv2⟩
  obtain ⟨hC2, hS2, hd2, hkp⟩ := law_m hk0 hC1 hd1 hS2
  obtain ⟨ek, eA⟩ := detN hI hO1 hO2
  rw [← ek] at hS2 hv2
  rw [← eA] at hA2 hv2
  have hk4 := OutG.le hO1
  have ho2 := hkp oo _ ho1 (hS1.noJ ho1)
  show J X ((200 + 20 * nn) + 4) ((8000 + 80 * nn) + 24) g2 927 [(5, .int (nI k1)), (4, .int (nI (7 * nn))), (3, .ref oo), (2, .ref m), (1, .ref x), (0, .ref b)] [.int v2]
  refine j_istore (lv' := [(6, .int v2), (5, .int (nI k1)), (4, .int (nI (7 * nn))), (3, .ref oo), (2, .ref m), (1, .ref x), (0, .ref b)]) hX dL_law_927 (by rw [hn]; decide) rfl ?_
  refine j_aload_n hX dL_law_929 4 rfl ?_
  refine j_callV (As := []) (rest := []) hX (c_X11_thrown (xl X) (xK X) g2 m Q2 (nI k1) (nI Od2.length) fi2 F2 hS2) hS2.1 rfl lk_L_89 wI_X11_thrown wV_X11_X11_thrown wN_X11 wC_X11_thrown hd_X11_thrown rfl (by rw [hL]; decide) (by decide) rfl (Nat.le_of_ble_eq_true rfl) dL_law_930 (by rw [hR]; omega) (by rw [hR]; omega) jx_no ?_
  rintro _ _ ⟨rfl, rfl⟩
  show J X ((200 + 20 * nn) + 4) ((8000 + 80 * nn) + 24) g2 933 [(6, .int v2), (5, .int (nI k1)), (4, .int (nI (7 * nn))), (3, .ref oo), (2, .ref m), (1, .ref x), (0, .ref b)] [.int (nI k1)]
  refine j_iload hX dL_law_933 1 rfl ?_
  refine j_icmp_eq hX 940 dL_law_935 (by decide) (fun _ => ?_) (fun c_935 => absurd (by rfl) c_935)
  refine j_iload hX dL_law_940 1 rfl ?_
  refine j_if_ne hX 957 dL_law_942 (by decide) (fun c_942 => ?_) (fun c_942 => ?_)
  · refine j_goto hX 1423 dL_law_957 (by decide) ?_
    refine J.mono (kc' := 200 + 20 * (nn + 1)) (ks' := 8000 + 80 * (nn + 1)) ?_ (by omega) (by omega)
    refine j_sub [2, 3, 4, 5, 6] rfl ?_
    exact KEND g2 A1 Y1 ch1 N1 Q2 _ fi2 F2 Od2 f1 hC2 hS2 hA2 hd2 ho2 hI1
  · have hk00 : k1 = 0 := (nI_eq (by omega) (by decide)).mp c_942
    refine j_aload_n hX dL_law_945 3 rfl ?_
    refine j_iconst (v := nI 0) hX dL_law_946 (by decide) ?_
    refine j_laldN hX ho2 (0) (rfl) (by decide) (by decide) dL_law_947 ?_
    refine j_iload hX dL_law_948 0 rfl ?_
    refine j_i2l hX dL_law_950 ?_
    refine j_lcmp hX dL_law_951 ?_
    refine j_if_eq hX 957 dL_law_952 (by decide) (fun _ => ?_) (fun c_952 => absurd (by rw [lg_cmp_eq, hv1 hk00, hv2 hk00]) c_952)
    refine j_goto hX 1423 dL_law_957 (by decide) ?_
    refine J.mono (kc' := 200 + 20 * (nn + 1)) (ks' := 8000 + 80 * (nn + 1)) ?_ (by omega) (by omega)
    refine j_sub [2, 3, 4, 5, 6] rfl ?_
    exact KEND g2 A1 Y1 ch1 N1 Q2 _ fi2 F2 Od2 f1 hC2 hS2 hA2 hd2 ho2 hI1

set_option maxRecDepth 20000 in
set_option maxHeartbeats 1600000 in
theorem law_width (l : Launch) (hlt : l.stackTraces = false) (X : Cx) (hX : OK X cL_law RL) (hl : xl X = l) (hn : xn X = 8) (hL : xlev X = 11) (hR : xR X = room_1) (hk0 : ∀ q, kF (xK X) q = none) (b L : Nat) (sc : Nat → Int32) (hsc : Scr X b L sc) (hL9 : L ≤ 3584) (x m oo nn : Nat) (hnn : 7 * nn + 7 ≤ L) (g : Wd) (A : Ab) (Y : Lt) (ch : Nat → Int32) (N : Nat → Bg) (Q : Nat → Nat) (th fi : Int32) (F : Nat → Nat → Int32) (Od : List Nat) (f : Nat → Int64) (hC : CS (xK X) g x A Y ch (fun _ => 0) N) (hS : RS (xK X) g m Q th (nI Od.length) fi F) (hA : RA A Od F) (hd : ∀ q, isM m Q q → ZN x A Y q) (ho : g oo = some (aJ (xK X) 1 f)) (hI : Inv A) (KEND : ∀ (g : Wd) (A : Ab) (Y : Lt) (ch : Nat → Int32) (N : Nat → Bg) (Q : Nat → Nat) (th fi : Int32) (F : Nat → Nat → Int32) (Od : List Nat) (f : Nat → Int64), CS (xK X) g x A Y ch (fun _ => 0) N → RS (xK X) g m Q th (nI Od.length) fi F → RA A Od F → (∀ q, isM m Q q → ZN x A Y q) → g oo = some (aJ (xK X) 1 f) → Inv A → J X (200 + 20 * (nn + 1)) (8000 + 80 * (nn + 1)) g 1423 [(4, .int (nI (7 * nn))), (3, .ref oo), (2, .ref m), (1, .ref x), (0, .ref b)] []) : J X (200 + 20 * nn) (8000 + 80 * nn) g 960 [(4, .int (nI (7 * nn))), (3, .ref oo), (2, .ref m), (1, .ref x), (0, .ref b)] [] := by
  subst hl
  have hrc : room_1.cells = 601024 := rfl
  have hrs : room_1.slots = 7293034 := rfl
  have hnb : nn ≤ 512 := by omega
  have hzo : ZN x A Y oo := hC.znJ ho
  have hkF : kF (reF (xK X) (frm (fun q => ZN x A Y q ∧ q ≠ oo) g)) oo = none := by
    show frm (fun q => ZN x A Y q ∧ q ≠ oo) g oo = none
    unfold frm
    rw [if_neg (fun z => z.2 rfl)]
  refine j_aload_n hX dL_law_960 3 rfl ?_
  refine j_aload_n hX dL_law_961 4 rfl ?_
  refine j_iload hX dL_law_962 0 rfl ?_
  refine j_iconst (v := nI 1) hX dL_law_964 (by decide) ?_
  refine j_iadd hX dL_law_965 ?_
  refine j_eqi (y := nI (7 * nn + 1)) (nI_add _ 1) ?_
  refine j_sld hX hsc (7 * nn + 1) (rfl) (by omega) (by omega) dL_law_966 ?_
  refine j_aload_n hX dL_law_967 1 rfl ?_
  refine j_callSH (As := [.ref x, .int (sc (7 * nn + 1)), .ref oo]) (rest := []) hX (CtH.re (c_L_width (xl X) (reF (xK X) (frm (fun q => ZN x A Y q ∧ q ≠ oo) g)) g hlt x A Y ch N (hC.frm (fun q hq => hq.1)) hI oo f ho hkF (sc (7 * nn + 1)))) lk_L_126 wS_L_width wN_L wH_L_width hd_L_width.2 rfl (by rw [hL]; decide) (by decide) rfl (Nat.le_of_ble_eq_true rfl) dL_law_968 (by rw [hR]; omega) (by rw [hR]; omega) jx_no ?_
  rintro _ g1 ⟨k1, f1, rfl, ⟨Y1, ch1, N1, hC1⟩, ho1, hv1⟩
  obtain ⟨hC1, hS1, hd1⟩ := law_c hk0 hS (P := (fun q => ZN x A Y q ∧ q ≠ oo)) (fun q hq => ⟨hd q hq, fun z => hS.noJ ho (z ▸ hq)⟩) hC1
  have hI1 := hI
  show J X ((200 + 20 * nn) + 1) ((8000 + 80 * nn) + 6) g1 971 [(4, .int (nI (7 * nn))), (3, .ref oo), (2, .ref m), (1, .ref x), (0, .ref b)] [.int (nI k1)]
  refine j_istore (lv' := [(5, .int (nI k1)), (4, .int (nI (7 * nn))), (3, .ref oo), (2, .ref m), (1, .ref x), (0, .ref b)]) hX dL_law_971 (by rw [hn]; decide) rfl ?_
  refine j_aload_n hX dL_law_973 3 rfl ?_
  refine j_aload_n hX dL_law_974 5 rfl ?_
  refine j_iload hX dL_law_975 1 rfl ?_
  refine j_iconst (v := nI 1) hX dL_law_977 (by decide) ?_
  refine j_iadd hX dL_law_978 ?_
  refine j_eqi (y := nI (7 * nn + 1)) (nI_add _ 1) ?_
  refine j_sld hX hsc (7 * nn + 1) (rfl) (by omega) (by omega) dL_law_979 ?_
  refine j_callV (As := [.int (sc (7 * nn + 1))]) (rest := []) hX (Ct.re (c_X11_width (xl X) (reF (xK X) (frm (fun q => ¬ isM m Q q) g1)) g1 m Q th fi F Od hS1.frm A hI hA (sc (7 * nn + 1)))) hS1.1 rfl lk_L_129 wI_X11_width wV_X11_X11_width wN_X11 wC_X11_width hd_X11_width rfl (by rw [hL]; decide) (by decide) rfl (Nat.le_of_ble_eq_true rfl) dL_law_980 (by rw [hR]; omega) (by rw [hR]; omega) jx_no ?_
  rintro _ g2 ⟨k2, v2, rfl, ⟨Q2, Od2, fi2, F2, hS2, hA2⟩, hv2⟩
  obtain ⟨hC2, hS2, hd2, hkp⟩ := law_m hk0 hC1 hd1 hS2
  obtain ⟨⟨ek, hk4⟩, hev⟩ := rd_det hv1 hv2
  rw [← ek] at hS2
  have ho2 := hkp oo _ ho1 (hS1.noJ ho1)
  show J X ((200 + 20 * nn) + 1) ((8000 + 80 * nn) + 6) g2 983 [(5, .int (nI k1)), (4, .int (nI (7 * nn))), (3, .ref oo), (2, .ref m), (1, .ref x), (0, .ref b)] [.int v2]
  refine j_istore (lv' := [(6, .int v2), (5, .int (nI k1)), (4, .int (nI (7 * nn))), (3, .ref oo), (2, .ref m), (1, .ref x), (0, .ref b)]) hX dL_law_983 (by rw [hn]; decide) rfl ?_
  refine j_aload_n hX dL_law_985 4 rfl ?_
  refine j_callV (As := []) (rest := []) hX (c_X11_thrown (xl X) (xK X) g2 m Q2 (nI k1) (nI Od2.length) fi2 F2 hS2) hS2.1 rfl lk_L_89 wI_X11_thrown wV_X11_X11_thrown wN_X11 wC_X11_thrown hd_X11_thrown rfl (by rw [hL]; decide) (by decide) rfl (Nat.le_of_ble_eq_true rfl) dL_law_986 (by rw [hR]; omega) (by rw [hR]; omega) jx_no ?_
  rintro _ _ ⟨rfl, rfl⟩
  show J X ((200 + 20 * nn) + 1) ((8000 + 80 * nn) + 6) g2 989 [(6, .int v2), (5, .int (nI k1)), (4, .int (nI (7 * nn))), (3, .ref oo), (2, .ref m), (1, .ref x), (0, .ref b)] [.int (nI k1)]
  refine j_iload hX dL_law_989 1 rfl ?_
  refine j_icmp_eq hX 996 dL_law_991 (by decide) (fun _ => ?_) (fun c_991 => absurd (by rfl) c_991)
  refine j_iload hX dL_law_996 1 rfl ?_
  refine j_if_ne hX 1013 dL_law_998 (by decide) (fun c_998 => ?_) (fun c_998 => ?_)
  · refine j_goto hX 1423 dL_law_1013 (by decide) ?_
    refine J.mono (kc' := 200 + 20 * (nn + 1)) (ks' := 8000 + 80 * (nn + 1)) ?_ (by omega) (by omega)
    refine j_sub [2, 3, 4, 5, 6] rfl ?_
    exact KEND g2 A Y1 ch1 N1 Q2 _ fi2 F2 Od2 f1 hC2 hS2 hA2 hd2 ho2 hI1
  · have hk00 : k1 = 0 := (nI_eq (by omega) (by decide)).mp c_998
    refine j_aload_n hX dL_law_1001 3 rfl ?_
    refine j_iconst (v := nI 0) hX dL_law_1002 (by decide) ?_
    refine j_laldN hX ho2 (0) (rfl) (by decide) (by decide) dL_law_1003 ?_
    refine j_iload hX dL_law_1004 0 rfl ?_
    refine j_i2l hX dL_law_1006 ?_
    refine j_lcmp hX dL_law_1007 ?_
    refine j_if_eq hX 1013 dL_law_1008 (by decide) (fun _ => ?_) (fun c_1008 => absurd (by rw [lg_cmp_eq, (hev hk00).1, (hev hk00).2]) c_1008)
    refine j_goto hX 1423 dL_law_1013 (by decide) ?_
    refine J.mono (kc' := 200 + 20 * (nn + 1)) (ks' := 8000 + 80 * (nn + 1)) ?_ (by omega) (by omega)
    refine j_sub [2, 3, 4, 5, 6] rfl ?_
    exact KEND g2 A Y1 ch1 N1 Q2 _ fi2 F2 Od2 f1 hC2 hS2 hA2 hd2 ho2 hI1

set_option maxRecDepth 20000 in
set_option maxHeartbeats 1600000 in
theorem law_rows (l : Launch) (hlt : l.stackTraces = false) (X : Cx) (hX : OK X cL_law RL) (hl : xl X = l) (hn : xn X = 8) (hL : xlev X = 11) (hR : xR X = room_1) (hk0 : ∀ q, kF (xK X) q = none) (b L : Nat) (sc : Nat → Int32) (hsc : Scr X b L sc) (hL9 : L ≤ 3584) (x m oo nn : Nat) (hnn : 7 * nn + 7 ≤ L) (g : Wd) (A : Ab) (Y : Lt) (ch : Nat → Int32) (N : Nat → Bg) (Q : Nat → Nat) (th fi : Int32) (F : Nat → Nat → Int32) (Od : List Nat) (f : Nat → Int64) (hC : CS (xK X) g x A Y ch (fun _ => 0) N) (hS : RS (xK X) g m Q th (nI Od.length) fi F) (hA : RA A Od F) (hd : ∀ q, isM m Q q → ZN x A Y q) (ho : g oo = some (aJ (xK X) 1 f)) (hI : Inv A) (KEND : ∀ (g : Wd) (A : Ab) (Y : Lt) (ch : Nat → Int32) (N : Nat → Bg) (Q : Nat → Nat) (th fi : Int32) (F : Nat → Nat → Int32) (Od : List Nat) (f : Nat → Int64), CS (xK X) g x A Y ch (fun _ => 0) N → RS (xK X) g m Q th (nI Od.length) fi F → RA A Od F → (∀ q, isM m Q q → ZN x A Y q) → g oo = some (aJ (xK X) 1 f) → Inv A → J X (200 + 20 * (nn + 1)) (8000 + 80 * (nn + 1)) g 1423 [(4, .int (nI (7 * nn))), (3, .ref oo), (2, .ref m), (1, .ref x), (0, .ref b)] []) : J X (200 + 20 * nn) (8000 + 80 * nn) g 1016 [(4, .int (nI (7 * nn))), (3, .ref oo), (2, .ref m), (1, .ref x), (0, .ref b)] [] := by
  subst hl
  have hrc : room_1.cells = 601024 := rfl
  have hrs : room_1.slots = 7293034 := rfl
  have hnb : nn ≤ 512 := by omega
  have hzo : ZN x A Y oo := hC.znJ ho
  have hkF : kF (reF (xK X) (frm (fun q => ZN x A Y q ∧ q ≠ oo) g)) oo = none := by
    show frm (fun q => ZN x A Y q ∧ q ≠ oo) g oo = none
    unfold frm
    rw [if_neg (fun z => z.2 rfl)]
  refine j_aload_n hX dL_law_1016 3 rfl ?_
  refine j_aload_n hX dL_law_1017 4 rfl ?_
  refine j_iload hX dL_law_1018 0 rfl ?_
  refine j_iconst (v := nI 1) hX dL_law_1020 (by decide) ?_
  refine j_iadd hX dL_law_1021 ?_
  refine j_eqi (y := nI (7 * nn + 1)) (nI_add _ 1) ?_
  refine j_sld hX hsc (7 * nn + 1) (rfl) (by omega) (by omega) dL_law_1022 ?_
  refine j_aload_n hX dL_law_1023 1 rfl ?_
  refine j_callSH (As := [.ref x, .int (sc (7 * nn + 1)), .ref oo]) (rest := []) hX (CtH.re (c_L_rows (xl X) (reF (xK X) (frm (fun q => ZN x A Y q ∧ q ≠ oo) g)) g hlt x A Y ch N (hC.frm (fun q hq => hq.1)) hI oo f ho hkF (sc (7 * nn + 1)))) lk_L_130 wS_L_rows wN_L wH_L_rows hd_L_rows.2 rfl (by rw [hL]; decide) (by decide) rfl (Nat.le_of_ble_eq_true rfl) dL_law_1024 (by rw [hR]; omega) (by rw [hR]; omega) jx_no ?_
  rintro _ g1 ⟨k1, f1, rfl, ⟨Y1, ch1, N1, hC1⟩, ho1, hv1⟩
  obtain ⟨hC1, hS1, hd1⟩ := law_c hk0 hS (P := (fun q => ZN x A Y q ∧ q ≠ oo)) (fun q hq => ⟨hd q hq, fun z => hS.noJ ho (z ▸ hq)⟩) hC1
  have hI1 := hI
  show J X ((200 + 20 * nn) + 2) ((8000 + 80 * nn) + 12) g1 1027 [(4, .int (nI (7 * nn))), (3, .ref oo), (2, .ref m), (1, .ref x), (0, .ref b)] [.int (nI k1)]
  refine j_istore (lv' := [(5, .int (nI k1)), (4, .int (nI (7 * nn))), (3, .ref oo), (2, .ref m), (1, .ref x), (0, .ref b)]) hX dL_law_1027 (by rw [hn]; decide) rfl ?_
  refine j_aload_n hX dL_law_1029 3 rfl ?_
  refine j_aload_n hX dL_law_1030 5 rfl ?_
  refine j_iload hX dL_law_1031 1 rfl ?_
  refine j_iconst (v := nI 1) hX dL_law_1033 (by decide) ?_
  refine j_iadd hX dL_law_1034 ?_
  refine j_eqi (y := nI (7 * nn + 1)) (nI_add _ 1) ?_
  refine j_sld hX hsc (7 * nn + 1) (rfl) (by omega) (by omega) dL_law_1035 ?_
  refine j_callV (As := [.int (sc (7 * nn + 1))]) (rest := []) hX (Ct.re (c_X11_rows (xl X) (reF (xK X) (frm (fun q => ¬ isM m Q q) g1)) g1 m Q th fi F Od hS1.frm A hI hA (sc (7 * nn + 1)))) hS1.1 rfl lk_L_132 wI_X11_rows wV_X11_X11_rows wN_X11 wC_X11_rows hd_X11_rows rfl (by rw [hL]; decide) (by decide) rfl (Nat.le_of_ble_eq_true rfl) dL_law_1036 (by rw [hR]; omega) (by rw [hR]; omega) jx_no ?_
  rintro _ g2 ⟨k2, v2, rfl, ⟨Q2, Od2, fi2, F2, hS2, hA2⟩, hv2⟩
  obtain ⟨hC2, hS2, hd2, hkp⟩ := law_m hk0 hC1 hd1 hS2
  obtain ⟨⟨ek, hk4⟩, hev⟩ := rd_det hv1 hv2
  rw [← ek] at hS2
  have ho2 := hkp oo _ ho1 (hS1.noJ ho1)
  show J X ((200 + 20 * nn) + 2) ((8000 + 80 * nn) + 12) g2 1039 [(5, .int (nI k1)), (4, .int (nI (7 * nn))), (3, .ref oo), (2, .ref m), (1, .ref x), (0, .ref b)] [.int v2]
  refine j_istore (lv' := [(6, .int v2), (5, .int (nI k1)), (4, .int (nI (7 * nn))), (3, .ref oo), (2, .ref m), (1, .ref x), (0, .ref b)]) hX dL_law_1039 (by rw [hn]; decide) rfl ?_
  refine j_aload_n hX dL_law_1041 4 rfl ?_
  refine j_callV (As := []) (rest := []) hX (c_X11_thrown (xl X) (xK X) g2 m Q2 (nI k1) (nI Od2.length) fi2 F2 hS2) hS2.1 rfl lk_L_89 wI_X11_thrown wV_X11_X11_thrown wN_X11 wC_X11_thrown hd_X11_thrown rfl (by rw [hL]; decide) (by decide) rfl (Nat.le_of_ble_eq_true rfl) dL_law_1042 (by rw [hR]; omega) (by rw [hR]; omega) jx_no ?_
  rintro _ _ ⟨rfl, rfl⟩
  show J X ((200 + 20 * nn) + 2) ((8000 + 80 * nn) + 12) g2 1045 [(6, .int v2), (5, .int (nI k1)), (4, .int (nI (7 * nn))), (3, .ref oo), (2, .ref m), (1, .ref x), (0, .ref b)] [.int (nI k1)]
  refine j_iload hX dL_law_1045 1 rfl ?_
  refine j_icmp_eq hX 1052 dL_law_1047 (by decide) (fun _ => ?_) (fun c_1047 => absurd (by rfl) c_1047)
  refine j_iload hX dL_law_1052 1 rfl ?_
  refine j_if_ne hX 1069 dL_law_1054 (by decide) (fun c_1054 => ?_) (fun c_1054 => ?_)
  · refine j_goto hX 1423 dL_law_1069 (by decide) ?_
    refine J.mono (kc' := 200 + 20 * (nn + 1)) (ks' := 8000 + 80 * (nn + 1)) ?_ (by omega) (by omega)
    refine j_sub [2, 3, 4, 5, 6] rfl ?_
    exact KEND g2 A Y1 ch1 N1 Q2 _ fi2 F2 Od2 f1 hC2 hS2 hA2 hd2 ho2 hI1
  · have hk00 : k1 = 0 := (nI_eq (by omega) (by decide)).mp c_1054
    refine j_aload_n hX dL_law_1057 3 rfl ?_
    refine j_iconst (v := nI 0) hX dL_law_1058 (by decide) ?_
    refine j_laldN hX ho2 (0) (rfl) (by decide) (by decide) dL_law_1059 ?_
    refine j_iload hX dL_law_1060 0 rfl ?_
    refine j_i2l hX dL_law_1062 ?_
    refine j_lcmp hX dL_law_1063 ?_
    refine j_if_eq hX 1069 dL_law_1064 (by decide) (fun _ => ?_) (fun c_1064 => absurd (by rw [lg_cmp_eq, (hev hk00).1, (hev hk00).2]) c_1064)
    refine j_goto hX 1423 dL_law_1069 (by decide) ?_
    refine J.mono (kc' := 200 + 20 * (nn + 1)) (ks' := 8000 + 80 * (nn + 1)) ?_ (by omega) (by omega)
    refine j_sub [2, 3, 4, 5, 6] rfl ?_
    exact KEND g2 A Y1 ch1 N1 Q2 _ fi2 F2 Od2 f1 hC2 hS2 hA2 hd2 ho2 hI1

set_option maxRecDepth 20000 in
set_option maxHeartbeats 1600000 in
theorem law_size (l : Launch) (hlt : l.stackTraces = false) (X : Cx) (hX : OK X cL_law RL) (hl : xl X = l) (hn : xn X = 8) (hL : xlev X = 11) (hR : xR X = room_1) (hk0 : ∀ q, kF (xK X) q = none) (b L : Nat) (sc : Nat → Int32) (hsc : Scr X b L sc) (hL9 : L ≤ 3584) (x m oo nn : Nat) (hnn : 7 * nn + 7 ≤ L) (g : Wd) (A : Ab) (Y : Lt) (ch : Nat → Int32) (N : Nat → Bg) (Q : Nat → Nat) (th fi : Int32) (F : Nat → Nat → Int32) (Od : List Nat) (f : Nat → Int64) (hC : CS (xK X) g x A Y ch (fun _ => 0) N) (hS : RS (xK X) g m Q th (nI Od.length) fi F) (hA : RA A Od F) (hd : ∀ q, isM m Q q → ZN x A Y q) (ho : g oo = some (aJ (xK X) 1 f)) (hI : Inv A) (KEND : ∀ (g : Wd) (A : Ab) (Y : Lt) (ch : Nat → Int32) (N : Nat → Bg) (Q : Nat → Nat) (th fi : Int32) (F : Nat → Nat → Int32) (Od : List Nat) (f : Nat → Int64), CS (xK X) g x A Y ch (fun _ => 0) N → RS (xK X) g m Q th (nI Od.length) fi F → RA A Od F → (∀ q, isM m Q q → ZN x A Y q) → g oo = some (aJ (xK X) 1 f) → Inv A → J X (200 + 20 * (nn + 1)) (8000 + 80 * (nn + 1)) g 1423 [(4, .int (nI (7 * nn))), (3, .ref oo), (2, .ref m), (1, .ref x), (0, .ref b)] []) : J X (200 + 20 * nn) (8000 + 80 * nn) g 1072 [(4, .int (nI (7 * nn))), (3, .ref oo), (2, .ref m), (1, .ref x), (0, .ref b)] [] := by
  subst hl
  have hrc : room_1.cells = 601024 := rfl
  have hrs : room_1.slots = 7293034 := rfl
  have hnb : nn ≤ 512 := by omega
  have hzo : ZN x A Y oo := hC.znJ ho
  have hkF : kF (reF (xK X) (frm (fun q => ZN x A Y q ∧ q ≠ oo) g)) oo = none := by
    show frm (fun q => ZN x A Y q ∧ q ≠ oo) g oo = none
    unfold frm
    rw [if_neg (fun z => z.2 rfl)]
  refine j_aload_n hX dL_law_1072 3 rfl ?_
  refine j_aload_n hX dL_law_1073 4 rfl ?_
  refine j_iload hX dL_law_1074 0 rfl ?_
  refine j_iconst (v := nI 1) hX dL_law_1076 (by decide) ?_
  refine j_iadd hX dL_law_1077 ?_
  refine j_eqi (y := nI (7 * nn + 1)) (nI_add _ 1) ?_
  refine j_sld hX hsc (7 * nn + 1) (rfl) (by omega) (by omega) dL_law_1078 ?_
  refine j_aload_n hX dL_law_1079 1 rfl ?_
  refine j_callSH (As := [.ref x, .int (sc (7 * nn + 1)), .ref oo]) (rest := []) hX (CtH.re (c_L_size (xl X) (reF (xK X) (frm (fun q => ZN x A Y q ∧ q ≠ oo) g)) g hlt x A Y ch N (hC.frm (fun q hq => hq.1)) hI oo f ho hkF (sc (7 * nn + 1)))) lk_L_133 wS_L_size wN_L wH_L_size hd_L_size.2 rfl (by rw [hL]; decide) (by decide) rfl (Nat.le_of_ble_eq_true rfl) dL_law_1080 (by rw [hR]; omega) (by rw [hR]; omega) jx_no ?_
  rintro _ g1 ⟨k1, f1, rfl, ⟨Y1, ch1, N1, hC1⟩, ho1, hv1⟩
  obtain ⟨hC1, hS1, hd1⟩ := law_c hk0 hS (P := (fun q => ZN x A Y q ∧ q ≠ oo)) (fun q hq => ⟨hd q hq, fun z => hS.noJ ho (z ▸ hq)⟩) hC1
  have hI1 := hI
  show J X ((200 + 20 * nn) + 2) ((8000 + 80 * nn) + 12) g1 1083 [(4, .int (nI (7 * nn))), (3, .ref oo), (2, .ref m), (1, .ref x), (0, .ref b)] [.int (nI k1)]
  refine j_istore (lv' := [(5, .int (nI k1)), (4, .int (nI (7 * nn))), (3, .ref oo), (2, .ref m), (1, .ref x), (0, .ref b)]) hX dL_law_1083 (by rw [hn]; decide) rfl ?_
  refine j_aload_n hX dL_law_1085 3 rfl ?_
  refine j_aload_n hX dL_law_1086 5 rfl ?_
  refine j_iload hX dL_law_1087 1 rfl ?_
  refine j_iconst (v := nI 1) hX dL_law_1089 (by decide) ?_
  refine j_iadd hX dL_law_1090 ?_
  refine j_eqi (y := nI (7 * nn + 1)) (nI_add _ 1) ?_
  refine j_sld hX hsc (7 * nn + 1) (rfl) (by omega) (by omega) dL_law_1091 ?_
  refine j_callV (As := [.int (sc (7 * nn + 1))]) (rest := []) hX (Ct.re (c_X11_size (xl X) (reF (xK X) (frm (fun q => ¬ isM m Q q) g1)) g1 m Q th fi F Od hS1.frm A hI hA (sc (7 * nn + 1)))) hS1.1 rfl lk_L_135 wI_X11_size wV_X11_X11_size wN_X11 wC_X11_size hd_X11_size rfl (by rw [hL]; decide) (by decide) rfl (Nat.le_of_ble_eq_true rfl) dL_law_1092 (by rw [hR]; omega) (by rw [hR]; omega) jx_no ?_
  rintro _ g2 ⟨k2, v2, rfl, ⟨Q2, Od2, fi2, F2, hS2, hA2⟩, hv2⟩
  obtain ⟨hC2, hS2, hd2, hkp⟩ := law_m hk0 hC1 hd1 hS2
  obtain ⟨⟨ek, hk4⟩, hev⟩ := rd_det hv1 hv2
  rw [← ek] at hS2
  have ho2 := hkp oo _ ho1 (hS1.noJ ho1)
  show J X ((200 + 20 * nn) + 2) ((8000 + 80 * nn) + 12) g2 1095 [(5, .int (nI k1)), (4, .int (nI (7 * nn))), (3, .ref oo), (2, .ref m), (1, .ref x), (0, .ref b)] [.long v2]
  refine j_lstore (lv' := [(6, .long v2), (5, .int (nI k1)), (4, .int (nI (7 * nn))), (3, .ref oo), (2, .ref m), (1, .ref x), (0, .ref b)]) hX dL_law_1095 (by rw [hn]; decide) rfl ?_
  refine j_aload_n hX dL_law_1097 4 rfl ?_
  refine j_callV (As := []) (rest := []) hX (c_X11_thrown (xl X) (xK X) g2 m Q2 (nI k1) (nI Od2.length) fi2 F2 hS2) hS2.1 rfl lk_L_89 wI_X11_thrown wV_X11_X11_thrown wN_X11 wC_X11_thrown hd_X11_thrown rfl (by rw [hL]; decide) (by decide) rfl (Nat.le_of_ble_eq_true rfl) dL_law_1098 (by rw [hR]; omega) (by rw [hR]; omega) jx_no ?_
  rintro _ _ ⟨rfl, rfl⟩
  show J X ((200 + 20 * nn) + 2) ((8000 + 80 * nn) + 12) g2 1101 [(6, .long v2), (5, .int (nI k1)), (4, .int (nI (7 * nn))), (3, .ref oo), (2, .ref m), (1, .ref x), (0, .ref b)] [.int (nI k1)]
  refine j_iload hX dL_law_1101 1 rfl ?_
  refine j_icmp_eq hX 1108 dL_law_1103 (by decide) (fun _ => ?_) (fun c_1103 => absurd (by rfl) c_1103)
  refine j_iload hX dL_law_1108 1 rfl ?_
  refine j_if_ne hX 1124 dL_law_1110 (by decide) (fun c_1110 => ?_) (fun c_1110 => ?_)
  · refine j_goto hX 1423 dL_law_1124 (by decide) ?_
    refine J.mono (kc' := 200 + 20 * (nn + 1)) (ks' := 8000 + 80 * (nn + 1)) ?_ (by omega) (by omega)
    refine j_sub [2, 3, 4, 5, 6] rfl ?_
    exact KEND g2 A Y1 ch1 N1 Q2 _ fi2 F2 Od2 f1 hC2 hS2 hA2 hd2 ho2 hI1
  · have hk00 : k1 = 0 := (nI_eq (by omega) (by decide)).mp c_1110
    refine j_aload_n hX dL_law_1113 3 rfl ?_
    refine j_iconst (v := nI 0) hX dL_law_1114 (by decide) ?_
    refine j_laldN hX ho2 (0) (rfl) (by decide) (by decide) dL_law_1115 ?_
    refine j_lload hX dL_law_1116 0 rfl ?_
    refine j_lcmp hX dL_law_1118 ?_
    refine j_if_eq hX 1124 dL_law_1119 (by decide) (fun _ => ?_) (fun c_1119 => absurd (by rw [lg_cmp_eq, (hev hk00).1, (hev hk00).2]) c_1119)
    refine j_goto hX 1423 dL_law_1124 (by decide) ?_
    refine J.mono (kc' := 200 + 20 * (nn + 1)) (ks' := 8000 + 80 * (nn + 1)) ?_ (by omega) (by omega)
    refine j_sub [2, 3, 4, 5, 6] rfl ?_
    exact KEND g2 A Y1 ch1 N1 Q2 _ fi2 F2 Od2 f1 hC2 hS2 hA2 hd2 ho2 hI1

set_option maxRecDepth 20000 in
set_option maxHeartbeats 1600000 in
theorem law_times (l : Launch) (hlt : l.stackTraces = false) (X : Cx) (hX : OK X cL_law RL) (hl : xl X = l) (hn : xn X = 8) (hL : xlev X = 11) (hR : xR X = room_1) (hk0 : ∀ q, kF (xK X) q = none) (b L : Nat) (sc : Nat → Int32) (hsc : Scr X b L sc) (hL9 : L ≤ 3584) (x m oo nn : Nat) (hnn : 7 * nn + 7 ≤ L) (g : Wd) (A : Ab) (Y : Lt) (ch : Nat → Int32) (N : Nat → Bg) (Q : Nat → Nat) (th fi : Int32) (F : Nat → Nat → Int32) (Od : List Nat) (f : Nat → Int64) (hC : CS (xK X) g x A Y ch (fun _ => 0) N) (hS : RS (xK X) g m Q th (nI Od.length) fi F) (hA : RA A Od F) (hd : ∀ q, isM m Q q → ZN x A Y q) (ho : g oo = some (aJ (xK X) 1 f)) (hI : Inv A) (KEND : ∀ (g : Wd) (A : Ab) (Y : Lt) (ch : Nat → Int32) (N : Nat → Bg) (Q : Nat → Nat) (th fi : Int32) (F : Nat → Nat → Int32) (Od : List Nat) (f : Nat → Int64), CS (xK X) g x A Y ch (fun _ => 0) N → RS (xK X) g m Q th (nI Od.length) fi F → RA A Od F → (∀ q, isM m Q q → ZN x A Y q) → g oo = some (aJ (xK X) 1 f) → Inv A → J X (200 + 20 * (nn + 1)) (8000 + 80 * (nn + 1)) g 1423 [(4, .int (nI (7 * nn))), (3, .ref oo), (2, .ref m), (1, .ref x), (0, .ref b)] []) : J X (200 + 20 * nn) (8000 + 80 * nn) g 1127 [(4, .int (nI (7 * nn))), (3, .ref oo), (2, .ref m), (1, .ref x), (0, .ref b)] [] := by
  subst hl
  have hrc : room_1.cells = 601024 := rfl
  have hrs : room_1.slots = 7293034 := rfl
  have hnb : nn ≤ 512 := by omega
  have hzo : ZN x A Y oo := hC.znJ ho
  have hkF : kF (reF (xK X) (frm (fun q => ZN x A Y q ∧ q ≠ oo) g)) oo = none := by
    show frm (fun q => ZN x A Y q ∧ q ≠ oo) g oo = none
    unfold frm
    rw [if_neg (fun z => z.2 rfl)]
  refine j_aload_n hX dL_law_1127 3 rfl ?_
  refine j_aload_n hX dL_law_1128 4 rfl ?_
  refine j_iload hX dL_law_1129 0 rfl ?_
  refine j_iconst (v := nI 1) hX dL_law_1131 (by decide) ?_
  refine j_iadd hX dL_law_1132 ?_
  refine j_eqi (y := nI (7 * nn + 1)) (nI_add _ 1) ?_
  refine j_sld hX hsc (7 * nn + 1) (rfl) (by omega) (by omega) dL_law_1133 ?_
  refine j_aload_n hX dL_law_1134 4 rfl ?_
  refine j_iload hX dL_law_1135 0 rfl ?_
  refine j_iconst (v := nI 2) hX dL_law_1137 (by decide) ?_
  refine j_iadd hX dL_law_1138 ?_
  refine j_eqi (y := nI (7 * nn + 2)) (nI_add _ 2) ?_
  refine j_sld hX hsc (7 * nn + 2) (rfl) (by omega) (by omega) dL_law_1139 ?_
  refine j_aload_n hX dL_law_1140 4 rfl ?_
  refine j_iload hX dL_law_1141 0 rfl ?_
  refine j_iconst (v := nI 3) hX dL_law_1143 (by decide) ?_
  refine j_iadd hX dL_law_1144 ?_
  refine j_eqi (y := nI (7 * nn + 3)) (nI_add _ 3) ?_
  refine j_sld hX hsc (7 * nn + 3) (rfl) (by omega) (by omega) dL_law_1145 ?_
  refine j_aload_n hX dL_law_1146 4 rfl ?_
  refine j_iload hX dL_law_1147 0 rfl ?_
  refine j_iconst (v := nI 4) hX dL_law_1149 (by decide) ?_
  refine j_iadd hX dL_law_1150 ?_
  refine j_eqi (y := nI (7 * nn + 4)) (nI_add _ 4) ?_
  refine j_sld hX hsc (7 * nn + 4) (rfl) (by omega) (by omega) dL_law_1151 ?_
  refine j_aload_n hX dL_law_1152 4 rfl ?_
  refine j_iload hX dL_law_1153 0 rfl ?_
  refine j_iconst (v := nI 5) hX dL_law_1155 (by decide) ?_
  refine j_iadd hX dL_law_1156 ?_
  refine j_eqi (y := nI (7 * nn + 5)) (nI_add _ 5) ?_
  refine j_sld hX hsc (7 * nn + 5) (rfl) (by omega) (by omega) dL_law_1157 ?_
  refine j_aload_n hX dL_law_1158 1 rfl ?_
  refine j_callSH (As := [.ref x, .int (sc (7 * nn + 1)), .int (sc (7 * nn + 2)), .int (sc (7 * nn + 3)), .int (sc (7 * nn + 4)), .int (sc (7 * nn + 5)), .ref oo]) (rest := []) hX (CtH.re (c_L_times (xl X) (reF (xK X) (frm (fun q => ZN x A Y q ∧ q ≠ oo) g)) g hlt x A Y ch N (hC.frm (fun q hq => hq.1)) hI oo f ho hkF (sc (7 * nn + 1)) (sc (7 * nn + 2)) (sc (7 * nn + 3)) (sc (7 * nn + 4)) (sc (7 * nn + 5)))) lk_L_136 wS_L_times wN_L wH_L_times hd_L_times.2 rfl (by rw [hL]; decide) (by decide) rfl (Nat.le_of_ble_eq_true rfl) dL_law_1159 (by rw [hR]; omega) (by rw [hR]; omega) jx_no ?_
  rintro _ g1 ⟨k1, f1, rfl, ⟨Y1, ch1, N1, hC1⟩, ho1, hv1⟩
  obtain ⟨hC1, hS1, hd1⟩ := law_c hk0 hS (P := (fun q => ZN x A Y q ∧ q ≠ oo)) (fun q hq => ⟨hd q hq, fun z => hS.noJ ho (z ▸ hq)⟩) hC1
  have hI1 := hI
  show J X ((200 + 20 * nn) + 2) ((8000 + 80 * nn) + 12) g1 1162 [(4, .int (nI (7 * nn))), (3, .ref oo), (2, .ref m), (1, .ref x), (0, .ref b)] [.int (nI k1)]
  refine j_istore (lv' := [(5, .int (nI k1)), (4, .int (nI (7 * nn))), (3, .ref oo), (2, .ref m), (1, .ref x), (0, .ref b)]) hX dL_law_1162 (by rw [hn]; decide) rfl ?_
  refine j_aload_n hX dL_law_1164 3 rfl ?_
  refine j_aload_n hX dL_law_1165 5 rfl ?_
  refine j_iload hX dL_law_1166 1 rfl ?_
  refine j_iconst (v := nI 1) hX dL_law_1168 (by decide) ?_
  refine j_iadd hX dL_law_1169 ?_
  refine j_eqi (y := nI (7 * nn + 1)) (nI_add _ 1) ?_
  refine j_sld hX hsc (7 * nn + 1) (rfl) (by omega) (by omega) dL_law_1170 ?_
  refine j_aload_n hX dL_law_1171 5 rfl ?_
  refine j_iload hX dL_law_1172 1 rfl ?_
  refine j_iconst (v := nI 2) hX dL_law_1174 (by decide) ?_
  refine j_iadd hX dL_law_1175 ?_
  refine j_eqi (y := nI (7 * nn + 2)) (nI_add _ 2) ?_
  refine j_sld hX hsc (7 * nn + 2) (rfl) (by omega) (by omega) dL_law_1176 ?_
  refine j_aload_n hX dL_law_1177 5 rfl ?_
  refine j_iload hX dL_law_1178 1 rfl ?_
  refine j_iconst (v := nI 3) hX dL_law_1180 (by decide) ?_
  refine j_iadd hX dL_law_1181 ?_
  refine j_eqi (y := nI (7 * nn + 3)) (nI_add _ 3) ?_
  refine j_sld hX hsc (7 * nn + 3) (rfl) (by omega) (by omega) dL_law_1182 ?_
  refine j_aload_n hX dL_law_1183 5 rfl ?_
  refine j_iload hX dL_law_1184 1 rfl ?_
  refine j_iconst (v := nI 4) hX dL_law_1186 (by decide) ?_
  refine j_iadd hX dL_law_1187 ?_
  refine j_eqi (y := nI (7 * nn + 4)) (nI_add _ 4) ?_
  refine j_sld hX hsc (7 * nn + 4) (rfl) (by omega) (by omega) dL_law_1188 ?_
  refine j_aload_n hX dL_law_1189 5 rfl ?_
  refine j_iload hX dL_law_1190 1 rfl ?_
  refine j_iconst (v := nI 5) hX dL_law_1192 (by decide) ?_
  refine j_iadd hX dL_law_1193 ?_
  refine j_eqi (y := nI (7 * nn + 5)) (nI_add _ 5) ?_
  refine j_sld hX hsc (7 * nn + 5) (rfl) (by omega) (by omega) dL_law_1194 ?_
  refine j_callV (As := [.int (sc (7 * nn + 1)), .int (sc (7 * nn + 2)), .int (sc (7 * nn + 3)), .int (sc (7 * nn + 4)), .int (sc (7 * nn + 5))]) (rest := []) hX (Ct.re (c_X11_times (xl X) (reF (xK X) (frm (fun q => ¬ isM m Q q) g1)) g1 m Q th fi F Od hS1.frm A hI hA (sc (7 * nn + 1)) (sc (7 * nn + 2)) (sc (7 * nn + 3)) (sc (7 * nn + 4)) (sc (7 * nn + 5)))) hS1.1 rfl lk_L_139 wI_X11_times wV_X11_X11_times wN_X11 wC_X11_times hd_X11_times rfl (by rw [hL]; decide) (by decide) rfl (Nat.le_of_ble_eq_true rfl) dL_law_1195 (by rw [hR]; omega) (by rw [hR]; omega) jx_no ?_
  rintro _ g2 ⟨k2, v2, rfl, ⟨Q2, Od2, fi2, F2, hS2, hA2⟩, hv2⟩
  obtain ⟨hC2, hS2, hd2, hkp⟩ := law_m hk0 hC1 hd1 hS2
  obtain ⟨⟨ek, hk4⟩, hev⟩ := rd_det hv1 hv2
  rw [← ek] at hS2
  have ho2 := hkp oo _ ho1 (hS1.noJ ho1)
  show J X ((200 + 20 * nn) + 2) ((8000 + 80 * nn) + 12) g2 1198 [(5, .int (nI k1)), (4, .int (nI (7 * nn))), (3, .ref oo), (2, .ref m), (1, .ref x), (0, .ref b)] [.int v2]
  refine j_istore (lv' := [(6, .int v2), (5, .int (nI k1)), (4, .int (nI (7 * nn))), (3, .ref oo), (2, .ref m), (1, .ref x), (0, .ref b)]) hX dL_law_1198 (by rw [hn]; decide) rfl ?_
  refine j_aload_n hX dL_law_1200 4 rfl ?_
  refine j_callV (As := []) (rest := []) hX (c_X11_thrown (xl X) (xK X) g2 m Q2 (nI k1) (nI Od2.length) fi2 F2 hS2) hS2.1 rfl lk_L_89 wI_X11_thrown wV_X11_X11_thrown wN_X11 wC_X11_thrown hd_X11_thrown rfl (by rw [hL]; decide) (by decide) rfl (Nat.le_of_ble_eq_true rfl) dL_law_1201 (by rw [hR]; omega) (by rw [hR]; omega) jx_no ?_
  rintro _ _ ⟨rfl, rfl⟩
  show J X ((200 + 20 * nn) + 2) ((8000 + 80 * nn) + 12) g2 1204 [(6, .int v2), (5, .int (nI k1)), (4, .int (nI (7 * nn))), (3, .ref oo), (2, .ref m), (1, .ref x), (0, .ref b)] [.int (nI k1)]
  refine j_iload hX dL_law_1204 1 rfl ?_
  refine j_icmp_eq hX 1211 dL_law_1206 (by decide) (fun _ => ?_) (fun c_1206 => absurd (by rfl) c_1206)
  refine j_iload hX dL_law_1211 1 rfl ?_
  refine j_if_ne hX 1228 dL_law_1213 (by decide) (fun c_1213 => ?_) (fun c_1213 => ?_)
  · refine j_goto hX 1423 dL_law_1228 (by decide) ?_
    refine J.mono (kc' := 200 + 20 * (nn + 1)) (ks' := 8000 + 80 * (nn + 1)) ?_ (by omega) (by omega)
    refine j_sub [2, 3, 4, 5, 6] rfl ?_
    exact KEND g2 A Y1 ch1 N1 Q2 _ fi2 F2 Od2 f1 hC2 hS2 hA2 hd2 ho2 hI1
  · have hk00 : k1 = 0 := (nI_eq (by omega) (by decide)).mp c_1213
    refine j_aload_n hX dL_law_1216 3 rfl ?_
    refine j_iconst (v := nI 0) hX dL_law_1217 (by decide) ?_
    refine j_laldN hX ho2 (0) (rfl) (by decide) (by decide) dL_law_1218 ?_
    refine j_iload hX dL_law_1219 0 rfl ?_
    refine j_i2l hX dL_law_1221 ?_
    refine j_lcmp hX dL_law_1222 ?_
    refine j_if_eq hX 1228 dL_law_1223 (by decide) (fun _ => ?_) (fun c_1223 => absurd (by rw [lg_cmp_eq, (hev hk00).1, (hev hk00).2]) c_1223)
    refine j_goto hX 1423 dL_law_1228 (by decide) ?_
    refine J.mono (kc' := 200 + 20 * (nn + 1)) (ks' := 8000 + 80 * (nn + 1)) ?_ (by omega) (by omega)
    refine j_sub [2, 3, 4, 5, 6] rfl ?_
    exact KEND g2 A Y1 ch1 N1 Q2 _ fi2 F2 Od2 f1 hC2 hS2 hA2 hd2 ho2 hI1

set_option maxRecDepth 20000 in
set_option maxHeartbeats 1600000 in
theorem law_cell (l : Launch) (hlt : l.stackTraces = false) (X : Cx) (hX : OK X cL_law RL) (hl : xl X = l) (hn : xn X = 8) (hL : xlev X = 11) (hR : xR X = room_1) (hk0 : ∀ q, kF (xK X) q = none) (b L : Nat) (sc : Nat → Int32) (hsc : Scr X b L sc) (hL9 : L ≤ 3584) (x m oo nn : Nat) (hnn : 7 * nn + 7 ≤ L) (g : Wd) (A : Ab) (Y : Lt) (ch : Nat → Int32) (N : Nat → Bg) (Q : Nat → Nat) (th fi : Int32) (F : Nat → Nat → Int32) (Od : List Nat) (f : Nat → Int64) (hC : CS (xK X) g x A Y ch (fun _ => 0) N) (hS : RS (xK X) g m Q th (nI Od.length) fi F) (hA : RA A Od F) (hd : ∀ q, isM m Q q → ZN x A Y q) (ho : g oo = some (aJ (xK X) 1 f)) (hI : Inv A) (KEND : ∀ (g : Wd) (A : Ab) (Y : Lt) (ch : Nat → Int32) (N : Nat → Bg) (Q : Nat → Nat) (th fi : Int32) (F : Nat → Nat → Int32) (Od : List Nat) (f : Nat → Int64), CS (xK X) g x A Y ch (fun _ => 0) N → RS (xK X) g m Q th (nI Od.length) fi F → RA A Od F → (∀ q, isM m Q q → ZN x A Y q) → g oo = some (aJ (xK X) 1 f) → Inv A → J X (200 + 20 * (nn + 1)) (8000 + 80 * (nn + 1)) g 1423 [(4, .int (nI (7 * nn))), (3, .ref oo), (2, .ref m), (1, .ref x), (0, .ref b)] []) : J X (200 + 20 * nn) (8000 + 80 * nn) g 1231 [(4, .int (nI (7 * nn))), (3, .ref oo), (2, .ref m), (1, .ref x), (0, .ref b)] [] := by
  subst hl
  have hrc : room_1.cells = 601024 := rfl
  have hrs : room_1.slots = 7293034 := rfl
  have hnb : nn ≤ 512 := by omega
  have hzo : ZN x A Y oo := hC.znJ ho
  have hkF : kF (reF (xK X) (frm (fun q => ZN x A Y q ∧ q ≠ oo) g)) oo = none := by
    show frm (fun q => ZN x A Y q ∧ q ≠ oo) g oo = none
    unfold frm
    rw [if_neg (fun z => z.2 rfl)]
  refine j_aload_n hX dL_law_1231 3 rfl ?_
  refine j_aload_n hX dL_law_1232 4 rfl ?_
  refine j_iload hX dL_law_1233 0 rfl ?_
  refine j_iconst (v := nI 1) hX dL_law_1235 (by decide) ?_
  refine j_iadd hX dL_law_1236 ?_
  refine j_eqi (y := nI (7 * nn + 1)) (nI_add _ 1) ?_
  refine j_sld hX hsc (7 * nn + 1) (rfl) (by omega) (by omega) dL_law_1237 ?_
  refine j_aload_n hX dL_law_1238 4 rfl ?_
  refine j_iload hX dL_law_1239 0 rfl ?_
  refine j_iconst (v := nI 2) hX dL_law_1241 (by decide) ?_
  refine j_iadd hX dL_law_1242 ?_
  refine j_eqi (y := nI (7 * nn + 2)) (nI_add _ 2) ?_
  refine j_sld hX hsc (7 * nn + 2) (rfl) (by omega) (by omega) dL_law_1243 ?_
  refine j_aload_n hX dL_law_1244 4 rfl ?_
  refine j_iload hX dL_law_1245 0 rfl ?_
  refine j_iconst (v := nI 3) hX dL_law_1247 (by decide) ?_
  refine j_iadd hX dL_law_1248 ?_
  refine j_eqi (y := nI (7 * nn + 3)) (nI_add _ 3) ?_
  refine j_sld hX hsc (7 * nn + 3) (rfl) (by omega) (by omega) dL_law_1249 ?_
  refine j_aload_n hX dL_law_1250 1 rfl ?_
  refine j_callSH (As := [.ref x, .int (sc (7 * nn + 1)), .int (sc (7 * nn + 2)), .int (sc (7 * nn + 3)), .ref oo]) (rest := []) hX (CtH.re (c_L_cell (xl X) (reF (xK X) (frm (fun q => ZN x A Y q ∧ q ≠ oo) g)) g hlt x A Y ch N (hC.frm (fun q hq => hq.1)) hI oo f ho hkF (sc (7 * nn + 1)) (sc (7 * nn + 2)) (sc (7 * nn + 3)))) lk_L_140 wS_L_cell wN_L wH_L_cell hd_L_cell.2 rfl (by rw [hL]; decide) (by decide) rfl (Nat.le_of_ble_eq_true rfl) dL_law_1251 (by rw [hR]; omega) (by rw [hR]; omega) jx_no ?_
  rintro _ g1 ⟨k1, f1, rfl, ⟨Y1, ch1, N1, hC1⟩, ho1, hv1⟩
  obtain ⟨hC1, hS1, hd1⟩ := law_c hk0 hS (P := (fun q => ZN x A Y q ∧ q ≠ oo)) (fun q hq => ⟨hd q hq, fun z => hS.noJ ho (z ▸ hq)⟩) hC1
  have hI1 := hI
  show J X ((200 + 20 * nn) + 4) ((8000 + 80 * nn) + 24) g1 1254 [(4, .int (nI (7 * nn))), (3, .ref oo), (2, .ref m), (1, .ref x), (0, .ref b)] [.int (nI k1)]
  refine j_istore (lv' := [(5, .int (nI k1)), (4, .int (nI (7 * nn))), (3, .ref oo), (2, .ref m), (1, .ref x), (0, .ref b)]) hX dL_law_1254 (by rw [hn]; decide) rfl ?_
  refine j_aload_n hX dL_law_1256 3 rfl ?_
  refine j_aload_n hX dL_law_1257 5 rfl ?_
  refine j_iload hX dL_law_1258 1 rfl ?_
  refine j_iconst (v := nI 1) hX dL_law_1260 (by decide) ?_
  refine j_iadd hX dL_law_1261 ?_
  refine j_eqi (y := nI (7 * nn + 1)) (nI_add _ 1) ?_
  refine j_sld hX hsc (7 * nn + 1) (rfl) (by omega) (by omega) dL_law_1262 ?_
  refine j_aload_n hX dL_law_1263 5 rfl ?_
  refine j_iload hX dL_law_1264 1 rfl ?_
  refine j_iconst (v := nI 2) hX dL_law_1266 (by decide) ?_
  refine j_iadd hX dL_law_1267 ?_
  refine j_eqi (y := nI (7 * nn + 2)) (nI_add _ 2) ?_
  refine j_sld hX hsc (7 * nn + 2) (rfl) (by omega) (by omega) dL_law_1268 ?_
  refine j_aload_n hX dL_law_1269 5 rfl ?_
  refine j_iload hX dL_law_1270 1 rfl ?_
  refine j_iconst (v := nI 3) hX dL_law_1272 (by decide) ?_
  refine j_iadd hX dL_law_1273 ?_
  refine j_eqi (y := nI (7 * nn + 3)) (nI_add _ 3) ?_
  refine j_sld hX hsc (7 * nn + 3) (rfl) (by omega) (by omega) dL_law_1274 ?_
  refine j_callV (As := [.int (sc (7 * nn + 1)), .int (sc (7 * nn + 2)), .int (sc (7 * nn + 3))]) (rest := []) hX (Ct.re (c_X11_cell (xl X) (reF (xK X) (frm (fun q => ¬ isM m Q q) g1)) g1 m Q th fi F Od hS1.frm A hI hA (sc (7 * nn + 1)) (sc (7 * nn + 2)) (sc (7 * nn + 3)))) hS1.1 rfl lk_L_143 wI_X11_cell wV_X11_X11_cell wN_X11 wC_X11_cell hd_X11_cell rfl (by rw [hL]; decide) (by decide) rfl (Nat.le_of_ble_eq_true rfl) dL_law_1275 (by rw [hR]; omega) (by rw [hR]; omega) jx_no ?_
  rintro _ g2 ⟨k2, v2, rfl, ⟨Q2, Od2, fi2, F2, hS2, hA2⟩, hv2⟩
  obtain ⟨hC2, hS2, hd2, hkp⟩ := law_m hk0 hC1 hd1 hS2
  obtain ⟨⟨ek, hk4⟩, hev⟩ := rd_det hv1 hv2
  rw [← ek] at hS2
  have ho2 := hkp oo _ ho1 (hS1.noJ ho1)
  show J X ((200 + 20 * nn) + 4) ((8000 + 80 * nn) + 24) g2 1278 [(5, .int (nI k1)), (4, .int (nI (7 * nn))), (3, .ref oo), (2, .ref m), (1, .ref x), (0, .ref b)] [.int v2]
  refine j_istore (lv' := [(6, .int v2), (5, .int (nI k1)), (4, .int (nI (7 * nn))), (3, .ref oo), (2, .ref m), (1, .ref x), (0, .ref b)]) hX dL_law_1278 (by rw [hn]; decide) rfl ?_
  refine j_aload_n hX dL_law_1280 4 rfl ?_
  refine j_callV (As := []) (rest := []) hX (c_X11_thrown (xl X) (xK X) g2 m Q2 (nI k1) (nI Od2.length) fi2 F2 hS2) hS2.1 rfl lk_L_89 wI_X11_thrown wV_X11_X11_thrown wN_X11 wC_X11_thrown hd_X11_thrown rfl (by rw [hL]; decide) (by decide) rfl (Nat.le_of_ble_eq_true rfl) dL_law_1281 (by rw [hR]; omega) (by rw [hR]; omega) jx_no ?_
  rintro _ _ ⟨rfl, rfl⟩
  show J X ((200 + 20 * nn) + 4) ((8000 + 80 * nn) + 24) g2 1284 [(6, .int v2), (5, .int (nI k1)), (4, .int (nI (7 * nn))), (3, .ref oo), (2, .ref m), (1, .ref x), (0, .ref b)] [.int (nI k1)]
  refine j_iload hX dL_law_1284 1 rfl ?_
  refine j_icmp_eq hX 1291 dL_law_1286 (by decide) (fun _ => ?_) (fun c_1286 => absurd (by rfl) c_1286)
  refine j_iload hX dL_law_1291 1 rfl ?_
  refine j_if_ne hX 1308 dL_law_1293 (by decide) (fun c_1293 => ?_) (fun c_1293 => ?_)
  · refine j_goto hX 1423 dL_law_1308 (by decide) ?_
    refine J.mono (kc' := 200 + 20 * (nn + 1)) (ks' := 8000 + 80 * (nn + 1)) ?_ (by omega) (by omega)
    refine j_sub [2, 3, 4, 5, 6] rfl ?_
    exact KEND g2 A Y1 ch1 N1 Q2 _ fi2 F2 Od2 f1 hC2 hS2 hA2 hd2 ho2 hI1
  · have hk00 : k1 = 0 := (nI_eq (by omega) (by decide)).mp c_1293
    refine j_aload_n hX dL_law_1296 3 rfl ?_
    refine j_iconst (v := nI 0) hX dL_law_1297 (by decide) ?_
    refine j_laldN hX ho2 (0) (rfl) (by decide) (by decide) dL_law_1298 ?_
    refine j_iload hX dL_law_1299 0 rfl ?_
    refine j_i2l hX dL_law_1301 ?_
    refine j_lcmp hX dL_law_1302 ?_
    refine j_if_eq hX 1308 dL_law_1303 (by decide) (fun _ => ?_) (fun c_1303 => absurd (by rw [lg_cmp_eq, (hev hk00).1, (hev hk00).2]) c_1303)
    refine j_goto hX 1423 dL_law_1308 (by decide) ?_
    refine J.mono (kc' := 200 + 20 * (nn + 1)) (ks' := 8000 + 80 * (nn + 1)) ?_ (by omega) (by omega)
    refine j_sub [2, 3, 4, 5, 6] rfl ?_
    exact KEND g2 A Y1 ch1 N1 Q2 _ fi2 F2 Od2 f1 hC2 hS2 hA2 hd2 ho2 hI1

set_option maxRecDepth 20000 in
set_option maxHeartbeats 1600000 in
theorem law_changed (l : Launch) (hlt : l.stackTraces = false) (X : Cx) (hX : OK X cL_law RL) (hl : xl X = l) (hn : xn X = 8) (hL : xlev X = 11) (hR : xR X = room_1) (hk0 : ∀ q, kF (xK X) q = none) (b L : Nat) (sc : Nat → Int32) (hsc : Scr X b L sc) (hL9 : L ≤ 3584) (x m oo nn : Nat) (hnn : 7 * nn + 7 ≤ L) (g : Wd) (A : Ab) (Y : Lt) (ch : Nat → Int32) (N : Nat → Bg) (Q : Nat → Nat) (th fi : Int32) (F : Nat → Nat → Int32) (Od : List Nat) (f : Nat → Int64) (hC : CS (xK X) g x A Y ch (fun _ => 0) N) (hS : RS (xK X) g m Q th (nI Od.length) fi F) (hA : RA A Od F) (hd : ∀ q, isM m Q q → ZN x A Y q) (ho : g oo = some (aJ (xK X) 1 f)) (hI : Inv A) (KEND : ∀ (g : Wd) (A : Ab) (Y : Lt) (ch : Nat → Int32) (N : Nat → Bg) (Q : Nat → Nat) (th fi : Int32) (F : Nat → Nat → Int32) (Od : List Nat) (f : Nat → Int64), CS (xK X) g x A Y ch (fun _ => 0) N → RS (xK X) g m Q th (nI Od.length) fi F → RA A Od F → (∀ q, isM m Q q → ZN x A Y q) → g oo = some (aJ (xK X) 1 f) → Inv A → J X (200 + 20 * (nn + 1)) (8000 + 80 * (nn + 1)) g 1423 [(4, .int (nI (7 * nn))), (3, .ref oo), (2, .ref m), (1, .ref x), (0, .ref b)] []) : J X (200 + 20 * nn) (8000 + 80 * nn) g 1311 [(4, .int (nI (7 * nn))), (3, .ref oo), (2, .ref m), (1, .ref x), (0, .ref b)] [] := by
  subst hl
  have hrc : room_1.cells = 601024 := rfl
  have hrs : room_1.slots = 7293034 := rfl
  have hnb : nn ≤ 512 := by omega
  have hzo : ZN x A Y oo := hC.znJ ho
  have hkF : kF (reF (xK X) (frm (fun q => ZN x A Y q ∧ q ≠ oo) g)) oo = none := by
    show frm (fun q => ZN x A Y q ∧ q ≠ oo) g oo = none
    unfold frm
    rw [if_neg (fun z => z.2 rfl)]
  refine j_aload_n hX dL_law_1311 3 rfl ?_
  refine j_aload_n hX dL_law_1312 4 rfl ?_
  refine j_iload hX dL_law_1313 0 rfl ?_
  refine j_iconst (v := nI 1) hX dL_law_1315 (by decide) ?_
  refine j_iadd hX dL_law_1316 ?_
  refine j_eqi (y := nI (7 * nn + 1)) (nI_add _ 1) ?_
  refine j_sld hX hsc (7 * nn + 1) (rfl) (by omega) (by omega) dL_law_1317 ?_
  refine j_aload_n hX dL_law_1318 1 rfl ?_
  refine j_callSH (As := [.ref x, .int (sc (7 * nn + 1)), .ref oo]) (rest := []) hX (CtH.re (c_L_changed (xl X) (reF (xK X) (frm (fun q => ZN x A Y q ∧ q ≠ oo) g)) g hlt x A Y ch N (hC.frm (fun q hq => hq.1)) hI oo f ho hkF (sc (7 * nn + 1)))) lk_L_144 wS_L_changed wN_L wH_L_changed hd_L_changed.2 rfl (by rw [hL]; decide) (by decide) rfl (Nat.le_of_ble_eq_true rfl) dL_law_1319 (by rw [hR]; omega) (by rw [hR]; omega) jx_no ?_
  rintro _ g1 ⟨k1, f1, rfl, ⟨Y1, ch1, N1, hC1⟩, ho1, hv1⟩
  obtain ⟨hC1, hS1, hd1⟩ := law_c hk0 hS (P := (fun q => ZN x A Y q ∧ q ≠ oo)) (fun q hq => ⟨hd q hq, fun z => hS.noJ ho (z ▸ hq)⟩) hC1
  have hI1 := hI
  show J X ((200 + 20 * nn) + 2) ((8000 + 80 * nn) + 12) g1 1322 [(4, .int (nI (7 * nn))), (3, .ref oo), (2, .ref m), (1, .ref x), (0, .ref b)] [.int (nI k1)]
  refine j_istore (lv' := [(5, .int (nI k1)), (4, .int (nI (7 * nn))), (3, .ref oo), (2, .ref m), (1, .ref x), (0, .ref b)]) hX dL_law_1322 (by rw [hn]; decide) rfl ?_
  refine j_aload_n hX dL_law_1324 3 rfl ?_
  refine j_aload_n hX dL_law_1325 5 rfl ?_
  refine j_iload hX dL_law_1326 1 rfl ?_
  refine j_iconst (v := nI 1) hX dL_law_1328 (by decide) ?_
  refine j_iadd hX dL_law_1329 ?_
  refine j_eqi (y := nI (7 * nn + 1)) (nI_add _ 1) ?_
  refine j_sld hX hsc (7 * nn + 1) (rfl) (by omega) (by omega) dL_law_1330 ?_
  refine j_callV (As := [.int (sc (7 * nn + 1))]) (rest := []) hX (Ct.re (c_X11_changed (xl X) (reF (xK X) (frm (fun q => ¬ isM m Q q) g1)) g1 m Q th fi F Od hS1.frm A hI hA (sc (7 * nn + 1)))) hS1.1 rfl lk_L_146 wI_X11_changed wV_X11_X11_changed wN_X11 wC_X11_changed hd_X11_changed rfl (by rw [hL]; decide) (by decide) rfl (Nat.le_of_ble_eq_true rfl) dL_law_1331 (by rw [hR]; omega) (by rw [hR]; omega) jx_no ?_
  rintro _ g2 ⟨k2, v2, rfl, ⟨Q2, Od2, fi2, F2, hS2, hA2⟩, hv2⟩
  obtain ⟨hC2, hS2, hd2, hkp⟩ := law_m hk0 hC1 hd1 hS2
  obtain ⟨⟨ek, hk4⟩, hev⟩ := rd_det hv1 hv2
  rw [← ek] at hS2
  have ho2 := hkp oo _ ho1 (hS1.noJ ho1)
  show J X ((200 + 20 * nn) + 2) ((8000 + 80 * nn) + 12) g2 1334 [(5, .int (nI k1)), (4, .int (nI (7 * nn))), (3, .ref oo), (2, .ref m), (1, .ref x), (0, .ref b)] [.int v2]
  refine j_istore (lv' := [(6, .int v2), (5, .int (nI k1)), (4, .int (nI (7 * nn))), (3, .ref oo), (2, .ref m), (1, .ref x), (0, .ref b)]) hX dL_law_1334 (by rw [hn]; decide) rfl ?_
  refine j_aload_n hX dL_law_1336 4 rfl ?_
  refine j_callV (As := []) (rest := []) hX (c_X11_thrown (xl X) (xK X) g2 m Q2 (nI k1) (nI Od2.length) fi2 F2 hS2) hS2.1 rfl lk_L_89 wI_X11_thrown wV_X11_X11_thrown wN_X11 wC_X11_thrown hd_X11_thrown rfl (by rw [hL]; decide) (by decide) rfl (Nat.le_of_ble_eq_true rfl) dL_law_1337 (by rw [hR]; omega) (by rw [hR]; omega) jx_no ?_
  rintro _ _ ⟨rfl, rfl⟩
  show J X ((200 + 20 * nn) + 2) ((8000 + 80 * nn) + 12) g2 1340 [(6, .int v2), (5, .int (nI k1)), (4, .int (nI (7 * nn))), (3, .ref oo), (2, .ref m), (1, .ref x), (0, .ref b)] [.int (nI k1)]
  refine j_iload hX dL_law_1340 1 rfl ?_
  refine j_icmp_eq hX 1347 dL_law_1342 (by decide) (fun _ => ?_) (fun c_1342 => absurd (by rfl) c_1342)
  refine j_iload hX dL_law_1347 1 rfl ?_
  refine j_if_ne hX 1364 dL_law_1349 (by decide) (fun c_1349 => ?_) (fun c_1349 => ?_)
  · refine j_goto hX 1423 dL_law_1364 (by decide) ?_
    refine J.mono (kc' := 200 + 20 * (nn + 1)) (ks' := 8000 + 80 * (nn + 1)) ?_ (by omega) (by omega)
    refine j_sub [2, 3, 4, 5, 6] rfl ?_
    exact KEND g2 A Y1 ch1 N1 Q2 _ fi2 F2 Od2 f1 hC2 hS2 hA2 hd2 ho2 hI1
  · have hk00 : k1 = 0 := (nI_eq (by omega) (by decide)).mp c_1349
    refine j_aload_n hX dL_law_1352 3 rfl ?_
    refine j_iconst (v := nI 0) hX dL_law_1353 (by decide) ?_
    refine j_laldN hX ho2 (0) (rfl) (by decide) (by decide) dL_law_1354 ?_
    refine j_iload hX dL_law_1355 0 rfl ?_
    refine j_i2l hX dL_law_1357 ?_
    refine j_lcmp hX dL_law_1358 ?_
    refine j_if_eq hX 1364 dL_law_1359 (by decide) (fun _ => ?_) (fun c_1359 => absurd (by rw [lg_cmp_eq, (hev hk00).1, (hev hk00).2]) c_1359)
    refine j_goto hX 1423 dL_law_1364 (by decide) ?_
    refine J.mono (kc' := 200 + 20 * (nn + 1)) (ks' := 8000 + 80 * (nn + 1)) ?_ (by omega) (by omega)
    refine j_sub [2, 3, 4, 5, 6] rfl ?_
    exact KEND g2 A Y1 ch1 N1 Q2 _ fi2 F2 Od2 f1 hC2 hS2 hA2 hd2 ho2 hI1

set_option maxRecDepth 20000 in
set_option maxHeartbeats 1600000 in
theorem law_count (l : Launch) (hlt : l.stackTraces = false) (X : Cx) (hX : OK X cL_law RL) (hl : xl X = l) (hn : xn X = 8) (hL : xlev X = 11) (hR : xR X = room_1) (hk0 : ∀ q, kF (xK X) q = none) (b L : Nat) (sc : Nat → Int32) (hsc : Scr X b L sc) (hL9 : L ≤ 3584) (x m oo nn : Nat) (hnn : 7 * nn + 7 ≤ L) (g : Wd) (A : Ab) (Y : Lt) (ch : Nat → Int32) (N : Nat → Bg) (Q : Nat → Nat) (th fi : Int32) (F : Nat → Nat → Int32) (Od : List Nat) (f : Nat → Int64) (hC : CS (xK X) g x A Y ch (fun _ => 0) N) (hS : RS (xK X) g m Q th (nI Od.length) fi F) (hA : RA A Od F) (hd : ∀ q, isM m Q q → ZN x A Y q) (ho : g oo = some (aJ (xK X) 1 f)) (hI : Inv A) (KEND : ∀ (g : Wd) (A : Ab) (Y : Lt) (ch : Nat → Int32) (N : Nat → Bg) (Q : Nat → Nat) (th fi : Int32) (F : Nat → Nat → Int32) (Od : List Nat) (f : Nat → Int64), CS (xK X) g x A Y ch (fun _ => 0) N → RS (xK X) g m Q th (nI Od.length) fi F → RA A Od F → (∀ q, isM m Q q → ZN x A Y q) → g oo = some (aJ (xK X) 1 f) → Inv A → J X (200 + 20 * (nn + 1)) (8000 + 80 * (nn + 1)) g 1423 [(4, .int (nI (7 * nn))), (3, .ref oo), (2, .ref m), (1, .ref x), (0, .ref b)] []) : J X (200 + 20 * nn) (8000 + 80 * nn) g 1367 [(4, .int (nI (7 * nn))), (3, .ref oo), (2, .ref m), (1, .ref x), (0, .ref b)] [] := by
  subst hl
  have hrc : room_1.cells = 601024 := rfl
  have hrs : room_1.slots = 7293034 := rfl
  have hnb : nn ≤ 512 := by omega
  have hzo : ZN x A Y oo := hC.znJ ho
  have hkF : kF (reF (xK X) (frm (fun q => ZN x A Y q ∧ q ≠ oo) g)) oo = none := by
    show frm (fun q => ZN x A Y q ∧ q ≠ oo) g oo = none
    unfold frm
    rw [if_neg (fun z => z.2 rfl)]
  refine j_aload_n hX dL_law_1367 3 rfl ?_
  refine j_aload_n hX dL_law_1368 4 rfl ?_
  refine j_iload hX dL_law_1369 0 rfl ?_
  refine j_iconst (v := nI 1) hX dL_law_1371 (by decide) ?_
  refine j_iadd hX dL_law_1372 ?_
  refine j_eqi (y := nI (7 * nn + 1)) (nI_add _ 1) ?_
  refine j_sld hX hsc (7 * nn + 1) (rfl) (by omega) (by omega) dL_law_1373 ?_
  refine j_aload_n hX dL_law_1374 1 rfl ?_
  refine j_callSH (As := [.ref x, .int (sc (7 * nn + 1)), .ref oo]) (rest := []) hX (CtH.re (c_L_count (xl X) (reF (xK X) (frm (fun q => ZN x A Y q ∧ q ≠ oo) g)) g hlt x A Y ch N (hC.frm (fun q hq => hq.1)) hI oo f ho hkF (sc (7 * nn + 1)))) lk_L_147 wS_L_count wN_L wH_L_count hd_L_count.2 rfl (by rw [hL]; decide) (by decide) rfl (Nat.le_of_ble_eq_true rfl) dL_law_1375 (by rw [hR]; omega) (by rw [hR]; omega) jx_no ?_
  rintro _ g1 ⟨k1, f1, rfl, ⟨Y1, ch1, N1, hC1⟩, ho1, hv1⟩
  obtain ⟨hC1, hS1, hd1⟩ := law_c hk0 hS (P := (fun q => ZN x A Y q ∧ q ≠ oo)) (fun q hq => ⟨hd q hq, fun z => hS.noJ ho (z ▸ hq)⟩) hC1
  have hI1 := hI
  show J X ((200 + 20 * nn) + 1) ((8000 + 80 * nn) + 6) g1 1378 [(4, .int (nI (7 * nn))), (3, .ref oo), (2, .ref m), (1, .ref x), (0, .ref b)] [.int (nI k1)]
  refine j_istore (lv' := [(5, .int (nI k1)), (4, .int (nI (7 * nn))), (3, .ref oo), (2, .ref m), (1, .ref x), (0, .ref b)]) hX dL_law_1378 (by rw [hn]; decide) rfl ?_
  refine j_aload_n hX dL_law_1380 3 rfl ?_
  refine j_aload_n hX dL_law_1381 5 rfl ?_
  refine j_iload hX dL_law_1382 1 rfl ?_
  refine j_iconst (v := nI 1) hX dL_law_1384 (by decide) ?_
  refine j_iadd hX dL_law_1385 ?_
  refine j_eqi (y := nI (7 * nn + 1)) (nI_add _ 1) ?_
  refine j_sld hX hsc (7 * nn + 1) (rfl) (by omega) (by omega) dL_law_1386 ?_
  refine j_callV (As := [.int (sc (7 * nn + 1))]) (rest := []) hX (Ct.re (c_X11_count (xl X) (reF (xK X) (frm (fun q => ¬ isM m Q q) g1)) g1 m Q th fi F Od hS1.frm A hI hA (sc (7 * nn + 1)))) hS1.1 rfl lk_L_149 wI_X11_count wV_X11_X11_count wN_X11 wC_X11_count hd_X11_count rfl (by rw [hL]; decide) (by decide) rfl (Nat.le_of_ble_eq_true rfl) dL_law_1387 (by rw [hR]; omega) (by rw [hR]; omega) jx_no ?_
  rintro _ g2 ⟨k2, v2, rfl, ⟨Q2, Od2, fi2, F2, hS2, hA2⟩, hv2⟩
  obtain ⟨hC2, hS2, hd2, hkp⟩ := law_m hk0 hC1 hd1 hS2
  obtain ⟨⟨ek, hk4⟩, hev⟩ := rd_det hv1 hv2
  rw [← ek] at hS2
  have ho2 := hkp oo _ ho1 (hS1.noJ ho1)
  show J X ((200 + 20 * nn) + 1) ((8000 + 80 * nn) + 6) g2 1390 [(5, .int (nI k1)), (4, .int (nI (7 * nn))), (3, .ref oo), (2, .ref m), (1, .ref x), (0, .ref b)] [.int v2]
  refine j_istore (lv' := [(6, .int v2), (5, .int (nI k1)), (4, .int (nI (7 * nn))), (3, .ref oo), (2, .ref m), (1, .ref x), (0, .ref b)]) hX dL_law_1390 (by rw [hn]; decide) rfl ?_
  refine j_aload_n hX dL_law_1392 4 rfl ?_
  refine j_callV (As := []) (rest := []) hX (c_X11_thrown (xl X) (xK X) g2 m Q2 (nI k1) (nI Od2.length) fi2 F2 hS2) hS2.1 rfl lk_L_89 wI_X11_thrown wV_X11_X11_thrown wN_X11 wC_X11_thrown hd_X11_thrown rfl (by rw [hL]; decide) (by decide) rfl (Nat.le_of_ble_eq_true rfl) dL_law_1393 (by rw [hR]; omega) (by rw [hR]; omega) jx_no ?_
  rintro _ _ ⟨rfl, rfl⟩
  show J X ((200 + 20 * nn) + 1) ((8000 + 80 * nn) + 6) g2 1396 [(6, .int v2), (5, .int (nI k1)), (4, .int (nI (7 * nn))), (3, .ref oo), (2, .ref m), (1, .ref x), (0, .ref b)] [.int (nI k1)]
  refine j_iload hX dL_law_1396 1 rfl ?_
  refine j_icmp_eq hX 1403 dL_law_1398 (by decide) (fun _ => ?_) (fun c_1398 => absurd (by rfl) c_1398)
  refine j_iload hX dL_law_1403 1 rfl ?_
  refine j_if_ne hX 1420 dL_law_1405 (by decide) (fun c_1405 => ?_) (fun c_1405 => ?_)
  · refine j_goto hX 1423 dL_law_1420 (by decide) ?_
    refine J.mono (kc' := 200 + 20 * (nn + 1)) (ks' := 8000 + 80 * (nn + 1)) ?_ (by omega) (by omega)
    refine j_sub [2, 3, 4, 5, 6] rfl ?_
    exact KEND g2 A Y1 ch1 N1 Q2 _ fi2 F2 Od2 f1 hC2 hS2 hA2 hd2 ho2 hI1
  · have hk00 : k1 = 0 := (nI_eq (by omega) (by decide)).mp c_1405
    refine j_aload_n hX dL_law_1408 3 rfl ?_
    refine j_iconst (v := nI 0) hX dL_law_1409 (by decide) ?_
    refine j_laldN hX ho2 (0) (rfl) (by decide) (by decide) dL_law_1410 ?_
    refine j_iload hX dL_law_1411 0 rfl ?_
    refine j_i2l hX dL_law_1413 ?_
    refine j_lcmp hX dL_law_1414 ?_
    refine j_if_eq hX 1420 dL_law_1415 (by decide) (fun _ => ?_) (fun c_1415 => absurd (by rw [lg_cmp_eq, (hev hk00).1, (hev hk00).2]) c_1415)
    refine j_goto hX 1423 dL_law_1420 (by decide) ?_
    refine J.mono (kc' := 200 + 20 * (nn + 1)) (ks' := 8000 + 80 * (nn + 1)) ?_ (by omega) (by omega)
    refine j_sub [2, 3, 4, 5, 6] rfl ?_
    exact KEND g2 A Y1 ch1 N1 Q2 _ fi2 F2 Od2 f1 hC2 hS2 hA2 hd2 ho2 hI1

