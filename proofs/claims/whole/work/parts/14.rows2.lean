/-! ROWS, THE SECOND: what is made; constructors; inherited and abstract methods; switches; Math; thrown exceptions -/
section Rows2
variable {X : Cx} {cc : ByteArray} {own : String} {kc ks : Nat} {g : Wd} {pc : Nat} {lv lv' : List (Nat × Value)} {st rest : List Value}
theorem hs_new {X : Cx} {g : Wd} {H H1 : Heap} {locs : List Loc} {e : va_E} (hb0 : kb (xK X) ≤ (xs X).heap.size) (h : Hs X g H locs) (he : va_at (kD (xK X)) vwCl (H.size, e) H1) (z : H1.size = H.size + 1) (oq : ∀ q : Nat, q < H.size → H1[q]? = H[q]?) : Hs X (up g H.size e) H1 locs := by
  obtain ⟨hP, hA, hS⟩ := h
  refine ⟨fun b x hb => ?_, hA.put (Nat.le_trans hb0 hS.1), ⟨Nat.le_trans hS.1 (by omega), fun q h1 h2 => (oq q (Nat.lt_of_lt_of_le h1 hS.1)).trans (hS.2.1 q h1 h2), hS.2.2⟩⟩
  by_cases hq : b = H.size
  · subst hq; rw [up_s] at hb; cases hb; exact he
  · rw [up_n hq] at hb; exact (hP b x hb).kept (oq b (hP.lt hb))
theorem hs_free {X : Cx} {g : Wd} {H : Heap} {locs : List Loc} (h : Hs X g H locs) : g H.size = none := by
  rcases hq : g H.size with _ | e
  · rfl
  · exact absurd (h.1.lt hq) (Nat.lt_irrefl _)
theorem j_new (hX : OK X cc own) {C : String} {T : u_T} {N ci idx : Nat} {ty : Nat → FieldType} {fs : List Value} (hc : vwCl[ci]? = some (C, T, N)) (wf : ∀ w ∈ u_ws C T N, w ∈ wsL_law) (hty : ∀ k, k < N → parseFieldDescriptor (T k).2.2.1 = some (ty k)) (wk : Cond.classLink own idx C ∈ wsL_law) (wa : Cond.instantiable C N ∈ wsL_law) (wn : Cond.initialized C ∈ wsL_law) (hfs : ∀ j, j < N → defaultValue (ty j) = vp_V fs j)
    (d : decode cc pc = .ok (.new idx, 3)) (hcell : kc + 1 ≤ (xR X).cells) (hslot : ks + N ≤ (xR X).slots) (k : ∀ q, g q = none → J X (kc + 1) (ks + N) (up g q (ob ci fs)) (pc + 3) lv (.ref q :: st)) : J X kc ks g pc lv st := by
  intro H locs cells slots ls h1 h2 h3 h4
  have hKn := hX.K.1 ci _ hc
  refine W.newcK hX.x hX.b hX.ow (hX.ts _ wk) (hX.ts _ wa) (hX.ts _ wn) rfl d (by omega) (by omega) hKn.2.1 rfl fun H1 kC hkC e1 z1 o1 => ?_
  exact k H.size (hs_free h3) H1 locs (cells + 1) (slots + N) ls (by omega) (by omega) (hs_new hX.b0 h3 ⟨_, hc, (u_born ty hX.ts wf hKn hkC e1 hty).to hfs⟩ z1 o1) h4
theorem j_newI (hX : OK X cc own) {n : Nat} {i : Int32} (hi : i = nI n) (hn : n < 2 ^ 20) (d : decode cc pc = .ok (.newarray .int, 2)) (hcell : kc + 1 ≤ (xR X).cells) (hslot : ks + n ≤ (xR X).slots) (k : ∀ q, g q = none → J X (kc + 1) (ks + n) (up g q (aI (xK X) n (fun _ => 0))) (pc + 2) lv (.ref q :: rest)) : J X kc ks g pc lv (.int i :: rest) := by
  intro H locs cells slots ls h1 h2 h3 h4
  subst hi
  refine va_newaK hX.x hX.b (atype := .int) (hX.ts _ wR_int) rfl d rfl (nI_pos (by omega)) (nI_clamp (by omega)) (by show n * 4 ≤ _; omega) (by omega) (by omega) rfl fun H1 cA e1 z1 o1 hAr hNm => ?_
  have hc : cA = kI (xK X) := Option.some.inj (hNm.symm.trans (hX.K.2 0 _ rfl).2)
  subst hc
  exact k H.size (hs_free h3) H1 locs (cells + 1) (slots + n) ls (by omega) (by omega) (hs_new hX.b0 h3 (show H1[H.size]? = some (vp_cell _ _) from e1) z1 o1) h4
theorem j_newZ (hX : OK X cc own) {n : Nat} {i : Int32} (hi : i = nI n) (hn : n < 2 ^ 20) (d : decode cc pc = .ok (.newarray .boolean, 2)) (hcell : kc + 1 ≤ (xR X).cells) (hslot : ks + n ≤ (xR X).slots) (k : ∀ q, g q = none → J X (kc + 1) (ks + n) (up g q (aZ (xK X) n (fun _ => 0))) (pc + 2) lv (.ref q :: rest)) : J X kc ks g pc lv (.int i :: rest) := by
  intro H locs cells slots ls h1 h2 h3 h4
  subst hi
  refine va_newaK hX.x hX.b (atype := .boolean) (hX.ts _ wR_boolean) rfl d rfl (nI_pos (by omega)) (nI_clamp (by omega)) (by show n * 1 ≤ _; omega) (by omega) (by omega) rfl fun H1 cA e1 z1 o1 hAr hNm => ?_
  have hc : cA = kZ (xK X) := Option.some.inj (hNm.symm.trans (hX.K.2 1 _ rfl).2)
  subst hc
  exact k H.size (hs_free h3) H1 locs (cells + 1) (slots + n) ls (by omega) (by omega) (hs_new hX.b0 h3 (show H1[H.size]? = some (vp_cell _ _) from e1) z1 o1) h4
theorem j_newJ (hX : OK X cc own) {n : Nat} {i : Int32} (hi : i = nI n) (hn : n < 2 ^ 20) (d : decode cc pc = .ok (.newarray .long, 2)) (hcell : kc + 1 ≤ (xR X).cells) (hslot : ks + n ≤ (xR X).slots) (k : ∀ q, g q = none → J X (kc + 1) (ks + n) (up g q (aJ (xK X) n (fun _ => 0))) (pc + 2) lv (.ref q :: rest)) : J X kc ks g pc lv (.int i :: rest) := by
  intro H locs cells slots ls h1 h2 h3 h4
  subst hi
  refine va_newaK hX.x hX.b (atype := .long) (hX.ts _ wR_long) rfl d rfl (nI_pos (by omega)) (nI_clamp (by omega)) (by show n * 8 ≤ _; omega) (by omega) (by omega) rfl fun H1 cA e1 z1 o1 hAr hNm => ?_
  have hc : cA = kJ (xK X) := Option.some.inj (hNm.symm.trans (hX.K.2 3 _ rfl).2)
  subst hc
  exact k H.size (hs_free h3) H1 locs (cells + 1) (slots + n) ls (by omega) (by omega) (hs_new hX.b0 h3 (show H1[H.size]? = some (vp_cell _ _) from e1) z1 o1) h4
theorem j_newQ (hX : OK X cc own) {n idx : Nat} {i : Int32} (hi : i = nI n) (hn : n < 2 ^ 20) (wk : Cond.classLink own idx "BagViews$Relation" ∈ wsL_law) (d : decode cc pc = .ok (.anewarray idx, 3)) (hcell : kc + 1 ≤ (xR X).cells) (hslot : ks + n ≤ (xR X).slots) (k : ∀ q, g q = none → J X (kc + 1) (ks + n) (up g q (aQ (xK X) n (fun _ => none))) (pc + 3) lv (.ref q :: rest)) : J X kc ks g pc lv (.int i :: rest) := by
  intro H locs cells slots ls h1 h2 h3 h4
  subst hi
  have hcl : (nI n).toNatClampNeg = n := nI_clamp (by omega)
  refine W.anew hX.x hX.b hX.ow (hX.ts _ wk) (va_AO.use hX.F.2.2.2.2.1) rfl d rfl (nI_pos (by omega)) (by rw [hcl]; omega) (by omega) (by rw [hcl]; omega) fun cA kA comp f1 f2 f3 f4 => ?_
  obtain ⟨kA2, comp2, r1, r2, r3, r4⟩ := (hX.K.2 2 _ rfl).2
  have hc : cA = kR (xK X) := Option.some.inj (f1.symm.trans r4)
  subst hc
  generalize hH1 : H.push ({ cls := kR (xK X), slots := Array.replicate (nI n).toNatClampNeg .null, vm := .none } : Cell) = H1
  have z1 : H1.size = H.size + 1 := by rw [← hH1, Array.size_push]
  have e1 : H1[H.size]? = some (arrV (kR (xK X)) (nI n).toNatClampNeg (fun _ => .null)) := by rw [← hH1, Array.getElem?_push_size, ← arrV_new]
  have o1 : ∀ q : Nat, q < H.size → H1[q]? = H[q]? := fun q hq => by rw [← hH1, Array.getElem?_push, if_neg (Nat.ne_of_lt hq)]
  rw [hcl] at e1 ⊢
  exact k H.size (hs_free h3) H1 locs (cells + 1) (slots + n) ls (by omega) (by omega) (hs_new hX.b0 h3 (show H1[H.size]? = some (vp_cell _ _) from e1) z1 o1) h4
theorem j_aast (hX : OK X cc own) {a n v ci : Nat} {vs : List Value} {f : Nat → Option Nat} {T : u_T} {N : Nat} (hg : g a = some (aQ (xK X) n f)) (hv : g v = some (ob ci vs)) (hc : vwCl[ci]? = some ("BagViews$Relation", T, N)) {i : Int32} (m : Nat) (hi : i = nI m) (hm : m < n) (hn : n < 2 ^ 31) (d : decode cc pc = .ok (.aastore, 1)) (k : J X kc ks (up g a (aQ (xK X) n (va_up f m (some v)))) (pc + 1) lv rest) : J X kc ks g pc lv (.ref v :: .int i :: .ref a :: rest) := by
  intro H locs cells slots ls h1 h2 h3 h4
  subst hi
  have hcl : (nI m).toNatClampNeg = m := nI_clamp (by omega)
  obtain ⟨r', hr', cellV, g1, g2, g3, -⟩ := h3.1 v _ hv
  have hcls := (hX.K.1 ci _ hc).2
  obtain ⟨kA, comp, k1, k2, k3, -⟩ := (hX.K.2 2 _ rfl).2
  have hcomp : comp = (kD (xK X)).1 ci := Option.some.inj (k3.symm.trans hcls.1)
  subst hcomp
  obtain ⟨kC, hkC, -⟩ := hcls.2
  refine W.aast hX.x hX.b (h3.1 a _ hg) (fun q h => by cases h) (fun h => by cases h) k1 k2 rfl hkC ⟨nI_pos (by omega), by show _ < (arrV _ _ _).slots.size; rw [arrV_size, hcl]; exact hm⟩ g1 (fun q h => by rw [g3] at h; cases h) (by rw [g2]; exact hkC) (by rw [g2]; exact va_assign hcls) rfl rfl d fun H1 e z oq => ?_
  refine k H1 _ cells slots ls h1 h2 (hs_put h3 hg ?_ z oq) h4
  show H1[a]? = some (vp_cell _ _)
  rw [e, hcl]
  rw [vp_cell_q, vp_cell_q, arrV_store]
  congr 2
  funext q
  by_cases hq : q = m
  · subst hq; simp [updV, va_up, va_rf]
  · simp [updV, va_up, hq]
theorem j_objI (hX : OK X cc own) {idx a : Nat} (wk : Cond.methodLink own idx objectInit ∈ wsL_law) (hlev : 1 ≤ xlev X) (hrest : (rest.map fun v => v.category).sum ≤ 8) (d : decode cc pc = .ok (.invokespecial idx, 3)) (k : J X kc ks g (pc + 3) lv rest) : J X kc ks g pc lv (.ref a :: rest) := by
  intro H locs cells slots ls h1 h2 h3 h4
  have hro := hX.room
  exact W.objInit hX.x hX.b hX.ow (hX.ts _ wk) (hX.ts _ wz_1) (hX.ts _ wz_2) rfl (by rw [hX.ml]; exact h4.1) rfl d (by omega) (by show 2 * 0 + _ + 12 ≤ _; omega) (k H locs cells slots ls h1 h2 h3 h4)
/-- a contract without exceptions, in the kit's words -/
theorem Ct.met {l : Launch} {K : Cst} {y : MethodName} {c9 : ByteArray} {n : Nat} {r : Option FieldType} {L : Nat} {av : List Value} {Post : Option Value → Wd → Prop} {mc ms : Nat} (h : Ct l K y c9 n r L av g Post (fun _ _ => False) mc ms) : Met l y (Cond.code y c9 n r :: wsL_law) (rmL L mc ms) (va_Pc av (PreW K g)) (QcW K Post) mc ms (kA K) := by
  intro p e ha hc hk s m args below hf happ hP hK
  obtain ⟨n, o, h1, h2, h3, h4⟩ := h p e ha hc hk s m args below hf happ hP hK
  refine ⟨n, o, h1, h2, h3, ?_⟩
  rcases h4 with h | ⟨q, -, E, ce, L, ⟨⟨g', hx, -⟩, -⟩, -⟩
  · exact h
  · exact hx.elim
theorem vx_ofrun {p : Program} {l : Launch} {e : Env} {R : Room} {s : State} {m : MethodId} {args : Array Value} {below : List Frame} {meth : Method} {c : Code} {H : Heap} {locs : List Loc} {cells slots mc ms : Nat} {g : JFrame} {rest : List Value} {Qa : State → Outcome → State → Prop} {XC : String → State → State → Prop} {free : Addr → Prop} (h : va_Run p l e R s m args below meth c H locs cells slots mc ms g rest Qa free) : vx_Run p l e R s m args below meth c H locs cells slots mc ms g rest Qa XC free := fun T hT Y => Or.inl (h T hT Y)
theorem j_callI (hX : OK X cc own) {y : MethodName} {bytes : ByteArray} {n : Nat} {L a : Nat} {As : List Value} {Post : Option Value → Wd → Prop} {mc ms : Nat} (hC : Ct (xl X) (xK X) y bytes n none L (.ref a :: As) g Post (fun _ _ => False) mc ms)
    {idx na : Nat} {C : String} (wk : Cond.methodLink own idx y ∈ wsL_law) (wi : Cond.instanceMethod y ∈ wsL_law) (wn : Cond.initialized C ∈ wsL_law) (wc : Cond.code y bytes n none ∈ wsL_law) (hy : y.name = "<init>")
    (hd : y.cls = C ∧ y.cls ≠ "java/lang/invoke/MethodHandle" ∧ y.cls ≠ "java/lang/invoke/VarHandle" ∧ (parseMethodDescriptor y.desc).map (fun d => d.parameters.length) = some na) (hna : As.length = na) (hlev : L + 1 ≤ xlev X) (hn : n ≤ 13) (hst : st = As.reverse ++ .ref a :: rest) (hrest : (rest.map fun v => v.category).sum ≤ 8)
    (d : decode cc pc = .ok (.invokespecial idx, 3)) (hcell : kc + mc ≤ (xR X).cells) (hslot : ks + ms ≤ (xR X).slots) (kk : ∀ v g', Post v g' → J X (kc + mc) (ks + ms) g' (pc + 3) lv (v.toList ++ rest)) : J X kc ks g pc lv st := by
  refine j_run (XP := fun _ _ => False) (av := (Value.ref a :: As).toArray) (fun H locs cells slots ls h1 h2 h3 h4 => vx_ofrun ?_) (fun _ _ h => h.elim) kk
  have hro := hX.room
  exact va_runI ⟨hX.x, hX.b, hX.ml, hX.ow, hX.ts⟩ hC.met (cwI na hX.ts (wg_in (wg_c wc wg_s)) rfl rfl rfl (by rw [hd.1]; exact hX.ts _ wn) (hX.ts _ wk) (hX.ts _ wi) hy hd.2 ⟨by show L + 1 ≤ _; omega, by show 8 + (n + 11) + 32 * L ≤ _; omega⟩) ⟨PreW.blind, fun U hU hW => pre_w hX h3 U hU hW⟩ rfl hna h4.1 hst (lv_room hrest) d ⟨by omega, by omega⟩
theorem j_callIN (hX : OK X cc own) {y : MethodName} {bytes : ByteArray} {n : Nat} {L a : Nat} {As : List Value} {Post : Option Value → Wd → Prop} {mc ms : Nat} (hC : Ct (xl X) (xK X) y bytes n none L (.ref a :: As) g Post (fun _ _ => False) mc ms)
    {idx na : Nat} {C host : String} (wk : Cond.methodLinkNest own idx y host ∈ nestW) (wi : Cond.instanceMethod y ∈ wsL_law) (wn : Cond.initialized C ∈ wsL_law) (wc : Cond.code y bytes n none ∈ wsL_law) (hy : y.name = "<init>")
    (hd : y.cls = C ∧ y.cls ≠ "java/lang/invoke/MethodHandle" ∧ y.cls ≠ "java/lang/invoke/VarHandle" ∧ (parseMethodDescriptor y.desc).map (fun d => d.parameters.length) = some na) (hna : As.length = na) (hlev : L + 1 ≤ xlev X) (hn : n ≤ 13) (hst : st = As.reverse ++ .ref a :: rest) (hrest : (rest.map fun v => v.category).sum ≤ 8)
    (d : decode cc pc = .ok (.invokespecial idx, 3)) (hcell : kc + mc ≤ (xR X).cells) (hslot : ks + ms ≤ (xR X).slots) (kk : ∀ v g', Post v g' → J X (kc + mc) (ks + ms) g' (pc + 3) lv (v.toList ++ rest)) : J X kc ks g pc lv st := by
  refine j_run (XP := fun _ _ => False) (av := (Value.ref a :: As).toArray) (fun H locs cells slots ls h1 h2 h3 h4 => vx_ofrun ?_) (fun _ _ h => h.elim) kk
  have hro := hX.room
  exact va_runIN ⟨hX.x, hX.b, hX.ml, hX.ow, hX.ts⟩ hC.met ⟨va_cnB na hX.ts (wg_in (wg_c wc wg_s)) rfl rfl rfl (hX.N _ wk) (by rw [hd.1]; exact hX.ts _ wn) hd.2 ⟨by show L + 1 ≤ _; omega, by show 8 + (n + 11) + 32 * L ≤ _; omega⟩, hy, hX.ts _ wi⟩ ⟨PreW.blind, fun U hU hW => pre_w hX h3 U hU hW⟩ rfl hna h4.1 hst (lv_room hrest) d ⟨by omega, by omega⟩
/-- a call of View's abstract method: the receiver's class C has y -/
theorem j_callA (hX : OK X cc own) {x y : MethodName} {bytes : ByteArray} {n : Nat} {r : Option FieldType} {L a : Nat} {As : List Value} {Post : Option Value → Wd → Prop} {mc ms : Nat} (hC : Ct (xl X) (xK X) y bytes n r L (.ref a :: As) g Post (fun _ _ => False) mc ms)
    {ci idx N na : Nat} {fs : List Value} {C C2 : String} {T : u_T} (hg : g a = some (ob ci fs)) (hc : vwCl[ci]? = some (C, T, N)) (wk : Cond.methodLink own idx x ∈ wsL_law) (wsm : Cond.sameMethod x.cls "BagViews$View" x.name x.desc ∈ wsL_law) (wdc : Cond.declares ⟨"BagViews$View", x.name, x.desc⟩ ∈ nestW) (wi : Cond.instanceMethod y ∈ wsL_law) (wv : Cond.selects C x y ∈ wsL_law) (wn : Cond.initialized C2 ∈ wsL_law) (wc : Cond.code y bytes n r ∈ wsL_law) (hy2 : y.cls = C2)
    (hd : (parseMethodDescriptor x.desc).map (fun d => d.parameters.length) = some na) (hna : As.length = na) (hlev : L + 1 ≤ xlev X) (hn : n ≤ 13) (hst : st = As.reverse ++ .ref a :: rest) (hrest : (rest.map fun v => v.category).sum ≤ 8)
    (d : decode cc pc = .ok (.invokevirtual idx, 3)) (hcell : kc + mc ≤ (xR X).cells) (hslot : ks + ms ≤ (xR X).slots) (kk : ∀ v g', Post v g' → J X (kc + mc) (ks + ms) g' (pc + 3) lv (v.toList ++ rest)) : J X kc ks g pc lv st := by
  refine j_run (XP := fun _ _ => False) (av := (Value.ref a :: As).toArray) (fun H locs cells slots ls h1 h2 h3 h4 => vx_ofrun ?_) (fun _ _ h => h.elim) kk
  have hG : GoodIn wsL_law (va_wsU own idx C "BagViews$View" x y (Cond.code y bytes n r :: wsL_law)) := wg_in (by unfold va_wsU; exact wg_c wk (wg_c wsm (wg_c wv (wg_c wi (wg_c (by rw [hy2]; exact wn) (wg_c wc wg_s))))))
  have hro := hX.room
  exact va_runU ⟨hX.x, hX.b, hX.ml, hX.ow, hX.ts⟩ hC.met (va_cwA na hX.ts hG rfl rfl rfl (hX.N _ wdc) ⟨by decide, by decide, hd⟩ ⟨by show L + 1 ≤ _; omega, by show 8 + (n + 11) + 32 * L ≤ _; omega⟩) ⟨PreW.blind, va_recv hX.K (h3.1.one hg) (ci := ci) (q0 := 0) hc rfl, fun U hU hW => pre_w hX h3 U hU hW⟩ rfl hna h4.1 hst (lv_room hrest) d ⟨by omega, by omega⟩
/-- a call of a method that View itself has -/
theorem j_callU (hX : OK X cc own) {x y : MethodName} {bytes : ByteArray} {n : Nat} {r : Option FieldType} {L a : Nat} {As : List Value} {Post : Option Value → Wd → Prop} {mc ms : Nat} (hC : Ct (xl X) (xK X) y bytes n r L (.ref a :: As) g Post (fun _ _ => False) mc ms)
    {ci idx N na : Nat} {fs : List Value} {C : String} {T : u_T} (hg : g a = some (ob ci fs)) (hc : vwCl[ci]? = some (C, T, N)) (wk : Cond.methodLink own idx x ∈ wsL_law) (wsm : Cond.sameMethod x.cls "BagViews$View" x.name x.desc ∈ wsL_law) (hyx : y = ⟨"BagViews$View", x.name, x.desc⟩) (wi : Cond.instanceMethod y ∈ wsL_law) (wv : Cond.selects C x y ∈ wsL_law) (wn : Cond.initialized y.cls ∈ wsL_law) (wc : Cond.code y bytes n r ∈ wsL_law)
    (hd : (parseMethodDescriptor x.desc).map (fun d => d.parameters.length) = some na) (hna : As.length = na) (hlev : L + 1 ≤ xlev X) (hn : n ≤ 13) (hst : st = As.reverse ++ .ref a :: rest) (hrest : (rest.map fun v => v.category).sum ≤ 8)
    (d : decode cc pc = .ok (.invokevirtual idx, 3)) (hcell : kc + mc ≤ (xR X).cells) (hslot : ks + ms ≤ (xR X).slots) (kk : ∀ v g', Post v g' → J X (kc + mc) (ks + ms) g' (pc + 3) lv (v.toList ++ rest)) : J X kc ks g pc lv st := by
  refine j_run (XP := fun _ _ => False) (av := (Value.ref a :: As).toArray) (fun H locs cells slots ls h1 h2 h3 h4 => vx_ofrun ?_) (fun _ _ h => h.elim) kk
  have hG : GoodIn wsL_law (va_wsU own idx C "BagViews$View" x y (Cond.code y bytes n r :: wsL_law)) := wg_in (by unfold va_wsU; exact wg_c wk (wg_c wsm (wg_c wv (wg_c wi (wg_c wn (wg_c wc wg_s))))))
  have hro := hX.room
  exact va_runU ⟨hX.x, hX.b, hX.ml, hX.ow, hX.ts⟩ hC.met (va_cwU na hX.ts hG rfl rfl rfl hyx ⟨by decide, by decide, hd⟩ ⟨by show L + 1 ≤ _; omega, by show 8 + (n + 11) + 32 * L ≤ _; omega⟩) ⟨PreW.blind, va_recv hX.K (h3.1.one hg) (ci := ci) (q0 := 0) hc rfl, fun U hU hW => pre_w hX h3 U hU hW⟩ rfl hna h4.1 hst (lv_room hrest) d ⟨by omega, by omega⟩
theorem j_tabIn (hX : OK X cc own) {dflt lo hi : Int} {offs : Array Int} {len : Nat} {x : Int32} {off : Int} (tgt : Nat) (d : decode cc pc = .ok (.tableswitch dflt lo hi offs, len)) (h1 : ¬ x.toInt < lo) (h2 : ¬ hi < x.toInt) (ho : offs[(x.toInt - lo).toNat]? = some off) (ht : (pc : Int) + off = (tgt : Int)) (k : J X kc ks g tgt lv rest) : J X kc ks g pc lv (.int x :: rest) := j_lift (fun _ _ _ _ _ _ k => lv_tableIn hX.x hX.b d h1 h2 ho ht k) k
theorem j_tabOut (hX : OK X cc own) {dflt lo hi : Int} {offs : Array Int} {len : Nat} {x : Int32} (tgt : Nat) (d : decode cc pc = .ok (.tableswitch dflt lo hi offs, len)) (h : x.toInt < lo ∨ hi < x.toInt) (ht : (pc : Int) + dflt = (tgt : Int)) (k : J X kc ks g tgt lv rest) : J X kc ks g pc lv (.int x :: rest) := j_lift (fun _ _ _ _ _ _ k => lv_tableOut hX.x hX.b d h ht k) k
theorem j_max (hX : OK X cc own) {idx : Nat} {x y : Int32} (wk : Cond.methodLink own idx Lib.Math.max.name ∈ wsL_law) (hlev : 1 ≤ xlev X) (hrest : (rest.map fun v => v.category).sum ≤ 8) (hcell : kc ≤ (xR X).cells) (hslot : ks ≤ (xR X).slots) (d : decode cc pc = .ok (.invokestatic idx, 3)) (k : J X kc ks g (pc + 3) lv (.int (if x < y then y else x) :: rest)) : J X kc ks g pc lv (.int y :: .int x :: rest) := by
  intro H locs cells slots ls h1 h2 h3 h4
  have hro := hX.room
  exact va_mmax hX.x hX.b (by rw [hX.ml]; exact h4.1.symm) hX.ow (hX.ts _ wk) (hX.ts _ wz_3) (hX.ts _ wN_Math) (hX.ts _ wz_4) (by omega) (by omega) (by omega) (by omega) d (k H locs cells slots ls h1 h2 h3 h4)
theorem j_min (hX : OK X cc own) {idx : Nat} {x y : Int32} (wk : Cond.methodLink own idx Lib.Math.min.name ∈ wsL_law) (hlev : 1 ≤ xlev X) (hrest : (rest.map fun v => v.category).sum ≤ 8) (hcell : kc ≤ (xR X).cells) (hslot : ks ≤ (xR X).slots) (d : decode cc pc = .ok (.invokestatic idx, 3)) (k : J X kc ks g (pc + 3) lv (.int (if y < x then y else x) :: rest)) : J X kc ks g pc lv (.int y :: .int x :: rest) := by
  intro H locs cells slots ls h1 h2 h3 h4
  have hro := hX.room
  exact va_mmin hX.x hX.b (by rw [hX.ml]; exact h4.1.symm) hX.ow (hX.ts _ wk) (hX.ts _ wz_15) (hX.ts _ wN_Math) (hX.ts _ wz_16) (by omega) (by omega) (by omega) (by omega) d (k H locs cells slots ls h1 h2 h3 h4)
end Rows2
