/-! THE LAW'S LAYER: methods with a table of handlers, the script, cells of others -/
def CtH (l : Launch) (K : Cst) (y : MethodName) (cc : ByteArray) (n : Nat) (r : Option FieldType) (hh : List (Nat × Nat × Nat × Nat)) (L : Nat) (av : List Value) (g : Wd) (Post : Option Value → Wd → Prop) (XP : String → Wd → Prop) (mc ms : Nat) : Prop :=
  vx_Met l y (Cond.codeWith y cc n r hh :: wsL_law) (rmL L mc ms) (va_Pc av (PreW K g)) (QcW K Post) (XcW K XP) mc ms (kA K)
def EndH (X : Cx) (ret : Option FieldType) (Post : Option Value → Wd → Prop) (XP : String → Wd → Prop) (mc ms : Nat) : Prop :=
  xQ X = vx_MQ (xbelow X) (QcW (xK X) Post) (XcW (xK X) XP) (xargs X) (xs X) mc ms (kA (xK X)) ∧ (xmeth X).sig.returnType = ret
set_option maxRecDepth 100000 in
theorem ctH_of {l : Launch} {K : Cst} {y : MethodName} {cc : ByteArray} {n : Nat} {r : Option FieldType} {hh : List (Nat × Nat × Nat × Nat)} {L : Nat} {av : List Value} {g : Wd} {Post : Option Value → Wd → Prop} {XP : String → Wd → Prop} {mc ms : Nat} (hy : plainName y.cls = true) (hn : (lg_sl av).length ≤ n)
    (body : ∀ X : Cx, xl X = l → xK X = K → OK X cc y.cls → EndH X r Post XP mc ms → (xc X).exceptionTable.toList = tableOf hh → xn X = n → xlev X = L → xR X = rmL L mc ms → J X 0 0 g 0 (lv_args 0 av) []) : CtH l K y cc n r hh L av g Post XP mc ms := by
  refine vx_ofWH (cc := cc) (maxL := n) (ret := r) (hh := hh) hy rfl ?_
  intro p e s m args below meth c s₁ B hml hv
  obtain ⟨rfl, hF, hP, hA, hb0⟩ := hv
  have hts := atoms_spec (ws := Cond.codeWith y cc n r hh :: wsL_law) B.pre
  have htab := vx_table (x := y) B (hts _ List.mem_cons_self)
  have hJ := body (p, l, e, rmL L mc ms, s, m, av.toArray, below, meth, c, vx_MQ below (QcW K Post) (XcW K XP) av.toArray s mc ms (kA K), K, n, L) rfl rfl
    ⟨B.exec, B.bytes, hml, findClass_of_methodNamed B.named, fun w hw => hts w (List.mem_cons_of_mem _ hw), hF, B.notSynchronized, hb0, Nat.le_refl _, Nat.le_refl _⟩ ⟨rfl, B.returns⟩ htab rfl rfl rfl
  rw [lg_entry_eq]
  exact hJ s.heap [] 0 0 _ (Nat.le_refl _) (Nat.le_refl _) ⟨hP, hA, va_S.rf⟩ (lv_entry av hn)
section LJ
variable {X : Cx} {cc : ByteArray} {own : String} {kc ks : Nat} {g : Wd} {pc : Nat} {lv : List (Nat × Value)} {rest st : List Value}
theorem J.mono {kc' ks' : Nat} (h : J X kc' ks' g pc lv st) (h1 : kc ≤ kc') (h2 : ks ≤ ks') : J X kc ks g pc lv st := fun H locs cells slots ls a b c d => h H locs cells slots ls (Nat.le_trans a h1) (Nat.le_trans b h2) c d
theorem j_iretH {Post : Option Value → Wd → Prop} {XP : String → Wd → Prop} {mc ms : Nat} {v : Int32} (hX : OK X cc own) (hE : EndH X (some .int) Post XP mc ms) (d : decode cc pc = .ok (.ireturn, 1)) (hp : Post (some (.int v)) g) (hc : kc ≤ mc) (hs : ks ≤ ms) : J X kc ks g pc lv [.int v] := by
  intro H locs cells slots ls h1 h2 h3 h4
  show W _ _ _ _ _ _ _ _ _ _ _ _ _ _ (xQ X) _
  rw [hE.1]
  refine vx_ret (W.widen (k := mc) (n := ms) (Nat.le_trans h1 hc) (Nat.le_trans h2 hs) ?_)
  exact W.iret hX.x hX.b hE.2 (fun t ht hW => ⟨⟨some (.int v), g, rfl, hp, by rw [ht]; exact h3.1, h3.2.1⟩, h3.2.2.F ht⟩) h3.2.2.2.2 d hX.locks
/-- the row x of the table takes the exception E; the rows ahead of it name other classes -/
theorem jx_catch {E : String} (hX : OK X cc own) {hh : List (Nat × Nat × Nat × Nat)} (ht : (xc X).exceptionTable.toList = tableOf hh) (pre suf : List (Nat × Nat × Nat × Nat)) (x : Nat × Nat × Nat × Nat) (hs : hh = pre ++ x :: suf) (hp : ∀ z ∈ pre, z.2.2.2 ≠ 0 ∧ ∃ nm, Cond.classLink own z.2.2.2 nm ∈ wsL_law ∧ (E, nm) ∈ ncW) (hx1 : x.1 ≤ pc) (hx2 : pc < x.2.1) (h0 : x.2.2.2 ≠ 0) (wl : Cond.classLink own x.2.2.2 E ∈ wsL_law) (wc : Cond.castable E E ∈ nestW) (k : ∀ q, J X kc ks g x.2.2.1 lv [.ref q]) : JX X kc ks g pc lv st E := by
  intro H locs cells slots ls q ce h1 h2 h3 h4 h5 h6 h7
  refine vx_catch (own := own) (name := E) (E := E) (ce := ce) hX.ow (tableOf pre) ⟨x.1, x.2.1, x.2.2.1, x.2.2.2⟩ (tableOf suf) ?_ ?_ ?_ h0 (hX.ts _ wl) (va_Nw.use rfl (hX.N _ wc)) h5 h6 h7 ?_
  · rw [ht, hs]; simp [tableOf]
  · intro z hz
    obtain ⟨w, hw, rfl⟩ := List.mem_map.mp hz
    obtain ⟨a, nm, b, c⟩ := hp w hw
    exact Or.inr ⟨a, nm, hX.ts _ b, hX.F.2.2.2.2.2 _ c⟩
  · show (decide (x.1 ≤ pc) && decide (pc < x.2.1)) = true
    rw [decide_eq_true hx1, decide_eq_true hx2]; rfl
  · exact k q H locs cells slots ls h1 h2 h3 h4
theorem j_callSH (hX : OK X cc own) {y : MethodName} {bytes : ByteArray} {n : Nat} {r : Option FieldType} {hh : List (Nat × Nat × Nat × Nat)} {L : Nat} {As : List Value} {Post : Option Value → Wd → Prop} {XP : String → Wd → Prop} {mc ms : Nat} (hC : CtH (xl X) (xK X) y bytes n r hh L As g Post XP mc ms)
    {idx na : Nat} (wk : Cond.methodLink own idx y ∈ wsL_law) (wi : Cond.static y ∈ wsL_law) (wn : Cond.initialized y.cls ∈ wsL_law) (wc : Cond.codeWith y bytes n r hh ∈ wsL_law)
    (hd : y.cls ≠ "java/lang/invoke/MethodHandle" ∧ y.cls ≠ "java/lang/invoke/VarHandle" ∧ (parseMethodDescriptor y.desc).map (fun d => d.parameters.length) = some na) (hna : As.length = na) (hlev : L + 1 ≤ xlev X) (hn : n ≤ 13) (hst : st = As.reverse ++ rest) (hrest : (rest.map fun v => v.category).sum ≤ 8)
    (d : decode cc pc = .ok (.invokestatic idx, 3)) (hcell : kc + mc ≤ (xR X).cells) (hslot : ks + ms ≤ (xR X).slots) (kx : ∀ E g', XP E g' → JX X (kc + mc) (ks + ms) g' pc lv rest E) (kk : ∀ v g', Post v g' → J X (kc + mc) (ks + ms) g' (pc + 3) lv (v.toList ++ rest)) : J X kc ks g pc lv st := by
  refine j_run (av := As.toArray) (fun H locs cells slots ls h1 h2 h3 h4 => ?_) kx kk
  have hG : GoodIn wsL_law (va_wsS own idx y (Cond.codeWith y bytes n r hh :: wsL_law)) := wg_in (by unfold va_wsS; exact wg_c wk (wg_c wi (wg_c wn (wg_c wc wg_s))))
  have hro := hX.room
  exact vx_runSX ⟨hX.x, hX.b, hX.ml, hX.ow, hX.ts⟩ hC (vx_cwSW na hX.ts hG rfl rfl rfl hd ⟨by show L + 1 ≤ _; omega, by show 8 + (n + 11) + 32 * L ≤ _; omega⟩) ⟨PreW.blind, fun U hU hW => pre_w hX h3 U hU hW⟩ rfl hna h4.1 hst (lv_room hrest) d ⟨by omega, by omega⟩
/-- the script -/
def Scr (X : Cx) (b L : Nat) (f : Nat → Int32) : Prop := va_X b L f (xs X) (xs X).heap ∧ b < (xs X).heap.size ∧ ¬ kA (xK X) b
theorem j_sld (hX : OK X cc own) {b L : Nat} {f : Nat → Int32} (hs : Scr X b L f) {i : Int32} (m : Nat) (hi : i = nI m) (hm : m < L) (hL : L < 2 ^ 31) (d : decode cc pc = .ok (.iaload, 1)) (k : J X kc ks g (pc + 1) lv (.int (f m) :: rest)) : J X kc ks g pc lv (.int i :: .ref b :: rest) := by
  subst hi
  intro H locs cells slots ls h1 h2 h3 h4
  refine va_sld hX.x hX.b hs.1 hs.2.1 hs.2.2 h3.2.2 (vp_in_nI hm hL) d ?_
  rw [nI_clamp (by omega)]
  exact k H locs cells slots ls h1 h2 h3 h4
theorem j_slen (hX : OK X cc own) {b L : Nat} {f : Nat → Int32} (hs : Scr X b L f) (d : decode cc pc = .ok (.arraylength, 1)) (k : J X kc ks g (pc + 1) lv (.int (nI L) :: rest)) : J X kc ks g pc lv (.ref b :: rest) := fun H locs cells slots ls h1 h2 h3 h4 =>
  va_slen hX.x hX.b hs.1 hs.2.1 hs.2.2 h3.2.2 d (k H locs cells slots ls h1 h2 h3 h4)
theorem j_lastN (hX : OK X cc own) {a n : Nat} {f : Nat → Int64} (hg : g a = some (aJ (xK X) n f)) {i : Int32} {x : Int64} (m : Nat) (hi : i = nI m) (hm : m < n) (hn : n < 2 ^ 31) (d : decode cc pc = .ok (.lastore, 1)) (k : J X kc ks (up g a (aJ (xK X) n (vp_updL f m x))) (pc + 1) lv rest) : J X kc ks g pc lv (.long x :: .int i :: .ref a :: rest) := by
  subst hi
  refine j_last hX hg (vp_in_nI hm hn) d ?_
  rw [nI_clamp (by omega)]
  exact k
end LJ
/-! cells of others -/
def reF (K : Cst) (F : Nat → Option va_E) : Cst := (K.1, K.2.1, K.2.2.1, F)
theorem Ct.re {l : Launch} {K : Cst} {F : Nat → Option va_E} {y : MethodName} {cc : ByteArray} {n : Nat} {r : Option FieldType} {L : Nat} {av : List Value} {g : Wd} {Post : Option Value → Wd → Prop} {XP : String → Wd → Prop} {mc ms : Nat} (h : Ct l (reF K F) y cc n r L av g Post XP mc ms) : Ct l K y cc n r L av g Post XP mc ms := h
theorem CtH.re {l : Launch} {K : Cst} {F : Nat → Option va_E} {y : MethodName} {cc : ByteArray} {n : Nat} {r : Option FieldType} {hh : List (Nat × Nat × Nat × Nat)} {L : Nat} {av : List Value} {g : Wd} {Post : Option Value → Wd → Prop} {XP : String → Wd → Prop} {mc ms : Nat} (h : CtH l (reF K F) y cc n r hh L av g Post XP mc ms) : CtH l K y cc n r hh L av g Post XP mc ms := h
noncomputable def frm (P : Nat → Prop) (g : Wd) : Wd := fun q => @ite (Option va_E) (P q) (Classical.propDecidable _) (g q) none
theorem frm_sub (P : Nat → Prop) (g : Wd) : Sub (frm P g) g := fun q e h => by
  unfold frm at h
  by_cases hp : P q
  · rw [if_pos hp] at h; exact h
  · rw [if_neg hp] at h; cases h
theorem frm_in {P : Nat → Prop} {g : Wd} {q : Nat} {e : va_E} (h : frm P g q = some e) : P q := Classical.byContradiction fun hp => by
  unfold frm at h
  rw [if_neg hp] at h; cases h
theorem frm_get {P : Nat → Prop} {g : Wd} {q : Nat} {e : va_E} (hp : P q) (h : g q = some e) : frm P g q = some e := by
  unfold frm
  rw [if_pos hp]; exact h
/-- the class's cells stay: it stands, with other cells kept -/
theorem CS.mv {K : Cst} {F : Nat → Option va_E} {g g' : Wd} {x : Nat} {A : Ab} {Y : Lt} {ch : Nat → Int32} {p : Nat → Nat} {N : Nat → Bg} (h : CS K g x A Y ch p N) (t : ∀ q e, g q = some e → ¬ ZN x A Y q → g' q = some e) (h1 : Sub F g') (h2 : ∀ q e, F q = some e → ZN x A Y q) : CS (reF K F) g' x A Y ch p N := by
  obtain ⟨⟨b1, f, b2, b3⟩, ⟨tf, t1, t2⟩, h3, h4⟩ := h
  refine ⟨⟨t _ _ b1 (fun z => z.1.1 rfl), f, t _ _ b2 (fun z => z.1.2.1 rfl), b3⟩, ⟨tf, t _ _ t1 (fun z => z.1.2.2 rfl), h1, h2⟩, fun j hj => ?_, h4⟩
  obtain ⟨r1, ⟨n, cf, vf, r2, r2b⟩, ⟨m, df, uf, r3, r3b⟩, r4, r5⟩ := h3 j hj
  refine ⟨t _ _ r1 (fun z => (z.2 j hj).1.1 rfl), ⟨n, cf, vf, ⟨t _ _ r2.1 (fun z => (z.2 j hj).1.2.1 rfl), t _ _ r2.2.1 (fun z => (z.2 j hj).1.2.2.1 rfl), t _ _ r2.2.2 (fun z => (z.2 j hj).1.2.2.2.1 rfl)⟩, r2b⟩, ⟨m, df, uf, ⟨t _ _ r3.1 (fun z => (z.2 j hj).1.2.2.2.2.1 rfl), t _ _ r3.2.1 (fun z => (z.2 j hj).1.2.2.2.2.2.1 rfl), t _ _ r3.2.2 (fun z => (z.2 j hj).1.2.2.2.2.2.2 rfl)⟩, r3b⟩, fun k => ⟨?_, ?_⟩, r5⟩
  · exact (r4 k).1.keep (K := K) (fun ci fs hv _ _ => t _ _ hv (fun z => ((z.2 j hj).2 k).2.1 rfl)) (fun e f hf => t _ _ hf (fun z => ((z.2 j hj).2 k).2.2 e rfl))
  · obtain ⟨rf, q1, q2⟩ := (r4 k).2
    exact ⟨rf, t _ _ q1 (fun z => ((z.2 j hj).2 k).1 rfl), q2⟩
/-- what is no cell of a kind that the class has is none of the class's -/
theorem CS.zn {K : Cst} {g : Wd} {x : Nat} {A : Ab} {Y : Lt} {ch : Nat → Int32} {p : Nat → Nat} {N : Nat → Bg} (h : CS K g x A Y ch p N) {q : Nat} (hq : ∀ e, g q = some e → ∃ n f, e = aJ K n f) : ZN x A Y q := by
  have no : ∀ a e, g a = some e → (∀ n f, e ≠ aJ K n f) → q ≠ a := fun a e ha hn z => by
    obtain ⟨n, f, e1⟩ := hq e (z ▸ ha)
    exact hn n f e1
  have o1 : ∀ ci fs n f, ob ci fs ≠ aJ K n f := fun ci fs n f z => by cases z
  have o2 : ∀ k u n f, aI K k u ≠ aJ K n f := fun k u n f z => by
    injection z with z; injection z with z1 z2; injection z2 with z3 z4; cases z4
  have o3 : ∀ k u n f, aQ K k u ≠ aJ K n f := fun k u n f z => by
    injection z with z; injection z with z1 z2; injection z2 with z3 z4; injection z4 with z5; cases z5
  obtain ⟨⟨b1, f, b2, b3⟩, ⟨tf, t1, t2⟩, h3, h4⟩ := h
  refine ⟨⟨no _ _ b1 (o1 _ _), no _ _ b2 (o3 _ _), no _ _ t1 (o2 _ _)⟩, fun j hj => ?_⟩
  obtain ⟨r1, ⟨n, cf, vf, r2, r2b⟩, ⟨m, df, uf, r3, r3b⟩, r4, r5⟩ := h3 j hj
  refine ⟨⟨no _ _ r1 (o1 _ _), no _ _ r2.1 (o1 _ _), no _ _ r2.2.1 (o2 _ _), no _ _ r2.2.2 (o2 _ _), no _ _ r3.1 (o1 _ _), no _ _ r3.2.1 (o2 _ _), no _ _ r3.2.2 (o2 _ _)⟩, fun k => ?_⟩
  obtain ⟨v1, rf, q1, q2⟩ := r4 k
  refine ⟨no _ _ q1 (o2 _ _), ?_⟩
  match ak A j, v1 with
  | 2, v1 => exact ⟨no _ _ v1 (o1 _ _), fun e => absurd e (by decide)⟩
  | 3, v1 => exact ⟨no _ _ v1.1 (o1 _ _), fun _ => no _ _ v1.2.1 (o2 _ _)⟩
  | 4, v1 => exact ⟨no _ _ v1 (o1 _ _), fun e => absurd e (by decide)⟩
  | 5, v1 => exact ⟨no _ _ v1 (o1 _ _), fun e => absurd e (by decide)⟩
  | 6, v1 => exact ⟨no _ _ v1 (o1 _ _), fun e => absurd e (by decide)⟩
  | 7, v1 => exact ⟨no _ _ v1 (o1 _ _), fun e => absurd e (by decide)⟩
  | 8, v1 => exact ⟨no _ _ v1 (o1 _ _), fun e => absurd e (by decide)⟩
  | 0, v1 => exact v1.elim
  | 1, v1 => exact v1.elim
  | _ + 9, v1 => exact v1.elim
/-- the reference's cells -/
def isM (m : Nat) (Q : Nat → Nat) (q : Nat) : Prop := q = m ∨ ∃ j, j < 15 ∧ q = Q j
theorem RS.mv {K : Cst} {F : Nat → Option va_E} {g g' : Wd} {m : Nat} {Q : Nat → Nat} {th oc fi : Int32} {G : Nat → Nat → Int32} (h : RS K g m Q th oc fi G) (t : ∀ q e, g q = some e → isM m Q q → g' q = some e) (h1 : Sub F g') (h2 : ∀ q e, F q = some e → ¬ isM m Q q) : RS (reF K F) g' m Q th oc fi G := by
  obtain ⟨a1, a2, a3, a4, a5⟩ := h
  exact ⟨t _ _ a1 (Or.inl rfl), fun j hj => t _ _ (a2 j hj) (Or.inr ⟨j, hj, rfl⟩), a3, h1, fun q e hq => ⟨fun z => h2 q e hq (Or.inl z), fun j hj z => h2 q e hq (Or.inr ⟨j, hj, z⟩)⟩⟩
theorem RS.at {K : Cst} {g : Wd} {m : Nat} {Q : Nat → Nat} {th oc fi : Int32} {G : Nat → Nat → Int32} (h : RS K g m Q th oc fi G) {q : Nat} (hq : isM m Q q) : ∃ e, g q = some e ∧ ∀ n f, e ≠ aJ K n f := by
  rcases hq with z | ⟨j, hj, z⟩
  · rw [z]; exact ⟨_, h.1, fun n f z => by cases z⟩
  · rw [z]
    refine ⟨_, h.2.1 j hj, fun n f z => ?_⟩
    unfold cl at z
    split at z <;> (injection z with z; injection z with z1 z2; injection z2 with z3 z4; cases z4)
theorem CS.fr {K : Cst} {g : Wd} {x : Nat} {A : Ab} {Y : Lt} {ch : Nat → Int32} {p : Nat → Nat} {N : Nat → Bg} (h : CS K g x A Y ch p N) : ZF K g x A Y := by
  obtain ⟨_, ⟨tf, _, hz⟩, _⟩ := h
  exact hz
/-- the class, with all cells of others kept -/
theorem CS.all {K : Cst} {g : Wd} {x : Nat} {A : Ab} {Y : Lt} {ch : Nat → Int32} {p : Nat → Nat} {N : Nat → Bg} (h : CS K g x A Y ch p N) : CS (reF K (frm (ZN x A Y) g)) g x A Y ch p N := h.mv (fun _ _ q _ => q) (frm_sub _ _) (fun _ _ q => frm_in q)
/-- back to the cells that the caller keeps; o may have been written -/
theorem CS.back {K : Cst} {g g1 : Wd} {x o : Nat} {A A' : Ab} {Y Y' : Lt} {ch ch' : Nat → Int32} {p p' : Nat → Nat} {N N' : Nat → Bg} {e : va_E} (h : CS K g x A Y ch p N) (h1 : CS (reF K (frm (ZN x A Y) g)) g1 x A' Y' ch' p' N') (ho : ZN x A Y o) (hg : g o = some e) (hk : kF K o = none) (e' : va_E) : CS K (up g1 o e') x A' Y' ch' p' N' := by
  have f1 := h1.fr
  have f0 := h.fr
  have zo : ZN x A' Y' o := f1.2 o e (frm_get ho hg)
  have up1 : ∀ q d, kF K q = some d → frm (ZN x A Y) g q = some d := fun q d hq => frm_get (f0.2 q d hq) (f0.1 q d hq)
  refine h1.mv (F := kF K) (fun q d hq hz => ?_) (fun q d hq => ?_) (fun q d hq => f1.2 q d (up1 q d hq))
  · rw [up_n (show q ≠ o from fun z => hz (by rw [z]; exact zo))]; exact hq
  · rw [up_n (fun z => by rw [z, hk] at hq; cases hq)]; exact f1.1 q d (up1 q d hq)
theorem CS.back0 {K : Cst} {g g1 : Wd} {x : Nat} {A A' : Ab} {Y Y' : Lt} {ch ch' : Nat → Int32} {p p' : Nat → Nat} {N N' : Nat → Bg} (h : CS K g x A Y ch p N) (h1 : CS (reF K (frm (ZN x A Y) g)) g1 x A' Y' ch' p' N') : CS K g1 x A' Y' ch' p' N' := by
  have f1 := h1.fr
  have f0 := h.fr
  have up1 : ∀ q d, kF K q = some d → frm (ZN x A Y) g q = some d := fun q d hq => frm_get (f0.2 q d hq) (f0.1 q d hq)
  exact h1.mv (F := kF K) (fun q d hq hz => hq) (fun q d hq => f1.1 q d (up1 q d hq)) (fun q d hq => f1.2 q d (up1 q d hq))
