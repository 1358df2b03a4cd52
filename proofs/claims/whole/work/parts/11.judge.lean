/-! THE JUDGEMENT. Cx: a method's run: program, launch, environment, room, start state, method, arguments, frames below, the method, its code, what is owed at the end, the constants, the number of locals, the level. -/
abbrev Cx : Type := Program × Launch × Env × Room × State × MethodId × Array Value × List Frame × Method × Code × (State → Prop) × Cst × Nat × Nat
abbrev xp (X : Cx) : Program := X.1
abbrev xl (X : Cx) : Launch := X.2.1
abbrev xe (X : Cx) : Env := X.2.2.1
abbrev xR (X : Cx) : Room := X.2.2.2.1
abbrev xs (X : Cx) : State := X.2.2.2.2.1
abbrev xm (X : Cx) : MethodId := X.2.2.2.2.2.1
abbrev xargs (X : Cx) : Array Value := X.2.2.2.2.2.2.1
abbrev xbelow (X : Cx) : List Frame := X.2.2.2.2.2.2.2.1
abbrev xmeth (X : Cx) : Method := X.2.2.2.2.2.2.2.2.1
abbrev xc (X : Cx) : Code := X.2.2.2.2.2.2.2.2.2.1
abbrev xQ (X : Cx) : State → Prop := X.2.2.2.2.2.2.2.2.2.2.1
abbrev xK (X : Cx) : Cst := X.2.2.2.2.2.2.2.2.2.2.2.1
abbrev xn (X : Cx) : Nat := X.2.2.2.2.2.2.2.2.2.2.2.2.1
abbrev xlev (X : Cx) : Nat := X.2.2.2.2.2.2.2.2.2.2.2.2.2
def Hs (X : Cx) (g : Wd) (H : Heap) (locs : List Loc) : Prop := wdP (xK X) g H ∧ wdA (xK X) g ∧ va_S (kA (xK X)) (xs X).heap H locs
abbrev WX (X : Cx) (H : Heap) (locs : List Loc) (cells slots : Nat) (fr : JFrame) : Prop := W (xp X) (xl X) (xe X) (xR X) (xs X) (xm X) (xargs X) (xbelow X) (xmeth X) (xc X) H locs cells slots (xQ X) fr
def J (X : Cx) (kc ks : Nat) (g : Wd) (pc : Nat) (lv : List (Nat × Value)) (st : List Value) : Prop :=
  ∀ (H : Heap) (locs : List Loc) (cells slots : Nat) (ls : Array Slot), cells ≤ kc → slots ≤ ks → Hs X g H locs → lv_has ls (xn X) lv → WX X H locs cells slots (F0 (xm X) pc ls st)
/-- an exception of the class E stands over the frame -/
def JX (X : Cx) (kc ks : Nat) (g : Wd) (pc : Nat) (lv : List (Nat × Value)) (st : List Value) (E : String) : Prop :=
  ∀ (H : Heap) (locs : List Loc) (cells slots : Nat) (ls : Array Slot) (q : Addr) (ce : Cell), cells ≤ kc → slots ≤ ks → Hs X g H locs → lv_has ls (xn X) lv → H[q]? = some ce → ce.vm = .none → (xs X).vm.findClass E = some ce.cls →
    vx_W (xp X) (xl X) (xe X) (xR X) (xs X) (xm X) (xargs X) (xbelow X) (xmeth X) (xc X) H locs cells slots (xQ X) (F0 (xm X) pc ls st) q
def OK (X : Cx) (cc : ByteArray) (own : String) : Prop :=
  (xp X).tables.exec = Jvm.exec ∧ (xc X).code = cc ∧ (xc X).maxLocals = xn X ∧ (xs X).vm.findClass own = some (xm X).cls ∧ (∀ w ∈ wsL_law, w.before (xargs X) (xs X) = true) ∧ StF (xK X) (xs X) ∧ (xmeth X).locks = false ∧ kb (xK X) ≤ (xs X).heap.size ∧ (xlev X ≤ (xR X).frames ∧ 32 * xlev X ≤ (xR X).locals)
section Acc
variable {X : Cx} {cc : ByteArray} {own : String}
theorem OK.x (h : OK X cc own) : (xp X).tables.exec = Jvm.exec := h.1
theorem OK.b (h : OK X cc own) : (xc X).code = cc := h.2.1
theorem OK.ml (h : OK X cc own) : (xc X).maxLocals = xn X := h.2.2.1
theorem OK.ow (h : OK X cc own) : (xs X).vm.findClass own = some (xm X).cls := h.2.2.2.1
theorem OK.ts (h : OK X cc own) : ∀ w ∈ wsL_law, w.before (xargs X) (xs X) = true := h.2.2.2.2.1
theorem OK.F (h : OK X cc own) : StF (xK X) (xs X) := h.2.2.2.2.2.1
theorem OK.K (h : OK X cc own) : va_K (kD (xK X)) vwCl (tysK (xK X)) (xs X) := h.F.1
theorem OK.N (h : OK X cc own) : ∀ w ∈ nestW, va_Nw w (xs X) := h.F.2.1
theorem OK.locks (h : OK X cc own) : (xmeth X).locks = false := h.2.2.2.2.2.2.1
theorem OK.b0 (h : OK X cc own) : kb (xK X) ≤ (xs X).heap.size := h.2.2.2.2.2.2.2.1
theorem OK.room (h : OK X cc own) : xlev X ≤ (xR X).frames ∧ 32 * xlev X ≤ (xR X).locals := h.2.2.2.2.2.2.2.2
theorem OK.A (h : OK X cc own) : ∀ q, (xs X).heap.size ≤ q → kA (xK X) q := fun _ hq => Nat.le_trans h.b0 hq
end Acc
/-- what a method owes at its end -/
def QcW (K : Cst) (Post : Option Value → Wd → Prop) : Array Value → State → Outcome → State → Prop := fun _ st oc t => (∃ v g', oc = .returned v ∧ Post v g' ∧ wdP K g' t.heap ∧ wdA K g') ∧ va_F (kA K) st t
def XcW (K : Cst) (XP : String → Wd → Prop) : String → State → State → Prop := fun E st t => (∃ g', XP E g' ∧ wdP K g' t.heap ∧ wdA K g') ∧ va_F (kA K) st t
def EndX (X : Cx) (ret : Option FieldType) (Post : Option Value → Wd → Prop) (XP : String → Wd → Prop) (mc ms : Nat) : Prop :=
  xQ X = vx_MQ (xbelow X) (QcW (xK X) Post) (XcW (xK X) XP) (xargs X) (xs X) mc ms (kA (xK X)) ∧ (xmeth X).sig.returnType = ret ∧ ∀ x ∈ (xc X).exceptionTable.toList, False
abbrev rmL (L mc ms : Nat) : Room := { frames := L, cells := mc, slots := ms, locals := 32 * L }
def PreW (K : Cst) (g : Wd) (U : State) : Prop := StF K U ∧ wdP K g U.heap ∧ wdA K g ∧ kb K ≤ U.heap.size
/-- A CONTRACT: the method y, called with av in the world g, returns with Post or throws with XP -/
def Ct (l : Launch) (K : Cst) (y : MethodName) (cc : ByteArray) (n : Nat) (r : Option FieldType) (L : Nat) (av : List Value) (g : Wd) (Post : Option Value → Wd → Prop) (XP : String → Wd → Prop) (mc ms : Nat) : Prop :=
  vx_Met l y (Cond.code y cc n r :: wsL_law) (rmL L mc ms) (va_Pc av (PreW K g)) (QcW K Post) (XcW K XP) mc ms (kA K)
theorem PreW.blind {K : Cst} {g : Wd} {av : List Value} : FrameBlind (va_Pc av (PreW K g)) := fun a U f mk h => ⟨h.1, StF.same (s := U) (U := U.calling f mk a) rfl rfl h.2.1, h.2.2.1, h.2.2.2.1, h.2.2.2.2⟩
set_option maxRecDepth 100000 in
theorem ct_of {l : Launch} {K : Cst} {y : MethodName} {cc : ByteArray} {n : Nat} {r : Option FieldType} {L : Nat} {av : List Value} {g : Wd} {Post : Option Value → Wd → Prop} {XP : String → Wd → Prop} {mc ms : Nat} (hy : plainName y.cls = true) (hn : (lg_sl av).length ≤ n)
    (body : ∀ X : Cx, xl X = l → xK X = K → OK X cc y.cls → EndX X r Post XP mc ms → xn X = n → xlev X = L → xR X = rmL L mc ms → (xmeth X).name = y.name → J X 0 0 g 0 (lv_args 0 av) []) : Ct l K y cc n r L av g Post XP mc ms := by
  refine vx_ofW (cc := cc) (maxL := n) (ret := r) hy rfl ?_
  intro p e s m args below meth c s₁ B hml ht hv
  obtain ⟨rfl, hF, hP, hA, hb0⟩ := hv
  have hts := atoms_spec (ws := Cond.code y cc n r :: wsL_law) B.pre
  have hJ := body (p, l, e, rmL L mc ms, s, m, av.toArray, below, meth, c, vx_MQ below (QcW K Post) (XcW K XP) av.toArray s mc ms (kA K), K, n, L) rfl rfl
    ⟨B.exec, B.bytes, hml, findClass_of_methodNamed B.named, fun w hw => hts w (List.mem_cons_of_mem _ hw), hF, B.notSynchronized, hb0, Nat.le_refl _, Nat.le_refl _⟩ ⟨rfl, B.returns, ht⟩ rfl rfl rfl (name_of_methodNamed B.named B.method).1
  rw [lg_entry_eq]
  exact hJ s.heap [] 0 0 _ (Nat.le_refl _) (Nat.le_refl _) ⟨hP, hA, va_S.rf⟩ (lv_entry av hn)
/-! the words are good -/
theorem wg_app {a b : List Cond} (ha : ∀ w ∈ a, goodWord w = true) (hb : ∀ w ∈ b, goodWord w = true) : ∀ w ∈ a ++ b, goodWord w = true := fun w h => (List.mem_append.mp h).elim (ha w) (hb w)
theorem wg_all {a : List Cond} (h : a.all goodWord = true) : ∀ w ∈ a, goodWord w = true := List.all_eq_true.mp h
theorem wg_good0 : ∀ w ∈ wsL_law0, goodWord w = true := (wg_app (wg_app (wg_app (wg_app (wg_app (wg_app (wg_app (wg_app (wg_app (wg_app (wg_app (wg_app (wg_app (wg_all (by decide +kernel)) (wg_app (wg_all (by decide +kernel)) (wg_app (wg_all (by decide +kernel)) (wg_app (wg_all (by decide +kernel)) (wg_app (wg_all (by decide +kernel)) (wg_app (wg_all (by decide +kernel)) (wg_app (wg_all (by decide +kernel)) (wg_app (wg_all (by decide +kernel)) (wg_app (wg_all (by decide +kernel)) (wg_app (wg_all (by decide +kernel)) (wg_app (wg_all (by decide +kernel)) (wg_app (wg_all (by decide +kernel)) (wg_app (wg_all (by decide +kernel)) (wg_app (wg_all (by decide +kernel)) (wg_app (wg_all (by decide +kernel)) (wg_app (wg_all (by decide +kernel)) (wg_app (wg_all (by decide +kernel)) (wg_app (wg_all (by decide +kernel)) (wg_app (wg_all (by decide +kernel)) (wg_app (wg_all (by decide +kernel)) (wg_app (wg_all (by decide +kernel)) (wg_app (wg_all (by decide +kernel)) (wg_app (wg_all (by decide +kernel)) (wg_app (wg_all (by decide +kernel)) (wg_app (wg_all (by decide +kernel)) (wg_app (wg_all (by decide +kernel)) (wg_app (wg_all (by decide +kernel)) (wg_app (wg_all (by decide +kernel)) (wg_app (wg_all (by decide +kernel)) (wg_all (by decide +kernel))))))))))))))))))))))))))))))) (wg_all (by decide +kernel))) (wg_all (by decide +kernel))) (wg_all (by decide +kernel))) (wg_all (by decide +kernel))) (wg_all (by decide +kernel))) (wg_all (by decide +kernel))) (wg_all (by decide +kernel))) (wg_all (by decide +kernel))) (wg_all (by decide +kernel))) (wg_all (by decide +kernel))) (wg_all (by decide +kernel))) (wg_all rfl))
theorem wg_good : ∀ w ∈ wsL_law, goodWord w = true := (wg_app (wg_app (wg_app (wg_app wg_good0 (fun w h => (List.mem_filter.mp h).2)) (fun w h => (List.mem_filter.mp h).2)) (fun w h => (List.mem_filter.mp h).2)) (fun w h => (List.mem_filter.mp h).2))
theorem wg_in {ws : List Cond} (h : ∀ w ∈ ws, w ∈ wsL_law) : GoodIn wsL_law ws := fun w hw => ⟨h w hw, good_of_word (wg_good w (h w hw))⟩
theorem wg_c {c : Cond} {B : List Cond} (h : c ∈ wsL_law) (t : ∀ w ∈ B, w ∈ wsL_law) : ∀ w ∈ c :: B, w ∈ wsL_law := fun w h' => (List.mem_cons.mp h').elim (fun e => by rw [e]; exact h) (t w)
theorem wg_s : ∀ w ∈ wsL_law, w ∈ wsL_law := fun _ h => h
