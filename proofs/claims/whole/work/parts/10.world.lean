/-! THE LAYER: a world is a function from addresses to cells; J is the judgement that the rows below turn, an instruction a row. -/
abbrev Cst : Type := va_G × (ClassId × ClassId × ClassId × ClassId) × Nat
abbrev kD (K : Cst) : va_G := K.1
abbrev kI (K : Cst) : ClassId := K.2.1.1
abbrev kZ (K : Cst) : ClassId := K.2.1.2.1
abbrev kR (K : Cst) : ClassId := K.2.1.2.2.1
abbrev kJ (K : Cst) : ClassId := K.2.1.2.2.2
abbrev kb (K : Cst) : Nat := K.2.2
abbrev kA (K : Cst) : Nat → Prop := fun q => kb K ≤ q
abbrev tysK (K : Cst) : List (ClassId × FieldType) := [(kI K, .int), (kZ K, .boolean), (kR K, .object "BagViews$Relation"), (kJ K, .long)]
abbrev Wd : Type := Nat → Option va_E
def wdP (K : Cst) (g : Wd) (H : Heap) : Prop := ∀ a e, g a = some e → va_at (kD K) vwCl (a, e) H
def wdA (K : Cst) (g : Wd) : Prop := ∀ a e, g a = some e → kb K ≤ a
def up (g : Wd) (a : Nat) (e : va_E) : Wd := fun q => if q = a then some e else g q
theorem up_s (g : Wd) (a : Nat) (e : va_E) : up g a e a = some e := if_pos rfl
theorem up_n {g : Wd} {a q : Nat} {e : va_E} (h : q ≠ a) : up g a e q = g q := if_neg h
theorem up_up (g : Wd) (a : Nat) (e e' : va_E) : up (up g a e) a e' = up g a e' := by
  funext q; by_cases h : q = a <;> simp [up, h]
theorem up_id {g : Wd} {a : Nat} {e : va_E} (h : g a = some e) : up g a e = g := by
  funext q; by_cases hq : q = a <;> simp [up, hq, h]
abbrev aI (K : Cst) (n : Nat) (f : Nat → Int32) : va_E := .inl (kI K, n, .inl f)
abbrev aZ (K : Cst) (n : Nat) (f : Nat → Int32) : va_E := .inl (kZ K, n, .inl f)
abbrev aJ (K : Cst) (n : Nat) (f : Nat → Int64) : va_E := .inl (kJ K, n, .inr (.inl f))
abbrev aQ (K : Cst) (n : Nat) (f : Nat → Option Nat) : va_E := .inl (kR K, n, .inr (.inr (.inr (.inr f))))
abbrev ob (ci : Nat) (fs : List Value) : va_E := .inr (ci, fs)
theorem wdP.one {K : Cst} {g : Wd} {H : Heap} (h : wdP K g H) {a : Nat} {e : va_E} (ha : g a = some e) : va_P (kD K) vwCl [(a, e)] H := fun k q hk => by
  match k, hk with
  | 0, hk => cases hk; exact h a e ha
theorem wdP.two {K : Cst} {g : Wd} {H : Heap} (h : wdP K g H) {a b : Nat} {e f : va_E} (ha : g a = some e) (hb : g b = some f) : va_P (kD K) vwCl [(a, e), (b, f)] H := fun k q hk => by
  match k, hk with
  | 0, hk => cases hk; exact h a e ha
  | 1, hk => cases hk; exact h b f hb
theorem wdA.one {K : Cst} {g : Wd} (h : wdA K g) {a : Nat} {e : va_E} (ha : g a = some e) : va_D (kA K) [(a, e)] := ⟨fun i j p q hi hj _ => by
  have h1 : i < 1 := (List.getElem?_eq_some_iff.mp hi).1
  have h2 : j < 1 := (List.getElem?_eq_some_iff.mp hj).1
  omega, fun k q hk => by
  match k, hk with
  | 0, hk => cases hk; exact h a e ha⟩
theorem wdA.two {K : Cst} {g : Wd} (h : wdA K g) {a b : Nat} {e f : va_E} (ha : g a = some e) (hb : g b = some f) (hab : a ≠ b) : va_D (kA K) [(a, e), (b, f)] := ⟨fun i j p q hi hj hpq => by
  have h1 : i < 2 := (List.getElem?_eq_some_iff.mp hi).1
  have h2 : j < 2 := (List.getElem?_eq_some_iff.mp hj).1
  match i, j, h1, h2, hi, hj with
  | 0, 0, _, _, _, _ => rfl
  | 1, 1, _, _, _, _ => rfl
  | 0, 1, _, _, hi, hj => cases hi; cases hj; exact absurd hpq hab
  | 1, 0, _, _, hi, hj => cases hi; cases hj; exact absurd hpq.symm hab, fun k q hk => by
  match k, hk with
  | 0, hk => cases hk; exact h a e ha
  | 1, hk => cases hk; exact h b f hb⟩
/-- a cell is written, the others stay -/
theorem wdP.put {K : Cst} {g : Wd} {H H1 : Heap} (h : wdP K g H) {a : Nat} {e : va_E} (he : va_at (kD K) vwCl (a, e) H1) (oq : ∀ q : Nat, q ≠ a → H1[q]? = H[q]?) : wdP K (up g a e) H1 := fun b x hb => by
  by_cases hq : b = a
  · subst hq; rw [up_s] at hb; cases hb; exact he
  · rw [up_n hq] at hb; exact (h b x hb).kept (oq b hq)
theorem wdA.put {K : Cst} {g : Wd} (h : wdA K g) {a : Nat} {e : va_E} (ha : kb K ≤ a) : wdA K (up g a e) := fun b x hb => by
  by_cases hq : b = a
  · subst hq; exact ha
  · rw [up_n hq] at hb; exact h b x hb
theorem wdP.lt {K : Cst} {g : Wd} {H : Heap} (h : wdP K g H) {a : Nat} {e : va_E} (ha : g a = some e) : a < H.size := (h a e ha).lt
def nestW : List Cond := []
def strW : List (String × Nat × String) := []
def nestB : Cond → Bool
  | .fieldLinkNest _ _ _ _ _ _ => true
  | .methodLinkNest _ _ _ _ => true
  | .declares _ => true
  | _ => false
theorem nest_all : nestW.all nestB = true := by decide +kernel
theorem nest_warm {w : Cond} (hw : nestB w = true) {s U : State} (hW : s.WarmedH U.vm) (h : va_Nw w s) : va_Nw w U := by
  cases w <;> first | (simp [nestB] at hw; done) | exact va_Nw.warmF hW h | exact va_Nw.warmM hW h | exact va_Nw.warmD hW h
theorem nest_same {w : Cond} (hw : nestB w = true) {s U : State} (hv : s.vm = U.vm) (h : va_Nw w s) : va_Nw w U := by
  cases w <;> first | (simp [nestB] at hw; done) | exact va_Nw.same rfl hv h
/-- what every method may take of the state: the classes, the nest's links, Throwable's two statics, the texts -/
def StF (K : Cst) (U : State) : Prop := va_K (kD K) vwCl (tysK K) U ∧ (∀ w ∈ nestW, va_Nw w U) ∧ (vx_Zq Bundle.tN "UNASSIGNED_STACK" Bundle.steD (kA K) U U.heap ∧ vx_Zq Bundle.tN "SUPPRESSED_SENTINEL" Bundle.listD (kA K) U U.heap) ∧ ∀ q ∈ strW, ∃ sa, vk_R q.1 q.2.1 q.2.2 sa U
theorem StF.same {K : Cst} {s U : State} (hv : s.vm = U.vm) (hh : s.heap = U.heap) (h : StF K s) : StF K U := by
  obtain ⟨h1, h2, ⟨h3, h4⟩, h5⟩ := h
  refine ⟨va_K.moved (by rw [hv]; exact Vm.Alike.refl _) h1, fun w hw => nest_same (List.all_eq_true.mp nest_all w hw) hv (h2 w hw), ⟨?_, ?_⟩, fun q hq => ?_⟩
  · rw [← hh]; exact vx_Zq.moved (by rw [hv]; exact Vm.Alike.refl _) h3
  · rw [← hh]; exact vx_Zq.moved (by rw [hv]; exact Vm.Alike.refl _) h4
  · obtain ⟨sa, hs⟩ := h5 q hq
    exact ⟨sa, vk_R.same hv.symm hs⟩
theorem StF.pass {K : Cst} {s U : State} {locs : List Loc} (hW : s.WarmedH U.vm) (hS : va_S (kA K) s.heap U.heap locs) (h : StF K s) : StF K U := by
  obtain ⟨h1, h2, ⟨h3, h4⟩, h5⟩ := h
  refine ⟨va_K.moved hW.alike h1, fun w hw => nest_warm (List.all_eq_true.mp nest_all w hw) hW (h2 w hw), ⟨vx_Zq.moved hW.alike (h3.kept hS.2.1), vx_Zq.moved hW.alike (h4.kept hS.2.1)⟩, fun q hq => ?_⟩
  obtain ⟨sa, hs⟩ := h5 q hq
  exact ⟨sa, vk_R.warm hW hs⟩

