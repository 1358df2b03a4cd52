/-! THE LAYER: a world is a function from addresses to cells; J is the judgement that the rows below turn, an instruction a row. -/
abbrev Cst : Type := va_G × (ClassId × ClassId × ClassId × ClassId) × Nat × (Nat → Option va_E)
abbrev kD (K : Cst) : va_G := K.1
abbrev kI (K : Cst) : ClassId := K.2.1.1
abbrev kZ (K : Cst) : ClassId := K.2.1.2.1
abbrev kR (K : Cst) : ClassId := K.2.1.2.2.1
abbrev kJ (K : Cst) : ClassId := K.2.1.2.2.2
abbrev kb (K : Cst) : Nat := K.2.2.1
/-- cells of others that a call leaves alone -/
abbrev kF (K : Cst) : Nat → Option va_E := K.2.2.2
abbrev kA (K : Cst) : Nat → Prop := fun q => kb K ≤ q
abbrev tysK (K : Cst) : List (ClassId × FieldType) := [(kI K, .int), (kZ K, .boolean), (kR K, .object "BagViews$Relation"), (kJ K, .long)]
abbrev Wd : Type := Nat → Option va_E
def wdP (K : Cst) (g : Wd) (H : Heap) : Prop := ∀ a e, g a = some e → va_at (kD K) vwCl (a, e) H
def wdA (K : Cst) (g : Wd) : Prop := ∀ a e, g a = some e → kb K ≤ a
def up (g : Wd) (a : Nat) (e : va_E) : Wd := fun q => if q = a then some e else g q
theorem up_s (g : Wd) (a : Nat) (e : va_E) : up g a e a = some e := if_pos rfl
theorem up_n {g : Wd} {a q : Nat} {e : va_E} (h : q ≠ a) : up g a e q = g q := if_neg h
theorem up_up (g : Wd) (a : Nat) (e e' : va_E) : up (up g a e) a e' = up g a e' := by
  funext q; by_cases h : q = a <;> simp [up, h]
theorem up_id {g : Wd} {a : Nat} {e : va_E} (h : g a = some e) : up g a e = g := by
  funext q; by_cases hq : q = a <;> simp [up, hq, h]
abbrev aI (K : Cst) (n : Nat) (f : Nat → Int32) : va_E := .inl (kI K, n, .inl f)
abbrev aZ (K : Cst) (n : Nat) (f : Nat → Int32) : va_E := .inl (kZ K, n, .inl f)
abbrev aJ (K : Cst) (n : Nat) (f : Nat → Int64) : va_E := .inl (kJ K, n, .inr (.inl f))
abbrev aQ (K : Cst) (n : Nat) (f : Nat → Option Nat) : va_E := .inl (kR K, n, .inr (.inr (.inr (.inr f))))
abbrev ob (ci : Nat) (fs : List Value) : va_E := .inr (ci, fs)
theorem wdP.one {K : Cst} {g : Wd} {H : Heap} (h : wdP K g H) {a : Nat} {e : va_E} (ha : g a = some e) : va_P (kD K) vwCl [(a, e)] H := fun k q hk => by
  match k, hk with
  | 0, hk => cases hk; exact h a e ha
theorem wdP.two {K : Cst} {g : Wd} {H : Heap} (h : wdP K g H) {a b : Nat} {e f : va_E} (ha : g a = some e) (hb : g b = some f) : va_P (kD K) vwCl [(a, e), (b, f)] H := fun k q hk => by
  match k, hk with
  | 0, hk => cases hk; exact h a e ha
  | 1, hk => cases hk; exact h b f hb
theorem wdA.one {K : Cst} {g : Wd} (h : wdA K g) {a : Nat} {e : va_E} (ha : g a = some e) : va_D (kA K) [(a, e)] := ⟨fun i j p q hi hj _ => by
  have h1 : i < 1 := (List.getElem?_eq_some_iff.mp hi).1
  have h2 : j < 1 := (List.getElem?_eq_some_iff.mp hj).1
  omega, fun k q hk => by
  match k, hk with
  | 0, hk => cases hk; exact h a e ha⟩
theorem wdA.two {K : Cst} {g : Wd} (h : wdA K g) {a b : Nat} {e f : va_E} (ha : g a = some e) (hb : g b = some f) (hab : a ≠ b) : va_D (kA K) [(a, e), (b, f)] := ⟨fun i j p q hi hj hpq => by
  have h1 : i < 2 := (List.getElem?_eq_some_iff.mp hi).1
  have h2 : j < 2 := (List.getElem?_eq_some_iff.mp hj).1
  match i, j, h1, h2, hi, hj with
  | 0, 0, _, _, _, _ => rfl
  | 1, 1, _, _, _, _ => rfl
  | 0, 1, _, _, hi, hj => cases hi; cases hj; exact absurd hpq hab
  | 1, 0, _, _, hi, hj => cases hi; cases hj; exact absurd hpq.symm hab, fun k q hk => by
  match k, hk with
  | 0, hk => cases hk; exact h a e ha
  | 1, hk => cases hk; exact h b f hb⟩
/-- a cell is written, the others stay -/
theorem wdP.put {K : Cst} {g : Wd} {H H1 : Heap} (h : wdP K g H) {a : Nat} {e : va_E} (he : va_at (kD K) vwCl (a, e) H1) (oq : ∀ q : Nat, q ≠ a → H1[q]? = H[q]?) : wdP K (up g a e) H1 := fun b x hb => by
  by_cases hq : b = a
  · subst hq; rw [up_s] at hb; cases hb; exact he
  · rw [up_n hq] at hb; exact (h b x hb).kept (oq b hq)
theorem wdA.put {K : Cst} {g : Wd} (h : wdA K g) {a : Nat} {e : va_E} (ha : kb K ≤ a) : wdA K (up g a e) := fun b x hb => by
  by_cases hq : b = a
  · subst hq; exact ha
  · rw [up_n hq] at hb; exact h b x hb
theorem wdP.lt {K : Cst} {g : Wd} {H : Heap} (h : wdP K g H) {a : Nat} {e : va_E} (ha : g a = some e) : a < H.size := (h a e ha).lt
def nestW : List Cond := [.methodLinkNest RX10 19 yX6_init "BagViews", .methodLinkNest RX6 9 yX0_init "BagViews", .fieldLinkNest RX2 36 "BagViews$Bag" "often" "[I" "BagViews", .fieldLinkNest RX8 40 "BagViews$Bag" "often" "[I" "BagViews", .fieldLinkNest RX4 48 "BagViews$Bag" "often" "[I" "BagViews", .fieldLinkNest RX1 38 "BagViews$Bag" "often" "[I" "BagViews", .fieldLinkNest RX7 56 "BagViews$Bag" "often" "[I" "BagViews", .fieldLinkNest RX3 60 "BagViews$Bag" "often" "[I" "BagViews", .fieldLinkNest RX10 170 "BagViews$Bag" "often" "[I" "BagViews", .fieldLinkNest RX1 25 "BagViews$Bag" "rowCount" "I" "BagViews", .fieldLinkNest RX3 31 "BagViews$Bag" "rowCount" "I" "BagViews", .fieldLinkNest RX5 19 "BagViews$Bag" "rowCount" "I" "BagViews", .fieldLinkNest RX7 35 "BagViews$Bag" "rowCount" "I" "BagViews", .fieldLinkNest RX4 31 "BagViews$Bag" "rowCount" "I" "BagViews", .fieldLinkNest RX2 22 "BagViews$Bag" "rowCount" "I" "BagViews", .fieldLinkNest RX8 28 "BagViews$Bag" "rowCount" "I" "BagViews", .fieldLinkNest RX10 158 "BagViews$Bag" "rowCount" "I" "BagViews", .fieldLinkNest RX10 35 "BagViews$Relation" "now" "LBagViews$Bag;" "BagViews", .fieldLinkNest RX10 138 "BagViews$Relation" "next" "LBagViews$Bag;" "BagViews", .fieldLinkNest RX10 190 "BagViews$Relation" "view" "LBagViews$View;" "BagViews", .fieldLinkNest RX4 59 "BagViews$Relation" "columnCount" "I" "BagViews", .fieldLinkNest RX10 57 "BagViews$Relation" "columnCount" "I" "BagViews", .fieldLinkNest RX9 37 "BagViews$Relation" "pending" "I" "BagViews", .fieldLinkNest RX10 223 "BagViews$Relation" "pending" "I" "BagViews", .fieldLinkNest RX10 177 "BagViews$Relation" "changedRows" "I" "BagViews", .declares ⟨"java/lang/RuntimeException", "<init>", "()V"⟩, .declares ⟨"java/lang/RuntimeException", "<init>", "(Ljava/lang/String;)V"⟩, .declares ⟨"java/lang/Exception", "<init>", "()V"⟩, .declares ⟨"java/lang/Exception", "<init>", "(Ljava/lang/String;)V"⟩, .declares ⟨"java/lang/Throwable", "<init>", "()V"⟩, .declares ⟨"java/lang/Throwable", "<init>", "(Ljava/lang/String;)V"⟩, .declares ⟨"BagViews$View", "makeInto", "(LBagViews$Bag;)Z"⟩, .castable "java/lang/IndexOutOfBoundsException" "java/lang/IndexOutOfBoundsException", .castable "java/lang/IllegalStateException" "java/lang/IllegalStateException", .castable "java/lang/IllegalArgumentException" "java/lang/IllegalArgumentException", .castable "java/lang/UnsupportedOperationException" "java/lang/UnsupportedOperationException"]
theorem nk_X10_19 : (.methodLinkNest RX10 19 yX6_init "BagViews" : Cond) ∈ nestW := List.mem_of_getElem? (i := 0) rfl
theorem nk_X6_9 : (.methodLinkNest RX6 9 yX0_init "BagViews" : Cond) ∈ nestW := List.mem_of_getElem? (i := 1) rfl
theorem nk_X2_36 : (.fieldLinkNest RX2 36 "BagViews$Bag" "often" "[I" "BagViews" : Cond) ∈ nestW := List.mem_of_getElem? (i := 2) rfl
theorem nk_X8_40 : (.fieldLinkNest RX8 40 "BagViews$Bag" "often" "[I" "BagViews" : Cond) ∈ nestW := List.mem_of_getElem? (i := 3) rfl
theorem nk_X4_48 : (.fieldLinkNest RX4 48 "BagViews$Bag" "often" "[I" "BagViews" : Cond) ∈ nestW := List.mem_of_getElem? (i := 4) rfl
theorem nk_X1_38 : (.fieldLinkNest RX1 38 "BagViews$Bag" "often" "[I" "BagViews" : Cond) ∈ nestW := List.mem_of_getElem? (i := 5) rfl
theorem nk_X7_56 : (.fieldLinkNest RX7 56 "BagViews$Bag" "often" "[I" "BagViews" : Cond) ∈ nestW := List.mem_of_getElem? (i := 6) rfl
theorem nk_X3_60 : (.fieldLinkNest RX3 60 "BagViews$Bag" "often" "[I" "BagViews" : Cond) ∈ nestW := List.mem_of_getElem? (i := 7) rfl
theorem nk_X10_170 : (.fieldLinkNest RX10 170 "BagViews$Bag" "often" "[I" "BagViews" : Cond) ∈ nestW := List.mem_of_getElem? (i := 8) rfl
theorem nk_X1_25 : (.fieldLinkNest RX1 25 "BagViews$Bag" "rowCount" "I" "BagViews" : Cond) ∈ nestW := List.mem_of_getElem? (i := 9) rfl
theorem nk_X3_31 : (.fieldLinkNest RX3 31 "BagViews$Bag" "rowCount" "I" "BagViews" : Cond) ∈ nestW := List.mem_of_getElem? (i := 10) rfl
theorem nk_X5_19 : (.fieldLinkNest RX5 19 "BagViews$Bag" "rowCount" "I" "BagViews" : Cond) ∈ nestW := List.mem_of_getElem? (i := 11) rfl
theorem nk_X7_35 : (.fieldLinkNest RX7 35 "BagViews$Bag" "rowCount" "I" "BagViews" : Cond) ∈ nestW := List.mem_of_getElem? (i := 12) rfl
theorem nk_X4_31 : (.fieldLinkNest RX4 31 "BagViews$Bag" "rowCount" "I" "BagViews" : Cond) ∈ nestW := List.mem_of_getElem? (i := 13) rfl
theorem nk_X2_22 : (.fieldLinkNest RX2 22 "BagViews$Bag" "rowCount" "I" "BagViews" : Cond) ∈ nestW := List.mem_of_getElem? (i := 14) rfl
theorem nk_X8_28 : (.fieldLinkNest RX8 28 "BagViews$Bag" "rowCount" "I" "BagViews" : Cond) ∈ nestW := List.mem_of_getElem? (i := 15) rfl
theorem nk_X10_158 : (.fieldLinkNest RX10 158 "BagViews$Bag" "rowCount" "I" "BagViews" : Cond) ∈ nestW := List.mem_of_getElem? (i := 16) rfl
theorem nk_X10_35 : (.fieldLinkNest RX10 35 "BagViews$Relation" "now" "LBagViews$Bag;" "BagViews" : Cond) ∈ nestW := List.mem_of_getElem? (i := 17) rfl
theorem nk_X10_138 : (.fieldLinkNest RX10 138 "BagViews$Relation" "next" "LBagViews$Bag;" "BagViews" : Cond) ∈ nestW := List.mem_of_getElem? (i := 18) rfl
theorem nk_X10_190 : (.fieldLinkNest RX10 190 "BagViews$Relation" "view" "LBagViews$View;" "BagViews" : Cond) ∈ nestW := List.mem_of_getElem? (i := 19) rfl
theorem nk_X4_59 : (.fieldLinkNest RX4 59 "BagViews$Relation" "columnCount" "I" "BagViews" : Cond) ∈ nestW := List.mem_of_getElem? (i := 20) rfl
theorem nk_X10_57 : (.fieldLinkNest RX10 57 "BagViews$Relation" "columnCount" "I" "BagViews" : Cond) ∈ nestW := List.mem_of_getElem? (i := 21) rfl
theorem nk_X9_37 : (.fieldLinkNest RX9 37 "BagViews$Relation" "pending" "I" "BagViews" : Cond) ∈ nestW := List.mem_of_getElem? (i := 22) rfl
theorem nk_X10_223 : (.fieldLinkNest RX10 223 "BagViews$Relation" "pending" "I" "BagViews" : Cond) ∈ nestW := List.mem_of_getElem? (i := 23) rfl
theorem nk_X10_177 : (.fieldLinkNest RX10 177 "BagViews$Relation" "changedRows" "I" "BagViews" : Cond) ∈ nestW := List.mem_of_getElem? (i := 24) rfl
theorem nd_25 : (.declares ⟨"java/lang/RuntimeException", "<init>", "()V"⟩ : Cond) ∈ nestW := List.mem_of_getElem? (i := 25) rfl
theorem nd_26 : (.declares ⟨"java/lang/RuntimeException", "<init>", "(Ljava/lang/String;)V"⟩ : Cond) ∈ nestW := List.mem_of_getElem? (i := 26) rfl
theorem nd_27 : (.declares ⟨"java/lang/Exception", "<init>", "()V"⟩ : Cond) ∈ nestW := List.mem_of_getElem? (i := 27) rfl
theorem nd_28 : (.declares ⟨"java/lang/Exception", "<init>", "(Ljava/lang/String;)V"⟩ : Cond) ∈ nestW := List.mem_of_getElem? (i := 28) rfl
theorem nd_29 : (.declares ⟨"java/lang/Throwable", "<init>", "()V"⟩ : Cond) ∈ nestW := List.mem_of_getElem? (i := 29) rfl
theorem nd_30 : (.declares ⟨"java/lang/Throwable", "<init>", "(Ljava/lang/String;)V"⟩ : Cond) ∈ nestW := List.mem_of_getElem? (i := 30) rfl
theorem nd_31 : (.declares ⟨"BagViews$View", "makeInto", "(LBagViews$Bag;)Z"⟩ : Cond) ∈ nestW := List.mem_of_getElem? (i := 31) rfl
theorem nc_0 : (.castable "java/lang/IndexOutOfBoundsException" "java/lang/IndexOutOfBoundsException" : Cond) ∈ nestW := List.mem_of_getElem? (i := 32) rfl
theorem nc_1 : (.castable "java/lang/IllegalStateException" "java/lang/IllegalStateException" : Cond) ∈ nestW := List.mem_of_getElem? (i := 33) rfl
theorem nc_2 : (.castable "java/lang/IllegalArgumentException" "java/lang/IllegalArgumentException" : Cond) ∈ nestW := List.mem_of_getElem? (i := 34) rfl
theorem nc_3 : (.castable "java/lang/UnsupportedOperationException" "java/lang/UnsupportedOperationException" : Cond) ∈ nestW := List.mem_of_getElem? (i := 35) rfl
def strW : List (String × Nat × String) := [(RX10, 194, "relations are 0 to 7"), (RX10, 200, "the relation that is to be made is there"), (RX10, 30, "a table has 1 to 4 columns"), (RX10, 196, "there is no such relation"), (RX10, 202, "there is no such column"), (RX10, 55, "there is no such comparison"), (RX10, 216, "the view would be beyond the bounds"), (RX10, 204, "no column at all"), (RX10, 206, "a column behind NONE"), (RX10, 82, "a join has at most 4 columns"), (RX10, 89, "they have not as many columns"), (RX10, 103, "there is no such sort"), (RX10, 116, "a view is of it"), (RX10, 198, "it is a view"), (RX10, 127, "n is 0, or beyond 1000000 either way"), (RX10, 136, "the table has the row not so often"), (RX10, 236, "a relation would be beyond the bounds"), (RX10, 156, "n is not 1 to 40"), (RX10, 167, "there is no such row"), (RX10, 180, "there is nothing such to count")]
theorem sk_X10_194 : (RX10, 194, "relations are 0 to 7") ∈ strW := List.mem_of_getElem? (i := 0) rfl
theorem sk_X10_200 : (RX10, 200, "the relation that is to be made is there") ∈ strW := List.mem_of_getElem? (i := 1) rfl
theorem sk_X10_30 : (RX10, 30, "a table has 1 to 4 columns") ∈ strW := List.mem_of_getElem? (i := 2) rfl
theorem sk_X10_196 : (RX10, 196, "there is no such relation") ∈ strW := List.mem_of_getElem? (i := 3) rfl
theorem sk_X10_202 : (RX10, 202, "there is no such column") ∈ strW := List.mem_of_getElem? (i := 4) rfl
theorem sk_X10_55 : (RX10, 55, "there is no such comparison") ∈ strW := List.mem_of_getElem? (i := 5) rfl
theorem sk_X10_216 : (RX10, 216, "the view would be beyond the bounds") ∈ strW := List.mem_of_getElem? (i := 6) rfl
theorem sk_X10_204 : (RX10, 204, "no column at all") ∈ strW := List.mem_of_getElem? (i := 7) rfl
theorem sk_X10_206 : (RX10, 206, "a column behind NONE") ∈ strW := List.mem_of_getElem? (i := 8) rfl
theorem sk_X10_82 : (RX10, 82, "a join has at most 4 columns") ∈ strW := List.mem_of_getElem? (i := 9) rfl
theorem sk_X10_89 : (RX10, 89, "they have not as many columns") ∈ strW := List.mem_of_getElem? (i := 10) rfl
theorem sk_X10_103 : (RX10, 103, "there is no such sort") ∈ strW := List.mem_of_getElem? (i := 11) rfl
theorem sk_X10_116 : (RX10, 116, "a view is of it") ∈ strW := List.mem_of_getElem? (i := 12) rfl
theorem sk_X10_198 : (RX10, 198, "it is a view") ∈ strW := List.mem_of_getElem? (i := 13) rfl
theorem sk_X10_127 : (RX10, 127, "n is 0, or beyond 1000000 either way") ∈ strW := List.mem_of_getElem? (i := 14) rfl
theorem sk_X10_136 : (RX10, 136, "the table has the row not so often") ∈ strW := List.mem_of_getElem? (i := 15) rfl
theorem sk_X10_236 : (RX10, 236, "a relation would be beyond the bounds") ∈ strW := List.mem_of_getElem? (i := 16) rfl
theorem sk_X10_156 : (RX10, 156, "n is not 1 to 40") ∈ strW := List.mem_of_getElem? (i := 17) rfl
theorem sk_X10_167 : (RX10, 167, "there is no such row") ∈ strW := List.mem_of_getElem? (i := 18) rfl
theorem sk_X10_180 : (RX10, 180, "there is nothing such to count") ∈ strW := List.mem_of_getElem? (i := 19) rfl
def ncW : List (String × String) := [("java/lang/IndexOutOfBoundsException", "java/lang/IllegalStateException"), ("java/lang/IndexOutOfBoundsException", "java/lang/IllegalArgumentException"), ("java/lang/IndexOutOfBoundsException", "java/lang/UnsupportedOperationException"), ("java/lang/IllegalStateException", "java/lang/IndexOutOfBoundsException"), ("java/lang/IllegalStateException", "java/lang/IllegalArgumentException"), ("java/lang/IllegalStateException", "java/lang/UnsupportedOperationException"), ("java/lang/IllegalArgumentException", "java/lang/IndexOutOfBoundsException"), ("java/lang/IllegalArgumentException", "java/lang/IllegalStateException"), ("java/lang/IllegalArgumentException", "java/lang/UnsupportedOperationException"), ("java/lang/UnsupportedOperationException", "java/lang/IndexOutOfBoundsException"), ("java/lang/UnsupportedOperationException", "java/lang/IllegalStateException"), ("java/lang/UnsupportedOperationException", "java/lang/IllegalArgumentException")]
theorem nn_0_1 : ("java/lang/IndexOutOfBoundsException", "java/lang/IllegalStateException") ∈ ncW := List.mem_of_getElem? (i := 0) rfl
theorem nn_0_2 : ("java/lang/IndexOutOfBoundsException", "java/lang/IllegalArgumentException") ∈ ncW := List.mem_of_getElem? (i := 1) rfl
theorem nn_0_3 : ("java/lang/IndexOutOfBoundsException", "java/lang/UnsupportedOperationException") ∈ ncW := List.mem_of_getElem? (i := 2) rfl
theorem nn_1_0 : ("java/lang/IllegalStateException", "java/lang/IndexOutOfBoundsException") ∈ ncW := List.mem_of_getElem? (i := 3) rfl
theorem nn_1_2 : ("java/lang/IllegalStateException", "java/lang/IllegalArgumentException") ∈ ncW := List.mem_of_getElem? (i := 4) rfl
theorem nn_1_3 : ("java/lang/IllegalStateException", "java/lang/UnsupportedOperationException") ∈ ncW := List.mem_of_getElem? (i := 5) rfl
theorem nn_2_0 : ("java/lang/IllegalArgumentException", "java/lang/IndexOutOfBoundsException") ∈ ncW := List.mem_of_getElem? (i := 6) rfl
theorem nn_2_1 : ("java/lang/IllegalArgumentException", "java/lang/IllegalStateException") ∈ ncW := List.mem_of_getElem? (i := 7) rfl
theorem nn_2_3 : ("java/lang/IllegalArgumentException", "java/lang/UnsupportedOperationException") ∈ ncW := List.mem_of_getElem? (i := 8) rfl
theorem nn_3_0 : ("java/lang/UnsupportedOperationException", "java/lang/IndexOutOfBoundsException") ∈ ncW := List.mem_of_getElem? (i := 9) rfl
theorem nn_3_1 : ("java/lang/UnsupportedOperationException", "java/lang/IllegalStateException") ∈ ncW := List.mem_of_getElem? (i := 10) rfl
theorem nn_3_2 : ("java/lang/UnsupportedOperationException", "java/lang/IllegalArgumentException") ∈ ncW := List.mem_of_getElem? (i := 11) rfl
def nestB : Cond → Bool
  | .fieldLinkNest _ _ _ _ _ _ => true
  | .methodLinkNest _ _ _ _ => true
  | .declares _ => true
  | .castable _ _ => true
  | _ => false
theorem nest_all : nestW.all nestB = true := by decide +kernel
theorem nest_warm {w : Cond} (hw : nestB w = true) {s U : State} (hW : s.WarmedH U.vm) (h : va_Nw w s) : va_Nw w U := by
  cases w <;> first | (simp [nestB] at hw; done) | exact va_Nw.warmF hW h | exact va_Nw.warmM hW h | exact va_Nw.warmD hW h | exact va_Nw.warmC hW h
theorem nest_same {w : Cond} (hw : nestB w = true) {s U : State} (hv : s.vm = U.vm) (h : va_Nw w s) : va_Nw w U := by
  cases w <;> first | (simp [nestB] at hw; done) | exact va_Nw.same rfl hv h
/-- what every method may take of the state: the classes, the nest's links, Throwable's two statics, the texts -/
def StF (K : Cst) (U : State) : Prop := va_K (kD K) vwCl (tysK K) U ∧ (∀ w ∈ nestW, va_Nw w U) ∧ (vx_Zq Bundle.tN "UNASSIGNED_STACK" Bundle.steD (kA K) U U.heap ∧ vx_Zq Bundle.tN "SUPPRESSED_SENTINEL" Bundle.listD (kA K) U U.heap) ∧ (∀ q ∈ strW, ∃ sa, vk_R q.1 q.2.1 q.2.2 sa U) ∧ va_AO "BagViews$Relation" U ∧ ∀ q ∈ ncW, va_Nc q.1 q.2 U
theorem StF.same {K : Cst} {s U : State} (hv : s.vm = U.vm) (hh : s.heap = U.heap) (h : StF K s) : StF K U := by
  obtain ⟨h1, h2, ⟨h3, h4⟩, h5, h6, h7⟩ := h
  refine ⟨va_K.moved (by rw [hv]; exact Vm.Alike.refl _) h1, fun w hw => nest_same (List.all_eq_true.mp nest_all w hw) hv (h2 w hw), ⟨?_, ?_⟩, fun q hq => ?_, va_AO.moved (by rw [hv]; exact Vm.Alike.refl _) h6, fun q hq => va_Nc.moved (by rw [hv]; exact Vm.Alike.refl _) (h7 q hq)⟩
  · rw [← hh]; exact vx_Zq.moved (by rw [hv]; exact Vm.Alike.refl _) h3
  · rw [← hh]; exact vx_Zq.moved (by rw [hv]; exact Vm.Alike.refl _) h4
  · obtain ⟨sa, hs⟩ := h5 q hq
    exact ⟨sa, vk_R.same hv.symm hs⟩
theorem StF.pass {K : Cst} {s U : State} {locs : List Loc} (hW : s.WarmedH U.vm) (hS : va_S (kA K) s.heap U.heap locs) (h : StF K s) : StF K U := by
  obtain ⟨h1, h2, ⟨h3, h4⟩, h5, h6, h7⟩ := h
  refine ⟨va_K.moved hW.alike h1, fun w hw => nest_warm (List.all_eq_true.mp nest_all w hw) hW (h2 w hw), ⟨vx_Zq.moved hW.alike (h3.kept hS.2.1), vx_Zq.moved hW.alike (h4.kept hS.2.1)⟩, fun q hq => ?_, va_AO.moved hW.alike h6, fun q hq => va_Nc.moved hW.alike (h7 q hq)⟩
  obtain ⟨sa, hs⟩ := h5 q hq
  exact ⟨sa, vk_R.warm hW hs⟩

