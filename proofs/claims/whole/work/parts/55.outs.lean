/-! what the calls that make and drop come to -/
def nC (a b c d : Int32) : Nat → Int32 := upd (upd (upd (upd (fun _ => 0) 0 a) 1 b) 2 c) 3 d
theorem nC_0 (a b c d : Int32) : nC a b c d 0 = a := by simp [nC, upd]
theorem nC_1 (a b c d : Int32) : nC a b c d 1 = b := by simp [nC, upd]
theorem nC_2 (a b c d : Int32) : nC a b c d 2 = c := by simp [nC, upd]
theorem nC_3 (a b c d : Int32) : nC a b c d 3 = d := by simp [nC, upd]
theorem nC_4 {a b c d : Int32} {j : Nat} (h : 4 ≤ j) : nC a b c d j = 0 := by
  unfold nC
  rw [pk_un (by omega), pk_un (by omega), pk_un (by omega), pk_un (by omega)]
def P8 (r : Int32) : Prop := ∃ i, i < 8 ∧ r = nI i
def isR (A : Ab) (r : Int32) : Prop := ∃ i, i < 8 ∧ r = nI i ∧ 0 < aw A i
def isC (A : Ab) (r c : Int32) : Prop := isR A r ∧ ∃ k, k < aw A (vnat r) ∧ c = nI k
def viewO (ins ok : Prop) (A : Ab) (v : Int32) (w kd l r : Nat) (n : Nat → Int32) (ot : Bool) : Nat → Ab → Prop := OutG ins (0 < aw A (vnat v)) ok (fun B => evalV kd (aw A l) n ot (aB A l) (aB A r) = some B) A (fun B => setA A (vnat v) w kd l r n ot B)
def tabO (A : Ab) (r co : Int32) : Nat → Ab → Prop := OutG (α := Unit) (P8 r) (0 < aw A (vnat r)) (∃ w, 1 ≤ w ∧ w ≤ 4 ∧ co = nI w) (fun _ => True) A (fun _ => setA A (vnat r) (vnat co) 1 0 0 (fun _ => 0) false [])
def selO (A : Ab) (v of c cm th : Int32) (ot : Bool) : Nat → Ab → Prop := viewO (P8 v ∧ isC A of c ∧ (ot = true → isC A of th)) (∃ m, m < 6 ∧ cm = nI m) A v (aw A (vnat of)) 2 (vnat of) (vnat of) (nC c cm th 0) ot
def cwN (n : Nat → Int32) : Nat := if n 0 = -1 then 0 else if n 1 = -1 then 1 else if n 2 = -1 then 2 else if n 3 = -1 then 3 else 4
def chK (n : Nat → Int32) : Prop := ∃ k, 0 < k ∧ k ≤ 4 ∧ (∀ q, q < k → ¬ n q = -1) ∧ ∀ q, k ≤ q → q < 4 → n q = -1
theorem chK_w {n : Nat → Int32} {k : Nat} (h4 : k ≤ 4) (h1 : ∀ q, q < k → ¬ n q = -1) (h2 : ∀ q, k ≤ q → q < 4 → n q = -1) : cwN n = k := by
  unfold cwN
  rcases (show k = 0 ∨ k = 1 ∨ k = 2 ∨ k = 3 ∨ k = 4 by omega) with h | h | h | h | h <;> subst h
  · rw [if_pos (h2 0 (by omega) (by omega))]
  · rw [if_neg (h1 0 (by omega)), if_pos (h2 1 (by omega) (by omega))]
  · rw [if_neg (h1 0 (by omega)), if_neg (h1 1 (by omega)), if_pos (h2 2 (by omega) (by omega))]
  · rw [if_neg (h1 0 (by omega)), if_neg (h1 1 (by omega)), if_neg (h1 2 (by omega)), if_pos (h2 3 (by omega) (by omega))]
  · rw [if_neg (h1 0 (by omega)), if_neg (h1 1 (by omega)), if_neg (h1 2 (by omega)), if_neg (h1 3 (by omega))]
def isN (A : Ab) (r c : Int32) : Prop := c = -1 ∨ ∃ k, k < aw A (vnat r) ∧ c = nI k
def colO (A : Ab) (v of a b c d : Int32) : Nat → Ab → Prop := viewO (P8 v ∧ isR A of ∧ isN A of a ∧ isN A of b ∧ isN A of c ∧ isN A of d) (chK (nC a b c d)) A v (cwN (nC a b c d)) 3 (vnat of) (vnat of) (nC a b c d) false
def joinO (A : Ab) (v le ri c d : Int32) : Nat → Ab → Prop := viewO (P8 v ∧ isC A le c ∧ isC A ri d) (aw A (vnat le) + aw A (vnat ri) ≤ 4) A v (aw A (vnat le) + aw A (vnat ri)) 4 (vnat le) (vnat ri) (nC c d 0 0) false
def bothO (A : Ab) (v le ri : Int32) (ls : Bool) : Nat → Ab → Prop := viewO (P8 v ∧ isR A le ∧ isR A ri) (aw A (vnat le) = aw A (vnat ri)) A v (aw A (vnat le)) (if ls = true then 6 else 5) (vnat le) (vnat ri) (fun _ => 0) false
def onceO (A : Ab) (v of : Int32) : Nat → Ab → Prop := viewO (P8 v ∧ isR A of) True A v (aw A (vnat of)) 7 (vnat of) (vnat of) (fun _ => 0) false
def groupO (A : Ab) (v of bY st c : Int32) : Nat → Ab → Prop := viewO (P8 v ∧ isC A of c ∧ isN A of bY) (∃ s, s < 4 ∧ st = nI s) A v (if bY = -1 then 1 else 2) 8 (vnat of) (vnat of) (nC bY st c 0) false
def dropO (A : Ab) (r : Int32) : Nat → Ab → Prop := OutG (α := Unit) (isR A r) (∃ j, j < 8 ∧ 2 ≤ ak A j ∧ (al A j = vnat r ∨ ar A j = vnat r)) True (fun _ => True) A (fun _ => dropA A (vnat r))
theorem CS.dep {K : Cst} {g : Wd} {x : Nat} {A : Ab} {Y : Lt} {ch : Nat → Int32} {p : Nat → Nat} {N : Nat → Bg} (h : CS K g x A Y ch p N) (hI : Inv A) {j : Nat} (hj : j < 8) : depAt K g (yR Y j) (ad A j) := by
  obtain ⟨h1, _, _, h4, _⟩ := h.2.2.1 j hj
  unfold vwf at h1
  by_cases k : 2 ≤ ak A j
  · rw [if_pos k] at h1
    exact ⟨_, _, _, _, _, Or.inr ⟨_, _, _, _, _, _, _, _, h1, (h4 k).1⟩⟩
  · rw [if_neg k] at h1
    exact ⟨_, _, _, _, _, Or.inl ⟨h1, (hI j hj).2.2.2.1 (by omega)⟩⟩
theorem Sub.rf (g : Wd) : Sub g g := fun _ _ h => h
/-- from g over the new object to what its constructor leaves -/
theorem Sub.ctor {g g1 w1 : Wd} {v rw : Nat} (hs : Sub g g1) (fv : g v = none) (frw : g1 rw = none) (hF : Fr g1 w1 [v, rw]) : Sub g w1 := fun q e hq => by
  have h1 := ne_fr hq fv
  have h2 := ne_fr (hs q e hq) frw
  rw [hF q (by simp [h1, h2])]
  exact hs q e hq
