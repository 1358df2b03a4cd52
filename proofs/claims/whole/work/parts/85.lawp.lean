/-! THE LAW: both sides say the same -/
theorem and31 (x : Int32) : ∃ w, w < 32 ∧ x &&& nI 31 = nI w := by
  refine ⟨x.toBitVec.toNat % 32, Nat.mod_lt _ (by decide), ?_⟩
  apply Int32.toBitVec_inj.mp
  apply BitVec.eq_of_toNat_eq
  rw [Int32.toBitVec_and, BitVec.toNat_and, show (nI 31).toBitVec.toNat = 2 ^ 5 - 1 from rfl, Nat.and_two_pow_sub_one_eq_mod]
  have h : (nI (x.toBitVec.toNat % 32)).toBitVec.toNat = x.toBitVec.toNat % 32 := by
    show (BitVec.ofNat 32 (x.toBitVec.toNat % 32)).toNat = _
    rw [BitVec.toNat_ofNat, Nat.mod_eq_of_lt (by have := Nat.mod_lt x.toBitVec.toNat (show 0 < 32 by decide); omega)]
  rw [h]
theorem detV {ins ok : Prop} {A : Ab} {v : Int32} {w kd l r : Nat} {n : Nat → Int32} {ot : Bool} {k1 k2 : Nat} {A1 A2 : Ab} (h1 : viewO ins ok A v w kd l r n ot k1 A1) (h2 : viewO ins ok A v w kd l r n ot k2 A2) : k1 = k2 ∧ A1 = A2 := OutG.det (fun a b ha hb => by rw [show a = b from Option.some.inj (ha.symm.trans hb)]) h1 h2
theorem detU {ins used ok : Prop} {A : Ab} {B : Ab} {k1 k2 : Nat} {A1 A2 : Ab} (h1 : OutG (α := Unit) ins used ok (fun _ => True) A (fun _ => B) k1 A1) (h2 : OutG (α := Unit) ins used ok (fun _ => True) A (fun _ => B) k2 A2) : k1 = k2 ∧ A1 = A2 := OutG.det (fun _ _ _ _ => rfl) h1 h2
theorem detN {ins used ok : Prop} {A : Ab} (hI : Inv A) {t : Nat} {o : Option Bg} {k1 k2 : Nat} {A1 A2 : Ab} (h1 : OutG ins used ok (fun N => ∃ B', o = some B' ∧ Upd A t B' N) A (fun N => putA A N) k1 A1) (h2 : OutG ins used ok (fun N => ∃ B', o = some B' ∧ Upd A t B' N) A (fun N => putA A N) k2 A2) : k1 = k2 ∧ A1 = A2 := OutG.det (fun a b ha hb => by
  obtain ⟨B1, e1, u1⟩ := ha
  obtain ⟨B2, e2, u2⟩ := hb
  rw [e1] at e2
  cases e2
  exact upd_uniq hI u1 u2) h1 h2
theorem OutG.le {α : Type} {ins used ok : Prop} {o : α → Prop} {A : Ab} {mk : α → Ab} {k : Nat} {A1 : Ab} (h : OutG ins used ok o A mk k A1) : k ≤ 4 := by
  rcases h with ⟨e, _⟩ | ⟨e, _⟩ | ⟨e, _⟩ | ⟨e, _⟩ | ⟨e, _⟩ <;> omega
theorem rd_det {α β : Type} {ins : Prop} {a va : α} {b vb : β} {k1 k2 : Nat} (h1 : (k1 = 0 ∧ ins ∧ a = va) ∨ (k1 = 1 ∧ ¬ ins)) (h2 : (k2 = 0 ∧ ins ∧ b = vb) ∨ (k2 = 1 ∧ ¬ ins)) : (k1 = k2 ∧ k1 ≤ 4) ∧ (k1 = 0 → a = va ∧ b = vb) := by
  rcases h1 with ⟨e1, i1, q1⟩ | ⟨e1, i1⟩ <;> rcases h2 with ⟨e2, i2, q2⟩ | ⟨e2, i2⟩
  · exact ⟨⟨by omega, by omega⟩, fun _ => ⟨q1, q2⟩⟩
  · exact absurd i1 i2
  · exact absurd i2 i1
  · exact ⟨⟨by omega, by omega⟩, fun e => by omega⟩
theorem CS.frm {K : Cst} {g : Wd} {x : Nat} {A : Ab} {Y : Lt} {ch : Nat → Int32} {p : Nat → Nat} {N : Nat → Bg} (h : CS K g x A Y ch p N) {P : Nat → Prop} (hP : ∀ q, P q → ZN x A Y q) : CS (reF K (frm P g)) g x A Y ch p N := h.mv (fun _ _ q _ => q) (frm_sub P g) (fun q e z => hP q (frm_in z))
theorem RS.frm {K : Cst} {g : Wd} {m : Nat} {Q : Nat → Nat} {th oc fi : Int32} {F : Nat → Nat → Int32} (h : RS K g m Q th oc fi F) : RS (reF K (frm (fun q => ¬ isM m Q q) g)) g m Q th oc fi F := h.mv (fun _ _ q _ => q) (frm_sub _ _) (fun q e z => frm_in z)
/-- the class was called -/
theorem law_c {K : Cst} (hk : ∀ q, kF K q = none) {g g1 : Wd} {x m : Nat} {Q : Nat → Nat} {th oc fi : Int32} {F : Nat → Nat → Int32} (hS : RS K g m Q th oc fi F) {P : Nat → Prop} (hP2 : ∀ q, isM m Q q → P q) {A1 : Ab} {Y1 : Lt} {ch1 : Nat → Int32} {p1 : Nat → Nat} {N1 : Nat → Bg} (h1 : CS (reF K (frm P g)) g1 x A1 Y1 ch1 p1 N1) : CS K g1 x A1 Y1 ch1 p1 N1 ∧ RS K g1 m Q th oc fi F ∧ ∀ q, isM m Q q → ZN x A1 Y1 q := by
  have f1 := h1.fr
  refine ⟨h1.mv (F := kF K) (fun q d hq _ => hq) (fun q d hq => by rw [hk] at hq; cases hq) (fun q d hq => by rw [hk] at hq; cases hq), hS.mv (F := kF K) (fun q e hq hm => f1.1 q e (frm_get (hP2 q hm) hq)) (fun q d hq => by rw [hk] at hq; cases hq) (fun q d hq => by rw [hk] at hq; cases hq), fun q hm => ?_⟩
  obtain ⟨e, he, _⟩ := hS.at hm
  exact f1.2 q e (frm_get (hP2 q hm) he)
/-- the reference was called -/
theorem law_m {K : Cst} (hk : ∀ q, kF K q = none) {g1 g2 : Wd} {x m : Nat} {A1 : Ab} {Y1 : Lt} {ch1 : Nat → Int32} {p1 : Nat → Nat} {N1 : Nat → Bg} (hC : CS K g1 x A1 Y1 ch1 p1 N1) {Q : Nat → Nat} (hd : ∀ q, isM m Q q → ZN x A1 Y1 q) {Q2 : Nat → Nat} {th oc fi : Int32} {F : Nat → Nat → Int32} (h2 : RS (reF K (frm (fun q => ¬ isM m Q q) g1)) g2 m Q2 th oc fi F) : CS K g2 x A1 Y1 ch1 p1 N1 ∧ RS K g2 m Q2 th oc fi F ∧ (∀ q, isM m Q2 q → ZN x A1 Y1 q) ∧ ∀ q e, g1 q = some e → ¬ isM m Q q → g2 q = some e := by
  have keep : ∀ q e, g1 q = some e → ¬ isM m Q q → g2 q = some e := fun q e hq hn => h2.2.2.2.1 q e (frm_get (P := fun q => ¬ isM m Q q) hn hq)
  refine ⟨hC.mv (F := kF K) (fun q e hq hz => keep q e hq (fun hm => hz (hd q hm))) (fun q d hq => by rw [hk] at hq; cases hq) (fun q d hq => by rw [hk] at hq; cases hq), h2.mv (F := kF K) (fun q e hq _ => hq) (fun q d hq => by rw [hk] at hq; cases hq) (fun q d hq => by rw [hk] at hq; cases hq), fun q hm => Classical.byContradiction fun hz => ?_, keep⟩
  have hex : ∃ e, g1 q = some e := Classical.byContradiction fun hn => hz (hC.zn (fun e he => absurd ⟨e, he⟩ hn))
  obtain ⟨e, he⟩ := hex
  have h5 := h2.2.2.2.2 q e (frm_get (P := fun q => ¬ isM m Q q) (fun hm2 => hz (hd q hm2)) he)
  rcases hm with z | ⟨j, hj, z⟩
  · exact h5.1 z
  · exact h5.2 j hj z
theorem RS.noJ {K : Cst} {g : Wd} {m : Nat} {Q : Nat → Nat} {th oc fi : Int32} {F : Nat → Nat → Int32} (h : RS K g m Q th oc fi F) {o n : Nat} {f : Nat → Int64} (ho : g o = some (aJ K n f)) : ¬ isM m Q o := fun hm => by
  obtain ⟨e, he, hn⟩ := h.at hm
  rw [ho] at he
  cases he
  exact hn _ _ rfl
theorem CS.znJ {K : Cst} {g : Wd} {x : Nat} {A : Ab} {Y : Lt} {ch : Nat → Int32} {p : Nat → Nat} {N : Nat → Bg} (h : CS K g x A Y ch p N) {o n : Nat} {f : Nat → Int64} (ho : g o = some (aJ K n f)) : ZN x A Y o := h.zn (fun e he => by rw [ho] at he; cases he; exact ⟨_, _, rfl⟩)
theorem scr_cmp {i L : Nat} (hi : i ≤ 4000) (hL : L ≤ 4000) : (nI L - nI 7 < nI i) ↔ L < i + 7 := by
  rw [Int32.lt_iff_toInt_lt, Int32.toInt_sub, nI_toInt (by omega), nI_toInt (by omega), nI_toInt (by omega), Int.bmod_eq_of_le (by omega) (by omega)]
  omega
