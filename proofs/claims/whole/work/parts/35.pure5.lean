/-! groups -/
def tog (by_ : Option Nat) (a b : Row) : Bool := match by_ with
  | none => true
  | some c => decide (cellR a c = cellR b c)
def rowG (L : Bg) (i : Nat) : Row := match L[i]? with
  | some x => x.1
  | none => (0, 0, 0, 0)
def tmG (L : Bg) (i : Nat) : Nat := match L[i]? with
  | some x => x.2
  | none => 0
theorem rowG_at {L : Bg} {i : Nat} (h : i < L.length) : rowG L i = (L[i]).1 := by unfold rowG; rw [List.getElem?_eq_getElem h]
theorem tmG_at {L : Bg} {i : Nat} (h : i < L.length) : tmG L i = (L[i]).2 := by unfold tmG; rw [List.getElem?_eq_getElem h]
def fstG (by_ : Option Nat) (L : Bg) (k : Nat) : Nat → Nat → Bool
  | 0, _ => true
  | m + 1, i => if tog by_ (rowG L i) (rowG L k) = true then false else fstG by_ L k m (i + 1)
def firstG (by_ : Option Nat) (L : Bg) (k : Nat) : Bool := fstG by_ L k k 0
def withR (st : Nat) (v cl often : Int32) : Int32 := match st with
  | 0 => v + often
  | 1 => v + cl * often
  | 2 => if cl < v then cl else v
  | _ => if v < cl then cl else v
def valG (by_ : Option Nat) (st c : Nat) (L : Bg) (f : Nat) : Nat → Nat → Int32 → Int32
  | 0, _, v => v
  | m + 1, k, v => valG by_ st c L f m (k + 1) (if tog by_ (rowG L f) (rowG L k) = true then withR st v (cellR (rowG L k) c) (nI (tmG L k)) else v)
def initG (st c : Nat) (L : Bg) (k : Nat) : Int32 := if st = 0 ∨ st = 1 then 0 else cellR (rowG L k) c
def valueG (by_ : Option Nat) (st c : Nat) (L : Bg) (k : Nat) : Int32 := valG by_ st c L k (L.length - k) k (initG st c L k)
def growG (by_ : Option Nat) (st c : Nat) (L : Bg) (k : Nat) : Row := match by_ with
  | none => (valueG by_ st c L k, 0, 0, 0)
  | some cb => (cellR (rowG L k) cb, valueG by_ st c L k, 0, 0)
def grF (by_ : Option Nat) (st c : Nat) (L : Bg) (k : Nat) : Option (Row × Int) := if firstG by_ L k = true then some (growG by_ st c L k, 1) else none
theorem gr_skip {by_ : Option Nat} {st c : Nat} {L : Bg} {B : Bg} {k : Nat} (hk : k < L.length) (h : ¬ firstG by_ L k = true) : fldB (grF by_ st c L) ((List.range L.length).drop k) B = fldB (grF by_ st c L) ((List.range L.length).drop (k + 1)) B :=
  fld_skip (by simpa using hk) (by rw [List.getElem_range]; exact if_neg h)
theorem gr_yes {by_ : Option Nat} {st c : Nat} {L : Bg} {B B' : Bg} {k : Nat} (hk : k < L.length) (h : firstG by_ L k = true) (ha : addB (growG by_ st c L k) 1 B = some B') : fldB (grF by_ st c L) ((List.range L.length).drop k) B = fldB (grF by_ st c L) ((List.range L.length).drop (k + 1)) B' :=
  fld_yes (q := (growG by_ st c L k, 1)) (by simpa using hk) (by rw [List.getElem_range]; exact if_pos h) ha
theorem gr_no {by_ : Option Nat} {st c : Nat} {L : Bg} {B : Bg} {k : Nat} (hk : k < L.length) (h : firstG by_ L k = true) (ha : addB (growG by_ st c L k) 1 B = none) : fldB (grF by_ st c L) ((List.range L.length).drop k) B = none :=
  fld_no (q := (growG by_ st c L k, 1)) (by simpa using hk) (by rw [List.getElem_range]; exact if_pos h) ha
theorem gr_end {by_ : Option Nat} {st c : Nat} {L : Bg} {B : Bg} {k : Nat} (hk : L.length ≤ k) : fldB (grF by_ st c L) ((List.range L.length).drop k) B = some B := fld_end (by simpa using hk)
/-- what a group's row keeps between the calls -/
def rowI (by_ : Option Nat) (rf : Nat → Int32) : Prop := rf 2 = 0 ∧ rf 3 = 0 ∧ (by_ = none → rf 1 = 0)
