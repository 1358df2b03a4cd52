section Rows3
variable {X : Cx} {cc : ByteArray} {own : String} {kc ks : Nat} {g : Wd} {pc : Nat} {lv lv' : List (Nat × Value)} {st rest : List Value}
theorem j_aload_nN (hX : OK X cc own) {i : Fin 4} (d : decode cc pc = .ok (.aload_n i, 1)) (j : Nat) (hj : lv[j]? = some ((i : Nat), .null)) (k : J X kc ks g (pc + 1) lv (.null :: st)) : J X kc ks g pc lv st := j_lift (fun _ _ _ _ _ hl k => lv_aload_nN hX.x hX.b d rfl (lv_at hl j hj) k) k
theorem j_aloadN (hX : OK X cc own) {i : Nat} (d : decode cc pc = .ok (.aload i, 2)) (j : Nat) (hj : lv[j]? = some (i, .null)) (k : J X kc ks g (pc + 2) lv (.null :: st)) : J X kc ks g pc lv st := j_lift (fun _ _ _ _ _ hl k => lv_aloadN hX.x hX.b d (lv_at hl j hj) k) k
theorem ne_fr {g : Wd} {a q : Nat} {e : va_E} (h : g a = some e) (hq : g q = none) : a ≠ q := fun z => by rw [z, hq] at h; cases h
end Rows3
