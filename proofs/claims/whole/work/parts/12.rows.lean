section Rows
variable {X : Cx} {cc : ByteArray} {own : String} {kc ks : Nat} {g : Wd} {pc : Nat} {lv lv' : List (Nat × Value)} {st rest : List Value}
theorem j_lift {pc' : Nat} {st' : List Value} (h : ∀ (H : Heap) (locs : List Loc) (cells slots : Nat) (ls : Array Slot), lv_has ls (xn X) lv → WX X H locs cells slots (F0 (xm X) pc' ls st') → WX X H locs cells slots (F0 (xm X) pc ls st)) (k : J X kc ks g pc' lv st') : J X kc ks g pc lv st :=
  fun H locs cells slots ls h1 h2 h3 h4 => h H locs cells slots ls h4 (k H locs cells slots ls h1 h2 h3 h4)
theorem j_sub (js : List Nat) (hl : lv_pick lv js = lv') (k : J X kc ks g pc lv' st) : J X kc ks g pc lv st :=
  fun H locs cells slots ls h1 h2 h3 h4 => k H locs cells slots ls h1 h2 h3 (lv_sub h4 js hl)
theorem j_w {g' : Wd} (e : g = g') (k : J X kc ks g' pc lv st) : J X kc ks g pc lv st := e ▸ k
theorem j_more {kc' ks' : Nat} (h1 : kc ≤ kc') (h2 : ks ≤ ks') (k : J X kc' ks' g pc lv st) : J X kc ks g pc lv st :=
  fun H locs cells slots ls a1 a2 h3 h4 => k H locs cells slots ls (Nat.le_trans a1 h1) (Nat.le_trans a2 h2) h3 h4
theorem j_topi {x : Int32} (k : ∀ y : Int32, y = x → J X kc ks g pc lv (.int y :: rest)) : J X kc ks g pc lv (.int x :: rest) := k x rfl
theorem j_topl {x : Int64} (k : ∀ y : Int64, y = x → J X kc ks g pc lv (.long y :: rest)) : J X kc ks g pc lv (.long x :: rest) := k x rfl
theorem j_at {x y : Value} (e : x = y) (k : J X kc ks g pc lv (y :: rest)) : J X kc ks g pc lv (x :: rest) := by rw [e]; exact k
theorem j_eqi {x y : Int32} (e : x = y) (k : J X kc ks g pc lv (.int y :: rest)) : J X kc ks g pc lv (.int x :: rest) := by rw [e]; exact k
theorem j_eql {x y : Int64} (e : x = y) (k : J X kc ks g pc lv (.long y :: rest)) : J X kc ks g pc lv (.long x :: rest) := by rw [e]; exact k
theorem j_iconst (hX : OK X cc own) {n : Int} {v : Int32} (d : decode cc pc = .ok (.iconst n, 1)) (hv : Int32.ofInt n = v) (k : J X kc ks g (pc + 1) lv (.int v :: st)) : J X kc ks g pc lv (st) := j_lift (fun _ _ _ _ _ _ k => lv_iconst hX.x hX.b d hv k) k
theorem j_bipush (hX : OK X cc own) {n : Int} {v : Int32} (d : decode cc pc = .ok (.bipush n, 2)) (hv : (Int8.ofInt n).toInt32 = v) (k : J X kc ks g (pc + 2) lv (.int v :: st)) : J X kc ks g pc lv (st) := j_lift (fun _ _ _ _ _ _ k => lv_bipush hX.x hX.b d hv k) k
theorem j_sipush (hX : OK X cc own) {n : Int} {v : Int32} (d : decode cc pc = .ok (.sipush n, 3)) (hv : (Int16.ofInt n).toInt32 = v) (k : J X kc ks g (pc + 3) lv (.int v :: st)) : J X kc ks g pc lv (st) := j_lift (fun _ _ _ _ _ _ k => lv_sipush hX.x hX.b d hv k) k
theorem j_lconst (hX : OK X cc own) {n : Fin 2} {v : Int64} (d : decode cc pc = .ok (.lconst n, 1)) (hv : Int64.ofNat (n : Nat) = v) (k : J X kc ks g (pc + 1) lv (.long v :: st)) : J X kc ks g pc lv (st) := j_lift (fun _ _ _ _ _ _ k => lv_lconst hX.x hX.b d hv k) k
theorem j_null (hX : OK X cc own)  (d : decode cc pc = .ok (.aconst_null, 1)) (k : J X kc ks g (pc + 1) lv (.null :: st)) : J X kc ks g pc lv (st) := j_lift (fun _ _ _ _ _ _ k => lv_null hX.x hX.b d k) k
theorem j_iadd (hX : OK X cc own) {x y : Int32} (d : decode cc pc = .ok (.iadd, 1)) (k : J X kc ks g (pc + 1) lv (.int (x + y) :: rest)) : J X kc ks g pc lv (.int y :: .int x :: rest) := j_lift (fun _ _ _ _ _ _ k => lv_iadd hX.x hX.b d k) k
theorem j_isub (hX : OK X cc own) {x y : Int32} (d : decode cc pc = .ok (.isub, 1)) (k : J X kc ks g (pc + 1) lv (.int (x - y) :: rest)) : J X kc ks g pc lv (.int y :: .int x :: rest) := j_lift (fun _ _ _ _ _ _ k => lv_isub hX.x hX.b d k) k
theorem j_imul (hX : OK X cc own) {x y : Int32} (d : decode cc pc = .ok (.imul, 1)) (k : J X kc ks g (pc + 1) lv (.int (x * y) :: rest)) : J X kc ks g pc lv (.int y :: .int x :: rest) := j_lift (fun _ _ _ _ _ _ k => lv_imul hX.x hX.b d k) k
theorem j_iand (hX : OK X cc own) {x y : Int32} (d : decode cc pc = .ok (.iand, 1)) (k : J X kc ks g (pc + 1) lv (.int (x &&& y) :: rest)) : J X kc ks g pc lv (.int y :: .int x :: rest) := j_lift (fun _ _ _ _ _ _ k => lv_iand hX.x hX.b d k) k
theorem j_idiv (hX : OK X cc own) {x y : Int32} (d : decode cc pc = .ok (.idiv, 1)) (hne : ¬ y = 0) (k : J X kc ks g (pc + 1) lv (.int (x / y) :: rest)) : J X kc ks g pc lv (.int y :: .int x :: rest) := j_lift (fun _ _ _ _ _ _ k => lv_idiv hX.x hX.b d hne k) k
theorem j_ladd (hX : OK X cc own) {x y : Int64} (d : decode cc pc = .ok (.ladd, 1)) (k : J X kc ks g (pc + 1) lv (.long (x + y) :: rest)) : J X kc ks g pc lv (.long y :: .long x :: rest) := j_lift (fun _ _ _ _ _ _ k => lv_ladd hX.x hX.b d k) k
theorem j_lsub (hX : OK X cc own) {x y : Int64} (d : decode cc pc = .ok (.lsub, 1)) (k : J X kc ks g (pc + 1) lv (.long (x - y) :: rest)) : J X kc ks g pc lv (.long y :: .long x :: rest) := j_lift (fun _ _ _ _ _ _ k => lv_lsub hX.x hX.b d k) k
theorem j_lmul (hX : OK X cc own) {x y : Int64} (d : decode cc pc = .ok (.lmul, 1)) (k : J X kc ks g (pc + 1) lv (.long (x * y) :: rest)) : J X kc ks g pc lv (.long y :: .long x :: rest) := j_lift (fun _ _ _ _ _ _ k => lv_lmul hX.x hX.b d k) k
theorem j_i2l (hX : OK X cc own) {x : Int32} (d : decode cc pc = .ok (.i2l, 1)) (k : J X kc ks g (pc + 1) lv (.long x.toInt64 :: rest)) : J X kc ks g pc lv (.int x :: rest) := j_lift (fun _ _ _ _ _ _ k => lv_i2l hX.x hX.b d rfl k) k
theorem j_l2i (hX : OK X cc own) {x : Int64} (d : decode cc pc = .ok (.l2i, 1)) (k : J X kc ks g (pc + 1) lv (.int x.toInt32 :: rest)) : J X kc ks g pc lv (.long x :: rest) := j_lift (fun _ _ _ _ _ _ k => lv_l2i hX.x hX.b d rfl k) k
theorem j_lcmp (hX : OK X cc own) {x y : Int64} (d : decode cc pc = .ok (.lcmp, 1)) (k : J X kc ks g (pc + 1) lv (.int (lg_cmp x y) :: rest)) : J X kc ks g pc lv (.long y :: .long x :: rest) := j_lift (fun _ _ _ _ _ _ k => W.lcmp hX.x hX.b d k) k
theorem j_ineg (hX : OK X cc own) {x : Int32} (d : decode cc pc = .ok (.ineg, 1)) (k : J X kc ks g (pc + 1) lv (.int (-x) :: rest)) : J X kc ks g pc lv (.int x :: rest) := j_lift (fun _ _ _ _ _ _ k => lv_ineg hX.x hX.b d k) k
theorem j_dup (hX : OK X cc own) {v : Value} (d : decode cc pc = .ok (.dup, 1)) (hv : v.category = 1) (k : J X kc ks g (pc + 1) lv (v :: v :: rest)) : J X kc ks g pc lv (v :: rest) := j_lift (fun _ _ _ _ _ _ k => lv_dup hX.x hX.b d hv k) k
theorem j_dup2 (hX : OK X cc own) {va vb : Value} (d : decode cc pc = .ok (.dup2, 1)) (hva : va.category = 1) (hvb : vb.category = 1) (k : J X kc ks g (pc + 1) lv (va :: vb :: va :: vb :: rest)) : J X kc ks g pc lv (va :: vb :: rest) := j_lift (fun _ _ _ _ _ _ k => lv_dup2_11 hX.x hX.b d hva hvb k) k
theorem j_dupx1 (hX : OK X cc own) {va vb : Value} (d : decode cc pc = .ok (.dup_x1, 1)) (hva : va.category = 1) (hvb : vb.category = 1) (k : J X kc ks g (pc + 1) lv (va :: vb :: va :: rest)) : J X kc ks g pc lv (va :: vb :: rest) := j_lift (fun _ _ _ _ _ _ k => lv_dup_x1 hX.x hX.b d hva hvb k) k
theorem j_pop (hX : OK X cc own) {v : Value} (d : decode cc pc = .ok (.pop, 1)) (hv : v.category = 1) (k : J X kc ks g (pc + 1) lv rest) : J X kc ks g pc lv (v :: rest) := j_lift (fun _ _ _ _ _ _ k => lv_pop hX.x hX.b d hv k) k
theorem j_iload_n (hX : OK X cc own) {i : Fin 4} {x : Int32} (d : decode cc pc = .ok (.iload_n i, 1)) (j : Nat) (hj : lv[j]? = some ((i : Nat), .int x)) (k : J X kc ks g (pc + 1) lv (.int x :: st)) : J X kc ks g pc lv st := j_lift (fun _ _ _ _ _ hl k => lv_iload_n hX.x hX.b d rfl (lv_at hl j hj) k) k
theorem j_iload (hX : OK X cc own) {i : Nat} {x : Int32} (d : decode cc pc = .ok (.iload i, 2)) (j : Nat) (hj : lv[j]? = some (i, .int x)) (k : J X kc ks g (pc + 2) lv (.int x :: st)) : J X kc ks g pc lv st := j_lift (fun _ _ _ _ _ hl k => lv_iload hX.x hX.b d (lv_at hl j hj) k) k
theorem j_lload_n (hX : OK X cc own) {i : Fin 4} {x : Int64} (d : decode cc pc = .ok (.lload_n i, 1)) (j : Nat) (hj : lv[j]? = some ((i : Nat), .long x)) (k : J X kc ks g (pc + 1) lv (.long x :: st)) : J X kc ks g pc lv st := j_lift (fun _ _ _ _ _ hl k => lv_lload_n hX.x hX.b d rfl (lv_at hl j hj) k) k
theorem j_lload (hX : OK X cc own) {i : Nat} {x : Int64} (d : decode cc pc = .ok (.lload i, 2)) (j : Nat) (hj : lv[j]? = some (i, .long x)) (k : J X kc ks g (pc + 2) lv (.long x :: st)) : J X kc ks g pc lv st := j_lift (fun _ _ _ _ _ hl k => lv_lload hX.x hX.b d (lv_at hl j hj) k) k
theorem j_aload_n (hX : OK X cc own) {i : Fin 4} {x : Nat} (d : decode cc pc = .ok (.aload_n i, 1)) (j : Nat) (hj : lv[j]? = some ((i : Nat), .ref x)) (k : J X kc ks g (pc + 1) lv (.ref x :: st)) : J X kc ks g pc lv st := j_lift (fun _ _ _ _ _ hl k => lv_aload_n hX.x hX.b d rfl (lv_at hl j hj) k) k
theorem j_aload (hX : OK X cc own) {i : Nat} {x : Nat} (d : decode cc pc = .ok (.aload i, 2)) (j : Nat) (hj : lv[j]? = some (i, .ref x)) (k : J X kc ks g (pc + 2) lv (.ref x :: st)) : J X kc ks g pc lv st := j_lift (fun _ _ _ _ _ hl k => lv_aload hX.x hX.b d (lv_at hl j hj) k) k
theorem j_istore (hX : OK X cc own) {i : Nat} {x : Int32} (d : decode cc pc = .ok (.istore i, 2)) (hn : i < xn X) (hl : (i, Value.int x) :: lv.filter (fun q => !(q.1 == i) && !(q.1 + 1 == i && q.2.category == 2)) = lv') (k : J X kc ks g (pc + 2) lv' rest) : J X kc ks g pc lv (.int x :: rest) := fun H locs cells slots ls h1 h2 h3 h4 => lv_istore hX.x hX.b d h4 hn hl (fun ls' h5 => k H locs cells slots ls' h1 h2 h3 h5)
theorem j_istore_n (hX : OK X cc own) {i : Fin 4} {x : Int32} (d : decode cc pc = .ok (.istore_n i, 1)) (hn : (i : Nat) < xn X) (hl : ((i : Nat), Value.int x) :: lv.filter (fun q => !(q.1 == (i : Nat)) && !(q.1 + 1 == (i : Nat) && q.2.category == 2)) = lv') (k : J X kc ks g (pc + 1) lv' rest) : J X kc ks g pc lv (.int x :: rest) := fun H locs cells slots ls h1 h2 h3 h4 => lv_istore_n hX.x hX.b d rfl h4 hn hl (fun ls' h5 => k H locs cells slots ls' h1 h2 h3 h5)
theorem j_astore (hX : OK X cc own) {i : Nat} {x : Nat} (d : decode cc pc = .ok (.astore i, 2)) (hn : i < xn X) (hl : (i, Value.ref x) :: lv.filter (fun q => !(q.1 == i) && !(q.1 + 1 == i && q.2.category == 2)) = lv') (k : J X kc ks g (pc + 2) lv' rest) : J X kc ks g pc lv (.ref x :: rest) := fun H locs cells slots ls h1 h2 h3 h4 => lv_astore hX.x hX.b d h4 hn hl (fun ls' h5 => k H locs cells slots ls' h1 h2 h3 h5)
theorem j_astore_n (hX : OK X cc own) {i : Fin 4} {x : Nat} (d : decode cc pc = .ok (.astore_n i, 1)) (hn : (i : Nat) < xn X) (hl : ((i : Nat), Value.ref x) :: lv.filter (fun q => !(q.1 == (i : Nat)) && !(q.1 + 1 == (i : Nat) && q.2.category == 2)) = lv') (k : J X kc ks g (pc + 1) lv' rest) : J X kc ks g pc lv (.ref x :: rest) := fun H locs cells slots ls h1 h2 h3 h4 => lv_astore_n hX.x hX.b d rfl h4 hn hl (fun ls' h5 => k H locs cells slots ls' h1 h2 h3 h5)
theorem j_lstore (hX : OK X cc own) {i : Nat} {x : Int64} (d : decode cc pc = .ok (.lstore i, 2)) (hn : i + 1 < xn X) (hl : (i, Value.long x) :: lv.filter (fun q => !(q.1 == i) && (!(q.1 == i + 1) && !(q.1 + 1 == i && q.2.category == 2))) = lv') (k : J X kc ks g (pc + 2) lv' rest) : J X kc ks g pc lv (.long x :: rest) := fun H locs cells slots ls h1 h2 h3 h4 => lv_lstore hX.x hX.b d h4 hn hl (fun ls' h5 => k H locs cells slots ls' h1 h2 h3 h5)
theorem j_lstore_n (hX : OK X cc own) {i : Fin 4} {x : Int64} (d : decode cc pc = .ok (.lstore_n i, 1)) (hn : (i : Nat) + 1 < xn X) (hl : ((i : Nat), Value.long x) :: lv.filter (fun q => !(q.1 == (i : Nat)) && (!(q.1 == (i : Nat) + 1) && !(q.1 + 1 == (i : Nat) && q.2.category == 2))) = lv') (k : J X kc ks g (pc + 1) lv' rest) : J X kc ks g pc lv (.long x :: rest) := fun H locs cells slots ls h1 h2 h3 h4 => lv_lstore_n hX.x hX.b d rfl h4 hn hl (fun ls' h5 => k H locs cells slots ls' h1 h2 h3 h5)
theorem j_iinc (hX : OK X cc own) {i : Nat} {n : Int} {x v : Int32} (d : decode cc pc = .ok (.iinc i n, 3)) (j : Nat) (hj : lv[j]? = some (i, .int x)) (hv : x + Int32.ofInt n = v) (hn : i < xn X) (hl : (i, Value.int v) :: lv.filter (fun q => !(q.1 == i) && !(q.1 + 1 == i && q.2.category == 2)) = lv') (k : J X kc ks g (pc + 3) lv' st) : J X kc ks g pc lv st := fun H locs cells slots ls h1 h2 h3 h4 => lv_iinc hX.x hX.b d h4 hj hv hn hl (fun ls' h5 => k H locs cells slots ls' h1 h2 h3 h5)
theorem j_if_eq (hX : OK X cc own) {x : Int32} {off : Int} (tgt : Nat) (d : decode cc pc = .ok (.ifCond .eq off, 3)) (ht : (pc : Int) + off = (tgt : Int)) (kt : x = 0 → J X kc ks g tgt lv rest) (kf : ¬ x = 0 → J X kc ks g (pc + 3) lv rest) : J X kc ks g pc lv (.int x :: rest) := fun H locs cells slots ls h1 h2 h3 h4 => lv_if_eq hX.x hX.b d ht (fun c => kt c H locs cells slots ls h1 h2 h3 h4) (fun c => kf c H locs cells slots ls h1 h2 h3 h4)
theorem j_icmp_eq (hX : OK X cc own) {x y : Int32} {off : Int} (tgt : Nat) (d : decode cc pc = .ok (.if_icmp .eq off, 3)) (ht : (pc : Int) + off = (tgt : Int)) (kt : x = y → J X kc ks g tgt lv rest) (kf : ¬ x = y → J X kc ks g (pc + 3) lv rest) : J X kc ks g pc lv (.int y :: .int x :: rest) := fun H locs cells slots ls h1 h2 h3 h4 => lv_icmp_eq hX.x hX.b d ht (fun c => kt c H locs cells slots ls h1 h2 h3 h4) (fun c => kf c H locs cells slots ls h1 h2 h3 h4)
theorem j_if_ne (hX : OK X cc own) {x : Int32} {off : Int} (tgt : Nat) (d : decode cc pc = .ok (.ifCond .ne off, 3)) (ht : (pc : Int) + off = (tgt : Int)) (kt : ¬ x = 0 → J X kc ks g tgt lv rest) (kf : x = 0 → J X kc ks g (pc + 3) lv rest) : J X kc ks g pc lv (.int x :: rest) := fun H locs cells slots ls h1 h2 h3 h4 => lv_if_ne hX.x hX.b d ht (fun c => kt c H locs cells slots ls h1 h2 h3 h4) (fun c => kf c H locs cells slots ls h1 h2 h3 h4)
theorem j_icmp_ne (hX : OK X cc own) {x y : Int32} {off : Int} (tgt : Nat) (d : decode cc pc = .ok (.if_icmp .ne off, 3)) (ht : (pc : Int) + off = (tgt : Int)) (kt : ¬ x = y → J X kc ks g tgt lv rest) (kf : x = y → J X kc ks g (pc + 3) lv rest) : J X kc ks g pc lv (.int y :: .int x :: rest) := fun H locs cells slots ls h1 h2 h3 h4 => lv_icmp_ne hX.x hX.b d ht (fun c => kt c H locs cells slots ls h1 h2 h3 h4) (fun c => kf c H locs cells slots ls h1 h2 h3 h4)
theorem j_if_lt (hX : OK X cc own) {x : Int32} {off : Int} (tgt : Nat) (d : decode cc pc = .ok (.ifCond .lt off, 3)) (ht : (pc : Int) + off = (tgt : Int)) (kt : x < 0 → J X kc ks g tgt lv rest) (kf : ¬ x < 0 → J X kc ks g (pc + 3) lv rest) : J X kc ks g pc lv (.int x :: rest) := fun H locs cells slots ls h1 h2 h3 h4 => lv_if_lt hX.x hX.b d ht (fun c => kt c H locs cells slots ls h1 h2 h3 h4) (fun c => kf c H locs cells slots ls h1 h2 h3 h4)
theorem j_icmp_lt (hX : OK X cc own) {x y : Int32} {off : Int} (tgt : Nat) (d : decode cc pc = .ok (.if_icmp .lt off, 3)) (ht : (pc : Int) + off = (tgt : Int)) (kt : x < y → J X kc ks g tgt lv rest) (kf : ¬ x < y → J X kc ks g (pc + 3) lv rest) : J X kc ks g pc lv (.int y :: .int x :: rest) := fun H locs cells slots ls h1 h2 h3 h4 => lv_icmp_lt hX.x hX.b d ht (fun c => kt c H locs cells slots ls h1 h2 h3 h4) (fun c => kf c H locs cells slots ls h1 h2 h3 h4)
theorem j_if_ge (hX : OK X cc own) {x : Int32} {off : Int} (tgt : Nat) (d : decode cc pc = .ok (.ifCond .ge off, 3)) (ht : (pc : Int) + off = (tgt : Int)) (kt : 0 ≤ x → J X kc ks g tgt lv rest) (kf : ¬ 0 ≤ x → J X kc ks g (pc + 3) lv rest) : J X kc ks g pc lv (.int x :: rest) := fun H locs cells slots ls h1 h2 h3 h4 => lv_if_ge hX.x hX.b d ht (fun c => kt c H locs cells slots ls h1 h2 h3 h4) (fun c => kf c H locs cells slots ls h1 h2 h3 h4)
theorem j_icmp_ge (hX : OK X cc own) {x y : Int32} {off : Int} (tgt : Nat) (d : decode cc pc = .ok (.if_icmp .ge off, 3)) (ht : (pc : Int) + off = (tgt : Int)) (kt : y ≤ x → J X kc ks g tgt lv rest) (kf : ¬ y ≤ x → J X kc ks g (pc + 3) lv rest) : J X kc ks g pc lv (.int y :: .int x :: rest) := fun H locs cells slots ls h1 h2 h3 h4 => lv_icmp_ge hX.x hX.b d ht (fun c => kt c H locs cells slots ls h1 h2 h3 h4) (fun c => kf c H locs cells slots ls h1 h2 h3 h4)
theorem j_if_gt (hX : OK X cc own) {x : Int32} {off : Int} (tgt : Nat) (d : decode cc pc = .ok (.ifCond .gt off, 3)) (ht : (pc : Int) + off = (tgt : Int)) (kt : 0 < x → J X kc ks g tgt lv rest) (kf : ¬ 0 < x → J X kc ks g (pc + 3) lv rest) : J X kc ks g pc lv (.int x :: rest) := fun H locs cells slots ls h1 h2 h3 h4 => lv_if_gt hX.x hX.b d ht (fun c => kt c H locs cells slots ls h1 h2 h3 h4) (fun c => kf c H locs cells slots ls h1 h2 h3 h4)
theorem j_icmp_gt (hX : OK X cc own) {x y : Int32} {off : Int} (tgt : Nat) (d : decode cc pc = .ok (.if_icmp .gt off, 3)) (ht : (pc : Int) + off = (tgt : Int)) (kt : y < x → J X kc ks g tgt lv rest) (kf : ¬ y < x → J X kc ks g (pc + 3) lv rest) : J X kc ks g pc lv (.int y :: .int x :: rest) := fun H locs cells slots ls h1 h2 h3 h4 => lv_icmp_gt hX.x hX.b d ht (fun c => kt c H locs cells slots ls h1 h2 h3 h4) (fun c => kf c H locs cells slots ls h1 h2 h3 h4)
theorem j_if_le (hX : OK X cc own) {x : Int32} {off : Int} (tgt : Nat) (d : decode cc pc = .ok (.ifCond .le off, 3)) (ht : (pc : Int) + off = (tgt : Int)) (kt : x ≤ 0 → J X kc ks g tgt lv rest) (kf : ¬ x ≤ 0 → J X kc ks g (pc + 3) lv rest) : J X kc ks g pc lv (.int x :: rest) := fun H locs cells slots ls h1 h2 h3 h4 => lv_if_le hX.x hX.b d ht (fun c => kt c H locs cells slots ls h1 h2 h3 h4) (fun c => kf c H locs cells slots ls h1 h2 h3 h4)
theorem j_icmp_le (hX : OK X cc own) {x y : Int32} {off : Int} (tgt : Nat) (d : decode cc pc = .ok (.if_icmp .le off, 3)) (ht : (pc : Int) + off = (tgt : Int)) (kt : x ≤ y → J X kc ks g tgt lv rest) (kf : ¬ x ≤ y → J X kc ks g (pc + 3) lv rest) : J X kc ks g pc lv (.int y :: .int x :: rest) := fun H locs cells slots ls h1 h2 h3 h4 => lv_icmp_le hX.x hX.b d ht (fun c => kt c H locs cells slots ls h1 h2 h3 h4) (fun c => kf c H locs cells slots ls h1 h2 h3 h4)
theorem j_goto (hX : OK X cc own) {off : Int} (tgt : Nat) (d : decode cc pc = .ok (.goto off, 3)) (ht : (pc : Int) + off = (tgt : Int)) (k : J X kc ks g tgt lv st) : J X kc ks g pc lv st := j_lift (fun _ _ _ _ _ _ k => lv_goto hX.x hX.b d ht k) k
theorem j_ifnull_r (hX : OK X cc own) {x : Nat} {off : Int} (d : decode cc pc = .ok (.ifnull off, 3)) (k : J X kc ks g (pc + 3) lv rest) : J X kc ks g pc lv (.ref x :: rest) := j_lift (fun _ _ _ _ _ _ k => lv_ifnull hX.x hX.b d k) k
theorem j_ifnull_n (hX : OK X cc own) {off : Int} (tgt : Nat) (d : decode cc pc = .ok (.ifnull off, 3)) (ht : (pc : Int) + off = (tgt : Int)) (k : J X kc ks g tgt lv rest) : J X kc ks g pc lv (.null :: rest) := j_lift (fun _ _ _ _ _ _ k => lv_ifnullN hX.x hX.b d ht k) k
theorem j_ifnonnull_r (hX : OK X cc own) {x : Nat} {off : Int} (tgt : Nat) (d : decode cc pc = .ok (.ifnonnull off, 3)) (ht : (pc : Int) + off = (tgt : Int)) (k : J X kc ks g tgt lv rest) : J X kc ks g pc lv (.ref x :: rest) := j_lift (fun _ _ _ _ _ _ k => lv_ifnonnull hX.x hX.b d ht k) k
theorem j_ifnonnull_n (hX : OK X cc own) {off : Int} (d : decode cc pc = .ok (.ifnonnull off, 3)) (k : J X kc ks g (pc + 3) lv rest) : J X kc ks g pc lv (.null :: rest) := j_lift (fun _ _ _ _ _ _ k => lv_ifnonnullN hX.x hX.b d k) k
theorem j_acmp_ne (hX : OK X cc own) {x y : Nat} {off : Int} (tgt : Nat) (d : decode cc pc = .ok (.if_acmp .ne off, 3)) (ht : (pc : Int) + off = (tgt : Int)) (kt : ¬ x = y → J X kc ks g tgt lv rest) (kf : x = y → J X kc ks g (pc + 3) lv rest) : J X kc ks g pc lv (.ref y :: .ref x :: rest) := fun H locs cells slots ls h1 h2 h3 h4 => lv_acmp_ne (rx := some x) (ry := some y) hX.x hX.b d ht (fun c => kt (fun e => c (by rw [e])) H locs cells slots ls h1 h2 h3 h4) (fun c => kf (Option.some.inj c) H locs cells slots ls h1 h2 h3 h4)
theorem j_acmp_eq (hX : OK X cc own) {x y : Nat} {off : Int} (tgt : Nat) (d : decode cc pc = .ok (.if_acmp .eq off, 3)) (ht : (pc : Int) + off = (tgt : Int)) (kt : x = y → J X kc ks g tgt lv rest) (kf : ¬ x = y → J X kc ks g (pc + 3) lv rest) : J X kc ks g pc lv (.ref y :: .ref x :: rest) := fun H locs cells slots ls h1 h2 h3 h4 => lv_acmp_eq (rx := some x) (ry := some y) hX.x hX.b d ht (fun c => kt (Option.some.inj c) H locs cells slots ls h1 h2 h3 h4) (fun c => kf (fun e => c (by rw [e])) H locs cells slots ls h1 h2 h3 h4)
theorem j_ldc (hX : OK X cc own) {idx : Nat} {v : Int32} (wk : Cond.constant own idx v ∈ wsL_law) (d : decode cc pc = .ok (.ldc idx, 2)) (k : J X kc ks g (pc + 2) lv (.int v :: st)) : J X kc ks g pc lv st := j_lift (fun _ _ _ _ _ _ k => lv_ldc hX.x hX.b hX.ow (hX.ts _ wk) d k) k
theorem j_ldc2 (hX : OK X cc own) {idx : Nat} {v : Int64} (wk : Cond.constantLong own idx v ∈ wsL_law) (d : decode cc pc = .ok (.ldc2_w idx, 3)) (k : J X kc ks g (pc + 3) lv (.long v :: st)) : J X kc ks g pc lv st := j_lift (fun _ _ _ _ _ _ k => lv_ldc2 hX.x hX.b hX.ow (hX.ts _ wk) d k) k
theorem j_get (hX : OK X cc own) {ref C : String} {T : u_T} {N ci idx a : Nat} {fs : List Value} {v : Value} (hg : g a = some (ob ci fs)) (hc : vwCl[ci]? = some (C, T, N)) (wf : ∀ w ∈ u_ws C T N, w ∈ wsL_law) (i : Nat) (hi : i < N) (wk : Cond.fieldLink own idx ref (T i).2.1 (T i).2.2.1 ∈ wsL_law) (hsame : ∀ x, (xs X).fieldFound? (T i).1 (T i).2.1 (T i).2.2.1 = some x → (xs X).fieldFound? ref (T i).2.1 (T i).2.2.1 = some x) (hv : fs[i]? = some v) (d : decode cc pc = .ok (.getfield idx, 3))
    (k : J X kc ks g (pc + 3) lv (v :: rest)) : J X kc ks g pc lv (.ref a :: rest) := fun H locs cells slots ls h1 h2 h3 h4 =>
  va_get hX.x hX.b hX.ts wf hX.ow hX.K (h3.1.one hg) 0 rfl hc i hi (hX.ts _ wk) hsame hv d (k H locs cells slots ls h1 h2 h3 h4)
theorem j_getN (hX : OK X cc own) {ref C host : String} {T : u_T} {N ci idx a : Nat} {fs : List Value} {v : Value} (hg : g a = some (ob ci fs)) (hc : vwCl[ci]? = some (C, T, N)) (wf : ∀ w ∈ u_ws C T N, w ∈ wsL_law) (i : Nat) (hi : i < N) (wk : Cond.fieldLinkNest own idx ref (T i).2.1 (T i).2.2.1 host ∈ nestW) (hsame : ∀ x, (xs X).fieldFound? (T i).1 (T i).2.1 (T i).2.2.1 = some x → (xs X).fieldFound? ref (T i).2.1 (T i).2.2.1 = some x) (hv : fs[i]? = some v) (d : decode cc pc = .ok (.getfield idx, 3))
    (k : J X kc ks g (pc + 3) lv (v :: rest)) : J X kc ks g pc lv (.ref a :: rest) := fun H locs cells slots ls h1 h2 h3 h4 =>
  va_getN hX.x hX.b hX.ts wf hX.ow hX.K (h3.1.one hg) 0 rfl hc i hi (va_Nw.use rfl (hX.N _ wk)) hsame hv d (k H locs cells slots ls h1 h2 h3 h4)
theorem hs_put {X : Cx} {g : Wd} {H H1 : Heap} {locs : List Loc} {a i : Nat} {e0 e : va_E} (h : Hs X g H locs) (hg : g a = some e0) (he : va_at (kD (xK X)) vwCl (a, e) H1) (z : H1.size = H.size) (oq : ∀ q : Nat, q ≠ a → H1[q]? = H[q]?) : Hs X (up g a e) H1 (locs ++ [⟨a, i⟩]) :=
  ⟨h.1.put he oq, h.2.1.put (h.2.1 a e0 hg), h.2.2.put z oq (h.2.1 a e0 hg)⟩
theorem j_put (hX : OK X cc own) {ref C : String} {T : u_T} {N ci idx a : Nat} {fs : List Value} {v : Value} {ty0 : Nat → FieldType} {ty : FieldType} (hg : g a = some (ob ci fs)) (hc : vwCl[ci]? = some (C, T, N)) (wf : ∀ w ∈ u_ws C T N, w ∈ wsL_law) (hty : ∀ k, k < N → parseFieldDescriptor (T k).2.2.1 = some (ty0 k)) (hnm : ∀ a, a < N → ∀ b, b < N → a ≠ b → (T a).2.1 ≠ (T b).2.1) (i : Nat) (hi : i < N) (wk : Cond.fieldLink own idx ref (T i).2.1 (T i).2.2.1 ∈ wsL_law) (hsame : ∀ x, (xs X).fieldFound? (T i).1 (T i).2.1 (T i).2.2.1 = some x → (xs X).fieldFound? ref (T i).2.1 (T i).2.2.1 = some x)
    (hfin : (T i).2.2.2 = false) (hd : parseFieldDescriptor (T i).2.2.1 = some ty) (hn : narrow ty v = v) (hfit : fits ty v = true) (hl : i < fs.length) (d : decode cc pc = .ok (.putfield idx, 3)) (k : J X kc ks (up g a (ob ci (fs.set i v))) (pc + 3) lv rest) : J X kc ks g pc lv (v :: .ref a :: rest) := by
  intro H locs cells slots ls h1 h2 h3 h4
  have hap := va_apart (own := own) hX.ts wf ty0 hty hnm hX.K hc
  obtain ⟨r, hr1, cell, q1, q2, q3, q4⟩ := h3.1 a _ hg
  have hr : r = (C, T, N) := Option.some.inj (hr1.symm.trans hc)
  subst hr
  obtain ⟨hS, hfc, kC, hkC, hkind⟩ := hX.K.1 ci _ hc
  obtain ⟨cf, kf, fi, f, hi9, hsl⟩ := hS i hi
  have hlay := hX.ts _ (wf _ (u_in_lay hi))
  unfold u_lay at hlay
  rw [if_neg (by rw [hfin]; decide)] at hlay
  have hst := (u_facts hfc hkC (u_lays hX.ts wf hi) hi9).1
  have h6 := u_store hfc hkC hkind hlay hi9 hd hn hfit
  refine W.putK hX.x hX.b (f := f) ⟨hX.ow, hX.ts _ wk, ⟨_, _, _, hsame _ hi9⟩, hst⟩ (by rw [q2]; exact h6) q1 q3 (by rw [hsl]; exact k2_hasslot (q4 i hi)) rfl rfl d fun H' e1 e2 e3 => ?_
  rw [hsl] at e1 ⊢
  exact k H' _ cells slots ls h1 h2 (hs_put h3 hg ⟨_, hc, t_OB.to (V := updV (vp_V fs) i v) ⟨_, e1, q2, q3, t_set q4 hap hi v⟩ (fun j _ => vp_updV_set hl v j)⟩ e2 e3) h4
theorem j_putN (hX : OK X cc own) {ref C host : String} {T : u_T} {N ci idx a : Nat} {fs : List Value} {v : Value} {ty0 : Nat → FieldType} {ty : FieldType} (hg : g a = some (ob ci fs)) (hc : vwCl[ci]? = some (C, T, N)) (wf : ∀ w ∈ u_ws C T N, w ∈ wsL_law) (hty : ∀ k, k < N → parseFieldDescriptor (T k).2.2.1 = some (ty0 k)) (hnm : ∀ a, a < N → ∀ b, b < N → a ≠ b → (T a).2.1 ≠ (T b).2.1) (i : Nat) (hi : i < N) (wk : Cond.fieldLinkNest own idx ref (T i).2.1 (T i).2.2.1 host ∈ nestW) (hsame : ∀ x, (xs X).fieldFound? (T i).1 (T i).2.1 (T i).2.2.1 = some x → (xs X).fieldFound? ref (T i).2.1 (T i).2.2.1 = some x)
    (hfin : (T i).2.2.2 = false) (hd : parseFieldDescriptor (T i).2.2.1 = some ty) (hn : narrow ty v = v) (hfit : fits ty v = true) (hl : i < fs.length) (d : decode cc pc = .ok (.putfield idx, 3)) (k : J X kc ks (up g a (ob ci (fs.set i v))) (pc + 3) lv rest) : J X kc ks g pc lv (v :: .ref a :: rest) := by
  intro H locs cells slots ls h1 h2 h3 h4
  have hap := va_apart (own := own) hX.ts wf ty0 hty hnm hX.K hc
  obtain ⟨r, hr1, cell, q1, q2, q3, q4⟩ := h3.1 a _ hg
  have hr : r = (C, T, N) := Option.some.inj (hr1.symm.trans hc)
  subst hr
  obtain ⟨hS, hfc, kC, hkC, hkind⟩ := hX.K.1 ci _ hc
  obtain ⟨cf, kf, fi, f, hi9, hsl⟩ := hS i hi
  have hlay := hX.ts _ (wf _ (u_in_lay hi))
  unfold u_lay at hlay
  rw [if_neg (by rw [hfin]; decide)] at hlay
  have hst := (u_facts hfc hkC (u_lays hX.ts wf hi) hi9).1
  have h6 := u_store hfc hkC hkind hlay hi9 hd hn hfit
  refine va_WputK hX.x hX.b (f := f) hX.ow (va_Nw.use rfl (hX.N _ wk)) (hsame _ hi9) hst (by rw [q2]; exact h6) q1 q3 (by rw [hsl]; exact k2_hasslot (q4 i hi)) rfl rfl d fun H' e1 e2 e3 => ?_
  rw [hsl] at e1 ⊢
  exact k H' _ cells slots ls h1 h2 (hs_put h3 hg ⟨_, hc, t_OB.to (V := updV (vp_V fs) i v) ⟨_, e1, q2, q3, t_set q4 hap hi v⟩ (fun j _ => vp_updV_set hl v j)⟩ e2 e3) h4
theorem j_putF (hX : OK X cc own) (hinit : (xmeth X).name = "<init>") {ref C : String} {T : u_T} {N ci idx a : Nat} {fs : List Value} {v : Value} {ty0 : Nat → FieldType} {ty : FieldType} (hg : g a = some (ob ci fs)) (hc : vwCl[ci]? = some (C, T, N)) (wf : ∀ w ∈ u_ws C T N, w ∈ wsL_law) (hty : ∀ k, k < N → parseFieldDescriptor (T k).2.2.1 = some (ty0 k)) (hnm : ∀ a, a < N → ∀ b, b < N → a ≠ b → (T a).2.1 ≠ (T b).2.1) (i : Nat) (hi : i < N) (wk : Cond.fieldLink own idx ref (T i).2.1 (T i).2.2.1 ∈ wsL_law) (hsame : ∀ x, (xs X).fieldFound? (T i).1 (T i).2.1 (T i).2.2.1 = some x → (xs X).fieldFound? ref (T i).2.1 (T i).2.2.1 = some x)
    (hfin : (T i).2.2.2 = true) (hdecl : (T i).1 = own) (hd : parseFieldDescriptor (T i).2.2.1 = some ty) (hn : narrow ty v = v) (hfit : fits ty v = true) (hl : i < fs.length) (d : decode cc pc = .ok (.putfield idx, 3)) (k : J X kc ks (up g a (ob ci (fs.set i v))) (pc + 3) lv rest) : J X kc ks g pc lv (v :: .ref a :: rest) := by
  intro H locs cells slots ls h1 h2 h3 h4
  have hap := va_apart (own := own) hX.ts wf ty0 hty hnm hX.K hc
  obtain ⟨r, hr1, cell, q1, q2, q3, q4⟩ := h3.1 a _ hg
  have hr : r = (C, T, N) := Option.some.inj (hr1.symm.trans hc)
  subst hr
  obtain ⟨hS, hfc, kC, hkC, hkind⟩ := hX.K.1 ci _ hc
  obtain ⟨cf, kf, fi, f, hi9, hsl⟩ := hS i hi
  have hlay := hX.ts _ (wf _ (u_in_lay hi))
  unfold u_lay at hlay
  rw [if_pos hfin] at hlay
  have hst := (u_facts hfc hkC (u_lays hX.ts wf hi) hi9).1
  have hcf : (xm X).cls = cf := by
    obtain ⟨_, _, c', _, _, _, -, -, hf', -, -, -, hown2, -⟩ := Cond.laysFinal_spec hlay
    have e1 : c' = cf := by have := hi9.symm.trans hf'; simp at this; exact this.1.symm
    rw [hdecl] at hown2
    rw [← e1]; exact Option.some.inj (hX.ow.symm.trans hown2)
  have h6 := u_fits hfc hkC hkind (Or.inr hlay) hi9 hd hn hfit
  refine W.putFinK hX.x hX.b hX.ow (hX.ts _ wk) (hsame _ hi9) hst hcf hinit (by rw [q2]; exact h6) q1 q3 (by rw [hsl]; exact k2_hasslot (q4 i hi)) rfl rfl d fun H' e1 e2 e3 => ?_
  rw [hsl] at e1 ⊢
  exact k H' _ cells slots ls h1 h2 (hs_put h3 hg ⟨_, hc, t_OB.to (V := updV (vp_V fs) i v) ⟨_, e1, q2, q3, t_set q4 hap hi v⟩ (fun j _ => vp_updV_set hl v j)⟩ e2 e3) h4
theorem j_iald (hX : OK X cc own) {a n : Nat} {f : Nat → Int32} (hg : g a = some (aI (xK X) n f)) {i : Int32} (hin : vp_in i n) (d : decode cc pc = .ok (.iaload, 1)) (k : J X kc ks g (pc + 1) lv (.int (f i.toNatClampNeg) :: rest)) : J X kc ks g pc lv (.int i :: .ref a :: rest) := fun H locs cells slots ls h1 h2 h3 h4 =>
  va_iald hX.x hX.b hX.K (h3.1.one hg) 0 0 rfl rfl hin d (k H locs cells slots ls h1 h2 h3 h4)
theorem j_zald (hX : OK X cc own) {a n : Nat} {f : Nat → Int32} (hg : g a = some (aZ (xK X) n f)) {i : Int32} (hin : vp_in i n) (d : decode cc pc = .ok (.baload, 1)) (k : J X kc ks g (pc + 1) lv (.int (f i.toNatClampNeg) :: rest)) : J X kc ks g pc lv (.int i :: .ref a :: rest) := fun H locs cells slots ls h1 h2 h3 h4 =>
  va_zald hX.x hX.b hX.K (h3.1.one hg) 0 1 rfl rfl hin d (k H locs cells slots ls h1 h2 h3 h4)
theorem j_lald (hX : OK X cc own) {a n : Nat} {f : Nat → Int64} (hg : g a = some (aJ (xK X) n f)) {i : Int32} (hin : vp_in i n) (d : decode cc pc = .ok (.laload, 1)) (k : J X kc ks g (pc + 1) lv (.long (f i.toNatClampNeg) :: rest)) : J X kc ks g pc lv (.int i :: .ref a :: rest) := fun H locs cells slots ls h1 h2 h3 h4 =>
  va_lald hX.x hX.b hX.K (h3.1.one hg) 0 3 rfl rfl hin d (k H locs cells slots ls h1 h2 h3 h4)
theorem j_aald (hX : OK X cc own) {a n : Nat} {f : Nat → Option Nat} (hg : g a = some (aQ (xK X) n f)) {i : Int32} (hin : vp_in i n) (d : decode cc pc = .ok (.aaload, 1)) (k : J X kc ks g (pc + 1) lv (va_rf (f i.toNatClampNeg) :: rest)) : J X kc ks g pc lv (.int i :: .ref a :: rest) := fun H locs cells slots ls h1 h2 h3 h4 =>
  va_aldq hX.x hX.b hX.K (h3.1.one hg) 0 2 rfl rfl hin d (k H locs cells slots ls h1 h2 h3 h4)
theorem j_alenI (hX : OK X cc own) {a n : Nat} {f : Nat → Int32} (hg : g a = some (aI (xK X) n f)) (d : decode cc pc = .ok (.arraylength, 1)) (k : J X kc ks g (pc + 1) lv (.int (nI n) :: rest)) : J X kc ks g pc lv (.ref a :: rest) := fun H locs cells slots ls h1 h2 h3 h4 =>
  va_alen hX.x hX.b hX.K (h3.1.one hg) 0 0 rfl rfl rfl d (k H locs cells slots ls h1 h2 h3 h4)
theorem j_alenQ (hX : OK X cc own) {a n : Nat} {f : Nat → Option Nat} (hg : g a = some (aQ (xK X) n f)) (d : decode cc pc = .ok (.arraylength, 1)) (k : J X kc ks g (pc + 1) lv (.int (nI n) :: rest)) : J X kc ks g pc lv (.ref a :: rest) := fun H locs cells slots ls h1 h2 h3 h4 =>
  va_alen hX.x hX.b hX.K (h3.1.one hg) 0 2 rfl rfl rfl d (k H locs cells slots ls h1 h2 h3 h4)
theorem j_iast (hX : OK X cc own) {a n : Nat} {f : Nat → Int32} (hg : g a = some (aI (xK X) n f)) {i x : Int32} (hin : vp_in i n) (d : decode cc pc = .ok (.iastore, 1)) (k : J X kc ks (up g a (aI (xK X) n (upd f i.toNatClampNeg x))) (pc + 1) lv rest) : J X kc ks g pc lv (.int x :: .int i :: .ref a :: rest) := by
  intro H locs cells slots ls h1 h2 h3 h4
  refine W.iast hX.x hX.b (h3.1 a _ hg) ((hX.K.2 0 _ rfl).1 n (fun j => .int (f j))) (fun q => by cases q) (by show ¬ (i < 0 ∨ (arrV _ _ _).slots.size ≤ _); rw [arrV_size]; exact hin) rfl rfl d fun H1 e z oq => ?_
  refine k H1 _ cells slots ls h1 h2 (hs_put h3 hg ?_ z oq) h4
  show H1[a]? = some (vp_cell _ _)
  rw [e]
  rw [vp_cell_i, vp_cell_i, arrV_store]
  congr 2
  funext q
  by_cases hq : q = i.toNatClampNeg
  · subst hq; simp [updV, upd]
  · simp [updV, upd, hq]
theorem j_zast (hX : OK X cc own) {a n : Nat} {f : Nat → Int32} (hg : g a = some (aZ (xK X) n f)) {i x : Int32} (hin : vp_in i n) (d : decode cc pc = .ok (.bastore, 1)) (k : J X kc ks (up g a (aZ (xK X) n (upd f i.toNatClampNeg (vp_nar .boolean x)))) (pc + 1) lv rest) : J X kc ks g pc lv (.int x :: .int i :: .ref a :: rest) := by
  intro H locs cells slots ls h1 h2 h3 h4
  refine W.zast hX.x hX.b (h3.1 a _ hg) ((hX.K.2 1 _ rfl).1 n (fun j => .int (f j))) (fun q => by cases q) (by show ¬ (i < 0 ∨ (arrV _ _ _).slots.size ≤ _); rw [arrV_size]; exact hin) rfl rfl d fun H1 e z oq => ?_
  refine k H1 _ cells slots ls h1 h2 (hs_put h3 hg ?_ z oq) h4
  show H1[a]? = some (vp_cell _ _)
  rw [e]
  rw [vp_cell_i, vp_cell_i, arrV_store]
  congr 2
  funext q
  by_cases hq : q = i.toNatClampNeg
  · subst hq
    simp [updV, upd, vp_nar]
    try rfl
  · simp [updV, upd, hq]
theorem j_last (hX : OK X cc own) {a n : Nat} {f : Nat → Int64} (hg : g a = some (aJ (xK X) n f)) {i : Int32} {x : Int64} (hin : vp_in i n) (d : decode cc pc = .ok (.lastore, 1)) (k : J X kc ks (up g a (aJ (xK X) n (vp_updL f i.toNatClampNeg x))) (pc + 1) lv rest) : J X kc ks g pc lv (.long x :: .int i :: .ref a :: rest) := by
  intro H locs cells slots ls h1 h2 h3 h4
  refine W.last hX.x hX.b (h3.1 a _ hg) ((hX.K.2 3 _ rfl).1 n (fun j => .long (f j))) (fun q => by cases q) (by show ¬ (i < 0 ∨ (arrV _ _ _).slots.size ≤ _); rw [arrV_size]; exact hin) rfl rfl d fun H1 e z oq => ?_
  refine k H1 _ cells slots ls h1 h2 (hs_put h3 hg ?_ z oq) h4
  show H1[a]? = some (vp_cell _ _)
  rw [e]
  rw [vp_cell_l, vp_cell_l, arrV_store]
  congr 2
  funext q
  by_cases hq : q = i.toNatClampNeg
  · subst hq; simp [updV, vp_updL]
  · simp [updV, vp_updL, hq]
theorem j_ret {ret : Option FieldType} {Post : Option Value → Wd → Prop} {XP : String → Wd → Prop} {mc ms : Nat} {v : Option Value} (hE : EndX X ret Post XP mc ms) (hp : Post v g) (hc : kc ≤ mc) (hs : ks ≤ ms)
    (kk : ∀ (H : Heap) (locs : List Loc) (ls : Array Slot), (∀ t : State, t.heap = H → (xs X).WarmedH t.vm → QcW (xK X) Post (xargs X) (xs X) (.returned v) t) → (∀ q ∈ locs, kA (xK X) q.base) →
      W (xp X) (xl X) (xe X) (xR X) (xs X) (xm X) (xargs X) (xbelow X) (xmeth X) (xc X) H locs mc ms (MQ (xbelow X) (QcW (xK X) Post) (xargs X) (xs X) mc ms (kA (xK X))) (F0 (xm X) pc ls st)) : J X kc ks g pc lv st := by
  intro H locs cells slots ls h1 h2 h3 h4
  show W _ _ _ _ _ _ _ _ _ _ _ _ _ _ (xQ X) _
  rw [hE.1]
  refine vx_ret (W.widen (k := mc) (n := ms) (Nat.le_trans h1 hc) (Nat.le_trans h2 hs) ?_)
  exact kk H locs ls (fun t ht hW => ⟨⟨v, g, rfl, hp, by rw [ht]; exact h3.1, h3.2.1⟩, h3.2.2.F ht⟩) h3.2.2.2.2
theorem j_iret {Post : Option Value → Wd → Prop} {XP : String → Wd → Prop} {mc ms : Nat} {v : Int32} (hX : OK X cc own) (hE : EndX X (some .int) Post XP mc ms) (d : decode cc pc = .ok (.ireturn, 1)) (hp : Post (some (.int v)) g) (hc : kc ≤ mc) (hs : ks ≤ ms) : J X kc ks g pc lv [.int v] :=
  j_ret hE hp hc hs (fun _ _ _ hq hf => W.iret hX.x hX.b hE.2.1 hq hf d hX.locks)
theorem j_zret {Post : Option Value → Wd → Prop} {XP : String → Wd → Prop} {mc ms : Nat} {v : Int32} (hX : OK X cc own) (hE : EndX X (some .boolean) Post XP mc ms) (d : decode cc pc = .ok (.ireturn, 1)) (hn : narrow .boolean (.int v) = .int v) (hp : Post (some (.int v)) g) (hc : kc ≤ mc) (hs : ks ≤ ms) : J X kc ks g pc lv [.int v] :=
  j_ret hE hp hc hs (fun _ _ _ hq hf => W.zret hX.x hX.b hE.2.1 hn hq hf d hX.locks)
theorem j_lret {Post : Option Value → Wd → Prop} {XP : String → Wd → Prop} {mc ms : Nat} {v : Int64} (hX : OK X cc own) (hE : EndX X (some .long) Post XP mc ms) (d : decode cc pc = .ok (.lreturn, 1)) (hp : Post (some (.long v)) g) (hc : kc ≤ mc) (hs : ks ≤ ms) : J X kc ks g pc lv [.long v] :=
  j_ret hE hp hc hs (fun _ _ _ hq hf => W.lret hX.x hX.b hE.2.1 hq hf d hX.locks)
theorem j_vret {Post : Option Value → Wd → Prop} {XP : String → Wd → Prop} {mc ms : Nat} (hX : OK X cc own) (hE : EndX X none Post XP mc ms) (d : decode cc pc = .ok (.return_, 1)) (hp : Post none g) (hc : kc ≤ mc) (hs : ks ≤ ms) : J X kc ks g pc lv [] :=
  j_ret hE hp hc hs (fun _ _ _ hq hf => W.vret hX.x hX.b hE.2.1 hq hf d hX.locks)
theorem j_aret {Post : Option Value → Wd → Prop} {XP : String → Wd → Prop} {mc ms : Nat} {a : Nat} {C : String} (hX : OK X cc own) (hE : EndX X (some (.object C)) Post XP mc ms) (d : decode cc pc = .ok (.areturn, 1)) (hp : Post (some (.ref a)) g) (hc : kc ≤ mc) (hs : ks ≤ ms) : J X kc ks g pc lv [.ref a] :=
  j_ret hE hp hc hs (fun _ _ _ hq hf => W.aret hX.x hX.b hE.2.1 (Or.inl ⟨_, rfl⟩) (Or.inr ⟨_, rfl⟩) hq hf d hX.locks)
/-- an exception leaves the method -/
theorem jx_out {ret : Option FieldType} {Post : Option Value → Wd → Prop} {XP : String → Wd → Prop} {mc ms : Nat} {E : String} (hX : OK X cc own) (hE : EndX X ret Post XP mc ms) (hp : XP E g) (hc : kc ≤ mc) (hs : ks ≤ ms) : JX X kc ks g pc lv st E := by
  intro H locs cells slots ls q ce h1 h2 h3 h4 hq hv hcl
  rw [hE.1]
  exact vx_out (fun x hx => absurd hx (fun h => hE.2.2 x h)) hX.locks hq hv hcl (fun t ht _ => ⟨⟨g, hp, by rw [ht]; exact h3.1, h3.2.1⟩, h3.2.2.F ht⟩) h3.2.2.2.2 (Nat.le_trans h1 hc) (Nat.le_trans h2 hs)
theorem j_run {Post : Option Value → Wd → Prop} {XP : String → Wd → Prop} {mc ms : Nat} {av : Array Value}
    (hr : ∀ (H : Heap) (locs : List Loc) (cells slots : Nat) (ls : Array Slot), cells ≤ kc → slots ≤ ks → Hs X g H locs → lv_has ls (xn X) lv → vx_Run (xp X) (xl X) (xe X) (xR X) (xs X) (xm X) (xargs X) (xbelow X) (xmeth X) (xc X) H locs cells slots mc ms (F0 (xm X) pc ls st) rest (QcW (xK X) Post av) (XcW (xK X) XP) (kA (xK X)))
    (kx : ∀ E g', XP E g' → JX X (kc + mc) (ks + ms) g' pc lv rest E) (kk : ∀ v g', Post v g' → J X (kc + mc) (ks + ms) g' (pc + 3) lv (v.toList ++ rest)) : J X kc ks g pc lv st := by
  intro H locs cells slots ls h1 h2 h3 h4 T hT Y
  rcases hr H locs cells slots ls h1 h2 h3 h4 T hT Y with ⟨v, st₀, t, T', L, h0, X', hL, e1, e2, ⟨⟨v', g', hv, hp, hP, hA⟩, hF⟩, stp⟩ | ⟨q, st₀, t, T', L, E, ce, h0, X', hL, e1, e2, ⟨⟨g', hp, hP, hA⟩, hF⟩, hce, hcv, hcl, stp⟩
  · cases hv
    obtain ⟨k1, k2, k3⟩ := vx_keep h0 e1 h3.2.2 (fun _ _ h => h) (fun _ h => h) hL hF
    obtain ⟨t2, a1, b1⟩ := kk v g' hp T'.heap (locs ++ L) (cells + mc) (slots + ms) ls (by omega) (by omega) ⟨by rw [e1]; exact hP, hA, k3⟩ h4 T' rfl X'
    exact ⟨t2, stp t2 a1, b1⟩
  · obtain ⟨k1, k2, k3⟩ := vx_keep h0 e1 h3.2.2 (fun _ _ h => h) (fun _ h => h) hL hF
    obtain ⟨t2, a1, b1⟩ := kx E g' hp T'.heap (locs ++ L) (cells + mc) (slots + ms) ls q ce (by omega) (by omega) ⟨by rw [e1]; exact hP, hA, k3⟩ h4 (by rw [e1]; exact hce) hcv hcl T' rfl X'
    exact ⟨t2, stp.trans a1, b1⟩
theorem pre_w (hX : OK X cc own) {H : Heap} {locs : List Loc} (h3 : Hs X g H locs) {av : List Value} (U : State) (hU : U.heap = H) (hW : (xs X).WarmedH U.vm) : va_Pc av (PreW (xK X) g) av.toArray U :=
  ⟨rfl, StF.pass hW (by rw [hU]; exact h3.2.2) hX.F, by rw [hU]; exact h3.1, h3.2.1, Nat.le_trans hX.b0 (by rw [hU]; exact h3.2.2.1)⟩
theorem j_callV (hX : OK X cc own) {y : MethodName} {bytes : ByteArray} {n : Nat} {r : Option FieldType} {L a : Nat} {As : List Value} {Post : Option Value → Wd → Prop} {XP : String → Wd → Prop} {mc ms : Nat} (hC : Ct (xl X) (xK X) y bytes n r L (.ref a :: As) g Post XP mc ms)
    {ci idx N na : Nat} {fs : List Value} {C : String} {T : u_T} (hg : g a = some (ob ci fs)) (hc : vwCl[ci]? = some (C, T, N)) (wk : Cond.methodLink own idx y ∈ wsL_law) (wi : Cond.instanceMethod y ∈ wsL_law) (wv : Cond.selects C y y ∈ wsL_law) (wn : Cond.initialized C ∈ wsL_law) (wc : Cond.code y bytes n r ∈ wsL_law)
    (hd : y.cls = C ∧ y.cls ≠ "java/lang/invoke/MethodHandle" ∧ y.cls ≠ "java/lang/invoke/VarHandle" ∧ (parseMethodDescriptor y.desc).map (fun d => d.parameters.length) = some na) (hna : As.length = na) (hlev : L + 1 ≤ xlev X) (hn : n ≤ 13) (hst : st = As.reverse ++ .ref a :: rest) (hrest : (rest.map fun v => v.category).sum ≤ 8)
    (d : decode cc pc = .ok (.invokevirtual idx, 3)) (hcell : kc + mc ≤ (xR X).cells) (hslot : ks + ms ≤ (xR X).slots) (kx : ∀ E g', XP E g' → JX X (kc + mc) (ks + ms) g' pc lv rest E) (kk : ∀ v g', Post v g' → J X (kc + mc) (ks + ms) g' (pc + 3) lv (v.toList ++ rest)) : J X kc ks g pc lv st := by
  refine j_run (av := (Value.ref a :: As).toArray) (fun H locs cells slots ls h1 h2 h3 h4 => ?_) kx kk
  have hG : GoodIn wsL_law (wsV own idx C y (Cond.code y bytes n r :: wsL_law)) := wg_in (by unfold wsV; exact wg_c wk (wg_c wi (wg_c wv (wg_c wn (wg_c wc wg_s)))))
  have hro := hX.room
  exact vx_runV ⟨hX.x, hX.b, hX.ml, hX.ow, hX.ts⟩ hC (cwV na hX.ts hG rfl rfl rfl hd ⟨by show L + 1 ≤ _; omega, by show 8 + (n + 11) + 32 * L ≤ _; omega⟩) ⟨PreW.blind, va_recv hX.K (h3.1.one hg) (ci := ci) (q0 := 0) hc rfl, fun U hU hW => pre_w hX h3 U hU hW⟩ rfl hna h4.1 hst (lv_room hrest) d ⟨by omega, by omega⟩
theorem j_callS (hX : OK X cc own) {y : MethodName} {bytes : ByteArray} {n : Nat} {r : Option FieldType} {L : Nat} {As : List Value} {Post : Option Value → Wd → Prop} {XP : String → Wd → Prop} {mc ms : Nat} (hC : Ct (xl X) (xK X) y bytes n r L As g Post XP mc ms)
    {idx na : Nat} (wk : Cond.methodLink own idx y ∈ wsL_law) (wi : Cond.static y ∈ wsL_law) (wn : Cond.initialized own ∈ wsL_law) (wc : Cond.code y bytes n r ∈ wsL_law)
    (hd : y.cls = own ∧ y.cls ≠ "java/lang/invoke/MethodHandle" ∧ y.cls ≠ "java/lang/invoke/VarHandle" ∧ (parseMethodDescriptor y.desc).map (fun d => d.parameters.length) = some na) (hna : As.length = na) (hlev : L + 1 ≤ xlev X) (hn : n ≤ 13) (hst : st = As.reverse ++ rest) (hrest : (rest.map fun v => v.category).sum ≤ 8)
    (d : decode cc pc = .ok (.invokestatic idx, 3)) (hcell : kc + mc ≤ (xR X).cells) (hslot : ks + ms ≤ (xR X).slots) (kx : ∀ E g', XP E g' → JX X (kc + mc) (ks + ms) g' pc lv rest E) (kk : ∀ v g', Post v g' → J X (kc + mc) (ks + ms) g' (pc + 3) lv (v.toList ++ rest)) : J X kc ks g pc lv st := by
  refine j_run (av := As.toArray) (fun H locs cells slots ls h1 h2 h3 h4 => ?_) kx kk
  have hG : GoodIn wsL_law (wsS own idx y (Cond.code y bytes n r :: wsL_law)) := wg_in (by unfold wsS; exact wg_c wk (wg_c wi (wg_c wn (wg_c wc wg_s))))
  have hro := hX.room
  exact vx_runS ⟨hX.x, hX.b, hX.ml, hX.ow, hX.ts⟩ hC (cwS na hX.ts hG rfl rfl rfl hd ⟨by show L + 1 ≤ _; omega, by show 8 + (n + 11) + 32 * L ≤ _; omega⟩) ⟨PreW.blind, fun U hU hW => pre_w hX h3 U hU hW⟩ rfl hna h4.1 hst (lv_room hrest) d ⟨by omega, by omega⟩
/-- no exception: the second goal of a call falls away -/
theorem jx_no {mc ms : Nat} : ∀ (E : String) (g' : Wd), (fun (_ : String) (_ : Wd) => False) E g' → JX X mc ms g' pc lv rest E := fun _ _ h => h.elim
theorem j_copyi (hX : OK X cc own) {idx a0 a n0 n1 : Nat} {f h : Nat → Int32} (wk : Cond.methodLink own idx arraycopyName ∈ wsL_law) (hg0 : g a0 = some (aI (xK X) n0 f)) (hg1 : g a = some (aI (xK X) n1 h)) {sp dp n : Int32} (h1 : ¬ sp < 0) (h2 : ¬ dp < 0) (h3 : ¬ n < 0) (h4 : sp.toNatClampNeg + n.toNatClampNeg ≤ n0) (h5 : dp.toNatClampNeg + n.toNatClampNeg ≤ n1)
    (hlev : 1 ≤ xlev X) (hrest : (rest.map fun v => v.category).sum ≤ 4) (d : decode cc pc = .ok (.invokestatic idx, 3)) (k : J X kc ks (up g a (aI (xK X) n1 (va_cpy f h sp.toNatClampNeg dp.toNatClampNeg n.toNatClampNeg))) (pc + 3) lv rest) : J X kc ks g pc lv (.int n :: .int dp :: .ref a :: .int sp :: .ref a0 :: rest) := by
  intro H locs cells slots ls c1 c2 c3 c4
  have hro := hX.room
  intro T hT Y
  have nn : ∀ z : Int32, ¬ z < 0 → z.toInt = (z.toNatClampNeg : Int) := by
    intro z hz
    have hz0 : (0 : Int) ≤ z.toInt := by
      have := Int32.not_lt.mp hz
      simpa using Int32.le_iff_toInt_le.mp this
    show z.toInt = ((z.toInt.toNat : Nat) : Int)
    omega
  have hc0 : H[a0]? = some (vp_cell (kI (xK X)) (n0, .inl f)) := c3.1 a0 _ hg0
  have hc1 : H[a]? = some (vp_cell (kI (xK X)) (n1, .inl h)) := c3.1 a _ hg1
  obtain ⟨-, k0, hk0, cm0, hkk0⟩ := (hX.K.2 0 _ rfl).1 n0 (fun j => .int (f j))
  obtain ⟨-, k1, hk1, cm1, hkk1⟩ := (hX.K.2 0 _ rfl).1 n1 (fun j => .int (h j))
  obtain ⟨vm', Y', step⟩ := Y.arraycopy hX.x hX.ow (hX.ts _ wk) (hX.ts _ wz_8) (hX.ts _ wz_9) (hX.ts _ wN_System) (src := a0) (dst := a) (cs := vp_cell (kI (xK X)) (n0, .inl f)) (cd := vp_cell (kI (xK X)) (n1, .inl h)) (srcPos := sp) (destPos := dp) (n := n) (by rw [hT]; exact hc0) (by rw [hT]; exact hc1)
    (fun _ h => by cases h) (fun _ h => by cases h) (fun h => by cases h) (fun h => by cases h) hk0 hk1 hkk0 hkk1 (by simp [refKind]) h1 h2 h3
    (by rw [nn sp h1, nn n h3]; show ¬ _ > ((arrV _ n0 (fun j => .int (f j))).slots.size : Int); rw [arrV_size]; omega)
    (by rw [nn dp h2, nn n h3]; show ¬ _ > ((arrV _ n1 (fun j => .int (h j))).slots.size : Int); rw [arrV_size]; omega)
    (fun vm₁ _ i hi => by
      have e : (vp_cell (kI (xK X)) (n0, .inl f)).slots.getD (sp.toNatClampNeg + i) .null = .int (f (sp.toNatClampNeg + i)) := by
        show (arrV _ n0 (fun j => .int (f j))).slots.getD _ _ = _
        rw [Array.getD_eq_getD_getElem?, arrV_read _ _ (by omega)]
        rfl
      refine ⟨?_, ?_⟩
      · rw [e]; rfl
      · rw [e]
        exact trivial)
    (g := F0 (xm X) pc ls (.int n :: .int dp :: .ref a :: .int sp :: .ref a0 :: rest)) rfl (by rw [hX.ml]; exact c4.1) (rest := rest) rfl (by rw [hX.b]; exact d) (by omega) (by
      have hw : nativeFrameWords "java/lang/System" "arraycopy" 5 + 11 ≤ 28 := by decide +kernel
      show 2 * 0 + _ + _ ≤ _; omega)
  have e1 : copied (vp_cell (kI (xK X)) (n0, .inl f)) (vp_cell (kI (xK X)) (n1, .inl h)) sp dp n = vp_cell (kI (xK X)) (n1, .inl (va_cpy f h sp.toNatClampNeg dp.toNatClampNeg n.toNatClampNeg)) := va_copied (fun z => .int z) _ _ f h h4
  rw [e1] at Y' step
  have hl : a < H.size := (Array.getElem?_eq_some_iff.mp hc1).1
  have hheap : ((T.setVm vm').setCell a (vp_cell (kI (xK X)) (n1, .inl (va_cpy f h sp.toNatClampNeg dp.toNatClampNeg n.toNatClampNeg)))).heap = H.setIfInBounds a (vp_cell (kI (xK X)) (n1, .inl (va_cpy f h sp.toNatClampNeg dp.toNatClampNeg n.toNatClampNeg))) := by rw [← hT]; rfl
  have oq : ∀ q : Nat, q ≠ a → (H.setIfInBounds a (vp_cell (kI (xK X)) (n1, .inl (va_cpy f h sp.toNatClampNeg dp.toNatClampNeg n.toNatClampNeg))))[q]? = H[q]? := fun q hq => by simp [Array.getElem?_setIfInBounds, Ne.symm hq]
  obtain ⟨t, a1, b1⟩ := k _ _ cells slots ls c1 c2 ⟨c3.1.put (show (H.setIfInBounds a _)[a]? = some _ by simp [Array.getElem?_setIfInBounds, hl]) oq, c3.2.1.put (c3.2.1 a _ hg1), ⟨by simp; exact c3.2.2.1, fun q g1 g2 => by
      rw [oq q (fun e => g2 (by rw [e]; exact c3.2.1 a _ hg1))]
      exact c3.2.2.2.1 q g1 g2, fun q hq => by
      rcases List.mem_append.mp hq with h | h
      · exact c3.2.2.2.2 q h
      · obtain ⟨z, -, hz⟩ := List.mem_map.mp h
        rw [← hz]
        exact c3.2.1 a _ hg1⟩⟩ c4 _ hheap Y'
  exact ⟨t, step t a1, b1⟩
theorem j_ialdN (hX : OK X cc own) {a n : Nat} {f : Nat → Int32} (hg : g a = some (aI (xK X) n f)) {i : Int32} (m : Nat) (hi : i = nI m) (hm : m < n) (hn : n < 2 ^ 31) (d : decode cc pc = .ok (.iaload, 1)) (k : J X kc ks g (pc + 1) lv (.int (f m) :: rest)) : J X kc ks g pc lv (.int i :: .ref a :: rest) := by
  subst hi
  refine j_iald hX hg (vp_in_nI hm hn) d ?_
  rw [nI_clamp (Nat.lt_trans hm hn)]
  exact k
theorem j_zaldN (hX : OK X cc own) {a n : Nat} {f : Nat → Int32} (hg : g a = some (aZ (xK X) n f)) {i : Int32} (m : Nat) (hi : i = nI m) (hm : m < n) (hn : n < 2 ^ 31) (d : decode cc pc = .ok (.baload, 1)) (k : J X kc ks g (pc + 1) lv (.int (f m) :: rest)) : J X kc ks g pc lv (.int i :: .ref a :: rest) := by
  subst hi
  refine j_zald hX hg (vp_in_nI hm hn) d ?_
  rw [nI_clamp (Nat.lt_trans hm hn)]
  exact k
theorem j_laldN (hX : OK X cc own) {a n : Nat} {f : Nat → Int64} (hg : g a = some (aJ (xK X) n f)) {i : Int32} (m : Nat) (hi : i = nI m) (hm : m < n) (hn : n < 2 ^ 31) (d : decode cc pc = .ok (.laload, 1)) (k : J X kc ks g (pc + 1) lv (.long (f m) :: rest)) : J X kc ks g pc lv (.int i :: .ref a :: rest) := by
  subst hi
  refine j_lald hX hg (vp_in_nI hm hn) d ?_
  rw [nI_clamp (Nat.lt_trans hm hn)]
  exact k
theorem j_aaldN (hX : OK X cc own) {a n q : Nat} {f : Nat → Option Nat} (hg : g a = some (aQ (xK X) n f)) {i : Int32} (m : Nat) (hi : i = nI m) (hm : m < n) (hn : n < 2 ^ 31) (hq : f m = some q) (d : decode cc pc = .ok (.aaload, 1)) (k : J X kc ks g (pc + 1) lv (.ref q :: rest)) : J X kc ks g pc lv (.int i :: .ref a :: rest) := by
  subst hi
  refine j_aald hX hg (vp_in_nI hm hn) d ?_
  rw [nI_clamp (Nat.lt_trans hm hn), hq]
  exact k
theorem j_iastN (hX : OK X cc own) {a n : Nat} {f : Nat → Int32} (hg : g a = some (aI (xK X) n f)) {i x : Int32} (m : Nat) (hi : i = nI m) (hm : m < n) (hn : n < 2 ^ 31) (d : decode cc pc = .ok (.iastore, 1)) (k : J X kc ks (up g a (aI (xK X) n (upd f m x))) (pc + 1) lv rest) : J X kc ks g pc lv (.int x :: .int i :: .ref a :: rest) := by
  subst hi
  refine j_iast hX hg (vp_in_nI hm hn) d ?_
  rw [nI_clamp (Nat.lt_trans hm hn)]
  exact k
theorem j_copyN (hX : OK X cc own) {idx a0 a n0 n1 : Nat} {f h : Nat → Int32} (wk : Cond.methodLink own idx arraycopyName ∈ wsL_law) (hg0 : g a0 = some (aI (xK X) n0 f)) (hg1 : g a = some (aI (xK X) n1 h)) {sp dp n : Int32} (s d9 m : Nat) (hs : sp = nI s) (hd : dp = nI d9) (hm : n = nI m) (h4 : s + m ≤ n0) (h5 : d9 + m ≤ n1) (b0 : n0 < 2 ^ 31) (b1 : n1 < 2 ^ 31)
    (hlev : 1 ≤ xlev X) (hrest : (rest.map fun v => v.category).sum ≤ 4) (d : decode cc pc = .ok (.invokestatic idx, 3)) (k : J X kc ks (up g a (aI (xK X) n1 (va_cpy f h s d9 m))) (pc + 3) lv rest) : J X kc ks g pc lv (.int n :: .int dp :: .ref a :: .int sp :: .ref a0 :: rest) := by
  subst hs; subst hd; subst hm
  have e1 : (nI s).toNatClampNeg = s := nI_clamp (by omega)
  have e2 : (nI d9).toNatClampNeg = d9 := nI_clamp (by omega)
  have e3 : (nI m).toNatClampNeg = m := nI_clamp (by omega)
  refine j_copyi hX wk hg0 hg1 (nI_pos (by omega)) (nI_pos (by omega)) (nI_pos (by omega)) (by rw [e1, e3]; exact h4) (by rw [e2, e3]; exact h5) hlev hrest d ?_
  rw [e1, e2, e3]
  exact k
/-- two addresses with different cells differ -/
theorem ne_ob {g : Wd} {a b : Nat} {e f : va_E} (ha : g a = some e) (hb : g b = some f) (h : e ≠ f) : a ≠ b := fun q => h (Option.some.inj (ha.symm.trans (by rw [q]; exact hb)))
theorem ix4 (k c : Nat) : nI k * 4 + nI c = nI (4 * k + c) := by
  rw [show (4 : Int32) = nI 4 from rfl, pk_mul, nI_add, Nat.mul_comm]
theorem ix4' (k : Nat) : nI k * 4 = nI (4 * k) := by
  rw [show (4 : Int32) = nI 4 from rfl, pk_mul, Nat.mul_comm]
end Rows
