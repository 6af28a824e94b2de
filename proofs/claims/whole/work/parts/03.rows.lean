/-! the walk's rows, an instruction a row (written by wip/whole/draft/mkrows.py) -/
section
variable {l : Launch} {D : va_G} {cl : List vw_C} {tys : List (ClassId × FieldType)} {R : Room} {own : String} {cc : ByteArray} {nL : Nat} {Ts : List Cond} {ct : Bool} {A : Nat → Prop} {H0 : Heap} {G : vx_G} {h : vx_h} {k n pc : Nat} {lv : List (Nat × Value)} {st : List Value}
theorem vx_iconst (IG : vx_I l D cl tys R own cc nL Ts ct A H0 G) {c : Int} {v : Int32} (hd : decode cc pc = .ok (.iconst c, 1)) (hv : Int32.ofInt c = v) (K : vx_V D cl A H0 nL G h k n (pc + 1) lv (.int v :: st)) : vx_V D cl A H0 nL G h k n pc lv (st) := by
  obtain ⟨p, e, s, m, args, below, meth, c, Q, rfl, hx, hb, -⟩ := IG
  intro H locs ls g1 g2 g3
  exact lv_iconst hx hb hd hv (K H locs ls g1 g2 g3)
theorem vx_bipush (IG : vx_I l D cl tys R own cc nL Ts ct A H0 G) {c : Int} {v : Int32} (hd : decode cc pc = .ok (.bipush c, 2)) (hv : (Int8.ofInt c).toInt32 = v) (K : vx_V D cl A H0 nL G h k n (pc + 2) lv (.int v :: st)) : vx_V D cl A H0 nL G h k n pc lv (st) := by
  obtain ⟨p, e, s, m, args, below, meth, c, Q, rfl, hx, hb, -⟩ := IG
  intro H locs ls g1 g2 g3
  exact lv_bipush hx hb hd hv (K H locs ls g1 g2 g3)
theorem vx_sipush (IG : vx_I l D cl tys R own cc nL Ts ct A H0 G) {c : Int} {v : Int32} (hd : decode cc pc = .ok (.sipush c, 3)) (hv : (Int16.ofInt c).toInt32 = v) (K : vx_V D cl A H0 nL G h k n (pc + 3) lv (.int v :: st)) : vx_V D cl A H0 nL G h k n pc lv (st) := by
  obtain ⟨p, e, s, m, args, below, meth, c, Q, rfl, hx, hb, -⟩ := IG
  intro H locs ls g1 g2 g3
  exact lv_sipush hx hb hd hv (K H locs ls g1 g2 g3)
theorem vx_lconst (IG : vx_I l D cl tys R own cc nL Ts ct A H0 G) {c : Fin 2} {v : Int64} (hd : decode cc pc = .ok (.lconst c, 1)) (hv : Int64.ofNat (c : Nat) = v) (K : vx_V D cl A H0 nL G h k n (pc + 1) lv (.long v :: st)) : vx_V D cl A H0 nL G h k n pc lv (st) := by
  obtain ⟨p, e, s, m, args, below, meth, c, Q, rfl, hx, hb, -⟩ := IG
  intro H locs ls g1 g2 g3
  exact lv_lconst hx hb hd hv (K H locs ls g1 g2 g3)
theorem vx_null (IG : vx_I l D cl tys R own cc nL Ts ct A H0 G)  (hd : decode cc pc = .ok (.aconst_null, 1)) (K : vx_V D cl A H0 nL G h k n (pc + 1) lv (.null :: st)) : vx_V D cl A H0 nL G h k n pc lv (st) := by
  obtain ⟨p, e, s, m, args, below, meth, c, Q, rfl, hx, hb, -⟩ := IG
  intro H locs ls g1 g2 g3
  exact lv_null hx hb hd (K H locs ls g1 g2 g3)
theorem vx_iadd (IG : vx_I l D cl tys R own cc nL Ts ct A H0 G) {x y : Int32} (hd : decode cc pc = .ok (.iadd, 1)) (K : vx_V D cl A H0 nL G h k n (pc + 1) lv (.int (x + y) :: st)) : vx_V D cl A H0 nL G h k n pc lv (.int y :: .int x :: st) := by
  obtain ⟨p, e, s, m, args, below, meth, c, Q, rfl, hx, hb, -⟩ := IG
  intro H locs ls g1 g2 g3
  exact lv_iadd hx hb hd (K H locs ls g1 g2 g3)
theorem vx_isub (IG : vx_I l D cl tys R own cc nL Ts ct A H0 G) {x y : Int32} (hd : decode cc pc = .ok (.isub, 1)) (K : vx_V D cl A H0 nL G h k n (pc + 1) lv (.int (x - y) :: st)) : vx_V D cl A H0 nL G h k n pc lv (.int y :: .int x :: st) := by
  obtain ⟨p, e, s, m, args, below, meth, c, Q, rfl, hx, hb, -⟩ := IG
  intro H locs ls g1 g2 g3
  exact lv_isub hx hb hd (K H locs ls g1 g2 g3)
theorem vx_imul (IG : vx_I l D cl tys R own cc nL Ts ct A H0 G) {x y : Int32} (hd : decode cc pc = .ok (.imul, 1)) (K : vx_V D cl A H0 nL G h k n (pc + 1) lv (.int (x * y) :: st)) : vx_V D cl A H0 nL G h k n pc lv (.int y :: .int x :: st) := by
  obtain ⟨p, e, s, m, args, below, meth, c, Q, rfl, hx, hb, -⟩ := IG
  intro H locs ls g1 g2 g3
  exact lv_imul hx hb hd (K H locs ls g1 g2 g3)
theorem vx_iand (IG : vx_I l D cl tys R own cc nL Ts ct A H0 G) {x y : Int32} (hd : decode cc pc = .ok (.iand, 1)) (K : vx_V D cl A H0 nL G h k n (pc + 1) lv (.int (x &&& y) :: st)) : vx_V D cl A H0 nL G h k n pc lv (.int y :: .int x :: st) := by
  obtain ⟨p, e, s, m, args, below, meth, c, Q, rfl, hx, hb, -⟩ := IG
  intro H locs ls g1 g2 g3
  exact lv_iand hx hb hd (K H locs ls g1 g2 g3)
theorem vx_ior (IG : vx_I l D cl tys R own cc nL Ts ct A H0 G) {x y : Int32} (hd : decode cc pc = .ok (.ior, 1)) (K : vx_V D cl A H0 nL G h k n (pc + 1) lv (.int (x ||| y) :: st)) : vx_V D cl A H0 nL G h k n pc lv (.int y :: .int x :: st) := by
  obtain ⟨p, e, s, m, args, below, meth, c, Q, rfl, hx, hb, -⟩ := IG
  intro H locs ls g1 g2 g3
  exact lv_ior hx hb hd (K H locs ls g1 g2 g3)
theorem vx_ixor (IG : vx_I l D cl tys R own cc nL Ts ct A H0 G) {x y : Int32} (hd : decode cc pc = .ok (.ixor, 1)) (K : vx_V D cl A H0 nL G h k n (pc + 1) lv (.int (x ^^^ y) :: st)) : vx_V D cl A H0 nL G h k n pc lv (.int y :: .int x :: st) := by
  obtain ⟨p, e, s, m, args, below, meth, c, Q, rfl, hx, hb, -⟩ := IG
  intro H locs ls g1 g2 g3
  exact lv_ixor hx hb hd (K H locs ls g1 g2 g3)
theorem vx_ladd (IG : vx_I l D cl tys R own cc nL Ts ct A H0 G) {x y : Int64} (hd : decode cc pc = .ok (.ladd, 1)) (K : vx_V D cl A H0 nL G h k n (pc + 1) lv (.long (x + y) :: st)) : vx_V D cl A H0 nL G h k n pc lv (.long y :: .long x :: st) := by
  obtain ⟨p, e, s, m, args, below, meth, c, Q, rfl, hx, hb, -⟩ := IG
  intro H locs ls g1 g2 g3
  exact lv_ladd hx hb hd (K H locs ls g1 g2 g3)
theorem vx_lsub (IG : vx_I l D cl tys R own cc nL Ts ct A H0 G) {x y : Int64} (hd : decode cc pc = .ok (.lsub, 1)) (K : vx_V D cl A H0 nL G h k n (pc + 1) lv (.long (x - y) :: st)) : vx_V D cl A H0 nL G h k n pc lv (.long y :: .long x :: st) := by
  obtain ⟨p, e, s, m, args, below, meth, c, Q, rfl, hx, hb, -⟩ := IG
  intro H locs ls g1 g2 g3
  exact lv_lsub hx hb hd (K H locs ls g1 g2 g3)
theorem vx_lmul (IG : vx_I l D cl tys R own cc nL Ts ct A H0 G) {x y : Int64} (hd : decode cc pc = .ok (.lmul, 1)) (K : vx_V D cl A H0 nL G h k n (pc + 1) lv (.long (x * y) :: st)) : vx_V D cl A H0 nL G h k n pc lv (.long y :: .long x :: st) := by
  obtain ⟨p, e, s, m, args, below, meth, c, Q, rfl, hx, hb, -⟩ := IG
  intro H locs ls g1 g2 g3
  exact lv_lmul hx hb hd (K H locs ls g1 g2 g3)
theorem vx_land (IG : vx_I l D cl tys R own cc nL Ts ct A H0 G) {x y : Int64} (hd : decode cc pc = .ok (.land, 1)) (K : vx_V D cl A H0 nL G h k n (pc + 1) lv (.long (x &&& y) :: st)) : vx_V D cl A H0 nL G h k n pc lv (.long y :: .long x :: st) := by
  obtain ⟨p, e, s, m, args, below, meth, c, Q, rfl, hx, hb, -⟩ := IG
  intro H locs ls g1 g2 g3
  exact lv_land hx hb hd (K H locs ls g1 g2 g3)
theorem vx_lor (IG : vx_I l D cl tys R own cc nL Ts ct A H0 G) {x y : Int64} (hd : decode cc pc = .ok (.lor, 1)) (K : vx_V D cl A H0 nL G h k n (pc + 1) lv (.long (x ||| y) :: st)) : vx_V D cl A H0 nL G h k n pc lv (.long y :: .long x :: st) := by
  obtain ⟨p, e, s, m, args, below, meth, c, Q, rfl, hx, hb, -⟩ := IG
  intro H locs ls g1 g2 g3
  exact lv_lor hx hb hd (K H locs ls g1 g2 g3)
theorem vx_lxor (IG : vx_I l D cl tys R own cc nL Ts ct A H0 G) {x y : Int64} (hd : decode cc pc = .ok (.lxor, 1)) (K : vx_V D cl A H0 nL G h k n (pc + 1) lv (.long (x ^^^ y) :: st)) : vx_V D cl A H0 nL G h k n pc lv (.long y :: .long x :: st) := by
  obtain ⟨p, e, s, m, args, below, meth, c, Q, rfl, hx, hb, -⟩ := IG
  intro H locs ls g1 g2 g3
  exact lv_lxor hx hb hd (K H locs ls g1 g2 g3)
theorem vx_idiv (IG : vx_I l D cl tys R own cc nL Ts ct A H0 G) {x y : Int32} (hd : decode cc pc = .ok (.idiv, 1)) (hne : ¬ y = 0) (K : vx_V D cl A H0 nL G h k n (pc + 1) lv (.int (x / y) :: st)) : vx_V D cl A H0 nL G h k n pc lv (.int y :: .int x :: st) := by
  obtain ⟨p, e, s, m, args, below, meth, c, Q, rfl, hx, hb, -⟩ := IG
  intro H locs ls g1 g2 g3
  exact lv_idiv hx hb hd hne (K H locs ls g1 g2 g3)
theorem vx_ldiv (IG : vx_I l D cl tys R own cc nL Ts ct A H0 G) {x y : Int64} (hd : decode cc pc = .ok (.ldiv, 1)) (hne : ¬ y = 0) (K : vx_V D cl A H0 nL G h k n (pc + 1) lv (.long (x / y) :: st)) : vx_V D cl A H0 nL G h k n pc lv (.long y :: .long x :: st) := by
  obtain ⟨p, e, s, m, args, below, meth, c, Q, rfl, hx, hb, -⟩ := IG
  intro H locs ls g1 g2 g3
  exact lv_ldiv hx hb hd hne (K H locs ls g1 g2 g3)
theorem vx_irem (IG : vx_I l D cl tys R own cc nL Ts ct A H0 G) {x y : Int32} (hd : decode cc pc = .ok (.irem, 1)) (hne : ¬ y = 0) (K : vx_V D cl A H0 nL G h k n (pc + 1) lv (.int (x - x / y * y) :: st)) : vx_V D cl A H0 nL G h k n pc lv (.int y :: .int x :: st) := by
  obtain ⟨p, e, s, m, args, below, meth, c, Q, rfl, hx, hb, -⟩ := IG
  intro H locs ls g1 g2 g3
  exact lv_irem hx hb hd hne (K H locs ls g1 g2 g3)
theorem vx_lrem (IG : vx_I l D cl tys R own cc nL Ts ct A H0 G) {x y : Int64} (hd : decode cc pc = .ok (.lrem, 1)) (hne : ¬ y = 0) (K : vx_V D cl A H0 nL G h k n (pc + 1) lv (.long (x - x / y * y) :: st)) : vx_V D cl A H0 nL G h k n pc lv (.long y :: .long x :: st) := by
  obtain ⟨p, e, s, m, args, below, meth, c, Q, rfl, hx, hb, -⟩ := IG
  intro H locs ls g1 g2 g3
  exact lv_lrem hx hb hd hne (K H locs ls g1 g2 g3)
theorem vx_ineg (IG : vx_I l D cl tys R own cc nL Ts ct A H0 G) {x : Int32} (hd : decode cc pc = .ok (.ineg, 1)) (K : vx_V D cl A H0 nL G h k n (pc + 1) lv (.int (-x) :: st)) : vx_V D cl A H0 nL G h k n pc lv (.int x :: st) := by
  obtain ⟨p, e, s, m, args, below, meth, c, Q, rfl, hx, hb, -⟩ := IG
  intro H locs ls g1 g2 g3
  exact lv_ineg hx hb hd (K H locs ls g1 g2 g3)
theorem vx_lneg (IG : vx_I l D cl tys R own cc nL Ts ct A H0 G) {x : Int64} (hd : decode cc pc = .ok (.lneg, 1)) (K : vx_V D cl A H0 nL G h k n (pc + 1) lv (.long (-x) :: st)) : vx_V D cl A H0 nL G h k n pc lv (.long x :: st) := by
  obtain ⟨p, e, s, m, args, below, meth, c, Q, rfl, hx, hb, -⟩ := IG
  intro H locs ls g1 g2 g3
  exact lv_lneg hx hb hd (K H locs ls g1 g2 g3)
theorem vx_ishl (IG : vx_I l D cl tys R own cc nL Ts ct A H0 G) {x y : Int32} (hd : decode cc pc = .ok (.ishl, 1)) (K : vx_V D cl A H0 nL G h k n (pc + 1) lv (.int (x <<< (y &&& 31)) :: st)) : vx_V D cl A H0 nL G h k n pc lv (.int y :: .int x :: st) := by
  obtain ⟨p, e, s, m, args, below, meth, c, Q, rfl, hx, hb, -⟩ := IG
  intro H locs ls g1 g2 g3
  exact lv_ishl hx hb hd (K H locs ls g1 g2 g3)
theorem vx_ishr (IG : vx_I l D cl tys R own cc nL Ts ct A H0 G) {x y : Int32} (hd : decode cc pc = .ok (.ishr, 1)) (K : vx_V D cl A H0 nL G h k n (pc + 1) lv (.int (x >>> (y &&& 31)) :: st)) : vx_V D cl A H0 nL G h k n pc lv (.int y :: .int x :: st) := by
  obtain ⟨p, e, s, m, args, below, meth, c, Q, rfl, hx, hb, -⟩ := IG
  intro H locs ls g1 g2 g3
  exact lv_ishr hx hb hd (K H locs ls g1 g2 g3)
theorem vx_i2l (IG : vx_I l D cl tys R own cc nL Ts ct A H0 G) {x : Int32} {v : Int64} (hd : decode cc pc = .ok (.i2l, 1)) (hv : x.toInt64 = v) (K : vx_V D cl A H0 nL G h k n (pc + 1) lv (.long v :: st)) : vx_V D cl A H0 nL G h k n pc lv (.int x :: st) := by
  obtain ⟨p, e, s, m, args, below, meth, c, Q, rfl, hx, hb, -⟩ := IG
  intro H locs ls g1 g2 g3
  exact lv_i2l hx hb hd hv (K H locs ls g1 g2 g3)
theorem vx_l2i (IG : vx_I l D cl tys R own cc nL Ts ct A H0 G) {x : Int64} {v : Int32} (hd : decode cc pc = .ok (.l2i, 1)) (hv : x.toInt32 = v) (K : vx_V D cl A H0 nL G h k n (pc + 1) lv (.int v :: st)) : vx_V D cl A H0 nL G h k n pc lv (.long x :: st) := by
  obtain ⟨p, e, s, m, args, below, meth, c, Q, rfl, hx, hb, -⟩ := IG
  intro H locs ls g1 g2 g3
  exact lv_l2i hx hb hd hv (K H locs ls g1 g2 g3)
theorem vx_i2b (IG : vx_I l D cl tys R own cc nL Ts ct A H0 G) {x v : Int32} (hd : decode cc pc = .ok (.i2b, 1)) (hv : x.toInt8.toInt32 = v) (K : vx_V D cl A H0 nL G h k n (pc + 1) lv (.int v :: st)) : vx_V D cl A H0 nL G h k n pc lv (.int x :: st) := by
  obtain ⟨p, e, s, m, args, below, meth, c, Q, rfl, hx, hb, -⟩ := IG
  intro H locs ls g1 g2 g3
  exact lv_i2b hx hb hd hv (K H locs ls g1 g2 g3)
theorem vx_iushr (IG : vx_I l D cl tys R own cc nL Ts ct A H0 G) {x y v : Int32} (hd : decode cc pc = .ok (.iushr, 1)) (hv : (x.toUInt32 >>> (y.toUInt32 &&& Int32.toUInt32 31)).toInt32 = v) (K : vx_V D cl A H0 nL G h k n (pc + 1) lv (.int v :: st)) : vx_V D cl A H0 nL G h k n pc lv (.int y :: .int x :: st) := by
  obtain ⟨p, e, s, m, args, below, meth, c, Q, rfl, hx, hb, -⟩ := IG
  intro H locs ls g1 g2 g3
  exact lv_iushr hx hb hd hv (K H locs ls g1 g2 g3)
theorem vx_lushr (IG : vx_I l D cl tys R own cc nL Ts ct A H0 G) {x v : Int64} {y : Int32} (hd : decode cc pc = .ok (.lushr, 1)) (hv : (x.toUInt64 >>> (y.toInt64.toUInt64 &&& Int64.toUInt64 63)).toInt64 = v) (K : vx_V D cl A H0 nL G h k n (pc + 1) lv (.long v :: st)) : vx_V D cl A H0 nL G h k n pc lv (.int y :: .long x :: st) := by
  obtain ⟨p, e, s, m, args, below, meth, c, Q, rfl, hx, hb, -⟩ := IG
  intro H locs ls g1 g2 g3
  exact lv_lushr hx hb hd hv (K H locs ls g1 g2 g3)
theorem vx_lshl (IG : vx_I l D cl tys R own cc nL Ts ct A H0 G) {x v : Int64} {y : Int32} (hd : decode cc pc = .ok (.lshl, 1)) (hv : x <<< (y.toInt64 &&& 63) = v) (K : vx_V D cl A H0 nL G h k n (pc + 1) lv (.long v :: st)) : vx_V D cl A H0 nL G h k n pc lv (.int y :: .long x :: st) := by
  obtain ⟨p, e, s, m, args, below, meth, c, Q, rfl, hx, hb, -⟩ := IG
  intro H locs ls g1 g2 g3
  exact lv_lshl hx hb hd hv (K H locs ls g1 g2 g3)
theorem vx_lshr (IG : vx_I l D cl tys R own cc nL Ts ct A H0 G) {x v : Int64} {y : Int32} (hd : decode cc pc = .ok (.lshr, 1)) (hv : x >>> (y.toInt64 &&& 63) = v) (K : vx_V D cl A H0 nL G h k n (pc + 1) lv (.long v :: st)) : vx_V D cl A H0 nL G h k n pc lv (.int y :: .long x :: st) := by
  obtain ⟨p, e, s, m, args, below, meth, c, Q, rfl, hx, hb, -⟩ := IG
  intro H locs ls g1 g2 g3
  exact lv_lshr hx hb hd hv (K H locs ls g1 g2 g3)
theorem vx_lcmp (IG : vx_I l D cl tys R own cc nL Ts ct A H0 G) {x y : Int64} (hd : decode cc pc = .ok (.lcmp, 1)) (K : vx_V D cl A H0 nL G h k n (pc + 1) lv (.int (lg_cmp x y) :: st)) : vx_V D cl A H0 nL G h k n pc lv (.long y :: .long x :: st) := by
  obtain ⟨p, e, s, m, args, below, meth, c, Q, rfl, hx, hb, -⟩ := IG
  intro H locs ls g1 g2 g3
  exact W.lcmp hx hb hd (K H locs ls g1 g2 g3)
theorem vx_dup (IG : vx_I l D cl tys R own cc nL Ts ct A H0 G) {va : Value} (hd : decode cc pc = .ok (.dup, 1)) (hva : va.category = 1) (K : vx_V D cl A H0 nL G h k n (pc + 1) lv (va :: va :: st)) : vx_V D cl A H0 nL G h k n pc lv (va :: st) := by
  obtain ⟨p, e, s, m, args, below, meth, c, Q, rfl, hx, hb, -⟩ := IG
  intro H locs ls g1 g2 g3
  exact lv_dup hx hb hd hva (K H locs ls g1 g2 g3)
theorem vx_pop (IG : vx_I l D cl tys R own cc nL Ts ct A H0 G) {va : Value} (hd : decode cc pc = .ok (.pop, 1)) (hva : va.category = 1) (K : vx_V D cl A H0 nL G h k n (pc + 1) lv (st)) : vx_V D cl A H0 nL G h k n pc lv (va :: st) := by
  obtain ⟨p, e, s, m, args, below, meth, c, Q, rfl, hx, hb, -⟩ := IG
  intro H locs ls g1 g2 g3
  exact lv_pop hx hb hd hva (K H locs ls g1 g2 g3)
theorem vx_dup_x1 (IG : vx_I l D cl tys R own cc nL Ts ct A H0 G) {va vb : Value} (hd : decode cc pc = .ok (.dup_x1, 1)) (hva : va.category = 1) (hvb : vb.category = 1) (K : vx_V D cl A H0 nL G h k n (pc + 1) lv (va :: vb :: va :: st)) : vx_V D cl A H0 nL G h k n pc lv (va :: vb :: st) := by
  obtain ⟨p, e, s, m, args, below, meth, c, Q, rfl, hx, hb, -⟩ := IG
  intro H locs ls g1 g2 g3
  exact lv_dup_x1 hx hb hd hva hvb (K H locs ls g1 g2 g3)
theorem vx_dup_x2 (IG : vx_I l D cl tys R own cc nL Ts ct A H0 G) {va vb vd : Value} (hd : decode cc pc = .ok (.dup_x2, 1)) (hva : va.category = 1) (hvb : vb.category = 1) (hvd : vd.category = 1) (K : vx_V D cl A H0 nL G h k n (pc + 1) lv (va :: vb :: vd :: va :: st)) : vx_V D cl A H0 nL G h k n pc lv (va :: vb :: vd :: st) := by
  obtain ⟨p, e, s, m, args, below, meth, c, Q, rfl, hx, hb, -⟩ := IG
  intro H locs ls g1 g2 g3
  exact lv_dup_x2 hx hb hd hva hvb hvd (K H locs ls g1 g2 g3)
theorem vx_dup2 (IG : vx_I l D cl tys R own cc nL Ts ct A H0 G) {va vb : Value} (hd : decode cc pc = .ok (.dup2, 1)) (hva : va.category = 1) (hvb : vb.category = 1) (K : vx_V D cl A H0 nL G h k n (pc + 1) lv (va :: vb :: va :: vb :: st)) : vx_V D cl A H0 nL G h k n pc lv (va :: vb :: st) := by
  obtain ⟨p, e, s, m, args, below, meth, c, Q, rfl, hx, hb, -⟩ := IG
  intro H locs ls g1 g2 g3
  exact lv_dup2_11 hx hb hd hva hvb (K H locs ls g1 g2 g3)
theorem vx_dup2_2 (IG : vx_I l D cl tys R own cc nL Ts ct A H0 G) {va : Value} (hd : decode cc pc = .ok (.dup2, 1)) (hva : va.category = 2) (K : vx_V D cl A H0 nL G h k n (pc + 1) lv (va :: va :: st)) : vx_V D cl A H0 nL G h k n pc lv (va :: st) := by
  obtain ⟨p, e, s, m, args, below, meth, c, Q, rfl, hx, hb, -⟩ := IG
  intro H locs ls g1 g2 g3
  exact lv_dup2_2 hx hb hd hva (K H locs ls g1 g2 g3)
theorem vx_pop2_2 (IG : vx_I l D cl tys R own cc nL Ts ct A H0 G) {va : Value} (hd : decode cc pc = .ok (.pop2, 1)) (hva : va.category = 2) (K : vx_V D cl A H0 nL G h k n (pc + 1) lv (st)) : vx_V D cl A H0 nL G h k n pc lv (va :: st) := by
  obtain ⟨p, e, s, m, args, below, meth, c, Q, rfl, hx, hb, -⟩ := IG
  intro H locs ls g1 g2 g3
  exact lv_pop2_2 hx hb hd hva (K H locs ls g1 g2 g3)
theorem vx_dup2_x1_2 (IG : vx_I l D cl tys R own cc nL Ts ct A H0 G) {va vb : Value} (hd : decode cc pc = .ok (.dup2_x1, 1)) (hva : va.category = 2) (hvb : vb.category = 1) (K : vx_V D cl A H0 nL G h k n (pc + 1) lv (va :: vb :: va :: st)) : vx_V D cl A H0 nL G h k n pc lv (va :: vb :: st) := by
  obtain ⟨p, e, s, m, args, below, meth, c, Q, rfl, hx, hb, -⟩ := IG
  intro H locs ls g1 g2 g3
  exact lv_dup2_x1_2 hx hb hd hva hvb (K H locs ls g1 g2 g3)
theorem vx_dup2_x2_2 (IG : vx_I l D cl tys R own cc nL Ts ct A H0 G) {va vb vd : Value} (hd : decode cc pc = .ok (.dup2_x2, 1)) (hva : va.category = 2) (hvb : vb.category = 1) (hvd : vd.category = 1) (K : vx_V D cl A H0 nL G h k n (pc + 1) lv (va :: vb :: vd :: va :: st)) : vx_V D cl A H0 nL G h k n pc lv (va :: vb :: vd :: st) := by
  obtain ⟨p, e, s, m, args, below, meth, c, Q, rfl, hx, hb, -⟩ := IG
  intro H locs ls g1 g2 g3
  exact lv_dup2_x2_2 hx hb hd hva hvb hvd (K H locs ls g1 g2 g3)
theorem vx_iload_n (IG : vx_I l D cl tys R own cc nL Ts ct A H0 G) {j : Fin 4} {i : Nat} {x : Int32} (hd : decode cc pc = .ok (.iload_n j, 1)) (hi : (j : Nat) = i) (q : Nat) (hq : lv[q]? = some (i, .int x)) (K : vx_V D cl A H0 nL G h k n (pc + 1) lv (.int x :: st)) : vx_V D cl A H0 nL G h k n pc lv (st) := by
  obtain ⟨p, e, s, m, args, below, meth, c, Q, rfl, hx, hb, -⟩ := IG
  intro H locs ls g1 g2 g3
  exact lv_iload_n hx hb hd hi (lv_at g3 q hq) (K H locs ls g1 g2 g3)
theorem vx_iload (IG : vx_I l D cl tys R own cc nL Ts ct A H0 G) {i : Nat} {x : Int32} (hd : decode cc pc = .ok (.iload i, 2)) (q : Nat) (hq : lv[q]? = some (i, .int x)) (K : vx_V D cl A H0 nL G h k n (pc + 2) lv (.int x :: st)) : vx_V D cl A H0 nL G h k n pc lv (st) := by
  obtain ⟨p, e, s, m, args, below, meth, c, Q, rfl, hx, hb, -⟩ := IG
  intro H locs ls g1 g2 g3
  exact lv_iload hx hb hd (lv_at g3 q hq) (K H locs ls g1 g2 g3)
theorem vx_istore_n (IG : vx_I l D cl tys R own cc nL Ts ct A H0 G) {j : Fin 4} {i : Nat} {x : Int32} {lv' : List (Nat × Value)} (hd : decode cc pc = .ok (.istore_n j, 1)) (hi : (j : Nat) = i) (hn : i < nL) (hl : (i, Value.int x) :: lv.filter (fun q => !(q.1 == i) && !(q.1 + 1 == i && q.2.category == 2)) = lv') (K : vx_V D cl A H0 nL G h k n (pc + 1) lv' st) : vx_V D cl A H0 nL G h k n pc lv (.int x :: st) := by
  obtain ⟨p, e, s, m, args, below, meth, c, Q, rfl, hx, hb, -⟩ := IG
  intro H locs ls g1 g2 g3
  exact lv_istore_n hx hb hd hi g3 hn hl (fun ls' g3' => K H locs ls' g1 g2 g3')
theorem vx_istore (IG : vx_I l D cl tys R own cc nL Ts ct A H0 G) {i : Nat} {x : Int32} {lv' : List (Nat × Value)} (hd : decode cc pc = .ok (.istore i, 2)) (hn : i < nL) (hl : (i, Value.int x) :: lv.filter (fun q => !(q.1 == i) && !(q.1 + 1 == i && q.2.category == 2)) = lv') (K : vx_V D cl A H0 nL G h k n (pc + 2) lv' st) : vx_V D cl A H0 nL G h k n pc lv (.int x :: st) := by
  obtain ⟨p, e, s, m, args, below, meth, c, Q, rfl, hx, hb, -⟩ := IG
  intro H locs ls g1 g2 g3
  exact lv_istore hx hb hd g3 hn hl (fun ls' g3' => K H locs ls' g1 g2 g3')
theorem vx_lload_n (IG : vx_I l D cl tys R own cc nL Ts ct A H0 G) {j : Fin 4} {i : Nat} {x : Int64} (hd : decode cc pc = .ok (.lload_n j, 1)) (hi : (j : Nat) = i) (q : Nat) (hq : lv[q]? = some (i, .long x)) (K : vx_V D cl A H0 nL G h k n (pc + 1) lv (.long x :: st)) : vx_V D cl A H0 nL G h k n pc lv (st) := by
  obtain ⟨p, e, s, m, args, below, meth, c, Q, rfl, hx, hb, -⟩ := IG
  intro H locs ls g1 g2 g3
  exact lv_lload_n hx hb hd hi (lv_at g3 q hq) (K H locs ls g1 g2 g3)
theorem vx_lload (IG : vx_I l D cl tys R own cc nL Ts ct A H0 G) {i : Nat} {x : Int64} (hd : decode cc pc = .ok (.lload i, 2)) (q : Nat) (hq : lv[q]? = some (i, .long x)) (K : vx_V D cl A H0 nL G h k n (pc + 2) lv (.long x :: st)) : vx_V D cl A H0 nL G h k n pc lv (st) := by
  obtain ⟨p, e, s, m, args, below, meth, c, Q, rfl, hx, hb, -⟩ := IG
  intro H locs ls g1 g2 g3
  exact lv_lload hx hb hd (lv_at g3 q hq) (K H locs ls g1 g2 g3)
theorem vx_lstore_n (IG : vx_I l D cl tys R own cc nL Ts ct A H0 G) {j : Fin 4} {i : Nat} {x : Int64} {lv' : List (Nat × Value)} (hd : decode cc pc = .ok (.lstore_n j, 1)) (hi : (j : Nat) = i) (hn : i + 1 < nL) (hl : (i, Value.long x) :: lv.filter (fun q => !(q.1 == i) && (!(q.1 == i + 1) && !(q.1 + 1 == i && q.2.category == 2))) = lv') (K : vx_V D cl A H0 nL G h k n (pc + 1) lv' st) : vx_V D cl A H0 nL G h k n pc lv (.long x :: st) := by
  obtain ⟨p, e, s, m, args, below, meth, c, Q, rfl, hx, hb, -⟩ := IG
  intro H locs ls g1 g2 g3
  exact lv_lstore_n hx hb hd hi g3 hn hl (fun ls' g3' => K H locs ls' g1 g2 g3')
theorem vx_lstore (IG : vx_I l D cl tys R own cc nL Ts ct A H0 G) {i : Nat} {x : Int64} {lv' : List (Nat × Value)} (hd : decode cc pc = .ok (.lstore i, 2)) (hn : i + 1 < nL) (hl : (i, Value.long x) :: lv.filter (fun q => !(q.1 == i) && (!(q.1 == i + 1) && !(q.1 + 1 == i && q.2.category == 2))) = lv') (K : vx_V D cl A H0 nL G h k n (pc + 2) lv' st) : vx_V D cl A H0 nL G h k n pc lv (.long x :: st) := by
  obtain ⟨p, e, s, m, args, below, meth, c, Q, rfl, hx, hb, -⟩ := IG
  intro H locs ls g1 g2 g3
  exact lv_lstore hx hb hd g3 hn hl (fun ls' g3' => K H locs ls' g1 g2 g3')
theorem vx_aload_n (IG : vx_I l D cl tys R own cc nL Ts ct A H0 G) {j : Fin 4} {i : Nat} {x : Nat} (hd : decode cc pc = .ok (.aload_n j, 1)) (hi : (j : Nat) = i) (q : Nat) (hq : lv[q]? = some (i, .ref x)) (K : vx_V D cl A H0 nL G h k n (pc + 1) lv (.ref x :: st)) : vx_V D cl A H0 nL G h k n pc lv (st) := by
  obtain ⟨p, e, s, m, args, below, meth, c, Q, rfl, hx, hb, -⟩ := IG
  intro H locs ls g1 g2 g3
  exact lv_aload_n hx hb hd hi (lv_at g3 q hq) (K H locs ls g1 g2 g3)
theorem vx_aload (IG : vx_I l D cl tys R own cc nL Ts ct A H0 G) {i : Nat} {x : Nat} (hd : decode cc pc = .ok (.aload i, 2)) (q : Nat) (hq : lv[q]? = some (i, .ref x)) (K : vx_V D cl A H0 nL G h k n (pc + 2) lv (.ref x :: st)) : vx_V D cl A H0 nL G h k n pc lv (st) := by
  obtain ⟨p, e, s, m, args, below, meth, c, Q, rfl, hx, hb, -⟩ := IG
  intro H locs ls g1 g2 g3
  exact lv_aload hx hb hd (lv_at g3 q hq) (K H locs ls g1 g2 g3)
theorem vx_astore_n (IG : vx_I l D cl tys R own cc nL Ts ct A H0 G) {j : Fin 4} {i : Nat} {x : Nat} {lv' : List (Nat × Value)} (hd : decode cc pc = .ok (.astore_n j, 1)) (hi : (j : Nat) = i) (hn : i < nL) (hl : (i, Value.ref x) :: lv.filter (fun q => !(q.1 == i) && !(q.1 + 1 == i && q.2.category == 2)) = lv') (K : vx_V D cl A H0 nL G h k n (pc + 1) lv' st) : vx_V D cl A H0 nL G h k n pc lv (.ref x :: st) := by
  obtain ⟨p, e, s, m, args, below, meth, c, Q, rfl, hx, hb, -⟩ := IG
  intro H locs ls g1 g2 g3
  exact lv_astore_n hx hb hd hi g3 hn hl (fun ls' g3' => K H locs ls' g1 g2 g3')
theorem vx_astore (IG : vx_I l D cl tys R own cc nL Ts ct A H0 G) {i : Nat} {x : Nat} {lv' : List (Nat × Value)} (hd : decode cc pc = .ok (.astore i, 2)) (hn : i < nL) (hl : (i, Value.ref x) :: lv.filter (fun q => !(q.1 == i) && !(q.1 + 1 == i && q.2.category == 2)) = lv') (K : vx_V D cl A H0 nL G h k n (pc + 2) lv' st) : vx_V D cl A H0 nL G h k n pc lv (.ref x :: st) := by
  obtain ⟨p, e, s, m, args, below, meth, c, Q, rfl, hx, hb, -⟩ := IG
  intro H locs ls g1 g2 g3
  exact lv_astore hx hb hd g3 hn hl (fun ls' g3' => K H locs ls' g1 g2 g3')
theorem vx_iinc (IG : vx_I l D cl tys R own cc nL Ts ct A H0 G) {i q : Nat} {c : Int} {x v : Int32} {lv' : List (Nat × Value)} (hd : decode cc pc = .ok (.iinc i c, 3)) (hq : lv[q]? = some (i, .int x)) (hv : x + Int32.ofInt c = v) (hn : i < nL) (hl : (i, Value.int v) :: lv.filter (fun q => !(q.1 == i) && !(q.1 + 1 == i && q.2.category == 2)) = lv') (K : vx_V D cl A H0 nL G h k n (pc + 3) lv' st) : vx_V D cl A H0 nL G h k n pc lv (st) := by
  obtain ⟨p, e, s, m, args, below, meth, c, Q, rfl, hx, hb, -⟩ := IG
  intro H locs ls g1 g2 g3
  exact lv_iinc hx hb hd g3 hq hv hn hl (fun ls' g3' => K H locs ls' g1 g2 g3')
theorem vx_if_eq (IG : vx_I l D cl tys R own cc nL Ts ct A H0 G) {x : Int32} {off : Int} {tgt : Nat} (hd : decode cc pc = .ok (.ifCond .eq off, 3)) (ht : (pc : Int) + off = (tgt : Int)) (KT : x = 0 → vx_V D cl A H0 nL G h k n tgt lv st) (KF : ¬ x = 0 → vx_V D cl A H0 nL G h k n (pc + 3) lv st) : vx_V D cl A H0 nL G h k n pc lv (.int x :: st) := by
  obtain ⟨p, e, s, m, args, below, meth, c, Q, rfl, hx, hb, -⟩ := IG
  intro H locs ls g1 g2 g3
  exact lv_if_eq hx hb hd ht (fun q => KT q H locs ls g1 g2 g3) (fun q => KF q H locs ls g1 g2 g3)
theorem vx_icmp_eq (IG : vx_I l D cl tys R own cc nL Ts ct A H0 G) {x y : Int32} {off : Int} {tgt : Nat} (hd : decode cc pc = .ok (.if_icmp .eq off, 3)) (ht : (pc : Int) + off = (tgt : Int)) (KT : x = y → vx_V D cl A H0 nL G h k n tgt lv st) (KF : ¬ x = y → vx_V D cl A H0 nL G h k n (pc + 3) lv st) : vx_V D cl A H0 nL G h k n pc lv (.int y :: .int x :: st) := by
  obtain ⟨p, e, s, m, args, below, meth, c, Q, rfl, hx, hb, -⟩ := IG
  intro H locs ls g1 g2 g3
  exact lv_icmp_eq hx hb hd ht (fun q => KT q H locs ls g1 g2 g3) (fun q => KF q H locs ls g1 g2 g3)
theorem vx_if_ne (IG : vx_I l D cl tys R own cc nL Ts ct A H0 G) {x : Int32} {off : Int} {tgt : Nat} (hd : decode cc pc = .ok (.ifCond .ne off, 3)) (ht : (pc : Int) + off = (tgt : Int)) (KT : ¬ x = 0 → vx_V D cl A H0 nL G h k n tgt lv st) (KF : x = 0 → vx_V D cl A H0 nL G h k n (pc + 3) lv st) : vx_V D cl A H0 nL G h k n pc lv (.int x :: st) := by
  obtain ⟨p, e, s, m, args, below, meth, c, Q, rfl, hx, hb, -⟩ := IG
  intro H locs ls g1 g2 g3
  exact lv_if_ne hx hb hd ht (fun q => KT q H locs ls g1 g2 g3) (fun q => KF q H locs ls g1 g2 g3)
theorem vx_icmp_ne (IG : vx_I l D cl tys R own cc nL Ts ct A H0 G) {x y : Int32} {off : Int} {tgt : Nat} (hd : decode cc pc = .ok (.if_icmp .ne off, 3)) (ht : (pc : Int) + off = (tgt : Int)) (KT : ¬ x = y → vx_V D cl A H0 nL G h k n tgt lv st) (KF : x = y → vx_V D cl A H0 nL G h k n (pc + 3) lv st) : vx_V D cl A H0 nL G h k n pc lv (.int y :: .int x :: st) := by
  obtain ⟨p, e, s, m, args, below, meth, c, Q, rfl, hx, hb, -⟩ := IG
  intro H locs ls g1 g2 g3
  exact lv_icmp_ne hx hb hd ht (fun q => KT q H locs ls g1 g2 g3) (fun q => KF q H locs ls g1 g2 g3)
theorem vx_if_lt (IG : vx_I l D cl tys R own cc nL Ts ct A H0 G) {x : Int32} {off : Int} {tgt : Nat} (hd : decode cc pc = .ok (.ifCond .lt off, 3)) (ht : (pc : Int) + off = (tgt : Int)) (KT : x < 0 → vx_V D cl A H0 nL G h k n tgt lv st) (KF : ¬ x < 0 → vx_V D cl A H0 nL G h k n (pc + 3) lv st) : vx_V D cl A H0 nL G h k n pc lv (.int x :: st) := by
  obtain ⟨p, e, s, m, args, below, meth, c, Q, rfl, hx, hb, -⟩ := IG
  intro H locs ls g1 g2 g3
  exact lv_if_lt hx hb hd ht (fun q => KT q H locs ls g1 g2 g3) (fun q => KF q H locs ls g1 g2 g3)
theorem vx_icmp_lt (IG : vx_I l D cl tys R own cc nL Ts ct A H0 G) {x y : Int32} {off : Int} {tgt : Nat} (hd : decode cc pc = .ok (.if_icmp .lt off, 3)) (ht : (pc : Int) + off = (tgt : Int)) (KT : x < y → vx_V D cl A H0 nL G h k n tgt lv st) (KF : ¬ x < y → vx_V D cl A H0 nL G h k n (pc + 3) lv st) : vx_V D cl A H0 nL G h k n pc lv (.int y :: .int x :: st) := by
  obtain ⟨p, e, s, m, args, below, meth, c, Q, rfl, hx, hb, -⟩ := IG
  intro H locs ls g1 g2 g3
  exact lv_icmp_lt hx hb hd ht (fun q => KT q H locs ls g1 g2 g3) (fun q => KF q H locs ls g1 g2 g3)
theorem vx_if_ge (IG : vx_I l D cl tys R own cc nL Ts ct A H0 G) {x : Int32} {off : Int} {tgt : Nat} (hd : decode cc pc = .ok (.ifCond .ge off, 3)) (ht : (pc : Int) + off = (tgt : Int)) (KT : 0 ≤ x → vx_V D cl A H0 nL G h k n tgt lv st) (KF : ¬ 0 ≤ x → vx_V D cl A H0 nL G h k n (pc + 3) lv st) : vx_V D cl A H0 nL G h k n pc lv (.int x :: st) := by
  obtain ⟨p, e, s, m, args, below, meth, c, Q, rfl, hx, hb, -⟩ := IG
  intro H locs ls g1 g2 g3
  exact lv_if_ge hx hb hd ht (fun q => KT q H locs ls g1 g2 g3) (fun q => KF q H locs ls g1 g2 g3)
theorem vx_icmp_ge (IG : vx_I l D cl tys R own cc nL Ts ct A H0 G) {x y : Int32} {off : Int} {tgt : Nat} (hd : decode cc pc = .ok (.if_icmp .ge off, 3)) (ht : (pc : Int) + off = (tgt : Int)) (KT : y ≤ x → vx_V D cl A H0 nL G h k n tgt lv st) (KF : ¬ y ≤ x → vx_V D cl A H0 nL G h k n (pc + 3) lv st) : vx_V D cl A H0 nL G h k n pc lv (.int y :: .int x :: st) := by
  obtain ⟨p, e, s, m, args, below, meth, c, Q, rfl, hx, hb, -⟩ := IG
  intro H locs ls g1 g2 g3
  exact lv_icmp_ge hx hb hd ht (fun q => KT q H locs ls g1 g2 g3) (fun q => KF q H locs ls g1 g2 g3)
theorem vx_if_gt (IG : vx_I l D cl tys R own cc nL Ts ct A H0 G) {x : Int32} {off : Int} {tgt : Nat} (hd : decode cc pc = .ok (.ifCond .gt off, 3)) (ht : (pc : Int) + off = (tgt : Int)) (KT : 0 < x → vx_V D cl A H0 nL G h k n tgt lv st) (KF : ¬ 0 < x → vx_V D cl A H0 nL G h k n (pc + 3) lv st) : vx_V D cl A H0 nL G h k n pc lv (.int x :: st) := by
  obtain ⟨p, e, s, m, args, below, meth, c, Q, rfl, hx, hb, -⟩ := IG
  intro H locs ls g1 g2 g3
  exact lv_if_gt hx hb hd ht (fun q => KT q H locs ls g1 g2 g3) (fun q => KF q H locs ls g1 g2 g3)
theorem vx_icmp_gt (IG : vx_I l D cl tys R own cc nL Ts ct A H0 G) {x y : Int32} {off : Int} {tgt : Nat} (hd : decode cc pc = .ok (.if_icmp .gt off, 3)) (ht : (pc : Int) + off = (tgt : Int)) (KT : y < x → vx_V D cl A H0 nL G h k n tgt lv st) (KF : ¬ y < x → vx_V D cl A H0 nL G h k n (pc + 3) lv st) : vx_V D cl A H0 nL G h k n pc lv (.int y :: .int x :: st) := by
  obtain ⟨p, e, s, m, args, below, meth, c, Q, rfl, hx, hb, -⟩ := IG
  intro H locs ls g1 g2 g3
  exact lv_icmp_gt hx hb hd ht (fun q => KT q H locs ls g1 g2 g3) (fun q => KF q H locs ls g1 g2 g3)
theorem vx_if_le (IG : vx_I l D cl tys R own cc nL Ts ct A H0 G) {x : Int32} {off : Int} {tgt : Nat} (hd : decode cc pc = .ok (.ifCond .le off, 3)) (ht : (pc : Int) + off = (tgt : Int)) (KT : x ≤ 0 → vx_V D cl A H0 nL G h k n tgt lv st) (KF : ¬ x ≤ 0 → vx_V D cl A H0 nL G h k n (pc + 3) lv st) : vx_V D cl A H0 nL G h k n pc lv (.int x :: st) := by
  obtain ⟨p, e, s, m, args, below, meth, c, Q, rfl, hx, hb, -⟩ := IG
  intro H locs ls g1 g2 g3
  exact lv_if_le hx hb hd ht (fun q => KT q H locs ls g1 g2 g3) (fun q => KF q H locs ls g1 g2 g3)
theorem vx_icmp_le (IG : vx_I l D cl tys R own cc nL Ts ct A H0 G) {x y : Int32} {off : Int} {tgt : Nat} (hd : decode cc pc = .ok (.if_icmp .le off, 3)) (ht : (pc : Int) + off = (tgt : Int)) (KT : x ≤ y → vx_V D cl A H0 nL G h k n tgt lv st) (KF : ¬ x ≤ y → vx_V D cl A H0 nL G h k n (pc + 3) lv st) : vx_V D cl A H0 nL G h k n pc lv (.int y :: .int x :: st) := by
  obtain ⟨p, e, s, m, args, below, meth, c, Q, rfl, hx, hb, -⟩ := IG
  intro H locs ls g1 g2 g3
  exact lv_icmp_le hx hb hd ht (fun q => KT q H locs ls g1 g2 g3) (fun q => KF q H locs ls g1 g2 g3)
theorem vx_goto (IG : vx_I l D cl tys R own cc nL Ts ct A H0 G) {off : Int} {tgt : Nat} (hd : decode cc pc = .ok (.goto off, 3)) (ht : (pc : Int) + off = (tgt : Int)) (K : vx_V D cl A H0 nL G h k n tgt lv st) : vx_V D cl A H0 nL G h k n pc lv (st) := by
  obtain ⟨p, e, s, m, args, below, meth, c, Q, rfl, hx, hb, -⟩ := IG
  intro H locs ls g1 g2 g3
  exact lv_goto hx hb hd ht (K H locs ls g1 g2 g3)
theorem vx_same (IG : vx_I l D cl tys R own cc nL Ts ct A H0 G) {lv' : List (Nat × Value)} (ks : List Nat) (hl : lv_pick lv ks = lv') (K : vx_V D cl A H0 nL G h k n pc lv' st) : vx_V D cl A H0 nL G h k n pc lv st :=
  fun H locs ls g1 g2 g3 => K H locs ls g1 g2 (lv_sub g3 ks hl)
theorem vx_widen (IG : vx_I l D cl tys R own cc nL Ts ct A H0 G) {k' n' : Nat} (hk : k ≤ k') (hn : n ≤ n') (K : vx_V D cl A H0 nL G h k' n' pc lv st) : vx_V D cl A H0 nL G h k n pc lv st := by
  obtain ⟨p, e, s, m, args, below, meth, c, Q, rfl, hx, hb, -⟩ := IG
  intro H locs ls g1 g2 g3
  exact W.widen hk hn (K H locs ls g1 g2 g3)
theorem vx_ldc (IG : vx_I l D cl tys R own cc nL Ts ct A H0 G) {index : Nat} {v : Int32} (hm : Cond.constant own index v ∈ Ts) (hd : decode cc pc = .ok (.ldc index, 2)) (K : vx_V D cl A H0 nL G h k n (pc + 2) lv (.int v :: st)) : vx_V D cl A H0 nL G h k n pc lv st := by
  obtain ⟨p, e, s, m, args, below, meth, c, Q, rfl, hx, hb, hml, hown, hts, -⟩ := IG
  intro H locs ls g1 g2 g3
  exact lv_ldc hx hb hown (hts _ hm) hd (K H locs ls g1 g2 g3)
theorem vx_ldc2 (IG : vx_I l D cl tys R own cc nL Ts ct A H0 G) {index : Nat} {v : Int64} (hm : Cond.constantLong own index v ∈ Ts) (hd : decode cc pc = .ok (.ldc2_w index, 3)) (K : vx_V D cl A H0 nL G h k n (pc + 3) lv (.long v :: st)) : vx_V D cl A H0 nL G h k n pc lv st := by
  obtain ⟨p, e, s, m, args, below, meth, c, Q, rfl, hx, hb, hml, hown, hts, -⟩ := IG
  intro H locs ls g1 g2 g3
  exact lv_ldc2 hx hb hown (hts _ hm) hd (K H locs ls g1 g2 g3)
/-- the body's end -/
theorem vx_ret {ret : Option FieldType} {post : Option Value → vx_h → Nat → Nat → Prop} (v : Option Value) (RG : vx_R D cl A H0 cc ret post G) (he : vx_end ret cc pc v) (hs : v.toList = st) (hp : post v h k n) : vx_V D cl A H0 nL G h k n pc lv st := by
  intro H locs ls g1 g2 g3
  rw [← hs]
  exact RG H locs ls pc k n h v g1 g2 he hp
theorem vx_endv (hd : decode cc pc = .ok (.return_, 1)) : vx_end none cc pc none := Or.inl ⟨rfl, rfl, hd⟩
theorem vx_endi {ty : FieldType} {x : Int32} (hn : narrow ty (.int x) = .int x) (hd : decode cc pc = .ok (.ireturn, 1)) : vx_end (some ty) cc pc (some (.int x)) := Or.inr (Or.inl ⟨ty, x, rfl, hn, rfl, hd⟩)
theorem vx_endl {x : Int64} (hd : decode cc pc = .ok (.lreturn, 1)) : vx_end (some .long) cc pc (some (.long x)) := Or.inr (Or.inr (Or.inl ⟨x, rfl, rfl, hd⟩))
theorem vx_enda {ty : FieldType} {x : Nat} (ht : (∃ n, ty = .object n) ∨ ∃ t, ty = .array t) (hd : decode cc pc = .ok (.areturn, 1)) : vx_end (some ty) cc pc (some (.ref x)) := Or.inr (Or.inr (Or.inr ⟨ty, x, rfl, ht, rfl, hd⟩))
/-- a field is read -/
theorem vx_get (IG : vx_I l D cl tys R own cc nL Ts ct A H0 G) {C ref : String} {T : u_T} {N ci index a : Nat} {fs : List Value} {v : Value} (he : h a = some (.inr (ci, fs))) (hc : cl[ci]? = some (C, T, N)) (j : Nat) (hj : j < N) (hin : ∀ w ∈ u_ws C T N, w ∈ Ts) (hm : Cond.fieldLink own index ref (T j).2.1 (T j).2.2.1 ∈ Ts) (hr : (T j).1 = ref) (hv : fs[j]? = some v) (hd : decode cc pc = .ok (.getfield index, 3)) (K : vx_V D cl A H0 nL G h k n (pc + 3) lv (v :: st)) : vx_V D cl A H0 nL G h k n pc lv (.ref a :: st) := by
  obtain ⟨p, e, s, m, args, below, meth, c, Q, rfl, hx, hb, hml, hown, hts, hK, -⟩ := IG
  intro H locs ls g1 g2 g3
  obtain ⟨ws, hP, hD, cov⟩ := vx_list g1
  obtain ⟨q, hq⟩ := cov a _ he
  subst hr
  exact va_get hx hb hts hin hown hK hP q hq hc j hj (hts _ hm) (fun _ z => z) hv hd (K H locs ls g1 g2 g3)
theorem vx_getN (IG : vx_I l D cl tys R own cc nL Ts ct A H0 G) {C ref host : String} {T : u_T} {N ci index a : Nat} {fs : List Value} {v : Value} (he : h a = some (.inr (ci, fs))) (hc : cl[ci]? = some (C, T, N)) (j : Nat) (hj : j < N) (hin : ∀ w ∈ u_ws C T N, w ∈ Ts) (hm : Cond.fieldLinkNest own index ref (T j).2.1 (T j).2.2.1 host ∈ Ts) (hr : (T j).1 = ref) (hv : fs[j]? = some v) (hd : decode cc pc = .ok (.getfield index, 3)) (K : vx_V D cl A H0 nL G h k n (pc + 3) lv (v :: st)) : vx_V D cl A H0 nL G h k n pc lv (.ref a :: st) := by
  obtain ⟨p, e, s, m, args, below, meth, c, Q, rfl, hx, hb, hml, hown, hts, hK, -⟩ := IG
  intro H locs ls g1 g2 g3
  obtain ⟨ws, hP, hD, cov⟩ := vx_list g1
  obtain ⟨q, hq⟩ := cov a _ he
  subst hr
  exact va_getN hx hb hts hin hown hK hP q hq hc j hj (hts _ hm) (fun _ z => z) hv hd (K H locs ls g1 g2 g3)
/-- a field is written -/
theorem vx_put (IG : vx_I l D cl tys R own cc nL Ts ct A H0 G) {C ref : String} {T : u_T} {N ci index a : Nat} {fs : List Value} {v : Value} {ty : FieldType} (he : h a = some (.inr (ci, fs))) (hc : cl[ci]? = some (C, T, N)) (j : Nat) (hj : j < N) (hin : ∀ w ∈ u_ws C T N, w ∈ Ts) (ty0 : Nat → FieldType) (hty : ∀ k, k < N → parseFieldDescriptor (T k).2.2.1 = some (ty0 k)) (hnm : ∀ a, a < N → ∀ b, b < N → a ≠ b → (T a).2.1 ≠ (T b).2.1) (hm : Cond.fieldLink own index ref (T j).2.1 (T j).2.2.1 ∈ Ts) (hr : (T j).1 = ref) (hfin : (T j).2.2.2 = false) (hpd : parseFieldDescriptor (T j).2.2.1 = some ty) (hn : narrow ty v = v) (hfit : fits ty v = true) (hl : j < fs.length) (hd : decode cc pc = .ok (.putfield index, 3)) (K : vx_V D cl A H0 nL G (vx_up h a (.inr (ci, fs.set j v))) k n (pc + 3) lv st) : vx_V D cl A H0 nL G h k n pc lv (v :: .ref a :: st) := by
  obtain ⟨p, e, s, m, args, below, meth, c, Q, rfl, hx, hb, hml, hown, hts, hK, -⟩ := IG
  intro H locs ls g1 g2 g3
  obtain ⟨ws, hP, hD, cov⟩ := vx_list g1
  obtain ⟨q, hq⟩ := cov a _ he
  subst hr
  exact va_put hx hb hts hin ty0 hty hnm hown hK hP hD g2 q hq hc j hj (hts _ hm) (fun _ z => z) hfin hpd hn hfit hl hd (fun H1 locs1 hP1 hD1 hS1 => K H1 locs1 ls (vx_set hq cov hP1 hD1) hS1 g3)
theorem vx_putF (IG : vx_I l D cl tys R own cc nL Ts true A H0 G) {C : String} {T : u_T} {N ci index a : Nat} {fs : List Value} {v : Value} {ty : FieldType} (he : h a = some (.inr (ci, fs))) (hc : cl[ci]? = some (C, T, N)) (j : Nat) (hj : j < N) (hin : ∀ w ∈ u_ws C T N, w ∈ Ts) (ty0 : Nat → FieldType) (hty : ∀ k, k < N → parseFieldDescriptor (T k).2.2.1 = some (ty0 k)) (hnm : ∀ a, a < N → ∀ b, b < N → a ≠ b → (T a).2.1 ≠ (T b).2.1) (hm : Cond.fieldLink own index own (T j).2.1 (T j).2.2.1 ∈ Ts) (hr : (T j).1 = own) (hfin : (T j).2.2.2 = true) (hpd : parseFieldDescriptor (T j).2.2.1 = some ty) (hn : narrow ty v = v) (hfit : fits ty v = true) (hl : j < fs.length) (hd : decode cc pc = .ok (.putfield index, 3)) (K : vx_V D cl A H0 nL G (vx_up h a (.inr (ci, fs.set j v))) k n (pc + 3) lv st) : vx_V D cl A H0 nL G h k n pc lv (v :: .ref a :: st) := by
  obtain ⟨p, e, s, m, args, below, meth, c, Q, rfl, hx, hb, hml, hown, hts, hK, hN, hh0, hA, hin2⟩ := IG
  intro H locs ls g1 g2 g3
  obtain ⟨ws, hP, hD, cov⟩ := vx_list g1
  obtain ⟨q, hq⟩ := cov a _ he
  exact va_putF hx hb hts hin ty0 hty hnm hown hK hP hD g2 q hq hc j hj (hts _ hm) (fun _ z => by rw [← hr]; exact z) hfin (hin2 rfl) hr hpd hn hfit hl hd (fun H1 locs1 hP1 hD1 hS1 => K H1 locs1 ls (vx_set hq cov hP1 hD1) hS1 g3)
/-- arrays -/
theorem vx_lald (IG : vx_I l D cl tys R own cc nL Ts ct A H0 G) {a : Nat} {cA : ClassId} {N : Nat} {f : Nat → Int64} {i : Int32} {x : Int64} (he : h a = some (.inl (cA, N, .inr (.inl f)))) (t0 : Nat) (ht : tys[t0]? = some (cA, .long)) (hin : vp_in i N) (hv : f i.toNatClampNeg = x) (hd : decode cc pc = .ok (.laload, 1)) (K : vx_V D cl A H0 nL G h k n (pc + 1) lv (.long x :: st)) : vx_V D cl A H0 nL G h k n pc lv (.int i :: .ref a :: st) := by
  obtain ⟨p, e, s, m, args, below, meth, c, Q, rfl, hx, hb, hml, hown, hts, hK, -⟩ := IG
  intro H locs ls g1 g2 g3
  obtain ⟨ws, hP, hD, cov⟩ := vx_list g1
  obtain ⟨q, hq⟩ := cov a _ he
  subst hv
  exact va_lald hx hb hK hP q t0 hq ht hin hd (K H locs ls g1 g2 g3)
theorem vx_last (IG : vx_I l D cl tys R own cc nL Ts ct A H0 G) {a : Nat} {cA : ClassId} {N : Nat} {f : Nat → Int64} {i : Int32} {x : Int64} (he : h a = some (.inl (cA, N, .inr (.inl f)))) (t0 : Nat) (ht : tys[t0]? = some (cA, .long)) (hin : vp_in i N) (hd : decode cc pc = .ok (.lastore, 1)) (K : vx_V D cl A H0 nL G (vx_up h a (.inl (cA, N, .inr (.inl (vp_updL f i.toNatClampNeg x))))) k n (pc + 1) lv st) : vx_V D cl A H0 nL G h k n pc lv (.long x :: .int i :: .ref a :: st) := by
  obtain ⟨p, e, s, m, args, below, meth, c, Q, rfl, hx, hb, hml, hown, hts, hK, -⟩ := IG
  intro H locs ls g1 g2 g3
  obtain ⟨ws, hP, hD, cov⟩ := vx_list g1
  obtain ⟨q, hq⟩ := cov a _ he
  exact va_last hx hb hK hP hD g2 q t0 hq ht hin hd (fun H1 locs1 hP1 hD1 hS1 => K H1 locs1 ls (vx_set hq cov hP1 hD1) hS1 g3)
theorem vx_iald (IG : vx_I l D cl tys R own cc nL Ts ct A H0 G) {a : Nat} {cA : ClassId} {N : Nat} {f : Nat → Int32} {i : Int32} {x : Int32} (he : h a = some (.inl (cA, N, .inl f))) (t0 : Nat) (ht : tys[t0]? = some (cA, .int)) (hin : vp_in i N) (hv : f i.toNatClampNeg = x) (hd : decode cc pc = .ok (.iaload, 1)) (K : vx_V D cl A H0 nL G h k n (pc + 1) lv (.int x :: st)) : vx_V D cl A H0 nL G h k n pc lv (.int i :: .ref a :: st) := by
  obtain ⟨p, e, s, m, args, below, meth, c, Q, rfl, hx, hb, hml, hown, hts, hK, -⟩ := IG
  intro H locs ls g1 g2 g3
  obtain ⟨ws, hP, hD, cov⟩ := vx_list g1
  obtain ⟨q, hq⟩ := cov a _ he
  subst hv
  exact va_iald hx hb hK hP q t0 hq ht hin hd (K H locs ls g1 g2 g3)
theorem vx_iast (IG : vx_I l D cl tys R own cc nL Ts ct A H0 G) {a : Nat} {cA : ClassId} {N : Nat} {f : Nat → Int32} {i : Int32} {x : Int32} (he : h a = some (.inl (cA, N, .inl f))) (t0 : Nat) (ht : tys[t0]? = some (cA, .int)) (hin : vp_in i N) (hd : decode cc pc = .ok (.iastore, 1)) (K : vx_V D cl A H0 nL G (vx_up h a (.inl (cA, N, .inl (upd f i.toNatClampNeg x)))) k n (pc + 1) lv st) : vx_V D cl A H0 nL G h k n pc lv (.int x :: .int i :: .ref a :: st) := by
  obtain ⟨p, e, s, m, args, below, meth, c, Q, rfl, hx, hb, hml, hown, hts, hK, -⟩ := IG
  intro H locs ls g1 g2 g3
  obtain ⟨ws, hP, hD, cov⟩ := vx_list g1
  obtain ⟨q, hq⟩ := cov a _ he
  exact va_iast hx hb hK hP hD g2 q t0 hq ht hin hd (fun H1 locs1 hP1 hD1 hS1 => K H1 locs1 ls (vx_set hq cov hP1 hD1) hS1 g3)
theorem vx_zald (IG : vx_I l D cl tys R own cc nL Ts ct A H0 G) {a : Nat} {cA : ClassId} {N : Nat} {f : Nat → Int32} {i : Int32} {x : Int32} (he : h a = some (.inl (cA, N, .inl f))) (t0 : Nat) (ht : tys[t0]? = some (cA, .boolean)) (hin : vp_in i N) (hv : f i.toNatClampNeg = x) (hd : decode cc pc = .ok (.baload, 1)) (K : vx_V D cl A H0 nL G h k n (pc + 1) lv (.int x :: st)) : vx_V D cl A H0 nL G h k n pc lv (.int i :: .ref a :: st) := by
  obtain ⟨p, e, s, m, args, below, meth, c, Q, rfl, hx, hb, hml, hown, hts, hK, -⟩ := IG
  intro H locs ls g1 g2 g3
  obtain ⟨ws, hP, hD, cov⟩ := vx_list g1
  obtain ⟨q, hq⟩ := cov a _ he
  subst hv
  exact va_zald hx hb hK hP q t0 hq ht hin hd (K H locs ls g1 g2 g3)
theorem vx_zast (IG : vx_I l D cl tys R own cc nL Ts ct A H0 G) {a : Nat} {cA : ClassId} {N : Nat} {f : Nat → Int32} {i : Int32} {x : Int32} (he : h a = some (.inl (cA, N, .inl f))) (t0 : Nat) (ht : tys[t0]? = some (cA, .boolean)) (hin : vp_in i N) (hd : decode cc pc = .ok (.bastore, 1)) (K : vx_V D cl A H0 nL G (vx_up h a (.inl (cA, N, .inl (upd f i.toNatClampNeg (vp_nar .boolean x))))) k n (pc + 1) lv st) : vx_V D cl A H0 nL G h k n pc lv (.int x :: .int i :: .ref a :: st) := by
  obtain ⟨p, e, s, m, args, below, meth, c, Q, rfl, hx, hb, hml, hown, hts, hK, -⟩ := IG
  intro H locs ls g1 g2 g3
  obtain ⟨ws, hP, hD, cov⟩ := vx_list g1
  obtain ⟨q, hq⟩ := cov a _ he
  exact va_zast hx hb hK hP hD g2 q t0 hq ht hin hd (fun H1 locs1 hP1 hD1 hS1 => K H1 locs1 ls (vx_set hq cov hP1 hD1) hS1 g3)
theorem vx_aald (IG : vx_I l D cl tys R own cc nL Ts ct A H0 G) {a x : Nat} {cA : ClassId} {C : String} {N : Nat} {f : Nat → Option Nat} {i : Int32} (he : h a = some (.inl (cA, N, .inr (.inr (.inr (.inr f)))))) (t0 : Nat) (ht : tys[t0]? = some (cA, .object C)) (hin : vp_in i N) (hv : f i.toNatClampNeg = some x) (hd : decode cc pc = .ok (.aaload, 1)) (K : vx_V D cl A H0 nL G h k n (pc + 1) lv (.ref x :: st)) : vx_V D cl A H0 nL G h k n pc lv (.int i :: .ref a :: st) := by
  obtain ⟨p, e, s, m, args, below, meth, c, Q, rfl, hx, hb, hml, hown, hts, hK, -⟩ := IG
  intro H locs ls g1 g2 g3
  obtain ⟨ws, hP, hD, cov⟩ := vx_list g1
  obtain ⟨q, hq⟩ := cov a _ he
  refine va_aldq hx hb hK hP q t0 hq ht hin hd ?_
  rw [hv]
  exact K H locs ls g1 g2 g3
theorem vx_aast (IG : vx_I l D cl tys R own cc nL Ts ct A H0 G) {a v ci : Nat} {cA : ClassId} {r : vw_C} {N : Nat} {vs : List Value} {f : Nat → Option Nat} {i : Int32} (he : h a = some (.inl (cA, N, .inr (.inr (.inr (.inr f)))))) (t0 : Nat) (ht : tys[t0]? = some (cA, .object r.1)) (hv : h v = some (.inr (ci, vs))) (hc : cl[ci]? = some r) (hin : vp_in i N) (hd : decode cc pc = .ok (.aastore, 1)) (K : vx_V D cl A H0 nL G (vx_up h a (.inl (cA, N, .inr (.inr (.inr (.inr (va_up f i.toNatClampNeg (some v)))))))) k n (pc + 1) lv st) : vx_V D cl A H0 nL G h k n pc lv (.ref v :: .int i :: .ref a :: st) := by
  obtain ⟨p, e, s, m, args, below, meth, c, Q, rfl, hx, hb, hml, hown, hts, hK, -⟩ := IG
  intro H locs ls g1 g2 g3
  obtain ⟨ws, hP, hD, cov⟩ := vx_list g1
  obtain ⟨q, hq⟩ := cov a _ he
  obtain ⟨q2, hq2⟩ := cov v _ hv
  exact va_astq hx hb hK hP hD g2 q t0 q2 ci hq ht hq2 hc hin hd (fun H1 locs1 hP1 hD1 hS1 => K H1 locs1 ls (vx_set hq cov hP1 hD1) hS1 g3)
theorem vx_alen (IG : vx_I l D cl tys R own cc nL Ts ct A H0 G) {a : Nat} {cA : ClassId} {x : vp_A} (he : h a = some (.inl (cA, x))) (t0 : Nat) {ty : FieldType} (ht : tys[t0]? = some (cA, ty)) {v : Int32} (hv : Int32.ofNat x.1 = v) (hd : decode cc pc = .ok (.arraylength, 1)) (K : vx_V D cl A H0 nL G h k n (pc + 1) lv (.int v :: st)) : vx_V D cl A H0 nL G h k n pc lv (.ref a :: st) := by
  obtain ⟨p, e, s, m, args, below, meth, c, Q, rfl, hx, hb, hml, hown, hts, hK, -⟩ := IG
  intro H locs ls g1 g2 g3
  obtain ⟨ws, hP, hD, cov⟩ := vx_list g1
  obtain ⟨q, hq⟩ := cov a _ he
  exact va_alen hx hb hK hP q t0 hq ht hv hd (K H locs ls g1 g2 g3)
/-- a new array of numbers: a is none of the tracked -/
theorem vx_newa (IG : vx_I l D cl tys R own cc nL Ts ct A H0 G) {atype : ArrayType} {ty : FieldType} {cA : ClassId} (hm : Cond.arrayClass (newarray.typeOf atype) ∈ Ts) (hty : newarray.typeOf atype = ty) (t0 : Nat) (ht : tys[t0]? = some (cA, ty)) (hRA : ∀ (U : State) (c : ClassId), va_RA U c ty → U.vm.findClass ("[" ++ ty.toString) = some c) {i : Int32} {N : Nat} {a0 : vp_A} (ha : ∀ cA : ClassId, vp_cell cA a0 = arrV cA N (fun _ => defaultValue ty)) (hn : ¬ i < 0) (hN : i.toNatClampNeg = N) (hby : N * componentBytes ty ≤ 536870912) (hcells : k + 1 ≤ R.cells) (hslots : n + N ≤ R.slots) (hd : decode cc pc = .ok (.newarray atype, 2)) (K : ∀ a : Nat, h a = none → vx_V D cl A H0 nL G (vx_up h a (.inl (cA, a0))) (k + 1) (n + N) (pc + 2) lv (.ref a :: st)) : vx_V D cl A H0 nL G h k n pc lv (.int i :: st) := by
  obtain ⟨p, e, s, m, args, below, meth, c, Q, rfl, hx, hb, hml, hown, hts, hK, hNn, hh0, hA, -⟩ := IG
  intro H locs ls g1 g2 g3
  obtain ⟨ws, hP, hD, cov⟩ := vx_list g1
  refine va_newa hx hb (hts _ hm) hty hK hP hD g2 hA ha hn hN hby hcells hslots hd (fun q cB H1 hK1 hP1 hD1 hS1 => ?_)
  have e1 := hRA s cB (hK1.2 tys.length (cB, ty) (by simp)).2
  have e2 := hRA s cA (hK.2 t0 _ ht).2
  obtain rfl : cB = cA := Option.some.inj (e1.symm.trans e2)
  refine K q ?_ H1 locs ls (vx_push cov hP1 hD1) hS1 g3
  cases hq : h q with
  | none => rfl
  | some z =>
    obtain ⟨j, hj⟩ := cov q z hq
    have hl := (List.getElem?_eq_some_iff.mp hj).1
    have h1 : (ws ++ [(q, Sum.inl (cB, a0))])[j]? = some (q, z) := by rw [List.getElem?_append_left hl]; exact hj
    have h2 : (ws ++ [((q, Sum.inl (cB, a0)) : Nat × va_E)])[ws.length]? = some (q, Sum.inl (cB, a0)) := by simp
    have := hD1.1 j ws.length _ _ h1 h2 rfl
    omega
/-- a new object -/
theorem vx_new (IG : vx_I l D cl tys R own cc nL Ts ct A H0 G) {C : String} {T : u_T} {N ci index : Nat} {fs : List Value} (hc : cl[ci]? = some (C, T, N)) (hin : ∀ w ∈ u_ws C T N, w ∈ Ts) (ty0 : Nat → FieldType) (hty : ∀ k, k < N → parseFieldDescriptor (T k).2.2.1 = some (ty0 k)) (hm1 : Cond.classLink own index C ∈ Ts) (hm2 : Cond.instantiable C N ∈ Ts) (hm3 : Cond.initialized C ∈ Ts) (hfs : ∀ j, j < N → defaultValue (ty0 j) = vp_V fs j) (hcells : k + 1 ≤ R.cells) (hslots : n + N ≤ R.slots) (hd : decode cc pc = .ok (.new index, 3)) (K : ∀ a : Nat, h a = none → vx_V D cl A H0 nL G (vx_up h a (.inr (ci, fs))) (k + 1) (n + N) (pc + 3) lv (.ref a :: st)) : vx_V D cl A H0 nL G h k n pc lv st := by
  obtain ⟨p, e, s, m, args, below, meth, c, Q, rfl, hx, hb, hml, hown, hts, hK, hN, hh0, hA, -⟩ := IG
  intro H locs ls g1 g2 g3
  obtain ⟨ws, hP, hD, cov⟩ := vx_list g1
  refine va_new hx hb hts hin ty0 hty hown (hts _ hm1) (hts _ hm2) (hts _ hm3) hK hP hD g2 hA hc hfs hcells hslots hd (fun q H1 hP1 hD1 hS1 => ?_)
  refine K q ?_ H1 locs ls (vx_push cov hP1 hD1) hS1 g3
  cases hq : h q with
  | none => rfl
  | some z =>
    obtain ⟨j, hj⟩ := cov q z hq
    have hl := (List.getElem?_eq_some_iff.mp hj).1
    have h1 : (ws ++ [(q, Sum.inr (ci, fs))])[j]? = some (q, z) := by rw [List.getElem?_append_left hl]; exact hj
    have h2 : (ws ++ [((q, Sum.inr (ci, fs)) : Nat × va_E)])[ws.length]? = some (q, Sum.inr (ci, fs)) := by simp
    have := hD1.1 j ws.length _ _ h1 h2 rfl
    omega
/-- System.arraycopy over longs -/
theorem vx_copyl (IG : vx_I l D cl tys R own cc nL Ts ct A H0 G) {index a0 a1 : Nat} {cA : ClassId} {n0 n1 : Nat} {f g : Nat → Int64} (hm1 : Cond.methodLink own index arraycopyName ∈ Ts) (hm2 : Cond.native arraycopyName ∈ Ts) (hm3 : Cond.static arraycopyName ∈ Ts) (hm4 : Cond.initialized "java/lang/System" ∈ Ts) (he0 : h a0 = some (.inl (cA, n0, .inr (.inl f)))) (he1 : h a1 = some (.inl (cA, n1, .inr (.inl g)))) (t0 : Nat) (ht : tys[t0]? = some (cA, .long)) {sp dp w : Int32} (h1 : ¬ sp < 0) (h2 : ¬ dp < 0) (h3 : ¬ w < 0) (h4 : sp.toNatClampNeg + w.toNatClampNeg ≤ n0) (h5 : dp.toNatClampNeg + w.toNatClampNeg ≤ n1) (hfr : 1 ≤ R.frames) (hlo : (st.map fun v => v.category).sum + (nativeFrameWords "java/lang/System" "arraycopy" 5 + 11) ≤ R.locals) (hd : decode cc pc = .ok (.invokestatic index, 3)) (K : vx_V D cl A H0 nL G (vx_up h a1 (.inl (cA, n1, .inr (.inl (va_cpy f g sp.toNatClampNeg dp.toNatClampNeg w.toNatClampNeg))))) k n (pc + 3) lv st) : vx_V D cl A H0 nL G h k n pc lv (.int w :: .int dp :: .ref a1 :: .int sp :: .ref a0 :: st) := by
  obtain ⟨p, e, s, m, args, below, meth, c, Q, rfl, hx, hb, hml, hown, hts, hK, -⟩ := IG
  intro H locs ls g1 g2 g3
  obtain ⟨ws, hP, hD, cov⟩ := vx_list g1
  obtain ⟨q, hq⟩ := cov a0 _ he0
  obtain ⟨q2, hq2⟩ := cov a1 _ he1
  exact va_copyl hx hb (hml.trans g3.1.symm) hown (hts _ hm1) (hts _ hm2) (hts _ hm3) (hts _ hm4) hK hP hD g2 q q2 t0 t0 hq hq2 ht ht rfl h1 h2 h3 h4 h5 (fun i hi => rfl) hfr hlo hd (fun H1 locs1 hP1 hD1 hS1 => K H1 locs1 ls (vx_set hq2 cov hP1 hD1) hS1 g3)
theorem vx_topi {x y : Int32} (e : x = y) (K : vx_V D cl A H0 nL G h k n pc lv (.int y :: st)) : vx_V D cl A H0 nL G h k n pc lv (.int x :: st) := by subst e; exact K
theorem vx_topl {x y : Int64} (e : x = y) (K : vx_V D cl A H0 nL G h k n pc lv (.long y :: st)) : vx_V D cl A H0 nL G h k n pc lv (.long x :: st) := by subst e; exact K
/-- a new array of references -/
theorem vx_newq (IG : vx_I l D cl tys R own cc nL Ts ct A H0 G) {index t0 : Nat} {cA : ClassId} (hm : Cond.classLink own index "SignedMill$Whole" ∈ Ts) (ht : tys[t0]? = some (cA, .object "SignedMill$Whole")) {i : Int32} {N : Nat} (hn : ¬ i < 0) (hN : i.toNatClampNeg = N) (hby : N * 4 ≤ 536870912) (hcells : k + 1 ≤ R.cells) (hslots : n + N ≤ R.slots) (hd : decode cc pc = .ok (.anewarray index, 3)) (K : ∀ a : Nat, h a = none → vx_V D cl A H0 nL G (vx_up h a (.inl (cA, N, .inr (.inr (.inr (.inr (fun _ => none))))))) (k + 1) (n + N) (pc + 3) lv (.ref a :: st)) : vx_V D cl A H0 nL G h k n pc lv (.int i :: st) := by
  obtain ⟨p, e, s, m, args, below, meth, c, Q, rfl, hx, hb, hml, hown, hts, hK, hNn, hh0, hA, -⟩ := IG
  intro H locs ls g1 g2 g3
  obtain ⟨ws, hP, hD, cov⟩ := vx_list g1
  refine va_newq hx hb hown (hts _ hm) hNn.2 hK hP hD g2 hA hn hN hby hcells hslots hd (fun q cB H1 hK1 hP1 hD1 hS1 => ?_)
  obtain ⟨-, -, -, -, -, e1⟩ := (hK1.2 tys.length (cB, .object "SignedMill$Whole") (by simp)).2
  obtain ⟨-, -, -, -, -, e2⟩ := (hK.2 t0 _ ht).2
  obtain rfl : cB = cA := Option.some.inj (e1.symm.trans e2)
  refine K q ?_ H1 locs ls (vx_push cov hP1 hD1) hS1 g3
  cases hq : h q with
  | none => rfl
  | some z =>
    obtain ⟨j, hj⟩ := cov q z hq
    have hl := (List.getElem?_eq_some_iff.mp hj).1
    have h1 := (List.getElem?_append_left (l₂ := [((q, Sum.inl (cB, N, .inr (.inr (.inr (.inr (fun _ => none)))))) : Nat × va_E)]) hl).trans hj
    have h2 : (ws ++ [((q, Sum.inl (cB, N, .inr (.inr (.inr (.inr (fun _ => none)))))) : Nat × va_E)])[ws.length]? = some (q, Sum.inl (cB, N, .inr (.inr (.inr (.inr (fun _ => none)))))) := by simp
    have := hD1.1 j ws.length _ _ h1 h2 rfl
    omega
end
