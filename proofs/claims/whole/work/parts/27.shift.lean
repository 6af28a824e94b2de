/-! Whole: raise, lower, turnOver, repeat -/
theorem bB2 {l : Nat} (h : l ≤ 32) : 4294967296 = 2 ^ l * 2 ^ (32 - l) := bb_split (w := 32) h
/-- a digit of A * 2^l, as the machine joins it -/
theorem rs_dg {A k l : Nat} (h : l ≤ 32) : (dg 4294967296 A k * 2 ^ l + (if k = 0 then 0 else dg 4294967296 A (k - 1) / 2 ^ (32 - l))) % 4294967296 = dg 4294967296 (A * 2 ^ l) k := by
  cases k with
  | zero => rw [if_pos rfl, Nat.add_zero, dg_shl0]
  | succ k =>
    have hq : 0 < 2 ^ (32 - l) := Nat.pow_pos (by decide)
    have hc : dg 4294967296 A k / 2 ^ (32 - l) < 2 ^ l := by
      rw [Nat.div_lt_iff_lt_mul hq, ← bB2 h]
      exact dg_lt bB1 A k
    rw [if_neg (by omega), Nat.add_sub_cancel, dg_shl_g bB1 (bB2 h)]
    have := md_shift (x := dg 4294967296 A (k + 1)) hq hc
    rw [← bB2 h] at this
    exact this
theorem ls_dg {A k l : Nat} (h : l ≤ 32) : (dg 4294967296 A k / 2 ^ l + dg 4294967296 A (k + 1) * 2 ^ (32 - l)) % 4294967296 = dg 4294967296 (A / 2 ^ l) k := by
  have hp : 0 < 2 ^ l := Nat.pow_pos (by decide)
  have hc : dg 4294967296 A k / 2 ^ l < 2 ^ (32 - l) := by
    rw [Nat.div_lt_iff_lt_mul hp, Nat.mul_comm, ← bB2 h]
    exact dg_lt bB1 A k
  rw [dg_shr_g bB1 (bB2 h), Nat.add_comm]
  have := md_shift (x := dg 4294967296 A (k + 1)) hp hc
  rw [Nat.mul_comm (2 ^ (32 - l)), ← bB2 h] at this
  exact this
theorem nI_sub32 {l : Nat} (h : l ≤ 32) : (32 : Int32) - nI l = nI (32 - l) := pk_sub h
theorem nI_and31 {n : Nat} (h : n < 2 ^ 31) : nI n &&& 31 = nI (n % 32) := pk_andN (by omega) 5 (by decide)
theorem nI_div32 {n : Nat} (h : n < 2 ^ 31) : nI n / 32 = nI (n / 32) := pk_div h (by decide) (by decide)
theorem nI_ne32 : ¬ (32 : Int32) = 0 := by decide
theorem p2_32 (n : Nat) : 2 ^ n = 2 ^ (n % 32) * 4294967296 ^ (n / 32) := by
  rw [show 4294967296 = 2 ^ 32 from rfl, ← Nat.pow_mul, ← Nat.pow_add]
  congr 1
  omega
theorem nd_raise {A n : Nat} : nd 4294967296 (A * 2 ^ n) ≤ nd 4294967296 A + n / 32 + 1 := by
  rw [nd_le bB1, p2_32 n, ← Nat.mul_assoc, Nat.add_right_comm, Nat.pow_add, bp_succ]
  refine Nat.mul_lt_mul_of_pos_right ?_ (bp_pos bB1 _)
  have h1 := lt_nd bB1 A
  have h2 : 2 ^ (n % 32) ≤ 4294967296 := Nat.pow_le_pow_right (show 0 < 2 by decide) (show n % 32 ≤ 32 by omega)
  exact Nat.lt_of_lt_of_le (Nat.mul_lt_mul_of_pos_right h1 (Nat.pow_pos (by decide))) (Nat.mul_le_mul_left _ h2)
theorem dg_raise {A n k : Nat} : dg 4294967296 (A * 2 ^ n) (k + n / 32) = dg 4294967296 (A * 2 ^ (n % 32)) k := by
  rw [p2_32 n, ← Nat.mul_assoc, dg_up bB1]
theorem dg_raise0 {A n k : Nat} (h : k < n / 32) : dg 4294967296 (A * 2 ^ n) k = 0 := by
  rw [p2_32 n, ← Nat.mul_assoc, dg_up0 bB1 h]
theorem dg_lower {A n k : Nat} : dg 4294967296 (A / 2 ^ n) k = dg 4294967296 (A / 2 ^ (n % 32)) (k + n / 32) := by
  rw [p2_32 n, ← Nat.div_div_eq_div_mul, dg_down]
theorem dg_lower2 {A n k : Nat} : (dg 4294967296 A (k + n / 32) / 2 ^ (n % 32) + dg 4294967296 A (k + n / 32 + 1) * 2 ^ (32 - n % 32)) % 4294967296 = dg 4294967296 (A / 2 ^ n) k := by
  rw [dg_lower]
  exact ls_dg (by omega)
theorem nd_lower {A n : Nat} : nd 4294967296 (A / 2 ^ n) ≤ nd 4294967296 A - n / 32 := by
  rw [nd_le bB1, p2_32 n, Nat.mul_comm, ← Nat.div_div_eq_div_mul]
  refine Nat.lt_of_le_of_lt (Nat.div_le_self _ _) ?_
  rw [Nat.div_lt_iff_lt_mul (bp_pos bB1 _), ← Nat.pow_add]
  exact Nat.lt_of_lt_of_le (lt_nd bB1 A) (Nat.pow_le_pow_right (by decide) (by omega))
theorem nI_maxsub {a b : Nat} (ha : a < 2 ^ 30) (hb : b < 2 ^ 30) : (if (0 : Int32) < nI a - nI b then nI a - nI b else 0) = nI (a - b) := by
  by_cases z : b < a
  · rw [pk_sub (by omega), if_pos (show (0 : Int32) < nI (a - b) from nI_lt (a := 0) (by omega) (by omega))]
  · have e : a - b = 0 := by omega
    rw [e]
    by_cases w : a = b
    · rw [w, pk_sub (Nat.le_refl b), Nat.sub_self]; rfl
    · rw [if_neg]; · rfl
      intro q
      have := pk_sneg (a := a) (b := b) hb (by omega)
      have h1 := Int32.lt_iff_toInt_lt.mp q
      have h2 := Int32.lt_iff_toInt_lt.mp this
      omega
section
variable {l : Launch} {D : va_G} {tys : List (ClassId × FieldType)} {cJ : ClassId} {L : List Nat} {r : vx_h} {ar cp : Nat → Nat} {cn : Nat → Int32} {fn : Nat → Nat → Int64} {p p1 p2 : Nat} {h : vx_h} {V : Nat → Nat} {C S : Nat}
set_option maxRecDepth 100000 in
set_option maxHeartbeats 4000000 in
/-- raise(a, n): this becomes a * 2^n; it may be a -/
theorem cW_raise (HP : pool cJ L r V h C S) (hL : L.Nodup) (hp : p ∈ L) (hp1 : p1 ∈ L) (ht : tys[0]? = some (cJ, .long)) {n : Nat} (hn : n < 2 ^ 30) (hs : nd 4294967296 (V p1) + n / 32 + 1 ≤ 4100) : vx_M l D vcl tys my_W_raise lw_gd (rm_ 3 C S 64) [.ref p, .ref p1, .int (nI n)] h (pend cJ L r (va_up V p (V p1 * 2 ^ n)) C S none) := by
  obtain ⟨ar, cp, cn, fn, HR, hV, hC, hS⟩ := HP
  have hvx := hV p1 hp1
  refine vx_M.ofV (cc := bc_W_raise) (maxL := 11) (ret := none) (own := rW) false rfl (by decide +kernel) wC_W_raise (fun q => by cases q) (Nat.le_of_ble_eq_true rfl) (fun A H0 G IG RG => ?_)
  show vx_V _ _ _ _ _ _ _ _ _ 0 [(0, .ref p), (1, .ref p1), (2, .int (nI n))] []
  refine vx_iload_n IG dc_W_raise_0 rfl 2 rfl ?_
  refine vx_bipush (v := 32) IG dc_W_raise_1 (by decide) ?_
  refine vx_idiv IG dc_W_raise_3 nI_ne32 ?_
  refine vx_topi (y := nI (n / 32)) (nI_div32 (by omega)) ?_
  refine vx_istore_n (lv' := [(3, .int (nI (n / 32))), (0, .ref p), (1, .ref p1), (2, .int (nI n))]) IG dc_W_raise_4 rfl (by decide) rfl ?_
  refine vx_iload_n IG dc_W_raise_5 rfl 3 rfl ?_
  refine vx_bipush (v := 31) IG dc_W_raise_6 (by decide) ?_
  refine vx_iand IG dc_W_raise_8 ?_
  refine vx_topi (y := nI (n % 32)) (nI_and31 (by omega)) ?_
  refine vx_istore (lv' := [(4, .int (nI (n % 32))), (3, .int (nI (n / 32))), (0, .ref p), (1, .ref p1), (2, .int (nI n))]) IG dc_W_raise_9 (by decide) rfl ?_
  refine vx_aload_n IG dc_W_raise_11 rfl 3 rfl ?_
  refine wr_cnt IG HR hp1 wF_W_15 dc_W_raise_12 ?_
  refine vx_topi (y := nI (nd 4294967296 (V p1))) hvx.1 ?_
  refine vx_istore (lv' := [(5, .int (nI (nd 4294967296 (V p1)))), (4, .int (nI (n % 32))), (3, .int (nI (n / 32))), (0, .ref p), (1, .ref p1), (2, .int (nI n))]) IG dc_W_raise_15 (by decide) rfl ?_
  refine vx_aload_n IG dc_W_raise_17 rfl 3 rfl ?_
  refine vx_iload IG dc_W_raise_18 0 rfl ?_
  refine vx_iload_n IG dc_W_raise_20 rfl 2 rfl ?_
  refine vx_iadd IG dc_W_raise_21 ?_
  refine vx_topi (y := nI (nd 4294967296 (V p1) + n / 32)) (nI_add _ _) ?_
  refine vx_iconst (v := 1) IG dc_W_raise_22 (by decide) ?_
  refine vx_iadd IG dc_W_raise_23 ?_
  refine vx_topi (y := nI (nd 4294967296 (V p1) + n / 32 + 1)) (nI_1 _) ?_
  refine vx_callV (As := [.int (nI (nd 4294967296 (V p1) + n / 32 + 1))]) (st := []) IG lw_good (cW_room HR hL hp ht (n := nd 4294967296 (V p1) + n / 32 + 1) hs hC hS) (rw_obj HR hp) rfl wC_W_room wL_W_31 wI_W_room wS_W_room wX_W 1 (by decide +kernel) rfl ⟨Nat.le_of_ble_eq_true rfl, Nat.le_of_ble_eq_true rfl⟩ ⟨(by show 0 + C ≤ C; omega), (by show 0 + S ≤ S; omega)⟩ rfl (Nat.le_of_ble_eq_true rfl) dc_W_raise_24 (fun v h k_ n_ hq => ?_)
  obtain ⟨rfl, ar1, cp1, fn1, HR, ho, hnn, hge, hsame, kc, ks⟩ := hq
  have hvx1 := wv_room hvx ho hge hsame
  have hc1 := rw_cap HR hp
  have hcx := hvx1.2.1
  show vx_V _ _ _ _ _ _ _ _ _ 27 [(5, .int (nI (nd 4294967296 (V p1)))), (4, .int (nI (n % 32))), (3, .int (nI (n / 32))), (0, .ref p), (1, .ref p1), (2, .int (nI n))] []
  generalize eX : V p1 = X at *
  have hl : n % 32 ≤ 31 := by omega
  -- the places below n / 32 are 0, and it ends
  have low : ∀ (m i : Nat), i + m = n / 32 → ∀ (h : vx_h) (fn2 : Nat → Nat → Int64) (z6 : List (Nat × Value)), (∀ q, q ≠ p → fn2 q = fn1 q) → (∀ j, j < i → fn2 p j = 0) → (∀ j, j ≤ nd 4294967296 X → fn2 p (j + n / 32) = lN (dg 4294967296 (X * 2 ^ n) (j + n / 32))) → rw_at 2 cJ L r ar1 cp1 cn fn2 h → vx_V D vcl A H0 11 G h (0 + k_) (0 + n_) 112 [(6, .int (nI i)), (5, .int (nI (nd 4294967296 X))), (3, .int (nI (n / 32))), (0, .ref p)] [] := by
    intro m
    induction m with
    | zero =>
      intro i him h fn2 z6 f1 f2 f3 HR
      obtain rfl : i = n / 32 := by omega
      refine vx_iload IG dc_W_raise_112 0 rfl ?_
      refine vx_iload_n IG dc_W_raise_114 rfl 2 rfl ?_
      refine vx_icmp_ge (tgt := 132) IG dc_W_raise_115 (by decide) (fun _ => ?_) (fun c_ => absurd (nI_le (Nat.le_refl _) (by omega)) c_)
      refine vx_aload_n IG dc_W_raise_132 rfl 3 rfl ?_
      refine vx_iload IG dc_W_raise_133 1 rfl ?_
      refine vx_iload_n IG dc_W_raise_135 rfl 2 rfl ?_
      refine vx_iadd IG dc_W_raise_136 ?_
      refine vx_topi (y := nI (nd 4294967296 X + n / 32)) (nI_add _ _) ?_
      refine vx_iconst (v := 1) IG dc_W_raise_137 (by decide) ?_
      refine vx_iadd IG dc_W_raise_138 ?_
      refine vx_topi (y := nI (nd 4294967296 X + n / 32 + 1)) (nI_1 _) ?_
      have hd : ∀ i, i < nd 4294967296 X + n / 32 + 1 → dg 4294967296 (X * 2 ^ n) i < 4294967296 ∧ fn2 p i = lN (dg 4294967296 (X * 2 ^ n) i) := by
        intro i hi
        refine ⟨dg_lt bB1 _ _, ?_⟩
        by_cases z : i < n / 32
        · rw [f2 i z, dg_raise0 z]; rfl
        · have := f3 (i - n / 32) (by omega)
          rw [show i - n / 32 + n / 32 = i by omega] at this
          exact this
      refine vx_callV (As := [.int (nI (nd 4294967296 X + n / 32 + 1))]) (st := []) IG lw_good (cW_trim HR hp ht hnn _ hd) (rw_obj HR hp) rfl wC_W_trim wL_W_37 wI_W_trim wS_W_trim wX_W 1 (by decide +kernel) rfl ⟨Nat.le_of_ble_eq_true rfl, Nat.le_of_ble_eq_true rfl⟩ ⟨(by show 0 + k_ + 0 ≤ C; omega), (by show 0 + n_ + 0 ≤ S; omega)⟩ rfl (Nat.le_of_ble_eq_true rfl) dc_W_raise_139 (fun v h k_ n_ hq => ?_)
      obtain ⟨rfl, rfl, rfl, HR⟩ := hq
      show vx_V _ _ _ _ _ _ _ _ _ 142 [(6, .int (nI (n / 32))), (5, .int (nI (nd 4294967296 X))), (3, .int (nI (n / 32))), (0, .ref p)] []
      refine vx_ret none RG (vx_endv dc_W_raise_142) rfl ?_
      have e : vl 4294967296 (dg 4294967296 (X * 2 ^ n)) (nd 4294967296 X + n / 32 + 1) = X * 2 ^ n := vl_nd_le bB1 nd_raise
      have hw := wv_trim (cp := cp1) (cn' := va_up cn p (nI (nd 4294967296 (vl 4294967296 (dg 4294967296 (X * 2 ^ n)) (nd 4294967296 X + n / 32 + 1))))) hd hnn (va_up_self _ _ _)
      rw [e] at HR hw
      refine pool_end (p := p) hV HR (fun q z => ⟨(ho q z).1, va_up_ne _ _ z, ?_⟩) hw (by omega) (by omega)
      rw [f1 q z, (ho q z).2]
    | succ m ih =>
      intro i him h fn2 z6 f1 f2 f3 HR
      refine vx_iload IG dc_W_raise_112 0 rfl ?_
      refine vx_iload_n IG dc_W_raise_114 rfl 2 rfl ?_
      refine vx_icmp_ge (tgt := 132) IG dc_W_raise_115 (by decide) (fun c_ => absurd c_ (nI_ge (by omega) (by omega))) (fun _ => ?_)
      refine vx_aload_n IG dc_W_raise_118 rfl 3 rfl ?_
      refine wr_dig IG HR hp wF_W_11 dc_W_raise_119 ?_
      refine vx_iload IG dc_W_raise_122 0 rfl ?_
      refine vx_lconst (v := 0) IG dc_W_raise_124 (by decide) ?_
      refine wr_ast IG HR hp ht i rfl (by omega) dc_W_raise_125 (fun h HR => ?_)
      obtain ⟨fn3, e_fn3⟩ : ∃ z, z = va_up fn2 p (vp_updL (fn2 p) i 0) := ⟨_, rfl⟩
      rw [← e_fn3] at HR
      refine vx_iinc (q := 0) (v := nI (i + 1)) (lv' := [(6, .int (nI (i + 1))), (5, .int (nI (nd 4294967296 X))), (3, .int (nI (n / 32))), (0, .ref p)]) IG dc_W_raise_126 rfl (nI_1 i) (by decide) rfl ?_
      refine vx_goto (tgt := 112) IG dc_W_raise_129 (by decide) ?_
      refine ih (i + 1) (by omega) h fn3 z6 (fun q z => ?_) (fun j hj => ?_) (fun j hj => ?_) HR
      · rw [e_fn3, va_up_ne _ _ z]; exact f1 q z
      · by_cases z : j = i
        · rw [z, e_fn3, va_up_self, pk_uLs]
        · rw [e_fn3, va_up_self, pk_uLn z]; exact f2 j (by omega)
      · rw [e_fn3, va_up_self, pk_uLn (by omega)]; exact f3 j hj
  have high : ∀ (i : Nat), i ≤ nd 4294967296 X + 1 → ∀ (h : vx_h) (fn2 : Nat → Nat → Int64), (∀ q, q ≠ p → fn2 q = fn1 q) → (∀ j, i ≤ j → j ≤ nd 4294967296 X → fn2 p (j + n / 32) = lN (dg 4294967296 (X * 2 ^ n) (j + n / 32))) → (∀ j, j < i → j < nd 4294967296 X → fn2 p1 j = lN (dg 4294967296 X j)) → rw_at 2 cJ L r ar1 cp1 cn fn2 h → vx_V D vcl A H0 11 G h (0 + k_) (0 + n_) 31 [(6, .int (nI i - 1)), (5, .int (nI (nd 4294967296 X))), (4, .int (nI (n % 32))), (3, .int (nI (n / 32))), (0, .ref p), (1, .ref p1), (2, .int (nI n))] [] := by
    intro i
    induction i with
    | zero =>
      intro hi h fn2 f1 f2 f3 HR
      refine vx_iload IG dc_W_raise_31 0 rfl ?_
      refine vx_if_lt (tgt := 109) IG dc_W_raise_33 (by decide) (fun _ => ?_) (fun c_ => absurd (by decide) c_)
      refine vx_iconst (v := 0) IG dc_W_raise_109 (by decide) ?_
      refine vx_istore (lv' := [(6, .int 0), (5, .int (nI (nd 4294967296 X))), (4, .int (nI (n % 32))), (3, .int (nI (n / 32))), (0, .ref p), (1, .ref p1), (2, .int (nI n))]) IG dc_W_raise_110 (by decide) rfl ?_
      refine vx_same (lv' := [(6, .int 0), (5, .int (nI (nd 4294967296 X))), (3, .int (nI (n / 32))), (0, .ref p)]) IG [0, 1, 3, 4] rfl ?_
      exact low (n / 32) 0 (by omega) h fn2 [] f1 (fun j hj => by omega) (fun j hj => f2 j (Nat.zero_le j) hj) HR
    | succ i ih =>
      intro hi h fn2 f1 f2 f3 HR
      have gx := dg_lt bB1 X i
      rw [nI_pred]
      refine vx_iload IG dc_W_raise_31 0 rfl ?_
      refine vx_if_lt (tgt := 109) IG dc_W_raise_33 (by decide) (fun c_ => absurd c_ (nI_pos (by omega))) (fun _ => ?_)
      refine vx_iload IG dc_W_raise_36 0 rfl ?_
      refine vx_iload IG dc_W_raise_38 1 rfl ?_
      have join2 : ∀ (w : Nat), w = (if i = 0 then 0 else dg 4294967296 X (i - 1) / 2 ^ (32 - n % 32)) → vx_V D vcl A H0 11 G h (0 + k_) (0 + n_) 83 [(7, .long (lN (dg 4294967296 X i * 2 ^ (n % 32)))), (6, .int (nI i)), (5, .int (nI (nd 4294967296 X))), (4, .int (nI (n % 32))), (3, .int (nI (n / 32))), (0, .ref p), (1, .ref p1), (2, .int (nI n))] [.long (lN w)] := by
        intro w hw
        have hw2 : w < 2 ^ (n % 32) := by
          rw [hw]
          split
          · exact Nat.pow_pos (by decide)
          · rw [Nat.div_lt_iff_lt_mul (Nat.pow_pos (by decide)), ← bB2 (by omega)]; exact dg_lt bB1 _ _
        have hbig : dg 4294967296 X i * 2 ^ (n % 32) + w < 2 ^ 64 := by
          have h1 : (dg 4294967296 X i + 1) * 2 ^ (n % 32) ≤ 4294967296 * 2 ^ 31 := Nat.mul_le_mul gx (Nat.pow_le_pow_right (by decide) hl)
          rw [Nat.add_mul] at h1
          omega
        refine vx_lstore (lv' := [(9, .long (lN w)), (7, .long (lN (dg 4294967296 X i * 2 ^ (n % 32)))), (6, .int (nI i)), (5, .int (nI (nd 4294967296 X))), (4, .int (nI (n % 32))), (3, .int (nI (n / 32))), (0, .ref p), (1, .ref p1), (2, .int (nI n))]) IG dc_W_raise_83 (by decide) rfl ?_
        refine vx_aload_n IG dc_W_raise_85 rfl 6 rfl ?_
        refine wr_dig IG HR hp wF_W_11 dc_W_raise_86 ?_
        refine vx_iload IG dc_W_raise_89 2 rfl ?_
        refine vx_iload_n IG dc_W_raise_91 rfl 5 rfl ?_
        refine vx_iadd IG dc_W_raise_92 ?_
        refine vx_topi (y := nI (i + n / 32)) (nI_add _ _) ?_
        refine vx_lload IG dc_W_raise_93 1 rfl ?_
        refine vx_lload IG dc_W_raise_95 0 rfl ?_
        refine vx_lor IG dc_W_raise_97 ?_
        refine vx_topl (y := lN (dg 4294967296 X i * 2 ^ (n % 32) + w)) (g_or (k := n % 32) rfl hw2 hbig) ?_
        refine vx_ldc2 (v := 4294967295) IG (by decide +kernel) dc_W_raise_98 ?_
        refine vx_land IG dc_W_raise_101 ?_
        refine vx_topl (y := lN (dg 4294967296 (X * 2 ^ n) (i + n / 32))) (by rw [ln_mask, hw, rs_dg (by omega), dg_raise]) ?_
        refine wr_ast IG HR hp ht (i + n / 32) rfl (by omega) dc_W_raise_102 (fun h HR => ?_)
        obtain ⟨fn3, e_fn3⟩ : ∃ z, z = va_up fn2 p (vp_updL (fn2 p) (i + n / 32) (lN (dg 4294967296 (X * 2 ^ n) (i + n / 32)))) := ⟨_, rfl⟩
        rw [← e_fn3] at HR
        refine vx_iinc (q := 2) (v := nI i - 1) (lv' := [(6, .int (nI i - 1)), (9, .long (lN w)), (7, .long (lN (dg 4294967296 X i * 2 ^ (n % 32)))), (5, .int (nI (nd 4294967296 X))), (4, .int (nI (n % 32))), (3, .int (nI (n / 32))), (0, .ref p), (1, .ref p1), (2, .int (nI n))]) IG dc_W_raise_103 rfl (i32_dec _) (by decide) rfl ?_
        refine vx_goto (tgt := 31) IG dc_W_raise_106 (by decide) ?_
        refine vx_same (lv' := [(6, .int (nI i - 1)), (5, .int (nI (nd 4294967296 X))), (4, .int (nI (n % 32))), (3, .int (nI (n / 32))), (0, .ref p), (1, .ref p1), (2, .int (nI n))]) IG [0, 3, 4, 5, 6, 7, 8] rfl ?_
        refine ih (by omega) h fn3 (fun q z => ?_) (fun j h1 h2 => ?_) (fun j h1 h2 => ?_) HR
        · rw [e_fn3, va_up_ne _ _ z]; exact f1 q z
        · by_cases z : j = i
          · rw [z, e_fn3, va_up_self, pk_uLs]
          · rw [e_fn3, va_up_self, pk_uLn (by omega)]; exact f2 j (by omega) h2
        · by_cases z : p1 = p
          · rw [e_fn3, z, va_up_self, pk_uLn (by omega), ← z]; exact f3 j (by omega) h2
          · rw [e_fn3, va_up_ne _ _ z]; exact f3 j (by omega) h2
      have join1 : vx_V D vcl A H0 11 G h (0 + k_) (0 + n_) 57 [(6, .int (nI i)), (5, .int (nI (nd 4294967296 X))), (4, .int (nI (n % 32))), (3, .int (nI (n / 32))), (0, .ref p), (1, .ref p1), (2, .int (nI n))] [.long (lN (dg 4294967296 X i * 2 ^ (n % 32)))] := by
        refine vx_lstore (lv' := [(7, .long (lN (dg 4294967296 X i * 2 ^ (n % 32)))), (6, .int (nI i)), (5, .int (nI (nd 4294967296 X))), (4, .int (nI (n % 32))), (3, .int (nI (n / 32))), (0, .ref p), (1, .ref p1), (2, .int (nI n))]) IG dc_W_raise_57 (by decide) rfl ?_
        refine vx_iload IG dc_W_raise_59 1 rfl ?_
        by_cases z : i = 0
        · refine vx_if_le (tgt := 82) IG dc_W_raise_61 (by decide) (fun _ => ?_) (fun c_ => absurd (by rw [z]; decide) c_)
          refine vx_lconst (v := 0) IG dc_W_raise_82 (by decide) ?_
          exact join2 0 (by rw [if_pos z])
        · refine vx_if_le (tgt := 82) IG dc_W_raise_61 (by decide) (fun c_ => absurd c_ (nI_nle (by omega) (by omega))) (fun _ => ?_)
          refine vx_aload_n IG dc_W_raise_64 rfl 6 rfl ?_
          refine wr_dig IG HR hp1 wF_W_11 dc_W_raise_65 ?_
          refine vx_iload IG dc_W_raise_68 1 rfl ?_
          refine vx_iconst (v := 1) IG dc_W_raise_70 (by decide) ?_
          refine vx_isub IG dc_W_raise_71 ?_
          refine vx_topi (y := nI (i - 1)) (by obtain ⟨b, rfl⟩ : ∃ b, i = b + 1 := ⟨i - 1, by omega⟩; exact nI_pred b) ?_
          refine wr_ald IG HR hp1 ht (i - 1) rfl (by omega) dc_W_raise_72 ?_
          refine vx_topl (y := lN (dg 4294967296 X (i - 1))) (f3 (i - 1) (by omega) (by omega)) ?_
          refine vx_bipush (v := 32) IG dc_W_raise_73 (by decide) ?_
          refine vx_iload IG dc_W_raise_75 3 rfl ?_
          refine vx_isub IG dc_W_raise_77 ?_
          refine vx_topi (y := nI (32 - n % 32)) (nI_sub32 (by omega)) ?_
          refine vx_lushr (v := lN (dg 4294967296 X (i - 1) / 2 ^ (32 - n % 32))) IG dc_W_raise_78 (wb_shr (Nat.lt_trans (dg_lt bB1 _ _) (by decide)) (by omega)) ?_
          refine vx_goto (tgt := 83) IG dc_W_raise_79 (by decide) ?_
          exact join2 _ (by rw [if_neg z])
      by_cases z : i < nd 4294967296 X
      · refine vx_icmp_ge (tgt := 56) IG dc_W_raise_40 (by decide) (fun c_ => absurd c_ (nI_ge z (by omega))) (fun _ => ?_)
        refine vx_aload_n IG dc_W_raise_43 rfl 5 rfl ?_
        refine wr_dig IG HR hp1 wF_W_11 dc_W_raise_44 ?_
        refine vx_iload IG dc_W_raise_47 0 rfl ?_
        refine wr_ald IG HR hp1 ht i rfl (by omega) dc_W_raise_49 ?_
        refine vx_topl (y := lN (dg 4294967296 X i)) (f3 i (by omega) z) ?_
        refine vx_iload IG dc_W_raise_50 2 rfl ?_
        refine vx_lshl (v := lN (dg 4294967296 X i * 2 ^ (n % 32))) IG dc_W_raise_52 (wb_shl _ (by omega)) ?_
        refine vx_goto (tgt := 57) IG dc_W_raise_53 (by decide) ?_
        exact join1
      · refine vx_icmp_ge (tgt := 56) IG dc_W_raise_40 (by decide) (fun _ => ?_) (fun c_ => absurd (nI_le (by omega) (by omega)) c_)
        refine vx_lconst (v := 0) IG dc_W_raise_56 (by decide) ?_
        refine vx_topl (y := lN (dg 4294967296 X i * 2 ^ (n % 32))) (by rw [dg_big (Nat.lt_of_lt_of_le (lt_nd bB1 X) (Nat.pow_le_pow_right (by decide) (by omega))), Nat.zero_mul]; rfl) ?_
        exact join1
  refine vx_iload IG dc_W_raise_27 0 rfl ?_
  refine vx_istore (lv' := [(6, .int (nI (nd 4294967296 X))), (5, .int (nI (nd 4294967296 X))), (4, .int (nI (n % 32))), (3, .int (nI (n / 32))), (0, .ref p), (1, .ref p1), (2, .int (nI n))]) IG dc_W_raise_29 (by decide) rfl ?_
  have hh := high (nd 4294967296 X + 1) (Nat.le_refl _) h fn1 (fun _ _ => rfl) (fun j h1 h2 => by omega) (fun j _ hj => hvx1.2.2 j hj) HR
  rw [nI_pred] at hh
  exact hh
end
