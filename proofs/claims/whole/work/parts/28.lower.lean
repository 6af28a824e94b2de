/-! Whole: lower, turnOver, repeat -/
section
variable {l : Launch} {D : va_G} {tys : List (ClassId × FieldType)} {cJ : ClassId} {L : List Nat} {r : vx_h} {ar cp : Nat → Nat} {cn : Nat → Int32} {fn : Nat → Nat → Int64} {p p1 p2 : Nat} {h : vx_h} {V : Nat → Nat} {C S : Nat}
set_option maxRecDepth 100000 in
set_option maxHeartbeats 4000000 in
/-- lower(a, n): this becomes a / 2^n, cut; it may be a -/
theorem cW_lower (HP : pool cJ L r V h C S) (hL : L.Nodup) (hp : p ∈ L) (hp1 : p1 ∈ L) (ht : tys[0]? = some (cJ, .long)) {n : Nat} (hn : n < 2 ^ 30) (hs : nd 4294967296 (V p1) ≤ 4100) : vx_M l D vcl tys my_W_lower lw_gd (rm_ 3 C S 64) [.ref p, .ref p1, .int (nI n)] h (pend cJ L r (va_up V p (V p1 / 2 ^ n)) C S none) := by
  obtain ⟨ar, cp, cn, fn, HR, hV, hC, hS⟩ := HP
  have hvx := hV p1 hp1
  refine vx_M.ofV (cc := bc_W_lower) (maxL := 10) (ret := none) (own := rW) false rfl (by decide +kernel) wC_W_lower (fun q => by cases q) (Nat.le_of_ble_eq_true rfl) (fun A H0 G IG RG => ?_)
  show vx_V _ _ _ _ _ _ _ _ _ 0 [(0, .ref p), (1, .ref p1), (2, .int (nI n))] []
  refine vx_iload_n IG dc_W_lower_0 rfl 2 rfl ?_
  refine vx_bipush (v := 32) IG dc_W_lower_1 (by decide) ?_
  refine vx_idiv IG dc_W_lower_3 nI_ne32 ?_
  refine vx_topi (y := nI (n / 32)) (nI_div32 (by omega)) ?_
  refine vx_istore_n (lv' := [(3, .int (nI (n / 32))), (0, .ref p), (1, .ref p1), (2, .int (nI n))]) IG dc_W_lower_4 rfl (by decide) rfl ?_
  refine vx_iload_n IG dc_W_lower_5 rfl 3 rfl ?_
  refine vx_bipush (v := 31) IG dc_W_lower_6 (by decide) ?_
  refine vx_iand IG dc_W_lower_8 ?_
  refine vx_topi (y := nI (n % 32)) (nI_and31 (by omega)) ?_
  refine vx_istore (lv' := [(4, .int (nI (n % 32))), (3, .int (nI (n / 32))), (0, .ref p), (1, .ref p1), (2, .int (nI n))]) IG dc_W_lower_9 (by decide) rfl ?_
  refine vx_aload_n IG dc_W_lower_11 rfl 3 rfl ?_
  refine wr_cnt IG HR hp1 wF_W_15 dc_W_lower_12 ?_
  refine vx_topi (y := nI (nd 4294967296 (V p1))) hvx.1 ?_
  refine vx_istore (lv' := [(5, .int (nI (nd 4294967296 (V p1)))), (4, .int (nI (n % 32))), (3, .int (nI (n / 32))), (0, .ref p), (1, .ref p1), (2, .int (nI n))]) IG dc_W_lower_15 (by decide) rfl ?_
  refine vx_iconst (v := 0) IG dc_W_lower_17 (by decide) ?_
  refine vx_iload IG dc_W_lower_18 0 rfl ?_
  refine vx_iload_n IG dc_W_lower_20 rfl 2 rfl ?_
  refine vx_isub IG dc_W_lower_21 ?_
  refine vx_callS (As := [.int 0, .int ((nI (nd 4294967296 (V p1))) - (nI (n / 32)))]) (st := []) IG lw_good (cJM_max _ 0 (nI (nd 4294967296 (V p1)) - nI (n / 32))) wC_JM_max_II wL_W_19 wT_JM_max_II wX_JM 2 (by decide +kernel) rfl ⟨Nat.le_of_ble_eq_true rfl, Nat.le_of_ble_eq_true rfl⟩ ⟨(by show 0 + 0 ≤ C; omega), (by show 0 + 0 ≤ S; omega)⟩ rfl (Nat.le_of_ble_eq_true rfl) dc_W_lower_22 (fun v h k_ n_ hq => ?_)
  obtain ⟨rfl, rfl, rfl, rfl⟩ := hq
  show vx_V _ _ _ _ _ _ _ _ _ 25 [(5, .int (nI (nd 4294967296 (V p1)))), (4, .int (nI (n % 32))), (3, .int (nI (n / 32))), (0, .ref p), (1, .ref p1), (2, .int (nI n))] [.int (if (0 : Int32) < nI (nd 4294967296 (V p1)) - nI (n / 32) then nI (nd 4294967296 (V p1)) - nI (n / 32) else 0)]
  refine vx_topi (y := nI (nd 4294967296 (V p1) - n / 32)) (nI_maxsub (by omega) (by omega)) ?_
  refine vx_istore (lv' := [(6, .int (nI (nd 4294967296 (V p1) - n / 32))), (5, .int (nI (nd 4294967296 (V p1)))), (4, .int (nI (n % 32))), (3, .int (nI (n / 32))), (0, .ref p), (1, .ref p1), (2, .int (nI n))]) IG dc_W_lower_25 (by decide) rfl ?_
  refine vx_aload_n IG dc_W_lower_27 rfl 4 rfl ?_
  refine vx_iload IG dc_W_lower_28 0 rfl ?_
  refine vx_callV (As := [.int (nI (nd 4294967296 (V p1) - n / 32))]) (st := []) IG lw_good (cW_room HR hL hp ht (n := nd 4294967296 (V p1) - n / 32) (by omega) hC hS) (rw_obj HR hp) rfl wC_W_room wL_W_31 wI_W_room wS_W_room wX_W 1 (by decide +kernel) rfl ⟨Nat.le_of_ble_eq_true rfl, Nat.le_of_ble_eq_true rfl⟩ ⟨(by show 0 + 0 + C ≤ C; omega), (by show 0 + 0 + S ≤ S; omega)⟩ rfl (Nat.le_of_ble_eq_true rfl) dc_W_lower_30 (fun v h k_ n_ hq => ?_)
  obtain ⟨rfl, ar1, cp1, fn1, HR, ho, hnn, hge, hsame, kc, ks⟩ := hq
  have hvx1 := wv_room hvx ho hge hsame
  have hc1 := rw_cap HR hp
  have hcx := hvx1.2.1
  have hcx8 := (rw_cap HR hp1).2
  show vx_V _ _ _ _ _ _ _ _ _ 33 [(6, .int (nI (nd 4294967296 (V p1) - n / 32))), (5, .int (nI (nd 4294967296 (V p1)))), (4, .int (nI (n % 32))), (3, .int (nI (n / 32))), (0, .ref p), (1, .ref p1), (2, .int (nI n))] []
  generalize eX : V p1 = X at *
  have hl : n % 32 ≤ 31 := by omega
  have loop : ∀ (m i : Nat), i + m = nd 4294967296 X - n / 32 → ∀ (h : vx_h) (fn2 : Nat → Nat → Int64), (∀ q, q ≠ p → fn2 q = fn1 q) → (∀ j, j < i → fn2 p j = lN (dg 4294967296 (X / 2 ^ n) j)) → (∀ j, i ≤ j → j < nd 4294967296 X → fn2 p1 j = lN (dg 4294967296 X j)) → rw_at 2 cJ L r ar1 cp1 cn fn2 h → vx_V D vcl A H0 10 G h (0 + 0 + k_) (0 + 0 + n_) 36 [(7, .int (nI i)), (6, .int (nI (nd 4294967296 X - n / 32))), (5, .int (nI (nd 4294967296 X))), (4, .int (nI (n % 32))), (3, .int (nI (n / 32))), (0, .ref p), (1, .ref p1), (2, .int (nI n))] [] := by
    intro m
    induction m with
    | zero =>
      intro i him h fn2 f1 f2 f3 HR
      obtain rfl : i = nd 4294967296 X - n / 32 := by omega
      refine vx_iload IG dc_W_lower_36 0 rfl ?_
      refine vx_iload IG dc_W_lower_38 1 rfl ?_
      refine vx_icmp_ge (tgt := 109) IG dc_W_lower_40 (by decide) (fun _ => ?_) (fun c_ => absurd (nI_le (Nat.le_refl _) (by omega)) c_)
      refine vx_aload_n IG dc_W_lower_109 rfl 5 rfl ?_
      refine vx_iload IG dc_W_lower_110 1 rfl ?_
      have hd : ∀ i, i < nd 4294967296 X - n / 32 → dg 4294967296 (X / 2 ^ n) i < 4294967296 ∧ fn2 p i = lN (dg 4294967296 (X / 2 ^ n) i) := fun i hi => ⟨dg_lt bB1 _ _, f2 i hi⟩
      refine vx_callV (As := [.int (nI (nd 4294967296 X - n / 32))]) (st := []) IG lw_good (cW_trim HR hp ht hnn _ hd) (rw_obj HR hp) rfl wC_W_trim wL_W_37 wI_W_trim wS_W_trim wX_W 1 (by decide +kernel) rfl ⟨Nat.le_of_ble_eq_true rfl, Nat.le_of_ble_eq_true rfl⟩ ⟨(by show 0 + 0 + k_ + 0 ≤ C; omega), (by show 0 + 0 + n_ + 0 ≤ S; omega)⟩ rfl (Nat.le_of_ble_eq_true rfl) dc_W_lower_112 (fun v h k_ n_ hq => ?_)
      obtain ⟨rfl, rfl, rfl, HR⟩ := hq
      show vx_V _ _ _ _ _ _ _ _ _ 115 [(7, .int (nI (nd 4294967296 X - n / 32))), (6, .int (nI (nd 4294967296 X - n / 32))), (5, .int (nI (nd 4294967296 X))), (4, .int (nI (n % 32))), (3, .int (nI (n / 32))), (0, .ref p), (1, .ref p1), (2, .int (nI n))] []
      refine vx_ret none RG (vx_endv dc_W_lower_115) rfl ?_
      have e : vl 4294967296 (dg 4294967296 (X / 2 ^ n)) (nd 4294967296 X - n / 32) = X / 2 ^ n := vl_nd_le bB1 nd_lower
      have hw := wv_trim (cp := cp1) (cn' := va_up cn p (nI (nd 4294967296 (vl 4294967296 (dg 4294967296 (X / 2 ^ n)) (nd 4294967296 X - n / 32))))) hd hnn (va_up_self _ _ _)
      rw [e] at HR hw
      refine pool_end (p := p) hV HR (fun q z => ⟨(ho q z).1, va_up_ne _ _ z, ?_⟩) hw (by omega) (by omega)
      rw [f1 q z, (ho q z).2]
    | succ m ih =>
      intro i him h fn2 f1 f2 f3 HR
      have gx := dg_lt bB1 X (i + n / 32)
      have gy := dg_lt bB1 X (i + n / 32 + 1)
      have hlow : dg 4294967296 X (i + n / 32) / 2 ^ (n % 32) < 2 ^ (32 - n % 32) := by
        rw [Nat.div_lt_iff_lt_mul (Nat.pow_pos (by decide)), Nat.mul_comm, ← bB2 (by omega)]; exact gx
      have hbig : dg 4294967296 X (i + n / 32) / 2 ^ (n % 32) + dg 4294967296 X (i + n / 32 + 1) * 2 ^ (32 - n % 32) < 2 ^ 64 := by
        have h1 : (dg 4294967296 X (i + n / 32 + 1) + 1) * 2 ^ (32 - n % 32) ≤ 4294967296 * 2 ^ 32 := Nat.mul_le_mul gy (Nat.pow_le_pow_right (by decide) (by omega))
        rw [Nat.add_mul] at h1
        omega
      refine vx_iload IG dc_W_lower_36 0 rfl ?_
      refine vx_iload IG dc_W_lower_38 1 rfl ?_
      refine vx_icmp_ge (tgt := 109) IG dc_W_lower_40 (by decide) (fun c_ => absurd c_ (nI_ge (by omega) (by omega))) (fun _ => ?_)
      refine vx_iload IG dc_W_lower_43 0 rfl ?_
      refine vx_iload_n IG dc_W_lower_45 rfl 4 rfl ?_
      refine vx_iadd IG dc_W_lower_46 ?_
      refine vx_topi (y := nI (i + n / 32)) (nI_add _ _) ?_
      refine vx_iconst (v := 1) IG dc_W_lower_47 (by decide) ?_
      refine vx_iadd IG dc_W_lower_48 ?_
      refine vx_topi (y := nI (i + n / 32 + 1)) (nI_1 _) ?_
      refine vx_iload IG dc_W_lower_49 2 rfl ?_
      have join : vx_V D vcl A H0 10 G h (0 + 0 + k_) (0 + 0 + n_) 75 [(7, .int (nI i)), (6, .int (nI (nd 4294967296 X - n / 32))), (5, .int (nI (nd 4294967296 X))), (4, .int (nI (n % 32))), (3, .int (nI (n / 32))), (0, .ref p), (1, .ref p1), (2, .int (nI n))] [.long (lN (dg 4294967296 X (i + n / 32 + 1) * 2 ^ (32 - n % 32)))] := by
        refine vx_lstore (lv' := [(8, .long (lN (dg 4294967296 X (i + n / 32 + 1) * 2 ^ (32 - n % 32)))), (7, .int (nI i)), (6, .int (nI (nd 4294967296 X - n / 32))), (5, .int (nI (nd 4294967296 X))), (4, .int (nI (n % 32))), (3, .int (nI (n / 32))), (0, .ref p), (1, .ref p1), (2, .int (nI n))]) IG dc_W_lower_75 (by decide) rfl ?_
        refine vx_aload_n IG dc_W_lower_77 rfl 6 rfl ?_
        refine wr_dig IG HR hp wF_W_11 dc_W_lower_78 ?_
        refine vx_iload IG dc_W_lower_81 1 rfl ?_
        refine vx_aload_n IG dc_W_lower_83 rfl 7 rfl ?_
        refine wr_dig IG HR hp1 wF_W_11 dc_W_lower_84 ?_
        refine vx_iload IG dc_W_lower_87 1 rfl ?_
        refine vx_iload_n IG dc_W_lower_89 rfl 5 rfl ?_
        refine vx_iadd IG dc_W_lower_90 ?_
        refine vx_topi (y := nI (i + n / 32)) (nI_add _ _) ?_
        refine wr_ald IG HR hp1 ht (i + n / 32) rfl (by omega) dc_W_lower_91 ?_
        refine vx_topl (y := lN (dg 4294967296 X (i + n / 32))) (f3 (i + n / 32) (by omega) (by omega)) ?_
        refine vx_iload IG dc_W_lower_92 4 rfl ?_
        refine vx_lushr (v := lN (dg 4294967296 X (i + n / 32) / 2 ^ (n % 32))) IG dc_W_lower_94 (wb_shr (Nat.lt_trans gx (by decide)) (by omega)) ?_
        refine vx_lload IG dc_W_lower_95 0 rfl ?_
        refine vx_lor IG dc_W_lower_97 ?_
        refine vx_topl (y := lN (dg 4294967296 X (i + n / 32) / 2 ^ (n % 32) + dg 4294967296 X (i + n / 32 + 1) * 2 ^ (32 - n % 32))) (g_or' (k := 32 - n % 32) rfl hlow hbig) ?_
        refine vx_ldc2 (v := 4294967295) IG (by decide +kernel) dc_W_lower_98 ?_
        refine vx_land IG dc_W_lower_101 ?_
        refine vx_topl (y := lN (dg 4294967296 (X / 2 ^ n) i)) (by rw [ln_mask, dg_lower2]) ?_
        refine wr_ast IG HR hp ht i rfl (by omega) dc_W_lower_102 (fun h HR => ?_)
        obtain ⟨fn3, e_fn3⟩ : ∃ z, z = va_up fn2 p (vp_updL (fn2 p) i (lN (dg 4294967296 (X / 2 ^ n) i))) := ⟨_, rfl⟩
        rw [← e_fn3] at HR
        refine vx_iinc (q := 1) (v := nI (i + 1)) (lv' := [(7, .int (nI (i + 1))), (8, .long (lN (dg 4294967296 X (i + n / 32 + 1) * 2 ^ (32 - n % 32)))), (6, .int (nI (nd 4294967296 X - n / 32))), (5, .int (nI (nd 4294967296 X))), (4, .int (nI (n % 32))), (3, .int (nI (n / 32))), (0, .ref p), (1, .ref p1), (2, .int (nI n))]) IG dc_W_lower_103 rfl (nI_1 i) (by decide) rfl ?_
        refine vx_goto (tgt := 36) IG dc_W_lower_106 (by decide) ?_
        refine vx_same (lv' := [(7, .int (nI (i + 1))), (6, .int (nI (nd 4294967296 X - n / 32))), (5, .int (nI (nd 4294967296 X))), (4, .int (nI (n % 32))), (3, .int (nI (n / 32))), (0, .ref p), (1, .ref p1), (2, .int (nI n))]) IG [0, 2, 3, 4, 5, 6, 7, 8] rfl ?_
        refine ih (i + 1) (by omega) h fn3 (fun q z => ?_) (fun j hj => ?_) (fun j h1 h2 => ?_) HR
        · rw [e_fn3, va_up_ne _ _ z]; exact f1 q z
        · by_cases z : j = i
          · rw [z, e_fn3, va_up_self, pk_uLs]
          · rw [e_fn3, va_up_self, pk_uLn z]; exact f2 j (by omega)
        · by_cases z : p1 = p
          · rw [e_fn3, z, va_up_self, pk_uLn (by omega), ← z]; exact f3 j (by omega) h2
          · rw [e_fn3, va_up_ne _ _ z]; exact f3 j (by omega) h2
      by_cases z : i + n / 32 + 1 < nd 4294967296 X
      · refine vx_icmp_ge (tgt := 74) IG dc_W_lower_51 (by decide) (fun c_ => absurd c_ (nI_ge z (by omega))) (fun _ => ?_)
        refine vx_aload_n IG dc_W_lower_54 rfl 6 rfl ?_
        refine wr_dig IG HR hp1 wF_W_11 dc_W_lower_55 ?_
        refine vx_iload IG dc_W_lower_58 0 rfl ?_
        refine vx_iload_n IG dc_W_lower_60 rfl 4 rfl ?_
        refine vx_iadd IG dc_W_lower_61 ?_
        refine vx_topi (y := nI (i + n / 32)) (nI_add _ _) ?_
        refine vx_iconst (v := 1) IG dc_W_lower_62 (by decide) ?_
        refine vx_iadd IG dc_W_lower_63 ?_
        refine vx_topi (y := nI (i + n / 32 + 1)) (nI_1 _) ?_
        refine wr_ald IG HR hp1 ht (i + n / 32 + 1) rfl (by omega) dc_W_lower_64 ?_
        refine vx_topl (y := lN (dg 4294967296 X (i + n / 32 + 1))) (f3 _ (by omega) z) ?_
        refine vx_bipush (v := 32) IG dc_W_lower_65 (by decide) ?_
        refine vx_iload IG dc_W_lower_67 3 rfl ?_
        refine vx_isub IG dc_W_lower_69 ?_
        refine vx_topi (y := nI (32 - n % 32)) (nI_sub32 (by omega)) ?_
        refine vx_lshl (v := lN (dg 4294967296 X (i + n / 32 + 1) * 2 ^ (32 - n % 32))) IG dc_W_lower_70 (wb_shl _ (by omega)) ?_
        refine vx_goto (tgt := 75) IG dc_W_lower_71 (by decide) ?_
        exact join
      · refine vx_icmp_ge (tgt := 74) IG dc_W_lower_51 (by decide) (fun _ => ?_) (fun c_ => absurd (nI_le (by omega) (by omega)) c_)
        refine vx_lconst (v := 0) IG dc_W_lower_74 (by decide) ?_
        refine vx_topl (y := lN (dg 4294967296 X (i + n / 32 + 1) * 2 ^ (32 - n % 32))) (by rw [dg_big (Nat.lt_of_lt_of_le (lt_nd bB1 X) (Nat.pow_le_pow_right (by decide) (by omega))), Nat.zero_mul]; rfl) ?_
        exact join
  refine vx_iconst (v := 0) IG dc_W_lower_33 (by decide) ?_
  refine vx_istore (lv' := [(7, .int 0), (6, .int (nI (nd 4294967296 X - n / 32))), (5, .int (nI (nd 4294967296 X))), (4, .int (nI (n % 32))), (3, .int (nI (n / 32))), (0, .ref p), (1, .ref p1), (2, .int (nI n))]) IG dc_W_lower_34 (by decide) rfl ?_
  exact loop (nd 4294967296 X - n / 32) 0 (by omega) h fn1 (fun _ _ => rfl) (fun j hj => by omega) (fun j _ hj => hvx1.2.2 j hj) HR
theorem to_step {w d : Nat → Nat} {i cr t : Nat} (h : vl 4294967296 w i + cr * 4294967296 ^ i + vl 4294967296 d i = 4294967296 ^ i) (hd : d i < 4294967296) (ht : t = 4294967295 - d i + cr) (hw : w i = t % 4294967296) : vl 4294967296 w (i + 1) + t / 4294967296 * 4294967296 ^ (i + 1) + vl 4294967296 d (i + 1) = 4294967296 ^ (i + 1) := by
  rw [vl_succ, vl_succ, bp_succ, hw]
  have h1 : t * 4294967296 ^ i = t % 4294967296 * 4294967296 ^ i + t / 4294967296 * (4294967296 ^ i * 4294967296) := by
    rw [Nat.mul_comm (4294967296 ^ i) 4294967296, ← Nat.mul_assoc, ← Nat.add_mul]
    congr 1
    omega
  have h2 : t * 4294967296 ^ i + d i * 4294967296 ^ i = 4294967295 * 4294967296 ^ i + cr * 4294967296 ^ i := by
    rw [← Nat.add_mul, ← Nat.add_mul]
    congr 1
    omega
  have h3 : 4294967296 ^ i * 4294967296 = 4294967295 * 4294967296 ^ i + 4294967296 ^ i := by omega
  omega
theorem ln_not {d : Nat} (hd : d < 4294967296) : (lN d ^^^ (-1)) &&& 4294967295 = lN (4294967295 - d) := by
  apply wb_inj
  apply BitVec.eq_of_toNat_eq
  rw [Int64.toBitVec_and, Int64.toBitVec_xor, wb_tb, wb_tb, show (-1 : Int64).toBitVec = BitVec.allOnes 64 from rfl, BitVec.xor_allOnes, BitVec.toNat_and, BitVec.toNat_not, BitVec.toNat_ofNat, BitVec.toNat_ofNat, show (4294967295 : Int64).toBitVec.toNat = 2 ^ 32 - 1 from rfl, Nat.and_two_pow_sub_one_eq_mod]
  omega
set_option maxRecDepth 100000 in
set_option maxHeartbeats 4000000 in
/-- turnOver(n): this becomes 2^(32 n) less what the n lowest places hold, which is not 0 -/
theorem cW_turnOver (HR : rw_at 2 cJ L r ar cp cn fn h) (hp : p ∈ L) (ht : tys[0]? = some (cJ, .long)) {n : Nat} (hn : n ≤ cp p) (d : Nat → Nat) (hd : ∀ i, i < n → d i < 4294967296 ∧ fn p i = lN (d i)) (hpos : 0 < vl 4294967296 d n) : vx_M l D vcl tys my_W_turnOver lw_gd (rm_ 1 0 0 21) [.ref p, .int (nI n)] h (fun v h' k m => v = none ∧ k = 0 ∧ m = 0 ∧ ∃ (cn' : Nat → Int32) (fn' : Nat → Nat → Int64), rw_at 2 cJ L r ar cp cn' fn' h' ∧ (∀ q, q ≠ p → cn' q = cn q ∧ fn' q = fn q) ∧ wv cp cn' fn' p (4294967296 ^ n - vl 4294967296 d n)) := by
  have hc := rw_cap HR hp
  refine vx_M.ofV (cc := bc_W_turnOver) (maxL := 7) (ret := none) (own := rW) false rfl (by decide +kernel) wC_W_turnOver (fun q => by cases q) (Nat.le_of_ble_eq_true rfl) (fun A H0 G IG RG => ?_)
  show vx_V _ _ _ _ _ _ _ _ _ 0 [(0, .ref p), (1, .int (nI n))] []
  have loop : ∀ (m i : Nat), i + m = n → ∀ (h : vx_h) (fn2 : Nat → Nat → Int64) (w : Nat → Nat) (cr : Nat), cr ≤ 1 → (∀ q, q ≠ p → fn2 q = fn q) → (∀ j, j < i → w j < 4294967296 ∧ fn2 p j = lN (w j)) → (∀ j, i ≤ j → fn2 p j = fn p j) → vl 4294967296 w i + cr * 4294967296 ^ i + vl 4294967296 d i = 4294967296 ^ i → rw_at 2 cJ L r ar cp cn fn2 h → vx_V D vcl A H0 7 G h 0 0 5 [(4, .int (nI i)), (2, .long (lN cr)), (0, .ref p), (1, .int (nI n))] [] := by
    intro m
    induction m with
    | zero =>
      intro i him h fn2 w cr hcr f1 f2 f3 f4 HR
      obtain rfl : i = n := by omega
      refine vx_iload IG dc_W_turnOver_5 0 rfl ?_
      refine vx_iload_n IG dc_W_turnOver_7 rfl 3 rfl ?_
      refine vx_icmp_ge (tgt := 55) IG dc_W_turnOver_8 (by decide) (fun _ => ?_) (fun c_ => absurd (nI_le (Nat.le_refl _) (by omega)) c_)
      refine vx_aload_n IG dc_W_turnOver_55 rfl 2 rfl ?_
      refine vx_iload_n IG dc_W_turnOver_56 rfl 3 rfl ?_
      refine vx_callV (As := [.int (nI i)]) (st := []) IG lw_good (cW_trim HR hp ht hn w f2) (rw_obj HR hp) rfl wC_W_trim wL_W_37 wI_W_trim wS_W_trim wX_W 1 (by decide +kernel) rfl ⟨Nat.le_of_ble_eq_true rfl, Nat.le_of_ble_eq_true rfl⟩ ⟨(by decide), (by decide)⟩ rfl (Nat.le_of_ble_eq_true rfl) dc_W_turnOver_57 (fun v h k_ n_ hq => ?_)
      obtain ⟨rfl, rfl, rfl, HR⟩ := hq
      show vx_V _ _ _ _ _ _ _ _ _ 60 [(4, .int (nI i)), (2, .long (lN cr)), (0, .ref p), (1, .int (nI i))] []
      refine vx_ret none RG (vx_endv dc_W_turnOver_60) rfl ?_
      have hcr0 : cr = 0 := by
        rcases (show cr = 0 ∨ cr = 1 by omega) with z | z
        · exact z
        · rw [z] at f4; omega
      have e : vl 4294967296 w i = 4294967296 ^ i - vl 4294967296 d i := by rw [hcr0] at f4; omega
      have hw := wv_trim (cp := cp) (cn' := va_up cn p (nI (nd 4294967296 (vl 4294967296 w i)))) f2 hn (va_up_self _ _ _)
      refine ⟨rfl, rfl, rfl, _, fn2, HR, fun q z => ⟨va_up_ne _ _ z, f1 q z⟩, ?_⟩
      rw [← e]
      exact hw
    | succ m ih =>
      intro i him h fn2 w cr hcr f1 f2 f3 f4 HR
      have hdi := hd i (by omega)
      refine vx_iload IG dc_W_turnOver_5 0 rfl ?_
      refine vx_iload_n IG dc_W_turnOver_7 rfl 3 rfl ?_
      refine vx_icmp_ge (tgt := 55) IG dc_W_turnOver_8 (by decide) (fun c_ => absurd c_ (nI_ge (by omega) (by omega))) (fun _ => ?_)
      refine vx_aload_n IG dc_W_turnOver_11 rfl 2 rfl ?_
      refine wr_dig IG HR hp wF_W_11 dc_W_turnOver_12 ?_
      refine vx_iload IG dc_W_turnOver_15 0 rfl ?_
      refine wr_ald IG HR hp ht i rfl (by omega) dc_W_turnOver_17 ?_
      refine vx_topl (y := lN (d i)) ((f3 i (Nat.le_refl i)).trans hdi.2) ?_
      refine vx_ldc2 (v := -1) IG (by decide +kernel) dc_W_turnOver_18 ?_
      refine vx_lxor IG dc_W_turnOver_21 ?_
      refine vx_ldc2 (v := 4294967295) IG (by decide +kernel) dc_W_turnOver_22 ?_
      refine vx_land IG dc_W_turnOver_25 ?_
      refine vx_topl (y := lN (4294967295 - d i)) (ln_not hdi.1) ?_
      refine vx_lload_n IG dc_W_turnOver_26 rfl 1 rfl ?_
      refine vx_ladd IG dc_W_turnOver_27 ?_
      refine vx_topl (y := lN (4294967295 - d i + cr)) (lN_add _ _) ?_
      refine vx_lstore (lv' := [(5, .long (lN (4294967295 - d i + cr))), (4, .int (nI i)), (2, .long (lN cr)), (0, .ref p), (1, .int (nI n))]) IG dc_W_turnOver_28 (by decide) rfl ?_
      refine vx_aload_n IG dc_W_turnOver_30 rfl 3 rfl ?_
      refine wr_dig IG HR hp wF_W_11 dc_W_turnOver_31 ?_
      refine vx_iload IG dc_W_turnOver_34 1 rfl ?_
      refine vx_lload IG dc_W_turnOver_36 0 rfl ?_
      refine vx_ldc2 (v := 4294967295) IG (by decide +kernel) dc_W_turnOver_38 ?_
      refine vx_land IG dc_W_turnOver_41 ?_
      refine vx_topl (y := lN ((4294967295 - d i + cr) % 4294967296)) (ln_mask _) ?_
      refine wr_ast IG HR hp ht i rfl (by omega) dc_W_turnOver_42 (fun h HR => ?_)
      obtain ⟨fn3, e_fn3⟩ : ∃ z, z = va_up fn2 p (vp_updL (fn2 p) i (lN ((4294967295 - d i + cr) % 4294967296))) := ⟨_, rfl⟩
      rw [← e_fn3] at HR
      refine vx_lload IG dc_W_turnOver_43 0 rfl ?_
      refine vx_bipush (v := 32) IG dc_W_turnOver_45 (by decide) ?_
      refine vx_lushr (v := lN ((4294967295 - d i + cr) / 4294967296)) IG dc_W_turnOver_47 (ln_shr32 (by omega)) ?_
      refine vx_lstore_n (lv' := [(2, .long (lN ((4294967295 - d i + cr) / 4294967296))), (5, .long (lN (4294967295 - d i + cr))), (4, .int (nI i)), (0, .ref p), (1, .int (nI n))]) IG dc_W_turnOver_48 rfl (by decide) rfl ?_
      refine vx_iinc (q := 2) (v := nI (i + 1)) (lv' := [(4, .int (nI (i + 1))), (2, .long (lN ((4294967295 - d i + cr) / 4294967296))), (5, .long (lN (4294967295 - d i + cr))), (0, .ref p), (1, .int (nI n))]) IG dc_W_turnOver_49 rfl (nI_1 i) (by decide) rfl ?_
      refine vx_goto (tgt := 5) IG dc_W_turnOver_52 (by decide) ?_
      refine vx_same (lv' := [(4, .int (nI (i + 1))), (2, .long (lN ((4294967295 - d i + cr) / 4294967296))), (0, .ref p), (1, .int (nI n))]) IG [0, 1, 3, 4] rfl ?_
      refine ih (i + 1) (by omega) h fn3 (fun j => if j = i then (4294967295 - d i + cr) % 4294967296 else w j) _ (by omega) (fun q z => ?_) (fun j hj => ?_) (fun j hj => ?_) ?_ HR
      · rw [e_fn3, va_up_ne _ _ z]; exact f1 q z
      · by_cases z : j = i
        · simp only [z, if_true]
          exact ⟨by omega, by rw [e_fn3, va_up_self, pk_uLs]⟩
        · simp only [z, if_false]
          exact ⟨(f2 j (by omega)).1, by rw [e_fn3, va_up_self, pk_uLn z]; exact (f2 j (by omega)).2⟩
      · rw [e_fn3, va_up_self, pk_uLn (by omega)]; exact f3 j (by omega)
      · refine to_step (cr := cr) ?_ hdi.1 rfl (by show (if i = i then _ else _) = _; rw [if_pos rfl])
        rw [vl_congr (e := w) (fun j hj => by show (if _ then _ else _) = _; rw [if_neg (by omega)])]
        exact f4
  refine vx_lconst (v := 1) IG dc_W_turnOver_0 (by decide) ?_
  refine vx_lstore_n (lv' := [(2, .long 1), (0, .ref p), (1, .int (nI n))]) IG dc_W_turnOver_1 rfl (by decide) rfl ?_
  refine vx_iconst (v := 0) IG dc_W_turnOver_2 (by decide) ?_
  refine vx_istore (lv' := [(4, .int 0), (2, .long 1), (0, .ref p), (1, .int (nI n))]) IG dc_W_turnOver_3 (by decide) rfl ?_
  exact loop n 0 (by omega) h fn (fun _ => 0) 1 (by decide) (fun _ _ => rfl) (fun j hj => by omega) (fun _ _ => rfl) (by simp [vl]) HR
theorem vl_rep {b : Nat} (d : Nat → Nat) (h0 : ∀ k, d (2 * k) = b % 4294967296) (h1 : ∀ k, d (2 * k + 1) = b / 4294967296) (n : Nat) : vl 4294967296 d (2 * n) = vl 18446744073709551616 (fun _ => b) n := by
  induction n with
  | zero => rfl
  | succ n ih =>
    rw [show 2 * (n + 1) = 2 * n + 1 + 1 by omega, vl_succ, vl_succ, vl_succ, ih, h0, h1, bp_succ, show 18446744073709551616 ^ n = 4294967296 ^ (2 * n) by rw [Nat.pow_mul]]
    have e : b * 4294967296 ^ (2 * n) = b % 4294967296 * 4294967296 ^ (2 * n) + b / 4294967296 * (4294967296 ^ (2 * n) * 4294967296) := by
      rw [Nat.mul_comm (4294967296 ^ (2 * n)) 4294967296, ← Nat.mul_assoc, ← Nat.add_mul]
      congr 1
      omega
    rw [e]
    omega
theorem nI_2 (k : Nat) : 2 * nI k = nI (2 * k) := pk_mul 2 k
set_option maxRecDepth 100000 in
set_option maxHeartbeats 4000000 in
/-- repeat(bits, n): n times the 64 bits, one beside the other -/
theorem cW_repeat (HP : pool cJ L r V h C S) (hL : L.Nodup) (hp : p ∈ L) (ht : tys[0]? = some (cJ, .long)) {b n : Nat} (hb : b < 18446744073709551616) (hn : n ≤ 2050) : vx_M l D vcl tys my_W_repeat lw_gd (rm_ 3 C S 64) [.ref p, .long (lN b), .int (nI n)] h (pend cJ L r (va_up V p (vl 18446744073709551616 (fun _ => b) n)) C S none) := by
  obtain ⟨ar, cp, cn, fn, HR, hV, hC, hS⟩ := HP
  refine vx_M.ofV (cc := bc_W_repeat) (maxL := 5) (ret := none) (own := rW) false rfl (by decide +kernel) wC_W_repeat (fun q => by cases q) (Nat.le_of_ble_eq_true rfl) (fun A H0 G IG RG => ?_)
  show vx_V _ _ _ _ _ _ _ _ _ 0 [(0, .ref p), (1, .long (lN b)), (3, .int (nI n))] []
  refine vx_aload_n IG dc_W_repeat_0 rfl 0 rfl ?_
  refine vx_iconst (v := 2) IG dc_W_repeat_1 (by decide) ?_
  refine vx_iload_n IG dc_W_repeat_2 rfl 2 rfl ?_
  refine vx_imul IG dc_W_repeat_3 ?_
  refine vx_topi (y := nI (2 * n)) (nI_2 n) ?_
  refine vx_callV (As := [.int (nI (2 * n))]) (st := []) IG lw_good (cW_room HR hL hp ht (n := 2 * n) (by omega) hC hS) (rw_obj HR hp) rfl wC_W_room wL_W_31 wI_W_room wS_W_room wX_W 1 (by decide +kernel) rfl ⟨Nat.le_of_ble_eq_true rfl, Nat.le_of_ble_eq_true rfl⟩ ⟨(by show 0 + C ≤ C; omega), (by show 0 + S ≤ S; omega)⟩ rfl (Nat.le_of_ble_eq_true rfl) dc_W_repeat_4 (fun v h k_ n_ hq => ?_)
  obtain ⟨rfl, ar1, cp1, fn1, HR, ho, hnn, hge, hsame, kc, ks⟩ := hq
  have hc1 := rw_cap HR hp
  show vx_V _ _ _ _ _ _ _ _ _ 7 [(0, .ref p), (1, .long (lN b)), (3, .int (nI n))] []
  obtain ⟨d, ed⟩ : ∃ d : Nat → Nat, d = fun j => if j % 2 = 0 then b % 4294967296 else b / 4294967296 := ⟨_, rfl⟩
  have d0 : ∀ k, d (2 * k) = b % 4294967296 := fun k => by rw [ed]; show (if _ then _ else _) = _; rw [if_pos (by omega)]
  have d1 : ∀ k, d (2 * k + 1) = b / 4294967296 := fun k => by rw [ed]; show (if _ then _ else _) = _; rw [if_neg (by omega)]
  have dlt : ∀ j, d j < 4294967296 := fun j => by rw [ed]; show (if j % 2 = 0 then b % 4294967296 else b / 4294967296) < 4294967296; split <;> omega
  have loop : ∀ (m i : Nat), i + m = n → ∀ (h : vx_h) (fn2 : Nat → Nat → Int64), (∀ q, q ≠ p → fn2 q = fn1 q) → (∀ j, j < 2 * i → fn2 p j = lN (d j)) → rw_at 2 cJ L r ar1 cp1 cn fn2 h → vx_V D vcl A H0 5 G h (0 + k_) (0 + n_) 10 [(4, .int (nI i)), (0, .ref p), (1, .long (lN b)), (3, .int (nI n))] [] := by
    intro m
    induction m with
    | zero =>
      intro i him h fn2 f1 f2 HR
      obtain rfl : i = n := by omega
      refine vx_iload IG dc_W_repeat_10 0 rfl ?_
      refine vx_iload_n IG dc_W_repeat_12 rfl 3 rfl ?_
      refine vx_icmp_ge (tgt := 51) IG dc_W_repeat_13 (by decide) (fun _ => ?_) (fun c_ => absurd (nI_le (Nat.le_refl _) (by omega)) c_)
      refine vx_aload_n IG dc_W_repeat_51 rfl 1 rfl ?_
      refine vx_iconst (v := 2) IG dc_W_repeat_52 (by decide) ?_
      refine vx_iload_n IG dc_W_repeat_53 rfl 3 rfl ?_
      refine vx_imul IG dc_W_repeat_54 ?_
      refine vx_topi (y := nI (2 * i)) (nI_2 i) ?_
      have hd : ∀ j, j < 2 * i → d j < 4294967296 ∧ fn2 p j = lN (d j) := fun j hj => ⟨dlt j, f2 j hj⟩
      refine vx_callV (As := [.int (nI (2 * i))]) (st := []) IG lw_good (cW_trim HR hp ht hnn d hd) (rw_obj HR hp) rfl wC_W_trim wL_W_37 wI_W_trim wS_W_trim wX_W 1 (by decide +kernel) rfl ⟨Nat.le_of_ble_eq_true rfl, Nat.le_of_ble_eq_true rfl⟩ ⟨(by show 0 + k_ + 0 ≤ C; omega), (by show 0 + n_ + 0 ≤ S; omega)⟩ rfl (Nat.le_of_ble_eq_true rfl) dc_W_repeat_55 (fun v h k_ n_ hq => ?_)
      obtain ⟨rfl, rfl, rfl, HR⟩ := hq
      show vx_V _ _ _ _ _ _ _ _ _ 58 [(4, .int (nI i)), (0, .ref p), (1, .long (lN b)), (3, .int (nI i))] []
      refine vx_ret none RG (vx_endv dc_W_repeat_58) rfl ?_
      have hw := wv_trim (cp := cp1) (cn' := va_up cn p (nI (nd 4294967296 (vl 4294967296 d (2 * i))))) hd hnn (va_up_self _ _ _)
      rw [vl_rep d d0 d1] at HR hw
      refine pool_end (p := p) hV HR (fun q z => ⟨(ho q z).1, va_up_ne _ _ z, ?_⟩) hw (by omega) (by omega)
      rw [f1 q z, (ho q z).2]
    | succ m ih =>
      intro i him h fn2 f1 f2 HR
      refine vx_iload IG dc_W_repeat_10 0 rfl ?_
      refine vx_iload_n IG dc_W_repeat_12 rfl 3 rfl ?_
      refine vx_icmp_ge (tgt := 51) IG dc_W_repeat_13 (by decide) (fun c_ => absurd c_ (nI_ge (by omega) (by omega))) (fun _ => ?_)
      refine vx_aload_n IG dc_W_repeat_16 rfl 1 rfl ?_
      refine wr_dig IG HR hp wF_W_11 dc_W_repeat_17 ?_
      refine vx_iconst (v := 2) IG dc_W_repeat_20 (by decide) ?_
      refine vx_iload IG dc_W_repeat_21 0 rfl ?_
      refine vx_imul IG dc_W_repeat_23 ?_
      refine vx_topi (y := nI (2 * i)) (nI_2 i) ?_
      refine vx_lload_n IG dc_W_repeat_24 rfl 2 rfl ?_
      refine vx_ldc2 (v := 4294967295) IG (by decide +kernel) dc_W_repeat_25 ?_
      refine vx_land IG dc_W_repeat_28 ?_
      refine vx_topl (y := lN (b % 4294967296)) (ln_mask b) ?_
      refine wr_ast IG HR hp ht (2 * i) rfl (by omega) dc_W_repeat_29 (fun h HR => ?_)
      obtain ⟨fn3, e_fn3⟩ : ∃ z, z = va_up fn2 p (vp_updL (fn2 p) (2 * i) (lN (b % 4294967296))) := ⟨_, rfl⟩
      rw [← e_fn3] at HR
      refine vx_aload_n IG dc_W_repeat_30 rfl 1 rfl ?_
      refine wr_dig IG HR hp wF_W_11 dc_W_repeat_31 ?_
      refine vx_iconst (v := 2) IG dc_W_repeat_34 (by decide) ?_
      refine vx_iload IG dc_W_repeat_35 0 rfl ?_
      refine vx_imul IG dc_W_repeat_37 ?_
      refine vx_topi (y := nI (2 * i)) (nI_2 i) ?_
      refine vx_iconst (v := 1) IG dc_W_repeat_38 (by decide) ?_
      refine vx_iadd IG dc_W_repeat_39 ?_
      refine vx_topi (y := nI (2 * i + 1)) (nI_1 _) ?_
      refine vx_lload_n IG dc_W_repeat_40 rfl 2 rfl ?_
      refine vx_bipush (v := 32) IG dc_W_repeat_41 (by decide) ?_
      refine vx_lushr (v := lN (b / 4294967296)) IG dc_W_repeat_43 (ln_shr32 hb) ?_
      refine wr_ast IG HR hp ht (2 * i + 1) rfl (by omega) dc_W_repeat_44 (fun h HR => ?_)
      obtain ⟨fn4, e_fn4⟩ : ∃ z, z = va_up fn3 p (vp_updL (fn3 p) (2 * i + 1) (lN (b / 4294967296))) := ⟨_, rfl⟩
      rw [← e_fn4] at HR
      refine vx_iinc (q := 0) (v := nI (i + 1)) (lv' := [(4, .int (nI (i + 1))), (0, .ref p), (1, .long (lN b)), (3, .int (nI n))]) IG dc_W_repeat_45 rfl (nI_1 i) (by decide) rfl ?_
      refine vx_goto (tgt := 10) IG dc_W_repeat_48 (by decide) ?_
      refine ih (i + 1) (by omega) h fn4 (fun q z => ?_) (fun j hj => ?_) HR
      · rw [e_fn4, va_up_ne _ _ z, e_fn3, va_up_ne _ _ z]; exact f1 q z
      · rw [e_fn4, va_up_self]
        by_cases z : j = 2 * i + 1
        · rw [z, pk_uLs, d1]
        · rw [pk_uLn z, e_fn3, va_up_self]
          by_cases y : j = 2 * i
          · rw [y, pk_uLs, d0]
          · rw [pk_uLn y]; exact f2 j (by omega)
  refine vx_iconst (v := 0) IG dc_W_repeat_7 (by decide) ?_
  refine vx_istore (lv' := [(4, .int 0), (0, .ref p), (1, .long (lN b)), (3, .int (nI n))]) IG dc_W_repeat_8 (by decide) rfl ?_
  exact loop n 0 (by omega) h fn1 (fun _ _ => rfl) (fun j hj => by omega) HR
end
