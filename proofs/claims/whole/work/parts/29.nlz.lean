/-! leading zeros; Whole.bits -/
section
variable {l : Launch} {D : va_G} {cl : List vw_C} {tys : List (ClassId × FieldType)} {R : Room} {own : String} {cc : ByteArray} {nL : Nat} {Ts : List Cond} {ct : Bool} {A : Nat → Prop} {H0 : Heap} {G : vx_G} {h : vx_h} {k n pc : Nat} {lv : List (Nat × Value)} {st : List Value}
theorem vx_ldcw (IG : vx_I l D cl tys R own cc nL Ts ct A H0 G) {index : Nat} {v : Int32} (hm : Cond.constant own index v ∈ Ts) (hd : decode cc pc = .ok (.ldc_w index, 3)) (K : vx_V D cl A H0 nL G h k n (pc + 3) lv (.int v :: st)) : vx_V D cl A H0 nL G h k n pc lv st := by
  obtain ⟨p, e, s, m, args, below, meth, c, Q, rfl, hx, hb, hml, hown, hts, -⟩ := IG
  intro H locs ls g1 g2 g3
  exact lv_ldcw hx hb hown (hts _ hm) hd (K H locs ls g1 g2 g3)
end
theorem bl_shift {N s : Nat} (h : 0 < N / 2 ^ s) : bl N = s + bl (N / 2 ^ s) := by
  obtain ⟨c, hc⟩ : ∃ c, bl (N / 2 ^ s) = c + 1 := ⟨bl (N / 2 ^ s) - 1, by have := bl_pos h; omega⟩
  have h1 : 2 ^ c ≤ N / 2 ^ s := bl_lt.mp (by omega)
  have h2 : N / 2 ^ s < 2 ^ (c + 1) := bl_le.mp (by omega)
  have hp : 0 < 2 ^ s := Nat.pow_pos (by decide)
  rw [Nat.le_div_iff_mul_le hp, ← Nat.pow_add] at h1
  rw [Nat.div_lt_iff_lt_mul hp, ← Nat.pow_add] at h2
  rw [hc, bl_eq (c := c + s) h1 (by rw [show c + s + 1 = c + 1 + s by omega]; exact h2)]
  omega
theorem bl_123 {i : Nat} (h0 : 0 < i) (h : i < 4) : bl i = 1 + i / 2 := by
  rcases (show i = 1 ∨ i = 2 ∨ i = 3 by omega) with rfl | rfl | rfl
  · exact bl_eq (c := 0) (by decide) (by decide)
  · exact bl_eq (c := 1) (by decide) (by decide)
  · exact bl_eq (c := 1) (by decide) (by decide)
theorem nI_dec {a c : Nat} {x : Int32} (h : c ≤ a) (hx : x = -nI c) : nI a + x = nI (a - c) := by
  rw [hx, ← Int32.sub_eq_add_neg]
  exact pk_sub h
theorem dv_pow (d s k : Nat) : d / 2 ^ s / 2 ^ k = d / 2 ^ (s + k) := by rw [Nat.div_div_eq_div_mul, ← Nat.pow_add]
theorem nI_neg {d : Nat} (h : 2147483648 ≤ d) (h2 : d < 4294967296) : nI d < 0 := by
  rw [Int32.lt_iff_toInt_lt]
  show (Int32.ofNat d).toInt < (0 : Int32).toInt
  have e : (Int32.ofNat d).toInt = (d : Int) - 4294967296 := by
    show (BitVec.ofNat 32 d).toInt = _
    rw [BitVec.toInt_eq_toNat_cond, BitVec.toNat_ofNat, Nat.mod_eq_of_lt (by omega), if_neg (by omega)]
    rfl
  rw [e]
  show _ < (0 : Int)
  omega
section
variable {l : Launch} {D : va_G} {tys : List (ClassId × FieldType)}
set_option maxRecDepth 100000 in
set_option maxHeartbeats 4000000 in
theorem cJI_nlz (h : vx_h) {d : Nat} (hd : d < 4294967296) : vx_M l D vcl tys my_JI_numberOfLeadingZeros lw_gd (rm_ 0 0 0 0) [.int (nI d)] h (fun v h' k n => v = some (.int (nI (32 - bl d))) ∧ h' = h ∧ k = 0 ∧ n = 0) := by
  refine vx_M.ofV (cc := bc_JI_numberOfLeadingZeros) (maxL := 2) (ret := some .int) (own := "java/lang/Integer") false rfl (by decide +kernel) wC_JI_numberOfLeadingZeros (fun q => by cases q) (Nat.le_of_ble_eq_true rfl) (fun A H0 G IG RG => ?_)
  show vx_V _ _ _ _ _ _ _ _ _ 0 [(0, .int (nI d))] []
  have p73 : ∀ (s i : Nat), i = d / 2 ^ s → 0 < i → i < 4 → bl d ≤ 31 → vx_V D vcl A H0 2 G h 0 0 73 [(0, .int (nI i)), (1, .int (nI (31 - s)))] [] := by
    intro s i hi h0 h4 hb
    have e1 := bl_shift (N := d) (s := s) (by omega)
    rw [← hi, bl_123 h0 h4] at e1
    refine vx_iload_n IG dc_JI_numberOfLeadingZeros_73 rfl 1 rfl ?_
    refine vx_iload_n IG dc_JI_numberOfLeadingZeros_74 rfl 0 rfl ?_
    refine vx_iconst (v := 1) IG dc_JI_numberOfLeadingZeros_75 (by decide) ?_
    refine vx_iushr (v := nI (i / 2 ^ 1)) IG dc_JI_numberOfLeadingZeros_76 (pk_ushrN (by omega) 1 1 (by decide)) ?_
    refine vx_isub IG dc_JI_numberOfLeadingZeros_77 ?_
    refine vx_topi (y := nI (32 - bl d)) (by rw [pk_sub (by omega)]; congr 1; omega) ?_
    refine vx_ret (some (.int (nI (32 - bl d)))) RG (vx_endi (by first | rfl | decide) dc_JI_numberOfLeadingZeros_78) rfl ?_
    exact ⟨rfl, rfl, rfl, rfl⟩
  have p61 : ∀ (s i : Nat), i = d / 2 ^ s → 0 < i → i < 16 → bl d ≤ 31 → vx_V D vcl A H0 2 G h 0 0 61 [(0, .int (nI i)), (1, .int (nI (31 - s)))] [] := by
    intro s i hi h0 h4 hb
    have e1 := bl_shift (N := d) (s := s) (by omega)
    have e2 := bl_pos h0
    refine vx_iload_n IG dc_JI_numberOfLeadingZeros_61 rfl 0 rfl ?_
    refine vx_iconst (v := 4) IG dc_JI_numberOfLeadingZeros_62 (by decide) ?_
    by_cases z : i < 4
    · refine vx_icmp_lt (tgt := 73) IG dc_JI_numberOfLeadingZeros_63 (by decide) (fun _ => ?_) (fun c_ => absurd (nI_lt (b := 4) z (by decide)) c_)
      exact p73 s i hi h0 z hb
    · refine vx_icmp_lt (tgt := 73) IG dc_JI_numberOfLeadingZeros_63 (by decide) (fun c_ => absurd c_ (nI_nlt (b := 4) (by omega) (by omega))) (fun _ => ?_)
      have e3 : i / 2 ^ 2 = d / 2 ^ (s + 2) := by rw [hi, dv_pow]
      have e4 := bl_shift (N := d) (s := s + 2) (by rw [← e3]; omega)
      refine vx_iinc (q := 1) (v := nI (31 - (s + 2))) (lv' := [(1, .int (nI (31 - (s + 2)))), (0, .int (nI i))]) IG dc_JI_numberOfLeadingZeros_66 rfl (by rw [nI_dec (c := 2) (by omega) (by decide)]; congr 1) (by decide) rfl ?_
      refine vx_iload_n IG dc_JI_numberOfLeadingZeros_69 rfl 1 rfl ?_
      refine vx_iconst (v := 2) IG dc_JI_numberOfLeadingZeros_70 (by decide) ?_
      refine vx_iushr (v := nI (i / 2 ^ 2)) IG dc_JI_numberOfLeadingZeros_71 (pk_ushrN (by omega) 2 2 (by decide)) ?_
      refine vx_istore_n (lv' := [(0, .int (nI (i / 2 ^ 2))), (1, .int (nI (31 - (s + 2))))]) IG dc_JI_numberOfLeadingZeros_72 rfl (by decide) rfl ?_
      exact p73 (s + 2) _ e3 (by omega) (by omega) hb
  have p48 : ∀ (s i : Nat), i = d / 2 ^ s → 0 < i → i < 256 → bl d ≤ 31 → vx_V D vcl A H0 2 G h 0 0 48 [(0, .int (nI i)), (1, .int (nI (31 - s)))] [] := by
    intro s i hi h0 h4 hb
    refine vx_iload_n IG dc_JI_numberOfLeadingZeros_48 rfl 0 rfl ?_
    refine vx_bipush (v := 16) IG dc_JI_numberOfLeadingZeros_49 (by decide) ?_
    by_cases z : i < 16
    · refine vx_icmp_lt (tgt := 61) IG dc_JI_numberOfLeadingZeros_51 (by decide) (fun _ => ?_) (fun c_ => absurd (nI_lt (b := 16) z (by decide)) c_)
      exact p61 s i hi h0 z hb
    · refine vx_icmp_lt (tgt := 61) IG dc_JI_numberOfLeadingZeros_51 (by decide) (fun c_ => absurd c_ (nI_nlt (b := 16) (by omega) (by omega))) (fun _ => ?_)
      have e3 : i / 2 ^ 4 = d / 2 ^ (s + 4) := by rw [hi, dv_pow]
      have e4 := bl_shift (N := d) (s := s + 4) (by rw [← e3]; omega)
      refine vx_iinc (q := 1) (v := nI (31 - (s + 4))) (lv' := [(1, .int (nI (31 - (s + 4)))), (0, .int (nI i))]) IG dc_JI_numberOfLeadingZeros_54 rfl (by rw [nI_dec (c := 4) (by omega) (by decide)]; congr 1) (by decide) rfl ?_
      refine vx_iload_n IG dc_JI_numberOfLeadingZeros_57 rfl 1 rfl ?_
      refine vx_iconst (v := 4) IG dc_JI_numberOfLeadingZeros_58 (by decide) ?_
      refine vx_iushr (v := nI (i / 2 ^ 4)) IG dc_JI_numberOfLeadingZeros_59 (pk_ushrN (by omega) 4 4 (by decide)) ?_
      refine vx_istore_n (lv' := [(0, .int (nI (i / 2 ^ 4))), (1, .int (nI (31 - (s + 4))))]) IG dc_JI_numberOfLeadingZeros_60 rfl (by decide) rfl ?_
      exact p61 (s + 4) _ e3 (by omega) (by omega) hb
  have p33 : ∀ (s i : Nat), i = d / 2 ^ s → 0 < i → i < 65536 → bl d ≤ 31 → vx_V D vcl A H0 2 G h 0 0 33 [(0, .int (nI i)), (1, .int (nI (31 - s)))] [] := by
    intro s i hi h0 h4 hb
    refine vx_iload_n IG dc_JI_numberOfLeadingZeros_33 rfl 0 rfl ?_
    refine vx_sipush (v := 256) IG dc_JI_numberOfLeadingZeros_34 (by decide) ?_
    by_cases z : i < 256
    · refine vx_icmp_lt (tgt := 48) IG dc_JI_numberOfLeadingZeros_37 (by decide) (fun _ => ?_) (fun c_ => absurd (nI_lt (b := 256) z (by decide)) c_)
      exact p48 s i hi h0 z hb
    · refine vx_icmp_lt (tgt := 48) IG dc_JI_numberOfLeadingZeros_37 (by decide) (fun c_ => absurd c_ (nI_nlt (b := 256) (by omega) (by omega))) (fun _ => ?_)
      have e3 : i / 2 ^ 8 = d / 2 ^ (s + 8) := by rw [hi, dv_pow]
      have e4 := bl_shift (N := d) (s := s + 8) (by rw [← e3]; omega)
      refine vx_iinc (q := 1) (v := nI (31 - (s + 8))) (lv' := [(1, .int (nI (31 - (s + 8)))), (0, .int (nI i))]) IG dc_JI_numberOfLeadingZeros_40 rfl (by rw [nI_dec (c := 8) (by omega) (by decide)]; congr 1) (by decide) rfl ?_
      refine vx_iload_n IG dc_JI_numberOfLeadingZeros_43 rfl 1 rfl ?_
      refine vx_bipush (v := 8) IG dc_JI_numberOfLeadingZeros_44 (by decide) ?_
      refine vx_iushr (v := nI (i / 2 ^ 8)) IG dc_JI_numberOfLeadingZeros_46 (pk_ushrN (by omega) 8 8 (by decide)) ?_
      refine vx_istore_n (lv' := [(0, .int (nI (i / 2 ^ 8))), (1, .int (nI (31 - (s + 8))))]) IG dc_JI_numberOfLeadingZeros_47 rfl (by decide) rfl ?_
      exact p48 (s + 8) _ e3 (by omega) (by omega) hb
  refine vx_iload_n IG dc_JI_numberOfLeadingZeros_0 rfl 0 rfl ?_
  by_cases z : 0 < d ∧ d < 2147483648
  · refine vx_if_gt (tgt := 15) IG dc_JI_numberOfLeadingZeros_1 (by decide) (fun _ => ?_) (fun c_ => absurd (nI_lt (a := 0) z.1 (by omega)) c_)
    have hb : bl d ≤ 31 := bl_le.mpr (by omega)
    refine vx_bipush (v := 31) IG dc_JI_numberOfLeadingZeros_15 (by decide) ?_
    refine vx_istore_n (lv' := [(1, .int 31), (0, .int (nI d))]) IG dc_JI_numberOfLeadingZeros_17 rfl (by decide) rfl ?_
    refine vx_iload_n IG dc_JI_numberOfLeadingZeros_18 rfl 1 rfl ?_
    refine vx_ldcw (v := 65536) IG wK_JI_264 dc_JI_numberOfLeadingZeros_19 ?_
    by_cases y : d < 65536
    · refine vx_icmp_lt (tgt := 33) IG dc_JI_numberOfLeadingZeros_22 (by decide) (fun _ => ?_) (fun c_ => absurd (nI_lt (b := 65536) y (by decide)) c_)
      refine vx_same (lv' := [(0, .int (nI d)), (1, .int 31)]) IG [1, 0] rfl ?_
      exact p33 0 d (by simp) z.1 y hb
    · refine vx_icmp_lt (tgt := 33) IG dc_JI_numberOfLeadingZeros_22 (by decide) (fun c_ => absurd c_ (nI_nlt (b := 65536) (by omega) (by omega))) (fun _ => ?_)
      have e4 := bl_shift (N := d) (s := 16) (by omega)
      refine vx_iinc (q := 0) (v := nI (31 - 16)) (lv' := [(1, .int (nI (31 - 16))), (0, .int (nI d))]) IG dc_JI_numberOfLeadingZeros_25 rfl (by decide) (by decide) rfl ?_
      refine vx_iload_n IG dc_JI_numberOfLeadingZeros_28 rfl 1 rfl ?_
      refine vx_bipush (v := 16) IG dc_JI_numberOfLeadingZeros_29 (by decide) ?_
      refine vx_iushr (v := nI (d / 2 ^ 16)) IG dc_JI_numberOfLeadingZeros_31 (pk_ushrN (by omega) 16 16 (by decide)) ?_
      refine vx_istore_n (lv' := [(0, .int (nI (d / 2 ^ 16))), (1, .int (nI (31 - 16)))]) IG dc_JI_numberOfLeadingZeros_32 rfl (by decide) rfl ?_
      exact p33 16 _ rfl (by omega) (by omega) hb
  · by_cases y : d = 0
    · refine vx_if_gt (tgt := 15) IG dc_JI_numberOfLeadingZeros_1 (by decide) (fun c_ => absurd c_ (by rw [y]; decide)) (fun _ => ?_)
      refine vx_iload_n IG dc_JI_numberOfLeadingZeros_4 rfl 0 rfl ?_
      refine vx_if_ne (tgt := 13) IG dc_JI_numberOfLeadingZeros_5 (by decide) (fun c_ => absurd (by rw [y]; decide) c_) (fun _ => ?_)
      refine vx_bipush (v := 32) IG dc_JI_numberOfLeadingZeros_8 (by decide) ?_
      refine vx_goto (tgt := 14) IG dc_JI_numberOfLeadingZeros_10 (by decide) ?_
      refine vx_ret (some (.int 32)) RG (vx_endi (by first | rfl | decide) dc_JI_numberOfLeadingZeros_14) rfl ?_
      exact ⟨by rw [y]; rfl, rfl, rfl, rfl⟩
    · have hneg := nI_neg (d := d) (by omega) hd
      refine vx_if_gt (tgt := 15) IG dc_JI_numberOfLeadingZeros_1 (by decide) (fun c_ => absurd c_ (fun q => by have h1 := Int32.lt_iff_toInt_lt.mp q; have h2 := Int32.lt_iff_toInt_lt.mp hneg; omega)) (fun _ => ?_)
      refine vx_iload_n IG dc_JI_numberOfLeadingZeros_4 rfl 0 rfl ?_
      refine vx_if_ne (tgt := 13) IG dc_JI_numberOfLeadingZeros_5 (by decide) (fun _ => ?_) (fun c_ => absurd c_ (fun q => by rw [q] at hneg; revert hneg; decide))
      refine vx_iconst (v := 0) IG dc_JI_numberOfLeadingZeros_13 (by decide) ?_
      refine vx_ret (some (.int 0)) RG (vx_endi (by first | rfl | decide) dc_JI_numberOfLeadingZeros_14) rfl ?_
      exact ⟨by rw [bl_eq (c := 31) (by omega) (by omega)]; rfl, rfl, rfl, rfl⟩
set_option maxRecDepth 100000 in
set_option maxHeartbeats 4000000 in
theorem cJL_nlz (h : vx_h) {d : Nat} (hd : d < 4294967296) : vx_M l D vcl tys my_JL_numberOfLeadingZeros lw_gd (rm_ 1 0 0 21) [.long (lN d)] h (fun v h' k n => v = some (.int (nI (64 - bl d))) ∧ h' = h ∧ k = 0 ∧ n = 0) := by
  have hb : bl d ≤ 32 := bl_le.mpr hd
  refine vx_M.ofV (cc := bc_JL_numberOfLeadingZeros) (maxL := 3) (ret := some .int) (own := "java/lang/Long") false rfl (by decide +kernel) wC_JL_numberOfLeadingZeros (fun q => by cases q) (Nat.le_of_ble_eq_true rfl) (fun A H0 G IG RG => ?_)
  show vx_V _ _ _ _ _ _ _ _ _ 0 [(0, .long (lN d))] []
  refine vx_lload_n IG dc_JL_numberOfLeadingZeros_0 rfl 0 rfl ?_
  refine vx_bipush (v := 32) IG dc_JL_numberOfLeadingZeros_1 (by decide) ?_
  refine vx_lushr (v := lN 0) IG dc_JL_numberOfLeadingZeros_3 (by rw [ln_shr32 (by omega)]; congr 1; omega) ?_
  refine vx_l2i (v := nI 0) IG dc_JL_numberOfLeadingZeros_4 (lN_i 0) ?_
  refine vx_istore_n (lv' := [(2, .int (nI 0)), (0, .long (lN d))]) IG dc_JL_numberOfLeadingZeros_5 rfl (by decide) rfl ?_
  refine vx_iload_n IG dc_JL_numberOfLeadingZeros_6 rfl 0 rfl ?_
  refine vx_if_ne (tgt := 21) IG dc_JL_numberOfLeadingZeros_7 (by decide) (fun c_ => absurd (by decide) c_) (fun _ => ?_)
  refine vx_bipush (v := 32) IG dc_JL_numberOfLeadingZeros_10 (by decide) ?_
  refine vx_lload_n IG dc_JL_numberOfLeadingZeros_12 rfl 1 rfl ?_
  refine vx_l2i (v := nI d) IG dc_JL_numberOfLeadingZeros_13 (lN_i d) ?_
  refine vx_callS (As := [.int (nI d)]) (st := [.int 32]) IG lw_good (cJI_nlz _ hd) wC_JI_numberOfLeadingZeros wL_JL_308 wT_JI_numberOfLeadingZeros wX_JI 1 (by decide +kernel) rfl ⟨Nat.le_of_ble_eq_true rfl, Nat.le_of_ble_eq_true rfl⟩ ⟨(by decide), (by decide)⟩ rfl (Nat.le_of_ble_eq_true rfl) dc_JL_numberOfLeadingZeros_14 (fun v h k_ n_ hq => ?_)
  obtain ⟨rfl, rfl, rfl, rfl⟩ := hq
  show vx_V _ _ _ _ _ _ _ _ _ 17 [(2, .int (nI 0)), (0, .long (lN d))] [.int (nI (32 - bl d)), .int 32]
  refine vx_iadd IG dc_JL_numberOfLeadingZeros_17 ?_
  refine vx_topi (y := nI (64 - bl d)) (by rw [show (32 : Int32) = nI 32 from rfl, nI_add]; congr 1; omega) ?_
  refine vx_goto (tgt := 25) IG dc_JL_numberOfLeadingZeros_18 (by decide) ?_
  refine vx_ret (some (.int (nI (64 - bl d)))) RG (vx_endi (by first | rfl | decide) dc_JL_numberOfLeadingZeros_25) rfl ?_
  exact ⟨rfl, rfl, rfl, rfl⟩
end
section
variable {l : Launch} {D : va_G} {tys : List (ClassId × FieldType)} {cJ : ClassId} {L : List Nat} {r : vx_h} {p : Nat} {h : vx_h} {V : Nat → Nat} {C S : Nat}
set_option maxRecDepth 100000 in
set_option maxHeartbeats 4000000 in
/-- bits(): how many bits the number has -/
theorem cW_bits (HP : pool cJ L r V h C S) (hp : p ∈ L) (ht : tys[0]? = some (cJ, .long)) : vx_M l D vcl tys my_W_bits lw_gd (rm_ 2 0 0 43) [.ref p] h (fun v h' k m => v = some (.int (nI (bl (V p)))) ∧ h' = h ∧ k = 0 ∧ m = 0) := by
  obtain ⟨ar, cp, cn, fn, HR, hV, hC, hS⟩ := HP
  have hvx := hV p hp
  have hcx := rw_cap HR hp
  have hx2 := hvx.2.1
  refine vx_M.ofV (cc := bc_W_bits) (maxL := 1) (ret := some .int) (own := rW) false rfl (by decide +kernel) wC_W_bits (fun q => by cases q) (Nat.le_of_ble_eq_true rfl) (fun A H0 G IG RG => ?_)
  show vx_V _ _ _ _ _ _ _ _ _ 0 [(0, .ref p)] []
  generalize eX : V p = X at *
  refine vx_aload_n IG dc_W_bits_0 rfl 0 rfl ?_
  refine wr_cnt IG HR hp wF_W_15 dc_W_bits_1 ?_
  refine vx_topi (y := nI (nd 4294967296 X)) hvx.1 ?_
  by_cases z : X = 0
  · refine vx_if_ne (tgt := 9) IG dc_W_bits_4 (by decide) (fun c_ => absurd (by rw [z]; rfl) c_) (fun _ => ?_)
    refine vx_iconst (v := 0) IG dc_W_bits_7 (by decide) ?_
    refine vx_ret (some (.int 0)) RG (vx_endi (by first | rfl | decide) dc_W_bits_8) rfl ?_
    exact ⟨by rw [z]; rfl, rfl, rfl, rfl⟩
  · have hz : 0 < nd 4294967296 X := by
      rcases Nat.eq_zero_or_pos (nd 4294967296 X) with q | q
      · exact absurd ((nd_eq_zero bB1).mp q) z
      · exact q
    have htop := bl_top (w := 32) (N := X) (by decide) (by omega)
    have htb : bl (dg 4294967296 X (nd 4294967296 X - 1)) ≤ 32 := bl_le.mpr (dg_lt bB1 _ _)
    refine vx_if_ne (tgt := 9) IG dc_W_bits_4 (by decide) (fun _ => ?_) (fun c_ => absurd c_ (nI_ne0 hz (by omega)))
    refine vx_bipush (v := 32) IG dc_W_bits_9 (by decide) ?_
    refine vx_aload_n IG dc_W_bits_11 rfl 0 rfl ?_
    refine wr_cnt IG HR hp wF_W_15 dc_W_bits_12 ?_
    refine vx_topi (y := nI (nd 4294967296 X)) hvx.1 ?_
    refine vx_imul IG dc_W_bits_15 ?_
    refine vx_topi (y := nI (32 * nd 4294967296 X)) (pk_mul 32 _) ?_
    refine vx_bipush (v := 32) IG dc_W_bits_16 (by decide) ?_
    refine vx_iadd IG dc_W_bits_18 ?_
    refine vx_topi (y := nI (32 * nd 4294967296 X + 32)) (nI_add _ 32) ?_
    refine vx_aload_n IG dc_W_bits_19 rfl 0 rfl ?_
    refine wr_dig IG HR hp wF_W_11 dc_W_bits_20 ?_
    refine vx_aload_n IG dc_W_bits_23 rfl 0 rfl ?_
    refine wr_cnt IG HR hp wF_W_15 dc_W_bits_24 ?_
    refine vx_topi (y := nI (nd 4294967296 X)) hvx.1 ?_
    refine vx_iconst (v := 1) IG dc_W_bits_27 (by decide) ?_
    refine vx_isub IG dc_W_bits_28 ?_
    refine vx_topi (y := nI (nd 4294967296 X - 1)) (by obtain ⟨b, hb⟩ : ∃ b, nd 4294967296 X = b + 1 := ⟨nd 4294967296 X - 1, by omega⟩; rw [hb]; exact nI_pred b) ?_
    refine wr_ald IG HR hp ht (nd 4294967296 X - 1) rfl (by omega) dc_W_bits_29 ?_
    refine vx_topl (y := lN (dg 4294967296 X (nd 4294967296 X - 1))) (hvx.2.2 _ (by omega)) ?_
    refine vx_callS (As := [.long (lN (dg 4294967296 X (nd 4294967296 X - 1)))]) (st := [.int (nI (32 * nd 4294967296 X + 32))]) IG lw_good (cJL_nlz _ (dg_lt bB1 _ _)) wC_JL_numberOfLeadingZeros wL_W_50 wT_JL_numberOfLeadingZeros wX_JL 1 (by decide +kernel) rfl ⟨Nat.le_of_ble_eq_true rfl, Nat.le_of_ble_eq_true rfl⟩ ⟨(by decide), (by decide)⟩ rfl (Nat.le_of_ble_eq_true rfl) dc_W_bits_30 (fun v h k_ n_ hq => ?_)
    obtain ⟨rfl, rfl, rfl, rfl⟩ := hq
    show vx_V _ _ _ _ _ _ _ _ _ 33 [(0, .ref p)] [.int (nI (64 - bl (dg 4294967296 X (nd 4294967296 X - 1)))), .int (nI (32 * nd 4294967296 X + 32))]
    refine vx_isub IG dc_W_bits_33 ?_
    refine vx_topi (y := nI (bl X)) (by rw [pk_sub (by omega)]; congr 1; have h9 : bl X + 32 = 32 * nd 4294967296 X + bl (dg 4294967296 X (nd 4294967296 X - 1)) := htop; omega) ?_
    refine vx_ret (some (.int (nI (bl X)))) RG (vx_endi (by first | rfl | decide) dc_W_bits_34) rfl ?_
    exact ⟨rfl, rfl, rfl, rfl⟩
end
