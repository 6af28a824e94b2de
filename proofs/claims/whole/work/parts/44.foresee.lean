/-! Euclid: foresee -/
theorem lead_lt (N : Nat) : N / 2 ^ (bl N - 62) < 4611686018427387904 := by
  rw [Nat.div_lt_iff_lt_mul (Nat.pow_pos (by decide))]
  refine Nat.lt_of_lt_of_le (lt_bl N) ?_
  rw [show (4611686018427387904 : Nat) = 2 ^ 62 from rfl, ← Nat.pow_add]
  exact Nat.pow_le_pow_right (by decide) (by omega)
theorem lZ_ne0 {a : Int} (h1 : 0 < a) (h2 : a < 9223372036854775808) : ¬ lZ a = 0 := fun q => by
  have := (lZ_eq (a := a) (b := 0) (by omega) h2 (by omega) (by omega)).mp q
  omega
section
variable {l : Launch} {D : va_G} {tys : List (ClassId × FieldType)} {cJ : ClassId} {L : List Nat} {r : vx_h} {h : vx_h} {eu ex ef ey eg es ed : Nat} {V : Nat → Nat} {C S : Nat} {bw_ : Int32} {xx xy yx yy : Int}
set_option maxRecDepth 100000 in
set_option maxHeartbeats 8000000 in
/-- foresee() -/
theorem cE_foresee (HP : pool cJ L (vx_up r eu (eOb ex ef ey eg es ed bw_ xx xy yx yy)) V h C S) (hex : ex ∈ L) (hey : ey ∈ L) (ht : tys[0]? = some (cJ, .long)) (hle : V ey ≤ V ex) (hsz : bl (V ex) < 900000) : vx_M l D vcl tys my_E_foresee lw_gd (rm_ 3 0 0 69) [.ref eu] h (fun v h' k n => k = 0 ∧ n = 0 ∧ ∃ (i : Nat) (a b c d : Int) (X Y : Nat), Eu (V ex) (V ey) i a b c d X Y ∧ a.natAbs ≤ 1073741823 ∧ b.natAbs ≤ 1073741823 ∧ c.natAbs ≤ 1073741823 ∧ d.natAbs ≤ 1073741823 ∧ v = some (.int (if i = 0 then 0 else 1)) ∧ pool cJ L (vx_up r eu (eOb ex ef ey eg es ed bw_ a b c d)) V h' C S) := by
  have HP0 := HP
  obtain ⟨ar, cp, cn, fn, HR, hV, hC, hS⟩ := HP
  refine vx_M.ofV (cc := bc_E_foresee) (maxL := 11) (ret := some .boolean) (own := rE) false rfl (by decide +kernel) wC_E_foresee (fun q => by cases q) (Nat.le_of_ble_eq_true rfl) (fun A H0 G IG RG => ?_)
  show vx_V _ _ _ _ _ _ _ _ _ 0 [(0, .ref eu)] []
  refine vx_iconst (v := 0) IG dc_E_foresee_0 (by decide) ?_
  refine vx_aload_n IG dc_E_foresee_1 rfl 0 rfl ?_
  refine vx_get IG (rw_r HR vx_up_s) rfl 0 (by decide) inE wF_E_12 rfl rfl dc_E_foresee_2 ?_
  refine vx_callV (As := []) (st := [.int 0]) IG lw_good (cW_bits HP0 hex ht) (rw_obj HR hex) rfl wC_W_bits wL_E_88 wI_W_bits wS_W_bits wX_W 0 (by decide +kernel) rfl ⟨Nat.le_of_ble_eq_true rfl, Nat.le_of_ble_eq_true rfl⟩ ⟨(by dsimp only [rm_]; omega), (by dsimp only [rm_]; omega)⟩ rfl (Nat.le_of_ble_eq_true rfl) dc_E_foresee_5 (fun v h k1 n1 hq => ?_)
  obtain ⟨rfl, rfl, rfl, rfl⟩ := hq
  show vx_V _ _ _ _ _ _ _ _ _ 8 [(0, .ref eu)] [.int (nI (bl (V ex))), .int 0]
  refine vx_bipush (v := 62) IG dc_E_foresee_8 (by decide) ?_
  refine vx_isub IG dc_E_foresee_10 ?_
  refine vx_callS (As := [.int 0, .int (nI (bl (V ex)) - 62)]) (st := []) IG lw_good (cJM_max _ _ _) wC_JM_max_II wL_E_92 wT_JM_max_II wX_JM 2 (by decide +kernel) rfl ⟨Nat.le_of_ble_eq_true rfl, Nat.le_of_ble_eq_true rfl⟩ ⟨(by dsimp only [rm_]; omega), (by dsimp only [rm_]; omega)⟩ rfl (Nat.le_of_ble_eq_true rfl) dc_E_foresee_11 (fun v h k2 n2 hq => ?_)
  obtain ⟨rfl, rfl, rfl, rfl⟩ := hq
  show vx_V _ _ _ _ _ _ _ _ _ 14 [(0, .ref eu)] [.int (if (0 : Int32) < nI (bl (V ex)) - 62 then nI (bl (V ex)) - 62 else 0)]
  refine vx_topi (y := nI (bl (V ex) - 62)) (nI_maxsub (b := 62) (by omega) (by decide)) ?_
  refine vx_istore_n (lv' := [(1, .int (nI (bl (V ex) - 62))), (0, .ref eu)]) IG dc_E_foresee_14 rfl (by decide) rfl ?_
  refine vx_aload_n IG dc_E_foresee_15 rfl 1 rfl ?_
  refine vx_get IG (rw_r HR vx_up_s) rfl 0 (by decide) inE wF_E_12 rfl rfl dc_E_foresee_16 ?_
  refine vx_iload_n IG dc_E_foresee_19 rfl 0 rfl ?_
  refine vx_callV (As := [.int (nI (bl (V ex) - 62))]) (st := []) IG lw_good (cW_bitsFrom HP0 hex ht (j := bl (V ex) - 62) (by omega)) (rw_obj HR hex) rfl wC_W_bitsFrom wL_E_98 wI_W_bitsFrom wS_W_bitsFrom wX_W 1 (by decide +kernel) rfl ⟨Nat.le_of_ble_eq_true rfl, Nat.le_of_ble_eq_true rfl⟩ ⟨(by dsimp only [rm_]; omega), (by dsimp only [rm_]; omega)⟩ rfl (Nat.le_of_ble_eq_true rfl) dc_E_foresee_20 (fun v h k3 n3 hq => ?_)
  obtain ⟨rfl, rfl, rfl, rfl⟩ := hq
  have l0 := lead_lt (V ex)
  generalize elow : bl (V ex) - 62 = low at *
  have l1 : V ey / 2 ^ low ≤ V ex / 2 ^ low := Nat.div_le_div_right hle
  show vx_V _ _ _ _ _ _ _ _ _ 23 [(1, .int (nI low)), (0, .ref eu)] [.long (lN (V ex / 2 ^ low % 18446744073709551616))]
  refine vx_topl (y := lZ ((V ex / 2 ^ low : Nat) : Int)) (by rw [Nat.mod_eq_of_lt (by omega), lZ_nat]) ?_
  refine vx_lstore_n (lv' := [(2, .long (lZ ((V ex / 2 ^ low : Nat) : Int))), (1, .int (nI low)), (0, .ref eu)]) IG dc_E_foresee_23 rfl (by decide) rfl ?_
  refine vx_aload_n IG dc_E_foresee_24 rfl 2 rfl ?_
  refine vx_get IG (rw_r HR vx_up_s) rfl 3 (by decide) inE wF_E_25 rfl rfl dc_E_foresee_25 ?_
  refine vx_iload_n IG dc_E_foresee_28 rfl 1 rfl ?_
  refine vx_callV (As := [.int (nI low)]) (st := []) IG lw_good (cW_bitsFrom HP0 hey ht (j := low) (by omega)) (rw_obj HR hey) rfl wC_W_bitsFrom wL_E_98 wI_W_bitsFrom wS_W_bitsFrom wX_W 1 (by decide +kernel) rfl ⟨Nat.le_of_ble_eq_true rfl, Nat.le_of_ble_eq_true rfl⟩ ⟨(by dsimp only [rm_]; omega), (by dsimp only [rm_]; omega)⟩ rfl (Nat.le_of_ble_eq_true rfl) dc_E_foresee_29 (fun v h k4 n4 hq => ?_)
  obtain ⟨rfl, rfl, rfl, rfl⟩ := hq
  show vx_V _ _ _ _ _ _ _ _ _ 32 [(2, .long (lZ ((V ex / 2 ^ low : Nat) : Int))), (1, .int (nI low)), (0, .ref eu)] [.long (lN (V ey / 2 ^ low % 18446744073709551616))]
  refine vx_topl (y := lZ ((V ey / 2 ^ low : Nat) : Int)) (by rw [Nat.mod_eq_of_lt (by omega), lZ_nat]) ?_
  refine vx_lstore (lv' := [(4, .long (lZ ((V ey / 2 ^ low : Nat) : Int))), (2, .long (lZ ((V ex / 2 ^ low : Nat) : Int))), (1, .int (nI low)), (0, .ref eu)]) IG dc_E_foresee_32 (by decide) rfl ?_
  refine vx_aload_n IG dc_E_foresee_34 rfl 3 rfl ?_
  refine vx_lconst (v := 1) IG dc_E_foresee_35 (by decide) ?_
  have hx0 := (Nat.div_add_mod (V ex) (2 ^ low)).symm
  have hy0 := (Nat.div_add_mod (V ey) (2 ^ low)).symm
  have hm1 := Nat.mod_lt (V ex) (show 0 < 2 ^ low from Nat.pow_pos (by decide))
  have hm2 := Nat.mod_lt (V ey) (show 0 < 2 ^ low from Nat.pow_pos (by decide))
  generalize V ex / 2 ^ low = u0 at *
  generalize V ey / 2 ^ low = v0 at *
  generalize V ex % 2 ^ low = t1 at *
  generalize V ey % 2 ^ low = t2 at *
  refine er_put IG HR 7 (by decide) wF_E_41 rfl rfl (ty := .long) (by decide +kernel) rfl rfl (Nat.le_of_ble_eq_true rfl) dc_E_foresee_36 (fun h HR => ?_)
  replace HR : rw_at 2 cJ L (vx_up r eu (eOb ex ef ey eg es ed bw_ 1 xy yx yy)) ar cp cn fn h := HR
  refine vx_aload_n IG dc_E_foresee_39 rfl 3 rfl ?_
  refine vx_lconst (v := 0) IG dc_E_foresee_40 (by decide) ?_
  refine er_put IG HR 8 (by decide) wF_E_45 rfl rfl (ty := .long) (by decide +kernel) rfl rfl (Nat.le_of_ble_eq_true rfl) dc_E_foresee_41 (fun h HR => ?_)
  replace HR : rw_at 2 cJ L (vx_up r eu (eOb ex ef ey eg es ed bw_ 1 0 yx yy)) ar cp cn fn h := HR
  refine vx_aload_n IG dc_E_foresee_44 rfl 3 rfl ?_
  refine vx_lconst (v := 0) IG dc_E_foresee_45 (by decide) ?_
  refine er_put IG HR 9 (by decide) wF_E_48 rfl rfl (ty := .long) (by decide +kernel) rfl rfl (Nat.le_of_ble_eq_true rfl) dc_E_foresee_46 (fun h HR => ?_)
  replace HR : rw_at 2 cJ L (vx_up r eu (eOb ex ef ey eg es ed bw_ 1 0 0 yy)) ar cp cn fn h := HR
  refine vx_aload_n IG dc_E_foresee_49 rfl 3 rfl ?_
  refine vx_lconst (v := 1) IG dc_E_foresee_50 (by decide) ?_
  refine er_put IG HR 10 (by decide) wF_E_51 rfl rfl (ty := .long) (by decide +kernel) rfl rfl (Nat.le_of_ble_eq_true rfl) dc_E_foresee_51 (fun h HR => ?_)
  replace HR : rw_at 2 cJ L (vx_up r eu (eOb ex ef ey eg es ed bw_ 1 0 0 1)) ar cp cn fn h := HR
  refine vx_iconst (v := 0) IG dc_E_foresee_54 (by decide) ?_
  refine vx_istore (lv' := [(6, .int 0), (4, .long (lZ (v0 : Int))), (2, .long (lZ (u0 : Int))), (1, .int (nI low)), (0, .ref eu)]) IG dc_E_foresee_55 (by decide) rfl ?_
  have fin : ∀ (h : vx_h) (i : Nat) (a b c d : Int) (X Y : Nat), rw_at 2 cJ L (vx_up r eu (eOb ex ef ey eg es ed bw_ a b c d)) ar cp cn fn h → Eu (V ex) (V ey) i a b c d X Y → a.natAbs ≤ 1073741823 → b.natAbs ≤ 1073741823 → c.natAbs ≤ 1073741823 → d.natAbs ≤ 1073741823 → vx_V D vcl A H0 11 G h (0 + 0 + 0 + 0 + 0) (0 + 0 + 0 + 0 + 0) 161 [(0, .ref eu)] [] := by
    intro h i a b c d X Y HR hE g1 g2 g3 g4
    have hb := Eu_b hle hE
    refine vx_aload_n IG dc_E_foresee_161 rfl 0 rfl ?_
    refine vx_get IG (rw_r HR vx_up_s) rfl 8 (by decide) inE wF_E_45 rfl rfl dc_E_foresee_162 ?_
    refine vx_lconst (v := 0) IG dc_E_foresee_165 (by decide) ?_
    refine vx_lcmp IG dc_E_foresee_166 ?_
    have hc := lZ_eq (a := b) (b := 0) (by omega) (by omega) (by omega) (by omega)
    by_cases z : i = 0
    · refine vx_if_eq (tgt := 174) IG dc_E_foresee_167 (by decide) (fun _ => ?_) (fun c_ => absurd ((lg_cmp_eq _ _).mpr (hc.mpr (hb.mpr z))) c_)
      refine vx_iconst (v := 0) IG dc_E_foresee_174 (by decide) ?_
      refine vx_ret (some (.int 0)) RG (vx_endi (by first | rfl | decide) dc_E_foresee_175) rfl ?_
      exact ⟨rfl, rfl, i, a, b, c, d, X, Y, hE, g1, g2, g3, g4, by rw [if_pos z], ar, cp, cn, fn, HR, hV, hC, hS⟩
    · refine vx_if_eq (tgt := 174) IG dc_E_foresee_167 (by decide) (fun c_ => absurd c_ (fun q => z (hb.mp (hc.mp ((lg_cmp_eq _ _).mp q))))) (fun _ => ?_)
      refine vx_iconst (v := 1) IG dc_E_foresee_170 (by decide) ?_
      refine vx_goto (tgt := 175) IG dc_E_foresee_171 (by decide) ?_
      refine vx_ret (some (.int 1)) RG (vx_endi (by first | rfl | decide) dc_E_foresee_175) rfl ?_
      exact ⟨rfl, rfl, i, a, b, c, d, X, Y, hE, g1, g2, g3, g4, by rw [if_neg z], ar, cp, cn, fn, HR, hV, hC, hS⟩
  have loop : ∀ (m i : Nat), i + m = 64 → ∀ (h : vx_h) (a b c d u v : Int) (X Y : Nat), rw_at 2 cJ L (vx_up r eu (eOb ex ef ey eg es ed bw_ a b c d)) ar cp cn fn h → Eu (V ex) (V ey) i a b c d X Y → a.natAbs ≤ 1073741823 → b.natAbs ≤ 1073741823 → c.natAbs ≤ 1073741823 → d.natAbs ≤ 1073741823 → u = a * u0 + b * v0 → v = c * u0 + d * v0 → 0 ≤ u + a → 0 ≤ u + b → 0 ≤ v → v ≤ u → u < 4611686018427387904 → vx_V D vcl A H0 11 G h (0 + 0 + 0 + 0 + 0) (0 + 0 + 0 + 0 + 0) 57 [(6, .int (nI i)), (4, .long (lZ v)), (2, .long (lZ u)), (1, .int (nI low)), (0, .ref eu)] [] := by
    intro m
    induction m with
    | zero =>
      intro i him h a b c d u v X Y HR hE g1 g2 g3 g4 eu_ ev_ i1 i2 i3 i4 i5
      refine vx_iload IG dc_E_foresee_57 0 rfl ?_
      refine vx_bipush (v := 64) IG dc_E_foresee_59 (by decide) ?_
      refine vx_icmp_ge (tgt := 161) IG dc_E_foresee_61 (by decide) (fun _ => ?_) (fun c_ => absurd (nI_le (a := 64) (by omega) (by omega)) c_)
      refine vx_same (lv' := [(0, .ref eu)]) IG [4] rfl ?_
      exact fin h i a b c d X Y HR hE g1 g2 g3 g4
    | succ m ih =>
      intro i him h a b c d u v X Y HR hE g1 g2 g3 g4 eu_ ev_ i1 i2 i3 i4 i5
      refine vx_iload IG dc_E_foresee_57 0 rfl ?_
      refine vx_bipush (v := 64) IG dc_E_foresee_59 (by decide) ?_
      refine vx_icmp_ge (tgt := 161) IG dc_E_foresee_61 (by decide) (fun c_ => absurd c_ (nI_ge (b := 64) (by omega) (by omega))) (fun _ => ?_)
      refine vx_lload IG dc_E_foresee_64 1 rfl ?_
      refine vx_aload_n IG dc_E_foresee_66 rfl 4 rfl ?_
      refine vx_get IG (rw_r HR vx_up_s) rfl 9 (by decide) inE wF_E_48 rfl rfl dc_E_foresee_67 ?_
      refine vx_ladd IG dc_E_foresee_70 ?_
      refine vx_topl (y := lZ (v + c)) (lZ_add _ _) ?_
      refine vx_lconst (v := 0) IG dc_E_foresee_71 (by decide) ?_
      refine vx_lcmp IG dc_E_foresee_72 ?_
      have c1 := lZ_le (a := v + c) (b := 0) (by omega) (by omega) (by omega) (by omega)
      by_cases z1 : v + c ≤ 0
      · refine vx_if_le (tgt := 161) IG dc_E_foresee_73 (by decide) (fun _ => ?_) (fun c_ => absurd ((lg_cmp_le _ _).mpr (c1.mpr z1)) c_)
        refine vx_same (lv' := [(0, .ref eu)]) IG [4] rfl ?_
        exact fin h i a b c d X Y HR hE g1 g2 g3 g4
      · refine vx_if_le (tgt := 161) IG dc_E_foresee_73 (by decide) (fun c_ => absurd c_ (fun q => z1 (c1.mp ((lg_cmp_le _ _).mp q)))) (fun _ => ?_)
        refine vx_lload IG dc_E_foresee_76 1 rfl ?_
        refine vx_aload_n IG dc_E_foresee_78 rfl 4 rfl ?_
        refine vx_get IG (rw_r HR vx_up_s) rfl 10 (by decide) inE wF_E_51 rfl rfl dc_E_foresee_79 ?_
        refine vx_ladd IG dc_E_foresee_82 ?_
        refine vx_topl (y := lZ (v + d)) (lZ_add _ _) ?_
        refine vx_lconst (v := 0) IG dc_E_foresee_83 (by decide) ?_
        refine vx_lcmp IG dc_E_foresee_84 ?_
        have c2 := lZ_lt (a := 0) (b := v + d) (by omega) (by omega) (by omega) (by omega)
        by_cases z2 : 0 < v + d
        · refine vx_if_gt (tgt := 91) IG dc_E_foresee_85 (by decide) (fun _ => ?_) (fun c_ => absurd ((lg_cmp_gt _ _).mpr (c2.mpr z2)) c_)
          refine vx_lload_n IG dc_E_foresee_91 rfl 2 rfl ?_
          refine vx_aload_n IG dc_E_foresee_92 rfl 4 rfl ?_
          refine vx_get IG (rw_r HR vx_up_s) rfl 7 (by decide) inE wF_E_41 rfl rfl dc_E_foresee_93 ?_
          refine vx_ladd IG dc_E_foresee_96 ?_
          refine vx_topl (y := lZ (u + a)) (lZ_add _ _) ?_
          refine vx_lload IG dc_E_foresee_97 1 rfl ?_
          refine vx_aload_n IG dc_E_foresee_99 rfl 4 rfl ?_
          refine vx_get IG (rw_r HR vx_up_s) rfl 9 (by decide) inE wF_E_48 rfl rfl dc_E_foresee_100 ?_
          refine vx_ladd IG dc_E_foresee_103 ?_
          refine vx_topl (y := lZ (v + c)) (lZ_add _ _) ?_
          refine vx_ldiv IG dc_E_foresee_104 (lZ_ne0 (by omega) (by omega)) ?_
          refine vx_topl (y := lZ ((u + a) / (v + c))) (lZ_div i1 (by omega) (by omega) (by omega)) ?_
          refine vx_lstore (lv' := [(7, .long (lZ ((u + a) / (v + c)))), (6, .int (nI i)), (4, .long (lZ v)), (2, .long (lZ u)), (1, .int (nI low)), (0, .ref eu)]) IG dc_E_foresee_105 (by decide) rfl ?_
          refine vx_lload IG dc_E_foresee_107 0 rfl ?_
          refine vx_lload_n IG dc_E_foresee_109 rfl 3 rfl ?_
          refine vx_aload_n IG dc_E_foresee_110 rfl 5 rfl ?_
          refine vx_get IG (rw_r HR vx_up_s) rfl 8 (by decide) inE wF_E_45 rfl rfl dc_E_foresee_111 ?_
          refine vx_ladd IG dc_E_foresee_114 ?_
          refine vx_topl (y := lZ (u + b)) (lZ_add _ _) ?_
          refine vx_lload IG dc_E_foresee_115 2 rfl ?_
          refine vx_aload_n IG dc_E_foresee_117 rfl 5 rfl ?_
          refine vx_get IG (rw_r HR vx_up_s) rfl 10 (by decide) inE wF_E_51 rfl rfl dc_E_foresee_118 ?_
          refine vx_ladd IG dc_E_foresee_121 ?_
          refine vx_topl (y := lZ (v + d)) (lZ_add _ _) ?_
          refine vx_ldiv IG dc_E_foresee_122 (lZ_ne0 (by omega) (by omega)) ?_
          refine vx_topl (y := lZ ((u + b) / (v + d))) (lZ_div i2 (by omega) (by omega) (by omega)) ?_
          refine vx_lcmp IG dc_E_foresee_123 ?_
          have k1 : 0 ≤ (u + a) / (v + c) := Int.ediv_nonneg i1 (by omega)
          have k2 : (u + a) / (v + c) ≤ u + a := Int.ediv_le_self _ i1
          have k3 : 0 ≤ (u + b) / (v + d) := Int.ediv_nonneg i2 (by omega)
          have k4 : (u + b) / (v + d) ≤ u + b := Int.ediv_le_self _ i2
          have c3 := lZ_eq (a := (u + a) / (v + c)) (b := (u + b) / (v + d)) (by omega) (by omega) (by omega) (by omega)
          by_cases z3 : (u + a) / (v + c) = (u + b) / (v + d)
          · refine vx_if_ne (tgt := 161) IG dc_E_foresee_124 (by decide) (fun c_ => absurd ((lg_cmp_eq _ _).mpr (c3.mpr z3)) c_) (fun _ => ?_)
            have l1 := Int.ediv_mul_le (u + a) (b := v + c) (by omega)
            have r1 := Int.lt_ediv_add_one_mul_self (u + a) (b := v + c) (by omega)
            have l2 := Int.ediv_mul_le (u + b) (b := v + d) (by omega)
            have r2 := Int.lt_ediv_add_one_mul_self (u + b) (b := v + d) (by omega)
            rw [← z3] at l2 r2
            generalize (u + a) / (v + c) = q at *
            have hst := fs_step hle hE hx0 hy0 hm1 hm2 eu_ ev_ (by omega) z2 k1 l1 r1 l2 r2
            obtain ⟨w1, w2, w3, w4, w5, w6⟩ := hst
            refine vx_aload_n IG dc_E_foresee_127 rfl 5 rfl ?_
            refine vx_lload IG dc_E_foresee_128 0 rfl ?_
            refine vx_callV (As := [.long (lZ q)]) (st := []) IG lw_good (cE_turn HR k1 (by omega) g1 g2 g3 g4) (rw_r HR vx_up_s) rfl wC_E_turn wL_E_102 wI_E_turn wS_E_turn wX_E 1 (by decide +kernel) rfl ⟨Nat.le_of_ble_eq_true rfl, Nat.le_of_ble_eq_true rfl⟩ ⟨(by dsimp only [rm_]; omega), (by dsimp only [rm_]; omega)⟩ rfl (Nat.le_of_ble_eq_true rfl) dc_E_foresee_130 (fun v h k5 n5 hq => ?_)
            obtain ⟨rfl, rfl, hq⟩ := hq
            rcases hq with ⟨rfl, rfl⟩ | ⟨rfl, n1, n2, HR⟩
            · show vx_V _ _ _ _ _ _ _ _ _ 133 [(7, .long (lZ q)), (6, .int (nI i)), (4, .long (lZ v)), (2, .long (lZ u)), (1, .int (nI low)), (0, .ref eu)] [.int 0]
              refine vx_if_ne (tgt := 139) IG dc_E_foresee_133 (by decide) (fun c_ => absurd (by decide) c_) (fun _ => ?_)
              refine vx_goto (tgt := 161) IG dc_E_foresee_136 (by decide) ?_
              refine vx_same (lv' := [(0, .ref eu)]) IG [5] rfl ?_
              exact fin h i a b c d X Y HR hE g1 g2 g3 g4
            · show vx_V _ _ _ _ _ _ _ _ _ 133 [(7, .long (lZ q)), (6, .int (nI i)), (4, .long (lZ v)), (2, .long (lZ u)), (1, .int (nI low)), (0, .ref eu)] [.int 1]
              refine vx_if_ne (tgt := 139) IG dc_E_foresee_133 (by decide) (fun _ => ?_) (fun c_ => absurd c_ (by decide))
              refine vx_lload_n IG dc_E_foresee_139 rfl 3 rfl ?_
              refine vx_lload IG dc_E_foresee_140 0 rfl ?_
              refine vx_lload IG dc_E_foresee_142 2 rfl ?_
              refine vx_lmul IG dc_E_foresee_144 ?_
              refine vx_topl (y := lZ (q * v)) (lZ_mul _ _) ?_
              refine vx_lsub IG dc_E_foresee_145 ?_
              refine vx_topl (y := lZ (u - q * v)) (lZ_sub _ _) ?_
              refine vx_lstore (lv' := [(9, .long (lZ (u - q * v))), (7, .long (lZ q)), (6, .int (nI i)), (4, .long (lZ v)), (2, .long (lZ u)), (1, .int (nI low)), (0, .ref eu)]) IG dc_E_foresee_146 (by decide) rfl ?_
              refine vx_lload IG dc_E_foresee_148 3 rfl ?_
              refine vx_lstore_n (lv' := [(2, .long (lZ v)), (9, .long (lZ (u - q * v))), (7, .long (lZ q)), (6, .int (nI i)), (4, .long (lZ v)), (1, .int (nI low)), (0, .ref eu)]) IG dc_E_foresee_150 rfl (by decide) rfl ?_
              refine vx_lload IG dc_E_foresee_151 1 rfl ?_
              refine vx_lstore (lv' := [(4, .long (lZ (u - q * v))), (2, .long (lZ v)), (9, .long (lZ (u - q * v))), (7, .long (lZ q)), (6, .int (nI i)), (1, .int (nI low)), (0, .ref eu)]) IG dc_E_foresee_153 (by decide) rfl ?_
              refine vx_iinc (q := 4) (v := nI (i + 1)) (lv' := [(6, .int (nI (i + 1))), (4, .long (lZ (u - q * v))), (2, .long (lZ v)), (9, .long (lZ (u - q * v))), (7, .long (lZ q)), (1, .int (nI low)), (0, .ref eu)]) IG dc_E_foresee_155 rfl (nI_1 i) (by decide) rfl ?_
              refine vx_goto (tgt := 57) IG dc_E_foresee_158 (by decide) ?_
              refine vx_same (lv' := [(6, .int (nI (i + 1))), (4, .long (lZ (u - q * v))), (2, .long (lZ v)), (1, .int (nI low)), (0, .ref eu)]) IG [0, 1, 2, 5, 6] rfl ?_
              have hE2 : Eu (V ex) (V ey) (i + 1) c d (a - q * c) (b - q * d) Y (X % Y) := ⟨a, b, c, d, X, Y, hE, w1, rfl, rfl, by rw [w2], by rw [w2], rfl, rfl⟩
              exact ih (i + 1) (by omega) h c d (a - q * c) (b - q * d) v (u - q * v) Y (X % Y) HR hE2 g3 g4 n1 n2 ev_ (by rw [eu_, ev_]; grind) (by omega) (by omega) w3 (by omega) (by omega)
          · refine vx_if_ne (tgt := 161) IG dc_E_foresee_124 (by decide) (fun _ => ?_) (fun c_ => absurd c_ (fun q => z3 (c3.mp ((lg_cmp_eq _ _).mp q))))
            refine vx_same (lv' := [(0, .ref eu)]) IG [5] rfl ?_
            exact fin h i a b c d X Y HR hE g1 g2 g3 g4
        · refine vx_if_gt (tgt := 91) IG dc_E_foresee_85 (by decide) (fun c_ => absurd c_ (fun q => z2 (c2.mp ((lg_cmp_gt _ _).mp q)))) (fun _ => ?_)
          refine vx_goto (tgt := 161) IG dc_E_foresee_88 (by decide) ?_
          refine vx_same (lv' := [(0, .ref eu)]) IG [4] rfl ?_
          exact fin h i a b c d X Y HR hE g1 g2 g3 g4
  refine loop 64 0 (by decide) h 1 0 0 1 u0 v0 _ _ HR ⟨rfl, rfl, rfl, rfl, rfl, rfl⟩ (by decide) (by decide) (by decide) (by decide) (by omega) (by omega) (by omega) (by omega) (by omega) (by omega) (by omega)
end
