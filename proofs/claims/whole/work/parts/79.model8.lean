/-! the reference: shift, spread, push -/
theorem sd_lost {N m k : Nat} (hN : N < 2 ^ k) (hkm : k ≤ m) : N % 2 ^ m = N % 2 ^ k := by
  rw [Nat.mod_eq_of_lt hN, Nat.mod_eq_of_lt (Nat.lt_of_lt_of_le hN (Nat.pow_le_pow_right (by decide) hkm))]
theorem neg_l {x : Int32} (h : x.toInt < 0) : -x.toInt64 = lN (-x.toInt).toNat := by
  have h1 := Int32.le_toInt x
  rw [← Int64.toInt_inj, pk_lT (by omega)]
  rw [Int64.toInt_neg, Int32.toInt_toInt64]
  have := Int.bmod_eq_of_le (n := -x.toInt) (m := 2 ^ 64) (by omega) (by omega)
  rw [this]
  omega
section
variable {l : Launch} {D : va_G} {tys : List (ClassId × FieldType)} {cI cZ : ClassId} {q : Nat → Nat} {h0 : vx_h} {f g s f' g' : Nat → Int32} {V : Nat → Nat} {X : Nat → Int} {a b d r u N M sz U W : Nat} {w w2 : Int32} {z : Int}
set_option maxRecDepth 100000 in
set_option maxHeartbeats 8000000 in
theorem cR_shift (LR : rlay q h0) (ht2 : tys[2]? = some (cZ, .boolean)) (ht3 : tys[3]? = some (cI, .int)) (HP : rpic f g V) (HX : mreg X V s) (r1 r2 p : Int32) : vx_M l D vcl tys my_R_shift lw_gd (rm_ 3 0 0 72) [.ref (q 0), .int r1, .int r2, .int p] (rH cI cZ q h0 f g s) (rpub cI cZ q h0 (sp2 0 X (fun d a => kp X d (shZ (X a) p)) r1 r2).2 (sp2 0 X (fun d a => kp X d (shZ (X a) p)) r1 r2).1) := by
  refine vx_M.ofV (cc := bc_R_shift) (maxL := 9) (ret := (some .boolean)) (own := rR) false rfl (by decide +kernel) wC_R_shift (fun q => by cases q) (Nat.le_of_ble_eq_true rfl) (fun A H0 G IG RG => ?_)
  show vx_V _ _ _ _ _ _ _ _ _ 0 [(0, .ref (q 0)), (1, .int r1), (2, .int r2), (3, .int p)] []
  refine vx_iload_n IG dc_R_shift_0 rfl 1 rfl ?_
  refine vx_callS (As := [.int r1]) (st := []) IG lw_good (cR_is _ r1) wC_R_is wL_R_67 wT_R_is wX_R 1 (by decide +kernel) rfl ⟨Nat.le_of_ble_eq_true rfl, Nat.le_of_ble_eq_true rfl⟩ ⟨(by dsimp only [rm_]; omega), (by dsimp only [rm_]; omega)⟩ rfl (Nat.le_of_ble_eq_true rfl) dc_R_shift_1 (fun v h k_ n_ hq => ?_)
  obtain ⟨rfl, rfl, rfl, rfl⟩ := hq
  show vx_V _ _ _ _ _ _ _ _ _ 4 [(0, .ref (q 0)), (1, .int r1), (2, .int r2), (3, .int p)] [.int (if isR r1 then 1 else 0)]
  by_cases z0 : ¬ isR r1
  · refine vx_topi (y := 0) (if_neg z0) ?_
    refine vx_if_eq (tgt := 14) IG dc_R_shift_4 (by decide) (fun _ => ?_) (fun c_ => absurd rfl c_)
    refine vx_iconst (v := 0) IG dc_R_shift_14 (by decide) ?_
    refine vx_ret (some (.int 0)) RG (vx_endi (by first | rfl | decide) dc_R_shift_15) rfl ?_
    rw [sp2_no (fun e => z0 e.1)]
    exact ⟨rfl, rfl, rfl, f, g, s, V, rfl, HP, HX⟩
  replace z0 := Decidable.not_not.mp z0
  refine vx_topi (y := 1) (if_pos z0) ?_
  refine vx_if_eq (tgt := 14) IG dc_R_shift_4 (by decide) (fun c_ => absurd c_ (by decide)) (fun _ => ?_)
  refine vx_iload_n IG dc_R_shift_7 rfl 2 rfl ?_
  refine vx_callS (As := [.int r2]) (st := []) IG lw_good (cR_is _ r2) wC_R_is wL_R_67 wT_R_is wX_R 1 (by decide +kernel) rfl ⟨Nat.le_of_ble_eq_true rfl, Nat.le_of_ble_eq_true rfl⟩ ⟨(by dsimp only [rm_]; omega), (by dsimp only [rm_]; omega)⟩ rfl (Nat.le_of_ble_eq_true rfl) dc_R_shift_8 (fun v h k_ n_ hq => ?_)
  obtain ⟨rfl, rfl, rfl, rfl⟩ := hq
  show vx_V _ _ _ _ _ _ _ _ _ 11 [(0, .ref (q 0)), (1, .int r1), (2, .int r2), (3, .int p)] [.int (if isR r2 then 1 else 0)]
  by_cases z1 : ¬ isR r2
  · refine vx_topi (y := 0) (if_neg z1) ?_
    refine vx_if_ne (tgt := 16) IG dc_R_shift_11 (by decide) (fun c_ => absurd rfl c_) (fun _ => ?_)
    refine vx_iconst (v := 0) IG dc_R_shift_14 (by decide) ?_
    refine vx_ret (some (.int 0)) RG (vx_endi (by first | rfl | decide) dc_R_shift_15) rfl ?_
    rw [sp2_no (fun e => z1 e.2)]
    exact ⟨rfl, rfl, rfl, f, g, s, V, rfl, HP, HX⟩
  replace z1 := Decidable.not_not.mp z1
  refine vx_topi (y := 1) (if_pos z1) ?_
  refine vx_if_ne (tgt := 16) IG dc_R_shift_11 (by decide) (fun _ => ?_) (fun c_ => absurd c_ (by decide))
  obtain ⟨d, hd, rfl⟩ := isR_of z0
  obtain ⟨a, ha, rfl⟩ := isR_of z1
  have Rd := reg_rv HP HX hd
  have Bd := (HX d hd).2
  have Ld := reg_cap HP HX hd
  have Ra := reg_rv HP HX ha
  have Ba := (HX a ha).2
  have La := reg_cap HP HX ha
  rw [sp2_ok hd ha] at RG
  unfold shZ at RG
  have i0 : (0 : Int32).toInt = 0 := rfl
  have c8 : ∀ r, 16 ≤ r → rcap r = 8200 := fun r hr => rcap_hi hr
  have hbl := lim16.mp La
  refine vx_iload_n IG dc_R_shift_16 rfl 3 rfl ?_
  by_cases y : p < 0
  · refine vx_if_lt (tgt := 82) IG dc_R_shift_17 (by decide) (fun _ => ?_) (fun c_ => absurd y c_)
    rw [Int32.lt_iff_toInt_lt, i0] at y
    rw [if_neg (by omega)] at RG
    obtain ⟨m, em⟩ : ∃ m, m = (-p.toInt).toNat := ⟨_, rfl⟩
    have hm32 : m < 2 ^ 32 := by have := Int32.le_toInt p; omega
    have hm0 : 0 < m := by omega
    rw [← em] at RG
    have kzs := kz_shr (X a) m
    refine vx_iload_n IG dc_R_shift_82 rfl 3 rfl ?_
    refine vx_i2l (v := p.toInt64) IG dc_R_shift_83 rfl ?_
    refine vx_lneg IG dc_R_shift_84 ?_
    refine vx_topl (y := lN m) (by rw [em]; exact neg_l y) ?_
    refine vx_lstore (lv' := [(4, .long (lN m)), (0, .ref (q 0)), (1, .int (nI d)), (2, .int (nI a)), (3, .int p)]) IG dc_R_shift_85 (by decide) rfl ?_
    refine vx_aload_n IG dc_R_shift_87 rfl 1 rfl ?_
    refine vx_bipush (v := 16) IG dc_R_shift_88 (by decide) ?_
    refine vx_iload_n IG dc_R_shift_90 rfl 3 rfl ?_
    refine vx_lload IG dc_R_shift_91 0 rfl ?_
    refine vx_callV (As := [.int 16, .int (nI a), .long (lN m)]) (st := []) IG lw_good (cR_lower LR ht2 ht3 Ra (d := 16) (by decide) (by omega) (by omega) (by rw [c8 _ (by decide)]; omega) (by omega) (n := m) hm32) (ro_M LR) rfl wC_R_lower wL_R_44 wI_R_lower wS_R_lower wX_R 3 (by decide +kernel) rfl ⟨Nat.le_of_ble_eq_true rfl, Nat.le_of_ble_eq_true rfl⟩ ⟨(by dsimp only [rm_]; omega), (by dsimp only [rm_]; omega)⟩ rfl (Nat.le_of_ble_eq_true rfl) dc_R_shift_93 (fun v h k_ n_ hq => ?_)
    obtain ⟨rfl, rfl, rfl, f1, g1, rfl, S1⟩ := hq
    obtain ⟨HP, HX⟩ := rp_up HP HX (show 16 ≤ 16 by decide) (show 16 < 24 by decide) S1
    show vx_V _ _ _ _ _ _ _ _ _ 96 [(4, .long (lN m)), (0, .ref (q 0)), (1, .int (nI d)), (2, .int (nI a)), (3, .int p)] []
    have Ra := reg_rv HP HX ha
    have hNlt : (X a).natAbs < 2 ^ (16 * nd 65536 (X a).natAbs) := bl_le.mp bl_nd
    have hquo : nd 65536 ((X a).natAbs / 2 ^ m) ≤ 4096 := Nat.le_trans (nd_mono b16 (Nat.div_le_self _ _)) La
    -- behind the loop
    have last : ∀ (x : Int32) (c k n : Nat), (x = if (X a).natAbs % 2 ^ m = 0 then 0 else 1) → k = 0 → n = 0 → vx_V D vcl A H0 9 G (rH cI cZ q h0 f1 g1 s) k n 160 [(7, .long (lN c)), (6, .int x), (4, .long (lN m)), (0, .ref (q 0)), (1, .int (nI d)), (2, .int (nI a)), (3, .int p)] [] := by
      intro x c k n ex hk hn
      subst hk hn
      refine vx_aload_n IG dc_R_shift_160 rfl 3 rfl ?_
      refine vx_get IG (ro_M LR) rfl 2 (by decide) inR wF_R_17 rfl rfl dc_R_shift_161 ?_
      refine vx_iload_n IG dc_R_shift_164 rfl 5 rfl ?_
      refine rr_zld IG LR ht2 ha (x := sgI (X a)) Ba dc_R_shift_165 ?_
      by_cases u : X a < 0
      · refine vx_if_eq (tgt := 191) IG dc_R_shift_166 (by decide) (fun c_ => absurd c_ (by rw [sgI_neg u]; decide)) (fun _ => ?_)
        refine vx_iload IG dc_R_shift_169 1 rfl ?_
        by_cases v : (X a).natAbs % 2 ^ m = 0
        · rw [if_pos v] at ex
          refine vx_if_eq (tgt := 191) IG dc_R_shift_171 (by decide) (fun _ => ?_) (fun c_ => absurd ex c_)
          refine vx_aload_n IG dc_R_shift_191 rfl 3 rfl ?_
          refine vx_iload_n IG dc_R_shift_192 rfl 4 rfl ?_
          refine vx_bipush (v := 16) IG dc_R_shift_193 (by decide) ?_
          refine vx_aload_n IG dc_R_shift_195 rfl 3 rfl ?_
          refine vx_get IG (ro_M LR) rfl 2 (by decide) inR wF_R_17 rfl rfl dc_R_shift_196 ?_
          refine vx_iload_n IG dc_R_shift_199 rfl 5 rfl ?_
          refine rr_zld IG LR ht2 ha (x := sgI (X a)) Ba dc_R_shift_200 ?_
          rw [if_neg (fun e => e.2 v), Nat.add_zero] at kzs
          refine vx_callV (As := [.int (nI d), .int 16, .int (sgI (X a))]) (st := []) IG lw_good (cR_st LR ht2 ht3 HP HX hd (a := 16) (z := X a / 2 ^ m) (by decide) (by decide) (sgI_01 (X a)) rfl kzs) (ro_M LR) rfl wC_R_store wL_R_75 wI_R_store wS_R_store wX_R 3 (by decide +kernel) rfl ⟨Nat.le_of_ble_eq_true rfl, Nat.le_of_ble_eq_true rfl⟩ ⟨(by dsimp only [rm_]; omega), (by dsimp only [rm_]; omega)⟩ rfl (Nat.le_of_ble_eq_true rfl) dc_R_shift_201 (fun v h k_ n_ hq => ?_)
          obtain ⟨rfl, rfl, rfl, f9, g9, s9, V9, rfl, P9, X9⟩ := hq
          show vx_V _ _ _ _ _ _ _ _ _ 204 [(7, .long (lN c)), (6, .int x), (4, .long (lN m)), (0, .ref (q 0)), (1, .int (nI d)), (2, .int (nI a)), (3, .int p)] [.int (kpV (X a / 2 ^ m))]
          refine vx_ret (some (.int (kpV (X a / 2 ^ m)))) RG (vx_endi (by unfold kpV; split <;> rfl) dc_R_shift_204) rfl ?_
          exact ⟨rfl, rfl, rfl, f9, g9, s9, V9, rfl, P9, X9⟩
        · rw [if_neg v] at ex
          refine vx_if_eq (tgt := 191) IG dc_R_shift_171 (by decide) (fun c_ => absurd c_ (by rw [ex]; decide)) (fun _ => ?_)
          refine vx_aload_n IG dc_R_shift_174 rfl 3 rfl ?_
          refine vx_bipush (v := 17) IG dc_R_shift_175 (by decide) ?_
          refine vx_lconst (v := 1) IG dc_R_shift_177 (by decide) ?_
          rw [if_pos ⟨u, v⟩] at kzs
          have R16 := S1.2.2
          refine vx_callV (As := [.int 17, .long 1]) (st := []) IG lw_good (cR_set LR ht2 ht3 (d := 17) (b := 1) (by decide) (by decide)) (ro_M LR) rfl wC_R_set wL_R_71 wI_R_set wS_R_set wX_R 2 (by decide +kernel) rfl ⟨Nat.le_of_ble_eq_true rfl, Nat.le_of_ble_eq_true rfl⟩ ⟨(by dsimp only [rm_]; omega), (by dsimp only [rm_]; omega)⟩ rfl (Nat.le_of_ble_eq_true rfl) dc_R_shift_178 (fun v h k_ n_ hq => ?_)
          obtain ⟨rfl, rfl, rfl, f2, g2, rfl, S2⟩ := hq
          obtain ⟨HP, HX⟩ := rp_up HP HX (show 16 ≤ 17 by decide) (show 17 < 24 by decide) S2
          show vx_V _ _ _ _ _ _ _ _ _ 181 [(7, .long (lN c)), (6, .int x), (4, .long (lN m)), (0, .ref (q 0)), (1, .int (nI d)), (2, .int (nI a)), (3, .int p)] []
          have R16 := rs_row S2 (show 17 < 24 by decide) (show 16 < 24 by decide) (by decide) R16
          refine vx_aload_n IG dc_R_shift_181 rfl 3 rfl ?_
          refine vx_bipush (v := 16) IG dc_R_shift_182 (by decide) ?_
          refine vx_bipush (v := 16) IG dc_R_shift_184 (by decide) ?_
          refine vx_bipush (v := 17) IG dc_R_shift_186 (by decide) ?_
          refine vx_callV (As := [.int 16, .int 16, .int 17]) (st := []) IG lw_good (cR_sum LR ht2 ht3 R16 S2.2.2 (d := 16) (by decide) (by decide) (by decide) (by rw [c8 _ (by decide)]; omega) (by rw [c8 _ (by decide)]; decide)) (ro_M LR) rfl wC_R_sum wL_R_79 wI_R_sum wS_R_sum wX_R 3 (by decide +kernel) rfl ⟨Nat.le_of_ble_eq_true rfl, Nat.le_of_ble_eq_true rfl⟩ ⟨(by dsimp only [rm_]; omega), (by dsimp only [rm_]; omega)⟩ rfl (Nat.le_of_ble_eq_true rfl) dc_R_shift_188 (fun v h k_ n_ hq => ?_)
          obtain ⟨rfl, rfl, rfl, f3, g3, rfl, S3⟩ := hq
          obtain ⟨HP, HX⟩ := rp_up HP HX (show 16 ≤ 16 by decide) (show 16 < 24 by decide) S3
          show vx_V _ _ _ _ _ _ _ _ _ 191 [(7, .long (lN c)), (6, .int x), (4, .long (lN m)), (0, .ref (q 0)), (1, .int (nI d)), (2, .int (nI a)), (3, .int p)] []
          refine vx_aload_n IG dc_R_shift_191 rfl 3 rfl ?_
          refine vx_iload_n IG dc_R_shift_192 rfl 4 rfl ?_
          refine vx_bipush (v := 16) IG dc_R_shift_193 (by decide) ?_
          refine vx_aload_n IG dc_R_shift_195 rfl 3 rfl ?_
          refine vx_get IG (ro_M LR) rfl 2 (by decide) inR wF_R_17 rfl rfl dc_R_shift_196 ?_
          refine vx_iload_n IG dc_R_shift_199 rfl 5 rfl ?_
          refine rr_zld IG LR ht2 ha (x := sgI (X a)) Ba dc_R_shift_200 ?_
          refine vx_callV (As := [.int (nI d), .int 16, .int (sgI (X a))]) (st := []) IG lw_good (cR_st LR ht2 ht3 HP HX hd (a := 16) (z := X a / 2 ^ m) (by decide) (by decide) (sgI_01 (X a)) rfl kzs) (ro_M LR) rfl wC_R_store wL_R_75 wI_R_store wS_R_store wX_R 3 (by decide +kernel) rfl ⟨Nat.le_of_ble_eq_true rfl, Nat.le_of_ble_eq_true rfl⟩ ⟨(by dsimp only [rm_]; omega), (by dsimp only [rm_]; omega)⟩ rfl (Nat.le_of_ble_eq_true rfl) dc_R_shift_201 (fun v h k_ n_ hq => ?_)
          obtain ⟨rfl, rfl, rfl, f9, g9, s9, V9, rfl, P9, X9⟩ := hq
          show vx_V _ _ _ _ _ _ _ _ _ 204 [(7, .long (lN c)), (6, .int x), (4, .long (lN m)), (0, .ref (q 0)), (1, .int (nI d)), (2, .int (nI a)), (3, .int p)] [.int (kpV (X a / 2 ^ m))]
          refine vx_ret (some (.int (kpV (X a / 2 ^ m)))) RG (vx_endi (by unfold kpV; split <;> rfl) dc_R_shift_204) rfl ?_
          exact ⟨rfl, rfl, rfl, f9, g9, s9, V9, rfl, P9, X9⟩
      · refine vx_if_eq (tgt := 191) IG dc_R_shift_166 (by decide) (fun _ => ?_) (fun c_ => absurd (sgI_pos u) c_)
        refine vx_aload_n IG dc_R_shift_191 rfl 3 rfl ?_
        refine vx_iload_n IG dc_R_shift_192 rfl 4 rfl ?_
        refine vx_bipush (v := 16) IG dc_R_shift_193 (by decide) ?_
        refine vx_aload_n IG dc_R_shift_195 rfl 3 rfl ?_
        refine vx_get IG (ro_M LR) rfl 2 (by decide) inR wF_R_17 rfl rfl dc_R_shift_196 ?_
        refine vx_iload_n IG dc_R_shift_199 rfl 5 rfl ?_
        refine rr_zld IG LR ht2 ha (x := sgI (X a)) Ba dc_R_shift_200 ?_
        rw [if_neg (fun e => u e.1), Nat.add_zero] at kzs
        refine vx_callV (As := [.int (nI d), .int 16, .int (sgI (X a))]) (st := []) IG lw_good (cR_st LR ht2 ht3 HP HX hd (a := 16) (z := X a / 2 ^ m) (by decide) (by decide) (sgI_01 (X a)) rfl kzs) (ro_M LR) rfl wC_R_store wL_R_75 wI_R_store wS_R_store wX_R 3 (by decide +kernel) rfl ⟨Nat.le_of_ble_eq_true rfl, Nat.le_of_ble_eq_true rfl⟩ ⟨(by dsimp only [rm_]; omega), (by dsimp only [rm_]; omega)⟩ rfl (Nat.le_of_ble_eq_true rfl) dc_R_shift_201 (fun v h k_ n_ hq => ?_)
        obtain ⟨rfl, rfl, rfl, f9, g9, s9, V9, rfl, P9, X9⟩ := hq
        show vx_V _ _ _ _ _ _ _ _ _ 204 [(7, .long (lN c)), (6, .int x), (4, .long (lN m)), (0, .ref (q 0)), (1, .int (nI d)), (2, .int (nI a)), (3, .int p)] [.int (kpV (X a / 2 ^ m))]
        refine vx_ret (some (.int (kpV (X a / 2 ^ m)))) RG (vx_endi (by unfold kpV; split <;> rfl) dc_R_shift_204) rfl ?_
        exact ⟨rfl, rfl, rfl, f9, g9, s9, V9, rfl, P9, X9⟩
    have loop : ∀ (j c k n : Nat) (x : Int32), j = 16 * nd 65536 (X a).natAbs - c → c ≤ m → c ≤ 16 * nd 65536 (X a).natAbs → (x = if (X a).natAbs % 2 ^ c = 0 then 0 else 1) → k = 0 → n = 0 → vx_V D vcl A H0 9 G (rH cI cZ q h0 f1 g1 s) k n 102 [(7, .long (lN c)), (6, .int x), (4, .long (lN m)), (0, .ref (q 0)), (1, .int (nI d)), (2, .int (nI a)), (3, .int p)] [] := by
      intro j
      induction j with
      | zero =>
        intro c k n x hj hc1 hc2 ex hk hn
        subst hk hn
        have hc : c = 16 * nd 65536 (X a).natAbs := by omega
        refine vx_lload IG dc_R_shift_102 0 rfl ?_
        refine vx_lload IG dc_R_shift_104 2 rfl ?_
        refine vx_lcmp IG dc_R_shift_106 ?_
        have hx : x = if (X a).natAbs % 2 ^ m = 0 then 0 else 1 := by rw [ex, sd_lost (by rw [hc]; exact hNlt) hc1]
        by_cases u : m ≤ c
        · refine vx_if_ge (tgt := 160) IG dc_R_shift_107 (by decide) (fun _ => ?_) (fun c_ => absurd ((lg_cmp_ge _ _).mpr ((pk_lLE (by omega) (by omega)).mpr u)) c_)
          exact last x c _ _ hx rfl rfl
        · refine vx_if_ge (tgt := 160) IG dc_R_shift_107 (by decide) (fun c_ => absurd c_ (fun e => u ((pk_lLE (by omega) (by omega)).mp ((lg_cmp_ge _ _).mp e)))) (fun _ => ?_)
          refine vx_lload IG dc_R_shift_110 0 rfl ?_
          refine vx_ldc2 (v := 16) IG wK_R_37 dc_R_shift_112 ?_
          refine vx_aload_n IG dc_R_shift_115 rfl 3 rfl ?_
          refine vx_get IG (ro_M LR) rfl 1 (by decide) inR wF_R_14 rfl rfl dc_R_shift_116 ?_
          refine vx_iload_n IG dc_R_shift_119 rfl 5 rfl ?_
          refine rr_nld IG LR ht3 (show a < 24 by omega) (x := nI (nd 65536 (X a).natAbs)) Ra.1 dc_R_shift_120 ?_
          refine vx_i2l (v := lN (nd 65536 (X a).natAbs)) IG dc_R_shift_121 (nI_l (by omega)) ?_
          refine vx_lmul IG dc_R_shift_122 ?_
          refine vx_topl (y := lN (16 * nd 65536 (X a).natAbs)) (lN_mul 16 _) ?_
          refine vx_lcmp IG dc_R_shift_123 ?_
          refine vx_if_ge (tgt := 160) IG dc_R_shift_124 (by decide) (fun _ => ?_) (fun c_ => absurd ((lg_cmp_ge _ _).mpr ((pk_lLE (by omega) (by omega)).mpr (by omega))) c_)
          exact last x c _ _ hx rfl rfl
      | succ j ih =>
        intro c k n x hj hc1 hc2 ex hk hn
        subst hk hn
        refine vx_lload IG dc_R_shift_102 0 rfl ?_
        refine vx_lload IG dc_R_shift_104 2 rfl ?_
        refine vx_lcmp IG dc_R_shift_106 ?_
        by_cases u : m ≤ c
        · refine vx_if_ge (tgt := 160) IG dc_R_shift_107 (by decide) (fun _ => ?_) (fun c_ => absurd ((lg_cmp_ge _ _).mpr ((pk_lLE (by omega) (by omega)).mpr u)) c_)
          exact last x c _ _ (by rw [ex, show c = m by omega]) rfl rfl
        · refine vx_if_ge (tgt := 160) IG dc_R_shift_107 (by decide) (fun c_ => absurd c_ (fun e => u ((pk_lLE (by omega) (by omega)).mp ((lg_cmp_ge _ _).mp e)))) (fun _ => ?_)
          refine vx_lload IG dc_R_shift_110 0 rfl ?_
          refine vx_ldc2 (v := 16) IG wK_R_37 dc_R_shift_112 ?_
          refine vx_aload_n IG dc_R_shift_115 rfl 3 rfl ?_
          refine vx_get IG (ro_M LR) rfl 1 (by decide) inR wF_R_14 rfl rfl dc_R_shift_116 ?_
          refine vx_iload_n IG dc_R_shift_119 rfl 5 rfl ?_
          refine rr_nld IG LR ht3 (show a < 24 by omega) (x := nI (nd 65536 (X a).natAbs)) Ra.1 dc_R_shift_120 ?_
          refine vx_i2l (v := lN (nd 65536 (X a).natAbs)) IG dc_R_shift_121 (nI_l (by omega)) ?_
          refine vx_lmul IG dc_R_shift_122 ?_
          refine vx_topl (y := lN (16 * nd 65536 (X a).natAbs)) (lN_mul 16 _) ?_
          refine vx_lcmp IG dc_R_shift_123 ?_
          refine vx_if_ge (tgt := 160) IG dc_R_shift_124 (by decide) (fun c_ => absurd c_ (fun e => absurd ((pk_lLT (a := c) (b := 16 * nd 65536 (X a).natAbs) (by omega) (by omega)).mpr (by omega)) (Int64.not_lt.mpr ((lg_cmp_ge _ _).mp e)))) (fun _ => ?_)
          refine vx_iload IG dc_R_shift_127 1 rfl ?_
          have hs := s_mod (X a).natAbs c
          have hp2 := Nat.pow_pos (n := c) (show 0 < 2 by decide)
          have step : ∀ (x2 : Int32) (k n : Nat), (x2 = if (X a).natAbs % 2 ^ (c + 1) = 0 then 0 else 1) → k = 0 → n = 0 → vx_V D vcl A H0 9 G (rH cI cZ q h0 f1 g1 s) k n 149 [(7, .long (lN c)), (6, .int x), (4, .long (lN m)), (0, .ref (q 0)), (1, .int (nI d)), (2, .int (nI a)), (3, .int p)] [.int x2] := by
            intro x2 k n e2 hk hn
            subst hk hn
            refine vx_istore (lv' := [(6, .int x2), (7, .long (lN c)), (4, .long (lN m)), (0, .ref (q 0)), (1, .int (nI d)), (2, .int (nI a)), (3, .int p)]) IG dc_R_shift_149 (by decide) rfl ?_
            refine vx_lload IG dc_R_shift_151 1 rfl ?_
            refine vx_lconst (v := 1) IG dc_R_shift_153 (by decide) ?_
            refine vx_ladd IG dc_R_shift_154 ?_
            refine vx_topl (y := lN (c + 1)) (lN_1 c) ?_
            refine vx_lstore (lv' := [(7, .long (lN (c + 1))), (6, .int x2), (4, .long (lN m)), (0, .ref (q 0)), (1, .int (nI d)), (2, .int (nI a)), (3, .int p)]) IG dc_R_shift_155 (by decide) rfl ?_
            refine vx_goto (tgt := 102) IG dc_R_shift_157 (by decide) ?_
            exact ih (c + 1) _ _ x2 (by omega) (by omega) (by omega) e2 rfl rfl
          by_cases v : (X a).natAbs % 2 ^ c = 0
          · rw [if_pos v] at ex
            refine vx_if_ne (tgt := 144) IG dc_R_shift_129 (by decide) (fun c_ => absurd ex c_) (fun _ => ?_)
            refine vx_aload_n IG dc_R_shift_132 rfl 3 rfl ?_
            refine vx_iload_n IG dc_R_shift_133 rfl 5 rfl ?_
            refine vx_lload IG dc_R_shift_134 0 rfl ?_
            refine vx_l2i (v := nI c) IG dc_R_shift_136 (lN_i c) ?_
            refine vx_callV (As := [.int (nI a), .int (nI c)]) (st := []) IG lw_good (cR_bitOf LR ht2 ht3 Ra (by omega) (i := c) (by omega)) (ro_M LR) rfl wC_R_bitOf wL_R_48 wI_R_bitOf wS_R_bitOf wX_R 2 (by decide +kernel) rfl ⟨Nat.le_of_ble_eq_true rfl, Nat.le_of_ble_eq_true rfl⟩ ⟨(by dsimp only [rm_]; omega), (by dsimp only [rm_]; omega)⟩ rfl (Nat.le_of_ble_eq_true rfl) dc_R_shift_137 (fun v h k_ n_ hq => ?_)
            obtain ⟨rfl, rfl, rfl, rfl⟩ := hq
            show vx_V _ _ _ _ _ _ _ _ _ 140 [(7, .long (lN c)), (6, .int x), (4, .long (lN m)), (0, .ref (q 0)), (1, .int (nI d)), (2, .int (nI a)), (3, .int p)] [.int (nI ((X a).natAbs / 2 ^ c % 2))]
            refine vx_iconst (v := 1) IG dc_R_shift_140 (by decide) ?_
            by_cases t : (X a).natAbs / 2 ^ c % 2 = 1
            · refine vx_icmp_ne (tgt := 148) IG dc_R_shift_141 (by decide) (fun c_ => absurd (by rw [t]; rfl) c_) (fun _ => ?_)
              refine vx_iconst (v := 1) IG dc_R_shift_144 (by decide) ?_
              refine vx_goto (tgt := 149) IG dc_R_shift_145 (by decide) ?_
              exact step 1 _ _ (by rw [if_neg (fun e => by rw [e, v, t] at hs; omega)]) rfl rfl
            · refine vx_icmp_ne (tgt := 148) IG dc_R_shift_141 (by decide) (fun _ => ?_) (fun c_ => absurd c_ (nI_ne (by omega) (b := 1) (by decide) t))
              refine vx_iconst (v := 0) IG dc_R_shift_148 (by decide) ?_
              exact step 0 _ _ (by rw [if_pos (by rw [hs, v, show (X a).natAbs / 2 ^ c % 2 = 0 by omega, Nat.mul_zero])]) rfl rfl
          · rw [if_neg v] at ex
            refine vx_if_ne (tgt := 144) IG dc_R_shift_129 (by decide) (fun _ => ?_) (fun c_ => absurd c_ (by rw [ex]; decide))
            refine vx_iconst (v := 1) IG dc_R_shift_144 (by decide) ?_
            refine vx_goto (tgt := 149) IG dc_R_shift_145 (by decide) ?_
            exact step 1 _ _ (by rw [if_neg (fun e => by rw [e] at hs; omega)]) rfl rfl
    refine vx_iconst (v := 0) IG dc_R_shift_96 (by decide) ?_
    refine vx_istore (lv' := [(6, .int 0), (4, .long (lN m)), (0, .ref (q 0)), (1, .int (nI d)), (2, .int (nI a)), (3, .int p)]) IG dc_R_shift_97 (by decide) rfl ?_
    refine vx_lconst (v := 0) IG dc_R_shift_99 (by decide) ?_
    refine vx_lstore (lv' := [(7, .long 0), (6, .int 0), (4, .long (lN m)), (0, .ref (q 0)), (1, .int (nI d)), (2, .int (nI a)), (3, .int p)]) IG dc_R_shift_100 (by decide) rfl ?_
    exact loop _ 0 _ _ 0 rfl (by omega) (by omega) (by rw [if_pos (by rw [Nat.pow_zero, Nat.mod_one])]) rfl rfl
  · refine vx_if_lt (tgt := 82) IG dc_R_shift_17 (by decide) (fun c_ => absurd c_ y) (fun _ => ?_)
    rw [Int32.lt_iff_toInt_lt, i0] at y
    rw [if_pos (by omega)] at RG
    obtain ⟨n, hn, rfl⟩ := i32_pos (x := p) (by omega)
    rw [nI_toInt hn, Int.toNat_natCast] at RG
    have kzl := kz_shl (X a) n
    refine vx_aload_n IG dc_R_shift_20 rfl 0 rfl ?_
    refine vx_get IG (ro_M LR) rfl 1 (by decide) inR wF_R_14 rfl rfl dc_R_shift_21 ?_
    refine vx_iload_n IG dc_R_shift_24 rfl 2 rfl ?_
    refine rr_nld IG LR ht3 (show a < 24 by omega) (x := nI (nd 65536 (X a).natAbs)) Ra.1 dc_R_shift_25 ?_
    have fin : ∀ (n2 k m : Nat), n2 < 2 ^ 31 → kz (sgI (X a)) ((X a).natAbs * 2 ^ n2) = X a * 2 ^ n → nd 65536 (X a).natAbs + n2 / 16 < 8200 → k = 0 → m = 0 → vx_V D vcl A H0 9 G (rH cI cZ q h0 f g s) k m 65 [(0, .ref (q 0)), (1, .int (nI d)), (2, .int (nI a)), (3, .int (nI n))] [.int (nI n2), .int (nI a), .int 16, .ref (q 0)] := by
      intro n2 k m h1 h2 h3 hk hm
      subst hk hm
      refine vx_callV (As := [.int 16, .int (nI a), .int (nI n2)]) (st := []) IG lw_good (cR_raise LR ht2 ht3 Ra (d := 16) (by decide) (by omega) (by omega) (n := n2) h1 (by rw [c8 _ (by decide)]; exact h3)) (ro_M LR) rfl wC_R_raise wL_R_105 wI_R_raise wS_R_raise wX_R 3 (by decide +kernel) rfl ⟨Nat.le_of_ble_eq_true rfl, Nat.le_of_ble_eq_true rfl⟩ ⟨(by dsimp only [rm_]; omega), (by dsimp only [rm_]; omega)⟩ rfl (Nat.le_of_ble_eq_true rfl) dc_R_shift_65 (fun v h k_ n_ hq => ?_)
      obtain ⟨rfl, rfl, rfl, f1, g1, rfl, S1⟩ := hq
      obtain ⟨HP, HX⟩ := rp_up HP HX (show 16 ≤ 16 by decide) (show 16 < 24 by decide) S1
      show vx_V _ _ _ _ _ _ _ _ _ 68 [(0, .ref (q 0)), (1, .int (nI d)), (2, .int (nI a)), (3, .int (nI n))] []
      refine vx_aload_n IG dc_R_shift_68 rfl 0 rfl ?_
      refine vx_iload_n IG dc_R_shift_69 rfl 1 rfl ?_
      refine vx_bipush (v := 16) IG dc_R_shift_70 (by decide) ?_
      refine vx_aload_n IG dc_R_shift_72 rfl 0 rfl ?_
      refine vx_get IG (ro_M LR) rfl 2 (by decide) inR wF_R_17 rfl rfl dc_R_shift_73 ?_
      refine vx_iload_n IG dc_R_shift_76 rfl 2 rfl ?_
      refine rr_zld IG LR ht2 ha (x := sgI (X a)) Ba dc_R_shift_77 ?_
      refine vx_callV (As := [.int (nI d), .int 16, .int (sgI (X a))]) (st := []) IG lw_good (cR_st LR ht2 ht3 HP HX hd (a := 16) (z := X a * 2 ^ n) (by decide) (by decide) (sgI_01 (X a)) rfl h2) (ro_M LR) rfl wC_R_store wL_R_75 wI_R_store wS_R_store wX_R 3 (by decide +kernel) rfl ⟨Nat.le_of_ble_eq_true rfl, Nat.le_of_ble_eq_true rfl⟩ ⟨(by dsimp only [rm_]; omega), (by dsimp only [rm_]; omega)⟩ rfl (Nat.le_of_ble_eq_true rfl) dc_R_shift_78 (fun v h k_ n_ hq => ?_)
      obtain ⟨rfl, rfl, rfl, f9, g9, s9, V9, rfl, P9, X9⟩ := hq
      show vx_V _ _ _ _ _ _ _ _ _ 81 [(0, .ref (q 0)), (1, .int (nI d)), (2, .int (nI a)), (3, .int (nI n))] [.int (kpV (X a * 2 ^ n))]
      refine vx_ret (some (.int (kpV (X a * 2 ^ n)))) RG (vx_endi (by unfold kpV; split <;> rfl) dc_R_shift_81) rfl ?_
      exact ⟨rfl, rfl, rfl, f9, g9, s9, V9, rfl, P9, X9⟩
    by_cases u : X a = 0
    · have e0 : nd 65536 (X a).natAbs = 0 := by rw [u]; rfl
      refine vx_if_le (tgt := 47) IG dc_R_shift_26 (by decide) (fun _ => ?_) (fun c_ => absurd (by rw [e0]; decide) c_)
      refine vx_aload_n IG dc_R_shift_47 rfl 0 rfl ?_
      refine vx_bipush (v := 16) IG dc_R_shift_48 (by decide) ?_
      refine vx_iload_n IG dc_R_shift_50 rfl 2 rfl ?_
      refine vx_aload_n IG dc_R_shift_51 rfl 0 rfl ?_
      refine vx_get IG (ro_M LR) rfl 1 (by decide) inR wF_R_14 rfl rfl dc_R_shift_52 ?_
      refine vx_iload_n IG dc_R_shift_55 rfl 2 rfl ?_
      refine rr_nld IG LR ht3 (show a < 24 by omega) (x := nI (nd 65536 (X a).natAbs)) Ra.1 dc_R_shift_56 ?_
      refine vx_if_ne (tgt := 64) IG dc_R_shift_57 (by decide) (fun c_ => absurd (by rw [e0]; rfl) c_) (fun _ => ?_)
      refine vx_iconst (v := 0) IG dc_R_shift_60 (by decide) ?_
      refine vx_goto (tgt := 65) IG dc_R_shift_61 (by decide) ?_
      exact fin 0 _ _ (by decide) (by rw [u, Int.zero_mul]; rfl) (by omega) rfl rfl
    · have hn0 : nd 65536 (X a).natAbs ≠ 0 := fun e => by have := (nd_eq_zero b16).mp e; omega
      refine vx_if_le (tgt := 47) IG dc_R_shift_26 (by decide) (fun c_ => absurd c_ (fun e => absurd (nI_lt (a := 0) (b := nd 65536 (X a).natAbs) (by omega) (by omega)) (Int32.not_lt.mpr e))) (fun _ => ?_)
      refine vx_aload_n IG dc_R_shift_29 rfl 0 rfl ?_
      refine vx_iload_n IG dc_R_shift_30 rfl 2 rfl ?_
      refine vx_callV (As := [.int (nI a)]) (st := []) IG lw_good (cR_bitsOf LR ht2 ht3 Ra (by omega)) (ro_M LR) rfl wC_R_bitsOf wL_R_41 wI_R_bitsOf wS_R_bitsOf wX_R 1 (by decide +kernel) rfl ⟨Nat.le_of_ble_eq_true rfl, Nat.le_of_ble_eq_true rfl⟩ ⟨(by dsimp only [rm_]; omega), (by dsimp only [rm_]; omega)⟩ rfl (Nat.le_of_ble_eq_true rfl) dc_R_shift_31 (fun v h k_ n_ hq => ?_)
      obtain ⟨rfl, rfl, rfl, rfl⟩ := hq
      show vx_V _ _ _ _ _ _ _ _ _ 34 [(0, .ref (q 0)), (1, .int (nI d)), (2, .int (nI a)), (3, .int (nI n))] [.int (nI (bl (X a).natAbs))]
      refine vx_i2l (v := lN (bl (X a).natAbs)) IG dc_R_shift_34 (nI_l (by omega)) ?_
      refine vx_iload_n IG dc_R_shift_35 rfl 3 rfl ?_
      refine vx_i2l (v := lN n) IG dc_R_shift_36 (nI_l hn) ?_
      refine vx_ladd IG dc_R_shift_37 ?_
      refine vx_topl (y := lN ((bl (X a).natAbs) + n)) (lN_add _ _) ?_
      refine vx_ldc2 (v := 65536) IG wK_R_103 dc_R_shift_38 ?_
      refine vx_lcmp IG dc_R_shift_41 ?_
      have hb2 := bl_shl (A := (X a).natAbs) (n := n) (by omega)
      by_cases v : bl (X a).natAbs + n ≤ 65536
      · refine vx_if_le (tgt := 47) IG dc_R_shift_42 (by decide) (fun _ => ?_) (fun c_ => absurd ((lg_cmp_le _ _).mpr ((pk_lLE (b := 65536) (by omega) (by decide)).mpr v)) c_)
        refine vx_aload_n IG dc_R_shift_47 rfl 0 rfl ?_
        refine vx_bipush (v := 16) IG dc_R_shift_48 (by decide) ?_
        refine vx_iload_n IG dc_R_shift_50 rfl 2 rfl ?_
        refine vx_aload_n IG dc_R_shift_51 rfl 0 rfl ?_
        refine vx_get IG (ro_M LR) rfl 1 (by decide) inR wF_R_14 rfl rfl dc_R_shift_52 ?_
        refine vx_iload_n IG dc_R_shift_55 rfl 2 rfl ?_
        refine rr_nld IG LR ht3 (show a < 24 by omega) (x := nI (nd 65536 (X a).natAbs)) Ra.1 dc_R_shift_56 ?_
        refine vx_if_ne (tgt := 64) IG dc_R_shift_57 (by decide) (fun _ => ?_) (fun c_ => absurd c_ (nI_ne (by omega) (b := 0) (by decide) hn0))
        refine vx_iload_n IG dc_R_shift_64 rfl 3 rfl ?_
        refine fin n _ _ hn kzl ?_ rfl rfl
        omega
      · refine vx_if_le (tgt := 47) IG dc_R_shift_42 (by decide) (fun c_ => absurd c_ (fun e => v ((pk_lLE (b := 65536) (by omega) (by decide)).mp ((lg_cmp_le _ _).mp e)))) (fun _ => ?_)
        refine vx_iconst (v := 0) IG dc_R_shift_45 (by decide) ?_
        refine vx_ret (some (.int 0)) RG (vx_endi (by first | rfl | decide) dc_R_shift_46) rfl ?_
        have hbig : ¬ bl (X a * 2 ^ n).natAbs ≤ 65536 := by
          rw [Int.natAbs_mul, Int.natAbs_pow]
          show ¬ bl ((X a).natAbs * 2 ^ n) ≤ 65536
          rw [hb2]
          exact v
        unfold kp
        rw [kpV_0 hbig, kpX_0 hbig]
        exact ⟨rfl, rfl, rfl, f, g, s, V, rfl, HP, HX⟩
set_option maxRecDepth 100000 in
set_option maxHeartbeats 8000000 in
theorem cR_spread (LR : rlay q h0) (ht2 : tys[2]? = some (cZ, .boolean)) (ht3 : tys[3]? = some (cI, .int)) (HP : rpic f g V) (HX : mreg X V s) (r1 : Int32) {b : Nat} (hb : b < 18446744073709551616) (p : Int32) : vx_M l D vcl tys my_R_spread lw_gd (rm_ 3 0 0 66) [.ref (q 0), .int r1, .long (lN b), .int p] (rH cI cZ q h0 f g s) (rpub cI cZ q h0 (sp1 0 X (fun d => if 0 ≤ p.toInt ∧ p.toInt ≤ 1024 then kp X d (vl 18446744073709551616 (fun _ => b) p.toNatClampNeg : Nat) else (0, X)) r1).2 (sp1 0 X (fun d => if 0 ≤ p.toInt ∧ p.toInt ≤ 1024 then kp X d (vl 18446744073709551616 (fun _ => b) p.toNatClampNeg : Nat) else (0, X)) r1).1) := by
  refine vx_M.ofV (cc := bc_R_spread) (maxL := 6) (ret := (some .boolean)) (own := rR) false rfl (by decide +kernel) wC_R_spread (fun q => by cases q) (Nat.le_of_ble_eq_true rfl) (fun A H0 G IG RG => ?_)
  show vx_V _ _ _ _ _ _ _ _ _ 0 [(0, .ref (q 0)), (1, .int r1), (2, .long (lN b)), (4, .int p)] []
  refine vx_iload_n IG dc_R_spread_0 rfl 1 rfl ?_
  refine vx_callS (As := [.int r1]) (st := []) IG lw_good (cR_is _ r1) wC_R_is wL_R_67 wT_R_is wX_R 1 (by decide +kernel) rfl ⟨Nat.le_of_ble_eq_true rfl, Nat.le_of_ble_eq_true rfl⟩ ⟨(by dsimp only [rm_]; omega), (by dsimp only [rm_]; omega)⟩ rfl (Nat.le_of_ble_eq_true rfl) dc_R_spread_1 (fun v h k_ n_ hq => ?_)
  obtain ⟨rfl, rfl, rfl, rfl⟩ := hq
  show vx_V _ _ _ _ _ _ _ _ _ 4 [(0, .ref (q 0)), (1, .int r1), (2, .long (lN b)), (4, .int p)] [.int (if isR r1 then 1 else 0)]
  by_cases z0 : ¬ isR r1
  · refine vx_topi (y := 0) (if_neg z0) ?_
    refine vx_if_eq (tgt := 20) IG dc_R_spread_4 (by decide) (fun _ => ?_) (fun c_ => absurd rfl c_)
    refine vx_iconst (v := 0) IG dc_R_spread_20 (by decide) ?_
    refine vx_ret (some (.int 0)) RG (vx_endi (by first | rfl | decide) dc_R_spread_21) rfl ?_
    rw [sp1_no z0]
    exact ⟨rfl, rfl, rfl, f, g, s, V, rfl, HP, HX⟩
  replace z0 := Decidable.not_not.mp z0
  refine vx_topi (y := 1) (if_pos z0) ?_
  refine vx_if_eq (tgt := 20) IG dc_R_spread_4 (by decide) (fun c_ => absurd c_ (by decide)) (fun _ => ?_)
  obtain ⟨d, hd, rfl⟩ := isR_of z0
  have Rd := reg_rv HP HX hd
  have Bd := (HX d hd).2
  have Ld := reg_cap HP HX hd
  rw [sp1_ok hd] at RG
  have i0 : (0 : Int32).toInt = 0 := rfl
  have i1 : (1024 : Int32).toInt = 1024 := rfl
  have c8 : rcap 16 = 8200 := rfl
  refine vx_iload IG dc_R_spread_7 3 rfl ?_
  by_cases y : p < 0
  · refine vx_if_lt (tgt := 20) IG dc_R_spread_9 (by decide) (fun _ => ?_) (fun c_ => absurd y c_)
    refine vx_iconst (v := 0) IG dc_R_spread_20 (by decide) ?_
    refine vx_ret (some (.int 0)) RG (vx_endi (by first | rfl | decide) dc_R_spread_21) rfl ?_
    rw [if_neg (fun e => by have := Int32.lt_iff_toInt_lt.mp y; omega)]
    exact ⟨rfl, rfl, rfl, f, g, s, V, rfl, HP, HX⟩
  · refine vx_if_lt (tgt := 20) IG dc_R_spread_9 (by decide) (fun c_ => absurd c_ y) (fun _ => ?_)
    refine vx_iload IG dc_R_spread_12 3 rfl ?_
    refine vx_sipush (v := 1024) IG dc_R_spread_14 (by decide) ?_
    by_cases y2 : p ≤ 1024
    · refine vx_icmp_le (tgt := 22) IG dc_R_spread_17 (by decide) (fun _ => ?_) (fun c_ => absurd y2 c_)
      rw [Int32.lt_iff_toInt_lt, i0] at y
      rw [Int32.le_iff_toInt_le, i1] at y2
      obtain ⟨n, hn, rfl⟩ := i32_pos (x := p) (by omega)
      rw [nI_toInt hn] at y y2
      rw [nI_toInt hn, if_pos ⟨by omega, by omega⟩, nI_clamp hn, ← vl_sp hb] at RG
      obtain ⟨N, eN⟩ : ∃ N, N = vl 65536 (fun k => dg 65536 b (k % 4)) (4 * n) := ⟨_, rfl⟩
      rw [← eN] at RG
      have hN : N < 65536 ^ (4 * n) := by rw [eN]; exact vl_lt b16 (fun i hi => dg_lt b16 _ _)
      have hdN : ∀ k, k < 4 * n → dg 65536 N k = dg 65536 b (k % 4) := fun k hk => by rw [eN]; exact dg_vl b16 (fun i hi => dg_lt b16 _ _) hk
      refine vx_iconst (v := 0) IG dc_R_spread_22 (by decide) ?_
      refine vx_istore (lv' := [(5, .int 0), (0, .ref (q 0)), (1, .int (nI d)), (2, .long (lN b)), (4, .int (nI n))]) IG dc_R_spread_23 (by decide) rfl ?_
      have loop : ∀ (j c k m : Nat), c + j = 4 * n → k = 0 → m = 0 → vx_V D vcl A H0 6 G (rH cI cZ q h0 (pf f (rt 16) (dg 65536 N) c) g s) k m 25 [(5, .int (nI c)), (0, .ref (q 0)), (1, .int (nI d)), (2, .long (lN b)), (4, .int (nI n))] [] := by
        intro j
        induction j with
        | zero =>
          intro c k m hc hk hm
          subst hk hm
          obtain rfl : c = 4 * n := by omega
          refine vx_iload IG dc_R_spread_25 0 rfl ?_
          refine vx_iconst (v := 4) IG dc_R_spread_27 (by decide) ?_
          refine vx_iload IG dc_R_spread_28 4 rfl ?_
          refine vx_imul IG dc_R_spread_30 ?_
          refine vx_topi (y := nI (4 * n)) (pk_mul _ _) ?_
          refine vx_icmp_ge (tgt := 67) IG dc_R_spread_31 (by decide) (fun _ => ?_) (fun c_ => absurd (nI_le (Nat.le_refl _) (by omega)) c_)
          refine vx_aload_n IG dc_R_spread_67 rfl 1 rfl ?_
          refine vx_bipush (v := 16) IG dc_R_spread_68 (by decide) ?_
          refine vx_iconst (v := 4) IG dc_R_spread_70 (by decide) ?_
          refine vx_iload IG dc_R_spread_71 4 rfl ?_
          refine vx_imul IG dc_R_spread_73 ?_
          refine vx_topi (y := nI (4 * n)) (pk_mul _ _) ?_
          refine vx_callV (As := [.int 16, .int (nI (4 * n))]) (st := []) IG lw_good (cR_trim LR ht2 ht3 (d := 16) (N := N) (sz := 4 * n) (by decide) (by omega) (fun k hk => pf_in hk) hN) (ro_M LR) rfl wC_R_trim wL_R_28 wI_R_trim wS_R_trim wX_R 2 (by decide +kernel) rfl ⟨Nat.le_of_ble_eq_true rfl, Nat.le_of_ble_eq_true rfl⟩ ⟨(by dsimp only [rm_]; omega), (by dsimp only [rm_]; omega)⟩ rfl (Nat.le_of_ble_eq_true rfl) dc_R_spread_74 (fun v h k_ n_ hq => ?_)
          obtain ⟨rfl, rfl, rfl, rfl⟩ := hq
          obtain ⟨HP, HX⟩ := rp_up HP HX (show 16 ≤ 16 by decide) (show 16 < 24 by decide) (rs_pw (f := f) (g := g) (show 4 * n ≤ rcap 16 by omega) hN)
          show vx_V _ _ _ _ _ _ _ _ _ 77 [(5, .int (nI (4 * n))), (0, .ref (q 0)), (1, .int (nI d)), (2, .long (lN b)), (4, .int (nI n))] []
          refine vx_aload_n IG dc_R_spread_77 rfl 1 rfl ?_
          refine vx_iload_n IG dc_R_spread_78 rfl 2 rfl ?_
          refine vx_bipush (v := 16) IG dc_R_spread_79 (by decide) ?_
          refine vx_iconst (v := 0) IG dc_R_spread_81 (by decide) ?_
          refine vx_callV (As := [.int (nI d), .int 16, .int 0]) (st := []) IG lw_good (cR_st LR ht2 ht3 HP HX hd (a := 16) (z := (N : Int)) (by decide) (by decide) (Or.inl rfl) rfl (kz_0 _)) (ro_M LR) rfl wC_R_store wL_R_75 wI_R_store wS_R_store wX_R 3 (by decide +kernel) rfl ⟨Nat.le_of_ble_eq_true rfl, Nat.le_of_ble_eq_true rfl⟩ ⟨(by dsimp only [rm_]; omega), (by dsimp only [rm_]; omega)⟩ rfl (Nat.le_of_ble_eq_true rfl) dc_R_spread_82 (fun v h k_ n_ hq => ?_)
          obtain ⟨rfl, rfl, rfl, f9, g9, s9, V9, rfl, P9, X9⟩ := hq
          show vx_V _ _ _ _ _ _ _ _ _ 85 [(5, .int (nI (4 * n))), (0, .ref (q 0)), (1, .int (nI d)), (2, .long (lN b)), (4, .int (nI n))] [.int (kpV (N : Int))]
          refine vx_ret (some (.int (kpV (N : Int)))) RG (vx_endi (by unfold kpV; split <;> rfl) dc_R_spread_85) rfl ?_
          exact ⟨rfl, rfl, rfl, f9, g9, s9, V9, rfl, P9, X9⟩
        | succ j ih =>
          intro c k m hc hk hm
          subst hk hm
          refine vx_iload IG dc_R_spread_25 0 rfl ?_
          refine vx_iconst (v := 4) IG dc_R_spread_27 (by decide) ?_
          refine vx_iload IG dc_R_spread_28 4 rfl ?_
          refine vx_imul IG dc_R_spread_30 ?_
          refine vx_topi (y := nI (4 * n)) (pk_mul _ _) ?_
          refine vx_icmp_ge (tgt := 67) IG dc_R_spread_31 (by decide) (fun c_ => absurd c_ (fun e => absurd (nI_lt (a := c) (b := 4 * n) (by omega) (by omega)) (Int32.not_lt.mpr e))) (fun _ => ?_)
          refine vx_aload_n IG dc_R_spread_34 rfl 1 rfl ?_
          refine vx_get IG (ro_M LR) rfl 0 (by decide) inR wF_R_8 rfl rfl dc_R_spread_35 ?_
          refine vx_bipush (v := 16) IG dc_R_spread_38 (by decide) ?_
          refine vx_callS (As := [.int 16]) (st := [.ref (q 1)]) IG lw_good (cR_at _ 16 (by decide)) wC_R_at wL_R_22 wT_R_at wX_R 1 (by decide +kernel) rfl ⟨Nat.le_of_ble_eq_true rfl, Nat.le_of_ble_eq_true rfl⟩ ⟨(by dsimp only [rm_]; omega), (by dsimp only [rm_]; omega)⟩ rfl (Nat.le_of_ble_eq_true rfl) dc_R_spread_40 (fun v h k_ n_ hq => ?_)
          obtain ⟨rfl, rfl, rfl, rfl⟩ := hq
          show vx_V _ _ _ _ _ _ _ _ _ 43 [(5, .int (nI c)), (0, .ref (q 0)), (1, .int (nI d)), (2, .long (lN b)), (4, .int (nI n))] [.int (nI (rt 16)), .ref (q 1)]
          refine vx_iload IG dc_R_spread_43 0 rfl ?_
          refine vx_iadd IG dc_R_spread_45 ?_
          refine vx_topi (y := nI ((rt 16) + c)) (nI_add _ _) ?_
          refine vx_lload_n IG dc_R_spread_46 rfl 3 rfl ?_
          refine vx_bipush (v := 16) IG dc_R_spread_47 (by decide) ?_
          refine vx_iload IG dc_R_spread_49 0 rfl ?_
          refine vx_iconst (v := 4) IG dc_R_spread_51 (by decide) ?_
          refine vx_irem IG dc_R_spread_52 (by decide) ?_
          refine vx_topi (y := nI (c % 4)) (pk_rem (d := 4) (by omega) (by decide) (by decide)) ?_
          refine vx_imul IG dc_R_spread_53 ?_
          refine vx_topi (y := nI (16 * (c % 4))) (pk_mul _ _) ?_
          refine vx_lshr (v := ((lN b) >>> ((nI (16 * (c % 4))).toInt64 &&& 63))) IG dc_R_spread_54 rfl ?_
          refine vx_ldc2 (v := 65535) IG wK_R_26 dc_R_spread_55 ?_
          refine vx_land IG dc_R_spread_58 ?_
          refine vx_l2i (v := nI (dg 65536 N c)) IG dc_R_spread_59 (by rw [hdN c (by omega)]; exact set_dg hb (by omega)) ?_
          refine rr_mst IG LR ht3 (rt_in (by decide) (by omega)) (f' := pf f (rt 16) (dg 65536 N) (c + 1)) (pf_s _ _ _ _) dc_R_spread_60 ?_
          refine vx_iinc (q := 0) (v := nI (c + 1)) (lv' := [(5, .int (nI (c + 1))), (0, .ref (q 0)), (1, .int (nI d)), (2, .long (lN b)), (4, .int (nI n))]) IG dc_R_spread_61 rfl (nI_1 c) (by decide) rfl ?_
          refine vx_goto (tgt := 25) IG dc_R_spread_64 (by decide) ?_
          exact ih (c + 1) _ _ (by omega) rfl rfl
      have hl := loop (4 * n) 0 0 0 (by omega) rfl rfl
      rw [pf_0] at hl
      exact hl
    · refine vx_icmp_le (tgt := 22) IG dc_R_spread_17 (by decide) (fun c_ => absurd c_ y2) (fun _ => ?_)
      refine vx_iconst (v := 0) IG dc_R_spread_20 (by decide) ?_
      refine vx_ret (some (.int 0)) RG (vx_endi (by first | rfl | decide) dc_R_spread_21) rfl ?_
      rw [if_neg (fun e => y2 (by rw [Int32.le_iff_toInt_le, i1]; exact e.2))]
      exact ⟨rfl, rfl, rfl, f, g, s, V, rfl, HP, HX⟩
set_option maxRecDepth 100000 in
set_option maxHeartbeats 8000000 in
theorem cR_push (LR : rlay q h0) (ht2 : tys[2]? = some (cZ, .boolean)) (ht3 : tys[3]? = some (cI, .int)) (HP : rpic f g V) (HX : mreg X V s) (r1 : Int32) {b : Nat} (hb : b < 18446744073709551616) : vx_M l D vcl tys my_R_push lw_gd (rm_ 3 0 0 67) [.ref (q 0), .int r1, .long (lN b)] (rH cI cZ q h0 f g s) (rpub cI cZ q h0 (sp1 0 X (fun d => kp X d (kz (sgI (X d)) ((X d).natAbs * 2 ^ 64 + b))) r1).2 (sp1 0 X (fun d => kp X d (kz (sgI (X d)) ((X d).natAbs * 2 ^ 64 + b))) r1).1) := by
  refine vx_M.ofV (cc := bc_R_push) (maxL := 5) (ret := (some .boolean)) (own := rR) false rfl (by decide +kernel) wC_R_push (fun q => by cases q) (Nat.le_of_ble_eq_true rfl) (fun A H0 G IG RG => ?_)
  show vx_V _ _ _ _ _ _ _ _ _ 0 [(0, .ref (q 0)), (1, .int r1), (2, .long (lN b))] []
  refine vx_iload_n IG dc_R_push_0 rfl 1 rfl ?_
  refine vx_callS (As := [.int r1]) (st := []) IG lw_good (cR_is _ r1) wC_R_is wL_R_67 wT_R_is wX_R 1 (by decide +kernel) rfl ⟨Nat.le_of_ble_eq_true rfl, Nat.le_of_ble_eq_true rfl⟩ ⟨(by dsimp only [rm_]; omega), (by dsimp only [rm_]; omega)⟩ rfl (Nat.le_of_ble_eq_true rfl) dc_R_push_1 (fun v h k_ n_ hq => ?_)
  obtain ⟨rfl, rfl, rfl, rfl⟩ := hq
  show vx_V _ _ _ _ _ _ _ _ _ 4 [(0, .ref (q 0)), (1, .int r1), (2, .long (lN b))] [.int (if isR r1 then 1 else 0)]
  by_cases z0 : ¬ isR r1
  · refine vx_topi (y := 0) (if_neg z0) ?_
    refine vx_if_ne (tgt := 9) IG dc_R_push_4 (by decide) (fun c_ => absurd rfl c_) (fun _ => ?_)
    refine vx_iconst (v := 0) IG dc_R_push_7 (by decide) ?_
    refine vx_ret (some (.int 0)) RG (vx_endi (by first | rfl | decide) dc_R_push_8) rfl ?_
    rw [sp1_no z0]
    exact ⟨rfl, rfl, rfl, f, g, s, V, rfl, HP, HX⟩
  replace z0 := Decidable.not_not.mp z0
  refine vx_topi (y := 1) (if_pos z0) ?_
  refine vx_if_ne (tgt := 9) IG dc_R_push_4 (by decide) (fun _ => ?_) (fun c_ => absurd c_ (by decide))
  obtain ⟨d, hd, rfl⟩ := isR_of z0
  have Rd := reg_rv HP HX hd
  have Bd := (HX d hd).2
  have Ld := reg_cap HP HX hd
  rw [sp1_ok hd] at RG
  have c8 : rcap 16 = 8200 := rfl
  refine vx_aload_n IG dc_R_push_9 rfl 0 rfl ?_
  refine vx_bipush (v := 16) IG dc_R_push_10 (by decide) ?_
  refine vx_lload_n IG dc_R_push_12 rfl 2 rfl ?_
  refine vx_callV (As := [.int 16, .long (lN b)]) (st := []) IG lw_good (cR_set LR ht2 ht3 (d := 16) (by decide) hb) (ro_M LR) rfl wC_R_set wL_R_71 wI_R_set wS_R_set wX_R 2 (by decide +kernel) rfl ⟨Nat.le_of_ble_eq_true rfl, Nat.le_of_ble_eq_true rfl⟩ ⟨(by dsimp only [rm_]; omega), (by dsimp only [rm_]; omega)⟩ rfl (Nat.le_of_ble_eq_true rfl) dc_R_push_13 (fun v h k_ n_ hq => ?_)
  obtain ⟨rfl, rfl, rfl, f1, g1, rfl, S1⟩ := hq
  obtain ⟨HP, HX⟩ := rp_up HP HX (show 16 ≤ 16 by decide) (show 16 < 24 by decide) S1
  show vx_V _ _ _ _ _ _ _ _ _ 16 [(0, .ref (q 0)), (1, .int (nI d)), (2, .long (lN b))] []
  have R16 := S1.2.2
  have Rd := reg_rv HP HX hd
  have hnb : nd 65536 b ≤ 4 := (nd_le b16).mpr (Nat.lt_of_lt_of_le hb (by decide))
  obtain ⟨N, eN⟩ : ∃ N, N = (X d).natAbs * 65536 ^ 4 + b := ⟨_, rfl⟩
  have eN2 : (X d).natAbs * 2 ^ 64 + b = N := by rw [eN]
  rw [eN2] at RG
  have hlo : ∀ k, k < 4 → dg 65536 N k = dg 65536 b k := fun k hk => by rw [eN, Nat.add_comm]; exact dg_add_hi b16 hk
  have hhi : ∀ k, dg 65536 N (k + 4) = dg 65536 (X d).natAbs k := fun k => by
    rw [← dg_down, eN, Nat.add_comm, Nat.add_mul_div_right _ _ (by decide), Nat.div_eq_of_lt (Nat.lt_of_lt_of_le hb (by decide)), Nat.zero_add]
  have hN : N < 65536 ^ (nd 65536 (X d).natAbs + 4) := by
    have h1 := lt_nd b16 (X d).natAbs
    rw [eN, Nat.pow_add]
    have h2 : b < 65536 ^ 4 := Nat.lt_of_lt_of_le hb (by decide)
    calc (X d).natAbs * 65536 ^ 4 + b < ((X d).natAbs + 1) * 65536 ^ 4 := by rw [Nat.add_mul, Nat.one_mul]; omega
      _ ≤ 65536 ^ nd 65536 (X d).natAbs * 65536 ^ 4 := Nat.mul_le_mul_right _ h1
  refine vx_aload_n IG dc_R_push_16 rfl 0 rfl ?_
  refine vx_get IG (ro_M LR) rfl 1 (by decide) inR wF_R_14 rfl rfl dc_R_push_17 ?_
  refine vx_bipush (v := 16) IG dc_R_push_20 (by decide) ?_
  refine rr_nld IG LR ht3 (by decide) (x := nI (nd 65536 b)) R16.1 dc_R_push_22 ?_
  refine vx_istore (lv' := [(4, .int (nI (nd 65536 b))), (0, .ref (q 0)), (1, .int (nI d)), (2, .long (lN b))]) IG dc_R_push_23 (by decide) rfl ?_
  have loop2 : ∀ (j c k m : Nat) (f2 : Nat → Int32), c + j = nd 65536 (X d).natAbs → (∀ i, ¬ (rt 16 ≤ i ∧ i < rt 16 + rcap 16) → f2 i = f1 i) → (∀ k, k < 4 + c → f2 (rt 16 + k) = nI (dg 65536 N k)) → k = 0 → m = 0 → vx_V D vcl A H0 5 G (rH cI cZ q h0 f2 g1 s) k m 54 [(4, .int (nI c)), (0, .ref (q 0)), (1, .int (nI d)), (2, .long (lN b))] [] := by
    intro j
    induction j with
    | zero =>
      intro c k m f2 hc h1 h2 hk hm
      subst hk hm
      obtain rfl : c = nd 65536 (X d).natAbs := by omega
      refine vx_iload IG dc_R_push_54 0 rfl ?_
      refine vx_aload_n IG dc_R_push_56 rfl 1 rfl ?_
      refine vx_get IG (ro_M LR) rfl 1 (by decide) inR wF_R_14 rfl rfl dc_R_push_57 ?_
      refine vx_iload_n IG dc_R_push_60 rfl 2 rfl ?_
      refine rr_nld IG LR ht3 (show d < 24 by omega) (x := nI (nd 65536 (X d).natAbs)) Rd.1 dc_R_push_61 ?_
      refine vx_icmp_ge (tgt := 98) IG dc_R_push_62 (by decide) (fun _ => ?_) (fun c_ => absurd (nI_le (Nat.le_refl _) (by omega)) c_)
      refine vx_aload_n IG dc_R_push_98 rfl 1 rfl ?_
      refine vx_bipush (v := 16) IG dc_R_push_99 (by decide) ?_
      refine vx_aload_n IG dc_R_push_101 rfl 1 rfl ?_
      refine vx_get IG (ro_M LR) rfl 1 (by decide) inR wF_R_14 rfl rfl dc_R_push_102 ?_
      refine vx_iload_n IG dc_R_push_105 rfl 2 rfl ?_
      refine rr_nld IG LR ht3 (show d < 24 by omega) (x := nI (nd 65536 (X d).natAbs)) Rd.1 dc_R_push_106 ?_
      refine vx_iconst (v := 4) IG dc_R_push_107 (by decide) ?_
      refine vx_iadd IG dc_R_push_108 ?_
      refine vx_topi (y := nI ((nd 65536 (X d).natAbs) + 4)) (nI_add _ _) ?_
      refine vx_callV (As := [.int 16, .int (nI ((nd 65536 (X d).natAbs) + 4))]) (st := []) IG lw_good (cR_trim LR ht2 ht3 (d := 16) (N := N) (sz := nd 65536 (X d).natAbs + 4) (by decide) (by omega) (fun k hk => h2 k (by omega)) hN) (ro_M LR) rfl wC_R_trim wL_R_28 wI_R_trim wS_R_trim wX_R 2 (by decide +kernel) rfl ⟨Nat.le_of_ble_eq_true rfl, Nat.le_of_ble_eq_true rfl⟩ ⟨(by dsimp only [rm_]; omega), (by dsimp only [rm_]; omega)⟩ rfl (Nat.le_of_ble_eq_true rfl) dc_R_push_109 (fun v h k_ n_ hq => ?_)
      obtain ⟨rfl, rfl, rfl, rfl⟩ := hq
      have HP := rp_set HP (show 16 < 24 by decide) (show nd 65536 (X d).natAbs + 4 ≤ rcap 16 by omega) hN h1 (fun k hk => h2 k (by omega))
      have HX : mreg X (va_up (va_up V 16 b) 16 N) s := mreg_up HX (by decide)
      show vx_V _ _ _ _ _ _ _ _ _ 112 [(4, .int (nI (nd 65536 (X d).natAbs))), (0, .ref (q 0)), (1, .int (nI d)), (2, .long (lN b))] []
      refine vx_aload_n IG dc_R_push_112 rfl 1 rfl ?_
      refine vx_iload_n IG dc_R_push_113 rfl 2 rfl ?_
      refine vx_bipush (v := 16) IG dc_R_push_114 (by decide) ?_
      refine vx_aload_n IG dc_R_push_116 rfl 1 rfl ?_
      refine vx_get IG (ro_M LR) rfl 2 (by decide) inR wF_R_17 rfl rfl dc_R_push_117 ?_
      refine vx_iload_n IG dc_R_push_120 rfl 2 rfl ?_
      refine rr_zld IG LR ht2 hd (x := sgI (X d)) Bd dc_R_push_121 ?_
      refine vx_callV (As := [.int (nI d), .int 16, .int (sgI (X d))]) (st := []) IG lw_good (cR_st LR ht2 ht3 HP HX hd (a := 16) (z := kz (sgI (X d)) N) (by decide) (by decide) (sgI_01 (X d)) rfl rfl) (ro_M LR) rfl wC_R_store wL_R_75 wI_R_store wS_R_store wX_R 3 (by decide +kernel) rfl ⟨Nat.le_of_ble_eq_true rfl, Nat.le_of_ble_eq_true rfl⟩ ⟨(by dsimp only [rm_]; omega), (by dsimp only [rm_]; omega)⟩ rfl (Nat.le_of_ble_eq_true rfl) dc_R_push_122 (fun v h k_ n_ hq => ?_)
      obtain ⟨rfl, rfl, rfl, f9, g9, s9, V9, rfl, P9, X9⟩ := hq
      show vx_V _ _ _ _ _ _ _ _ _ 125 [(4, .int (nI (nd 65536 (X d).natAbs))), (0, .ref (q 0)), (1, .int (nI d)), (2, .long (lN b))] [.int (kpV (kz (sgI (X d)) N))]
      refine vx_ret (some (.int (kpV (kz (sgI (X d)) N)))) RG (vx_endi (by unfold kpV; split <;> rfl) dc_R_push_125) rfl ?_
      exact ⟨rfl, rfl, rfl, f9, g9, s9, V9, rfl, P9, X9⟩
    | succ j ih =>
      intro c k m f2 hc h1 h2 hk hm
      subst hk hm
      refine vx_iload IG dc_R_push_54 0 rfl ?_
      refine vx_aload_n IG dc_R_push_56 rfl 1 rfl ?_
      refine vx_get IG (ro_M LR) rfl 1 (by decide) inR wF_R_14 rfl rfl dc_R_push_57 ?_
      refine vx_iload_n IG dc_R_push_60 rfl 2 rfl ?_
      refine rr_nld IG LR ht3 (show d < 24 by omega) (x := nI (nd 65536 (X d).natAbs)) Rd.1 dc_R_push_61 ?_
      refine vx_icmp_ge (tgt := 98) IG dc_R_push_62 (by decide) (fun c_ => absurd c_ (fun e => absurd (nI_lt (a := c) (b := nd 65536 (X d).natAbs) (by omega) (by omega)) (Int32.not_lt.mpr e))) (fun _ => ?_)
      refine vx_aload_n IG dc_R_push_65 rfl 1 rfl ?_
      refine vx_get IG (ro_M LR) rfl 0 (by decide) inR wF_R_8 rfl rfl dc_R_push_66 ?_
      refine vx_bipush (v := 16) IG dc_R_push_69 (by decide) ?_
      refine vx_callS (As := [.int 16]) (st := [.ref (q 1)]) IG lw_good (cR_at _ 16 (by decide)) wC_R_at wL_R_22 wT_R_at wX_R 1 (by decide +kernel) rfl ⟨Nat.le_of_ble_eq_true rfl, Nat.le_of_ble_eq_true rfl⟩ ⟨(by dsimp only [rm_]; omega), (by dsimp only [rm_]; omega)⟩ rfl (Nat.le_of_ble_eq_true rfl) dc_R_push_71 (fun v h k_ n_ hq => ?_)
      obtain ⟨rfl, rfl, rfl, rfl⟩ := hq
      show vx_V _ _ _ _ _ _ _ _ _ 74 [(4, .int (nI c)), (0, .ref (q 0)), (1, .int (nI d)), (2, .long (lN b))] [.int (nI (rt 16)), .ref (q 1)]
      refine vx_iconst (v := 4) IG dc_R_push_74 (by decide) ?_
      refine vx_iadd IG dc_R_push_75 ?_
      refine vx_topi (y := nI ((rt 16) + 4)) (nI_add _ _) ?_
      refine vx_iload IG dc_R_push_76 0 rfl ?_
      refine vx_iadd IG dc_R_push_78 ?_
      refine vx_topi (y := nI (((rt 16) + 4) + c)) (nI_add _ _) ?_
      refine vx_aload_n IG dc_R_push_79 rfl 1 rfl ?_
      refine vx_get IG (ro_M LR) rfl 0 (by decide) inR wF_R_8 rfl rfl dc_R_push_80 ?_
      refine vx_iload_n IG dc_R_push_83 rfl 2 rfl ?_
      refine vx_callS (As := [.int (nI d)]) (st := [.ref (q 1), .int (nI (((rt 16) + 4) + c)), .ref (q 1)]) IG lw_good (cR_at _ d (show d < 24 by omega)) wC_R_at wL_R_22 wT_R_at wX_R 1 (by decide +kernel) rfl ⟨Nat.le_of_ble_eq_true rfl, Nat.le_of_ble_eq_true rfl⟩ ⟨(by dsimp only [rm_]; omega), (by dsimp only [rm_]; omega)⟩ rfl (Nat.le_of_ble_eq_true rfl) dc_R_push_84 (fun v h k_ n_ hq => ?_)
      obtain ⟨rfl, rfl, rfl, rfl⟩ := hq
      show vx_V _ _ _ _ _ _ _ _ _ 87 [(4, .int (nI c)), (0, .ref (q 0)), (1, .int (nI d)), (2, .long (lN b))] [.int (nI (rt d)), .ref (q 1), .int (nI (((rt 16) + 4) + c)), .ref (q 1)]
      refine vx_iload IG dc_R_push_87 0 rfl ?_
      refine vx_iadd IG dc_R_push_89 ?_
      refine vx_topi (y := nI ((rt d) + c)) (nI_add _ _) ?_
      refine rr_mld IG LR ht3 (rt_in (by omega) (by rw [rcap_lo hd]; omega)) (x := nI (dg 65536 N (4 + c))) (by rw [h1 _ (fun e => rt_ne (show d ≠ 16 by omega) (by omega) (by decide) (show c < rcap d by rw [rcap_lo hd]; omega) (show rt d + c - rt 16 < rcap 16 by omega) (by omega)), Nat.add_comm 4 c, hhi]; exact Rd.2.2 c (by omega)) dc_R_push_90 ?_
      obtain ⟨u1, u2⟩ := ug_s (f0 := f1) (f2 := f2) (e := dg 65536 N) (d := 16) (c := 4 + c) (by omega) h1 h2
      refine rr_mst IG LR ht3 (by rw [Nat.add_assoc]; exact rt_in (r := 16) (by decide) (by omega)) (f' := upd f2 (rt 16 + (4 + c)) (nI (dg 65536 N (4 + c)))) (by rw [Nat.add_assoc]) dc_R_push_91 ?_
      refine vx_iinc (q := 0) (v := nI (c + 1)) (lv' := [(4, .int (nI (c + 1))), (0, .ref (q 0)), (1, .int (nI d)), (2, .long (lN b))]) IG dc_R_push_92 rfl (nI_1 c) (by decide) rfl ?_
      refine vx_goto (tgt := 54) IG dc_R_push_95 (by decide) ?_
      exact ih (c + 1) _ _ _ (by omega) u1 (fun k hk => u2 k (by omega)) rfl rfl
  have loop1 : ∀ (j c k m : Nat) (f2 : Nat → Int32), c + j = 4 → nd 65536 b ≤ c → (∀ i, ¬ (rt 16 ≤ i ∧ i < rt 16 + rcap 16) → f2 i = f1 i) → (∀ k, k < c → f2 (rt 16 + k) = nI (dg 65536 N k)) → k = 0 → m = 0 → vx_V D vcl A H0 5 G (rH cI cZ q h0 f2 g1 s) k m 25 [(4, .int (nI c)), (0, .ref (q 0)), (1, .int (nI d)), (2, .long (lN b))] [] := by
    intro j
    induction j with
    | zero =>
      intro c k m f2 hc hbc h1 h2 hk hm
      subst hk hm
      obtain rfl : c = 4 := by omega
      refine vx_iload IG dc_R_push_25 0 rfl ?_
      refine vx_iconst (v := 4) IG dc_R_push_27 (by decide) ?_
      refine vx_icmp_ge (tgt := 51) IG dc_R_push_28 (by decide) (fun _ => ?_) (fun c_ => absurd (by decide) c_)
      refine vx_iconst (v := 0) IG dc_R_push_51 (by decide) ?_
      refine vx_istore (lv' := [(4, .int 0), (0, .ref (q 0)), (1, .int (nI d)), (2, .long (lN b))]) IG dc_R_push_52 (by decide) rfl ?_
      exact loop2 _ 0 _ _ f2 (Nat.zero_add _) h1 (fun k hk => h2 k (by omega)) rfl rfl
    | succ j ih =>
      intro c k m f2 hc hbc h1 h2 hk hm
      subst hk hm
      refine vx_iload IG dc_R_push_25 0 rfl ?_
      refine vx_iconst (v := 4) IG dc_R_push_27 (by decide) ?_
      refine vx_icmp_ge (tgt := 51) IG dc_R_push_28 (by decide) (fun c_ => absurd c_ (fun e => absurd (nI_lt (a := c) (b := 4) (by omega) (by decide)) (Int32.not_lt.mpr e))) (fun _ => ?_)
      refine vx_aload_n IG dc_R_push_31 rfl 1 rfl ?_
      refine vx_get IG (ro_M LR) rfl 0 (by decide) inR wF_R_8 rfl rfl dc_R_push_32 ?_
      refine vx_bipush (v := 16) IG dc_R_push_35 (by decide) ?_
      refine vx_callS (As := [.int 16]) (st := [.ref (q 1)]) IG lw_good (cR_at _ 16 (by decide)) wC_R_at wL_R_22 wT_R_at wX_R 1 (by decide +kernel) rfl ⟨Nat.le_of_ble_eq_true rfl, Nat.le_of_ble_eq_true rfl⟩ ⟨(by dsimp only [rm_]; omega), (by dsimp only [rm_]; omega)⟩ rfl (Nat.le_of_ble_eq_true rfl) dc_R_push_37 (fun v h k_ n_ hq => ?_)
      obtain ⟨rfl, rfl, rfl, rfl⟩ := hq
      show vx_V _ _ _ _ _ _ _ _ _ 40 [(4, .int (nI c)), (0, .ref (q 0)), (1, .int (nI d)), (2, .long (lN b))] [.int (nI (rt 16)), .ref (q 1)]
      refine vx_iload IG dc_R_push_40 0 rfl ?_
      refine vx_iadd IG dc_R_push_42 ?_
      refine vx_topi (y := nI ((rt 16) + c)) (nI_add _ _) ?_
      refine vx_iconst (v := 0) IG dc_R_push_43 (by decide) ?_
      obtain ⟨u1, u2⟩ := ug_s (f0 := f1) (f2 := f2) (e := dg 65536 N) (d := 16) (c := c) (by omega) h1 h2
      have e0 : dg 65536 N c = 0 := by rw [hlo c (by omega)]; exact dg_big ((nd_le b16).mp hbc)
      refine rr_mst IG LR ht3 (rt_in (by decide) (by omega)) (f' := upd f2 (rt 16 + c) (nI (dg 65536 N c))) (by rw [e0]; rfl) dc_R_push_44 ?_
      refine vx_iinc (q := 0) (v := nI (c + 1)) (lv' := [(4, .int (nI (c + 1))), (0, .ref (q 0)), (1, .int (nI d)), (2, .long (lN b))]) IG dc_R_push_45 rfl (nI_1 c) (by decide) rfl ?_
      refine vx_goto (tgt := 25) IG dc_R_push_48 (by decide) ?_
      exact ih (c + 1) _ _ _ (by omega) (by omega) u1 u2 rfl rfl
  exact loop1 _ _ _ _ f1 (show nd 65536 b + (4 - nd 65536 b) = 4 by omega) (Nat.le_refl _) (fun _ _ => rfl) (fun k hk => by rw [hlo k (by omega)]; exact R16.2.2 k hk) rfl rfl
end
