/-! the reference: change, logic -/
theorem eD_add {b : Nat} (hb : 1 < b) (x : Int) {k n : Nat} (h : k < n) : eD b (x + ((b ^ n : Nat) : Int)) k = eD b x k := by
  unfold eD
  have hp := bp_pos hb k
  obtain ⟨m, rfl⟩ : ∃ m, n = k + 1 + m := ⟨n - k - 1, by omega⟩
  have e : ((b ^ (k + 1 + m) : Nat) : Int) = ((b ^ k : Nat) : Int) * ((b : Int) * ((b ^ m : Nat) : Int)) := by
    rw [Nat.pow_add, Nat.pow_succ, Int.natCast_mul, Int.natCast_mul, Int.mul_assoc]
  rw [e, Int.add_mul_ediv_left _ _ (by omega), Int.add_mul_emod_self_left]
/-- the digits of what is wanting to a power of the base -/
theorem co_dg {T n k : Nat} (hT : T ≤ 65536 ^ n) (hk : k < n) : dg 65536 (65536 ^ n - T) k = if T % 65536 ^ k = 0 then (65536 - dg 65536 T k) % 65536 else 65535 - dg 65536 T k := by
  have e1 := eD_nat 65536 (65536 ^ n - T) k
  have e2 : ((65536 ^ n - T : Nat) : Int) = -(T : Int) + ((65536 ^ n : Nat) : Int) := by omega
  rw [e2, eD_add b16 _ hk] at e1
  rw [← e1]
  by_cases z : T % 65536 ^ k = 0
  · rw [if_pos z, eD_neg_lo (by decide) z]
  · rw [if_neg z, eD_neg_hi (by decide) z]
theorem co_next {T k : Nat} : T % 65536 ^ (k + 1) = 0 ↔ T % 65536 ^ k = 0 ∧ dg 65536 T k = 0 := by
  rw [md_split]
  have := bp_pos b16 k
  constructor
  · intro h
    have h1 : T % 65536 ^ k = 0 := by omega
    refine ⟨h1, ?_⟩
    rw [h1, Nat.zero_add] at h
    rcases Nat.mul_eq_zero.mp h with e | e
    · omega
    · exact e
  · intro h
    rw [h.1, h.2, Nat.mul_zero]
theorem nar_kpV (z : Int) : narrow .boolean (.int (kpV z)) = .int (kpV z) := by unfold kpV; split <;> rfl
section
variable {l : Launch} {D : va_G} {tys : List (ClassId × FieldType)} {cI cZ : ClassId} {q : Nat → Nat} {h0 : vx_h} {f g s f' g' : Nat → Int32} {V : Nat → Nat} {X : Nat → Int} {a b d r u N M sz U W : Nat} {w w2 : Int32} {z : Int}
set_option maxRecDepth 100000 in
set_option maxHeartbeats 8000000 in
theorem cR_change (LR : rlay q h0) (ht2 : tys[2]? = some (cZ, .boolean)) (ht3 : tys[3]? = some (cI, .int)) (HP : rpic f g V) (HX : mreg X V s) (r1 r2 p how : Int32) : vx_M l D vcl tys my_R_change lw_gd (rm_ 4 0 0 96) [.ref (q 0), .int r1, .int r2, .int p, .int how] (rH cI cZ q h0 f g s) (rpub cI cZ q h0 (sp2 0 X (chF X p how) r1 r2).2 (sp2 0 X (chF X p how) r1 r2).1) := by
  refine vx_M.ofV (cc := bc_R_change) (maxL := 7) (ret := (some .boolean)) (own := rR) false rfl (by decide +kernel) wC_R_change (fun q => by cases q) (Nat.le_of_ble_eq_true rfl) (fun A H0 G IG RG => ?_)
  show vx_V _ _ _ _ _ _ _ _ _ 0 [(0, .ref (q 0)), (1, .int r1), (2, .int r2), (3, .int p), (4, .int how)] []
  refine vx_iload_n IG dc_R_change_0 rfl 1 rfl ?_
  refine vx_callS (As := [.int r1]) (st := []) IG lw_good (cR_is _ r1) wC_R_is wL_R_67 wT_R_is wX_R 1 (by decide +kernel) rfl ⟨Nat.le_of_ble_eq_true rfl, Nat.le_of_ble_eq_true rfl⟩ ⟨(by dsimp only [rm_]; omega), (by dsimp only [rm_]; omega)⟩ rfl (Nat.le_of_ble_eq_true rfl) dc_R_change_1 (fun v h k_ n_ hq => ?_)
  obtain ⟨rfl, rfl, rfl, rfl⟩ := hq
  show vx_V _ _ _ _ _ _ _ _ _ 4 [(0, .ref (q 0)), (1, .int r1), (2, .int r2), (3, .int p), (4, .int how)] [.int (if isR r1 then 1 else 0)]
  by_cases z0 : ¬ isR r1
  · refine vx_topi (y := 0) (if_neg z0) ?_
    refine vx_if_eq (tgt := 29) IG dc_R_change_4 (by decide) (fun _ => ?_) (fun c_ => absurd rfl c_)
    refine vx_iconst (v := 0) IG dc_R_change_29 (by decide) ?_
    refine vx_ret (some (.int 0)) RG (vx_endi (by first | rfl | decide) dc_R_change_30) rfl ?_
    rw [sp2_no (fun e => z0 e.1)]
    exact ⟨rfl, rfl, rfl, f, g, s, V, rfl, HP, HX⟩
  replace z0 := Decidable.not_not.mp z0
  refine vx_topi (y := 1) (if_pos z0) ?_
  refine vx_if_eq (tgt := 29) IG dc_R_change_4 (by decide) (fun c_ => absurd c_ (by decide)) (fun _ => ?_)
  refine vx_iload_n IG dc_R_change_7 rfl 2 rfl ?_
  refine vx_callS (As := [.int r2]) (st := []) IG lw_good (cR_is _ r2) wC_R_is wL_R_67 wT_R_is wX_R 1 (by decide +kernel) rfl ⟨Nat.le_of_ble_eq_true rfl, Nat.le_of_ble_eq_true rfl⟩ ⟨(by dsimp only [rm_]; omega), (by dsimp only [rm_]; omega)⟩ rfl (Nat.le_of_ble_eq_true rfl) dc_R_change_8 (fun v h k_ n_ hq => ?_)
  obtain ⟨rfl, rfl, rfl, rfl⟩ := hq
  show vx_V _ _ _ _ _ _ _ _ _ 11 [(0, .ref (q 0)), (1, .int r1), (2, .int r2), (3, .int p), (4, .int how)] [.int (if isR r2 then 1 else 0)]
  by_cases z1 : ¬ isR r2
  · refine vx_topi (y := 0) (if_neg z1) ?_
    refine vx_if_eq (tgt := 29) IG dc_R_change_11 (by decide) (fun _ => ?_) (fun c_ => absurd rfl c_)
    refine vx_iconst (v := 0) IG dc_R_change_29 (by decide) ?_
    refine vx_ret (some (.int 0)) RG (vx_endi (by first | rfl | decide) dc_R_change_30) rfl ?_
    rw [sp2_no (fun e => z1 e.2)]
    exact ⟨rfl, rfl, rfl, f, g, s, V, rfl, HP, HX⟩
  replace z1 := Decidable.not_not.mp z1
  refine vx_topi (y := 1) (if_pos z1) ?_
  refine vx_if_eq (tgt := 29) IG dc_R_change_11 (by decide) (fun c_ => absurd c_ (by decide)) (fun _ => ?_)
  obtain ⟨d, hd, rfl⟩ := isR_of z0
  obtain ⟨a, ha, rfl⟩ := isR_of z1
  have Rd := reg_rv HP HX hd
  have Bd := (HX d hd).2
  have Ld := reg_cap HP HX hd
  have Ra := reg_rv HP HX ha
  have Ba := (HX a ha).2
  have La := reg_cap HP HX ha
  rw [sp2_ok hd ha] at RG
  unfold chF at RG
  have i0 : (0 : Int32).toInt = 0 := rfl
  have i2 : (2 : Int32).toInt = 2 := rfl
  have c8 : ∀ r, 16 ≤ r → rcap r = 8200 := fun r hr => rcap_hi hr
  refine vx_iload_n IG dc_R_change_14 rfl 3 rfl ?_
  by_cases y : p < 0
  · refine vx_if_lt (tgt := 29) IG dc_R_change_15 (by decide) (fun _ => ?_) (fun c_ => absurd y c_)
    refine vx_iconst (v := 0) IG dc_R_change_29 (by decide) ?_
    refine vx_ret (some (.int 0)) RG (vx_endi (by first | rfl | decide) dc_R_change_30) rfl ?_
    rw [if_neg (fun e => by have := Int32.lt_iff_toInt_lt.mp y; omega)]
    exact ⟨rfl, rfl, rfl, f, g, s, V, rfl, HP, HX⟩
  · refine vx_if_lt (tgt := 29) IG dc_R_change_15 (by decide) (fun c_ => absurd c_ y) (fun _ => ?_)
    refine vx_iload IG dc_R_change_18 4 rfl ?_
    by_cases y1 : how < 0
    · refine vx_if_lt (tgt := 29) IG dc_R_change_20 (by decide) (fun _ => ?_) (fun c_ => absurd y1 c_)
      refine vx_iconst (v := 0) IG dc_R_change_29 (by decide) ?_
      refine vx_ret (some (.int 0)) RG (vx_endi (by first | rfl | decide) dc_R_change_30) rfl ?_
      rw [if_neg (fun e => by have := Int32.lt_iff_toInt_lt.mp y1; omega)]
      exact ⟨rfl, rfl, rfl, f, g, s, V, rfl, HP, HX⟩
    · refine vx_if_lt (tgt := 29) IG dc_R_change_20 (by decide) (fun c_ => absurd c_ y1) (fun _ => ?_)
      refine vx_iload IG dc_R_change_23 4 rfl ?_
      refine vx_iconst (v := 2) IG dc_R_change_25 (by decide) ?_
      by_cases y2 : how ≤ 2
      · refine vx_icmp_le (tgt := 31) IG dc_R_change_26 (by decide) (fun _ => ?_) (fun c_ => absurd y2 c_)
        rw [Int32.lt_iff_toInt_lt, i0] at y y1
        rw [Int32.le_iff_toInt_le, i2] at y2
        obtain ⟨k0, hk0, rfl⟩ := i32_pos (x := p) (by omega)
        obtain ⟨hw, hhw, rfl⟩ := i32_pos (x := how) (by omega)
        rw [nI_toInt hk0] at y
        rw [nI_toInt hhw] at y1 y2
        rw [nI_toInt hk0, nI_toInt hhw, nI_clamp hk0, if_pos ⟨by omega, by omega, by omega⟩] at RG
        have h01 := tB_lt (X a) k0
        refine vx_aload_n IG dc_R_change_31 rfl 0 rfl ?_
        refine vx_iload_n IG dc_R_change_32 rfl 2 rfl ?_
        refine vx_iload_n IG dc_R_change_33 rfl 3 rfl ?_
        refine vx_callV (As := [.int (nI a), .int (nI k0)]) (st := []) IG lw_good (cR_bitAt LR ht2 ht3 Ra Ba ha hk0) (ro_M LR) rfl wC_R_bitAt wL_R_108 wI_R_bitAt wS_R_bitAt wX_R 2 (by decide +kernel) rfl ⟨Nat.le_of_ble_eq_true rfl, Nat.le_of_ble_eq_true rfl⟩ ⟨(by dsimp only [rm_]; omega), (by dsimp only [rm_]; omega)⟩ rfl (Nat.le_of_ble_eq_true rfl) dc_R_change_34 (fun v h k_ n_ hq => ?_)
        obtain ⟨rfl, rfl, rfl, rfl⟩ := hq
        show vx_V _ _ _ _ _ _ _ _ _ 37 [(0, .ref (q 0)), (1, .int (nI d)), (2, .int (nI a)), (3, .int (nI k0)), (4, .int (nI hw))] [.int (nI (tB (X a) k0))]
        have main : ∀ (due k n : Nat), due < 2 → (due = tB (X a) k0 ↔ hw = tB (X a) k0) → k = 0 → n = 0 → vx_V D vcl A H0 7 G (rH cI cZ q h0 f g s) k n 54 [(5, .int (nI (tB (X a) k0))), (0, .ref (q 0)), (1, .int (nI d)), (2, .int (nI a)), (3, .int (nI k0)), (4, .int (nI hw))] [.int (nI due)] := by
          intro due k n hdue hiff hk hn
          subst hk hn
          refine vx_istore (lv' := [(6, .int (nI due)), (5, .int (nI (tB (X a) k0))), (0, .ref (q 0)), (1, .int (nI d)), (2, .int (nI a)), (3, .int (nI k0)), (4, .int (nI hw))]) IG dc_R_change_54 (by decide) rfl ?_
          refine vx_aload_n IG dc_R_change_56 rfl 2 rfl ?_
          refine vx_bipush (v := 20) IG dc_R_change_57 (by decide) ?_
          refine vx_iload_n IG dc_R_change_59 rfl 4 rfl ?_
          refine vx_callV (As := [.int 20, .int (nI a)]) (st := []) IG lw_good (cR_move LR ht2 ht3 Ra (d := 20) (by decide) (by omega) (by omega) (by rw [c8 _ (by decide)]; omega)) (ro_M LR) rfl wC_R_move wL_R_64 wI_R_move wS_R_move wX_R 2 (by decide +kernel) rfl ⟨Nat.le_of_ble_eq_true rfl, Nat.le_of_ble_eq_true rfl⟩ ⟨(by dsimp only [rm_]; omega), (by dsimp only [rm_]; omega)⟩ rfl (Nat.le_of_ble_eq_true rfl) dc_R_change_60 (fun v h k_ n_ hq => ?_)
          obtain ⟨rfl, rfl, rfl, f1, g1, rfl, S1⟩ := hq
          obtain ⟨HP, HX⟩ := rp_up HP HX (show 16 ≤ 20 by decide) (show 20 < 24 by decide) S1
          show vx_V _ _ _ _ _ _ _ _ _ 63 [(6, .int (nI due)), (5, .int (nI (tB (X a) k0))), (0, .ref (q 0)), (1, .int (nI d)), (2, .int (nI a)), (3, .int (nI k0)), (4, .int (nI hw))] []
          refine vx_iload IG dc_R_change_63 0 rfl ?_
          refine vx_iload IG dc_R_change_65 1 rfl ?_
          by_cases v : due = tB (X a) k0
          · refine vx_icmp_ne (tgt := 84) IG dc_R_change_67 (by decide) (fun c_ => absurd (by rw [v]) c_) (fun _ => ?_)
            rw [if_pos (by have := hiff.mp v; omega)] at RG
            refine vx_aload_n IG dc_R_change_70 rfl 2 rfl ?_
            refine vx_iload_n IG dc_R_change_71 rfl 3 rfl ?_
            refine vx_bipush (v := 20) IG dc_R_change_72 (by decide) ?_
            refine vx_aload_n IG dc_R_change_74 rfl 2 rfl ?_
            refine vx_get IG (ro_M LR) rfl 2 (by decide) inR wF_R_17 rfl rfl dc_R_change_75 ?_
            refine vx_iload_n IG dc_R_change_78 rfl 4 rfl ?_
            refine rr_zld IG LR ht2 ha (x := sgI (X a)) Ba dc_R_change_79 ?_
            refine vx_callV (As := [.int (nI d), .int 20, .int (sgI (X a))]) (st := []) IG lw_good (cR_st LR ht2 ht3 HP HX hd (a := 20) (z := X a) (by decide) (by decide) (sgI_01 (X a)) rfl (kz_sg (X a))) (ro_M LR) rfl wC_R_store wL_R_75 wI_R_store wS_R_store wX_R 3 (by decide +kernel) rfl ⟨Nat.le_of_ble_eq_true rfl, Nat.le_of_ble_eq_true rfl⟩ ⟨(by dsimp only [rm_]; omega), (by dsimp only [rm_]; omega)⟩ rfl (Nat.le_of_ble_eq_true rfl) dc_R_change_80 (fun v h k_ n_ hq => ?_)
            obtain ⟨rfl, rfl, rfl, f9, g9, s9, V9, rfl, P9, X9⟩ := hq
            show vx_V _ _ _ _ _ _ _ _ _ 83 [(6, .int (nI due)), (5, .int (nI (tB (X a) k0))), (0, .ref (q 0)), (1, .int (nI d)), (2, .int (nI a)), (3, .int (nI k0)), (4, .int (nI hw))] [.int (kpV (X a))]
            refine vx_ret (some (.int (kpV (X a)))) RG (vx_endi (by unfold kpV; split <;> rfl) dc_R_change_83) rfl ?_
            exact ⟨rfl, rfl, rfl, f9, g9, s9, V9, rfl, P9, X9⟩
          · refine vx_icmp_ne (tgt := 84) IG dc_R_change_67 (by decide) (fun _ => ?_) (fun c_ => absurd c_ (nI_ne (by omega) (by omega) v))
            rw [if_neg (fun e => v (hiff.mpr (by omega)))] at RG
            refine vx_iload_n IG dc_R_change_84 rfl 5 rfl ?_
            refine vx_ldc (v := 65536) IG wK_R_21 dc_R_change_85 ?_
            by_cases u : k0 < 65536
            · refine vx_icmp_lt (tgt := 92) IG dc_R_change_87 (by decide) (fun _ => ?_) (fun c_ => absurd (nI_lt (b := 65536) u (by decide)) c_)
              rw [if_neg (by omega)] at RG
              unfold chZ at RG
              refine vx_aload_n IG dc_R_change_92 rfl 2 rfl ?_
              refine vx_bipush (v := 17) IG dc_R_change_93 (by decide) ?_
              refine vx_lconst (v := 1) IG dc_R_change_95 (by decide) ?_
              refine vx_callV (As := [.int 17, .long 1]) (st := []) IG lw_good (cR_set LR ht2 ht3 (d := 17) (b := 1) (by decide) (by decide)) (ro_M LR) rfl wC_R_set wL_R_71 wI_R_set wS_R_set wX_R 2 (by decide +kernel) rfl ⟨Nat.le_of_ble_eq_true rfl, Nat.le_of_ble_eq_true rfl⟩ ⟨(by dsimp only [rm_]; omega), (by dsimp only [rm_]; omega)⟩ rfl (Nat.le_of_ble_eq_true rfl) dc_R_change_96 (fun v h k_ n_ hq => ?_)
              obtain ⟨rfl, rfl, rfl, f2, g2, rfl, S2⟩ := hq
              obtain ⟨HP, HX⟩ := rp_up HP HX (show 16 ≤ 17 by decide) (show 17 < 24 by decide) S2
              show vx_V _ _ _ _ _ _ _ _ _ 99 [(6, .int (nI due)), (5, .int (nI (tB (X a) k0))), (0, .ref (q 0)), (1, .int (nI d)), (2, .int (nI a)), (3, .int (nI k0)), (4, .int (nI hw))] []
              have R17 := S2.2.2
              have n1 : nd 65536 1 = 1 := rfl
              refine vx_aload_n IG dc_R_change_99 rfl 2 rfl ?_
              refine vx_bipush (v := 18) IG dc_R_change_100 (by decide) ?_
              refine vx_bipush (v := 17) IG dc_R_change_102 (by decide) ?_
              refine vx_iload_n IG dc_R_change_104 rfl 5 rfl ?_
              refine vx_callV (As := [.int 18, .int 17, .int (nI k0)]) (st := []) IG lw_good (cR_raise LR ht2 ht3 R17 (d := 18) (by decide) (by decide) (by decide) hk0 (by rw [c8 _ (by decide), n1]; omega)) (ro_M LR) rfl wC_R_raise wL_R_105 wI_R_raise wS_R_raise wX_R 3 (by decide +kernel) rfl ⟨Nat.le_of_ble_eq_true rfl, Nat.le_of_ble_eq_true rfl⟩ ⟨(by dsimp only [rm_]; omega), (by dsimp only [rm_]; omega)⟩ rfl (Nat.le_of_ble_eq_true rfl) dc_R_change_105 (fun v h k_ n_ hq => ?_)
              rw [Nat.one_mul] at hq
              obtain ⟨rfl, rfl, rfl, f3, g3, rfl, S3⟩ := hq
              obtain ⟨HP, HX⟩ := rp_up HP HX (show 16 ≤ 18 by decide) (show 18 < 24 by decide) S3
              show vx_V _ _ _ _ _ _ _ _ _ 108 [(6, .int (nI due)), (5, .int (nI (tB (X a) k0))), (0, .ref (q 0)), (1, .int (nI d)), (2, .int (nI a)), (3, .int (nI k0)), (4, .int (nI hw))] []
              have R18 := S3.2.2
              have R20 : rv f3 g3 20 (X a).natAbs := rvN HP (show 20 < 24 by decide) rfl
              have l18 : nd 65536 (2 ^ k0) ≤ 4096 := (nd_le b16).mpr (by
                rw [show (65536 : Nat) ^ 4096 = 2 ^ 65536 by rw [show (65536 : Nat) ^ 4096 = (2 ^ 16) ^ 4096 from rfl, ← Nat.pow_mul]]
                exact Nat.pow_lt_pow_right (by decide) u)
              refine vx_aload_n IG dc_R_change_108 rfl 2 rfl ?_
              refine vx_iload_n IG dc_R_change_109 rfl 3 rfl ?_
              refine vx_bipush (v := 20) IG dc_R_change_110 (by decide) ?_
              refine vx_aload_n IG dc_R_change_112 rfl 2 rfl ?_
              refine vx_get IG (ro_M LR) rfl 2 (by decide) inR wF_R_17 rfl rfl dc_R_change_113 ?_
              refine vx_iload_n IG dc_R_change_116 rfl 4 rfl ?_
              refine rr_zld IG LR ht2 ha (x := sgI (X a)) Ba dc_R_change_117 ?_
              refine vx_bipush (v := 18) IG dc_R_change_118 (by decide) ?_
              refine vx_iload IG dc_R_change_120 0 rfl ?_
              have fin : ∀ (x : Int32) (k n : Nat), (x = 0 ∨ x = 1) → kz x (2 ^ k0) = (if tB (X a) k0 = 1 then -((2 ^ k0 : Nat) : Int) else ((2 ^ k0 : Nat) : Int)) → k = 0 → n = 0 → vx_V D vcl A H0 7 G (rH cI cZ q h0 f3 g3 s) k n 130 [(6, .int (nI due)), (5, .int (nI (tB (X a) k0))), (0, .ref (q 0)), (1, .int (nI d)), (2, .int (nI a)), (3, .int (nI k0)), (4, .int (nI hw))] [.int x, .int 18, .int (sgI (X a)), .int 20, .int (nI d), .ref (q 0)] := by
                intro x k n hx ex hk hn
                subst hk hn
                refine vx_callV (As := [.int (nI d), .int 20, .int (sgI (X a)), .int 18, .int x]) (st := []) IG lw_good (cR_added LR ht2 ht3 HP HX hd (a := 20) (b := 18) (by decide) (by decide) R20 R18 (by omega) (by omega) (sgI_01 (X a)) hx) (ro_M LR) rfl wC_R_added wL_R_82 wI_R_added wS_R_added wX_R 5 (by decide +kernel) rfl ⟨Nat.le_of_ble_eq_true rfl, Nat.le_of_ble_eq_true rfl⟩ ⟨(by dsimp only [rm_]; omega), (by dsimp only [rm_]; omega)⟩ rfl (Nat.le_of_ble_eq_true rfl) dc_R_change_130 (fun v h k_ n_ hq => ?_)
                rw [kz_sg, ex] at hq
                obtain ⟨rfl, rfl, rfl, f9, g9, s9, V9, rfl, P9, X9⟩ := hq
                show vx_V _ _ _ _ _ _ _ _ _ 133 [(6, .int (nI due)), (5, .int (nI (tB (X a) k0))), (0, .ref (q 0)), (1, .int (nI d)), (2, .int (nI a)), (3, .int (nI k0)), (4, .int (nI hw))] [.int (kpV (X a + (if tB (X a) k0 = 1 then -((2 ^ k0 : Nat) : Int) else ((2 ^ k0 : Nat) : Int))))]
                refine vx_ret (some (.int (kpV (X a + (if tB (X a) k0 = 1 then -((2 ^ k0 : Nat) : Int) else ((2 ^ k0 : Nat) : Int)))))) RG (vx_endi (nar_kpV _) dc_R_change_133) rfl ?_
                exact ⟨rfl, rfl, rfl, f9, g9, s9, V9, rfl, P9, X9⟩
              by_cases t : due = 0
              · refine vx_if_ne (tgt := 129) IG dc_R_change_122 (by decide) (fun c_ => absurd (by rw [t]; rfl) c_) (fun _ => ?_)
                refine vx_iconst (v := 1) IG dc_R_change_125 (by decide) ?_
                refine vx_goto (tgt := 130) IG dc_R_change_126 (by decide) ?_
                exact fin 1 _ _ (Or.inr rfl) (by rw [kz_1, if_pos (by omega)]) rfl rfl
              · refine vx_if_ne (tgt := 129) IG dc_R_change_122 (by decide) (fun _ => ?_) (fun c_ => absurd c_ (nI_ne (by omega) (b := 0) (by decide) t))
                refine vx_iconst (v := 0) IG dc_R_change_129 (by decide) ?_
                exact fin 0 _ _ (Or.inl rfl) (by rw [kz_0, if_neg (by omega)]) rfl rfl
            · refine vx_icmp_lt (tgt := 92) IG dc_R_change_87 (by decide) (fun c_ => absurd c_ (nI_ge2 (b := 65536) (by omega) hk0)) (fun _ => ?_)
              rw [if_pos (by omega)] at RG
              refine vx_iconst (v := 0) IG dc_R_change_90 (by decide) ?_
              refine vx_ret (some (.int 0)) RG (vx_endi (by first | rfl | decide) dc_R_change_91) rfl ?_
              exact ⟨rfl, rfl, rfl, f1, g1, s, _, rfl, HP, HX⟩
        refine vx_istore (lv' := [(5, .int (nI (tB (X a) k0))), (0, .ref (q 0)), (1, .int (nI d)), (2, .int (nI a)), (3, .int (nI k0)), (4, .int (nI hw))]) IG dc_R_change_37 (by decide) rfl ?_
        refine vx_iload IG dc_R_change_39 5 rfl ?_
        refine vx_iconst (v := 2) IG dc_R_change_41 (by decide) ?_
        by_cases v : hw = 2
        · refine vx_icmp_ne (tgt := 52) IG dc_R_change_42 (by decide) (fun c_ => absurd (by rw [v]; rfl) c_) (fun _ => ?_)
          refine vx_iconst (v := 1) IG dc_R_change_45 (by decide) ?_
          refine vx_iload IG dc_R_change_46 0 rfl ?_
          refine vx_isub IG dc_R_change_48 ?_
          refine vx_topi (y := nI (1 - tB (X a) k0)) (pk_sub (a := 1) (by omega)) ?_
          refine vx_goto (tgt := 54) IG dc_R_change_49 (by decide) ?_
          exact main _ _ _ (by omega) ⟨fun e => by omega, fun e => by omega⟩ rfl rfl
        · refine vx_icmp_ne (tgt := 52) IG dc_R_change_42 (by decide) (fun _ => ?_) (fun c_ => absurd c_ (nI_ne (by omega) (b := 2) (by decide) v))
          refine vx_iload IG dc_R_change_52 5 rfl ?_
          exact main _ _ _ (by omega) Iff.rfl rfl rfl
      · refine vx_icmp_le (tgt := 31) IG dc_R_change_26 (by decide) (fun c_ => absurd c_ y2) (fun _ => ?_)
        refine vx_iconst (v := 0) IG dc_R_change_29 (by decide) ?_
        refine vx_ret (some (.int 0)) RG (vx_endi (by first | rfl | decide) dc_R_change_30) rfl ?_
        rw [if_neg (fun e => y2 (by rw [Int32.le_iff_toInt_le, i2]; exact e.2.2))]
        exact ⟨rfl, rfl, rfl, f, g, s, V, rfl, HP, HX⟩
end
