/-! the mill: modulus, inverse, power, modulo -/
/-- a register that may be a modulus -/
abbrev isMd (X : Nat → Int) (r : Int32) : Prop := isR r ∧ 0 < X r.toNatClampNeg
theorem bl_mul {A B n : Nat} (h : bl A + bl B ≤ n) : bl (A * B) ≤ n := by
  rw [bl_le]
  have h1 := lt_bl A
  have h2 := lt_bl B
  refine Nat.lt_of_lt_of_le (Nat.mul_lt_mul'' h1 h2) ?_
  rw [← Nat.pow_add]
  exact Nat.pow_le_pow_right (by decide) h
theorem nd_bl {N n : Nat} (h : bl N ≤ 32 * n) : nd 4294967296 N ≤ n := by
  rw [nd_le bB1, show (4294967296 : Nat) = 2 ^ 32 from rfl, ← Nat.pow_mul]
  exact bl_le.mp h
theorem neg_pw (y : Int) : ∀ n : Nat, (-y) ^ n = if n % 2 = 0 then y ^ n else -(y ^ n)
  | 0 => by rw [if_pos rfl, Int.pow_zero, Int.pow_zero]
  | n + 1 => by
    rw [Int.pow_succ, neg_pw y n, Int.pow_succ]
    by_cases z : n % 2 = 0
    · rw [if_pos z, if_neg (by omega), Int.mul_neg]
    · rw [if_neg z, if_pos (by omega), Int.mul_neg, Int.neg_mul, Int.neg_neg]
theorem kz_pw1 {x : Int} {n : Nat} (hx : x < 0) (hn : n % 2 = 1) : kz 1 (x.natAbs ^ n) = x ^ n := by
  rw [kz_1, Int.natCast_pow]
  have h := neg_pw (x.natAbs : Int) n
  rw [if_neg (by omega), show -(x.natAbs : Int) = x by omega] at h
  exact h.symm
theorem kz_pw0 {x : Int} {n : Nat} (h0 : ¬ (x < 0 ∧ n % 2 = 1)) : kz 0 (x.natAbs ^ n) = x ^ n := by
  rw [kz_0, Int.natCast_pow]
  by_cases hx : x < 0
  · have h := neg_pw (x.natAbs : Int) n
    rw [if_pos (by omega), show -(x.natAbs : Int) = x by omega] at h
    exact h.symm
  · rw [show (x.natAbs : Int) = x by omega]
def pwF (X : Nat → Int) (n : Int32) (d a : Nat) : Int32 × (Nat → Int) := if 0 ≤ n.toInt then kp X d (X a ^ n.toInt.toNat) else (0, X)
noncomputable def ivF (X : Nat → Int) (d a m : Nat) : Int32 × (Nat → Int) := if 0 < X m then (match ivO (X a) (X m).natAbs with | some z => kp X d (z : Int) | none => (0, X)) else (0, X)
noncomputable def mdG (X : Nat → Int) (d a e m : Nat) : Int32 × (Nat → Int) := if 0 ≤ X e then kp X d ((rdz (X a) (X m).natAbs ^ (X e).natAbs % (X m).natAbs : Nat) : Int) else match ivO (X a) (X m).natAbs with | some z => kp X d ((z ^ (X e).natAbs % (X m).natAbs : Nat) : Int) | none => (0, X)
noncomputable def mdF (X : Nat → Int) (d a e m : Nat) : Int32 × (Nat → Int) := if 0 < X m then (if bl (X e).natAbs * bl (X m).natAbs * bl (X m).natAbs ≤ 4294967296 then mdG X d a e m else (0, X)) else (0, X)
theorem mdG_p {X : Nat → Int} {d a e m : Nat} (h : 0 ≤ X e) : mdG X d a e m = kp X d ((rdz (X a) (X m).natAbs ^ (X e).natAbs % (X m).natAbs : Nat) : Int) := if_pos h
theorem mdG_s {X : Nat → Int} {d a e m z : Nat} (h : ¬ 0 ≤ X e) (hi : ivO (X a) (X m).natAbs = some z) : mdG X d a e m = kp X d ((z ^ (X e).natAbs % (X m).natAbs : Nat) : Int) := by
  unfold mdG
  rw [if_neg h, hi]
theorem mdG_n {X : Nat → Int} {d a e m : Nat} (h : ¬ 0 ≤ X e) (hi : ivO (X a) (X m).natAbs = none) : mdG X d a e m = (0, X) := by
  unfold mdG
  rw [if_neg h, hi]
section
variable {l : Launch} {D : va_G} {tys : List (ClassId × FieldType)} {cJ cQ cZ : ClassId} {ad : Nat → Nat} {r0 h : vx_h} {W : Nat → Nat} {X : Nat → Int} {C S : Nat} {a b d e m : Nat} {w : Int32}
set_option maxRecDepth 100000 in
set_option maxHeartbeats 4000000 in
theorem cM_isModulus (LY : lay cQ ad r0) (HM : mw cJ cZ ad r0 W X h C S) (ht1 : tys[1]? = some (cQ, .object "SignedMill$Whole")) (ht2 : tys[2]? = some (cZ, .boolean)) (r : Int32) : vx_M l D vcl tys my_M_isModulus lw_gd (rm_ 1 0 0 21) [.ref (ad 30), .int r] h (fun v h' k n => v = some (.int (if isMd X r then 1 else 0)) ∧ h' = h ∧ k = 0 ∧ n = 0) := by
  refine vx_M.ofV (cc := bc_M_isModulus) (maxL := 2) (ret := some .boolean) (own := rM) false rfl (by decide +kernel) wC_M_isModulus (fun q => by cases q) (Nat.le_of_ble_eq_true rfl) (fun A H0 G IG RG => ?_)
  show vx_V _ _ _ _ _ _ _ _ _ 0 [(0, .ref (ad 30)), (1, .int r)] []
  refine vx_iload_n IG dc_M_isModulus_0 rfl 1 rfl ?_
  refine vx_callS (As := [.int r]) (st := []) IG lw_good (cM_isRegister _ r) wC_M_isRegister wL_M_44 wT_M_isRegister wX_M 1 (by decide +kernel) rfl ⟨Nat.le_of_ble_eq_true rfl, Nat.le_of_ble_eq_true rfl⟩ ⟨(by dsimp only [rm_]; omega), (by dsimp only [rm_]; omega)⟩ rfl (Nat.le_of_ble_eq_true rfl) dc_M_isModulus_1 (fun v h k1 n1 hq => ?_)
  obtain ⟨rfl, rfl, rfl, rfl⟩ := hq
  show vx_V _ _ _ _ _ _ _ _ _ 4 [(0, .ref (ad 30)), (1, .int r)] [.int (if isR r then 1 else 0)]
  by_cases z : isR r
  · refine vx_topi (y := 1) (if_pos z) ?_
    refine vx_if_eq (tgt := 32) IG dc_M_isModulus_4 (by decide) (fun c_ => absurd c_ (by decide)) (fun _ => ?_)
    obtain ⟨m, hm, rfl⟩ := isR_of z
    have hW := mw_W HM hm
    have hmd : isMd X (nI m) ↔ 0 < X m := by
      unfold isMd
      rw [nI_clamp (by omega)]
      exact ⟨fun q => q.2, fun q => ⟨z, q⟩⟩
    refine vx_aload_n IG dc_M_isModulus_7 rfl 0 rfl ?_
    refine vx_get IG (mo_M LY HM) rfl 1 (by decide) inM wF_M_15 rfl rfl dc_M_isModulus_8 ?_
    refine vx_iload_n IG dc_M_isModulus_11 rfl 1 rfl ?_
    refine mr_zal IG LY HM hm ht2 dc_M_isModulus_12 ?_
    by_cases y : X m < 0
    · refine vx_if_ne (tgt := 32) IG dc_M_isModulus_13 (by decide) (fun _ => ?_) (fun c_ => absurd c_ (by rw [sgI_neg y]; decide))
      refine vx_iconst (v := 0) IG dc_M_isModulus_32 (by decide) ?_
      refine vx_ret (some (.int 0)) RG (vx_endi (by first | rfl | decide) dc_M_isModulus_33) rfl ?_
      exact ⟨by rw [if_neg (fun q => by have := hmd.mp q; omega)], rfl, rfl, rfl⟩
    · refine vx_if_ne (tgt := 32) IG dc_M_isModulus_13 (by decide) (fun c_ => absurd (sgI_pos y) c_) (fun _ => ?_)
      refine vx_aload_n IG dc_M_isModulus_16 rfl 0 rfl ?_
      refine vx_get IG (mo_M LY HM) rfl 0 (by decide) inM wF_M_11 rfl rfl dc_M_isModulus_17 ?_
      refine vx_iload_n IG dc_M_isModulus_20 rfl 1 rfl ?_
      refine mr_aal IG LY HM hm ht1 dc_M_isModulus_21 ?_
      refine vx_callV (As := []) (st := []) IG lw_good (mW_isZero HM m (by omega)) ((mo_W HM (show m < 30 by omega)).choose_spec) rfl wC_W_isZero wL_M_89 wI_W_isZero wS_W_isZero wX_W 0 (by decide +kernel) rfl ⟨Nat.le_of_ble_eq_true rfl, Nat.le_of_ble_eq_true rfl⟩ ⟨(by dsimp only [rm_]; omega), (by dsimp only [rm_]; omega)⟩ rfl (Nat.le_of_ble_eq_true rfl) dc_M_isModulus_22 (fun v h k2 n2 hq => ?_)
      obtain ⟨rfl, rfl, rfl, rfl⟩ := hq
      show vx_V _ _ _ _ _ _ _ _ _ 25 [(0, .ref (ad 30)), (1, .int (nI m))] [.int (if W m = 0 then 1 else 0)]
      by_cases x : W m = 0
      · refine vx_topi (y := 1) (if_pos x) ?_
        refine vx_if_ne (tgt := 32) IG dc_M_isModulus_25 (by decide) (fun _ => ?_) (fun c_ => absurd c_ (by decide))
        refine vx_iconst (v := 0) IG dc_M_isModulus_32 (by decide) ?_
        refine vx_ret (some (.int 0)) RG (vx_endi (by first | rfl | decide) dc_M_isModulus_33) rfl ?_
        exact ⟨by rw [if_neg (fun q => by have := hmd.mp q; omega)], rfl, rfl, rfl⟩
      · refine vx_topi (y := 0) (if_neg x) ?_
        refine vx_if_ne (tgt := 32) IG dc_M_isModulus_25 (by decide) (fun c_ => absurd rfl c_) (fun _ => ?_)
        refine vx_iconst (v := 1) IG dc_M_isModulus_28 (by decide) ?_
        refine vx_goto (tgt := 33) IG dc_M_isModulus_29 (by decide) ?_
        refine vx_ret (some (.int 1)) RG (vx_endi (by first | rfl | decide) dc_M_isModulus_33) rfl ?_
        exact ⟨by rw [if_pos (hmd.mpr (by omega))], rfl, rfl, rfl⟩
  · refine vx_topi (y := 0) (if_neg z) ?_
    refine vx_if_eq (tgt := 32) IG dc_M_isModulus_4 (by decide) (fun _ => ?_) (fun c_ => absurd rfl c_)
    refine vx_iconst (v := 0) IG dc_M_isModulus_32 (by decide) ?_
    refine vx_ret (some (.int 0)) RG (vx_endi (by first | rfl | decide) dc_M_isModulus_33) rfl ?_
    exact ⟨by rw [if_neg (fun q => z q.1)], rfl, rfl, rfl⟩
set_option maxRecDepth 100000 in
set_option maxHeartbeats 4000000 in
theorem cM_reduce (LY : lay cQ ad r0) (HM : mw cJ cZ ad r0 W X h C S) (ha : a < 16) (hm : m < 16) (hp : 0 < X m) (ht : tys[0]? = some (cJ, .long)) (ht1 : tys[1]? = some (cQ, .object "SignedMill$Whole")) (ht2 : tys[2]? = some (cZ, .boolean)) : vx_M l D vcl tys my_M_reduce lw_gd (rm_ 5 C S 132) [.ref (ad 30), .int (nI a), .int (nI m)] h (fun v h' k n => v = none ∧ ∃ W' C' S', mw cJ cZ ad r0 W' X h' C' S' ∧ W' 16 = rdz (X a) (X m).natAbs ∧ k + C' ≤ C ∧ n + S' ≤ S) := by
  refine vx_M.ofV (cc := bc_M_reduce) (maxL := 3) (ret := none) (own := rM) false rfl (by decide +kernel) wC_M_reduce (fun q => by cases q) (Nat.le_of_ble_eq_true rfl) (fun A H0 G IG RG => ?_)
  show vx_V _ _ _ _ _ _ _ _ _ 0 [(0, .ref (ad 30)), (1, .int (nI a)), (2, .int (nI m))] []
  have hWa := mw_W HM ha
  have hWm := mw_W HM hm
  have hna := lim_nd.mp hWa.2
  have hnm := lim_nd.mp hWm.2
  have hmp : 0 < W m := by omega
  refine vx_aload_n IG dc_M_reduce_0 rfl 0 rfl ?_
  refine vx_get IG (mo_M LY HM) rfl 5 (by decide) inM wF_M_33 rfl rfl dc_M_reduce_1 ?_
  refine vx_aload_n IG dc_M_reduce_4 rfl 0 rfl ?_
  refine vx_get IG (mo_M LY HM) rfl 0 (by decide) inM wF_M_11 rfl rfl dc_M_reduce_5 ?_
  refine vx_iload_n IG dc_M_reduce_8 rfl 1 rfl ?_
  refine mr_aal IG LY HM ha ht1 dc_M_reduce_9 ?_
  refine vx_aload_n IG dc_M_reduce_10 rfl 0 rfl ?_
  refine vx_get IG (mo_M LY HM) rfl 0 (by decide) inM wF_M_11 rfl rfl dc_M_reduce_11 ?_
  refine vx_iload_n IG dc_M_reduce_14 rfl 2 rfl ?_
  refine mr_aal IG LY HM hm ht1 dc_M_reduce_15 ?_
  refine vx_callV (As := [.ref (ad a), .ref (ad m)]) (st := []) IG lw_good (mD_run LY HM a m (Or.inl (by omega)) (Or.inl (by omega)) ht (by omega) (by omega)) (mo_D LY HM) rfl wC_D_run wL_M_93 wI_D_run wS_D_run wX_D 2 (by decide +kernel) rfl ⟨Nat.le_of_ble_eq_true rfl, Nat.le_of_ble_eq_true rfl⟩ ⟨(by dsimp only [rm_]; omega), (by dsimp only [rm_]; omega)⟩ rfl (Nat.le_of_ble_eq_true rfl) dc_M_reduce_16 (fun v h k1 n1 hq => ?_)
  obtain ⟨rfl, N, C1, S1, HM, hk1, hm1⟩ := hq
  have v20 : va_up (va_up (va_up W 21 N) 19 (W a / W m)) 20 (W a % W m) 20 = W a % W m := va_up_self _ _ _
  have vm : va_up (va_up (va_up W 21 N) 19 (W a / W m)) 20 (W a % W m) m = W m := by rw [va_up_ne _ _ (by omega), va_up_ne _ _ (by omega), va_up_ne _ _ (by omega)]
  generalize va_up (va_up (va_up W 21 N) 19 (W a / W m)) 20 (W a % W m) = W1 at *
  have hlt := Nat.mod_lt (W a) hmp
  have l20 : nd 4294967296 (W a % W m) ≤ 2048 := Nat.le_trans (nd_mono bB1 (Nat.le_of_lt hlt)) hnm
  show vx_V _ _ _ _ _ _ _ _ _ 19 [(0, .ref (ad 30)), (1, .int (nI a)), (2, .int (nI m))] []
  have plain : ∀ (k n : Nat), rdz (X a) (X m).natAbs = W a % W m → k + C1 ≤ C → n + S1 ≤ S → vx_V D vcl A H0 3 G h k n 64 [(0, .ref (ad 30)), (1, .int (nI a)), (2, .int (nI m))] [] := by
    intro k n ez hk hn
    refine vx_aload_n IG dc_M_reduce_64 rfl 0 rfl ?_
    refine vx_get IG (mo_M LY HM) rfl 2 (by decide) inM wF_M_20 rfl rfl dc_M_reduce_65 ?_
    refine vx_aload_n IG dc_M_reduce_68 rfl 0 rfl ?_
    refine vx_get IG (mo_M LY HM) rfl 5 (by decide) inM wF_M_33 rfl rfl dc_M_reduce_69 ?_
    refine vx_get IG (mo_D LY HM) rfl 1 (by decide) inD wF_M_96 rfl rfl dc_M_reduce_72 ?_
    refine vx_callV (As := [.ref (ad 20)]) (st := []) IG lw_good (mW_copy LY HM 16 20 (by decide) (by decide) (by decide) ht (by rw [v20]; omega)) ((mo_W HM (show 16 < 30 by decide)).choose_spec) rfl wC_W_copy wL_M_74 wI_W_copy wS_W_copy wX_W 1 (by decide +kernel) rfl ⟨Nat.le_of_ble_eq_true rfl, Nat.le_of_ble_eq_true rfl⟩ ⟨(by dsimp only [rm_]; omega), (by dsimp only [rm_]; omega)⟩ rfl (Nat.le_of_ble_eq_true rfl) dc_M_reduce_75 (fun v h k6 n6 hq => ?_)
    obtain ⟨rfl, C2, S2, HM, hk2, hm2⟩ := hq
    show vx_V _ _ _ _ _ _ _ _ _ 78 [(0, .ref (ad 30)), (1, .int (nI a)), (2, .int (nI m))] []
    refine vx_ret none RG (vx_endv dc_M_reduce_78) rfl ?_
    exact ⟨rfl, _, C2, S2, HM, by rw [va_up_self, v20, ez], by omega, by omega⟩
  refine vx_aload_n IG dc_M_reduce_19 rfl 0 rfl ?_
  refine vx_get IG (mo_M LY HM) rfl 1 (by decide) inM wF_M_15 rfl rfl dc_M_reduce_20 ?_
  refine vx_iload_n IG dc_M_reduce_23 rfl 1 rfl ?_
  refine mr_zal IG LY HM ha ht2 dc_M_reduce_24 ?_
  by_cases y : X a < 0
  · refine vx_if_eq (tgt := 64) IG dc_M_reduce_25 (by decide) (fun c_ => absurd c_ (by rw [sgI_neg y]; decide)) (fun _ => ?_)
    have hz := rdz_neg (N := W a) (M := W m) hmp
    rw [show -(W a : Int) = X a by omega] at hz
    refine vx_aload_n IG dc_M_reduce_28 rfl 0 rfl ?_
    refine vx_get IG (mo_M LY HM) rfl 5 (by decide) inM wF_M_33 rfl rfl dc_M_reduce_29 ?_
    refine vx_get IG (mo_D LY HM) rfl 1 (by decide) inD wF_M_96 rfl rfl dc_M_reduce_32 ?_
    refine vx_callV (As := []) (st := []) IG lw_good (mW_isZero HM 20 (by decide)) ((mo_W HM (show 20 < 30 by decide)).choose_spec) rfl wC_W_isZero wL_M_89 wI_W_isZero wS_W_isZero wX_W 0 (by decide +kernel) rfl ⟨Nat.le_of_ble_eq_true rfl, Nat.le_of_ble_eq_true rfl⟩ ⟨(by dsimp only [rm_]; omega), (by dsimp only [rm_]; omega)⟩ rfl (Nat.le_of_ble_eq_true rfl) dc_M_reduce_35 (fun v h k2 n2 hq => ?_)
    obtain ⟨rfl, rfl, rfl, rfl⟩ := hq
    show vx_V _ _ _ _ _ _ _ _ _ 38 [(0, .ref (ad 30)), (1, .int (nI a)), (2, .int (nI m))] [.int (if W1 20 = 0 then 1 else 0)]
    rw [v20]
    by_cases x : W a % W m = 0
    · refine vx_topi (y := 1) (if_pos x) ?_
      refine vx_if_ne (tgt := 64) IG dc_M_reduce_38 (by decide) (fun _ => ?_) (fun c_ => absurd c_ (by decide))
      exact plain _ _ (by rw [← hWm.1, hz, if_pos x, x]) (by omega) (by omega)
    · refine vx_topi (y := 0) (if_neg x) ?_
      refine vx_if_ne (tgt := 64) IG dc_M_reduce_38 (by decide) (fun c_ => absurd rfl c_) (fun _ => ?_)
      refine vx_aload_n IG dc_M_reduce_41 rfl 0 rfl ?_
      refine vx_get IG (mo_M LY HM) rfl 2 (by decide) inM wF_M_20 rfl rfl dc_M_reduce_42 ?_
      refine vx_aload_n IG dc_M_reduce_45 rfl 0 rfl ?_
      refine vx_get IG (mo_M LY HM) rfl 0 (by decide) inM wF_M_11 rfl rfl dc_M_reduce_46 ?_
      refine vx_iload_n IG dc_M_reduce_49 rfl 2 rfl ?_
      refine mr_aal IG LY HM hm ht1 dc_M_reduce_50 ?_
      refine vx_aload_n IG dc_M_reduce_51 rfl 0 rfl ?_
      refine vx_get IG (mo_M LY HM) rfl 5 (by decide) inM wF_M_33 rfl rfl dc_M_reduce_52 ?_
      refine vx_get IG (mo_D LY HM) rfl 1 (by decide) inD wF_M_96 rfl rfl dc_M_reduce_55 ?_
      refine vx_callV (As := [.ref (ad m), .ref (ad 20)]) (st := []) IG lw_good (mW_difference LY HM 16 m 20 (by decide) (by decide) (by omega) (by decide) ht (by rw [vm]; omega) (by rw [vm, v20]; omega)) ((mo_W HM (show 16 < 30 by decide)).choose_spec) rfl wC_W_difference wL_M_102 wI_W_difference wS_W_difference wX_W 2 (by decide +kernel) rfl ⟨Nat.le_of_ble_eq_true rfl, Nat.le_of_ble_eq_true rfl⟩ ⟨(by dsimp only [rm_]; omega), (by dsimp only [rm_]; omega)⟩ rfl (Nat.le_of_ble_eq_true rfl) dc_M_reduce_58 (fun v h k3 n3 hq => ?_)
      obtain ⟨rfl, C2, S2, HM, hk2, hm2⟩ := hq
      show vx_V _ _ _ _ _ _ _ _ _ 61 [(0, .ref (ad 30)), (1, .int (nI a)), (2, .int (nI m))] []
      refine vx_goto (tgt := 78) IG dc_M_reduce_61 (by decide) ?_
      refine vx_ret none RG (vx_endv dc_M_reduce_78) rfl ?_
      exact ⟨rfl, _, C2, S2, HM, by rw [va_up_self, vm, v20, ← hWm.1, hz, if_neg x], by omega, by omega⟩
  · refine vx_if_eq (tgt := 64) IG dc_M_reduce_25 (by decide) (fun _ => ?_) (fun c_ => absurd (sgI_pos y) c_)
    refine plain _ _ ?_ (by omega) (by omega)
    rw [← hWm.1, ← rdz_nat, show ((W a : Nat) : Int) = X a by omega]
set_option maxRecDepth 100000 in
set_option maxHeartbeats 4000000 in
theorem cM_findInverse (LY : lay cQ ad r0) (HM : mw cJ cZ ad r0 W X h C S) (ha : a < 16) (hm : m < 16) (hp : 0 < X m) (ht : tys[0]? = some (cJ, .long)) (ht1 : tys[1]? = some (cQ, .object "SignedMill$Whole")) (ht2 : tys[2]? = some (cZ, .boolean)) : vx_M l D vcl tys my_M_findInverse lw_gd (rm_ 7 C S 157) [.ref (ad 30), .int (nI a), .int (nI m)] h (fun v h' k n => (∃ W' C' S', mw cJ cZ ad r0 W' X h' C' S' ∧ k + C' ≤ C ∧ n + S' ≤ S ∧ ((v = some (.int 1) ∧ isInv (X a) (X m).natAbs (W' 16)) ∨ (v = some (.int 0) ∧ ivO (X a) (X m).natAbs = none)))) := by
  refine vx_M.ofV (cc := bc_M_findInverse) (maxL := 3) (ret := some .boolean) (own := rM) false rfl (by decide +kernel) wC_M_findInverse (fun q => by cases q) (Nat.le_of_ble_eq_true rfl) (fun A H0 G IG RG => ?_)
  show vx_V _ _ _ _ _ _ _ _ _ 0 [(0, .ref (ad 30)), (1, .int (nI a)), (2, .int (nI m))] []
  have hWm0 := mw_W HM hm
  have hmp : 0 < (X m).natAbs := by omega
  refine vx_aload_n IG dc_M_findInverse_0 rfl 0 rfl ?_
  refine vx_iload_n IG dc_M_findInverse_1 rfl 1 rfl ?_
  refine vx_iload_n IG dc_M_findInverse_2 rfl 2 rfl ?_
  refine vx_callV (As := [.int (nI a), .int (nI m)]) (st := []) IG lw_good (cM_reduce LY HM ha hm hp ht ht1 ht2) (mo_M LY HM) rfl wC_M_reduce wL_M_175 wI_M_reduce wS_M_reduce wX_M 2 (by decide +kernel) rfl ⟨Nat.le_of_ble_eq_true rfl, Nat.le_of_ble_eq_true rfl⟩ ⟨(by dsimp only [rm_]; omega), (by dsimp only [rm_]; omega)⟩ rfl (Nat.le_of_ble_eq_true rfl) dc_M_findInverse_3 (fun v h k1 n1 hq => ?_)
  obtain ⟨rfl, W1, C1, S1, HM, hr, hk1, hm1⟩ := hq
  have hWm := mw_W HM hm
  have hnm := lim_nd.mp hWm.2
  have hlt := rdz_lt (x := X a) hmp
  rw [← hr, ← hWm.1] at hlt
  have h16 : nd 4294967296 (W1 16) ≤ 2048 := Nat.le_trans (nd_mono bB1 (Nat.le_of_lt hlt)) hnm
  show vx_V _ _ _ _ _ _ _ _ _ 6 [(0, .ref (ad 30)), (1, .int (nI a)), (2, .int (nI m))] []
  refine vx_aload_n IG dc_M_findInverse_6 rfl 0 rfl ?_
  refine vx_get IG (mo_M LY HM) rfl 6 (by decide) inM wF_M_40 rfl rfl dc_M_findInverse_7 ?_
  refine vx_aload_n IG dc_M_findInverse_10 rfl 0 rfl ?_
  refine vx_get IG (mo_M LY HM) rfl 0 (by decide) inM wF_M_11 rfl rfl dc_M_findInverse_11 ?_
  refine vx_iload_n IG dc_M_findInverse_14 rfl 2 rfl ?_
  refine mr_aal IG LY HM hm ht1 dc_M_findInverse_15 ?_
  refine vx_aload_n IG dc_M_findInverse_16 rfl 0 rfl ?_
  refine vx_get IG (mo_M LY HM) rfl 2 (by decide) inM wF_M_20 rfl rfl dc_M_findInverse_17 ?_
  refine vx_iconst (v := 1) IG dc_M_findInverse_20 (by decide) ?_
  refine vx_callV (As := [.ref (ad m), .ref (ad 16), .int 1]) (st := []) IG lw_good (mE_run LY HM m 16 (by omega) (by omega) ht (by omega) (by omega) (Or.inr rfl) (fun _ => Nat.le_of_lt hlt)) ((mo_E' HM).choose_spec) rfl wC_E_run wL_M_158 wI_E_run wS_E_run wX_E 3 (by decide +kernel) rfl ⟨Nat.le_of_ble_eq_true rfl, Nat.le_of_ble_eq_true rfl⟩ ⟨(by dsimp only [rm_]; omega), (by dsimp only [rm_]; omega)⟩ rfl (Nat.le_of_ble_eq_true rfl) dc_M_findInverse_21 (fun v h k2 n2 hq => ?_)
  obtain ⟨rfl, W2, C2, S2, jj, x1, x2, x3, x4, HE, g1, g2, g3, hk2, hm2⟩ := hq
  have HM := mwE_mw HE
  obtain ⟨g2, g4⟩ := g2 rfl
  have hm2' : W2 m = (X m).natAbs := (mw_W HM hm).1
  rw [hr, hWm.1] at g1 g2
  rw [hr] at g4
  show vx_V _ _ _ _ _ _ _ _ _ 24 [(0, .ref (ad 30)), (1, .int (nI a)), (2, .int (nI m))] []
  refine vx_aload_n IG dc_M_findInverse_24 rfl 0 rfl ?_
  refine vx_get IG (mo_M LY HM) rfl 6 (by decide) inM wF_M_40 rfl rfl dc_M_findInverse_25 ?_
  refine vx_get IG (mo_E HE) rfl 0 (by decide) inE wF_M_161 rfl rfl dc_M_findInverse_28 ?_
  have hbl : bl (W2 22) < 2 ^ 31 := by
    rw [g1]
    have := bl_mono (Nat.gcd_le_left (rdz (X a) (X m).natAbs) hmp)
    have := lim_bl.mp (hWm0.1 ▸ hWm0.2)
    omega
  refine vx_callV (As := []) (st := []) IG lw_good (mW_bits HM 22 (by decide) ht) ((mo_W HM (show 22 < 30 by decide)).choose_spec) rfl wC_W_bits wL_M_170 wI_W_bits wS_W_bits wX_W 0 (by decide +kernel) rfl ⟨Nat.le_of_ble_eq_true rfl, Nat.le_of_ble_eq_true rfl⟩ ⟨(by dsimp only [rm_]; omega), (by dsimp only [rm_]; omega)⟩ rfl (Nat.le_of_ble_eq_true rfl) dc_M_findInverse_31 (fun v h k3 n3 hq => ?_)
  obtain ⟨rfl, rfl, rfl, rfl⟩ := hq
  show vx_V _ _ _ _ _ _ _ _ _ 34 [(0, .ref (ad 30)), (1, .int (nI a)), (2, .int (nI m))] [.int (nI (bl (W2 22)))]
  refine vx_iconst (v := 1) IG dc_M_findInverse_34 (by decide) ?_
  by_cases z : bl (W2 22) = 1
  · refine vx_icmp_eq (tgt := 40) IG dc_M_findInverse_35 (by decide) (fun _ => ?_) (fun c_ => absurd (by rw [z]; rfl) c_)
    have hg1 := bl_one.mp z
    rw [g1] at hg1
    rw [hg1] at g2
    have hs : sg jj 1 = 1 ∨ sg jj 1 = -1 := by unfold sg; split <;> simp
    obtain ⟨i1, i2⟩ := inv_fi hmp hs g2 g4
    have hn23 : nd 4294967296 (W2 23) ≤ 2048 := Nat.le_trans (nd_mono bB1 i2) (hWm.1 ▸ hnm)
    have plain : ∀ (k n : Nat), ¬ (sg jj 1 = 1 ∧ ¬ W2 23 = 0) → k + C2 ≤ C → n + S2 ≤ S → vx_V D vcl A H0 3 G h k n 86 [(0, .ref (ad 30)), (1, .int (nI a)), (2, .int (nI m))] [] := by
      intro k n ez hk hn
      refine vx_aload_n IG dc_M_findInverse_86 rfl 0 rfl ?_
      refine vx_get IG (mo_M LY HM) rfl 2 (by decide) inM wF_M_20 rfl rfl dc_M_findInverse_87 ?_
      refine vx_aload_n IG dc_M_findInverse_90 rfl 0 rfl ?_
      refine vx_get IG (mo_M LY HM) rfl 6 (by decide) inM wF_M_40 rfl rfl dc_M_findInverse_91 ?_
      refine vx_get IG (mo_E HE) rfl 1 (by decide) inE wF_M_223 rfl rfl dc_M_findInverse_94 ?_
      refine vx_callV (As := [.ref (ad 23)]) (st := []) IG lw_good (mW_copy LY HM 16 23 (by decide) (by decide) (by decide) ht (by omega)) ((mo_W HM (show 16 < 30 by decide)).choose_spec) rfl wC_W_copy wL_M_74 wI_W_copy wS_W_copy wX_W 1 (by decide +kernel) rfl ⟨Nat.le_of_ble_eq_true rfl, Nat.le_of_ble_eq_true rfl⟩ ⟨(by dsimp only [rm_]; omega), (by dsimp only [rm_]; omega)⟩ rfl (Nat.le_of_ble_eq_true rfl) dc_M_findInverse_97 (fun v h k6 n6 hq => ?_)
      obtain ⟨rfl, C3, S3, HM, hk3, hm3⟩ := hq
      rw [if_neg ez] at i1
      show vx_V _ _ _ _ _ _ _ _ _ 100 [(0, .ref (ad 30)), (1, .int (nI a)), (2, .int (nI m))] []
      refine vx_iconst (v := 1) IG dc_M_findInverse_100 (by decide) ?_
      refine vx_ret (some (.int 1)) RG (vx_endi (by first | rfl | decide) dc_M_findInverse_101) rfl ?_
      exact ⟨_, C3, S3, HM, by omega, by omega, Or.inl ⟨rfl, by rw [va_up_self]; exact i1⟩⟩
    refine vx_aload_n IG dc_M_findInverse_40 rfl 0 rfl ?_
    refine vx_get IG (mo_M LY HM) rfl 6 (by decide) inM wF_M_40 rfl rfl dc_M_findInverse_41 ?_
    refine vx_get IG (mo_E HE) rfl 2 (by decide) inE wF_M_219 rfl rfl dc_M_findInverse_44 ?_
    by_cases y : jj % 2 = 0
    · have hs1 : sg jj 1 = 1 := if_pos y
      refine vx_if_eq (tgt := 86) IG dc_M_findInverse_47 (by decide) (fun c_ => absurd c_ (by rw [show bj jj = 1 from if_pos y]; decide)) (fun _ => ?_)
      refine vx_aload_n IG dc_M_findInverse_50 rfl 0 rfl ?_
      refine vx_get IG (mo_M LY HM) rfl 6 (by decide) inM wF_M_40 rfl rfl dc_M_findInverse_51 ?_
      refine vx_get IG (mo_E HE) rfl 1 (by decide) inE wF_M_223 rfl rfl dc_M_findInverse_54 ?_
      refine vx_callV (As := []) (st := []) IG lw_good (mW_isZero HM 23 (by decide)) ((mo_W HM (show 23 < 30 by decide)).choose_spec) rfl wC_W_isZero wL_M_89 wI_W_isZero wS_W_isZero wX_W 0 (by decide +kernel) rfl ⟨Nat.le_of_ble_eq_true rfl, Nat.le_of_ble_eq_true rfl⟩ ⟨(by dsimp only [rm_]; omega), (by dsimp only [rm_]; omega)⟩ rfl (Nat.le_of_ble_eq_true rfl) dc_M_findInverse_57 (fun v h k4 n4 hq => ?_)
      obtain ⟨rfl, rfl, rfl, rfl⟩ := hq
      show vx_V _ _ _ _ _ _ _ _ _ 60 [(0, .ref (ad 30)), (1, .int (nI a)), (2, .int (nI m))] [.int (if W2 23 = 0 then 1 else 0)]
      by_cases x : W2 23 = 0
      · refine vx_topi (y := 1) (if_pos x) ?_
        refine vx_if_ne (tgt := 86) IG dc_M_findInverse_60 (by decide) (fun _ => ?_) (fun c_ => absurd c_ (by decide))
        exact plain _ _ (fun q => q.2 x) (by omega) (by omega)
      · refine vx_topi (y := 0) (if_neg x) ?_
        refine vx_if_ne (tgt := 86) IG dc_M_findInverse_60 (by decide) (fun c_ => absurd rfl c_) (fun _ => ?_)
        refine vx_aload_n IG dc_M_findInverse_63 rfl 0 rfl ?_
        refine vx_get IG (mo_M LY HM) rfl 2 (by decide) inM wF_M_20 rfl rfl dc_M_findInverse_64 ?_
        refine vx_aload_n IG dc_M_findInverse_67 rfl 0 rfl ?_
        refine vx_get IG (mo_M LY HM) rfl 0 (by decide) inM wF_M_11 rfl rfl dc_M_findInverse_68 ?_
        refine vx_iload_n IG dc_M_findInverse_71 rfl 2 rfl ?_
        refine mr_aal IG LY HM hm ht1 dc_M_findInverse_72 ?_
        refine vx_aload_n IG dc_M_findInverse_73 rfl 0 rfl ?_
        refine vx_get IG (mo_M LY HM) rfl 6 (by decide) inM wF_M_40 rfl rfl dc_M_findInverse_74 ?_
        refine vx_get IG (mo_E HE) rfl 1 (by decide) inE wF_M_223 rfl rfl dc_M_findInverse_77 ?_
        refine vx_callV (As := [.ref (ad m), .ref (ad 23)]) (st := []) IG lw_good (mW_difference LY HM 16 m 23 (by decide) (by decide) (by omega) (by decide) ht (by rw [hm2', ← hWm.1]; omega) (by rw [hm2']; exact i2)) ((mo_W HM (show 16 < 30 by decide)).choose_spec) rfl wC_W_difference wL_M_102 wI_W_difference wS_W_difference wX_W 2 (by decide +kernel) rfl ⟨Nat.le_of_ble_eq_true rfl, Nat.le_of_ble_eq_true rfl⟩ ⟨(by dsimp only [rm_]; omega), (by dsimp only [rm_]; omega)⟩ rfl (Nat.le_of_ble_eq_true rfl) dc_M_findInverse_80 (fun v h k5 n5 hq => ?_)
        obtain ⟨rfl, C3, S3, HM, hk3, hm3⟩ := hq
        rw [if_pos ⟨hs1, x⟩] at i1
        show vx_V _ _ _ _ _ _ _ _ _ 83 [(0, .ref (ad 30)), (1, .int (nI a)), (2, .int (nI m))] []
        refine vx_goto (tgt := 100) IG dc_M_findInverse_83 (by decide) ?_
        refine vx_iconst (v := 1) IG dc_M_findInverse_100 (by decide) ?_
        refine vx_ret (some (.int 1)) RG (vx_endi (by first | rfl | decide) dc_M_findInverse_101) rfl ?_
        exact ⟨_, C3, S3, HM, by omega, by omega, Or.inl ⟨rfl, by rw [va_up_self, hm2']; exact i1⟩⟩
    · have hs1 : sg jj 1 = -1 := if_neg y
      refine vx_if_eq (tgt := 86) IG dc_M_findInverse_47 (by decide) (fun _ => ?_) (fun c_ => absurd (show bj jj = 0 from if_neg y) c_)
      exact plain _ _ (fun q => by rw [hs1] at q; exact absurd q.1 (by decide)) (by omega) (by omega)
  · refine vx_icmp_eq (tgt := 40) IG dc_M_findInverse_35 (by decide) (fun c_ => absurd c_ (nI_ne hbl (b := 1) (by decide) z)) (fun _ => ?_)
    refine vx_iconst (v := 0) IG dc_M_findInverse_38 (by decide) ?_
    refine vx_ret (some (.int 0)) RG (vx_endi (by first | rfl | decide) dc_M_findInverse_39) rfl ?_
    refine ⟨_, C2, S2, HM, by omega, by omega, Or.inr ⟨rfl, ivO_none hmp (fun q => z ?_)⟩⟩
    rw [g1, q]
    rfl
set_option maxRecDepth 100000 in
set_option maxHeartbeats 4000000 in
theorem cM_inverse (LY : lay cQ ad r0) (HM : mw cJ cZ ad r0 W X h C S) (ht : tys[0]? = some (cJ, .long)) (ht1 : tys[1]? = some (cQ, .object "SignedMill$Whole")) (ht2 : tys[2]? = some (cZ, .boolean)) (r1 r2 r3 : Int32) : vx_M l D vcl tys my_M_inverse lw_gd (rm_ 8 C S 180) [.ref (ad 30), .int r1, .int r2, .int r3] h (mpub cJ cZ ad r0 (sp3 0 X (ivF X) r1 r2 r3).2 C S (sp3 0 X (ivF X) r1 r2 r3).1) := by
  refine vx_M.ofV (cc := bc_M_inverse) (maxL := 4) (ret := some .boolean) (own := rM) false rfl (by decide +kernel) wC_M_inverse (fun q => by cases q) (Nat.le_of_ble_eq_true rfl) (fun A H0 G IG RG => ?_)
  show vx_V _ _ _ _ _ _ _ _ _ 0 [(0, .ref (ad 30)), (1, .int r1), (2, .int r2), (3, .int r3)] []
  refine vx_iload_n IG dc_M_inverse_0 rfl 1 rfl ?_
  refine vx_iload_n IG dc_M_inverse_1 rfl 2 rfl ?_
  refine vx_callS (As := [.int r1, .int r2]) (st := []) IG lw_good (cM_areRegisters _ r1 r2) wC_M_areRegisters wL_M_70 wT_M_areRegisters wX_M 2 (by decide +kernel) rfl ⟨Nat.le_of_ble_eq_true rfl, Nat.le_of_ble_eq_true rfl⟩ ⟨(by dsimp only [rm_]; omega), (by dsimp only [rm_]; omega)⟩ rfl (Nat.le_of_ble_eq_true rfl) dc_M_inverse_2 (fun v h k1 n1 hq => ?_)
  obtain ⟨rfl, rfl, rfl, rfl⟩ := hq
  show vx_V _ _ _ _ _ _ _ _ _ 5 [(0, .ref (ad 30)), (1, .int r1), (2, .int r2), (3, .int r3)] [.int (if isR r1 ∧ isR r2 then 1 else 0)]
  by_cases z0 : isR r1 ∧ isR r2
  · refine vx_topi (y := 1) (if_pos z0) ?_
    refine vx_if_eq (tgt := 16) IG dc_M_inverse_5 (by decide) (fun c_ => absurd c_ (by decide)) (fun _ => ?_)
    obtain ⟨d, hd, rfl⟩ := isR_of z0.1
    obtain ⟨a, ha, rfl⟩ := isR_of z0.2
    refine vx_aload_n IG dc_M_inverse_8 rfl 0 rfl ?_
    refine vx_iload_n IG dc_M_inverse_9 rfl 3 rfl ?_
    refine vx_callV (As := [.int r3]) (st := []) IG lw_good (cM_isModulus LY HM ht1 ht2 r3) (mo_M LY HM) rfl wC_M_isModulus wL_M_164 wI_M_isModulus wS_M_isModulus wX_M 1 (by decide +kernel) rfl ⟨Nat.le_of_ble_eq_true rfl, Nat.le_of_ble_eq_true rfl⟩ ⟨(by dsimp only [rm_]; omega), (by dsimp only [rm_]; omega)⟩ rfl (Nat.le_of_ble_eq_true rfl) dc_M_inverse_10 (fun v h k2 n2 hq => ?_)
    obtain ⟨rfl, rfl, rfl, rfl⟩ := hq
    show vx_V _ _ _ _ _ _ _ _ _ 13 [(0, .ref (ad 30)), (1, .int (nI d)), (2, .int (nI a)), (3, .int r3)] [.int (if isMd X r3 then 1 else 0)]
    by_cases z1 : isMd X r3
    · refine vx_topi (y := 1) (if_pos z1) ?_
      refine vx_if_ne (tgt := 18) IG dc_M_inverse_13 (by decide) (fun _ => ?_) (fun c_ => absurd c_ (by decide))
      obtain ⟨z1, z2⟩ := z1
      obtain ⟨m, hm, rfl⟩ := isR_of z1
      rw [nI_clamp (by omega)] at z2
      rw [sp3_ok hd ha hm] at RG
      unfold ivF at RG
      rw [if_pos z2] at RG
      refine vx_aload_n IG dc_M_inverse_18 rfl 0 rfl ?_
      refine vx_iload_n IG dc_M_inverse_19 rfl 2 rfl ?_
      refine vx_iload_n IG dc_M_inverse_20 rfl 3 rfl ?_
      refine vx_callV (As := [.int (nI a), .int (nI m)]) (st := []) IG lw_good (cM_findInverse LY HM ha hm z2 ht ht1 ht2) (mo_M LY HM) rfl wC_M_findInverse wL_M_167 wI_M_findInverse wS_M_findInverse wX_M 2 (by decide +kernel) rfl ⟨Nat.le_of_ble_eq_true rfl, Nat.le_of_ble_eq_true rfl⟩ ⟨(by dsimp only [rm_]; omega), (by dsimp only [rm_]; omega)⟩ rfl (Nat.le_of_ble_eq_true rfl) dc_M_inverse_21 (fun v h k3 n3 hq => ?_)
      have hlm := (mw_W HM hm)
      obtain ⟨W1, C1, S1, HM, hk1, hm1, hv⟩ := hq
      rcases hv with ⟨rfl, hi⟩ | ⟨rfl, hi⟩
      · show vx_V _ _ _ _ _ _ _ _ _ 24 [(0, .ref (ad 30)), (1, .int (nI d)), (2, .int (nI a)), (3, .int (nI m))] [.int 1]
        refine vx_if_eq (tgt := 40) IG dc_M_inverse_24 (by decide) (fun c_ => absurd c_ (by decide)) (fun _ => ?_)
        refine vx_aload_n IG dc_M_inverse_27 rfl 0 rfl ?_
        refine vx_iload_n IG dc_M_inverse_28 rfl 1 rfl ?_
        refine vx_iconst (v := 0) IG dc_M_inverse_29 (by decide) ?_
        rw [ivO_some hi] at RG
        refine vx_callV (As := [.int (nI d), .int 0]) (st := []) IG lw_good (cM_keep LY HM hd (Or.inl rfl) ht ht1 ht2) (mo_M LY HM) rfl wC_M_keep wL_M_52 wI_M_keep wS_M_keep wX_M 2 (by decide +kernel) rfl ⟨Nat.le_of_ble_eq_true rfl, Nat.le_of_ble_eq_true rfl⟩ ⟨(by dsimp only [rm_]; omega), (by dsimp only [rm_]; omega)⟩ rfl (Nat.le_of_ble_eq_true rfl) dc_M_inverse_30 (fun v h k4 n4 hq => ?_)
        rw [kz_0] at hq
        have hk : kpV (W1 16 : Int) = 1 := kpV_1 (lim_bl.mp (lim_mono (Nat.le_of_lt hi.1) (hlm.1 ▸ hlm.2)))
        obtain ⟨rfl, W', C9, S9, HM9, hk9, hm9⟩ := hq
        show vx_V _ _ _ _ _ _ _ _ _ 33 [(0, .ref (ad 30)), (1, .int (nI d)), (2, .int (nI a)), (3, .int (nI m))] [.int (kpV (W1 16 : Int))]
        refine vx_topi (y := 1) hk ?_
        refine vx_if_eq (tgt := 40) IG dc_M_inverse_33 (by decide) (fun c_ => absurd c_ (by decide)) (fun _ => ?_)
        refine vx_iconst (v := 1) IG dc_M_inverse_36 (by decide) ?_
        refine vx_goto (tgt := 41) IG dc_M_inverse_37 (by decide) ?_
        refine vx_ret (some (.int 1)) RG (vx_endi (by first | rfl | decide) dc_M_inverse_41) rfl ?_
        exact ⟨congrArg (fun x => some (Value.int x)) hk.symm, W', C9, S9, HM9, by omega, by omega⟩
      · show vx_V _ _ _ _ _ _ _ _ _ 24 [(0, .ref (ad 30)), (1, .int (nI d)), (2, .int (nI a)), (3, .int (nI m))] [.int 0]
        refine vx_if_eq (tgt := 40) IG dc_M_inverse_24 (by decide) (fun _ => ?_) (fun c_ => absurd rfl c_)
        refine vx_iconst (v := 0) IG dc_M_inverse_40 (by decide) ?_
        rw [hi] at RG
        refine vx_ret (some (.int 0)) RG (vx_endi (by first | rfl | decide) dc_M_inverse_41) rfl ?_
        exact ⟨rfl, W1, C1, S1, HM, by omega, by omega⟩
    · refine vx_topi (y := 0) (if_neg z1) ?_
      refine vx_if_ne (tgt := 18) IG dc_M_inverse_13 (by decide) (fun c_ => absurd rfl c_) (fun _ => ?_)
      refine vx_iconst (v := 0) IG dc_M_inverse_16 (by decide) ?_
      refine vx_ret (some (.int 0)) RG (vx_endi (by first | rfl | decide) dc_M_inverse_17) rfl ?_
      have e : sp3 0 X (ivF X) (nI d) (nI a) r3 = (0, X) := by
        by_cases z : isR r3
        · obtain ⟨m, hm, rfl⟩ := isR_of z
          rw [sp3_ok hd ha hm]
          unfold ivF
          exact if_neg (fun q => z1 ⟨z, by rw [nI_clamp (by omega)]; exact q⟩)
        · exact sp3_no (fun q => z q.2.2)
      rw [e]
      exact ⟨rfl, W, C, S, HM, by omega, by omega⟩
  · refine vx_topi (y := 0) (if_neg z0) ?_
    refine vx_if_eq (tgt := 16) IG dc_M_inverse_5 (by decide) (fun _ => ?_) (fun c_ => absurd rfl c_)
    refine vx_iconst (v := 0) IG dc_M_inverse_16 (by decide) ?_
    refine vx_ret (some (.int 0)) RG (vx_endi (by first | rfl | decide) dc_M_inverse_17) rfl ?_
    rw [sp3_no (fun q => z0 ⟨q.1, q.2.1⟩)]
    exact ⟨rfl, W, C, S, HM, by omega, by omega⟩
set_option maxRecDepth 100000 in
set_option maxHeartbeats 4000000 in
theorem cM_multiplyResult (LY : lay cQ ad r0) (HM : mw cJ cZ ad r0 W X h C S) (f : Nat) (hf : f < 17) (b1 : bl (W 16) ≤ 65537) (b2 : bl (W f) ≤ 65537) (ht : tys[0]? = some (cJ, .long)) : vx_M l D vcl tys my_M_multiplyResult lw_gd (rm_ 5 C S 110) [.ref (ad 30), .ref (ad f)] h (fun v h' k n => (v = some (.int 0) ∧ 65537 < bl (W 16) + bl (W f) ∧ h' = h ∧ k = 0 ∧ n = 0) ∨ (v = some (.int 1) ∧ bl (W 16) + bl (W f) ≤ 65537 ∧ ∃ W' C' S', mw cJ cZ ad r0 W' X h' C' S' ∧ W' 16 = W 16 * W f ∧ k + C' ≤ C ∧ n + S' ≤ S)) := by
  refine vx_M.ofV (cc := bc_M_multiplyResult) (maxL := 2) (ret := some .boolean) (own := rM) false rfl (by decide +kernel) wC_M_multiplyResult (fun q => by cases q) (Nat.le_of_ble_eq_true rfl) (fun A H0 G IG RG => ?_)
  show vx_V _ _ _ _ _ _ _ _ _ 0 [(0, .ref (ad 30)), (1, .ref (ad f))] []
  have n1 : nd 4294967296 (W 16) ≤ 2049 := nd_bl (by omega)
  have n2 : nd 4294967296 (W f) ≤ 2049 := nd_bl (by omega)
  refine vx_aload_n IG dc_M_multiplyResult_0 rfl 0 rfl ?_
  refine vx_get IG (mo_M LY HM) rfl 2 (by decide) inM wF_M_20 rfl rfl dc_M_multiplyResult_1 ?_
  refine vx_aload_n IG dc_M_multiplyResult_4 rfl 1 rfl ?_
  refine vx_callS (As := [.ref (ad 16), .ref (ad f)]) (st := []) IG lw_good (cM_isProductTooLong HM 16 f (by decide) (by omega) ht (by omega) (by omega)) wC_M_isProductTooLong wL_M_82 wT_M_isProductTooLong wX_M 2 (by decide +kernel) rfl ⟨Nat.le_of_ble_eq_true rfl, Nat.le_of_ble_eq_true rfl⟩ ⟨(by dsimp only [rm_]; omega), (by dsimp only [rm_]; omega)⟩ rfl (Nat.le_of_ble_eq_true rfl) dc_M_multiplyResult_5 (fun v h k6 n6 hq => ?_)
  obtain ⟨rfl, rfl, rfl, rfl⟩ := hq
  show vx_V _ _ _ _ _ _ _ _ _ 8 [(0, .ref (ad 30)), (1, .ref (ad f))] [.int (if 65537 < bl (W 16) + bl (W f) then 1 else 0)]
  by_cases y : 65537 < bl (W 16) + bl (W f)
  · refine vx_topi (y := 1) (if_pos y) ?_
    refine vx_if_eq (tgt := 13) IG dc_M_multiplyResult_8 (by decide) (fun c_ => absurd c_ (by decide)) (fun _ => ?_)
    refine vx_iconst (v := 0) IG dc_M_multiplyResult_11 (by decide) ?_
    refine vx_ret (some (.int 0)) RG (vx_endi (by first | rfl | decide) dc_M_multiplyResult_12) rfl ?_
    exact Or.inl ⟨rfl, y, rfl, rfl, rfl⟩
  · refine vx_topi (y := 0) (if_neg y) ?_
    refine vx_if_eq (tgt := 13) IG dc_M_multiplyResult_8 (by decide) (fun _ => ?_) (fun c_ => absurd rfl c_)
    have n3 : nd 4294967296 (W 16 * W f) ≤ 2049 := nd_bl (bl_mul (by omega))
    refine vx_aload_n IG dc_M_multiplyResult_13 rfl 0 rfl ?_
    refine vx_get IG (mo_M LY HM) rfl 3 (by decide) inM wF_M_24 rfl rfl dc_M_multiplyResult_14 ?_
    refine vx_aload_n IG dc_M_multiplyResult_17 rfl 0 rfl ?_
    refine vx_get IG (mo_M LY HM) rfl 2 (by decide) inM wF_M_20 rfl rfl dc_M_multiplyResult_18 ?_
    refine vx_aload_n IG dc_M_multiplyResult_21 rfl 1 rfl ?_
    refine vx_callV (As := [.ref (ad 16), .ref (ad f)]) (st := []) IG lw_good (mW_product LY HM 17 16 f (by decide) (by decide) (by omega) (by omega) (by omega) (by omega) ht (by omega)) ((mo_W HM (show 17 < 30 by decide)).choose_spec) rfl wC_W_product wL_M_86 wI_W_product wS_W_product wX_W 2 (by decide +kernel) rfl ⟨Nat.le_of_ble_eq_true rfl, Nat.le_of_ble_eq_true rfl⟩ ⟨(by dsimp only [rm_]; omega), (by dsimp only [rm_]; omega)⟩ rfl (Nat.le_of_ble_eq_true rfl) dc_M_multiplyResult_22 (fun v h k7 n7 hq => ?_)
    obtain ⟨rfl, C1, S1, HM, hk1, hm1⟩ := hq
    show vx_V _ _ _ _ _ _ _ _ _ 25 [(0, .ref (ad 30)), (1, .ref (ad f))] []
    refine vx_aload_n IG dc_M_multiplyResult_25 rfl 0 rfl ?_
    refine vx_get IG (mo_M LY HM) rfl 2 (by decide) inM wF_M_20 rfl rfl dc_M_multiplyResult_26 ?_
    refine vx_aload_n IG dc_M_multiplyResult_29 rfl 0 rfl ?_
    refine vx_get IG (mo_M LY HM) rfl 3 (by decide) inM wF_M_24 rfl rfl dc_M_multiplyResult_30 ?_
    refine vx_callV (As := [.ref (ad 17)]) (st := []) IG lw_good (mW_copy LY HM 16 17 (by decide) (by decide) (by decide) ht (by rw [va_up_self]; omega)) ((mo_W HM (show 16 < 30 by decide)).choose_spec) rfl wC_W_copy wL_M_74 wI_W_copy wS_W_copy wX_W 1 (by decide +kernel) rfl ⟨Nat.le_of_ble_eq_true rfl, Nat.le_of_ble_eq_true rfl⟩ ⟨(by dsimp only [rm_]; omega), (by dsimp only [rm_]; omega)⟩ rfl (Nat.le_of_ble_eq_true rfl) dc_M_multiplyResult_33 (fun v h k8 n8 hq => ?_)
    obtain ⟨rfl, C2, S2, HM, hk2, hm2⟩ := hq
    show vx_V _ _ _ _ _ _ _ _ _ 36 [(0, .ref (ad 30)), (1, .ref (ad f))] []
    refine vx_iconst (v := 1) IG dc_M_multiplyResult_36 (by decide) ?_
    refine vx_ret (some (.int 1)) RG (vx_endi (by first | rfl | decide) dc_M_multiplyResult_37) rfl ?_
    exact Or.inr ⟨rfl, by omega, _, C2, S2, HM, by rw [va_up_self, va_up_self], by omega, by omega⟩
theorem i_bit {n i : Nat} (hn : n < 2 ^ 31) (hi : i < 32) : ((nI n).toUInt32 >>> ((nI i).toUInt32 &&& Int32.toUInt32 31)).toInt32 &&& 1 = nI (n / 2 ^ i % 2) := by
  have h : ∀ i, i < 32 → (((nI i).toUInt32 &&& Int32.toUInt32 31).toBitVec % 32).toNat = i := by decide +kernel
  rw [pk_ushrN (by omega) (nI i) i (h i hi), pk_andN (by have := Nat.div_le_self n (2 ^ i); omega) (m := 1) 1 (by decide)]
theorem nlz_top : ∀ b, b ≤ 32 → (31 : Int32) - nI (32 - b) = nI b - 1 := by decide +kernel
theorem pw_small {z n : Nat} (h : z ≤ 1) (hn : 0 < n) : z ^ n = z := by
  rcases (show z = 0 ∨ z = 1 by omega) with q | q
  · rw [q, Nat.zero_pow hn]
  · rw [q, Nat.one_pow]
set_option maxRecDepth 100000 in
set_option maxHeartbeats 8000000 in
theorem cM_findPower (LY : lay cQ ad r0) (HM : mw cJ cZ ad r0 W X h C S) (ha : a < 16) {n : Nat} (hn : n < 2 ^ 31) (ht : tys[0]? = some (cJ, .long)) : vx_M l D vcl tys my_M_findPower lw_gd (rm_ 6 C S 131) [.ref (ad 30), .ref (ad a), .int (nI n)] h (fun v h' k n' => ∃ W' C' S', mw cJ cZ ad r0 W' X h' C' S' ∧ k + C' ≤ C ∧ n' + S' ≤ S ∧ ((v = some (.int 1) ∧ W' 16 = (X a).natAbs ^ n) ∨ (v = some (.int 0) ∧ ¬ bl ((X a).natAbs ^ n) ≤ 65536))) := by
  refine vx_M.ofV (cc := bc_M_findPower) (maxL := 4) (ret := some .boolean) (own := rM) false rfl (by decide +kernel) wC_M_findPower (fun q => by cases q) (Nat.le_of_ble_eq_true rfl) (fun A H0 G IG RG => ?_)
  show vx_V _ _ _ _ _ _ _ _ _ 0 [(0, .ref (ad 30)), (1, .ref (ad a)), (2, .int (nI n))] []
  have hWa := mw_W HM ha
  have hba := lim_bl.mp hWa.2
  rw [hWa.1] at hba
  obtain ⟨x, ex⟩ : ∃ x, x = (X a).natAbs := ⟨_, rfl⟩
  rw [← ex] at hba RG
  have hx : ∀ {h : vx_h} {W' : Nat → Nat} {C' S' : Nat}, mw cJ cZ ad r0 W' X h C' S' → W' a = x := fun q => by rw [(mw_W q ha).1, ex]
  have hxa := hx HM
  have hnx : nd 4294967296 x ≤ 2048 := nd_bl (by omega)
  refine vx_aload_n IG dc_M_findPower_0 rfl 0 rfl ?_
  refine vx_get IG (mo_M LY HM) rfl 2 (by decide) inM wF_M_20 rfl rfl dc_M_findPower_1 ?_
  refine vx_lconst (v := 1) IG dc_M_findPower_4 (by decide) ?_
  refine vx_callV (As := [.long 1]) (st := []) IG lw_good (mW_load LY HM 16 (by decide) (by decide) ht (b := 1) (by decide)) ((mo_W HM (show 16 < 30 by decide)).choose_spec) rfl wC_W_load wL_M_48 wI_W_load wS_W_load wX_W 1 (by decide +kernel) rfl ⟨Nat.le_of_ble_eq_true rfl, Nat.le_of_ble_eq_true rfl⟩ ⟨(by dsimp only [rm_]; omega), (by dsimp only [rm_]; omega)⟩ rfl (Nat.le_of_ble_eq_true rfl) dc_M_findPower_5 (fun v h k1 n1 hq => ?_)
  obtain ⟨rfl, C1, S1, HM, hk1, hm1⟩ := hq
  have v16 : va_up W 16 1 16 = 1 := va_up_self _ _ _
  generalize va_up W 16 1 = W1 at *
  have hxa := hx HM
  show vx_V _ _ _ _ _ _ _ _ _ 8 [(0, .ref (ad 30)), (1, .ref (ad a)), (2, .int (nI n))] []
  refine vx_aload_n IG dc_M_findPower_8 rfl 1 rfl ?_
  refine vx_callV (As := []) (st := []) IG lw_good (mW_bits HM a (by omega) ht) ((mo_W HM (show a < 30 by omega)).choose_spec) rfl wC_W_bits wL_M_170 wI_W_bits wS_W_bits wX_W 0 (by decide +kernel) rfl ⟨Nat.le_of_ble_eq_true rfl, Nat.le_of_ble_eq_true rfl⟩ ⟨(by dsimp only [rm_]; omega), (by dsimp only [rm_]; omega)⟩ rfl (Nat.le_of_ble_eq_true rfl) dc_M_findPower_9 (fun v h k2 n2 hq => ?_)
  obtain ⟨rfl, rfl, rfl, rfl⟩ := hq
  rw [hxa]
  show vx_V _ _ _ _ _ _ _ _ _ 12 [(0, .ref (ad 30)), (1, .ref (ad a)), (2, .int (nI n))] [.int (nI (bl x))]
  refine vx_iconst (v := 1) IG dc_M_findPower_12 (by decide) ?_
  by_cases z : bl x ≤ 1
  · have hx1 : x ≤ 1 := by have := bl_le.mp z; omega
    refine vx_icmp_gt (tgt := 30) IG dc_M_findPower_13 (by decide) (fun c_ => absurd c_ (fun q => absurd (nI_le (b := 1) z (by decide)) (Int32.not_le.mpr q))) (fun _ => ?_)
    refine vx_iload_n IG dc_M_findPower_16 rfl 2 rfl ?_
    by_cases y : n = 0
    · refine vx_if_le (tgt := 28) IG dc_M_findPower_17 (by decide) (fun _ => ?_) (fun c_ => absurd (nI_le (b := 0) (by omega) (by decide)) c_)
      refine vx_iconst (v := 1) IG dc_M_findPower_28 (by decide) ?_
      refine vx_ret (some (.int 1)) RG (vx_endi (by first | rfl | decide) dc_M_findPower_29) rfl ?_
      exact ⟨W1, C1, S1, HM, by omega, by omega, Or.inl ⟨rfl, by rw [v16, y]; rfl⟩⟩
    · refine vx_if_le (tgt := 28) IG dc_M_findPower_17 (by decide) (fun c_ => absurd c_ (fun q => absurd (nI_lt (a := 0) (b := n) (by omega) hn) (Int32.not_lt.mpr q))) (fun _ => ?_)
      refine vx_aload_n IG dc_M_findPower_20 rfl 0 rfl ?_
      refine vx_get IG (mo_M LY HM) rfl 2 (by decide) inM wF_M_20 rfl rfl dc_M_findPower_21 ?_
      refine vx_aload_n IG dc_M_findPower_24 rfl 1 rfl ?_
      refine vx_callV (As := [.ref (ad a)]) (st := []) IG lw_good (mW_copy LY HM 16 a (by decide) (by decide) (by omega) ht (by rw [hxa]; omega)) ((mo_W HM (show 16 < 30 by decide)).choose_spec) rfl wC_W_copy wL_M_74 wI_W_copy wS_W_copy wX_W 1 (by decide +kernel) rfl ⟨Nat.le_of_ble_eq_true rfl, Nat.le_of_ble_eq_true rfl⟩ ⟨(by dsimp only [rm_]; omega), (by dsimp only [rm_]; omega)⟩ rfl (Nat.le_of_ble_eq_true rfl) dc_M_findPower_25 (fun v h k3 n3 hq => ?_)
      obtain ⟨rfl, C2, S2, HM, hk2, hm2⟩ := hq
      show vx_V _ _ _ _ _ _ _ _ _ 28 [(0, .ref (ad 30)), (1, .ref (ad a)), (2, .int (nI n))] []
      refine vx_iconst (v := 1) IG dc_M_findPower_28 (by decide) ?_
      refine vx_ret (some (.int 1)) RG (vx_endi (by first | rfl | decide) dc_M_findPower_29) rfl ?_
      exact ⟨_, C2, S2, HM, by omega, by omega, Or.inl ⟨rfl, by rw [va_up_self, hxa, pw_small hx1 (by omega)]⟩⟩
  · refine vx_icmp_gt (tgt := 30) IG dc_M_findPower_13 (by decide) (fun _ => ?_) (fun c_ => absurd (nI_lt (a := 1) (by omega) (by omega)) c_)
    have hx2 : 0 < x := by
      rcases Nat.eq_zero_or_pos x with q | q
      · rw [q] at z; exact absurd (by decide) z
      · exact q
    refine vx_aload_n IG dc_M_findPower_30 rfl 1 rfl ?_
    refine vx_callV (As := []) (st := []) IG lw_good (mW_bits HM a (by omega) ht) ((mo_W HM (show a < 30 by omega)).choose_spec) rfl wC_W_bits wL_M_170 wI_W_bits wS_W_bits wX_W 0 (by decide +kernel) rfl ⟨Nat.le_of_ble_eq_true rfl, Nat.le_of_ble_eq_true rfl⟩ ⟨(by dsimp only [rm_]; omega), (by dsimp only [rm_]; omega)⟩ rfl (Nat.le_of_ble_eq_true rfl) dc_M_findPower_31 (fun v h k4 n4 hq => ?_)
    obtain ⟨rfl, rfl, rfl, rfl⟩ := hq
    rw [hxa]
    show vx_V _ _ _ _ _ _ _ _ _ 34 [(0, .ref (ad 30)), (1, .ref (ad a)), (2, .int (nI n))] [.int (nI (bl x))]
    refine vx_i2l (v := lN (bl x)) IG dc_M_findPower_34 (nI_l (by omega)) ?_
    refine vx_lconst (v := 1) IG dc_M_findPower_35 (by decide) ?_
    refine vx_lsub IG dc_M_findPower_36 ?_
    refine vx_topl (y := lN (bl x - 1)) (lN_sub (b := 1) (by omega)) ?_
    refine vx_iload_n IG dc_M_findPower_37 rfl 2 rfl ?_
    refine vx_i2l (v := lN n) IG dc_M_findPower_38 (nI_l hn) ?_
    refine vx_lmul IG dc_M_findPower_39 ?_
    refine vx_topl (y := lN ((bl x - 1) * n)) (lN_mul _ _) ?_
    refine vx_ldc2 (v := 65536) IG wK_M_207 dc_M_findPower_40 ?_
    refine vx_lcmp IG dc_M_findPower_43 ?_
    have hprod : (bl x - 1) * n ≤ 65536 * 2147483648 := Nat.mul_le_mul (by omega) (by omega)
    by_cases y : 65536 ≤ (bl x - 1) * n
    · refine vx_if_lt (tgt := 49) IG dc_M_findPower_44 (by decide) (fun c_ => absurd c_ (fun q => absurd ((pk_lLE (a := 65536) (by decide) (by omega)).mpr y) (Int64.not_le.mpr ((lg_cmp_lt _ _).mp q)))) (fun _ => ?_)
      refine vx_iconst (v := 0) IG dc_M_findPower_47 (by decide) ?_
      refine vx_ret (some (.int 0)) RG (vx_endi (by first | rfl | decide) dc_M_findPower_48) rfl ?_
      exact ⟨W1, C1, S1, HM, by omega, by omega, Or.inr ⟨rfl, pw_big y (by omega)⟩⟩
    · refine vx_if_lt (tgt := 49) IG dc_M_findPower_44 (by decide) (fun _ => ?_) (fun c_ => absurd ((lg_cmp_lt _ _).mpr ((pk_lLT (b := 65536) (by omega) (by decide)).mpr (by omega))) c_)
      have loop : ∀ (j : Nat) (h : vx_h) (W2 : Nat → Nat) (C2 S2 k m : Nat), j ≤ 31 → mw cJ cZ ad r0 W2 X h C2 S2 → W2 16 = x ^ (n / 2 ^ j) → bl (W2 16) ≤ 65537 → k + C2 ≤ C → m + S2 ≤ S → vx_V D vcl A H0 4 G h k m 57 [(3, .int (nI j - 1)), (0, .ref (ad 30)), (1, .ref (ad a)), (2, .int (nI n))] [] := by
        intro j
        induction j with
        | zero =>
          intro h W2 C2 S2 k m hj HM h16 hb hk hm
          refine vx_iload_n IG dc_M_findPower_57 rfl 0 rfl ?_
          refine vx_if_lt (tgt := 98) IG dc_M_findPower_58 (by decide) (fun _ => ?_) (fun c_ => absurd (by decide) c_)
          refine vx_iconst (v := 1) IG dc_M_findPower_98 (by decide) ?_
          refine vx_ret (some (.int 1)) RG (vx_endi (by first | rfl | decide) dc_M_findPower_99) rfl ?_
          rw [Nat.pow_zero, Nat.div_one] at h16
          exact ⟨W2, C2, S2, HM, by omega, by omega, Or.inl ⟨rfl, h16⟩⟩
        | succ j ih =>
          intro h W2 C2 S2 k m hj HM h16 hb hk hm
          rw [nI_pred j]
          refine vx_iload_n IG dc_M_findPower_57 rfl 0 rfl ?_
          refine vx_if_lt (tgt := 98) IG dc_M_findPower_58 (by decide) (fun c_ => absurd c_ (nI_pos (by omega))) (fun _ => ?_)
          refine vx_aload_n IG dc_M_findPower_61 rfl 1 rfl ?_
          refine vx_aload_n IG dc_M_findPower_62 rfl 1 rfl ?_
          refine vx_get IG (mo_M LY HM) rfl 2 (by decide) inM wF_M_20 rfl rfl dc_M_findPower_63 ?_
          have hle2 := pw_le2 (b := x) (e := n) (i := j) hx2
          rw [← h16] at hle2
          refine vx_callV (As := [.ref (ad 16)]) (st := []) IG lw_good (cM_multiplyResult LY HM 16 (by decide) hb hb ht) (mo_M LY HM) rfl wC_M_multiplyResult wL_M_215 wI_M_multiplyResult wS_M_multiplyResult wX_M 1 (by decide +kernel) rfl ⟨Nat.le_of_ble_eq_true rfl, Nat.le_of_ble_eq_true rfl⟩ ⟨(by dsimp only [rm_]; omega), (by dsimp only [rm_]; omega)⟩ rfl (Nat.le_of_ble_eq_true rfl) dc_M_findPower_66 (fun v h k21 n21 hq => ?_)
          rcases hq with ⟨rfl, g1, rfl, rfl, rfl⟩ | ⟨rfl, g1, W3, C3, S3, HM, g2, hk3, hm3⟩
          · show vx_V _ _ _ _ _ _ _ _ _ 69 [(3, .int (nI j)), (0, .ref (ad 30)), (1, .ref (ad a)), (2, .int (nI n))] [.int 0]
            refine vx_if_ne (tgt := 74) IG dc_M_findPower_69 (by decide) (fun c_ => absurd rfl c_) (fun _ => ?_)
            refine vx_iconst (v := 0) IG dc_M_findPower_72 (by decide) ?_
            refine vx_ret (some (.int 0)) RG (vx_endi (by first | rfl | decide) dc_M_findPower_73) rfl ?_
            exact ⟨W2, C2, S2, HM, by omega, by omega, Or.inr ⟨rfl, not_small (prod_big g1 hb hb) hle2⟩⟩
          · show vx_V _ _ _ _ _ _ _ _ _ 69 [(3, .int (nI j)), (0, .ref (ad 30)), (1, .ref (ad a)), (2, .int (nI n))] [.int 1]
            refine vx_if_ne (tgt := 74) IG dc_M_findPower_69 (by decide) (fun _ => ?_) (fun c_ => absurd c_ (by decide))
            refine vx_iload_n IG dc_M_findPower_74 rfl 3 rfl ?_
            refine vx_iload_n IG dc_M_findPower_75 rfl 0 rfl ?_
            refine vx_iushr (v := ((nI n).toUInt32 >>> ((nI j).toUInt32 &&& Int32.toUInt32 31)).toInt32) IG dc_M_findPower_76 rfl ?_
            refine vx_iconst (v := 1) IG dc_M_findPower_77 (by decide) ?_
            refine vx_iand IG dc_M_findPower_78 ?_
            refine vx_topi (y := nI (n / 2 ^ j % 2)) (i_bit hn (by omega)) ?_
            have hb3 : bl (W3 16) ≤ 65537 := by rw [g2]; exact bl_mul g1
            have hxa := hx HM
            by_cases u : n / 2 ^ j % 2 = 1
            · refine vx_if_eq (tgt := 92) IG dc_M_findPower_79 (by decide) (fun c_ => absurd c_ (by rw [u]; decide)) (fun _ => ?_)
              refine vx_aload_n IG dc_M_findPower_82 rfl 1 rfl ?_
              refine vx_aload_n IG dc_M_findPower_83 rfl 2 rfl ?_
              refine vx_callV (As := [.ref (ad a)]) (st := []) IG lw_good (cM_multiplyResult LY HM a (by omega) hb3 (by rw [hxa]; omega) ht) (mo_M LY HM) rfl wC_M_multiplyResult wL_M_215 wI_M_multiplyResult wS_M_multiplyResult wX_M 1 (by decide +kernel) rfl ⟨Nat.le_of_ble_eq_true rfl, Nat.le_of_ble_eq_true rfl⟩ ⟨(by dsimp only [rm_]; omega), (by dsimp only [rm_]; omega)⟩ rfl (Nat.le_of_ble_eq_true rfl) dc_M_findPower_84 (fun v h k22 n22 hq => ?_)
              have hp1 := pw_1 h16 u
              rw [← g2] at hp1
              rcases hq with ⟨rfl, g3, rfl, rfl, rfl⟩ | ⟨rfl, g3, W4, C4, S4, HM, g4, hk4, hm4⟩
              · show vx_V _ _ _ _ _ _ _ _ _ 87 [(3, .int (nI j)), (0, .ref (ad 30)), (1, .ref (ad a)), (2, .int (nI n))] [.int 0]
                refine vx_if_ne (tgt := 92) IG dc_M_findPower_87 (by decide) (fun c_ => absurd rfl c_) (fun _ => ?_)
                refine vx_iconst (v := 0) IG dc_M_findPower_90 (by decide) ?_
                refine vx_ret (some (.int 0)) RG (vx_endi (by first | rfl | decide) dc_M_findPower_91) rfl ?_
                refine ⟨W3, C3, S3, HM, by omega, by omega, Or.inr ⟨rfl, not_small (prod_big g3 hb3 (by rw [hxa]; omega)) ?_⟩⟩
                rw [hxa, hp1]
                exact pw_le hx2
              · show vx_V _ _ _ _ _ _ _ _ _ 87 [(3, .int (nI j)), (0, .ref (ad 30)), (1, .ref (ad a)), (2, .int (nI n))] [.int 1]
                refine vx_if_ne (tgt := 92) IG dc_M_findPower_87 (by decide) (fun _ => ?_) (fun c_ => absurd c_ (by decide))
                refine vx_iinc (q := 0) (v := nI j - 1) (lv' := [(3, .int (nI j - 1)), (0, .ref (ad 30)), (1, .ref (ad a)), (2, .int (nI n))]) IG dc_M_findPower_92 rfl (i32_dec _) (by decide) rfl ?_
                refine vx_goto (tgt := 57) IG dc_M_findPower_95 (by decide) ?_
                rw [hxa] at g4
                refine ih h W4 C4 S4 _ _ (by omega) HM (by rw [g4, hp1]) ?_ (by omega) (by omega)
                rw [g4]
                exact bl_mul (by rw [hxa] at g3; exact g3)
            · refine vx_if_eq (tgt := 92) IG dc_M_findPower_79 (by decide) (fun _ => ?_) (fun c_ => absurd (by rw [show n / 2 ^ j % 2 = 0 by omega]; rfl) c_)
              have hp0 := pw_0 h16 u
              rw [← g2] at hp0
              refine vx_iinc (q := 0) (v := nI j - 1) (lv' := [(3, .int (nI j - 1)), (0, .ref (ad 30)), (1, .ref (ad a)), (2, .int (nI n))]) IG dc_M_findPower_92 rfl (i32_dec _) (by decide) rfl ?_
              refine vx_goto (tgt := 57) IG dc_M_findPower_95 (by decide) ?_
              exact ih h W3 C3 S3 _ _ (by omega) HM hp0 hb3 (by omega) (by omega)
      refine vx_bipush (v := 31) IG dc_M_findPower_49 (by decide) ?_
      refine vx_iload_n IG dc_M_findPower_51 rfl 2 rfl ?_
      refine vx_callS (As := [.int (nI n)]) (st := [.int 31]) IG lw_good (cJI_nlz _ (d := n) (by omega)) wC_JI_numberOfLeadingZeros wL_M_211 wT_JI_numberOfLeadingZeros wX_JI 1 (by decide +kernel) rfl ⟨Nat.le_of_ble_eq_true rfl, Nat.le_of_ble_eq_true rfl⟩ ⟨(by dsimp only [rm_]; omega), (by dsimp only [rm_]; omega)⟩ rfl (Nat.le_of_ble_eq_true rfl) dc_M_findPower_52 (fun v h k11 n11 hq => ?_)
      obtain ⟨rfl, rfl, rfl, rfl⟩ := hq
      have hbn : bl n ≤ 31 := bl_le.mpr hn
      show vx_V _ _ _ _ _ _ _ _ _ 55 [(0, .ref (ad 30)), (1, .ref (ad a)), (2, .int (nI n))] [.int (nI (32 - bl n)), .int 31]
      refine vx_isub IG dc_M_findPower_55 ?_
      refine vx_topi (y := nI (bl n) - 1) (nlz_top _ (by omega)) ?_
      refine vx_istore_n (lv' := [(3, .int (nI (bl n) - 1)), (0, .ref (ad 30)), (1, .ref (ad a)), (2, .int (nI n))]) IG dc_M_findPower_56 rfl (by decide) rfl ?_
      exact loop (bl n) h W1 C1 S1 _ _ hbn HM (by rw [v16, Nat.div_eq_of_lt (lt_bl n)]; rfl) (by rw [v16]; decide) (by omega) (by omega)
end
