/-! the mill: put, push, negate, add, take, times, sign, compare -/
/-- a call's answer and the registers then, by its registers -/
def sp1 (v0 : Int32) (X : Nat → Int) (F : Nat → Int32 × (Nat → Int)) (r : Int32) : Int32 × (Nat → Int) := if isR r then F r.toNatClampNeg else (v0, X)
def sp2 (v0 : Int32) (X : Nat → Int) (F : Nat → Nat → Int32 × (Nat → Int)) (r s : Int32) : Int32 × (Nat → Int) := if isR r ∧ isR s then F r.toNatClampNeg s.toNatClampNeg else (v0, X)
def sp3 (v0 : Int32) (X : Nat → Int) (F : Nat → Nat → Nat → Int32 × (Nat → Int)) (r s t : Int32) : Int32 × (Nat → Int) := if isR r ∧ isR s ∧ isR t then F r.toNatClampNeg s.toNatClampNeg t.toNatClampNeg else (v0, X)
def kp (X : Nat → Int) (d : Nat) (z : Int) : Int32 × (Nat → Int) := (kpV z, kpX X d z)
theorem sp1_ok {v0 : Int32} {X : Nat → Int} {F : Nat → Int32 × (Nat → Int)} {d : Nat} (hd : d < 16) : sp1 v0 X F (nI d) = F d := by unfold sp1; rw [if_pos (isR_nI hd), nI_clamp (by omega)]
theorem sp1_no {v0 : Int32} {X : Nat → Int} {F : Nat → Int32 × (Nat → Int)} {r : Int32} (h : ¬ isR r) : sp1 v0 X F r = (v0, X) := if_neg h
theorem sp2_ok {v0 : Int32} {X : Nat → Int} {F : Nat → Nat → Int32 × (Nat → Int)} {d a : Nat} (hd : d < 16) (ha : a < 16) : sp2 v0 X F (nI d) (nI a) = F d a := by unfold sp2; rw [if_pos ⟨isR_nI hd, isR_nI ha⟩, nI_clamp (by omega), nI_clamp (by omega)]
theorem sp2_no {v0 : Int32} {X : Nat → Int} {F : Nat → Nat → Int32 × (Nat → Int)} {r s : Int32} (h : ¬ (isR r ∧ isR s)) : sp2 v0 X F r s = (v0, X) := if_neg h
theorem sp3_ok {v0 : Int32} {X : Nat → Int} {F : Nat → Nat → Nat → Int32 × (Nat → Int)} {d a b : Nat} (hd : d < 16) (ha : a < 16) (hb : b < 16) : sp3 v0 X F (nI d) (nI a) (nI b) = F d a b := by unfold sp3; rw [if_pos ⟨isR_nI hd, isR_nI ha, isR_nI hb⟩, nI_clamp (by omega), nI_clamp (by omega), nI_clamp (by omega)]
theorem sp3_no {v0 : Int32} {X : Nat → Int} {F : Nat → Nat → Nat → Int32 × (Nat → Int)} {r s t : Int32} (h : ¬ (isR r ∧ isR s ∧ isR t)) : sp3 v0 X F r s t = (v0, X) := if_neg h
theorem sgI_0 {z : Int} : sgI z = 0 ↔ ¬ z < 0 := by
  unfold sgI
  split
  · exact ⟨fun q => absurd q (by decide), fun q => absurd (by assumption) q⟩
  · exact ⟨fun _ => by assumption, fun _ => rfl⟩
theorem kz_flip1 {z : Int} (h : sgI z = 0) : kz 1 z.natAbs = -z := by
  have := sgI_0.mp h
  rw [kz_1]; omega
theorem kz_flip0 {z : Int} (h : ¬ sgI z = 0) : kz 0 z.natAbs = -z := by
  have := fun q => h (sgI_0.mpr q)
  have : z < 0 := Int.not_le.mp (fun q => this (by omega))
  rw [kz_0]; omega
theorem kz_mul0 {x y : Int} (h : sgI x = sgI y) : kz 0 (x.natAbs * y.natAbs) = x * y := by
  rw [kz_0, Int.natCast_mul]
  by_cases q : x < 0
  · rw [sgI_neg q] at h
    have q2 : y < 0 := by
      by_cases z : y < 0
      · exact z
      · rw [sgI_pos z] at h; exact absurd h (by decide)
    rw [show (x.natAbs : Int) = -x by omega, show (y.natAbs : Int) = -y by omega, Int.neg_mul_neg]
  · rw [sgI_pos q] at h
    have q2 := sgI_0.mp h.symm
    rw [show (x.natAbs : Int) = x by omega, show (y.natAbs : Int) = y by omega]
theorem kz_mul1 {x y : Int} (h : ¬ sgI x = sgI y) : kz 1 (x.natAbs * y.natAbs) = x * y := by
  rw [kz_1, Int.natCast_mul]
  by_cases q : x < 0
  · rw [sgI_neg q] at h
    have q2 : ¬ y < 0 := fun z => h (sgI_neg z).symm
    rw [show (x.natAbs : Int) = -x by omega, show (y.natAbs : Int) = y by omega, Int.neg_mul, Int.neg_neg]
  · rw [sgI_pos q] at h
    have q2 : y < 0 := by
      by_cases z : y < 0
      · exact z
      · rw [sgI_pos z] at h; exact absurd rfl h
    rw [show (x.natAbs : Int) = x by omega, show (y.natAbs : Int) = -y by omega, Int.mul_neg, Int.neg_neg]
theorem prod_big {A B : Nat} (h : 65537 < bl A + bl B) (hA : bl A ≤ 65537 := by omega) (hB : bl B ≤ 65537 := by omega) : ¬ bl (A * B) ≤ 65536 := by
  obtain ⟨m, em⟩ : ∃ m, bl A = m + 1 := ⟨bl A - 1, by omega⟩
  obtain ⟨n, en⟩ : ∃ n, bl B = n + 1 := ⟨bl B - 1, by omega⟩
  have h1 : 2 ^ m ≤ A := bl_lt.mp (by omega)
  have h2 : 2 ^ n ≤ B := bl_lt.mp (by omega)
  have h3 : 2 ^ (m + n) ≤ A * B := by rw [Nat.pow_add]; exact Nat.mul_le_mul h1 h2
  have h4 := bl_lt.mpr h3
  omega
theorem pos_load {v : Int64} (h : ¬ v < 0) : ∃ n, n < 18446744073709551616 ∧ v = lN n ∧ v.toInt = (n : Int) := by
  obtain ⟨n, hn, rfl⟩ := pk_lOf h
  refine ⟨n, by omega, rfl, ?_⟩
  rw [← lZ_nat, lZ_int (by omega) (by omega)]
theorem neg_load {v : Int64} (h : v < 0) : ∃ n, n < 18446744073709551616 ∧ -v = lN n ∧ v.toInt = -(n : Int) := by
  have h1 := Int64.lt_iff_toInt_lt.mp h
  rw [show (0 : Int64).toInt = 0 from rfl] at h1
  have h2 := Int64.le_toInt v
  have e : v = lZ v.toInt := (Int64.ofInt_toInt v).symm
  refine ⟨v.toInt.natAbs, by omega, ?_, by omega⟩
  rw [← lZ_nat, show ((v.toInt.natAbs : Nat) : Int) = -v.toInt by omega, ← lZ_neg, ← e]
def cmpZ (x y : Int) : Int32 := if x < y then -1 else if x = y then 0 else 1
theorem cmpZ_pos {x y : Int} (hx : sgI x = 0) (hy : sgI y = 0) : cmpI x.natAbs y.natAbs = cmpZ x y := by
  have h1 := sgI_0.mp hx
  have h2 := sgI_0.mp hy
  unfold cmpI cmpZ
  by_cases q : x < y
  · rw [if_pos q, if_pos (by omega)]
  · rw [if_neg q, if_neg (by omega)]
    by_cases z : x = y
    · rw [if_pos z, if_pos (by omega)]
    · rw [if_neg z, if_neg (by omega)]
theorem sgI_1 {z : Int} (h : ¬ sgI z = 0) : z < 0 := by
  by_cases q : z < 0
  · exact q
  · exact absurd (sgI_pos q) h
theorem cmpZ_neg {x y : Int} (hx : ¬ sgI x = 0) (hy : ¬ sgI y = 0) : -cmpI x.natAbs y.natAbs = cmpZ x y := by
  have h1 := sgI_1 hx
  have h2 := sgI_1 hy
  unfold cmpI cmpZ
  by_cases q : x < y
  · rw [if_pos q, if_neg (by omega), if_neg (by omega)]
  · rw [if_neg q]
    by_cases z : x = y
    · rw [if_pos z, if_neg (by omega), if_pos (by omega)]; rfl
    · rw [if_neg z, if_pos (by omega)]; rfl
theorem cmpZ_pn {x y : Int} (hx : sgI x = 0) (h : ¬ sgI x = sgI y) : cmpZ x y = 1 := by
  have h1 := sgI_0.mp hx
  have h2 := sgI_1 (z := y) (fun q => h (hx.trans q.symm))
  unfold cmpZ
  rw [if_neg (by omega), if_neg (by omega)]
theorem cmpZ_np {x y : Int} (hx : ¬ sgI x = 0) (h : ¬ sgI x = sgI y) : cmpZ x y = -1 := by
  have h1 := sgI_1 hx
  have h2 : ¬ y < 0 := fun q => h ((sgI_neg h1).trans (sgI_neg q).symm)
  unfold cmpZ
  rw [if_pos (by omega)]
section
variable {l : Launch} {D : va_G} {tys : List (ClassId × FieldType)} {cJ cQ cZ : ClassId} {ad : Nat → Nat} {r0 h : vx_h} {W : Nat → Nat} {X : Nat → Int} {C S : Nat} {a b d s : Nat} {w : Int32}
set_option maxRecDepth 100000 in
set_option maxHeartbeats 4000000 in
theorem cM_isProductTooLong (HM : mw cJ cZ ad r0 W X h C S) (i j : Nat) (hi : i < 30) (hj : j < 30) (ht : tys[0]? = some (cJ, .long)) (h1 : bl (W i) < 1000000) (h2 : bl (W j) < 1000000) : vx_M l D vcl tys my_M_isProductTooLong lw_gd (rm_ 3 0 0 64) [.ref (ad i), .ref (ad j)] h (fun v h' k m => v = some (.int (if 65537 < bl (W i) + bl (W j) then 1 else 0)) ∧ h' = h ∧ k = 0 ∧ m = 0) := by
  refine vx_M.ofV (cc := bc_M_isProductTooLong) (maxL := 2) (ret := some .boolean) (own := rM) false rfl (by decide +kernel) wC_M_isProductTooLong (fun q => by cases q) (Nat.le_of_ble_eq_true rfl) (fun A H0 G IG RG => ?_)
  show vx_V _ _ _ _ _ _ _ _ _ 0 [(0, .ref (ad i)), (1, .ref (ad j))] []
  refine vx_aload_n IG dc_M_isProductTooLong_0 rfl 0 rfl ?_
  refine vx_callV (As := []) (st := []) IG lw_good (mW_bits HM i hi ht) ((mo_W HM hi).choose_spec) rfl wC_W_bits wL_M_170 wI_W_bits wS_W_bits wX_W 0 (by decide +kernel) rfl ⟨Nat.le_of_ble_eq_true rfl, Nat.le_of_ble_eq_true rfl⟩ ⟨(by dsimp only [rm_]; omega), (by dsimp only [rm_]; omega)⟩ rfl (Nat.le_of_ble_eq_true rfl) dc_M_isProductTooLong_1 (fun v h k_ n_ hq => ?_)
  obtain ⟨rfl, rfl, rfl, rfl⟩ := hq
  show vx_V _ _ _ _ _ _ _ _ _ 4 [(0, .ref (ad i)), (1, .ref (ad j))] [.int (nI (bl (W i)))]
  refine vx_aload_n IG dc_M_isProductTooLong_4 rfl 1 rfl ?_
  refine vx_callV (As := []) (st := [.int (nI (bl (W i)))]) IG lw_good (mW_bits HM j hj ht) ((mo_W HM hj).choose_spec) rfl wC_W_bits wL_M_170 wI_W_bits wS_W_bits wX_W 0 (by decide +kernel) rfl ⟨Nat.le_of_ble_eq_true rfl, Nat.le_of_ble_eq_true rfl⟩ ⟨(by dsimp only [rm_]; omega), (by dsimp only [rm_]; omega)⟩ rfl (Nat.le_of_ble_eq_true rfl) dc_M_isProductTooLong_5 (fun v h k_ n_ hq => ?_)
  obtain ⟨rfl, rfl, rfl, rfl⟩ := hq
  show vx_V _ _ _ _ _ _ _ _ _ 8 [(0, .ref (ad i)), (1, .ref (ad j))] [.int (nI (bl (W j))), .int (nI (bl (W i)))]
  refine vx_iadd IG dc_M_isProductTooLong_8 ?_
  refine vx_topi (y := nI (bl (W i) + bl (W j))) (nI_add _ _) ?_
  refine vx_ldc (v := 65537) IG wK_M_192 dc_M_isProductTooLong_9 ?_
  by_cases z : 65537 < bl (W i) + bl (W j)
  · refine vx_icmp_le (tgt := 18) IG dc_M_isProductTooLong_11 (by decide) (fun c_ => absurd c_ (nI_ge (a := 65537) z (by omega))) (fun _ => ?_)
    refine vx_iconst (v := 1) IG dc_M_isProductTooLong_14 (by decide) ?_
    refine vx_goto (tgt := 19) IG dc_M_isProductTooLong_15 (by decide) ?_
    refine vx_ret (some (.int 1)) RG (vx_endi (by first | rfl | decide) dc_M_isProductTooLong_19) rfl ?_
    exact ⟨by rw [if_pos z], rfl, rfl, rfl⟩
  · refine vx_icmp_le (tgt := 18) IG dc_M_isProductTooLong_11 (by decide) (fun _ => ?_) (fun c_ => absurd (nI_le (b := 65537) (by omega) (by decide)) c_)
    refine vx_iconst (v := 0) IG dc_M_isProductTooLong_18 (by decide) ?_
    refine vx_ret (some (.int 0)) RG (vx_endi (by first | rfl | decide) dc_M_isProductTooLong_19) rfl ?_
    exact ⟨by rw [if_neg z], rfl, rfl, rfl⟩
set_option maxRecDepth 100000 in
set_option maxHeartbeats 8000000 in
theorem cM_add (LY : lay cQ ad r0) (HM : mw cJ cZ ad r0 W X h C S) (ht : tys[0]? = some (cJ, .long)) (ht1 : tys[1]? = some (cQ, .object "SignedMill$Whole")) (ht2 : tys[2]? = some (cZ, .boolean)) (r1 r2 r3 : Int32) : vx_M l D vcl tys my_M_add lw_gd (rm_ 7 C S 155) [.ref (ad 30), .int r1, .int r2, .int r3] h (mpub cJ cZ ad r0 (sp3 0 X (fun d a b => kp X d (X a + X b)) r1 r2 r3).2 C S (sp3 0 X (fun d a b => kp X d (X a + X b)) r1 r2 r3).1) := by
  refine vx_M.ofV (cc := bc_M_add) (maxL := 4) (ret := some .boolean) (own := rM) false rfl (by decide +kernel) wC_M_add (fun q => by cases q) (Nat.le_of_ble_eq_true rfl) (fun A H0 G IG RG => ?_)
  show vx_V _ _ _ _ _ _ _ _ _ 0 [(0, .ref (ad 30)), (1, .int r1), (2, .int r2), (3, .int r3)] []
  refine vx_iload_n IG dc_M_add_0 rfl 1 rfl ?_
  refine vx_iload_n IG dc_M_add_1 rfl 2 rfl ?_
  refine vx_callS (As := [.int r1, .int r2]) (st := []) IG lw_good (cM_areRegisters _ r1 r2) wC_M_areRegisters wL_M_70 wT_M_areRegisters wX_M 2 (by decide +kernel) rfl ⟨Nat.le_of_ble_eq_true rfl, Nat.le_of_ble_eq_true rfl⟩ ⟨(by dsimp only [rm_]; omega), (by dsimp only [rm_]; omega)⟩ rfl (Nat.le_of_ble_eq_true rfl) dc_M_add_2 (fun v h k1 n1 hq => ?_)
  obtain ⟨rfl, rfl, rfl, rfl⟩ := hq
  show vx_V _ _ _ _ _ _ _ _ _ 5 [(0, .ref (ad 30)), (1, .int r1), (2, .int r2), (3, .int r3)] [.int (if isR r1 ∧ isR r2 then 1 else 0)]
  by_cases z0 : isR r1 ∧ isR r2
  · refine vx_topi (y := 1) (if_pos z0) ?_
    refine vx_if_eq (tgt := 15) IG dc_M_add_5 (by decide) (fun c_ => absurd c_ (by decide)) (fun _ => ?_)
    refine vx_iload_n IG dc_M_add_8 rfl 3 rfl ?_
    refine vx_callS (As := [.int r3]) (st := []) IG lw_good (cM_isRegister _ r3) wC_M_isRegister wL_M_44 wT_M_isRegister wX_M 1 (by decide +kernel) rfl ⟨Nat.le_of_ble_eq_true rfl, Nat.le_of_ble_eq_true rfl⟩ ⟨(by dsimp only [rm_]; omega), (by dsimp only [rm_]; omega)⟩ rfl (Nat.le_of_ble_eq_true rfl) dc_M_add_9 (fun v h k2 n2 hq => ?_)
    obtain ⟨rfl, rfl, rfl, rfl⟩ := hq
    show vx_V _ _ _ _ _ _ _ _ _ 12 [(0, .ref (ad 30)), (1, .int r1), (2, .int r2), (3, .int r3)] [.int (if isR r3 then 1 else 0)]
    by_cases z1 : isR r3
    · refine vx_topi (y := 1) (if_pos z1) ?_
      refine vx_if_ne (tgt := 17) IG dc_M_add_12 (by decide) (fun _ => ?_) (fun c_ => absurd c_ (by decide))
      obtain ⟨d, hd, rfl⟩ := isR_of z0.1
      obtain ⟨a, ha, rfl⟩ := isR_of z0.2
      obtain ⟨b, hb, rfl⟩ := isR_of z1
      rw [sp3_ok hd ha hb] at RG
      have hWb := mw_W HM hb
      refine vx_aload_n IG dc_M_add_17 rfl 0 rfl ?_
      refine vx_iload_n IG dc_M_add_18 rfl 1 rfl ?_
      refine vx_iload_n IG dc_M_add_19 rfl 2 rfl ?_
      refine vx_aload_n IG dc_M_add_20 rfl 0 rfl ?_
      refine vx_get IG (mo_M LY HM) rfl 0 (by decide) inM wF_M_11 rfl rfl dc_M_add_21 ?_
      refine vx_iload_n IG dc_M_add_24 rfl 3 rfl ?_
      refine mr_aal IG LY HM hb ht1 dc_M_add_25 ?_
      refine vx_aload_n IG dc_M_add_26 rfl 0 rfl ?_
      refine vx_get IG (mo_M LY HM) rfl 1 (by decide) inM wF_M_15 rfl rfl dc_M_add_27 ?_
      refine vx_iload_n IG dc_M_add_30 rfl 3 rfl ?_
      refine mr_zal IG LY HM hb ht2 dc_M_add_31 ?_
      refine vx_callV (As := [.int (nI d), .int (nI a), .ref (ad b), .int (sgI (X b))]) (st := []) IG lw_good (cM_keepSum LY HM hd ha (s := b) (by omega) (by omega) hWb.2 (sgI_01 (X b)) ht ht1 ht2) (mo_M LY HM) rfl wC_M_keepSum wL_M_78 wI_M_keepSum wS_M_keepSum wX_M 4 (by decide +kernel) rfl ⟨Nat.le_of_ble_eq_true rfl, Nat.le_of_ble_eq_true rfl⟩ ⟨(by dsimp only [rm_]; omega), (by dsimp only [rm_]; omega)⟩ rfl (Nat.le_of_ble_eq_true rfl) dc_M_add_32 (fun v h k3 n3 hq => ?_)
      rw [hWb.1, kz_sg] at hq
      obtain ⟨rfl, W', C9, S9, HM9, hk9, hm9⟩ := hq
      show vx_V _ _ _ _ _ _ _ _ _ 35 [(0, .ref (ad 30)), (1, .int (nI d)), (2, .int (nI a)), (3, .int (nI b))] [.int (kpV (X a + X b))]
      refine vx_ret (some (.int (kpV (X a + X b)))) RG (vx_endi (by unfold kpV; split <;> rfl) dc_M_add_35) rfl ?_
      exact ⟨rfl, W', C9, S9, HM9, by omega, by omega⟩
    · refine vx_topi (y := 0) (if_neg z1) ?_
      refine vx_if_ne (tgt := 17) IG dc_M_add_12 (by decide) (fun c_ => absurd rfl c_) (fun _ => ?_)
      refine vx_iconst (v := 0) IG dc_M_add_15 (by decide) ?_
      refine vx_ret (some (.int 0)) RG (vx_endi (by first | rfl | decide) dc_M_add_16) rfl ?_
      rw [sp3_no (fun q => z1 (q.2.2))]
      exact ⟨rfl, W, C, S, HM, by omega, by omega⟩
  · refine vx_topi (y := 0) (if_neg z0) ?_
    refine vx_if_eq (tgt := 15) IG dc_M_add_5 (by decide) (fun _ => ?_) (fun c_ => absurd rfl c_)
    refine vx_iconst (v := 0) IG dc_M_add_15 (by decide) ?_
    refine vx_ret (some (.int 0)) RG (vx_endi (by first | rfl | decide) dc_M_add_16) rfl ?_
    rw [sp3_no (fun q => z0 (⟨q.1, q.2.1⟩))]
    exact ⟨rfl, W, C, S, HM, by omega, by omega⟩
set_option maxRecDepth 100000 in
set_option maxHeartbeats 8000000 in
theorem cM_take (LY : lay cQ ad r0) (HM : mw cJ cZ ad r0 W X h C S) (ht : tys[0]? = some (cJ, .long)) (ht1 : tys[1]? = some (cQ, .object "SignedMill$Whole")) (ht2 : tys[2]? = some (cZ, .boolean)) (r1 r2 r3 : Int32) : vx_M l D vcl tys my_M_take lw_gd (rm_ 7 C S 155) [.ref (ad 30), .int r1, .int r2, .int r3] h (mpub cJ cZ ad r0 (sp3 0 X (fun d a b => kp X d (X a - X b)) r1 r2 r3).2 C S (sp3 0 X (fun d a b => kp X d (X a - X b)) r1 r2 r3).1) := by
  refine vx_M.ofV (cc := bc_M_take) (maxL := 4) (ret := some .boolean) (own := rM) false rfl (by decide +kernel) wC_M_take (fun q => by cases q) (Nat.le_of_ble_eq_true rfl) (fun A H0 G IG RG => ?_)
  show vx_V _ _ _ _ _ _ _ _ _ 0 [(0, .ref (ad 30)), (1, .int r1), (2, .int r2), (3, .int r3)] []
  refine vx_iload_n IG dc_M_take_0 rfl 1 rfl ?_
  refine vx_iload_n IG dc_M_take_1 rfl 2 rfl ?_
  refine vx_callS (As := [.int r1, .int r2]) (st := []) IG lw_good (cM_areRegisters _ r1 r2) wC_M_areRegisters wL_M_70 wT_M_areRegisters wX_M 2 (by decide +kernel) rfl ⟨Nat.le_of_ble_eq_true rfl, Nat.le_of_ble_eq_true rfl⟩ ⟨(by dsimp only [rm_]; omega), (by dsimp only [rm_]; omega)⟩ rfl (Nat.le_of_ble_eq_true rfl) dc_M_take_2 (fun v h k1 n1 hq => ?_)
  obtain ⟨rfl, rfl, rfl, rfl⟩ := hq
  show vx_V _ _ _ _ _ _ _ _ _ 5 [(0, .ref (ad 30)), (1, .int r1), (2, .int r2), (3, .int r3)] [.int (if isR r1 ∧ isR r2 then 1 else 0)]
  by_cases z0 : isR r1 ∧ isR r2
  · refine vx_topi (y := 1) (if_pos z0) ?_
    refine vx_if_eq (tgt := 15) IG dc_M_take_5 (by decide) (fun c_ => absurd c_ (by decide)) (fun _ => ?_)
    refine vx_iload_n IG dc_M_take_8 rfl 3 rfl ?_
    refine vx_callS (As := [.int r3]) (st := []) IG lw_good (cM_isRegister _ r3) wC_M_isRegister wL_M_44 wT_M_isRegister wX_M 1 (by decide +kernel) rfl ⟨Nat.le_of_ble_eq_true rfl, Nat.le_of_ble_eq_true rfl⟩ ⟨(by dsimp only [rm_]; omega), (by dsimp only [rm_]; omega)⟩ rfl (Nat.le_of_ble_eq_true rfl) dc_M_take_9 (fun v h k2 n2 hq => ?_)
    obtain ⟨rfl, rfl, rfl, rfl⟩ := hq
    show vx_V _ _ _ _ _ _ _ _ _ 12 [(0, .ref (ad 30)), (1, .int r1), (2, .int r2), (3, .int r3)] [.int (if isR r3 then 1 else 0)]
    by_cases z1 : isR r3
    · refine vx_topi (y := 1) (if_pos z1) ?_
      refine vx_if_ne (tgt := 17) IG dc_M_take_12 (by decide) (fun _ => ?_) (fun c_ => absurd c_ (by decide))
      obtain ⟨d, hd, rfl⟩ := isR_of z0.1
      obtain ⟨a, ha, rfl⟩ := isR_of z0.2
      obtain ⟨b, hb, rfl⟩ := isR_of z1
      rw [sp3_ok hd ha hb, Int.sub_eq_add_neg] at RG
      have hWb := mw_W HM hb
      refine vx_aload_n IG dc_M_take_17 rfl 0 rfl ?_
      refine vx_iload_n IG dc_M_take_18 rfl 1 rfl ?_
      refine vx_iload_n IG dc_M_take_19 rfl 2 rfl ?_
      refine vx_aload_n IG dc_M_take_20 rfl 0 rfl ?_
      refine vx_get IG (mo_M LY HM) rfl 0 (by decide) inM wF_M_11 rfl rfl dc_M_take_21 ?_
      refine vx_iload_n IG dc_M_take_24 rfl 3 rfl ?_
      refine mr_aal IG LY HM hb ht1 dc_M_take_25 ?_
      refine vx_aload_n IG dc_M_take_26 rfl 0 rfl ?_
      refine vx_get IG (mo_M LY HM) rfl 1 (by decide) inM wF_M_15 rfl rfl dc_M_take_27 ?_
      refine vx_iload_n IG dc_M_take_30 rfl 3 rfl ?_
      refine mr_zal IG LY HM hb ht2 dc_M_take_31 ?_
      by_cases y : sgI (X b) = 0
      · refine vx_if_ne (tgt := 39) IG dc_M_take_32 (by decide) (fun c_ => absurd y c_) (fun _ => ?_)
        refine vx_iconst (v := 1) IG dc_M_take_35 (by decide) ?_
        refine vx_goto (tgt := 40) IG dc_M_take_36 (by decide) ?_
        refine vx_callV (As := [.int (nI d), .int (nI a), .ref (ad b), .int 1]) (st := []) IG lw_good (cM_keepSum LY HM hd ha (s := b) (by omega) (by omega) hWb.2 (Or.inr rfl) ht ht1 ht2) (mo_M LY HM) rfl wC_M_keepSum wL_M_78 wI_M_keepSum wS_M_keepSum wX_M 4 (by decide +kernel) rfl ⟨Nat.le_of_ble_eq_true rfl, Nat.le_of_ble_eq_true rfl⟩ ⟨(by dsimp only [rm_]; omega), (by dsimp only [rm_]; omega)⟩ rfl (Nat.le_of_ble_eq_true rfl) dc_M_take_40 (fun v h k3 n3 hq => ?_)
        rw [hWb.1, kz_flip1 y] at hq
        obtain ⟨rfl, W', C9, S9, HM9, hk9, hm9⟩ := hq
        show vx_V _ _ _ _ _ _ _ _ _ 43 [(0, .ref (ad 30)), (1, .int (nI d)), (2, .int (nI a)), (3, .int (nI b))] [.int (kpV (X a + -X b))]
        refine vx_ret (some (.int (kpV (X a + -X b)))) RG (vx_endi (by unfold kpV; split <;> rfl) dc_M_take_43) rfl ?_
        exact ⟨rfl, W', C9, S9, HM9, by omega, by omega⟩
      · refine vx_if_ne (tgt := 39) IG dc_M_take_32 (by decide) (fun _ => ?_) (fun c_ => absurd c_ y)
        refine vx_iconst (v := 0) IG dc_M_take_39 (by decide) ?_
        refine vx_callV (As := [.int (nI d), .int (nI a), .ref (ad b), .int 0]) (st := []) IG lw_good (cM_keepSum LY HM hd ha (s := b) (by omega) (by omega) hWb.2 (Or.inl rfl) ht ht1 ht2) (mo_M LY HM) rfl wC_M_keepSum wL_M_78 wI_M_keepSum wS_M_keepSum wX_M 4 (by decide +kernel) rfl ⟨Nat.le_of_ble_eq_true rfl, Nat.le_of_ble_eq_true rfl⟩ ⟨(by dsimp only [rm_]; omega), (by dsimp only [rm_]; omega)⟩ rfl (Nat.le_of_ble_eq_true rfl) dc_M_take_40 (fun v h k4 n4 hq => ?_)
        rw [hWb.1, kz_flip0 y] at hq
        obtain ⟨rfl, W', C9, S9, HM9, hk9, hm9⟩ := hq
        show vx_V _ _ _ _ _ _ _ _ _ 43 [(0, .ref (ad 30)), (1, .int (nI d)), (2, .int (nI a)), (3, .int (nI b))] [.int (kpV (X a + -X b))]
        refine vx_ret (some (.int (kpV (X a + -X b)))) RG (vx_endi (by unfold kpV; split <;> rfl) dc_M_take_43) rfl ?_
        exact ⟨rfl, W', C9, S9, HM9, by omega, by omega⟩
    · refine vx_topi (y := 0) (if_neg z1) ?_
      refine vx_if_ne (tgt := 17) IG dc_M_take_12 (by decide) (fun c_ => absurd rfl c_) (fun _ => ?_)
      refine vx_iconst (v := 0) IG dc_M_take_15 (by decide) ?_
      refine vx_ret (some (.int 0)) RG (vx_endi (by first | rfl | decide) dc_M_take_16) rfl ?_
      rw [sp3_no (fun q => z1 (q.2.2))]
      exact ⟨rfl, W, C, S, HM, by omega, by omega⟩
  · refine vx_topi (y := 0) (if_neg z0) ?_
    refine vx_if_eq (tgt := 15) IG dc_M_take_5 (by decide) (fun _ => ?_) (fun c_ => absurd rfl c_)
    refine vx_iconst (v := 0) IG dc_M_take_15 (by decide) ?_
    refine vx_ret (some (.int 0)) RG (vx_endi (by first | rfl | decide) dc_M_take_16) rfl ?_
    rw [sp3_no (fun q => z0 (⟨q.1, q.2.1⟩))]
    exact ⟨rfl, W, C, S, HM, by omega, by omega⟩
set_option maxRecDepth 100000 in
set_option maxHeartbeats 8000000 in
theorem cM_times (LY : lay cQ ad r0) (HM : mw cJ cZ ad r0 W X h C S) (ht : tys[0]? = some (cJ, .long)) (ht1 : tys[1]? = some (cQ, .object "SignedMill$Whole")) (ht2 : tys[2]? = some (cZ, .boolean)) (r1 r2 r3 : Int32) : vx_M l D vcl tys my_M_times lw_gd (rm_ 6 C S 131) [.ref (ad 30), .int r1, .int r2, .int r3] h (mpub cJ cZ ad r0 (sp3 0 X (fun d a b => kp X d (X a * X b)) r1 r2 r3).2 C S (sp3 0 X (fun d a b => kp X d (X a * X b)) r1 r2 r3).1) := by
  refine vx_M.ofV (cc := bc_M_times) (maxL := 4) (ret := some .boolean) (own := rM) false rfl (by decide +kernel) wC_M_times (fun q => by cases q) (Nat.le_of_ble_eq_true rfl) (fun A H0 G IG RG => ?_)
  show vx_V _ _ _ _ _ _ _ _ _ 0 [(0, .ref (ad 30)), (1, .int r1), (2, .int r2), (3, .int r3)] []
  refine vx_iload_n IG dc_M_times_0 rfl 1 rfl ?_
  refine vx_iload_n IG dc_M_times_1 rfl 2 rfl ?_
  refine vx_callS (As := [.int r1, .int r2]) (st := []) IG lw_good (cM_areRegisters _ r1 r2) wC_M_areRegisters wL_M_70 wT_M_areRegisters wX_M 2 (by decide +kernel) rfl ⟨Nat.le_of_ble_eq_true rfl, Nat.le_of_ble_eq_true rfl⟩ ⟨(by dsimp only [rm_]; omega), (by dsimp only [rm_]; omega)⟩ rfl (Nat.le_of_ble_eq_true rfl) dc_M_times_2 (fun v h k1 n1 hq => ?_)
  obtain ⟨rfl, rfl, rfl, rfl⟩ := hq
  show vx_V _ _ _ _ _ _ _ _ _ 5 [(0, .ref (ad 30)), (1, .int r1), (2, .int r2), (3, .int r3)] [.int (if isR r1 ∧ isR r2 then 1 else 0)]
  by_cases z0 : isR r1 ∧ isR r2
  · refine vx_topi (y := 1) (if_pos z0) ?_
    refine vx_if_eq (tgt := 15) IG dc_M_times_5 (by decide) (fun c_ => absurd c_ (by decide)) (fun _ => ?_)
    refine vx_iload_n IG dc_M_times_8 rfl 3 rfl ?_
    refine vx_callS (As := [.int r3]) (st := []) IG lw_good (cM_isRegister _ r3) wC_M_isRegister wL_M_44 wT_M_isRegister wX_M 1 (by decide +kernel) rfl ⟨Nat.le_of_ble_eq_true rfl, Nat.le_of_ble_eq_true rfl⟩ ⟨(by dsimp only [rm_]; omega), (by dsimp only [rm_]; omega)⟩ rfl (Nat.le_of_ble_eq_true rfl) dc_M_times_9 (fun v h k2 n2 hq => ?_)
    obtain ⟨rfl, rfl, rfl, rfl⟩ := hq
    show vx_V _ _ _ _ _ _ _ _ _ 12 [(0, .ref (ad 30)), (1, .int r1), (2, .int r2), (3, .int r3)] [.int (if isR r3 then 1 else 0)]
    by_cases z1 : isR r3
    · refine vx_topi (y := 1) (if_pos z1) ?_
      refine vx_if_ne (tgt := 17) IG dc_M_times_12 (by decide) (fun _ => ?_) (fun c_ => absurd c_ (by decide))
      obtain ⟨d, hd, rfl⟩ := isR_of z0.1
      obtain ⟨a, ha, rfl⟩ := isR_of z0.2
      obtain ⟨b, hb, rfl⟩ := isR_of z1
      rw [sp3_ok hd ha hb] at RG
      have hWa := mw_W HM ha
      have hWb := mw_W HM hb
      have hna := lim_nd.mp hWa.2
      have hnb := lim_nd.mp hWb.2
      have hba := lim_bl.mp hWa.2
      have hbb := lim_bl.mp hWb.2
      refine vx_aload_n IG dc_M_times_17 rfl 0 rfl ?_
      refine vx_get IG (mo_M LY HM) rfl 0 (by decide) inM wF_M_11 rfl rfl dc_M_times_18 ?_
      refine vx_iload_n IG dc_M_times_21 rfl 2 rfl ?_
      refine mr_aal IG LY HM ha ht1 dc_M_times_22 ?_
      refine vx_aload_n IG dc_M_times_23 rfl 0 rfl ?_
      refine vx_get IG (mo_M LY HM) rfl 0 (by decide) inM wF_M_11 rfl rfl dc_M_times_24 ?_
      refine vx_iload_n IG dc_M_times_27 rfl 3 rfl ?_
      refine mr_aal IG LY HM hb ht1 dc_M_times_28 ?_
      refine vx_callS (As := [.ref (ad a), .ref (ad b)]) (st := []) IG lw_good (cM_isProductTooLong HM a b (by omega) (by omega) ht (by omega) (by omega)) wC_M_isProductTooLong wL_M_82 wT_M_isProductTooLong wX_M 2 (by decide +kernel) rfl ⟨Nat.le_of_ble_eq_true rfl, Nat.le_of_ble_eq_true rfl⟩ ⟨(by dsimp only [rm_]; omega), (by dsimp only [rm_]; omega)⟩ rfl (Nat.le_of_ble_eq_true rfl) dc_M_times_29 (fun v h k3 n3 hq => ?_)
      obtain ⟨rfl, rfl, rfl, rfl⟩ := hq
      show vx_V _ _ _ _ _ _ _ _ _ 32 [(0, .ref (ad 30)), (1, .int (nI d)), (2, .int (nI a)), (3, .int (nI b))] [.int (if 65537 < bl (W a) + bl (W b) then 1 else 0)]
      by_cases y : 65537 < bl (W a) + bl (W b)
      · refine vx_topi (y := 1) (if_pos y) ?_
        refine vx_if_eq (tgt := 37) IG dc_M_times_32 (by decide) (fun c_ => absurd c_ (by decide)) (fun _ => ?_)
        refine vx_iconst (v := 0) IG dc_M_times_35 (by decide) ?_
        refine vx_ret (some (.int 0)) RG (vx_endi (by first | rfl | decide) dc_M_times_36) rfl ?_
        have hbig : ¬ bl (X a * X b).natAbs ≤ 65536 := by
          rw [Int.natAbs_mul, ← hWa.1, ← hWb.1]
          exact prod_big y
        unfold kp
        rw [kpV_0 hbig, kpX_0 hbig]
        exact ⟨rfl, W, C, S, HM, by omega, by omega⟩
      · refine vx_topi (y := 0) (if_neg y) ?_
        refine vx_if_eq (tgt := 37) IG dc_M_times_32 (by decide) (fun _ => ?_) (fun c_ => absurd rfl c_)
        refine vx_aload_n IG dc_M_times_37 rfl 0 rfl ?_
        refine vx_get IG (mo_M LY HM) rfl 2 (by decide) inM wF_M_20 rfl rfl dc_M_times_38 ?_
        refine vx_aload_n IG dc_M_times_41 rfl 0 rfl ?_
        refine vx_get IG (mo_M LY HM) rfl 0 (by decide) inM wF_M_11 rfl rfl dc_M_times_42 ?_
        refine vx_iload_n IG dc_M_times_45 rfl 2 rfl ?_
        refine mr_aal IG LY HM ha ht1 dc_M_times_46 ?_
        refine vx_aload_n IG dc_M_times_47 rfl 0 rfl ?_
        refine vx_get IG (mo_M LY HM) rfl 0 (by decide) inM wF_M_11 rfl rfl dc_M_times_48 ?_
        refine vx_iload_n IG dc_M_times_51 rfl 3 rfl ?_
        refine mr_aal IG LY HM hb ht1 dc_M_times_52 ?_
        refine vx_callV (As := [.ref (ad a), .ref (ad b)]) (st := []) IG lw_good (mW_product LY HM 16 a b (by decide) (by decide) (by omega) (by omega) (by omega) (by omega) ht (by omega)) ((mo_W HM (show 16 < 30 by decide)).choose_spec) rfl wC_W_product wL_M_86 wI_W_product wS_W_product wX_W 2 (by decide +kernel) rfl ⟨Nat.le_of_ble_eq_true rfl, Nat.le_of_ble_eq_true rfl⟩ ⟨(by dsimp only [rm_]; omega), (by dsimp only [rm_]; omega)⟩ rfl (Nat.le_of_ble_eq_true rfl) dc_M_times_53 (fun v h k4 n4 hq => ?_)
        obtain ⟨rfl, C1, S1, HM, hk1, hm1⟩ := hq
        show vx_V _ _ _ _ _ _ _ _ _ 56 [(0, .ref (ad 30)), (1, .int (nI d)), (2, .int (nI a)), (3, .int (nI b))] []
        refine vx_aload_n IG dc_M_times_56 rfl 0 rfl ?_
        refine vx_iload_n IG dc_M_times_57 rfl 1 rfl ?_
        refine vx_aload_n IG dc_M_times_58 rfl 0 rfl ?_
        refine vx_get IG (mo_M LY HM) rfl 1 (by decide) inM wF_M_15 rfl rfl dc_M_times_59 ?_
        refine vx_iload_n IG dc_M_times_62 rfl 2 rfl ?_
        refine mr_zal IG LY HM ha ht2 dc_M_times_63 ?_
        refine vx_aload_n IG dc_M_times_64 rfl 0 rfl ?_
        refine vx_get IG (mo_M LY HM) rfl 1 (by decide) inM wF_M_15 rfl rfl dc_M_times_65 ?_
        refine vx_iload_n IG dc_M_times_68 rfl 3 rfl ?_
        refine mr_zal IG LY HM hb ht2 dc_M_times_69 ?_
        by_cases x : sgI (X a) = sgI (X b)
        · refine vx_icmp_eq (tgt := 77) IG dc_M_times_70 (by decide) (fun _ => ?_) (fun c_ => absurd x c_)
          refine vx_iconst (v := 0) IG dc_M_times_77 (by decide) ?_
          refine vx_callV (As := [.int (nI d), .int 0]) (st := []) IG lw_good (cM_keep LY HM hd (Or.inl rfl) ht ht1 ht2) (mo_M LY HM) rfl wC_M_keep wL_M_52 wI_M_keep wS_M_keep wX_M 2 (by decide +kernel) rfl ⟨Nat.le_of_ble_eq_true rfl, Nat.le_of_ble_eq_true rfl⟩ ⟨(by dsimp only [rm_]; omega), (by dsimp only [rm_]; omega)⟩ rfl (Nat.le_of_ble_eq_true rfl) dc_M_times_78 (fun v h k5 n5 hq => ?_)
          rw [va_up_self, hWa.1, hWb.1, kz_mul0 x] at hq
          obtain ⟨rfl, W', C9, S9, HM9, hk9, hm9⟩ := hq
          show vx_V _ _ _ _ _ _ _ _ _ 81 [(0, .ref (ad 30)), (1, .int (nI d)), (2, .int (nI a)), (3, .int (nI b))] [.int (kpV (X a * X b))]
          refine vx_ret (some (.int (kpV (X a * X b)))) RG (vx_endi (by unfold kpV; split <;> rfl) dc_M_times_81) rfl ?_
          exact ⟨rfl, W', C9, S9, HM9, by omega, by omega⟩
        · refine vx_icmp_eq (tgt := 77) IG dc_M_times_70 (by decide) (fun c_ => absurd c_ x) (fun _ => ?_)
          refine vx_iconst (v := 1) IG dc_M_times_73 (by decide) ?_
          refine vx_goto (tgt := 78) IG dc_M_times_74 (by decide) ?_
          refine vx_callV (As := [.int (nI d), .int 1]) (st := []) IG lw_good (cM_keep LY HM hd (Or.inr rfl) ht ht1 ht2) (mo_M LY HM) rfl wC_M_keep wL_M_52 wI_M_keep wS_M_keep wX_M 2 (by decide +kernel) rfl ⟨Nat.le_of_ble_eq_true rfl, Nat.le_of_ble_eq_true rfl⟩ ⟨(by dsimp only [rm_]; omega), (by dsimp only [rm_]; omega)⟩ rfl (Nat.le_of_ble_eq_true rfl) dc_M_times_78 (fun v h k6 n6 hq => ?_)
          rw [va_up_self, hWa.1, hWb.1, kz_mul1 x] at hq
          obtain ⟨rfl, W', C9, S9, HM9, hk9, hm9⟩ := hq
          show vx_V _ _ _ _ _ _ _ _ _ 81 [(0, .ref (ad 30)), (1, .int (nI d)), (2, .int (nI a)), (3, .int (nI b))] [.int (kpV (X a * X b))]
          refine vx_ret (some (.int (kpV (X a * X b)))) RG (vx_endi (by unfold kpV; split <;> rfl) dc_M_times_81) rfl ?_
          exact ⟨rfl, W', C9, S9, HM9, by omega, by omega⟩
    · refine vx_topi (y := 0) (if_neg z1) ?_
      refine vx_if_ne (tgt := 17) IG dc_M_times_12 (by decide) (fun c_ => absurd rfl c_) (fun _ => ?_)
      refine vx_iconst (v := 0) IG dc_M_times_15 (by decide) ?_
      refine vx_ret (some (.int 0)) RG (vx_endi (by first | rfl | decide) dc_M_times_16) rfl ?_
      rw [sp3_no (fun q => z1 (q.2.2))]
      exact ⟨rfl, W, C, S, HM, by omega, by omega⟩
  · refine vx_topi (y := 0) (if_neg z0) ?_
    refine vx_if_eq (tgt := 15) IG dc_M_times_5 (by decide) (fun _ => ?_) (fun c_ => absurd rfl c_)
    refine vx_iconst (v := 0) IG dc_M_times_15 (by decide) ?_
    refine vx_ret (some (.int 0)) RG (vx_endi (by first | rfl | decide) dc_M_times_16) rfl ?_
    rw [sp3_no (fun q => z0 (⟨q.1, q.2.1⟩))]
    exact ⟨rfl, W, C, S, HM, by omega, by omega⟩
set_option maxRecDepth 100000 in
set_option maxHeartbeats 8000000 in
theorem cM_negate (LY : lay cQ ad r0) (HM : mw cJ cZ ad r0 W X h C S) (ht : tys[0]? = some (cJ, .long)) (ht1 : tys[1]? = some (cQ, .object "SignedMill$Whole")) (ht2 : tys[2]? = some (cZ, .boolean)) (r1 r2 : Int32) : vx_M l D vcl tys my_M_negate lw_gd (rm_ 6 C S 131) [.ref (ad 30), .int r1, .int r2] h (mpub cJ cZ ad r0 (sp2 0 X (fun d a => kp X d (-X a)) r1 r2).2 C S (sp2 0 X (fun d a => kp X d (-X a)) r1 r2).1) := by
  refine vx_M.ofV (cc := bc_M_negate) (maxL := 3) (ret := some .boolean) (own := rM) false rfl (by decide +kernel) wC_M_negate (fun q => by cases q) (Nat.le_of_ble_eq_true rfl) (fun A H0 G IG RG => ?_)
  show vx_V _ _ _ _ _ _ _ _ _ 0 [(0, .ref (ad 30)), (1, .int r1), (2, .int r2)] []
  refine vx_iload_n IG dc_M_negate_0 rfl 1 rfl ?_
  refine vx_iload_n IG dc_M_negate_1 rfl 2 rfl ?_
  refine vx_callS (As := [.int r1, .int r2]) (st := []) IG lw_good (cM_areRegisters _ r1 r2) wC_M_areRegisters wL_M_70 wT_M_areRegisters wX_M 2 (by decide +kernel) rfl ⟨Nat.le_of_ble_eq_true rfl, Nat.le_of_ble_eq_true rfl⟩ ⟨(by dsimp only [rm_]; omega), (by dsimp only [rm_]; omega)⟩ rfl (Nat.le_of_ble_eq_true rfl) dc_M_negate_2 (fun v h k1 n1 hq => ?_)
  obtain ⟨rfl, rfl, rfl, rfl⟩ := hq
  show vx_V _ _ _ _ _ _ _ _ _ 5 [(0, .ref (ad 30)), (1, .int r1), (2, .int r2)] [.int (if isR r1 ∧ isR r2 then 1 else 0)]
  by_cases z0 : isR r1 ∧ isR r2
  · refine vx_topi (y := 1) (if_pos z0) ?_
    refine vx_if_ne (tgt := 10) IG dc_M_negate_5 (by decide) (fun _ => ?_) (fun c_ => absurd c_ (by decide))
    obtain ⟨d, hd, rfl⟩ := isR_of z0.1
    obtain ⟨a, ha, rfl⟩ := isR_of z0.2
    rw [sp2_ok hd ha] at RG
    have hWa := mw_W HM ha
    have hna := lim_nd.mp hWa.2
    refine vx_aload_n IG dc_M_negate_10 rfl 0 rfl ?_
    refine vx_get IG (mo_M LY HM) rfl 2 (by decide) inM wF_M_20 rfl rfl dc_M_negate_11 ?_
    refine vx_aload_n IG dc_M_negate_14 rfl 0 rfl ?_
    refine vx_get IG (mo_M LY HM) rfl 0 (by decide) inM wF_M_11 rfl rfl dc_M_negate_15 ?_
    refine vx_iload_n IG dc_M_negate_18 rfl 2 rfl ?_
    refine mr_aal IG LY HM ha ht1 dc_M_negate_19 ?_
    refine vx_callV (As := [.ref (ad a)]) (st := []) IG lw_good (mW_copy LY HM 16 a (by decide) (by decide) (by omega) ht (by omega)) ((mo_W HM (show 16 < 30 by decide)).choose_spec) rfl wC_W_copy wL_M_74 wI_W_copy wS_W_copy wX_W 1 (by decide +kernel) rfl ⟨Nat.le_of_ble_eq_true rfl, Nat.le_of_ble_eq_true rfl⟩ ⟨(by dsimp only [rm_]; omega), (by dsimp only [rm_]; omega)⟩ rfl (Nat.le_of_ble_eq_true rfl) dc_M_negate_20 (fun v h k2 n2 hq => ?_)
    obtain ⟨rfl, C1, S1, HM, hk1, hm1⟩ := hq
    show vx_V _ _ _ _ _ _ _ _ _ 23 [(0, .ref (ad 30)), (1, .int (nI d)), (2, .int (nI a))] []
    refine vx_aload_n IG dc_M_negate_23 rfl 0 rfl ?_
    refine vx_iload_n IG dc_M_negate_24 rfl 1 rfl ?_
    refine vx_aload_n IG dc_M_negate_25 rfl 0 rfl ?_
    refine vx_get IG (mo_M LY HM) rfl 1 (by decide) inM wF_M_15 rfl rfl dc_M_negate_26 ?_
    refine vx_iload_n IG dc_M_negate_29 rfl 2 rfl ?_
    refine mr_zal IG LY HM ha ht2 dc_M_negate_30 ?_
    by_cases y : sgI (X a) = 0
    · refine vx_if_ne (tgt := 38) IG dc_M_negate_31 (by decide) (fun c_ => absurd y c_) (fun _ => ?_)
      refine vx_iconst (v := 1) IG dc_M_negate_34 (by decide) ?_
      refine vx_goto (tgt := 39) IG dc_M_negate_35 (by decide) ?_
      refine vx_callV (As := [.int (nI d), .int 1]) (st := []) IG lw_good (cM_keep LY HM hd (Or.inr rfl) ht ht1 ht2) (mo_M LY HM) rfl wC_M_keep wL_M_52 wI_M_keep wS_M_keep wX_M 2 (by decide +kernel) rfl ⟨Nat.le_of_ble_eq_true rfl, Nat.le_of_ble_eq_true rfl⟩ ⟨(by dsimp only [rm_]; omega), (by dsimp only [rm_]; omega)⟩ rfl (Nat.le_of_ble_eq_true rfl) dc_M_negate_39 (fun v h k3 n3 hq => ?_)
      rw [va_up_self, hWa.1, kz_flip1 y] at hq
      obtain ⟨rfl, W', C9, S9, HM9, hk9, hm9⟩ := hq
      show vx_V _ _ _ _ _ _ _ _ _ 42 [(0, .ref (ad 30)), (1, .int (nI d)), (2, .int (nI a))] [.int (kpV (-X a))]
      refine vx_ret (some (.int (kpV (-X a)))) RG (vx_endi (by unfold kpV; split <;> rfl) dc_M_negate_42) rfl ?_
      exact ⟨rfl, W', C9, S9, HM9, by omega, by omega⟩
    · refine vx_if_ne (tgt := 38) IG dc_M_negate_31 (by decide) (fun _ => ?_) (fun c_ => absurd c_ y)
      refine vx_iconst (v := 0) IG dc_M_negate_38 (by decide) ?_
      refine vx_callV (As := [.int (nI d), .int 0]) (st := []) IG lw_good (cM_keep LY HM hd (Or.inl rfl) ht ht1 ht2) (mo_M LY HM) rfl wC_M_keep wL_M_52 wI_M_keep wS_M_keep wX_M 2 (by decide +kernel) rfl ⟨Nat.le_of_ble_eq_true rfl, Nat.le_of_ble_eq_true rfl⟩ ⟨(by dsimp only [rm_]; omega), (by dsimp only [rm_]; omega)⟩ rfl (Nat.le_of_ble_eq_true rfl) dc_M_negate_39 (fun v h k4 n4 hq => ?_)
      rw [va_up_self, hWa.1, kz_flip0 y] at hq
      obtain ⟨rfl, W', C9, S9, HM9, hk9, hm9⟩ := hq
      show vx_V _ _ _ _ _ _ _ _ _ 42 [(0, .ref (ad 30)), (1, .int (nI d)), (2, .int (nI a))] [.int (kpV (-X a))]
      refine vx_ret (some (.int (kpV (-X a)))) RG (vx_endi (by unfold kpV; split <;> rfl) dc_M_negate_42) rfl ?_
      exact ⟨rfl, W', C9, S9, HM9, by omega, by omega⟩
  · refine vx_topi (y := 0) (if_neg z0) ?_
    refine vx_if_ne (tgt := 10) IG dc_M_negate_5 (by decide) (fun c_ => absurd rfl c_) (fun _ => ?_)
    refine vx_iconst (v := 0) IG dc_M_negate_8 (by decide) ?_
    refine vx_ret (some (.int 0)) RG (vx_endi (by first | rfl | decide) dc_M_negate_9) rfl ?_
    rw [sp2_no (fun q => z0 (⟨q.1, q.2⟩))]
    exact ⟨rfl, W, C, S, HM, by omega, by omega⟩
set_option maxRecDepth 100000 in
set_option maxHeartbeats 8000000 in
theorem cM_put (LY : lay cQ ad r0) (HM : mw cJ cZ ad r0 W X h C S) (ht : tys[0]? = some (cJ, .long)) (ht1 : tys[1]? = some (cQ, .object "SignedMill$Whole")) (ht2 : tys[2]? = some (cZ, .boolean)) (r1 : Int32) (v : Int64) : vx_M l D vcl tys my_M_put lw_gd (rm_ 6 C S 131) [.ref (ad 30), .int r1, .long v] h (mpub cJ cZ ad r0 (sp1 0 X (fun d => kp X d v.toInt) r1).2 C S (sp1 0 X (fun d => kp X d v.toInt) r1).1) := by
  refine vx_M.ofV (cc := bc_M_put) (maxL := 4) (ret := some .boolean) (own := rM) false rfl (by decide +kernel) wC_M_put (fun q => by cases q) (Nat.le_of_ble_eq_true rfl) (fun A H0 G IG RG => ?_)
  show vx_V _ _ _ _ _ _ _ _ _ 0 [(0, .ref (ad 30)), (1, .int r1), (2, .long v)] []
  refine vx_iload_n IG dc_M_put_0 rfl 1 rfl ?_
  refine vx_callS (As := [.int r1]) (st := []) IG lw_good (cM_isRegister _ r1) wC_M_isRegister wL_M_44 wT_M_isRegister wX_M 1 (by decide +kernel) rfl ⟨Nat.le_of_ble_eq_true rfl, Nat.le_of_ble_eq_true rfl⟩ ⟨(by dsimp only [rm_]; omega), (by dsimp only [rm_]; omega)⟩ rfl (Nat.le_of_ble_eq_true rfl) dc_M_put_1 (fun v h k1 n1 hq => ?_)
  obtain ⟨rfl, rfl, rfl, rfl⟩ := hq
  show vx_V _ _ _ _ _ _ _ _ _ 4 [(0, .ref (ad 30)), (1, .int r1), (2, .long v)] [.int (if isR r1 then 1 else 0)]
  by_cases z0 : isR r1
  · refine vx_topi (y := 1) (if_pos z0) ?_
    refine vx_if_ne (tgt := 9) IG dc_M_put_4 (by decide) (fun _ => ?_) (fun c_ => absurd c_ (by decide))
    obtain ⟨d, hd, rfl⟩ := isR_of z0
    rw [sp1_ok hd] at RG
    refine vx_aload_n IG dc_M_put_9 rfl 0 rfl ?_
    refine vx_get IG (mo_M LY HM) rfl 2 (by decide) inM wF_M_20 rfl rfl dc_M_put_10 ?_
    refine vx_lload_n IG dc_M_put_13 rfl 2 rfl ?_
    refine vx_lconst (v := 0) IG dc_M_put_14 (by decide) ?_
    refine vx_lcmp IG dc_M_put_15 ?_
    by_cases y : v < 0
    · obtain ⟨n, hn, e1, e2⟩ := neg_load y
      refine vx_if_ge (tgt := 24) IG dc_M_put_16 (by decide) (fun c_ => absurd c_ (fun q => absurd ((lg_cmp_ge _ _).mp q) (Int64.not_le.mpr y))) (fun _ => ?_)
      refine vx_lload_n IG dc_M_put_19 rfl 2 rfl ?_
      refine vx_lneg IG dc_M_put_20 ?_
      refine vx_topl (y := lN n) e1 ?_
      refine vx_goto (tgt := 25) IG dc_M_put_21 (by decide) ?_
      refine vx_callV (As := [.long (lN n)]) (st := []) IG lw_good (mW_load LY HM 16 (by decide) (by decide) ht hn) ((mo_W HM (show 16 < 30 by decide)).choose_spec) rfl wC_W_load wL_M_48 wI_W_load wS_W_load wX_W 1 (by decide +kernel) rfl ⟨Nat.le_of_ble_eq_true rfl, Nat.le_of_ble_eq_true rfl⟩ ⟨(by dsimp only [rm_]; omega), (by dsimp only [rm_]; omega)⟩ rfl (Nat.le_of_ble_eq_true rfl) dc_M_put_25 (fun v h k2 n2 hq => ?_)
      obtain ⟨rfl, C1, S1, HM, hk1, hm1⟩ := hq
      show vx_V _ _ _ _ _ _ _ _ _ 28 [(0, .ref (ad 30)), (1, .int (nI d)), (2, .long v)] []
      refine vx_aload_n IG dc_M_put_28 rfl 0 rfl ?_
      refine vx_iload_n IG dc_M_put_29 rfl 1 rfl ?_
      refine vx_lload_n IG dc_M_put_30 rfl 2 rfl ?_
      refine vx_lconst (v := 0) IG dc_M_put_31 (by decide) ?_
      refine vx_lcmp IG dc_M_put_32 ?_
      refine vx_if_ge (tgt := 40) IG dc_M_put_33 (by decide) (fun c_ => absurd c_ (fun q => absurd ((lg_cmp_ge _ _).mp q) (Int64.not_le.mpr y))) (fun _ => ?_)
      refine vx_iconst (v := 1) IG dc_M_put_36 (by decide) ?_
      refine vx_goto (tgt := 41) IG dc_M_put_37 (by decide) ?_
      refine vx_callV (As := [.int (nI d), .int 1]) (st := []) IG lw_good (cM_keep LY HM hd (Or.inr rfl) ht ht1 ht2) (mo_M LY HM) rfl wC_M_keep wL_M_52 wI_M_keep wS_M_keep wX_M 2 (by decide +kernel) rfl ⟨Nat.le_of_ble_eq_true rfl, Nat.le_of_ble_eq_true rfl⟩ ⟨(by dsimp only [rm_]; omega), (by dsimp only [rm_]; omega)⟩ rfl (Nat.le_of_ble_eq_true rfl) dc_M_put_41 (fun v h k3 n3 hq => ?_)
      rw [va_up_self, kz_1, ← e2] at hq
      obtain ⟨rfl, W', C9, S9, HM9, hk9, hm9⟩ := hq
      show vx_V _ _ _ _ _ _ _ _ _ 44 [(0, .ref (ad 30)), (1, .int (nI d)), (2, .long v)] [.int (kpV (v.toInt))]
      refine vx_ret (some (.int (kpV (v.toInt)))) RG (vx_endi (by unfold kpV; split <;> rfl) dc_M_put_44) rfl ?_
      exact ⟨rfl, W', C9, S9, HM9, by omega, by omega⟩
    · obtain ⟨n, hn, e1, e2⟩ := pos_load y
      refine vx_if_ge (tgt := 24) IG dc_M_put_16 (by decide) (fun _ => ?_) (fun c_ => absurd ((lg_cmp_ge _ _).mpr (Int64.not_lt.mp y)) c_)
      refine vx_lload_n IG dc_M_put_24 rfl 2 rfl ?_
      refine vx_topl (y := lN n) e1 ?_
      refine vx_callV (As := [.long (lN n)]) (st := []) IG lw_good (mW_load LY HM 16 (by decide) (by decide) ht hn) ((mo_W HM (show 16 < 30 by decide)).choose_spec) rfl wC_W_load wL_M_48 wI_W_load wS_W_load wX_W 1 (by decide +kernel) rfl ⟨Nat.le_of_ble_eq_true rfl, Nat.le_of_ble_eq_true rfl⟩ ⟨(by dsimp only [rm_]; omega), (by dsimp only [rm_]; omega)⟩ rfl (Nat.le_of_ble_eq_true rfl) dc_M_put_25 (fun v h k4 n4 hq => ?_)
      obtain ⟨rfl, C1, S1, HM, hk1, hm1⟩ := hq
      show vx_V _ _ _ _ _ _ _ _ _ 28 [(0, .ref (ad 30)), (1, .int (nI d)), (2, .long v)] []
      refine vx_aload_n IG dc_M_put_28 rfl 0 rfl ?_
      refine vx_iload_n IG dc_M_put_29 rfl 1 rfl ?_
      refine vx_lload_n IG dc_M_put_30 rfl 2 rfl ?_
      refine vx_lconst (v := 0) IG dc_M_put_31 (by decide) ?_
      refine vx_lcmp IG dc_M_put_32 ?_
      refine vx_if_ge (tgt := 40) IG dc_M_put_33 (by decide) (fun _ => ?_) (fun c_ => absurd ((lg_cmp_ge _ _).mpr (Int64.not_lt.mp y)) c_)
      refine vx_iconst (v := 0) IG dc_M_put_40 (by decide) ?_
      refine vx_callV (As := [.int (nI d), .int 0]) (st := []) IG lw_good (cM_keep LY HM hd (Or.inl rfl) ht ht1 ht2) (mo_M LY HM) rfl wC_M_keep wL_M_52 wI_M_keep wS_M_keep wX_M 2 (by decide +kernel) rfl ⟨Nat.le_of_ble_eq_true rfl, Nat.le_of_ble_eq_true rfl⟩ ⟨(by dsimp only [rm_]; omega), (by dsimp only [rm_]; omega)⟩ rfl (Nat.le_of_ble_eq_true rfl) dc_M_put_41 (fun v h k5 n5 hq => ?_)
      rw [va_up_self, kz_0, ← e2] at hq
      obtain ⟨rfl, W', C9, S9, HM9, hk9, hm9⟩ := hq
      show vx_V _ _ _ _ _ _ _ _ _ 44 [(0, .ref (ad 30)), (1, .int (nI d)), (2, .long v)] [.int (kpV (v.toInt))]
      refine vx_ret (some (.int (kpV (v.toInt)))) RG (vx_endi (by unfold kpV; split <;> rfl) dc_M_put_44) rfl ?_
      exact ⟨rfl, W', C9, S9, HM9, by omega, by omega⟩
  · refine vx_topi (y := 0) (if_neg z0) ?_
    refine vx_if_ne (tgt := 9) IG dc_M_put_4 (by decide) (fun c_ => absurd rfl c_) (fun _ => ?_)
    refine vx_iconst (v := 0) IG dc_M_put_7 (by decide) ?_
    refine vx_ret (some (.int 0)) RG (vx_endi (by first | rfl | decide) dc_M_put_8) rfl ?_
    rw [sp1_no (fun q => z0 (q))]
    exact ⟨rfl, W, C, S, HM, by omega, by omega⟩
set_option maxRecDepth 100000 in
set_option maxHeartbeats 8000000 in
theorem cM_push (LY : lay cQ ad r0) (HM : mw cJ cZ ad r0 W X h C S) (ht : tys[0]? = some (cJ, .long)) (ht1 : tys[1]? = some (cQ, .object "SignedMill$Whole")) (ht2 : tys[2]? = some (cZ, .boolean)) (r1 : Int32) {b : Nat} (hb : b < 18446744073709551616) : vx_M l D vcl tys my_M_push lw_gd (rm_ 6 C S 131) [.ref (ad 30), .int r1, .long (lN b)] h (mpub cJ cZ ad r0 (sp1 0 X (fun d => kp X d (kz (sgI (X d)) ((X d).natAbs * 2 ^ 64 + b))) r1).2 C S (sp1 0 X (fun d => kp X d (kz (sgI (X d)) ((X d).natAbs * 2 ^ 64 + b))) r1).1) := by
  refine vx_M.ofV (cc := bc_M_push) (maxL := 4) (ret := some .boolean) (own := rM) false rfl (by decide +kernel) wC_M_push (fun q => by cases q) (Nat.le_of_ble_eq_true rfl) (fun A H0 G IG RG => ?_)
  show vx_V _ _ _ _ _ _ _ _ _ 0 [(0, .ref (ad 30)), (1, .int r1), (2, .long (lN b))] []
  refine vx_iload_n IG dc_M_push_0 rfl 1 rfl ?_
  refine vx_callS (As := [.int r1]) (st := []) IG lw_good (cM_isRegister _ r1) wC_M_isRegister wL_M_44 wT_M_isRegister wX_M 1 (by decide +kernel) rfl ⟨Nat.le_of_ble_eq_true rfl, Nat.le_of_ble_eq_true rfl⟩ ⟨(by dsimp only [rm_]; omega), (by dsimp only [rm_]; omega)⟩ rfl (Nat.le_of_ble_eq_true rfl) dc_M_push_1 (fun v h k1 n1 hq => ?_)
  obtain ⟨rfl, rfl, rfl, rfl⟩ := hq
  show vx_V _ _ _ _ _ _ _ _ _ 4 [(0, .ref (ad 30)), (1, .int r1), (2, .long (lN b))] [.int (if isR r1 then 1 else 0)]
  by_cases z0 : isR r1
  · refine vx_topi (y := 1) (if_pos z0) ?_
    refine vx_if_ne (tgt := 9) IG dc_M_push_4 (by decide) (fun _ => ?_) (fun c_ => absurd c_ (by decide))
    obtain ⟨d, hd, rfl⟩ := isR_of z0
    rw [sp1_ok hd] at RG
    have hWa := mw_W HM hd
    have hna := lim_nd.mp hWa.2
    have hnr := nd_raise (A := W d) (n := 64)
    have hnb : nd 4294967296 b ≤ 2 := (nd_le bB1).mpr hb
    refine vx_aload_n IG dc_M_push_9 rfl 0 rfl ?_
    refine vx_get IG (mo_M LY HM) rfl 3 (by decide) inM wF_M_24 rfl rfl dc_M_push_10 ?_
    refine vx_lload_n IG dc_M_push_13 rfl 2 rfl ?_
    refine vx_callV (As := [.long (lN b)]) (st := []) IG lw_good (mW_load LY HM 17 (by decide) (by decide) ht hb) ((mo_W HM (show 17 < 30 by decide)).choose_spec) rfl wC_W_load wL_M_48 wI_W_load wS_W_load wX_W 1 (by decide +kernel) rfl ⟨Nat.le_of_ble_eq_true rfl, Nat.le_of_ble_eq_true rfl⟩ ⟨(by dsimp only [rm_]; omega), (by dsimp only [rm_]; omega)⟩ rfl (Nat.le_of_ble_eq_true rfl) dc_M_push_14 (fun v h k2 n2 hq => ?_)
    obtain ⟨rfl, C1, S1, HM, hk1, hm1⟩ := hq
    have v1 : va_up W 17 b d = W d := va_up_ne _ _ (by omega)
    show vx_V _ _ _ _ _ _ _ _ _ 17 [(0, .ref (ad 30)), (1, .int (nI d)), (2, .long (lN b))] []
    refine vx_aload_n IG dc_M_push_17 rfl 0 rfl ?_
    refine vx_get IG (mo_M LY HM) rfl 2 (by decide) inM wF_M_20 rfl rfl dc_M_push_18 ?_
    refine vx_aload_n IG dc_M_push_21 rfl 0 rfl ?_
    refine vx_get IG (mo_M LY HM) rfl 0 (by decide) inM wF_M_11 rfl rfl dc_M_push_22 ?_
    refine vx_iload_n IG dc_M_push_25 rfl 1 rfl ?_
    refine mr_aal IG LY HM hd ht1 dc_M_push_26 ?_
    refine vx_bipush (v := 64) IG dc_M_push_27 (by decide) ?_
    refine vx_callV (As := [.ref (ad d), .int 64]) (st := []) IG lw_good (mW_raise LY HM 16 d (by decide) (by decide) (by omega) ht (n := 64) (by decide) (by rw [v1]; omega)) ((mo_W HM (show 16 < 30 by decide)).choose_spec) rfl wC_W_raise wL_M_58 wI_W_raise wS_W_raise wX_W 2 (by decide +kernel) rfl ⟨Nat.le_of_ble_eq_true rfl, Nat.le_of_ble_eq_true rfl⟩ ⟨(by dsimp only [rm_]; omega), (by dsimp only [rm_]; omega)⟩ rfl (Nat.le_of_ble_eq_true rfl) dc_M_push_29 (fun v h k3 n3 hq => ?_)
    obtain ⟨rfl, C2, S2, HM, hk2, hm2⟩ := hq
    rw [v1] at HM
    have v2 : va_up (va_up W 17 b) 16 (W d * 2 ^ 64) 16 = W d * 2 ^ 64 := va_up_self _ _ _
    have v3 : va_up (va_up W 17 b) 16 (W d * 2 ^ 64) 17 = b := by rw [va_up_ne _ _ (by decide), va_up_self]
    show vx_V _ _ _ _ _ _ _ _ _ 32 [(0, .ref (ad 30)), (1, .int (nI d)), (2, .long (lN b))] []
    refine vx_aload_n IG dc_M_push_32 rfl 0 rfl ?_
    refine vx_get IG (mo_M LY HM) rfl 2 (by decide) inM wF_M_20 rfl rfl dc_M_push_33 ?_
    refine vx_aload_n IG dc_M_push_36 rfl 0 rfl ?_
    refine vx_get IG (mo_M LY HM) rfl 2 (by decide) inM wF_M_20 rfl rfl dc_M_push_37 ?_
    refine vx_aload_n IG dc_M_push_40 rfl 0 rfl ?_
    refine vx_get IG (mo_M LY HM) rfl 3 (by decide) inM wF_M_24 rfl rfl dc_M_push_41 ?_
    refine vx_callV (As := [.ref (ad 16), .ref (ad 17)]) (st := []) IG lw_good (mW_sum LY HM 16 16 17 (by decide) (by decide) (by decide) (by decide) ht (by rw [v2]; omega) (by rw [v3]; omega)) ((mo_W HM (show 16 < 30 by decide)).choose_spec) rfl wC_W_sum wL_M_62 wI_W_sum wS_W_sum wX_W 2 (by decide +kernel) rfl ⟨Nat.le_of_ble_eq_true rfl, Nat.le_of_ble_eq_true rfl⟩ ⟨(by dsimp only [rm_]; omega), (by dsimp only [rm_]; omega)⟩ rfl (Nat.le_of_ble_eq_true rfl) dc_M_push_44 (fun v h k4 n4 hq => ?_)
    obtain ⟨rfl, C3, S3, HM, hk3, hm3⟩ := hq
    rw [v2, v3] at HM
    show vx_V _ _ _ _ _ _ _ _ _ 47 [(0, .ref (ad 30)), (1, .int (nI d)), (2, .long (lN b))] []
    refine vx_aload_n IG dc_M_push_47 rfl 0 rfl ?_
    refine vx_iload_n IG dc_M_push_48 rfl 1 rfl ?_
    refine vx_aload_n IG dc_M_push_49 rfl 0 rfl ?_
    refine vx_get IG (mo_M LY HM) rfl 1 (by decide) inM wF_M_15 rfl rfl dc_M_push_50 ?_
    refine vx_iload_n IG dc_M_push_53 rfl 1 rfl ?_
    refine mr_zal IG LY HM hd ht2 dc_M_push_54 ?_
    refine vx_callV (As := [.int (nI d), .int (sgI (X d))]) (st := []) IG lw_good (cM_keep LY HM hd (sgI_01 (X d)) ht ht1 ht2) (mo_M LY HM) rfl wC_M_keep wL_M_52 wI_M_keep wS_M_keep wX_M 2 (by decide +kernel) rfl ⟨Nat.le_of_ble_eq_true rfl, Nat.le_of_ble_eq_true rfl⟩ ⟨(by dsimp only [rm_]; omega), (by dsimp only [rm_]; omega)⟩ rfl (Nat.le_of_ble_eq_true rfl) dc_M_push_55 (fun v h k5 n5 hq => ?_)
    rw [va_up_self, hWa.1] at hq
    obtain ⟨rfl, W', C9, S9, HM9, hk9, hm9⟩ := hq
    show vx_V _ _ _ _ _ _ _ _ _ 58 [(0, .ref (ad 30)), (1, .int (nI d)), (2, .long (lN b))] [.int (kpV (kz (sgI (X d)) ((X d).natAbs * 2 ^ 64 + b)))]
    refine vx_ret (some (.int (kpV (kz (sgI (X d)) ((X d).natAbs * 2 ^ 64 + b))))) RG (vx_endi (by unfold kpV; split <;> rfl) dc_M_push_58) rfl ?_
    exact ⟨rfl, W', C9, S9, HM9, by omega, by omega⟩
  · refine vx_topi (y := 0) (if_neg z0) ?_
    refine vx_if_ne (tgt := 9) IG dc_M_push_4 (by decide) (fun c_ => absurd rfl c_) (fun _ => ?_)
    refine vx_iconst (v := 0) IG dc_M_push_7 (by decide) ?_
    refine vx_ret (some (.int 0)) RG (vx_endi (by first | rfl | decide) dc_M_push_8) rfl ?_
    rw [sp1_no (fun q => z0 (q))]
    exact ⟨rfl, W, C, S, HM, by omega, by omega⟩
set_option maxRecDepth 100000 in
set_option maxHeartbeats 8000000 in
theorem cM_sign (LY : lay cQ ad r0) (HM : mw cJ cZ ad r0 W X h C S) (ht : tys[0]? = some (cJ, .long)) (ht1 : tys[1]? = some (cQ, .object "SignedMill$Whole")) (ht2 : tys[2]? = some (cZ, .boolean)) (r1 : Int32) : vx_M l D vcl tys my_M_sign lw_gd (rm_ 1 C S 21) [.ref (ad 30), .int r1] h (mpub cJ cZ ad r0 (sp1 (-2) X (fun d => (if X d = 0 then 0 else if X d < 0 then -1 else 1, X)) r1).2 C S (sp1 (-2) X (fun d => (if X d = 0 then 0 else if X d < 0 then -1 else 1, X)) r1).1) := by
  refine vx_M.ofV (cc := bc_M_sign) (maxL := 2) (ret := some .int) (own := rM) false rfl (by decide +kernel) wC_M_sign (fun q => by cases q) (Nat.le_of_ble_eq_true rfl) (fun A H0 G IG RG => ?_)
  show vx_V _ _ _ _ _ _ _ _ _ 0 [(0, .ref (ad 30)), (1, .int r1)] []
  refine vx_iload_n IG dc_M_sign_0 rfl 1 rfl ?_
  refine vx_callS (As := [.int r1]) (st := []) IG lw_good (cM_isRegister _ r1) wC_M_isRegister wL_M_44 wT_M_isRegister wX_M 1 (by decide +kernel) rfl ⟨Nat.le_of_ble_eq_true rfl, Nat.le_of_ble_eq_true rfl⟩ ⟨(by dsimp only [rm_]; omega), (by dsimp only [rm_]; omega)⟩ rfl (Nat.le_of_ble_eq_true rfl) dc_M_sign_1 (fun v h k1 n1 hq => ?_)
  obtain ⟨rfl, rfl, rfl, rfl⟩ := hq
  show vx_V _ _ _ _ _ _ _ _ _ 4 [(0, .ref (ad 30)), (1, .int r1)] [.int (if isR r1 then 1 else 0)]
  by_cases z0 : isR r1
  · refine vx_topi (y := 1) (if_pos z0) ?_
    refine vx_if_ne (tgt := 10) IG dc_M_sign_4 (by decide) (fun _ => ?_) (fun c_ => absurd c_ (by decide))
    obtain ⟨d, hd, rfl⟩ := isR_of z0
    rw [sp1_ok hd] at RG
    have hWa := mw_W HM hd
    refine vx_aload_n IG dc_M_sign_10 rfl 0 rfl ?_
    refine vx_get IG (mo_M LY HM) rfl 0 (by decide) inM wF_M_11 rfl rfl dc_M_sign_11 ?_
    refine vx_iload_n IG dc_M_sign_14 rfl 1 rfl ?_
    refine mr_aal IG LY HM hd ht1 dc_M_sign_15 ?_
    refine vx_callV (As := []) (st := []) IG lw_good (mW_isZero HM d (by omega)) ((mo_W HM (show d < 30 by omega)).choose_spec) rfl wC_W_isZero wL_M_89 wI_W_isZero wS_W_isZero wX_W 0 (by decide +kernel) rfl ⟨Nat.le_of_ble_eq_true rfl, Nat.le_of_ble_eq_true rfl⟩ ⟨(by dsimp only [rm_]; omega), (by dsimp only [rm_]; omega)⟩ rfl (Nat.le_of_ble_eq_true rfl) dc_M_sign_16 (fun v h k2 n2 hq => ?_)
    obtain ⟨rfl, rfl, rfl, rfl⟩ := hq
    show vx_V _ _ _ _ _ _ _ _ _ 19 [(0, .ref (ad 30)), (1, .int (nI d))] [.int (if W d = 0 then 1 else 0)]
    by_cases y : W d = 0
    · refine vx_topi (y := 1) (if_pos y) ?_
      refine vx_if_eq (tgt := 24) IG dc_M_sign_19 (by decide) (fun c_ => absurd c_ (by decide)) (fun _ => ?_)
      refine vx_iconst (v := 0) IG dc_M_sign_22 (by decide) ?_
      refine vx_ret (some (.int 0)) RG (vx_endi (by first | rfl | decide) dc_M_sign_23) rfl ?_
      exact ⟨by rw [if_pos (by omega)], W, C, S, HM, by omega, by omega⟩
    · refine vx_topi (y := 0) (if_neg y) ?_
      refine vx_if_eq (tgt := 24) IG dc_M_sign_19 (by decide) (fun _ => ?_) (fun c_ => absurd rfl c_)
      refine vx_aload_n IG dc_M_sign_24 rfl 0 rfl ?_
      refine vx_get IG (mo_M LY HM) rfl 1 (by decide) inM wF_M_15 rfl rfl dc_M_sign_25 ?_
      refine vx_iload_n IG dc_M_sign_28 rfl 1 rfl ?_
      refine mr_zal IG LY HM hd ht2 dc_M_sign_29 ?_
      by_cases x : X d < 0
      · refine vx_if_eq (tgt := 37) IG dc_M_sign_30 (by decide) (fun c_ => absurd c_ (by rw [sgI_neg x]; decide)) (fun _ => ?_)
        refine vx_iconst (v := -1) IG dc_M_sign_33 (by decide) ?_
        refine vx_goto (tgt := 38) IG dc_M_sign_34 (by decide) ?_
        refine vx_ret (some (.int (-1))) RG (vx_endi (by first | rfl | decide) dc_M_sign_38) rfl ?_
        exact ⟨by rw [if_neg (by omega), if_pos x], W, C, S, HM, by omega, by omega⟩
      · refine vx_if_eq (tgt := 37) IG dc_M_sign_30 (by decide) (fun _ => ?_) (fun c_ => absurd (sgI_pos x) c_)
        refine vx_iconst (v := 1) IG dc_M_sign_37 (by decide) ?_
        refine vx_ret (some (.int 1)) RG (vx_endi (by first | rfl | decide) dc_M_sign_38) rfl ?_
        exact ⟨by rw [if_neg (by omega), if_neg x], W, C, S, HM, by omega, by omega⟩
  · refine vx_topi (y := 0) (if_neg z0) ?_
    refine vx_if_ne (tgt := 10) IG dc_M_sign_4 (by decide) (fun c_ => absurd rfl c_) (fun _ => ?_)
    refine vx_bipush (v := -2) IG dc_M_sign_7 (by decide) ?_
    refine vx_ret (some (.int (-2))) RG (vx_endi (by first | rfl | decide) dc_M_sign_9) rfl ?_
    rw [sp1_no (fun q => z0 (q))]
    exact ⟨rfl, W, C, S, HM, by omega, by omega⟩
set_option maxRecDepth 100000 in
set_option maxHeartbeats 8000000 in
theorem cM_compare (LY : lay cQ ad r0) (HM : mw cJ cZ ad r0 W X h C S) (ht : tys[0]? = some (cJ, .long)) (ht1 : tys[1]? = some (cQ, .object "SignedMill$Whole")) (ht2 : tys[2]? = some (cZ, .boolean)) (r1 r2 : Int32) : vx_M l D vcl tys my_M_compare lw_gd (rm_ 2 C S 42) [.ref (ad 30), .int r1, .int r2] h (mpub cJ cZ ad r0 (sp2 (-2) X (fun a b => (cmpZ (X a) (X b), X)) r1 r2).2 C S (sp2 (-2) X (fun a b => (cmpZ (X a) (X b), X)) r1 r2).1) := by
  refine vx_M.ofV (cc := bc_M_compare) (maxL := 4) (ret := some .int) (own := rM) false rfl (by decide +kernel) wC_M_compare (fun q => by cases q) (Nat.le_of_ble_eq_true rfl) (fun A H0 G IG RG => ?_)
  show vx_V _ _ _ _ _ _ _ _ _ 0 [(0, .ref (ad 30)), (1, .int r1), (2, .int r2)] []
  refine vx_iload_n IG dc_M_compare_0 rfl 1 rfl ?_
  refine vx_iload_n IG dc_M_compare_1 rfl 2 rfl ?_
  refine vx_callS (As := [.int r1, .int r2]) (st := []) IG lw_good (cM_areRegisters _ r1 r2) wC_M_areRegisters wL_M_70 wT_M_areRegisters wX_M 2 (by decide +kernel) rfl ⟨Nat.le_of_ble_eq_true rfl, Nat.le_of_ble_eq_true rfl⟩ ⟨(by dsimp only [rm_]; omega), (by dsimp only [rm_]; omega)⟩ rfl (Nat.le_of_ble_eq_true rfl) dc_M_compare_2 (fun v h k1 n1 hq => ?_)
  obtain ⟨rfl, rfl, rfl, rfl⟩ := hq
  show vx_V _ _ _ _ _ _ _ _ _ 5 [(0, .ref (ad 30)), (1, .int r1), (2, .int r2)] [.int (if isR r1 ∧ isR r2 then 1 else 0)]
  by_cases z0 : isR r1 ∧ isR r2
  · refine vx_topi (y := 1) (if_pos z0) ?_
    refine vx_if_ne (tgt := 11) IG dc_M_compare_5 (by decide) (fun _ => ?_) (fun c_ => absurd c_ (by decide))
    obtain ⟨a, ha, rfl⟩ := isR_of z0.1
    obtain ⟨b, hb, rfl⟩ := isR_of z0.2
    rw [sp2_ok ha hb] at RG
    have hWa := mw_W HM ha
    have hWb := mw_W HM hb
    refine vx_aload_n IG dc_M_compare_11 rfl 0 rfl ?_
    refine vx_get IG (mo_M LY HM) rfl 1 (by decide) inM wF_M_15 rfl rfl dc_M_compare_12 ?_
    refine vx_iload_n IG dc_M_compare_15 rfl 1 rfl ?_
    refine mr_zal IG LY HM ha ht2 dc_M_compare_16 ?_
    refine vx_aload_n IG dc_M_compare_17 rfl 0 rfl ?_
    refine vx_get IG (mo_M LY HM) rfl 1 (by decide) inM wF_M_15 rfl rfl dc_M_compare_18 ?_
    refine vx_iload_n IG dc_M_compare_21 rfl 2 rfl ?_
    refine mr_zal IG LY HM hb ht2 dc_M_compare_22 ?_
    by_cases y : sgI (X a) = sgI (X b)
    · refine vx_icmp_eq (tgt := 41) IG dc_M_compare_23 (by decide) (fun _ => ?_) (fun c_ => absurd y c_)
      refine vx_aload_n IG dc_M_compare_41 rfl 0 rfl ?_
      refine vx_get IG (mo_M LY HM) rfl 0 (by decide) inM wF_M_11 rfl rfl dc_M_compare_42 ?_
      refine vx_iload_n IG dc_M_compare_45 rfl 1 rfl ?_
      refine mr_aal IG LY HM ha ht1 dc_M_compare_46 ?_
      refine vx_aload_n IG dc_M_compare_47 rfl 0 rfl ?_
      refine vx_get IG (mo_M LY HM) rfl 0 (by decide) inM wF_M_11 rfl rfl dc_M_compare_48 ?_
      refine vx_iload_n IG dc_M_compare_51 rfl 2 rfl ?_
      refine mr_aal IG LY HM hb ht1 dc_M_compare_52 ?_
      refine vx_callV (As := [.ref (ad b)]) (st := []) IG lw_good (mW_against HM a b (by omega) (by omega) ht) ((mo_W HM (show a < 30 by omega)).choose_spec) rfl wC_W_against wL_M_182 wI_W_against wS_W_against wX_W 1 (by decide +kernel) rfl ⟨Nat.le_of_ble_eq_true rfl, Nat.le_of_ble_eq_true rfl⟩ ⟨(by dsimp only [rm_]; omega), (by dsimp only [rm_]; omega)⟩ rfl (Nat.le_of_ble_eq_true rfl) dc_M_compare_53 (fun v h k2 n2 hq => ?_)
      obtain ⟨rfl, rfl, rfl, rfl⟩ := hq
      show vx_V _ _ _ _ _ _ _ _ _ 56 [(0, .ref (ad 30)), (1, .int (nI a)), (2, .int (nI b))] [.int (cmpI (W a) (W b))]
      refine vx_istore_n (lv' := [(3, .int (cmpI (W a) (W b))), (0, .ref (ad 30)), (1, .int (nI a)), (2, .int (nI b))]) IG dc_M_compare_56 rfl (by decide) rfl ?_
      refine vx_aload_n IG dc_M_compare_57 rfl 1 rfl ?_
      refine vx_get IG (mo_M LY HM) rfl 1 (by decide) inM wF_M_15 rfl rfl dc_M_compare_58 ?_
      refine vx_iload_n IG dc_M_compare_61 rfl 2 rfl ?_
      refine mr_zal IG LY HM ha ht2 dc_M_compare_62 ?_
      by_cases x : sgI (X a) = 0
      · refine vx_if_eq (tgt := 71) IG dc_M_compare_63 (by decide) (fun _ => ?_) (fun c_ => absurd x c_)
        refine vx_iload_n IG dc_M_compare_71 rfl 0 rfl ?_
        refine vx_ret (some (.int (cmpI (W a) (W b)))) RG (vx_endi (by first | rfl | decide) dc_M_compare_72) rfl ?_
        exact ⟨by rw [hWa.1, hWb.1, cmpZ_pos x (y ▸ x)], W, C, S, HM, by omega, by omega⟩
      · refine vx_if_eq (tgt := 71) IG dc_M_compare_63 (by decide) (fun c_ => absurd c_ x) (fun _ => ?_)
        refine vx_iload_n IG dc_M_compare_66 rfl 0 rfl ?_
        refine vx_ineg IG dc_M_compare_67 ?_
        refine vx_goto (tgt := 72) IG dc_M_compare_68 (by decide) ?_
        refine vx_ret (some (.int (-(cmpI (W a) (W b))))) RG (vx_endi (by first | rfl | decide) dc_M_compare_72) rfl ?_
        exact ⟨by rw [hWa.1, hWb.1, cmpZ_neg x (y ▸ x)], W, C, S, HM, by omega, by omega⟩
    · refine vx_icmp_eq (tgt := 41) IG dc_M_compare_23 (by decide) (fun c_ => absurd c_ y) (fun _ => ?_)
      refine vx_aload_n IG dc_M_compare_26 rfl 0 rfl ?_
      refine vx_get IG (mo_M LY HM) rfl 1 (by decide) inM wF_M_15 rfl rfl dc_M_compare_27 ?_
      refine vx_iload_n IG dc_M_compare_30 rfl 1 rfl ?_
      refine mr_zal IG LY HM ha ht2 dc_M_compare_31 ?_
      by_cases x : sgI (X a) = 0
      · refine vx_if_eq (tgt := 39) IG dc_M_compare_32 (by decide) (fun _ => ?_) (fun c_ => absurd x c_)
        refine vx_iconst (v := 1) IG dc_M_compare_39 (by decide) ?_
        refine vx_ret (some (.int 1)) RG (vx_endi (by first | rfl | decide) dc_M_compare_40) rfl ?_
        exact ⟨by rw [cmpZ_pn x y], W, C, S, HM, by omega, by omega⟩
      · refine vx_if_eq (tgt := 39) IG dc_M_compare_32 (by decide) (fun c_ => absurd c_ x) (fun _ => ?_)
        refine vx_iconst (v := -1) IG dc_M_compare_35 (by decide) ?_
        refine vx_goto (tgt := 40) IG dc_M_compare_36 (by decide) ?_
        refine vx_ret (some (.int (-1))) RG (vx_endi (by first | rfl | decide) dc_M_compare_40) rfl ?_
        exact ⟨by rw [cmpZ_np x y], W, C, S, HM, by omega, by omega⟩
  · refine vx_topi (y := 0) (if_neg z0) ?_
    refine vx_if_ne (tgt := 11) IG dc_M_compare_5 (by decide) (fun c_ => absurd rfl c_) (fun _ => ?_)
    refine vx_bipush (v := -2) IG dc_M_compare_8 (by decide) ?_
    refine vx_ret (some (.int (-2))) RG (vx_endi (by first | rfl | decide) dc_M_compare_10) rfl ?_
    rw [sp2_no (fun q => z0 (⟨q.1, q.2⟩))]
    exact ⟨rfl, W, C, S, HM, by omega, by omega⟩
end
