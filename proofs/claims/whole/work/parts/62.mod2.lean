/-! the mill: power, modulo -/
theorem i32_m2 (x : Int32) : x - 2 = x - 1 - 1 := by rw [Int32.sub_eq_add_neg x 2, Int32.sub_eq_add_neg (x - 1) 1, Int32.sub_eq_add_neg x 1, Int32.add_assoc]; rfl
section
variable {l : Launch} {D : va_G} {tys : List (ClassId × FieldType)} {cJ cQ cZ : ClassId} {ad : Nat → Nat} {r0 h : vx_h} {W : Nat → Nat} {X : Nat → Int} {C S : Nat} {a b d e m : Nat} {w : Int32}
set_option maxRecDepth 100000 in
set_option maxHeartbeats 4000000 in
theorem cM_power (LY : lay cQ ad r0) (HM : mw cJ cZ ad r0 W X h C S) (ht : tys[0]? = some (cJ, .long)) (ht1 : tys[1]? = some (cQ, .object "SignedMill$Whole")) (ht2 : tys[2]? = some (cZ, .boolean)) (r1 r2 p : Int32) : vx_M l D vcl tys my_M_power lw_gd (rm_ 7 C S 156) [.ref (ad 30), .int r1, .int r2, .int p] h (mpub cJ cZ ad r0 (sp2 0 X (pwF X p) r1 r2).2 C S (sp2 0 X (pwF X p) r1 r2).1) := by
  refine vx_M.ofV (cc := bc_M_power) (maxL := 4) (ret := some .boolean) (own := rM) false rfl (by decide +kernel) wC_M_power (fun q => by cases q) (Nat.le_of_ble_eq_true rfl) (fun A H0 G IG RG => ?_)
  show vx_V _ _ _ _ _ _ _ _ _ 0 [(0, .ref (ad 30)), (1, .int r1), (2, .int r2), (3, .int p)] []
  refine vx_iload_n IG dc_M_power_0 rfl 1 rfl ?_
  refine vx_iload_n IG dc_M_power_1 rfl 2 rfl ?_
  refine vx_callS (As := [.int r1, .int r2]) (st := []) IG lw_good (cM_areRegisters _ r1 r2) wC_M_areRegisters wL_M_70 wT_M_areRegisters wX_M 2 (by decide +kernel) rfl ⟨Nat.le_of_ble_eq_true rfl, Nat.le_of_ble_eq_true rfl⟩ ⟨(by dsimp only [rm_]; omega), (by dsimp only [rm_]; omega)⟩ rfl (Nat.le_of_ble_eq_true rfl) dc_M_power_2 (fun v h k1 n1 hq => ?_)
  obtain ⟨rfl, rfl, rfl, rfl⟩ := hq
  show vx_V _ _ _ _ _ _ _ _ _ 5 [(0, .ref (ad 30)), (1, .int r1), (2, .int r2), (3, .int p)] [.int (if isR r1 ∧ isR r2 then 1 else 0)]
  by_cases z0 : isR r1 ∧ isR r2
  · refine vx_topi (y := 1) (if_pos z0) ?_
    refine vx_if_eq (tgt := 12) IG dc_M_power_5 (by decide) (fun c_ => absurd c_ (by decide)) (fun _ => ?_)
    obtain ⟨d, hd, rfl⟩ := isR_of z0.1
    obtain ⟨a, ha, rfl⟩ := isR_of z0.2
    rw [sp2_ok hd ha] at RG
    unfold pwF at RG
    refine vx_iload_n IG dc_M_power_8 rfl 3 rfl ?_
    have i0 : (0 : Int32).toInt = 0 := rfl
    by_cases y : (0 : Int32) ≤ p
    · refine vx_if_ge (tgt := 14) IG dc_M_power_9 (by decide) (fun _ => ?_) (fun c_ => absurd y c_)
      rw [Int32.le_iff_toInt_le, i0] at y
      rw [if_pos y] at RG
      obtain ⟨n, hn, rfl⟩ := i32_pos y
      rw [nI_toInt hn, Int.toNat_natCast] at RG
      refine vx_aload_n IG dc_M_power_14 rfl 0 rfl ?_
      refine vx_aload_n IG dc_M_power_15 rfl 0 rfl ?_
      refine vx_get IG (mo_M LY HM) rfl 0 (by decide) inM wF_M_11 rfl rfl dc_M_power_16 ?_
      refine vx_iload_n IG dc_M_power_19 rfl 2 rfl ?_
      refine mr_aal IG LY HM ha ht1 dc_M_power_20 ?_
      refine vx_iload_n IG dc_M_power_21 rfl 3 rfl ?_
      refine vx_callV (As := [.ref (ad a), .int (nI n)]) (st := []) IG lw_good (cM_findPower LY HM ha hn ht) (mo_M LY HM) rfl wC_M_findPower wL_M_154 wI_M_findPower wS_M_findPower wX_M 2 (by decide +kernel) rfl ⟨Nat.le_of_ble_eq_true rfl, Nat.le_of_ble_eq_true rfl⟩ ⟨(by dsimp only [rm_]; omega), (by dsimp only [rm_]; omega)⟩ rfl (Nat.le_of_ble_eq_true rfl) dc_M_power_22 (fun v h k2 n2 hq => ?_)
      obtain ⟨W1, C1, S1, HM, hk1, hm1, hv⟩ := hq
      rcases hv with ⟨rfl, hi⟩ | ⟨rfl, hi⟩
      · show vx_V _ _ _ _ _ _ _ _ _ 25 [(0, .ref (ad 30)), (1, .int (nI d)), (2, .int (nI a)), (3, .int (nI n))] [.int 1]
        refine vx_if_eq (tgt := 60) IG dc_M_power_25 (by decide) (fun c_ => absurd c_ (by decide)) (fun _ => ?_)
        have fin : ∀ (w : Int32) (k n_ : Nat), (w = 0 ∨ w = 1) → kz w (W1 16) = X a ^ n → k + C1 ≤ C → n_ + S1 ≤ S → vx_V D vcl A H0 4 G h k n_ 50 [(0, .ref (ad 30)), (1, .int (nI d)), (2, .int (nI a)), (3, .int (nI n))] [.int w, .int (nI d), .ref (ad 30)] := by
          intro w k n_ hw ez hk hn_
          refine vx_callV (As := [.int (nI d), .int w]) (st := []) IG lw_good (cM_keep LY HM hd hw ht ht1 ht2) (mo_M LY HM) rfl wC_M_keep wL_M_52 wI_M_keep wS_M_keep wX_M 2 (by decide +kernel) rfl ⟨Nat.le_of_ble_eq_true rfl, Nat.le_of_ble_eq_true rfl⟩ ⟨(by dsimp only [rm_]; omega), (by dsimp only [rm_]; omega)⟩ rfl (Nat.le_of_ble_eq_true rfl) dc_M_power_50 (fun v h k11 n11 hq => ?_)
          rw [ez] at hq
          obtain ⟨rfl, W', C9, S9, HM9, hk9, hm9⟩ := hq
          show vx_V _ _ _ _ _ _ _ _ _ 53 [(0, .ref (ad 30)), (1, .int (nI d)), (2, .int (nI a)), (3, .int (nI n))] [.int (kpV (X a ^ n))]
          by_cases u : bl (X a ^ n).natAbs ≤ 65536
          · refine vx_topi (y := 1) (kpV_1 u) ?_
            refine vx_if_eq (tgt := 60) IG dc_M_power_53 (by decide) (fun c_ => absurd c_ (by decide)) (fun _ => ?_)
            refine vx_iconst (v := 1) IG dc_M_power_56 (by decide) ?_
            refine vx_goto (tgt := 61) IG dc_M_power_57 (by decide) ?_
            refine vx_ret (some (.int 1)) RG (vx_endi (by first | rfl | decide) dc_M_power_61) rfl ?_
            exact ⟨congrArg (fun x => some (Value.int x)) (kpV_1 u).symm, W', C9, S9, HM9, by omega, by omega⟩
          · refine vx_topi (y := 0) (kpV_0 u) ?_
            refine vx_if_eq (tgt := 60) IG dc_M_power_53 (by decide) (fun _ => ?_) (fun c_ => absurd rfl c_)
            refine vx_iconst (v := 0) IG dc_M_power_60 (by decide) ?_
            refine vx_ret (some (.int 0)) RG (vx_endi (by first | rfl | decide) dc_M_power_61) rfl ?_
            exact ⟨congrArg (fun x => some (Value.int x)) (kpV_0 u).symm, W', C9, S9, HM9, by omega, by omega⟩
        refine vx_aload_n IG dc_M_power_28 rfl 0 rfl ?_
        refine vx_iload_n IG dc_M_power_29 rfl 1 rfl ?_
        refine vx_aload_n IG dc_M_power_30 rfl 0 rfl ?_
        refine vx_get IG (mo_M LY HM) rfl 1 (by decide) inM wF_M_15 rfl rfl dc_M_power_31 ?_
        refine vx_iload_n IG dc_M_power_34 rfl 2 rfl ?_
        refine mr_zal IG LY HM ha ht2 dc_M_power_35 ?_
        by_cases u : X a < 0
        · refine vx_if_eq (tgt := 49) IG dc_M_power_36 (by decide) (fun c_ => absurd c_ (by rw [sgI_neg u]; decide)) (fun _ => ?_)
          refine vx_iload_n IG dc_M_power_39 rfl 3 rfl ?_
          refine vx_iconst (v := 1) IG dc_M_power_40 (by decide) ?_
          refine vx_iand IG dc_M_power_41 ?_
          refine vx_topi (y := nI (n % 2)) (pk_andN (by omega) (m := 1) 1 (by decide)) ?_
          by_cases v : n % 2 = 1
          · refine vx_if_eq (tgt := 49) IG dc_M_power_42 (by decide) (fun c_ => absurd c_ (by rw [v]; decide)) (fun _ => ?_)
            refine vx_iconst (v := 1) IG dc_M_power_45 (by decide) ?_
            refine vx_goto (tgt := 50) IG dc_M_power_46 (by decide) ?_
            exact fin 1 _ _ (Or.inr rfl) (by rw [hi]; exact kz_pw1 u v) (by omega) (by omega)
          · refine vx_if_eq (tgt := 49) IG dc_M_power_42 (by decide) (fun _ => ?_) (fun c_ => absurd (by rw [show n % 2 = 0 by omega]; rfl) c_)
            refine vx_iconst (v := 0) IG dc_M_power_49 (by decide) ?_
            exact fin 0 _ _ (Or.inl rfl) (by rw [hi]; exact kz_pw0 (fun q => v q.2)) (by omega) (by omega)
        · refine vx_if_eq (tgt := 49) IG dc_M_power_36 (by decide) (fun _ => ?_) (fun c_ => absurd (sgI_pos u) c_)
          refine vx_iconst (v := 0) IG dc_M_power_49 (by decide) ?_
          exact fin 0 _ _ (Or.inl rfl) (by rw [hi]; exact kz_pw0 (fun q => u q.1)) (by omega) (by omega)
      · show vx_V _ _ _ _ _ _ _ _ _ 25 [(0, .ref (ad 30)), (1, .int (nI d)), (2, .int (nI a)), (3, .int (nI n))] [.int 0]
        refine vx_if_eq (tgt := 60) IG dc_M_power_25 (by decide) (fun _ => ?_) (fun c_ => absurd rfl c_)
        refine vx_iconst (v := 0) IG dc_M_power_60 (by decide) ?_
        refine vx_ret (some (.int 0)) RG (vx_endi (by first | rfl | decide) dc_M_power_61) rfl ?_
        have hbig : ¬ bl (X a ^ n).natAbs ≤ 65536 := by rw [Int.natAbs_pow]; exact hi
        unfold kp
        rw [kpV_0 hbig, kpX_0 hbig]
        exact ⟨rfl, W1, C1, S1, HM, by omega, by omega⟩
    · refine vx_if_ge (tgt := 14) IG dc_M_power_9 (by decide) (fun c_ => absurd c_ y) (fun _ => ?_)
      rw [if_neg (fun q => y (by rw [Int32.le_iff_toInt_le, i0]; exact q))] at RG
      refine vx_iconst (v := 0) IG dc_M_power_12 (by decide) ?_
      refine vx_ret (some (.int 0)) RG (vx_endi (by first | rfl | decide) dc_M_power_13) rfl ?_
      exact ⟨rfl, W, C, S, HM, by omega, by omega⟩
  · refine vx_topi (y := 0) (if_neg z0) ?_
    refine vx_if_eq (tgt := 12) IG dc_M_power_5 (by decide) (fun _ => ?_) (fun c_ => absurd rfl c_)
    refine vx_iconst (v := 0) IG dc_M_power_12 (by decide) ?_
    refine vx_ret (some (.int 0)) RG (vx_endi (by first | rfl | decide) dc_M_power_13) rfl ?_
    rw [sp2_no z0]
    exact ⟨rfl, W, C, S, HM, by omega, by omega⟩
set_option maxRecDepth 100000 in
set_option maxHeartbeats 4000000 in
theorem cM_multiplyByModulus (LY : lay cQ ad r0) (HM : mw cJ cZ ad r0 W X h C S) (f : Nat) (hf : f = 16 ∨ f = 18) (hm : m < 16) (h1 : W 16 ≤ W m) (h2 : W f ≤ W m) (ht : tys[0]? = some (cJ, .long)) : vx_M l D vcl tys my_M_multiplyByModulus lw_gd (rm_ 5 C S 132) [.ref (ad 30), .ref (ad f), .ref (ad m)] h (fun v h' k n => v = none ∧ ∃ W' C' S', mw cJ cZ ad r0 W' X h' C' S' ∧ W' 16 = W 16 * W f % W m ∧ W' 18 = W 18 ∧ k + C' ≤ C ∧ n + S' ≤ S) := by
  refine vx_M.ofV (cc := bc_M_multiplyByModulus) (maxL := 3) (ret := none) (own := rM) false rfl (by decide +kernel) wC_M_multiplyByModulus (fun q => by cases q) (Nat.le_of_ble_eq_true rfl) (fun A H0 G IG RG => ?_)
  show vx_V _ _ _ _ _ _ _ _ _ 0 [(0, .ref (ad 30)), (1, .ref (ad f)), (2, .ref (ad m))] []
  have hWm := mw_W HM hm
  have hnm := lim_nd.mp hWm.2
  have n1 : nd 4294967296 (W 16) ≤ 2048 := Nat.le_trans (nd_mono bB1 h1) hnm
  have n2 : nd 4294967296 (W f) ≤ 2048 := Nat.le_trans (nd_mono bB1 h2) hnm
  have n3 := nd_mul (W 16) (W f)
  refine vx_aload_n IG dc_M_multiplyByModulus_0 rfl 0 rfl ?_
  refine vx_get IG (mo_M LY HM) rfl 3 (by decide) inM wF_M_24 rfl rfl dc_M_multiplyByModulus_1 ?_
  refine vx_aload_n IG dc_M_multiplyByModulus_4 rfl 0 rfl ?_
  refine vx_get IG (mo_M LY HM) rfl 2 (by decide) inM wF_M_20 rfl rfl dc_M_multiplyByModulus_5 ?_
  refine vx_aload_n IG dc_M_multiplyByModulus_8 rfl 1 rfl ?_
  refine vx_callV (As := [.ref (ad 16), .ref (ad f)]) (st := []) IG lw_good (mW_product LY HM 17 16 f (by decide) (by decide) (by decide) (by omega) (by decide) (by omega) ht (by omega)) ((mo_W HM (show 17 < 30 by decide)).choose_spec) rfl wC_W_product wL_M_86 wI_W_product wS_W_product wX_W 2 (by decide +kernel) rfl ⟨Nat.le_of_ble_eq_true rfl, Nat.le_of_ble_eq_true rfl⟩ ⟨(by dsimp only [rm_]; omega), (by dsimp only [rm_]; omega)⟩ rfl (Nat.le_of_ble_eq_true rfl) dc_M_multiplyByModulus_9 (fun v h k6 n6 hq => ?_)
  obtain ⟨rfl, C1, S1, HM, hk1, hm1⟩ := hq
  have v17 : va_up W 17 (W 16 * W f) 17 = W 16 * W f := va_up_self _ _ _
  have v18 : va_up W 17 (W 16 * W f) 18 = W 18 := va_up_ne _ _ (by decide)
  have vm : va_up W 17 (W 16 * W f) m = W m := va_up_ne _ _ (by omega)
  generalize va_up W 17 (W 16 * W f) = W1 at *
  show vx_V _ _ _ _ _ _ _ _ _ 12 [(0, .ref (ad 30)), (1, .ref (ad f)), (2, .ref (ad m))] []
  refine vx_aload_n IG dc_M_multiplyByModulus_12 rfl 0 rfl ?_
  refine vx_get IG (mo_M LY HM) rfl 5 (by decide) inM wF_M_33 rfl rfl dc_M_multiplyByModulus_13 ?_
  refine vx_aload_n IG dc_M_multiplyByModulus_16 rfl 0 rfl ?_
  refine vx_get IG (mo_M LY HM) rfl 3 (by decide) inM wF_M_24 rfl rfl dc_M_multiplyByModulus_17 ?_
  refine vx_aload_n IG dc_M_multiplyByModulus_20 rfl 2 rfl ?_
  refine vx_callV (As := [.ref (ad 17), .ref (ad m)]) (st := []) IG lw_good (mD_run LY HM 17 m (Or.inl (by decide)) (Or.inl (by omega)) ht (by rw [v17]; omega) (by rw [vm]; omega)) (mo_D LY HM) rfl wC_D_run wL_M_93 wI_D_run wS_D_run wX_D 2 (by decide +kernel) rfl ⟨Nat.le_of_ble_eq_true rfl, Nat.le_of_ble_eq_true rfl⟩ ⟨(by dsimp only [rm_]; omega), (by dsimp only [rm_]; omega)⟩ rfl (Nat.le_of_ble_eq_true rfl) dc_M_multiplyByModulus_21 (fun v h k7 n7 hq => ?_)
  obtain ⟨rfl, N, C2, S2, HM, hk2, hm2⟩ := hq
  rw [v17, vm] at HM
  have u20 : va_up (va_up (va_up W1 21 N) 19 (W 16 * W f / W m)) 20 (W 16 * W f % W m) 20 = W 16 * W f % W m := va_up_self _ _ _
  have u18 : va_up (va_up (va_up W1 21 N) 19 (W 16 * W f / W m)) 20 (W 16 * W f % W m) 18 = W 18 := by rw [va_up_ne _ _ (by decide), va_up_ne _ _ (by decide), va_up_ne _ _ (by decide), v18]
  generalize va_up (va_up (va_up W1 21 N) 19 (W 16 * W f / W m)) 20 (W 16 * W f % W m) = W2 at *
  have n4 : nd 4294967296 (W 16 * W f % W m) ≤ 4096 := Nat.le_trans (nd_mono bB1 (Nat.mod_le _ _)) (by omega)
  show vx_V _ _ _ _ _ _ _ _ _ 24 [(0, .ref (ad 30)), (1, .ref (ad f)), (2, .ref (ad m))] []
  refine vx_aload_n IG dc_M_multiplyByModulus_24 rfl 0 rfl ?_
  refine vx_get IG (mo_M LY HM) rfl 2 (by decide) inM wF_M_20 rfl rfl dc_M_multiplyByModulus_25 ?_
  refine vx_aload_n IG dc_M_multiplyByModulus_28 rfl 0 rfl ?_
  refine vx_get IG (mo_M LY HM) rfl 5 (by decide) inM wF_M_33 rfl rfl dc_M_multiplyByModulus_29 ?_
  refine vx_get IG (mo_D LY HM) rfl 1 (by decide) inD wF_M_96 rfl rfl dc_M_multiplyByModulus_32 ?_
  refine vx_callV (As := [.ref (ad 20)]) (st := []) IG lw_good (mW_copy LY HM 16 20 (by decide) (by decide) (by decide) ht (by rw [u20]; omega)) ((mo_W HM (show 16 < 30 by decide)).choose_spec) rfl wC_W_copy wL_M_74 wI_W_copy wS_W_copy wX_W 1 (by decide +kernel) rfl ⟨Nat.le_of_ble_eq_true rfl, Nat.le_of_ble_eq_true rfl⟩ ⟨(by dsimp only [rm_]; omega), (by dsimp only [rm_]; omega)⟩ rfl (Nat.le_of_ble_eq_true rfl) dc_M_multiplyByModulus_35 (fun v h k8 n8 hq => ?_)
  obtain ⟨rfl, C3, S3, HM, hk3, hm3⟩ := hq
  show vx_V _ _ _ _ _ _ _ _ _ 38 [(0, .ref (ad 30)), (1, .ref (ad f)), (2, .ref (ad m))] []
  refine vx_ret none RG (vx_endv dc_M_multiplyByModulus_38) rfl ?_
  exact ⟨rfl, _, C3, S3, HM, by rw [va_up_self, u20], by rw [va_up_ne _ _ (by decide), u18], by omega, by omega⟩
set_option maxRecDepth 100000 in
set_option maxHeartbeats 8000000 in
theorem cM_findPowerByModulus (LY : lay cQ ad r0) (HM : mw cJ cZ ad r0 W X h C S) (he : e < 16) (hm : m < 16) (hb : W 18 < W m) (ht : tys[0]? = some (cJ, .long)) : vx_M l D vcl tys my_M_findPowerByModulus lw_gd (rm_ 6 C S 154) [.ref (ad 30), .ref (ad e), .ref (ad m)] h (fun v h' k n => v = none ∧ ∃ W' C' S', mw cJ cZ ad r0 W' X h' C' S' ∧ W' 16 = W 18 ^ (X e).natAbs % (X m).natAbs ∧ k + C' ≤ C ∧ n + S' ≤ S) := by
  refine vx_M.ofV (cc := bc_M_findPowerByModulus) (maxL := 5) (ret := none) (own := rM) false rfl (by decide +kernel) wC_M_findPowerByModulus (fun q => by cases q) (Nat.le_of_ble_eq_true rfl) (fun A H0 G IG RG => ?_)
  show vx_V _ _ _ _ _ _ _ _ _ 0 [(0, .ref (ad 30)), (1, .ref (ad e)), (2, .ref (ad m))] []
  have hWe := mw_W HM he
  have hWm := mw_W HM hm
  have hnm := lim_nd.mp hWm.2
  have hbe := lim_bl.mp hWe.2
  obtain ⟨x, ex⟩ : ∃ x, x = (X e).natAbs := ⟨_, rfl⟩
  obtain ⟨M, eM⟩ : ∃ M, M = (X m).natAbs := ⟨_, rfl⟩
  rw [← ex, ← eM] at RG
  have hx : ∀ {h : vx_h} {W' : Nat → Nat} {C' S' : Nat}, mw cJ cZ ad r0 W' X h C' S' → W' e = x := fun q => by rw [(mw_W q he).1, ex]
  have hM : ∀ {h : vx_h} {W' : Nat → Nat} {C' S' : Nat}, mw cJ cZ ad r0 W' X h C' S' → W' m = M := fun q => by rw [(mw_W q hm).1, eM]
  have hxe := hx HM
  have hMm := hM HM
  rw [hMm] at hb hnm
  rw [hxe] at hbe
  have hMp : 0 < M := by omega
  have nb : nd 4294967296 (W 18) ≤ 2048 := Nat.le_trans (nd_mono bB1 (Nat.le_of_lt hb)) hnm
  refine vx_aload_n IG dc_M_findPowerByModulus_0 rfl 1 rfl ?_
  refine vx_callV (As := []) (st := []) IG lw_good (mW_bits HM e (by omega) ht) ((mo_W HM (show e < 30 by omega)).choose_spec) rfl wC_W_bits wL_M_170 wI_W_bits wS_W_bits wX_W 0 (by decide +kernel) rfl ⟨Nat.le_of_ble_eq_true rfl, Nat.le_of_ble_eq_true rfl⟩ ⟨(by dsimp only [rm_]; omega), (by dsimp only [rm_]; omega)⟩ rfl (Nat.le_of_ble_eq_true rfl) dc_M_findPowerByModulus_1 (fun v h k6 n6 hq => ?_)
  obtain ⟨rfl, rfl, rfl, rfl⟩ := hq
  rw [hxe]
  show vx_V _ _ _ _ _ _ _ _ _ 4 [(0, .ref (ad 30)), (1, .ref (ad e)), (2, .ref (ad m))] [.int (nI (bl x))]
  refine vx_istore_n (lv' := [(3, .int (nI (bl x))), (0, .ref (ad 30)), (1, .ref (ad e)), (2, .ref (ad m))]) IG dc_M_findPowerByModulus_4 rfl (by decide) rfl ?_
  refine vx_iload_n IG dc_M_findPowerByModulus_5 rfl 0 rfl ?_
  by_cases z : bl x = 0
  · refine vx_if_ne (tgt := 44) IG dc_M_findPowerByModulus_6 (by decide) (fun c_ => absurd (by rw [z]; rfl) c_) (fun _ => ?_)
    refine vx_aload_n IG dc_M_findPowerByModulus_9 rfl 1 rfl ?_
    refine vx_get IG (mo_M LY HM) rfl 3 (by decide) inM wF_M_24 rfl rfl dc_M_findPowerByModulus_10 ?_
    refine vx_lconst (v := 1) IG dc_M_findPowerByModulus_13 (by decide) ?_
    refine vx_callV (As := [.long 1]) (st := []) IG lw_good (mW_load LY HM 17 (by decide) (by decide) ht (b := 1) (by decide)) ((mo_W HM (show 17 < 30 by decide)).choose_spec) rfl wC_W_load wL_M_48 wI_W_load wS_W_load wX_W 1 (by decide +kernel) rfl ⟨Nat.le_of_ble_eq_true rfl, Nat.le_of_ble_eq_true rfl⟩ ⟨(by dsimp only [rm_]; omega), (by dsimp only [rm_]; omega)⟩ rfl (Nat.le_of_ble_eq_true rfl) dc_M_findPowerByModulus_14 (fun v h k7 n7 hq => ?_)
    obtain ⟨rfl, C1, S1, HM, hk1, hm1⟩ := hq
    have v17 : va_up W 17 1 17 = 1 := va_up_self _ _ _
    generalize va_up W 17 1 = W1 at *
    have hMm := hM HM
    show vx_V _ _ _ _ _ _ _ _ _ 17 [(3, .int (nI (bl x))), (0, .ref (ad 30)), (1, .ref (ad e)), (2, .ref (ad m))] []
    refine vx_aload_n IG dc_M_findPowerByModulus_17 rfl 1 rfl ?_
    refine vx_get IG (mo_M LY HM) rfl 5 (by decide) inM wF_M_33 rfl rfl dc_M_findPowerByModulus_18 ?_
    refine vx_aload_n IG dc_M_findPowerByModulus_21 rfl 1 rfl ?_
    refine vx_get IG (mo_M LY HM) rfl 3 (by decide) inM wF_M_24 rfl rfl dc_M_findPowerByModulus_22 ?_
    refine vx_aload_n IG dc_M_findPowerByModulus_25 rfl 3 rfl ?_
    refine vx_callV (As := [.ref (ad 17), .ref (ad m)]) (st := []) IG lw_good (mD_run LY HM 17 m (Or.inl (by decide)) (Or.inl (by omega)) ht (by rw [v17]; decide) (by rw [hMm]; omega)) (mo_D LY HM) rfl wC_D_run wL_M_93 wI_D_run wS_D_run wX_D 2 (by decide +kernel) rfl ⟨Nat.le_of_ble_eq_true rfl, Nat.le_of_ble_eq_true rfl⟩ ⟨(by dsimp only [rm_]; omega), (by dsimp only [rm_]; omega)⟩ rfl (Nat.le_of_ble_eq_true rfl) dc_M_findPowerByModulus_26 (fun v h k8 n8 hq => ?_)
    obtain ⟨rfl, N, C2, S2, HM, hk2, hm2⟩ := hq
    rw [v17, hMm] at HM
    have u20 : va_up (va_up (va_up W1 21 N) 19 (1 / M)) 20 (1 % M) 20 = 1 % M := va_up_self _ _ _
    generalize va_up (va_up (va_up W1 21 N) 19 (1 / M)) 20 (1 % M) = W2 at *
    have n4 : nd 4294967296 (1 % M) ≤ 1 := Nat.le_trans (nd_mono bB1 (Nat.mod_le _ _)) (by decide)
    show vx_V _ _ _ _ _ _ _ _ _ 29 [(3, .int (nI (bl x))), (0, .ref (ad 30)), (1, .ref (ad e)), (2, .ref (ad m))] []
    refine vx_aload_n IG dc_M_findPowerByModulus_29 rfl 1 rfl ?_
    refine vx_get IG (mo_M LY HM) rfl 2 (by decide) inM wF_M_20 rfl rfl dc_M_findPowerByModulus_30 ?_
    refine vx_aload_n IG dc_M_findPowerByModulus_33 rfl 1 rfl ?_
    refine vx_get IG (mo_M LY HM) rfl 5 (by decide) inM wF_M_33 rfl rfl dc_M_findPowerByModulus_34 ?_
    refine vx_get IG (mo_D LY HM) rfl 1 (by decide) inD wF_M_96 rfl rfl dc_M_findPowerByModulus_37 ?_
    refine vx_callV (As := [.ref (ad 20)]) (st := []) IG lw_good (mW_copy LY HM 16 20 (by decide) (by decide) (by decide) ht (by rw [u20]; omega)) ((mo_W HM (show 16 < 30 by decide)).choose_spec) rfl wC_W_copy wL_M_74 wI_W_copy wS_W_copy wX_W 1 (by decide +kernel) rfl ⟨Nat.le_of_ble_eq_true rfl, Nat.le_of_ble_eq_true rfl⟩ ⟨(by dsimp only [rm_]; omega), (by dsimp only [rm_]; omega)⟩ rfl (Nat.le_of_ble_eq_true rfl) dc_M_findPowerByModulus_40 (fun v h k9 n9 hq => ?_)
    obtain ⟨rfl, C3, S3, HM, hk3, hm3⟩ := hq
    show vx_V _ _ _ _ _ _ _ _ _ 43 [(3, .int (nI (bl x))), (0, .ref (ad 30)), (1, .ref (ad e)), (2, .ref (ad m))] []
    refine vx_ret none RG (vx_endv dc_M_findPowerByModulus_43) rfl ?_
    exact ⟨rfl, _, C3, S3, HM, by rw [va_up_self, u20, bl_eq_zero.mp z, Nat.pow_zero], by omega, by omega⟩
  · refine vx_if_ne (tgt := 44) IG dc_M_findPowerByModulus_6 (by decide) (fun _ => ?_) (fun c_ => absurd c_ (nI_ne (by omega) (b := 0) (by decide) z))
    refine vx_aload_n IG dc_M_findPowerByModulus_44 rfl 1 rfl ?_
    refine vx_get IG (mo_M LY HM) rfl 2 (by decide) inM wF_M_20 rfl rfl dc_M_findPowerByModulus_45 ?_
    refine vx_aload_n IG dc_M_findPowerByModulus_48 rfl 1 rfl ?_
    refine vx_get IG (mo_M LY HM) rfl 4 (by decide) inM wF_M_27 rfl rfl dc_M_findPowerByModulus_49 ?_
    refine vx_callV (As := [.ref (ad 18)]) (st := []) IG lw_good (mW_copy LY HM 16 18 (by decide) (by decide) (by decide) ht (by omega)) ((mo_W HM (show 16 < 30 by decide)).choose_spec) rfl wC_W_copy wL_M_74 wI_W_copy wS_W_copy wX_W 1 (by decide +kernel) rfl ⟨Nat.le_of_ble_eq_true rfl, Nat.le_of_ble_eq_true rfl⟩ ⟨(by dsimp only [rm_]; omega), (by dsimp only [rm_]; omega)⟩ rfl (Nat.le_of_ble_eq_true rfl) dc_M_findPowerByModulus_52 (fun v h k10 n10 hq => ?_)
    obtain ⟨rfl, C1, S1, HM, hk1, hm1⟩ := hq
    have v16 : va_up W 16 (W 18) 16 = W 18 := va_up_self _ _ _
    have v18 : va_up W 16 (W 18) 18 = W 18 := va_up_ne _ _ (by decide)
    generalize va_up W 16 (W 18) = W1 at *
    generalize W 18 = b at *
    show vx_V _ _ _ _ _ _ _ _ _ 55 [(3, .int (nI (bl x))), (0, .ref (ad 30)), (1, .ref (ad e)), (2, .ref (ad m))] []
    have loop : ∀ (j : Nat) (h : vx_h) (W2 : Nat → Nat) (C2 S2 k n : Nat), j < 2 ^ 30 → mw cJ cZ ad r0 W2 X h C2 S2 → W2 16 = b ^ (x / 2 ^ j) % M → W2 18 = b → k + C2 ≤ C → n + S2 ≤ S → vx_V D vcl A H0 5 G h k n 60 [(4, .int (nI j - 1)), (3, .int (nI (bl x))), (0, .ref (ad 30)), (1, .ref (ad e)), (2, .ref (ad m))] [] := by
      intro j
      induction j with
      | zero =>
        intro h W2 C2 S2 k n hj HM h16 h18 hk hn
        refine vx_iload IG dc_M_findPowerByModulus_60 0 rfl ?_
        refine vx_if_lt (tgt := 98) IG dc_M_findPowerByModulus_62 (by decide) (fun _ => ?_) (fun c_ => absurd (by decide) c_)
        refine vx_ret none RG (vx_endv dc_M_findPowerByModulus_98) rfl ?_
        rw [Nat.pow_zero, Nat.div_one] at h16
        exact ⟨rfl, W2, C2, S2, HM, h16, by omega, by omega⟩
      | succ j ih =>
        intro h W2 C2 S2 k n hj HM h16 h18 hk hn
        rw [nI_pred j]
        have hMm := hM HM
        have hlt := Nat.mod_lt (b ^ (x / 2 ^ (j + 1))) hMp
        rw [← h16] at hlt
        refine vx_iload IG dc_M_findPowerByModulus_60 0 rfl ?_
        refine vx_if_lt (tgt := 98) IG dc_M_findPowerByModulus_62 (by decide) (fun c_ => absurd c_ (nI_pos (by omega))) (fun _ => ?_)
        refine vx_aload_n IG dc_M_findPowerByModulus_65 rfl 2 rfl ?_
        refine vx_aload_n IG dc_M_findPowerByModulus_66 rfl 2 rfl ?_
        refine vx_get IG (mo_M LY HM) rfl 2 (by decide) inM wF_M_20 rfl rfl dc_M_findPowerByModulus_67 ?_
        refine vx_aload_n IG dc_M_findPowerByModulus_70 rfl 4 rfl ?_
        refine vx_callV (As := [.ref (ad 16), .ref (ad m)]) (st := []) IG lw_good (cM_multiplyByModulus LY HM 16 (Or.inl rfl) hm (by rw [hMm]; omega) (by rw [hMm]; omega) ht) (mo_M LY HM) rfl wC_M_multiplyByModulus wL_M_226 wI_M_multiplyByModulus wS_M_multiplyByModulus wX_M 2 (by decide +kernel) rfl ⟨Nat.le_of_ble_eq_true rfl, Nat.le_of_ble_eq_true rfl⟩ ⟨(by dsimp only [rm_]; omega), (by dsimp only [rm_]; omega)⟩ rfl (Nat.le_of_ble_eq_true rfl) dc_M_findPowerByModulus_71 (fun v h k21 n21 hq => ?_)
        obtain ⟨rfl, W3, C3, S3, HM, g2, g18, hk3, hm3⟩ := hq
        rw [hMm] at g2
        rw [h18] at g18
        have hMm := hM HM
        have hxe := hx HM
        show vx_V _ _ _ _ _ _ _ _ _ 74 [(4, .int (nI j)), (3, .int (nI (bl x))), (0, .ref (ad 30)), (1, .ref (ad e)), (2, .ref (ad m))] []
        refine vx_aload_n IG dc_M_findPowerByModulus_74 rfl 3 rfl ?_
        refine vx_iload IG dc_M_findPowerByModulus_75 0 rfl ?_
        refine vx_callV (As := [.int (nI j)]) (st := []) IG lw_good (mW_isOne HM e (by omega) ht (j := j) (by omega)) ((mo_W HM (show e < 30 by omega)).choose_spec) rfl wC_W_isOne wL_M_229 wI_W_isOne wS_W_isOne wX_W 1 (by decide +kernel) rfl ⟨Nat.le_of_ble_eq_true rfl, Nat.le_of_ble_eq_true rfl⟩ ⟨(by dsimp only [rm_]; omega), (by dsimp only [rm_]; omega)⟩ rfl (Nat.le_of_ble_eq_true rfl) dc_M_findPowerByModulus_77 (fun v h k22 n22 hq => ?_)
        obtain ⟨rfl, rfl, rfl, rfl⟩ := hq
        rw [hxe]
        show vx_V _ _ _ _ _ _ _ _ _ 80 [(4, .int (nI j)), (3, .int (nI (bl x))), (0, .ref (ad 30)), (1, .ref (ad e)), (2, .ref (ad m))] [.int (if x / 2 ^ j % 2 = 1 then 1 else 0)]
        have hlt3 := Nat.mod_lt (W2 16 * W2 16) hMp
        rw [← g2] at hlt3
        by_cases u : x / 2 ^ j % 2 = 1
        · refine vx_topi (y := 1) (if_pos u) ?_
          refine vx_if_eq (tgt := 92) IG dc_M_findPowerByModulus_80 (by decide) (fun c_ => absurd c_ (by decide)) (fun _ => ?_)
          refine vx_aload_n IG dc_M_findPowerByModulus_83 rfl 2 rfl ?_
          refine vx_aload_n IG dc_M_findPowerByModulus_84 rfl 2 rfl ?_
          refine vx_get IG (mo_M LY HM) rfl 4 (by decide) inM wF_M_27 rfl rfl dc_M_findPowerByModulus_85 ?_
          refine vx_aload_n IG dc_M_findPowerByModulus_88 rfl 4 rfl ?_
          refine vx_callV (As := [.ref (ad 18), .ref (ad m)]) (st := []) IG lw_good (cM_multiplyByModulus LY HM 18 (Or.inr rfl) hm (by rw [hMm]; omega) (by rw [hMm, g18]; omega) ht) (mo_M LY HM) rfl wC_M_multiplyByModulus wL_M_226 wI_M_multiplyByModulus wS_M_multiplyByModulus wX_M 2 (by decide +kernel) rfl ⟨Nat.le_of_ble_eq_true rfl, Nat.le_of_ble_eq_true rfl⟩ ⟨(by dsimp only [rm_]; omega), (by dsimp only [rm_]; omega)⟩ rfl (Nat.le_of_ble_eq_true rfl) dc_M_findPowerByModulus_89 (fun v h k23 n23 hq => ?_)
          obtain ⟨rfl, W4, C4, S4, HM, g4, g48, hk4, hm4⟩ := hq
          rw [g18] at g48
          have hp1 := pm_1 h16 u
          rw [← g2] at hp1
          rw [hMm, g18, hp1] at g4
          show vx_V _ _ _ _ _ _ _ _ _ 92 [(4, .int (nI j)), (3, .int (nI (bl x))), (0, .ref (ad 30)), (1, .ref (ad e)), (2, .ref (ad m))] []
          refine vx_iinc (q := 0) (v := nI j - 1) (lv' := [(4, .int (nI j - 1)), (3, .int (nI (bl x))), (0, .ref (ad 30)), (1, .ref (ad e)), (2, .ref (ad m))]) IG dc_M_findPowerByModulus_92 rfl (i32_dec _) (by decide) rfl ?_
          refine vx_goto (tgt := 60) IG dc_M_findPowerByModulus_95 (by decide) ?_
          exact ih h W4 C4 S4 _ _ (by omega) HM g4 g48 (by omega) (by omega)
        · refine vx_topi (y := 0) (if_neg u) ?_
          refine vx_if_eq (tgt := 92) IG dc_M_findPowerByModulus_80 (by decide) (fun _ => ?_) (fun c_ => absurd rfl c_)
          have hp0 := pm_0 h16 u
          rw [← g2] at hp0
          refine vx_iinc (q := 0) (v := nI j - 1) (lv' := [(4, .int (nI j - 1)), (3, .int (nI (bl x))), (0, .ref (ad 30)), (1, .ref (ad e)), (2, .ref (ad m))]) IG dc_M_findPowerByModulus_92 rfl (i32_dec _) (by decide) rfl ?_
          refine vx_goto (tgt := 60) IG dc_M_findPowerByModulus_95 (by decide) ?_
          exact ih h W3 C3 S3 _ _ (by omega) HM hp0 g18 (by omega) (by omega)
    refine vx_iload_n IG dc_M_findPowerByModulus_55 rfl 0 rfl ?_
    refine vx_iconst (v := 2) IG dc_M_findPowerByModulus_56 (by decide) ?_
    refine vx_isub IG dc_M_findPowerByModulus_57 ?_
    refine vx_topi (y := nI (bl x - 1) - 1) (by rw [← nI_pred2 (by omega)]; exact i32_m2 _) ?_
    refine vx_istore (lv' := [(4, .int (nI (bl x - 1) - 1)), (3, .int (nI (bl x))), (0, .ref (ad 30)), (1, .ref (ad e)), (2, .ref (ad m))]) IG dc_M_findPowerByModulus_58 (by decide) rfl ?_
    refine loop (bl x - 1) h W1 C1 S1 _ _ (by omega) HM ?_ v18 (by omega) (by omega)
    rw [v16, pm_top (by rcases Nat.eq_zero_or_pos x with q | q; · rw [q] at z; exact absurd rfl z
                        · exact q), Nat.pow_one, Nat.mod_eq_of_lt hb]
set_option maxRecDepth 100000 in
set_option maxHeartbeats 8000000 in
theorem cM_modulo (LY : lay cQ ad r0) (HM : mw cJ cZ ad r0 W X h C S) (ht : tys[0]? = some (cJ, .long)) (ht1 : tys[1]? = some (cQ, .object "SignedMill$Whole")) (ht2 : tys[2]? = some (cZ, .boolean)) (r1 r2 r3 r4 : Int32) : vx_M l D vcl tys my_M_modulo lw_gd (rm_ 8 C S 180) [.ref (ad 30), .int r1, .int r2, .int r3, .int r4] h (mpub cJ cZ ad r0 (sp4 0 X (mdF X) r1 r2 r3 r4).2 C S (sp4 0 X (mdF X) r1 r2 r3 r4).1) := by
  refine vx_M.ofV (cc := bc_M_modulo) (maxL := 7) (ret := some .boolean) (own := rM) false rfl (by decide +kernel) wC_M_modulo (fun q => by cases q) (Nat.le_of_ble_eq_true rfl) (fun A H0 G IG RG => ?_)
  show vx_V _ _ _ _ _ _ _ _ _ 0 [(0, .ref (ad 30)), (1, .int r1), (2, .int r2), (3, .int r3), (4, .int r4)] []
  refine vx_iload_n IG dc_M_modulo_0 rfl 1 rfl ?_
  refine vx_iload_n IG dc_M_modulo_1 rfl 2 rfl ?_
  refine vx_callS (As := [.int r1, .int r2]) (st := []) IG lw_good (cM_areRegisters _ r1 r2) wC_M_areRegisters wL_M_70 wT_M_areRegisters wX_M 2 (by decide +kernel) rfl ⟨Nat.le_of_ble_eq_true rfl, Nat.le_of_ble_eq_true rfl⟩ ⟨(by dsimp only [rm_]; omega), (by dsimp only [rm_]; omega)⟩ rfl (Nat.le_of_ble_eq_true rfl) dc_M_modulo_2 (fun v h k1 n1 hq => ?_)
  obtain ⟨rfl, rfl, rfl, rfl⟩ := hq
  show vx_V _ _ _ _ _ _ _ _ _ 5 [(0, .ref (ad 30)), (1, .int r1), (2, .int r2), (3, .int r3), (4, .int r4)] [.int (if isR r1 ∧ isR r2 then 1 else 0)]
  by_cases z0 : isR r1 ∧ isR r2
  · refine vx_topi (y := 1) (if_pos z0) ?_
    refine vx_if_eq (tgt := 24) IG dc_M_modulo_5 (by decide) (fun c_ => absurd c_ (by decide)) (fun _ => ?_)
    refine vx_iload_n IG dc_M_modulo_8 rfl 3 rfl ?_
    refine vx_callS (As := [.int r3]) (st := []) IG lw_good (cM_isRegister _ r3) wC_M_isRegister wL_M_44 wT_M_isRegister wX_M 1 (by decide +kernel) rfl ⟨Nat.le_of_ble_eq_true rfl, Nat.le_of_ble_eq_true rfl⟩ ⟨(by dsimp only [rm_]; omega), (by dsimp only [rm_]; omega)⟩ rfl (Nat.le_of_ble_eq_true rfl) dc_M_modulo_9 (fun v h k2 n2 hq => ?_)
    obtain ⟨rfl, rfl, rfl, rfl⟩ := hq
    show vx_V _ _ _ _ _ _ _ _ _ 12 [(0, .ref (ad 30)), (1, .int r1), (2, .int r2), (3, .int r3), (4, .int r4)] [.int (if isR r3 then 1 else 0)]
    by_cases z3 : isR r3
    · refine vx_topi (y := 1) (if_pos z3) ?_
      refine vx_if_eq (tgt := 24) IG dc_M_modulo_12 (by decide) (fun c_ => absurd c_ (by decide)) (fun _ => ?_)
      obtain ⟨d, hd, rfl⟩ := isR_of z0.1
      obtain ⟨a, ha, rfl⟩ := isR_of z0.2
      obtain ⟨e, he, rfl⟩ := isR_of z3
      refine vx_aload_n IG dc_M_modulo_15 rfl 0 rfl ?_
      refine vx_iload IG dc_M_modulo_16 4 rfl ?_
      refine vx_callV (As := [.int r4]) (st := []) IG lw_good (cM_isModulus LY HM ht1 ht2 r4) (mo_M LY HM) rfl wC_M_isModulus wL_M_164 wI_M_isModulus wS_M_isModulus wX_M 1 (by decide +kernel) rfl ⟨Nat.le_of_ble_eq_true rfl, Nat.le_of_ble_eq_true rfl⟩ ⟨(by dsimp only [rm_]; omega), (by dsimp only [rm_]; omega)⟩ rfl (Nat.le_of_ble_eq_true rfl) dc_M_modulo_18 (fun v h k3 n3 hq => ?_)
      obtain ⟨rfl, rfl, rfl, rfl⟩ := hq
      show vx_V _ _ _ _ _ _ _ _ _ 21 [(0, .ref (ad 30)), (1, .int (nI d)), (2, .int (nI a)), (3, .int (nI e)), (4, .int r4)] [.int (if isMd X r4 then 1 else 0)]
      by_cases z1 : isMd X r4
      · refine vx_topi (y := 1) (if_pos z1) ?_
        refine vx_if_ne (tgt := 26) IG dc_M_modulo_21 (by decide) (fun _ => ?_) (fun c_ => absurd c_ (by decide))
        obtain ⟨z1, z2⟩ := z1
        obtain ⟨m, hm, rfl⟩ := isR_of z1
        rw [nI_clamp (by omega)] at z2
        rw [sp4_ok hd ha he hm] at RG
        unfold mdF at RG
        rw [if_pos z2] at RG
        have hWe := mw_W HM he
        have hWm := mw_W HM hm
        have hbe := lim_bl.mp hWe.2
        have hbm := lim_bl.mp hWm.2
        have hmp : 0 < (X m).natAbs := by omega
        refine vx_aload_n IG dc_M_modulo_26 rfl 0 rfl ?_
        refine vx_get IG (mo_M LY HM) rfl 0 (by decide) inM wF_M_11 rfl rfl dc_M_modulo_27 ?_
        refine vx_iload IG dc_M_modulo_30 4 rfl ?_
        refine mr_aal IG LY HM hm ht1 dc_M_modulo_32 ?_
        refine vx_callV (As := []) (st := []) IG lw_good (mW_bits HM m (by omega) ht) ((mo_W HM (show m < 30 by omega)).choose_spec) rfl wC_W_bits wL_M_170 wI_W_bits wS_W_bits wX_W 0 (by decide +kernel) rfl ⟨Nat.le_of_ble_eq_true rfl, Nat.le_of_ble_eq_true rfl⟩ ⟨(by dsimp only [rm_]; omega), (by dsimp only [rm_]; omega)⟩ rfl (Nat.le_of_ble_eq_true rfl) dc_M_modulo_33 (fun v h k4 n4 hq => ?_)
        obtain ⟨rfl, rfl, rfl, rfl⟩ := hq
        show vx_V _ _ _ _ _ _ _ _ _ 36 [(0, .ref (ad 30)), (1, .int (nI d)), (2, .int (nI a)), (3, .int (nI e)), (4, .int (nI m))] [.int (nI (bl (W m)))]
        refine vx_i2l (v := lN (bl (W m))) IG dc_M_modulo_36 (nI_l (by omega)) ?_
        refine vx_lstore (lv' := [(5, .long (lN (bl (W m)))), (0, .ref (ad 30)), (1, .int (nI d)), (2, .int (nI a)), (3, .int (nI e)), (4, .int (nI m))]) IG dc_M_modulo_37 (by decide) rfl ?_
        refine vx_aload_n IG dc_M_modulo_39 rfl 1 rfl ?_
        refine vx_get IG (mo_M LY HM) rfl 0 (by decide) inM wF_M_11 rfl rfl dc_M_modulo_40 ?_
        refine vx_iload_n IG dc_M_modulo_43 rfl 4 rfl ?_
        refine mr_aal IG LY HM he ht1 dc_M_modulo_44 ?_
        refine vx_callV (As := []) (st := []) IG lw_good (mW_bits HM e (by omega) ht) ((mo_W HM (show e < 30 by omega)).choose_spec) rfl wC_W_bits wL_M_170 wI_W_bits wS_W_bits wX_W 0 (by decide +kernel) rfl ⟨Nat.le_of_ble_eq_true rfl, Nat.le_of_ble_eq_true rfl⟩ ⟨(by dsimp only [rm_]; omega), (by dsimp only [rm_]; omega)⟩ rfl (Nat.le_of_ble_eq_true rfl) dc_M_modulo_45 (fun v h k5 n5 hq => ?_)
        obtain ⟨rfl, rfl, rfl, rfl⟩ := hq
        show vx_V _ _ _ _ _ _ _ _ _ 48 [(5, .long (lN (bl (W m)))), (0, .ref (ad 30)), (1, .int (nI d)), (2, .int (nI a)), (3, .int (nI e)), (4, .int (nI m))] [.int (nI (bl (W e)))]
        refine vx_i2l (v := lN (bl (W e))) IG dc_M_modulo_48 (nI_l (by omega)) ?_
        refine vx_lload IG dc_M_modulo_49 0 rfl ?_
        refine vx_lmul IG dc_M_modulo_51 ?_
        refine vx_topl (y := lN (bl (W e) * bl (W m))) (lN_mul _ _) ?_
        refine vx_lload IG dc_M_modulo_52 0 rfl ?_
        refine vx_lmul IG dc_M_modulo_54 ?_
        refine vx_topl (y := lN (bl (W e) * bl (W m) * bl (W m))) (lN_mul _ _) ?_
        refine vx_ldc2 (v := 4294967296) IG wK_M_173 dc_M_modulo_55 ?_
        refine vx_lcmp IG dc_M_modulo_58 ?_
        have hpr : bl (W e) * bl (W m) * bl (W m) ≤ 65536 * 65536 * 65536 := Nat.mul_le_mul (Nat.mul_le_mul hbe hbm) hbm
        rw [← hWe.1, ← hWm.1] at RG
        by_cases y : bl (W e) * bl (W m) * bl (W m) ≤ 4294967296
        · refine vx_if_le (tgt := 64) IG dc_M_modulo_59 (by decide) (fun _ => ?_) (fun c_ => absurd ((lg_cmp_le _ _).mpr ((pk_lLE (b := 4294967296) (by omega) (by decide)).mpr y)) c_)
          rw [if_pos y] at RG
          have fin : ∀ (h : vx_h) (W2 : Nat → Nat) (C2 S2 k n : Nat), mw cJ cZ ad r0 W2 X h C2 S2 → W2 16 < (X m).natAbs → mdG X d a e m = kp X d ((W2 16 ^ (X e).natAbs % (X m).natAbs : Nat) : Int) → k + C2 ≤ C → n + S2 ≤ S → vx_V D vcl A H0 7 G h k n 95 [(5, .long (lN (bl (W m)))), (0, .ref (ad 30)), (1, .int (nI d)), (2, .int (nI a)), (3, .int (nI e)), (4, .int (nI m))] [] := by
            intro h W2 C2 S2 k n HM hlt hR hk hn
            rw [hR] at RG
            have n16 : nd 4294967296 (W2 16) ≤ 2048 := Nat.le_trans (nd_mono bB1 (Nat.le_of_lt hlt)) (lim_nd.mp (hWm.1 ▸ hWm.2))
            refine vx_aload_n IG dc_M_modulo_95 rfl 1 rfl ?_
            refine vx_get IG (mo_M LY HM) rfl 4 (by decide) inM wF_M_27 rfl rfl dc_M_modulo_96 ?_
            refine vx_aload_n IG dc_M_modulo_99 rfl 1 rfl ?_
            refine vx_get IG (mo_M LY HM) rfl 2 (by decide) inM wF_M_20 rfl rfl dc_M_modulo_100 ?_
            refine vx_callV (As := [.ref (ad 16)]) (st := []) IG lw_good (mW_copy LY HM 18 16 (by decide) (by decide) (by decide) ht (by omega)) ((mo_W HM (show 18 < 30 by decide)).choose_spec) rfl wC_W_copy wL_M_74 wI_W_copy wS_W_copy wX_W 1 (by decide +kernel) rfl ⟨Nat.le_of_ble_eq_true rfl, Nat.le_of_ble_eq_true rfl⟩ ⟨(by dsimp only [rm_]; omega), (by dsimp only [rm_]; omega)⟩ rfl (Nat.le_of_ble_eq_true rfl) dc_M_modulo_103 (fun v h k21 n21 hq => ?_)
            obtain ⟨rfl, C3, S3, HM, hk3, hm3⟩ := hq
            have v18 : va_up W2 18 (W2 16) 18 = W2 16 := va_up_self _ _ _
            generalize va_up W2 18 (W2 16) = W3 at *
            have hMm := (mw_W HM hm).1
            show vx_V _ _ _ _ _ _ _ _ _ 106 [(5, .long (lN (bl (W m)))), (0, .ref (ad 30)), (1, .int (nI d)), (2, .int (nI a)), (3, .int (nI e)), (4, .int (nI m))] []
            refine vx_aload_n IG dc_M_modulo_106 rfl 1 rfl ?_
            refine vx_aload_n IG dc_M_modulo_107 rfl 1 rfl ?_
            refine vx_get IG (mo_M LY HM) rfl 0 (by decide) inM wF_M_11 rfl rfl dc_M_modulo_108 ?_
            refine vx_iload_n IG dc_M_modulo_111 rfl 4 rfl ?_
            refine mr_aal IG LY HM he ht1 dc_M_modulo_112 ?_
            refine vx_aload_n IG dc_M_modulo_113 rfl 1 rfl ?_
            refine vx_get IG (mo_M LY HM) rfl 0 (by decide) inM wF_M_11 rfl rfl dc_M_modulo_114 ?_
            refine vx_iload IG dc_M_modulo_117 5 rfl ?_
            refine mr_aal IG LY HM hm ht1 dc_M_modulo_119 ?_
            refine vx_callV (As := [.ref (ad e), .ref (ad m)]) (st := []) IG lw_good (cM_findPowerByModulus LY HM he hm (by rw [v18, hMm]; exact hlt) ht) (mo_M LY HM) rfl wC_M_findPowerByModulus wL_M_179 wI_M_findPowerByModulus wS_M_findPowerByModulus wX_M 2 (by decide +kernel) rfl ⟨Nat.le_of_ble_eq_true rfl, Nat.le_of_ble_eq_true rfl⟩ ⟨(by dsimp only [rm_]; omega), (by dsimp only [rm_]; omega)⟩ rfl (Nat.le_of_ble_eq_true rfl) dc_M_modulo_120 (fun v h k22 n22 hq => ?_)
            obtain ⟨rfl, W4, C4, S4, HM, g4, hk4, hm4⟩ := hq
            rw [v18] at g4
            show vx_V _ _ _ _ _ _ _ _ _ 123 [(5, .long (lN (bl (W m)))), (0, .ref (ad 30)), (1, .int (nI d)), (2, .int (nI a)), (3, .int (nI e)), (4, .int (nI m))] []
            refine vx_aload_n IG dc_M_modulo_123 rfl 1 rfl ?_
            refine vx_iload_n IG dc_M_modulo_124 rfl 2 rfl ?_
            refine vx_iconst (v := 0) IG dc_M_modulo_125 (by decide) ?_
            refine vx_callV (As := [.int (nI d), .int 0]) (st := []) IG lw_good (cM_keep LY HM hd (Or.inl rfl) ht ht1 ht2) (mo_M LY HM) rfl wC_M_keep wL_M_52 wI_M_keep wS_M_keep wX_M 2 (by decide +kernel) rfl ⟨Nat.le_of_ble_eq_true rfl, Nat.le_of_ble_eq_true rfl⟩ ⟨(by dsimp only [rm_]; omega), (by dsimp only [rm_]; omega)⟩ rfl (Nat.le_of_ble_eq_true rfl) dc_M_modulo_126 (fun v h k23 n23 hq => ?_)
            rw [kz_0, g4] at hq
            obtain ⟨rfl, W', C9, S9, HM9, hk9, hm9⟩ := hq
            show vx_V _ _ _ _ _ _ _ _ _ 129 [(5, .long (lN (bl (W m)))), (0, .ref (ad 30)), (1, .int (nI d)), (2, .int (nI a)), (3, .int (nI e)), (4, .int (nI m))] [.int (kpV ((W2 16 ^ (X e).natAbs % (X m).natAbs : Nat) : Int))]
            refine vx_ret (some (.int (kpV ((W2 16 ^ (X e).natAbs % (X m).natAbs : Nat) : Int)))) RG (vx_endi (by unfold kpV; split <;> rfl) dc_M_modulo_129) rfl ?_
            exact ⟨rfl, W', C9, S9, HM9, by omega, by omega⟩
          refine vx_aload_n IG dc_M_modulo_64 rfl 1 rfl ?_
          refine vx_get IG (mo_M LY HM) rfl 1 (by decide) inM wF_M_15 rfl rfl dc_M_modulo_65 ?_
          refine vx_iload_n IG dc_M_modulo_68 rfl 4 rfl ?_
          refine mr_zal IG LY HM he ht2 dc_M_modulo_69 ?_
          by_cases u : X e < 0
          · refine vx_if_ne (tgt := 83) IG dc_M_modulo_70 (by decide) (fun _ => ?_) (fun c_ => absurd c_ (by rw [sgI_neg u]; decide))
            refine vx_aload_n IG dc_M_modulo_83 rfl 1 rfl ?_
            refine vx_iload_n IG dc_M_modulo_84 rfl 3 rfl ?_
            refine vx_iload IG dc_M_modulo_85 5 rfl ?_
            refine vx_callV (As := [.int (nI a), .int (nI m)]) (st := []) IG lw_good (cM_findInverse LY HM ha hm z2 ht ht1 ht2) (mo_M LY HM) rfl wC_M_findInverse wL_M_167 wI_M_findInverse wS_M_findInverse wX_M 2 (by decide +kernel) rfl ⟨Nat.le_of_ble_eq_true rfl, Nat.le_of_ble_eq_true rfl⟩ ⟨(by dsimp only [rm_]; omega), (by dsimp only [rm_]; omega)⟩ rfl (Nat.le_of_ble_eq_true rfl) dc_M_modulo_87 (fun v h k11 n11 hq => ?_)
            obtain ⟨W1, C1, S1, HM, hk1, hm1, hv⟩ := hq
            rcases hv with ⟨rfl, hi⟩ | ⟨rfl, hi⟩
            · show vx_V _ _ _ _ _ _ _ _ _ 90 [(5, .long (lN (bl (W m)))), (0, .ref (ad 30)), (1, .int (nI d)), (2, .int (nI a)), (3, .int (nI e)), (4, .int (nI m))] [.int 1]
              refine vx_if_ne (tgt := 95) IG dc_M_modulo_90 (by decide) (fun _ => ?_) (fun c_ => absurd c_ (by decide))
              exact fin h W1 C1 S1 _ _ HM hi.1 (mdG_s (by omega) (ivO_some hi)) (by omega) (by omega)
            · show vx_V _ _ _ _ _ _ _ _ _ 90 [(5, .long (lN (bl (W m)))), (0, .ref (ad 30)), (1, .int (nI d)), (2, .int (nI a)), (3, .int (nI e)), (4, .int (nI m))] [.int 0]
              refine vx_if_ne (tgt := 95) IG dc_M_modulo_90 (by decide) (fun c_ => absurd rfl c_) (fun _ => ?_)
              refine vx_iconst (v := 0) IG dc_M_modulo_93 (by decide) ?_
              rw [mdG_n (by omega) hi] at RG
              refine vx_ret (some (.int 0)) RG (vx_endi (by first | rfl | decide) dc_M_modulo_94) rfl ?_
              exact ⟨rfl, W1, C1, S1, HM, by omega, by omega⟩
          · refine vx_if_ne (tgt := 83) IG dc_M_modulo_70 (by decide) (fun c_ => absurd (sgI_pos u) c_) (fun _ => ?_)
            refine vx_aload_n IG dc_M_modulo_73 rfl 1 rfl ?_
            refine vx_iload_n IG dc_M_modulo_74 rfl 3 rfl ?_
            refine vx_iload IG dc_M_modulo_75 5 rfl ?_
            refine vx_callV (As := [.int (nI a), .int (nI m)]) (st := []) IG lw_good (cM_reduce LY HM ha hm z2 ht ht1 ht2) (mo_M LY HM) rfl wC_M_reduce wL_M_175 wI_M_reduce wS_M_reduce wX_M 2 (by decide +kernel) rfl ⟨Nat.le_of_ble_eq_true rfl, Nat.le_of_ble_eq_true rfl⟩ ⟨(by dsimp only [rm_]; omega), (by dsimp only [rm_]; omega)⟩ rfl (Nat.le_of_ble_eq_true rfl) dc_M_modulo_77 (fun v h k12 n12 hq => ?_)
            obtain ⟨rfl, W1, C1, S1, HM, hr, hk1, hm1⟩ := hq
            show vx_V _ _ _ _ _ _ _ _ _ 80 [(5, .long (lN (bl (W m)))), (0, .ref (ad 30)), (1, .int (nI d)), (2, .int (nI a)), (3, .int (nI e)), (4, .int (nI m))] []
            refine vx_goto (tgt := 95) IG dc_M_modulo_80 (by decide) ?_
            exact fin h W1 C1 S1 _ _ HM (by rw [hr]; exact rdz_lt hmp) (by rw [hr]; exact mdG_p (by omega)) (by omega) (by omega)
        · refine vx_if_le (tgt := 64) IG dc_M_modulo_59 (by decide) (fun c_ => absurd c_ (fun q => y ((pk_lLE (b := 4294967296) (by omega) (by decide)).mp ((lg_cmp_le _ _).mp q)))) (fun _ => ?_)
          rw [if_neg y] at RG
          refine vx_iconst (v := 0) IG dc_M_modulo_62 (by decide) ?_
          refine vx_ret (some (.int 0)) RG (vx_endi (by first | rfl | decide) dc_M_modulo_63) rfl ?_
          exact ⟨rfl, W, C, S, HM, by omega, by omega⟩
      · refine vx_topi (y := 0) (if_neg z1) ?_
        refine vx_if_ne (tgt := 26) IG dc_M_modulo_21 (by decide) (fun c_ => absurd rfl c_) (fun _ => ?_)
        refine vx_iconst (v := 0) IG dc_M_modulo_24 (by decide) ?_
        refine vx_ret (some (.int 0)) RG (vx_endi (by first | rfl | decide) dc_M_modulo_25) rfl ?_
        have ee : sp4 0 X (mdF X) (nI d) (nI a) (nI e) r4 = (0, X) := by
          by_cases z : isR r4
          · obtain ⟨m, hm, rfl⟩ := isR_of z
            rw [sp4_ok hd ha he hm]
            unfold mdF
            exact if_neg (fun q => z1 ⟨z, by rw [nI_clamp (by omega)]; exact q⟩)
          · exact sp4_no (fun q => z q.2.2.2)
        rw [ee]
        exact ⟨rfl, W, C, S, HM, by omega, by omega⟩
    · refine vx_topi (y := 0) (if_neg z3) ?_
      refine vx_if_eq (tgt := 24) IG dc_M_modulo_12 (by decide) (fun _ => ?_) (fun c_ => absurd rfl c_)
      refine vx_iconst (v := 0) IG dc_M_modulo_24 (by decide) ?_
      refine vx_ret (some (.int 0)) RG (vx_endi (by first | rfl | decide) dc_M_modulo_25) rfl ?_
      rw [sp4_no (fun q => z3 q.2.2.1)]
      exact ⟨rfl, W, C, S, HM, by omega, by omega⟩
  · refine vx_topi (y := 0) (if_neg z0) ?_
    refine vx_if_eq (tgt := 24) IG dc_M_modulo_5 (by decide) (fun _ => ?_) (fun c_ => absurd rfl c_)
    refine vx_iconst (v := 0) IG dc_M_modulo_24 (by decide) ?_
    refine vx_ret (some (.int 0)) RG (vx_endi (by first | rfl | decide) dc_M_modulo_25) rfl ?_
    rw [sp4_no (fun q => z0 ⟨q.1, q.2.1⟩)]
    exact ⟨rfl, W, C, S, HM, by omega, by omega⟩
end
