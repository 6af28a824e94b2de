/-! the mill: endlessDigit, lowest, length, ones, word, change -/
/-- j is the place of N's lowest digit that is not 0 -/
def fsd (N j : Nat) : Prop := (N = 0 → j = 0) ∧ (0 < N → j < nd 4294967296 N ∧ dg 4294967296 N j ≠ 0) ∧ ∀ i, i < j → dg 4294967296 N i = 0
theorem ln_negm {d : Nat} (hd : d < 4294967296) : -lN d &&& 4294967295 = lN ((4294967296 - d) % 4294967296) := by
  rw [← lZ_nat, lZ_neg, lZ_mask]
  have := neg_mod (m := d) (b := 4294967296) (by decide)
  rw [Nat.mod_eq_of_lt hd] at this
  congr 1
  have h2 : ((4294967296 : Nat) : Int) = 4294967296 := rfl
  rw [h2] at this
  rw [this, Int.toNat_natCast]
/-- what change does at place k -/
def chZ (x : Int) (k : Nat) : Int := x + (if tB x k = 1 then -((2 ^ k : Nat) : Int) else ((2 ^ k : Nat) : Int))
def chF (X : Nat → Int) (k how : Int32) (d a : Nat) : Int32 × (Nat → Int) :=
  if 0 ≤ k.toInt ∧ 0 ≤ how.toInt ∧ how.toInt ≤ 2 then (if how.toInt = (tB (X a) k.toNatClampNeg : Int) then kp X d (X a) else if 65536 ≤ k.toInt then (0, X) else kp X d (chZ (X a) k.toNatClampNeg)) else (0, X)
theorem i32_dec2 {a t : Nat} : nI a - 1 + nI t = nI (a + t) - 1 := by
  rw [← nI_add]
  apply Int32.toBitVec_inj.mp
  show (nI a).toBitVec - 1#32 + (nI t).toBitVec = (nI a).toBitVec + (nI t).toBitVec - 1#32
  generalize (nI a).toBitVec = x
  generalize (nI t).toBitVec = y
  rw [BitVec.sub_eq_add_neg, BitVec.sub_eq_add_neg, BitVec.add_assoc, BitVec.add_comm (-1#32) y, BitVec.add_assoc]
theorem nI_pred2 {a : Nat} (h : 0 < a) : nI a - 1 = nI (a - 1) := pk_sub (b := 1) h
theorem pop_pos {N t K : Nat} (h : N / 2 ^ t % 2 = 1) (hK : t < K) : 0 < pop N K := by
  rw [show K = t + (1 + (K - t - 1)) by omega, pop_add, pop_add]
  have e1 : pop (N / 2 ^ t) 1 = 1 := by show 0 + N / 2 ^ t / 2 ^ 0 % 2 = 1; rw [Nat.pow_zero, Nat.div_one]; omega
  omega
section
variable {l : Launch} {D : va_G} {tys : List (ClassId × FieldType)} {cJ cQ cZ : ClassId} {ad : Nat → Nat} {r0 h : vx_h} {W : Nat → Nat} {X : Nat → Int} {C S : Nat} {a b d s : Nat} {w : Int32}
set_option maxRecDepth 100000 in
set_option maxHeartbeats 4000000 in
theorem cM_endlessDigit (LY : lay cQ ad r0) (HM : mw cJ cZ ad r0 W X h C S) (ha : a < 16) {k j : Nat} (hk : k < 2 ^ 31) (hj : j < 2 ^ 31) (hf : fsd (W a) j) (ht : tys[0]? = some (cJ, .long)) (ht1 : tys[1]? = some (cQ, .object "SignedMill$Whole")) (ht2 : tys[2]? = some (cZ, .boolean)) : vx_M l D vcl tys my_M_endlessDigit lw_gd (rm_ 1 0 0 21) [.ref (ad 30), .int (nI a), .int (nI k), .int (nI j)] h (fun v h' k' n => v = some (.long (lN (eD 4294967296 (X a) k))) ∧ h' = h ∧ k' = 0 ∧ n = 0) := by
  have hWa := mw_W HM ha
  have gx := dg_lt bB1 (W a) k
  refine vx_M.ofV (cc := bc_M_endlessDigit) (maxL := 6) (ret := some .long) (own := rM) false rfl (by decide +kernel) wC_M_endlessDigit (fun q => by cases q) (Nat.le_of_ble_eq_true rfl) (fun A H0 G IG RG => ?_)
  show vx_V _ _ _ _ _ _ _ _ _ 0 [(0, .ref (ad 30)), (1, .int (nI a)), (2, .int (nI k)), (3, .int (nI j))] []
  refine vx_aload_n IG dc_M_endlessDigit_0 rfl 0 rfl ?_
  refine vx_get IG (mo_M LY HM) rfl 0 (by decide) inM wF_M_11 rfl rfl dc_M_endlessDigit_1 ?_
  refine vx_iload_n IG dc_M_endlessDigit_4 rfl 1 rfl ?_
  refine mr_aal IG LY HM ha ht1 dc_M_endlessDigit_5 ?_
  refine vx_iload_n IG dc_M_endlessDigit_6 rfl 2 rfl ?_
  refine vx_callV (As := [.int (nI k)]) (st := []) IG lw_good (mW_digitAt HM a (by omega) ht hk) ((mo_W HM (show a < 30 by omega)).choose_spec) rfl wC_W_digitAt wL_M_193 wI_W_digitAt wS_W_digitAt wX_W 1 (by decide +kernel) rfl ⟨Nat.le_of_ble_eq_true rfl, Nat.le_of_ble_eq_true rfl⟩ ⟨(by dsimp only [rm_]; omega), (by dsimp only [rm_]; omega)⟩ rfl (Nat.le_of_ble_eq_true rfl) dc_M_endlessDigit_7 (fun v h k_ n_ hq => ?_)
  obtain ⟨rfl, rfl, rfl, rfl⟩ := hq
  show vx_V _ _ _ _ _ _ _ _ _ 10 [(0, .ref (ad 30)), (1, .int (nI a)), (2, .int (nI k)), (3, .int (nI j))] [.long (lN (dg 4294967296 (W a) k))]
  refine vx_lstore (lv' := [(4, .long (lN (dg 4294967296 (W a) k))), (0, .ref (ad 30)), (1, .int (nI a)), (2, .int (nI k)), (3, .int (nI j))]) IG dc_M_endlessDigit_10 (by decide) rfl ?_
  refine vx_aload_n IG dc_M_endlessDigit_12 rfl 1 rfl ?_
  refine vx_get IG (mo_M LY HM) rfl 1 (by decide) inM wF_M_15 rfl rfl dc_M_endlessDigit_13 ?_
  refine vx_iload_n IG dc_M_endlessDigit_16 rfl 2 rfl ?_
  refine mr_zal IG LY HM ha ht2 dc_M_endlessDigit_17 ?_
  by_cases y : X a < 0
  · refine vx_if_ne (tgt := 24) IG dc_M_endlessDigit_18 (by decide) (fun _ => ?_) (fun c_ => absurd c_ (by rw [sgI_neg y]; decide))
    have hWp : 0 < W a := by omega
    have hx : X a = -((W a : Nat) : Int) := by omega
    have he := eD_first (k := k) bB1 hf.2.2 (hf.2.1 hWp).2
    rw [← hx] at he
    refine vx_iload_n IG dc_M_endlessDigit_24 rfl 3 rfl ?_
    refine vx_iload_n IG dc_M_endlessDigit_25 rfl 4 rfl ?_
    by_cases x : k ≤ j
    · rw [if_pos x] at he
      refine vx_icmp_gt (tgt := 35) IG dc_M_endlessDigit_26 (by decide) (fun c_ => absurd c_ (fun q => absurd (nI_le x hj) (Int32.not_le.mpr q))) (fun _ => ?_)
      refine vx_lload IG dc_M_endlessDigit_29 0 rfl ?_
      refine vx_lneg IG dc_M_endlessDigit_31 ?_
      refine vx_goto (tgt := 41) IG dc_M_endlessDigit_32 (by decide) ?_
      refine vx_ldc2 (v := 4294967295) IG wK_M_199 dc_M_endlessDigit_41 ?_
      refine vx_land IG dc_M_endlessDigit_44 ?_
      refine vx_topl (y := lN ((4294967296 - dg 4294967296 (W a) k) % 4294967296)) (ln_negm gx) ?_
      refine vx_ret (some (.long (lN ((4294967296 - dg 4294967296 (W a) k) % 4294967296)))) RG (vx_endl dc_M_endlessDigit_45) rfl ?_
      exact ⟨by rw [he], rfl, rfl, rfl⟩
    · rw [if_neg x] at he
      refine vx_icmp_gt (tgt := 35) IG dc_M_endlessDigit_26 (by decide) (fun _ => ?_) (fun c_ => absurd (nI_lt (by omega) (by omega)) c_)
      refine vx_lload IG dc_M_endlessDigit_35 0 rfl ?_
      refine vx_ldc2 (v := -1) IG wK_M_197 dc_M_endlessDigit_37 ?_
      refine vx_lxor IG dc_M_endlessDigit_40 ?_
      refine vx_ldc2 (v := 4294967295) IG wK_M_199 dc_M_endlessDigit_41 ?_
      refine vx_land IG dc_M_endlessDigit_44 ?_
      refine vx_topl (y := lN (4294967295 - dg 4294967296 (W a) k)) (ln_not gx) ?_
      refine vx_ret (some (.long (lN (4294967295 - dg 4294967296 (W a) k)))) RG (vx_endl dc_M_endlessDigit_45) rfl ?_
      exact ⟨by rw [he], rfl, rfl, rfl⟩
  · refine vx_if_ne (tgt := 24) IG dc_M_endlessDigit_18 (by decide) (fun c_ => absurd (sgI_pos y) c_) (fun _ => ?_)
    refine vx_lload IG dc_M_endlessDigit_21 0 rfl ?_
    refine vx_ret (some (.long (lN (dg 4294967296 (W a) k)))) RG (vx_endl dc_M_endlessDigit_23) rfl ?_
    have hx : X a = ((W a : Nat) : Int) := by omega
    exact ⟨by rw [hx, eD_nat], rfl, rfl, rfl⟩
set_option maxRecDepth 100000 in
set_option maxHeartbeats 8000000 in
theorem cM_lowest (LY : lay cQ ad r0) (HM : mw cJ cZ ad r0 W X h C S) (ht : tys[0]? = some (cJ, .long)) (ht1 : tys[1]? = some (cQ, .object "SignedMill$Whole")) (ht2 : tys[2]? = some (cZ, .boolean)) (r1 : Int32) : vx_M l D vcl tys my_M_lowest lw_gd (rm_ 3 C S 64) [.ref (ad 30), .int r1] h (mpub cJ cZ ad r0 (sp1 (-1) X (fun d => (if X d = 0 then -1 else nI (tz (X d).natAbs), X)) r1).2 C S (sp1 (-1) X (fun d => (if X d = 0 then -1 else nI (tz (X d).natAbs), X)) r1).1) := by
  refine vx_M.ofV (cc := bc_M_lowest) (maxL := 2) (ret := some .int) (own := rM) false rfl (by decide +kernel) wC_M_lowest (fun q => by cases q) (Nat.le_of_ble_eq_true rfl) (fun A H0 G IG RG => ?_)
  show vx_V _ _ _ _ _ _ _ _ _ 0 [(0, .ref (ad 30)), (1, .int r1)] []
  refine vx_iload_n IG dc_M_lowest_0 rfl 1 rfl ?_
  refine vx_callS (As := [.int r1]) (st := []) IG lw_good (cM_isRegister _ r1) wC_M_isRegister wL_M_44 wT_M_isRegister wX_M 1 (by decide +kernel) rfl ⟨Nat.le_of_ble_eq_true rfl, Nat.le_of_ble_eq_true rfl⟩ ⟨(by dsimp only [rm_]; omega), (by dsimp only [rm_]; omega)⟩ rfl (Nat.le_of_ble_eq_true rfl) dc_M_lowest_1 (fun v h k1 n1 hq => ?_)
  obtain ⟨rfl, rfl, rfl, rfl⟩ := hq
  show vx_V _ _ _ _ _ _ _ _ _ 4 [(0, .ref (ad 30)), (1, .int r1)] [.int (if isR r1 then 1 else 0)]
  by_cases z0 : isR r1
  · refine vx_topi (y := 1) (if_pos z0) ?_
    refine vx_if_eq (tgt := 19) IG dc_M_lowest_4 (by decide) (fun c_ => absurd c_ (by decide)) (fun _ => ?_)
    obtain ⟨d, hd, rfl⟩ := isR_of z0
    rw [sp1_ok hd] at RG
    have hWa := mw_W HM hd
    refine vx_aload_n IG dc_M_lowest_7 rfl 0 rfl ?_
    refine vx_get IG (mo_M LY HM) rfl 0 (by decide) inM wF_M_11 rfl rfl dc_M_lowest_8 ?_
    refine vx_iload_n IG dc_M_lowest_11 rfl 1 rfl ?_
    refine mr_aal IG LY HM hd ht1 dc_M_lowest_12 ?_
    refine vx_callV (As := []) (st := []) IG lw_good (mW_lowestOne HM d (by omega) ht) ((mo_W HM (show d < 30 by omega)).choose_spec) rfl wC_W_lowestOne wL_M_186 wI_W_lowestOne wS_W_lowestOne wX_W 0 (by decide +kernel) rfl ⟨Nat.le_of_ble_eq_true rfl, Nat.le_of_ble_eq_true rfl⟩ ⟨(by dsimp only [rm_]; omega), (by dsimp only [rm_]; omega)⟩ rfl (Nat.le_of_ble_eq_true rfl) dc_M_lowest_13 (fun v h k2 n2 hq => ?_)
    obtain ⟨rfl, rfl, rfl, hq⟩ := hq
    rcases hq with ⟨y, rfl⟩ | ⟨y, t, rfl, t1, t2, t3⟩
    · show vx_V _ _ _ _ _ _ _ _ _ 16 [(0, .ref (ad 30)), (1, .int (nI d))] [.int (-1)]
      refine vx_goto (tgt := 20) IG dc_M_lowest_16 (by decide) ?_
      refine vx_ret (some (.int (-1))) RG (vx_endi (by first | rfl | decide) dc_M_lowest_20) rfl ?_
      exact ⟨by rw [if_pos (by omega)], W, C, S, HM, by omega, by omega⟩
    · show vx_V _ _ _ _ _ _ _ _ _ 16 [(0, .ref (ad 30)), (1, .int (nI d))] [.int (nI t)]
      refine vx_goto (tgt := 20) IG dc_M_lowest_16 (by decide) ?_
      refine vx_ret (some (.int (nI t))) RG (vx_endi (by first | rfl | decide) dc_M_lowest_20) rfl ?_
      exact ⟨by rw [if_neg (by omega), ← hWa.1, tz_eq t2 t3], W, C, S, HM, by omega, by omega⟩
  · refine vx_topi (y := 0) (if_neg z0) ?_
    refine vx_if_eq (tgt := 19) IG dc_M_lowest_4 (by decide) (fun _ => ?_) (fun c_ => absurd rfl c_)
    refine vx_iconst (v := -1) IG dc_M_lowest_19 (by decide) ?_
    refine vx_ret (some (.int (-1))) RG (vx_endi (by first | rfl | decide) dc_M_lowest_20) rfl ?_
    rw [sp1_no (fun q => z0 (q))]
    exact ⟨rfl, W, C, S, HM, by omega, by omega⟩
set_option maxRecDepth 100000 in
set_option maxHeartbeats 8000000 in
theorem cM_length (LY : lay cQ ad r0) (HM : mw cJ cZ ad r0 W X h C S) (ht : tys[0]? = some (cJ, .long)) (ht1 : tys[1]? = some (cQ, .object "SignedMill$Whole")) (ht2 : tys[2]? = some (cZ, .boolean)) (r1 : Int32) : vx_M l D vcl tys my_M_length lw_gd (rm_ 3 C S 66) [.ref (ad 30), .int r1] h (mpub cJ cZ ad r0 (sp1 (-1) X (fun d => (nI (lenZ (X d)), X)) r1).2 C S (sp1 (-1) X (fun d => (nI (lenZ (X d)), X)) r1).1) := by
  refine vx_M.ofV (cc := bc_M_length) (maxL := 4) (ret := some .int) (own := rM) false rfl (by decide +kernel) wC_M_length (fun q => by cases q) (Nat.le_of_ble_eq_true rfl) (fun A H0 G IG RG => ?_)
  show vx_V _ _ _ _ _ _ _ _ _ 0 [(0, .ref (ad 30)), (1, .int r1)] []
  refine vx_iload_n IG dc_M_length_0 rfl 1 rfl ?_
  refine vx_callS (As := [.int r1]) (st := []) IG lw_good (cM_isRegister _ r1) wC_M_isRegister wL_M_44 wT_M_isRegister wX_M 1 (by decide +kernel) rfl ⟨Nat.le_of_ble_eq_true rfl, Nat.le_of_ble_eq_true rfl⟩ ⟨(by dsimp only [rm_]; omega), (by dsimp only [rm_]; omega)⟩ rfl (Nat.le_of_ble_eq_true rfl) dc_M_length_1 (fun v h k1 n1 hq => ?_)
  obtain ⟨rfl, rfl, rfl, rfl⟩ := hq
  show vx_V _ _ _ _ _ _ _ _ _ 4 [(0, .ref (ad 30)), (1, .int r1)] [.int (if isR r1 then 1 else 0)]
  by_cases z0 : isR r1
  · refine vx_topi (y := 1) (if_pos z0) ?_
    refine vx_if_ne (tgt := 9) IG dc_M_length_4 (by decide) (fun _ => ?_) (fun c_ => absurd c_ (by decide))
    obtain ⟨d, hd, rfl⟩ := isR_of z0
    rw [sp1_ok hd] at RG
    have hWa := mw_W HM hd
    have hna := lim_nd.mp hWa.2
    have hba := lim_bl.mp hWa.2
    refine vx_aload_n IG dc_M_length_9 rfl 0 rfl ?_
    refine vx_get IG (mo_M LY HM) rfl 0 (by decide) inM wF_M_11 rfl rfl dc_M_length_10 ?_
    refine vx_iload_n IG dc_M_length_13 rfl 1 rfl ?_
    refine mr_aal IG LY HM hd ht1 dc_M_length_14 ?_
    refine vx_callV (As := []) (st := []) IG lw_good (mW_bits HM d (by omega) ht) ((mo_W HM (show d < 30 by omega)).choose_spec) rfl wC_W_bits wL_M_170 wI_W_bits wS_W_bits wX_W 0 (by decide +kernel) rfl ⟨Nat.le_of_ble_eq_true rfl, Nat.le_of_ble_eq_true rfl⟩ ⟨(by dsimp only [rm_]; omega), (by dsimp only [rm_]; omega)⟩ rfl (Nat.le_of_ble_eq_true rfl) dc_M_length_15 (fun v h k2 n2 hq => ?_)
    obtain ⟨rfl, rfl, rfl, rfl⟩ := hq
    show vx_V _ _ _ _ _ _ _ _ _ 18 [(0, .ref (ad 30)), (1, .int (nI d))] [.int (nI (bl (W d)))]
    refine vx_istore_n (lv' := [(2, .int (nI (bl (W d)))), (0, .ref (ad 30)), (1, .int (nI d))]) IG dc_M_length_18 rfl (by decide) rfl ?_
    refine vx_aload_n IG dc_M_length_19 rfl 1 rfl ?_
    refine vx_get IG (mo_M LY HM) rfl 1 (by decide) inM wF_M_15 rfl rfl dc_M_length_20 ?_
    refine vx_iload_n IG dc_M_length_23 rfl 2 rfl ?_
    refine mr_zal IG LY HM hd ht2 dc_M_length_24 ?_
    by_cases y : X d < 0
    · refine vx_if_eq (tgt := 47) IG dc_M_length_25 (by decide) (fun c_ => absurd c_ (by rw [sgI_neg y]; decide)) (fun _ => ?_)
      refine vx_aload_n IG dc_M_length_28 rfl 1 rfl ?_
      refine vx_get IG (mo_M LY HM) rfl 0 (by decide) inM wF_M_11 rfl rfl dc_M_length_29 ?_
      refine vx_iload_n IG dc_M_length_32 rfl 2 rfl ?_
      refine mr_aal IG LY HM hd ht1 dc_M_length_33 ?_
      have hbp : 0 < bl (W d) := bl_pos (by omega)
      refine vx_callV (As := []) (st := []) IG lw_good (mW_lowestOne HM d (by omega) ht) ((mo_W HM (show d < 30 by omega)).choose_spec) rfl wC_W_lowestOne wL_M_186 wI_W_lowestOne wS_W_lowestOne wX_W 0 (by decide +kernel) rfl ⟨Nat.le_of_ble_eq_true rfl, Nat.le_of_ble_eq_true rfl⟩ ⟨(by dsimp only [rm_]; omega), (by dsimp only [rm_]; omega)⟩ rfl (Nat.le_of_ble_eq_true rfl) dc_M_length_34 (fun v h k3 n3 hq => ?_)
      obtain ⟨rfl, rfl, rfl, hq⟩ := hq
      rcases hq with ⟨y2, -⟩ | ⟨y2, t, rfl, t1, t2, t3⟩
      · omega
      · have hlen := bl_pred t2 t3
        have e : lenZ (X d) = bl (W d - 1) := by unfold lenZ; rw [if_pos y, hWa.1]
        show vx_V _ _ _ _ _ _ _ _ _ 37 [(2, .int (nI (bl (W d)))), (0, .ref (ad 30)), (1, .int (nI d))] [.int (nI t)]
        refine vx_iload_n IG dc_M_length_37 rfl 0 rfl ?_
        refine vx_iconst (v := 1) IG dc_M_length_38 (by decide) ?_
        refine vx_isub IG dc_M_length_39 ?_
        refine vx_topi (y := nI (bl (W d) - 1)) (pk_sub (b := 1) hbp) ?_
        by_cases x : t = bl (W d) - 1
        · refine vx_icmp_ne (tgt := 47) IG dc_M_length_40 (by decide) (fun c_ => absurd (by rw [x]) c_) (fun _ => ?_)
          refine vx_iconst (v := 1) IG dc_M_length_43 (by decide) ?_
          refine vx_goto (tgt := 48) IG dc_M_length_44 (by decide) ?_
          refine vx_istore_n (lv' := [(3, .int 1), (2, .int (nI (bl (W d)))), (0, .ref (ad 30)), (1, .int (nI d))]) IG dc_M_length_48 rfl (by decide) rfl ?_
          refine vx_iload_n IG dc_M_length_49 rfl 0 rfl ?_
          refine vx_if_eq (tgt := 59) IG dc_M_length_50 (by decide) (fun c_ => absurd c_ (by decide)) (fun _ => ?_)
          refine vx_iload_n IG dc_M_length_53 rfl 1 rfl ?_
          refine vx_iconst (v := 1) IG dc_M_length_54 (by decide) ?_
          refine vx_isub IG dc_M_length_55 ?_
          refine vx_topi (y := nI (bl (W d) - 1)) (pk_sub (b := 1) hbp) ?_
          refine vx_goto (tgt := 60) IG dc_M_length_56 (by decide) ?_
          refine vx_ret (some (.int (nI (bl (W d) - 1)))) RG (vx_endi (by first | rfl | decide) dc_M_length_60) rfl ?_
          exact ⟨by rw [e, hlen, if_pos x], W, C, S, HM, by omega, by omega⟩
        · refine vx_icmp_ne (tgt := 47) IG dc_M_length_40 (by decide) (fun _ => ?_) (fun c_ => absurd c_ (nI_ne (by omega) (by omega) x))
          refine vx_iconst (v := 0) IG dc_M_length_47 (by decide) ?_
          refine vx_istore_n (lv' := [(3, .int 0), (2, .int (nI (bl (W d)))), (0, .ref (ad 30)), (1, .int (nI d))]) IG dc_M_length_48 rfl (by decide) rfl ?_
          refine vx_iload_n IG dc_M_length_49 rfl 0 rfl ?_
          refine vx_if_eq (tgt := 59) IG dc_M_length_50 (by decide) (fun _ => ?_) (fun c_ => absurd rfl c_)
          refine vx_iload_n IG dc_M_length_59 rfl 1 rfl ?_
          refine vx_ret (some (.int (nI (bl (W d))))) RG (vx_endi (by first | rfl | decide) dc_M_length_60) rfl ?_
          exact ⟨by rw [e, hlen, if_neg x], W, C, S, HM, by omega, by omega⟩
    · refine vx_if_eq (tgt := 47) IG dc_M_length_25 (by decide) (fun _ => ?_) (fun c_ => absurd (sgI_pos y) c_)
      refine vx_iconst (v := 0) IG dc_M_length_47 (by decide) ?_
      refine vx_istore_n (lv' := [(3, .int 0), (2, .int (nI (bl (W d)))), (0, .ref (ad 30)), (1, .int (nI d))]) IG dc_M_length_48 rfl (by decide) rfl ?_
      refine vx_iload_n IG dc_M_length_49 rfl 0 rfl ?_
      refine vx_if_eq (tgt := 59) IG dc_M_length_50 (by decide) (fun _ => ?_) (fun c_ => absurd rfl c_)
      refine vx_iload_n IG dc_M_length_59 rfl 1 rfl ?_
      refine vx_ret (some (.int (nI (bl (W d))))) RG (vx_endi (by first | rfl | decide) dc_M_length_60) rfl ?_
      exact ⟨by unfold lenZ; rw [if_neg y, hWa.1], W, C, S, HM, by omega, by omega⟩
  · refine vx_topi (y := 0) (if_neg z0) ?_
    refine vx_if_ne (tgt := 9) IG dc_M_length_4 (by decide) (fun c_ => absurd rfl c_) (fun _ => ?_)
    refine vx_iconst (v := -1) IG dc_M_length_7 (by decide) ?_
    refine vx_ret (some (.int (-1))) RG (vx_endi (by first | rfl | decide) dc_M_length_8) rfl ?_
    rw [sp1_no (fun q => z0 (q))]
    exact ⟨rfl, W, C, S, HM, by omega, by omega⟩
set_option maxRecDepth 100000 in
set_option maxHeartbeats 8000000 in
theorem cM_ones (LY : lay cQ ad r0) (HM : mw cJ cZ ad r0 W X h C S) (ht : tys[0]? = some (cJ, .long)) (ht1 : tys[1]? = some (cQ, .object "SignedMill$Whole")) (ht2 : tys[2]? = some (cZ, .boolean)) (r1 : Int32) : vx_M l D vcl tys my_M_ones lw_gd (rm_ 3 C S 66) [.ref (ad 30), .int r1] h (mpub cJ cZ ad r0 (sp1 (-1) X (fun d => (nI (onesZ (X d)), X)) r1).2 C S (sp1 (-1) X (fun d => (nI (onesZ (X d)), X)) r1).1) := by
  refine vx_M.ofV (cc := bc_M_ones) (maxL := 3) (ret := some .int) (own := rM) false rfl (by decide +kernel) wC_M_ones (fun q => by cases q) (Nat.le_of_ble_eq_true rfl) (fun A H0 G IG RG => ?_)
  show vx_V _ _ _ _ _ _ _ _ _ 0 [(0, .ref (ad 30)), (1, .int r1)] []
  refine vx_iload_n IG dc_M_ones_0 rfl 1 rfl ?_
  refine vx_callS (As := [.int r1]) (st := []) IG lw_good (cM_isRegister _ r1) wC_M_isRegister wL_M_44 wT_M_isRegister wX_M 1 (by decide +kernel) rfl ⟨Nat.le_of_ble_eq_true rfl, Nat.le_of_ble_eq_true rfl⟩ ⟨(by dsimp only [rm_]; omega), (by dsimp only [rm_]; omega)⟩ rfl (Nat.le_of_ble_eq_true rfl) dc_M_ones_1 (fun v h k1 n1 hq => ?_)
  obtain ⟨rfl, rfl, rfl, rfl⟩ := hq
  show vx_V _ _ _ _ _ _ _ _ _ 4 [(0, .ref (ad 30)), (1, .int r1)] [.int (if isR r1 then 1 else 0)]
  by_cases z0 : isR r1
  · refine vx_topi (y := 1) (if_pos z0) ?_
    refine vx_if_ne (tgt := 9) IG dc_M_ones_4 (by decide) (fun _ => ?_) (fun c_ => absurd c_ (by decide))
    obtain ⟨d, hd, rfl⟩ := isR_of z0
    rw [sp1_ok hd] at RG
    have hWa := mw_W HM hd
    have hna := lim_nd.mp hWa.2
    have hpop : pop (W d) (32 * nd 4294967296 (W d)) = pop (W d) 65600 := (pop_big (by rw [← bp32]; exact lt_nd bB1 _) _ (by omega)).symm
    refine vx_aload_n IG dc_M_ones_9 rfl 0 rfl ?_
    refine vx_get IG (mo_M LY HM) rfl 0 (by decide) inM wF_M_11 rfl rfl dc_M_ones_10 ?_
    refine vx_iload_n IG dc_M_ones_13 rfl 1 rfl ?_
    refine mr_aal IG LY HM hd ht1 dc_M_ones_14 ?_
    refine vx_callV (As := []) (st := []) IG lw_good (mW_countOnes HM d (by omega) ht) ((mo_W HM (show d < 30 by omega)).choose_spec) rfl wC_W_countOnes wL_M_189 wI_W_countOnes wS_W_countOnes wX_W 0 (by decide +kernel) rfl ⟨Nat.le_of_ble_eq_true rfl, Nat.le_of_ble_eq_true rfl⟩ ⟨(by dsimp only [rm_]; omega), (by dsimp only [rm_]; omega)⟩ rfl (Nat.le_of_ble_eq_true rfl) dc_M_ones_15 (fun v h k2 n2 hq => ?_)
    obtain ⟨rfl, rfl, rfl, rfl⟩ := hq
    rw [hpop]
    show vx_V _ _ _ _ _ _ _ _ _ 18 [(0, .ref (ad 30)), (1, .int (nI d))] [.int (nI (pop (W d) 65600))]
    refine vx_istore_n (lv' := [(2, .int (nI (pop (W d) 65600))), (0, .ref (ad 30)), (1, .int (nI d))]) IG dc_M_ones_18 rfl (by decide) rfl ?_
    refine vx_aload_n IG dc_M_ones_19 rfl 1 rfl ?_
    refine vx_get IG (mo_M LY HM) rfl 1 (by decide) inM wF_M_15 rfl rfl dc_M_ones_20 ?_
    refine vx_iload_n IG dc_M_ones_23 rfl 2 rfl ?_
    refine mr_zal IG LY HM hd ht2 dc_M_ones_24 ?_
    by_cases y : X d < 0
    · refine vx_if_eq (tgt := 44) IG dc_M_ones_25 (by decide) (fun c_ => absurd c_ (by rw [sgI_neg y]; decide)) (fun _ => ?_)
      refine vx_iload_n IG dc_M_ones_28 rfl 0 rfl ?_
      refine vx_iconst (v := 1) IG dc_M_ones_29 (by decide) ?_
      refine vx_isub IG dc_M_ones_30 ?_
      refine vx_aload_n IG dc_M_ones_31 rfl 1 rfl ?_
      refine vx_get IG (mo_M LY HM) rfl 0 (by decide) inM wF_M_11 rfl rfl dc_M_ones_32 ?_
      refine vx_iload_n IG dc_M_ones_35 rfl 2 rfl ?_
      refine mr_aal IG LY HM hd ht1 dc_M_ones_36 ?_
      refine vx_callV (As := []) (st := [.int (nI (pop (W d) 65600) - 1)]) IG lw_good (mW_lowestOne HM d (by omega) ht) ((mo_W HM (show d < 30 by omega)).choose_spec) rfl wC_W_lowestOne wL_M_186 wI_W_lowestOne wS_W_lowestOne wX_W 0 (by decide +kernel) rfl ⟨Nat.le_of_ble_eq_true rfl, Nat.le_of_ble_eq_true rfl⟩ ⟨(by dsimp only [rm_]; omega), (by dsimp only [rm_]; omega)⟩ rfl (Nat.le_of_ble_eq_true rfl) dc_M_ones_37 (fun v h k3 n3 hq => ?_)
      obtain ⟨rfl, rfl, rfl, hq⟩ := hq
      rcases hq with ⟨y2, -⟩ | ⟨y2, t, rfl, t1, t2, t3⟩
      · omega
      · have hpr := pop_pred (K := 65600) t2 t3 (by omega)
        have e : onesZ (X d) = pop (W d - 1) 65600 := by unfold onesZ; rw [if_pos y, hWa.1]
        show vx_V _ _ _ _ _ _ _ _ _ 40 [(2, .int (nI (pop (W d) 65600))), (0, .ref (ad 30)), (1, .int (nI d))] [.int (nI t), .int (nI (pop (W d) 65600) - 1)]
        refine vx_iadd IG dc_M_ones_40 ?_
        refine vx_topi (y := nI (onesZ (X d))) (by rw [e, i32_dec2, show pop (W d - 1) 65600 = pop (W d) 65600 + t - 1 by omega]; exact nI_pred2 (by have := pop_pos (N := W d) (K := 65600) t3 (by omega); omega)) ?_
        refine vx_goto (tgt := 45) IG dc_M_ones_41 (by decide) ?_
        refine vx_ret (some (.int (nI (onesZ (X d))))) RG (vx_endi (by first | rfl | decide) dc_M_ones_45) rfl ?_
        exact ⟨rfl, W, C, S, HM, by omega, by omega⟩
    · refine vx_if_eq (tgt := 44) IG dc_M_ones_25 (by decide) (fun _ => ?_) (fun c_ => absurd (sgI_pos y) c_)
      refine vx_iload_n IG dc_M_ones_44 rfl 0 rfl ?_
      refine vx_ret (some (.int (nI (pop (W d) 65600)))) RG (vx_endi (by first | rfl | decide) dc_M_ones_45) rfl ?_
      exact ⟨by unfold onesZ; rw [if_neg y, hWa.1], W, C, S, HM, by omega, by omega⟩
  · refine vx_topi (y := 0) (if_neg z0) ?_
    refine vx_if_ne (tgt := 9) IG dc_M_ones_4 (by decide) (fun c_ => absurd rfl c_) (fun _ => ?_)
    refine vx_iconst (v := -1) IG dc_M_ones_7 (by decide) ?_
    refine vx_ret (some (.int (-1))) RG (vx_endi (by first | rfl | decide) dc_M_ones_8) rfl ?_
    rw [sp1_no (fun q => z0 (q))]
    exact ⟨rfl, W, C, S, HM, by omega, by omega⟩
set_option maxRecDepth 100000 in
set_option maxHeartbeats 8000000 in
theorem cM_word (LY : lay cQ ad r0) (HM : mw cJ cZ ad r0 W X h C S) (ht : tys[0]? = some (cJ, .long)) (ht1 : tys[1]? = some (cQ, .object "SignedMill$Whole")) (ht2 : tys[2]? = some (cZ, .boolean)) (r1 n : Int32) : vx_M l D vcl tys my_M_word lw_gd (rm_ 2 C S 46) [.ref (ad 30), .int r1, .int n] h (mpub cJ cZ ad r0 (sp1 0 X (fun d => if 0 ≤ n.toInt then (nI (eD 4294967296 (X d) n.toNatClampNeg), X) else (0, X)) r1).2 C S (sp1 0 X (fun d => if 0 ≤ n.toInt then (nI (eD 4294967296 (X d) n.toNatClampNeg), X) else (0, X)) r1).1) := by
  refine vx_M.ofV (cc := bc_M_word) (maxL := 3) (ret := some .int) (own := rM) false rfl (by decide +kernel) wC_M_word (fun q => by cases q) (Nat.le_of_ble_eq_true rfl) (fun A H0 G IG RG => ?_)
  show vx_V _ _ _ _ _ _ _ _ _ 0 [(0, .ref (ad 30)), (1, .int r1), (2, .int n)] []
  refine vx_iload_n IG dc_M_word_0 rfl 1 rfl ?_
  refine vx_callS (As := [.int r1]) (st := []) IG lw_good (cM_isRegister _ r1) wC_M_isRegister wL_M_44 wT_M_isRegister wX_M 1 (by decide +kernel) rfl ⟨Nat.le_of_ble_eq_true rfl, Nat.le_of_ble_eq_true rfl⟩ ⟨(by dsimp only [rm_]; omega), (by dsimp only [rm_]; omega)⟩ rfl (Nat.le_of_ble_eq_true rfl) dc_M_word_1 (fun v h k1 n1 hq => ?_)
  obtain ⟨rfl, rfl, rfl, rfl⟩ := hq
  show vx_V _ _ _ _ _ _ _ _ _ 4 [(0, .ref (ad 30)), (1, .int r1), (2, .int n)] [.int (if isR r1 then 1 else 0)]
  by_cases z0 : isR r1
  · refine vx_topi (y := 1) (if_pos z0) ?_
    refine vx_if_eq (tgt := 11) IG dc_M_word_4 (by decide) (fun c_ => absurd c_ (by decide)) (fun _ => ?_)
    obtain ⟨d, hd, rfl⟩ := isR_of z0
    rw [sp1_ok hd] at RG
    have hWa := mw_W HM hd
    have hna := lim_nd.mp hWa.2
    have i0 : (0 : Int32).toInt = 0 := rfl
    refine vx_iload_n IG dc_M_word_7 rfl 2 rfl ?_
    by_cases y : (0 : Int32) ≤ n
    · refine vx_if_ge (tgt := 13) IG dc_M_word_8 (by decide) (fun _ => ?_) (fun c_ => absurd y c_)
      rw [Int32.le_iff_toInt_le] at y
      obtain ⟨m, hm, rfl⟩ := i32_pos (x := n) (by omega)
      rw [if_pos (by omega), nI_clamp hm] at RG
      refine vx_aload_n IG dc_M_word_13 rfl 0 rfl ?_
      refine vx_iload_n IG dc_M_word_14 rfl 1 rfl ?_
      refine vx_iload_n IG dc_M_word_15 rfl 2 rfl ?_
      refine vx_aload_n IG dc_M_word_16 rfl 0 rfl ?_
      refine vx_get IG (mo_M LY HM) rfl 0 (by decide) inM wF_M_11 rfl rfl dc_M_word_17 ?_
      refine vx_iload_n IG dc_M_word_20 rfl 1 rfl ?_
      refine mr_aal IG LY HM hd ht1 dc_M_word_21 ?_
      refine vx_callV (As := []) (st := [.int (nI m), .int (nI d), .ref (ad 30)]) IG lw_good (mW_firstDigit HM d (by omega) ht) ((mo_W HM (show d < 30 by omega)).choose_spec) rfl wC_W_firstDigit wL_M_119 wI_W_firstDigit wS_W_firstDigit wX_W 0 (by decide +kernel) rfl ⟨Nat.le_of_ble_eq_true rfl, Nat.le_of_ble_eq_true rfl⟩ ⟨(by dsimp only [rm_]; omega), (by dsimp only [rm_]; omega)⟩ rfl (Nat.le_of_ble_eq_true rfl) dc_M_word_22 (fun v h k2 n2 hq => ?_)
      obtain ⟨rfl, rfl, rfl, j, rfl, f1, f2, f3⟩ := hq
      have hj : j < 2 ^ 31 := by
        rcases Nat.eq_zero_or_pos (W d) with z | z
        · rw [f1 z]; decide
        · have := (f2 z).1; omega
      show vx_V _ _ _ _ _ _ _ _ _ 25 [(0, .ref (ad 30)), (1, .int (nI d)), (2, .int (nI m))] [.int (nI j), .int (nI m), .int (nI d), .ref (ad 30)]
      refine vx_callV (As := [.int (nI d), .int (nI m), .int (nI j)]) (st := []) IG lw_good (cM_endlessDigit LY HM hd hm hj ⟨f1, f2, f3⟩ ht ht1 ht2) (mo_M LY HM) rfl wC_M_endlessDigit wL_M_131 wI_M_endlessDigit wS_M_endlessDigit wX_M 3 (by decide +kernel) rfl ⟨Nat.le_of_ble_eq_true rfl, Nat.le_of_ble_eq_true rfl⟩ ⟨(by dsimp only [rm_]; omega), (by dsimp only [rm_]; omega)⟩ rfl (Nat.le_of_ble_eq_true rfl) dc_M_word_25 (fun v h k3 n3 hq => ?_)
      obtain ⟨rfl, rfl, rfl, rfl⟩ := hq
      show vx_V _ _ _ _ _ _ _ _ _ 28 [(0, .ref (ad 30)), (1, .int (nI d)), (2, .int (nI m))] [.long (lN (eD 4294967296 (X d) m))]
      refine vx_l2i (v := nI (eD 4294967296 (X d) m)) IG dc_M_word_28 (lN_i _) ?_
      refine vx_ret (some (.int (nI (eD 4294967296 (X d) m)))) RG (vx_endi (by first | rfl | decide) dc_M_word_29) rfl ?_
      exact ⟨rfl, W, C, S, HM, by omega, by omega⟩
    · refine vx_if_ge (tgt := 13) IG dc_M_word_8 (by decide) (fun c_ => absurd c_ y) (fun _ => ?_)
      refine vx_iconst (v := 0) IG dc_M_word_11 (by decide) ?_
      refine vx_ret (some (.int 0)) RG (vx_endi (by first | rfl | decide) dc_M_word_12) rfl ?_
      rw [if_neg (fun q => y (Int32.le_iff_toInt_le.mpr (by omega)))]
      exact ⟨rfl, W, C, S, HM, by omega, by omega⟩
  · refine vx_topi (y := 0) (if_neg z0) ?_
    refine vx_if_eq (tgt := 11) IG dc_M_word_4 (by decide) (fun _ => ?_) (fun c_ => absurd rfl c_)
    refine vx_iconst (v := 0) IG dc_M_word_11 (by decide) ?_
    refine vx_ret (some (.int 0)) RG (vx_endi (by first | rfl | decide) dc_M_word_12) rfl ?_
    rw [sp1_no (fun q => z0 (q))]
    exact ⟨rfl, W, C, S, HM, by omega, by omega⟩
set_option maxRecDepth 100000 in
set_option maxHeartbeats 8000000 in
theorem cM_change (LY : lay cQ ad r0) (HM : mw cJ cZ ad r0 W X h C S) (ht : tys[0]? = some (cJ, .long)) (ht1 : tys[1]? = some (cQ, .object "SignedMill$Whole")) (ht2 : tys[2]? = some (cZ, .boolean)) (r1 r2 n how : Int32) : vx_M l D vcl tys my_M_change lw_gd (rm_ 7 C S 159) [.ref (ad 30), .int r1, .int r2, .int n, .int how] h (mpub cJ cZ ad r0 (sp2 0 X (chF X n how) r1 r2).2 C S (sp2 0 X (chF X n how) r1 r2).1) := by
  refine vx_M.ofV (cc := bc_M_change) (maxL := 8) (ret := some .boolean) (own := rM) false rfl (by decide +kernel) wC_M_change (fun q => by cases q) (Nat.le_of_ble_eq_true rfl) (fun A H0 G IG RG => ?_)
  show vx_V _ _ _ _ _ _ _ _ _ 0 [(0, .ref (ad 30)), (1, .int r1), (2, .int r2), (3, .int n), (4, .int how)] []
  refine vx_iload_n IG dc_M_change_0 rfl 1 rfl ?_
  refine vx_iload_n IG dc_M_change_1 rfl 2 rfl ?_
  refine vx_callS (As := [.int r1, .int r2]) (st := []) IG lw_good (cM_areRegisters _ r1 r2) wC_M_areRegisters wL_M_70 wT_M_areRegisters wX_M 2 (by decide +kernel) rfl ⟨Nat.le_of_ble_eq_true rfl, Nat.le_of_ble_eq_true rfl⟩ ⟨(by dsimp only [rm_]; omega), (by dsimp only [rm_]; omega)⟩ rfl (Nat.le_of_ble_eq_true rfl) dc_M_change_2 (fun v h k1 n1 hq => ?_)
  obtain ⟨rfl, rfl, rfl, rfl⟩ := hq
  show vx_V _ _ _ _ _ _ _ _ _ 5 [(0, .ref (ad 30)), (1, .int r1), (2, .int r2), (3, .int n), (4, .int how)] [.int (if isR r1 ∧ isR r2 then 1 else 0)]
  by_cases z0 : isR r1 ∧ isR r2
  · refine vx_topi (y := 1) (if_pos z0) ?_
    refine vx_if_eq (tgt := 23) IG dc_M_change_5 (by decide) (fun c_ => absurd c_ (by decide)) (fun _ => ?_)
    obtain ⟨d, hd, rfl⟩ := isR_of z0.1
    obtain ⟨a, ha, rfl⟩ := isR_of z0.2
    rw [sp2_ok hd ha] at RG
    unfold chF at RG
    have hWa := mw_W HM ha
    have hna := lim_nd.mp hWa.2
    have i0 : (0 : Int32).toInt = 0 := rfl
    have i2 : (2 : Int32).toInt = 2 := rfl
    refine vx_iload_n IG dc_M_change_8 rfl 3 rfl ?_
    by_cases y : n < 0
    · refine vx_if_lt (tgt := 23) IG dc_M_change_9 (by decide) (fun _ => ?_) (fun c_ => absurd y c_)
      refine vx_iconst (v := 0) IG dc_M_change_23 (by decide) ?_
      refine vx_ret (some (.int 0)) RG (vx_endi (by first | rfl | decide) dc_M_change_24) rfl ?_
      rw [if_neg (fun q => by have := Int32.lt_iff_toInt_lt.mp y; omega)]
      exact ⟨rfl, W, C, S, HM, by omega, by omega⟩
    · refine vx_if_lt (tgt := 23) IG dc_M_change_9 (by decide) (fun c_ => absurd c_ y) (fun _ => ?_)
      refine vx_iload IG dc_M_change_12 4 rfl ?_
      by_cases y2 : how < 0
      · refine vx_if_lt (tgt := 23) IG dc_M_change_14 (by decide) (fun _ => ?_) (fun c_ => absurd y2 c_)
        refine vx_iconst (v := 0) IG dc_M_change_23 (by decide) ?_
        refine vx_ret (some (.int 0)) RG (vx_endi (by first | rfl | decide) dc_M_change_24) rfl ?_
        rw [if_neg (fun q => by have := Int32.lt_iff_toInt_lt.mp y2; omega)]
        exact ⟨rfl, W, C, S, HM, by omega, by omega⟩
      · refine vx_if_lt (tgt := 23) IG dc_M_change_14 (by decide) (fun c_ => absurd c_ y2) (fun _ => ?_)
        refine vx_iload IG dc_M_change_17 4 rfl ?_
        refine vx_iconst (v := 2) IG dc_M_change_19 (by decide) ?_
        by_cases y3 : how ≤ 2
        · refine vx_icmp_le (tgt := 25) IG dc_M_change_20 (by decide) (fun _ => ?_) (fun c_ => absurd y3 c_)
          rw [Int32.lt_iff_toInt_lt] at y y2
          rw [Int32.le_iff_toInt_le] at y3
          obtain ⟨m, hm, rfl⟩ := i32_pos (x := n) (by omega)
          rw [if_pos ⟨by omega, by omega, by omega⟩, nI_clamp hm, nI_toInt hm] at RG
          refine vx_aload_n IG dc_M_change_25 rfl 0 rfl ?_
          refine vx_iload_n IG dc_M_change_26 rfl 2 rfl ?_
          refine vx_iload_n IG dc_M_change_27 rfl 3 rfl ?_
          refine vx_bipush (v := 32) IG dc_M_change_28 (by decide) ?_
          refine vx_idiv IG dc_M_change_30 nI_ne32 ?_
          refine vx_topi (y := nI (m / 32)) (nI_div32 hm) ?_
          refine vx_aload_n IG dc_M_change_31 rfl 0 rfl ?_
          refine vx_get IG (mo_M LY HM) rfl 0 (by decide) inM wF_M_11 rfl rfl dc_M_change_32 ?_
          refine vx_iload_n IG dc_M_change_35 rfl 2 rfl ?_
          refine mr_aal IG LY HM ha ht1 dc_M_change_36 ?_
          refine vx_callV (As := []) (st := [.int (nI (m / 32)), .int (nI a), .ref (ad 30)]) IG lw_good (mW_firstDigit HM a (by omega) ht) ((mo_W HM (show a < 30 by omega)).choose_spec) rfl wC_W_firstDigit wL_M_119 wI_W_firstDigit wS_W_firstDigit wX_W 0 (by decide +kernel) rfl ⟨Nat.le_of_ble_eq_true rfl, Nat.le_of_ble_eq_true rfl⟩ ⟨(by dsimp only [rm_]; omega), (by dsimp only [rm_]; omega)⟩ rfl (Nat.le_of_ble_eq_true rfl) dc_M_change_37 (fun v h k2 n2 hq => ?_)
          obtain ⟨rfl, rfl, rfl, j, rfl, f1, f2, f3⟩ := hq
          have hj : j < 2 ^ 31 := by
            rcases Nat.eq_zero_or_pos (W a) with z | z
            · rw [f1 z]; decide
            · have := (f2 z).1; omega
          show vx_V _ _ _ _ _ _ _ _ _ 40 [(0, .ref (ad 30)), (1, .int (nI d)), (2, .int (nI a)), (3, .int (nI m)), (4, .int how)] [.int (nI j), .int (nI (m / 32)), .int (nI a), .ref (ad 30)]
          refine vx_callV (As := [.int (nI a), .int (nI (m / 32)), .int (nI j)]) (st := []) IG lw_good (cM_endlessDigit LY HM ha (k := m / 32) (by omega) hj ⟨f1, f2, f3⟩ ht ht1 ht2) (mo_M LY HM) rfl wC_M_endlessDigit wL_M_131 wI_M_endlessDigit wS_M_endlessDigit wX_M 3 (by decide +kernel) rfl ⟨Nat.le_of_ble_eq_true rfl, Nat.le_of_ble_eq_true rfl⟩ ⟨(by dsimp only [rm_]; omega), (by dsimp only [rm_]; omega)⟩ rfl (Nat.le_of_ble_eq_true rfl) dc_M_change_40 (fun v h k3 n3 hq => ?_)
          obtain ⟨rfl, rfl, rfl, rfl⟩ := hq
          have gl := eD_lt (b := 4294967296) (by decide) (X a) (m / 32)
          have hbit := eD_bit (X a) 32 (m / 32) (j := m % 32) (by omega)
          rw [show 32 * (m / 32) + m % 32 = m by omega] at hbit
          have htb := tB_lt (X a) m
          show vx_V _ _ _ _ _ _ _ _ _ 43 [(0, .ref (ad 30)), (1, .int (nI d)), (2, .int (nI a)), (3, .int (nI m)), (4, .int how)] [.long (lN (eD 4294967296 (X a) (m / 32)))]
          refine vx_lstore (lv' := [(5, .long (lN (eD 4294967296 (X a) (m / 32)))), (0, .ref (ad 30)), (1, .int (nI d)), (2, .int (nI a)), (3, .int (nI m)), (4, .int how)]) IG dc_M_change_43 (by decide) rfl ?_
          refine vx_lload IG dc_M_change_45 0 rfl ?_
          refine vx_iload_n IG dc_M_change_47 rfl 4 rfl ?_
          refine vx_bipush (v := 31) IG dc_M_change_48 (by decide) ?_
          refine vx_iand IG dc_M_change_50 ?_
          refine vx_topi (y := nI (m % 32)) (nI_and31 hm) ?_
          refine vx_lushr (v := lN (eD 4294967296 (X a) (m / 32) / 2 ^ (m % 32))) IG dc_M_change_51 (wb_shr (Nat.lt_trans gl (by decide)) (by omega)) ?_
          refine vx_lconst (v := 1) IG dc_M_change_52 (by decide) ?_
          refine vx_land IG dc_M_change_53 ?_
          refine vx_topl (y := lN (tB (X a) m)) (by rw [wb_a1 (Nat.lt_of_le_of_lt (Nat.div_le_self _ _) (Nat.lt_trans gl (by decide)))]; exact congrArg lN hbit) ?_
          refine vx_lconst (v := 0) IG dc_M_change_54 (by decide) ?_
          refine vx_lcmp IG dc_M_change_55 ?_
          have tail : ∀ (io : Int32) (k n : Nat), io = nI (tB (X a) m) → k = 0 → n = 0 → vx_V D vcl A H0 8 G h k n 66 [(7, .int io), (5, .long (lN (eD 4294967296 (X a) (m / 32)))), (0, .ref (ad 30)), (1, .int (nI d)), (2, .int (nI a)), (3, .int (nI m)), (4, .int how)] [] := by
            intro io k n eio ek en
            have hio : io = 0 ∨ io = 1 := by
              rcases (show tB (X a) m = 0 ∨ tB (X a) m = 1 by omega) with q | q
              · rw [eio, q]; exact Or.inl rfl
              · rw [eio, q]; exact Or.inr rfl
            have c78 : vx_V D vcl A H0 8 G h k n 78 [(7, .int io), (5, .long (lN (eD 4294967296 (X a) (m / 32)))), (0, .ref (ad 30)), (1, .int (nI d)), (2, .int (nI a)), (3, .int (nI m)), (4, .int how)] [.int io, .int how] := by
              have hiff : how = io ↔ how.toInt = (tB (X a) m : Int) := by
                rw [eio, ← Int32.toInt_inj, nI_toInt (by omega)]
              by_cases x : how = io
              · refine vx_icmp_ne (tgt := 106) IG dc_M_change_78 (by decide) (fun c_ => absurd x c_) (fun _ => ?_)
                rw [if_pos (hiff.mp x)] at RG
                refine vx_aload_n IG dc_M_change_81 rfl 2 rfl ?_
                refine vx_get IG (mo_M LY HM) rfl 2 (by decide) inM wF_M_20 rfl rfl dc_M_change_82 ?_
                refine vx_aload_n IG dc_M_change_85 rfl 2 rfl ?_
                refine vx_get IG (mo_M LY HM) rfl 0 (by decide) inM wF_M_11 rfl rfl dc_M_change_86 ?_
                refine vx_iload_n IG dc_M_change_89 rfl 4 rfl ?_
                refine mr_aal IG LY HM ha ht1 dc_M_change_90 ?_
                refine vx_callV (As := [.ref (ad a)]) (st := []) IG lw_good (mW_copy LY HM 16 a (by decide) (by decide) (by omega) ht (by omega)) ((mo_W HM (show 16 < 30 by decide)).choose_spec) rfl wC_W_copy wL_M_74 wI_W_copy wS_W_copy wX_W 1 (by decide +kernel) rfl ⟨Nat.le_of_ble_eq_true rfl, Nat.le_of_ble_eq_true rfl⟩ ⟨(by dsimp only [rm_]; omega), (by dsimp only [rm_]; omega)⟩ rfl (Nat.le_of_ble_eq_true rfl) dc_M_change_91 (fun v h k11 n11 hq => ?_)
                obtain ⟨rfl, C1, S1, HM, hk1, hm1⟩ := hq
                show vx_V _ _ _ _ _ _ _ _ _ 94 [(7, .int io), (5, .long (lN (eD 4294967296 (X a) (m / 32)))), (0, .ref (ad 30)), (1, .int (nI d)), (2, .int (nI a)), (3, .int (nI m)), (4, .int how)] []
                refine vx_aload_n IG dc_M_change_94 rfl 2 rfl ?_
                refine vx_iload_n IG dc_M_change_95 rfl 3 rfl ?_
                refine vx_aload_n IG dc_M_change_96 rfl 2 rfl ?_
                refine vx_get IG (mo_M LY HM) rfl 1 (by decide) inM wF_M_15 rfl rfl dc_M_change_97 ?_
                refine vx_iload_n IG dc_M_change_100 rfl 4 rfl ?_
                refine mr_zal IG LY HM ha ht2 dc_M_change_101 ?_
                refine vx_callV (As := [.int (nI d), .int (sgI (X a))]) (st := []) IG lw_good (cM_keep LY HM hd (sgI_01 (X a)) ht ht1 ht2) (mo_M LY HM) rfl wC_M_keep wL_M_52 wI_M_keep wS_M_keep wX_M 2 (by decide +kernel) rfl ⟨Nat.le_of_ble_eq_true rfl, Nat.le_of_ble_eq_true rfl⟩ ⟨(by dsimp only [rm_]; omega), (by dsimp only [rm_]; omega)⟩ rfl (Nat.le_of_ble_eq_true rfl) dc_M_change_102 (fun v h k12 n12 hq => ?_)
                rw [va_up_self, hWa.1, kz_sg] at hq
                obtain ⟨rfl, W', C9, S9, HM9, hk9, hm9⟩ := hq
                show vx_V _ _ _ _ _ _ _ _ _ 105 [(7, .int io), (5, .long (lN (eD 4294967296 (X a) (m / 32)))), (0, .ref (ad 30)), (1, .int (nI d)), (2, .int (nI a)), (3, .int (nI m)), (4, .int how)] [.int (kpV (X a))]
                refine vx_ret (some (.int (kpV (X a)))) RG (vx_endi (by unfold kpV; split <;> rfl) dc_M_change_105) rfl ?_
                exact ⟨rfl, W', C9, S9, HM9, by omega, by omega⟩
              · refine vx_icmp_ne (tgt := 106) IG dc_M_change_78 (by decide) (fun _ => ?_) (fun c_ => absurd c_ x)
                rw [if_neg (fun q => x (hiff.mpr q))] at RG
                refine vx_iload_n IG dc_M_change_106 rfl 5 rfl ?_
                refine vx_ldc (v := 65536) IG wK_M_150 dc_M_change_107 ?_
                by_cases x2 : m < 65536
                · refine vx_icmp_lt (tgt := 114) IG dc_M_change_109 (by decide) (fun _ => ?_) (fun c_ => absurd (nI_lt (b := 65536) x2 (by decide)) c_)
                  rw [if_neg (by omega)] at RG
                  refine vx_aload_n IG dc_M_change_114 rfl 2 rfl ?_
                  refine vx_get IG (mo_M LY HM) rfl 3 (by decide) inM wF_M_24 rfl rfl dc_M_change_115 ?_
                  refine vx_lconst (v := 1) IG dc_M_change_118 (by decide) ?_
                  refine vx_callV (As := [.long 1]) (st := []) IG lw_good (mW_load LY HM 17 (by decide) (by decide) ht (b := 1) (by decide)) ((mo_W HM (show 17 < 30 by decide)).choose_spec) rfl wC_W_load wL_M_48 wI_W_load wS_W_load wX_W 1 (by decide +kernel) rfl ⟨Nat.le_of_ble_eq_true rfl, Nat.le_of_ble_eq_true rfl⟩ ⟨(by dsimp only [rm_]; omega), (by dsimp only [rm_]; omega)⟩ rfl (Nat.le_of_ble_eq_true rfl) dc_M_change_119 (fun v h k13 n13 hq => ?_)
                  obtain ⟨rfl, C1, S1, HM, hk1, hm1⟩ := hq
                  show vx_V _ _ _ _ _ _ _ _ _ 122 [(7, .int io), (5, .long (lN (eD 4294967296 (X a) (m / 32)))), (0, .ref (ad 30)), (1, .int (nI d)), (2, .int (nI a)), (3, .int (nI m)), (4, .int how)] []
                  refine vx_aload_n IG dc_M_change_122 rfl 2 rfl ?_
                  refine vx_get IG (mo_M LY HM) rfl 3 (by decide) inM wF_M_24 rfl rfl dc_M_change_123 ?_
                  refine vx_aload_n IG dc_M_change_126 rfl 2 rfl ?_
                  refine vx_get IG (mo_M LY HM) rfl 3 (by decide) inM wF_M_24 rfl rfl dc_M_change_127 ?_
                  refine vx_iload_n IG dc_M_change_130 rfl 5 rfl ?_
                  refine vx_callV (As := [.ref (ad 17), .int (nI m)]) (st := []) IG lw_good (mW_raise LY HM 17 17 (by decide) (by decide) (by decide) ht (n := m) (by omega) (by rw [va_up_self, show nd 4294967296 1 = 1 from rfl]; omega)) ((mo_W HM (show 17 < 30 by decide)).choose_spec) rfl wC_W_raise wL_M_58 wI_W_raise wS_W_raise wX_W 2 (by decide +kernel) rfl ⟨Nat.le_of_ble_eq_true rfl, Nat.le_of_ble_eq_true rfl⟩ ⟨(by dsimp only [rm_]; omega), (by dsimp only [rm_]; omega)⟩ rfl (Nat.le_of_ble_eq_true rfl) dc_M_change_131 (fun v h k14 n14 hq => ?_)
                  obtain ⟨rfl, C2, S2, HM, hk2, hm2⟩ := hq
                  rw [va_up_self, Nat.one_mul] at HM
                  show vx_V _ _ _ _ _ _ _ _ _ 134 [(7, .int io), (5, .long (lN (eD 4294967296 (X a) (m / 32)))), (0, .ref (ad 30)), (1, .int (nI d)), (2, .int (nI a)), (3, .int (nI m)), (4, .int how)] []
                  refine vx_aload_n IG dc_M_change_134 rfl 2 rfl ?_
                  refine vx_iload_n IG dc_M_change_135 rfl 3 rfl ?_
                  refine vx_iload_n IG dc_M_change_136 rfl 4 rfl ?_
                  refine vx_aload_n IG dc_M_change_137 rfl 2 rfl ?_
                  refine vx_get IG (mo_M LY HM) rfl 3 (by decide) inM wF_M_24 rfl rfl dc_M_change_138 ?_
                  refine vx_iload IG dc_M_change_141 0 rfl ?_
                  refine vx_callV (As := [.int (nI d), .int (nI a), .ref (ad 17), .int io]) (st := []) IG lw_good (cM_keepSum LY HM hd ha (s := 17) (by decide) (by decide) (by rw [va_up_self]; exact Nat.pow_lt_pow_right (by decide) x2) (w := io) hio ht ht1 ht2) (mo_M LY HM) rfl wC_M_keepSum wL_M_78 wI_M_keepSum wS_M_keepSum wX_M 4 (by decide +kernel) rfl ⟨Nat.le_of_ble_eq_true rfl, Nat.le_of_ble_eq_true rfl⟩ ⟨(by dsimp only [rm_]; omega), (by dsimp only [rm_]; omega)⟩ rfl (Nat.le_of_ble_eq_true rfl) dc_M_change_143 (fun v h k15 n15 hq => ?_)
                  rw [va_up_self, show X a + kz io (2 ^ m) = chZ (X a) m by
                    unfold chZ
                    rcases (show tB (X a) m = 0 ∨ tB (X a) m = 1 by omega) with q | q
                    · rw [eio, q, if_neg (by decide)]; exact congrArg _ (kz_0 _)
                    · rw [eio, q, if_pos rfl]; exact congrArg _ (kz_1 _)] at hq
                  obtain ⟨rfl, W', C9, S9, HM9, hk9, hm9⟩ := hq
                  show vx_V _ _ _ _ _ _ _ _ _ 146 [(7, .int io), (5, .long (lN (eD 4294967296 (X a) (m / 32)))), (0, .ref (ad 30)), (1, .int (nI d)), (2, .int (nI a)), (3, .int (nI m)), (4, .int how)] [.int (kpV (chZ (X a) m))]
                  refine vx_ret (some (.int (kpV (chZ (X a) m)))) RG (vx_endi (by unfold kpV; split <;> rfl) dc_M_change_146) rfl ?_
                  exact ⟨rfl, W', C9, S9, HM9, by omega, by omega⟩
                · refine vx_icmp_lt (tgt := 114) IG dc_M_change_109 (by decide) (fun c_ => absurd c_ (fun q => x2 (by have := Int32.lt_iff_toInt_lt.mp q; rw [nI_toInt hm] at this; have e6 : (65536 : Int32).toInt = 65536 := rfl; omega))) (fun _ => ?_)
                  rw [if_pos (by omega)] at RG
                  refine vx_iconst (v := 0) IG dc_M_change_112 (by decide) ?_
                  refine vx_ret (some (.int 0)) RG (vx_endi (by first | rfl | decide) dc_M_change_113) rfl ?_
                  exact ⟨rfl, W, C, S, HM, by omega, by omega⟩
            refine vx_iload IG dc_M_change_66 6 rfl ?_
            refine vx_iload IG dc_M_change_68 0 rfl ?_
            rcases (show tB (X a) m = 0 ∨ tB (X a) m = 1 by omega) with q | q
            · rw [q] at eio
              refine vx_if_eq (tgt := 77) IG dc_M_change_70 (by decide) (fun _ => ?_) (fun c_ => absurd eio c_)
              refine vx_iconst (v := 0) IG dc_M_change_77 (by decide) ?_
              rw [eio] at c78 ⊢
              exact c78
            · rw [q] at eio
              refine vx_if_eq (tgt := 77) IG dc_M_change_70 (by decide) (fun c_ => absurd c_ (by rw [eio]; decide)) (fun _ => ?_)
              refine vx_iconst (v := 1) IG dc_M_change_73 (by decide) ?_
              refine vx_goto (tgt := 78) IG dc_M_change_74 (by decide) ?_
              rw [eio] at c78 ⊢
              exact c78
          rcases (show tB (X a) m = 0 ∨ tB (X a) m = 1 by omega) with q | q
          · refine vx_if_eq (tgt := 63) IG dc_M_change_56 (by decide) (fun _ => ?_) (fun c_ => absurd ((lg_cmp_eq _ _).mpr (by rw [q]; rfl)) c_)
            refine vx_iconst (v := 0) IG dc_M_change_63 (by decide) ?_
            refine vx_istore (lv' := [(7, .int 0), (5, .long (lN (eD 4294967296 (X a) (m / 32)))), (0, .ref (ad 30)), (1, .int (nI d)), (2, .int (nI a)), (3, .int (nI m)), (4, .int how)]) IG dc_M_change_64 (by decide) rfl ?_
            exact tail 0 _ _ (by rw [q]; rfl) rfl rfl
          · refine vx_if_eq (tgt := 63) IG dc_M_change_56 (by decide) (fun c_ => absurd c_ (fun z => by rw [q] at z; exact absurd ((lg_cmp_eq _ _).mp z) (by decide))) (fun _ => ?_)
            refine vx_iconst (v := 1) IG dc_M_change_59 (by decide) ?_
            refine vx_goto (tgt := 64) IG dc_M_change_60 (by decide) ?_
            refine vx_istore (lv' := [(7, .int 1), (5, .long (lN (eD 4294967296 (X a) (m / 32)))), (0, .ref (ad 30)), (1, .int (nI d)), (2, .int (nI a)), (3, .int (nI m)), (4, .int how)]) IG dc_M_change_64 (by decide) rfl ?_
            exact tail 1 _ _ (by rw [q]; rfl) rfl rfl
        · refine vx_icmp_le (tgt := 25) IG dc_M_change_20 (by decide) (fun c_ => absurd c_ y3) (fun _ => ?_)
          refine vx_iconst (v := 0) IG dc_M_change_23 (by decide) ?_
          refine vx_ret (some (.int 0)) RG (vx_endi (by first | rfl | decide) dc_M_change_24) rfl ?_
          rw [if_neg (fun q => y3 (Int32.le_iff_toInt_le.mpr (by omega)))]
          exact ⟨rfl, W, C, S, HM, by omega, by omega⟩
  · refine vx_topi (y := 0) (if_neg z0) ?_
    refine vx_if_eq (tgt := 23) IG dc_M_change_5 (by decide) (fun _ => ?_) (fun c_ => absurd rfl c_)
    refine vx_iconst (v := 0) IG dc_M_change_23 (by decide) ?_
    refine vx_ret (some (.int 0)) RG (vx_endi (by first | rfl | decide) dc_M_change_24) rfl ?_
    rw [sp2_no (fun q => z0 (⟨q.1, q.2⟩))]
    exact ⟨rfl, W, C, S, HM, by omega, by omega⟩
end
