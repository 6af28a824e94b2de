/-! Divider: the pieces -/
theorem mn_toInt {a : Nat} (h : a < 2 ^ 64) : (lN a + (-9223372036854775808)).toInt = (a : Int) - 9223372036854775808 := by
  rw [Int64.toInt_add, lN_ti h, show (-9223372036854775808 : Int64).toInt = -9223372036854775808 from rfl, Int.bmod_def]
  split <;> split <;> omega
section
variable {l : Launch} {D : va_G} {tys : List (ClassId × FieldType)}
set_option maxRecDepth 100000 in
set_option maxHeartbeats 4000000 in
theorem cJL_compare (h : vx_h) {x y : Int64} {a b : Nat} (hlt : x < y ↔ a < b) (heq : x = y ↔ a = b) : vx_M l D vcl tys my_JL_compare lw_gd (rm_ 0 0 0 0) [.long x, .long y] h (fun v h' k n => v = some (.int (cmpI a b)) ∧ h' = h ∧ k = 0 ∧ n = 0) := by
  refine vx_M.ofV (cc := bc_JL_compare) (maxL := 4) (ret := some .int) (own := "java/lang/Long") false rfl (by decide +kernel) wC_JL_compare (fun q => by cases q) (Nat.le_of_ble_eq_true rfl) (fun A H0 G IG RG => ?_)
  show vx_V _ _ _ _ _ _ _ _ _ 0 [(0, .long x), (2, .long y)] []
  refine vx_lload_n IG dc_JL_compare_0 rfl 0 rfl ?_
  refine vx_lload_n IG dc_JL_compare_1 rfl 1 rfl ?_
  refine vx_lcmp IG dc_JL_compare_2 ?_
  refine vx_if_ge (tgt := 10) IG dc_JL_compare_3 (by decide) (fun c => ?_) (fun c => ?_)
  · have c1 : ¬ x < y := Int64.not_lt.mpr ((lg_cmp_ge _ _).mp c)
    refine vx_lload_n IG dc_JL_compare_10 rfl 0 rfl ?_
    refine vx_lload_n IG dc_JL_compare_11 rfl 1 rfl ?_
    refine vx_lcmp IG dc_JL_compare_12 ?_
    refine vx_if_ne (tgt := 20) IG dc_JL_compare_13 (by decide) (fun c2 => ?_) (fun c2 => ?_)
    · refine vx_iconst (v := 1) IG dc_JL_compare_20 (by decide) ?_
      refine vx_ret (some (.int 1)) RG (vx_endi (by first | rfl | decide) dc_JL_compare_21) rfl ?_
      exact ⟨by rw [cmpI, if_neg (fun q => c1 (hlt.mpr q)), if_neg (fun q => c2 ((lg_cmp_eq _ _).mpr (heq.mpr q)))], rfl, rfl, rfl⟩
    · refine vx_iconst (v := 0) IG dc_JL_compare_16 (by decide) ?_
      refine vx_goto (tgt := 21) IG dc_JL_compare_17 (by decide) ?_
      refine vx_ret (some (.int 0)) RG (vx_endi (by first | rfl | decide) dc_JL_compare_21) rfl ?_
      exact ⟨by rw [cmpI, if_neg (fun q => c1 (hlt.mpr q)), if_pos (heq.mp ((lg_cmp_eq _ _).mp c2))], rfl, rfl, rfl⟩
  · have c1 : x < y := Int64.not_le.mp (fun q => c ((lg_cmp_ge _ _).mpr q))
    refine vx_iconst (v := -1) IG dc_JL_compare_6 (by decide) ?_
    refine vx_goto (tgt := 21) IG dc_JL_compare_7 (by decide) ?_
    refine vx_ret (some (.int (-1))) RG (vx_endi (by first | rfl | decide) dc_JL_compare_21) rfl ?_
    exact ⟨by rw [cmpI, if_pos (hlt.mp c1)], rfl, rfl, rfl⟩
set_option maxRecDepth 100000 in
set_option maxHeartbeats 4000000 in
theorem cJL_compareUnsigned (h : vx_h) {a b : Nat} (ha : a < 2 ^ 64) (hb : b < 2 ^ 64) : vx_M l D vcl tys my_JL_compareUnsigned lw_gd (rm_ 1 0 0 23) [.long (lN a), .long (lN b)] h (fun v h' k n => v = some (.int (cmpI a b)) ∧ h' = h ∧ k = 0 ∧ n = 0) := by
  refine vx_M.ofV (cc := bc_JL_compareUnsigned) (maxL := 4) (ret := some .int) (own := "java/lang/Long") false rfl (by decide +kernel) wC_JL_compareUnsigned (fun q => by cases q) (Nat.le_of_ble_eq_true rfl) (fun A H0 G IG RG => ?_)
  show vx_V _ _ _ _ _ _ _ _ _ 0 [(0, .long (lN a)), (2, .long (lN b))] []
  refine vx_lload_n IG dc_JL_compareUnsigned_0 rfl 0 rfl ?_
  refine vx_ldc2 (v := -9223372036854775808) IG wK_JL_168 dc_JL_compareUnsigned_1 ?_
  refine vx_ladd IG dc_JL_compareUnsigned_4 ?_
  refine vx_lload_n IG dc_JL_compareUnsigned_5 rfl 1 rfl ?_
  refine vx_ldc2 (v := -9223372036854775808) IG wK_JL_168 dc_JL_compareUnsigned_6 ?_
  refine vx_ladd IG dc_JL_compareUnsigned_9 ?_
  refine vx_callS (As := [.long (lN a + (-9223372036854775808)), .long (lN b + (-9223372036854775808))]) (st := []) IG lw_good (cJL_compare _ (a := a) (b := b) (by rw [Int64.lt_iff_toInt_lt, mn_toInt ha, mn_toInt hb]; omega) (by rw [← Int64.toInt_inj, mn_toInt ha, mn_toInt hb]; omega)) wC_JL_compare wL_JL_302 wT_JL_compare wX_JL 2 (by decide +kernel) rfl ⟨Nat.le_of_ble_eq_true rfl, Nat.le_of_ble_eq_true rfl⟩ ⟨(by decide), (by decide)⟩ rfl (Nat.le_of_ble_eq_true rfl) dc_JL_compareUnsigned_10 (fun v h k_ n_ hq => ?_)
  obtain ⟨rfl, rfl, rfl, rfl⟩ := hq
  show vx_V _ _ _ _ _ _ _ _ _ 13 [(0, .long (lN a)), (2, .long (lN b))] [.int (cmpI a b)]
  refine vx_ret (some (.int (cmpI a b))) RG (vx_endi (by first | rfl | decide) dc_JL_compareUnsigned_13) rfl ?_
  exact ⟨rfl, rfl, rfl, rfl⟩
theorem qp_lt {u v : Nat} (hv : 0 < v) : u - u / 2 / v * 2 * v < 2 * v + 1 ∧ u / 2 / v * 2 * v ≤ u := by
  have h0 := Nat.div_add_mod u v
  have h1 := Nat.mod_lt u hv
  have hc : v * (u / v) = u / v * v := Nat.mul_comm _ _
  rcases qp_half (u := u) hv with q | q
  · rw [← q]; omega
  · have e : u / v * v = u / 2 / v * 2 * v + v := by rw [q, Nat.add_mul, Nat.one_mul]
    omega
set_option maxRecDepth 100000 in
set_option maxHeartbeats 4000000 in
/-- quotientOfPair: of 64 bits without a sign by a digit -/
theorem cD_quotientOfPair (h : vx_h) {u v : Nat} (hu : u < 2 ^ 64) (hv : 0 < v) (hv2 : v < 4294967296) : vx_M l D vcl tys my_D_quotientOfPair lw_gd (rm_ 0 0 0 0) [.long (lN u), .long (lN v)] h (fun w h' k n => w = some (.long (lN (u / v))) ∧ h' = h ∧ k = 0 ∧ n = 0) := by
  have hl := qp_lt (u := u) hv
  have hr := qp_rest (u := u) hv
  refine vx_M.ofV (cc := bc_D_quotientOfPair) (maxL := 6) (ret := some .long) (own := rD) false rfl (by decide +kernel) wC_D_quotientOfPair (fun q => by cases q) (Nat.le_of_ble_eq_true rfl) (fun A H0 G IG RG => ?_)
  show vx_V _ _ _ _ _ _ _ _ _ 0 [(0, .long (lN u)), (2, .long (lN v))] []
  refine vx_lload_n IG dc_D_quotientOfPair_0 rfl 1 rfl ?_
  refine vx_lconst (v := 0) IG dc_D_quotientOfPair_1 (by decide) ?_
  refine vx_lcmp IG dc_D_quotientOfPair_2 ?_
  refine vx_if_gt (tgt := 8) IG dc_D_quotientOfPair_3 (by decide) (fun _ => ?_) (fun c_ => absurd ((lg_cmp_gt _ _).mpr ((pk_lLT (a := 0) (b := v) (by decide) (by omega)).mpr hv)) c_)
  refine vx_lload_n IG dc_D_quotientOfPair_8 rfl 0 rfl ?_
  refine vx_iconst (v := 1) IG dc_D_quotientOfPair_9 (by decide) ?_
  refine vx_lushr (v := lN (u / 2)) IG dc_D_quotientOfPair_10 (wb_shr (k := 1) hu (by decide)) ?_
  refine vx_lload_n IG dc_D_quotientOfPair_11 rfl 1 rfl ?_
  refine vx_ldiv IG dc_D_quotientOfPair_12 (fun q => by have := ln_eq (b := 0) (by omega) (by decide) q; omega) ?_
  refine vx_topl (y := lN (u / 2 / v)) (pk_lDiv (by omega) hv (by omega)) ?_
  refine vx_iconst (v := 1) IG dc_D_quotientOfPair_13 (by decide) ?_
  refine vx_lshl (v := lN (u / 2 / v * 2)) IG dc_D_quotientOfPair_14 (wb_shl (k := 1) _ (by decide)) ?_
  refine vx_lstore (lv' := [(4, .long (lN (u / 2 / v * 2))), (0, .long (lN u)), (2, .long (lN v))]) IG dc_D_quotientOfPair_15 (by decide) rfl ?_
  refine vx_lload_n IG dc_D_quotientOfPair_17 rfl 1 rfl ?_
  refine vx_lload IG dc_D_quotientOfPair_18 0 rfl ?_
  refine vx_lload_n IG dc_D_quotientOfPair_20 rfl 2 rfl ?_
  refine vx_lmul IG dc_D_quotientOfPair_21 ?_
  refine vx_topl (y := lN (u / 2 / v * 2 * v)) (lN_mul _ _) ?_
  refine vx_lsub IG dc_D_quotientOfPair_22 ?_
  refine vx_topl (y := lN (u - u / 2 / v * 2 * v)) (lN_sub hl.2) ?_
  refine vx_lload_n IG dc_D_quotientOfPair_23 rfl 2 rfl ?_
  refine vx_lcmp IG dc_D_quotientOfPair_24 ?_
  by_cases z : v ≤ u - u / 2 / v * 2 * v
  · refine vx_if_lt (tgt := 35) IG dc_D_quotientOfPair_25 (by decide) (fun c_ => absurd c_ (fun q => absurd ((lg_cmp_lt _ _).mp q) (Int64.not_lt.mpr ((pk_lLE (by omega) (by omega)).mpr z)))) (fun _ => ?_)
    refine vx_lload IG dc_D_quotientOfPair_28 0 rfl ?_
    refine vx_lconst (v := 1) IG dc_D_quotientOfPair_30 (by decide) ?_
    refine vx_ladd IG dc_D_quotientOfPair_31 ?_
    refine vx_topl (y := lN (u / v)) (by rw [if_pos z] at hr; rw [← hr]; exact lN_1 _) ?_
    refine vx_goto (tgt := 37) IG dc_D_quotientOfPair_32 (by decide) ?_
    refine vx_ret (some (.long (lN (u / v)))) RG (vx_endl dc_D_quotientOfPair_37) rfl ?_
    exact ⟨rfl, rfl, rfl, rfl⟩
  · refine vx_if_lt (tgt := 35) IG dc_D_quotientOfPair_25 (by decide) (fun _ => ?_) (fun c_ => absurd ((lg_cmp_lt _ _).mpr ((pk_lLT (by omega) (by omega)).mpr (by omega))) c_)
    refine vx_lload IG dc_D_quotientOfPair_35 0 rfl ?_
    refine vx_topl (y := lN (u / v)) (by rw [if_neg z] at hr; rw [← hr]) ?_
    refine vx_ret (some (.long (lN (u / v)))) RG (vx_endl dc_D_quotientOfPair_37) rfl ?_
    exact ⟨rfl, rfl, rfl, rfl⟩
end
