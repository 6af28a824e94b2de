/-! the reference: put, negate, added, add, take, times, compare, sign, lowest, common -/
section
variable {l : Launch} {D : va_G} {tys : List (ClassId × FieldType)} {cI cZ : ClassId} {q : Nat → Nat} {h0 : vx_h} {f g s f' g' : Nat → Int32} {V : Nat → Nat} {X : Nat → Int} {a b d r u N M sz U W : Nat} {w w2 : Int32} {z : Int}
theorem reg_rv (HP : rpic f g V) (HX : mreg X V s) (hd : d < 16) : rv f g d (X d).natAbs := by
  have := HP d (by omega)
  rwa [(HX d hd).1] at this
theorem reg_cap (HP : rpic f g V) (HX : mreg X V s) (hd : d < 16) : nd 65536 (X d).natAbs ≤ 4096 := by
  have := (reg_rv HP HX hd).2.1
  rwa [rcap_lo hd] at this
theorem rp_up (HP : rpic f g V) (HX : mreg X V s) (h16 : 16 ≤ d) (hd : d < 24) (hS : rset f g d N f' g') : rpic f' g' (va_up V d N) ∧ mreg X (va_up V d N) s := ⟨rp_rs HP hd hS, mreg_up HX h16⟩
theorem cR_stV (LR : rlay q h0) (ht2 : tys[2]? = some (cZ, .boolean)) (ht3 : tys[3]? = some (cI, .int)) (HP : rpic f g V) (HX : mreg X V s) (hd : d < 16) (ha : 16 ≤ a) (ha2 : a < 24) (hw : w = 0 ∨ w = 1) (hN : V a = N) (hz : kz w N = z) : vx_M l D vcl tys my_R_store lw_gd (rm_ 2 0 0 43) [.ref (q 0), .int (nI d), .int (nI a), .int w] (rH cI cZ q h0 f g s) (rpubV cI cZ q h0 V (kpX X d z) (kpV z)) := by
  subst hN
  subst hz
  exact cR_store LR ht2 ht3 HP HX hd ha ha2 hw
theorem cR_st (LR : rlay q h0) (ht2 : tys[2]? = some (cZ, .boolean)) (ht3 : tys[3]? = some (cI, .int)) (HP : rpic f g V) (HX : mreg X V s) (hd : d < 16) (ha : 16 ≤ a) (ha2 : a < 24) (hw : w = 0 ∨ w = 1) (hN : V a = N) (hz : kz w N = z) : vx_M l D vcl tys my_R_store lw_gd (rm_ 2 0 0 43) [.ref (q 0), .int (nI d), .int (nI a), .int w] (rH cI cZ q h0 f g s) (rpub cI cZ q h0 (kpX X d z) (kpV z)) :=
  vx_M.post (cR_stV LR ht2 ht3 HP HX hd ha ha2 hw hN hz) (fun v h' k n hq => by
    obtain ⟨e1, e2, e3, f9, g9, s9, V9, e4, P9, X9, -⟩ := hq
    exact ⟨e1, e2, e3, f9, g9, s9, V9, e4, P9, X9⟩)
theorem rvN (HP : rpic f g V) (hr : r < 24) (h : V r = N) : rv f g r N := h ▸ HP r hr
theorem cmpZ_neg2 {x y : Int} (hx : ¬ sgI x = 0) (hy : ¬ sgI y = 0) : cmpI y.natAbs x.natAbs = cmpZ x y := by
  rw [← cmpZ_neg hx hy]
  unfold cmpI
  rcases Nat.lt_trichotomy x.natAbs y.natAbs with e | e | e
  · rw [if_neg (by omega), if_neg (by omega), if_pos e]; rfl
  · rw [if_neg (by omega), if_pos e.symm, if_neg (by omega), if_pos e]; rfl
  · rw [if_pos e, if_neg (by omega), if_neg (by omega)]
set_option maxRecDepth 100000 in
set_option maxHeartbeats 8000000 in
theorem cR_put (LR : rlay q h0) (ht2 : tys[2]? = some (cZ, .boolean)) (ht3 : tys[3]? = some (cI, .int)) (HP : rpic f g V) (HX : mreg X V s) (r1 : Int32) (v : Int64) : vx_M l D vcl tys my_R_put lw_gd (rm_ 3 0 0 67) [.ref (q 0), .int r1, .long v] (rH cI cZ q h0 f g s) (rpub cI cZ q h0 (sp1 0 X (fun d => kp X d v.toInt) r1).2 (sp1 0 X (fun d => kp X d v.toInt) r1).1) := by
  refine vx_M.ofV (cc := bc_R_put) (maxL := 4) (ret := (some .boolean)) (own := rR) false rfl (by decide +kernel) wC_R_put (fun q => by cases q) (Nat.le_of_ble_eq_true rfl) (fun A H0 G IG RG => ?_)
  show vx_V _ _ _ _ _ _ _ _ _ 0 [(0, .ref (q 0)), (1, .int r1), (2, .long v)] []
  refine vx_iload_n IG dc_R_put_0 rfl 1 rfl ?_
  refine vx_callS (As := [.int r1]) (st := []) IG lw_good (cR_is _ r1) wC_R_is wL_R_67 wT_R_is wX_R 1 (by decide +kernel) rfl ⟨Nat.le_of_ble_eq_true rfl, Nat.le_of_ble_eq_true rfl⟩ ⟨(by dsimp only [rm_]; omega), (by dsimp only [rm_]; omega)⟩ rfl (Nat.le_of_ble_eq_true rfl) dc_R_put_1 (fun v h k_ n_ hq => ?_)
  obtain ⟨rfl, rfl, rfl, rfl⟩ := hq
  show vx_V _ _ _ _ _ _ _ _ _ 4 [(0, .ref (q 0)), (1, .int r1), (2, .long v)] [.int (if isR r1 then 1 else 0)]
  by_cases z0 : ¬ isR r1
  · refine vx_topi (y := 0) (if_neg z0) ?_
    refine vx_if_ne (tgt := 9) IG dc_R_put_4 (by decide) (fun c_ => absurd rfl c_) (fun _ => ?_)
    refine vx_iconst (v := 0) IG dc_R_put_7 (by decide) ?_
    refine vx_ret (some (.int 0)) RG (vx_endi (by first | rfl | decide) dc_R_put_8) rfl ?_
    rw [sp1_no z0]
    exact ⟨rfl, rfl, rfl, f, g, s, V, rfl, HP, HX⟩
  replace z0 := Decidable.not_not.mp z0
  refine vx_topi (y := 1) (if_pos z0) ?_
  refine vx_if_ne (tgt := 9) IG dc_R_put_4 (by decide) (fun _ => ?_) (fun c_ => absurd c_ (by decide))
  obtain ⟨d, hd, rfl⟩ := isR_of z0
  have Rd := reg_rv HP HX hd
  have Bd := (HX d hd).2
  have Ld := reg_cap HP HX hd
  rw [sp1_ok hd] at RG
  refine vx_aload_n IG dc_R_put_9 rfl 0 rfl ?_
  refine vx_bipush (v := 16) IG dc_R_put_10 (by decide) ?_
  refine vx_lload_n IG dc_R_put_12 rfl 2 rfl ?_
  refine vx_lconst (v := 0) IG dc_R_put_13 (by decide) ?_
  refine vx_lcmp IG dc_R_put_14 ?_
  by_cases y : v < 0
  · obtain ⟨n, hn, e1, e2⟩ := neg_load y
    refine vx_if_ge (tgt := 23) IG dc_R_put_15 (by decide) (fun c_ => absurd c_ (fun q => absurd ((lg_cmp_ge _ _).mp q) (Int64.not_le.mpr y))) (fun _ => ?_)
    refine vx_lload_n IG dc_R_put_18 rfl 2 rfl ?_
    refine vx_lneg IG dc_R_put_19 ?_
    refine vx_topl (y := lN n) e1 ?_
    refine vx_goto (tgt := 24) IG dc_R_put_20 (by decide) ?_
    refine vx_callV (As := [.int 16, .long (lN n)]) (st := []) IG lw_good (cR_set LR ht2 ht3 (d := 16) (by decide) hn) (ro_M LR) rfl wC_R_set wL_R_71 wI_R_set wS_R_set wX_R 2 (by decide +kernel) rfl ⟨Nat.le_of_ble_eq_true rfl, Nat.le_of_ble_eq_true rfl⟩ ⟨(by dsimp only [rm_]; omega), (by dsimp only [rm_]; omega)⟩ rfl (Nat.le_of_ble_eq_true rfl) dc_R_put_24 (fun v h k_ n_ hq => ?_)
    obtain ⟨rfl, rfl, rfl, f1, g1, rfl, S1⟩ := hq
    obtain ⟨HP, HX⟩ := rp_up HP HX (show 16 ≤ 16 by decide) (show 16 < 24 by decide) S1
    show vx_V _ _ _ _ _ _ _ _ _ 27 [(0, .ref (q 0)), (1, .int (nI d)), (2, .long v)] []
    refine vx_aload_n IG dc_R_put_27 rfl 0 rfl ?_
    refine vx_iload_n IG dc_R_put_28 rfl 1 rfl ?_
    refine vx_bipush (v := 16) IG dc_R_put_29 (by decide) ?_
    refine vx_lload_n IG dc_R_put_31 rfl 2 rfl ?_
    refine vx_lconst (v := 0) IG dc_R_put_32 (by decide) ?_
    refine vx_lcmp IG dc_R_put_33 ?_
    refine vx_if_ge (tgt := 41) IG dc_R_put_34 (by decide) (fun c_ => absurd c_ (fun q => absurd ((lg_cmp_ge _ _).mp q) (Int64.not_le.mpr y))) (fun _ => ?_)
    refine vx_iconst (v := 1) IG dc_R_put_37 (by decide) ?_
    refine vx_goto (tgt := 42) IG dc_R_put_38 (by decide) ?_
    refine vx_callV (As := [.int (nI d), .int 16, .int 1]) (st := []) IG lw_good (cR_st LR ht2 ht3 HP HX hd (a := 16) (z := v.toInt) (by decide) (by decide) (Or.inr rfl) rfl ((kz_1 _).trans e2.symm)) (ro_M LR) rfl wC_R_store wL_R_75 wI_R_store wS_R_store wX_R 3 (by decide +kernel) rfl ⟨Nat.le_of_ble_eq_true rfl, Nat.le_of_ble_eq_true rfl⟩ ⟨(by dsimp only [rm_]; omega), (by dsimp only [rm_]; omega)⟩ rfl (Nat.le_of_ble_eq_true rfl) dc_R_put_42 (fun v h k_ n_ hq => ?_)
    obtain ⟨rfl, rfl, rfl, f9, g9, s9, V9, rfl, P9, X9⟩ := hq
    show vx_V _ _ _ _ _ _ _ _ _ 45 [(0, .ref (q 0)), (1, .int (nI d)), (2, .long v)] [.int (kpV v.toInt)]
    refine vx_ret (some (.int (kpV v.toInt))) RG (vx_endi (by unfold kpV; split <;> rfl) dc_R_put_45) rfl ?_
    exact ⟨rfl, rfl, rfl, f9, g9, s9, V9, rfl, P9, X9⟩
  · obtain ⟨n, hn, e1, e2⟩ := pos_load y
    refine vx_if_ge (tgt := 23) IG dc_R_put_15 (by decide) (fun _ => ?_) (fun c_ => absurd ((lg_cmp_ge _ _).mpr (Int64.not_lt.mp y)) c_)
    refine vx_lload_n IG dc_R_put_23 rfl 2 rfl ?_
    refine vx_topl (y := lN n) e1 ?_
    refine vx_callV (As := [.int 16, .long (lN n)]) (st := []) IG lw_good (cR_set LR ht2 ht3 (d := 16) (by decide) hn) (ro_M LR) rfl wC_R_set wL_R_71 wI_R_set wS_R_set wX_R 2 (by decide +kernel) rfl ⟨Nat.le_of_ble_eq_true rfl, Nat.le_of_ble_eq_true rfl⟩ ⟨(by dsimp only [rm_]; omega), (by dsimp only [rm_]; omega)⟩ rfl (Nat.le_of_ble_eq_true rfl) dc_R_put_24 (fun v h k_ n_ hq => ?_)
    obtain ⟨rfl, rfl, rfl, f1, g1, rfl, S1⟩ := hq
    obtain ⟨HP, HX⟩ := rp_up HP HX (show 16 ≤ 16 by decide) (show 16 < 24 by decide) S1
    show vx_V _ _ _ _ _ _ _ _ _ 27 [(0, .ref (q 0)), (1, .int (nI d)), (2, .long v)] []
    refine vx_aload_n IG dc_R_put_27 rfl 0 rfl ?_
    refine vx_iload_n IG dc_R_put_28 rfl 1 rfl ?_
    refine vx_bipush (v := 16) IG dc_R_put_29 (by decide) ?_
    refine vx_lload_n IG dc_R_put_31 rfl 2 rfl ?_
    refine vx_lconst (v := 0) IG dc_R_put_32 (by decide) ?_
    refine vx_lcmp IG dc_R_put_33 ?_
    refine vx_if_ge (tgt := 41) IG dc_R_put_34 (by decide) (fun _ => ?_) (fun c_ => absurd ((lg_cmp_ge _ _).mpr (Int64.not_lt.mp y)) c_)
    refine vx_iconst (v := 0) IG dc_R_put_41 (by decide) ?_
    refine vx_callV (As := [.int (nI d), .int 16, .int 0]) (st := []) IG lw_good (cR_st LR ht2 ht3 HP HX hd (a := 16) (z := v.toInt) (by decide) (by decide) (Or.inl rfl) rfl ((kz_0 _).trans e2.symm)) (ro_M LR) rfl wC_R_store wL_R_75 wI_R_store wS_R_store wX_R 3 (by decide +kernel) rfl ⟨Nat.le_of_ble_eq_true rfl, Nat.le_of_ble_eq_true rfl⟩ ⟨(by dsimp only [rm_]; omega), (by dsimp only [rm_]; omega)⟩ rfl (Nat.le_of_ble_eq_true rfl) dc_R_put_42 (fun v h k_ n_ hq => ?_)
    obtain ⟨rfl, rfl, rfl, f9, g9, s9, V9, rfl, P9, X9⟩ := hq
    show vx_V _ _ _ _ _ _ _ _ _ 45 [(0, .ref (q 0)), (1, .int (nI d)), (2, .long v)] [.int (kpV v.toInt)]
    refine vx_ret (some (.int (kpV v.toInt))) RG (vx_endi (by unfold kpV; split <;> rfl) dc_R_put_45) rfl ?_
    exact ⟨rfl, rfl, rfl, f9, g9, s9, V9, rfl, P9, X9⟩
set_option maxRecDepth 100000 in
set_option maxHeartbeats 8000000 in
theorem cR_negate (LR : rlay q h0) (ht2 : tys[2]? = some (cZ, .boolean)) (ht3 : tys[3]? = some (cI, .int)) (HP : rpic f g V) (HX : mreg X V s) (r1 r2 : Int32) : vx_M l D vcl tys my_R_negate lw_gd (rm_ 3 0 0 66) [.ref (q 0), .int r1, .int r2] (rH cI cZ q h0 f g s) (rpub cI cZ q h0 (sp2 0 X (fun d a => kp X d (-X a)) r1 r2).2 (sp2 0 X (fun d a => kp X d (-X a)) r1 r2).1) := by
  refine vx_M.ofV (cc := bc_R_negate) (maxL := 3) (ret := (some .boolean)) (own := rR) false rfl (by decide +kernel) wC_R_negate (fun q => by cases q) (Nat.le_of_ble_eq_true rfl) (fun A H0 G IG RG => ?_)
  show vx_V _ _ _ _ _ _ _ _ _ 0 [(0, .ref (q 0)), (1, .int r1), (2, .int r2)] []
  refine vx_iload_n IG dc_R_negate_0 rfl 1 rfl ?_
  refine vx_callS (As := [.int r1]) (st := []) IG lw_good (cR_is _ r1) wC_R_is wL_R_67 wT_R_is wX_R 1 (by decide +kernel) rfl ⟨Nat.le_of_ble_eq_true rfl, Nat.le_of_ble_eq_true rfl⟩ ⟨(by dsimp only [rm_]; omega), (by dsimp only [rm_]; omega)⟩ rfl (Nat.le_of_ble_eq_true rfl) dc_R_negate_1 (fun v h k_ n_ hq => ?_)
  obtain ⟨rfl, rfl, rfl, rfl⟩ := hq
  show vx_V _ _ _ _ _ _ _ _ _ 4 [(0, .ref (q 0)), (1, .int r1), (2, .int r2)] [.int (if isR r1 then 1 else 0)]
  by_cases z0 : ¬ isR r1
  · refine vx_topi (y := 0) (if_neg z0) ?_
    refine vx_if_eq (tgt := 14) IG dc_R_negate_4 (by decide) (fun _ => ?_) (fun c_ => absurd rfl c_)
    refine vx_iconst (v := 0) IG dc_R_negate_14 (by decide) ?_
    refine vx_ret (some (.int 0)) RG (vx_endi (by first | rfl | decide) dc_R_negate_15) rfl ?_
    rw [sp2_no (fun e => z0 e.1)]
    exact ⟨rfl, rfl, rfl, f, g, s, V, rfl, HP, HX⟩
  replace z0 := Decidable.not_not.mp z0
  refine vx_topi (y := 1) (if_pos z0) ?_
  refine vx_if_eq (tgt := 14) IG dc_R_negate_4 (by decide) (fun c_ => absurd c_ (by decide)) (fun _ => ?_)
  refine vx_iload_n IG dc_R_negate_7 rfl 2 rfl ?_
  refine vx_callS (As := [.int r2]) (st := []) IG lw_good (cR_is _ r2) wC_R_is wL_R_67 wT_R_is wX_R 1 (by decide +kernel) rfl ⟨Nat.le_of_ble_eq_true rfl, Nat.le_of_ble_eq_true rfl⟩ ⟨(by dsimp only [rm_]; omega), (by dsimp only [rm_]; omega)⟩ rfl (Nat.le_of_ble_eq_true rfl) dc_R_negate_8 (fun v h k_ n_ hq => ?_)
  obtain ⟨rfl, rfl, rfl, rfl⟩ := hq
  show vx_V _ _ _ _ _ _ _ _ _ 11 [(0, .ref (q 0)), (1, .int r1), (2, .int r2)] [.int (if isR r2 then 1 else 0)]
  by_cases z1 : ¬ isR r2
  · refine vx_topi (y := 0) (if_neg z1) ?_
    refine vx_if_ne (tgt := 16) IG dc_R_negate_11 (by decide) (fun c_ => absurd rfl c_) (fun _ => ?_)
    refine vx_iconst (v := 0) IG dc_R_negate_14 (by decide) ?_
    refine vx_ret (some (.int 0)) RG (vx_endi (by first | rfl | decide) dc_R_negate_15) rfl ?_
    rw [sp2_no (fun e => z1 e.2)]
    exact ⟨rfl, rfl, rfl, f, g, s, V, rfl, HP, HX⟩
  replace z1 := Decidable.not_not.mp z1
  refine vx_topi (y := 1) (if_pos z1) ?_
  refine vx_if_ne (tgt := 16) IG dc_R_negate_11 (by decide) (fun _ => ?_) (fun c_ => absurd c_ (by decide))
  obtain ⟨d, hd, rfl⟩ := isR_of z0
  obtain ⟨a, ha, rfl⟩ := isR_of z1
  have Rd := reg_rv HP HX hd
  have Bd := (HX d hd).2
  have Ld := reg_cap HP HX hd
  have Ra := reg_rv HP HX ha
  have Ba := (HX a ha).2
  have La := reg_cap HP HX ha
  rw [sp2_ok hd ha] at RG
  refine vx_aload_n IG dc_R_negate_16 rfl 0 rfl ?_
  refine vx_bipush (v := 16) IG dc_R_negate_17 (by decide) ?_
  refine vx_iload_n IG dc_R_negate_19 rfl 2 rfl ?_
  refine vx_callV (As := [.int 16, .int (nI a)]) (st := []) IG lw_good (cR_move LR ht2 ht3 Ra (d := 16) (by decide) (by omega) (by omega) (by rw [rcap_hi (by decide)]; omega)) (ro_M LR) rfl wC_R_move wL_R_64 wI_R_move wS_R_move wX_R 2 (by decide +kernel) rfl ⟨Nat.le_of_ble_eq_true rfl, Nat.le_of_ble_eq_true rfl⟩ ⟨(by dsimp only [rm_]; omega), (by dsimp only [rm_]; omega)⟩ rfl (Nat.le_of_ble_eq_true rfl) dc_R_negate_20 (fun v h k_ n_ hq => ?_)
  obtain ⟨rfl, rfl, rfl, f1, g1, rfl, S1⟩ := hq
  obtain ⟨HP, HX⟩ := rp_up HP HX (show 16 ≤ 16 by decide) (show 16 < 24 by decide) S1
  show vx_V _ _ _ _ _ _ _ _ _ 23 [(0, .ref (q 0)), (1, .int (nI d)), (2, .int (nI a))] []
  refine vx_aload_n IG dc_R_negate_23 rfl 0 rfl ?_
  refine vx_iload_n IG dc_R_negate_24 rfl 1 rfl ?_
  refine vx_bipush (v := 16) IG dc_R_negate_25 (by decide) ?_
  refine vx_aload_n IG dc_R_negate_27 rfl 0 rfl ?_
  refine vx_get IG (ro_M LR) rfl 2 (by decide) inR wF_R_17 rfl rfl dc_R_negate_28 ?_
  refine vx_iload_n IG dc_R_negate_31 rfl 2 rfl ?_
  refine rr_zld IG LR ht2 ha (x := sgI (X a)) Ba dc_R_negate_32 ?_
  by_cases y : sgI (X a) = 0
  · refine vx_if_ne (tgt := 40) IG dc_R_negate_33 (by decide) (fun c_ => absurd y c_) (fun _ => ?_)
    refine vx_iconst (v := 1) IG dc_R_negate_36 (by decide) ?_
    refine vx_goto (tgt := 41) IG dc_R_negate_37 (by decide) ?_
    refine vx_callV (As := [.int (nI d), .int 16, .int 1]) (st := []) IG lw_good (cR_st LR ht2 ht3 HP HX hd (a := 16) (z := -X a) (by decide) (by decide) (Or.inr rfl) rfl (kz_flip1 y)) (ro_M LR) rfl wC_R_store wL_R_75 wI_R_store wS_R_store wX_R 3 (by decide +kernel) rfl ⟨Nat.le_of_ble_eq_true rfl, Nat.le_of_ble_eq_true rfl⟩ ⟨(by dsimp only [rm_]; omega), (by dsimp only [rm_]; omega)⟩ rfl (Nat.le_of_ble_eq_true rfl) dc_R_negate_41 (fun v h k_ n_ hq => ?_)
    obtain ⟨rfl, rfl, rfl, f9, g9, s9, V9, rfl, P9, X9⟩ := hq
    show vx_V _ _ _ _ _ _ _ _ _ 44 [(0, .ref (q 0)), (1, .int (nI d)), (2, .int (nI a))] [.int (kpV (-X a))]
    refine vx_ret (some (.int (kpV (-X a)))) RG (vx_endi (by unfold kpV; split <;> rfl) dc_R_negate_44) rfl ?_
    exact ⟨rfl, rfl, rfl, f9, g9, s9, V9, rfl, P9, X9⟩
  · refine vx_if_ne (tgt := 40) IG dc_R_negate_33 (by decide) (fun _ => ?_) (fun c_ => absurd c_ y)
    refine vx_iconst (v := 0) IG dc_R_negate_40 (by decide) ?_
    refine vx_callV (As := [.int (nI d), .int 16, .int 0]) (st := []) IG lw_good (cR_st LR ht2 ht3 HP HX hd (a := 16) (z := -X a) (by decide) (by decide) (Or.inl rfl) rfl (kz_flip0 y)) (ro_M LR) rfl wC_R_store wL_R_75 wI_R_store wS_R_store wX_R 3 (by decide +kernel) rfl ⟨Nat.le_of_ble_eq_true rfl, Nat.le_of_ble_eq_true rfl⟩ ⟨(by dsimp only [rm_]; omega), (by dsimp only [rm_]; omega)⟩ rfl (Nat.le_of_ble_eq_true rfl) dc_R_negate_41 (fun v h k_ n_ hq => ?_)
    obtain ⟨rfl, rfl, rfl, f9, g9, s9, V9, rfl, P9, X9⟩ := hq
    show vx_V _ _ _ _ _ _ _ _ _ 44 [(0, .ref (q 0)), (1, .int (nI d)), (2, .int (nI a))] [.int (kpV (-X a))]
    refine vx_ret (some (.int (kpV (-X a)))) RG (vx_endi (by unfold kpV; split <;> rfl) dc_R_negate_44) rfl ?_
    exact ⟨rfl, rfl, rfl, f9, g9, s9, V9, rfl, P9, X9⟩
theorem ad_same {x y : Nat} : kz w (x + y) = kz w x + kz w y := by
  unfold kz
  split <;> omega
theorem ad_lt {x y : Nat} (h01 : w = 0 ∨ w = 1) (h02 : w2 = 0 ∨ w2 = 1) (hne : ¬ w = w2) (h : x < y) : kz w2 (y - x) = kz w x + kz w2 y := by
  rcases h01 with rfl | rfl <;> rcases h02 with rfl | rfl <;> first | exact absurd rfl hne | skip
  · rw [kz_1, kz_0, kz_1]; omega
  · rw [kz_0, kz_1, kz_0]; omega
theorem ad_ge {x y : Nat} (h01 : w = 0 ∨ w = 1) (h02 : w2 = 0 ∨ w2 = 1) (hne : ¬ w = w2) (h : ¬ x < y) : kz w (x - y) = kz w x + kz w2 y := by
  rcases h01 with rfl | rfl <;> rcases h02 with rfl | rfl <;> first | exact absurd rfl hne | skip
  · rw [kz_0, kz_0, kz_1]; omega
  · rw [kz_1, kz_1, kz_0]; omega
set_option maxRecDepth 100000 in
set_option maxHeartbeats 8000000 in
theorem cR_added (LR : rlay q h0) (ht2 : tys[2]? = some (cZ, .boolean)) (ht3 : tys[3]? = some (cI, .int)) (HP : rpic f g V) (HX : mreg X V s) (hd : d < 16) (ha : a < 24) (hb : b < 24) (Ra : rv f g a U) (Rb : rv f g b W) (s1 : nd 65536 U < 8200) (s2 : nd 65536 W < 8200) (h01 : w = 0 ∨ w = 1) (h02 : w2 = 0 ∨ w2 = 1) : vx_M l D vcl tys my_R_added lw_gd (rm_ 3 0 0 70) [.ref (q 0), .int (nI d), .int (nI a), .int w, .int (nI b), .int w2] (rH cI cZ q h0 f g s) (rpub cI cZ q h0 (kpX X d (kz w U + kz w2 W)) (kpV (kz w U + kz w2 W))) := by
  refine vx_M.ofV (cc := bc_R_added) (maxL := 7) (ret := (some .boolean)) (own := rR) false rfl (by decide +kernel) wC_R_added (fun q => by cases q) (Nat.le_of_ble_eq_true rfl) (fun A H0 G IG RG => ?_)
  show vx_V _ _ _ _ _ _ _ _ _ 0 [(0, .ref (q 0)), (1, .int (nI d)), (2, .int (nI a)), (3, .int w), (4, .int (nI b)), (5, .int w2)] []
  refine vx_aload_n IG dc_R_added_0 rfl 0 rfl ?_
  refine vx_iload_n IG dc_R_added_1 rfl 2 rfl ?_
  refine vx_iload IG dc_R_added_2 4 rfl ?_
  refine vx_callV (As := [.int (nI a), .int (nI b)]) (st := []) IG lw_good (cR_compareRows LR ht2 ht3 Ra Rb ha hb) (ro_M LR) rfl wC_R_compareRows wL_R_54 wI_R_compareRows wS_R_compareRows wX_R 2 (by decide +kernel) rfl ⟨Nat.le_of_ble_eq_true rfl, Nat.le_of_ble_eq_true rfl⟩ ⟨(by dsimp only [rm_]; omega), (by dsimp only [rm_]; omega)⟩ rfl (Nat.le_of_ble_eq_true rfl) dc_R_added_4 (fun v h k_ n_ hq => ?_)
  obtain ⟨rfl, rfl, rfl, rfl⟩ := hq
  show vx_V _ _ _ _ _ _ _ _ _ 7 [(0, .ref (q 0)), (1, .int (nI d)), (2, .int (nI a)), (3, .int w), (4, .int (nI b)), (5, .int w2)] [.int (cmpI U W)]
  have fin : ∀ (x : Int32) (k n : Nat), x = (if U < W then 1 else 0) → k = 0 → n = 0 → vx_V D vcl A H0 7 G (rH cI cZ q h0 f g s) k n 15 [(0, .ref (q 0)), (1, .int (nI d)), (2, .int (nI a)), (3, .int w), (4, .int (nI b)), (5, .int w2)] [.int x] := by
    intro x k n ex hk hn
    subst hk hn
    refine vx_istore (lv' := [(6, .int x), (0, .ref (q 0)), (1, .int (nI d)), (2, .int (nI a)), (3, .int w), (4, .int (nI b)), (5, .int w2)]) IG dc_R_added_15 (by decide) rfl ?_
    refine vx_iload_n IG dc_R_added_17 rfl 4 rfl ?_
    refine vx_iload IG dc_R_added_18 6 rfl ?_
    by_cases y : w = w2
    · refine vx_icmp_ne (tgt := 35) IG dc_R_added_20 (by decide) (fun c_ => absurd y c_) (fun _ => ?_)
      refine vx_aload_n IG dc_R_added_23 rfl 1 rfl ?_
      refine vx_bipush (v := 21) IG dc_R_added_24 (by decide) ?_
      refine vx_iload_n IG dc_R_added_26 rfl 3 rfl ?_
      refine vx_iload IG dc_R_added_27 5 rfl ?_
      refine vx_callV (As := [.int 21, .int (nI a), .int (nI b)]) (st := []) IG lw_good (cR_sum LR ht2 ht3 Ra Rb (d := 21) (by decide) ha hb (by rw [rcap_hi (by decide)]; omega) (by rw [rcap_hi (by decide)]; omega)) (ro_M LR) rfl wC_R_sum wL_R_79 wI_R_sum wS_R_sum wX_R 3 (by decide +kernel) rfl ⟨Nat.le_of_ble_eq_true rfl, Nat.le_of_ble_eq_true rfl⟩ ⟨(by dsimp only [rm_]; omega), (by dsimp only [rm_]; omega)⟩ rfl (Nat.le_of_ble_eq_true rfl) dc_R_added_29 (fun v h k_ n_ hq => ?_)
      obtain ⟨rfl, rfl, rfl, f1, g1, rfl, S1⟩ := hq
      obtain ⟨HP, HX⟩ := rp_up HP HX (show 16 ≤ 21 by decide) (show 21 < 24 by decide) S1
      show vx_V _ _ _ _ _ _ _ _ _ 32 [(6, .int x), (0, .ref (q 0)), (1, .int (nI d)), (2, .int (nI a)), (3, .int w), (4, .int (nI b)), (5, .int w2)] []
      refine vx_goto (tgt := 61) IG dc_R_added_32 (by decide) ?_
      refine vx_aload_n IG dc_R_added_61 rfl 1 rfl ?_
      refine vx_iload_n IG dc_R_added_62 rfl 2 rfl ?_
      refine vx_bipush (v := 21) IG dc_R_added_63 (by decide) ?_
      refine vx_iload_n IG dc_R_added_65 rfl 4 rfl ?_
      refine vx_iload IG dc_R_added_66 6 rfl ?_
      refine vx_icmp_eq (tgt := 76) IG dc_R_added_68 (by decide) (fun _ => ?_) (fun c_ => absurd y c_)
      refine vx_iload_n IG dc_R_added_76 rfl 4 rfl ?_
      refine vx_goto (tgt := 82) IG dc_R_added_77 (by decide) ?_
      refine vx_callV (As := [.int (nI d), .int 21, .int w]) (st := []) IG lw_good (cR_st LR ht2 ht3 HP HX hd (a := 21) (z := kz w U + kz w2 W) (by decide) (by decide) h01 rfl (by rw [← y]; exact ad_same)) (ro_M LR) rfl wC_R_store wL_R_75 wI_R_store wS_R_store wX_R 3 (by decide +kernel) rfl ⟨Nat.le_of_ble_eq_true rfl, Nat.le_of_ble_eq_true rfl⟩ ⟨(by dsimp only [rm_]; omega), (by dsimp only [rm_]; omega)⟩ rfl (Nat.le_of_ble_eq_true rfl) dc_R_added_82 (fun v h k_ n_ hq => ?_)
      obtain ⟨rfl, rfl, rfl, f9, g9, s9, V9, rfl, P9, X9⟩ := hq
      show vx_V _ _ _ _ _ _ _ _ _ 85 [(6, .int x), (0, .ref (q 0)), (1, .int (nI d)), (2, .int (nI a)), (3, .int w), (4, .int (nI b)), (5, .int w2)] [.int (kpV (kz w U + kz w2 W))]
      refine vx_ret (some (.int (kpV (kz w U + kz w2 W)))) RG (vx_endi (by unfold kpV; split <;> rfl) dc_R_added_85) rfl ?_
      exact ⟨rfl, rfl, rfl, f9, g9, s9, V9, rfl, P9, X9⟩
    · refine vx_icmp_ne (tgt := 35) IG dc_R_added_20 (by decide) (fun _ => ?_) (fun c_ => absurd c_ y)
      refine vx_iload IG dc_R_added_35 0 rfl ?_
      by_cases v : U < W
      · rw [if_pos v] at ex
        refine vx_if_eq (tgt := 52) IG dc_R_added_37 (by decide) (fun c_ => absurd c_ (by rw [ex]; decide)) (fun _ => ?_)
        refine vx_aload_n IG dc_R_added_40 rfl 1 rfl ?_
        refine vx_bipush (v := 21) IG dc_R_added_41 (by decide) ?_
        refine vx_iload IG dc_R_added_43 5 rfl ?_
        refine vx_iload_n IG dc_R_added_45 rfl 3 rfl ?_
        refine vx_callV (As := [.int 21, .int (nI b), .int (nI a)]) (st := []) IG lw_good (cR_lessen LR ht2 ht3 Rb Ra (d := 21) (by decide) hb ha (by rw [rcap_hi (by decide)]; omega) (by omega)) (ro_M LR) rfl wC_R_lessen wL_R_57 wI_R_lessen wS_R_lessen wX_R 3 (by decide +kernel) rfl ⟨Nat.le_of_ble_eq_true rfl, Nat.le_of_ble_eq_true rfl⟩ ⟨(by dsimp only [rm_]; omega), (by dsimp only [rm_]; omega)⟩ rfl (Nat.le_of_ble_eq_true rfl) dc_R_added_46 (fun v h k_ n_ hq => ?_)
        obtain ⟨rfl, rfl, rfl, f1, g1, rfl, S1⟩ := hq
        obtain ⟨HP, HX⟩ := rp_up HP HX (show 16 ≤ 21 by decide) (show 21 < 24 by decide) S1
        show vx_V _ _ _ _ _ _ _ _ _ 49 [(6, .int x), (0, .ref (q 0)), (1, .int (nI d)), (2, .int (nI a)), (3, .int w), (4, .int (nI b)), (5, .int w2)] []
        refine vx_goto (tgt := 61) IG dc_R_added_49 (by decide) ?_
        refine vx_aload_n IG dc_R_added_61 rfl 1 rfl ?_
        refine vx_iload_n IG dc_R_added_62 rfl 2 rfl ?_
        refine vx_bipush (v := 21) IG dc_R_added_63 (by decide) ?_
        refine vx_iload_n IG dc_R_added_65 rfl 4 rfl ?_
        refine vx_iload IG dc_R_added_66 6 rfl ?_
        refine vx_icmp_eq (tgt := 76) IG dc_R_added_68 (by decide) (fun c_ => absurd c_ y) (fun _ => ?_)
        refine vx_iload IG dc_R_added_71 0 rfl ?_
        refine vx_if_ne (tgt := 80) IG dc_R_added_73 (by decide) (fun _ => ?_) (fun c_ => absurd c_ (by rw [ex]; decide))
        refine vx_iload IG dc_R_added_80 6 rfl ?_
        refine vx_callV (As := [.int (nI d), .int 21, .int w2]) (st := []) IG lw_good (cR_st LR ht2 ht3 HP HX hd (a := 21) (z := kz w U + kz w2 W) (by decide) (by decide) h02 rfl (ad_lt h01 h02 y v)) (ro_M LR) rfl wC_R_store wL_R_75 wI_R_store wS_R_store wX_R 3 (by decide +kernel) rfl ⟨Nat.le_of_ble_eq_true rfl, Nat.le_of_ble_eq_true rfl⟩ ⟨(by dsimp only [rm_]; omega), (by dsimp only [rm_]; omega)⟩ rfl (Nat.le_of_ble_eq_true rfl) dc_R_added_82 (fun v h k_ n_ hq => ?_)
        obtain ⟨rfl, rfl, rfl, f9, g9, s9, V9, rfl, P9, X9⟩ := hq
        show vx_V _ _ _ _ _ _ _ _ _ 85 [(6, .int x), (0, .ref (q 0)), (1, .int (nI d)), (2, .int (nI a)), (3, .int w), (4, .int (nI b)), (5, .int w2)] [.int (kpV (kz w U + kz w2 W))]
        refine vx_ret (some (.int (kpV (kz w U + kz w2 W)))) RG (vx_endi (by unfold kpV; split <;> rfl) dc_R_added_85) rfl ?_
        exact ⟨rfl, rfl, rfl, f9, g9, s9, V9, rfl, P9, X9⟩
      · rw [if_neg v] at ex
        refine vx_if_eq (tgt := 52) IG dc_R_added_37 (by decide) (fun _ => ?_) (fun c_ => absurd ex c_)
        refine vx_aload_n IG dc_R_added_52 rfl 1 rfl ?_
        refine vx_bipush (v := 21) IG dc_R_added_53 (by decide) ?_
        refine vx_iload_n IG dc_R_added_55 rfl 3 rfl ?_
        refine vx_iload IG dc_R_added_56 5 rfl ?_
        refine vx_callV (As := [.int 21, .int (nI a), .int (nI b)]) (st := []) IG lw_good (cR_lessen LR ht2 ht3 Ra Rb (d := 21) (by decide) ha hb (by rw [rcap_hi (by decide)]; omega) (by omega)) (ro_M LR) rfl wC_R_lessen wL_R_57 wI_R_lessen wS_R_lessen wX_R 3 (by decide +kernel) rfl ⟨Nat.le_of_ble_eq_true rfl, Nat.le_of_ble_eq_true rfl⟩ ⟨(by dsimp only [rm_]; omega), (by dsimp only [rm_]; omega)⟩ rfl (Nat.le_of_ble_eq_true rfl) dc_R_added_58 (fun v h k_ n_ hq => ?_)
        obtain ⟨rfl, rfl, rfl, f1, g1, rfl, S1⟩ := hq
        obtain ⟨HP, HX⟩ := rp_up HP HX (show 16 ≤ 21 by decide) (show 21 < 24 by decide) S1
        show vx_V _ _ _ _ _ _ _ _ _ 61 [(6, .int x), (0, .ref (q 0)), (1, .int (nI d)), (2, .int (nI a)), (3, .int w), (4, .int (nI b)), (5, .int w2)] []
        refine vx_aload_n IG dc_R_added_61 rfl 1 rfl ?_
        refine vx_iload_n IG dc_R_added_62 rfl 2 rfl ?_
        refine vx_bipush (v := 21) IG dc_R_added_63 (by decide) ?_
        refine vx_iload_n IG dc_R_added_65 rfl 4 rfl ?_
        refine vx_iload IG dc_R_added_66 6 rfl ?_
        refine vx_icmp_eq (tgt := 76) IG dc_R_added_68 (by decide) (fun c_ => absurd c_ y) (fun _ => ?_)
        refine vx_iload IG dc_R_added_71 0 rfl ?_
        refine vx_if_ne (tgt := 80) IG dc_R_added_73 (by decide) (fun c_ => absurd ex c_) (fun _ => ?_)
        refine vx_iload_n IG dc_R_added_76 rfl 4 rfl ?_
        refine vx_goto (tgt := 82) IG dc_R_added_77 (by decide) ?_
        refine vx_callV (As := [.int (nI d), .int 21, .int w]) (st := []) IG lw_good (cR_st LR ht2 ht3 HP HX hd (a := 21) (z := kz w U + kz w2 W) (by decide) (by decide) h01 rfl (ad_ge h01 h02 y v)) (ro_M LR) rfl wC_R_store wL_R_75 wI_R_store wS_R_store wX_R 3 (by decide +kernel) rfl ⟨Nat.le_of_ble_eq_true rfl, Nat.le_of_ble_eq_true rfl⟩ ⟨(by dsimp only [rm_]; omega), (by dsimp only [rm_]; omega)⟩ rfl (Nat.le_of_ble_eq_true rfl) dc_R_added_82 (fun v h k_ n_ hq => ?_)
        obtain ⟨rfl, rfl, rfl, f9, g9, s9, V9, rfl, P9, X9⟩ := hq
        show vx_V _ _ _ _ _ _ _ _ _ 85 [(6, .int x), (0, .ref (q 0)), (1, .int (nI d)), (2, .int (nI a)), (3, .int w), (4, .int (nI b)), (5, .int w2)] [.int (kpV (kz w U + kz w2 W))]
        refine vx_ret (some (.int (kpV (kz w U + kz w2 W)))) RG (vx_endi (by unfold kpV; split <;> rfl) dc_R_added_85) rfl ?_
        exact ⟨rfl, rfl, rfl, f9, g9, s9, V9, rfl, P9, X9⟩
  by_cases y : U < W
  · refine vx_if_ge (tgt := 14) IG dc_R_added_7 (by decide) (fun c_ => absurd c_ (fun c => absurd c (by rw [show cmpI U W = -1 from if_pos y]; decide))) (fun _ => ?_)
    refine vx_iconst (v := 1) IG dc_R_added_10 (by decide) ?_
    refine vx_goto (tgt := 15) IG dc_R_added_11 (by decide) ?_
    exact fin 1 _ _ (by rw [if_pos y]) rfl rfl
  · refine vx_if_ge (tgt := 14) IG dc_R_added_7 (by decide) (fun _ => ?_) (fun c_ => absurd ((cmpI_ge _ _).mpr (by omega)) c_)
    refine vx_iconst (v := 0) IG dc_R_added_14 (by decide) ?_
    exact fin 0 _ _ (by rw [if_neg y]) rfl rfl
set_option maxRecDepth 100000 in
set_option maxHeartbeats 8000000 in
theorem cR_add (LR : rlay q h0) (ht2 : tys[2]? = some (cZ, .boolean)) (ht3 : tys[3]? = some (cI, .int)) (HP : rpic f g V) (HX : mreg X V s) (r1 r2 r3 : Int32) : vx_M l D vcl tys my_R_add lw_gd (rm_ 4 0 0 96) [.ref (q 0), .int r1, .int r2, .int r3] (rH cI cZ q h0 f g s) (rpub cI cZ q h0 (sp3 0 X (fun d a b => kp X d (X a + X b)) r1 r2 r3).2 (sp3 0 X (fun d a b => kp X d (X a + X b)) r1 r2 r3).1) := by
  refine vx_M.ofV (cc := bc_R_add) (maxL := 4) (ret := (some .boolean)) (own := rR) false rfl (by decide +kernel) wC_R_add (fun q => by cases q) (Nat.le_of_ble_eq_true rfl) (fun A H0 G IG RG => ?_)
  show vx_V _ _ _ _ _ _ _ _ _ 0 [(0, .ref (q 0)), (1, .int r1), (2, .int r2), (3, .int r3)] []
  refine vx_iload_n IG dc_R_add_0 rfl 1 rfl ?_
  refine vx_callS (As := [.int r1]) (st := []) IG lw_good (cR_is _ r1) wC_R_is wL_R_67 wT_R_is wX_R 1 (by decide +kernel) rfl ⟨Nat.le_of_ble_eq_true rfl, Nat.le_of_ble_eq_true rfl⟩ ⟨(by dsimp only [rm_]; omega), (by dsimp only [rm_]; omega)⟩ rfl (Nat.le_of_ble_eq_true rfl) dc_R_add_1 (fun v h k_ n_ hq => ?_)
  obtain ⟨rfl, rfl, rfl, rfl⟩ := hq
  show vx_V _ _ _ _ _ _ _ _ _ 4 [(0, .ref (q 0)), (1, .int r1), (2, .int r2), (3, .int r3)] [.int (if isR r1 then 1 else 0)]
  by_cases z0 : ¬ isR r1
  · refine vx_topi (y := 0) (if_neg z0) ?_
    refine vx_if_eq (tgt := 47) IG dc_R_add_4 (by decide) (fun _ => ?_) (fun c_ => absurd rfl c_)
    refine vx_iconst (v := 0) IG dc_R_add_47 (by decide) ?_
    refine vx_ret (some (.int 0)) RG (vx_endi (by first | rfl | decide) dc_R_add_48) rfl ?_
    rw [sp3_no (fun e => z0 e.1)]
    exact ⟨rfl, rfl, rfl, f, g, s, V, rfl, HP, HX⟩
  replace z0 := Decidable.not_not.mp z0
  refine vx_topi (y := 1) (if_pos z0) ?_
  refine vx_if_eq (tgt := 47) IG dc_R_add_4 (by decide) (fun c_ => absurd c_ (by decide)) (fun _ => ?_)
  refine vx_iload_n IG dc_R_add_7 rfl 2 rfl ?_
  refine vx_callS (As := [.int r2]) (st := []) IG lw_good (cR_is _ r2) wC_R_is wL_R_67 wT_R_is wX_R 1 (by decide +kernel) rfl ⟨Nat.le_of_ble_eq_true rfl, Nat.le_of_ble_eq_true rfl⟩ ⟨(by dsimp only [rm_]; omega), (by dsimp only [rm_]; omega)⟩ rfl (Nat.le_of_ble_eq_true rfl) dc_R_add_8 (fun v h k_ n_ hq => ?_)
  obtain ⟨rfl, rfl, rfl, rfl⟩ := hq
  show vx_V _ _ _ _ _ _ _ _ _ 11 [(0, .ref (q 0)), (1, .int r1), (2, .int r2), (3, .int r3)] [.int (if isR r2 then 1 else 0)]
  by_cases z1 : ¬ isR r2
  · refine vx_topi (y := 0) (if_neg z1) ?_
    refine vx_if_eq (tgt := 47) IG dc_R_add_11 (by decide) (fun _ => ?_) (fun c_ => absurd rfl c_)
    refine vx_iconst (v := 0) IG dc_R_add_47 (by decide) ?_
    refine vx_ret (some (.int 0)) RG (vx_endi (by first | rfl | decide) dc_R_add_48) rfl ?_
    rw [sp3_no (fun e => z1 e.2.1)]
    exact ⟨rfl, rfl, rfl, f, g, s, V, rfl, HP, HX⟩
  replace z1 := Decidable.not_not.mp z1
  refine vx_topi (y := 1) (if_pos z1) ?_
  refine vx_if_eq (tgt := 47) IG dc_R_add_11 (by decide) (fun c_ => absurd c_ (by decide)) (fun _ => ?_)
  refine vx_iload_n IG dc_R_add_14 rfl 3 rfl ?_
  refine vx_callS (As := [.int r3]) (st := []) IG lw_good (cR_is _ r3) wC_R_is wL_R_67 wT_R_is wX_R 1 (by decide +kernel) rfl ⟨Nat.le_of_ble_eq_true rfl, Nat.le_of_ble_eq_true rfl⟩ ⟨(by dsimp only [rm_]; omega), (by dsimp only [rm_]; omega)⟩ rfl (Nat.le_of_ble_eq_true rfl) dc_R_add_15 (fun v h k_ n_ hq => ?_)
  obtain ⟨rfl, rfl, rfl, rfl⟩ := hq
  show vx_V _ _ _ _ _ _ _ _ _ 18 [(0, .ref (q 0)), (1, .int r1), (2, .int r2), (3, .int r3)] [.int (if isR r3 then 1 else 0)]
  by_cases z2 : ¬ isR r3
  · refine vx_topi (y := 0) (if_neg z2) ?_
    refine vx_if_eq (tgt := 47) IG dc_R_add_18 (by decide) (fun _ => ?_) (fun c_ => absurd rfl c_)
    refine vx_iconst (v := 0) IG dc_R_add_47 (by decide) ?_
    refine vx_ret (some (.int 0)) RG (vx_endi (by first | rfl | decide) dc_R_add_48) rfl ?_
    rw [sp3_no (fun e => z2 e.2.2)]
    exact ⟨rfl, rfl, rfl, f, g, s, V, rfl, HP, HX⟩
  replace z2 := Decidable.not_not.mp z2
  refine vx_topi (y := 1) (if_pos z2) ?_
  refine vx_if_eq (tgt := 47) IG dc_R_add_18 (by decide) (fun c_ => absurd c_ (by decide)) (fun _ => ?_)
  obtain ⟨d, hd, rfl⟩ := isR_of z0
  obtain ⟨a, ha, rfl⟩ := isR_of z1
  obtain ⟨b, hb, rfl⟩ := isR_of z2
  have Rd := reg_rv HP HX hd
  have Bd := (HX d hd).2
  have Ld := reg_cap HP HX hd
  have Ra := reg_rv HP HX ha
  have Ba := (HX a ha).2
  have La := reg_cap HP HX ha
  have Rb := reg_rv HP HX hb
  have Bb := (HX b hb).2
  have Lb := reg_cap HP HX hb
  rw [sp3_ok hd ha hb] at RG
  refine vx_aload_n IG dc_R_add_21 rfl 0 rfl ?_
  refine vx_iload_n IG dc_R_add_22 rfl 1 rfl ?_
  refine vx_iload_n IG dc_R_add_23 rfl 2 rfl ?_
  refine vx_aload_n IG dc_R_add_24 rfl 0 rfl ?_
  refine vx_get IG (ro_M LR) rfl 2 (by decide) inR wF_R_17 rfl rfl dc_R_add_25 ?_
  refine vx_iload_n IG dc_R_add_28 rfl 2 rfl ?_
  refine rr_zld IG LR ht2 ha (x := sgI (X a)) Ba dc_R_add_29 ?_
  refine vx_iload_n IG dc_R_add_30 rfl 3 rfl ?_
  refine vx_aload_n IG dc_R_add_31 rfl 0 rfl ?_
  refine vx_get IG (ro_M LR) rfl 2 (by decide) inR wF_R_17 rfl rfl dc_R_add_32 ?_
  refine vx_iload_n IG dc_R_add_35 rfl 3 rfl ?_
  refine rr_zld IG LR ht2 hb (x := sgI (X b)) Bb dc_R_add_36 ?_
  refine vx_callV (As := [.int (nI d), .int (nI a), .int (sgI (X a)), .int (nI b), .int (sgI (X b))]) (st := []) IG lw_good (cR_added LR ht2 ht3 HP HX hd (by omega) (by omega) Ra Rb (by omega) (by omega) (sgI_01 (X a)) (sgI_01 (X b))) (ro_M LR) rfl wC_R_added wL_R_82 wI_R_added wS_R_added wX_R 5 (by decide +kernel) rfl ⟨Nat.le_of_ble_eq_true rfl, Nat.le_of_ble_eq_true rfl⟩ ⟨(by dsimp only [rm_]; omega), (by dsimp only [rm_]; omega)⟩ rfl (Nat.le_of_ble_eq_true rfl) dc_R_add_37 (fun v h k_ n_ hq => ?_)
  rw [kz_sg, kz_sg] at hq
  obtain ⟨rfl, rfl, rfl, f9, g9, s9, V9, rfl, P9, X9⟩ := hq
  show vx_V _ _ _ _ _ _ _ _ _ 40 [(0, .ref (q 0)), (1, .int (nI d)), (2, .int (nI a)), (3, .int (nI b))] [.int (kpV (X a + X b))]
  by_cases y : bl (X a + X b).natAbs ≤ 65536
  · refine vx_topi (y := 1) (kpV_1 y) ?_
    refine vx_if_eq (tgt := 47) IG dc_R_add_40 (by decide) (fun c_ => absurd c_ (by decide)) (fun _ => ?_)
    refine vx_iconst (v := 1) IG dc_R_add_43 (by decide) ?_
    refine vx_goto (tgt := 48) IG dc_R_add_44 (by decide) ?_
    refine vx_ret (some (.int 1)) RG (vx_endi (by first | rfl | decide) dc_R_add_48) rfl ?_
    exact ⟨congrArg (fun x => some (Value.int x)) (kpV_1 y).symm, rfl, rfl, f9, g9, s9, V9, rfl, P9, X9⟩
  · refine vx_topi (y := 0) (kpV_0 y) ?_
    refine vx_if_eq (tgt := 47) IG dc_R_add_40 (by decide) (fun _ => ?_) (fun c_ => absurd rfl c_)
    refine vx_iconst (v := 0) IG dc_R_add_47 (by decide) ?_
    refine vx_ret (some (.int 0)) RG (vx_endi (by first | rfl | decide) dc_R_add_48) rfl ?_
    exact ⟨congrArg (fun x => some (Value.int x)) (kpV_0 y).symm, rfl, rfl, f9, g9, s9, V9, rfl, P9, X9⟩
set_option maxRecDepth 100000 in
set_option maxHeartbeats 8000000 in
theorem cR_take (LR : rlay q h0) (ht2 : tys[2]? = some (cZ, .boolean)) (ht3 : tys[3]? = some (cI, .int)) (HP : rpic f g V) (HX : mreg X V s) (r1 r2 r3 : Int32) : vx_M l D vcl tys my_R_take lw_gd (rm_ 4 0 0 96) [.ref (q 0), .int r1, .int r2, .int r3] (rH cI cZ q h0 f g s) (rpub cI cZ q h0 (sp3 0 X (fun d a b => kp X d (X a - X b)) r1 r2 r3).2 (sp3 0 X (fun d a b => kp X d (X a - X b)) r1 r2 r3).1) := by
  refine vx_M.ofV (cc := bc_R_take) (maxL := 4) (ret := (some .boolean)) (own := rR) false rfl (by decide +kernel) wC_R_take (fun q => by cases q) (Nat.le_of_ble_eq_true rfl) (fun A H0 G IG RG => ?_)
  show vx_V _ _ _ _ _ _ _ _ _ 0 [(0, .ref (q 0)), (1, .int r1), (2, .int r2), (3, .int r3)] []
  refine vx_iload_n IG dc_R_take_0 rfl 1 rfl ?_
  refine vx_callS (As := [.int r1]) (st := []) IG lw_good (cR_is _ r1) wC_R_is wL_R_67 wT_R_is wX_R 1 (by decide +kernel) rfl ⟨Nat.le_of_ble_eq_true rfl, Nat.le_of_ble_eq_true rfl⟩ ⟨(by dsimp only [rm_]; omega), (by dsimp only [rm_]; omega)⟩ rfl (Nat.le_of_ble_eq_true rfl) dc_R_take_1 (fun v h k_ n_ hq => ?_)
  obtain ⟨rfl, rfl, rfl, rfl⟩ := hq
  show vx_V _ _ _ _ _ _ _ _ _ 4 [(0, .ref (q 0)), (1, .int r1), (2, .int r2), (3, .int r3)] [.int (if isR r1 then 1 else 0)]
  by_cases z0 : ¬ isR r1
  · refine vx_topi (y := 0) (if_neg z0) ?_
    refine vx_if_eq (tgt := 55) IG dc_R_take_4 (by decide) (fun _ => ?_) (fun c_ => absurd rfl c_)
    refine vx_iconst (v := 0) IG dc_R_take_55 (by decide) ?_
    refine vx_ret (some (.int 0)) RG (vx_endi (by first | rfl | decide) dc_R_take_56) rfl ?_
    rw [sp3_no (fun e => z0 e.1)]
    exact ⟨rfl, rfl, rfl, f, g, s, V, rfl, HP, HX⟩
  replace z0 := Decidable.not_not.mp z0
  refine vx_topi (y := 1) (if_pos z0) ?_
  refine vx_if_eq (tgt := 55) IG dc_R_take_4 (by decide) (fun c_ => absurd c_ (by decide)) (fun _ => ?_)
  refine vx_iload_n IG dc_R_take_7 rfl 2 rfl ?_
  refine vx_callS (As := [.int r2]) (st := []) IG lw_good (cR_is _ r2) wC_R_is wL_R_67 wT_R_is wX_R 1 (by decide +kernel) rfl ⟨Nat.le_of_ble_eq_true rfl, Nat.le_of_ble_eq_true rfl⟩ ⟨(by dsimp only [rm_]; omega), (by dsimp only [rm_]; omega)⟩ rfl (Nat.le_of_ble_eq_true rfl) dc_R_take_8 (fun v h k_ n_ hq => ?_)
  obtain ⟨rfl, rfl, rfl, rfl⟩ := hq
  show vx_V _ _ _ _ _ _ _ _ _ 11 [(0, .ref (q 0)), (1, .int r1), (2, .int r2), (3, .int r3)] [.int (if isR r2 then 1 else 0)]
  by_cases z1 : ¬ isR r2
  · refine vx_topi (y := 0) (if_neg z1) ?_
    refine vx_if_eq (tgt := 55) IG dc_R_take_11 (by decide) (fun _ => ?_) (fun c_ => absurd rfl c_)
    refine vx_iconst (v := 0) IG dc_R_take_55 (by decide) ?_
    refine vx_ret (some (.int 0)) RG (vx_endi (by first | rfl | decide) dc_R_take_56) rfl ?_
    rw [sp3_no (fun e => z1 e.2.1)]
    exact ⟨rfl, rfl, rfl, f, g, s, V, rfl, HP, HX⟩
  replace z1 := Decidable.not_not.mp z1
  refine vx_topi (y := 1) (if_pos z1) ?_
  refine vx_if_eq (tgt := 55) IG dc_R_take_11 (by decide) (fun c_ => absurd c_ (by decide)) (fun _ => ?_)
  refine vx_iload_n IG dc_R_take_14 rfl 3 rfl ?_
  refine vx_callS (As := [.int r3]) (st := []) IG lw_good (cR_is _ r3) wC_R_is wL_R_67 wT_R_is wX_R 1 (by decide +kernel) rfl ⟨Nat.le_of_ble_eq_true rfl, Nat.le_of_ble_eq_true rfl⟩ ⟨(by dsimp only [rm_]; omega), (by dsimp only [rm_]; omega)⟩ rfl (Nat.le_of_ble_eq_true rfl) dc_R_take_15 (fun v h k_ n_ hq => ?_)
  obtain ⟨rfl, rfl, rfl, rfl⟩ := hq
  show vx_V _ _ _ _ _ _ _ _ _ 18 [(0, .ref (q 0)), (1, .int r1), (2, .int r2), (3, .int r3)] [.int (if isR r3 then 1 else 0)]
  by_cases z2 : ¬ isR r3
  · refine vx_topi (y := 0) (if_neg z2) ?_
    refine vx_if_eq (tgt := 55) IG dc_R_take_18 (by decide) (fun _ => ?_) (fun c_ => absurd rfl c_)
    refine vx_iconst (v := 0) IG dc_R_take_55 (by decide) ?_
    refine vx_ret (some (.int 0)) RG (vx_endi (by first | rfl | decide) dc_R_take_56) rfl ?_
    rw [sp3_no (fun e => z2 e.2.2)]
    exact ⟨rfl, rfl, rfl, f, g, s, V, rfl, HP, HX⟩
  replace z2 := Decidable.not_not.mp z2
  refine vx_topi (y := 1) (if_pos z2) ?_
  refine vx_if_eq (tgt := 55) IG dc_R_take_18 (by decide) (fun c_ => absurd c_ (by decide)) (fun _ => ?_)
  obtain ⟨d, hd, rfl⟩ := isR_of z0
  obtain ⟨a, ha, rfl⟩ := isR_of z1
  obtain ⟨b, hb, rfl⟩ := isR_of z2
  have Rd := reg_rv HP HX hd
  have Bd := (HX d hd).2
  have Ld := reg_cap HP HX hd
  have Ra := reg_rv HP HX ha
  have Ba := (HX a ha).2
  have La := reg_cap HP HX ha
  have Rb := reg_rv HP HX hb
  have Bb := (HX b hb).2
  have Lb := reg_cap HP HX hb
  rw [sp3_ok hd ha hb, Int.sub_eq_add_neg] at RG
  refine vx_aload_n IG dc_R_take_21 rfl 0 rfl ?_
  refine vx_iload_n IG dc_R_take_22 rfl 1 rfl ?_
  refine vx_iload_n IG dc_R_take_23 rfl 2 rfl ?_
  refine vx_aload_n IG dc_R_take_24 rfl 0 rfl ?_
  refine vx_get IG (ro_M LR) rfl 2 (by decide) inR wF_R_17 rfl rfl dc_R_take_25 ?_
  refine vx_iload_n IG dc_R_take_28 rfl 2 rfl ?_
  refine rr_zld IG LR ht2 ha (x := sgI (X a)) Ba dc_R_take_29 ?_
  refine vx_iload_n IG dc_R_take_30 rfl 3 rfl ?_
  refine vx_aload_n IG dc_R_take_31 rfl 0 rfl ?_
  refine vx_get IG (ro_M LR) rfl 2 (by decide) inR wF_R_17 rfl rfl dc_R_take_32 ?_
  refine vx_iload_n IG dc_R_take_35 rfl 3 rfl ?_
  refine rr_zld IG LR ht2 hb (x := sgI (X b)) Bb dc_R_take_36 ?_
  have fin : ∀ (x : Int32) (k n : Nat), (x = 0 ∨ x = 1) → kz x (X b).natAbs = -X b → k = 0 → n = 0 → vx_V D vcl A H0 4 G (rH cI cZ q h0 f g s) k n 45 [(0, .ref (q 0)), (1, .int (nI d)), (2, .int (nI a)), (3, .int (nI b))] [.int x, .int (nI b), .int (sgI (X a)), .int (nI a), .int (nI d), .ref (q 0)] := by
    intro x k n hx ex hk hn
    subst hk hn
    refine vx_callV (As := [.int (nI d), .int (nI a), .int (sgI (X a)), .int (nI b), .int x]) (st := []) IG lw_good (cR_added LR ht2 ht3 HP HX hd (by omega) (by omega) Ra Rb (by omega) (by omega) (sgI_01 (X a)) hx) (ro_M LR) rfl wC_R_added wL_R_82 wI_R_added wS_R_added wX_R 5 (by decide +kernel) rfl ⟨Nat.le_of_ble_eq_true rfl, Nat.le_of_ble_eq_true rfl⟩ ⟨(by dsimp only [rm_]; omega), (by dsimp only [rm_]; omega)⟩ rfl (Nat.le_of_ble_eq_true rfl) dc_R_take_45 (fun v h k_ n_ hq => ?_)
    rw [kz_sg, ex] at hq
    obtain ⟨rfl, rfl, rfl, f9, g9, s9, V9, rfl, P9, X9⟩ := hq
    show vx_V _ _ _ _ _ _ _ _ _ 48 [(0, .ref (q 0)), (1, .int (nI d)), (2, .int (nI a)), (3, .int (nI b))] [.int (kpV (X a + -X b))]
    by_cases y : bl (X a + -X b).natAbs ≤ 65536
    · refine vx_topi (y := 1) (kpV_1 y) ?_
      refine vx_if_eq (tgt := 55) IG dc_R_take_48 (by decide) (fun c_ => absurd c_ (by decide)) (fun _ => ?_)
      refine vx_iconst (v := 1) IG dc_R_take_51 (by decide) ?_
      refine vx_goto (tgt := 56) IG dc_R_take_52 (by decide) ?_
      refine vx_ret (some (.int 1)) RG (vx_endi (by first | rfl | decide) dc_R_take_56) rfl ?_
      exact ⟨congrArg (fun x => some (Value.int x)) (kpV_1 y).symm, rfl, rfl, f9, g9, s9, V9, rfl, P9, X9⟩
    · refine vx_topi (y := 0) (kpV_0 y) ?_
      refine vx_if_eq (tgt := 55) IG dc_R_take_48 (by decide) (fun _ => ?_) (fun c_ => absurd rfl c_)
      refine vx_iconst (v := 0) IG dc_R_take_55 (by decide) ?_
      refine vx_ret (some (.int 0)) RG (vx_endi (by first | rfl | decide) dc_R_take_56) rfl ?_
      exact ⟨congrArg (fun x => some (Value.int x)) (kpV_0 y).symm, rfl, rfl, f9, g9, s9, V9, rfl, P9, X9⟩
  by_cases y : sgI (X b) = 0
  · refine vx_if_ne (tgt := 44) IG dc_R_take_37 (by decide) (fun c_ => absurd y c_) (fun _ => ?_)
    refine vx_iconst (v := 1) IG dc_R_take_40 (by decide) ?_
    refine vx_goto (tgt := 45) IG dc_R_take_41 (by decide) ?_
    exact fin 1 _ _ (Or.inr rfl) (kz_flip1 y) rfl rfl
  · refine vx_if_ne (tgt := 44) IG dc_R_take_37 (by decide) (fun _ => ?_) (fun c_ => absurd c_ y)
    refine vx_iconst (v := 0) IG dc_R_take_44 (by decide) ?_
    exact fin 0 _ _ (Or.inl rfl) (kz_flip0 y) rfl rfl
set_option maxRecDepth 100000 in
set_option maxHeartbeats 8000000 in
theorem cR_times (LR : rlay q h0) (ht2 : tys[2]? = some (cZ, .boolean)) (ht3 : tys[3]? = some (cI, .int)) (HP : rpic f g V) (HX : mreg X V s) (r1 r2 r3 : Int32) : vx_M l D vcl tys my_R_times lw_gd (rm_ 3 0 0 75) [.ref (q 0), .int r1, .int r2, .int r3] (rH cI cZ q h0 f g s) (rpub cI cZ q h0 (sp3 0 X (fun d a b => kp X d (X a * X b)) r1 r2 r3).2 (sp3 0 X (fun d a b => kp X d (X a * X b)) r1 r2 r3).1) := by
  refine vx_M.ofV (cc := bc_R_times) (maxL := 4) (ret := (some .boolean)) (own := rR) false rfl (by decide +kernel) wC_R_times (fun q => by cases q) (Nat.le_of_ble_eq_true rfl) (fun A H0 G IG RG => ?_)
  show vx_V _ _ _ _ _ _ _ _ _ 0 [(0, .ref (q 0)), (1, .int r1), (2, .int r2), (3, .int r3)] []
  refine vx_iload_n IG dc_R_times_0 rfl 1 rfl ?_
  refine vx_callS (As := [.int r1]) (st := []) IG lw_good (cR_is _ r1) wC_R_is wL_R_67 wT_R_is wX_R 1 (by decide +kernel) rfl ⟨Nat.le_of_ble_eq_true rfl, Nat.le_of_ble_eq_true rfl⟩ ⟨(by dsimp only [rm_]; omega), (by dsimp only [rm_]; omega)⟩ rfl (Nat.le_of_ble_eq_true rfl) dc_R_times_1 (fun v h k_ n_ hq => ?_)
  obtain ⟨rfl, rfl, rfl, rfl⟩ := hq
  show vx_V _ _ _ _ _ _ _ _ _ 4 [(0, .ref (q 0)), (1, .int r1), (2, .int r2), (3, .int r3)] [.int (if isR r1 then 1 else 0)]
  by_cases z0 : ¬ isR r1
  · refine vx_topi (y := 0) (if_neg z0) ?_
    refine vx_if_eq (tgt := 21) IG dc_R_times_4 (by decide) (fun _ => ?_) (fun c_ => absurd rfl c_)
    refine vx_iconst (v := 0) IG dc_R_times_21 (by decide) ?_
    refine vx_ret (some (.int 0)) RG (vx_endi (by first | rfl | decide) dc_R_times_22) rfl ?_
    rw [sp3_no (fun e => z0 e.1)]
    exact ⟨rfl, rfl, rfl, f, g, s, V, rfl, HP, HX⟩
  replace z0 := Decidable.not_not.mp z0
  refine vx_topi (y := 1) (if_pos z0) ?_
  refine vx_if_eq (tgt := 21) IG dc_R_times_4 (by decide) (fun c_ => absurd c_ (by decide)) (fun _ => ?_)
  refine vx_iload_n IG dc_R_times_7 rfl 2 rfl ?_
  refine vx_callS (As := [.int r2]) (st := []) IG lw_good (cR_is _ r2) wC_R_is wL_R_67 wT_R_is wX_R 1 (by decide +kernel) rfl ⟨Nat.le_of_ble_eq_true rfl, Nat.le_of_ble_eq_true rfl⟩ ⟨(by dsimp only [rm_]; omega), (by dsimp only [rm_]; omega)⟩ rfl (Nat.le_of_ble_eq_true rfl) dc_R_times_8 (fun v h k_ n_ hq => ?_)
  obtain ⟨rfl, rfl, rfl, rfl⟩ := hq
  show vx_V _ _ _ _ _ _ _ _ _ 11 [(0, .ref (q 0)), (1, .int r1), (2, .int r2), (3, .int r3)] [.int (if isR r2 then 1 else 0)]
  by_cases z1 : ¬ isR r2
  · refine vx_topi (y := 0) (if_neg z1) ?_
    refine vx_if_eq (tgt := 21) IG dc_R_times_11 (by decide) (fun _ => ?_) (fun c_ => absurd rfl c_)
    refine vx_iconst (v := 0) IG dc_R_times_21 (by decide) ?_
    refine vx_ret (some (.int 0)) RG (vx_endi (by first | rfl | decide) dc_R_times_22) rfl ?_
    rw [sp3_no (fun e => z1 e.2.1)]
    exact ⟨rfl, rfl, rfl, f, g, s, V, rfl, HP, HX⟩
  replace z1 := Decidable.not_not.mp z1
  refine vx_topi (y := 1) (if_pos z1) ?_
  refine vx_if_eq (tgt := 21) IG dc_R_times_11 (by decide) (fun c_ => absurd c_ (by decide)) (fun _ => ?_)
  refine vx_iload_n IG dc_R_times_14 rfl 3 rfl ?_
  refine vx_callS (As := [.int r3]) (st := []) IG lw_good (cR_is _ r3) wC_R_is wL_R_67 wT_R_is wX_R 1 (by decide +kernel) rfl ⟨Nat.le_of_ble_eq_true rfl, Nat.le_of_ble_eq_true rfl⟩ ⟨(by dsimp only [rm_]; omega), (by dsimp only [rm_]; omega)⟩ rfl (Nat.le_of_ble_eq_true rfl) dc_R_times_15 (fun v h k_ n_ hq => ?_)
  obtain ⟨rfl, rfl, rfl, rfl⟩ := hq
  show vx_V _ _ _ _ _ _ _ _ _ 18 [(0, .ref (q 0)), (1, .int r1), (2, .int r2), (3, .int r3)] [.int (if isR r3 then 1 else 0)]
  by_cases z2 : ¬ isR r3
  · refine vx_topi (y := 0) (if_neg z2) ?_
    refine vx_if_ne (tgt := 23) IG dc_R_times_18 (by decide) (fun c_ => absurd rfl c_) (fun _ => ?_)
    refine vx_iconst (v := 0) IG dc_R_times_21 (by decide) ?_
    refine vx_ret (some (.int 0)) RG (vx_endi (by first | rfl | decide) dc_R_times_22) rfl ?_
    rw [sp3_no (fun e => z2 e.2.2)]
    exact ⟨rfl, rfl, rfl, f, g, s, V, rfl, HP, HX⟩
  replace z2 := Decidable.not_not.mp z2
  refine vx_topi (y := 1) (if_pos z2) ?_
  refine vx_if_ne (tgt := 23) IG dc_R_times_18 (by decide) (fun _ => ?_) (fun c_ => absurd c_ (by decide))
  obtain ⟨d, hd, rfl⟩ := isR_of z0
  obtain ⟨a, ha, rfl⟩ := isR_of z1
  obtain ⟨b, hb, rfl⟩ := isR_of z2
  have Rd := reg_rv HP HX hd
  have Bd := (HX d hd).2
  have Ld := reg_cap HP HX hd
  have Ra := reg_rv HP HX ha
  have Ba := (HX a ha).2
  have La := reg_cap HP HX ha
  have Rb := reg_rv HP HX hb
  have Bb := (HX b hb).2
  have Lb := reg_cap HP HX hb
  rw [sp3_ok hd ha hb] at RG
  refine vx_aload_n IG dc_R_times_23 rfl 0 rfl ?_
  refine vx_bipush (v := 16) IG dc_R_times_24 (by decide) ?_
  refine vx_iload_n IG dc_R_times_26 rfl 2 rfl ?_
  refine vx_iload_n IG dc_R_times_27 rfl 3 rfl ?_
  refine vx_callV (As := [.int 16, .int (nI a), .int (nI b)]) (st := []) IG lw_good (cR_product LR ht2 ht3 Ra Rb (d := 16) (by decide) (by omega) (by omega) (by omega) (by omega) (by rw [rcap_hi (by decide)]; omega)) (ro_M LR) rfl wC_R_product wL_R_86 wI_R_product wS_R_product wX_R 3 (by decide +kernel) rfl ⟨Nat.le_of_ble_eq_true rfl, Nat.le_of_ble_eq_true rfl⟩ ⟨(by dsimp only [rm_]; omega), (by dsimp only [rm_]; omega)⟩ rfl (Nat.le_of_ble_eq_true rfl) dc_R_times_28 (fun v h k_ n_ hq => ?_)
  obtain ⟨rfl, rfl, rfl, f1, g1, rfl, S1⟩ := hq
  obtain ⟨HP, HX⟩ := rp_up HP HX (show 16 ≤ 16 by decide) (show 16 < 24 by decide) S1
  show vx_V _ _ _ _ _ _ _ _ _ 31 [(0, .ref (q 0)), (1, .int (nI d)), (2, .int (nI a)), (3, .int (nI b))] []
  refine vx_aload_n IG dc_R_times_31 rfl 0 rfl ?_
  refine vx_iload_n IG dc_R_times_32 rfl 1 rfl ?_
  refine vx_bipush (v := 16) IG dc_R_times_33 (by decide) ?_
  refine vx_aload_n IG dc_R_times_35 rfl 0 rfl ?_
  refine vx_get IG (ro_M LR) rfl 2 (by decide) inR wF_R_17 rfl rfl dc_R_times_36 ?_
  refine vx_iload_n IG dc_R_times_39 rfl 2 rfl ?_
  refine rr_zld IG LR ht2 ha (x := sgI (X a)) Ba dc_R_times_40 ?_
  refine vx_aload_n IG dc_R_times_41 rfl 0 rfl ?_
  refine vx_get IG (ro_M LR) rfl 2 (by decide) inR wF_R_17 rfl rfl dc_R_times_42 ?_
  refine vx_iload_n IG dc_R_times_45 rfl 3 rfl ?_
  refine rr_zld IG LR ht2 hb (x := sgI (X b)) Bb dc_R_times_46 ?_
  by_cases y : sgI (X a) = sgI (X b)
  · refine vx_icmp_eq (tgt := 54) IG dc_R_times_47 (by decide) (fun _ => ?_) (fun c_ => absurd y c_)
    refine vx_iconst (v := 0) IG dc_R_times_54 (by decide) ?_
    refine vx_callV (As := [.int (nI d), .int 16, .int 0]) (st := []) IG lw_good (cR_st LR ht2 ht3 HP HX hd (a := 16) (z := X a * X b) (by decide) (by decide) (Or.inl rfl) rfl (kz_mul0 y)) (ro_M LR) rfl wC_R_store wL_R_75 wI_R_store wS_R_store wX_R 3 (by decide +kernel) rfl ⟨Nat.le_of_ble_eq_true rfl, Nat.le_of_ble_eq_true rfl⟩ ⟨(by dsimp only [rm_]; omega), (by dsimp only [rm_]; omega)⟩ rfl (Nat.le_of_ble_eq_true rfl) dc_R_times_55 (fun v h k_ n_ hq => ?_)
    obtain ⟨rfl, rfl, rfl, f9, g9, s9, V9, rfl, P9, X9⟩ := hq
    show vx_V _ _ _ _ _ _ _ _ _ 58 [(0, .ref (q 0)), (1, .int (nI d)), (2, .int (nI a)), (3, .int (nI b))] [.int (kpV (X a * X b))]
    refine vx_ret (some (.int (kpV (X a * X b)))) RG (vx_endi (by unfold kpV; split <;> rfl) dc_R_times_58) rfl ?_
    exact ⟨rfl, rfl, rfl, f9, g9, s9, V9, rfl, P9, X9⟩
  · refine vx_icmp_eq (tgt := 54) IG dc_R_times_47 (by decide) (fun c_ => absurd c_ y) (fun _ => ?_)
    refine vx_iconst (v := 1) IG dc_R_times_50 (by decide) ?_
    refine vx_goto (tgt := 55) IG dc_R_times_51 (by decide) ?_
    refine vx_callV (As := [.int (nI d), .int 16, .int 1]) (st := []) IG lw_good (cR_st LR ht2 ht3 HP HX hd (a := 16) (z := X a * X b) (by decide) (by decide) (Or.inr rfl) rfl (kz_mul1 y)) (ro_M LR) rfl wC_R_store wL_R_75 wI_R_store wS_R_store wX_R 3 (by decide +kernel) rfl ⟨Nat.le_of_ble_eq_true rfl, Nat.le_of_ble_eq_true rfl⟩ ⟨(by dsimp only [rm_]; omega), (by dsimp only [rm_]; omega)⟩ rfl (Nat.le_of_ble_eq_true rfl) dc_R_times_55 (fun v h k_ n_ hq => ?_)
    obtain ⟨rfl, rfl, rfl, f9, g9, s9, V9, rfl, P9, X9⟩ := hq
    show vx_V _ _ _ _ _ _ _ _ _ 58 [(0, .ref (q 0)), (1, .int (nI d)), (2, .int (nI a)), (3, .int (nI b))] [.int (kpV (X a * X b))]
    refine vx_ret (some (.int (kpV (X a * X b)))) RG (vx_endi (by unfold kpV; split <;> rfl) dc_R_times_58) rfl ?_
    exact ⟨rfl, rfl, rfl, f9, g9, s9, V9, rfl, P9, X9⟩
set_option maxRecDepth 100000 in
set_option maxHeartbeats 8000000 in
theorem cR_compare (LR : rlay q h0) (ht2 : tys[2]? = some (cZ, .boolean)) (ht3 : tys[3]? = some (cI, .int)) (HP : rpic f g V) (HX : mreg X V s) (r1 r2 : Int32) : vx_M l D vcl tys my_R_compare lw_gd (rm_ 2 0 0 45) [.ref (q 0), .int r1, .int r2] (rH cI cZ q h0 f g s) (rpub cI cZ q h0 (sp2 (-2) X (fun a b => (cmpZ (X a) (X b), X)) r1 r2).2 (sp2 (-2) X (fun a b => (cmpZ (X a) (X b), X)) r1 r2).1) := by
  refine vx_M.ofV (cc := bc_R_compare) (maxL := 3) (ret := (some .int)) (own := rR) false rfl (by decide +kernel) wC_R_compare (fun q => by cases q) (Nat.le_of_ble_eq_true rfl) (fun A H0 G IG RG => ?_)
  show vx_V _ _ _ _ _ _ _ _ _ 0 [(0, .ref (q 0)), (1, .int r1), (2, .int r2)] []
  refine vx_iload_n IG dc_R_compare_0 rfl 1 rfl ?_
  refine vx_callS (As := [.int r1]) (st := []) IG lw_good (cR_is _ r1) wC_R_is wL_R_67 wT_R_is wX_R 1 (by decide +kernel) rfl ⟨Nat.le_of_ble_eq_true rfl, Nat.le_of_ble_eq_true rfl⟩ ⟨(by dsimp only [rm_]; omega), (by dsimp only [rm_]; omega)⟩ rfl (Nat.le_of_ble_eq_true rfl) dc_R_compare_1 (fun v h k_ n_ hq => ?_)
  obtain ⟨rfl, rfl, rfl, rfl⟩ := hq
  show vx_V _ _ _ _ _ _ _ _ _ 4 [(0, .ref (q 0)), (1, .int r1), (2, .int r2)] [.int (if isR r1 then 1 else 0)]
  by_cases z0 : ¬ isR r1
  · refine vx_topi (y := 0) (if_neg z0) ?_
    refine vx_if_eq (tgt := 14) IG dc_R_compare_4 (by decide) (fun _ => ?_) (fun c_ => absurd rfl c_)
    refine vx_bipush (v := -2) IG dc_R_compare_14 (by decide) ?_
    refine vx_ret (some (.int (-2))) RG (vx_endi (by first | rfl | decide) dc_R_compare_16) rfl ?_
    rw [sp2_no (fun e => z0 e.1)]
    exact ⟨rfl, rfl, rfl, f, g, s, V, rfl, HP, HX⟩
  replace z0 := Decidable.not_not.mp z0
  refine vx_topi (y := 1) (if_pos z0) ?_
  refine vx_if_eq (tgt := 14) IG dc_R_compare_4 (by decide) (fun c_ => absurd c_ (by decide)) (fun _ => ?_)
  refine vx_iload_n IG dc_R_compare_7 rfl 2 rfl ?_
  refine vx_callS (As := [.int r2]) (st := []) IG lw_good (cR_is _ r2) wC_R_is wL_R_67 wT_R_is wX_R 1 (by decide +kernel) rfl ⟨Nat.le_of_ble_eq_true rfl, Nat.le_of_ble_eq_true rfl⟩ ⟨(by dsimp only [rm_]; omega), (by dsimp only [rm_]; omega)⟩ rfl (Nat.le_of_ble_eq_true rfl) dc_R_compare_8 (fun v h k_ n_ hq => ?_)
  obtain ⟨rfl, rfl, rfl, rfl⟩ := hq
  show vx_V _ _ _ _ _ _ _ _ _ 11 [(0, .ref (q 0)), (1, .int r1), (2, .int r2)] [.int (if isR r2 then 1 else 0)]
  by_cases z1 : ¬ isR r2
  · refine vx_topi (y := 0) (if_neg z1) ?_
    refine vx_if_ne (tgt := 17) IG dc_R_compare_11 (by decide) (fun c_ => absurd rfl c_) (fun _ => ?_)
    refine vx_bipush (v := -2) IG dc_R_compare_14 (by decide) ?_
    refine vx_ret (some (.int (-2))) RG (vx_endi (by first | rfl | decide) dc_R_compare_16) rfl ?_
    rw [sp2_no (fun e => z1 e.2)]
    exact ⟨rfl, rfl, rfl, f, g, s, V, rfl, HP, HX⟩
  replace z1 := Decidable.not_not.mp z1
  refine vx_topi (y := 1) (if_pos z1) ?_
  refine vx_if_ne (tgt := 17) IG dc_R_compare_11 (by decide) (fun _ => ?_) (fun c_ => absurd c_ (by decide))
  obtain ⟨a, ha, rfl⟩ := isR_of z0
  obtain ⟨b, hb, rfl⟩ := isR_of z1
  have Ra := reg_rv HP HX ha
  have Ba := (HX a ha).2
  have La := reg_cap HP HX ha
  have Rb := reg_rv HP HX hb
  have Bb := (HX b hb).2
  have Lb := reg_cap HP HX hb
  rw [sp2_ok ha hb] at RG
  refine vx_aload_n IG dc_R_compare_17 rfl 0 rfl ?_
  refine vx_get IG (ro_M LR) rfl 2 (by decide) inR wF_R_17 rfl rfl dc_R_compare_18 ?_
  refine vx_iload_n IG dc_R_compare_21 rfl 1 rfl ?_
  refine rr_zld IG LR ht2 ha (x := sgI (X a)) Ba dc_R_compare_22 ?_
  refine vx_aload_n IG dc_R_compare_23 rfl 0 rfl ?_
  refine vx_get IG (ro_M LR) rfl 2 (by decide) inR wF_R_17 rfl rfl dc_R_compare_24 ?_
  refine vx_iload_n IG dc_R_compare_27 rfl 2 rfl ?_
  refine rr_zld IG LR ht2 hb (x := sgI (X b)) Bb dc_R_compare_28 ?_
  by_cases y : sgI (X a) = sgI (X b)
  · refine vx_icmp_eq (tgt := 47) IG dc_R_compare_29 (by decide) (fun _ => ?_) (fun c_ => absurd y c_)
    refine vx_aload_n IG dc_R_compare_47 rfl 0 rfl ?_
    refine vx_get IG (ro_M LR) rfl 2 (by decide) inR wF_R_17 rfl rfl dc_R_compare_48 ?_
    refine vx_iload_n IG dc_R_compare_51 rfl 1 rfl ?_
    refine rr_zld IG LR ht2 ha (x := sgI (X a)) Ba dc_R_compare_52 ?_
    by_cases x : sgI (X a) = 0
    · refine vx_if_eq (tgt := 65) IG dc_R_compare_53 (by decide) (fun _ => ?_) (fun c_ => absurd x c_)
      refine vx_aload_n IG dc_R_compare_65 rfl 0 rfl ?_
      refine vx_iload_n IG dc_R_compare_66 rfl 1 rfl ?_
      refine vx_iload_n IG dc_R_compare_67 rfl 2 rfl ?_
      refine vx_callV (As := [.int (nI a), .int (nI b)]) (st := []) IG lw_good (cR_compareRows LR ht2 ht3 Ra Rb (by omega) (by omega)) (ro_M LR) rfl wC_R_compareRows wL_R_54 wI_R_compareRows wS_R_compareRows wX_R 2 (by decide +kernel) rfl ⟨Nat.le_of_ble_eq_true rfl, Nat.le_of_ble_eq_true rfl⟩ ⟨(by dsimp only [rm_]; omega), (by dsimp only [rm_]; omega)⟩ rfl (Nat.le_of_ble_eq_true rfl) dc_R_compare_68 (fun v h k_ n_ hq => ?_)
      obtain ⟨rfl, rfl, rfl, rfl⟩ := hq
      show vx_V _ _ _ _ _ _ _ _ _ 71 [(0, .ref (q 0)), (1, .int (nI a)), (2, .int (nI b))] [.int (cmpI (X a).natAbs (X b).natAbs)]
      refine vx_ret (some (.int (cmpI (X a).natAbs (X b).natAbs))) RG (vx_endi (by first | rfl | decide) dc_R_compare_71) rfl ?_
      exact ⟨by rw [cmpZ_pos x (y ▸ x)], rfl, rfl, f, g, s, V, rfl, HP, HX⟩
    · refine vx_if_eq (tgt := 65) IG dc_R_compare_53 (by decide) (fun c_ => absurd c_ x) (fun _ => ?_)
      refine vx_aload_n IG dc_R_compare_56 rfl 0 rfl ?_
      refine vx_iload_n IG dc_R_compare_57 rfl 2 rfl ?_
      refine vx_iload_n IG dc_R_compare_58 rfl 1 rfl ?_
      refine vx_callV (As := [.int (nI b), .int (nI a)]) (st := []) IG lw_good (cR_compareRows LR ht2 ht3 Rb Ra (by omega) (by omega)) (ro_M LR) rfl wC_R_compareRows wL_R_54 wI_R_compareRows wS_R_compareRows wX_R 2 (by decide +kernel) rfl ⟨Nat.le_of_ble_eq_true rfl, Nat.le_of_ble_eq_true rfl⟩ ⟨(by dsimp only [rm_]; omega), (by dsimp only [rm_]; omega)⟩ rfl (Nat.le_of_ble_eq_true rfl) dc_R_compare_59 (fun v h k_ n_ hq => ?_)
      obtain ⟨rfl, rfl, rfl, rfl⟩ := hq
      show vx_V _ _ _ _ _ _ _ _ _ 62 [(0, .ref (q 0)), (1, .int (nI a)), (2, .int (nI b))] [.int (cmpI (X b).natAbs (X a).natAbs)]
      refine vx_goto (tgt := 71) IG dc_R_compare_62 (by decide) ?_
      refine vx_ret (some (.int (cmpI (X b).natAbs (X a).natAbs))) RG (vx_endi (by first | rfl | decide) dc_R_compare_71) rfl ?_
      exact ⟨by rw [cmpZ_neg2 x (y ▸ x)], rfl, rfl, f, g, s, V, rfl, HP, HX⟩
  · refine vx_icmp_eq (tgt := 47) IG dc_R_compare_29 (by decide) (fun c_ => absurd c_ y) (fun _ => ?_)
    refine vx_aload_n IG dc_R_compare_32 rfl 0 rfl ?_
    refine vx_get IG (ro_M LR) rfl 2 (by decide) inR wF_R_17 rfl rfl dc_R_compare_33 ?_
    refine vx_iload_n IG dc_R_compare_36 rfl 1 rfl ?_
    refine rr_zld IG LR ht2 ha (x := sgI (X a)) Ba dc_R_compare_37 ?_
    by_cases x : sgI (X a) = 0
    · refine vx_if_eq (tgt := 45) IG dc_R_compare_38 (by decide) (fun _ => ?_) (fun c_ => absurd x c_)
      refine vx_iconst (v := 1) IG dc_R_compare_45 (by decide) ?_
      refine vx_ret (some (.int 1)) RG (vx_endi (by first | rfl | decide) dc_R_compare_46) rfl ?_
      exact ⟨by rw [cmpZ_pn x y], rfl, rfl, f, g, s, V, rfl, HP, HX⟩
    · refine vx_if_eq (tgt := 45) IG dc_R_compare_38 (by decide) (fun c_ => absurd c_ x) (fun _ => ?_)
      refine vx_iconst (v := -1) IG dc_R_compare_41 (by decide) ?_
      refine vx_goto (tgt := 46) IG dc_R_compare_42 (by decide) ?_
      refine vx_ret (some (.int (-1))) RG (vx_endi (by first | rfl | decide) dc_R_compare_46) rfl ?_
      exact ⟨by rw [cmpZ_np x y], rfl, rfl, f, g, s, V, rfl, HP, HX⟩
set_option maxRecDepth 100000 in
set_option maxHeartbeats 8000000 in
theorem cR_sign (LR : rlay q h0) (ht2 : tys[2]? = some (cZ, .boolean)) (ht3 : tys[3]? = some (cI, .int)) (HP : rpic f g V) (HX : mreg X V s) (r1 : Int32) : vx_M l D vcl tys my_R_sign lw_gd (rm_ 1 0 0 20) [.ref (q 0), .int r1] (rH cI cZ q h0 f g s) (rpub cI cZ q h0 (sp1 (-2) X (fun d => (if X d = 0 then 0 else if X d < 0 then -1 else 1, X)) r1).2 (sp1 (-2) X (fun d => (if X d = 0 then 0 else if X d < 0 then -1 else 1, X)) r1).1) := by
  refine vx_M.ofV (cc := bc_R_sign) (maxL := 2) (ret := (some .int)) (own := rR) false rfl (by decide +kernel) wC_R_sign (fun q => by cases q) (Nat.le_of_ble_eq_true rfl) (fun A H0 G IG RG => ?_)
  show vx_V _ _ _ _ _ _ _ _ _ 0 [(0, .ref (q 0)), (1, .int r1)] []
  refine vx_iload_n IG dc_R_sign_0 rfl 1 rfl ?_
  refine vx_callS (As := [.int r1]) (st := []) IG lw_good (cR_is _ r1) wC_R_is wL_R_67 wT_R_is wX_R 1 (by decide +kernel) rfl ⟨Nat.le_of_ble_eq_true rfl, Nat.le_of_ble_eq_true rfl⟩ ⟨(by dsimp only [rm_]; omega), (by dsimp only [rm_]; omega)⟩ rfl (Nat.le_of_ble_eq_true rfl) dc_R_sign_1 (fun v h k_ n_ hq => ?_)
  obtain ⟨rfl, rfl, rfl, rfl⟩ := hq
  show vx_V _ _ _ _ _ _ _ _ _ 4 [(0, .ref (q 0)), (1, .int r1)] [.int (if isR r1 then 1 else 0)]
  by_cases z0 : ¬ isR r1
  · refine vx_topi (y := 0) (if_neg z0) ?_
    refine vx_if_ne (tgt := 12) IG dc_R_sign_4 (by decide) (fun c_ => absurd rfl c_) (fun _ => ?_)
    refine vx_bipush (v := -2) IG dc_R_sign_7 (by decide) ?_
    refine vx_goto (tgt := 39) IG dc_R_sign_9 (by decide) ?_
    refine vx_ret (some (.int (-2))) RG (vx_endi (by first | rfl | decide) dc_R_sign_39) rfl ?_
    rw [sp1_no z0]
    exact ⟨rfl, rfl, rfl, f, g, s, V, rfl, HP, HX⟩
  replace z0 := Decidable.not_not.mp z0
  refine vx_topi (y := 1) (if_pos z0) ?_
  refine vx_if_ne (tgt := 12) IG dc_R_sign_4 (by decide) (fun _ => ?_) (fun c_ => absurd c_ (by decide))
  obtain ⟨d, hd, rfl⟩ := isR_of z0
  have Rd := reg_rv HP HX hd
  have Bd := (HX d hd).2
  have Ld := reg_cap HP HX hd
  rw [sp1_ok hd] at RG
  refine vx_aload_n IG dc_R_sign_12 rfl 0 rfl ?_
  refine vx_get IG (ro_M LR) rfl 2 (by decide) inR wF_R_17 rfl rfl dc_R_sign_13 ?_
  refine vx_iload_n IG dc_R_sign_16 rfl 1 rfl ?_
  refine rr_zld IG LR ht2 hd (x := sgI (X d)) Bd dc_R_sign_17 ?_
  by_cases x : X d < 0
  · refine vx_if_eq (tgt := 25) IG dc_R_sign_18 (by decide) (fun c_ => absurd c_ (by rw [sgI_neg x]; decide)) (fun _ => ?_)
    refine vx_iconst (v := -1) IG dc_R_sign_21 (by decide) ?_
    refine vx_goto (tgt := 39) IG dc_R_sign_22 (by decide) ?_
    refine vx_ret (some (.int (-1))) RG (vx_endi (by first | rfl | decide) dc_R_sign_39) rfl ?_
    exact ⟨by rw [if_neg (by omega), if_pos x], rfl, rfl, f, g, s, V, rfl, HP, HX⟩
  · refine vx_if_eq (tgt := 25) IG dc_R_sign_18 (by decide) (fun _ => ?_) (fun c_ => absurd (sgI_pos x) c_)
    refine vx_aload_n IG dc_R_sign_25 rfl 0 rfl ?_
    refine vx_get IG (ro_M LR) rfl 1 (by decide) inR wF_R_14 rfl rfl dc_R_sign_26 ?_
    refine vx_iload_n IG dc_R_sign_29 rfl 1 rfl ?_
    refine rr_nld IG LR ht3 (show d < 24 by omega) (x := nI (nd 65536 (X d).natAbs)) Rd.1 dc_R_sign_30 ?_
    by_cases y : X d = 0
    · refine vx_if_le (tgt := 38) IG dc_R_sign_31 (by decide) (fun _ => ?_) (fun c_ => absurd (by rw [y]; decide) c_)
      refine vx_iconst (v := 0) IG dc_R_sign_38 (by decide) ?_
      refine vx_ret (some (.int 0)) RG (vx_endi (by first | rfl | decide) dc_R_sign_39) rfl ?_
      exact ⟨by rw [if_pos y], rfl, rfl, f, g, s, V, rfl, HP, HX⟩
    · have hn0 : 0 < nd 65536 (X d).natAbs := Nat.pos_of_ne_zero (fun u => by have := (nd_eq_zero b16).mp u; omega)
      refine vx_if_le (tgt := 38) IG dc_R_sign_31 (by decide) (fun c_ => absurd c_ (fun u => absurd (nI_lt (a := 0) (b := nd 65536 (X d).natAbs) hn0 (by omega)) (Int32.not_lt.mpr u))) (fun _ => ?_)
      refine vx_iconst (v := 1) IG dc_R_sign_34 (by decide) ?_
      refine vx_goto (tgt := 39) IG dc_R_sign_35 (by decide) ?_
      refine vx_ret (some (.int 1)) RG (vx_endi (by first | rfl | decide) dc_R_sign_39) rfl ?_
      exact ⟨by rw [if_neg y, if_neg x], rfl, rfl, f, g, s, V, rfl, HP, HX⟩
end
