/-! the reference: lowest, common, divide, power, shift, spread, push -/
theorem low_bit {N : Nat} (h : 0 < N) : ∃ t, t < bl N ∧ N / 2 ^ t % 2 = 1 ∧ N % 2 ^ t = 0 ∧ ∀ j, j < t → N / 2 ^ j % 2 = 0 := by
  have hp := bl_pos h
  obtain ⟨t, h1, h2⟩ := pk_least (fun k => N / 2 ^ k % 2 = 1) ⟨bl N - 1, by show N / 2 ^ (bl N - 1) % 2 = 1; rw [pm_top h]⟩
  have h3 : ∀ j, j < t → N / 2 ^ j % 2 = 0 := fun j hj => by have := h2 j hj; omega
  refine ⟨t, ?_, h1, dg_md0 (b := 2) h3, h3⟩
  rcases Nat.lt_or_ge t (bl N) with y | y
  · exact y
  · have h4 : N / 2 ^ t = 0 := Nat.div_eq_of_lt (Nat.lt_of_lt_of_le (lt_bl N) (Nat.pow_le_pow_right (by decide) y))
    rw [h4] at h1
    exact absurd h1 (by decide)
theorem ug_s {f0 f2 : Nat → Int32} {e : Nat → Nat} {d c : Nat} (hc : c < rcap d) (h1 : ∀ i, ¬ (rt d ≤ i ∧ i < rt d + rcap d) → f2 i = f0 i) (h2 : ∀ k, k < c → f2 (rt d + k) = nI (e k)) : (∀ i, ¬ (rt d ≤ i ∧ i < rt d + rcap d) → upd f2 (rt d + c) (nI (e c)) i = f0 i) ∧ ∀ k, k < c + 1 → upd f2 (rt d + c) (nI (e c)) (rt d + k) = nI (e k) := by
  refine ⟨fun i hi => ?_, fun k hk => ?_⟩
  · rw [← h1 i hi]
    exact if_neg (fun z => hi (by omega))
  · show (if _ then _ else _) = _
    by_cases z : k = c
    · rw [if_pos (by omega), z]
    · rw [if_neg (by omega)]
      exact h2 k (by omega)
section
variable {l : Launch} {D : va_G} {tys : List (ClassId × FieldType)} {cI cZ : ClassId} {q : Nat → Nat} {h0 : vx_h} {f g s f' g' : Nat → Int32} {V : Nat → Nat} {X : Nat → Int} {a b d r u N M sz U W : Nat} {w w2 : Int32} {z : Int}
set_option maxRecDepth 100000 in
set_option maxHeartbeats 8000000 in
theorem cR_lowest (LR : rlay q h0) (ht2 : tys[2]? = some (cZ, .boolean)) (ht3 : tys[3]? = some (cI, .int)) (HP : rpic f g V) (HX : mreg X V s) (r1 : Int32) : vx_M l D vcl tys my_R_lowest lw_gd (rm_ 3 0 0 64) [.ref (q 0), .int r1] (rH cI cZ q h0 f g s) (rpub cI cZ q h0 (sp1 (-1) X (fun d => (if X d = 0 then -1 else nI (tz (X d).natAbs), X)) r1).2 (sp1 (-1) X (fun d => (if X d = 0 then -1 else nI (tz (X d).natAbs), X)) r1).1) := by
  refine vx_M.ofV (cc := bc_R_lowest) (maxL := 3) (ret := (some .int)) (own := rR) false rfl (by decide +kernel) wC_R_lowest (fun q => by cases q) (Nat.le_of_ble_eq_true rfl) (fun A H0 G IG RG => ?_)
  show vx_V _ _ _ _ _ _ _ _ _ 0 [(0, .ref (q 0)), (1, .int r1)] []
  refine vx_iload_n IG dc_R_lowest_0 rfl 1 rfl ?_
  refine vx_callS (As := [.int r1]) (st := []) IG lw_good (cR_is _ r1) wC_R_is wL_R_67 wT_R_is wX_R 1 (by decide +kernel) rfl ⟨Nat.le_of_ble_eq_true rfl, Nat.le_of_ble_eq_true rfl⟩ ⟨(by dsimp only [rm_]; omega), (by dsimp only [rm_]; omega)⟩ rfl (Nat.le_of_ble_eq_true rfl) dc_R_lowest_1 (fun v h k_ n_ hq => ?_)
  obtain ⟨rfl, rfl, rfl, rfl⟩ := hq
  show vx_V _ _ _ _ _ _ _ _ _ 4 [(0, .ref (q 0)), (1, .int r1)] [.int (if isR r1 then 1 else 0)]
  by_cases z0 : ¬ isR r1
  · refine vx_topi (y := 0) (if_neg z0) ?_
    refine vx_if_eq (tgt := 16) IG dc_R_lowest_4 (by decide) (fun _ => ?_) (fun c_ => absurd rfl c_)
    refine vx_iconst (v := -1) IG dc_R_lowest_16 (by decide) ?_
    refine vx_ret (some (.int (-1))) RG (vx_endi (by first | rfl | decide) dc_R_lowest_17) rfl ?_
    rw [sp1_no z0]
    exact ⟨rfl, rfl, rfl, f, g, s, V, rfl, HP, HX⟩
  replace z0 := Decidable.not_not.mp z0
  refine vx_topi (y := 1) (if_pos z0) ?_
  refine vx_if_eq (tgt := 16) IG dc_R_lowest_4 (by decide) (fun c_ => absurd c_ (by decide)) (fun _ => ?_)
  obtain ⟨d, hd, rfl⟩ := isR_of z0
  have Rd := reg_rv HP HX hd
  have Bd := (HX d hd).2
  have Ld := reg_cap HP HX hd
  rw [sp1_ok hd] at RG
  refine vx_aload_n IG dc_R_lowest_7 rfl 0 rfl ?_
  refine vx_get IG (ro_M LR) rfl 1 (by decide) inR wF_R_14 rfl rfl dc_R_lowest_8 ?_
  refine vx_iload_n IG dc_R_lowest_11 rfl 1 rfl ?_
  refine rr_nld IG LR ht3 (show d < 24 by omega) (x := nI (nd 65536 (X d).natAbs)) Rd.1 dc_R_lowest_12 ?_
  by_cases y : X d = 0
  · refine vx_if_ne (tgt := 18) IG dc_R_lowest_13 (by decide) (fun c_ => absurd (by rw [y]; rfl) c_) (fun _ => ?_)
    refine vx_iconst (v := -1) IG dc_R_lowest_16 (by decide) ?_
    refine vx_ret (some (.int (-1))) RG (vx_endi (by first | rfl | decide) dc_R_lowest_17) rfl ?_
    exact ⟨by rw [if_pos y], rfl, rfl, f, g, s, V, rfl, HP, HX⟩
  · have hn0 : nd 65536 (X d).natAbs ≠ 0 := fun u => by have := (nd_eq_zero b16).mp u; omega
    refine vx_if_ne (tgt := 18) IG dc_R_lowest_13 (by decide) (fun _ => ?_) (fun c_ => absurd c_ (nI_ne (by omega) (b := 0) (by decide) hn0))
    rw [if_neg y] at RG
    obtain ⟨t, t1, t2, t3, t4⟩ := low_bit (N := (X d).natAbs) (by omega)
    rw [tz_eq t3 t2] at RG
    have hb := bl_nd (A := (X d).natAbs)
    refine vx_iconst (v := 0) IG dc_R_lowest_18 (by decide) ?_
    refine vx_istore_n (lv' := [(2, .int 0), (0, .ref (q 0)), (1, .int (nI d))]) IG dc_R_lowest_19 rfl (by decide) rfl ?_
    have loop : ∀ (j c k n : Nat), c + j = t → k = 0 → n = 0 → vx_V D vcl A H0 3 G (rH cI cZ q h0 f g s) k n 20 [(2, .int (nI c)), (0, .ref (q 0)), (1, .int (nI d))] [] := by
      intro j
      induction j with
      | zero =>
        intro c k n hc hk hn
        subst hk hn
        obtain rfl : c = t := by omega
        refine vx_aload_n IG dc_R_lowest_20 rfl 1 rfl ?_
        refine vx_iload_n IG dc_R_lowest_21 rfl 2 rfl ?_
        refine vx_iload_n IG dc_R_lowest_22 rfl 0 rfl ?_
        refine vx_callV (As := [.int (nI d), .int (nI c)]) (st := []) IG lw_good (cR_bitOf LR ht2 ht3 Rd (by omega) (i := c) (by omega)) (ro_M LR) rfl wC_R_bitOf wL_R_48 wI_R_bitOf wS_R_bitOf wX_R 2 (by decide +kernel) rfl ⟨Nat.le_of_ble_eq_true rfl, Nat.le_of_ble_eq_true rfl⟩ ⟨(by dsimp only [rm_]; omega), (by dsimp only [rm_]; omega)⟩ rfl (Nat.le_of_ble_eq_true rfl) dc_R_lowest_23 (fun v h k_ n_ hq => ?_)
        obtain ⟨rfl, rfl, rfl, rfl⟩ := hq
        rw [t2]
        show vx_V _ _ _ _ _ _ _ _ _ 26 [(2, .int (nI c)), (0, .ref (q 0)), (1, .int (nI d))] [.int (nI 1)]
        refine vx_if_ne (tgt := 35) IG dc_R_lowest_26 (by decide) (fun _ => ?_) (fun c_ => absurd c_ (by decide))
        refine vx_iload_n IG dc_R_lowest_35 rfl 0 rfl ?_
        refine vx_ret (some (.int (nI c))) RG (vx_endi (by first | rfl | decide) dc_R_lowest_36) rfl ?_
        exact ⟨rfl, rfl, rfl, f, g, s, V, rfl, HP, HX⟩
      | succ j ih =>
        intro c k n hc hk hn
        subst hk hn
        refine vx_aload_n IG dc_R_lowest_20 rfl 1 rfl ?_
        refine vx_iload_n IG dc_R_lowest_21 rfl 2 rfl ?_
        refine vx_iload_n IG dc_R_lowest_22 rfl 0 rfl ?_
        refine vx_callV (As := [.int (nI d), .int (nI c)]) (st := []) IG lw_good (cR_bitOf LR ht2 ht3 Rd (by omega) (i := c) (by omega)) (ro_M LR) rfl wC_R_bitOf wL_R_48 wI_R_bitOf wS_R_bitOf wX_R 2 (by decide +kernel) rfl ⟨Nat.le_of_ble_eq_true rfl, Nat.le_of_ble_eq_true rfl⟩ ⟨(by dsimp only [rm_]; omega), (by dsimp only [rm_]; omega)⟩ rfl (Nat.le_of_ble_eq_true rfl) dc_R_lowest_23 (fun v h k_ n_ hq => ?_)
        obtain ⟨rfl, rfl, rfl, rfl⟩ := hq
        rw [t4 c (by omega)]
        show vx_V _ _ _ _ _ _ _ _ _ 26 [(2, .int (nI c)), (0, .ref (q 0)), (1, .int (nI d))] [.int (nI 0)]
        refine vx_if_ne (tgt := 35) IG dc_R_lowest_26 (by decide) (fun c_ => absurd rfl c_) (fun _ => ?_)
        refine vx_iinc (q := 0) (v := nI (c + 1)) (lv' := [(2, .int (nI (c + 1))), (0, .ref (q 0)), (1, .int (nI d))]) IG dc_R_lowest_29 rfl (nI_1 c) (by decide) rfl ?_
        refine vx_goto (tgt := 20) IG dc_R_lowest_32 (by decide) ?_
        exact ih (c + 1) _ _ (by omega) rfl rfl
    exact loop t 0 _ _ (by omega) rfl rfl
set_option maxRecDepth 100000 in
set_option maxHeartbeats 8000000 in
theorem cR_common (LR : rlay q h0) (ht2 : tys[2]? = some (cZ, .boolean)) (ht3 : tys[3]? = some (cI, .int)) (HP : rpic f g V) (HX : mreg X V s) (r1 r2 r3 : Int32) : vx_M l D vcl tys my_R_common lw_gd (rm_ 4 0 0 98) [.ref (q 0), .int r1, .int r2, .int r3] (rH cI cZ q h0 f g s) (rpub cI cZ q h0 (sp3 0 X (fun d a b => kp X d (Nat.gcd (X a).natAbs (X b).natAbs : Nat)) r1 r2 r3).2 (sp3 0 X (fun d a b => kp X d (Nat.gcd (X a).natAbs (X b).natAbs : Nat)) r1 r2 r3).1) := by
  refine vx_M.ofV (cc := bc_R_common) (maxL := 4) (ret := (some .boolean)) (own := rR) false rfl (by decide +kernel) wC_R_common (fun q => by cases q) (Nat.le_of_ble_eq_true rfl) (fun A H0 G IG RG => ?_)
  show vx_V _ _ _ _ _ _ _ _ _ 0 [(0, .ref (q 0)), (1, .int r1), (2, .int r2), (3, .int r3)] []
  refine vx_iload_n IG dc_R_common_0 rfl 1 rfl ?_
  refine vx_callS (As := [.int r1]) (st := []) IG lw_good (cR_is _ r1) wC_R_is wL_R_67 wT_R_is wX_R 1 (by decide +kernel) rfl ⟨Nat.le_of_ble_eq_true rfl, Nat.le_of_ble_eq_true rfl⟩ ⟨(by dsimp only [rm_]; omega), (by dsimp only [rm_]; omega)⟩ rfl (Nat.le_of_ble_eq_true rfl) dc_R_common_1 (fun v h k_ n_ hq => ?_)
  obtain ⟨rfl, rfl, rfl, rfl⟩ := hq
  show vx_V _ _ _ _ _ _ _ _ _ 4 [(0, .ref (q 0)), (1, .int r1), (2, .int r2), (3, .int r3)] [.int (if isR r1 then 1 else 0)]
  by_cases z0 : ¬ isR r1
  · refine vx_topi (y := 0) (if_neg z0) ?_
    refine vx_if_eq (tgt := 21) IG dc_R_common_4 (by decide) (fun _ => ?_) (fun c_ => absurd rfl c_)
    refine vx_iconst (v := 0) IG dc_R_common_21 (by decide) ?_
    refine vx_ret (some (.int 0)) RG (vx_endi (by first | rfl | decide) dc_R_common_22) rfl ?_
    rw [sp3_no (fun e => z0 e.1)]
    exact ⟨rfl, rfl, rfl, f, g, s, V, rfl, HP, HX⟩
  replace z0 := Decidable.not_not.mp z0
  refine vx_topi (y := 1) (if_pos z0) ?_
  refine vx_if_eq (tgt := 21) IG dc_R_common_4 (by decide) (fun c_ => absurd c_ (by decide)) (fun _ => ?_)
  refine vx_iload_n IG dc_R_common_7 rfl 2 rfl ?_
  refine vx_callS (As := [.int r2]) (st := []) IG lw_good (cR_is _ r2) wC_R_is wL_R_67 wT_R_is wX_R 1 (by decide +kernel) rfl ⟨Nat.le_of_ble_eq_true rfl, Nat.le_of_ble_eq_true rfl⟩ ⟨(by dsimp only [rm_]; omega), (by dsimp only [rm_]; omega)⟩ rfl (Nat.le_of_ble_eq_true rfl) dc_R_common_8 (fun v h k_ n_ hq => ?_)
  obtain ⟨rfl, rfl, rfl, rfl⟩ := hq
  show vx_V _ _ _ _ _ _ _ _ _ 11 [(0, .ref (q 0)), (1, .int r1), (2, .int r2), (3, .int r3)] [.int (if isR r2 then 1 else 0)]
  by_cases z1 : ¬ isR r2
  · refine vx_topi (y := 0) (if_neg z1) ?_
    refine vx_if_eq (tgt := 21) IG dc_R_common_11 (by decide) (fun _ => ?_) (fun c_ => absurd rfl c_)
    refine vx_iconst (v := 0) IG dc_R_common_21 (by decide) ?_
    refine vx_ret (some (.int 0)) RG (vx_endi (by first | rfl | decide) dc_R_common_22) rfl ?_
    rw [sp3_no (fun e => z1 e.2.1)]
    exact ⟨rfl, rfl, rfl, f, g, s, V, rfl, HP, HX⟩
  replace z1 := Decidable.not_not.mp z1
  refine vx_topi (y := 1) (if_pos z1) ?_
  refine vx_if_eq (tgt := 21) IG dc_R_common_11 (by decide) (fun c_ => absurd c_ (by decide)) (fun _ => ?_)
  refine vx_iload_n IG dc_R_common_14 rfl 3 rfl ?_
  refine vx_callS (As := [.int r3]) (st := []) IG lw_good (cR_is _ r3) wC_R_is wL_R_67 wT_R_is wX_R 1 (by decide +kernel) rfl ⟨Nat.le_of_ble_eq_true rfl, Nat.le_of_ble_eq_true rfl⟩ ⟨(by dsimp only [rm_]; omega), (by dsimp only [rm_]; omega)⟩ rfl (Nat.le_of_ble_eq_true rfl) dc_R_common_15 (fun v h k_ n_ hq => ?_)
  obtain ⟨rfl, rfl, rfl, rfl⟩ := hq
  show vx_V _ _ _ _ _ _ _ _ _ 18 [(0, .ref (q 0)), (1, .int r1), (2, .int r2), (3, .int r3)] [.int (if isR r3 then 1 else 0)]
  by_cases z2 : ¬ isR r3
  · refine vx_topi (y := 0) (if_neg z2) ?_
    refine vx_if_ne (tgt := 23) IG dc_R_common_18 (by decide) (fun c_ => absurd rfl c_) (fun _ => ?_)
    refine vx_iconst (v := 0) IG dc_R_common_21 (by decide) ?_
    refine vx_ret (some (.int 0)) RG (vx_endi (by first | rfl | decide) dc_R_common_22) rfl ?_
    rw [sp3_no (fun e => z2 e.2.2)]
    exact ⟨rfl, rfl, rfl, f, g, s, V, rfl, HP, HX⟩
  replace z2 := Decidable.not_not.mp z2
  refine vx_topi (y := 1) (if_pos z2) ?_
  refine vx_if_ne (tgt := 23) IG dc_R_common_18 (by decide) (fun _ => ?_) (fun c_ => absurd c_ (by decide))
  obtain ⟨d, hd, rfl⟩ := isR_of z0
  obtain ⟨a, ha, rfl⟩ := isR_of z1
  obtain ⟨b, hb, rfl⟩ := isR_of z2
  have Rd := reg_rv HP HX hd
  have Bd := (HX d hd).2
  have Ld := reg_cap HP HX hd
  have Ra := reg_rv HP HX ha
  have Ba := (HX a ha).2
  have La := reg_cap HP HX ha
  have Rb := reg_rv HP HX hb
  have Bb := (HX b hb).2
  have Lb := reg_cap HP HX hb
  rw [sp3_ok hd ha hb] at RG
  have c8 : ∀ r, 16 ≤ r → rcap r = 8200 := fun r hr => rcap_hi hr
  obtain ⟨Gc, eG⟩ : ∃ Gc, Gc = Nat.gcd (X a).natAbs (X b).natAbs := ⟨_, rfl⟩
  rw [← eG] at RG
  have loop : ∀ (m x y k n : Nat) (f g : Nat → Int32) (V : Nat → Nat), y ≤ m → rpic f g V → mreg X V s → V 18 = x → V 19 = y → Nat.gcd x y = Gc → nd 65536 x ≤ 4096 → nd 65536 y ≤ 4096 → k = 0 → n = 0 → vx_V D vcl A H0 4 G (rH cI cZ q h0 f g s) k n 37 [(0, .ref (q 0)), (1, .int (nI d)), (2, .int (nI a)), (3, .int (nI b))] [] := by
    intro m
    induction m with
    | zero =>
      intro x y k n f g V hm HP HX h18 h19 hg lx ly hk hn
      subst hk hn
      obtain rfl : y = 0 := by omega
      have R19 := rvN HP (show 19 < 24 by decide) h19
      refine vx_aload_n IG dc_R_common_37 rfl 0 rfl ?_
      refine vx_get IG (ro_M LR) rfl 1 (by decide) inR wF_R_14 rfl rfl dc_R_common_38 ?_
      refine vx_bipush (v := 19) IG dc_R_common_41 (by decide) ?_
      refine rr_nld IG LR ht3 (by decide) (x := nI 0) R19.1 dc_R_common_43 ?_
      refine vx_if_le (tgt := 78) IG dc_R_common_44 (by decide) (fun _ => ?_) (fun c_ => absurd (by decide) c_)
      refine vx_aload_n IG dc_R_common_78 rfl 0 rfl ?_
      refine vx_iload_n IG dc_R_common_79 rfl 1 rfl ?_
      refine vx_bipush (v := 18) IG dc_R_common_80 (by decide) ?_
      refine vx_iconst (v := 0) IG dc_R_common_82 (by decide) ?_
      rw [Nat.gcd_zero_right] at hg
      refine vx_callV (As := [.int (nI d), .int 18, .int 0]) (st := []) IG lw_good (cR_st LR ht2 ht3 HP HX hd (a := 18) (z := (Gc : Int)) (by decide) (by decide) (Or.inl rfl) rfl (by rw [kz_0, ← hg, h18])) (ro_M LR) rfl wC_R_store wL_R_75 wI_R_store wS_R_store wX_R 3 (by decide +kernel) rfl ⟨Nat.le_of_ble_eq_true rfl, Nat.le_of_ble_eq_true rfl⟩ ⟨(by dsimp only [rm_]; omega), (by dsimp only [rm_]; omega)⟩ rfl (Nat.le_of_ble_eq_true rfl) dc_R_common_83 (fun v h k_ n_ hq => ?_)
      obtain ⟨rfl, rfl, rfl, f9, g9, s9, V9, rfl, P9, X9⟩ := hq
      show vx_V _ _ _ _ _ _ _ _ _ 86 [(0, .ref (q 0)), (1, .int (nI d)), (2, .int (nI a)), (3, .int (nI b))] [.int (kpV (Gc : Int))]
      refine vx_ret (some (.int (kpV (Gc : Int)))) RG (vx_endi (by unfold kpV; split <;> rfl) dc_R_common_86) rfl ?_
      exact ⟨rfl, rfl, rfl, f9, g9, s9, V9, rfl, P9, X9⟩
    | succ m ih =>
      intro x y k n f g V hm HP HX h18 h19 hg lx ly hk hn
      subst hk hn
      have R18 := rvN HP (show 18 < 24 by decide) h18
      have R19 := rvN HP (show 19 < 24 by decide) h19
      refine vx_aload_n IG dc_R_common_37 rfl 0 rfl ?_
      refine vx_get IG (ro_M LR) rfl 1 (by decide) inR wF_R_14 rfl rfl dc_R_common_38 ?_
      refine vx_bipush (v := 19) IG dc_R_common_41 (by decide) ?_
      refine rr_nld IG LR ht3 (by decide) (x := nI (nd 65536 y)) R19.1 dc_R_common_43 ?_
      by_cases hy : y = 0
      · refine vx_if_le (tgt := 78) IG dc_R_common_44 (by decide) (fun _ => ?_) (fun c_ => absurd (by rw [hy]; decide) c_)
        refine vx_aload_n IG dc_R_common_78 rfl 0 rfl ?_
        refine vx_iload_n IG dc_R_common_79 rfl 1 rfl ?_
        refine vx_bipush (v := 18) IG dc_R_common_80 (by decide) ?_
        refine vx_iconst (v := 0) IG dc_R_common_82 (by decide) ?_
        rw [hy, Nat.gcd_zero_right] at hg
        refine vx_callV (As := [.int (nI d), .int 18, .int 0]) (st := []) IG lw_good (cR_st LR ht2 ht3 HP HX hd (a := 18) (z := (Gc : Int)) (by decide) (by decide) (Or.inl rfl) rfl (by rw [kz_0, ← hg, h18])) (ro_M LR) rfl wC_R_store wL_R_75 wI_R_store wS_R_store wX_R 3 (by decide +kernel) rfl ⟨Nat.le_of_ble_eq_true rfl, Nat.le_of_ble_eq_true rfl⟩ ⟨(by dsimp only [rm_]; omega), (by dsimp only [rm_]; omega)⟩ rfl (Nat.le_of_ble_eq_true rfl) dc_R_common_83 (fun v h k_ n_ hq => ?_)
        obtain ⟨rfl, rfl, rfl, f9, g9, s9, V9, rfl, P9, X9⟩ := hq
        show vx_V _ _ _ _ _ _ _ _ _ 86 [(0, .ref (q 0)), (1, .int (nI d)), (2, .int (nI a)), (3, .int (nI b))] [.int (kpV (Gc : Int))]
        refine vx_ret (some (.int (kpV (Gc : Int)))) RG (vx_endi (by unfold kpV; split <;> rfl) dc_R_common_86) rfl ?_
        exact ⟨rfl, rfl, rfl, f9, g9, s9, V9, rfl, P9, X9⟩
      · have hn0 : 0 < nd 65536 y := Nat.pos_of_ne_zero (fun u => hy ((nd_eq_zero b16).mp u))
        refine vx_if_le (tgt := 78) IG dc_R_common_44 (by decide) (fun c_ => absurd c_ (fun u => absurd (nI_lt (a := 0) (b := nd 65536 y) hn0 (by omega)) (Int32.not_lt.mpr u))) (fun _ => ?_)
        refine vx_aload_n IG dc_R_common_47 rfl 0 rfl ?_
        refine vx_bipush (v := 16) IG dc_R_common_48 (by decide) ?_
        refine vx_bipush (v := 17) IG dc_R_common_50 (by decide) ?_
        refine vx_bipush (v := 18) IG dc_R_common_52 (by decide) ?_
        refine vx_bipush (v := 19) IG dc_R_common_54 (by decide) ?_
        refine vx_callV (As := [.int 16, .int 17, .int 18, .int 19]) (st := []) IG lw_good (cR_quotient LR ht2 ht3 R18 R19 (u := 16) (r := 17) (by decide) (by decide) (by decide) (by decide) (by decide) (by decide) (by decide) (by decide) (by decide) (by omega) (by rw [c8 _ (by decide)]; omega) (by omega) (by rw [c8 _ (by decide)]; omega) (by rw [c8 _ (by decide)]; omega)) (ro_M LR) rfl wC_R_quotient wL_R_89 wI_R_quotient wS_R_quotient wX_R 4 (by decide +kernel) rfl ⟨Nat.le_of_ble_eq_true rfl, Nat.le_of_ble_eq_true rfl⟩ ⟨(by dsimp only [rm_]; omega), (by dsimp only [rm_]; omega)⟩ rfl (Nat.le_of_ble_eq_true rfl) dc_R_common_56 (fun v h k_ n_ hq => ?_)
        obtain ⟨rfl, rfl, rfl, f1, g1, rfl, K1, Q1, R1⟩ := hq
        have HP := rp_2 HP K1 Q1 R1 (by decide)
        have HX : mreg X (va_up (va_up V 16 (x / y)) 17 (x % y)) s := mreg_up (mreg_up HX (by decide)) (by decide)
        have R19 := rk_rv K1 (show 19 < 24 by decide) (by decide) R19
        have hlt := Nat.mod_lt x (Nat.pos_of_ne_zero hy)
        have lz : nd 65536 (x % y) ≤ 4096 := Nat.le_trans (nd_mono b16 (Nat.le_of_lt hlt)) ly
        show vx_V _ _ _ _ _ _ _ _ _ 59 [(0, .ref (q 0)), (1, .int (nI d)), (2, .int (nI a)), (3, .int (nI b))] []
        refine vx_aload_n IG dc_R_common_59 rfl 0 rfl ?_
        refine vx_bipush (v := 18) IG dc_R_common_60 (by decide) ?_
        refine vx_bipush (v := 19) IG dc_R_common_62 (by decide) ?_
        refine vx_callV (As := [.int 18, .int 19]) (st := []) IG lw_good (cR_move LR ht2 ht3 R19 (d := 18) (by decide) (by decide) (by decide) (by rw [c8 _ (by decide)]; omega)) (ro_M LR) rfl wC_R_move wL_R_64 wI_R_move wS_R_move wX_R 2 (by decide +kernel) rfl ⟨Nat.le_of_ble_eq_true rfl, Nat.le_of_ble_eq_true rfl⟩ ⟨(by dsimp only [rm_]; omega), (by dsimp only [rm_]; omega)⟩ rfl (Nat.le_of_ble_eq_true rfl) dc_R_common_64 (fun v h k_ n_ hq => ?_)
        obtain ⟨rfl, rfl, rfl, f2, g2, rfl, S2⟩ := hq
        obtain ⟨HP, HX⟩ := rp_up HP HX (show 16 ≤ 18 by decide) (show 18 < 24 by decide) S2
        show vx_V _ _ _ _ _ _ _ _ _ 67 [(0, .ref (q 0)), (1, .int (nI d)), (2, .int (nI a)), (3, .int (nI b))] []
        have R17 := rs_row S2 (show 18 < 24 by decide) (show 17 < 24 by decide) (by decide) R1
        refine vx_aload_n IG dc_R_common_67 rfl 0 rfl ?_
        refine vx_bipush (v := 19) IG dc_R_common_68 (by decide) ?_
        refine vx_bipush (v := 17) IG dc_R_common_70 (by decide) ?_
        refine vx_callV (As := [.int 19, .int 17]) (st := []) IG lw_good (cR_move LR ht2 ht3 R17 (d := 19) (by decide) (by decide) (by decide) (by rw [c8 _ (by decide)]; omega)) (ro_M LR) rfl wC_R_move wL_R_64 wI_R_move wS_R_move wX_R 2 (by decide +kernel) rfl ⟨Nat.le_of_ble_eq_true rfl, Nat.le_of_ble_eq_true rfl⟩ ⟨(by dsimp only [rm_]; omega), (by dsimp only [rm_]; omega)⟩ rfl (Nat.le_of_ble_eq_true rfl) dc_R_common_72 (fun v h k_ n_ hq => ?_)
        obtain ⟨rfl, rfl, rfl, f3, g3, rfl, S3⟩ := hq
        obtain ⟨HP, HX⟩ := rp_up HP HX (show 16 ≤ 19 by decide) (show 19 < 24 by decide) S3
        show vx_V _ _ _ _ _ _ _ _ _ 75 [(0, .ref (q 0)), (1, .int (nI d)), (2, .int (nI a)), (3, .int (nI b))] []
        refine vx_goto (tgt := 37) IG dc_R_common_75 (by decide) ?_
        exact ih y (x % y) _ _ f3 g3 _ (by omega) HP HX rfl rfl (by rw [← hg, Nat.gcd_comm x y, Nat.gcd_rec y x, Nat.gcd_comm]) ly lz rfl rfl
  refine vx_aload_n IG dc_R_common_23 rfl 0 rfl ?_
  refine vx_bipush (v := 18) IG dc_R_common_24 (by decide) ?_
  refine vx_iload_n IG dc_R_common_26 rfl 2 rfl ?_
  refine vx_callV (As := [.int 18, .int (nI a)]) (st := []) IG lw_good (cR_move LR ht2 ht3 Ra (d := 18) (by decide) (by omega) (by omega) (by rw [c8 _ (by decide)]; omega)) (ro_M LR) rfl wC_R_move wL_R_64 wI_R_move wS_R_move wX_R 2 (by decide +kernel) rfl ⟨Nat.le_of_ble_eq_true rfl, Nat.le_of_ble_eq_true rfl⟩ ⟨(by dsimp only [rm_]; omega), (by dsimp only [rm_]; omega)⟩ rfl (Nat.le_of_ble_eq_true rfl) dc_R_common_27 (fun v h k_ n_ hq => ?_)
  obtain ⟨rfl, rfl, rfl, f1, g1, rfl, S1⟩ := hq
  obtain ⟨HP, HX⟩ := rp_up HP HX (show 16 ≤ 18 by decide) (show 18 < 24 by decide) S1
  show vx_V _ _ _ _ _ _ _ _ _ 30 [(0, .ref (q 0)), (1, .int (nI d)), (2, .int (nI a)), (3, .int (nI b))] []
  have Rb := reg_rv HP HX hb
  refine vx_aload_n IG dc_R_common_30 rfl 0 rfl ?_
  refine vx_bipush (v := 19) IG dc_R_common_31 (by decide) ?_
  refine vx_iload_n IG dc_R_common_33 rfl 3 rfl ?_
  refine vx_callV (As := [.int 19, .int (nI b)]) (st := []) IG lw_good (cR_move LR ht2 ht3 Rb (d := 19) (by decide) (by omega) (by omega) (by rw [c8 _ (by decide)]; omega)) (ro_M LR) rfl wC_R_move wL_R_64 wI_R_move wS_R_move wX_R 2 (by decide +kernel) rfl ⟨Nat.le_of_ble_eq_true rfl, Nat.le_of_ble_eq_true rfl⟩ ⟨(by dsimp only [rm_]; omega), (by dsimp only [rm_]; omega)⟩ rfl (Nat.le_of_ble_eq_true rfl) dc_R_common_34 (fun v h k_ n_ hq => ?_)
  obtain ⟨rfl, rfl, rfl, f2, g2, rfl, S2⟩ := hq
  obtain ⟨HP, HX⟩ := rp_up HP HX (show 16 ≤ 19 by decide) (show 19 < 24 by decide) S2
  show vx_V _ _ _ _ _ _ _ _ _ 37 [(0, .ref (q 0)), (1, .int (nI d)), (2, .int (nI a)), (3, .int (nI b))] []
  exact loop _ _ _ _ _ f2 g2 _ (Nat.le_refl _) HP HX rfl rfl eG.symm La Lb rfl rfl
end
