/-! the reference: divide, power, shift, spread, push -/
theorem p_small {z m n : Nat} (h : z ≤ 1) (hm : (0 < m ↔ 0 < n)) : z ^ m = z ^ n := by
  rcases Nat.eq_zero_or_pos n with y | y
  · rw [y, show m = 0 by omega]
  · rw [pw_small h y, pw_small h (by omega)]
theorem p_big {z n : Nat} (h : ¬ z ≤ 1) (hn : 65536 < n) : ¬ bl (z ^ n) ≤ 65536 := by
  have h1 : 2 ^ n ≤ z ^ n := Nat.pow_le_pow_left (by omega) n
  have h2 := bl_lt.mpr h1
  omega
theorem s_mod (N k : Nat) : N % 2 ^ (k + 1) = N % 2 ^ k + 2 ^ k * (N / 2 ^ k % 2) := Nat.mod_pow_succ
theorem vl_sp {b : Nat} (hb : b < 18446744073709551616) : ∀ n, vl 65536 (fun k => dg 65536 b (k % 4)) (4 * n) = vl 18446744073709551616 (fun _ => b) n
  | 0 => rfl
  | n + 1 => by
    have e : vl 65536 (fun j => dg 65536 b ((4 * n + j) % 4)) 4 = b := by
      rw [vl_congr (e := dg 65536 b) (fun i hi => by rw [show (4 * n + i) % 4 = i by omega]), vl_dg, Nat.mod_eq_of_lt (Nat.lt_of_lt_of_le hb (by decide))]
    rw [show 4 * (n + 1) = 4 * n + 4 by omega, vl_split, vl_sp hb n, e, vl_succ, show (18446744073709551616 : Nat) = 65536 ^ 4 from rfl, ← Nat.pow_mul]
section
variable {l : Launch} {D : va_G} {tys : List (ClassId × FieldType)} {cI cZ : ClassId} {q : Nat → Nat} {h0 : vx_h} {f g s f' g' : Nat → Int32} {V : Nat → Nat} {X : Nat → Int} {a b d r u N M sz U W : Nat} {w w2 : Int32} {z : Int}
theorem kx_1 {z : Int} (h : bl z.natAbs ≤ 65536) {P : Int32 × (Nat → Int)} (hP : P = (1, va_up X d z)) : kpX X d z = P.2 ∧ kpV z = P.1 := by
  rw [hP, kpX_1 h, kpV_1 h]
  exact ⟨rfl, rfl⟩
set_option maxRecDepth 100000 in
set_option maxHeartbeats 8000000 in
theorem cR_divide (LR : rlay q h0) (ht2 : tys[2]? = some (cZ, .boolean)) (ht3 : tys[3]? = some (cI, .int)) (HP : rpic f g V) (HX : mreg X V s) (r1 r2 r3 r4 dn : Int32) : vx_M l D vcl tys my_R_divide lw_gd (rm_ 4 0 0 98) [.ref (q 0), .int r1, .int r2, .int r3, .int r4, .int dn] (rH cI cZ q h0 f g s) (rpub cI cZ q h0 (sp4 0 X (dvF X dn) r1 r2 r3 r4).2 (sp4 0 X (dvF X dn) r1 r2 r3 r4).1) := by
  refine vx_M.ofV (cc := bc_R_divide) (maxL := 10) (ret := (some .boolean)) (own := rR) false rfl (by decide +kernel) wC_R_divide (fun q => by cases q) (Nat.le_of_ble_eq_true rfl) (fun A H0 G IG RG => ?_)
  show vx_V _ _ _ _ _ _ _ _ _ 0 [(0, .ref (q 0)), (1, .int r1), (2, .int r2), (3, .int r3), (4, .int r4), (5, .int dn)] []
  refine vx_iload_n IG dc_R_divide_0 rfl 1 rfl ?_
  refine vx_callS (As := [.int r1]) (st := []) IG lw_good (cR_is _ r1) wC_R_is wL_R_67 wT_R_is wX_R 1 (by decide +kernel) rfl ⟨Nat.le_of_ble_eq_true rfl, Nat.le_of_ble_eq_true rfl⟩ ⟨(by dsimp only [rm_]; omega), (by dsimp only [rm_]; omega)⟩ rfl (Nat.le_of_ble_eq_true rfl) dc_R_divide_1 (fun v h k_ n_ hq => ?_)
  obtain ⟨rfl, rfl, rfl, rfl⟩ := hq
  show vx_V _ _ _ _ _ _ _ _ _ 4 [(0, .ref (q 0)), (1, .int r1), (2, .int r2), (3, .int r3), (4, .int r4), (5, .int dn)] [.int (if isR r1 then 1 else 0)]
  by_cases z0 : ¬ isR r1
  · refine vx_topi (y := 0) (if_neg z0) ?_
    refine vx_if_eq (tgt := 44) IG dc_R_divide_4 (by decide) (fun _ => ?_) (fun c_ => absurd rfl c_)
    refine vx_iconst (v := 0) IG dc_R_divide_44 (by decide) ?_
    refine vx_ret (some (.int 0)) RG (vx_endi (by first | rfl | decide) dc_R_divide_45) rfl ?_
    rw [sp4_no (fun e => z0 e.1)]
    exact ⟨rfl, rfl, rfl, f, g, s, V, rfl, HP, HX⟩
  replace z0 := Decidable.not_not.mp z0
  refine vx_topi (y := 1) (if_pos z0) ?_
  refine vx_if_eq (tgt := 44) IG dc_R_divide_4 (by decide) (fun c_ => absurd c_ (by decide)) (fun _ => ?_)
  refine vx_iload_n IG dc_R_divide_7 rfl 2 rfl ?_
  refine vx_callS (As := [.int r2]) (st := []) IG lw_good (cR_is _ r2) wC_R_is wL_R_67 wT_R_is wX_R 1 (by decide +kernel) rfl ⟨Nat.le_of_ble_eq_true rfl, Nat.le_of_ble_eq_true rfl⟩ ⟨(by dsimp only [rm_]; omega), (by dsimp only [rm_]; omega)⟩ rfl (Nat.le_of_ble_eq_true rfl) dc_R_divide_8 (fun v h k_ n_ hq => ?_)
  obtain ⟨rfl, rfl, rfl, rfl⟩ := hq
  show vx_V _ _ _ _ _ _ _ _ _ 11 [(0, .ref (q 0)), (1, .int r1), (2, .int r2), (3, .int r3), (4, .int r4), (5, .int dn)] [.int (if isR r2 then 1 else 0)]
  by_cases z1 : ¬ isR r2
  · refine vx_topi (y := 0) (if_neg z1) ?_
    refine vx_if_eq (tgt := 44) IG dc_R_divide_11 (by decide) (fun _ => ?_) (fun c_ => absurd rfl c_)
    refine vx_iconst (v := 0) IG dc_R_divide_44 (by decide) ?_
    refine vx_ret (some (.int 0)) RG (vx_endi (by first | rfl | decide) dc_R_divide_45) rfl ?_
    rw [sp4_no (fun e => z1 e.2.1)]
    exact ⟨rfl, rfl, rfl, f, g, s, V, rfl, HP, HX⟩
  replace z1 := Decidable.not_not.mp z1
  refine vx_topi (y := 1) (if_pos z1) ?_
  refine vx_if_eq (tgt := 44) IG dc_R_divide_11 (by decide) (fun c_ => absurd c_ (by decide)) (fun _ => ?_)
  refine vx_iload_n IG dc_R_divide_14 rfl 3 rfl ?_
  refine vx_callS (As := [.int r3]) (st := []) IG lw_good (cR_is _ r3) wC_R_is wL_R_67 wT_R_is wX_R 1 (by decide +kernel) rfl ⟨Nat.le_of_ble_eq_true rfl, Nat.le_of_ble_eq_true rfl⟩ ⟨(by dsimp only [rm_]; omega), (by dsimp only [rm_]; omega)⟩ rfl (Nat.le_of_ble_eq_true rfl) dc_R_divide_15 (fun v h k_ n_ hq => ?_)
  obtain ⟨rfl, rfl, rfl, rfl⟩ := hq
  show vx_V _ _ _ _ _ _ _ _ _ 18 [(0, .ref (q 0)), (1, .int r1), (2, .int r2), (3, .int r3), (4, .int r4), (5, .int dn)] [.int (if isR r3 then 1 else 0)]
  by_cases z2 : ¬ isR r3
  · refine vx_topi (y := 0) (if_neg z2) ?_
    refine vx_if_eq (tgt := 44) IG dc_R_divide_18 (by decide) (fun _ => ?_) (fun c_ => absurd rfl c_)
    refine vx_iconst (v := 0) IG dc_R_divide_44 (by decide) ?_
    refine vx_ret (some (.int 0)) RG (vx_endi (by first | rfl | decide) dc_R_divide_45) rfl ?_
    rw [sp4_no (fun e => z2 e.2.2.1)]
    exact ⟨rfl, rfl, rfl, f, g, s, V, rfl, HP, HX⟩
  replace z2 := Decidable.not_not.mp z2
  refine vx_topi (y := 1) (if_pos z2) ?_
  refine vx_if_eq (tgt := 44) IG dc_R_divide_18 (by decide) (fun c_ => absurd c_ (by decide)) (fun _ => ?_)
  refine vx_iload IG dc_R_divide_21 4 rfl ?_
  refine vx_callS (As := [.int r4]) (st := []) IG lw_good (cR_is _ r4) wC_R_is wL_R_67 wT_R_is wX_R 1 (by decide +kernel) rfl ⟨Nat.le_of_ble_eq_true rfl, Nat.le_of_ble_eq_true rfl⟩ ⟨(by dsimp only [rm_]; omega), (by dsimp only [rm_]; omega)⟩ rfl (Nat.le_of_ble_eq_true rfl) dc_R_divide_23 (fun v h k_ n_ hq => ?_)
  obtain ⟨rfl, rfl, rfl, rfl⟩ := hq
  show vx_V _ _ _ _ _ _ _ _ _ 26 [(0, .ref (q 0)), (1, .int r1), (2, .int r2), (3, .int r3), (4, .int r4), (5, .int dn)] [.int (if isR r4 then 1 else 0)]
  by_cases z3 : ¬ isR r4
  · refine vx_topi (y := 0) (if_neg z3) ?_
    refine vx_if_eq (tgt := 44) IG dc_R_divide_26 (by decide) (fun _ => ?_) (fun c_ => absurd rfl c_)
    refine vx_iconst (v := 0) IG dc_R_divide_44 (by decide) ?_
    refine vx_ret (some (.int 0)) RG (vx_endi (by first | rfl | decide) dc_R_divide_45) rfl ?_
    rw [sp4_no (fun e => z3 e.2.2.2)]
    exact ⟨rfl, rfl, rfl, f, g, s, V, rfl, HP, HX⟩
  replace z3 := Decidable.not_not.mp z3
  refine vx_topi (y := 1) (if_pos z3) ?_
  refine vx_if_eq (tgt := 44) IG dc_R_divide_26 (by decide) (fun c_ => absurd c_ (by decide)) (fun _ => ?_)
  obtain ⟨d, hd, rfl⟩ := isR_of z0
  obtain ⟨r, hr, rfl⟩ := isR_of z1
  obtain ⟨a, ha, rfl⟩ := isR_of z2
  obtain ⟨b, hb, rfl⟩ := isR_of z3
  have Rd := reg_rv HP HX hd
  have Bd := (HX d hd).2
  have Ld := reg_cap HP HX hd
  have Rr := reg_rv HP HX hr
  have Br := (HX r hr).2
  have Lr := reg_cap HP HX hr
  have Ra := reg_rv HP HX ha
  have Ba := (HX a ha).2
  have La := reg_cap HP HX ha
  have Rb := reg_rv HP HX hb
  have Bb := (HX b hb).2
  have Lb := reg_cap HP HX hb
  rw [sp4_ok hd hr ha hb] at RG
  unfold dvF at RG
  have c8 : ∀ r, 16 ≤ r → rcap r = 8200 := fun r hr => rcap_hi hr
  refine vx_iload_n IG dc_R_divide_29 rfl 1 rfl ?_
  refine vx_iload_n IG dc_R_divide_30 rfl 2 rfl ?_
  by_cases y0 : d = r
  · refine vx_icmp_eq (tgt := 44) IG dc_R_divide_31 (by decide) (fun _ => ?_) (fun c_ => absurd (by rw [y0]) c_)
    refine vx_iconst (v := 0) IG dc_R_divide_44 (by decide) ?_
    refine vx_ret (some (.int 0)) RG (vx_endi (by first | rfl | decide) dc_R_divide_45) rfl ?_
    rw [if_pos (Or.inl y0)]
    exact ⟨rfl, rfl, rfl, f, g, s, V, rfl, HP, HX⟩
  · refine vx_icmp_eq (tgt := 44) IG dc_R_divide_31 (by decide) (fun c_ => absurd c_ (nI_ne (by omega) (by omega) y0)) (fun _ => ?_)
    refine vx_aload_n IG dc_R_divide_34 rfl 0 rfl ?_
    refine vx_get IG (ro_M LR) rfl 1 (by decide) inR wF_R_14 rfl rfl dc_R_divide_35 ?_
    refine vx_iload IG dc_R_divide_38 4 rfl ?_
    refine rr_nld IG LR ht3 (show b < 24 by omega) (x := nI (nd 65536 (X b).natAbs)) Rb.1 dc_R_divide_40 ?_
    by_cases y1 : X b = 0
    · refine vx_if_ne (tgt := 46) IG dc_R_divide_41 (by decide) (fun c_ => absurd (by rw [y1]; rfl) c_) (fun _ => ?_)
      refine vx_iconst (v := 0) IG dc_R_divide_44 (by decide) ?_
      refine vx_ret (some (.int 0)) RG (vx_endi (by first | rfl | decide) dc_R_divide_45) rfl ?_
      rw [if_pos (Or.inr y1)]
      exact ⟨rfl, rfl, rfl, f, g, s, V, rfl, HP, HX⟩
    · have hn0 : nd 65536 (X b).natAbs ≠ 0 := fun u => by have := (nd_eq_zero b16).mp u; omega
      have hbp : 0 < (X b).natAbs := by omega
      refine vx_if_ne (tgt := 46) IG dc_R_divide_41 (by decide) (fun _ => ?_) (fun c_ => absurd c_ (nI_ne (by omega) (b := 0) (by decide) hn0))
      rw [if_neg (fun e => e.elim y0 y1)] at RG
      refine vx_aload_n IG dc_R_divide_46 rfl 0 rfl ?_
      refine vx_get IG (ro_M LR) rfl 2 (by decide) inR wF_R_17 rfl rfl dc_R_divide_47 ?_
      refine vx_iload_n IG dc_R_divide_50 rfl 3 rfl ?_
      refine rr_zld IG LR ht2 ha (x := sgI (X a)) Ba dc_R_divide_51 ?_
      refine vx_aload_n IG dc_R_divide_52 rfl 0 rfl ?_
      refine vx_get IG (ro_M LR) rfl 2 (by decide) inR wF_R_17 rfl rfl dc_R_divide_53 ?_
      refine vx_iload IG dc_R_divide_56 4 rfl ?_
      refine rr_zld IG LR ht2 hb (x := sgI (X b)) Bb dc_R_divide_58 ?_
      -- both are put away
      have put2 : ∀ (f g : Nat → Int32) (V : Nat → Nat) (ot me : Int32) (Q T : Nat) (k n : Nat), rpic f g V → mreg X V s → V 16 = Q → V 17 = T → (ot = 0 ∨ ot = 1) → kz ot Q = dvQ (X a) (X b) dn → bl Q ≤ 65536 → bl T ≤ 65536 → (me = 0 → kz (sgI (X a)) T = dvR (X a) (X b) dn) → (¬ me = 0 → kz (sgI (X b)) T = dvR (X a) (X b) dn) → k = 0 → n = 0 → vx_V D vcl A H0 10 G (rH cI cZ q h0 f g s) k n 172 [(9, .int me), (8, .int (sgI (X b))), (7, .int (sgI (X a))), (6, .int ot), (0, .ref (q 0)), (1, .int (nI d)), (2, .int (nI r)), (3, .int (nI a)), (4, .int (nI b)), (5, .int dn)] [] := by
        intro f g V ot me Q T k n HP HX e16 e17 hot hQ lQ lT hm0 hm1 hk hn
        subst hk hn
        refine vx_aload_n IG dc_R_divide_172 rfl 4 rfl ?_
        refine vx_iload_n IG dc_R_divide_173 rfl 5 rfl ?_
        refine vx_bipush (v := 16) IG dc_R_divide_174 (by decide) ?_
        refine vx_iload IG dc_R_divide_176 3 rfl ?_
        refine vx_callV (As := [.int (nI d), .int 16, .int ot]) (st := []) IG lw_good (cR_stV LR ht2 ht3 HP HX hd (a := 16) (z := dvQ (X a) (X b) dn) (by decide) (by decide) hot e16 hQ) (ro_M LR) rfl wC_R_store wL_R_75 wI_R_store wS_R_store wX_R 3 (by decide +kernel) rfl ⟨Nat.le_of_ble_eq_true rfl, Nat.le_of_ble_eq_true rfl⟩ ⟨(by dsimp only [rm_]; omega), (by dsimp only [rm_]; omega)⟩ rfl (Nat.le_of_ble_eq_true rfl) dc_R_divide_178 (fun v h k_ n_ hq => ?_)
        have lQ1 : bl (dvQ (X a) (X b) dn).natAbs ≤ 65536 := by rw [← hQ, kz_abs]; exact lQ
        have lR1 : bl (dvR (X a) (X b) dn).natAbs ≤ 65536 := by
          by_cases u : me = 0
          · rw [← hm0 u, kz_abs]; exact lT
          · rw [← hm1 u, kz_abs]; exact lT
        rw [kpX_1 lQ1, kpV_1 lQ1] at hq
        obtain ⟨rfl, rfl, rfl, f8, g8, s8, V8, rfl, P8, X8, e8⟩ := hq
        show vx_V _ _ _ _ _ _ _ _ _ 181 [(9, .int me), (8, .int (sgI (X b))), (7, .int (sgI (X a))), (6, .int ot), (0, .ref (q 0)), (1, .int (nI d)), (2, .int (nI r)), (3, .int (nI a)), (4, .int (nI b)), (5, .int dn)] [.int 1]
        refine vx_if_eq (tgt := 210) IG dc_R_divide_181 (by decide) (fun c_ => absurd c_ (by decide)) (fun _ => ?_)
        refine vx_aload_n IG dc_R_divide_184 rfl 4 rfl ?_
        refine vx_iload_n IG dc_R_divide_185 rfl 6 rfl ?_
        refine vx_bipush (v := 17) IG dc_R_divide_186 (by decide) ?_
        refine vx_iload IG dc_R_divide_188 0 rfl ?_
        have last : ∀ (x : Int32) (k n : Nat), (x = 0 ∨ x = 1) → kz x T = dvR (X a) (X b) dn → k = 0 → n = 0 → vx_V D vcl A H0 10 G (rH cI cZ q h0 f8 g8 s8) k n 200 [(9, .int me), (8, .int (sgI (X b))), (7, .int (sgI (X a))), (6, .int ot), (0, .ref (q 0)), (1, .int (nI d)), (2, .int (nI r)), (3, .int (nI a)), (4, .int (nI b)), (5, .int dn)] [.int x, .int 17, .int (nI r), .ref (q 0)] := by
          intro x k n hx ex hk hn
          subst hk hn
          refine vx_callV (As := [.int (nI r), .int 17, .int x]) (st := []) IG lw_good (cR_st LR ht2 ht3 P8 X8 hr (a := 17) (z := dvR (X a) (X b) dn) (by decide) (by decide) hx ((e8 17 (by decide)).trans e17) ex) (ro_M LR) rfl wC_R_store wL_R_75 wI_R_store wS_R_store wX_R 3 (by decide +kernel) rfl ⟨Nat.le_of_ble_eq_true rfl, Nat.le_of_ble_eq_true rfl⟩ ⟨(by dsimp only [rm_]; omega), (by dsimp only [rm_]; omega)⟩ rfl (Nat.le_of_ble_eq_true rfl) dc_R_divide_200 (fun v h k_ n_ hq => ?_)
          rw [kpX_1 lR1, kpV_1 lR1] at hq
          obtain ⟨rfl, rfl, rfl, f9, g9, s9, V9, rfl, P9, X9⟩ := hq
          show vx_V _ _ _ _ _ _ _ _ _ 203 [(9, .int me), (8, .int (sgI (X b))), (7, .int (sgI (X a))), (6, .int ot), (0, .ref (q 0)), (1, .int (nI d)), (2, .int (nI r)), (3, .int (nI a)), (4, .int (nI b)), (5, .int dn)] [.int 1]
          refine vx_if_eq (tgt := 210) IG dc_R_divide_203 (by decide) (fun c_ => absurd c_ (by decide)) (fun _ => ?_)
          refine vx_iconst (v := 1) IG dc_R_divide_206 (by decide) ?_
          refine vx_goto (tgt := 211) IG dc_R_divide_207 (by decide) ?_
          refine vx_ret (some (.int 1)) RG (vx_endi (by first | rfl | decide) dc_R_divide_211) rfl ?_
          exact ⟨rfl, rfl, rfl, f9, g9, s9, V9, rfl, P9, X9⟩
        by_cases u : me = 0
        · refine vx_if_eq (tgt := 198) IG dc_R_divide_190 (by decide) (fun _ => ?_) (fun c_ => absurd u c_)
          refine vx_iload IG dc_R_divide_198 2 rfl ?_
          exact last _ _ _ (sgI_01 _) (hm0 u) rfl rfl
        · refine vx_if_eq (tgt := 198) IG dc_R_divide_190 (by decide) (fun c_ => absurd c_ u) (fun _ => ?_)
          refine vx_iload IG dc_R_divide_193 1 rfl ?_
          refine vx_goto (tgt := 200) IG dc_R_divide_195 (by decide) ?_
          exact last _ _ _ (sgI_01 _) (hm1 u) rfl rfl
      have main : ∀ (ot : Int32) (k n : Nat), ot = (if sgI (X a) = sgI (X b) then 0 else 1) → k = 0 → n = 0 → vx_V D vcl A H0 10 G (rH cI cZ q h0 f g s) k n 67 [(0, .ref (q 0)), (1, .int (nI d)), (2, .int (nI r)), (3, .int (nI a)), (4, .int (nI b)), (5, .int dn)] [.int ot] := by
        intro ot k n eo hk hn
        subst hk hn
        have hot : ot = 0 ∨ ot = 1 := by rw [eo]; split <;> simp
        refine vx_istore (lv' := [(6, .int ot), (0, .ref (q 0)), (1, .int (nI d)), (2, .int (nI r)), (3, .int (nI a)), (4, .int (nI b)), (5, .int dn)]) IG dc_R_divide_67 (by decide) rfl ?_
        refine vx_aload_n IG dc_R_divide_69 rfl 1 rfl ?_
        refine vx_get IG (ro_M LR) rfl 2 (by decide) inR wF_R_17 rfl rfl dc_R_divide_70 ?_
        refine vx_iload_n IG dc_R_divide_73 rfl 4 rfl ?_
        refine rr_zld IG LR ht2 ha (x := sgI (X a)) Ba dc_R_divide_74 ?_
        refine vx_istore (lv' := [(7, .int (sgI (X a))), (6, .int ot), (0, .ref (q 0)), (1, .int (nI d)), (2, .int (nI r)), (3, .int (nI a)), (4, .int (nI b)), (5, .int dn)]) IG dc_R_divide_75 (by decide) rfl ?_
        refine vx_aload_n IG dc_R_divide_77 rfl 2 rfl ?_
        refine vx_get IG (ro_M LR) rfl 2 (by decide) inR wF_R_17 rfl rfl dc_R_divide_78 ?_
        refine vx_iload IG dc_R_divide_81 6 rfl ?_
        refine rr_zld IG LR ht2 hb (x := sgI (X b)) Bb dc_R_divide_83 ?_
        refine vx_istore (lv' := [(8, .int (sgI (X b))), (7, .int (sgI (X a))), (6, .int ot), (0, .ref (q 0)), (1, .int (nI d)), (2, .int (nI r)), (3, .int (nI a)), (4, .int (nI b)), (5, .int dn)]) IG dc_R_divide_84 (by decide) rfl ?_
        refine vx_aload_n IG dc_R_divide_86 rfl 3 rfl ?_
        refine vx_bipush (v := 18) IG dc_R_divide_87 (by decide) ?_
        refine vx_iload_n IG dc_R_divide_89 rfl 6 rfl ?_
        refine vx_callV (As := [.int 18, .int (nI a)]) (st := []) IG lw_good (cR_move LR ht2 ht3 Ra (d := 18) (by decide) (by omega) (by omega) (by rw [c8 _ (by decide)]; omega)) (ro_M LR) rfl wC_R_move wL_R_64 wI_R_move wS_R_move wX_R 2 (by decide +kernel) rfl ⟨Nat.le_of_ble_eq_true rfl, Nat.le_of_ble_eq_true rfl⟩ ⟨(by dsimp only [rm_]; omega), (by dsimp only [rm_]; omega)⟩ rfl (Nat.le_of_ble_eq_true rfl) dc_R_divide_90 (fun v h k_ n_ hq => ?_)
        obtain ⟨rfl, rfl, rfl, f1, g1, rfl, S1⟩ := hq
        obtain ⟨HP, HX⟩ := rp_up HP HX (show 16 ≤ 18 by decide) (show 18 < 24 by decide) S1
        show vx_V _ _ _ _ _ _ _ _ _ 93 [(8, .int (sgI (X b))), (7, .int (sgI (X a))), (6, .int ot), (0, .ref (q 0)), (1, .int (nI d)), (2, .int (nI r)), (3, .int (nI a)), (4, .int (nI b)), (5, .int dn)] []
        have Rb1 := reg_rv HP HX hb
        refine vx_aload_n IG dc_R_divide_93 rfl 3 rfl ?_
        refine vx_bipush (v := 19) IG dc_R_divide_94 (by decide) ?_
        refine vx_iload IG dc_R_divide_96 7 rfl ?_
        refine vx_callV (As := [.int 19, .int (nI b)]) (st := []) IG lw_good (cR_move LR ht2 ht3 Rb1 (d := 19) (by decide) (by omega) (by omega) (by rw [c8 _ (by decide)]; omega)) (ro_M LR) rfl wC_R_move wL_R_64 wI_R_move wS_R_move wX_R 2 (by decide +kernel) rfl ⟨Nat.le_of_ble_eq_true rfl, Nat.le_of_ble_eq_true rfl⟩ ⟨(by dsimp only [rm_]; omega), (by dsimp only [rm_]; omega)⟩ rfl (Nat.le_of_ble_eq_true rfl) dc_R_divide_98 (fun v h k_ n_ hq => ?_)
        obtain ⟨rfl, rfl, rfl, f2, g2, rfl, S2⟩ := hq
        obtain ⟨HP, HX⟩ := rp_up HP HX (show 16 ≤ 19 by decide) (show 19 < 24 by decide) S2
        show vx_V _ _ _ _ _ _ _ _ _ 101 [(8, .int (sgI (X b))), (7, .int (sgI (X a))), (6, .int ot), (0, .ref (q 0)), (1, .int (nI d)), (2, .int (nI r)), (3, .int (nI a)), (4, .int (nI b)), (5, .int dn)] []
        have R18 : rv f2 g2 18 (X a).natAbs := rvN HP (show 18 < 24 by decide) rfl
        have R19 : rv f2 g2 19 (X b).natAbs := rvN HP (show 19 < 24 by decide) rfl
        refine vx_aload_n IG dc_R_divide_101 rfl 3 rfl ?_
        refine vx_bipush (v := 16) IG dc_R_divide_102 (by decide) ?_
        refine vx_bipush (v := 17) IG dc_R_divide_104 (by decide) ?_
        refine vx_bipush (v := 18) IG dc_R_divide_106 (by decide) ?_
        refine vx_bipush (v := 19) IG dc_R_divide_108 (by decide) ?_
        refine vx_callV (As := [.int 16, .int 17, .int 18, .int 19]) (st := []) IG lw_good (cR_quotient LR ht2 ht3 R18 R19 (u := 16) (r := 17) (by decide) (by decide) (by decide) (by decide) (by decide) (by decide) (by decide) (by decide) (by decide) hbp (by rw [c8 _ (by decide)]; omega) (by omega) (by rw [c8 _ (by decide)]; omega) (by rw [c8 _ (by decide)]; omega)) (ro_M LR) rfl wC_R_quotient wL_R_89 wI_R_quotient wS_R_quotient wX_R 4 (by decide +kernel) rfl ⟨Nat.le_of_ble_eq_true rfl, Nat.le_of_ble_eq_true rfl⟩ ⟨(by dsimp only [rm_]; omega), (by dsimp only [rm_]; omega)⟩ rfl (Nat.le_of_ble_eq_true rfl) dc_R_divide_110 (fun v h k_ n_ hq => ?_)
        obtain ⟨rfl, rfl, rfl, f3, g3, rfl, K3, Q3, R3⟩ := hq
        have HP := rp_2 HP K3 Q3 R3 (by decide)
        have HX : mreg X (va_up (va_up (va_up (va_up V 18 (X a).natAbs) 19 (X b).natAbs) 16 ((X a).natAbs / (X b).natAbs)) 17 ((X a).natAbs % (X b).natAbs)) s := mreg_up (mreg_up HX (by decide)) (by decide)
        have R19 := rk_rv K3 (show 19 < 24 by decide) (by decide) R19
        have hmlt := Nat.mod_lt (X a).natAbs hbp
        have lQ : bl ((X a).natAbs / (X b).natAbs) ≤ 65536 := Nat.le_trans (bl_mono (Nat.div_le_self _ _)) (lim16.mp La)
        have lT : bl ((X a).natAbs % (X b).natAbs) ≤ 65536 := Nat.le_trans (bl_mono (Nat.le_of_lt hmlt)) (lim16.mp Lb)
        have nQ := lim16.mpr lQ
        have nT := lim16.mpr lT
        show vx_V _ _ _ _ _ _ _ _ _ 113 [(8, .int (sgI (X b))), (7, .int (sgI (X a))), (6, .int ot), (0, .ref (q 0)), (1, .int (nI d)), (2, .int (nI r)), (3, .int (nI a)), (4, .int (nI b)), (5, .int dn)] []
        refine vx_iload IG dc_R_divide_113 8 rfl ?_
        have plain : ∀ (k n : Nat), ¬ dvM (X a) (X b) dn → k = 0 → n = 0 → vx_V D vcl A H0 10 G (rH cI cZ q h0 f3 g3 s) k n 137 [(8, .int (sgI (X b))), (7, .int (sgI (X a))), (6, .int ot), (0, .ref (q 0)), (1, .int (nI d)), (2, .int (nI r)), (3, .int (nI a)), (4, .int (nI b)), (5, .int dn)] [] := by
          intro k n hm hk hn
          subst hk hn
          refine vx_iconst (v := 0) IG dc_R_divide_137 (by decide) ?_
          refine vx_istore (lv' := [(9, .int 0), (8, .int (sgI (X b))), (7, .int (sgI (X a))), (6, .int ot), (0, .ref (q 0)), (1, .int (nI d)), (2, .int (nI r)), (3, .int (nI a)), (4, .int (nI b)), (5, .int dn)]) IG dc_R_divide_138 (by decide) rfl ?_
          refine vx_iload IG dc_R_divide_140 0 rfl ?_
          refine vx_if_eq (tgt := 172) IG dc_R_divide_142 (by decide) (fun _ => ?_) (fun c_ => absurd rfl c_)
          refine put2 f3 g3 _ ot 0 _ _ _ _ HP HX rfl rfl hot ?_ lQ lT (fun _ => ?_) (fun u => absurd rfl u) rfl rfl
          · unfold dvQ
            rw [if_neg hm, Nat.add_zero, eo]
            rfl
          · unfold dvR
            rw [if_neg hm]
            rfl
        by_cases z1 : dn = 0
        · refine vx_if_eq (tgt := 137) IG dc_R_divide_115 (by decide) (fun _ => ?_) (fun c_ => absurd z1 c_)
          exact plain _ _ (fun z => z.1 z1) rfl rfl
        · refine vx_if_eq (tgt := 137) IG dc_R_divide_115 (by decide) (fun c_ => absurd c_ z1) (fun _ => ?_)
          refine vx_iload IG dc_R_divide_118 2 rfl ?_
          by_cases z2 : sgI (X a) = sgI (X b)
          · rw [if_pos z2] at eo
            refine vx_if_eq (tgt := 137) IG dc_R_divide_120 (by decide) (fun _ => ?_) (fun c_ => absurd eo c_)
            exact plain _ _ (fun z => z.2.1 z2) rfl rfl
          · refine vx_if_eq (tgt := 137) IG dc_R_divide_120 (by decide) (fun c_ => absurd c_ (by rw [eo, if_neg z2]; decide)) (fun _ => ?_)
            refine vx_aload_n IG dc_R_divide_123 rfl 3 rfl ?_
            refine vx_get IG (ro_M LR) rfl 1 (by decide) inR wF_R_14 rfl rfl dc_R_divide_124 ?_
            refine vx_bipush (v := 17) IG dc_R_divide_127 (by decide) ?_
            refine rr_nld IG LR ht3 (by decide) (x := nI (nd 65536 ((X a).natAbs % (X b).natAbs))) R3.1 dc_R_divide_129 ?_
            by_cases z3 : (X a).natAbs % (X b).natAbs = 0
            · refine vx_if_le (tgt := 137) IG dc_R_divide_130 (by decide) (fun _ => ?_) (fun c_ => absurd (by rw [z3]; decide) c_)
              exact plain _ _ (fun z => z.2.2 z3) rfl rfl
            · have hn1 : 0 < nd 65536 ((X a).natAbs % (X b).natAbs) := Nat.pos_of_ne_zero (fun u => z3 ((nd_eq_zero b16).mp u))
              refine vx_if_le (tgt := 137) IG dc_R_divide_130 (by decide) (fun c_ => absurd c_ (fun u => absurd (nI_lt (a := 0) hn1 (by omega)) (Int32.not_lt.mpr u))) (fun _ => ?_)
              refine vx_iconst (v := 1) IG dc_R_divide_133 (by decide) ?_
              refine vx_goto (tgt := 138) IG dc_R_divide_134 (by decide) ?_
              refine vx_istore (lv' := [(9, .int 1), (8, .int (sgI (X b))), (7, .int (sgI (X a))), (6, .int ot), (0, .ref (q 0)), (1, .int (nI d)), (2, .int (nI r)), (3, .int (nI a)), (4, .int (nI b)), (5, .int dn)]) IG dc_R_divide_138 (by decide) rfl ?_
              refine vx_iload IG dc_R_divide_140 0 rfl ?_
              have hM : dvM (X a) (X b) dn := ⟨z1, z2, z3⟩
              have hdo := div_one hbp z3
              refine vx_if_eq (tgt := 172) IG dc_R_divide_142 (by decide) (fun c_ => absurd c_ (by decide)) (fun _ => ?_)
              refine vx_aload_n IG dc_R_divide_145 rfl 4 rfl ?_
              refine vx_bipush (v := 20) IG dc_R_divide_146 (by decide) ?_
              refine vx_lconst (v := 1) IG dc_R_divide_148 (by decide) ?_
              refine vx_callV (As := [.int 20, .long 1]) (st := []) IG lw_good (cR_set LR ht2 ht3 (d := 20) (b := 1) (by decide) (by decide)) (ro_M LR) rfl wC_R_set wL_R_71 wI_R_set wS_R_set wX_R 2 (by decide +kernel) rfl ⟨Nat.le_of_ble_eq_true rfl, Nat.le_of_ble_eq_true rfl⟩ ⟨(by dsimp only [rm_]; omega), (by dsimp only [rm_]; omega)⟩ rfl (Nat.le_of_ble_eq_true rfl) dc_R_divide_149 (fun v h k_ n_ hq => ?_)
              obtain ⟨rfl, rfl, rfl, f4, g4, rfl, S4⟩ := hq
              obtain ⟨HP, HX⟩ := rp_up HP HX (show 16 ≤ 20 by decide) (show 20 < 24 by decide) S4
              show vx_V _ _ _ _ _ _ _ _ _ 152 [(9, .int 1), (8, .int (sgI (X b))), (7, .int (sgI (X a))), (6, .int ot), (0, .ref (q 0)), (1, .int (nI d)), (2, .int (nI r)), (3, .int (nI a)), (4, .int (nI b)), (5, .int dn)] []
              have R16 := rs_row S4 (show 20 < 24 by decide) (show 16 < 24 by decide) (by decide) Q3
              have R17 := rs_row S4 (show 20 < 24 by decide) (show 17 < 24 by decide) (by decide) R3
              have R19 := rs_row S4 (show 20 < 24 by decide) (show 19 < 24 by decide) (by decide) R19
              have R20 := S4.2.2
              refine vx_aload_n IG dc_R_divide_152 rfl 4 rfl ?_
              refine vx_bipush (v := 16) IG dc_R_divide_153 (by decide) ?_
              refine vx_bipush (v := 16) IG dc_R_divide_155 (by decide) ?_
              refine vx_bipush (v := 20) IG dc_R_divide_157 (by decide) ?_
              refine vx_callV (As := [.int 16, .int 16, .int 20]) (st := []) IG lw_good (cR_sum LR ht2 ht3 R16 R20 (d := 16) (by decide) (by decide) (by decide) (by rw [c8 _ (by decide)]; omega) (by rw [c8 _ (by decide)]; decide)) (ro_M LR) rfl wC_R_sum wL_R_79 wI_R_sum wS_R_sum wX_R 3 (by decide +kernel) rfl ⟨Nat.le_of_ble_eq_true rfl, Nat.le_of_ble_eq_true rfl⟩ ⟨(by dsimp only [rm_]; omega), (by dsimp only [rm_]; omega)⟩ rfl (Nat.le_of_ble_eq_true rfl) dc_R_divide_159 (fun v h k_ n_ hq => ?_)
              obtain ⟨rfl, rfl, rfl, f5, g5, rfl, S5⟩ := hq
              obtain ⟨HP, HX⟩ := rp_up HP HX (show 16 ≤ 16 by decide) (show 16 < 24 by decide) S5
              show vx_V _ _ _ _ _ _ _ _ _ 162 [(9, .int 1), (8, .int (sgI (X b))), (7, .int (sgI (X a))), (6, .int ot), (0, .ref (q 0)), (1, .int (nI d)), (2, .int (nI r)), (3, .int (nI a)), (4, .int (nI b)), (5, .int dn)] []
              have R17 := rs_row S5 (show 16 < 24 by decide) (show 17 < 24 by decide) (by decide) R17
              have R19 := rs_row S5 (show 16 < 24 by decide) (show 19 < 24 by decide) (by decide) R19
              refine vx_aload_n IG dc_R_divide_162 rfl 4 rfl ?_
              refine vx_bipush (v := 17) IG dc_R_divide_163 (by decide) ?_
              refine vx_bipush (v := 19) IG dc_R_divide_165 (by decide) ?_
              refine vx_bipush (v := 17) IG dc_R_divide_167 (by decide) ?_
              refine vx_callV (As := [.int 17, .int 19, .int 17]) (st := []) IG lw_good (cR_lessen LR ht2 ht3 R19 R17 (d := 17) (by decide) (by decide) (by decide) (by rw [c8 _ (by decide)]; omega) (by omega)) (ro_M LR) rfl wC_R_lessen wL_R_57 wI_R_lessen wS_R_lessen wX_R 3 (by decide +kernel) rfl ⟨Nat.le_of_ble_eq_true rfl, Nat.le_of_ble_eq_true rfl⟩ ⟨(by dsimp only [rm_]; omega), (by dsimp only [rm_]; omega)⟩ rfl (Nat.le_of_ble_eq_true rfl) dc_R_divide_169 (fun v h k_ n_ hq => ?_)
              obtain ⟨rfl, rfl, rfl, f6, g6, rfl, S6⟩ := hq
              obtain ⟨HP, HX⟩ := rp_up HP HX (show 16 ≤ 17 by decide) (show 17 < 24 by decide) S6
              show vx_V _ _ _ _ _ _ _ _ _ 172 [(9, .int 1), (8, .int (sgI (X b))), (7, .int (sgI (X a))), (6, .int ot), (0, .ref (q 0)), (1, .int (nI d)), (2, .int (nI r)), (3, .int (nI a)), (4, .int (nI b)), (5, .int dn)] []
              refine put2 f6 g6 _ ot 1 _ _ _ _ HP HX rfl rfl hot ?_ (Nat.le_trans (bl_mono hdo) (lim16.mp La)) (Nat.le_trans (bl_mono (Nat.sub_le _ _)) (lim16.mp Lb)) (fun u => absurd u (by decide)) (fun _ => ?_) rfl rfl
              · unfold dvQ
                rw [if_pos hM, eo]
                rfl
              · unfold dvR
                rw [if_pos hM]
                rfl
      by_cases z2 : sgI (X a) = sgI (X b)
      · refine vx_icmp_eq (tgt := 66) IG dc_R_divide_59 (by decide) (fun _ => ?_) (fun c_ => absurd z2 c_)
        refine vx_iconst (v := 0) IG dc_R_divide_66 (by decide) ?_
        exact main 0 _ _ (by rw [if_pos z2]) rfl rfl
      · refine vx_icmp_eq (tgt := 66) IG dc_R_divide_59 (by decide) (fun c_ => absurd c_ z2) (fun _ => ?_)
        refine vx_iconst (v := 1) IG dc_R_divide_62 (by decide) ?_
        refine vx_goto (tgt := 67) IG dc_R_divide_63 (by decide) ?_
        exact main 1 _ _ (by rw [if_neg z2]) rfl rfl
set_option maxRecDepth 100000 in
set_option maxHeartbeats 8000000 in
theorem cR_power (LR : rlay q h0) (ht2 : tys[2]? = some (cZ, .boolean)) (ht3 : tys[3]? = some (cI, .int)) (HP : rpic f g V) (HX : mreg X V s) (r1 r2 p : Int32) : vx_M l D vcl tys my_R_power lw_gd (rm_ 3 0 0 75) [.ref (q 0), .int r1, .int r2, .int p] (rH cI cZ q h0 f g s) (rpub cI cZ q h0 (sp2 0 X (pwF X p) r1 r2).2 (sp2 0 X (pwF X p) r1 r2).1) := by
  refine vx_M.ofV (cc := bc_R_power) (maxL := 8) (ret := (some .boolean)) (own := rR) false rfl (by decide +kernel) wC_R_power (fun q => by cases q) (Nat.le_of_ble_eq_true rfl) (fun A H0 G IG RG => ?_)
  show vx_V _ _ _ _ _ _ _ _ _ 0 [(0, .ref (q 0)), (1, .int r1), (2, .int r2), (3, .int p)] []
  refine vx_iload_n IG dc_R_power_0 rfl 1 rfl ?_
  refine vx_callS (As := [.int r1]) (st := []) IG lw_good (cR_is _ r1) wC_R_is wL_R_67 wT_R_is wX_R 1 (by decide +kernel) rfl ⟨Nat.le_of_ble_eq_true rfl, Nat.le_of_ble_eq_true rfl⟩ ⟨(by dsimp only [rm_]; omega), (by dsimp only [rm_]; omega)⟩ rfl (Nat.le_of_ble_eq_true rfl) dc_R_power_1 (fun v h k_ n_ hq => ?_)
  obtain ⟨rfl, rfl, rfl, rfl⟩ := hq
  show vx_V _ _ _ _ _ _ _ _ _ 4 [(0, .ref (q 0)), (1, .int r1), (2, .int r2), (3, .int p)] [.int (if isR r1 then 1 else 0)]
  by_cases z0 : ¬ isR r1
  · refine vx_topi (y := 0) (if_neg z0) ?_
    refine vx_if_eq (tgt := 18) IG dc_R_power_4 (by decide) (fun _ => ?_) (fun c_ => absurd rfl c_)
    refine vx_iconst (v := 0) IG dc_R_power_18 (by decide) ?_
    refine vx_ret (some (.int 0)) RG (vx_endi (by first | rfl | decide) dc_R_power_19) rfl ?_
    rw [sp2_no (fun e => z0 e.1)]
    exact ⟨rfl, rfl, rfl, f, g, s, V, rfl, HP, HX⟩
  replace z0 := Decidable.not_not.mp z0
  refine vx_topi (y := 1) (if_pos z0) ?_
  refine vx_if_eq (tgt := 18) IG dc_R_power_4 (by decide) (fun c_ => absurd c_ (by decide)) (fun _ => ?_)
  refine vx_iload_n IG dc_R_power_7 rfl 2 rfl ?_
  refine vx_callS (As := [.int r2]) (st := []) IG lw_good (cR_is _ r2) wC_R_is wL_R_67 wT_R_is wX_R 1 (by decide +kernel) rfl ⟨Nat.le_of_ble_eq_true rfl, Nat.le_of_ble_eq_true rfl⟩ ⟨(by dsimp only [rm_]; omega), (by dsimp only [rm_]; omega)⟩ rfl (Nat.le_of_ble_eq_true rfl) dc_R_power_8 (fun v h k_ n_ hq => ?_)
  obtain ⟨rfl, rfl, rfl, rfl⟩ := hq
  show vx_V _ _ _ _ _ _ _ _ _ 11 [(0, .ref (q 0)), (1, .int r1), (2, .int r2), (3, .int p)] [.int (if isR r2 then 1 else 0)]
  by_cases z1 : ¬ isR r2
  · refine vx_topi (y := 0) (if_neg z1) ?_
    refine vx_if_eq (tgt := 18) IG dc_R_power_11 (by decide) (fun _ => ?_) (fun c_ => absurd rfl c_)
    refine vx_iconst (v := 0) IG dc_R_power_18 (by decide) ?_
    refine vx_ret (some (.int 0)) RG (vx_endi (by first | rfl | decide) dc_R_power_19) rfl ?_
    rw [sp2_no (fun e => z1 e.2)]
    exact ⟨rfl, rfl, rfl, f, g, s, V, rfl, HP, HX⟩
  replace z1 := Decidable.not_not.mp z1
  refine vx_topi (y := 1) (if_pos z1) ?_
  refine vx_if_eq (tgt := 18) IG dc_R_power_11 (by decide) (fun c_ => absurd c_ (by decide)) (fun _ => ?_)
  obtain ⟨d, hd, rfl⟩ := isR_of z0
  obtain ⟨a, ha, rfl⟩ := isR_of z1
  have Rd := reg_rv HP HX hd
  have Bd := (HX d hd).2
  have Ld := reg_cap HP HX hd
  have Ra := reg_rv HP HX ha
  have Ba := (HX a ha).2
  have La := reg_cap HP HX ha
  rw [sp2_ok hd ha] at RG
  unfold pwF at RG
  have i0 : (0 : Int32).toInt = 0 := rfl
  have c8 : ∀ r, 16 ≤ r → rcap r = 8200 := fun r hr => rcap_hi hr
  refine vx_iload_n IG dc_R_power_14 rfl 3 rfl ?_
  by_cases y : (0 : Int32) ≤ p
  · refine vx_if_ge (tgt := 20) IG dc_R_power_15 (by decide) (fun _ => ?_) (fun c_ => absurd y c_)
    rw [Int32.le_iff_toInt_le, i0] at y
    rw [if_pos y] at RG
    obtain ⟨n, hn, rfl⟩ := i32_pos y
    rw [nI_toInt hn, Int.toNat_natCast] at RG
    -- the loop
    have loop : ∀ (st : Nat) (bw_ sm : Int32), (bw_ = 0 ∨ bw_ = 1) → st < 2 ^ 31 → kz bw_ ((X a).natAbs ^ st) = X a ^ n → ((X a).natAbs ≤ 1 ∨ st = n) → ∀ (j c k m : Nat) (f g : Nat → Int32) (V : Nat → Nat), c + j = st → rpic f g V → mreg X V s → V 17 = (X a).natAbs ^ c → V 18 = (X a).natAbs → nd 65536 ((X a).natAbs ^ c) ≤ 4096 → k = 0 → m = 0 → vx_V D vcl A H0 8 G (rH cI cZ q h0 f g s) k m 133 [(7, .int (nI c)), (6, .int (nI st)), (5, .int bw_), (4, .int sm), (0, .ref (q 0)), (1, .int (nI d)), (2, .int (nI a)), (3, .int (nI n))] [] := by
      intro st bw_ sm hbw hst hkz hcase j
      induction j with
      | zero =>
        intro c k m f g V hc HP HX h17 h18 hl hk hm
        subst hk hm
        obtain rfl : c = st := by omega
        refine vx_iload IG dc_R_power_133 0 rfl ?_
        refine vx_iload IG dc_R_power_135 1 rfl ?_
        refine vx_icmp_ge (tgt := 179) IG dc_R_power_137 (by decide) (fun _ => ?_) (fun c_ => absurd (nI_le (Nat.le_refl _) hst) c_)
        refine vx_aload_n IG dc_R_power_179 rfl 4 rfl ?_
        refine vx_iload_n IG dc_R_power_180 rfl 5 rfl ?_
        refine vx_bipush (v := 17) IG dc_R_power_181 (by decide) ?_
        refine vx_iload IG dc_R_power_183 2 rfl ?_
        refine vx_callV (As := [.int (nI d), .int 17, .int bw_]) (st := []) IG lw_good (cR_st LR ht2 ht3 HP HX hd (a := 17) (z := X a ^ n) (by decide) (by decide) hbw rfl (by rw [h17]; exact hkz)) (ro_M LR) rfl wC_R_store wL_R_75 wI_R_store wS_R_store wX_R 3 (by decide +kernel) rfl ⟨Nat.le_of_ble_eq_true rfl, Nat.le_of_ble_eq_true rfl⟩ ⟨(by dsimp only [rm_]; omega), (by dsimp only [rm_]; omega)⟩ rfl (Nat.le_of_ble_eq_true rfl) dc_R_power_185 (fun v h k_ n_ hq => ?_)
        obtain ⟨rfl, rfl, rfl, f9, g9, s9, V9, rfl, P9, X9⟩ := hq
        show vx_V _ _ _ _ _ _ _ _ _ 188 [(7, .int (nI c)), (6, .int (nI c)), (5, .int bw_), (4, .int sm), (0, .ref (q 0)), (1, .int (nI d)), (2, .int (nI a)), (3, .int (nI n))] [.int (kpV (X a ^ n))]
        refine vx_ret (some (.int (kpV (X a ^ n)))) RG (vx_endi (by unfold kpV; split <;> rfl) dc_R_power_188) rfl ?_
        exact ⟨rfl, rfl, rfl, f9, g9, s9, V9, rfl, P9, X9⟩
      | succ j ih =>
        intro c k m f g V hc HP HX h17 h18 hl hk hm
        subst hk hm
        have R17 := rvN HP (show 17 < 24 by decide) h17
        have R18 := rvN HP (show 18 < 24 by decide) h18
        refine vx_iload IG dc_R_power_133 0 rfl ?_
        refine vx_iload IG dc_R_power_135 1 rfl ?_
        refine vx_icmp_ge (tgt := 179) IG dc_R_power_137 (by decide) (fun c_ => absurd c_ (fun u => absurd (nI_lt (a := c) (b := st) (by omega) hst) (Int32.not_lt.mpr u))) (fun _ => ?_)
        refine vx_aload_n IG dc_R_power_140 rfl 4 rfl ?_
        refine vx_bipush (v := 16) IG dc_R_power_141 (by decide) ?_
        refine vx_bipush (v := 17) IG dc_R_power_143 (by decide) ?_
        refine vx_bipush (v := 18) IG dc_R_power_145 (by decide) ?_
        refine vx_callV (As := [.int 16, .int 17, .int 18]) (st := []) IG lw_good (cR_product LR ht2 ht3 R17 R18 (d := 16) (by decide) (by decide) (by decide) (by decide) (by decide) (by rw [c8 _ (by decide)]; omega)) (ro_M LR) rfl wC_R_product wL_R_86 wI_R_product wS_R_product wX_R 3 (by decide +kernel) rfl ⟨Nat.le_of_ble_eq_true rfl, Nat.le_of_ble_eq_true rfl⟩ ⟨(by dsimp only [rm_]; omega), (by dsimp only [rm_]; omega)⟩ rfl (Nat.le_of_ble_eq_true rfl) dc_R_power_147 (fun v h k_ n_ hq => ?_)
        rw [show (X a).natAbs ^ c * (X a).natAbs = (X a).natAbs ^ (c + 1) from (bp_succ _ _).symm] at hq
        obtain ⟨rfl, rfl, rfl, f1, g1, rfl, S1⟩ := hq
        obtain ⟨HP, HX⟩ := rp_up HP HX (show 16 ≤ 16 by decide) (show 16 < 24 by decide) S1
        show vx_V _ _ _ _ _ _ _ _ _ 150 [(7, .int (nI c)), (6, .int (nI st)), (5, .int bw_), (4, .int sm), (0, .ref (q 0)), (1, .int (nI d)), (2, .int (nI a)), (3, .int (nI n))] []
        have R16 := S1.2.2
        have l16 := R16.2.1
        rw [c8 _ (by decide)] at l16
        refine vx_aload_n IG dc_R_power_150 rfl 4 rfl ?_
        refine vx_get IG (ro_M LR) rfl 1 (by decide) inR wF_R_14 rfl rfl dc_R_power_151 ?_
        refine vx_bipush (v := 16) IG dc_R_power_154 (by decide) ?_
        refine rr_nld IG LR ht3 (by decide) (x := nI (nd 65536 ((X a).natAbs ^ (c + 1)))) R16.1 dc_R_power_156 ?_
        refine vx_sipush (v := 4096) IG dc_R_power_157 (by decide) ?_
        by_cases u : nd 65536 ((X a).natAbs ^ (c + 1)) ≤ 4096
        · refine vx_icmp_le (tgt := 165) IG dc_R_power_160 (by decide) (fun _ => ?_) (fun c_ => absurd (nI_le (b := 4096) u (by decide)) c_)
          refine vx_aload_n IG dc_R_power_165 rfl 4 rfl ?_
          refine vx_bipush (v := 17) IG dc_R_power_166 (by decide) ?_
          refine vx_bipush (v := 16) IG dc_R_power_168 (by decide) ?_
          refine vx_callV (As := [.int 17, .int 16]) (st := []) IG lw_good (cR_move LR ht2 ht3 R16 (d := 17) (by decide) (by decide) (by decide) (by rw [c8 _ (by decide)]; omega)) (ro_M LR) rfl wC_R_move wL_R_64 wI_R_move wS_R_move wX_R 2 (by decide +kernel) rfl ⟨Nat.le_of_ble_eq_true rfl, Nat.le_of_ble_eq_true rfl⟩ ⟨(by dsimp only [rm_]; omega), (by dsimp only [rm_]; omega)⟩ rfl (Nat.le_of_ble_eq_true rfl) dc_R_power_170 (fun v h k_ n_ hq => ?_)
          obtain ⟨rfl, rfl, rfl, f2, g2, rfl, S2⟩ := hq
          obtain ⟨HP, HX⟩ := rp_up HP HX (show 16 ≤ 17 by decide) (show 17 < 24 by decide) S2
          show vx_V _ _ _ _ _ _ _ _ _ 173 [(7, .int (nI c)), (6, .int (nI st)), (5, .int bw_), (4, .int sm), (0, .ref (q 0)), (1, .int (nI d)), (2, .int (nI a)), (3, .int (nI n))] []
          refine vx_iinc (q := 0) (v := nI (c + 1)) (lv' := [(7, .int (nI (c + 1))), (6, .int (nI st)), (5, .int bw_), (4, .int sm), (0, .ref (q 0)), (1, .int (nI d)), (2, .int (nI a)), (3, .int (nI n))]) IG dc_R_power_173 rfl (nI_1 c) (by decide) rfl ?_
          refine vx_goto (tgt := 133) IG dc_R_power_176 (by decide) ?_
          exact ih (c + 1) _ _ f2 g2 _ (by omega) HP HX rfl h18 u rfl rfl
        · refine vx_icmp_le (tgt := 165) IG dc_R_power_160 (by decide) (fun c_ => absurd c_ (nI_ge (a := 4096) (by omega) (by omega))) (fun _ => ?_)
          refine vx_iconst (v := 0) IG dc_R_power_163 (by decide) ?_
          have ub : ¬ bl ((X a).natAbs ^ (c + 1)) ≤ 65536 := fun e => u (lim16.mpr e)
          have hbig : ¬ bl (X a ^ n).natAbs ≤ 65536 := by
            rw [← hkz, kz_abs]
            rcases hcase with e | e
            · exfalso
              apply ub
              rw [pw_small e (by omega)]
              have := bl_mono e
              have h1 : bl 1 = 1 := rfl
              omega
            · rcases Nat.eq_zero_or_pos (X a).natAbs with y0 | y0
              · exfalso
                apply ub
                rw [y0, Nat.zero_pow (by omega)]
                decide
              · exact not_small ub (Nat.pow_le_pow_right y0 (by omega))
          refine vx_ret (some (.int 0)) RG (vx_endi (by first | rfl | decide) dc_R_power_164) rfl ?_
          unfold kp
          rw [kpV_0 hbig, kpX_0 hbig]
          exact ⟨rfl, rfl, rfl, f1, g1, s, _, rfl, HP, HX⟩
    -- behind the steps
    have steps : ∀ (st : Nat) (bw_ sm : Int32) (k m : Nat) (f g : Nat → Int32) (V : Nat → Nat), (bw_ = 0 ∨ bw_ = 1) → st < 2 ^ 31 → kz bw_ ((X a).natAbs ^ st) = X a ^ n → ((X a).natAbs ≤ 1 ∨ st = n) → rpic f g V → mreg X V s → V 17 = 1 → V 18 = (X a).natAbs → k = 0 → m = 0 → vx_V D vcl A H0 8 G (rH cI cZ q h0 f g s) k m 128 [(5, .int bw_), (4, .int sm), (0, .ref (q 0)), (1, .int (nI d)), (2, .int (nI a)), (3, .int (nI n))] [.int (nI st)] := by
      intro st bw_ sm k m f g V h1 h2 h3 h4 HP HX h17 h18 hk hm
      subst hk hm
      refine vx_istore (lv' := [(6, .int (nI st)), (5, .int bw_), (4, .int sm), (0, .ref (q 0)), (1, .int (nI d)), (2, .int (nI a)), (3, .int (nI n))]) IG dc_R_power_128 (by decide) rfl ?_
      refine vx_iconst (v := 0) IG dc_R_power_130 (by decide) ?_
      refine vx_istore (lv' := [(7, .int 0), (6, .int (nI st)), (5, .int bw_), (4, .int sm), (0, .ref (q 0)), (1, .int (nI d)), (2, .int (nI a)), (3, .int (nI n))]) IG dc_R_power_131 (by decide) rfl ?_
      exact loop st bw_ sm h1 h2 h3 h4 st 0 _ _ f g V (by omega) HP HX (by rw [h17, Nat.pow_zero]) h18 (by rw [Nat.pow_zero]; decide) rfl rfl
    -- behind the sign
    have sign : ∀ (bw_ sm : Int32) (k m : Nat) (f g : Nat → Int32) (V : Nat → Nat), (bw_ = 0 ∨ bw_ = 1) → (∀ st, st % 2 = n % 2 → (X a).natAbs ^ st = (X a).natAbs ^ n → kz bw_ ((X a).natAbs ^ st) = X a ^ n) → ((X a).natAbs ≤ 1 → sm = 1) → (¬ (X a).natAbs ≤ 1 → sm = 0) → rpic f g V → mreg X V s → V 17 = 1 → V 18 = (X a).natAbs → k = 0 → m = 0 → vx_V D vcl A H0 8 G (rH cI cZ q h0 f g s) k m 107 [(4, .int sm), (0, .ref (q 0)), (1, .int (nI d)), (2, .int (nI a)), (3, .int (nI n))] [.int bw_] := by
      intro bw_ sm k m f g V h1 h2 h3 h4 HP HX h17 h18 hk hm
      subst hk hm
      refine vx_istore (lv' := [(5, .int bw_), (4, .int sm), (0, .ref (q 0)), (1, .int (nI d)), (2, .int (nI a)), (3, .int (nI n))]) IG dc_R_power_107 (by decide) rfl ?_
      refine vx_iload IG dc_R_power_109 1 rfl ?_
      by_cases u : (X a).natAbs ≤ 1
      · refine vx_if_eq (tgt := 127) IG dc_R_power_111 (by decide) (fun c_ => absurd c_ (by rw [h3 u]; decide)) (fun _ => ?_)
        refine vx_iload_n IG dc_R_power_114 rfl 5 rfl ?_
        refine vx_iconst (v := 2) IG dc_R_power_115 (by decide) ?_
        by_cases v : n ≤ 2
        · refine vx_icmp_le (tgt := 127) IG dc_R_power_116 (by decide) (fun _ => ?_) (fun c_ => absurd (nI_le (b := 2) v (by decide)) c_)
          refine vx_iload_n IG dc_R_power_127 rfl 5 rfl ?_
          exact steps n bw_ sm _ _ f g V h1 hn (h2 n rfl rfl) (Or.inr rfl) HP HX h17 h18 rfl rfl
        · refine vx_icmp_le (tgt := 127) IG dc_R_power_116 (by decide) (fun c_ => absurd c_ (nI_ge (a := 2) (by omega) hn)) (fun _ => ?_)
          refine vx_iconst (v := 2) IG dc_R_power_119 (by decide) ?_
          refine vx_iload_n IG dc_R_power_120 rfl 5 rfl ?_
          refine vx_iconst (v := 2) IG dc_R_power_121 (by decide) ?_
          refine vx_irem IG dc_R_power_122 (by decide) ?_
          refine vx_topi (y := nI (n % 2)) (pk_rem (d := 2) hn (by decide) (by decide)) ?_
          refine vx_isub IG dc_R_power_123 ?_
          refine vx_topi (y := nI (2 - n % 2)) (pk_sub (a := 2) (by omega)) ?_
          refine vx_goto (tgt := 128) IG dc_R_power_124 (by decide) ?_
          refine steps (2 - n % 2) bw_ sm _ _ f g V h1 (by omega) (h2 _ (by omega) (p_small u (by omega))) (Or.inl u) HP HX h17 h18 rfl rfl
      · refine vx_if_eq (tgt := 127) IG dc_R_power_111 (by decide) (fun _ => ?_) (fun c_ => absurd (h4 u) c_)
        refine vx_iload_n IG dc_R_power_127 rfl 5 rfl ?_
        exact steps n bw_ sm _ _ f g V h1 hn (h2 n rfl rfl) (Or.inr rfl) HP HX h17 h18 rfl rfl
    -- behind small
    have small : ∀ (sm : Int32) (k m : Nat), ((X a).natAbs ≤ 1 → sm = 1) → (¬ (X a).natAbs ≤ 1 → sm = 0) → k = 0 → m = 0 → vx_V D vcl A H0 8 G (rH cI cZ q h0 f g s) k m 57 [(0, .ref (q 0)), (1, .int (nI d)), (2, .int (nI a)), (3, .int (nI n))] [.int sm] := by
      intro sm k m h3 h4 hk hm
      subst hk hm
      refine vx_istore (lv' := [(4, .int sm), (0, .ref (q 0)), (1, .int (nI d)), (2, .int (nI a)), (3, .int (nI n))]) IG dc_R_power_57 (by decide) rfl ?_
      refine vx_aload_n IG dc_R_power_59 rfl 1 rfl ?_
      refine vx_bipush (v := 18) IG dc_R_power_60 (by decide) ?_
      refine vx_iload_n IG dc_R_power_62 rfl 3 rfl ?_
      refine vx_callV (As := [.int 18, .int (nI a)]) (st := []) IG lw_good (cR_move LR ht2 ht3 Ra (d := 18) (by decide) (by omega) (by omega) (by rw [c8 _ (by decide)]; omega)) (ro_M LR) rfl wC_R_move wL_R_64 wI_R_move wS_R_move wX_R 2 (by decide +kernel) rfl ⟨Nat.le_of_ble_eq_true rfl, Nat.le_of_ble_eq_true rfl⟩ ⟨(by dsimp only [rm_]; omega), (by dsimp only [rm_]; omega)⟩ rfl (Nat.le_of_ble_eq_true rfl) dc_R_power_63 (fun v h k_ n_ hq => ?_)
      obtain ⟨rfl, rfl, rfl, f1, g1, rfl, S1⟩ := hq
      obtain ⟨HP, HX⟩ := rp_up HP HX (show 16 ≤ 18 by decide) (show 18 < 24 by decide) S1
      show vx_V _ _ _ _ _ _ _ _ _ 66 [(4, .int sm), (0, .ref (q 0)), (1, .int (nI d)), (2, .int (nI a)), (3, .int (nI n))] []
      refine vx_aload_n IG dc_R_power_66 rfl 1 rfl ?_
      refine vx_bipush (v := 17) IG dc_R_power_67 (by decide) ?_
      refine vx_lconst (v := 1) IG dc_R_power_69 (by decide) ?_
      refine vx_callV (As := [.int 17, .long 1]) (st := []) IG lw_good (cR_set LR ht2 ht3 (d := 17) (b := 1) (by decide) (by decide)) (ro_M LR) rfl wC_R_set wL_R_71 wI_R_set wS_R_set wX_R 2 (by decide +kernel) rfl ⟨Nat.le_of_ble_eq_true rfl, Nat.le_of_ble_eq_true rfl⟩ ⟨(by dsimp only [rm_]; omega), (by dsimp only [rm_]; omega)⟩ rfl (Nat.le_of_ble_eq_true rfl) dc_R_power_70 (fun v h k_ n_ hq => ?_)
      obtain ⟨rfl, rfl, rfl, f2, g2, rfl, S2⟩ := hq
      obtain ⟨HP, HX⟩ := rp_up HP HX (show 16 ≤ 17 by decide) (show 17 < 24 by decide) S2
      show vx_V _ _ _ _ _ _ _ _ _ 73 [(4, .int sm), (0, .ref (q 0)), (1, .int (nI d)), (2, .int (nI a)), (3, .int (nI n))] []
      refine vx_iload IG dc_R_power_73 0 rfl ?_
      have next : ∀ (k m : Nat), k = 0 → m = 0 → vx_V D vcl A H0 8 G (rH cI cZ q h0 f2 g2 s) k m 86 [(4, .int sm), (0, .ref (q 0)), (1, .int (nI d)), (2, .int (nI a)), (3, .int (nI n))] [] := by
        intro k m hk hm
        subst hk hm
        refine vx_aload_n IG dc_R_power_86 rfl 1 rfl ?_
        refine vx_get IG (ro_M LR) rfl 2 (by decide) inR wF_R_17 rfl rfl dc_R_power_87 ?_
        refine vx_iload_n IG dc_R_power_90 rfl 3 rfl ?_
        refine rr_zld IG LR ht2 ha (x := sgI (X a)) Ba dc_R_power_91 ?_
        by_cases u : X a < 0
        · refine vx_if_eq (tgt := 106) IG dc_R_power_92 (by decide) (fun c_ => absurd c_ (by rw [sgI_neg u]; decide)) (fun _ => ?_)
          refine vx_iload_n IG dc_R_power_95 rfl 4 rfl ?_
          refine vx_iconst (v := 2) IG dc_R_power_96 (by decide) ?_
          refine vx_irem IG dc_R_power_97 (by decide) ?_
          refine vx_topi (y := nI (n % 2)) (pk_rem (d := 2) hn (by decide) (by decide)) ?_
          refine vx_iconst (v := 1) IG dc_R_power_98 (by decide) ?_
          by_cases v : n % 2 = 1
          · refine vx_icmp_ne (tgt := 106) IG dc_R_power_99 (by decide) (fun c_ => absurd (by rw [v]; rfl) c_) (fun _ => ?_)
            refine vx_iconst (v := 1) IG dc_R_power_102 (by decide) ?_
            refine vx_goto (tgt := 107) IG dc_R_power_103 (by decide) ?_
            exact sign 1 sm _ _ f2 g2 _ (Or.inr rfl) (fun st e1 e2 => by rw [e2]; exact kz_pw1 u v) h3 h4 HP HX rfl rfl rfl rfl
          · refine vx_icmp_ne (tgt := 106) IG dc_R_power_99 (by decide) (fun _ => ?_) (fun c_ => absurd c_ (nI_ne (by omega) (b := 1) (by decide) v))
            refine vx_iconst (v := 0) IG dc_R_power_106 (by decide) ?_
            exact sign 0 sm _ _ f2 g2 _ (Or.inl rfl) (fun st e1 e2 => by rw [e2]; exact kz_pw0 (fun e => v e.2)) h3 h4 HP HX rfl rfl rfl rfl
        · refine vx_if_eq (tgt := 106) IG dc_R_power_92 (by decide) (fun _ => ?_) (fun c_ => absurd (sgI_pos u) c_)
          refine vx_iconst (v := 0) IG dc_R_power_106 (by decide) ?_
          exact sign 0 sm _ _ f2 g2 _ (Or.inl rfl) (fun st e1 e2 => by rw [e2]; exact kz_pw0 (fun e => u e.1)) h3 h4 HP HX rfl rfl rfl rfl
      by_cases u : (X a).natAbs ≤ 1
      · refine vx_if_ne (tgt := 86) IG dc_R_power_75 (by decide) (fun _ => ?_) (fun c_ => absurd c_ (by rw [h3 u]; decide))
        exact next _ _ rfl rfl
      · refine vx_if_ne (tgt := 86) IG dc_R_power_75 (by decide) (fun c_ => absurd (h4 u) c_) (fun _ => ?_)
        refine vx_iload_n IG dc_R_power_78 rfl 4 rfl ?_
        refine vx_ldc (v := 65536) IG wK_R_21 dc_R_power_79 ?_
        by_cases v : n ≤ 65536
        · refine vx_icmp_le (tgt := 86) IG dc_R_power_81 (by decide) (fun _ => ?_) (fun c_ => absurd (nI_le (b := 65536) v (by decide)) c_)
          exact next _ _ rfl rfl
        · refine vx_icmp_le (tgt := 86) IG dc_R_power_81 (by decide) (fun c_ => absurd c_ (nI_ge (a := 65536) (by omega) hn)) (fun _ => ?_)
          refine vx_iconst (v := 0) IG dc_R_power_84 (by decide) ?_
          refine vx_ret (some (.int 0)) RG (vx_endi (by first | rfl | decide) dc_R_power_85) rfl ?_
          have hbig : ¬ bl (X a ^ n).natAbs ≤ 65536 := by rw [Int.natAbs_pow]; exact p_big u (by omega)
          unfold kp
          rw [kpV_0 hbig, kpX_0 hbig]
          exact ⟨rfl, rfl, rfl, f2, g2, s, _, rfl, HP, HX⟩
    refine vx_aload_n IG dc_R_power_20 rfl 0 rfl ?_
    refine vx_get IG (ro_M LR) rfl 1 (by decide) inR wF_R_14 rfl rfl dc_R_power_21 ?_
    refine vx_iload_n IG dc_R_power_24 rfl 2 rfl ?_
    refine rr_nld IG LR ht3 (show a < 24 by omega) (x := nI (nd 65536 (X a).natAbs)) Ra.1 dc_R_power_25 ?_
    by_cases u : (X a).natAbs = 0
    · refine vx_if_eq (tgt := 52) IG dc_R_power_26 (by decide) (fun _ => ?_) (fun c_ => absurd (by rw [u]; rfl) c_)
      refine vx_iconst (v := 1) IG dc_R_power_52 (by decide) ?_
      refine vx_goto (tgt := 57) IG dc_R_power_53 (by decide) ?_
      exact small 1 _ _ (fun _ => rfl) (fun e => absurd (by omega) e) rfl rfl
    · have hn0 : nd 65536 (X a).natAbs ≠ 0 := fun e => u ((nd_eq_zero b16).mp e)
      refine vx_if_eq (tgt := 52) IG dc_R_power_26 (by decide) (fun c_ => absurd c_ (nI_ne (by omega) (b := 0) (by decide) hn0)) (fun _ => ?_)
      refine vx_aload_n IG dc_R_power_29 rfl 0 rfl ?_
      refine vx_get IG (ro_M LR) rfl 1 (by decide) inR wF_R_14 rfl rfl dc_R_power_30 ?_
      refine vx_iload_n IG dc_R_power_33 rfl 2 rfl ?_
      refine rr_nld IG LR ht3 (show a < 24 by omega) (x := nI (nd 65536 (X a).natAbs)) Ra.1 dc_R_power_34 ?_
      refine vx_iconst (v := 1) IG dc_R_power_35 (by decide) ?_
      by_cases v : nd 65536 (X a).natAbs = 1
      · refine vx_icmp_ne (tgt := 56) IG dc_R_power_36 (by decide) (fun c_ => absurd (by rw [v]; rfl) c_) (fun _ => ?_)
        refine vx_aload_n IG dc_R_power_39 rfl 0 rfl ?_
        refine vx_get IG (ro_M LR) rfl 0 (by decide) inR wF_R_8 rfl rfl dc_R_power_40 ?_
        refine vx_iload_n IG dc_R_power_43 rfl 2 rfl ?_
        refine vx_callS (As := [.int (nI a)]) (st := [.ref (q 1)]) IG lw_good (cR_at _ a (show a < 24 by omega)) wC_R_at wL_R_22 wT_R_at wX_R 1 (by decide +kernel) rfl ⟨Nat.le_of_ble_eq_true rfl, Nat.le_of_ble_eq_true rfl⟩ ⟨(by dsimp only [rm_]; omega), (by dsimp only [rm_]; omega)⟩ rfl (Nat.le_of_ble_eq_true rfl) dc_R_power_44 (fun v h k_ n_ hq => ?_)
        obtain ⟨rfl, rfl, rfl, rfl⟩ := hq
        show vx_V _ _ _ _ _ _ _ _ _ 47 [(0, .ref (q 0)), (1, .int (nI d)), (2, .int (nI a)), (3, .int (nI n))] [.int (nI (rt a)), .ref (q 1)]
        have e0 : dg 65536 (X a).natAbs 0 = (X a).natAbs := by
          have := (nd_le b16 (N := (X a).natAbs) (c := 1)).mp (by omega)
          unfold dg
          rw [Nat.pow_zero, Nat.div_one, Nat.mod_eq_of_lt this]
        have hlt := dg_lt b16 (X a).natAbs 0
        rw [e0] at hlt
        refine rr_mld IG LR ht3 (rt_lt (by omega)) (x := nI (X a).natAbs) (by rw [← e0]; exact Ra.2.2 0 (by omega)) dc_R_power_47 ?_
        refine vx_iconst (v := 1) IG dc_R_power_48 (by decide) ?_
        by_cases x1 : (X a).natAbs = 1
        · refine vx_icmp_ne (tgt := 56) IG dc_R_power_49 (by decide) (fun c_ => absurd (by rw [x1]; rfl) c_) (fun _ => ?_)
          refine vx_iconst (v := 1) IG dc_R_power_52 (by decide) ?_
          refine vx_goto (tgt := 57) IG dc_R_power_53 (by decide) ?_
          exact small 1 _ _ (fun _ => rfl) (fun e => absurd (by omega) e) rfl rfl
        · refine vx_icmp_ne (tgt := 56) IG dc_R_power_49 (by decide) (fun _ => ?_) (fun c_ => absurd c_ (nI_ne (by omega) (b := 1) (by decide) x1))
          refine vx_iconst (v := 0) IG dc_R_power_56 (by decide) ?_
          exact small 0 _ _ (fun e => by omega) (fun _ => rfl) rfl rfl
      · refine vx_icmp_ne (tgt := 56) IG dc_R_power_36 (by decide) (fun _ => ?_) (fun c_ => absurd c_ (nI_ne (by omega) (b := 1) (by decide) v))
        refine vx_iconst (v := 0) IG dc_R_power_56 (by decide) ?_
        refine small 0 _ _ (fun e => absurd ?_ v) (fun _ => rfl) rfl rfl
        have := (nd_le b16 (N := (X a).natAbs) (c := 1)).mpr (by omega)
        omega
  · refine vx_if_ge (tgt := 20) IG dc_R_power_15 (by decide) (fun c_ => absurd c_ y) (fun _ => ?_)
    refine vx_iconst (v := 0) IG dc_R_power_18 (by decide) ?_
    refine vx_ret (some (.int 0)) RG (vx_endi (by first | rfl | decide) dc_R_power_19) rfl ?_
    rw [if_neg (fun e => y (by rw [Int32.le_iff_toInt_le, i0]; exact e))]
    exact ⟨rfl, rfl, rfl, f, g, s, V, rfl, HP, HX⟩
end
