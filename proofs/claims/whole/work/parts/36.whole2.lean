/-! Whole: isOne, firstDigit, lowestOne; trailing zeros -/
theorem dg_bit (N k : Nat) {j : Nat} (hj : j < 32) : dg 4294967296 N k / 2 ^ j % 2 = N / 2 ^ (32 * k + j) % 2 := by
  unfold dg
  have e1 : N / 2 ^ (32 * k + j) = N / 4294967296 ^ k / 2 ^ j := by rw [bp32, Nat.div_div_eq_div_mul, ← Nat.pow_add]
  rw [e1]
  generalize N / 4294967296 ^ k = x
  have e2 : x % 4294967296 / 2 ^ j = x / 2 ^ j % 2 ^ (32 - j) := by
    rw [bB2 (l := j) (by omega), Nat.mod_mul_right_div_self]
  rw [e2, Nat.mod_mod_of_dvd]
  rw [show 32 - j = (31 - j) + 1 by omega, Nat.pow_succ]
  exact Nat.dvd_mul_left 2 _
theorem ex_tz (N : Nat) (h : 0 < N) : ∃ t m, N = 2 ^ t * (2 * m + 1) := by
  induction N using Nat.strongRecOn with
  | _ N ih =>
    by_cases z : N % 2 = 1
    · exact ⟨0, N / 2, by rw [Nat.pow_zero]; omega⟩
    · obtain ⟨t, m, e⟩ := ih (N / 2) (by omega) (by omega)
      refine ⟨t + 1, m, ?_⟩
      rw [Nat.pow_succ, Nat.mul_comm (2 ^ t) 2, Nat.mul_assoc, ← e]
      omega
theorem tz_and {t m : Nat} (h : 2 ^ t * (2 * m + 1) < 2 ^ 32) : (2 ^ 32 - 1 - 2 ^ t * (2 * m + 1)) &&& (2 ^ t * (2 * m + 1) - 1) = 2 ^ t - 1 := by
  have hp : 0 < 2 ^ t := Nat.pow_pos (by decide)
  have e1 : 2 ^ t * (2 * m + 1) - 1 = 2 ^ t * (2 * m) + (2 ^ t - 1) := by rw [Nat.mul_add, Nat.mul_one]; omega
  apply Nat.eq_of_testBit_eq
  intro i
  rw [Nat.testBit_and, Nat.testBit_two_pow_sub_one, show 2 ^ 32 - 1 - 2 ^ t * (2 * m + 1) = 2 ^ 32 - (2 ^ t * (2 * m + 1) + 1) by omega, Nat.testBit_two_pow_sub_succ h, e1, Nat.testBit_two_pow_mul_add _ (by omega), Nat.testBit_two_pow_mul]
  by_cases z : i < t
  · rw [if_pos z, Nat.testBit_two_pow_sub_one]
    have z2 : i < 32 := by
      rcases Nat.lt_or_ge i 32 with q | q
      · exact q
      · have : 2 ^ 32 ≤ 2 ^ t := Nat.pow_le_pow_right (by decide) (by omega)
        have h3 : 2 ^ t * 1 ≤ 2 ^ t * (2 * m + 1) := Nat.mul_le_mul_left _ (by omega)
        omega
    simp [z, z2, Nat.not_le.mpr z]
  · rw [if_neg z]
    simp only [z, decide_false]
    by_cases y : i = t
    · subst y
      simp
    · obtain ⟨j, hj⟩ : ∃ j, i - t = j + 1 := ⟨i - t - 1, by omega⟩
      rw [hj, Nat.testBit_succ, Nat.testBit_succ, show 2 * m / 2 = m by omega, show (2 * m + 1) / 2 = m by omega]
      have : i ≥ t := by omega
      simp only [this, decide_true, Bool.true_and]
      cases (decide (i < 32)) <;> cases m.testBit j <;> rfl
theorem nI_tz {t m : Nat} (h : 2 ^ t * (2 * m + 1) < 2 ^ 32) : (nI (2 ^ t * (2 * m + 1)) ^^^ (-1)) &&& (nI (2 ^ t * (2 * m + 1)) - 1) = nI (2 ^ t - 1) := by
  have hp : 0 < 2 ^ t * (2 * m + 1) := Nat.mul_pos (Nat.pow_pos (by decide)) (by omega)
  have h0 := tz_and h
  generalize 2 ^ t * (2 * m + 1) = d at *
  have e1 : nI d - 1 = nI (d - 1) := by obtain ⟨b, rfl⟩ : ∃ b, d = b + 1 := ⟨d - 1, by omega⟩; exact nI_pred b
  rw [e1, ← h0]
  apply Int32.toBitVec_inj.mp
  apply BitVec.eq_of_toNat_eq
  show ((BitVec.ofNat 32 d ^^^ BitVec.allOnes 32) &&& BitVec.ofNat 32 (d - 1)).toNat = (BitVec.ofNat 32 _).toNat
  rw [BitVec.xor_allOnes, BitVec.toNat_and, BitVec.toNat_not, BitVec.toNat_ofNat, BitVec.toNat_ofNat, BitVec.toNat_ofNat, Nat.mod_eq_of_lt h, Nat.mod_eq_of_lt (show d - 1 < 2 ^ 32 by omega), Nat.mod_eq_of_lt]
  exact Nat.and_lt_two_pow _ (by omega)
theorem p2_gt {u w : Nat} : 2 ^ w < 2 ^ u - 1 ↔ w + 1 < u ∨ (w + 1 = u ∧ 0 < w) := by
  constructor
  · intro h
    rcases Nat.lt_or_ge (w + 1) u with q | q
    · exact Or.inl q
    · rcases Nat.lt_or_ge u (w + 1) with q2 | q2
      · have : 2 ^ u ≤ 2 ^ w := Nat.pow_le_pow_right (by decide) (by omega)
        exact absurd (Nat.lt_of_lt_of_le h (Nat.sub_le _ _)) (Nat.not_lt.mpr this)
      · refine Or.inr ⟨by omega, ?_⟩
        rcases Nat.eq_zero_or_pos w with z | z
        · rw [show u = 1 by omega, z] at h; omega
        · exact z
  · intro h
    rcases h with h | ⟨h, h0⟩
    · have h1 : 2 ^ (w + 2) ≤ 2 ^ u := Nat.pow_le_pow_right (by decide) (by omega)
      have h2 : 0 < 2 ^ w := Nat.pow_pos (by decide)
      rw [Nat.pow_add] at h1
      omega
    · rw [← h, Nat.pow_succ]
      have : 2 ^ 1 ≤ 2 ^ w := Nat.pow_le_pow_right (by decide) h0
      omega
theorem p2_div (u k : Nat) (h : k ≤ u) : (2 ^ u - 1) / 2 ^ k = 2 ^ (u - k) - 1 := by
  have hp : 0 < 2 ^ k := Nat.pow_pos (by decide)
  have hq : 0 < 2 ^ (u - k) := Nat.pow_pos (by decide)
  have e : 2 ^ u - 1 = (2 ^ k - 1) + 2 ^ k * (2 ^ (u - k) - 1) := by
    rw [Nat.mul_sub, Nat.mul_one, ← Nat.pow_add, show k + (u - k) = u by omega]
    have : 2 ^ k ≤ 2 ^ u := Nat.pow_le_pow_right (by decide) h
    omega
  rw [e, Nat.add_mul_div_left _ _ hp, Nat.div_eq_of_lt (by omega), Nat.zero_add]
section
variable {l : Launch} {D : va_G} {tys : List (ClassId × FieldType)}
set_option maxRecDepth 100000 in
set_option maxHeartbeats 4000000 in
theorem cJI_ntz (h : vx_h) {t m : Nat} (hd : 2 ^ t * (2 * m + 1) < 2 ^ 32) : vx_M l D vcl tys my_JI_numberOfTrailingZeros lw_gd (rm_ 0 0 0 0) [.int (nI (2 ^ t * (2 * m + 1)))] h (fun v h' k n => v = some (.int (nI t)) ∧ h' = h ∧ k = 0 ∧ n = 0) := by
  have ht31 : t < 32 := by
    rcases Nat.lt_or_ge t 32 with q | q
    · exact q
    · have : 2 ^ 32 ≤ 2 ^ t := Nat.pow_le_pow_right (by decide) q
      have h3 : 2 ^ t * 1 ≤ 2 ^ t * (2 * m + 1) := Nat.mul_le_mul_left _ (by omega)
      omega
  have h31 : ∀ u, u ≤ t → 2 ^ u - 1 < 2 ^ 31 := fun u hu => by
    have : 2 ^ u ≤ 2 ^ 31 := Nat.pow_le_pow_right (by decide) (by omega)
    have := Nat.pow_pos (n := u) (show 0 < 2 by decide)
    omega
  refine vx_M.ofV (cc := bc_JI_numberOfTrailingZeros) (maxL := 2) (ret := some .int) (own := "java/lang/Integer") false rfl (by decide +kernel) wC_JI_numberOfTrailingZeros (fun q => by cases q) (Nat.le_of_ble_eq_true rfl) (fun A H0 G IG RG => ?_)
  show vx_V _ _ _ _ _ _ _ _ _ 0 [(0, .int (nI (2 ^ t * (2 * m + 1))))] []
  have p74 : ∀ (u : Nat), u ≤ t → 0 < u → u ≤ 2 → vx_V D vcl A H0 2 G h 0 0 74 [(0, .int (nI (2 ^ u - 1))), (1, .int (nI (1 + (t - u))))] [] := by
    intro u h1 h2 h3
    refine vx_iload_n IG dc_JI_numberOfTrailingZeros_74 rfl 1 rfl ?_
    refine vx_iload_n IG dc_JI_numberOfTrailingZeros_75 rfl 0 rfl ?_
    refine vx_iconst (v := 1) IG dc_JI_numberOfTrailingZeros_76 (by decide) ?_
    refine vx_iushr (v := nI (u - 1)) IG dc_JI_numberOfTrailingZeros_77 (by rw [pk_ushrN (by have := h31 u h1; omega) 1 1 (by decide)]; congr 1; rcases (show u = 1 ∨ u = 2 by omega) with rfl | rfl <;> rfl) ?_
    refine vx_iadd IG dc_JI_numberOfTrailingZeros_78 ?_
    refine vx_topi (y := nI t) (by rw [nI_add]; congr 1; omega) ?_
    refine vx_ret (some (.int (nI t))) RG (vx_endi (by first | rfl | decide) dc_JI_numberOfTrailingZeros_79) rfl ?_
    exact ⟨rfl, rfl, rfl, rfl⟩
  have p62 : ∀ (u : Nat), u ≤ t → 0 < u → u ≤ 4 → vx_V D vcl A H0 2 G h 0 0 62 [(0, .int (nI (2 ^ u - 1))), (1, .int (nI (1 + (t - u))))] [] := by
    intro u h1 h2 h3
    have hb := h31 u h1
    refine vx_iload_n IG dc_JI_numberOfTrailingZeros_62 rfl 0 rfl ?_
    refine vx_iconst (v := 4) IG dc_JI_numberOfTrailingZeros_63 (by decide) ?_
    by_cases z : u ≤ 2
    · refine vx_icmp_le (tgt := 74) IG dc_JI_numberOfTrailingZeros_64 (by decide) (fun _ => ?_) (fun c_ => absurd (nI_le (b := 4) (Nat.le_of_not_lt (fun q => by rcases (p2_gt (w := 2)).mp q with y | y <;> omega)) (by decide)) c_)
      exact p74 u h1 h2 z
    · refine vx_icmp_le (tgt := 74) IG dc_JI_numberOfTrailingZeros_64 (by decide) (fun c_ => absurd c_ (nI_ge (a := 4) ((p2_gt (w := 2)).mpr (by omega)) hb)) (fun _ => ?_)
      refine vx_iinc (q := 1) (v := nI (1 + (t - (u - 2)))) (lv' := [(1, .int (nI (1 + (t - (u - 2))))), (0, .int (nI (2 ^ u - 1)))]) IG dc_JI_numberOfTrailingZeros_67 rfl (by rw [show Int32.ofInt 2 = nI 2 from rfl, nI_add]; congr 1; omega) (by decide) rfl ?_
      refine vx_iload_n IG dc_JI_numberOfTrailingZeros_70 rfl 1 rfl ?_
      refine vx_iconst (v := 2) IG dc_JI_numberOfTrailingZeros_71 (by decide) ?_
      refine vx_iushr (v := nI (2 ^ (u - 2) - 1)) IG dc_JI_numberOfTrailingZeros_72 (by rw [← p2_div u 2 (by omega)]; exact pk_ushrN (by omega) 2 2 (by decide)) ?_
      refine vx_istore_n (lv' := [(0, .int (nI (2 ^ (u - 2) - 1))), (1, .int (nI (1 + (t - (u - 2)))))]) IG dc_JI_numberOfTrailingZeros_73 rfl (by decide) rfl ?_
      exact p74 (u - 2) (by omega) (by omega) (by omega)
  have p49 : ∀ (u : Nat), u ≤ t → 0 < u → u ≤ 8 → vx_V D vcl A H0 2 G h 0 0 49 [(0, .int (nI (2 ^ u - 1))), (1, .int (nI (1 + (t - u))))] [] := by
    intro u h1 h2 h3
    have hb := h31 u h1
    refine vx_iload_n IG dc_JI_numberOfTrailingZeros_49 rfl 0 rfl ?_
    refine vx_bipush (v := 16) IG dc_JI_numberOfTrailingZeros_50 (by decide) ?_
    by_cases z : u ≤ 4
    · refine vx_icmp_le (tgt := 62) IG dc_JI_numberOfTrailingZeros_52 (by decide) (fun _ => ?_) (fun c_ => absurd (nI_le (b := 16) (Nat.le_of_not_lt (fun q => by rcases (p2_gt (w := 4)).mp q with y | y <;> omega)) (by decide)) c_)
      exact p62 u h1 h2 z
    · refine vx_icmp_le (tgt := 62) IG dc_JI_numberOfTrailingZeros_52 (by decide) (fun c_ => absurd c_ (nI_ge (a := 16) ((p2_gt (w := 4)).mpr (by omega)) hb)) (fun _ => ?_)
      refine vx_iinc (q := 1) (v := nI (1 + (t - (u - 4)))) (lv' := [(1, .int (nI (1 + (t - (u - 4))))), (0, .int (nI (2 ^ u - 1)))]) IG dc_JI_numberOfTrailingZeros_55 rfl (by rw [show Int32.ofInt 4 = nI 4 from rfl, nI_add]; congr 1; omega) (by decide) rfl ?_
      refine vx_iload_n IG dc_JI_numberOfTrailingZeros_58 rfl 1 rfl ?_
      refine vx_iconst (v := 4) IG dc_JI_numberOfTrailingZeros_59 (by decide) ?_
      refine vx_iushr (v := nI (2 ^ (u - 4) - 1)) IG dc_JI_numberOfTrailingZeros_60 (by rw [← p2_div u 4 (by omega)]; exact pk_ushrN (by omega) 4 4 (by decide)) ?_
      refine vx_istore_n (lv' := [(0, .int (nI (2 ^ (u - 4) - 1))), (1, .int (nI (1 + (t - (u - 4)))))]) IG dc_JI_numberOfTrailingZeros_61 rfl (by decide) rfl ?_
      exact p62 (u - 4) (by omega) (by omega) (by omega)
  have p34 : ∀ (u : Nat), u ≤ t → 0 < u → u ≤ 16 → vx_V D vcl A H0 2 G h 0 0 34 [(0, .int (nI (2 ^ u - 1))), (1, .int (nI (1 + (t - u))))] [] := by
    intro u h1 h2 h3
    have hb := h31 u h1
    refine vx_iload_n IG dc_JI_numberOfTrailingZeros_34 rfl 0 rfl ?_
    refine vx_sipush (v := 256) IG dc_JI_numberOfTrailingZeros_35 (by decide) ?_
    by_cases z : u ≤ 8
    · refine vx_icmp_le (tgt := 49) IG dc_JI_numberOfTrailingZeros_38 (by decide) (fun _ => ?_) (fun c_ => absurd (nI_le (b := 256) (Nat.le_of_not_lt (fun q => by rcases (p2_gt (w := 8)).mp q with y | y <;> omega)) (by decide)) c_)
      exact p49 u h1 h2 z
    · refine vx_icmp_le (tgt := 49) IG dc_JI_numberOfTrailingZeros_38 (by decide) (fun c_ => absurd c_ (nI_ge (a := 256) ((p2_gt (w := 8)).mpr (by omega)) hb)) (fun _ => ?_)
      refine vx_iinc (q := 1) (v := nI (1 + (t - (u - 8)))) (lv' := [(1, .int (nI (1 + (t - (u - 8))))), (0, .int (nI (2 ^ u - 1)))]) IG dc_JI_numberOfTrailingZeros_41 rfl (by rw [show Int32.ofInt 8 = nI 8 from rfl, nI_add]; congr 1; omega) (by decide) rfl ?_
      refine vx_iload_n IG dc_JI_numberOfTrailingZeros_44 rfl 1 rfl ?_
      refine vx_bipush (v := 8) IG dc_JI_numberOfTrailingZeros_45 (by decide) ?_
      refine vx_iushr (v := nI (2 ^ (u - 8) - 1)) IG dc_JI_numberOfTrailingZeros_47 (by rw [← p2_div u 8 (by omega)]; exact pk_ushrN (by omega) 8 8 (by decide)) ?_
      refine vx_istore_n (lv' := [(0, .int (nI (2 ^ (u - 8) - 1))), (1, .int (nI (1 + (t - (u - 8)))))]) IG dc_JI_numberOfTrailingZeros_48 rfl (by decide) rfl ?_
      exact p49 (u - 8) (by omega) (by omega) (by omega)
  refine vx_iload_n IG dc_JI_numberOfTrailingZeros_0 rfl 0 rfl ?_
  refine vx_iconst (v := -1) IG dc_JI_numberOfTrailingZeros_1 (by decide) ?_
  refine vx_ixor IG dc_JI_numberOfTrailingZeros_2 ?_
  refine vx_iload_n IG dc_JI_numberOfTrailingZeros_3 rfl 0 rfl ?_
  refine vx_iconst (v := 1) IG dc_JI_numberOfTrailingZeros_4 (by decide) ?_
  refine vx_isub IG dc_JI_numberOfTrailingZeros_5 ?_
  refine vx_iand IG dc_JI_numberOfTrailingZeros_6 ?_
  refine vx_topi (y := nI (2 ^ t - 1)) (nI_tz hd) ?_
  refine vx_istore_n (lv' := [(0, .int (nI (2 ^ t - 1)))]) IG dc_JI_numberOfTrailingZeros_7 rfl (by decide) rfl ?_
  refine vx_iload_n IG dc_JI_numberOfTrailingZeros_8 rfl 0 rfl ?_
  have hb := h31 t (Nat.le_refl t)
  by_cases z : t = 0
  · refine vx_if_gt (tgt := 17) IG dc_JI_numberOfTrailingZeros_9 (by decide) (fun c_ => absurd c_ (by rw [z]; decide)) (fun _ => ?_)
    refine vx_iload_n IG dc_JI_numberOfTrailingZeros_12 rfl 0 rfl ?_
    refine vx_bipush (v := 32) IG dc_JI_numberOfTrailingZeros_13 (by decide) ?_
    refine vx_iand IG dc_JI_numberOfTrailingZeros_15 ?_
    refine vx_topi (y := nI t) (by rw [z]; decide) ?_
    refine vx_ret (some (.int (nI t))) RG (vx_endi (by first | rfl | decide) dc_JI_numberOfTrailingZeros_16) rfl ?_
    exact ⟨rfl, rfl, rfl, rfl⟩
  · refine vx_if_gt (tgt := 17) IG dc_JI_numberOfTrailingZeros_9 (by decide) (fun _ => ?_) (fun c_ => absurd (nI_lt (a := 0) (by have : 2 ^ 1 ≤ 2 ^ t := Nat.pow_le_pow_right (by decide) (by omega); omega) hb) c_)
    refine vx_iconst (v := 1) IG dc_JI_numberOfTrailingZeros_17 (by decide) ?_
    refine vx_istore_n (lv' := [(1, .int 1), (0, .int (nI (2 ^ t - 1)))]) IG dc_JI_numberOfTrailingZeros_18 rfl (by decide) rfl ?_
    refine vx_iload_n IG dc_JI_numberOfTrailingZeros_19 rfl 1 rfl ?_
    refine vx_ldcw (v := 65536) IG wK_JI_264 dc_JI_numberOfTrailingZeros_20 ?_
    by_cases y : t ≤ 16
    · refine vx_icmp_le (tgt := 34) IG dc_JI_numberOfTrailingZeros_23 (by decide) (fun _ => ?_) (fun c_ => absurd (nI_le (b := 65536) (Nat.le_of_not_lt (fun q => by rcases (p2_gt (w := 16)).mp q with y | y <;> omega)) (by decide)) c_)
      refine vx_same (lv' := [(0, .int (nI (2 ^ t - 1))), (1, .int 1)]) IG [1, 0] rfl ?_
      have := p34 t (Nat.le_refl t) (by omega) y
      rw [Nat.sub_self] at this
      exact this
    · refine vx_icmp_le (tgt := 34) IG dc_JI_numberOfTrailingZeros_23 (by decide) (fun c_ => absurd c_ (nI_ge (a := 65536) ((p2_gt (w := 16)).mpr (by omega)) hb)) (fun _ => ?_)
      refine vx_iinc (q := 0) (v := nI (1 + (t - (t - 16)))) (lv' := [(1, .int (nI (1 + (t - (t - 16))))), (0, .int (nI (2 ^ t - 1)))]) IG dc_JI_numberOfTrailingZeros_26 rfl (by rw [show (1 : Int32) + Int32.ofInt 16 = nI 17 from rfl]; congr 1; omega) (by decide) rfl ?_
      refine vx_iload_n IG dc_JI_numberOfTrailingZeros_29 rfl 1 rfl ?_
      refine vx_bipush (v := 16) IG dc_JI_numberOfTrailingZeros_30 (by decide) ?_
      refine vx_iushr (v := nI (2 ^ (t - 16) - 1)) IG dc_JI_numberOfTrailingZeros_32 (by rw [← p2_div t 16 (by omega)]; exact pk_ushrN (by omega) 16 16 (by decide)) ?_
      refine vx_istore_n (lv' := [(0, .int (nI (2 ^ (t - 16) - 1))), (1, .int (nI (1 + (t - (t - 16)))))]) IG dc_JI_numberOfTrailingZeros_33 rfl (by decide) rfl ?_
      exact p34 (t - 16) (by omega) (by omega) (by omega)
set_option maxRecDepth 100000 in
set_option maxHeartbeats 4000000 in
theorem cJL_ntz (h : vx_h) {t m : Nat} (hd : 2 ^ t * (2 * m + 1) < 4294967296) : vx_M l D vcl tys my_JL_numberOfTrailingZeros lw_gd (rm_ 1 0 0 21) [.long (lN (2 ^ t * (2 * m + 1)))] h (fun v h' k n => v = some (.int (nI t)) ∧ h' = h ∧ k = 0 ∧ n = 0) := by
  have hp : 0 < 2 ^ t * (2 * m + 1) := Nat.mul_pos (Nat.pow_pos (by decide)) (by omega)
  refine vx_M.ofV (cc := bc_JL_numberOfTrailingZeros) (maxL := 3) (ret := some .int) (own := "java/lang/Long") false rfl (by decide +kernel) wC_JL_numberOfTrailingZeros (fun q => by cases q) (Nat.le_of_ble_eq_true rfl) (fun A H0 G IG RG => ?_)
  show vx_V _ _ _ _ _ _ _ _ _ 0 [(0, .long (lN (2 ^ t * (2 * m + 1))))] []
  refine vx_lload_n IG dc_JL_numberOfTrailingZeros_0 rfl 0 rfl ?_
  refine vx_l2i (v := nI (2 ^ t * (2 * m + 1))) IG dc_JL_numberOfTrailingZeros_1 (lN_i _) ?_
  refine vx_istore_n (lv' := [(2, .int (nI (2 ^ t * (2 * m + 1)))), (0, .long (lN (2 ^ t * (2 * m + 1))))]) IG dc_JL_numberOfTrailingZeros_2 rfl (by decide) rfl ?_
  refine vx_iload_n IG dc_JL_numberOfTrailingZeros_3 rfl 0 rfl ?_
  refine vx_if_ne (tgt := 21) IG dc_JL_numberOfTrailingZeros_4 (by decide) (fun _ => ?_) (fun c_ => absurd c_ (fun q => by have h1 := congrArg (fun x : Int32 => x.toBitVec.toNat) q; simp only [pk_tn hd] at h1; have h2 : (0 : Int32).toBitVec.toNat = 0 := rfl; omega))
  refine vx_iload_n IG dc_JL_numberOfTrailingZeros_21 rfl 0 rfl ?_
  refine vx_callS (As := [.int (nI (2 ^ t * (2 * m + 1)))]) (st := []) IG lw_good (cJI_ntz _ hd) wC_JI_numberOfTrailingZeros wL_JL_311 wT_JI_numberOfTrailingZeros wX_JI 1 (by decide +kernel) rfl ⟨Nat.le_of_ble_eq_true rfl, Nat.le_of_ble_eq_true rfl⟩ ⟨(by dsimp only [rm_]; omega), (by dsimp only [rm_]; omega)⟩ rfl (Nat.le_of_ble_eq_true rfl) dc_JL_numberOfTrailingZeros_22 (fun v h k_ n_ hq => ?_)
  obtain ⟨rfl, rfl, rfl, rfl⟩ := hq
  show vx_V _ _ _ _ _ _ _ _ _ 25 [(2, .int (nI (2 ^ t * (2 * m + 1)))), (0, .long (lN (2 ^ t * (2 * m + 1))))] [.int (nI t)]
  refine vx_ret (some (.int (nI t))) RG (vx_endi (by first | rfl | decide) dc_JL_numberOfTrailingZeros_25) rfl ?_
  exact ⟨rfl, rfl, rfl, rfl⟩
end
section
variable {l : Launch} {D : va_G} {tys : List (ClassId × FieldType)} {cJ : ClassId} {L : List Nat} {r : vx_h} {p : Nat} {h : vx_h} {V : Nat → Nat} {C S : Nat}
set_option maxRecDepth 100000 in
set_option maxHeartbeats 4000000 in
/-- isOne(place) -/
theorem cW_isOne (HP : pool cJ L r V h C S) (hp : p ∈ L) (ht : tys[0]? = some (cJ, .long)) {j : Nat} (hj : j < 2 ^ 31) : vx_M l D vcl tys my_W_isOne lw_gd (rm_ 1 0 0 21) [.ref p, .int (nI j)] h (fun v h' k m => v = some (.int (if V p / 2 ^ j % 2 = 1 then 1 else 0)) ∧ h' = h ∧ k = 0 ∧ m = 0) := by
  obtain ⟨ar, cp, cn, fn, HR, hV, hC, hS⟩ := HP
  have hv := hV p hp
  have gx := dg_lt bB1 (V p) (j / 32)
  have hbit := dg_bit (V p) (j / 32) (show j % 32 < 32 by omega)
  rw [show 32 * (j / 32) + j % 32 = j by omega] at hbit
  refine vx_M.ofV (cc := bc_W_isOne) (maxL := 2) (ret := some .boolean) (own := rW) false rfl (by decide +kernel) wC_W_isOne (fun q => by cases q) (Nat.le_of_ble_eq_true rfl) (fun A H0 G IG RG => ?_)
  show vx_V _ _ _ _ _ _ _ _ _ 0 [(0, .ref p), (1, .int (nI j))] []
  refine vx_aload_n IG dc_W_isOne_0 rfl 0 rfl ?_
  refine vx_iload_n IG dc_W_isOne_1 rfl 1 rfl ?_
  refine vx_bipush (v := 32) IG dc_W_isOne_2 (by decide) ?_
  refine vx_idiv IG dc_W_isOne_4 nI_ne32 ?_
  refine vx_topi (y := nI (j / 32)) (nI_div32 hj) ?_
  refine vx_callV (As := [.int (nI (j / 32))]) (st := []) IG lw_good (cW_digitAt HR hp ht hv (j := j / 32) (by omega)) (rw_obj HR hp) rfl wC_W_digitAt wL_W_46 wI_W_digitAt wS_W_digitAt wX_W 1 (by decide +kernel) rfl ⟨Nat.le_of_ble_eq_true rfl, Nat.le_of_ble_eq_true rfl⟩ ⟨(by dsimp only [rm_]; omega), (by dsimp only [rm_]; omega)⟩ rfl (Nat.le_of_ble_eq_true rfl) dc_W_isOne_5 (fun v h k1 n1 hq => ?_)
  obtain ⟨rfl, rfl, rfl, rfl⟩ := hq
  show vx_V _ _ _ _ _ _ _ _ _ 8 [(0, .ref p), (1, .int (nI j))] [.long (lN (dg 4294967296 (V p) (j / 32)))]
  refine vx_iload_n IG dc_W_isOne_8 rfl 1 rfl ?_
  refine vx_bipush (v := 31) IG dc_W_isOne_9 (by decide) ?_
  refine vx_iand IG dc_W_isOne_11 ?_
  refine vx_topi (y := nI (j % 32)) (nI_and31 hj) ?_
  refine vx_lushr (v := lN (dg 4294967296 (V p) (j / 32) / 2 ^ (j % 32))) IG dc_W_isOne_12 (wb_shr (Nat.lt_trans gx (by decide)) (by omega)) ?_
  refine vx_lconst (v := 1) IG dc_W_isOne_13 (by decide) ?_
  refine vx_land IG dc_W_isOne_14 ?_
  refine vx_topl (y := lN (V p / 2 ^ j % 2)) (by rw [wb_a1 (Nat.lt_of_le_of_lt (Nat.div_le_self _ _) (Nat.lt_trans gx (by decide))), hbit]) ?_
  refine vx_lconst (v := 0) IG dc_W_isOne_15 (by decide) ?_
  refine vx_lcmp IG dc_W_isOne_16 ?_
  by_cases z : V p / 2 ^ j % 2 = 1
  · refine vx_if_eq (tgt := 24) IG dc_W_isOne_17 (by decide) (fun c_ => absurd c_ (fun q => by rw [z] at q; exact absurd (ln_eq (a := 1) (b := 0) (by decide) (by decide) ((lg_cmp_eq _ _).mp q)) (by decide))) (fun _ => ?_)
    refine vx_iconst (v := 1) IG dc_W_isOne_20 (by decide) ?_
    refine vx_goto (tgt := 25) IG dc_W_isOne_21 (by decide) ?_
    refine vx_ret (some (.int 1)) RG (vx_endi (by first | rfl | decide) dc_W_isOne_25) rfl ?_
    exact ⟨by rw [if_pos z], rfl, rfl, rfl⟩
  · refine vx_if_eq (tgt := 24) IG dc_W_isOne_17 (by decide) (fun _ => ?_) (fun c_ => absurd ((lg_cmp_eq _ _).mpr (by rw [show V p / 2 ^ j % 2 = 0 by omega]; rfl)) c_)
    refine vx_iconst (v := 0) IG dc_W_isOne_24 (by decide) ?_
    refine vx_ret (some (.int 0)) RG (vx_endi (by first | rfl | decide) dc_W_isOne_25) rfl ?_
    exact ⟨by rw [if_neg z], rfl, rfl, rfl⟩
set_option maxRecDepth 100000 in
set_option maxHeartbeats 4000000 in
/-- firstDigit(): the lowest digit that is not 0, or 0 -/
theorem cW_firstDigit (HP : pool cJ L r V h C S) (hp : p ∈ L) (ht : tys[0]? = some (cJ, .long)) : vx_M l D vcl tys my_W_firstDigit lw_gd (rm_ 0 0 0 0) [.ref p] h (fun v h' k m => h' = h ∧ k = 0 ∧ m = 0 ∧ ∃ j, v = some (.int (nI j)) ∧ (V p = 0 → j = 0) ∧ (0 < V p → j < nd 4294967296 (V p) ∧ dg 4294967296 (V p) j ≠ 0) ∧ ∀ i, i < j → dg 4294967296 (V p) i = 0) := by
  obtain ⟨ar, cp, cn, fn, HR, hV, hC, hS⟩ := HP
  have hv := hV p hp
  have hcx := rw_cap HR hp
  have hx2 := hv.2.1
  refine vx_M.ofV (cc := bc_W_firstDigit) (maxL := 2) (ret := some .int) (own := rW) false rfl (by decide +kernel) wC_W_firstDigit (fun q => by cases q) (Nat.le_of_ble_eq_true rfl) (fun A H0 G IG RG => ?_)
  show vx_V _ _ _ _ _ _ _ _ _ 0 [(0, .ref p)] []
  generalize eX : V p = X at *
  have loop : ∀ (m i : Nat), i + m = nd 4294967296 X → (∀ j, j < i → dg 4294967296 X j = 0) → vx_V D vcl A H0 2 G h 0 0 2 [(1, .int (nI i)), (0, .ref p)] [] := by
    intro m
    induction m with
    | zero =>
      intro i him hz
      refine vx_iload_n IG dc_W_firstDigit_2 rfl 0 rfl ?_
      refine vx_aload_n IG dc_W_firstDigit_3 rfl 1 rfl ?_
      refine wr_cnt IG HR hp wF_W_15 dc_W_firstDigit_4 ?_
      refine vx_topi (y := nI (nd 4294967296 X)) hv.1 ?_
      refine vx_icmp_ge (tgt := 29) IG dc_W_firstDigit_7 (by decide) (fun _ => ?_) (fun c_ => absurd (nI_le (by omega) (by omega)) c_)
      refine vx_iconst (v := 0) IG dc_W_firstDigit_29 (by decide) ?_
      refine vx_ret (some (.int 0)) RG (vx_endi (by first | rfl | decide) dc_W_firstDigit_30) rfl ?_
      have hX : X = 0 := by
        rw [← vl_nd bB1 X]
        exact vl_zero (fun j hj => hz j (by omega))
      exact ⟨rfl, rfl, rfl, 0, rfl, fun _ => rfl, fun q => by omega, fun j hj => by omega⟩
    | succ m ih =>
      intro i him hz
      have gx := dg_lt bB1 X i
      refine vx_iload_n IG dc_W_firstDigit_2 rfl 0 rfl ?_
      refine vx_aload_n IG dc_W_firstDigit_3 rfl 1 rfl ?_
      refine wr_cnt IG HR hp wF_W_15 dc_W_firstDigit_4 ?_
      refine vx_topi (y := nI (nd 4294967296 X)) hv.1 ?_
      refine vx_icmp_ge (tgt := 29) IG dc_W_firstDigit_7 (by decide) (fun c_ => absurd c_ (nI_ge (by omega) (by omega))) (fun _ => ?_)
      refine vx_aload_n IG dc_W_firstDigit_10 rfl 1 rfl ?_
      refine wr_dig IG HR hp wF_W_11 dc_W_firstDigit_11 ?_
      refine vx_iload_n IG dc_W_firstDigit_14 rfl 0 rfl ?_
      refine wr_ald IG HR hp ht i rfl (by omega) dc_W_firstDigit_15 ?_
      refine vx_topl (y := lN (dg 4294967296 X i)) (hv.2.2 i (by omega)) ?_
      refine vx_lconst (v := 0) IG dc_W_firstDigit_16 (by decide) ?_
      refine vx_lcmp IG dc_W_firstDigit_17 ?_
      by_cases z : dg 4294967296 X i = 0
      · refine vx_if_eq (tgt := 23) IG dc_W_firstDigit_18 (by decide) (fun _ => ?_) (fun c_ => absurd ((lg_cmp_eq _ _).mpr (by rw [z]; rfl)) c_)
        refine vx_iinc (q := 0) (v := nI (i + 1)) (lv' := [(1, .int (nI (i + 1))), (0, .ref p)]) IG dc_W_firstDigit_23 rfl (nI_1 i) (by decide) rfl ?_
        refine vx_goto (tgt := 2) IG dc_W_firstDigit_26 (by decide) ?_
        exact ih (i + 1) (by omega) (fun j hj => (Nat.lt_succ_iff_lt_or_eq.mp hj).elim (hz j) (fun y => y ▸ z))
      · refine vx_if_eq (tgt := 23) IG dc_W_firstDigit_18 (by decide) (fun c_ => absurd c_ (fun q => z (ln_eq (by omega) (by decide) ((lg_cmp_eq _ _).mp q)))) (fun _ => ?_)
        refine vx_iload_n IG dc_W_firstDigit_21 rfl 0 rfl ?_
        refine vx_ret (some (.int (nI i))) RG (vx_endi (by first | rfl | decide) dc_W_firstDigit_22) rfl ?_
        exact ⟨rfl, rfl, rfl, i, rfl, fun q => by rw [q, dg_zero] at z; exact absurd rfl z, fun _ => ⟨by omega, z⟩, hz⟩
  refine vx_iconst (v := 0) IG dc_W_firstDigit_0 (by decide) ?_
  refine vx_istore_n (lv' := [(1, .int 0), (0, .ref p)]) IG dc_W_firstDigit_1 rfl (by decide) rfl ?_
  exact loop (nd 4294967296 X) 0 (by omega) (fun j hj => by omega)
/-- the lowest 1 of a number by its first digit -/
theorem low_one {N j t m : Nat} (hz : ∀ i, i < j → dg 4294967296 N i = 0) (hd : dg 4294967296 N j = 2 ^ t * (2 * m + 1)) (ht : t < 32) : N % 2 ^ (32 * j + t) = 0 ∧ N / 2 ^ (32 * j + t) % 2 = 1 := by
  constructor
  · have h1 : N % 4294967296 ^ j = 0 := by rw [← vl_dg]; exact vl_zero hz
    rw [Nat.pow_add, ← bp32, Nat.mod_mul, h1, Nat.zero_add]
    have h2 : N / 4294967296 ^ j % 2 ^ t = dg 4294967296 N j % 2 ^ t := by
      unfold dg
      rw [Nat.mod_mod_of_dvd]
      exact Nat.pow_dvd_pow 2 (show t ≤ 32 by omega)
    rw [h2, hd, Nat.mul_mod_right, Nat.mul_zero]
  · rw [← dg_bit N j ht, hd, Nat.mul_div_cancel_left _ (Nat.pow_pos (by decide))]
    omega
set_option maxRecDepth 100000 in
set_option maxHeartbeats 4000000 in
/-- lowestOne() -/
theorem cW_lowestOne (HP : pool cJ L r V h C S) (hp : p ∈ L) (ht : tys[0]? = some (cJ, .long)) : vx_M l D vcl tys my_W_lowestOne lw_gd (rm_ 2 0 0 43) [.ref p] h (fun v h' k m => h' = h ∧ k = 0 ∧ m = 0 ∧ ((V p = 0 ∧ v = some (.int (-1))) ∨ (0 < V p ∧ ∃ t, v = some (.int (nI t)) ∧ t < 32 * nd 4294967296 (V p) ∧ V p % 2 ^ t = 0 ∧ V p / 2 ^ t % 2 = 1))) := by
  have HP0 := HP
  obtain ⟨ar, cp, cn, fn, HR, hV, hC, hS⟩ := HP
  have hv := hV p hp
  have hcx := rw_cap HR hp
  have hx2 := hv.2.1
  refine vx_M.ofV (cc := bc_W_lowestOne) (maxL := 2) (ret := some .int) (own := rW) false rfl (by decide +kernel) wC_W_lowestOne (fun q => by cases q) (Nat.le_of_ble_eq_true rfl) (fun A H0 G IG RG => ?_)
  show vx_V _ _ _ _ _ _ _ _ _ 0 [(0, .ref p)] []
  refine vx_aload_n IG dc_W_lowestOne_0 rfl 0 rfl ?_
  refine wr_cnt IG HR hp wF_W_15 dc_W_lowestOne_1 ?_
  refine vx_topi (y := nI (nd 4294967296 (V p))) hv.1 ?_
  by_cases z : V p = 0
  · refine vx_if_ne (tgt := 9) IG dc_W_lowestOne_4 (by decide) (fun c_ => absurd (by rw [z]; rfl) c_) (fun _ => ?_)
    refine vx_iconst (v := -1) IG dc_W_lowestOne_7 (by decide) ?_
    refine vx_ret (some (.int (-1))) RG (vx_endi (by first | rfl | decide) dc_W_lowestOne_8) rfl ?_
    exact ⟨rfl, rfl, rfl, Or.inl ⟨z, rfl⟩⟩
  · have hz : 0 < nd 4294967296 (V p) := by
      rcases Nat.eq_zero_or_pos (nd 4294967296 (V p)) with q | q
      · exact absurd ((nd_eq_zero bB1).mp q) z
      · exact q
    refine vx_if_ne (tgt := 9) IG dc_W_lowestOne_4 (by decide) (fun _ => ?_) (fun c_ => absurd c_ (nI_ne0 hz (by omega)))
    refine vx_aload_n IG dc_W_lowestOne_9 rfl 0 rfl ?_
    refine vx_callV (As := []) (st := []) IG lw_good (cW_firstDigit HP0 hp ht) (rw_obj HR hp) rfl wC_W_firstDigit wL_W_56 wI_W_firstDigit wS_W_firstDigit wX_W 0 (by decide +kernel) rfl ⟨Nat.le_of_ble_eq_true rfl, Nat.le_of_ble_eq_true rfl⟩ ⟨(by dsimp only [rm_]; omega), (by dsimp only [rm_]; omega)⟩ rfl (Nat.le_of_ble_eq_true rfl) dc_W_lowestOne_10 (fun v h k2 n2 hq => ?_)
    obtain ⟨rfl, rfl, rfl, j, rfl, -, hj, hlow⟩ := hq
    obtain ⟨hj1, hj2⟩ := hj (by omega)
    obtain ⟨t, m, e⟩ := ex_tz (dg 4294967296 (V p) j) (by omega)
    have gx := dg_lt bB1 (V p) j
    have ht32 : t < 32 := by
      rcases Nat.lt_or_ge t 32 with q | q
      · exact q
      · have : 2 ^ 32 ≤ 2 ^ t := Nat.pow_le_pow_right (by decide) q
        have h3 : 2 ^ t * 1 ≤ 2 ^ t * (2 * m + 1) := Nat.mul_le_mul_left _ (by omega)
        omega
    show vx_V _ _ _ _ _ _ _ _ _ 13 [(0, .ref p)] [.int (nI j)]
    refine vx_istore_n (lv' := [(1, .int (nI j)), (0, .ref p)]) IG dc_W_lowestOne_13 rfl (by decide) rfl ?_
    refine vx_bipush (v := 32) IG dc_W_lowestOne_14 (by decide) ?_
    refine vx_iload_n IG dc_W_lowestOne_16 rfl 0 rfl ?_
    refine vx_imul IG dc_W_lowestOne_17 ?_
    refine vx_topi (y := nI (32 * j)) (pk_mul 32 j) ?_
    refine vx_aload_n IG dc_W_lowestOne_18 rfl 1 rfl ?_
    refine wr_dig IG HR hp wF_W_11 dc_W_lowestOne_19 ?_
    refine vx_iload_n IG dc_W_lowestOne_22 rfl 0 rfl ?_
    refine wr_ald IG HR hp ht j rfl (by omega) dc_W_lowestOne_23 ?_
    refine vx_topl (y := lN (2 ^ t * (2 * m + 1))) (by rw [hv.2.2 j hj1, e]) ?_
    refine vx_callS (As := [.long (lN (2 ^ t * (2 * m + 1)))]) (st := [.int (nI (32 * j))]) IG lw_good (cJL_ntz _ (by rw [← e]; exact gx)) wC_JL_numberOfTrailingZeros wL_W_60 wT_JL_numberOfTrailingZeros wX_JL 1 (by decide +kernel) rfl ⟨Nat.le_of_ble_eq_true rfl, Nat.le_of_ble_eq_true rfl⟩ ⟨(by dsimp only [rm_]; omega), (by dsimp only [rm_]; omega)⟩ rfl (Nat.le_of_ble_eq_true rfl) dc_W_lowestOne_24 (fun v h k3 n3 hq => ?_)
    obtain ⟨rfl, rfl, rfl, rfl⟩ := hq
    show vx_V _ _ _ _ _ _ _ _ _ 27 [(1, .int (nI j)), (0, .ref p)] [.int (nI t), .int (nI (32 * j))]
    refine vx_iadd IG dc_W_lowestOne_27 ?_
    refine vx_topi (y := nI (32 * j + t)) (nI_add _ _) ?_
    refine vx_ret (some (.int (nI (32 * j + t)))) RG (vx_endi (by first | rfl | decide) dc_W_lowestOne_28) rfl ?_
    have hlo := low_one hlow e ht32
    exact ⟨rfl, rfl, rfl, Or.inr ⟨by omega, 32 * j + t, rfl, by omega, hlo.1, hlo.2⟩⟩
end
