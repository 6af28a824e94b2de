/-! the reference: set, compareRows, sum, lessen, twice, bitsOf, bitOf, store -/
theorem sh16 {v : Nat} (h : v < 2 ^ 31) : nI v >>> ((16 : Int32) &&& 31) = nI (v / 65536) := pk_shrN h _ 16 (by decide)
theorem sh1 {v : Nat} (h : v < 2 ^ 31) : nI v >>> ((1 : Int32) &&& 31) = nI (v / 2) := pk_shrN h _ 1 (by decide)
theorem sh4 {v : Nat} (h : v < 2 ^ 31) : nI v >>> ((4 : Int32) &&& 31) = nI (v / 16) := pk_shrN h _ 4 (by decide)
theorem an16 {v : Nat} (h : v < 2 ^ 32) : nI v &&& 65535 = nI (v % 65536) := pk_andN h 16 (by decide)
theorem an15 {v : Nat} (h : v < 2 ^ 32) : nI v &&& 15 = nI (v % 16) := pk_andN h 4 (by decide)
theorem an1 {v : Nat} (h : v < 2 ^ 32) : nI v &&& 1 = nI (v % 2) := pk_andN h 1 (by decide)
theorem shv {v j : Nat} (h : v < 2 ^ 31) (hj : j < 32) : nI v >>> (nI j &&& 31) = nI (v / 2 ^ j) := by
  have e : ∀ j, j < 32 → ((nI j &&& 31).toBitVec.smod 32).toNat = j := by decide +kernel
  exact pk_shrN h _ j (e j hj)
theorem i32_ss (a b c : Int32) : a - b - c = a - (b + c) := by rw [Int32.sub_eq_add_neg a (b + c), Int32.neg_add, Int32.sub_eq_add_neg (-b) c, ← Int32.add_assoc, ← Int32.sub_eq_add_neg, ← Int32.sub_eq_add_neg]
theorem le_neg {a b w : Nat} (ha : a < 65536) (hb : b < 65536) (hw : w ≤ 1) : nI a - nI b - nI w < 0 ↔ a < b + w := by
  rw [i32_ss, nI_add, Int32.lt_iff_toInt_lt, pk_sub_toInt (by omega) (by omega)]
  have : (0 : Int32).toInt = 0 := rfl
  omega
theorem le_and {a b w : Nat} (ha : a < 65536) (hb : b < 65536) (hw : w ≤ 1) : (nI a - nI b - nI w) &&& 65535 = nI ((a + 2 * 65536 - w - b) % 65536) := by
  rw [i32_ss, nI_add, pk_and _ 16 (by decide)]
  congr 1
  rw [Int32.toBitVec_sub, BitVec.toNat_sub, pk_tn (by omega), pk_tn (by omega)]
  omega
theorem lim16 {N : Nat} : nd 65536 N ≤ 4096 ↔ bl N ≤ 65536 := by
  rw [nd_le b16, bl_le, show (65536 : Nat) ^ 4096 = 2 ^ 65536 by rw [show (65536 : Nat) ^ 4096 = (2 ^ 16) ^ 4096 from rfl, ← Nat.pow_mul]]
theorem bl_half {d : Nat} (h : 0 < d) : bl d = bl (d / 2) + 1 := by
  have key : ∀ c, bl d ≤ c + 1 ↔ bl (d / 2) ≤ c := fun c => by
    rw [bl_le, bl_le, Nat.pow_succ, Nat.div_lt_iff_lt_mul (by decide)]
  have h1 := (key (bl (d / 2))).mpr (Nat.le_refl _)
  have h2 := bl_pos h
  have h3 := (key (bl d - 1)).mp (by omega)
  omega
theorem bl_dg {N : Nat} (h : 0 < N) : bl N = 16 * (nd 65536 N - 1) + bl (dg 65536 N (nd 65536 N - 1)) := by
  have h1 : bl N + 16 = 16 * nd 65536 N + bl (dg 65536 N (nd 65536 N - 1)) := bl_top (w := 16) (by decide) h
  have h2 : nd 65536 N ≠ 0 := fun z => by rw [nd_eq_zero b16] at z; omega
  omega
theorem dg_bit16 {N i : Nat} : dg 65536 N (i / 16) / 2 ^ (i % 16) % 2 = N / 2 ^ i % 2 := by
  have h := eD_bit (N : Int) 16 (i / 16) (j := i % 16) (Nat.mod_lt _ (by decide))
  rw [tB_nat, Nat.div_add_mod] at h
  rw [← h]
  rw [eD_nat]
def tw (A t k : Nat) : Nat := (2 * (A % 65536 ^ k) + t) / 65536 ^ k
theorem tw_0 (A t : Nat) : tw A t 0 = t := by
  unfold tw
  rw [Nat.pow_zero, Nat.mod_one, Nat.mul_zero, Nat.zero_add, Nat.div_one]
theorem tw_1 {A t k : Nat} (ht : t ≤ 1) : tw A t k ≤ 1 := by
  unfold tw
  have h1 := bp_pos b16 k
  have h2 := Nat.mod_lt A h1
  have : (2 * (A % 65536 ^ k) + t) / 65536 ^ k < 2 := by
    rw [Nat.div_lt_iff_lt_mul h1]
    omega
  omega
theorem tw_s (A t k : Nat) : (2 * dg 65536 A k + tw A t k) / 65536 = tw A t (k + 1) := by
  unfold tw
  have h1 := bp_pos b16 k
  rw [md_split, bp_succ, ← Nat.div_div_eq_div_mul]
  congr 1
  rw [show 2 * (A % 65536 ^ k + 65536 ^ k * dg 65536 A k) + t = 2 * (A % 65536 ^ k) + t + 65536 ^ k * (2 * dg 65536 A k) by
    rw [Nat.mul_add, Nat.mul_left_comm]; omega, Nat.add_mul_div_left _ _ h1, Nat.add_comm]
theorem tw_d (A t k : Nat) : (2 * dg 65536 A k + tw A t k) % 65536 = dg 65536 (2 * A + t) k := by
  unfold tw dg
  have h1 := bp_pos b16 k
  have h2 : 2 * A + t = 2 * (A % 65536 ^ k) + t + 65536 ^ k * (2 * (A / 65536 ^ k)) := by
    have := Nat.mod_add_div A (65536 ^ k)
    rw [Nat.mul_left_comm]
    omega
  rw [h2, Nat.add_mul_div_left _ _ h1]
  omega
theorem tw_n {A t : Nat} (ht : t ≤ 1) : nd 65536 (2 * A + t) = nd 65536 A + tw A t (nd 65536 A) ∧ tw A t (nd 65536 A) = dg 65536 (2 * A + t) (nd 65536 A) := by
  have h1 := lt_nd b16 A
  have hp := bp_pos b16 (nd 65536 A)
  have e : tw A t (nd 65536 A) = (2 * A + t) / 65536 ^ nd 65536 A := by
    unfold tw
    rw [Nat.mod_eq_of_lt h1]
  have h3 := tw_1 (A := A) (k := nd 65536 A) ht
  have h4 : nd 65536 A ≤ nd 65536 (2 * A + t) := nd_mono b16 (by omega)
  have h5 : nd 65536 (2 * A + t) ≤ nd 65536 A + 1 := (nd_le b16).mpr (by rw [bp_succ]; omega)
  constructor
  · rcases (show tw A t (nd 65536 A) = 0 ∨ tw A t (nd 65536 A) = 1 by omega) with q | q
    · rw [q]
      rw [e, Nat.div_eq_zero_iff] at q
      have := (nd_le b16).mpr (show 2 * A + t < 65536 ^ nd 65536 A by omega)
      omega
    · rw [q]
      have : nd 65536 A < nd 65536 (2 * A + t) := (nd_lt b16).mpr (by
        rcases Nat.lt_or_ge (2 * A + t) (65536 ^ nd 65536 A) with z | z
        · rw [e, Nat.div_eq_of_lt z] at q
          omega
        · exact z)
      omega
  · unfold dg
    rw [← e, Nat.mod_eq_of_lt (by omega)]
/-- the registers hold these numbers -/
def mreg (X : Nat → Int) (V : Nat → Nat) (s : Nat → Int32) : Prop := ∀ r, r < 16 → V r = (X r).natAbs ∧ s r = sgI (X r)
def rpub (cI cZ : ClassId) (q : Nat → Nat) (h0 : vx_h) (X : Nat → Int) (x : Int32) : Option Value → vx_h → Nat → Nat → Prop := fun v h' k n => v = some (.int x) ∧ k = 0 ∧ n = 0 ∧ ∃ f g s V, h' = rH cI cZ q h0 f g s ∧ rpic f g V ∧ mreg X V s
def rpubV (cI cZ : ClassId) (q : Nat → Nat) (h0 : vx_h) (V0 : Nat → Nat) (X : Nat → Int) (x : Int32) : Option Value → vx_h → Nat → Nat → Prop := fun v h' k n => v = some (.int x) ∧ k = 0 ∧ n = 0 ∧ ∃ f g s V, h' = rH cI cZ q h0 f g s ∧ rpic f g V ∧ mreg X V s ∧ ∀ r, 16 ≤ r → V r = V0 r
theorem mreg_hi {X : Nat → Int} {V V' : Nat → Nat} {s : Nat → Int32} (H : mreg X V s) (h : ∀ r, r < 16 → V' r = V r) : mreg X V' s := fun r hr => by rw [h r hr]; exact H r hr
theorem mreg_up {X : Nat → Int} {V : Nat → Nat} {s : Nat → Int32} {d N : Nat} (H : mreg X V s) (hd : 16 ≤ d) : mreg X (va_up V d N) s := mreg_hi H (fun r hr => va_up_ne _ _ (by omega))
section
variable {l : Launch} {D : va_G} {tys : List (ClassId × FieldType)} {cI cZ : ClassId} {q : Nat → Nat} {h0 : vx_h} {f g s : Nat → Int32} {V : Nat → Nat} {X : Nat → Int} {a b d r N sz : Nat} {w : Int32}
theorem set_dg {b k : Nat} (hb : b < 18446744073709551616) (hk : k < 4) : (lN b >>> ((nI (16 * k)).toInt64 &&& 63) &&& 65535).toInt32 = nI (dg 65536 b k) := by
  have h1 : lN b >>> ((nI (16 * k)).toInt64 &&& 63) &&& 65535 = lN (dg 65536 b k) := by
    rw [wb_c (16 * k) (by omega)]
    apply wb_inj
    rw [Int64.toBitVec_and, wb_tb]
    apply BitVec.eq_of_getLsbD_eq
    intro i hi
    have e2 : (65535 : Int64).toBitVec = BitVec.ofNat 64 65535 := rfl
    rw [BitVec.getLsbD_and, e2, BitVec.getLsbD_ofNat, BitVec.getLsbD_ofNat, show (65535 : Nat) = 2 ^ 16 - 1 from rfl, Nat.testBit_two_pow_sub_one]
    have e3 : dg 65536 b k = b / 2 ^ (16 * k) % 2 ^ 16 := by
      unfold dg
      rw [show (65536 : Nat) = 2 ^ 16 from rfl, ← Nat.pow_mul]
    rw [e3, Nat.testBit_mod_two_pow, Nat.testBit_div_two_pow]
    by_cases z : i < 16
    · have e4 : (lN b >>> lN (16 * k)).toBitVec.getLsbD i = b.testBit (16 * k + i) := by
        rw [Int64.toBitVec_shiftRight, wb_tb, wb_tb, wb_sm (16 * k) (by omega), BitVec.sshiftRight', BitVec.toNat_ofNat, Nat.mod_eq_of_lt (by omega), BitVec.getLsbD_sshiftRight, BitVec.getLsbD_ofNat]
        simp only [show ¬ 64 ≤ i by omega, show 16 * k + i < 64 by omega]
        simp
      rw [e4]
      simp [hi, z, Nat.add_comm]
    · simp [z]
  rw [h1]
  exact lN_i _
set_option maxRecDepth 100000 in
set_option maxHeartbeats 8000000 in
theorem cR_set (LR : rlay q h0) (ht2 : tys[2]? = some (cZ, .boolean)) (ht3 : tys[3]? = some (cI, .int)) (hd : d < 24) {b : Nat} (hb : b < 18446744073709551616) : vx_M l D vcl tys my_R_set lw_gd (rm_ 2 0 0 43) [.ref (q 0), .int (nI d), .long (lN b)] (rH cI cZ q h0 f g s) (rdone cI cZ q h0 f g s d b) := by
  refine vx_M.ofV (cc := bc_R_set) (maxL := 5) (ret := none) (own := rR) false rfl (by decide +kernel) wC_R_set (fun q => by cases q) (Nat.le_of_ble_eq_true rfl) (fun A H0 G IG RG => ?_)
  show vx_V _ _ _ _ _ _ _ _ _ 0 [(0, .ref (q 0)), (1, .int (nI d)), (2, .long (lN b))] []
  have hc4 := rcap_4 d
  refine vx_iconst (v := 0) IG dc_R_set_0 (by decide) ?_
  refine vx_istore (lv' := [(4, .int 0), (0, .ref (q 0)), (1, .int (nI d)), (2, .long (lN b))]) IG dc_R_set_1 (by decide) rfl ?_
  have loop : ∀ (j c k n : Nat), c + j = 4 → k = 0 → n = 0 → vx_V D vcl A H0 5 G (rH cI cZ q h0 (pf f (rt d) (dg 65536 b) c) g s) k n 3 [(4, .int (nI c)), (0, .ref (q 0)), (1, .int (nI d)), (2, .long (lN b))] [] := by
    intro j
    induction j with
    | zero =>
      intro c k n hc hk hn
      subst hk hn
      refine vx_iload IG dc_R_set_3 0 rfl ?_
      refine vx_iconst (v := 4) IG dc_R_set_5 (by decide) ?_
      refine vx_icmp_ge (tgt := 39) IG dc_R_set_6 (by decide) (fun _ => ?_) (fun c_ => absurd (nI_le (a := 4) (by omega) (by omega)) c_)
      refine vx_aload_n IG dc_R_set_39 rfl 1 rfl ?_
      refine vx_iload_n IG dc_R_set_40 rfl 2 rfl ?_
      refine vx_iconst (v := 4) IG dc_R_set_41 (by decide) ?_
      refine vx_callV (As := [.int (nI d), .int 4]) (st := []) IG lw_good (cR_trim LR ht2 ht3 (N := b) (sz := 4) hd (by omega) (fun k hk => pf_in (by omega)) (Nat.lt_of_lt_of_le hb (by decide))) (ro_M LR) rfl wC_R_trim wL_R_28 wI_R_trim wS_R_trim wX_R 2 (by decide +kernel) rfl ⟨Nat.le_of_ble_eq_true rfl, Nat.le_of_ble_eq_true rfl⟩ ⟨(by dsimp only [rm_]; omega), (by dsimp only [rm_]; omega)⟩ rfl (Nat.le_of_ble_eq_true rfl) dc_R_set_42 (fun v h k_ n_ hq => ?_)
      obtain ⟨rfl, rfl, rfl, rfl⟩ := hq
      show vx_V _ _ _ _ _ _ _ _ _ 45 [(4, .int (nI c)), (0, .ref (q 0)), (1, .int (nI d)), (2, .long (lN b))] []
      refine vx_ret none RG (vx_endv dc_R_set_45) rfl ?_
      refine ⟨rfl, rfl, rfl, _, _, rfl, ?_⟩
      rw [show c = 4 by omega]
      exact rs_pw (by omega) (Nat.lt_of_lt_of_le hb (by decide))
    | succ j ih =>
      intro c k n hc hk hn
      subst hk hn
      refine vx_iload IG dc_R_set_3 0 rfl ?_
      refine vx_iconst (v := 4) IG dc_R_set_5 (by decide) ?_
      refine vx_icmp_ge (tgt := 39) IG dc_R_set_6 (by decide) (fun c_ => absurd c_ (fun y => absurd (nI_lt (a := c) (b := 4) (by omega) (by decide)) (Int32.not_lt.mpr y))) (fun _ => ?_)
      refine vx_aload_n IG dc_R_set_9 rfl 1 rfl ?_
      refine vx_get IG (ro_M LR) rfl 0 (by decide) inR wF_R_8 rfl rfl dc_R_set_10 ?_
      refine vx_iload_n IG dc_R_set_13 rfl 2 rfl ?_
      refine vx_callS (As := [.int (nI d)]) (st := [.ref (q 1)]) IG lw_good (cR_at _ d hd) wC_R_at wL_R_22 wT_R_at wX_R 1 (by decide +kernel) rfl ⟨Nat.le_of_ble_eq_true rfl, Nat.le_of_ble_eq_true rfl⟩ ⟨(by dsimp only [rm_]; omega), (by dsimp only [rm_]; omega)⟩ rfl (Nat.le_of_ble_eq_true rfl) dc_R_set_14 (fun v h k_ n_ hq => ?_)
      obtain ⟨rfl, rfl, rfl, rfl⟩ := hq
      show vx_V _ _ _ _ _ _ _ _ _ 17 [(4, .int (nI c)), (0, .ref (q 0)), (1, .int (nI d)), (2, .long (lN b))] [.int (nI (rt d)), .ref (q 1)]
      refine vx_iload IG dc_R_set_17 0 rfl ?_
      refine vx_iadd IG dc_R_set_19 ?_
      refine vx_topi (y := nI ((rt d) + c)) (nI_add _ _) ?_
      refine vx_lload_n IG dc_R_set_20 rfl 3 rfl ?_
      refine vx_bipush (v := 16) IG dc_R_set_21 (by decide) ?_
      refine vx_iload IG dc_R_set_23 0 rfl ?_
      refine vx_imul IG dc_R_set_25 ?_
      refine vx_topi (y := nI (16 * c)) (pk_mul _ _) ?_
      refine vx_lshr (v := ((lN b) >>> ((nI (16 * c)).toInt64 &&& 63))) IG dc_R_set_26 rfl ?_
      refine vx_ldc2 (v := 65535) IG wK_R_26 dc_R_set_27 ?_
      refine vx_land IG dc_R_set_30 ?_
      refine vx_l2i (v := nI (dg 65536 b c)) IG dc_R_set_31 (set_dg hb (by omega)) ?_
      refine rr_mst IG LR ht3 (rt_in hd (by omega)) (f' := pf f (rt d) (dg 65536 b) (c + 1)) (pf_s _ _ _ _) dc_R_set_32 ?_
      refine vx_iinc (q := 0) (v := nI (c + 1)) (lv' := [(4, .int (nI (c + 1))), (0, .ref (q 0)), (1, .int (nI d)), (2, .long (lN b))]) IG dc_R_set_33 rfl (nI_1 c) (by decide) rfl ?_
      refine vx_goto (tgt := 3) IG dc_R_set_36 (by decide) ?_
      exact ih (c + 1) _ _ (by omega) rfl rfl
  have hl := loop 4 0 0 0 (by omega) rfl rfl
  rw [pf_0] at hl
  exact hl
set_option maxRecDepth 100000 in
set_option maxHeartbeats 8000000 in
theorem cR_compareRows (LR : rlay q h0) (ht2 : tys[2]? = some (cZ, .boolean)) (ht3 : tys[3]? = some (cI, .int)) {U W : Nat} (Ha : rv f g a U) (Hb : rv f g b W) (ha : a < 24) (hb : b < 24) : vx_M l D vcl tys my_R_compareRows lw_gd (rm_ 1 0 0 20) [.ref (q 0), .int (nI a), .int (nI b)] (rH cI cZ q h0 f g s) (rval (rH cI cZ q h0 f g s) (cmpI U W)) := by
  refine vx_M.ofV (cc := bc_R_compareRows) (maxL := 6) (ret := (some .int)) (own := rR) false rfl (by decide +kernel) wC_R_compareRows (fun q => by cases q) (Nat.le_of_ble_eq_true rfl) (fun A H0 G IG RG => ?_)
  show vx_V _ _ _ _ _ _ _ _ _ 0 [(0, .ref (q 0)), (1, .int (nI a)), (2, .int (nI b))] []
  obtain ⟨hga, hca, hfa⟩ := Ha
  obtain ⟨hgb, hcb, hfb⟩ := Hb
  have c1 := rcap_4 a
  have c2 := rcap_4 b
  refine vx_aload_n IG dc_R_compareRows_0 rfl 0 rfl ?_
  refine vx_get IG (ro_M LR) rfl 1 (by decide) inR wF_R_14 rfl rfl dc_R_compareRows_1 ?_
  refine vx_iload_n IG dc_R_compareRows_4 rfl 1 rfl ?_
  refine rr_nld IG LR ht3 ha (x := nI (nd 65536 U)) hga dc_R_compareRows_5 ?_
  refine vx_aload_n IG dc_R_compareRows_6 rfl 0 rfl ?_
  refine vx_get IG (ro_M LR) rfl 1 (by decide) inR wF_R_14 rfl rfl dc_R_compareRows_7 ?_
  refine vx_iload_n IG dc_R_compareRows_10 rfl 2 rfl ?_
  refine rr_nld IG LR ht3 hb (x := nI (nd 65536 W)) hgb dc_R_compareRows_11 ?_
  by_cases z : nd 65536 U = nd 65536 W
  · refine vx_icmp_eq (tgt := 36) IG dc_R_compareRows_12 (by decide) (fun _ => ?_) (fun c_ => absurd (by rw [z]) c_)
    refine vx_aload_n IG dc_R_compareRows_36 rfl 0 rfl ?_
    refine vx_get IG (ro_M LR) rfl 1 (by decide) inR wF_R_14 rfl rfl dc_R_compareRows_37 ?_
    refine vx_iload_n IG dc_R_compareRows_40 rfl 1 rfl ?_
    refine rr_nld IG LR ht3 ha (x := nI (nd 65536 U)) hga dc_R_compareRows_41 ?_
    refine vx_iconst (v := 1) IG dc_R_compareRows_42 (by decide) ?_
    refine vx_isub IG dc_R_compareRows_43 ?_
    refine vx_istore_n (lv' := [(3, .int ((nI (nd 65536 U)) - 1)), (0, .ref (q 0)), (1, .int (nI a)), (2, .int (nI b))]) IG dc_R_compareRows_44 rfl (by decide) rfl ?_
    have loop : ∀ (j k n : Nat), j ≤ nd 65536 U → U / 65536 ^ j = W / 65536 ^ j → k = 0 → n = 0 → ∀ (lv : List (Nat × Value)), lv = [(0, .ref (q 0)), (1, .int (nI a)), (2, .int (nI b))] → vx_V D vcl A H0 6 G (rH cI cZ q h0 f g s) k n 45 ((3, .int (nI j - 1)) :: lv) [] := by
      intro j
      induction j with
      | zero =>
        intro k n hj he hk hn lv hlv
        subst hk hn hlv
        refine vx_iload_n IG dc_R_compareRows_45 rfl 0 rfl ?_
        refine vx_if_lt (tgt := 101) IG dc_R_compareRows_46 (by decide) (fun _ => ?_) (fun c_ => absurd (by decide) c_)
        refine vx_iconst (v := 0) IG dc_R_compareRows_101 (by decide) ?_
        refine vx_ret (some (.int 0)) RG (vx_endi (by first | rfl | decide) dc_R_compareRows_102) rfl ?_
        rw [Nat.pow_zero, Nat.div_one, Nat.div_one] at he
        exact ⟨by rw [he]; unfold cmpI; rw [if_neg (by omega), if_pos rfl], rfl, rfl, rfl⟩
      | succ j ih =>
        intro k n hj he hk hn lv hlv
        subst hk hn hlv
        rw [nI_pred j]
        have l1 := dg_lt b16 U j
        have l2 := dg_lt b16 W j
        refine vx_iload_n IG dc_R_compareRows_45 rfl 0 rfl ?_
        refine vx_if_lt (tgt := 101) IG dc_R_compareRows_46 (by decide) (fun c_ => absurd c_ (nI_pos (by omega))) (fun _ => ?_)
        refine vx_aload_n IG dc_R_compareRows_49 rfl 1 rfl ?_
        refine vx_get IG (ro_M LR) rfl 0 (by decide) inR wF_R_8 rfl rfl dc_R_compareRows_50 ?_
        refine vx_iload_n IG dc_R_compareRows_53 rfl 2 rfl ?_
        refine vx_callS (As := [.int (nI a)]) (st := [.ref (q 1)]) IG lw_good (cR_at _ a ha) wC_R_at wL_R_22 wT_R_at wX_R 1 (by decide +kernel) rfl ⟨Nat.le_of_ble_eq_true rfl, Nat.le_of_ble_eq_true rfl⟩ ⟨(by dsimp only [rm_]; omega), (by dsimp only [rm_]; omega)⟩ rfl (Nat.le_of_ble_eq_true rfl) dc_R_compareRows_54 (fun v h k_ n_ hq => ?_)
        obtain ⟨rfl, rfl, rfl, rfl⟩ := hq
        show vx_V _ _ _ _ _ _ _ _ _ 57 [(3, .int (nI j)), (0, .ref (q 0)), (1, .int (nI a)), (2, .int (nI b))] [.int (nI (rt a)), .ref (q 1)]
        refine vx_iload_n IG dc_R_compareRows_57 rfl 0 rfl ?_
        refine vx_iadd IG dc_R_compareRows_58 ?_
        refine vx_topi (y := nI ((rt a) + j)) (nI_add _ _) ?_
        refine rr_mld IG LR ht3 (rt_in ha (by omega)) (x := nI (dg 65536 U j)) (hfa j (by omega)) dc_R_compareRows_59 ?_
        refine vx_istore (lv' := [(4, .int (nI (dg 65536 U j))), (3, .int (nI j)), (0, .ref (q 0)), (1, .int (nI a)), (2, .int (nI b))]) IG dc_R_compareRows_60 (by decide) rfl ?_
        refine vx_aload_n IG dc_R_compareRows_62 rfl 2 rfl ?_
        refine vx_get IG (ro_M LR) rfl 0 (by decide) inR wF_R_8 rfl rfl dc_R_compareRows_63 ?_
        refine vx_iload_n IG dc_R_compareRows_66 rfl 4 rfl ?_
        refine vx_callS (As := [.int (nI b)]) (st := [.ref (q 1)]) IG lw_good (cR_at _ b hb) wC_R_at wL_R_22 wT_R_at wX_R 1 (by decide +kernel) rfl ⟨Nat.le_of_ble_eq_true rfl, Nat.le_of_ble_eq_true rfl⟩ ⟨(by dsimp only [rm_]; omega), (by dsimp only [rm_]; omega)⟩ rfl (Nat.le_of_ble_eq_true rfl) dc_R_compareRows_67 (fun v h k_ n_ hq => ?_)
        obtain ⟨rfl, rfl, rfl, rfl⟩ := hq
        show vx_V _ _ _ _ _ _ _ _ _ 70 [(4, .int (nI (dg 65536 U j))), (3, .int (nI j)), (0, .ref (q 0)), (1, .int (nI a)), (2, .int (nI b))] [.int (nI (rt b)), .ref (q 1)]
        refine vx_iload_n IG dc_R_compareRows_70 rfl 1 rfl ?_
        refine vx_iadd IG dc_R_compareRows_71 ?_
        refine vx_topi (y := nI ((rt b) + j)) (nI_add _ _) ?_
        refine rr_mld IG LR ht3 (rt_in hb (by omega)) (x := nI (dg 65536 W j)) (hfb j (by omega)) dc_R_compareRows_72 ?_
        refine vx_istore (lv' := [(5, .int (nI (dg 65536 W j))), (4, .int (nI (dg 65536 U j))), (3, .int (nI j)), (0, .ref (q 0)), (1, .int (nI a)), (2, .int (nI b))]) IG dc_R_compareRows_73 (by decide) rfl ?_
        refine vx_iload IG dc_R_compareRows_75 1 rfl ?_
        refine vx_iload IG dc_R_compareRows_77 0 rfl ?_
        by_cases y : dg 65536 U j = dg 65536 W j
        · refine vx_icmp_eq (tgt := 95) IG dc_R_compareRows_79 (by decide) (fun _ => ?_) (fun c_ => absurd (by rw [y]) c_)
          refine vx_iinc (q := 2) (v := nI j - 1) (lv' := [(3, .int (nI j - 1)), (5, .int (nI (dg 65536 W j))), (4, .int (nI (dg 65536 U j))), (0, .ref (q 0)), (1, .int (nI a)), (2, .int (nI b))]) IG dc_R_compareRows_95 rfl (i32_dec _) (by decide) rfl ?_
          refine vx_goto (tgt := 45) IG dc_R_compareRows_98 (by decide) ?_
          refine vx_same (lv' := [(3, .int (nI j - 1)), (0, .ref (q 0)), (1, .int (nI a)), (2, .int (nI b))]) IG [0, 3, 4, 5] rfl ?_
          exact ih _ _ (by omega) (bcm_eq 65536 he y) rfl rfl _ rfl
        · refine vx_icmp_eq (tgt := 95) IG dc_R_compareRows_79 (by decide) (fun c_ => absurd c_ (nI_ne (by omega) (by omega) y)) (fun _ => ?_)
          refine vx_iload IG dc_R_compareRows_82 1 rfl ?_
          refine vx_iload IG dc_R_compareRows_84 0 rfl ?_
          by_cases x : dg 65536 U j < dg 65536 W j
          · refine vx_icmp_ge (tgt := 93) IG dc_R_compareRows_86 (by decide) (fun c_ => absurd c_ (fun c => absurd (nI_lt x (by omega)) (Int32.not_lt.mpr c))) (fun _ => ?_)
            refine vx_iconst (v := -1) IG dc_R_compareRows_89 (by decide) ?_
            refine vx_goto (tgt := 94) IG dc_R_compareRows_90 (by decide) ?_
            refine vx_ret (some (.int (-1))) RG (vx_endi (by first | rfl | decide) dc_R_compareRows_94) rfl ?_
            have := bcm_lt 65536 he x
            exact ⟨by unfold cmpI; rw [if_pos this], rfl, rfl, rfl⟩
          · refine vx_icmp_ge (tgt := 93) IG dc_R_compareRows_86 (by decide) (fun _ => ?_) (fun c_ => absurd (nI_le (by omega) (by omega)) c_)
            refine vx_iconst (v := 1) IG dc_R_compareRows_93 (by decide) ?_
            refine vx_ret (some (.int 1)) RG (vx_endi (by first | rfl | decide) dc_R_compareRows_94) rfl ?_
            have := bcm_lt 65536 he.symm (show dg 65536 W j < dg 65536 U j by omega)
            exact ⟨by unfold cmpI; rw [if_neg (by omega), if_neg (by omega)], rfl, rfl, rfl⟩
    exact loop _ _ _ (Nat.le_refl _) (by rw [bcm_top b16 (Nat.le_refl _), bcm_top b16 (by omega)]) rfl rfl _ rfl
  · refine vx_icmp_eq (tgt := 36) IG dc_R_compareRows_12 (by decide) (fun c_ => absurd c_ (nI_ne (by omega) (by omega) z)) (fun _ => ?_)
    refine vx_aload_n IG dc_R_compareRows_15 rfl 0 rfl ?_
    refine vx_get IG (ro_M LR) rfl 1 (by decide) inR wF_R_14 rfl rfl dc_R_compareRows_16 ?_
    refine vx_iload_n IG dc_R_compareRows_19 rfl 1 rfl ?_
    refine rr_nld IG LR ht3 ha (x := nI (nd 65536 U)) hga dc_R_compareRows_20 ?_
    refine vx_aload_n IG dc_R_compareRows_21 rfl 0 rfl ?_
    refine vx_get IG (ro_M LR) rfl 1 (by decide) inR wF_R_14 rfl rfl dc_R_compareRows_22 ?_
    refine vx_iload_n IG dc_R_compareRows_25 rfl 2 rfl ?_
    refine rr_nld IG LR ht3 hb (x := nI (nd 65536 W)) hgb dc_R_compareRows_26 ?_
    by_cases x : nd 65536 U < nd 65536 W
    · refine vx_icmp_ge (tgt := 34) IG dc_R_compareRows_27 (by decide) (fun c_ => absurd c_ (fun c => absurd (nI_lt x (by omega)) (Int32.not_lt.mpr c))) (fun _ => ?_)
      refine vx_iconst (v := -1) IG dc_R_compareRows_30 (by decide) ?_
      refine vx_goto (tgt := 35) IG dc_R_compareRows_31 (by decide) ?_
      refine vx_ret (some (.int (-1))) RG (vx_endi (by first | rfl | decide) dc_R_compareRows_35) rfl ?_
      have := bcm_nd b16 x
      exact ⟨by unfold cmpI; rw [if_pos this], rfl, rfl, rfl⟩
    · refine vx_icmp_ge (tgt := 34) IG dc_R_compareRows_27 (by decide) (fun _ => ?_) (fun c_ => absurd (nI_le (by omega) (by omega)) c_)
      refine vx_iconst (v := 1) IG dc_R_compareRows_34 (by decide) ?_
      refine vx_ret (some (.int 1)) RG (vx_endi (by first | rfl | decide) dc_R_compareRows_35) rfl ?_
      have := bcm_nd b16 (show nd 65536 W < nd 65536 U by omega)
      exact ⟨by unfold cmpI; rw [if_neg (by omega), if_neg (by omega)], rfl, rfl, rfl⟩
set_option maxRecDepth 100000 in
set_option maxHeartbeats 8000000 in
theorem cR_sum (LR : rlay q h0) (ht2 : tys[2]? = some (cZ, .boolean)) (ht3 : tys[3]? = some (cI, .int)) {U W : Nat} (Ha : rv f g a U) (Hb : rv f g b W) (hd : d < 24) (ha : a < 24) (hb : b < 24) (s1 : nd 65536 U < rcap d) (s2 : nd 65536 W < rcap d) : vx_M l D vcl tys my_R_sum lw_gd (rm_ 2 0 0 43) [.ref (q 0), .int (nI d), .int (nI a), .int (nI b)] (rH cI cZ q h0 f g s) (rdone cI cZ q h0 f g s d (U + W)) := by
  refine vx_M.ofV (cc := bc_R_sum) (maxL := 8) (ret := none) (own := rR) false rfl (by decide +kernel) wC_R_sum (fun q => by cases q) (Nat.le_of_ble_eq_true rfl) (fun A H0 G IG RG => ?_)
  show vx_V _ _ _ _ _ _ _ _ _ 0 [(0, .ref (q 0)), (1, .int (nI d)), (2, .int (nI a)), (3, .int (nI b))] []
  obtain ⟨hga, hca, hfa⟩ := Ha
  obtain ⟨hgb, hcb, hfb⟩ := Hb
  have c1 := rcap_4 a
  have c2 := rcap_4 b
  have c3 := rcap_4 d
  have tail : ∀ (sz k n : Nat), nd 65536 U ≤ sz → nd 65536 W ≤ sz → sz < rcap d → k = 0 → n = 0 → vx_V D vcl A H0 8 G (rH cI cZ q h0 f g s) k n 30 [(0, .ref (q 0)), (1, .int (nI d)), (2, .int (nI a)), (3, .int (nI b))] [.int (nI sz)] := by
    intro sz k n h1 h2 h3 hk hn
    subst hk hn
    have hN : U + W < 65536 ^ (sz + 1) := by
      have g1 := (nd_le b16).mp h1
      have g2 := (nd_le b16).mp h2
      rw [bp_succ]
      omega
    refine vx_istore (lv' := [(4, .int (nI sz)), (0, .ref (q 0)), (1, .int (nI d)), (2, .int (nI a)), (3, .int (nI b))]) IG dc_R_sum_30 (by decide) rfl ?_
    refine vx_iconst (v := 0) IG dc_R_sum_32 (by decide) ?_
    refine vx_istore (lv' := [(5, .int 0), (4, .int (nI sz)), (0, .ref (q 0)), (1, .int (nI d)), (2, .int (nI a)), (3, .int (nI b))]) IG dc_R_sum_33 (by decide) rfl ?_
    refine vx_iconst (v := 0) IG dc_R_sum_35 (by decide) ?_
    refine vx_istore (lv' := [(6, .int 0), (5, .int 0), (4, .int (nI sz)), (0, .ref (q 0)), (1, .int (nI d)), (2, .int (nI a)), (3, .int (nI b))]) IG dc_R_sum_36 (by decide) rfl ?_
    have loop : ∀ (j c k n : Nat), c + j = sz + 1 → k = 0 → n = 0 → vx_V D vcl A H0 8 G (rH cI cZ q h0 (pf f (rt d) (dg 65536 (U + W)) c) g s) k n 38 [(6, .int (nI c)), (5, .int (nI (cy 65536 U W c))), (4, .int (nI sz)), (0, .ref (q 0)), (1, .int (nI d)), (2, .int (nI a)), (3, .int (nI b))] [] := by
      intro j
      induction j with
      | zero =>
        intro c k n hc hk hn
        subst hk hn
        obtain rfl : c = sz + 1 := by omega
        refine vx_iload IG dc_R_sum_38 0 rfl ?_
        refine vx_iload IG dc_R_sum_40 2 rfl ?_
        refine vx_icmp_gt (tgt := 95) IG dc_R_sum_42 (by decide) (fun _ => ?_) (fun c_ => absurd (nI_lt (by omega) (by omega)) c_)
        refine vx_aload_n IG dc_R_sum_95 rfl 3 rfl ?_
        refine vx_iload_n IG dc_R_sum_96 rfl 4 rfl ?_
        refine vx_iload IG dc_R_sum_97 2 rfl ?_
        refine vx_iconst (v := 1) IG dc_R_sum_99 (by decide) ?_
        refine vx_iadd IG dc_R_sum_100 ?_
        refine vx_topi (y := nI (sz + 1)) (nI_add _ _) ?_
        refine vx_callV (As := [.int (nI d), .int (nI (sz + 1))]) (st := []) IG lw_good (cR_trim LR ht2 ht3 (N := U + W) (sz := sz + 1) hd (by omega) (fun k hk => pf_in (by omega)) hN) (ro_M LR) rfl wC_R_trim wL_R_28 wI_R_trim wS_R_trim wX_R 2 (by decide +kernel) rfl ⟨Nat.le_of_ble_eq_true rfl, Nat.le_of_ble_eq_true rfl⟩ ⟨(by dsimp only [rm_]; omega), (by dsimp only [rm_]; omega)⟩ rfl (Nat.le_of_ble_eq_true rfl) dc_R_sum_101 (fun v h k_ n_ hq => ?_)
        obtain ⟨rfl, rfl, rfl, rfl⟩ := hq
        show vx_V _ _ _ _ _ _ _ _ _ 104 [(6, .int (nI (sz + 1))), (5, .int (nI (cy 65536 U W (sz + 1)))), (4, .int (nI sz)), (0, .ref (q 0)), (1, .int (nI d)), (2, .int (nI a)), (3, .int (nI b))] []
        refine vx_ret none RG (vx_endv dc_R_sum_104) rfl ?_
        exact ⟨rfl, rfl, rfl, _, _, rfl, rs_pw (by omega) hN⟩
      | succ j ih =>
        intro c k n hc hk hn
        subst hk hn
        have l1 := dg_lt b16 U c
        have l2 := dg_lt b16 W c
        have l3 := cy_le b16 U W c
        refine vx_iload IG dc_R_sum_38 0 rfl ?_
        refine vx_iload IG dc_R_sum_40 2 rfl ?_
        refine vx_icmp_gt (tgt := 95) IG dc_R_sum_42 (by decide) (fun c_ => absurd c_ (fun y => absurd (nI_le (a := c) (b := sz) (by omega) (by omega)) (Int32.not_le.mpr y))) (fun _ => ?_)
        refine vx_aload_n IG dc_R_sum_45 rfl 3 rfl ?_
        refine vx_iload_n IG dc_R_sum_46 rfl 5 rfl ?_
        refine vx_iload IG dc_R_sum_47 0 rfl ?_
        refine vx_callV (As := [.int (nI a), .int (nI c)]) (st := []) IG lw_good (cR_digit LR ht2 ht3 (N := U) ha (k := c) (by omega) hga hca (fun z => by rw [pf_row (Or.inr (Nat.le_refl c)) ha hd (by omega) (by omega)]; exact hfa c z)) (ro_M LR) rfl wC_R_digit wL_R_32 wI_R_digit wS_R_digit wX_R 2 (by decide +kernel) rfl ⟨Nat.le_of_ble_eq_true rfl, Nat.le_of_ble_eq_true rfl⟩ ⟨(by dsimp only [rm_]; omega), (by dsimp only [rm_]; omega)⟩ rfl (Nat.le_of_ble_eq_true rfl) dc_R_sum_49 (fun v h k_ n_ hq => ?_)
        obtain ⟨rfl, rfl, rfl, rfl⟩ := hq
        show vx_V _ _ _ _ _ _ _ _ _ 52 [(6, .int (nI c)), (5, .int (nI (cy 65536 U W c))), (4, .int (nI sz)), (0, .ref (q 0)), (1, .int (nI d)), (2, .int (nI a)), (3, .int (nI b))] [.int (nI (dg 65536 U c))]
        refine vx_aload_n IG dc_R_sum_52 rfl 3 rfl ?_
        refine vx_iload_n IG dc_R_sum_53 rfl 6 rfl ?_
        refine vx_iload IG dc_R_sum_54 0 rfl ?_
        refine vx_callV (As := [.int (nI b), .int (nI c)]) (st := [.int (nI (dg 65536 U c))]) IG lw_good (cR_digit LR ht2 ht3 (N := W) hb (k := c) (by omega) hgb hcb (fun z => by rw [pf_row (Or.inr (Nat.le_refl c)) hb hd (by omega) (by omega)]; exact hfb c z)) (ro_M LR) rfl wC_R_digit wL_R_32 wI_R_digit wS_R_digit wX_R 2 (by decide +kernel) rfl ⟨Nat.le_of_ble_eq_true rfl, Nat.le_of_ble_eq_true rfl⟩ ⟨(by dsimp only [rm_]; omega), (by dsimp only [rm_]; omega)⟩ rfl (Nat.le_of_ble_eq_true rfl) dc_R_sum_56 (fun v h k_ n_ hq => ?_)
        obtain ⟨rfl, rfl, rfl, rfl⟩ := hq
        show vx_V _ _ _ _ _ _ _ _ _ 59 [(6, .int (nI c)), (5, .int (nI (cy 65536 U W c))), (4, .int (nI sz)), (0, .ref (q 0)), (1, .int (nI d)), (2, .int (nI a)), (3, .int (nI b))] [.int (nI (dg 65536 W c)), .int (nI (dg 65536 U c))]
        refine vx_iadd IG dc_R_sum_59 ?_
        refine vx_topi (y := nI ((dg 65536 U c) + (dg 65536 W c))) (nI_add _ _) ?_
        refine vx_iload IG dc_R_sum_60 1 rfl ?_
        refine vx_iadd IG dc_R_sum_62 ?_
        refine vx_topi (y := nI ((dg 65536 U c) + (dg 65536 W c) + (cy 65536 U W c))) (nI_add _ _) ?_
        refine vx_istore (lv' := [(7, .int (nI ((dg 65536 U c) + (dg 65536 W c) + (cy 65536 U W c)))), (6, .int (nI c)), (5, .int (nI (cy 65536 U W c))), (4, .int (nI sz)), (0, .ref (q 0)), (1, .int (nI d)), (2, .int (nI a)), (3, .int (nI b))]) IG dc_R_sum_63 (by decide) rfl ?_
        refine vx_iload IG dc_R_sum_65 0 rfl ?_
        refine vx_bipush (v := 16) IG dc_R_sum_67 (by decide) ?_
        refine vx_ishr IG dc_R_sum_69 ?_
        refine vx_topi (y := nI (cy 65536 U W (c + 1))) (by rw [sh16 (by omega), cy_succ b16]) ?_
        refine vx_istore (lv' := [(5, .int (nI (cy 65536 U W (c + 1)))), (7, .int (nI ((dg 65536 U c) + (dg 65536 W c) + (cy 65536 U W c)))), (6, .int (nI c)), (4, .int (nI sz)), (0, .ref (q 0)), (1, .int (nI d)), (2, .int (nI a)), (3, .int (nI b))]) IG dc_R_sum_70 (by decide) rfl ?_
        refine vx_aload_n IG dc_R_sum_72 rfl 4 rfl ?_
        refine vx_get IG (ro_M LR) rfl 0 (by decide) inR wF_R_8 rfl rfl dc_R_sum_73 ?_
        refine vx_iload_n IG dc_R_sum_76 rfl 5 rfl ?_
        refine vx_callS (As := [.int (nI d)]) (st := [.ref (q 1)]) IG lw_good (cR_at _ d hd) wC_R_at wL_R_22 wT_R_at wX_R 1 (by decide +kernel) rfl ⟨Nat.le_of_ble_eq_true rfl, Nat.le_of_ble_eq_true rfl⟩ ⟨(by dsimp only [rm_]; omega), (by dsimp only [rm_]; omega)⟩ rfl (Nat.le_of_ble_eq_true rfl) dc_R_sum_77 (fun v h k_ n_ hq => ?_)
        obtain ⟨rfl, rfl, rfl, rfl⟩ := hq
        show vx_V _ _ _ _ _ _ _ _ _ 80 [(5, .int (nI (cy 65536 U W (c + 1)))), (7, .int (nI ((dg 65536 U c) + (dg 65536 W c) + (cy 65536 U W c)))), (6, .int (nI c)), (4, .int (nI sz)), (0, .ref (q 0)), (1, .int (nI d)), (2, .int (nI a)), (3, .int (nI b))] [.int (nI (rt d)), .ref (q 1)]
        refine vx_iload IG dc_R_sum_80 2 rfl ?_
        refine vx_iadd IG dc_R_sum_82 ?_
        refine vx_topi (y := nI ((rt d) + c)) (nI_add _ _) ?_
        refine vx_iload IG dc_R_sum_83 1 rfl ?_
        refine vx_ldc (v := 65535) IG wK_R_36 dc_R_sum_85 ?_
        refine vx_iand IG dc_R_sum_87 ?_
        refine vx_topi (y := nI (dg 65536 (U + W) c)) (by rw [an16 (by omega), cy_dg b16]) ?_
        refine rr_mst IG LR ht3 (rt_in hd (by omega)) (f' := pf f (rt d) (dg 65536 (U + W)) (c + 1)) (pf_s _ _ _ _) dc_R_sum_88 ?_
        refine vx_iinc (q := 2) (v := nI (c + 1)) (lv' := [(6, .int (nI (c + 1))), (5, .int (nI (cy 65536 U W (c + 1)))), (7, .int (nI ((dg 65536 U c) + (dg 65536 W c) + (cy 65536 U W c)))), (4, .int (nI sz)), (0, .ref (q 0)), (1, .int (nI d)), (2, .int (nI a)), (3, .int (nI b))]) IG dc_R_sum_89 rfl (nI_1 c) (by decide) rfl ?_
        refine vx_goto (tgt := 38) IG dc_R_sum_92 (by decide) ?_
        refine vx_same (lv' := [(6, .int (nI (c + 1))), (5, .int (nI (cy 65536 U W (c + 1)))), (4, .int (nI sz)), (0, .ref (q 0)), (1, .int (nI d)), (2, .int (nI a)), (3, .int (nI b))]) IG [0, 1, 3, 4, 5, 6, 7] rfl ?_
        exact ih (c + 1) _ _ (by omega) rfl rfl
    have hl := loop (sz + 1) 0 0 0 (by omega) rfl rfl
    rw [pf_0, cy_zero] at hl
    exact hl
  refine vx_aload_n IG dc_R_sum_0 rfl 0 rfl ?_
  refine vx_get IG (ro_M LR) rfl 1 (by decide) inR wF_R_14 rfl rfl dc_R_sum_1 ?_
  refine vx_iload_n IG dc_R_sum_4 rfl 2 rfl ?_
  refine rr_nld IG LR ht3 ha (x := nI (nd 65536 U)) hga dc_R_sum_5 ?_
  refine vx_aload_n IG dc_R_sum_6 rfl 0 rfl ?_
  refine vx_get IG (ro_M LR) rfl 1 (by decide) inR wF_R_14 rfl rfl dc_R_sum_7 ?_
  refine vx_iload_n IG dc_R_sum_10 rfl 3 rfl ?_
  refine rr_nld IG LR ht3 hb (x := nI (nd 65536 W)) hgb dc_R_sum_11 ?_
  by_cases z : nd 65536 U < nd 65536 W
  · refine vx_icmp_ge (tgt := 24) IG dc_R_sum_12 (by decide) (fun c_ => absurd c_ (fun c => absurd (nI_lt z (by omega)) (Int32.not_lt.mpr c))) (fun _ => ?_)
    refine vx_aload_n IG dc_R_sum_15 rfl 0 rfl ?_
    refine vx_get IG (ro_M LR) rfl 1 (by decide) inR wF_R_14 rfl rfl dc_R_sum_16 ?_
    refine vx_iload_n IG dc_R_sum_19 rfl 3 rfl ?_
    refine rr_nld IG LR ht3 hb (x := nI (nd 65536 W)) hgb dc_R_sum_20 ?_
    refine vx_goto (tgt := 30) IG dc_R_sum_21 (by decide) ?_
    exact tail _ _ _ (by omega) (by omega) s2 rfl rfl
  · refine vx_icmp_ge (tgt := 24) IG dc_R_sum_12 (by decide) (fun _ => ?_) (fun c_ => absurd (nI_le (by omega) (by omega)) c_)
    refine vx_aload_n IG dc_R_sum_24 rfl 0 rfl ?_
    refine vx_get IG (ro_M LR) rfl 1 (by decide) inR wF_R_14 rfl rfl dc_R_sum_25 ?_
    refine vx_iload_n IG dc_R_sum_28 rfl 2 rfl ?_
    refine rr_nld IG LR ht3 ha (x := nI (nd 65536 U)) hga dc_R_sum_29 ?_
    exact tail _ _ _ (by omega) (by omega) s1 rfl rfl
set_option maxRecDepth 100000 in
set_option maxHeartbeats 8000000 in
theorem cR_lessen (LR : rlay q h0) (ht2 : tys[2]? = some (cZ, .boolean)) (ht3 : tys[3]? = some (cI, .int)) {U W : Nat} (Ha : rv f g a U) (Hb : rv f g b W) (hd : d < 24) (ha : a < 24) (hb : b < 24) (s1 : nd 65536 U ≤ rcap d) (hle : W ≤ U) : vx_M l D vcl tys my_R_lessen lw_gd (rm_ 2 0 0 43) [.ref (q 0), .int (nI d), .int (nI a), .int (nI b)] (rH cI cZ q h0 f g s) (rdone cI cZ q h0 f g s d (U - W)) := by
  refine vx_M.ofV (cc := bc_R_lessen) (maxL := 8) (ret := none) (own := rR) false rfl (by decide +kernel) wC_R_lessen (fun q => by cases q) (Nat.le_of_ble_eq_true rfl) (fun A H0 G IG RG => ?_)
  show vx_V _ _ _ _ _ _ _ _ _ 0 [(0, .ref (q 0)), (1, .int (nI d)), (2, .int (nI a)), (3, .int (nI b))] []
  obtain ⟨hga, hca, hfa⟩ := Ha
  obtain ⟨hgb, hcb, hfb⟩ := Hb
  have c1 := rcap_4 a
  have c2 := rcap_4 b
  have c3 := rcap_4 d
  have hN : U - W < 65536 ^ nd 65536 U := Nat.lt_of_le_of_lt (Nat.sub_le _ _) (lt_nd b16 _)
  refine vx_aload_n IG dc_R_lessen_0 rfl 0 rfl ?_
  refine vx_get IG (ro_M LR) rfl 1 (by decide) inR wF_R_14 rfl rfl dc_R_lessen_1 ?_
  refine vx_iload_n IG dc_R_lessen_4 rfl 2 rfl ?_
  refine rr_nld IG LR ht3 ha (x := nI (nd 65536 U)) hga dc_R_lessen_5 ?_
  refine vx_istore (lv' := [(4, .int (nI (nd 65536 U))), (0, .ref (q 0)), (1, .int (nI d)), (2, .int (nI a)), (3, .int (nI b))]) IG dc_R_lessen_6 (by decide) rfl ?_
  refine vx_iconst (v := 0) IG dc_R_lessen_8 (by decide) ?_
  refine vx_istore (lv' := [(5, .int 0), (4, .int (nI (nd 65536 U))), (0, .ref (q 0)), (1, .int (nI d)), (2, .int (nI a)), (3, .int (nI b))]) IG dc_R_lessen_9 (by decide) rfl ?_
  refine vx_iconst (v := 0) IG dc_R_lessen_11 (by decide) ?_
  refine vx_istore (lv' := [(6, .int 0), (5, .int 0), (4, .int (nI (nd 65536 U))), (0, .ref (q 0)), (1, .int (nI d)), (2, .int (nI a)), (3, .int (nI b))]) IG dc_R_lessen_12 (by decide) rfl ?_
  have loop : ∀ (j c k n : Nat), c + j = nd 65536 U → k = 0 → n = 0 → vx_V D vcl A H0 8 G (rH cI cZ q h0 (pf f (rt d) (dg 65536 (U - W)) c) g s) k n 14 [(6, .int (nI c)), (5, .int (nI (bw 65536 U W c))), (4, .int (nI (nd 65536 U))), (0, .ref (q 0)), (1, .int (nI d)), (2, .int (nI a)), (3, .int (nI b))] [] := by
    intro j
    induction j with
    | zero =>
      intro c k n hc hk hn
      subst hk hn
      obtain rfl : c = nd 65536 U := by omega
      refine vx_iload IG dc_R_lessen_14 0 rfl ?_
      refine vx_iload IG dc_R_lessen_16 2 rfl ?_
      refine vx_icmp_ge (tgt := 81) IG dc_R_lessen_18 (by decide) (fun _ => ?_) (fun c_ => absurd (nI_le (Nat.le_refl _) (by omega)) c_)
      refine vx_aload_n IG dc_R_lessen_81 rfl 3 rfl ?_
      refine vx_iload_n IG dc_R_lessen_82 rfl 4 rfl ?_
      refine vx_iload IG dc_R_lessen_83 2 rfl ?_
      refine vx_callV (As := [.int (nI d), .int (nI (nd 65536 U))]) (st := []) IG lw_good (cR_trim LR ht2 ht3 (N := U - W) (sz := nd 65536 U) hd (by omega) (fun k hk => pf_in (by omega)) hN) (ro_M LR) rfl wC_R_trim wL_R_28 wI_R_trim wS_R_trim wX_R 2 (by decide +kernel) rfl ⟨Nat.le_of_ble_eq_true rfl, Nat.le_of_ble_eq_true rfl⟩ ⟨(by dsimp only [rm_]; omega), (by dsimp only [rm_]; omega)⟩ rfl (Nat.le_of_ble_eq_true rfl) dc_R_lessen_85 (fun v h k_ n_ hq => ?_)
      obtain ⟨rfl, rfl, rfl, rfl⟩ := hq
      show vx_V _ _ _ _ _ _ _ _ _ 88 [(6, .int (nI (nd 65536 U))), (5, .int (nI (bw 65536 U W (nd 65536 U)))), (4, .int (nI (nd 65536 U))), (0, .ref (q 0)), (1, .int (nI d)), (2, .int (nI a)), (3, .int (nI b))] []
      refine vx_ret none RG (vx_endv dc_R_lessen_88) rfl ?_
      exact ⟨rfl, rfl, rfl, _, _, rfl, rs_pw s1 hN⟩
    | succ j ih =>
      intro c k n hc hk hn
      subst hk hn
      have l1 := dg_lt b16 U c
      have l2 := dg_lt b16 W c
      have l3 := bw_le 65536 U W c
      refine vx_iload IG dc_R_lessen_14 0 rfl ?_
      refine vx_iload IG dc_R_lessen_16 2 rfl ?_
      refine vx_icmp_ge (tgt := 81) IG dc_R_lessen_18 (by decide) (fun c_ => absurd c_ (fun y => absurd (nI_lt (a := c) (b := nd 65536 U) (by omega) (by omega)) (Int32.not_lt.mpr y))) (fun _ => ?_)
      refine vx_aload_n IG dc_R_lessen_21 rfl 3 rfl ?_
      refine vx_get IG (ro_M LR) rfl 0 (by decide) inR wF_R_8 rfl rfl dc_R_lessen_22 ?_
      refine vx_iload_n IG dc_R_lessen_25 rfl 5 rfl ?_
      refine vx_callS (As := [.int (nI a)]) (st := [.ref (q 1)]) IG lw_good (cR_at _ a ha) wC_R_at wL_R_22 wT_R_at wX_R 1 (by decide +kernel) rfl ⟨Nat.le_of_ble_eq_true rfl, Nat.le_of_ble_eq_true rfl⟩ ⟨(by dsimp only [rm_]; omega), (by dsimp only [rm_]; omega)⟩ rfl (Nat.le_of_ble_eq_true rfl) dc_R_lessen_26 (fun v h k_ n_ hq => ?_)
      obtain ⟨rfl, rfl, rfl, rfl⟩ := hq
      show vx_V _ _ _ _ _ _ _ _ _ 29 [(6, .int (nI c)), (5, .int (nI (bw 65536 U W c))), (4, .int (nI (nd 65536 U))), (0, .ref (q 0)), (1, .int (nI d)), (2, .int (nI a)), (3, .int (nI b))] [.int (nI (rt a)), .ref (q 1)]
      refine vx_iload IG dc_R_lessen_29 0 rfl ?_
      refine vx_iadd IG dc_R_lessen_31 ?_
      refine vx_topi (y := nI ((rt a) + c)) (nI_add _ _) ?_
      refine rr_mld IG LR ht3 (rt_in ha (by omega)) (x := nI (dg 65536 U c)) (by rw [pf_row (Or.inr (Nat.le_refl c)) ha hd (by omega) (by omega)]; exact hfa c (by omega)) dc_R_lessen_32 ?_
      refine vx_aload_n IG dc_R_lessen_33 rfl 3 rfl ?_
      refine vx_iload_n IG dc_R_lessen_34 rfl 6 rfl ?_
      refine vx_iload IG dc_R_lessen_35 0 rfl ?_
      refine vx_callV (As := [.int (nI b), .int (nI c)]) (st := [.int (nI (dg 65536 U c))]) IG lw_good (cR_digit LR ht2 ht3 (N := W) hb (k := c) (by omega) hgb hcb (fun z => by rw [pf_row (Or.inr (Nat.le_refl c)) hb hd (by omega) (by omega)]; exact hfb c z)) (ro_M LR) rfl wC_R_digit wL_R_32 wI_R_digit wS_R_digit wX_R 2 (by decide +kernel) rfl ⟨Nat.le_of_ble_eq_true rfl, Nat.le_of_ble_eq_true rfl⟩ ⟨(by dsimp only [rm_]; omega), (by dsimp only [rm_]; omega)⟩ rfl (Nat.le_of_ble_eq_true rfl) dc_R_lessen_37 (fun v h k_ n_ hq => ?_)
      obtain ⟨rfl, rfl, rfl, rfl⟩ := hq
      show vx_V _ _ _ _ _ _ _ _ _ 40 [(6, .int (nI c)), (5, .int (nI (bw 65536 U W c))), (4, .int (nI (nd 65536 U))), (0, .ref (q 0)), (1, .int (nI d)), (2, .int (nI a)), (3, .int (nI b))] [.int (nI (dg 65536 W c)), .int (nI (dg 65536 U c))]
      refine vx_isub IG dc_R_lessen_40 ?_
      refine vx_iload IG dc_R_lessen_41 1 rfl ?_
      refine vx_isub IG dc_R_lessen_43 ?_
      refine vx_istore (lv' := [(7, .int (((nI (dg 65536 U c)) - nI (dg 65536 W c)) - nI (bw 65536 U W c))), (6, .int (nI c)), (5, .int (nI (bw 65536 U W c))), (4, .int (nI (nd 65536 U))), (0, .ref (q 0)), (1, .int (nI d)), (2, .int (nI a)), (3, .int (nI b))]) IG dc_R_lessen_44 (by decide) rfl ?_
      refine vx_iload IG dc_R_lessen_46 0 rfl ?_
      have fin : ∀ (w : Nat) (k n : Nat), w = bw 65536 U W (c + 1) → k = 0 → n = 0 → vx_V D vcl A H0 8 G (rH cI cZ q h0 (pf f (rt d) (dg 65536 (U - W)) c) g s) k n 56 [(7, .int (nI (dg 65536 U c) - nI (dg 65536 W c) - nI (bw 65536 U W c))), (6, .int (nI c)), (5, .int (nI (bw 65536 U W c))), (4, .int (nI (nd 65536 U))), (0, .ref (q 0)), (1, .int (nI d)), (2, .int (nI a)), (3, .int (nI b))] [.int (nI w)] := by
        intro w k n hw hk hn
        subst hk hn
        refine vx_istore (lv' := [(5, .int (nI w)), (7, .int (nI (dg 65536 U c) - nI (dg 65536 W c) - nI (bw 65536 U W c))), (6, .int (nI c)), (4, .int (nI (nd 65536 U))), (0, .ref (q 0)), (1, .int (nI d)), (2, .int (nI a)), (3, .int (nI b))]) IG dc_R_lessen_56 (by decide) rfl ?_
        refine vx_aload_n IG dc_R_lessen_58 rfl 4 rfl ?_
        refine vx_get IG (ro_M LR) rfl 0 (by decide) inR wF_R_8 rfl rfl dc_R_lessen_59 ?_
        refine vx_iload_n IG dc_R_lessen_62 rfl 5 rfl ?_
        refine vx_callS (As := [.int (nI d)]) (st := [.ref (q 1)]) IG lw_good (cR_at _ d hd) wC_R_at wL_R_22 wT_R_at wX_R 1 (by decide +kernel) rfl ⟨Nat.le_of_ble_eq_true rfl, Nat.le_of_ble_eq_true rfl⟩ ⟨(by dsimp only [rm_]; omega), (by dsimp only [rm_]; omega)⟩ rfl (Nat.le_of_ble_eq_true rfl) dc_R_lessen_63 (fun v h k_ n_ hq => ?_)
        obtain ⟨rfl, rfl, rfl, rfl⟩ := hq
        show vx_V _ _ _ _ _ _ _ _ _ 66 [(5, .int (nI w)), (7, .int (nI (dg 65536 U c) - nI (dg 65536 W c) - nI (bw 65536 U W c))), (6, .int (nI c)), (4, .int (nI (nd 65536 U))), (0, .ref (q 0)), (1, .int (nI d)), (2, .int (nI a)), (3, .int (nI b))] [.int (nI (rt d)), .ref (q 1)]
        refine vx_iload IG dc_R_lessen_66 2 rfl ?_
        refine vx_iadd IG dc_R_lessen_68 ?_
        refine vx_topi (y := nI ((rt d) + c)) (nI_add _ _) ?_
        refine vx_iload IG dc_R_lessen_69 1 rfl ?_
        refine vx_ldc (v := 65535) IG wK_R_36 dc_R_lessen_71 ?_
        refine vx_iand IG dc_R_lessen_73 ?_
        refine vx_topi (y := nI (dg 65536 (U - W) c)) (by rw [le_and l1 l2 l3, bw_dg b16 hle]) ?_
        refine rr_mst IG LR ht3 (rt_in hd (by omega)) (f' := pf f (rt d) (dg 65536 (U - W)) (c + 1)) (pf_s _ _ _ _) dc_R_lessen_74 ?_
        refine vx_iinc (q := 2) (v := nI (c + 1)) (lv' := [(6, .int (nI (c + 1))), (5, .int (nI w)), (7, .int (nI (dg 65536 U c) - nI (dg 65536 W c) - nI (bw 65536 U W c))), (4, .int (nI (nd 65536 U))), (0, .ref (q 0)), (1, .int (nI d)), (2, .int (nI a)), (3, .int (nI b))]) IG dc_R_lessen_75 rfl (nI_1 c) (by decide) rfl ?_
        refine vx_goto (tgt := 14) IG dc_R_lessen_78 (by decide) ?_
        refine vx_same (lv' := [(6, .int (nI (c + 1))), (5, .int (nI w)), (4, .int (nI (nd 65536 U))), (0, .ref (q 0)), (1, .int (nI d)), (2, .int (nI a)), (3, .int (nI b))]) IG [0, 1, 3, 4, 5, 6, 7] rfl ?_
        rw [hw]
        exact ih (c + 1) _ _ (by omega) rfl rfl
      have hbs := bw_succ b16 U W c
      by_cases z : dg 65536 U c < dg 65536 W c + bw 65536 U W c
      · rw [if_pos z] at hbs
        refine vx_if_ge (tgt := 55) IG dc_R_lessen_48 (by decide) (fun c_ => absurd c_ (fun y => absurd ((le_neg l1 l2 l3).mpr z) (Int32.not_lt.mpr y))) (fun _ => ?_)
        refine vx_iconst (v := 1) IG dc_R_lessen_51 (by decide) ?_
        refine vx_goto (tgt := 56) IG dc_R_lessen_52 (by decide) ?_
        exact fin 1 _ _ hbs.symm rfl rfl
      · rw [if_neg z] at hbs
        refine vx_if_ge (tgt := 55) IG dc_R_lessen_48 (by decide) (fun _ => ?_) (fun c_ => absurd (Int32.not_lt.mp (fun y => z ((le_neg l1 l2 l3).mp y))) c_)
        refine vx_iconst (v := 0) IG dc_R_lessen_55 (by decide) ?_
        exact fin 0 _ _ hbs.symm rfl rfl
  have hl := loop (nd 65536 U) 0 0 0 (by omega) rfl rfl
  rw [pf_0, bw_zero] at hl
  exact hl
set_option maxRecDepth 100000 in
set_option maxHeartbeats 8000000 in
theorem cR_twice (LR : rlay q h0) (ht2 : tys[2]? = some (cZ, .boolean)) (ht3 : tys[3]? = some (cI, .int)) {U : Nat} (Hd : rv f g d U) (hd : d < 24) {t : Nat} (ht : t ≤ 1) (s1 : nd 65536 U < rcap d) : vx_M l D vcl tys my_R_twice lw_gd (rm_ 1 0 0 20) [.ref (q 0), .int (nI d), .int (nI t)] (rH cI cZ q h0 f g s) (rdone cI cZ q h0 f g s d (2 * U + t)) := by
  refine vx_M.ofV (cc := bc_R_twice) (maxL := 6) (ret := none) (own := rR) false rfl (by decide +kernel) wC_R_twice (fun q => by cases q) (Nat.le_of_ble_eq_true rfl) (fun A H0 G IG RG => ?_)
  show vx_V _ _ _ _ _ _ _ _ _ 0 [(0, .ref (q 0)), (1, .int (nI d)), (2, .int (nI t))] []
  obtain ⟨hga, hca, hfa⟩ := Hd
  have c3 := rcap_4 d
  obtain ⟨e1, e2⟩ := tw_n (A := U) ht
  have hN : 2 * U + t < 65536 ^ (nd 65536 U + 1) := (nd_le b16).mp (by have := tw_1 (A := U) (k := nd 65536 U) ht; omega)
  refine vx_iload_n IG dc_R_twice_0 rfl 2 rfl ?_
  refine vx_istore_n (lv' := [(3, .int (nI t)), (0, .ref (q 0)), (1, .int (nI d)), (2, .int (nI t))]) IG dc_R_twice_1 rfl (by decide) rfl ?_
  refine vx_iconst (v := 0) IG dc_R_twice_2 (by decide) ?_
  refine vx_istore (lv' := [(4, .int 0), (3, .int (nI t)), (0, .ref (q 0)), (1, .int (nI d)), (2, .int (nI t))]) IG dc_R_twice_3 (by decide) rfl ?_
  have loop : ∀ (j c k n : Nat), c + j = nd 65536 U → k = 0 → n = 0 → vx_V D vcl A H0 6 G (rH cI cZ q h0 (pf f (rt d) (dg 65536 (2 * U + t)) c) g s) k n 5 [(4, .int (nI c)), (3, .int (nI (tw U t c))), (0, .ref (q 0)), (1, .int (nI d)), (2, .int (nI t))] [] := by
    intro j
    induction j with
    | zero =>
      intro c k n hc hk hn
      subst hk hn
      obtain rfl : c = nd 65536 U := by omega
      refine vx_iload IG dc_R_twice_5 0 rfl ?_
      refine vx_aload_n IG dc_R_twice_7 rfl 2 rfl ?_
      refine vx_get IG (ro_M LR) rfl 1 (by decide) inR wF_R_14 rfl rfl dc_R_twice_8 ?_
      refine vx_iload_n IG dc_R_twice_11 rfl 3 rfl ?_
      refine rr_nld IG LR ht3 hd (x := nI (nd 65536 U)) hga dc_R_twice_12 ?_
      refine vx_icmp_ge (tgt := 63) IG dc_R_twice_13 (by decide) (fun _ => ?_) (fun c_ => absurd (nI_le (Nat.le_refl _) (by omega)) c_)
      refine vx_aload_n IG dc_R_twice_63 rfl 2 rfl ?_
      refine vx_get IG (ro_M LR) rfl 0 (by decide) inR wF_R_8 rfl rfl dc_R_twice_64 ?_
      refine vx_iload_n IG dc_R_twice_67 rfl 3 rfl ?_
      refine vx_callS (As := [.int (nI d)]) (st := [.ref (q 1)]) IG lw_good (cR_at _ d hd) wC_R_at wL_R_22 wT_R_at wX_R 1 (by decide +kernel) rfl ⟨Nat.le_of_ble_eq_true rfl, Nat.le_of_ble_eq_true rfl⟩ ⟨(by dsimp only [rm_]; omega), (by dsimp only [rm_]; omega)⟩ rfl (Nat.le_of_ble_eq_true rfl) dc_R_twice_68 (fun v h k_ n_ hq => ?_)
      obtain ⟨rfl, rfl, rfl, rfl⟩ := hq
      show vx_V _ _ _ _ _ _ _ _ _ 71 [(4, .int (nI (nd 65536 U))), (3, .int (nI (tw U t (nd 65536 U)))), (0, .ref (q 0)), (1, .int (nI d)), (2, .int (nI t))] [.int (nI (rt d)), .ref (q 1)]
      refine vx_aload_n IG dc_R_twice_71 rfl 2 rfl ?_
      refine vx_get IG (ro_M LR) rfl 1 (by decide) inR wF_R_14 rfl rfl dc_R_twice_72 ?_
      refine vx_iload_n IG dc_R_twice_75 rfl 3 rfl ?_
      refine rr_nld IG LR ht3 hd (x := nI (nd 65536 U)) hga dc_R_twice_76 ?_
      refine vx_iadd IG dc_R_twice_77 ?_
      refine vx_topi (y := nI ((rt d) + (nd 65536 U))) (nI_add _ _) ?_
      refine vx_iload_n IG dc_R_twice_78 rfl 1 rfl ?_
      refine rr_mst IG LR ht3 (rt_in hd (by omega)) (f' := pf f (rt d) (dg 65536 (2 * U + t)) (nd 65536 U + 1)) (by rw [e2]; exact pf_s _ _ _ _) dc_R_twice_79 ?_
      refine vx_aload_n IG dc_R_twice_80 rfl 2 rfl ?_
      refine vx_get IG (ro_M LR) rfl 1 (by decide) inR wF_R_14 rfl rfl dc_R_twice_81 ?_
      refine vx_iload_n IG dc_R_twice_84 rfl 3 rfl ?_
      refine vx_dup2 IG dc_R_twice_85 rfl rfl ?_
      refine rr_nld IG LR ht3 hd (x := nI (nd 65536 U)) hga dc_R_twice_86 ?_
      refine vx_iload_n IG dc_R_twice_87 rfl 1 rfl ?_
      refine vx_iadd IG dc_R_twice_88 ?_
      refine vx_topi (y := nI ((nd 65536 U) + (tw U t (nd 65536 U)))) (nI_add _ _) ?_
      refine rr_nst IG LR ht3 hd (g' := upd g d (nI (nd 65536 (2 * U + t)))) (by rw [e1]) dc_R_twice_89 ?_
      refine vx_ret none RG (vx_endv dc_R_twice_90) rfl ?_
      exact ⟨rfl, rfl, rfl, _, _, rfl, rs_pw (by omega) hN⟩
    | succ j ih =>
      intro c k n hc hk hn
      subst hk hn
      have l1 := dg_lt b16 U c
      have l3 := tw_1 (A := U) (k := c) ht
      refine vx_iload IG dc_R_twice_5 0 rfl ?_
      refine vx_aload_n IG dc_R_twice_7 rfl 2 rfl ?_
      refine vx_get IG (ro_M LR) rfl 1 (by decide) inR wF_R_14 rfl rfl dc_R_twice_8 ?_
      refine vx_iload_n IG dc_R_twice_11 rfl 3 rfl ?_
      refine rr_nld IG LR ht3 hd (x := nI (nd 65536 U)) hga dc_R_twice_12 ?_
      refine vx_icmp_ge (tgt := 63) IG dc_R_twice_13 (by decide) (fun c_ => absurd c_ (fun y => absurd (nI_lt (a := c) (b := nd 65536 U) (by omega) (by omega)) (Int32.not_lt.mpr y))) (fun _ => ?_)
      refine vx_iconst (v := 2) IG dc_R_twice_16 (by decide) ?_
      refine vx_aload_n IG dc_R_twice_17 rfl 2 rfl ?_
      refine vx_get IG (ro_M LR) rfl 0 (by decide) inR wF_R_8 rfl rfl dc_R_twice_18 ?_
      refine vx_iload_n IG dc_R_twice_21 rfl 3 rfl ?_
      refine vx_callS (As := [.int (nI d)]) (st := [.ref (q 1), .int 2]) IG lw_good (cR_at _ d hd) wC_R_at wL_R_22 wT_R_at wX_R 1 (by decide +kernel) rfl ⟨Nat.le_of_ble_eq_true rfl, Nat.le_of_ble_eq_true rfl⟩ ⟨(by dsimp only [rm_]; omega), (by dsimp only [rm_]; omega)⟩ rfl (Nat.le_of_ble_eq_true rfl) dc_R_twice_22 (fun v h k_ n_ hq => ?_)
      obtain ⟨rfl, rfl, rfl, rfl⟩ := hq
      show vx_V _ _ _ _ _ _ _ _ _ 25 [(4, .int (nI c)), (3, .int (nI (tw U t c))), (0, .ref (q 0)), (1, .int (nI d)), (2, .int (nI t))] [.int (nI (rt d)), .ref (q 1), .int 2]
      refine vx_iload IG dc_R_twice_25 0 rfl ?_
      refine vx_iadd IG dc_R_twice_27 ?_
      refine vx_topi (y := nI ((rt d) + c)) (nI_add _ _) ?_
      refine rr_mld IG LR ht3 (rt_in hd (by omega)) (x := nI (dg 65536 U c)) (by rw [pf_row (Or.inr (Nat.le_refl c)) hd hd (by omega) (by omega)]; exact hfa c (by omega)) dc_R_twice_28 ?_
      refine vx_imul IG dc_R_twice_29 ?_
      refine vx_topi (y := nI (2 * (dg 65536 U c))) (pk_mul _ _) ?_
      refine vx_iload_n IG dc_R_twice_30 rfl 1 rfl ?_
      refine vx_iadd IG dc_R_twice_31 ?_
      refine vx_topi (y := nI ((2 * (dg 65536 U c)) + (tw U t c))) (nI_add _ _) ?_
      refine vx_istore (lv' := [(5, .int (nI ((2 * (dg 65536 U c)) + (tw U t c)))), (4, .int (nI c)), (3, .int (nI (tw U t c))), (0, .ref (q 0)), (1, .int (nI d)), (2, .int (nI t))]) IG dc_R_twice_32 (by decide) rfl ?_
      refine vx_iload IG dc_R_twice_34 0 rfl ?_
      refine vx_bipush (v := 16) IG dc_R_twice_36 (by decide) ?_
      refine vx_ishr IG dc_R_twice_38 ?_
      refine vx_topi (y := nI (tw U t (c + 1))) (by rw [sh16 (by omega), tw_s]) ?_
      refine vx_istore_n (lv' := [(3, .int (nI (tw U t (c + 1)))), (5, .int (nI ((2 * (dg 65536 U c)) + (tw U t c)))), (4, .int (nI c)), (0, .ref (q 0)), (1, .int (nI d)), (2, .int (nI t))]) IG dc_R_twice_39 rfl (by decide) rfl ?_
      refine vx_aload_n IG dc_R_twice_40 rfl 3 rfl ?_
      refine vx_get IG (ro_M LR) rfl 0 (by decide) inR wF_R_8 rfl rfl dc_R_twice_41 ?_
      refine vx_iload_n IG dc_R_twice_44 rfl 4 rfl ?_
      refine vx_callS (As := [.int (nI d)]) (st := [.ref (q 1)]) IG lw_good (cR_at _ d hd) wC_R_at wL_R_22 wT_R_at wX_R 1 (by decide +kernel) rfl ⟨Nat.le_of_ble_eq_true rfl, Nat.le_of_ble_eq_true rfl⟩ ⟨(by dsimp only [rm_]; omega), (by dsimp only [rm_]; omega)⟩ rfl (Nat.le_of_ble_eq_true rfl) dc_R_twice_45 (fun v h k_ n_ hq => ?_)
      obtain ⟨rfl, rfl, rfl, rfl⟩ := hq
      show vx_V _ _ _ _ _ _ _ _ _ 48 [(3, .int (nI (tw U t (c + 1)))), (5, .int (nI ((2 * (dg 65536 U c)) + (tw U t c)))), (4, .int (nI c)), (0, .ref (q 0)), (1, .int (nI d)), (2, .int (nI t))] [.int (nI (rt d)), .ref (q 1)]
      refine vx_iload IG dc_R_twice_48 2 rfl ?_
      refine vx_iadd IG dc_R_twice_50 ?_
      refine vx_topi (y := nI ((rt d) + c)) (nI_add _ _) ?_
      refine vx_iload IG dc_R_twice_51 1 rfl ?_
      refine vx_ldc (v := 65535) IG wK_R_36 dc_R_twice_53 ?_
      refine vx_iand IG dc_R_twice_55 ?_
      refine vx_topi (y := nI (dg 65536 (2 * U + t) c)) (by rw [an16 (by omega), tw_d]) ?_
      refine rr_mst IG LR ht3 (rt_in hd (by omega)) (f' := pf f (rt d) (dg 65536 (2 * U + t)) (c + 1)) (pf_s _ _ _ _) dc_R_twice_56 ?_
      refine vx_iinc (q := 2) (v := nI (c + 1)) (lv' := [(4, .int (nI (c + 1))), (3, .int (nI (tw U t (c + 1)))), (5, .int (nI ((2 * (dg 65536 U c)) + (tw U t c)))), (0, .ref (q 0)), (1, .int (nI d)), (2, .int (nI t))]) IG dc_R_twice_57 rfl (nI_1 c) (by decide) rfl ?_
      refine vx_goto (tgt := 5) IG dc_R_twice_60 (by decide) ?_
      refine vx_same (lv' := [(4, .int (nI (c + 1))), (3, .int (nI (tw U t (c + 1)))), (0, .ref (q 0)), (1, .int (nI d)), (2, .int (nI t))]) IG [0, 1, 3, 4, 5] rfl ?_
      exact ih (c + 1) _ _ (by omega) rfl rfl
  have hl := loop (nd 65536 U) 0 0 0 (by omega) rfl rfl
  rw [pf_0, tw_0] at hl
  exact hl
set_option maxRecDepth 100000 in
set_option maxHeartbeats 8000000 in
theorem cR_bitsOf (LR : rlay q h0) (ht2 : tys[2]? = some (cZ, .boolean)) (ht3 : tys[3]? = some (cI, .int)) {U : Nat} (Ha : rv f g a U) (ha : a < 24) : vx_M l D vcl tys my_R_bitsOf lw_gd (rm_ 1 0 0 20) [.ref (q 0), .int (nI a)] (rH cI cZ q h0 f g s) (rval (rH cI cZ q h0 f g s) (nI (bl U))) := by
  refine vx_M.ofV (cc := bc_R_bitsOf) (maxL := 4) (ret := (some .int)) (own := rR) false rfl (by decide +kernel) wC_R_bitsOf (fun q => by cases q) (Nat.le_of_ble_eq_true rfl) (fun A H0 G IG RG => ?_)
  show vx_V _ _ _ _ _ _ _ _ _ 0 [(0, .ref (q 0)), (1, .int (nI a))] []
  obtain ⟨hga, hca, hfa⟩ := Ha
  have c1 := rcap_4 a
  refine vx_aload_n IG dc_R_bitsOf_0 rfl 0 rfl ?_
  refine vx_get IG (ro_M LR) rfl 1 (by decide) inR wF_R_14 rfl rfl dc_R_bitsOf_1 ?_
  refine vx_iload_n IG dc_R_bitsOf_4 rfl 1 rfl ?_
  refine rr_nld IG LR ht3 ha (x := nI (nd 65536 U)) hga dc_R_bitsOf_5 ?_
  by_cases z : U = 0
  · refine vx_if_ne (tgt := 11) IG dc_R_bitsOf_6 (by decide) (fun c_ => absurd (by rw [z]; rfl) c_) (fun _ => ?_)
    refine vx_iconst (v := 0) IG dc_R_bitsOf_9 (by decide) ?_
    refine vx_ret (some (.int 0)) RG (vx_endi (by first | rfl | decide) dc_R_bitsOf_10) rfl ?_
    exact ⟨by rw [z]; rfl, rfl, rfl, rfl⟩
  · have hn0 : nd 65536 U ≠ 0 := fun y => z ((nd_eq_zero b16).mp y)
    refine vx_if_ne (tgt := 11) IG dc_R_bitsOf_6 (by decide) (fun _ => ?_) (fun c_ => absurd c_ (nI_ne (by omega) (b := 0) (by decide) hn0))
    refine vx_bipush (v := 16) IG dc_R_bitsOf_11 (by decide) ?_
    refine vx_aload_n IG dc_R_bitsOf_13 rfl 0 rfl ?_
    refine vx_get IG (ro_M LR) rfl 1 (by decide) inR wF_R_14 rfl rfl dc_R_bitsOf_14 ?_
    refine vx_iload_n IG dc_R_bitsOf_17 rfl 1 rfl ?_
    refine rr_nld IG LR ht3 ha (x := nI (nd 65536 U)) hga dc_R_bitsOf_18 ?_
    refine vx_iconst (v := 1) IG dc_R_bitsOf_19 (by decide) ?_
    refine vx_isub IG dc_R_bitsOf_20 ?_
    refine vx_topi (y := nI (nd 65536 U - 1)) (nI_pred2 (by omega)) ?_
    refine vx_imul IG dc_R_bitsOf_21 ?_
    refine vx_topi (y := nI (16 * (nd 65536 U - 1))) (pk_mul _ _) ?_
    refine vx_istore_n (lv' := [(2, .int (nI (16 * (nd 65536 U - 1)))), (0, .ref (q 0)), (1, .int (nI a))]) IG dc_R_bitsOf_22 rfl (by decide) rfl ?_
    refine vx_aload_n IG dc_R_bitsOf_23 rfl 1 rfl ?_
    refine vx_get IG (ro_M LR) rfl 0 (by decide) inR wF_R_8 rfl rfl dc_R_bitsOf_24 ?_
    refine vx_iload_n IG dc_R_bitsOf_27 rfl 2 rfl ?_
    refine vx_callS (As := [.int (nI a)]) (st := [.ref (q 1)]) IG lw_good (cR_at _ a ha) wC_R_at wL_R_22 wT_R_at wX_R 1 (by decide +kernel) rfl ⟨Nat.le_of_ble_eq_true rfl, Nat.le_of_ble_eq_true rfl⟩ ⟨(by dsimp only [rm_]; omega), (by dsimp only [rm_]; omega)⟩ rfl (Nat.le_of_ble_eq_true rfl) dc_R_bitsOf_28 (fun v h k_ n_ hq => ?_)
    obtain ⟨rfl, rfl, rfl, rfl⟩ := hq
    show vx_V _ _ _ _ _ _ _ _ _ 31 [(2, .int (nI (16 * (nd 65536 U - 1)))), (0, .ref (q 0)), (1, .int (nI a))] [.int (nI (rt a)), .ref (q 1)]
    refine vx_aload_n IG dc_R_bitsOf_31 rfl 1 rfl ?_
    refine vx_get IG (ro_M LR) rfl 1 (by decide) inR wF_R_14 rfl rfl dc_R_bitsOf_32 ?_
    refine vx_iload_n IG dc_R_bitsOf_35 rfl 2 rfl ?_
    refine rr_nld IG LR ht3 ha (x := nI (nd 65536 U)) hga dc_R_bitsOf_36 ?_
    refine vx_iadd IG dc_R_bitsOf_37 ?_
    refine vx_topi (y := nI ((rt a) + (nd 65536 U))) (nI_add _ _) ?_
    refine vx_iconst (v := 1) IG dc_R_bitsOf_38 (by decide) ?_
    refine vx_isub IG dc_R_bitsOf_39 ?_
    refine vx_topi (y := nI (rt a + (nd 65536 U - 1))) (by rw [nI_pred2 (by omega)]; congr 1; omega) ?_
    refine rr_mld IG LR ht3 (rt_in ha (by omega)) (x := nI (dg 65536 U (nd 65536 U - 1))) (hfa _ (by omega)) dc_R_bitsOf_40 ?_
    refine vx_istore_n (lv' := [(3, .int (nI (dg 65536 U (nd 65536 U - 1)))), (2, .int (nI (16 * (nd 65536 U - 1)))), (0, .ref (q 0)), (1, .int (nI a))]) IG dc_R_bitsOf_41 rfl (by decide) rfl ?_
    have hd := dg_lt b16 U (nd 65536 U - 1)
    rw [bl_dg (by omega)] at RG
    generalize dg 65536 U (nd 65536 U - 1) = e at *
    have loop : ∀ (c x B k n : Nat), bl x = c → x < 65536 → k = 0 → n = 0 → 16 * (nd 65536 U - 1) + bl e = B + bl x → vx_V D vcl A H0 4 G (rH cI cZ q h0 f g s) k n 42 [(3, .int (nI x)), (2, .int (nI B)), (0, .ref (q 0)), (1, .int (nI a))] [] := by
      intro c
      induction c with
      | zero =>
        intro x B k n hx hl hk hn he
        subst hk hn
        have hx0 := bl_eq_zero.mp hx
        rw [hx0] at he
        refine vx_iload_n IG dc_R_bitsOf_42 rfl 0 rfl ?_
        refine vx_if_le (tgt := 56) IG dc_R_bitsOf_43 (by decide) (fun _ => ?_) (fun c_ => absurd (by rw [hx0]; decide) c_)
        refine vx_iload_n IG dc_R_bitsOf_56 rfl 1 rfl ?_
        refine vx_ret (some (.int (nI B))) RG (vx_endi (by first | rfl | decide) dc_R_bitsOf_57) rfl ?_
        exact ⟨by rw [he]; rfl, rfl, rfl, rfl⟩
      | succ c ih =>
        intro x B k n hx hl hk hn he
        subst hk hn
        have hx0 : 0 < x := by
          rcases Nat.eq_zero_or_pos x with y | y
          · rw [y, bl_zero] at hx; omega
          · exact y
        have hh := bl_half hx0
        refine vx_iload_n IG dc_R_bitsOf_42 rfl 0 rfl ?_
        refine vx_if_le (tgt := 56) IG dc_R_bitsOf_43 (by decide) (fun c_ => absurd c_ (fun y => absurd (nI_lt (a := 0) (b := x) hx0 (by omega)) (Int32.not_lt.mpr y))) (fun _ => ?_)
        refine vx_iinc (q := 1) (v := nI (B + 1)) (lv' := [(2, .int (nI (B + 1))), (3, .int (nI x)), (0, .ref (q 0)), (1, .int (nI a))]) IG dc_R_bitsOf_46 rfl (nI_1 B) (by decide) rfl ?_
        refine vx_iload_n IG dc_R_bitsOf_49 rfl 1 rfl ?_
        refine vx_iconst (v := 1) IG dc_R_bitsOf_50 (by decide) ?_
        refine vx_ishr IG dc_R_bitsOf_51 ?_
        refine vx_topi (y := nI (x / 2)) (sh1 (by omega)) ?_
        refine vx_istore_n (lv' := [(3, .int (nI (x / 2))), (2, .int (nI (B + 1))), (0, .ref (q 0)), (1, .int (nI a))]) IG dc_R_bitsOf_52 rfl (by decide) rfl ?_
        refine vx_goto (tgt := 42) IG dc_R_bitsOf_53 (by decide) ?_
        exact ih (x / 2) (B + 1) _ _ (by omega) (by omega) rfl rfl (by omega)
    exact loop _ _ _ _ _ rfl hd rfl rfl rfl
set_option maxRecDepth 100000 in
set_option maxHeartbeats 8000000 in
theorem cR_bitOf (LR : rlay q h0) (ht2 : tys[2]? = some (cZ, .boolean)) (ht3 : tys[3]? = some (cI, .int)) {U : Nat} (Ha : rv f g a U) (ha : a < 24) {i : Nat} (hi : i < 2 ^ 31) : vx_M l D vcl tys my_R_bitOf lw_gd (rm_ 2 0 0 42) [.ref (q 0), .int (nI a), .int (nI i)] (rH cI cZ q h0 f g s) (rval (rH cI cZ q h0 f g s) (nI (U / 2 ^ i % 2))) := by
  refine vx_M.ofV (cc := bc_R_bitOf) (maxL := 3) (ret := (some .int)) (own := rR) false rfl (by decide +kernel) wC_R_bitOf (fun q => by cases q) (Nat.le_of_ble_eq_true rfl) (fun A H0 G IG RG => ?_)
  show vx_V _ _ _ _ _ _ _ _ _ 0 [(0, .ref (q 0)), (1, .int (nI a)), (2, .int (nI i))] []
  obtain ⟨hga, hca, hfa⟩ := Ha
  refine vx_aload_n IG dc_R_bitOf_0 rfl 0 rfl ?_
  refine vx_iload_n IG dc_R_bitOf_1 rfl 1 rfl ?_
  refine vx_iload_n IG dc_R_bitOf_2 rfl 2 rfl ?_
  refine vx_iconst (v := 4) IG dc_R_bitOf_3 (by decide) ?_
  refine vx_ishr IG dc_R_bitOf_4 ?_
  refine vx_topi (y := nI (i / 16)) (sh4 hi) ?_
  refine vx_callV (As := [.int (nI a), .int (nI (i / 16))]) (st := []) IG lw_good (cR_digit LR ht2 ht3 (N := U) ha (k := i / 16) (by omega) hga hca (hfa _)) (ro_M LR) rfl wC_R_digit wL_R_32 wI_R_digit wS_R_digit wX_R 2 (by decide +kernel) rfl ⟨Nat.le_of_ble_eq_true rfl, Nat.le_of_ble_eq_true rfl⟩ ⟨(by dsimp only [rm_]; omega), (by dsimp only [rm_]; omega)⟩ rfl (Nat.le_of_ble_eq_true rfl) dc_R_bitOf_5 (fun v h k_ n_ hq => ?_)
  obtain ⟨rfl, rfl, rfl, rfl⟩ := hq
  have hl := dg_lt b16 U (i / 16)
  have hl2 := Nat.div_le_self (dg 65536 U (i / 16)) (2 ^ (i % 16))
  show vx_V _ _ _ _ _ _ _ _ _ 8 [(0, .ref (q 0)), (1, .int (nI a)), (2, .int (nI i))] [.int (nI (dg 65536 U (i / 16)))]
  refine vx_iload_n IG dc_R_bitOf_8 rfl 2 rfl ?_
  refine vx_bipush (v := 15) IG dc_R_bitOf_9 (by decide) ?_
  refine vx_iand IG dc_R_bitOf_11 ?_
  refine vx_topi (y := nI (i % 16)) (an15 (by omega)) ?_
  refine vx_ishr IG dc_R_bitOf_12 ?_
  refine vx_topi (y := nI (dg 65536 U (i / 16) / 2 ^ (i % 16))) (shv (by omega) (by omega)) ?_
  refine vx_iconst (v := 1) IG dc_R_bitOf_13 (by decide) ?_
  refine vx_iand IG dc_R_bitOf_14 ?_
  refine vx_topi (y := nI (U / 2 ^ i % 2)) (by rw [an1 (by omega), dg_bit16]) ?_
  refine vx_ret (some (.int (nI (U / 2 ^ i % 2)))) RG (vx_endi (by first | rfl | decide) dc_R_bitOf_15) rfl ?_
  exact ⟨rfl, rfl, rfl, rfl⟩
set_option maxRecDepth 100000 in
set_option maxHeartbeats 8000000 in
theorem cR_store (LR : rlay q h0) (ht2 : tys[2]? = some (cZ, .boolean)) (ht3 : tys[3]? = some (cI, .int)) (HP : rpic f g V) (HX : mreg X V s) (hd : d < 16) (ha : 16 ≤ a) (ha2 : a < 24) (hw : w = 0 ∨ w = 1) : vx_M l D vcl tys my_R_store lw_gd (rm_ 2 0 0 43) [.ref (q 0), .int (nI d), .int (nI a), .int w] (rH cI cZ q h0 f g s) (rpubV cI cZ q h0 V (kpX X d (kz w (V a))) (kpV (kz w (V a)))) := by
  refine vx_M.ofV (cc := bc_R_store) (maxL := 4) (ret := (some .boolean)) (own := rR) false rfl (by decide +kernel) wC_R_store (fun q => by cases q) (Nat.le_of_ble_eq_true rfl) (fun A H0 G IG RG => ?_)
  show vx_V _ _ _ _ _ _ _ _ _ 0 [(0, .ref (q 0)), (1, .int (nI d)), (2, .int (nI a)), (3, .int w)] []
  obtain ⟨hga, hca, hfa⟩ := HP a ha2
  have c1 := rcap_4 a
  refine vx_aload_n IG dc_R_store_0 rfl 0 rfl ?_
  refine vx_get IG (ro_M LR) rfl 1 (by decide) inR wF_R_14 rfl rfl dc_R_store_1 ?_
  refine vx_iload_n IG dc_R_store_4 rfl 2 rfl ?_
  refine rr_nld IG LR ht3 ha2 (x := nI (nd 65536 (V a))) hga dc_R_store_5 ?_
  refine vx_sipush (v := 4096) IG dc_R_store_6 (by decide) ?_
  by_cases z : nd 65536 (V a) ≤ 4096
  · have zb := lim16.mp z
    rw [kpX_1 (by rw [kz_abs]; exact zb), kpV_1 (by rw [kz_abs]; exact zb)] at RG
    refine vx_icmp_le (tgt := 14) IG dc_R_store_9 (by decide) (fun _ => ?_) (fun c_ => absurd (nI_le (b := 4096) z (by decide)) c_)
    refine vx_aload_n IG dc_R_store_14 rfl 0 rfl ?_
    refine vx_iload_n IG dc_R_store_15 rfl 1 rfl ?_
    refine vx_iload_n IG dc_R_store_16 rfl 2 rfl ?_
    refine vx_callV (As := [.int (nI d), .int (nI a)]) (st := []) IG lw_good (cR_move LR ht2 ht3 (HP a ha2) (d := d) (a := a) (by omega) ha2 (by omega) (by rw [rcap_lo hd]; exact z)) (ro_M LR) rfl wC_R_move wL_R_64 wI_R_move wS_R_move wX_R 2 (by decide +kernel) rfl ⟨Nat.le_of_ble_eq_true rfl, Nat.le_of_ble_eq_true rfl⟩ ⟨(by dsimp only [rm_]; omega), (by dsimp only [rm_]; omega)⟩ rfl (Nat.le_of_ble_eq_true rfl) dc_R_store_17 (fun v h k_ n_ hq => ?_)
    obtain ⟨rfl, rfl, rfl, f1, g1, rfl, S1⟩ := hq
    have P1 := rp_rs HP (show d < 24 by omega) S1
    have hg1 := (P1 a ha2).1
    rw [va_up_ne _ _ (show a ≠ d by omega)] at hg1
    show vx_V _ _ _ _ _ _ _ _ _ 20 [(0, .ref (q 0)), (1, .int (nI d)), (2, .int (nI a)), (3, .int w)] []
    have fin : ∀ (x : Int32) (k n : Nat), x = sgI (kz w (V a)) → k = 0 → n = 0 → vx_V D vcl A H0 4 G (rH cI cZ q h0 f1 g1 s) k n 43 [(0, .ref (q 0)), (1, .int (nI d)), (2, .int (nI a)), (3, .int w)] [.int x, .int (nI d), .ref (q 3)] := by
      intro x k n hx hk hn
      subst hk hn
      refine rr_zst IG LR ht2 hd (s' := upd s d x) (by rw [hx]; exact sgI_01 _) rfl dc_R_store_43 ?_
      refine vx_iconst (v := 1) IG dc_R_store_44 (by decide) ?_
      refine vx_ret (some (.int 1)) RG (vx_endi (by first | rfl | decide) dc_R_store_45) rfl ?_
      refine ⟨rfl, rfl, rfl, _, _, _, _, rfl, P1, fun r hr => ?_, fun r hr => va_up_ne _ _ (by omega)⟩
      by_cases y : r = d
      · rw [y, va_up_self, va_up_self, kz_abs]
        exact ⟨rfl, by rw [← hx]; exact if_pos rfl⟩
      · rw [va_up_ne _ _ y, va_up_ne _ _ y]
        exact ⟨(HX r hr).1, by rw [← (HX r hr).2]; exact if_neg y⟩
    refine vx_aload_n IG dc_R_store_20 rfl 0 rfl ?_
    refine vx_get IG (ro_M LR) rfl 2 (by decide) inR wF_R_17 rfl rfl dc_R_store_21 ?_
    refine vx_iload_n IG dc_R_store_24 rfl 1 rfl ?_
    refine vx_iload_n IG dc_R_store_25 rfl 3 rfl ?_
    by_cases y : w = 0
    · refine vx_if_eq (tgt := 42) IG dc_R_store_26 (by decide) (fun _ => ?_) (fun c_ => absurd y c_)
      refine vx_iconst (v := 0) IG dc_R_store_42 (by decide) ?_
      exact fin 0 _ _ (by rw [y, kz_0, sgI_pos (by omega)]) rfl rfl
    · have hw1 := hw.resolve_left y
      refine vx_if_eq (tgt := 42) IG dc_R_store_26 (by decide) (fun c_ => absurd c_ y) (fun _ => ?_)
      refine vx_aload_n IG dc_R_store_29 rfl 0 rfl ?_
      refine vx_get IG (ro_M LR) rfl 1 (by decide) inR wF_R_14 rfl rfl dc_R_store_30 ?_
      refine vx_iload_n IG dc_R_store_33 rfl 2 rfl ?_
      refine rr_nld IG LR ht3 ha2 (x := nI (nd 65536 (V a))) hg1 dc_R_store_34 ?_
      by_cases x : V a = 0
      · refine vx_if_le (tgt := 42) IG dc_R_store_35 (by decide) (fun _ => ?_) (fun c_ => absurd (by rw [x]; decide) c_)
        refine vx_iconst (v := 0) IG dc_R_store_42 (by decide) ?_
        exact fin 0 _ _ (by rw [x, hw1]; rfl) rfl rfl
      · have hn0 : 0 < nd 65536 (V a) := Nat.pos_of_ne_zero (fun u => x ((nd_eq_zero b16).mp u))
        refine vx_if_le (tgt := 42) IG dc_R_store_35 (by decide) (fun c_ => absurd c_ (fun u => absurd (nI_lt (a := 0) (b := nd 65536 (V a)) hn0 (by omega)) (Int32.not_lt.mpr u))) (fun _ => ?_)
        refine vx_iconst (v := 1) IG dc_R_store_38 (by decide) ?_
        refine vx_goto (tgt := 43) IG dc_R_store_39 (by decide) ?_
        exact fin 1 _ _ (by rw [hw1, kz_1, sgI_neg (by omega)]) rfl rfl
  · have zb : ¬ bl (V a) ≤ 65536 := fun y => z (lim16.mpr y)
    rw [kpX_0 (by rw [kz_abs]; exact zb), kpV_0 (by rw [kz_abs]; exact zb)] at RG
    refine vx_icmp_le (tgt := 14) IG dc_R_store_9 (by decide) (fun c_ => absurd c_ (nI_ge (a := 4096) (by omega) (by omega))) (fun _ => ?_)
    refine vx_iconst (v := 0) IG dc_R_store_12 (by decide) ?_
    refine vx_ret (some (.int 0)) RG (vx_endi (by first | rfl | decide) dc_R_store_13) rfl ?_
    exact ⟨rfl, rfl, rfl, f, g, s, V, rfl, HP, HX, fun _ _ => rfl⟩
end
