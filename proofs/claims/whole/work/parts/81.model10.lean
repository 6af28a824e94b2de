/-! the reference: lowestDigit, bitsDigit, joined, bitAt, word, length, ones, change, logic -/
/-- j is the place of N's lowest digit that is not 0 -/
def fs16 (N j : Nat) : Prop := (N = 0 → j = 0) ∧ (0 < N → j < nd 65536 N ∧ dg 65536 N j ≠ 0) ∧ ∀ i, i < j → dg 65536 N i = 0
theorem fs_ex (N : Nat) : ∃ j, fs16 N j := by
  rcases Nat.eq_zero_or_pos N with z | z
  · exact ⟨0, fun _ => rfl, fun h => by omega, fun i hi => absurd hi (Nat.not_lt_zero i)⟩
  · obtain ⟨j, h1, h2⟩ := pk_least (fun k => dg 65536 N k ≠ 0) ⟨nd 65536 N - 1, dg_top b16 z⟩
    refine ⟨j, fun h => by omega, fun _ => ⟨?_, h1⟩, fun i hi => Decidable.not_not.mp (h2 i hi)⟩
    rcases Nat.lt_or_ge j (nd 65536 N) with y | y
    · exact y
    · exact absurd (dg_big ((nd_le b16).mp y)) h1
theorem fs_le {N j : Nat} (h : fs16 N j) : j ≤ nd 65536 N := by
  rcases Nat.eq_zero_or_pos N with z | z
  · rw [h.1 z]; exact Nat.zero_le _
  · have := (h.2.1 z).1; omega
theorem eD_neg {x : Int} {j k : Nat} (hx : x < 0) (h : fs16 x.natAbs j) : eD 65536 x k = if k < j then 0 else if k = j then 65536 - dg 65536 x.natAbs k else 65535 - dg 65536 x.natAbs k := by
  have hp : 0 < x.natAbs := by omega
  obtain ⟨h1, h2⟩ := h.2.1 hp
  have e := eD_first (k := k) b16 h.2.2 h2
  rw [show -(x.natAbs : Int) = x by omega] at e
  have hl := dg_lt b16 x.natAbs k
  rw [e]
  by_cases z : k < j
  · rw [if_pos (by omega), if_pos z, h.2.2 k z]
  · rw [if_neg z]
    by_cases y : k = j
    · rw [if_pos (by omega), if_pos y, Nat.mod_eq_of_lt (by rw [y]; omega)]
    · rw [if_neg (by omega), if_neg y]
theorem eD_pos {x : Int} {k : Nat} (hx : ¬ x < 0) : eD 65536 x k = dg 65536 x.natAbs k := by
  have e := eD_nat 65536 x.natAbs k
  rwa [show (x.natAbs : Int) = x by omega] at e
theorem eD_hi {b : Nat} {x : Int} {k : Nat} (hb : 0 < b) (h : x.natAbs < b ^ k) : eD b x k = if x < 0 then b - 1 else 0 := by
  by_cases z : x < 0
  · rw [if_pos z]
    have e := eD_neg_hi (N := x.natAbs) (k := k) hb (by rw [Nat.mod_eq_of_lt h]; omega)
    rw [show -(x.natAbs : Int) = x by omega, dg_big h, Nat.sub_zero] at e
    exact e
  · rw [if_neg z]
    have e := eD_nat b x.natAbs k
    rw [show (x.natAbs : Int) = x by omega, dg_big h] at e
    exact e
theorem eD_two (x : Int) (k : Nat) : eD 4294967296 x k = eD 65536 x (2 * k) + eD 65536 x (2 * k + 1) * 65536 := by
  unfold eD
  have e1 : 4294967296 ^ k = 65536 ^ (2 * k) := by rw [Nat.pow_mul]
  have e2 : 65536 ^ (2 * k + 1) = 65536 ^ (2 * k) * 65536 := bp_succ _ _
  rw [e1, e2, Int.natCast_mul, ← Int.ediv_ediv_of_nonneg (by omega)]
  generalize x / ((65536 ^ (2 * k) : Nat) : Int) = y
  show (y % 4294967296).toNat = (y % 65536).toNat + ((y / 65536) % 65536).toNat * 65536
  omega
/-- the number whose bits are those of x that differ from its sign -/
def mgZ (x : Int) : Nat := if x < 0 then x.natAbs - 1 else x.natAbs
theorem mg_le (x : Int) : mgZ x ≤ x.natAbs := by unfold mgZ; split <;> omega
theorem mg_bit (x : Int) (i : Nat) : (tB x i = sb x ↔ mgZ x / 2 ^ i % 2 = 0) := by
  have h2 := Nat.pow_pos (n := i) (show 0 < 2 by decide)
  unfold mgZ sb
  by_cases z : x < 0
  · rw [if_pos z, if_pos z]
    unfold tB
    have e : x / ((2 ^ i : Nat) : Int) = -(((x.natAbs - 1) / 2 ^ i : Nat) : Int) - 1 := by
      have h3 := Nat.div_add_mod (x.natAbs - 1) (2 ^ i)
      have h4 := Nat.mod_lt (x.natAbs - 1) h2
      generalize (x.natAbs - 1) / 2 ^ i = u at *
      generalize (x.natAbs - 1) % 2 ^ i = v at *
      have h5 : x = ((2 ^ i : Nat) - 1 - (v : Int)) + ((2 ^ i : Nat) : Int) * (-(u : Int) - 1) := by
        have : (x.natAbs : Int) = -x := by omega
        have h6 : ((2 ^ i * u : Nat) : Int) = ((2 ^ i : Nat) : Int) * (u : Int) := Int.natCast_mul _ _
        rw [Int.mul_sub, Int.mul_neg, Int.mul_one]
        omega
      rw [h5, Int.add_mul_ediv_left _ _ (by omega), Int.ediv_eq_zero_of_lt (by omega) (by omega), Int.zero_add]
    rw [e]
    omega
  · rw [if_neg z, if_neg z]
    have e := tB_nat x.natAbs i
    rw [show (x.natAbs : Int) = x by omega] at e
    rw [e]
theorem nI_ge2 {a b : Nat} (h : b ≤ a) (ha : a < 2 ^ 31) : ¬ nI a < nI b := fun e => absurd (nI_le h ha) (Int32.not_le.mpr e)
theorem mg_len (x : Int) : lenZ x = bl (mgZ x) := by
  unfold lenZ mgZ
  split <;> rfl
theorem mg_ones (x : Int) : onesZ x = pop (mgZ x) 65600 := by
  unfold onesZ mgZ
  split <;> rfl
theorem sb_sg (x : Int) : sgI x = nI (sb x) := by
  unfold sgI sb
  split <;> rfl
theorem sb_lt (x : Int) : sb x < 2 := by unfold sb; split <;> decide
theorem jb_jn : ∀ (how p q : Nat), how ≤ 3 → p < 2 → q < 2 → jn 16 how p q = jb how p q := by
  intro how p q h1 h2 h3
  rcases (show how = 0 ∨ how = 1 ∨ how = 2 ∨ how = 3 by omega) with rfl | rfl | rfl | rfl <;> rcases (show p = 0 ∨ p = 1 by omega) with rfl | rfl <;> rcases (show q = 0 ∨ q = 1 by omega) with rfl | rfl <;> decide +kernel
theorem ii_and {x y : Nat} (hx : x < 2 ^ 32) (hy : y < 2 ^ 32) : nI x &&& nI y = nI (x &&& y) := by
  apply Int32.toBitVec_inj.mp
  apply BitVec.eq_of_toNat_eq
  have h : x &&& y < 2 ^ 32 := Nat.and_lt_two_pow _ hy
  rw [Int32.toBitVec_and, BitVec.toNat_and, pk_tn hx, pk_tn hy, pk_tn h]
theorem ii_xor {x y : Nat} (hx : x < 2 ^ 32) (hy : y < 2 ^ 32) : nI x ^^^ nI y = nI (x ^^^ y) := by
  apply Int32.toBitVec_inj.mp
  apply BitVec.eq_of_toNat_eq
  have h : x ^^^ y < 2 ^ 32 := Nat.xor_lt_two_pow hx hy
  rw [Int32.toBitVec_xor, BitVec.toNat_xor, pk_tn hx, pk_tn hy, pk_tn h]
theorem ii_not {x y : Nat} (hx : x < 65536) (hy : y < 65536) : nI x &&& (nI y ^^^ (-1)) = nI (x &&& (2 ^ 16 - 1 - y)) := by
  have e1 : nI y ^^^ (-1) = nI (4294967295 - y) := by
    rw [show (-1 : Int32) = nI 4294967295 from rfl, ii_xor (by omega) (by decide)]
    congr 1
    apply Nat.eq_of_testBit_eq
    intro i
    rw [Nat.testBit_xor, show (4294967295 : Nat) = 2 ^ 32 - 1 from rfl, Nat.testBit_two_pow_sub_one, show 2 ^ 32 - 1 - y = 2 ^ 32 - (y + 1) by omega, Nat.testBit_two_pow_sub_succ (by omega)]
    by_cases z : i < 32
    · simp [z]
    · rw [Nat.testBit_lt_two_pow (Nat.lt_of_lt_of_le (show y < 2 ^ 32 by omega) (Nat.pow_le_pow_right (by decide) (Nat.le_of_not_lt z)))]
      simp [z]
  rw [e1, ii_and (by omega) (by omega)]
  congr 1
  apply Nat.eq_of_testBit_eq
  intro i
  rw [Nat.testBit_and, Nat.testBit_and, show 4294967295 - y = 2 ^ 32 - (y + 1) by omega, Nat.testBit_two_pow_sub_succ (by omega), show 2 ^ 16 - 1 - y = 2 ^ 16 - (y + 1) by omega, Nat.testBit_two_pow_sub_succ (by omega)]
  by_cases z : i < 16
  · have z2 : i < 32 := by omega
    simp [z, z2]
  · rw [Nat.testBit_lt_two_pow (Nat.lt_of_lt_of_le (show x < 2 ^ 16 by omega) (Nat.pow_le_pow_right (by decide) (Nat.le_of_not_lt z)))]
    simp
section
variable {l : Launch} {D : va_G} {tys : List (ClassId × FieldType)} {cI cZ : ClassId} {q : Nat → Nat} {h0 : vx_h} {f g s f' g' : Nat → Int32} {V : Nat → Nat} {X : Nat → Int} {a b d r u N M sz U W : Nat} {w w2 : Int32} {z : Int}
set_option maxRecDepth 100000 in
set_option maxHeartbeats 8000000 in
theorem cR_lowestDigit (LR : rlay q h0) (ht2 : tys[2]? = some (cZ, .boolean)) (ht3 : tys[3]? = some (cI, .int)) (Ra : rv f g a U) (ha : a < 24) {j : Nat} (hf : fs16 U j) : vx_M l D vcl tys my_R_lowestDigit lw_gd (rm_ 1 0 0 20) [.ref (q 0), .int (nI a)] (rH cI cZ q h0 f g s) (rval (rH cI cZ q h0 f g s) (nI j)) := by
  refine vx_M.ofV (cc := bc_R_lowestDigit) (maxL := 3) (ret := (some .int)) (own := rR) false rfl (by decide +kernel) wC_R_lowestDigit (fun q => by cases q) (Nat.le_of_ble_eq_true rfl) (fun A H0 G IG RG => ?_)
  show vx_V _ _ _ _ _ _ _ _ _ 0 [(0, .ref (q 0)), (1, .int (nI a))] []
  have c1 := rcap_4 a
  have hca := Ra.2.1
  have hjl := fs_le hf
  refine vx_iconst (v := 0) IG dc_R_lowestDigit_0 (by decide) ?_
  refine vx_istore_n (lv' := [(2, .int 0), (0, .ref (q 0)), (1, .int (nI a))]) IG dc_R_lowestDigit_1 rfl (by decide) rfl ?_
  have loop : ∀ (m c k n : Nat), c + m = j → k = 0 → n = 0 → vx_V D vcl A H0 3 G (rH cI cZ q h0 f g s) k n 2 [(2, .int (nI c)), (0, .ref (q 0)), (1, .int (nI a))] [] := by
    intro m
    induction m with
    | zero =>
      intro c k n hc hk hn
      subst hk hn
      obtain rfl : c = j := by omega
      refine vx_iload_n IG dc_R_lowestDigit_2 rfl 0 rfl ?_
      refine vx_aload_n IG dc_R_lowestDigit_3 rfl 1 rfl ?_
      refine vx_get IG (ro_M LR) rfl 1 (by decide) inR wF_R_14 rfl rfl dc_R_lowestDigit_4 ?_
      refine vx_iload_n IG dc_R_lowestDigit_7 rfl 2 rfl ?_
      refine rr_nld IG LR ht3 ha (x := nI (nd 65536 U)) Ra.1 dc_R_lowestDigit_8 ?_
      rcases Nat.eq_zero_or_pos U with y | y
      · refine vx_icmp_ge (tgt := 32) IG dc_R_lowestDigit_9 (by decide) (fun _ => ?_) (fun c_ => absurd (nI_le (by rw [y]; exact Nat.zero_le _) (by omega)) c_)
        refine vx_iload_n IG dc_R_lowestDigit_32 rfl 0 rfl ?_
        refine vx_ret (some (.int (nI c))) RG (vx_endi (by first | rfl | decide) dc_R_lowestDigit_33) rfl ?_
        exact ⟨rfl, rfl, rfl, rfl⟩
      · obtain ⟨y1, y2⟩ := hf.2.1 y
        have hl := dg_lt b16 U c
        refine vx_icmp_ge (tgt := 32) IG dc_R_lowestDigit_9 (by decide) (fun c_ => absurd c_ (fun e => absurd (nI_lt y1 (by omega)) (Int32.not_lt.mpr e))) (fun _ => ?_)
        refine vx_aload_n IG dc_R_lowestDigit_12 rfl 1 rfl ?_
        refine vx_get IG (ro_M LR) rfl 0 (by decide) inR wF_R_8 rfl rfl dc_R_lowestDigit_13 ?_
        refine vx_iload_n IG dc_R_lowestDigit_16 rfl 2 rfl ?_
        refine vx_callS (As := [.int (nI a)]) (st := [.ref (q 1)]) IG lw_good (cR_at _ a ha) wC_R_at wL_R_22 wT_R_at wX_R 1 (by decide +kernel) rfl ⟨Nat.le_of_ble_eq_true rfl, Nat.le_of_ble_eq_true rfl⟩ ⟨(by dsimp only [rm_]; omega), (by dsimp only [rm_]; omega)⟩ rfl (Nat.le_of_ble_eq_true rfl) dc_R_lowestDigit_17 (fun v h k_ n_ hq => ?_)
        obtain ⟨rfl, rfl, rfl, rfl⟩ := hq
        show vx_V _ _ _ _ _ _ _ _ _ 20 [(2, .int (nI c)), (0, .ref (q 0)), (1, .int (nI a))] [.int (nI (rt a)), .ref (q 1)]
        refine vx_iload_n IG dc_R_lowestDigit_20 rfl 0 rfl ?_
        refine vx_iadd IG dc_R_lowestDigit_21 ?_
        refine vx_topi (y := nI ((rt a) + c)) (nI_add _ _) ?_
        refine rr_mld IG LR ht3 (rt_in ha (by omega)) (x := nI (dg 65536 U c)) (Ra.2.2 c y1) dc_R_lowestDigit_22 ?_
        refine vx_if_ne (tgt := 32) IG dc_R_lowestDigit_23 (by decide) (fun _ => ?_) (fun c_ => absurd c_ (nI_ne (by omega) (b := 0) (by decide) y2))
        refine vx_iload_n IG dc_R_lowestDigit_32 rfl 0 rfl ?_
        refine vx_ret (some (.int (nI c))) RG (vx_endi (by first | rfl | decide) dc_R_lowestDigit_33) rfl ?_
        exact ⟨rfl, rfl, rfl, rfl⟩
    | succ m ih =>
      intro c k n hc hk hn
      subst hk hn
      have e0 := hf.2.2 c (by omega)
      refine vx_iload_n IG dc_R_lowestDigit_2 rfl 0 rfl ?_
      refine vx_aload_n IG dc_R_lowestDigit_3 rfl 1 rfl ?_
      refine vx_get IG (ro_M LR) rfl 1 (by decide) inR wF_R_14 rfl rfl dc_R_lowestDigit_4 ?_
      refine vx_iload_n IG dc_R_lowestDigit_7 rfl 2 rfl ?_
      refine rr_nld IG LR ht3 ha (x := nI (nd 65536 U)) Ra.1 dc_R_lowestDigit_8 ?_
      refine vx_icmp_ge (tgt := 32) IG dc_R_lowestDigit_9 (by decide) (fun c_ => absurd c_ (fun e => absurd (nI_lt (a := c) (b := nd 65536 U) (by omega) (by omega)) (Int32.not_lt.mpr e))) (fun _ => ?_)
      refine vx_aload_n IG dc_R_lowestDigit_12 rfl 1 rfl ?_
      refine vx_get IG (ro_M LR) rfl 0 (by decide) inR wF_R_8 rfl rfl dc_R_lowestDigit_13 ?_
      refine vx_iload_n IG dc_R_lowestDigit_16 rfl 2 rfl ?_
      refine vx_callS (As := [.int (nI a)]) (st := [.ref (q 1)]) IG lw_good (cR_at _ a ha) wC_R_at wL_R_22 wT_R_at wX_R 1 (by decide +kernel) rfl ⟨Nat.le_of_ble_eq_true rfl, Nat.le_of_ble_eq_true rfl⟩ ⟨(by dsimp only [rm_]; omega), (by dsimp only [rm_]; omega)⟩ rfl (Nat.le_of_ble_eq_true rfl) dc_R_lowestDigit_17 (fun v h k_ n_ hq => ?_)
      obtain ⟨rfl, rfl, rfl, rfl⟩ := hq
      show vx_V _ _ _ _ _ _ _ _ _ 20 [(2, .int (nI c)), (0, .ref (q 0)), (1, .int (nI a))] [.int (nI (rt a)), .ref (q 1)]
      refine vx_iload_n IG dc_R_lowestDigit_20 rfl 0 rfl ?_
      refine vx_iadd IG dc_R_lowestDigit_21 ?_
      refine vx_topi (y := nI ((rt a) + c)) (nI_add _ _) ?_
      refine rr_mld IG LR ht3 (rt_in ha (by omega)) (x := nI (dg 65536 U c)) (Ra.2.2 c (by omega)) dc_R_lowestDigit_22 ?_
      refine vx_if_ne (tgt := 32) IG dc_R_lowestDigit_23 (by decide) (fun c_ => absurd (by rw [e0]; rfl) c_) (fun _ => ?_)
      refine vx_iinc (q := 0) (v := nI (c + 1)) (lv' := [(2, .int (nI (c + 1))), (0, .ref (q 0)), (1, .int (nI a))]) IG dc_R_lowestDigit_26 rfl (nI_1 c) (by decide) rfl ?_
      refine vx_goto (tgt := 2) IG dc_R_lowestDigit_29 (by decide) ?_
      exact ih (c + 1) _ _ (by omega) rfl rfl
  exact loop j 0 _ _ (by omega) rfl rfl
set_option maxRecDepth 100000 in
set_option maxHeartbeats 8000000 in
theorem cR_bitsDigit (LR : rlay q h0) (ht2 : tys[2]? = some (cZ, .boolean)) (ht3 : tys[3]? = some (cI, .int)) (Ra : rv f g a (X a).natAbs) (Ba : s a = sgI (X a)) (ha : a < 16) {j k : Nat} (hf : fs16 (X a).natAbs j) (hk : k < 2 ^ 31) : vx_M l D vcl tys my_R_bitsDigit lw_gd (rm_ 2 0 0 42) [.ref (q 0), .int (nI a), .int (nI k), .int (nI j)] (rH cI cZ q h0 f g s) (rval (rH cI cZ q h0 f g s) (nI (eD 65536 (X a) k))) := by
  refine vx_M.ofV (cc := bc_R_bitsDigit) (maxL := 5) (ret := (some .int)) (own := rR) false rfl (by decide +kernel) wC_R_bitsDigit (fun q => by cases q) (Nat.le_of_ble_eq_true rfl) (fun A H0 G IG RG => ?_)
  show vx_V _ _ _ _ _ _ _ _ _ 0 [(0, .ref (q 0)), (1, .int (nI a)), (2, .int (nI k)), (3, .int (nI j))] []
  have c1 := rcap_4 a
  have hca := Ra.2.1
  have hjl := fs_le hf
  have hl := dg_lt b16 (X a).natAbs k
  refine vx_aload_n IG dc_R_bitsDigit_0 rfl 0 rfl ?_
  refine vx_iload_n IG dc_R_bitsDigit_1 rfl 1 rfl ?_
  refine vx_iload_n IG dc_R_bitsDigit_2 rfl 2 rfl ?_
  refine vx_callV (As := [.int (nI a), .int (nI k)]) (st := []) IG lw_good (cR_digit LR ht2 ht3 (N := (X a).natAbs) (by omega) hk Ra.1 hca (Ra.2.2 k)) (ro_M LR) rfl wC_R_digit wL_R_32 wI_R_digit wS_R_digit wX_R 2 (by decide +kernel) rfl ⟨Nat.le_of_ble_eq_true rfl, Nat.le_of_ble_eq_true rfl⟩ ⟨(by dsimp only [rm_]; omega), (by dsimp only [rm_]; omega)⟩ rfl (Nat.le_of_ble_eq_true rfl) dc_R_bitsDigit_3 (fun v h k_ n_ hq => ?_)
  obtain ⟨rfl, rfl, rfl, rfl⟩ := hq
  show vx_V _ _ _ _ _ _ _ _ _ 6 [(0, .ref (q 0)), (1, .int (nI a)), (2, .int (nI k)), (3, .int (nI j))] [.int (nI (dg 65536 (X a).natAbs k))]
  refine vx_istore (lv' := [(4, .int (nI (dg 65536 (X a).natAbs k))), (0, .ref (q 0)), (1, .int (nI a)), (2, .int (nI k)), (3, .int (nI j))]) IG dc_R_bitsDigit_6 (by decide) rfl ?_
  refine vx_aload_n IG dc_R_bitsDigit_8 rfl 1 rfl ?_
  refine vx_get IG (ro_M LR) rfl 2 (by decide) inR wF_R_17 rfl rfl dc_R_bitsDigit_9 ?_
  refine vx_iload_n IG dc_R_bitsDigit_12 rfl 2 rfl ?_
  refine rr_zld IG LR ht2 ha (x := sgI (X a)) Ba dc_R_bitsDigit_13 ?_
  by_cases y : X a < 0
  · rw [eD_neg y hf] at RG
    refine vx_if_ne (tgt := 20) IG dc_R_bitsDigit_14 (by decide) (fun _ => ?_) (fun c_ => absurd c_ (by rw [sgI_neg y]; decide))
    refine vx_iload_n IG dc_R_bitsDigit_20 rfl 3 rfl ?_
    refine vx_iload_n IG dc_R_bitsDigit_21 rfl 4 rfl ?_
    by_cases x : k < j
    · rw [if_pos x] at RG
      refine vx_icmp_ge (tgt := 29) IG dc_R_bitsDigit_22 (by decide) (fun c_ => absurd c_ (fun e => absurd (nI_lt x (by omega)) (Int32.not_lt.mpr e))) (fun _ => ?_)
      refine vx_iconst (v := 0) IG dc_R_bitsDigit_25 (by decide) ?_
      refine vx_goto (tgt := 47) IG dc_R_bitsDigit_26 (by decide) ?_
      refine vx_ret (some (.int 0)) RG (vx_endi (by first | rfl | decide) dc_R_bitsDigit_47) rfl ?_
      exact ⟨rfl, rfl, rfl, rfl⟩
    · rw [if_neg x] at RG
      refine vx_icmp_ge (tgt := 29) IG dc_R_bitsDigit_22 (by decide) (fun _ => ?_) (fun c_ => absurd (nI_le (by omega) hk) c_)
      refine vx_iload_n IG dc_R_bitsDigit_29 rfl 3 rfl ?_
      refine vx_iload_n IG dc_R_bitsDigit_30 rfl 4 rfl ?_
      by_cases v : k = j
      · rw [if_pos v] at RG
        refine vx_icmp_ne (tgt := 42) IG dc_R_bitsDigit_31 (by decide) (fun c_ => absurd (by rw [v]) c_) (fun _ => ?_)
        refine vx_ldc (v := 65536) IG wK_R_21 dc_R_bitsDigit_34 ?_
        refine vx_iload IG dc_R_bitsDigit_36 0 rfl ?_
        refine vx_isub IG dc_R_bitsDigit_38 ?_
        refine vx_topi (y := nI (65536 - dg 65536 (X a).natAbs k)) (pk_sub (a := 65536) (by omega)) ?_
        refine vx_goto (tgt := 47) IG dc_R_bitsDigit_39 (by decide) ?_
        refine vx_ret (some (.int (nI (65536 - dg 65536 (X a).natAbs k)))) RG (vx_endi (by first | rfl | decide) dc_R_bitsDigit_47) rfl ?_
        exact ⟨rfl, rfl, rfl, rfl⟩
      · rw [if_neg v] at RG
        refine vx_icmp_ne (tgt := 42) IG dc_R_bitsDigit_31 (by decide) (fun _ => ?_) (fun c_ => absurd c_ (nI_ne hk (by omega) v))
        refine vx_ldc (v := 65535) IG wK_R_36 dc_R_bitsDigit_42 ?_
        refine vx_iload IG dc_R_bitsDigit_44 0 rfl ?_
        refine vx_isub IG dc_R_bitsDigit_46 ?_
        refine vx_topi (y := nI (65535 - dg 65536 (X a).natAbs k)) (pk_sub (a := 65535) (by omega)) ?_
        refine vx_ret (some (.int (nI (65535 - dg 65536 (X a).natAbs k)))) RG (vx_endi (by first | rfl | decide) dc_R_bitsDigit_47) rfl ?_
        exact ⟨rfl, rfl, rfl, rfl⟩
  · rw [eD_pos y] at RG
    refine vx_if_ne (tgt := 20) IG dc_R_bitsDigit_14 (by decide) (fun c_ => absurd (sgI_pos y) c_) (fun _ => ?_)
    refine vx_iload IG dc_R_bitsDigit_17 0 rfl ?_
    refine vx_ret (some (.int (nI (dg 65536 (X a).natAbs k)))) RG (vx_endi (by first | rfl | decide) dc_R_bitsDigit_19) rfl ?_
    exact ⟨rfl, rfl, rfl, rfl⟩
set_option maxRecDepth 100000 in
set_option maxHeartbeats 8000000 in
theorem cR_joined (h : vx_h) {x y how : Nat} (hx : x < 65536) (hy : y < 65536) (hh : how ≤ 3) : vx_M l D vcl tys my_R_joined lw_gd (rm_ 0 0 0 0) [.int (nI x), .int (nI y), .int (nI how)] h (rval h (nI (jn 16 how x y))) := by
  refine vx_M.ofV (cc := bc_R_joined) (maxL := 3) (ret := (some .int)) (own := rR) false rfl (by decide +kernel) wC_R_joined (fun q => by cases q) (Nat.le_of_ble_eq_true rfl) (fun A H0 G IG RG => ?_)
  show vx_V _ _ _ _ _ _ _ _ _ 0 [(0, .int (nI x)), (1, .int (nI y)), (2, .int (nI how))] []
  refine vx_iload_n IG dc_R_joined_0 rfl 2 rfl ?_
  rcases (show how = 0 ∨ how = 1 ∨ how = 2 ∨ how = 3 by omega) with rfl | rfl | rfl | rfl
  · refine vx_if_ne (tgt := 10) IG dc_R_joined_1 (by decide) (fun c_ => absurd (by decide) c_) (fun _ => ?_)
    refine vx_iload_n IG dc_R_joined_4 rfl 0 rfl ?_
    refine vx_iload_n IG dc_R_joined_5 rfl 1 rfl ?_
    refine vx_iand IG dc_R_joined_6 ?_
    refine vx_topi (y := nI (x &&& y)) (ii_and (by omega) (by omega)) ?_
    refine vx_goto (tgt := 37) IG dc_R_joined_7 (by decide) ?_
    refine vx_ret (some (.int (nI (x &&& y)))) RG (vx_endi (by first | rfl | decide) dc_R_joined_37) rfl ?_
    exact ⟨rfl, rfl, rfl, rfl⟩
  · refine vx_if_ne (tgt := 10) IG dc_R_joined_1 (by decide) (fun _ => ?_) (fun c_ => absurd c_ (by decide))
    refine vx_iload_n IG dc_R_joined_10 rfl 2 rfl ?_
    refine vx_iconst (v := 1) IG dc_R_joined_11 (by decide) ?_
    refine vx_icmp_ne (tgt := 21) IG dc_R_joined_12 (by decide) (fun c_ => absurd (by decide) c_) (fun _ => ?_)
    refine vx_iload_n IG dc_R_joined_15 rfl 0 rfl ?_
    refine vx_iload_n IG dc_R_joined_16 rfl 1 rfl ?_
    refine vx_ior IG dc_R_joined_17 ?_
    refine vx_topi (y := nI (x ||| y)) (i_or2 hx hy) ?_
    refine vx_goto (tgt := 37) IG dc_R_joined_18 (by decide) ?_
    refine vx_ret (some (.int (nI (x ||| y)))) RG (vx_endi (by first | rfl | decide) dc_R_joined_37) rfl ?_
    exact ⟨rfl, rfl, rfl, rfl⟩
  · refine vx_if_ne (tgt := 10) IG dc_R_joined_1 (by decide) (fun _ => ?_) (fun c_ => absurd c_ (by decide))
    refine vx_iload_n IG dc_R_joined_10 rfl 2 rfl ?_
    refine vx_iconst (v := 1) IG dc_R_joined_11 (by decide) ?_
    refine vx_icmp_ne (tgt := 21) IG dc_R_joined_12 (by decide) (fun _ => ?_) (fun c_ => absurd c_ (by decide))
    refine vx_iload_n IG dc_R_joined_21 rfl 2 rfl ?_
    refine vx_iconst (v := 2) IG dc_R_joined_22 (by decide) ?_
    refine vx_icmp_ne (tgt := 32) IG dc_R_joined_23 (by decide) (fun c_ => absurd (by decide) c_) (fun _ => ?_)
    refine vx_iload_n IG dc_R_joined_26 rfl 0 rfl ?_
    refine vx_iload_n IG dc_R_joined_27 rfl 1 rfl ?_
    refine vx_ixor IG dc_R_joined_28 ?_
    refine vx_topi (y := nI (x ^^^ y)) (ii_xor (by omega) (by omega)) ?_
    refine vx_goto (tgt := 37) IG dc_R_joined_29 (by decide) ?_
    refine vx_ret (some (.int (nI (x ^^^ y)))) RG (vx_endi (by first | rfl | decide) dc_R_joined_37) rfl ?_
    exact ⟨rfl, rfl, rfl, rfl⟩
  · refine vx_if_ne (tgt := 10) IG dc_R_joined_1 (by decide) (fun _ => ?_) (fun c_ => absurd c_ (by decide))
    refine vx_iload_n IG dc_R_joined_10 rfl 2 rfl ?_
    refine vx_iconst (v := 1) IG dc_R_joined_11 (by decide) ?_
    refine vx_icmp_ne (tgt := 21) IG dc_R_joined_12 (by decide) (fun _ => ?_) (fun c_ => absurd c_ (by decide))
    refine vx_iload_n IG dc_R_joined_21 rfl 2 rfl ?_
    refine vx_iconst (v := 2) IG dc_R_joined_22 (by decide) ?_
    refine vx_icmp_ne (tgt := 32) IG dc_R_joined_23 (by decide) (fun _ => ?_) (fun c_ => absurd c_ (by decide))
    refine vx_iload_n IG dc_R_joined_32 rfl 0 rfl ?_
    refine vx_iload_n IG dc_R_joined_33 rfl 1 rfl ?_
    refine vx_iconst (v := -1) IG dc_R_joined_34 (by decide) ?_
    refine vx_ixor IG dc_R_joined_35 ?_
    refine vx_iand IG dc_R_joined_36 ?_
    refine vx_topi (y := nI (x &&& (2 ^ 16 - 1 - y))) (ii_not hx hy) ?_
    refine vx_ret (some (.int (nI (x &&& (2 ^ 16 - 1 - y))))) RG (vx_endi (by first | rfl | decide) dc_R_joined_37) rfl ?_
    exact ⟨rfl, rfl, rfl, rfl⟩
set_option maxRecDepth 100000 in
set_option maxHeartbeats 8000000 in
theorem cR_bitAt (LR : rlay q h0) (ht2 : tys[2]? = some (cZ, .boolean)) (ht3 : tys[3]? = some (cI, .int)) (Ra : rv f g a (X a).natAbs) (Ba : s a = sgI (X a)) (ha : a < 16) {k : Nat} (hk : k < 2 ^ 31) : vx_M l D vcl tys my_R_bitAt lw_gd (rm_ 3 0 0 66) [.ref (q 0), .int (nI a), .int (nI k)] (rH cI cZ q h0 f g s) (rval (rH cI cZ q h0 f g s) (nI (tB (X a) k))) := by
  refine vx_M.ofV (cc := bc_R_bitAt) (maxL := 3) (ret := (some .int)) (own := rR) false rfl (by decide +kernel) wC_R_bitAt (fun q => by cases q) (Nat.le_of_ble_eq_true rfl) (fun A H0 G IG RG => ?_)
  show vx_V _ _ _ _ _ _ _ _ _ 0 [(0, .ref (q 0)), (1, .int (nI a)), (2, .int (nI k))] []
  have hca := Ra.2.1
  rw [rcap_lo ha] at hca
  obtain ⟨j, hj⟩ := fs_ex (X a).natAbs
  have hjl := fs_le hj
  refine vx_iload_n IG dc_R_bitAt_0 rfl 2 rfl ?_
  refine vx_iconst (v := 4) IG dc_R_bitAt_1 (by decide) ?_
  refine vx_ishr IG dc_R_bitAt_2 ?_
  refine vx_topi (y := nI (k / 16)) (sh4 hk) ?_
  refine vx_sipush (v := 4096) IG dc_R_bitAt_3 (by decide) ?_
  by_cases y : k / 16 < 4096
  · refine vx_icmp_lt (tgt := 26) IG dc_R_bitAt_6 (by decide) (fun _ => ?_) (fun c_ => absurd (nI_lt (b := 4096) y (by decide)) c_)
    refine vx_aload_n IG dc_R_bitAt_26 rfl 0 rfl ?_
    refine vx_iload_n IG dc_R_bitAt_27 rfl 1 rfl ?_
    refine vx_iload_n IG dc_R_bitAt_28 rfl 2 rfl ?_
    refine vx_iconst (v := 4) IG dc_R_bitAt_29 (by decide) ?_
    refine vx_ishr IG dc_R_bitAt_30 ?_
    refine vx_topi (y := nI (k / 16)) (sh4 hk) ?_
    refine vx_aload_n IG dc_R_bitAt_31 rfl 0 rfl ?_
    refine vx_iload_n IG dc_R_bitAt_32 rfl 1 rfl ?_
    refine vx_callV (As := [.int (nI a)]) (st := [.int (nI (k / 16)), .int (nI a), .ref (q 0)]) IG lw_good (cR_lowestDigit LR ht2 ht3 Ra (by omega) hj) (ro_M LR) rfl wC_R_lowestDigit wL_R_93 wI_R_lowestDigit wS_R_lowestDigit wX_R 1 (by decide +kernel) rfl ⟨Nat.le_of_ble_eq_true rfl, Nat.le_of_ble_eq_true rfl⟩ ⟨(by dsimp only [rm_]; omega), (by dsimp only [rm_]; omega)⟩ rfl (Nat.le_of_ble_eq_true rfl) dc_R_bitAt_33 (fun v h k_ n_ hq => ?_)
    obtain ⟨rfl, rfl, rfl, rfl⟩ := hq
    show vx_V _ _ _ _ _ _ _ _ _ 36 [(0, .ref (q 0)), (1, .int (nI a)), (2, .int (nI k))] [.int (nI j), .int (nI (k / 16)), .int (nI a), .ref (q 0)]
    refine vx_callV (As := [.int (nI a), .int (nI (k / 16)), .int (nI j)]) (st := []) IG lw_good (cR_bitsDigit LR ht2 ht3 Ra Ba ha hj (k := k / 16) (by omega)) (ro_M LR) rfl wC_R_bitsDigit wL_R_100 wI_R_bitsDigit wS_R_bitsDigit wX_R 3 (by decide +kernel) rfl ⟨Nat.le_of_ble_eq_true rfl, Nat.le_of_ble_eq_true rfl⟩ ⟨(by dsimp only [rm_]; omega), (by dsimp only [rm_]; omega)⟩ rfl (Nat.le_of_ble_eq_true rfl) dc_R_bitAt_36 (fun v h k_ n_ hq => ?_)
    obtain ⟨rfl, rfl, rfl, rfl⟩ := hq
    have hl := eD_lt (b := 65536) (by decide) (X a) (k / 16)
    have hl2 := Nat.div_le_self (eD 65536 (X a) (k / 16)) (2 ^ (k % 16))
    have hb := eD_bit (X a) 16 (k / 16) (j := k % 16) (Nat.mod_lt _ (by decide))
    rw [Nat.div_add_mod] at hb
    show vx_V _ _ _ _ _ _ _ _ _ 39 [(0, .ref (q 0)), (1, .int (nI a)), (2, .int (nI k))] [.int (nI (eD 65536 (X a) (k / 16)))]
    refine vx_iload_n IG dc_R_bitAt_39 rfl 2 rfl ?_
    refine vx_bipush (v := 15) IG dc_R_bitAt_40 (by decide) ?_
    refine vx_iand IG dc_R_bitAt_42 ?_
    refine vx_topi (y := nI (k % 16)) (an15 (by omega)) ?_
    refine vx_ishr IG dc_R_bitAt_43 ?_
    refine vx_topi (y := nI (eD 65536 (X a) (k / 16) / 2 ^ (k % 16))) (shv (by omega) (by omega)) ?_
    refine vx_iconst (v := 1) IG dc_R_bitAt_44 (by decide) ?_
    refine vx_iand IG dc_R_bitAt_45 ?_
    refine vx_topi (y := nI (tB (X a) k)) (by rw [an1 (by omega)]; exact congrArg nI hb) ?_
    refine vx_ret (some (.int (nI (tB (X a) k)))) RG (vx_endi (by first | rfl | decide) dc_R_bitAt_46) rfl ?_
    exact ⟨rfl, rfl, rfl, rfl⟩
  · have hlt : (X a).natAbs < 2 ^ k := Nat.lt_of_lt_of_le (bl_le.mp (lim16.mp hca)) (Nat.pow_le_pow_right (by decide) (by omega))
    rw [tB_hi hlt] at RG
    refine vx_icmp_lt (tgt := 26) IG dc_R_bitAt_6 (by decide) (fun c_ => absurd c_ (nI_ge2 (b := 4096) (by omega) (by omega))) (fun _ => ?_)
    refine vx_aload_n IG dc_R_bitAt_9 rfl 0 rfl ?_
    refine vx_get IG (ro_M LR) rfl 2 (by decide) inR wF_R_17 rfl rfl dc_R_bitAt_10 ?_
    refine vx_iload_n IG dc_R_bitAt_13 rfl 1 rfl ?_
    refine rr_zld IG LR ht2 ha (x := sgI (X a)) Ba dc_R_bitAt_14 ?_
    by_cases v : X a < 0
    · refine vx_if_eq (tgt := 22) IG dc_R_bitAt_15 (by decide) (fun c_ => absurd c_ (by rw [sgI_neg v]; decide)) (fun _ => ?_)
      refine vx_iconst (v := 1) IG dc_R_bitAt_18 (by decide) ?_
      refine vx_goto (tgt := 46) IG dc_R_bitAt_19 (by decide) ?_
      refine vx_ret (some (.int 1)) RG (vx_endi (by first | rfl | decide) dc_R_bitAt_46) rfl ?_
      exact ⟨by rw [show sb (X a) = 1 from if_pos v]; rfl, rfl, rfl, rfl⟩
    · refine vx_if_eq (tgt := 22) IG dc_R_bitAt_15 (by decide) (fun _ => ?_) (fun c_ => absurd (sgI_pos v) c_)
      refine vx_iconst (v := 0) IG dc_R_bitAt_22 (by decide) ?_
      refine vx_goto (tgt := 46) IG dc_R_bitAt_23 (by decide) ?_
      refine vx_ret (some (.int 0)) RG (vx_endi (by first | rfl | decide) dc_R_bitAt_46) rfl ?_
      exact ⟨by rw [show sb (X a) = 0 from if_neg v]; rfl, rfl, rfl, rfl⟩
set_option maxRecDepth 100000 in
set_option maxHeartbeats 8000000 in
theorem cR_word (LR : rlay q h0) (ht2 : tys[2]? = some (cZ, .boolean)) (ht3 : tys[3]? = some (cI, .int)) (HP : rpic f g V) (HX : mreg X V s) (r1 p : Int32) : vx_M l D vcl tys my_R_word lw_gd (rm_ 3 0 0 66) [.ref (q 0), .int r1, .int p] (rH cI cZ q h0 f g s) (rpub cI cZ q h0 (sp1 0 X (fun d => if 0 ≤ p.toInt then (nI (eD 4294967296 (X d) p.toNatClampNeg), X) else (0, X)) r1).2 (sp1 0 X (fun d => if 0 ≤ p.toInt then (nI (eD 4294967296 (X d) p.toNatClampNeg), X) else (0, X)) r1).1) := by
  refine vx_M.ofV (cc := bc_R_word) (maxL := 4) (ret := (some .int)) (own := rR) false rfl (by decide +kernel) wC_R_word (fun q => by cases q) (Nat.le_of_ble_eq_true rfl) (fun A H0 G IG RG => ?_)
  show vx_V _ _ _ _ _ _ _ _ _ 0 [(0, .ref (q 0)), (1, .int r1), (2, .int p)] []
  refine vx_iload_n IG dc_R_word_0 rfl 1 rfl ?_
  refine vx_callS (As := [.int r1]) (st := []) IG lw_good (cR_is _ r1) wC_R_is wL_R_67 wT_R_is wX_R 1 (by decide +kernel) rfl ⟨Nat.le_of_ble_eq_true rfl, Nat.le_of_ble_eq_true rfl⟩ ⟨(by dsimp only [rm_]; omega), (by dsimp only [rm_]; omega)⟩ rfl (Nat.le_of_ble_eq_true rfl) dc_R_word_1 (fun v h k_ n_ hq => ?_)
  obtain ⟨rfl, rfl, rfl, rfl⟩ := hq
  show vx_V _ _ _ _ _ _ _ _ _ 4 [(0, .ref (q 0)), (1, .int r1), (2, .int p)] [.int (if isR r1 then 1 else 0)]
  by_cases z0 : ¬ isR r1
  · refine vx_topi (y := 0) (if_neg z0) ?_
    refine vx_if_eq (tgt := 11) IG dc_R_word_4 (by decide) (fun _ => ?_) (fun c_ => absurd rfl c_)
    refine vx_iconst (v := 0) IG dc_R_word_11 (by decide) ?_
    refine vx_ret (some (.int 0)) RG (vx_endi (by first | rfl | decide) dc_R_word_12) rfl ?_
    rw [sp1_no z0]
    exact ⟨rfl, rfl, rfl, f, g, s, V, rfl, HP, HX⟩
  replace z0 := Decidable.not_not.mp z0
  refine vx_topi (y := 1) (if_pos z0) ?_
  refine vx_if_eq (tgt := 11) IG dc_R_word_4 (by decide) (fun c_ => absurd c_ (by decide)) (fun _ => ?_)
  obtain ⟨d, hd, rfl⟩ := isR_of z0
  have Rd := reg_rv HP HX hd
  have Bd := (HX d hd).2
  have Ld := reg_cap HP HX hd
  rw [sp1_ok hd] at RG
  have i0 : (0 : Int32).toInt = 0 := rfl
  obtain ⟨j, hj⟩ := fs_ex (X d).natAbs
  have hjl := fs_le hj
  refine vx_iload_n IG dc_R_word_7 rfl 2 rfl ?_
  by_cases y : (0 : Int32) ≤ p
  · refine vx_if_ge (tgt := 13) IG dc_R_word_8 (by decide) (fun _ => ?_) (fun c_ => absurd y c_)
    rw [Int32.le_iff_toInt_le, i0] at y
    rw [if_pos y] at RG
    obtain ⟨n, hn, rfl⟩ := i32_pos y
    rw [nI_clamp hn] at RG
    refine vx_iload_n IG dc_R_word_13 rfl 2 rfl ?_
    refine vx_sipush (v := 2048) IG dc_R_word_14 (by decide) ?_
    by_cases v : n < 2048
    · refine vx_icmp_lt (tgt := 35) IG dc_R_word_17 (by decide) (fun _ => ?_) (fun c_ => absurd (nI_lt (b := 2048) v (by decide)) c_)
      refine vx_aload_n IG dc_R_word_35 rfl 0 rfl ?_
      refine vx_iload_n IG dc_R_word_36 rfl 1 rfl ?_
      refine vx_callV (As := [.int (nI d)]) (st := []) IG lw_good (cR_lowestDigit LR ht2 ht3 Rd (by omega) hj) (ro_M LR) rfl wC_R_lowestDigit wL_R_93 wI_R_lowestDigit wS_R_lowestDigit wX_R 1 (by decide +kernel) rfl ⟨Nat.le_of_ble_eq_true rfl, Nat.le_of_ble_eq_true rfl⟩ ⟨(by dsimp only [rm_]; omega), (by dsimp only [rm_]; omega)⟩ rfl (Nat.le_of_ble_eq_true rfl) dc_R_word_37 (fun v h k_ n_ hq => ?_)
      obtain ⟨rfl, rfl, rfl, rfl⟩ := hq
      show vx_V _ _ _ _ _ _ _ _ _ 40 [(0, .ref (q 0)), (1, .int (nI d)), (2, .int (nI n))] [.int (nI j)]
      refine vx_istore_n (lv' := [(3, .int (nI j)), (0, .ref (q 0)), (1, .int (nI d)), (2, .int (nI n))]) IG dc_R_word_40 rfl (by decide) rfl ?_
      refine vx_aload_n IG dc_R_word_41 rfl 1 rfl ?_
      refine vx_iload_n IG dc_R_word_42 rfl 2 rfl ?_
      refine vx_iconst (v := 2) IG dc_R_word_43 (by decide) ?_
      refine vx_iload_n IG dc_R_word_44 rfl 3 rfl ?_
      refine vx_imul IG dc_R_word_45 ?_
      refine vx_topi (y := nI (2 * n)) (pk_mul _ _) ?_
      refine vx_iload_n IG dc_R_word_46 rfl 0 rfl ?_
      refine vx_callV (As := [.int (nI d), .int (nI (2 * n)), .int (nI j)]) (st := []) IG lw_good (cR_bitsDigit LR ht2 ht3 Rd Bd hd hj (k := 2 * n) (by omega)) (ro_M LR) rfl wC_R_bitsDigit wL_R_100 wI_R_bitsDigit wS_R_bitsDigit wX_R 3 (by decide +kernel) rfl ⟨Nat.le_of_ble_eq_true rfl, Nat.le_of_ble_eq_true rfl⟩ ⟨(by dsimp only [rm_]; omega), (by dsimp only [rm_]; omega)⟩ rfl (Nat.le_of_ble_eq_true rfl) dc_R_word_47 (fun v h k_ n_ hq => ?_)
      obtain ⟨rfl, rfl, rfl, rfl⟩ := hq
      have l1 := eD_lt (b := 65536) (by decide) (X d) (2 * n)
      have l2 := eD_lt (b := 65536) (by decide) (X d) (2 * n + 1)
      show vx_V _ _ _ _ _ _ _ _ _ 50 [(3, .int (nI j)), (0, .ref (q 0)), (1, .int (nI d)), (2, .int (nI n))] [.int (nI (eD 65536 (X d) (2 * n)))]
      refine vx_ldc (v := 65535) IG wK_R_36 dc_R_word_50 ?_
      refine vx_iand IG dc_R_word_52 ?_
      refine vx_topi (y := nI (eD 65536 (X d) (2 * n))) (by rw [an16 (by omega), Nat.mod_eq_of_lt l1]) ?_
      refine vx_aload_n IG dc_R_word_53 rfl 1 rfl ?_
      refine vx_iload_n IG dc_R_word_54 rfl 2 rfl ?_
      refine vx_iconst (v := 2) IG dc_R_word_55 (by decide) ?_
      refine vx_iload_n IG dc_R_word_56 rfl 3 rfl ?_
      refine vx_imul IG dc_R_word_57 ?_
      refine vx_topi (y := nI (2 * n)) (pk_mul _ _) ?_
      refine vx_iconst (v := 1) IG dc_R_word_58 (by decide) ?_
      refine vx_iadd IG dc_R_word_59 ?_
      refine vx_topi (y := nI ((2 * n) + 1)) (nI_add _ _) ?_
      refine vx_iload_n IG dc_R_word_60 rfl 0 rfl ?_
      refine vx_callV (As := [.int (nI d), .int (nI ((2 * n) + 1)), .int (nI j)]) (st := [.int (nI (eD 65536 (X d) (2 * n)))]) IG lw_good (cR_bitsDigit LR ht2 ht3 Rd Bd hd hj (k := 2 * n + 1) (by omega)) (ro_M LR) rfl wC_R_bitsDigit wL_R_100 wI_R_bitsDigit wS_R_bitsDigit wX_R 3 (by decide +kernel) rfl ⟨Nat.le_of_ble_eq_true rfl, Nat.le_of_ble_eq_true rfl⟩ ⟨(by dsimp only [rm_]; omega), (by dsimp only [rm_]; omega)⟩ rfl (Nat.le_of_ble_eq_true rfl) dc_R_word_61 (fun v h k_ n_ hq => ?_)
      obtain ⟨rfl, rfl, rfl, rfl⟩ := hq
      show vx_V _ _ _ _ _ _ _ _ _ 64 [(3, .int (nI j)), (0, .ref (q 0)), (1, .int (nI d)), (2, .int (nI n))] [.int (nI (eD 65536 (X d) (2 * n + 1))), .int (nI (eD 65536 (X d) (2 * n)))]
      refine vx_bipush (v := 16) IG dc_R_word_64 (by decide) ?_
      refine vx_ishl IG dc_R_word_66 ?_
      refine vx_topi (y := nI (eD 65536 (X d) (2 * n + 1) * 65536)) (sl16 l2) ?_
      refine vx_ior IG dc_R_word_67 ?_
      refine vx_topi (y := nI (eD 4294967296 (X d) n)) (by rw [i_or l1 l2, eD_two]) ?_
      refine vx_ret (some (.int (nI (eD 4294967296 (X d) n)))) RG (vx_endi (by first | rfl | decide) dc_R_word_68) rfl ?_
      exact ⟨rfl, rfl, rfl, f, g, s, V, rfl, HP, HX⟩
    · have hlt : (X d).natAbs < 4294967296 ^ n := by
        rw [show (4294967296 : Nat) = 2 ^ 32 from rfl, ← Nat.pow_mul]
        exact Nat.lt_of_lt_of_le (bl_le.mp (lim16.mp Ld)) (Nat.pow_le_pow_right (by decide) (by omega))
      rw [eD_hi (by decide) hlt] at RG
      refine vx_icmp_lt (tgt := 35) IG dc_R_word_17 (by decide) (fun c_ => absurd c_ (nI_ge2 (b := 2048) (by omega) hn)) (fun _ => ?_)
      refine vx_aload_n IG dc_R_word_20 rfl 0 rfl ?_
      refine vx_get IG (ro_M LR) rfl 2 (by decide) inR wF_R_17 rfl rfl dc_R_word_21 ?_
      refine vx_iload_n IG dc_R_word_24 rfl 1 rfl ?_
      refine rr_zld IG LR ht2 hd (x := sgI (X d)) Bd dc_R_word_25 ?_
      by_cases u : X d < 0
      · rw [if_pos u] at RG
        refine vx_if_eq (tgt := 33) IG dc_R_word_26 (by decide) (fun c_ => absurd c_ (by rw [sgI_neg u]; decide)) (fun _ => ?_)
        refine vx_iconst (v := -1) IG dc_R_word_29 (by decide) ?_
        refine vx_goto (tgt := 34) IG dc_R_word_30 (by decide) ?_
        refine vx_ret (some (.int (-1))) RG (vx_endi (by first | rfl | decide) dc_R_word_34) rfl ?_
        exact ⟨rfl, rfl, rfl, f, g, s, V, rfl, HP, HX⟩
      · rw [if_neg u] at RG
        refine vx_if_eq (tgt := 33) IG dc_R_word_26 (by decide) (fun _ => ?_) (fun c_ => absurd (sgI_pos u) c_)
        refine vx_iconst (v := 0) IG dc_R_word_33 (by decide) ?_
        refine vx_ret (some (.int 0)) RG (vx_endi (by first | rfl | decide) dc_R_word_34) rfl ?_
        exact ⟨rfl, rfl, rfl, f, g, s, V, rfl, HP, HX⟩
  · refine vx_if_ge (tgt := 13) IG dc_R_word_8 (by decide) (fun c_ => absurd c_ y) (fun _ => ?_)
    refine vx_iconst (v := 0) IG dc_R_word_11 (by decide) ?_
    refine vx_ret (some (.int 0)) RG (vx_endi (by first | rfl | decide) dc_R_word_12) rfl ?_
    rw [if_neg (fun e => y (by rw [Int32.le_iff_toInt_le, i0]; exact e))]
    exact ⟨rfl, rfl, rfl, f, g, s, V, rfl, HP, HX⟩
set_option maxRecDepth 100000 in
set_option maxHeartbeats 8000000 in
theorem cR_length (LR : rlay q h0) (ht2 : tys[2]? = some (cZ, .boolean)) (ht3 : tys[3]? = some (cI, .int)) (HP : rpic f g V) (HX : mreg X V s) (r1 : Int32) : vx_M l D vcl tys my_R_length lw_gd (rm_ 4 0 0 88) [.ref (q 0), .int r1] (rH cI cZ q h0 f g s) (rpub cI cZ q h0 (sp1 (-1) X (fun d => (nI (lenZ (X d)), X)) r1).2 (sp1 (-1) X (fun d => (nI (lenZ (X d)), X)) r1).1) := by
  refine vx_M.ofV (cc := bc_R_length) (maxL := 4) (ret := (some .int)) (own := rR) false rfl (by decide +kernel) wC_R_length (fun q => by cases q) (Nat.le_of_ble_eq_true rfl) (fun A H0 G IG RG => ?_)
  show vx_V _ _ _ _ _ _ _ _ _ 0 [(0, .ref (q 0)), (1, .int r1)] []
  refine vx_iload_n IG dc_R_length_0 rfl 1 rfl ?_
  refine vx_callS (As := [.int r1]) (st := []) IG lw_good (cR_is _ r1) wC_R_is wL_R_67 wT_R_is wX_R 1 (by decide +kernel) rfl ⟨Nat.le_of_ble_eq_true rfl, Nat.le_of_ble_eq_true rfl⟩ ⟨(by dsimp only [rm_]; omega), (by dsimp only [rm_]; omega)⟩ rfl (Nat.le_of_ble_eq_true rfl) dc_R_length_1 (fun v h k_ n_ hq => ?_)
  obtain ⟨rfl, rfl, rfl, rfl⟩ := hq
  show vx_V _ _ _ _ _ _ _ _ _ 4 [(0, .ref (q 0)), (1, .int r1)] [.int (if isR r1 then 1 else 0)]
  by_cases z0 : ¬ isR r1
  · refine vx_topi (y := 0) (if_neg z0) ?_
    refine vx_if_ne (tgt := 9) IG dc_R_length_4 (by decide) (fun c_ => absurd rfl c_) (fun _ => ?_)
    refine vx_iconst (v := -1) IG dc_R_length_7 (by decide) ?_
    refine vx_ret (some (.int (-1))) RG (vx_endi (by first | rfl | decide) dc_R_length_8) rfl ?_
    rw [sp1_no z0]
    exact ⟨rfl, rfl, rfl, f, g, s, V, rfl, HP, HX⟩
  replace z0 := Decidable.not_not.mp z0
  refine vx_topi (y := 1) (if_pos z0) ?_
  refine vx_if_ne (tgt := 9) IG dc_R_length_4 (by decide) (fun _ => ?_) (fun c_ => absurd c_ (by decide))
  obtain ⟨d, hd, rfl⟩ := isR_of z0
  have Rd := reg_rv HP HX hd
  have Bd := (HX d hd).2
  have Ld := reg_cap HP HX hd
  rw [sp1_ok hd, mg_len] at RG
  have hMl : mgZ (X d) < 2 ^ (16 * nd 65536 (X d).natAbs) := Nat.lt_of_le_of_lt (mg_le _) (bl_le.mp bl_nd)
  refine vx_aload_n IG dc_R_length_9 rfl 0 rfl ?_
  refine vx_get IG (ro_M LR) rfl 2 (by decide) inR wF_R_17 rfl rfl dc_R_length_10 ?_
  refine vx_iload_n IG dc_R_length_13 rfl 1 rfl ?_
  refine rr_zld IG LR ht2 hd (x := sgI (X d)) Bd dc_R_length_14 ?_
  have fin : ∀ (x : Int32) (k n : Nat), x = nI (sb (X d)) → k = 0 → n = 0 → vx_V D vcl A H0 4 G (rH cI cZ q h0 f g s) k n 23 [(0, .ref (q 0)), (1, .int (nI d))] [.int x] := by
    intro x k n ex hk hn
    subst hk hn
    refine vx_istore_n (lv' := [(2, .int x), (0, .ref (q 0)), (1, .int (nI d))]) IG dc_R_length_23 rfl (by decide) rfl ?_
    refine vx_bipush (v := 16) IG dc_R_length_24 (by decide) ?_
    refine vx_aload_n IG dc_R_length_26 rfl 1 rfl ?_
    refine vx_get IG (ro_M LR) rfl 1 (by decide) inR wF_R_14 rfl rfl dc_R_length_27 ?_
    refine vx_iload_n IG dc_R_length_30 rfl 2 rfl ?_
    refine rr_nld IG LR ht3 (show d < 24 by omega) (x := nI (nd 65536 (X d).natAbs)) Rd.1 dc_R_length_31 ?_
    refine vx_imul IG dc_R_length_32 ?_
    refine vx_topi (y := nI (16 * (nd 65536 (X d).natAbs))) (pk_mul _ _) ?_
    refine vx_istore_n (lv' := [(3, .int (nI (16 * (nd 65536 (X d).natAbs)))), (2, .int x), (0, .ref (q 0)), (1, .int (nI d))]) IG dc_R_length_33 rfl (by decide) rfl ?_
    have loop : ∀ (c k n : Nat), c ≤ 16 * nd 65536 (X d).natAbs → mgZ (X d) < 2 ^ c → k = 0 → n = 0 → vx_V D vcl A H0 4 G (rH cI cZ q h0 f g s) k n 34 [(3, .int (nI c)), (2, .int x), (0, .ref (q 0)), (1, .int (nI d))] [] := by
      intro c
      induction c with
      | zero =>
        intro k n hc hM hk hn
        subst hk hn
        refine vx_iload_n IG dc_R_length_34 rfl 0 rfl ?_
        refine vx_if_le (tgt := 56) IG dc_R_length_35 (by decide) (fun _ => ?_) (fun c_ => absurd (by decide) c_)
        refine vx_iload_n IG dc_R_length_56 rfl 0 rfl ?_
        refine vx_ret (some (.int (nI 0))) RG (vx_endi (by first | rfl | decide) dc_R_length_57) rfl ?_
        have e0 : mgZ (X d) = 0 := by rw [Nat.pow_zero] at hM; omega
        exact ⟨by rw [e0]; rfl, rfl, rfl, f, g, s, V, rfl, HP, HX⟩
      | succ c ih =>
        intro k n hc hM hk hn
        subst hk hn
        have h01 := tB_lt (X d) c
        have h02 := sb_lt (X d)
        refine vx_iload_n IG dc_R_length_34 rfl 0 rfl ?_
        refine vx_if_le (tgt := 56) IG dc_R_length_35 (by decide) (fun c_ => absurd c_ (fun e => absurd (nI_lt (a := 0) (b := c + 1) (by omega) (by omega)) (Int32.not_lt.mpr e))) (fun _ => ?_)
        refine vx_aload_n IG dc_R_length_38 rfl 2 rfl ?_
        refine vx_iload_n IG dc_R_length_39 rfl 3 rfl ?_
        refine vx_iload_n IG dc_R_length_40 rfl 0 rfl ?_
        refine vx_iconst (v := 1) IG dc_R_length_41 (by decide) ?_
        refine vx_isub IG dc_R_length_42 ?_
        refine vx_topi (y := nI c) (nI_pred c) ?_
        refine vx_callV (As := [.int (nI d), .int (nI c)]) (st := []) IG lw_good (cR_bitAt LR ht2 ht3 Rd Bd hd (k := c) (by omega)) (ro_M LR) rfl wC_R_bitAt wL_R_108 wI_R_bitAt wS_R_bitAt wX_R 2 (by decide +kernel) rfl ⟨Nat.le_of_ble_eq_true rfl, Nat.le_of_ble_eq_true rfl⟩ ⟨(by dsimp only [rm_]; omega), (by dsimp only [rm_]; omega)⟩ rfl (Nat.le_of_ble_eq_true rfl) dc_R_length_43 (fun v h k_ n_ hq => ?_)
        obtain ⟨rfl, rfl, rfl, rfl⟩ := hq
        show vx_V _ _ _ _ _ _ _ _ _ 46 [(3, .int (nI (c + 1))), (2, .int x), (0, .ref (q 0)), (1, .int (nI d))] [.int (nI (tB (X d) c))]
        refine vx_iload_n IG dc_R_length_46 rfl 1 rfl ?_
        have hsp : mgZ (X d) / 2 ^ c < 2 := by rw [Nat.div_lt_iff_lt_mul (Nat.pow_pos (by decide)), Nat.mul_comm, ← Nat.pow_succ]; exact hM
        by_cases y : tB (X d) c = sb (X d)
        · refine vx_icmp_ne (tgt := 56) IG dc_R_length_47 (by decide) (fun c_ => absurd (by rw [ex, y]) c_) (fun _ => ?_)
          have hz := (mg_bit (X d) c).mp y
          refine vx_iinc (q := 0) (v := nI c) (lv' := [(3, .int (nI c)), (2, .int x), (0, .ref (q 0)), (1, .int (nI d))]) IG dc_R_length_50 rfl (pk_m1 c) (by decide) rfl ?_
          refine vx_goto (tgt := 34) IG dc_R_length_53 (by decide) ?_
          refine ih _ _ (by omega) ?_ rfl rfl
          have h0 : mgZ (X d) / 2 ^ c = 0 := by rw [Nat.mod_eq_of_lt hsp] at hz; exact hz
          rwa [Nat.div_eq_zero_iff_lt (Nat.pow_pos (by decide))] at h0
        · refine vx_icmp_ne (tgt := 56) IG dc_R_length_47 (by decide) (fun _ => ?_) (fun c_ => absurd c_ (by rw [ex]; exact nI_ne (by omega) (by omega) y))
          have hz : ¬ mgZ (X d) / 2 ^ c % 2 = 0 := fun e => y ((mg_bit (X d) c).mpr e)
          have hge : 2 ^ c ≤ mgZ (X d) := by
            rcases Nat.lt_or_ge (mgZ (X d)) (2 ^ c) with e | e
            · rw [Nat.div_eq_of_lt e] at hz; exact absurd rfl hz
            · exact e
          refine vx_iload_n IG dc_R_length_56 rfl 0 rfl ?_
          refine vx_ret (some (.int (nI (c + 1)))) RG (vx_endi (by first | rfl | decide) dc_R_length_57) rfl ?_
          exact ⟨by rw [bl_eq hge hM], rfl, rfl, f, g, s, V, rfl, HP, HX⟩
    exact loop _ _ _ (Nat.le_refl _) hMl rfl rfl
  by_cases y : X d < 0
  · refine vx_if_eq (tgt := 22) IG dc_R_length_15 (by decide) (fun c_ => absurd c_ (by rw [sgI_neg y]; decide)) (fun _ => ?_)
    refine vx_iconst (v := 1) IG dc_R_length_18 (by decide) ?_
    refine vx_goto (tgt := 23) IG dc_R_length_19 (by decide) ?_
    exact fin 1 _ _ (by rw [show sb (X d) = 1 from if_pos y]; rfl) rfl rfl
  · refine vx_if_eq (tgt := 22) IG dc_R_length_15 (by decide) (fun _ => ?_) (fun c_ => absurd (sgI_pos y) c_)
    refine vx_iconst (v := 0) IG dc_R_length_22 (by decide) ?_
    exact fin 0 _ _ (by rw [show sb (X d) = 0 from if_neg y]; rfl) rfl rfl
set_option maxRecDepth 100000 in
set_option maxHeartbeats 8000000 in
theorem cR_ones (LR : rlay q h0) (ht2 : tys[2]? = some (cZ, .boolean)) (ht3 : tys[3]? = some (cI, .int)) (HP : rpic f g V) (HX : mreg X V s) (r1 : Int32) : vx_M l D vcl tys my_R_ones lw_gd (rm_ 3 0 0 66) [.ref (q 0), .int r1] (rH cI cZ q h0 f g s) (rpub cI cZ q h0 (sp1 (-1) X (fun d => (nI (onesZ (X d)), X)) r1).2 (sp1 (-1) X (fun d => (nI (onesZ (X d)), X)) r1).1) := by
  refine vx_M.ofV (cc := bc_R_ones) (maxL := 8) (ret := (some .int)) (own := rR) false rfl (by decide +kernel) wC_R_ones (fun q => by cases q) (Nat.le_of_ble_eq_true rfl) (fun A H0 G IG RG => ?_)
  show vx_V _ _ _ _ _ _ _ _ _ 0 [(0, .ref (q 0)), (1, .int r1)] []
  refine vx_iload_n IG dc_R_ones_0 rfl 1 rfl ?_
  refine vx_callS (As := [.int r1]) (st := []) IG lw_good (cR_is _ r1) wC_R_is wL_R_67 wT_R_is wX_R 1 (by decide +kernel) rfl ⟨Nat.le_of_ble_eq_true rfl, Nat.le_of_ble_eq_true rfl⟩ ⟨(by dsimp only [rm_]; omega), (by dsimp only [rm_]; omega)⟩ rfl (Nat.le_of_ble_eq_true rfl) dc_R_ones_1 (fun v h k_ n_ hq => ?_)
  obtain ⟨rfl, rfl, rfl, rfl⟩ := hq
  show vx_V _ _ _ _ _ _ _ _ _ 4 [(0, .ref (q 0)), (1, .int r1)] [.int (if isR r1 then 1 else 0)]
  by_cases z0 : ¬ isR r1
  · refine vx_topi (y := 0) (if_neg z0) ?_
    refine vx_if_ne (tgt := 9) IG dc_R_ones_4 (by decide) (fun c_ => absurd rfl c_) (fun _ => ?_)
    refine vx_iconst (v := -1) IG dc_R_ones_7 (by decide) ?_
    refine vx_ret (some (.int (-1))) RG (vx_endi (by first | rfl | decide) dc_R_ones_8) rfl ?_
    rw [sp1_no z0]
    exact ⟨rfl, rfl, rfl, f, g, s, V, rfl, HP, HX⟩
  replace z0 := Decidable.not_not.mp z0
  refine vx_topi (y := 1) (if_pos z0) ?_
  refine vx_if_ne (tgt := 9) IG dc_R_ones_4 (by decide) (fun _ => ?_) (fun c_ => absurd c_ (by decide))
  obtain ⟨d, hd, rfl⟩ := isR_of z0
  have Rd := reg_rv HP HX hd
  have Bd := (HX d hd).2
  have Ld := reg_cap HP HX hd
  have hMl : mgZ (X d) < 2 ^ (16 * nd 65536 (X d).natAbs) := Nat.lt_of_le_of_lt (mg_le _) (bl_le.mp bl_nd)
  rw [sp1_ok hd, mg_ones, pop_big hMl 65600 (by omega)] at RG
  obtain ⟨j0, hj⟩ := fs_ex (X d).natAbs
  have hjl := fs_le hj
  refine vx_aload_n IG dc_R_ones_9 rfl 0 rfl ?_
  refine vx_get IG (ro_M LR) rfl 2 (by decide) inR wF_R_17 rfl rfl dc_R_ones_10 ?_
  refine vx_iload_n IG dc_R_ones_13 rfl 1 rfl ?_
  refine rr_zld IG LR ht2 hd (x := sgI (X d)) Bd dc_R_ones_14 ?_
  have fin : ∀ (x : Int32) (k n : Nat), x = nI (sb (X d)) → k = 0 → n = 0 → vx_V D vcl A H0 8 G (rH cI cZ q h0 f g s) k n 23 [(0, .ref (q 0)), (1, .int (nI d))] [.int x] := by
    intro x k n ex hk hn
    subst hk hn
    refine vx_istore_n (lv' := [(2, .int x), (0, .ref (q 0)), (1, .int (nI d))]) IG dc_R_ones_23 rfl (by decide) rfl ?_
    refine vx_iconst (v := 0) IG dc_R_ones_24 (by decide) ?_
    refine vx_istore_n (lv' := [(3, .int 0), (2, .int x), (0, .ref (q 0)), (1, .int (nI d))]) IG dc_R_ones_25 rfl (by decide) rfl ?_
    refine vx_aload_n IG dc_R_ones_26 rfl 2 rfl ?_
    refine vx_iload_n IG dc_R_ones_27 rfl 3 rfl ?_
    refine vx_callV (As := [.int (nI d)]) (st := []) IG lw_good (cR_lowestDigit LR ht2 ht3 Rd (by omega) hj) (ro_M LR) rfl wC_R_lowestDigit wL_R_93 wI_R_lowestDigit wS_R_lowestDigit wX_R 1 (by decide +kernel) rfl ⟨Nat.le_of_ble_eq_true rfl, Nat.le_of_ble_eq_true rfl⟩ ⟨(by dsimp only [rm_]; omega), (by dsimp only [rm_]; omega)⟩ rfl (Nat.le_of_ble_eq_true rfl) dc_R_ones_28 (fun v h k_ n_ hq => ?_)
    obtain ⟨rfl, rfl, rfl, rfl⟩ := hq
    show vx_V _ _ _ _ _ _ _ _ _ 31 [(3, .int 0), (2, .int x), (0, .ref (q 0)), (1, .int (nI d))] [.int (nI j0)]
    refine vx_istore (lv' := [(4, .int (nI j0)), (3, .int 0), (2, .int x), (0, .ref (q 0)), (1, .int (nI d))]) IG dc_R_ones_31 (by decide) rfl ?_
    refine vx_iconst (v := 0) IG dc_R_ones_33 (by decide) ?_
    refine vx_istore (lv' := [(5, .int 0), (4, .int (nI j0)), (3, .int 0), (2, .int x), (0, .ref (q 0)), (1, .int (nI d))]) IG dc_R_ones_34 (by decide) rfl ?_
    have outer : ∀ (m c k n : Nat), c + m = nd 65536 (X d).natAbs → k = 0 → n = 0 → vx_V D vcl A H0 8 G (rH cI cZ q h0 f g s) k n 36 [(5, .int (nI c)), (4, .int (nI j0)), (3, .int (nI (pop (mgZ (X d)) (16 * c)))), (2, .int x), (0, .ref (q 0)), (1, .int (nI d))] [] := by
      intro m
      induction m with
      | zero =>
        intro c k n hc hk hn
        subst hk hn
        obtain rfl : c = nd 65536 (X d).natAbs := by omega
        refine vx_iload IG dc_R_ones_36 0 rfl ?_
        refine vx_aload_n IG dc_R_ones_38 rfl 4 rfl ?_
        refine vx_get IG (ro_M LR) rfl 1 (by decide) inR wF_R_14 rfl rfl dc_R_ones_39 ?_
        refine vx_iload_n IG dc_R_ones_42 rfl 5 rfl ?_
        refine rr_nld IG LR ht3 (show d < 24 by omega) (x := nI (nd 65536 (X d).natAbs)) Rd.1 dc_R_ones_43 ?_
        refine vx_icmp_ge (tgt := 102) IG dc_R_ones_44 (by decide) (fun _ => ?_) (fun c_ => absurd (nI_le (Nat.le_refl _) (by omega)) c_)
        refine vx_iload_n IG dc_R_ones_102 rfl 2 rfl ?_
        refine vx_ret (some (.int (nI (pop (mgZ (X d)) (16 * nd 65536 (X d).natAbs))))) RG (vx_endi (by first | rfl | decide) dc_R_ones_103) rfl ?_
        exact ⟨rfl, rfl, rfl, f, g, s, V, rfl, HP, HX⟩
      | succ m ih =>
        intro c k n hc hk hn
        subst hk hn
        have l1 := eD_lt (b := 65536) (by decide) (X d) c
        have h02 := sb_lt (X d)
        refine vx_iload IG dc_R_ones_36 0 rfl ?_
        refine vx_aload_n IG dc_R_ones_38 rfl 4 rfl ?_
        refine vx_get IG (ro_M LR) rfl 1 (by decide) inR wF_R_14 rfl rfl dc_R_ones_39 ?_
        refine vx_iload_n IG dc_R_ones_42 rfl 5 rfl ?_
        refine rr_nld IG LR ht3 (show d < 24 by omega) (x := nI (nd 65536 (X d).natAbs)) Rd.1 dc_R_ones_43 ?_
        refine vx_icmp_ge (tgt := 102) IG dc_R_ones_44 (by decide) (fun c_ => absurd c_ (fun e => absurd (nI_lt (a := c) (b := nd 65536 (X d).natAbs) (by omega) (by omega)) (Int32.not_lt.mpr e))) (fun _ => ?_)
        refine vx_aload_n IG dc_R_ones_47 rfl 4 rfl ?_
        refine vx_iload_n IG dc_R_ones_48 rfl 5 rfl ?_
        refine vx_iload IG dc_R_ones_49 0 rfl ?_
        refine vx_iload IG dc_R_ones_51 1 rfl ?_
        refine vx_callV (As := [.int (nI d), .int (nI c), .int (nI j0)]) (st := []) IG lw_good (cR_bitsDigit LR ht2 ht3 Rd Bd hd hj (k := c) (by omega)) (ro_M LR) rfl wC_R_bitsDigit wL_R_100 wI_R_bitsDigit wS_R_bitsDigit wX_R 3 (by decide +kernel) rfl ⟨Nat.le_of_ble_eq_true rfl, Nat.le_of_ble_eq_true rfl⟩ ⟨(by dsimp only [rm_]; omega), (by dsimp only [rm_]; omega)⟩ rfl (Nat.le_of_ble_eq_true rfl) dc_R_ones_53 (fun v h k_ n_ hq => ?_)
        obtain ⟨rfl, rfl, rfl, rfl⟩ := hq
        show vx_V _ _ _ _ _ _ _ _ _ 56 [(5, .int (nI c)), (4, .int (nI j0)), (3, .int (nI (pop (mgZ (X d)) (16 * c)))), (2, .int x), (0, .ref (q 0)), (1, .int (nI d))] [.int (nI (eD 65536 (X d) c))]
        refine vx_ldc (v := 65535) IG wK_R_36 dc_R_ones_56 ?_
        refine vx_iand IG dc_R_ones_58 ?_
        refine vx_topi (y := nI (eD 65536 (X d) c)) (by rw [an16 (by omega), Nat.mod_eq_of_lt l1]) ?_
        refine vx_istore (lv' := [(6, .int (nI (eD 65536 (X d) c))), (5, .int (nI c)), (4, .int (nI j0)), (3, .int (nI (pop (mgZ (X d)) (16 * c)))), (2, .int x), (0, .ref (q 0)), (1, .int (nI d))]) IG dc_R_ones_59 (by decide) rfl ?_
        refine vx_iconst (v := 0) IG dc_R_ones_61 (by decide) ?_
        refine vx_istore (lv' := [(7, .int 0), (6, .int (nI (eD 65536 (X d) c))), (5, .int (nI c)), (4, .int (nI j0)), (3, .int (nI (pop (mgZ (X d)) (16 * c)))), (2, .int x), (0, .ref (q 0)), (1, .int (nI d))]) IG dc_R_ones_62 (by decide) rfl ?_
        have inner : ∀ (m2 i k n : Nat), i + m2 = 16 → k = 0 → n = 0 → vx_V D vcl A H0 8 G (rH cI cZ q h0 f g s) k n 64 [(7, .int (nI i)), (6, .int (nI (eD 65536 (X d) c))), (5, .int (nI c)), (4, .int (nI j0)), (3, .int (nI (pop (mgZ (X d)) (16 * c + i)))), (2, .int x), (0, .ref (q 0)), (1, .int (nI d))] [] := by
          intro m2
          induction m2 with
          | zero =>
            intro i k n hi hk hn
            subst hk hn
            obtain rfl : i = 16 := by omega
            refine vx_iload IG dc_R_ones_64 0 rfl ?_
            refine vx_bipush (v := 16) IG dc_R_ones_66 (by decide) ?_
            refine vx_icmp_ge (tgt := 96) IG dc_R_ones_68 (by decide) (fun _ => ?_) (fun c_ => absurd (by decide) c_)
            refine vx_iinc (q := 2) (v := nI (c + 1)) (lv' := [(5, .int (nI (c + 1))), (7, .int (nI 16)), (6, .int (nI (eD 65536 (X d) c))), (4, .int (nI j0)), (3, .int (nI (pop (mgZ (X d)) (16 * c + 16)))), (2, .int x), (0, .ref (q 0)), (1, .int (nI d))]) IG dc_R_ones_96 rfl (nI_1 c) (by decide) rfl ?_
            refine vx_goto (tgt := 36) IG dc_R_ones_99 (by decide) ?_
            refine vx_same (lv' := [(5, .int (nI (c + 1))), (4, .int (nI j0)), (3, .int (nI (pop (mgZ (X d)) (16 * c + 16)))), (2, .int x), (0, .ref (q 0)), (1, .int (nI d))]) IG [0, 3, 4, 5, 6, 7] rfl ?_
            exact ih (c + 1) _ _ (by omega) rfl rfl
          | succ m2 ih2 =>
            intro i k n hi hk hn
            subst hk hn
            have hb := eD_bit (X d) 16 c (j := i) (by omega)
            have hb2 : eD 65536 (X d) c / 2 ^ i % 2 = tB (X d) (16 * c + i) := hb
            have hl2 := Nat.div_le_self (eD 65536 (X d) c) (2 ^ i)
            have h01 := tB_lt (X d) (16 * c + i)
            have hmb := mg_bit (X d) (16 * c + i)
            refine vx_iload IG dc_R_ones_64 0 rfl ?_
            refine vx_bipush (v := 16) IG dc_R_ones_66 (by decide) ?_
            refine vx_icmp_ge (tgt := 96) IG dc_R_ones_68 (by decide) (fun c_ => absurd c_ (fun e => absurd (nI_lt (a := i) (b := 16) (by omega) (by decide)) (Int32.not_lt.mpr e))) (fun _ => ?_)
            refine vx_iload_n IG dc_R_ones_71 rfl 4 rfl ?_
            refine vx_iload IG dc_R_ones_72 1 rfl ?_
            refine vx_iload IG dc_R_ones_74 0 rfl ?_
            refine vx_ishr IG dc_R_ones_76 ?_
            refine vx_topi (y := nI (eD 65536 (X d) c / 2 ^ i)) (shv (by omega) (by omega)) ?_
            refine vx_iconst (v := 1) IG dc_R_ones_77 (by decide) ?_
            refine vx_iand IG dc_R_ones_78 ?_
            refine vx_topi (y := nI (tB (X d) (16 * c + i))) (by rw [an1 (by omega)]; exact congrArg nI hb2) ?_
            refine vx_iload_n IG dc_R_ones_79 rfl 5 rfl ?_
            have step : ∀ (t k n : Nat), t = mgZ (X d) / 2 ^ (16 * c + i) % 2 → k = 0 → n = 0 → vx_V D vcl A H0 8 G (rH cI cZ q h0 f g s) k n 88 [(7, .int (nI i)), (6, .int (nI (eD 65536 (X d) c))), (5, .int (nI c)), (4, .int (nI j0)), (3, .int (nI (pop (mgZ (X d)) (16 * c + i)))), (2, .int x), (0, .ref (q 0)), (1, .int (nI d))] [.int (nI t), .int (nI (pop (mgZ (X d)) (16 * c + i)))] := by
              intro t k n et hk hn
              subst hk hn
              refine vx_iadd IG dc_R_ones_88 ?_
              refine vx_topi (y := nI (pop (mgZ (X d)) (16 * c + (i + 1)))) (by rw [nI_add, et]; rfl) ?_
              refine vx_istore_n (lv' := [(3, .int (nI (pop (mgZ (X d)) (16 * c + (i + 1))))), (7, .int (nI i)), (6, .int (nI (eD 65536 (X d) c))), (5, .int (nI c)), (4, .int (nI j0)), (2, .int x), (0, .ref (q 0)), (1, .int (nI d))]) IG dc_R_ones_89 rfl (by decide) rfl ?_
              refine vx_iinc (q := 1) (v := nI (i + 1)) (lv' := [(7, .int (nI (i + 1))), (3, .int (nI (pop (mgZ (X d)) (16 * c + (i + 1))))), (6, .int (nI (eD 65536 (X d) c))), (5, .int (nI c)), (4, .int (nI j0)), (2, .int x), (0, .ref (q 0)), (1, .int (nI d))]) IG dc_R_ones_90 rfl (nI_1 i) (by decide) rfl ?_
              refine vx_goto (tgt := 64) IG dc_R_ones_93 (by decide) ?_
              refine vx_same (lv' := [(7, .int (nI (i + 1))), (6, .int (nI (eD 65536 (X d) c))), (5, .int (nI c)), (4, .int (nI j0)), (3, .int (nI (pop (mgZ (X d)) (16 * c + (i + 1))))), (2, .int x), (0, .ref (q 0)), (1, .int (nI d))]) IG [0, 2, 3, 4, 1, 5, 6, 7] rfl ?_
              exact ih2 (i + 1) _ _ (by omega) rfl rfl
            by_cases y : tB (X d) (16 * c + i) = sb (X d)
            · refine vx_icmp_eq (tgt := 87) IG dc_R_ones_80 (by decide) (fun _ => ?_) (fun c_ => absurd (by rw [ex, y]) c_)
              refine vx_iconst (v := 0) IG dc_R_ones_87 (by decide) ?_
              exact step 0 _ _ (hmb.mp y).symm rfl rfl
            · refine vx_icmp_eq (tgt := 87) IG dc_R_ones_80 (by decide) (fun c_ => absurd c_ (by rw [ex]; exact nI_ne (by omega) (by omega) y)) (fun _ => ?_)
              refine vx_iconst (v := 1) IG dc_R_ones_83 (by decide) ?_
              refine vx_goto (tgt := 88) IG dc_R_ones_84 (by decide) ?_
              exact step 1 _ _ (by have := fun e => y (hmb.mpr e); omega) rfl rfl
        exact inner 16 0 _ _ (by omega) rfl rfl
    exact outer _ 0 _ _ (Nat.zero_add _) rfl rfl
  by_cases y : X d < 0
  · refine vx_if_eq (tgt := 22) IG dc_R_ones_15 (by decide) (fun c_ => absurd c_ (by rw [sgI_neg y]; decide)) (fun _ => ?_)
    refine vx_iconst (v := 1) IG dc_R_ones_18 (by decide) ?_
    refine vx_goto (tgt := 23) IG dc_R_ones_19 (by decide) ?_
    exact fin 1 _ _ (by rw [show sb (X d) = 1 from if_pos y]; rfl) rfl rfl
  · refine vx_if_eq (tgt := 22) IG dc_R_ones_15 (by decide) (fun _ => ?_) (fun c_ => absurd (sgI_pos y) c_)
    refine vx_iconst (v := 0) IG dc_R_ones_22 (by decide) ?_
    exact fin 0 _ _ (by rw [show sb (X d) = 0 from if_neg y]; rfl) rfl rfl
end
