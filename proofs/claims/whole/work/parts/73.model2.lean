/-! the reference: product, lower, raise -/
/-- the elements from k on up to sz are e's -/
def pz (f : Nat → Int32) (p : Nat) (e : Nat → Nat) (k sz : Nat) : Nat → Int32 := fun i => if p + k ≤ i ∧ i < p + sz then nI (e (i - p)) else f i
theorem pz_top (f : Nat → Int32) (p : Nat) (e : Nat → Nat) (sz : Nat) : pz f p e sz sz = f := by
  funext i
  exact if_neg (by omega)
theorem pz_s (f : Nat → Int32) (p : Nat) (e : Nat → Nat) {k sz : Nat} (h : k < sz) : upd (pz f p e (k + 1) sz) (p + k) (nI (e k)) = pz f p e k sz := by
  funext i
  show (if i = p + k then nI (e k) else if p + (k + 1) ≤ i ∧ i < p + sz then nI (e (i - p)) else f i) = if p + k ≤ i ∧ i < p + sz then nI (e (i - p)) else f i
  by_cases z : i = p + k
  · rw [if_pos z, if_pos (by omega), z, Nat.add_sub_cancel_left]
  · rw [if_neg z]
    by_cases y : p + (k + 1) ≤ i ∧ i < p + sz
    · rw [if_pos y, if_pos (by omega)]
    · rw [if_neg y, if_neg (by omega)]
theorem pz_0 (f : Nat → Int32) (p : Nat) (e : Nat → Nat) (sz : Nat) : pz f p e 0 sz = pf f p e sz := rfl
theorem pz_lo {f : Nat → Int32} {p : Nat} {e : Nat → Nat} {j k sz : Nat} (h : j < k) : pz f p e k sz (p + j) = f (p + j) := if_neg (by omega)
theorem pz_row {f : Nat → Int32} {e : Nat → Nat} {a d k sz j : Nat} (h : a ≠ d) (ha : a < 24) (hd : d < 24) (hj : j < rcap a) (hk : sz ≤ rcap d) : pz f (rt d) e k sz (rt a + j) = f (rt a + j) := by
  refine if_neg (fun z => ?_)
  exact rt_ne h ha hd hj (show rt a + j - rt d < rcap d by omega) (by omega)
theorem pf_eq {f : Nat → Int32} {p : Nat} {e e' : Nat → Nat} {sz : Nat} (h : ∀ j, j < sz → e j = e' j) : pf f p e sz = pf f p e' sz := by
  funext i
  show (if _ then _ else _) = (if _ then _ else _)
  by_cases z : p ≤ i ∧ i < p + sz
  · rw [if_pos z, if_pos z, h _ (by omega)]
  · rw [if_neg z, if_neg z]
theorem pf_up {f : Nat → Int32} {p : Nat} {e e' : Nat → Nat} {sz m v : Nat} (hm : m < sz) (hv : e' m = v) (h : ∀ j, j ≠ m → e' j = e j) : upd (pf f p e sz) (p + m) (nI v) = pf f p e' sz := by
  funext i
  show (if i = p + m then nI v else if p ≤ i ∧ i < p + sz then nI (e (i - p)) else f i) = if p ≤ i ∧ i < p + sz then nI (e' (i - p)) else f i
  by_cases z : i = p + m
  · rw [if_pos z, if_pos (by omega), z, Nat.add_sub_cancel_left, hv]
  · rw [if_neg z]
    by_cases y : p ≤ i ∧ i < p + sz
    · rw [if_pos y, if_pos y, h _ (by omega)]
    · rw [if_neg y, if_neg y]
theorem hy_up {F H : Nat → Nat} {m c : Nat} (hc : c = m + 1) (j : Nat) (hj : j ≠ m) : (fun m => if m < c then F m else H m) j = (fun i => if i < m then F i else H i) j := by
  show (if _ then _ else _) = (if _ then _ else _)
  by_cases z : j < m
  · rw [if_pos z, if_pos (by omega)]
  · rw [if_neg z, if_neg (by omega)]
/-- a multiple of one row and another row: the carry -/
def mu (x B Q k : Nat) : Nat := (x * (B % 65536 ^ k) + Q % 65536 ^ k) / 65536 ^ k
theorem mu_0 (x B Q : Nat) : mu x B Q 0 = 0 := by
  unfold mu
  rw [Nat.pow_zero, Nat.mod_one, Nat.mod_one, Nat.mul_zero]
theorem mu_le {x B Q k : Nat} : mu x B Q k ≤ x := by
  unfold mu
  have h1 := bp_pos b16 k
  have h2 := Nat.mod_lt B h1
  have h3 := Nat.mod_lt Q h1
  have h4 : x * (B % 65536 ^ k) ≤ x * (65536 ^ k - 1) := Nat.mul_le_mul_left _ (by omega)
  rw [Nat.mul_sub, Nat.mul_one] at h4
  have h6 : x * 65536 ^ k ≥ x := Nat.le_mul_of_pos_right _ h1
  have : (x * (B % 65536 ^ k) + Q % 65536 ^ k) / 65536 ^ k < x + 1 := by
    rw [Nat.div_lt_iff_lt_mul h1, Nat.add_mul, Nat.one_mul]
    omega
  omega
theorem mu_s (x B Q k : Nat) : (x * dg 65536 B k + dg 65536 Q k + mu x B Q k) / 65536 = mu x B Q (k + 1) := by
  unfold mu
  have h1 := bp_pos b16 k
  rw [md_split, md_split, bp_succ, ← Nat.div_div_eq_div_mul]
  congr 1
  rw [show x * (B % 65536 ^ k + 65536 ^ k * dg 65536 B k) + (Q % 65536 ^ k + 65536 ^ k * dg 65536 Q k) = x * (B % 65536 ^ k) + Q % 65536 ^ k + 65536 ^ k * (x * dg 65536 B k + dg 65536 Q k) by
    rw [Nat.mul_add, Nat.mul_add, Nat.mul_left_comm]; omega, Nat.add_mul_div_left _ _ h1, Nat.add_comm]
theorem mu_d (x B Q k : Nat) : (x * dg 65536 B k + dg 65536 Q k + mu x B Q k) % 65536 = dg 65536 (Q + x * B) k := by
  unfold mu dg
  have h1 := bp_pos b16 k
  have hB := Nat.mod_add_div B (65536 ^ k)
  have hQ := Nat.mod_add_div Q (65536 ^ k)
  have h2 : Q + x * B = x * (B % 65536 ^ k) + Q % 65536 ^ k + 65536 ^ k * (x * (B / 65536 ^ k) + Q / 65536 ^ k) := by
    have e : x * B = x * (B % 65536 ^ k) + 65536 ^ k * (x * (B / 65536 ^ k)) := by
      rw [Nat.mul_left_comm, ← Nat.mul_add, hB]
    rw [Nat.mul_add]
    omega
  rw [h2, Nat.add_mul_div_left _ _ h1]
  have hd := Nat.div_add_mod (B / 65536 ^ k) 65536
  have e2 : x * (B / 65536 ^ k) = 65536 * (x * (B / 65536 ^ k / 65536)) + x * (B / 65536 ^ k % 65536) := by
    rw [Nat.mul_left_comm, ← Nat.mul_add, hd]
  omega
theorem l_and16 {v : Nat} (h : v < 18446744073709551616) : (lN v &&& 65535).toInt32 = nI (v % 65536) := by
  rw [show (65535 : Int64) = lN (65536 - 1) from rfl, g_mask (s := 16) rfl (by decide) h, lN_i]
theorem lZ_shr16 {s : Int} (h1 : -9223372036854775808 ≤ s) (h2 : s < 9223372036854775808) : lZ s >>> ((16 : Int32).toInt64 &&& 63) = lZ (s / 65536) := by
  rw [← Int64.toInt_inj, lZ_int (by omega) (by omega)]
  show ((lZ s >>> ((16 : Int32).toInt64 &&& 63)).toBitVec).toInt = _
  rw [Int64.toBitVec_shiftRight]
  show ((lZ s).toBitVec.sshiftRight 16).toInt = _
  rw [BitVec.toInt_sshiftRight]
  show (lZ s).toInt >>> 16 = _
  rw [lZ_int h1 h2, Int.shiftRight_eq_div_pow]
  rfl
theorem l_shr16 {v : Nat} (h : v < 9223372036854775808) : lN v >>> ((16 : Int32).toInt64 &&& 63) = lN (v / 65536) := by
  rw [← lZ_nat, lZ_shr16 (by omega) (by omega), ← lZ_nat, Int.natCast_ediv]
  rfl
theorem i_or {x y : Nat} (hx : x < 65536) (hy : y < 65536) : nI x ||| nI (y * 65536) = nI (x + y * 65536) := by
  apply Int32.toBitVec_inj.mp
  apply BitVec.eq_of_toNat_eq
  rw [Int32.toBitVec_or, BitVec.toNat_or, pk_tn (by omega), pk_tn (by omega), pk_tn (by omega), Nat.mul_comm y, Nat.or_comm, Nat.add_comm]
  exact (Nat.two_pow_add_eq_or_of_lt (i := 16) hx y).symm
theorem i_or' {x y : Nat} (hx : x < 65536) (hy : y < 65536) : nI (y * 65536) ||| nI x = nI (y * 65536 + x) := by
  apply Int32.toBitVec_inj.mp
  apply BitVec.eq_of_toNat_eq
  rw [Int32.toBitVec_or, BitVec.toNat_or, pk_tn (by omega), pk_tn (by omega), pk_tn (by omega), Nat.mul_comm y]
  exact (Nat.two_pow_add_eq_or_of_lt (i := 16) hx y).symm
theorem sl16 {y : Nat} (hy : y < 65536) : nI y <<< ((16 : Int32) &&& 31) = nI (y * 65536) := pk_shlN _ 16 (by decide) (by omega)
theorem iushr_v {n i : Nat} (hn : n < 2 ^ 32) (hi : i < 32) : ((nI n).toUInt32 >>> ((nI i).toUInt32 &&& Int32.toUInt32 31)).toInt32 = nI (n / 2 ^ i) := by
  have h : ∀ i, i < 32 → (((nI i).toUInt32 &&& Int32.toUInt32 31).toBitVec % 32).toNat = i := by decide +kernel
  exact pk_ushrN hn (nI i) i (h i hi)
theorem p2_16 (n : Nat) : 2 ^ n = 65536 ^ (n / 16) * 2 ^ (n % 16) := by
  rw [show (65536 : Nat) = 2 ^ 16 from rfl, ← Nat.pow_mul, ← Nat.pow_add, Nat.div_add_mod]
theorem lower_dg {A n k : Nat} : (dg 65536 A (n / 16 + k) + dg 65536 A (n / 16 + k + 1) * 65536) / 2 ^ (n % 16) % 65536 = dg 65536 (A / 2 ^ n) k := by
  have hs : n % 16 < 16 := Nat.mod_lt _ (by decide)
  have e1 : dg 65536 (A / 2 ^ n) k = A / 65536 ^ (n / 16 + k) / 2 ^ (n % 16) % 65536 := by
    unfold dg
    rw [p2_16 n, Nat.div_div_eq_div_mul, Nat.div_div_eq_div_mul, Nat.pow_add, Nat.mul_right_comm]
  have e2 : dg 65536 A (n / 16 + k) + dg 65536 A (n / 16 + k + 1) * 65536 = A / 65536 ^ (n / 16 + k) % 4294967296 := by
    have h := dv_split 65536 A (n / 16 + k)
    unfold dg at h ⊢
    omega
  rw [e1, e2]
  generalize A / 65536 ^ (n / 16 + k) = Y
  rw [show (4294967296 : Nat) = 2 ^ (n % 16) * 2 ^ (32 - n % 16) by rw [← Nat.pow_add, show n % 16 + (32 - n % 16) = 32 by omega], Nat.mod_mul_right_div_self]
  refine Nat.mod_mod_of_dvd _ ?_
  exact ⟨2 ^ (16 - n % 16), by rw [show (65536 : Nat) = 2 ^ 16 from rfl, ← Nat.pow_add]; congr 1; omega⟩
theorem bB16 {l : Nat} (h : l ≤ 16) : 65536 = 2 ^ l * 2 ^ (16 - l) := bb_split (w := 16) h
theorem rs16 {A k l : Nat} (h : l ≤ 16) : (dg 65536 A k * 2 ^ l + (if k = 0 then 0 else dg 65536 A (k - 1) / 2 ^ (16 - l))) % 65536 = dg 65536 (A * 2 ^ l) k := by
  by_cases z : k = 0
  · rw [if_pos z, z, Nat.add_zero, dg_shl0]
  · obtain ⟨j, rfl⟩ : ∃ j, k = j + 1 := ⟨k - 1, by omega⟩
    rw [if_neg z, Nat.add_sub_cancel, dg_shl_g b16 (bB16 h)]
    have h1 := dg_lt b16 A j
    have hq : dg 65536 A j / 2 ^ (16 - l) < 2 ^ l := by
      rw [Nat.div_lt_iff_lt_mul (Nat.pow_pos (by decide)), ← bB16 h]
      exact h1
    have h2 := md_shift (x := dg 65536 A (j + 1)) (p := 2 ^ l) (q := 2 ^ (16 - l)) (Nat.pow_pos (by decide)) hq
    rw [← bB16 h] at h2
    rw [h2]
theorem rs_int {h lo s : Nat} (hh : h < 65536) (hl : lo < 65536) (hs : s ≤ 16) : (h * 65536 + lo) * 2 ^ s % 4294967296 / 65536 % 65536 = (h * 2 ^ s + lo / 2 ^ (16 - s)) % 65536 := by
  rw [show (4294967296 : Nat) = 65536 * 65536 from rfl, Nat.mod_mul_right_div_self, Nat.mod_mod, Nat.add_mul]
  congr 1
  rw [Nat.mul_right_comm, Nat.add_comm, Nat.add_mul_div_right _ _ (by decide), Nat.add_comm]
  congr 1
  have e := bB16 hs
  rw [show lo * 2 ^ s / 65536 = lo * 2 ^ s / (2 ^ s * 2 ^ (16 - s)) by rw [← e], Nat.mul_comm lo, Nat.mul_div_mul_left _ _ (Nat.pow_pos (by decide))]
theorem raise_dg {A n k : Nat} : ((if n / 16 ≤ k then dg 65536 A (k - n / 16) else 0) * 65536 + (if n / 16 < k then dg 65536 A (k - n / 16 - 1) else 0)) * 2 ^ (n % 16) % 4294967296 / 65536 % 65536 = dg 65536 (A * 2 ^ n) k := by
  have hs : n % 16 < 16 := Nat.mod_lt _ (by decide)
  by_cases z : n / 16 ≤ k
  · obtain ⟨j, rfl⟩ : ∃ j, k = j + n / 16 := ⟨k - n / 16, by omega⟩
    have e1 : dg 65536 (A * 2 ^ n) (j + n / 16) = dg 65536 (A * 2 ^ (n % 16)) j := by
      rw [p2_16 n, Nat.mul_comm (65536 ^ (n / 16)), ← Nat.mul_assoc, dg_up b16]
    rw [e1, if_pos z, Nat.add_sub_cancel]
    have l1 := dg_lt b16 A j
    have l2 := dg_lt b16 A (j - 1)
    rw [← rs16 (Nat.le_of_lt hs)]
    by_cases y : j = 0
    · rw [if_neg (by omega), if_pos y, rs_int l1 (by omega) (Nat.le_of_lt hs), Nat.zero_div]
    · rw [if_pos (by omega), if_neg y, rs_int l1 l2 (Nat.le_of_lt hs)]
  · rw [if_neg z, if_neg (by omega), p2_16 n, Nat.mul_comm (65536 ^ (n / 16)), ← Nat.mul_assoc, dg_up0 b16 (by omega), Nat.zero_mul]
theorem i_shl {v s : Nat} (hv : v < 2 ^ 32) (hs : s < 32) : nI v <<< (nI s &&& 31) = nI (v * 2 ^ s % 4294967296) := by
  have e : ∀ j, j < 32 → ((nI j &&& 31).toBitVec.smod 32).toNat = j := by decide +kernel
  have h := pk_shl (nI v) (nI s &&& 31) s (e s hs)
  rw [pk_tn hv] at h
  apply Int32.toBitVec_inj.mp
  apply BitVec.eq_of_toNat_eq
  rw [h, pk_tn (Nat.mod_lt _ (by decide))]
section
variable {l : Launch} {D : va_G} {tys : List (ClassId × FieldType)} {cI cZ : ClassId} {q : Nat → Nat} {h0 : vx_h} {f g s : Nat → Int32} {V : Nat → Nat} {X : Nat → Int} {a b d r N sz U W : Nat} {w : Int32}
set_option maxRecDepth 100000 in
set_option maxHeartbeats 8000000 in
theorem cR_product (LR : rlay q h0) (ht2 : tys[2]? = some (cZ, .boolean)) (ht3 : tys[3]? = some (cI, .int)) (Ha : rv f g a U) (Hb : rv f g b W) (hd : d < 24) (ha : a < 24) (hb : b < 24) (n1 : a ≠ d) (n2 : b ≠ d) (s1 : nd 65536 U + nd 65536 W < rcap d) : vx_M l D vcl tys my_R_product lw_gd (rm_ 2 0 0 43) [.ref (q 0), .int (nI d), .int (nI a), .int (nI b)] (rH cI cZ q h0 f g s) (rdone cI cZ q h0 f g s d (U * W)) := by
  refine vx_M.ofV (cc := bc_R_product) (maxL := 13) (ret := none) (own := rR) false rfl (by decide +kernel) wC_R_product (fun q => by cases q) (Nat.le_of_ble_eq_true rfl) (fun A H0 G IG RG => ?_)
  show vx_V _ _ _ _ _ _ _ _ _ 0 [(0, .ref (q 0)), (1, .int (nI d)), (2, .int (nI a)), (3, .int (nI b))] []
  obtain ⟨hga, hca, hfa⟩ := Ha
  obtain ⟨hgb, hcb, hfb⟩ := Hb
  have c1 := rcap_4 a
  have c2 := rcap_4 b
  have c3 := rcap_4 d
  obtain ⟨sz, esz⟩ : ∃ sz, sz = nd 65536 U + nd 65536 W + 1 := ⟨_, rfl⟩
  have hN : U * W < 65536 ^ sz := by
    rw [esz, bp_succ, Nat.pow_add]
    have := Nat.mul_lt_mul'' (lt_nd b16 U) (lt_nd b16 W)
    exact Nat.lt_of_lt_of_le this (Nat.le_mul_of_pos_right _ (by decide))
  refine vx_aload_n IG dc_R_product_0 rfl 0 rfl ?_
  refine vx_get IG (ro_M LR) rfl 1 (by decide) inR wF_R_14 rfl rfl dc_R_product_1 ?_
  refine vx_iload_n IG dc_R_product_4 rfl 2 rfl ?_
  refine rr_nld IG LR ht3 ha (x := nI (nd 65536 U)) hga dc_R_product_5 ?_
  refine vx_aload_n IG dc_R_product_6 rfl 0 rfl ?_
  refine vx_get IG (ro_M LR) rfl 1 (by decide) inR wF_R_14 rfl rfl dc_R_product_7 ?_
  refine vx_iload_n IG dc_R_product_10 rfl 3 rfl ?_
  refine rr_nld IG LR ht3 hb (x := nI (nd 65536 W)) hgb dc_R_product_11 ?_
  refine vx_iadd IG dc_R_product_12 ?_
  refine vx_topi (y := nI ((nd 65536 U) + (nd 65536 W))) (nI_add _ _) ?_
  refine vx_iconst (v := 1) IG dc_R_product_13 (by decide) ?_
  refine vx_iadd IG dc_R_product_14 ?_
  refine vx_topi (y := nI ((nd 65536 U) + (nd 65536 W) + 1)) (nI_add _ _) ?_
  refine vx_topi (y := nI sz) (by rw [esz]) ?_
  refine vx_istore (lv' := [(4, .int (nI sz)), (0, .ref (q 0)), (1, .int (nI d)), (2, .int (nI a)), (3, .int (nI b))]) IG dc_R_product_15 (by decide) rfl ?_
  refine vx_iconst (v := 0) IG dc_R_product_17 (by decide) ?_
  refine vx_istore (lv' := [(5, .int 0), (4, .int (nI sz)), (0, .ref (q 0)), (1, .int (nI d)), (2, .int (nI a)), (3, .int (nI b))]) IG dc_R_product_18 (by decide) rfl ?_
  have outer : ∀ (j i k n : Nat), i + j = nd 65536 U → k = 0 → n = 0 → vx_V D vcl A H0 13 G (rH cI cZ q h0 (pf f (rt d) (dg 65536 (U % 65536 ^ i * W)) sz) g s) k n 49 [(5, .int (nI i)), (4, .int (nI sz)), (0, .ref (q 0)), (1, .int (nI d)), (2, .int (nI a)), (3, .int (nI b))] [] := by
    intro j
    induction j with
    | zero =>
      intro i k n hi hk hn
      subst hk hn
      obtain rfl : i = nd 65536 U := by omega
      rw [Nat.mod_eq_of_lt (lt_nd b16 U)]
      refine vx_iload IG dc_R_product_49 0 rfl ?_
      refine vx_aload_n IG dc_R_product_51 rfl 2 rfl ?_
      refine vx_get IG (ro_M LR) rfl 1 (by decide) inR wF_R_14 rfl rfl dc_R_product_52 ?_
      refine vx_iload_n IG dc_R_product_55 rfl 4 rfl ?_
      refine rr_nld IG LR ht3 ha (x := nI (nd 65536 U)) hga dc_R_product_56 ?_
      refine vx_icmp_ge (tgt := 166) IG dc_R_product_57 (by decide) (fun _ => ?_) (fun c_ => absurd (nI_le (Nat.le_refl _) (by omega)) c_)
      refine vx_aload_n IG dc_R_product_166 rfl 2 rfl ?_
      refine vx_iload_n IG dc_R_product_167 rfl 3 rfl ?_
      refine vx_iload IG dc_R_product_168 1 rfl ?_
      refine vx_callV (As := [.int (nI d), .int (nI sz)]) (st := []) IG lw_good (cR_trim LR ht2 ht3 (N := U * W) (sz := sz) hd (by omega) (fun k hk => pf_in hk) hN) (ro_M LR) rfl wC_R_trim wL_R_28 wI_R_trim wS_R_trim wX_R 2 (by decide +kernel) rfl ⟨Nat.le_of_ble_eq_true rfl, Nat.le_of_ble_eq_true rfl⟩ ⟨(by dsimp only [rm_]; omega), (by dsimp only [rm_]; omega)⟩ rfl (Nat.le_of_ble_eq_true rfl) dc_R_product_170 (fun v h k_ n_ hq => ?_)
      obtain ⟨rfl, rfl, rfl, rfl⟩ := hq
      show vx_V _ _ _ _ _ _ _ _ _ 173 [(5, .int (nI (nd 65536 U))), (4, .int (nI sz)), (0, .ref (q 0)), (1, .int (nI d)), (2, .int (nI a)), (3, .int (nI b))] []
      refine vx_ret none RG (vx_endv dc_R_product_173) rfl ?_
      exact ⟨rfl, rfl, rfl, _, _, rfl, rs_pw (by omega) hN⟩
    | succ j ih =>
      intro i k n hi hk hn
      subst hk hn
      have hxl := dg_lt b16 U i
      refine vx_iload IG dc_R_product_49 0 rfl ?_
      refine vx_aload_n IG dc_R_product_51 rfl 2 rfl ?_
      refine vx_get IG (ro_M LR) rfl 1 (by decide) inR wF_R_14 rfl rfl dc_R_product_52 ?_
      refine vx_iload_n IG dc_R_product_55 rfl 4 rfl ?_
      refine rr_nld IG LR ht3 ha (x := nI (nd 65536 U)) hga dc_R_product_56 ?_
      refine vx_icmp_ge (tgt := 166) IG dc_R_product_57 (by decide) (fun c_ => absurd c_ (fun y => absurd (nI_lt (a := i) (b := nd 65536 U) (by omega) (by omega)) (Int32.not_lt.mpr y))) (fun _ => ?_)
      refine vx_aload_n IG dc_R_product_60 rfl 2 rfl ?_
      refine vx_get IG (ro_M LR) rfl 0 (by decide) inR wF_R_8 rfl rfl dc_R_product_61 ?_
      refine vx_iload_n IG dc_R_product_64 rfl 4 rfl ?_
      refine vx_callS (As := [.int (nI a)]) (st := [.ref (q 1)]) IG lw_good (cR_at _ a ha) wC_R_at wL_R_22 wT_R_at wX_R 1 (by decide +kernel) rfl ⟨Nat.le_of_ble_eq_true rfl, Nat.le_of_ble_eq_true rfl⟩ ⟨(by dsimp only [rm_]; omega), (by dsimp only [rm_]; omega)⟩ rfl (Nat.le_of_ble_eq_true rfl) dc_R_product_65 (fun v h k_ n_ hq => ?_)
      obtain ⟨rfl, rfl, rfl, rfl⟩ := hq
      show vx_V _ _ _ _ _ _ _ _ _ 68 [(5, .int (nI i)), (4, .int (nI sz)), (0, .ref (q 0)), (1, .int (nI d)), (2, .int (nI a)), (3, .int (nI b))] [.int (nI (rt a)), .ref (q 1)]
      refine vx_iload IG dc_R_product_68 0 rfl ?_
      refine vx_iadd IG dc_R_product_70 ?_
      refine vx_topi (y := nI ((rt a) + i)) (nI_add _ _) ?_
      refine rr_mld IG LR ht3 (rt_in ha (by omega)) (x := nI (dg 65536 U i)) (by rw [pf_row (Or.inl n1) ha hd (by omega) (by omega)]; exact hfa i (by omega)) dc_R_product_71 ?_
      refine vx_i2l (v := lN (dg 65536 U i)) IG dc_R_product_72 (nI_l (by omega)) ?_
      refine vx_lstore (lv' := [(6, .long (lN (dg 65536 U i))), (5, .int (nI i)), (4, .int (nI sz)), (0, .ref (q 0)), (1, .int (nI d)), (2, .int (nI a)), (3, .int (nI b))]) IG dc_R_product_73 (by decide) rfl ?_
      obtain ⟨P, eP⟩ : ∃ P, P = U % 65536 ^ i * W := ⟨_, rfl⟩
      obtain ⟨T, eT⟩ : ∃ T, T = P + dg 65536 U i * W * 65536 ^ i := ⟨_, rfl⟩
      have hPT : U % 65536 ^ (i + 1) * W = T := by
        rw [eT, eP, md_split, Nat.add_mul, Nat.mul_assoc, Nat.mul_comm (65536 ^ i)]
      have hPlt : P < 65536 ^ (i + nd 65536 W) := by
        rw [eP, Nat.pow_add]
        exact Nat.mul_lt_mul'' (Nat.mod_lt _ (bp_pos b16 i)) (lt_nd b16 W)
      have hTlt : T < 65536 ^ (i + 1 + nd 65536 W) := by
        rw [← hPT, Nat.pow_add 65536 (i + 1)]
        exact Nat.mul_lt_mul'' (Nat.mod_lt _ (bp_pos b16 (i + 1))) (lt_nd b16 W)
      have hTd : ∀ k, dg 65536 T (i + k) = dg 65536 (P / 65536 ^ i + dg 65536 U i * W) k := by
        intro k
        rw [Nat.add_comm i k, ← dg_down, eT, Nat.add_mul_div_right _ _ (bp_pos b16 i)]
      have hTlo : ∀ j, j < i → dg 65536 T j = dg 65536 P j := fun j hj => by rw [eT, dg_add_hi b16 hj]
      rw [← eP]
      have inner : ∀ (j2 c k n : Nat), c + j2 = nd 65536 W + 1 → k = 0 → n = 0 → vx_V D vcl A H0 13 G (rH cI cZ q h0 (pf f (rt d) (fun m => if m < i + c then dg 65536 T m else dg 65536 P m) sz) g s) k n 81 [(10, .int (nI c)), (8, .long (lN (mu (dg 65536 U i) W (P / 65536 ^ i) c))), (6, .long (lN (dg 65536 U i))), (5, .int (nI i)), (4, .int (nI sz)), (0, .ref (q 0)), (1, .int (nI d)), (2, .int (nI a)), (3, .int (nI b))] [] := by
        intro j2
        induction j2 with
        | zero =>
          intro c k n hc hk hn
          subst hk hn
          obtain rfl : c = nd 65536 W + 1 := by omega
          rw [pf_eq (e' := dg 65536 T) (fun m hm => by
            by_cases z : m < i + (nd 65536 W + 1)
            · exact if_pos z
            · rw [if_neg z, dg_big (Nat.lt_of_lt_of_le hPlt (Nat.pow_le_pow_right (by decide) (by omega))), dg_big (Nat.lt_of_lt_of_le hTlt (Nat.pow_le_pow_right (by decide) (by omega)))])]
          refine vx_iload IG dc_R_product_81 0 rfl ?_
          refine vx_aload_n IG dc_R_product_83 rfl 5 rfl ?_
          refine vx_get IG (ro_M LR) rfl 1 (by decide) inR wF_R_14 rfl rfl dc_R_product_84 ?_
          refine vx_iload_n IG dc_R_product_87 rfl 8 rfl ?_
          refine rr_nld IG LR ht3 hb (x := nI (nd 65536 W)) hgb dc_R_product_88 ?_
          refine vx_icmp_gt (tgt := 160) IG dc_R_product_89 (by decide) (fun _ => ?_) (fun c_ => absurd (nI_lt (by omega) (by omega)) c_)
          refine vx_iinc (q := 3) (v := nI (i + 1)) (lv' := [(5, .int (nI (i + 1))), (10, .int (nI (nd 65536 W + 1))), (8, .long (lN (mu (dg 65536 U i) W (P / 65536 ^ i) (nd 65536 W + 1)))), (6, .long (lN (dg 65536 U i))), (4, .int (nI sz)), (0, .ref (q 0)), (1, .int (nI d)), (2, .int (nI a)), (3, .int (nI b))]) IG dc_R_product_160 rfl (nI_1 i) (by decide) rfl ?_
          refine vx_goto (tgt := 49) IG dc_R_product_163 (by decide) ?_
          refine vx_same (lv' := [(5, .int (nI (i + 1))), (4, .int (nI sz)), (0, .ref (q 0)), (1, .int (nI d)), (2, .int (nI a)), (3, .int (nI b))]) IG [0, 4, 5, 6, 7, 8] rfl ?_
          rw [← hPT]
          exact ih (i + 1) _ _ (by omega) rfl rfl
        | succ j2 ih2 =>
          intro c k n hc hk hn
          subst hk hn
          have l1 := dg_lt b16 W c
          have l2 := dg_lt b16 (P / 65536 ^ i) c
          have l3 := mu_le (x := dg 65536 U i) (B := W) (Q := P / 65536 ^ i) (k := c)
          have l4 : dg 65536 U i * dg 65536 W c ≤ 65535 * 65535 := Nat.mul_le_mul (by omega) (by omega)
          have hPc : dg 65536 P (i + c) = dg 65536 (P / 65536 ^ i) c := by rw [dg_down, Nat.add_comm]
          refine vx_iload IG dc_R_product_81 0 rfl ?_
          refine vx_aload_n IG dc_R_product_83 rfl 5 rfl ?_
          refine vx_get IG (ro_M LR) rfl 1 (by decide) inR wF_R_14 rfl rfl dc_R_product_84 ?_
          refine vx_iload_n IG dc_R_product_87 rfl 8 rfl ?_
          refine rr_nld IG LR ht3 hb (x := nI (nd 65536 W)) hgb dc_R_product_88 ?_
          refine vx_icmp_gt (tgt := 160) IG dc_R_product_89 (by decide) (fun c_ => absurd c_ (fun y => absurd (nI_le (a := c) (b := nd 65536 W) (by omega) (by omega)) (Int32.not_le.mpr y))) (fun _ => ?_)
          refine vx_lload IG dc_R_product_92 2 rfl ?_
          refine vx_aload_n IG dc_R_product_94 rfl 5 rfl ?_
          refine vx_iload_n IG dc_R_product_95 rfl 8 rfl ?_
          refine vx_iload IG dc_R_product_96 0 rfl ?_
          refine vx_callV (As := [.int (nI b), .int (nI c)]) (st := [.long (lN (dg 65536 U i))]) IG lw_good (cR_digit LR ht2 ht3 (N := W) hb (k := c) (by omega) hgb hcb (fun z => by rw [pf_row (Or.inl n2) hb hd (by omega) (by omega)]; exact hfb c z)) (ro_M LR) rfl wC_R_digit wL_R_32 wI_R_digit wS_R_digit wX_R 2 (by decide +kernel) rfl ⟨Nat.le_of_ble_eq_true rfl, Nat.le_of_ble_eq_true rfl⟩ ⟨(by dsimp only [rm_]; omega), (by dsimp only [rm_]; omega)⟩ rfl (Nat.le_of_ble_eq_true rfl) dc_R_product_98 (fun v h k_ n_ hq => ?_)
          obtain ⟨rfl, rfl, rfl, rfl⟩ := hq
          show vx_V _ _ _ _ _ _ _ _ _ 101 [(10, .int (nI c)), (8, .long (lN (mu (dg 65536 U i) W (P / 65536 ^ i) c))), (6, .long (lN (dg 65536 U i))), (5, .int (nI i)), (4, .int (nI sz)), (0, .ref (q 0)), (1, .int (nI d)), (2, .int (nI a)), (3, .int (nI b))] [.int (nI (dg 65536 W c)), .long (lN (dg 65536 U i))]
          refine vx_i2l (v := lN (dg 65536 W c)) IG dc_R_product_101 (nI_l (by omega)) ?_
          refine vx_lmul IG dc_R_product_102 ?_
          refine vx_topl (y := lN ((dg 65536 U i) * (dg 65536 W c))) (lN_mul _ _) ?_
          refine vx_aload_n IG dc_R_product_103 rfl 5 rfl ?_
          refine vx_get IG (ro_M LR) rfl 0 (by decide) inR wF_R_8 rfl rfl dc_R_product_104 ?_
          refine vx_iload_n IG dc_R_product_107 rfl 6 rfl ?_
          refine vx_callS (As := [.int (nI d)]) (st := [.ref (q 1), .long (lN ((dg 65536 U i) * (dg 65536 W c)))]) IG lw_good (cR_at _ d hd) wC_R_at wL_R_22 wT_R_at wX_R 1 (by decide +kernel) rfl ⟨Nat.le_of_ble_eq_true rfl, Nat.le_of_ble_eq_true rfl⟩ ⟨(by dsimp only [rm_]; omega), (by dsimp only [rm_]; omega)⟩ rfl (Nat.le_of_ble_eq_true rfl) dc_R_product_108 (fun v h k_ n_ hq => ?_)
          obtain ⟨rfl, rfl, rfl, rfl⟩ := hq
          show vx_V _ _ _ _ _ _ _ _ _ 111 [(10, .int (nI c)), (8, .long (lN (mu (dg 65536 U i) W (P / 65536 ^ i) c))), (6, .long (lN (dg 65536 U i))), (5, .int (nI i)), (4, .int (nI sz)), (0, .ref (q 0)), (1, .int (nI d)), (2, .int (nI a)), (3, .int (nI b))] [.int (nI (rt d)), .ref (q 1), .long (lN ((dg 65536 U i) * (dg 65536 W c)))]
          refine vx_iload IG dc_R_product_111 3 rfl ?_
          refine vx_iadd IG dc_R_product_113 ?_
          refine vx_topi (y := nI ((rt d) + i)) (nI_add _ _) ?_
          refine vx_iload IG dc_R_product_114 0 rfl ?_
          refine vx_iadd IG dc_R_product_116 ?_
          refine vx_topi (y := nI (((rt d) + i) + c)) (nI_add _ _) ?_
          refine vx_topi (y := nI (rt d + (i + c))) (by rw [Nat.add_assoc]) ?_
          refine rr_mld IG LR ht3 (rt_in hd (by omega)) (x := nI (dg 65536 (P / 65536 ^ i) c)) (by rw [pf_in (show i + c < sz by omega), if_neg (by omega), hPc]) dc_R_product_117 ?_
          refine vx_i2l (v := lN (dg 65536 (P / 65536 ^ i) c)) IG dc_R_product_118 (nI_l (by omega)) ?_
          refine vx_ladd IG dc_R_product_119 ?_
          refine vx_topl (y := lN ((dg 65536 U i) * (dg 65536 W c) + (dg 65536 (P / 65536 ^ i) c))) (lN_add _ _) ?_
          refine vx_lload IG dc_R_product_120 1 rfl ?_
          refine vx_ladd IG dc_R_product_122 ?_
          refine vx_topl (y := lN ((dg 65536 U i) * (dg 65536 W c) + (dg 65536 (P / 65536 ^ i) c) + (mu (dg 65536 U i) W (P / 65536 ^ i) c))) (lN_add _ _) ?_
          refine vx_lstore (lv' := [(11, .long (lN ((dg 65536 U i) * (dg 65536 W c) + (dg 65536 (P / 65536 ^ i) c) + (mu (dg 65536 U i) W (P / 65536 ^ i) c)))), (10, .int (nI c)), (8, .long (lN (mu (dg 65536 U i) W (P / 65536 ^ i) c))), (6, .long (lN (dg 65536 U i))), (5, .int (nI i)), (4, .int (nI sz)), (0, .ref (q 0)), (1, .int (nI d)), (2, .int (nI a)), (3, .int (nI b))]) IG dc_R_product_123 (by decide) rfl ?_
          refine vx_aload_n IG dc_R_product_125 rfl 6 rfl ?_
          refine vx_get IG (ro_M LR) rfl 0 (by decide) inR wF_R_8 rfl rfl dc_R_product_126 ?_
          refine vx_iload_n IG dc_R_product_129 rfl 7 rfl ?_
          refine vx_callS (As := [.int (nI d)]) (st := [.ref (q 1)]) IG lw_good (cR_at _ d hd) wC_R_at wL_R_22 wT_R_at wX_R 1 (by decide +kernel) rfl ⟨Nat.le_of_ble_eq_true rfl, Nat.le_of_ble_eq_true rfl⟩ ⟨(by dsimp only [rm_]; omega), (by dsimp only [rm_]; omega)⟩ rfl (Nat.le_of_ble_eq_true rfl) dc_R_product_130 (fun v h k_ n_ hq => ?_)
          obtain ⟨rfl, rfl, rfl, rfl⟩ := hq
          show vx_V _ _ _ _ _ _ _ _ _ 133 [(11, .long (lN ((dg 65536 U i) * (dg 65536 W c) + (dg 65536 (P / 65536 ^ i) c) + (mu (dg 65536 U i) W (P / 65536 ^ i) c)))), (10, .int (nI c)), (8, .long (lN (mu (dg 65536 U i) W (P / 65536 ^ i) c))), (6, .long (lN (dg 65536 U i))), (5, .int (nI i)), (4, .int (nI sz)), (0, .ref (q 0)), (1, .int (nI d)), (2, .int (nI a)), (3, .int (nI b))] [.int (nI (rt d)), .ref (q 1)]
          refine vx_iload IG dc_R_product_133 4 rfl ?_
          refine vx_iadd IG dc_R_product_135 ?_
          refine vx_topi (y := nI ((rt d) + i)) (nI_add _ _) ?_
          refine vx_iload IG dc_R_product_136 1 rfl ?_
          refine vx_iadd IG dc_R_product_138 ?_
          refine vx_topi (y := nI (((rt d) + i) + c)) (nI_add _ _) ?_
          refine vx_topi (y := nI (rt d + (i + c))) (by rw [Nat.add_assoc]) ?_
          refine vx_lload IG dc_R_product_139 0 rfl ?_
          refine vx_ldc2 (v := 65535) IG wK_R_26 dc_R_product_141 ?_
          refine vx_land IG dc_R_product_144 ?_
          refine vx_l2i (v := nI (dg 65536 T (i + c))) IG dc_R_product_145 (by rw [l_and16 (by omega), mu_d, hTd]) ?_
          refine rr_mst IG LR ht3 (rt_in hd (by omega)) (f' := pf f (rt d) (fun m => if m < i + (c + 1) then dg 65536 T m else dg 65536 P m) sz) (pf_up (by omega) (if_pos (by omega)) (hy_up (by omega))) dc_R_product_146 ?_
          refine vx_lload IG dc_R_product_147 0 rfl ?_
          refine vx_bipush (v := 16) IG dc_R_product_149 (by decide) ?_
          refine vx_lshr (v := lN (mu (dg 65536 U i) W (P / 65536 ^ i) (c + 1))) IG dc_R_product_151 (by rw [l_shr16 (by omega), mu_s]) ?_
          refine vx_lstore (lv' := [(8, .long (lN (mu (dg 65536 U i) W (P / 65536 ^ i) (c + 1)))), (11, .long (lN ((dg 65536 U i) * (dg 65536 W c) + (dg 65536 (P / 65536 ^ i) c) + (mu (dg 65536 U i) W (P / 65536 ^ i) c)))), (10, .int (nI c)), (6, .long (lN (dg 65536 U i))), (5, .int (nI i)), (4, .int (nI sz)), (0, .ref (q 0)), (1, .int (nI d)), (2, .int (nI a)), (3, .int (nI b))]) IG dc_R_product_152 (by decide) rfl ?_
          refine vx_iinc (q := 2) (v := nI (c + 1)) (lv' := [(10, .int (nI (c + 1))), (8, .long (lN (mu (dg 65536 U i) W (P / 65536 ^ i) (c + 1)))), (11, .long (lN ((dg 65536 U i) * (dg 65536 W c) + (dg 65536 (P / 65536 ^ i) c) + (mu (dg 65536 U i) W (P / 65536 ^ i) c)))), (6, .long (lN (dg 65536 U i))), (5, .int (nI i)), (4, .int (nI sz)), (0, .ref (q 0)), (1, .int (nI d)), (2, .int (nI a)), (3, .int (nI b))]) IG dc_R_product_154 rfl (nI_1 c) (by decide) rfl ?_
          refine vx_goto (tgt := 81) IG dc_R_product_157 (by decide) ?_
          refine vx_same (lv' := [(10, .int (nI (c + 1))), (8, .long (lN (mu (dg 65536 U i) W (P / 65536 ^ i) (c + 1)))), (6, .long (lN (dg 65536 U i))), (5, .int (nI i)), (4, .int (nI sz)), (0, .ref (q 0)), (1, .int (nI d)), (2, .int (nI a)), (3, .int (nI b))]) IG [0, 1, 3, 4, 5, 6, 7, 8, 9] rfl ?_
          exact ih2 (c + 1) _ _ (by omega) rfl rfl
      refine vx_lconst (v := 0) IG dc_R_product_75 (by decide) ?_
      refine vx_lstore (lv' := [(8, .long 0), (6, .long (lN (dg 65536 U i))), (5, .int (nI i)), (4, .int (nI sz)), (0, .ref (q 0)), (1, .int (nI d)), (2, .int (nI a)), (3, .int (nI b))]) IG dc_R_product_76 (by decide) rfl ?_
      refine vx_iconst (v := 0) IG dc_R_product_78 (by decide) ?_
      refine vx_istore (lv' := [(10, .int 0), (8, .long 0), (6, .long (lN (dg 65536 U i))), (5, .int (nI i)), (4, .int (nI sz)), (0, .ref (q 0)), (1, .int (nI d)), (2, .int (nI a)), (3, .int (nI b))]) IG dc_R_product_79 (by decide) rfl ?_
      have hl := inner (nd 65536 W + 1) 0 0 0 (by omega) rfl rfl
      rw [mu_0, pf_eq (e' := dg 65536 P) (fun m hm => by
        by_cases z : m < i + 0
        · rw [if_pos z, hTlo m (by omega)]
        · exact if_neg z)] at hl
      exact hl
  have clear : ∀ (j c k n : Nat), c + j = sz → k = 0 → n = 0 → vx_V D vcl A H0 13 G (rH cI cZ q h0 (pf f (rt d) (fun _ => 0) c) g s) k n 20 [(5, .int (nI c)), (4, .int (nI sz)), (0, .ref (q 0)), (1, .int (nI d)), (2, .int (nI a)), (3, .int (nI b))] [] := by
    intro j
    induction j with
    | zero =>
      intro c k n hc hk hn
      subst hk hn
      obtain rfl : c = sz := by omega
      refine vx_iload IG dc_R_product_20 0 rfl ?_
      refine vx_iload IG dc_R_product_22 1 rfl ?_
      refine vx_icmp_ge (tgt := 46) IG dc_R_product_24 (by decide) (fun _ => ?_) (fun c_ => absurd (nI_le (Nat.le_refl _) (by omega)) c_)
      refine vx_iconst (v := 0) IG dc_R_product_46 (by decide) ?_
      refine vx_istore (lv' := [(5, .int 0), (4, .int (nI c)), (0, .ref (q 0)), (1, .int (nI d)), (2, .int (nI a)), (3, .int (nI b))]) IG dc_R_product_47 (by decide) rfl ?_
      have hl := outer (nd 65536 U) 0 0 0 (by omega) rfl rfl
      rw [Nat.pow_zero, Nat.mod_one, Nat.zero_mul, pf_eq (e' := fun _ => 0) (fun m hm => dg_zero _ _)] at hl
      exact hl
    | succ j ih =>
      intro c k n hc hk hn
      subst hk hn
      refine vx_iload IG dc_R_product_20 0 rfl ?_
      refine vx_iload IG dc_R_product_22 1 rfl ?_
      refine vx_icmp_ge (tgt := 46) IG dc_R_product_24 (by decide) (fun c_ => absurd c_ (fun y => absurd (nI_lt (a := c) (b := sz) (by omega) (by omega)) (Int32.not_lt.mpr y))) (fun _ => ?_)
      refine vx_aload_n IG dc_R_product_27 rfl 2 rfl ?_
      refine vx_get IG (ro_M LR) rfl 0 (by decide) inR wF_R_8 rfl rfl dc_R_product_28 ?_
      refine vx_iload_n IG dc_R_product_31 rfl 3 rfl ?_
      refine vx_callS (As := [.int (nI d)]) (st := [.ref (q 1)]) IG lw_good (cR_at _ d hd) wC_R_at wL_R_22 wT_R_at wX_R 1 (by decide +kernel) rfl ⟨Nat.le_of_ble_eq_true rfl, Nat.le_of_ble_eq_true rfl⟩ ⟨(by dsimp only [rm_]; omega), (by dsimp only [rm_]; omega)⟩ rfl (Nat.le_of_ble_eq_true rfl) dc_R_product_32 (fun v h k_ n_ hq => ?_)
      obtain ⟨rfl, rfl, rfl, rfl⟩ := hq
      show vx_V _ _ _ _ _ _ _ _ _ 35 [(5, .int (nI c)), (4, .int (nI sz)), (0, .ref (q 0)), (1, .int (nI d)), (2, .int (nI a)), (3, .int (nI b))] [.int (nI (rt d)), .ref (q 1)]
      refine vx_iload IG dc_R_product_35 0 rfl ?_
      refine vx_iadd IG dc_R_product_37 ?_
      refine vx_topi (y := nI ((rt d) + c)) (nI_add _ _) ?_
      refine vx_iconst (v := 0) IG dc_R_product_38 (by decide) ?_
      refine rr_mst IG LR ht3 (rt_in hd (by omega)) (f' := pf f (rt d) (fun _ => 0) (c + 1)) (pf_s _ _ _ _) dc_R_product_39 ?_
      refine vx_iinc (q := 0) (v := nI (c + 1)) (lv' := [(5, .int (nI (c + 1))), (4, .int (nI sz)), (0, .ref (q 0)), (1, .int (nI d)), (2, .int (nI a)), (3, .int (nI b))]) IG dc_R_product_40 rfl (nI_1 c) (by decide) rfl ?_
      refine vx_goto (tgt := 20) IG dc_R_product_43 (by decide) ?_
      exact ih (c + 1) _ _ (by omega) rfl rfl
  have hl := clear sz 0 0 0 (by omega) rfl rfl
  rw [pf_0] at hl
  exact hl
set_option maxRecDepth 100000 in
set_option maxHeartbeats 8000000 in
theorem cR_lower (LR : rlay q h0) (ht2 : tys[2]? = some (cZ, .boolean)) (ht3 : tys[3]? = some (cI, .int)) (Ha : rv f g a U) (hd : d < 24) (ha : a < 24) (n1 : a ≠ d) (s1 : nd 65536 U ≤ rcap d) (s2 : nd 65536 U ≤ 8192) {n : Nat} (hn : n < 2 ^ 32) : vx_M l D vcl tys my_R_lower lw_gd (rm_ 2 0 0 43) [.ref (q 0), .int (nI d), .int (nI a), .long (lN n)] (rH cI cZ q h0 f g s) (rdone cI cZ q h0 f g s d (U / 2 ^ n)) := by
  refine vx_M.ofV (cc := bc_R_lower) (maxL := 10) (ret := none) (own := rR) false rfl (by decide +kernel) wC_R_lower (fun q => by cases q) (Nat.le_of_ble_eq_true rfl) (fun A H0 G IG RG => ?_)
  show vx_V _ _ _ _ _ _ _ _ _ 0 [(0, .ref (q 0)), (1, .int (nI d)), (2, .int (nI a)), (3, .long (lN n))] []
  obtain ⟨hga, hca, hfa⟩ := Ha
  have c1 := rcap_4 a
  have c3 := rcap_4 d
  have dv : lN n / 16 = lN (n / 16) := pk_lDiv (b := 16) (by omega) (by decide) (by decide)
  have rm : lN n - lN n / 16 * 16 = lN (n % 16) := pk_lRem (b := 16) (by omega) (by decide) (by decide)
  refine vx_aload_n IG dc_R_lower_0 rfl 0 rfl ?_
  refine vx_get IG (ro_M LR) rfl 1 (by decide) inR wF_R_14 rfl rfl dc_R_lower_1 ?_
  refine vx_iload_n IG dc_R_lower_4 rfl 2 rfl ?_
  refine rr_nld IG LR ht3 ha (x := nI (nd 65536 U)) hga dc_R_lower_5 ?_
  refine vx_i2l (v := lZ (nd 65536 U : Nat)) IG dc_R_lower_6 (by rw [lZ_nat]; exact nI_l (by omega)) ?_
  refine vx_lload_n IG dc_R_lower_7 rfl 3 rfl ?_
  refine vx_ldc2 (v := 16) IG wK_R_37 dc_R_lower_8 ?_
  refine vx_ldiv IG dc_R_lower_11 (by decide) ?_
  refine vx_topl (y := lZ (n / 16 : Nat)) (by rw [lZ_nat]; exact dv) ?_
  refine vx_lsub IG dc_R_lower_12 ?_
  refine vx_topl (y := lZ ((nd 65536 U : Int) - (n / 16 : Nat))) (lZ_sub _ _) ?_
  refine vx_lstore (lv' := [(5, .long (lZ ((nd 65536 U : Int) - (n / 16 : Nat)))), (0, .ref (q 0)), (1, .int (nI d)), (2, .int (nI a)), (3, .long (lN n))]) IG dc_R_lower_13 (by decide) rfl ?_
  refine vx_lload_n IG dc_R_lower_15 rfl 4 rfl ?_
  refine vx_ldc2 (v := 16) IG wK_R_37 dc_R_lower_16 ?_
  refine vx_lrem IG dc_R_lower_19 (by decide) ?_
  refine vx_topl (y := lN (n % 16)) rm ?_
  refine vx_l2i (v := nI (n % 16)) IG dc_R_lower_20 (lN_i _) ?_
  refine vx_istore (lv' := [(7, .int (nI (n % 16))), (5, .long (lZ ((nd 65536 U : Int) - (n / 16 : Nat)))), (0, .ref (q 0)), (1, .int (nI d)), (2, .int (nI a)), (3, .long (lN n))]) IG dc_R_lower_21 (by decide) rfl ?_
  refine vx_lload_n IG dc_R_lower_23 rfl 5 rfl ?_
  refine vx_ldc2 (v := 16) IG wK_R_37 dc_R_lower_24 ?_
  refine vx_ldiv IG dc_R_lower_27 (by decide) ?_
  refine vx_topl (y := lN (n / 16)) dv ?_
  refine vx_ldc2 (v := 8192) IG wK_R_39 dc_R_lower_28 ?_
  refine vx_lcmp IG dc_R_lower_31 ?_
  have tail : ∀ (w k m : Nat), (n / 16 < nd 65536 U → w = n / 16) → k = 0 → m = 0 → vx_V D vcl A H0 10 G (rH cI cZ q h0 f g s) k m 46 [(7, .int (nI (n % 16))), (5, .long (lZ ((nd 65536 U : Int) - (n / 16 : Nat)))), (0, .ref (q 0)), (1, .int (nI d)), (2, .int (nI a)), (3, .long (lN n))] [.long (lN w)] := by
    intro w k m hw hk hm
    subst hk hm
    refine vx_l2i (v := nI w) IG dc_R_lower_46 (lN_i _) ?_
    refine vx_istore (lv' := [(8, .int (nI w)), (7, .int (nI (n % 16))), (5, .long (lZ ((nd 65536 U : Int) - (n / 16 : Nat)))), (0, .ref (q 0)), (1, .int (nI d)), (2, .int (nI a)), (3, .long (lN n))]) IG dc_R_lower_47 (by decide) rfl ?_
    refine vx_aload_n IG dc_R_lower_49 rfl 3 rfl ?_
    refine vx_get IG (ro_M LR) rfl 1 (by decide) inR wF_R_14 rfl rfl dc_R_lower_50 ?_
    refine vx_iload_n IG dc_R_lower_53 rfl 4 rfl ?_
    refine vx_iconst (v := 0) IG dc_R_lower_54 (by decide) ?_
    refine rr_nst IG LR ht3 hd (g' := upd g d (nI 0)) rfl dc_R_lower_55 ?_
    refine vx_lload IG dc_R_lower_56 2 rfl ?_
    refine vx_lconst (v := 0) IG dc_R_lower_58 (by decide) ?_
    refine vx_lcmp IG dc_R_lower_59 ?_
    have hga2 : upd g d (nI 0) a = nI (nd 65536 U) := by rw [← hga]; exact if_neg n1
    by_cases z : n / 16 < nd 65536 U
    · have hw := hw z
      subst hw
      obtain ⟨sz, esz⟩ : ∃ sz, sz = nd 65536 U - n / 16 := ⟨_, rfl⟩
      have hN : U / 2 ^ n < 65536 ^ sz := by
        rw [Nat.div_lt_iff_lt_mul (Nat.pow_pos (by decide)), p2_16 n, ← Nat.mul_assoc, ← Nat.pow_add, show sz + n / 16 = nd 65536 U by omega]
        exact Nat.lt_of_lt_of_le (lt_nd b16 U) (Nat.le_mul_of_pos_right _ (Nat.pow_pos (by decide)))
      have e5 : lZ ((nd 65536 U : Int) - (n / 16 : Nat)) = lN sz := by rw [← lZ_nat]; congr 1; omega
      rw [e5]
      refine vx_if_gt (tgt := 64) IG dc_R_lower_60 (by decide) (fun _ => ?_) (fun c_ => absurd ((lg_cmp_gt _ _).mpr ((pk_lLT (a := 0) (by decide) (by omega)).mpr (by omega))) c_)
      refine vx_iconst (v := 0) IG dc_R_lower_64 (by decide) ?_
      refine vx_istore (lv' := [(9, .int 0), (8, .int (nI (n / 16))), (7, .int (nI (n % 16))), (5, .long (lN sz)), (0, .ref (q 0)), (1, .int (nI d)), (2, .int (nI a)), (3, .long (lN n))]) IG dc_R_lower_65 (by decide) rfl ?_
      have loop : ∀ (j c k m : Nat), c + j = sz → k = 0 → m = 0 → vx_V D vcl A H0 10 G (rH cI cZ q h0 (pf f (rt d) (dg 65536 (U / 2 ^ n)) c) (upd g d (nI 0)) s) k m 67 [(9, .int (nI c)), (8, .int (nI (n / 16))), (7, .int (nI (n % 16))), (5, .long (lN sz)), (0, .ref (q 0)), (1, .int (nI d)), (2, .int (nI a)), (3, .long (lN n))] [] := by
        intro j
        induction j with
        | zero =>
          intro c k m hc hk hm
          subst hk hm
          obtain rfl : c = sz := by omega
          refine vx_iload IG dc_R_lower_67 0 rfl ?_
          refine vx_i2l (v := lN c) IG dc_R_lower_69 (nI_l (by omega)) ?_
          refine vx_lload IG dc_R_lower_70 3 rfl ?_
          refine vx_lcmp IG dc_R_lower_72 ?_
          refine vx_if_ge (tgt := 126) IG dc_R_lower_73 (by decide) (fun _ => ?_) (fun c_ => absurd ((lg_cmp_ge _ _).mpr ((pk_lLE (by omega) (by omega)).mpr (Nat.le_refl _))) c_)
          refine vx_aload_n IG dc_R_lower_126 rfl 4 rfl ?_
          refine vx_iload_n IG dc_R_lower_127 rfl 5 rfl ?_
          refine vx_lload IG dc_R_lower_128 3 rfl ?_
          refine vx_l2i (v := nI c) IG dc_R_lower_130 (lN_i _) ?_
          refine vx_callV (As := [.int (nI d), .int (nI c)]) (st := []) IG lw_good (cR_trim LR ht2 ht3 (N := U / 2 ^ n) (sz := c) hd (by omega) (fun k hk => pf_in hk) hN) (ro_M LR) rfl wC_R_trim wL_R_28 wI_R_trim wS_R_trim wX_R 2 (by decide +kernel) rfl ⟨Nat.le_of_ble_eq_true rfl, Nat.le_of_ble_eq_true rfl⟩ ⟨(by dsimp only [rm_]; omega), (by dsimp only [rm_]; omega)⟩ rfl (Nat.le_of_ble_eq_true rfl) dc_R_lower_131 (fun v h k_ n_ hq => ?_)
          obtain ⟨rfl, rfl, rfl, rfl⟩ := hq
          show vx_V _ _ _ _ _ _ _ _ _ 134 [(9, .int (nI c)), (8, .int (nI (n / 16))), (7, .int (nI (n % 16))), (5, .long (lN c)), (0, .ref (q 0)), (1, .int (nI d)), (2, .int (nI a)), (3, .long (lN n))] []
          refine vx_ret none RG (vx_endv dc_R_lower_134) rfl ?_
          refine ⟨rfl, rfl, rfl, _, _, rfl, ?_⟩
          have h := rs_pw (f := f) (g := g) (d := d) (show c ≤ rcap d by omega) hN
          have e : upd (upd g d (nI 0)) d (nI (nd 65536 (U / 2 ^ n))) = upd g d (nI (nd 65536 (U / 2 ^ n))) := by
            funext i
            show (if _ then _ else if _ then _ else _) = if _ then _ else _
            split <;> rfl
          rw [e]
          exact h
        | succ j ih =>
          intro c k m hc hk hm
          subst hk hm
          have l1 := dg_lt b16 U (n / 16 + c)
          have l2 := dg_lt b16 U (n / 16 + c + 1)
          refine vx_iload IG dc_R_lower_67 0 rfl ?_
          refine vx_i2l (v := lN c) IG dc_R_lower_69 (nI_l (by omega)) ?_
          refine vx_lload IG dc_R_lower_70 3 rfl ?_
          refine vx_lcmp IG dc_R_lower_72 ?_
          refine vx_if_ge (tgt := 126) IG dc_R_lower_73 (by decide) (fun c_ => absurd c_ (fun y => absurd ((pk_lLT (a := c) (b := sz) (by omega) (by omega)).mpr (by omega)) (Int64.not_lt.mpr ((lg_cmp_ge _ _).mp y)))) (fun _ => ?_)
          refine vx_aload_n IG dc_R_lower_76 rfl 4 rfl ?_
          refine vx_get IG (ro_M LR) rfl 0 (by decide) inR wF_R_8 rfl rfl dc_R_lower_77 ?_
          refine vx_iload_n IG dc_R_lower_80 rfl 5 rfl ?_
          refine vx_callS (As := [.int (nI d)]) (st := [.ref (q 1)]) IG lw_good (cR_at _ d hd) wC_R_at wL_R_22 wT_R_at wX_R 1 (by decide +kernel) rfl ⟨Nat.le_of_ble_eq_true rfl, Nat.le_of_ble_eq_true rfl⟩ ⟨(by dsimp only [rm_]; omega), (by dsimp only [rm_]; omega)⟩ rfl (Nat.le_of_ble_eq_true rfl) dc_R_lower_81 (fun v h k_ n_ hq => ?_)
          obtain ⟨rfl, rfl, rfl, rfl⟩ := hq
          show vx_V _ _ _ _ _ _ _ _ _ 84 [(9, .int (nI c)), (8, .int (nI (n / 16))), (7, .int (nI (n % 16))), (5, .long (lN sz)), (0, .ref (q 0)), (1, .int (nI d)), (2, .int (nI a)), (3, .long (lN n))] [.int (nI (rt d)), .ref (q 1)]
          refine vx_iload IG dc_R_lower_84 0 rfl ?_
          refine vx_iadd IG dc_R_lower_86 ?_
          refine vx_topi (y := nI ((rt d) + c)) (nI_add _ _) ?_
          refine vx_aload_n IG dc_R_lower_87 rfl 4 rfl ?_
          refine vx_iload_n IG dc_R_lower_88 rfl 6 rfl ?_
          refine vx_iload IG dc_R_lower_89 1 rfl ?_
          refine vx_iload IG dc_R_lower_91 0 rfl ?_
          refine vx_iadd IG dc_R_lower_93 ?_
          refine vx_topi (y := nI ((n / 16) + c)) (nI_add _ _) ?_
          refine vx_callV (As := [.int (nI a), .int (nI ((n / 16) + c))]) (st := [.int (nI ((rt d) + c)), .ref (q 1)]) IG lw_good (cR_digit LR ht2 ht3 (N := U) ha (k := n / 16 + c) (by omega) hga2 hca (fun z => by rw [pf_row (Or.inl n1) ha hd (by omega) (by omega)]; exact hfa _ z)) (ro_M LR) rfl wC_R_digit wL_R_32 wI_R_digit wS_R_digit wX_R 2 (by decide +kernel) rfl ⟨Nat.le_of_ble_eq_true rfl, Nat.le_of_ble_eq_true rfl⟩ ⟨(by dsimp only [rm_]; omega), (by dsimp only [rm_]; omega)⟩ rfl (Nat.le_of_ble_eq_true rfl) dc_R_lower_94 (fun v h k_ n_ hq => ?_)
          obtain ⟨rfl, rfl, rfl, rfl⟩ := hq
          show vx_V _ _ _ _ _ _ _ _ _ 97 [(9, .int (nI c)), (8, .int (nI (n / 16))), (7, .int (nI (n % 16))), (5, .long (lN sz)), (0, .ref (q 0)), (1, .int (nI d)), (2, .int (nI a)), (3, .long (lN n))] [.int (nI (dg 65536 U (n / 16 + c))), .int (nI ((rt d) + c)), .ref (q 1)]
          refine vx_aload_n IG dc_R_lower_97 rfl 4 rfl ?_
          refine vx_iload_n IG dc_R_lower_98 rfl 6 rfl ?_
          refine vx_iload IG dc_R_lower_99 1 rfl ?_
          refine vx_iload IG dc_R_lower_101 0 rfl ?_
          refine vx_iadd IG dc_R_lower_103 ?_
          refine vx_topi (y := nI ((n / 16) + c)) (nI_add _ _) ?_
          refine vx_iconst (v := 1) IG dc_R_lower_104 (by decide) ?_
          refine vx_iadd IG dc_R_lower_105 ?_
          refine vx_topi (y := nI (((n / 16) + c) + 1)) (nI_add _ _) ?_
          refine vx_callV (As := [.int (nI a), .int (nI (((n / 16) + c) + 1))]) (st := [.int (nI (dg 65536 U (n / 16 + c))), .int (nI ((rt d) + c)), .ref (q 1)]) IG lw_good (cR_digit LR ht2 ht3 (N := U) ha (k := n / 16 + c + 1) (by omega) hga2 hca (fun z => by rw [pf_row (Or.inl n1) ha hd (by omega) (by omega)]; exact hfa _ z)) (ro_M LR) rfl wC_R_digit wL_R_32 wI_R_digit wS_R_digit wX_R 2 (by decide +kernel) rfl ⟨Nat.le_of_ble_eq_true rfl, Nat.le_of_ble_eq_true rfl⟩ ⟨(by dsimp only [rm_]; omega), (by dsimp only [rm_]; omega)⟩ rfl (Nat.le_of_ble_eq_true rfl) dc_R_lower_106 (fun v h k_ n_ hq => ?_)
          obtain ⟨rfl, rfl, rfl, rfl⟩ := hq
          show vx_V _ _ _ _ _ _ _ _ _ 109 [(9, .int (nI c)), (8, .int (nI (n / 16))), (7, .int (nI (n % 16))), (5, .long (lN sz)), (0, .ref (q 0)), (1, .int (nI d)), (2, .int (nI a)), (3, .long (lN n))] [.int (nI (dg 65536 U (n / 16 + c + 1))), .int (nI (dg 65536 U (n / 16 + c))), .int (nI ((rt d) + c)), .ref (q 1)]
          refine vx_bipush (v := 16) IG dc_R_lower_109 (by decide) ?_
          refine vx_ishl IG dc_R_lower_111 ?_
          refine vx_topi (y := nI (dg 65536 U (n / 16 + c + 1) * 65536)) (sl16 l2) ?_
          refine vx_ior IG dc_R_lower_112 ?_
          refine vx_topi (y := nI (dg 65536 U (n / 16 + c) + dg 65536 U (n / 16 + c + 1) * 65536)) (i_or l1 l2) ?_
          refine vx_iload IG dc_R_lower_113 2 rfl ?_
          refine vx_iushr (v := nI ((dg 65536 U (n / 16 + c) + dg 65536 U (n / 16 + c + 1) * 65536) / 2 ^ (n % 16))) IG dc_R_lower_115 (iushr_v (by omega) (by omega)) ?_
          refine vx_ldc (v := 65535) IG wK_R_36 dc_R_lower_116 ?_
          refine vx_iand IG dc_R_lower_118 ?_
          refine vx_topi (y := nI (dg 65536 (U / 2 ^ n) c)) (by rw [an16 (by have := Nat.div_le_self (dg 65536 U (n / 16 + c) + dg 65536 U (n / 16 + c + 1) * 65536) (2 ^ (n % 16)); omega), lower_dg]) ?_
          refine rr_mst IG LR ht3 (rt_in hd (by omega)) (f' := pf f (rt d) (dg 65536 (U / 2 ^ n)) (c + 1)) (pf_s _ _ _ _) dc_R_lower_119 ?_
          refine vx_iinc (q := 0) (v := nI (c + 1)) (lv' := [(9, .int (nI (c + 1))), (8, .int (nI (n / 16))), (7, .int (nI (n % 16))), (5, .long (lN sz)), (0, .ref (q 0)), (1, .int (nI d)), (2, .int (nI a)), (3, .long (lN n))]) IG dc_R_lower_120 rfl (nI_1 c) (by decide) rfl ?_
          refine vx_goto (tgt := 67) IG dc_R_lower_123 (by decide) ?_
          exact ih (c + 1) _ _ (by omega) rfl rfl
      have hl := loop sz 0 0 0 (by omega) rfl rfl
      rw [pf_0] at hl
      exact hl
    · have hle : lZ ((nd 65536 U : Int) - (n / 16 : Nat)) ≤ 0 := (lZ_le (b := 0) (by omega) (by omega) (by omega) (by omega)).mpr (by omega)
      refine vx_if_gt (tgt := 64) IG dc_R_lower_60 (by decide) (fun c_ => absurd c_ (fun y => absurd hle (Int64.not_le.mpr ((lg_cmp_gt _ _).mp y)))) (fun _ => ?_)
      refine vx_ret none RG (vx_endv dc_R_lower_63) rfl ?_
      have h0 : U / 2 ^ n = 0 := by
        refine Nat.div_eq_of_lt (Nat.lt_of_lt_of_le (lt_nd b16 U) ?_)
        rw [p2_16 n]
        exact Nat.le_trans (Nat.pow_le_pow_right (by decide) (show nd 65536 U ≤ n / 16 by omega)) (Nat.le_mul_of_pos_right _ (Nat.pow_pos (by decide)))
      refine ⟨rfl, rfl, rfl, f, _, rfl, ?_⟩
      rw [h0]
      exact ⟨fun i _ => rfl, rfl, if_pos rfl, Nat.zero_le _, fun k hk => absurd hk (Nat.not_lt_zero k)⟩
  by_cases z : n / 16 < 8192
  · refine vx_if_ge (tgt := 43) IG dc_R_lower_32 (by decide) (fun c_ => absurd c_ (fun y => absurd ((pk_lLT (b := 8192) (by omega) (by decide)).mpr z) (Int64.not_lt.mpr ((lg_cmp_ge _ _).mp y)))) (fun _ => ?_)
    refine vx_lload_n IG dc_R_lower_35 rfl 5 rfl ?_
    refine vx_ldc2 (v := 16) IG wK_R_37 dc_R_lower_36 ?_
    refine vx_ldiv IG dc_R_lower_39 (by decide) ?_
    refine vx_topl (y := lN (n / 16)) dv ?_
    refine vx_goto (tgt := 46) IG dc_R_lower_40 (by decide) ?_
    exact tail (n / 16) _ _ (fun _ => rfl) rfl rfl
  · refine vx_if_ge (tgt := 43) IG dc_R_lower_32 (by decide) (fun _ => ?_) (fun c_ => absurd ((lg_cmp_ge _ _).mpr ((pk_lLE (a := 8192) (by decide) (by omega)).mpr (by omega))) c_)
    refine vx_ldc2 (v := 8192) IG wK_R_39 dc_R_lower_43 ?_
    exact tail 8192 _ _ (fun y => by omega) rfl rfl
set_option maxRecDepth 100000 in
set_option maxHeartbeats 8000000 in
theorem cR_raise (LR : rlay q h0) (ht2 : tys[2]? = some (cZ, .boolean)) (ht3 : tys[3]? = some (cI, .int)) (Ha : rv f g a U) (hd : d < 24) (ha : a < 24) (n1 : a ≠ d) {n : Nat} (hn : n < 2 ^ 31) (s1 : nd 65536 U + n / 16 < rcap d) : vx_M l D vcl tys my_R_raise lw_gd (rm_ 2 0 0 43) [.ref (q 0), .int (nI d), .int (nI a), .int (nI n)] (rH cI cZ q h0 f g s) (rdone cI cZ q h0 f g s d (U * 2 ^ n)) := by
  refine vx_M.ofV (cc := bc_R_raise) (maxL := 10) (ret := none) (own := rR) false rfl (by decide +kernel) wC_R_raise (fun q => by cases q) (Nat.le_of_ble_eq_true rfl) (fun A H0 G IG RG => ?_)
  show vx_V _ _ _ _ _ _ _ _ _ 0 [(0, .ref (q 0)), (1, .int (nI d)), (2, .int (nI a)), (3, .int (nI n))] []
  obtain ⟨hga, hca, hfa⟩ := Ha
  have c1 := rcap_4 a
  have c3 := rcap_4 d
  obtain ⟨sz, esz⟩ : ∃ sz, sz = nd 65536 U + n / 16 + 1 := ⟨_, rfl⟩
  have hN : U * 2 ^ n < 65536 ^ sz := by
    rw [esz, bp_succ, Nat.pow_add, p2_16 n, ← Nat.mul_assoc]
    have h1 := Nat.mul_lt_mul_of_pos_right (lt_nd b16 U) (bp_pos b16 (n / 16))
    have h2 : 2 ^ (n % 16) ≤ 65536 := Nat.pow_le_pow_right (n := 2) (by decide) (show n % 16 ≤ 16 by omega)
    exact Nat.lt_of_lt_of_le (Nat.mul_lt_mul_of_pos_right h1 (Nat.pow_pos (by decide))) (Nat.mul_le_mul_left _ h2)
  refine vx_iload_n IG dc_R_raise_0 rfl 3 rfl ?_
  refine vx_bipush (v := 16) IG dc_R_raise_1 (by decide) ?_
  refine vx_idiv IG dc_R_raise_3 (by decide) ?_
  refine vx_topi (y := nI (n / 16)) (pk_div (d := 16) hn (by decide) (by decide)) ?_
  refine vx_istore (lv' := [(4, .int (nI (n / 16))), (0, .ref (q 0)), (1, .int (nI d)), (2, .int (nI a)), (3, .int (nI n))]) IG dc_R_raise_4 (by decide) rfl ?_
  refine vx_iload_n IG dc_R_raise_6 rfl 4 rfl ?_
  refine vx_bipush (v := 16) IG dc_R_raise_7 (by decide) ?_
  refine vx_irem IG dc_R_raise_9 (by decide) ?_
  refine vx_topi (y := nI (n % 16)) (pk_rem (d := 16) hn (by decide) (by decide)) ?_
  refine vx_istore (lv' := [(5, .int (nI (n % 16))), (4, .int (nI (n / 16))), (0, .ref (q 0)), (1, .int (nI d)), (2, .int (nI a)), (3, .int (nI n))]) IG dc_R_raise_10 (by decide) rfl ?_
  refine vx_aload_n IG dc_R_raise_12 rfl 2 rfl ?_
  refine vx_get IG (ro_M LR) rfl 1 (by decide) inR wF_R_14 rfl rfl dc_R_raise_13 ?_
  refine vx_iload_n IG dc_R_raise_16 rfl 4 rfl ?_
  refine rr_nld IG LR ht3 ha (x := nI (nd 65536 U)) hga dc_R_raise_17 ?_
  refine vx_iload IG dc_R_raise_18 1 rfl ?_
  refine vx_iadd IG dc_R_raise_20 ?_
  refine vx_topi (y := nI ((nd 65536 U) + (n / 16))) (nI_add _ _) ?_
  refine vx_iconst (v := 1) IG dc_R_raise_21 (by decide) ?_
  refine vx_iadd IG dc_R_raise_22 ?_
  refine vx_topi (y := nI ((nd 65536 U) + (n / 16) + 1)) (nI_add _ _) ?_
  refine vx_topi (y := nI sz) (by rw [esz]) ?_
  refine vx_istore (lv' := [(6, .int (nI sz)), (5, .int (nI (n % 16))), (4, .int (nI (n / 16))), (0, .ref (q 0)), (1, .int (nI d)), (2, .int (nI a)), (3, .int (nI n))]) IG dc_R_raise_23 (by decide) rfl ?_
  refine vx_iload IG dc_R_raise_25 0 rfl ?_
  refine vx_iconst (v := 1) IG dc_R_raise_27 (by decide) ?_
  refine vx_isub IG dc_R_raise_28 ?_
  refine vx_istore (lv' := [(7, .int ((nI sz) - 1)), (6, .int (nI sz)), (5, .int (nI (n % 16))), (4, .int (nI (n / 16))), (0, .ref (q 0)), (1, .int (nI d)), (2, .int (nI a)), (3, .int (nI n))]) IG dc_R_raise_29 (by decide) rfl ?_
  have loop : ∀ (c k m : Nat), c ≤ sz → k = 0 → m = 0 → vx_V D vcl A H0 10 G (rH cI cZ q h0 (pz f (rt d) (dg 65536 (U * 2 ^ n)) c sz) g s) k m 31 [(7, .int (nI c - 1)), (6, .int (nI sz)), (5, .int (nI (n % 16))), (4, .int (nI (n / 16))), (0, .ref (q 0)), (1, .int (nI d)), (2, .int (nI a)), (3, .int (nI n))] [] := by
    intro c
    induction c with
    | zero =>
      intro k m hc hk hm
      subst hk hm
      rw [pz_0]
      refine vx_iload IG dc_R_raise_31 0 rfl ?_
      refine vx_if_lt (tgt := 119) IG dc_R_raise_33 (by decide) (fun _ => ?_) (fun c_ => absurd (by decide) c_)
      refine vx_aload_n IG dc_R_raise_119 rfl 4 rfl ?_
      refine vx_iload_n IG dc_R_raise_120 rfl 5 rfl ?_
      refine vx_iload IG dc_R_raise_121 1 rfl ?_
      refine vx_callV (As := [.int (nI d), .int (nI sz)]) (st := []) IG lw_good (cR_trim LR ht2 ht3 (N := U * 2 ^ n) (sz := sz) hd (by omega) (fun k hk => pf_in hk) hN) (ro_M LR) rfl wC_R_trim wL_R_28 wI_R_trim wS_R_trim wX_R 2 (by decide +kernel) rfl ⟨Nat.le_of_ble_eq_true rfl, Nat.le_of_ble_eq_true rfl⟩ ⟨(by dsimp only [rm_]; omega), (by dsimp only [rm_]; omega)⟩ rfl (Nat.le_of_ble_eq_true rfl) dc_R_raise_123 (fun v h k_ n_ hq => ?_)
      obtain ⟨rfl, rfl, rfl, rfl⟩ := hq
      show vx_V _ _ _ _ _ _ _ _ _ 126 [(7, .int (nI 0 - 1)), (6, .int (nI sz)), (5, .int (nI (n % 16))), (4, .int (nI (n / 16))), (0, .ref (q 0)), (1, .int (nI d)), (2, .int (nI a)), (3, .int (nI n))] []
      refine vx_ret none RG (vx_endv dc_R_raise_126) rfl ?_
      exact ⟨rfl, rfl, rfl, _, _, rfl, rs_pw (by omega) hN⟩
    | succ c ih =>
      intro k m hc hk hm
      subst hk hm
      rw [nI_pred c]
      have last : ∀ (hi lo k m : Nat), hi = (if n / 16 ≤ c then dg 65536 U (c - n / 16) else 0) → lo = (if n / 16 < c then dg 65536 U (c - n / 16 - 1) else 0) → k = 0 → m = 0 → vx_V D vcl A H0 10 G (rH cI cZ q h0 (pz f (rt d) (dg 65536 (U * 2 ^ n)) (c + 1) sz) g s) k m 82 [(8, .int (nI hi)), (7, .int (nI c)), (6, .int (nI sz)), (5, .int (nI (n % 16))), (4, .int (nI (n / 16))), (0, .ref (q 0)), (1, .int (nI d)), (2, .int (nI a)), (3, .int (nI n))] [.int (nI lo)] := by
        intro hi lo k m e1 e2 hk hm
        subst hk hm
        have l1 : hi < 65536 := by rw [e1]; split; exact dg_lt b16 _ _; decide
        have l2 : lo < 65536 := by rw [e2]; split; exact dg_lt b16 _ _; decide
        have hr := raise_dg (A := U) (n := n) (k := c)
        rw [← e1, ← e2] at hr
        have l3 := Nat.mod_lt ((hi * 65536 + lo) * 2 ^ (n % 16)) (show 0 < 4294967296 by decide)
        refine vx_istore (lv' := [(9, .int (nI lo)), (8, .int (nI hi)), (7, .int (nI c)), (6, .int (nI sz)), (5, .int (nI (n % 16))), (4, .int (nI (n / 16))), (0, .ref (q 0)), (1, .int (nI d)), (2, .int (nI a)), (3, .int (nI n))]) IG dc_R_raise_82 (by decide) rfl ?_
        refine vx_aload_n IG dc_R_raise_84 rfl 6 rfl ?_
        refine vx_get IG (ro_M LR) rfl 0 (by decide) inR wF_R_8 rfl rfl dc_R_raise_85 ?_
        refine vx_iload_n IG dc_R_raise_88 rfl 7 rfl ?_
        refine vx_callS (As := [.int (nI d)]) (st := [.ref (q 1)]) IG lw_good (cR_at _ d hd) wC_R_at wL_R_22 wT_R_at wX_R 1 (by decide +kernel) rfl ⟨Nat.le_of_ble_eq_true rfl, Nat.le_of_ble_eq_true rfl⟩ ⟨(by dsimp only [rm_]; omega), (by dsimp only [rm_]; omega)⟩ rfl (Nat.le_of_ble_eq_true rfl) dc_R_raise_89 (fun v h k_ n_ hq => ?_)
        obtain ⟨rfl, rfl, rfl, rfl⟩ := hq
        show vx_V _ _ _ _ _ _ _ _ _ 92 [(9, .int (nI lo)), (8, .int (nI hi)), (7, .int (nI c)), (6, .int (nI sz)), (5, .int (nI (n % 16))), (4, .int (nI (n / 16))), (0, .ref (q 0)), (1, .int (nI d)), (2, .int (nI a)), (3, .int (nI n))] [.int (nI (rt d)), .ref (q 1)]
        refine vx_iload IG dc_R_raise_92 2 rfl ?_
        refine vx_iadd IG dc_R_raise_94 ?_
        refine vx_topi (y := nI ((rt d) + c)) (nI_add _ _) ?_
        refine vx_iload IG dc_R_raise_95 1 rfl ?_
        refine vx_bipush (v := 16) IG dc_R_raise_97 (by decide) ?_
        refine vx_ishl IG dc_R_raise_99 ?_
        refine vx_topi (y := nI (hi * 65536)) (sl16 l1) ?_
        refine vx_iload IG dc_R_raise_100 0 rfl ?_
        refine vx_ior IG dc_R_raise_102 ?_
        refine vx_topi (y := nI (hi * 65536 + lo)) (i_or' l2 l1) ?_
        refine vx_iload IG dc_R_raise_103 4 rfl ?_
        refine vx_ishl IG dc_R_raise_105 ?_
        refine vx_topi (y := nI ((hi * 65536 + lo) * 2 ^ (n % 16) % 4294967296)) (i_shl (by omega) (by omega)) ?_
        refine vx_bipush (v := 16) IG dc_R_raise_106 (by decide) ?_
        refine vx_iushr (v := nI ((hi * 65536 + lo) * 2 ^ (n % 16) % 4294967296 / 65536)) IG dc_R_raise_108 (pk_ushrN (by omega) 16 16 (by decide)) ?_
        refine vx_ldc (v := 65535) IG wK_R_36 dc_R_raise_109 ?_
        refine vx_iand IG dc_R_raise_111 ?_
        refine vx_topi (y := nI (dg 65536 (U * 2 ^ n) c)) (by rw [an16 (by omega), hr]) ?_
        refine rr_mst IG LR ht3 (rt_in hd (by omega)) (f' := pz f (rt d) (dg 65536 (U * 2 ^ n)) c sz) (pz_s _ _ _ (by omega)) dc_R_raise_112 ?_
        refine vx_iinc (q := 2) (v := nI c - 1) (lv' := [(7, .int (nI c - 1)), (9, .int (nI lo)), (8, .int (nI hi)), (6, .int (nI sz)), (5, .int (nI (n % 16))), (4, .int (nI (n / 16))), (0, .ref (q 0)), (1, .int (nI d)), (2, .int (nI a)), (3, .int (nI n))]) IG dc_R_raise_113 rfl (i32_dec _) (by decide) rfl ?_
        refine vx_goto (tgt := 31) IG dc_R_raise_116 (by decide) ?_
        refine vx_same (lv' := [(7, .int (nI c - 1)), (6, .int (nI sz)), (5, .int (nI (n % 16))), (4, .int (nI (n / 16))), (0, .ref (q 0)), (1, .int (nI d)), (2, .int (nI a)), (3, .int (nI n))]) IG [0, 3, 4, 5, 6, 7, 8, 9] rfl ?_
        exact ih _ _ (by omega) rfl rfl
      have mid : ∀ (hi k m : Nat), hi = (if n / 16 ≤ c then dg 65536 U (c - n / 16) else 0) → k = 0 → m = 0 → vx_V D vcl A H0 10 G (rH cI cZ q h0 (pz f (rt d) (dg 65536 (U * 2 ^ n)) (c + 1) sz) g s) k m 57 [(7, .int (nI c)), (6, .int (nI sz)), (5, .int (nI (n % 16))), (4, .int (nI (n / 16))), (0, .ref (q 0)), (1, .int (nI d)), (2, .int (nI a)), (3, .int (nI n))] [.int (nI hi)] := by
        intro hi k m e1 hk hm
        subst hk hm
        refine vx_istore (lv' := [(8, .int (nI hi)), (7, .int (nI c)), (6, .int (nI sz)), (5, .int (nI (n % 16))), (4, .int (nI (n / 16))), (0, .ref (q 0)), (1, .int (nI d)), (2, .int (nI a)), (3, .int (nI n))]) IG dc_R_raise_57 (by decide) rfl ?_
        refine vx_iload IG dc_R_raise_59 1 rfl ?_
        refine vx_iload IG dc_R_raise_61 4 rfl ?_
        by_cases z : n / 16 < c
        · refine vx_icmp_le (tgt := 81) IG dc_R_raise_63 (by decide) (fun c_ => absurd c_ (fun y => absurd (nI_lt (a := n / 16) (b := c) z (by omega)) (Int32.not_lt.mpr y))) (fun _ => ?_)
          refine vx_aload_n IG dc_R_raise_66 rfl 5 rfl ?_
          refine vx_iload_n IG dc_R_raise_67 rfl 7 rfl ?_
          refine vx_iload IG dc_R_raise_68 1 rfl ?_
          refine vx_iload IG dc_R_raise_70 4 rfl ?_
          refine vx_isub IG dc_R_raise_72 ?_
          refine vx_topi (y := nI (c - n / 16)) (pk_sub (by omega)) ?_
          refine vx_iconst (v := 1) IG dc_R_raise_73 (by decide) ?_
          refine vx_isub IG dc_R_raise_74 ?_
          refine vx_topi (y := nI (c - n / 16 - 1)) (nI_pred2 (by omega)) ?_
          refine vx_callV (As := [.int (nI a), .int (nI (c - n / 16 - 1))]) (st := []) IG lw_good (cR_digit LR ht2 ht3 (N := U) ha (k := c - n / 16 - 1) (by omega) hga hca (fun z => by rw [pz_row n1 ha hd (by omega) (by omega)]; exact hfa _ z)) (ro_M LR) rfl wC_R_digit wL_R_32 wI_R_digit wS_R_digit wX_R 2 (by decide +kernel) rfl ⟨Nat.le_of_ble_eq_true rfl, Nat.le_of_ble_eq_true rfl⟩ ⟨(by dsimp only [rm_]; omega), (by dsimp only [rm_]; omega)⟩ rfl (Nat.le_of_ble_eq_true rfl) dc_R_raise_75 (fun v h k_ n_ hq => ?_)
          obtain ⟨rfl, rfl, rfl, rfl⟩ := hq
          show vx_V _ _ _ _ _ _ _ _ _ 78 [(8, .int (nI hi)), (7, .int (nI c)), (6, .int (nI sz)), (5, .int (nI (n % 16))), (4, .int (nI (n / 16))), (0, .ref (q 0)), (1, .int (nI d)), (2, .int (nI a)), (3, .int (nI n))] [.int (nI (dg 65536 U (c - n / 16 - 1)))]
          refine vx_goto (tgt := 82) IG dc_R_raise_78 (by decide) ?_
          exact last hi _ _ _ e1 (by rw [if_pos z]) rfl rfl
        · refine vx_icmp_le (tgt := 81) IG dc_R_raise_63 (by decide) (fun _ => ?_) (fun c_ => absurd (nI_le (by omega) (by omega)) c_)
          refine vx_iconst (v := 0) IG dc_R_raise_81 (by decide) ?_
          exact last hi 0 _ _ e1 (by rw [if_neg z]) rfl rfl
      refine vx_iload IG dc_R_raise_31 0 rfl ?_
      refine vx_if_lt (tgt := 119) IG dc_R_raise_33 (by decide) (fun c_ => absurd c_ (nI_pos (by omega))) (fun _ => ?_)
      refine vx_iload IG dc_R_raise_36 0 rfl ?_
      refine vx_iload IG dc_R_raise_38 3 rfl ?_
      by_cases z : n / 16 ≤ c
      · refine vx_icmp_lt (tgt := 56) IG dc_R_raise_40 (by decide) (fun c_ => absurd c_ (fun y => absurd (nI_le (a := n / 16) (b := c) z (by omega)) (Int32.not_le.mpr y))) (fun _ => ?_)
        refine vx_aload_n IG dc_R_raise_43 rfl 4 rfl ?_
        refine vx_iload_n IG dc_R_raise_44 rfl 6 rfl ?_
        refine vx_iload IG dc_R_raise_45 0 rfl ?_
        refine vx_iload IG dc_R_raise_47 3 rfl ?_
        refine vx_isub IG dc_R_raise_49 ?_
        refine vx_topi (y := nI (c - n / 16)) (pk_sub (by omega)) ?_
        refine vx_callV (As := [.int (nI a), .int (nI (c - n / 16))]) (st := []) IG lw_good (cR_digit LR ht2 ht3 (N := U) ha (k := c - n / 16) (by omega) hga hca (fun z => by rw [pz_row n1 ha hd (by omega) (by omega)]; exact hfa _ z)) (ro_M LR) rfl wC_R_digit wL_R_32 wI_R_digit wS_R_digit wX_R 2 (by decide +kernel) rfl ⟨Nat.le_of_ble_eq_true rfl, Nat.le_of_ble_eq_true rfl⟩ ⟨(by dsimp only [rm_]; omega), (by dsimp only [rm_]; omega)⟩ rfl (Nat.le_of_ble_eq_true rfl) dc_R_raise_50 (fun v h k_ n_ hq => ?_)
        obtain ⟨rfl, rfl, rfl, rfl⟩ := hq
        show vx_V _ _ _ _ _ _ _ _ _ 53 [(7, .int (nI c)), (6, .int (nI sz)), (5, .int (nI (n % 16))), (4, .int (nI (n / 16))), (0, .ref (q 0)), (1, .int (nI d)), (2, .int (nI a)), (3, .int (nI n))] [.int (nI (dg 65536 U (c - n / 16)))]
        refine vx_goto (tgt := 57) IG dc_R_raise_53 (by decide) ?_
        exact mid _ _ _ (by rw [if_pos z]) rfl rfl
      · refine vx_icmp_lt (tgt := 56) IG dc_R_raise_40 (by decide) (fun _ => ?_) (fun c_ => absurd (nI_lt (by omega) (by omega)) c_)
        refine vx_iconst (v := 0) IG dc_R_raise_56 (by decide) ?_
        exact mid 0 _ _ (by rw [if_neg z]) rfl rfl
  have hl := loop sz 0 0 (Nat.le_refl _) rfl rfl
  rw [pz_top] at hl
  exact hl
end
