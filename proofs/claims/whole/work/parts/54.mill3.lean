/-! the mill: common, spread, shift, divide -/
section
variable {l : Launch} {D : va_G} {tys : List (ClassId × FieldType)} {cJ cQ cZ : ClassId} {ad : Nat → Nat} {r0 h : vx_h} {W : Nat → Nat} {X : Nat → Int} {C S : Nat} {a b d s : Nat} {w : Int32}
theorem mwE_mw {e : Int32} {x1 x2 x3 x4 : Int} (HE : mwE cJ cZ ad r0 W X e x1 x2 x3 x4 h C S) : mw cJ cZ ad r0 W X h C S := ⟨e, x1, x2, x3, x4, HE⟩
theorem mo_E {e : Int32} {x1 x2 x3 x4 : Int} (HE : mwE cJ cZ ad r0 W X e x1 x2 x3 x4 h C S) : h (ad 34) = some (eOb (ad 22) (ad 23) (ad 24) (ad 25) (ad 26) (ad 35) e x1 x2 x3 x4) := by
  obtain ⟨⟨V, HP, hV⟩, hW⟩ := HE
  exact pool_r HP vx_up_s
theorem mo_E' (HM : mw cJ cZ ad r0 W X h C S) : ∃ e, h (ad 34) = some (.inr (1, e)) := by
  obtain ⟨e, x1, x2, x3, x4, HE⟩ := HM
  exact ⟨_, mo_E HE⟩
/-- Euclid.run on the mill's own -/
theorem mE_run (LY : lay cQ ad r0) (HM : mw cJ cZ ad r0 W X h C S) (i j : Nat) (hi : i < 22) (hj : j < 22) (ht : tys[0]? = some (cJ, .long)) (s1 : nd 4294967296 (W i) ≤ 2049) (s2 : nd 4294967296 (W j) ≤ 2049) (hw : w = 0 ∨ w = 1) (ho : w = 1 → W j ≤ W i) : vx_M l D vcl tys my_E_run lw_gd (rm_ 6 C S 132) [.ref (ad 34), .ref (ad i), .ref (ad j), .int w] h (fun v h' k m => v = none ∧ ∃ (W' : Nat → Nat) (C' S' jj : Nat) (x1 x2 x3 x4 : Int), mwE cJ cZ ad r0 W' X (bj jj) x1 x2 x3 x4 h' C' S' ∧ W' 22 = Nat.gcd (W i) (W j) ∧ (w = 1 → FI (W i) (W j) (sg jj 1) (Nat.gcd (W i) (W j)) 0 (W' 23) (W' 25) ∧ (W j = 0 → W' 23 = 0)) ∧ (∀ q, q < 22 → W' q = W q) ∧ k + C' ≤ C ∧ m + S' ≤ S) := by
  obtain ⟨b', x1, x2, x3, x4, ⟨V, HP, hV⟩, hW⟩ := HM
  have ne : ∀ a b, a < 36 → b < 36 → a ≠ b → ad a ≠ ad b := fun a b h1 h2 h3 => inj_ne LY.1 h1 h2 h3
  have hdv : (vx_up r0 (ad 32) (.inl (cZ, 16, .inl (fun i => sgI (X i))))) (ad 35) = some (.inr (0, [.ref (ad 27), .ref (ad 28), .ref (ad 29)])) := by
    rw [vx_up_n (ne _ _ (by decide) (by decide) (by decide))]
    exact LY.2.2.2.2
  have hm : ∀ q ∈ [ad 22, ad 23, ad 24, ad 25, ad 26, ad 27, ad 28, ad 29], q ∈ pl ad := by
    intro q hq
    simp only [List.mem_cons, List.not_mem_nil, or_false] at hq
    rcases hq with rfl | rfl | rfl | rfl | rfl | rfl | rfl | rfl <;> exact pl_mem (by decide)
  have hN : [ad 22, ad 23, ad 24, ad 25, ad 26, ad 27, ad 28, ad 29].Nodup := nodup_map [22, 23, 24, 25, 26, 27, 28, 29] (by decide) (fun i h1 j h2 e => by
    simp only [List.mem_cons, List.not_mem_nil, or_false] at h1 h2
    exact LY.1 i j (by omega) (by omega) e)
  have nin : ∀ q, q < 22 → ad q ∉ [ad 22, ad 23, ad 24, ad 25, ad 26, ad 27, ad 28, ad 29] := by
    intro q hq
    simp only [List.mem_cons, List.not_mem_nil, or_false, not_or]
    exact ⟨ne _ _ (by omega) (by decide) (by omega), ne _ _ (by omega) (by decide) (by omega), ne _ _ (by omega) (by decide) (by omega), ne _ _ (by omega) (by decide) (by omega), ne _ _ (by omega) (by decide) (by omega), ne _ _ (by omega) (by decide) (by omega), ne _ _ (by omega) (by decide) (by omega), ne _ _ (by omega) (by decide) (by omega)⟩
  have hi3 : i < 30 := by omega
  have hj3 : j < 30 := by omega
  rw [← hV i hi3] at s1 ho ⊢
  rw [← hV j hj3] at s2 ho ⊢
  refine vx_M.post (cE_run HP (pl_nodup LY.1) hdv (ne _ _ (by decide) (by decide) (by decide)) hm hN ht (pl_mem hi3) (pl_mem hj3) (nin i hi) (nin j hj) s1 s2 hw ho) (fun v h' k m hq => ?_)
  obtain ⟨e, V', C', S', jj, y1, y2, y3, y4, HP', g1, g2, g3, hk, hn⟩ := hq
  refine ⟨e, fun q => V' (ad q), C', S', jj, y1, y2, y3, y4, ⟨⟨V', HP', fun q _ => rfl⟩, fun q hq => ?_⟩, g1, g2, fun q hq => ?_, hk, hn⟩
  · show V' (ad q) = _ ∧ lim (V' (ad q))
    rw [g3 _ (nin q (by omega)), hV q (by omega)]
    exact hW q hq
  · show V' (ad q) = W q
    rw [g3 _ (nin q hq), hV q (by omega)]
theorem gcd_lim {A B : Nat} (hA : lim A) (hB : lim B) : lim (Nat.gcd A B) := by
  rcases Nat.eq_zero_or_pos A with z | z
  · rw [z, Nat.gcd_zero_left]; exact hB
  · exact lim_mono (Nat.gcd_le_left B z) hA
theorem i32_pos {x : Int32} (h : 0 ≤ x.toInt) : ∃ m : Nat, m < 2 ^ 31 ∧ x = nI m := by
  have h31 := Int32.toInt_lt x
  refine ⟨x.toInt.toNat, by omega, ?_⟩
  have e : x = Int32.ofInt x.toInt := (Int32.ofInt_toInt x).symm
  rw [e]
  show _ = Int32.ofNat _
  rw [← Int32.ofInt_eq_ofNat]
  congr 1
  rw [← e]
  omega
theorem i32_neg {x : Int32} (h : x.toInt ≤ 0) : -x = nI (-x.toInt).toNat := by
  have e : -x = Int32.ofInt (-x.toInt) := by rw [Int32.ofInt_neg, Int32.ofInt_toInt]
  rw [e]
  show _ = Int32.ofNat _
  rw [← Int32.ofInt_eq_ofNat]
  congr 1
  omega
theorem bl_shl {A n : Nat} (hA : 0 < A) : bl (A * 2 ^ n) = bl A + n := by
  obtain ⟨m, em⟩ : ∃ m, bl A = m + 1 := ⟨bl A - 1, by have := bl_pos hA; omega⟩
  have h1 : 2 ^ m ≤ A := bl_lt.mp (by omega)
  have h2 : A < 2 ^ (m + 1) := by rw [← em]; exact lt_bl A
  rw [em, show m + 1 + n = m + n + 1 by omega]
  refine bl_eq ?_ ?_
  · rw [Nat.pow_add]; exact Nat.mul_le_mul_right _ h1
  · rw [show m + n + 1 = m + 1 + n by omega, Nat.pow_add]; exact Nat.mul_lt_mul_of_pos_right h2 (Nat.pow_pos (by decide))
theorem kz_shl (x : Int) (n : Nat) : kz (sgI x) (x.natAbs * 2 ^ n) = x * 2 ^ n := by
  have h := kz_sg x
  have e : ((x.natAbs * 2 ^ n : Nat) : Int) = (x.natAbs : Int) * 2 ^ n := by rw [Int.natCast_mul, Int.natCast_pow]; rfl
  by_cases q : x < 0
  · rw [sgI_neg q, kz_1, e, show (x.natAbs : Int) = -x by omega, Int.neg_mul, Int.neg_neg]
  · rw [sgI_pos q, kz_0, e, show (x.natAbs : Int) = x by omega]
theorem nat_floor {N P : Nat} (hP : 0 < P) : -(N : Int) / (P : Int) = -((N / P + (if N % P = 0 then 0 else 1) : Nat) : Int) := by
  have h1 := Nat.div_add_mod N P
  have h2 := Nat.mod_lt N hP
  have h3 : (N : Int) = (P : Int) * ((N / P : Nat) : Int) + ((N % P : Nat) : Int) := by rw [← Int.natCast_mul, ← Int.natCast_add, h1]
  by_cases z : N % P = 0
  · rw [if_pos z, Nat.add_zero, h3, z]
    rw [Int.natCast_zero, Int.add_zero, ← Int.mul_neg, Int.mul_ediv_cancel_left _ (by omega)]
  · rw [if_neg z, h3]
    generalize N / P = q
    generalize N % P = m at *
    have : -((P : Int) * (q : Int) + (m : Int)) = ((P : Int) - m) + (P : Int) * (-((q + 1 : Nat) : Int)) := by
      rw [Int.natCast_add, Int.mul_neg, Int.mul_add]
      show _ = _ + -(_ + (P : Int) * 1)
      omega
    rw [this, Int.add_mul_ediv_left _ _ (by omega), Int.ediv_eq_zero_of_lt (by omega) (by omega), Int.zero_add]
theorem kz_shr (x : Int) (n : Nat) : kz (sgI x) (x.natAbs / 2 ^ n + (if x < 0 ∧ ¬ x.natAbs % 2 ^ n = 0 then 1 else 0)) = x / 2 ^ n := by
  have e : (2 : Int) ^ n = ((2 ^ n : Nat) : Int) := by rw [Int.natCast_pow]; rfl
  by_cases q : x < 0
  · rw [sgI_neg q, kz_1, e]
    have h := nat_floor (N := x.natAbs) (P := 2 ^ n) (Nat.pow_pos (by decide))
    rw [show -(x.natAbs : Int) = x by omega] at h
    rw [h]
    by_cases z : x.natAbs % 2 ^ n = 0
    · rw [if_pos z, if_neg (fun y => y.2 z)]
    · rw [if_neg z, if_pos ⟨q, z⟩]
  · rw [sgI_pos q, kz_0, e, if_neg (fun y => q y.1), Nat.add_zero, Int.natCast_ediv, show (x.natAbs : Int) = x by omega]
theorem low_cut {N t n : Nat} (h1 : N % 2 ^ t = 0) (h2 : N / 2 ^ t % 2 = 1) : (t < n ↔ ¬ N % 2 ^ n = 0) := by
  constructor
  · intro h q
    have : N / 2 ^ t % 2 = 0 := by
      have h3 : N = 2 ^ n * (N / 2 ^ n) := by have := Nat.div_add_mod N (2 ^ n); omega
      rw [h3, show n = t + ((n - t - 1) + 1) by omega, Nat.pow_add, Nat.mul_assoc, Nat.mul_div_cancel_left _ (Nat.pow_pos (by decide)), Nat.pow_succ]
      rw [Nat.mul_comm (2 ^ (n - t - 1)) 2, Nat.mul_assoc, Nat.mul_mod_right]
    omega
  · intro h
    rcases Nat.lt_or_ge t n with q | q
    · exact q
    · exfalso
      apply h
      have h3 : N = 2 ^ t * (N / 2 ^ t) := by have := Nat.div_add_mod N (2 ^ t); omega
      rw [h3, show t = n + (t - n) by omega, Nat.pow_add, Nat.mul_assoc, Nat.mul_mod_right]
theorem shr_all {x : Int} {k : Nat} (hx : lim x.natAbs) (hk : 65536 ≤ k) : x / 2 ^ k = x / 2 ^ 65536 := by
  have hx2 : x.natAbs < 2 ^ 65536 := hx
  have hk2 : x.natAbs < 2 ^ k := Nat.lt_of_lt_of_le hx2 (Nat.pow_le_pow_right (by decide) hk)
  rw [← kz_shr, ← kz_shr, Nat.div_eq_of_lt hx2, Nat.div_eq_of_lt hk2, Nat.mod_eq_of_lt hx2, Nat.mod_eq_of_lt hk2]
/-- a shift by n -/
def shZ (x : Int) (n : Int32) : Int := if 0 ≤ n.toInt then x * 2 ^ n.toInt.toNat else x / 2 ^ (-n.toInt).toNat
set_option maxRecDepth 100000 in
set_option maxHeartbeats 4000000 in
theorem cM_shiftUp (LY : lay cQ ad r0) (HM : mw cJ cZ ad r0 W X h C S) (hd : d < 16) (ha : a < 16) {n : Nat} (hn : n < 2 ^ 31) (ht : tys[0]? = some (cJ, .long)) (ht1 : tys[1]? = some (cQ, .object "SignedMill$Whole")) (ht2 : tys[2]? = some (cZ, .boolean)) : vx_M l D vcl tys my_M_shiftUp lw_gd (rm_ 6 C S 131) [.ref (ad 30), .int (nI d), .int (nI a), .int (nI n)] h (mpub cJ cZ ad r0 (kp X d (X a * 2 ^ n)).2 C S (kp X d (X a * 2 ^ n)).1) := by
  have hWa := mw_W HM ha
  have hna := lim_nd.mp hWa.2
  have hba := lim_bl.mp hWa.2
  refine vx_M.ofV (cc := bc_M_shiftUp) (maxL := 4) (ret := some .boolean) (own := rM) false rfl (by decide +kernel) wC_M_shiftUp (fun q => by cases q) (Nat.le_of_ble_eq_true rfl) (fun A H0 G IG RG => ?_)
  show vx_V _ _ _ _ _ _ _ _ _ 0 [(0, .ref (ad 30)), (1, .int (nI d)), (2, .int (nI a)), (3, .int (nI n))] []
  refine vx_aload_n IG dc_M_shiftUp_0 rfl 0 rfl ?_
  refine vx_get IG (mo_M LY HM) rfl 0 (by decide) inM wF_M_11 rfl rfl dc_M_shiftUp_1 ?_
  refine vx_iload_n IG dc_M_shiftUp_4 rfl 2 rfl ?_
  refine mr_aal IG LY HM ha ht1 dc_M_shiftUp_5 ?_
  refine vx_callV (As := []) (st := []) IG lw_good (mW_isZero HM a (by omega)) ((mo_W HM (show a < 30 by omega)).choose_spec) rfl wC_W_isZero wL_M_89 wI_W_isZero wS_W_isZero wX_W 0 (by decide +kernel) rfl ⟨Nat.le_of_ble_eq_true rfl, Nat.le_of_ble_eq_true rfl⟩ ⟨(by dsimp only [rm_]; omega), (by dsimp only [rm_]; omega)⟩ rfl (Nat.le_of_ble_eq_true rfl) dc_M_shiftUp_6 (fun v h k1 n1 hq => ?_)
  obtain ⟨rfl, rfl, rfl, rfl⟩ := hq
  show vx_V _ _ _ _ _ _ _ _ _ 9 [(0, .ref (ad 30)), (1, .int (nI d)), (2, .int (nI a)), (3, .int (nI n))] [.int (if W a = 0 then 1 else 0)]
  by_cases y : W a = 0
  · refine vx_topi (y := 1) (if_pos y) ?_
    refine vx_if_eq (tgt := 26) IG dc_M_shiftUp_9 (by decide) (fun c_ => absurd c_ (by decide)) (fun _ => ?_)
    refine vx_aload_n IG dc_M_shiftUp_12 rfl 0 rfl ?_
    refine vx_get IG (mo_M LY HM) rfl 2 (by decide) inM wF_M_20 rfl rfl dc_M_shiftUp_13 ?_
    refine vx_callV (As := []) (st := []) IG lw_good (mW_clear LY HM 16 (by decide) (by decide)) ((mo_W HM (show 16 < 30 by decide)).choose_spec) rfl wC_W_clear wL_M_201 wI_W_clear wS_W_clear wX_W 0 (by decide +kernel) rfl ⟨Nat.le_of_ble_eq_true rfl, Nat.le_of_ble_eq_true rfl⟩ ⟨(by dsimp only [rm_]; omega), (by dsimp only [rm_]; omega)⟩ rfl (Nat.le_of_ble_eq_true rfl) dc_M_shiftUp_16 (fun v h k2 n2 hq => ?_)
    obtain ⟨rfl, C1, S1, HM, hk1, hm1⟩ := hq
    show vx_V _ _ _ _ _ _ _ _ _ 19 [(0, .ref (ad 30)), (1, .int (nI d)), (2, .int (nI a)), (3, .int (nI n))] []
    refine vx_aload_n IG dc_M_shiftUp_19 rfl 0 rfl ?_
    refine vx_iload_n IG dc_M_shiftUp_20 rfl 1 rfl ?_
    refine vx_iconst (v := 0) IG dc_M_shiftUp_21 (by decide) ?_
    refine vx_callV (As := [.int (nI d), .int 0]) (st := []) IG lw_good (cM_keep LY HM hd (Or.inl rfl) ht ht1 ht2) (mo_M LY HM) rfl wC_M_keep wL_M_52 wI_M_keep wS_M_keep wX_M 2 (by decide +kernel) rfl ⟨Nat.le_of_ble_eq_true rfl, Nat.le_of_ble_eq_true rfl⟩ ⟨(by dsimp only [rm_]; omega), (by dsimp only [rm_]; omega)⟩ rfl (Nat.le_of_ble_eq_true rfl) dc_M_shiftUp_22 (fun v h k3 n3 hq => ?_)
    rw [va_up_self, show kz 0 0 = X a * 2 ^ n by rw [show X a = 0 by omega, Int.zero_mul]; rfl] at hq
    obtain ⟨rfl, W', C9, S9, HM9, hk9, hm9⟩ := hq
    show vx_V _ _ _ _ _ _ _ _ _ 25 [(0, .ref (ad 30)), (1, .int (nI d)), (2, .int (nI a)), (3, .int (nI n))] [.int (kpV (X a * 2 ^ n))]
    refine vx_ret (some (.int (kpV (X a * 2 ^ n)))) RG (vx_endi (by unfold kpV; split <;> rfl) dc_M_shiftUp_25) rfl ?_
    exact ⟨rfl, W', C9, S9, HM9, by omega, by omega⟩
  · refine vx_topi (y := 0) (if_neg y) ?_
    refine vx_if_eq (tgt := 26) IG dc_M_shiftUp_9 (by decide) (fun _ => ?_) (fun c_ => absurd rfl c_)
    refine vx_iload_n IG dc_M_shiftUp_26 rfl 3 rfl ?_
    refine vx_ldc (v := 65536) IG wK_M_150 dc_M_shiftUp_27 ?_
    refine vx_aload_n IG dc_M_shiftUp_29 rfl 0 rfl ?_
    refine vx_get IG (mo_M LY HM) rfl 0 (by decide) inM wF_M_11 rfl rfl dc_M_shiftUp_30 ?_
    refine vx_iload_n IG dc_M_shiftUp_33 rfl 2 rfl ?_
    refine mr_aal IG LY HM ha ht1 dc_M_shiftUp_34 ?_
    refine vx_callV (As := []) (st := [.int 65536, .int (nI n)]) IG lw_good (mW_bits HM a (by omega) ht) ((mo_W HM (show a < 30 by omega)).choose_spec) rfl wC_W_bits wL_M_170 wI_W_bits wS_W_bits wX_W 0 (by decide +kernel) rfl ⟨Nat.le_of_ble_eq_true rfl, Nat.le_of_ble_eq_true rfl⟩ ⟨(by dsimp only [rm_]; omega), (by dsimp only [rm_]; omega)⟩ rfl (Nat.le_of_ble_eq_true rfl) dc_M_shiftUp_35 (fun v h k4 n4 hq => ?_)
    obtain ⟨rfl, rfl, rfl, rfl⟩ := hq
    show vx_V _ _ _ _ _ _ _ _ _ 38 [(0, .ref (ad 30)), (1, .int (nI d)), (2, .int (nI a)), (3, .int (nI n))] [.int (nI (bl (W a))), .int 65536, .int (nI n)]
    refine vx_isub IG dc_M_shiftUp_38 ?_
    refine vx_topi (y := nI (65536 - bl (W a))) (pk_sub (a := 65536) hba) ?_
    have hbl := bl_shl (A := W a) (n := n) (Nat.pos_of_ne_zero y)
    have hab : (X a * 2 ^ n).natAbs = W a * 2 ^ n := by rw [Int.natAbs_mul, Int.natAbs_pow, hWa.1]; rfl
    by_cases x : n ≤ 65536 - bl (W a)
    · refine vx_icmp_le (tgt := 44) IG dc_M_shiftUp_39 (by decide) (fun _ => ?_) (fun c_ => absurd (nI_le x (by omega)) c_)
      refine vx_aload_n IG dc_M_shiftUp_44 rfl 0 rfl ?_
      refine vx_get IG (mo_M LY HM) rfl 2 (by decide) inM wF_M_20 rfl rfl dc_M_shiftUp_45 ?_
      refine vx_aload_n IG dc_M_shiftUp_48 rfl 0 rfl ?_
      refine vx_get IG (mo_M LY HM) rfl 0 (by decide) inM wF_M_11 rfl rfl dc_M_shiftUp_49 ?_
      refine vx_iload_n IG dc_M_shiftUp_52 rfl 2 rfl ?_
      refine mr_aal IG LY HM ha ht1 dc_M_shiftUp_53 ?_
      refine vx_iload_n IG dc_M_shiftUp_54 rfl 3 rfl ?_
      refine vx_callV (As := [.ref (ad a), .int (nI n)]) (st := []) IG lw_good (mW_raise LY HM 16 a (by decide) (by decide) (by omega) ht (n := n) (by omega) (by omega)) ((mo_W HM (show 16 < 30 by decide)).choose_spec) rfl wC_W_raise wL_M_58 wI_W_raise wS_W_raise wX_W 2 (by decide +kernel) rfl ⟨Nat.le_of_ble_eq_true rfl, Nat.le_of_ble_eq_true rfl⟩ ⟨(by dsimp only [rm_]; omega), (by dsimp only [rm_]; omega)⟩ rfl (Nat.le_of_ble_eq_true rfl) dc_M_shiftUp_55 (fun v h k5 n5 hq => ?_)
      obtain ⟨rfl, C1, S1, HM, hk1, hm1⟩ := hq
      show vx_V _ _ _ _ _ _ _ _ _ 58 [(0, .ref (ad 30)), (1, .int (nI d)), (2, .int (nI a)), (3, .int (nI n))] []
      refine vx_aload_n IG dc_M_shiftUp_58 rfl 0 rfl ?_
      refine vx_iload_n IG dc_M_shiftUp_59 rfl 1 rfl ?_
      refine vx_aload_n IG dc_M_shiftUp_60 rfl 0 rfl ?_
      refine vx_get IG (mo_M LY HM) rfl 1 (by decide) inM wF_M_15 rfl rfl dc_M_shiftUp_61 ?_
      refine vx_iload_n IG dc_M_shiftUp_64 rfl 2 rfl ?_
      refine mr_zal IG LY HM ha ht2 dc_M_shiftUp_65 ?_
      refine vx_callV (As := [.int (nI d), .int (sgI (X a))]) (st := []) IG lw_good (cM_keep LY HM hd (sgI_01 (X a)) ht ht1 ht2) (mo_M LY HM) rfl wC_M_keep wL_M_52 wI_M_keep wS_M_keep wX_M 2 (by decide +kernel) rfl ⟨Nat.le_of_ble_eq_true rfl, Nat.le_of_ble_eq_true rfl⟩ ⟨(by dsimp only [rm_]; omega), (by dsimp only [rm_]; omega)⟩ rfl (Nat.le_of_ble_eq_true rfl) dc_M_shiftUp_66 (fun v h k6 n6 hq => ?_)
      rw [va_up_self, hWa.1, kz_shl] at hq
      obtain ⟨rfl, W', C9, S9, HM9, hk9, hm9⟩ := hq
      show vx_V _ _ _ _ _ _ _ _ _ 69 [(0, .ref (ad 30)), (1, .int (nI d)), (2, .int (nI a)), (3, .int (nI n))] [.int (kpV (X a * 2 ^ n))]
      refine vx_ret (some (.int (kpV (X a * 2 ^ n)))) RG (vx_endi (by unfold kpV; split <;> rfl) dc_M_shiftUp_69) rfl ?_
      exact ⟨rfl, W', C9, S9, HM9, by omega, by omega⟩
    · refine vx_icmp_le (tgt := 44) IG dc_M_shiftUp_39 (by decide) (fun c_ => absurd c_ (nI_ge (by omega) (by omega))) (fun _ => ?_)
      refine vx_iconst (v := 0) IG dc_M_shiftUp_42 (by decide) ?_
      refine vx_ret (some (.int 0)) RG (vx_endi (by first | rfl | decide) dc_M_shiftUp_43) rfl ?_
      have hbig : ¬ bl (X a * 2 ^ n).natAbs ≤ 65536 := by rw [hab, hbl]; omega
      unfold kp
      rw [kpV_0 hbig, kpX_0 hbig]
      exact ⟨rfl, W, C, S, HM, by omega, by omega⟩
set_option maxRecDepth 100000 in
set_option maxHeartbeats 4000000 in
theorem cM_shiftDown (LY : lay cQ ad r0) (HM : mw cJ cZ ad r0 W X h C S) (hd : d < 16) (ha : a < 16) {n : Nat} (hn : n ≤ 65536) (ht : tys[0]? = some (cJ, .long)) (ht1 : tys[1]? = some (cQ, .object "SignedMill$Whole")) (ht2 : tys[2]? = some (cZ, .boolean)) : vx_M l D vcl tys my_M_shiftDown lw_gd (rm_ 6 C S 131) [.ref (ad 30), .int (nI d), .int (nI a), .int (nI n)] h (mpub cJ cZ ad r0 (kp X d (X a / 2 ^ n)).2 C S (kp X d (X a / 2 ^ n)).1) := by
  have hWa := mw_W HM ha
  have hna := lim_nd.mp hWa.2
  have hba := lim_bl.mp hWa.2
  refine vx_M.ofV (cc := bc_M_shiftDown) (maxL := 5) (ret := some .boolean) (own := rM) false rfl (by decide +kernel) wC_M_shiftDown (fun q => by cases q) (Nat.le_of_ble_eq_true rfl) (fun A H0 G IG RG => ?_)
  show vx_V _ _ _ _ _ _ _ _ _ 0 [(0, .ref (ad 30)), (1, .int (nI d)), (2, .int (nI a)), (3, .int (nI n))] []
  have hdiv : W a / 2 ^ n ≤ W a := Nat.div_le_self _ _
  have hnd2 : nd 4294967296 (W a / 2 ^ n) ≤ 2048 := Nat.le_trans (nd_mono bB1 hdiv) hna
  have tail : ∀ (cut : Int32) (k m : Nat), cut = (if W a % 2 ^ n = 0 then 0 else 1) → k = 0 → m = 0 → vx_V D vcl A H0 5 G h k m 32 [(4, .int cut), (0, .ref (ad 30)), (1, .int (nI d)), (2, .int (nI a)), (3, .int (nI n))] [] := by
    intro cut k m ec ek em
    refine vx_aload_n IG dc_M_shiftDown_32 rfl 1 rfl ?_
    refine vx_get IG (mo_M LY HM) rfl 2 (by decide) inM wF_M_20 rfl rfl dc_M_shiftDown_33 ?_
    refine vx_aload_n IG dc_M_shiftDown_36 rfl 1 rfl ?_
    refine vx_get IG (mo_M LY HM) rfl 0 (by decide) inM wF_M_11 rfl rfl dc_M_shiftDown_37 ?_
    refine vx_iload_n IG dc_M_shiftDown_40 rfl 3 rfl ?_
    refine mr_aal IG LY HM ha ht1 dc_M_shiftDown_41 ?_
    refine vx_iload_n IG dc_M_shiftDown_42 rfl 4 rfl ?_
    refine vx_callV (As := [.ref (ad a), .int (nI n)]) (st := []) IG lw_good (mW_lower LY HM 16 a (by decide) (by decide) (by omega) ht (n := n) (by omega) (by omega)) ((mo_W HM (show 16 < 30 by decide)).choose_spec) rfl wC_W_lower wL_M_204 wI_W_lower wS_W_lower wX_W 2 (by decide +kernel) rfl ⟨Nat.le_of_ble_eq_true rfl, Nat.le_of_ble_eq_true rfl⟩ ⟨(by dsimp only [rm_]; omega), (by dsimp only [rm_]; omega)⟩ rfl (Nat.le_of_ble_eq_true rfl) dc_M_shiftDown_43 (fun v h k1 n1 hq => ?_)
    obtain ⟨rfl, C1, S1, HM, hk1, hm1⟩ := hq
    show vx_V _ _ _ _ _ _ _ _ _ 46 [(4, .int cut), (0, .ref (ad 30)), (1, .int (nI d)), (2, .int (nI a)), (3, .int (nI n))] []
    refine vx_iload IG dc_M_shiftDown_46 0 rfl ?_
    have fin : ∀ (h : vx_h) (W2 : Nat → Nat) (C2 S2 k m : Nat), mw cJ cZ ad r0 W2 X h C2 S2 → kz (sgI (X a)) (W2 16) = X a / 2 ^ n → k + C2 ≤ C → m + S2 ≤ S → vx_V D vcl A H0 5 G h k m 83 [(4, .int cut), (0, .ref (ad 30)), (1, .int (nI d)), (2, .int (nI a)), (3, .int (nI n))] [] := by
      intro h W2 C2 S2 k m HM ez hk hm
      refine vx_aload_n IG dc_M_shiftDown_83 rfl 1 rfl ?_
      refine vx_iload_n IG dc_M_shiftDown_84 rfl 2 rfl ?_
      refine vx_aload_n IG dc_M_shiftDown_85 rfl 1 rfl ?_
      refine vx_get IG (mo_M LY HM) rfl 1 (by decide) inM wF_M_15 rfl rfl dc_M_shiftDown_86 ?_
      refine vx_iload_n IG dc_M_shiftDown_89 rfl 3 rfl ?_
      refine mr_zal IG LY HM ha ht2 dc_M_shiftDown_90 ?_
      refine vx_callV (As := [.int (nI d), .int (sgI (X a))]) (st := []) IG lw_good (cM_keep LY HM hd (sgI_01 (X a)) ht ht1 ht2) (mo_M LY HM) rfl wC_M_keep wL_M_52 wI_M_keep wS_M_keep wX_M 2 (by decide +kernel) rfl ⟨Nat.le_of_ble_eq_true rfl, Nat.le_of_ble_eq_true rfl⟩ ⟨(by dsimp only [rm_]; omega), (by dsimp only [rm_]; omega)⟩ rfl (Nat.le_of_ble_eq_true rfl) dc_M_shiftDown_91 (fun v h k6 n6 hq => ?_)
      rw [ez] at hq
      obtain ⟨rfl, W', C9, S9, HM9, hk9, hm9⟩ := hq
      show vx_V _ _ _ _ _ _ _ _ _ 94 [(4, .int cut), (0, .ref (ad 30)), (1, .int (nI d)), (2, .int (nI a)), (3, .int (nI n))] [.int (kpV (X a / 2 ^ n))]
      refine vx_ret (some (.int (kpV (X a / 2 ^ n)))) RG (vx_endi (by unfold kpV; split <;> rfl) dc_M_shiftDown_94) rfl ?_
      exact ⟨rfl, W', C9, S9, HM9, by omega, by omega⟩
    have hz := kz_shr (X a) n
    by_cases y : W a % 2 ^ n = 0
    · rw [if_pos y] at ec
      refine vx_if_eq (tgt := 83) IG dc_M_shiftDown_48 (by decide) (fun _ => ?_) (fun c_ => absurd ec c_)
      refine fin h _ C1 S1 _ _ HM ?_ (by omega) (by omega)
      rw [va_up_self, hWa.1, ← hz, if_neg (fun q => q.2 (by rw [← hWa.1]; exact y)), Nat.add_zero]
    · rw [if_neg y] at ec
      refine vx_if_eq (tgt := 83) IG dc_M_shiftDown_48 (by decide) (fun c_ => absurd c_ (by rw [ec]; decide)) (fun _ => ?_)
      refine vx_aload_n IG dc_M_shiftDown_51 rfl 1 rfl ?_
      refine vx_get IG (mo_M LY HM) rfl 1 (by decide) inM wF_M_15 rfl rfl dc_M_shiftDown_52 ?_
      refine vx_iload_n IG dc_M_shiftDown_55 rfl 3 rfl ?_
      refine mr_zal IG LY HM ha ht2 dc_M_shiftDown_56 ?_
      by_cases x : X a < 0
      · refine vx_if_eq (tgt := 83) IG dc_M_shiftDown_57 (by decide) (fun c_ => absurd c_ (by rw [sgI_neg x]; decide)) (fun _ => ?_)
        refine vx_aload_n IG dc_M_shiftDown_60 rfl 1 rfl ?_
        refine vx_get IG (mo_M LY HM) rfl 3 (by decide) inM wF_M_24 rfl rfl dc_M_shiftDown_61 ?_
        refine vx_lconst (v := 1) IG dc_M_shiftDown_64 (by decide) ?_
        refine vx_callV (As := [.long 1]) (st := []) IG lw_good (mW_load LY HM 17 (by decide) (by decide) ht (b := 1) (by decide)) ((mo_W HM (show 17 < 30 by decide)).choose_spec) rfl wC_W_load wL_M_48 wI_W_load wS_W_load wX_W 1 (by decide +kernel) rfl ⟨Nat.le_of_ble_eq_true rfl, Nat.le_of_ble_eq_true rfl⟩ ⟨(by dsimp only [rm_]; omega), (by dsimp only [rm_]; omega)⟩ rfl (Nat.le_of_ble_eq_true rfl) dc_M_shiftDown_65 (fun v h k2 n2 hq => ?_)
        obtain ⟨rfl, C2, S2, HM, hk2, hm2⟩ := hq
        have v1 : va_up (va_up W 16 (W a / 2 ^ n)) 17 1 16 = W a / 2 ^ n := by rw [va_up_ne _ _ (by decide), va_up_self]
        have v2 : va_up (va_up W 16 (W a / 2 ^ n)) 17 1 17 = 1 := va_up_self _ _ _
        show vx_V _ _ _ _ _ _ _ _ _ 68 [(4, .int cut), (0, .ref (ad 30)), (1, .int (nI d)), (2, .int (nI a)), (3, .int (nI n))] []
        refine vx_aload_n IG dc_M_shiftDown_68 rfl 1 rfl ?_
        refine vx_get IG (mo_M LY HM) rfl 2 (by decide) inM wF_M_20 rfl rfl dc_M_shiftDown_69 ?_
        refine vx_aload_n IG dc_M_shiftDown_72 rfl 1 rfl ?_
        refine vx_get IG (mo_M LY HM) rfl 2 (by decide) inM wF_M_20 rfl rfl dc_M_shiftDown_73 ?_
        refine vx_aload_n IG dc_M_shiftDown_76 rfl 1 rfl ?_
        refine vx_get IG (mo_M LY HM) rfl 3 (by decide) inM wF_M_24 rfl rfl dc_M_shiftDown_77 ?_
        refine vx_callV (As := [.ref (ad 16), .ref (ad 17)]) (st := []) IG lw_good (mW_sum LY HM 16 16 17 (by decide) (by decide) (by decide) (by decide) ht (by rw [v1]; omega) (by rw [v2]; decide)) ((mo_W HM (show 16 < 30 by decide)).choose_spec) rfl wC_W_sum wL_M_62 wI_W_sum wS_W_sum wX_W 2 (by decide +kernel) rfl ⟨Nat.le_of_ble_eq_true rfl, Nat.le_of_ble_eq_true rfl⟩ ⟨(by dsimp only [rm_]; omega), (by dsimp only [rm_]; omega)⟩ rfl (Nat.le_of_ble_eq_true rfl) dc_M_shiftDown_80 (fun v h k3 n3 hq => ?_)
        obtain ⟨rfl, C3, S3, HM, hk3, hm3⟩ := hq
        rw [v1, v2] at HM
        show vx_V _ _ _ _ _ _ _ _ _ 83 [(4, .int cut), (0, .ref (ad 30)), (1, .int (nI d)), (2, .int (nI a)), (3, .int (nI n))] []
        refine fin h _ C3 S3 _ _ HM ?_ (by omega) (by omega)
        rw [va_up_self, hWa.1, ← hz, if_pos ⟨x, by rw [← hWa.1]; exact y⟩]
      · refine vx_if_eq (tgt := 83) IG dc_M_shiftDown_57 (by decide) (fun _ => ?_) (fun c_ => absurd (sgI_pos x) c_)
        refine fin h _ C1 S1 _ _ HM ?_ (by omega) (by omega)
        rw [va_up_self, hWa.1, ← hz, if_neg (fun q => x q.1), Nat.add_zero]
  refine vx_aload_n IG dc_M_shiftDown_0 rfl 0 rfl ?_
  refine vx_get IG (mo_M LY HM) rfl 0 (by decide) inM wF_M_11 rfl rfl dc_M_shiftDown_1 ?_
  refine vx_iload_n IG dc_M_shiftDown_4 rfl 2 rfl ?_
  refine mr_aal IG LY HM ha ht1 dc_M_shiftDown_5 ?_
  refine vx_callV (As := []) (st := []) IG lw_good (mW_isZero HM a (by omega)) ((mo_W HM (show a < 30 by omega)).choose_spec) rfl wC_W_isZero wL_M_89 wI_W_isZero wS_W_isZero wX_W 0 (by decide +kernel) rfl ⟨Nat.le_of_ble_eq_true rfl, Nat.le_of_ble_eq_true rfl⟩ ⟨(by dsimp only [rm_]; omega), (by dsimp only [rm_]; omega)⟩ rfl (Nat.le_of_ble_eq_true rfl) dc_M_shiftDown_6 (fun v h k_ n_ hq => ?_)
  obtain ⟨rfl, rfl, rfl, rfl⟩ := hq
  show vx_V _ _ _ _ _ _ _ _ _ 9 [(0, .ref (ad 30)), (1, .int (nI d)), (2, .int (nI a)), (3, .int (nI n))] [.int (if W a = 0 then 1 else 0)]
  by_cases y : W a = 0
  · refine vx_topi (y := 1) (if_pos y) ?_
    refine vx_if_ne (tgt := 29) IG dc_M_shiftDown_9 (by decide) (fun _ => ?_) (fun c_ => absurd c_ (by decide))
    refine vx_iconst (v := 0) IG dc_M_shiftDown_29 (by decide) ?_
    refine vx_istore (lv' := [(4, .int 0), (0, .ref (ad 30)), (1, .int (nI d)), (2, .int (nI a)), (3, .int (nI n))]) IG dc_M_shiftDown_30 (by decide) rfl ?_
    exact tail 0 _ _ (by rw [if_pos (by rw [y, Nat.zero_mod])]) rfl rfl
  · refine vx_topi (y := 0) (if_neg y) ?_
    refine vx_if_ne (tgt := 29) IG dc_M_shiftDown_9 (by decide) (fun c_ => absurd rfl c_) (fun _ => ?_)
    refine vx_aload_n IG dc_M_shiftDown_12 rfl 0 rfl ?_
    refine vx_get IG (mo_M LY HM) rfl 0 (by decide) inM wF_M_11 rfl rfl dc_M_shiftDown_13 ?_
    refine vx_iload_n IG dc_M_shiftDown_16 rfl 2 rfl ?_
    refine mr_aal IG LY HM ha ht1 dc_M_shiftDown_17 ?_
    refine vx_callV (As := []) (st := []) IG lw_good (mW_lowestOne HM a (by omega) ht) ((mo_W HM (show a < 30 by omega)).choose_spec) rfl wC_W_lowestOne wL_M_186 wI_W_lowestOne wS_W_lowestOne wX_W 0 (by decide +kernel) rfl ⟨Nat.le_of_ble_eq_true rfl, Nat.le_of_ble_eq_true rfl⟩ ⟨(by dsimp only [rm_]; omega), (by dsimp only [rm_]; omega)⟩ rfl (Nat.le_of_ble_eq_true rfl) dc_M_shiftDown_18 (fun v h k_ n_ hq => ?_)
    obtain ⟨rfl, rfl, rfl, hq⟩ := hq
    rcases hq with ⟨q1, -⟩ | ⟨-, t, rfl, t1, t2, t3⟩
    · exact absurd q1 y
    · have hc := low_cut (n := n) t2 t3
      show vx_V _ _ _ _ _ _ _ _ _ 21 [(0, .ref (ad 30)), (1, .int (nI d)), (2, .int (nI a)), (3, .int (nI n))] [.int (nI t)]
      refine vx_iload_n IG dc_M_shiftDown_21 rfl 3 rfl ?_
      by_cases x : t < n
      · refine vx_icmp_ge (tgt := 29) IG dc_M_shiftDown_22 (by decide) (fun c_ => absurd c_ (nI_ge x (by omega))) (fun _ => ?_)
        refine vx_iconst (v := 1) IG dc_M_shiftDown_25 (by decide) ?_
        refine vx_goto (tgt := 30) IG dc_M_shiftDown_26 (by decide) ?_
        refine vx_istore (lv' := [(4, .int 1), (0, .ref (ad 30)), (1, .int (nI d)), (2, .int (nI a)), (3, .int (nI n))]) IG dc_M_shiftDown_30 (by decide) rfl ?_
        exact tail 1 _ _ (by rw [if_neg (hc.mp x)]) rfl rfl
      · refine vx_icmp_ge (tgt := 29) IG dc_M_shiftDown_22 (by decide) (fun _ => ?_) (fun c_ => absurd (nI_le (Nat.le_of_not_lt x) (by omega)) c_)
        refine vx_iconst (v := 0) IG dc_M_shiftDown_29 (by decide) ?_
        refine vx_istore (lv' := [(4, .int 0), (0, .ref (ad 30)), (1, .int (nI d)), (2, .int (nI a)), (3, .int (nI n))]) IG dc_M_shiftDown_30 (by decide) rfl ?_
        exact tail 0 _ _ (by by_cases q : W a % 2 ^ n = 0; exact (if_pos q).symm; exact absurd (hc.mpr q) x) rfl rfl
set_option maxRecDepth 100000 in
set_option maxHeartbeats 8000000 in
theorem cM_common (LY : lay cQ ad r0) (HM : mw cJ cZ ad r0 W X h C S) (ht : tys[0]? = some (cJ, .long)) (ht1 : tys[1]? = some (cQ, .object "SignedMill$Whole")) (ht2 : tys[2]? = some (cZ, .boolean)) (r1 r2 r3 : Int32) : vx_M l D vcl tys my_M_common lw_gd (rm_ 7 C S 157) [.ref (ad 30), .int r1, .int r2, .int r3] h (mpub cJ cZ ad r0 (sp3 0 X (fun d a b => kp X d (Nat.gcd (X a).natAbs (X b).natAbs : Nat)) r1 r2 r3).2 C S (sp3 0 X (fun d a b => kp X d (Nat.gcd (X a).natAbs (X b).natAbs : Nat)) r1 r2 r3).1) := by
  refine vx_M.ofV (cc := bc_M_common) (maxL := 4) (ret := some .boolean) (own := rM) false rfl (by decide +kernel) wC_M_common (fun q => by cases q) (Nat.le_of_ble_eq_true rfl) (fun A H0 G IG RG => ?_)
  show vx_V _ _ _ _ _ _ _ _ _ 0 [(0, .ref (ad 30)), (1, .int r1), (2, .int r2), (3, .int r3)] []
  refine vx_iload_n IG dc_M_common_0 rfl 1 rfl ?_
  refine vx_iload_n IG dc_M_common_1 rfl 2 rfl ?_
  refine vx_callS (As := [.int r1, .int r2]) (st := []) IG lw_good (cM_areRegisters _ r1 r2) wC_M_areRegisters wL_M_70 wT_M_areRegisters wX_M 2 (by decide +kernel) rfl ⟨Nat.le_of_ble_eq_true rfl, Nat.le_of_ble_eq_true rfl⟩ ⟨(by dsimp only [rm_]; omega), (by dsimp only [rm_]; omega)⟩ rfl (Nat.le_of_ble_eq_true rfl) dc_M_common_2 (fun v h k1 n1 hq => ?_)
  obtain ⟨rfl, rfl, rfl, rfl⟩ := hq
  show vx_V _ _ _ _ _ _ _ _ _ 5 [(0, .ref (ad 30)), (1, .int r1), (2, .int r2), (3, .int r3)] [.int (if isR r1 ∧ isR r2 then 1 else 0)]
  by_cases z0 : isR r1 ∧ isR r2
  · refine vx_topi (y := 1) (if_pos z0) ?_
    refine vx_if_eq (tgt := 15) IG dc_M_common_5 (by decide) (fun c_ => absurd c_ (by decide)) (fun _ => ?_)
    refine vx_iload_n IG dc_M_common_8 rfl 3 rfl ?_
    refine vx_callS (As := [.int r3]) (st := []) IG lw_good (cM_isRegister _ r3) wC_M_isRegister wL_M_44 wT_M_isRegister wX_M 1 (by decide +kernel) rfl ⟨Nat.le_of_ble_eq_true rfl, Nat.le_of_ble_eq_true rfl⟩ ⟨(by dsimp only [rm_]; omega), (by dsimp only [rm_]; omega)⟩ rfl (Nat.le_of_ble_eq_true rfl) dc_M_common_9 (fun v h k2 n2 hq => ?_)
    obtain ⟨rfl, rfl, rfl, rfl⟩ := hq
    show vx_V _ _ _ _ _ _ _ _ _ 12 [(0, .ref (ad 30)), (1, .int r1), (2, .int r2), (3, .int r3)] [.int (if isR r3 then 1 else 0)]
    by_cases z1 : isR r3
    · refine vx_topi (y := 1) (if_pos z1) ?_
      refine vx_if_ne (tgt := 17) IG dc_M_common_12 (by decide) (fun _ => ?_) (fun c_ => absurd c_ (by decide))
      obtain ⟨d, hd, rfl⟩ := isR_of z0.1
      obtain ⟨a, ha, rfl⟩ := isR_of z0.2
      obtain ⟨b, hb, rfl⟩ := isR_of z1
      rw [sp3_ok hd ha hb] at RG
      have hWa := mw_W HM ha
      have hWb := mw_W HM hb
      have hna := lim_nd.mp hWa.2
      have hnb := lim_nd.mp hWb.2
      have hg := lim_nd.mp (gcd_lim hWa.2 hWb.2)
      refine vx_aload_n IG dc_M_common_17 rfl 0 rfl ?_
      refine vx_get IG (mo_M LY HM) rfl 6 (by decide) inM wF_M_40 rfl rfl dc_M_common_18 ?_
      refine vx_aload_n IG dc_M_common_21 rfl 0 rfl ?_
      refine vx_get IG (mo_M LY HM) rfl 0 (by decide) inM wF_M_11 rfl rfl dc_M_common_22 ?_
      refine vx_iload_n IG dc_M_common_25 rfl 2 rfl ?_
      refine mr_aal IG LY HM ha ht1 dc_M_common_26 ?_
      refine vx_aload_n IG dc_M_common_27 rfl 0 rfl ?_
      refine vx_get IG (mo_M LY HM) rfl 0 (by decide) inM wF_M_11 rfl rfl dc_M_common_28 ?_
      refine vx_iload_n IG dc_M_common_31 rfl 3 rfl ?_
      refine mr_aal IG LY HM hb ht1 dc_M_common_32 ?_
      refine vx_iconst (v := 0) IG dc_M_common_33 (by decide) ?_
      refine vx_callV (As := [.ref (ad a), .ref (ad b), .int 0]) (st := []) IG lw_good (mE_run LY HM a b (by omega) (by omega) ht (by omega) (by omega) (Or.inl rfl) (fun q => absurd q (by decide))) ((mo_E' HM).choose_spec) rfl wC_E_run wL_M_158 wI_E_run wS_E_run wX_E 3 (by decide +kernel) rfl ⟨Nat.le_of_ble_eq_true rfl, Nat.le_of_ble_eq_true rfl⟩ ⟨(by dsimp only [rm_]; omega), (by dsimp only [rm_]; omega)⟩ rfl (Nat.le_of_ble_eq_true rfl) dc_M_common_34 (fun v h k3 n3 hq => ?_)
      obtain ⟨rfl, W1, C1, S1, jj, x1, x2, x3, x4, HE, g1, -, g3, hk1, hm1⟩ := hq
      have HM := mwE_mw HE
      show vx_V _ _ _ _ _ _ _ _ _ 37 [(0, .ref (ad 30)), (1, .int (nI d)), (2, .int (nI a)), (3, .int (nI b))] []
      refine vx_aload_n IG dc_M_common_37 rfl 0 rfl ?_
      refine vx_get IG (mo_M LY HM) rfl 2 (by decide) inM wF_M_20 rfl rfl dc_M_common_38 ?_
      refine vx_aload_n IG dc_M_common_41 rfl 0 rfl ?_
      refine vx_get IG (mo_M LY HM) rfl 6 (by decide) inM wF_M_40 rfl rfl dc_M_common_42 ?_
      refine vx_get IG (mo_E HE) rfl 0 (by decide) inE wF_M_161 rfl rfl dc_M_common_45 ?_
      refine vx_callV (As := [.ref (ad 22)]) (st := []) IG lw_good (mW_copy LY HM 16 22 (by decide) (by decide) (by decide) ht (by rw [g1]; omega)) ((mo_W HM (show 16 < 30 by decide)).choose_spec) rfl wC_W_copy wL_M_74 wI_W_copy wS_W_copy wX_W 1 (by decide +kernel) rfl ⟨Nat.le_of_ble_eq_true rfl, Nat.le_of_ble_eq_true rfl⟩ ⟨(by dsimp only [rm_]; omega), (by dsimp only [rm_]; omega)⟩ rfl (Nat.le_of_ble_eq_true rfl) dc_M_common_48 (fun v h k4 n4 hq => ?_)
      obtain ⟨rfl, C2, S2, HM, hk2, hm2⟩ := hq
      show vx_V _ _ _ _ _ _ _ _ _ 51 [(0, .ref (ad 30)), (1, .int (nI d)), (2, .int (nI a)), (3, .int (nI b))] []
      refine vx_aload_n IG dc_M_common_51 rfl 0 rfl ?_
      refine vx_iload_n IG dc_M_common_52 rfl 1 rfl ?_
      refine vx_iconst (v := 0) IG dc_M_common_53 (by decide) ?_
      refine vx_callV (As := [.int (nI d), .int 0]) (st := []) IG lw_good (cM_keep LY HM hd (Or.inl rfl) ht ht1 ht2) (mo_M LY HM) rfl wC_M_keep wL_M_52 wI_M_keep wS_M_keep wX_M 2 (by decide +kernel) rfl ⟨Nat.le_of_ble_eq_true rfl, Nat.le_of_ble_eq_true rfl⟩ ⟨(by dsimp only [rm_]; omega), (by dsimp only [rm_]; omega)⟩ rfl (Nat.le_of_ble_eq_true rfl) dc_M_common_54 (fun v h k5 n5 hq => ?_)
      rw [va_up_self, g1, hWa.1, hWb.1, kz_0] at hq
      obtain ⟨rfl, W', C9, S9, HM9, hk9, hm9⟩ := hq
      show vx_V _ _ _ _ _ _ _ _ _ 57 [(0, .ref (ad 30)), (1, .int (nI d)), (2, .int (nI a)), (3, .int (nI b))] [.int (kpV ((Nat.gcd (X a).natAbs (X b).natAbs : Nat)))]
      refine vx_ret (some (.int (kpV ((Nat.gcd (X a).natAbs (X b).natAbs : Nat))))) RG (vx_endi (by unfold kpV; split <;> rfl) dc_M_common_57) rfl ?_
      exact ⟨rfl, W', C9, S9, HM9, by omega, by omega⟩
    · refine vx_topi (y := 0) (if_neg z1) ?_
      refine vx_if_ne (tgt := 17) IG dc_M_common_12 (by decide) (fun c_ => absurd rfl c_) (fun _ => ?_)
      refine vx_iconst (v := 0) IG dc_M_common_15 (by decide) ?_
      refine vx_ret (some (.int 0)) RG (vx_endi (by first | rfl | decide) dc_M_common_16) rfl ?_
      rw [sp3_no (fun q => z1 (q.2.2))]
      exact ⟨rfl, W, C, S, HM, by omega, by omega⟩
  · refine vx_topi (y := 0) (if_neg z0) ?_
    refine vx_if_eq (tgt := 15) IG dc_M_common_5 (by decide) (fun _ => ?_) (fun c_ => absurd rfl c_)
    refine vx_iconst (v := 0) IG dc_M_common_15 (by decide) ?_
    refine vx_ret (some (.int 0)) RG (vx_endi (by first | rfl | decide) dc_M_common_16) rfl ?_
    rw [sp3_no (fun q => z0 (⟨q.1, q.2.1⟩))]
    exact ⟨rfl, W, C, S, HM, by omega, by omega⟩
set_option maxRecDepth 100000 in
set_option maxHeartbeats 8000000 in
theorem cM_spread (LY : lay cQ ad r0) (HM : mw cJ cZ ad r0 W X h C S) (ht : tys[0]? = some (cJ, .long)) (ht1 : tys[1]? = some (cQ, .object "SignedMill$Whole")) (ht2 : tys[2]? = some (cZ, .boolean)) (r1 : Int32) {b : Nat} (hb : b < 18446744073709551616) (n : Int32) : vx_M l D vcl tys my_M_spread lw_gd (rm_ 6 C S 131) [.ref (ad 30), .int r1, .long (lN b), .int n] h (mpub cJ cZ ad r0 (sp1 0 X (fun d => if 0 ≤ n.toInt ∧ n.toInt ≤ 1024 then kp X d (vl 18446744073709551616 (fun _ => b) n.toNatClampNeg : Nat) else (0, X)) r1).2 C S (sp1 0 X (fun d => if 0 ≤ n.toInt ∧ n.toInt ≤ 1024 then kp X d (vl 18446744073709551616 (fun _ => b) n.toNatClampNeg : Nat) else (0, X)) r1).1) := by
  refine vx_M.ofV (cc := bc_M_spread) (maxL := 5) (ret := some .boolean) (own := rM) false rfl (by decide +kernel) wC_M_spread (fun q => by cases q) (Nat.le_of_ble_eq_true rfl) (fun A H0 G IG RG => ?_)
  show vx_V _ _ _ _ _ _ _ _ _ 0 [(0, .ref (ad 30)), (1, .int r1), (2, .long (lN b)), (4, .int n)] []
  refine vx_iload_n IG dc_M_spread_0 rfl 1 rfl ?_
  refine vx_callS (As := [.int r1]) (st := []) IG lw_good (cM_isRegister _ r1) wC_M_isRegister wL_M_44 wT_M_isRegister wX_M 1 (by decide +kernel) rfl ⟨Nat.le_of_ble_eq_true rfl, Nat.le_of_ble_eq_true rfl⟩ ⟨(by dsimp only [rm_]; omega), (by dsimp only [rm_]; omega)⟩ rfl (Nat.le_of_ble_eq_true rfl) dc_M_spread_1 (fun v h k1 n1 hq => ?_)
  obtain ⟨rfl, rfl, rfl, rfl⟩ := hq
  show vx_V _ _ _ _ _ _ _ _ _ 4 [(0, .ref (ad 30)), (1, .int r1), (2, .long (lN b)), (4, .int n)] [.int (if isR r1 then 1 else 0)]
  by_cases z0 : isR r1
  · refine vx_topi (y := 1) (if_pos z0) ?_
    refine vx_if_eq (tgt := 20) IG dc_M_spread_4 (by decide) (fun c_ => absurd c_ (by decide)) (fun _ => ?_)
    obtain ⟨d, hd, rfl⟩ := isR_of z0
    rw [sp1_ok hd] at RG
    have i0 : (0 : Int32).toInt = 0 := rfl
    have i1 : (1024 : Int32).toInt = 1024 := rfl
    refine vx_iload IG dc_M_spread_7 3 rfl ?_
    by_cases y : n < 0
    · refine vx_if_lt (tgt := 20) IG dc_M_spread_9 (by decide) (fun _ => ?_) (fun c_ => absurd y c_)
      refine vx_iconst (v := 0) IG dc_M_spread_20 (by decide) ?_
      refine vx_ret (some (.int 0)) RG (vx_endi (by first | rfl | decide) dc_M_spread_21) rfl ?_
      rw [if_neg (fun q => by have := Int32.lt_iff_toInt_lt.mp y; omega)]
      exact ⟨rfl, W, C, S, HM, by omega, by omega⟩
    · refine vx_if_lt (tgt := 20) IG dc_M_spread_9 (by decide) (fun c_ => absurd c_ y) (fun _ => ?_)
      refine vx_iload IG dc_M_spread_12 3 rfl ?_
      refine vx_sipush (v := 1024) IG dc_M_spread_14 (by decide) ?_
      by_cases x : n ≤ 1024
      · refine vx_icmp_le (tgt := 22) IG dc_M_spread_17 (by decide) (fun _ => ?_) (fun c_ => absurd x c_)
        rw [Int32.lt_iff_toInt_lt] at y
        rw [Int32.le_iff_toInt_le] at x
        obtain ⟨m, hm, rfl⟩ := vp_in_of (x := n) (n := 1025) (vp_in_iff.mpr ⟨by omega, by omega⟩) (by decide)
        rw [if_pos ⟨by omega, by omega⟩, nI_clamp (by omega)] at RG
        refine vx_aload_n IG dc_M_spread_22 rfl 0 rfl ?_
        refine vx_get IG (mo_M LY HM) rfl 2 (by decide) inM wF_M_20 rfl rfl dc_M_spread_23 ?_
        refine vx_lload_n IG dc_M_spread_26 rfl 2 rfl ?_
        refine vx_iload IG dc_M_spread_27 3 rfl ?_
        refine vx_callV (As := [.long (lN b), .int (nI m)]) (st := []) IG lw_good (mW_repeat LY HM 16 (by decide) (by decide) ht hb (by omega)) ((mo_W HM (show 16 < 30 by decide)).choose_spec) rfl wC_W_repeat wL_M_66 wI_W_repeat wS_W_repeat wX_W 2 (by decide +kernel) rfl ⟨Nat.le_of_ble_eq_true rfl, Nat.le_of_ble_eq_true rfl⟩ ⟨(by dsimp only [rm_]; omega), (by dsimp only [rm_]; omega)⟩ rfl (Nat.le_of_ble_eq_true rfl) dc_M_spread_29 (fun v h k2 n2 hq => ?_)
        obtain ⟨rfl, C1, S1, HM, hk1, hm1⟩ := hq
        show vx_V _ _ _ _ _ _ _ _ _ 32 [(0, .ref (ad 30)), (1, .int (nI d)), (2, .long (lN b)), (4, .int (nI m))] []
        refine vx_aload_n IG dc_M_spread_32 rfl 0 rfl ?_
        refine vx_iload_n IG dc_M_spread_33 rfl 1 rfl ?_
        refine vx_iconst (v := 0) IG dc_M_spread_34 (by decide) ?_
        refine vx_callV (As := [.int (nI d), .int 0]) (st := []) IG lw_good (cM_keep LY HM hd (Or.inl rfl) ht ht1 ht2) (mo_M LY HM) rfl wC_M_keep wL_M_52 wI_M_keep wS_M_keep wX_M 2 (by decide +kernel) rfl ⟨Nat.le_of_ble_eq_true rfl, Nat.le_of_ble_eq_true rfl⟩ ⟨(by dsimp only [rm_]; omega), (by dsimp only [rm_]; omega)⟩ rfl (Nat.le_of_ble_eq_true rfl) dc_M_spread_35 (fun v h k3 n3 hq => ?_)
        rw [va_up_self, kz_0] at hq
        obtain ⟨rfl, W', C9, S9, HM9, hk9, hm9⟩ := hq
        show vx_V _ _ _ _ _ _ _ _ _ 38 [(0, .ref (ad 30)), (1, .int (nI d)), (2, .long (lN b)), (4, .int (nI m))] [.int (kpV ((vl 18446744073709551616 (fun _ => b) m : Nat)))]
        refine vx_ret (some (.int (kpV ((vl 18446744073709551616 (fun _ => b) m : Nat))))) RG (vx_endi (by unfold kpV; split <;> rfl) dc_M_spread_38) rfl ?_
        exact ⟨rfl, W', C9, S9, HM9, by omega, by omega⟩
      · refine vx_icmp_le (tgt := 22) IG dc_M_spread_17 (by decide) (fun c_ => absurd c_ x) (fun _ => ?_)
        refine vx_iconst (v := 0) IG dc_M_spread_20 (by decide) ?_
        refine vx_ret (some (.int 0)) RG (vx_endi (by first | rfl | decide) dc_M_spread_21) rfl ?_
        rw [if_neg (fun q => x (Int32.le_iff_toInt_le.mpr (by omega)))]
        exact ⟨rfl, W, C, S, HM, by omega, by omega⟩
  · refine vx_topi (y := 0) (if_neg z0) ?_
    refine vx_if_eq (tgt := 20) IG dc_M_spread_4 (by decide) (fun _ => ?_) (fun c_ => absurd rfl c_)
    refine vx_iconst (v := 0) IG dc_M_spread_20 (by decide) ?_
    refine vx_ret (some (.int 0)) RG (vx_endi (by first | rfl | decide) dc_M_spread_21) rfl ?_
    rw [sp1_no (fun q => z0 (q))]
    exact ⟨rfl, W, C, S, HM, by omega, by omega⟩
set_option maxRecDepth 100000 in
set_option maxHeartbeats 8000000 in
theorem cM_shift (LY : lay cQ ad r0) (HM : mw cJ cZ ad r0 W X h C S) (ht : tys[0]? = some (cJ, .long)) (ht1 : tys[1]? = some (cQ, .object "SignedMill$Whole")) (ht2 : tys[2]? = some (cZ, .boolean)) (r1 r2 n : Int32) : vx_M l D vcl tys my_M_shift lw_gd (rm_ 7 C S 155) [.ref (ad 30), .int r1, .int r2, .int n] h (mpub cJ cZ ad r0 (sp2 0 X (fun d a => kp X d (shZ (X a) n)) r1 r2).2 C S (sp2 0 X (fun d a => kp X d (shZ (X a) n)) r1 r2).1) := by
  refine vx_M.ofV (cc := bc_M_shift) (maxL := 4) (ret := some .boolean) (own := rM) false rfl (by decide +kernel) wC_M_shift (fun q => by cases q) (Nat.le_of_ble_eq_true rfl) (fun A H0 G IG RG => ?_)
  show vx_V _ _ _ _ _ _ _ _ _ 0 [(0, .ref (ad 30)), (1, .int r1), (2, .int r2), (3, .int n)] []
  refine vx_iload_n IG dc_M_shift_0 rfl 1 rfl ?_
  refine vx_iload_n IG dc_M_shift_1 rfl 2 rfl ?_
  refine vx_callS (As := [.int r1, .int r2]) (st := []) IG lw_good (cM_areRegisters _ r1 r2) wC_M_areRegisters wL_M_70 wT_M_areRegisters wX_M 2 (by decide +kernel) rfl ⟨Nat.le_of_ble_eq_true rfl, Nat.le_of_ble_eq_true rfl⟩ ⟨(by dsimp only [rm_]; omega), (by dsimp only [rm_]; omega)⟩ rfl (Nat.le_of_ble_eq_true rfl) dc_M_shift_2 (fun v h k1 n1 hq => ?_)
  obtain ⟨rfl, rfl, rfl, rfl⟩ := hq
  show vx_V _ _ _ _ _ _ _ _ _ 5 [(0, .ref (ad 30)), (1, .int r1), (2, .int r2), (3, .int n)] [.int (if isR r1 ∧ isR r2 then 1 else 0)]
  by_cases z0 : isR r1 ∧ isR r2
  · refine vx_topi (y := 1) (if_pos z0) ?_
    refine vx_if_ne (tgt := 10) IG dc_M_shift_5 (by decide) (fun _ => ?_) (fun c_ => absurd c_ (by decide))
    obtain ⟨d, hd, rfl⟩ := isR_of z0.1
    obtain ⟨a, ha, rfl⟩ := isR_of z0.2
    rw [sp2_ok hd ha] at RG
    have hWa := mw_W HM ha
    have i0 : (0 : Int32).toInt = 0 := rfl
    have i1 : (-65536 : Int32).toInt = -65536 := rfl
    refine vx_iload_n IG dc_M_shift_10 rfl 3 rfl ?_
    by_cases y : n ≤ 0
    · refine vx_if_le (tgt := 22) IG dc_M_shift_11 (by decide) (fun _ => ?_) (fun c_ => absurd y c_)
      rw [Int32.le_iff_toInt_le] at y
      refine vx_aload_n IG dc_M_shift_22 rfl 0 rfl ?_
      refine vx_iload_n IG dc_M_shift_23 rfl 1 rfl ?_
      refine vx_iload_n IG dc_M_shift_24 rfl 2 rfl ?_
      refine vx_iload_n IG dc_M_shift_25 rfl 3 rfl ?_
      refine vx_ldc (v := -65536) IG wK_M_149 dc_M_shift_26 ?_
      by_cases x : (-65536 : Int32) ≤ n
      · refine vx_icmp_ge (tgt := 36) IG dc_M_shift_28 (by decide) (fun _ => ?_) (fun c_ => absurd x c_)
        rw [Int32.le_iff_toInt_le] at x
        refine vx_iload_n IG dc_M_shift_36 rfl 3 rfl ?_
        refine vx_ineg IG dc_M_shift_37 ?_
        refine vx_topi (y := nI (-n.toInt).toNat) (i32_neg y) ?_
        refine vx_callV (As := [.int (nI d), .int (nI a), .int (nI (-n.toInt).toNat)]) (st := []) IG lw_good (cM_shiftDown LY HM hd ha (n := (-n.toInt).toNat) (by omega) ht ht1 ht2) (mo_M LY HM) rfl wC_M_shiftDown wL_M_151 wI_M_shiftDown wS_M_shiftDown wX_M 3 (by decide +kernel) rfl ⟨Nat.le_of_ble_eq_true rfl, Nat.le_of_ble_eq_true rfl⟩ ⟨(by dsimp only [rm_]; omega), (by dsimp only [rm_]; omega)⟩ rfl (Nat.le_of_ble_eq_true rfl) dc_M_shift_38 (fun v h k2 n2 hq => ?_)
        obtain ⟨rfl, W', C9, S9, HM9, hk9, hm9⟩ := hq
        have e : shZ (X a) n = X a / 2 ^ (-n.toInt).toNat := by
          unfold shZ
          by_cases z : 0 ≤ n.toInt
          · rw [if_pos z, show n.toInt = 0 by omega]; simp
          · rw [if_neg z]
        rw [e] at RG
        show vx_V _ _ _ _ _ _ _ _ _ 41 [(0, .ref (ad 30)), (1, .int (nI d)), (2, .int (nI a)), (3, .int n)] [.int ((kp X d (X a / 2 ^ (-n.toInt).toNat)).1)]
        refine vx_ret (some (.int ((kp X d (X a / 2 ^ (-n.toInt).toNat)).1))) RG (vx_endi (by show narrow _ (.int (kpV _)) = .int (kpV _); unfold kpV; split <;> rfl) dc_M_shift_41) rfl ?_
        exact ⟨rfl, W', C9, S9, HM9, by omega, by omega⟩
      · refine vx_icmp_ge (tgt := 36) IG dc_M_shift_28 (by decide) (fun c_ => absurd c_ x) (fun _ => ?_)
        rw [Int32.le_iff_toInt_le] at x
        refine vx_ldc (v := 65536) IG wK_M_150 dc_M_shift_31 ?_
        refine vx_goto (tgt := 38) IG dc_M_shift_33 (by decide) ?_
        refine vx_callV (As := [.int (nI d), .int (nI a), .int (nI 65536)]) (st := []) IG lw_good (cM_shiftDown LY HM hd ha (n := 65536) (by omega) ht ht1 ht2) (mo_M LY HM) rfl wC_M_shiftDown wL_M_151 wI_M_shiftDown wS_M_shiftDown wX_M 3 (by decide +kernel) rfl ⟨Nat.le_of_ble_eq_true rfl, Nat.le_of_ble_eq_true rfl⟩ ⟨(by dsimp only [rm_]; omega), (by dsimp only [rm_]; omega)⟩ rfl (Nat.le_of_ble_eq_true rfl) dc_M_shift_38 (fun v h k3 n3 hq => ?_)
        obtain ⟨rfl, W', C9, S9, HM9, hk9, hm9⟩ := hq
        have e : shZ (X a) n = X a / 2 ^ 65536 := by
          unfold shZ
          rw [if_neg (by omega)]
          exact shr_all (by rw [← hWa.1]; exact hWa.2) (by omega)
        rw [e] at RG
        show vx_V _ _ _ _ _ _ _ _ _ 41 [(0, .ref (ad 30)), (1, .int (nI d)), (2, .int (nI a)), (3, .int n)] [.int ((kp X d (X a / 2 ^ 65536)).1)]
        refine vx_ret (some (.int ((kp X d (X a / 2 ^ 65536)).1))) RG (vx_endi (by show narrow _ (.int (kpV _)) = .int (kpV _); unfold kpV; split <;> rfl) dc_M_shift_41) rfl ?_
        exact ⟨rfl, W', C9, S9, HM9, by omega, by omega⟩
    · refine vx_if_le (tgt := 22) IG dc_M_shift_11 (by decide) (fun c_ => absurd c_ y) (fun _ => ?_)
      rw [Int32.le_iff_toInt_le] at y
      obtain ⟨m, hm, rfl⟩ := i32_pos (x := n) (by omega)
      refine vx_aload_n IG dc_M_shift_14 rfl 0 rfl ?_
      refine vx_iload_n IG dc_M_shift_15 rfl 1 rfl ?_
      refine vx_iload_n IG dc_M_shift_16 rfl 2 rfl ?_
      refine vx_iload_n IG dc_M_shift_17 rfl 3 rfl ?_
      refine vx_callV (As := [.int (nI d), .int (nI a), .int (nI m)]) (st := []) IG lw_good (cM_shiftUp LY HM hd ha (n := m) (by omega) ht ht1 ht2) (mo_M LY HM) rfl wC_M_shiftUp wL_M_145 wI_M_shiftUp wS_M_shiftUp wX_M 3 (by decide +kernel) rfl ⟨Nat.le_of_ble_eq_true rfl, Nat.le_of_ble_eq_true rfl⟩ ⟨(by dsimp only [rm_]; omega), (by dsimp only [rm_]; omega)⟩ rfl (Nat.le_of_ble_eq_true rfl) dc_M_shift_18 (fun v h k4 n4 hq => ?_)
      obtain ⟨rfl, W', C9, S9, HM9, hk9, hm9⟩ := hq
      have e : shZ (X a) (nI m) = X a * 2 ^ m := by
        unfold shZ
        rw [nI_toInt (by omega), if_pos (by omega)]; rfl
      rw [e] at RG
      show vx_V _ _ _ _ _ _ _ _ _ 21 [(0, .ref (ad 30)), (1, .int (nI d)), (2, .int (nI a)), (3, .int (nI m))] [.int ((kp X d (X a * 2 ^ m)).1)]
      refine vx_ret (some (.int ((kp X d (X a * 2 ^ m)).1))) RG (vx_endi (by show narrow _ (.int (kpV _)) = .int (kpV _); unfold kpV; split <;> rfl) dc_M_shift_21) rfl ?_
      exact ⟨rfl, W', C9, S9, HM9, by omega, by omega⟩
  · refine vx_topi (y := 0) (if_neg z0) ?_
    refine vx_if_ne (tgt := 10) IG dc_M_shift_5 (by decide) (fun c_ => absurd rfl c_) (fun _ => ?_)
    refine vx_iconst (v := 0) IG dc_M_shift_8 (by decide) ?_
    refine vx_ret (some (.int 0)) RG (vx_endi (by first | rfl | decide) dc_M_shift_9) rfl ?_
    rw [sp2_no (fun q => z0 (⟨q.1, q.2⟩))]
    exact ⟨rfl, W, C, S, HM, by omega, by omega⟩
end
