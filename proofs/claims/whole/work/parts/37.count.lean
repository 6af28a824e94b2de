/-! Long.bitCount, countOnes, bitsFrom -/
def pop (N : Nat) : Nat → Nat
  | 0 => 0
  | n + 1 => pop N n + N / 2 ^ n % 2
theorem pop_add (N a : Nat) : ∀ b, pop N (a + b) = pop N a + pop (N / 2 ^ a) b
  | 0 => rfl
  | b + 1 => by
    show pop N (a + b) + N / 2 ^ (a + b) % 2 = pop N a + (pop (N / 2 ^ a) b + N / 2 ^ a / 2 ^ b % 2)
    rw [pop_add N a b, Nat.div_div_eq_div_mul, ← Nat.pow_add, Nat.add_assoc]
theorem pop_mod (N a : Nat) : ∀ b, b ≤ a → pop (N % 2 ^ a) b = pop N b
  | 0, _ => rfl
  | b + 1, h => by
    show pop (N % 2 ^ a) b + N % 2 ^ a / 2 ^ b % 2 = pop N b + N / 2 ^ b % 2
    rw [pop_mod N a b (by omega)]
    congr 1
    rw [show 2 ^ a = 2 ^ b * 2 ^ (a - b) by rw [← Nat.pow_add]; congr 1; omega, Nat.mod_mul_right_div_self, Nat.mod_mod_of_dvd]
    rw [show a - b = (a - b - 1) + 1 by omega, Nat.pow_succ]
    exact Nat.dvd_mul_left 2 _
theorem pop_le (N : Nat) : ∀ n, pop N n ≤ n
  | 0 => Nat.le_refl 0
  | n + 1 => by show pop N n + N / 2 ^ n % 2 ≤ n + 1; have := pop_le N n; omega
theorem pop_zero : ∀ n, pop 0 n = 0
  | 0 => rfl
  | n + 1 => by show pop 0 n + 0 / 2 ^ n % 2 = 0; rw [pop_zero n, Nat.zero_div]
theorem pop_big {N a : Nat} (h : N < 2 ^ a) (b : Nat) (hb : a ≤ b) : pop N b = pop N a := by
  rw [show b = a + (b - a) by omega, pop_add, Nat.div_eq_of_lt h, pop_zero, Nat.add_zero]
theorem bc_split {c m Y M : Nat} (hc : c < 256) (hm : m < 256) : (c + 256 * Y) &&& (m + 256 * M) = (c &&& m) + 256 * (Y &&& M) := by
  have h1 : c &&& m < 256 := Nat.lt_of_le_of_lt Nat.and_le_left hc
  rw [Nat.add_comm c, Nat.add_comm m, Nat.add_comm (c &&& m)]
  show (2 ^ 8 * Y + c) &&& (2 ^ 8 * M + m) = 2 ^ 8 * (Y &&& M) + (c &&& m)
  apply Nat.eq_of_testBit_eq
  intro i
  rw [Nat.testBit_and, Nat.testBit_two_pow_mul_add _ hc, Nat.testBit_two_pow_mul_add _ hm, Nat.testBit_two_pow_mul_add _ h1]
  by_cases z : i < 8
  · rw [if_pos z, if_pos z, if_pos z, Nat.testBit_and]
  · rw [if_neg z, if_neg z, if_neg z, Nat.testBit_and]
def ba (c : Nat) : Nat := c - (c / 2 &&& 85)
def bb_ (c : Nat) : Nat := (ba c &&& 51) + (ba c / 4 &&& 51)
theorem bc_a : ∀ c, c < 256 → ∀ y, y < 2 → (c / 2 + 128 * y) &&& 85 = c / 2 &&& 85 := by decide +kernel
theorem bc_b : ∀ c, c < 256 → ∀ y, y < 4 → (c / 4 + 64 * y) &&& 51 = c / 4 &&& 51 := by decide +kernel
theorem bc_ab : ∀ c, c < 256 → ba c < 256 := by decide +kernel
theorem bc_bb : ∀ c, c < 256 → bb_ c ≤ 68 ∧ bb_ c % 16 ≤ 4 ∧ (bb_ c + bb_ c / 16) % 16 = pop c 8 := by decide +kernel
theorem bc_A {c Y M : Nat} (hc : c < 256) : (c + 256 * Y) - ((c + 256 * Y) / 2 &&& (85 + 256 * M)) = ba c + 256 * (Y - (Y / 2 &&& M)) := by
  have e : (c + 256 * Y) / 2 = (c / 2 + 128 * (Y % 2)) + 256 * (Y / 2) := by omega
  rw [e, bc_split (by omega) (by decide), bc_a c hc _ (Nat.mod_lt _ (by decide))]
  have h1 : c / 2 &&& 85 ≤ c / 2 := Nat.and_le_left
  have h2 : Y / 2 &&& M ≤ Y / 2 := Nat.and_le_left
  unfold ba
  omega
theorem bc_B {c Y M : Nat} (hc : c < 256) : ((c + 256 * Y) &&& (51 + 256 * M)) + ((c + 256 * Y) / 4 &&& (51 + 256 * M)) = ((c &&& 51) + (c / 4 &&& 51)) + 256 * ((Y &&& M) + (Y / 4 &&& M)) := by
  have e : (c + 256 * Y) / 4 = (c / 4 + 64 * (Y % 4)) + 256 * (Y / 4) := by omega
  rw [e, bc_split hc (by decide), bc_split (by omega) (by decide), bc_b c hc _ (Nat.mod_lt _ (by decide))]
  omega
theorem bc_C {c Y M : Nat} (hc : c ≤ 68) (hY : Y % 16 ≤ 4) : ((c + 256 * Y) + (c + 256 * Y) / 16) &&& (15 + 256 * M) = (c + c / 16) % 16 + 256 * ((Y + Y / 16) &&& M) := by
  have e : (c + 256 * Y) + (c + 256 * Y) / 16 = (c + c / 16 + 16 * (Y % 16)) + 256 * (Y + Y / 16) := by omega
  rw [e, bc_split (by omega) (by decide), show (15 : Nat) = 2 ^ 4 - 1 from rfl, Nat.and_two_pow_sub_one_eq_mod]
  omega
def b1 (d : Nat) : Nat := d - (d / 2 &&& 6148914691236517205)
def b2 (d : Nat) : Nat := (b1 d &&& 3689348814741910323) + (b1 d / 4 &&& 3689348814741910323)
def b3 (d : Nat) : Nat := (b2 d + b2 d / 16) &&& 1085102592571150095
theorem and_top (k : Nat) {x m M : Nat} (hx : x < 2 ^ k) (e : m = M % 2 ^ k) : x &&& M = x &&& m := by
  rw [e]
  have h1 : (x &&& M) % 2 ^ k = x &&& M % 2 ^ k := by
    rw [Nat.and_mod_two_pow, Nat.mod_eq_of_lt hx]
  rw [← h1, Nat.mod_eq_of_lt (Nat.lt_of_le_of_lt Nat.and_le_left hx)]
theorem bc_1 (c0 c1 c2 c3 : Nat) (h0 : c0 < 256) (h1 : c1 < 256) (h2 : c2 < 256) (h3 : c3 < 256) : b1 (c0 + 256 * (c1 + 256 * (c2 + 256 * (c3 + 256 * 0)))) = ba c0 + 256 * (ba c1 + 256 * (ba c2 + 256 * (ba c3 + 256 * 0))) := by
  unfold b1
  rw [show (6148914691236517205 : Nat) = 85 + 256 * (85 + 256 * (85 + 256 * (85 + 256 * 1431655765))) from rfl]
  rw [bc_A h0, bc_A h1, bc_A h2, bc_A h3]
  simp
theorem bc_2 (d c0 c1 c2 c3 : Nat) (h0 : c0 < 256) (h1 : c1 < 256) (h2 : c2 < 256) (h3 : c3 < 256) (e : d = c0 + 256 * (c1 + 256 * (c2 + 256 * (c3 + 256 * 0)))) : b2 d = bb_ c0 + 256 * (bb_ c1 + 256 * (bb_ c2 + 256 * (bb_ c3 + 256 * 0))) := by
  unfold b2
  rw [e, bc_1 c0 c1 c2 c3 h0 h1 h2 h3]
  rw [show (3689348814741910323 : Nat) = 51 + 256 * (51 + 256 * (51 + 256 * (51 + 256 * 858993459))) from rfl]
  rw [bc_B (bc_ab c0 h0), bc_B (bc_ab c1 h1), bc_B (bc_ab c2 h2), bc_B (bc_ab c3 h3)]
  simp [bb_]
theorem bc_3 (d c0 c1 c2 c3 : Nat) (h0 : c0 < 256) (h1 : c1 < 256) (h2 : c2 < 256) (h3 : c3 < 256) (e : d = c0 + 256 * (c1 + 256 * (c2 + 256 * (c3 + 256 * 0)))) : b3 d = pop c0 8 + 256 * (pop c1 8 + 256 * (pop c2 8 + 256 * pop c3 8)) := by
  unfold b3
  rw [bc_2 d c0 c1 c2 c3 h0 h1 h2 h3 e]
  obtain ⟨x0, y0, z0⟩ := bc_bb c0 h0
  obtain ⟨x1, y1, z1⟩ := bc_bb c1 h1
  obtain ⟨x2, y2, z2⟩ := bc_bb c2 h2
  obtain ⟨x3, y3, z3⟩ := bc_bb c3 h3
  rw [show (1085102592571150095 : Nat) = 15 + 256 * (15 + 256 * (15 + 256 * (15 + 256 * 252645135))) from rfl]
  rw [bc_C x0 (by omega), bc_C x1 (by omega), bc_C x2 (by omega), bc_C x3 (by omega), z0, z1, z2, z3]
  simp
theorem bc_fin {d : Nat} (hd : d < 4294967296) : ∃ p0 p1 p2 p3, p0 ≤ 8 ∧ p1 ≤ 8 ∧ p2 ≤ 8 ∧ p3 ≤ 8 ∧ b3 d = p0 + 256 * (p1 + 256 * (p2 + 256 * p3)) ∧ pop d 32 = p0 + p1 + p2 + p3 := by
  refine ⟨_, _, _, _, pop_le _ _, pop_le _ _, pop_le _ _, pop_le _ _, bc_3 d (d % 256) (d / 256 % 256) (d / 65536 % 256) (d / 16777216) (by omega) (by omega) (by omega) (by omega) (by omega), ?_⟩
  rw [show 32 = 8 + (8 + (8 + 8)) from rfl, pop_add, pop_add, pop_add, ← pop_mod d 8 8 (Nat.le_refl 8), ← pop_mod (d / 2 ^ 8) 8 8 (Nat.le_refl 8), ← pop_mod (d / 2 ^ 8 / 2 ^ 8) 8 8 (Nat.le_refl 8), Nat.div_div_eq_div_mul, Nat.div_div_eq_div_mul]
  simp only [show 2 ^ 8 = 256 from rfl, show 256 * 256 = 65536 from rfl, show 65536 * 256 = 16777216 from rfl]
  omega
theorem bc_end {p0 p1 p2 p3 n : Nat} (q0 : p0 ≤ 8) (q1 : p1 ≤ 8) (q2 : p2 ≤ 8) (q3 : p3 ≤ 8) (e : n = p0 + 256 * (p1 + 256 * (p2 + 256 * p3))) : (n + n / 256 + (n + n / 256) / 65536) % 128 = p0 + p1 + p2 + p3 := by
  have e1 : n / 256 = p1 + 256 * (p2 + 256 * p3) := by omega
  have e2 : (n + n / 256) / 65536 = p2 + p3 + 256 * p3 := by omega
  omega
theorem b3_le {d : Nat} (hd : d < 4294967296) : b1 d < 4294967296 ∧ b2 d < 4294967296 * 2 ∧ b3 d < 4294967296 := by
  have h1 : b1 d ≤ d := Nat.sub_le _ _
  have h2 : b1 d &&& 3689348814741910323 ≤ b1 d := Nat.and_le_left
  have h3 : b1 d / 4 &&& 3689348814741910323 ≤ b1 d / 4 := Nat.and_le_left
  obtain ⟨p0, p1, p2, p3, q0, q1, q2, q3, e, -⟩ := bc_fin hd
  refine ⟨by omega, ?_, by omega⟩
  unfold b2
  omega
theorem nI_127 {n : Nat} (hn : n < 2 ^ 31) : nI n &&& 127 = nI (n % 128) := by
  have e : nI n &&& nI 127 = nI (n &&& 127) := by
    apply Int32.toBitVec_inj.mp
    apply BitVec.eq_of_toNat_eq
    show (BitVec.ofNat 32 n &&& BitVec.ofNat 32 127).toNat = (BitVec.ofNat 32 (n &&& 127)).toNat
    rw [BitVec.toNat_and, BitVec.toNat_ofNat, BitVec.toNat_ofNat, BitVec.toNat_ofNat, Nat.mod_eq_of_lt (show n < 2 ^ 32 by omega), Nat.mod_eq_of_lt (show 127 < 2 ^ 32 by decide), Nat.mod_eq_of_lt]
    exact Nat.and_lt_two_pow _ (by decide)
  rw [show (127 : Int32) = nI 127 from rfl, e]
  congr 1
  exact Nat.and_two_pow_sub_one_eq_mod n 7
section
variable {l : Launch} {D : va_G} {tys : List (ClassId × FieldType)}
set_option maxRecDepth 100000 in
set_option maxHeartbeats 4000000 in
theorem cJL_bitCount (h : vx_h) {d : Nat} (hd : d < 4294967296) : vx_M l D vcl tys my_JL_bitCount lw_gd (rm_ 0 0 0 0) [.long (lN d)] h (fun v h' k n => v = some (.int (nI (pop d 32))) ∧ h' = h ∧ k = 0 ∧ n = 0) := by
  obtain ⟨g1, g2, g3⟩ := b3_le hd
  obtain ⟨p0, p1, p2, p3, q0, q1, q2, q3, e3, ep⟩ := bc_fin hd
  refine vx_M.ofV (cc := bc_JL_bitCount) (maxL := 2) (ret := some .int) (own := "java/lang/Long") false rfl (by decide +kernel) wC_JL_bitCount (fun q => by cases q) (Nat.le_of_ble_eq_true rfl) (fun A H0 G IG RG => ?_)
  show vx_V _ _ _ _ _ _ _ _ _ 0 [(0, .long (lN d))] []
  refine vx_lload_n IG dc_JL_bitCount_0 rfl 0 rfl ?_
  refine vx_lload_n IG dc_JL_bitCount_1 rfl 0 rfl ?_
  refine vx_iconst (v := 1) IG dc_JL_bitCount_2 (by decide) ?_
  refine vx_lushr (v := lN (d / 2)) IG dc_JL_bitCount_3 (wb_shr (k := 1) (Nat.lt_trans hd (by decide)) (by decide)) ?_
  refine vx_ldc2 (v := 6148914691236517205) IG wK_JL_314 dc_JL_bitCount_4 ?_
  refine vx_land IG dc_JL_bitCount_7 ?_
  refine vx_topl (y := lN (d / 2 &&& 6148914691236517205)) (wb_and (b := 6148914691236517205) (by omega) (by decide)) ?_
  refine vx_lsub IG dc_JL_bitCount_8 ?_
  refine vx_topl (y := lN (b1 d)) (lN_sub (Nat.le_trans Nat.and_le_left (Nat.div_le_self _ _))) ?_
  refine vx_lstore_n (lv' := [(0, .long (lN (b1 d)))]) IG dc_JL_bitCount_9 rfl (by decide) rfl ?_
  refine vx_lload_n IG dc_JL_bitCount_10 rfl 0 rfl ?_
  refine vx_ldc2 (v := 3689348814741910323) IG wK_JL_316 dc_JL_bitCount_11 ?_
  refine vx_land IG dc_JL_bitCount_14 ?_
  refine vx_topl (y := lN (b1 d &&& 3689348814741910323)) (wb_and (b := 3689348814741910323) (by omega) (by decide)) ?_
  refine vx_lload_n IG dc_JL_bitCount_15 rfl 0 rfl ?_
  refine vx_iconst (v := 2) IG dc_JL_bitCount_16 (by decide) ?_
  refine vx_lushr (v := lN (b1 d / 4)) IG dc_JL_bitCount_17 (wb_shr (k := 2) (Nat.lt_trans g1 (by decide)) (by decide)) ?_
  refine vx_ldc2 (v := 3689348814741910323) IG wK_JL_316 dc_JL_bitCount_18 ?_
  refine vx_land IG dc_JL_bitCount_21 ?_
  refine vx_topl (y := lN (b1 d / 4 &&& 3689348814741910323)) (wb_and (b := 3689348814741910323) (by omega) (by decide)) ?_
  refine vx_ladd IG dc_JL_bitCount_22 ?_
  refine vx_topl (y := lN (b2 d)) (lN_add _ _) ?_
  refine vx_lstore_n (lv' := [(0, .long (lN (b2 d)))]) IG dc_JL_bitCount_23 rfl (by decide) rfl ?_
  refine vx_lload_n IG dc_JL_bitCount_24 rfl 0 rfl ?_
  refine vx_lload_n IG dc_JL_bitCount_25 rfl 0 rfl ?_
  refine vx_iconst (v := 4) IG dc_JL_bitCount_26 (by decide) ?_
  refine vx_lushr (v := lN (b2 d / 16)) IG dc_JL_bitCount_27 (wb_shr (k := 4) (Nat.lt_trans g2 (by decide)) (by decide)) ?_
  refine vx_ladd IG dc_JL_bitCount_28 ?_
  refine vx_topl (y := lN (b2 d + b2 d / 16)) (lN_add _ _) ?_
  refine vx_ldc2 (v := 1085102592571150095) IG wK_JL_318 dc_JL_bitCount_29 ?_
  refine vx_land IG dc_JL_bitCount_32 ?_
  refine vx_topl (y := lN (b3 d)) (wb_and (b := 1085102592571150095) (by omega) (by decide)) ?_
  refine vx_lstore_n (lv' := [(0, .long (lN (b3 d)))]) IG dc_JL_bitCount_33 rfl (by decide) rfl ?_
  refine vx_lload_n IG dc_JL_bitCount_34 rfl 0 rfl ?_
  refine vx_lload_n IG dc_JL_bitCount_35 rfl 0 rfl ?_
  refine vx_bipush (v := 8) IG dc_JL_bitCount_36 (by decide) ?_
  refine vx_lushr (v := lN (b3 d / 256)) IG dc_JL_bitCount_38 (wb_shr (k := 8) (Nat.lt_trans g3 (by decide)) (by decide)) ?_
  refine vx_ladd IG dc_JL_bitCount_39 ?_
  refine vx_topl (y := lN (b3 d + b3 d / 256)) (lN_add _ _) ?_
  refine vx_lstore_n (lv' := [(0, .long (lN (b3 d + b3 d / 256)))]) IG dc_JL_bitCount_40 rfl (by decide) rfl ?_
  refine vx_lload_n IG dc_JL_bitCount_41 rfl 0 rfl ?_
  refine vx_lload_n IG dc_JL_bitCount_42 rfl 0 rfl ?_
  refine vx_bipush (v := 16) IG dc_JL_bitCount_43 (by decide) ?_
  refine vx_lushr (v := lN ((b3 d + b3 d / 256) / 65536)) IG dc_JL_bitCount_45 (wb_shr (k := 16) (by omega) (by decide)) ?_
  refine vx_ladd IG dc_JL_bitCount_46 ?_
  refine vx_topl (y := lN (b3 d + b3 d / 256 + (b3 d + b3 d / 256) / 65536)) (lN_add _ _) ?_
  refine vx_lstore_n (lv' := [(0, .long (lN (b3 d + b3 d / 256 + (b3 d + b3 d / 256) / 65536)))]) IG dc_JL_bitCount_47 rfl (by decide) rfl ?_
  refine vx_lload_n IG dc_JL_bitCount_48 rfl 0 rfl ?_
  refine vx_lload_n IG dc_JL_bitCount_49 rfl 0 rfl ?_
  refine vx_bipush (v := 32) IG dc_JL_bitCount_50 (by decide) ?_
  refine vx_lushr (v := lN 0) IG dc_JL_bitCount_52 ((wb_shr (k := 32) (by omega) (by decide)).trans (by congr 1; omega)) ?_
  refine vx_ladd IG dc_JL_bitCount_53 ?_
  refine vx_topl (y := lN (b3 d + b3 d / 256 + (b3 d + b3 d / 256) / 65536)) (lN_add _ _) ?_
  refine vx_lstore_n (lv' := [(0, .long (lN (b3 d + b3 d / 256 + (b3 d + b3 d / 256) / 65536)))]) IG dc_JL_bitCount_54 rfl (by decide) rfl ?_
  refine vx_lload_n IG dc_JL_bitCount_55 rfl 0 rfl ?_
  refine vx_l2i (v := nI (b3 d + b3 d / 256 + (b3 d + b3 d / 256) / 65536)) IG dc_JL_bitCount_56 (lN_i _) ?_
  refine vx_bipush (v := 127) IG dc_JL_bitCount_57 (by decide) ?_
  refine vx_iand IG dc_JL_bitCount_59 ?_
  refine vx_topi (y := nI (pop d 32)) (by rw [nI_127 (by omega), bc_end q0 q1 q2 q3 e3, ep]) ?_
  refine vx_ret (some (.int (nI (pop d 32)))) RG (vx_endi (by first | rfl | decide) dc_JL_bitCount_60) rfl ?_
  exact ⟨rfl, rfl, rfl, rfl⟩
end
section
variable {l : Launch} {D : va_G} {tys : List (ClassId × FieldType)} {cJ : ClassId} {L : List Nat} {r : vx_h} {p : Nat} {h : vx_h} {V : Nat → Nat} {C S : Nat}
theorem pop_digit (X i : Nat) : pop X (32 * (i + 1)) = pop X (32 * i) + pop (dg 4294967296 X i) 32 := by
  rw [Nat.mul_add, pop_add, ← bp32]
  congr 1
  unfold dg
  exact (pop_mod _ 32 32 (Nat.le_refl 32)).symm
set_option maxRecDepth 100000 in
set_option maxHeartbeats 4000000 in
/-- countOnes() -/
theorem cW_countOnes (HP : pool cJ L r V h C S) (hp : p ∈ L) (ht : tys[0]? = some (cJ, .long)) : vx_M l D vcl tys my_W_countOnes lw_gd (rm_ 1 0 0 21) [.ref p] h (fun v h' k m => v = some (.int (nI (pop (V p) (32 * nd 4294967296 (V p))))) ∧ h' = h ∧ k = 0 ∧ m = 0) := by
  obtain ⟨ar, cp, cn, fn, HR, hV, hC, hS⟩ := HP
  have hv := hV p hp
  have hcx := rw_cap HR hp
  have hx2 := hv.2.1
  refine vx_M.ofV (cc := bc_W_countOnes) (maxL := 3) (ret := some .int) (own := rW) false rfl (by decide +kernel) wC_W_countOnes (fun q => by cases q) (Nat.le_of_ble_eq_true rfl) (fun A H0 G IG RG => ?_)
  show vx_V _ _ _ _ _ _ _ _ _ 0 [(0, .ref p)] []
  generalize eX : V p = X at *
  have loop : ∀ (m i : Nat), i + m = nd 4294967296 X → vx_V D vcl A H0 3 G h 0 0 4 [(2, .int (nI i)), (1, .int (nI (pop X (32 * i)))), (0, .ref p)] [] := by
    intro m
    induction m with
    | zero =>
      intro i him
      refine vx_iload_n IG dc_W_countOnes_4 rfl 0 rfl ?_
      refine vx_aload_n IG dc_W_countOnes_5 rfl 2 rfl ?_
      refine wr_cnt IG HR hp wF_W_15 dc_W_countOnes_6 ?_
      refine vx_topi (y := nI (nd 4294967296 X)) hv.1 ?_
      refine vx_icmp_ge (tgt := 30) IG dc_W_countOnes_9 (by decide) (fun _ => ?_) (fun c_ => absurd (nI_le (by omega) (by omega)) c_)
      refine vx_iload_n IG dc_W_countOnes_30 rfl 1 rfl ?_
      refine vx_ret (some (.int (nI (pop X (32 * i))))) RG (vx_endi (by first | rfl | decide) dc_W_countOnes_31) rfl ?_
      exact ⟨by rw [show i = nd 4294967296 X by omega], rfl, rfl, rfl⟩
    | succ m ih =>
      intro i him
      have gx := dg_lt bB1 X i
      refine vx_iload_n IG dc_W_countOnes_4 rfl 0 rfl ?_
      refine vx_aload_n IG dc_W_countOnes_5 rfl 2 rfl ?_
      refine wr_cnt IG HR hp wF_W_15 dc_W_countOnes_6 ?_
      refine vx_topi (y := nI (nd 4294967296 X)) hv.1 ?_
      refine vx_icmp_ge (tgt := 30) IG dc_W_countOnes_9 (by decide) (fun c_ => absurd c_ (nI_ge (by omega) (by omega))) (fun _ => ?_)
      refine vx_iload_n IG dc_W_countOnes_12 rfl 1 rfl ?_
      refine vx_aload_n IG dc_W_countOnes_13 rfl 2 rfl ?_
      refine wr_dig IG HR hp wF_W_11 dc_W_countOnes_14 ?_
      refine vx_iload_n IG dc_W_countOnes_17 rfl 0 rfl ?_
      refine wr_ald IG HR hp ht i rfl (by omega) dc_W_countOnes_18 ?_
      refine vx_topl (y := lN (dg 4294967296 X i)) (hv.2.2 i (by omega)) ?_
      refine vx_callS (As := [.long (lN (dg 4294967296 X i))]) (st := [.int (nI (pop X (32 * i)))]) IG lw_good (cJL_bitCount _ gx) wC_JL_bitCount wL_W_63 wT_JL_bitCount wX_JL 1 (by decide +kernel) rfl ⟨Nat.le_of_ble_eq_true rfl, Nat.le_of_ble_eq_true rfl⟩ ⟨(by dsimp only [rm_]; omega), (by dsimp only [rm_]; omega)⟩ rfl (Nat.le_of_ble_eq_true rfl) dc_W_countOnes_19 (fun v h k_ n_ hq => ?_)
      obtain ⟨rfl, rfl, rfl, rfl⟩ := hq
      show vx_V _ _ _ _ _ _ _ _ _ 22 [(2, .int (nI i)), (1, .int (nI (pop X (32 * i)))), (0, .ref p)] [.int (nI (pop (dg 4294967296 X i) 32)), .int (nI (pop X (32 * i)))]
      refine vx_iadd IG dc_W_countOnes_22 ?_
      refine vx_topi (y := nI (pop X (32 * (i + 1)))) (by rw [nI_add, pop_digit]) ?_
      refine vx_istore_n (lv' := [(1, .int (nI (pop X (32 * (i + 1))))), (2, .int (nI i)), (0, .ref p)]) IG dc_W_countOnes_23 rfl (by decide) rfl ?_
      refine vx_iinc (q := 1) (v := nI (i + 1)) (lv' := [(2, .int (nI (i + 1))), (1, .int (nI (pop X (32 * (i + 1))))), (0, .ref p)]) IG dc_W_countOnes_24 rfl (nI_1 i) (by decide) rfl ?_
      refine vx_goto (tgt := 4) IG dc_W_countOnes_27 (by decide) ?_
      exact ih (i + 1) (by omega)
  refine vx_iconst (v := 0) IG dc_W_countOnes_0 (by decide) ?_
  refine vx_istore_n (lv' := [(1, .int 0), (0, .ref p)]) IG dc_W_countOnes_1 rfl (by decide) rfl ?_
  refine vx_iconst (v := 0) IG dc_W_countOnes_2 (by decide) ?_
  refine vx_istore_n (lv' := [(2, .int 0), (1, .int 0), (0, .ref p)]) IG dc_W_countOnes_3 rfl (by decide) rfl ?_
  exact loop (nd 4294967296 X) 0 (by omega)
theorem bf_num {B P Q Z : Nat} (hB : B = P * Q) : Z / P % (B * B) = Z % B / P + Z / B % B * Q + Z / (B * B) % B % P * (Q * B) := by
  have e1 : B * B = Q * (B * P) := by rw [Nat.mul_left_comm, Nat.mul_comm Q P, ← hB]
  have e2 : Z / P % Q = Z % B / P := by rw [hB, Nat.mod_mul_right_div_self]
  have e3 : Z / P / Q = Z / B := by rw [Nat.div_div_eq_div_mul, ← hB]
  have e4 : Z / (B * B) % B % P = Z / B / B % P := by rw [Nat.mod_mod_of_dvd _ ⟨Q, hB⟩, Nat.div_div_eq_div_mul]
  rw [show Z / P % (B * B) = Z / P % (Q * (B * P)) by rw [e1], Nat.mod_mul, e2, e3, Nat.mod_mul, e4, Nat.mul_add, ← Nat.add_assoc, Nat.mul_comm Q, Nat.mul_comm (Z / B / B % P), Nat.mul_assoc]
theorem bf_dg (N k j : Nat) : dg 4294967296 N (k + j) = N / 4294967296 ^ k / 4294967296 ^ j % 4294967296 := by
  unfold dg
  rw [Nat.pow_add, Nat.div_div_eq_div_mul]
theorem bf_all (N k : Nat) {w : Nat} (hw : w ≤ 32) : N / 2 ^ (32 * k + w) % 18446744073709551616 = dg 4294967296 N k / 2 ^ w + dg 4294967296 N (k + 1) * 2 ^ (32 - w) + dg 4294967296 N (k + 2) % 2 ^ w * 2 ^ (64 - w) := by
  have h := bf_num (Z := N / 4294967296 ^ k) (bB2 hw)
  rw [Nat.pow_add, ← bp32, ← Nat.div_div_eq_div_mul]
  rw [show (4294967296 : Nat) * 4294967296 = 18446744073709551616 from rfl] at h
  rw [h, bf_dg N k 1, bf_dg N k 2, Nat.pow_one]
  congr 2
  rw [show (4294967296 : Nat) = 2 ^ 32 from rfl, ← Nat.pow_add]
  congr 1
  omega
theorem bf_shl (x : Nat) {w : Nat} (hw : w ≤ 64) : lN (x * 2 ^ (64 - w)) = lN (x % 2 ^ w * 2 ^ (64 - w)) := by
  rw [wb_mod]
  congr 1
  rw [show 2 ^ 64 = 2 ^ w * 2 ^ (64 - w) by rw [← Nat.pow_add]; congr 1; omega, Nat.mul_mod_mul_right]
set_option maxRecDepth 100000 in
set_option maxHeartbeats 4000000 in
/-- bitsFrom(place) -/
theorem cW_bitsFrom (HP : pool cJ L r V h C S) (hp : p ∈ L) (ht : tys[0]? = some (cJ, .long)) {j : Nat} (hj : j < 1000000) : vx_M l D vcl tys my_W_bitsFrom lw_gd (rm_ 1 0 0 21) [.ref p, .int (nI j)] h (fun v h' k m => v = some (.long (lN (V p / 2 ^ j % 18446744073709551616))) ∧ h' = h ∧ k = 0 ∧ m = 0) := by
  obtain ⟨ar, cp, cn, fn, HR, hV, hC, hS⟩ := HP
  have hv := hV p hp
  have g0 := dg_lt bB1 (V p) (j / 32)
  have g1 := dg_lt bB1 (V p) (j / 32 + 1)
  have hw : j % 32 < 32 := by omega
  have hP : 0 < 2 ^ (j % 32) := Nat.pow_pos (by decide)
  have hall := bf_all (V p) (j / 32) (Nat.le_of_lt hw)
  rw [show 32 * (j / 32) + j % 32 = j by omega] at hall
  have hlow : dg 4294967296 (V p) (j / 32) / 2 ^ (j % 32) < 2 ^ (32 - j % 32) := by
    rw [Nat.div_lt_iff_lt_mul hP, Nat.mul_comm, ← bB2 (Nat.le_of_lt hw)]
    exact g0
  have hmid : dg 4294967296 (V p) (j / 32) / 2 ^ (j % 32) + dg 4294967296 (V p) (j / 32 + 1) * 2 ^ (32 - j % 32) < 2 ^ (64 - j % 32) := by
    have e : 2 ^ (64 - j % 32) = 4294967296 * 2 ^ (32 - j % 32) := by rw [show (4294967296 : Nat) = 2 ^ 32 from rfl, ← Nat.pow_add]; congr 1; omega
    rw [e]
    have h2 : (dg 4294967296 (V p) (j / 32 + 1) + 1) * 2 ^ (32 - j % 32) ≤ 4294967296 * 2 ^ (32 - j % 32) := Nat.mul_le_mul_right _ (by omega)
    rw [Nat.add_mul, Nat.one_mul] at h2
    omega
  have h64 : 2 ^ (64 - j % 32) ≤ 18446744073709551616 := Nat.pow_le_pow_right (n := 2) (by decide) (show 64 - j % 32 ≤ 64 by omega)
  refine vx_M.ofV (cc := bc_W_bitsFrom) (maxL := 6) (ret := some .long) (own := rW) false rfl (by decide +kernel) wC_W_bitsFrom (fun q => by cases q) (Nat.le_of_ble_eq_true rfl) (fun A H0 G IG RG => ?_)
  show vx_V _ _ _ _ _ _ _ _ _ 0 [(0, .ref p), (1, .int (nI j))] []
  refine vx_iload_n IG dc_W_bitsFrom_0 rfl 1 rfl ?_
  refine vx_bipush (v := 32) IG dc_W_bitsFrom_1 (by decide) ?_
  refine vx_idiv IG dc_W_bitsFrom_3 nI_ne32 ?_
  refine vx_topi (y := nI (j / 32)) (nI_div32 (by omega)) ?_
  refine vx_istore_n (lv' := [(2, .int (nI (j / 32))), (0, .ref p), (1, .int (nI j))]) IG dc_W_bitsFrom_4 rfl (by decide) rfl ?_
  refine vx_iload_n IG dc_W_bitsFrom_5 rfl 2 rfl ?_
  refine vx_bipush (v := 31) IG dc_W_bitsFrom_6 (by decide) ?_
  refine vx_iand IG dc_W_bitsFrom_8 ?_
  refine vx_topi (y := nI (j % 32)) (nI_and31 (by omega)) ?_
  refine vx_istore_n (lv' := [(3, .int (nI (j % 32))), (2, .int (nI (j / 32))), (0, .ref p), (1, .int (nI j))]) IG dc_W_bitsFrom_9 rfl (by decide) rfl ?_
  refine vx_aload_n IG dc_W_bitsFrom_10 rfl 2 rfl ?_
  refine vx_iload_n IG dc_W_bitsFrom_11 rfl 1 rfl ?_
  refine vx_callV (As := [.int (nI (j / 32))]) (st := []) IG lw_good (cW_digitAt HR hp ht hv (j := j / 32) (by omega)) (rw_obj HR hp) rfl wC_W_digitAt wL_W_46 wI_W_digitAt wS_W_digitAt wX_W 1 (by decide +kernel) rfl ⟨Nat.le_of_ble_eq_true rfl, Nat.le_of_ble_eq_true rfl⟩ ⟨(by dsimp only [rm_]; omega), (by dsimp only [rm_]; omega)⟩ rfl (Nat.le_of_ble_eq_true rfl) dc_W_bitsFrom_12 (fun v h k1 n1 hq => ?_)
  obtain ⟨rfl, rfl, rfl, rfl⟩ := hq
  show vx_V _ _ _ _ _ _ _ _ _ 15 [(3, .int (nI (j % 32))), (2, .int (nI (j / 32))), (0, .ref p), (1, .int (nI j))] [.long (lN (dg 4294967296 (V p) (j / 32)))]
  refine vx_iload_n IG dc_W_bitsFrom_15 rfl 0 rfl ?_
  refine vx_lushr (v := lN (dg 4294967296 (V p) (j / 32) / 2 ^ (j % 32))) IG dc_W_bitsFrom_16 (wb_shr (Nat.lt_trans g0 (by decide)) (by omega)) ?_
  refine vx_aload_n IG dc_W_bitsFrom_17 rfl 2 rfl ?_
  refine vx_iload_n IG dc_W_bitsFrom_18 rfl 1 rfl ?_
  refine vx_iconst (v := 1) IG dc_W_bitsFrom_19 (by decide) ?_
  refine vx_iadd IG dc_W_bitsFrom_20 ?_
  refine vx_topi (y := nI (j / 32 + 1)) (nI_1 _) ?_
  refine vx_callV (As := [.int (nI (j / 32 + 1))]) (st := [.long (lN (dg 4294967296 (V p) (j / 32) / 2 ^ (j % 32)))]) IG lw_good (cW_digitAt HR hp ht hv (j := j / 32 + 1) (by omega)) (rw_obj HR hp) rfl wC_W_digitAt wL_W_46 wI_W_digitAt wS_W_digitAt wX_W 1 (by decide +kernel) rfl ⟨Nat.le_of_ble_eq_true rfl, Nat.le_of_ble_eq_true rfl⟩ ⟨(by dsimp only [rm_]; omega), (by dsimp only [rm_]; omega)⟩ rfl (Nat.le_of_ble_eq_true rfl) dc_W_bitsFrom_21 (fun v h k2 n2 hq => ?_)
  obtain ⟨rfl, rfl, rfl, rfl⟩ := hq
  show vx_V _ _ _ _ _ _ _ _ _ 24 [(3, .int (nI (j % 32))), (2, .int (nI (j / 32))), (0, .ref p), (1, .int (nI j))] [.long (lN (dg 4294967296 (V p) (j / 32 + 1))), .long (lN (dg 4294967296 (V p) (j / 32) / 2 ^ (j % 32)))]
  refine vx_bipush (v := 32) IG dc_W_bitsFrom_24 (by decide) ?_
  refine vx_iload_n IG dc_W_bitsFrom_26 rfl 0 rfl ?_
  refine vx_isub IG dc_W_bitsFrom_27 ?_
  refine vx_topi (y := nI (32 - j % 32)) (nI_sub32 (Nat.le_of_lt hw)) ?_
  refine vx_lshl (v := lN (dg 4294967296 (V p) (j / 32 + 1) * 2 ^ (32 - j % 32))) IG dc_W_bitsFrom_28 (wb_shl _ (by omega)) ?_
  refine vx_lor IG dc_W_bitsFrom_29 ?_
  refine vx_topl (y := lN (dg 4294967296 (V p) (j / 32) / 2 ^ (j % 32) + dg 4294967296 (V p) (j / 32 + 1) * 2 ^ (32 - j % 32))) (g_or' rfl hlow (by omega)) ?_
  refine vx_lstore (lv' := [(4, .long (lN (dg 4294967296 (V p) (j / 32) / 2 ^ (j % 32) + dg 4294967296 (V p) (j / 32 + 1) * 2 ^ (32 - j % 32)))), (3, .int (nI (j % 32))), (2, .int (nI (j / 32))), (0, .ref p), (1, .int (nI j))]) IG dc_W_bitsFrom_30 (by decide) rfl ?_
  refine vx_iload_n IG dc_W_bitsFrom_32 rfl 1 rfl ?_
  by_cases z : j % 32 = 0
  · refine vx_if_ne (tgt := 41) IG dc_W_bitsFrom_33 (by decide) (fun c_ => absurd (by rw [z]; rfl) c_) (fun _ => ?_)
    refine vx_lload IG dc_W_bitsFrom_36 0 rfl ?_
    refine vx_goto (tgt := 56) IG dc_W_bitsFrom_38 (by decide) ?_
    refine vx_ret (some (.long (lN (dg 4294967296 (V p) (j / 32) / 2 ^ (j % 32) + dg 4294967296 (V p) (j / 32 + 1) * 2 ^ (32 - j % 32))))) RG (vx_endl dc_W_bitsFrom_56) rfl ?_
    refine ⟨?_, rfl, rfl, rfl⟩
    rw [hall, show dg 4294967296 (V p) (j / 32 + 2) % 2 ^ (j % 32) = 0 by rw [z, Nat.pow_zero, Nat.mod_one], Nat.zero_mul]
    exact congrArg (fun x => some (Value.long (lN x))) (Nat.add_zero _).symm
  · refine vx_if_ne (tgt := 41) IG dc_W_bitsFrom_33 (by decide) (fun _ => ?_) (fun c_ => absurd c_ (nI_ne0 (by omega) (by omega)))
    refine vx_lload IG dc_W_bitsFrom_41 0 rfl ?_
    refine vx_aload_n IG dc_W_bitsFrom_43 rfl 3 rfl ?_
    refine vx_iload_n IG dc_W_bitsFrom_44 rfl 2 rfl ?_
    refine vx_iconst (v := 2) IG dc_W_bitsFrom_45 (by decide) ?_
    refine vx_iadd IG dc_W_bitsFrom_46 ?_
    refine vx_topi (y := nI (j / 32 + 2)) (nI_add _ 2) ?_
    refine vx_callV (As := [.int (nI (j / 32 + 2))]) (st := [.long (lN (dg 4294967296 (V p) (j / 32) / 2 ^ (j % 32) + dg 4294967296 (V p) (j / 32 + 1) * 2 ^ (32 - j % 32)))]) IG lw_good (cW_digitAt HR hp ht hv (j := j / 32 + 2) (by omega)) (rw_obj HR hp) rfl wC_W_digitAt wL_W_46 wI_W_digitAt wS_W_digitAt wX_W 1 (by decide +kernel) rfl ⟨Nat.le_of_ble_eq_true rfl, Nat.le_of_ble_eq_true rfl⟩ ⟨(by dsimp only [rm_]; omega), (by dsimp only [rm_]; omega)⟩ rfl (Nat.le_of_ble_eq_true rfl) dc_W_bitsFrom_47 (fun v h k3 n3 hq => ?_)
    obtain ⟨rfl, rfl, rfl, rfl⟩ := hq
    show vx_V _ _ _ _ _ _ _ _ _ 50 [(4, .long (lN (dg 4294967296 (V p) (j / 32) / 2 ^ (j % 32) + dg 4294967296 (V p) (j / 32 + 1) * 2 ^ (32 - j % 32)))), (3, .int (nI (j % 32))), (2, .int (nI (j / 32))), (0, .ref p), (1, .int (nI j))] [.long (lN (dg 4294967296 (V p) (j / 32 + 2))), .long (lN (dg 4294967296 (V p) (j / 32) / 2 ^ (j % 32) + dg 4294967296 (V p) (j / 32 + 1) * 2 ^ (32 - j % 32)))]
    refine vx_bipush (v := 64) IG dc_W_bitsFrom_50 (by decide) ?_
    refine vx_iload_n IG dc_W_bitsFrom_52 rfl 1 rfl ?_
    refine vx_isub IG dc_W_bitsFrom_53 ?_
    refine vx_topi (y := nI (64 - j % 32)) (pk_sub (a := 64) (show j % 32 ≤ 64 by omega)) ?_
    refine vx_lshl (v := lN (dg 4294967296 (V p) (j / 32 + 2) % 2 ^ (j % 32) * 2 ^ (64 - j % 32))) IG dc_W_bitsFrom_54 ((wb_shl _ (by omega)).trans (bf_shl _ (by omega))) ?_
    refine vx_lor IG dc_W_bitsFrom_55 ?_
    refine vx_topl (y := lN (V p / 2 ^ j % 18446744073709551616)) (by rw [hall]; exact g_or' rfl hmid (by rw [← hall]; exact Nat.mod_lt _ (by decide))) ?_
    refine vx_ret (some (.long (lN (V p / 2 ^ j % 18446744073709551616)))) RG (vx_endl dc_W_bitsFrom_56) rfl ?_
    exact ⟨rfl, rfl, rfl, rfl⟩
end
