/-! Euclid's steps: numbers alone -/
/-- k steps lead from x, y to X, Y, by the matrix a b / c d -/
def Eu (x y : Nat) : Nat → Int → Int → Int → Int → Nat → Nat → Prop
  | 0, a, b, c, d, X, Y => a = 1 ∧ b = 0 ∧ c = 0 ∧ d = 1 ∧ X = x ∧ Y = y
  | k + 1, a, b, c, d, X, Y => ∃ (a0 b0 c0 d0 : Int) (X0 Y0 : Nat), Eu x y k a0 b0 c0 d0 X0 Y0 ∧ 0 < Y0 ∧ a = c0 ∧ b = d0 ∧ c = a0 - ((X0 / Y0 : Nat) : Int) * c0 ∧ d = b0 - ((X0 / Y0 : Nat) : Int) * d0 ∧ X = Y0 ∧ Y = X0 % Y0
theorem dm_int (X Y : Nat) : ((X % Y : Nat) : Int) = (X : Int) - ((X / Y : Nat) : Int) * (Y : Int) := by
  have h := Nat.div_add_mod X Y
  have h2 : ((Y * (X / Y) + X % Y : Nat) : Int) = (X : Int) := by rw [h]
  rw [Int.natCast_add, Int.natCast_mul] at h2
  grind
theorem Eu_lin {x y : Nat} : ∀ (k : Nat) (a b c d : Int) (X Y : Nat), Eu x y k a b c d X Y → (X : Int) = a * x + b * y ∧ (Y : Int) = c * x + d * y
  | 0, a, b, c, d, X, Y, h => by
    obtain ⟨rfl, rfl, rfl, rfl, rfl, rfl⟩ := h
    constructor <;> grind
  | k + 1, a, b, c, d, X, Y, h => by
    obtain ⟨a0, b0, c0, d0, X0, Y0, h, h0, rfl, rfl, rfl, rfl, rfl, rfl⟩ := h
    obtain ⟨h1, h2⟩ := Eu_lin k _ _ _ _ _ _ h
    refine ⟨h2, ?_⟩
    rw [dm_int]
    generalize ((X0 / X : Nat) : Int) = q
    grind
theorem Eu_ord {x y : Nat} (hxy : y ≤ x) : ∀ (k : Nat) (a b c d : Int) (X Y : Nat), Eu x y k a b c d X Y → Y ≤ X
  | 0, a, b, c, d, X, Y, h => by obtain ⟨-, -, -, -, rfl, rfl⟩ := h; exact hxy
  | k + 1, a, b, c, d, X, Y, h => by
    obtain ⟨a0, b0, c0, d0, X0, Y0, h, h0, -, -, -, -, rfl, rfl⟩ := h
    exact Nat.le_of_lt (Nat.mod_lt _ h0)
theorem Eu_le {x y : Nat} (hxy : y ≤ x) : ∀ (k : Nat) (a b c d : Int) (X Y : Nat), Eu x y k a b c d X Y → X ≤ x
  | 0, a, b, c, d, X, Y, h => by obtain ⟨-, -, -, -, rfl, rfl⟩ := h; exact Nat.le_refl _
  | k + 1, a, b, c, d, X, Y, h => by
    obtain ⟨a0, b0, c0, d0, X0, Y0, h, h0, -, -, -, -, rfl, rfl⟩ := h
    exact Nat.le_trans (Eu_ord hxy k _ _ _ _ _ _ h) (Eu_le hxy k _ _ _ _ _ _ h)
theorem Eu_gcd {x y : Nat} : ∀ (k : Nat) (a b c d : Int) (X Y : Nat), Eu x y k a b c d X Y → Nat.gcd X Y = Nat.gcd x y
  | 0, a, b, c, d, X, Y, h => by obtain ⟨-, -, -, -, rfl, rfl⟩ := h; rfl
  | k + 1, a, b, c, d, X, Y, h => by
    obtain ⟨a0, b0, c0, d0, X0, Y0, h, h0, -, -, -, -, rfl, rfl⟩ := h
    rw [← Eu_gcd k _ _ _ _ _ _ h, Nat.gcd_comm X0 X, Nat.gcd_rec X X0, Nat.gcd_comm]
theorem mod_half {X Y : Nat} (h0 : 0 < Y) (h : Y ≤ X) : 2 * (X % Y) ≤ X := by
  have h1 := Nat.div_add_mod X Y
  have h2 : 1 ≤ X / Y := (Nat.one_le_div_iff h0).mpr h
  have h3 : Y * 1 ≤ Y * (X / Y) := Nat.mul_le_mul_left _ h2
  have h4 := Nat.mod_lt X h0
  omega
theorem Eu_half {x y : Nat} (hxy : y ≤ x) : ∀ (k : Nat) (a b c d : Int) (X Y : Nat), Eu x y k a b c d X Y → 2 ^ k * (X * Y) ≤ x * y
  | 0, a, b, c, d, X, Y, h => by obtain ⟨-, -, -, -, rfl, rfl⟩ := h; omega
  | k + 1, a, b, c, d, X, Y, h => by
    obtain ⟨a0, b0, c0, d0, X0, Y0, h, h0, -, -, -, -, rfl, rfl⟩ := h
    have h1 := Eu_half hxy k _ _ _ _ _ _ h
    have h2 := mod_half h0 (Eu_ord hxy k _ _ _ _ _ _ h)
    refine Nat.le_trans ?_ h1
    rw [Nat.pow_succ, Nat.mul_assoc]
    refine Nat.mul_le_mul_left _ ?_
    have h3 : X * (2 * (X0 % X)) ≤ X * X0 := Nat.mul_le_mul_left _ h2
    rw [Nat.mul_comm X0 X]
    rw [Nat.mul_left_comm] at h3
    exact h3
theorem mul_sgn1 {q c : Int} (hq : 0 ≤ q) (hc : c ≤ 0) : q * c ≤ 0 := Int.mul_nonpos_of_nonneg_of_nonpos hq hc
theorem mul_sgn2 {q c : Int} (hq : 0 ≤ q) (hc : 0 ≤ c) : 0 ≤ q * c := Int.mul_nonneg hq hc
/-- signs -/
theorem Eu_sgn {x y : Nat} (hxy : y ≤ x) : ∀ (k : Nat) (a b c d : Int) (X Y : Nat), Eu x y k a b c d X Y → (k % 2 = 0 ∧ 0 ≤ a ∧ b ≤ 0 ∧ c ≤ 0 ∧ 1 ≤ d) ∨ (k % 2 = 1 ∧ a ≤ 0 ∧ 0 ≤ b ∧ 0 ≤ c ∧ d ≤ -1)
  | 0, a, b, c, d, X, Y, h => by
    obtain ⟨rfl, rfl, rfl, rfl, -, -⟩ := h
    omega
  | k + 1, a, b, c, d, X, Y, h => by
    obtain ⟨a0, b0, c0, d0, X0, Y0, h, h0, rfl, rfl, rfl, rfl, rfl, rfl⟩ := h
    have hq : 1 ≤ X0 / X := (Nat.one_le_div_iff h0).mpr (Eu_ord hxy k _ _ _ _ _ _ h)
    generalize X0 / X = q at *
    have hq0 : (0 : Int) ≤ (q : Int) - 1 := by omega
    rcases Eu_sgn hxy k _ _ _ _ _ _ h with ⟨e, s1, s2, s3, s4⟩ | ⟨e, s1, s2, s3, s4⟩
    · right
      have h1 := mul_sgn1 (q := q) (by omega) s3
      have h2 := mul_sgn2 (q := (q : Int) - 1) hq0 (show 0 ≤ b by omega)
      rw [Int.sub_mul, Int.one_mul] at h2
      omega
    · left
      have h1 := mul_sgn2 (q := q) (by omega) s3
      have h2 := mul_sgn1 (q := (q : Int) - 1) hq0 (show b ≤ 0 by omega)
      rw [Int.sub_mul, Int.one_mul] at h2
      omega
theorem Eu_b {x y : Nat} (hxy : y ≤ x) {k : Nat} {a b c d : Int} {X Y : Nat} (h : Eu x y k a b c d X Y) : (b = 0 ↔ k = 0) := by
  cases k with
  | zero => obtain ⟨-, rfl, -⟩ := h; exact ⟨fun _ => rfl, fun _ => rfl⟩
  | succ k =>
    obtain ⟨a0, b0, c0, d0, X0, Y0, h, h0, rfl, rfl, -⟩ := h
    have := Eu_sgn hxy k _ _ _ _ _ _ h
    constructor <;> intro <;> omega
theorem Eu_pos {x y : Nat} {k : Nat} {a b c d : Int} {X Y : Nat} (hk : 0 < k) (h : Eu x y k a b c d X Y) : 0 < X := by
  cases k with
  | zero => omega
  | succ k => obtain ⟨a0, b0, c0, d0, X0, Y0, h, h0, -, -, -, -, rfl, -⟩ := h; exact h0
/-- what the factors keep -/
def FI (a0 b0 : Nat) (s : Int) (x y fx fy : Nat) : Prop := fx * y + fy * x = a0 ∧ fx ≤ fy ∧ (a0 : Int) ∣ (x : Int) + s * fx * b0 ∧ (a0 : Int) ∣ (y : Int) - s * fy * b0
theorem FI_step {a0 b0 x y fx fy : Nat} {s : Int} (h : FI a0 b0 s x y fx fy) (h0 : 0 < y) (hxy : y ≤ x) : FI a0 b0 (-s) y (x % y) fy (x / y * fy + fx) := by
  obtain ⟨h1, h2, h3, h4⟩ := h
  have hq : 1 ≤ x / y := (Nat.one_le_div_iff h0).mpr hxy
  refine ⟨?_, ?_, ?_, ?_⟩
  · have hd := Nat.div_add_mod x y
    rw [← h1]
    generalize x / y = q at *
    generalize x % y = m at *
    subst hd
    grind
  · have : 1 * fy ≤ x / y * fy := Nat.mul_le_mul_right _ hq
    omega
  · rw [show (y : Int) + -s * fy * b0 = (y : Int) - s * fy * b0 by grind]
    exact h4
  · rw [dm_int, show (x : Int) - ((x / y : Nat) : Int) * y - -s * ((x / y * fy + fx : Nat) : Int) * b0 = ((x : Int) + s * fx * b0) - ((x / y : Nat) : Int) * ((y : Int) - s * fy * b0) by
      rw [Int.natCast_add, Int.natCast_mul]
      generalize ((x / y : Nat) : Int) = q
      grind]
    exact Int.dvd_sub h3 (Int.dvd_mul_of_dvd_right h4)
theorem abs_step {a c : Int} {q : Nat} (h : (0 ≤ a ∧ c ≤ 0) ∨ (a ≤ 0 ∧ 0 ≤ c)) : (a - (q : Int) * c).natAbs = a.natAbs + q * c.natAbs := by
  have h2 : ((q * c.natAbs : Nat) : Int) = (q : Int) * (c.natAbs : Int) := Int.natCast_mul _ _
  rcases h with ⟨h1, h3⟩ | ⟨h1, h3⟩
  · have e : (c.natAbs : Int) = -c := by omega
    rw [e, Int.mul_neg] at h2
    have h4 := mul_sgn1 (q := q) (by omega) h3
    omega
  · have e : (c.natAbs : Int) = c := by omega
    rw [e] at h2
    have h4 := mul_sgn2 (q := q) (by omega) h3
    omega
def sg (k : Nat) (s : Int) : Int := if k % 2 = 0 then s else -s
theorem Eu_fac {x y : Nat} (hxy : y ≤ x) {a0 b0 fx fy : Nat} {s : Int} (hF : FI a0 b0 s x y fx fy) : ∀ (k : Nat) (a b c d : Int) (X Y : Nat), Eu x y k a b c d X Y → FI a0 b0 (sg k s) X Y (a.natAbs * fx + b.natAbs * fy) (c.natAbs * fx + d.natAbs * fy)
  | 0, a, b, c, d, X, Y, h => by
    obtain ⟨rfl, rfl, rfl, rfl, rfl, rfl⟩ := h
    simpa [sg] using hF
  | k + 1, a, b, c, d, X, Y, h => by
    obtain ⟨a1, b1, c1, d1, X0, Y0, h, h0, rfl, rfl, rfl, rfl, rfl, rfl⟩ := h
    have hs := Eu_sgn hxy k _ _ _ _ _ _ h
    have ho := Eu_ord hxy k _ _ _ _ _ _ h
    have h1 := FI_step (Eu_fac hxy hF k _ _ _ _ _ _ h) h0 ho
    have e1 : sg (k + 1) s = -sg k s := by unfold sg; rcases Nat.mod_two_eq_zero_or_one k with e | e <;> simp [e, Nat.add_mod]
    rw [e1, abs_step (by omega), abs_step (by omega)]
    rw [show (a1.natAbs + X0 / X * a.natAbs) * fx + (b1.natAbs + X0 / X * b.natAbs) * fy = X0 / X * (a.natAbs * fx + b.natAbs * fy) + (a1.natAbs * fx + b1.natAbs * fy) by
      generalize X0 / X = q
      grind]
    exact h1
/-- a sum with two cut parts lies above its lower corner -/
theorem corner {m e1 e2 P t1 t2 c : Int} (h1 : 0 ≤ t1) (h2 : t1 ≤ P) (h3 : 0 ≤ t2) (h4 : t2 ≤ P) (hs : (0 ≤ e1 ∧ e2 ≤ 0) ∨ (e1 ≤ 0 ∧ 0 ≤ e2)) (c1 : c ≤ m + e1) (c2 : c ≤ m + e2) : P * c ≤ P * m + e1 * t1 + e2 * t2 := by
  have hP : 0 ≤ P := by omega
  rcases hs with ⟨s1, s2⟩ | ⟨s1, s2⟩
  · have q1 := Int.mul_nonneg s1 h1
    have q2 : e2 * (P - t2) ≤ 0 := Int.mul_nonpos_of_nonpos_of_nonneg s2 (by omega)
    have q3 : 0 ≤ P * (m + e2 - c) := Int.mul_nonneg hP (by omega)
    rw [Int.mul_sub] at q2
    rw [Int.mul_sub, Int.mul_add, Int.mul_comm P e2] at q3
    omega
  · have q1 := Int.mul_nonneg s2 h3
    have q2 : e1 * (P - t1) ≤ 0 := Int.mul_nonpos_of_nonpos_of_nonneg s1 (by omega)
    have q3 : 0 ≤ P * (m + e1 - c) := Int.mul_nonneg hP (by omega)
    rw [Int.mul_sub] at q2
    rw [Int.mul_sub, Int.mul_add, Int.mul_comm P e1] at q3
    omega
/-- a foreseen quotient is the quotient -/
theorem fs_step {x y u0 v0 P t1 t2 k : Nat} {a b c d : Int} {X Y : Nat} {u v q : Int} (hxy : y ≤ x) (h : Eu x y k a b c d X Y) (hx : x = P * u0 + t1) (hy : y = P * v0 + t2) (ht1 : t1 < P) (ht2 : t2 < P) (hu : u = a * u0 + b * v0) (hv : v = c * u0 + d * v0) (g1 : 0 < v + c) (g2 : 0 < v + d) (hq0 : 0 ≤ q) (l1 : q * (v + c) ≤ u + a) (r1 : u + a < (q + 1) * (v + c)) (l2 : q * (v + d) ≤ u + b) (r2 : u + b < (q + 1) * (v + d)) : 0 < Y ∧ ((X / Y : Nat) : Int) = q ∧ 0 ≤ u - q * v ∧ u - q * v < v ∧ 0 ≤ (u - q * v) + (a - q * c) ∧ 0 ≤ (u - q * v) + (b - q * d) := by
  obtain ⟨e1, e2⟩ := Eu_lin k _ _ _ _ _ _ h
  have hs := Eu_sgn hxy k _ _ _ _ _ _ h
  have hX : (X : Int) = P * u + a * t1 + b * t2 := by
    rw [e1, hu, hx, hy, Int.natCast_add, Int.natCast_add, Int.natCast_mul, Int.natCast_mul]
    grind
  have hY : (Y : Int) = P * v + c * t1 + d * t2 := by
    rw [e2, hv, hx, hy, Int.natCast_add, Int.natCast_add, Int.natCast_mul, Int.natCast_mul]
    grind
  have hY0 : (P : Int) * 1 ≤ Y := by
    rw [hY]
    exact corner (by omega) (by omega) (by omega) (by omega) (by omega) (by omega) (by omega)
  have hYp : 0 < Y := by omega
  have qc : (c ≤ 0 → q * c ≤ 0) ∧ (0 ≤ c → 0 ≤ q * c) := ⟨fun z => mul_sgn1 hq0 z, fun z => mul_sgn2 hq0 z⟩
  have qd : (d ≤ 0 → q * d ≤ 0) ∧ (0 ≤ d → 0 ≤ q * d) := ⟨fun z => mul_sgn1 hq0 z, fun z => mul_sgn2 hq0 z⟩
  rw [Int.mul_add] at l1 l2
  rw [Int.add_mul, Int.one_mul, Int.mul_add] at r1 r2
  have lo : (P : Int) * 0 ≤ P * (u - q * v) + (a - q * c) * t1 + (b - q * d) * t2 := corner (by omega) (by omega) (by omega) (by omega) (by omega) (by omega) (by omega)
  have hi : (P : Int) * 1 ≤ P * (q * v + v - u) + (q * c + c - a) * t1 + (q * d + d - b) * t2 := corner (by omega) (by omega) (by omega) (by omega) (by omega) (by omega) (by omega)
  have lo2 : 0 ≤ (X : Int) - q * Y := by
    rw [hX, hY]
    have : (P : Int) * u + a * t1 + b * t2 - q * (P * v + c * t1 + d * t2) = P * (u - q * v) + (a - q * c) * t1 + (b - q * d) * t2 := by grind
    omega
  have hi2 : 0 < q * Y + Y - X := by
    rw [hX, hY]
    have : q * (P * v + c * t1 + d * t2) + (P * v + c * t1 + d * t2) - ((P : Int) * u + a * t1 + b * t2) = P * (q * v + v - u) + (q * c + c - a) * t1 + (q * d + d - b) * t2 := by grind
    omega
  refine ⟨hYp, ?_, by omega, by omega, by omega, by omega⟩
  obtain ⟨w, rfl⟩ : ∃ w : Nat, q = w := ⟨q.toNat, by omega⟩
  have n1 : w * Y ≤ X := by
    have : ((w * Y : Nat) : Int) = (w : Int) * Y := Int.natCast_mul _ _
    omega
  have n2 : X < w * Y + Y := by
    have : ((w * Y : Nat) : Int) = (w : Int) * Y := Int.natCast_mul _ _
    omega
  have : X / Y = w := by
    apply Nat.div_eq_of_lt_le
    · exact n1
    · rw [Nat.add_mul, Nat.one_mul]; exact n2
  rw [this]
def lZ (z : Int) : Int64 := Int64.ofInt z
theorem lZ_nat (n : Nat) : lZ n = lN n := Int64.ofInt_eq_ofNat
theorem lZ_add (a b : Int) : lZ a + lZ b = lZ (a + b) := (Int64.ofInt_add a b).symm
theorem lZ_sub (a b : Int) : lZ a - lZ b = lZ (a - b) := (Int64.ofInt_sub a b).symm
theorem lZ_mul (a b : Int) : lZ a * lZ b = lZ (a * b) := (Int64.ofInt_mul a b).symm
theorem lZ_neg (a : Int) : -lZ a = lZ (-a) := (Int64.ofInt_neg a).symm
theorem lZ_int {a : Int} (h1 : -9223372036854775808 ≤ a) (h2 : a < 9223372036854775808) : (lZ a).toInt = a := Int64.toInt_ofInt_of_le h1 h2
theorem lZ_lt {a b : Int} (h1 : -9223372036854775808 ≤ a) (h2 : a < 9223372036854775808) (h3 : -9223372036854775808 ≤ b) (h4 : b < 9223372036854775808) : lZ a < lZ b ↔ a < b := by
  rw [Int64.lt_iff_toInt_lt, lZ_int h1 h2, lZ_int h3 h4]
theorem lZ_le {a b : Int} (h1 : -9223372036854775808 ≤ a) (h2 : a < 9223372036854775808) (h3 : -9223372036854775808 ≤ b) (h4 : b < 9223372036854775808) : lZ a ≤ lZ b ↔ a ≤ b := by
  rw [Int64.le_iff_toInt_le, lZ_int h1 h2, lZ_int h3 h4]
theorem lZ_eq {a b : Int} (h1 : -9223372036854775808 ≤ a) (h2 : a < 9223372036854775808) (h3 : -9223372036854775808 ≤ b) (h4 : b < 9223372036854775808) : lZ a = lZ b ↔ a = b := by
  rw [← Int64.toInt_inj, lZ_int h1 h2, lZ_int h3 h4]
theorem lZ_div {a b : Int} (h1 : 0 ≤ a) (h2 : a < 9223372036854775808) (h3 : 0 ≤ b) (h4 : b < 9223372036854775808) : lZ a / lZ b = lZ (a / b) := by
  have hq : 0 ≤ a / b := Int.ediv_nonneg h1 h3
  have hq2 : a / b ≤ a := Int.ediv_le_self b h1
  rw [← Int64.toInt_inj, Int64.toInt_div_of_ne_left, lZ_int (by omega) h2, lZ_int (by omega) h4, lZ_int (by omega) (by omega), Int.tdiv_eq_ediv_of_nonneg h1]
  intro q
  have := congrArg Int64.toInt q
  rw [lZ_int (by omega) h2] at this
  have h5 : Int64.minValue.toInt = -9223372036854775808 := by decide
  omega
theorem lZ_mask (s : Int) : lZ s &&& 4294967295 = lN (s % 4294967296).toNat := by
  apply Int64.toBitVec_inj.mp
  apply BitVec.eq_of_toNat_eq
  rw [Int64.toBitVec_and, BitVec.toNat_and]
  show (BitVec.ofInt 64 s).toNat &&& (2 ^ 32 - 1) = (BitVec.ofNat 64 _).toNat
  rw [Nat.and_two_pow_sub_one_eq_mod, BitVec.toNat_ofInt, BitVec.toNat_ofNat]
  have e : (2 : Nat) ^ 64 = 18446744073709551616 := rfl
  have e2 : (2 : Nat) ^ 32 = 4294967296 := rfl
  rw [e, e2]
  omega
theorem lZ_shr32 {s : Int} (h1 : -9223372036854775808 ≤ s) (h2 : s < 9223372036854775808) : lZ s >>> ((32 : Int32).toInt64 &&& 63) = lZ (s / 4294967296) := by
  rw [← Int64.toInt_inj, lZ_int (by omega) (by omega)]
  show ((lZ s >>> ((32 : Int32).toInt64 &&& 63)).toBitVec).toInt = _
  rw [Int64.toBitVec_shiftRight]
  show ((lZ s).toBitVec.sshiftRight 32).toInt = _
  rw [BitVec.toInt_sshiftRight]
  show (lZ s).toInt >>> 32 = _
  rw [lZ_int h1 h2, Int.shiftRight_eq_div_pow]
  rfl
