/-! whole numbers with a sign as bits without end -/
/-- digit k of x's bits without end, base b -/
def eD (b : Nat) (x : Int) (k : Nat) : Nat := ((x / ((b ^ k : Nat) : Int)) % (b : Int)).toNat
/-- bit k -/
def tB (x : Int) (k : Nat) : Nat := ((x / ((2 ^ k : Nat) : Int)) % 2).toNat
theorem eD_lt {b : Nat} (hb : 0 < b) (x : Int) (k : Nat) : eD b x k < b := by
  have h1 := Int.emod_nonneg (x / ((b ^ k : Nat) : Int)) (show (b : Int) ≠ 0 by omega)
  have h2 := Int.emod_lt_of_pos (x / ((b ^ k : Nat) : Int)) (show (0 : Int) < b by omega)
  unfold eD
  omega
theorem eD_nat (b : Nat) (N k : Nat) : eD b (N : Int) k = dg b N k := by
  unfold eD dg
  rw [← Int.natCast_ediv, ← Int.natCast_emod, Int.toNat_natCast]
theorem neg_mod {m b : Nat} (hb : 0 < b) : (-(m : Int)) % (b : Int) = (((b - m % b) % b : Nat) : Int) := by
  have h1 := Nat.div_add_mod m b
  have h2 := Nat.mod_lt m hb
  have h3 : (m : Int) = (b : Int) * ((m / b : Nat) : Int) + ((m % b : Nat) : Int) := by rw [← Int.natCast_mul, ← Int.natCast_add, h1]
  have h4 : -(m : Int) = ((b - m % b : Nat) : Int) + (b : Int) * (-(((m / b : Nat) : Int) + 1)) := by
    rw [h3, Int.mul_neg, Int.mul_add, Int.mul_one]
    generalize (b : Int) * ((m / b : Nat) : Int) = t
    omega
  rw [h4, Int.add_mul_emod_self_left, ← Int.natCast_emod]
theorem eD_neg_lo {b : Nat} (hb : 0 < b) {N k : Nat} (h : N % b ^ k = 0) : eD b (-(N : Int)) k = (b - dg b N k) % b := by
  unfold eD
  rw [nat_floor (Nat.pow_pos hb), if_pos h, Nat.add_zero, neg_mod hb, Int.toNat_natCast]
  rfl
theorem eD_neg_hi {b : Nat} (hb : 0 < b) {N k : Nat} (h : ¬ N % b ^ k = 0) : eD b (-(N : Int)) k = b - 1 - dg b N k := by
  unfold eD
  rw [nat_floor (Nat.pow_pos hb), if_neg h, neg_mod hb, Int.toNat_natCast]
  show (b - (N / b ^ k + 1) % b) % b = b - 1 - N / b ^ k % b
  have h1 := Nat.mod_lt (N / b ^ k) hb
  rw [Nat.add_mod]
  rcases Nat.lt_or_ge 1 b with q | q
  · rw [Nat.mod_eq_of_lt q]
    by_cases z : N / b ^ k % b + 1 = b
    · rw [z, Nat.mod_self, Nat.sub_zero, Nat.mod_self]; omega
    · rw [Nat.mod_eq_of_lt (show N / b ^ k % b + 1 < b by omega), Nat.mod_eq_of_lt (by omega)]; omega
  · have : b = 1 := by omega
    subst this
    simp [Nat.mod_one]
theorem dg_md0 {b N j : Nat} (h : ∀ i, i < j → dg b N i = 0) : N % b ^ j = 0 := by rw [← vl_dg]; exact vl_zero h
theorem dg_md1 {b N j k : Nat} (hb : 1 < b) (hd : dg b N j ≠ 0) (hk : j < k) : ¬ N % b ^ k = 0 := fun q => by
  apply hd
  rw [← dg_mod hb hk, q, dg_zero]
/-- what endlessDigit does -/
theorem eD_first {b : Nat} (hb : 1 < b) {N j k : Nat} (hz : ∀ i, i < j → dg b N i = 0) (hd : dg b N j ≠ 0) : eD b (-(N : Int)) k = if k ≤ j then (b - dg b N k) % b else b - 1 - dg b N k := by
  by_cases q : k ≤ j
  · rw [if_pos q, eD_neg_lo (by omega) (dg_md0 (fun i hi => hz i (by omega)))]
  · rw [if_neg q, eD_neg_hi (by omega) (dg_md1 hb hd (by omega))]
theorem pow_cast (a n : Nat) : ((a ^ n : Nat) : Int) = (a : Int) ^ n := Int.natCast_pow a n
theorem mod2_cut (Z : Int) {j w : Nat} (h : j < w) : (Z % ((2 ^ w : Nat) : Int)) / ((2 ^ j : Nat) : Int) % 2 = Z / ((2 ^ j : Nat) : Int) % 2 := by
  have e : (2 ^ w : Nat) = 2 ^ j * (2 * 2 ^ (w - j - 1)) := by rw [show w = j + (1 + (w - j - 1)) by omega, Nat.pow_add, Nat.pow_add]; simp
  have hp : (0 : Int) < ((2 ^ j : Nat) : Int) := by have := Nat.pow_pos (n := j) (show 0 < 2 by decide); omega
  have h1 : Z % ((2 ^ w : Nat) : Int) = Z - ((2 ^ w : Nat) : Int) * (Z / ((2 ^ w : Nat) : Int)) := Int.emod_def _ _
  rw [h1, e, Int.natCast_mul]
  generalize Z / _ = t
  generalize ((2 ^ j : Nat) : Int) = p at *
  rw [Int.mul_assoc, Int.sub_eq_add_neg, ← Int.mul_neg, Int.add_mul_ediv_left _ _ (by omega), Int.natCast_mul]
  rw [← Int.mul_neg, Int.mul_assoc]
  generalize ((2 ^ (w - j - 1) : Nat) : Int) * -t = u
  omega
/-- a bit of a digit -/
theorem eD_bit (x : Int) (w q : Nat) {j : Nat} (h : j < w) : eD (2 ^ w) x q / 2 ^ j % 2 = tB x (w * q + j) := by
  have hm := Int.emod_nonneg (x / (((2 ^ w) ^ q : Nat) : Int)) (show ((2 ^ w : Nat) : Int) ≠ 0 by have := Nat.pow_pos (n := w) (show 0 < 2 by decide); omega)
  have e1 : ((eD (2 ^ w) x q / 2 ^ j % 2 : Nat) : Int) = x / (((2 ^ w) ^ q : Nat) : Int) % ((2 ^ w : Nat) : Int) / ((2 ^ j : Nat) : Int) % 2 := by
    unfold eD
    rw [Int.natCast_emod, Int.natCast_ediv, Int.toNat_of_nonneg hm]
    rfl
  rw [mod2_cut _ h, Int.ediv_ediv, if_neg (fun q => by have := q.1; omega), Int.sub_zero, ← Int.natCast_mul, ← Nat.pow_mul, ← Nat.pow_add] at e1
  unfold tB
  omega
theorem tB_nat (N k : Nat) : tB (N : Int) k = N / 2 ^ k % 2 := by
  unfold tB
  rw [← Int.natCast_ediv]
  omega
theorem tB_lt (x : Int) (k : Nat) : tB x k < 2 := by unfold tB; omega
/-- trailing zeros -/
def tzf : Nat → Nat → Nat
  | 0, _ => 0
  | f + 1, N => if N % 2 = 1 then 0 else 1 + tzf f (N / 2)
def tz (N : Nat) : Nat := tzf N N
theorem tzf_eq : ∀ (f N t : Nat), t < f → N % 2 ^ t = 0 → N / 2 ^ t % 2 = 1 → tzf f N = t
  | 0, N, t, h, _, _ => by omega
  | f + 1, N, t, h, h1, h2 => by
    show (if N % 2 = 1 then 0 else 1 + tzf f (N / 2)) = t
    cases t with
    | zero => rw [Nat.pow_zero, Nat.div_one] at h2; rw [if_pos h2]
    | succ t =>
      have h3 : N % 2 = 0 := by
        have h4 := Nat.mod_mod_of_dvd N (show 2 ∣ 2 ^ (t + 1) from ⟨2 ^ t, by rw [Nat.pow_succ, Nat.mul_comm]⟩)
        omega
      rw [if_neg (by omega)]
      have e : N = 2 * (N / 2) := by omega
      have h5 : N / 2 % 2 ^ t = 0 := by
        rw [e, Nat.pow_succ, Nat.mul_comm (2 ^ t) 2, Nat.mul_mod_mul_left] at h1
        omega
      have h6 : N / 2 / 2 ^ t % 2 = 1 := by rw [Nat.div_div_eq_div_mul, Nat.mul_comm, ← Nat.pow_succ]; exact h2
      rw [tzf_eq f (N / 2) t (by omega) h5 h6]
      omega
theorem tz_eq {N t : Nat} (h1 : N % 2 ^ t = 0) (h2 : N / 2 ^ t % 2 = 1) : tz N = t := by
  refine tzf_eq N N t ?_ h1 h2
  have h3 : 0 < N / 2 ^ t := Nat.pos_of_ne_zero (fun q => by rw [q] at h2; exact absurd h2 (by decide))
  have h4 := (Nat.one_le_div_iff (Nat.pow_pos (n := t) (show 0 < 2 by decide))).mp h3
  exact Nat.lt_of_lt_of_le Nat.lt_two_pow_self h4
/-- the length of x's bits -/
def lenZ (x : Int) : Nat := if x < 0 then bl (x.natAbs - 1) else bl x.natAbs
/-- the bits of x that are not its sign -/
def onesZ (x : Int) : Nat := if x < 0 then pop (x.natAbs - 1) 65600 else pop x.natAbs 65600
theorem tz_form {N t : Nat} (h1 : N % 2 ^ t = 0) (h2 : N / 2 ^ t % 2 = 1) : N = 2 ^ t * (2 * (N / 2 ^ t / 2) + 1) := by
  have h3 := Nat.div_add_mod N (2 ^ t)
  have h4 : 2 * (N / 2 ^ t / 2) + 1 = N / 2 ^ t := by omega
  rw [h4]
  omega
theorem pop_all : ∀ t, pop (2 ^ t - 1) t = t
  | 0 => rfl
  | t + 1 => by
    show pop (2 ^ (t + 1) - 1) t + (2 ^ (t + 1) - 1) / 2 ^ t % 2 = t + 1
    have hp := Nat.pow_pos (n := t) (show 0 < 2 by decide)
    have e : 2 ^ (t + 1) - 1 = (2 ^ t - 1) + 2 ^ t * 1 := by rw [Nat.pow_succ]; omega
    have h1 : pop (2 ^ (t + 1) - 1) t = pop (2 ^ t - 1) t := by
      rw [← pop_mod (2 ^ (t + 1) - 1) t t (Nat.le_refl t), e, Nat.add_mul_mod_self_left, Nat.mod_eq_of_lt (by omega)]
    rw [h1, pop_all t, e, Nat.add_mul_div_left _ _ hp, Nat.div_eq_of_lt (by omega)]
theorem pop_dbl (m c b : Nat) (hc : c < 2) : pop (2 * m + c) (1 + b) = c + pop m b := by
  rw [pop_add]
  have e1 : pop (2 * m + c) 1 = c := by show 0 + (2 * m + c) / 2 ^ 0 % 2 = c; rw [Nat.pow_zero, Nat.div_one]; omega
  have e2 : (2 * m + c) / 2 ^ 1 = m := by omega
  rw [e1, e2]
theorem pop_pred {N t K : Nat} (h1 : N % 2 ^ t = 0) (h2 : N / 2 ^ t % 2 = 1) (hK : t < K) : pop (N - 1) K + 1 = pop N K + t := by
  have e := tz_form h1 h2
  generalize N / 2 ^ t / 2 = m at e
  obtain ⟨b, rfl⟩ : ∃ b, K = t + (1 + b) := ⟨K - t - 1, by omega⟩
  have hp := Nat.pow_pos (n := t) (show 0 < 2 by decide)
  have e1 : N - 1 = (2 ^ t - 1) + 2 ^ t * (2 * m) := by rw [e, Nat.mul_add, Nat.mul_one]; omega
  rw [pop_add, pop_add N]
  have q1 : pop N t = 0 := by rw [← pop_mod N t t (Nat.le_refl t), h1, pop_zero]
  have q2 : pop (N - 1) t = t := by
    rw [← pop_mod (N - 1) t t (Nat.le_refl t), e1, Nat.add_mul_mod_self_left, Nat.mod_eq_of_lt (by omega), pop_all]
  have q3 : (N - 1) / 2 ^ t = 2 * m + 0 := by rw [e1, Nat.add_mul_div_left _ _ hp, Nat.div_eq_of_lt (by omega)]; omega
  have q4 : N / 2 ^ t = 2 * m + 1 := by rw [e, Nat.mul_div_cancel_left _ hp]
  rw [q1, q2, q3, q4, pop_dbl _ _ _ (by decide), pop_dbl _ _ _ (by decide)]
  omega
theorem bl_pred {N t : Nat} (h1 : N % 2 ^ t = 0) (h2 : N / 2 ^ t % 2 = 1) : bl (N - 1) = if t = bl N - 1 then bl N - 1 else bl N := by
  have e := tz_form h1 h2
  generalize N / 2 ^ t / 2 = m at e
  have hp := Nat.pow_pos (n := t) (show 0 < 2 by decide)
  have hN : 0 < N := by rw [e]; exact Nat.mul_pos hp (by omega)
  have hb := bl_pos hN
  by_cases z : m = 0
  · have eN : N = 2 ^ t := by rw [e, z]; omega
    have hbl : bl N = t + 1 := bl_eq (by omega) (by rw [eN, Nat.pow_succ]; omega)
    rw [if_pos (by omega)]
    have h3 : bl (N - 1) ≤ t := bl_le.mpr (by omega)
    rcases Nat.eq_zero_or_pos t with y | y
    · rw [y] at eN h3; omega
    · have h4 : t - 1 < bl (N - 1) := bl_lt.mpr (by
        have : 2 ^ t = 2 ^ (t - 1) * 2 := by rw [← Nat.pow_succ]; congr 1; omega
        have := Nat.pow_pos (n := t - 1) (show 0 < 2 by decide)
        omega)
      omega
  · have h5 : 2 ^ (bl N - 1) ≤ N := bl_lt.mp (by omega)
    have h6 : t < bl N - 1 := by
      have h7 : 2 ^ t * 2 < N := by rw [e, Nat.mul_add]; have : 2 ^ t * 2 ≤ 2 ^ t * (2 * m) := Nat.mul_le_mul_left _ (by omega); omega
      have h8 := bl_lt.mpr (show 2 ^ (t + 1) ≤ N by rw [Nat.pow_succ]; omega)
      omega
    rw [if_neg (by omega)]
    have h9 : 2 ^ (bl N - 1) ≠ N := fun q => by
      have h10 : 2 ^ (bl N - 1) / 2 ^ t % 2 = 0 := by
        rw [show bl N - 1 = t + ((bl N - 1 - t - 1) + 1) by omega, Nat.pow_add, Nat.mul_div_cancel_left _ hp, Nat.pow_succ]
        omega
      rw [q] at h10
      omega
    have h11 : bl (N - 1) ≤ bl N := bl_mono (by omega)
    have h12 : bl N - 1 < bl (N - 1) := bl_lt.mpr (by omega)
    omega
