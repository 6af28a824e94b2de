/-! BITS AND SHIFTS, in base 2^w -/
theorem bl_zero : bl 0 = 0 := rfl
theorem bl_le {N c : Nat} : bl N ≤ c ↔ N < 2 ^ c := by
  unfold bl
  split
  · rename_i h
    rw [h]
    exact ⟨fun _ => Nat.pow_pos (by decide), fun _ => Nat.zero_le c⟩
  · rename_i h
    rw [← Nat.log2_lt h]
    omega
theorem bl_lt {N c : Nat} : c < bl N ↔ 2 ^ c ≤ N := by
  have := @bl_le N c
  omega
theorem lt_bl (N : Nat) : N < 2 ^ bl N := bl_le.mp (Nat.le_refl _)
theorem bl_eq {N c : Nat} (h1 : 2 ^ c ≤ N) (h2 : N < 2 ^ (c + 1)) : bl N = c + 1 := by
  have := bl_le.mpr h2
  have := bl_lt.mpr h1
  omega
theorem bl_pos {N : Nat} (h : 0 < N) : 0 < bl N := (@bl_lt N 0).mpr (by rw [Nat.pow_zero]; exact h)
theorem bl_eq_zero {N : Nat} : bl N = 0 ↔ N = 0 := by
  have := @bl_le N 0
  rw [Nat.pow_zero] at this
  omega
theorem bl_mono {M N : Nat} (h : M ≤ N) : bl M ≤ bl N := bl_le.mpr (Nat.lt_of_le_of_lt h (lt_bl N))
theorem two_lt {w : Nat} (hw : 0 < w) : 1 < 2 ^ w := Nat.one_lt_two_pow (by omega)
theorem bp_two (w n : Nat) : (2 ^ w) ^ n = 2 ^ (w * n) := by rw [Nat.pow_mul]
theorem bl_top {w N : Nat} (hw : 0 < w) (h : 0 < N) : bl N + w = w * nd (2 ^ w) N + bl (dg (2 ^ w) N (nd (2 ^ w) N - 1)) := by
  have hb := two_lt hw
  have h0 : nd (2 ^ w) N ≠ 0 := fun q => by have := (nd_eq_zero hb).mp q; omega
  have ht := dg_top hb h
  obtain ⟨c, hc⟩ : ∃ c, bl (dg (2 ^ w) N (nd (2 ^ w) N - 1)) = c + 1 := ⟨bl (dg (2 ^ w) N (nd (2 ^ w) N - 1)) - 1, by have := bl_pos (Nat.pos_of_ne_zero ht); omega⟩
  have h1 : 2 ^ c ≤ dg (2 ^ w) N (nd (2 ^ w) N - 1) := bl_lt.mp (by omega)
  have h2 : dg (2 ^ w) N (nd (2 ^ w) N - 1) < 2 ^ (c + 1) := bl_le.mp (by omega)
  rw [dg_top_eq hb h] at h1 h2
  have h3 : 2 ^ (c + w * (nd (2 ^ w) N - 1)) ≤ N := by
    rw [Nat.pow_add, ← bp_two]
    exact (Nat.le_div_iff_mul_le (bp_pos hb _)).mp h1
  have h4 : N < 2 ^ (c + w * (nd (2 ^ w) N - 1) + 1) := by
    rw [show c + w * (nd (2 ^ w) N - 1) + 1 = (c + 1) + w * (nd (2 ^ w) N - 1) by omega, Nat.pow_add, ← bp_two]
    exact (Nat.div_lt_iff_lt_mul (bp_pos hb _)).mp h2
  rw [bl_eq h3 h4, hc]
  obtain ⟨m, hm⟩ : ∃ m, nd (2 ^ w) N = m + 1 := ⟨nd (2 ^ w) N - 1, by omega⟩
  rw [hm, Nat.mul_add, Nat.add_sub_cancel]
  omega
theorem bb_split {w l : Nat} (h : l ≤ w) : 2 ^ w = 2 ^ l * 2 ^ (w - l) := by
  rw [← Nat.pow_add, show l + (w - l) = w by omega]
theorem md_shift {x c p q : Nat} (hq : 0 < q) (hc : c < p) : (x * p + c) % (p * q) = x * p % (p * q) + c := by
  have hp : 0 < p := by omega
  rw [Nat.mul_comm x p, Nat.mul_mod_mul_left]
  have e : p * x + c = (p * (x % q) + c) + p * q * (x / q) := by
    have h1 := Nat.mod_add_div x q
    conv => lhs; rw [← h1, Nat.mul_add, ← Nat.mul_assoc]
    omega
  rw [e, Nat.add_mul_mod_self_left, Nat.mod_eq_of_lt]
  have h2 := Nat.mod_lt x hq
  have h3 : p * (x % q + 1) ≤ p * q := Nat.mul_le_mul_left _ h2
  rw [Nat.mul_add] at h3
  omega
theorem md_mul (x p b : Nat) : x * p % b = x % b * p % b := by
  conv => lhs; rw [Nat.mul_mod]
  conv => rhs; rw [Nat.mul_mod, Nat.mod_mod]
/-- a digit of A * 2^l -/
theorem dg_shl0 (b A p : Nat) : dg b (A * p) 0 = dg b A 0 * p % b := by
  unfold dg
  simp only [Nat.pow_zero, Nat.div_one]
  exact md_mul _ _ _
theorem dg_shl_g {b p q : Nat} (hb : 1 < b) (hbb : b = p * q) (A k : Nat) : dg b (A * p) (k + 1) = dg b A (k + 1) * p % b + dg b A k / q := by
  have hp : 0 < p := by rcases Nat.eq_zero_or_pos p with z | z; · rw [z] at hbb; omega
                        · exact z
  have hq : 0 < q := by rcases Nat.eq_zero_or_pos q with z | z; · rw [z] at hbb; omega
                        · exact z
  have hk := bp_pos hb k
  have e1 : A * p / b ^ k = A / b ^ k * p + A % b ^ k * p / b ^ k := by
    have h1 := Nat.mod_add_div A (b ^ k)
    have h2 : A * p = A % b ^ k * p + b ^ k * (A / b ^ k * p) := by
      conv => lhs; rw [← h1, Nat.add_mul, Nat.mul_assoc]
    rw [h2, Nat.add_mul_div_left _ _ hk, Nat.add_comm]
  have e2 : A % b ^ k * p / b ^ k < p := by
    rw [Nat.div_lt_iff_lt_mul hk, Nat.mul_comm p]
    exact Nat.mul_lt_mul_of_pos_right (Nat.mod_lt _ hk) hp
  have e3 : A * p / b ^ (k + 1) = A / b ^ (k + 1) * p + dg b A k / q := by
    have e30 : A * p / b ^ (k + 1) = A * p / b ^ k / b := by rw [bp_succ, Nat.div_div_eq_div_mul]
    rw [e30, e1, dv_split b A k]
    generalize A % b ^ k * p / b ^ k = c at e2
    generalize A / b ^ (k + 1) = x
    have hy : dg b A k / q < p + 1 := by
      have := dg_lt hb A k
      rw [Nat.div_lt_iff_lt_mul hq, Nat.add_mul]
      omega
    generalize dg b A k = y
    rw [show (x * b + y) * p + c = (y * p + c) + b * (x * p) by rw [Nat.add_mul, Nat.mul_comm x b, Nat.mul_assoc]; omega, Nat.add_mul_div_left _ _ (by omega)]
    have : (y * p + c) / b = y / q := by
      rw [hbb, ← Nat.div_div_eq_div_mul, Nat.add_comm, Nat.add_mul_div_right _ _ hp, Nat.div_eq_of_lt e2, Nat.zero_add]
    rw [this, Nat.add_comm]
  have e4 : dg b A k / q < p := by
    rw [Nat.div_lt_iff_lt_mul hq, ← hbb]
    exact dg_lt hb A k
  have e5 : dg b (A * p) (k + 1) = (A / b ^ (k + 1) * p + dg b A k / q) % (p * q) := by
    rw [← hbb, ← e3]
    rfl
  rw [e5, md_shift hq e4, ← hbb]
  congr 1
  conv => rhs; unfold dg
  exact md_mul _ _ _
/-- a digit of A / 2^l -/
theorem dg_shr_g {b p q : Nat} (hb : 1 < b) (hbb : b = p * q) (A k : Nat) : dg b (A / p) k = dg b A (k + 1) * q % b + dg b A k / p := by
  have hp : 0 < p := by rcases Nat.eq_zero_or_pos p with z | z; · rw [z] at hbb; omega
                        · exact z
  have hq : 0 < q := by rcases Nat.eq_zero_or_pos q with z | z; · rw [z] at hbb; omega
                        · exact z
  have e1 : A / p / b ^ k = A / b ^ (k + 1) * q + dg b A k / p := by
    rw [Nat.div_div_eq_div_mul, Nat.mul_comm, ← Nat.div_div_eq_div_mul, dv_split b A k]
    generalize A / b ^ (k + 1) = x
    generalize dg b A k = y
    rw [show x * b + y = y + (x * q) * p by rw [hbb, Nat.mul_assoc, Nat.mul_comm q p]; omega, Nat.add_mul_div_right _ _ hp, Nat.add_comm]
  have e2 : dg b A k / p < q := by
    rw [Nat.div_lt_iff_lt_mul hp, Nat.mul_comm, ← hbb]
    exact dg_lt hb A k
  have e5 : dg b (A / p) k = (A / b ^ (k + 1) * q + dg b A k / p) % (q * p) := by
    rw [Nat.mul_comm q p, ← hbb, ← e1]
    rfl
  rw [e5, md_shift hp e2, Nat.mul_comm q p, ← hbb]
  congr 1
  conv => rhs; unfold dg
  exact md_mul _ _ _
