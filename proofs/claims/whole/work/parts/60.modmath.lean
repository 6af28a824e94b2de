/-! remainders, inverses, powers: numbers alone -/
/-- z is x's inverse by M -/
def isInv (x : Int) (M z : Nat) : Prop := z < M ∧ (M : Int) ∣ x * (z : Int) - 1
/-- x's remainder by M -/
def rdz (x : Int) (M : Nat) : Nat := (x % (M : Int)).toNat
theorem rdz_nat (N M : Nat) : rdz (N : Int) M = N % M := by unfold rdz; rw [← Int.natCast_emod, Int.toNat_natCast]
theorem rdz_neg {N M : Nat} (hM : 0 < M) : rdz (-(N : Int)) M = if N % M = 0 then 0 else M - N % M := by
  unfold rdz
  rw [neg_mod hM, Int.toNat_natCast]
  have := Nat.mod_lt N hM
  by_cases z : N % M = 0
  · rw [if_pos z, z, Nat.sub_zero, Nat.mod_self]
  · rw [if_neg z, Nat.mod_eq_of_lt (by omega)]
theorem rdz_lt {x : Int} {M : Nat} (hM : 0 < M) : rdz x M < M := by
  unfold rdz
  have h1 := Int.emod_nonneg x (show (M : Int) ≠ 0 by omega)
  have h2 := Int.emod_lt_of_pos x (show (0 : Int) < M by omega)
  omega
theorem rdz_dvd {x : Int} {M : Nat} (hM : 0 < M) : (M : Int) ∣ x - (rdz x M : Int) := by
  unfold rdz
  have h1 := Int.emod_nonneg x (show (M : Int) ≠ 0 by omega)
  rw [Int.toNat_of_nonneg h1]
  exact ⟨x / M, by have := Int.emod_def x M; omega⟩
theorem inv_rd {x : Int} {M z : Nat} (hM : 0 < M) : (M : Int) ∣ (rdz x M : Int) * z - 1 → (M : Int) ∣ x * z - 1 := by
  intro h
  have h2 := rdz_dvd (x := x) hM
  have e : x * (z : Int) - 1 = (x - (rdz x M : Int)) * z + ((rdz x M : Int) * z - 1) := by grind
  rw [e]
  exact Int.dvd_add (Int.dvd_mul_of_dvd_left h2) h
theorem inv_uni {x : Int} {M z y : Nat} (h1 : isInv x M z) (h2 : isInv x M y) : z = y := by
  have h3 : (M : Int) ∣ (z : Int) - y := by
    have e : (z : Int) - y = (x * z - 1) * y - (x * y - 1) * z := by grind
    rw [e]
    exact Int.dvd_sub (Int.dvd_mul_of_dvd_left h1.2) (Int.dvd_mul_of_dvd_left h2.2)
  obtain ⟨c, hc⟩ := h3
  have a1 := h1.1
  have a2 := h2.1
  have hc0 : c = 0 := by
    rcases Int.lt_trichotomy c 0 with q | q | q
    · have : (M : Int) * (c + 1) ≤ 0 := Int.mul_nonpos_of_nonneg_of_nonpos (by omega) (by omega)
      rw [Int.mul_add, Int.mul_one] at this
      omega
    · exact q
    · have : 0 ≤ (M : Int) * (c - 1) := Int.mul_nonneg (by omega) (by omega)
      rw [Int.mul_sub, Int.mul_one] at this
      omega
  rw [hc0, Int.mul_zero] at hc
  omega
theorem inv_gcd {x : Int} {M z : Nat} (hM : 0 < M) (h : isInv x M z) : Nat.gcd M (rdz x M) = 1 := by
  have h1 : ((Nat.gcd M (rdz x M) : Nat) : Int) ∣ (M : Int) := Int.natCast_dvd_natCast.mpr (Nat.gcd_dvd_left _ _)
  have h2 : ((Nat.gcd M (rdz x M) : Nat) : Int) ∣ (rdz x M : Int) := Int.natCast_dvd_natCast.mpr (Nat.gcd_dvd_right _ _)
  have h3 : ((Nat.gcd M (rdz x M) : Nat) : Int) ∣ x := by
    have e := Int.dvd_add (Int.dvd_trans h1 (rdz_dvd (x := x) hM)) h2
    rwa [Int.sub_add_cancel] at e
  have h4 : ((Nat.gcd M (rdz x M) : Nat) : Int) ∣ 1 := by
    have e : (1 : Int) = x * z - (x * z - 1) := by omega
    rw [e]
    exact Int.dvd_sub (Int.dvd_mul_of_dvd_left h3) (Int.dvd_trans h1 h.2)
  have h5 : Nat.gcd M (rdz x M) ∣ 1 := Int.natCast_dvd_natCast.mp h4
  exact Nat.dvd_one.mp h5
/-- the inverse that Euclid's factor gives -/
theorem inv_fi {x : Int} {M fx fy : Nat} {s : Int} (hM : 0 < M) (hs : s = 1 ∨ s = -1) (h : FI M (rdz x M) s 1 0 fx fy) (h0 : rdz x M = 0 → fx = 0) : isInv x M (if s = 1 ∧ ¬ fx = 0 then M - fx else fx) ∧ fx ≤ M := by
  obtain ⟨h1, h2, h3, -⟩ := h
  have hfy : fy = M := by omega
  have hle : fx ≤ M := by omega
  refine ⟨?_, hle⟩
  by_cases z : s = 1 ∧ ¬ fx = 0
  · rw [if_pos z]
    refine ⟨by omega, inv_rd hM ?_⟩
    rw [z.1] at h3
    have e : (rdz x M : Int) * ((M - fx : Nat) : Int) - 1 = (M : Int) * (rdz x M : Int) - (((1 : Nat) : Int) + 1 * (fx : Int) * (rdz x M : Int)) := by
      rw [Int.ofNat_sub hle]
      have : ((1 : Nat) : Int) = 1 := rfl
      rw [this]
      grind
    rw [e]
    exact Int.dvd_sub (Int.dvd_mul_right _ _) h3
  · rw [if_neg z]
    have h4 : (M : Int) ∣ (rdz x M : Int) * (fx : Int) - 1 := by
      rcases hs with hs | hs
      · have hf : fx = 0 := by
          rcases Nat.eq_zero_or_pos fx with q | q
          · exact q
          · exact absurd ⟨hs, by omega⟩ z
        rw [hf] at h3 ⊢
        have e : (rdz x M : Int) * ((0 : Nat) : Int) - 1 = -(((1 : Nat) : Int) + s * ((0 : Nat) : Int) * (rdz x M : Int)) := by
          have : ((1 : Nat) : Int) = 1 := rfl
          have : ((0 : Nat) : Int) = 0 := rfl
          grind
        rw [e]
        exact Int.dvd_neg.mpr h3
      · rw [hs] at h3
        have e : (rdz x M : Int) * (fx : Int) - 1 = -(((1 : Nat) : Int) + -1 * (fx : Int) * (rdz x M : Int)) := by
          have : ((1 : Nat) : Int) = 1 := rfl
          grind
        rw [e]
        exact Int.dvd_neg.mpr h3
    refine ⟨?_, inv_rd hM h4⟩
    rcases Nat.lt_or_ge fx M with q | q
    · exact q
    · exfalso
      have hfM : fx = M := by omega
      rw [hfM] at h4
      have h5 : (M : Int) ∣ 1 := by
        have e : (1 : Int) = (rdz x M : Int) * (M : Int) - ((rdz x M : Int) * (M : Int) - 1) := by omega
        rw [e]
        exact Int.dvd_sub (Int.dvd_mul_left _ _) h4
      have h6 : M = 1 := Nat.dvd_one.mp (Int.natCast_dvd_natCast.mp h5)
      have := rdz_lt (x := x) hM
      have := h0 (by omega)
      omega
/-- the inverse, where there is one -/
noncomputable def ivO (x : Int) (M : Nat) : Option Nat := @dite _ (∃ z, isInv x M z) (Classical.propDecidable _) (fun h => some (Classical.choose h)) (fun _ => none)
theorem ivO_some {x : Int} {M z : Nat} (h : isInv x M z) : ivO x M = some z := by
  have h2 : ∃ z, isInv x M z := ⟨z, h⟩
  unfold ivO
  rw [dif_pos h2]
  exact congrArg some (inv_uni (Classical.choose_spec h2) h)
theorem ivO_none {x : Int} {M : Nat} (hM : 0 < M) (h : ¬ Nat.gcd M (rdz x M) = 1) : ivO x M = none := by
  unfold ivO
  exact dif_neg (fun ⟨z, hz⟩ => h (inv_gcd hM hz))
theorem bl_one {N : Nat} : bl N = 1 ↔ N = 1 := by
  constructor
  · intro h
    have h1 := lt_bl N
    rw [h] at h1
    have h2 : 2 ^ 0 ≤ N := bl_lt.mp (by omega)
    omega
  · intro h; rw [h]; rfl
/-- powers by a modulus, bit by bit -/
theorem pm_sq {b e i M r : Nat} (h : r = b ^ (e / 2 ^ (i + 1)) % M) : r * r % M = b ^ (2 * (e / 2 ^ (i + 1))) % M := by
  rw [h, ← Nat.mul_mod, ← Nat.pow_add, Nat.two_mul]
theorem bit_split (e i : Nat) : e / 2 ^ i = 2 * (e / 2 ^ (i + 1)) + e / 2 ^ i % 2 := by
  have h : e / 2 ^ (i + 1) = e / 2 ^ i / 2 := by rw [Nat.pow_succ, Nat.div_div_eq_div_mul]
  omega
theorem pm_0 {b e i M r : Nat} (h : r = b ^ (e / 2 ^ (i + 1)) % M) (hb : ¬ e / 2 ^ i % 2 = 1) : r * r % M = b ^ (e / 2 ^ i) % M := by
  rw [pm_sq h]
  have hs := bit_split e i
  have ez : e / 2 ^ i % 2 = 0 := by omega
  rw [ez] at hs
  generalize e / 2 ^ (i + 1) = t at *
  rw [hs, Nat.add_zero]
theorem pm_1 {b e i M r : Nat} (h : r = b ^ (e / 2 ^ (i + 1)) % M) (hb : e / 2 ^ i % 2 = 1) : r * r % M * b % M = b ^ (e / 2 ^ i) % M := by
  rw [pm_sq h]
  have hs := bit_split e i
  rw [hb] at hs
  generalize e / 2 ^ (i + 1) = t at *
  rw [hs, Nat.pow_succ, Nat.mod_mul_mod]
theorem pm_top {e : Nat} (he : 0 < e) : e / 2 ^ (bl e - 1) = 1 := by
  have h1 := bl_pos he
  have h2 : 2 ^ (bl e - 1) ≤ e := bl_lt.mp (by omega)
  have h3 := lt_bl e
  have h4 : 2 ^ bl e = 2 ^ (bl e - 1) * 2 := by rw [← Nat.pow_succ]; congr 1; omega
  have h5 : 1 ≤ e / 2 ^ (bl e - 1) := (Nat.one_le_div_iff (Nat.pow_pos (by decide))).mpr h2
  have h6 : e / 2 ^ (bl e - 1) < 2 := by rw [Nat.div_lt_iff_lt_mul (Nat.pow_pos (by decide))]; omega
  omega
/-- powers, bit by bit -/
theorem pw_0 {b e i r : Nat} (h : r = b ^ (e / 2 ^ (i + 1))) (hb : ¬ e / 2 ^ i % 2 = 1) : r * r = b ^ (e / 2 ^ i) := by
  rw [h, ← Nat.pow_add, ← Nat.two_mul]
  have hs := bit_split e i
  have ez : e / 2 ^ i % 2 = 0 := by omega
  rw [ez] at hs
  generalize e / 2 ^ (i + 1) = t at *
  rw [hs, Nat.add_zero]
theorem pw_1 {b e i r : Nat} (h : r = b ^ (e / 2 ^ (i + 1))) (hb : e / 2 ^ i % 2 = 1) : r * r * b = b ^ (e / 2 ^ i) := by
  rw [h, ← Nat.pow_add, ← Nat.two_mul]
  have hs := bit_split e i
  rw [hb] at hs
  generalize e / 2 ^ (i + 1) = t at *
  rw [hs, Nat.pow_succ]
theorem pw_le {b e i : Nat} (hb : 0 < b) : b ^ (e / 2 ^ i) ≤ b ^ e := Nat.pow_le_pow_right hb (Nat.div_le_self _ _)
theorem pw_le2 {b e i : Nat} (hb : 0 < b) : b ^ (e / 2 ^ (i + 1)) * b ^ (e / 2 ^ (i + 1)) ≤ b ^ e := by
  rw [← Nat.pow_add]
  refine Nat.pow_le_pow_right hb ?_
  have := bit_split e i
  have := Nat.div_le_self e (2 ^ i)
  omega
theorem pw_big {b e : Nat} (h : 65536 ≤ (bl b - 1) * e) (hb : 1 < bl b) : ¬ bl (b ^ e) ≤ 65536 := by
  have h1 : 2 ^ (bl b - 1) ≤ b := bl_lt.mp (by omega)
  have h2 : (2 ^ (bl b - 1)) ^ e ≤ b ^ e := Nat.pow_le_pow_left h1 e
  rw [← Nat.pow_mul] at h2
  have h3 : 2 ^ 65536 ≤ 2 ^ ((bl b - 1) * e) := Nat.pow_le_pow_right (by decide) h
  have h4 := bl_lt.mpr (Nat.le_trans h3 h2)
  omega
theorem not_small {x y : Nat} (h : ¬ bl x ≤ 65536) (hxy : x ≤ y) : ¬ bl y ≤ 65536 := fun q => h (Nat.le_trans (bl_mono hxy) q)
