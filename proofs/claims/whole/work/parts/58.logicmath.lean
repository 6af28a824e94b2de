/-! logic on bits without end: numbers alone -/
def jb (how p q : Nat) : Nat := if how = 0 then p * q else if how = 1 then p + q - p * q else if how = 2 then (p + q) % 2 else p * (1 - q)
def jn (w how A B : Nat) : Nat := if how = 0 then A &&& B else if how = 1 then A ||| B else if how = 2 then A ^^^ B else A &&& (2 ^ w - 1 - B)
/-- 1 where a number is below 0 -/
def sb (x : Int) : Nat := if x < 0 then 1 else 0
def lgB (how : Nat) (x y : Int) (i : Nat) : Nat := jb how (tB x i) (tB y i)
/-- x and y joined bit by bit -/
def lgZ (how : Nat) (x y : Int) : Int := (vl 2 (lgB how x y) 65600 : Int) - (jb how (sb x) (sb y) : Int) * ((2 ^ 65600 : Nat) : Int)
theorem tb_nat (N j : Nat) : N / 2 ^ j % 2 = (N.testBit j).toNat := (Nat.toNat_testBit N j).symm
theorem jn_bit {w how A B j : Nat} (hB : B < 2 ^ w) (hj : j < w) : jn w how A B / 2 ^ j % 2 = jb how (A / 2 ^ j % 2) (B / 2 ^ j % 2) := by
  rw [tb_nat, tb_nat, tb_nat]
  unfold jn jb
  split
  · rw [Nat.testBit_and]; cases A.testBit j <;> cases B.testBit j <;> rfl
  · split
    · rw [Nat.testBit_or]; cases A.testBit j <;> cases B.testBit j <;> rfl
    · split
      · rw [Nat.testBit_xor]; cases A.testBit j <;> cases B.testBit j <;> rfl
      · rw [Nat.testBit_and, show 2 ^ w - 1 - B = 2 ^ w - (B + 1) by omega, Nat.testBit_two_pow_sub_succ hB]
        simp only [hj, decide_true, Bool.true_and]
        cases A.testBit j <;> cases B.testBit j <;> rfl
theorem jn_lt {w how A B : Nat} (hA : A < 2 ^ w) (hB : B < 2 ^ w) : jn w how A B < 2 ^ w := by
  unfold jn
  split
  · exact Nat.lt_of_le_of_lt Nat.and_le_left hA
  · split
    · exact Nat.or_lt_two_pow hA hB
    · split
      · exact Nat.xor_lt_two_pow hA hB
      · exact Nat.lt_of_le_of_lt Nat.and_le_left hA
theorem vl_ext {bits : Nat → Nat} {s m : Nat} (h : ∀ i, m ≤ i → bits i = s) : ∀ t, (vl 2 bits (m + t) : Int) - (s : Int) * ((2 ^ (m + t) : Nat) : Int) = (vl 2 bits m : Int) - (s : Int) * ((2 ^ m : Nat) : Int)
  | 0 => rfl
  | t + 1 => by
    rw [← vl_ext h t, ← Nat.add_assoc, vl_succ, h (m + t) (by omega), Nat.pow_succ, Int.natCast_add, Int.natCast_mul, Int.natCast_mul]
    generalize ((2 ^ (m + t) : Nat) : Int) = z
    have : ((2 : Nat) : Int) = 2 := rfl
    rw [this]
    grind
theorem dg_two (N j : Nat) : dg 2 N j = N / 2 ^ j % 2 := rfl
theorem vl_bits {w : Nat} {Dd bits : Nat → Nat} : ∀ n, (∀ k, k < n → Dd k < 2 ^ w ∧ ∀ j, j < w → Dd k / 2 ^ j % 2 = bits (w * k + j)) → vl (2 ^ w) Dd n = vl 2 bits (w * n)
  | 0, _ => by rw [Nat.mul_zero]; rfl
  | n + 1, h => by
    rw [vl_succ, vl_bits n (fun k hk => h k (by omega)), Nat.mul_add, Nat.mul_one, vl_split]
    obtain ⟨h1, h2⟩ := h n (by omega)
    have e : vl 2 (fun j => bits (w * n + j)) w = Dd n := by
      rw [vl_congr (e := dg 2 (Dd n)) (fun j hj => (h2 j hj).symm), vl_dg, Nat.mod_eq_of_lt h1]
    rw [e, ← Nat.pow_mul]
theorem tB_hi {x : Int} {i : Nat} (h : x.natAbs < 2 ^ i) : tB x i = sb x := by
  by_cases q : x < 0
  · have e : x = -((x.natAbs : Nat) : Int) := by omega
    unfold sb
    rw [if_pos q]
    unfold tB
    rw [e, nat_floor (Nat.pow_pos (by decide)), Nat.div_eq_of_lt h, Nat.mod_eq_of_lt h, if_neg (by omega)]
    rfl
  · have e : x = ((x.natAbs : Nat) : Int) := by omega
    unfold sb
    rw [if_neg q, e, tB_nat, Nat.div_eq_of_lt h]
theorem sb_01 (x : Int) : sb x = 0 ∨ sb x = 1 := by unfold sb; split <;> simp
theorem jb_01 (how : Nat) {p q : Nat} (hp : p < 2) (hq : q < 2) : jb how p q < 2 := by
  rcases (show p = 0 ∨ p = 1 by omega) with rfl | rfl <;> rcases (show q = 0 ∨ q = 1 by omega) with rfl | rfl <;> unfold jb <;> (repeat' split) <;> decide
/-- from digits: m digits are above both numbers -/
theorem lg_digits {w how m : Nat} {x y : Int} {Dd : Nat → Nat} (hx : x.natAbs < 2 ^ (w * m)) (hy : y.natAbs < 2 ^ (w * m)) (hm : w * (m + 1) ≤ 65600) (hD : ∀ k, k < m + 1 → Dd k = jn w how (eD (2 ^ w) x k) (eD (2 ^ w) y k)) : lgZ how x y = (vl (2 ^ w) Dd (m + 1) : Int) - (jb how (sb x) (sb y) : Int) * (((2 ^ w) ^ (m + 1) : Nat) : Int) ∧ vl 2 (fun _ => jb how (sb x) (sb y)) w = Dd m ∧ vl (2 ^ w) Dd (m + 1) < (2 ^ w) ^ (m + 1) := by
  have hp : 0 < 2 ^ w := Nat.pow_pos (by decide)
  have hd : ∀ k, k < m + 1 → Dd k < 2 ^ w ∧ ∀ j, j < w → Dd k / 2 ^ j % 2 = lgB how x y (w * k + j) := by
    intro k hk
    rw [hD k hk]
    refine ⟨jn_lt (eD_lt hp _ _) (eD_lt hp _ _), fun j hj => ?_⟩
    rw [jn_bit (eD_lt hp _ _) hj, eD_bit _ _ _ hj, eD_bit _ _ _ hj]
    rfl
  have hs : ∀ i, w * m ≤ i → lgB how x y i = jb how (sb x) (sb y) := by
    intro i hi
    have h2 : 2 ^ (w * m) ≤ 2 ^ i := Nat.pow_le_pow_right (by decide) hi
    unfold lgB
    rw [tB_hi (by omega), tB_hi (by omega)]
  have h1 := vl_bits (m + 1) hd
  refine ⟨?_, ?_, ?_⟩
  · rw [h1]
    have e1 := vl_ext hs (65600 - w * m)
    have e2 := vl_ext hs w
    rw [show w * m + (65600 - w * m) = 65600 by rw [Nat.mul_add] at hm; omega] at e1
    rw [show w * m + w = w * (m + 1) by rw [Nat.mul_add, Nat.mul_one]] at e2
    rw [← Nat.pow_mul]
    unfold lgZ
    rw [e1, e2]
  · obtain ⟨h3, h4⟩ := hd m (by omega)
    have e : vl 2 (dg 2 (Dd m)) w = Dd m := by rw [vl_dg, Nat.mod_eq_of_lt h3]
    rw [← e]
    refine vl_congr (fun j hj => ?_)
    show _ = Dd m / 2 ^ j % 2
    rw [h4 j hj, hs _ (by omega)]
  · rcases Nat.eq_zero_or_pos w with z | z
    · subst z
      have : ∀ k, k < m + 1 → Dd k = 0 := fun k hk => by have := (hd k hk).1; rw [Nat.pow_zero] at this; omega
      rw [vl_zero this, Nat.pow_zero, Nat.one_pow]
      exact Nat.one_pos
    · exact vl_lt (two_lt z) (fun k hk => (hd k hk).1)
theorem vl_one : ∀ w, vl 2 (fun _ => 1) w = 2 ^ w - 1
  | 0 => rfl
  | w + 1 => by
    rw [vl_succ, vl_one w, Nat.pow_succ]
    have := Nat.pow_pos (n := w) (show 0 < 2 by decide)
    omega
theorem vl_nil (w : Nat) : vl 2 (fun _ => 0) w = 0 := vl_zero (fun _ _ => rfl)
