/-! THE GUESS OF A QUOTIENT'S DIGIT. S: the divisor, W: the window; v, t: what their places from some P on hold -/
theorem qg_lo {W S P v u : Nat} (hS : 0 < S) (hP : 0 < P) (hv : v * P ≤ S) (hu : u = W / P) (hv0 : 0 < v) : W / S ≤ u / v := by
  rw [Nat.le_div_iff_mul_le hv0, hu, Nat.le_div_iff_mul_le hP, Nat.mul_assoc]
  exact Nat.le_trans (Nat.mul_le_mul_left _ hv) (by rw [Nat.mul_comm]; exact Nat.mul_div_le W S)
theorem qg_down {W S P T t g : Nat} (hP : 0 < P) (hS : 0 < S) (hT : T * P ≤ S) (ht : t = W / P) (h : t < g * T) : W / S < g := by
  rw [Nat.div_lt_iff_lt_mul hS]
  have h1 : W < (t + 1) * P := by
    rw [ht]
    have := Nat.lt_mul_div_succ W hP
    rw [Nat.mul_comm]
    exact this
  have h2 : (t + 1) * P ≤ g * T * P := Nat.mul_le_mul_right _ h
  have h3 : g * T * P ≤ g * S := by rw [Nat.mul_assoc]; exact Nat.mul_le_mul_left _ hT
  omega
theorem qg_up {W S P T t g : Nat} (hP : 0 < P) (hS : 0 < S) (hT : S < (T + 1) * P) (ht : t = W / P) (h : g * T ≤ t) (hg : g ≤ T + 1) : g ≤ W / S + 1 := by
  rcases Nat.eq_zero_or_pos g with q | q
  · rw [q]; exact Nat.zero_le _
  · obtain ⟨b, rfl⟩ : ∃ b, g = b + 1 := ⟨g - 1, by omega⟩
    have h1 : b ≤ W / S := by
      rw [Nat.le_div_iff_mul_le hS]
      have h2 : b * S ≤ b * ((T + 1) * P) := Nat.mul_le_mul_left _ (Nat.le_of_lt hT)
      have h3 : b * (T + 1) ≤ (b + 1) * T := by
        rw [Nat.mul_add, Nat.add_mul]
        omega
      have h4 : b * ((T + 1) * P) ≤ (b + 1) * T * P := by rw [← Nat.mul_assoc]; exact Nat.mul_le_mul_right _ h3
      have h5 : (b + 1) * T * P ≤ t * P := Nat.mul_le_mul_right _ h
      have h6 : t * P ≤ W := by rw [ht, Nat.mul_comm]; exact Nat.mul_div_le W P
      omega
    omega
/-- a pair of 64 bits without a sign, halved, divided, doubled -/
theorem qp_half {u v : Nat} (hv : 0 < v) : u / v = u / 2 / v * 2 ∨ u / v = u / 2 / v * 2 + 1 := by
  have h1 : u / 2 / v = u / v / 2 := by rw [Nat.div_div_eq_div_mul, Nat.div_div_eq_div_mul, Nat.mul_comm]
  rw [h1]
  omega
theorem qp_rest {u v : Nat} (hv : 0 < v) : (if v ≤ u - u / 2 / v * 2 * v then u / 2 / v * 2 + 1 else u / 2 / v * 2) = u / v := by
  have h0 := Nat.div_add_mod u v
  have h1 := Nat.mod_lt u hv
  have hc : v * (u / v) = u / v * v := Nat.mul_comm _ _
  rcases qp_half (u := u) hv with q | q
  · rw [← q, if_neg (by omega)]
  · have e : u / v * v = u / 2 / v * 2 * v + v := by rw [q, Nat.add_mul, Nat.one_mul]
    rw [if_pos (by omega), ← q]
