/-! DIGITS in base b. dg b N i: the digit at place i; vl b d n: the number that the places below n hold; nd b N: how many digits N has; bl N: how many bits -/
def dg (b N i : Nat) : Nat := N / b ^ i % b
def vl (b : Nat) (d : Nat → Nat) : Nat → Nat
  | 0 => 0
  | n + 1 => vl b d n + d n * b ^ n
def ndf (b : Nat) : Nat → Nat → Nat
  | 0, _ => 0
  | f + 1, N => if N = 0 then 0 else ndf b f (N / b) + 1
def nd (b N : Nat) : Nat := ndf b N N
def bl (N : Nat) : Nat := if N = 0 then 0 else Nat.log2 N + 1
section
variable {b : Nat}
theorem bp_pos (hb : 1 < b) (n : Nat) : 0 < b ^ n := Nat.pow_pos (by omega)
theorem bp_succ (b n : Nat) : b ^ (n + 1) = b ^ n * b := by rw [Nat.pow_succ]
theorem dg_lt (hb : 1 < b) (N i : Nat) : dg b N i < b := Nat.mod_lt _ (by omega)
theorem vl_succ (b : Nat) (d : Nat → Nat) (n : Nat) : vl b d (n + 1) = vl b d n + d n * b ^ n := rfl
theorem vl_lt (hb : 1 < b) {d : Nat → Nat} {n : Nat} (h : ∀ i, i < n → d i < b) : vl b d n < b ^ n := by
  induction n with
  | zero => simp [vl]
  | succ n ih =>
    have h1 := ih (fun i hi => h i (by omega))
    have h2 := h n (by omega)
    have h3 : (d n + 1) * b ^ n ≤ b * b ^ n := Nat.mul_le_mul_right _ h2
    rw [Nat.add_mul, Nat.one_mul] at h3
    rw [bp_succ, Nat.mul_comm (b ^ n), vl_succ]
    omega
theorem vl_congr {d e : Nat → Nat} {n : Nat} (h : ∀ i, i < n → d i = e i) : vl b d n = vl b e n := by
  induction n with
  | zero => rfl
  | succ n ih => rw [vl_succ, vl_succ, ih (fun i hi => h i (by omega)), h n (by omega)]
theorem vl_dg (b N n : Nat) : vl b (dg b N) n = N % b ^ n := by
  induction n with
  | zero => simp [vl, Nat.mod_one]
  | succ n ih =>
    rw [vl_succ, ih, Nat.mod_pow_succ, Nat.mul_comm]
    rfl
theorem dg_add_hi (hb : 1 < b) {X Y n i : Nat} (h : i < n) : dg b (X + Y * b ^ n) i = dg b X i := by
  have e : b ^ n = b ^ i * (b * b ^ (n - i - 1)) := by
    rw [← Nat.mul_assoc, ← bp_succ, ← Nat.pow_add]
    congr 1
    omega
  unfold dg
  rw [e, Nat.mul_left_comm, Nat.add_mul_div_left _ _ (bp_pos hb i), Nat.mul_left_comm, Nat.add_mul_mod_self_left]
theorem dg_mod (hb : 1 < b) {N n i : Nat} (h : i < n) : dg b (N % b ^ n) i = dg b N i := by
  have e : N = N % b ^ n + N / b ^ n * b ^ n := by
    rw [Nat.mul_comm]
    exact (Nat.mod_add_div _ _).symm
  conv => rhs; rw [e]
  rw [dg_add_hi hb h]
theorem dg_vl (hb : 1 < b) {d : Nat → Nat} {n i : Nat} (h : ∀ i, i < n → d i < b) (hi : i < n) : dg b (vl b d n) i = d i := by
  induction n with
  | zero => omega
  | succ n ih =>
    rw [vl_succ]
    rcases Nat.lt_or_ge i n with q | q
    · rw [dg_add_hi hb q]
      exact ih (fun i hi => h i (by omega)) q
    · obtain rfl : i = n := by omega
      unfold dg
      rw [Nat.add_mul_div_right _ _ (bp_pos hb i), Nat.div_eq_of_lt (vl_lt hb (fun j hj => h j (by omega))), Nat.zero_add]
      exact Nat.mod_eq_of_lt (h i (by omega))
theorem dg_zero (b i : Nat) : dg b 0 i = 0 := by simp [dg]
theorem dg_big {N i : Nat} (h : N < b ^ i) : dg b N i = 0 := by
  unfold dg
  rw [Nat.div_eq_of_lt h]
  exact Nat.zero_mod b
theorem ndf_le (hb : 1 < b) (f : Nat) : ∀ (N c : Nat), N ≤ f → (ndf b f N ≤ c ↔ N < b ^ c) := by
  induction f with
  | zero =>
    intro N c h
    obtain rfl : N = 0 := by omega
    exact ⟨fun _ => bp_pos hb c, fun _ => Nat.zero_le c⟩
  | succ f ih =>
    intro N c h
    rw [ndf]
    split
    · rename_i z
      subst z
      exact ⟨fun _ => bp_pos hb c, fun _ => Nat.zero_le c⟩
    · rename_i z
      have hlt : N / b < N := Nat.div_lt_self (by omega) hb
      cases c with
      | zero => exact ⟨fun q => by omega, fun q => by rw [Nat.pow_zero] at q; omega⟩
      | succ c =>
        have := ih (N / b) c (by omega)
        rw [bp_succ, ← Nat.div_lt_iff_lt_mul (by omega), ← this]
        omega
theorem nd_le (hb : 1 < b) {N c : Nat} : nd b N ≤ c ↔ N < b ^ c := ndf_le hb N N c (Nat.le_refl N)
theorem nd_lt (hb : 1 < b) {N c : Nat} : c < nd b N ↔ b ^ c ≤ N := by
  have := @nd_le b hb N c
  omega
theorem lt_nd (hb : 1 < b) (N : Nat) : N < b ^ nd b N := (nd_le hb).mp (Nat.le_refl _)
theorem nd_zero (b : Nat) : nd b 0 = 0 := rfl
theorem nd_eq_zero (hb : 1 < b) {N : Nat} : nd b N = 0 ↔ N = 0 := by
  have := @nd_le b hb N 0
  rw [Nat.pow_zero] at this
  omega
theorem vl_nd (hb : 1 < b) (N : Nat) : vl b (dg b N) (nd b N) = N := by
  rw [vl_dg, Nat.mod_eq_of_lt (lt_nd hb N)]
theorem vl_nd_le (hb : 1 < b) {N n : Nat} (h : nd b N ≤ n) : vl b (dg b N) n = N := by
  rw [vl_dg, Nat.mod_eq_of_lt ((nd_le hb).mp h)]
theorem nd_mono (hb : 1 < b) {M N : Nat} (h : M ≤ N) : nd b M ≤ nd b N := (nd_le hb).mpr (Nat.lt_of_le_of_lt h (lt_nd hb N))
/-- behind a trim -/
theorem nd_vl (hb : 1 < b) {d : Nat → Nat} {c : Nat} (h : ∀ i, i < c → d i < b) (ht : c = 0 ∨ d (c - 1) ≠ 0) : nd b (vl b d c) = c := by
  have h1 : nd b (vl b d c) ≤ c := (nd_le hb).mpr (vl_lt hb h)
  cases c with
  | zero => omega
  | succ c =>
    have h2 : d c ≠ 0 := by
      rcases ht with z | z
      · omega
      · exact z
    have h3 : c < nd b (vl b d (c + 1)) := (nd_lt hb).mpr (by
      rw [vl_succ]
      have h4 : 1 * b ^ c ≤ d c * b ^ c := Nat.mul_le_mul_right _ (by omega)
      omega)
    omega
theorem dg_top_eq (hb : 1 < b) {N : Nat} (h : 0 < N) : dg b N (nd b N - 1) = N / b ^ (nd b N - 1) := by
  have h0 : nd b N ≠ 0 := fun q => by have := (nd_eq_zero hb).mp q; omega
  unfold dg
  apply Nat.mod_eq_of_lt
  rw [Nat.div_lt_iff_lt_mul (bp_pos hb _), Nat.mul_comm, ← bp_succ, show nd b N - 1 + 1 = nd b N by omega]
  exact lt_nd hb N
theorem dg_top (hb : 1 < b) {N : Nat} (h : 0 < N) : dg b N (nd b N - 1) ≠ 0 := by
  have h0 : nd b N ≠ 0 := fun q => by have := (nd_eq_zero hb).mp q; omega
  have h1 : b ^ (nd b N - 1) ≤ N := (nd_lt hb).mp (by omega)
  rw [dg_top_eq hb h]
  have h4 : 0 < N / b ^ (nd b N - 1) := Nat.div_pos h1 (bp_pos hb _)
  omega
theorem dv_split (b A k : Nat) : A / b ^ k = A / b ^ (k + 1) * b + dg b A k := by
  unfold dg
  rw [bp_succ, ← Nat.div_div_eq_div_mul, Nat.mul_comm]
  exact (Nat.div_add_mod _ _).symm
theorem md_split (b A k : Nat) : A % b ^ (k + 1) = A % b ^ k + b ^ k * dg b A k := Nat.mod_pow_succ
theorem vl_split (b : Nat) (d : Nat → Nat) (n m : Nat) : vl b d (n + m) = vl b d n + vl b (fun j => d (n + j)) m * b ^ n := by
  induction m with
  | zero => simp [vl]
  | succ m ih =>
    rw [← Nat.add_assoc, vl_succ, vl_succ, ih, Nat.add_mul, Nat.mul_assoc, ← Nat.pow_add, Nat.add_comm m n]
    omega
theorem vl_zero {d : Nat → Nat} {n : Nat} (h : ∀ i, i < n → d i = 0) : vl b d n = 0 := by
  induction n with
  | zero => rfl
  | succ n ih =>
    rw [vl_succ, ih (fun i hi => h i (by omega)), h n (by omega)]
    simp
/-! comparisons -/
theorem bcm_lt (b : Nat) {A B k : Nat} (h : A / b ^ (k + 1) = B / b ^ (k + 1)) (hd : dg b A k < dg b B k) : A < B := by
  have h1 := dv_split b A k
  have h2 := dv_split b B k
  rw [h] at h1
  rcases Nat.lt_or_ge A B with q | q
  · exact q
  · have := Nat.div_le_div_right (c := b ^ k) q
    omega
theorem bcm_eq (b : Nat) {A B k : Nat} (h : A / b ^ (k + 1) = B / b ^ (k + 1)) (hd : dg b A k = dg b B k) : A / b ^ k = B / b ^ k := by
  rw [dv_split b A k, dv_split b B k, h, hd]
theorem bcm_top (hb : 1 < b) {A n : Nat} (h : nd b A ≤ n) : A / b ^ n = 0 := Nat.div_eq_of_lt ((nd_le hb).mp h)
theorem bcm_nd (hb : 1 < b) {A B : Nat} (h : nd b A < nd b B) : A < B := Nat.lt_of_lt_of_le (lt_nd hb A) ((nd_lt hb).mp h)
/-! sums -/
def cy (b A B k : Nat) : Nat := (A % b ^ k + B % b ^ k) / b ^ k
theorem cy_zero (b A B : Nat) : cy b A B 0 = 0 := by simp [cy, Nat.mod_one]
theorem cy_le (hb : 1 < b) (A B k : Nat) : cy b A B k ≤ 1 := by
  unfold cy
  have h1 := Nat.mod_lt A (bp_pos hb k)
  have h2 := Nat.mod_lt B (bp_pos hb k)
  have : (A % b ^ k + B % b ^ k) / b ^ k < 2 := (Nat.div_lt_iff_lt_mul (bp_pos hb k)).mpr (by omega)
  omega
theorem cy_succ (hb : 1 < b) (A B k : Nat) : (dg b A k + dg b B k + cy b A B k) / b = cy b A B (k + 1) := by
  have h : A % b ^ (k + 1) + B % b ^ (k + 1) = (A % b ^ k + B % b ^ k) + b ^ k * (dg b A k + dg b B k) := by
    rw [md_split, md_split, Nat.mul_add]
    omega
  conv => rhs; unfold cy
  rw [h, bp_succ, ← Nat.div_div_eq_div_mul, Nat.add_mul_div_left _ _ (bp_pos hb k)]
  show _ = (cy b A B k + _) / _
  rw [Nat.add_comm]
theorem md_add3 (b x y c : Nat) : (x % b + y % b + c) % b = (c + (x + y)) % b := by
  rw [Nat.add_mod, ← Nat.add_mod x y b, ← Nat.add_mod, Nat.add_comm]
theorem cy_dg (hb : 1 < b) (A B k : Nat) : (dg b A k + dg b B k + cy b A B k) % b = dg b (A + B) k := by
  have hA := Nat.mod_add_div A (b ^ k)
  have hB := Nat.mod_add_div B (b ^ k)
  have h : A + B = (A % b ^ k + B % b ^ k) + b ^ k * (A / b ^ k + B / b ^ k) := by
    rw [Nat.mul_add]
    omega
  unfold dg
  conv => rhs; rw [h]
  rw [Nat.add_mul_div_left _ _ (bp_pos hb k)]
  exact md_add3 b _ _ _
theorem cy_end (hb : 1 < b) {A B n : Nat} (hA : A < b ^ n) (hB : B < b ^ n) : cy b A B n = dg b (A + B) n := by
  unfold cy dg
  rw [Nat.mod_eq_of_lt hA, Nat.mod_eq_of_lt hB, Nat.mod_eq_of_lt]
  exact (Nat.div_lt_iff_lt_mul (bp_pos hb n)).mpr (by
    have h1 : 2 * b ^ n ≤ b * b ^ n := Nat.mul_le_mul_right _ hb
    omega)
theorem nd_add (hb : 1 < b) (A B : Nat) : nd b (A + B) ≤ max (nd b A) (nd b B) + 1 := by
  rw [nd_le hb, bp_succ]
  have h1 : A < b ^ max (nd b A) (nd b B) := (nd_le hb).mp (Nat.le_max_left _ _)
  have h2 : B < b ^ max (nd b A) (nd b B) := (nd_le hb).mp (Nat.le_max_right _ _)
  have h3 : b ^ max (nd b A) (nd b B) * 2 ≤ b ^ max (nd b A) (nd b B) * b := Nat.mul_le_mul_left _ hb
  omega
/-! differences -/
def bw (b A B k : Nat) : Nat := if A % b ^ k < B % b ^ k then 1 else 0
theorem bw_zero (b A B : Nat) : bw b A B 0 = 0 := by simp [bw, Nat.mod_one]
theorem bw_le (b A B k : Nat) : bw b A B k ≤ 1 := by unfold bw; split <;> omega
theorem bw_succ (hb : 1 < b) (A B k : Nat) : bw b A B (k + 1) = if dg b A k < dg b B k + bw b A B k then 1 else 0 := by
  have hp := bp_pos hb k
  have h1 := Nat.mod_lt A hp
  have h2 := Nat.mod_lt B hp
  have key : A % b ^ (k + 1) < B % b ^ (k + 1) ↔ dg b A k < dg b B k + bw b A B k := by
    rw [md_split, md_split]
    unfold bw
    generalize A % b ^ k = a0 at *
    generalize B % b ^ k = b0 at *
    generalize dg b A k = x
    generalize dg b B k = y
    generalize b ^ k = P at *
    rcases Nat.lt_trichotomy x y with q | q | q
    · have : P * (x + 1) ≤ P * y := Nat.mul_le_mul_left _ q
      rw [Nat.mul_add] at this
      constructor
      · intro _; split <;> omega
      · intro _; omega
    · subst q
      constructor
      · intro z; rw [if_pos (show a0 < b0 by omega)]; omega
      · intro z
        by_cases c : a0 < b0
        · omega
        · rw [if_neg c] at z; omega
    · have : P * (y + 1) ≤ P * x := Nat.mul_le_mul_left _ q
      rw [Nat.mul_add] at this
      constructor
      · intro _; omega
      · intro z
        split at z <;> omega
  conv => lhs; unfold bw
  simp only [key]
theorem md_sub (b : Nat) (hb : 0 < b) {x y w : Nat} (h : y + w ≤ x) : (x % b + 2 * b - w - y % b) % b = (x - w - y) % b ∨ 1 < w := by
  rcases Nat.lt_or_ge 1 w with q | q
  · exact Or.inr q
  · left
    have hx := Nat.mod_add_div x b
    have hy := Nat.mod_add_div y b
    have h1 := Nat.mod_lt x hb
    have h2 := Nat.mod_lt y hb
    have hle : y / b ≤ x / b := Nat.div_le_div_right (by omega)
    have e : x % b + 2 * b - w - y % b + b * (x / b - y / b) = (x - w - y) + b * 2 := by
      rw [Nat.mul_sub]
      have := Nat.mul_le_mul_left b hle
      omega
    have e2 := congrArg (· % b) e
    simp only [Nat.add_mul_mod_self_left] at e2
    exact e2
theorem bw_core {P x y a0 b0 : Nat} (hb : 1 < b) (hp : 0 < P) (h1 : a0 < P) (h2 : b0 < P) (h : b0 + P * y ≤ a0 + P * x) : (x % b + 2 * b - (if a0 < b0 then 1 else 0) - y % b) % b = ((a0 + P * x) - (b0 + P * y)) / P % b := by
  by_cases c : a0 < b0
  · have hlt : y < x := by
      rcases Nat.lt_or_ge y x with q | q
      · exact q
      · have := Nat.mul_le_mul_left P q
        omega
    obtain ⟨z, rfl⟩ : ∃ z, x = y + 1 + z := ⟨x - y - 1, by omega⟩
    have e : a0 + P * (y + 1 + z) - (b0 + P * y) = (a0 + P - b0) + P * z := by
      rw [Nat.mul_add, Nat.mul_add, Nat.mul_one]
      omega
    rw [e, Nat.add_mul_div_left _ _ hp, Nat.div_eq_of_lt (show a0 + P - b0 < P by omega), Nat.zero_add, if_pos c]
    rcases md_sub b (by omega) (x := y + 1 + z) (y := y) (w := 1) (by omega) with q | q
    · rw [q, show y + 1 + z - 1 - y = z by omega]
    · omega
  · have hle : y ≤ x := by
      rcases Nat.lt_or_ge x y with q | q
      · have := Nat.mul_le_mul_left P q
        rw [Nat.mul_succ] at this
        omega
      · exact q
    obtain ⟨z, rfl⟩ : ∃ z, x = y + z := ⟨x - y, by omega⟩
    have e : a0 + P * (y + z) - (b0 + P * y) = (a0 - b0) + P * z := by
      rw [Nat.mul_add]
      omega
    rw [e, Nat.add_mul_div_left _ _ hp, Nat.div_eq_of_lt (show a0 - b0 < P by omega), Nat.zero_add, if_neg c]
    rcases md_sub b (by omega) (x := y + z) (y := y) (w := 0) (by omega) with q | q
    · rw [q, show y + z - 0 - y = z by omega]
    · omega
/-- bw_dg: the digit of the difference; the machine's own form is taken from it at each base -/
theorem bw_dg (hb : 1 < b) {A B : Nat} (h : B ≤ A) (k : Nat) : (dg b A k + 2 * b - bw b A B k - dg b B k) % b = dg b (A - B) k := by
  have hp := bp_pos hb k
  have hA := Nat.mod_add_div A (b ^ k)
  have hB := Nat.mod_add_div B (b ^ k)
  have := bw_core (x := A / b ^ k) (y := B / b ^ k) hb hp (Nat.mod_lt A hp) (Nat.mod_lt B hp) (by rw [hA, hB]; exact h)
  rw [hA, hB] at this
  exact this
/-! products: one step of 'a multiple is added': t = f * b + d + carry -/
theorem am_step (b : Nat) {w u e : Nat → Nat} {f k cr t : Nat} (h : vl b w k + cr * b ^ k = f * vl b u k + vl b e k) (ht : t = f * u k + e k + cr) (hw : w k = t % b) : vl b w (k + 1) + (t / b) * b ^ (k + 1) = f * vl b u (k + 1) + vl b e (k + 1) := by
  rw [vl_succ, vl_succ, vl_succ]
  have h1 : t * b ^ k = w k * b ^ k + t / b * b ^ (k + 1) := by
    rw [bp_succ, Nat.mul_comm (b ^ k), ← Nat.mul_assoc, ← Nat.add_mul, hw]
    congr 1
    have := Nat.mod_add_div t b
    rw [Nat.mul_comm (t / b)]
    omega
  have h2 : t * b ^ k = f * (u k * b ^ k) + e k * b ^ k + cr * b ^ k := by
    rw [ht, Nat.add_mul, Nat.add_mul, Nat.mul_assoc]
  rw [Nat.mul_add]
  omega
theorem am_bound {f u d c : Nat} (hf : f < b) (hu : u < b) (hd : d < b) (hc : c < b) : f * u + d + c < b * b := by
  have h1 : (f + 1) * (u + 1) ≤ b * b := Nat.mul_le_mul hf hu
  obtain ⟨m, rfl⟩ : ∃ m, b = m + 1 := ⟨b - 1, by omega⟩
  have h2 : f * u ≤ m * m := Nat.mul_le_mul (by omega) (by omega)
  have h3 : (m + 1) * (m + 1) = m * m + 2 * m + 1 := by rw [Nat.mul_add, Nat.add_mul]; omega
  omega
theorem am_end {c d : Nat → Nat} {place n rest X : Nat} (hlo : ∀ j, j < place → c j = d j) (hhi : ∀ j, place + n ≤ j → c j = d j) (hw : vl b (fun j => c (place + j)) n = X + vl b (fun j => d (place + j)) n) : vl b c (place + n + rest) = vl b d (place + n + rest) + X * b ^ place := by
  rw [vl_split b c (place + n), vl_split b d (place + n), vl_split b c place, vl_split b d place, hw, vl_congr hlo]
  rw [vl_congr (n := rest) (d := fun j => c (place + n + j)) (e := fun j => d (place + n + j)) (fun j _ => hhi _ (by omega))]
  rw [Nat.add_mul]
  omega
/-! shifts by whole digits -/
theorem dg_up (hb : 1 < b) {X u k : Nat} : dg b (X * b ^ u) (k + u) = dg b X k := by
  unfold dg
  rw [Nat.pow_add, Nat.mul_div_mul_right _ _ (bp_pos hb u)]
theorem dg_up0 (hb : 1 < b) {X u k : Nat} (h : k < u) : dg b (X * b ^ u) k = 0 := by
  have := dg_add_hi hb (X := 0) (Y := X) h
  rw [Nat.zero_add] at this
  rw [this, dg_zero]
theorem dg_down {X u k : Nat} : dg b (X / b ^ u) k = dg b X (k + u) := by
  unfold dg
  rw [Nat.div_div_eq_div_mul, ← Nat.pow_add, Nat.add_comm]
end
