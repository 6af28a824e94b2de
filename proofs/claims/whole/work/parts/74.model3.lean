/-! the reference: takeTimes, rest, quotient -/
/-- all rows but E's are as they were -/
def rkeep (E : Nat → Prop) (f g f' g' : Nat → Int32) : Prop := ∀ x, x < 24 → ¬ E x → g' x = g x ∧ ∀ j, j < rcap x → f' (rt x + j) = f (rt x + j)
theorem rk_id (E : Nat → Prop) (f g : Nat → Int32) : rkeep E f g f g := fun _ _ _ => ⟨rfl, fun _ _ => rfl⟩
theorem rk_tr {E : Nat → Prop} {f g f1 g1 f2 g2 : Nat → Int32} (h1 : rkeep E f g f1 g1) (h2 : rkeep E f1 g1 f2 g2) : rkeep E f g f2 g2 := fun x hx hE => ⟨((h2 x hx hE).1).trans (h1 x hx hE).1, fun j hj => ((h2 x hx hE).2 j hj).trans ((h1 x hx hE).2 j hj)⟩
theorem rk_mono {E E' : Nat → Prop} {f g f1 g1 : Nat → Int32} (h : rkeep E f g f1 g1) (hE : ∀ x, E x → E' x) : rkeep E' f g f1 g1 := fun x hx hx' => h x hx (fun z => hx' (hE x z))
theorem rk_rs {f g f' g' : Nat → Int32} {d N : Nat} (hd : d < 24) (h : rset f g d N f' g') : rkeep (fun x => x = d) f g f' g' := by
  obtain ⟨h1, h2, h3⟩ := h
  refine fun x hx hE => ⟨by rw [h2]; exact if_neg hE, fun j hj => h1 _ (fun z => ?_)⟩
  exact rt_ne hE hx hd hj (show rt x + j - rt d < rcap d by omega) (by omega)
theorem rk_rv {E : Nat → Prop} {f g f' g' : Nat → Int32} {x M : Nat} (h : rkeep E f g f' g') (hx : x < 24) (hE : ¬ E x) (hv : rv f g x M) : rv f' g' x M := by
  obtain ⟨h1, h2, h3⟩ := hv
  obtain ⟨k1, k2⟩ := h x hx hE
  exact ⟨by rw [k1, h1], h2, fun k hk => by rw [k2 k (by omega), h3 k hk]⟩
theorem rk_upd {f g : Nat → Int32} {d j : Nat} {v : Int32} (hd : d < 24) (hj : j < rcap d) : rkeep (fun x => x = d) f g (upd f (rt d + j) v) g := fun x hx hE => ⟨rfl, fun i hi => if_neg (rt_ne hE hx hd hi hj)⟩
theorem rk_g {f g : Nat → Int32} {d : Nat} {v : Int32} : rkeep (fun x => x = d) f g f (upd g d v) := fun x hx hE => ⟨if_neg hE, fun i hi => rfl⟩
/-- only one row has changed: it is set -/
theorem rs_of {f g f' g' : Nat → Int32} {d N : Nat} (h : rset f g d N f' g') {g0 f0 : Nat → Int32} (h1 : ∀ i, ¬ (rt d ≤ i ∧ i < rt d + rcap d) → f i = f0 i) (h2 : ∀ x, x ≠ d → g x = g0 x) : rset f0 g0 d N f' g' := by
  obtain ⟨k1, k2, k3⟩ := h
  refine ⟨fun i hi => (k1 i hi).trans (h1 i hi), ?_, k3⟩
  rw [k2]
  funext x
  show (if _ then _ else _) = (if _ then _ else _)
  by_cases z : x = d
  · rw [if_pos z, if_pos z]
  · rw [if_neg z, if_neg z, h2 x z]
theorem rs_self {f g : Nat → Int32} {d N : Nat} {g0 f0 : Nat → Int32} (hv : rv f g d N) (h1 : ∀ i, ¬ (rt d ≤ i ∧ i < rt d + rcap d) → f i = f0 i) (h2 : ∀ x, x ≠ d → g x = g0 x) : rset f0 g0 d N f g := by
  refine ⟨h1, ?_, hv⟩
  funext x
  show _ = (if _ then _ else _)
  by_cases z : x = d
  · rw [if_pos z, z, hv.1]
  · rw [if_neg z, h2 x z]
/-- multiples taken: the carry, below 0 -/
def tc (R B t k : Nat) : Int := (((R % 65536 ^ k : Nat) : Int) - (t : Int) * ((B % 65536 ^ k : Nat) : Int)) / ((65536 ^ k : Nat) : Int)
theorem tc_0 (R B t : Nat) : tc R B t 0 = 0 := by
  unfold tc
  rw [Nat.pow_zero, Nat.mod_one, Nat.mod_one]
  simp
theorem tc_b (R B t k : Nat) : -(t : Int) ≤ tc R B t k ∧ tc R B t k ≤ 0 := by
  unfold tc
  have h1 := bp_pos b16 k
  have h2 := Nat.mod_lt B h1
  have h3 := Nat.mod_lt R h1
  generalize 65536 ^ k = P at *
  generalize R % P = x at *
  generalize B % P = y at *
  have hy : (t : Int) * (y : Int) ≤ (t : Int) * (P : Int) := Int.mul_le_mul_of_nonneg_left (by omega) (by omega)
  have hy0 : 0 ≤ (t : Int) * (y : Int) := Int.mul_nonneg (by omega) (by omega)
  constructor
  · rw [Int.le_ediv_iff_mul_le (by omega), Int.neg_mul]
    omega
  · have : ((x : Int) - (t : Int) * (y : Int)) / (P : Int) < 1 := by
      rw [Int.ediv_lt_iff_lt_mul (by omega)]
      omega
    omega
theorem tc_s (R B t k : Nat) : ((dg 65536 R k : Int) - (t * dg 65536 B k : Nat) + tc R B t k) / 65536 = tc R B t (k + 1) := by
  unfold tc
  have h1 := bp_pos b16 k
  rw [md_split, md_split, bp_succ]
  generalize R % 65536 ^ k = x
  generalize B % 65536 ^ k = y
  generalize dg 65536 R k = u
  generalize dg 65536 B k = v
  generalize 65536 ^ k = P at *
  rw [Int.natCast_mul P 65536, ← Int.ediv_ediv_of_nonneg (by omega)]
  congr 1
  have e : ((x + P * u : Nat) : Int) - (t : Int) * ((y + P * v : Nat) : Int) = ((x : Int) - (t : Int) * (y : Int)) + (P : Int) * ((u : Int) - ((t * v : Nat) : Int)) := by
    rw [Int.natCast_add, Int.natCast_add, Int.natCast_mul, Int.natCast_mul, Int.natCast_mul]
    grind
  rw [e, Int.add_mul_ediv_left _ _ (by omega), Int.add_comm]
theorem tc_d {R B t : Nat} (hle : t * B ≤ R) (k : Nat) : (((dg 65536 R k : Int) - (t * dg 65536 B k : Nat) + tc R B t k) % 65536).toNat = dg 65536 (R - t * B) k := by
  have h1 := bp_pos b16 k
  have hR := Nat.mod_add_div R (65536 ^ k)
  have hB := Nat.mod_add_div B (65536 ^ k)
  have e0 : dg 65536 (R - t * B) k = (((((R - t * B : Nat) : Int) / ((65536 ^ k : Nat) : Int)) % 65536)).toNat := by
    unfold dg
    rw [← Int.natCast_ediv, show (65536 : Int) = ((65536 : Nat) : Int) from rfl, ← Int.natCast_emod, Int.toNat_natCast]
  rw [e0]
  congr 1
  unfold tc dg
  rw [Int.ofNat_sub hle]
  generalize R % 65536 ^ k = x at *
  generalize B % 65536 ^ k = y at *
  generalize R / 65536 ^ k = u at *
  generalize B / 65536 ^ k = v at *
  generalize 65536 ^ k = P at *
  have e : (R : Int) - ((t * B : Nat) : Int) = ((x : Int) - (t : Int) * (y : Int)) + (P : Int) * ((u : Int) - (t : Int) * (v : Int)) := by
    rw [← hR, ← hB, Int.natCast_mul, Int.natCast_add, Int.natCast_add, Int.natCast_mul, Int.natCast_mul]
    grind
  rw [e, Int.add_mul_ediv_left _ _ (by omega)]
  have hv := Nat.div_add_mod v 65536
  have e2 : (t : Int) * (v : Int) = 65536 * ((t * (v / 65536) : Nat) : Int) + ((t * (v % 65536) : Nat) : Int) := by
    rw [← Int.natCast_mul, ← show 65536 * (t * (v / 65536)) + t * (v % 65536) = t * v by rw [Nat.mul_left_comm, ← Nat.mul_add, hv], Int.natCast_add, Int.natCast_mul]
    rfl
  rw [e2]
  omega
theorem lZ_and16 (s : Int) : (lZ s &&& 65535).toInt32 = nI (s % 65536).toNat := by
  have h : lZ s &&& 65535 = lN (s % 65536).toNat := by
    apply Int64.toBitVec_inj.mp
    apply BitVec.eq_of_toNat_eq
    rw [Int64.toBitVec_and, BitVec.toNat_and]
    show (BitVec.ofInt 64 s).toNat &&& (2 ^ 16 - 1) = (BitVec.ofNat 64 _).toNat
    rw [Nat.and_two_pow_sub_one_eq_mod, BitVec.toNat_ofInt, BitVec.toNat_ofNat]
    have e : (2 : Nat) ^ 64 = 18446744073709551616 := rfl
    have e2 : (2 : Nat) ^ 16 = 65536 := rfl
    rw [e, e2]
    omega
  rw [h]
  exact lN_i _
/-- a bit is set -/
theorem bs_dg {c j k : Nat} : dg 65536 (c * 2 ^ (j + 1) + 2 ^ j) k = if k = j / 16 then dg 65536 (c * 2 ^ (j + 1)) k + 2 ^ (j % 16) else dg 65536 (c * 2 ^ (j + 1)) k := by
  have hs : j % 16 < 16 := Nat.mod_lt _ (by decide)
  obtain ⟨x, ex⟩ : ∃ x, x = 2 ^ (j % 16 + 1) := ⟨_, rfl⟩
  have e1 : c * 2 ^ (j + 1) = c * x * 65536 ^ (j / 16) := by
    rw [ex, Nat.pow_succ, p2_16 j, Nat.pow_succ]
    rw [Nat.mul_assoc, Nat.mul_assoc, Nat.mul_comm (65536 ^ (j / 16))]
  have e2 : 2 ^ j = 2 ^ (j % 16) * 65536 ^ (j / 16) := by rw [p2_16 j, Nat.mul_comm]
  have e3 : (65536 : Nat) = x * 2 ^ (15 - j % 16) := by rw [ex, ← Nat.pow_add, show j % 16 + 1 + (15 - j % 16) = 16 by omega]
  have hlt : 2 ^ (j % 16) < x := by rw [ex, Nat.pow_succ]; have := Nat.pow_pos (n := j % 16) (show 0 < 2 by decide); omega
  have hx : 0 < x := by omega
  rw [e1, e2, ← Nat.add_mul]
  by_cases z : k < j / 16
  · rw [if_neg (by omega), dg_up0 b16 z, dg_up0 b16 z]
  · obtain ⟨m, rfl⟩ : ∃ m, k = m + j / 16 := ⟨k - j / 16, by omega⟩
    rw [dg_up b16, dg_up b16]
    by_cases y : m = 0
    · rw [if_pos (by omega), y]
      unfold dg
      rw [Nat.pow_zero, Nat.div_one, Nat.div_one]
      have h := md_shift (x := c) (p := x) (q := 2 ^ (15 - j % 16)) (Nat.pow_pos (by decide)) hlt
      rw [← e3] at h
      exact h
    · rw [if_neg (by omega)]
      obtain ⟨i, rfl⟩ : ∃ i, m = i + 1 := ⟨m - 1, by omega⟩
      unfold dg
      congr 1
      have e4 : 65536 ^ (i + 1) = x * (2 ^ (15 - j % 16) * 65536 ^ i) := by rw [← Nat.mul_assoc, ← e3, Nat.pow_succ, Nat.mul_comm]
      rw [e4]
      generalize 2 ^ (15 - j % 16) * 65536 ^ i = Z
      have h1 : (c * x + 2 ^ (j % 16)) / (x * Z) = c / Z := by rw [← Nat.div_div_eq_div_mul, Nat.add_comm, Nat.add_mul_div_right _ _ hx, Nat.div_eq_of_lt hlt, Nat.zero_add]
      have h2 : c * x / (x * Z) = c / Z := by rw [← Nat.div_div_eq_div_mul, Nat.mul_div_cancel _ hx]
      rw [h1, h2]
theorem bs_or {c j : Nat} : dg 65536 (c * 2 ^ (j + 1)) (j / 16) ||| 2 ^ (j % 16) = dg 65536 (c * 2 ^ (j + 1)) (j / 16) + 2 ^ (j % 16) := by
  have hs : j % 16 < 16 := Nat.mod_lt _ (by decide)
  have h : ∃ y, dg 65536 (c * 2 ^ (j + 1)) (j / 16) = 2 ^ (j % 16 + 1) * y := by
    have e1 : c * 2 ^ (j + 1) = c * 2 ^ (j % 16 + 1) * 65536 ^ (j / 16) := by
      rw [Nat.pow_succ, p2_16 j, Nat.pow_succ]
      rw [Nat.mul_assoc, Nat.mul_assoc, Nat.mul_comm (65536 ^ (j / 16))]
    have e2 := dg_up b16 (X := c * 2 ^ (j % 16 + 1)) (u := j / 16) (k := 0)
    rw [Nat.zero_add] at e2
    rw [e1, e2]
    unfold dg
    rw [Nat.pow_zero, Nat.div_one]
    have e3 : (65536 : Nat) = 2 ^ (j % 16 + 1) * 2 ^ (15 - j % 16) := by rw [← Nat.pow_add, show j % 16 + 1 + (15 - j % 16) = 16 by omega]
    exact ⟨c % 2 ^ (15 - j % 16), by rw [e3, Nat.mul_comm c, Nat.mul_mod_mul_left]⟩
  obtain ⟨y, hy⟩ := h
  rw [hy]
  exact (Nat.two_pow_add_eq_or_of_lt (i := j % 16 + 1) (by rw [Nat.pow_succ]; have := Nat.pow_pos (n := j % 16) (show 0 < 2 by decide); omega) y).symm
/-- one step of the division, bit by bit -/
theorem qs_step {A B j : Nat} (hB : 0 < B) : A / 2 ^ j = B * (2 * (A / 2 ^ (j + 1) / B)) + (2 * (A / 2 ^ (j + 1) % B) + A / 2 ^ j % 2) := by
  have h := bit_split A j
  have h2 := Nat.div_add_mod (A / 2 ^ (j + 1)) B
  generalize A / 2 ^ (j + 1) = y at *
  generalize y / B = u at *
  generalize y % B = v at *
  rw [Nat.mul_left_comm]
  omega
theorem qs_0 {A B j : Nat} (hB : 0 < B) (h : 2 * (A / 2 ^ (j + 1) % B) + A / 2 ^ j % 2 < B) : A / 2 ^ j % B = 2 * (A / 2 ^ (j + 1) % B) + A / 2 ^ j % 2 ∧ A / 2 ^ j / B = 2 * (A / 2 ^ (j + 1) / B) := by
  have e := qs_step (A := A) (j := j) hB
  generalize 2 * (A / 2 ^ (j + 1) % B) + A / 2 ^ j % 2 = r at *
  generalize 2 * (A / 2 ^ (j + 1) / B) = u at *
  rw [e]
  exact ⟨by rw [Nat.mul_add_mod, Nat.mod_eq_of_lt h], by rw [Nat.mul_add_div hB, Nat.div_eq_of_lt h, Nat.add_zero]⟩
theorem qs_1 {A B j : Nat} (hB : 0 < B) (h : ¬ 2 * (A / 2 ^ (j + 1) % B) + A / 2 ^ j % 2 < B) : A / 2 ^ j % B = 2 * (A / 2 ^ (j + 1) % B) + A / 2 ^ j % 2 - B ∧ A / 2 ^ j / B = 2 * (A / 2 ^ (j + 1) / B) + 1 := by
  have e := qs_step (A := A) (j := j) hB
  have hm := Nat.mod_lt (A / 2 ^ (j + 1)) hB
  have hr : 2 * (A / 2 ^ (j + 1) % B) + A / 2 ^ j % 2 - B < B := by omega
  have e2 : A / 2 ^ j = B * (2 * (A / 2 ^ (j + 1) / B) + 1) + (2 * (A / 2 ^ (j + 1) % B) + A / 2 ^ j % 2 - B) := by
    rw [Nat.mul_add, Nat.mul_one]
    omega
  generalize 2 * (A / 2 ^ (j + 1) % B) + A / 2 ^ j % 2 - B = r at *
  generalize 2 * (A / 2 ^ (j + 1) / B) + 1 = u at *
  rw [e2]
  exact ⟨by rw [Nat.mul_add_mod, Nat.mod_eq_of_lt hr], by rw [Nat.mul_add_div hB, Nat.div_eq_of_lt hr, Nat.add_zero]⟩
section
variable {l : Launch} {D : va_G} {tys : List (ClassId × FieldType)} {cI cZ : ClassId} {q : Nat → Nat} {h0 : vx_h} {f g s : Nat → Int32} {V : Nat → Nat} {X : Nat → Int} {a b d r u N sz U W : Nat} {w : Int32}
set_option maxRecDepth 100000 in
set_option maxHeartbeats 8000000 in
theorem cR_takeTimes (LR : rlay q h0) (ht2 : tys[2]? = some (cZ, .boolean)) (ht3 : tys[3]? = some (cI, .int)) (Hr : rv f g r U) (Hb : rv f g b W) (hr : r < 24) (hb : b < 24) {t : Nat} (ht : t < 2 ^ 40) (hle : t * W ≤ U) : vx_M l D vcl tys my_R_takeTimes lw_gd (rm_ 2 0 0 43) [.ref (q 0), .int (nI r), .int (nI b), .long (lN t)] (rH cI cZ q h0 f g s) (rdone cI cZ q h0 f g s r (U - t * W)) := by
  refine vx_M.ofV (cc := bc_R_takeTimes) (maxL := 10) (ret := none) (own := rR) false rfl (by decide +kernel) wC_R_takeTimes (fun q => by cases q) (Nat.le_of_ble_eq_true rfl) (fun A H0 G IG RG => ?_)
  show vx_V _ _ _ _ _ _ _ _ _ 0 [(0, .ref (q 0)), (1, .int (nI r)), (2, .int (nI b)), (3, .long (lN t))] []
  obtain ⟨hgr, hcr, hfr⟩ := Hr
  obtain ⟨hgb, hcb, hfb⟩ := Hb
  have c1 := rcap_4 r
  have c2 := rcap_4 b
  have hN : U - t * W < 65536 ^ nd 65536 U := Nat.lt_of_le_of_lt (Nat.sub_le _ _) (lt_nd b16 _)
  refine vx_lconst (v := 0) IG dc_R_takeTimes_0 (by decide) ?_
  refine vx_lstore (lv' := [(5, .long 0), (0, .ref (q 0)), (1, .int (nI r)), (2, .int (nI b)), (3, .long (lN t))]) IG dc_R_takeTimes_1 (by decide) rfl ?_
  refine vx_iconst (v := 0) IG dc_R_takeTimes_3 (by decide) ?_
  refine vx_istore (lv' := [(7, .int 0), (5, .long 0), (0, .ref (q 0)), (1, .int (nI r)), (2, .int (nI b)), (3, .long (lN t))]) IG dc_R_takeTimes_4 (by decide) rfl ?_
  have loop : ∀ (j c k n : Nat), c + j = nd 65536 U → k = 0 → n = 0 → vx_V D vcl A H0 10 G (rH cI cZ q h0 (pf f (rt r) (dg 65536 (U - t * W)) c) g s) k n 6 [(7, .int (nI c)), (5, .long (lZ (tc U W t c))), (0, .ref (q 0)), (1, .int (nI r)), (2, .int (nI b)), (3, .long (lN t))] [] := by
    intro j
    induction j with
    | zero =>
      intro c k n hc hk hn
      subst hk hn
      obtain rfl : c = nd 65536 U := by omega
      refine vx_iload IG dc_R_takeTimes_6 0 rfl ?_
      refine vx_aload_n IG dc_R_takeTimes_8 rfl 2 rfl ?_
      refine vx_get IG (ro_M LR) rfl 1 (by decide) inR wF_R_14 rfl rfl dc_R_takeTimes_9 ?_
      refine vx_iload_n IG dc_R_takeTimes_12 rfl 3 rfl ?_
      refine rr_nld IG LR ht3 hr (x := nI (nd 65536 U)) hgr dc_R_takeTimes_13 ?_
      refine vx_icmp_ge (tgt := 78) IG dc_R_takeTimes_14 (by decide) (fun _ => ?_) (fun c_ => absurd (nI_le (Nat.le_refl _) (by omega)) c_)
      refine vx_aload_n IG dc_R_takeTimes_78 rfl 2 rfl ?_
      refine vx_iload_n IG dc_R_takeTimes_79 rfl 3 rfl ?_
      refine vx_aload_n IG dc_R_takeTimes_80 rfl 2 rfl ?_
      refine vx_get IG (ro_M LR) rfl 1 (by decide) inR wF_R_14 rfl rfl dc_R_takeTimes_81 ?_
      refine vx_iload_n IG dc_R_takeTimes_84 rfl 3 rfl ?_
      refine rr_nld IG LR ht3 hr (x := nI (nd 65536 U)) hgr dc_R_takeTimes_85 ?_
      refine vx_callV (As := [.int (nI r), .int (nI (nd 65536 U))]) (st := []) IG lw_good (cR_trim LR ht2 ht3 (N := U - t * W) (sz := nd 65536 U) hr (by omega) (fun k hk => pf_in hk) hN) (ro_M LR) rfl wC_R_trim wL_R_28 wI_R_trim wS_R_trim wX_R 2 (by decide +kernel) rfl ⟨Nat.le_of_ble_eq_true rfl, Nat.le_of_ble_eq_true rfl⟩ ⟨(by dsimp only [rm_]; omega), (by dsimp only [rm_]; omega)⟩ rfl (Nat.le_of_ble_eq_true rfl) dc_R_takeTimes_86 (fun v h k_ n_ hq => ?_)
      obtain ⟨rfl, rfl, rfl, rfl⟩ := hq
      show vx_V _ _ _ _ _ _ _ _ _ 89 [(7, .int (nI (nd 65536 U))), (5, .long (lZ (tc U W t (nd 65536 U)))), (0, .ref (q 0)), (1, .int (nI r)), (2, .int (nI b)), (3, .long (lN t))] []
      refine vx_ret none RG (vx_endv dc_R_takeTimes_89) rfl ?_
      exact ⟨rfl, rfl, rfl, _, _, rfl, rs_pw (by omega) hN⟩
    | succ j ih =>
      intro c k n hc hk hn
      subst hk hn
      have l1 := dg_lt b16 U c
      have l2 := dg_lt b16 W c
      have l3 := tc_b U W t c
      have l4 : t * dg 65536 W c ≤ 1099511627776 * 65536 := Nat.mul_le_mul (by omega) (by omega)
      refine vx_iload IG dc_R_takeTimes_6 0 rfl ?_
      refine vx_aload_n IG dc_R_takeTimes_8 rfl 2 rfl ?_
      refine vx_get IG (ro_M LR) rfl 1 (by decide) inR wF_R_14 rfl rfl dc_R_takeTimes_9 ?_
      refine vx_iload_n IG dc_R_takeTimes_12 rfl 3 rfl ?_
      refine rr_nld IG LR ht3 hr (x := nI (nd 65536 U)) hgr dc_R_takeTimes_13 ?_
      refine vx_icmp_ge (tgt := 78) IG dc_R_takeTimes_14 (by decide) (fun c_ => absurd c_ (fun y => absurd (nI_lt (a := c) (b := nd 65536 U) (by omega) (by omega)) (Int32.not_lt.mpr y))) (fun _ => ?_)
      refine vx_aload_n IG dc_R_takeTimes_17 rfl 2 rfl ?_
      refine vx_get IG (ro_M LR) rfl 0 (by decide) inR wF_R_8 rfl rfl dc_R_takeTimes_18 ?_
      refine vx_iload_n IG dc_R_takeTimes_21 rfl 3 rfl ?_
      refine vx_callS (As := [.int (nI r)]) (st := [.ref (q 1)]) IG lw_good (cR_at _ r hr) wC_R_at wL_R_22 wT_R_at wX_R 1 (by decide +kernel) rfl ⟨Nat.le_of_ble_eq_true rfl, Nat.le_of_ble_eq_true rfl⟩ ⟨(by dsimp only [rm_]; omega), (by dsimp only [rm_]; omega)⟩ rfl (Nat.le_of_ble_eq_true rfl) dc_R_takeTimes_22 (fun v h k_ n_ hq => ?_)
      obtain ⟨rfl, rfl, rfl, rfl⟩ := hq
      show vx_V _ _ _ _ _ _ _ _ _ 25 [(7, .int (nI c)), (5, .long (lZ (tc U W t c))), (0, .ref (q 0)), (1, .int (nI r)), (2, .int (nI b)), (3, .long (lN t))] [.int (nI (rt r)), .ref (q 1)]
      refine vx_iload IG dc_R_takeTimes_25 0 rfl ?_
      refine vx_iadd IG dc_R_takeTimes_27 ?_
      refine vx_topi (y := nI ((rt r) + c)) (nI_add _ _) ?_
      refine rr_mld IG LR ht3 (rt_in hr (by omega)) (x := nI (dg 65536 U c)) (by rw [pf_row (Or.inr (Nat.le_refl c)) hr hr (by omega) (by omega)]; exact hfr c (by omega)) dc_R_takeTimes_28 ?_
      refine vx_i2l (v := lN (dg 65536 U c)) IG dc_R_takeTimes_29 (nI_l (by omega)) ?_
      refine vx_lload_n IG dc_R_takeTimes_30 rfl 5 rfl ?_
      refine vx_aload_n IG dc_R_takeTimes_31 rfl 2 rfl ?_
      refine vx_iload_n IG dc_R_takeTimes_32 rfl 4 rfl ?_
      refine vx_iload IG dc_R_takeTimes_33 0 rfl ?_
      refine vx_callV (As := [.int (nI b), .int (nI c)]) (st := [.long (lN t), .long (lN (dg 65536 U c))]) IG lw_good (cR_digit LR ht2 ht3 (N := W) hb (k := c) (by omega) hgb hcb (fun z => by rw [pf_row (Or.inr (Nat.le_refl c)) hb hr (by omega) (by omega)]; exact hfb c z)) (ro_M LR) rfl wC_R_digit wL_R_32 wI_R_digit wS_R_digit wX_R 2 (by decide +kernel) rfl ⟨Nat.le_of_ble_eq_true rfl, Nat.le_of_ble_eq_true rfl⟩ ⟨(by dsimp only [rm_]; omega), (by dsimp only [rm_]; omega)⟩ rfl (Nat.le_of_ble_eq_true rfl) dc_R_takeTimes_35 (fun v h k_ n_ hq => ?_)
      obtain ⟨rfl, rfl, rfl, rfl⟩ := hq
      show vx_V _ _ _ _ _ _ _ _ _ 38 [(7, .int (nI c)), (5, .long (lZ (tc U W t c))), (0, .ref (q 0)), (1, .int (nI r)), (2, .int (nI b)), (3, .long (lN t))] [.int (nI (dg 65536 W c)), .long (lN t), .long (lN (dg 65536 U c))]
      refine vx_i2l (v := lN (dg 65536 W c)) IG dc_R_takeTimes_38 (nI_l (by omega)) ?_
      refine vx_lmul IG dc_R_takeTimes_39 ?_
      refine vx_topl (y := lN (t * (dg 65536 W c))) (lN_mul _ _) ?_
      refine vx_lsub IG dc_R_takeTimes_40 ?_
      refine vx_topl (y := lZ ((dg 65536 U c : Int) - (t * dg 65536 W c : Nat))) (by rw [← lZ_nat, ← lZ_nat]; exact lZ_sub _ _) ?_
      refine vx_lload IG dc_R_takeTimes_41 1 rfl ?_
      refine vx_ladd IG dc_R_takeTimes_43 ?_
      refine vx_topl (y := lZ ((dg 65536 U c : Int) - (t * dg 65536 W c : Nat) + tc U W t c)) (lZ_add _ _) ?_
      refine vx_lstore (lv' := [(8, .long (lZ ((dg 65536 U c : Int) - (t * dg 65536 W c : Nat) + tc U W t c))), (7, .int (nI c)), (5, .long (lZ (tc U W t c))), (0, .ref (q 0)), (1, .int (nI r)), (2, .int (nI b)), (3, .long (lN t))]) IG dc_R_takeTimes_44 (by decide) rfl ?_
      refine vx_aload_n IG dc_R_takeTimes_46 rfl 3 rfl ?_
      refine vx_get IG (ro_M LR) rfl 0 (by decide) inR wF_R_8 rfl rfl dc_R_takeTimes_47 ?_
      refine vx_iload_n IG dc_R_takeTimes_50 rfl 4 rfl ?_
      refine vx_callS (As := [.int (nI r)]) (st := [.ref (q 1)]) IG lw_good (cR_at _ r hr) wC_R_at wL_R_22 wT_R_at wX_R 1 (by decide +kernel) rfl ⟨Nat.le_of_ble_eq_true rfl, Nat.le_of_ble_eq_true rfl⟩ ⟨(by dsimp only [rm_]; omega), (by dsimp only [rm_]; omega)⟩ rfl (Nat.le_of_ble_eq_true rfl) dc_R_takeTimes_51 (fun v h k_ n_ hq => ?_)
      obtain ⟨rfl, rfl, rfl, rfl⟩ := hq
      show vx_V _ _ _ _ _ _ _ _ _ 54 [(8, .long (lZ ((dg 65536 U c : Int) - (t * dg 65536 W c : Nat) + tc U W t c))), (7, .int (nI c)), (5, .long (lZ (tc U W t c))), (0, .ref (q 0)), (1, .int (nI r)), (2, .int (nI b)), (3, .long (lN t))] [.int (nI (rt r)), .ref (q 1)]
      refine vx_iload IG dc_R_takeTimes_54 1 rfl ?_
      refine vx_iadd IG dc_R_takeTimes_56 ?_
      refine vx_topi (y := nI ((rt r) + c)) (nI_add _ _) ?_
      refine vx_lload IG dc_R_takeTimes_57 0 rfl ?_
      refine vx_ldc2 (v := 65535) IG wK_R_26 dc_R_takeTimes_59 ?_
      refine vx_land IG dc_R_takeTimes_62 ?_
      refine vx_l2i (v := nI (dg 65536 (U - t * W) c)) IG dc_R_takeTimes_63 (by rw [lZ_and16, tc_d hle]) ?_
      refine rr_mst IG LR ht3 (rt_in hr (by omega)) (f' := pf f (rt r) (dg 65536 (U - t * W)) (c + 1)) (pf_s _ _ _ _) dc_R_takeTimes_64 ?_
      refine vx_lload IG dc_R_takeTimes_65 0 rfl ?_
      refine vx_bipush (v := 16) IG dc_R_takeTimes_67 (by decide) ?_
      refine vx_lshr (v := lZ (tc U W t (c + 1))) IG dc_R_takeTimes_69 (by rw [lZ_shr16 (by omega) (by omega), tc_s]) ?_
      refine vx_lstore (lv' := [(5, .long (lZ (tc U W t (c + 1)))), (8, .long (lZ ((dg 65536 U c : Int) - (t * dg 65536 W c : Nat) + tc U W t c))), (7, .int (nI c)), (0, .ref (q 0)), (1, .int (nI r)), (2, .int (nI b)), (3, .long (lN t))]) IG dc_R_takeTimes_70 (by decide) rfl ?_
      refine vx_iinc (q := 2) (v := nI (c + 1)) (lv' := [(7, .int (nI (c + 1))), (5, .long (lZ (tc U W t (c + 1)))), (8, .long (lZ ((dg 65536 U c : Int) - (t * dg 65536 W c : Nat) + tc U W t c))), (0, .ref (q 0)), (1, .int (nI r)), (2, .int (nI b)), (3, .long (lN t))]) IG dc_R_takeTimes_72 rfl (nI_1 c) (by decide) rfl ?_
      refine vx_goto (tgt := 6) IG dc_R_takeTimes_75 (by decide) ?_
      refine vx_same (lv' := [(7, .int (nI (c + 1))), (5, .long (lZ (tc U W t (c + 1)))), (0, .ref (q 0)), (1, .int (nI r)), (2, .int (nI b)), (3, .long (lN t))]) IG [0, 1, 3, 4, 5, 6] rfl ?_
      exact ih (c + 1) _ _ (by omega) rfl rfl
  have hl := loop (nd 65536 U) 0 0 0 (by omega) rfl rfl
  rw [pf_0, tc_0] at hl
  exact hl
end
theorem hi_3 {R P d1 d0 dm : Nat} (h1 : d1 = R / (P * 65536 * 65536)) (h0 : d0 = R / (P * 65536) % 65536) (hm : dm = R / P % 65536) : (d1 * 65536 + d0) * 65536 + dm = R / P := by
  rw [← Nat.div_div_eq_div_mul, ← Nat.div_div_eq_div_mul] at h1
  rw [← Nat.div_div_eq_div_mul] at h0
  omega
theorem tt_le {R B P hh by_ : Nat} (h1 : hh = R / P) (h2 : B / P + 1 = by_) (hP : 0 < P) : hh / by_ * B ≤ R := by
  have a1 : hh / by_ * by_ ≤ hh := Nat.div_mul_le_self _ _
  have a2 : hh * P ≤ R := by rw [h1]; exact Nat.div_mul_le_self _ _
  have a3 : B ≤ by_ * P := by
    rw [← h2]
    exact Nat.le_of_lt (by have := Nat.lt_mul_div_succ B hP; rwa [Nat.mul_comm] at this)
  calc hh / by_ * B ≤ hh / by_ * (by_ * P) := Nat.mul_le_mul_left _ a3
    _ = hh / by_ * by_ * P := (Nat.mul_assoc _ _ _).symm
    _ ≤ hh * P := Nat.mul_le_mul_right _ a1
    _ ≤ R := a2
theorem tt_le0 {R B hh by_ : Nat} (h1 : hh = R * 65536) (h2 : B * 65536 + 1 = by_) : hh / by_ * B ≤ R := by
  have a1 : hh / by_ * by_ ≤ hh := Nat.div_mul_le_self _ _
  have a2 : hh / by_ * (B * 65536) ≤ hh / by_ * by_ := Nat.mul_le_mul_left _ (by omega)
  rw [← Nat.mul_assoc] at a2
  omega
theorem sl_32 {v : Nat} (h : v < 65536) : lN v <<< ((32 : Int32).toInt64 &&& 63) = lN (v * 4294967296) := wb_shl v (k := 32) (by decide)
theorem sl_16 {v : Nat} (h : v < 65536) : lN v <<< ((16 : Int32).toInt64 &&& 63) = lN (v * 65536) := wb_shl v (k := 16) (by decide)
theorem or_hi {d1 d0 : Nat} (h1 : d1 < 65536) (h0 : d0 < 65536) : lN (d1 * 4294967296) ||| lN (d0 * 65536) = lN ((d1 * 65536 + d0) * 65536) := by
  rw [g_or (k := 32) (p := 4294967296) rfl (by omega) (by omega)]
  exact congrArg lN (by omega)
theorem bz2 {x y : Nat} (hx : x < 65536) (hy : y < 65536) : x * 65536 + y < 4294967296 := by omega
theorem bz3 {x y : Nat} (hx : x < 4294967296) (hy : y < 65536) : x * 65536 + y < 2 ^ 48 := by omega
theorem bz4 {x y : Nat} (h0 : 0 < x) : 65536 < x * 65536 + y + 1 := by omega
theorem bz5 {x y : Nat} (hx : x < 65536) (hy : y < 65536) : x * 65536 + y + 1 < 2 ^ 40 := by omega
theorem low2 {R : Nat} (h : R < 65536 ^ 2) : (dg 65536 R 1 * 65536 + dg 65536 R 0) * 65536 + 0 = R * 65536 := by
  have e : 0 + dg 65536 R 0 * 65536 ^ 0 + dg 65536 R 1 * 65536 ^ 1 = R := vl_nd_le b16 (n := 2) ((nd_le b16).mpr h)
  omega
theorem or_lo {x d : Nat} (hx : x < 4294967296) (h0 : d < 65536) : lN (x * 65536) ||| lN d = lN (x * 65536 + d) := g_or (k := 16) (p := 65536) rfl h0 (by omega)
theorem sh_dg {R x k : Nat} : dg 65536 (R * 65536 + x) (k + 1) = dg 65536 (R + x / 65536) k := by
  unfold dg
  rw [Nat.pow_succ, Nat.mul_comm (65536 ^ k), ← Nat.div_div_eq_div_mul, Nat.add_comm, Nat.add_mul_div_right _ _ (by decide), Nat.add_comm]
theorem sh_dg0 {R x : Nat} (hx : x < 65536) : dg 65536 (R * 65536 + x) 0 = x := by
  unfold dg
  rw [Nat.pow_zero, Nat.div_one]
  omega
theorem rm_step {A B i : Nat} (hB : 0 < B) : (A / 65536 ^ (i + 1) % B * 65536 + dg 65536 A i) % B = A / 65536 ^ i % B := by
  have h := dv_split 65536 A i
  have h2 := Nat.div_add_mod (A / 65536 ^ (i + 1)) B
  generalize A / 65536 ^ (i + 1) = y at *
  rw [h]
  have e : y * 65536 + dg 65536 A i = B * (y / B * 65536) + (y % B * 65536 + dg 65536 A i) := by
    rw [← Nat.mul_assoc, ← Nat.add_assoc, ← Nat.add_mul, h2]
  rw [e, Nat.mul_add_mod]
theorem tk_mod {R B t : Nat} (h : t * B ≤ R) : (R - t * B) % B = R % B := by
  obtain ⟨c, hc⟩ : ∃ c, R = c + t * B := ⟨R - t * B, by omega⟩
  rw [hc, Nat.add_sub_cancel, Nat.add_mul_mod_self_right]
section
variable {l : Launch} {D : va_G} {tys : List (ClassId × FieldType)} {cI cZ : ClassId} {q : Nat → Nat} {h0 : vx_h} {f g s : Nat → Int32} {V : Nat → Nat} {X : Nat → Int} {a b d r u N sz U W : Nat} {w : Int32}
set_option maxRecDepth 100000 in
set_option maxHeartbeats 8000000 in
theorem cR_rest (LR : rlay q h0) (ht2 : tys[2]? = some (cZ, .boolean)) (ht3 : tys[3]? = some (cI, .int)) (Ha : rv f g a U) (Hb : rv f g b W) (hr : r < 24) (ha : a < 24) (hb : b < 24) (n1 : a ≠ r) (n2 : b ≠ r) (hW : 0 < W) (s1 : nd 65536 W + 2 ≤ rcap r) : vx_M l D vcl tys my_R_rest lw_gd (rm_ 3 0 0 72) [.ref (q 0), .int (nI r), .int (nI a), .int (nI b)] (rH cI cZ q h0 f g s) (rdone cI cZ q h0 f g s r (U % W)) := by
  refine vx_M.ofV (cc := bc_R_rest) (maxL := 12) (ret := none) (own := rR) false rfl (by decide +kernel) wC_R_rest (fun q => by cases q) (Nat.le_of_ble_eq_true rfl) (fun A H0 G IG RG => ?_)
  show vx_V _ _ _ _ _ _ _ _ _ 0 [(0, .ref (q 0)), (1, .int (nI r)), (2, .int (nI a)), (3, .int (nI b))] []
  have Hb0 := Hb
  obtain ⟨hga, hca, hfa⟩ := Ha
  obtain ⟨hgb, hcb, hfb⟩ := Hb
  have c1 := rcap_4 r
  have c2 := rcap_4 b
  have c3 := rcap_4 a
  have hnW : 0 < nd 65536 W := Nat.pos_of_ne_zero (fun z => by rw [nd_eq_zero b16] at z; omega)
  have hWlt := lt_nd b16 W
  refine vx_aload_n IG dc_R_rest_0 rfl 0 rfl ?_
  refine vx_get IG (ro_M LR) rfl 1 (by decide) inR wF_R_14 rfl rfl dc_R_rest_1 ?_
  refine vx_iload_n IG dc_R_rest_4 rfl 1 rfl ?_
  refine vx_iconst (v := 0) IG dc_R_rest_5 (by decide) ?_
  refine rr_nst IG LR ht3 hr (g' := upd g r (nI 0)) rfl dc_R_rest_6 ?_
  refine vx_aload_n IG dc_R_rest_7 rfl 0 rfl ?_
  refine vx_get IG (ro_M LR) rfl 1 (by decide) inR wF_R_14 rfl rfl dc_R_rest_8 ?_
  have outer : ∀ (i k n : Nat) (f1 g1 : Nat → Int32), i ≤ nd 65536 U → (∀ x, ¬ (rt r ≤ x ∧ x < rt r + rcap r) → f1 x = f x) → (∀ x, x ≠ r → g1 x = g x) → rv f1 g1 r (U / 65536 ^ i % W) → k = 0 → n = 0 → vx_V D vcl A H0 12 G (rH cI cZ q h0 f1 g1 s) k n 17 [(4, .int (nI i - 1)), (0, .ref (q 0)), (1, .int (nI r)), (2, .int (nI a)), (3, .int (nI b))] [] := by
    intro i
    induction i with
    | zero =>
      intro k n f1 g1 hi e1 e2 Hr hk hn
      subst hk hn
      refine vx_iload IG dc_R_rest_17 0 rfl ?_
      refine vx_if_lt (tgt := 240) IG dc_R_rest_19 (by decide) (fun _ => ?_) (fun c_ => absurd (by decide) c_)
      refine vx_ret none RG (vx_endv dc_R_rest_240) rfl ?_
      rw [Nat.pow_zero, Nat.div_one] at Hr
      exact ⟨rfl, rfl, rfl, f1, g1, rfl, rs_self Hr e1 e2⟩
    | succ i ih =>
      intro k n f1 g1 hi e1 e2 Hr hk hn
      subst hk hn
      rw [nI_pred i]
      have hRW := Nat.mod_lt (U / 65536 ^ (i + 1)) hW
      have hst := rm_step (A := U) (i := i) hW
      obtain ⟨R, eR⟩ : ∃ R, R = U / 65536 ^ (i + 1) % W := ⟨_, rfl⟩
      rw [← eR] at Hr hRW hst
      obtain ⟨hgr, hcr, hfr⟩ := Hr
      have hxl := dg_lt b16 U i
      have hnR : nd 65536 R ≤ nd 65536 W := nd_mono b16 (Nat.le_of_lt hRW)
      have hfa1 : f1 (rt a + i) = nI (dg 65536 U i) := by
        rw [e1 _ (fun z => rt_ne n1 ha hr (show i < rcap a by omega) (show rt a + i - rt r < rcap r by omega) (by omega)), hfa i (by omega)]
      obtain ⟨x, ex⟩ : ∃ x, x = dg 65536 U i := ⟨_, rfl⟩
      rw [← ex] at hfa1 hst hxl
      have hN : R * 65536 + x < 65536 ^ (nd 65536 R + 1) := by
        have := lt_nd b16 R
        rw [bp_succ]
        omega
      -- the while loop
      have while_ : ∀ (m R2 k n : Nat) (f2 g2 : Nat → Int32), R2 ≤ m → (∀ x, ¬ (rt r ≤ x ∧ x < rt r + rcap r) → f2 x = f x) → (∀ x, x ≠ r → g2 x = g x) → rv f2 g2 r R2 → R2 % W = U / 65536 ^ i % W → R2 < 65536 ^ (nd 65536 W + 1) → k = 0 → n = 0 → vx_V D vcl A H0 12 G (rH cI cZ q h0 f2 g2 s) k n 101 [(4, .int (nI i)), (0, .ref (q 0)), (1, .int (nI r)), (2, .int (nI a)), (3, .int (nI b))] [] := by
        intro m
        induction m with
        | zero =>
          intro R2 k n f2 g2 hm q1 q2 Hr2 hmod hlt hk hn
          subst hk hn
          have Hb2 : rv f2 g2 b W := by
            refine ⟨by rw [q2 b n2, hgb], hcb, fun k hk => ?_⟩
            rw [q1 _ (fun z => rt_ne n2 hb hr (show k < rcap b by omega) (show rt b + k - rt r < rcap r by omega) (by omega)), hfb k hk]
          refine vx_aload_n IG dc_R_rest_101 rfl 1 rfl ?_
          refine vx_iload_n IG dc_R_rest_102 rfl 2 rfl ?_
          refine vx_iload_n IG dc_R_rest_103 rfl 4 rfl ?_
          refine vx_callV (As := [.int (nI r), .int (nI b)]) (st := []) IG lw_good (cR_compareRows LR ht2 ht3 Hr2 Hb2 hr hb) (ro_M LR) rfl wC_R_compareRows wL_R_54 wI_R_compareRows wS_R_compareRows wX_R 2 (by decide +kernel) rfl ⟨Nat.le_of_ble_eq_true rfl, Nat.le_of_ble_eq_true rfl⟩ ⟨(by dsimp only [rm_]; omega), (by dsimp only [rm_]; omega)⟩ rfl (Nat.le_of_ble_eq_true rfl) dc_R_rest_104 (fun v h k_ n_ hq => ?_)
          obtain ⟨rfl, rfl, rfl, rfl⟩ := hq
          have hc : cmpI R2 W = -1 := if_pos (by omega)
          show vx_V _ _ _ _ _ _ _ _ _ 107 [(4, .int (nI i)), (0, .ref (q 0)), (1, .int (nI r)), (2, .int (nI a)), (3, .int (nI b))] [.int (cmpI R2 W)]
          refine vx_topi (y := (-1)) hc ?_
          refine vx_if_lt (tgt := 234) IG dc_R_rest_107 (by decide) (fun _ => ?_) (fun c_ => absurd (by decide) c_)
          refine vx_iinc (q := 0) (v := nI i - 1) (lv' := [(4, .int (nI i - 1)), (0, .ref (q 0)), (1, .int (nI r)), (2, .int (nI a)), (3, .int (nI b))]) IG dc_R_rest_234 rfl (i32_dec _) (by decide) rfl ?_
          refine vx_goto (tgt := 17) IG dc_R_rest_237 (by decide) ?_
          rw [Nat.mod_eq_of_lt (show R2 < W by omega)] at hmod
          exact ih _ _ f2 g2 (by omega) q1 q2 (hmod ▸ Hr2) rfl rfl
        | succ m ihm =>
          intro R2 k n f2 g2 hm q1 q2 Hr2 hmod hlt hk hn
          subst hk hn
          have Hb2 : rv f2 g2 b W := by
            refine ⟨by rw [q2 b n2, hgb], hcb, fun k hk => ?_⟩
            rw [q1 _ (fun z => rt_ne n2 hb hr (show k < rcap b by omega) (show rt b + k - rt r < rcap r by omega) (by omega)), hfb k hk]
          refine vx_aload_n IG dc_R_rest_101 rfl 1 rfl ?_
          refine vx_iload_n IG dc_R_rest_102 rfl 2 rfl ?_
          refine vx_iload_n IG dc_R_rest_103 rfl 4 rfl ?_
          refine vx_callV (As := [.int (nI r), .int (nI b)]) (st := []) IG lw_good (cR_compareRows LR ht2 ht3 Hr2 Hb2 hr hb) (ro_M LR) rfl wC_R_compareRows wL_R_54 wI_R_compareRows wS_R_compareRows wX_R 2 (by decide +kernel) rfl ⟨Nat.le_of_ble_eq_true rfl, Nat.le_of_ble_eq_true rfl⟩ ⟨(by dsimp only [rm_]; omega), (by dsimp only [rm_]; omega)⟩ rfl (Nat.le_of_ble_eq_true rfl) dc_R_rest_104 (fun v h k_ n_ hq => ?_)
          obtain ⟨rfl, rfl, rfl, rfl⟩ := hq
          show vx_V _ _ _ _ _ _ _ _ _ 107 [(4, .int (nI i)), (0, .ref (q 0)), (1, .int (nI r)), (2, .int (nI a)), (3, .int (nI b))] [.int (cmpI R2 W)]
          by_cases z : R2 < W
          · have hc : cmpI R2 W = -1 := if_pos z
            refine vx_topi (y := (-1)) hc ?_
            refine vx_if_lt (tgt := 234) IG dc_R_rest_107 (by decide) (fun _ => ?_) (fun c_ => absurd (by decide) c_)
            refine vx_iinc (q := 0) (v := nI i - 1) (lv' := [(4, .int (nI i - 1)), (0, .ref (q 0)), (1, .int (nI r)), (2, .int (nI a)), (3, .int (nI b))]) IG dc_R_rest_234 rfl (i32_dec _) (by decide) rfl ?_
            refine vx_goto (tgt := 17) IG dc_R_rest_237 (by decide) ?_
            rw [Nat.mod_eq_of_lt z] at hmod
            exact ih _ _ f2 g2 (by omega) q1 q2 (hmod ▸ Hr2) rfl rfl
          · refine vx_if_lt (tgt := 234) IG dc_R_rest_107 (by decide) (fun c_ => absurd c_ (fun c => absurd ((cmpI_ge _ _).mpr (show W ≤ R2 by omega)) (Int32.not_le.mpr c))) (fun _ => ?_)
            obtain ⟨t, et⟩ : ∃ t, nd 65536 W = t + 1 := ⟨nd 65536 W - 1, by omega⟩
            refine vx_aload_n IG dc_R_rest_110 rfl 1 rfl ?_
            refine vx_get IG (ro_M LR) rfl 1 (by decide) inR wF_R_14 rfl rfl dc_R_rest_111 ?_
            refine vx_iload_n IG dc_R_rest_114 rfl 4 rfl ?_
            refine rr_nld IG LR ht3 hb (x := nI (nd 65536 W)) Hb2.1 dc_R_rest_115 ?_
            refine vx_iconst (v := 1) IG dc_R_rest_116 (by decide) ?_
            refine vx_isub IG dc_R_rest_117 ?_
            refine vx_topi (y := nI t) (by rw [et]; exact nI_pred t) ?_
            refine vx_istore (lv' := [(5, .int (nI t)), (4, .int (nI i)), (0, .ref (q 0)), (1, .int (nI r)), (2, .int (nI a)), (3, .int (nI b))]) IG dc_R_rest_118 (by decide) rfl ?_
            refine vx_aload_n IG dc_R_rest_120 rfl 2 rfl ?_
            refine vx_iload_n IG dc_R_rest_121 rfl 3 rfl ?_
            refine vx_iload IG dc_R_rest_122 0 rfl ?_
            refine vx_iconst (v := 1) IG dc_R_rest_124 (by decide) ?_
            refine vx_iadd IG dc_R_rest_125 ?_
            refine vx_topi (y := nI (t + 1)) (nI_add _ _) ?_
            have g1' := Hr2.1
            have g2' := Hr2.2.1
            have g3' := Hr2.2.2
            have k1 := Hb2.1
            have k2 := Hb2.2.1
            have k3 := Hb2.2.2
            have d1 := dg_lt b16 R2 (t + 1)
            have d0 := dg_lt b16 R2 t
            have dm := dg_lt b16 R2 (t - 1)
            have w0 := dg_lt b16 W t
            have wm := dg_lt b16 W (t - 1)
            -- behind the multiple
            have fin : ∀ (tt hh by_ k n : Nat), 0 < tt → tt < 2 ^ 40 → tt * W ≤ R2 → k = 0 → n = 0 → vx_V D vcl A H0 12 G (rH cI cZ q h0 f2 g2 s) k n 221 [(8, .long (lN by_)), (6, .long (lN hh)), (5, .int (nI t)), (4, .int (nI i)), (0, .ref (q 0)), (1, .int (nI r)), (2, .int (nI a)), (3, .int (nI b))] [.long (lN tt)] := by
              intro tt hh by_ k n h1 h2 h3 hk hn
              subst hk hn
              refine vx_lstore (lv' := [(10, .long (lN tt)), (8, .long (lN by_)), (6, .long (lN hh)), (5, .int (nI t)), (4, .int (nI i)), (0, .ref (q 0)), (1, .int (nI r)), (2, .int (nI a)), (3, .int (nI b))]) IG dc_R_rest_221 (by decide) rfl ?_
              refine vx_aload_n IG dc_R_rest_223 rfl 5 rfl ?_
              refine vx_iload_n IG dc_R_rest_224 rfl 6 rfl ?_
              refine vx_iload_n IG dc_R_rest_225 rfl 8 rfl ?_
              refine vx_lload IG dc_R_rest_226 0 rfl ?_
              refine vx_callV (As := [.int (nI r), .int (nI b), .long (lN tt)]) (st := []) IG lw_good (cR_takeTimes LR ht2 ht3 Hr2 Hb2 hr hb h2 h3) (ro_M LR) rfl wC_R_takeTimes wL_R_61 wI_R_takeTimes wS_R_takeTimes wX_R 3 (by decide +kernel) rfl ⟨Nat.le_of_ble_eq_true rfl, Nat.le_of_ble_eq_true rfl⟩ ⟨(by dsimp only [rm_]; omega), (by dsimp only [rm_]; omega)⟩ rfl (Nat.le_of_ble_eq_true rfl) dc_R_rest_228 (fun v h k_ n_ hq => ?_)
              obtain ⟨rfl, rfl, rfl, f3, g3, rfl, S3⟩ := hq
              show vx_V _ _ _ _ _ _ _ _ _ 231 [(10, .long (lN tt)), (8, .long (lN by_)), (6, .long (lN hh)), (5, .int (nI t)), (4, .int (nI i)), (0, .ref (q 0)), (1, .int (nI r)), (2, .int (nI a)), (3, .int (nI b))] []
              refine vx_goto (tgt := 101) IG dc_R_rest_231 (by decide) ?_
              refine vx_same (lv' := [(4, .int (nI i)), (0, .ref (q 0)), (1, .int (nI r)), (2, .int (nI a)), (3, .int (nI b))]) IG [4, 5, 6, 7, 8] rfl ?_
              have hp : W ≤ tt * W := Nat.le_mul_of_pos_left _ h1
              refine ihm (R2 - tt * W) _ _ f3 g3 (by omega) (fun x hx => (S3.1 x hx).trans (q1 x hx)) (fun x hx => ?_) S3.2.2 (by rw [tk_mod h3, hmod]) (by omega) rfl rfl
              rw [S3.2.1, ← q2 x hx]
              exact if_neg hx
            -- behind both words
            have big : ∀ (hh by_ k n : Nat), 0 < by_ → hh < 2 ^ 48 → 65536 < by_ → by_ < 2 ^ 40 → hh / by_ * W ≤ R2 → k = 0 → n = 0 → vx_V D vcl A H0 12 G (rH cI cZ q h0 f2 g2 s) k n 200 [(6, .long (lN hh)), (5, .int (nI t)), (4, .int (nI i)), (0, .ref (q 0)), (1, .int (nI r)), (2, .int (nI a)), (3, .int (nI b))] [.long (lN by_)] := by
              intro hh by_ k n hb0 hh1 hb1 hb2 hle hk hn
              subst hk hn
              have hne : ¬ lN by_ = 0 := fun c => by have := ln_eq (b := 0) (by omega) (by decide) c; omega
              have hdv : lN hh / lN by_ = lN (hh / by_) := pk_lDiv (by omega) hb0 (by omega)
              have hq2 : hh / by_ < 2 ^ 40 := by
                rw [Nat.div_lt_iff_lt_mul hb0]
                omega
              refine vx_lstore (lv' := [(8, .long (lN by_)), (6, .long (lN hh)), (5, .int (nI t)), (4, .int (nI i)), (0, .ref (q 0)), (1, .int (nI r)), (2, .int (nI a)), (3, .int (nI b))]) IG dc_R_rest_200 (by decide) rfl ?_
              refine vx_lload IG dc_R_rest_202 1 rfl ?_
              refine vx_lload IG dc_R_rest_204 0 rfl ?_
              refine vx_ldiv IG dc_R_rest_206 hne ?_
              refine vx_topl (y := lN (hh / by_)) hdv ?_
              refine vx_lconst (v := 1) IG dc_R_rest_207 (by decide) ?_
              refine vx_lcmp IG dc_R_rest_208 ?_
              by_cases y : hh / by_ < 1
              · refine vx_if_ge (tgt := 216) IG dc_R_rest_209 (by decide) (fun c_ => absurd c_ (fun c => absurd ((pk_lLT (b := 1) (by omega) (by decide)).mpr y) (Int64.not_lt.mpr ((lg_cmp_ge _ _).mp c)))) (fun _ => ?_)
                refine vx_lconst (v := 1) IG dc_R_rest_212 (by decide) ?_
                refine vx_goto (tgt := 221) IG dc_R_rest_213 (by decide) ?_
                exact fin 1 hh by_ _ _ (by decide) (by decide) (by omega) rfl rfl
              · refine vx_if_ge (tgt := 216) IG dc_R_rest_209 (by decide) (fun _ => ?_) (fun c_ => absurd ((lg_cmp_ge _ _).mpr ((pk_lLE (a := 1) (by decide) (by omega)).mpr (by omega))) c_)
                refine vx_lload IG dc_R_rest_216 1 rfl ?_
                refine vx_lload IG dc_R_rest_218 0 rfl ?_
                refine vx_ldiv IG dc_R_rest_220 hne ?_
                refine vx_topl (y := lN (hh / by_)) hdv ?_
                exact fin (hh / by_) hh by_ _ _ (by omega) hq2 hle rfl rfl
            have hR3 : R2 < 65536 ^ (t + 1) * 65536 := by rw [← bp_succ, show t + 1 + 1 = nd 65536 W + 1 by omega]; exact hlt
            have hW3 : W < 65536 ^ t * 65536 := by rw [← bp_succ, ← et]; exact hWlt
            have ed1 : dg 65536 R2 (t + 1) = R2 / 65536 ^ (t + 1) := by
              unfold dg
              rw [Nat.mod_eq_of_lt (by rw [Nat.div_lt_iff_lt_mul (bp_pos b16 _), Nat.mul_comm]; exact hR3)]
            have ew0 : dg 65536 W t = W / 65536 ^ t := by
              unfold dg
              rw [Nat.mod_eq_of_lt (by rw [Nat.div_lt_iff_lt_mul (bp_pos b16 _), Nat.mul_comm]; exact hW3)]
            have ew1 : 0 < dg 65536 W t := by
              rw [ew0]
              refine Nat.div_pos ?_ (bp_pos b16 t)
              exact (nd_lt b16).mp (by omega)
            refine vx_callV (As := [.int (nI r), .int (nI (t + 1))]) (st := []) IG lw_good (cR_digit LR ht2 ht3 (N := R2) hr (k := t + 1) (by omega) g1' g2' (g3' _)) (ro_M LR) rfl wC_R_digit wL_R_32 wI_R_digit wS_R_digit wX_R 2 (by decide +kernel) rfl ⟨Nat.le_of_ble_eq_true rfl, Nat.le_of_ble_eq_true rfl⟩ ⟨(by dsimp only [rm_]; omega), (by dsimp only [rm_]; omega)⟩ rfl (Nat.le_of_ble_eq_true rfl) dc_R_rest_126 (fun v h k_ n_ hq => ?_)
            obtain ⟨rfl, rfl, rfl, rfl⟩ := hq
            show vx_V _ _ _ _ _ _ _ _ _ 129 [(5, .int (nI t)), (4, .int (nI i)), (0, .ref (q 0)), (1, .int (nI r)), (2, .int (nI a)), (3, .int (nI b))] [.int (nI (dg 65536 R2 (t + 1)))]
            refine vx_i2l (v := lN (dg 65536 R2 (t + 1))) IG dc_R_rest_129 (nI_l (by omega)) ?_
            refine vx_bipush (v := 32) IG dc_R_rest_130 (by decide) ?_
            refine vx_lshl (v := lN (dg 65536 R2 (t + 1) * 4294967296)) IG dc_R_rest_132 (sl_32 d1) ?_
            refine vx_aload_n IG dc_R_rest_133 rfl 2 rfl ?_
            refine vx_iload_n IG dc_R_rest_134 rfl 3 rfl ?_
            refine vx_iload IG dc_R_rest_135 0 rfl ?_
            refine vx_callV (As := [.int (nI r), .int (nI t)]) (st := [.long (lN (dg 65536 R2 (t + 1) * 4294967296))]) IG lw_good (cR_digit LR ht2 ht3 (N := R2) hr (k := t) (by omega) g1' g2' (g3' _)) (ro_M LR) rfl wC_R_digit wL_R_32 wI_R_digit wS_R_digit wX_R 2 (by decide +kernel) rfl ⟨Nat.le_of_ble_eq_true rfl, Nat.le_of_ble_eq_true rfl⟩ ⟨(by dsimp only [rm_]; omega), (by dsimp only [rm_]; omega)⟩ rfl (Nat.le_of_ble_eq_true rfl) dc_R_rest_137 (fun v h k_ n_ hq => ?_)
            obtain ⟨rfl, rfl, rfl, rfl⟩ := hq
            show vx_V _ _ _ _ _ _ _ _ _ 140 [(5, .int (nI t)), (4, .int (nI i)), (0, .ref (q 0)), (1, .int (nI r)), (2, .int (nI a)), (3, .int (nI b))] [.int (nI (dg 65536 R2 t)), .long (lN (dg 65536 R2 (t + 1) * 4294967296))]
            refine vx_i2l (v := lN (dg 65536 R2 t)) IG dc_R_rest_140 (nI_l (by omega)) ?_
            refine vx_bipush (v := 16) IG dc_R_rest_141 (by decide) ?_
            refine vx_lshl (v := lN (dg 65536 R2 t * 65536)) IG dc_R_rest_143 (sl_16 d0) ?_
            refine vx_lor IG dc_R_rest_144 ?_
            refine vx_topl (y := lN ((dg 65536 R2 (t + 1) * 65536 + dg 65536 R2 t) * 65536)) (or_hi d1 d0) ?_
            refine vx_iload IG dc_R_rest_145 0 rfl ?_
            have q1' := bz2 d1 d0
            by_cases y : t = 0
            · refine vx_if_le (tgt := 162) IG dc_R_rest_147 (by decide) (fun _ => ?_) (fun c_ => absurd (by rw [y]; decide) c_)
              refine vx_iconst (v := 0) IG dc_R_rest_162 (by decide) ?_
              refine vx_i2l (v := lN 0) IG dc_R_rest_163 rfl ?_
              refine vx_lor IG dc_R_rest_164 ?_
              refine vx_topl (y := lN ((dg 65536 R2 (t + 1) * 65536 + dg 65536 R2 t) * 65536 + 0)) (or_lo q1' (by decide)) ?_
              refine vx_lstore (lv' := [(6, .long (lN ((dg 65536 R2 (t + 1) * 65536 + dg 65536 R2 t) * 65536 + 0))), (5, .int (nI t)), (4, .int (nI i)), (0, .ref (q 0)), (1, .int (nI r)), (2, .int (nI a)), (3, .int (nI b))]) IG dc_R_rest_165 (by decide) rfl ?_
              refine vx_aload_n IG dc_R_rest_167 rfl 3 rfl ?_
              refine vx_iload_n IG dc_R_rest_168 rfl 6 rfl ?_
              refine vx_iload IG dc_R_rest_169 1 rfl ?_
              refine vx_callV (As := [.int (nI b), .int (nI t)]) (st := []) IG lw_good (cR_digit LR ht2 ht3 (N := W) hb (k := t) (by omega) k1 k2 (k3 _)) (ro_M LR) rfl wC_R_digit wL_R_32 wI_R_digit wS_R_digit wX_R 2 (by decide +kernel) rfl ⟨Nat.le_of_ble_eq_true rfl, Nat.le_of_ble_eq_true rfl⟩ ⟨(by dsimp only [rm_]; omega), (by dsimp only [rm_]; omega)⟩ rfl (Nat.le_of_ble_eq_true rfl) dc_R_rest_171 (fun v h k_ n_ hq => ?_)
              obtain ⟨rfl, rfl, rfl, rfl⟩ := hq
              show vx_V _ _ _ _ _ _ _ _ _ 174 [(6, .long (lN ((dg 65536 R2 (t + 1) * 65536 + dg 65536 R2 t) * 65536 + 0))), (5, .int (nI t)), (4, .int (nI i)), (0, .ref (q 0)), (1, .int (nI r)), (2, .int (nI a)), (3, .int (nI b))] [.int (nI (dg 65536 W t))]
              refine vx_i2l (v := lN (dg 65536 W t)) IG dc_R_rest_174 (nI_l (by omega)) ?_
              refine vx_bipush (v := 16) IG dc_R_rest_175 (by decide) ?_
              refine vx_lshl (v := lN (dg 65536 W t * 65536)) IG dc_R_rest_177 (sl_16 w0) ?_
              refine vx_iload IG dc_R_rest_178 1 rfl ?_
              refine vx_if_le (tgt := 195) IG dc_R_rest_180 (by decide) (fun _ => ?_) (fun c_ => absurd (by rw [y]; decide) c_)
              refine vx_iconst (v := 0) IG dc_R_rest_195 (by decide) ?_
              refine vx_i2l (v := lN 0) IG dc_R_rest_196 rfl ?_
              refine vx_lor IG dc_R_rest_197 ?_
              refine vx_topl (y := lN (dg 65536 W t * 65536 + 0)) (or_lo (by omega) (by decide)) ?_
              refine vx_lconst (v := 1) IG dc_R_rest_198 (by decide) ?_
              refine vx_ladd IG dc_R_rest_199 ?_
              refine vx_topl (y := lN (dg 65536 W t * 65536 + 0 + 1)) (lN_1 _) ?_
              refine big _ _ _ _ (Nat.lt_trans (by decide) (bz4 (y := 0) ew1)) (bz3 (y := 0) q1' (by decide)) (bz4 (y := 0) ew1) (bz5 (y := 0) w0 (by decide)) ?_ rfl rfl
              refine tt_le0 (R := R2) (B := W) ?_ ?_
              · rw [y] at hR3 ⊢
                exact low2 hR3
              · rw [ew0, y, Nat.pow_zero, Nat.div_one]
            · refine vx_if_le (tgt := 162) IG dc_R_rest_147 (by decide) (fun c_ => absurd c_ (fun c => absurd (nI_lt (a := 0) (b := t) (by omega) (by omega)) (Int32.not_lt.mpr c))) (fun _ => ?_)
              refine vx_aload_n IG dc_R_rest_150 rfl 2 rfl ?_
              refine vx_iload_n IG dc_R_rest_151 rfl 3 rfl ?_
              refine vx_iload IG dc_R_rest_152 0 rfl ?_
              refine vx_iconst (v := 1) IG dc_R_rest_154 (by decide) ?_
              refine vx_isub IG dc_R_rest_155 ?_
              refine vx_topi (y := nI (t - 1)) (nI_pred2 (by omega)) ?_
              refine vx_callV (As := [.int (nI r), .int (nI (t - 1))]) (st := [.long (lN ((dg 65536 R2 (t + 1) * 65536 + dg 65536 R2 t) * 65536))]) IG lw_good (cR_digit LR ht2 ht3 (N := R2) hr (k := t - 1) (by omega) g1' g2' (g3' _)) (ro_M LR) rfl wC_R_digit wL_R_32 wI_R_digit wS_R_digit wX_R 2 (by decide +kernel) rfl ⟨Nat.le_of_ble_eq_true rfl, Nat.le_of_ble_eq_true rfl⟩ ⟨(by dsimp only [rm_]; omega), (by dsimp only [rm_]; omega)⟩ rfl (Nat.le_of_ble_eq_true rfl) dc_R_rest_156 (fun v h k_ n_ hq => ?_)
              obtain ⟨rfl, rfl, rfl, rfl⟩ := hq
              show vx_V _ _ _ _ _ _ _ _ _ 159 [(5, .int (nI t)), (4, .int (nI i)), (0, .ref (q 0)), (1, .int (nI r)), (2, .int (nI a)), (3, .int (nI b))] [.int (nI (dg 65536 R2 (t - 1))), .long (lN ((dg 65536 R2 (t + 1) * 65536 + dg 65536 R2 t) * 65536))]
              refine vx_goto (tgt := 163) IG dc_R_rest_159 (by decide) ?_
              refine vx_i2l (v := lN (dg 65536 R2 (t - 1))) IG dc_R_rest_163 (nI_l (by omega)) ?_
              refine vx_lor IG dc_R_rest_164 ?_
              refine vx_topl (y := lN ((dg 65536 R2 (t + 1) * 65536 + dg 65536 R2 t) * 65536 + dg 65536 R2 (t - 1))) (or_lo q1' dm) ?_
              refine vx_lstore (lv' := [(6, .long (lN ((dg 65536 R2 (t + 1) * 65536 + dg 65536 R2 t) * 65536 + dg 65536 R2 (t - 1)))), (5, .int (nI t)), (4, .int (nI i)), (0, .ref (q 0)), (1, .int (nI r)), (2, .int (nI a)), (3, .int (nI b))]) IG dc_R_rest_165 (by decide) rfl ?_
              refine vx_aload_n IG dc_R_rest_167 rfl 3 rfl ?_
              refine vx_iload_n IG dc_R_rest_168 rfl 6 rfl ?_
              refine vx_iload IG dc_R_rest_169 1 rfl ?_
              refine vx_callV (As := [.int (nI b), .int (nI t)]) (st := []) IG lw_good (cR_digit LR ht2 ht3 (N := W) hb (k := t) (by omega) k1 k2 (k3 _)) (ro_M LR) rfl wC_R_digit wL_R_32 wI_R_digit wS_R_digit wX_R 2 (by decide +kernel) rfl ⟨Nat.le_of_ble_eq_true rfl, Nat.le_of_ble_eq_true rfl⟩ ⟨(by dsimp only [rm_]; omega), (by dsimp only [rm_]; omega)⟩ rfl (Nat.le_of_ble_eq_true rfl) dc_R_rest_171 (fun v h k_ n_ hq => ?_)
              obtain ⟨rfl, rfl, rfl, rfl⟩ := hq
              show vx_V _ _ _ _ _ _ _ _ _ 174 [(6, .long (lN ((dg 65536 R2 (t + 1) * 65536 + dg 65536 R2 t) * 65536 + dg 65536 R2 (t - 1)))), (5, .int (nI t)), (4, .int (nI i)), (0, .ref (q 0)), (1, .int (nI r)), (2, .int (nI a)), (3, .int (nI b))] [.int (nI (dg 65536 W t))]
              refine vx_i2l (v := lN (dg 65536 W t)) IG dc_R_rest_174 (nI_l (by omega)) ?_
              refine vx_bipush (v := 16) IG dc_R_rest_175 (by decide) ?_
              refine vx_lshl (v := lN (dg 65536 W t * 65536)) IG dc_R_rest_177 (sl_16 w0) ?_
              refine vx_iload IG dc_R_rest_178 1 rfl ?_
              refine vx_if_le (tgt := 195) IG dc_R_rest_180 (by decide) (fun c_ => absurd c_ (fun c => absurd (nI_lt (a := 0) (b := t) (by omega) (by omega)) (Int32.not_lt.mpr c))) (fun _ => ?_)
              refine vx_aload_n IG dc_R_rest_183 rfl 3 rfl ?_
              refine vx_iload_n IG dc_R_rest_184 rfl 6 rfl ?_
              refine vx_iload IG dc_R_rest_185 1 rfl ?_
              refine vx_iconst (v := 1) IG dc_R_rest_187 (by decide) ?_
              refine vx_isub IG dc_R_rest_188 ?_
              refine vx_topi (y := nI (t - 1)) (nI_pred2 (by omega)) ?_
              refine vx_callV (As := [.int (nI b), .int (nI (t - 1))]) (st := [.long (lN (dg 65536 W t * 65536))]) IG lw_good (cR_digit LR ht2 ht3 (N := W) hb (k := t - 1) (by omega) k1 k2 (k3 _)) (ro_M LR) rfl wC_R_digit wL_R_32 wI_R_digit wS_R_digit wX_R 2 (by decide +kernel) rfl ⟨Nat.le_of_ble_eq_true rfl, Nat.le_of_ble_eq_true rfl⟩ ⟨(by dsimp only [rm_]; omega), (by dsimp only [rm_]; omega)⟩ rfl (Nat.le_of_ble_eq_true rfl) dc_R_rest_189 (fun v h k_ n_ hq => ?_)
              obtain ⟨rfl, rfl, rfl, rfl⟩ := hq
              show vx_V _ _ _ _ _ _ _ _ _ 192 [(6, .long (lN ((dg 65536 R2 (t + 1) * 65536 + dg 65536 R2 t) * 65536 + dg 65536 R2 (t - 1)))), (5, .int (nI t)), (4, .int (nI i)), (0, .ref (q 0)), (1, .int (nI r)), (2, .int (nI a)), (3, .int (nI b))] [.int (nI (dg 65536 W (t - 1))), .long (lN (dg 65536 W t * 65536))]
              refine vx_goto (tgt := 196) IG dc_R_rest_192 (by decide) ?_
              refine vx_i2l (v := lN (dg 65536 W (t - 1))) IG dc_R_rest_196 (nI_l (by omega)) ?_
              refine vx_lor IG dc_R_rest_197 ?_
              refine vx_topl (y := lN (dg 65536 W t * 65536 + dg 65536 W (t - 1))) (or_lo (by omega) wm) ?_
              refine vx_lconst (v := 1) IG dc_R_rest_198 (by decide) ?_
              refine vx_ladd IG dc_R_rest_199 ?_
              refine vx_topl (y := lN (dg 65536 W t * 65536 + dg 65536 W (t - 1) + 1)) (lN_1 _) ?_
              refine big _ _ _ _ (Nat.lt_trans (by decide) (bz4 ew1)) (bz3 q1' dm) (bz4 ew1) (bz5 w0 wm) ?_ rfl rfl
              obtain ⟨v, rfl⟩ : ∃ v, t = v + 1 := ⟨t - 1, by omega⟩
              rw [Nat.add_sub_cancel]
              refine tt_le (R := R2) (B := W) (P := 65536 ^ v) (hi_3 ?_ ?_ rfl) ?_ (bp_pos b16 v)
              · rw [ed1, bp_succ, bp_succ]
              · unfold dg
                rw [bp_succ]
              · congr 1
                rw [ew0, bp_succ, ← Nat.div_div_eq_div_mul]
                unfold dg
                omega
      refine vx_iload IG dc_R_rest_17 0 rfl ?_
      refine vx_if_lt (tgt := 240) IG dc_R_rest_19 (by decide) (fun c_ => absurd c_ (nI_pos (by omega))) (fun _ => ?_)
      refine vx_aload_n IG dc_R_rest_22 rfl 1 rfl ?_
      refine vx_get IG (ro_M LR) rfl 1 (by decide) inR wF_R_14 rfl rfl dc_R_rest_23 ?_
      refine vx_iload_n IG dc_R_rest_26 rfl 2 rfl ?_
      refine rr_nld IG LR ht3 hr (x := nI (nd 65536 R)) hgr dc_R_rest_27 ?_
      refine vx_istore (lv' := [(5, .int (nI (nd 65536 R))), (4, .int (nI i)), (0, .ref (q 0)), (1, .int (nI r)), (2, .int (nI a)), (3, .int (nI b))]) IG dc_R_rest_28 (by decide) rfl ?_
      have shift : ∀ (c k n : Nat), c ≤ nd 65536 R → k = 0 → n = 0 → vx_V D vcl A H0 12 G (rH cI cZ q h0 (pz f1 (rt r) (dg 65536 (R * 65536 + x)) (c + 1) (nd 65536 R + 1)) g1 s) k n 30 [(5, .int (nI c)), (4, .int (nI i)), (0, .ref (q 0)), (1, .int (nI r)), (2, .int (nI a)), (3, .int (nI b))] [] := by
        intro c
        induction c with
        | zero =>
          intro k n hc hk hn
          subst hk hn
          refine vx_iload IG dc_R_rest_30 0 rfl ?_
          refine vx_if_le (tgt := 67) IG dc_R_rest_32 (by decide) (fun _ => ?_) (fun c_ => absurd (by decide) c_)
          refine vx_aload_n IG dc_R_rest_67 rfl 2 rfl ?_
          refine vx_get IG (ro_M LR) rfl 0 (by decide) inR wF_R_8 rfl rfl dc_R_rest_68 ?_
          refine vx_iload_n IG dc_R_rest_71 rfl 3 rfl ?_
          refine vx_callS (As := [.int (nI r)]) (st := [.ref (q 1)]) IG lw_good (cR_at _ r hr) wC_R_at wL_R_22 wT_R_at wX_R 1 (by decide +kernel) rfl ⟨Nat.le_of_ble_eq_true rfl, Nat.le_of_ble_eq_true rfl⟩ ⟨(by dsimp only [rm_]; omega), (by dsimp only [rm_]; omega)⟩ rfl (Nat.le_of_ble_eq_true rfl) dc_R_rest_72 (fun v h k_ n_ hq => ?_)
          obtain ⟨rfl, rfl, rfl, rfl⟩ := hq
          show vx_V _ _ _ _ _ _ _ _ _ 75 [(5, .int (nI 0)), (4, .int (nI i)), (0, .ref (q 0)), (1, .int (nI r)), (2, .int (nI a)), (3, .int (nI b))] [.int (nI (rt r)), .ref (q 1)]
          refine vx_aload_n IG dc_R_rest_75 rfl 2 rfl ?_
          refine vx_get IG (ro_M LR) rfl 0 (by decide) inR wF_R_8 rfl rfl dc_R_rest_76 ?_
          refine vx_iload_n IG dc_R_rest_79 rfl 4 rfl ?_
          refine vx_callS (As := [.int (nI a)]) (st := [.ref (q 1), .int (nI (rt r)), .ref (q 1)]) IG lw_good (cR_at _ a ha) wC_R_at wL_R_22 wT_R_at wX_R 1 (by decide +kernel) rfl ⟨Nat.le_of_ble_eq_true rfl, Nat.le_of_ble_eq_true rfl⟩ ⟨(by dsimp only [rm_]; omega), (by dsimp only [rm_]; omega)⟩ rfl (Nat.le_of_ble_eq_true rfl) dc_R_rest_80 (fun v h k_ n_ hq => ?_)
          obtain ⟨rfl, rfl, rfl, rfl⟩ := hq
          show vx_V _ _ _ _ _ _ _ _ _ 83 [(5, .int (nI 0)), (4, .int (nI i)), (0, .ref (q 0)), (1, .int (nI r)), (2, .int (nI a)), (3, .int (nI b))] [.int (nI (rt a)), .ref (q 1), .int (nI (rt r)), .ref (q 1)]
          refine vx_iload IG dc_R_rest_83 1 rfl ?_
          refine vx_iadd IG dc_R_rest_85 ?_
          refine vx_topi (y := nI ((rt a) + i)) (nI_add _ _) ?_
          refine rr_mld IG LR ht3 (rt_in ha (by omega)) (x := nI x) (by rw [pz_row n1 ha hr (by omega) (by omega)]; exact hfa1) dc_R_rest_86 ?_
          refine rr_mst IG LR ht3 (rt_lt hr) (f' := pf f1 (rt r) (dg 65536 (R * 65536 + x)) (nd 65536 R + 1)) (by rw [← pz_0, ← pz_s _ _ _ (show 0 < nd 65536 R + 1 by omega), sh_dg0 hxl]; rfl) dc_R_rest_87 ?_
          refine vx_aload_n IG dc_R_rest_88 rfl 2 rfl ?_
          refine vx_iload_n IG dc_R_rest_89 rfl 3 rfl ?_
          refine vx_aload_n IG dc_R_rest_90 rfl 2 rfl ?_
          refine vx_get IG (ro_M LR) rfl 1 (by decide) inR wF_R_14 rfl rfl dc_R_rest_91 ?_
          refine vx_iload_n IG dc_R_rest_94 rfl 3 rfl ?_
          refine rr_nld IG LR ht3 hr (x := nI (nd 65536 R)) hgr dc_R_rest_95 ?_
          refine vx_iconst (v := 1) IG dc_R_rest_96 (by decide) ?_
          refine vx_iadd IG dc_R_rest_97 ?_
          refine vx_topi (y := nI ((nd 65536 R) + 1)) (nI_add _ _) ?_
          refine vx_callV (As := [.int (nI r), .int (nI ((nd 65536 R) + 1))]) (st := []) IG lw_good (cR_trim LR ht2 ht3 (N := R * 65536 + x) (sz := nd 65536 R + 1) hr (by omega) (fun k hk => pf_in hk) hN) (ro_M LR) rfl wC_R_trim wL_R_28 wI_R_trim wS_R_trim wX_R 2 (by decide +kernel) rfl ⟨Nat.le_of_ble_eq_true rfl, Nat.le_of_ble_eq_true rfl⟩ ⟨(by dsimp only [rm_]; omega), (by dsimp only [rm_]; omega)⟩ rfl (Nat.le_of_ble_eq_true rfl) dc_R_rest_98 (fun v h k_ n_ hq => ?_)
          obtain ⟨rfl, rfl, rfl, rfl⟩ := hq
          show vx_V _ _ _ _ _ _ _ _ _ 101 [(5, .int (nI 0)), (4, .int (nI i)), (0, .ref (q 0)), (1, .int (nI r)), (2, .int (nI a)), (3, .int (nI b))] []
          have S1 := rs_pw (f := f1) (g := g1) (d := r) (show nd 65536 R + 1 ≤ rcap r by omega) hN
          refine vx_same (lv' := [(4, .int (nI i)), (0, .ref (q 0)), (1, .int (nI r)), (2, .int (nI a)), (3, .int (nI b))]) IG [1, 2, 3, 4, 5] rfl ?_
          refine while_ _ _ _ _ _ _ (Nat.le_refl _) (fun x hx => (S1.1 x hx).trans (e1 x hx)) (fun x hx => ?_) S1.2.2 hst ?_ rfl rfl
          · rw [← e2 x hx]
            exact if_neg hx
          · exact Nat.lt_of_lt_of_le hN (Nat.pow_le_pow_right (by decide) (by omega))
        | succ c ihc =>
          intro k n hc hk hn
          subst hk hn
          refine vx_iload IG dc_R_rest_30 0 rfl ?_
          refine vx_if_le (tgt := 67) IG dc_R_rest_32 (by decide) (fun c_ => absurd c_ (fun y => absurd (nI_lt (a := 0) (b := c + 1) (by omega) (by omega)) (Int32.not_lt.mpr y))) (fun _ => ?_)
          refine vx_aload_n IG dc_R_rest_35 rfl 2 rfl ?_
          refine vx_get IG (ro_M LR) rfl 0 (by decide) inR wF_R_8 rfl rfl dc_R_rest_36 ?_
          refine vx_iload_n IG dc_R_rest_39 rfl 3 rfl ?_
          refine vx_callS (As := [.int (nI r)]) (st := [.ref (q 1)]) IG lw_good (cR_at _ r hr) wC_R_at wL_R_22 wT_R_at wX_R 1 (by decide +kernel) rfl ⟨Nat.le_of_ble_eq_true rfl, Nat.le_of_ble_eq_true rfl⟩ ⟨(by dsimp only [rm_]; omega), (by dsimp only [rm_]; omega)⟩ rfl (Nat.le_of_ble_eq_true rfl) dc_R_rest_40 (fun v h k_ n_ hq => ?_)
          obtain ⟨rfl, rfl, rfl, rfl⟩ := hq
          show vx_V _ _ _ _ _ _ _ _ _ 43 [(5, .int (nI (c + 1))), (4, .int (nI i)), (0, .ref (q 0)), (1, .int (nI r)), (2, .int (nI a)), (3, .int (nI b))] [.int (nI (rt r)), .ref (q 1)]
          refine vx_iload IG dc_R_rest_43 0 rfl ?_
          refine vx_iadd IG dc_R_rest_45 ?_
          refine vx_topi (y := nI ((rt r) + (c + 1))) (nI_add _ _) ?_
          refine vx_aload_n IG dc_R_rest_46 rfl 2 rfl ?_
          refine vx_get IG (ro_M LR) rfl 0 (by decide) inR wF_R_8 rfl rfl dc_R_rest_47 ?_
          refine vx_iload_n IG dc_R_rest_50 rfl 3 rfl ?_
          refine vx_callS (As := [.int (nI r)]) (st := [.ref (q 1), .int (nI ((rt r) + (c + 1))), .ref (q 1)]) IG lw_good (cR_at _ r hr) wC_R_at wL_R_22 wT_R_at wX_R 1 (by decide +kernel) rfl ⟨Nat.le_of_ble_eq_true rfl, Nat.le_of_ble_eq_true rfl⟩ ⟨(by dsimp only [rm_]; omega), (by dsimp only [rm_]; omega)⟩ rfl (Nat.le_of_ble_eq_true rfl) dc_R_rest_51 (fun v h k_ n_ hq => ?_)
          obtain ⟨rfl, rfl, rfl, rfl⟩ := hq
          show vx_V _ _ _ _ _ _ _ _ _ 54 [(5, .int (nI (c + 1))), (4, .int (nI i)), (0, .ref (q 0)), (1, .int (nI r)), (2, .int (nI a)), (3, .int (nI b))] [.int (nI (rt r)), .ref (q 1), .int (nI ((rt r) + (c + 1))), .ref (q 1)]
          refine vx_iload IG dc_R_rest_54 0 rfl ?_
          refine vx_iadd IG dc_R_rest_56 ?_
          refine vx_topi (y := nI ((rt r) + (c + 1))) (nI_add _ _) ?_
          refine vx_iconst (v := 1) IG dc_R_rest_57 (by decide) ?_
          refine vx_isub IG dc_R_rest_58 ?_
          refine vx_topi (y := nI (rt r + c)) (by rw [show rt r + (c + 1) = rt r + c + 1 from rfl]; exact nI_pred _) ?_
          refine rr_mld IG LR ht3 (rt_in hr (by omega)) (x := nI (dg 65536 (R * 65536 + x) (c + 1))) (by rw [pz_lo (by omega), sh_dg, Nat.div_eq_of_lt hxl, Nat.add_zero]; exact hfr c (by omega)) dc_R_rest_59 ?_
          refine rr_mst IG LR ht3 (rt_in hr (by omega)) (f' := pz f1 (rt r) (dg 65536 (R * 65536 + x)) (c + 1) (nd 65536 R + 1)) (pz_s _ _ _ (by omega)) dc_R_rest_60 ?_
          refine vx_iinc (q := 0) (v := nI c) (lv' := [(5, .int (nI c)), (4, .int (nI i)), (0, .ref (q 0)), (1, .int (nI r)), (2, .int (nI a)), (3, .int (nI b))]) IG dc_R_rest_61 rfl (pk_m1 c) (by decide) rfl ?_
          refine vx_goto (tgt := 30) IG dc_R_rest_64 (by decide) ?_
          exact ihc _ _ (by omega) rfl rfl
      have hl := shift (nd 65536 R) 0 0 (Nat.le_refl _) rfl rfl
      rw [pz_top] at hl
      exact hl
  refine vx_iload_n IG dc_R_rest_11 rfl 2 rfl ?_
  refine rr_nld IG LR ht3 ha (x := nI (nd 65536 U)) (show upd g r (nI 0) a = _ from (if_neg n1).trans hga) dc_R_rest_12 ?_
  refine vx_iconst (v := 1) IG dc_R_rest_13 (by decide) ?_
  refine vx_isub IG dc_R_rest_14 ?_
  refine vx_istore (lv' := [(4, .int ((nI (nd 65536 U)) - 1)), (0, .ref (q 0)), (1, .int (nI r)), (2, .int (nI a)), (3, .int (nI b))]) IG dc_R_rest_15 (by decide) rfl ?_
  refine outer _ _ _ _ _ (Nat.le_refl _) (fun _ _ => rfl) (fun x hx => if_neg hx) ?_ rfl rfl
  rw [Nat.div_eq_of_lt (lt_nd b16 U), Nat.zero_mod]
  exact ⟨if_pos rfl, Nat.zero_le _, fun k hk => absurd hk (Nat.not_lt_zero k)⟩
end
