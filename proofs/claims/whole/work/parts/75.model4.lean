/-! the reference: quotient -/
/-- rows u and r are set -/
def rdone2 (cI cZ : ClassId) (q : Nat → Nat) (h0 : vx_h) (f g s : Nat → Int32) (u N r M : Nat) : Option Value → vx_h → Nat → Nat → Prop := fun v h' k n => v = none ∧ k = 0 ∧ n = 0 ∧ ∃ f' g', h' = rH cI cZ q h0 f' g' s ∧ rkeep (fun x => x = u ∨ x = r) f g f' g' ∧ rv f' g' u N ∧ rv f' g' r M
theorem rp_2 {f g f' g' : Nat → Int32} {V : Nat → Nat} {u N r M : Nat} (HP : rpic f g V) (hK : rkeep (fun x => x = u ∨ x = r) f g f' g') (h1 : rv f' g' u N) (h2 : rv f' g' r M) (hne : u ≠ r) : rpic f' g' (va_up (va_up V u N) r M) := by
  intro x hx
  by_cases z : x = r
  · rw [z, va_up_self]
    exact h2
  · rw [va_up_ne _ _ z]
    by_cases y : x = u
    · rw [y, va_up_self]
      exact h1
    · rw [va_up_ne _ _ y]
      exact rk_rv hK hx (fun e => e.elim y z) (HP x hx)
theorem i_or2 {x y : Nat} (hx : x < 65536) (hy : y < 65536) : nI x ||| nI y = nI (x ||| y) := by
  apply Int32.toBitVec_inj.mp
  apply BitVec.eq_of_toNat_eq
  have h : x ||| y < 2 ^ 16 := Nat.or_lt_two_pow hx hy
  rw [Int32.toBitVec_or, BitVec.toNat_or, pk_tn (by omega), pk_tn (by omega), pk_tn (by omega)]
theorem i_1shl {s : Nat} (hs : s < 16) : (1 : Int32) <<< (nI s &&& 31) = nI (2 ^ s) := by
  have e : ∀ s, s < 16 → (1 : Int32) <<< (nI s &&& 31) = nI (2 ^ s) := by decide +kernel
  exact e s hs
theorem q_al (a b : Int32) : a - b + 1 = a + 1 - b := by rw [Int32.sub_eq_add_neg, Int32.add_assoc, Int32.add_comm (-b) 1, ← Int32.add_assoc, ← Int32.sub_eq_add_neg]
theorem q_dbl (c j : Nat) : c * 2 ^ (j + 1) = 2 * c * 2 ^ j := by rw [Nat.pow_succ, Nat.mul_comm (2 ^ j) 2, ← Nat.mul_assoc, Nat.mul_comm c 2]
theorem q_first {A B : Nat} (hA : A < 2 ^ 30) (hB : B < 2 ^ 30) : (B ≤ A → nI A - nI B + 1 = nI (A + 1 - B)) ∧ (¬ B ≤ A → nI A - nI B + 1 ≤ 0) := by
  constructor
  · intro h
    rw [pk_sub h, nI_1]
    congr 1
    omega
  · intro h
    have e : nI A - nI B + 1 = nI (A + 1) - nI B := by
      rw [q_al, nI_1]
    rw [e, Int32.le_iff_toInt_le, pk_sub_toInt (by omega) (by omega)]
    have : (0 : Int32).toInt = 0 := rfl
    omega
theorem q_le0 {x : Int32} (h : x ≤ 0) (h2 : -2147483648 < x.toInt) : x - 1 < 0 := by
  rw [Int32.lt_iff_toInt_lt, Int32.toInt_sub]
  rw [Int32.le_iff_toInt_le] at h
  have e0 : (0 : Int32).toInt = 0 := rfl
  have e1 : (1 : Int32).toInt = 1 := rfl
  rw [e0] at h
  rw [e0, e1]
  have := Int.bmod_eq_of_le (n := x.toInt - 1) (m := 2 ^ 32) (by omega) (by omega)
  rw [this]
  omega
theorem q_low {A B : Nat} (hB : 0 < B) : A / 2 ^ (bl A + 1 - bl B) < B := by
  have h1 := bl_pos hB
  have h2 : 2 ^ (bl B - 1) ≤ B := bl_lt.mp (by omega)
  have h3 := lt_bl A
  refine Nat.lt_of_lt_of_le ?_ h2
  rw [Nat.div_lt_iff_lt_mul (Nat.pow_pos (by decide)), ← Nat.pow_add]
  exact Nat.lt_of_lt_of_le h3 (Nat.pow_le_pow_right (by decide) (by omega))
theorem bl_nd {A : Nat} : bl A ≤ 16 * nd 65536 A := by
  rw [bl_le]
  have := lt_nd b16 A
  rwa [show (65536 : Nat) = 2 ^ 16 from rfl, ← Nat.pow_mul] at this
section
variable {l : Launch} {D : va_G} {tys : List (ClassId × FieldType)} {cI cZ : ClassId} {q : Nat → Nat} {h0 : vx_h} {f g s : Nat → Int32} {V : Nat → Nat} {X : Nat → Int} {a b d r u N sz U W : Nat} {w : Int32}
set_option maxRecDepth 100000 in
set_option maxHeartbeats 8000000 in
theorem cR_quotient (LR : rlay q h0) (ht2 : tys[2]? = some (cZ, .boolean)) (ht3 : tys[3]? = some (cI, .int)) (Ha : rv f g a U) (Hb : rv f g b W) (hu : u < 24) (hr : r < 24) (ha : a < 24) (hb : b < 24) (n1 : a ≠ u) (n2 : a ≠ r) (n3 : b ≠ u) (n4 : b ≠ r) (n5 : u ≠ r) (hW : 0 < W) (s1 : nd 65536 U < rcap u) (s2 : nd 65536 U ≤ 8192) (s3 : nd 65536 U ≤ rcap r) (s4 : nd 65536 W < rcap r) : vx_M l D vcl tys my_R_quotient lw_gd (rm_ 3 0 0 72) [.ref (q 0), .int (nI u), .int (nI r), .int (nI a), .int (nI b)] (rH cI cZ q h0 f g s) (rdone2 cI cZ q h0 f g s u (U / W) r (U % W)) := by
  refine vx_M.ofV (cc := bc_R_quotient) (maxL := 7) (ret := none) (own := rR) false rfl (by decide +kernel) wC_R_quotient (fun q => by cases q) (Nat.le_of_ble_eq_true rfl) (fun A H0 G IG RG => ?_)
  show vx_V _ _ _ _ _ _ _ _ _ 0 [(0, .ref (q 0)), (1, .int (nI u)), (2, .int (nI r)), (3, .int (nI a)), (4, .int (nI b))] []
  obtain ⟨hga, hca, hfa⟩ := Ha
  have c1 := rcap_4 r
  have c2 := rcap_4 b
  have c3 := rcap_4 a
  have c4 := rcap_4 u
  have hbU := bl_nd (A := U)
  have hbW := bl_nd (A := W)
  have hbW1 := bl_pos hW
  have hcb := Hb.2.1
  obtain ⟨F, eF⟩ : ∃ F, F = bl U + 1 - bl W := ⟨_, rfl⟩
  have hlow := q_low (A := U) hW
  rw [← eF] at hlow
  obtain ⟨fi, efi⟩ : ∃ fi : Int32, fi = nI (bl U) - nI (bl W) + 1 := ⟨_, rfl⟩
  obtain ⟨hf1, hf2⟩ := q_first (A := bl U) (B := bl W) (by omega) (by omega)
  rw [← efi, ← eF] at hf1
  rw [← efi] at hf2
  refine vx_aload_n IG dc_R_quotient_0 rfl 0 rfl ?_
  refine vx_iload_n IG dc_R_quotient_1 rfl 3 rfl ?_
  refine vx_callV (As := [.int (nI a)]) (st := []) IG lw_good (cR_bitsOf LR ht2 ht3 ⟨hga, hca, hfa⟩ ha) (ro_M LR) rfl wC_R_bitsOf wL_R_41 wI_R_bitsOf wS_R_bitsOf wX_R 1 (by decide +kernel) rfl ⟨Nat.le_of_ble_eq_true rfl, Nat.le_of_ble_eq_true rfl⟩ ⟨(by dsimp only [rm_]; omega), (by dsimp only [rm_]; omega)⟩ rfl (Nat.le_of_ble_eq_true rfl) dc_R_quotient_2 (fun v h k_ n_ hq => ?_)
  obtain ⟨rfl, rfl, rfl, rfl⟩ := hq
  show vx_V _ _ _ _ _ _ _ _ _ 5 [(0, .ref (q 0)), (1, .int (nI u)), (2, .int (nI r)), (3, .int (nI a)), (4, .int (nI b))] [.int (nI (bl U))]
  refine vx_aload_n IG dc_R_quotient_5 rfl 0 rfl ?_
  refine vx_iload IG dc_R_quotient_6 4 rfl ?_
  refine vx_callV (As := [.int (nI b)]) (st := [.int (nI (bl U))]) IG lw_good (cR_bitsOf LR ht2 ht3 Hb hb) (ro_M LR) rfl wC_R_bitsOf wL_R_41 wI_R_bitsOf wS_R_bitsOf wX_R 1 (by decide +kernel) rfl ⟨Nat.le_of_ble_eq_true rfl, Nat.le_of_ble_eq_true rfl⟩ ⟨(by dsimp only [rm_]; omega), (by dsimp only [rm_]; omega)⟩ rfl (Nat.le_of_ble_eq_true rfl) dc_R_quotient_8 (fun v h k_ n_ hq => ?_)
  obtain ⟨rfl, rfl, rfl, rfl⟩ := hq
  show vx_V _ _ _ _ _ _ _ _ _ 11 [(0, .ref (q 0)), (1, .int (nI u)), (2, .int (nI r)), (3, .int (nI a)), (4, .int (nI b))] [.int (nI (bl W)), .int (nI (bl U))]
  refine vx_isub IG dc_R_quotient_11 ?_
  refine vx_iconst (v := 1) IG dc_R_quotient_12 (by decide) ?_
  refine vx_iadd IG dc_R_quotient_13 ?_
  refine vx_topi (y := fi) efi.symm ?_
  refine vx_istore (lv' := [(5, .int fi), (0, .ref (q 0)), (1, .int (nI u)), (2, .int (nI r)), (3, .int (nI a)), (4, .int (nI b))]) IG dc_R_quotient_14 (by decide) rfl ?_
  refine vx_iconst (v := 0) IG dc_R_quotient_16 (by decide) ?_
  refine vx_istore (lv' := [(6, .int 0), (5, .int fi), (0, .ref (q 0)), (1, .int (nI u)), (2, .int (nI r)), (3, .int (nI a)), (4, .int (nI b))]) IG dc_R_quotient_17 (by decide) rfl ?_
  -- the end
  have fin : ∀ (v : Int32) (k n : Nat) (f1 g1 : Nat → Int32), v < 0 → rkeep (fun x => x = u ∨ x = r) f g f1 g1 → rv f1 g1 r (U % W) → (∀ k, k < nd 65536 U + 1 → f1 (rt u + k) = nI (dg 65536 (U / W) k)) → k = 0 → n = 0 → vx_V D vcl A H0 7 G (rH cI cZ q h0 f1 g1 s) k n 73 [(6, .int v), (5, .int fi), (0, .ref (q 0)), (1, .int (nI u)), (2, .int (nI r)), (3, .int (nI a)), (4, .int (nI b))] [] := by
    intro v k n f1 g1 hv hK Hr hQ hk hn
    subst hk hn
    have Ha1 := rk_rv hK ha (fun e => e.elim n1 n2) ⟨hga, hca, hfa⟩
    refine vx_iload IG dc_R_quotient_73 0 rfl ?_
    refine vx_if_lt (tgt := 153) IG dc_R_quotient_75 (by decide) (fun _ => ?_) (fun c_ => absurd hv c_)
    refine vx_aload_n IG dc_R_quotient_153 rfl 2 rfl ?_
    refine vx_iload_n IG dc_R_quotient_154 rfl 3 rfl ?_
    refine vx_aload_n IG dc_R_quotient_155 rfl 2 rfl ?_
    refine vx_get IG (ro_M LR) rfl 1 (by decide) inR wF_R_14 rfl rfl dc_R_quotient_156 ?_
    refine vx_iload_n IG dc_R_quotient_159 rfl 5 rfl ?_
    refine rr_nld IG LR ht3 ha (x := nI (nd 65536 U)) Ha1.1 dc_R_quotient_160 ?_
    have hN : U / W < 65536 ^ nd 65536 U := Nat.lt_of_le_of_lt (Nat.div_le_self _ _) (lt_nd b16 U)
    refine vx_callV (As := [.int (nI u), .int (nI (nd 65536 U))]) (st := []) IG lw_good (cR_trim LR ht2 ht3 (N := U / W) (sz := nd 65536 U) hu (by omega) (fun k hk => hQ k (by omega)) hN) (ro_M LR) rfl wC_R_trim wL_R_28 wI_R_trim wS_R_trim wX_R 2 (by decide +kernel) rfl ⟨Nat.le_of_ble_eq_true rfl, Nat.le_of_ble_eq_true rfl⟩ ⟨(by dsimp only [rm_]; omega), (by dsimp only [rm_]; omega)⟩ rfl (Nat.le_of_ble_eq_true rfl) dc_R_quotient_161 (fun v h k_ n_ hq => ?_)
    obtain ⟨rfl, rfl, rfl, rfl⟩ := hq
    show vx_V _ _ _ _ _ _ _ _ _ 164 [(6, .int v), (5, .int fi), (0, .ref (q 0)), (1, .int (nI u)), (2, .int (nI r)), (3, .int (nI a)), (4, .int (nI b))] []
    refine vx_ret none RG (vx_endv dc_R_quotient_164) rfl ?_
    have hnN := (nd_le b16).mpr hN
    refine ⟨rfl, rfl, rfl, _, _, rfl, rk_tr hK (rk_mono rk_g (fun x hx => Or.inl hx)), ⟨if_pos rfl, by omega, fun k hk => hQ k (by omega)⟩, ?_⟩
    exact rk_rv (rk_g (d := u)) hr (fun e => n5 e.symm) Hr
  -- the loop over the bits
  have loop : ∀ (j k n : Nat) (f1 g1 : Nat → Int32), j ≤ F → rkeep (fun x => x = u ∨ x = r) f g f1 g1 → rv f1 g1 r (U / 2 ^ j % W) → (∀ k, k < nd 65536 U + 1 → f1 (rt u + k) = nI (dg 65536 (U / 2 ^ j / W * 2 ^ j) k)) → k = 0 → n = 0 → vx_V D vcl A H0 7 G (rH cI cZ q h0 f1 g1 s) k n 73 [(6, .int (nI j - 1)), (5, .int fi), (0, .ref (q 0)), (1, .int (nI u)), (2, .int (nI r)), (3, .int (nI a)), (4, .int (nI b))] [] := by
    intro j
    induction j with
    | zero =>
      intro k n f1 g1 hj hK Hr hQ hk hn
      rw [Nat.pow_zero, Nat.div_one, Nat.mul_one] at hQ
      rw [Nat.pow_zero, Nat.div_one] at Hr
      exact fin _ k n f1 g1 (by decide) hK Hr hQ hk hn
    | succ j ih =>
      intro k n f1 g1 hj hK Hr hQ hk hn
      subst hk hn
      rw [nI_pred j]
      have Ha1 := rk_rv hK ha (fun e => e.elim n1 n2) ⟨hga, hca, hfa⟩
      have Hb1 := rk_rv hK hb (fun e => e.elim n3 n4) Hb
      have hm := Nat.mod_lt (U / 2 ^ (j + 1)) hW
      have hnR : nd 65536 (U / 2 ^ (j + 1) % W) ≤ nd 65536 W := nd_mono b16 (Nat.le_of_lt hm)
      have hb1 : U / 2 ^ j % 2 ≤ 1 := by omega
      refine vx_iload IG dc_R_quotient_73 0 rfl ?_
      refine vx_if_lt (tgt := 153) IG dc_R_quotient_75 (by decide) (fun c_ => absurd c_ (nI_pos (by omega))) (fun _ => ?_)
      refine vx_aload_n IG dc_R_quotient_78 rfl 2 rfl ?_
      refine vx_iload_n IG dc_R_quotient_79 rfl 4 rfl ?_
      refine vx_aload_n IG dc_R_quotient_80 rfl 2 rfl ?_
      refine vx_iload_n IG dc_R_quotient_81 rfl 5 rfl ?_
      refine vx_iload IG dc_R_quotient_82 0 rfl ?_
      refine vx_callV (As := [.int (nI a), .int (nI j)]) (st := [.int (nI r), .ref (q 0)]) IG lw_good (cR_bitOf LR ht2 ht3 Ha1 ha (i := j) (by omega)) (ro_M LR) rfl wC_R_bitOf wL_R_48 wI_R_bitOf wS_R_bitOf wX_R 2 (by decide +kernel) rfl ⟨Nat.le_of_ble_eq_true rfl, Nat.le_of_ble_eq_true rfl⟩ ⟨(by dsimp only [rm_]; omega), (by dsimp only [rm_]; omega)⟩ rfl (Nat.le_of_ble_eq_true rfl) dc_R_quotient_84 (fun v h k_ n_ hq => ?_)
      obtain ⟨rfl, rfl, rfl, rfl⟩ := hq
      show vx_V _ _ _ _ _ _ _ _ _ 87 [(6, .int (nI j)), (5, .int fi), (0, .ref (q 0)), (1, .int (nI u)), (2, .int (nI r)), (3, .int (nI a)), (4, .int (nI b))] [.int (nI (U / 2 ^ j % 2)), .int (nI r), .ref (q 0)]
      refine vx_callV (As := [.int (nI r), .int (nI (U / 2 ^ j % 2))]) (st := []) IG lw_good (cR_twice LR ht2 ht3 Hr hr hb1 (by omega)) (ro_M LR) rfl wC_R_twice wL_R_51 wI_R_twice wS_R_twice wX_R 2 (by decide +kernel) rfl ⟨Nat.le_of_ble_eq_true rfl, Nat.le_of_ble_eq_true rfl⟩ ⟨(by dsimp only [rm_]; omega), (by dsimp only [rm_]; omega)⟩ rfl (Nat.le_of_ble_eq_true rfl) dc_R_quotient_87 (fun v h k_ n_ hq => ?_)
      obtain ⟨rfl, rfl, rfl, f2, g2, rfl, S2⟩ := hq
      have K2 := rk_rs hr S2
      have Hb2 := rk_rv K2 hb n4 Hb1
      have Hr2 := S2.2.2
      have hQ2 : ∀ k, k < nd 65536 U + 1 → f2 (rt u + k) = nI (dg 65536 (U / 2 ^ (j + 1) / W * 2 ^ (j + 1)) k) := fun k hk => by rw [(K2 u hu n5).2 k (by omega)]; exact hQ k hk
      have hK2 := rk_tr hK (rk_mono K2 (fun x hx => Or.inr hx))
      show vx_V _ _ _ _ _ _ _ _ _ 90 [(6, .int (nI j)), (5, .int fi), (0, .ref (q 0)), (1, .int (nI u)), (2, .int (nI r)), (3, .int (nI a)), (4, .int (nI b))] []
      refine vx_aload_n IG dc_R_quotient_90 rfl 2 rfl ?_
      refine vx_iload_n IG dc_R_quotient_91 rfl 4 rfl ?_
      refine vx_iload IG dc_R_quotient_92 6 rfl ?_
      refine vx_callV (As := [.int (nI r), .int (nI b)]) (st := []) IG lw_good (cR_compareRows LR ht2 ht3 Hr2 Hb2 hr hb) (ro_M LR) rfl wC_R_compareRows wL_R_54 wI_R_compareRows wS_R_compareRows wX_R 2 (by decide +kernel) rfl ⟨Nat.le_of_ble_eq_true rfl, Nat.le_of_ble_eq_true rfl⟩ ⟨(by dsimp only [rm_]; omega), (by dsimp only [rm_]; omega)⟩ rfl (Nat.le_of_ble_eq_true rfl) dc_R_quotient_94 (fun v h k_ n_ hq => ?_)
      obtain ⟨rfl, rfl, rfl, rfl⟩ := hq
      show vx_V _ _ _ _ _ _ _ _ _ 97 [(6, .int (nI j)), (5, .int fi), (0, .ref (q 0)), (1, .int (nI u)), (2, .int (nI r)), (3, .int (nI a)), (4, .int (nI b))] [.int (cmpI (2 * (U / 2 ^ (j + 1) % W) + U / 2 ^ j % 2) W)]
      by_cases z : 2 * (U / 2 ^ (j + 1) % W) + U / 2 ^ j % 2 < W
      · obtain ⟨o1, o2⟩ := qs_0 hW z
        refine vx_if_ge (tgt := 103) IG dc_R_quotient_97 (by decide) (fun c_ => absurd c_ (fun c => absurd c (by rw [show cmpI (2 * (U / 2 ^ (j + 1) % W) + U / 2 ^ j % 2) W = -1 from if_pos z]; decide))) (fun _ => ?_)
        refine vx_goto (tgt := 147) IG dc_R_quotient_100 (by decide) ?_
        refine vx_iinc (q := 0) (v := nI j - 1) (lv' := [(6, .int (nI j - 1)), (5, .int fi), (0, .ref (q 0)), (1, .int (nI u)), (2, .int (nI r)), (3, .int (nI a)), (4, .int (nI b))]) IG dc_R_quotient_147 rfl (i32_dec _) (by decide) rfl ?_
        refine vx_goto (tgt := 73) IG dc_R_quotient_150 (by decide) ?_
        refine ih _ _ f2 g2 (by omega) hK2 (by rw [o1]; exact Hr2) (fun k hk => ?_) rfl rfl
        rw [hQ2 k hk, o2, q_dbl]
      · obtain ⟨o1, o2⟩ := qs_1 hW z
        refine vx_if_ge (tgt := 103) IG dc_R_quotient_97 (by decide) (fun _ => ?_) (fun c_ => absurd ((cmpI_ge _ _).mpr (by omega)) c_)
        refine vx_aload_n IG dc_R_quotient_103 rfl 2 rfl ?_
        refine vx_iload_n IG dc_R_quotient_104 rfl 4 rfl ?_
        refine vx_iload_n IG dc_R_quotient_105 rfl 4 rfl ?_
        refine vx_iload IG dc_R_quotient_106 6 rfl ?_
        have hnd2 := S2.2.2.2.1
        refine vx_callV (As := [.int (nI r), .int (nI r), .int (nI b)]) (st := []) IG lw_good (cR_lessen LR ht2 ht3 Hr2 Hb2 hr hr hb hnd2 (by omega)) (ro_M LR) rfl wC_R_lessen wL_R_57 wI_R_lessen wS_R_lessen wX_R 3 (by decide +kernel) rfl ⟨Nat.le_of_ble_eq_true rfl, Nat.le_of_ble_eq_true rfl⟩ ⟨(by dsimp only [rm_]; omega), (by dsimp only [rm_]; omega)⟩ rfl (Nat.le_of_ble_eq_true rfl) dc_R_quotient_108 (fun v h k_ n_ hq => ?_)
        obtain ⟨rfl, rfl, rfl, f3, g3, rfl, S3⟩ := hq
        have K3 := rk_rs hr S3
        have hQ3 : ∀ k, k < nd 65536 U + 1 → f3 (rt u + k) = nI (dg 65536 (U / 2 ^ (j + 1) / W * 2 ^ (j + 1)) k) := fun k hk => by rw [(K3 u hu n5).2 k (by omega)]; exact hQ2 k hk
        have hK3 := rk_tr hK2 (rk_mono K3 (fun x hx => Or.inr hx))
        obtain ⟨c, ec⟩ : ∃ c, c = U / 2 ^ (j + 1) / W := ⟨_, rfl⟩
        rw [← ec] at hQ3 o2
        have hjU : j / 16 < nd 65536 U := by omega
        have l1 := dg_lt b16 (c * 2 ^ (j + 1)) (j / 16)
        have l2 : 2 ^ (j % 16) < 65536 := Nat.pow_lt_pow_right (a := 2) (by decide) (show j % 16 < 16 by omega)
        show vx_V _ _ _ _ _ _ _ _ _ 111 [(6, .int (nI j)), (5, .int fi), (0, .ref (q 0)), (1, .int (nI u)), (2, .int (nI r)), (3, .int (nI a)), (4, .int (nI b))] []
        refine vx_aload_n IG dc_R_quotient_111 rfl 2 rfl ?_
        refine vx_get IG (ro_M LR) rfl 0 (by decide) inR wF_R_8 rfl rfl dc_R_quotient_112 ?_
        refine vx_iload_n IG dc_R_quotient_115 rfl 3 rfl ?_
        refine vx_callS (As := [.int (nI u)]) (st := [.ref (q 1)]) IG lw_good (cR_at _ u hu) wC_R_at wL_R_22 wT_R_at wX_R 1 (by decide +kernel) rfl ⟨Nat.le_of_ble_eq_true rfl, Nat.le_of_ble_eq_true rfl⟩ ⟨(by dsimp only [rm_]; omega), (by dsimp only [rm_]; omega)⟩ rfl (Nat.le_of_ble_eq_true rfl) dc_R_quotient_116 (fun v h k_ n_ hq => ?_)
        obtain ⟨rfl, rfl, rfl, rfl⟩ := hq
        show vx_V _ _ _ _ _ _ _ _ _ 119 [(6, .int (nI j)), (5, .int fi), (0, .ref (q 0)), (1, .int (nI u)), (2, .int (nI r)), (3, .int (nI a)), (4, .int (nI b))] [.int (nI (rt u)), .ref (q 1)]
        refine vx_iload IG dc_R_quotient_119 0 rfl ?_
        refine vx_iconst (v := 4) IG dc_R_quotient_121 (by decide) ?_
        refine vx_ishr IG dc_R_quotient_122 ?_
        refine vx_topi (y := nI (j / 16)) (sh4 (by omega)) ?_
        refine vx_iadd IG dc_R_quotient_123 ?_
        refine vx_topi (y := nI ((rt u) + (j / 16))) (nI_add _ _) ?_
        refine vx_aload_n IG dc_R_quotient_124 rfl 2 rfl ?_
        refine vx_get IG (ro_M LR) rfl 0 (by decide) inR wF_R_8 rfl rfl dc_R_quotient_125 ?_
        refine vx_iload_n IG dc_R_quotient_128 rfl 3 rfl ?_
        refine vx_callS (As := [.int (nI u)]) (st := [.ref (q 1), .int (nI ((rt u) + (j / 16))), .ref (q 1)]) IG lw_good (cR_at _ u hu) wC_R_at wL_R_22 wT_R_at wX_R 1 (by decide +kernel) rfl ⟨Nat.le_of_ble_eq_true rfl, Nat.le_of_ble_eq_true rfl⟩ ⟨(by dsimp only [rm_]; omega), (by dsimp only [rm_]; omega)⟩ rfl (Nat.le_of_ble_eq_true rfl) dc_R_quotient_129 (fun v h k_ n_ hq => ?_)
        obtain ⟨rfl, rfl, rfl, rfl⟩ := hq
        show vx_V _ _ _ _ _ _ _ _ _ 132 [(6, .int (nI j)), (5, .int fi), (0, .ref (q 0)), (1, .int (nI u)), (2, .int (nI r)), (3, .int (nI a)), (4, .int (nI b))] [.int (nI (rt u)), .ref (q 1), .int (nI ((rt u) + (j / 16))), .ref (q 1)]
        refine vx_iload IG dc_R_quotient_132 0 rfl ?_
        refine vx_iconst (v := 4) IG dc_R_quotient_134 (by decide) ?_
        refine vx_ishr IG dc_R_quotient_135 ?_
        refine vx_topi (y := nI (j / 16)) (sh4 (by omega)) ?_
        refine vx_iadd IG dc_R_quotient_136 ?_
        refine vx_topi (y := nI ((rt u) + (j / 16))) (nI_add _ _) ?_
        refine rr_mld IG LR ht3 (rt_in hu (by omega)) (x := nI (dg 65536 (c * 2 ^ (j + 1)) (j / 16))) (hQ3 _ (by omega)) dc_R_quotient_137 ?_
        refine vx_iconst (v := 1) IG dc_R_quotient_138 (by decide) ?_
        refine vx_iload IG dc_R_quotient_139 0 rfl ?_
        refine vx_bipush (v := 15) IG dc_R_quotient_141 (by decide) ?_
        refine vx_iand IG dc_R_quotient_143 ?_
        refine vx_topi (y := nI (j % 16)) (an15 (by omega)) ?_
        refine vx_ishl IG dc_R_quotient_144 ?_
        refine vx_topi (y := nI (2 ^ (j % 16))) (i_1shl (by omega)) ?_
        refine vx_ior IG dc_R_quotient_145 ?_
        refine vx_topi (y := nI (dg 65536 (c * 2 ^ (j + 1)) (j / 16) + 2 ^ (j % 16))) (by rw [i_or2 l1 l2, bs_or]) ?_
        refine rr_mst IG LR ht3 (rt_in hu (by omega)) (f' := upd f3 (rt u + j / 16) (nI (dg 65536 (c * 2 ^ (j + 1)) (j / 16) + 2 ^ (j % 16)))) rfl dc_R_quotient_146 ?_
        refine vx_iinc (q := 0) (v := nI j - 1) (lv' := [(6, .int (nI j - 1)), (5, .int fi), (0, .ref (q 0)), (1, .int (nI u)), (2, .int (nI r)), (3, .int (nI a)), (4, .int (nI b))]) IG dc_R_quotient_147 rfl (i32_dec _) (by decide) rfl ?_
        refine vx_goto (tgt := 73) IG dc_R_quotient_150 (by decide) ?_
        have K4 : rkeep (fun x => x = u) f3 g3 (upd f3 (rt u + j / 16) (nI (dg 65536 (c * 2 ^ (j + 1)) (j / 16) + 2 ^ (j % 16)))) g3 := rk_upd hu (by omega)
        refine ih _ _ _ g3 (by omega) (rk_tr hK3 (rk_mono K4 (fun x hx => Or.inl hx))) (by rw [o1]; exact rk_rv K4 hr (fun e => n5 e.symm) S3.2.2) (fun k hk => ?_) rfl rfl
        have eN : U / 2 ^ j / W * 2 ^ j = c * 2 ^ (j + 1) + 2 ^ j := by rw [o2, q_dbl, Nat.add_mul, Nat.one_mul]
        rw [eN, bs_dg]
        show (if rt u + k = rt u + j / 16 then _ else _) = _
        by_cases y : k = j / 16
        · rw [if_pos (by omega), if_pos y, y]
        · rw [if_neg (by omega), if_neg y]
          exact hQ3 k hk
  -- behind the clearing
  have mid : ∀ (k n : Nat), k = 0 → n = 0 → vx_V D vcl A H0 7 G (rH cI cZ q h0 (pf f (rt u) (fun _ => 0) (nd 65536 U + 1)) g s) k n 49 [(6, .int (nI (nd 65536 U + 1))), (5, .int fi), (0, .ref (q 0)), (1, .int (nI u)), (2, .int (nI r)), (3, .int (nI a)), (4, .int (nI b))] [] := by
    intro k n hk hn
    subst hk hn
    have K0 : rkeep (fun x => x = u) f g (pf f (rt u) (fun _ => 0) (nd 65536 U + 1)) g := fun x hx hE => ⟨rfl, fun j hj => pf_row (Or.inl hE) hx hu hj (by omega)⟩
    have Ha0 := rk_rv K0 ha n1 ⟨hga, hca, hfa⟩
    have go : ∀ (k n : Nat), (F = 0 → fi - 1 < 0) → (¬ F = 0 → fi = nI F) → k = 0 → n = 0 → vx_V D vcl A H0 7 G (rH cI cZ q h0 (pf f (rt u) (fun _ => 0) (nd 65536 U + 1)) g s) k n 64 [(6, .int (nI (nd 65536 U + 1))), (5, .int fi), (0, .ref (q 0)), (1, .int (nI u)), (2, .int (nI r)), (3, .int (nI a)), (4, .int (nI b))] [.long (lN F), .int (nI a), .int (nI r), .ref (q 0)] := by
      intro k n hF0 hF1 hk hn
      subst hk hn
      refine vx_callV (As := [.int (nI r), .int (nI a), .long (lN F)]) (st := []) IG lw_good (cR_lower LR ht2 ht3 Ha0 hr ha n2 s3 s2 (n := F) (by omega)) (ro_M LR) rfl wC_R_lower wL_R_44 wI_R_lower wS_R_lower wX_R 3 (by decide +kernel) rfl ⟨Nat.le_of_ble_eq_true rfl, Nat.le_of_ble_eq_true rfl⟩ ⟨(by dsimp only [rm_]; omega), (by dsimp only [rm_]; omega)⟩ rfl (Nat.le_of_ble_eq_true rfl) dc_R_quotient_64 (fun v h k_ n_ hq => ?_)
      obtain ⟨rfl, rfl, rfl, f1, g1, rfl, S1⟩ := hq
      have K1 := rk_rs hr S1
      have hK1 := rk_tr (rk_mono K0 (fun x hx => Or.inl hx)) (rk_mono K1 (fun x hx => Or.inr hx))
      have Hr1 := S1.2.2
      have hz : U / 2 ^ F / W = 0 := Nat.div_eq_of_lt hlow
      have hQ : ∀ k, k < nd 65536 U + 1 → f1 (rt u + k) = nI (dg 65536 (U / 2 ^ F / W * 2 ^ F) k) := fun k hk => by
        rw [(K1 u hu n5).2 k (by omega), pf_in hk, hz, Nat.zero_mul, dg_zero]
      show vx_V _ _ _ _ _ _ _ _ _ 67 [(6, .int (nI (nd 65536 U + 1))), (5, .int fi), (0, .ref (q 0)), (1, .int (nI u)), (2, .int (nI r)), (3, .int (nI a)), (4, .int (nI b))] []
      refine vx_iload IG dc_R_quotient_67 1 rfl ?_
      refine vx_iconst (v := 1) IG dc_R_quotient_69 (by decide) ?_
      refine vx_isub IG dc_R_quotient_70 ?_
      refine vx_istore (lv' := [(6, .int (fi - 1)), (5, .int fi), (0, .ref (q 0)), (1, .int (nI u)), (2, .int (nI r)), (3, .int (nI a)), (4, .int (nI b))]) IG dc_R_quotient_71 (by decide) rfl ?_
      refine vx_same (lv' := [(6, .int (fi - 1)), (5, .int fi), (0, .ref (q 0)), (1, .int (nI u)), (2, .int (nI r)), (3, .int (nI a)), (4, .int (nI b))]) IG [0, 1, 2, 3, 4, 5, 6] rfl ?_
      by_cases z : F = 0
      · have h := hF0 z
        rw [z, Nat.pow_zero, Nat.div_one] at Hr1 hlow
        rw [z, Nat.pow_zero, Nat.div_one, Nat.mul_one] at hQ
        exact fin _ _ _ f1 g1 h hK1 (by rw [Nat.mod_eq_of_lt hlow]; exact Hr1) hQ rfl rfl
      · rw [hF1 z]
        have hl := loop F 0 0 f1 g1 (Nat.le_refl _) hK1 (by rw [Nat.mod_eq_of_lt hlow]; exact Hr1) hQ rfl rfl
        rw [hF1 z] at hl
        exact hl
    refine vx_aload_n IG dc_R_quotient_49 rfl 2 rfl ?_
    refine vx_iload_n IG dc_R_quotient_50 rfl 4 rfl ?_
    refine vx_iload_n IG dc_R_quotient_51 rfl 5 rfl ?_
    refine vx_iload IG dc_R_quotient_52 1 rfl ?_
    by_cases z : bl W ≤ bl U
    · have e := hf1 z
      refine vx_if_le (tgt := 63) IG dc_R_quotient_54 (by decide) (fun c_ => absurd c_ (fun c => absurd (nI_lt (a := 0) (b := F) (by omega) (by omega)) (Int32.not_lt.mpr (e ▸ c)))) (fun _ => ?_)
      refine vx_iload IG dc_R_quotient_57 1 rfl ?_
      refine vx_i2l (v := lN F) IG dc_R_quotient_59 (by rw [e]; exact nI_l (by omega)) ?_
      refine vx_goto (tgt := 64) IG dc_R_quotient_60 (by decide) ?_
      exact go _ _ (fun y => by omega) (fun _ => e) rfl rfl
    · have e := hf2 z
      have eF0 : F = 0 := by omega
      refine vx_if_le (tgt := 63) IG dc_R_quotient_54 (by decide) (fun _ => ?_) (fun c_ => absurd e c_)
      refine vx_lconst (v := 0) IG dc_R_quotient_63 (by decide) ?_
      have h := go 0 0 (fun _ => q_le0 e (by
        rw [efi, show nI (bl U) - nI (bl W) + 1 = nI (bl U + 1) - nI (bl W) by rw [q_al, nI_1], pk_sub_toInt (by omega) (by omega)]
        omega)) (fun y => absurd eF0 y) rfl rfl
      rw [eF0] at h
      exact h
  have clear : ∀ (j c k n : Nat), c + j = nd 65536 U + 1 → k = 0 → n = 0 → vx_V D vcl A H0 7 G (rH cI cZ q h0 (pf f (rt u) (fun _ => 0) c) g s) k n 19 [(6, .int (nI c)), (5, .int fi), (0, .ref (q 0)), (1, .int (nI u)), (2, .int (nI r)), (3, .int (nI a)), (4, .int (nI b))] [] := by
    intro j
    induction j with
    | zero =>
      intro c k n hc hk hn
      subst hk hn
      obtain rfl : c = nd 65536 U + 1 := by omega
      refine vx_iload IG dc_R_quotient_19 0 rfl ?_
      refine vx_aload_n IG dc_R_quotient_21 rfl 2 rfl ?_
      refine vx_get IG (ro_M LR) rfl 1 (by decide) inR wF_R_14 rfl rfl dc_R_quotient_22 ?_
      refine vx_iload_n IG dc_R_quotient_25 rfl 5 rfl ?_
      refine rr_nld IG LR ht3 ha (x := nI (nd 65536 U)) hga dc_R_quotient_26 ?_
      refine vx_icmp_gt (tgt := 49) IG dc_R_quotient_27 (by decide) (fun _ => ?_) (fun c_ => absurd (nI_lt (by omega) (by omega)) c_)
      exact mid _ _ rfl rfl
    | succ j ih =>
      intro c k n hc hk hn
      subst hk hn
      refine vx_iload IG dc_R_quotient_19 0 rfl ?_
      refine vx_aload_n IG dc_R_quotient_21 rfl 2 rfl ?_
      refine vx_get IG (ro_M LR) rfl 1 (by decide) inR wF_R_14 rfl rfl dc_R_quotient_22 ?_
      refine vx_iload_n IG dc_R_quotient_25 rfl 5 rfl ?_
      refine rr_nld IG LR ht3 ha (x := nI (nd 65536 U)) hga dc_R_quotient_26 ?_
      refine vx_icmp_gt (tgt := 49) IG dc_R_quotient_27 (by decide) (fun c_ => absurd c_ (fun y => absurd (nI_le (a := c) (b := nd 65536 U) (by omega) (by omega)) (Int32.not_le.mpr y))) (fun _ => ?_)
      refine vx_aload_n IG dc_R_quotient_30 rfl 2 rfl ?_
      refine vx_get IG (ro_M LR) rfl 0 (by decide) inR wF_R_8 rfl rfl dc_R_quotient_31 ?_
      refine vx_iload_n IG dc_R_quotient_34 rfl 3 rfl ?_
      refine vx_callS (As := [.int (nI u)]) (st := [.ref (q 1)]) IG lw_good (cR_at _ u hu) wC_R_at wL_R_22 wT_R_at wX_R 1 (by decide +kernel) rfl ⟨Nat.le_of_ble_eq_true rfl, Nat.le_of_ble_eq_true rfl⟩ ⟨(by dsimp only [rm_]; omega), (by dsimp only [rm_]; omega)⟩ rfl (Nat.le_of_ble_eq_true rfl) dc_R_quotient_35 (fun v h k_ n_ hq => ?_)
      obtain ⟨rfl, rfl, rfl, rfl⟩ := hq
      show vx_V _ _ _ _ _ _ _ _ _ 38 [(6, .int (nI c)), (5, .int fi), (0, .ref (q 0)), (1, .int (nI u)), (2, .int (nI r)), (3, .int (nI a)), (4, .int (nI b))] [.int (nI (rt u)), .ref (q 1)]
      refine vx_iload IG dc_R_quotient_38 0 rfl ?_
      refine vx_iadd IG dc_R_quotient_40 ?_
      refine vx_topi (y := nI ((rt u) + c)) (nI_add _ _) ?_
      refine vx_iconst (v := 0) IG dc_R_quotient_41 (by decide) ?_
      refine rr_mst IG LR ht3 (rt_in hu (by omega)) (f' := pf f (rt u) (fun _ => 0) (c + 1)) (pf_s _ _ _ _) dc_R_quotient_42 ?_
      refine vx_iinc (q := 0) (v := nI (c + 1)) (lv' := [(6, .int (nI (c + 1))), (5, .int fi), (0, .ref (q 0)), (1, .int (nI u)), (2, .int (nI r)), (3, .int (nI a)), (4, .int (nI b))]) IG dc_R_quotient_43 rfl (nI_1 c) (by decide) rfl ?_
      refine vx_goto (tgt := 19) IG dc_R_quotient_46 (by decide) ?_
      exact ih (c + 1) _ _ (by omega) rfl rfl
  have hl := clear (nd 65536 U + 1) 0 0 0 (by omega) rfl rfl
  rw [pf_0] at hl
  exact hl
end
