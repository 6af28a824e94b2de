/-! Euclid: multiply -/
theorem mu_step {E U V P cu a b u v s : Int} (h : E + cu * P = a * U + b * V) (hs : s = a * u + b * v + cu) : (E + (s % 4294967296) * P) + (s / 4294967296) * (P * 4294967296) = a * (U + u * P) + b * (V + v * P) := by
  have h2 : s % 4294967296 = s - 4294967296 * (s / 4294967296) := by omega
  rw [h2]
  generalize s / 4294967296 = w
  grind
theorem mu_bound {a b cu : Int} {u v : Nat} (ha : a.natAbs ≤ 1073741823) (hb : b.natAbs ≤ 1073741823) (hu : u < 4294967296) (hv : v < 4294967296) (hc : cu.natAbs ≤ 2147483648) : (a * u + b * v + cu).natAbs < 9223372036854775808 := by
  have h1 : (a * u).natAbs ≤ 1073741823 * 4294967295 := by rw [Int.natAbs_mul]; exact Nat.mul_le_mul ha (by omega)
  have h2 : (b * v).natAbs ≤ 1073741823 * 4294967295 := by rw [Int.natAbs_mul]; exact Nat.mul_le_mul hb (by omega)
  omega
/-- the carry falls away where the sum is short -/
theorem mu_end {E P : Nat} {c : Int} {X : Nat} (h : (E : Int) + c * (P : Int) = (X : Int)) (hE : E < P) (hX : X < P) : E = X := by
  have h1 : c = 0 := by
    rcases Int.lt_trichotomy c 0 with z | z | z
    · have : (c + 1) * P ≤ 0 := Int.mul_nonpos_of_nonpos_of_nonneg (by omega) (by omega)
      rw [Int.add_mul, Int.one_mul] at this
      omega
    · exact z
    · have : 0 ≤ (c - 1) * P := Int.mul_nonneg (by omega) (by omega)
      rw [Int.sub_mul, Int.one_mul] at this
      omega
  rw [h1, Int.zero_mul] at h
  omega
theorem vl_snoc {e : Nat → Nat} {i x : Nat} : vl 4294967296 (fun j => if j = i then x else e j) (i + 1) = vl 4294967296 e i + x * 4294967296 ^ i := by
  rw [vl_succ, vl_congr (e := e) (fun j hj => by show (if j = i then x else e j) = e j; rw [if_neg (by omega)])]
  show _ + (if i = i then x else e i) * _ = _
  rw [if_pos rfl]
section
variable {l : Launch} {D : va_G} {tys : List (ClassId × FieldType)} {cJ : ClassId} {L : List Nat} {r : vx_h} {ar cp : Nat → Nat} {cn : Nat → Int32} {fn : Nat → Nat → Int64} {h : vx_h} {pu pv : Nat} {a b c d : Int}
set_option maxRecDepth 100000 in
set_option maxHeartbeats 8000000 in
/-- multiply(u, v, n, a, b, c, d) -/
theorem cE_multiply (HR : rw_at 2 cJ L r ar cp cn fn h) (hpu : pu ∈ L) (hpv : pv ∈ L) (hne : pv ≠ pu) (ht : tys[0]? = some (cJ, .long)) {n : Nat} (du dv : Nat → Nat) (hdu : ∀ i, i < n → du i < 4294967296 ∧ fn pu i = lN (du i)) (hdv : ∀ i, i < n → dv i < 4294967296 ∧ fn pv i = lN (dv i)) (hnu : n ≤ cp pu) (hnv : n ≤ cp pv) (ha : a.natAbs ≤ 1073741823) (hb : b.natAbs ≤ 1073741823) (hc : c.natAbs ≤ 1073741823) (hd : d.natAbs ≤ 1073741823) : vx_M l D vcl tys my_E_multiply lw_gd (rm_ 0 0 0 0) [.ref (ar pu), .ref (ar pv), .int (nI n), .long (lZ a), .long (lZ b), .long (lZ c), .long (lZ d)] h (fun v h' k m => v = none ∧ k = 0 ∧ m = 0 ∧ ∃ (fn' : Nat → Nat → Int64) (eu ev : Nat → Nat) (cu cv : Int), rw_at 2 cJ L r ar cp cn fn' h' ∧ (∀ q, q ≠ pu → q ≠ pv → fn' q = fn q) ∧ (∀ i, i < n → eu i < 4294967296 ∧ fn' pu i = lN (eu i)) ∧ (∀ i, i < n → ev i < 4294967296 ∧ fn' pv i = lN (ev i)) ∧ (vl 4294967296 eu n : Int) + cu * ((4294967296 ^ n : Nat) : Int) = a * (vl 4294967296 du n : Int) + b * (vl 4294967296 dv n : Int) ∧ (vl 4294967296 ev n : Int) + cv * ((4294967296 ^ n : Nat) : Int) = c * (vl 4294967296 du n : Int) + d * (vl 4294967296 dv n : Int)) := by
  have hcu := rw_cap HR hpu
  refine vx_M.ofV (cc := bc_E_multiply) (maxL := 20) (ret := none) (own := rE) false rfl (by decide +kernel) wC_E_multiply (fun q => by cases q) (Nat.le_of_ble_eq_true rfl) (fun A H0 G IG RG => ?_)
  show vx_V _ _ _ _ _ _ _ _ _ 0 [(0, .ref (ar pu)), (1, .ref (ar pv)), (2, .int (nI n)), (3, .long (lZ a)), (5, .long (lZ b)), (7, .long (lZ c)), (9, .long (lZ d))] []
  have loop : ∀ (m i : Nat), i + m = n → ∀ (h : vx_h) (fn5 : Nat → Nat → Int64) (eu ev : Nat → Nat) (cu cv : Int), rw_at 2 cJ L r ar cp cn fn5 h → (∀ q, q ≠ pu → q ≠ pv → fn5 q = fn q) → (∀ j, j < i → eu j < 4294967296 ∧ fn5 pu j = lN (eu j)) → (∀ j, j < i → ev j < 4294967296 ∧ fn5 pv j = lN (ev j)) → (∀ j, i ≤ j → fn5 pu j = fn pu j) → (∀ j, i ≤ j → fn5 pv j = fn pv j) → cu.natAbs ≤ 2147483648 → cv.natAbs ≤ 2147483648 → (vl 4294967296 eu i : Int) + cu * ((4294967296 ^ i : Nat) : Int) = a * (vl 4294967296 du i : Int) + b * (vl 4294967296 dv i : Int) → (vl 4294967296 ev i : Int) + cv * ((4294967296 ^ i : Nat) : Int) = c * (vl 4294967296 du i : Int) + d * (vl 4294967296 dv i : Int) → vx_V D vcl A H0 20 G h 0 0 9 [(15, .int (nI i)), (13, .long (lZ cv)), (11, .long (lZ cu)), (0, .ref (ar pu)), (1, .ref (ar pv)), (2, .int (nI n)), (3, .long (lZ a)), (5, .long (lZ b)), (7, .long (lZ c)), (9, .long (lZ d))] [] := by
    intro m
    induction m with
    | zero =>
      intro i him h fn5 eu ev cu cv HR5 f1 f2 f3 f4 f5 b1 b2 q1 q2
      refine vx_iload IG dc_E_multiply_9 0 rfl ?_
      refine vx_iload_n IG dc_E_multiply_11 rfl 5 rfl ?_
      refine vx_icmp_ge (tgt := 94) IG dc_E_multiply_12 (by decide) (fun _ => ?_) (fun c_ => absurd (nI_le (by omega) (by omega)) c_)
      refine vx_ret none RG (vx_endv dc_E_multiply_94) rfl ?_
      obtain rfl : i = n := by omega
      exact ⟨rfl, rfl, rfl, fn5, eu, ev, cu, cv, HR5, f1, f2, f3, q1, q2⟩
    | succ m ih =>
      intro i him h fn5 eu ev cu cv HR5 f1 f2 f3 f4 f5 b1 b2 q1 q2
      obtain ⟨u1, u2⟩ := hdu i (by omega)
      obtain ⟨v1, v2⟩ := hdv i (by omega)
      have hu5 : fn5 pu i = lZ (du i : Int) := by rw [f4 i (Nat.le_refl i), u2, lZ_nat]
      have hv5 : fn5 pv i = lZ (dv i : Int) := by rw [f5 i (Nat.le_refl i), v2, lZ_nat]
      have s1 := mu_bound ha hb u1 v1 b1
      have s2 := mu_bound hc hd u1 v1 b2
      refine vx_iload IG dc_E_multiply_9 0 rfl ?_
      refine vx_iload_n IG dc_E_multiply_11 rfl 5 rfl ?_
      refine vx_icmp_ge (tgt := 94) IG dc_E_multiply_12 (by decide) (fun c_ => absurd c_ (nI_ge (by omega) (by omega))) (fun _ => ?_)
      refine vx_lload_n IG dc_E_multiply_15 rfl 6 rfl ?_
      refine vx_aload_n IG dc_E_multiply_16 rfl 3 rfl ?_
      refine vx_iload IG dc_E_multiply_17 0 rfl ?_
      refine wr_ald IG HR5 hpu ht i rfl (by omega) dc_E_multiply_19 ?_
      refine vx_topl (y := lZ (du i : Int)) hu5 ?_
      refine vx_lmul IG dc_E_multiply_20 ?_
      refine vx_topl (y := lZ (a * (du i : Int))) (lZ_mul _ _) ?_
      refine vx_lload IG dc_E_multiply_21 7 rfl ?_
      refine vx_aload_n IG dc_E_multiply_23 rfl 4 rfl ?_
      refine vx_iload IG dc_E_multiply_24 0 rfl ?_
      refine wr_ald IG HR5 hpv ht i rfl (by omega) dc_E_multiply_26 ?_
      refine vx_topl (y := lZ (dv i : Int)) hv5 ?_
      refine vx_lmul IG dc_E_multiply_27 ?_
      refine vx_topl (y := lZ (b * (dv i : Int))) (lZ_mul _ _) ?_
      refine vx_ladd IG dc_E_multiply_28 ?_
      refine vx_topl (y := lZ (a * (du i : Int) + b * (dv i : Int))) (lZ_add _ _) ?_
      refine vx_lload IG dc_E_multiply_29 2 rfl ?_
      refine vx_ladd IG dc_E_multiply_31 ?_
      refine vx_topl (y := lZ (a * (du i : Int) + b * (dv i : Int) + cu)) (lZ_add _ _) ?_
      refine vx_lstore (lv' := [(16, .long (lZ (a * (du i : Int) + b * (dv i : Int) + cu))), (15, .int (nI i)), (13, .long (lZ cv)), (11, .long (lZ cu)), (0, .ref (ar pu)), (1, .ref (ar pv)), (2, .int (nI n)), (3, .long (lZ a)), (5, .long (lZ b)), (7, .long (lZ c)), (9, .long (lZ d))]) IG dc_E_multiply_32 (by decide) rfl ?_
      refine vx_lload IG dc_E_multiply_34 9 rfl ?_
      refine vx_aload_n IG dc_E_multiply_36 rfl 4 rfl ?_
      refine vx_iload IG dc_E_multiply_37 1 rfl ?_
      refine wr_ald IG HR5 hpu ht i rfl (by omega) dc_E_multiply_39 ?_
      refine vx_topl (y := lZ (du i : Int)) hu5 ?_
      refine vx_lmul IG dc_E_multiply_40 ?_
      refine vx_topl (y := lZ (c * (du i : Int))) (lZ_mul _ _) ?_
      refine vx_lload IG dc_E_multiply_41 10 rfl ?_
      refine vx_aload_n IG dc_E_multiply_43 rfl 5 rfl ?_
      refine vx_iload IG dc_E_multiply_44 1 rfl ?_
      refine wr_ald IG HR5 hpv ht i rfl (by omega) dc_E_multiply_46 ?_
      refine vx_topl (y := lZ (dv i : Int)) hv5 ?_
      refine vx_lmul IG dc_E_multiply_47 ?_
      refine vx_topl (y := lZ (d * (dv i : Int))) (lZ_mul _ _) ?_
      refine vx_ladd IG dc_E_multiply_48 ?_
      refine vx_topl (y := lZ (c * (du i : Int) + d * (dv i : Int))) (lZ_add _ _) ?_
      refine vx_lload IG dc_E_multiply_49 2 rfl ?_
      refine vx_ladd IG dc_E_multiply_51 ?_
      refine vx_topl (y := lZ (c * (du i : Int) + d * (dv i : Int) + cv)) (lZ_add _ _) ?_
      refine vx_lstore (lv' := [(18, .long (lZ (c * (du i : Int) + d * (dv i : Int) + cv))), (16, .long (lZ (a * (du i : Int) + b * (dv i : Int) + cu))), (15, .int (nI i)), (13, .long (lZ cv)), (11, .long (lZ cu)), (0, .ref (ar pu)), (1, .ref (ar pv)), (2, .int (nI n)), (3, .long (lZ a)), (5, .long (lZ b)), (7, .long (lZ c)), (9, .long (lZ d))]) IG dc_E_multiply_52 (by decide) rfl ?_
      refine vx_aload_n IG dc_E_multiply_54 rfl 5 rfl ?_
      refine vx_iload IG dc_E_multiply_55 2 rfl ?_
      refine vx_lload IG dc_E_multiply_57 1 rfl ?_
      refine vx_ldc2 (v := 4294967295) IG wK_E_140 dc_E_multiply_59 ?_
      generalize es : a * (du i : Int) + b * (dv i : Int) + cu = s at *
      generalize et : c * (du i : Int) + d * (dv i : Int) + cv = t at *
      refine vx_land IG dc_E_multiply_62 ?_
      refine vx_topl (y := lN (s % 4294967296).toNat) (lZ_mask _) ?_
      refine wr_ast IG HR5 hpu ht i rfl (by omega) dc_E_multiply_63 (fun h HR5 => ?_)
      obtain ⟨fn6, e_fn6⟩ : ∃ z, z = va_up fn5 pu (vp_updL (fn5 pu) i (lN (s % 4294967296).toNat)) := ⟨_, rfl⟩
      rw [← e_fn6] at HR5
      refine vx_aload_n IG dc_E_multiply_64 rfl 6 rfl ?_
      refine vx_iload IG dc_E_multiply_65 2 rfl ?_
      refine vx_lload IG dc_E_multiply_67 0 rfl ?_
      refine vx_ldc2 (v := 4294967295) IG wK_E_140 dc_E_multiply_69 ?_
      refine vx_land IG dc_E_multiply_72 ?_
      refine vx_topl (y := lN (t % 4294967296).toNat) (lZ_mask _) ?_
      refine wr_ast IG HR5 hpv ht i rfl (by omega) dc_E_multiply_73 (fun h HR5 => ?_)
      obtain ⟨fn7, e_fn7⟩ : ∃ z, z = va_up fn6 pv (vp_updL (fn6 pv) i (lN (t % 4294967296).toNat)) := ⟨_, rfl⟩
      rw [← e_fn7] at HR5
      refine vx_lload IG dc_E_multiply_74 1 rfl ?_
      refine vx_bipush (v := 32) IG dc_E_multiply_76 (by decide) ?_
      refine vx_lshr (v := lZ (s / 4294967296)) IG dc_E_multiply_78 (lZ_shr32 (by omega) (by omega)) ?_
      refine vx_lstore (lv' := [(11, .long (lZ (s / 4294967296))), (18, .long (lZ t)), (16, .long (lZ s)), (15, .int (nI i)), (13, .long (lZ cv)), (0, .ref (ar pu)), (1, .ref (ar pv)), (2, .int (nI n)), (3, .long (lZ a)), (5, .long (lZ b)), (7, .long (lZ c)), (9, .long (lZ d))]) IG dc_E_multiply_79 (by decide) rfl ?_
      refine vx_lload IG dc_E_multiply_81 1 rfl ?_
      refine vx_bipush (v := 32) IG dc_E_multiply_83 (by decide) ?_
      refine vx_lshr (v := lZ (t / 4294967296)) IG dc_E_multiply_85 (lZ_shr32 (by omega) (by omega)) ?_
      refine vx_lstore (lv' := [(13, .long (lZ (t / 4294967296))), (11, .long (lZ (s / 4294967296))), (18, .long (lZ t)), (16, .long (lZ s)), (15, .int (nI i)), (0, .ref (ar pu)), (1, .ref (ar pv)), (2, .int (nI n)), (3, .long (lZ a)), (5, .long (lZ b)), (7, .long (lZ c)), (9, .long (lZ d))]) IG dc_E_multiply_86 (by decide) rfl ?_
      refine vx_iinc (q := 4) (v := nI (i + 1)) (lv' := [(15, .int (nI (i + 1))), (13, .long (lZ (t / 4294967296))), (11, .long (lZ (s / 4294967296))), (18, .long (lZ t)), (16, .long (lZ s)), (0, .ref (ar pu)), (1, .ref (ar pv)), (2, .int (nI n)), (3, .long (lZ a)), (5, .long (lZ b)), (7, .long (lZ c)), (9, .long (lZ d))]) IG dc_E_multiply_88 rfl (nI_1 i) (by decide) rfl ?_
      refine vx_goto (tgt := 9) IG dc_E_multiply_91 (by decide) ?_
      refine vx_same (lv' := [(15, .int (nI (i + 1))), (13, .long (lZ (t / 4294967296))), (11, .long (lZ (s / 4294967296))), (0, .ref (ar pu)), (1, .ref (ar pv)), (2, .int (nI n)), (3, .long (lZ a)), (5, .long (lZ b)), (7, .long (lZ c)), (9, .long (lZ d))]) IG [0, 1, 2, 5, 6, 7, 8, 9, 10, 11] rfl ?_
      have hP : ((4294967296 ^ (i + 1) : Nat) : Int) = ((4294967296 ^ i : Nat) : Int) * 4294967296 := by rw [bp_succ, Int.natCast_mul]; rfl
      refine ih (i + 1) (by omega) h fn7 (fun j => if j = i then (s % 4294967296).toNat else eu j) (fun j => if j = i then (t % 4294967296).toNat else ev j) (s / 4294967296) (t / 4294967296) HR5 (fun q y1 y2 => ?_) (fun j hj => ?_) (fun j hj => ?_) (fun j hj => ?_) (fun j hj => ?_) (by omega) (by omega) ?_ ?_
      · rw [e_fn7, va_up_ne _ _ y2, e_fn6, va_up_ne _ _ y1]; exact f1 q y1 y2
      · rw [e_fn7, va_up_ne _ _ (Ne.symm hne), e_fn6, va_up_self]
        by_cases y : j = i
        · rw [y, pk_uLs]
          simp only [if_true]
          exact ⟨by omega, trivial⟩
        · rw [pk_uLn y]
          simp only [y, if_false]
          exact f2 j (by omega)
      · rw [e_fn7, va_up_self]
        by_cases y : j = i
        · rw [y, pk_uLs]
          simp only [if_true]
          exact ⟨by omega, trivial⟩
        · rw [pk_uLn y, e_fn6, va_up_ne _ _ hne]
          simp only [y, if_false]
          exact f3 j (by omega)
      · rw [e_fn7, va_up_ne _ _ (Ne.symm hne), e_fn6, va_up_self, pk_uLn (by omega)]; exact f4 j (by omega)
      · rw [e_fn7, va_up_self, pk_uLn (by omega), e_fn6, va_up_ne _ _ hne]; exact f5 j (by omega)
      · rw [vl_snoc, vl_succ, vl_succ, hP, Int.natCast_add, Int.natCast_add, Int.natCast_add, Int.natCast_mul, Int.natCast_mul, Int.natCast_mul, show (((s % 4294967296).toNat : Nat) : Int) = s % 4294967296 by omega]
        exact mu_step q1 es.symm
      · rw [vl_snoc, vl_succ, vl_succ, hP, Int.natCast_add, Int.natCast_add, Int.natCast_add, Int.natCast_mul, Int.natCast_mul, Int.natCast_mul, show (((t % 4294967296).toNat : Nat) : Int) = t % 4294967296 by omega]
        exact mu_step q2 et.symm
  refine vx_lconst (v := 0) IG dc_E_multiply_0 (by decide) ?_
  refine vx_lstore (lv' := [(11, .long 0), (0, .ref (ar pu)), (1, .ref (ar pv)), (2, .int (nI n)), (3, .long (lZ a)), (5, .long (lZ b)), (7, .long (lZ c)), (9, .long (lZ d))]) IG dc_E_multiply_1 (by decide) rfl ?_
  refine vx_lconst (v := 0) IG dc_E_multiply_3 (by decide) ?_
  refine vx_lstore (lv' := [(13, .long 0), (11, .long 0), (0, .ref (ar pu)), (1, .ref (ar pv)), (2, .int (nI n)), (3, .long (lZ a)), (5, .long (lZ b)), (7, .long (lZ c)), (9, .long (lZ d))]) IG dc_E_multiply_4 (by decide) rfl ?_
  refine vx_iconst (v := 0) IG dc_E_multiply_6 (by decide) ?_
  refine vx_istore (lv' := [(15, .int 0), (13, .long 0), (11, .long 0), (0, .ref (ar pu)), (1, .ref (ar pv)), (2, .int (nI n)), (3, .long (lZ a)), (5, .long (lZ b)), (7, .long (lZ c)), (9, .long (lZ d))]) IG dc_E_multiply_7 (by decide) rfl ?_
  refine loop n 0 (by omega) h fn (fun _ => 0) (fun _ => 0) 0 0 HR (fun _ _ _ => rfl) (fun j hj => by omega) (fun j hj => by omega) (fun _ _ => rfl) (fun _ _ => rfl) (by decide) (by decide) ?_ ?_ <;> simp [vl]
end
