/-! Divider: subtract, addBack -/
theorem ln_sub1 {a b : Nat} (hb : b ≤ 18446744073709551616) : lN a - lN b = lN (a + 18446744073709551616 - b) := by
  rw [← ln_wrap a, lN_sub (by omega)]
theorem ln_bor1 {a b : Nat} (ha : a < 4294967296) (hb : b < 4294967296) : ((lN (a + 18446744073709551616 - b)).toUInt64 >>> ((63 : Int32).toInt64.toUInt64 &&& Int64.toUInt64 63)).toInt64 = lN (if a < b then 1 else 0) := ln_bor (w := 0) ha (by decide) hb
theorem sb_step {w s e : Nat → Nat} {f i cr t : Nat} (h : vl 4294967296 w i + f * vl 4294967296 s i = vl 4294967296 e i + cr * 4294967296 ^ i) (ht : t = f * s i + cr) (he : e i < 4294967296) (hw : w i = (e i + 18446744073709551616 - t % 4294967296) % 4294967296) : vl 4294967296 w (i + 1) + f * vl 4294967296 s (i + 1) = vl 4294967296 e (i + 1) + (t / 4294967296 + (if e i < t % 4294967296 then 1 else 0)) * 4294967296 ^ (i + 1) := by
  have key : w i + t = e i + (t / 4294967296 + (if e i < t % 4294967296 then 1 else 0)) * 4294967296 := by
    rw [hw]
    split <;> omega
  generalize (t / 4294967296 + (if e i < t % 4294967296 then 1 else 0)) = c at *
  have k2 := congrArg (· * 4294967296 ^ i) key
  simp only [Nat.add_mul] at k2
  have k3 : t * 4294967296 ^ i = f * (s i * 4294967296 ^ i) + cr * 4294967296 ^ i := by rw [ht, Nat.add_mul, Nat.mul_assoc]
  rw [vl_succ, vl_succ, vl_succ, bp_succ, Nat.mul_add, Nat.mul_comm (4294967296 ^ i) 4294967296, ← Nat.mul_assoc c]
  omega
section
variable {l : Launch} {D : va_G} {tys : List (ClassId × FieldType)} {cJ : ClassId} {L : List Nat} {r : vx_h} {ar cp : Nat → Nat} {cn : Nat → Int32} {fn : Nat → Nat → Int64} {dv qo rs sc : Nat} {h : vx_h}
set_option maxRecDepth 100000 in
set_option maxHeartbeats 4000000 in
/-- subtract(place, n, f): f times the divisor is taken from the rest at this place; whether it went below 0 -/
theorem cD_subtract (HR : rw_at 2 cJ L r ar cp cn fn h) (hdv : r dv = some (.inr (0, [.ref qo, .ref rs, .ref sc]))) (hrs : rs ∈ L) (hsc : sc ∈ L) (hne : sc ≠ rs) (ht : tys[0]? = some (cJ, .long)) {place n tot f : Nat} (hf : f < 4294967296) (d : Nat → Nat) (hd : ∀ i, i < tot → d i < 4294967296 ∧ fn rs i = lN (d i)) (htot : tot ≤ cp rs) (hpl : place + n < tot) (s : Nat → Nat) (hs : ∀ i, i < n → s i < 4294967296 ∧ fn sc i = lN (s i)) (hn : n ≤ cp sc) : vx_M l D vcl tys my_D_subtract lw_gd (rm_ 0 0 0 0) [.ref dv, .int (nI place), .int (nI n), .long (lN f)] h (fun v h' k m => k = 0 ∧ m = 0 ∧ ∃ (fn' : Nat → Nat → Int64) (e : Nat → Nat), rw_at 2 cJ L r ar cp cn fn' h' ∧ (∀ q, q ≠ rs → fn' q = fn q) ∧ (∀ i, i < tot → e i < 4294967296 ∧ fn' rs i = lN (e i)) ∧ (∀ j, j < place ∨ place + (n + 1) ≤ j → e j = d j) ∧ ((v = some (.int 0) ∧ vl 4294967296 (fun j => e (place + j)) (n + 1) + f * vl 4294967296 s n = vl 4294967296 (fun j => d (place + j)) (n + 1)) ∨ (v = some (.int 1) ∧ vl 4294967296 (fun j => e (place + j)) (n + 1) + f * vl 4294967296 s n = vl 4294967296 (fun j => d (place + j)) (n + 1) + 4294967296 ^ (n + 1)))) := by
  have hc := rw_cap HR hrs
  have hc2 := rw_cap HR hsc
  refine vx_M.ofV (cc := bc_D_subtract) (maxL := 14) (ret := some .boolean) (own := rD) false rfl (by decide +kernel) wC_D_subtract (fun q => by cases q) (Nat.le_of_ble_eq_true rfl) (fun A H0 G IG RG => ?_)
  show vx_V _ _ _ _ _ _ _ _ _ 0 [(0, .ref dv), (1, .int (nI place)), (2, .int (nI n)), (3, .long (lN f))] []
  have loop : ∀ (m i : Nat), i + m = n → ∀ (h : vx_h) (fn2 : Nat → Nat → Int64) (c : Nat → Nat) (cr : Nat), cr < 4294967296 → (∀ q, q ≠ rs → fn2 q = fn q) → (∀ j, j < tot → c j < 4294967296 ∧ fn2 rs j = lN (c j)) → (∀ j, j < place ∨ place + i ≤ j → c j = d j) → vl 4294967296 (fun j => c (place + j)) i + f * vl 4294967296 s i = vl 4294967296 (fun j => d (place + j)) i + cr * 4294967296 ^ i → rw_at 2 cJ L r ar cp cn fn2 h → vx_V D vcl A H0 14 G h 0 0 24 [(9, .int (nI i)), (7, .long (lN cr)), (6, .ref (ar sc)), (5, .ref (ar rs)), (0, .ref dv), (1, .int (nI place)), (2, .int (nI n)), (3, .long (lN f))] [] := by
    intro m
    induction m with
    | zero =>
      intro i him h fn2 c cr hcr f1 f2 f3 f4 HR
      obtain rfl : i = n := by omega
      have hdn := f2 (place + i) (by omega)
      have hdn2 := f3 (place + i) (Or.inr (Nat.le_refl _))
      refine vx_iload IG dc_D_subtract_24 0 rfl ?_
      refine vx_iload_n IG dc_D_subtract_26 rfl 6 rfl ?_
      refine vx_icmp_ge (tgt := 90) IG dc_D_subtract_27 (by decide) (fun _ => ?_) (fun c_ => absurd (nI_le (Nat.le_refl _) (by omega)) c_)
      refine vx_aload IG dc_D_subtract_90 3 rfl ?_
      refine vx_iload_n IG dc_D_subtract_92 rfl 5 rfl ?_
      refine vx_iload_n IG dc_D_subtract_93 rfl 6 rfl ?_
      refine vx_iadd IG dc_D_subtract_94 ?_
      refine vx_topi (y := nI (place + i)) (nI_add _ _) ?_
      refine wr_ald IG HR hrs ht (place + i) rfl (by omega) dc_D_subtract_95 ?_
      refine vx_topl (y := lN (d (place + i))) (by rw [hdn.2, hdn2]) ?_
      refine vx_lload IG dc_D_subtract_96 1 rfl ?_
      refine vx_lsub IG dc_D_subtract_98 ?_
      refine vx_topl (y := lN (d (place + i) + 18446744073709551616 - cr)) (ln_sub1 (by omega)) ?_
      refine vx_lstore (lv' := [(9, .long (lN (d (place + i) + 18446744073709551616 - cr))), (7, .long (lN cr)), (6, .ref (ar sc)), (5, .ref (ar rs)), (0, .ref dv), (1, .int (nI place)), (2, .int (nI i)), (3, .long (lN f))]) IG dc_D_subtract_99 (by decide) rfl ?_
      refine vx_aload IG dc_D_subtract_101 3 rfl ?_
      refine vx_iload_n IG dc_D_subtract_103 rfl 5 rfl ?_
      refine vx_iload_n IG dc_D_subtract_104 rfl 6 rfl ?_
      refine vx_iadd IG dc_D_subtract_105 ?_
      refine vx_topi (y := nI (place + i)) (nI_add _ _) ?_
      refine vx_lload IG dc_D_subtract_106 0 rfl ?_
      refine vx_ldc2 (v := 4294967295) IG wK_D_83 dc_D_subtract_108 ?_
      refine vx_land IG dc_D_subtract_111 ?_
      refine vx_topl (y := lN ((d (place + i) + 18446744073709551616 - cr) % 4294967296)) (ln_mask _) ?_
      refine wr_ast IG HR hrs ht (place + i) rfl (by omega) dc_D_subtract_112 (fun h HR => ?_)
      obtain ⟨fn3, e_fn3⟩ : ∃ z, z = va_up fn2 rs (vp_updL (fn2 rs) (place + i) (lN ((d (place + i) + 18446744073709551616 - cr) % 4294967296))) := ⟨_, rfl⟩
      rw [← e_fn3] at HR
      have hd0 : d (place + i) < 4294967296 := (hd (place + i) (by omega)).1
      have e1 : ∀ j, j < tot → (fun j => if j = place + i then (d (place + i) + 18446744073709551616 - cr) % 4294967296 else c j) j < 4294967296 ∧ fn3 rs j = lN ((fun j => if j = place + i then (d (place + i) + 18446744073709551616 - cr) % 4294967296 else c j) j) := by
        intro j hj
        by_cases z : j = place + i
        · simp only [z, if_true]
          exact ⟨by omega, by rw [e_fn3, va_up_self, pk_uLs]⟩
        · simp only [z, if_false]
          exact ⟨(f2 j hj).1, by rw [e_fn3, va_up_self, pk_uLn z]; exact (f2 j hj).2⟩
      have e2 : ∀ j, j < place ∨ place + (i + 1) ≤ j → (fun j => if j = place + i then (d (place + i) + 18446744073709551616 - cr) % 4294967296 else c j) j = d j := by
        intro j hj
        show (if j = place + i then _ else c j) = d j
        rw [if_neg (by omega)]; exact f3 j (by omega)
      have e3 : vl 4294967296 (fun j => (fun j => if j = place + i then (d (place + i) + 18446744073709551616 - cr) % 4294967296 else c j) (place + j)) (i + 1) = vl 4294967296 (fun j => c (place + j)) i + (d (place + i) + 18446744073709551616 - cr) % 4294967296 * 4294967296 ^ i := by
        rw [vl_succ]
        show vl 4294967296 (fun j => if place + j = place + i then _ else c (place + j)) i + (if place + i = place + i then _ else _) * _ = _
        rw [if_pos rfl, vl_congr (e := fun j => c (place + j)) (fun j hj => by show (if _ then _ else _) = _; rw [if_neg (by omega)])]
      have e4 : vl 4294967296 (fun j => d (place + j)) (i + 1) = vl 4294967296 (fun j => d (place + j)) i + d (place + i) * 4294967296 ^ i := vl_succ _ _ _
      refine vx_lload IG dc_D_subtract_113 0 rfl ?_
      refine vx_lconst (v := 0) IG dc_D_subtract_115 (by decide) ?_
      refine vx_lcmp IG dc_D_subtract_116 ?_
      by_cases z : cr ≤ d (place + i)
      · refine vx_if_ge (tgt := 124) IG dc_D_subtract_117 (by decide) (fun _ => ?_) (fun c_ => absurd ((lg_cmp_ge _ _).mpr (by rw [show d (place + i) + 18446744073709551616 - cr = (d (place + i) - cr) + 18446744073709551616 by omega, ln_wrap]; exact (pk_lLE (a := 0) (by decide) (by omega)).mpr (Nat.zero_le _))) c_)
        refine vx_iconst (v := 0) IG dc_D_subtract_124 (by decide) ?_
        refine vx_ret (some (.int 0)) RG (vx_endi (by first | rfl | decide) dc_D_subtract_125) rfl ?_
        refine ⟨rfl, rfl, fn3, _, HR, fun q z => ?_, e1, e2, Or.inl ⟨rfl, ?_⟩⟩
        · rw [e_fn3, va_up_ne _ _ z]; exact f1 q z
        · rw [e3, e4, show (d (place + i) + 18446744073709551616 - cr) % 4294967296 = d (place + i) - cr by omega]
          have := Nat.mul_le_mul_right (4294967296 ^ i) z
          rw [Nat.sub_mul]
          omega
      · refine vx_if_ge (tgt := 124) IG dc_D_subtract_117 (by decide) (fun c_ => absurd c_ (fun q => by have h1 := (lg_cmp_ge _ _).mp q; rw [Int64.le_iff_toInt_le, lN_ti (by omega), if_neg (by omega)] at h1; have h2 : (0 : Int64).toInt = 0 := rfl; rw [h2] at h1; omega)) (fun _ => ?_)
        refine vx_iconst (v := 1) IG dc_D_subtract_120 (by decide) ?_
        refine vx_goto (tgt := 125) IG dc_D_subtract_121 (by decide) ?_
        refine vx_ret (some (.int 1)) RG (vx_endi (by first | rfl | decide) dc_D_subtract_125) rfl ?_
        refine ⟨rfl, rfl, fn3, _, HR, fun q z => ?_, e1, e2, Or.inr ⟨rfl, ?_⟩⟩
        · rw [e_fn3, va_up_ne _ _ z]; exact f1 q z
        · rw [e3, e4, show (d (place + i) + 18446744073709551616 - cr) % 4294967296 = d (place + i) + 4294967296 - cr by omega, bp_succ, Nat.mul_comm (4294967296 ^ i) 4294967296]
          have h1 : (d (place + i) + 4294967296 - cr) * 4294967296 ^ i + cr * 4294967296 ^ i = (d (place + i) + 4294967296) * 4294967296 ^ i := by
            rw [← Nat.add_mul]; congr 1; omega
          rw [Nat.add_mul (d (place + i))] at h1
          omega
    | succ m ih =>
      intro i him h fn2 c cr hcr f1 f2 f3 f4 HR
      have hsi := hs i (by omega)
      have hci := f2 (place + i) (by omega)
      have hdi := f3 (place + i) (Or.inr (Nat.le_refl _))
      have hd0 : d (place + i) < 4294967296 := (hd (place + i) (by omega)).1
      have htb : f * s i + 0 + cr < 4294967296 * 4294967296 := am_bound hf hsi.1 (by decide) hcr
      have htb2 : f * s i ≤ 4294967295 * 4294967295 := Nat.mul_le_mul (by omega) (by omega)
      refine vx_iload IG dc_D_subtract_24 0 rfl ?_
      refine vx_iload_n IG dc_D_subtract_26 rfl 6 rfl ?_
      refine vx_icmp_ge (tgt := 90) IG dc_D_subtract_27 (by decide) (fun c_ => absurd c_ (nI_ge (by omega) (by omega))) (fun _ => ?_)
      refine vx_lload_n IG dc_D_subtract_30 rfl 7 rfl ?_
      refine vx_aload IG dc_D_subtract_31 2 rfl ?_
      refine vx_iload IG dc_D_subtract_33 0 rfl ?_
      refine wr_ald IG HR hsc ht i rfl (by omega) dc_D_subtract_35 ?_
      refine vx_topl (y := lN (s i)) (by rw [f1 sc hne]; exact hsi.2) ?_
      refine vx_lmul IG dc_D_subtract_36 ?_
      refine vx_topl (y := lN (f * s i)) (lN_mul _ _) ?_
      refine vx_lload IG dc_D_subtract_37 1 rfl ?_
      refine vx_ladd IG dc_D_subtract_39 ?_
      refine vx_topl (y := lN (f * s i + cr)) (lN_add _ _) ?_
      refine vx_lstore (lv' := [(10, .long (lN (f * s i + cr))), (9, .int (nI i)), (7, .long (lN cr)), (6, .ref (ar sc)), (5, .ref (ar rs)), (0, .ref dv), (1, .int (nI place)), (2, .int (nI n)), (3, .long (lN f))]) IG dc_D_subtract_40 (by decide) rfl ?_
      refine vx_aload IG dc_D_subtract_42 4 rfl ?_
      refine vx_iload_n IG dc_D_subtract_44 rfl 6 rfl ?_
      refine vx_iload IG dc_D_subtract_45 1 rfl ?_
      refine vx_iadd IG dc_D_subtract_47 ?_
      refine vx_topi (y := nI (place + i)) (nI_add _ _) ?_
      refine wr_ald IG HR hrs ht (place + i) rfl (by omega) dc_D_subtract_48 ?_
      refine vx_topl (y := lN (d (place + i))) (by rw [hci.2, hdi]) ?_
      refine vx_lload IG dc_D_subtract_49 0 rfl ?_
      refine vx_ldc2 (v := 4294967295) IG wK_D_83 dc_D_subtract_51 ?_
      refine vx_land IG dc_D_subtract_54 ?_
      refine vx_topl (y := lN ((f * s i + cr) % 4294967296)) (ln_mask _) ?_
      refine vx_lsub IG dc_D_subtract_55 ?_
      refine vx_topl (y := lN (d (place + i) + 18446744073709551616 - (f * s i + cr) % 4294967296)) (ln_sub1 (by omega)) ?_
      refine vx_lstore (lv' := [(12, .long (lN (d (place + i) + 18446744073709551616 - (f * s i + cr) % 4294967296))), (10, .long (lN (f * s i + cr))), (9, .int (nI i)), (7, .long (lN cr)), (6, .ref (ar sc)), (5, .ref (ar rs)), (0, .ref dv), (1, .int (nI place)), (2, .int (nI n)), (3, .long (lN f))]) IG dc_D_subtract_56 (by decide) rfl ?_
      refine vx_aload IG dc_D_subtract_58 5 rfl ?_
      refine vx_iload_n IG dc_D_subtract_60 rfl 7 rfl ?_
      refine vx_iload IG dc_D_subtract_61 2 rfl ?_
      refine vx_iadd IG dc_D_subtract_63 ?_
      refine vx_topi (y := nI (place + i)) (nI_add _ _) ?_
      refine vx_lload IG dc_D_subtract_64 0 rfl ?_
      refine vx_ldc2 (v := 4294967295) IG wK_D_83 dc_D_subtract_66 ?_
      refine vx_land IG dc_D_subtract_69 ?_
      refine vx_topl (y := lN ((d (place + i) + 18446744073709551616 - (f * s i + cr) % 4294967296) % 4294967296)) (ln_mask _) ?_
      refine wr_ast IG HR hrs ht (place + i) rfl (by omega) dc_D_subtract_70 (fun h HR => ?_)
      obtain ⟨fn3, e_fn3⟩ : ∃ z, z = va_up fn2 rs (vp_updL (fn2 rs) (place + i) (lN ((d (place + i) + 18446744073709551616 - (f * s i + cr) % 4294967296) % 4294967296))) := ⟨_, rfl⟩
      rw [← e_fn3] at HR
      refine vx_lload IG dc_D_subtract_71 1 rfl ?_
      refine vx_bipush (v := 32) IG dc_D_subtract_73 (by decide) ?_
      refine vx_lushr (v := lN ((f * s i + cr) / 4294967296)) IG dc_D_subtract_75 (ln_shr32 (by omega)) ?_
      refine vx_lload IG dc_D_subtract_76 0 rfl ?_
      refine vx_bipush (v := 63) IG dc_D_subtract_78 (by decide) ?_
      refine vx_lushr (v := lN (if d (place + i) < (f * s i + cr) % 4294967296 then 1 else 0)) IG dc_D_subtract_80 (ln_bor1 hd0 (by omega)) ?_
      refine vx_ladd IG dc_D_subtract_81 ?_
      refine vx_topl (y := lN ((f * s i + cr) / 4294967296 + (if d (place + i) < (f * s i + cr) % 4294967296 then 1 else 0))) (lN_add _ _) ?_
      refine vx_lstore (lv' := [(7, .long (lN ((f * s i + cr) / 4294967296 + (if d (place + i) < (f * s i + cr) % 4294967296 then 1 else 0)))), (12, .long (lN (d (place + i) + 18446744073709551616 - (f * s i + cr) % 4294967296))), (10, .long (lN (f * s i + cr))), (9, .int (nI i)), (6, .ref (ar sc)), (5, .ref (ar rs)), (0, .ref dv), (1, .int (nI place)), (2, .int (nI n)), (3, .long (lN f))]) IG dc_D_subtract_82 (by decide) rfl ?_
      refine vx_iinc (q := 3) (v := nI (i + 1)) (lv' := [(9, .int (nI (i + 1))), (7, .long (lN ((f * s i + cr) / 4294967296 + (if d (place + i) < (f * s i + cr) % 4294967296 then 1 else 0)))), (12, .long (lN (d (place + i) + 18446744073709551616 - (f * s i + cr) % 4294967296))), (10, .long (lN (f * s i + cr))), (6, .ref (ar sc)), (5, .ref (ar rs)), (0, .ref dv), (1, .int (nI place)), (2, .int (nI n)), (3, .long (lN f))]) IG dc_D_subtract_84 rfl (nI_1 i) (by decide) rfl ?_
      refine vx_goto (tgt := 24) IG dc_D_subtract_87 (by decide) ?_
      refine vx_same (lv' := [(9, .int (nI (i + 1))), (7, .long (lN ((f * s i + cr) / 4294967296 + (if d (place + i) < (f * s i + cr) % 4294967296 then 1 else 0)))), (6, .ref (ar sc)), (5, .ref (ar rs)), (0, .ref dv), (1, .int (nI place)), (2, .int (nI n)), (3, .long (lN f))]) IG [0, 1, 4, 5, 6, 7, 8, 9] rfl ?_
      refine ih (i + 1) (by omega) h fn3 (fun j => if j = place + i then (d (place + i) + 18446744073709551616 - (f * s i + cr) % 4294967296) % 4294967296 else c j) _ (by split <;> omega) (fun q z => ?_) (fun j hj => ?_) (fun j hj => ?_) ?_ HR
      · rw [e_fn3, va_up_ne _ _ z]; exact f1 q z
      · by_cases z : j = place + i
        · simp only [z, if_true]
          exact ⟨by omega, by rw [e_fn3, va_up_self, pk_uLs]⟩
        · simp only [z, if_false]
          exact ⟨(f2 j hj).1, by rw [e_fn3, va_up_self, pk_uLn z]; exact (f2 j hj).2⟩
      · show (if j = place + i then _ else c j) = d j
        rw [if_neg (by omega)]; exact f3 j (by omega)
      · refine sb_step (cr := cr) ?_ rfl hd0 ?_
        · rw [vl_congr (e := fun j => c (place + j)) (fun j hj => by show (if _ then _ else _) = _; rw [if_neg (by omega)])]
          exact f4
        · show (if place + i = place + i then _ else _) = _
          rw [if_pos rfl]
  refine vx_aload_n IG dc_D_subtract_0 rfl 0 rfl ?_
  refine vx_get IG (rw_r HR hdv) rfl 1 (by decide) inD wF_D_18 rfl rfl dc_D_subtract_1 ?_
  refine wr_dig IG HR hrs wF_D_58 dc_D_subtract_4 ?_
  refine vx_astore (lv' := [(5, .ref (ar rs)), (0, .ref dv), (1, .int (nI place)), (2, .int (nI n)), (3, .long (lN f))]) IG dc_D_subtract_7 (by decide) rfl ?_
  refine vx_aload_n IG dc_D_subtract_9 rfl 1 rfl ?_
  refine vx_get IG (rw_r HR hdv) rfl 2 (by decide) inD wF_D_21 rfl rfl dc_D_subtract_10 ?_
  refine wr_dig IG HR hsc wF_D_58 dc_D_subtract_13 ?_
  refine vx_astore (lv' := [(6, .ref (ar sc)), (5, .ref (ar rs)), (0, .ref dv), (1, .int (nI place)), (2, .int (nI n)), (3, .long (lN f))]) IG dc_D_subtract_16 (by decide) rfl ?_
  refine vx_lconst (v := 0) IG dc_D_subtract_18 (by decide) ?_
  refine vx_lstore (lv' := [(7, .long 0), (6, .ref (ar sc)), (5, .ref (ar rs)), (0, .ref dv), (1, .int (nI place)), (2, .int (nI n)), (3, .long (lN f))]) IG dc_D_subtract_19 (by decide) rfl ?_
  refine vx_iconst (v := 0) IG dc_D_subtract_21 (by decide) ?_
  refine vx_istore (lv' := [(9, .int 0), (7, .long 0), (6, .ref (ar sc)), (5, .ref (ar rs)), (0, .ref dv), (1, .int (nI place)), (2, .int (nI n)), (3, .long (lN f))]) IG dc_D_subtract_22 (by decide) rfl ?_
  exact loop n 0 (by omega) h fn d 0 (by decide) (fun _ _ => rfl) hd (fun _ _ => rfl) (by simp [vl]) HR
set_option maxRecDepth 100000 in
set_option maxHeartbeats 4000000 in
/-- addBack(place, n): the divisor is added to the rest at this place -/
theorem cD_addBack (HR : rw_at 2 cJ L r ar cp cn fn h) (hdv : r dv = some (.inr (0, [.ref qo, .ref rs, .ref sc]))) (hrs : rs ∈ L) (hsc : sc ∈ L) (hne : sc ≠ rs) (ht : tys[0]? = some (cJ, .long)) {place n tot : Nat} (d : Nat → Nat) (hd : ∀ i, i < tot → d i < 4294967296 ∧ fn rs i = lN (d i)) (htot : tot ≤ cp rs) (hpl : place + n < tot) (s : Nat → Nat) (hs : ∀ i, i < n → s i < 4294967296 ∧ fn sc i = lN (s i)) (hn : n ≤ cp sc) : vx_M l D vcl tys my_D_addBack lw_gd (rm_ 0 0 0 0) [.ref dv, .int (nI place), .int (nI n)] h (fun v h' k m => v = none ∧ k = 0 ∧ m = 0 ∧ ∃ (fn' : Nat → Nat → Int64) (e : Nat → Nat), rw_at 2 cJ L r ar cp cn fn' h' ∧ (∀ q, q ≠ rs → fn' q = fn q) ∧ (∀ i, i < tot → e i < 4294967296 ∧ fn' rs i = lN (e i)) ∧ (∀ j, j < place ∨ place + (n + 1) ≤ j → e j = d j) ∧ vl 4294967296 (fun j => e (place + j)) (n + 1) = (vl 4294967296 (fun j => d (place + j)) (n + 1) + vl 4294967296 s n) % 4294967296 ^ (n + 1)) := by
  have hc := rw_cap HR hrs
  have hc2 := rw_cap HR hsc
  refine vx_M.ofV (cc := bc_D_addBack) (maxL := 10) (ret := none) (own := rD) false rfl (by decide +kernel) wC_D_addBack (fun q => by cases q) (Nat.le_of_ble_eq_true rfl) (fun A H0 G IG RG => ?_)
  show vx_V _ _ _ _ _ _ _ _ _ 0 [(0, .ref dv), (1, .int (nI place)), (2, .int (nI n))] []
  have loop : ∀ (m i : Nat), i + m = n → ∀ (h : vx_h) (fn2 : Nat → Nat → Int64) (c : Nat → Nat) (cr : Nat), cr ≤ 1 → (∀ q, q ≠ rs → fn2 q = fn q) → (∀ j, j < tot → c j < 4294967296 ∧ fn2 rs j = lN (c j)) → (∀ j, j < place ∨ place + i ≤ j → c j = d j) → vl 4294967296 (fun j => c (place + j)) i + cr * 4294967296 ^ i = 1 * vl 4294967296 s i + vl 4294967296 (fun j => d (place + j)) i → rw_at 2 cJ L r ar cp cn fn2 h → vx_V D vcl A H0 10 G h 0 0 23 [(7, .int (nI i)), (5, .long (lN cr)), (4, .ref (ar sc)), (3, .ref (ar rs)), (0, .ref dv), (1, .int (nI place)), (2, .int (nI n))] [] := by
    intro m
    induction m with
    | zero =>
      intro i him h fn2 c cr hcr f1 f2 f3 f4 HR
      obtain rfl : i = n := by omega
      have hdn := f2 (place + i) (by omega)
      have hdn2 := f3 (place + i) (Or.inr (Nat.le_refl _))
      have hd0 : d (place + i) < 4294967296 := (hd (place + i) (by omega)).1
      refine vx_iload IG dc_D_addBack_23 0 rfl ?_
      refine vx_iload_n IG dc_D_addBack_25 rfl 6 rfl ?_
      refine vx_icmp_ge (tgt := 71) IG dc_D_addBack_26 (by decide) (fun _ => ?_) (fun c_ => absurd (nI_le (Nat.le_refl _) (by omega)) c_)
      refine vx_aload_n IG dc_D_addBack_71 rfl 3 rfl ?_
      refine vx_iload_n IG dc_D_addBack_72 rfl 5 rfl ?_
      refine vx_iload_n IG dc_D_addBack_73 rfl 6 rfl ?_
      refine vx_iadd IG dc_D_addBack_74 ?_
      refine vx_topi (y := nI (place + i)) (nI_add _ _) ?_
      refine vx_aload_n IG dc_D_addBack_75 rfl 3 rfl ?_
      refine vx_iload_n IG dc_D_addBack_76 rfl 5 rfl ?_
      refine vx_iload_n IG dc_D_addBack_77 rfl 6 rfl ?_
      refine vx_iadd IG dc_D_addBack_78 ?_
      refine vx_topi (y := nI (place + i)) (nI_add _ _) ?_
      refine wr_ald IG HR hrs ht (place + i) rfl (by omega) dc_D_addBack_79 ?_
      refine vx_topl (y := lN (d (place + i))) (by rw [hdn.2, hdn2]) ?_
      refine vx_lload IG dc_D_addBack_80 1 rfl ?_
      refine vx_ladd IG dc_D_addBack_82 ?_
      refine vx_topl (y := lN (d (place + i) + cr)) (lN_add _ _) ?_
      refine vx_ldc2 (v := 4294967295) IG wK_D_83 dc_D_addBack_83 ?_
      refine vx_land IG dc_D_addBack_86 ?_
      refine vx_topl (y := lN ((d (place + i) + cr) % 4294967296)) (ln_mask _) ?_
      refine wr_ast IG HR hrs ht (place + i) rfl (by omega) dc_D_addBack_87 (fun h HR => ?_)
      obtain ⟨fn3, e_fn3⟩ : ∃ z, z = va_up fn2 rs (vp_updL (fn2 rs) (place + i) (lN ((d (place + i) + cr) % 4294967296))) := ⟨_, rfl⟩
      rw [← e_fn3] at HR
      refine vx_ret none RG (vx_endv dc_D_addBack_88) rfl ?_
      refine ⟨rfl, rfl, rfl, fn3, (fun j => if j = place + i then (d (place + i) + cr) % 4294967296 else c j), HR, fun q z => ?_, fun j hj => ?_, fun j hj => ?_, ?_⟩
      · rw [e_fn3, va_up_ne _ _ z]; exact f1 q z
      · by_cases z : j = place + i
        · simp only [z, if_true]
          exact ⟨by omega, by rw [e_fn3, va_up_self, pk_uLs]⟩
        · simp only [z, if_false]
          exact ⟨(f2 j hj).1, by rw [e_fn3, va_up_self, pk_uLn z]; exact (f2 j hj).2⟩
      · show (if j = place + i then _ else c j) = d j
        rw [if_neg (by omega)]; exact f3 j (by omega)
      · have hlt : vl 4294967296 (fun j => c (place + j)) i < 4294967296 ^ i := vl_lt bB1 (fun j hj => (f2 (place + j) (by omega)).1)
        rw [vl_succ, vl_succ]
        show vl 4294967296 (fun j => if place + j = place + i then _ else c (place + j)) i + (if place + i = place + i then _ else _) * _ = _
        rw [if_pos rfl, vl_congr (e := fun j => c (place + j)) (fun j hj => by show (if _ then _ else _) = _; rw [if_neg (by omega)])]
        have e5 : vl 4294967296 (fun j => d (place + j)) i + d (place + i) * 4294967296 ^ i + vl 4294967296 s i = vl 4294967296 (fun j => c (place + j)) i + 4294967296 ^ i * (d (place + i) + cr) := by
          rw [Nat.mul_add, Nat.mul_comm _ (d (place + i)), Nat.mul_comm _ cr]
          omega
        show _ = (vl 4294967296 (fun j => d (place + j)) i + d (place + i) * 4294967296 ^ i + vl 4294967296 s i) % _
        rw [e5, bp_succ, Nat.mod_mul, Nat.add_mul_mod_self_left, Nat.mod_eq_of_lt hlt, Nat.add_mul_div_left _ _ (bp_pos bB1 i), Nat.div_eq_of_lt hlt, Nat.zero_add, Nat.mul_comm]
    | succ m ih =>
      intro i him h fn2 c cr hcr f1 f2 f3 f4 HR
      have hsi := hs i (by omega)
      have hci := f2 (place + i) (by omega)
      have hdi := f3 (place + i) (Or.inr (Nat.le_refl _))
      refine vx_iload IG dc_D_addBack_23 0 rfl ?_
      refine vx_iload_n IG dc_D_addBack_25 rfl 6 rfl ?_
      refine vx_icmp_ge (tgt := 71) IG dc_D_addBack_26 (by decide) (fun c_ => absurd c_ (nI_ge (by omega) (by omega))) (fun _ => ?_)
      refine vx_aload_n IG dc_D_addBack_29 rfl 3 rfl ?_
      refine vx_iload_n IG dc_D_addBack_30 rfl 5 rfl ?_
      refine vx_iload IG dc_D_addBack_31 0 rfl ?_
      refine vx_iadd IG dc_D_addBack_33 ?_
      refine vx_topi (y := nI (place + i)) (nI_add _ _) ?_
      refine wr_ald IG HR hrs ht (place + i) rfl (by omega) dc_D_addBack_34 ?_
      refine vx_topl (y := lN (c (place + i))) hci.2 ?_
      refine vx_aload IG dc_D_addBack_35 2 rfl ?_
      refine vx_iload IG dc_D_addBack_37 0 rfl ?_
      refine wr_ald IG HR hsc ht i rfl (by omega) dc_D_addBack_39 ?_
      refine vx_topl (y := lN (s i)) (by rw [f1 sc hne]; exact hsi.2) ?_
      refine vx_ladd IG dc_D_addBack_40 ?_
      refine vx_topl (y := lN (c (place + i) + s i)) (lN_add _ _) ?_
      refine vx_lload IG dc_D_addBack_41 1 rfl ?_
      refine vx_ladd IG dc_D_addBack_43 ?_
      refine vx_topl (y := lN (c (place + i) + s i + cr)) (lN_add _ _) ?_
      refine vx_lstore (lv' := [(8, .long (lN (c (place + i) + s i + cr))), (7, .int (nI i)), (5, .long (lN cr)), (4, .ref (ar sc)), (3, .ref (ar rs)), (0, .ref dv), (1, .int (nI place)), (2, .int (nI n))]) IG dc_D_addBack_44 (by decide) rfl ?_
      refine vx_aload_n IG dc_D_addBack_46 rfl 4 rfl ?_
      refine vx_iload_n IG dc_D_addBack_47 rfl 6 rfl ?_
      refine vx_iload IG dc_D_addBack_48 1 rfl ?_
      refine vx_iadd IG dc_D_addBack_50 ?_
      refine vx_topi (y := nI (place + i)) (nI_add _ _) ?_
      refine vx_lload IG dc_D_addBack_51 0 rfl ?_
      refine vx_ldc2 (v := 4294967295) IG wK_D_83 dc_D_addBack_53 ?_
      refine vx_land IG dc_D_addBack_56 ?_
      refine vx_topl (y := lN ((c (place + i) + s i + cr) % 4294967296)) (ln_mask _) ?_
      refine wr_ast IG HR hrs ht (place + i) rfl (by omega) dc_D_addBack_57 (fun h HR => ?_)
      obtain ⟨fn3, e_fn3⟩ : ∃ z, z = va_up fn2 rs (vp_updL (fn2 rs) (place + i) (lN ((c (place + i) + s i + cr) % 4294967296))) := ⟨_, rfl⟩
      rw [← e_fn3] at HR
      refine vx_lload IG dc_D_addBack_58 0 rfl ?_
      refine vx_bipush (v := 32) IG dc_D_addBack_60 (by decide) ?_
      refine vx_lushr (v := lN ((c (place + i) + s i + cr) / 4294967296)) IG dc_D_addBack_62 (ln_shr32 (by omega)) ?_
      refine vx_lstore (lv' := [(5, .long (lN ((c (place + i) + s i + cr) / 4294967296))), (8, .long (lN (c (place + i) + s i + cr))), (7, .int (nI i)), (4, .ref (ar sc)), (3, .ref (ar rs)), (0, .ref dv), (1, .int (nI place)), (2, .int (nI n))]) IG dc_D_addBack_63 (by decide) rfl ?_
      refine vx_iinc (q := 2) (v := nI (i + 1)) (lv' := [(7, .int (nI (i + 1))), (5, .long (lN ((c (place + i) + s i + cr) / 4294967296))), (8, .long (lN (c (place + i) + s i + cr))), (4, .ref (ar sc)), (3, .ref (ar rs)), (0, .ref dv), (1, .int (nI place)), (2, .int (nI n))]) IG dc_D_addBack_65 rfl (nI_1 i) (by decide) rfl ?_
      refine vx_goto (tgt := 23) IG dc_D_addBack_68 (by decide) ?_
      refine vx_same (lv' := [(7, .int (nI (i + 1))), (5, .long (lN ((c (place + i) + s i + cr) / 4294967296))), (4, .ref (ar sc)), (3, .ref (ar rs)), (0, .ref dv), (1, .int (nI place)), (2, .int (nI n))]) IG [0, 1, 3, 4, 5, 6, 7] rfl ?_
      refine ih (i + 1) (by omega) h fn3 (fun j => if j = place + i then (c (place + i) + s i + cr) % 4294967296 else c j) _ (by omega) (fun q z => ?_) (fun j hj => ?_) (fun j hj => ?_) ?_ HR
      · rw [e_fn3, va_up_ne _ _ z]; exact f1 q z
      · by_cases z : j = place + i
        · simp only [z, if_true]
          exact ⟨by omega, by rw [e_fn3, va_up_self, pk_uLs]⟩
        · simp only [z, if_false]
          exact ⟨(f2 j hj).1, by rw [e_fn3, va_up_self, pk_uLn z]; exact (f2 j hj).2⟩
      · show (if j = place + i then _ else c j) = d j
        rw [if_neg (by omega)]; exact f3 j (by omega)
      · refine am_step 4294967296 (cr := cr) ?_ (by rw [hdi]; omega) ?_
        · rw [vl_congr (e := fun j => c (place + j)) (fun j hj => by show (if _ then _ else _) = _; rw [if_neg (by omega)])]
          exact f4
        · show (if place + i = place + i then _ else _) = _
          rw [if_pos rfl]
  refine vx_aload_n IG dc_D_addBack_0 rfl 0 rfl ?_
  refine vx_get IG (rw_r HR hdv) rfl 1 (by decide) inD wF_D_18 rfl rfl dc_D_addBack_1 ?_
  refine wr_dig IG HR hrs wF_D_58 dc_D_addBack_4 ?_
  refine vx_astore_n (lv' := [(3, .ref (ar rs)), (0, .ref dv), (1, .int (nI place)), (2, .int (nI n))]) IG dc_D_addBack_7 rfl (by decide) rfl ?_
  refine vx_aload_n IG dc_D_addBack_8 rfl 1 rfl ?_
  refine vx_get IG (rw_r HR hdv) rfl 2 (by decide) inD wF_D_21 rfl rfl dc_D_addBack_9 ?_
  refine wr_dig IG HR hsc wF_D_58 dc_D_addBack_12 ?_
  refine vx_astore (lv' := [(4, .ref (ar sc)), (3, .ref (ar rs)), (0, .ref dv), (1, .int (nI place)), (2, .int (nI n))]) IG dc_D_addBack_15 (by decide) rfl ?_
  refine vx_lconst (v := 0) IG dc_D_addBack_17 (by decide) ?_
  refine vx_lstore (lv' := [(5, .long 0), (4, .ref (ar sc)), (3, .ref (ar rs)), (0, .ref dv), (1, .int (nI place)), (2, .int (nI n))]) IG dc_D_addBack_18 (by decide) rfl ?_
  refine vx_iconst (v := 0) IG dc_D_addBack_20 (by decide) ?_
  refine vx_istore (lv' := [(7, .int 0), (5, .long 0), (4, .ref (ar sc)), (3, .ref (ar rs)), (0, .ref dv), (1, .int (nI place)), (2, .int (nI n))]) IG dc_D_addBack_21 (by decide) rfl ?_
  exact loop n 0 (by omega) h fn d 0 (by decide) (fun _ _ => rfl) hd (fun _ _ => rfl) (by simp [vl]) HR
end
