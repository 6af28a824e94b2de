/-! Euclid: abs, max, turn -/
theorem vx_up_up {h : vx_h} {a : Nat} {e e' : va_E} : vx_up (vx_up h a e) a e' = vx_up h a e' := by
  funext b
  unfold vx_up
  split <;> rfl
/-- the object of Euclid -/
abbrev eOb (ex ef ey eg es ed : Nat) (b : Int32) (xx xy yx yy : Int) : va_E := .inr (1, [.ref ex, .ref ef, .int b, .ref ey, .ref eg, .ref es, .ref ed, .long (lZ xx), .long (lZ xy), .long (lZ yx), .long (lZ yy)])
section
variable {l : Launch} {D : va_G} {tys : List (ClassId × FieldType)}
set_option maxRecDepth 100000 in
set_option maxHeartbeats 4000000 in
theorem cJM_abs (h : vx_h) {z : Int} (h1 : -9223372036854775807 ≤ z) (h2 : z < 9223372036854775808) : vx_M l D vcl tys my_JM_abs lw_gd (rm_ 0 0 0 0) [.long (lZ z)] h (fun v h' k n => v = some (.long (lZ z.natAbs)) ∧ h' = h ∧ k = 0 ∧ n = 0) := by
  refine vx_M.ofV (cc := bc_JM_abs) (maxL := 2) (ret := some .long) (own := "java/lang/Math") false rfl (by decide +kernel) wC_JM_abs (fun q => by cases q) (Nat.le_of_ble_eq_true rfl) (fun A H0 G IG RG => ?_)
  show vx_V _ _ _ _ _ _ _ _ _ 0 [(0, .long (lZ z))] []
  refine vx_lload_n IG dc_JM_abs_0 rfl 0 rfl ?_
  refine vx_lconst (v := 0) IG dc_JM_abs_1 (by decide) ?_
  refine vx_lcmp IG dc_JM_abs_2 ?_
  have hc := lZ_le (a := 0) (b := z) (by omega) (by omega) (by omega) h2
  by_cases q : 0 ≤ z
  · refine vx_if_ge (tgt := 11) IG dc_JM_abs_3 (by decide) (fun _ => ?_) (fun c_ => absurd ((lg_cmp_ge _ _).mpr (hc.mpr q)) c_)
    refine vx_lload_n IG dc_JM_abs_11 rfl 0 rfl ?_
    refine vx_ret (some (.long (lZ z))) RG (vx_endl dc_JM_abs_12) rfl ?_
    exact ⟨by rw [show (z.natAbs : Int) = z by omega], rfl, rfl, rfl⟩
  · refine vx_if_ge (tgt := 11) IG dc_JM_abs_3 (by decide) (fun c_ => absurd c_ (fun c => q (hc.mp ((lg_cmp_ge _ _).mp c)))) (fun _ => ?_)
    refine vx_lload_n IG dc_JM_abs_6 rfl 0 rfl ?_
    refine vx_lneg IG dc_JM_abs_7 ?_
    refine vx_topl (y := lZ z.natAbs) ((lZ_neg z).trans (congrArg lZ (by omega))) ?_
    refine vx_goto (tgt := 12) IG dc_JM_abs_8 (by decide) ?_
    refine vx_ret (some (.long (lZ z.natAbs))) RG (vx_endl dc_JM_abs_12) rfl ?_
    exact ⟨rfl, rfl, rfl, rfl⟩
set_option maxRecDepth 100000 in
set_option maxHeartbeats 4000000 in
theorem cJM_maxJ (h : vx_h) {a b : Int} (a1 : -9223372036854775808 ≤ a) (a2 : a < 9223372036854775808) (b1 : -9223372036854775808 ≤ b) (b2 : b < 9223372036854775808) : vx_M l D vcl tys my_JM_max_JJ lw_gd (rm_ 0 0 0 0) [.long (lZ a), .long (lZ b)] h (fun v h' k n => v = some (.long (lZ (max a b))) ∧ h' = h ∧ k = 0 ∧ n = 0) := by
  refine vx_M.ofV (cc := bc_JM_max_JJ) (maxL := 4) (ret := some .long) (own := "java/lang/Math") false rfl (by decide +kernel) wC_JM_max_JJ (fun q => by cases q) (Nat.le_of_ble_eq_true rfl) (fun A H0 G IG RG => ?_)
  show vx_V _ _ _ _ _ _ _ _ _ 0 [(0, .long (lZ a)), (2, .long (lZ b))] []
  refine vx_lload_n IG dc_JM_max_JJ_0 rfl 0 rfl ?_
  refine vx_lload_n IG dc_JM_max_JJ_1 rfl 1 rfl ?_
  refine vx_lcmp IG dc_JM_max_JJ_2 ?_
  have hc := lZ_lt a1 a2 b1 b2
  by_cases q : a < b
  · refine vx_if_lt (tgt := 10) IG dc_JM_max_JJ_3 (by decide) (fun _ => ?_) (fun c_ => absurd ((lg_cmp_lt _ _).mpr (hc.mpr q)) c_)
    refine vx_lload_n IG dc_JM_max_JJ_10 rfl 1 rfl ?_
    refine vx_ret (some (.long (lZ b))) RG (vx_endl dc_JM_max_JJ_11) rfl ?_
    exact ⟨by rw [show max a b = b by omega], rfl, rfl, rfl⟩
  · refine vx_if_lt (tgt := 10) IG dc_JM_max_JJ_3 (by decide) (fun c_ => absurd c_ (fun c => q (hc.mp ((lg_cmp_lt _ _).mp c)))) (fun _ => ?_)
    refine vx_lload_n IG dc_JM_max_JJ_6 rfl 0 rfl ?_
    refine vx_goto (tgt := 11) IG dc_JM_max_JJ_7 (by decide) ?_
    refine vx_ret (some (.long (lZ a))) RG (vx_endl dc_JM_max_JJ_11) rfl ?_
    exact ⟨by rw [show max a b = a by omega], rfl, rfl, rfl⟩
end
section
variable {l : Launch} {D : va_G} {tys : List (ClassId × FieldType)} {cJ : ClassId} {L : List Nat} {r : vx_h} {ar cp : Nat → Nat} {cn : Nat → Int32} {fn : Nat → Nat → Int64} {h : vx_h} {eu ex ef ey eg es ed : Nat} {R : Room} {own : String} {cc : ByteArray} {nL : Nat} {ct : Bool} {A : Nat → Prop} {H0 : Heap} {G : vx_G} {k n pc : Nat} {lv : List (Nat × Value)} {st : List Value} {b : Int32} {xx xy yx yy : Int}
theorem er_put (IG : vx_I l D vcl tys R own cc nL lw_gd ct A H0 G) {fs : List Value} (HR : rw_at 2 cJ L (vx_up r eu (.inr (1, fs))) ar cp cn fn h) {v : Value} {ty : FieldType} {index : Nat} (j : Nat) (hj : j < 11) (hm : Cond.fieldLink own index rE (tE j).2.1 (tE j).2.2.1 ∈ lw_gd) (hr : (tE j).1 = rE) (hfin : (tE j).2.2.2 = false) (hpd : parseFieldDescriptor (tE j).2.2.1 = some ty) (hn : narrow ty v = v) (hfit : fits ty v = true) (hl : j < fs.length) (hd : decode cc pc = .ok (.putfield index, 3)) (K : ∀ h' : vx_h, rw_at 2 cJ L (vx_up r eu (.inr (1, fs.set j v))) ar cp cn fn h' → vx_V D vcl A H0 nL G h' k n (pc + 3) lv st) : vx_V D vcl A H0 nL G h k n pc lv (v :: .ref eu :: st) := by
  refine vx_put IG (rw_r HR vx_up_s) rfl j hj inE fE tyE nmE hm hr hfin hpd hn hfit hl hd (K _ ?_)
  have := rw_rset HR (vx_up_s) (.inr (1, fs.set j v))
  rw [vx_up_up] at this
  exact this
set_option maxRecDepth 100000 in
set_option maxHeartbeats 4000000 in
/-- turn(quotient) -/
theorem cE_turn (HR : rw_at 2 cJ L (vx_up r eu (eOb ex ef ey eg es ed b xx xy yx yy)) ar cp cn fn h) {q : Int} (hq : 0 ≤ q) (hq2 : q < 9223372036854775808) (b1 : xx.natAbs ≤ 1073741823) (b2 : xy.natAbs ≤ 1073741823) (b3 : yx.natAbs ≤ 1073741823) (b4 : yy.natAbs ≤ 1073741823) : vx_M l D vcl tys my_E_turn lw_gd (rm_ 1 0 0 23) [.ref eu, .long (lZ q)] h (fun v h' k n => k = 0 ∧ n = 0 ∧ ((v = some (.int 0) ∧ h' = h) ∨ (v = some (.int 1) ∧ (xx - q * yx).natAbs ≤ 1073741823 ∧ (xy - q * yy).natAbs ≤ 1073741823 ∧ rw_at 2 cJ L (vx_up r eu (eOb ex ef ey eg es ed b yx yy (xx - q * yx) (xy - q * yy))) ar cp cn fn h'))) := by
  refine vx_M.ofV (cc := bc_E_turn) (maxL := 7) (ret := some .boolean) (own := rE) false rfl (by decide +kernel) wC_E_turn (fun q => by cases q) (Nat.le_of_ble_eq_true rfl) (fun A H0 G IG RG => ?_)
  show vx_V _ _ _ _ _ _ _ _ _ 0 [(0, .ref eu), (1, .long (lZ q))] []
  refine vx_lload_n IG dc_E_turn_0 rfl 1 rfl ?_
  refine vx_ldc2 (v := 1073741823) IG wK_E_106 dc_E_turn_1 ?_
  refine vx_lcmp IG dc_E_turn_4 ?_
  have hc := lZ_le (a := q) (b := 1073741823) (by omega) hq2 (by omega) (by omega)
  by_cases z : q ≤ 1073741823
  · refine vx_if_le (tgt := 10) IG dc_E_turn_5 (by decide) (fun _ => ?_) (fun c_ => absurd ((lg_cmp_le _ _).mpr (hc.mpr z)) c_)
    have p1 : (q * yx).natAbs ≤ 1073741823 * 1073741823 := by rw [Int.natAbs_mul]; exact Nat.mul_le_mul (by omega) b3
    have p2 : (q * yy).natAbs ≤ 1073741823 * 1073741823 := by rw [Int.natAbs_mul]; exact Nat.mul_le_mul (by omega) b4
    refine vx_aload_n IG dc_E_turn_10 rfl 0 rfl ?_
    refine vx_get IG (rw_r HR vx_up_s) rfl 7 (by decide) inE wF_E_41 rfl rfl dc_E_turn_11 ?_
    refine vx_lload_n IG dc_E_turn_14 rfl 1 rfl ?_
    refine vx_aload_n IG dc_E_turn_15 rfl 0 rfl ?_
    refine vx_get IG (rw_r HR vx_up_s) rfl 9 (by decide) inE wF_E_48 rfl rfl dc_E_turn_16 ?_
    refine vx_lmul IG dc_E_turn_19 ?_
    refine vx_topl (y := lZ (q * yx)) (lZ_mul _ _) ?_
    refine vx_lsub IG dc_E_turn_20 ?_
    refine vx_topl (y := lZ (xx - q * yx)) (lZ_sub _ _) ?_
    refine vx_lstore_n (lv' := [(3, .long (lZ (xx - q * yx))), (0, .ref eu), (1, .long (lZ q))]) IG dc_E_turn_21 rfl (by decide) rfl ?_
    refine vx_aload_n IG dc_E_turn_22 rfl 1 rfl ?_
    refine vx_get IG (rw_r HR vx_up_s) rfl 8 (by decide) inE wF_E_45 rfl rfl dc_E_turn_23 ?_
    refine vx_lload_n IG dc_E_turn_26 rfl 2 rfl ?_
    refine vx_aload_n IG dc_E_turn_27 rfl 1 rfl ?_
    refine vx_get IG (rw_r HR vx_up_s) rfl 10 (by decide) inE wF_E_51 rfl rfl dc_E_turn_28 ?_
    refine vx_lmul IG dc_E_turn_31 ?_
    refine vx_topl (y := lZ (q * yy)) (lZ_mul _ _) ?_
    refine vx_lsub IG dc_E_turn_32 ?_
    refine vx_topl (y := lZ (xy - q * yy)) (lZ_sub _ _) ?_
    refine vx_lstore (lv' := [(5, .long (lZ (xy - q * yy))), (3, .long (lZ (xx - q * yx))), (0, .ref eu), (1, .long (lZ q))]) IG dc_E_turn_33 (by decide) rfl ?_
    refine vx_lload_n IG dc_E_turn_35 rfl 1 rfl ?_
    refine vx_callS (As := [.long (lZ (xx - q * yx))]) (st := []) IG lw_good (cJM_abs _ (by omega) (by omega)) wC_JM_abs wL_E_108 wT_JM_abs wX_JM 1 (by decide +kernel) rfl ⟨Nat.le_of_ble_eq_true rfl, Nat.le_of_ble_eq_true rfl⟩ ⟨(by dsimp only [rm_]; omega), (by dsimp only [rm_]; omega)⟩ rfl (Nat.le_of_ble_eq_true rfl) dc_E_turn_36 (fun v h k1 n1 hq => ?_)
    obtain ⟨rfl, rfl, rfl, rfl⟩ := hq
    show vx_V _ _ _ _ _ _ _ _ _ 39 [(5, .long (lZ (xy - q * yy))), (3, .long (lZ (xx - q * yx))), (0, .ref eu), (1, .long (lZ q))] [.long (lZ ((xx - q * yx).natAbs : Int))]
    refine vx_lload IG dc_E_turn_39 0 rfl ?_
    refine vx_callS (As := [.long (lZ (xy - q * yy))]) (st := [.long (lZ ((xx - q * yx).natAbs : Int))]) IG lw_good (cJM_abs _ (by omega) (by omega)) wC_JM_abs wL_E_108 wT_JM_abs wX_JM 1 (by decide +kernel) rfl ⟨Nat.le_of_ble_eq_true rfl, Nat.le_of_ble_eq_true rfl⟩ ⟨(by dsimp only [rm_]; omega), (by dsimp only [rm_]; omega)⟩ rfl (Nat.le_of_ble_eq_true rfl) dc_E_turn_41 (fun v h k2 n2 hq => ?_)
    obtain ⟨rfl, rfl, rfl, rfl⟩ := hq
    show vx_V _ _ _ _ _ _ _ _ _ 44 [(5, .long (lZ (xy - q * yy))), (3, .long (lZ (xx - q * yx))), (0, .ref eu), (1, .long (lZ q))] [.long (lZ ((xy - q * yy).natAbs : Int)), .long (lZ ((xx - q * yx).natAbs : Int))]
    refine vx_callS (As := [.long (lZ ((xx - q * yx).natAbs : Int)), .long (lZ ((xy - q * yy).natAbs : Int))]) (st := []) IG lw_good (cJM_maxJ _ (by omega) (by omega) (by omega) (by omega)) wC_JM_max_JJ wL_E_112 wT_JM_max_JJ wX_JM 2 (by decide +kernel) rfl ⟨Nat.le_of_ble_eq_true rfl, Nat.le_of_ble_eq_true rfl⟩ ⟨(by dsimp only [rm_]; omega), (by dsimp only [rm_]; omega)⟩ rfl (Nat.le_of_ble_eq_true rfl) dc_E_turn_44 (fun v h k3 n3 hq => ?_)
    obtain ⟨rfl, rfl, rfl, rfl⟩ := hq
    show vx_V _ _ _ _ _ _ _ _ _ 47 [(5, .long (lZ (xy - q * yy))), (3, .long (lZ (xx - q * yx))), (0, .ref eu), (1, .long (lZ q))] [.long (lZ (max ((xx - q * yx).natAbs : Int) ((xy - q * yy).natAbs : Int)))]
    refine vx_ldc2 (v := 1073741823) IG wK_E_106 dc_E_turn_47 ?_
    refine vx_lcmp IG dc_E_turn_50 ?_
    have hc2 := lZ_le (a := max ((xx - q * yx).natAbs : Int) ((xy - q * yy).natAbs : Int)) (b := 1073741823) (by omega) (by omega) (by omega) (by omega)
    by_cases y : max ((xx - q * yx).natAbs : Int) ((xy - q * yy).natAbs : Int) ≤ 1073741823
    · refine vx_if_le (tgt := 56) IG dc_E_turn_51 (by decide) (fun _ => ?_) (fun c_ => absurd ((lg_cmp_le _ _).mpr (hc2.mpr y)) c_)
      refine vx_aload_n IG dc_E_turn_56 rfl 2 rfl ?_
      refine vx_aload_n IG dc_E_turn_57 rfl 2 rfl ?_
      refine vx_get IG (rw_r HR vx_up_s) rfl 9 (by decide) inE wF_E_48 rfl rfl dc_E_turn_58 ?_
      refine er_put IG HR 7 (by decide) wF_E_41 rfl rfl (ty := .long) (by decide +kernel) rfl rfl (Nat.le_of_ble_eq_true rfl) dc_E_turn_61 (fun h HR => ?_)
      replace HR : rw_at 2 cJ L (vx_up r eu (eOb ex ef ey eg es ed b yx xy yx yy)) ar cp cn fn h := HR
      refine vx_aload_n IG dc_E_turn_64 rfl 2 rfl ?_
      refine vx_aload_n IG dc_E_turn_65 rfl 2 rfl ?_
      refine vx_get IG (rw_r HR vx_up_s) rfl 10 (by decide) inE wF_E_51 rfl rfl dc_E_turn_66 ?_
      refine er_put IG HR 8 (by decide) wF_E_45 rfl rfl (ty := .long) (by decide +kernel) rfl rfl (Nat.le_of_ble_eq_true rfl) dc_E_turn_69 (fun h HR => ?_)
      replace HR : rw_at 2 cJ L (vx_up r eu (eOb ex ef ey eg es ed b yx yy yx yy)) ar cp cn fn h := HR
      refine vx_aload_n IG dc_E_turn_72 rfl 2 rfl ?_
      refine vx_lload_n IG dc_E_turn_73 rfl 1 rfl ?_
      refine er_put IG HR 9 (by decide) wF_E_48 rfl rfl (ty := .long) (by decide +kernel) rfl rfl (Nat.le_of_ble_eq_true rfl) dc_E_turn_74 (fun h HR => ?_)
      replace HR : rw_at 2 cJ L (vx_up r eu (eOb ex ef ey eg es ed b yx yy (xx - q * yx) yy)) ar cp cn fn h := HR
      refine vx_aload_n IG dc_E_turn_77 rfl 2 rfl ?_
      refine vx_lload IG dc_E_turn_78 0 rfl ?_
      refine er_put IG HR 10 (by decide) wF_E_51 rfl rfl (ty := .long) (by decide +kernel) rfl rfl (Nat.le_of_ble_eq_true rfl) dc_E_turn_80 (fun h HR => ?_)
      replace HR : rw_at 2 cJ L (vx_up r eu (eOb ex ef ey eg es ed b yx yy (xx - q * yx) (xy - q * yy))) ar cp cn fn h := HR
      refine vx_iconst (v := 1) IG dc_E_turn_83 (by decide) ?_
      refine vx_ret (some (.int 1)) RG (vx_endi (by first | rfl | decide) dc_E_turn_84) rfl ?_
      exact ⟨rfl, rfl, Or.inr ⟨rfl, by omega, by omega, HR⟩⟩
    · refine vx_if_le (tgt := 56) IG dc_E_turn_51 (by decide) (fun c_ => absurd c_ (fun c => y (hc2.mp ((lg_cmp_le _ _).mp c)))) (fun _ => ?_)
      refine vx_iconst (v := 0) IG dc_E_turn_54 (by decide) ?_
      refine vx_ret (some (.int 0)) RG (vx_endi (by first | rfl | decide) dc_E_turn_55) rfl ?_
      exact ⟨rfl, rfl, Or.inl ⟨rfl, rfl⟩⟩
  · refine vx_if_le (tgt := 10) IG dc_E_turn_5 (by decide) (fun c_ => absurd c_ (fun c => z (hc.mp ((lg_cmp_le _ _).mp c)))) (fun _ => ?_)
    refine vx_iconst (v := 0) IG dc_E_turn_8 (by decide) ?_
    refine vx_ret (some (.int 0)) RG (vx_endi (by first | rfl | decide) dc_E_turn_9) rfl ?_
    exact ⟨rfl, rfl, Or.inl ⟨rfl, rfl⟩⟩
end
