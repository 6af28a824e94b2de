/-! Euclid: leapRemainders, leapFactors, leap, step -/
section
variable {l : Launch} {D : va_G} {tys : List (ClassId × FieldType)} {cJ : ClassId} {L : List Nat} {r : vx_h} {h : vx_h} {eu ex ef ey eg es ed qo rs sc : Nat} {V : Nat → Nat} {C S : Nat} {bw_ : Int32} {a b c d : Int} {ar cp : Nat → Nat} {cn : Nat → Int32} {fn : Nat → Nat → Int64}
theorem wide_dg {p N n : Nat} {fn' : Nat → Nat → Int64} (hv : wv cp cn fn p N) (hlo : ∀ i, i < nd 4294967296 N → fn' p i = fn p i) (hz : ∀ i, nd 4294967296 N ≤ i → i < n → fn' p i = 0) (i : Nat) (hi : i < n) : dg 4294967296 N i < 4294967296 ∧ fn' p i = lN (dg 4294967296 N i) := by
  refine ⟨dg_lt bB1 _ _, ?_⟩
  by_cases z : i < nd 4294967296 N
  · rw [hlo i z]; exact hv.2.2 i z
  · rw [hz i (Nat.le_of_not_lt z) hi, dg_big (Nat.lt_of_lt_of_le (lt_nd bB1 _) (Nat.pow_le_pow_right (by decide) (Nat.le_of_not_lt z)))]; rfl
set_option maxRecDepth 100000 in
set_option maxHeartbeats 8000000 in
theorem cE_leapRemainders (HP : pool cJ L (vx_up r eu (eOb ex ef ey eg es ed bw_ a b c d)) V h C S) (hL : L.Nodup) (hex : ex ∈ L) (hey : ey ∈ L) (hne : ey ≠ ex) (ht : tys[0]? = some (cJ, .long)) (hle : V ey ≤ V ex) (hsz : nd 4294967296 (V ex) ≤ 4100) {i X Y : Nat} (hE : Eu (V ex) (V ey) i a b c d X Y) (g1 : a.natAbs ≤ 1073741823) (g2 : b.natAbs ≤ 1073741823) (g3 : c.natAbs ≤ 1073741823) (g4 : d.natAbs ≤ 1073741823) : vx_M l D vcl tys my_E_leapRemainders lw_gd (rm_ 4 C S 86) [.ref eu] h (pend cJ L (vx_up r eu (eOb ex ef ey eg es ed bw_ a b c d)) (va_up (va_up V ex X) ey Y) C S none) := by
  obtain ⟨ar, cp, cn, fn, HR, hV, hC, hS⟩ := HP
  have hvx := hV ex hex
  have hvy := hV ey hey
  have hnd := nd_mono bB1 hle
  obtain ⟨lin1, lin2⟩ := Eu_lin i _ _ _ _ _ _ hE
  have hXx := Eu_le hle i _ _ _ _ _ _ hE
  have hYX := Eu_ord hle i _ _ _ _ _ _ hE
  refine vx_M.ofV (cc := bc_E_leapRemainders) (maxL := 2) (ret := none) (own := rE) false rfl (by decide +kernel) wC_E_leapRemainders (fun q => by cases q) (Nat.le_of_ble_eq_true rfl) (fun A H0 G IG RG => ?_)
  show vx_V _ _ _ _ _ _ _ _ _ 0 [(0, .ref eu)] []
  refine vx_aload_n IG dc_E_leapRemainders_0 rfl 0 rfl ?_
  refine vx_get IG (rw_r HR vx_up_s) rfl 0 (by decide) inE wF_E_12 rfl rfl dc_E_leapRemainders_1 ?_
  refine wr_cnt IG HR hex wF_E_121 dc_E_leapRemainders_4 ?_
  refine vx_topi (y := nI (nd 4294967296 (V ex))) hvx.1 ?_
  refine vx_istore_n (lv' := [(1, .int (nI (nd 4294967296 (V ex)))), (0, .ref eu)]) IG dc_E_leapRemainders_7 rfl (by decide) rfl ?_
  refine vx_aload_n IG dc_E_leapRemainders_8 rfl 1 rfl ?_
  refine vx_get IG (rw_r HR vx_up_s) rfl 3 (by decide) inE wF_E_25 rfl rfl dc_E_leapRemainders_9 ?_
  refine vx_iload_n IG dc_E_leapRemainders_12 rfl 0 rfl ?_
  refine vx_callV (As := [.int (nI (nd 4294967296 (V ex)))]) (st := []) IG lw_good (cW_widen HR hL hey ht (n := nd 4294967296 (V ex)) hvy.1 hvy.2.1 hsz hC hS) (rw_obj HR hey) rfl wC_W_widen wL_E_125 wI_W_widen wS_W_widen wX_W 1 (by decide +kernel) rfl ⟨Nat.le_of_ble_eq_true rfl, Nat.le_of_ble_eq_true rfl⟩ ⟨(by dsimp only [rm_]; omega), (by dsimp only [rm_]; omega)⟩ rfl (Nat.le_of_ble_eq_true rfl) dc_E_leapRemainders_13 (fun v h k1 n1 hq => ?_)
  obtain ⟨rfl, ar1, cp1, fn1, HR1, ho, hn1, hge, hlow, hzero, hk1, hm1⟩ := hq
  have hfx : ∀ i, i < nd 4294967296 (V ex) → dg 4294967296 (V ex) i < 4294967296 ∧ fn1 ex i = lN (dg 4294967296 (V ex) i) := fun i hi => ⟨dg_lt bB1 _ _, by rw [(ho ex (Ne.symm hne)).2]; exact hvx.2.2 i hi⟩
  have hfy := wide_dg (n := nd 4294967296 (V ex)) hvy hlow hzero
  have hcx : nd 4294967296 (V ex) ≤ cp1 ex := by rw [(ho ex (Ne.symm hne)).1]; exact hvx.2.1
  show vx_V _ _ _ _ _ _ _ _ _ 16 [(1, .int (nI (nd 4294967296 (V ex)))), (0, .ref eu)] []
  refine vx_aload_n IG dc_E_leapRemainders_16 rfl 1 rfl ?_
  refine vx_get IG (rw_r HR1 vx_up_s) rfl 0 (by decide) inE wF_E_12 rfl rfl dc_E_leapRemainders_17 ?_
  refine wr_dig IG HR1 hex wF_E_129 dc_E_leapRemainders_20 ?_
  refine vx_aload_n IG dc_E_leapRemainders_23 rfl 1 rfl ?_
  refine vx_get IG (rw_r HR1 vx_up_s) rfl 3 (by decide) inE wF_E_25 rfl rfl dc_E_leapRemainders_24 ?_
  refine wr_dig IG HR1 hey wF_E_129 dc_E_leapRemainders_27 ?_
  refine vx_iload_n IG dc_E_leapRemainders_30 rfl 0 rfl ?_
  refine vx_aload_n IG dc_E_leapRemainders_31 rfl 1 rfl ?_
  refine vx_get IG (rw_r HR1 vx_up_s) rfl 7 (by decide) inE wF_E_41 rfl rfl dc_E_leapRemainders_32 ?_
  refine vx_aload_n IG dc_E_leapRemainders_35 rfl 1 rfl ?_
  refine vx_get IG (rw_r HR1 vx_up_s) rfl 8 (by decide) inE wF_E_45 rfl rfl dc_E_leapRemainders_36 ?_
  refine vx_aload_n IG dc_E_leapRemainders_39 rfl 1 rfl ?_
  refine vx_get IG (rw_r HR1 vx_up_s) rfl 9 (by decide) inE wF_E_48 rfl rfl dc_E_leapRemainders_40 ?_
  refine vx_aload_n IG dc_E_leapRemainders_43 rfl 1 rfl ?_
  refine vx_get IG (rw_r HR1 vx_up_s) rfl 10 (by decide) inE wF_E_51 rfl rfl dc_E_leapRemainders_44 ?_
  refine vx_callS (As := [.ref (ar1 ex), .ref (ar1 ey), .int (nI (nd 4294967296 (V ex))), .long (lZ a), .long (lZ b), .long (lZ c), .long (lZ d)]) (st := []) IG lw_good (cE_multiply HR1 hex hey hne ht (n := nd 4294967296 (V ex)) (dg 4294967296 (V ex)) (dg 4294967296 (V ey)) hfx hfy hcx hn1 g1 g2 g3 g4) wC_E_multiply wL_E_133 wT_E_multiply wX_E 7 (by decide +kernel) rfl ⟨Nat.le_of_ble_eq_true rfl, Nat.le_of_ble_eq_true rfl⟩ ⟨(by dsimp only [rm_]; omega), (by dsimp only [rm_]; omega)⟩ rfl (Nat.le_of_ble_eq_true rfl) dc_E_leapRemainders_47 (fun v h k2 n2 hq => ?_)
  obtain ⟨rfl, rfl, rfl, fn2, e1, e2, cu, cv, HR2, f1, f2, f3, q1, q2⟩ := hq
  rw [vl_nd bB1, vl_nd_le bB1 hnd, ← lin1] at q1
  rw [vl_nd bB1, vl_nd_le bB1 hnd, ← lin2] at q2
  have hlt := lt_nd bB1 (V ex)
  have r1 := mu_end q1 (vl_lt bB1 (fun j hj => (f2 j hj).1)) (by omega)
  have r2 := mu_end q2 (vl_lt bB1 (fun j hj => (f3 j hj).1)) (by omega)
  show vx_V _ _ _ _ _ _ _ _ _ 50 [(1, .int (nI (nd 4294967296 (V ex)))), (0, .ref eu)] []
  refine vx_aload_n IG dc_E_leapRemainders_50 rfl 1 rfl ?_
  refine vx_get IG (rw_r HR2 vx_up_s) rfl 0 (by decide) inE wF_E_12 rfl rfl dc_E_leapRemainders_51 ?_
  refine vx_iload_n IG dc_E_leapRemainders_54 rfl 0 rfl ?_
  refine vx_callV (As := [.int (nI (nd 4294967296 (V ex)))]) (st := []) IG lw_good (cW_trim HR2 hex ht (n := nd 4294967296 (V ex)) hcx e1 f2) (rw_obj HR2 hex) rfl wC_W_trim wL_E_137 wI_W_trim wS_W_trim wX_W 1 (by decide +kernel) rfl ⟨Nat.le_of_ble_eq_true rfl, Nat.le_of_ble_eq_true rfl⟩ ⟨(by dsimp only [rm_]; omega), (by dsimp only [rm_]; omega)⟩ rfl (Nat.le_of_ble_eq_true rfl) dc_E_leapRemainders_55 (fun v h k3 n3 hq => ?_)
  obtain ⟨rfl, rfl, rfl, HR3⟩ := hq
  show vx_V _ _ _ _ _ _ _ _ _ 58 [(1, .int (nI (nd 4294967296 (V ex)))), (0, .ref eu)] []
  refine vx_aload_n IG dc_E_leapRemainders_58 rfl 1 rfl ?_
  refine vx_get IG (rw_r HR3 vx_up_s) rfl 3 (by decide) inE wF_E_25 rfl rfl dc_E_leapRemainders_59 ?_
  refine vx_iload_n IG dc_E_leapRemainders_62 rfl 0 rfl ?_
  refine vx_callV (As := [.int (nI (nd 4294967296 (V ex)))]) (st := []) IG lw_good (cW_trim HR3 hey ht (n := nd 4294967296 (V ex)) hn1 e2 f3) (rw_obj HR3 hey) rfl wC_W_trim wL_E_137 wI_W_trim wS_W_trim wX_W 1 (by decide +kernel) rfl ⟨Nat.le_of_ble_eq_true rfl, Nat.le_of_ble_eq_true rfl⟩ ⟨(by dsimp only [rm_]; omega), (by dsimp only [rm_]; omega)⟩ rfl (Nat.le_of_ble_eq_true rfl) dc_E_leapRemainders_63 (fun v h k4 n4 hq => ?_)
  obtain ⟨rfl, rfl, rfl, HR4⟩ := hq
  show vx_V _ _ _ _ _ _ _ _ _ 66 [(1, .int (nI (nd 4294967296 (V ex)))), (0, .ref eu)] []
  refine vx_ret none RG (vx_endv dc_E_leapRemainders_66) rfl ?_
  rw [r1, r2] at HR4
  refine ⟨rfl, pc_ cp1 L, ph cp1 L, ⟨ar1, cp1, _, fn2, HR4, fun q hq => ?_, Nat.le_refl _, Nat.le_refl _⟩, by omega, by omega⟩
  by_cases z : q = ey
  · subst z
    rw [va_up_self, ← r2]
    exact wv_trim f3 hn1 (by rw [va_up_self, r2])
  · rw [va_up_ne _ _ z]
    by_cases z2 : q = ex
    · subst z2
      rw [va_up_self, ← r1]
      exact wv_trim f2 hcx (by rw [va_up_ne _ _ z, va_up_self])
    · rw [va_up_ne _ _ z2]
      exact wv_same (hV q hq) (ho q z).1 (by rw [va_up_ne _ _ z, va_up_ne _ _ z2]) (by rw [f1 q z2 z, (ho q z).2])
theorem fac_lt {m n x y N : Nat} (hm : m ≤ 1073741823) (hn : n ≤ 1073741823) (hx : x < 4294967296 ^ N) (hy : y < 4294967296 ^ N) : m * x + n * y < 4294967296 ^ (N + 1) := by
  have h1 : m * x ≤ 1073741823 * 4294967296 ^ N := Nat.mul_le_mul hm (Nat.le_of_lt hx)
  have h2 : n * y ≤ 1073741823 * 4294967296 ^ N := Nat.mul_le_mul hn (Nat.le_of_lt hy)
  have h3 : 0 < 4294967296 ^ N := Nat.pow_pos (by decide)
  rw [Nat.pow_succ]
  omega
theorem nI_max2 {x y : Nat} (hx : x < 2 ^ 31) (hy : y < 2 ^ 31) : (if nI x < nI y then nI y else nI x) = nI (max x y) := nI_max hx hy
set_option maxRecDepth 100000 in
set_option maxHeartbeats 8000000 in
theorem cE_leapFactors (HP : pool cJ L (vx_up r eu (eOb ex ef ey eg es ed bw_ a b c d)) V h C S) (hL : L.Nodup) (hef : ef ∈ L) (heg : eg ∈ L) (hne : eg ≠ ef) (ht : tys[0]? = some (cJ, .long)) (hs1 : nd 4294967296 (V ef) ≤ 4099) (hs2 : nd 4294967296 (V eg) ≤ 4099) (g1 : a.natAbs ≤ 1073741823) (g2 : b.natAbs ≤ 1073741823) (g3 : c.natAbs ≤ 1073741823) (g4 : d.natAbs ≤ 1073741823) : vx_M l D vcl tys my_E_leapFactors lw_gd (rm_ 4 C S 86) [.ref eu] h (pend cJ L (vx_up r eu (eOb ex ef ey eg es ed bw_ a b c d)) (va_up (va_up V ef (a.natAbs * V ef + b.natAbs * V eg)) eg (c.natAbs * V ef + d.natAbs * V eg)) C S none) := by
  obtain ⟨ar, cp, cn, fn, HR, hV, hC, hS⟩ := HP
  have hvx := hV ef hef
  have hvy := hV eg heg
  refine vx_M.ofV (cc := bc_E_leapFactors) (maxL := 2) (ret := none) (own := rE) false rfl (by decide +kernel) wC_E_leapFactors (fun q => by cases q) (Nat.le_of_ble_eq_true rfl) (fun A H0 G IG RG => ?_)
  show vx_V _ _ _ _ _ _ _ _ _ 0 [(0, .ref eu)] []
  refine vx_aload_n IG dc_E_leapFactors_0 rfl 0 rfl ?_
  refine vx_get IG (rw_r HR vx_up_s) rfl 1 (by decide) inE wF_E_18 rfl rfl dc_E_leapFactors_1 ?_
  refine wr_cnt IG HR hef wF_E_121 dc_E_leapFactors_4 ?_
  refine vx_topi (y := nI (nd 4294967296 (V ef))) hvx.1 ?_
  refine vx_aload_n IG dc_E_leapFactors_7 rfl 0 rfl ?_
  refine vx_get IG (rw_r HR vx_up_s) rfl 4 (by decide) inE wF_E_28 rfl rfl dc_E_leapFactors_8 ?_
  refine wr_cnt IG HR heg wF_E_121 dc_E_leapFactors_11 ?_
  refine vx_topi (y := nI (nd 4294967296 (V eg))) hvy.1 ?_
  refine vx_callS (As := [.int (nI (nd 4294967296 (V ef))), .int (nI (nd 4294967296 (V eg)))]) (st := []) IG lw_good (cJM_max _ _ _) wC_JM_max_II wL_E_92 wT_JM_max_II wX_JM 2 (by decide +kernel) rfl ⟨Nat.le_of_ble_eq_true rfl, Nat.le_of_ble_eq_true rfl⟩ ⟨(by dsimp only [rm_]; omega), (by dsimp only [rm_]; omega)⟩ rfl (Nat.le_of_ble_eq_true rfl) dc_E_leapFactors_14 (fun v h k1 n1 hq => ?_)
  obtain ⟨rfl, rfl, rfl, rfl⟩ := hq
  show vx_V _ _ _ _ _ _ _ _ _ 17 [(0, .ref eu)] [.int (if nI (nd 4294967296 (V ef)) < nI (nd 4294967296 (V eg)) then nI (nd 4294967296 (V eg)) else nI (nd 4294967296 (V ef)))]
  refine vx_topi (y := nI (max (nd 4294967296 (V ef)) (nd 4294967296 (V eg)))) (nI_max2 (by omega) (by omega)) ?_
  have m1 : nd 4294967296 (V ef) ≤ max (nd 4294967296 (V ef)) (nd 4294967296 (V eg)) := Nat.le_max_left _ _
  have m2 : nd 4294967296 (V eg) ≤ max (nd 4294967296 (V ef)) (nd 4294967296 (V eg)) := Nat.le_max_right _ _
  have m3 : max (nd 4294967296 (V ef)) (nd 4294967296 (V eg)) ≤ 4099 := by omega
  generalize max (nd 4294967296 (V ef)) (nd 4294967296 (V eg)) = n at *
  refine vx_iconst (v := 1) IG dc_E_leapFactors_17 (by decide) ?_
  refine vx_iadd IG dc_E_leapFactors_18 ?_
  refine vx_topi (y := nI (n + 1)) (nI_1 n) ?_
  refine vx_istore_n (lv' := [(1, .int (nI (n + 1))), (0, .ref eu)]) IG dc_E_leapFactors_19 rfl (by decide) rfl ?_
  refine vx_aload_n IG dc_E_leapFactors_20 rfl 1 rfl ?_
  refine vx_get IG (rw_r HR vx_up_s) rfl 1 (by decide) inE wF_E_18 rfl rfl dc_E_leapFactors_21 ?_
  refine vx_iload_n IG dc_E_leapFactors_24 rfl 0 rfl ?_
  refine vx_callV (As := [.int (nI (n + 1))]) (st := []) IG lw_good (cW_widen HR hL hef ht (n := n + 1) hvx.1 hvx.2.1 (by omega) hC hS) (rw_obj HR hef) rfl wC_W_widen wL_E_125 wI_W_widen wS_W_widen wX_W 1 (by decide +kernel) rfl ⟨Nat.le_of_ble_eq_true rfl, Nat.le_of_ble_eq_true rfl⟩ ⟨(by dsimp only [rm_]; omega), (by dsimp only [rm_]; omega)⟩ rfl (Nat.le_of_ble_eq_true rfl) dc_E_leapFactors_25 (fun v h k2 n2 hq => ?_)
  obtain ⟨rfl, ar0, cp0, fn0, HR0, ho0, hn0, hge0, hlow0, hzero0, hk0, hm0⟩ := hq
  have hfx0 := wide_dg (n := n + 1) hvx hlow0 hzero0
  have hvy0 : wv cp0 cn fn0 eg (V eg) := wv_same hvy (ho0 eg hne).1 rfl (ho0 eg hne).2
  show vx_V _ _ _ _ _ _ _ _ _ 28 [(1, .int (nI (n + 1))), (0, .ref eu)] []
  refine vx_aload_n IG dc_E_leapFactors_28 rfl 1 rfl ?_
  refine vx_get IG (rw_r HR0 vx_up_s) rfl 4 (by decide) inE wF_E_28 rfl rfl dc_E_leapFactors_29 ?_
  refine vx_iload_n IG dc_E_leapFactors_32 rfl 0 rfl ?_
  refine vx_callV (As := [.int (nI (n + 1))]) (st := []) IG lw_good (cW_widen HR0 hL heg ht (n := n + 1) hvy0.1 hvy0.2.1 (by omega) (Nat.le_refl _) (Nat.le_refl _)) (rw_obj HR0 heg) rfl wC_W_widen wL_E_125 wI_W_widen wS_W_widen wX_W 1 (by decide +kernel) rfl ⟨Nat.le_of_ble_eq_true rfl, Nat.le_of_ble_eq_true rfl⟩ ⟨(by dsimp only [rm_]; omega), (by dsimp only [rm_]; omega)⟩ rfl (Nat.le_of_ble_eq_true rfl) dc_E_leapFactors_33 (fun v h k3 n3 hq => ?_)
  obtain ⟨rfl, ar1, cp1, fn1, HR1, ho, hn1, hge, hlow, hzero, hk1, hm1⟩ := hq
  have hfx : ∀ i, i < n + 1 → dg 4294967296 (V ef) i < 4294967296 ∧ fn1 ef i = lN (dg 4294967296 (V ef) i) := fun i hi => by rw [(ho ef (Ne.symm hne)).2]; exact hfx0 i hi
  have hfy := wide_dg (n := n + 1) hvy0 hlow hzero
  have hcx : n + 1 ≤ cp1 ef := by rw [(ho ef (Ne.symm hne)).1]; exact hn0
  show vx_V _ _ _ _ _ _ _ _ _ 36 [(1, .int (nI (n + 1))), (0, .ref eu)] []
  refine vx_aload_n IG dc_E_leapFactors_36 rfl 1 rfl ?_
  refine vx_get IG (rw_r HR1 vx_up_s) rfl 1 (by decide) inE wF_E_18 rfl rfl dc_E_leapFactors_37 ?_
  refine wr_dig IG HR1 hef wF_E_129 dc_E_leapFactors_40 ?_
  refine vx_aload_n IG dc_E_leapFactors_43 rfl 1 rfl ?_
  refine vx_get IG (rw_r HR1 vx_up_s) rfl 4 (by decide) inE wF_E_28 rfl rfl dc_E_leapFactors_44 ?_
  refine wr_dig IG HR1 heg wF_E_129 dc_E_leapFactors_47 ?_
  refine vx_iload_n IG dc_E_leapFactors_50 rfl 0 rfl ?_
  refine vx_aload_n IG dc_E_leapFactors_51 rfl 1 rfl ?_
  refine vx_get IG (rw_r HR1 vx_up_s) rfl 7 (by decide) inE wF_E_41 rfl rfl dc_E_leapFactors_52 ?_
  refine vx_callSW (As := [.long (lZ a)]) (st := [.int (nI (n + 1)), .ref (ar1 eg), .ref (ar1 ef)]) IG lw_good (cJM_abs _ (by omega) (by omega)) wC_JM_abs wL_E_108 wT_JM_abs wX_JM 1 (by decide +kernel) rfl ⟨Nat.le_of_ble_eq_true rfl, Nat.le_of_ble_eq_true rfl⟩ ⟨(by dsimp only [rm_]; omega), (by dsimp only [rm_]; omega)⟩ rfl (Nat.le_of_ble_eq_true rfl) dc_E_leapFactors_55 (fun v h k4 n4 hq => ?_)
  obtain ⟨rfl, rfl, rfl, rfl⟩ := hq
  show vx_V _ _ _ _ _ _ _ _ _ 58 [(1, .int (nI (n + 1))), (0, .ref eu)] [.long (lZ (a.natAbs : Int)), .int (nI (n + 1)), .ref (ar1 eg), .ref (ar1 ef)]
  refine vx_aload_n IG dc_E_leapFactors_58 rfl 1 rfl ?_
  refine vx_get IG (rw_r HR1 vx_up_s) rfl 8 (by decide) inE wF_E_45 rfl rfl dc_E_leapFactors_59 ?_
  refine vx_callSW (As := [.long (lZ b)]) (st := [.long (lZ (a.natAbs : Int)), .int (nI (n + 1)), .ref (ar1 eg), .ref (ar1 ef)]) IG lw_good (cJM_abs _ (by omega) (by omega)) wC_JM_abs wL_E_108 wT_JM_abs wX_JM 1 (by decide +kernel) rfl ⟨Nat.le_of_ble_eq_true rfl, Nat.le_of_ble_eq_true rfl⟩ ⟨(by dsimp only [rm_]; omega), (by dsimp only [rm_]; omega)⟩ rfl (Nat.le_of_ble_eq_true rfl) dc_E_leapFactors_62 (fun v h k5 n5 hq => ?_)
  obtain ⟨rfl, rfl, rfl, rfl⟩ := hq
  show vx_V _ _ _ _ _ _ _ _ _ 65 [(1, .int (nI (n + 1))), (0, .ref eu)] [.long (lZ (b.natAbs : Int)), .long (lZ (a.natAbs : Int)), .int (nI (n + 1)), .ref (ar1 eg), .ref (ar1 ef)]
  refine vx_aload_n IG dc_E_leapFactors_65 rfl 1 rfl ?_
  refine vx_get IG (rw_r HR1 vx_up_s) rfl 9 (by decide) inE wF_E_48 rfl rfl dc_E_leapFactors_66 ?_
  refine vx_callSW (As := [.long (lZ c)]) (st := [.long (lZ (b.natAbs : Int)), .long (lZ (a.natAbs : Int)), .int (nI (n + 1)), .ref (ar1 eg), .ref (ar1 ef)]) IG lw_good (cJM_abs _ (by omega) (by omega)) wC_JM_abs wL_E_108 wT_JM_abs wX_JM 1 (by decide +kernel) rfl ⟨Nat.le_of_ble_eq_true rfl, Nat.le_of_ble_eq_true rfl⟩ ⟨(by dsimp only [rm_]; omega), (by dsimp only [rm_]; omega)⟩ rfl (Nat.le_of_ble_eq_true rfl) dc_E_leapFactors_69 (fun v h k6 n6 hq => ?_)
  obtain ⟨rfl, rfl, rfl, rfl⟩ := hq
  show vx_V _ _ _ _ _ _ _ _ _ 72 [(1, .int (nI (n + 1))), (0, .ref eu)] [.long (lZ (c.natAbs : Int)), .long (lZ (b.natAbs : Int)), .long (lZ (a.natAbs : Int)), .int (nI (n + 1)), .ref (ar1 eg), .ref (ar1 ef)]
  refine vx_aload_n IG dc_E_leapFactors_72 rfl 1 rfl ?_
  refine vx_get IG (rw_r HR1 vx_up_s) rfl 10 (by decide) inE wF_E_51 rfl rfl dc_E_leapFactors_73 ?_
  refine vx_callSW (As := [.long (lZ d)]) (st := [.long (lZ (c.natAbs : Int)), .long (lZ (b.natAbs : Int)), .long (lZ (a.natAbs : Int)), .int (nI (n + 1)), .ref (ar1 eg), .ref (ar1 ef)]) IG lw_good (cJM_abs _ (by omega) (by omega)) wC_JM_abs wL_E_108 wT_JM_abs wX_JM 1 (by decide +kernel) rfl ⟨Nat.le_of_ble_eq_true rfl, Nat.le_of_ble_eq_true rfl⟩ ⟨(by dsimp only [rm_]; omega), (by dsimp only [rm_]; omega)⟩ rfl (Nat.le_of_ble_eq_true rfl) dc_E_leapFactors_76 (fun v h k7 n7 hq => ?_)
  obtain ⟨rfl, rfl, rfl, rfl⟩ := hq
  show vx_V _ _ _ _ _ _ _ _ _ 79 [(1, .int (nI (n + 1))), (0, .ref eu)] [.long (lZ (d.natAbs : Int)), .long (lZ (c.natAbs : Int)), .long (lZ (b.natAbs : Int)), .long (lZ (a.natAbs : Int)), .int (nI (n + 1)), .ref (ar1 eg), .ref (ar1 ef)]
  refine vx_callS (As := [.ref (ar1 ef), .ref (ar1 eg), .int (nI (n + 1)), .long (lZ (a.natAbs : Int)), .long (lZ (b.natAbs : Int)), .long (lZ (c.natAbs : Int)), .long (lZ (d.natAbs : Int))]) (st := []) IG lw_good (cE_multiply HR1 hef heg hne ht (n := n + 1) (dg 4294967296 (V ef)) (dg 4294967296 (V eg)) hfx hfy hcx hn1 (by omega) (by omega) (by omega) (by omega)) wC_E_multiply wL_E_133 wT_E_multiply wX_E 7 (by decide +kernel) rfl ⟨Nat.le_of_ble_eq_true rfl, Nat.le_of_ble_eq_true rfl⟩ ⟨(by dsimp only [rm_]; omega), (by dsimp only [rm_]; omega)⟩ rfl (Nat.le_of_ble_eq_true rfl) dc_E_leapFactors_79 (fun v h k8 n8 hq => ?_)
  obtain ⟨rfl, rfl, rfl, fn2, e1, e2, cu, cv, HR2, f1, f2, f3, q1, q2⟩ := hq
  rw [vl_nd_le bB1 (show nd 4294967296 (V ef) ≤ n + 1 by omega), vl_nd_le bB1 (show nd 4294967296 (V eg) ≤ n + 1 by omega), ← Int.natCast_mul, ← Int.natCast_mul, ← Int.natCast_add] at q1 q2
  have hb1 : V ef < 4294967296 ^ n := (nd_le bB1).mp m1
  have hb2 : V eg < 4294967296 ^ n := (nd_le bB1).mp m2
  have r1 := mu_end q1 (vl_lt bB1 (fun j hj => (f2 j hj).1)) (fac_lt g1 g2 hb1 hb2)
  have r2 := mu_end q2 (vl_lt bB1 (fun j hj => (f3 j hj).1)) (fac_lt g3 g4 hb1 hb2)
  show vx_V _ _ _ _ _ _ _ _ _ 82 [(1, .int (nI (n + 1))), (0, .ref eu)] []
  refine vx_aload_n IG dc_E_leapFactors_82 rfl 1 rfl ?_
  refine vx_get IG (rw_r HR2 vx_up_s) rfl 1 (by decide) inE wF_E_18 rfl rfl dc_E_leapFactors_83 ?_
  refine vx_iload_n IG dc_E_leapFactors_86 rfl 0 rfl ?_
  refine vx_callV (As := [.int (nI (n + 1))]) (st := []) IG lw_good (cW_trim HR2 hef ht (n := n + 1) hcx e1 f2) (rw_obj HR2 hef) rfl wC_W_trim wL_E_137 wI_W_trim wS_W_trim wX_W 1 (by decide +kernel) rfl ⟨Nat.le_of_ble_eq_true rfl, Nat.le_of_ble_eq_true rfl⟩ ⟨(by dsimp only [rm_]; omega), (by dsimp only [rm_]; omega)⟩ rfl (Nat.le_of_ble_eq_true rfl) dc_E_leapFactors_87 (fun v h k9 n9 hq => ?_)
  obtain ⟨rfl, rfl, rfl, HR3⟩ := hq
  show vx_V _ _ _ _ _ _ _ _ _ 90 [(1, .int (nI (n + 1))), (0, .ref eu)] []
  refine vx_aload_n IG dc_E_leapFactors_90 rfl 1 rfl ?_
  refine vx_get IG (rw_r HR3 vx_up_s) rfl 4 (by decide) inE wF_E_28 rfl rfl dc_E_leapFactors_91 ?_
  refine vx_iload_n IG dc_E_leapFactors_94 rfl 0 rfl ?_
  refine vx_callV (As := [.int (nI (n + 1))]) (st := []) IG lw_good (cW_trim HR3 heg ht (n := n + 1) hn1 e2 f3) (rw_obj HR3 heg) rfl wC_W_trim wL_E_137 wI_W_trim wS_W_trim wX_W 1 (by decide +kernel) rfl ⟨Nat.le_of_ble_eq_true rfl, Nat.le_of_ble_eq_true rfl⟩ ⟨(by dsimp only [rm_]; omega), (by dsimp only [rm_]; omega)⟩ rfl (Nat.le_of_ble_eq_true rfl) dc_E_leapFactors_95 (fun v h k10 n10 hq => ?_)
  obtain ⟨rfl, rfl, rfl, HR4⟩ := hq
  show vx_V _ _ _ _ _ _ _ _ _ 98 [(1, .int (nI (n + 1))), (0, .ref eu)] []
  refine vx_ret none RG (vx_endv dc_E_leapFactors_98) rfl ?_
  rw [r1, r2] at HR4
  refine ⟨rfl, pc_ cp1 L, ph cp1 L, ⟨ar1, cp1, _, fn2, HR4, fun q hq => ?_, Nat.le_refl _, Nat.le_refl _⟩, by omega, by omega⟩
  by_cases z : q = eg
  · subst z
    rw [va_up_self, ← r2]
    exact wv_trim f3 hn1 (by rw [va_up_self, r2])
  · rw [va_up_ne _ _ z]
    by_cases z2 : q = ef
    · subst z2
      rw [va_up_self, ← r1]
      exact wv_trim f2 hcx (by rw [va_up_ne _ _ z, va_up_self])
    · rw [va_up_ne _ _ z2]
      exact wv_same (hV q hq) (by rw [(ho q z).1, (ho0 q z2).1]) (by rw [va_up_ne _ _ z, va_up_ne _ _ z2]) (by rw [f1 q z2 z, (ho q z).2, (ho0 q z2).2])
end
