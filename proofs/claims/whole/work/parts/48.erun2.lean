/-! Euclid: run -/
theorem FI_start (a0 b0 : Nat) : FI a0 b0 (sg 0 1) a0 b0 0 1 := by
  refine ⟨by omega, by omega, ?_, ?_⟩
  · exact ⟨1, by simp [sg]⟩
  · exact ⟨0, by simp [sg]⟩
theorem FI_small {a0 b0 x y fx fy : Nat} {s : Int} (h : FI a0 b0 s x y fx fy) (hx : 0 < x) : fx ≤ a0 ∧ fy ≤ a0 := by
  obtain ⟨h1, h2, -, -⟩ := h
  have : fy * 1 ≤ fy * x := Nat.mul_le_mul_left _ hx
  have := Nat.zero_le (fx * y)
  omega
theorem er_steps {x y P i : Nat} (hx : 0 < x) (hy : 0 < y) (h : 2 ^ i * (x * y) ≤ P) (hP : P < 2 ^ 131136) : i < 131136 := by
  have h1 : 2 ^ i * 1 ≤ 2 ^ i * (x * y) := Nat.mul_le_mul_left _ (Nat.mul_pos hx hy)
  rcases Nat.lt_or_ge i 131136 with q | q
  · exact q
  · have : 2 ^ 131136 ≤ 2 ^ i := Nat.pow_le_pow_right (by decide) q
    generalize 2 ^ 131136 = z at *
    omega
theorem er_prod {x y : Nat} (hx : nd 4294967296 x ≤ 2049) (hy : nd 4294967296 y ≤ 2049) : x * y < 2 ^ 131136 := by
  have h1 := (nd_le bB1).mp hx
  have h2 := (nd_le bB1).mp hy
  rw [bp32] at h1 h2
  have e : 2 ^ 131136 = 2 ^ (32 * 2049) * 2 ^ (32 * 2049) := by rw [← Nat.pow_add]
  rw [e]
  generalize 2 ^ (32 * 2049) = z at *
  exact Nat.lt_of_le_of_lt (Nat.mul_le_mul_right _ (Nat.le_of_lt h1)) (Nat.mul_lt_mul_of_pos_left h2 (by omega))
theorem er_next {P j i x y X Y : Nat} (h : 2 ^ j * (x * y) ≤ P) (h2 : 2 ^ i * (X * Y) ≤ x * y) : 2 ^ (j + i) * (X * Y) ≤ P := by
  rw [Nat.pow_add, Nat.mul_assoc]
  exact Nat.le_trans (Nat.mul_le_mul_left _ h2) h
theorem Eu_one {x y : Nat} (hy : 0 < y) : Eu x y 1 0 1 (1 - ((x / y : Nat) : Int) * 0) (0 - ((x / y : Nat) : Int) * 1) y (x % y) := ⟨1, 0, 0, 1, x, y, ⟨rfl, rfl, rfl, rfl, rfl, rfl⟩, hy, rfl, rfl, rfl, rfl, rfl, rfl⟩
section
variable {l : Launch} {D : va_G} {tys : List (ClassId × FieldType)} {cJ : ClassId} {L : List Nat} {r : vx_h} {h : vx_h} {eu ex ef ey eg es ed qo rs sc pa pb : Nat} {V : Nat → Nat} {C S : Nat} {bw_ : Int32} {a b c d : Int} {w : Int32}
/-- the end of Euclid.run -/
def erEnd (cJ : ClassId) (L : List Nat) (r : vx_h) (V : Nat → Nat) (eu ex ef ey eg es ed qo rs sc : Nat) (A B : Nat) (w : Int32) (C S : Nat) : Option Value → vx_h → Nat → Nat → Prop := fun v h' k m => v = none ∧ ∃ (V' : Nat → Nat) (C' S' j : Nat) (a b c d : Int), pool cJ L (vx_up r eu (eOb ex ef ey eg es ed (bj j) a b c d)) V' h' C' S' ∧ V' ex = Nat.gcd A B ∧ (w = 1 → FI A B (sg j 1) (Nat.gcd A B) 0 (V' ef) (V' eg) ∧ (B = 0 → V' ef = 0)) ∧ (∀ q, q ∉ [ex, ef, ey, eg, es, qo, rs, sc] → V' q = V q) ∧ k + C' ≤ C ∧ m + S' ≤ S
set_option maxRecDepth 100000 in
set_option maxHeartbeats 16000000 in
theorem cE_run (HP : pool cJ L (vx_up r eu (eOb ex ef ey eg es ed bw_ a b c d)) V h C S) (hL : L.Nodup) (hdv : r ed = some (.inr (0, [.ref qo, .ref rs, .ref sc]))) (hed : ed ≠ eu) (hm : ∀ q ∈ [ex, ef, ey, eg, es, qo, rs, sc], q ∈ L) (hN : [ex, ef, ey, eg, es, qo, rs, sc].Nodup) (ht : tys[0]? = some (cJ, .long)) (hpa : pa ∈ L) (hpb : pb ∈ L) (npa : pa ∉ [ex, ef, ey, eg, es, qo, rs, sc]) (npb : pb ∉ [ex, ef, ey, eg, es, qo, rs, sc]) (s1 : nd 4294967296 (V pa) ≤ 2049) (s2 : nd 4294967296 (V pb) ≤ 2049) (hw : w = 0 ∨ w = 1) (ho : w = 1 → V pb ≤ V pa) : vx_M l D vcl tys my_E_run lw_gd (rm_ 6 C S 132) [.ref eu, .ref pa, .ref pb, .int w] h (erEnd cJ L r V eu ex ef ey eg es ed qo rs sc (V pa) (V pb) w C S) := by
  have hN0 := hN
  simp only [List.nodup_cons, List.mem_cons, not_or, List.not_mem_nil, not_false_eq_true, and_true] at hN
  obtain ⟨⟨x1, x2, x3, x4, x5, x6, x7⟩, ⟨f1, f2, f3, f4, f5, f6⟩, ⟨y1, y2, y3, y4, y5⟩, ⟨g1, g2, g3, g4⟩, ⟨p1, p2, p3⟩, ⟨q1, q2⟩, r1, -⟩ := hN
  have hex := hm ex (by simp)
  have hef := hm ef (by simp)
  have hey := hm ey (by simp)
  have heg := hm eg (by simp)
  have hes := hm es (by simp)
  have hqo := hm qo (by simp)
  have hrs := hm rs (by simp)
  have hsc := hm sc (by simp)
  have npa0 := npa
  have npb0 := npb
  simp only [List.mem_cons, not_or, List.not_mem_nil, not_false_eq_true, and_true] at npa npb
  refine vx_M.ofV (cc := bc_E_run) (maxL := 6) (ret := none) (own := rE) false rfl (by decide +kernel) wC_E_run (fun q => by cases q) (Nat.le_of_ble_eq_true rfl) (fun A H0 G IG RG => ?_)
  show vx_V _ _ _ _ _ _ _ _ _ 0 [(0, .ref eu), (1, .ref pa), (2, .ref pb), (3, .int w)] []
  -- the loop
  have loop : ∀ (m t : Nat), t + m = 131137 → ∀ (h : vx_h) (V' : Nat → Nat) (C' S' k n j : Nat) (a b c d : Int) (io : Int32), pool cJ L (vx_up r eu (eOb ex ef ey eg es ed (bj j) a b c d)) V' h C' S' → t ≤ j → V' ey ≤ V' ex → Nat.gcd (V' ex) (V' ey) = Nat.gcd (V pa) (V pb) → 2 ^ j * (V' ex * V' ey) ≤ V pa * V pb → nd 4294967296 (V' ex) ≤ 2049 → (w = 1 → FI (V pa) (V pb) (sg j 1) (V' ex) (V' ey) (V' ef) (V' eg)) → (V pb = 0 → w = 1 → V' ey = 0 ∧ V' ef = 0) → (∀ q, q ∉ [ex, ef, ey, eg, es, qo, rs, sc] → V' q = V q) → k + C' ≤ C → n + S' ≤ S → vx_V D vcl A H0 6 G h k n 72 [(5, .int (nI t)), (4, .int io), (0, .ref eu), (1, .ref pa), (2, .ref pb), (3, .int w)] [] := by
    intro m
    induction m with
    | zero =>
      intro t htm h V' C' S' k n j a b c d io HP1 htj hle hg hpr hsx hF hB ho' hk hn
      have hy0 : V' ey = 0 := by
        rcases Nat.eq_zero_or_pos (V' ey) with z | z
        · exact z
        · have := er_steps (by omega) z hpr (er_prod s1 s2)
          omega
      refine vx_iload IG dc_E_run_72 0 rfl ?_
      refine vx_ldc (v := 1000000) IG wK_E_69 dc_E_run_74 ?_
      refine vx_icmp_ge (tgt := 130) IG dc_E_run_76 (by decide) (fun c_ => absurd c_ (nI_ge (b := 1000000) (by omega) (by omega))) (fun _ => ?_)
      refine vx_aload_n IG dc_E_run_79 rfl 2 rfl ?_
      refine vx_get IG (pool_r HP1 vx_up_s) rfl 3 (by decide) inE wF_E_25 rfl rfl dc_E_run_80 ?_
      refine vx_callV (As := []) (st := []) IG lw_good (cW_isZeroP HP1 hey) ((pool_o HP1 hey).choose_spec) rfl wC_W_isZero wL_E_70 wI_W_isZero wS_W_isZero wX_W 0 (by decide +kernel) rfl ⟨Nat.le_of_ble_eq_true rfl, Nat.le_of_ble_eq_true rfl⟩ ⟨(by dsimp only [rm_]; omega), (by dsimp only [rm_]; omega)⟩ rfl (Nat.le_of_ble_eq_true rfl) dc_E_run_83 (fun v h k1 n1 hq => ?_)
      obtain ⟨rfl, rfl, rfl, rfl⟩ := hq
      show vx_V _ _ _ _ _ _ _ _ _ 86 [(5, .int (nI t)), (4, .int io), (0, .ref eu), (1, .ref pa), (2, .ref pb), (3, .int w)] [.int (if V' ey = 0 then 1 else 0)]
      refine vx_topi (y := 1) (if_pos hy0) ?_
      refine vx_if_ne (tgt := 130) IG dc_E_run_86 (by decide) (fun _ => ?_) (fun c_ => absurd c_ (by decide))
      refine vx_ret none RG (vx_endv dc_E_run_130) rfl ?_
      rw [hy0, Nat.gcd_zero_right] at hg
      refine ⟨rfl, V', C', S', j, a, b, c, d, HP1, hg, fun q => ?_, ho', by omega, by omega⟩
      have := hF q
      rw [hy0, hg] at this
      exact ⟨this, fun y => (hB y q).2⟩
    | succ m ih =>
      intro t htm h V' C' S' k n j a b c d io HP1 htj hle hg hpr hsx hF hB ho' hk hn
      refine vx_iload IG dc_E_run_72 0 rfl ?_
      refine vx_ldc (v := 1000000) IG wK_E_69 dc_E_run_74 ?_
      refine vx_icmp_ge (tgt := 130) IG dc_E_run_76 (by decide) (fun c_ => absurd c_ (nI_ge (b := 1000000) (by omega) (by omega))) (fun _ => ?_)
      refine vx_aload_n IG dc_E_run_79 rfl 2 rfl ?_
      refine vx_get IG (pool_r HP1 vx_up_s) rfl 3 (by decide) inE wF_E_25 rfl rfl dc_E_run_80 ?_
      refine vx_callV (As := []) (st := []) IG lw_good (cW_isZeroP HP1 hey) ((pool_o HP1 hey).choose_spec) rfl wC_W_isZero wL_E_70 wI_W_isZero wS_W_isZero wX_W 0 (by decide +kernel) rfl ⟨Nat.le_of_ble_eq_true rfl, Nat.le_of_ble_eq_true rfl⟩ ⟨(by dsimp only [rm_]; omega), (by dsimp only [rm_]; omega)⟩ rfl (Nat.le_of_ble_eq_true rfl) dc_E_run_83 (fun v h k2 n2 hq => ?_)
      obtain ⟨rfl, rfl, rfl, rfl⟩ := hq
      show vx_V _ _ _ _ _ _ _ _ _ 86 [(5, .int (nI t)), (4, .int io), (0, .ref eu), (1, .ref pa), (2, .ref pb), (3, .int w)] [.int (if V' ey = 0 then 1 else 0)]
      by_cases hy0 : V' ey = 0
      · refine vx_topi (y := 1) (if_pos hy0) ?_
        refine vx_if_ne (tgt := 130) IG dc_E_run_86 (by decide) (fun _ => ?_) (fun c_ => absurd c_ (by decide))
        refine vx_ret none RG (vx_endv dc_E_run_130) rfl ?_
        rw [hy0, Nat.gcd_zero_right] at hg
        refine ⟨rfl, V', C', S', j, a, b, c, d, HP1, hg, fun q => ?_, ho', by omega, by omega⟩
        have := hF q
        rw [hy0, hg] at this
        exact ⟨this, fun y => (hB y q).2⟩
      · refine vx_topi (y := 0) (if_neg hy0) ?_
        refine vx_if_ne (tgt := 130) IG dc_E_run_86 (by decide) (fun c_ => absurd rfl c_) (fun _ => ?_)
        refine vx_aload_n IG dc_E_run_89 rfl 2 rfl ?_
        have hyp : 0 < V' ey := Nat.pos_of_ne_zero hy0
        have hxp : 0 < V' ex := by omega
        have hbx : bl (V' ex) < 900000 := by
          have h1 := (nd_le bB1).mp hsx
          rw [bp32] at h1
          have := bl_le.mpr h1
          omega
        refine vx_callV (As := []) (st := []) IG lw_good (cE_foresee HP1 hex hey ht hle hbx) (pool_r HP1 vx_up_s) rfl wC_E_foresee wL_E_74 wI_E_foresee wS_E_foresee wX_E 0 (by decide +kernel) rfl ⟨Nat.le_of_ble_eq_true rfl, Nat.le_of_ble_eq_true rfl⟩ ⟨(by dsimp only [rm_]; omega), (by dsimp only [rm_]; omega)⟩ rfl (Nat.le_of_ble_eq_true rfl) dc_E_run_90 (fun v h k3 n3 hq => ?_)
        obtain ⟨rfl, rfl, i, a1, b1, c1, d1, X, Y, hE, u1, u2, u3, u4, rfl, HP2⟩ := hq
        show vx_V _ _ _ _ _ _ _ _ _ 93 [(5, .int (nI t)), (4, .int io), (0, .ref eu), (1, .ref pa), (2, .ref pb), (3, .int w)] [.int (if i = 0 then 0 else 1)]
        by_cases hi : i = 0
        · refine vx_topi (y := 0) (if_pos hi) ?_
          refine vx_if_eq (tgt := 104) IG dc_E_run_93 (by decide) (fun _ => ?_) (fun c_ => absurd rfl c_)
          have hdv' : (vx_up r eu (eOb ex ef ey eg es ed (bj j) a1 b1 c1 d1)) ed = some (.inr (0, [.ref qo, .ref rs, .ref sc])) := by rw [vx_up_n hed]; exact hdv
          refine vx_aload_n IG dc_E_run_104 rfl 2 rfl ?_
          refine vx_get IG (pool_r HP2 vx_up_s) rfl 6 (by decide) inE wF_E_37 rfl rfl dc_E_run_105 ?_
          refine vx_aload_n IG dc_E_run_108 rfl 2 rfl ?_
          refine vx_get IG (pool_r HP2 vx_up_s) rfl 0 (by decide) inE wF_E_12 rfl rfl dc_E_run_109 ?_
          refine vx_aload_n IG dc_E_run_112 rfl 2 rfl ?_
          refine vx_get IG (pool_r HP2 vx_up_s) rfl 3 (by decide) inE wF_E_25 rfl rfl dc_E_run_113 ?_
          have hsy : nd 4294967296 (V' ey) ≤ 2049 := Nat.le_trans (nd_mono bB1 hle) hsx
          refine vx_callV (As := [.ref ex, .ref ey]) (st := []) IG lw_good (cD_run HP2 hL hdv' hqo hrs hsc (Ne.symm q1) (Ne.symm q2) (Ne.symm r1) hex hey x5 x6 x7 y3 y4 y5 ht (by omega) (by omega)) (pool_r HP2 hdv') rfl wC_D_run wL_E_81 wI_D_run wS_D_run wX_D 2 (by decide +kernel) rfl ⟨Nat.le_of_ble_eq_true rfl, Nat.le_of_ble_eq_true rfl⟩ ⟨(by dsimp only [rm_]; omega), (by dsimp only [rm_]; omega)⟩ rfl (Nat.le_of_ble_eq_true rfl) dc_E_run_116 (fun v h k4 n4 hq => ?_)
          obtain ⟨rfl, V3, C3, S3, HP3, e1, e2, e3, hk3, hn3⟩ := hq
          have w1 : V3 ey = V' ey := e3 ey y3 y4 y5
          have w2 : V3 ef = V' ef := e3 ef f4 f5 f6
          have w3 : V3 eg = V' eg := e3 eg g2 g3 g4
          show vx_V _ _ _ _ _ _ _ _ _ 119 [(5, .int (nI t)), (4, .int io), (0, .ref eu), (1, .ref pa), (2, .ref pb), (3, .int w)] []
          refine vx_aload_n IG dc_E_run_119 rfl 2 rfl ?_
          refine vx_iload_n IG dc_E_run_120 rfl 5 rfl ?_
          have hmod := Nat.mod_lt (V' ex) hyp
          have hdivle := Nat.div_le_self (V' ex) (V' ey)
          refine vx_callV (As := [.int w]) (st := []) IG lw_good (cE_step HP3 hL hdv hed hm hN0 ht (by rw [w1]; omega) (by rw [e2]; exact Nat.le_trans (nd_mono bB1 (Nat.le_of_lt hmod)) hsy) (by rw [e1]; exact Nat.le_trans (nd_mono bB1 hdivle) hsx) hw (fun q => by rw [w2, w3]; have := FI_small (hF q) hxp; exact ⟨Nat.le_trans (nd_mono bB1 this.1) s1, Nat.le_trans (nd_mono bB1 this.2) s1⟩)) (pool_r HP3 vx_up_s) rfl wC_E_step wL_E_85 wI_E_step wS_E_step wX_E 1 (by decide +kernel) rfl ⟨Nat.le_of_ble_eq_true rfl, Nat.le_of_ble_eq_true rfl⟩ ⟨(by dsimp only [rm_]; omega), (by dsimp only [rm_]; omega)⟩ rfl (Nat.le_of_ble_eq_true rfl) dc_E_run_121 (fun v h k5 n5 hq => ?_)
          obtain ⟨rfl, V4, C4, S4, HP4, z1, z2, z3, z4, hk4, hn4⟩ := hq
          rw [w1] at z1
          rw [e2] at z2
          rw [w2, w3, e1] at z3
          show vx_V _ _ _ _ _ _ _ _ _ 124 [(5, .int (nI t)), (4, .int io), (0, .ref eu), (1, .ref pa), (2, .ref pb), (3, .int w)] []
          refine vx_iinc (q := 0) (v := nI (t + 1)) (lv' := [(5, .int (nI (t + 1))), (4, .int io), (0, .ref eu), (1, .ref pa), (2, .ref pb), (3, .int w)]) IG dc_E_run_124 rfl (nI_1 t) (by decide) rfl ?_
          refine vx_goto (tgt := 72) IG dc_E_run_127 (by decide) ?_
          refine ih (t + 1) (by omega) h V4 C4 S4 _ _ (j + 1) a1 b1 c1 d1 io HP4 (by omega) (by rw [z1, z2]; omega) ?_ ?_ (by rw [z1]; exact hsy) (fun q => ?_) (fun y q => absurd (hB y q).1 hy0) (fun q hq => ?_) (by omega) (by omega)
          · rw [z1, z2, ← hg]; exact Eu_gcd 1 _ _ _ _ _ _ (Eu_one hyp)
          · rw [z1, z2]
            exact er_next hpr (Eu_half hle 1 _ _ _ _ _ _ (Eu_one hyp))
          · rw [z1, z2, (z3 q).1, (z3 q).2]
            have := FI_step (hF q) hyp hle
            rw [show -sg j 1 = sg (j + 1) 1 by unfold sg; rcases Nat.mod_two_eq_zero_or_one j with e | e <;> simp [e, Nat.add_mod]] at this
            exact this
          · have hq' := hq
            simp only [List.mem_cons, not_or, List.not_mem_nil, not_false_eq_true, and_true] at hq
            obtain ⟨o1, o2, o3, o4, o5, o6, o7, o8⟩ := hq
            rw [z4 q (by simp [o1, o2, o3, o4, o5]), e3 q o6 o7 o8, ho' q hq']
        · refine vx_topi (y := 1) (if_neg hi) ?_
          refine vx_if_eq (tgt := 104) IG dc_E_run_93 (by decide) (fun c_ => absurd c_ (by decide)) (fun _ => ?_)
          refine vx_aload_n IG dc_E_run_96 rfl 2 rfl ?_
          refine vx_iload_n IG dc_E_run_97 rfl 5 rfl ?_
          refine vx_callV (As := [.int w]) (st := []) IG lw_good (cE_leap HP2 hL hex hey hef heg (Ne.symm x2) (Ne.symm x1) f1 (Ne.symm x3) (Ne.symm y1) (Ne.symm f2) ht hle (by omega) hE u1 u2 u3 u4 hw (fun q => by have := FI_small (hF q) hxp; exact ⟨Nat.le_trans (nd_mono bB1 this.1) (by omega), Nat.le_trans (nd_mono bB1 this.2) (by omega)⟩)) (pool_r HP2 vx_up_s) rfl wC_E_leap wL_E_77 wI_E_leap wS_E_leap wX_E 1 (by decide +kernel) rfl ⟨Nat.le_of_ble_eq_true rfl, Nat.le_of_ble_eq_true rfl⟩ ⟨(by dsimp only [rm_]; omega), (by dsimp only [rm_]; omega)⟩ rfl (Nat.le_of_ble_eq_true rfl) dc_E_run_98 (fun v h k6 n6 hq => ?_)
          obtain ⟨rfl, V4, C4, S4, HP4, z1, z2, z3, z4, hk4, hn4⟩ := hq
          show vx_V _ _ _ _ _ _ _ _ _ 101 [(5, .int (nI t)), (4, .int io), (0, .ref eu), (1, .ref pa), (2, .ref pb), (3, .int w)] []
          refine vx_goto (tgt := 124) IG dc_E_run_101 (by decide) ?_
          refine vx_iinc (q := 0) (v := nI (t + 1)) (lv' := [(5, .int (nI (t + 1))), (4, .int io), (0, .ref eu), (1, .ref pa), (2, .ref pb), (3, .int w)]) IG dc_E_run_124 rfl (nI_1 t) (by decide) rfl ?_
          refine vx_goto (tgt := 72) IG dc_E_run_127 (by decide) ?_
          have hXx := Eu_le hle i _ _ _ _ _ _ hE
          have hYX := Eu_ord hle i _ _ _ _ _ _ hE
          refine ih (t + 1) (by omega) h V4 C4 S4 _ _ (j + i) a1 b1 c1 d1 io HP4 (by omega) (by rw [z1, z2]; exact hYX) ?_ ?_ (by rw [z1]; exact Nat.le_trans (nd_mono bB1 hXx) hsx) (fun q => ?_) (fun y q => absurd (hB y q).1 hy0) (fun q hq => ?_) (by omega) (by omega)
          · rw [z1, z2, ← hg]; exact Eu_gcd i _ _ _ _ _ _ hE
          · rw [z1, z2]
            exact er_next hpr (Eu_half hle i _ _ _ _ _ _ hE)
          · rw [z1, z2, (z3 q).1, (z3 q).2, ← sg_add]
            exact Eu_fac hle (hF q) i _ _ _ _ _ _ hE
          · have hq' := hq
            simp only [List.mem_cons, not_or, List.not_mem_nil, not_false_eq_true, and_true] at hq
            obtain ⟨o1, o2, o3, o4, o5, o6, o7, o8⟩ := hq
            rw [z4 q o1 o3 o2 o4, ho' q hq']
  -- what stands before the loop, once x and y are known
  have pre : ∀ (V2 : Nat → Nat) (C2 S2 k n : Nat) (h : vx_h) (io : Int32), pool cJ L (vx_up r eu (eOb ex ef ey eg es ed bw_ a b c d)) V2 h C2 S2 → V2 ey ≤ V2 ex → Nat.gcd (V2 ex) (V2 ey) = Nat.gcd (V pa) (V pb) → V2 ex * V2 ey = V pa * V pb → nd 4294967296 (V2 ex) ≤ 2049 → (w = 1 → V2 ex = V pa ∧ V2 ey = V pb) → (∀ q, q ∉ [ex, ey] → V2 q = V q) → k + C2 ≤ C → n + S2 ≤ S → vx_V D vcl A H0 6 G h k n 49 [(4, .int io), (0, .ref eu), (1, .ref pa), (2, .ref pb), (3, .int w)] [] := by
    intro V2 C2 S2 k n h io HP2 hle hg hpr hsx hF ho' hk hn
    obtain ⟨ar, cp, cn, fn, HR, hV, hC, hS⟩ := HP2
    refine vx_aload_n IG dc_E_run_49 rfl 1 rfl ?_
    refine vx_get IG (rw_r HR vx_up_s) rfl 1 (by decide) inE wF_E_18 rfl rfl dc_E_run_50 ?_
    refine vx_callV (As := []) (st := []) IG lw_good (cW_clear HR hef) (rw_obj HR hef) rfl wC_W_clear wL_E_62 wI_W_clear wS_W_clear wX_W 0 (by decide +kernel) rfl ⟨Nat.le_of_ble_eq_true rfl, Nat.le_of_ble_eq_true rfl⟩ ⟨(by dsimp only [rm_]; omega), (by dsimp only [rm_]; omega)⟩ rfl (Nat.le_of_ble_eq_true rfl) dc_E_run_53 (fun v h k7 n7 hq => ?_)
    obtain ⟨rfl, rfl, rfl, HR⟩ := hq
    have HP3 : pool cJ L (vx_up r eu (eOb ex ef ey eg es ed bw_ a b c d)) (va_up V2 ef 0) h C2 S2 := by
      refine ⟨ar, cp, va_up cn ef 0, fn, HR, fun q hq => ?_, hC, hS⟩
      by_cases z : q = ef
      · subst z
        rw [va_up_self]
        exact ⟨va_up_self _ _ _, Nat.zero_le _, fun i hi => absurd hi (Nat.not_lt_zero i)⟩
      · rw [va_up_ne _ _ z]
        exact wv_same (hV q hq) rfl (va_up_ne _ _ z) rfl
    show vx_V _ _ _ _ _ _ _ _ _ 56 [(4, .int io), (0, .ref eu), (1, .ref pa), (2, .ref pb), (3, .int w)] []
    refine vx_aload_n IG dc_E_run_56 rfl 1 rfl ?_
    refine vx_get IG (pool_r HP3 vx_up_s) rfl 4 (by decide) inE wF_E_28 rfl rfl dc_E_run_57 ?_
    refine vx_lconst (v := 1) IG dc_E_run_60 (by decide) ?_
    refine vx_callV (As := [.long 1]) (st := []) IG lw_good (cW_load HP3 heg ht (b := 1) (by decide)) ((pool_o HP3 heg).choose_spec) rfl wC_W_load wL_E_65 wI_W_load wS_W_load wX_W 1 (by decide +kernel) rfl ⟨Nat.le_of_ble_eq_true rfl, Nat.le_of_ble_eq_true rfl⟩ ⟨(by dsimp only [rm_]; omega), (by dsimp only [rm_]; omega)⟩ rfl (Nat.le_of_ble_eq_true rfl) dc_E_run_61 (fun v h k8 n8 hq => ?_)
    obtain ⟨rfl, C4, S4, HP4, hk4, hn4⟩ := hq
    obtain ⟨ar4, cp4, cn4, fn4, HR4, hV4, hC4, hS4⟩ := HP4
    show vx_V _ _ _ _ _ _ _ _ _ 64 [(4, .int io), (0, .ref eu), (1, .ref pa), (2, .ref pb), (3, .int w)] []
    refine vx_aload_n IG dc_E_run_64 rfl 1 rfl ?_
    refine vx_iconst (v := 1) IG dc_E_run_65 (by decide) ?_
    refine er_put IG HR4 2 (by decide) wF_E_21 rfl rfl (ty := .boolean) (by decide +kernel) rfl rfl (Nat.le_of_ble_eq_true rfl) dc_E_run_66 (fun h HR4 => ?_)
    replace HR4 : rw_at 2 cJ L (vx_up r eu (eOb ex ef ey eg es ed (bj 0) a b c d)) ar4 cp4 cn4 fn4 h := HR4
    refine vx_iconst (v := 0) IG dc_E_run_69 (by decide) ?_
    refine vx_istore (lv' := [(5, .int 0), (4, .int io), (0, .ref eu), (1, .ref pa), (2, .ref pb), (3, .int w)]) IG dc_E_run_70 (by decide) rfl ?_
    have w1 : va_up (va_up V2 ef 0) eg 1 ex = V2 ex := by rw [va_up_ne _ _ x3, va_up_ne _ _ x1]
    have w2 : va_up (va_up V2 ef 0) eg 1 ey = V2 ey := by rw [va_up_ne _ _ y1, va_up_ne _ _ (Ne.symm f1)]
    have w3 : va_up (va_up V2 ef 0) eg 1 ef = 0 := by rw [va_up_ne _ _ f2, va_up_self]
    refine loop 131137 0 (by decide) h (va_up (va_up V2 ef 0) eg 1) C4 S4 _ _ 0 a b c d io ⟨ar4, cp4, cn4, fn4, HR4, hV4, hC4, hS4⟩ (Nat.le_refl 0) (by rw [w1, w2]; exact hle) (by rw [w1, w2]; exact hg) (by rw [w1, w2, Nat.pow_zero, Nat.one_mul, hpr]; exact Nat.le_refl _) (by rw [w1]; exact hsx) (fun q => ?_) (fun y q => ⟨by rw [w2, (hF q).2]; exact y, w3⟩) (fun q hq => ?_) (by omega) (by omega)
    · rw [w1, w2, w3, va_up_self, (hF q).1, (hF q).2]
      exact FI_start _ _
    · simp only [List.mem_cons, not_or, List.not_mem_nil, not_false_eq_true, and_true] at hq
      rw [va_up_ne _ _ hq.2.2.2.1, va_up_ne _ _ hq.2.1]
      exact ho' q (by simp [hq.1, hq.2.2.1])
  refine vx_aload_n IG dc_E_run_0 rfl 1 rfl ?_
  refine vx_aload_n IG dc_E_run_1 rfl 2 rfl ?_
  refine vx_callV (As := [.ref pb]) (st := []) IG lw_good (cW_against HP hpa hpb ht) ((pool_o HP hpa).choose_spec) rfl wC_W_against wL_E_54 wI_W_against wS_W_against wX_W 1 (by decide +kernel) rfl ⟨Nat.le_of_ble_eq_true rfl, Nat.le_of_ble_eq_true rfl⟩ ⟨(by dsimp only [rm_]; omega), (by dsimp only [rm_]; omega)⟩ rfl (Nat.le_of_ble_eq_true rfl) dc_E_run_2 (fun v h k9 n9 hq => ?_)
  obtain ⟨rfl, rfl, rfl, rfl⟩ := hq
  show vx_V _ _ _ _ _ _ _ _ _ 5 [(0, .ref eu), (1, .ref pa), (2, .ref pb), (3, .int w)] [.int (cmpI (V pa) (V pb))]
  by_cases z1 : V pb ≤ V pa
  · refine vx_if_lt (tgt := 12) IG dc_E_run_5 (by decide) (fun c_ => absurd c_ (fun q => absurd ((cmpI_ge _ _).mpr z1) (Int32.not_le.mpr q))) (fun _ => ?_)
    refine vx_iconst (v := 1) IG dc_E_run_8 (by decide) ?_
    refine vx_goto (tgt := 13) IG dc_E_run_9 (by decide) ?_
    refine vx_istore (lv' := [(4, .int 1), (0, .ref eu), (1, .ref pa), (2, .ref pb), (3, .int w)]) IG dc_E_run_13 (by decide) rfl ?_
    refine vx_aload_n IG dc_E_run_15 rfl 1 rfl ?_
    refine vx_get IG (pool_r HP vx_up_s) rfl 0 (by decide) inE wF_E_12 rfl rfl dc_E_run_16 ?_
    refine vx_iload IG dc_E_run_19 0 rfl ?_
    refine vx_if_eq (tgt := 28) IG dc_E_run_21 (by decide) (fun c_ => absurd c_ (by decide)) (fun _ => ?_)
    refine vx_aload_n IG dc_E_run_24 rfl 2 rfl ?_
    refine vx_goto (tgt := 29) IG dc_E_run_25 (by decide) ?_
    refine vx_callV (As := [.ref pa]) (st := []) IG lw_good (cW_copy HP hL hex hpa ht (by omega)) ((pool_o HP hex).choose_spec) rfl wC_W_copy wL_E_58 wI_W_copy wS_W_copy wX_W 1 (by decide +kernel) rfl ⟨Nat.le_of_ble_eq_true rfl, Nat.le_of_ble_eq_true rfl⟩ ⟨(by dsimp only [rm_]; omega), (by dsimp only [rm_]; omega)⟩ rfl (Nat.le_of_ble_eq_true rfl) dc_E_run_29 (fun v h k10 n10 hq => ?_)
    obtain ⟨rfl, C1, S1, HP1, hk1, hn1⟩ := hq
    have v1 : va_up V ex (V pa) pb = V pb := va_up_ne _ _ npb.1
    show vx_V _ _ _ _ _ _ _ _ _ 32 [(4, .int 1), (0, .ref eu), (1, .ref pa), (2, .ref pb), (3, .int w)] []
    refine vx_aload_n IG dc_E_run_32 rfl 1 rfl ?_
    refine vx_get IG (pool_r HP1 vx_up_s) rfl 3 (by decide) inE wF_E_25 rfl rfl dc_E_run_33 ?_
    refine vx_iload IG dc_E_run_36 0 rfl ?_
    refine vx_if_eq (tgt := 45) IG dc_E_run_38 (by decide) (fun c_ => absurd c_ (by decide)) (fun _ => ?_)
    refine vx_aload_n IG dc_E_run_41 rfl 3 rfl ?_
    refine vx_goto (tgt := 46) IG dc_E_run_42 (by decide) ?_
    refine vx_callV (As := [.ref pb]) (st := []) IG lw_good (cW_copy HP1 hL hey hpb ht (by rw [v1]; omega)) ((pool_o HP1 hey).choose_spec) rfl wC_W_copy wL_E_58 wI_W_copy wS_W_copy wX_W 1 (by decide +kernel) rfl ⟨Nat.le_of_ble_eq_true rfl, Nat.le_of_ble_eq_true rfl⟩ ⟨(by dsimp only [rm_]; omega), (by dsimp only [rm_]; omega)⟩ rfl (Nat.le_of_ble_eq_true rfl) dc_E_run_46 (fun v h k11 n11 hq => ?_)
    obtain ⟨rfl, C2, S2, HP2, hk2, hn2⟩ := hq
    rw [v1] at HP2
    have w1 : va_up (va_up V ex (V pa)) ey (V pb) ex = V pa := by rw [va_up_ne _ _ x2, va_up_self]
    have w2 : va_up (va_up V ex (V pa)) ey (V pb) ey = V pb := va_up_self _ _ _
    show vx_V _ _ _ _ _ _ _ _ _ 49 [(4, .int 1), (0, .ref eu), (1, .ref pa), (2, .ref pb), (3, .int w)] []
    refine pre _ C2 S2 _ _ h 1 HP2 (by rw [w1, w2]; exact z1) (by rw [w1, w2]) (by rw [w1, w2]) (by rw [w1]; exact s1) (fun _ => ⟨w1, w2⟩) (fun q hq => ?_) (by omega) (by omega)
    simp only [List.mem_cons, not_or, List.not_mem_nil, not_false_eq_true, and_true] at hq
    rw [va_up_ne _ _ hq.2, va_up_ne _ _ hq.1]
  · refine vx_if_lt (tgt := 12) IG dc_E_run_5 (by decide) (fun _ => ?_) (fun c_ => absurd (Int32.not_le.mp (fun q => z1 ((cmpI_ge _ _).mp q))) c_)
    refine vx_iconst (v := 0) IG dc_E_run_12 (by decide) ?_
    refine vx_istore (lv' := [(4, .int 0), (0, .ref eu), (1, .ref pa), (2, .ref pb), (3, .int w)]) IG dc_E_run_13 (by decide) rfl ?_
    refine vx_aload_n IG dc_E_run_15 rfl 1 rfl ?_
    refine vx_get IG (pool_r HP vx_up_s) rfl 0 (by decide) inE wF_E_12 rfl rfl dc_E_run_16 ?_
    refine vx_iload IG dc_E_run_19 0 rfl ?_
    refine vx_if_eq (tgt := 28) IG dc_E_run_21 (by decide) (fun _ => ?_) (fun c_ => absurd rfl c_)
    refine vx_aload_n IG dc_E_run_28 rfl 3 rfl ?_
    refine vx_callV (As := [.ref pb]) (st := []) IG lw_good (cW_copy HP hL hex hpb ht (by omega)) ((pool_o HP hex).choose_spec) rfl wC_W_copy wL_E_58 wI_W_copy wS_W_copy wX_W 1 (by decide +kernel) rfl ⟨Nat.le_of_ble_eq_true rfl, Nat.le_of_ble_eq_true rfl⟩ ⟨(by dsimp only [rm_]; omega), (by dsimp only [rm_]; omega)⟩ rfl (Nat.le_of_ble_eq_true rfl) dc_E_run_29 (fun v h k12 n12 hq => ?_)
    obtain ⟨rfl, C1, S1, HP1, hk1, hn1⟩ := hq
    have v1 : va_up V ex (V pb) pa = V pa := va_up_ne _ _ npa.1
    show vx_V _ _ _ _ _ _ _ _ _ 32 [(4, .int 0), (0, .ref eu), (1, .ref pa), (2, .ref pb), (3, .int w)] []
    refine vx_aload_n IG dc_E_run_32 rfl 1 rfl ?_
    refine vx_get IG (pool_r HP1 vx_up_s) rfl 3 (by decide) inE wF_E_25 rfl rfl dc_E_run_33 ?_
    refine vx_iload IG dc_E_run_36 0 rfl ?_
    refine vx_if_eq (tgt := 45) IG dc_E_run_38 (by decide) (fun _ => ?_) (fun c_ => absurd rfl c_)
    refine vx_aload_n IG dc_E_run_45 rfl 2 rfl ?_
    refine vx_callV (As := [.ref pa]) (st := []) IG lw_good (cW_copy HP1 hL hey hpa ht (by rw [v1]; omega)) ((pool_o HP1 hey).choose_spec) rfl wC_W_copy wL_E_58 wI_W_copy wS_W_copy wX_W 1 (by decide +kernel) rfl ⟨Nat.le_of_ble_eq_true rfl, Nat.le_of_ble_eq_true rfl⟩ ⟨(by dsimp only [rm_]; omega), (by dsimp only [rm_]; omega)⟩ rfl (Nat.le_of_ble_eq_true rfl) dc_E_run_46 (fun v h k13 n13 hq => ?_)
    obtain ⟨rfl, C2, S2, HP2, hk2, hn2⟩ := hq
    rw [v1] at HP2
    have w1 : va_up (va_up V ex (V pb)) ey (V pa) ex = V pb := by rw [va_up_ne _ _ x2, va_up_self]
    have w2 : va_up (va_up V ex (V pb)) ey (V pa) ey = V pa := va_up_self _ _ _
    show vx_V _ _ _ _ _ _ _ _ _ 49 [(4, .int 0), (0, .ref eu), (1, .ref pa), (2, .ref pb), (3, .int w)] []
    refine pre _ C2 S2 _ _ h 0 HP2 (by rw [w1, w2]; omega) (by rw [w1, w2, Nat.gcd_comm]) (by rw [w1, w2, Nat.mul_comm]) (by rw [w1]; exact s2) (fun q => absurd (ho q) z1) (fun q hq => ?_) (by omega) (by omega)
    simp only [List.mem_cons, not_or, List.not_mem_nil, not_false_eq_true, and_true] at hq
    rw [va_up_ne _ _ hq.2, va_up_ne _ _ hq.1]
end
