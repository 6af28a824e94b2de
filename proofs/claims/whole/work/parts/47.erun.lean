/-! Euclid: leap, step, run -/
def bj (j : Nat) : Int32 := if j % 2 = 0 then 1 else 0
theorem bj_flip {j : Nat} (h : bj j = 0) : bj (j + 1) = 1 := by
  unfold bj at h ⊢
  by_cases z : j % 2 = 0
  · rw [if_pos z] at h; exact absurd h (by decide)
  · rw [if_pos (by omega)]
theorem bj_flip1 {j : Nat} (h : ¬ bj j = 0) : bj (j + 1) = 0 := by
  unfold bj at h ⊢
  by_cases z : j % 2 = 0
  · rw [if_neg (by omega)]
  · rw [if_neg z] at h; exact absurd rfl h
theorem bj_add {i j : Nat} : bj (j + i) = if i % 2 = 0 then bj j else bj (j + 1) := by
  unfold bj
  by_cases z : i % 2 = 0
  · rw [if_pos z, show (j + i) % 2 = j % 2 by omega]
  · rw [if_neg z, show (j + i) % 2 = (j + 1) % 2 by omega]
theorem sg_add (i j : Nat) : sg i (sg j 1) = sg (j + i) 1 := by
  unfold sg
  rcases Nat.mod_two_eq_zero_or_one i with e | e <;> rcases Nat.mod_two_eq_zero_or_one j with e2 | e2 <;> simp [e, e2, Nat.add_mod]
theorem nd_mul (A B : Nat) : nd 4294967296 (A * B) ≤ nd 4294967296 A + nd 4294967296 B := by
  rw [nd_le bB1, Nat.pow_add]
  have h1 := lt_nd bB1 A
  have h2 := lt_nd bB1 B
  rcases Nat.eq_zero_or_pos B with z | z
  · rw [z, Nat.mul_zero]; exact Nat.mul_pos (Nat.pow_pos (by decide)) (Nat.pow_pos (by decide))
  · exact Nat.lt_of_lt_of_le (Nat.mul_lt_mul_of_pos_right h1 z) (Nat.mul_le_mul_left _ (Nat.le_of_lt h2))
section
variable {l : Launch} {D : va_G} {tys : List (ClassId × FieldType)} {cJ : ClassId} {L : List Nat} {r : vx_h} {h : vx_h} {eu ex ef ey eg es ed qo rs sc pa pb : Nat} {V : Nat → Nat} {C S : Nat} {bw_ : Int32} {a b c d : Int} {w : Int32}
set_option maxRecDepth 100000 in
set_option maxHeartbeats 8000000 in
theorem cE_leap {j : Nat} (HP : pool cJ L (vx_up r eu (eOb ex ef ey eg es ed (bj j) a b c d)) V h C S) (hL : L.Nodup) (hex : ex ∈ L) (hey : ey ∈ L) (hef : ef ∈ L) (heg : eg ∈ L) (d1 : ey ≠ ex) (d2 : ef ≠ ex) (d3 : ef ≠ ey) (d4 : eg ≠ ex) (d5 : eg ≠ ey) (d6 : eg ≠ ef) (ht : tys[0]? = some (cJ, .long)) (hle : V ey ≤ V ex) (hsz : nd 4294967296 (V ex) ≤ 4100) {i X Y : Nat} (hE : Eu (V ex) (V ey) i a b c d X Y) (g1 : a.natAbs ≤ 1073741823) (g2 : b.natAbs ≤ 1073741823) (g3 : c.natAbs ≤ 1073741823) (g4 : d.natAbs ≤ 1073741823) (hw : w = 0 ∨ w = 1) (hs : w = 1 → nd 4294967296 (V ef) ≤ 4099 ∧ nd 4294967296 (V eg) ≤ 4099) : vx_M l D vcl tys my_E_leap lw_gd (rm_ 5 C S 107) [.ref eu, .int w] h (fun v h' k n => v = none ∧ ∃ (V' : Nat → Nat) (C' S' : Nat), pool cJ L (vx_up r eu (eOb ex ef ey eg es ed (bj (j + i)) a b c d)) V' h' C' S' ∧ V' ex = X ∧ V' ey = Y ∧ (w = 1 → V' ef = a.natAbs * V ef + b.natAbs * V eg ∧ V' eg = c.natAbs * V ef + d.natAbs * V eg) ∧ (∀ q, q ≠ ex → q ≠ ey → q ≠ ef → q ≠ eg → V' q = V q) ∧ k + C' ≤ C ∧ n + S' ≤ S) := by
  have hsg := Eu_sgn hle i _ _ _ _ _ _ hE
  refine vx_M.ofV (cc := bc_E_leap) (maxL := 2) (ret := none) (own := rE) false rfl (by decide +kernel) wC_E_leap (fun q => by cases q) (Nat.le_of_ble_eq_true rfl) (fun A H0 G IG RG => ?_)
  show vx_V _ _ _ _ _ _ _ _ _ 0 [(0, .ref eu), (1, .int w)] []
  have tail : ∀ (V' : Nat → Nat) (C' S' k n : Nat) (h : vx_h), pool cJ L (vx_up r eu (eOb ex ef ey eg es ed (bj j) a b c d)) V' h C' S' → V' ex = X → V' ey = Y → (w = 1 → V' ef = a.natAbs * V ef + b.natAbs * V eg ∧ V' eg = c.natAbs * V ef + d.natAbs * V eg) → (∀ q, q ≠ ex → q ≠ ey → q ≠ ef → q ≠ eg → V' q = V q) → k + C' ≤ C → n + S' ≤ S → vx_V D vcl A H0 2 G h k n 12 [(0, .ref eu), (1, .int w)] [] := by
    intro V' C' S' k n h HP1 e1 e2 e3 e4 hk hn
    obtain ⟨ar, cp, cn, fn, HR, hV, hC, hS⟩ := HP1
    refine vx_aload_n IG dc_E_leap_12 rfl 0 rfl ?_
    refine vx_get IG (rw_r HR vx_up_s) rfl 10 (by decide) inE wF_E_51 rfl rfl dc_E_leap_13 ?_
    refine vx_lconst (v := 0) IG dc_E_leap_16 (by decide) ?_
    refine vx_lcmp IG dc_E_leap_17 ?_
    have hc := lZ_le (a := 0) (b := d) (by omega) (by omega) (by omega) (by omega)
    by_cases z : 0 ≤ d
    · refine vx_if_ge (tgt := 37) IG dc_E_leap_18 (by decide) (fun _ => ?_) (fun c_ => absurd ((lg_cmp_ge _ _).mpr (hc.mpr z)) c_)
      refine vx_ret none RG (vx_endv dc_E_leap_37) rfl ?_
      refine ⟨rfl, V', C', S', ⟨ar, cp, cn, fn, ?_, hV, hC, hS⟩, e1, e2, e3, e4, hk, hn⟩
      rw [bj_add, if_pos (by omega)]
      exact HR
    · refine vx_if_ge (tgt := 37) IG dc_E_leap_18 (by decide) (fun c_ => absurd c_ (fun q => z (hc.mp ((lg_cmp_ge _ _).mp q)))) (fun _ => ?_)
      refine vx_aload_n IG dc_E_leap_21 rfl 0 rfl ?_
      refine vx_aload_n IG dc_E_leap_22 rfl 0 rfl ?_
      refine vx_get IG (rw_r HR vx_up_s) rfl 2 (by decide) inE wF_E_21 rfl rfl dc_E_leap_23 ?_
      by_cases y : bj j = 0
      · refine vx_if_ne (tgt := 33) IG dc_E_leap_26 (by decide) (fun c_ => absurd y c_) (fun _ => ?_)
        refine vx_iconst (v := 1) IG dc_E_leap_29 (by decide) ?_
        refine vx_goto (tgt := 34) IG dc_E_leap_30 (by decide) ?_
        refine er_put IG HR 2 (by decide) wF_E_21 rfl rfl (ty := .boolean) (by decide +kernel) rfl rfl (Nat.le_of_ble_eq_true rfl) dc_E_leap_34 (fun h HR => ?_)
        replace HR : rw_at 2 cJ L (vx_up r eu (eOb ex ef ey eg es ed 1 a b c d)) ar cp cn fn h := HR
        refine vx_ret none RG (vx_endv dc_E_leap_37) rfl ?_
        refine ⟨rfl, V', C', S', ⟨ar, cp, cn, fn, ?_, hV, hC, hS⟩, e1, e2, e3, e4, hk, hn⟩
        rw [bj_add, if_neg (by omega), bj_flip y]
        exact HR
      · refine vx_if_ne (tgt := 33) IG dc_E_leap_26 (by decide) (fun _ => ?_) (fun c_ => absurd c_ y)
        refine vx_iconst (v := 0) IG dc_E_leap_33 (by decide) ?_
        refine er_put IG HR 2 (by decide) wF_E_21 rfl rfl (ty := .boolean) (by decide +kernel) rfl rfl (Nat.le_of_ble_eq_true rfl) dc_E_leap_34 (fun h HR => ?_)
        replace HR : rw_at 2 cJ L (vx_up r eu (eOb ex ef ey eg es ed 0 a b c d)) ar cp cn fn h := HR
        refine vx_ret none RG (vx_endv dc_E_leap_37) rfl ?_
        refine ⟨rfl, V', C', S', ⟨ar, cp, cn, fn, ?_, hV, hC, hS⟩, e1, e2, e3, e4, hk, hn⟩
        rw [bj_add, if_neg (by omega), bj_flip1 y]
        exact HR
  refine vx_aload_n IG dc_E_leap_0 rfl 0 rfl ?_
  have hob : h eu = some (eOb ex ef ey eg es ed (bj j) a b c d) := by
    obtain ⟨ar, cp, cn, fn, HR, hV, hC, hS⟩ := HP
    exact rw_r HR vx_up_s
  refine vx_callV (As := []) (st := []) IG lw_good (cE_leapRemainders HP hL hex hey d1 ht hle hsz hE g1 g2 g3 g4) hob rfl wC_E_leapRemainders wL_E_115 wI_E_leapRemainders wS_E_leapRemainders wX_E 0 (by decide +kernel) rfl ⟨Nat.le_of_ble_eq_true rfl, Nat.le_of_ble_eq_true rfl⟩ ⟨(by dsimp only [rm_]; omega), (by dsimp only [rm_]; omega)⟩ rfl (Nat.le_of_ble_eq_true rfl) dc_E_leap_1 (fun v h k1 n1 hq => ?_)
  obtain ⟨rfl, C1, S1, HP1, hk1, hm1⟩ := hq
  show vx_V _ _ _ _ _ _ _ _ _ 4 [(0, .ref eu), (1, .int w)] []
  refine vx_iload_n IG dc_E_leap_4 rfl 1 rfl ?_
  by_cases hw0 : w = 0
  · refine vx_if_eq (tgt := 12) IG dc_E_leap_5 (by decide) (fun _ => ?_) (fun c_ => absurd hw0 c_)
    refine tail _ C1 S1 _ _ h HP1 ?_ ?_ (fun q => absurd (hw0.symm.trans q) (by decide)) (fun q y1 y2 y3 y4 => ?_) (by omega) (by omega)
    · rw [va_up_ne _ _ (Ne.symm d1), va_up_self]
    · rw [va_up_self]
    · rw [va_up_ne _ _ y2, va_up_ne _ _ y1]
  · refine vx_if_eq (tgt := 12) IG dc_E_leap_5 (by decide) (fun c_ => absurd c_ hw0) (fun _ => ?_)
    have hw1 : w = 1 := hw.resolve_left hw0
    refine vx_aload_n IG dc_E_leap_8 rfl 0 rfl ?_
    have hob1 : h eu = some (eOb ex ef ey eg es ed (bj j) a b c d) := by
      obtain ⟨ar, cp, cn, fn, HR, hV, hC, hS⟩ := HP1
      exact rw_r HR vx_up_s
    have v1 : va_up (va_up V ex X) ey Y ef = V ef := by rw [va_up_ne _ _ d3, va_up_ne _ _ d2]
    have v2 : va_up (va_up V ex X) ey Y eg = V eg := by rw [va_up_ne _ _ d5, va_up_ne _ _ d4]
    refine vx_callV (As := []) (st := []) IG lw_good (cE_leapFactors HP1 hL hef heg d6 ht (by rw [v1]; exact (hs hw1).1) (by rw [v2]; exact (hs hw1).2) g1 g2 g3 g4) hob1 rfl wC_E_leapFactors wL_E_118 wI_E_leapFactors wS_E_leapFactors wX_E 0 (by decide +kernel) rfl ⟨Nat.le_of_ble_eq_true rfl, Nat.le_of_ble_eq_true rfl⟩ ⟨(by dsimp only [rm_]; omega), (by dsimp only [rm_]; omega)⟩ rfl (Nat.le_of_ble_eq_true rfl) dc_E_leap_9 (fun v h k2 n2 hq => ?_)
    obtain ⟨rfl, C2, S2, HP2, hk2, hm2⟩ := hq
    rw [v1, v2] at HP2
    show vx_V _ _ _ _ _ _ _ _ _ 12 [(0, .ref eu), (1, .int w)] []
    refine tail _ C2 S2 _ _ h HP2 ?_ ?_ (fun _ => ⟨?_, ?_⟩) (fun q y1 y2 y3 y4 => ?_) (by omega) (by omega)
    · rw [va_up_ne _ _ (Ne.symm d4), va_up_ne _ _ (Ne.symm d2), va_up_ne _ _ (Ne.symm d1), va_up_self]
    · rw [va_up_ne _ _ (Ne.symm d5), va_up_ne _ _ (Ne.symm d3), va_up_self]
    · rw [va_up_ne _ _ (Ne.symm d6), va_up_self]
    · rw [va_up_self]
    · rw [va_up_ne _ _ y4, va_up_ne _ _ y3, va_up_ne _ _ y2, va_up_ne _ _ y1]
theorem pool_r {r' : vx_h} (HP : pool cJ L r' V h C S) {b : Nat} {e : va_E} (he : r' b = some e) : h b = some e := by
  obtain ⟨ar, cp, cn, fn, HR, hV, hC, hS⟩ := HP
  exact rw_r HR he
theorem pool_o {r' : vx_h} (HP : pool cJ L r' V h C S) {p : Nat} (hp : p ∈ L) : ∃ e, h p = some (.inr (2, e)) := by
  obtain ⟨ar, cp, cn, fn, HR, hV, hC, hS⟩ := HP
  exact ⟨_, rw_obj HR hp⟩
set_option maxRecDepth 100000 in
set_option maxHeartbeats 8000000 in
theorem cE_step {j : Nat} (HP : pool cJ L (vx_up r eu (eOb ex ef ey eg es ed (bj j) a b c d)) V h C S) (hL : L.Nodup) (hdv : r ed = some (.inr (0, [.ref qo, .ref rs, .ref sc]))) (hed : ed ≠ eu) (hm : ∀ q ∈ [ex, ef, ey, eg, es, qo, rs, sc], q ∈ L) (hN : [ex, ef, ey, eg, es, qo, rs, sc].Nodup) (ht : tys[0]? = some (cJ, .long)) (s1 : nd 4294967296 (V ey) ≤ 2049) (s2 : nd 4294967296 (V rs) ≤ 2049) (s3 : nd 4294967296 (V qo) ≤ 2049) (hw : w = 0 ∨ w = 1) (hs : w = 1 → nd 4294967296 (V ef) ≤ 2049 ∧ nd 4294967296 (V eg) ≤ 2049) : vx_M l D vcl tys my_E_step lw_gd (rm_ 5 C S 110) [.ref eu, .int w] h (fun v h' k n => v = none ∧ ∃ (V' : Nat → Nat) (C' S' : Nat), pool cJ L (vx_up r eu (eOb ex ef ey eg es ed (bj (j + 1)) a b c d)) V' h' C' S' ∧ V' ex = V ey ∧ V' ey = V rs ∧ (w = 1 → V' ef = V eg ∧ V' eg = V qo * V eg + V ef) ∧ (∀ q, q ∉ [ex, ef, ey, eg, es] → V' q = V q) ∧ k + C' ≤ C ∧ n + S' ≤ S) := by
  have hN0 := hN
  simp only [List.nodup_cons, List.mem_cons, not_or, List.not_mem_nil, not_false_eq_true, and_true] at hN
  obtain ⟨⟨x1, x2, x3, x4, x5, x6, x7⟩, ⟨f1, f2, f3, f4, f5, f6⟩, ⟨y1, y2, y3, y4, y5⟩, ⟨g1, g2, g3, g4⟩, ⟨p1, p2, p3⟩, ⟨q1, q2⟩, r1, -⟩ := hN
  have hex := hm ex (by simp)
  have hef := hm ef (by simp)
  have hey := hm ey (by simp)
  have heg := hm eg (by simp)
  have hes := hm es (by simp)
  have hqo := hm qo (by simp)
  have hrs := hm rs (by simp)
  refine vx_M.ofV (cc := bc_E_step) (maxL := 2) (ret := none) (own := rE) false rfl (by decide +kernel) wC_E_step (fun q => by cases q) (Nat.le_of_ble_eq_true rfl) (fun A H0 G IG RG => ?_)
  show vx_V _ _ _ _ _ _ _ _ _ 0 [(0, .ref eu), (1, .int w)] []
  have tail : ∀ (V' : Nat → Nat) (C' S' k n : Nat) (h : vx_h), pool cJ L (vx_up r eu (eOb ex ef ey eg es ed (bj j) a b c d)) V' h C' S' → V' ex = V ey → V' ey = V rs → (w = 1 → V' ef = V eg ∧ V' eg = V qo * V eg + V ef) → (∀ q, q ∉ [ex, ef, ey, eg, es] → V' q = V q) → k + C' ≤ C → n + S' ≤ S → vx_V D vcl A H0 2 G h k n 84 [(0, .ref eu), (1, .int w)] [] := by
    intro V' C' S' k n h HP1 e1 e2 e3 e4 hk hn
    obtain ⟨ar, cp, cn, fn, HR, hV, hC, hS⟩ := HP1
    refine vx_aload_n IG dc_E_step_84 rfl 0 rfl ?_
    refine vx_aload_n IG dc_E_step_85 rfl 0 rfl ?_
    refine vx_get IG (rw_r HR vx_up_s) rfl 2 (by decide) inE wF_E_21 rfl rfl dc_E_step_86 ?_
    by_cases y : bj j = 0
    · refine vx_if_ne (tgt := 96) IG dc_E_step_89 (by decide) (fun c_ => absurd y c_) (fun _ => ?_)
      refine vx_iconst (v := 1) IG dc_E_step_92 (by decide) ?_
      refine vx_goto (tgt := 97) IG dc_E_step_93 (by decide) ?_
      refine er_put IG HR 2 (by decide) wF_E_21 rfl rfl (ty := .boolean) (by decide +kernel) rfl rfl (Nat.le_of_ble_eq_true rfl) dc_E_step_97 (fun h HR => ?_)
      replace HR : rw_at 2 cJ L (vx_up r eu (eOb ex ef ey eg es ed 1 a b c d)) ar cp cn fn h := HR
      refine vx_ret none RG (vx_endv dc_E_step_100) rfl ?_
      refine ⟨rfl, V', C', S', ⟨ar, cp, cn, fn, ?_, hV, hC, hS⟩, e1, e2, e3, e4, hk, hn⟩
      rw [bj_flip y]
      exact HR
    · refine vx_if_ne (tgt := 96) IG dc_E_step_89 (by decide) (fun _ => ?_) (fun c_ => absurd c_ y)
      refine vx_iconst (v := 0) IG dc_E_step_96 (by decide) ?_
      refine er_put IG HR 2 (by decide) wF_E_21 rfl rfl (ty := .boolean) (by decide +kernel) rfl rfl (Nat.le_of_ble_eq_true rfl) dc_E_step_97 (fun h HR => ?_)
      replace HR : rw_at 2 cJ L (vx_up r eu (eOb ex ef ey eg es ed 0 a b c d)) ar cp cn fn h := HR
      refine vx_ret none RG (vx_endv dc_E_step_100) rfl ?_
      refine ⟨rfl, V', C', S', ⟨ar, cp, cn, fn, ?_, hV, hC, hS⟩, e1, e2, e3, e4, hk, hn⟩
      rw [bj_flip1 y]
      exact HR
  have hdv' : (vx_up r eu (eOb ex ef ey eg es ed (bj j) a b c d)) ed = some (.inr (0, [.ref qo, .ref rs, .ref sc])) := by rw [vx_up_n hed]; exact hdv
  refine vx_aload_n IG dc_E_step_0 rfl 0 rfl ?_
  refine vx_get IG (pool_r HP vx_up_s) rfl 0 (by decide) inE wF_E_12 rfl rfl dc_E_step_1 ?_
  refine vx_aload_n IG dc_E_step_4 rfl 0 rfl ?_
  refine vx_get IG (pool_r HP vx_up_s) rfl 3 (by decide) inE wF_E_25 rfl rfl dc_E_step_5 ?_
  refine vx_callV (As := [.ref ey]) (st := []) IG lw_good (cW_copy HP hL hex hey ht (by omega)) ((pool_o HP hex).choose_spec) rfl wC_W_copy wL_E_58 wI_W_copy wS_W_copy wX_W 1 (by decide +kernel) rfl ⟨Nat.le_of_ble_eq_true rfl, Nat.le_of_ble_eq_true rfl⟩ ⟨(by dsimp only [rm_]; omega), (by dsimp only [rm_]; omega)⟩ rfl (Nat.le_of_ble_eq_true rfl) dc_E_step_8 (fun v h k1 n1 hq => ?_)
  obtain ⟨rfl, C1, S1, HP1, hk1, hm1⟩ := hq
  show vx_V _ _ _ _ _ _ _ _ _ 11 [(0, .ref eu), (1, .int w)] []
  refine vx_aload_n IG dc_E_step_11 rfl 0 rfl ?_
  refine vx_get IG (pool_r HP1 vx_up_s) rfl 3 (by decide) inE wF_E_25 rfl rfl dc_E_step_12 ?_
  refine vx_aload_n IG dc_E_step_15 rfl 0 rfl ?_
  refine vx_get IG (pool_r HP1 vx_up_s) rfl 6 (by decide) inE wF_E_37 rfl rfl dc_E_step_16 ?_
  refine vx_get IG (pool_r HP1 hdv') rfl 1 (by decide) inD wF_E_142 rfl rfl dc_E_step_19 ?_
  refine vx_callV (As := [.ref rs]) (st := []) IG lw_good (cW_copy HP1 hL hey hrs ht (by rw [va_up_ne _ _ (Ne.symm x6)]; omega)) ((pool_o HP1 hey).choose_spec) rfl wC_W_copy wL_E_58 wI_W_copy wS_W_copy wX_W 1 (by decide +kernel) rfl ⟨Nat.le_of_ble_eq_true rfl, Nat.le_of_ble_eq_true rfl⟩ ⟨(by dsimp only [rm_]; omega), (by dsimp only [rm_]; omega)⟩ rfl (Nat.le_of_ble_eq_true rfl) dc_E_step_22 (fun v h k2 n2 hq => ?_)
  obtain ⟨rfl, C2, S2, HP2, hk2, hm2⟩ := hq
  rw [va_up_ne _ _ (Ne.symm x6)] at HP2
  show vx_V _ _ _ _ _ _ _ _ _ 25 [(0, .ref eu), (1, .int w)] []
  refine vx_iload_n IG dc_E_step_25 rfl 1 rfl ?_
  have w1 : va_up (va_up V ex (V ey)) ey (V rs) ex = V ey := by rw [va_up_ne _ _ x2, va_up_self]
  by_cases hw0 : w = 0
  · refine vx_if_eq (tgt := 84) IG dc_E_step_26 (by decide) (fun _ => ?_) (fun c_ => absurd hw0 c_)
    refine tail _ C2 S2 _ _ h HP2 w1 (va_up_self _ _ _) (fun q => absurd (hw0.symm.trans q) (by decide)) (fun q hq => ?_) (by omega) (by omega)
    simp only [List.mem_cons, not_or] at hq
    rw [va_up_ne _ _ hq.2.2.1, va_up_ne _ _ hq.1]
  · refine vx_if_eq (tgt := 84) IG dc_E_step_26 (by decide) (fun c_ => absurd c_ hw0) (fun _ => ?_)
    have hw1 : w = 1 := hw.resolve_left hw0
    have v1 : va_up (va_up V ex (V ey)) ey (V rs) ef = V ef := by rw [va_up_ne _ _ f1, va_up_ne _ _ (Ne.symm x1)]
    have v2 : va_up (va_up V ex (V ey)) ey (V rs) eg = V eg := by rw [va_up_ne _ _ (Ne.symm y1), va_up_ne _ _ (Ne.symm x3)]
    have v3 : va_up (va_up V ex (V ey)) ey (V rs) qo = V qo := by rw [va_up_ne _ _ (Ne.symm y3), va_up_ne _ _ (Ne.symm x5)]
    have v4 : va_up (va_up V ex (V ey)) ey (V rs) ey = V rs := va_up_self _ _ _
    have v5 : ∀ q, q ≠ ex → q ≠ ey → va_up (va_up V ex (V ey)) ey (V rs) q = V q := fun q z1 z2 => by rw [va_up_ne _ _ z2, va_up_ne _ _ z1]
    generalize va_up (va_up V ex (V ey)) ey (V rs) = V2 at *
    obtain ⟨t1, t2⟩ := hs hw1
    refine vx_aload_n IG dc_E_step_29 rfl 0 rfl ?_
    refine vx_get IG (pool_r HP2 vx_up_s) rfl 5 (by decide) inE wF_E_31 rfl rfl dc_E_step_30 ?_
    refine vx_aload_n IG dc_E_step_33 rfl 0 rfl ?_
    refine vx_get IG (pool_r HP2 vx_up_s) rfl 6 (by decide) inE wF_E_37 rfl rfl dc_E_step_34 ?_
    refine vx_get IG (pool_r HP2 hdv') rfl 0 (by decide) inD wF_E_145 rfl rfl dc_E_step_37 ?_
    refine vx_aload_n IG dc_E_step_40 rfl 0 rfl ?_
    refine vx_get IG (pool_r HP2 vx_up_s) rfl 4 (by decide) inE wF_E_28 rfl rfl dc_E_step_41 ?_
    refine vx_callV (As := [.ref qo, .ref eg]) (st := []) IG lw_good (cW_product HP2 hL hes hqo heg (Ne.symm p1) g1 ht (by rw [v3, v2]; omega)) ((pool_o HP2 hes).choose_spec) rfl wC_W_product wL_E_148 wI_W_product wS_W_product wX_W 2 (by decide +kernel) rfl ⟨Nat.le_of_ble_eq_true rfl, Nat.le_of_ble_eq_true rfl⟩ ⟨(by dsimp only [rm_]; omega), (by dsimp only [rm_]; omega)⟩ rfl (Nat.le_of_ble_eq_true rfl) dc_E_step_44 (fun v h k3 n3 hq => ?_)
    obtain ⟨rfl, C3, S3, HP3, hk3, hm3⟩ := hq
    rw [v3, v2] at HP3
    have t3 := nd_mul (V qo) (V eg)
    show vx_V _ _ _ _ _ _ _ _ _ 47 [(0, .ref eu), (1, .int w)] []
    refine vx_aload_n IG dc_E_step_47 rfl 0 rfl ?_
    refine vx_get IG (pool_r HP3 vx_up_s) rfl 5 (by decide) inE wF_E_31 rfl rfl dc_E_step_48 ?_
    refine vx_aload_n IG dc_E_step_51 rfl 0 rfl ?_
    refine vx_get IG (pool_r HP3 vx_up_s) rfl 5 (by decide) inE wF_E_31 rfl rfl dc_E_step_52 ?_
    refine vx_aload_n IG dc_E_step_55 rfl 0 rfl ?_
    refine vx_get IG (pool_r HP3 vx_up_s) rfl 1 (by decide) inE wF_E_18 rfl rfl dc_E_step_56 ?_
    refine vx_callV (As := [.ref es, .ref ef]) (st := []) IG lw_good (cW_sum HP3 hL hes hes hef ht (by rw [va_up_self]; omega) (by rw [va_up_ne _ _ f3, v1]; omega)) ((pool_o HP3 hes).choose_spec) rfl wC_W_sum wL_E_151 wI_W_sum wS_W_sum wX_W 2 (by decide +kernel) rfl ⟨Nat.le_of_ble_eq_true rfl, Nat.le_of_ble_eq_true rfl⟩ ⟨(by dsimp only [rm_]; omega), (by dsimp only [rm_]; omega)⟩ rfl (Nat.le_of_ble_eq_true rfl) dc_E_step_59 (fun v h k4 n4 hq => ?_)
    obtain ⟨rfl, C4, S4, HP4, hk4, hm4⟩ := hq
    rw [va_up_self, va_up_ne _ _ f3, v1] at HP4
    have t4 := nd_add bB1 (V qo * V eg) (V ef)
    have t5 : nd 4294967296 (V qo * V eg + V ef) ≤ 4099 := by omega
    have u2 : va_up (va_up V2 es (V qo * V eg)) es (V qo * V eg + V ef) eg = V eg := by rw [va_up_ne _ _ g1, va_up_ne _ _ g1, v2]
    show vx_V _ _ _ _ _ _ _ _ _ 62 [(0, .ref eu), (1, .int w)] []
    refine vx_aload_n IG dc_E_step_62 rfl 0 rfl ?_
    refine vx_get IG (pool_r HP4 vx_up_s) rfl 1 (by decide) inE wF_E_18 rfl rfl dc_E_step_63 ?_
    refine vx_aload_n IG dc_E_step_66 rfl 0 rfl ?_
    refine vx_get IG (pool_r HP4 vx_up_s) rfl 4 (by decide) inE wF_E_28 rfl rfl dc_E_step_67 ?_
    refine vx_callV (As := [.ref eg]) (st := []) IG lw_good (cW_copy HP4 hL hef heg ht (by rw [u2]; omega)) ((pool_o HP4 hef).choose_spec) rfl wC_W_copy wL_E_58 wI_W_copy wS_W_copy wX_W 1 (by decide +kernel) rfl ⟨Nat.le_of_ble_eq_true rfl, Nat.le_of_ble_eq_true rfl⟩ ⟨(by dsimp only [rm_]; omega), (by dsimp only [rm_]; omega)⟩ rfl (Nat.le_of_ble_eq_true rfl) dc_E_step_70 (fun v h k5 n5 hq => ?_)
    obtain ⟨rfl, C5, S5, HP5, hk5, hm5⟩ := hq
    rw [u2] at HP5
    have u3 : va_up (va_up (va_up V2 es (V qo * V eg)) es (V qo * V eg + V ef)) ef (V eg) es = V qo * V eg + V ef := by rw [va_up_ne _ _ (Ne.symm f3), va_up_self]
    show vx_V _ _ _ _ _ _ _ _ _ 73 [(0, .ref eu), (1, .int w)] []
    refine vx_aload_n IG dc_E_step_73 rfl 0 rfl ?_
    refine vx_get IG (pool_r HP5 vx_up_s) rfl 4 (by decide) inE wF_E_28 rfl rfl dc_E_step_74 ?_
    refine vx_aload_n IG dc_E_step_77 rfl 0 rfl ?_
    refine vx_get IG (pool_r HP5 vx_up_s) rfl 5 (by decide) inE wF_E_31 rfl rfl dc_E_step_78 ?_
    refine vx_callV (As := [.ref es]) (st := []) IG lw_good (cW_copy HP5 hL heg hes ht (by rw [u3]; omega)) ((pool_o HP5 heg).choose_spec) rfl wC_W_copy wL_E_58 wI_W_copy wS_W_copy wX_W 1 (by decide +kernel) rfl ⟨Nat.le_of_ble_eq_true rfl, Nat.le_of_ble_eq_true rfl⟩ ⟨(by dsimp only [rm_]; omega), (by dsimp only [rm_]; omega)⟩ rfl (Nat.le_of_ble_eq_true rfl) dc_E_step_81 (fun v h k6 n6 hq => ?_)
    obtain ⟨rfl, C6, S6, HP6, hk6, hm6⟩ := hq
    rw [u3] at HP6
    show vx_V _ _ _ _ _ _ _ _ _ 84 [(0, .ref eu), (1, .int w)] []
    refine tail _ C6 S6 _ _ h HP6 ?_ ?_ (fun _ => ⟨?_, ?_⟩) (fun q hq => ?_) (by omega) (by omega)
    · rw [va_up_ne _ _ x3, va_up_ne _ _ x1, va_up_ne _ _ x4, va_up_ne _ _ x4, w1]
    · rw [va_up_ne _ _ y1, va_up_ne _ _ (Ne.symm f1), va_up_ne _ _ y2, va_up_ne _ _ y2, v4]
    · rw [va_up_ne _ _ f2, va_up_self]
    · rw [va_up_self]
    · simp only [List.mem_cons, not_or] at hq
      rw [va_up_ne _ _ hq.2.2.2.1, va_up_ne _ _ hq.2.1, va_up_ne _ _ hq.2.2.2.2.1, va_up_ne _ _ hq.2.2.2.2.1, v5 q hq.1 hq.2.2.1]
end
