/-! Divider: guess, takeOut -/
theorem vl_top2 {w : Nat → Nat} {m : Nat} (hw : ∀ j, j < m → w j < 4294967296) : vl 4294967296 w (m + 2) / 4294967296 ^ m = w (m + 1) * 4294967296 + w m := by
  rw [vl_split, Nat.add_mul_div_right _ _ (bp_pos bB1 m), Nat.div_eq_of_lt (vl_lt bB1 hw), Nat.zero_add]
  show 0 + w (m + 0) * 4294967296 ^ 0 + w (m + 1) * 4294967296 ^ 1 = _
  rw [Nat.add_zero]
  omega
theorem vl_top3 {w : Nat → Nat} {m : Nat} (hw : ∀ j, j < m → w j < 4294967296) : vl 4294967296 w (m + 3) / 4294967296 ^ m = (w (m + 2) * 4294967296 + w (m + 1)) * 4294967296 + w m := by
  rw [vl_split, Nat.add_mul_div_right _ _ (bp_pos bB1 m), Nat.div_eq_of_lt (vl_lt bB1 hw), Nat.zero_add]
  show 0 + w (m + 0) * 4294967296 ^ 0 + w (m + 1) * 4294967296 ^ 1 + w (m + 2) * 4294967296 ^ 2 = _
  rw [Nat.add_zero]
  omega
theorem gs_big {left x : Nat} (h : ¬ 4294967295 < left) (hx : x < 4294967296) : left * 4294967296 + x < 2 ^ 64 := by omega
theorem gs_prod {g s : Nat} (hg : g < 4294967296) (hs : s < 4294967296) : g * s < 2 ^ 64 := by
  have : g * s ≤ 4294967295 * 4294967295 := Nat.mul_le_mul (by omega) (by omega)
  omega
theorem gs_dn {g v1 v2 left pr u2 : Nat} (h3 : g * v1 + left = pr) (x : ¬ g * v2 ≤ left * 4294967296 + u2) : pr * 4294967296 + u2 < g * (v1 * 4294967296 + v2) := by
  rw [Nat.mul_add, ← Nat.mul_assoc, ← h3]
  generalize g * v1 = a at *
  generalize g * v2 = b at *
  omega
theorem gs_up {g v1 v2 left pr u2 : Nat} (h3 : g * v1 + left = pr) (x : g * v2 ≤ left * 4294967296 + u2) : g * (v1 * 4294967296 + v2) ≤ pr * 4294967296 + u2 := by
  rw [Nat.mul_add, ← Nat.mul_assoc, ← h3]
  generalize g * v1 = a at *
  generalize g * v2 = b at *
  omega
theorem cmpI_gt (a b : Nat) : 0 < cmpI a b ↔ b < a := by
  unfold cmpI
  by_cases h : a < b
  · rw [if_pos h]; exact ⟨fun q => absurd q (by decide), fun q => by omega⟩
  · rw [if_neg h]
    by_cases e : a = b
    · rw [if_pos e]; exact ⟨fun q => absurd q (by decide), fun q => by omega⟩
    · rw [if_neg e]; exact ⟨fun _ => by omega, fun _ => by decide⟩
theorem cmpI_ge (a b : Nat) : 0 ≤ cmpI a b ↔ b ≤ a := by
  unfold cmpI
  by_cases h : a < b
  · rw [if_pos h]; exact ⟨fun q => absurd q (by decide), fun q => by omega⟩
  · rw [if_neg h]
    by_cases e : a = b
    · rw [if_pos e]; exact ⟨fun _ => by omega, fun _ => by decide⟩
    · rw [if_neg e]; exact ⟨fun _ => by omega, fun _ => by decide⟩
section
variable {l : Launch} {D : va_G} {tys : List (ClassId × FieldType)} {cJ : ClassId} {L : List Nat} {r : vx_h} {ar cp : Nat → Nat} {cn : Nat → Int32} {fn : Nat → Nat → Int64} {dv qo rs sc : Nat} {h : vx_h}
set_option maxRecDepth 100000 in
set_option maxHeartbeats 4000000 in
/-- guess(place, n): the quotient's digit, or 1 more -/
theorem cD_guess (HR : rw_at 2 cJ L r ar cp cn fn h) (hdv : r dv = some (.inr (0, [.ref qo, .ref rs, .ref sc]))) (hrs : rs ∈ L) (hsc : sc ∈ L) (ht : tys[0]? = some (cJ, .long)) {place m tot : Nat} (d : Nat → Nat) (hd : ∀ i, i < tot → d i < 4294967296 ∧ fn rs i = lN (d i)) (htot : tot ≤ cp rs) (hpl : place + (m + 1) < tot) (s : Nat → Nat) (hs : ∀ i, i < m + 1 → s i < 4294967296 ∧ fn sc i = lN (s i)) (hn : m + 1 ≤ cp sc) (hhi : 2147483648 ≤ s m) (hW : vl 4294967296 (fun j => d (place + j)) (m + 2) < vl 4294967296 s (m + 1) * 4294967296) : vx_M l D vcl tys my_D_guess lw_gd (rm_ 2 0 0 46) [.ref dv, .int (nI place), .int (nI (m + 1))] h (fun v h' k n => h' = h ∧ k = 0 ∧ n = 0 ∧ ∃ g, v = some (.long (lN g)) ∧ g < 4294967296 ∧ vl 4294967296 (fun j => d (place + j)) (m + 2) / vl 4294967296 s (m + 1) ≤ g ∧ g ≤ vl 4294967296 (fun j => d (place + j)) (m + 2) / vl 4294967296 s (m + 1) + 1) := by
  have hc := rw_cap HR hrs
  have hc2 := rw_cap HR hsc
  have hu0 := hd (place + (m + 1)) (by omega)
  have hu1 := hd (place + m) (by omega)
  have hv1 := hs m (by omega)
  have hwd : ∀ j, j < m + 2 → (fun j => d (place + j)) j < 4294967296 := fun j hj => (hd (place + j) (by omega)).1
  have F1 : vl 4294967296 (fun j => d (place + j)) (m + 2) / 4294967296 ^ m = d (place + (m + 1)) * 4294967296 + d (place + m) := vl_top2 (fun j hj => hwd j (by omega))
  have hslt : vl 4294967296 s m < 4294967296 ^ m := vl_lt bB1 (fun j hj => (hs j (by omega)).1)
  have F2 : s m * 4294967296 ^ m ≤ vl 4294967296 s (m + 1) := by rw [vl_succ]; exact Nat.le_add_left _ _
  have F3 : vl 4294967296 s (m + 1) < (s m + 1) * 4294967296 ^ m := by rw [vl_succ, Nat.add_mul, Nat.one_mul]; omega
  have hbp := bp_pos bB1 m
  have hSpos : 0 < vl 4294967296 s (m + 1) := by
    have : 1 * 4294967296 ^ m ≤ s m * 4294967296 ^ m := Nat.mul_le_mul_right _ (by omega)
    omega
  have hq : vl 4294967296 (fun j => d (place + j)) (m + 2) / vl 4294967296 s (m + 1) < 4294967296 := by
    rw [Nat.div_lt_iff_lt_mul hSpos, Nat.mul_comm]; exact hW
  have F4 : d (place + (m + 1)) * 4294967296 + d (place + m) < (s m + 1) * 4294967296 := by
    rw [← F1, Nat.div_lt_iff_lt_mul hbp]
    have h1 := Nat.mul_lt_mul_of_pos_right F3 (show 0 < 4294967296 by decide)
    rw [Nat.mul_assoc, Nat.mul_comm (4294967296 ^ m), ← Nat.mul_assoc] at h1
    omega
  have hlo : vl 4294967296 (fun j => d (place + j)) (m + 2) / vl 4294967296 s (m + 1) ≤ (d (place + (m + 1)) * 4294967296 + d (place + m)) / s m := qg_lo hSpos hbp F2 F1.symm (by omega)
  generalize eW : vl 4294967296 (fun j => d (place + j)) (m + 2) = Wd at *
  generalize eS : vl 4294967296 s (m + 1) = Sv at *
  generalize eU : d (place + (m + 1)) = u0 at *
  generalize eV : d (place + m) = u1 at *
  refine vx_M.ofV (cc := bc_D_guess) (maxL := 17) (ret := some .long) (own := rD) false rfl (by decide +kernel) wC_D_guess (fun q => by cases q) (Nat.le_of_ble_eq_true rfl) (fun A H0 G IG RG => ?_)
  show vx_V _ _ _ _ _ _ _ _ _ 0 [(0, .ref dv), (1, .int (nI place)), (2, .int (nI (m + 1)))] []
  -- behind the first guess
  have second : ∀ (g : Nat), g < 4294967296 → Wd / Sv ≤ g → g * s m ≤ u0 * 4294967296 + u1 → (u0 * 4294967296 + u1) - g * s m < 8589934592 → (m = 0 → g = Wd / Sv) → vx_V D vcl A H0 17 G h 0 0 64 [(8, .long (lN g)), (6, .long (lN (u0 * 4294967296 + u1))), (4, .long (lN (s m))), (3, .ref (ar rs)), (0, .ref dv), (1, .int (nI place)), (2, .int (nI (m + 1)))] [] := by
    intro g hg hqg hgm hleft hm0
    refine vx_iload_n IG dc_D_guess_64 rfl 6 rfl ?_
    refine vx_iconst (v := 2) IG dc_D_guess_65 (by decide) ?_
    by_cases z : m = 0
    · refine vx_icmp_ge (tgt := 72) IG dc_D_guess_66 (by decide) (fun c_ => absurd c_ (nI_ge (b := 2) (by omega) (by decide))) (fun _ => ?_)
      refine vx_lload IG dc_D_guess_69 0 rfl ?_
      refine vx_ret (some (.long (lN g))) RG (vx_endl dc_D_guess_71) rfl ?_
      exact ⟨rfl, rfl, rfl, g, rfl, hg, hqg, by rw [hm0 z]; omega⟩
    · refine vx_icmp_ge (tgt := 72) IG dc_D_guess_66 (by decide) (fun _ => ?_) (fun c_ => absurd (nI_le (a := 2) (by omega) (by omega)) c_)
      obtain ⟨b, rfl⟩ : ∃ b, m = b + 1 := ⟨m - 1, by omega⟩
      have hv2 := hs b (by omega)
      have hu2 := hd (place + b) (by omega)
      have F5 : Wd / 4294967296 ^ b = (u0 * 4294967296 + u1) * 4294967296 + d (place + b) := by rw [← eW, ← eU, ← eV]; exact vl_top3 (fun j hj => hwd j (by omega))
      have hslt2 : vl 4294967296 s b < 4294967296 ^ b := vl_lt bB1 (fun j hj => (hs j (by omega)).1)
      have hSv : Sv = vl 4294967296 s b + (s (b + 1) * 4294967296 + s b) * 4294967296 ^ b := by
        rw [← eS, vl_succ, vl_succ, bp_succ, Nat.add_mul, Nat.mul_assoc, Nat.mul_comm 4294967296]
        omega
      have F6 : (s (b + 1) * 4294967296 + s b) * 4294967296 ^ b ≤ Sv := by omega
      have F7 : Sv < (s (b + 1) * 4294967296 + s b + 1) * 4294967296 ^ b := by rw [Nat.add_mul _ 1, Nat.one_mul]; omega
      have hbp2 := bp_pos bB1 b
      refine vx_aload_n IG dc_D_guess_72 rfl 4 rfl ?_
      refine vx_get IG (rw_r HR hdv) rfl 2 (by decide) inD wF_D_21 rfl rfl dc_D_guess_73 ?_
      refine wr_dig IG HR hsc wF_D_58 dc_D_guess_76 ?_
      refine vx_iload_n IG dc_D_guess_79 rfl 6 rfl ?_
      refine vx_iconst (v := 2) IG dc_D_guess_80 (by decide) ?_
      refine vx_isub IG dc_D_guess_81 ?_
      refine vx_topi (y := nI b) (by rw [show (2 : Int32) = nI 2 from rfl, pk_sub (by omega)]; congr 1) ?_
      refine wr_ald IG HR hsc ht b rfl (by omega) dc_D_guess_82 ?_
      refine vx_topl (y := lN (s b)) hv2.2 ?_
      refine vx_lstore (lv' := [(10, .long (lN (s b))), (8, .long (lN g)), (6, .long (lN (u0 * 4294967296 + u1))), (4, .long (lN (s (b + 1)))), (3, .ref (ar rs)), (0, .ref dv), (1, .int (nI place)), (2, .int (nI (b + 1 + 1)))]) IG dc_D_guess_83 (by decide) rfl ?_
      refine vx_aload_n IG dc_D_guess_85 rfl 4 rfl ?_
      refine vx_iload_n IG dc_D_guess_86 rfl 6 rfl ?_
      refine vx_iload_n IG dc_D_guess_87 rfl 7 rfl ?_
      refine vx_iadd IG dc_D_guess_88 ?_
      refine vx_topi (y := nI (place + (b + 1 + 1))) (nI_add _ _) ?_
      refine vx_iconst (v := 2) IG dc_D_guess_89 (by decide) ?_
      refine vx_isub IG dc_D_guess_90 ?_
      refine vx_topi (y := nI (place + b)) (by rw [show (2 : Int32) = nI 2 from rfl, pk_sub (by omega)]; congr 1) ?_
      refine wr_ald IG HR hrs ht (place + b) rfl (by omega) dc_D_guess_91 ?_
      refine vx_topl (y := lN (d (place + b))) hu2.2 ?_
      refine vx_lstore (lv' := [(12, .long (lN (d (place + b)))), (10, .long (lN (s b))), (8, .long (lN g)), (6, .long (lN (u0 * 4294967296 + u1))), (4, .long (lN (s (b + 1)))), (3, .ref (ar rs)), (0, .ref dv), (1, .int (nI place)), (2, .int (nI (b + 1 + 1)))]) IG dc_D_guess_92 (by decide) rfl ?_
      refine vx_lload IG dc_D_guess_94 3 rfl ?_
      refine vx_lload IG dc_D_guess_96 2 rfl ?_
      refine vx_lload IG dc_D_guess_98 4 rfl ?_
      refine vx_lmul IG dc_D_guess_100 ?_
      refine vx_topl (y := lN (g * s (b + 1))) (lN_mul _ _) ?_
      refine vx_lsub IG dc_D_guess_101 ?_
      refine vx_topl (y := lN (u0 * 4294967296 + u1 - g * s (b + 1))) (lN_sub hgm) ?_
      refine vx_lstore (lv' := [(14, .long (lN (u0 * 4294967296 + u1 - g * s (b + 1)))), (12, .long (lN (d (place + b)))), (10, .long (lN (s b))), (8, .long (lN g)), (6, .long (lN (u0 * 4294967296 + u1))), (4, .long (lN (s (b + 1)))), (3, .ref (ar rs)), (0, .ref dv), (1, .int (nI place)), (2, .int (nI (b + 1 + 1)))]) IG dc_D_guess_102 (by decide) rfl ?_
      refine vx_iconst (v := 0) IG dc_D_guess_104 (by decide) ?_
      refine vx_istore (lv' := [(16, .int 0), (14, .long (lN (u0 * 4294967296 + u1 - g * s (b + 1)))), (12, .long (lN (d (place + b)))), (10, .long (lN (s b))), (8, .long (lN g)), (6, .long (lN (u0 * 4294967296 + u1))), (4, .long (lN (s (b + 1)))), (3, .ref (ar rs)), (0, .ref dv), (1, .int (nI place)), (2, .int (nI (b + 1 + 1)))]) IG dc_D_guess_105 (by decide) rfl ?_
      have fin : ∀ (i g left : Nat), g < 4294967296 → Wd / Sv ≤ g → g * s (b + 1) + left = u0 * 4294967296 + u1 → g * s b ≤ left * 4294967296 + d (place + b) → g ≤ Wd / Sv + 1 := by
        intro i g left h1 h2 h3 h4
        exact qg_up hbp2 hSpos F7 F5.symm (gs_up h3 h4) (by omega)
      have loop : ∀ (j i g left : Nat), i + j = 2 → g < 4294967296 → Wd / Sv ≤ g → g * s (b + 1) + left = u0 * 4294967296 + u1 → i * s (b + 1) ≤ left → left < 17179869184 → vx_V D vcl A H0 17 G h 0 0 107 [(16, .int (nI i)), (14, .long (lN left)), (12, .long (lN (d (place + b)))), (10, .long (lN (s b))), (8, .long (lN g)), (6, .long (lN (u0 * 4294967296 + u1))), (4, .long (lN (s (b + 1)))), (3, .ref (ar rs)), (0, .ref dv), (1, .int (nI place)), (2, .int (nI (b + 1 + 1)))] [] := by
        intro j
        induction j with
        | zero =>
          intro i g left hij h1 h2 h3 h4 h5
          obtain rfl : i = 2 := by omega
          have h6 : g * s b ≤ 4294967295 * 4294967295 := Nat.mul_le_mul (by omega) (by omega)
          refine vx_iload IG dc_D_guess_107 0 rfl ?_
          refine vx_iconst (v := 2) IG dc_D_guess_109 (by decide) ?_
          refine vx_icmp_ge (tgt := 163) IG dc_D_guess_110 (by decide) (fun _ => ?_) (fun c_ => absurd (by decide) c_)
          refine vx_lload IG dc_D_guess_163 4 rfl ?_
          refine vx_ret (some (.long (lN g))) RG (vx_endl dc_D_guess_165) rfl ?_
          exact ⟨rfl, rfl, rfl, g, rfl, h1, h2, fin 2 g left h1 h2 h3 (by omega)⟩
        | succ j ih =>
          intro i g left hij h1 h2 h3 h4 h5
          have h6 : g * s b ≤ 4294967295 * 4294967295 := Nat.mul_le_mul (by omega) (by omega)
          refine vx_iload IG dc_D_guess_107 0 rfl ?_
          refine vx_iconst (v := 2) IG dc_D_guess_109 (by decide) ?_
          refine vx_icmp_ge (tgt := 163) IG dc_D_guess_110 (by decide) (fun c_ => absurd c_ (nI_ge (b := 2) (by omega) (by decide))) (fun _ => ?_)
          refine vx_lload IG dc_D_guess_113 1 rfl ?_
          refine vx_ldc2 (v := 4294967295) IG wK_D_83 dc_D_guess_115 ?_
          refine vx_lcmp IG dc_D_guess_118 ?_
          by_cases y : 4294967295 < left
          · refine vx_if_gt (tgt := 163) IG dc_D_guess_119 (by decide) (fun _ => ?_) (fun c_ => absurd ((lg_cmp_gt _ _).mpr ((pk_lLT (a := 4294967295) (by decide) (by omega)).mpr y)) c_)
            refine vx_lload IG dc_D_guess_163 4 rfl ?_
            refine vx_ret (some (.long (lN g))) RG (vx_endl dc_D_guess_165) rfl ?_
            exact ⟨rfl, rfl, rfl, g, rfl, h1, h2, fin i g left h1 h2 h3 (by omega)⟩
          · refine vx_if_gt (tgt := 163) IG dc_D_guess_119 (by decide) (fun c_ => absurd c_ (fun q => y ((pk_lLT (a := 4294967295) (by decide) (by omega)).mp ((lg_cmp_gt _ _).mp q)))) (fun _ => ?_)
            refine vx_lload IG dc_D_guess_122 4 rfl ?_
            refine vx_lload IG dc_D_guess_124 3 rfl ?_
            refine vx_lmul IG dc_D_guess_126 ?_
            refine vx_topl (y := lN (g * s b)) (lN_mul _ _) ?_
            refine vx_lload IG dc_D_guess_127 1 rfl ?_
            refine vx_bipush (v := 32) IG dc_D_guess_129 (by decide) ?_
            refine vx_lshl (v := lN (left * 4294967296)) IG dc_D_guess_131 (wb_shl (k := 32) _ (by decide)) ?_
            refine vx_lload IG dc_D_guess_132 2 rfl ?_
            refine vx_lor IG dc_D_guess_134 ?_
            refine vx_topl (y := lN (left * 4294967296 + d (place + b))) (g_or (k := 32) (p := 4294967296) rfl hu2.1 (gs_big y hu2.1)) ?_
            refine vx_callS (As := [.long (lN (g * s b)), .long (lN (left * 4294967296 + d (place + b)))]) (st := []) IG lw_good (cJL_compareUnsigned _ (a := g * s b) (b := left * 4294967296 + d (place + b)) (gs_prod h1 hv2.1) (gs_big y hu2.1)) wC_JL_compareUnsigned wL_D_89 wT_JL_compareUnsigned wX_JL 2 (by decide +kernel) rfl ⟨Nat.le_of_ble_eq_true rfl, Nat.le_of_ble_eq_true rfl⟩ ⟨(by decide), (by decide)⟩ rfl (Nat.le_of_ble_eq_true rfl) dc_D_guess_135 (fun v h k_ n_ hq => ?_)
            obtain ⟨rfl, rfl, rfl, rfl⟩ := hq
            show vx_V _ _ _ _ _ _ _ _ _ 138 [(16, .int (nI i)), (14, .long (lN left)), (12, .long (lN (d (place + b)))), (10, .long (lN (s b))), (8, .long (lN g)), (6, .long (lN (u0 * 4294967296 + u1))), (4, .long (lN (s (b + 1)))), (3, .ref (ar rs)), (0, .ref dv), (1, .int (nI place)), (2, .int (nI (b + 1 + 1)))] [.int (cmpI (g * s b) (left * 4294967296 + d (place + b)))]
            by_cases x : g * s b ≤ left * 4294967296 + d (place + b)
            · refine vx_if_gt (tgt := 144) IG dc_D_guess_138 (by decide) (fun c_ => absurd c_ (fun q => absurd ((cmpI_gt _ _).mp q) (Nat.not_lt.mpr x))) (fun _ => ?_)
              refine vx_goto (tgt := 163) IG dc_D_guess_141 (by decide) ?_
              refine vx_lload IG dc_D_guess_163 4 rfl ?_
              refine vx_ret (some (.long (lN g))) RG (vx_endl dc_D_guess_165) rfl ?_
              exact ⟨rfl, rfl, rfl, g, rfl, h1, h2, fin i g left h1 h2 h3 x⟩
            · refine vx_if_gt (tgt := 144) IG dc_D_guess_138 (by decide) (fun _ => ?_) (fun c_ => absurd ((cmpI_gt _ _).mpr (Nat.lt_of_not_le x)) c_)
              have hdn : Wd / Sv < g := by
                exact qg_down (t := (u0 * 4294967296 + u1) * 4294967296 + d (place + b)) hbp2 hSpos F6 F5.symm (gs_dn h3 x)
              obtain ⟨g', rfl⟩ : ∃ g', g = g' + 1 := ⟨g - 1, by have := Nat.lt_of_le_of_lt (Nat.zero_le _) hdn; omega⟩
              refine vx_lload IG dc_D_guess_144 4 rfl ?_
              refine vx_lconst (v := 1) IG dc_D_guess_146 (by decide) ?_
              refine vx_lsub IG dc_D_guess_147 ?_
              refine vx_topl (y := lN g') (by rw [show (1 : Int64) = lN 1 from rfl, lN_sub (by omega)]; congr 1) ?_
              refine vx_lstore (lv' := [(8, .long (lN g')), (16, .int (nI i)), (14, .long (lN left)), (12, .long (lN (d (place + b)))), (10, .long (lN (s b))), (6, .long (lN (u0 * 4294967296 + u1))), (4, .long (lN (s (b + 1)))), (3, .ref (ar rs)), (0, .ref dv), (1, .int (nI place)), (2, .int (nI (b + 1 + 1)))]) IG dc_D_guess_148 (by decide) rfl ?_
              refine vx_lload IG dc_D_guess_150 2 rfl ?_
              refine vx_lload IG dc_D_guess_152 6 rfl ?_
              refine vx_ladd IG dc_D_guess_154 ?_
              refine vx_topl (y := lN (left + s (b + 1))) (lN_add _ _) ?_
              refine vx_lstore (lv' := [(14, .long (lN (left + s (b + 1)))), (8, .long (lN g')), (16, .int (nI i)), (12, .long (lN (d (place + b)))), (10, .long (lN (s b))), (6, .long (lN (u0 * 4294967296 + u1))), (4, .long (lN (s (b + 1)))), (3, .ref (ar rs)), (0, .ref dv), (1, .int (nI place)), (2, .int (nI (b + 1 + 1)))]) IG dc_D_guess_155 (by decide) rfl ?_
              refine vx_iinc (q := 2) (v := nI (i + 1)) (lv' := [(16, .int (nI (i + 1))), (14, .long (lN (left + s (b + 1)))), (8, .long (lN g')), (12, .long (lN (d (place + b)))), (10, .long (lN (s b))), (6, .long (lN (u0 * 4294967296 + u1))), (4, .long (lN (s (b + 1)))), (3, .ref (ar rs)), (0, .ref dv), (1, .int (nI place)), (2, .int (nI (b + 1 + 1)))]) IG dc_D_guess_157 rfl (nI_1 i) (by decide) rfl ?_
              refine vx_goto (tgt := 107) IG dc_D_guess_160 (by decide) ?_
              refine vx_same (lv' := [(16, .int (nI (i + 1))), (14, .long (lN (left + s (b + 1)))), (12, .long (lN (d (place + b)))), (10, .long (lN (s b))), (8, .long (lN g')), (6, .long (lN (u0 * 4294967296 + u1))), (4, .long (lN (s (b + 1)))), (3, .ref (ar rs)), (0, .ref dv), (1, .int (nI place)), (2, .int (nI (b + 1 + 1)))]) IG [0, 1, 3, 4, 2, 5, 6, 7, 8, 9, 10] rfl ?_
              exact ih (i + 1) g' (left + s (b + 1)) (by omega) (by omega) (by omega) (by rw [Nat.add_mul] at h3; omega) (by rw [Nat.add_mul]; omega) (by omega)
      rw [show (0 : Int32) = nI 0 from rfl]
      exact loop 2 0 g _ rfl hg hqg (by omega) (by omega) (by omega)
  refine vx_aload_n IG dc_D_guess_0 rfl 0 rfl ?_
  refine vx_get IG (rw_r HR hdv) rfl 1 (by decide) inD wF_D_18 rfl rfl dc_D_guess_1 ?_
  refine wr_dig IG HR hrs wF_D_58 dc_D_guess_4 ?_
  refine vx_astore_n (lv' := [(3, .ref (ar rs)), (0, .ref dv), (1, .int (nI place)), (2, .int (nI (m + 1)))]) IG dc_D_guess_7 rfl (by decide) rfl ?_
  refine vx_aload_n IG dc_D_guess_8 rfl 1 rfl ?_
  refine vx_get IG (rw_r HR hdv) rfl 2 (by decide) inD wF_D_21 rfl rfl dc_D_guess_9 ?_
  refine wr_dig IG HR hsc wF_D_58 dc_D_guess_12 ?_
  refine vx_iload_n IG dc_D_guess_15 rfl 3 rfl ?_
  refine vx_iconst (v := 1) IG dc_D_guess_16 (by decide) ?_
  refine vx_isub IG dc_D_guess_17 ?_
  refine vx_topi (y := nI m) (nI_pred m) ?_
  refine wr_ald IG HR hsc ht m rfl (by omega) dc_D_guess_18 ?_
  refine vx_topl (y := lN (s m)) hv1.2 ?_
  refine vx_lstore (lv' := [(4, .long (lN (s m))), (3, .ref (ar rs)), (0, .ref dv), (1, .int (nI place)), (2, .int (nI (m + 1)))]) IG dc_D_guess_19 (by decide) rfl ?_
  refine vx_aload_n IG dc_D_guess_21 rfl 1 rfl ?_
  refine vx_iload_n IG dc_D_guess_22 rfl 3 rfl ?_
  refine vx_iload_n IG dc_D_guess_23 rfl 4 rfl ?_
  refine vx_iadd IG dc_D_guess_24 ?_
  refine vx_topi (y := nI (place + (m + 1))) (nI_add _ _) ?_
  refine wr_ald IG HR hrs ht (place + (m + 1)) rfl (by omega) dc_D_guess_25 ?_
  refine vx_topl (y := lN u0) hu0.2 ?_
  refine vx_bipush (v := 32) IG dc_D_guess_26 (by decide) ?_
  refine vx_lshl (v := lN (u0 * 4294967296)) IG dc_D_guess_28 (wb_shl (k := 32) _ (by decide)) ?_
  refine vx_aload_n IG dc_D_guess_29 rfl 1 rfl ?_
  refine vx_iload_n IG dc_D_guess_30 rfl 3 rfl ?_
  refine vx_iload_n IG dc_D_guess_31 rfl 4 rfl ?_
  refine vx_iadd IG dc_D_guess_32 ?_
  refine vx_topi (y := nI (place + (m + 1))) (nI_add _ _) ?_
  refine vx_iconst (v := 1) IG dc_D_guess_33 (by decide) ?_
  refine vx_isub IG dc_D_guess_34 ?_
  refine vx_topi (y := nI (place + m)) (nI_pred (place + m)) ?_
  refine wr_ald IG HR hrs ht (place + m) rfl (by omega) dc_D_guess_35 ?_
  refine vx_topl (y := lN u1) hu1.2 ?_
  refine vx_lor IG dc_D_guess_36 ?_
  refine vx_topl (y := lN (u0 * 4294967296 + u1)) (g_or (k := 32) (p := 4294967296) rfl hu1.1 (by omega)) ?_
  refine vx_lstore (lv' := [(6, .long (lN (u0 * 4294967296 + u1))), (4, .long (lN (s m))), (3, .ref (ar rs)), (0, .ref dv), (1, .int (nI place)), (2, .int (nI (m + 1)))]) IG dc_D_guess_37 (by decide) rfl ?_
  refine vx_ldc2 (v := 4294967295) IG wK_D_83 dc_D_guess_39 ?_
  refine vx_lstore (lv' := [(8, .long 4294967295), (6, .long (lN (u0 * 4294967296 + u1))), (4, .long (lN (s m))), (3, .ref (ar rs)), (0, .ref dv), (1, .int (nI place)), (2, .int (nI (m + 1)))]) IG dc_D_guess_42 (by decide) rfl ?_
  refine vx_aload_n IG dc_D_guess_44 rfl 3 rfl ?_
  refine vx_iload_n IG dc_D_guess_45 rfl 5 rfl ?_
  refine vx_iload_n IG dc_D_guess_46 rfl 6 rfl ?_
  refine vx_iadd IG dc_D_guess_47 ?_
  refine vx_topi (y := nI (place + (m + 1))) (nI_add _ _) ?_
  refine wr_ald IG HR hrs ht (place + (m + 1)) rfl (by omega) dc_D_guess_48 ?_
  refine vx_topl (y := lN u0) hu0.2 ?_
  refine vx_lload IG dc_D_guess_49 2 rfl ?_
  refine vx_lcmp IG dc_D_guess_51 ?_
  by_cases z : u0 < s m
  · refine vx_if_ge (tgt := 64) IG dc_D_guess_52 (by decide) (fun c_ => absurd c_ (fun q => absurd ((pk_lLT (by omega) (by omega)).mpr z) (Int64.not_lt.mpr ((lg_cmp_ge _ _).mp q)))) (fun _ => ?_)
    refine vx_lload IG dc_D_guess_55 1 rfl ?_
    refine vx_lload IG dc_D_guess_57 2 rfl ?_
    refine vx_callS (As := [.long (lN (u0 * 4294967296 + u1)), .long (lN (s m))]) (st := []) IG lw_good (cD_quotientOfPair _ (u := u0 * 4294967296 + u1) (v := s m) (by omega) (by omega) hv1.1) wC_D_quotientOfPair wL_D_85 wT_D_quotientOfPair wX_D 2 (by decide +kernel) rfl ⟨Nat.le_of_ble_eq_true rfl, Nat.le_of_ble_eq_true rfl⟩ ⟨(by decide), (by decide)⟩ rfl (Nat.le_of_ble_eq_true rfl) dc_D_guess_59 (fun v h k_ n_ hq => ?_)
    obtain ⟨rfl, rfl, rfl, rfl⟩ := hq
    show vx_V _ _ _ _ _ _ _ _ _ 62 [(8, .long 4294967295), (6, .long (lN (u0 * 4294967296 + u1))), (4, .long (lN (s m))), (3, .ref (ar rs)), (0, .ref dv), (1, .int (nI place)), (2, .int (nI (m + 1)))] [.long (lN ((u0 * 4294967296 + u1) / s m))]
    refine vx_lstore (lv' := [(8, .long (lN ((u0 * 4294967296 + u1) / s m))), (6, .long (lN (u0 * 4294967296 + u1))), (4, .long (lN (s m))), (3, .ref (ar rs)), (0, .ref dv), (1, .int (nI place)), (2, .int (nI (m + 1)))]) IG dc_D_guess_62 (by decide) rfl ?_
    refine vx_same (lv' := [(8, .long (lN ((u0 * 4294967296 + u1) / s m))), (6, .long (lN (u0 * 4294967296 + u1))), (4, .long (lN (s m))), (3, .ref (ar rs)), (0, .ref dv), (1, .int (nI place)), (2, .int (nI (m + 1)))]) IG [0, 1, 2, 3, 4, 5, 6] rfl ?_
    have hdm := Nat.div_add_mod (u0 * 4294967296 + u1) (s m)
    have hml := Nat.mod_lt (u0 * 4294967296 + u1) (show 0 < s m by omega)
    have hcm := Nat.mul_comm (s m) ((u0 * 4294967296 + u1) / s m)
    refine second _ ?_ hlo (by omega) (by omega) (fun hm => ?_)
    · rw [Nat.div_lt_iff_lt_mul (by omega)]
      have : (u0 + 1) * 4294967296 ≤ s m * 4294967296 := Nat.mul_le_mul_right _ z
      rw [Nat.mul_comm]
      omega
    · subst hm
      rw [Nat.pow_zero, Nat.div_one] at F1
      rw [← F1]
      congr 1
      rw [← eS]
      show s 0 = 0 + s 0 * 4294967296 ^ 0
      omega
  · refine vx_if_ge (tgt := 64) IG dc_D_guess_52 (by decide) (fun _ => ?_) (fun c_ => absurd ((lg_cmp_ge _ _).mpr ((pk_lLE (by omega) (by omega)).mpr (by omega))) c_)
    refine vx_same (lv' := [(8, .long 4294967295), (6, .long (lN (u0 * 4294967296 + u1))), (4, .long (lN (s m))), (3, .ref (ar rs)), (0, .ref dv), (1, .int (nI place)), (2, .int (nI (m + 1)))]) IG [0, 1, 2, 3, 4, 5, 6] rfl ?_
    have hus : u0 = s m := by omega
    refine second 4294967295 (by decide) (by omega) (by rw [hus]; omega) (by rw [hus]; omega) (fun hm => ?_)
    subst hm
    rw [Nat.pow_zero, Nat.div_one] at F1
    have e9 : Sv = s 0 := by rw [← eS]; show 0 + s 0 * 4294967296 ^ 0 = s 0; omega
    rw [F1, e9, hus] at hW
    omega
end
