/-! the law: its loop, its beginning -/
section
variable {l : Launch} {D : va_G} {tys : List (ClassId × FieldType)} {cJ cQ cZ cI : ClassId} {ad q : Nat → Nat} {h r0 : vx_h} {X : Nat → Int} {W : Nat → Nat} {C S b : Nat} {A : Nat → Prop} {H0 : Heap} {G : vx_G} {L bs : Nat} {xs : Nat → Int32}
theorem fresh_ne (LY : lay cQ ad r0) (HM : mw cJ cZ ad r0 W X h C S) (hb : h b = none) : (b ≠ ad 30 ∧ b ≠ ad 31 ∧ b ≠ ad 33 ∧ b ≠ ad 35) ∧ b ≠ ad 32 ∧ b ≠ ad 34 := by
  have ne : ∀ {x : Nat} {e : va_E}, h x = some e → b ≠ x := fun he z => by rw [← z, hb] at he; cases he
  have i : ∀ a c, a < 36 → c < 36 → a ≠ c → ad a ≠ ad c := fun a c h1 h2 h3 => inj_ne LY.1 h1 h2 h3
  obtain ⟨f, e1, -⟩ := LY.2.2.1
  refine ⟨⟨ne (mo_M LY HM), ne (mw_r HM (i _ _ (by decide) (by decide) (by decide)) (i _ _ (by decide) (by decide) (by decide)) e1), ne (mo_D LY HM), ne (mw_r HM (i _ _ (by decide) (by decide) (by decide)) (i _ _ (by decide) (by decide) (by decide)) LY.2.2.2.2)⟩, ne (mw_32 LY HM), ne (mo_E' HM).choose_spec⟩
set_option maxRecDepth 100000 in
set_option maxHeartbeats 8000000 in
theorem law_loop (IG : vx_I l D vcl tys room_1 "SignedMillLaw" bc_L_law 4 lw_gd false A H0 G) (SL : scR D A H0 G bs L xs) (ht : tys[0]? = some (cJ, .long)) (ht1 : tys[1]? = some (cQ, .object "SignedMill$Whole")) (ht2 : tys[2]? = some (cZ, .boolean)) (ht3 : tys[3]? = some (cI, .int)) (hL : L ≤ 3072) : ∀ (m i k n : Nat) (X : Nat → Int) (h : vx_h) (C S : Nat), L ≤ i + m → i ≤ L → JM cJ cQ cZ cI ad q X X h C S → k + C ≤ 600000 → n + S ≤ 7302250 → vx_V D vcl A H0 4 G h k n 18 [(3, .int (nI i)), (2, .ref (q 0)), (1, .ref (ad 30)), (0, .ref bs)] [] := by
  intro m
  induction m with
  | zero =>
    intro i k n X h C S hm hiL J hk hn
    refine vx_iload_n IG dc_L_law_18 rfl 0 rfl ?_
    refine vx_aload_n IG dc_L_law_19 rfl 3 rfl ?_
    refine SL.2.1 _ _ _ _ _ _ dc_L_law_20 ?_
    refine vx_bipush (v := 6) IG dc_L_law_21 (by decide) ?_
    refine vx_isub IG dc_L_law_23 ?_
    refine vx_icmp_gt (tgt := 1067) IG dc_L_law_24 (by decide) (fun _ => ?_) (fun c_ => absurd (by rw [Int32.lt_iff_toInt_lt, nI_toInt (by omega)]; have := pk_sub_toInt (a := L) (b := 6) (by omega) (by decide); have e6 : (nI L - 6).toInt = (L : Int) - 6 := this; rw [e6]; omega) c_)
    refine vx_iconst (v := 1) IG dc_L_law_1067 (by decide) ?_
    exact SL.2.2 _ _ _ _ _ (by omega) (by omega) dc_L_law_1068
  | succ m ih =>
    intro i k n X h C S hm hiL J hk hn
    refine vx_iload_n IG dc_L_law_18 rfl 0 rfl ?_
    refine vx_aload_n IG dc_L_law_19 rfl 3 rfl ?_
    refine SL.2.1 _ _ _ _ _ _ dc_L_law_20 ?_
    refine vx_bipush (v := 6) IG dc_L_law_21 (by decide) ?_
    refine vx_isub IG dc_L_law_23 ?_
    by_cases hi : i + 6 ≤ L
    · have e6 : nI L - 6 = nI (L - 6) := pk_sub (b := 6) (by omega)
      refine vx_icmp_gt (tgt := 1067) IG dc_L_law_24 (by decide) (fun c_ => absurd c_ (fun c => absurd (nI_le (a := i) (b := L - 6) (by omega) (by omega)) (Int32.not_le.mpr (e6 ▸ c)))) (fun _ => ?_)
      obtain ⟨j, hj, ej⟩ := pk_andE (xs i) (m := 31) 5 (by decide)
      have hj32 : j < 32 := hj
      refine vx_aload_n IG dc_L_law_27 rfl 3 rfl ?_
      refine vx_iload_n IG dc_L_law_28 rfl 0 rfl ?_
      refine SL.1 _ _ _ _ _ _ _ (by omega) dc_L_law_29 ?_
      refine vx_bipush (v := 31) IG dc_L_law_30 (by decide) ?_
      refine vx_iand IG dc_L_law_32 ?_
      refine vx_topi (y := nI j) ej ?_
      have NX : nxL cJ cQ cZ cI ad q D A H0 G i bs := by
        intro X' h' C' S' k' n' J' hk' hn'
        refine vx_iinc (q := 0) (v := nI (i + 6)) (lv' := [(3, .int (nI (i + 6))), (2, .ref (q 0)), (1, .ref (ad 30)), (0, .ref bs)]) IG dc_L_law_1061 rfl (nI_add i 6) (by decide) rfl ?_
        refine vx_goto (tgt := 18) IG dc_L_law_1064 (by decide) ?_
        exact ih (i + 6) _ _ X' h' C' S' (by omega) hi J' hk' hn'
      rcases (show j = 0 ∨ j = 1 ∨ j = 2 ∨ j = 3 ∨ j = 4 ∨ j = 5 ∨ j = 6 ∨ j = 7 ∨ j = 8 ∨ j = 9 ∨ j = 10 ∨ j = 11 ∨ j = 12 ∨ j = 13 ∨ j = 14 ∨ j = 15 ∨ j = 16 ∨ j = 17 ∨ j = 18 ∨ j = 19 ∨ j = 20 ∨ 21 ≤ j by omega) with rfl | rfl | rfl | rfl | rfl | rfl | rfl | rfl | rfl | rfl | rfl | rfl | rfl | rfl | rfl | rfl | rfl | rfl | rfl | rfl | rfl | hj21
      · refine vx_tableIn (off := 99) (tgt := 132) IG dc_L_law_33 (by decide) (by decide) rfl (by decide) ?_
        exact lc_put IG SL J ht ht1 ht2 ht3 hk hn hi NX
      · refine vx_tableIn (off := 162) (tgt := 195) IG dc_L_law_33 (by decide) (by decide) rfl (by decide) ?_
        exact lc_push IG SL J ht ht1 ht2 ht3 hk hn hi NX
      · refine vx_tableIn (off := 225) (tgt := 258) IG dc_L_law_33 (by decide) (by decide) rfl (by decide) ?_
        exact lc_spread IG SL J ht ht1 ht2 ht3 hk hn hi NX
      · refine vx_tableIn (off := 298) (tgt := 331) IG dc_L_law_33 (by decide) (by decide) rfl (by decide) ?_
        exact lc_negate IG SL J ht ht1 ht2 ht3 hk hn hi NX
      · refine vx_tableIn (off := 331) (tgt := 364) IG dc_L_law_33 (by decide) (by decide) rfl (by decide) ?_
        exact lc_add IG SL J ht ht1 ht2 ht3 hk hn hi NX
      · refine vx_tableIn (off := 374) (tgt := 407) IG dc_L_law_33 (by decide) (by decide) rfl (by decide) ?_
        exact lc_take IG SL J ht ht1 ht2 ht3 hk hn hi NX
      · refine vx_tableIn (off := 417) (tgt := 450) IG dc_L_law_33 (by decide) (by decide) rfl (by decide) ?_
        exact lc_times IG SL J ht ht1 ht2 ht3 hk hn hi NX
      · refine vx_tableIn (off := 460) (tgt := 493) IG dc_L_law_33 (by decide) (by decide) rfl (by decide) ?_
        exact lc_divide IG SL J ht ht1 ht2 ht3 hk hn hi NX
      · refine vx_tableIn (off := 539) (tgt := 572) IG dc_L_law_33 (by decide) (by decide) rfl (by decide) ?_
        exact lc_logic IG SL J ht ht1 ht2 ht3 hk hn hi NX
      · refine vx_tableIn (off := 592) (tgt := 625) IG dc_L_law_33 (by decide) (by decide) rfl (by decide) ?_
        exact lc_shift IG SL J ht ht1 ht2 ht3 hk hn hi NX
      · refine vx_tableIn (off := 635) (tgt := 668) IG dc_L_law_33 (by decide) (by decide) rfl (by decide) ?_
        exact lc_change IG SL J ht ht1 ht2 ht3 hk hn hi NX
      · refine vx_tableIn (off := 688) (tgt := 721) IG dc_L_law_33 (by decide) (by decide) rfl (by decide) ?_
        exact lc_power IG SL J ht ht1 ht2 ht3 hk hn hi NX
      · refine vx_tableIn (off := 731) (tgt := 764) IG dc_L_law_33 (by decide) (by decide) rfl (by decide) ?_
        exact lc_common IG SL J ht ht1 ht2 ht3 hk hn hi NX
      · refine vx_tableIn (off := 774) (tgt := 807) IG dc_L_law_33 (by decide) (by decide) rfl (by decide) ?_
        exact lc_inverse IG SL J ht ht1 ht2 ht3 hk hn hi NX
      · refine vx_tableIn (off := 817) (tgt := 850) IG dc_L_law_33 (by decide) (by decide) rfl (by decide) ?_
        exact lc_modulo IG SL J ht ht1 ht2 ht3 hk hn hi NX
      · refine vx_tableIn (off := 870) (tgt := 903) IG dc_L_law_33 (by decide) (by decide) rfl (by decide) ?_
        exact lc_compare IG SL J ht ht1 ht2 ht3 hk hn hi NX
      · refine vx_tableIn (off := 903) (tgt := 936) IG dc_L_law_33 (by decide) (by decide) rfl (by decide) ?_
        exact lc_sign IG SL J ht ht1 ht2 ht3 hk hn hi NX
      · refine vx_tableIn (off := 926) (tgt := 959) IG dc_L_law_33 (by decide) (by decide) rfl (by decide) ?_
        exact lc_length IG SL J ht ht1 ht2 ht3 hk hn hi NX
      · refine vx_tableIn (off := 949) (tgt := 982) IG dc_L_law_33 (by decide) (by decide) rfl (by decide) ?_
        exact lc_ones IG SL J ht ht1 ht2 ht3 hk hn hi NX
      · refine vx_tableIn (off := 972) (tgt := 1005) IG dc_L_law_33 (by decide) (by decide) rfl (by decide) ?_
        exact lc_lowest IG SL J ht ht1 ht2 ht3 hk hn hi NX
      · refine vx_tableIn (off := 995) (tgt := 1028) IG dc_L_law_33 (by decide) (by decide) rfl (by decide) ?_
        exact lc_word IG SL J ht ht1 ht2 ht3 hk hn hi NX
      · refine vx_tableOut (tgt := 1061) IG dc_L_law_33 (Or.inr (by rw [nI_toInt (by omega)]; omega)) (by decide) ?_
        exact NX X h C S k n J hk hn
    · refine vx_icmp_gt (tgt := 1067) IG dc_L_law_24 (by decide) (fun _ => ?_) (fun c_ => absurd (by rw [Int32.lt_iff_toInt_lt, nI_toInt (by omega)]; have := pk_sub_toInt (a := L) (b := 6) (by omega) (by decide); have e6 : (nI L - 6).toInt = (L : Int) - 6 := this; rw [e6]; omega) c_)
      refine vx_iconst (v := 1) IG dc_L_law_1067 (by decide) ?_
      exact SL.2.2 _ _ _ _ _ (by omega) (by omega) dc_L_law_1068
set_option maxRecDepth 100000 in
set_option maxHeartbeats 8000000 in
theorem law_begin (IG : vx_I l D vcl tys room_1 "SignedMillLaw" bc_L_law 4 lw_gd false A H0 G) (SL : scR D A H0 G bs L xs) (ht : tys[0]? = some (cJ, .long)) (ht1 : tys[1]? = some (cQ, .object "SignedMill$Whole")) (ht2 : tys[2]? = some (cZ, .boolean)) (ht3 : tys[3]? = some (cI, .int)) (hL : L ≤ 3072) : vx_V D vcl A H0 4 G (fun _ => none) 0 0 0 [(0, .ref bs)] [] := by
  refine vx_new IG (ci := 3) (C := rM) rfl inM fM tyM wY_L_7 wZ_M wX_M (fs := [.null, .null, .null, .null, .null, .null, .null]) dfM (Nat.le_of_ble_eq_true rfl) (Nat.le_of_ble_eq_true rfl) dc_L_law_0 (fun p30 hp30 => ?_)
  have HP : pool cJ [] (vx_up (fun _ => none) p30 (.inr (3, [.null, .null, .null, .null, .null, .null, .null]))) z0 (vx_up (fun _ => none) p30 (.inr (3, [.null, .null, .null, .null, .null, .null, .null]))) 0 0 := pool_nil (fun b e he => he)
  refine vx_dup IG dc_L_law_3 rfl ?_
  refine vx_callI (As := []) (st := [.ref p30]) IG lw_good (cM_init HP (up_some _ _ _) ht ht1 ht2) rfl wC_M_init wL_L_9 wI_M_init wX_M 0 (by decide +kernel) rfl ⟨Nat.le_of_ble_eq_true rfl, Nat.le_of_ble_eq_true rfl⟩ ⟨(Nat.le_of_ble_eq_true rfl), (Nat.le_of_ble_eq_true rfl)⟩ rfl (Nat.le_of_ble_eq_true rfl) dc_L_law_4 (fun v h k_ n_ hq => ?_)
  obtain ⟨rfl, rfl, rfl, g1, ad, r0, e30, LY, HM⟩ := hq
  show vx_V _ _ _ _ _ _ _ _ _ 7 [(0, .ref bs)] [.ref p30]
  refine vx_astore_n (lv' := [(1, .ref p30), (0, .ref bs)]) IG dc_L_law_7 rfl (by decide) rfl ?_
  refine vx_new IG (ci := 4) (C := rR) rfl inR fR tyR wY_L_10 wZ_R wX_R (fs := [.null, .null, .null]) dfR (Nat.le_of_ble_eq_true rfl) (Nat.le_of_ble_eq_true rfl) dc_L_law_8 (fun q0 hq0 => ?_)
  refine vx_dup IG dc_L_law_11 rfl ?_
  refine vx_callI (As := []) (st := [.ref q0]) IG lw_good (cR_init vx_up_s ht2 ht3) rfl wC_R_init wL_L_12 wI_R_init wX_R 0 (by decide +kernel) rfl ⟨Nat.le_of_ble_eq_true rfl, Nat.le_of_ble_eq_true rfl⟩ ⟨(Nat.le_of_ble_eq_true rfl), (by show 0 + 7 + 229 + 3 + 131176 ≤ 7302250; omega)⟩ rfl (Nat.le_of_ble_eq_true rfl) dc_L_law_12 (fun v h k_ n_ hq => ?_)
  rename_i h2
  obtain ⟨rfl, rfl, rfl, a1, a2, a3, f1, f2, f3, n12, n13, n23, rfl⟩ := hq
  rw [vx_up_up]
  show vx_V _ _ _ _ _ _ _ _ _ 15 [(1, .ref p30), (0, .ref bs)] [.ref q0]
  refine vx_astore_n (lv' := [(2, .ref q0), (1, .ref p30), (0, .ref bs)]) IG dc_L_law_15 rfl (by decide) rfl ?_
  refine vx_iconst (v := 0) IG dc_L_law_16 (by decide) ?_
  refine vx_istore_n (lv' := [(3, .int 0), (2, .ref q0), (1, .ref p30), (0, .ref bs)]) IG dc_L_law_17 rfl (by decide) rfl ?_
  have ne : ∀ {x : Nat}, vx_up h2 q0 (.inr (4, [.null, .null, .null])) x = none → x ≠ q0 := fun hx z => by rw [z, vx_up_s] at hx; cases hx
  have m1 := ne f1
  have m2 := ne f2
  have m3 := ne f3
  rw [vx_up_n m1] at f1
  rw [vx_up_n m2] at f2
  rw [vx_up_n m3] at f3
  obtain ⟨⟨u1, u2, u3, u4⟩, u5, u6⟩ := fresh_ne LY HM hq0
  obtain ⟨⟨v1, v2, v3, v4⟩, v5, v6⟩ := fresh_ne LY HM f1
  obtain ⟨⟨w1, w2, w3, w4⟩, w5, w6⟩ := fresh_ne LY HM f2
  obtain ⟨⟨x1, x2, x3, x4⟩, x5, x6⟩ := fresh_ne LY HM f3
  have LY2 := lay_rset (lay_rset (lay_rset (lay_rset LY u1 u2 u3 u4 (.inr (4, [.ref a1, .ref a2, .ref a3]))) v1 v2 v3 v4 (.inl (cI, 131136, .inl (fun _ => 0)))) w1 w2 w3 w4 (.inl (cI, 24, .inl (fun _ => 0)))) x1 x2 x3 x4 (.inl (cZ, 16, .inl (fun _ => 0)))
  have HM1 := mw_radd HM hq0 (.inr (4, [.ref a1, .ref a2, .ref a3]))
  have HM2 := mw_radd HM1 (b := a1) (by rw [vx_up_n m1]; exact f1) (.inl (cI, 131136, .inl (fun _ => 0)))
  have HM3 := mw_radd HM2 (b := a2) (by rw [vx_up_n n12.symm, vx_up_n m2]; exact f2) (.inl (cI, 24, .inl (fun _ => 0)))
  have HM4 := mw_radd HM3 (b := a3) (by rw [vx_up_n n23.symm, vx_up_n n13.symm, vx_up_n m3]; exact f3) (.inl (cZ, 16, .inl (fun _ => 0)))
  obtain ⟨q, eq⟩ : ∃ q : Nat → Nat, q = fun i => if i = 0 then q0 else if i = 1 then a1 else if i = 2 then a2 else a3 := ⟨_, rfl⟩
  have e0 : q 0 = q0 := by rw [eq]; rfl
  have e1 : q 1 = a1 := by rw [eq]; rfl
  have e2 : q 2 = a2 := by rw [eq]; rfl
  have e3 : q 3 = a3 := by rw [eq]; rfl
  have J : JM cJ cQ cZ cI ad q (fun _ => 0) (fun _ => 0) (vx_up (vx_up (vx_up (vx_up h2 q0 (.inr (4, [.ref a1, .ref a2, .ref a3]))) a1 (.inl (cI, 131136, .inl (fun _ => 0)))) a2 (.inl (cI, 24, .inl (fun _ => 0)))) a3 (.inl (cZ, 16, .inl (fun _ => 0)))) 61470 491760 := by
    refine ⟨z0, _, fun _ => 0, fun _ => 0, fun _ => 0, z0, LY2, HM4, ?_, ?_, ?_, ?_, ?_, ?_, fun r hr => ⟨rfl, Nat.zero_le _, fun k hk => absurd hk (Nat.not_lt_zero k)⟩, fun r hr => ⟨rfl, rfl⟩⟩
    · intro i j hi hj hij
      rcases (show i = 0 ∨ i = 1 ∨ i = 2 ∨ i = 3 by omega) with rfl | rfl | rfl | rfl <;> rcases (show j = 0 ∨ j = 1 ∨ j = 2 ∨ j = 3 by omega) with rfl | rfl | rfl | rfl <;> first | exact absurd rfl hij | skip
      all_goals simp only [e0, e1, e2, e3]
      all_goals first | exact m1 | exact m2 | exact m3 | exact m1.symm | exact m2.symm | exact m3.symm | exact n12 | exact n13 | exact n23 | exact n12.symm | exact n13.symm | exact n23.symm
    · intro i hi
      rcases (show i = 0 ∨ i = 1 ∨ i = 2 ∨ i = 3 by omega) with rfl | rfl | rfl | rfl
      · rw [e0]; exact ⟨u5, u6⟩
      · rw [e1]; exact ⟨v5, v6⟩
      · rw [e2]; exact ⟨w5, w6⟩
      · rw [e3]; exact ⟨x5, x6⟩
    · rw [e0, e1, e2, e3, vx_up_n m3.symm, vx_up_n m2.symm, vx_up_n m1.symm, vx_up_s]
    · rw [e1, vx_up_n n13, vx_up_n n12, vx_up_s]
    · rw [e2, vx_up_n n23, vx_up_s]
    · rw [e3, vx_up_s]
  have hl := law_loop IG SL ht ht1 ht2 ht3 hL L 0 70 131415 (fun _ => 0) _ _ _ (by omega) (Nat.zero_le L) J (by decide) (by decide)
  rw [e0, e30] at hl
  exact hl
end
