/-! the reference: logic -/
theorem lg_lim {P T : Nat} {c : Prop} [Decidable c] (h : T < P) (hP : 0 < P) : (if c then P - T else T) < P * 65536 := by
  split <;> omega
section
variable {l : Launch} {D : va_G} {tys : List (ClassId × FieldType)} {cI cZ : ClassId} {q : Nat → Nat} {h0 : vx_h} {f g s f' g' : Nat → Int32} {V : Nat → Nat} {X : Nat → Int} {a b d r u N M sz U W : Nat} {w w2 : Int32} {z : Int}
set_option maxRecDepth 100000 in
set_option maxHeartbeats 8000000 in
theorem cR_logic (LR : rlay q h0) (ht2 : tys[2]? = some (cZ, .boolean)) (ht3 : tys[3]? = some (cI, .int)) (HP : rpic f g V) (HX : mreg X V s) (r1 r2 r3 how : Int32) : vx_M l D vcl tys my_R_logic lw_gd (rm_ 3 0 0 66) [.ref (q 0), .int r1, .int r2, .int r3, .int how] (rH cI cZ q h0 f g s) (rpub cI cZ q h0 (sp3 0 X (lgF X how) r1 r2 r3).2 (sp3 0 X (lgF X how) r1 r2 r3).1) := by
  refine vx_M.ofV (cc := bc_R_logic) (maxL := 13) (ret := (some .boolean)) (own := rR) false rfl (by decide +kernel) wC_R_logic (fun q => by cases q) (Nat.le_of_ble_eq_true rfl) (fun A H0 G IG RG => ?_)
  show vx_V _ _ _ _ _ _ _ _ _ 0 [(0, .ref (q 0)), (1, .int r1), (2, .int r2), (3, .int r3), (4, .int how)] []
  refine vx_iload_n IG dc_R_logic_0 rfl 1 rfl ?_
  refine vx_callS (As := [.int r1]) (st := []) IG lw_good (cR_is _ r1) wC_R_is wL_R_67 wT_R_is wX_R 1 (by decide +kernel) rfl ⟨Nat.le_of_ble_eq_true rfl, Nat.le_of_ble_eq_true rfl⟩ ⟨(by dsimp only [rm_]; omega), (by dsimp only [rm_]; omega)⟩ rfl (Nat.le_of_ble_eq_true rfl) dc_R_logic_1 (fun v h k_ n_ hq => ?_)
  obtain ⟨rfl, rfl, rfl, rfl⟩ := hq
  show vx_V _ _ _ _ _ _ _ _ _ 4 [(0, .ref (q 0)), (1, .int r1), (2, .int r2), (3, .int r3), (4, .int how)] [.int (if isR r1 then 1 else 0)]
  by_cases z0 : ¬ isR r1
  · refine vx_topi (y := 0) (if_neg z0) ?_
    refine vx_if_eq (tgt := 32) IG dc_R_logic_4 (by decide) (fun _ => ?_) (fun c_ => absurd rfl c_)
    refine vx_iconst (v := 0) IG dc_R_logic_32 (by decide) ?_
    refine vx_ret (some (.int 0)) RG (vx_endi (by first | rfl | decide) dc_R_logic_33) rfl ?_
    rw [sp3_no (fun e => z0 e.1)]
    exact ⟨rfl, rfl, rfl, f, g, s, V, rfl, HP, HX⟩
  replace z0 := Decidable.not_not.mp z0
  refine vx_topi (y := 1) (if_pos z0) ?_
  refine vx_if_eq (tgt := 32) IG dc_R_logic_4 (by decide) (fun c_ => absurd c_ (by decide)) (fun _ => ?_)
  refine vx_iload_n IG dc_R_logic_7 rfl 2 rfl ?_
  refine vx_callS (As := [.int r2]) (st := []) IG lw_good (cR_is _ r2) wC_R_is wL_R_67 wT_R_is wX_R 1 (by decide +kernel) rfl ⟨Nat.le_of_ble_eq_true rfl, Nat.le_of_ble_eq_true rfl⟩ ⟨(by dsimp only [rm_]; omega), (by dsimp only [rm_]; omega)⟩ rfl (Nat.le_of_ble_eq_true rfl) dc_R_logic_8 (fun v h k_ n_ hq => ?_)
  obtain ⟨rfl, rfl, rfl, rfl⟩ := hq
  show vx_V _ _ _ _ _ _ _ _ _ 11 [(0, .ref (q 0)), (1, .int r1), (2, .int r2), (3, .int r3), (4, .int how)] [.int (if isR r2 then 1 else 0)]
  by_cases z1 : ¬ isR r2
  · refine vx_topi (y := 0) (if_neg z1) ?_
    refine vx_if_eq (tgt := 32) IG dc_R_logic_11 (by decide) (fun _ => ?_) (fun c_ => absurd rfl c_)
    refine vx_iconst (v := 0) IG dc_R_logic_32 (by decide) ?_
    refine vx_ret (some (.int 0)) RG (vx_endi (by first | rfl | decide) dc_R_logic_33) rfl ?_
    rw [sp3_no (fun e => z1 e.2.1)]
    exact ⟨rfl, rfl, rfl, f, g, s, V, rfl, HP, HX⟩
  replace z1 := Decidable.not_not.mp z1
  refine vx_topi (y := 1) (if_pos z1) ?_
  refine vx_if_eq (tgt := 32) IG dc_R_logic_11 (by decide) (fun c_ => absurd c_ (by decide)) (fun _ => ?_)
  refine vx_iload_n IG dc_R_logic_14 rfl 3 rfl ?_
  refine vx_callS (As := [.int r3]) (st := []) IG lw_good (cR_is _ r3) wC_R_is wL_R_67 wT_R_is wX_R 1 (by decide +kernel) rfl ⟨Nat.le_of_ble_eq_true rfl, Nat.le_of_ble_eq_true rfl⟩ ⟨(by dsimp only [rm_]; omega), (by dsimp only [rm_]; omega)⟩ rfl (Nat.le_of_ble_eq_true rfl) dc_R_logic_15 (fun v h k_ n_ hq => ?_)
  obtain ⟨rfl, rfl, rfl, rfl⟩ := hq
  show vx_V _ _ _ _ _ _ _ _ _ 18 [(0, .ref (q 0)), (1, .int r1), (2, .int r2), (3, .int r3), (4, .int how)] [.int (if isR r3 then 1 else 0)]
  by_cases z2 : ¬ isR r3
  · refine vx_topi (y := 0) (if_neg z2) ?_
    refine vx_if_eq (tgt := 32) IG dc_R_logic_18 (by decide) (fun _ => ?_) (fun c_ => absurd rfl c_)
    refine vx_iconst (v := 0) IG dc_R_logic_32 (by decide) ?_
    refine vx_ret (some (.int 0)) RG (vx_endi (by first | rfl | decide) dc_R_logic_33) rfl ?_
    rw [sp3_no (fun e => z2 e.2.2)]
    exact ⟨rfl, rfl, rfl, f, g, s, V, rfl, HP, HX⟩
  replace z2 := Decidable.not_not.mp z2
  refine vx_topi (y := 1) (if_pos z2) ?_
  refine vx_if_eq (tgt := 32) IG dc_R_logic_18 (by decide) (fun c_ => absurd c_ (by decide)) (fun _ => ?_)
  obtain ⟨d, hd, rfl⟩ := isR_of z0
  obtain ⟨a, ha, rfl⟩ := isR_of z1
  obtain ⟨b, hb, rfl⟩ := isR_of z2
  have Rd := reg_rv HP HX hd
  have Bd := (HX d hd).2
  have Ld := reg_cap HP HX hd
  have Ra := reg_rv HP HX ha
  have Ba := (HX a ha).2
  have La := reg_cap HP HX ha
  have Rb := reg_rv HP HX hb
  have Bb := (HX b hb).2
  have Lb := reg_cap HP HX hb
  rw [sp3_ok hd ha hb] at RG
  unfold lgF at RG
  have i0 : (0 : Int32).toInt = 0 := rfl
  have i3 : (3 : Int32).toInt = 3 := rfl
  have c8 : rcap 16 = 8200 := rfl
  refine vx_iload IG dc_R_logic_21 4 rfl ?_
  by_cases y1 : how < 0
  · refine vx_if_lt (tgt := 32) IG dc_R_logic_23 (by decide) (fun _ => ?_) (fun c_ => absurd y1 c_)
    refine vx_iconst (v := 0) IG dc_R_logic_32 (by decide) ?_
    refine vx_ret (some (.int 0)) RG (vx_endi (by first | rfl | decide) dc_R_logic_33) rfl ?_
    rw [if_neg (fun e => by have := Int32.lt_iff_toInt_lt.mp y1; omega)]
    exact ⟨rfl, rfl, rfl, f, g, s, V, rfl, HP, HX⟩
  · refine vx_if_lt (tgt := 32) IG dc_R_logic_23 (by decide) (fun c_ => absurd c_ y1) (fun _ => ?_)
    refine vx_iload IG dc_R_logic_26 4 rfl ?_
    refine vx_iconst (v := 3) IG dc_R_logic_28 (by decide) ?_
    by_cases y2 : how ≤ 3
    · refine vx_icmp_le (tgt := 34) IG dc_R_logic_29 (by decide) (fun _ => ?_) (fun c_ => absurd y2 c_)
      rw [Int32.lt_iff_toInt_lt, i0] at y1
      rw [Int32.le_iff_toInt_le, i3] at y2
      obtain ⟨hw, hhw, rfl⟩ := i32_pos (x := how) (by omega)
      rw [nI_toInt hhw] at y1 y2
      rw [nI_toInt hhw, nI_clamp hhw, if_pos ⟨by omega, by omega⟩] at RG
      have hw3 : hw ≤ 3 := by omega
      obtain ⟨zz, ez⟩ : ∃ zz, zz = lgZ hw (X a) (X b) := ⟨_, rfl⟩
      rw [← ez] at RG
      obtain ⟨ja, hja⟩ := fs_ex (X a).natAbs
      obtain ⟨jb_, hjb⟩ := fs_ex (X b).natAbs
      have hjal := fs_le hja
      have hjbl := fs_le hjb
      have main : ∀ (m k n : Nat), nd 65536 (X a).natAbs ≤ m → nd 65536 (X b).natAbs ≤ m → m ≤ 4096 → k = 0 → n = 0 → vx_V D vcl A H0 13 G (rH cI cZ q h0 f g s) k n 64 [(0, .ref (q 0)), (1, .int (nI d)), (2, .int (nI a)), (3, .int (nI b)), (4, .int (nI hw))] [.int (nI m)] := by
        intro m k n m1 m2 m3 hk hn
        subst hk hn
        have hxa : (X a).natAbs < 2 ^ (16 * m) := Nat.lt_of_lt_of_le (bl_le.mp bl_nd) (Nat.pow_le_pow_right (by decide) (by omega))
        have hxb : (X b).natAbs < 2 ^ (16 * m) := Nat.lt_of_lt_of_le (bl_le.mp bl_nd) (Nat.pow_le_pow_right (by decide) (by omega))
        obtain ⟨Dd, eDd⟩ : ∃ Dd : Nat → Nat, Dd = fun k => jn 16 hw (eD 65536 (X a) k) (eD 65536 (X b) k) := ⟨_, rfl⟩
        obtain ⟨g1, -, g3⟩ := lg_digits (w := 16) (how := hw) (m := m) (Dd := Dd) hxa hxb (by omega) (fun k hk => by rw [eDd])
        have hDl : ∀ k, Dd k < 65536 := fun k => by
          rw [eDd]
          exact jn_lt (w := 16) (eD_lt (by decide) _ _) (eD_lt (by decide) _ _)
        obtain ⟨T, eT⟩ : ∃ T, T = vl 65536 Dd (m + 1) := ⟨_, rfl⟩
        have h16 : (2 : Nat) ^ 16 = 65536 := rfl
        rw [h16] at g1 g3
        have g1' : zz = (T : Int) - (jb hw (sb (X a)) (sb (X b)) : Int) * ((65536 ^ (m + 1) : Nat) : Int) := by rw [ez, eT]; exact g1
        have g3' : T < 65536 ^ (m + 1) := by rw [eT]; exact g3
        have hTd : ∀ k, k < m + 1 → dg 65536 T k = Dd k := fun k hk => by rw [eT]; exact dg_vl b16 (fun i _ => hDl i) hk
        have hj01 := jb_01 hw (sb_lt (X a)) (sb_lt (X b))
        -- N is what is put away, with its sign
        obtain ⟨N, eN⟩ : ∃ N, N = if jb hw (sb (X a)) (sb (X b)) = 1 then 65536 ^ (m + 1) - T else T := ⟨_, rfl⟩
        have hN : N < 65536 ^ (m + 2) := by
          have h1 := bp_pos b16 (m + 1)
          have h2 : 65536 ^ (m + 2) = 65536 ^ (m + 1) * 65536 := bp_succ _ _
          rw [h2, eN]
          exact lg_lim g3' h1
        have hkz : kz (nI (jb hw (sb (X a)) (sb (X b)))) N = zz := by
          rw [g1', eN]
          rcases (show jb hw (sb (X a)) (sb (X b)) = 0 ∨ jb hw (sb (X a)) (sb (X b)) = 1 by omega) with e | e
          · rw [e, if_neg (by decide)]
            show kz 0 T = _
            rw [kz_0]
            simp
          · rw [e, if_pos rfl]
            show kz 1 _ = _
            rw [kz_1]
            omega
        refine vx_iconst (v := 1) IG dc_R_logic_64 (by decide) ?_
        refine vx_iadd IG dc_R_logic_65 ?_
        refine vx_topi (y := nI (m + 1)) (nI_1 m) ?_
        refine vx_istore (lv' := [(5, .int (nI (m + 1))), (0, .ref (q 0)), (1, .int (nI d)), (2, .int (nI a)), (3, .int (nI b)), (4, .int (nI hw))]) IG dc_R_logic_66 (by decide) rfl ?_
        refine vx_aload_n IG dc_R_logic_68 rfl 1 rfl ?_
        refine vx_iload_n IG dc_R_logic_69 rfl 3 rfl ?_
        refine vx_callV (As := [.int (nI a)]) (st := []) IG lw_good (cR_lowestDigit LR ht2 ht3 Ra (by omega) hja) (ro_M LR) rfl wC_R_lowestDigit wL_R_93 wI_R_lowestDigit wS_R_lowestDigit wX_R 1 (by decide +kernel) rfl ⟨Nat.le_of_ble_eq_true rfl, Nat.le_of_ble_eq_true rfl⟩ ⟨(by dsimp only [rm_]; omega), (by dsimp only [rm_]; omega)⟩ rfl (Nat.le_of_ble_eq_true rfl) dc_R_logic_70 (fun v h k_ n_ hq => ?_)
        obtain ⟨rfl, rfl, rfl, rfl⟩ := hq
        show vx_V _ _ _ _ _ _ _ _ _ 73 [(5, .int (nI (m + 1))), (0, .ref (q 0)), (1, .int (nI d)), (2, .int (nI a)), (3, .int (nI b)), (4, .int (nI hw))] [.int (nI ja)]
        refine vx_istore (lv' := [(6, .int (nI ja)), (5, .int (nI (m + 1))), (0, .ref (q 0)), (1, .int (nI d)), (2, .int (nI a)), (3, .int (nI b)), (4, .int (nI hw))]) IG dc_R_logic_73 (by decide) rfl ?_
        refine vx_aload_n IG dc_R_logic_75 rfl 2 rfl ?_
        refine vx_iload_n IG dc_R_logic_76 rfl 5 rfl ?_
        refine vx_callV (As := [.int (nI b)]) (st := []) IG lw_good (cR_lowestDigit LR ht2 ht3 Rb (by omega) hjb) (ro_M LR) rfl wC_R_lowestDigit wL_R_93 wI_R_lowestDigit wS_R_lowestDigit wX_R 1 (by decide +kernel) rfl ⟨Nat.le_of_ble_eq_true rfl, Nat.le_of_ble_eq_true rfl⟩ ⟨(by dsimp only [rm_]; omega), (by dsimp only [rm_]; omega)⟩ rfl (Nat.le_of_ble_eq_true rfl) dc_R_logic_77 (fun v h k_ n_ hq => ?_)
        obtain ⟨rfl, rfl, rfl, rfl⟩ := hq
        show vx_V _ _ _ _ _ _ _ _ _ 80 [(6, .int (nI ja)), (5, .int (nI (m + 1))), (0, .ref (q 0)), (1, .int (nI d)), (2, .int (nI a)), (3, .int (nI b)), (4, .int (nI hw))] [.int (nI jb_)]
        refine vx_istore (lv' := [(7, .int (nI jb_)), (6, .int (nI ja)), (5, .int (nI (m + 1))), (0, .ref (q 0)), (1, .int (nI d)), (2, .int (nI a)), (3, .int (nI b)), (4, .int (nI hw))]) IG dc_R_logic_80 (by decide) rfl ?_
        refine vx_aload_n IG dc_R_logic_82 rfl 3 rfl ?_
        refine vx_get IG (ro_M LR) rfl 2 (by decide) inR wF_R_17 rfl rfl dc_R_logic_83 ?_
        refine vx_iload_n IG dc_R_logic_86 rfl 5 rfl ?_
        refine rr_zld IG LR ht2 ha (x := sgI (X a)) Ba dc_R_logic_87 ?_
        -- the digits
        have digits : ∀ (sg : Nat) (k n : Nat), sg = jb hw (sb (X a)) (sb (X b)) → k = 0 → n = 0 → vx_V D vcl A H0 13 G (rH cI cZ q h0 f g s) k n 124 [(7, .int (nI jb_)), (6, .int (nI ja)), (5, .int (nI (m + 1))), (0, .ref (q 0)), (1, .int (nI d)), (2, .int (nI a)), (3, .int (nI b)), (4, .int (nI hw))] [.int (nI sg)] := by
          intro sg k n esg hk hn
          subst hk hn
          rw [← esg] at hj01 eN hkz
          have e01 : nI sg = 0 ∨ nI sg = 1 := by
            rcases (show sg = 0 ∨ sg = 1 by omega) with e | e
            · exact Or.inl (by rw [e]; rfl)
            · exact Or.inr (by rw [e]; rfl)
          have loop : ∀ (j c cr k n : Nat), c + j = m + 1 → (cr ≤ 1) → (sg = 1 → cr = if T % 65536 ^ c = 0 then 1 else 0) → k = 0 → n = 0 → vx_V D vcl A H0 13 G (rH cI cZ q h0 (pf f (rt 16) (dg 65536 N) c) g s) k n 132 [(10, .int (nI c)), (9, .int (nI cr)), (8, .int (nI sg)), (7, .int (nI jb_)), (6, .int (nI ja)), (5, .int (nI (m + 1))), (0, .ref (q 0)), (1, .int (nI d)), (2, .int (nI a)), (3, .int (nI b)), (4, .int (nI hw))] [] := by
            intro j
            induction j with
            | zero =>
              intro c cr k n hc hcr1 hcr hk hn
              subst hk hn
              obtain rfl : c = m + 1 := by omega
              refine vx_iload IG dc_R_logic_132 0 rfl ?_
              refine vx_iload IG dc_R_logic_134 5 rfl ?_
              refine vx_icmp_ge (tgt := 230) IG dc_R_logic_136 (by decide) (fun _ => ?_) (fun c_ => absurd (nI_le (Nat.le_refl _) (by omega)) c_)
              refine vx_aload_n IG dc_R_logic_230 rfl 6 rfl ?_
              refine vx_get IG (ro_M LR) rfl 0 (by decide) inR wF_R_8 rfl rfl dc_R_logic_231 ?_
              refine vx_bipush (v := 16) IG dc_R_logic_234 (by decide) ?_
              refine vx_callS (As := [.int 16]) (st := [.ref (q 1)]) IG lw_good (cR_at _ 16 (by decide)) wC_R_at wL_R_22 wT_R_at wX_R 1 (by decide +kernel) rfl ⟨Nat.le_of_ble_eq_true rfl, Nat.le_of_ble_eq_true rfl⟩ ⟨(by dsimp only [rm_]; omega), (by dsimp only [rm_]; omega)⟩ rfl (Nat.le_of_ble_eq_true rfl) dc_R_logic_236 (fun v h k_ n_ hq => ?_)
              obtain ⟨rfl, rfl, rfl, rfl⟩ := hq
              show vx_V _ _ _ _ _ _ _ _ _ 239 [(10, .int (nI (m + 1))), (9, .int (nI cr)), (8, .int (nI sg)), (7, .int (nI jb_)), (6, .int (nI ja)), (5, .int (nI (m + 1))), (0, .ref (q 0)), (1, .int (nI d)), (2, .int (nI a)), (3, .int (nI b)), (4, .int (nI hw))] [.int (nI (rt 16)), .ref (q 1)]
              refine vx_iload IG dc_R_logic_239 5 rfl ?_
              refine vx_iadd IG dc_R_logic_241 ?_
              refine vx_topi (y := nI ((rt 16) + (m + 1))) (nI_add _ _) ?_
              refine vx_iload IG dc_R_logic_242 2 rfl ?_
              have last : ∀ (x k n : Nat), x = dg 65536 N (m + 1) → k = 0 → n = 0 → vx_V D vcl A H0 13 G (rH cI cZ q h0 (pf f (rt 16) (dg 65536 N) (m + 1)) g s) k n 253 [(10, .int (nI (m + 1))), (9, .int (nI cr)), (8, .int (nI sg)), (7, .int (nI jb_)), (6, .int (nI ja)), (5, .int (nI (m + 1))), (0, .ref (q 0)), (1, .int (nI d)), (2, .int (nI a)), (3, .int (nI b)), (4, .int (nI hw))] [.int (nI x), .int (nI (rt 16 + (m + 1))), .ref (q 1)] := by
                intro x k n ex hk hn
                subst hk hn
                refine rr_mst IG LR ht3 (rt_in (by decide) (by omega)) (f' := pf f (rt 16) (dg 65536 N) (m + 2)) (by rw [ex]; exact pf_s _ _ _ _) dc_R_logic_253 ?_
                refine vx_aload_n IG dc_R_logic_254 rfl 6 rfl ?_
                refine vx_bipush (v := 16) IG dc_R_logic_255 (by decide) ?_
                refine vx_iload IG dc_R_logic_257 5 rfl ?_
                refine vx_iconst (v := 1) IG dc_R_logic_259 (by decide) ?_
                refine vx_iadd IG dc_R_logic_260 ?_
                refine vx_topi (y := nI ((m + 1) + 1)) (nI_add _ _) ?_
                refine vx_callV (As := [.int 16, .int (nI ((m + 1) + 1))]) (st := []) IG lw_good (cR_trim LR ht2 ht3 (d := 16) (N := N) (sz := m + 2) (by decide) (by omega) (fun k hk => pf_in hk) hN) (ro_M LR) rfl wC_R_trim wL_R_28 wI_R_trim wS_R_trim wX_R 2 (by decide +kernel) rfl ⟨Nat.le_of_ble_eq_true rfl, Nat.le_of_ble_eq_true rfl⟩ ⟨(by dsimp only [rm_]; omega), (by dsimp only [rm_]; omega)⟩ rfl (Nat.le_of_ble_eq_true rfl) dc_R_logic_261 (fun v h k_ n_ hq => ?_)
                obtain ⟨rfl, rfl, rfl, rfl⟩ := hq
                obtain ⟨HP, HX⟩ := rp_up HP HX (show 16 ≤ 16 by decide) (show 16 < 24 by decide) (rs_pw (f := f) (g := g) (show m + 2 ≤ rcap 16 by omega) hN)
                show vx_V _ _ _ _ _ _ _ _ _ 264 [(10, .int (nI (m + 1))), (9, .int (nI cr)), (8, .int (nI sg)), (7, .int (nI jb_)), (6, .int (nI ja)), (5, .int (nI (m + 1))), (0, .ref (q 0)), (1, .int (nI d)), (2, .int (nI a)), (3, .int (nI b)), (4, .int (nI hw))] []
                refine vx_aload_n IG dc_R_logic_264 rfl 6 rfl ?_
                refine vx_iload_n IG dc_R_logic_265 rfl 7 rfl ?_
                refine vx_bipush (v := 16) IG dc_R_logic_266 (by decide) ?_
                refine vx_iload IG dc_R_logic_268 2 rfl ?_
                refine vx_callV (As := [.int (nI d), .int 16, .int (nI sg)]) (st := []) IG lw_good (cR_st LR ht2 ht3 HP HX hd (a := 16) (z := zz) (by decide) (by decide) e01 rfl hkz) (ro_M LR) rfl wC_R_store wL_R_75 wI_R_store wS_R_store wX_R 3 (by decide +kernel) rfl ⟨Nat.le_of_ble_eq_true rfl, Nat.le_of_ble_eq_true rfl⟩ ⟨(by dsimp only [rm_]; omega), (by dsimp only [rm_]; omega)⟩ rfl (Nat.le_of_ble_eq_true rfl) dc_R_logic_270 (fun v h k_ n_ hq => ?_)
                obtain ⟨rfl, rfl, rfl, f9, g9, s9, V9, rfl, P9, X9⟩ := hq
                show vx_V _ _ _ _ _ _ _ _ _ 273 [(10, .int (nI (m + 1))), (9, .int (nI cr)), (8, .int (nI sg)), (7, .int (nI jb_)), (6, .int (nI ja)), (5, .int (nI (m + 1))), (0, .ref (q 0)), (1, .int (nI d)), (2, .int (nI a)), (3, .int (nI b)), (4, .int (nI hw))] [.int (kpV zz)]
                refine vx_ret (some (.int (kpV zz))) RG (vx_endi (by unfold kpV; split <;> rfl) dc_R_logic_273) rfl ?_
                exact ⟨rfl, rfl, rfl, f9, g9, s9, V9, rfl, P9, X9⟩
              by_cases v : sg = 0
              · refine vx_if_eq (tgt := 252) IG dc_R_logic_244 (by decide) (fun _ => ?_) (fun c_ => absurd (by rw [v]; rfl) c_)
                refine vx_iconst (v := 0) IG dc_R_logic_252 (by decide) ?_
                rw [if_neg (by omega)] at eN
                exact last 0 _ _ (by rw [eN]; exact (dg_big g3').symm) rfl rfl
              · refine vx_if_eq (tgt := 252) IG dc_R_logic_244 (by decide) (fun c_ => absurd c_ (nI_ne (by omega) (b := 0) (by decide) v)) (fun _ => ?_)
                refine vx_iload IG dc_R_logic_247 1 rfl ?_
                refine vx_goto (tgt := 253) IG dc_R_logic_249 (by decide) ?_
                rw [if_pos (by omega)] at eN
                refine last cr _ _ ?_ rfl rfl
                rw [hcr (by omega), Nat.mod_eq_of_lt g3', eN]
                by_cases t : T = 0
                · rw [if_pos t, t, Nat.sub_zero]
                  have := dg_up b16 (X := 1) (u := m + 1) (k := 0)
                  rw [Nat.one_mul, Nat.zero_add] at this
                  rw [this]
                  rfl
                · rw [if_neg t, dg_big (by omega)]
            | succ j ih =>
              intro c cr k n hc hcr1 hcr hk hn
              subst hk hn
              have la := eD_lt (b := 65536) (by decide) (X a) c
              have lb := eD_lt (b := 65536) (by decide) (X b) c
              have lD := hDl c
              have eDc : jn 16 hw (eD 65536 (X a) c) (eD 65536 (X b) c) = Dd c := by rw [eDd]
              have eTc := hTd c (by omega)
              have Ra2 : rv (pf f (rt 16) (dg 65536 N) c) g a (X a).natAbs := ⟨Ra.1, Ra.2.1, fun k hk => by rw [pf_row (Or.inl (by omega)) (by omega) (by decide) (by rw [rcap_lo ha]; omega) (by omega)]; exact Ra.2.2 k hk⟩
              have Rb2 : rv (pf f (rt 16) (dg 65536 N) c) g b (X b).natAbs := ⟨Rb.1, Rb.2.1, fun k hk => by rw [pf_row (Or.inl (by omega)) (by omega) (by decide) (by rw [rcap_lo hb]; omega) (by omega)]; exact Rb.2.2 k hk⟩
              refine vx_iload IG dc_R_logic_132 0 rfl ?_
              refine vx_iload IG dc_R_logic_134 5 rfl ?_
              refine vx_icmp_ge (tgt := 230) IG dc_R_logic_136 (by decide) (fun c_ => absurd c_ (fun e => absurd (nI_lt (a := c) (b := m + 1) (by omega) (by omega)) (Int32.not_lt.mpr e))) (fun _ => ?_)
              refine vx_aload_n IG dc_R_logic_139 rfl 6 rfl ?_
              refine vx_iload_n IG dc_R_logic_140 rfl 8 rfl ?_
              refine vx_iload IG dc_R_logic_141 0 rfl ?_
              refine vx_iload IG dc_R_logic_143 4 rfl ?_
              refine vx_callV (As := [.int (nI a), .int (nI c), .int (nI ja)]) (st := []) IG lw_good (cR_bitsDigit LR ht2 ht3 Ra2 Ba ha hja (k := c) (by omega)) (ro_M LR) rfl wC_R_bitsDigit wL_R_100 wI_R_bitsDigit wS_R_bitsDigit wX_R 3 (by decide +kernel) rfl ⟨Nat.le_of_ble_eq_true rfl, Nat.le_of_ble_eq_true rfl⟩ ⟨(by dsimp only [rm_]; omega), (by dsimp only [rm_]; omega)⟩ rfl (Nat.le_of_ble_eq_true rfl) dc_R_logic_145 (fun v h k_ n_ hq => ?_)
              obtain ⟨rfl, rfl, rfl, rfl⟩ := hq
              show vx_V _ _ _ _ _ _ _ _ _ 148 [(10, .int (nI c)), (9, .int (nI cr)), (8, .int (nI sg)), (7, .int (nI jb_)), (6, .int (nI ja)), (5, .int (nI (m + 1))), (0, .ref (q 0)), (1, .int (nI d)), (2, .int (nI a)), (3, .int (nI b)), (4, .int (nI hw))] [.int (nI (eD 65536 (X a) c))]
              refine vx_aload_n IG dc_R_logic_148 rfl 6 rfl ?_
              refine vx_iload_n IG dc_R_logic_149 rfl 9 rfl ?_
              refine vx_iload IG dc_R_logic_150 0 rfl ?_
              refine vx_iload IG dc_R_logic_152 3 rfl ?_
              refine vx_callV (As := [.int (nI b), .int (nI c), .int (nI jb_)]) (st := [.int (nI (eD 65536 (X a) c))]) IG lw_good (cR_bitsDigit LR ht2 ht3 Rb2 Bb hb hjb (k := c) (by omega)) (ro_M LR) rfl wC_R_bitsDigit wL_R_100 wI_R_bitsDigit wS_R_bitsDigit wX_R 3 (by decide +kernel) rfl ⟨Nat.le_of_ble_eq_true rfl, Nat.le_of_ble_eq_true rfl⟩ ⟨(by dsimp only [rm_]; omega), (by dsimp only [rm_]; omega)⟩ rfl (Nat.le_of_ble_eq_true rfl) dc_R_logic_154 (fun v h k_ n_ hq => ?_)
              obtain ⟨rfl, rfl, rfl, rfl⟩ := hq
              show vx_V _ _ _ _ _ _ _ _ _ 157 [(10, .int (nI c)), (9, .int (nI cr)), (8, .int (nI sg)), (7, .int (nI jb_)), (6, .int (nI ja)), (5, .int (nI (m + 1))), (0, .ref (q 0)), (1, .int (nI d)), (2, .int (nI a)), (3, .int (nI b)), (4, .int (nI hw))] [.int (nI (eD 65536 (X b) c)), .int (nI (eD 65536 (X a) c))]
              refine vx_iload IG dc_R_logic_157 10 rfl ?_
              refine vx_callS (As := [.int (nI (eD 65536 (X a) c)), .int (nI (eD 65536 (X b) c)), .int (nI hw)]) (st := []) IG lw_good (cR_joined _ la lb hw3) wC_R_joined wL_R_96 wT_R_joined wX_R 3 (by decide +kernel) rfl ⟨Nat.le_of_ble_eq_true rfl, Nat.le_of_ble_eq_true rfl⟩ ⟨(by dsimp only [rm_]; omega), (by dsimp only [rm_]; omega)⟩ rfl (Nat.le_of_ble_eq_true rfl) dc_R_logic_159 (fun v h k_ n_ hq => ?_)
              obtain ⟨rfl, rfl, rfl, rfl⟩ := hq
              rw [eDc]
              show vx_V _ _ _ _ _ _ _ _ _ 162 [(10, .int (nI c)), (9, .int (nI cr)), (8, .int (nI sg)), (7, .int (nI jb_)), (6, .int (nI ja)), (5, .int (nI (m + 1))), (0, .ref (q 0)), (1, .int (nI d)), (2, .int (nI a)), (3, .int (nI b)), (4, .int (nI hw))] [.int (nI (Dd c))]
              refine vx_ldc (v := 65535) IG wK_R_36 dc_R_logic_162 ?_
              refine vx_iand IG dc_R_logic_164 ?_
              refine vx_topi (y := nI (Dd c)) (by rw [an16 (by omega), Nat.mod_eq_of_lt lD]) ?_
              refine vx_istore (lv' := [(11, .int (nI (Dd c))), (10, .int (nI c)), (9, .int (nI cr)), (8, .int (nI sg)), (7, .int (nI jb_)), (6, .int (nI ja)), (5, .int (nI (m + 1))), (0, .ref (q 0)), (1, .int (nI d)), (2, .int (nI a)), (3, .int (nI b)), (4, .int (nI hw))]) IG dc_R_logic_165 (by decide) rfl ?_
              refine vx_iload IG dc_R_logic_167 3 rfl ?_
              -- behind the carry
              have step : ∀ (x cr2 k n : Nat), x < 2 ^ 17 → x % 65536 = dg 65536 N c → cr2 ≤ 1 → (sg = 1 → cr2 = if T % 65536 ^ (c + 1) = 0 then 1 else 0) → k = 0 → n = 0 → vx_V D vcl A H0 13 G (rH cI cZ q h0 (pf f (rt 16) (dg 65536 N) c) g s) k n 204 [(12, .int (nI x)), (11, .int (nI (Dd c))), (10, .int (nI c)), (9, .int (nI cr)), (8, .int (nI sg)), (7, .int (nI jb_)), (6, .int (nI ja)), (5, .int (nI (m + 1))), (0, .ref (q 0)), (1, .int (nI d)), (2, .int (nI a)), (3, .int (nI b)), (4, .int (nI hw))] [.int (nI cr2)] := by
                intro x cr2 k n hx1 hx2 hc1 hc2 hk hn
                subst hk hn
                refine vx_istore (lv' := [(9, .int (nI cr2)), (12, .int (nI x)), (11, .int (nI (Dd c))), (10, .int (nI c)), (8, .int (nI sg)), (7, .int (nI jb_)), (6, .int (nI ja)), (5, .int (nI (m + 1))), (0, .ref (q 0)), (1, .int (nI d)), (2, .int (nI a)), (3, .int (nI b)), (4, .int (nI hw))]) IG dc_R_logic_204 (by decide) rfl ?_
                refine vx_aload_n IG dc_R_logic_206 rfl 8 rfl ?_
                refine vx_get IG (ro_M LR) rfl 0 (by decide) inR wF_R_8 rfl rfl dc_R_logic_207 ?_
                refine vx_bipush (v := 16) IG dc_R_logic_210 (by decide) ?_
                refine vx_callS (As := [.int 16]) (st := [.ref (q 1)]) IG lw_good (cR_at _ 16 (by decide)) wC_R_at wL_R_22 wT_R_at wX_R 1 (by decide +kernel) rfl ⟨Nat.le_of_ble_eq_true rfl, Nat.le_of_ble_eq_true rfl⟩ ⟨(by dsimp only [rm_]; omega), (by dsimp only [rm_]; omega)⟩ rfl (Nat.le_of_ble_eq_true rfl) dc_R_logic_212 (fun v h k_ n_ hq => ?_)
                obtain ⟨rfl, rfl, rfl, rfl⟩ := hq
                show vx_V _ _ _ _ _ _ _ _ _ 215 [(9, .int (nI cr2)), (12, .int (nI x)), (11, .int (nI (Dd c))), (10, .int (nI c)), (8, .int (nI sg)), (7, .int (nI jb_)), (6, .int (nI ja)), (5, .int (nI (m + 1))), (0, .ref (q 0)), (1, .int (nI d)), (2, .int (nI a)), (3, .int (nI b)), (4, .int (nI hw))] [.int (nI (rt 16)), .ref (q 1)]
                refine vx_iload IG dc_R_logic_215 3 rfl ?_
                refine vx_iadd IG dc_R_logic_217 ?_
                refine vx_topi (y := nI ((rt 16) + c)) (nI_add _ _) ?_
                refine vx_iload IG dc_R_logic_218 1 rfl ?_
                refine vx_ldc (v := 65535) IG wK_R_36 dc_R_logic_220 ?_
                refine vx_iand IG dc_R_logic_222 ?_
                refine vx_topi (y := nI (dg 65536 N c)) (by rw [an16 (by omega), hx2]) ?_
                refine rr_mst IG LR ht3 (rt_in (by decide) (by omega)) (f' := pf f (rt 16) (dg 65536 N) (c + 1)) (pf_s _ _ _ _) dc_R_logic_223 ?_
                refine vx_iinc (q := 3) (v := nI (c + 1)) (lv' := [(10, .int (nI (c + 1))), (9, .int (nI cr2)), (12, .int (nI x)), (11, .int (nI (Dd c))), (8, .int (nI sg)), (7, .int (nI jb_)), (6, .int (nI ja)), (5, .int (nI (m + 1))), (0, .ref (q 0)), (1, .int (nI d)), (2, .int (nI a)), (3, .int (nI b)), (4, .int (nI hw))]) IG dc_R_logic_224 rfl (nI_1 c) (by decide) rfl ?_
                refine vx_goto (tgt := 132) IG dc_R_logic_227 (by decide) ?_
                refine vx_same (lv' := [(10, .int (nI (c + 1))), (9, .int (nI cr2)), (8, .int (nI sg)), (7, .int (nI jb_)), (6, .int (nI ja)), (5, .int (nI (m + 1))), (0, .ref (q 0)), (1, .int (nI d)), (2, .int (nI a)), (3, .int (nI b)), (4, .int (nI hw))]) IG [0, 1, 4, 5, 6, 7, 8, 9, 10, 11, 12] rfl ?_
                exact ih (c + 1) cr2 _ _ (by omega) hc1 hc2 rfl rfl
              by_cases v : sg = 0
              · rw [if_neg (by omega)] at eN
                refine vx_if_eq (tgt := 183) IG dc_R_logic_169 (by decide) (fun _ => ?_) (fun c_ => absurd (by rw [v]; rfl) c_)
                refine vx_iload IG dc_R_logic_183 0 rfl ?_
                refine vx_istore (lv' := [(12, .int (nI (Dd c))), (11, .int (nI (Dd c))), (10, .int (nI c)), (9, .int (nI cr)), (8, .int (nI sg)), (7, .int (nI jb_)), (6, .int (nI ja)), (5, .int (nI (m + 1))), (0, .ref (q 0)), (1, .int (nI d)), (2, .int (nI a)), (3, .int (nI b)), (4, .int (nI hw))]) IG dc_R_logic_185 (by decide) rfl ?_
                refine vx_iload IG dc_R_logic_187 4 rfl ?_
                refine vx_if_eq (tgt := 203) IG dc_R_logic_189 (by decide) (fun _ => ?_) (fun c_ => absurd (by rw [v]; rfl) c_)
                refine vx_iconst (v := 0) IG dc_R_logic_203 (by decide) ?_
                exact step (Dd c) 0 _ _ (by omega) (by rw [Nat.mod_eq_of_lt lD, eN, eTc]) (by decide) (fun e => by omega) rfl rfl
              · have hcr := hcr (by omega)
                rw [if_pos (by omega)] at eN
                have hco := co_dg (T := T) (n := m + 1) (k := c) (by omega) (by omega)
                rw [← eN, eTc] at hco
                have hne := co_next (T := T) (k := c)
                rw [eTc] at hne
                refine vx_if_eq (tgt := 183) IG dc_R_logic_169 (by decide) (fun c_ => absurd c_ (nI_ne (by omega) (b := 0) (by decide) v)) (fun _ => ?_)
                refine vx_ldc (v := 65535) IG wK_R_36 dc_R_logic_172 ?_
                refine vx_iload IG dc_R_logic_174 0 rfl ?_
                refine vx_isub IG dc_R_logic_176 ?_
                refine vx_topi (y := nI (65535 - Dd c)) (pk_sub (a := 65535) (by omega)) ?_
                refine vx_iload IG dc_R_logic_177 2 rfl ?_
                refine vx_iadd IG dc_R_logic_179 ?_
                refine vx_topi (y := nI ((65535 - Dd c) + cr)) (nI_add _ _) ?_
                refine vx_goto (tgt := 185) IG dc_R_logic_180 (by decide) ?_
                refine vx_istore (lv' := [(12, .int (nI ((65535 - Dd c) + cr))), (11, .int (nI (Dd c))), (10, .int (nI c)), (9, .int (nI cr)), (8, .int (nI sg)), (7, .int (nI jb_)), (6, .int (nI ja)), (5, .int (nI (m + 1))), (0, .ref (q 0)), (1, .int (nI d)), (2, .int (nI a)), (3, .int (nI b)), (4, .int (nI hw))]) IG dc_R_logic_185 (by decide) rfl ?_
                refine vx_iload IG dc_R_logic_187 4 rfl ?_
                refine vx_if_eq (tgt := 203) IG dc_R_logic_189 (by decide) (fun c_ => absurd c_ (nI_ne (by omega) (b := 0) (by decide) v)) (fun _ => ?_)
                refine vx_iload IG dc_R_logic_192 0 rfl ?_
                refine vx_ldc (v := 65536) IG wK_R_21 dc_R_logic_194 ?_
                by_cases t : 65535 - Dd c + cr = 65536
                · refine vx_icmp_ne (tgt := 203) IG dc_R_logic_196 (by decide) (fun c_ => absurd (by rw [t]; rfl) c_) (fun _ => ?_)
                  refine vx_iconst (v := 1) IG dc_R_logic_199 (by decide) ?_
                  refine vx_goto (tgt := 204) IG dc_R_logic_200 (by decide) ?_
                  have hT0 : T % 65536 ^ c = 0 := by
                    by_cases e : T % 65536 ^ c = 0
                    · exact e
                    · rw [if_neg e] at hcr; omega
                  rw [if_pos hT0] at hcr hco
                  exact step _ 1 _ _ (by omega) (by rw [hco, show 65535 - Dd c + cr = 65536 - Dd c by omega]) (by decide) (fun _ => by rw [if_pos (hne.mpr ⟨hT0, by omega⟩)]) rfl rfl
                · refine vx_icmp_ne (tgt := 203) IG dc_R_logic_196 (by decide) (fun _ => ?_) (fun c_ => absurd c_ (nI_ne (by omega) (b := 65536) (by decide) t))
                  refine vx_iconst (v := 0) IG dc_R_logic_203 (by decide) ?_
                  refine step _ 0 _ _ (by omega) ?_ (by decide) (fun _ => ?_) rfl rfl
                  · rw [hco]
                    by_cases e : T % 65536 ^ c = 0
                    · rw [if_pos e] at hcr ⊢
                      rw [show 65535 - Dd c + cr = 65536 - Dd c by omega]
                    · rw [if_neg e] at hcr ⊢
                      rw [hcr, Nat.add_zero, Nat.mod_eq_of_lt (by omega)]
                  · rw [if_neg (fun e => ?_)]
                    obtain ⟨e1, e2⟩ := hne.mp e
                    rw [if_pos e1] at hcr
                    omega
          refine vx_istore (lv' := [(8, .int (nI sg)), (7, .int (nI jb_)), (6, .int (nI ja)), (5, .int (nI (m + 1))), (0, .ref (q 0)), (1, .int (nI d)), (2, .int (nI a)), (3, .int (nI b)), (4, .int (nI hw))]) IG dc_R_logic_124 (by decide) rfl ?_
          refine vx_iconst (v := 1) IG dc_R_logic_126 (by decide) ?_
          refine vx_istore (lv' := [(9, .int 1), (8, .int (nI sg)), (7, .int (nI jb_)), (6, .int (nI ja)), (5, .int (nI (m + 1))), (0, .ref (q 0)), (1, .int (nI d)), (2, .int (nI a)), (3, .int (nI b)), (4, .int (nI hw))]) IG dc_R_logic_127 (by decide) rfl ?_
          refine vx_iconst (v := 0) IG dc_R_logic_129 (by decide) ?_
          refine vx_istore (lv' := [(10, .int 0), (9, .int 1), (8, .int (nI sg)), (7, .int (nI jb_)), (6, .int (nI ja)), (5, .int (nI (m + 1))), (0, .ref (q 0)), (1, .int (nI d)), (2, .int (nI a)), (3, .int (nI b)), (4, .int (nI hw))]) IG dc_R_logic_130 (by decide) rfl ?_
          have hl := loop (m + 1) 0 1 0 0 (by omega) (by decide) (fun _ => by rw [Nat.pow_zero, Nat.mod_one, if_pos rfl]) rfl rfl
          rw [pf_0] at hl
          exact hl
        -- the sign
        have sign : ∀ (pa pb k n : Nat), pa = sb (X a) → pb = sb (X b) → k = 0 → n = 0 → vx_V D vcl A H0 13 G (rH cI cZ q h0 f g s) k n 110 [(7, .int (nI jb_)), (6, .int (nI ja)), (5, .int (nI (m + 1))), (0, .ref (q 0)), (1, .int (nI d)), (2, .int (nI a)), (3, .int (nI b)), (4, .int (nI hw))] [.int (nI pb), .int (nI pa)] := by
          intro pa pb k n epa epb hk hn
          subst hk hn epa epb
          have l1 := sb_lt (X a)
          have l2 := sb_lt (X b)
          refine vx_iload IG dc_R_logic_110 7 rfl ?_
          refine vx_callS (As := [.int (nI (sb (X a))), .int (nI (sb (X b))), .int (nI hw)]) (st := []) IG lw_good (cR_joined _ (x := sb (X a)) (y := sb (X b)) (by omega) (by omega) hw3) wC_R_joined wL_R_96 wT_R_joined wX_R 3 (by decide +kernel) rfl ⟨Nat.le_of_ble_eq_true rfl, Nat.le_of_ble_eq_true rfl⟩ ⟨(by dsimp only [rm_]; omega), (by dsimp only [rm_]; omega)⟩ rfl (Nat.le_of_ble_eq_true rfl) dc_R_logic_112 (fun v h k_ n_ hq => ?_)
          obtain ⟨rfl, rfl, rfl, rfl⟩ := hq
          rw [jb_jn _ _ _ hw3 l1 l2]
          show vx_V _ _ _ _ _ _ _ _ _ 115 [(7, .int (nI jb_)), (6, .int (nI ja)), (5, .int (nI (m + 1))), (0, .ref (q 0)), (1, .int (nI d)), (2, .int (nI a)), (3, .int (nI b)), (4, .int (nI hw))] [.int (nI (jb hw (sb (X a)) (sb (X b))))]
          refine vx_iconst (v := 1) IG dc_R_logic_115 (by decide) ?_
          by_cases v : jb hw (sb (X a)) (sb (X b)) = 1
          · refine vx_icmp_ne (tgt := 123) IG dc_R_logic_116 (by decide) (fun c_ => absurd (by rw [v]; rfl) c_) (fun _ => ?_)
            refine vx_iconst (v := 1) IG dc_R_logic_119 (by decide) ?_
            refine vx_goto (tgt := 124) IG dc_R_logic_120 (by decide) ?_
            exact digits 1 _ _ v.symm rfl rfl
          · refine vx_icmp_ne (tgt := 123) IG dc_R_logic_116 (by decide) (fun _ => ?_) (fun c_ => absurd c_ (nI_ne (by omega) (b := 1) (by decide) v))
            refine vx_iconst (v := 0) IG dc_R_logic_123 (by decide) ?_
            exact digits 0 _ _ (by omega) rfl rfl
        have sA : X a < 0 → sb (X a) = 1 := fun e => if_pos e
        have sA' : ¬ X a < 0 → sb (X a) = 0 := fun e => if_neg e
        have sB : X b < 0 → sb (X b) = 1 := fun e => if_pos e
        have sB' : ¬ X b < 0 → sb (X b) = 0 := fun e => if_neg e
        by_cases v : X a < 0
        · refine vx_if_eq (tgt := 95) IG dc_R_logic_88 (by decide) (fun c_ => absurd c_ (by rw [sgI_neg v]; decide)) (fun _ => ?_)
          refine vx_iconst (v := 1) IG dc_R_logic_91 (by decide) ?_
          refine vx_goto (tgt := 96) IG dc_R_logic_92 (by decide) ?_
          refine vx_aload_n IG dc_R_logic_96 rfl 3 rfl ?_
          refine vx_get IG (ro_M LR) rfl 2 (by decide) inR wF_R_17 rfl rfl dc_R_logic_97 ?_
          refine vx_iload_n IG dc_R_logic_100 rfl 6 rfl ?_
          refine rr_zld IG LR ht2 hb (x := sgI (X b)) Bb dc_R_logic_101 ?_
          by_cases t : X b < 0
          · refine vx_if_eq (tgt := 109) IG dc_R_logic_102 (by decide) (fun c_ => absurd c_ (by rw [sgI_neg t]; decide)) (fun _ => ?_)
            refine vx_iconst (v := 1) IG dc_R_logic_105 (by decide) ?_
            refine vx_goto (tgt := 110) IG dc_R_logic_106 (by decide) ?_
            exact sign 1 1 _ _ (sA v).symm (sB t).symm rfl rfl
          · refine vx_if_eq (tgt := 109) IG dc_R_logic_102 (by decide) (fun _ => ?_) (fun c_ => absurd (sgI_pos t) c_)
            refine vx_iconst (v := 0) IG dc_R_logic_109 (by decide) ?_
            exact sign 1 0 _ _ (sA v).symm (sB' t).symm rfl rfl
        · refine vx_if_eq (tgt := 95) IG dc_R_logic_88 (by decide) (fun _ => ?_) (fun c_ => absurd (sgI_pos v) c_)
          refine vx_iconst (v := 0) IG dc_R_logic_95 (by decide) ?_
          refine vx_aload_n IG dc_R_logic_96 rfl 3 rfl ?_
          refine vx_get IG (ro_M LR) rfl 2 (by decide) inR wF_R_17 rfl rfl dc_R_logic_97 ?_
          refine vx_iload_n IG dc_R_logic_100 rfl 6 rfl ?_
          refine rr_zld IG LR ht2 hb (x := sgI (X b)) Bb dc_R_logic_101 ?_
          by_cases t : X b < 0
          · refine vx_if_eq (tgt := 109) IG dc_R_logic_102 (by decide) (fun c_ => absurd c_ (by rw [sgI_neg t]; decide)) (fun _ => ?_)
            refine vx_iconst (v := 1) IG dc_R_logic_105 (by decide) ?_
            refine vx_goto (tgt := 110) IG dc_R_logic_106 (by decide) ?_
            exact sign 0 1 _ _ (sA' v).symm (sB t).symm rfl rfl
          · refine vx_if_eq (tgt := 109) IG dc_R_logic_102 (by decide) (fun _ => ?_) (fun c_ => absurd (sgI_pos t) c_)
            refine vx_iconst (v := 0) IG dc_R_logic_109 (by decide) ?_
            exact sign 0 0 _ _ (sA' v).symm (sB' t).symm rfl rfl
      refine vx_aload_n IG dc_R_logic_34 rfl 0 rfl ?_
      refine vx_get IG (ro_M LR) rfl 1 (by decide) inR wF_R_14 rfl rfl dc_R_logic_35 ?_
      refine vx_iload_n IG dc_R_logic_38 rfl 2 rfl ?_
      refine rr_nld IG LR ht3 (show a < 24 by omega) (x := nI (nd 65536 (X a).natAbs)) Ra.1 dc_R_logic_39 ?_
      refine vx_aload_n IG dc_R_logic_40 rfl 0 rfl ?_
      refine vx_get IG (ro_M LR) rfl 1 (by decide) inR wF_R_14 rfl rfl dc_R_logic_41 ?_
      refine vx_iload_n IG dc_R_logic_44 rfl 3 rfl ?_
      refine rr_nld IG LR ht3 (show b < 24 by omega) (x := nI (nd 65536 (X b).natAbs)) Rb.1 dc_R_logic_45 ?_
      by_cases v : nd 65536 (X a).natAbs < nd 65536 (X b).natAbs
      · refine vx_icmp_ge (tgt := 58) IG dc_R_logic_46 (by decide) (fun c_ => absurd c_ (fun e => absurd (nI_lt v (by omega)) (Int32.not_lt.mpr e))) (fun _ => ?_)
        refine vx_aload_n IG dc_R_logic_49 rfl 0 rfl ?_
        refine vx_get IG (ro_M LR) rfl 1 (by decide) inR wF_R_14 rfl rfl dc_R_logic_50 ?_
        refine vx_iload_n IG dc_R_logic_53 rfl 3 rfl ?_
        refine rr_nld IG LR ht3 (show b < 24 by omega) (x := nI (nd 65536 (X b).natAbs)) Rb.1 dc_R_logic_54 ?_
        refine vx_goto (tgt := 64) IG dc_R_logic_55 (by decide) ?_
        exact main _ _ _ (by omega) (by omega) (by omega) rfl rfl
      · refine vx_icmp_ge (tgt := 58) IG dc_R_logic_46 (by decide) (fun _ => ?_) (fun c_ => absurd (nI_le (by omega) (by omega)) c_)
        refine vx_aload_n IG dc_R_logic_58 rfl 0 rfl ?_
        refine vx_get IG (ro_M LR) rfl 1 (by decide) inR wF_R_14 rfl rfl dc_R_logic_59 ?_
        refine vx_iload_n IG dc_R_logic_62 rfl 2 rfl ?_
        refine rr_nld IG LR ht3 (show a < 24 by omega) (x := nI (nd 65536 (X a).natAbs)) Ra.1 dc_R_logic_63 ?_
        exact main _ _ _ (by omega) (by omega) (by omega) rfl rfl
    · refine vx_icmp_le (tgt := 34) IG dc_R_logic_29 (by decide) (fun c_ => absurd c_ y2) (fun _ => ?_)
      refine vx_iconst (v := 0) IG dc_R_logic_32 (by decide) ?_
      refine vx_ret (some (.int 0)) RG (vx_endi (by first | rfl | decide) dc_R_logic_33) rfl ?_
      rw [if_neg (fun e => y2 (by rw [Int32.le_iff_toInt_le, i3]; exact e.2))]
      exact ⟨rfl, rfl, rfl, f, g, s, V, rfl, HP, HX⟩
end
