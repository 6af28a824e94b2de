/-! the mill: divide -/
def sp4 (v0 : Int32) (X : Nat → Int) (F : Nat → Nat → Nat → Nat → Int32 × (Nat → Int)) (r s t u : Int32) : Int32 × (Nat → Int) := if isR r ∧ isR s ∧ isR t ∧ isR u then F r.toNatClampNeg s.toNatClampNeg t.toNatClampNeg u.toNatClampNeg else (v0, X)
theorem sp4_ok {v0 : Int32} {X : Nat → Int} {F : Nat → Nat → Nat → Nat → Int32 × (Nat → Int)} {d a b e : Nat} (hd : d < 16) (ha : a < 16) (hb : b < 16) (he : e < 16) : sp4 v0 X F (nI d) (nI a) (nI b) (nI e) = F d a b e := by unfold sp4; rw [if_pos ⟨isR_nI hd, isR_nI ha, isR_nI hb, isR_nI he⟩, nI_clamp (by omega), nI_clamp (by omega), nI_clamp (by omega), nI_clamp (by omega)]
theorem sp4_no {v0 : Int32} {X : Nat → Int} {F : Nat → Nat → Nat → Nat → Int32 × (Nat → Int)} {r s t u : Int32} (h : ¬ (isR r ∧ isR s ∧ isR t ∧ isR u)) : sp4 v0 X F r s t u = (v0, X) := if_neg h
theorem nI_ne {a b : Nat} (ha : a < 2 ^ 31) (hb : b < 2 ^ 31) (h : a ≠ b) : ¬ nI a = nI b := fun q => by
  have := congrArg Int32.toInt q
  rw [nI_toInt ha, nI_toInt hb] at this
  omega
/-- does a quotient that is rounded down differ from the one that is cut? -/
abbrev dvM (x y : Int) (dn : Int32) : Prop := ¬ dn = 0 ∧ ¬ sgI x = sgI y ∧ ¬ x.natAbs % y.natAbs = 0
def dvQ (x y : Int) (dn : Int32) : Int := kz (if sgI x = sgI y then 0 else 1) (x.natAbs / y.natAbs + if dvM x y dn then 1 else 0)
def dvR (x y : Int) (dn : Int32) : Int := if dvM x y dn then kz (sgI y) (y.natAbs - x.natAbs % y.natAbs) else kz (sgI x) (x.natAbs % y.natAbs)
def dvF (X : Nat → Int) (dn : Int32) (q r a b : Nat) : Int32 × (Nat → Int) := if q = r ∨ X b = 0 then (0, X) else (1, va_up (va_up X q (dvQ (X a) (X b) dn)) r (dvR (X a) (X b) dn))
theorem div_one {A B : Nat} (hB : 0 < B) (h : ¬ A % B = 0) : A / B + 1 ≤ A := by
  have h2 : 2 ≤ B := by
    rcases Nat.lt_or_ge B 2 with q | q
    · exfalso
      rw [show B = 1 by omega, Nat.mod_one] at h
      exact h rfl
    · exact q
  have h1 : A / B ≤ A / 2 := Nat.div_le_div_left h2 (by decide)
  have h3 : A ≠ 0 := fun q => h (by rw [q, Nat.zero_mod])
  omega
section
variable {l : Launch} {D : va_G} {tys : List (ClassId × FieldType)} {cJ cQ cZ : ClassId} {ad : Nat → Nat} {r0 h : vx_h} {W : Nat → Nat} {X : Nat → Int} {C S : Nat} {a b d s : Nat} {w : Int32}
set_option maxRecDepth 100000 in
set_option maxHeartbeats 8000000 in
theorem cM_divide (LY : lay cQ ad r0) (HM : mw cJ cZ ad r0 W X h C S) (ht : tys[0]? = some (cJ, .long)) (ht1 : tys[1]? = some (cQ, .object "SignedMill$Whole")) (ht2 : tys[2]? = some (cZ, .boolean)) (r1 r2 r3 r4 dn : Int32) : vx_M l D vcl tys my_M_divide lw_gd (rm_ 5 C S 133) [.ref (ad 30), .int r1, .int r2, .int r3, .int r4, .int dn] h (mpub cJ cZ ad r0 (sp4 0 X (dvF X dn) r1 r2 r3 r4).2 C S (sp4 0 X (dvF X dn) r1 r2 r3 r4).1) := by
  refine vx_M.ofV (cc := bc_M_divide) (maxL := 8) (ret := some .boolean) (own := rM) false rfl (by decide +kernel) wC_M_divide (fun q => by cases q) (Nat.le_of_ble_eq_true rfl) (fun A H0 G IG RG => ?_)
  show vx_V _ _ _ _ _ _ _ _ _ 0 [(0, .ref (ad 30)), (1, .int r1), (2, .int r2), (3, .int r3), (4, .int r4), (5, .int dn)] []
  refine vx_iload_n IG dc_M_divide_0 rfl 1 rfl ?_
  refine vx_iload_n IG dc_M_divide_1 rfl 2 rfl ?_
  refine vx_callS (As := [.int r1, .int r2]) (st := []) IG lw_good (cM_areRegisters _ r1 r2) wC_M_areRegisters wL_M_70 wT_M_areRegisters wX_M 2 (by decide +kernel) rfl ⟨Nat.le_of_ble_eq_true rfl, Nat.le_of_ble_eq_true rfl⟩ ⟨(by dsimp only [rm_]; omega), (by dsimp only [rm_]; omega)⟩ rfl (Nat.le_of_ble_eq_true rfl) dc_M_divide_2 (fun v h k1 n1 hq => ?_)
  obtain ⟨rfl, rfl, rfl, rfl⟩ := hq
  show vx_V _ _ _ _ _ _ _ _ _ 5 [(0, .ref (ad 30)), (1, .int r1), (2, .int r2), (3, .int r3), (4, .int r4), (5, .int dn)] [.int (if isR r1 ∧ isR r2 then 1 else 0)]
  by_cases z0 : isR r1 ∧ isR r2
  · refine vx_topi (y := 1) (if_pos z0) ?_
    refine vx_if_eq (tgt := 17) IG dc_M_divide_5 (by decide) (fun c_ => absurd c_ (by decide)) (fun _ => ?_)
    refine vx_iload_n IG dc_M_divide_8 rfl 3 rfl ?_
    refine vx_iload IG dc_M_divide_9 4 rfl ?_
    refine vx_callS (As := [.int r3, .int r4]) (st := []) IG lw_good (cM_areRegisters _ r3 r4) wC_M_areRegisters wL_M_70 wT_M_areRegisters wX_M 2 (by decide +kernel) rfl ⟨Nat.le_of_ble_eq_true rfl, Nat.le_of_ble_eq_true rfl⟩ ⟨(by dsimp only [rm_]; omega), (by dsimp only [rm_]; omega)⟩ rfl (Nat.le_of_ble_eq_true rfl) dc_M_divide_11 (fun v h k2 n2 hq => ?_)
    obtain ⟨rfl, rfl, rfl, rfl⟩ := hq
    show vx_V _ _ _ _ _ _ _ _ _ 14 [(0, .ref (ad 30)), (1, .int r1), (2, .int r2), (3, .int r3), (4, .int r4), (5, .int dn)] [.int (if isR r3 ∧ isR r4 then 1 else 0)]
    by_cases z1 : isR r3 ∧ isR r4
    · refine vx_topi (y := 1) (if_pos z1) ?_
      refine vx_if_ne (tgt := 19) IG dc_M_divide_14 (by decide) (fun _ => ?_) (fun c_ => absurd c_ (by decide))
      obtain ⟨q, hq6, rfl⟩ := isR_of z0.1
      obtain ⟨r, hr6, rfl⟩ := isR_of z0.2
      obtain ⟨a, ha, rfl⟩ := isR_of z1.1
      obtain ⟨b, hb, rfl⟩ := isR_of z1.2
      rw [sp4_ok hq6 hr6 ha hb] at RG
      have hWa := mw_W HM ha
      have hWb := mw_W HM hb
      have hna := lim_nd.mp hWa.2
      have hnb := lim_nd.mp hWb.2
      refine vx_iload_n IG dc_M_divide_19 rfl 1 rfl ?_
      refine vx_iload_n IG dc_M_divide_20 rfl 2 rfl ?_
      by_cases y : q = r
      · refine vx_icmp_eq (tgt := 37) IG dc_M_divide_21 (by decide) (fun _ => ?_) (fun c_ => absurd (by rw [y]) c_)
        refine vx_iconst (v := 0) IG dc_M_divide_37 (by decide) ?_
        refine vx_ret (some (.int 0)) RG (vx_endi (by first | rfl | decide) dc_M_divide_38) rfl ?_
        unfold dvF
        rw [if_pos (Or.inl y)]
        exact ⟨rfl, W, C, S, HM, by omega, by omega⟩
      · refine vx_icmp_eq (tgt := 37) IG dc_M_divide_21 (by decide) (fun c_ => absurd c_ (nI_ne (by omega) (by omega) y)) (fun _ => ?_)
        refine vx_aload_n IG dc_M_divide_24 rfl 0 rfl ?_
        refine vx_get IG (mo_M LY HM) rfl 0 (by decide) inM wF_M_11 rfl rfl dc_M_divide_25 ?_
        refine vx_iload IG dc_M_divide_28 4 rfl ?_
        refine mr_aal IG LY HM hb ht1 dc_M_divide_30 ?_
        refine vx_callV (As := []) (st := []) IG lw_good (mW_isZero HM b (by omega)) ((mo_W HM (show b < 30 by omega)).choose_spec) rfl wC_W_isZero wL_M_89 wI_W_isZero wS_W_isZero wX_W 0 (by decide +kernel) rfl ⟨Nat.le_of_ble_eq_true rfl, Nat.le_of_ble_eq_true rfl⟩ ⟨(by dsimp only [rm_]; omega), (by dsimp only [rm_]; omega)⟩ rfl (Nat.le_of_ble_eq_true rfl) dc_M_divide_31 (fun v h k3 n3 hq => ?_)
        obtain ⟨rfl, rfl, rfl, rfl⟩ := hq
        show vx_V _ _ _ _ _ _ _ _ _ 34 [(0, .ref (ad 30)), (1, .int (nI q)), (2, .int (nI r)), (3, .int (nI a)), (4, .int (nI b)), (5, .int dn)] [.int (if W b = 0 then 1 else 0)]
        by_cases x : W b = 0
        · refine vx_topi (y := 1) (if_pos x) ?_
          refine vx_if_eq (tgt := 39) IG dc_M_divide_34 (by decide) (fun c_ => absurd c_ (by decide)) (fun _ => ?_)
          refine vx_iconst (v := 0) IG dc_M_divide_37 (by decide) ?_
          refine vx_ret (some (.int 0)) RG (vx_endi (by first | rfl | decide) dc_M_divide_38) rfl ?_
          unfold dvF
          rw [if_pos (Or.inr (by omega))]
          exact ⟨rfl, W, C, S, HM, by omega, by omega⟩
        · refine vx_topi (y := 0) (if_neg x) ?_
          refine vx_if_eq (tgt := 39) IG dc_M_divide_34 (by decide) (fun _ => ?_) (fun c_ => absurd rfl c_)
          have hbp : 0 < W b := Nat.pos_of_ne_zero x
          unfold dvF at RG
          rw [if_neg (fun z => z.elim y (by omega))] at RG
          -- both are put away
          have c175 : ∀ (h : vx_h) (W2 : Nat → Nat) (C2 S2 k m : Nat) (qb rb : Int32), mw cJ cZ ad r0 W2 X h C2 S2 → (qb = 0 ∨ qb = 1) → (rb = 0 ∨ rb = 1) → lim (W2 19) → lim (W2 20) → kz qb (W2 19) = dvQ (X a) (X b) dn → kz rb (W2 20) = dvR (X a) (X b) dn → k + C2 ≤ C → m + S2 ≤ S → vx_V D vcl A H0 8 G h k m 175 [(7, .int rb), (6, .int qb), (0, .ref (ad 30)), (1, .int (nI q)), (2, .int (nI r)), (3, .int (nI a)), (4, .int (nI b)), (5, .int dn)] [] := by
            intro h W2 C2 S2 k m qb rb HM hqb hrb l1 l2 e1 e2 hk hm
            refine vx_aload_n IG dc_M_divide_175 rfl 2 rfl ?_
            refine vx_iload_n IG dc_M_divide_176 rfl 3 rfl ?_
            refine vx_aload_n IG dc_M_divide_177 rfl 2 rfl ?_
            refine vx_get IG (mo_M LY HM) rfl 5 (by decide) inM wF_M_33 rfl rfl dc_M_divide_178 ?_
            refine vx_get IG (mo_D LY HM) rfl 0 (by decide) inD wF_M_99 rfl rfl dc_M_divide_181 ?_
            refine vx_iload IG dc_M_divide_184 1 rfl ?_
            refine vx_callV (As := [.int (nI q), .ref (ad 19), .int qb]) (st := []) IG lw_good (cM_settle LY HM hq6 (s := 19) (by decide) (by decide) l1 hqb ht ht1 ht2) (mo_M LY HM) rfl wC_M_settle wL_M_105 wI_M_settle wS_M_settle wX_M 3 (by decide +kernel) rfl ⟨Nat.le_of_ble_eq_true rfl, Nat.le_of_ble_eq_true rfl⟩ ⟨(by dsimp only [rm_]; omega), (by dsimp only [rm_]; omega)⟩ rfl (Nat.le_of_ble_eq_true rfl) dc_M_divide_186 (fun v h k11 n11 hq => ?_)
            obtain ⟨rfl, C3, S3, HM, hk3, hm3⟩ := hq
            rw [e1] at HM
            have v1 : va_up W2 q (W2 19) 20 = W2 20 := va_up_ne _ _ (by omega)
            show vx_V _ _ _ _ _ _ _ _ _ 189 [(7, .int rb), (6, .int qb), (0, .ref (ad 30)), (1, .int (nI q)), (2, .int (nI r)), (3, .int (nI a)), (4, .int (nI b)), (5, .int dn)] []
            refine vx_aload_n IG dc_M_divide_189 rfl 2 rfl ?_
            refine vx_iload_n IG dc_M_divide_190 rfl 4 rfl ?_
            refine vx_aload_n IG dc_M_divide_191 rfl 2 rfl ?_
            refine vx_get IG (mo_M LY HM) rfl 5 (by decide) inM wF_M_33 rfl rfl dc_M_divide_192 ?_
            refine vx_get IG (mo_D LY HM) rfl 1 (by decide) inD wF_M_96 rfl rfl dc_M_divide_195 ?_
            refine vx_iload IG dc_M_divide_198 0 rfl ?_
            refine vx_callV (As := [.int (nI r), .ref (ad 20), .int rb]) (st := []) IG lw_good (cM_settle LY HM hr6 (s := 20) (by decide) (by decide) (by rw [v1]; exact l2) hrb ht ht1 ht2) (mo_M LY HM) rfl wC_M_settle wL_M_105 wI_M_settle wS_M_settle wX_M 3 (by decide +kernel) rfl ⟨Nat.le_of_ble_eq_true rfl, Nat.le_of_ble_eq_true rfl⟩ ⟨(by dsimp only [rm_]; omega), (by dsimp only [rm_]; omega)⟩ rfl (Nat.le_of_ble_eq_true rfl) dc_M_divide_200 (fun v h k12 n12 hq => ?_)
            obtain ⟨rfl, C4, S4, HM, hk4, hm4⟩ := hq
            rw [v1, e2] at HM
            show vx_V _ _ _ _ _ _ _ _ _ 203 [(7, .int rb), (6, .int qb), (0, .ref (ad 30)), (1, .int (nI q)), (2, .int (nI r)), (3, .int (nI a)), (4, .int (nI b)), (5, .int dn)] []
            refine vx_iconst (v := 1) IG dc_M_divide_203 (by decide) ?_
            refine vx_ret (some (.int 1)) RG (vx_endi (by first | rfl | decide) dc_M_divide_204) rfl ?_
            exact ⟨rfl, _, C4, S4, HM, by omega, by omega⟩
          have c62 : ∀ (qb : Int32) (k m : Nat), qb = (if sgI (X a) = sgI (X b) then 0 else 1) → k = 0 → m = 0 → vx_V D vcl A H0 8 G h k m 62 [(6, .int qb), (0, .ref (ad 30)), (1, .int (nI q)), (2, .int (nI r)), (3, .int (nI a)), (4, .int (nI b)), (5, .int dn)] [] := by
            intro qb k m eqb ek em
            have hqb : qb = 0 ∨ qb = 1 := by rw [eqb]; split <;> simp
            refine vx_aload_n IG dc_M_divide_62 rfl 1 rfl ?_
            refine vx_get IG (mo_M LY HM) rfl 1 (by decide) inM wF_M_15 rfl rfl dc_M_divide_63 ?_
            refine vx_iload_n IG dc_M_divide_66 rfl 4 rfl ?_
            refine mr_zal IG LY HM ha ht2 dc_M_divide_67 ?_
            refine vx_istore (lv' := [(7, .int (sgI (X a))), (6, .int qb), (0, .ref (ad 30)), (1, .int (nI q)), (2, .int (nI r)), (3, .int (nI a)), (4, .int (nI b)), (5, .int dn)]) IG dc_M_divide_68 (by decide) rfl ?_
            refine vx_aload_n IG dc_M_divide_70 rfl 2 rfl ?_
            refine vx_get IG (mo_M LY HM) rfl 5 (by decide) inM wF_M_33 rfl rfl dc_M_divide_71 ?_
            refine vx_aload_n IG dc_M_divide_74 rfl 2 rfl ?_
            refine vx_get IG (mo_M LY HM) rfl 0 (by decide) inM wF_M_11 rfl rfl dc_M_divide_75 ?_
            refine vx_iload_n IG dc_M_divide_78 rfl 5 rfl ?_
            refine mr_aal IG LY HM ha ht1 dc_M_divide_79 ?_
            refine vx_aload_n IG dc_M_divide_80 rfl 2 rfl ?_
            refine vx_get IG (mo_M LY HM) rfl 0 (by decide) inM wF_M_11 rfl rfl dc_M_divide_81 ?_
            refine vx_iload IG dc_M_divide_84 6 rfl ?_
            refine mr_aal IG LY HM hb ht1 dc_M_divide_86 ?_
            refine vx_callV (As := [.ref (ad a), .ref (ad b)]) (st := []) IG lw_good (mD_run LY HM a b (Or.inl (by omega)) (Or.inl (by omega)) ht (by omega) (by omega)) (mo_D LY HM) rfl wC_D_run wL_M_93 wI_D_run wS_D_run wX_D 2 (by decide +kernel) rfl ⟨Nat.le_of_ble_eq_true rfl, Nat.le_of_ble_eq_true rfl⟩ ⟨(by dsimp only [rm_]; omega), (by dsimp only [rm_]; omega)⟩ rfl (Nat.le_of_ble_eq_true rfl) dc_M_divide_87 (fun v h k21 n21 hq => ?_)
            obtain ⟨rfl, N, C1, S1, HM, hk1, hm1⟩ := hq
            have v19 : va_up (va_up (va_up W 21 N) 19 (W a / W b)) 20 (W a % W b) 19 = W a / W b := by rw [va_up_ne _ _ (by decide), va_up_self]
            have v20 : va_up (va_up (va_up W 21 N) 19 (W a / W b)) 20 (W a % W b) 20 = W a % W b := va_up_self _ _ _
            have vb : va_up (va_up (va_up W 21 N) 19 (W a / W b)) 20 (W a % W b) b = W b := by rw [va_up_ne _ _ (by omega), va_up_ne _ _ (by omega), va_up_ne _ _ (by omega)]
            generalize va_up (va_up (va_up W 21 N) 19 (W a / W b)) 20 (W a % W b) = W1 at *
            have l19 : lim (W a / W b) := lim_mono (Nat.div_le_self _ _) hWa.2
            have hmod := Nat.mod_lt (W a) hbp
            have l20 : lim (W a % W b) := lim_mono (Nat.le_of_lt hmod) hWb.2
            show vx_V _ _ _ _ _ _ _ _ _ 90 [(7, .int (sgI (X a))), (6, .int qb), (0, .ref (ad 30)), (1, .int (nI q)), (2, .int (nI r)), (3, .int (nI a)), (4, .int (nI b)), (5, .int dn)] []
            refine vx_iload IG dc_M_divide_90 7 rfl ?_
            have plain : ∀ (k m : Nat), ¬ dvM (X a) (X b) dn → k + C1 ≤ C → m + S1 ≤ S → vx_V D vcl A H0 8 G h k m 175 [(7, .int (sgI (X a))), (6, .int qb), (0, .ref (ad 30)), (1, .int (nI q)), (2, .int (nI r)), (3, .int (nI a)), (4, .int (nI b)), (5, .int dn)] [] := by
              intro k m hn hk hm
              refine c175 h W1 C1 S1 k m qb (sgI (X a)) HM hqb (sgI_01 _) (by rw [v19]; exact l19) (by rw [v20]; exact l20) ?_ ?_ hk hm
              · unfold dvQ
                rw [if_neg hn, Nat.add_zero, v19, eqb, hWa.1, hWb.1]
              · unfold dvR
                rw [if_neg hn, v20, hWa.1, hWb.1]
            by_cases z1 : dn = 0
            · refine vx_if_eq (tgt := 175) IG dc_M_divide_92 (by decide) (fun _ => ?_) (fun c_ => absurd z1 c_)
              exact plain _ _ (fun z => z.1 z1) (by omega) (by omega)
            · refine vx_if_eq (tgt := 175) IG dc_M_divide_92 (by decide) (fun c_ => absurd c_ z1) (fun _ => ?_)
              refine vx_iload IG dc_M_divide_95 1 rfl ?_
              by_cases z2 : sgI (X a) = sgI (X b)
              · rw [if_pos z2] at eqb
                refine vx_if_eq (tgt := 175) IG dc_M_divide_97 (by decide) (fun _ => ?_) (fun c_ => absurd eqb c_)
                exact plain _ _ (fun z => z.2.1 z2) (by omega) (by omega)
              · refine vx_if_eq (tgt := 175) IG dc_M_divide_97 (by decide) (fun c_ => absurd c_ (by rw [eqb, if_neg z2]; decide)) (fun _ => ?_)
                refine vx_aload_n IG dc_M_divide_100 rfl 2 rfl ?_
                refine vx_get IG (mo_M LY HM) rfl 5 (by decide) inM wF_M_33 rfl rfl dc_M_divide_101 ?_
                refine vx_get IG (mo_D LY HM) rfl 1 (by decide) inD wF_M_96 rfl rfl dc_M_divide_104 ?_
                refine vx_callV (As := []) (st := []) IG lw_good (mW_isZero HM 20 (by decide)) ((mo_W HM (show 20 < 30 by decide)).choose_spec) rfl wC_W_isZero wL_M_89 wI_W_isZero wS_W_isZero wX_W 0 (by decide +kernel) rfl ⟨Nat.le_of_ble_eq_true rfl, Nat.le_of_ble_eq_true rfl⟩ ⟨(by dsimp only [rm_]; omega), (by dsimp only [rm_]; omega)⟩ rfl (Nat.le_of_ble_eq_true rfl) dc_M_divide_107 (fun v h k22 n22 hq => ?_)
                obtain ⟨rfl, rfl, rfl, rfl⟩ := hq
                show vx_V _ _ _ _ _ _ _ _ _ 110 [(7, .int (sgI (X a))), (6, .int qb), (0, .ref (ad 30)), (1, .int (nI q)), (2, .int (nI r)), (3, .int (nI a)), (4, .int (nI b)), (5, .int dn)] [.int (if W1 20 = 0 then 1 else 0)]
                by_cases z3 : W1 20 = 0
                · refine vx_topi (y := 1) (if_pos z3) ?_
                  refine vx_if_ne (tgt := 175) IG dc_M_divide_110 (by decide) (fun _ => ?_) (fun c_ => absurd c_ (by decide))
                  exact plain _ _ (fun z => z.2.2 (by rw [← hWa.1, ← hWb.1, ← v20]; exact z3)) (by omega) (by omega)
                · refine vx_topi (y := 0) (if_neg z3) ?_
                  refine vx_if_ne (tgt := 175) IG dc_M_divide_110 (by decide) (fun c_ => absurd rfl c_) (fun _ => ?_)
                  refine vx_aload_n IG dc_M_divide_113 rfl 2 rfl ?_
                  refine vx_get IG (mo_M LY HM) rfl 3 (by decide) inM wF_M_24 rfl rfl dc_M_divide_114 ?_
                  refine vx_lconst (v := 1) IG dc_M_divide_117 (by decide) ?_
                  have hM : dvM (X a) (X b) dn := ⟨z1, z2, by rw [← hWa.1, ← hWb.1, ← v20]; exact z3⟩
                  rw [v20] at z3
                  have hdo := div_one hbp z3
                  refine vx_callV (As := [.long 1]) (st := []) IG lw_good (mW_load LY HM 17 (by decide) (by decide) ht (b := 1) (by decide)) ((mo_W HM (show 17 < 30 by decide)).choose_spec) rfl wC_W_load wL_M_48 wI_W_load wS_W_load wX_W 1 (by decide +kernel) rfl ⟨Nat.le_of_ble_eq_true rfl, Nat.le_of_ble_eq_true rfl⟩ ⟨(by dsimp only [rm_]; omega), (by dsimp only [rm_]; omega)⟩ rfl (Nat.le_of_ble_eq_true rfl) dc_M_divide_118 (fun v h k23 n23 hq => ?_)
                  obtain ⟨rfl, C2, S2, HM, hk2, hm2⟩ := hq
                  have u19 : va_up W1 17 1 19 = W a / W b := by rw [va_up_ne _ _ (by decide), v19]
                  have u17 : va_up W1 17 1 17 = 1 := va_up_self _ _ _
                  have n19 : nd 4294967296 (W a / W b) ≤ 2048 := lim_nd.mp l19
                  show vx_V _ _ _ _ _ _ _ _ _ 121 [(7, .int (sgI (X a))), (6, .int qb), (0, .ref (ad 30)), (1, .int (nI q)), (2, .int (nI r)), (3, .int (nI a)), (4, .int (nI b)), (5, .int dn)] []
                  refine vx_aload_n IG dc_M_divide_121 rfl 2 rfl ?_
                  refine vx_get IG (mo_M LY HM) rfl 5 (by decide) inM wF_M_33 rfl rfl dc_M_divide_122 ?_
                  refine vx_get IG (mo_D LY HM) rfl 0 (by decide) inD wF_M_99 rfl rfl dc_M_divide_125 ?_
                  refine vx_aload_n IG dc_M_divide_128 rfl 2 rfl ?_
                  refine vx_get IG (mo_M LY HM) rfl 5 (by decide) inM wF_M_33 rfl rfl dc_M_divide_129 ?_
                  refine vx_get IG (mo_D LY HM) rfl 0 (by decide) inD wF_M_99 rfl rfl dc_M_divide_132 ?_
                  refine vx_aload_n IG dc_M_divide_135 rfl 2 rfl ?_
                  refine vx_get IG (mo_M LY HM) rfl 3 (by decide) inM wF_M_24 rfl rfl dc_M_divide_136 ?_
                  refine vx_callV (As := [.ref (ad 19), .ref (ad 17)]) (st := []) IG lw_good (mW_sum LY HM 19 19 17 (by decide) (by decide) (by decide) (by decide) ht (by rw [u19]; omega) (by rw [u17]; decide)) ((mo_W HM (show 19 < 30 by decide)).choose_spec) rfl wC_W_sum wL_M_62 wI_W_sum wS_W_sum wX_W 2 (by decide +kernel) rfl ⟨Nat.le_of_ble_eq_true rfl, Nat.le_of_ble_eq_true rfl⟩ ⟨(by dsimp only [rm_]; omega), (by dsimp only [rm_]; omega)⟩ rfl (Nat.le_of_ble_eq_true rfl) dc_M_divide_139 (fun v h k24 n24 hq => ?_)
                  obtain ⟨rfl, C3, S3, HM, hk3, hm3⟩ := hq
                  rw [u19, u17] at HM
                  have t20 : va_up (va_up W1 17 1) 19 (W a / W b + 1) 20 = W a % W b := by rw [va_up_ne _ _ (by decide), va_up_ne _ _ (by decide), v20]
                  have tb : va_up (va_up W1 17 1) 19 (W a / W b + 1) b = W b := by rw [va_up_ne _ _ (by omega), va_up_ne _ _ (by omega), vb]
                  show vx_V _ _ _ _ _ _ _ _ _ 142 [(7, .int (sgI (X a))), (6, .int qb), (0, .ref (ad 30)), (1, .int (nI q)), (2, .int (nI r)), (3, .int (nI a)), (4, .int (nI b)), (5, .int dn)] []
                  refine vx_aload_n IG dc_M_divide_142 rfl 2 rfl ?_
                  refine vx_get IG (mo_M LY HM) rfl 5 (by decide) inM wF_M_33 rfl rfl dc_M_divide_143 ?_
                  refine vx_get IG (mo_D LY HM) rfl 1 (by decide) inD wF_M_96 rfl rfl dc_M_divide_146 ?_
                  refine vx_aload_n IG dc_M_divide_149 rfl 2 rfl ?_
                  refine vx_get IG (mo_M LY HM) rfl 0 (by decide) inM wF_M_11 rfl rfl dc_M_divide_150 ?_
                  refine vx_iload IG dc_M_divide_153 6 rfl ?_
                  refine mr_aal IG LY HM hb ht1 dc_M_divide_155 ?_
                  refine vx_aload_n IG dc_M_divide_156 rfl 2 rfl ?_
                  refine vx_get IG (mo_M LY HM) rfl 5 (by decide) inM wF_M_33 rfl rfl dc_M_divide_157 ?_
                  refine vx_get IG (mo_D LY HM) rfl 1 (by decide) inD wF_M_96 rfl rfl dc_M_divide_160 ?_
                  refine vx_callV (As := [.ref (ad b), .ref (ad 20)]) (st := []) IG lw_good (mW_difference LY HM 20 b 20 (by decide) (by decide) (by omega) (by decide) ht (by rw [tb]; omega) (by rw [tb, t20]; omega)) ((mo_W HM (show 20 < 30 by decide)).choose_spec) rfl wC_W_difference wL_M_102 wI_W_difference wS_W_difference wX_W 2 (by decide +kernel) rfl ⟨Nat.le_of_ble_eq_true rfl, Nat.le_of_ble_eq_true rfl⟩ ⟨(by dsimp only [rm_]; omega), (by dsimp only [rm_]; omega)⟩ rfl (Nat.le_of_ble_eq_true rfl) dc_M_divide_163 (fun v h k25 n25 hq => ?_)
                  obtain ⟨rfl, C4, S4, HM, hk4, hm4⟩ := hq
                  rw [tb, t20] at HM
                  show vx_V _ _ _ _ _ _ _ _ _ 166 [(7, .int (sgI (X a))), (6, .int qb), (0, .ref (ad 30)), (1, .int (nI q)), (2, .int (nI r)), (3, .int (nI a)), (4, .int (nI b)), (5, .int dn)] []
                  refine vx_aload_n IG dc_M_divide_166 rfl 2 rfl ?_
                  refine vx_get IG (mo_M LY HM) rfl 1 (by decide) inM wF_M_15 rfl rfl dc_M_divide_167 ?_
                  refine vx_iload IG dc_M_divide_170 6 rfl ?_
                  refine mr_zal IG LY HM hb ht2 dc_M_divide_172 ?_
                  refine vx_istore (lv' := [(7, .int (sgI (X b))), (6, .int qb), (0, .ref (ad 30)), (1, .int (nI q)), (2, .int (nI r)), (3, .int (nI a)), (4, .int (nI b)), (5, .int dn)]) IG dc_M_divide_173 (by decide) rfl ?_
                  refine vx_same (lv' := [(7, .int (sgI (X b))), (6, .int qb), (0, .ref (ad 30)), (1, .int (nI q)), (2, .int (nI r)), (3, .int (nI a)), (4, .int (nI b)), (5, .int dn)]) IG [0, 1, 2, 3, 4, 5, 6, 7] rfl ?_
                  have w19 : va_up (va_up (va_up W1 17 1) 19 (W a / W b + 1)) 20 (W b - W a % W b) 19 = W a / W b + 1 := by rw [va_up_ne _ _ (by decide), va_up_self]
                  have w20 : va_up (va_up (va_up W1 17 1) 19 (W a / W b + 1)) 20 (W b - W a % W b) 20 = W b - W a % W b := va_up_self _ _ _
                  refine c175 h _ C4 S4 _ _ qb (sgI (X b)) HM hqb (sgI_01 _) (by rw [w19]; exact lim_mono hdo hWa.2) (by rw [w20]; exact lim_mono (Nat.sub_le _ _) hWb.2) ?_ ?_ (by omega) (by omega)
                  · unfold dvQ
                    rw [if_pos hM, w19, eqb, hWa.1, hWb.1]
                  · unfold dvR
                    rw [if_pos hM, w20, hWa.1, hWb.1]
          refine vx_aload_n IG dc_M_divide_39 rfl 0 rfl ?_
          refine vx_get IG (mo_M LY HM) rfl 1 (by decide) inM wF_M_15 rfl rfl dc_M_divide_40 ?_
          refine vx_iload_n IG dc_M_divide_43 rfl 3 rfl ?_
          refine mr_zal IG LY HM ha ht2 dc_M_divide_44 ?_
          refine vx_aload_n IG dc_M_divide_45 rfl 0 rfl ?_
          refine vx_get IG (mo_M LY HM) rfl 1 (by decide) inM wF_M_15 rfl rfl dc_M_divide_46 ?_
          refine vx_iload IG dc_M_divide_49 4 rfl ?_
          refine mr_zal IG LY HM hb ht2 dc_M_divide_51 ?_
          by_cases z : sgI (X a) = sgI (X b)
          · refine vx_icmp_eq (tgt := 59) IG dc_M_divide_52 (by decide) (fun _ => ?_) (fun c_ => absurd z c_)
            refine vx_iconst (v := 0) IG dc_M_divide_59 (by decide) ?_
            refine vx_istore (lv' := [(6, .int 0), (0, .ref (ad 30)), (1, .int (nI q)), (2, .int (nI r)), (3, .int (nI a)), (4, .int (nI b)), (5, .int dn)]) IG dc_M_divide_60 (by decide) rfl ?_
            exact c62 0 _ _ (by rw [if_pos z]) rfl rfl
          · refine vx_icmp_eq (tgt := 59) IG dc_M_divide_52 (by decide) (fun c_ => absurd c_ z) (fun _ => ?_)
            refine vx_iconst (v := 1) IG dc_M_divide_55 (by decide) ?_
            refine vx_goto (tgt := 60) IG dc_M_divide_56 (by decide) ?_
            refine vx_istore (lv' := [(6, .int 1), (0, .ref (ad 30)), (1, .int (nI q)), (2, .int (nI r)), (3, .int (nI a)), (4, .int (nI b)), (5, .int dn)]) IG dc_M_divide_60 (by decide) rfl ?_
            exact c62 1 _ _ (by rw [if_neg z]) rfl rfl
    · refine vx_topi (y := 0) (if_neg z1) ?_
      refine vx_if_ne (tgt := 19) IG dc_M_divide_14 (by decide) (fun c_ => absurd rfl c_) (fun _ => ?_)
      refine vx_iconst (v := 0) IG dc_M_divide_17 (by decide) ?_
      refine vx_ret (some (.int 0)) RG (vx_endi (by first | rfl | decide) dc_M_divide_18) rfl ?_
      rw [sp4_no (fun q => z1 (⟨q.2.2.1, q.2.2.2⟩))]
      exact ⟨rfl, W, C, S, HM, by omega, by omega⟩
  · refine vx_topi (y := 0) (if_neg z0) ?_
    refine vx_if_eq (tgt := 17) IG dc_M_divide_5 (by decide) (fun _ => ?_) (fun c_ => absurd rfl c_)
    refine vx_iconst (v := 0) IG dc_M_divide_17 (by decide) ?_
    refine vx_ret (some (.int 0)) RG (vx_endi (by first | rfl | decide) dc_M_divide_18) rfl ?_
    rw [sp4_no (fun q => z0 (⟨q.1, q.2.1⟩))]
    exact ⟨rfl, W, C, S, HM, by omega, by omega⟩
end
