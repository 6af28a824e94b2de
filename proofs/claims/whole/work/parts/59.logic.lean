/-! the mill: join, logic -/
theorem ln_andnot {A B : Nat} (hA : A < 4294967296) (hB : B < 4294967296) : lN A &&& (lN B ^^^ (-1)) = lN (A &&& (2 ^ 32 - 1 - B)) := by
  have e1 : lN B ^^^ (-1) = lN (18446744073709551615 - B) := by
    rw [show (-1 : Int64) = lN 18446744073709551615 from rfl, lN_xor]
    congr 1
    apply Nat.eq_of_testBit_eq
    intro i
    rw [Nat.testBit_xor, show (18446744073709551615 : Nat) = 2 ^ 64 - 1 from rfl, Nat.testBit_two_pow_sub_one, show 2 ^ 64 - 1 - B = 2 ^ 64 - (B + 1) by omega, Nat.testBit_two_pow_sub_succ (by omega)]
    by_cases z : i < 64
    · simp [z]
    · rw [Nat.testBit_lt_two_pow (Nat.lt_of_lt_of_le (show B < 2 ^ 64 by omega) (Nat.pow_le_pow_right (by decide) (Nat.le_of_not_lt z)))]
      simp [z]
  rw [e1, wb_and (by omega) (by omega)]
  congr 1
  apply Nat.eq_of_testBit_eq
  intro i
  rw [Nat.testBit_and, Nat.testBit_and, show 18446744073709551615 - B = 2 ^ 64 - (B + 1) by omega, Nat.testBit_two_pow_sub_succ (by omega), show 2 ^ 32 - 1 - B = 2 ^ 32 - (B + 1) by omega, Nat.testBit_two_pow_sub_succ (by omega)]
  by_cases z : i < 32
  · have z2 : i < 64 := by omega
    simp [z, z2]
  · rw [Nat.testBit_lt_two_pow (Nat.lt_of_lt_of_le (show A < 2 ^ 32 by omega) (Nat.pow_le_pow_right (by decide) (Nat.le_of_not_lt z)))]
    simp
section
variable {l : Launch} {D : va_G} {tys : List (ClassId × FieldType)} {cJ cQ cZ : ClassId} {ad : Nat → Nat} {r0 h r : vx_h} {W : Nat → Nat} {X : Nat → Int} {C S : Nat} {a b d s : Nat} {w : Int32} {L : List Nat} {ar cp : Nat → Nat} {cn : Nat → Int32} {fn : Nat → Nat → Int64}
set_option maxRecDepth 100000 in
set_option maxHeartbeats 4000000 in
theorem cM_join (h : vx_h) {A B how : Nat} (hA : A < 4294967296) (hB : B < 4294967296) (hh : how ≤ 3) : vx_M l D vcl tys my_M_join lw_gd (rm_ 0 0 0 0) [.long (lN A), .long (lN B), .int (nI how)] h (fun v h' k n => v = some (.long (lN (jn 32 how A B))) ∧ h' = h ∧ k = 0 ∧ n = 0) := by
  refine vx_M.ofV (cc := bc_M_join) (maxL := 5) (ret := some .long) (own := rM) false rfl (by decide +kernel) wC_M_join (fun q => by cases q) (Nat.le_of_ble_eq_true rfl) (fun A_ H0 G IG RG => ?_)
  show vx_V _ _ _ _ _ _ _ _ _ 0 [(0, .long (lN A)), (2, .long (lN B)), (4, .int (nI how))] []
  refine vx_iload IG dc_M_join_0 2 rfl ?_
  rcases (show how = 0 ∨ how = 1 ∨ how = 2 ∨ how = 3 by omega) with rfl | rfl | rfl | rfl
  · refine vx_tableIn (off := 26) (tgt := 28) IG dc_M_join_2 (by decide) (by decide) rfl (by decide) ?_
    refine vx_lload_n IG dc_M_join_28 rfl 0 rfl ?_
    refine vx_lload_n IG dc_M_join_29 rfl 1 rfl ?_
    refine vx_land IG dc_M_join_30 ?_
    refine vx_topl (y := lN (A &&& B)) (wb_and (by omega) (by omega)) ?_
    refine vx_ret (some (.long (lN (A &&& B)))) RG (vx_endl dc_M_join_31) rfl ?_
    exact ⟨rfl, rfl, rfl, rfl⟩
  · refine vx_tableIn (off := 30) (tgt := 32) IG dc_M_join_2 (by decide) (by decide) rfl (by decide) ?_
    refine vx_lload_n IG dc_M_join_32 rfl 0 rfl ?_
    refine vx_lload_n IG dc_M_join_33 rfl 1 rfl ?_
    refine vx_lor IG dc_M_join_34 ?_
    refine vx_topl (y := lN (A ||| B)) (wb_or (by omega) (by omega)) ?_
    refine vx_ret (some (.long (lN (A ||| B)))) RG (vx_endl dc_M_join_35) rfl ?_
    exact ⟨rfl, rfl, rfl, rfl⟩
  · refine vx_tableIn (off := 34) (tgt := 36) IG dc_M_join_2 (by decide) (by decide) rfl (by decide) ?_
    refine vx_lload_n IG dc_M_join_36 rfl 0 rfl ?_
    refine vx_lload_n IG dc_M_join_37 rfl 1 rfl ?_
    refine vx_lxor IG dc_M_join_38 ?_
    refine vx_topl (y := lN (A ^^^ B)) (lN_xor _ _) ?_
    refine vx_ret (some (.long (lN (A ^^^ B)))) RG (vx_endl dc_M_join_39) rfl ?_
    exact ⟨rfl, rfl, rfl, rfl⟩
  · refine vx_tableOut (tgt := 40) IG dc_M_join_2 (Or.inr (by decide)) (by decide) ?_
    refine vx_lload_n IG dc_M_join_40 rfl 0 rfl ?_
    refine vx_lload_n IG dc_M_join_41 rfl 1 rfl ?_
    refine vx_ldc2 (v := -1) IG wK_M_197 dc_M_join_42 ?_
    refine vx_lxor IG dc_M_join_45 ?_
    refine vx_land IG dc_M_join_46 ?_
    refine vx_topl (y := lN (A &&& (2 ^ 32 - 1 - B))) (ln_andnot hA hB) ?_
    refine vx_ret (some (.long (lN (A &&& (2 ^ 32 - 1 - B))))) RG (vx_endl dc_M_join_47) rfl ?_
    exact ⟨rfl, rfl, rfl, rfl⟩
/-- the mill's own cells -/
def mx (cQ cZ : ClassId) (ad : Nat → Nat) (X : Nat → Int) (h : vx_h) : Prop := h (ad 30) = some (.inr (3, [.ref (ad 31), .ref (ad 32), .ref (ad 16), .ref (ad 17), .ref (ad 18), .ref (ad 33), .ref (ad 34)])) ∧ (∃ f : Nat → Option Nat, h (ad 31) = some (.inl (cQ, 16, .inr (.inr (.inr (.inr f))))) ∧ ∀ j, j < 16 → f j = some (ad j)) ∧ h (ad 32) = some (.inl (cZ, 16, .inl (fun i => sgI (X i))))
theorem mx_r (hr : mx cQ cZ ad X r) (HR : rw_at 2 cJ L r ar cp cn fn h) : mx cQ cZ ad X h := by
  obtain ⟨h1, ⟨f, h2, h3⟩, h4⟩ := hr
  exact ⟨rw_r HR h1, ⟨f, rw_r HR h2, h3⟩, rw_r HR h4⟩
theorem rMl_mx (LY : lay cQ ad r0) {e : Int32} {x1 x2 x3 x4 : Int} : mx cQ cZ ad X (rMl cZ ad r0 X e x1 x2 x3 x4) := by
  have ne : ∀ a b, a < 36 → b < 36 → a ≠ b → ad a ≠ ad b := fun a b h1 h2 h3 => inj_ne LY.1 h1 h2 h3
  obtain ⟨f, h2, h3⟩ := LY.2.2.1
  refine ⟨?_, ⟨f, ?_, h3⟩, ?_⟩
  · unfold rMl
    rw [vx_up_n (ne _ _ (by decide) (by decide) (by decide)), vx_up_n (ne _ _ (by decide) (by decide) (by decide))]
    exact LY.2.1
  · unfold rMl
    rw [vx_up_n (ne _ _ (by decide) (by decide) (by decide)), vx_up_n (ne _ _ (by decide) (by decide) (by decide))]
    exact h2
  · unfold rMl
    rw [vx_up_n (ne _ _ (by decide) (by decide) (by decide)), vx_up_s]
theorem mx_aal {R : Room} {own : String} {cc : ByteArray} {nL : Nat} {ct : Bool} {A : Nat → Prop} {H0 : Heap} {G : vx_G} {k n pc j : Nat} {lv : List (Nat × Value)} {st : List Value} (IG : vx_I l D vcl tys R own cc nL lw_gd ct A H0 G) (hx : mx cQ cZ ad X h) (hj : j < 16) (ht1 : tys[1]? = some (cQ, .object "SignedMill$Whole")) (hd : decode cc pc = .ok (.aaload, 1)) (K : vx_V D vcl A H0 nL G h k n (pc + 1) lv (.ref (ad j) :: st)) : vx_V D vcl A H0 nL G h k n pc lv (.int (nI j) :: .ref (ad 31) :: st) := by
  obtain ⟨f, e1, e2⟩ := hx.2.1
  refine vx_aald IG e1 1 ht1 (vp_in_nI hj (by decide)) ?_ hd K
  rw [nI_clamp (by omega)]
  exact e2 j hj
theorem mx_zal {R : Room} {own : String} {cc : ByteArray} {nL : Nat} {ct : Bool} {A : Nat → Prop} {H0 : Heap} {G : vx_G} {k n pc j : Nat} {lv : List (Nat × Value)} {st : List Value} (IG : vx_I l D vcl tys R own cc nL lw_gd ct A H0 G) (hx : mx cQ cZ ad X h) (hj : j < 16) (ht2 : tys[2]? = some (cZ, .boolean)) (hd : decode cc pc = .ok (.baload, 1)) (K : vx_V D vcl A H0 nL G h k n (pc + 1) lv (.int (sgI (X j)) :: st)) : vx_V D vcl A H0 nL G h k n pc lv (.int (nI j) :: .ref (ad 32) :: st) := by
  refine vx_zald IG hx.2.2 2 ht2 (vp_in_nI hj (by decide)) ?_ hd K
  rw [nI_clamp (by omega)]
set_option maxRecDepth 100000 in
set_option maxHeartbeats 4000000 in
theorem cM_endlessDigitR (hx : mx cQ cZ ad X h) (HR : rw_at 2 cJ L r ar cp cn fn h) (hp : ad a ∈ L) (ha : a < 16) {N : Nat} (hv : wv cp cn fn (ad a) N) (hN : N = (X a).natAbs) {k j : Nat} (hk : k < 2 ^ 31) (hj : j < 2 ^ 31) (hf : fsd N j) (ht : tys[0]? = some (cJ, .long)) (ht1 : tys[1]? = some (cQ, .object "SignedMill$Whole")) (ht2 : tys[2]? = some (cZ, .boolean)) : vx_M l D vcl tys my_M_endlessDigit lw_gd (rm_ 1 0 0 21) [.ref (ad 30), .int (nI a), .int (nI k), .int (nI j)] h (fun v h' k' n => v = some (.long (lN (eD 4294967296 (X a) k))) ∧ h' = h ∧ k' = 0 ∧ n = 0) := by
  have gx := dg_lt bB1 N k
  refine vx_M.ofV (cc := bc_M_endlessDigit) (maxL := 6) (ret := some .long) (own := rM) false rfl (by decide +kernel) wC_M_endlessDigit (fun q => by cases q) (Nat.le_of_ble_eq_true rfl) (fun A H0 G IG RG => ?_)
  show vx_V _ _ _ _ _ _ _ _ _ 0 [(0, .ref (ad 30)), (1, .int (nI a)), (2, .int (nI k)), (3, .int (nI j))] []
  refine vx_aload_n IG dc_M_endlessDigit_0 rfl 0 rfl ?_
  refine vx_get IG hx.1 rfl 0 (by decide) inM wF_M_11 rfl rfl dc_M_endlessDigit_1 ?_
  refine vx_iload_n IG dc_M_endlessDigit_4 rfl 1 rfl ?_
  refine mx_aal IG hx ha ht1 dc_M_endlessDigit_5 ?_
  refine vx_iload_n IG dc_M_endlessDigit_6 rfl 2 rfl ?_
  refine vx_callV (As := [.int (nI k)]) (st := []) IG lw_good (cW_digitAt HR hp ht hv hk) (rw_obj HR hp) rfl wC_W_digitAt wL_M_193 wI_W_digitAt wS_W_digitAt wX_W 1 (by decide +kernel) rfl ⟨Nat.le_of_ble_eq_true rfl, Nat.le_of_ble_eq_true rfl⟩ ⟨(by dsimp only [rm_]; omega), (by dsimp only [rm_]; omega)⟩ rfl (Nat.le_of_ble_eq_true rfl) dc_M_endlessDigit_7 (fun v h k_ n_ hq => ?_)
  obtain ⟨rfl, rfl, rfl, rfl⟩ := hq
  show vx_V _ _ _ _ _ _ _ _ _ 10 [(0, .ref (ad 30)), (1, .int (nI a)), (2, .int (nI k)), (3, .int (nI j))] [.long (lN (dg 4294967296 N k))]
  refine vx_lstore (lv' := [(4, .long (lN (dg 4294967296 N k))), (0, .ref (ad 30)), (1, .int (nI a)), (2, .int (nI k)), (3, .int (nI j))]) IG dc_M_endlessDigit_10 (by decide) rfl ?_
  refine vx_aload_n IG dc_M_endlessDigit_12 rfl 1 rfl ?_
  refine vx_get IG hx.1 rfl 1 (by decide) inM wF_M_15 rfl rfl dc_M_endlessDigit_13 ?_
  refine vx_iload_n IG dc_M_endlessDigit_16 rfl 2 rfl ?_
  refine mx_zal IG hx ha ht2 dc_M_endlessDigit_17 ?_
  by_cases y : X a < 0
  · refine vx_if_ne (tgt := 24) IG dc_M_endlessDigit_18 (by decide) (fun _ => ?_) (fun c_ => absurd c_ (by rw [sgI_neg y]; decide))
    have hWp : 0 < N := by omega
    have hX : X a = -((N : Nat) : Int) := by omega
    have he := eD_first (k := k) bB1 hf.2.2 (hf.2.1 hWp).2
    rw [← hX] at he
    refine vx_iload_n IG dc_M_endlessDigit_24 rfl 3 rfl ?_
    refine vx_iload_n IG dc_M_endlessDigit_25 rfl 4 rfl ?_
    by_cases x : k ≤ j
    · rw [if_pos x] at he
      refine vx_icmp_gt (tgt := 35) IG dc_M_endlessDigit_26 (by decide) (fun c_ => absurd c_ (fun q => absurd (nI_le x hj) (Int32.not_le.mpr q))) (fun _ => ?_)
      refine vx_lload IG dc_M_endlessDigit_29 0 rfl ?_
      refine vx_lneg IG dc_M_endlessDigit_31 ?_
      refine vx_goto (tgt := 41) IG dc_M_endlessDigit_32 (by decide) ?_
      refine vx_ldc2 (v := 4294967295) IG wK_M_199 dc_M_endlessDigit_41 ?_
      refine vx_land IG dc_M_endlessDigit_44 ?_
      refine vx_topl (y := lN ((4294967296 - dg 4294967296 N k) % 4294967296)) (ln_negm gx) ?_
      refine vx_ret (some (.long (lN ((4294967296 - dg 4294967296 N k) % 4294967296)))) RG (vx_endl dc_M_endlessDigit_45) rfl ?_
      exact ⟨by rw [he], rfl, rfl, rfl⟩
    · rw [if_neg x] at he
      refine vx_icmp_gt (tgt := 35) IG dc_M_endlessDigit_26 (by decide) (fun _ => ?_) (fun c_ => absurd (nI_lt (by omega) (by omega)) c_)
      refine vx_lload IG dc_M_endlessDigit_35 0 rfl ?_
      refine vx_ldc2 (v := -1) IG wK_M_197 dc_M_endlessDigit_37 ?_
      refine vx_lxor IG dc_M_endlessDigit_40 ?_
      refine vx_ldc2 (v := 4294967295) IG wK_M_199 dc_M_endlessDigit_41 ?_
      refine vx_land IG dc_M_endlessDigit_44 ?_
      refine vx_topl (y := lN (4294967295 - dg 4294967296 N k)) (ln_not gx) ?_
      refine vx_ret (some (.long (lN (4294967295 - dg 4294967296 N k)))) RG (vx_endl dc_M_endlessDigit_45) rfl ?_
      exact ⟨by rw [he], rfl, rfl, rfl⟩
  · refine vx_if_ne (tgt := 24) IG dc_M_endlessDigit_18 (by decide) (fun c_ => absurd (sgI_pos y) c_) (fun _ => ?_)
    refine vx_lload IG dc_M_endlessDigit_21 0 rfl ?_
    refine vx_ret (some (.long (lN (dg 4294967296 N k)))) RG (vx_endl dc_M_endlessDigit_23) rfl ?_
    have hX : X a = ((N : Nat) : Int) := by omega
    exact ⟨by rw [hX, eD_nat], rfl, rfl, rfl⟩
def lgF (X : Nat → Int) (how : Int32) (d a b : Nat) : Int32 × (Nat → Int) := if 0 ≤ how.toInt ∧ how.toInt ≤ 3 then kp X d (lgZ how.toNatClampNeg (X a) (X b)) else (0, X)
set_option maxRecDepth 100000 in
set_option maxHeartbeats 8000000 in
theorem cM_logic (LY : lay cQ ad r0) (HM : mw cJ cZ ad r0 W X h C S) (ht : tys[0]? = some (cJ, .long)) (ht1 : tys[1]? = some (cQ, .object "SignedMill$Whole")) (ht2 : tys[2]? = some (cZ, .boolean)) (r1 r2 r3 hw : Int32) : vx_M l D vcl tys my_M_logic lw_gd (rm_ 6 C S 135) [.ref (ad 30), .int r1, .int r2, .int r3, .int hw] h (mpub cJ cZ ad r0 (sp3 0 X (lgF X hw) r1 r2 r3).2 C S (sp3 0 X (lgF X hw) r1 r2 r3).1) := by
  refine vx_M.ofV (cc := bc_M_logic) (maxL := 9) (ret := some .boolean) (own := rM) false rfl (by decide +kernel) wC_M_logic (fun q => by cases q) (Nat.le_of_ble_eq_true rfl) (fun A H0 G IG RG => ?_)
  show vx_V _ _ _ _ _ _ _ _ _ 0 [(0, .ref (ad 30)), (1, .int r1), (2, .int r2), (3, .int r3), (4, .int hw)] []
  refine vx_iload_n IG dc_M_logic_0 rfl 1 rfl ?_
  refine vx_iload_n IG dc_M_logic_1 rfl 2 rfl ?_
  refine vx_callS (As := [.int r1, .int r2]) (st := []) IG lw_good (cM_areRegisters _ r1 r2) wC_M_areRegisters wL_M_70 wT_M_areRegisters wX_M 2 (by decide +kernel) rfl ⟨Nat.le_of_ble_eq_true rfl, Nat.le_of_ble_eq_true rfl⟩ ⟨(by dsimp only [rm_]; omega), (by dsimp only [rm_]; omega)⟩ rfl (Nat.le_of_ble_eq_true rfl) dc_M_logic_2 (fun v h k1 n1 hq => ?_)
  obtain ⟨rfl, rfl, rfl, rfl⟩ := hq
  show vx_V _ _ _ _ _ _ _ _ _ 5 [(0, .ref (ad 30)), (1, .int r1), (2, .int r2), (3, .int r3), (4, .int hw)] [.int (if isR r1 ∧ isR r2 then 1 else 0)]
  by_cases z0 : isR r1 ∧ isR r2
  · refine vx_topi (y := 1) (if_pos z0) ?_
    refine vx_if_eq (tgt := 26) IG dc_M_logic_5 (by decide) (fun c_ => absurd c_ (by decide)) (fun _ => ?_)
    refine vx_iload_n IG dc_M_logic_8 rfl 3 rfl ?_
    refine vx_callS (As := [.int r3]) (st := []) IG lw_good (cM_isRegister _ r3) wC_M_isRegister wL_M_44 wT_M_isRegister wX_M 1 (by decide +kernel) rfl ⟨Nat.le_of_ble_eq_true rfl, Nat.le_of_ble_eq_true rfl⟩ ⟨(by dsimp only [rm_]; omega), (by dsimp only [rm_]; omega)⟩ rfl (Nat.le_of_ble_eq_true rfl) dc_M_logic_9 (fun v h k2 n2 hq => ?_)
    obtain ⟨rfl, rfl, rfl, rfl⟩ := hq
    show vx_V _ _ _ _ _ _ _ _ _ 12 [(0, .ref (ad 30)), (1, .int r1), (2, .int r2), (3, .int r3), (4, .int hw)] [.int (if isR r3 then 1 else 0)]
    by_cases z1 : isR r3
    · refine vx_topi (y := 1) (if_pos z1) ?_
      refine vx_if_eq (tgt := 26) IG dc_M_logic_12 (by decide) (fun c_ => absurd c_ (by decide)) (fun _ => ?_)
      obtain ⟨d, hd, rfl⟩ := isR_of z0.1
      obtain ⟨a, ha, rfl⟩ := isR_of z0.2
      obtain ⟨b, hb, rfl⟩ := isR_of z1
      rw [sp3_ok hd ha hb] at RG
      unfold lgF at RG
      have i0 : (0 : Int32).toInt = 0 := rfl
      have i3 : (3 : Int32).toInt = 3 := rfl
      refine vx_iload IG dc_M_logic_15 4 rfl ?_
      by_cases y : hw < 0
      · refine vx_if_lt (tgt := 26) IG dc_M_logic_17 (by decide) (fun _ => ?_) (fun c_ => absurd y c_)
        refine vx_iconst (v := 0) IG dc_M_logic_26 (by decide) ?_
        refine vx_ret (some (.int 0)) RG (vx_endi (by first | rfl | decide) dc_M_logic_27) rfl ?_
        rw [if_neg (fun q => by have := Int32.lt_iff_toInt_lt.mp y; omega)]
        exact ⟨rfl, W, C, S, HM, by omega, by omega⟩
      · refine vx_if_lt (tgt := 26) IG dc_M_logic_17 (by decide) (fun c_ => absurd c_ y) (fun _ => ?_)
        refine vx_iload IG dc_M_logic_20 4 rfl ?_
        refine vx_iconst (v := 3) IG dc_M_logic_22 (by decide) ?_
        by_cases y2 : hw ≤ 3
        · refine vx_icmp_le (tgt := 28) IG dc_M_logic_23 (by decide) (fun _ => ?_) (fun c_ => absurd y2 c_)
          rw [Int32.lt_iff_toInt_lt] at y
          rw [Int32.le_iff_toInt_le] at y2
          obtain ⟨how, hhow, rfl⟩ := i32_pos (x := hw) (by omega)
          rw [nI_toInt hhow] at y y2
          rw [nI_toInt hhow, if_pos ⟨by omega, by omega⟩, nI_clamp hhow] at RG
          have hWa := mw_W HM ha
          have hWb := mw_W HM hb
          have hna := lim_nd.mp hWa.2
          have hnb := lim_nd.mp hWb.2
          have HM0 := HM
          obtain ⟨e0, x1, x2, x3, x4, ⟨V, HP, hV⟩, hW⟩ := HM
          obtain ⟨ar, cp, cn, fn, HR, hwv, hC, hS⟩ := HP
          have hap := pl_mem (ad := ad) (show a < 30 by omega)
          have hbp := pl_mem (ad := ad) (show b < 30 by omega)
          have hrp := pl_mem (ad := ad) (show 16 < 30 by decide)
          have hwa := hwv _ hap
          have hwb := hwv _ hbp
          rw [hV a (by omega)] at hwa
          rw [hV b (by omega)] at hwb
          have hna16 : ad a ≠ ad 16 := inj_ne LY.1 (by omega) (by decide) (by omega)
          have hnb16 : ad b ≠ ad 16 := inj_ne LY.1 (by omega) (by decide) (by omega)
          have hxr := rMl_mx (cZ := cZ) (X := X) (e := e0) (x1 := x1) (x2 := x2) (x3 := x3) (x4 := x4) LY
          have hx := mx_r hxr HR
          refine vx_aload_n IG dc_M_logic_28 rfl 0 rfl ?_
          refine vx_get IG hx.1 rfl 0 (by decide) inM wF_M_11 rfl rfl dc_M_logic_29 ?_
          refine vx_iload_n IG dc_M_logic_32 rfl 2 rfl ?_
          refine mx_aal IG hx ha ht1 dc_M_logic_33 ?_
          refine wr_cnt IG HR hap wF_M_109 dc_M_logic_34 ?_
          refine vx_topi (y := nI (nd 4294967296 (W a))) hwa.1 ?_
          refine vx_aload_n IG dc_M_logic_37 rfl 0 rfl ?_
          refine vx_get IG hx.1 rfl 0 (by decide) inM wF_M_11 rfl rfl dc_M_logic_38 ?_
          refine vx_iload_n IG dc_M_logic_41 rfl 3 rfl ?_
          refine mx_aal IG hx hb ht1 dc_M_logic_42 ?_
          refine wr_cnt IG HR hbp wF_M_109 dc_M_logic_43 ?_
          refine vx_topi (y := nI (nd 4294967296 (W b))) hwb.1 ?_
          refine vx_callS (As := [.int (nI (nd 4294967296 (W a))), .int (nI (nd 4294967296 (W b)))]) (st := []) IG lw_good (cJM_max _ _ _) wC_JM_max_II wL_M_113 wT_JM_max_II wX_JM 2 (by decide +kernel) rfl ⟨Nat.le_of_ble_eq_true rfl, Nat.le_of_ble_eq_true rfl⟩ ⟨(by dsimp only [rm_]; omega), (by dsimp only [rm_]; omega)⟩ rfl (Nat.le_of_ble_eq_true rfl) dc_M_logic_46 (fun v h k3 n3 hq => ?_)
          obtain ⟨rfl, rfl, rfl, rfl⟩ := hq
          show vx_V _ _ _ _ _ _ _ _ _ 49 [(0, .ref (ad 30)), (1, .int (nI d)), (2, .int (nI a)), (3, .int (nI b)), (4, .int (nI how))] [.int (if nI (nd 4294967296 (W a)) < nI (nd 4294967296 (W b)) then nI (nd 4294967296 (W b)) else nI (nd 4294967296 (W a)))]
          refine vx_topi (y := nI (max (nd 4294967296 (W a)) (nd 4294967296 (W b)))) (nI_max2 (by omega) (by omega)) ?_
          have m1 : nd 4294967296 (W a) ≤ max (nd 4294967296 (W a)) (nd 4294967296 (W b)) := Nat.le_max_left _ _
          have m2 : nd 4294967296 (W b) ≤ max (nd 4294967296 (W a)) (nd 4294967296 (W b)) := Nat.le_max_right _ _
          have m3 : max (nd 4294967296 (W a)) (nd 4294967296 (W b)) ≤ 2048 := by omega
          generalize max (nd 4294967296 (W a)) (nd 4294967296 (W b)) = m at *
          refine vx_iconst (v := 1) IG dc_M_logic_49 (by decide) ?_
          refine vx_iadd IG dc_M_logic_50 ?_
          refine vx_topi (y := nI (m + 1)) (nI_1 m) ?_
          refine vx_istore (lv' := [(5, .int (nI (m + 1))), (0, .ref (ad 30)), (1, .int (nI d)), (2, .int (nI a)), (3, .int (nI b)), (4, .int (nI how))]) IG dc_M_logic_51 (by decide) rfl ?_
          refine vx_aload_n IG dc_M_logic_53 rfl 1 rfl ?_
          refine vx_get IG hx.1 rfl 0 (by decide) inM wF_M_11 rfl rfl dc_M_logic_54 ?_
          refine vx_iload_n IG dc_M_logic_57 rfl 3 rfl ?_
          refine mx_aal IG hx ha ht1 dc_M_logic_58 ?_
          refine vx_callV (As := []) (st := []) IG lw_good (mW_firstDigit HM0 a (by omega) ht) (rw_obj HR hap) rfl wC_W_firstDigit wL_M_119 wI_W_firstDigit wS_W_firstDigit wX_W 0 (by decide +kernel) rfl ⟨Nat.le_of_ble_eq_true rfl, Nat.le_of_ble_eq_true rfl⟩ ⟨(by dsimp only [rm_]; omega), (by dsimp only [rm_]; omega)⟩ rfl (Nat.le_of_ble_eq_true rfl) dc_M_logic_59 (fun v h k4 n4 hq => ?_)
          obtain ⟨rfl, rfl, rfl, ja, rfl, f1, f2, f3⟩ := hq
          have hja : ja < 2 ^ 31 := by
            rcases Nat.eq_zero_or_pos (W a) with z | z
            · rw [f1 z]; decide
            · have := (f2 z).1; omega
          have hfa : fsd (W a) ja := ⟨f1, f2, f3⟩
          show vx_V _ _ _ _ _ _ _ _ _ 62 [(5, .int (nI (m + 1))), (0, .ref (ad 30)), (1, .int (nI d)), (2, .int (nI a)), (3, .int (nI b)), (4, .int (nI how))] [.int (nI ja)]
          refine vx_istore (lv' := [(6, .int (nI ja)), (5, .int (nI (m + 1))), (0, .ref (ad 30)), (1, .int (nI d)), (2, .int (nI a)), (3, .int (nI b)), (4, .int (nI how))]) IG dc_M_logic_62 (by decide) rfl ?_
          refine vx_aload_n IG dc_M_logic_64 rfl 2 rfl ?_
          refine vx_get IG hx.1 rfl 0 (by decide) inM wF_M_11 rfl rfl dc_M_logic_65 ?_
          refine vx_iload_n IG dc_M_logic_68 rfl 5 rfl ?_
          refine mx_aal IG hx hb ht1 dc_M_logic_69 ?_
          refine vx_callV (As := []) (st := []) IG lw_good (mW_firstDigit HM0 b (by omega) ht) (rw_obj HR hbp) rfl wC_W_firstDigit wL_M_119 wI_W_firstDigit wS_W_firstDigit wX_W 0 (by decide +kernel) rfl ⟨Nat.le_of_ble_eq_true rfl, Nat.le_of_ble_eq_true rfl⟩ ⟨(by dsimp only [rm_]; omega), (by dsimp only [rm_]; omega)⟩ rfl (Nat.le_of_ble_eq_true rfl) dc_M_logic_70 (fun v h k5 n5 hq => ?_)
          obtain ⟨rfl, rfl, rfl, jb2, rfl, f4, f5, f6⟩ := hq
          have hjb : jb2 < 2 ^ 31 := by
            rcases Nat.eq_zero_or_pos (W b) with z | z
            · rw [f4 z]; decide
            · have := (f5 z).1; omega
          have hfb : fsd (W b) jb2 := ⟨f4, f5, f6⟩
          show vx_V _ _ _ _ _ _ _ _ _ 73 [(6, .int (nI ja)), (5, .int (nI (m + 1))), (0, .ref (ad 30)), (1, .int (nI d)), (2, .int (nI a)), (3, .int (nI b)), (4, .int (nI how))] [.int (nI jb2)]
          refine vx_istore (lv' := [(7, .int (nI jb2)), (6, .int (nI ja)), (5, .int (nI (m + 1))), (0, .ref (ad 30)), (1, .int (nI d)), (2, .int (nI a)), (3, .int (nI b)), (4, .int (nI how))]) IG dc_M_logic_73 (by decide) rfl ?_
          refine vx_aload_n IG dc_M_logic_75 rfl 3 rfl ?_
          refine vx_get IG hx.1 rfl 2 (by decide) inM wF_M_20 rfl rfl dc_M_logic_76 ?_
          refine vx_iload IG dc_M_logic_79 2 rfl ?_
          refine vx_callV (As := [.int (nI (m + 1))]) (st := []) IG lw_good (cW_room HR (pl_nodup LY.1) hrp ht (n := m + 1) (by omega) hC hS) (rw_obj HR hrp) rfl wC_W_room wL_M_123 wI_W_room wS_W_room wX_W 1 (by decide +kernel) rfl ⟨Nat.le_of_ble_eq_true rfl, Nat.le_of_ble_eq_true rfl⟩ ⟨(by dsimp only [rm_]; omega), (by dsimp only [rm_]; omega)⟩ rfl (Nat.le_of_ble_eq_true rfl) dc_M_logic_81 (fun v h k6 n6 hq => ?_)
          obtain ⟨rfl, ar1, cp1, fn1, HR1, ho1, hn1, hge1, hsame1, hk1, hm1⟩ := hq
          have hcp := rw_cap HR1 hrp
          have hwa1 : wv cp1 cn fn1 (ad a) (W a) := wv_same hwa (ho1 _ hna16).1 rfl (ho1 _ hna16).2
          have hwb1 : wv cp1 cn fn1 (ad b) (W b) := wv_same hwb (ho1 _ hnb16).1 rfl (ho1 _ hnb16).2
          show vx_V _ _ _ _ _ _ _ _ _ 84 [(7, .int (nI jb2)), (6, .int (nI ja)), (5, .int (nI (m + 1))), (0, .ref (ad 30)), (1, .int (nI d)), (2, .int (nI a)), (3, .int (nI b)), (4, .int (nI how))] []
          obtain ⟨Dd, eDd⟩ : ∃ f : Nat → Nat, f = fun k => jn 32 how (eD 4294967296 (X a) k) (eD 4294967296 (X b) k) := ⟨_, rfl⟩
          have hDlt : ∀ k, Dd k < 4294967296 := fun k => by rw [eDd]; exact jn_lt (w := 32) (eD_lt (by decide) _ _) (eD_lt (by decide) _ _)
          have hlg := lg_digits (w := 32) (how := how) (m := m) (x := X a) (y := X b) (Dd := Dd) (by rw [← hWa.1, ← bp32]; exact (nd_le bB1).mp m1) (by rw [← hWb.1, ← bp32]; exact (nd_le bB1).mp m2) (by omega) (fun k _ => by rw [eDd])
          obtain ⟨hl1, hl2, hl3⟩ := hlg
          generalize lgZ how (X a) (X b) = zz at *
          -- what comes behind the loop
          have fin : ∀ (h : vx_h) (W2 : Nat → Nat) (C2 S2 k n : Nat) (bw : Int32), mw cJ cZ ad r0 W2 X h C2 S2 → (bw = 0 ∨ bw = 1) → kz bw (W2 16) = zz → k + C2 ≤ C → n + S2 ≤ S → vx_V D vcl A H0 9 G h k n 183 [(8, .int bw), (7, .int (nI jb2)), (6, .int (nI ja)), (5, .int (nI (m + 1))), (0, .ref (ad 30)), (1, .int (nI d)), (2, .int (nI a)), (3, .int (nI b)), (4, .int (nI how))] [] := by
            intro h W2 C2 S2 k n bw HM hbw ez hk hn
            refine vx_aload_n IG dc_M_logic_183 rfl 4 rfl ?_
            refine vx_iload_n IG dc_M_logic_184 rfl 5 rfl ?_
            refine vx_iload IG dc_M_logic_185 0 rfl ?_
            refine vx_callV (As := [.int (nI d), .int bw]) (st := []) IG lw_good (cM_keep LY HM hd hbw ht ht1 ht2) (mo_M LY HM) rfl wC_M_keep wL_M_52 wI_M_keep wS_M_keep wX_M 2 (by decide +kernel) rfl ⟨Nat.le_of_ble_eq_true rfl, Nat.le_of_ble_eq_true rfl⟩ ⟨(by dsimp only [rm_]; omega), (by dsimp only [rm_]; omega)⟩ rfl (Nat.le_of_ble_eq_true rfl) dc_M_logic_187 (fun v h k21 n21 hq => ?_)
            rw [ez] at hq
            obtain ⟨rfl, W', C9, S9, HM9, hk9, hm9⟩ := hq
            show vx_V _ _ _ _ _ _ _ _ _ 190 [(8, .int bw), (7, .int (nI jb2)), (6, .int (nI ja)), (5, .int (nI (m + 1))), (0, .ref (ad 30)), (1, .int (nI d)), (2, .int (nI a)), (3, .int (nI b)), (4, .int (nI how))] [.int (kpV zz)]
            refine vx_ret (some (.int (kpV zz))) RG (vx_endi (by unfold kpV; split <;> rfl) dc_M_logic_190) rfl ?_
            exact ⟨rfl, W', C9, S9, HM9, by omega, by omega⟩
          have back : ∀ (h : vx_h) (cn2 : Nat → Int32) (fn2 : Nat → Nat → Int64) (N : Nat), rw_at 2 cJ (pl ad) (rMl cZ ad r0 X e0 x1 x2 x3 x4) ar1 cp1 cn2 fn2 h → (∀ q, q ≠ ad 16 → cn2 q = cn q ∧ fn2 q = fn1 q) → wv cp1 cn2 fn2 (ad 16) N → mw cJ cZ ad r0 (va_up W 16 N) X h (pc_ cp1 (pl ad)) (ph cp1 (pl ad)) := by
            intro h cn2 fn2 N HR2 g1 g2
            refine mw_up (V := V) (b := e0) (x1 := x1) (x2 := x2) (x3 := x3) (x4 := x4) LY.1 (by decide) (by decide) ⟨ar1, cp1, cn2, fn2, HR2, fun q hq => ?_, Nat.le_refl _, Nat.le_refl _⟩ hV hW
            by_cases z : q = ad 16
            · rw [z, va_up_self]; exact g2
            · rw [va_up_ne _ _ z]
              exact wv_same (hwv q hq) (ho1 q z).1 (g1 q z).1 (by rw [(g1 q z).2, (ho1 q z).2])
          have loop : ∀ (t i : Nat), i + t = m + 1 → ∀ (h : vx_h) (fn5 : Nat → Nat → Int64) (k n : Nat), rw_at 2 cJ (pl ad) (rMl cZ ad r0 X e0 x1 x2 x3 x4) ar1 cp1 cn fn5 h → (∀ q, q ≠ ad 16 → fn5 q = fn1 q) → (∀ j, j < i → fn5 (ad 16) j = lN (Dd j)) → k + pc_ cp1 (pl ad) ≤ C → n + ph cp1 (pl ad) ≤ S → vx_V D vcl A H0 9 G h k n 87 [(8, .int (nI i)), (7, .int (nI jb2)), (6, .int (nI ja)), (5, .int (nI (m + 1))), (0, .ref (ad 30)), (1, .int (nI d)), (2, .int (nI a)), (3, .int (nI b)), (4, .int (nI how))] [] := by
            intro t
            induction t with
            | zero =>
              intro i hit h fn5 k n HR5 g1 g2 hk hn
              obtain rfl : i = m + 1 := by omega
              have hx5 := mx_r hxr HR5
              have hd5 : ∀ j, j < m + 1 → Dd j < 4294967296 ∧ fn5 (ad 16) j = lN (Dd j) := fun j hj => ⟨hDlt j, g2 j hj⟩
              refine vx_iload IG dc_M_logic_87 0 rfl ?_
              refine vx_iload IG dc_M_logic_89 3 rfl ?_
              refine vx_icmp_ge (tgt := 133) IG dc_M_logic_91 (by decide) (fun _ => ?_) (fun c_ => absurd (nI_le (Nat.le_refl _) (by omega)) c_)
              refine vx_aload_n IG dc_M_logic_133 rfl 4 rfl ?_
              refine vx_get IG hx5.1 rfl 2 (by decide) inM wF_M_20 rfl rfl dc_M_logic_134 ?_
              refine wr_dig IG HR5 hrp wF_M_127 dc_M_logic_137 ?_
              refine vx_iload IG dc_M_logic_140 3 rfl ?_
              refine vx_iconst (v := 1) IG dc_M_logic_142 (by decide) ?_
              refine vx_isub IG dc_M_logic_143 ?_
              refine vx_topi (y := nI m) (nI_pred m) ?_
              refine wr_ald IG HR5 hrp ht m rfl (by omega) dc_M_logic_144 ?_
              refine vx_topl (y := lN (Dd m)) (g2 m (by omega)) ?_
              refine vx_lconst (v := 0) IG dc_M_logic_145 (by decide) ?_
              refine vx_lcmp IG dc_M_logic_146 ?_
              rcases (show jb how (sb (X a)) (sb (X b)) = 0 ∨ jb how (sb (X a)) (sb (X b)) = 1 from by have := jb_01 how (show sb (X a) < 2 by rcases sb_01 (X a) with q | q <;> omega) (show sb (X b) < 2 by rcases sb_01 (X b) with q | q <;> omega); omega) with js | js
              · rw [js] at hl1 hl2
                rw [vl_nil] at hl2
                refine vx_if_eq (tgt := 154) IG dc_M_logic_147 (by decide) (fun _ => ?_) (fun c_ => absurd ((lg_cmp_eq _ _).mpr (by rw [← hl2]; rfl)) c_)
                refine vx_iconst (v := 0) IG dc_M_logic_154 (by decide) ?_
                refine vx_istore (lv' := [(8, .int 0), (7, .int (nI jb2)), (6, .int (nI ja)), (5, .int (nI (m + 1))), (0, .ref (ad 30)), (1, .int (nI d)), (2, .int (nI a)), (3, .int (nI b)), (4, .int (nI how))]) IG dc_M_logic_155 (by decide) rfl ?_
                refine vx_iload IG dc_M_logic_157 0 rfl ?_
                refine vx_if_eq (tgt := 174) IG dc_M_logic_159 (by decide) (fun _ => ?_) (fun c_ => absurd rfl c_)
                refine vx_aload_n IG dc_M_logic_174 rfl 4 rfl ?_
                refine vx_get IG hx5.1 rfl 2 (by decide) inM wF_M_20 rfl rfl dc_M_logic_175 ?_
                refine vx_iload IG dc_M_logic_178 3 rfl ?_
                refine vx_callV (As := [.int (nI (m + 1))]) (st := []) IG lw_good (cW_trim HR5 hrp ht (n := m + 1) hn1 Dd hd5) (rw_obj HR5 hrp) rfl wC_W_trim wL_M_142 wI_W_trim wS_W_trim wX_W 1 (by decide +kernel) rfl ⟨Nat.le_of_ble_eq_true rfl, Nat.le_of_ble_eq_true rfl⟩ ⟨(by dsimp only [rm_]; omega), (by dsimp only [rm_]; omega)⟩ rfl (Nat.le_of_ble_eq_true rfl) dc_M_logic_180 (fun v h k11 n11 hq => ?_)
                obtain ⟨rfl, rfl, rfl, HR6⟩ := hq
                show vx_V _ _ _ _ _ _ _ _ _ 183 [(8, .int 0), (7, .int (nI jb2)), (6, .int (nI ja)), (5, .int (nI (m + 1))), (0, .ref (ad 30)), (1, .int (nI d)), (2, .int (nI a)), (3, .int (nI b)), (4, .int (nI how))] []
                have hv6 := wv_trim (cp := cp1) (fn := fn5) (p := ad 16) (cn' := va_up cn (ad 16) (nI (nd 4294967296 (vl 4294967296 Dd (m + 1))))) hd5 hn1 (va_up_self _ _ _)
                refine fin h _ _ _ _ _ 0 (back h _ fn5 _ HR6 (fun q z => ⟨va_up_ne _ _ z, g1 q z⟩) hv6) (Or.inl rfl) ?_ (by omega) (by omega)
                rw [va_up_self, kz_0, hl1, Int.natCast_zero, Int.zero_mul, Int.sub_zero]
              · rw [js] at hl1 hl2
                rw [vl_one] at hl2
                refine vx_if_eq (tgt := 154) IG dc_M_logic_147 (by decide) (fun c_ => absurd c_ (fun q => by have := (lg_cmp_eq _ _).mp q; rw [← hl2] at this; exact absurd this (by decide))) (fun _ => ?_)
                refine vx_iconst (v := 1) IG dc_M_logic_150 (by decide) ?_
                refine vx_goto (tgt := 155) IG dc_M_logic_151 (by decide) ?_
                refine vx_istore (lv' := [(8, .int 1), (7, .int (nI jb2)), (6, .int (nI ja)), (5, .int (nI (m + 1))), (0, .ref (ad 30)), (1, .int (nI d)), (2, .int (nI a)), (3, .int (nI b)), (4, .int (nI how))]) IG dc_M_logic_155 (by decide) rfl ?_
                refine vx_iload IG dc_M_logic_157 0 rfl ?_
                refine vx_if_eq (tgt := 174) IG dc_M_logic_159 (by decide) (fun c_ => absurd c_ (by decide)) (fun _ => ?_)
                refine vx_aload_n IG dc_M_logic_162 rfl 4 rfl ?_
                refine vx_get IG hx5.1 rfl 2 (by decide) inM wF_M_20 rfl rfl dc_M_logic_163 ?_
                refine vx_iload IG dc_M_logic_166 3 rfl ?_
                have hpos : 0 < vl 4294967296 Dd (m + 1) := by
                  rw [vl_succ, ← hl2]
                  have : 0 < (2 ^ 32 - 1) * 4294967296 ^ m := Nat.mul_pos (by decide) (Nat.pow_pos (by decide))
                  omega
                refine vx_callV (As := [.int (nI (m + 1))]) (st := []) IG lw_good (cW_turnOver HR5 hrp ht (n := m + 1) hn1 Dd hd5 hpos) (rw_obj HR5 hrp) rfl wC_W_turnOver wL_M_139 wI_W_turnOver wS_W_turnOver wX_W 1 (by decide +kernel) rfl ⟨Nat.le_of_ble_eq_true rfl, Nat.le_of_ble_eq_true rfl⟩ ⟨(by dsimp only [rm_]; omega), (by dsimp only [rm_]; omega)⟩ rfl (Nat.le_of_ble_eq_true rfl) dc_M_logic_168 (fun v h k12 n12 hq => ?_)
                obtain ⟨rfl, rfl, rfl, cn6, fn6, HR6, g6, hv6⟩ := hq
                show vx_V _ _ _ _ _ _ _ _ _ 171 [(8, .int 1), (7, .int (nI jb2)), (6, .int (nI ja)), (5, .int (nI (m + 1))), (0, .ref (ad 30)), (1, .int (nI d)), (2, .int (nI a)), (3, .int (nI b)), (4, .int (nI how))] []
                refine vx_goto (tgt := 183) IG dc_M_logic_171 (by decide) ?_
                refine fin h _ _ _ _ _ 1 (back h cn6 fn6 _ HR6 (fun q z => ⟨(g6 q z).1, ((g6 q z).2).trans (g1 q z)⟩) hv6) (Or.inr rfl) ?_ (by omega) (by omega)
                rw [va_up_self, kz_1, hl1]
                show -((4294967296 ^ (m + 1) - vl 4294967296 Dd (m + 1) : Nat) : Int) = (vl 4294967296 Dd (m + 1) : Int) - ((1 : Nat) : Int) * ((4294967296 ^ (m + 1) : Nat) : Int)
                have hl4 : vl 4294967296 Dd (m + 1) < 4294967296 ^ (m + 1) := hl3
                rw [Int.natCast_one, Int.one_mul]
                omega
            | succ t ih =>
              intro i hit h fn5 k n HR5 g1 g2 hk hn
              have hx5 := mx_r hxr HR5
              refine vx_iload IG dc_M_logic_87 0 rfl ?_
              refine vx_iload IG dc_M_logic_89 3 rfl ?_
              refine vx_icmp_ge (tgt := 133) IG dc_M_logic_91 (by decide) (fun c_ => absurd c_ (nI_ge (by omega) (by omega))) (fun _ => ?_)
              refine vx_aload_n IG dc_M_logic_94 rfl 4 rfl ?_
              refine vx_get IG hx5.1 rfl 2 (by decide) inM wF_M_20 rfl rfl dc_M_logic_95 ?_
              refine wr_dig IG HR5 hrp wF_M_127 dc_M_logic_98 ?_
              refine vx_iload IG dc_M_logic_101 0 rfl ?_
              refine vx_aload_n IG dc_M_logic_103 rfl 4 rfl ?_
              refine vx_iload_n IG dc_M_logic_104 rfl 6 rfl ?_
              refine vx_iload IG dc_M_logic_105 0 rfl ?_
              refine vx_iload IG dc_M_logic_107 2 rfl ?_
              refine vx_callV (As := [.int (nI a), .int (nI i), .int (nI ja)]) (st := [.int (nI i), .ref (ar1 (ad 16))]) IG lw_good (cM_endlessDigitR hx5 HR5 hap ha (wv_same hwa1 rfl rfl (g1 _ hna16)) hWa.1 (k := i) (by omega) hja hfa ht ht1 ht2) hx5.1 rfl wC_M_endlessDigit wL_M_131 wI_M_endlessDigit wS_M_endlessDigit wX_M 3 (by decide +kernel) rfl ⟨Nat.le_of_ble_eq_true rfl, Nat.le_of_ble_eq_true rfl⟩ ⟨(by dsimp only [rm_]; omega), (by dsimp only [rm_]; omega)⟩ rfl (Nat.le_of_ble_eq_true rfl) dc_M_logic_109 (fun v h k11 n11 hq => ?_)
              obtain ⟨rfl, rfl, rfl, rfl⟩ := hq
              show vx_V _ _ _ _ _ _ _ _ _ 112 [(8, .int (nI i)), (7, .int (nI jb2)), (6, .int (nI ja)), (5, .int (nI (m + 1))), (0, .ref (ad 30)), (1, .int (nI d)), (2, .int (nI a)), (3, .int (nI b)), (4, .int (nI how))] [.long (lN (eD 4294967296 (X a) i)), .int (nI i), .ref (ar1 (ad 16))]
              refine vx_aload_n IG dc_M_logic_112 rfl 4 rfl ?_
              refine vx_iload_n IG dc_M_logic_113 rfl 7 rfl ?_
              refine vx_iload IG dc_M_logic_114 0 rfl ?_
              refine vx_iload IG dc_M_logic_116 1 rfl ?_
              refine vx_callV (As := [.int (nI b), .int (nI i), .int (nI jb2)]) (st := [.long (lN (eD 4294967296 (X a) i)), .int (nI i), .ref (ar1 (ad 16))]) IG lw_good (cM_endlessDigitR hx5 HR5 hbp hb (wv_same hwb1 rfl rfl (g1 _ hnb16)) hWb.1 (k := i) (by omega) hjb hfb ht ht1 ht2) hx5.1 rfl wC_M_endlessDigit wL_M_131 wI_M_endlessDigit wS_M_endlessDigit wX_M 3 (by decide +kernel) rfl ⟨Nat.le_of_ble_eq_true rfl, Nat.le_of_ble_eq_true rfl⟩ ⟨(by dsimp only [rm_]; omega), (by dsimp only [rm_]; omega)⟩ rfl (Nat.le_of_ble_eq_true rfl) dc_M_logic_118 (fun v h k12 n12 hq => ?_)
              obtain ⟨rfl, rfl, rfl, rfl⟩ := hq
              show vx_V _ _ _ _ _ _ _ _ _ 121 [(8, .int (nI i)), (7, .int (nI jb2)), (6, .int (nI ja)), (5, .int (nI (m + 1))), (0, .ref (ad 30)), (1, .int (nI d)), (2, .int (nI a)), (3, .int (nI b)), (4, .int (nI how))] [.long (lN (eD 4294967296 (X b) i)), .long (lN (eD 4294967296 (X a) i)), .int (nI i), .ref (ar1 (ad 16))]
              refine vx_iload IG dc_M_logic_121 8 rfl ?_
              refine vx_callS (As := [.long (lN (eD 4294967296 (X a) i)), .long (lN (eD 4294967296 (X b) i)), .int (nI how)]) (st := [.int (nI i), .ref (ar1 (ad 16))]) IG lw_good (cM_join _ (eD_lt (by decide) _ _) (eD_lt (by decide) _ _) (show how ≤ 3 by omega)) wC_M_join wL_M_135 wT_M_join wX_M 3 (by decide +kernel) rfl ⟨Nat.le_of_ble_eq_true rfl, Nat.le_of_ble_eq_true rfl⟩ ⟨(by dsimp only [rm_]; omega), (by dsimp only [rm_]; omega)⟩ rfl (Nat.le_of_ble_eq_true rfl) dc_M_logic_123 (fun v h k13 n13 hq => ?_)
              obtain ⟨rfl, rfl, rfl, rfl⟩ := hq
              show vx_V _ _ _ _ _ _ _ _ _ 126 [(8, .int (nI i)), (7, .int (nI jb2)), (6, .int (nI ja)), (5, .int (nI (m + 1))), (0, .ref (ad 30)), (1, .int (nI d)), (2, .int (nI a)), (3, .int (nI b)), (4, .int (nI how))] [.long (lN (jn 32 how (eD 4294967296 (X a) i) (eD 4294967296 (X b) i))), .int (nI i), .ref (ar1 (ad 16))]
              refine wr_ast IG HR5 hrp ht i rfl (by omega) dc_M_logic_126 (fun h HR6 => ?_)
              refine vx_iinc (q := 0) (v := nI (i + 1)) (lv' := [(8, .int (nI (i + 1))), (7, .int (nI jb2)), (6, .int (nI ja)), (5, .int (nI (m + 1))), (0, .ref (ad 30)), (1, .int (nI d)), (2, .int (nI a)), (3, .int (nI b)), (4, .int (nI how))]) IG dc_M_logic_127 rfl (nI_1 i) (by decide) rfl ?_
              refine vx_goto (tgt := 87) IG dc_M_logic_130 (by decide) ?_
              refine ih (i + 1) (by omega) h _ _ _ HR6 (fun q z => ?_) (fun j hj => ?_) (by omega) (by omega)
              · rw [va_up_ne _ _ z]; exact g1 q z
              · rw [va_up_self]
                by_cases z : j = i
                · rw [z, pk_uLs, eDd]
                · rw [pk_uLn z]; exact g2 j (by omega)
          refine vx_iconst (v := 0) IG dc_M_logic_84 (by decide) ?_
          refine vx_istore (lv' := [(8, .int 0), (7, .int (nI jb2)), (6, .int (nI ja)), (5, .int (nI (m + 1))), (0, .ref (ad 30)), (1, .int (nI d)), (2, .int (nI a)), (3, .int (nI b)), (4, .int (nI how))]) IG dc_M_logic_85 (by decide) rfl ?_
          exact loop (m + 1) 0 (by omega) h fn1 _ _ HR1 (fun _ _ => rfl) (fun j hj => by omega) (by omega) (by omega)
        · refine vx_icmp_le (tgt := 28) IG dc_M_logic_23 (by decide) (fun c_ => absurd c_ y2) (fun _ => ?_)
          refine vx_iconst (v := 0) IG dc_M_logic_26 (by decide) ?_
          refine vx_ret (some (.int 0)) RG (vx_endi (by first | rfl | decide) dc_M_logic_27) rfl ?_
          rw [if_neg (fun q => y2 (Int32.le_iff_toInt_le.mpr (by omega)))]
          exact ⟨rfl, W, C, S, HM, by omega, by omega⟩
    · refine vx_topi (y := 0) (if_neg z1) ?_
      refine vx_if_eq (tgt := 26) IG dc_M_logic_12 (by decide) (fun _ => ?_) (fun c_ => absurd rfl c_)
      refine vx_iconst (v := 0) IG dc_M_logic_26 (by decide) ?_
      refine vx_ret (some (.int 0)) RG (vx_endi (by first | rfl | decide) dc_M_logic_27) rfl ?_
      rw [sp3_no (fun q => z1 (q.2.2))]
      exact ⟨rfl, W, C, S, HM, by omega, by omega⟩
  · refine vx_topi (y := 0) (if_neg z0) ?_
    refine vx_if_eq (tgt := 26) IG dc_M_logic_5 (by decide) (fun _ => ?_) (fun c_ => absurd rfl c_)
    refine vx_iconst (v := 0) IG dc_M_logic_26 (by decide) ?_
    refine vx_ret (some (.int 0)) RG (vx_endi (by first | rfl | decide) dc_M_logic_27) rfl ?_
    rw [sp3_no (fun q => z0 (⟨q.1, q.2.1⟩))]
    exact ⟨rfl, W, C, S, HM, by omega, by omega⟩
end
