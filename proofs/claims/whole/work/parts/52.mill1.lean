/-! the mill: registers, keep, sums -/
abbrev isR (r : Int32) : Prop := 0 ≤ r.toInt ∧ r.toInt < 16
theorem isR_nI {j : Nat} (hj : j < 16) : isR (nI j) := vp_in_iff.mp (vp_in_nI hj (by decide))
theorem isR_of {r : Int32} (h : isR r) : ∃ j, j < 16 ∧ r = nI j := vp_in_of (n := 16) (vp_in_iff.mpr h) (by decide)
/-- a size with a sign -/
def kz (w : Int32) (N : Nat) : Int := if w = 1 then -(N : Int) else N
theorem kz_0 (N : Nat) : kz 0 N = N := if_neg (by decide)
theorem kz_1 (N : Nat) : kz 1 N = -(N : Int) := if_pos rfl
theorem kz_abs (w : Int32) (N : Nat) : (kz w N).natAbs = N := by
  unfold kz
  split <;> omega
theorem kz_sg (z : Int) : kz (sgI z) z.natAbs = z := by
  by_cases q : z < 0
  · rw [sgI_neg q, kz_1]; omega
  · rw [sgI_pos q, kz_0]; omega
/-- what a call answers that puts z into a register, and the registers then -/
def kpV (z : Int) : Int32 := if bl z.natAbs ≤ 65536 then 1 else 0
def kpX (X : Nat → Int) (d : Nat) (z : Int) : Nat → Int := if bl z.natAbs ≤ 65536 then va_up X d z else X
theorem kpV_1 {z : Int} (h : bl z.natAbs ≤ 65536) : kpV z = 1 := if_pos h
theorem kpV_0 {z : Int} (h : ¬ bl z.natAbs ≤ 65536) : kpV z = 0 := if_neg h
theorem kpX_1 {X : Nat → Int} {d : Nat} {z : Int} (h : bl z.natAbs ≤ 65536) : kpX X d z = va_up X d z := if_pos h
theorem kpX_0 {X : Nat → Int} {d : Nat} {z : Int} (h : ¬ bl z.natAbs ≤ 65536) : kpX X d z = X := if_neg h
theorem pool_rset {cJ : ClassId} {L : List Nat} {r h : vx_h} {V : Nat → Nat} {C S b : Nat} {e0 : va_E} (HP : pool cJ L r V h C S) (hb : r b = some e0) (e : va_E) : pool cJ L (vx_up r b e) V (vx_up h b e) C S := by
  obtain ⟨ar, cp, cn, fn, HR, hV, hC, hS⟩ := HP
  exact ⟨ar, cp, cn, fn, rw_rset HR hb e, hV, hC, hS⟩
section
variable {l : Launch} {D : va_G} {tys : List (ClassId × FieldType)} {cJ cQ cZ : ClassId} {ad : Nat → Nat} {r0 h : vx_h} {W : Nat → Nat} {X : Nat → Int} {C S : Nat} {a b d s : Nat} {w : Int32}
set_option maxRecDepth 100000 in
set_option maxHeartbeats 4000000 in
theorem cM_isRegister (h : vx_h) (r : Int32) : vx_M l D vcl tys my_M_isRegister lw_gd (rm_ 0 0 0 0) [.int r] h (fun v h' k n => v = some (.int (if isR r then 1 else 0)) ∧ h' = h ∧ k = 0 ∧ n = 0) := by
  refine vx_M.ofV (cc := bc_M_isRegister) (maxL := 1) (ret := some .boolean) (own := rM) false rfl (by decide +kernel) wC_M_isRegister (fun q => by cases q) (Nat.le_of_ble_eq_true rfl) (fun A H0 G IG RG => ?_)
  show vx_V _ _ _ _ _ _ _ _ _ 0 [(0, .int r)] []
  refine vx_iload_n IG dc_M_isRegister_0 rfl 0 rfl ?_
  have i0 : (0 : Int32).toInt = 0 := rfl
  have i16 : (16 : Int32).toInt = 16 := rfl
  by_cases z : r < 0
  · refine vx_if_lt (tgt := 14) IG dc_M_isRegister_1 (by decide) (fun _ => ?_) (fun c_ => absurd z c_)
    refine vx_iconst (v := 0) IG dc_M_isRegister_14 (by decide) ?_
    refine vx_ret (some (.int 0)) RG (vx_endi (by first | rfl | decide) dc_M_isRegister_15) rfl ?_
    exact ⟨by rw [if_neg (fun q => by have := Int32.lt_iff_toInt_lt.mp z; omega)], rfl, rfl, rfl⟩
  · refine vx_if_lt (tgt := 14) IG dc_M_isRegister_1 (by decide) (fun c_ => absurd c_ z) (fun _ => ?_)
    refine vx_iload_n IG dc_M_isRegister_4 rfl 0 rfl ?_
    refine vx_bipush (v := 16) IG dc_M_isRegister_5 (by decide) ?_
    by_cases y : (16 : Int32) ≤ r
    · refine vx_icmp_ge (tgt := 14) IG dc_M_isRegister_7 (by decide) (fun _ => ?_) (fun c_ => absurd y c_)
      refine vx_iconst (v := 0) IG dc_M_isRegister_14 (by decide) ?_
      refine vx_ret (some (.int 0)) RG (vx_endi (by first | rfl | decide) dc_M_isRegister_15) rfl ?_
      exact ⟨by rw [if_neg (fun q => by have := Int32.le_iff_toInt_le.mp y; omega)], rfl, rfl, rfl⟩
    · refine vx_icmp_ge (tgt := 14) IG dc_M_isRegister_7 (by decide) (fun c_ => absurd c_ y) (fun _ => ?_)
      refine vx_iconst (v := 1) IG dc_M_isRegister_10 (by decide) ?_
      refine vx_goto (tgt := 15) IG dc_M_isRegister_11 (by decide) ?_
      refine vx_ret (some (.int 1)) RG (vx_endi (by first | rfl | decide) dc_M_isRegister_15) rfl ?_
      rw [Int32.lt_iff_toInt_lt] at z
      rw [Int32.le_iff_toInt_le] at y
      exact ⟨by rw [if_pos ⟨by omega, by omega⟩], rfl, rfl, rfl⟩
set_option maxRecDepth 100000 in
set_option maxHeartbeats 4000000 in
theorem cM_areRegisters (h : vx_h) (r s : Int32) : vx_M l D vcl tys my_M_areRegisters lw_gd (rm_ 1 0 0 20) [.int r, .int s] h (fun v h' k n => v = some (.int (if isR r ∧ isR s then 1 else 0)) ∧ h' = h ∧ k = 0 ∧ n = 0) := by
  refine vx_M.ofV (cc := bc_M_areRegisters) (maxL := 2) (ret := some .boolean) (own := rM) false rfl (by decide +kernel) wC_M_areRegisters (fun q => by cases q) (Nat.le_of_ble_eq_true rfl) (fun A H0 G IG RG => ?_)
  show vx_V _ _ _ _ _ _ _ _ _ 0 [(0, .int r), (1, .int s)] []
  refine vx_iload_n IG dc_M_areRegisters_0 rfl 0 rfl ?_
  refine vx_callS (As := [.int r]) (st := []) IG lw_good (cM_isRegister _ r) wC_M_isRegister wL_M_44 wT_M_isRegister wX_M 1 (by decide +kernel) rfl ⟨Nat.le_of_ble_eq_true rfl, Nat.le_of_ble_eq_true rfl⟩ ⟨(by dsimp only [rm_]; omega), (by dsimp only [rm_]; omega)⟩ rfl (Nat.le_of_ble_eq_true rfl) dc_M_areRegisters_1 (fun v h k_ n_ hq => ?_)
  obtain ⟨rfl, rfl, rfl, rfl⟩ := hq
  show vx_V _ _ _ _ _ _ _ _ _ 4 [(0, .int r), (1, .int s)] [.int (if isR r then 1 else 0)]
  by_cases z : isR r
  · refine vx_topi (y := 1) (if_pos z) ?_
    refine vx_if_eq (tgt := 18) IG dc_M_areRegisters_4 (by decide) (fun c_ => absurd c_ (by decide)) (fun _ => ?_)
    refine vx_iload_n IG dc_M_areRegisters_7 rfl 1 rfl ?_
    refine vx_callS (As := [.int s]) (st := []) IG lw_good (cM_isRegister _ s) wC_M_isRegister wL_M_44 wT_M_isRegister wX_M 1 (by decide +kernel) rfl ⟨Nat.le_of_ble_eq_true rfl, Nat.le_of_ble_eq_true rfl⟩ ⟨(by dsimp only [rm_]; omega), (by dsimp only [rm_]; omega)⟩ rfl (Nat.le_of_ble_eq_true rfl) dc_M_areRegisters_8 (fun v h k_ n_ hq => ?_)
    obtain ⟨rfl, rfl, rfl, rfl⟩ := hq
    show vx_V _ _ _ _ _ _ _ _ _ 11 [(0, .int r), (1, .int s)] [.int (if isR s then 1 else 0)]
    by_cases y : isR s
    · refine vx_topi (y := 1) (if_pos y) ?_
      refine vx_if_eq (tgt := 18) IG dc_M_areRegisters_11 (by decide) (fun c_ => absurd c_ (by decide)) (fun _ => ?_)
      refine vx_iconst (v := 1) IG dc_M_areRegisters_14 (by decide) ?_
      refine vx_goto (tgt := 19) IG dc_M_areRegisters_15 (by decide) ?_
      refine vx_ret (some (.int 1)) RG (vx_endi (by first | rfl | decide) dc_M_areRegisters_19) rfl ?_
      exact ⟨by rw [if_pos ⟨z, y⟩], rfl, rfl, rfl⟩
    · refine vx_topi (y := 0) (if_neg y) ?_
      refine vx_if_eq (tgt := 18) IG dc_M_areRegisters_11 (by decide) (fun _ => ?_) (fun c_ => absurd rfl c_)
      refine vx_iconst (v := 0) IG dc_M_areRegisters_18 (by decide) ?_
      refine vx_ret (some (.int 0)) RG (vx_endi (by first | rfl | decide) dc_M_areRegisters_19) rfl ?_
      exact ⟨by rw [if_neg (fun q => y q.2)], rfl, rfl, rfl⟩
  · refine vx_topi (y := 0) (if_neg z) ?_
    refine vx_if_eq (tgt := 18) IG dc_M_areRegisters_4 (by decide) (fun _ => ?_) (fun c_ => absurd rfl c_)
    refine vx_iconst (v := 0) IG dc_M_areRegisters_18 (by decide) ?_
    refine vx_ret (some (.int 0)) RG (vx_endi (by first | rfl | decide) dc_M_areRegisters_19) rfl ?_
    exact ⟨by rw [if_neg (fun q => z q.1)], rfl, rfl, rfl⟩
theorem rMl_set {r0 : vx_h} (hi : inj ad) {b : Int32} {x1 x2 x3 x4 : Int} {g : Nat → Int32} {X' : Nat → Int} (hg : g = fun i => sgI (X' i)) : vx_up (rMl cZ ad r0 X b x1 x2 x3 x4) (ad 32) (.inl (cZ, 16, .inl g)) = rMl cZ ad r0 X' b x1 x2 x3 x4 := by
  unfold rMl
  rw [vx_up_comm (inj_ne hi (by decide) (by decide) (by decide)), vx_up_up, hg]
set_option maxRecDepth 100000 in
set_option maxHeartbeats 4000000 in
theorem cM_settle (LY : lay cQ ad r0) (HM : mw cJ cZ ad r0 W X h C S) (hd : d < 16) (hs : 16 ≤ s) (hs3 : s < 30) (hl : lim (W s)) (hw : w = 0 ∨ w = 1) (ht : tys[0]? = some (cJ, .long)) (ht1 : tys[1]? = some (cQ, .object "SignedMill$Whole")) (ht2 : tys[2]? = some (cZ, .boolean)) : vx_M l D vcl tys my_M_settle lw_gd (rm_ 4 C S 86) [.ref (ad 30), .int (nI d), .ref (ad s), .int w] h (mend cJ cZ ad r0 (va_up W d (W s)) (va_up X d (kz w (W s))) C S none) := by
  have hnd := lim_nd.mp hl
  refine vx_M.ofV (cc := bc_M_settle) (maxL := 4) (ret := none) (own := rM) false rfl (by decide +kernel) wC_M_settle (fun q => by cases q) (Nat.le_of_ble_eq_true rfl) (fun A H0 G IG RG => ?_)
  show vx_V _ _ _ _ _ _ _ _ _ 0 [(0, .ref (ad 30)), (1, .int (nI d)), (2, .ref (ad s)), (3, .int w)] []
  refine vx_aload_n IG dc_M_settle_0 rfl 0 rfl ?_
  refine vx_get IG (mo_M LY HM) rfl 0 (by decide) inM wF_M_11 rfl rfl dc_M_settle_1 ?_
  refine vx_iload_n IG dc_M_settle_4 rfl 1 rfl ?_
  refine mr_aal IG LY HM hd ht1 dc_M_settle_5 ?_
  refine vx_aload_n IG dc_M_settle_6 rfl 2 rfl ?_
  have HM0 := HM
  obtain ⟨b', x1, x2, x3, x4, ⟨V, HP, hV⟩, hW⟩ := HM
  have ne : ∀ a b, a < 36 → b < 36 → a ≠ b → ad a ≠ ad b := fun a b h1 h2 h3 => inj_ne LY.1 h1 h2 h3
  have hr30 : rMl cZ ad r0 X b' x1 x2 x3 x4 (ad 30) = some (.inr (3, [.ref (ad 31), .ref (ad 32), .ref (ad 16), .ref (ad 17), .ref (ad 18), .ref (ad 33), .ref (ad 34)])) := by
    unfold rMl
    rw [vx_up_n (ne _ _ (by decide) (by decide) (by decide)), vx_up_n (ne _ _ (by decide) (by decide) (by decide))]
    exact LY.2.1
  have hr32 : rMl cZ ad r0 X b' x1 x2 x3 x4 (ad 32) = some (.inl (cZ, 16, .inl (fun i => sgI (X i)))) := by
    unfold rMl
    rw [vx_up_n (ne _ _ (by decide) (by decide) (by decide)), vx_up_s]
  have hVs : V (ad s) = W s := hV s hs3
  refine vx_callV (As := [.ref (ad s)]) (st := []) IG lw_good (cW_copy HP (pl_nodup LY.1) (pl_mem (by omega)) (pl_mem hs3) ht (by rw [hVs]; omega)) ((mo_W HM0 (show d < 30 by omega)).choose_spec) rfl wC_W_copy wL_M_74 wI_W_copy wS_W_copy wX_W 1 (by decide +kernel) rfl ⟨Nat.le_of_ble_eq_true rfl, Nat.le_of_ble_eq_true rfl⟩ ⟨(by dsimp only [rm_]; omega), (by dsimp only [rm_]; omega)⟩ rfl (Nat.le_of_ble_eq_true rfl) dc_M_settle_7 (fun v h k1 n1 hq => ?_)
  obtain ⟨rfl, C1, S1, HP1, hk1, hm1⟩ := hq
  rw [hVs] at HP1
  have hds : ad s ≠ ad d := ne _ _ (by omega) (by omega) (by omega)
  have hVs1 : va_up V (ad d) (W s) (ad s) = W s := by rw [va_up_ne _ _ hds, hVs]
  have fin : ∀ (x : Int32) (k n : Nat), x = sgI (kz w (W s)) → k + C1 ≤ C → n + S1 ≤ S → vx_V D vcl A H0 4 G h k n 31 [(0, .ref (ad 30)), (1, .int (nI d)), (2, .ref (ad s)), (3, .int w)] [.int x, .int (nI d), .ref (ad 32)] := by
    intro x k n ex hk hn
    refine vx_zast IG (pool_r HP1 hr32) 2 ht2 (vp_in_nI hd (by decide)) dc_M_settle_31 ?_
    refine vx_ret none RG (vx_endv dc_M_settle_32) rfl ?_
    have hx : vp_nar .boolean x = x := by rw [ex]; rcases sgI_01 (kz w (W s)) with q | q <;> rw [q] <;> rfl
    rw [nI_clamp (by omega), hx]
    have HP2 := pool_rset HP1 hr32 (.inl (cZ, 16, .inl (upd (fun i => sgI (X i)) d x)))
    rw [rMl_set LY.1 (X' := va_up X d (kz w (W s))) (by
      funext i
      show (if i = d then x else sgI (X i)) = sgI (if i = d then kz w (W s) else X i)
      split
      · exact ex
      · rfl)] at HP2
    refine ⟨rfl, C1, S1, ⟨b', x1, x2, x3, x4, ⟨_, HP2, fun i hi => ?_⟩, fun i hi => ?_⟩, hk, hn⟩
    · by_cases z : i = d
      · rw [z, va_up_self, va_up_self]
      · rw [va_up_ne _ _ (ne _ _ (by omega) (by omega) z), va_up_ne _ _ z]
        exact hV i hi
    · by_cases z : i = d
      · rw [z, va_up_self, va_up_self, kz_abs]
        exact ⟨rfl, hl⟩
      · rw [va_up_ne _ _ z, va_up_ne _ _ z]
        exact hW i hi
  show vx_V _ _ _ _ _ _ _ _ _ 10 [(0, .ref (ad 30)), (1, .int (nI d)), (2, .ref (ad s)), (3, .int w)] []
  refine vx_aload_n IG dc_M_settle_10 rfl 0 rfl ?_
  refine vx_get IG (pool_r HP1 hr30) rfl 1 (by decide) inM wF_M_15 rfl rfl dc_M_settle_11 ?_
  refine vx_iload_n IG dc_M_settle_14 rfl 1 rfl ?_
  refine vx_iload_n IG dc_M_settle_15 rfl 3 rfl ?_
  by_cases hw0 : w = 0
  · refine vx_if_eq (tgt := 30) IG dc_M_settle_16 (by decide) (fun _ => ?_) (fun c_ => absurd hw0 c_)
    refine vx_iconst (v := 0) IG dc_M_settle_30 (by decide) ?_
    exact fin 0 _ _ (by rw [hw0, kz_0, sgI_pos (by omega)]) (by omega) (by omega)
  · have hw1 : w = 1 := hw.resolve_left hw0
    refine vx_if_eq (tgt := 30) IG dc_M_settle_16 (by decide) (fun c_ => absurd c_ hw0) (fun _ => ?_)
    refine vx_aload_n IG dc_M_settle_19 rfl 2 rfl ?_
    refine vx_callV (As := []) (st := [.int (nI d), .ref (ad 32)]) IG lw_good (cW_isZeroP HP1 (pl_mem hs3)) ((pool_o HP1 (pl_mem hs3)).choose_spec) rfl wC_W_isZero wL_M_89 wI_W_isZero wS_W_isZero wX_W 0 (by decide +kernel) rfl ⟨Nat.le_of_ble_eq_true rfl, Nat.le_of_ble_eq_true rfl⟩ ⟨(by dsimp only [rm_]; omega), (by dsimp only [rm_]; omega)⟩ rfl (Nat.le_of_ble_eq_true rfl) dc_M_settle_20 (fun v h k2 n2 hq => ?_)
    obtain ⟨rfl, rfl, rfl, rfl⟩ := hq
    rw [hVs1]
    show vx_V _ _ _ _ _ _ _ _ _ 23 [(0, .ref (ad 30)), (1, .int (nI d)), (2, .ref (ad s)), (3, .int w)] [.int (if W s = 0 then 1 else 0), .int (nI d), .ref (ad 32)]
    by_cases z : W s = 0
    · refine vx_topi (y := 1) (if_pos z) ?_
      refine vx_if_ne (tgt := 30) IG dc_M_settle_23 (by decide) (fun _ => ?_) (fun c_ => absurd c_ (by decide))
      refine vx_iconst (v := 0) IG dc_M_settle_30 (by decide) ?_
      exact fin 0 _ _ (by rw [z, hw1, kz_1, sgI_pos (by omega)]) (by omega) (by omega)
    · refine vx_topi (y := 0) (if_neg z) ?_
      refine vx_if_ne (tgt := 30) IG dc_M_settle_23 (by decide) (fun c_ => absurd rfl c_) (fun _ => ?_)
      refine vx_iconst (v := 1) IG dc_M_settle_26 (by decide) ?_
      refine vx_goto (tgt := 31) IG dc_M_settle_27 (by decide) ?_
      exact fin 1 _ _ (by rw [hw1, kz_1, sgI_neg (by omega)]) (by omega) (by omega)
set_option maxRecDepth 100000 in
set_option maxHeartbeats 4000000 in
theorem cM_keep (LY : lay cQ ad r0) (HM : mw cJ cZ ad r0 W X h C S) (hd : d < 16) (hw : w = 0 ∨ w = 1) (ht : tys[0]? = some (cJ, .long)) (ht1 : tys[1]? = some (cQ, .object "SignedMill$Whole")) (ht2 : tys[2]? = some (cZ, .boolean)) : vx_M l D vcl tys my_M_keep lw_gd (rm_ 5 C S 109) [.ref (ad 30), .int (nI d), .int w] h (mpub cJ cZ ad r0 (kpX X d (kz w (W 16))) C S (kpV (kz w (W 16)))) := by
  refine vx_M.ofV (cc := bc_M_keep) (maxL := 3) (ret := some .boolean) (own := rM) false rfl (by decide +kernel) wC_M_keep (fun q => by cases q) (Nat.le_of_ble_eq_true rfl) (fun A H0 G IG RG => ?_)
  show vx_V _ _ _ _ _ _ _ _ _ 0 [(0, .ref (ad 30)), (1, .int (nI d)), (2, .int w)] []
  refine vx_aload_n IG dc_M_keep_0 rfl 0 rfl ?_
  refine vx_get IG (mo_M LY HM) rfl 2 (by decide) inM wF_M_20 rfl rfl dc_M_keep_1 ?_
  have hbl : bl (W 16) < 2 ^ 30 := by
    obtain ⟨b', x1, x2, x3, x4, ⟨V, HP, hV⟩, hW⟩ := HM
    obtain ⟨ar, cp, cn, fn, HR, hV2, hC, hS⟩ := HP
    have h1 := nI_dig (hV2 _ (pl_mem (show 16 < 30 by decide))) HR (pl_mem (by decide))
    rw [hV 16 (by decide), nd_le bB1, bp32] at h1
    have := bl_le.mpr h1
    omega
  refine vx_callV (As := []) (st := []) IG lw_good (mW_bits HM 16 (by decide) ht) ((mo_W HM (show 16 < 30 by decide)).choose_spec) rfl wC_W_bits wL_M_170 wI_W_bits wS_W_bits wX_W 0 (by decide +kernel) rfl ⟨Nat.le_of_ble_eq_true rfl, Nat.le_of_ble_eq_true rfl⟩ ⟨(by dsimp only [rm_]; omega), (by dsimp only [rm_]; omega)⟩ rfl (Nat.le_of_ble_eq_true rfl) dc_M_keep_4 (fun v h k1 n1 hq => ?_)
  obtain ⟨rfl, rfl, rfl, rfl⟩ := hq
  show vx_V _ _ _ _ _ _ _ _ _ 7 [(0, .ref (ad 30)), (1, .int (nI d)), (2, .int w)] [.int (nI (bl (W 16)))]
  refine vx_ldc (v := 65536) IG wK_M_150 dc_M_keep_7 ?_
  by_cases z : bl (W 16) ≤ 65536
  · refine vx_icmp_le (tgt := 14) IG dc_M_keep_9 (by decide) (fun _ => ?_) (fun c_ => absurd (nI_le (b := 65536) z (by decide)) c_)
    refine vx_aload_n IG dc_M_keep_14 rfl 0 rfl ?_
    refine vx_iload_n IG dc_M_keep_15 rfl 1 rfl ?_
    refine vx_aload_n IG dc_M_keep_16 rfl 0 rfl ?_
    refine vx_get IG (mo_M LY HM) rfl 2 (by decide) inM wF_M_20 rfl rfl dc_M_keep_17 ?_
    refine vx_iload_n IG dc_M_keep_20 rfl 2 rfl ?_
    refine vx_callV (As := [.int (nI d), .ref (ad 16), .int w]) (st := []) IG lw_good (cM_settle LY HM hd (Nat.le_refl 16) (by decide) (lim_bl.mpr z) hw ht ht1 ht2) (mo_M LY HM) rfl wC_M_settle wL_M_105 wI_M_settle wS_M_settle wX_M 3 (by decide +kernel) rfl ⟨Nat.le_of_ble_eq_true rfl, Nat.le_of_ble_eq_true rfl⟩ ⟨(by dsimp only [rm_]; omega), (by dsimp only [rm_]; omega)⟩ rfl (Nat.le_of_ble_eq_true rfl) dc_M_keep_21 (fun v h k2 n2 hq => ?_)
    obtain ⟨rfl, C1, S1, HM1, hk1, hm1⟩ := hq
    show vx_V _ _ _ _ _ _ _ _ _ 24 [(0, .ref (ad 30)), (1, .int (nI d)), (2, .int w)] []
    refine vx_iconst (v := 1) IG dc_M_keep_24 (by decide) ?_
    refine vx_ret (some (.int 1)) RG (vx_endi (by first | rfl | decide) dc_M_keep_25) rfl ?_
    rw [kpV_1 (by rw [kz_abs]; exact z), kpX_1 (by rw [kz_abs]; exact z)]
    exact ⟨rfl, _, C1, S1, HM1, by omega, by omega⟩
  · refine vx_icmp_le (tgt := 14) IG dc_M_keep_9 (by decide) (fun c_ => absurd c_ (nI_ge (a := 65536) (by omega) (by omega))) (fun _ => ?_)
    refine vx_iconst (v := 0) IG dc_M_keep_12 (by decide) ?_
    refine vx_ret (some (.int 0)) RG (vx_endi (by first | rfl | decide) dc_M_keep_13) rfl ?_
    refine ⟨by rw [kpV_0 (by rw [kz_abs]; exact z)], W, C, S, ?_, by omega, by omega⟩
    rw [kpX_0 (by rw [kz_abs]; exact z)]
    exact HM
theorem mr_sum {X : Nat → Int} {W : Nat → Nat} (hW : W a = (X a).natAbs) (h : sgI (X a) = w) (N : Nat) : kz w (W a + N) = X a + kz w N := by
  have := kz_sg (X a)
  rw [h, ← hW] at this
  rw [← this]
  unfold kz
  split <;> omega
theorem mr_dif1 {X : Nat → Int} {W : Nat → Nat} (hW : W a = (X a).natAbs) (hw : w = 0 ∨ w = 1) (h : ¬ sgI (X a) = w) {N : Nat} (hN : N ≤ W a) : kz (sgI (X a)) (W a - N) = X a + kz w N := by
  have := kz_sg (X a)
  rw [← hW] at this
  have h01 := sgI_01 (X a)
  generalize sgI (X a) = t at *
  rw [← this]
  rcases h01 with q | q <;> rcases hw with e | e <;> rw [q, e] at h ⊢ <;> first | exact absurd rfl h | skip
  · rw [kz_0, kz_0, kz_1]; omega
  · rw [kz_1, kz_1, kz_0]; omega
theorem mr_dif2 {X : Nat → Int} {W : Nat → Nat} (hW : W a = (X a).natAbs) (hw : w = 0 ∨ w = 1) (h : ¬ sgI (X a) = w) {N : Nat} (hN : W a ≤ N) : kz w (N - W a) = X a + kz w N := by
  have := kz_sg (X a)
  rw [← hW] at this
  have h01 := sgI_01 (X a)
  generalize sgI (X a) = t at *
  rw [← this]
  rcases h01 with q | q <;> rcases hw with e | e <;> rw [q, e] at h ⊢ <;> first | exact absurd rfl h | skip
  · rw [kz_1, kz_0, kz_1]; omega
  · rw [kz_0, kz_1, kz_0]; omega
set_option maxRecDepth 100000 in
set_option maxHeartbeats 4000000 in
theorem cM_keepSum (LY : lay cQ ad r0) (HM : mw cJ cZ ad r0 W X h C S) (hd : d < 16) (ha : a < 16) (hs : s < 30) (hs6 : s ≠ 16) (hl : lim (W s)) (hw : w = 0 ∨ w = 1) (ht : tys[0]? = some (cJ, .long)) (ht1 : tys[1]? = some (cQ, .object "SignedMill$Whole")) (ht2 : tys[2]? = some (cZ, .boolean)) : vx_M l D vcl tys my_M_keepSum lw_gd (rm_ 6 C S 131) [.ref (ad 30), .int (nI d), .int (nI a), .ref (ad s), .int w] h (mpub cJ cZ ad r0 (kpX X d (X a + kz w (W s))) C S (kpV (X a + kz w (W s)))) := by
  have hWa := mw_W HM ha
  have hna := lim_nd.mp hWa.2
  have hns := lim_nd.mp hl
  refine vx_M.ofV (cc := bc_M_keepSum) (maxL := 5) (ret := some .boolean) (own := rM) false rfl (by decide +kernel) wC_M_keepSum (fun q => by cases q) (Nat.le_of_ble_eq_true rfl) (fun A H0 G IG RG => ?_)
  show vx_V _ _ _ _ _ _ _ _ _ 0 [(0, .ref (ad 30)), (1, .int (nI d)), (2, .int (nI a)), (3, .ref (ad s)), (4, .int w)] []
  refine vx_aload_n IG dc_M_keepSum_0 rfl 0 rfl ?_
  refine vx_get IG (mo_M LY HM) rfl 1 (by decide) inM wF_M_15 rfl rfl dc_M_keepSum_1 ?_
  refine vx_iload_n IG dc_M_keepSum_4 rfl 2 rfl ?_
  refine mr_zal IG LY HM ha ht2 dc_M_keepSum_5 ?_
  refine vx_iload IG dc_M_keepSum_6 4 rfl ?_
  by_cases z : sgI (X a) = w
  · refine vx_icmp_ne (tgt := 33) IG dc_M_keepSum_8 (by decide) (fun c_ => absurd z c_) (fun _ => ?_)
    refine vx_aload_n IG dc_M_keepSum_11 rfl 0 rfl ?_
    refine vx_get IG (mo_M LY HM) rfl 2 (by decide) inM wF_M_20 rfl rfl dc_M_keepSum_12 ?_
    refine vx_aload_n IG dc_M_keepSum_15 rfl 0 rfl ?_
    refine vx_get IG (mo_M LY HM) rfl 0 (by decide) inM wF_M_11 rfl rfl dc_M_keepSum_16 ?_
    refine vx_iload_n IG dc_M_keepSum_19 rfl 2 rfl ?_
    refine mr_aal IG LY HM ha ht1 dc_M_keepSum_20 ?_
    refine vx_aload_n IG dc_M_keepSum_21 rfl 3 rfl ?_
    refine vx_callV (As := [.ref (ad a), .ref (ad s)]) (st := []) IG lw_good (mW_sum LY HM 16 a s (by decide) (by decide) (by omega) hs ht (by omega) (by omega)) ((mo_W HM (show 16 < 30 by decide)).choose_spec) rfl wC_W_sum wL_M_62 wI_W_sum wS_W_sum wX_W 2 (by decide +kernel) rfl ⟨Nat.le_of_ble_eq_true rfl, Nat.le_of_ble_eq_true rfl⟩ ⟨(by dsimp only [rm_]; omega), (by dsimp only [rm_]; omega)⟩ rfl (Nat.le_of_ble_eq_true rfl) dc_M_keepSum_22 (fun v h k1 n1 hq => ?_)
    obtain ⟨rfl, C1, S1, HM1, hk1, hm1⟩ := hq
    show vx_V _ _ _ _ _ _ _ _ _ 25 [(0, .ref (ad 30)), (1, .int (nI d)), (2, .int (nI a)), (3, .ref (ad s)), (4, .int w)] []
    refine vx_aload_n IG dc_M_keepSum_25 rfl 0 rfl ?_
    refine vx_iload_n IG dc_M_keepSum_26 rfl 1 rfl ?_
    refine vx_iload IG dc_M_keepSum_27 4 rfl ?_
    refine vx_callV (As := [.int (nI d), .int w]) (st := []) IG lw_good (cM_keep LY HM1 hd hw ht ht1 ht2) (mo_M LY HM1) rfl wC_M_keep wL_M_52 wI_M_keep wS_M_keep wX_M 2 (by decide +kernel) rfl ⟨Nat.le_of_ble_eq_true rfl, Nat.le_of_ble_eq_true rfl⟩ ⟨(by dsimp only [rm_]; omega), (by dsimp only [rm_]; omega)⟩ rfl (Nat.le_of_ble_eq_true rfl) dc_M_keepSum_29 (fun v h k2 n2 hq => ?_)
    rw [va_up_self, mr_sum hWa.1 z] at hq
    obtain ⟨rfl, W', C2, S2, HM2, hk2, hm2⟩ := hq
    show vx_V _ _ _ _ _ _ _ _ _ 32 [(0, .ref (ad 30)), (1, .int (nI d)), (2, .int (nI a)), (3, .ref (ad s)), (4, .int w)] [.int (kpV (X a + kz w (W s)))]
    refine vx_ret (some (.int (kpV (X a + kz w (W s))))) RG (vx_endi (by unfold kpV; split <;> rfl) dc_M_keepSum_32) rfl ?_
    exact ⟨rfl, W', C2, S2, HM2, by omega, by omega⟩
  · refine vx_icmp_ne (tgt := 33) IG dc_M_keepSum_8 (by decide) (fun _ => ?_) (fun c_ => absurd c_ z)
    refine vx_aload_n IG dc_M_keepSum_33 rfl 0 rfl ?_
    refine vx_get IG (mo_M LY HM) rfl 0 (by decide) inM wF_M_11 rfl rfl dc_M_keepSum_34 ?_
    refine vx_iload_n IG dc_M_keepSum_37 rfl 2 rfl ?_
    refine mr_aal IG LY HM ha ht1 dc_M_keepSum_38 ?_
    refine vx_aload_n IG dc_M_keepSum_39 rfl 3 rfl ?_
    refine vx_callV (As := [.ref (ad s)]) (st := []) IG lw_good (mW_against HM a s (by omega) hs ht) ((mo_W HM (show a < 30 by omega)).choose_spec) rfl wC_W_against wL_M_182 wI_W_against wS_W_against wX_W 1 (by decide +kernel) rfl ⟨Nat.le_of_ble_eq_true rfl, Nat.le_of_ble_eq_true rfl⟩ ⟨(by dsimp only [rm_]; omega), (by dsimp only [rm_]; omega)⟩ rfl (Nat.le_of_ble_eq_true rfl) dc_M_keepSum_40 (fun v h k3 n3 hq => ?_)
    obtain ⟨rfl, rfl, rfl, rfl⟩ := hq
    show vx_V _ _ _ _ _ _ _ _ _ 43 [(0, .ref (ad 30)), (1, .int (nI d)), (2, .int (nI a)), (3, .ref (ad s)), (4, .int w)] [.int (cmpI (W a) (W s))]
    by_cases y : W s ≤ W a
    · refine vx_if_lt (tgt := 72) IG dc_M_keepSum_43 (by decide) (fun c_ => absurd c_ (fun q => absurd ((cmpI_ge _ _).mpr y) (Int32.not_le.mpr q))) (fun _ => ?_)
      refine vx_aload_n IG dc_M_keepSum_46 rfl 0 rfl ?_
      refine vx_get IG (mo_M LY HM) rfl 2 (by decide) inM wF_M_20 rfl rfl dc_M_keepSum_47 ?_
      refine vx_aload_n IG dc_M_keepSum_50 rfl 0 rfl ?_
      refine vx_get IG (mo_M LY HM) rfl 0 (by decide) inM wF_M_11 rfl rfl dc_M_keepSum_51 ?_
      refine vx_iload_n IG dc_M_keepSum_54 rfl 2 rfl ?_
      refine mr_aal IG LY HM ha ht1 dc_M_keepSum_55 ?_
      refine vx_aload_n IG dc_M_keepSum_56 rfl 3 rfl ?_
      refine vx_callV (As := [.ref (ad a), .ref (ad s)]) (st := []) IG lw_good (mW_difference LY HM 16 a s (by decide) (by decide) (by omega) hs ht (by omega) y) ((mo_W HM (show 16 < 30 by decide)).choose_spec) rfl wC_W_difference wL_M_102 wI_W_difference wS_W_difference wX_W 2 (by decide +kernel) rfl ⟨Nat.le_of_ble_eq_true rfl, Nat.le_of_ble_eq_true rfl⟩ ⟨(by dsimp only [rm_]; omega), (by dsimp only [rm_]; omega)⟩ rfl (Nat.le_of_ble_eq_true rfl) dc_M_keepSum_57 (fun v h k4 n4 hq => ?_)
      obtain ⟨rfl, C1, S1, HM, hk1, hm1⟩ := hq
      show vx_V _ _ _ _ _ _ _ _ _ 60 [(0, .ref (ad 30)), (1, .int (nI d)), (2, .int (nI a)), (3, .ref (ad s)), (4, .int w)] []
      refine vx_aload_n IG dc_M_keepSum_60 rfl 0 rfl ?_
      refine vx_iload_n IG dc_M_keepSum_61 rfl 1 rfl ?_
      refine vx_aload_n IG dc_M_keepSum_62 rfl 0 rfl ?_
      refine vx_get IG (mo_M LY HM) rfl 1 (by decide) inM wF_M_15 rfl rfl dc_M_keepSum_63 ?_
      refine vx_iload_n IG dc_M_keepSum_66 rfl 2 rfl ?_
      refine mr_zal IG LY HM ha ht2 dc_M_keepSum_67 ?_
      refine vx_callV (As := [.int (nI d), .int (sgI (X a))]) (st := []) IG lw_good (cM_keep LY HM hd (sgI_01 (X a)) ht ht1 ht2) (mo_M LY HM) rfl wC_M_keep wL_M_52 wI_M_keep wS_M_keep wX_M 2 (by decide +kernel) rfl ⟨Nat.le_of_ble_eq_true rfl, Nat.le_of_ble_eq_true rfl⟩ ⟨(by dsimp only [rm_]; omega), (by dsimp only [rm_]; omega)⟩ rfl (Nat.le_of_ble_eq_true rfl) dc_M_keepSum_68 (fun v h k5 n5 hq => ?_)
      rw [va_up_self, mr_dif1 hWa.1 hw z y] at hq
      obtain ⟨rfl, W', C2, S2, HM2, hk2, hm2⟩ := hq
      show vx_V _ _ _ _ _ _ _ _ _ 71 [(0, .ref (ad 30)), (1, .int (nI d)), (2, .int (nI a)), (3, .ref (ad s)), (4, .int w)] [.int (kpV (X a + kz w (W s)))]
      refine vx_ret (some (.int (kpV (X a + kz w (W s))))) RG (vx_endi (by unfold kpV; split <;> rfl) dc_M_keepSum_71) rfl ?_
      exact ⟨rfl, W', C2, S2, HM2, by omega, by omega⟩
    · refine vx_if_lt (tgt := 72) IG dc_M_keepSum_43 (by decide) (fun _ => ?_) (fun c_ => absurd (Int32.not_le.mp (fun q => y ((cmpI_ge _ _).mp q))) c_)
      refine vx_aload_n IG dc_M_keepSum_72 rfl 0 rfl ?_
      refine vx_get IG (mo_M LY HM) rfl 2 (by decide) inM wF_M_20 rfl rfl dc_M_keepSum_73 ?_
      refine vx_aload_n IG dc_M_keepSum_76 rfl 3 rfl ?_
      refine vx_aload_n IG dc_M_keepSum_77 rfl 0 rfl ?_
      refine vx_get IG (mo_M LY HM) rfl 0 (by decide) inM wF_M_11 rfl rfl dc_M_keepSum_78 ?_
      refine vx_iload_n IG dc_M_keepSum_81 rfl 2 rfl ?_
      refine mr_aal IG LY HM ha ht1 dc_M_keepSum_82 ?_
      refine vx_callV (As := [.ref (ad s), .ref (ad a)]) (st := []) IG lw_good (mW_difference LY HM 16 s a (by decide) (by decide) hs (by omega) ht (by omega) (by omega)) ((mo_W HM (show 16 < 30 by decide)).choose_spec) rfl wC_W_difference wL_M_102 wI_W_difference wS_W_difference wX_W 2 (by decide +kernel) rfl ⟨Nat.le_of_ble_eq_true rfl, Nat.le_of_ble_eq_true rfl⟩ ⟨(by dsimp only [rm_]; omega), (by dsimp only [rm_]; omega)⟩ rfl (Nat.le_of_ble_eq_true rfl) dc_M_keepSum_83 (fun v h k6 n6 hq => ?_)
      obtain ⟨rfl, C1, S1, HM, hk1, hm1⟩ := hq
      show vx_V _ _ _ _ _ _ _ _ _ 86 [(0, .ref (ad 30)), (1, .int (nI d)), (2, .int (nI a)), (3, .ref (ad s)), (4, .int w)] []
      refine vx_aload_n IG dc_M_keepSum_86 rfl 0 rfl ?_
      refine vx_iload_n IG dc_M_keepSum_87 rfl 1 rfl ?_
      refine vx_iload IG dc_M_keepSum_88 4 rfl ?_
      refine vx_callV (As := [.int (nI d), .int w]) (st := []) IG lw_good (cM_keep LY HM hd hw ht ht1 ht2) (mo_M LY HM) rfl wC_M_keep wL_M_52 wI_M_keep wS_M_keep wX_M 2 (by decide +kernel) rfl ⟨Nat.le_of_ble_eq_true rfl, Nat.le_of_ble_eq_true rfl⟩ ⟨(by dsimp only [rm_]; omega), (by dsimp only [rm_]; omega)⟩ rfl (Nat.le_of_ble_eq_true rfl) dc_M_keepSum_90 (fun v h k7 n7 hq => ?_)
      rw [va_up_self, mr_dif2 hWa.1 hw z (by omega)] at hq
      obtain ⟨rfl, W', C2, S2, HM2, hk2, hm2⟩ := hq
      show vx_V _ _ _ _ _ _ _ _ _ 93 [(0, .ref (ad 30)), (1, .int (nI d)), (2, .int (nI a)), (3, .ref (ad s)), (4, .int w)] [.int (kpV (X a + kz w (W s)))]
      refine vx_ret (some (.int (kpV (X a + kz w (W s))))) RG (vx_endi (by unfold kpV; split <;> rfl) dc_M_keepSum_93) rfl ?_
      exact ⟨rfl, W', C2, S2, HM2, by omega, by omega⟩
end
