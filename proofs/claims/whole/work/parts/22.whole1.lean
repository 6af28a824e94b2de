/-! Whole: trim, room, clear, load, isZero, digitAt, widen, copy -/
theorem bB1 : 1 < 4294967296 := by decide
theorem nI_max {a b : Nat} (ha : a < 2 ^ 31) (hb : b < 2 ^ 31) : (if nI a < nI b then nI b else nI a) = nI (max a b) := by
  by_cases z : a < b
  · rw [if_pos (nI_lt z hb), Nat.max_eq_right (by omega)]
  · rw [if_neg (nI_nlt (by omega) ha), Nat.max_eq_left (by omega)]
section
variable {l : Launch} {D : va_G} {tys : List (ClassId × FieldType)} {cJ : ClassId} {L : List Nat} {r : vx_h} {ar cp : Nat → Nat} {cn : Nat → Int32} {fn : Nat → Nat → Int64} {p : Nat} {h : vx_h}
set_option maxRecDepth 100000 in
set_option maxHeartbeats 4000000 in
/-- trim(n): the count becomes that of the number which the n lowest places hold -/
theorem cW_trim (HR : rw_at 2 cJ L r ar cp cn fn h) (hp : p ∈ L) (ht : tys[0]? = some (cJ, .long)) {n : Nat} (hn : n ≤ cp p) (d : Nat → Nat) (hd : ∀ i, i < n → d i < 4294967296 ∧ fn p i = lN (d i)) : vx_M l D vcl tys my_W_trim lw_gd (rm_ 0 0 0 0) [.ref p, .int (nI n)] h (fun v h' k m => v = none ∧ k = 0 ∧ m = 0 ∧ rw_at 2 cJ L r ar cp (va_up cn p (nI (nd 4294967296 (vl 4294967296 d n)))) fn h') := by
  have hc := rw_cap HR hp
  refine vx_M.ofV (cc := bc_W_trim) (maxL := 2) (ret := none) (own := rW) false rfl (by decide +kernel) wC_W_trim (fun q => by cases q) (Nat.le_of_ble_eq_true rfl) (fun A H0 G IG RG => ?_)
  show vx_V _ _ _ _ _ _ _ _ _ 0 [(0, .ref p), (1, .int (nI n))] []
  have loop : ∀ (c : Nat), c ≤ n → vl 4294967296 d c = vl 4294967296 d n → ∀ (h : vx_h) (cn1 : Nat → Int32), cn1 = va_up cn p (nI c) → rw_at 2 cJ L r ar cp cn1 fn h → vx_V D vcl A H0 2 G h 0 0 5 [(0, .ref p), (1, .int (nI n))] [] := by
    intro c
    induction c with
    | zero =>
      intro hcn hv h cn1 e HR
      have ec : cn1 p = nI 0 := by rw [e, va_up_self]
      refine vx_aload_n IG dc_W_trim_5 rfl 0 rfl ?_
      refine wr_cnt IG HR hp wF_W_15 dc_W_trim_6 ?_
      refine vx_topi (y := nI 0) ec ?_
      refine vx_if_le (tgt := 41) IG dc_W_trim_9 (by decide) (fun _ => ?_) (fun c_ => absurd (by decide) c_)
      refine vx_ret none RG (vx_endv dc_W_trim_41) rfl ?_
      refine ⟨rfl, rfl, rfl, ?_⟩
      rw [← hv, show nd 4294967296 (vl 4294967296 d 0) = 0 from rfl, ← e]
      exact HR
    | succ c ih =>
      intro hcn hv h cn1 e HR
      have ec : cn1 p = nI (c + 1) := by rw [e, va_up_self]
      have hdc := hd c (by omega)
      refine vx_aload_n IG dc_W_trim_5 rfl 0 rfl ?_
      refine wr_cnt IG HR hp wF_W_15 dc_W_trim_6 ?_
      refine vx_topi (y := nI (c + 1)) ec ?_
      refine vx_if_le (tgt := 41) IG dc_W_trim_9 (by decide) (fun c_ => absurd c_ (nI_nle (by omega) (by omega))) (fun _ => ?_)
      refine vx_aload_n IG dc_W_trim_12 rfl 0 rfl ?_
      refine wr_dig IG HR hp wF_W_11 dc_W_trim_13 ?_
      refine vx_aload_n IG dc_W_trim_16 rfl 0 rfl ?_
      refine wr_cnt IG HR hp wF_W_15 dc_W_trim_17 ?_
      refine vx_iconst (v := 1) IG dc_W_trim_20 (by decide) ?_
      refine vx_isub IG dc_W_trim_21 ?_
      refine vx_topi (y := nI c) (by rw [ec]; exact nI_pred c) ?_
      refine wr_ald IG HR hp ht c rfl (by omega) dc_W_trim_22 ?_
      refine vx_topl (y := lN (d c)) hdc.2 ?_
      refine vx_lconst (v := 0) IG dc_W_trim_23 (by decide) ?_
      refine vx_lcmp IG dc_W_trim_24 ?_
      by_cases hz : d c = 0
      · refine vx_if_ne (tgt := 41) IG dc_W_trim_25 (by decide) (fun c_ => absurd ((lg_cmp_eq _ _).mpr (by rw [hz]; rfl)) c_) (fun _ => ?_)
        refine vx_aload_n IG dc_W_trim_28 rfl 0 rfl ?_
        refine vx_dup IG dc_W_trim_29 rfl ?_
        refine wr_cnt IG HR hp wF_W_15 dc_W_trim_30 ?_
        refine vx_iconst (v := 1) IG dc_W_trim_33 (by decide) ?_
        refine vx_isub IG dc_W_trim_34 ?_
        refine vx_topi (y := nI c) (by rw [ec]; exact nI_pred c) ?_
        refine wr_setc IG HR hp wF_W_15 dc_W_trim_35 (fun h HR => ?_)
        obtain ⟨cn2, e_cn2⟩ : ∃ z, z = va_up cn1 p (nI c) := ⟨_, rfl⟩
        rw [← e_cn2] at HR
        refine vx_goto (tgt := 5) IG dc_W_trim_38 (by decide) ?_
        refine ih (by omega) ?_ h cn2 ?_ HR
        · rw [← hv, vl_succ, hz]; simp
        · rw [e_cn2, e]; exact bx_uu cn p _ _
      · refine vx_if_ne (tgt := 41) IG dc_W_trim_25 (by decide) (fun _ => ?_) (fun c_ => absurd c_ (fun q => hz (ln_eq (by omega) (by decide) ((lg_cmp_eq _ _).mp q))))
        refine vx_ret none RG (vx_endv dc_W_trim_41) rfl ?_
        refine ⟨rfl, rfl, rfl, ?_⟩
        rw [← hv, nd_vl bB1 (fun i hi => (hd i (by omega)).1) (Or.inr (by simpa using hz)), ← e]
        exact HR
  refine vx_aload_n IG dc_W_trim_0 rfl 0 rfl ?_
  refine vx_iload_n IG dc_W_trim_1 rfl 1 rfl ?_
  refine wr_setc IG HR hp wF_W_15 dc_W_trim_2 (fun h HR => ?_)
  obtain ⟨cn1, e_cn1⟩ : ∃ z, z = va_up cn p (nI n) := ⟨_, rfl⟩
  rw [← e_cn1] at HR
  exact loop n (Nat.le_refl n) rfl h cn1 e_cn1 HR
set_option maxRecDepth 100000 in
set_option maxHeartbeats 4000000 in
/-- room(n): the row has n places or more, what it held stays -/
theorem cW_room (HR : rw_at 2 cJ L r ar cp cn fn h) (hL : L.Nodup) (hp : p ∈ L) (ht : tys[0]? = some (cJ, .long)) {n C S : Nat} (hn : n ≤ 4100) (hC : pc_ cp L ≤ C) (hS : ph cp L ≤ S) : vx_M l D vcl tys my_W_room lw_gd (rm_ 2 C S 43) [.ref p, .int (nI n)] h (fun v h' k m => v = none ∧ ∃ (ar' cp' : Nat → Nat) (fn' : Nat → Nat → Int64), rw_at 2 cJ L r ar' cp' cn fn' h' ∧ (∀ q, q ≠ p → cp' q = cp q ∧ fn' q = fn q) ∧ n ≤ cp' p ∧ cp p ≤ cp' p ∧ (∀ i, i < cp p → fn' p i = fn p i) ∧ k + pc_ cp' L ≤ pc_ cp L ∧ m + ph cp' L ≤ ph cp L) := by
  have hc := rw_cap HR hp
  refine vx_M.ofV (cc := bc_W_room) (maxL := 2) (ret := none) (own := rW) false rfl (by decide +kernel) wC_W_room (fun q => by cases q) (Nat.le_of_ble_eq_true rfl) (fun A H0 G IG RG => ?_)
  show vx_V _ _ _ _ _ _ _ _ _ 0 [(0, .ref p), (1, .int (nI n))] []
  refine vx_iload_n IG dc_W_room_0 rfl 1 rfl ?_
  refine vx_aload_n IG dc_W_room_1 rfl 0 rfl ?_
  refine wr_dig IG HR hp wF_W_11 dc_W_room_2 ?_
  refine wr_len IG HR hp ht dc_W_room_5 ?_
  by_cases hle : n ≤ cp p
  · refine vx_icmp_le (tgt := 31) IG dc_W_room_6 (by decide) (fun _ => ?_) (fun c_ => absurd (nI_le hle (by omega)) c_)
    refine vx_ret none RG (vx_endv dc_W_room_31) rfl ?_
    exact ⟨rfl, ar, cp, fn, HR, fun q _ => ⟨rfl, rfl⟩, hle, Nat.le_refl _, fun i _ => rfl, by omega, by omega⟩
  · refine vx_icmp_le (tgt := 31) IG dc_W_room_6 (by decide) (fun c_ => absurd c_ (nI_ge (by omega) (by omega))) (fun _ => ?_)
    have hN1 : 2 * cp p ≤ max n (2 * cp p) := Nat.le_max_right _ _
    have hN2 : n ≤ max n (2 * cp p) := Nat.le_max_left _ _
    have hN3 : max n (2 * cp p) ≤ 8200 := Nat.max_le.mpr ⟨by omega, by omega⟩
    obtain ⟨N, eN⟩ : ∃ N, N = max n (2 * cp p) := ⟨_, rfl⟩
    rw [← eN] at hN1 hN2 hN3
    have k1 := pc_up hL hp hc.1 hN1 hN3
    have k2 := ph_up hL hp hN1 hN3
    refine vx_aload_n IG dc_W_room_9 rfl 0 rfl ?_
    refine vx_aload_n IG dc_W_room_10 rfl 0 rfl ?_
    refine wr_dig IG HR hp wF_W_11 dc_W_room_11 ?_
    refine vx_iload_n IG dc_W_room_14 rfl 1 rfl ?_
    refine vx_iconst (v := 2) IG dc_W_room_15 (by decide) ?_
    refine vx_aload_n IG dc_W_room_16 rfl 0 rfl ?_
    refine wr_dig IG HR hp wF_W_11 dc_W_room_17 ?_
    refine wr_len IG HR hp ht dc_W_room_20 ?_
    refine vx_imul IG dc_W_room_21 ?_
    refine vx_topi (y := nI (2 * cp p)) (pk_mul 2 (cp p)) ?_
    refine vx_callS (As := [.int (nI n), .int (nI (2 * cp p))]) (st := [.ref (ar p), .ref p]) IG lw_good (cJM_max _ (nI n) (nI (2 * cp p))) wC_JM_max_II wL_W_19 wT_JM_max_II wX_JM 2 (by decide +kernel) rfl ⟨Nat.le_of_ble_eq_true rfl, Nat.le_of_ble_eq_true rfl⟩ ⟨(by show 0 + 0 ≤ C; omega), (by show 0 + 0 ≤ S; omega)⟩ rfl (Nat.le_of_ble_eq_true rfl) dc_W_room_22 (fun v h k_ n_ hq => ?_)
    obtain ⟨rfl, rfl, rfl, rfl⟩ := hq
    show vx_V _ _ _ _ _ _ _ _ _ 25 [(0, .ref p), (1, .int (nI n))] [.int (if nI n < nI (2 * cp p) then nI (2 * cp p) else nI n), .ref (ar p), .ref p]
    refine vx_topi (y := nI N) (by rw [eN]; exact nI_max (by omega) (by omega)) ?_
    refine vx_callS (As := [.ref (ar p), .int (nI N)]) (st := [.ref p]) IG lw_good (cJA_copyOf _ 0 ht (rw_row HR hp) (N := N) (by omega) hN3) wC_JA_copyOf wL_W_25 wT_JA_copyOf wX_JA 2 (by decide +kernel) rfl ⟨Nat.le_of_ble_eq_true rfl, Nat.le_of_ble_eq_true rfl⟩ ⟨(by show 0 + 0 + 1 ≤ C; omega), (by show 0 + 0 + N ≤ S; omega)⟩ rfl (Nat.le_of_ble_eq_true rfl) dc_W_room_25 (fun v h k_ n_ hq => ?_)
    obtain ⟨a, g, rfl, ha, rfl, hg, rfl, rfl⟩ := hq
    show vx_V _ _ _ _ _ _ _ _ _ 28 [(0, .ref p), (1, .int (nI n))] [.ref a, .ref p]
    refine wr_setd IG HR hp ha (by omega) hN3 wF_W_11 dc_W_room_28 (fun h HR => ?_)
    refine vx_ret none RG (vx_endv dc_W_room_31) rfl ?_
    refine ⟨rfl, _, _, _, HR, fun q z => ⟨va_up_ne _ _ z, va_up_ne _ _ z⟩, ?_, ?_, ?_, ?_, ?_⟩
    · rw [va_up_self]; omega
    · rw [va_up_self]; omega
    · intro i hi; rw [va_up_self]; exact hg i hi
    · omega
    · omega
set_option maxRecDepth 100000 in
set_option maxHeartbeats 4000000 in
/-- clear() -/
theorem cW_clear (HR : rw_at 2 cJ L r ar cp cn fn h) (hp : p ∈ L) : vx_M l D vcl tys my_W_clear lw_gd (rm_ 0 0 0 0) [.ref p] h (fun v h' k m => v = none ∧ k = 0 ∧ m = 0 ∧ rw_at 2 cJ L r ar cp (va_up cn p 0) fn h') := by
  refine vx_M.ofV (cc := bc_W_clear) (maxL := 1) (ret := none) (own := rW) false rfl (by decide +kernel) wC_W_clear (fun q => by cases q) (Nat.le_of_ble_eq_true rfl) (fun A H0 G IG RG => ?_)
  show vx_V _ _ _ _ _ _ _ _ _ 0 [(0, .ref p)] []
  refine vx_aload_n IG dc_W_clear_0 rfl 0 rfl ?_
  refine vx_iconst (v := 0) IG dc_W_clear_1 (by decide) ?_
  refine wr_setc IG HR hp wF_W_15 dc_W_clear_2 (fun h HR => ?_)
  obtain ⟨cn1, e_cn1⟩ : ∃ z, z = va_up cn p 0 := ⟨_, rfl⟩
  rw [← e_cn1] at HR
  refine vx_ret none RG (vx_endv dc_W_clear_5) rfl ?_
  exact ⟨rfl, rfl, rfl, by rw [← e_cn1]; exact HR⟩
set_option maxRecDepth 100000 in
set_option maxHeartbeats 4000000 in
/-- isZero() -/
theorem cW_isZero (HR : rw_at 2 cJ L r ar cp cn fn h) (hp : p ∈ L) {c : Nat} (hcn : cn p = nI c) (hc2 : c < 2 ^ 31) : vx_M l D vcl tys my_W_isZero lw_gd (rm_ 0 0 0 0) [.ref p] h (fun v h' k m => v = some (.int (if c = 0 then 1 else 0)) ∧ h' = h ∧ k = 0 ∧ m = 0) := by
  refine vx_M.ofV (cc := bc_W_isZero) (maxL := 1) (ret := some .boolean) (own := rW) false rfl (by decide +kernel) wC_W_isZero (fun q => by cases q) (Nat.le_of_ble_eq_true rfl) (fun A H0 G IG RG => ?_)
  show vx_V _ _ _ _ _ _ _ _ _ 0 [(0, .ref p)] []
  refine vx_aload_n IG dc_W_isZero_0 rfl 0 rfl ?_
  refine wr_cnt IG HR hp wF_W_15 dc_W_isZero_1 ?_
  refine vx_topi (y := nI c) hcn ?_
  by_cases z : c = 0
  · refine vx_if_ne (tgt := 11) IG dc_W_isZero_4 (by decide) (fun c_ => absurd (by rw [z]; rfl) c_) (fun _ => ?_)
    refine vx_iconst (v := 1) IG dc_W_isZero_7 (by decide) ?_
    refine vx_goto (tgt := 12) IG dc_W_isZero_8 (by decide) ?_
    refine vx_ret (some (.int 1)) RG (vx_endi (by first | rfl | decide) dc_W_isZero_12) rfl ?_
    exact ⟨by rw [if_pos z], rfl, rfl, rfl⟩
  · refine vx_if_ne (tgt := 11) IG dc_W_isZero_4 (by decide) (fun _ => ?_) (fun c_ => absurd c_ (nI_ne0 (by omega) hc2))
    refine vx_iconst (v := 0) IG dc_W_isZero_11 (by decide) ?_
    refine vx_ret (some (.int 0)) RG (vx_endi (by first | rfl | decide) dc_W_isZero_12) rfl ?_
    exact ⟨by rw [if_neg z], rfl, rfl, rfl⟩
set_option maxRecDepth 100000 in
set_option maxHeartbeats 4000000 in
/-- digitAt(k) of a Whole that holds N -/
theorem cW_digitAt (HR : rw_at 2 cJ L r ar cp cn fn h) (hp : p ∈ L) (ht : tys[0]? = some (cJ, .long)) {N : Nat} (hv : wv cp cn fn p N) {j : Nat} (hj : j < 2 ^ 31) : vx_M l D vcl tys my_W_digitAt lw_gd (rm_ 0 0 0 0) [.ref p, .int (nI j)] h (fun v h' k m => v = some (.long (lN (dg 4294967296 N j))) ∧ h' = h ∧ k = 0 ∧ m = 0) := by
  have hc := rw_cap HR hp
  have hv2 := hv.2.1
  refine vx_M.ofV (cc := bc_W_digitAt) (maxL := 2) (ret := some .long) (own := rW) false rfl (by decide +kernel) wC_W_digitAt (fun q => by cases q) (Nat.le_of_ble_eq_true rfl) (fun A H0 G IG RG => ?_)
  show vx_V _ _ _ _ _ _ _ _ _ 0 [(0, .ref p), (1, .int (nI j))] []
  refine vx_iload_n IG dc_W_digitAt_0 rfl 1 rfl ?_
  refine vx_if_lt (tgt := 21) IG dc_W_digitAt_1 (by decide) (fun c_ => absurd c_ (nI_pos hj)) (fun _ => ?_)
  refine vx_iload_n IG dc_W_digitAt_4 rfl 1 rfl ?_
  refine vx_aload_n IG dc_W_digitAt_5 rfl 0 rfl ?_
  refine wr_cnt IG HR hp wF_W_15 dc_W_digitAt_6 ?_
  refine vx_topi (y := nI (nd 4294967296 N)) hv.1 ?_
  by_cases z : j < nd 4294967296 N
  · refine vx_icmp_ge (tgt := 21) IG dc_W_digitAt_9 (by decide) (fun c_ => absurd c_ (nI_ge z (by omega))) (fun _ => ?_)
    refine vx_aload_n IG dc_W_digitAt_12 rfl 0 rfl ?_
    refine wr_dig IG HR hp wF_W_11 dc_W_digitAt_13 ?_
    refine vx_iload_n IG dc_W_digitAt_16 rfl 1 rfl ?_
    refine wr_ald IG HR hp ht j rfl (by omega) dc_W_digitAt_17 ?_
    refine vx_topl (y := lN (dg 4294967296 N j)) (hv.2.2 j z) ?_
    refine vx_goto (tgt := 22) IG dc_W_digitAt_18 (by decide) ?_
    refine vx_ret (some (.long (lN (dg 4294967296 N j)))) RG (vx_endl dc_W_digitAt_22) rfl ?_
    exact ⟨rfl, rfl, rfl, rfl⟩
  · refine vx_icmp_ge (tgt := 21) IG dc_W_digitAt_9 (by decide) (fun _ => ?_) (fun c_ => absurd (nI_le (by omega) hj) c_)
    refine vx_lconst (v := 0) IG dc_W_digitAt_21 (by decide) ?_
    refine vx_ret (some (.long 0)) RG (vx_endl dc_W_digitAt_22) rfl ?_
    exact ⟨by rw [dg_big (Nat.lt_of_lt_of_le (lt_nd bB1 N) (Nat.pow_le_pow_right (by decide) (by omega)))]; rfl, rfl, rfl, rfl⟩
end
