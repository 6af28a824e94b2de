/-! Whole: trim, room, clear, load, isZero, digitAt, widen, copy -/
theorem bB1 : 1 < 4294967296 := by decide
section
variable {l : Launch} {D : va_G} {tys : List (ClassId × FieldType)} {cJ : ClassId} {L : List Nat} {r : vx_h} {ar cp : Nat → Nat} {cn : Nat → Int32} {fn : Nat → Nat → Int64} {p : Nat} {h : vx_h}
set_option maxRecDepth 100000 in
set_option maxHeartbeats 4000000 in
/-- trim(n): the count becomes that of the number which the n lowest places hold -/
theorem cW_trim (HR : rw_at 2 cJ L r ar cp cn fn h) (hp : p ∈ L) (ht : tys[0]? = some (cJ, .long)) {n : Nat} (hn : n ≤ cp p) (d : Nat → Nat) (hd : ∀ i, i < n → d i < 4294967296 ∧ fn p i = lN (d i)) : vx_M l D vcl tys my_W_trim lw_gd (rm_ 0 0 0 0) [.ref p, .int (nI n)] h (fun v h' k m => v = none ∧ k = 0 ∧ m = 0 ∧ rw_at 2 cJ L r ar cp (va_up cn p (nI (nd 4294967296 (vl 4294967296 d n)))) fn h') := by
  have hc := rw_cap HR hp
  refine vx_M.ofV (cc := bc_W_trim) (maxL := 2) (ret := none) (own := rW) false rfl (by decide +kernel) wC_W_trim (fun q => by cases q) (Nat.le_of_ble_eq_true rfl) (fun A H0 G IG RG => ?_)
  show vx_V _ _ _ _ _ _ _ _ _ 0 [(0, .ref p), (1, .int (nI n))] []
  have loop : ∀ (c : Nat), c ≤ n → vl 4294967296 d c = vl 4294967296 d n → ∀ (h : vx_h) (cn1 : Nat → Int32), cn1 = va_up cn p (nI c) → rw_at 2 cJ L r ar cp cn1 fn h → vx_V D vcl A H0 2 G h 0 0 5 [(0, .ref p), (1, .int (nI n))] [] := by
    intro c
    induction c with
    | zero =>
      intro hcn hv h cn1 e HR
      have ec : cn1 p = nI 0 := by rw [e, va_up_self]
      refine vx_aload_n IG dc_W_trim_5 rfl 0 rfl ?_
      refine wr_cnt IG HR hp wF_W_15 dc_W_trim_6 ?_
      refine vx_topi (y := nI 0) ec ?_
      refine vx_if_le (tgt := 41) IG dc_W_trim_9 (by decide) (fun _ => ?_) (fun c_ => absurd (by decide) c_)
      refine vx_ret none RG (vx_endv dc_W_trim_41) rfl ?_
      refine ⟨rfl, rfl, rfl, ?_⟩
      rw [← hv, show nd 4294967296 (vl 4294967296 d 0) = 0 from rfl, ← e]
      exact HR
    | succ c ih =>
      intro hcn hv h cn1 e HR
      have ec : cn1 p = nI (c + 1) := by rw [e, va_up_self]
      have hdc := hd c (by omega)
      refine vx_aload_n IG dc_W_trim_5 rfl 0 rfl ?_
      refine wr_cnt IG HR hp wF_W_15 dc_W_trim_6 ?_
      refine vx_topi (y := nI (c + 1)) ec ?_
      refine vx_if_le (tgt := 41) IG dc_W_trim_9 (by decide) (fun c_ => absurd c_ (nI_nle (by omega) (by omega))) (fun _ => ?_)
      refine vx_aload_n IG dc_W_trim_12 rfl 0 rfl ?_
      refine wr_dig IG HR hp wF_W_11 dc_W_trim_13 ?_
      refine vx_aload_n IG dc_W_trim_16 rfl 0 rfl ?_
      refine wr_cnt IG HR hp wF_W_15 dc_W_trim_17 ?_
      refine vx_iconst (v := 1) IG dc_W_trim_20 (by decide) ?_
      refine vx_isub IG dc_W_trim_21 ?_
      refine vx_topi (y := nI c) (by rw [ec]; exact nI_pred c) ?_
      refine wr_ald IG HR hp ht c rfl (by omega) dc_W_trim_22 ?_
      refine vx_topl (y := lN (d c)) hdc.2 ?_
      refine vx_lconst (v := 0) IG dc_W_trim_23 (by decide) ?_
      refine vx_lcmp IG dc_W_trim_24 ?_
      by_cases hz : d c = 0
      · refine vx_if_ne (tgt := 41) IG dc_W_trim_25 (by decide) (fun c_ => absurd ((lg_cmp_eq _ _).mpr (by rw [hz]; rfl)) c_) (fun _ => ?_)
        refine vx_aload_n IG dc_W_trim_28 rfl 0 rfl ?_
        refine vx_dup IG dc_W_trim_29 rfl ?_
        refine wr_cnt IG HR hp wF_W_15 dc_W_trim_30 ?_
        refine vx_iconst (v := 1) IG dc_W_trim_33 (by decide) ?_
        refine vx_isub IG dc_W_trim_34 ?_
        refine vx_topi (y := nI c) (by rw [ec]; exact nI_pred c) ?_
        refine wr_setc IG HR hp wF_W_15 dc_W_trim_35 (fun h HR => ?_)
        obtain ⟨cn2, e_cn2⟩ : ∃ z, z = va_up cn1 p (nI c) := ⟨_, rfl⟩
        rw [← e_cn2] at HR
        refine vx_goto (tgt := 5) IG dc_W_trim_38 (by decide) ?_
        refine ih (by omega) ?_ h cn2 ?_ HR
        · rw [← hv, vl_succ, hz]; simp
        · rw [e_cn2, e]; exact bx_uu cn p _ _
      · refine vx_if_ne (tgt := 41) IG dc_W_trim_25 (by decide) (fun _ => ?_) (fun c_ => absurd c_ (fun q => hz (ln_eq (by omega) (by decide) ((lg_cmp_eq _ _).mp q))))
        refine vx_ret none RG (vx_endv dc_W_trim_41) rfl ?_
        refine ⟨rfl, rfl, rfl, ?_⟩
        rw [← hv, nd_vl bB1 (fun i hi => (hd i (by omega)).1) (Or.inr (by simpa using hz)), ← e]
        exact HR
  refine vx_aload_n IG dc_W_trim_0 rfl 0 rfl ?_
  refine vx_iload_n IG dc_W_trim_1 rfl 1 rfl ?_
  refine wr_setc IG HR hp wF_W_15 dc_W_trim_2 (fun h HR => ?_)
  obtain ⟨cn1, e_cn1⟩ : ∃ z, z = va_up cn p (nI n) := ⟨_, rfl⟩
  rw [← e_cn1] at HR
  exact loop n (Nat.le_refl n) rfl h cn1 e_cn1 HR
end
