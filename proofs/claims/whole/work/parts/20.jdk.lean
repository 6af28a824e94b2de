/-! the JDK's own methods -/
abbrev rm_ (f c s o : Nat) : Room := { frames := f, cells := c, slots := s, locals := o }
section
variable {l : Launch} {D : va_G} {tys : List (ClassId × FieldType)}
set_option maxRecDepth 100000 in
set_option maxHeartbeats 4000000 in
theorem cJM_min (h : vx_h) (a b : Int32) : vx_M l D vcl tys my_JM_min lw_gd (rm_ 0 0 0 0) [.int a, .int b] h (fun v h' k n => v = some (.int (if b < a then b else a)) ∧ h' = h ∧ k = 0 ∧ n = 0) := by
  refine vx_M.ofV (cc := bc_JM_min) (maxL := 2) (ret := some .int) (own := "java/lang/Math") false rfl (by decide +kernel) wC_JM_min (fun q => by cases q) (Nat.le_of_ble_eq_true rfl) (fun A H0 G IG RG => ?_)
  show vx_V _ _ _ _ _ _ _ _ _ 0 [(0, .int a), (1, .int b)] []
  refine vx_iload_n IG dc_JM_min_0 rfl 0 rfl ?_
  refine vx_iload_n IG dc_JM_min_1 rfl 1 rfl ?_
  refine vx_icmp_gt (tgt := 9) IG dc_JM_min_2 (by decide) (fun c => ?_) (fun c => ?_)
  · refine vx_iload_n IG dc_JM_min_9 rfl 1 rfl ?_
    refine vx_ret (some (.int b)) RG (vx_endi (by first | rfl | decide) dc_JM_min_10) rfl ?_
    exact ⟨by rw [if_pos c], rfl, rfl, rfl⟩
  · refine vx_iload_n IG dc_JM_min_5 rfl 0 rfl ?_
    refine vx_goto (tgt := 10) IG dc_JM_min_6 (by decide) ?_
    refine vx_ret (some (.int a)) RG (vx_endi (by first | rfl | decide) dc_JM_min_10) rfl ?_
    exact ⟨by rw [if_neg c], rfl, rfl, rfl⟩
set_option maxRecDepth 100000 in
set_option maxHeartbeats 4000000 in
theorem cJM_max (h : vx_h) (a b : Int32) : vx_M l D vcl tys my_JM_max_II lw_gd (rm_ 0 0 0 0) [.int a, .int b] h (fun v h' k n => v = some (.int (if a < b then b else a)) ∧ h' = h ∧ k = 0 ∧ n = 0) := by
  refine vx_M.ofV (cc := bc_JM_max_II) (maxL := 2) (ret := some .int) (own := "java/lang/Math") false rfl (by decide +kernel) wC_JM_max_II (fun q => by cases q) (Nat.le_of_ble_eq_true rfl) (fun A H0 G IG RG => ?_)
  show vx_V _ _ _ _ _ _ _ _ _ 0 [(0, .int a), (1, .int b)] []
  refine vx_iload_n IG dc_JM_max_II_0 rfl 0 rfl ?_
  refine vx_iload_n IG dc_JM_max_II_1 rfl 1 rfl ?_
  refine vx_icmp_lt (tgt := 9) IG dc_JM_max_II_2 (by decide) (fun c => ?_) (fun c => ?_)
  · refine vx_iload_n IG dc_JM_max_II_9 rfl 1 rfl ?_
    refine vx_ret (some (.int b)) RG (vx_endi (by first | rfl | decide) dc_JM_max_II_10) rfl ?_
    exact ⟨by rw [if_pos c], rfl, rfl, rfl⟩
  · refine vx_iload_n IG dc_JM_max_II_5 rfl 0 rfl ?_
    refine vx_goto (tgt := 10) IG dc_JM_max_II_6 (by decide) ?_
    refine vx_ret (some (.int a)) RG (vx_endi (by first | rfl | decide) dc_JM_max_II_10) rfl ?_
    exact ⟨by rw [if_neg c], rfl, rfl, rfl⟩
set_option maxRecDepth 100000 in
set_option maxHeartbeats 4000000 in
/-- Arrays.copyOf of a row of longs to a longer one -/
theorem cJA_copyOf (h : vx_h) {cJ : ClassId} (t0 : Nat) (ht : tys[t0]? = some (cJ, .long)) {a len N : Nat} {f : Nat → Int64} (he : h a = some (.inl (cJ, len, .inr (.inl f)))) (hlt : len < N) (hN : N ≤ 8200) : vx_M l D vcl tys my_JA_copyOf lw_gd (rm_ 1 1 N 21) [.ref a, .int (nI N)] h (fun v h' k n => ∃ (q : Nat) (g : Nat → Int64), v = some (.ref q) ∧ h q = none ∧ h' = vx_up h q (.inl (cJ, N, .inr (.inl g))) ∧ (∀ i, i < len → g i = f i) ∧ k = 1 ∧ n = N) := by
  refine vx_M.ofV (cc := bc_JA_copyOf) (maxL := 3) (ret := some (.array .long)) (own := "java/util/Arrays") false rfl (by decide +kernel) wC_JA_copyOf (fun q => by cases q) (Nat.le_of_ble_eq_true rfl) (fun A H0 G IG RG => ?_)
  show vx_V _ _ _ _ _ _ _ _ _ 0 [(0, .ref a), (1, .int (nI N))] []
  have c1 : (nI N).toNatClampNeg = N := nI_clamp (by omega)
  have c2 : (nI len).toNatClampNeg = len := nI_clamp (by omega)
  refine vx_iload_n IG dc_JA_copyOf_0 rfl 1 rfl ?_
  refine vx_aload_n IG dc_JA_copyOf_1 rfl 0 rfl ?_
  refine vx_alen IG he t0 ht (v := nI len) rfl dc_JA_copyOf_2 ?_
  refine vx_icmp_ne (tgt := 14) IG dc_JA_copyOf_3 (by decide) (fun _ => ?_) (fun c_ => absurd c_ (fun q => by have := (nI_eq (a := N) (b := len) (by omega) (by omega)).mp q; omega))
  refine vx_iload_n IG dc_JA_copyOf_14 rfl 1 rfl ?_
  refine vx_newa (atype := .long) (ty := .long) IG wA_long rfl t0 ht (fun U c z => z) (N := N) (a0 := (N, .inr (.inl (fun _ => 0)))) (fun cA => rfl) (nI_pos (by omega)) c1 (by show N * 8 ≤ _; omega) (Nat.le_refl 1) (by show 0 + N ≤ N; omega) dc_JA_copyOf_15 (fun q hq => ?_)
  have hqa : a ≠ q := fun z => by rw [z, hq] at he; cases he
  have he0 : vx_up h q (.inl (cJ, N, .inr (.inl (fun _ => 0)))) a = some (.inl (cJ, len, .inr (.inl f))) := by rw [vx_up_n hqa]; exact he
  refine vx_astore_n (lv' := [(2, .ref q), (0, .ref a), (1, .int (nI N))]) IG dc_JA_copyOf_17 rfl (by decide) rfl ?_
  refine vx_aload_n IG dc_JA_copyOf_18 rfl 1 rfl ?_
  refine vx_iconst (v := 0) IG dc_JA_copyOf_19 (by decide) ?_
  refine vx_aload_n IG dc_JA_copyOf_20 rfl 0 rfl ?_
  refine vx_iconst (v := 0) IG dc_JA_copyOf_21 (by decide) ?_
  refine vx_aload_n IG dc_JA_copyOf_22 rfl 1 rfl ?_
  refine vx_alen IG he0 t0 ht (v := nI len) rfl dc_JA_copyOf_23 ?_
  refine vx_iload_n IG dc_JA_copyOf_24 rfl 2 rfl ?_
  refine vx_callS (As := [.int (nI len), .int (nI N)]) (st := [.int 0, .ref q, .int 0, .ref a]) IG lw_good (cJM_min _ (nI len) (nI N)) wC_JM_min wL_JA_304 wT_JM_min wX_JM 2 (by decide +kernel) rfl ⟨Nat.le_of_ble_eq_true rfl, Nat.le_of_ble_eq_true rfl⟩ ⟨by show 0 + 1 + 0 ≤ 1; omega, by show 0 + N + 0 ≤ N; omega⟩ rfl (Nat.le_of_ble_eq_true rfl) dc_JA_copyOf_25 (fun v h' k n hp => ?_)
  obtain ⟨rfl, rfl, rfl, rfl⟩ := hp
  rw [if_neg (nI_nlt (Nat.le_of_lt hlt) (by omega))]
  show vx_V _ _ _ _ _ _ _ _ _ 28 [(2, .ref q), (0, .ref a), (1, .int (nI N))] [.int (nI len), .int 0, .ref q, .int 0, .ref a]
  refine vx_copyl IG wL_JA_150 wV_JS_arraycopy wT_JS_arraycopy wX_JS he0 vx_up_s t0 ht (by decide) (by decide) (nI_pos (by omega)) (by rw [c2]; show 0 + len ≤ len; omega) (by rw [c2]; show 0 + len ≤ N; omega) (Nat.le_refl 1) (Nat.le_of_ble_eq_true rfl) dc_JA_copyOf_28 ?_
  refine vx_aload_n IG dc_JA_copyOf_31 rfl 0 rfl ?_
  refine vx_ret (some (.ref q)) RG (vx_enda (by first | exact Or.inr ⟨_, rfl⟩ | exact Or.inl ⟨_, rfl⟩) dc_JA_copyOf_32) rfl ?_
  refine ⟨q, va_cpy f (fun _ => 0) 0 0 len, rfl, hq, ?_, fun i hi => pk_cpy_in (Nat.zero_le i) (by omega) |>.trans (by rw [Nat.zero_add, Nat.sub_zero]), rfl, by show 0 + N + 0 = N; omega⟩
  funext b
  rw [c2]
  by_cases z : b = q
  · subst z; rw [vx_up_s, vx_up_s]; rfl
  · rw [vx_up_n z, vx_up_n z, vx_up_n z]
end
