/-! the constructors: Euclid, the mill, the reference -/
section
variable {l : Launch} {D : va_G} {tys : List (ClassId × FieldType)} {cJ cQ cZ cI : ClassId} {L : List Nat} {r h : vx_h} {V : Nat → Nat} {C S p a : Nat}
theorem dfE : ∀ j, j < 11 → defaultValue (fE j) = vp_V [.null, .null, .int 0, .null, .null, .null, .null, .long 0, .long 0, .long 0, .long 0] j := fun j hj => by
  rcases (show j = 0 ∨ j = 1 ∨ j = 2 ∨ j = 3 ∨ j = 4 ∨ j = 5 ∨ j = 6 ∨ j = 7 ∨ j = 8 ∨ j = 9 ∨ j = 10 by omega) with rfl | rfl | rfl | rfl | rfl | rfl | rfl | rfl | rfl | rfl | rfl <;> rfl
set_option maxRecDepth 100000 in
set_option maxHeartbeats 8000000 in
theorem cE_init (HP : pool cJ L (vx_up r p (.inr (1, [.null, .null, .int 0, .null, .null, .null, .null, .long 0, .long 0, .long 0, .long 0]))) z0 h C S) (hp : h p ≠ none) (ht : tys[0]? = some (cJ, .long)) : vx_M l D vcl tys my_E_init lw_gd (rm_ 3 17 51 60) [.ref p] h (fun v h' k n => v = none ∧ k = 17 ∧ n = 51 ∧ ∃ x1 x2 x3 x4 x5 dd d1 d2 d3, nw h h' [d3, d2, d1, dd, x5, x4, x3, x2, x1] ∧ pool cJ (d3 :: d2 :: d1 :: x5 :: x4 :: x3 :: x2 :: x1 :: L) (vx_up (vx_up r dd (.inr (0, [.ref d1, .ref d2, .ref d3]))) p (eOb x1 x2 x3 x4 x5 dd 0 1 0 0 1)) z0 h' (C + 16392) (S + 131136)) := by
  refine vx_M.ofV (cc := bc_E_init) (maxL := 1) (ret := none) (own := rE) true rfl (by decide +kernel) wC_E_init (fun _ => rfl) (Nat.le_of_ble_eq_true rfl) (fun A H0 G IG RG => ?_)
  show vx_V _ _ _ _ _ _ _ _ _ 0 [(0, .ref p)] []
  have N0 := nw_nil h
  refine vx_aload_n IG dc_E_init_0 rfl 0 rfl ?_
  refine vx_obj IG wL_E_3 wI_JO_init wC_JO_init dc_E_init_1 (by decide) (Nat.le_of_ble_eq_true rfl) ?_
  refine vx_aload_n IG dc_E_init_4 rfl 0 rfl ?_
  refine vx_new IG (ci := 2) (C := rW) rfl inW fW tyW wY_E_9 wZ_W wX_W (fs := [.null, .int 0]) dfW (Nat.le_of_ble_eq_true rfl) (Nat.le_of_ble_eq_true rfl) dc_E_init_5 (fun x1 hx1 => ?_)
  refine vx_dup IG dc_E_init_8 rfl ?_
  refine vx_callIN (As := []) (st := [.ref x1, .ref p]) IG lw_good (cW_init HP hx1 ht) rfl wC_W_init wN_E_11 wI_W_init wX_W 0 (by decide +kernel) rfl ⟨Nat.le_of_ble_eq_true rfl, Nat.le_of_ble_eq_true rfl⟩ ⟨(by dsimp only [rm_]; omega), (by dsimp only [rm_]; omega)⟩ rfl (Nat.le_of_ble_eq_true rfl) dc_E_init_9 (fun v h k_ n_ hq => ?_)
  obtain ⟨rfl, rfl, rfl, g1, HP⟩ := hq
  replace N0 := nw_cons N0 hx1 (fun e => up_some _ _ _ (g1 _ e)) (gr_tr (gr_up _ _ _) g1)
  show vx_V _ _ _ _ _ _ _ _ _ 12 [(0, .ref p)] [.ref x1, .ref p]
  refine pr_putF (T := tE) (Cn := rE) IG HP rfl 0 (by decide) inE fE tyE nmE wF_E_12 rfl rfl (ty := .object "SignedMill$Whole") rfl rfl rfl (Nat.le_of_ble_eq_true rfl) dc_E_init_12 (fun h g2 HP => ?_)
  replace N0 := nw_gr N0 g2
  refine vx_aload_n IG dc_E_init_15 rfl 0 rfl ?_
  refine vx_new IG (ci := 2) (C := rW) rfl inW fW tyW wY_E_9 wZ_W wX_W (fs := [.null, .int 0]) dfW (Nat.le_of_ble_eq_true rfl) (Nat.le_of_ble_eq_true rfl) dc_E_init_16 (fun x2 hx2 => ?_)
  refine vx_dup IG dc_E_init_19 rfl ?_
  refine vx_callIN (As := []) (st := [.ref x2, .ref p]) IG lw_good (cW_init HP hx2 ht) rfl wC_W_init wN_E_11 wI_W_init wX_W 0 (by decide +kernel) rfl ⟨Nat.le_of_ble_eq_true rfl, Nat.le_of_ble_eq_true rfl⟩ ⟨(by dsimp only [rm_]; omega), (by dsimp only [rm_]; omega)⟩ rfl (Nat.le_of_ble_eq_true rfl) dc_E_init_20 (fun v h k_ n_ hq => ?_)
  obtain ⟨rfl, rfl, rfl, g1, HP⟩ := hq
  replace N0 := nw_cons N0 hx2 (fun e => up_some _ _ _ (g1 _ e)) (gr_tr (gr_up _ _ _) g1)
  show vx_V _ _ _ _ _ _ _ _ _ 23 [(0, .ref p)] [.ref x2, .ref p]
  refine pr_putF (T := tE) (Cn := rE) IG HP rfl 1 (by decide) inE fE tyE nmE wF_E_18 rfl rfl (ty := .object "SignedMill$Whole") rfl rfl rfl (Nat.le_of_ble_eq_true rfl) dc_E_init_23 (fun h g2 HP => ?_)
  replace N0 := nw_gr N0 g2
  refine vx_aload_n IG dc_E_init_26 rfl 0 rfl ?_
  refine vx_iconst (v := 0) IG dc_E_init_27 (by decide) ?_
  refine pr_put (T := tE) (Cn := rE) IG HP rfl 2 (by decide) inE fE tyE nmE wF_E_21 rfl rfl (ty := .boolean) rfl rfl rfl (Nat.le_of_ble_eq_true rfl) dc_E_init_28 (fun h g2 HP => ?_)
  replace N0 := nw_gr N0 g2
  refine vx_aload_n IG dc_E_init_31 rfl 0 rfl ?_
  refine vx_new IG (ci := 2) (C := rW) rfl inW fW tyW wY_E_9 wZ_W wX_W (fs := [.null, .int 0]) dfW (Nat.le_of_ble_eq_true rfl) (Nat.le_of_ble_eq_true rfl) dc_E_init_32 (fun x3 hx3 => ?_)
  refine vx_dup IG dc_E_init_35 rfl ?_
  refine vx_callIN (As := []) (st := [.ref x3, .ref p]) IG lw_good (cW_init HP hx3 ht) rfl wC_W_init wN_E_11 wI_W_init wX_W 0 (by decide +kernel) rfl ⟨Nat.le_of_ble_eq_true rfl, Nat.le_of_ble_eq_true rfl⟩ ⟨(by dsimp only [rm_]; omega), (by dsimp only [rm_]; omega)⟩ rfl (Nat.le_of_ble_eq_true rfl) dc_E_init_36 (fun v h k_ n_ hq => ?_)
  obtain ⟨rfl, rfl, rfl, g1, HP⟩ := hq
  replace N0 := nw_cons N0 hx3 (fun e => up_some _ _ _ (g1 _ e)) (gr_tr (gr_up _ _ _) g1)
  show vx_V _ _ _ _ _ _ _ _ _ 39 [(0, .ref p)] [.ref x3, .ref p]
  refine pr_putF (T := tE) (Cn := rE) IG HP rfl 3 (by decide) inE fE tyE nmE wF_E_25 rfl rfl (ty := .object "SignedMill$Whole") rfl rfl rfl (Nat.le_of_ble_eq_true rfl) dc_E_init_39 (fun h g2 HP => ?_)
  replace N0 := nw_gr N0 g2
  refine vx_aload_n IG dc_E_init_42 rfl 0 rfl ?_
  refine vx_new IG (ci := 2) (C := rW) rfl inW fW tyW wY_E_9 wZ_W wX_W (fs := [.null, .int 0]) dfW (Nat.le_of_ble_eq_true rfl) (Nat.le_of_ble_eq_true rfl) dc_E_init_43 (fun x4 hx4 => ?_)
  refine vx_dup IG dc_E_init_46 rfl ?_
  refine vx_callIN (As := []) (st := [.ref x4, .ref p]) IG lw_good (cW_init HP hx4 ht) rfl wC_W_init wN_E_11 wI_W_init wX_W 0 (by decide +kernel) rfl ⟨Nat.le_of_ble_eq_true rfl, Nat.le_of_ble_eq_true rfl⟩ ⟨(by dsimp only [rm_]; omega), (by dsimp only [rm_]; omega)⟩ rfl (Nat.le_of_ble_eq_true rfl) dc_E_init_47 (fun v h k_ n_ hq => ?_)
  obtain ⟨rfl, rfl, rfl, g1, HP⟩ := hq
  replace N0 := nw_cons N0 hx4 (fun e => up_some _ _ _ (g1 _ e)) (gr_tr (gr_up _ _ _) g1)
  show vx_V _ _ _ _ _ _ _ _ _ 50 [(0, .ref p)] [.ref x4, .ref p]
  refine pr_putF (T := tE) (Cn := rE) IG HP rfl 4 (by decide) inE fE tyE nmE wF_E_28 rfl rfl (ty := .object "SignedMill$Whole") rfl rfl rfl (Nat.le_of_ble_eq_true rfl) dc_E_init_50 (fun h g2 HP => ?_)
  replace N0 := nw_gr N0 g2
  refine vx_aload_n IG dc_E_init_53 rfl 0 rfl ?_
  refine vx_new IG (ci := 2) (C := rW) rfl inW fW tyW wY_E_9 wZ_W wX_W (fs := [.null, .int 0]) dfW (Nat.le_of_ble_eq_true rfl) (Nat.le_of_ble_eq_true rfl) dc_E_init_54 (fun x5 hx5 => ?_)
  refine vx_dup IG dc_E_init_57 rfl ?_
  refine vx_callIN (As := []) (st := [.ref x5, .ref p]) IG lw_good (cW_init HP hx5 ht) rfl wC_W_init wN_E_11 wI_W_init wX_W 0 (by decide +kernel) rfl ⟨Nat.le_of_ble_eq_true rfl, Nat.le_of_ble_eq_true rfl⟩ ⟨(by dsimp only [rm_]; omega), (by dsimp only [rm_]; omega)⟩ rfl (Nat.le_of_ble_eq_true rfl) dc_E_init_58 (fun v h k_ n_ hq => ?_)
  obtain ⟨rfl, rfl, rfl, g1, HP⟩ := hq
  replace N0 := nw_cons N0 hx5 (fun e => up_some _ _ _ (g1 _ e)) (gr_tr (gr_up _ _ _) g1)
  show vx_V _ _ _ _ _ _ _ _ _ 61 [(0, .ref p)] [.ref x5, .ref p]
  refine pr_putF (T := tE) (Cn := rE) IG HP rfl 5 (by decide) inE fE tyE nmE wF_E_31 rfl rfl (ty := .object "SignedMill$Whole") rfl rfl rfl (Nat.le_of_ble_eq_true rfl) dc_E_init_61 (fun h g2 HP => ?_)
  replace N0 := nw_gr N0 g2
  refine vx_aload_n IG dc_E_init_64 rfl 0 rfl ?_
  refine vx_new IG (ci := 0) (C := rD) rfl inD fD tyD wY_E_34 wZ_D wX_D (fs := [.null, .null, .null]) dfD (Nat.le_of_ble_eq_true rfl) (Nat.le_of_ble_eq_true rfl) dc_E_init_65 (fun dd hdd => ?_)
  have hpd : p ≠ dd := fun e => N0.2.2.2 dd hdd |> fun z => hp (e ▸ z)
  replace HP := pool_radd HP hdd (.inr (0, [.null, .null, .null]))
  replace N0 := nw_cons N0 hdd (up_some _ _ (.inr (0, [.null, .null, .null]))) (gr_up _ _ _)
  refine vx_dup IG dc_E_init_68 rfl ?_
  refine vx_callIN (As := []) (st := [.ref dd, .ref p]) IG lw_good (cD_init HP ht) rfl wC_D_init wN_E_36 wI_D_init wX_D 0 (by decide +kernel) rfl ⟨Nat.le_of_ble_eq_true rfl, Nat.le_of_ble_eq_true rfl⟩ ⟨(by dsimp only [rm_]; omega), (by dsimp only [rm_]; omega)⟩ rfl (Nat.le_of_ble_eq_true rfl) dc_E_init_69 (fun v h k_ n_ hq => ?_)
  obtain ⟨rfl, rfl, rfl, d1, d2, d3, N1, HP⟩ := hq
  replace N0 := nw_app N0 N1
  rw [vx_up_comm hpd] at HP
  show vx_V _ _ _ _ _ _ _ _ _ 72 [(0, .ref p)] [.ref dd, .ref p]
  refine pr_putF (T := tE) (Cn := rE) IG HP rfl 6 (by decide) inE fE tyE nmE wF_E_37 rfl rfl (ty := .object "SignedMill$Divider") rfl rfl rfl (Nat.le_of_ble_eq_true rfl) dc_E_init_72 (fun h g2 HP => ?_)
  replace N0 := nw_gr N0 g2
  refine vx_aload_n IG dc_E_init_75 rfl 0 rfl ?_
  refine vx_lconst (v := 1) IG dc_E_init_76 (by decide) ?_
  refine pr_put (T := tE) (Cn := rE) IG HP rfl 7 (by decide) inE fE tyE nmE wF_E_41 rfl rfl (ty := .long) rfl rfl rfl (Nat.le_of_ble_eq_true rfl) dc_E_init_77 (fun h g2 HP => ?_)
  replace N0 := nw_gr N0 g2
  refine vx_aload_n IG dc_E_init_80 rfl 0 rfl ?_
  refine vx_lconst (v := 0) IG dc_E_init_81 (by decide) ?_
  refine pr_put (T := tE) (Cn := rE) IG HP rfl 8 (by decide) inE fE tyE nmE wF_E_45 rfl rfl (ty := .long) rfl rfl rfl (Nat.le_of_ble_eq_true rfl) dc_E_init_82 (fun h g2 HP => ?_)
  replace N0 := nw_gr N0 g2
  refine vx_aload_n IG dc_E_init_85 rfl 0 rfl ?_
  refine vx_lconst (v := 0) IG dc_E_init_86 (by decide) ?_
  refine pr_put (T := tE) (Cn := rE) IG HP rfl 9 (by decide) inE fE tyE nmE wF_E_48 rfl rfl (ty := .long) rfl rfl rfl (Nat.le_of_ble_eq_true rfl) dc_E_init_87 (fun h g2 HP => ?_)
  replace N0 := nw_gr N0 g2
  refine vx_aload_n IG dc_E_init_90 rfl 0 rfl ?_
  refine vx_lconst (v := 1) IG dc_E_init_91 (by decide) ?_
  refine pr_put (T := tE) (Cn := rE) IG HP rfl 10 (by decide) inE fE tyE nmE wF_E_51 rfl rfl (ty := .long) rfl rfl rfl (Nat.le_of_ble_eq_true rfl) dc_E_init_92 (fun h g2 HP => ?_)
  replace N0 := nw_gr N0 g2
  refine vx_ret none RG (vx_endv dc_E_init_95) rfl ?_
  refine ⟨rfl, rfl, rfl, x1, x2, x3, x4, x5, dd, d1, d2, d3, N0, ?_⟩
  exact HP
theorem dfR : ∀ j, j < 3 → defaultValue (fR j) = vp_V [.null, .null, .null] j := fun j hj => by
  rcases (show j = 0 ∨ j = 1 ∨ j = 2 by omega) with rfl | rfl | rfl <;> rfl
set_option maxRecDepth 200000 in
set_option maxHeartbeats 8000000 in
theorem cR_init (hp : h p = some (.inr (4, [.null, .null, .null]))) (ht2 : tys[2]? = some (cZ, .boolean)) (ht3 : tys[3]? = some (cI, .int)) : vx_M l D vcl tys my_R_init lw_gd (rm_ 1 3 131176 20) [.ref p] h (fun v h' k n => v = none ∧ k = 3 ∧ n = 131176 ∧ ∃ a1 a2 a3, h a1 = none ∧ h a2 = none ∧ h a3 = none ∧ a1 ≠ a2 ∧ a1 ≠ a3 ∧ a2 ≠ a3 ∧ h' = vx_up (vx_up (vx_up (vx_up h p (.inr (4, [.ref a1, .ref a2, .ref a3]))) a1 (.inl (cI, 131136, .inl (fun _ => 0)))) a2 (.inl (cI, 24, .inl (fun _ => 0)))) a3 (.inl (cZ, 16, .inl (fun _ => 0)))) := by
  refine vx_M.ofV (cc := bc_R_init) (maxL := 1) (ret := none) (own := rR) true rfl (by decide +kernel) wC_R_init (fun _ => rfl) (Nat.le_of_ble_eq_true rfl) (fun A H0 G IG RG => ?_)
  show vx_V _ _ _ _ _ _ _ _ _ 0 [(0, .ref p)] []
  refine vx_aload_n IG dc_R_init_0 rfl 0 rfl ?_
  refine vx_obj IG wL_R_1 wI_JO_init wC_JO_init dc_R_init_1 (Nat.le_refl 1) (Nat.le_of_ble_eq_true rfl) ?_
  refine vx_aload_n IG dc_R_init_4 rfl 0 rfl ?_
  refine vx_ldc (v := 131136) IG wK_R_7 dc_R_init_5 ?_
  refine vx_newa (atype := .int) (ty := .int) IG wA_int rfl 3 ht3 (fun U c z => z) (N := 131136) (a0 := (131136, .inl (fun _ => 0))) (fun cA => rfl) (by decide) (nI_clamp (n := 131136) (by decide)) (Nat.le_of_ble_eq_true rfl) (Nat.le_of_ble_eq_true rfl) (Nat.le_of_ble_eq_true rfl) dc_R_init_7 (fun a1 ha1 => ?_)
  have n1 : p ≠ a1 := fun e => by rw [e, ha1] at hp; cases hp
  refine vx_putF (T := tR) IG (fs := [.null, .null, .null]) (by rw [vx_up_n n1]; exact hp) rfl 0 (by decide) inR fR tyR nmR wF_R_8 rfl rfl (ty := .array .int) rfl rfl rfl (Nat.le_of_ble_eq_true rfl) dc_R_init_9 ?_
  refine vx_aload_n IG dc_R_init_12 rfl 0 rfl ?_
  refine vx_bipush (v := 24) IG dc_R_init_13 (by decide) ?_
  refine vx_newa (atype := .int) (ty := .int) IG wA_int rfl 3 ht3 (fun U c z => z) (N := 24) (a0 := (24, .inl (fun _ => 0))) (fun cA => rfl) (by decide) rfl (Nat.le_of_ble_eq_true rfl) (Nat.le_of_ble_eq_true rfl) (Nat.le_of_ble_eq_true rfl) dc_R_init_15 (fun a2 ha2 => ?_)
  have n2 : p ≠ a2 := fun e => by rw [← e, vx_up_s] at ha2; cases ha2
  rw [vx_up_n n2.symm] at ha2
  have n3 : a1 ≠ a2 := fun e => by rw [← e, vx_up_s] at ha2; cases ha2
  rw [vx_up_n n3.symm] at ha2
  refine vx_putF (T := tR) IG (fs := [.ref a1, .null, .null]) (by rw [vx_up_n n2, vx_up_s]; rfl) rfl 1 (by decide) inR fR tyR nmR wF_R_14 rfl rfl (ty := .array .int) rfl rfl rfl (Nat.le_of_ble_eq_true rfl) dc_R_init_17 ?_
  refine vx_aload_n IG dc_R_init_20 rfl 0 rfl ?_
  refine vx_bipush (v := 16) IG dc_R_init_21 (by decide) ?_
  refine vx_newa (atype := .boolean) (ty := .boolean) IG wA_boolean rfl 2 ht2 (fun U c z => z) (N := 16) (a0 := (16, .inl (fun _ => 0))) (fun cA => rfl) (by decide) rfl (Nat.le_of_ble_eq_true rfl) (Nat.le_of_ble_eq_true rfl) (Nat.le_of_ble_eq_true rfl) dc_R_init_23 (fun a3 ha3 => ?_)
  have n4 : p ≠ a3 := fun e => by rw [← e, vx_up_s] at ha3; cases ha3
  rw [vx_up_n n4.symm] at ha3
  have n5 : a2 ≠ a3 := fun e => by rw [← e, vx_up_s] at ha3; cases ha3
  rw [vx_up_n n5.symm, vx_up_n n4.symm] at ha3
  have n6 : a1 ≠ a3 := fun e => by rw [← e, vx_up_s] at ha3; cases ha3
  rw [vx_up_n n6.symm] at ha3
  refine vx_putF (T := tR) IG (fs := [.ref a1, .ref a2, .null]) (by rw [vx_up_n n4, vx_up_s]; rfl) rfl 2 (by decide) inR fR tyR nmR wF_R_17 rfl rfl (ty := .array .boolean) rfl rfl rfl (Nat.le_of_ble_eq_true rfl) dc_R_init_25 ?_
  refine vx_ret none RG (vx_endv dc_R_init_28) rfl ?_
  refine ⟨rfl, rfl, rfl, a1, a2, a3, ha1, ha2, ha3, n3, n6, n5, ?_⟩
  rw [vx_up_comm (a := p) (b := a3) n4, vx_up_up, vx_up_comm (a := p) (b := a2) n2, vx_up_comm (a := p) (b := a3) n4, vx_up_up, vx_up_comm (a := p) (b := a1) n1, vx_up_comm (a := p) (b := a2) n2, vx_up_comm (a := p) (b := a3) n4]
  rfl
end
