/-! the mill's constructor -/
theorem pc_perm {cp : Nat → Nat} {L M : List Nat} (h : L.Perm M) : pc_ cp L = pc_ cp M := by
  induction h with
  | nil => rfl
  | cons x _ ih => rw [pc_, pc_, ih]
  | swap x y l => rw [pc_, pc_, pc_, pc_]; omega
  | trans _ _ a b => rw [a, b]
theorem ph_perm {cp : Nat → Nat} {L M : List Nat} (h : L.Perm M) : ph cp L = ph cp M := by
  induction h with
  | nil => rfl
  | cons x _ ih => rw [ph, ph, ih]
  | swap x y l => rw [ph, ph, ph, ph]; omega
  | trans _ _ a b => rw [a, b]
theorem pool_perm {cJ : ClassId} {L M : List Nat} {r h : vx_h} {V : Nat → Nat} {C S : Nat} (hp : L.Perm M) (HP : pool cJ L r V h C S) : pool cJ M r V h C S := by
  obtain ⟨ar, cp, cn, fn, HR, hV, hC, hS⟩ := HP
  refine ⟨ar, cp, cn, fn, ⟨fun b e he => ?_, fun p hm => HR.2.1 p (hp.mem_iff.mpr hm), fun p q h1 h2 => HR.2.2 p q (hp.mem_iff.mpr h1) (hp.mem_iff.mpr h2)⟩, fun q hq => hV q (hp.mem_iff.mpr hq), by rw [← pc_perm hp]; exact hC, by rw [← ph_perm hp]; exact hS⟩
  obtain ⟨h1, h2, h3⟩ := HR.1 b e he
  exact ⟨h1, fun z => h2 (hp.mem_iff.mpr z), fun q hq => h3 q (hp.mem_iff.mpr hq)⟩
theorem pool_mono {cJ : ClassId} {L : List Nat} {r h : vx_h} {V : Nat → Nat} {C S C' S' : Nat} (HP : pool cJ L r V h C S) (h1 : C ≤ C') (h2 : S ≤ S') : pool cJ L r V h C' S' := by
  obtain ⟨ar, cp, cn, fn, HR, hV, hC, hS⟩ := HP
  exact ⟨ar, cp, cn, fn, HR, hV, by omega, by omega⟩
theorem nd_inj {f : Nat → Nat} : ∀ {L : List Nat}, (L.map f).Nodup → ∀ i ∈ L, ∀ j ∈ L, f i = f j → i = j
  | [], _, i, hi, _, _, _ => absurd hi List.not_mem_nil
  | a :: L, hn, i, hi, j, hj, e => by
    rw [List.map_cons, List.nodup_cons] at hn
    rcases List.mem_cons.mp hi with y | y <;> rcases List.mem_cons.mp hj with x | x
    · rw [y, x]
    · exact absurd (List.mem_map.mpr ⟨j, x, by rw [← e, y]⟩) hn.1
    · exact absurd (List.mem_map.mpr ⟨i, y, by rw [e, x]⟩) hn.1
    · exact nd_inj hn.2 i y j x e
abbrev jl : List Nat := [29, 28, 27, 26, 25, 24, 23, 22, 21, 20, 19, 18, 17, 16]
abbrev il : List Nat := [29, 28, 27, 35, 26, 25, 24, 23, 22, 34, 21, 20, 19, 33, 18, 17, 16, 32, 31]
theorem jl_perm : ((List.range 16).reverse ++ jl).Perm (List.range 30) := by decide +kernel
theorem map_va {ad : Nat → Nat} {j p : Nat} {L : List Nat} (h : j ∉ L) : L.map (va_up ad j p) = L.map ad := List.map_congr_left (fun a ha => va_up_ne _ _ (fun e => h (e ▸ ha)))
section
variable {l : Launch} {D : va_G} {tys : List (ClassId × FieldType)} {cJ cQ cZ cI : ClassId} {L : List Nat} {r h : vx_h} {V : Nat → Nat} {C S p a : Nat}
theorem dfM : ∀ j, j < 7 → defaultValue (fM j) = vp_V [.null, .null, .null, .null, .null, .null, .null] j := fun j hj => by
  rcases (show j = 0 ∨ j = 1 ∨ j = 2 ∨ j = 3 ∨ j = 4 ∨ j = 5 ∨ j = 6 by omega) with rfl | rfl | rfl | rfl | rfl | rfl | rfl <;> rfl
set_option maxRecDepth 100000 in
set_option maxHeartbeats 8000000 in
theorem cM_init (HP : pool cJ [] (vx_up r p (.inr (3, [.null, .null, .null, .null, .null, .null, .null]))) z0 h 0 0) (hp : h p ≠ none) (ht : tys[0]? = some (cJ, .long)) (ht1 : tys[1]? = some (cQ, .object "SignedMill$Whole")) (ht2 : tys[2]? = some (cZ, .boolean)) : vx_M l D vcl tys my_M_init lw_gd (rm_ 4 65 229 80) [.ref p] h (fun v h' k n => v = none ∧ k = 65 ∧ n = 229 ∧ gr h h' ∧ ∃ ad r0, ad 30 = p ∧ lay cQ ad r0 ∧ mw cJ cZ ad r0 z0 (fun _ => 0) h' 61470 491760) := by
  refine vx_M.ofV (cc := bc_M_init) (maxL := 2) (ret := none) (own := rM) true rfl (by decide +kernel) wC_M_init (fun _ => rfl) (Nat.le_of_ble_eq_true rfl) (fun A H0 G IG RG => ?_)
  show vx_V _ _ _ _ _ _ _ _ _ 0 [(0, .ref p)] []
  have N0 := nw_nil h
  refine vx_aload_n IG dc_M_init_0 rfl 0 rfl ?_
  refine vx_obj IG wL_M_3 wI_JO_init wC_JO_init dc_M_init_1 (by decide) (Nat.le_of_ble_eq_true rfl) ?_
  refine vx_aload_n IG dc_M_init_4 rfl 0 rfl ?_
  refine vx_bipush (v := 16) IG dc_M_init_5 (by decide) ?_
  refine vx_newq IG wY_M_9 ht1 (N := 16) (by decide) rfl (by decide) (Nat.le_of_ble_eq_true rfl) (Nat.le_of_ble_eq_true rfl) dc_M_init_7 (fun p31 h31 => ?_)
  have q31 : p ≠ p31 := fun e => N0.2.2.2 p31 h31 |> fun z => hp (e ▸ z)
  replace HP := pool_radd HP h31 (.inl (cQ, 16, .inr (.inr (.inr (.inr (fun _ => none))))))
  rw [vx_up_comm q31] at HP
  replace N0 := nw_cons N0 h31 (up_some _ _ (.inl (cQ, 16, .inr (.inr (.inr (.inr (fun _ => none))))))) (gr_up _ _ _)
  refine pr_putF (T := tM) (Cn := rM) IG HP rfl 0 (by decide) inM fM tyM nmM wF_M_11 rfl rfl (ty := .array (.object "SignedMill$Whole")) rfl rfl rfl (Nat.le_of_ble_eq_true rfl) dc_M_init_10 (fun h g2 HP => ?_)
  replace N0 := nw_gr N0 g2
  refine vx_aload_n IG dc_M_init_13 rfl 0 rfl ?_
  refine vx_bipush (v := 16) IG dc_M_init_14 (by decide) ?_
  refine vx_newa (atype := .boolean) (ty := .boolean) IG wA_boolean rfl 2 ht2 (fun U c z => z) (N := 16) (a0 := (16, .inl (fun _ => 0))) (fun cA => rfl) (by decide) rfl (Nat.le_of_ble_eq_true rfl) (Nat.le_of_ble_eq_true rfl) (Nat.le_of_ble_eq_true rfl) dc_M_init_16 (fun p32 h32 => ?_)
  have q32 : p ≠ p32 := fun e => N0.2.2.2 p32 h32 |> fun z => hp (e ▸ z)
  replace HP := pool_radd HP h32 (.inl (cZ, 16, .inl (fun _ => 0)))
  rw [vx_up_comm q32] at HP
  replace N0 := nw_cons N0 h32 (up_some _ _ (.inl (cZ, 16, .inl (fun _ => 0)))) (gr_up _ _ _)
  refine pr_putF (T := tM) (Cn := rM) IG HP rfl 1 (by decide) inM fM tyM nmM wF_M_15 rfl rfl (ty := .array .boolean) rfl rfl rfl (Nat.le_of_ble_eq_true rfl) dc_M_init_18 (fun h g2 HP => ?_)
  replace N0 := nw_gr N0 g2
  refine vx_aload_n IG dc_M_init_21 rfl 0 rfl ?_
  refine vx_new IG (ci := 2) (C := rW) rfl inW fW tyW wY_M_9 wZ_W wX_W (fs := [.null, .int 0]) dfW (Nat.le_of_ble_eq_true rfl) (Nat.le_of_ble_eq_true rfl) dc_M_init_22 (fun p16 hp16 => ?_)
  refine vx_dup IG dc_M_init_25 rfl ?_
  refine vx_callIN (As := []) (st := [.ref p16, .ref p]) IG lw_good (cW_init HP hp16 ht) rfl wC_W_init wN_M_19 wI_W_init wX_W 0 (by decide +kernel) rfl ⟨Nat.le_of_ble_eq_true rfl, Nat.le_of_ble_eq_true rfl⟩ ⟨(by dsimp only [rm_]; omega), (by dsimp only [rm_]; omega)⟩ rfl (Nat.le_of_ble_eq_true rfl) dc_M_init_26 (fun v h k_ n_ hq => ?_)
  obtain ⟨rfl, rfl, rfl, g1, HP⟩ := hq
  replace N0 := nw_cons N0 hp16 (fun e => up_some _ _ _ (g1 _ e)) (gr_tr (gr_up _ _ _) g1)
  show vx_V _ _ _ _ _ _ _ _ _ 29 [(0, .ref p)] [.ref p16, .ref p]
  refine pr_putF (T := tM) (Cn := rM) IG HP rfl 2 (by decide) inM fM tyM nmM wF_M_20 rfl rfl (ty := .object "SignedMill$Whole") rfl rfl rfl (Nat.le_of_ble_eq_true rfl) dc_M_init_29 (fun h g2 HP => ?_)
  replace N0 := nw_gr N0 g2
  refine vx_aload_n IG dc_M_init_32 rfl 0 rfl ?_
  refine vx_new IG (ci := 2) (C := rW) rfl inW fW tyW wY_M_9 wZ_W wX_W (fs := [.null, .int 0]) dfW (Nat.le_of_ble_eq_true rfl) (Nat.le_of_ble_eq_true rfl) dc_M_init_33 (fun p17 hp17 => ?_)
  refine vx_dup IG dc_M_init_36 rfl ?_
  refine vx_callIN (As := []) (st := [.ref p17, .ref p]) IG lw_good (cW_init HP hp17 ht) rfl wC_W_init wN_M_19 wI_W_init wX_W 0 (by decide +kernel) rfl ⟨Nat.le_of_ble_eq_true rfl, Nat.le_of_ble_eq_true rfl⟩ ⟨(by dsimp only [rm_]; omega), (by dsimp only [rm_]; omega)⟩ rfl (Nat.le_of_ble_eq_true rfl) dc_M_init_37 (fun v h k_ n_ hq => ?_)
  obtain ⟨rfl, rfl, rfl, g1, HP⟩ := hq
  replace N0 := nw_cons N0 hp17 (fun e => up_some _ _ _ (g1 _ e)) (gr_tr (gr_up _ _ _) g1)
  show vx_V _ _ _ _ _ _ _ _ _ 40 [(0, .ref p)] [.ref p17, .ref p]
  refine pr_putF (T := tM) (Cn := rM) IG HP rfl 3 (by decide) inM fM tyM nmM wF_M_24 rfl rfl (ty := .object "SignedMill$Whole") rfl rfl rfl (Nat.le_of_ble_eq_true rfl) dc_M_init_40 (fun h g2 HP => ?_)
  replace N0 := nw_gr N0 g2
  refine vx_aload_n IG dc_M_init_43 rfl 0 rfl ?_
  refine vx_new IG (ci := 2) (C := rW) rfl inW fW tyW wY_M_9 wZ_W wX_W (fs := [.null, .int 0]) dfW (Nat.le_of_ble_eq_true rfl) (Nat.le_of_ble_eq_true rfl) dc_M_init_44 (fun p18 hp18 => ?_)
  refine vx_dup IG dc_M_init_47 rfl ?_
  refine vx_callIN (As := []) (st := [.ref p18, .ref p]) IG lw_good (cW_init HP hp18 ht) rfl wC_W_init wN_M_19 wI_W_init wX_W 0 (by decide +kernel) rfl ⟨Nat.le_of_ble_eq_true rfl, Nat.le_of_ble_eq_true rfl⟩ ⟨(by dsimp only [rm_]; omega), (by dsimp only [rm_]; omega)⟩ rfl (Nat.le_of_ble_eq_true rfl) dc_M_init_48 (fun v h k_ n_ hq => ?_)
  obtain ⟨rfl, rfl, rfl, g1, HP⟩ := hq
  replace N0 := nw_cons N0 hp18 (fun e => up_some _ _ _ (g1 _ e)) (gr_tr (gr_up _ _ _) g1)
  show vx_V _ _ _ _ _ _ _ _ _ 51 [(0, .ref p)] [.ref p18, .ref p]
  refine pr_putF (T := tM) (Cn := rM) IG HP rfl 4 (by decide) inM fM tyM nmM wF_M_27 rfl rfl (ty := .object "SignedMill$Whole") rfl rfl rfl (Nat.le_of_ble_eq_true rfl) dc_M_init_51 (fun h g2 HP => ?_)
  replace N0 := nw_gr N0 g2
  refine vx_aload_n IG dc_M_init_54 rfl 0 rfl ?_
  refine vx_new IG (ci := 0) (C := rD) rfl inD fD tyD wY_M_30 wZ_D wX_D (fs := [.null, .null, .null]) dfD (Nat.le_of_ble_eq_true rfl) (Nat.le_of_ble_eq_true rfl) dc_M_init_55 (fun p33 h33 => ?_)
  have q33 : p ≠ p33 := fun e => N0.2.2.2 p33 h33 |> fun z => hp (e ▸ z)
  replace HP := pool_radd HP h33 (.inr (0, [.null, .null, .null]))
  replace N0 := nw_cons N0 h33 (up_some _ _ (.inr (0, [.null, .null, .null]))) (gr_up _ _ _)
  refine vx_dup IG dc_M_init_58 rfl ?_
  refine vx_callIN (As := []) (st := [.ref p33, .ref p]) IG lw_good (cD_init HP ht) rfl wC_D_init wN_M_32 wI_D_init wX_D 0 (by decide +kernel) rfl ⟨Nat.le_of_ble_eq_true rfl, Nat.le_of_ble_eq_true rfl⟩ ⟨(by dsimp only [rm_]; omega), (by dsimp only [rm_]; omega)⟩ rfl (Nat.le_of_ble_eq_true rfl) dc_M_init_59 (fun v h k_ n_ hq => ?_)
  obtain ⟨rfl, rfl, rfl, p19, p20, p21, N1, HP⟩ := hq
  replace N0 := nw_app N0 N1
  rw [vx_up_comm q33] at HP
  show vx_V _ _ _ _ _ _ _ _ _ 62 [(0, .ref p)] [.ref p33, .ref p]
  refine pr_putF (T := tM) (Cn := rM) IG HP rfl 5 (by decide) inM fM tyM nmM wF_M_33 rfl rfl (ty := .object "SignedMill$Divider") rfl rfl rfl (Nat.le_of_ble_eq_true rfl) dc_M_init_62 (fun h g2 HP => ?_)
  replace N0 := nw_gr N0 g2
  refine vx_aload_n IG dc_M_init_65 rfl 0 rfl ?_
  refine vx_new IG (ci := 1) (C := rE) rfl inE fE tyE wY_M_37 wZ_E wX_E (fs := [.null, .null, .int 0, .null, .null, .null, .null, .long 0, .long 0, .long 0, .long 0]) dfE (Nat.le_of_ble_eq_true rfl) (Nat.le_of_ble_eq_true rfl) dc_M_init_66 (fun p34 h34 => ?_)
  have q34 : p ≠ p34 := fun e => N0.2.2.2 p34 h34 |> fun z => hp (e ▸ z)
  replace HP := pool_radd HP h34 (.inr (1, [.null, .null, .int 0, .null, .null, .null, .null, .long 0, .long 0, .long 0, .long 0]))
  replace N0 := nw_cons N0 h34 (up_some _ _ (.inr (1, [.null, .null, .int 0, .null, .null, .null, .null, .long 0, .long 0, .long 0, .long 0]))) (gr_up _ _ _)
  refine vx_dup IG dc_M_init_69 rfl ?_
  refine vx_callIN (As := []) (st := [.ref p34, .ref p]) IG lw_good (cE_init HP (up_some _ _ _) ht) rfl wC_E_init wN_M_39 wI_E_init wX_E 0 (by decide +kernel) rfl ⟨Nat.le_of_ble_eq_true rfl, Nat.le_of_ble_eq_true rfl⟩ ⟨(by dsimp only [rm_]; omega), (by dsimp only [rm_]; omega)⟩ rfl (Nat.le_of_ble_eq_true rfl) dc_M_init_70 (fun v h k_ n_ hq => ?_)
  obtain ⟨rfl, rfl, rfl, p22, p23, p24, p25, p26, p35, p27, p28, p29, N1, HP⟩ := hq
  have q35 : p ≠ p35 := fun e => hp (N0.2.2.2 p (by rw [e]; exact N1.2.1 p35 (by simp)))
  replace N0 := nw_app N0 N1
  rw [vx_up_comm q35, vx_up_comm q34] at HP
  show vx_V _ _ _ _ _ _ _ _ _ 73 [(0, .ref p)] [.ref p34, .ref p]
  refine pr_putF (T := tM) (Cn := rM) IG HP rfl 6 (by decide) inM fM tyM nmM wF_M_40 rfl rfl (ty := .object "SignedMill$Euclid") rfl rfl rfl (Nat.le_of_ble_eq_true rfl) dc_M_init_73 (fun h g2 HP => ?_)
  replace N0 := nw_gr N0 g2
  refine vx_iconst (v := 0) IG dc_M_init_76 (by decide) ?_
  refine vx_istore_n (lv' := [(1, .int 0), (0, .ref p)]) IG dc_M_init_77 rfl (by decide) rfl ?_
  -- the fixed part stands
  obtain ⟨ad0, ea⟩ : ∃ ad0 : Nat → Nat, ad0 = fun i => [0, 0, 0, 0, 0, 0, 0, 0, 0, 0, 0, 0, 0, 0, 0, 0, p16, p17, p18, p19, p20, p21, p22, p23, p24, p25, p26, p27, p28, p29, p, p31, p32, p33, p34, p35].getD i 0 := ⟨_, rfl⟩
  have eL : [p29, p28, p27, p26, p25, p24, p23, p22, p21, p20, p19, p18, p17, p16] = jl.map ad0 := by rw [ea]; rfl
  have eN : [p29, p28, p27, p35, p26, p25, p24, p23, p22, p34, p21, p20, p19, p33, p18, p17, p16, p32, p31] = il.map ad0 := by rw [ea]; rfl
  have N8 : nw _ h [p29, p28, p27, p35, p26, p25, p24, p23, p22, p34, p21, p20, p19, p33, p18, p17, p16, p32, p31] := N0
  have N9 := N8
  rw [eN] at N9
  have e30 : ad0 30 = p := by rw [ea]; rfl
  have hmem : ∀ i, i < 36 → 16 ≤ i → i ≠ 30 → i ∈ il := by decide +kernel
  have hin0 : ∀ i, 16 ≤ i → i < 36 → h (ad0 i) ≠ none := fun i h1 h2 => by
    by_cases z : i = 30
    · rw [z, e30]
      exact fun e => hp (N9.2.2.2 p e)
    · exact N9.2.2.1 _ (List.mem_map.mpr ⟨i, hmem i h2 h1 z, rfl⟩)
  have hnp : ∀ i, i ∈ il → ad0 i ≠ p := fun i hi e => hp (by rw [← e]; exact N9.2.1 _ (List.mem_map.mpr ⟨i, hi, rfl⟩))
  have hij0 : ∀ i j, 16 ≤ i → i < 36 → 16 ≤ j → j < 36 → ad0 i = ad0 j → i = j := fun i j a1 a2 b1 b2 e => by
    by_cases z : i = 30 <;> by_cases y : j = 30
    · rw [z, y]
    · rw [z, e30] at e
      exact absurd e.symm (hnp j (hmem j b2 b1 y))
    · rw [y, e30] at e
      exact absurd e (hnp i (hmem i a2 a1 z))
    · exact nd_inj N9.1 i (hmem i a2 a1 z) j (hmem j b2 b1 y) e
  have apart : ∀ i j, 16 ≤ i → i < 36 → 16 ≤ j → j < 36 → i ≠ j → ad0 i ≠ ad0 j := fun i j a1 a2 b1 b2 hne e => hne (hij0 i j a1 a2 b1 b2 e)
  obtain ⟨R, eR⟩ : ∃ R : vx_h, R = vx_up (vx_up (vx_up (vx_up (vx_up (vx_up r p31 (.inl (cQ, 16, .inr (.inr (.inr (.inr (fun _ => none))))))) p32 (.inl (cZ, 16, .inl (fun _ => 0)))) p33 (.inr (0, [.ref p19, .ref p20, .ref p21]))) p35 (.inr (0, [.ref p27, .ref p28, .ref p29]))) p34 (eOb p22 p23 p24 p25 p26 p35 0 1 0 0 1)) p (.inr (3, [.ref p31, .ref p32, .ref p16, .ref p17, .ref p18, .ref p33, .ref p34])) := ⟨_, rfl⟩
  have HP2 : pool cJ (jl.map ad0) R z0 h (14 * 2049) (14 * 16392) := by
    rw [eR, ← eL]
    exact pool_mono HP (Nat.le_of_ble_eq_true rfl) (Nat.le_of_ble_eq_true rfl)
  have A16 : ad0 16 = p16 := by rw [ea]; rfl
  have a31 : ad0 31 = p31 := by rw [ea]; rfl
  have a32 : ad0 32 = p32 := by rw [ea]; rfl
  have a33 : ad0 33 = p33 := by rw [ea]; rfl
  have a34 : ad0 34 = p34 := by rw [ea]; rfl
  have a35 : ad0 35 = p35 := by rw [ea]; rfl
  have x1 : p31 ≠ p32 := by rw [← a31, ← a32]; exact apart _ _ (by decide) (by decide) (by decide) (by decide) (by decide)
  have x2 : p31 ≠ p33 := by rw [← a31, ← a33]; exact apart _ _ (by decide) (by decide) (by decide) (by decide) (by decide)
  have x3 : p31 ≠ p34 := by rw [← a31, ← a34]; exact apart _ _ (by decide) (by decide) (by decide) (by decide) (by decide)
  have x4 : p31 ≠ p35 := by rw [← a31, ← a35]; exact apart _ _ (by decide) (by decide) (by decide) (by decide) (by decide)
  have x5 : p32 ≠ p33 := by rw [← a32, ← a33]; exact apart _ _ (by decide) (by decide) (by decide) (by decide) (by decide)
  have x6 : p32 ≠ p34 := by rw [← a32, ← a34]; exact apart _ _ (by decide) (by decide) (by decide) (by decide) (by decide)
  have x7 : p32 ≠ p35 := by rw [← a32, ← a35]; exact apart _ _ (by decide) (by decide) (by decide) (by decide) (by decide)
  have x8 : p33 ≠ p34 := by rw [← a33, ← a34]; exact apart _ _ (by decide) (by decide) (by decide) (by decide) (by decide)
  have x9 : p33 ≠ p35 := by rw [← a33, ← a35]; exact apart _ _ (by decide) (by decide) (by decide) (by decide) (by decide)
  have x10 : p35 ≠ p34 := by rw [← a35, ← a34]; exact apart _ _ (by decide) (by decide) (by decide) (by decide) (by decide)
  have r30 : R p = some (.inr (3, [.ref p31, .ref p32, .ref p16, .ref p17, .ref p18, .ref p33, .ref p34])) := by rw [eR, vx_up_s]
  have r34 : R p34 = some (eOb p22 p23 p24 p25 p26 p35 0 1 0 0 1) := by rw [eR, vx_up_n q34.symm, vx_up_s]
  have r35 : R p35 = some (.inr (0, [.ref p27, .ref p28, .ref p29])) := by rw [eR, vx_up_n q35.symm, vx_up_n x10, vx_up_s]
  have r33 : R p33 = some (.inr (0, [.ref p19, .ref p20, .ref p21])) := by rw [eR, vx_up_n q33.symm, vx_up_n x8, vx_up_n x9, vx_up_s]
  have r32 : R p32 = some (.inl (cZ, 16, .inl (fun _ => 0))) := by rw [eR, vx_up_n q32.symm, vx_up_n x6, vx_up_n x7, vx_up_n x5, vx_up_s]
  have r31 : R p31 = some (.inl (cQ, 16, .inr (.inr (.inr (.inr (fun _ => none)))))) := by rw [eR, vx_up_n q31.symm, vx_up_n x3, vx_up_n x4, vx_up_n x2, vx_up_n x1, vx_up_s]
  have gh := N9.2.2.2
  -- the loop
  have loop : ∀ (c j k n : Nat) (ad : Nat → Nat) (R h2 : vx_h) (f : Nat → Option Nat), j + c = 16 → k + 2 * c = 65 → n + 6 * c = 229 → (∀ i, 16 ≤ i → ad i = ad0 i) → (∀ i i', (i < j ∨ (16 ≤ i ∧ i < 36)) → (i' < j ∨ (16 ≤ i' ∧ i' < 36)) → ad i = ad i' → i = i') → (∀ i, (i < j ∨ (16 ≤ i ∧ i < 36)) → h2 (ad i) ≠ none) → gr h h2 → pool cJ (((List.range j).reverse ++ jl).map ad) R z0 h2 ((14 + j) * 2049) ((14 + j) * 16392) → R p31 = some (.inl (cQ, 16, .inr (.inr (.inr (.inr f))))) → (∀ i, i < j → f i = some (ad i)) → R p = some (.inr (3, [.ref p31, .ref p32, .ref p16, .ref p17, .ref p18, .ref p33, .ref p34])) → R p32 = some (.inl (cZ, 16, .inl (fun _ => 0))) → R p33 = some (.inr (0, [.ref p19, .ref p20, .ref p21])) → R p34 = some (eOb p22 p23 p24 p25 p26 p35 0 1 0 0 1) → R p35 = some (.inr (0, [.ref p27, .ref p28, .ref p29])) → vx_V D vcl A H0 2 G h2 k n 78 [(1, .int (nI j)), (0, .ref p)] [] := by
    intro c
    induction c with
    | zero =>
      intro j k n ad R h2 f hj hk hn had hinj hne hg HP r31 hf r30 r32 r33 r34 r35
      obtain rfl : j = 16 := by omega
      refine vx_iload_n IG dc_M_init_78 rfl 0 rfl ?_
      refine vx_bipush (v := 16) IG dc_M_init_79 (by decide) ?_
      refine vx_icmp_ge (tgt := 103) IG dc_M_init_81 (by decide) (fun _ => ?_) (fun c_ => absurd (by decide) c_)
      refine vx_ret none RG (vx_endv dc_M_init_103) rfl ?_
      have b30 : ad 30 = p := by rw [had 30 (by decide), e30]
      have b31 : ad 31 = p31 := by rw [had 31 (by decide), a31]
      have b32 : ad 32 = p32 := by rw [had 32 (by decide), a32]
      have b33 : ad 33 = p33 := by rw [had 33 (by decide), a33]
      have b34 : ad 34 = p34 := by rw [had 34 (by decide), a34]
      have b35 : ad 35 = p35 := by rw [had 35 (by decide), a35]
      have bx : ∀ i v, 16 ≤ i → ad0 i = v → ad i = v := fun i v hi e => (had i hi).trans e
      have b16 : ad 16 = p16 := bx 16 _ (by decide) (by rw [ea]; rfl)
      have b17 : ad 17 = p17 := bx 17 _ (by decide) (by rw [ea]; rfl)
      have b18 : ad 18 = p18 := bx 18 _ (by decide) (by rw [ea]; rfl)
      have b19 : ad 19 = p19 := bx 19 _ (by decide) (by rw [ea]; rfl)
      have b20 : ad 20 = p20 := bx 20 _ (by decide) (by rw [ea]; rfl)
      have b21 : ad 21 = p21 := bx 21 _ (by decide) (by rw [ea]; rfl)
      have b22 : ad 22 = p22 := bx 22 _ (by decide) (by rw [ea]; rfl)
      have b23 : ad 23 = p23 := bx 23 _ (by decide) (by rw [ea]; rfl)
      have b24 : ad 24 = p24 := bx 24 _ (by decide) (by rw [ea]; rfl)
      have b25 : ad 25 = p25 := bx 25 _ (by decide) (by rw [ea]; rfl)
      have b26 : ad 26 = p26 := bx 26 _ (by decide) (by rw [ea]; rfl)
      have b27 : ad 27 = p27 := bx 27 _ (by decide) (by rw [ea]; rfl)
      have b28 : ad 28 = p28 := bx 28 _ (by decide) (by rw [ea]; rfl)
      have b29 : ad 29 = p29 := bx 29 _ (by decide) (by rw [ea]; rfl)
      refine ⟨rfl, by omega, by omega, gr_tr gh hg, ad, R, b30, ⟨fun i j hi hj e => hinj i j (by omega) (by omega) e, ?_, ⟨f, by rw [b31]; exact r31, hf⟩, ?_, ?_⟩, 0, 1, 0, 0, 1, ⟨⟨z0, ?_, fun i _ => rfl⟩, fun i _ => ⟨rfl, lim_0⟩⟩⟩
      · rw [b30, b31, b32, b16, b17, b18, b33, b34]; exact r30
      · rw [b33, b19, b20, b21]; exact r33
      · rw [b35, b27, b28, b29]; exact r35
      · have eM : rMl cZ ad R (fun _ => 0) 0 1 0 0 1 = R := by
          unfold rMl
          rw [b32, b34, b22, b23, b24, b25, b26, b35]
          have e1 : vx_up R p32 (.inl (cZ, 16, .inl (fun i => sgI ((fun _ => (0 : Int)) i)))) = R := vx_up_id r32
          rw [e1]
          exact vx_up_id r34
        rw [eM]
        exact pool_perm (jl_perm.map ad) (pool_mono HP (Nat.le_of_ble_eq_true rfl) (Nat.le_of_ble_eq_true rfl))
    | succ c ih =>
      intro j k n ad R h2 f hj hk hn had hinj hne hg HP r31 hf r30 r32 r33 r34 r35
      refine vx_iload_n IG dc_M_init_78 rfl 0 rfl ?_
      refine vx_bipush (v := 16) IG dc_M_init_79 (by decide) ?_
      refine vx_icmp_ge (tgt := 103) IG dc_M_init_81 (by decide) (fun c_ => absurd c_ (fun e => absurd (nI_lt (a := j) (b := 16) (by omega) (by decide)) (Int32.not_lt.mpr e))) (fun _ => ?_)
      refine vx_aload_n IG dc_M_init_84 rfl 1 rfl ?_
      refine vx_get IG (pool_r HP r30) rfl 0 (by decide) inM wF_M_11 rfl rfl dc_M_init_85 ?_
      refine vx_iload_n IG dc_M_init_88 rfl 0 rfl ?_
      refine vx_new IG (ci := 2) (C := rW) rfl inW fW tyW wY_M_9 wZ_W wX_W (fs := [.null, .int 0]) dfW (by dsimp only [rm_]; omega) (by dsimp only [rm_]; omega) dc_M_init_89 (fun x hx => ?_)
      refine vx_dup IG dc_M_init_92 rfl ?_
      refine vx_callIN (As := []) (st := [.ref x, .int (nI j), .ref p31]) IG lw_good (cW_init HP hx ht) rfl wC_W_init wN_M_19 wI_W_init wX_W 0 (by decide +kernel) rfl ⟨Nat.le_of_ble_eq_true rfl, Nat.le_of_ble_eq_true rfl⟩ ⟨(by dsimp only [rm_]; omega), (by dsimp only [rm_]; omega)⟩ rfl (Nat.le_of_ble_eq_true rfl) dc_M_init_93 (fun v h k_ n_ hq => ?_)
      obtain ⟨rfl, rfl, rfl, g1, HP⟩ := hq
      have g2 : gr h2 h := gr_tr (gr_up _ _ _) g1
      have hx2 : h x ≠ none := fun e => up_some _ _ _ (g1 _ e)
      have hox := pool_o HP (p := x) List.mem_cons_self
      show vx_V _ _ _ _ _ _ _ _ _ 96 [(1, .int (nI j)), (0, .ref p)] [.ref x, .int (nI j), .ref p31]
      refine vx_aast IG (ci := 2) (r := (rW, tW, 2)) (pool_r HP r31) 1 ht1 hox.choose_spec rfl (vp_in_nI (show j < 16 by omega) (by decide)) dc_M_init_96 ?_
      rw [nI_clamp (by omega)]
      have HP := pool_rset HP r31 (.inl (cQ, 16, .inr (.inr (.inr (.inr (va_up f j (some x)))))))
      refine vx_iinc (q := 0) (v := nI (j + 1)) (lv' := [(1, .int (nI (j + 1))), (0, .ref p)]) IG dc_M_init_97 rfl (nI_1 j) (by decide) rfl ?_
      refine vx_goto (tgt := 78) IG dc_M_init_100 (by decide) ?_
      have hxn : ∀ i, (i < j ∨ (16 ≤ i ∧ i < 36)) → ad i ≠ x := fun i hi e => hne i hi (by rw [e]; exact hx)
      refine ih (j + 1) _ _ (va_up ad j x) (vx_up R p31 (.inl (cQ, 16, .inr (.inr (.inr (.inr (va_up f j (some x)))))))) _ (va_up f j (some x)) (by omega) (by omega) (by omega) (fun i hi => ?_) (fun i i' hi hi' e => ?_) (fun i hi => ?_) (gr_tr hg (gr_tr g2 (gr_up _ _ _))) ?_ vx_up_s (fun i hi => ?_) ?_ ?_ ?_ ?_ ?_
      · rw [va_up_ne _ _ (by omega)]
        exact had i hi
      · by_cases y : i = j <;> by_cases y' : i' = j
        · rw [y, y']
        · rw [y, va_up_self, va_up_ne _ _ y'] at e
          exact absurd e.symm (hxn i' (by omega))
        · rw [y', va_up_self, va_up_ne _ _ y] at e
          exact absurd e (hxn i (by omega))
        · rw [va_up_ne _ _ y, va_up_ne _ _ y'] at e
          exact hinj i i' (by omega) (by omega) e
      · refine fun e => ?_
        have e := gr_up _ _ _ _ e
        by_cases y : i = j
        · rw [y, va_up_self] at e
          exact hx2 e
        · rw [va_up_ne _ _ y] at e
          exact hne i (by omega) (g2 _ e)
      · have e : ((List.range (j + 1)).reverse ++ jl).map (va_up ad j x) = x :: ((List.range j).reverse ++ jl).map ad := by
          rw [List.range_succ, List.reverse_append, List.reverse_singleton, List.append_assoc, List.singleton_append, List.map_cons, va_up_self, map_va]
          intro z
          rcases List.mem_append.mp z with z | z
          · have := List.mem_range.mp (List.mem_reverse.mp z)
            omega
          · have : ∀ i ∈ jl, 16 ≤ i := by decide
            have := this j z
            omega
        rw [e]
        exact pool_mono HP (by omega) (by omega)
      · by_cases y : i = j
        · rw [y, va_up_self, va_up_self]
        · rw [va_up_ne _ _ y, va_up_ne _ _ y]
          exact hf i (by omega)
      · rw [vx_up_n q31]; exact r30
      · rw [vx_up_n x1.symm]; exact r32
      · rw [vx_up_n x2.symm]; exact r33
      · rw [vx_up_n x3.symm]; exact r34
      · rw [vx_up_n x4.symm]; exact r35
  exact loop 16 0 _ _ ad0 R h (fun _ => none) (by omega) rfl rfl (fun _ _ => rfl) (fun i i' hi hi' e => hij0 i i' (by omega) (by omega) (by omega) (by omega) e) (fun i hi => hin0 i (by omega) (by omega)) (gr_id h) HP2 r31 (fun i hi => absurd hi (Nat.not_lt_zero i)) r30 r32 r33 r34 r35
end
