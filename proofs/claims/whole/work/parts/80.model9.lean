/-! the reference: residue, inverted, inverse, modulo -/
theorem rdz_dif {x : Int} {M : Nat} (hM : 0 < M) (hx : x < 0) : rdz x M = if x.natAbs % M = 0 then 0 else M - x.natAbs % M := by
  have h := rdz_neg (N := x.natAbs) hM
  rwa [show -(x.natAbs : Int) = x by omega] at h
theorem rdz_same {x : Int} {M : Nat} (hx : ¬ x < 0) : rdz x M = x.natAbs % M := by
  have h := rdz_nat x.natAbs M
  rwa [show (x.natAbs : Int) = x by omega] at h
theorem FI_0 {M b : Nat} : FI M b 1 M b 0 1 := by
  refine ⟨by rw [Nat.zero_mul, Nat.one_mul, Nat.zero_add], by decide, ?_, ?_⟩
  · exact ⟨1, by simp⟩
  · exact ⟨0, by simp⟩
theorem FI_le {M b x y t u : Nat} {s : Int} (h : FI M b s x y t u) (hx : 0 < x) : u ≤ M ∧ t ≤ M := by
  obtain ⟨h1, h2, -, -⟩ := h
  have h3 : u ≤ u * x := Nat.le_mul_of_pos_right _ hx
  omega
section
variable {l : Launch} {D : va_G} {tys : List (ClassId × FieldType)} {cI cZ : ClassId} {q : Nat → Nat} {h0 : vx_h} {f g s f' g' : Nat → Int32} {V : Nat → Nat} {X : Nat → Int} {a b d r u N M sz U W : Nat} {w w2 : Int32} {z : Int}
set_option maxRecDepth 100000 in
set_option maxHeartbeats 8000000 in
theorem cR_residue (LR : rlay q h0) (ht2 : tys[2]? = some (cZ, .boolean)) (ht3 : tys[3]? = some (cI, .int)) (HP : rpic f g V) (HX : mreg X V s) (hr : r = 18 ∨ r = 20) (ha : a < 16) (hM : V 19 = M) (hMp : 0 < M) (hMl : nd 65536 M ≤ 4096) : vx_M l D vcl tys my_R_residue lw_gd (rm_ 4 0 0 103) [.ref (q 0), .int (nI r), .int (nI a)] (rH cI cZ q h0 f g s) (fun v h' k n => v = none ∧ k = 0 ∧ n = 0 ∧ ∃ f' g' V', h' = rH cI cZ q h0 f' g' s ∧ rpic f' g' V' ∧ mreg X V' s ∧ V' 19 = M ∧ V' r = rdz (X a) M) := by
  refine vx_M.ofV (cc := bc_R_residue) (maxL := 3) (ret := none) (own := rR) false rfl (by decide +kernel) wC_R_residue (fun q => by cases q) (Nat.le_of_ble_eq_true rfl) (fun A H0 G IG RG => ?_)
  show vx_V _ _ _ _ _ _ _ _ _ 0 [(0, .ref (q 0)), (1, .int (nI r)), (2, .int (nI a))] []
  have c8 : ∀ r, 16 ≤ r → rcap r = 8200 := fun r hr => rcap_hi hr
  have Ra := reg_rv HP HX ha
  have La := reg_cap HP HX ha
  have Ba := (HX a ha).2
  have hr24 : r < 24 := by omega
  refine vx_aload_n IG dc_R_residue_0 rfl 0 rfl ?_
  refine vx_bipush (v := 16) IG dc_R_residue_1 (by decide) ?_
  refine vx_iload_n IG dc_R_residue_3 rfl 2 rfl ?_
  refine vx_callV (As := [.int 16, .int (nI a)]) (st := []) IG lw_good (cR_move LR ht2 ht3 Ra (d := 16) (by decide) (by omega) (by omega) (by rw [c8 _ (by decide)]; omega)) (ro_M LR) rfl wC_R_move wL_R_64 wI_R_move wS_R_move wX_R 2 (by decide +kernel) rfl ⟨Nat.le_of_ble_eq_true rfl, Nat.le_of_ble_eq_true rfl⟩ ⟨(by dsimp only [rm_]; omega), (by dsimp only [rm_]; omega)⟩ rfl (Nat.le_of_ble_eq_true rfl) dc_R_residue_4 (fun v h k_ n_ hq => ?_)
  obtain ⟨rfl, rfl, rfl, f1, g1, rfl, S1⟩ := hq
  obtain ⟨HP, HX⟩ := rp_up HP HX (show 16 ≤ 16 by decide) (show 16 < 24 by decide) S1
  show vx_V _ _ _ _ _ _ _ _ _ 7 [(0, .ref (q 0)), (1, .int (nI r)), (2, .int (nI a))] []
  have R16 := S1.2.2
  have R19 : rv f1 g1 19 M := rvN HP (show 19 < 24 by decide) hM
  refine vx_aload_n IG dc_R_residue_7 rfl 0 rfl ?_
  refine vx_iload_n IG dc_R_residue_8 rfl 1 rfl ?_
  refine vx_bipush (v := 16) IG dc_R_residue_9 (by decide) ?_
  refine vx_bipush (v := 19) IG dc_R_residue_11 (by decide) ?_
  refine vx_callV (As := [.int (nI r), .int 16, .int 19]) (st := []) IG lw_good (cR_rest LR ht2 ht3 R16 R19 (r := r) hr24 (by decide) (by decide) (show 16 ≠ r by omega) (show 19 ≠ r by omega) hMp (by rw [c8 _ (by omega)]; omega)) (ro_M LR) rfl wC_R_rest wL_R_114 wI_R_rest wS_R_rest wX_R 3 (by decide +kernel) rfl ⟨Nat.le_of_ble_eq_true rfl, Nat.le_of_ble_eq_true rfl⟩ ⟨(by dsimp only [rm_]; omega), (by dsimp only [rm_]; omega)⟩ rfl (Nat.le_of_ble_eq_true rfl) dc_R_residue_13 (fun v h k_ n_ hq => ?_)
  obtain ⟨rfl, rfl, rfl, f2, g2, rfl, S2⟩ := hq
  obtain ⟨HP, HX⟩ := rp_up HP HX (show 16 ≤ r by omega) hr24 S2
  have Rr := S2.2.2
  have R19 := rs_row S2 hr24 (show 19 < 24 by decide) (by omega) R19
  have hlt := Nat.mod_lt (X a).natAbs hMp
  have lr : nd 65536 ((X a).natAbs % M) ≤ 4096 := Nat.le_trans (nd_mono b16 (Nat.le_of_lt hlt)) hMl
  show vx_V _ _ _ _ _ _ _ _ _ 16 [(0, .ref (q 0)), (1, .int (nI r)), (2, .int (nI a))] []
  have plain : ∀ (k n : Nat), rdz (X a) M = (X a).natAbs % M → k = 0 → n = 0 → vx_V D vcl A H0 3 G (rH cI cZ q h0 f2 g2 s) k n 42 [(0, .ref (q 0)), (1, .int (nI r)), (2, .int (nI a))] [] := by
    intro k n e hk hn
    subst hk hn
    refine vx_ret none RG (vx_endv dc_R_residue_42) rfl ?_
    refine ⟨rfl, rfl, rfl, f2, g2, _, rfl, HP, HX, ?_, by rw [va_up_self, e]⟩
    rw [va_up_ne _ _ (by omega), va_up_ne _ _ (by decide)]
    exact hM
  refine vx_aload_n IG dc_R_residue_16 rfl 0 rfl ?_
  refine vx_get IG (ro_M LR) rfl 2 (by decide) inR wF_R_17 rfl rfl dc_R_residue_17 ?_
  refine vx_iload_n IG dc_R_residue_20 rfl 2 rfl ?_
  refine rr_zld IG LR ht2 ha (x := sgI (X a)) Ba dc_R_residue_21 ?_
  by_cases y : X a < 0
  · have hz := rdz_dif hMp y
    refine vx_if_eq (tgt := 42) IG dc_R_residue_22 (by decide) (fun c_ => absurd c_ (by rw [sgI_neg y]; decide)) (fun _ => ?_)
    refine vx_aload_n IG dc_R_residue_25 rfl 0 rfl ?_
    refine vx_get IG (ro_M LR) rfl 1 (by decide) inR wF_R_14 rfl rfl dc_R_residue_26 ?_
    refine vx_iload_n IG dc_R_residue_29 rfl 1 rfl ?_
    refine rr_nld IG LR ht3 hr24 (x := nI (nd 65536 ((X a).natAbs % M))) Rr.1 dc_R_residue_30 ?_
    by_cases x : (X a).natAbs % M = 0
    · refine vx_if_le (tgt := 42) IG dc_R_residue_31 (by decide) (fun _ => ?_) (fun c_ => absurd (by rw [x]; decide) c_)
      exact plain _ _ (by rw [hz, if_pos x, x]) rfl rfl
    · have hn1 : 0 < nd 65536 ((X a).natAbs % M) := Nat.pos_of_ne_zero (fun u => x ((nd_eq_zero b16).mp u))
      refine vx_if_le (tgt := 42) IG dc_R_residue_31 (by decide) (fun c_ => absurd c_ (fun u => absurd (nI_lt (a := 0) hn1 (by omega)) (Int32.not_lt.mpr u))) (fun _ => ?_)
      refine vx_aload_n IG dc_R_residue_34 rfl 0 rfl ?_
      refine vx_iload_n IG dc_R_residue_35 rfl 1 rfl ?_
      refine vx_bipush (v := 19) IG dc_R_residue_36 (by decide) ?_
      refine vx_iload_n IG dc_R_residue_38 rfl 1 rfl ?_
      refine vx_callV (As := [.int (nI r), .int 19, .int (nI r)]) (st := []) IG lw_good (cR_lessen LR ht2 ht3 R19 Rr (d := r) hr24 (by decide) hr24 (by rw [c8 _ (by omega)]; omega) (by omega)) (ro_M LR) rfl wC_R_lessen wL_R_57 wI_R_lessen wS_R_lessen wX_R 3 (by decide +kernel) rfl ⟨Nat.le_of_ble_eq_true rfl, Nat.le_of_ble_eq_true rfl⟩ ⟨(by dsimp only [rm_]; omega), (by dsimp only [rm_]; omega)⟩ rfl (Nat.le_of_ble_eq_true rfl) dc_R_residue_39 (fun v h k_ n_ hq => ?_)
      obtain ⟨rfl, rfl, rfl, f3, g3, rfl, S3⟩ := hq
      obtain ⟨HP, HX⟩ := rp_up HP HX (show 16 ≤ r by omega) hr24 S3
      show vx_V _ _ _ _ _ _ _ _ _ 42 [(0, .ref (q 0)), (1, .int (nI r)), (2, .int (nI a))] []
      refine vx_ret none RG (vx_endv dc_R_residue_42) rfl ?_
      refine ⟨rfl, rfl, rfl, f3, g3, _, rfl, HP, HX, ?_, by rw [va_up_self, hz, if_neg x]⟩
      rw [va_up_ne _ _ (by omega), va_up_ne _ _ (by omega), va_up_ne _ _ (by decide)]
      exact hM
  · refine vx_if_eq (tgt := 42) IG dc_R_residue_22 (by decide) (fun _ => ?_) (fun c_ => absurd (sgI_pos y) c_)
    exact plain _ _ (rdz_same y) rfl rfl
set_option maxRecDepth 100000 in
set_option maxHeartbeats 8000000 in
theorem cR_inverted (LR : rlay q h0) (ht2 : tys[2]? = some (cZ, .boolean)) (ht3 : tys[3]? = some (cI, .int)) (HP : rpic f g V) (HX : mreg X V s) (ha : a < 16) (hM : V 19 = M) (hMp : 0 < M) (hMl : nd 65536 M ≤ 4096) : vx_M l D vcl tys my_R_inverted lw_gd (rm_ 5 0 0 125) [.ref (q 0), .int (nI a)] (rH cI cZ q h0 f g s) (fun v h' k n => k = 0 ∧ n = 0 ∧ ∃ f' g' V', h' = rH cI cZ q h0 f' g' s ∧ rpic f' g' V' ∧ mreg X V' s ∧ V' 19 = M ∧ ((v = some (.int 1) ∧ isInv (X a) M (V' 20)) ∨ (v = some (.int 0) ∧ ivO (X a) M = none))) := by
  refine vx_M.ofV (cc := bc_R_inverted) (maxL := 5) (ret := (some .boolean)) (own := rR) false rfl (by decide +kernel) wC_R_inverted (fun q => by cases q) (Nat.le_of_ble_eq_true rfl) (fun A H0 G IG RG => ?_)
  show vx_V _ _ _ _ _ _ _ _ _ 0 [(0, .ref (q 0)), (1, .int (nI a))] []
  have c8 : ∀ r, 16 ≤ r → rcap r = 8200 := fun r hr => rcap_hi hr
  have hrl := rdz_lt (x := X a) hMp
  obtain ⟨b0, eb⟩ : ∃ b0, b0 = rdz (X a) M := ⟨_, rfl⟩
  rw [← eb] at hrl
  have ndM : ∀ {x : Nat}, x ≤ M → nd 65536 x ≤ 4096 := fun hx => Nat.le_trans (nd_mono b16 hx) hMl
  have iod : ∀ (od : Int32) {σ : Int}, (od = 0 ∧ σ = 1) ∨ (od = 1 ∧ σ = -1) → σ = 1 ∨ σ = -1 := fun od σ h => by rcases h with h | h; exact Or.inl h.2; exact Or.inr h.2
  -- behind the loop
  have last : ∀ (x t uu : Nat) (od : Int32) (σ : Int) (k n : Nat) (f g : Nat → Int32) (V : Nat → Nat), rpic f g V → mreg X V s → V 19 = M → V 21 = x → V 22 = t → ((od = 0 ∧ σ = 1) ∨ (od = 1 ∧ σ = -1)) → FI M b0 σ x 0 t uu → 0 < x → x ≤ M → Nat.gcd x 0 = Nat.gcd M b0 → (b0 = 0 → t = 0) → k = 0 → n = 0 → vx_V D vcl A H0 5 G (rH cI cZ q h0 f g s) k n 121 [(4, .int od), (3, .int 23), (2, .int 22), (0, .ref (q 0)), (1, .int (nI a))] [] := by
    intro x t uu od σ k n f g V HP HX h19 h21 h22 hod hFI hx0 hxM hg ht0 hk hn
    subst hk hn
    rw [Nat.gcd_zero_right] at hg
    have R19 := rvN HP (show 19 < 24 by decide) h19
    have R21 := rvN HP (show 21 < 24 by decide) h21
    have lx := ndM hxM
    have none_ : ¬ x = 1 → ivO (X a) M = none := fun e => ivO_none hMp (by rw [← eb, ← hg]; exact e)
    have hdx : nd 65536 x = 1 → dg 65536 x 0 = x := fun e => by
      have := (nd_le b16 (N := x) (c := 1)).mp (by omega)
      unfold dg
      rw [Nat.pow_zero, Nat.div_one, Nat.mod_eq_of_lt this]
    have hdM : nd 65536 M = 1 → dg 65536 M 0 = M := fun e => by
      have := (nd_le b16 (N := M) (c := 1)).mp (by omega)
      unfold dg
      rw [Nat.pow_zero, Nat.div_one, Nat.mod_eq_of_lt this]
    refine vx_aload_n IG dc_R_inverted_121 rfl 3 rfl ?_
    refine vx_get IG (ro_M LR) rfl 1 (by decide) inR wF_R_14 rfl rfl dc_R_inverted_122 ?_
    refine vx_bipush (v := 21) IG dc_R_inverted_125 (by decide) ?_
    refine rr_nld IG LR ht3 (by decide) (x := nI (nd 65536 x)) R21.1 dc_R_inverted_127 ?_
    refine vx_iconst (v := 1) IG dc_R_inverted_128 (by decide) ?_
    by_cases v : nd 65536 x = 1
    · refine vx_icmp_ne (tgt := 146) IG dc_R_inverted_129 (by decide) (fun c_ => absurd (by rw [v]; rfl) c_) (fun _ => ?_)
      refine vx_aload_n IG dc_R_inverted_132 rfl 3 rfl ?_
      refine vx_get IG (ro_M LR) rfl 0 (by decide) inR wF_R_8 rfl rfl dc_R_inverted_133 ?_
      refine vx_bipush (v := 21) IG dc_R_inverted_136 (by decide) ?_
      refine vx_callS (As := [.int 21]) (st := [.ref (q 1)]) IG lw_good (cR_at _ 21 (by decide)) wC_R_at wL_R_22 wT_R_at wX_R 1 (by decide +kernel) rfl ⟨Nat.le_of_ble_eq_true rfl, Nat.le_of_ble_eq_true rfl⟩ ⟨(by dsimp only [rm_]; omega), (by dsimp only [rm_]; omega)⟩ rfl (Nat.le_of_ble_eq_true rfl) dc_R_inverted_138 (fun v h k_ n_ hq => ?_)
      obtain ⟨rfl, rfl, rfl, rfl⟩ := hq
      show vx_V _ _ _ _ _ _ _ _ _ 141 [(4, .int od), (3, .int 23), (2, .int 22), (0, .ref (q 0)), (1, .int (nI a))] [.int (nI (rt 21)), .ref (q 1)]
      have hlt := dg_lt b16 x 0
      rw [hdx v] at hlt
      refine rr_mld IG LR ht3 (rt_lt (by decide)) (x := nI x) (by rw [← hdx v]; exact R21.2.2 0 (by omega)) dc_R_inverted_141 ?_
      refine vx_iconst (v := 1) IG dc_R_inverted_142 (by decide) ?_
      by_cases x1 : x = 1
      · refine vx_icmp_eq (tgt := 148) IG dc_R_inverted_143 (by decide) (fun _ => ?_) (fun c_ => absurd (by rw [x1]; rfl) c_)
        subst x1
        obtain ⟨i1, i2⟩ := inv_fi hMp (iod od hod) (eb ▸ hFI) (fun e => ht0 (eb.trans e))
        have lt := ndM i2
        -- the end
        have fin : ∀ (k n : Nat) (f g : Nat → Int32) (V : Nat → Nat), rpic f g V → mreg X V s → V 19 = M → V 22 = t → k = 0 → n = 0 → vx_V D vcl A H0 5 G (rH cI cZ q h0 f g s) k n 180 [(4, .int od), (3, .int 23), (2, .int 22), (0, .ref (q 0)), (1, .int (nI a))] [] := by
          intro k n f g V HP HX h19 h22 hk hn
          subst hk hn
          have R19 := rvN HP (show 19 < 24 by decide) h19
          have R22 := rvN HP (show 22 < 24 by decide) h22
          have take : ∀ (k n : Nat), ¬ (σ = 1 ∧ ¬ t = 0) → k = 0 → n = 0 → vx_V D vcl A H0 5 G (rH cI cZ q h0 f g s) k n 194 [(4, .int od), (3, .int 23), (2, .int 22), (0, .ref (q 0)), (1, .int (nI a))] [] := by
            intro k n e hk hn
            subst hk hn
            refine vx_aload_n IG dc_R_inverted_194 rfl 3 rfl ?_
            refine vx_bipush (v := 20) IG dc_R_inverted_195 (by decide) ?_
            refine vx_iload_n IG dc_R_inverted_197 rfl 2 rfl ?_
            refine vx_callV (As := [.int 20, .int 22]) (st := []) IG lw_good (cR_move LR ht2 ht3 R22 (d := 20) (by decide) (by decide) (by decide) (by rw [c8 _ (by decide)]; omega)) (ro_M LR) rfl wC_R_move wL_R_64 wI_R_move wS_R_move wX_R 2 (by decide +kernel) rfl ⟨Nat.le_of_ble_eq_true rfl, Nat.le_of_ble_eq_true rfl⟩ ⟨(by dsimp only [rm_]; omega), (by dsimp only [rm_]; omega)⟩ rfl (Nat.le_of_ble_eq_true rfl) dc_R_inverted_198 (fun v h k_ n_ hq => ?_)
            obtain ⟨rfl, rfl, rfl, f7, g7, rfl, S7⟩ := hq
            obtain ⟨HP, HX⟩ := rp_up HP HX (show 16 ≤ 20 by decide) (show 20 < 24 by decide) S7
            show vx_V _ _ _ _ _ _ _ _ _ 201 [(4, .int od), (3, .int 23), (2, .int 22), (0, .ref (q 0)), (1, .int (nI a))] []
            refine vx_goto (tgt := 213) IG dc_R_inverted_201 (by decide) ?_
            refine vx_iconst (v := 1) IG dc_R_inverted_213 (by decide) ?_
            refine vx_ret (some (.int 1)) RG (vx_endi (by first | rfl | decide) dc_R_inverted_214) rfl ?_
            rw [if_neg e] at i1
            exact ⟨rfl, rfl, f7, g7, _, rfl, HP, HX, h19, Or.inl ⟨rfl, i1⟩⟩
          refine vx_iload IG dc_R_inverted_180 0 rfl ?_
          rcases hod with ⟨o1, o2⟩ | ⟨o1, o2⟩
          · refine vx_if_ne (tgt := 194) IG dc_R_inverted_182 (by decide) (fun c_ => absurd o1 c_) (fun _ => ?_)
            refine vx_aload_n IG dc_R_inverted_185 rfl 3 rfl ?_
            refine vx_get IG (ro_M LR) rfl 1 (by decide) inR wF_R_14 rfl rfl dc_R_inverted_186 ?_
            refine vx_iload_n IG dc_R_inverted_189 rfl 2 rfl ?_
            refine rr_nld IG LR ht3 (by decide) (x := nI (nd 65536 t)) R22.1 dc_R_inverted_190 ?_
            by_cases e : t = 0
            · refine vx_if_ne (tgt := 204) IG dc_R_inverted_191 (by decide) (fun c_ => absurd (by rw [e]; rfl) c_) (fun _ => ?_)
              exact take _ _ (fun c => c.2 e) rfl rfl
            · have hn0 : nd 65536 t ≠ 0 := fun c => e ((nd_eq_zero b16).mp c)
              refine vx_if_ne (tgt := 204) IG dc_R_inverted_191 (by decide) (fun _ => ?_) (fun c_ => absurd c_ (nI_ne (by omega) (b := 0) (by decide) hn0))
              refine vx_aload_n IG dc_R_inverted_204 rfl 3 rfl ?_
              refine vx_bipush (v := 20) IG dc_R_inverted_205 (by decide) ?_
              refine vx_bipush (v := 19) IG dc_R_inverted_207 (by decide) ?_
              refine vx_iload_n IG dc_R_inverted_209 rfl 2 rfl ?_
              refine vx_callV (As := [.int 20, .int 19, .int 22]) (st := []) IG lw_good (cR_lessen LR ht2 ht3 R19 R22 (d := 20) (by decide) (by decide) (by decide) (by rw [c8 _ (by decide)]; omega) i2) (ro_M LR) rfl wC_R_lessen wL_R_57 wI_R_lessen wS_R_lessen wX_R 3 (by decide +kernel) rfl ⟨Nat.le_of_ble_eq_true rfl, Nat.le_of_ble_eq_true rfl⟩ ⟨(by dsimp only [rm_]; omega), (by dsimp only [rm_]; omega)⟩ rfl (Nat.le_of_ble_eq_true rfl) dc_R_inverted_210 (fun v h k_ n_ hq => ?_)
              obtain ⟨rfl, rfl, rfl, f8, g8, rfl, S8⟩ := hq
              obtain ⟨HP, HX⟩ := rp_up HP HX (show 16 ≤ 20 by decide) (show 20 < 24 by decide) S8
              show vx_V _ _ _ _ _ _ _ _ _ 213 [(4, .int od), (3, .int 23), (2, .int 22), (0, .ref (q 0)), (1, .int (nI a))] []
              refine vx_iconst (v := 1) IG dc_R_inverted_213 (by decide) ?_
              refine vx_ret (some (.int 1)) RG (vx_endi (by first | rfl | decide) dc_R_inverted_214) rfl ?_
              rw [if_pos ⟨o2, e⟩] at i1
              exact ⟨rfl, rfl, f8, g8, _, rfl, HP, HX, h19, Or.inl ⟨rfl, i1⟩⟩
          · refine vx_if_ne (tgt := 194) IG dc_R_inverted_182 (by decide) (fun _ => ?_) (fun c_ => absurd c_ (by rw [o1]; decide))
            exact take _ _ (fun c => by rw [o2] at c; exact absurd c.1 (by decide)) rfl rfl
        refine vx_aload_n IG dc_R_inverted_148 rfl 3 rfl ?_
        refine vx_get IG (ro_M LR) rfl 1 (by decide) inR wF_R_14 rfl rfl dc_R_inverted_149 ?_
        refine vx_bipush (v := 19) IG dc_R_inverted_152 (by decide) ?_
        refine rr_nld IG LR ht3 (by decide) (x := nI (nd 65536 M)) R19.1 dc_R_inverted_154 ?_
        refine vx_iconst (v := 1) IG dc_R_inverted_155 (by decide) ?_
        by_cases m1 : nd 65536 M = 1
        · refine vx_icmp_ne (tgt := 180) IG dc_R_inverted_156 (by decide) (fun c_ => absurd (by rw [m1]; rfl) c_) (fun _ => ?_)
          refine vx_aload_n IG dc_R_inverted_159 rfl 3 rfl ?_
          refine vx_get IG (ro_M LR) rfl 0 (by decide) inR wF_R_8 rfl rfl dc_R_inverted_160 ?_
          refine vx_bipush (v := 19) IG dc_R_inverted_163 (by decide) ?_
          refine vx_callS (As := [.int 19]) (st := [.ref (q 1)]) IG lw_good (cR_at _ 19 (by decide)) wC_R_at wL_R_22 wT_R_at wX_R 1 (by decide +kernel) rfl ⟨Nat.le_of_ble_eq_true rfl, Nat.le_of_ble_eq_true rfl⟩ ⟨(by dsimp only [rm_]; omega), (by dsimp only [rm_]; omega)⟩ rfl (Nat.le_of_ble_eq_true rfl) dc_R_inverted_165 (fun v h k_ n_ hq => ?_)
          obtain ⟨rfl, rfl, rfl, rfl⟩ := hq
          show vx_V _ _ _ _ _ _ _ _ _ 168 [(4, .int od), (3, .int 23), (2, .int 22), (0, .ref (q 0)), (1, .int (nI a))] [.int (nI (rt 19)), .ref (q 1)]
          have hlM := dg_lt b16 M 0
          rw [hdM m1] at hlM
          refine rr_mld IG LR ht3 (rt_lt (by decide)) (x := nI M) (by rw [← hdM m1]; exact R19.2.2 0 (by omega)) dc_R_inverted_168 ?_
          refine vx_iconst (v := 1) IG dc_R_inverted_169 (by decide) ?_
          by_cases e1 : M = 1
          · refine vx_icmp_ne (tgt := 180) IG dc_R_inverted_170 (by decide) (fun c_ => absurd (by rw [e1]; rfl) c_) (fun _ => ?_)
            refine vx_aload_n IG dc_R_inverted_173 rfl 3 rfl ?_
            refine vx_get IG (ro_M LR) rfl 1 (by decide) inR wF_R_14 rfl rfl dc_R_inverted_174 ?_
            refine vx_iload_n IG dc_R_inverted_177 rfl 2 rfl ?_
            refine vx_iconst (v := 0) IG dc_R_inverted_178 (by decide) ?_
            refine rr_nst IG LR ht3 (by decide) (g' := upd g 22 (nI 0)) rfl dc_R_inverted_179 ?_
            have t0 : t = 0 := ht0 (by omega)
            have HP2 : rpic f (upd g 22 (nI 0)) V := fun r hr => by
              by_cases e : r = 22
              · rw [e, h22, t0]
                exact ⟨if_pos rfl, Nat.zero_le _, fun k hk => absurd hk (Nat.not_lt_zero k)⟩
              · exact rk_rv (rk_g (d := 22)) hr e (HP r hr)
            exact fin _ _ f _ V HP2 HX h19 h22 rfl rfl
          · refine vx_icmp_ne (tgt := 180) IG dc_R_inverted_170 (by decide) (fun _ => ?_) (fun c_ => absurd c_ (nI_ne (by omega) (b := 1) (by decide) e1))
            exact fin _ _ f g V HP HX h19 h22 rfl rfl
        · refine vx_icmp_ne (tgt := 180) IG dc_R_inverted_156 (by decide) (fun _ => ?_) (fun c_ => absurd c_ (nI_ne (by omega) (b := 1) (by decide) m1))
          exact fin _ _ f g V HP HX h19 h22 rfl rfl
      · refine vx_icmp_eq (tgt := 148) IG dc_R_inverted_143 (by decide) (fun c_ => absurd c_ (nI_ne (by omega) (b := 1) (by decide) x1)) (fun _ => ?_)
        refine vx_iconst (v := 0) IG dc_R_inverted_146 (by decide) ?_
        refine vx_ret (some (.int 0)) RG (vx_endi (by first | rfl | decide) dc_R_inverted_147) rfl ?_
        exact ⟨rfl, rfl, f, g, V, rfl, HP, HX, h19, Or.inr ⟨rfl, none_ x1⟩⟩
    · refine vx_icmp_ne (tgt := 146) IG dc_R_inverted_129 (by decide) (fun _ => ?_) (fun c_ => absurd c_ (nI_ne (by omega) (b := 1) (by decide) v))
      refine vx_iconst (v := 0) IG dc_R_inverted_146 (by decide) ?_
      refine vx_ret (some (.int 0)) RG (vx_endi (by first | rfl | decide) dc_R_inverted_147) rfl ?_
      exact ⟨rfl, rfl, f, g, V, rfl, HP, HX, h19, Or.inr ⟨rfl, none_ (fun e => v (by rw [e]; rfl))⟩⟩
  have loop : ∀ (m x y t uu : Nat) (od : Int32) (σ : Int) (k n : Nat) (f g : Nat → Int32) (V : Nat → Nat), y ≤ m → rpic f g V → mreg X V s → V 19 = M → V 21 = x → V 18 = y → V 22 = t → V 23 = uu → ((od = 0 ∧ σ = 1) ∨ (od = 1 ∧ σ = -1)) → FI M b0 σ x y t uu → 0 < x → x ≤ M → y ≤ x → Nat.gcd x y = Nat.gcd M b0 → (b0 = 0 → y = 0 ∧ t = 0) → k = 0 → n = 0 → vx_V D vcl A H0 5 G (rH cI cZ q h0 f g s) k n 37 [(4, .int od), (3, .int 23), (2, .int 22), (0, .ref (q 0)), (1, .int (nI a))] [] := by
    intro m
    induction m with
    | zero =>
      intro x y t uu od σ k n f g V hm HP HX h19 h21 h18 h22 h23 hod hFI hx0 hxM hyx hg hb hk hn
      subst hk hn
      obtain rfl : y = 0 := by omega
      have R18 := rvN HP (show 18 < 24 by decide) h18
      refine vx_aload_n IG dc_R_inverted_37 rfl 3 rfl ?_
      refine vx_get IG (ro_M LR) rfl 1 (by decide) inR wF_R_14 rfl rfl dc_R_inverted_38 ?_
      refine vx_bipush (v := 18) IG dc_R_inverted_41 (by decide) ?_
      refine rr_nld IG LR ht3 (by decide) (x := nI 0) R18.1 dc_R_inverted_43 ?_
      refine vx_if_le (tgt := 121) IG dc_R_inverted_44 (by decide) (fun _ => ?_) (fun c_ => absurd (by decide) c_)
      exact last x t uu od σ _ _ f g V HP HX h19 h21 h22 hod hFI hx0 hxM hg (fun e => (hb e).2) rfl rfl
    | succ m ih =>
      intro x y t uu od σ k n f g V hm HP HX h19 h21 h18 h22 h23 hod hFI hx0 hxM hyx hg hb hk hn
      subst hk hn
      have R18 := rvN HP (show 18 < 24 by decide) h18
      have R21 := rvN HP (show 21 < 24 by decide) h21
      have lx := ndM hxM
      have ly := ndM (Nat.le_trans hyx hxM)
      refine vx_aload_n IG dc_R_inverted_37 rfl 3 rfl ?_
      refine vx_get IG (ro_M LR) rfl 1 (by decide) inR wF_R_14 rfl rfl dc_R_inverted_38 ?_
      refine vx_bipush (v := 18) IG dc_R_inverted_41 (by decide) ?_
      refine rr_nld IG LR ht3 (by decide) (x := nI (nd 65536 y)) R18.1 dc_R_inverted_43 ?_
      by_cases hy : y = 0
      · refine vx_if_le (tgt := 121) IG dc_R_inverted_44 (by decide) (fun _ => ?_) (fun c_ => absurd (by rw [hy]; decide) c_)
        subst hy
        exact last x t uu od σ _ _ f g V HP HX h19 h21 h22 hod hFI hx0 hxM hg (fun e => (hb e).2) rfl rfl
      · have hyp := Nat.pos_of_ne_zero hy
        have hn0 : 0 < nd 65536 y := Nat.pos_of_ne_zero (fun u => hy ((nd_eq_zero b16).mp u))
        have hFI2 := FI_step hFI hyp hyx
        obtain ⟨b1, b2⟩ := FI_le hFI2 hyp
        obtain ⟨b3, b4⟩ := FI_le hFI hx0
        have hlt := Nat.mod_lt x hyp
        have lr := ndM (show x % y ≤ M by omega)
        have lq := ndM (show x / y ≤ M from Nat.le_trans (Nat.div_le_self _ _) hxM)
        have lu := ndM b3
        have lt := ndM b4
        have lp := ndM (show x / y * uu ≤ M by omega)
        refine vx_if_le (tgt := 121) IG dc_R_inverted_44 (by decide) (fun c_ => absurd c_ (fun u => absurd (nI_lt (a := 0) (b := nd 65536 y) hn0 (by omega)) (Int32.not_lt.mpr u))) (fun _ => ?_)
        refine vx_aload_n IG dc_R_inverted_47 rfl 3 rfl ?_
        refine vx_bipush (v := 16) IG dc_R_inverted_48 (by decide) ?_
        refine vx_bipush (v := 17) IG dc_R_inverted_50 (by decide) ?_
        refine vx_bipush (v := 21) IG dc_R_inverted_52 (by decide) ?_
        refine vx_bipush (v := 18) IG dc_R_inverted_54 (by decide) ?_
        refine vx_callV (As := [.int 16, .int 17, .int 21, .int 18]) (st := []) IG lw_good (cR_quotient LR ht2 ht3 R21 R18 (u := 16) (r := 17) (by decide) (by decide) (by decide) (by decide) (by decide) (by decide) (by decide) (by decide) (by decide) hyp (by rw [c8 _ (by decide)]; omega) (by omega) (by rw [c8 _ (by decide)]; omega) (by rw [c8 _ (by decide)]; omega)) (ro_M LR) rfl wC_R_quotient wL_R_89 wI_R_quotient wS_R_quotient wX_R 4 (by decide +kernel) rfl ⟨Nat.le_of_ble_eq_true rfl, Nat.le_of_ble_eq_true rfl⟩ ⟨(by dsimp only [rm_]; omega), (by dsimp only [rm_]; omega)⟩ rfl (Nat.le_of_ble_eq_true rfl) dc_R_inverted_56 (fun v h k_ n_ hq => ?_)
        obtain ⟨rfl, rfl, rfl, f1, g1, rfl, K1, Q1, R1⟩ := hq
        have HP := rp_2 HP K1 Q1 R1 (by decide)
        have HX : mreg X (va_up (va_up V 16 (x / y)) 17 (x % y)) s := mreg_up (mreg_up HX (by decide)) (by decide)
        have R18 : rv f1 g1 18 y := rvN HP (show 18 < 24 by decide) h18
        show vx_V _ _ _ _ _ _ _ _ _ 59 [(4, .int od), (3, .int 23), (2, .int 22), (0, .ref (q 0)), (1, .int (nI a))] []
        refine vx_aload_n IG dc_R_inverted_59 rfl 3 rfl ?_
        refine vx_bipush (v := 21) IG dc_R_inverted_60 (by decide) ?_
        refine vx_bipush (v := 18) IG dc_R_inverted_62 (by decide) ?_
        refine vx_callV (As := [.int 21, .int 18]) (st := []) IG lw_good (cR_move LR ht2 ht3 R18 (d := 21) (by decide) (by decide) (by decide) (by rw [c8 _ (by decide)]; omega)) (ro_M LR) rfl wC_R_move wL_R_64 wI_R_move wS_R_move wX_R 2 (by decide +kernel) rfl ⟨Nat.le_of_ble_eq_true rfl, Nat.le_of_ble_eq_true rfl⟩ ⟨(by dsimp only [rm_]; omega), (by dsimp only [rm_]; omega)⟩ rfl (Nat.le_of_ble_eq_true rfl) dc_R_inverted_64 (fun v h k_ n_ hq => ?_)
        obtain ⟨rfl, rfl, rfl, f2, g2, rfl, S2⟩ := hq
        obtain ⟨HP, HX⟩ := rp_up HP HX (show 16 ≤ 21 by decide) (show 21 < 24 by decide) S2
        show vx_V _ _ _ _ _ _ _ _ _ 67 [(4, .int od), (3, .int 23), (2, .int 22), (0, .ref (q 0)), (1, .int (nI a))] []
        have R17 : rv f2 g2 17 (x % y) := rvN HP (show 17 < 24 by decide) rfl
        refine vx_aload_n IG dc_R_inverted_67 rfl 3 rfl ?_
        refine vx_bipush (v := 18) IG dc_R_inverted_68 (by decide) ?_
        refine vx_bipush (v := 17) IG dc_R_inverted_70 (by decide) ?_
        refine vx_callV (As := [.int 18, .int 17]) (st := []) IG lw_good (cR_move LR ht2 ht3 R17 (d := 18) (by decide) (by decide) (by decide) (by rw [c8 _ (by decide)]; omega)) (ro_M LR) rfl wC_R_move wL_R_64 wI_R_move wS_R_move wX_R 2 (by decide +kernel) rfl ⟨Nat.le_of_ble_eq_true rfl, Nat.le_of_ble_eq_true rfl⟩ ⟨(by dsimp only [rm_]; omega), (by dsimp only [rm_]; omega)⟩ rfl (Nat.le_of_ble_eq_true rfl) dc_R_inverted_72 (fun v h k_ n_ hq => ?_)
        obtain ⟨rfl, rfl, rfl, f3, g3, rfl, S3⟩ := hq
        obtain ⟨HP, HX⟩ := rp_up HP HX (show 16 ≤ 18 by decide) (show 18 < 24 by decide) S3
        show vx_V _ _ _ _ _ _ _ _ _ 75 [(4, .int od), (3, .int 23), (2, .int 22), (0, .ref (q 0)), (1, .int (nI a))] []
        have R16 : rv f3 g3 16 (x / y) := rvN HP (show 16 < 24 by decide) rfl
        have R23 : rv f3 g3 23 uu := rvN HP (show 23 < 24 by decide) h23
        refine vx_aload_n IG dc_R_inverted_75 rfl 3 rfl ?_
        refine vx_bipush (v := 17) IG dc_R_inverted_76 (by decide) ?_
        refine vx_bipush (v := 16) IG dc_R_inverted_78 (by decide) ?_
        refine vx_iload_n IG dc_R_inverted_80 rfl 1 rfl ?_
        refine vx_callV (As := [.int 17, .int 16, .int 23]) (st := []) IG lw_good (cR_product LR ht2 ht3 R16 R23 (d := 17) (by decide) (by decide) (by decide) (by decide) (by decide) (by rw [c8 _ (by decide)]; omega)) (ro_M LR) rfl wC_R_product wL_R_86 wI_R_product wS_R_product wX_R 3 (by decide +kernel) rfl ⟨Nat.le_of_ble_eq_true rfl, Nat.le_of_ble_eq_true rfl⟩ ⟨(by dsimp only [rm_]; omega), (by dsimp only [rm_]; omega)⟩ rfl (Nat.le_of_ble_eq_true rfl) dc_R_inverted_81 (fun v h k_ n_ hq => ?_)
        obtain ⟨rfl, rfl, rfl, f4, g4, rfl, S4⟩ := hq
        obtain ⟨HP, HX⟩ := rp_up HP HX (show 16 ≤ 17 by decide) (show 17 < 24 by decide) S4
        show vx_V _ _ _ _ _ _ _ _ _ 84 [(4, .int od), (3, .int 23), (2, .int 22), (0, .ref (q 0)), (1, .int (nI a))] []
        have R17 : rv f4 g4 17 (x / y * uu) := rvN HP (show 17 < 24 by decide) rfl
        have R22 : rv f4 g4 22 t := rvN HP (show 22 < 24 by decide) h22
        refine vx_aload_n IG dc_R_inverted_84 rfl 3 rfl ?_
        refine vx_bipush (v := 17) IG dc_R_inverted_85 (by decide) ?_
        refine vx_bipush (v := 17) IG dc_R_inverted_87 (by decide) ?_
        refine vx_iload_n IG dc_R_inverted_89 rfl 2 rfl ?_
        refine vx_callV (As := [.int 17, .int 17, .int 22]) (st := []) IG lw_good (cR_sum LR ht2 ht3 R17 R22 (d := 17) (by decide) (by decide) (by decide) (by rw [c8 _ (by decide)]; omega) (by rw [c8 _ (by decide)]; omega)) (ro_M LR) rfl wC_R_sum wL_R_79 wI_R_sum wS_R_sum wX_R 3 (by decide +kernel) rfl ⟨Nat.le_of_ble_eq_true rfl, Nat.le_of_ble_eq_true rfl⟩ ⟨(by dsimp only [rm_]; omega), (by dsimp only [rm_]; omega)⟩ rfl (Nat.le_of_ble_eq_true rfl) dc_R_inverted_90 (fun v h k_ n_ hq => ?_)
        obtain ⟨rfl, rfl, rfl, f5, g5, rfl, S5⟩ := hq
        obtain ⟨HP, HX⟩ := rp_up HP HX (show 16 ≤ 17 by decide) (show 17 < 24 by decide) S5
        show vx_V _ _ _ _ _ _ _ _ _ 93 [(4, .int od), (3, .int 23), (2, .int 22), (0, .ref (q 0)), (1, .int (nI a))] []
        have R23 : rv f5 g5 23 uu := rvN HP (show 23 < 24 by decide) h23
        refine vx_aload_n IG dc_R_inverted_93 rfl 3 rfl ?_
        refine vx_iload_n IG dc_R_inverted_94 rfl 2 rfl ?_
        refine vx_iload_n IG dc_R_inverted_95 rfl 1 rfl ?_
        refine vx_callV (As := [.int 22, .int 23]) (st := []) IG lw_good (cR_move LR ht2 ht3 R23 (d := 22) (by decide) (by decide) (by decide) (by rw [c8 _ (by decide)]; omega)) (ro_M LR) rfl wC_R_move wL_R_64 wI_R_move wS_R_move wX_R 2 (by decide +kernel) rfl ⟨Nat.le_of_ble_eq_true rfl, Nat.le_of_ble_eq_true rfl⟩ ⟨(by dsimp only [rm_]; omega), (by dsimp only [rm_]; omega)⟩ rfl (Nat.le_of_ble_eq_true rfl) dc_R_inverted_96 (fun v h k_ n_ hq => ?_)
        obtain ⟨rfl, rfl, rfl, f6, g6, rfl, S6⟩ := hq
        obtain ⟨HP, HX⟩ := rp_up HP HX (show 16 ≤ 22 by decide) (show 22 < 24 by decide) S6
        show vx_V _ _ _ _ _ _ _ _ _ 99 [(4, .int od), (3, .int 23), (2, .int 22), (0, .ref (q 0)), (1, .int (nI a))] []
        have R17 : rv f6 g6 17 (x / y * uu + t) := rvN HP (show 17 < 24 by decide) rfl
        have lnu := ndM b1
        refine vx_aload_n IG dc_R_inverted_99 rfl 3 rfl ?_
        refine vx_iload_n IG dc_R_inverted_100 rfl 1 rfl ?_
        refine vx_bipush (v := 17) IG dc_R_inverted_101 (by decide) ?_
        refine vx_callV (As := [.int 23, .int 17]) (st := []) IG lw_good (cR_move LR ht2 ht3 R17 (d := 23) (by decide) (by decide) (by decide) (by rw [c8 _ (by decide)]; omega)) (ro_M LR) rfl wC_R_move wL_R_64 wI_R_move wS_R_move wX_R 2 (by decide +kernel) rfl ⟨Nat.le_of_ble_eq_true rfl, Nat.le_of_ble_eq_true rfl⟩ ⟨(by dsimp only [rm_]; omega), (by dsimp only [rm_]; omega)⟩ rfl (Nat.le_of_ble_eq_true rfl) dc_R_inverted_103 (fun v h k_ n_ hq => ?_)
        obtain ⟨rfl, rfl, rfl, f7, g7, rfl, S7⟩ := hq
        obtain ⟨HP, HX⟩ := rp_up HP HX (show 16 ≤ 23 by decide) (show 23 < 24 by decide) S7
        show vx_V _ _ _ _ _ _ _ _ _ 106 [(4, .int od), (3, .int 23), (2, .int 22), (0, .ref (q 0)), (1, .int (nI a))] []
        refine vx_iload IG dc_R_inverted_106 0 rfl ?_
        have hgg : Nat.gcd y (x % y) = Nat.gcd M b0 := by rw [← hg, Nat.gcd_comm x y, Nat.gcd_rec y x, Nat.gcd_comm]
        rcases hod with ⟨o1, o2⟩ | ⟨o1, o2⟩
        · refine vx_if_ne (tgt := 115) IG dc_R_inverted_108 (by decide) (fun c_ => absurd o1 c_) (fun _ => ?_)
          refine vx_iconst (v := 1) IG dc_R_inverted_111 (by decide) ?_
          refine vx_goto (tgt := 116) IG dc_R_inverted_112 (by decide) ?_
          refine vx_istore (lv' := [(4, .int 1), (3, .int 23), (2, .int 22), (0, .ref (q 0)), (1, .int (nI a))]) IG dc_R_inverted_116 (by decide) rfl ?_
          refine vx_goto (tgt := 37) IG dc_R_inverted_118 (by decide) ?_
          refine vx_same (lv' := [(4, .int 1), (3, .int 23), (2, .int 22), (0, .ref (q 0)), (1, .int (nI a))]) IG [0, 1, 2, 3, 4] rfl ?_
          exact ih y (x % y) uu _ 1 (-σ) _ _ f7 g7 _ (by omega) HP HX h19 rfl rfl rfl rfl (Or.inr ⟨rfl, by rw [o2]⟩) hFI2 hyp (by omega) (by omega) hgg (fun e => absurd (hb e).1 hy) rfl rfl
        · refine vx_if_ne (tgt := 115) IG dc_R_inverted_108 (by decide) (fun _ => ?_) (fun c_ => absurd c_ (by rw [o1]; decide))
          refine vx_iconst (v := 0) IG dc_R_inverted_115 (by decide) ?_
          refine vx_istore (lv' := [(4, .int 0), (3, .int 23), (2, .int 22), (0, .ref (q 0)), (1, .int (nI a))]) IG dc_R_inverted_116 (by decide) rfl ?_
          refine vx_goto (tgt := 37) IG dc_R_inverted_118 (by decide) ?_
          refine vx_same (lv' := [(4, .int 0), (3, .int 23), (2, .int 22), (0, .ref (q 0)), (1, .int (nI a))]) IG [0, 1, 2, 3, 4] rfl ?_
          exact ih y (x % y) uu _ 0 (-σ) _ _ f7 g7 _ (by omega) HP HX h19 rfl rfl rfl rfl (Or.inl ⟨rfl, by rw [o2]; rfl⟩) hFI2 hyp (by omega) (by omega) hgg (fun e => absurd (hb e).1 hy) rfl rfl
  refine vx_aload_n IG dc_R_inverted_0 rfl 0 rfl ?_
  refine vx_bipush (v := 18) IG dc_R_inverted_1 (by decide) ?_
  refine vx_iload_n IG dc_R_inverted_3 rfl 1 rfl ?_
  refine vx_callV (As := [.int 18, .int (nI a)]) (st := []) IG lw_good (cR_residue LR ht2 ht3 HP HX (r := 18) (Or.inl rfl) ha hM hMp hMl) (ro_M LR) rfl wC_R_residue wL_R_111 wI_R_residue wS_R_residue wX_R 2 (by decide +kernel) rfl ⟨Nat.le_of_ble_eq_true rfl, Nat.le_of_ble_eq_true rfl⟩ ⟨(by dsimp only [rm_]; omega), (by dsimp only [rm_]; omega)⟩ rfl (Nat.le_of_ble_eq_true rfl) dc_R_inverted_4 (fun v h k_ n_ hq => ?_)
  obtain ⟨rfl, rfl, rfl, f1, g1, V1, rfl, HP, HX, m1, v1⟩ := hq
  rw [← eb] at v1
  have R19 := rvN HP (show 19 < 24 by decide) m1
  show vx_V _ _ _ _ _ _ _ _ _ 7 [(0, .ref (q 0)), (1, .int (nI a))] []
  refine vx_aload_n IG dc_R_inverted_7 rfl 0 rfl ?_
  refine vx_bipush (v := 21) IG dc_R_inverted_8 (by decide) ?_
  refine vx_bipush (v := 19) IG dc_R_inverted_10 (by decide) ?_
  refine vx_callV (As := [.int 21, .int 19]) (st := []) IG lw_good (cR_move LR ht2 ht3 R19 (d := 21) (by decide) (by decide) (by decide) (by rw [c8 _ (by decide)]; omega)) (ro_M LR) rfl wC_R_move wL_R_64 wI_R_move wS_R_move wX_R 2 (by decide +kernel) rfl ⟨Nat.le_of_ble_eq_true rfl, Nat.le_of_ble_eq_true rfl⟩ ⟨(by dsimp only [rm_]; omega), (by dsimp only [rm_]; omega)⟩ rfl (Nat.le_of_ble_eq_true rfl) dc_R_inverted_12 (fun v h k_ n_ hq => ?_)
  obtain ⟨rfl, rfl, rfl, f2, g2, rfl, S2⟩ := hq
  obtain ⟨HP, HX⟩ := rp_up HP HX (show 16 ≤ 21 by decide) (show 21 < 24 by decide) S2
  show vx_V _ _ _ _ _ _ _ _ _ 15 [(0, .ref (q 0)), (1, .int (nI a))] []
  refine vx_bipush (v := 22) IG dc_R_inverted_15 (by decide) ?_
  refine vx_istore_n (lv' := [(2, .int 22), (0, .ref (q 0)), (1, .int (nI a))]) IG dc_R_inverted_17 rfl (by decide) rfl ?_
  refine vx_bipush (v := 23) IG dc_R_inverted_18 (by decide) ?_
  refine vx_istore_n (lv' := [(3, .int 23), (2, .int 22), (0, .ref (q 0)), (1, .int (nI a))]) IG dc_R_inverted_20 rfl (by decide) rfl ?_
  refine vx_aload_n IG dc_R_inverted_21 rfl 2 rfl ?_
  refine vx_get IG (ro_M LR) rfl 1 (by decide) inR wF_R_14 rfl rfl dc_R_inverted_22 ?_
  refine vx_iload_n IG dc_R_inverted_25 rfl 1 rfl ?_
  refine vx_iconst (v := 0) IG dc_R_inverted_26 (by decide) ?_
  refine rr_nst IG LR ht3 (by decide) (g' := upd g2 22 (nI 0)) rfl dc_R_inverted_27 ?_
  have S0 : rset f2 g2 22 0 f2 (upd g2 22 (nI 0)) := ⟨fun _ _ => rfl, rfl, if_pos rfl, Nat.zero_le _, fun k hk => absurd hk (Nat.not_lt_zero k)⟩
  obtain ⟨HP, HX⟩ := rp_up HP HX (show 16 ≤ 22 by decide) (show 22 < 24 by decide) S0
  refine vx_aload_n IG dc_R_inverted_28 rfl 2 rfl ?_
  refine vx_iload_n IG dc_R_inverted_29 rfl 0 rfl ?_
  refine vx_lconst (v := 1) IG dc_R_inverted_30 (by decide) ?_
  refine vx_callV (As := [.int 23, .long 1]) (st := []) IG lw_good (cR_set LR ht2 ht3 (d := 23) (b := 1) (by decide) (by decide)) (ro_M LR) rfl wC_R_set wL_R_71 wI_R_set wS_R_set wX_R 2 (by decide +kernel) rfl ⟨Nat.le_of_ble_eq_true rfl, Nat.le_of_ble_eq_true rfl⟩ ⟨(by dsimp only [rm_]; omega), (by dsimp only [rm_]; omega)⟩ rfl (Nat.le_of_ble_eq_true rfl) dc_R_inverted_31 (fun v h k_ n_ hq => ?_)
  obtain ⟨rfl, rfl, rfl, f3, g3, rfl, S3⟩ := hq
  obtain ⟨HP, HX⟩ := rp_up HP HX (show 16 ≤ 23 by decide) (show 23 < 24 by decide) S3
  show vx_V _ _ _ _ _ _ _ _ _ 34 [(3, .int 23), (2, .int 22), (0, .ref (q 0)), (1, .int (nI a))] []
  refine vx_iconst (v := 0) IG dc_R_inverted_34 (by decide) ?_
  refine vx_istore (lv' := [(4, .int 0), (3, .int 23), (2, .int 22), (0, .ref (q 0)), (1, .int (nI a))]) IG dc_R_inverted_35 (by decide) rfl ?_
  exact loop _ M b0 0 1 0 1 _ _ f3 g3 _ (Nat.le_refl _) HP HX m1 rfl v1 rfl rfl (Or.inl ⟨rfl, rfl⟩) FI_0 hMp (Nat.le_refl _) (by omega) rfl (fun e => ⟨e, rfl⟩) rfl rfl
set_option maxRecDepth 100000 in
set_option maxHeartbeats 8000000 in
theorem cR_inverse (LR : rlay q h0) (ht2 : tys[2]? = some (cZ, .boolean)) (ht3 : tys[3]? = some (cI, .int)) (HP : rpic f g V) (HX : mreg X V s) (r1 r2 r3 : Int32) : vx_M l D vcl tys my_R_inverse lw_gd (rm_ 6 0 0 149) [.ref (q 0), .int r1, .int r2, .int r3] (rH cI cZ q h0 f g s) (rpub cI cZ q h0 (sp3 0 X (ivF X) r1 r2 r3).2 (sp3 0 X (ivF X) r1 r2 r3).1) := by
  refine vx_M.ofV (cc := bc_R_inverse) (maxL := 4) (ret := (some .boolean)) (own := rR) false rfl (by decide +kernel) wC_R_inverse (fun q => by cases q) (Nat.le_of_ble_eq_true rfl) (fun A H0 G IG RG => ?_)
  show vx_V _ _ _ _ _ _ _ _ _ 0 [(0, .ref (q 0)), (1, .int r1), (2, .int r2), (3, .int r3)] []
  refine vx_iload_n IG dc_R_inverse_0 rfl 1 rfl ?_
  refine vx_callS (As := [.int r1]) (st := []) IG lw_good (cR_is _ r1) wC_R_is wL_R_67 wT_R_is wX_R 1 (by decide +kernel) rfl ⟨Nat.le_of_ble_eq_true rfl, Nat.le_of_ble_eq_true rfl⟩ ⟨(by dsimp only [rm_]; omega), (by dsimp only [rm_]; omega)⟩ rfl (Nat.le_of_ble_eq_true rfl) dc_R_inverse_1 (fun v h k_ n_ hq => ?_)
  obtain ⟨rfl, rfl, rfl, rfl⟩ := hq
  show vx_V _ _ _ _ _ _ _ _ _ 4 [(0, .ref (q 0)), (1, .int r1), (2, .int r2), (3, .int r3)] [.int (if isR r1 then 1 else 0)]
  by_cases z0 : ¬ isR r1
  · refine vx_topi (y := 0) (if_neg z0) ?_
    refine vx_if_eq (tgt := 39) IG dc_R_inverse_4 (by decide) (fun _ => ?_) (fun c_ => absurd rfl c_)
    refine vx_iconst (v := 0) IG dc_R_inverse_39 (by decide) ?_
    refine vx_ret (some (.int 0)) RG (vx_endi (by first | rfl | decide) dc_R_inverse_40) rfl ?_
    rw [sp3_no (fun e => z0 e.1)]
    exact ⟨rfl, rfl, rfl, f, g, s, V, rfl, HP, HX⟩
  replace z0 := Decidable.not_not.mp z0
  refine vx_topi (y := 1) (if_pos z0) ?_
  refine vx_if_eq (tgt := 39) IG dc_R_inverse_4 (by decide) (fun c_ => absurd c_ (by decide)) (fun _ => ?_)
  refine vx_iload_n IG dc_R_inverse_7 rfl 2 rfl ?_
  refine vx_callS (As := [.int r2]) (st := []) IG lw_good (cR_is _ r2) wC_R_is wL_R_67 wT_R_is wX_R 1 (by decide +kernel) rfl ⟨Nat.le_of_ble_eq_true rfl, Nat.le_of_ble_eq_true rfl⟩ ⟨(by dsimp only [rm_]; omega), (by dsimp only [rm_]; omega)⟩ rfl (Nat.le_of_ble_eq_true rfl) dc_R_inverse_8 (fun v h k_ n_ hq => ?_)
  obtain ⟨rfl, rfl, rfl, rfl⟩ := hq
  show vx_V _ _ _ _ _ _ _ _ _ 11 [(0, .ref (q 0)), (1, .int r1), (2, .int r2), (3, .int r3)] [.int (if isR r2 then 1 else 0)]
  by_cases z1 : ¬ isR r2
  · refine vx_topi (y := 0) (if_neg z1) ?_
    refine vx_if_eq (tgt := 39) IG dc_R_inverse_11 (by decide) (fun _ => ?_) (fun c_ => absurd rfl c_)
    refine vx_iconst (v := 0) IG dc_R_inverse_39 (by decide) ?_
    refine vx_ret (some (.int 0)) RG (vx_endi (by first | rfl | decide) dc_R_inverse_40) rfl ?_
    rw [sp3_no (fun e => z1 e.2.1)]
    exact ⟨rfl, rfl, rfl, f, g, s, V, rfl, HP, HX⟩
  replace z1 := Decidable.not_not.mp z1
  refine vx_topi (y := 1) (if_pos z1) ?_
  refine vx_if_eq (tgt := 39) IG dc_R_inverse_11 (by decide) (fun c_ => absurd c_ (by decide)) (fun _ => ?_)
  refine vx_iload_n IG dc_R_inverse_14 rfl 3 rfl ?_
  refine vx_callS (As := [.int r3]) (st := []) IG lw_good (cR_is _ r3) wC_R_is wL_R_67 wT_R_is wX_R 1 (by decide +kernel) rfl ⟨Nat.le_of_ble_eq_true rfl, Nat.le_of_ble_eq_true rfl⟩ ⟨(by dsimp only [rm_]; omega), (by dsimp only [rm_]; omega)⟩ rfl (Nat.le_of_ble_eq_true rfl) dc_R_inverse_15 (fun v h k_ n_ hq => ?_)
  obtain ⟨rfl, rfl, rfl, rfl⟩ := hq
  show vx_V _ _ _ _ _ _ _ _ _ 18 [(0, .ref (q 0)), (1, .int r1), (2, .int r2), (3, .int r3)] [.int (if isR r3 then 1 else 0)]
  by_cases z2 : ¬ isR r3
  · refine vx_topi (y := 0) (if_neg z2) ?_
    refine vx_if_eq (tgt := 39) IG dc_R_inverse_18 (by decide) (fun _ => ?_) (fun c_ => absurd rfl c_)
    refine vx_iconst (v := 0) IG dc_R_inverse_39 (by decide) ?_
    refine vx_ret (some (.int 0)) RG (vx_endi (by first | rfl | decide) dc_R_inverse_40) rfl ?_
    rw [sp3_no (fun e => z2 e.2.2)]
    exact ⟨rfl, rfl, rfl, f, g, s, V, rfl, HP, HX⟩
  replace z2 := Decidable.not_not.mp z2
  refine vx_topi (y := 1) (if_pos z2) ?_
  refine vx_if_eq (tgt := 39) IG dc_R_inverse_18 (by decide) (fun c_ => absurd c_ (by decide)) (fun _ => ?_)
  obtain ⟨d, hd, rfl⟩ := isR_of z0
  obtain ⟨a, ha, rfl⟩ := isR_of z1
  obtain ⟨b, hb, rfl⟩ := isR_of z2
  have Rd := reg_rv HP HX hd
  have Bd := (HX d hd).2
  have Ld := reg_cap HP HX hd
  have Ra := reg_rv HP HX ha
  have Ba := (HX a ha).2
  have La := reg_cap HP HX ha
  have Rb := reg_rv HP HX hb
  have Bb := (HX b hb).2
  have Lb := reg_cap HP HX hb
  rw [sp3_ok hd ha hb] at RG
  unfold ivF at RG
  have c8 : ∀ r, 16 ≤ r → rcap r = 8200 := fun r hr => rcap_hi hr
  refine vx_aload_n IG dc_R_inverse_21 rfl 0 rfl ?_
  refine vx_get IG (ro_M LR) rfl 2 (by decide) inR wF_R_17 rfl rfl dc_R_inverse_22 ?_
  refine vx_iload_n IG dc_R_inverse_25 rfl 3 rfl ?_
  refine rr_zld IG LR ht2 hb (x := sgI (X b)) Bb dc_R_inverse_26 ?_
  by_cases y : X b < 0
  · refine vx_if_ne (tgt := 39) IG dc_R_inverse_27 (by decide) (fun _ => ?_) (fun c_ => absurd c_ (by rw [sgI_neg y]; decide))
    refine vx_iconst (v := 0) IG dc_R_inverse_39 (by decide) ?_
    refine vx_ret (some (.int 0)) RG (vx_endi (by first | rfl | decide) dc_R_inverse_40) rfl ?_
    rw [if_neg (by omega)]
    exact ⟨rfl, rfl, rfl, f, g, s, V, rfl, HP, HX⟩
  · refine vx_if_ne (tgt := 39) IG dc_R_inverse_27 (by decide) (fun c_ => absurd (sgI_pos y) c_) (fun _ => ?_)
    refine vx_aload_n IG dc_R_inverse_30 rfl 0 rfl ?_
    refine vx_get IG (ro_M LR) rfl 1 (by decide) inR wF_R_14 rfl rfl dc_R_inverse_31 ?_
    refine vx_iload_n IG dc_R_inverse_34 rfl 3 rfl ?_
    refine rr_nld IG LR ht3 (show b < 24 by omega) (x := nI (nd 65536 (X b).natAbs)) Rb.1 dc_R_inverse_35 ?_
    by_cases y2 : X b = 0
    · refine vx_if_ne (tgt := 41) IG dc_R_inverse_36 (by decide) (fun c_ => absurd (by rw [y2]; rfl) c_) (fun _ => ?_)
      refine vx_iconst (v := 0) IG dc_R_inverse_39 (by decide) ?_
      refine vx_ret (some (.int 0)) RG (vx_endi (by first | rfl | decide) dc_R_inverse_40) rfl ?_
      rw [if_neg (by omega)]
      exact ⟨rfl, rfl, rfl, f, g, s, V, rfl, HP, HX⟩
    · have hn0 : nd 65536 (X b).natAbs ≠ 0 := fun u => by have := (nd_eq_zero b16).mp u; omega
      refine vx_if_ne (tgt := 41) IG dc_R_inverse_36 (by decide) (fun _ => ?_) (fun c_ => absurd c_ (nI_ne (by omega) (b := 0) (by decide) hn0))
      rw [if_pos (by omega)] at RG
      refine vx_aload_n IG dc_R_inverse_41 rfl 0 rfl ?_
      refine vx_bipush (v := 19) IG dc_R_inverse_42 (by decide) ?_
      refine vx_iload_n IG dc_R_inverse_44 rfl 3 rfl ?_
      refine vx_callV (As := [.int 19, .int (nI b)]) (st := []) IG lw_good (cR_move LR ht2 ht3 Rb (d := 19) (by decide) (by omega) (by omega) (by rw [c8 _ (by decide)]; omega)) (ro_M LR) rfl wC_R_move wL_R_64 wI_R_move wS_R_move wX_R 2 (by decide +kernel) rfl ⟨Nat.le_of_ble_eq_true rfl, Nat.le_of_ble_eq_true rfl⟩ ⟨(by dsimp only [rm_]; omega), (by dsimp only [rm_]; omega)⟩ rfl (Nat.le_of_ble_eq_true rfl) dc_R_inverse_45 (fun v h k_ n_ hq => ?_)
      obtain ⟨rfl, rfl, rfl, f1, g1, rfl, S1⟩ := hq
      obtain ⟨HP, HX⟩ := rp_up HP HX (show 16 ≤ 19 by decide) (show 19 < 24 by decide) S1
      show vx_V _ _ _ _ _ _ _ _ _ 48 [(0, .ref (q 0)), (1, .int (nI d)), (2, .int (nI a)), (3, .int (nI b))] []
      refine vx_aload_n IG dc_R_inverse_48 rfl 0 rfl ?_
      refine vx_iload_n IG dc_R_inverse_49 rfl 2 rfl ?_
      refine vx_callV (As := [.int (nI a)]) (st := []) IG lw_good (cR_inverted LR ht2 ht3 HP HX ha (M := (X b).natAbs) rfl (by omega) Lb) (ro_M LR) rfl wC_R_inverted wL_R_117 wI_R_inverted wS_R_inverted wX_R 1 (by decide +kernel) rfl ⟨Nat.le_of_ble_eq_true rfl, Nat.le_of_ble_eq_true rfl⟩ ⟨(by dsimp only [rm_]; omega), (by dsimp only [rm_]; omega)⟩ rfl (Nat.le_of_ble_eq_true rfl) dc_R_inverse_50 (fun v h k_ n_ hq => ?_)
      obtain ⟨rfl, rfl, f2, g2, V2, rfl, HP, HX, m2, hv⟩ := hq
      rcases hv with ⟨rfl, hi⟩ | ⟨rfl, hi⟩
      · rw [ivO_some hi] at RG
        show vx_V _ _ _ _ _ _ _ _ _ 53 [(0, .ref (q 0)), (1, .int (nI d)), (2, .int (nI a)), (3, .int (nI b))] [.int 1]
        refine vx_if_eq (tgt := 71) IG dc_R_inverse_53 (by decide) (fun c_ => absurd c_ (by decide)) (fun _ => ?_)
        refine vx_aload_n IG dc_R_inverse_56 rfl 0 rfl ?_
        refine vx_iload_n IG dc_R_inverse_57 rfl 1 rfl ?_
        refine vx_bipush (v := 20) IG dc_R_inverse_58 (by decide) ?_
        refine vx_iconst (v := 0) IG dc_R_inverse_60 (by decide) ?_
        have hk : kpV (V2 20 : Int) = 1 := kpV_1 (Nat.le_trans (bl_mono (Nat.le_of_lt hi.1)) (lim16.mp Lb))
        refine vx_callV (As := [.int (nI d), .int 20, .int 0]) (st := []) IG lw_good (cR_st LR ht2 ht3 HP HX hd (a := 20) (z := (V2 20 : Int)) (by decide) (by decide) (Or.inl rfl) rfl (kz_0 _)) (ro_M LR) rfl wC_R_store wL_R_75 wI_R_store wS_R_store wX_R 3 (by decide +kernel) rfl ⟨Nat.le_of_ble_eq_true rfl, Nat.le_of_ble_eq_true rfl⟩ ⟨(by dsimp only [rm_]; omega), (by dsimp only [rm_]; omega)⟩ rfl (Nat.le_of_ble_eq_true rfl) dc_R_inverse_61 (fun v h k_ n_ hq => ?_)
        obtain ⟨rfl, rfl, rfl, f9, g9, s9, V9, rfl, P9, X9⟩ := hq
        show vx_V _ _ _ _ _ _ _ _ _ 64 [(0, .ref (q 0)), (1, .int (nI d)), (2, .int (nI a)), (3, .int (nI b))] [.int (kpV (V2 20 : Int))]
        refine vx_topi (y := 1) hk ?_
        refine vx_if_eq (tgt := 71) IG dc_R_inverse_64 (by decide) (fun c_ => absurd c_ (by decide)) (fun _ => ?_)
        refine vx_iconst (v := 1) IG dc_R_inverse_67 (by decide) ?_
        refine vx_goto (tgt := 72) IG dc_R_inverse_68 (by decide) ?_
        refine vx_ret (some (.int 1)) RG (vx_endi (by first | rfl | decide) dc_R_inverse_72) rfl ?_
        exact ⟨congrArg (fun x => some (Value.int x)) hk.symm, rfl, rfl, f9, g9, s9, V9, rfl, P9, X9⟩
      · rw [hi] at RG
        show vx_V _ _ _ _ _ _ _ _ _ 53 [(0, .ref (q 0)), (1, .int (nI d)), (2, .int (nI a)), (3, .int (nI b))] [.int 0]
        refine vx_if_eq (tgt := 71) IG dc_R_inverse_53 (by decide) (fun _ => ?_) (fun c_ => absurd rfl c_)
        refine vx_iconst (v := 0) IG dc_R_inverse_71 (by decide) ?_
        refine vx_ret (some (.int 0)) RG (vx_endi (by first | rfl | decide) dc_R_inverse_72) rfl ?_
        exact ⟨rfl, rfl, rfl, f2, g2, s, V2, rfl, HP, HX⟩
set_option maxRecDepth 100000 in
set_option maxHeartbeats 8000000 in
theorem cR_modulo (LR : rlay q h0) (ht2 : tys[2]? = some (cZ, .boolean)) (ht3 : tys[3]? = some (cI, .int)) (HP : rpic f g V) (HX : mreg X V s) (r1 r2 r3 r4 : Int32) : vx_M l D vcl tys my_R_modulo lw_gd (rm_ 6 0 0 149) [.ref (q 0), .int r1, .int r2, .int r3, .int r4] (rH cI cZ q h0 f g s) (rpub cI cZ q h0 (sp4 0 X (mdF X) r1 r2 r3 r4).2 (sp4 0 X (mdF X) r1 r2 r3 r4).1) := by
  refine vx_M.ofV (cc := bc_R_modulo) (maxL := 6) (ret := (some .boolean)) (own := rR) false rfl (by decide +kernel) wC_R_modulo (fun q => by cases q) (Nat.le_of_ble_eq_true rfl) (fun A H0 G IG RG => ?_)
  show vx_V _ _ _ _ _ _ _ _ _ 0 [(0, .ref (q 0)), (1, .int r1), (2, .int r2), (3, .int r3), (4, .int r4)] []
  refine vx_iload_n IG dc_R_modulo_0 rfl 1 rfl ?_
  refine vx_callS (As := [.int r1]) (st := []) IG lw_good (cR_is _ r1) wC_R_is wL_R_67 wT_R_is wX_R 1 (by decide +kernel) rfl ⟨Nat.le_of_ble_eq_true rfl, Nat.le_of_ble_eq_true rfl⟩ ⟨(by dsimp only [rm_]; omega), (by dsimp only [rm_]; omega)⟩ rfl (Nat.le_of_ble_eq_true rfl) dc_R_modulo_1 (fun v h k_ n_ hq => ?_)
  obtain ⟨rfl, rfl, rfl, rfl⟩ := hq
  show vx_V _ _ _ _ _ _ _ _ _ 4 [(0, .ref (q 0)), (1, .int r1), (2, .int r2), (3, .int r3), (4, .int r4)] [.int (if isR r1 then 1 else 0)]
  by_cases z0 : ¬ isR r1
  · refine vx_topi (y := 0) (if_neg z0) ?_
    refine vx_if_eq (tgt := 49) IG dc_R_modulo_4 (by decide) (fun _ => ?_) (fun c_ => absurd rfl c_)
    refine vx_iconst (v := 0) IG dc_R_modulo_49 (by decide) ?_
    refine vx_ret (some (.int 0)) RG (vx_endi (by first | rfl | decide) dc_R_modulo_50) rfl ?_
    rw [sp4_no (fun e => z0 e.1)]
    exact ⟨rfl, rfl, rfl, f, g, s, V, rfl, HP, HX⟩
  replace z0 := Decidable.not_not.mp z0
  refine vx_topi (y := 1) (if_pos z0) ?_
  refine vx_if_eq (tgt := 49) IG dc_R_modulo_4 (by decide) (fun c_ => absurd c_ (by decide)) (fun _ => ?_)
  refine vx_iload_n IG dc_R_modulo_7 rfl 2 rfl ?_
  refine vx_callS (As := [.int r2]) (st := []) IG lw_good (cR_is _ r2) wC_R_is wL_R_67 wT_R_is wX_R 1 (by decide +kernel) rfl ⟨Nat.le_of_ble_eq_true rfl, Nat.le_of_ble_eq_true rfl⟩ ⟨(by dsimp only [rm_]; omega), (by dsimp only [rm_]; omega)⟩ rfl (Nat.le_of_ble_eq_true rfl) dc_R_modulo_8 (fun v h k_ n_ hq => ?_)
  obtain ⟨rfl, rfl, rfl, rfl⟩ := hq
  show vx_V _ _ _ _ _ _ _ _ _ 11 [(0, .ref (q 0)), (1, .int r1), (2, .int r2), (3, .int r3), (4, .int r4)] [.int (if isR r2 then 1 else 0)]
  by_cases z1 : ¬ isR r2
  · refine vx_topi (y := 0) (if_neg z1) ?_
    refine vx_if_eq (tgt := 49) IG dc_R_modulo_11 (by decide) (fun _ => ?_) (fun c_ => absurd rfl c_)
    refine vx_iconst (v := 0) IG dc_R_modulo_49 (by decide) ?_
    refine vx_ret (some (.int 0)) RG (vx_endi (by first | rfl | decide) dc_R_modulo_50) rfl ?_
    rw [sp4_no (fun e => z1 e.2.1)]
    exact ⟨rfl, rfl, rfl, f, g, s, V, rfl, HP, HX⟩
  replace z1 := Decidable.not_not.mp z1
  refine vx_topi (y := 1) (if_pos z1) ?_
  refine vx_if_eq (tgt := 49) IG dc_R_modulo_11 (by decide) (fun c_ => absurd c_ (by decide)) (fun _ => ?_)
  refine vx_iload_n IG dc_R_modulo_14 rfl 3 rfl ?_
  refine vx_callS (As := [.int r3]) (st := []) IG lw_good (cR_is _ r3) wC_R_is wL_R_67 wT_R_is wX_R 1 (by decide +kernel) rfl ⟨Nat.le_of_ble_eq_true rfl, Nat.le_of_ble_eq_true rfl⟩ ⟨(by dsimp only [rm_]; omega), (by dsimp only [rm_]; omega)⟩ rfl (Nat.le_of_ble_eq_true rfl) dc_R_modulo_15 (fun v h k_ n_ hq => ?_)
  obtain ⟨rfl, rfl, rfl, rfl⟩ := hq
  show vx_V _ _ _ _ _ _ _ _ _ 18 [(0, .ref (q 0)), (1, .int r1), (2, .int r2), (3, .int r3), (4, .int r4)] [.int (if isR r3 then 1 else 0)]
  by_cases z2 : ¬ isR r3
  · refine vx_topi (y := 0) (if_neg z2) ?_
    refine vx_if_eq (tgt := 49) IG dc_R_modulo_18 (by decide) (fun _ => ?_) (fun c_ => absurd rfl c_)
    refine vx_iconst (v := 0) IG dc_R_modulo_49 (by decide) ?_
    refine vx_ret (some (.int 0)) RG (vx_endi (by first | rfl | decide) dc_R_modulo_50) rfl ?_
    rw [sp4_no (fun e => z2 e.2.2.1)]
    exact ⟨rfl, rfl, rfl, f, g, s, V, rfl, HP, HX⟩
  replace z2 := Decidable.not_not.mp z2
  refine vx_topi (y := 1) (if_pos z2) ?_
  refine vx_if_eq (tgt := 49) IG dc_R_modulo_18 (by decide) (fun c_ => absurd c_ (by decide)) (fun _ => ?_)
  refine vx_iload IG dc_R_modulo_21 4 rfl ?_
  refine vx_callS (As := [.int r4]) (st := []) IG lw_good (cR_is _ r4) wC_R_is wL_R_67 wT_R_is wX_R 1 (by decide +kernel) rfl ⟨Nat.le_of_ble_eq_true rfl, Nat.le_of_ble_eq_true rfl⟩ ⟨(by dsimp only [rm_]; omega), (by dsimp only [rm_]; omega)⟩ rfl (Nat.le_of_ble_eq_true rfl) dc_R_modulo_23 (fun v h k_ n_ hq => ?_)
  obtain ⟨rfl, rfl, rfl, rfl⟩ := hq
  show vx_V _ _ _ _ _ _ _ _ _ 26 [(0, .ref (q 0)), (1, .int r1), (2, .int r2), (3, .int r3), (4, .int r4)] [.int (if isR r4 then 1 else 0)]
  by_cases z3 : ¬ isR r4
  · refine vx_topi (y := 0) (if_neg z3) ?_
    refine vx_if_eq (tgt := 49) IG dc_R_modulo_26 (by decide) (fun _ => ?_) (fun c_ => absurd rfl c_)
    refine vx_iconst (v := 0) IG dc_R_modulo_49 (by decide) ?_
    refine vx_ret (some (.int 0)) RG (vx_endi (by first | rfl | decide) dc_R_modulo_50) rfl ?_
    rw [sp4_no (fun e => z3 e.2.2.2)]
    exact ⟨rfl, rfl, rfl, f, g, s, V, rfl, HP, HX⟩
  replace z3 := Decidable.not_not.mp z3
  refine vx_topi (y := 1) (if_pos z3) ?_
  refine vx_if_eq (tgt := 49) IG dc_R_modulo_26 (by decide) (fun c_ => absurd c_ (by decide)) (fun _ => ?_)
  obtain ⟨d, hd, rfl⟩ := isR_of z0
  obtain ⟨a, ha, rfl⟩ := isR_of z1
  obtain ⟨b, hb, rfl⟩ := isR_of z2
  obtain ⟨r, hr, rfl⟩ := isR_of z3
  have Rd := reg_rv HP HX hd
  have Bd := (HX d hd).2
  have Ld := reg_cap HP HX hd
  have Ra := reg_rv HP HX ha
  have Ba := (HX a ha).2
  have La := reg_cap HP HX ha
  have Rb := reg_rv HP HX hb
  have Bb := (HX b hb).2
  have Lb := reg_cap HP HX hb
  have Rr := reg_rv HP HX hr
  have Br := (HX r hr).2
  have Lr := reg_cap HP HX hr
  rw [sp4_ok hd ha hb hr] at RG
  unfold mdF at RG
  have c8 : ∀ r, 16 ≤ r → rcap r = 8200 := fun r hr => rcap_hi hr
  refine vx_aload_n IG dc_R_modulo_29 rfl 0 rfl ?_
  refine vx_get IG (ro_M LR) rfl 2 (by decide) inR wF_R_17 rfl rfl dc_R_modulo_30 ?_
  refine vx_iload IG dc_R_modulo_33 4 rfl ?_
  refine rr_zld IG LR ht2 hr (x := sgI (X r)) Br dc_R_modulo_35 ?_
  by_cases y : X r < 0
  · refine vx_if_ne (tgt := 49) IG dc_R_modulo_36 (by decide) (fun _ => ?_) (fun c_ => absurd c_ (by rw [sgI_neg y]; decide))
    refine vx_iconst (v := 0) IG dc_R_modulo_49 (by decide) ?_
    refine vx_ret (some (.int 0)) RG (vx_endi (by first | rfl | decide) dc_R_modulo_50) rfl ?_
    rw [if_neg (by omega)]
    exact ⟨rfl, rfl, rfl, f, g, s, V, rfl, HP, HX⟩
  · refine vx_if_ne (tgt := 49) IG dc_R_modulo_36 (by decide) (fun c_ => absurd (sgI_pos y) c_) (fun _ => ?_)
    refine vx_aload_n IG dc_R_modulo_39 rfl 0 rfl ?_
    refine vx_get IG (ro_M LR) rfl 1 (by decide) inR wF_R_14 rfl rfl dc_R_modulo_40 ?_
    refine vx_iload IG dc_R_modulo_43 4 rfl ?_
    refine rr_nld IG LR ht3 (show r < 24 by omega) (x := nI (nd 65536 (X r).natAbs)) Rr.1 dc_R_modulo_45 ?_
    by_cases y2 : X r = 0
    · refine vx_if_ne (tgt := 51) IG dc_R_modulo_46 (by decide) (fun c_ => absurd (by rw [y2]; rfl) c_) (fun _ => ?_)
      refine vx_iconst (v := 0) IG dc_R_modulo_49 (by decide) ?_
      refine vx_ret (some (.int 0)) RG (vx_endi (by first | rfl | decide) dc_R_modulo_50) rfl ?_
      rw [if_neg (by omega)]
      exact ⟨rfl, rfl, rfl, f, g, s, V, rfl, HP, HX⟩
    · have hn0 : nd 65536 (X r).natAbs ≠ 0 := fun u => by have := (nd_eq_zero b16).mp u; omega
      have hMp : 0 < (X r).natAbs := by omega
      refine vx_if_ne (tgt := 51) IG dc_R_modulo_46 (by decide) (fun _ => ?_) (fun c_ => absurd c_ (nI_ne (by omega) (b := 0) (by decide) hn0))
      rw [if_pos (by omega)] at RG
      have hbe := lim16.mp Lb
      have hbm := lim16.mp Lr
      refine vx_aload_n IG dc_R_modulo_51 rfl 0 rfl ?_
      refine vx_iload_n IG dc_R_modulo_52 rfl 3 rfl ?_
      refine vx_callV (As := [.int (nI b)]) (st := []) IG lw_good (cR_bitsOf LR ht2 ht3 Rb (by omega)) (ro_M LR) rfl wC_R_bitsOf wL_R_41 wI_R_bitsOf wS_R_bitsOf wX_R 1 (by decide +kernel) rfl ⟨Nat.le_of_ble_eq_true rfl, Nat.le_of_ble_eq_true rfl⟩ ⟨(by dsimp only [rm_]; omega), (by dsimp only [rm_]; omega)⟩ rfl (Nat.le_of_ble_eq_true rfl) dc_R_modulo_53 (fun v h k_ n_ hq => ?_)
      obtain ⟨rfl, rfl, rfl, rfl⟩ := hq
      show vx_V _ _ _ _ _ _ _ _ _ 56 [(0, .ref (q 0)), (1, .int (nI d)), (2, .int (nI a)), (3, .int (nI b)), (4, .int (nI r))] [.int (nI (bl (X b).natAbs))]
      refine vx_i2l (v := lN (bl (X b).natAbs)) IG dc_R_modulo_56 (nI_l (by omega)) ?_
      refine vx_aload_n IG dc_R_modulo_57 rfl 0 rfl ?_
      refine vx_iload IG dc_R_modulo_58 4 rfl ?_
      refine vx_callV (As := [.int (nI r)]) (st := [.long (lN (bl (X b).natAbs))]) IG lw_good (cR_bitsOf LR ht2 ht3 Rr (by omega)) (ro_M LR) rfl wC_R_bitsOf wL_R_41 wI_R_bitsOf wS_R_bitsOf wX_R 1 (by decide +kernel) rfl ⟨Nat.le_of_ble_eq_true rfl, Nat.le_of_ble_eq_true rfl⟩ ⟨(by dsimp only [rm_]; omega), (by dsimp only [rm_]; omega)⟩ rfl (Nat.le_of_ble_eq_true rfl) dc_R_modulo_60 (fun v h k_ n_ hq => ?_)
      obtain ⟨rfl, rfl, rfl, rfl⟩ := hq
      show vx_V _ _ _ _ _ _ _ _ _ 63 [(0, .ref (q 0)), (1, .int (nI d)), (2, .int (nI a)), (3, .int (nI b)), (4, .int (nI r))] [.int (nI (bl (X r).natAbs)), .long (lN (bl (X b).natAbs))]
      refine vx_i2l (v := lN (bl (X r).natAbs)) IG dc_R_modulo_63 (nI_l (by omega)) ?_
      refine vx_lmul IG dc_R_modulo_64 ?_
      refine vx_topl (y := lN ((bl (X b).natAbs) * (bl (X r).natAbs))) (lN_mul _ _) ?_
      refine vx_aload_n IG dc_R_modulo_65 rfl 0 rfl ?_
      refine vx_iload IG dc_R_modulo_66 4 rfl ?_
      refine vx_callV (As := [.int (nI r)]) (st := [.long (lN ((bl (X b).natAbs) * (bl (X r).natAbs)))]) IG lw_good (cR_bitsOf LR ht2 ht3 Rr (by omega)) (ro_M LR) rfl wC_R_bitsOf wL_R_41 wI_R_bitsOf wS_R_bitsOf wX_R 1 (by decide +kernel) rfl ⟨Nat.le_of_ble_eq_true rfl, Nat.le_of_ble_eq_true rfl⟩ ⟨(by dsimp only [rm_]; omega), (by dsimp only [rm_]; omega)⟩ rfl (Nat.le_of_ble_eq_true rfl) dc_R_modulo_68 (fun v h k_ n_ hq => ?_)
      obtain ⟨rfl, rfl, rfl, rfl⟩ := hq
      show vx_V _ _ _ _ _ _ _ _ _ 71 [(0, .ref (q 0)), (1, .int (nI d)), (2, .int (nI a)), (3, .int (nI b)), (4, .int (nI r))] [.int (nI (bl (X r).natAbs)), .long (lN ((bl (X b).natAbs) * (bl (X r).natAbs)))]
      refine vx_i2l (v := lN (bl (X r).natAbs)) IG dc_R_modulo_71 (nI_l (by omega)) ?_
      refine vx_lmul IG dc_R_modulo_72 ?_
      refine vx_topl (y := lN ((bl (X b).natAbs) * (bl (X r).natAbs) * (bl (X r).natAbs))) (lN_mul _ _) ?_
      refine vx_ldc2 (v := 4294967296) IG wK_R_120 dc_R_modulo_73 ?_
      refine vx_lcmp IG dc_R_modulo_76 ?_
      have hpr : bl (X b).natAbs * bl (X r).natAbs * bl (X r).natAbs ≤ 65536 * 65536 * 65536 := Nat.mul_le_mul (Nat.mul_le_mul hbe hbm) hbm
      by_cases u : bl (X b).natAbs * bl (X r).natAbs * bl (X r).natAbs ≤ 4294967296
      · rw [if_pos u] at RG
        refine vx_if_le (tgt := 82) IG dc_R_modulo_77 (by decide) (fun _ => ?_) (fun c_ => absurd ((lg_cmp_le _ _).mpr ((pk_lLE (b := 4294967296) (by omega) (by decide)).mpr u)) c_)
        refine vx_aload_n IG dc_R_modulo_82 rfl 0 rfl ?_
        refine vx_bipush (v := 19) IG dc_R_modulo_83 (by decide) ?_
        refine vx_iload IG dc_R_modulo_85 4 rfl ?_
        refine vx_callV (As := [.int 19, .int (nI r)]) (st := []) IG lw_good (cR_move LR ht2 ht3 Rr (d := 19) (by decide) (by omega) (by omega) (by rw [c8 _ (by decide)]; omega)) (ro_M LR) rfl wC_R_move wL_R_64 wI_R_move wS_R_move wX_R 2 (by decide +kernel) rfl ⟨Nat.le_of_ble_eq_true rfl, Nat.le_of_ble_eq_true rfl⟩ ⟨(by dsimp only [rm_]; omega), (by dsimp only [rm_]; omega)⟩ rfl (Nat.le_of_ble_eq_true rfl) dc_R_modulo_87 (fun v h k_ n_ hq => ?_)
        obtain ⟨rfl, rfl, rfl, f1, g1, rfl, S1⟩ := hq
        obtain ⟨HP, HX⟩ := rp_up HP HX (show 16 ≤ 19 by decide) (show 19 < 24 by decide) S1
        show vx_V _ _ _ _ _ _ _ _ _ 90 [(0, .ref (q 0)), (1, .int (nI d)), (2, .int (nI a)), (3, .int (nI b)), (4, .int (nI r))] []
        obtain ⟨M, eM⟩ : ∃ M, M = (X r).natAbs := ⟨_, rfl⟩
        obtain ⟨x, ex⟩ : ∃ x, x = (X b).natAbs := ⟨_, rfl⟩
        -- the powers
        have pows : ∀ (E k n : Nat) (f g : Nat → Int32) (V : Nat → Nat), rpic f g V → mreg X V s → V 19 = M → V 20 = E → E < M → mdG X d a b r = kp X d ((E ^ x % M : Nat) : Int) → k = 0 → n = 0 → vx_V D vcl A H0 6 G (rH cI cZ q h0 f g s) k n 125 [(0, .ref (q 0)), (1, .int (nI d)), (2, .int (nI a)), (3, .int (nI b)), (4, .int (nI r))] [] := by
          intro E k n f g V HP HX h19 h20 hE hmd hk hn
          subst hk hn
          rw [hmd] at RG
          have hMp : 0 < M := by omega
          have lM : nd 65536 M ≤ 4096 := by rw [eM]; exact Lr
          have lE : nd 65536 E ≤ 4096 := Nat.le_trans (nd_mono b16 (Nat.le_of_lt hE)) lM
          have loop : ∀ (j k n C : Nat) (f g : Nat → Int32) (V : Nat → Nat), j < 2 ^ 30 → rpic f g V → mreg X V s → V 19 = M → V 20 = E → V 18 = C → C = E ^ (x / 2 ^ j) % M → k = 0 → n = 0 → vx_V D vcl A H0 6 G (rH cI cZ q h0 f g s) k n 151 [(5, .int (nI j - 1)), (0, .ref (q 0)), (1, .int (nI d)), (2, .int (nI a)), (3, .int (nI b)), (4, .int (nI r))] [] := by
            intro j
            induction j with
            | zero =>
              intro k n C f g V hj HP HX h19 h20 h18 hC hk hn
              subst hk hn
              refine vx_iload IG dc_R_modulo_151 0 rfl ?_
              refine vx_if_lt (tgt := 215) IG dc_R_modulo_153 (by decide) (fun _ => ?_) (fun c_ => absurd (by decide) c_)
              refine vx_aload_n IG dc_R_modulo_215 rfl 1 rfl ?_
              refine vx_iload_n IG dc_R_modulo_216 rfl 2 rfl ?_
              refine vx_bipush (v := 18) IG dc_R_modulo_217 (by decide) ?_
              refine vx_iconst (v := 0) IG dc_R_modulo_219 (by decide) ?_
              rw [Nat.pow_zero, Nat.div_one] at hC
              refine vx_callV (As := [.int (nI d), .int 18, .int 0]) (st := []) IG lw_good (cR_st LR ht2 ht3 HP HX hd (a := 18) (z := ((E ^ x % M : Nat) : Int)) (by decide) (by decide) (Or.inl rfl) rfl (by rw [h18, hC, kz_0])) (ro_M LR) rfl wC_R_store wL_R_75 wI_R_store wS_R_store wX_R 3 (by decide +kernel) rfl ⟨Nat.le_of_ble_eq_true rfl, Nat.le_of_ble_eq_true rfl⟩ ⟨(by dsimp only [rm_]; omega), (by dsimp only [rm_]; omega)⟩ rfl (Nat.le_of_ble_eq_true rfl) dc_R_modulo_220 (fun v h k_ n_ hq => ?_)
              obtain ⟨rfl, rfl, rfl, f9, g9, s9, V9, rfl, P9, X9⟩ := hq
              show vx_V _ _ _ _ _ _ _ _ _ 223 [(5, .int (nI 0 - 1)), (0, .ref (q 0)), (1, .int (nI d)), (2, .int (nI a)), (3, .int (nI b)), (4, .int (nI r))] [.int (kpV ((E ^ x % M : Nat) : Int))]
              refine vx_ret (some (.int (kpV ((E ^ x % M : Nat) : Int)))) RG (vx_endi (by unfold kpV; split <;> rfl) dc_R_modulo_223) rfl ?_
              exact ⟨rfl, rfl, rfl, f9, g9, s9, V9, rfl, P9, X9⟩
            | succ j ih =>
              intro k n C f g V hj HP HX h19 h20 h18 hC hk hn
              subst hk hn
              rw [nI_pred j]
              have hlt := Nat.mod_lt (E ^ (x / 2 ^ (j + 1))) hMp
              rw [← hC] at hlt
              have lC : nd 65536 C ≤ 4096 := Nat.le_trans (nd_mono b16 (Nat.le_of_lt hlt)) lM
              have R18 := rvN HP (show 18 < 24 by decide) h18
              refine vx_iload IG dc_R_modulo_151 0 rfl ?_
              refine vx_if_lt (tgt := 215) IG dc_R_modulo_153 (by decide) (fun c_ => absurd c_ (nI_pos (by omega))) (fun _ => ?_)
              refine vx_aload_n IG dc_R_modulo_156 rfl 1 rfl ?_
              refine vx_bipush (v := 16) IG dc_R_modulo_157 (by decide) ?_
              refine vx_bipush (v := 18) IG dc_R_modulo_159 (by decide) ?_
              refine vx_bipush (v := 18) IG dc_R_modulo_161 (by decide) ?_
              refine vx_callV (As := [.int 16, .int 18, .int 18]) (st := []) IG lw_good (cR_product LR ht2 ht3 R18 R18 (d := 16) (by decide) (by decide) (by decide) (by decide) (by decide) (by rw [c8 _ (by decide)]; omega)) (ro_M LR) rfl wC_R_product wL_R_86 wI_R_product wS_R_product wX_R 3 (by decide +kernel) rfl ⟨Nat.le_of_ble_eq_true rfl, Nat.le_of_ble_eq_true rfl⟩ ⟨(by dsimp only [rm_]; omega), (by dsimp only [rm_]; omega)⟩ rfl (Nat.le_of_ble_eq_true rfl) dc_R_modulo_163 (fun v h k_ n_ hq => ?_)
              obtain ⟨rfl, rfl, rfl, f1, g1, rfl, S1⟩ := hq
              obtain ⟨HP, HX⟩ := rp_up HP HX (show 16 ≤ 16 by decide) (show 16 < 24 by decide) S1
              show vx_V _ _ _ _ _ _ _ _ _ 166 [(5, .int (nI j)), (0, .ref (q 0)), (1, .int (nI d)), (2, .int (nI a)), (3, .int (nI b)), (4, .int (nI r))] []
              have R16 := S1.2.2
              have R19 : rv f1 g1 19 M := rvN HP (show 19 < 24 by decide) h19
              refine vx_aload_n IG dc_R_modulo_166 rfl 1 rfl ?_
              refine vx_bipush (v := 18) IG dc_R_modulo_167 (by decide) ?_
              refine vx_bipush (v := 16) IG dc_R_modulo_169 (by decide) ?_
              refine vx_bipush (v := 19) IG dc_R_modulo_171 (by decide) ?_
              refine vx_callV (As := [.int 18, .int 16, .int 19]) (st := []) IG lw_good (cR_rest LR ht2 ht3 R16 R19 (r := 18) (by decide) (by decide) (by decide) (by decide) (by decide) hMp (by rw [c8 _ (by decide)]; omega)) (ro_M LR) rfl wC_R_rest wL_R_114 wI_R_rest wS_R_rest wX_R 3 (by decide +kernel) rfl ⟨Nat.le_of_ble_eq_true rfl, Nat.le_of_ble_eq_true rfl⟩ ⟨(by dsimp only [rm_]; omega), (by dsimp only [rm_]; omega)⟩ rfl (Nat.le_of_ble_eq_true rfl) dc_R_modulo_173 (fun v h k_ n_ hq => ?_)
              obtain ⟨rfl, rfl, rfl, f2, g2, rfl, S2⟩ := hq
              obtain ⟨HP, HX⟩ := rp_up HP HX (show 16 ≤ 18 by decide) (show 18 < 24 by decide) S2
              show vx_V _ _ _ _ _ _ _ _ _ 176 [(5, .int (nI j)), (0, .ref (q 0)), (1, .int (nI d)), (2, .int (nI a)), (3, .int (nI b)), (4, .int (nI r))] []
              have Rb2 := reg_rv HP HX hb
              rw [← ex] at Rb2
              have hlt2 := Nat.mod_lt (C * C) hMp
              refine vx_aload_n IG dc_R_modulo_176 rfl 1 rfl ?_
              refine vx_iload_n IG dc_R_modulo_177 rfl 4 rfl ?_
              refine vx_iload IG dc_R_modulo_178 0 rfl ?_
              refine vx_callV (As := [.int (nI b), .int (nI j)]) (st := []) IG lw_good (cR_bitOf LR ht2 ht3 Rb2 (by omega) (i := j) (by omega)) (ro_M LR) rfl wC_R_bitOf wL_R_48 wI_R_bitOf wS_R_bitOf wX_R 2 (by decide +kernel) rfl ⟨Nat.le_of_ble_eq_true rfl, Nat.le_of_ble_eq_true rfl⟩ ⟨(by dsimp only [rm_]; omega), (by dsimp only [rm_]; omega)⟩ rfl (Nat.le_of_ble_eq_true rfl) dc_R_modulo_180 (fun v h k_ n_ hq => ?_)
              obtain ⟨rfl, rfl, rfl, rfl⟩ := hq
              show vx_V _ _ _ _ _ _ _ _ _ 183 [(5, .int (nI j)), (0, .ref (q 0)), (1, .int (nI d)), (2, .int (nI a)), (3, .int (nI b)), (4, .int (nI r))] [.int (nI (x / 2 ^ j % 2))]
              by_cases v : x / 2 ^ j % 2 = 1
              · refine vx_if_ne (tgt := 189) IG dc_R_modulo_183 (by decide) (fun _ => ?_) (fun c_ => absurd c_ (by rw [v]; decide))
                have lC2 : nd 65536 (C * C % M) ≤ 4096 := Nat.le_trans (nd_mono b16 (Nat.le_of_lt hlt2)) lM
                have R18 := S2.2.2
                have R20 : rv f2 g2 20 E := rvN HP (show 20 < 24 by decide) h20
                refine vx_aload_n IG dc_R_modulo_189 rfl 1 rfl ?_
                refine vx_bipush (v := 16) IG dc_R_modulo_190 (by decide) ?_
                refine vx_bipush (v := 18) IG dc_R_modulo_192 (by decide) ?_
                refine vx_bipush (v := 20) IG dc_R_modulo_194 (by decide) ?_
                refine vx_callV (As := [.int 16, .int 18, .int 20]) (st := []) IG lw_good (cR_product LR ht2 ht3 R18 R20 (d := 16) (by decide) (by decide) (by decide) (by decide) (by decide) (by rw [c8 _ (by decide)]; omega)) (ro_M LR) rfl wC_R_product wL_R_86 wI_R_product wS_R_product wX_R 3 (by decide +kernel) rfl ⟨Nat.le_of_ble_eq_true rfl, Nat.le_of_ble_eq_true rfl⟩ ⟨(by dsimp only [rm_]; omega), (by dsimp only [rm_]; omega)⟩ rfl (Nat.le_of_ble_eq_true rfl) dc_R_modulo_196 (fun v h k_ n_ hq => ?_)
                obtain ⟨rfl, rfl, rfl, f3, g3, rfl, S3⟩ := hq
                obtain ⟨HP, HX⟩ := rp_up HP HX (show 16 ≤ 16 by decide) (show 16 < 24 by decide) S3
                show vx_V _ _ _ _ _ _ _ _ _ 199 [(5, .int (nI j)), (0, .ref (q 0)), (1, .int (nI d)), (2, .int (nI a)), (3, .int (nI b)), (4, .int (nI r))] []
                have R16 := S3.2.2
                have R19 : rv f3 g3 19 M := rvN HP (show 19 < 24 by decide) h19
                refine vx_aload_n IG dc_R_modulo_199 rfl 1 rfl ?_
                refine vx_bipush (v := 18) IG dc_R_modulo_200 (by decide) ?_
                refine vx_bipush (v := 16) IG dc_R_modulo_202 (by decide) ?_
                refine vx_bipush (v := 19) IG dc_R_modulo_204 (by decide) ?_
                refine vx_callV (As := [.int 18, .int 16, .int 19]) (st := []) IG lw_good (cR_rest LR ht2 ht3 R16 R19 (r := 18) (by decide) (by decide) (by decide) (by decide) (by decide) hMp (by rw [c8 _ (by decide)]; omega)) (ro_M LR) rfl wC_R_rest wL_R_114 wI_R_rest wS_R_rest wX_R 3 (by decide +kernel) rfl ⟨Nat.le_of_ble_eq_true rfl, Nat.le_of_ble_eq_true rfl⟩ ⟨(by dsimp only [rm_]; omega), (by dsimp only [rm_]; omega)⟩ rfl (Nat.le_of_ble_eq_true rfl) dc_R_modulo_206 (fun v h k_ n_ hq => ?_)
                obtain ⟨rfl, rfl, rfl, f4, g4, rfl, S4⟩ := hq
                obtain ⟨HP, HX⟩ := rp_up HP HX (show 16 ≤ 18 by decide) (show 18 < 24 by decide) S4
                show vx_V _ _ _ _ _ _ _ _ _ 209 [(5, .int (nI j)), (0, .ref (q 0)), (1, .int (nI d)), (2, .int (nI a)), (3, .int (nI b)), (4, .int (nI r))] []
                refine vx_iinc (q := 0) (v := nI j - 1) (lv' := [(5, .int (nI j - 1)), (0, .ref (q 0)), (1, .int (nI d)), (2, .int (nI a)), (3, .int (nI b)), (4, .int (nI r))]) IG dc_R_modulo_209 rfl (i32_dec _) (by decide) rfl ?_
                refine vx_goto (tgt := 151) IG dc_R_modulo_212 (by decide) ?_
                exact ih _ _ _ f4 g4 _ (by omega) HP HX h19 h20 rfl (pm_1 hC v) rfl rfl
              · refine vx_if_ne (tgt := 189) IG dc_R_modulo_183 (by decide) (fun c_ => absurd (by rw [show x / 2 ^ j % 2 = 0 by omega]; rfl) c_) (fun _ => ?_)
                refine vx_goto (tgt := 209) IG dc_R_modulo_186 (by decide) ?_
                refine vx_iinc (q := 0) (v := nI j - 1) (lv' := [(5, .int (nI j - 1)), (0, .ref (q 0)), (1, .int (nI d)), (2, .int (nI a)), (3, .int (nI b)), (4, .int (nI r))]) IG dc_R_modulo_209 rfl (i32_dec _) (by decide) rfl ?_
                refine vx_goto (tgt := 151) IG dc_R_modulo_212 (by decide) ?_
                exact ih _ _ _ f2 g2 _ (by omega) HP HX h19 h20 rfl (pm_0 hC v) rfl rfl
          refine vx_aload_n IG dc_R_modulo_125 rfl 0 rfl ?_
          refine vx_bipush (v := 16) IG dc_R_modulo_126 (by decide) ?_
          refine vx_lconst (v := 1) IG dc_R_modulo_128 (by decide) ?_
          refine vx_callV (As := [.int 16, .long 1]) (st := []) IG lw_good (cR_set LR ht2 ht3 (d := 16) (b := 1) (by decide) (by decide)) (ro_M LR) rfl wC_R_set wL_R_71 wI_R_set wS_R_set wX_R 2 (by decide +kernel) rfl ⟨Nat.le_of_ble_eq_true rfl, Nat.le_of_ble_eq_true rfl⟩ ⟨(by dsimp only [rm_]; omega), (by dsimp only [rm_]; omega)⟩ rfl (Nat.le_of_ble_eq_true rfl) dc_R_modulo_129 (fun v h k_ n_ hq => ?_)
          obtain ⟨rfl, rfl, rfl, f5, g5, rfl, S5⟩ := hq
          obtain ⟨HP, HX⟩ := rp_up HP HX (show 16 ≤ 16 by decide) (show 16 < 24 by decide) S5
          show vx_V _ _ _ _ _ _ _ _ _ 132 [(0, .ref (q 0)), (1, .int (nI d)), (2, .int (nI a)), (3, .int (nI b)), (4, .int (nI r))] []
          have R16 := S5.2.2
          have R19 : rv f5 g5 19 M := rvN HP (show 19 < 24 by decide) h19
          refine vx_aload_n IG dc_R_modulo_132 rfl 0 rfl ?_
          refine vx_bipush (v := 18) IG dc_R_modulo_133 (by decide) ?_
          refine vx_bipush (v := 16) IG dc_R_modulo_135 (by decide) ?_
          refine vx_bipush (v := 19) IG dc_R_modulo_137 (by decide) ?_
          refine vx_callV (As := [.int 18, .int 16, .int 19]) (st := []) IG lw_good (cR_rest LR ht2 ht3 R16 R19 (r := 18) (by decide) (by decide) (by decide) (by decide) (by decide) hMp (by rw [c8 _ (by decide)]; omega)) (ro_M LR) rfl wC_R_rest wL_R_114 wI_R_rest wS_R_rest wX_R 3 (by decide +kernel) rfl ⟨Nat.le_of_ble_eq_true rfl, Nat.le_of_ble_eq_true rfl⟩ ⟨(by dsimp only [rm_]; omega), (by dsimp only [rm_]; omega)⟩ rfl (Nat.le_of_ble_eq_true rfl) dc_R_modulo_139 (fun v h k_ n_ hq => ?_)
          obtain ⟨rfl, rfl, rfl, f6, g6, rfl, S6⟩ := hq
          obtain ⟨HP, HX⟩ := rp_up HP HX (show 16 ≤ 18 by decide) (show 18 < 24 by decide) S6
          show vx_V _ _ _ _ _ _ _ _ _ 142 [(0, .ref (q 0)), (1, .int (nI d)), (2, .int (nI a)), (3, .int (nI b)), (4, .int (nI r))] []
          have Rb2 := reg_rv HP HX hb
          rw [← ex] at Rb2
          refine vx_aload_n IG dc_R_modulo_142 rfl 0 rfl ?_
          refine vx_iload_n IG dc_R_modulo_143 rfl 3 rfl ?_
          refine vx_callV (As := [.int (nI b)]) (st := []) IG lw_good (cR_bitsOf LR ht2 ht3 Rb2 (by omega)) (ro_M LR) rfl wC_R_bitsOf wL_R_41 wI_R_bitsOf wS_R_bitsOf wX_R 1 (by decide +kernel) rfl ⟨Nat.le_of_ble_eq_true rfl, Nat.le_of_ble_eq_true rfl⟩ ⟨(by dsimp only [rm_]; omega), (by dsimp only [rm_]; omega)⟩ rfl (Nat.le_of_ble_eq_true rfl) dc_R_modulo_144 (fun v h k_ n_ hq => ?_)
          obtain ⟨rfl, rfl, rfl, rfl⟩ := hq
          show vx_V _ _ _ _ _ _ _ _ _ 147 [(0, .ref (q 0)), (1, .int (nI d)), (2, .int (nI a)), (3, .int (nI b)), (4, .int (nI r))] [.int (nI (bl x))]
          refine vx_iconst (v := 1) IG dc_R_modulo_147 (by decide) ?_
          refine vx_isub IG dc_R_modulo_148 ?_
          refine vx_istore (lv' := [(5, .int (nI (bl x) - 1)), (0, .ref (q 0)), (1, .int (nI d)), (2, .int (nI a)), (3, .int (nI b)), (4, .int (nI r))]) IG dc_R_modulo_149 (by decide) rfl ?_
          refine loop (bl x) _ _ _ f6 g6 _ (by rw [ex]; omega) HP HX h19 h20 rfl ?_ rfl rfl
          rw [Nat.div_eq_of_lt (lt_bl x), Nat.pow_zero]
          rfl
        refine vx_aload_n IG dc_R_modulo_90 rfl 0 rfl ?_
        refine vx_get IG (ro_M LR) rfl 2 (by decide) inR wF_R_17 rfl rfl dc_R_modulo_91 ?_
        refine vx_iload_n IG dc_R_modulo_94 rfl 3 rfl ?_
        refine rr_zld IG LR ht2 hb (x := sgI (X b)) Bb dc_R_modulo_95 ?_
        by_cases v : X b < 0
        · refine vx_if_eq (tgt := 109) IG dc_R_modulo_96 (by decide) (fun c_ => absurd c_ (by rw [sgI_neg v]; decide)) (fun _ => ?_)
          refine vx_aload_n IG dc_R_modulo_99 rfl 0 rfl ?_
          refine vx_iload_n IG dc_R_modulo_100 rfl 2 rfl ?_
          refine vx_callV (As := [.int (nI a)]) (st := []) IG lw_good (cR_inverted LR ht2 ht3 HP HX ha (M := (X r).natAbs) rfl hMp Lr) (ro_M LR) rfl wC_R_inverted wL_R_117 wI_R_inverted wS_R_inverted wX_R 1 (by decide +kernel) rfl ⟨Nat.le_of_ble_eq_true rfl, Nat.le_of_ble_eq_true rfl⟩ ⟨(by dsimp only [rm_]; omega), (by dsimp only [rm_]; omega)⟩ rfl (Nat.le_of_ble_eq_true rfl) dc_R_modulo_101 (fun v h k_ n_ hq => ?_)
          obtain ⟨rfl, rfl, f2, g2, V2, rfl, HP, HX, m2, hv⟩ := hq
          rcases hv with ⟨rfl, hi⟩ | ⟨rfl, hi⟩
          · show vx_V _ _ _ _ _ _ _ _ _ 104 [(0, .ref (q 0)), (1, .int (nI d)), (2, .int (nI a)), (3, .int (nI b)), (4, .int (nI r))] [.int 1]
            refine vx_if_ne (tgt := 109) IG dc_R_modulo_104 (by decide) (fun _ => ?_) (fun c_ => absurd c_ (by decide))
            refine vx_aload_n IG dc_R_modulo_109 rfl 0 rfl ?_
            refine vx_get IG (ro_M LR) rfl 2 (by decide) inR wF_R_17 rfl rfl dc_R_modulo_110 ?_
            refine vx_iload_n IG dc_R_modulo_113 rfl 3 rfl ?_
            refine rr_zld IG LR ht2 hb (x := sgI (X b)) Bb dc_R_modulo_114 ?_
            refine vx_if_ne (tgt := 125) IG dc_R_modulo_115 (by decide) (fun _ => ?_) (fun c_ => absurd c_ (by rw [sgI_neg v]; decide))
            exact pows (V2 20) _ _ f2 g2 V2 HP HX (by rw [m2, eM]) rfl (by rw [eM]; exact hi.1) (by rw [ex, eM]; exact mdG_s (by omega) (ivO_some hi)) rfl rfl
          · rw [mdG_n (by omega) hi] at RG
            show vx_V _ _ _ _ _ _ _ _ _ 104 [(0, .ref (q 0)), (1, .int (nI d)), (2, .int (nI a)), (3, .int (nI b)), (4, .int (nI r))] [.int 0]
            refine vx_if_ne (tgt := 109) IG dc_R_modulo_104 (by decide) (fun c_ => absurd rfl c_) (fun _ => ?_)
            refine vx_iconst (v := 0) IG dc_R_modulo_107 (by decide) ?_
            refine vx_ret (some (.int 0)) RG (vx_endi (by first | rfl | decide) dc_R_modulo_108) rfl ?_
            exact ⟨rfl, rfl, rfl, f2, g2, s, V2, rfl, HP, HX⟩
        · refine vx_if_eq (tgt := 109) IG dc_R_modulo_96 (by decide) (fun _ => ?_) (fun c_ => absurd (sgI_pos v) c_)
          refine vx_aload_n IG dc_R_modulo_109 rfl 0 rfl ?_
          refine vx_get IG (ro_M LR) rfl 2 (by decide) inR wF_R_17 rfl rfl dc_R_modulo_110 ?_
          refine vx_iload_n IG dc_R_modulo_113 rfl 3 rfl ?_
          refine rr_zld IG LR ht2 hb (x := sgI (X b)) Bb dc_R_modulo_114 ?_
          refine vx_if_ne (tgt := 125) IG dc_R_modulo_115 (by decide) (fun c_ => absurd (sgI_pos v) c_) (fun _ => ?_)
          refine vx_aload_n IG dc_R_modulo_118 rfl 0 rfl ?_
          refine vx_bipush (v := 20) IG dc_R_modulo_119 (by decide) ?_
          refine vx_iload_n IG dc_R_modulo_121 rfl 2 rfl ?_
          refine vx_callV (As := [.int 20, .int (nI a)]) (st := []) IG lw_good (cR_residue LR ht2 ht3 HP HX (r := 20) (Or.inr rfl) ha (M := (X r).natAbs) rfl hMp Lr) (ro_M LR) rfl wC_R_residue wL_R_111 wI_R_residue wS_R_residue wX_R 2 (by decide +kernel) rfl ⟨Nat.le_of_ble_eq_true rfl, Nat.le_of_ble_eq_true rfl⟩ ⟨(by dsimp only [rm_]; omega), (by dsimp only [rm_]; omega)⟩ rfl (Nat.le_of_ble_eq_true rfl) dc_R_modulo_122 (fun v h k_ n_ hq => ?_)
          obtain ⟨rfl, rfl, rfl, f2, g2, V2, rfl, HP, HX, m2, v2⟩ := hq
          show vx_V _ _ _ _ _ _ _ _ _ 125 [(0, .ref (q 0)), (1, .int (nI d)), (2, .int (nI a)), (3, .int (nI b)), (4, .int (nI r))] []
          exact pows (V2 20) _ _ f2 g2 V2 HP HX (by rw [m2, eM]) rfl (by rw [v2, eM]; exact rdz_lt hMp) (by rw [v2, ex, eM]; exact mdG_p (by omega)) rfl rfl
      · rw [if_neg u] at RG
        refine vx_if_le (tgt := 82) IG dc_R_modulo_77 (by decide) (fun c_ => absurd c_ (fun e => u ((pk_lLE (b := 4294967296) (by omega) (by decide)).mp ((lg_cmp_le _ _).mp e)))) (fun _ => ?_)
        refine vx_iconst (v := 0) IG dc_R_modulo_80 (by decide) ?_
        refine vx_ret (some (.int 0)) RG (vx_endi (by first | rfl | decide) dc_R_modulo_81) rfl ?_
        exact ⟨rfl, rfl, rfl, f, g, s, V, rfl, HP, HX⟩
end
