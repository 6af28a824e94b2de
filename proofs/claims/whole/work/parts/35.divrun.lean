/-! Divider: run -/
theorem vl_hi0 {d : Nat → Nat} {k n t : Nat} (hd : ∀ i, i < k + n + t → d i < 4294967296) (h : vl 4294967296 d (k + n + t) < 4294967296 ^ (k + n)) : vl 4294967296 d (k + n + t) = vl 4294967296 d k + vl 4294967296 (fun j => d (k + j)) n * 4294967296 ^ k := by
  rw [vl_split 4294967296 d (k + n) t] at h ⊢
  have h0 : vl 4294967296 (fun j => d (k + n + j)) t = 0 := by
    rcases Nat.eq_zero_or_pos (vl 4294967296 (fun j => d (k + n + j)) t) with q | q
    · exact q
    · have : 1 * 4294967296 ^ (k + n) ≤ vl 4294967296 (fun j => d (k + n + j)) t * 4294967296 ^ (k + n) := Nat.mul_le_mul_right _ q
      omega
  rw [h0, Nat.zero_mul, Nat.add_zero, vl_split]
theorem vl_win {d e : Nat → Nat} {k n t : Nat} (h : vl 4294967296 d (k + n + t) < 4294967296 ^ (k + n)) (hlo : ∀ j, j < k → e j = d j) (hhi : ∀ j, k + n ≤ j → e j = d j) : vl 4294967296 e (k + n + t) = vl 4294967296 d k + vl 4294967296 (fun j => e (k + j)) n * 4294967296 ^ k := by
  rw [vl_split 4294967296 d (k + n) t] at h
  have h0 : vl 4294967296 (fun j => d (k + n + j)) t = 0 := by
    rcases Nat.eq_zero_or_pos (vl 4294967296 (fun j => d (k + n + j)) t) with q | q
    · exact q
    · have : 1 * 4294967296 ^ (k + n) ≤ vl 4294967296 (fun j => d (k + n + j)) t * 4294967296 ^ (k + n) := Nat.mul_le_mul_right _ q
      omega
  rw [vl_split 4294967296 e (k + n) t, vl_congr (d := fun j => e (k + n + j)) (e := fun j => d (k + n + j)) (fun j _ => hhi _ (by omega)), h0, Nat.zero_mul, Nat.add_zero, vl_split, vl_congr hlo]
theorem dv_step {Q S q R Wd P lo A2 : Nat} (h : Q * S + R = A2) (hR : R = lo + Wd * P) (hq : q = Wd / S) : (Q + q * P) * S + (lo + Wd % S * P) = A2 := by
  have h1 := Nat.div_add_mod Wd S
  have h2 : Wd * P = S * q * P + Wd % S * P := by rw [← Nat.add_mul, hq, h1]
  rw [← h, hR, h2, Nat.add_mul, Nat.mul_right_comm q P S, Nat.mul_comm q S]
  omega
section
variable {l : Launch} {D : va_G} {tys : List (ClassId × FieldType)} {cJ : ClassId} {L : List Nat} {r : vx_h} {dv qo rs sc pa pb p : Nat} {h : vx_h} {V : Nat → Nat} {C S : Nat}
theorem isZ_eq (N : Nat) : (if nd 4294967296 N = 0 then (1 : Int32) else 0) = if N = 0 then 1 else 0 := by
  by_cases z : N = 0
  · rw [if_pos z, if_pos (by rw [z]; rfl)]
  · rw [if_neg z, if_neg (fun q => z ((nd_eq_zero bB1).mp q))]
theorem cW_isZeroP (HP : pool cJ L r V h C S) (hp : p ∈ L) : vx_M l D vcl tys my_W_isZero lw_gd (rm_ 0 0 0 0) [.ref p] h (fun v h' k m => v = some (.int (if V p = 0 then 1 else 0)) ∧ h' = h ∧ k = 0 ∧ m = 0) := by
  obtain ⟨ar, cp, cn, fn, HR, hV, hC, hS⟩ := HP
  have hv := hV p hp
  have := nI_dig hv HR hp
  rw [← isZ_eq]
  exact cW_isZero HR hp hv.1 (by omega)
/-- what is the same where V' differs from V at three places alone -/
def dvEnd (cJ : ClassId) (L : List Nat) (r : vx_h) (V : Nat → Nat) (qo rs sc : Nat) (Q R : Nat) (C S : Nat) : Option Value → vx_h → Nat → Nat → Prop := fun v h' k m => v = none ∧ ∃ (V' : Nat → Nat) (C' S' : Nat), pool cJ L r V' h' C' S' ∧ V' qo = Q ∧ V' rs = R ∧ (∀ q, q ≠ qo → q ≠ rs → q ≠ sc → V' q = V q) ∧ k + C' ≤ C ∧ m + S' ≤ S
set_option maxRecDepth 100000 in
set_option maxHeartbeats 8000000 in
/-- run(a, b): quotient and rest -/
theorem cD_run (HP : pool cJ L r V h C S) (hL : L.Nodup) (hdv : r dv = some (.inr (0, [.ref qo, .ref rs, .ref sc]))) (hqo : qo ∈ L) (hrs : rs ∈ L) (hsc : sc ∈ L) (n1 : rs ≠ qo) (n2 : sc ≠ qo) (n3 : sc ≠ rs) (hpa : pa ∈ L) (hpb : pb ∈ L) (a1 : pa ≠ qo) (a2 : pa ≠ rs) (a3 : pa ≠ sc) (b1 : pb ≠ qo) (b2 : pb ≠ rs) (b3 : pb ≠ sc) (ht : tys[0]? = some (cJ, .long)) (hsa : nd 4294967296 (V pa) ≤ 4099) (hsb : nd 4294967296 (V pb) ≤ 4099) : vx_M l D vcl tys my_D_run lw_gd (rm_ 4 C S 106) [.ref dv, .ref pa, .ref pb] h (dvEnd cJ L r V qo rs sc (V pa / V pb) (V pa % V pb) C S) := by
  refine vx_M.ofV (cc := bc_D_run) (maxL := 7) (ret := none) (own := rD) false rfl (by decide +kernel) wC_D_run (fun q => by cases q) (Nat.le_of_ble_eq_true rfl) (fun A H0 G IG RG => ?_)
  show vx_V _ _ _ _ _ _ _ _ _ 0 [(0, .ref dv), (1, .ref pa), (2, .ref pb)] []
  have HP0 := HP
  obtain ⟨ar, cp, cn, fn, HR, hV, hC, hS⟩ := HP
  -- quotient 0, rest a
  have small : V pa < V pb ∨ V pb = 0 → vx_V D vcl A H0 7 G h 0 0 15 [(0, .ref dv), (1, .ref pa), (2, .ref pb)] [] := by
    intro hz
    refine vx_aload_n IG dc_D_run_15 rfl 0 rfl ?_
    refine vx_get IG (rw_r HR hdv) rfl 0 (by decide) inD wF_D_12 rfl rfl dc_D_run_16 ?_
    refine vx_callV (As := []) (st := []) IG lw_good (cW_clear HR hqo) (rw_obj HR hqo) rfl wC_W_clear wL_D_32 wI_W_clear wS_W_clear wX_W 0 (by decide +kernel) rfl ⟨Nat.le_of_ble_eq_true rfl, Nat.le_of_ble_eq_true rfl⟩ ⟨(by dsimp only [rm_]; omega), (by dsimp only [rm_]; omega)⟩ rfl (Nat.le_of_ble_eq_true rfl) dc_D_run_19 (fun v h k1 n1 hq => ?_)
    obtain ⟨rfl, rfl, rfl, HR⟩ := hq
    have HP1 : pool cJ L r (va_up V qo 0) h C S := by
      refine ⟨ar, cp, va_up cn qo 0, fn, HR, fun q hq => ?_, hC, hS⟩
      by_cases z : q = qo
      · subst z
        rw [va_up_self]
        exact ⟨va_up_self _ _ _, Nat.zero_le _, fun i hi => absurd hi (Nat.not_lt_zero i)⟩
      · rw [va_up_ne _ _ z]
        exact wv_same (hV q hq) rfl (va_up_ne _ _ z) rfl
    show vx_V _ _ _ _ _ _ _ _ _ 22 [(0, .ref dv), (1, .ref pa), (2, .ref pb)] []
    refine vx_aload_n IG dc_D_run_22 rfl 0 rfl ?_
    refine vx_get IG (rw_r HR hdv) rfl 1 (by decide) inD wF_D_18 rfl rfl dc_D_run_23 ?_
    refine vx_aload_n IG dc_D_run_26 rfl 1 rfl ?_
    refine vx_callV (As := [.ref pa]) (st := []) IG lw_good (cW_copy HP1 hL hrs hpa ht (by rw [va_up_ne _ _ a1]; omega)) (rw_obj HR hrs) rfl wC_W_copy wL_D_35 wI_W_copy wS_W_copy wX_W 1 (by decide +kernel) rfl ⟨Nat.le_of_ble_eq_true rfl, Nat.le_of_ble_eq_true rfl⟩ ⟨(by dsimp only [rm_]; omega), (by dsimp only [rm_]; omega)⟩ rfl (Nat.le_of_ble_eq_true rfl) dc_D_run_27 (fun v h k2 n2 hq => ?_)
    obtain ⟨rfl, C', S', HP2, hk, hm⟩ := hq
    show vx_V _ _ _ _ _ _ _ _ _ 30 [(0, .ref dv), (1, .ref pa), (2, .ref pb)] []
    refine vx_ret none RG (vx_endv dc_D_run_30) rfl ?_
    refine ⟨rfl, _, C', S', HP2, ?_, ?_, fun q z1 z2 z3 => ?_, by omega, by omega⟩
    · rw [va_up_ne _ _ (Ne.symm n1), va_up_self]
      rcases hz with z | z
      · exact (Nat.div_eq_of_lt z).symm
      · rw [z, Nat.div_zero]
    · rw [va_up_self, va_up_ne _ _ a1]
      rcases hz with z | z
      · exact (Nat.mod_eq_of_lt z).symm
      · rw [z, Nat.mod_zero]
    · rw [va_up_ne _ _ z2, va_up_ne _ _ z1]
  refine vx_aload_n IG dc_D_run_0 rfl 2 rfl ?_
  refine vx_callV (As := []) (st := []) IG lw_good (cW_isZeroP HP0 hpb) (rw_obj HR hpb) rfl wC_W_isZero wL_D_24 wI_W_isZero wS_W_isZero wX_W 0 (by decide +kernel) rfl ⟨Nat.le_of_ble_eq_true rfl, Nat.le_of_ble_eq_true rfl⟩ ⟨(by dsimp only [rm_]; omega), (by dsimp only [rm_]; omega)⟩ rfl (Nat.le_of_ble_eq_true rfl) dc_D_run_1 (fun v h k3 n3 hq => ?_)
  obtain ⟨rfl, rfl, rfl, rfl⟩ := hq
  show vx_V _ _ _ _ _ _ _ _ _ 4 [(0, .ref dv), (1, .ref pa), (2, .ref pb)] [.int (if V pb = 0 then 1 else 0)]
  by_cases z0 : V pb = 0
  · refine vx_topi (y := 1) (if_pos z0) ?_
    refine vx_if_ne (tgt := 15) IG dc_D_run_4 (by decide) (fun _ => ?_) (fun c_ => absurd c_ (by decide))
    exact small (Or.inr z0)
  · refine vx_topi (y := 0) (if_neg z0) ?_
    refine vx_if_ne (tgt := 15) IG dc_D_run_4 (by decide) (fun c_ => absurd rfl c_) (fun _ => ?_)
    refine vx_aload_n IG dc_D_run_7 rfl 1 rfl ?_
    refine vx_aload_n IG dc_D_run_8 rfl 2 rfl ?_
    refine vx_callV (As := [.ref pb]) (st := []) IG lw_good (cW_against HP0 hpa hpb ht) (rw_obj HR hpa) rfl wC_W_against wL_D_28 wI_W_against wS_W_against wX_W 1 (by decide +kernel) rfl ⟨Nat.le_of_ble_eq_true rfl, Nat.le_of_ble_eq_true rfl⟩ ⟨(by dsimp only [rm_]; omega), (by dsimp only [rm_]; omega)⟩ rfl (Nat.le_of_ble_eq_true rfl) dc_D_run_9 (fun v h k4 n4 hq => ?_)
    obtain ⟨rfl, rfl, rfl, rfl⟩ := hq
    show vx_V _ _ _ _ _ _ _ _ _ 12 [(0, .ref dv), (1, .ref pa), (2, .ref pb)] [.int (cmpI (V pa) (V pb))]
    by_cases z1 : V pa < V pb
    · refine vx_if_ge (tgt := 31) IG dc_D_run_12 (by decide) (fun c_ => absurd c_ (fun q => absurd ((cmpI_ge _ _).mp q) (Nat.not_le.mpr z1))) (fun _ => ?_)
      exact small (Or.inl z1)
    · refine vx_if_ge (tgt := 31) IG dc_D_run_12 (by decide) (fun _ => ?_) (fun c_ => absurd ((cmpI_ge _ _).mpr (Nat.le_of_not_lt z1)) c_)
      have hva := hV pa hpa
      have hvb := hV pb hpb
      obtain ⟨sf1, sf2, sf3, sf4⟩ := scale_facts (B := V pb) (Nat.pos_of_ne_zero z0)
      have hnab : nd 4294967296 (V pb) ≤ nd 4294967296 (V pa) := nd_mono bB1 (Nat.le_of_not_lt z1)
      refine vx_aload_n IG dc_D_run_31 rfl 2 rfl ?_
      refine wr_cnt IG HR hpb wF_D_39 dc_D_run_32 ?_
      refine vx_topi (y := nI (nd 4294967296 (V pb))) hvb.1 ?_
      refine vx_istore_n (lv' := [(3, .int (nI (nd 4294967296 (V pb)))), (0, .ref dv), (1, .ref pa), (2, .ref pb)]) IG dc_D_run_35 rfl (by decide) rfl ?_
      refine vx_aload_n IG dc_D_run_36 rfl 2 rfl ?_
      refine wr_cnt IG HR hpa wF_D_39 dc_D_run_37 ?_
      refine vx_topi (y := nI (nd 4294967296 (V pa))) hva.1 ?_
      refine vx_iload_n IG dc_D_run_40 rfl 0 rfl ?_
      refine vx_isub IG dc_D_run_41 ?_
      refine vx_topi (y := nI (nd 4294967296 (V pa) - nd 4294967296 (V pb))) (pk_sub hnab) ?_
      refine vx_iconst (v := 1) IG dc_D_run_42 (by decide) ?_
      refine vx_iadd IG dc_D_run_43 ?_
      refine vx_topi (y := nI (nd 4294967296 (V pa) - nd 4294967296 (V pb) + 1)) (nI_1 _) ?_
      refine vx_istore (lv' := [(4, .int (nI (nd 4294967296 (V pa) - nd 4294967296 (V pb) + 1))), (3, .int (nI (nd 4294967296 (V pb)))), (0, .ref dv), (1, .ref pa), (2, .ref pb)]) IG dc_D_run_44 (by decide) rfl ?_
      refine vx_bipush (v := 32) IG dc_D_run_46 (by decide) ?_
      refine vx_iload_n IG dc_D_run_48 rfl 1 rfl ?_
      refine vx_imul IG dc_D_run_49 ?_
      refine vx_topi (y := nI (32 * nd 4294967296 (V pb))) (pk_mul 32 _) ?_
      refine vx_aload_n IG dc_D_run_50 rfl 4 rfl ?_
      refine vx_callV (As := []) (st := [.int (nI (32 * nd 4294967296 (V pb)))]) IG lw_good (cW_bits HP0 hpb ht) (rw_obj HR hpb) rfl wC_W_bits wL_D_43 wI_W_bits wS_W_bits wX_W 0 (by decide +kernel) rfl ⟨Nat.le_of_ble_eq_true rfl, Nat.le_of_ble_eq_true rfl⟩ ⟨(by dsimp only [rm_]; omega), (by dsimp only [rm_]; omega)⟩ rfl (Nat.le_of_ble_eq_true rfl) dc_D_run_51 (fun v h k5 n5 hq => ?_)
      obtain ⟨rfl, rfl, rfl, rfl⟩ := hq
      show vx_V _ _ _ _ _ _ _ _ _ 54 [(4, .int (nI (nd 4294967296 (V pa) - nd 4294967296 (V pb) + 1))), (3, .int (nI (nd 4294967296 (V pb)))), (0, .ref dv), (1, .ref pa), (2, .ref pb)] [.int (nI (bl (V pb))), .int (nI (32 * nd 4294967296 (V pb)))]
      refine vx_isub IG dc_D_run_54 ?_
      refine vx_topi (y := nI (32 * nd 4294967296 (V pb) - bl (V pb))) (pk_sub sf1) ?_
      refine vx_istore (lv' := [(5, .int (nI (32 * nd 4294967296 (V pb) - bl (V pb)))), (4, .int (nI (nd 4294967296 (V pa) - nd 4294967296 (V pb) + 1))), (3, .int (nI (nd 4294967296 (V pb)))), (0, .ref dv), (1, .ref pa), (2, .ref pb)]) IG dc_D_run_55 (by decide) rfl ?_
      refine vx_aload_n IG dc_D_run_57 rfl 3 rfl ?_
      refine vx_get IG (rw_r HR hdv) rfl 2 (by decide) inD wF_D_21 rfl rfl dc_D_run_58 ?_
      refine vx_aload_n IG dc_D_run_61 rfl 5 rfl ?_
      refine vx_iload IG dc_D_run_62 0 rfl ?_
      refine vx_callV (As := [.ref pb, .int (nI (32 * nd 4294967296 (V pb) - bl (V pb)))]) (st := []) IG lw_good (cW_raise HP0 hL hsc hpb ht (by omega) (by omega)) (rw_obj HR hsc) rfl wC_W_raise wL_D_47 wI_W_raise wS_W_raise wX_W 2 (by decide +kernel) rfl ⟨Nat.le_of_ble_eq_true rfl, Nat.le_of_ble_eq_true rfl⟩ ⟨(by dsimp only [rm_]; omega), (by dsimp only [rm_]; omega)⟩ rfl (Nat.le_of_ble_eq_true rfl) dc_D_run_64 (fun v h k6 n6 hq => ?_)
      obtain ⟨rfl, C1, S1, HP1, hk1, hm1⟩ := hq
      have HP1c := HP1
      obtain ⟨ar1, cp1, cn1, fn1, HR1, hV1, hC1, hS1⟩ := HP1
      show vx_V _ _ _ _ _ _ _ _ _ 67 [(5, .int (nI (32 * nd 4294967296 (V pb) - bl (V pb)))), (4, .int (nI (nd 4294967296 (V pa) - nd 4294967296 (V pb) + 1))), (3, .int (nI (nd 4294967296 (V pb)))), (0, .ref dv), (1, .ref pa), (2, .ref pb)] []
      refine vx_aload_n IG dc_D_run_67 rfl 3 rfl ?_
      refine vx_get IG (rw_r HR1 hdv) rfl 1 (by decide) inD wF_D_18 rfl rfl dc_D_run_68 ?_
      refine vx_aload_n IG dc_D_run_71 rfl 4 rfl ?_
      refine vx_iload IG dc_D_run_72 0 rfl ?_
      refine vx_callV (As := [.ref pa, .int (nI (32 * nd 4294967296 (V pb) - bl (V pb)))]) (st := []) IG lw_good (cW_raise HP1c hL hrs hpa ht (by omega) (by rw [va_up_ne _ _ a3]; omega)) (rw_obj HR1 hrs) rfl wC_W_raise wL_D_47 wI_W_raise wS_W_raise wX_W 2 (by decide +kernel) rfl ⟨Nat.le_of_ble_eq_true rfl, Nat.le_of_ble_eq_true rfl⟩ ⟨(by dsimp only [rm_]; omega), (by dsimp only [rm_]; omega)⟩ rfl (Nat.le_of_ble_eq_true rfl) dc_D_run_74 (fun v h k7 n7 hq => ?_)
      obtain ⟨rfl, C2, S2, HP2, hk2, hm2⟩ := hq
      obtain ⟨ar2, cp2, cn2, fn2, HR2, hV2, hC2, hS2⟩ := HP2
      rw [va_up_ne _ _ a3] at hV2
      generalize esc : 32 * nd 4294967296 (V pb) - bl (V pb) = sl at *
      have vsc : wv cp2 cn2 fn2 sc (V pb * 2 ^ sl) := by have := hV2 sc hsc; rw [va_up_ne _ _ n3, va_up_self] at this; exact this
      have vrs : wv cp2 cn2 fn2 rs (V pa * 2 ^ sl) := by have := hV2 rs hrs; rw [va_up_self] at this; exact this
      have vpa : wv cp2 cn2 fn2 pa (V pa) := by have := hV2 pa hpa; rw [va_up_ne _ _ a2, va_up_ne _ _ a3] at this; exact this
      show vx_V _ _ _ _ _ _ _ _ _ 77 [(5, .int (nI sl)), (4, .int (nI (nd 4294967296 (V pa) - nd 4294967296 (V pb) + 1))), (3, .int (nI (nd 4294967296 (V pb)))), (0, .ref dv), (1, .ref pa), (2, .ref pb)] []
      refine vx_aload_n IG dc_D_run_77 rfl 3 rfl ?_
      refine vx_get IG (rw_r HR2 hdv) rfl 1 (by decide) inD wF_D_18 rfl rfl dc_D_run_78 ?_
      refine vx_aload_n IG dc_D_run_81 rfl 4 rfl ?_
      refine wr_cnt IG HR2 hpa wF_D_39 dc_D_run_82 ?_
      refine vx_topi (y := nI (nd 4294967296 (V pa))) vpa.1 ?_
      refine vx_iconst (v := 1) IG dc_D_run_85 (by decide) ?_
      refine vx_iadd IG dc_D_run_86 ?_
      refine vx_topi (y := nI (nd 4294967296 (V pa) + 1)) (nI_1 _) ?_
      have hsl0 : sl / 32 = 0 := by omega
      have hndA2 : nd 4294967296 (V pa * 2 ^ sl) ≤ nd 4294967296 (V pa) + 1 := by have := nd_raise (A := V pa) (n := sl); omega
      refine vx_callV (As := [.int (nI (nd 4294967296 (V pa) + 1))]) (st := []) IG lw_good (cW_widen HR2 hL hrs ht (n := nd 4294967296 (V pa) + 1) vrs.1 vrs.2.1 (by omega) hC2 hS2) (rw_obj HR2 hrs) rfl wC_W_widen wL_D_51 wI_W_widen wS_W_widen wX_W 1 (by decide +kernel) rfl ⟨Nat.le_of_ble_eq_true rfl, Nat.le_of_ble_eq_true rfl⟩ ⟨(by dsimp only [rm_]; omega), (by dsimp only [rm_]; omega)⟩ rfl (Nat.le_of_ble_eq_true rfl) dc_D_run_87 (fun v h k8 n8 hq => ?_)
      obtain ⟨rfl, ar3, cp3, fn3, HR3, ho3, hn3, hge3, hlow3, hzero3, hk3, hm3⟩ := hq
      have vsc3 : wv cp3 cn2 fn3 sc (V pb * 2 ^ sl) := wv_same vsc (ho3 sc n3).1 rfl (ho3 sc n3).2
      have drs3 : ∀ i, i < nd 4294967296 (V pa) + 1 → dg 4294967296 (V pa * 2 ^ sl) i < 4294967296 ∧ fn3 rs i = lN (dg 4294967296 (V pa * 2 ^ sl) i) := by
        intro i hi
        refine ⟨dg_lt bB1 _ _, ?_⟩
        by_cases z : i < nd 4294967296 (V pa * 2 ^ sl)
        · rw [hlow3 i z]; exact vrs.2.2 i z
        · rw [hzero3 i (Nat.le_of_not_lt z) hi, dg_big (Nat.lt_of_lt_of_le (lt_nd bB1 _) (Nat.pow_le_pow_right (by decide) (Nat.le_of_not_lt z)))]; rfl
      show vx_V _ _ _ _ _ _ _ _ _ 90 [(5, .int (nI sl)), (4, .int (nI (nd 4294967296 (V pa) - nd 4294967296 (V pb) + 1))), (3, .int (nI (nd 4294967296 (V pb)))), (0, .ref dv), (1, .ref pa), (2, .ref pb)] []
      refine vx_aload_n IG dc_D_run_90 rfl 3 rfl ?_
      refine vx_get IG (rw_r HR3 hdv) rfl 0 (by decide) inD wF_D_12 rfl rfl dc_D_run_91 ?_
      refine vx_iload IG dc_D_run_94 1 rfl ?_
      refine vx_callV (As := [.int (nI (nd 4294967296 (V pa) - nd 4294967296 (V pb) + 1))]) (st := []) IG lw_good (cW_room HR3 hL hqo ht (n := nd 4294967296 (V pa) - nd 4294967296 (V pb) + 1) (by omega) (Nat.le_refl _) (Nat.le_refl _)) (rw_obj HR3 hqo) rfl wC_W_room wL_D_55 wI_W_room wS_W_room wX_W 1 (by decide +kernel) rfl ⟨Nat.le_of_ble_eq_true rfl, Nat.le_of_ble_eq_true rfl⟩ ⟨(by dsimp only [rm_]; omega), (by dsimp only [rm_]; omega)⟩ rfl (Nat.le_of_ble_eq_true rfl) dc_D_run_96 (fun v h k9 n9 hq => ?_)
      obtain ⟨rfl, ar4, cp4, fn4, HR4, ho4, hn4, hge4, hsame4, hk4, hm4⟩ := hq
      have hcq := rw_cap HR4 hqo
      have hcr := rw_cap HR4 hrs
      have htr : nd 4294967296 (V pa) + 1 ≤ cp4 rs := by rw [(ho4 rs n1).1]; exact hn3
      have vsc4 : wv cp4 cn2 fn4 sc (V pb * 2 ^ sl) := wv_same vsc3 (ho4 sc n2).1 rfl (ho4 sc n2).2
      have hnB : 0 < nd 4294967296 (V pb) := by
        rcases Nat.eq_zero_or_pos (nd 4294967296 (V pb)) with q | q
        · exact absurd ((nd_eq_zero bB1).mp q) z0
        · exact q
      obtain ⟨m, em⟩ : ∃ m, nd 4294967296 (V pb) = m + 1 := ⟨nd 4294967296 (V pb) - 1, by omega⟩
      obtain ⟨pl, epl⟩ : ∃ pl, nd 4294967296 (V pa) = pl + m + 1 := ⟨nd 4294967296 (V pa) - (m + 1), by omega⟩
      have hSs : ∀ i, i < m + 1 → dg 4294967296 (V pb * 2 ^ sl) i < 4294967296 ∧ fn4 sc i = lN (dg 4294967296 (V pb * 2 ^ sl) i) := fun i hi => ⟨dg_lt bB1 _ _, vsc4.2.2 i (by rw [sf3]; omega)⟩
      have hScap : m + 1 ≤ cp4 sc := by have := vsc4.2.1; rw [sf3] at this; omega
      have hSv : vl 4294967296 (dg 4294967296 (V pb * 2 ^ sl)) (m + 1) = V pb * 2 ^ sl := vl_nd_le bB1 (by rw [sf3]; omega)
      have hShi : 2147483648 ≤ dg 4294967296 (V pb * 2 ^ sl) m := by rw [em, Nat.add_sub_cancel] at sf4; exact sf4
      have hSlt : V pb * 2 ^ sl < 4294967296 ^ (m + 1) := by rw [← em, ← sf3]; exact lt_nd bB1 _
      have hSpos : 0 < V pb * 2 ^ sl := Nat.mul_pos (Nat.pos_of_ne_zero z0) (Nat.pow_pos (by decide))
      have hstart : V pa * 2 ^ sl < V pb * 2 ^ sl * 4294967296 ^ (pl + 1) := by
        have q1 : 4294967296 ^ m ≤ V pb := (nd_lt bB1).mp (by omega)
        have q2 : V pa < 4294967296 ^ (m + (pl + 1)) := by rw [show m + (pl + 1) = nd 4294967296 (V pa) by omega]; exact lt_nd bB1 _
        rw [Nat.mul_right_comm]
        refine Nat.mul_lt_mul_of_pos_right (Nat.lt_of_lt_of_le q2 ?_) (Nat.pow_pos (by decide))
        rw [Nat.pow_add]
        exact Nat.mul_le_mul_right _ q1
      have epl1 : nd 4294967296 (V pa) - nd 4294967296 (V pb) + 1 = pl + 1 := by omega
      rw [epl1, em]
      show vx_V _ _ _ _ _ _ _ _ _ 99 [(5, .int (nI sl)), (4, .int (nI (pl + 1))), (3, .int (nI (m + 1))), (0, .ref dv), (1, .ref pa), (2, .ref pb)] []
      have loop : ∀ (i : Nat), i ≤ pl + 1 → ∀ (h : vx_h) (fn5 : Nat → Nat → Int64) (d qd : Nat → Nat), (∀ q, q ≠ rs → q ≠ qo → fn5 q = fn4 q) → (∀ j, j < pl + m + 2 → d j < 4294967296 ∧ fn5 rs j = lN (d j)) → (∀ j, i ≤ j → j < pl + 1 → qd j < 4294967296 ∧ fn5 qo j = lN (qd j)) → vl 4294967296 (fun j => if j < i then 0 else qd j) (pl + 1) * (V pb * 2 ^ sl) + vl 4294967296 d (pl + m + 2) = V pa * 2 ^ sl → vl 4294967296 d (pl + m + 2) < V pb * 2 ^ sl * 4294967296 ^ i → rw_at 2 cJ L r ar4 cp4 cn2 fn5 h → vx_V D vcl A H0 7 G h (0 + 0 + 0 + 0 + k6 + k7 + k8 + k9) (0 + 0 + 0 + 0 + n6 + n7 + n8 + n9) 105 [(6, .int (nI i - 1)), (5, .int (nI sl)), (4, .int (nI (pl + 1))), (3, .int (nI (m + 1))), (0, .ref dv), (1, .ref pa), (2, .ref pb)] [] := by
        intro i
        induction i with
        | zero =>
          intro hi h fn5 d qd f1 f2 f3 f4 f5 HR5
          rw [Nat.pow_zero, Nat.mul_one] at f5
          have eq0 : vl 4294967296 (fun j => if j < 0 then 0 else qd j) (pl + 1) = vl 4294967296 qd (pl + 1) := vl_congr (fun j _ => by show (if j < 0 then 0 else qd j) = qd j; rw [if_neg (Nat.not_lt_zero j)])
          rw [eq0] at f4
          have hRd : vl 4294967296 d (m + 1) = vl 4294967296 d (pl + m + 2) := by
            have := vl_hi0 (d := d) (k := 0) (n := m + 1) (t := pl + 1) (fun i hi => (f2 i (by omega)).1) (by rw [show 0 + (m + 1) + (pl + 1) = pl + m + 2 by omega, Nat.zero_add]; omega)
            rw [show 0 + (m + 1) + (pl + 1) = pl + m + 2 by omega] at this
            rw [this]
            simp [vl, Nat.zero_add]
          have hQ : vl 4294967296 qd (pl + 1) = V pa / V pb := by
            have q1 : V pa * 2 ^ sl / (V pb * 2 ^ sl) = V pa / V pb := Nat.mul_div_mul_right _ _ (Nat.pow_pos (by decide))
            rw [← q1, ← f4, Nat.mul_comm, Nat.mul_add_div hSpos, Nat.div_eq_of_lt f5]
            exact (Nat.add_zero _).symm
          have hR : vl 4294967296 d (m + 1) / 2 ^ sl = V pa % V pb := by
            have q1 : V pa * 2 ^ sl % (V pb * 2 ^ sl) = V pa % V pb * 2 ^ sl := Nat.mul_mod_mul_right _ _ _
            rw [← f4, Nat.mul_comm _ (V pb * 2 ^ sl), Nat.mul_add_mod, Nat.mod_eq_of_lt f5] at q1
            rw [hRd, q1, Nat.mul_div_cancel _ (Nat.pow_pos (by decide))]
          refine vx_iload IG dc_D_run_105 0 rfl ?_
          refine vx_if_lt (tgt := 133) IG dc_D_run_107 (by decide) (fun _ => ?_) (fun c_ => absurd (by decide) c_)
          refine vx_aload_n IG dc_D_run_133 rfl 4 rfl ?_
          refine vx_get IG (rw_r HR5 hdv) rfl 0 (by decide) inD wF_D_12 rfl rfl dc_D_run_134 ?_
          refine vx_iload IG dc_D_run_137 2 rfl ?_
          have hqd : ∀ j, j < pl + 1 → qd j < 4294967296 ∧ fn5 qo j = lN (qd j) := fun j hj => f3 j (Nat.zero_le j) hj
          have hrd : ∀ j, j < m + 1 → d j < 4294967296 ∧ fn5 rs j = lN (d j) := fun j hj => f2 j (by omega)
          refine vx_callV (As := [.int (nI (pl + 1))]) (st := []) IG lw_good (cW_trim HR5 hqo ht (n := pl + 1) (by omega) qd hqd) (rw_obj HR5 hqo) rfl wC_W_trim wL_D_66 wI_W_trim wS_W_trim wX_W 1 (by decide +kernel) rfl ⟨Nat.le_of_ble_eq_true rfl, Nat.le_of_ble_eq_true rfl⟩ ⟨(by dsimp only [rm_]; omega), (by dsimp only [rm_]; omega)⟩ rfl (Nat.le_of_ble_eq_true rfl) dc_D_run_139 (fun v h k10 n10 hq => ?_)
          obtain ⟨rfl, rfl, rfl, HR6⟩ := hq
          show vx_V _ _ _ _ _ _ _ _ _ 142 [(6, .int (nI 0 - 1)), (5, .int (nI sl)), (4, .int (nI (pl + 1))), (3, .int (nI (m + 1))), (0, .ref dv), (1, .ref pa), (2, .ref pb)] []
          refine vx_aload_n IG dc_D_run_142 rfl 4 rfl ?_
          refine vx_get IG (rw_r HR6 hdv) rfl 1 (by decide) inD wF_D_18 rfl rfl dc_D_run_143 ?_
          refine vx_iload_n IG dc_D_run_146 rfl 3 rfl ?_
          refine vx_callV (As := [.int (nI (m + 1))]) (st := []) IG lw_good (cW_trim HR6 hrs ht (n := m + 1) (by omega) d hrd) (rw_obj HR6 hrs) rfl wC_W_trim wL_D_66 wI_W_trim wS_W_trim wX_W 1 (by decide +kernel) rfl ⟨Nat.le_of_ble_eq_true rfl, Nat.le_of_ble_eq_true rfl⟩ ⟨(by dsimp only [rm_]; omega), (by dsimp only [rm_]; omega)⟩ rfl (Nat.le_of_ble_eq_true rfl) dc_D_run_147 (fun v h k11 n11 hq => ?_)
          obtain ⟨rfl, rfl, rfl, HR7⟩ := hq
          have HP7 : pool cJ L r (va_up (va_up (va_up V sc (V pb * 2 ^ sl)) qo (V pa / V pb)) rs (vl 4294967296 d (m + 1))) h (pc_ cp4 L) (ph cp4 L) := by
            refine ⟨ar4, cp4, _, fn5, HR7, fun q hq => ?_, Nat.le_refl _, Nat.le_refl _⟩
            by_cases z2 : q = rs
            · subst z2
              rw [va_up_self]
              exact wv_trim hrd (by omega) (va_up_self _ _ _)
            · rw [va_up_ne _ _ z2]
              by_cases z3 : q = qo
              · subst z3
                rw [va_up_self, ← hQ]
                have := wv_trim (cp := cp4) (fn := fn5) (p := q) (cn' := va_up cn2 q (nI (nd 4294967296 (vl 4294967296 qd (pl + 1))))) hqd (by omega) (va_up_self _ _ _)
                exact wv_same this rfl (va_up_ne _ _ z2) rfl
              · rw [va_up_ne _ _ z3]
                have hv2 := hV2 q hq
                rw [va_up_ne _ _ z2] at hv2
                refine wv_same hv2 ?_ ?_ ?_
                · rw [(ho4 q z3).1, (ho3 q z2).1]
                · rw [va_up_ne _ _ z2, va_up_ne _ _ z3]
                · rw [f1 q z2 z3, (ho4 q z3).2, (ho3 q z2).2]
          show vx_V _ _ _ _ _ _ _ _ _ 150 [(6, .int (nI 0 - 1)), (5, .int (nI sl)), (4, .int (nI (pl + 1))), (3, .int (nI (m + 1))), (0, .ref dv), (1, .ref pa), (2, .ref pb)] []
          refine vx_aload_n IG dc_D_run_150 rfl 4 rfl ?_
          refine vx_get IG (rw_r HR7 hdv) rfl 1 (by decide) inD wF_D_18 rfl rfl dc_D_run_151 ?_
          refine vx_aload_n IG dc_D_run_154 rfl 4 rfl ?_
          refine vx_get IG (rw_r HR7 hdv) rfl 1 (by decide) inD wF_D_18 rfl rfl dc_D_run_155 ?_
          refine vx_iload IG dc_D_run_158 1 rfl ?_
          have hrs4 : nd 4294967296 (vl 4294967296 d (m + 1)) ≤ 4100 := Nat.le_trans ((nd_le bB1).mpr (vl_lt bB1 (fun j hj => (hrd j hj).1))) (by omega)
          refine vx_callV (As := [.ref rs, .int (nI sl)]) (st := []) IG lw_good (cW_lower HP7 hL hrs hrs ht (n := sl) (by omega) (by rw [va_up_self]; exact hrs4)) (rw_obj HR7 hrs) rfl wC_W_lower wL_D_69 wI_W_lower wS_W_lower wX_W 2 (by decide +kernel) rfl ⟨Nat.le_of_ble_eq_true rfl, Nat.le_of_ble_eq_true rfl⟩ ⟨(by dsimp only [rm_]; omega), (by dsimp only [rm_]; omega)⟩ rfl (Nat.le_of_ble_eq_true rfl) dc_D_run_160 (fun v h k12 n12 hq => ?_)
          obtain ⟨rfl, C8, S8, HP8, hk8, hm8⟩ := hq
          show vx_V _ _ _ _ _ _ _ _ _ 163 [(6, .int (nI 0 - 1)), (5, .int (nI sl)), (4, .int (nI (pl + 1))), (3, .int (nI (m + 1))), (0, .ref dv), (1, .ref pa), (2, .ref pb)] []
          refine vx_ret none RG (vx_endv dc_D_run_163) rfl ?_
          refine ⟨rfl, _, C8, S8, HP8, ?_, ?_, fun q y1 y2 y3 => ?_, by omega, by omega⟩
          · rw [va_up_ne _ _ (Ne.symm n1), va_up_ne _ _ (Ne.symm n1), va_up_self]
          · rw [va_up_self, va_up_self, hR]
          · rw [va_up_ne _ _ y2, va_up_ne _ _ y2, va_up_ne _ _ y1, va_up_ne _ _ y3]
        | succ i ih =>
          intro hi h fn5 d qd f1 f2 f3 f4 f5 HR5
          have hwin : vl 4294967296 d (pl + m + 2) < 4294967296 ^ (i + (m + 2)) := by
            have : V pb * 2 ^ sl * 4294967296 ^ (i + 1) ≤ 4294967296 ^ (m + 1) * 4294967296 ^ (i + 1) := Nat.mul_le_mul_right _ (Nat.le_of_lt hSlt)
            rw [← Nat.pow_add, show m + 1 + (i + 1) = i + (m + 2) by omega] at this
            omega
          obtain ⟨t, et⟩ : ∃ t, pl + m + 2 = i + (m + 2) + t := ⟨pl - i, by omega⟩
          rw [et] at hwin f4 f5
          have hRe := vl_hi0 (d := d) (k := i) (n := m + 2) (t := t) (fun j hj => (f2 j (by omega)).1) hwin
          have hW : vl 4294967296 (fun j => d (i + j)) (m + 2) < V pb * 2 ^ sl * 4294967296 := by
            refine Nat.lt_of_mul_lt_mul_right (a := 4294967296 ^ i) ?_
            rw [Nat.mul_assoc, Nat.mul_comm 4294967296, ← bp_succ]
            omega
          rw [nI_pred]
          refine vx_iload IG dc_D_run_105 0 rfl ?_
          refine vx_if_lt (tgt := 133) IG dc_D_run_107 (by decide) (fun c_ => absurd c_ (nI_pos (by omega))) (fun _ => ?_)
          refine vx_aload_n IG dc_D_run_110 rfl 4 rfl ?_
          refine vx_get IG (rw_r HR5 hdv) rfl 0 (by decide) inD wF_D_12 rfl rfl dc_D_run_111 ?_
          refine wr_dig IG HR5 hqo wF_D_58 dc_D_run_114 ?_
          refine vx_iload IG dc_D_run_117 0 rfl ?_
          refine vx_aload_n IG dc_D_run_119 rfl 4 rfl ?_
          refine vx_iload IG dc_D_run_120 0 rfl ?_
          refine vx_iload_n IG dc_D_run_122 rfl 3 rfl ?_
          refine vx_callV (As := [.int (nI i), .int (nI (m + 1))]) (st := [.int (nI i), .ref (ar4 qo)]) IG lw_good (cD_takeOut HR5 hdv hrs hsc n3 ht (place := i) (m := m) (tot := pl + m + 2) d f2 (by omega) (by omega) (dg 4294967296 (V pb * 2 ^ sl)) (fun j hj => ⟨(hSs j hj).1, by rw [f1 sc n3 n2]; exact (hSs j hj).2⟩) hScap hShi (by rw [hSv]; exact hW)) (rw_r HR5 hdv) rfl wC_D_takeOut wL_D_62 wI_D_takeOut wS_D_takeOut wX_D 2 (by decide +kernel) rfl ⟨Nat.le_of_ble_eq_true rfl, Nat.le_of_ble_eq_true rfl⟩ ⟨(by dsimp only [rm_]; omega), (by dsimp only [rm_]; omega)⟩ rfl (Nat.le_of_ble_eq_true rfl) dc_D_run_123 (fun v h k13 n13 hq => ?_)
          obtain ⟨rfl, rfl, rfl, fn6, e, HR6, g1, g2, g3, g4⟩ := hq
          rw [hSv] at g4
          rw [hSv]
          show vx_V _ _ _ _ _ _ _ _ _ 126 [(6, .int (nI i)), (5, .int (nI sl)), (4, .int (nI (pl + 1))), (3, .int (nI (m + 1))), (0, .ref dv), (1, .ref pa), (2, .ref pb)] [.long (lN (vl 4294967296 (fun j => d (i + j)) (m + 2) / (V pb * 2 ^ sl))), .int (nI i), .ref (ar4 qo)]
          refine wr_ast IG HR6 hqo ht i rfl (by omega) dc_D_run_126 (fun h HR6 => ?_)
          obtain ⟨fn7, e_fn7⟩ : ∃ z, z = va_up fn6 qo (vp_updL (fn6 qo) i (lN (vl 4294967296 (fun j => d (i + j)) (m + 2) / (V pb * 2 ^ sl)))) := ⟨_, rfl⟩
          rw [← e_fn7] at HR6
          refine vx_iinc (q := 0) (v := nI i - 1) (lv' := [(6, .int (nI i - 1)), (5, .int (nI sl)), (4, .int (nI (pl + 1))), (3, .int (nI (m + 1))), (0, .ref dv), (1, .ref pa), (2, .ref pb)]) IG dc_D_run_127 rfl (i32_dec _) (by decide) rfl ?_
          refine vx_goto (tgt := 105) IG dc_D_run_130 (by decide) ?_
          have hRn := vl_win (d := d) (e := e) (k := i) (n := m + 2) (t := t) hwin (fun j hj => g3 j (Or.inl hj)) (fun j hj => g3 j (Or.inr hj))
          rw [g4] at hRn
          have hdlt : vl 4294967296 d i < 4294967296 ^ i := vl_lt bB1 (fun j hj => (f2 j (by omega)).1)
          have hqlt : vl 4294967296 (fun j => d (i + j)) (m + 2) / (V pb * 2 ^ sl) < 4294967296 := by rw [Nat.div_lt_iff_lt_mul hSpos, Nat.mul_comm]; exact hW
          refine ih (by omega) h fn7 e (fun j => if j = i then vl 4294967296 (fun j => d (i + j)) (m + 2) / (V pb * 2 ^ sl) else qd j) (fun q y1 y2 => ?_) (fun j hj => ?_) (fun j h1 h2 => ?_) ?_ ?_ HR6
          · rw [e_fn7, va_up_ne _ _ y2, g1 q y1]; exact f1 q y1 y2
          · refine ⟨(g2 j hj).1, ?_⟩
            rw [e_fn7, va_up_ne _ _ n1]; exact (g2 j hj).2
          · by_cases y : j = i
            · simp only [y, if_true]
              exact ⟨hqlt, by rw [e_fn7, va_up_self, pk_uLs]⟩
            · simp only [y, if_false]
              refine ⟨(f3 j (by omega) h2).1, ?_⟩
              rw [e_fn7, va_up_self, pk_uLn y, g1 qo (Ne.symm n1)]
              exact (f3 j (by omega) h2).2
          · rw [et, hRn]
            have hqs : vl 4294967296 (fun j => if j < i then 0 else (fun j => if j = i then vl 4294967296 (fun j => d (i + j)) (m + 2) / (V pb * 2 ^ sl) else qd j) j) (pl + 1) = vl 4294967296 (fun j => if j < i + 1 then 0 else qd j) (pl + 1) + vl 4294967296 (fun j => d (i + j)) (m + 2) / (V pb * 2 ^ sl) * 4294967296 ^ i := by
              rw [show pl + 1 = i + 1 + (pl - i) by omega]
              refine am_end (fun j hj => ?_) (fun j hj => ?_) ?_
              · show (if j < i then 0 else _) = if j < i + 1 then 0 else qd j
                rw [if_pos hj, if_pos (by omega)]
              · show (if j < i then 0 else if j = i then _ else qd j) = if j < i + 1 then 0 else qd j
                rw [if_neg (by omega), if_neg (by omega), if_neg (by omega)]
              · show 0 + (if i + 0 < i then 0 else if i + 0 = i then _ else qd (i + 0)) * 4294967296 ^ 0 = _ + (0 + (if i + 0 < i + 1 then 0 else qd (i + 0)) * 4294967296 ^ 0)
                rw [if_neg (by omega), if_pos (Nat.add_zero i), if_pos (by omega)]
                omega
            rw [hqs]
            exact dv_step f4 hRe rfl
          · rw [et, hRn]
            have hmlt := Nat.mod_lt (vl 4294967296 (fun j => d (i + j)) (m + 2)) hSpos
            have : (vl 4294967296 (fun j => d (i + j)) (m + 2) % (V pb * 2 ^ sl) + 1) * 4294967296 ^ i ≤ V pb * 2 ^ sl * 4294967296 ^ i := Nat.mul_le_mul_right _ hmlt
            rw [Nat.add_mul, Nat.one_mul] at this
            omega
      refine vx_iload IG dc_D_run_99 1 rfl ?_
      refine vx_iconst (v := 1) IG dc_D_run_101 (by decide) ?_
      refine vx_isub IG dc_D_run_102 ?_
      refine vx_istore (lv' := [(6, .int (nI (pl + 1) - 1)), (5, .int (nI sl)), (4, .int (nI (pl + 1))), (3, .int (nI (m + 1))), (0, .ref dv), (1, .ref pa), (2, .ref pb)]) IG dc_D_run_103 (by decide) rfl ?_
      refine loop (pl + 1) (Nat.le_refl _) h fn4 (dg 4294967296 (V pa * 2 ^ sl)) (fun _ => 0) (fun _ _ _ => rfl) (fun j hj => ?_) (fun j h1 h2 => by omega) ?_ ?_ HR4
      · rw [(ho4 rs n1).2]; exact drs3 j (by omega)
      · rw [vl_zero (fun j hj => by show (if j < pl + 1 then 0 else 0) = 0; split <;> rfl), Nat.zero_mul, Nat.zero_add]
        exact vl_nd_le bB1 (by omega)
      · rw [vl_nd_le bB1 (by omega)]; exact hstart
end
