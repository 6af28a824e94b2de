/-! Divider: takeOut, run -/
theorem bp32 (n : Nat) : 4294967296 ^ n = 2 ^ (32 * n) := by rw [show (4294967296 : Nat) = 2 ^ 32 from rfl, ← Nat.pow_mul]
theorem scale_facts {B : Nat} (hB : 0 < B) : bl B ≤ 32 * nd 4294967296 B ∧ 32 * nd 4294967296 B - bl B < 32 ∧ nd 4294967296 (B * 2 ^ (32 * nd 4294967296 B - bl B)) = nd 4294967296 B ∧ 2147483648 ≤ dg 4294967296 (B * 2 ^ (32 * nd 4294967296 B - bl B)) (nd 4294967296 B - 1) := by
  have h0 : 0 < nd 4294967296 B := by
    rcases Nat.eq_zero_or_pos (nd 4294967296 B) with q | q
    · have := (nd_eq_zero bB1).mp q; omega
    · exact q
  have ht : bl B + 32 = 32 * nd 4294967296 B + bl (dg 4294967296 B (nd 4294967296 B - 1)) := bl_top (w := 32) (by decide) hB
  have ht1 : 0 < bl (dg 4294967296 B (nd 4294967296 B - 1)) := bl_pos (Nat.pos_of_ne_zero (dg_top bB1 hB))
  have ht2 : bl (dg 4294967296 B (nd 4294967296 B - 1)) ≤ 32 := bl_le.mpr (dg_lt bB1 _ _)
  have hb1 : 2 ^ (bl B - 1) ≤ B := bl_lt.mp (by have := bl_pos hB; omega)
  have hb2 : B < 2 ^ bl B := lt_bl B
  have hbp := bl_pos hB
  generalize hsc : 32 * nd 4294967296 B - bl B = sc at *
  have hlt : B * 2 ^ sc < 4294967296 ^ nd 4294967296 B := by
    rw [show 4294967296 ^ nd 4294967296 B = 2 ^ bl B * 2 ^ sc by rw [bp32, ← Nat.pow_add]; congr 1; omega]
    exact Nat.mul_lt_mul_of_pos_right hb2 (Nat.pow_pos (by decide))
  have hge : 2147483648 * 4294967296 ^ (nd 4294967296 B - 1) ≤ B * 2 ^ sc := by
    rw [show 2147483648 * 4294967296 ^ (nd 4294967296 B - 1) = 2 ^ (bl B - 1) * 2 ^ sc by rw [bp32, ← Nat.pow_add, show (2147483648 : Nat) = 2 ^ 31 from rfl, ← Nat.pow_add]; congr 1; omega]
    exact Nat.mul_le_mul_right _ hb1
  have hnd : nd 4294967296 (B * 2 ^ sc) = nd 4294967296 B := by
    have a1 := (nd_le bB1).mpr hlt
    have a2 : nd 4294967296 B - 1 < nd 4294967296 (B * 2 ^ sc) := (nd_lt bB1).mpr (by have := bp_pos bB1 (nd 4294967296 B - 1); omega)
    omega
  refine ⟨by omega, by omega, hnd, ?_⟩
  have hpos : 0 < B * 2 ^ sc := Nat.mul_pos hB (Nat.pow_pos (by decide))
  have := dg_top_eq bB1 hpos
  rw [hnd] at this
  rw [this, Nat.le_div_iff_mul_le (bp_pos bB1 _)]
  exact hge
section
variable {l : Launch} {D : va_G} {tys : List (ClassId × FieldType)} {cJ : ClassId} {L : List Nat} {r : vx_h} {ar cp : Nat → Nat} {cn : Nat → Int32} {fn : Nat → Nat → Int64} {dv qo rs sc : Nat} {h : vx_h}
set_option maxRecDepth 100000 in
set_option maxHeartbeats 4000000 in
/-- takeOut(place, n): the quotient's digit; the window keeps what is left -/
theorem cD_takeOut (HR : rw_at 2 cJ L r ar cp cn fn h) (hdv : r dv = some (.inr (0, [.ref qo, .ref rs, .ref sc]))) (hrs : rs ∈ L) (hsc : sc ∈ L) (hne : sc ≠ rs) (ht : tys[0]? = some (cJ, .long)) {place m tot : Nat} (d : Nat → Nat) (hd : ∀ i, i < tot → d i < 4294967296 ∧ fn rs i = lN (d i)) (htot : tot ≤ cp rs) (hpl : place + (m + 1) < tot) (s : Nat → Nat) (hs : ∀ i, i < m + 1 → s i < 4294967296 ∧ fn sc i = lN (s i)) (hn : m + 1 ≤ cp sc) (hhi : 2147483648 ≤ s m) (hW : vl 4294967296 (fun j => d (place + j)) (m + 2) < vl 4294967296 s (m + 1) * 4294967296) : vx_M l D vcl tys my_D_takeOut lw_gd (rm_ 3 0 0 82) [.ref dv, .int (nI place), .int (nI (m + 1))] h (fun v h' k n => v = some (.long (lN (vl 4294967296 (fun j => d (place + j)) (m + 2) / vl 4294967296 s (m + 1)))) ∧ k = 0 ∧ n = 0 ∧ ∃ (fn' : Nat → Nat → Int64) (e : Nat → Nat), rw_at 2 cJ L r ar cp cn fn' h' ∧ (∀ q, q ≠ rs → fn' q = fn q) ∧ (∀ i, i < tot → e i < 4294967296 ∧ fn' rs i = lN (e i)) ∧ (∀ j, j < place ∨ place + (m + 2) ≤ j → e j = d j) ∧ vl 4294967296 (fun j => e (place + j)) (m + 2) = vl 4294967296 (fun j => d (place + j)) (m + 2) % vl 4294967296 s (m + 1)) := by
  have hslt : vl 4294967296 s (m + 1) < 4294967296 ^ (m + 1) := vl_lt bB1 (fun j hj => (hs j hj).1)
  have hSpos : 0 < vl 4294967296 s (m + 1) := by
    rw [vl_succ]
    have := bp_pos bB1 m
    have h2 : 1 * 4294967296 ^ m ≤ s m * 4294967296 ^ m := Nat.mul_le_mul_right _ (by omega)
    omega
  refine vx_M.ofV (cc := bc_D_takeOut) (maxL := 5) (ret := some .long) (own := rD) false rfl (by decide +kernel) wC_D_takeOut (fun q => by cases q) (Nat.le_of_ble_eq_true rfl) (fun A H0 G IG RG => ?_)
  show vx_V _ _ _ _ _ _ _ _ _ 0 [(0, .ref dv), (1, .int (nI place)), (2, .int (nI (m + 1)))] []
  refine vx_aload_n IG dc_D_takeOut_0 rfl 0 rfl ?_
  refine vx_iload_n IG dc_D_takeOut_1 rfl 1 rfl ?_
  refine vx_iload_n IG dc_D_takeOut_2 rfl 2 rfl ?_
  refine vx_callV (As := [.int (nI place), .int (nI (m + 1))]) (st := []) IG lw_good (cD_guess HR hdv hrs hsc ht d hd htot hpl s hs hn hhi hW) (rw_r HR hdv) rfl wC_D_guess wL_D_72 wI_D_guess wS_D_guess wX_D 2 (by decide +kernel) rfl ⟨Nat.le_of_ble_eq_true rfl, Nat.le_of_ble_eq_true rfl⟩ ⟨(by decide), (by decide)⟩ rfl (Nat.le_of_ble_eq_true rfl) dc_D_takeOut_3 (fun v h k_ n_ hq => ?_)
  obtain ⟨rfl, rfl, rfl, g, rfl, hg, hg1, hg2⟩ := hq
  show vx_V _ _ _ _ _ _ _ _ _ 6 [(0, .ref dv), (1, .int (nI place)), (2, .int (nI (m + 1)))] [.long (lN g)]
  have hdm := Nat.div_add_mod (vl 4294967296 (fun j => d (place + j)) (m + 2)) (vl 4294967296 s (m + 1))
  have hml := Nat.mod_lt (vl 4294967296 (fun j => d (place + j)) (m + 2)) hSpos
  have hwlt : ∀ (e : Nat → Nat), (∀ i, i < tot → e i < 4294967296 ∧ True) → vl 4294967296 (fun j => e (place + j)) (m + 2) < 4294967296 ^ (m + 2) := fun e he => vl_lt bB1 (fun j hj => (he (place + j) (by omega)).1)
  generalize eW : vl 4294967296 (fun j => d (place + j)) (m + 2) = Wd at *
  generalize eS : vl 4294967296 s (m + 1) = Sv at *
  refine vx_lstore_n (lv' := [(3, .long (lN g)), (0, .ref dv), (1, .int (nI place)), (2, .int (nI (m + 1)))]) IG dc_D_takeOut_6 rfl (by decide) rfl ?_
  refine vx_lload_n IG dc_D_takeOut_7 rfl 0 rfl ?_
  refine vx_lconst (v := 0) IG dc_D_takeOut_8 (by decide) ?_
  refine vx_lcmp IG dc_D_takeOut_9 ?_
  by_cases z : g = 0
  · refine vx_if_ne (tgt := 15) IG dc_D_takeOut_10 (by decide) (fun c_ => absurd ((lg_cmp_eq _ _).mpr (by rw [z]; rfl)) c_) (fun _ => ?_)
    refine vx_lconst (v := 0) IG dc_D_takeOut_13 (by decide) ?_
    refine vx_ret (some (.long 0)) RG (vx_endl dc_D_takeOut_14) rfl ?_
    have hq0 : Wd / Sv = 0 := by rw [z] at hg1; exact Nat.le_zero.mp hg1
    refine ⟨by rw [hq0]; rfl, rfl, rfl, fn, d, HR, fun _ _ => rfl, hd, fun _ _ => rfl, ?_⟩
    rw [hq0, Nat.mul_zero, Nat.zero_add] at hdm
    rw [hdm]; exact eW
  · refine vx_if_ne (tgt := 15) IG dc_D_takeOut_10 (by decide) (fun _ => ?_) (fun c_ => absurd c_ (fun q => z (ln_eq (by omega) (by decide) ((lg_cmp_eq _ _).mp q))))
    refine vx_aload_n IG dc_D_takeOut_15 rfl 1 rfl ?_
    refine vx_iload_n IG dc_D_takeOut_16 rfl 2 rfl ?_
    refine vx_iload_n IG dc_D_takeOut_17 rfl 3 rfl ?_
    refine vx_lload_n IG dc_D_takeOut_18 rfl 0 rfl ?_
    refine vx_callV (As := [.int (nI place), .int (nI (m + 1)), .long (lN g)]) (st := []) IG lw_good (cD_subtract HR hdv hrs hsc hne ht hg d hd htot hpl s hs hn) (rw_r HR hdv) rfl wC_D_subtract wL_D_75 wI_D_subtract wS_D_subtract wX_D 3 (by decide +kernel) rfl ⟨Nat.le_of_ble_eq_true rfl, Nat.le_of_ble_eq_true rfl⟩ ⟨(by decide), (by decide)⟩ rfl (Nat.le_of_ble_eq_true rfl) dc_D_takeOut_19 (fun v h k_ n_ hq => ?_)
    obtain ⟨rfl, rfl, fn1, e, HR, h1, h2, h3, h4⟩ := hq
    rcases h4 with ⟨rfl, h4⟩ | ⟨rfl, h4⟩
    · show vx_V _ _ _ _ _ _ _ _ _ 22 [(3, .long (lN g)), (0, .ref dv), (1, .int (nI place)), (2, .int (nI (m + 1)))] [.int 0]
      refine vx_if_ne (tgt := 27) IG dc_D_takeOut_22 (by decide) (fun c_ => absurd rfl c_) (fun _ => ?_)
      refine vx_lload_n IG dc_D_takeOut_25 rfl 0 rfl ?_
      refine vx_ret (some (.long (lN g))) RG (vx_endl dc_D_takeOut_26) rfl ?_
      have h5 : vl 4294967296 (fun j => e (place + j)) (m + 2) + g * Sv = Wd := by rw [← eW, ← eS]; exact h4
      have h6 : g ≤ Wd / Sv := by rw [Nat.le_div_iff_mul_le hSpos]; omega
      obtain rfl : g = Wd / Sv := Nat.le_antisymm h6 hg1
      refine ⟨rfl, rfl, rfl, fn1, e, HR, h1, h2, h3, ?_⟩
      rw [Nat.mul_comm] at hdm
      omega
    · show vx_V _ _ _ _ _ _ _ _ _ 22 [(3, .long (lN g)), (0, .ref dv), (1, .int (nI place)), (2, .int (nI (m + 1)))] [.int 1]
      refine vx_if_ne (tgt := 27) IG dc_D_takeOut_22 (by decide) (fun _ => ?_) (fun c_ => absurd c_ (by decide))
      refine vx_aload_n IG dc_D_takeOut_27 rfl 1 rfl ?_
      refine vx_iload_n IG dc_D_takeOut_28 rfl 2 rfl ?_
      refine vx_iload_n IG dc_D_takeOut_29 rfl 3 rfl ?_
      have h5 : vl 4294967296 (fun j => e (place + j)) (m + 2) + g * Sv = Wd + 4294967296 ^ (m + 2) := by rw [← eW, ← eS]; exact h4
      have h6 := hwlt e (fun i hi => ⟨(h2 i hi).1, trivial⟩)
      have h7 : ¬ g ≤ Wd / Sv := by
        rw [Nat.le_div_iff_mul_le hSpos]
        omega
      have h8 : g = Wd / Sv + 1 := Nat.le_antisymm hg2 (Nat.lt_of_not_le h7)
      refine vx_callV (As := [.int (nI place), .int (nI (m + 1))]) (st := []) IG lw_good (cD_addBack HR hdv hrs hsc hne ht e h2 htot hpl s (fun i hi => ⟨(hs i hi).1, by rw [h1 sc hne]; exact (hs i hi).2⟩) hn) (rw_r HR hdv) rfl wC_D_addBack wL_D_79 wI_D_addBack wS_D_addBack wX_D 2 (by decide +kernel) rfl ⟨Nat.le_of_ble_eq_true rfl, Nat.le_of_ble_eq_true rfl⟩ ⟨(by decide), (by decide)⟩ rfl (Nat.le_of_ble_eq_true rfl) dc_D_takeOut_30 (fun v h k_ n_ hq => ?_)
      obtain ⟨rfl, rfl, rfl, fn2, e2, HR, g1, g2, g3, g4⟩ := hq
      show vx_V _ _ _ _ _ _ _ _ _ 33 [(3, .long (lN g)), (0, .ref dv), (1, .int (nI place)), (2, .int (nI (m + 1)))] []
      refine vx_lload_n IG dc_D_takeOut_33 rfl 0 rfl ?_
      refine vx_lconst (v := 1) IG dc_D_takeOut_34 (by decide) ?_
      refine vx_lsub IG dc_D_takeOut_35 ?_
      refine vx_topl (y := lN (Wd / Sv)) (by rw [h8, show (1 : Int64) = lN 1 from rfl, lN_sub (Nat.le_add_left _ _), Nat.add_sub_cancel]) ?_
      refine vx_ret (some (.long (lN (Wd / Sv)))) RG (vx_endl dc_D_takeOut_36) rfl ?_
      refine ⟨rfl, rfl, rfl, fn2, e2, HR, fun q z => (g1 q z).trans (h1 q z), g2, fun j hj => (g3 j hj).trans (h3 j hj), ?_⟩
      have g5 : vl 4294967296 (fun j => e2 (place + j)) (m + 2) = (vl 4294967296 (fun j => e (place + j)) (m + 2) + Sv) % 4294967296 ^ (m + 2) := by rw [← eS]; exact g4
      rw [g5]
      have h9 : vl 4294967296 (fun j => e (place + j)) (m + 2) + Sv = Wd % Sv + 4294967296 ^ (m + 2) := by
        rw [h8, Nat.add_mul, Nat.one_mul] at h5
        rw [Nat.mul_comm] at hdm
        omega
      rw [h9, Nat.add_mod_right, Nat.mod_eq_of_lt]
      rw [bp_succ]
      omega
end
