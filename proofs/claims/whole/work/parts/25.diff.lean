/-! Whole: difference, against -/
/-- -1, 0 or 1 -/
def cmpI (A B : Nat) : Int32 := if A < B then -1 else if A = B then 0 else 1
theorem ln_bor {a w b : Nat} (ha : a < 4294967296) (hw : w ≤ 1) (hb : b < 4294967296) : ((lN (a + 18446744073709551616 - w - b)).toUInt64 >>> ((63 : Int32).toInt64.toUInt64 &&& Int64.toUInt64 63)).toInt64 = lN (if a < b + w then 1 else 0) := by
  by_cases z : a < b + w
  · rw [if_pos z, ln_shr63 (by omega)]
    congr 1
    omega
  · rw [if_neg z, show a + 18446744073709551616 - w - b = (a - w - b) + 18446744073709551616 by omega, ln_wrap, ln_shr63 (by omega)]
    congr 1
    omega
theorem i32_dec (x : Int32) : x + Int32.ofInt (-1) = x - 1 := by rw [Int32.sub_eq_add_neg]; rfl
section
variable {l : Launch} {D : va_G} {tys : List (ClassId × FieldType)} {cJ : ClassId} {L : List Nat} {r : vx_h} {p p1 p2 : Nat} {h : vx_h} {V : Nat → Nat} {C S : Nat}
set_option maxRecDepth 100000 in
set_option maxHeartbeats 4000000 in
/-- difference(a, b), b not above a; it may be one of them -/
theorem cW_difference (HP : pool cJ L r V h C S) (hL : L.Nodup) (hp : p ∈ L) (hp1 : p1 ∈ L) (hp2 : p2 ∈ L) (ht : tys[0]? = some (cJ, .long)) (hs1 : nd 4294967296 (V p1) ≤ 4100) (hle : V p2 ≤ V p1) : vx_M l D vcl tys my_W_difference lw_gd (rm_ 3 C S 64) [.ref p, .ref p1, .ref p2] h (pend cJ L r (va_up V p (V p1 - V p2)) C S none) := by
  obtain ⟨ar, cp, cn, fn, HR, hV, hC, hS⟩ := HP
  refine vx_M.ofV (cc := bc_W_difference) (maxL := 10) (ret := none) (own := rW) false rfl (by decide +kernel) wC_W_difference (fun q => by cases q) (Nat.le_of_ble_eq_true rfl) (fun A H0 G IG RG => ?_)
  show vx_V _ _ _ _ _ _ _ _ _ 0 [(0, .ref p), (1, .ref p1), (2, .ref p2)] []
  have hvx := hV p1 hp1
  have hvy := hV p2 hp2
  refine vx_aload_n IG dc_W_difference_0 rfl 1 rfl ?_
  refine wr_cnt IG HR hp1 wF_W_15 dc_W_difference_1 ?_
  refine vx_topi (y := nI (nd 4294967296 (V p1))) hvx.1 ?_
  refine vx_istore_n (lv' := [(3, .int (nI (nd 4294967296 (V p1)))), (0, .ref p), (1, .ref p1), (2, .ref p2)]) IG dc_W_difference_4 rfl (by decide) rfl ?_
  refine vx_aload_n IG dc_W_difference_5 rfl 3 rfl ?_
  refine wr_cnt IG HR hp2 wF_W_15 dc_W_difference_6 ?_
  refine vx_topi (y := nI (nd 4294967296 (V p2))) hvy.1 ?_
  refine vx_istore (lv' := [(4, .int (nI (nd 4294967296 (V p2)))), (3, .int (nI (nd 4294967296 (V p1)))), (0, .ref p), (1, .ref p1), (2, .ref p2)]) IG dc_W_difference_9 (by decide) rfl ?_
  refine vx_aload_n IG dc_W_difference_11 rfl 2 rfl ?_
  refine vx_iload_n IG dc_W_difference_12 rfl 1 rfl ?_
  refine vx_callV (As := [.int (nI (nd 4294967296 (V p1)))]) (st := []) IG lw_good (cW_room HR hL hp ht (n := nd 4294967296 (V p1)) hs1 hC hS) (rw_obj HR hp) rfl wC_W_room wL_W_31 wI_W_room wS_W_room wX_W 1 (by decide +kernel) rfl ⟨Nat.le_of_ble_eq_true rfl, Nat.le_of_ble_eq_true rfl⟩ ⟨(by show 0 + C ≤ C; omega), (by show 0 + S ≤ S; omega)⟩ rfl (Nat.le_of_ble_eq_true rfl) dc_W_difference_13 (fun v h k_ n_ hq => ?_)
  obtain ⟨rfl, ar1, cp1, fn1, HR, ho, hn1, hge, hsame, kc, ks⟩ := hq
  have hvx1 := wv_room hvx ho hge hsame
  have hvy1 := wv_room hvy ho hge hsame
  have hc1 := rw_cap HR hp
  have hcx2 := hvx1.2.1
  have hcy2 := hvy1.2.1
  have hnn : nd 4294967296 (V p2) ≤ nd 4294967296 (V p1) := nd_mono bB1 hle
  show vx_V _ _ _ _ _ _ _ _ _ 16 [(4, .int (nI (nd 4294967296 (V p2)))), (3, .int (nI (nd 4294967296 (V p1)))), (0, .ref p), (1, .ref p1), (2, .ref p2)] []
  generalize eX : V p1 = X at *
  generalize eY : V p2 = Y at *
  have loop : ∀ (m i : Nat), i + m = nd 4294967296 X → ∀ (h : vx_h) (fn2 : Nat → Nat → Int64), (∀ q, q ≠ p → fn2 q = fn1 q) → (∀ j, j < i → fn2 p j = lN (dg 4294967296 (X - Y) j)) → (∀ j, i ≤ j → j < nd 4294967296 X → fn2 p1 j = lN (dg 4294967296 X j)) → (∀ j, i ≤ j → j < nd 4294967296 Y → fn2 p2 j = lN (dg 4294967296 Y j)) → rw_at 2 cJ L r ar1 cp1 cn fn2 h → vx_V D vcl A H0 10 G h (0 + k_) (0 + n_) 22 [(7, .int (nI i)), (5, .long (lN (bw 4294967296 X Y i))), (4, .int (nI (nd 4294967296 Y))), (3, .int (nI (nd 4294967296 X))), (0, .ref p), (1, .ref p1), (2, .ref p2)] [] := by
    intro m
    induction m with
    | zero =>
      intro i him h fn2 f1 f2 f3 f4 HR
      obtain rfl : i = nd 4294967296 X := by omega
      refine vx_iload IG dc_W_difference_22 0 rfl ?_
      refine vx_iload_n IG dc_W_difference_24 rfl 3 rfl ?_
      refine vx_icmp_ge (tgt := 85) IG dc_W_difference_25 (by decide) (fun _ => ?_) (fun c_ => absurd (nI_le (Nat.le_refl _) (by omega)) c_)
      refine vx_aload_n IG dc_W_difference_85 rfl 4 rfl ?_
      refine vx_iload_n IG dc_W_difference_86 rfl 3 rfl ?_
      have hd : ∀ i, i < nd 4294967296 X → dg 4294967296 (X - Y) i < 4294967296 ∧ fn2 p i = lN (dg 4294967296 (X - Y) i) := fun i hi => ⟨dg_lt bB1 _ _, f2 i hi⟩
      refine vx_callV (As := [.int (nI (nd 4294967296 X))]) (st := []) IG lw_good (cW_trim HR hp ht (n := nd 4294967296 X) hn1 _ hd) (rw_obj HR hp) rfl wC_W_trim wL_W_37 wI_W_trim wS_W_trim wX_W 1 (by decide +kernel) rfl ⟨Nat.le_of_ble_eq_true rfl, Nat.le_of_ble_eq_true rfl⟩ ⟨(by show 0 + k_ + 0 ≤ C; omega), (by show 0 + n_ + 0 ≤ S; omega)⟩ rfl (Nat.le_of_ble_eq_true rfl) dc_W_difference_87 (fun v h k_ n_ hq => ?_)
      obtain ⟨rfl, rfl, rfl, HR⟩ := hq
      show vx_V _ _ _ _ _ _ _ _ _ 90 [(7, .int (nI (nd 4294967296 X))), (5, .long (lN (bw 4294967296 X Y (nd 4294967296 X)))), (4, .int (nI (nd 4294967296 Y))), (3, .int (nI (nd 4294967296 X))), (0, .ref p), (1, .ref p1), (2, .ref p2)] []
      refine vx_ret none RG (vx_endv dc_W_difference_90) rfl ?_
      have e : vl 4294967296 (dg 4294967296 (X - Y)) (nd 4294967296 X) = X - Y := vl_nd_le bB1 (nd_mono bB1 (Nat.sub_le X Y))
      have hw := wv_trim (cp := cp1) (cn' := va_up cn p (nI (nd 4294967296 (vl 4294967296 (dg 4294967296 (X - Y)) (nd 4294967296 X))))) hd hn1 (va_up_self _ _ _)
      rw [e] at HR hw
      refine pool_end (p := p) hV HR (fun q z => ⟨(ho q z).1, va_up_ne _ _ z, ?_⟩) hw (by omega) (by omega)
      rw [f1 q z, (ho q z).2]
    | succ m ih =>
      intro i him h fn2 f1 f2 f3 f4 HR
      have hX := dg_lt bB1 X i
      have hY := dg_lt bB1 Y i
      have hb0 := bw_le 4294967296 X Y i
      refine vx_iload IG dc_W_difference_22 0 rfl ?_
      refine vx_iload_n IG dc_W_difference_24 rfl 3 rfl ?_
      refine vx_icmp_ge (tgt := 85) IG dc_W_difference_25 (by decide) (fun c_ => absurd c_ (nI_ge (by omega) (by omega))) (fun _ => ?_)
      refine vx_aload_n IG dc_W_difference_28 rfl 5 rfl ?_
      refine wr_dig IG HR hp1 wF_W_11 dc_W_difference_29 ?_
      refine vx_iload IG dc_W_difference_32 0 rfl ?_
      refine wr_ald IG HR hp1 ht i rfl (by omega) dc_W_difference_34 ?_
      refine vx_topl (y := lN (dg 4294967296 X i)) (f3 i (Nat.le_refl i) (by omega)) ?_
      refine vx_lload IG dc_W_difference_35 1 rfl ?_
      refine vx_lsub IG dc_W_difference_37 ?_
      have join : vx_V D vcl A H0 10 G h (0 + k_) (0 + n_) 56 [(7, .int (nI i)), (5, .long (lN (bw 4294967296 X Y i))), (4, .int (nI (nd 4294967296 Y))), (3, .int (nI (nd 4294967296 X))), (0, .ref p), (1, .ref p1), (2, .ref p2)] [.long (lN (dg 4294967296 Y i)), .long (lN (dg 4294967296 X i) - lN (bw 4294967296 X Y i))] := by
        refine vx_lsub IG dc_W_difference_56 ?_
        refine vx_topl (y := lN (dg 4294967296 X i + 18446744073709551616 - bw 4294967296 X Y i - dg 4294967296 Y i)) (ln_sub2 hb0 hY) ?_
        refine vx_lstore (lv' := [(8, .long (lN (dg 4294967296 X i + 18446744073709551616 - bw 4294967296 X Y i - dg 4294967296 Y i))), (7, .int (nI i)), (5, .long (lN (bw 4294967296 X Y i))), (4, .int (nI (nd 4294967296 Y))), (3, .int (nI (nd 4294967296 X))), (0, .ref p), (1, .ref p1), (2, .ref p2)]) IG dc_W_difference_57 (by decide) rfl ?_
        refine vx_aload_n IG dc_W_difference_59 rfl 5 rfl ?_
        refine wr_dig IG HR hp wF_W_11 dc_W_difference_60 ?_
        refine vx_iload IG dc_W_difference_63 1 rfl ?_
        refine vx_lload IG dc_W_difference_65 0 rfl ?_
        refine vx_ldc2 (v := 4294967295) IG (by decide +kernel) dc_W_difference_67 ?_
        refine vx_land IG dc_W_difference_70 ?_
        refine vx_topl (y := lN (dg 4294967296 (X - Y) i)) (by rw [ln_mask, ← bw_dg bB1 hle]; congr 1; omega) ?_
        refine wr_ast IG HR hp ht i rfl (by omega) dc_W_difference_71 (fun h HR => ?_)
        obtain ⟨fn3, e_fn3⟩ : ∃ z, z = va_up fn2 p (vp_updL (fn2 p) i (lN (dg 4294967296 (X - Y) i))) := ⟨_, rfl⟩
        rw [← e_fn3] at HR
        refine vx_lload IG dc_W_difference_72 0 rfl ?_
        refine vx_bipush (v := 63) IG dc_W_difference_74 (by decide) ?_
        refine vx_lushr (v := lN (bw 4294967296 X Y (i + 1))) IG dc_W_difference_76 (by rw [bw_succ bB1]; exact ln_bor hX hb0 hY) ?_
        refine vx_lstore (lv' := [(5, .long (lN (bw 4294967296 X Y (i + 1)))), (8, .long (lN (dg 4294967296 X i + 18446744073709551616 - bw 4294967296 X Y i - dg 4294967296 Y i))), (7, .int (nI i)), (4, .int (nI (nd 4294967296 Y))), (3, .int (nI (nd 4294967296 X))), (0, .ref p), (1, .ref p1), (2, .ref p2)]) IG dc_W_difference_77 (by decide) rfl ?_
        refine vx_iinc (q := 2) (v := nI (i + 1)) (lv' := [(7, .int (nI (i + 1))), (5, .long (lN (bw 4294967296 X Y (i + 1)))), (8, .long (lN (dg 4294967296 X i + 18446744073709551616 - bw 4294967296 X Y i - dg 4294967296 Y i))), (4, .int (nI (nd 4294967296 Y))), (3, .int (nI (nd 4294967296 X))), (0, .ref p), (1, .ref p1), (2, .ref p2)]) IG dc_W_difference_79 rfl (nI_1 i) (by decide) rfl ?_
        refine vx_goto (tgt := 22) IG dc_W_difference_82 (by decide) ?_
        refine vx_same (lv' := [(7, .int (nI (i + 1))), (5, .long (lN (bw 4294967296 X Y (i + 1)))), (4, .int (nI (nd 4294967296 Y))), (3, .int (nI (nd 4294967296 X))), (0, .ref p), (1, .ref p1), (2, .ref p2)]) IG [0, 1, 3, 4, 5, 6, 7] rfl ?_
        refine ih (i + 1) (by omega) h fn3 (fun q z => ?_) (fun j hj => ?_) (fun j h1 h2 => ?_) (fun j h1 h2 => ?_) HR
        · rw [e_fn3, va_up_ne _ _ z]; exact f1 q z
        · by_cases z : j = i
          · rw [z, e_fn3, va_up_self, pk_uLs]
          · rw [e_fn3, va_up_self, pk_uLn z]; exact f2 j (by omega)
        · by_cases z : p1 = p
          · rw [e_fn3, z, va_up_self, pk_uLn (by omega), ← z]; exact f3 j (by omega) h2
          · rw [e_fn3, va_up_ne _ _ z]; exact f3 j (by omega) h2
        · by_cases z : p2 = p
          · rw [e_fn3, z, va_up_self, pk_uLn (by omega), ← z]; exact f4 j (by omega) h2
          · rw [e_fn3, va_up_ne _ _ z]; exact f4 j (by omega) h2
      refine vx_iload IG dc_W_difference_38 0 rfl ?_
      refine vx_iload IG dc_W_difference_40 2 rfl ?_
      by_cases z : i < nd 4294967296 Y
      · refine vx_icmp_ge (tgt := 55) IG dc_W_difference_42 (by decide) (fun c_ => absurd c_ (nI_ge z (by omega))) (fun _ => ?_)
        refine vx_aload_n IG dc_W_difference_45 rfl 6 rfl ?_
        refine wr_dig IG HR hp2 wF_W_11 dc_W_difference_46 ?_
        refine vx_iload IG dc_W_difference_49 0 rfl ?_
        refine wr_ald IG HR hp2 ht i rfl (by omega) dc_W_difference_51 ?_
        refine vx_topl (y := lN (dg 4294967296 Y i)) (f4 i (Nat.le_refl i) z) ?_
        refine vx_goto (tgt := 56) IG dc_W_difference_52 (by decide) ?_
        exact join
      · refine vx_icmp_ge (tgt := 55) IG dc_W_difference_42 (by decide) (fun _ => ?_) (fun c_ => absurd (nI_le (by omega) (by omega)) c_)
        refine vx_lconst (v := 0) IG dc_W_difference_55 (by decide) ?_
        refine vx_topl (y := lN (dg 4294967296 Y i)) (by rw [dg_big (Nat.lt_of_lt_of_le (lt_nd bB1 Y) (Nat.pow_le_pow_right (by decide) (by omega)))]; rfl) ?_
        exact join
  refine vx_lconst (v := 0) IG dc_W_difference_16 (by decide) ?_
  refine vx_lstore (lv' := [(5, .long 0), (4, .int (nI (nd 4294967296 Y))), (3, .int (nI (nd 4294967296 X))), (0, .ref p), (1, .ref p1), (2, .ref p2)]) IG dc_W_difference_17 (by decide) rfl ?_
  refine vx_iconst (v := 0) IG dc_W_difference_19 (by decide) ?_
  refine vx_istore (lv' := [(7, .int 0), (5, .long 0), (4, .int (nI (nd 4294967296 Y))), (3, .int (nI (nd 4294967296 X))), (0, .ref p), (1, .ref p1), (2, .ref p2)]) IG dc_W_difference_20 (by decide) rfl ?_
  rw [show (0 : Int64) = lN (bw 4294967296 X Y 0) by rw [bw_zero]; rfl, show (0 : Int32) = nI 0 from rfl]
  exact loop (nd 4294967296 X) 0 (by omega) h fn1 (fun _ _ => rfl) (fun j hj => by omega) (fun j _ hj => hvx1.2.2 j hj) (fun j _ hj => hvy1.2.2 j hj) HR
theorem ln_lt {a b : Nat} (ha : a < 4294967296) (hb : b < 4294967296) : lN a < lN b ↔ a < b := pk_lLT (by omega) (by omega)
set_option maxRecDepth 100000 in
set_option maxHeartbeats 4000000 in
/-- against(b): -1, 0 or 1 -/
theorem cW_against (HP : pool cJ L r V h C S) (hp : p ∈ L) (hp1 : p1 ∈ L) (ht : tys[0]? = some (cJ, .long)) : vx_M l D vcl tys my_W_against lw_gd (rm_ 0 0 0 0) [.ref p, .ref p1] h (fun v h' k m => v = some (.int (cmpI (V p) (V p1))) ∧ h' = h ∧ k = 0 ∧ m = 0) := by
  obtain ⟨ar, cp, cn, fn, HR, hV, hC, hS⟩ := HP
  have hvx := hV p hp
  have hvy := hV p1 hp1
  have hcx := rw_cap HR hp
  have hcy := rw_cap HR hp1
  have hx2 := hvx.2.1
  have hy2 := hvy.2.1
  refine vx_M.ofV (cc := bc_W_against) (maxL := 3) (ret := some .int) (own := rW) false rfl (by decide +kernel) wC_W_against (fun q => by cases q) (Nat.le_of_ble_eq_true rfl) (fun A H0 G IG RG => ?_)
  show vx_V _ _ _ _ _ _ _ _ _ 0 [(0, .ref p), (1, .ref p1)] []
  generalize eX : V p = X at *
  generalize eY : V p1 = Y at *
  refine vx_aload_n IG dc_W_against_0 rfl 0 rfl ?_
  refine wr_cnt IG HR hp wF_W_15 dc_W_against_1 ?_
  refine vx_topi (y := nI (nd 4294967296 X)) hvx.1 ?_
  refine vx_aload_n IG dc_W_against_4 rfl 1 rfl ?_
  refine wr_cnt IG HR hp1 wF_W_15 dc_W_against_5 ?_
  refine vx_topi (y := nI (nd 4294967296 Y)) hvy.1 ?_
  by_cases hne : nd 4294967296 X = nd 4294967296 Y
  · refine vx_icmp_eq (tgt := 28) IG dc_W_against_8 (by decide) (fun _ => ?_) (fun c_ => absurd (congrArg nI hne) c_)
    refine vx_aload_n IG dc_W_against_28 rfl 0 rfl ?_
    refine wr_cnt IG HR hp wF_W_15 dc_W_against_29 ?_
    refine vx_topi (y := nI (nd 4294967296 X)) hvx.1 ?_
    have loop : ∀ (i : Nat), i ≤ nd 4294967296 X → X / 4294967296 ^ i = Y / 4294967296 ^ i → vx_V D vcl A H0 3 G h 0 0 35 [(2, .int (nI i - 1)), (0, .ref p), (1, .ref p1)] [] := by
      intro i
      induction i with
      | zero =>
        intro hi he
        refine vx_iload_n IG dc_W_against_35 rfl 0 rfl ?_
        refine vx_if_lt (tgt := 83) IG dc_W_against_36 (by decide) (fun _ => ?_) (fun c_ => absurd (by decide) c_)
        refine vx_iconst (v := 0) IG dc_W_against_83 (by decide) ?_
        refine vx_ret (some (.int 0)) RG (vx_endi (by first | rfl | decide) dc_W_against_84) rfl ?_
        have : X = Y := by simpa using he
        exact ⟨by rw [cmpI, if_neg (by omega), if_pos this], rfl, rfl, rfl⟩
      | succ i ih =>
        intro hi he
        have gx := dg_lt bB1 X i
        have gy := dg_lt bB1 Y i
        rw [nI_pred]
        refine vx_iload_n IG dc_W_against_35 rfl 0 rfl ?_
        refine vx_if_lt (tgt := 83) IG dc_W_against_36 (by decide) (fun c_ => absurd c_ (nI_pos (by omega))) (fun _ => ?_)
        refine vx_aload_n IG dc_W_against_39 rfl 1 rfl ?_
        refine wr_dig IG HR hp wF_W_11 dc_W_against_40 ?_
        refine vx_iload_n IG dc_W_against_43 rfl 0 rfl ?_
        refine wr_ald IG HR hp ht i rfl (by omega) dc_W_against_44 ?_
        refine vx_topl (y := lN (dg 4294967296 X i)) (hvx.2.2 i (by omega)) ?_
        refine vx_aload_n IG dc_W_against_45 rfl 2 rfl ?_
        refine wr_dig IG HR hp1 wF_W_11 dc_W_against_46 ?_
        refine vx_iload_n IG dc_W_against_49 rfl 0 rfl ?_
        refine wr_ald IG HR hp1 ht i rfl (by omega) dc_W_against_50 ?_
        refine vx_topl (y := lN (dg 4294967296 Y i)) (hvy.2.2 i (by omega)) ?_
        refine vx_lcmp IG dc_W_against_51 ?_
        by_cases z : dg 4294967296 X i = dg 4294967296 Y i
        · refine vx_if_eq (tgt := 77) IG dc_W_against_52 (by decide) (fun _ => ?_) (fun c_ => absurd ((lg_cmp_eq _ _).mpr (by rw [z])) c_)
          refine vx_iinc (q := 0) (v := nI i - 1) (lv' := [(2, .int (nI i - 1)), (0, .ref p), (1, .ref p1)]) IG dc_W_against_77 rfl (i32_dec _) (by decide) rfl ?_
          refine vx_goto (tgt := 35) IG dc_W_against_80 (by decide) ?_
          exact ih (by omega) (bcm_eq 4294967296 he z)
        · refine vx_if_eq (tgt := 77) IG dc_W_against_52 (by decide) (fun c_ => absurd c_ (fun q => z (ln_eq (by omega) (by omega) ((lg_cmp_eq _ _).mp q)))) (fun _ => ?_)
          refine vx_aload_n IG dc_W_against_55 rfl 1 rfl ?_
          refine wr_dig IG HR hp wF_W_11 dc_W_against_56 ?_
          refine vx_iload_n IG dc_W_against_59 rfl 0 rfl ?_
          refine wr_ald IG HR hp ht i rfl (by omega) dc_W_against_60 ?_
          refine vx_topl (y := lN (dg 4294967296 X i)) (hvx.2.2 i (by omega)) ?_
          refine vx_aload_n IG dc_W_against_61 rfl 2 rfl ?_
          refine wr_dig IG HR hp1 wF_W_11 dc_W_against_62 ?_
          refine vx_iload_n IG dc_W_against_65 rfl 0 rfl ?_
          refine wr_ald IG HR hp1 ht i rfl (by omega) dc_W_against_66 ?_
          refine vx_topl (y := lN (dg 4294967296 Y i)) (hvy.2.2 i (by omega)) ?_
          refine vx_lcmp IG dc_W_against_67 ?_
          by_cases w : dg 4294967296 X i < dg 4294967296 Y i
          · refine vx_if_ge (tgt := 75) IG dc_W_against_68 (by decide) (fun c_ => absurd c_ (fun q => absurd ((ln_lt gx gy).mpr w) (Int64.not_lt.mpr ((lg_cmp_ge _ _).mp q)))) (fun _ => ?_)
            refine vx_iconst (v := -1) IG dc_W_against_71 (by decide) ?_
            refine vx_goto (tgt := 76) IG dc_W_against_72 (by decide) ?_
            refine vx_ret (some (.int (-1))) RG (vx_endi (by first | rfl | decide) dc_W_against_76) rfl ?_
            exact ⟨by rw [cmpI, if_pos (bcm_lt 4294967296 he w)], rfl, rfl, rfl⟩
          · refine vx_if_ge (tgt := 75) IG dc_W_against_68 (by decide) (fun _ => ?_) (fun c_ => absurd ((lg_cmp_ge _ _).mpr (Int64.not_lt.mp (fun q => w ((ln_lt gx gy).mp q)))) c_)
            refine vx_iconst (v := 1) IG dc_W_against_75 (by decide) ?_
            refine vx_ret (some (.int 1)) RG (vx_endi (by first | rfl | decide) dc_W_against_76) rfl ?_
            have := bcm_lt 4294967296 he.symm (show dg 4294967296 Y i < dg 4294967296 X i by omega)
            exact ⟨by rw [cmpI, if_neg (by omega), if_neg (by omega)], rfl, rfl, rfl⟩
    refine vx_iconst (v := 1) IG dc_W_against_32 (by decide) ?_
    refine vx_isub IG dc_W_against_33 ?_
    refine vx_istore_n (lv' := [(2, .int ((nI (nd 4294967296 X)) - 1)), (0, .ref p), (1, .ref p1)]) IG dc_W_against_34 rfl (by decide) rfl ?_
    exact loop (nd 4294967296 X) (Nat.le_refl _) (by rw [bcm_top bB1 (Nat.le_refl _), bcm_top bB1 (by omega)])
  · refine vx_icmp_eq (tgt := 28) IG dc_W_against_8 (by decide) (fun c_ => absurd c_ (fun q => hne ((nI_eq (by omega) (by omega)).mp q))) (fun _ => ?_)
    refine vx_aload_n IG dc_W_against_11 rfl 0 rfl ?_
    refine wr_cnt IG HR hp wF_W_15 dc_W_against_12 ?_
    refine vx_topi (y := nI (nd 4294967296 X)) hvx.1 ?_
    refine vx_aload_n IG dc_W_against_15 rfl 1 rfl ?_
    refine wr_cnt IG HR hp1 wF_W_15 dc_W_against_16 ?_
    refine vx_topi (y := nI (nd 4294967296 Y)) hvy.1 ?_
    by_cases z : nd 4294967296 X < nd 4294967296 Y
    · refine vx_icmp_ge (tgt := 26) IG dc_W_against_19 (by decide) (fun c_ => absurd c_ (nI_ge z (by omega))) (fun _ => ?_)
      refine vx_iconst (v := -1) IG dc_W_against_22 (by decide) ?_
      refine vx_goto (tgt := 27) IG dc_W_against_23 (by decide) ?_
      refine vx_ret (some (.int (-1))) RG (vx_endi (by first | rfl | decide) dc_W_against_27) rfl ?_
      exact ⟨by rw [cmpI, if_pos (bcm_nd bB1 z)], rfl, rfl, rfl⟩
    · refine vx_icmp_ge (tgt := 26) IG dc_W_against_19 (by decide) (fun _ => ?_) (fun c_ => absurd (nI_le (by omega) (by omega)) c_)
      refine vx_iconst (v := 1) IG dc_W_against_26 (by decide) ?_
      refine vx_ret (some (.int 1)) RG (vx_endi (by first | rfl | decide) dc_W_against_27) rfl ?_
      have := bcm_nd bB1 (show nd 4294967296 Y < nd 4294967296 X by omega)
      exact ⟨by rw [cmpI, if_neg (by omega), if_neg (by omega)], rfl, rfl, rfl⟩
end
