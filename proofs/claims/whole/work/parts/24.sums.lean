/-! Whole: sum, difference, against -/
section
variable {l : Launch} {D : va_G} {tys : List (ClassId × FieldType)} {cJ : ClassId} {L : List Nat} {r : vx_h} {p p1 p2 : Nat} {h : vx_h} {V : Nat → Nat} {C S : Nat}
/-- behind room: a Whole holds what it held -/
theorem wv_room {cp cp1 : Nat → Nat} {cn : Nat → Int32} {fn fn1 : Nat → Nat → Int64} {q N : Nat} (hv : wv cp cn fn q N) (ho : ∀ q, q ≠ p → cp1 q = cp q ∧ fn1 q = fn q) (hge : cp p ≤ cp1 p) (hsame : ∀ i, i < cp p → fn1 p i = fn p i) : wv cp1 cn fn1 q N := by
  by_cases z : q = p
  · subst z
    exact ⟨hv.1, Nat.le_trans hv.2.1 hge, fun i hi => by rw [hsame i (by have := hv.2.1; omega)]; exact hv.2.2 i hi⟩
  · exact wv_same hv (ho q z).1 rfl (ho q z).2
set_option maxRecDepth 100000 in
set_option maxHeartbeats 4000000 in
/-- sum(a, b): this becomes a + b; it may be one of them -/
theorem cW_sum (HP : pool cJ L r V h C S) (hL : L.Nodup) (hp : p ∈ L) (hp1 : p1 ∈ L) (hp2 : p2 ∈ L) (ht : tys[0]? = some (cJ, .long)) (hs1 : nd 4294967296 (V p1) ≤ 4099) (hs2 : nd 4294967296 (V p2) ≤ 4099) : vx_M l D vcl tys my_W_sum lw_gd (rm_ 3 C S 64) [.ref p, .ref p1, .ref p2] h (pend cJ L r (va_up V p (V p1 + V p2)) C S none) := by
  obtain ⟨ar, cp, cn, fn, HR, hV, hC, hS⟩ := HP
  refine vx_M.ofV (cc := bc_W_sum) (maxL := 12) (ret := none) (own := rW) false rfl (by decide +kernel) wC_W_sum (fun q => by cases q) (Nat.le_of_ble_eq_true rfl) (fun A H0 G IG RG => ?_)
  show vx_V _ _ _ _ _ _ _ _ _ 0 [(0, .ref p), (1, .ref p1), (2, .ref p2)] []
  have main : ∀ (x y : Nat), x ∈ L → y ∈ L → nd 4294967296 (V y) ≤ nd 4294967296 (V x) → nd 4294967296 (V x) ≤ 4099 → V x + V y = V p1 + V p2 → vx_V D vcl A H0 12 G h 0 0 35 [(4, .ref y), (3, .ref x), (0, .ref p), (1, .ref p1), (2, .ref p2)] [] := by
    intro x y hx hy hxy hsx hsum
    have hvx := hV x hx
    have hvy := hV y hy
    refine vx_aload_n IG dc_W_sum_35 rfl 1 rfl ?_
    refine wr_cnt IG HR hx wF_W_15 dc_W_sum_36 ?_
    refine vx_topi (y := nI (nd 4294967296 (V x))) hvx.1 ?_
    refine vx_istore (lv' := [(5, .int (nI (nd 4294967296 (V x)))), (4, .ref y), (3, .ref x), (0, .ref p), (1, .ref p1), (2, .ref p2)]) IG dc_W_sum_39 (by decide) rfl ?_
    refine vx_aload IG dc_W_sum_41 1 rfl ?_
    refine wr_cnt IG HR hy wF_W_15 dc_W_sum_43 ?_
    refine vx_topi (y := nI (nd 4294967296 (V y))) hvy.1 ?_
    refine vx_istore (lv' := [(6, .int (nI (nd 4294967296 (V y)))), (5, .int (nI (nd 4294967296 (V x)))), (4, .ref y), (3, .ref x), (0, .ref p), (1, .ref p1), (2, .ref p2)]) IG dc_W_sum_46 (by decide) rfl ?_
    refine vx_aload_n IG dc_W_sum_48 rfl 4 rfl ?_
    refine vx_iload IG dc_W_sum_49 1 rfl ?_
    refine vx_iconst (v := 1) IG dc_W_sum_51 (by decide) ?_
    refine vx_iadd IG dc_W_sum_52 ?_
    refine vx_topi (y := nI (nd 4294967296 (V x) + 1)) (nI_1 _) ?_
    refine vx_callV (As := [.int (nI (nd 4294967296 (V x) + 1))]) (st := []) IG lw_good (cW_room HR hL hp ht (n := nd 4294967296 (V x) + 1) (by omega) hC hS) (rw_obj HR hp) rfl wC_W_room wL_W_31 wI_W_room wS_W_room wX_W 1 (by decide +kernel) rfl ⟨Nat.le_of_ble_eq_true rfl, Nat.le_of_ble_eq_true rfl⟩ ⟨(by show 0 + C ≤ C; omega), (by show 0 + S ≤ S; omega)⟩ rfl (Nat.le_of_ble_eq_true rfl) dc_W_sum_53 (fun v h k_ n_ hq => ?_)
    obtain ⟨rfl, ar1, cp1, fn1, HR, ho, hn1, hge, hsame, kc, ks⟩ := hq
    have hvx1 := wv_room hvx ho hge hsame
    have hvy1 := wv_room hvy ho hge hsame
    have hc1 := rw_cap HR hp
    have hcx := rw_cap HR hx
    have hcy := rw_cap HR hy
    have hcx2 := hvx1.2.1
    have hcy2 := hvy1.2.1
    show vx_V _ _ _ _ _ _ _ _ _ 56 [(6, .int (nI (nd 4294967296 (V y)))), (5, .int (nI (nd 4294967296 (V x)))), (4, .ref y), (3, .ref x), (0, .ref p), (1, .ref p1), (2, .ref p2)] []
    generalize eX : V x = X at *
    generalize eY : V y = Y at *
    have loop : ∀ (m i : Nat), i + m = nd 4294967296 X → ∀ (z10 : List (Nat × Value)) (h : vx_h) (fn2 : Nat → Nat → Int64), (∀ q, q ≠ p → fn2 q = fn1 q) → (∀ j, j < i → fn2 p j = lN (dg 4294967296 (X + Y) j)) → (∀ j, i ≤ j → j < nd 4294967296 X → fn2 x j = lN (dg 4294967296 X j)) → (∀ j, i ≤ j → j < nd 4294967296 Y → fn2 y j = lN (dg 4294967296 Y j)) → rw_at 2 cJ L r ar1 cp1 cn fn2 h → vx_V D vcl A H0 12 G h (0 + k_) (0 + n_) 62 [(9, .int (nI i)), (7, .long (lN (cy 4294967296 X Y i))), (6, .int (nI (nd 4294967296 Y))), (5, .int (nI (nd 4294967296 X))), (4, .ref y), (3, .ref x), (0, .ref p), (1, .ref p1), (2, .ref p2)] [] := by
      intro m
      induction m with
      | zero =>
        intro i him z10 h fn2 f1 f2 f3 f4 HR
        obtain rfl : i = nd 4294967296 X := by omega
        refine vx_iload IG dc_W_sum_62 0 rfl ?_
        refine vx_iload IG dc_W_sum_64 3 rfl ?_
        refine vx_icmp_ge (tgt := 127) IG dc_W_sum_66 (by decide) (fun _ => ?_) (fun c_ => absurd (nI_le (Nat.le_refl _) (by omega)) c_)
        refine vx_aload_n IG dc_W_sum_127 rfl 6 rfl ?_
        refine wr_dig IG HR hp wF_W_11 dc_W_sum_128 ?_
        refine vx_iload IG dc_W_sum_131 3 rfl ?_
        refine vx_lload IG dc_W_sum_133 1 rfl ?_
        refine wr_ast IG HR hp ht (nd 4294967296 X) rfl (by omega) dc_W_sum_135 (fun h HR => ?_)
        obtain ⟨fn3, e_fn3⟩ : ∃ z, z = va_up fn2 p (vp_updL (fn2 p) (nd 4294967296 X) (lN (cy 4294967296 X Y (nd 4294967296 X)))) := ⟨_, rfl⟩
        rw [← e_fn3] at HR
        refine vx_aload_n IG dc_W_sum_136 rfl 6 rfl ?_
        refine vx_iload IG dc_W_sum_137 3 rfl ?_
        refine vx_iconst (v := 1) IG dc_W_sum_139 (by decide) ?_
        refine vx_iadd IG dc_W_sum_140 ?_
        refine vx_topi (y := nI (nd 4294967296 X + 1)) (nI_1 _) ?_
        have hd : ∀ i, i < nd 4294967296 X + 1 → dg 4294967296 (X + Y) i < 4294967296 ∧ fn3 p i = lN (dg 4294967296 (X + Y) i) := by
          intro i hi
          refine ⟨dg_lt bB1 _ _, ?_⟩
          by_cases z : i = nd 4294967296 X
          · rw [e_fn3, va_up_self, z, pk_uLs, cy_end bB1 (lt_nd bB1 X) ((nd_le bB1).mp hxy)]
          · rw [e_fn3, va_up_self, pk_uLn z]; exact f2 i (by omega)
        refine vx_callV (As := [.int (nI (nd 4294967296 X + 1))]) (st := []) IG lw_good (cW_trim HR hp ht (n := nd 4294967296 X + 1) hn1 _ hd) (rw_obj HR hp) rfl wC_W_trim wL_W_37 wI_W_trim wS_W_trim wX_W 1 (by decide +kernel) rfl ⟨Nat.le_of_ble_eq_true rfl, Nat.le_of_ble_eq_true rfl⟩ ⟨(by show 0 + k_ + 0 ≤ C; omega), (by show 0 + n_ + 0 ≤ S; omega)⟩ rfl (Nat.le_of_ble_eq_true rfl) dc_W_sum_141 (fun v h k_ n_ hq => ?_)
        obtain ⟨rfl, rfl, rfl, HR⟩ := hq
        show vx_V _ _ _ _ _ _ _ _ _ 144 [(9, .int (nI (nd 4294967296 X))), (7, .long (lN (cy 4294967296 X Y (nd 4294967296 X)))), (6, .int (nI (nd 4294967296 Y))), (5, .int (nI (nd 4294967296 X))), (4, .ref y), (3, .ref x), (0, .ref p), (1, .ref p1), (2, .ref p2)] []
        refine vx_ret none RG (vx_endv dc_W_sum_144) rfl ?_
        have hle : nd 4294967296 (X + Y) ≤ nd 4294967296 X + 1 := by have := nd_add bB1 X Y; rw [Nat.max_eq_left hxy] at this; exact this
        have e : vl 4294967296 (dg 4294967296 (X + Y)) (nd 4294967296 X + 1) = X + Y := vl_nd_le bB1 hle
        have hw := wv_trim (cp := cp1) (cn' := va_up cn p (nI (nd 4294967296 (vl 4294967296 (dg 4294967296 (X + Y)) (nd 4294967296 X + 1))))) hd hn1 (va_up_self _ _ _)
        rw [e] at HR hw
        rw [← hsum]
        refine pool_end (p := p) hV HR (fun q z => ⟨(ho q z).1, va_up_ne _ _ z, ?_⟩) hw (by omega) (by omega)
        rw [e_fn3, va_up_ne _ _ z, f1 q z, (ho q z).2]
      | succ m ih =>
        intro i him z10 h fn2 f1 f2 f3 f4 HR
        have hX := dg_lt bB1 X i
        have hY := dg_lt bB1 Y i
        have hcy0 := cy_le bB1 X Y i
        refine vx_iload IG dc_W_sum_62 0 rfl ?_
        refine vx_iload IG dc_W_sum_64 3 rfl ?_
        refine vx_icmp_ge (tgt := 127) IG dc_W_sum_66 (by decide) (fun c_ => absurd c_ (nI_ge (by omega) (by omega))) (fun _ => ?_)
        refine vx_aload_n IG dc_W_sum_69 rfl 5 rfl ?_
        refine wr_dig IG HR hx wF_W_11 dc_W_sum_70 ?_
        refine vx_iload IG dc_W_sum_73 0 rfl ?_
        refine wr_ald IG HR hx ht i rfl (by omega) dc_W_sum_75 ?_
        refine vx_topl (y := lN (dg 4294967296 X i)) (f3 i (Nat.le_refl i) (by omega)) ?_
        refine vx_lload IG dc_W_sum_76 1 rfl ?_
        refine vx_ladd IG dc_W_sum_78 ?_
        refine vx_topl (y := lN (dg 4294967296 X i + cy 4294967296 X Y i)) (lN_add _ _) ?_
        have join : vx_V D vcl A H0 12 G h (0 + k_) (0 + n_) 98 [(9, .int (nI i)), (7, .long (lN (cy 4294967296 X Y i))), (6, .int (nI (nd 4294967296 Y))), (5, .int (nI (nd 4294967296 X))), (4, .ref y), (3, .ref x), (0, .ref p), (1, .ref p1), (2, .ref p2)] [.long (lN (dg 4294967296 Y i)), .long (lN (dg 4294967296 X i + cy 4294967296 X Y i))] := by
          refine vx_ladd IG dc_W_sum_98 ?_
          refine vx_topl (y := lN (dg 4294967296 X i + dg 4294967296 Y i + cy 4294967296 X Y i)) (by rw [lN_add]; congr 1; omega) ?_
          refine vx_lstore (lv' := [(10, .long (lN (dg 4294967296 X i + dg 4294967296 Y i + cy 4294967296 X Y i))), (9, .int (nI i)), (7, .long (lN (cy 4294967296 X Y i))), (6, .int (nI (nd 4294967296 Y))), (5, .int (nI (nd 4294967296 X))), (4, .ref y), (3, .ref x), (0, .ref p), (1, .ref p1), (2, .ref p2)]) IG dc_W_sum_99 (by decide) rfl ?_
          refine vx_aload_n IG dc_W_sum_101 rfl 7 rfl ?_
          refine wr_dig IG HR hp wF_W_11 dc_W_sum_102 ?_
          refine vx_iload IG dc_W_sum_105 1 rfl ?_
          refine vx_lload IG dc_W_sum_107 0 rfl ?_
          refine vx_ldc2 (v := 4294967295) IG (by decide +kernel) dc_W_sum_109 ?_
          refine vx_land IG dc_W_sum_112 ?_
          refine vx_topl (y := lN (dg 4294967296 (X + Y) i)) (by rw [ln_mask, cy_dg bB1]) ?_
          refine wr_ast IG HR hp ht i rfl (by omega) dc_W_sum_113 (fun h HR => ?_)
          obtain ⟨fn3, e_fn3⟩ : ∃ z, z = va_up fn2 p (vp_updL (fn2 p) i (lN (dg 4294967296 (X + Y) i))) := ⟨_, rfl⟩
          rw [← e_fn3] at HR
          refine vx_lload IG dc_W_sum_114 0 rfl ?_
          refine vx_bipush (v := 32) IG dc_W_sum_116 (by decide) ?_
          refine vx_lushr (v := lN (cy 4294967296 X Y (i + 1))) IG dc_W_sum_118 (by rw [← cy_succ bB1]; exact ln_shr32 (by omega)) ?_
          refine vx_lstore (lv' := [(7, .long (lN (cy 4294967296 X Y (i + 1)))), (10, .long (lN (dg 4294967296 X i + dg 4294967296 Y i + cy 4294967296 X Y i))), (9, .int (nI i)), (6, .int (nI (nd 4294967296 Y))), (5, .int (nI (nd 4294967296 X))), (4, .ref y), (3, .ref x), (0, .ref p), (1, .ref p1), (2, .ref p2)]) IG dc_W_sum_119 (by decide) rfl ?_
          refine vx_iinc (q := 2) (v := nI (i + 1)) (lv' := [(9, .int (nI (i + 1))), (7, .long (lN (cy 4294967296 X Y (i + 1)))), (10, .long (lN (dg 4294967296 X i + dg 4294967296 Y i + cy 4294967296 X Y i))), (6, .int (nI (nd 4294967296 Y))), (5, .int (nI (nd 4294967296 X))), (4, .ref y), (3, .ref x), (0, .ref p), (1, .ref p1), (2, .ref p2)]) IG dc_W_sum_121 rfl (nI_1 i) (by decide) rfl ?_
          refine vx_goto (tgt := 62) IG dc_W_sum_124 (by decide) ?_
          refine vx_same (lv' := [(9, .int (nI (i + 1))), (7, .long (lN (cy 4294967296 X Y (i + 1)))), (6, .int (nI (nd 4294967296 Y))), (5, .int (nI (nd 4294967296 X))), (4, .ref y), (3, .ref x), (0, .ref p), (1, .ref p1), (2, .ref p2)]) IG [0, 1, 3, 4, 5, 6, 7, 8, 9] rfl ?_
          refine ih (i + 1) (by omega) z10 h fn3 (fun q z => ?_) (fun j hj => ?_) (fun j h1 h2 => ?_) (fun j h1 h2 => ?_) HR
          · rw [e_fn3, va_up_ne _ _ z]; exact f1 q z
          · by_cases z : j = i
            · rw [z, e_fn3, va_up_self, pk_uLs]
            · rw [e_fn3, va_up_self, pk_uLn z]; exact f2 j (by omega)
          · by_cases z : x = p
            · rw [e_fn3, z, va_up_self, pk_uLn (by omega), ← z]; exact f3 j (by omega) h2
            · rw [e_fn3, va_up_ne _ _ z]; exact f3 j (by omega) h2
          · by_cases z : y = p
            · rw [e_fn3, z, va_up_self, pk_uLn (by omega), ← z]; exact f4 j (by omega) h2
            · rw [e_fn3, va_up_ne _ _ z]; exact f4 j (by omega) h2
        refine vx_iload IG dc_W_sum_79 0 rfl ?_
        refine vx_iload IG dc_W_sum_81 2 rfl ?_
        by_cases z : i < nd 4294967296 Y
        · refine vx_icmp_ge (tgt := 97) IG dc_W_sum_83 (by decide) (fun c_ => absurd c_ (nI_ge z (by omega))) (fun _ => ?_)
          refine vx_aload IG dc_W_sum_86 4 rfl ?_
          refine wr_dig IG HR hy wF_W_11 dc_W_sum_88 ?_
          refine vx_iload IG dc_W_sum_91 0 rfl ?_
          refine wr_ald IG HR hy ht i rfl (by omega) dc_W_sum_93 ?_
          refine vx_topl (y := lN (dg 4294967296 Y i)) (f4 i (Nat.le_refl i) z) ?_
          refine vx_goto (tgt := 98) IG dc_W_sum_94 (by decide) ?_
          exact join
        · refine vx_icmp_ge (tgt := 97) IG dc_W_sum_83 (by decide) (fun _ => ?_) (fun c_ => absurd (nI_le (by omega) (by omega)) c_)
          refine vx_lconst (v := 0) IG dc_W_sum_97 (by decide) ?_
          refine vx_topl (y := lN (dg 4294967296 Y i)) (by rw [dg_big (Nat.lt_of_lt_of_le (lt_nd bB1 Y) (Nat.pow_le_pow_right (by decide) (by omega)))]; rfl) ?_
          exact join
    refine vx_lconst (v := 0) IG dc_W_sum_56 (by decide) ?_
    refine vx_lstore (lv' := [(7, .long 0), (6, .int (nI (nd 4294967296 Y))), (5, .int (nI (nd 4294967296 X))), (4, .ref y), (3, .ref x), (0, .ref p), (1, .ref p1), (2, .ref p2)]) IG dc_W_sum_57 (by decide) rfl ?_
    refine vx_iconst (v := 0) IG dc_W_sum_59 (by decide) ?_
    refine vx_istore (lv' := [(9, .int 0), (7, .long 0), (6, .int (nI (nd 4294967296 Y))), (5, .int (nI (nd 4294967296 X))), (4, .ref y), (3, .ref x), (0, .ref p), (1, .ref p1), (2, .ref p2)]) IG dc_W_sum_60 (by decide) rfl ?_
    rw [show (0 : Int64) = lN (cy 4294967296 X Y 0) by rw [cy_zero]; rfl, show (0 : Int32) = nI 0 from rfl]
    exact loop (nd 4294967296 X) 0 (by omega) [] h fn1 (fun _ _ => rfl) (fun j hj => by omega) (fun j _ hj => hvx1.2.2 j hj) (fun j _ hj => hvy1.2.2 j hj) HR
  have hv1 := hV p1 hp1
  have hv2 := hV p2 hp2
  refine vx_aload_n IG dc_W_sum_0 rfl 1 rfl ?_
  refine wr_cnt IG HR hp1 wF_W_15 dc_W_sum_1 ?_
  refine vx_topi (y := nI (nd 4294967296 (V p1))) hv1.1 ?_
  refine vx_aload_n IG dc_W_sum_4 rfl 2 rfl ?_
  refine wr_cnt IG HR hp2 wF_W_15 dc_W_sum_5 ?_
  refine vx_topi (y := nI (nd 4294967296 (V p2))) hv2.1 ?_
  by_cases z : nd 4294967296 (V p2) ≤ nd 4294967296 (V p1)
  · refine vx_icmp_lt (tgt := 15) IG dc_W_sum_8 (by decide) (fun c_ => absurd c_ (nI_nlt z (by omega))) (fun _ => ?_)
    refine vx_aload_n IG dc_W_sum_11 rfl 1 rfl ?_
    refine vx_goto (tgt := 16) IG dc_W_sum_12 (by decide) ?_
    refine vx_astore_n (lv' := [(3, .ref p1), (0, .ref p), (1, .ref p1), (2, .ref p2)]) IG dc_W_sum_16 rfl (by decide) rfl ?_
    refine vx_aload_n IG dc_W_sum_17 rfl 2 rfl ?_
    refine wr_cnt IG HR hp1 wF_W_15 dc_W_sum_18 ?_
    refine vx_topi (y := nI (nd 4294967296 (V p1))) hv1.1 ?_
    refine vx_aload_n IG dc_W_sum_21 rfl 3 rfl ?_
    refine wr_cnt IG HR hp2 wF_W_15 dc_W_sum_22 ?_
    refine vx_topi (y := nI (nd 4294967296 (V p2))) hv2.1 ?_
    refine vx_icmp_lt (tgt := 32) IG dc_W_sum_25 (by decide) (fun c_ => absurd c_ (nI_nlt z (by omega))) (fun _ => ?_)
    refine vx_aload_n IG dc_W_sum_28 rfl 3 rfl ?_
    refine vx_goto (tgt := 33) IG dc_W_sum_29 (by decide) ?_
    refine vx_astore (lv' := [(4, .ref p2), (3, .ref p1), (0, .ref p), (1, .ref p1), (2, .ref p2)]) IG dc_W_sum_33 (by decide) rfl ?_
    exact main p1 p2 hp1 hp2 z hs1 rfl
  · refine vx_icmp_lt (tgt := 15) IG dc_W_sum_8 (by decide) (fun _ => ?_) (fun c_ => absurd (nI_lt (by omega) (by omega)) c_)
    refine vx_aload_n IG dc_W_sum_15 rfl 2 rfl ?_
    refine vx_astore_n (lv' := [(3, .ref p2), (0, .ref p), (1, .ref p1), (2, .ref p2)]) IG dc_W_sum_16 rfl (by decide) rfl ?_
    refine vx_aload_n IG dc_W_sum_17 rfl 2 rfl ?_
    refine wr_cnt IG HR hp1 wF_W_15 dc_W_sum_18 ?_
    refine vx_topi (y := nI (nd 4294967296 (V p1))) hv1.1 ?_
    refine vx_aload_n IG dc_W_sum_21 rfl 3 rfl ?_
    refine wr_cnt IG HR hp2 wF_W_15 dc_W_sum_22 ?_
    refine vx_topi (y := nI (nd 4294967296 (V p2))) hv2.1 ?_
    refine vx_icmp_lt (tgt := 32) IG dc_W_sum_25 (by decide) (fun _ => ?_) (fun c_ => absurd (nI_lt (by omega) (by omega)) c_)
    refine vx_aload_n IG dc_W_sum_32 rfl 2 rfl ?_
    refine vx_astore (lv' := [(4, .ref p1), (3, .ref p2), (0, .ref p), (1, .ref p1), (2, .ref p2)]) IG dc_W_sum_33 (by decide) rfl ?_
    exact main p2 p1 hp2 hp1 (by omega) hs2 (Nat.add_comm _ _)
end
