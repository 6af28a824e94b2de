/-! Whole: addMultiple, product -/
section
variable {l : Launch} {D : va_G} {tys : List (ClassId × FieldType)} {cJ : ClassId} {L : List Nat} {r : vx_h} {ar cp : Nat → Nat} {cn : Nat → Int32} {fn : Nat → Nat → Int64} {p p1 p2 : Nat} {h : vx_h} {V : Nat → Nat} {C S : Nat}
set_option maxRecDepth 100000 in
set_option maxHeartbeats 4000000 in
/-- addMultiple(place, f, b): f * b is added at this place, whose digit behind b's places is 0 -/
theorem cW_addMultiple (HR : rw_at 2 cJ L r ar cp cn fn h) (hp : p ∈ L) (hp2 : p2 ∈ L) (hne : p2 ≠ p) (ht : tys[0]? = some (cJ, .long)) {B : Nat} (hB : wv cp cn fn p2 B) {place tot f : Nat} (hf : f < 4294967296) (d : Nat → Nat) (hd : ∀ i, i < tot → d i < 4294967296 ∧ fn p i = lN (d i)) (htot : tot ≤ cp p) (hpl : place + nd 4294967296 B < tot) : vx_M l D vcl tys my_W_addMultiple lw_gd (rm_ 0 0 0 0) [.ref p, .int (nI place), .long (lN f), .ref p2] h (fun v h' k m => v = none ∧ k = 0 ∧ m = 0 ∧ ∃ (fn' : Nat → Nat → Int64) (e : Nat → Nat), rw_at 2 cJ L r ar cp cn fn' h' ∧ (∀ q, q ≠ p → fn' q = fn q) ∧ (∀ i, i < tot → e i < 4294967296 ∧ fn' p i = lN (e i)) ∧ (d (place + nd 4294967296 B) = 0 → vl 4294967296 e tot = vl 4294967296 d tot + f * B * 4294967296 ^ place)) := by
  have hc := rw_cap HR hp
  have hc2 := rw_cap HR hp2
  have hB2 := hB.2.1
  refine vx_M.ofV (cc := bc_W_addMultiple) (maxL := 13) (ret := none) (own := rW) false rfl (by decide +kernel) wC_W_addMultiple (fun q => by cases q) (Nat.le_of_ble_eq_true rfl) (fun A H0 G IG RG => ?_)
  show vx_V _ _ _ _ _ _ _ _ _ 0 [(0, .ref p), (1, .int (nI place)), (2, .long (lN f)), (4, .ref p2)] []
  have loop : ∀ (m i : Nat), i + m = nd 4294967296 B → ∀ (h : vx_h) (fn2 : Nat → Nat → Int64) (c : Nat → Nat) (cr : Nat), cr < 4294967296 → (∀ q, q ≠ p → fn2 q = fn q) → (∀ j, j < tot → c j < 4294967296 ∧ fn2 p j = lN (c j)) → (∀ j, j < place ∨ place + i ≤ j → c j = d j) → vl 4294967296 (fun j => c (place + j)) i + cr * 4294967296 ^ i = f * vl 4294967296 (dg 4294967296 B) i + vl 4294967296 (fun j => d (place + j)) i → rw_at 2 cJ L r ar cp cn fn2 h → vx_V D vcl A H0 13 G h 0 0 26 [(10, .int (nI i)), (8, .long (lN cr)), (7, .int (nI (nd 4294967296 B))), (6, .ref (ar p2)), (5, .ref (ar p)), (0, .ref p), (1, .int (nI place)), (2, .long (lN f)), (4, .ref p2)] [] := by
    intro m
    induction m with
    | zero =>
      intro i him h fn2 c cr hcr f1 f2 f3 f4 HR
      obtain rfl : i = nd 4294967296 B := by omega
      refine vx_iload IG dc_W_addMultiple_26 0 rfl ?_
      refine vx_iload IG dc_W_addMultiple_28 2 rfl ?_
      refine vx_icmp_ge (tgt := 79) IG dc_W_addMultiple_30 (by decide) (fun _ => ?_) (fun c_ => absurd (nI_le (Nat.le_refl _) (by omega)) c_)
      refine vx_aload IG dc_W_addMultiple_79 4 rfl ?_
      refine vx_iload_n IG dc_W_addMultiple_81 rfl 6 rfl ?_
      refine vx_iload IG dc_W_addMultiple_82 2 rfl ?_
      refine vx_iadd IG dc_W_addMultiple_84 ?_
      refine vx_topi (y := nI (place + nd 4294967296 B)) (nI_add _ _) ?_
      refine vx_lload IG dc_W_addMultiple_85 1 rfl ?_
      refine wr_ast IG HR hp ht (place + nd 4294967296 B) rfl (by omega) dc_W_addMultiple_87 (fun h HR => ?_)
      obtain ⟨fn3, e_fn3⟩ : ∃ z, z = va_up fn2 p (vp_updL (fn2 p) (place + nd 4294967296 B) (lN cr)) := ⟨_, rfl⟩
      rw [← e_fn3] at HR
      refine vx_ret none RG (vx_endv dc_W_addMultiple_88) rfl ?_
      refine ⟨rfl, rfl, rfl, fn3, (fun j => if j = place + nd 4294967296 B then cr else c j), HR, fun q z => ?_, fun j hj => ?_, fun hz => ?_⟩
      · rw [e_fn3, va_up_ne _ _ z]; exact f1 q z
      · by_cases z : j = place + nd 4294967296 B
        · simp only [z, if_true]
          exact ⟨hcr, by rw [e_fn3, va_up_self, pk_uLs]⟩
        · simp only [z, if_false]
          exact ⟨(f2 j hj).1, by rw [e_fn3, va_up_self, pk_uLn z]; exact (f2 j hj).2⟩
      · obtain ⟨rest, hrest⟩ : ∃ rest, tot = place + (nd 4294967296 B + 1) + rest := ⟨tot - (place + (nd 4294967296 B + 1)), by omega⟩
        rw [hrest]
        refine am_end (fun j hj => ?_) (fun j hj => ?_) ?_
        · show (if j = place + nd 4294967296 B then cr else c j) = d j
          rw [if_neg (by omega)]; exact f3 j (Or.inl hj)
        · show (if j = place + nd 4294967296 B then cr else c j) = d j
          rw [if_neg (by omega)]; exact f3 j (Or.inr (by omega))
        · rw [vl_succ, vl_succ]
          show vl 4294967296 (fun j => if place + j = place + nd 4294967296 B then cr else c (place + j)) (nd 4294967296 B) + (if place + nd 4294967296 B = place + nd 4294967296 B then cr else c (place + nd 4294967296 B)) * 4294967296 ^ nd 4294967296 B = f * B + (vl 4294967296 (fun j => d (place + j)) (nd 4294967296 B) + d (place + nd 4294967296 B) * 4294967296 ^ nd 4294967296 B)
          rw [if_pos rfl, hz, Nat.zero_mul, vl_congr (d := fun j => if place + j = place + nd 4294967296 B then cr else c (place + j)) (e := fun j => c (place + j)) (fun j hj => by show (if _ then _ else _) = _; rw [if_neg (by omega)]), f4, vl_nd bB1]
          omega
    | succ m ih =>
      intro i him h fn2 c cr hcr f1 f2 f3 f4 HR
      have hbi := dg_lt bB1 B i
      have hci := f2 (place + i) (by omega)
      have hdi := f3 (place + i) (Or.inr (Nat.le_refl _))
      have htb := am_bound hf hbi hci.1 hcr
      refine vx_iload IG dc_W_addMultiple_26 0 rfl ?_
      refine vx_iload IG dc_W_addMultiple_28 2 rfl ?_
      refine vx_icmp_ge (tgt := 79) IG dc_W_addMultiple_30 (by decide) (fun c_ => absurd c_ (nI_ge (by omega) (by omega))) (fun _ => ?_)
      refine vx_lload_n IG dc_W_addMultiple_33 rfl 7 rfl ?_
      refine vx_aload IG dc_W_addMultiple_34 3 rfl ?_
      refine vx_iload IG dc_W_addMultiple_36 0 rfl ?_
      refine wr_ald IG HR hp2 ht i rfl (by omega) dc_W_addMultiple_38 ?_
      refine vx_topl (y := lN (dg 4294967296 B i)) (by rw [f1 p2 hne]; exact hB.2.2 i (by omega)) ?_
      refine vx_lmul IG dc_W_addMultiple_39 ?_
      refine vx_topl (y := lN (f * dg 4294967296 B i)) (lN_mul _ _) ?_
      refine vx_aload IG dc_W_addMultiple_40 4 rfl ?_
      refine vx_iload_n IG dc_W_addMultiple_42 rfl 6 rfl ?_
      refine vx_iload IG dc_W_addMultiple_43 0 rfl ?_
      refine vx_iadd IG dc_W_addMultiple_45 ?_
      refine vx_topi (y := nI (place + i)) (nI_add _ _) ?_
      refine wr_ald IG HR hp ht (place + i) rfl (by omega) dc_W_addMultiple_46 ?_
      refine vx_topl (y := lN (c (place + i))) hci.2 ?_
      refine vx_ladd IG dc_W_addMultiple_47 ?_
      refine vx_topl (y := lN (f * dg 4294967296 B i + c (place + i))) (lN_add _ _) ?_
      refine vx_lload IG dc_W_addMultiple_48 1 rfl ?_
      refine vx_ladd IG dc_W_addMultiple_50 ?_
      refine vx_topl (y := lN (f * dg 4294967296 B i + c (place + i) + cr)) (lN_add _ _) ?_
      refine vx_lstore (lv' := [(11, .long (lN (f * dg 4294967296 B i + c (place + i) + cr))), (10, .int (nI i)), (8, .long (lN cr)), (7, .int (nI (nd 4294967296 B))), (6, .ref (ar p2)), (5, .ref (ar p)), (0, .ref p), (1, .int (nI place)), (2, .long (lN f)), (4, .ref p2)]) IG dc_W_addMultiple_51 (by decide) rfl ?_
      refine vx_aload IG dc_W_addMultiple_53 5 rfl ?_
      refine vx_iload_n IG dc_W_addMultiple_55 rfl 7 rfl ?_
      refine vx_iload IG dc_W_addMultiple_56 1 rfl ?_
      refine vx_iadd IG dc_W_addMultiple_58 ?_
      refine vx_topi (y := nI (place + i)) (nI_add _ _) ?_
      refine vx_lload IG dc_W_addMultiple_59 0 rfl ?_
      refine vx_ldc2 (v := 4294967295) IG (by decide +kernel) dc_W_addMultiple_61 ?_
      refine vx_land IG dc_W_addMultiple_64 ?_
      refine vx_topl (y := lN ((f * dg 4294967296 B i + c (place + i) + cr) % 4294967296)) (ln_mask _) ?_
      refine wr_ast IG HR hp ht (place + i) rfl (by omega) dc_W_addMultiple_65 (fun h HR => ?_)
      obtain ⟨fn3, e_fn3⟩ : ∃ z, z = va_up fn2 p (vp_updL (fn2 p) (place + i) (lN ((f * dg 4294967296 B i + c (place + i) + cr) % 4294967296))) := ⟨_, rfl⟩
      rw [← e_fn3] at HR
      refine vx_lload IG dc_W_addMultiple_66 0 rfl ?_
      refine vx_bipush (v := 32) IG dc_W_addMultiple_68 (by decide) ?_
      refine vx_lushr (v := lN ((f * dg 4294967296 B i + c (place + i) + cr) / 4294967296)) IG dc_W_addMultiple_70 (ln_shr32 (by omega)) ?_
      refine vx_lstore (lv' := [(8, .long (lN ((f * dg 4294967296 B i + c (place + i) + cr) / 4294967296))), (11, .long (lN (f * dg 4294967296 B i + c (place + i) + cr))), (10, .int (nI i)), (7, .int (nI (nd 4294967296 B))), (6, .ref (ar p2)), (5, .ref (ar p)), (0, .ref p), (1, .int (nI place)), (2, .long (lN f)), (4, .ref p2)]) IG dc_W_addMultiple_71 (by decide) rfl ?_
      refine vx_iinc (q := 2) (v := nI (i + 1)) (lv' := [(10, .int (nI (i + 1))), (8, .long (lN ((f * dg 4294967296 B i + c (place + i) + cr) / 4294967296))), (11, .long (lN (f * dg 4294967296 B i + c (place + i) + cr))), (7, .int (nI (nd 4294967296 B))), (6, .ref (ar p2)), (5, .ref (ar p)), (0, .ref p), (1, .int (nI place)), (2, .long (lN f)), (4, .ref p2)]) IG dc_W_addMultiple_73 rfl (nI_1 i) (by decide) rfl ?_
      refine vx_goto (tgt := 26) IG dc_W_addMultiple_76 (by decide) ?_
      refine vx_same (lv' := [(10, .int (nI (i + 1))), (8, .long (lN ((f * dg 4294967296 B i + c (place + i) + cr) / 4294967296))), (7, .int (nI (nd 4294967296 B))), (6, .ref (ar p2)), (5, .ref (ar p)), (0, .ref p), (1, .int (nI place)), (2, .long (lN f)), (4, .ref p2)]) IG [0, 1, 3, 4, 5, 6, 7, 8, 9] rfl ?_
      refine ih (i + 1) (by omega) h fn3 (fun j => if j = place + i then (f * dg 4294967296 B i + c (place + i) + cr) % 4294967296 else c j) _ (by omega) (fun q z => ?_) (fun j hj => ?_) (fun j hj => ?_) ?_ HR
      · rw [e_fn3, va_up_ne _ _ z]; exact f1 q z
      · by_cases z : j = place + i
        · simp only [z, if_true]
          exact ⟨by omega, by rw [e_fn3, va_up_self, pk_uLs]⟩
        · simp only [z, if_false]
          exact ⟨(f2 j hj).1, by rw [e_fn3, va_up_self, pk_uLn z]; exact (f2 j hj).2⟩
      · show (if j = place + i then _ else c j) = d j
        rw [if_neg (by omega)]; exact f3 j (by omega)
      · refine am_step 4294967296 (cr := cr) ?_ (by rw [hdi]) ?_
        · rw [← f4]
          congr 1
          exact vl_congr (fun j hj => by show (if _ then _ else _) = _; rw [if_neg (by omega)])
        · show (if place + i = place + i then _ else _) = _
          rw [if_pos rfl]
  refine vx_aload_n IG dc_W_addMultiple_0 rfl 0 rfl ?_
  refine wr_dig IG HR hp wF_W_11 dc_W_addMultiple_1 ?_
  refine vx_astore (lv' := [(5, .ref (ar p)), (0, .ref p), (1, .int (nI place)), (2, .long (lN f)), (4, .ref p2)]) IG dc_W_addMultiple_4 (by decide) rfl ?_
  refine vx_aload IG dc_W_addMultiple_6 4 rfl ?_
  refine wr_dig IG HR hp2 wF_W_11 dc_W_addMultiple_8 ?_
  refine vx_astore (lv' := [(6, .ref (ar p2)), (5, .ref (ar p)), (0, .ref p), (1, .int (nI place)), (2, .long (lN f)), (4, .ref p2)]) IG dc_W_addMultiple_11 (by decide) rfl ?_
  refine vx_aload IG dc_W_addMultiple_13 5 rfl ?_
  refine wr_cnt IG HR hp2 wF_W_15 dc_W_addMultiple_15 ?_
  refine vx_topi (y := nI (nd 4294967296 B)) hB.1 ?_
  refine vx_istore (lv' := [(7, .int (nI (nd 4294967296 B))), (6, .ref (ar p2)), (5, .ref (ar p)), (0, .ref p), (1, .int (nI place)), (2, .long (lN f)), (4, .ref p2)]) IG dc_W_addMultiple_18 (by decide) rfl ?_
  refine vx_lconst (v := 0) IG dc_W_addMultiple_20 (by decide) ?_
  refine vx_lstore (lv' := [(8, .long 0), (7, .int (nI (nd 4294967296 B))), (6, .ref (ar p2)), (5, .ref (ar p)), (0, .ref p), (1, .int (nI place)), (2, .long (lN f)), (4, .ref p2)]) IG dc_W_addMultiple_21 (by decide) rfl ?_
  refine vx_iconst (v := 0) IG dc_W_addMultiple_23 (by decide) ?_
  refine vx_istore (lv' := [(10, .int 0), (8, .long 0), (7, .int (nI (nd 4294967296 B))), (6, .ref (ar p2)), (5, .ref (ar p)), (0, .ref p), (1, .int (nI place)), (2, .long (lN f)), (4, .ref p2)]) IG dc_W_addMultiple_24 (by decide) rfl ?_
  exact loop (nd 4294967296 B) 0 (by omega) h fn d 0 (by decide) (fun _ _ => rfl) hd (fun _ _ => rfl) (by simp [vl]) HR
theorem dg_zero_of {d : Nat → Nat} {n j c : Nat} (hd : ∀ i, i < n → d i < 4294967296) (hj : j < n) (hc : c ≤ j) (h : vl 4294967296 d n < 4294967296 ^ c) : d j = 0 := by
  rw [← dg_vl bB1 hd hj]
  exact dg_big (Nat.lt_of_lt_of_le h (Nat.pow_le_pow_right (by decide) hc))
set_option maxRecDepth 100000 in
set_option maxHeartbeats 4000000 in
/-- product(a, b): this becomes a * b; it is neither of them -/
theorem cW_product (HP : pool cJ L r V h C S) (hL : L.Nodup) (hp : p ∈ L) (hp1 : p1 ∈ L) (hp2 : p2 ∈ L) (hn1 : p1 ≠ p) (hn2 : p2 ≠ p) (ht : tys[0]? = some (cJ, .long)) (hs : nd 4294967296 (V p1) + nd 4294967296 (V p2) ≤ 4100) : vx_M l D vcl tys my_W_product lw_gd (rm_ 4 C S 86) [.ref p, .ref p1, .ref p2] h (pend cJ L r (va_up V p (V p1 * V p2)) C S none) := by
  obtain ⟨ar, cp, cn, fn, HR, hV, hC, hS⟩ := HP
  have hvx := hV p1 hp1
  have hvy := hV p2 hp2
  have hc0 := rw_cap HR hp
  refine vx_M.ofV (cc := bc_W_product) (maxL := 5) (ret := none) (own := rW) false rfl (by decide +kernel) wC_W_product (fun q => by cases q) (Nat.le_of_ble_eq_true rfl) (fun A H0 G IG RG => ?_)
  show vx_V _ _ _ _ _ _ _ _ _ 0 [(0, .ref p), (1, .ref p1), (2, .ref p2)] []
  refine vx_aload_n IG dc_W_product_0 rfl 1 rfl ?_
  refine wr_cnt IG HR hp1 wF_W_15 dc_W_product_1 ?_
  refine vx_topi (y := nI (nd 4294967296 (V p1))) hvx.1 ?_
  refine vx_aload_n IG dc_W_product_4 rfl 2 rfl ?_
  refine wr_cnt IG HR hp2 wF_W_15 dc_W_product_5 ?_
  refine vx_topi (y := nI (nd 4294967296 (V p2))) hvy.1 ?_
  refine vx_iadd IG dc_W_product_8 ?_
  refine vx_topi (y := nI (nd 4294967296 (V p1) + nd 4294967296 (V p2))) (nI_add _ _) ?_
  refine vx_istore_n (lv' := [(3, .int (nI (nd 4294967296 (V p1) + nd 4294967296 (V p2)))), (0, .ref p), (1, .ref p1), (2, .ref p2)]) IG dc_W_product_9 rfl (by decide) rfl ?_
  refine vx_aload_n IG dc_W_product_10 rfl 1 rfl ?_
  refine vx_callV (As := []) (st := []) IG lw_good (cW_clear HR hp) (rw_obj HR hp) rfl wC_W_clear wL_W_66 wI_W_clear wS_W_clear wX_W 0 (by decide +kernel) rfl ⟨Nat.le_of_ble_eq_true rfl, Nat.le_of_ble_eq_true rfl⟩ ⟨(by show 0 + 0 ≤ C; omega), (by show 0 + 0 ≤ S; omega)⟩ rfl (Nat.le_of_ble_eq_true rfl) dc_W_product_11 (fun v h k_ n_ hq => ?_)
  obtain ⟨rfl, rfl, rfl, HR⟩ := hq
  show vx_V _ _ _ _ _ _ _ _ _ 14 [(3, .int (nI (nd 4294967296 (V p1) + nd 4294967296 (V p2)))), (0, .ref p), (1, .ref p1), (2, .ref p2)] []
  refine vx_aload_n IG dc_W_product_14 rfl 1 rfl ?_
  refine vx_iload_n IG dc_W_product_15 rfl 0 rfl ?_
  refine vx_callV (As := [.int (nI (nd 4294967296 (V p1) + nd 4294967296 (V p2)))]) (st := []) IG lw_good (cW_widen HR hL hp ht (n := nd 4294967296 (V p1) + nd 4294967296 (V p2)) (c := 0) (by rw [va_up_self]; rfl) (by omega) hs hC hS) (rw_obj HR hp) rfl wC_W_widen wL_W_69 wI_W_widen wS_W_widen wX_W 1 (by decide +kernel) rfl ⟨Nat.le_of_ble_eq_true rfl, Nat.le_of_ble_eq_true rfl⟩ ⟨(by show 0 + 0 + C ≤ C; omega), (by show 0 + 0 + S ≤ S; omega)⟩ rfl (Nat.le_of_ble_eq_true rfl) dc_W_product_16 (fun v h k_ n_ hq => ?_)
  obtain ⟨rfl, ar1, cp1, fn1, HR, ho, hnn, hge, -, hzero, kc, ks⟩ := hq
  show vx_V _ _ _ _ _ _ _ _ _ 19 [(3, .int (nI (nd 4294967296 (V p1) + nd 4294967296 (V p2)))), (0, .ref p), (1, .ref p1), (2, .ref p2)] []
  obtain ⟨cn1, e_cn1⟩ : ∃ z, z = va_up cn p 0 := ⟨_, rfl⟩
  rw [← e_cn1] at HR
  have hvx1 : wv cp1 cn1 fn1 p1 (V p1) := wv_same hvx (ho p1 hn1).1 (by rw [e_cn1, va_up_ne _ _ hn1]) (ho p1 hn1).2
  have hvy1 : wv cp1 cn1 fn1 p2 (V p2) := wv_same hvy (ho p2 hn2).1 (by rw [e_cn1, va_up_ne _ _ hn2]) (ho p2 hn2).2
  have hc1 := rw_cap HR hp
  have hcx := hvx1.2.1
  generalize eX : V p1 = X at *
  generalize eY : V p2 = Y at *
  have hlt2 : ∀ i, X % 4294967296 ^ i * Y < 4294967296 ^ (i + nd 4294967296 Y) := by
    intro i
    rw [Nat.pow_add]
    rcases Nat.eq_zero_or_pos Y with z | z
    · rw [z, Nat.mul_zero]; exact Nat.mul_pos (bp_pos bB1 _) (bp_pos bB1 _)
    · exact Nat.lt_of_lt_of_le (Nat.mul_lt_mul_of_pos_right (Nat.mod_lt _ (bp_pos bB1 i)) z) (Nat.mul_le_mul_left _ (Nat.le_of_lt (lt_nd bB1 Y)))
  have loop : ∀ (m i : Nat), i + m = nd 4294967296 X → ∀ (h : vx_h) (fn2 : Nat → Nat → Int64) (d : Nat → Nat), (∀ q, q ≠ p → fn2 q = fn1 q) → (∀ j, j < nd 4294967296 X + nd 4294967296 Y → d j < 4294967296 ∧ fn2 p j = lN (d j)) → vl 4294967296 d (nd 4294967296 X + nd 4294967296 Y) = X % 4294967296 ^ i * Y → rw_at 2 cJ L r ar1 cp1 cn1 fn2 h → vx_V D vcl A H0 5 G h (0 + 0 + k_) (0 + 0 + n_) 22 [(4, .int (nI i)), (3, .int (nI (nd 4294967296 X + nd 4294967296 Y))), (0, .ref p), (1, .ref p1), (2, .ref p2)] [] := by
    intro m
    induction m with
    | zero =>
      intro i him h fn2 d f1 f2 f3 HR
      obtain rfl : i = nd 4294967296 X := by omega
      refine vx_iload IG dc_W_product_22 0 rfl ?_
      refine vx_aload_n IG dc_W_product_24 rfl 3 rfl ?_
      refine wr_cnt IG HR hp1 wF_W_15 dc_W_product_25 ?_
      refine vx_topi (y := nI (nd 4294967296 X)) hvx1.1 ?_
      refine vx_icmp_ge (tgt := 63) IG dc_W_product_28 (by decide) (fun _ => ?_) (fun c_ => absurd (nI_le (Nat.le_refl _) (by omega)) c_)
      refine vx_aload_n IG dc_W_product_63 rfl 2 rfl ?_
      refine vx_iload_n IG dc_W_product_64 rfl 1 rfl ?_
      refine vx_callV (As := [.int (nI (nd 4294967296 X + nd 4294967296 Y))]) (st := []) IG lw_good (cW_trim HR hp ht hnn d f2) (rw_obj HR hp) rfl wC_W_trim wL_W_37 wI_W_trim wS_W_trim wX_W 1 (by decide +kernel) rfl ⟨Nat.le_of_ble_eq_true rfl, Nat.le_of_ble_eq_true rfl⟩ ⟨(by show 0 + 0 + k_ + 0 ≤ C; omega), (by show 0 + 0 + n_ + 0 ≤ S; omega)⟩ rfl (Nat.le_of_ble_eq_true rfl) dc_W_product_65 (fun v h k_ n_ hq => ?_)
      obtain ⟨rfl, rfl, rfl, HR⟩ := hq
      show vx_V _ _ _ _ _ _ _ _ _ 68 [(4, .int (nI (nd 4294967296 X))), (3, .int (nI (nd 4294967296 X + nd 4294967296 Y))), (0, .ref p), (1, .ref p1), (2, .ref p2)] []
      refine vx_ret none RG (vx_endv dc_W_product_68) rfl ?_
      have e : vl 4294967296 d (nd 4294967296 X + nd 4294967296 Y) = X * Y := by rw [f3, Nat.mod_eq_of_lt (lt_nd bB1 X)]
      have hw := wv_trim (cp := cp1) (cn' := va_up cn1 p (nI (nd 4294967296 (vl 4294967296 d (nd 4294967296 X + nd 4294967296 Y))))) f2 hnn (va_up_self _ _ _)
      rw [e] at HR hw
      refine pool_end (p := p) hV HR (fun q z => ⟨(ho q z).1, ?_, ?_⟩) hw (by omega) (by omega)
      · rw [va_up_ne _ _ z, e_cn1, va_up_ne _ _ z]
      · rw [f1 q z, (ho q z).2]
    | succ m ih =>
      intro i him h fn2 d f1 f2 f3 HR
      have gx := dg_lt bB1 X i
      have hmd : X % 4294967296 ^ (i + 1) * Y = X % 4294967296 ^ i * Y + dg 4294967296 X i * Y * 4294967296 ^ i := by
        rw [md_split, Nat.add_mul, Nat.mul_comm (4294967296 ^ i), Nat.mul_assoc, Nat.mul_assoc, Nat.mul_comm (4294967296 ^ i)]
      refine vx_iload IG dc_W_product_22 0 rfl ?_
      refine vx_aload_n IG dc_W_product_24 rfl 3 rfl ?_
      refine wr_cnt IG HR hp1 wF_W_15 dc_W_product_25 ?_
      refine vx_topi (y := nI (nd 4294967296 X)) hvx1.1 ?_
      refine vx_icmp_ge (tgt := 63) IG dc_W_product_28 (by decide) (fun c_ => absurd c_ (nI_ge (by omega) (by omega))) (fun _ => ?_)
      refine vx_aload_n IG dc_W_product_31 rfl 3 rfl ?_
      refine wr_dig IG HR hp1 wF_W_11 dc_W_product_32 ?_
      refine vx_iload IG dc_W_product_35 0 rfl ?_
      refine wr_ald IG HR hp1 ht i rfl (by omega) dc_W_product_37 ?_
      refine vx_topl (y := lN (dg 4294967296 X i)) (by rw [f1 p1 hn1]; exact hvx1.2.2 i (by omega)) ?_
      refine vx_lconst (v := 0) IG dc_W_product_38 (by decide) ?_
      refine vx_lcmp IG dc_W_product_39 ?_
      by_cases z : dg 4294967296 X i = 0
      · refine vx_if_eq (tgt := 57) IG dc_W_product_40 (by decide) (fun _ => ?_) (fun c_ => absurd ((lg_cmp_eq _ _).mpr (by rw [z]; rfl)) c_)
        refine vx_iinc (q := 0) (v := nI (i + 1)) (lv' := [(4, .int (nI (i + 1))), (3, .int (nI (nd 4294967296 X + nd 4294967296 Y))), (0, .ref p), (1, .ref p1), (2, .ref p2)]) IG dc_W_product_57 rfl (nI_1 i) (by decide) rfl ?_
        refine vx_goto (tgt := 22) IG dc_W_product_60 (by decide) ?_
        exact ih (i + 1) (by omega) h fn2 d f1 f2 (by rw [f3, hmd, z]; simp) HR
      · refine vx_if_eq (tgt := 57) IG dc_W_product_40 (by decide) (fun c_ => absurd c_ (fun q => z (ln_eq (by omega) (by decide) ((lg_cmp_eq _ _).mp q)))) (fun _ => ?_)
        refine vx_aload_n IG dc_W_product_43 rfl 2 rfl ?_
        refine vx_iload IG dc_W_product_44 0 rfl ?_
        refine vx_aload_n IG dc_W_product_46 rfl 3 rfl ?_
        refine wr_dig IG HR hp1 wF_W_11 dc_W_product_47 ?_
        refine vx_iload IG dc_W_product_50 0 rfl ?_
        refine wr_ald IG HR hp1 ht i rfl (by omega) dc_W_product_52 ?_
        refine vx_topl (y := lN (dg 4294967296 X i)) (by rw [f1 p1 hn1]; exact hvx1.2.2 i (by omega)) ?_
        refine vx_aload_n IG dc_W_product_53 rfl 4 rfl ?_
        have hvy2 : wv cp1 cn1 fn2 p2 Y := wv_same hvy1 rfl rfl (f1 p2 hn2)
        refine vx_callV (As := [.int (nI i), .long (lN (dg 4294967296 X i)), .ref p2]) (st := []) IG lw_good (cW_addMultiple HR hp hp2 hn2 ht hvy2 gx d f2 hnn (by omega)) (rw_obj HR hp) rfl wC_W_addMultiple wL_W_72 wI_W_addMultiple wS_W_addMultiple wX_W 3 (by decide +kernel) rfl ⟨Nat.le_of_ble_eq_true rfl, Nat.le_of_ble_eq_true rfl⟩ ⟨(by show 0 + 0 + k_ + 0 ≤ C; omega), (by show 0 + 0 + n_ + 0 ≤ S; omega)⟩ rfl (Nat.le_of_ble_eq_true rfl) dc_W_product_54 (fun v h k_ n_ hq => ?_)
        obtain ⟨rfl, rfl, rfl, fn3, e, HR, g1, g2, g3⟩ := hq
        show vx_V _ _ _ _ _ _ _ _ _ 57 [(4, .int (nI i)), (3, .int (nI (nd 4294967296 X + nd 4294967296 Y))), (0, .ref p), (1, .ref p1), (2, .ref p2)] []
        refine vx_iinc (q := 0) (v := nI (i + 1)) (lv' := [(4, .int (nI (i + 1))), (3, .int (nI (nd 4294967296 X + nd 4294967296 Y))), (0, .ref p), (1, .ref p1), (2, .ref p2)]) IG dc_W_product_57 rfl (nI_1 i) (by decide) rfl ?_
        refine vx_goto (tgt := 22) IG dc_W_product_60 (by decide) ?_
        refine ih (i + 1) (by omega) h fn3 e (fun q z => (g1 q z).trans (f1 q z)) g2 ?_ HR
        rw [g3 (dg_zero_of (fun j hj => (f2 j hj).1) (by omega) (Nat.le_refl _) (by rw [f3]; exact hlt2 i)), f3, hmd]
  refine vx_iconst (v := 0) IG dc_W_product_19 (by decide) ?_
  refine vx_istore (lv' := [(4, .int 0), (3, .int (nI (nd 4294967296 X + nd 4294967296 Y))), (0, .ref p), (1, .ref p1), (2, .ref p2)]) IG dc_W_product_20 (by decide) rfl ?_
  exact loop (nd 4294967296 X) 0 (by omega) h fn1 (fun _ => 0) (fun _ _ => rfl) (fun j hj => ⟨by decide, by rw [hzero j (Nat.zero_le j) hj]; rfl⟩) (by rw [vl_zero (fun _ _ => rfl)]; simp [Nat.mod_one]) HR
end
