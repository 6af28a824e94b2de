/-! the pool by its numbers; load, copy, widen -/
/-- the pool holds the numbers V; what its rows may still cost is at most C cells of S slots -/
def pool (cJ : ClassId) (L : List Nat) (r : vx_h) (V : Nat → Nat) (h : vx_h) (C S : Nat) : Prop := ∃ (ar cp : Nat → Nat) (cn : Nat → Int32) (fn : Nat → Nat → Int64), rw_at 2 cJ L r ar cp cn fn h ∧ (∀ q ∈ L, wv cp cn fn q (V q)) ∧ pc_ cp L ≤ C ∧ ph cp L ≤ S
/-- the end of a method that gives p the number N -/
def pend (cJ : ClassId) (L : List Nat) (r : vx_h) (V : Nat → Nat) (C S : Nat) (v0 : Option Value) : Option Value → vx_h → Nat → Nat → Prop := fun v h' k m => v = v0 ∧ ∃ C' S', pool cJ L r V h' C' S' ∧ k + C' ≤ C ∧ m + S' ≤ S
section
variable {l : Launch} {D : va_G} {tys : List (ClassId × FieldType)} {cJ : ClassId} {L : List Nat} {r : vx_h} {ar cp : Nat → Nat} {cn : Nat → Int32} {fn : Nat → Nat → Int64} {p : Nat} {h : vx_h} {V : Nat → Nat} {C S : Nat}
theorem wv_trim {cn' : Nat → Int32} {n : Nat} {d : Nat → Nat} (hd : ∀ i, i < n → d i < 4294967296 ∧ fn p i = lN (d i)) (hn : n ≤ cp p) (hc : cn' p = nI (nd 4294967296 (vl 4294967296 d n))) : wv cp cn' fn p (vl 4294967296 d n) := by
  have h1 : nd 4294967296 (vl 4294967296 d n) ≤ n := (nd_le bB1).mpr (vl_lt bB1 (fun i hi => (hd i hi).1))
  exact ⟨hc, Nat.le_trans h1 hn, fun i hi => by rw [dg_vl bB1 (fun i hi => (hd i hi).1) (by omega)]; exact (hd i (by omega)).2⟩
theorem wv_same {cp' : Nat → Nat} {cn' : Nat → Int32} {fn' : Nat → Nat → Int64} {q N : Nat} (hv : wv cp cn fn q N) (h1 : cp' q = cp q) (h2 : cn' q = cn q) (h3 : fn' q = fn q) : wv cp' cn' fn' q N := by
  unfold wv
  rw [h1, h2, h3]
  exact hv
theorem pool_end {ar' cp' : Nat → Nat} {cn' : Nat → Int32} {fn' : Nat → Nat → Int64} {h' : vx_h} {k m N : Nat} {v0 : Option Value} (hV : ∀ q ∈ L, wv cp cn fn q (V q)) (HR : rw_at 2 cJ L r ar' cp' cn' fn' h') (ho : ∀ q, q ≠ p → cp' q = cp q ∧ cn' q = cn q ∧ fn' q = fn q) (hN : wv cp' cn' fn' p N) (hk : k + pc_ cp' L ≤ C) (hm : m + ph cp' L ≤ S) : pend cJ L r (va_up V p N) C S v0 v0 h' k m := by
  refine ⟨rfl, pc_ cp' L, ph cp' L, ⟨ar', cp', cn', fn', HR, fun q hq => ?_, Nat.le_refl _, Nat.le_refl _⟩, hk, hm⟩
  by_cases z : q = p
  · subst z
    rw [va_up_self]
    exact hN
  · rw [va_up_ne _ _ z]
    exact wv_same (hV q hq) (ho q z).1 (ho q z).2.1 (ho q z).2.2
theorem nI_dig {N : Nat} (hv : wv cp cn fn p N) (HR : rw_at 2 cJ L r ar cp cn fn h) (hp : p ∈ L) : nd 4294967296 N ≤ 8200 := Nat.le_trans hv.2.1 (rw_cap HR hp).2
set_option maxRecDepth 100000 in
set_option maxHeartbeats 4000000 in
/-- load(bits): the number that the 64 bits are -/
theorem cW_load (HP : pool cJ L r V h C S) (hp : p ∈ L) (ht : tys[0]? = some (cJ, .long)) {b : Nat} (hb : b < 18446744073709551616) : vx_M l D vcl tys my_W_load lw_gd (rm_ 1 C S 21) [.ref p, .long (lN b)] h (pend cJ L r (va_up V p b) C S none) := by
  obtain ⟨ar, cp, cn, fn, HR, hV, hC, hS⟩ := HP
  have hc := rw_cap HR hp
  refine vx_M.ofV (cc := bc_W_load) (maxL := 3) (ret := none) (own := rW) false rfl (by decide +kernel) wC_W_load (fun q => by cases q) (Nat.le_of_ble_eq_true rfl) (fun A H0 G IG RG => ?_)
  show vx_V _ _ _ _ _ _ _ _ _ 0 [(0, .ref p), (1, .long (lN b))] []
  refine vx_aload_n IG dc_W_load_0 rfl 0 rfl ?_
  refine wr_dig IG HR hp wF_W_11 dc_W_load_1 ?_
  refine vx_iconst (v := 0) IG dc_W_load_4 (by decide) ?_
  refine vx_lload_n IG dc_W_load_5 rfl 1 rfl ?_
  refine vx_ldc2 (v := 4294967295) IG (by decide +kernel) dc_W_load_6 ?_
  refine vx_land IG dc_W_load_9 ?_
  refine vx_topl (y := lN (b % 4294967296)) (ln_mask b) ?_
  refine wr_ast IG HR hp ht 0 rfl (by omega) dc_W_load_10 (fun h HR => ?_)
  obtain ⟨fn1, e_fn1⟩ : ∃ z, z = va_up fn p (vp_updL (fn p) 0 (lN (b % 4294967296))) := ⟨_, rfl⟩
  rw [← e_fn1] at HR
  refine vx_aload_n IG dc_W_load_11 rfl 0 rfl ?_
  refine wr_dig IG HR hp wF_W_11 dc_W_load_12 ?_
  refine vx_iconst (v := 1) IG dc_W_load_15 (by decide) ?_
  refine vx_lload_n IG dc_W_load_16 rfl 1 rfl ?_
  refine vx_bipush (v := 32) IG dc_W_load_17 (by decide) ?_
  refine vx_lushr (v := lN (b / 4294967296)) IG dc_W_load_19 (ln_shr32 hb) ?_
  refine wr_ast IG HR hp ht 1 rfl (by omega) dc_W_load_20 (fun h HR => ?_)
  obtain ⟨fn2, e_fn2⟩ : ∃ z, z = va_up fn1 p (vp_updL (fn1 p) 1 (lN (b / 4294967296))) := ⟨_, rfl⟩
  rw [← e_fn2] at HR
  refine vx_aload_n IG dc_W_load_21 rfl 0 rfl ?_
  refine vx_iconst (v := 2) IG dc_W_load_22 (by decide) ?_
  have hd : ∀ i, i < 2 → (fun i => if i = 0 then b % 4294967296 else b / 4294967296) i < 4294967296 ∧ fn2 p i = lN ((fun i => if i = 0 then b % 4294967296 else b / 4294967296) i) := by
    intro i hi
    rcases (show i = 0 ∨ i = 1 by omega) with rfl | rfl
    · refine ⟨by show b % 4294967296 < _; omega, ?_⟩
      rw [e_fn2, va_up_self, pk_uLn (by decide), e_fn1, va_up_self, pk_uLs]
      rfl
    · refine ⟨by show b / 4294967296 < _; omega, ?_⟩
      rw [e_fn2, va_up_self, pk_uLs]
      rfl
  refine vx_callV (As := [.int (nI 2)]) (st := []) IG lw_good (cW_trim HR hp ht (n := 2) (by omega) _ hd) (rw_obj HR hp) rfl wC_W_trim wL_W_37 wI_W_trim wS_W_trim wX_W 1 (by decide +kernel) rfl ⟨Nat.le_of_ble_eq_true rfl, Nat.le_of_ble_eq_true rfl⟩ ⟨(by show 0 + 0 ≤ C; omega), (by show 0 + 0 ≤ S; omega)⟩ rfl (Nat.le_of_ble_eq_true rfl) dc_W_load_23 (fun v h k_ n_ hq => ?_)
  obtain ⟨rfl, rfl, rfl, HR⟩ := hq
  show vx_V _ _ _ _ _ _ _ _ _ 26 [(0, .ref p), (1, .long (lN b))] []
  refine vx_ret none RG (vx_endv dc_W_load_26) rfl ?_
  have e : vl 4294967296 (fun i => if i = 0 then b % 4294967296 else b / 4294967296) 2 = b := by
    show 0 + b % 4294967296 * 4294967296 ^ 0 + b / 4294967296 * 4294967296 ^ 1 = b
    omega
  have hw := wv_trim (cp := cp) (cn' := va_up cn p (nI (nd 4294967296 (vl 4294967296 (fun i => if i = 0 then b % 4294967296 else b / 4294967296) 2)))) hd (by omega) (va_up_self _ _ _)
  rw [e] at HR hw
  refine pool_end (p := p) hV HR (fun q z => ⟨rfl, va_up_ne _ _ z, ?_⟩) hw (by omega) (by omega)
  rw [e_fn2, va_up_ne _ _ z, e_fn1, va_up_ne _ _ z]
theorem wr_copy {R : Room} {own : String} {cc : ByteArray} {nL : Nat} {ct : Bool} {A : Nat → Prop} {H0 : Heap} {G : vx_G} {k n pc : Nat} {lv : List (Nat × Value)} {st : List Value} {q : Nat} (IG : vx_I l D vcl tys R own cc nL lw_gd ct A H0 G) (HR : rw_at 2 cJ L r ar cp cn fn h) (hp : p ∈ L) (hq : q ∈ L) (ht : tys[0]? = some (cJ, .long)) {index : Nat} (hm : Cond.methodLink own index arraycopyName ∈ lw_gd) {c : Nat} (h4 : c ≤ cp q) (h5 : c ≤ cp p) (hfr : 1 ≤ R.frames) (hlo : (st.map fun v => v.category).sum + (nativeFrameWords "java/lang/System" "arraycopy" 5 + 11) ≤ R.locals) (hd : decode cc pc = .ok (.invokestatic index, 3)) (K : ∀ h' : vx_h, rw_at 2 cJ L r ar cp cn (va_up fn p (va_cpy (fn q) (fn p) 0 0 c)) h' → vx_V D vcl A H0 nL G h' k n (pc + 3) lv st) : vx_V D vcl A H0 nL G h k n pc lv (.int (nI c) :: .int 0 :: .ref (ar p) :: .int 0 :: .ref (ar q) :: st) := by
  have c1 := rw_cap HR hp
  have c2 : (nI c).toNatClampNeg = c := nI_clamp (by omega)
  refine vx_copyl IG hm wV_JS_arraycopy wT_JS_arraycopy wX_JS (rw_row HR hq) (rw_row HR hp) 0 ht (by decide) (by decide) (nI_pos (by omega)) (by rw [c2]; show 0 + c ≤ _; omega) (by rw [c2]; show 0 + c ≤ _; omega) hfr hlo hd ?_
  rw [c2]
  exact K _ (rw_fn HR hp _)
set_option maxRecDepth 100000 in
set_option maxHeartbeats 4000000 in
/-- copy(from) -/
theorem cW_copy (HP : pool cJ L r V h C S) (hL : L.Nodup) (hp : p ∈ L) {q : Nat} (hqL : q ∈ L) (ht : tys[0]? = some (cJ, .long)) (hsz : nd 4294967296 (V q) ≤ 4100) : vx_M l D vcl tys my_W_copy lw_gd (rm_ 3 C S 64) [.ref p, .ref q] h (pend cJ L r (va_up V p (V q)) C S none) := by
  obtain ⟨ar, cp, cn, fn, HR, hV, hC, hS⟩ := HP
  have hvq := hV q hqL
  refine vx_M.ofV (cc := bc_W_copy) (maxL := 2) (ret := none) (own := rW) false rfl (by decide +kernel) wC_W_copy (fun q => by cases q) (Nat.le_of_ble_eq_true rfl) (fun A H0 G IG RG => ?_)
  show vx_V _ _ _ _ _ _ _ _ _ 0 [(0, .ref p), (1, .ref q)] []
  refine vx_aload_n IG dc_W_copy_0 rfl 0 rfl ?_
  refine vx_aload_n IG dc_W_copy_1 rfl 1 rfl ?_
  refine wr_cnt IG HR hqL wF_W_15 dc_W_copy_2 ?_
  refine vx_topi (y := nI (nd 4294967296 (V q))) hvq.1 ?_
  refine vx_callV (As := [.int (nI (nd 4294967296 (V q)))]) (st := []) IG lw_good (cW_room HR hL hp ht hsz hC hS) (rw_obj HR hp) rfl wC_W_room wL_W_31 wI_W_room wS_W_room wX_W 1 (by decide +kernel) rfl ⟨Nat.le_of_ble_eq_true rfl, Nat.le_of_ble_eq_true rfl⟩ ⟨(by show 0 + C ≤ C; omega), (by show 0 + S ≤ S; omega)⟩ rfl (Nat.le_of_ble_eq_true rfl) dc_W_copy_5 (fun v h k_ n_ hq => ?_)
  obtain ⟨rfl, ar1, cp1, fn1, HR, ho, hn, hge, hsame, kc, ks⟩ := hq
  have hq1 : wv cp1 cn fn1 q (V q) := by
    by_cases z : q = p
    · subst z
      exact ⟨hvq.1, hn, fun i hi => by rw [hsame i (by have := hvq.2.1; omega)]; exact hvq.2.2 i hi⟩
    · exact wv_same hvq (ho q z).1 rfl (ho q z).2
  show vx_V _ _ _ _ _ _ _ _ _ 8 [(0, .ref p), (1, .ref q)] []
  refine vx_aload_n IG dc_W_copy_8 rfl 1 rfl ?_
  refine wr_dig IG HR hqL wF_W_11 dc_W_copy_9 ?_
  refine vx_iconst (v := 0) IG dc_W_copy_12 (by decide) ?_
  refine vx_aload_n IG dc_W_copy_13 rfl 0 rfl ?_
  refine wr_dig IG HR hp wF_W_11 dc_W_copy_14 ?_
  refine vx_iconst (v := 0) IG dc_W_copy_17 (by decide) ?_
  refine vx_aload_n IG dc_W_copy_18 rfl 1 rfl ?_
  refine wr_cnt IG HR hqL wF_W_15 dc_W_copy_19 ?_
  refine vx_topi (y := nI (nd 4294967296 (V q))) hq1.1 ?_
  refine wr_copy IG HR hp hqL ht wL_W_40 hq1.2.1 hn (Nat.le_of_ble_eq_true rfl) (Nat.le_of_ble_eq_true rfl) dc_W_copy_22 (fun h HR => ?_)
  obtain ⟨fn2, e_fn2⟩ : ∃ z, z = va_up fn1 p (va_cpy (fn1 q) (fn1 p) 0 0 (nd 4294967296 (V q))) := ⟨_, rfl⟩
  rw [← e_fn2] at HR
  refine vx_aload_n IG dc_W_copy_25 rfl 0 rfl ?_
  refine vx_aload_n IG dc_W_copy_26 rfl 1 rfl ?_
  refine wr_cnt IG HR hqL wF_W_15 dc_W_copy_27 ?_
  refine vx_topi (y := nI (nd 4294967296 (V q))) hq1.1 ?_
  refine wr_setc IG HR hp wF_W_15 dc_W_copy_30 (fun h HR => ?_)
  obtain ⟨cn2, e_cn2⟩ : ∃ z, z = va_up cn p (nI (nd 4294967296 (V q))) := ⟨_, rfl⟩
  rw [← e_cn2] at HR
  refine vx_ret none RG (vx_endv dc_W_copy_33) rfl ?_
  refine pool_end (p := p) hV HR (fun x z => ⟨(ho x z).1, ?_, ?_⟩) ⟨?_, hn, fun i hi => ?_⟩ (by omega) (by omega)
  · rw [e_cn2, va_up_ne _ _ z]
  · rw [e_fn2, va_up_ne _ _ z, (ho x z).2]
  · rw [e_cn2, va_up_self]
  · rw [e_fn2, va_up_self, pk_cpy_in (Nat.zero_le i) (by omega), Nat.zero_add, Nat.sub_zero]
    exact hq1.2.2 i hi
set_option maxRecDepth 100000 in
set_option maxHeartbeats 4000000 in
/-- widen(n): the places from the count on to n are 0 -/
theorem cW_widen (HR : rw_at 2 cJ L r ar cp cn fn h) (hL : L.Nodup) (hp : p ∈ L) (ht : tys[0]? = some (cJ, .long)) {n c : Nat} (hcn : cn p = nI c) (hc2 : c ≤ cp p) (hn : n ≤ 4100) (hC : pc_ cp L ≤ C) (hS : ph cp L ≤ S) : vx_M l D vcl tys my_W_widen lw_gd (rm_ 3 C S 64) [.ref p, .int (nI n)] h (fun v h' k m => v = none ∧ ∃ (ar' cp' : Nat → Nat) (fn' : Nat → Nat → Int64), rw_at 2 cJ L r ar' cp' cn fn' h' ∧ (∀ q, q ≠ p → cp' q = cp q ∧ fn' q = fn q) ∧ n ≤ cp' p ∧ cp p ≤ cp' p ∧ (∀ i, i < c → fn' p i = fn p i) ∧ (∀ i, c ≤ i → i < n → fn' p i = 0) ∧ k + pc_ cp' L ≤ pc_ cp L ∧ m + ph cp' L ≤ ph cp L) := by
  have hc := rw_cap HR hp
  refine vx_M.ofV (cc := bc_W_widen) (maxL := 3) (ret := none) (own := rW) false rfl (by decide +kernel) wC_W_widen (fun q => by cases q) (Nat.le_of_ble_eq_true rfl) (fun A H0 G IG RG => ?_)
  show vx_V _ _ _ _ _ _ _ _ _ 0 [(0, .ref p), (1, .int (nI n))] []
  refine vx_aload_n IG dc_W_widen_0 rfl 0 rfl ?_
  refine vx_iload_n IG dc_W_widen_1 rfl 1 rfl ?_
  refine vx_callV (As := [.int (nI n)]) (st := []) IG lw_good (cW_room HR hL hp ht hn hC hS) (rw_obj HR hp) rfl wC_W_room wL_W_31 wI_W_room wS_W_room wX_W 1 (by decide +kernel) rfl ⟨Nat.le_of_ble_eq_true rfl, Nat.le_of_ble_eq_true rfl⟩ ⟨(by show 0 + C ≤ C; omega), (by show 0 + S ≤ S; omega)⟩ rfl (Nat.le_of_ble_eq_true rfl) dc_W_widen_2 (fun v h k_ n_ hq => ?_)
  obtain ⟨rfl, ar1, cp1, fn1, HR, ho, hn1, hge, hsame, kc, ks⟩ := hq
  have hc1 := rw_cap HR hp
  show vx_V _ _ _ _ _ _ _ _ _ 5 [(0, .ref p), (1, .int (nI n))] []
  have loop : ∀ (m i : Nat), c ≤ i → n ≤ i + m → ∀ (h : vx_h) (fn2 : Nat → Nat → Int64), (∀ q, q ≠ p → fn2 q = fn1 q) → (∀ j, j < c → fn2 p j = fn1 p j) → (∀ j, c ≤ j → j < i → j < n → fn2 p j = 0) → i ≤ 8200 → rw_at 2 cJ L r ar1 cp1 cn fn2 h → vx_V D vcl A H0 3 G h (0 + k_) (0 + n_) 10 [(2, .int (nI i)), (0, .ref p), (1, .int (nI n))] [] := by
    intro m
    induction m with
    | zero =>
      intro i hci hin h fn2 f1 f2 f3 hi8 HR
      refine vx_iload_n IG dc_W_widen_10 rfl 0 rfl ?_
      refine vx_iload_n IG dc_W_widen_11 rfl 2 rfl ?_
      refine vx_icmp_ge (tgt := 28) IG dc_W_widen_12 (by decide) (fun _ => ?_) (fun c_ => absurd (nI_le (by omega) (by omega)) c_)
      refine vx_ret none RG (vx_endv dc_W_widen_28) rfl ?_
      exact ⟨rfl, ar1, cp1, fn2, HR, fun q z => ⟨(ho q z).1, (f1 q z).trans (ho q z).2⟩, hn1, hge, fun j hj => (f2 j hj).trans (hsame j (by omega)), fun j h1 h2 => f3 j h1 (by omega) h2, by omega, by omega⟩
    | succ m ih =>
      intro i hci hin h fn2 f1 f2 f3 hi8 HR
      refine vx_iload_n IG dc_W_widen_10 rfl 0 rfl ?_
      refine vx_iload_n IG dc_W_widen_11 rfl 2 rfl ?_
      by_cases z : n ≤ i
      · refine vx_icmp_ge (tgt := 28) IG dc_W_widen_12 (by decide) (fun _ => ?_) (fun c_ => absurd (nI_le z (by omega)) c_)
        refine vx_ret none RG (vx_endv dc_W_widen_28) rfl ?_
        exact ⟨rfl, ar1, cp1, fn2, HR, fun q z => ⟨(ho q z).1, (f1 q z).trans (ho q z).2⟩, hn1, hge, fun j hj => (f2 j hj).trans (hsame j (by omega)), fun j h1 h2 => f3 j h1 (by omega) h2, by omega, by omega⟩
      · refine vx_icmp_ge (tgt := 28) IG dc_W_widen_12 (by decide) (fun c_ => absurd c_ (nI_ge (by omega) (by omega))) (fun _ => ?_)
        refine vx_aload_n IG dc_W_widen_15 rfl 1 rfl ?_
        refine wr_dig IG HR hp wF_W_11 dc_W_widen_16 ?_
        refine vx_iload_n IG dc_W_widen_19 rfl 0 rfl ?_
        refine vx_lconst (v := 0) IG dc_W_widen_20 (by decide) ?_
        refine wr_ast IG HR hp ht i rfl (by omega) dc_W_widen_21 (fun h HR => ?_)
        obtain ⟨fn3, e_fn3⟩ : ∃ z, z = va_up fn2 p (vp_updL (fn2 p) i 0) := ⟨_, rfl⟩
        rw [← e_fn3] at HR
        refine vx_iinc (q := 0) (v := nI (i + 1)) (lv' := [(2, .int (nI (i + 1))), (0, .ref p), (1, .int (nI n))]) IG dc_W_widen_22 rfl (nI_1 i) (by decide) rfl ?_
        refine vx_goto (tgt := 10) IG dc_W_widen_25 (by decide) ?_
        refine vx_same (lv' := [(2, .int (nI (i + 1))), (0, .ref p), (1, .int (nI n))]) IG [0, 1, 2] rfl ?_
        refine ih (i + 1) (by omega) (by omega) h fn3 (fun q y => ?_) (fun j hj => ?_) (fun j h1 h2 h3 => ?_) (by omega) HR
        · rw [e_fn3, va_up_ne _ _ y]; exact f1 q y
        · rw [e_fn3, va_up_self, pk_uLn (by omega)]; exact f2 j hj
        · by_cases y : j = i
          · rw [y, e_fn3, va_up_self, pk_uLs]
          · rw [e_fn3, va_up_self, pk_uLn y]; exact f3 j h1 (by omega) h3
  refine vx_aload_n IG dc_W_widen_5 rfl 0 rfl ?_
  refine wr_cnt IG HR hp wF_W_15 dc_W_widen_6 ?_
  refine vx_topi (y := nI c) hcn ?_
  refine vx_istore_n (lv' := [(2, .int (nI c)), (0, .ref p), (1, .int (nI n))]) IG dc_W_widen_9 rfl (by decide) rfl ?_
  exact loop n c (Nat.le_refl c) (by omega) h fn1 (fun _ _ => rfl) (fun _ _ => rfl) (fun j h1 h2 => by omega) (by omega) HR
end
