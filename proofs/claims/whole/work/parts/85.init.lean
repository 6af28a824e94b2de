/-! the constructors: Whole, Divider, Euclid, the reference -/
/-- nothing is lost -/
def gr (h h' : vx_h) : Prop := ∀ q, h' q = none → h q = none
theorem gr_id (h : vx_h) : gr h h := fun _ z => z
theorem gr_tr {h1 h2 h3 : vx_h} (a : gr h1 h2) (b : gr h2 h3) : gr h1 h3 := fun q z => a q (b q z)
theorem gr_up (h : vx_h) (a : Nat) (e : va_E) : gr h (vx_up h a e) := fun q z => by
  by_cases y : q = a
  · rw [y, vx_up_s] at z; cases z
  · rwa [vx_up_n y] at z
abbrev z0 : Nat → Nat := fun _ => 0
section
variable {cJ : ClassId} {L : List Nat} {r h : vx_h} {ar cp : Nat → Nat} {cn : Nat → Int32} {fn : Nat → Nat → Int64} {V : Nat → Nat} {C S p a b : Nat}
theorem rw_radd (H : rw_at 2 cJ L r ar cp cn fn h) (hb : h b = none) (e : va_E) : rw_at 2 cJ L (vx_up r b e) ar cp cn fn (vx_up h b e) := by
  have n1 : ∀ q ∈ L, q ≠ b := fun q hq z => by have := rw_obj H hq; rw [z, hb] at this; cases this
  have n2 : ∀ q ∈ L, ar q ≠ b := fun q hq z => by have := rw_row H hq; rw [z, hb] at this; cases this
  refine ⟨fun x e' he => ?_, fun q hq => ?_, H.2.2⟩
  · by_cases z : x = b
    · rw [z, vx_up_s] at he
      rw [z, vx_up_s]
      exact ⟨he, fun q => n1 b q rfl, fun q hq y => n2 q hq y.symm⟩
    · rw [vx_up_n z] at he ⊢
      exact H.1 x e' he
  · rw [vx_up_n (n1 q hq), vx_up_n (n2 q hq)]
    exact H.2.1 q hq
theorem rw_push (H : rw_at 2 cJ L r ar cp cn fn h) (hp : h p = none) (ha : h a = none) (hap : a ≠ p) : rw_at 2 cJ (p :: L) r (va_up ar p a) (va_up cp p 4) (va_up cn p 0) (va_up fn p (fun _ => 0)) (vx_up (vx_up h a (.inl (cJ, 4, .inr (.inl (fun _ => 0))))) p (.inr (2, [.ref a, .int 0]))) := by
  have n1 : ∀ {x : Nat} {e : va_E}, h x = some e → x ≠ p := fun he z => by rw [z, hp] at he; cases he
  have n2 : ∀ {x : Nat} {e : va_E}, h x = some e → x ≠ a := fun he z => by rw [z, ha] at he; cases he
  refine ⟨fun x e he => ?_, fun q hq => ?_, fun q q' hq hq' e => ?_⟩
  · obtain ⟨h1, h2, h3⟩ := H.1 x e he
    refine ⟨by rw [vx_up_n (n1 h1), vx_up_n (n2 h1)]; exact h1, fun z => ?_, fun q hq => ?_⟩
    · rcases List.mem_cons.mp z with y | y
      · exact n1 h1 y
      · exact h2 y
    · rcases List.mem_cons.mp hq with y | y
      · rw [y, va_up_self]; exact n2 h1
      · rw [va_up_ne _ _ (n1 (rw_obj H y))]; exact h3 q y
  · rcases List.mem_cons.mp hq with y | y
    · subst y
      rw [va_up_self, va_up_self, va_up_self, va_up_self, vx_up_s, vx_up_n hap, vx_up_s]
      exact ⟨rfl, rfl, by decide, by decide⟩
    · have h1 := rw_obj H y
      have h2 := rw_row H y
      rw [va_up_ne _ _ (n1 h1), va_up_ne _ _ (n1 h1), va_up_ne _ _ (n1 h1), va_up_ne _ _ (n1 h1), vx_up_n (n1 h1), vx_up_n (n2 h1), vx_up_n (n1 h2), vx_up_n (n2 h2)]
      exact H.2.1 q y
  · rcases List.mem_cons.mp hq with y | y <;> rcases List.mem_cons.mp hq' with x | x
    · rw [y, x]
    · rw [y, va_up_self, va_up_ne _ _ (n1 (rw_obj H x))] at e
      exact absurd e.symm (n2 (rw_row H x))
    · rw [x, va_up_self, va_up_ne _ _ (n1 (rw_obj H y))] at e
      exact absurd e (n2 (rw_row H y))
    · rw [va_up_ne _ _ (n1 (rw_obj H y)), va_up_ne _ _ (n1 (rw_obj H x))] at e
      exact H.2.2 q q' y x e
theorem pool_nil (hr : ∀ b e, r b = some e → h b = some e) : pool cJ [] r z0 h 0 0 := ⟨fun _ => 0, fun _ => 0, fun _ => 0, fun _ _ => 0, ⟨fun b e he => ⟨hr b e he, List.not_mem_nil, fun q hq => absurd hq List.not_mem_nil⟩, fun q hq => absurd hq List.not_mem_nil, fun q q' hq => absurd hq List.not_mem_nil⟩, fun q hq => absurd hq List.not_mem_nil, Nat.le_refl 0, Nat.le_refl 0⟩
theorem pool_radd (HP : pool cJ L r V h C S) (hb : h b = none) (e : va_E) : pool cJ L (vx_up r b e) V (vx_up h b e) C S := by
  obtain ⟨ar, cp, cn, fn, HR, hV, hC, hS⟩ := HP
  exact ⟨ar, cp, cn, fn, rw_radd HR hb e, hV, hC, hS⟩
theorem pool_push (HP : pool cJ L r z0 h C S) (hp : h p = none) (ha : h a = none) (hap : a ≠ p) : pool cJ (p :: L) r z0 (vx_up (vx_up h a (.inl (cJ, 4, .inr (.inl (fun _ => 0))))) p (.inr (2, [.ref a, .int 0]))) (C + 2049) (S + 16392) := by
  obtain ⟨ar, cp, cn, fn, HR, hV, hC, hS⟩ := HP
  have n1 : ∀ q ∈ L, q ≠ p := fun q hq z => by have := rw_obj HR hq; rw [z, hp] at this; cases this
  refine ⟨_, _, _, _, rw_push HR hp ha hap, fun q hq => ?_, ?_, ?_⟩
  · rcases List.mem_cons.mp hq with y | y
    · subst y
      refine ⟨va_up_self _ _ _, Nat.zero_le _, fun i hi => absurd hi (Nat.not_lt_zero i)⟩
    · exact wv_same (hV q y) (va_up_ne _ _ (n1 q y)) (va_up_ne _ _ (n1 q y)) (va_up_ne _ _ (n1 q y))
  · rw [pc_, va_up_self, pc_same (cp := cp) (fun q hq => va_up_ne _ _ (n1 q hq))]
    omega
  · rw [ph, va_up_self, ph_same (cp := cp) (fun q hq => va_up_ne _ _ (n1 q hq))]
    omega
end
section
variable {l : Launch} {D : va_G} {tys : List (ClassId × FieldType)} {cJ : ClassId} {L : List Nat} {r h : vx_h} {V : Nat → Nat} {C S p a : Nat} {R : Room} {own : String} {cc : ByteArray} {nL : Nat} {ct : Bool} {A : Nat → Prop} {H0 : Heap} {G : vx_G} {k n pc ci index : Nat} {lv : List (Nat × Value)} {st : List Value} {fs : List Value} {v : Value} {ty : FieldType} {Cn : String} {T : u_T} {N : Nat}
theorem pr_putF (IG : vx_I l D vcl tys R own cc nL lw_gd true A H0 G) (HP : pool cJ L (vx_up r a (.inr (ci, fs))) V h C S) (hc : vcl[ci]? = some (Cn, T, N)) (j : Nat) (hj : j < N) (hin : ∀ w ∈ u_ws Cn T N, w ∈ lw_gd) (ty0 : Nat → FieldType) (hty : ∀ k, k < N → parseFieldDescriptor (T k).2.2.1 = some (ty0 k)) (hnm : ∀ a, a < N → ∀ b, b < N → a ≠ b → (T a).2.1 ≠ (T b).2.1) (hm : Cond.fieldLink own index own (T j).2.1 (T j).2.2.1 ∈ lw_gd) (hr : (T j).1 = own) (hfin : (T j).2.2.2 = true) (hpd : parseFieldDescriptor (T j).2.2.1 = some ty) (hn : narrow ty v = v) (hfit : fits ty v = true) (hl : j < fs.length) (hd : decode cc pc = .ok (.putfield index, 3)) (K : ∀ h', gr h h' → pool cJ L (vx_up r a (.inr (ci, fs.set j v))) V h' C S → vx_V D vcl A H0 nL G h' k n (pc + 3) lv st) : vx_V D vcl A H0 nL G h k n pc lv (v :: .ref a :: st) := by
  refine vx_putF IG (pool_r HP vx_up_s) hc j hj hin ty0 hty hnm hm hr hfin hpd hn hfit hl hd (K _ (gr_up _ _ _) ?_)
  have := pool_rset HP vx_up_s (.inr (ci, fs.set j v))
  rwa [vx_up_up] at this
theorem pr_put (IG : vx_I l D vcl tys R own cc nL lw_gd ct A H0 G) (HP : pool cJ L (vx_up r a (.inr (ci, fs))) V h C S) (hc : vcl[ci]? = some (Cn, T, N)) (j : Nat) (hj : j < N) (hin : ∀ w ∈ u_ws Cn T N, w ∈ lw_gd) (ty0 : Nat → FieldType) (hty : ∀ k, k < N → parseFieldDescriptor (T k).2.2.1 = some (ty0 k)) (hnm : ∀ a, a < N → ∀ b, b < N → a ≠ b → (T a).2.1 ≠ (T b).2.1) {ref : String} (hm : Cond.fieldLink own index ref (T j).2.1 (T j).2.2.1 ∈ lw_gd) (hr : (T j).1 = ref) (hfin : (T j).2.2.2 = false) (hpd : parseFieldDescriptor (T j).2.2.1 = some ty) (hn : narrow ty v = v) (hfit : fits ty v = true) (hl : j < fs.length) (hd : decode cc pc = .ok (.putfield index, 3)) (K : ∀ h', gr h h' → pool cJ L (vx_up r a (.inr (ci, fs.set j v))) V h' C S → vx_V D vcl A H0 nL G h' k n (pc + 3) lv st) : vx_V D vcl A H0 nL G h k n pc lv (v :: .ref a :: st) := by
  refine vx_put IG (pool_r HP vx_up_s) hc j hj hin ty0 hty hnm hm hr hfin hpd hn hfit hl hd (K _ (gr_up _ _ _) ?_)
  have := pool_rset HP vx_up_s (.inr (ci, fs.set j v))
  rwa [vx_up_up] at this
theorem dfW : ∀ j, j < 2 → defaultValue (fW j) = vp_V [.null, .int 0] j := fun j hj => by
  rcases (show j = 0 ∨ j = 1 by omega) with rfl | rfl <;> rfl
theorem dfD : ∀ j, j < 3 → defaultValue (fD j) = vp_V [.null, .null, .null] j := fun j hj => by
  rcases (show j = 0 ∨ j = 1 ∨ j = 2 by omega) with rfl | rfl | rfl <;> rfl
set_option maxRecDepth 100000 in
set_option maxHeartbeats 4000000 in
theorem cW_init (HP : pool cJ L r z0 h C S) (hp : h p = none) (ht : tys[0]? = some (cJ, .long)) : vx_M l D vcl tys my_W_init lw_gd (rm_ 1 1 4 20) [.ref p] (vx_up h p (.inr (2, [.null, .int 0]))) (fun v h' k n => v = none ∧ k = 1 ∧ n = 4 ∧ gr (vx_up h p (.inr (2, [.null, .int 0]))) h' ∧ pool cJ (p :: L) r z0 h' (C + 2049) (S + 16392)) := by
  refine vx_M.ofV (cc := bc_W_init) (maxL := 1) (ret := none) (own := rW) true rfl (by decide +kernel) wC_W_init (fun _ => rfl) (Nat.le_of_ble_eq_true rfl) (fun A H0 G IG RG => ?_)
  show vx_V _ _ _ _ _ _ _ _ _ 0 [(0, .ref p)] []
  refine vx_aload_n IG dc_W_init_0 rfl 0 rfl ?_
  refine vx_obj IG wL_W_3 wI_JO_init wC_JO_init dc_W_init_1 (Nat.le_refl 1) (Nat.le_of_ble_eq_true rfl) ?_
  refine vx_aload_n IG dc_W_init_4 rfl 0 rfl ?_
  refine vx_iconst (v := 4) IG dc_W_init_5 (by decide) ?_
  refine vx_newa (atype := .long) (ty := .long) IG wA_long rfl 0 ht (fun U c z => z) (N := 4) (a0 := (4, .inr (.inl (fun _ => 0)))) (fun cA => rfl) (by decide) rfl (by decide) (Nat.le_refl 1) (Nat.le_refl 4) dc_W_init_6 (fun a ha => ?_)
  have hap : a ≠ p := fun z => by rw [z, vx_up_s] at ha; cases ha
  have ha' : h a = none := by rwa [vx_up_n hap] at ha
  refine vx_put IG (T := tW) (fs := [.null, .int 0]) (by rw [vx_up_n hap.symm, vx_up_s]) rfl 0 (by decide) inW fW tyW nmW wF_W_11 rfl rfl (ty := .array .long) rfl rfl rfl (Nat.le_of_ble_eq_true rfl) dc_W_init_8 ?_
  refine vx_aload_n IG dc_W_init_11 rfl 0 rfl ?_
  refine vx_iconst (v := 0) IG dc_W_init_12 (by decide) ?_
  refine vx_put IG (T := tW) (fs := [.ref a, .int 0]) vx_up_s rfl 1 (by decide) inW fW tyW nmW wF_W_15 rfl rfl (ty := .int) rfl rfl rfl (Nat.le_of_ble_eq_true rfl) dc_W_init_13 ?_
  refine vx_ret none RG (vx_endv dc_W_init_16) rfl ?_
  have e : vx_up (vx_up (vx_up (vx_up h p (.inr (2, [.null, .int 0]))) a (.inl (cJ, 4, .inr (.inl (fun _ => 0))))) p (.inr (2, [.ref a, .int 0]))) p (.inr (2, [.ref a, .int 0])) = vx_up (vx_up h a (.inl (cJ, 4, .inr (.inl (fun _ => 0))))) p (.inr (2, [.ref a, .int 0])) := by
    rw [vx_up_up, vx_up_comm hap.symm, vx_up_up]
  refine ⟨rfl, rfl, rfl, gr_tr (gr_up _ _ _) (gr_tr (gr_up _ _ _) (gr_up _ _ _)), ?_⟩
  have := pool_push HP hp ha' hap
  rw [← e] at this
  exact this
/-- what a constructor leaves: the addresses N are new -/
def nw (h h' : vx_h) (N : List Nat) : Prop := N.Nodup ∧ (∀ x ∈ N, h x = none) ∧ (∀ x ∈ N, h' x ≠ none) ∧ gr h h'
theorem nw_nil (h : vx_h) : nw h h [] := ⟨List.nodup_nil, fun x hx => absurd hx List.not_mem_nil, fun x hx => absurd hx List.not_mem_nil, gr_id h⟩
theorem nw_cons {h h1 h2 : vx_h} {N : List Nat} {x : Nat} (H : nw h h1 N) (hx : h1 x = none) (hx2 : h2 x ≠ none) (hg : gr h1 h2) : nw h h2 (x :: N) := by
  obtain ⟨a1, a2, a3, a4⟩ := H
  refine ⟨List.nodup_cons.mpr ⟨fun z => a3 x z hx, a1⟩, fun y hy => ?_, fun y hy => ?_, gr_tr a4 hg⟩
  · rcases List.mem_cons.mp hy with z | z
    · rw [z]; exact a4 x hx
    · exact a2 y z
  · rcases List.mem_cons.mp hy with z | z
    · rw [z]; exact hx2
    · exact fun e => a3 y z (hg y e)
theorem nw_app {h h1 h2 : vx_h} {N M : List Nat} (H : nw h h1 N) (H2 : nw h1 h2 M) : nw h h2 (M ++ N) := by
  obtain ⟨a1, a2, a3, a4⟩ := H
  obtain ⟨b1, b2, b3, b4⟩ := H2
  refine ⟨List.nodup_append.mpr ⟨b1, a1, fun x hx y hy e => a3 y hy (by rw [← e]; exact b2 x hx)⟩, fun y hy => ?_, fun y hy => ?_, gr_tr a4 b4⟩
  · rcases List.mem_append.mp hy with z | z
    · exact a4 y (b2 y z)
    · exact a2 y z
  · rcases List.mem_append.mp hy with z | z
    · exact b3 y z
    · exact fun e => a3 y z (b4 y e)
theorem nw_gr {h h1 h2 : vx_h} {N : List Nat} (H : nw h h1 N) (hg : gr h1 h2) : nw h h2 N := ⟨H.1, H.2.1, fun x hx e => H.2.2.1 x hx (hg x e), gr_tr H.2.2.2 hg⟩
theorem up_some (h : vx_h) (a : Nat) (e : va_E) : vx_up h a e a ≠ none := by rw [vx_up_s]; exact fun z => by cases z
set_option maxRecDepth 100000 in
set_option maxHeartbeats 4000000 in
theorem cD_init (HP : pool cJ L (vx_up r p (.inr (0, [.null, .null, .null]))) z0 h C S) (ht : tys[0]? = some (cJ, .long)) : vx_M l D vcl tys my_D_init lw_gd (rm_ 2 6 18 40) [.ref p] h (fun v h' k n => v = none ∧ k = 6 ∧ n = 18 ∧ ∃ p1 p2 p3, nw h h' [p3, p2, p1] ∧ pool cJ (p3 :: p2 :: p1 :: L) (vx_up r p (.inr (0, [.ref p1, .ref p2, .ref p3]))) z0 h' (C + 2049 + 2049 + 2049) (S + 16392 + 16392 + 16392)) := by
  refine vx_M.ofV (cc := bc_D_init) (maxL := 1) (ret := none) (own := rD) true rfl (by decide +kernel) wC_D_init (fun _ => rfl) (Nat.le_of_ble_eq_true rfl) (fun A H0 G IG RG => ?_)
  show vx_V _ _ _ _ _ _ _ _ _ 0 [(0, .ref p)] []
  have N0 := nw_nil h
  refine vx_aload_n IG dc_D_init_0 rfl 0 rfl ?_
  refine vx_obj IG wL_D_3 wI_JO_init wC_JO_init dc_D_init_1 (by decide) (Nat.le_of_ble_eq_true rfl) ?_
  refine vx_aload_n IG dc_D_init_4 rfl 0 rfl ?_
  refine vx_new IG (ci := 2) (C := rW) rfl inW fW tyW wY_D_9 wZ_W wX_W (fs := [.null, .int 0]) dfW (Nat.le_of_ble_eq_true rfl) (Nat.le_of_ble_eq_true rfl) dc_D_init_5 (fun p1 hp1 => ?_)
  refine vx_dup IG dc_D_init_8 rfl ?_
  refine vx_callIN (As := []) (st := [.ref p1, .ref p]) IG lw_good (cW_init HP hp1 ht) rfl wC_W_init wN_D_11 wI_W_init wX_W 0 (by decide +kernel) rfl ⟨Nat.le_of_ble_eq_true rfl, Nat.le_of_ble_eq_true rfl⟩ ⟨(by dsimp only [rm_]; omega), (by dsimp only [rm_]; omega)⟩ rfl (Nat.le_of_ble_eq_true rfl) dc_D_init_9 (fun v h k_ n_ hq => ?_)
  obtain ⟨rfl, rfl, rfl, g1, HP⟩ := hq
  have N1 := nw_cons N0 hp1 (fun e => up_some _ _ _ (g1 _ e)) (gr_tr (gr_up _ _ _) g1)
  show vx_V _ _ _ _ _ _ _ _ _ 12 [(0, .ref p)] [.ref p1, .ref p]
  refine pr_putF (T := tD) (Cn := rD) IG HP rfl 0 (by decide) inD fD tyD nmD wF_D_12 rfl rfl (ty := .object "SignedMill$Whole") rfl rfl rfl (Nat.le_of_ble_eq_true rfl) dc_D_init_12 (fun h g2 HP => ?_)
  replace N1 := nw_gr N1 g2
  refine vx_aload_n IG dc_D_init_15 rfl 0 rfl ?_
  refine vx_new IG (ci := 2) (C := rW) rfl inW fW tyW wY_D_9 wZ_W wX_W (fs := [.null, .int 0]) dfW (Nat.le_of_ble_eq_true rfl) (Nat.le_of_ble_eq_true rfl) dc_D_init_16 (fun p2 hp2 => ?_)
  refine vx_dup IG dc_D_init_19 rfl ?_
  refine vx_callIN (As := []) (st := [.ref p2, .ref p]) IG lw_good (cW_init HP hp2 ht) rfl wC_W_init wN_D_11 wI_W_init wX_W 0 (by decide +kernel) rfl ⟨Nat.le_of_ble_eq_true rfl, Nat.le_of_ble_eq_true rfl⟩ ⟨(by dsimp only [rm_]; omega), (by dsimp only [rm_]; omega)⟩ rfl (Nat.le_of_ble_eq_true rfl) dc_D_init_20 (fun v h k_ n_ hq => ?_)
  obtain ⟨rfl, rfl, rfl, g1, HP⟩ := hq
  have N2 := nw_cons N1 hp2 (fun e => up_some _ _ _ (g1 _ e)) (gr_tr (gr_up _ _ _) g1)
  show vx_V _ _ _ _ _ _ _ _ _ 23 [(0, .ref p)] [.ref p2, .ref p]
  refine pr_putF (T := tD) (Cn := rD) IG HP rfl 1 (by decide) inD fD tyD nmD wF_D_18 rfl rfl (ty := .object "SignedMill$Whole") rfl rfl rfl (Nat.le_of_ble_eq_true rfl) dc_D_init_23 (fun h g2 HP => ?_)
  replace N2 := nw_gr N2 g2
  refine vx_aload_n IG dc_D_init_26 rfl 0 rfl ?_
  refine vx_new IG (ci := 2) (C := rW) rfl inW fW tyW wY_D_9 wZ_W wX_W (fs := [.null, .int 0]) dfW (Nat.le_of_ble_eq_true rfl) (Nat.le_of_ble_eq_true rfl) dc_D_init_27 (fun p3 hp3 => ?_)
  refine vx_dup IG dc_D_init_30 rfl ?_
  refine vx_callIN (As := []) (st := [.ref p3, .ref p]) IG lw_good (cW_init HP hp3 ht) rfl wC_W_init wN_D_11 wI_W_init wX_W 0 (by decide +kernel) rfl ⟨Nat.le_of_ble_eq_true rfl, Nat.le_of_ble_eq_true rfl⟩ ⟨(by dsimp only [rm_]; omega), (by dsimp only [rm_]; omega)⟩ rfl (Nat.le_of_ble_eq_true rfl) dc_D_init_31 (fun v h k_ n_ hq => ?_)
  obtain ⟨rfl, rfl, rfl, g1, HP⟩ := hq
  have N3 := nw_cons N2 hp3 (fun e => up_some _ _ _ (g1 _ e)) (gr_tr (gr_up _ _ _) g1)
  show vx_V _ _ _ _ _ _ _ _ _ 34 [(0, .ref p)] [.ref p3, .ref p]
  refine pr_putF (T := tD) (Cn := rD) IG HP rfl 2 (by decide) inD fD tyD nmD wF_D_21 rfl rfl (ty := .object "SignedMill$Whole") rfl rfl rfl (Nat.le_of_ble_eq_true rfl) dc_D_init_34 (fun h g2 HP => ?_)
  replace N3 := nw_gr N3 g2
  refine vx_ret none RG (vx_endv dc_D_init_37) rfl ?_
  exact ⟨rfl, rfl, rfl, p1, p2, p3, N3, HP⟩
end
