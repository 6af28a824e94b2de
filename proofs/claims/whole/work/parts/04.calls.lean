/-! calls, by contract -/
section
variable {l : Launch} {D : va_G} {cl : List vw_C} {tys : List (ClassId × FieldType)} {R : Room} {own : String} {cc : ByteArray} {nL : Nat} {Ts : List Cond} {ct : Bool} {A : Nat → Prop} {H0 : Heap} {G : vx_G} {h : vx_h} {k n pc : Nat} {lv : List (Nat × Value)} {st : List Value}
variable {y : MethodName} {ws : List Cond} {rm : Room} {av : List Value} {post : Option Value → vx_h → Nat → Nat → Prop} {bytes : ByteArray} {maxL : Nat} {ret : Option FieldType}
def vx_Pre (R : Room) (D : va_G) (cl : List vw_C) (tys : List (ClassId × FieldType)) (rm : Room) (av : List Value) (h : vx_h) : Pt → Array Value → Prop := fun P a => P.cells + rm.cells ≤ R.cells ∧ P.slots + rm.slots ≤ R.slots ∧ a = av.toArray ∧ vx_AH D cl (fun _ => True) h P.U.heap ∧ va_K D cl tys P.U ∧ vx_N P.U
def vx_Post (D : va_G) (cl : List vw_C) (h : vx_h) (post : Option Value → vx_h → Nat → Nat → Prop) : Pt → Array Value → Option Value → Pt → Prop := fun P _ v B =>
  ∃ (L : List Loc) (k' n' : Nat) (h' : vx_h), B.locs = P.locs ++ L ∧ B.cells = P.cells + k' ∧ B.slots = P.slots + n' ∧ (∀ q ∈ L, vx_A h P.U.heap.size q.base) ∧ post v h' k' n' ∧ vx_AH D cl (vx_A h P.U.heap.size) h' B.U.heap ∧ P.U.heap.size ≤ B.U.heap.size ∧ ∀ q : Nat, q < P.U.heap.size → ¬ vx_A h P.U.heap.size q → B.U.heap[q]? = P.U.heap[q]?
theorem vx_back {p : Program} {e : Env} {s : State} {below : List Frame} {sargs : Array Value} {len W0 : Nat} (hM : vx_M l D cl tys y ws rm av h post) (hframes : rm.frames + 1 ≤ R.frames) (hlocals : W0 + (maxL + 11) + rm.locals ≤ R.locals)
    (hws : ∀ w ∈ ws, ∀ (a' : Array Value) (U : State), s.WarmedH U.vm → w.before a' U = true) (hcode : Cond.code y bytes maxL ret ∈ ws) (hinit : Cond.initialized y.cls ∈ ws) :
    Back l R p e below s sargs y len W0 (vx_Pre R D cl tys rm av h) (vx_Post D cl h post) := by
  refine Back.of_free (S := headSpec ws rm) (K := fun _ _ _ _ _ => True) (bytes := bytes) (maxL := maxL) (ret := ret)
    (E := fun a st o t L k n => ∃ (v : Option Value) (h' : vx_h), o = .returned v ∧ (∀ q ∈ L, vx_A h st.heap.size q.base) ∧ post v h' k n ∧ vx_AH D cl (vx_A h st.heap.size) h' t.heap ∧ va_F (vx_A h st.heap.size) st t) hM hframes hlocals ?_ ?_ (fun _ _ _ _ _ _ _ _ _ => trivial) ?_ ?_
  · intro m meth c P a X hp
    exact ⟨atoms_intro fun w hw => hws w hw _ _ X.warmed, hws _ hcode _ _ X.warmed, hws _ hinit _ _ X.warmed, hp.1, hp.2.1⟩
  · intro m meth c P a g mk X hp
    exact ⟨hp.2.2.1, hp.2.2.2.1, va_K.moved (u := P.U) (U := P.U.calling g mk a) (Vm.Alike.refl P.U.vm) hp.2.2.2.2.1, vx_N.same (u := P.U) (U := P.U.calling g mk a) rfl hp.2.2.2.2.2⟩
  · intro a st o t ⟨v, h', L, k, n, e1, e2, e3, e4, e5, e6⟩
    exact ⟨L, k, n, e2, v, h', e1, e3, e4, e5, e6⟩
  · intro m meth c P a g mk v t L k n X hp hq hF ⟨v', h', e1, e3, e4, e5, e6⟩
    cases e1
    exact ⟨L, k, n, h', rfl, rfl, rfl, e3, e4, e5, e6.1, e6.2⟩
def vx_Run (p : Program) (l : Launch) (e : Env) (R : Room) (s : State) (m : MethodId) (args : Array Value) (below : List Frame) (meth : Method) (c : Code) (D : va_G) (cl : List vw_C) (h : vx_h) (H : Heap) (locs : List Loc) (k n : Nat) (g : JFrame) (rest : List Value) (post : Option Value → vx_h → Nat → Nat → Prop) : Prop :=
  ∀ T : State, T.heap = H → Stand p l e R s m args below meth c T locs k n → ∃ (v : Option Value) (T' : State) (L : List Loc) (k' n' : Nat) (h' : vx_h), Stand p l e R s m args below meth c T' (locs ++ L) (k + k') (n + n') ∧ (∀ q ∈ L, vx_A h H.size q.base) ∧ post v h' k' n' ∧ vx_AH D cl (vx_A h H.size) h' T'.heap ∧ H.size ≤ T'.heap.size ∧ (∀ q : Nat, q < H.size → ¬ vx_A h H.size q → T'.heap[q]? = H[q]?) ∧ Goes p e below T g T' { g with pc := g.pc + 3, stack := v.toList ++ rest }
theorem vx_goes {p : Program} {e : Env} {s : State} {m : MethodId} {args : Array Value} {below : List Frame} {meth : Method} {c : Code} {Q : State → Prop} {H : Heap} {locs : List Loc} {ls : Array Slot} {st0 : List Value} (hA : ∀ q : Nat, H0.size ≤ q → A q) (g1 : vx_AH D cl A h H) (g2 : va_S A H0 H locs) (g3 : lv_has ls nL lv)
    (hr : vx_Run p l e R s m args below meth c D cl h H locs k n (F0 m pc ls st0) st post)
    (K : ∀ (v : Option Value) (h' : vx_h) (k' n' : Nat), post v h' k' n' → vx_V D cl A H0 nL (fun H locs k n pc ls st => W p l e R s m args below meth c H locs k n Q (F0 m pc ls st)) h' (k + k') (n + n') (pc + 3) lv (v.toList ++ st)) :
    W p l e R s m args below meth c H locs k n Q (F0 m pc ls st0) := by
  intro T hT X
  obtain ⟨v, T', L, k', n', h', X', hL, hp, hAH, hz, hk, hgo⟩ := hr T hT X
  have sub : ∀ q, vx_A h H.size q → A q := by
    intro q hq
    rcases hq with ⟨e, he⟩ | hq
    · exact (g1 q e he).2
    · exact hA q (Nat.le_trans g2.1 hq)
  obtain ⟨t, a1, b1⟩ := K v h' k' n' hp T'.heap (locs ++ L) ls (fun a e he => ⟨(hAH a e he).1, sub a (hAH a e he).2⟩)
    ⟨Nat.le_trans g2.1 hz, fun q h1 h2 => by rw [hk q (Nat.lt_of_lt_of_le h1 g2.1) (fun z => h2 (sub q z))]; exact g2.2.1 q h1 h2, fun q hq => by
      rcases List.mem_append.mp hq with z | z
      · exact g2.2.2 q z
      · exact sub _ (hL q z)⟩ g3 T' rfl X'
  exact ⟨t, hgo t a1, b1⟩
/-- the words of a callee, at the caller's later states -/
theorem vx_words {s : State} {args : Array Value} (hg : GoodIn Ts Ts) (hts : ∀ w ∈ Ts, w.before args s = true) : ∀ w ∈ Ts, ∀ (a' : Array Value) (U : State), s.WarmedH U.vm → w.before a' U = true :=
  fun w hw _ _ hW => word_at hW (hg w hw).2 (hts w hw)
abbrev vx_nm (y : MethodName) (a : Nat) : Prop := y.cls ≠ "java/lang/invoke/MethodHandle" ∧ y.cls ≠ "java/lang/invoke/VarHandle" ∧ (parseMethodDescriptor y.desc).map (fun d => d.parameters.length) = some a
theorem vx_len {a : Nat} (h : vx_nm y a) : ∀ sig, parseMethodDescriptor y.desc = some sig → a = sig.parameters.length := by
  intro sig hs
  have h2 := h.2.2
  rw [hs] at h2
  exact (Option.some.inj h2).symm
theorem vx_recv {s : State} {H : Heap} {C : String} {T : u_T} {N ci a : Nat} {fs : List Value} (hK : va_K D cl tys s) (g1 : vx_AH D cl A h H) (hc : cl[ci]? = some (C, T, N)) (he : h a = some (.inr (ci, fs))) : ∃ cell : Cell, H[a]? = some cell ∧ cell.vm.isStatics = false ∧ s.vm.findClass C = some cell.cls := by
  obtain ⟨ws, hP, hD, cov⟩ := vx_list g1
  obtain ⟨q, hq⟩ := cov a _ he
  exact va_recv hK hP hc hq
/-- invokevirtual -/
theorem vx_callV (IG : vx_I l D cl tys R own cc nL Ts ct A H0 G) (hg : GoodIn Ts Ts) {b : Nat} {As : List Value} (hM : vx_M l D cl tys y Ts rm (.ref b :: As) h post) {C : String} {T : u_T} {N ci index : Nat} {fs : List Value} (he : h b = some (.inr (ci, fs))) (hc : cl[ci]? = some (C, T, N)) (hcode : Cond.code y bytes maxL ret ∈ Ts) (hm1 : Cond.methodLink own index y ∈ Ts) (hm2 : Cond.instanceMethod y ∈ Ts) (hm3 : Cond.selects C y y ∈ Ts) (hm4 : Cond.initialized y.cls ∈ Ts) (na : Nat) (hy : vx_nm y na) (hna : As.length = na) (hR : rm.frames + 1 ≤ R.frames ∧ 8 + (maxL + 11) + rm.locals ≤ R.locals) (hf : k + rm.cells ≤ R.cells ∧ n + rm.slots ≤ R.slots) {st0 : List Value} (hs : st0 = As.reverse ++ .ref b :: st) (hW : (st.map fun v => v.category).sum ≤ 8) (hd : decode cc pc = .ok (.invokevirtual index, 3))
    (K : ∀ (v : Option Value) (h' : vx_h) (k' n' : Nat), post v h' k' n' → vx_V D cl A H0 nL G h' (k + k') (n + n') (pc + 3) lv (v.toList ++ st)) : vx_V D cl A H0 nL G h k n pc lv st0 := by
  obtain ⟨p, e, s, m, args, below, meth, c, Q, rfl, hx, hb, hml, hown, hts, hK, hN, hh0, hA, -⟩ := IG
  intro H locs ls g1 g2 g3
  refine vx_goes hA g1 g2 g3 ?_ K
  intro T hT X
  obtain ⟨cellB, hcB, hoB, hclB⟩ := vx_recv hK g1 hc he
  obtain ⟨v, vm₁, ⟨U', l2, c2, s2⟩, hW₁, X', ⟨L, k', n', h', e1, e2, e3, e4, e5, e6, e7, e8⟩, go⟩ := callV X hx (C := C) (bytes := bytes) (maxL := maxL) (ret := ret) hown (hts _ hm1) (hts _ hm2) (hts _ hm3) (hts _ hcode) ⟨hy.1, hy.2.1⟩
    (vx_back (bytes := bytes) (maxL := maxL) (ret := ret) (W0 := 8) hM hR.1 hR.2 (vx_words hg hts) hcode hm4) (by rw [hT]; exact hcB) hoB hclB (g := F0 m pc ls st0) rfl (by rw [hml]; exact g3.1) (argsL := As) (rest := st) (fun sig hsig => hna.trans (vx_len hy sig hsig)) hs (lv_room (rest := st0) hW) (by rw [hb]; exact hd)
    (fun vm₁ hW₁ => ⟨hf.1, hf.2, rfl, (show vx_AH D cl (fun _ => True) h T.heap by rw [hT]; exact fun a e z => ⟨(g1 a e z).1, trivial⟩), va_K.moved hW₁.alike hK, vx_N.warm (U := T.setVm vm₁) hW₁ hN⟩)
  dsimp only [Pt.U, Pt.locs, Pt.cells, Pt.slots] at X' e1 e2 e3 e4 e6 e7 e8 go
  subst e1; subst e2; subst e3
  have hTv : (T.setVm vm₁).heap = H := hT
  rw [hTv] at e4 e6 e7 e8
  exact ⟨v, U', L, k', n', h', X', e4, e5, e6, e7, e8, go⟩
/-- invokestatic -/
theorem vx_callS (IG : vx_I l D cl tys R own cc nL Ts ct A H0 G) (hg : GoodIn Ts Ts) {As : List Value} (hM : vx_M l D cl tys y Ts rm As h post) {index : Nat} (hcode : Cond.code y bytes maxL ret ∈ Ts) (hm1 : Cond.methodLink own index y ∈ Ts) (hm2 : Cond.static y ∈ Ts) (hm4 : Cond.initialized y.cls ∈ Ts) (na : Nat) (hy : vx_nm y na) (hna : As.length = na) (hR : rm.frames + 1 ≤ R.frames ∧ 8 + (maxL + 11) + rm.locals ≤ R.locals) (hf : k + rm.cells ≤ R.cells ∧ n + rm.slots ≤ R.slots) {st0 : List Value} (hs : st0 = As.reverse ++ st) (hW : (st.map fun v => v.category).sum ≤ 8) (hd : decode cc pc = .ok (.invokestatic index, 3))
    (K : ∀ (v : Option Value) (h' : vx_h) (k' n' : Nat), post v h' k' n' → vx_V D cl A H0 nL G h' (k + k') (n + n') (pc + 3) lv (v.toList ++ st)) : vx_V D cl A H0 nL G h k n pc lv st0 := by
  obtain ⟨p, e, s, m, args, below, meth, c, Q, rfl, hx, hb, hml, hown, hts, hK, hN, hh0, hA, -⟩ := IG
  intro H locs ls g1 g2 g3
  refine vx_goes hA g1 g2 g3 ?_ K
  intro T hT X
  obtain ⟨v, vm₁, ⟨U', l2, c2, s2⟩, hW₁, X', ⟨L, k', n', h', e1, e2, e3, e4, e5, e6, e7, e8⟩, go⟩ := callS X hx (bytes := bytes) (maxL := maxL) (ret := ret) hown (hts _ hm1) (hts _ hm2) (hts _ hm4) (hts _ hcode) ⟨hy.1, hy.2.1⟩
    (vx_back (bytes := bytes) (maxL := maxL) (ret := ret) (W0 := 8) hM hR.1 hR.2 (vx_words hg hts) hcode hm4) (g := F0 m pc ls st0) rfl (by rw [hml]; exact g3.1) (argsL := As) (rest := st) (fun sig hsig => hna.trans (vx_len hy sig hsig)) hs (lv_room (rest := st0) hW) (by rw [hb]; exact hd)
    (fun vm₁ hW₁ => ⟨hf.1, hf.2, rfl, (show vx_AH D cl (fun _ => True) h T.heap by rw [hT]; exact fun a e z => ⟨(g1 a e z).1, trivial⟩), va_K.moved hW₁.alike hK, vx_N.warm (U := T.setVm vm₁) hW₁ hN⟩)
  dsimp only [Pt.U, Pt.locs, Pt.cells, Pt.slots] at X' e1 e2 e3 e4 e6 e7 e8 go
  subst e1; subst e2; subst e3
  have hTv : (T.setVm vm₁).heap = H := hT
  rw [hTv] at e4 e6 e7 e8
  exact ⟨v, U', L, k', n', h', X', e4, e5, e6, e7, e8, go⟩
/-- invokespecial <init> -/
theorem vx_callI (IG : vx_I l D cl tys R own cc nL Ts ct A H0 G) (hg : GoodIn Ts Ts) {b : Nat} {As : List Value} (hM : vx_M l D cl tys y Ts rm (.ref b :: As) h post) {index : Nat} (hy1 : y.name = "<init>") (hcode : Cond.code y bytes maxL none ∈ Ts) (hm1 : Cond.methodLink own index y ∈ Ts) (hm2 : Cond.instanceMethod y ∈ Ts) (hm4 : Cond.initialized y.cls ∈ Ts) (na : Nat) (hy : vx_nm y na) (hna : As.length = na) (hR : rm.frames + 1 ≤ R.frames ∧ 8 + (maxL + 11) + rm.locals ≤ R.locals) (hf : k + rm.cells ≤ R.cells ∧ n + rm.slots ≤ R.slots) {st0 : List Value} (hs : st0 = As.reverse ++ .ref b :: st) (hW : (st.map fun v => v.category).sum ≤ 8) (hd : decode cc pc = .ok (.invokespecial index, 3))
    (K : ∀ (v : Option Value) (h' : vx_h) (k' n' : Nat), post v h' k' n' → vx_V D cl A H0 nL G h' (k + k') (n + n') (pc + 3) lv (v.toList ++ st)) : vx_V D cl A H0 nL G h k n pc lv st0 := by
  obtain ⟨p, e, s, m, args, below, meth, c, Q, rfl, hx, hb, hml, hown, hts, hK, hN, hh0, hA, -⟩ := IG
  intro H locs ls g1 g2 g3
  refine vx_goes hA g1 g2 g3 ?_ K
  intro T hT X
  obtain ⟨v, vm₁, ⟨U', l2, c2, s2⟩, hW₁, X', ⟨L, k', n', h', e1, e2, e3, e4, e5, e6, e7, e8⟩, go⟩ := callI X hx (bytes := bytes) (maxL := maxL) hown hy1 (hts _ hm1) (hts _ hm2) (hts _ hcode) ⟨hy.1, hy.2.1⟩
    (vx_back (bytes := bytes) (maxL := maxL) (ret := none) (W0 := 8) hM hR.1 hR.2 (vx_words hg hts) hcode hm4) (g := F0 m pc ls st0) rfl (by rw [hml]; exact g3.1) (a := b) (argsL := As) (rest := st) (fun sig hsig => hna.trans (vx_len hy sig hsig)) hs (lv_room (rest := st0) hW) (by rw [hb]; exact hd)
    (fun vm₁ hW₁ => ⟨hf.1, hf.2, rfl, (show vx_AH D cl (fun _ => True) h T.heap by rw [hT]; exact fun a e z => ⟨(g1 a e z).1, trivial⟩), va_K.moved hW₁.alike hK, vx_N.warm (U := T.setVm vm₁) hW₁ hN⟩)
  dsimp only [Pt.U, Pt.locs, Pt.cells, Pt.slots] at X' e1 e2 e3 e4 e6 e7 e8 go
  subst e1; subst e2; subst e3
  have hTv : (T.setVm vm₁).heap = H := hT
  rw [hTv] at e4 e6 e7 e8
  exact ⟨v, U', L, k', n', h', X', e4, e5, e6, e7, e8, go⟩
/-- invokespecial <init> of a nest mate -/
theorem vx_callIN (IG : vx_I l D cl tys R own cc nL Ts ct A H0 G) (hg : GoodIn Ts Ts) {b : Nat} {As : List Value} (hM : vx_M l D cl tys y Ts rm (.ref b :: As) h post) {index : Nat} (hy1 : y.name = "<init>") (hcode : Cond.code y bytes maxL none ∈ Ts) {host : String} (hm1 : Cond.methodLinkNest own index y host ∈ lw_tbl) (hm2 : Cond.instanceMethod y ∈ Ts) (hm4 : Cond.initialized y.cls ∈ Ts) (na : Nat) (hy : vx_nm y na) (hna : As.length = na) (hR : rm.frames + 1 ≤ R.frames ∧ 8 + (maxL + 11) + rm.locals ≤ R.locals) (hf : k + rm.cells ≤ R.cells ∧ n + rm.slots ≤ R.slots) {st0 : List Value} (hs : st0 = As.reverse ++ .ref b :: st) (hW : (st.map fun v => v.category).sum ≤ 8) (hd : decode cc pc = .ok (.invokespecial index, 3))
    (K : ∀ (v : Option Value) (h' : vx_h) (k' n' : Nat), post v h' k' n' → vx_V D cl A H0 nL G h' (k + k') (n + n') (pc + 3) lv (v.toList ++ st)) : vx_V D cl A H0 nL G h k n pc lv st0 := by
  obtain ⟨p, e, s, m, args, below, meth, c, Q, rfl, hx, hb, hml, hown, hts, hK, hN, hh0, hA, -⟩ := IG
  intro H locs ls g1 g2 g3
  refine vx_goes hA g1 g2 g3 ?_ K
  intro T hT X
  obtain ⟨v, vm₁, ⟨U', l2, c2, s2⟩, hW₁, X', ⟨L, k', n', h', e1, e2, e3, e4, e5, e6, e7, e8⟩, go⟩ := va_callIN X hx (bytes := bytes) (maxL := maxL) hown hy1 (va_Nw.use (A := args) rfl (hN.1 _ _ _ _ hm1)) (hts _ hm2) (hts _ hcode) ⟨hy.1, hy.2.1⟩
    (vx_back (bytes := bytes) (maxL := maxL) (ret := none) (W0 := 8) hM hR.1 hR.2 (vx_words hg hts) hcode hm4) (g := F0 m pc ls st0) rfl (by rw [hml]; exact g3.1) (a := b) (argsL := As) (rest := st) (fun sig hsig => hna.trans (vx_len hy sig hsig)) hs (lv_room (rest := st0) hW) (by rw [hb]; exact hd)
    (fun vm₁ hW₁ => ⟨hf.1, hf.2, rfl, (show vx_AH D cl (fun _ => True) h T.heap by rw [hT]; exact fun a e z => ⟨(g1 a e z).1, trivial⟩), va_K.moved hW₁.alike hK, vx_N.warm (U := T.setVm vm₁) hW₁ hN⟩)
  dsimp only [Pt.U, Pt.locs, Pt.cells, Pt.slots] at X' e1 e2 e3 e4 e6 e7 e8 go
  subst e1; subst e2; subst e3
  have hTv : (T.setVm vm₁).heap = H := hT
  rw [hTv] at e4 e6 e7 e8
  exact ⟨v, U', L, k', n', h', X', e4, e5, e6, e7, e8, go⟩
/-- Object.<init> -/
theorem vx_obj (IG : vx_I l D cl tys R own cc nL Ts ct A H0 G) {idx a : Nat} (hm1 : Cond.methodLink own idx Lib.objectInit ∈ Ts) (hm2 : Cond.instanceMethod Lib.objectInit ∈ Ts) (hm3 : Cond.code Lib.objectInit ⟨#[0xb1]⟩ 1 none ∈ Ts) (hd : decode cc pc = .ok (.invokespecial idx, 3)) (hfr : 1 ≤ R.frames) (hlo : (st.map fun v => v.category).sum + 12 ≤ R.locals) (K : vx_V D cl A H0 nL G h k n (pc + 3) lv st) : vx_V D cl A H0 nL G h k n pc lv (.ref a :: st) := by
  obtain ⟨p, e, s, m, args, below, meth, c, Q, rfl, hx, hb, hml, hown, hts, hK, -⟩ := IG
  intro H locs ls g1 g2 g3
  exact W.objInit hx hb hown (hts _ hm1) (hts _ hm2) (hts _ hm3) rfl (by rw [hml]; exact g3.1) rfl hd hfr (by show 2 * 0 + _ + _ ≤ _; omega) (K H locs ls g1 g2 g3)
end
