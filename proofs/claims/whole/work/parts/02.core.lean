/-! A WALK OVER A MAP OF CELLS. vx_h: the tracked cells by their addresses; vx_AH: the heap holds them; vx_V: the walk of a body from a pc, whatever heap holds the map; vx_M: a method's contract over maps, whose end may speak of the cells and slots that were made. -/
abbrev vx_h : Type := Nat → Option va_E
def vx_up (h : vx_h) (a : Nat) (e : va_E) : vx_h := fun b => if b = a then some e else h b
theorem vx_up_s {h : vx_h} {a : Nat} {e : va_E} : vx_up h a e a = some e := by simp [vx_up]
theorem vx_up_n {h : vx_h} {a b : Nat} {e : va_E} (hb : b ≠ a) : vx_up h a e b = h b := by simp [vx_up, hb]
def vx_AH (D : va_G) (cl : List vw_C) (A : Nat → Prop) (h : vx_h) (H : Heap) : Prop := ∀ (a : Nat) (e : va_E), h a = some e → va_at D cl (a, e) H ∧ A a
theorem vx_rep (h : vx_h) (n : Nat) : ∃ ws : va_W, (∀ (k : Nat) (q : Nat × va_E), ws[k]? = some q → q.1 < n ∧ h q.1 = some q.2) ∧ (∀ (a : Nat) (e : va_E), a < n → h a = some e → ∃ k : Nat, ws[k]? = some (a, e)) ∧ (∀ (i j : Nat) (p q : Nat × va_E), ws[i]? = some p → ws[j]? = some q → p.1 = q.1 → i = j) := by
  induction n with
  | zero => exact ⟨[], fun k q hk => by simp at hk, fun a e ha => absurd ha (Nat.not_lt_zero a), fun i j p q hi => by simp at hi⟩
  | succ n ih =>
    obtain ⟨ws, h1, h2, h3⟩ := ih
    cases hn : h n with
    | none =>
      refine ⟨ws, fun k q hk => ⟨Nat.lt_succ_of_lt (h1 k q hk).1, (h1 k q hk).2⟩, fun a e ha he => ?_, h3⟩
      rcases Nat.lt_succ_iff_lt_or_eq.mp ha with q | q
      · exact h2 a e q he
      · rw [q, hn] at he; cases he
    | some x =>
      refine ⟨ws ++ [(n, x)], fun k q hk => ?_, fun a e ha he => ?_, fun i j p q hi hj hpq => ?_⟩
      · rcases Nat.lt_or_ge k ws.length with g | g
        · rw [List.getElem?_append_left g] at hk
          exact ⟨Nat.lt_succ_of_lt (h1 k q hk).1, (h1 k q hk).2⟩
        · rw [List.getElem?_append_right g] at hk
          have hq : q = (n, x) := by
            have := List.mem_of_getElem? hk
            simpa using this
          rw [hq]
          exact ⟨Nat.lt_succ_self n, hn⟩
      · rcases Nat.lt_succ_iff_lt_or_eq.mp ha with g | g
        · obtain ⟨k, hk⟩ := h2 a e g he
          exact ⟨k, by rw [List.getElem?_append_left (List.getElem?_eq_some_iff.mp hk).1]; exact hk⟩
        · subst g
          rw [hn] at he
          cases he
          exact ⟨ws.length, by simp⟩
      · have key : ∀ (i : Nat) (p : Nat × va_E), (ws ++ [(n, x)])[i]? = some p → (ws[i]? = some p ∧ p.1 < n) ∨ (i = ws.length ∧ p.1 = n) := by
          intro i p hi
          rcases Nat.lt_or_ge i ws.length with g | g
          · rw [List.getElem?_append_left g] at hi
            exact Or.inl ⟨hi, (h1 i p hi).1⟩
          · have hl := (List.getElem?_eq_some_iff.mp hi).1
            rw [List.getElem?_append_right g] at hi
            have hq : p = (n, x) := by
              have := List.mem_of_getElem? hi
              simpa using this
            simp at hl
            exact Or.inr ⟨by omega, by rw [hq]⟩
        rcases key i p hi with ⟨a1, a2⟩ | ⟨a1, a2⟩ <;> rcases key j q hj with ⟨b1, b2⟩ | ⟨b1, b2⟩
        · exact h3 i j p q a1 b1 hpq
        · omega
        · omega
        · omega
theorem vx_list {D : va_G} {cl : List vw_C} {A : Nat → Prop} {h : vx_h} {H : Heap} (hA : vx_AH D cl A h H) : ∃ ws : va_W, va_P D cl ws H ∧ va_D A ws ∧ (∀ (a : Nat) (e : va_E), h a = some e → ∃ k : Nat, ws[k]? = some (a, e)) := by
  obtain ⟨ws, h1, h2, h3⟩ := vx_rep h H.size
  refine ⟨ws, fun k q hk => (hA q.1 q.2 (h1 k q hk).2).1, ⟨h3, fun k q hk => (hA q.1 q.2 (h1 k q hk).2).2⟩, fun a e he => h2 a e ?_ he⟩
  exact (hA a e he).1.lt
theorem vx_set {D : va_G} {cl : List vw_C} {A : Nat → Prop} {h : vx_h} {H1 : Heap} {ws : va_W} {k a : Nat} {e e0 : va_E} (hk : ws[k]? = some (a, e0)) (cov : ∀ (b : Nat) (e : va_E), h b = some e → ∃ k : Nat, ws[k]? = some (b, e)) (hP : va_P D cl (ws.set k (a, e)) H1) (hD : va_D A (ws.set k (a, e))) : vx_AH D cl A (vx_up h a e) H1 := by
  intro b e' hb
  by_cases hba : b = a
  · subst hba
    rw [vx_up_s] at hb
    cases hb
    have hs : (ws.set k (b, e))[k]? = some (b, e) := List.getElem?_set_self (List.getElem?_eq_some_iff.mp hk).1
    exact ⟨hP k _ hs, hD.2 k _ hs⟩
  · rw [vx_up_n hba] at hb
    obtain ⟨j, hj⟩ := cov b e' hb
    have hjk : k ≠ j := by
      intro q
      subst q
      rw [hk] at hj
      cases hj
      exact hba rfl
    have hs : (ws.set k (a, e))[j]? = some (b, e') := by rw [List.getElem?_set_ne hjk]; exact hj
    exact ⟨hP j _ hs, hD.2 j _ hs⟩
theorem vx_push {D : va_G} {cl : List vw_C} {A : Nat → Prop} {h : vx_h} {H1 : Heap} {ws : va_W} {a : Nat} {e : va_E} (cov : ∀ (b : Nat) (e : va_E), h b = some e → ∃ k : Nat, ws[k]? = some (b, e)) (hP : va_P D cl (ws ++ [(a, e)]) H1) (hD : va_D A (ws ++ [(a, e)])) : vx_AH D cl A (vx_up h a e) H1 := by
  intro b e' hb
  by_cases hba : b = a
  · subst hba
    rw [vx_up_s] at hb
    cases hb
    have hs : (ws ++ [(b, e)])[ws.length]? = some (b, e) := by simp
    exact ⟨hP _ _ hs, hD.2 _ _ hs⟩
  · rw [vx_up_n hba] at hb
    obtain ⟨j, hj⟩ := cov b e' hb
    have hs : (ws ++ [(a, e)])[j]? = some (b, e') := by rw [List.getElem?_append_left (List.getElem?_eq_some_iff.mp hj).1]; exact hj
    exact ⟨hP j _ hs, hD.2 j _ hs⟩
/-- what the tables say of nest mates' constructors and of Whole[]: no word that a callee could take over, so it goes with the state -/
def vx_N (U : State) : Prop := (∀ (a : String) (i : Nat) (x : MethodName) (t : String), Cond.methodLinkNest a i x t ∈ lw_tbl → va_Nw (.methodLinkNest a i x t) U) ∧ va_AO "SignedMill$Whole" U
theorem vx_N.warm {s U : State} (hW : s.WarmedH U.vm) (h : vx_N s) : vx_N U := ⟨fun a i x t hm => va_Nw.warmM hW (h.1 a i x t hm), va_AO.moved hW.alike h.2⟩
theorem vx_N.same {u U : State} (e : u.vm = U.vm) (h : vx_N u) : vx_N U := ⟨fun a i x t hm => va_Nw.same rfl e (h.1 a i x t hm), va_AO.moved (by rw [e]; exact Vm.Alike.refl _) h.2⟩
abbrev vx_G : Type := Heap → List Loc → Nat → Nat → Nat → Array Slot → List Value → Prop
/-- G is the walk of a body (of the class own, bytes cc, nL locals, words Ts, room R; a constructor where ct) -/
def vx_I (l : Launch) (D : va_G) (cl : List vw_C) (tys : List (ClassId × FieldType)) (R : Room) (own : String) (cc : ByteArray) (nL : Nat) (Ts : List Cond) (ct : Bool) (A : Nat → Prop) (H0 : Heap) (G : vx_G) : Prop :=
  ∃ (p : Program) (e : Env) (s : State) (m : MethodId) (args : Array Value) (below : List Frame) (meth : Method) (c : Code) (Q : State → Prop),
    (G = fun H locs k n pc ls st => W p l e R s m args below meth c H locs k n Q (F0 m pc ls st)) ∧ p.tables.exec = Jvm.exec ∧ c.code = cc ∧ c.maxLocals = nL ∧ s.vm.findClass own = some m.cls ∧ (∀ w ∈ Ts, w.before args s = true) ∧ va_K D cl tys s ∧ vx_N s ∧ s.heap = H0 ∧ (∀ q : Nat, H0.size ≤ q → A q) ∧ (ct = true → meth.name = "<init>")
def vx_V (D : va_G) (cl : List vw_C) (A : Nat → Prop) (H0 : Heap) (nL : Nat) (G : vx_G) (h : vx_h) (k n pc : Nat) (lv : List (Nat × Value)) (st : List Value) : Prop :=
  ∀ (H : Heap) (locs : List Loc) (ls : Array Slot), vx_AH D cl A h H → va_S A H0 H locs → lv_has ls nL lv → G H locs k n pc ls st
/-- which cells a method may change: the tracked ones, and those that come -/
def vx_A (h : vx_h) (sz : Nat) : Nat → Prop := fun q => (∃ e, h q = some e) ∨ sz ≤ q
/-- how a body may end with v at pc -/
def vx_end (ret : Option FieldType) (cc : ByteArray) (pc : Nat) (v : Option Value) : Prop :=
  (ret = none ∧ v = none ∧ decode cc pc = .ok (.return_, 1)) ∨ (∃ (ty : FieldType) (x : Int32), ret = some ty ∧ narrow ty (.int x) = .int x ∧ v = some (.int x) ∧ decode cc pc = .ok (.ireturn, 1)) ∨
  (∃ x : Int64, ret = some .long ∧ v = some (.long x) ∧ decode cc pc = .ok (.lreturn, 1)) ∨ (∃ (ty : FieldType) (x : Nat), ret = some ty ∧ ((∃ n, ty = .object n) ∨ ∃ t, ty = .array t) ∧ v = some (.ref x) ∧ decode cc pc = .ok (.areturn, 1))
/-- what a body's end must show -/
def vx_R (D : va_G) (cl : List vw_C) (A : Nat → Prop) (H0 : Heap) (cc : ByteArray) (ret : Option FieldType) (post : Option Value → vx_h → Nat → Nat → Prop) (G : vx_G) : Prop :=
  ∀ (H : Heap) (locs : List Loc) (ls : Array Slot) (pc k n : Nat) (h : vx_h) (v : Option Value), vx_AH D cl A h H → va_S A H0 H locs → vx_end ret cc pc v → post v h k n → G H locs k n pc ls v.toList
def vx_Q (D : va_G) (cl : List vw_C) (h : vx_h) (post : Option Value → vx_h → Nat → Nat → Prop) : Array Value → State → Outcome → State → Prop := fun _ st o t =>
  ∃ (v : Option Value) (h' : vx_h) (L : List Loc) (k n : Nat), o = .returned v ∧ FrameEnd st o t L k n ∧ (∀ q ∈ L, vx_A h st.heap.size q.base) ∧ post v h' k n ∧ vx_AH D cl (vx_A h st.heap.size) h' t.heap ∧ va_F (vx_A h st.heap.size) st t
/-- A METHOD'S CONTRACT: from any state whose heap holds h, called with av, it returns some v, the heap then holds some h', k cells of n slots came, and post of these -/
def vx_M (l : Launch) (D : va_G) (cl : List vw_C) (tys : List (ClassId × FieldType)) (y : MethodName) (ws : List Cond) (rm : Room) (av : List Value) (h : vx_h) (post : Option Value → vx_h → Nat → Nat → Prop) : Prop :=
  MetFree l y (headSpec ws rm) (fun args U => args = av.toArray ∧ vx_AH D cl (fun _ => True) h U.heap ∧ va_K D cl tys U ∧ vx_N U) (fun _ _ _ _ _ => True) (vx_Q D cl h post)
theorem vx_M.ofV {l : Launch} {D : va_G} {cl : List vw_C} {tys : List (ClassId × FieldType)} {y : MethodName} {ws : List Cond} {rm : Room} {av : List Value} {h : vx_h} {post : Option Value → vx_h → Nat → Nat → Prop} {cc : ByteArray} {maxL : Nat} {ret : Option FieldType} {own : String} (ct : Bool) (ho : y.cls = own)
    (hy : plainFor y = true) (hw : Cond.code y cc maxL ret ∈ ws) (hct : ct = true → y.name = "<init>") (hsl : (lg_sl av).length ≤ maxL)
    (body : ∀ (A : Nat → Prop) (H0 : Heap) (G : vx_G), vx_I l D cl tys rm own cc maxL ws ct A H0 G → vx_R D cl A H0 cc ret post G → vx_V D cl A H0 maxL G h 0 0 0 (lv_args 0 av) []) : vx_M l D cl tys y ws rm av h post := by
  refine MetFree.of_bodySF (code := cc) (maxLocals := maxL) (ret := ret) hy ?_ ?_
  · intro args s m hh hn
    obtain ⟨meth, c, h1, h2, h3, h4, h5, h6, -, -⟩ := Cond.code_spec hn (atoms_spec (ws := ws) hh _ hw)
    exact ⟨meth, c, h1, h2, h3, h4, h5, h6⟩
  · intro p e s m args below meth c s₁ B hml hP _
    obtain ⟨rfl, hAH, hK, hN⟩ := hP
    have hh0 : s₁.heap = s.heap := by rw [B.state]; rfl
    have hA0 : vx_AH D cl (vx_A h s.heap.size) h s.heap := fun a e he => ⟨(hAH a e he).1, Or.inl ⟨e, he⟩⟩
    have hx := B.exec
    have hb := B.bytes
    have hr := B.returns
    have hlocks := B.notSynchronized
    have K := body (vx_A h s.heap.size) s.heap (fun H locs k n pc ls st => W p l e rm s m av.toArray below meth c H locs k n (fun t => ∃ o, t.status = .running ∧ Ended t below o ∧ vx_Q D cl h post av.toArray s o t) (F0 m pc ls st))
      ⟨p, e, s, m, av.toArray, below, meth, c, _, rfl, B.exec, B.bytes, hml, (by rw [← ho]; exact findClass_of_methodNamed B.named), atoms_spec (ws := ws) B.pre, hK, hN, rfl, fun q hq => Or.inr hq, fun q => (name_of_methodNamed B.named B.method).1.trans (hct q)⟩
      (by
        intro H locs ls pc k n h' v g1 g2 g3 g4
        have fin : ∀ t, MQ below (fun _ st o t => o = .returned v ∧ t.heap = H) av.toArray s k n (vx_A h s.heap.size) t → ∃ o, t.status = .running ∧ Ended t below o ∧ vx_Q D cl h post av.toArray s o t := by
          intro t ⟨o, f1, f2, ⟨f3, f4⟩, L, f5, f6⟩
          exact ⟨o, f1, f2, v, h', L, k, n, f3, f5, f6, g4, by rw [f4]; exact g1, g2.F f4⟩
        rcases g3 with ⟨e1, e2, e3⟩ | ⟨ty, x, e1, e2, e3, e4⟩ | ⟨x, e1, e2, e3⟩ | ⟨ty, x, e1, e2, e3, e4⟩
        · subst e2
          intro T hT X
          obtain ⟨t, a1, b1⟩ := W.vret (Qc := fun _ st o t => o = .returned none ∧ t.heap = H) (free := vx_A h s.heap.size) (locs := locs) (cells := k) (slots := n) (args := av.toArray) (H := H) (ls := ls) hx hb (hr.trans e1) (fun t ht _ => ⟨rfl, ht⟩) g2.2.2 e3 hlocks T hT X
          exact ⟨t, a1, fin t b1⟩
        · subst e3
          intro T hT X
          obtain ⟨t, a1, b1⟩ := W.zret (Qc := fun _ st o t => o = .returned (some (.int x)) ∧ t.heap = H) (free := vx_A h s.heap.size) (locs := locs) (cells := k) (slots := n) (args := av.toArray) (H := H) (ls := ls) hx hb (hr.trans e1) e2 (fun t ht _ => ⟨rfl, ht⟩) g2.2.2 e4 hlocks T hT X
          exact ⟨t, a1, fin t b1⟩
        · subst e2
          intro T hT X
          obtain ⟨t, a1, b1⟩ := W.lret (Qc := fun _ st o t => o = .returned (some (.long x)) ∧ t.heap = H) (free := vx_A h s.heap.size) (locs := locs) (cells := k) (slots := n) (args := av.toArray) (H := H) (ls := ls) hx hb (hr.trans e1) (fun t ht _ => ⟨rfl, ht⟩) g2.2.2 e3 hlocks T hT X
          exact ⟨t, a1, fin t b1⟩
        · subst e3
          intro T hT X
          obtain ⟨t, a1, b1⟩ := W.aret (Qc := fun _ st o t => o = .returned (some (.ref x)) ∧ t.heap = H) (free := vx_A h s.heap.size) (locs := locs) (cells := k) (slots := n) (args := av.toArray) (H := H) (ls := ls) hx hb (hr.trans e1) e2 (Or.inr ⟨x, rfl⟩) (fun t ht _ => ⟨rfl, ht⟩) g2.2.2 e4 hlocks T hT X
          exact ⟨t, a1, fin t b1⟩)
    have hl := lv_entry av (n := maxL) hsl
    have K1 := K s.heap [] _ hA0 va_S.rf hl
    obtain ⟨t, a1, o, b1, b2, b3⟩ := K1 s₁ hh0 (Stand.of_body B)
    refine ⟨t, o, ?_, b1, b2, b3⟩
    rw [lg_entry_eq]
    exact a1
