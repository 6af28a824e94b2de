/-! a call with more below it on the stack -/
section
variable {l : Launch} {D : va_G} {cl : List vw_C} {tys : List (ClassId × FieldType)} {R : Room} {own : String} {cc : ByteArray} {nL : Nat} {Ts : List Cond} {ct : Bool} {A : Nat → Prop} {H0 : Heap} {G : vx_G} {h : vx_h} {k n pc : Nat} {lv : List (Nat × Value)} {st : List Value}
variable {y : MethodName} {ws : List Cond} {rm : Room} {av : List Value} {post : Option Value → vx_h → Nat → Nat → Prop} {bytes : ByteArray} {maxL : Nat} {ret : Option FieldType}
theorem vx_callSW (IG : vx_I l D cl tys R own cc nL Ts ct A H0 G) (hg : GoodIn Ts Ts) {As : List Value} (hM : vx_M l D cl tys y Ts rm As h post) {index : Nat} (hcode : Cond.code y bytes maxL ret ∈ Ts) (hm1 : Cond.methodLink own index y ∈ Ts) (hm2 : Cond.static y ∈ Ts) (hm4 : Cond.initialized y.cls ∈ Ts) (na : Nat) (hy : vx_nm y na) (hna : As.length = na) (hR : rm.frames + 1 ≤ R.frames ∧ 12 + (maxL + 11) + rm.locals ≤ R.locals) (hf : k + rm.cells ≤ R.cells ∧ n + rm.slots ≤ R.slots) {st0 : List Value} (hs : st0 = As.reverse ++ st) (hW : (st.map fun v => v.category).sum ≤ 12) (hd : decode cc pc = .ok (.invokestatic index, 3))
    (K : ∀ (v : Option Value) (h' : vx_h) (k' n' : Nat), post v h' k' n' → vx_V D cl A H0 nL G h' (k + k') (n + n') (pc + 3) lv (v.toList ++ st)) : vx_V D cl A H0 nL G h k n pc lv st0 := by
  obtain ⟨p, e, s, m, args, below, meth, c, Q, rfl, hx, hb, hml, hown, hts, hK, hN, hh0, hA, -⟩ := IG
  intro H locs ls g1 g2 g3
  refine vx_goes hA g1 g2 g3 ?_ K
  intro T hT X
  obtain ⟨v, vm₁, ⟨U', l2, c2, s2⟩, hW₁, X', ⟨L, k', n', h', e1, e2, e3, e4, e5, e6, e7, e8⟩, go⟩ := callS X hx (bytes := bytes) (maxL := maxL) (ret := ret) hown (hts _ hm1) (hts _ hm2) (hts _ hm4) (hts _ hcode) ⟨hy.1, hy.2.1⟩
    (vx_back (bytes := bytes) (maxL := maxL) (ret := ret) (W0 := 12) hM hR.1 hR.2 (vx_words hg hts) hcode hm4) (g := F0 m pc ls st0) rfl (by rw [hml]; exact g3.1) (argsL := As) (rest := st) (fun sig hsig => hna.trans (vx_len hy sig hsig)) hs (by have h0 : (F0 m pc ls st0).monitorRoom = 0 := rfl; rw [h0]; omega) (by rw [hb]; exact hd)
    (fun vm₁ hW₁ => ⟨hf.1, hf.2, rfl, (show vx_AH D cl (fun _ => True) h T.heap by rw [hT]; exact fun a e z => ⟨(g1 a e z).1, trivial⟩), va_K.moved hW₁.alike hK, vx_N.warm (U := T.setVm vm₁) hW₁ hN⟩)
  dsimp only [Pt.U, Pt.locs, Pt.cells, Pt.slots] at X' e1 e2 e3 e4 e6 e7 e8 go
  subst e1; subst e2; subst e3
  have hTv : (T.setVm vm₁).heap = H := hT
  rw [hTv] at e4 e6 e7 e8
  exact ⟨v, U', L, k', n', h', X', e4, e5, e6, e7, e8, go⟩
end
