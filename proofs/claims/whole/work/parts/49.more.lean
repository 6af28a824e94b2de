/-! a switch; a contract's end made weaker -/
section
variable {l : Launch} {D : va_G} {cl : List vw_C} {tys : List (ClassId × FieldType)} {R : Room} {own : String} {cc : ByteArray} {nL : Nat} {Ts : List Cond} {ct : Bool} {A : Nat → Prop} {H0 : Heap} {G : vx_G} {h : vx_h} {k n pc : Nat} {lv : List (Nat × Value)} {st : List Value}
theorem vx_tableIn (IG : vx_I l D cl tys R own cc nL Ts ct A H0 G) {dflt lo hi : Int} {offs : Array Int} {len : Nat} {x : Int32} {off : Int} {tgt : Nat} (hd : decode cc pc = .ok (.tableswitch dflt lo hi offs, len)) (h1 : ¬ x.toInt < lo) (h2 : ¬ hi < x.toInt) (ho : offs[(x.toInt - lo).toNat]? = some off) (ht : (pc : Int) + off = (tgt : Int)) (K : vx_V D cl A H0 nL G h k n tgt lv st) : vx_V D cl A H0 nL G h k n pc lv (.int x :: st) := by
  obtain ⟨p, e, s, m, args, below, meth, c, Q, rfl, hx, hb, -⟩ := IG
  intro H locs ls g1 g2 g3
  exact lv_tableIn hx hb hd h1 h2 ho ht (K H locs ls g1 g2 g3)
theorem vx_tableOut (IG : vx_I l D cl tys R own cc nL Ts ct A H0 G) {dflt lo hi : Int} {offs : Array Int} {len : Nat} {x : Int32} {tgt : Nat} (hd : decode cc pc = .ok (.tableswitch dflt lo hi offs, len)) (h1 : x.toInt < lo ∨ hi < x.toInt) (ht : (pc : Int) + dflt = (tgt : Int)) (K : vx_V D cl A H0 nL G h k n tgt lv st) : vx_V D cl A H0 nL G h k n pc lv (.int x :: st) := by
  obtain ⟨p, e, s, m, args, below, meth, c, Q, rfl, hx, hb, -⟩ := IG
  intro H locs ls g1 g2 g3
  exact lv_tableOut hx hb hd h1 ht (K H locs ls g1 g2 g3)
theorem vx_M.post {y : MethodName} {ws : List Cond} {rm : Room} {av : List Value} {P P' : Option Value → vx_h → Nat → Nat → Prop} (hM : vx_M l D cl tys y ws rm av h P) (hp : ∀ v h' k n, P v h' k n → P' v h' k n) : vx_M l D cl tys y ws rm av h P' := by
  intro p e h1 h2 h3 s m args below h4 h5 h6 h7
  obtain ⟨n, o, a, b, c, d⟩ := hM p e h1 h2 h3 s m args below h4 h5 h6 h7
  obtain ⟨v, h', L, k, n', q1, q2, q3, q4, q5, q6⟩ := d
  exact ⟨n, o, a, b, c, v, h', L, k, n', q1, q2, q3, hp _ _ _ _ q4, q5, q6⟩
end
theorem vx_up_comm {h : vx_h} {a b : Nat} {e f : va_E} (hab : a ≠ b) : vx_up (vx_up h a e) b f = vx_up (vx_up h b f) a e := by
  funext q
  unfold vx_up
  by_cases z : q = b
  · by_cases y : q = a
    · exact absurd (y.symm.trans z) hab
    · rw [if_pos z, if_neg y, if_pos z]
  · rw [if_neg z, if_neg z]
theorem vx_up_id {h : vx_h} {a : Nat} {e : va_E} (he : h a = some e) : vx_up h a e = h := by
  funext q
  unfold vx_up
  by_cases z : q = a
  · rw [if_pos z, z, he]
  · rw [if_neg z]
