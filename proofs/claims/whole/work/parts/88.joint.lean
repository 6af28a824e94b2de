/-! the mill and the reference side by side -/
section
variable {l : Launch} {D : va_G} {tys : List (ClassId × FieldType)} {cJ cQ cZ cI : ClassId} {ad q : Nat → Nat} {r0 h : vx_h} {W V : Nat → Nat} {X X' : Nat → Int} {C S b : Nat} {e0 e : va_E} {f g s : Nat → Int32}
theorem mw_rset (HM : mw cJ cZ ad r0 W X h C S) (hb : r0 b = some e0) (n1 : b ≠ ad 32) (n2 : b ≠ ad 34) (e : va_E) : mw cJ cZ ad (vx_up r0 b e) W X (vx_up h b e) C S := by
  obtain ⟨b', x1, x2, x3, x4, ⟨V, HP, hV⟩, hW⟩ := HM
  refine ⟨b', x1, x2, x3, x4, ⟨V, ?_, hV⟩, hW⟩
  have hb' : rMl cZ ad r0 X b' x1 x2 x3 x4 b = some e0 := by
    unfold rMl
    rw [vx_up_n n2, vx_up_n n1]
    exact hb
  have := pool_rset HP hb' e
  have e2 : vx_up (rMl cZ ad r0 X b' x1 x2 x3 x4) b e = rMl cZ ad (vx_up r0 b e) X b' x1 x2 x3 x4 := by
    unfold rMl
    rw [vx_up_comm (a := ad 34) (b := b) (fun z => n2 z.symm), vx_up_comm (a := ad 32) (b := b) (fun z => n1 z.symm)]
  rwa [e2] at this
theorem mw_radd (HM : mw cJ cZ ad r0 W X h C S) (hb : h b = none) (e : va_E) : mw cJ cZ ad (vx_up r0 b e) W X (vx_up h b e) C S := by
  obtain ⟨b', x1, x2, x3, x4, ⟨V, HP, hV⟩, hW⟩ := HM
  refine ⟨b', x1, x2, x3, x4, ⟨V, ?_, hV⟩, hW⟩
  have n2 : b ≠ ad 34 := fun z => by
    have := pool_r (b := ad 34) HP vx_up_s
    rw [← z, hb] at this
    cases this
  have n1 : b ≠ ad 32 := fun z => by
    have h32 : rMl cZ ad r0 X b' x1 x2 x3 x4 (ad 32) = some (.inl (cZ, 16, .inl (fun i => sgI (X i)))) := by
      unfold rMl
      by_cases y : ad 32 = ad 34
      · exact absurd (z.trans y) n2
      · rw [vx_up_n y, vx_up_s]
    have := pool_r HP h32
    rw [← z, hb] at this
    cases this
  have := pool_radd HP hb e
  have e2 : vx_up (rMl cZ ad r0 X b' x1 x2 x3 x4) b e = rMl cZ ad (vx_up r0 b e) X b' x1 x2 x3 x4 := by
    unfold rMl
    rw [vx_up_comm (a := ad 34) (b := b) (fun z => n2 z.symm), vx_up_comm (a := ad 32) (b := b) (fun z => n1 z.symm)]
  rwa [e2] at this
theorem lay_rset (LY : lay cQ ad r0) (n0 : b ≠ ad 30) (n1 : b ≠ ad 31) (n2 : b ≠ ad 33) (n3 : b ≠ ad 35) (e : va_E) : lay cQ ad (vx_up r0 b e) := by
  obtain ⟨h1, h2, ⟨f, h3, h4⟩, h5, h6⟩ := LY
  exact ⟨h1, by rw [vx_up_n n0.symm]; exact h2, ⟨f, by rw [vx_up_n n1.symm]; exact h3, h4⟩, by rw [vx_up_n n2.symm]; exact h5, by rw [vx_up_n n3.symm]; exact h6⟩
/-- a cell that holds ints is none of the mill's -/
theorem lay_int (LY : lay cQ ad r0) {c : ClassId} {N : Nat} (hb : r0 b = some (.inl (c, N, .inl f))) : b ≠ ad 30 ∧ b ≠ ad 31 ∧ b ≠ ad 33 ∧ b ≠ ad 35 := by
  obtain ⟨-, h2, ⟨f', h3, -⟩, h5, h6⟩ := LY
  refine ⟨fun z => ?_, fun z => ?_, fun z => ?_, fun z => ?_⟩
  · rw [z, h2] at hb; cases hb
  · rw [z, h3] at hb; cases hb
  · rw [z, h5] at hb; cases hb
  · rw [z, h6] at hb; cases hb
/-- the mill holds X', the reference holds X -/
def JM (cJ cQ cZ cI : ClassId) (ad q : Nat → Nat) (X X' : Nat → Int) (h : vx_h) (C S : Nat) : Prop := ∃ (W : Nat → Nat) (r0 : vx_h) (f g s : Nat → Int32) (V : Nat → Nat), lay cQ ad r0 ∧ mw cJ cZ ad r0 W X' h C S ∧ (∀ i j, i < 4 → j < 4 → i ≠ j → q i ≠ q j) ∧ (∀ i, i < 4 → q i ≠ ad 32 ∧ q i ≠ ad 34) ∧ r0 (q 0) = some (.inr (4, [.ref (q 1), .ref (q 2), .ref (q 3)])) ∧ r0 (q 1) = some (.inl (cI, 131136, .inl f)) ∧ r0 (q 2) = some (.inl (cI, 24, .inl g)) ∧ r0 (q 3) = some (.inl (cZ, 16, .inl s)) ∧ rpic f g V ∧ mreg X V s
def jpost (cJ cQ cZ cI : ClassId) (ad q : Nat → Nat) (X X' : Nat → Int) (C S : Nat) (x : Int32) : Option Value → vx_h → Nat → Nat → Prop := fun v h' k n => v = some (.int x) ∧ ∃ C' S', JM cJ cQ cZ cI ad q X X' h' C' S' ∧ k + C' ≤ C ∧ n + S' ≤ S
def jpostR (cJ cQ cZ cI : ClassId) (ad q : Nat → Nat) (X' : Nat → Int) (C S : Nat) (x : Int32) : Option Value → vx_h → Nat → Nat → Prop := fun v h' k n => v = some (.int x) ∧ k = 0 ∧ n = 0 ∧ JM cJ cQ cZ cI ad q X' X' h' C S
theorem jm_oM (J : JM cJ cQ cZ cI ad q X X' h C S) : ∃ fs, h (ad 30) = some (.inr (3, fs)) := by
  obtain ⟨W, r0, f, g, s, V, LY, HM, -⟩ := J
  exact ⟨_, mo_M LY HM⟩
theorem jm_oR (J : JM cJ cQ cZ cI ad q X X' h C S) : h (q 0) = some (.inr (4, [.ref (q 1), .ref (q 2), .ref (q 3)])) := by
  obtain ⟨W, r0, f, g, s, V, LY, HM, q1, q2, c0, -⟩ := J
  exact mw_r HM (q2 0 (by decide)).1 (q2 0 (by decide)).2 c0
theorem jm_M {y : MethodName} {rm : Room} {av : List Value} {x : Int32} (J : JM cJ cQ cZ cI ad q X X h C S) (hM : ∀ (r0 : vx_h) (W : Nat → Nat), lay cQ ad r0 → mw cJ cZ ad r0 W X h C S → vx_M l D vcl tys y lw_gd rm av h (mpub cJ cZ ad r0 X' C S x)) : vx_M l D vcl tys y lw_gd rm av h (jpost cJ cQ cZ cI ad q X X' C S x) := by
  obtain ⟨W, r0, f, g, s, V, LY, HM, q1, q2, c0, c1, c2, c3, HP, HX⟩ := J
  refine vx_M.post (hM r0 W LY HM) (fun v h' k n hq => ?_)
  obtain ⟨e, W', C', S', HM', h1, h2⟩ := hq
  exact ⟨e, C', S', ⟨W', r0, f, g, s, V, LY, HM', q1, q2, c0, c1, c2, c3, HP, HX⟩, h1, h2⟩
theorem jm_R {y : MethodName} {rm : Room} {av : List Value} {x : Int32} (J : JM cJ cQ cZ cI ad q X X' h C S) (hR : ∀ (h0 : vx_h) (f g s : Nat → Int32) (V : Nat → Nat), rlay q h0 → rpic f g V → mreg X V s → vx_M l D vcl tys y lw_gd rm av (rH cI cZ q h0 f g s) (rpub cI cZ q h0 X' x)) : vx_M l D vcl tys y lw_gd rm av h (jpostR cJ cQ cZ cI ad q X' C S x) := by
  obtain ⟨W, r0, f, g, s, V, LY, HM, q1, q2, c0, c1, c2, c3, HP, HX⟩ := J
  have d0 := mw_r HM (q2 0 (by decide)).1 (q2 0 (by decide)).2 c0
  have d1 := mw_r HM (q2 1 (by decide)).1 (q2 1 (by decide)).2 c1
  have d2 := mw_r HM (q2 2 (by decide)).1 (q2 2 (by decide)).2 c2
  have d3 := mw_r HM (q2 3 (by decide)).1 (q2 3 (by decide)).2 c3
  have hH : rH cI cZ q h f g s = h := by
    unfold rH
    rw [vx_up_id d1, vx_up_id d2, vx_up_id d3]
  have hc := hR h f g s V ⟨q1, d0⟩ HP HX
  rw [hH] at hc
  refine vx_M.post hc (fun v h' k n hq => ?_)
  obtain ⟨e1, e2, e3, f', g', s', V', rfl, P', X2⟩ := hq
  refine ⟨e1, e2, e3, W, vx_up (vx_up (vx_up r0 (q 1) (.inl (cI, 131136, .inl f'))) (q 2) (.inl (cI, 24, .inl g'))) (q 3) (.inl (cZ, 16, .inl s')), f', g', s', V', ?_, ?_, q1, q2, ?_, ?_, ?_, ?_, P', X2⟩
  · obtain ⟨a1, a2, a3, a4⟩ := lay_int LY c1
    obtain ⟨b1, b2, b3, b4⟩ := lay_int LY c2
    obtain ⟨g1, g2, g3, g4⟩ := lay_int LY c3
    exact lay_rset (lay_rset (lay_rset LY a1 a2 a3 a4 _) b1 b2 b3 b4 _) g1 g2 g3 g4 _
  · refine mw_rset (mw_rset (mw_rset HM c1 (q2 1 (by decide)).1 (q2 1 (by decide)).2 _) (e0 := .inl (cI, 24, .inl g)) ?_ (q2 2 (by decide)).1 (q2 2 (by decide)).2 _) (e0 := .inl (cZ, 16, .inl s)) ?_ (q2 3 (by decide)).1 (q2 3 (by decide)).2 _
    · rw [vx_up_n (q1 2 1 (by decide) (by decide) (by decide))]; exact c2
    · rw [vx_up_n (q1 3 2 (by decide) (by decide) (by decide)), vx_up_n (q1 3 1 (by decide) (by decide) (by decide))]; exact c3
  · rw [vx_up_n (q1 0 3 (by decide) (by decide) (by decide)), vx_up_n (q1 0 2 (by decide) (by decide) (by decide)), vx_up_n (q1 0 1 (by decide) (by decide) (by decide))]; exact c0
  · rw [vx_up_n (q1 1 3 (by decide) (by decide) (by decide)), vx_up_n (q1 1 2 (by decide) (by decide) (by decide)), vx_up_s]
  · rw [vx_up_n (q1 2 3 (by decide) (by decide) (by decide)), vx_up_s]
  · rw [vx_up_s]
end
