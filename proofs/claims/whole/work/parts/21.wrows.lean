/-! rows over the pool of Wholes -/
section
variable {l : Launch} {D : va_G} {tys : List (ClassId × FieldType)} {R : Room} {own : String} {cc : ByteArray} {nL : Nat} {ct : Bool} {A : Nat → Prop} {H0 : Heap} {G : vx_G} {h : vx_h} {k n pc : Nat} {lv : List (Nat × Value)} {st : List Value}
variable {cJ : ClassId} {L : List Nat} {r : vx_h} {ar cp : Nat → Nat} {cn : Nat → Int32} {fn : Nat → Nat → Int64} {p : Nat}
theorem wr_cnt (IG : vx_I l D vcl tys R own cc nL lw_gd ct A H0 G) (HR : rw_at 2 cJ L r ar cp cn fn h) (hp : p ∈ L) {index : Nat} (hm : Cond.fieldLink own index rW "count" "I" ∈ lw_gd) (hd : decode cc pc = .ok (.getfield index, 3)) (K : vx_V D vcl A H0 nL G h k n (pc + 3) lv (.int (cn p) :: st)) : vx_V D vcl A H0 nL G h k n pc lv (.ref p :: st) :=
  vx_get IG (rw_obj HR hp) rfl 1 (by decide) inW hm rfl rfl hd K
theorem wr_dig (IG : vx_I l D vcl tys R own cc nL lw_gd ct A H0 G) (HR : rw_at 2 cJ L r ar cp cn fn h) (hp : p ∈ L) {index : Nat} (hm : Cond.fieldLink own index rW "digits" "[J" ∈ lw_gd) (hd : decode cc pc = .ok (.getfield index, 3)) (K : vx_V D vcl A H0 nL G h k n (pc + 3) lv (.ref (ar p) :: st)) : vx_V D vcl A H0 nL G h k n pc lv (.ref p :: st) :=
  vx_get IG (rw_obj HR hp) rfl 0 (by decide) inW hm rfl rfl hd K
theorem wr_setc (IG : vx_I l D vcl tys R own cc nL lw_gd ct A H0 G) (HR : rw_at 2 cJ L r ar cp cn fn h) (hp : p ∈ L) {c : Int32} {index : Nat} (hm : Cond.fieldLink own index rW "count" "I" ∈ lw_gd) (hd : decode cc pc = .ok (.putfield index, 3)) (K : ∀ h' : vx_h, rw_at 2 cJ L r ar cp (va_up cn p c) fn h' → vx_V D vcl A H0 nL G h' k n (pc + 3) lv st) : vx_V D vcl A H0 nL G h k n pc lv (.int c :: .ref p :: st) :=
  vx_put IG (rw_obj HR hp) rfl 1 (by decide) inW fW tyW nmW hm rfl rfl (ty := .int) (by decide +kernel) rfl rfl (Nat.le_of_ble_eq_true rfl) hd (K _ (rw_cn HR hp c))
theorem wr_setd (IG : vx_I l D vcl tys R own cc nL lw_gd ct A H0 G) (HR : rw_at 2 cJ L r ar cp cn fn h) (hp : p ∈ L) {a c : Nat} {g : Nat → Int64} (ha : h a = none) (hc : 4 ≤ c) (hc2 : c ≤ 8200) {index : Nat} (hm : Cond.fieldLink own index rW "digits" "[J" ∈ lw_gd) (hd : decode cc pc = .ok (.putfield index, 3)) (K : ∀ h' : vx_h, rw_at 2 cJ L r (va_up ar p a) (va_up cp p c) cn (va_up fn p g) h' → vx_V D vcl A H0 nL G h' k n (pc + 3) lv st) : vx_V D vcl A H0 nL G (vx_up h a (.inl (cJ, c, .inr (.inl g)))) k n pc lv (.ref a :: .ref p :: st) := by
  have hpa : p ≠ a := fun z => by rw [← z, rw_obj HR hp] at ha; cases ha
  have ho : vx_up h a (.inl (cJ, c, .inr (.inl g))) p = some (.inr (2, [.ref (ar p), .int (cn p)])) := by rw [vx_up_n hpa]; exact rw_obj HR hp
  exact vx_put IG ho rfl 0 (by decide) inW fW tyW nmW hm rfl rfl (ty := .array .long) (by decide +kernel) rfl rfl (Nat.le_of_ble_eq_true rfl) hd (K _ (rw_new HR hp ha hc hc2 g))
theorem wr_ald (IG : vx_I l D vcl tys R own cc nL lw_gd ct A H0 G) (HR : rw_at 2 cJ L r ar cp cn fn h) (hp : p ∈ L) (ht : tys[0]? = some (cJ, .long)) {i : Int32} (j : Nat) (hi : i = nI j) (hj : j < cp p) (hd : decode cc pc = .ok (.laload, 1)) (K : vx_V D vcl A H0 nL G h k n (pc + 1) lv (.long (fn p j) :: st)) : vx_V D vcl A H0 nL G h k n pc lv (.int i :: .ref (ar p) :: st) := by
  have hc := rw_cap HR hp
  subst hi
  exact vx_lald IG (rw_row HR hp) 0 ht (vp_in_nI hj (by omega)) (by rw [nI_clamp (by omega)]) hd K
theorem wr_ast (IG : vx_I l D vcl tys R own cc nL lw_gd ct A H0 G) (HR : rw_at 2 cJ L r ar cp cn fn h) (hp : p ∈ L) (ht : tys[0]? = some (cJ, .long)) {i : Int32} {x : Int64} (j : Nat) (hi : i = nI j) (hj : j < cp p) (hd : decode cc pc = .ok (.lastore, 1)) (K : ∀ h' : vx_h, rw_at 2 cJ L r ar cp cn (va_up fn p (vp_updL (fn p) j x)) h' → vx_V D vcl A H0 nL G h' k n (pc + 1) lv st) : vx_V D vcl A H0 nL G h k n pc lv (.long x :: .int i :: .ref (ar p) :: st) := by
  have hc := rw_cap HR hp
  subst hi
  refine vx_last IG (rw_row HR hp) 0 ht (vp_in_nI hj (by omega)) hd ?_
  rw [nI_clamp (by omega)]
  exact K _ (rw_fn HR hp _)
theorem wr_len (IG : vx_I l D vcl tys R own cc nL lw_gd ct A H0 G) (HR : rw_at 2 cJ L r ar cp cn fn h) (hp : p ∈ L) (ht : tys[0]? = some (cJ, .long)) (hd : decode cc pc = .ok (.arraylength, 1)) (K : vx_V D vcl A H0 nL G h k n (pc + 1) lv (.int (nI (cp p)) :: st)) : vx_V D vcl A H0 nL G h k n pc lv (.ref (ar p) :: st) :=
  vx_alen IG (rw_row HR hp) 0 ht rfl hd K
end
