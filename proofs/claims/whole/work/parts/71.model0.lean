/-! the reference: its world -/
theorem b16 : 1 < 65536 := by decide
def rt (r : Nat) : Nat := if r < 16 then 4096 * r else 65536 + 8200 * (r - 16)
def rcap (r : Nat) : Nat := if r < 16 then 4096 else 8200
theorem rt_in {r j : Nat} (hr : r < 24) (hj : j < rcap r) : rt r + j < 131136 := by
  unfold rt rcap at *
  split at hj <;> split <;> omega
theorem rt_ne {a d i j : Nat} (h : a ≠ d) (ha : a < 24) (hd : d < 24) (hi : i < rcap a) (hj : j < rcap d) : rt a + i ≠ rt d + j := by
  unfold rt rcap at *
  split at hi <;> split at hj <;> (repeat' split) <;> omega
theorem rt_lt {r : Nat} (hr : r < 24) : rt r < 131136 := by
  unfold rt
  split <;> omega
theorem rcap_4 (r : Nat) : 4096 ≤ rcap r ∧ rcap r ≤ 8200 := by
  unfold rcap
  split <;> omega
theorem rcap_hi {r : Nat} (h : 16 ≤ r) : rcap r = 8200 := if_neg (by omega)
theorem rcap_lo {r : Nat} (h : r < 16) : rcap r = 4096 := if_pos h
/-- the heap with the reference's three rows -/
def rH (cI cZ : ClassId) (q : Nat → Nat) (h0 : vx_h) (f g s : Nat → Int32) : vx_h := vx_up (vx_up (vx_up h0 (q 1) (.inl (cI, 131136, .inl f))) (q 2) (.inl (cI, 24, .inl g))) (q 3) (.inl (cZ, 16, .inl s))
def rlay (q : Nat → Nat) (h0 : vx_h) : Prop := (∀ i j, i < 4 → j < 4 → i ≠ j → q i ≠ q j) ∧ h0 (q 0) = some (.inr (4, [.ref (q 1), .ref (q 2), .ref (q 3)]))
/-- the rows hold these numbers -/
def rv (f g : Nat → Int32) (r N : Nat) : Prop := g r = nI (nd 65536 N) ∧ nd 65536 N ≤ rcap r ∧ ∀ k, k < nd 65536 N → f (rt r + k) = nI (dg 65536 N k)
def rpic (f g : Nat → Int32) (V : Nat → Nat) : Prop := ∀ r, r < 24 → rv f g r (V r)
def rval (h : vx_h) (x : Int32) : Option Value → vx_h → Nat → Nat → Prop := fun v h' k n => v = some (.int x) ∧ h' = h ∧ k = 0 ∧ n = 0
/-- row d holds N, nothing else has changed -/
def rset (f g : Nat → Int32) (d N : Nat) (f' g' : Nat → Int32) : Prop := (∀ i, ¬ (rt d ≤ i ∧ i < rt d + rcap d) → f' i = f i) ∧ g' = upd g d (nI (nd 65536 N)) ∧ rv f' g' d N
def rdone (cI cZ : ClassId) (q : Nat → Nat) (h0 : vx_h) (f g s : Nat → Int32) (d N : Nat) : Option Value → vx_h → Nat → Nat → Prop := fun v h' k n => v = none ∧ k = 0 ∧ n = 0 ∧ ∃ f' g', h' = rH cI cZ q h0 f' g' s ∧ rset f g d N f' g'
/-- the first k elements from p on are e's -/
def pf (f : Nat → Int32) (p : Nat) (e : Nat → Nat) (k : Nat) : Nat → Int32 := fun i => if p ≤ i ∧ i < p + k then nI (e (i - p)) else f i
theorem pf_0 (f : Nat → Int32) (p : Nat) (e : Nat → Nat) : pf f p e 0 = f := by
  funext i
  exact if_neg (by omega)
theorem pf_s (f : Nat → Int32) (p : Nat) (e : Nat → Nat) (k : Nat) : upd (pf f p e k) (p + k) (nI (e k)) = pf f p e (k + 1) := by
  funext i
  show (if i = p + k then nI (e k) else if p ≤ i ∧ i < p + k then nI (e (i - p)) else f i) = if p ≤ i ∧ i < p + (k + 1) then nI (e (i - p)) else f i
  by_cases z : i = p + k
  · rw [if_pos z, if_pos (by omega), z, Nat.add_sub_cancel_left]
  · rw [if_neg z]
    by_cases y : p ≤ i ∧ i < p + k
    · rw [if_pos y, if_pos (by omega)]
    · rw [if_neg y, if_neg (by omega)]
theorem pf_in {f : Nat → Int32} {p : Nat} {e : Nat → Nat} {k j : Nat} (h : j < k) : pf f p e k (p + j) = nI (e j) := by
  show (if _ then _ else _) = _
  rw [if_pos (by omega), Nat.add_sub_cancel_left]
theorem pf_out {f : Nat → Int32} {p : Nat} {e : Nat → Nat} {k i : Nat} (h : ¬ (p ≤ i ∧ i < p + k)) : pf f p e k i = f i := if_neg h
theorem pf_row {f : Nat → Int32} {e : Nat → Nat} {a d k j : Nat} (h : a ≠ d ∨ k ≤ j) (ha : a < 24) (hd : d < 24) (hj : j < rcap a) (hk : k ≤ rcap d) : pf f (rt d) e k (rt a + j) = f (rt a + j) := by
  refine pf_out (fun z => ?_)
  rcases h with h | h
  · exact rt_ne h ha hd hj (show rt a + j - rt d < rcap d by omega) (by omega)
  · by_cases y : a = d
    · rw [y] at z; omega
    · exact rt_ne y ha hd hj (show rt a + j - rt d < rcap d by omega) (by omega)
/-- one row is changed -/
theorem rp_set {f g f' : Nat → Int32} {V : Nat → Nat} {d N sz : Nat} (HP : rpic f g V) (hd : d < 24) (hsz : sz ≤ rcap d) (hN : N < 65536 ^ sz) (ho : ∀ i, ¬ (rt d ≤ i ∧ i < rt d + rcap d) → f' i = f i) (hdg : ∀ k, k < sz → f' (rt d + k) = nI (dg 65536 N k)) : rpic f' (upd g d (nI (nd 65536 N))) (va_up V d N) := by
  intro r hr
  by_cases z : r = d
  · subst z
    rw [va_up_self]
    have hn := (nd_le b16).mpr hN
    exact ⟨if_pos rfl, by omega, fun k hk => hdg k (by omega)⟩
  · rw [va_up_ne _ _ z]
    obtain ⟨h1, h2, h3⟩ := HP r hr
    refine ⟨by rw [← h1]; exact if_neg z, h2, fun k hk => ?_⟩
    rw [← h3 k hk]
    refine ho _ (fun y => ?_)
    exact rt_ne z hr hd (show k < rcap r by omega) (show rt r + k - rt d < rcap d by omega) (by omega)
theorem rs_pw {f g : Nat → Int32} {d N sz : Nat} (hsz : sz ≤ rcap d) (hN : N < 65536 ^ sz) : rset f g d N (pf f (rt d) (dg 65536 N) sz) (upd g d (nI (nd 65536 N))) := by
  have hn := (nd_le b16).mpr hN
  exact ⟨fun i hi => pf_out (fun z => hi (by omega)), rfl, if_pos rfl, by omega, fun k hk => pf_in (by omega)⟩
theorem rs_row {f g f' g' : Nat → Int32} {d N r M : Nat} (hS : rset f g d N f' g') (hd : d < 24) (hr : r < 24) (hne : r ≠ d) (hv : rv f g r M) : rv f' g' r M := by
  obtain ⟨h1, h2, h3⟩ := hv
  obtain ⟨s1, s2, s3⟩ := hS
  refine ⟨by rw [s2, ← h1]; exact if_neg hne, h2, fun k hk => ?_⟩
  rw [← h3 k hk]
  refine s1 _ (fun y => ?_)
  exact rt_ne hne hr hd (show k < rcap r by omega) (show rt r + k - rt d < rcap d by omega) (by omega)
theorem rp_rs {f g f' g' : Nat → Int32} {V : Nat → Nat} {d N : Nat} (HP : rpic f g V) (hd : d < 24) (hS : rset f g d N f' g') : rpic f' g' (va_up V d N) := by
  intro r hr
  by_cases z : r = d
  · rw [z, va_up_self]
    exact hS.2.2
  · rw [va_up_ne _ _ z]
    exact rs_row hS hd hr z (HP r hr)
section
variable {l : Launch} {D : va_G} {tys : List (ClassId × FieldType)} {cI cZ : ClassId} {q : Nat → Nat} {h0 h : vx_h} {f g s : Nat → Int32} {V : Nat → Nat} {R : Room} {own : String} {cc : ByteArray} {nL : Nat} {ct : Bool} {A : Nat → Prop} {H0 : Heap} {G : vx_G} {k n pc i r : Nat} {x : Int32} {lv : List (Nat × Value)} {st : List Value}
theorem ro_M (LR : rlay q h0) : rH cI cZ q h0 f g s (q 0) = some (.inr (4, [.ref (q 1), .ref (q 2), .ref (q 3)])) := by
  unfold rH
  rw [vx_up_n (LR.1 0 3 (by decide) (by decide) (by decide)), vx_up_n (LR.1 0 2 (by decide) (by decide) (by decide)), vx_up_n (LR.1 0 1 (by decide) (by decide) (by decide))]
  exact LR.2
theorem ro_m (LR : rlay q h0) : rH cI cZ q h0 f g s (q 1) = some (.inl (cI, 131136, .inl f)) := by
  unfold rH
  rw [vx_up_n (LR.1 1 3 (by decide) (by decide) (by decide)), vx_up_n (LR.1 1 2 (by decide) (by decide) (by decide)), vx_up_s]
theorem ro_n (LR : rlay q h0) : rH cI cZ q h0 f g s (q 2) = some (.inl (cI, 24, .inl g)) := by
  unfold rH
  rw [vx_up_n (LR.1 2 3 (by decide) (by decide) (by decide)), vx_up_s]
theorem ro_z (LR : rlay q h0) : rH cI cZ q h0 f g s (q 3) = some (.inl (cZ, 16, .inl s)) := by
  unfold rH
  rw [vx_up_s]
theorem rr_mld (IG : vx_I l D vcl tys R own cc nL lw_gd ct A H0 G) (LR : rlay q h0) (ht3 : tys[3]? = some (cI, .int)) (hi : i < 131136) (hv : f i = x) (hd : decode cc pc = .ok (.iaload, 1)) (K : vx_V D vcl A H0 nL G (rH cI cZ q h0 f g s) k n (pc + 1) lv (.int x :: st)) : vx_V D vcl A H0 nL G (rH cI cZ q h0 f g s) k n pc lv (.int (nI i) :: .ref (q 1) :: st) :=
  vx_iald IG (ro_m LR) 3 ht3 (vp_in_nI hi (by decide)) (by rw [nI_clamp (by omega)]; exact hv) hd K
theorem rr_nld (IG : vx_I l D vcl tys R own cc nL lw_gd ct A H0 G) (LR : rlay q h0) (ht3 : tys[3]? = some (cI, .int)) (hr : r < 24) (hv : g r = x) (hd : decode cc pc = .ok (.iaload, 1)) (K : vx_V D vcl A H0 nL G (rH cI cZ q h0 f g s) k n (pc + 1) lv (.int x :: st)) : vx_V D vcl A H0 nL G (rH cI cZ q h0 f g s) k n pc lv (.int (nI r) :: .ref (q 2) :: st) :=
  vx_iald IG (ro_n LR) 3 ht3 (vp_in_nI hr (by decide)) (by rw [nI_clamp (by omega)]; exact hv) hd K
theorem rr_zld (IG : vx_I l D vcl tys R own cc nL lw_gd ct A H0 G) (LR : rlay q h0) (ht2 : tys[2]? = some (cZ, .boolean)) (hr : r < 16) (hv : s r = x) (hd : decode cc pc = .ok (.baload, 1)) (K : vx_V D vcl A H0 nL G (rH cI cZ q h0 f g s) k n (pc + 1) lv (.int x :: st)) : vx_V D vcl A H0 nL G (rH cI cZ q h0 f g s) k n pc lv (.int (nI r) :: .ref (q 3) :: st) :=
  vx_zald IG (ro_z LR) 2 ht2 (vp_in_nI hr (by decide)) (by rw [nI_clamp (by omega)]; exact hv) hd K
theorem rr_mst (IG : vx_I l D vcl tys R own cc nL lw_gd ct A H0 G) (LR : rlay q h0) (ht3 : tys[3]? = some (cI, .int)) (hi : i < 131136) {f' : Nat → Int32} (hf : upd f i x = f') (hd : decode cc pc = .ok (.iastore, 1)) (K : vx_V D vcl A H0 nL G (rH cI cZ q h0 f' g s) k n (pc + 1) lv st) : vx_V D vcl A H0 nL G (rH cI cZ q h0 f g s) k n pc lv (.int x :: .int (nI i) :: .ref (q 1) :: st) := by
  refine vx_iast IG (ro_m LR) 3 ht3 (vp_in_nI hi (by decide)) hd ?_
  have e : vx_up (rH cI cZ q h0 f g s) (q 1) (.inl (cI, 131136, .inl f')) = rH cI cZ q h0 f' g s := by
    unfold rH
    rw [vx_up_comm (LR.1 3 1 (by decide) (by decide) (by decide)), vx_up_comm (LR.1 2 1 (by decide) (by decide) (by decide)), vx_up_up]
  rw [nI_clamp (by omega), hf, e]
  exact K
theorem rr_nst (IG : vx_I l D vcl tys R own cc nL lw_gd ct A H0 G) (LR : rlay q h0) (ht3 : tys[3]? = some (cI, .int)) (hr : r < 24) {g' : Nat → Int32} (hg : upd g r x = g') (hd : decode cc pc = .ok (.iastore, 1)) (K : vx_V D vcl A H0 nL G (rH cI cZ q h0 f g' s) k n (pc + 1) lv st) : vx_V D vcl A H0 nL G (rH cI cZ q h0 f g s) k n pc lv (.int x :: .int (nI r) :: .ref (q 2) :: st) := by
  refine vx_iast IG (ro_n LR) 3 ht3 (vp_in_nI hr (by decide)) hd ?_
  have e : vx_up (rH cI cZ q h0 f g s) (q 2) (.inl (cI, 24, .inl g')) = rH cI cZ q h0 f g' s := by
    unfold rH
    rw [vx_up_comm (LR.1 3 2 (by decide) (by decide) (by decide)), vx_up_up]
  rw [nI_clamp (by omega), hg, e]
  exact K
theorem rr_zst (IG : vx_I l D vcl tys R own cc nL lw_gd ct A H0 G) (LR : rlay q h0) (ht2 : tys[2]? = some (cZ, .boolean)) (hr : r < 16) {s' : Nat → Int32} (h01 : x = 0 ∨ x = 1) (hs : upd s r x = s') (hd : decode cc pc = .ok (.bastore, 1)) (K : vx_V D vcl A H0 nL G (rH cI cZ q h0 f g s') k n (pc + 1) lv st) : vx_V D vcl A H0 nL G (rH cI cZ q h0 f g s) k n pc lv (.int x :: .int (nI r) :: .ref (q 3) :: st) := by
  refine vx_zast IG (ro_z LR) 2 ht2 (vp_in_nI hr (by decide)) hd ?_
  have e : vx_up (rH cI cZ q h0 f g s) (q 3) (.inl (cZ, 16, .inl s')) = rH cI cZ q h0 f g s' := by
    unfold rH
    rw [vx_up_up]
  have hx : vp_nar .boolean x = x := by rcases h01 with z | z <;> rw [z] <;> rfl
  rw [nI_clamp (by omega), hx, hs, e]
  exact K
end
section
variable {l : Launch} {D : va_G} {tys : List (ClassId × FieldType)} {cI cZ : ClassId} {q : Nat → Nat} {h0 : vx_h} {f g s : Nat → Int32} {V : Nat → Nat} {a b d N sz : Nat}
set_option maxRecDepth 100000 in
set_option maxHeartbeats 8000000 in
theorem cR_is (h : vx_h) (r : Int32) : vx_M l D vcl tys my_R_is lw_gd (rm_ 0 0 0 0) [.int r] h (rval h (if isR r then 1 else 0)) := by
  refine vx_M.ofV (cc := bc_R_is) (maxL := 1) (ret := (some .boolean)) (own := rR) false rfl (by decide +kernel) wC_R_is (fun q => by cases q) (Nat.le_of_ble_eq_true rfl) (fun A H0 G IG RG => ?_)
  show vx_V _ _ _ _ _ _ _ _ _ 0 [(0, .int r)] []
  refine vx_iload_n IG dc_R_is_0 rfl 0 rfl ?_
  have i0 : (0 : Int32).toInt = 0 := rfl
  have i16 : (16 : Int32).toInt = 16 := rfl
  by_cases z : r < 0
  · refine vx_if_lt (tgt := 14) IG dc_R_is_1 (by decide) (fun _ => ?_) (fun c_ => absurd z c_)
    refine vx_iconst (v := 0) IG dc_R_is_14 (by decide) ?_
    refine vx_ret (some (.int 0)) RG (vx_endi (by first | rfl | decide) dc_R_is_15) rfl ?_
    exact ⟨by rw [if_neg (fun q => by have := Int32.lt_iff_toInt_lt.mp z; omega)], rfl, rfl, rfl⟩
  · refine vx_if_lt (tgt := 14) IG dc_R_is_1 (by decide) (fun c_ => absurd c_ z) (fun _ => ?_)
    refine vx_iload_n IG dc_R_is_4 rfl 0 rfl ?_
    refine vx_bipush (v := 16) IG dc_R_is_5 (by decide) ?_
    by_cases y : (16 : Int32) ≤ r
    · refine vx_icmp_ge (tgt := 14) IG dc_R_is_7 (by decide) (fun _ => ?_) (fun c_ => absurd y c_)
      refine vx_iconst (v := 0) IG dc_R_is_14 (by decide) ?_
      refine vx_ret (some (.int 0)) RG (vx_endi (by first | rfl | decide) dc_R_is_15) rfl ?_
      exact ⟨by rw [if_neg (fun q => by have := Int32.le_iff_toInt_le.mp y; omega)], rfl, rfl, rfl⟩
    · refine vx_icmp_ge (tgt := 14) IG dc_R_is_7 (by decide) (fun c_ => absurd c_ y) (fun _ => ?_)
      refine vx_iconst (v := 1) IG dc_R_is_10 (by decide) ?_
      refine vx_goto (tgt := 15) IG dc_R_is_11 (by decide) ?_
      refine vx_ret (some (.int 1)) RG (vx_endi (by first | rfl | decide) dc_R_is_15) rfl ?_
      rw [Int32.lt_iff_toInt_lt] at z
      rw [Int32.le_iff_toInt_le] at y
      exact ⟨by rw [if_pos ⟨by omega, by omega⟩], rfl, rfl, rfl⟩
set_option maxRecDepth 100000 in
set_option maxHeartbeats 8000000 in
theorem cR_at (h : vx_h) (r : Nat) (hr : r < 24) : vx_M l D vcl tys my_R_at lw_gd (rm_ 0 0 0 0) [.int (nI r)] h (rval h (nI (rt r))) := by
  refine vx_M.ofV (cc := bc_R_at) (maxL := 1) (ret := (some .int)) (own := rR) false rfl (by decide +kernel) wC_R_at (fun q => by cases q) (Nat.le_of_ble_eq_true rfl) (fun A H0 G IG RG => ?_)
  show vx_V _ _ _ _ _ _ _ _ _ 0 [(0, .int (nI r))] []
  refine vx_iload_n IG dc_R_at_0 rfl 0 rfl ?_
  refine vx_bipush (v := 16) IG dc_R_at_1 (by decide) ?_
  by_cases y : r < 16
  · refine vx_icmp_ge (tgt := 14) IG dc_R_at_3 (by decide) (fun c_ => absurd c_ (fun z => absurd (nI_lt (b := 16) y (by decide)) (Int32.not_lt.mpr z))) (fun _ => ?_)
    refine vx_sipush (v := 4096) IG dc_R_at_6 (by decide) ?_
    refine vx_iload_n IG dc_R_at_9 rfl 0 rfl ?_
    refine vx_imul IG dc_R_at_10 ?_
    refine vx_topi (y := nI (4096 * r)) (pk_mul _ _) ?_
    refine vx_goto (tgt := 25) IG dc_R_at_11 (by decide) ?_
    refine vx_ret (some (.int (nI (4096 * r)))) RG (vx_endi (by first | rfl | decide) dc_R_at_25) rfl ?_
    exact ⟨by rw [show rt r = 4096 * r from if_pos y], rfl, rfl, rfl⟩
  · refine vx_icmp_ge (tgt := 14) IG dc_R_at_3 (by decide) (fun _ => ?_) (fun c_ => absurd (nI_le (a := 16) (by omega) (by omega)) c_)
    refine vx_ldc (v := 65536) IG wK_R_21 dc_R_at_14 ?_
    refine vx_sipush (v := 8200) IG dc_R_at_16 (by decide) ?_
    refine vx_iload_n IG dc_R_at_19 rfl 0 rfl ?_
    refine vx_bipush (v := 16) IG dc_R_at_20 (by decide) ?_
    refine vx_isub IG dc_R_at_22 ?_
    refine vx_topi (y := nI (r - 16)) (pk_sub (b := 16) (by omega)) ?_
    refine vx_imul IG dc_R_at_23 ?_
    refine vx_topi (y := nI (8200 * (r - 16))) (pk_mul _ _) ?_
    refine vx_iadd IG dc_R_at_24 ?_
    refine vx_topi (y := nI (65536 + (8200 * (r - 16)))) (nI_add _ _) ?_
    refine vx_ret (some (.int (nI (65536 + (8200 * (r - 16)))))) RG (vx_endi (by first | rfl | decide) dc_R_at_25) rfl ?_
    exact ⟨by rw [show rt r = 65536 + 8200 * (r - 16) from if_neg y], rfl, rfl, rfl⟩
set_option maxRecDepth 100000 in
set_option maxHeartbeats 8000000 in
theorem cR_trim (LR : rlay q h0) (ht2 : tys[2]? = some (cZ, .boolean)) (ht3 : tys[3]? = some (cI, .int)) (hd : d < 24) (hsz : sz ≤ rcap d) (hdg : ∀ k, k < sz → f (rt d + k) = nI (dg 65536 N k)) (hN : N < 65536 ^ sz) : vx_M l D vcl tys my_R_trim lw_gd (rm_ 1 0 0 20) [.ref (q 0), .int (nI d), .int (nI sz)] (rH cI cZ q h0 f g s) (fun v h' k n => v = none ∧ k = 0 ∧ n = 0 ∧ h' = rH cI cZ q h0 f (upd g d (nI (nd 65536 N))) s) := by
  refine vx_M.ofV (cc := bc_R_trim) (maxL := 4) (ret := none) (own := rR) false rfl (by decide +kernel) wC_R_trim (fun q => by cases q) (Nat.le_of_ble_eq_true rfl) (fun A H0 G IG RG => ?_)
  show vx_V _ _ _ _ _ _ _ _ _ 0 [(0, .ref (q 0)), (1, .int (nI d)), (2, .int (nI sz))] []
  have hc := rcap_4 d
  refine vx_iload_n IG dc_R_trim_0 rfl 2 rfl ?_
  refine vx_istore_n (lv' := [(3, .int (nI sz)), (0, .ref (q 0)), (1, .int (nI d)), (2, .int (nI sz))]) IG dc_R_trim_1 rfl (by decide) rfl ?_
  have loop : ∀ (c k n : Nat), c ≤ sz → N < 65536 ^ c → k = 0 → n = 0 → vx_V D vcl A H0 4 G (rH cI cZ q h0 f g s) k n 2 [(3, .int (nI c)), (0, .ref (q 0)), (1, .int (nI d)), (2, .int (nI sz))] [] := by
    intro c
    induction c with
    | zero =>
      intro k n hc hN hk hn
      subst hk hn
      refine vx_iload_n IG dc_R_trim_2 rfl 0 rfl ?_
      refine vx_if_le (tgt := 28) IG dc_R_trim_3 (by decide) (fun _ => ?_) (fun c_ => absurd (by decide) c_)
      refine vx_aload_n IG dc_R_trim_28 rfl 1 rfl ?_
      refine vx_get IG (ro_M LR) rfl 1 (by decide) inR wF_R_14 rfl rfl dc_R_trim_29 ?_
      refine vx_iload_n IG dc_R_trim_32 rfl 2 rfl ?_
      refine vx_iload_n IG dc_R_trim_33 rfl 0 rfl ?_
      refine rr_nst IG LR ht3 hd (g' := upd g d (nI 0)) rfl dc_R_trim_34 ?_
      refine vx_ret none RG (vx_endv dc_R_trim_35) rfl ?_
      have h0 : N = 0 := by rw [Nat.pow_zero] at hN; omega
      exact ⟨rfl, rfl, rfl, by rw [h0]; rfl⟩
    | succ c ih =>
      intro k n hc hN hk hn
      subst hk hn
      refine vx_iload_n IG dc_R_trim_2 rfl 0 rfl ?_
      refine vx_if_le (tgt := 28) IG dc_R_trim_3 (by decide) (fun c_ => absurd c_ (fun z => absurd (nI_lt (a := 0) (b := c + 1) (by omega) (by omega)) (Int32.not_lt.mpr z))) (fun _ => ?_)
      refine vx_aload_n IG dc_R_trim_6 rfl 1 rfl ?_
      refine vx_get IG (ro_M LR) rfl 0 (by decide) inR wF_R_8 rfl rfl dc_R_trim_7 ?_
      refine vx_iload_n IG dc_R_trim_10 rfl 2 rfl ?_
      refine vx_callS (As := [.int (nI d)]) (st := [.ref (q 1)]) IG lw_good (cR_at _ d hd) wC_R_at wL_R_22 wT_R_at wX_R 1 (by decide +kernel) rfl ⟨Nat.le_of_ble_eq_true rfl, Nat.le_of_ble_eq_true rfl⟩ ⟨(by dsimp only [rm_]; omega), (by dsimp only [rm_]; omega)⟩ rfl (Nat.le_of_ble_eq_true rfl) dc_R_trim_11 (fun v h k_ n_ hq => ?_)
      obtain ⟨rfl, rfl, rfl, rfl⟩ := hq
      show vx_V _ _ _ _ _ _ _ _ _ 14 [(3, .int (nI (c + 1))), (0, .ref (q 0)), (1, .int (nI d)), (2, .int (nI sz))] [.int (nI (rt d)), .ref (q 1)]
      refine vx_iload_n IG dc_R_trim_14 rfl 0 rfl ?_
      refine vx_iadd IG dc_R_trim_15 ?_
      refine vx_topi (y := nI ((rt d) + (c + 1))) (nI_add _ _) ?_
      refine vx_iconst (v := 1) IG dc_R_trim_16 (by decide) ?_
      refine vx_isub IG dc_R_trim_17 ?_
      refine vx_topi (y := nI (rt d + c)) (by rw [show rt d + (c + 1) = rt d + c + 1 from rfl]; exact nI_pred _) ?_
      refine rr_mld IG LR ht3 (rt_in hd (by omega)) (x := nI (dg 65536 N c)) (hdg c (by omega)) dc_R_trim_18 ?_
      have hl := dg_lt b16 N c
      by_cases z : dg 65536 N c = 0
      · refine vx_if_ne (tgt := 28) IG dc_R_trim_19 (by decide) (fun c_ => absurd (by rw [z]; rfl) c_) (fun _ => ?_)
        refine vx_iinc (q := 0) (v := nI c) (lv' := [(3, .int (nI c)), (0, .ref (q 0)), (1, .int (nI d)), (2, .int (nI sz))]) IG dc_R_trim_22 rfl (pk_m1 c) (by decide) rfl ?_
        refine vx_goto (tgt := 2) IG dc_R_trim_25 (by decide) ?_
        refine ih _ _ (by omega) ?_ rfl rfl
        have h1 := md_split 65536 N c
        rw [z, Nat.mul_zero, Nat.add_zero, Nat.mod_eq_of_lt hN] at h1
        rw [h1]
        exact Nat.mod_lt _ (bp_pos b16 c)
      · refine vx_if_ne (tgt := 28) IG dc_R_trim_19 (by decide) (fun _ => ?_) (fun c_ => absurd c_ (nI_ne (by omega) (b := 0) (by decide) z))
        refine vx_aload_n IG dc_R_trim_28 rfl 1 rfl ?_
        refine vx_get IG (ro_M LR) rfl 1 (by decide) inR wF_R_14 rfl rfl dc_R_trim_29 ?_
        refine vx_iload_n IG dc_R_trim_32 rfl 2 rfl ?_
        refine vx_iload_n IG dc_R_trim_33 rfl 0 rfl ?_
        refine rr_nst IG LR ht3 hd (g' := upd g d (nI (c + 1))) rfl dc_R_trim_34 ?_
        refine vx_ret none RG (vx_endv dc_R_trim_35) rfl ?_
        have h1 : nd 65536 N = c + 1 := by
          have h2 := (nd_le b16).mpr hN
          have h3 : c < nd 65536 N := (nd_lt b16).mpr (by
            rcases Nat.lt_or_ge N (65536 ^ c) with y | y
            · exact absurd (dg_big y) z
            · exact y)
          omega
        exact ⟨rfl, rfl, rfl, by rw [h1]⟩
  exact loop sz _ _ (Nat.le_refl _) hN rfl rfl
set_option maxRecDepth 100000 in
set_option maxHeartbeats 8000000 in
theorem cR_digit (LR : rlay q h0) (ht2 : tys[2]? = some (cZ, .boolean)) (ht3 : tys[3]? = some (cI, .int)) (ha : a < 24) {k : Nat} (hk : k < 2 ^ 31) (hg : g a = nI (nd 65536 N)) (hc : nd 65536 N ≤ rcap a) (hdg : k < nd 65536 N → f (rt a + k) = nI (dg 65536 N k)) : vx_M l D vcl tys my_R_digit lw_gd (rm_ 1 0 0 20) [.ref (q 0), .int (nI a), .int (nI k)] (rH cI cZ q h0 f g s) (rval (rH cI cZ q h0 f g s) (nI (dg 65536 N k))) := by
  refine vx_M.ofV (cc := bc_R_digit) (maxL := 3) (ret := (some .int)) (own := rR) false rfl (by decide +kernel) wC_R_digit (fun q => by cases q) (Nat.le_of_ble_eq_true rfl) (fun A H0 G IG RG => ?_)
  show vx_V _ _ _ _ _ _ _ _ _ 0 [(0, .ref (q 0)), (1, .int (nI a)), (2, .int (nI k))] []
  have hc4 := rcap_4 a
  refine vx_iload_n IG dc_R_digit_0 rfl 2 rfl ?_
  refine vx_aload_n IG dc_R_digit_1 rfl 0 rfl ?_
  refine vx_get IG (ro_M LR) rfl 1 (by decide) inR wF_R_14 rfl rfl dc_R_digit_2 ?_
  refine vx_iload_n IG dc_R_digit_5 rfl 1 rfl ?_
  refine rr_nld IG LR ht3 ha (x := nI (nd 65536 N)) hg dc_R_digit_6 ?_
  by_cases z : k < nd 65536 N
  · refine vx_icmp_ge (tgt := 24) IG dc_R_digit_7 (by decide) (fun c_ => absurd c_ (fun y => absurd (nI_lt z (by omega)) (Int32.not_lt.mpr y))) (fun _ => ?_)
    refine vx_aload_n IG dc_R_digit_10 rfl 0 rfl ?_
    refine vx_get IG (ro_M LR) rfl 0 (by decide) inR wF_R_8 rfl rfl dc_R_digit_11 ?_
    refine vx_iload_n IG dc_R_digit_14 rfl 1 rfl ?_
    refine vx_callS (As := [.int (nI a)]) (st := [.ref (q 1)]) IG lw_good (cR_at _ a ha) wC_R_at wL_R_22 wT_R_at wX_R 1 (by decide +kernel) rfl ⟨Nat.le_of_ble_eq_true rfl, Nat.le_of_ble_eq_true rfl⟩ ⟨(by dsimp only [rm_]; omega), (by dsimp only [rm_]; omega)⟩ rfl (Nat.le_of_ble_eq_true rfl) dc_R_digit_15 (fun v h k_ n_ hq => ?_)
    obtain ⟨rfl, rfl, rfl, rfl⟩ := hq
    show vx_V _ _ _ _ _ _ _ _ _ 18 [(0, .ref (q 0)), (1, .int (nI a)), (2, .int (nI k))] [.int (nI (rt a)), .ref (q 1)]
    refine vx_iload_n IG dc_R_digit_18 rfl 2 rfl ?_
    refine vx_iadd IG dc_R_digit_19 ?_
    refine vx_topi (y := nI ((rt a) + k)) (nI_add _ _) ?_
    refine rr_mld IG LR ht3 (rt_in ha (by omega)) (x := nI (dg 65536 N k)) (hdg z) dc_R_digit_20 ?_
    refine vx_goto (tgt := 25) IG dc_R_digit_21 (by decide) ?_
    refine vx_ret (some (.int (nI (dg 65536 N k)))) RG (vx_endi (by first | rfl | decide) dc_R_digit_25) rfl ?_
    exact ⟨rfl, rfl, rfl, rfl⟩
  · refine vx_icmp_ge (tgt := 24) IG dc_R_digit_7 (by decide) (fun _ => ?_) (fun c_ => absurd (nI_le (by omega) hk) c_)
    refine vx_iconst (v := 0) IG dc_R_digit_24 (by decide) ?_
    refine vx_ret (some (.int 0)) RG (vx_endi (by first | rfl | decide) dc_R_digit_25) rfl ?_
    have h1 : dg 65536 N k = 0 := dg_big ((nd_le b16).mp (by omega))
    exact ⟨by rw [h1]; rfl, rfl, rfl, rfl⟩
set_option maxRecDepth 100000 in
set_option maxHeartbeats 8000000 in
theorem cR_move (LR : rlay q h0) (ht2 : tys[2]? = some (cZ, .boolean)) (ht3 : tys[3]? = some (cI, .int)) (Ha : rv f g a N) (hd : d < 24) (ha : a < 24) (hne : a ≠ d) (hsz : nd 65536 N ≤ rcap d) : vx_M l D vcl tys my_R_move lw_gd (rm_ 1 0 0 20) [.ref (q 0), .int (nI d), .int (nI a)] (rH cI cZ q h0 f g s) (rdone cI cZ q h0 f g s d N) := by
  refine vx_M.ofV (cc := bc_R_move) (maxL := 4) (ret := none) (own := rR) false rfl (by decide +kernel) wC_R_move (fun q => by cases q) (Nat.le_of_ble_eq_true rfl) (fun A H0 G IG RG => ?_)
  show vx_V _ _ _ _ _ _ _ _ _ 0 [(0, .ref (q 0)), (1, .int (nI d)), (2, .int (nI a))] []
  obtain ⟨hga, hca, hfa⟩ := Ha
  have hc4 := rcap_4 d
  refine vx_iconst (v := 0) IG dc_R_move_0 (by decide) ?_
  refine vx_istore_n (lv' := [(3, .int 0), (0, .ref (q 0)), (1, .int (nI d)), (2, .int (nI a))]) IG dc_R_move_1 rfl (by decide) rfl ?_
  have loop : ∀ (j c k n : Nat), c + j = nd 65536 N → k = 0 → n = 0 → vx_V D vcl A H0 4 G (rH cI cZ q h0 (pf f (rt d) (dg 65536 N) c) g s) k n 2 [(3, .int (nI c)), (0, .ref (q 0)), (1, .int (nI d)), (2, .int (nI a))] [] := by
    intro j
    induction j with
    | zero =>
      intro c k n hc hk hn
      subst hk hn
      refine vx_iload_n IG dc_R_move_2 rfl 0 rfl ?_
      refine vx_aload_n IG dc_R_move_3 rfl 1 rfl ?_
      refine vx_get IG (ro_M LR) rfl 1 (by decide) inR wF_R_14 rfl rfl dc_R_move_4 ?_
      refine vx_iload_n IG dc_R_move_7 rfl 3 rfl ?_
      refine rr_nld IG LR ht3 ha (x := nI (nd 65536 N)) hga dc_R_move_8 ?_
      refine vx_icmp_ge (tgt := 40) IG dc_R_move_9 (by decide) (fun _ => ?_) (fun c_ => absurd (nI_le (by omega) (by omega)) c_)
      refine vx_aload_n IG dc_R_move_40 rfl 1 rfl ?_
      refine vx_get IG (ro_M LR) rfl 1 (by decide) inR wF_R_14 rfl rfl dc_R_move_41 ?_
      refine vx_iload_n IG dc_R_move_44 rfl 2 rfl ?_
      refine vx_aload_n IG dc_R_move_45 rfl 1 rfl ?_
      refine vx_get IG (ro_M LR) rfl 1 (by decide) inR wF_R_14 rfl rfl dc_R_move_46 ?_
      refine vx_iload_n IG dc_R_move_49 rfl 3 rfl ?_
      refine rr_nld IG LR ht3 ha (x := nI (nd 65536 N)) hga dc_R_move_50 ?_
      refine rr_nst IG LR ht3 hd (g' := upd g d (nI (nd 65536 N))) rfl dc_R_move_51 ?_
      refine vx_ret none RG (vx_endv dc_R_move_52) rfl ?_
      refine ⟨rfl, rfl, rfl, _, _, rfl, ?_⟩
      rw [show c = nd 65536 N by omega]
      exact rs_pw hsz (lt_nd b16 _)
    | succ j ih =>
      intro c k n hc hk hn
      subst hk hn
      refine vx_iload_n IG dc_R_move_2 rfl 0 rfl ?_
      refine vx_aload_n IG dc_R_move_3 rfl 1 rfl ?_
      refine vx_get IG (ro_M LR) rfl 1 (by decide) inR wF_R_14 rfl rfl dc_R_move_4 ?_
      refine vx_iload_n IG dc_R_move_7 rfl 3 rfl ?_
      refine rr_nld IG LR ht3 ha (x := nI (nd 65536 N)) hga dc_R_move_8 ?_
      refine vx_icmp_ge (tgt := 40) IG dc_R_move_9 (by decide) (fun c_ => absurd c_ (fun y => absurd (nI_lt (a := c) (b := nd 65536 N) (by omega) (by omega)) (Int32.not_lt.mpr y))) (fun _ => ?_)
      refine vx_aload_n IG dc_R_move_12 rfl 1 rfl ?_
      refine vx_get IG (ro_M LR) rfl 0 (by decide) inR wF_R_8 rfl rfl dc_R_move_13 ?_
      refine vx_iload_n IG dc_R_move_16 rfl 2 rfl ?_
      refine vx_callS (As := [.int (nI d)]) (st := [.ref (q 1)]) IG lw_good (cR_at _ d hd) wC_R_at wL_R_22 wT_R_at wX_R 1 (by decide +kernel) rfl ⟨Nat.le_of_ble_eq_true rfl, Nat.le_of_ble_eq_true rfl⟩ ⟨(by dsimp only [rm_]; omega), (by dsimp only [rm_]; omega)⟩ rfl (Nat.le_of_ble_eq_true rfl) dc_R_move_17 (fun v h k_ n_ hq => ?_)
      obtain ⟨rfl, rfl, rfl, rfl⟩ := hq
      show vx_V _ _ _ _ _ _ _ _ _ 20 [(3, .int (nI c)), (0, .ref (q 0)), (1, .int (nI d)), (2, .int (nI a))] [.int (nI (rt d)), .ref (q 1)]
      refine vx_iload_n IG dc_R_move_20 rfl 0 rfl ?_
      refine vx_iadd IG dc_R_move_21 ?_
      refine vx_topi (y := nI ((rt d) + c)) (nI_add _ _) ?_
      refine vx_aload_n IG dc_R_move_22 rfl 1 rfl ?_
      refine vx_get IG (ro_M LR) rfl 0 (by decide) inR wF_R_8 rfl rfl dc_R_move_23 ?_
      refine vx_iload_n IG dc_R_move_26 rfl 3 rfl ?_
      refine vx_callS (As := [.int (nI a)]) (st := [.ref (q 1), .int (nI ((rt d) + c)), .ref (q 1)]) IG lw_good (cR_at _ a ha) wC_R_at wL_R_22 wT_R_at wX_R 1 (by decide +kernel) rfl ⟨Nat.le_of_ble_eq_true rfl, Nat.le_of_ble_eq_true rfl⟩ ⟨(by dsimp only [rm_]; omega), (by dsimp only [rm_]; omega)⟩ rfl (Nat.le_of_ble_eq_true rfl) dc_R_move_27 (fun v h k_ n_ hq => ?_)
      obtain ⟨rfl, rfl, rfl, rfl⟩ := hq
      show vx_V _ _ _ _ _ _ _ _ _ 30 [(3, .int (nI c)), (0, .ref (q 0)), (1, .int (nI d)), (2, .int (nI a))] [.int (nI (rt a)), .ref (q 1), .int (nI ((rt d) + c)), .ref (q 1)]
      refine vx_iload_n IG dc_R_move_30 rfl 0 rfl ?_
      refine vx_iadd IG dc_R_move_31 ?_
      refine vx_topi (y := nI ((rt a) + c)) (nI_add _ _) ?_
      refine rr_mld IG LR ht3 (rt_in ha (by omega)) (x := nI (dg 65536 N c)) (by rw [pf_row (Or.inl hne) ha hd (by omega) (by omega)]; exact hfa c (by omega)) dc_R_move_32 ?_
      refine rr_mst IG LR ht3 (rt_in hd (by omega)) (f' := pf f (rt d) (dg 65536 N) (c + 1)) (pf_s _ _ _ _) dc_R_move_33 ?_
      refine vx_iinc (q := 0) (v := nI (c + 1)) (lv' := [(3, .int (nI (c + 1))), (0, .ref (q 0)), (1, .int (nI d)), (2, .int (nI a))]) IG dc_R_move_34 rfl (nI_1 c) (by decide) rfl ?_
      refine vx_goto (tgt := 2) IG dc_R_move_37 (by decide) ?_
      exact ih (c + 1) _ _ (by omega) rfl rfl
  have hl := loop (nd 65536 N) 0 0 0 (by omega) rfl rfl
  rw [pf_0] at hl
  exact hl
end
