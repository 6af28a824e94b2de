/-! the mill: its world -/
/-- 1 where a number is below 0 -/
def sgI (z : Int) : Int32 := if z < 0 then 1 else 0
theorem sgI_01 (z : Int) : sgI z = 0 ∨ sgI z = 1 := by
  unfold sgI
  split
  · exact Or.inr rfl
  · exact Or.inl rfl
theorem sgI_neg {z : Int} (h : z < 0) : sgI z = 1 := if_pos h
theorem sgI_pos {z : Int} (h : ¬ z < 0) : sgI z = 0 := if_neg h
/-- the limit: sizes are below 2^65536 -/
def lim (N : Nat) : Prop := N < 2 ^ 65536
theorem lim_bl {N : Nat} : lim N ↔ bl N ≤ 65536 := bl_le.symm
theorem lim_nd {N : Nat} : lim N ↔ nd 4294967296 N ≤ 2048 := by
  rw [nd_le bB1, bp32]
  exact Iff.rfl
theorem lim_mono {M N : Nat} (h : M ≤ N) (hN : lim N) : lim M := Nat.lt_of_le_of_lt h hN
theorem lim_0 : lim 0 := Nat.pow_pos (by decide)
/-- the pool of the mill -/
def pl (ad : Nat → Nat) : List Nat := (List.range 30).map ad
def inj (ad : Nat → Nat) : Prop := ∀ i j, i < 36 → j < 36 → ad i = ad j → i = j
theorem pl_mem {ad : Nat → Nat} {i : Nat} (h : i < 30) : ad i ∈ pl ad := List.mem_map.mpr ⟨i, List.mem_range.mpr h, rfl⟩
theorem nodup_map {ad : Nat → Nat} : ∀ (L : List Nat), L.Nodup → (∀ i ∈ L, ∀ j ∈ L, ad i = ad j → i = j) → (L.map ad).Nodup
  | [], _, _ => List.nodup_nil
  | a :: L, hn, hi => by
    rw [List.map_cons, List.nodup_cons]
    rw [List.nodup_cons] at hn
    refine ⟨fun q => ?_, nodup_map L hn.2 (fun i h1 j h2 => hi i (List.mem_cons_of_mem _ h1) j (List.mem_cons_of_mem _ h2))⟩
    obtain ⟨b, hb, e⟩ := List.mem_map.mp q
    have := hi b (List.mem_cons_of_mem _ hb) a (List.mem_cons_self) e
    exact hn.1 (this ▸ hb)
theorem pl_nodup {ad : Nat → Nat} (hi : inj ad) : (pl ad).Nodup := nodup_map _ List.nodup_range (fun i h1 j h2 e => hi i j (by have := List.mem_range.mp h1; omega) (by have := List.mem_range.mp h2; omega) e)
theorem inj_ne {ad : Nat → Nat} (hi : inj ad) {i j : Nat} (h1 : i < 36) (h2 : j < 36) (h : i ≠ j) : ad i ≠ ad j := fun q => h (hi i j h1 h2 q)
/-- what never changes of the mill -/
def lay (cQ : ClassId) (ad : Nat → Nat) (r0 : vx_h) : Prop := inj ad ∧ r0 (ad 30) = some (.inr (3, [.ref (ad 31), .ref (ad 32), .ref (ad 16), .ref (ad 17), .ref (ad 18), .ref (ad 33), .ref (ad 34)])) ∧ (∃ f : Nat → Option Nat, r0 (ad 31) = some (.inl (cQ, 16, .inr (.inr (.inr (.inr f))))) ∧ ∀ j, j < 16 → f j = some (ad j)) ∧ r0 (ad 33) = some (.inr (0, [.ref (ad 19), .ref (ad 20), .ref (ad 21)])) ∧ r0 (ad 35) = some (.inr (0, [.ref (ad 27), .ref (ad 28), .ref (ad 29)]))
/-- the rest of the heap as the mill sees it: the signs and Euclid's own object change -/
def rMl (cZ : ClassId) (ad : Nat → Nat) (r0 : vx_h) (X : Nat → Int) (b : Int32) (x1 x2 x3 x4 : Int) : vx_h := vx_up (vx_up r0 (ad 32) (.inl (cZ, 16, .inl (fun i => sgI (X i))))) (ad 34) (eOb (ad 22) (ad 23) (ad 24) (ad 25) (ad 26) (ad 35) b x1 x2 x3 x4)
/-- the mill's pool by places, with Euclid's object as it stands -/
def mwE (cJ cZ : ClassId) (ad : Nat → Nat) (r0 : vx_h) (W : Nat → Nat) (X : Nat → Int) (b : Int32) (x1 x2 x3 x4 : Int) (h : vx_h) (C S : Nat) : Prop := (∃ V, pool cJ (pl ad) (rMl cZ ad r0 X b x1 x2 x3 x4) V h C S ∧ ∀ i, i < 30 → V (ad i) = W i) ∧ ∀ i, i < 16 → W i = (X i).natAbs ∧ lim (W i)
def mw (cJ cZ : ClassId) (ad : Nat → Nat) (r0 : vx_h) (W : Nat → Nat) (X : Nat → Int) (h : vx_h) (C S : Nat) : Prop := ∃ (b : Int32) (x1 x2 x3 x4 : Int), mwE cJ cZ ad r0 W X b x1 x2 x3 x4 h C S
/-- the end of an inner method -/
def mend (cJ cZ : ClassId) (ad : Nat → Nat) (r0 : vx_h) (W : Nat → Nat) (X : Nat → Int) (C S : Nat) (v0 : Option Value) : Option Value → vx_h → Nat → Nat → Prop := fun v h' k m => v = v0 ∧ ∃ C' S', mw cJ cZ ad r0 W X h' C' S' ∧ k + C' ≤ C ∧ m + S' ≤ S
/-- the end of a method that answers -/
def mpub (cJ cZ : ClassId) (ad : Nat → Nat) (r0 : vx_h) (X : Nat → Int) (C S : Nat) (v0 : Int32) : Option Value → vx_h → Nat → Nat → Prop := fun v h' k m => v = some (.int v0) ∧ ∃ W' C' S', mw cJ cZ ad r0 W' X h' C' S' ∧ k + C' ≤ C ∧ m + S' ≤ S
section
variable {l : Launch} {D : va_G} {tys : List (ClassId × FieldType)} {cJ cQ cZ : ClassId} {ad : Nat → Nat} {r0 h : vx_h} {W : Nat → Nat} {X : Nat → Int} {C S : Nat} {R : Room} {own : String} {cc : ByteArray} {nL : Nat} {ct : Bool} {A : Nat → Prop} {H0 : Heap} {G : vx_G} {k n pc : Nat} {lv : List (Nat × Value)} {st : List Value} {i j p : Nat}
theorem mw_W (HM : mw cJ cZ ad r0 W X h C S) (hi : i < 16) : W i = (X i).natAbs ∧ lim (W i) := by
  obtain ⟨b, x1, x2, x3, x4, H, hW⟩ := HM
  exact hW i hi
theorem mw_r (HM : mw cJ cZ ad r0 W X h C S) (h1 : p ≠ ad 32) (h2 : p ≠ ad 34) {e : va_E} (he : r0 p = some e) : h p = some e := by
  obtain ⟨b, x1, x2, x3, x4, ⟨V, HP, hV⟩, hW⟩ := HM
  refine pool_r HP ?_
  unfold rMl
  rw [vx_up_n h2, vx_up_n h1]
  exact he
theorem mo_M (LY : lay cQ ad r0) (HM : mw cJ cZ ad r0 W X h C S) : h (ad 30) = some (.inr (3, [.ref (ad 31), .ref (ad 32), .ref (ad 16), .ref (ad 17), .ref (ad 18), .ref (ad 33), .ref (ad 34)])) := mw_r HM (inj_ne LY.1 (by decide) (by decide) (by decide)) (inj_ne LY.1 (by decide) (by decide) (by decide)) LY.2.1
theorem mo_D (LY : lay cQ ad r0) (HM : mw cJ cZ ad r0 W X h C S) : h (ad 33) = some (.inr (0, [.ref (ad 19), .ref (ad 20), .ref (ad 21)])) := mw_r HM (inj_ne LY.1 (by decide) (by decide) (by decide)) (inj_ne LY.1 (by decide) (by decide) (by decide)) LY.2.2.2.1
theorem mo_W (HM : mw cJ cZ ad r0 W X h C S) (hi : i < 30) : ∃ e, h (ad i) = some (.inr (2, e)) := by
  obtain ⟨b, x1, x2, x3, x4, ⟨V, HP, hV⟩, hW⟩ := HM
  exact pool_o HP (pl_mem hi)
theorem mr_aal (IG : vx_I l D vcl tys R own cc nL lw_gd ct A H0 G) (LY : lay cQ ad r0) (HM : mw cJ cZ ad r0 W X h C S) (hj : j < 16) (ht1 : tys[1]? = some (cQ, .object "SignedMill$Whole")) (hd : decode cc pc = .ok (.aaload, 1)) (K : vx_V D vcl A H0 nL G h k n (pc + 1) lv (.ref (ad j) :: st)) : vx_V D vcl A H0 nL G h k n pc lv (.int (nI j) :: .ref (ad 31) :: st) := by
  obtain ⟨f, e1, e2⟩ := LY.2.2.1
  refine vx_aald IG (mw_r HM (inj_ne LY.1 (by decide) (by decide) (by decide)) (inj_ne LY.1 (by decide) (by decide) (by decide)) e1) 1 ht1 (vp_in_nI hj (by decide)) ?_ hd K
  rw [nI_clamp (by omega)]
  exact e2 j hj
theorem mw_32 (LY : lay cQ ad r0) (HM : mw cJ cZ ad r0 W X h C S) : h (ad 32) = some (.inl (cZ, 16, .inl (fun i => sgI (X i)))) := by
  obtain ⟨b, x1, x2, x3, x4, ⟨V, HP, hV⟩, hW⟩ := HM
  refine pool_r HP ?_
  unfold rMl
  rw [vx_up_n (inj_ne LY.1 (by decide) (by decide) (by decide)), vx_up_s]
theorem mr_zal (IG : vx_I l D vcl tys R own cc nL lw_gd ct A H0 G) (LY : lay cQ ad r0) (HM : mw cJ cZ ad r0 W X h C S) (hj : j < 16) (ht2 : tys[2]? = some (cZ, .boolean)) (hd : decode cc pc = .ok (.baload, 1)) (K : vx_V D vcl A H0 nL G h k n (pc + 1) lv (.int (sgI (X j)) :: st)) : vx_V D vcl A H0 nL G h k n pc lv (.int (nI j) :: .ref (ad 32) :: st) := by
  refine vx_zald IG (mw_32 LY HM) 2 ht2 (vp_in_nI hj (by decide)) ?_ hd K
  rw [nI_clamp (by omega)]
/-- a number of the pool above the registers is changed -/
theorem mw_up {b : Int32} {x1 x2 x3 x4 : Int} {V : Nat → Nat} {N : Nat} (hi : inj ad) (h16 : 16 ≤ i) (h30 : i < 30) (HP : pool cJ (pl ad) (rMl cZ ad r0 X b x1 x2 x3 x4) (va_up V (ad i) N) h C S) (hV : ∀ i, i < 30 → V (ad i) = W i) (hW : ∀ i, i < 16 → W i = (X i).natAbs ∧ lim (W i)) : mw cJ cZ ad r0 (va_up W i N) X h C S := by
  refine ⟨b, x1, x2, x3, x4, ⟨_, HP, fun q hq => ?_⟩, fun q hq => ?_⟩
  · by_cases z : q = i
    · subst z
      rw [va_up_self, va_up_self]
    · rw [va_up_ne _ _ (inj_ne hi (by omega) (by omega) z), va_up_ne _ _ z]
      exact hV q hq
  · rw [va_up_ne _ _ (by omega)]
    exact hW q hq
theorem mend_up {b : Int32} {x1 x2 x3 x4 : Int} {V : Nat → Nat} {N : Nat} (hi : inj ad) (h16 : 16 ≤ i) (h30 : i < 30) (hV : ∀ i, i < 30 → V (ad i) = W i) (hW : ∀ i, i < 16 → W i = (X i).natAbs ∧ lim (W i)) {v : Option Value} {h' : vx_h} {k n : Nat} (hq : pend cJ (pl ad) (rMl cZ ad r0 X b x1 x2 x3 x4) (va_up V (ad i) N) C S none v h' k n) : mend cJ cZ ad r0 (va_up W i N) X C S none v h' k n := by
  obtain ⟨e, C', S', HP, hk, hm⟩ := hq
  exact ⟨e, C', S', mw_up hi h16 h30 HP hV hW, hk, hm⟩
theorem mW_load (LY : lay cQ ad r0) (HM : mw cJ cZ ad r0 W X h C S) (i : Nat) (h16 : 16 ≤ i) (h30 : i < 30) (ht : tys[0]? = some (cJ, .long)) {b : Nat} (hb : b < 18446744073709551616) : vx_M l D vcl tys my_W_load lw_gd (rm_ 1 C S 21) [.ref (ad i), .long (lN b)] h (mend cJ cZ ad r0 (va_up W i b) X C S none) := by
  obtain ⟨b', x1, x2, x3, x4, ⟨V, HP, hV⟩, hW⟩ := HM
  exact vx_M.post (cW_load HP (pl_mem h30) ht hb) (fun _ _ _ _ => mend_up LY.1 h16 h30 hV hW)
theorem mW_copy (LY : lay cQ ad r0) (HM : mw cJ cZ ad r0 W X h C S) (i j : Nat) (h16 : 16 ≤ i) (h30 : i < 30) (hj : j < 30) (ht : tys[0]? = some (cJ, .long)) (hs : nd 4294967296 (W j) ≤ 4100) : vx_M l D vcl tys my_W_copy lw_gd (rm_ 3 C S 64) [.ref (ad i), .ref (ad j)] h (mend cJ cZ ad r0 (va_up W i (W j)) X C S none) := by
  obtain ⟨b', x1, x2, x3, x4, ⟨V, HP, hV⟩, hW⟩ := HM
  rw [← hV j hj] at hs ⊢
  exact vx_M.post (cW_copy HP (pl_nodup LY.1) (pl_mem h30) (pl_mem hj) ht hs) (fun _ _ _ _ => mend_up LY.1 h16 h30 hV hW)
theorem mW_sum (LY : lay cQ ad r0) (HM : mw cJ cZ ad r0 W X h C S) (i j p : Nat) (h16 : 16 ≤ i) (h30 : i < 30) (hj : j < 30) (hp : p < 30) (ht : tys[0]? = some (cJ, .long)) (hs : nd 4294967296 (W j) ≤ 4099) (hs2 : nd 4294967296 (W p) ≤ 4099) : vx_M l D vcl tys my_W_sum lw_gd (rm_ 3 C S 64) [.ref (ad i), .ref (ad j), .ref (ad p)] h (mend cJ cZ ad r0 (va_up W i (W j + W p)) X C S none) := by
  obtain ⟨b', x1, x2, x3, x4, ⟨V, HP, hV⟩, hW⟩ := HM
  rw [← hV j hj, ← hV p hp]
  rw [← hV j hj] at hs
  rw [← hV p hp] at hs2
  exact vx_M.post (cW_sum HP (pl_nodup LY.1) (pl_mem h30) (pl_mem hj) (pl_mem hp) ht hs hs2) (fun _ _ _ _ => mend_up LY.1 h16 h30 hV hW)
theorem mW_difference (LY : lay cQ ad r0) (HM : mw cJ cZ ad r0 W X h C S) (i j p : Nat) (h16 : 16 ≤ i) (h30 : i < 30) (hj : j < 30) (hp : p < 30) (ht : tys[0]? = some (cJ, .long)) (hs : nd 4294967296 (W j) ≤ 4100) (hle : W p ≤ W j) : vx_M l D vcl tys my_W_difference lw_gd (rm_ 3 C S 64) [.ref (ad i), .ref (ad j), .ref (ad p)] h (mend cJ cZ ad r0 (va_up W i (W j - W p)) X C S none) := by
  obtain ⟨b', x1, x2, x3, x4, ⟨V, HP, hV⟩, hW⟩ := HM
  rw [← hV j hj, ← hV p hp]
  rw [← hV j hj] at hs
  rw [← hV j hj, ← hV p hp] at hle
  exact vx_M.post (cW_difference HP (pl_nodup LY.1) (pl_mem h30) (pl_mem hj) (pl_mem hp) ht hs hle) (fun _ _ _ _ => mend_up LY.1 h16 h30 hV hW)
theorem mW_product (LY : lay cQ ad r0) (HM : mw cJ cZ ad r0 W X h C S) (i j p : Nat) (h16 : 16 ≤ i) (h30 : i < 30) (hj : j < 30) (hp : p < 30) (n1 : j ≠ i) (n2 : p ≠ i) (ht : tys[0]? = some (cJ, .long)) (hs : nd 4294967296 (W j) + nd 4294967296 (W p) ≤ 4100) : vx_M l D vcl tys my_W_product lw_gd (rm_ 4 C S 86) [.ref (ad i), .ref (ad j), .ref (ad p)] h (mend cJ cZ ad r0 (va_up W i (W j * W p)) X C S none) := by
  obtain ⟨b', x1, x2, x3, x4, ⟨V, HP, hV⟩, hW⟩ := HM
  rw [← hV j hj, ← hV p hp]
  rw [← hV j hj, ← hV p hp] at hs
  exact vx_M.post (cW_product HP (pl_nodup LY.1) (pl_mem h30) (pl_mem hj) (pl_mem hp) (inj_ne LY.1 (by omega) (by omega) n1) (inj_ne LY.1 (by omega) (by omega) n2) ht hs) (fun _ _ _ _ => mend_up LY.1 h16 h30 hV hW)
theorem mW_raise (LY : lay cQ ad r0) (HM : mw cJ cZ ad r0 W X h C S) (i j : Nat) (h16 : 16 ≤ i) (h30 : i < 30) (hj : j < 30) (ht : tys[0]? = some (cJ, .long)) {n : Nat} (hn : n < 2 ^ 30) (hs : nd 4294967296 (W j) + n / 32 + 1 ≤ 4100) : vx_M l D vcl tys my_W_raise lw_gd (rm_ 3 C S 64) [.ref (ad i), .ref (ad j), .int (nI n)] h (mend cJ cZ ad r0 (va_up W i (W j * 2 ^ n)) X C S none) := by
  obtain ⟨b', x1, x2, x3, x4, ⟨V, HP, hV⟩, hW⟩ := HM
  rw [← hV j hj] at hs ⊢
  exact vx_M.post (cW_raise HP (pl_nodup LY.1) (pl_mem h30) (pl_mem hj) ht hn hs) (fun _ _ _ _ => mend_up LY.1 h16 h30 hV hW)
theorem mW_lower (LY : lay cQ ad r0) (HM : mw cJ cZ ad r0 W X h C S) (i j : Nat) (h16 : 16 ≤ i) (h30 : i < 30) (hj : j < 30) (ht : tys[0]? = some (cJ, .long)) {n : Nat} (hn : n < 2 ^ 30) (hs : nd 4294967296 (W j) ≤ 4100) : vx_M l D vcl tys my_W_lower lw_gd (rm_ 3 C S 64) [.ref (ad i), .ref (ad j), .int (nI n)] h (mend cJ cZ ad r0 (va_up W i (W j / 2 ^ n)) X C S none) := by
  obtain ⟨b', x1, x2, x3, x4, ⟨V, HP, hV⟩, hW⟩ := HM
  rw [← hV j hj] at hs ⊢
  exact vx_M.post (cW_lower HP (pl_nodup LY.1) (pl_mem h30) (pl_mem hj) ht hn hs) (fun _ _ _ _ => mend_up LY.1 h16 h30 hV hW)
theorem mW_repeat (LY : lay cQ ad r0) (HM : mw cJ cZ ad r0 W X h C S) (i : Nat) (h16 : 16 ≤ i) (h30 : i < 30) (ht : tys[0]? = some (cJ, .long)) {b n : Nat} (hb : b < 18446744073709551616) (hn : n ≤ 2050) : vx_M l D vcl tys my_W_repeat lw_gd (rm_ 3 C S 64) [.ref (ad i), .long (lN b), .int (nI n)] h (mend cJ cZ ad r0 (va_up W i (vl 18446744073709551616 (fun _ => b) n)) X C S none) := by
  obtain ⟨b', x1, x2, x3, x4, ⟨V, HP, hV⟩, hW⟩ := HM
  exact vx_M.post (cW_repeat HP (pl_nodup LY.1) (pl_mem h30) ht hb hn) (fun _ _ _ _ => mend_up LY.1 h16 h30 hV hW)
theorem cW_clearP {L : List Nat} {r : vx_h} {V : Nat → Nat} (HP : pool cJ L r V h C S) (hp : p ∈ L) : vx_M l D vcl tys my_W_clear lw_gd (rm_ 0 0 0 0) [.ref p] h (pend cJ L r (va_up V p 0) C S none) := by
  obtain ⟨ar, cp, cn, fn, HR, hV, hC, hS⟩ := HP
  refine vx_M.post (cW_clear HR hp) (fun v h' k m hq => ?_)
  obtain ⟨rfl, rfl, rfl, HR⟩ := hq
  refine ⟨rfl, C, S, ⟨ar, cp, va_up cn p 0, fn, HR, fun q hq => ?_, hC, hS⟩, by omega, by omega⟩
  by_cases z : q = p
  · subst z
    rw [va_up_self]
    exact ⟨va_up_self _ _ _, Nat.zero_le _, fun i hi => absurd hi (Nat.not_lt_zero i)⟩
  · rw [va_up_ne _ _ z]
    exact wv_same (hV q hq) rfl (va_up_ne _ _ z) rfl
theorem mW_clear (LY : lay cQ ad r0) (HM : mw cJ cZ ad r0 W X h C S) (i : Nat) (h16 : 16 ≤ i) (h30 : i < 30) : vx_M l D vcl tys my_W_clear lw_gd (rm_ 0 0 0 0) [.ref (ad i)] h (mend cJ cZ ad r0 (va_up W i 0) X C S none) := by
  obtain ⟨b', x1, x2, x3, x4, ⟨V, HP, hV⟩, hW⟩ := HM
  exact vx_M.post (cW_clearP HP (pl_mem h30)) (fun _ _ _ _ => mend_up LY.1 h16 h30 hV hW)
-- readers
theorem mW_isZero (HM : mw cJ cZ ad r0 W X h C S) (i : Nat) (hi : i < 30) : vx_M l D vcl tys my_W_isZero lw_gd (rm_ 0 0 0 0) [.ref (ad i)] h (fun v h' k m => v = some (.int (if W i = 0 then 1 else 0)) ∧ h' = h ∧ k = 0 ∧ m = 0) := by
  obtain ⟨b', x1, x2, x3, x4, ⟨V, HP, hV⟩, hW⟩ := HM
  rw [← hV i hi]
  exact cW_isZeroP HP (pl_mem hi)
theorem mW_bits (HM : mw cJ cZ ad r0 W X h C S) (i : Nat) (hi : i < 30) (ht : tys[0]? = some (cJ, .long)) : vx_M l D vcl tys my_W_bits lw_gd (rm_ 2 0 0 43) [.ref (ad i)] h (fun v h' k m => v = some (.int (nI (bl (W i)))) ∧ h' = h ∧ k = 0 ∧ m = 0) := by
  obtain ⟨b', x1, x2, x3, x4, ⟨V, HP, hV⟩, hW⟩ := HM
  rw [← hV i hi]
  exact cW_bits HP (pl_mem hi) ht
theorem mW_against (HM : mw cJ cZ ad r0 W X h C S) (i j : Nat) (hi : i < 30) (hj : j < 30) (ht : tys[0]? = some (cJ, .long)) : vx_M l D vcl tys my_W_against lw_gd (rm_ 0 0 0 0) [.ref (ad i), .ref (ad j)] h (fun v h' k m => v = some (.int (cmpI (W i) (W j))) ∧ h' = h ∧ k = 0 ∧ m = 0) := by
  obtain ⟨b', x1, x2, x3, x4, ⟨V, HP, hV⟩, hW⟩ := HM
  rw [← hV i hi, ← hV j hj]
  exact cW_against HP (pl_mem hi) (pl_mem hj) ht
theorem mW_isOne (HM : mw cJ cZ ad r0 W X h C S) (i : Nat) (hi : i < 30) (ht : tys[0]? = some (cJ, .long)) {j : Nat} (hj : j < 2 ^ 31) : vx_M l D vcl tys my_W_isOne lw_gd (rm_ 1 0 0 21) [.ref (ad i), .int (nI j)] h (fun v h' k m => v = some (.int (if W i / 2 ^ j % 2 = 1 then 1 else 0)) ∧ h' = h ∧ k = 0 ∧ m = 0) := by
  obtain ⟨b', x1, x2, x3, x4, ⟨V, HP, hV⟩, hW⟩ := HM
  rw [← hV i hi]
  exact cW_isOne HP (pl_mem hi) ht hj
theorem mW_digitAt (HM : mw cJ cZ ad r0 W X h C S) (i : Nat) (hi : i < 30) (ht : tys[0]? = some (cJ, .long)) {j : Nat} (hj : j < 2 ^ 31) : vx_M l D vcl tys my_W_digitAt lw_gd (rm_ 0 0 0 0) [.ref (ad i), .int (nI j)] h (fun v h' k m => v = some (.long (lN (dg 4294967296 (W i) j))) ∧ h' = h ∧ k = 0 ∧ m = 0) := by
  obtain ⟨b', x1, x2, x3, x4, ⟨V, HP, hV⟩, hW⟩ := HM
  obtain ⟨ar, cp, cn, fn, HR, hV2, hC, hS⟩ := HP
  rw [← hV i hi]
  exact cW_digitAt HR (pl_mem hi) ht (hV2 _ (pl_mem hi)) hj
theorem mW_firstDigit (HM : mw cJ cZ ad r0 W X h C S) (i : Nat) (hi : i < 30) (ht : tys[0]? = some (cJ, .long)) : vx_M l D vcl tys my_W_firstDigit lw_gd (rm_ 0 0 0 0) [.ref (ad i)] h (fun v h' k m => h' = h ∧ k = 0 ∧ m = 0 ∧ ∃ j, v = some (.int (nI j)) ∧ (W i = 0 → j = 0) ∧ (0 < W i → j < nd 4294967296 (W i) ∧ dg 4294967296 (W i) j ≠ 0) ∧ ∀ q, q < j → dg 4294967296 (W i) q = 0) := by
  obtain ⟨b', x1, x2, x3, x4, ⟨V, HP, hV⟩, hW⟩ := HM
  rw [← hV i hi]
  exact cW_firstDigit HP (pl_mem hi) ht
theorem mW_lowestOne (HM : mw cJ cZ ad r0 W X h C S) (i : Nat) (hi : i < 30) (ht : tys[0]? = some (cJ, .long)) : vx_M l D vcl tys my_W_lowestOne lw_gd (rm_ 2 0 0 43) [.ref (ad i)] h (fun v h' k m => h' = h ∧ k = 0 ∧ m = 0 ∧ ((W i = 0 ∧ v = some (.int (-1))) ∨ (0 < W i ∧ ∃ t, v = some (.int (nI t)) ∧ t < 32 * nd 4294967296 (W i) ∧ W i % 2 ^ t = 0 ∧ W i / 2 ^ t % 2 = 1))) := by
  obtain ⟨b', x1, x2, x3, x4, ⟨V, HP, hV⟩, hW⟩ := HM
  rw [← hV i hi]
  exact cW_lowestOne HP (pl_mem hi) ht
theorem mW_countOnes (HM : mw cJ cZ ad r0 W X h C S) (i : Nat) (hi : i < 30) (ht : tys[0]? = some (cJ, .long)) : vx_M l D vcl tys my_W_countOnes lw_gd (rm_ 1 0 0 21) [.ref (ad i)] h (fun v h' k m => v = some (.int (nI (pop (W i) (32 * nd 4294967296 (W i))))) ∧ h' = h ∧ k = 0 ∧ m = 0) := by
  obtain ⟨b', x1, x2, x3, x4, ⟨V, HP, hV⟩, hW⟩ := HM
  rw [← hV i hi]
  exact cW_countOnes HP (pl_mem hi) ht
/-- Divider.run on the mill's own divider -/
theorem mD_run (LY : lay cQ ad r0) (HM : mw cJ cZ ad r0 W X h C S) (i j : Nat) (hi : i < 19 ∨ (21 < i ∧ i < 30)) (hj : j < 19 ∨ (21 < j ∧ j < 30)) (ht : tys[0]? = some (cJ, .long)) (hsa : nd 4294967296 (W i) ≤ 4099) (hsb : nd 4294967296 (W j) ≤ 4099) : vx_M l D vcl tys my_D_run lw_gd (rm_ 4 C S 106) [.ref (ad 33), .ref (ad i), .ref (ad j)] h (fun v h' k m => v = none ∧ ∃ (N C' S' : Nat), mw cJ cZ ad r0 (va_up (va_up (va_up W 21 N) 19 (W i / W j)) 20 (W i % W j)) X h' C' S' ∧ k + C' ≤ C ∧ m + S' ≤ S) := by
  obtain ⟨b', x1, x2, x3, x4, ⟨V, HP, hV⟩, hW⟩ := HM
  have ne : ∀ a b, a < 36 → b < 36 → a ≠ b → ad a ≠ ad b := fun a b h1 h2 h3 => inj_ne LY.1 h1 h2 h3
  have hdv : rMl cZ ad r0 X b' x1 x2 x3 x4 (ad 33) = some (.inr (0, [.ref (ad 19), .ref (ad 20), .ref (ad 21)])) := by
    unfold rMl
    rw [vx_up_n (ne _ _ (by decide) (by decide) (by decide)), vx_up_n (ne _ _ (by decide) (by decide) (by decide))]
    exact LY.2.2.2.1
  have hi30 : i < 30 := by omega
  have hj30 : j < 30 := by omega
  rw [← hV i hi30] at hsa
  rw [← hV j hj30] at hsb
  refine vx_M.post (cD_run HP (pl_nodup LY.1) hdv (pl_mem (by decide)) (pl_mem (by decide)) (pl_mem (by decide)) (ne _ _ (by decide) (by decide) (by decide)) (ne _ _ (by decide) (by decide) (by decide)) (ne _ _ (by decide) (by decide) (by decide)) (pl_mem hi30) (pl_mem hj30) (ne _ _ (by omega) (by decide) (by omega)) (ne _ _ (by omega) (by decide) (by omega)) (ne _ _ (by omega) (by decide) (by omega)) (ne _ _ (by omega) (by decide) (by omega)) (ne _ _ (by omega) (by decide) (by omega)) (ne _ _ (by omega) (by decide) (by omega)) ht hsa hsb) (fun v h' k m hq => ?_)
  obtain ⟨e, V', C', S', HP', v1, v2, v3, hk, hm⟩ := hq
  refine ⟨e, V' (ad 21), C', S', ⟨b', x1, x2, x3, x4, ⟨V', HP', fun q hq => ?_⟩, fun q hq => ?_⟩, hk, hm⟩
  · by_cases z0 : q = 20
    · rw [z0, va_up_self, v2, hV i hi30, hV j hj30]
    · rw [va_up_ne _ _ z0]
      by_cases z1 : q = 19
      · rw [z1, va_up_self, v1, hV i hi30, hV j hj30]
      · rw [va_up_ne _ _ z1]
        by_cases z2 : q = 21
        · rw [z2, va_up_self]
        · rw [va_up_ne _ _ z2, v3 (ad q) (ne _ _ (by omega) (by decide) z1) (ne _ _ (by omega) (by decide) z0) (ne _ _ (by omega) (by decide) z2)]
          exact hV q hq
  · rw [va_up_ne _ _ (by omega), va_up_ne _ _ (by omega), va_up_ne _ _ (by omega)]
    exact hW q hq
end
