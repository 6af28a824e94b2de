/-! THE POOL OF WHOLES. L: their addresses; ar, cp, cn, fn: of each its row's address, the row's length, its count, its digits; r: all other tracked cells. iW: the number of the class Whole in the table, cJ: the class of long[] -/
def rw_at (iW : Nat) (cJ : ClassId) (L : List Nat) (r : vx_h) (ar cp : Nat → Nat) (cn : Nat → Int32) (fn : Nat → Nat → Int64) (h : vx_h) : Prop :=
  (∀ (b : Nat) (e : va_E), r b = some e → h b = some e ∧ b ∉ L ∧ ∀ q ∈ L, b ≠ ar q) ∧
  (∀ p ∈ L, h p = some (.inr (iW, [.ref (ar p), .int (cn p)])) ∧ h (ar p) = some (.inl (cJ, cp p, .inr (.inl (fn p)))) ∧ 4 ≤ cp p ∧ cp p ≤ 8200) ∧
  (∀ p q : Nat, p ∈ L → q ∈ L → ar p = ar q → p = q)
section
variable {iW : Nat} {cJ : ClassId} {L : List Nat} {r : vx_h} {ar cp : Nat → Nat} {cn : Nat → Int32} {fn : Nat → Nat → Int64} {h : vx_h} {p : Nat}
theorem rw_obj (H : rw_at iW cJ L r ar cp cn fn h) (hp : p ∈ L) : h p = some (.inr (iW, [.ref (ar p), .int (cn p)])) := (H.2.1 p hp).1
theorem rw_row (H : rw_at iW cJ L r ar cp cn fn h) (hp : p ∈ L) : h (ar p) = some (.inl (cJ, cp p, .inr (.inl (fn p)))) := (H.2.1 p hp).2.1
theorem rw_cap (H : rw_at iW cJ L r ar cp cn fn h) (hp : p ∈ L) : 4 ≤ cp p ∧ cp p ≤ 8200 := (H.2.1 p hp).2.2
theorem rw_ne (H : rw_at iW cJ L r ar cp cn fn h) (hp : p ∈ L) {q : Nat} (hq : q ∈ L) : ar q ≠ p := by
  intro e
  have h1 := rw_row H hq
  rw [e, rw_obj H hp] at h1
  cases h1
theorem rw_r (H : rw_at iW cJ L r ar cp cn fn h) {b : Nat} {e : va_E} (he : r b = some e) : h b = some e := (H.1 b e he).1
theorem rw_cn (H : rw_at iW cJ L r ar cp cn fn h) (hp : p ∈ L) (c : Int32) : rw_at iW cJ L r ar cp (va_up cn p c) fn (vx_up h p (.inr (iW, [.ref (ar p), .int c]))) := by
  refine ⟨fun b e he => ?_, fun q hq => ?_, H.2.2⟩
  · obtain ⟨h1, h2, h3⟩ := H.1 b e he
    refine ⟨?_, h2, h3⟩
    rw [vx_up_n (show b ≠ p from fun z => h2 (by rw [z]; exact hp))]
    exact h1
  · obtain ⟨h1, h2, h3⟩ := H.2.1 q hq
    refine ⟨?_, ?_, h3⟩
    · by_cases z : q = p
      · subst z
        rw [vx_up_s, va_up_self]
      · rw [vx_up_n z, va_up_ne _ _ z]
        exact h1
    · rw [vx_up_n (rw_ne H hp hq)]
      exact h2
theorem rw_fn (H : rw_at iW cJ L r ar cp cn fn h) (hp : p ∈ L) (g : Nat → Int64) : rw_at iW cJ L r ar cp cn (va_up fn p g) (vx_up h (ar p) (.inl (cJ, cp p, .inr (.inl g)))) := by
  refine ⟨fun b e he => ?_, fun q hq => ?_, H.2.2⟩
  · obtain ⟨h1, h2, h3⟩ := H.1 b e he
    refine ⟨?_, h2, h3⟩
    rw [vx_up_n (h3 p hp)]
    exact h1
  · obtain ⟨h1, h2, h3⟩ := H.2.1 q hq
    refine ⟨?_, ?_, h3⟩
    · rw [vx_up_n (fun z => rw_ne H hq hp z.symm)]
      exact h1
    · by_cases z : q = p
      · subst z
        rw [vx_up_s, va_up_self]
      · rw [vx_up_n (fun y => z (H.2.2 q p hq hp y)), va_up_ne _ _ z]
        exact h2
/-- a new row for p -/
theorem rw_new (H : rw_at iW cJ L r ar cp cn fn h) (hp : p ∈ L) {a c : Nat} (ha : h a = none) (hc : 4 ≤ c) (hc2 : c ≤ 8200) (g : Nat → Int64) : rw_at iW cJ L r (va_up ar p a) (va_up cp p c) cn (va_up fn p g) (vx_up (vx_up h a (.inl (cJ, c, .inr (.inl g)))) p (.inr (iW, [.ref a, .int (cn p)]))) := by
  have hap : a ≠ p := fun z => by rw [z, rw_obj H hp] at ha; cases ha
  have hal : a ∉ L := fun z => by rw [rw_obj H z] at ha; cases ha
  have har : ∀ q ∈ L, ar q ≠ a := fun q hq z => by rw [← z, rw_row H hq] at ha; cases ha
  refine ⟨fun b e he => ?_, fun q hq => ?_, fun x y hx hy e => ?_⟩
  · obtain ⟨h1, h2, h3⟩ := H.1 b e he
    have hba : b ≠ a := fun z => by rw [z, ha] at h1; cases h1
    refine ⟨?_, h2, fun q hq => ?_⟩
    · rw [vx_up_n (show b ≠ p from fun z => h2 (by rw [z]; exact hp)), vx_up_n hba]
      exact h1
    · by_cases z : q = p
      · subst z
        rw [va_up_self]
        exact hba
      · rw [va_up_ne _ _ z]
        exact h3 q hq
  · obtain ⟨h1, h2, h3⟩ := H.2.1 q hq
    by_cases z : q = p
    · subst z
      rw [va_up_self, va_up_self, va_up_self, vx_up_s, vx_up_n hap, vx_up_s]
      exact ⟨rfl, rfl, hc, hc2⟩
    · rw [va_up_ne _ _ z, va_up_ne _ _ z, va_up_ne _ _ z, vx_up_n z, vx_up_n (show q ≠ a from fun y => hal (by rw [← y]; exact hq)), vx_up_n (rw_ne H hp hq), vx_up_n (har q hq)]
      exact ⟨h1, h2, h3⟩
  · by_cases z : x = p <;> by_cases w : y = p
    · rw [z, w]
    · subst z
      rw [va_up_self, va_up_ne _ _ w] at e
      exact absurd e.symm (har y hy)
    · subst w
      rw [va_up_self, va_up_ne _ _ z] at e
      exact absurd e (har x hx)
    · rw [va_up_ne _ _ z, va_up_ne _ _ w] at e
      exact H.2.2 x y hx hy e
/-- another cell is written -/
theorem rw_rset (H : rw_at iW cJ L r ar cp cn fn h) {b : Nat} {e0 : va_E} (hb : r b = some e0) (e : va_E) : rw_at iW cJ L (vx_up r b e) ar cp cn fn (vx_up h b e) := by
  obtain ⟨h1, h2, h3⟩ := H.1 b e0 hb
  refine ⟨fun x f hf => ?_, fun q hq => ?_, H.2.2⟩
  · by_cases z : x = b
    · subst z
      rw [vx_up_s] at hf ⊢
      exact ⟨hf, h2, h3⟩
    · rw [vx_up_n z] at hf ⊢
      exact H.1 x f hf
  · obtain ⟨g1, g2, g3⟩ := H.2.1 q hq
    rw [vx_up_n (show q ≠ b from fun z => h2 (by rw [← z]; exact hq)), vx_up_n (show ar q ≠ b from fun z => h3 q hq z.symm)]
    exact ⟨g1, g2, g3⟩
end
/-! numbers in the pool -/
/-- the Whole p holds the number N -/
def wv (cp : Nat → Nat) (cn : Nat → Int32) (fn : Nat → Nat → Int64) (p N : Nat) : Prop := cn p = nI (nd 4294967296 N) ∧ nd 4294967296 N ≤ cp p ∧ ∀ i, i < nd 4294967296 N → fn p i = lN (dg 4294967296 N i)
/-- what the rows may still cost: slots and cells -/
def ph (cp : Nat → Nat) : List Nat → Nat
  | [] => 0
  | p :: L => (16400 - 2 * cp p) + ph cp L
def pc_ (cp : Nat → Nat) : List Nat → Nat
  | [] => 0
  | p :: L => (8200 - cp p) / 4 + pc_ cp L
theorem ph_same {cp cp' : Nat → Nat} {L : List Nat} (h : ∀ q ∈ L, cp' q = cp q) : ph cp' L = ph cp L := by
  induction L with
  | nil => rfl
  | cons a L ih => rw [ph, ph, ih (fun q hq => h q (List.mem_cons_of_mem _ hq)), h a List.mem_cons_self]
theorem pc_same {cp cp' : Nat → Nat} {L : List Nat} (h : ∀ q ∈ L, cp' q = cp q) : pc_ cp' L = pc_ cp L := by
  induction L with
  | nil => rfl
  | cons a L ih => rw [pc_, pc_, ih (fun q hq => h q (List.mem_cons_of_mem _ hq)), h a List.mem_cons_self]
theorem ph_up {cp : Nat → Nat} {L : List Nat} {p c : Nat} (hn : L.Nodup) (hp : p ∈ L) (h1 : 2 * cp p ≤ c) (h2 : c ≤ 8200) : c + ph (va_up cp p c) L ≤ ph cp L := by
  induction L with
  | nil => cases hp
  | cons a L ih =>
    rw [List.nodup_cons] at hn
    rw [ph, ph]
    rcases List.mem_cons.mp hp with z | z
    · subst z
      rw [va_up_self, ph_same (cp := cp) (cp' := va_up cp p c) (fun q hq => va_up_ne _ _ (fun y => hn.1 (by rw [← y]; exact hq)))]
      omega
    · have ne : a ≠ p := fun y => hn.1 (by rw [y]; exact z)
      rw [va_up_ne _ _ ne]
      have := ih hn.2 z
      omega
theorem pc_up {cp : Nat → Nat} {L : List Nat} {p c : Nat} (hn : L.Nodup) (hp : p ∈ L) (h0 : 4 ≤ cp p) (h1 : 2 * cp p ≤ c) (h2 : c ≤ 8200) : 1 + pc_ (va_up cp p c) L ≤ pc_ cp L := by
  induction L with
  | nil => cases hp
  | cons a L ih =>
    rw [List.nodup_cons] at hn
    rw [pc_, pc_]
    rcases List.mem_cons.mp hp with z | z
    · subst z
      rw [va_up_self, pc_same (cp := cp) (cp' := va_up cp p c) (fun q hq => va_up_ne _ _ (fun y => hn.1 (by rw [← y]; exact hq)))]
      omega
    · have ne : a ≠ p := fun y => hn.1 (by rw [y]; exact z)
      rw [va_up_ne _ _ ne]
      have := ih hn.2 z
      omega
