set_option maxRecDepth 100000 in
theorem or2_nI : ∀ a, a < 128 → ∀ b, b < 128 → nI a ||| nI b = nI (a ||| b) := by decide +kernel
set_option maxRecDepth 100000 in
theorem an2_nI : ∀ a, a < 128 → ∀ b, b < 128 → nI a &&& (nI b ^^^ (-1)) = nI (a &&& (127 ^^^ b)) := by decide +kernel
set_option maxRecDepth 100000 in
theorem lt_or : ∀ a, a < 128 → ∀ b, b < 128 → a ||| b < 128 := by decide +kernel
set_option maxRecDepth 100000 in
theorem a64_nI : ∀ a, a < 128 → (nI a &&& nI 64 = 0 ↔ ¬ a.testBit 6 = true) := by decide +kernel
/-- a small set: a number below 128, known by its seven bits -/
def bs (x : Int32) (P : Nat → Prop) : Prop := ∃ k, k < 128 ∧ x = nI k ∧ ∀ n, n < 7 → (k.testBit n = true ↔ P n)
theorem bs_hold {x : Int32} {P : Nat → Prop} (h : bs x P) {n : Nat} (hn : n < 7) : hold x n ↔ P n := by
  obtain ⟨k, hk, e, hp⟩ := h
  subst e
  exact (hold_tb k hk n hn).trans (hp n hn)
theorem bs_0 : bs (nI 0) (fun _ => False) := ⟨0, by decide, rfl, fun n _ => by simp⟩
theorem bs_bit {n : Nat} (hn : n < 7) : bs (bit n) (fun j => j = n) := ⟨2 ^ n, by
    have : 2 ^ n ≤ 2 ^ 6 := Nat.pow_le_pow_right (by decide) (by omega)
    omega, bit_nI n hn, fun j _ => by
    rw [Nat.testBit_two_pow]
    simp [eq_comm]⟩
theorem bs_or {x y : Int32} {P Q : Nat → Prop} (h1 : bs x P) (h2 : bs y Q) : bs (x ||| y) (fun j => P j ∨ Q j) := by
  obtain ⟨k, hk, e, hp⟩ := h1
  obtain ⟨l, hl, e2, hq⟩ := h2
  subst e; subst e2
  refine ⟨k ||| l, lt_or k hk l hl, or2_nI k hk l hl, fun n hn => ?_⟩
  rw [Nat.testBit_or, Bool.or_eq_true, hp n hn, hq n hn]
theorem bs_an {x y : Int32} {P Q : Nat → Prop} (h1 : bs x P) (h2 : bs y Q) : bs (x &&& (y ^^^ (-1))) (fun j => P j ∧ ¬ Q j) := by
  obtain ⟨k, hk, e, hp⟩ := h1
  obtain ⟨l, hl, e2, hq⟩ := h2
  subst e; subst e2
  refine ⟨k &&& (127 ^^^ l), Nat.lt_of_le_of_lt Nat.and_le_left hk, an2_nI k hk l hl, fun n hn => ?_⟩
  have h7 : Nat.testBit 127 n = true := by
    have : ∀ n, n < 7 → Nat.testBit 127 n = true := by decide
    exact this n hn
  rw [Nat.testBit_and, Nat.testBit_xor, h7, Bool.and_eq_true, hp n hn]
  refine and_congr Iff.rfl ?_
  rw [← hq n hn]
  cases l.testBit n <;> simp
theorem bs_cg {x : Int32} {P Q : Nat → Prop} (h : bs x P) (e : ∀ n, n < 7 → (P n ↔ Q n)) : bs x Q := by
  obtain ⟨k, hk, e1, hp⟩ := h
  exact ⟨k, hk, e1, fun n hn => (hp n hn).trans (e n hn)⟩
theorem bs_z {x : Int32} {P : Nat → Prop} (h : bs x P) : x = 0 ↔ ∀ n, n < 7 → ¬ P n := by
  obtain ⟨k, hk, e, hp⟩ := h
  subst e
  rw [nI_z k hk]
  constructor
  · intro e n hn q
    subst e
    have := (hp n hn).mpr q
    simp at this
  · intro h
    have key : ∀ k, k < 128 → (∀ n, n < 7 → k.testBit n = false) → k = 0 := by decide +kernel
    refine key k hk (fun n hn => ?_)
    have := h n hn
    rw [← hp n hn] at this
    simpa using this
