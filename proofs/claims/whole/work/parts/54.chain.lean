/-! routers that carry a packet: lists without repetition -/
theorem ph : ∀ (N : Nat) (c : Nat → Nat) (K : Nat), (∀ k, k < K → c k < N) → (∀ i k, i < k → k < K → c i ≠ c k) → K ≤ N
  | 0, c, K, h, _ => by
    rcases Nat.eq_zero_or_pos K with e | e
    · omega
    · exact absurd (h 0 e) (Nat.not_lt_zero _)
  | N + 1, c, K, h, hi => by
    by_cases q : ∃ k, k < K ∧ c k = N
    · obtain ⟨k0, hk0, e0⟩ := q
      have hne : ∀ k, k < K → k ≠ k0 → c k ≠ N := fun k hk hn e => by
        rcases Nat.lt_or_gt_of_ne hn with z | z
        · exact hi k k0 z hk0 (e.trans e0.symm)
        · exact hi k0 k z hk (e0.trans e.symm)
      have := ph N (fun k => if k = k0 then c (K - 1) else c k) (K - 1) (fun k hk => by
        show (if k = k0 then c (K - 1) else c k) < N
        by_cases e : k = k0
        · rw [if_pos e]
          have h1 := h (K - 1) (by omega)
          have h2 := hne (K - 1) (by omega) (by omega)
          omega
        · rw [if_neg e]
          have h1 := h k (by omega)
          have h2 := hne k (by omega) e
          omega) (fun i k hik hk => by
        show (if i = k0 then c (K - 1) else c i) ≠ (if k = k0 then c (K - 1) else c k)
        by_cases e : i = k0
        · rw [if_pos e, if_neg (by omega)]
          exact fun z => hi k (K - 1) hk (by omega) z.symm
        · rw [if_neg e]
          by_cases e2 : k = k0
          · rw [if_pos e2]; exact hi i (K - 1) (by omega) (by omega)
          · rw [if_neg e2]; exact hi i k hik (by omega))
      omega
    · have := ph N c K (fun k hk => by
        have h1 := h k hk
        have h2 : c k ≠ N := fun e => q ⟨k, hk, e⟩
        omega) hi
      omega
theorem bs_eq {x y : Int32} {P : Nat → Prop} (h1 : bs x P) (h2 : bs y P) : x = y := by
  obtain ⟨k, hk, e, hp⟩ := h1
  obtain ⟨l, hl, e2, hq⟩ := h2
  have : k = l := by
    refine Nat.eq_of_testBit_eq (fun n => ?_)
    by_cases hn : n < 7
    · have := (hp n hn).trans (hq n hn).symm
      cases h1 : k.testBit n <;> cases h2 : l.testBit n <;> simp_all
    · have h128 : 128 ≤ 2 ^ n := by
        have : 2 ^ 7 ≤ 2 ^ n := Nat.pow_le_pow_right (by decide) (by omega)
        simpa using this
      rw [Nat.testBit_lt_two_pow (by omega), Nat.testBit_lt_two_pow (by omega)]
  rw [e, e2, this]
/-- a sum over a list is the sum over its members -/
theorem sI_one (X : Nat → Int32) (c : Nat) : ∀ (n : Nat), sI n (fun q => if q = c then X q else 0) = if c < n then X c else 0
  | 0 => by rw [if_neg (Nat.not_lt_zero _)]; rfl
  | n + 1 => by
    show sI n (fun q => if q = c then X q else 0) + (if n = c then X n else 0) = _
    rw [sI_one X c n]
    by_cases e : n = c
    · rw [if_pos e, if_neg (by omega), if_pos (by omega), e, Int32.zero_add]
    · rw [if_neg e, Int32.add_zero]
      by_cases d : c < n
      · rw [if_pos d, if_pos (by omega)]
      · rw [if_neg d, if_neg (by omega)]
theorem sI_mem (X : Nat → Int32) (c : Nat → Nat) : ∀ (K : Nat), (∀ k, k < K → c k < 6) → (∀ i k, i < k → k < K → c i ≠ c k) → ∀ (P : Nat → Prop) [∀ q, Decidable (P q)], (∀ q, q < 6 → (P q ↔ ∃ k, k < K ∧ c k = q)) → sI 6 (fun q => if P q then X q else 0) = sI K (fun k => X (c k))
  | 0, _, _, P, _, hP => by
    have h : sI 6 (fun q => if P q then X q else 0) = sI 6 (fun _ => 0) := sg_cg 6 (fun q hq => if_neg (fun z => by
      obtain ⟨k, hk, -⟩ := (hP q hq).mp z
      omega))
    rw [h]
    exact sI_0 6
  | K + 1, h, hi, P, _, hP => by
    have ih := sI_mem X c K (fun k hk => h k (by omega)) (fun i k hik hk => hi i k hik (by omega)) (fun q => P q ∧ q ≠ c K) (fun q hq => by
      rw [hP q hq]
      constructor
      · rintro ⟨⟨k, hk, e⟩, z⟩
        have : k ≠ K := fun w => z (by rw [← w]; exact e.symm)
        exact ⟨k, by omega, e⟩
      · rintro ⟨k, hk, e⟩
        exact ⟨⟨k, by omega, e⟩, fun z => hi k K hk (by omega) (e.trans z)⟩)
    show _ = sI K (fun k => X (c k)) + X (c K)
    have h1 := sI_one X (c K) 6
    rw [if_pos (h K (by omega))] at h1
    rw [← ih, ← h1, ← sI_add]
    refine sg_cg 6 (fun q hq => ?_)
    by_cases e : q = c K
    · have hp : P q := (hP q hq).mpr ⟨K, by omega, e.symm⟩
      rw [if_pos hp, if_neg (fun z => z.2 e), if_pos e, Int32.zero_add]
    · rw [if_neg e, Int32.add_zero]
      by_cases p : P q
      · rw [if_pos p, if_pos ⟨p, e⟩]
      · rw [if_neg p, if_neg (fun z => p z.1)]
/-- a way of a packet: who carries it, in some order -/
def Chn (S0 : Nat → Prop) (go : Nat → Nat → Prop) (K : Nat) (c : Nat → Nat) : Prop := K ≤ 6 ∧ (∀ k, k < K → c k < 6) ∧ (∀ i k, i < k → k < K → c i ≠ c k) ∧ (∀ k, k < K → S0 (c k) ∨ ∃ j, j < k ∧ go (c j) (c k)) ∧ (∀ q, q < 6 → S0 q → ∃ k, k < K ∧ c k = q) ∧ ∀ k n, k < K → n < 6 → go (c k) n → ∃ j, j < K ∧ c j = n
