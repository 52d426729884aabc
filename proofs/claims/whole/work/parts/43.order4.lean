theorem Or_all {t : Nat} (ht : t < 6) {m : mx_Mm} (hk : Ne_ok m) : Or_n t 6 (Ne_order t m) ∧ ∀ p j, p ≠ 28 + t → (Ne_order t m) p j = m p j := by
  have h := lp_inv (f := Ne_o1 t) (fun i a => Ne_ok a ∧ Or_n t i a ∧ ∀ p j, p ≠ 28 + t → a p j = m p j) 6 (m := m) ⟨hk, ⟨fun k h => absurd h (Nat.not_lt_zero _), fun k h => absurd h (Nat.not_lt_zero _), fun i k _ h => absurd h (Nat.not_lt_zero _)⟩, fun _ _ _ => rfl⟩ (fun i a hi hI => by
    refine ⟨Ne_o1_ok ht hi hI.1, Or_step ht hi hI.1 hI.2.1, fun p j hp => ?_⟩
    obtain ⟨q, -, f0, -⟩ := Ne_o1_spec ht hi hI.1
    rw [f0 p j hp]
    exact hI.2.2 p j hp)
  exact h.2
