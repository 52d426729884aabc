theorem Ne_o1_spec {t n : Nat} (ht : t < 6) (hn : n < 6) {m : mx_Mm} (hk : Ne_ok m) : ∃ q, q ≤ n ∧ (∀ p j, p ≠ 28 + t → (Ne_o1 t n m) p j = m p j) ∧ (∀ k, k < q → (Ne_o1 t n m) (28 + t) k = m (28 + t) k) ∧ (Ne_o1 t n m) (28 + t) q = nI n ∧ (∀ k, q ≤ k → k < n → (Ne_o1 t n m) (28 + t) (k + 1) = m (28 + t) k) ∧ (∀ k, n < k → (Ne_o1 t n m) (28 + t) k = m (28 + t) k) ∧ (∀ j, q ≤ j → j < n → m (14 + tn (m (28 + t) j)) t < m (14 + n) t) ∧ (0 < q → ¬ m (14 + tn (m (28 + t) (q - 1))) t < m (14 + n) t) := by
  obtain ⟨h1, h2, h3, h4, h5⟩ := Ne_w_spec ht hn n m (Nat.le_refl _) hk
  unfold Ne_o1
  generalize Ne_w t n n m = w at h1 h2 h3 h4 h5 ⊢
  refine ⟨w.1, h1, fun p j hp => ?_, fun k hk' => ?_, up_same _ _ _ _, fun k hk1 hk2 => ?_, fun k hk1 => ?_, h4, h5⟩
  · rw [up_neP hp]; exact h2 p j (fun z => hp z.1)
  · rw [up_neK (by omega)]; exact h2 _ _ (fun z => by omega)
  · rw [up_neK (by omega)]; exact h3 k hk1 hk2
  · rw [up_neK (by omega)]; exact h2 _ _ (fun z => by omega)
