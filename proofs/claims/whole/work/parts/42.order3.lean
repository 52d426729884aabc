def Or_n (t n : Nat) (m : mx_Mm) : Prop := (∀ k, k < n → tn (m (28 + t) k) < n) ∧ (∀ j, j < n → ∃ k, k < n ∧ tn (m (28 + t) k) = j) ∧ ∀ i k, i < k → k < n → ¬ m (14 + tn (m (28 + t) i)) t < m (14 + tn (m (28 + t) k)) t
theorem Or_step {t n : Nat} (ht : t < 6) (hn : n < 6) {m : mx_Mm} (hk : Ne_ok m) (h : Or_n t n m) : Or_n t (n + 1) (Ne_o1 t n m) := by
  obtain ⟨q, hq, f0, f1, f2, f3, -, f5, f6⟩ := Ne_o1_spec ht hn hk
  obtain ⟨o1, o2, o3⟩ := h
  generalize Ne_o1 t n m = M at f0 f1 f2 f3 ⊢
  have tnn : tn (nI n) = n := tn_nI (by omega)
  have len : ∀ x, x < 6 → M (14 + x) t = m (14 + x) t := fun x hx => f0 _ _ (by omega)
  have lo : ∀ k, k < n → M (14 + tn (m (28 + t) k)) t = m (14 + tn (m (28 + t) k)) t := fun k hk' => len _ (by have := o1 k hk'; omega)
  refine ⟨fun k hk' => ?_, fun j hj => ?_, fun i k hik hk' => ?_⟩
  · rcases Nat.lt_trichotomy k q with e | e | e
    · rw [f1 k e]; have := o1 k (by omega); omega
    · rw [e, f2, tnn]; omega
    · obtain ⟨k', rfl⟩ : ∃ k', k = k' + 1 := ⟨k - 1, by omega⟩
      rw [f3 k' (by omega) (by omega)]; have := o1 k' (by omega); omega
  · by_cases e : j = n
    · exact ⟨q, by omega, by rw [f2, tnn, e]⟩
    · obtain ⟨k, hk', ek⟩ := o2 j (by omega)
      by_cases c : k < q
      · exact ⟨k, by omega, by rw [f1 k c]; exact ek⟩
      · exact ⟨k + 1, by omega, by rw [f3 k (by omega) hk']; exact ek⟩
  · rcases Nat.lt_trichotomy k q with e | e | e
    · rw [f1 k e, f1 i (by omega), lo i (by omega), lo k (by omega)]
      exact o3 i k hik (by omega)
    · rw [e, f2, tnn, f1 i (by omega), lo i (by omega), len n hn]
      have h6 := f6 (by omega)
      by_cases c : i = q - 1
      · rw [c]; exact h6
      · have h7 := o3 i (q - 1) (by omega) (by omega)
        exact Int32.not_lt.mpr (Int32.le_trans (Int32.not_lt.mp h6) (Int32.not_lt.mp h7))
    · obtain ⟨k', rfl⟩ : ∃ k', k = k' + 1 := ⟨k - 1, by omega⟩
      rw [f3 k' (by omega) (by omega), lo k' (by omega)]
      rcases Nat.lt_trichotomy i q with c | c | c
      · rw [f1 i c, lo i (by omega)]
        exact o3 i k' (by omega) (by omega)
      · rw [c, f2, tnn, len n hn]
        exact fun z => Int32.lt_irrefl (Int32.lt_trans z (f5 k' (by omega) (by omega)))
      · obtain ⟨i', rfl⟩ : ∃ i', i = i' + 1 := ⟨i - 1, by omega⟩
        rw [f3 i' (by omega) (by omega), lo i' (by omega)]
        exact o3 i' k' (by omega) (by omega)
