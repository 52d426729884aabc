/-! the orders -/
theorem Ne_w_spec {t n : Nat} (ht : t < 6) (hn : n < 6) : ∀ (p : Nat) (m : mx_Mm), p ≤ n → Ne_ok m →
    (Ne_w t n p m).1 ≤ p ∧ (∀ q j, ¬ (q = 28 + t ∧ (Ne_w t n p m).1 < j ∧ j ≤ p) → (Ne_w t n p m).2 q j = m q j) ∧ (∀ j, (Ne_w t n p m).1 ≤ j → j < p → (Ne_w t n p m).2 (28 + t) (j + 1) = m (28 + t) j) ∧ (∀ j, (Ne_w t n p m).1 ≤ j → j < p → m (14 + tn (m (28 + t) j)) t < m (14 + n) t) ∧ (0 < (Ne_w t n p m).1 → ¬ m (14 + tn (m (28 + t) ((Ne_w t n p m).1 - 1))) t < m (14 + n) t)
  | 0, m, _, _ => ⟨Nat.le_refl _, fun _ _ _ => rfl, fun j _ h => absurd h (Nat.not_lt_zero _), fun j _ h => absurd h (Nat.not_lt_zero _), fun h => absurd h (Nat.lt_irrefl _)⟩
  | p + 1, m, hp, hk => by
    by_cases hc : m (14 + tn (m (28 + t) p)) t < m (14 + n) t
    · have e : Ne_w t n (p + 1) m = Ne_w t n p (mx_up m (28 + t) (p + 1) (m (28 + t) p)) := by rw [Ne_w, if_pos hc]
      rw [e]
      have hk1 : Ne_ok (mx_up m (28 + t) (p + 1) (m (28 + t) p)) := hk.upR (hk t p ht (by omega))
      obtain ⟨h1, h2, h3, h4, h5⟩ := Ne_w_spec ht hn p _ (by omega) hk1
      generalize Ne_w t n p (mx_up m (28 + t) (p + 1) (m (28 + t) p)) = w at h1 h2 h3 h4 h5 ⊢
      have hlen : ∀ j, j ≤ p → (mx_up m (28 + t) (p + 1) (m (28 + t) p)) (14 + tn ((mx_up m (28 + t) (p + 1) (m (28 + t) p)) (28 + t) j)) t = m (14 + tn (m (28 + t) j)) t := fun j hj => by
        rw [up_neK (show j ≠ p + 1 by omega)]
        have := (hk.tn ht (show j < 6 by omega)).2
        rw [up_neP (by omega)]
      have hln : (mx_up m (28 + t) (p + 1) (m (28 + t) p)) (14 + n) t = m (14 + n) t := up_neP (by omega)
      refine ⟨by omega, fun q j hq => ?_, fun j hj1 hj2 => ?_, fun j hj1 hj2 => ?_, fun h0 => ?_⟩
      · rw [h2 q j (fun z => hq ⟨z.1, z.2.1, by omega⟩)]
        exact up_ne (fun z => hq ⟨z.1, by omega, by omega⟩)
      · by_cases ej : j = p
        · subst ej
          rw [h2 _ _ (fun z => by omega), up_same]
        · rw [h3 j hj1 (by omega), up_neK (by omega)]
      · by_cases ej : j = p
        · subst ej; exact hc
        · have := h4 j hj1 (by omega)
          rw [hlen j (by omega), hln] at this
          exact this
      · have := h5 h0
        rw [hlen _ (by omega), hln] at this
        exact this
    · have e : Ne_w t n (p + 1) m = (p + 1, m) := by rw [Ne_w, if_neg hc]
      rw [e]
      exact ⟨Nat.le_refl _, fun _ _ _ => rfl, fun j h1 h2 => absurd h2 (by omega), fun j h1 h2 => absurd h2 (by omega), fun _ => hc⟩
