/-! the reference's ways, as the same matrices -/
def md (m : mx_Mm) : mx_Mm := fun a b => m 186 (6 * a + b)
def R2 (m A : mx_Mm) : Prop := ∀ p, p < 36 → m 187 p = A (p / 6) (p % 6)
theorem p7 : ∀ p, p < 36 → (nI (p % 7) = 0 ↔ p / 6 = p % 6) := by decide
theorem pm_n_lt (x y : Int32) : (if y < x then y else x) = pm_n x y := by
  unfold pm_n
  by_cases h : y < x
  · rw [if_pos h, if_neg (Int32.not_le.mpr h)]
  · rw [if_neg h, if_pos (Int32.not_lt.mp h)]
theorem c9 : ∀ k, k ≤ 9 → (if nI k ≤ 0 then nI 1000 else nI k) = if nI k = 0 then 1000 else nI k := by decide
theorem Mo_w1_spec {m : mx_Mm} (hc : pm_c (md m)) : (∀ q j, q ≠ 187 → (mx_lp 36 Mo_w1 m) q j = m q j) ∧ R2 (mx_lp 36 Mo_w1 m) (pm_s (md m)) := by
  have h := lp_inv (f := Mo_w1) (fun i x => (∀ q j, q ≠ 187 → x q j = m q j) ∧ ∀ p, p < i → x 187 p = pm_s (md m) (p / 6) (p % 6)) 36 (m := m) ⟨fun _ _ _ => rfl, fun p hp => absurd hp (Nat.not_lt_zero _)⟩ (fun i x hi hI => by
    refine ⟨fun q j hq => ?_, fun p hp => ?_⟩
    · show (mx_up x 187 i _) q j = _
      rw [up_neP hq]; exact hI.1 q j hq
    · by_cases e : p = i
      · subst e
        show (mx_up x 187 p (if nI (p % 7) = 0 then nI 0 else if x 186 p ≤ 0 then nI 1000 else x 186 p)) 187 p = _
        rw [up_same, hI.1 186 p (by decide)]
        have ep : 6 * (p / 6) + p % 6 = p := by omega
        have em : md m (p / 6) (p % 6) = m 186 p := by
          show m 186 (6 * (p / 6) + p % 6) = _
          rw [ep]
        unfold pm_s
        rw [em]
        by_cases c : p / 6 = p % 6
        · rw [if_pos ((p7 p hi).mpr c), if_pos c]; rfl
        · rw [if_neg (fun z => c ((p7 p hi).mp z)), if_neg c]
          obtain ⟨k, hk, ek⟩ := hc.1 (p / 6) (p % 6) (by omega) (by omega)
          rw [em] at ek
          rw [ek]
          exact c9 k hk
      · show (mx_up x 187 i _) 187 p = _
        rw [up_neK e]; exact hI.2 p (by omega))
  exact h
theorem Mo_w2_rel {k : Nat} (hk : k < 6) {m A : mx_Mm} (h : R2 m A) : R2 (mx_lp 36 (Mo_w2 k) m) (pm_v k A) := by
  have e : pm_v k A = mx_lp 36 (fun p B => mx_up B (p / 6) (p % 6) (pm_n (B (p / 6) (p % 6)) (B (p / 6) k + B k (p % 6)))) A :=
    (lp_mul (fun a b (B : mx_Mm) => mx_up B a b (pm_n (B a b) (B a k + B k b))) 6 (by decide) 6 A).symm
  rw [e]
  refine lp_rel R2 36 h (fun p x B hp h => ?_)
  intro p' hp'
  show (mx_up x 187 p (if x 187 (p / 6 * 6 + k) + x 187 (6 * k + p % 6) < x 187 p then x 187 (p / 6 * 6 + k) + x 187 (6 * k + p % 6) else x 187 p)) 187 p' = _
  rw [pm_n_lt]
  have r1 := h p hp
  have r2 := h (p / 6 * 6 + k) (by omega)
  have r3 := h (6 * k + p % 6) (by omega)
  rw [show (p / 6 * 6 + k) / 6 = p / 6 by omega, show (p / 6 * 6 + k) % 6 = k by omega] at r2
  rw [show (6 * k + p % 6) / 6 = k by omega, show (6 * k + p % 6) % 6 = p % 6 by omega] at r3
  by_cases c : p' = p
  · subst c; rw [up_same, up_same, r1, r2, r3]
  · rw [up_neK c, up_ne (by omega)]; exact h p' hp'
theorem Mo_w2_at {k : Nat} (m : mx_Mm) (q j : Nat) (hq : q ≠ 187) : (mx_lp 36 (Mo_w2 k) m) q j = m q j := lp_keep (fun a : mx_Mm => a q j = m q j) 36 rfl (fun p x _ h => (up_neP hq).trans h)
theorem Mo_vd_at (p : Nat) : ∀ (i : Nat) (m : mx_Mm) (q j : Nat), ¬ (q = 188 ∧ j = p) → (Mo_vd p i m) q j = m q j
  | 0, _, _, _, _ => rfl
  | i + 1, m, q, j, h => by
    show (Mo_vd p i (Mo_v1 p i m)) q j = _
    rw [Mo_vd_at p i _ q j h]
    unfold Mo_v1
    split
    · exact up_ne h
    · rfl
