theorem Mo_vc_up {p q n : Nat} {m : mx_Mm} {x : Int32} : Mo_vc p n (mx_up m 188 q x) ↔ Mo_vc p n m := by
  unfold Mo_vc
  rw [up_neP (by decide), up_neP (by decide), up_neP (by decide)]
theorem Mo_vc_v1 {p n i : Nat} {m : mx_Mm} : Mo_vc p n (Mo_v1 p i m) ↔ Mo_vc p n m := by
  unfold Mo_v1
  split
  · exact Mo_vc_up
  · exact Iff.rfl
def vcb (p : Nat) (m : mx_Mm) (n : Nat) : Bool := decide (Mo_vc p n m)
theorem Mo_vd_spec (p : Nat) : ∀ (i : Nat) (m : mx_Mm), (Mo_vd p i m) 188 p = if pm_fd i (vcb p m) < i then nI (pm_fd i (vcb p m)) else m 188 p
  | 0, m => rfl
  | i + 1, m => by
    show (Mo_vd p i (Mo_v1 p i m)) 188 p = _
    rw [Mo_vd_spec p i (Mo_v1 p i m)]
    have e : pm_fd i (vcb p (Mo_v1 p i m)) = pm_fd i (vcb p m) := pm_fd_congr i (fun n _ => decide_eq_decide.mpr Mo_vc_v1)
    rw [e]
    have hd : pm_fd (i + 1) (vcb p m) = if pm_fd i (vcb p m) < i then pm_fd i (vcb p m) else if vcb p m i then i else i + 1 := rfl
    rw [hd]
    by_cases h : pm_fd i (vcb p m) < i
    · rw [if_pos h, if_pos h, if_pos (by omega)]
    · rw [if_neg h, if_neg h]
      unfold Mo_v1
      by_cases c : Mo_vc p i m
      · have cb : vcb p m i = true := decide_eq_true c
        rw [if_pos c, up_same, if_pos cb, if_pos (by omega)]
      · have cb : ¬ vcb p m i = true := fun z => c (of_decide_eq_true z)
        rw [if_neg c, if_neg cb, if_neg (by omega)]
/-- all that the reference's ways leave -/
theorem Mo_ways_spec {m : mx_Mm} (hc : pm_c (md m)) : (∀ q j, q ≠ 187 → q ≠ 188 → (Mo_ways m) q j = m q j) ∧ R2 (Mo_ways m) (pm_F (md m)) ∧ ∀ a t, a < 6 → t < 6 → (Mo_ways m) 188 (6 * a + t) = pm_N (md m) (pm_F (md m)) a t := by
  obtain ⟨a1, a2⟩ := Mo_w1_spec hc
  have b1 : ∀ q j, q ≠ 187 → (mx_lp 6 (fun k => mx_lp 36 (Mo_w2 k)) (mx_lp 36 Mo_w1 m)) q j = m q j := fun q j hq => lp_keep (fun a : mx_Mm => a q j = m q j) 6 (a1 q j hq) (fun k x _ h => (Mo_w2_at x q j hq).trans h)
  have b2 : R2 (mx_lp 6 (fun k => mx_lp 36 (Mo_w2 k)) (mx_lp 36 Mo_w1 m)) (pm_F (md m)) := lp_rel R2 6 a2 (fun k x A hk h => Mo_w2_rel hk h)
  unfold Mo_ways
  generalize mx_lp 6 (fun k => mx_lp 36 (Mo_w2 k)) (mx_lp 36 Mo_w1 m) = y at b1 b2 ⊢
  have hv : ∀ p, p < 36 → ∀ x : mx_Mm, (∀ q j, q ≠ 188 → x q j = y q j) → (Mo_v3 p x) 188 p = pm_N (md m) (pm_F (md m)) (p / 6) (p % 6) := fun p hp x hx => by
    unfold Mo_v3
    rw [Mo_vd_spec, up_same]
    have hcost : ∀ n, n < 6 → x 186 (p / 6 * 6 + n) = md m (p / 6) n := fun n hn => by
      rw [hx _ _ (by decide), b1 _ _ (by decide)]
      show _ = m 186 (6 * (p / 6) + n)
      rw [Nat.mul_comm]
    have hfar : x 187 p = pm_F (md m) (p / 6) (p % 6) := by rw [hx _ _ (by decide)]; exact b2 p hp
    have hf2 : ∀ n, n < 6 → x 187 (6 * n + p % 6) = pm_F (md m) n (p % 6) := fun n hn => by
      rw [hx _ _ (by decide), b2 _ (by omega), show (6 * n + p % 6) / 6 = n by omega, show (6 * n + p % 6) % 6 = p % 6 by omega]
    have hvc : ∀ n, n < 6 → (Mo_vc p n (mx_up x 188 p (-1)) ↔ (¬ p / 6 = p % 6 ∧ pm_F (md m) (p / 6) (p % 6) < 1000 ∧ pm_t (md m) (pm_F (md m)) (p / 6) (p % 6) n = true)) := fun n hn => by
      rw [Mo_vc_up]
      unfold Mo_vc pm_t
      rw [p7 p hp, hcost n hn, hfar, hf2 n hn, decide_eq_true_iff]
      obtain ⟨k, hk, ek⟩ := hc.1 (p / 6) n (by omega) hn
      rw [ek]
      have hz : ∀ k, k ≤ 9 → (0 < nI k ↔ nI k ≠ 0) := by decide
      rw [hz k hk]
      exact Iff.rfl
    unfold pm_N
    by_cases c : p / 6 = p % 6 ∨ ¬ pm_F (md m) (p / 6) (p % 6) < 1000
    · rw [if_pos c]
      have : pm_fd 6 (vcb p (mx_up x 188 p (-1))) = 6 := pm_fd_none (fun n hn => decide_eq_false (fun z => by
        have := (hvc n hn).mp z
        exact c.elim this.1 (fun w => w this.2.1)))
      rw [this]
      rfl
    · rw [if_neg c]
      have c' := not_or.mp c
      have : pm_fd 6 (vcb p (mx_up x 188 p (-1))) = pm_fd 6 (pm_t (md m) (pm_F (md m)) (p / 6) (p % 6)) := pm_fd_congr 6 (fun n hn => by
        unfold vcb
        by_cases z : pm_t (md m) (pm_F (md m)) (p / 6) (p % 6) n = true
        · rw [z]; exact decide_eq_true ((hvc n hn).mpr ⟨c'.1, Decidable.not_not.mp c'.2, z⟩)
        · rw [Bool.not_eq_true _ |>.mp z]; exact decide_eq_false (fun w => z ((hvc n hn).mp w).2.2))
      rw [this]
  have h := lp_inv (f := Mo_v3) (fun i x => (∀ q j, q ≠ 188 → x q j = y q j) ∧ ∀ p, p < i → x 188 p = pm_N (md m) (pm_F (md m)) (p / 6) (p % 6)) 36 (m := y) ⟨fun _ _ _ => rfl, fun p hp => absurd hp (Nat.not_lt_zero _)⟩ (fun i x hi hI => by
    refine ⟨fun q j hq => ?_, fun p hp => ?_⟩
    · unfold Mo_v3
      rw [Mo_vd_at i 6 _ q j (fun z => hq z.1), up_neP hq]; exact hI.1 q j hq
    · by_cases e : p = i
      · subst e; exact hv p hi x hI.1
      · unfold Mo_v3
        rw [Mo_vd_at i 6 _ 188 p (fun z => e z.2), up_neK e]; exact hI.2 p (by omega))
  obtain ⟨h1, h2⟩ := h
  refine ⟨fun q j q1 q2 => (h1 q j q2).trans (b1 q j q1), fun p hp => (h1 _ _ (by decide)).trans (b2 p hp), fun a t ha ht => ?_⟩
  have := h2 (6 * a + t) (by omega)
  rw [show (6 * a + t) / 6 = a by omega, show (6 * a + t) % 6 = t by omega] at this
  exact this
