/-! all rounds -/
theorem up_self (m : mx_Mm) (p k : Nat) : mx_up m p k (m p k) = m := by
  funext q j
  by_cases e : q = p ∧ j = k
  · rw [e.1, e.2, up_same]
  · rw [up_ne e]
theorem it10 {c : Prop} [Decidable c] (h : (if c then nI 1 else nI 0) = 0) : ¬ c := fun q => by
  rw [if_pos q] at h
  exact absurd h (by decide)
theorem rd_stop {r : Nat} {m : mx_Mm} (h : (Mo_rd r m).1 = 0) : (Mo_rd r m).2 = m := by
  have h1 := lp_keep (f := Mo_r1 r) (fun a : Int32 × mx_Mm => a.1 = 0 → a.2 = m) 18 (m := (nI 0, m)) (fun _ => rfl) (fun k a _ hI hz => by
    have h1 : Mo_rv1 r k a = 0 := hz
    have h2 := not_or.mp (it10 h1)
    have h3 : a.1 = 0 := Decidable.not_not.mp h2.1
    have h4 : Mo_sd r (k / 3) (k % 3) a.2 = a.2 192 k := Decidable.not_not.mp h2.2
    show mx_up a.2 192 k (Mo_sd r (k / 3) (k % 3) a.2) = m
    rw [h4, up_self]
    exact hI h3)
  have h2 := lp_keep (f := Mo_r2 r) (fun a : Int32 × mx_Mm => a.1 = 0 → a.2 = m) 108 (m := mx_lp 18 (Mo_r1 r) (nI 0, m)) h1 (fun k a _ hI hz => by
    have h1 : Mo_rv2 r k a = 0 := hz
    have h2 := not_or.mp (it10 h1)
    have h5 := not_or.mp h2.2
    have h3 : a.1 = 0 := Decidable.not_not.mp h2.1
    have h4 : Mo_cd r (k / 18) (k % 18) a.2 = a.2 194 k := Decidable.not_not.mp h5.1
    have h6 : Mo_pd (k / 18) (k % 18) a.2 = a.2 196 k := Decidable.not_not.mp h5.2
    show mx_up (mx_up a.2 194 k (Mo_cd r (k / 18) (k % 18) a.2)) 196 k (Mo_pd (k / 18) (k % 18) a.2) = m
    rw [h4, up_self, h6, up_self]
    exact hI h3)
  exact h2 h
theorem n10 : ¬ nI 1 = 0 := by decide
theorem Se_all {rk : Nat → Nat → Nat} {r : Nat} {m X : mx_Mm} (hr : r < 6) (hv : Se_via rk X) (hf : Se_fix r X) (hs : Se_same m X) : Se_I rk r X 99 (Mo_rr r m).2 := by
  have h := lp_inv (f := fun _ => Mo_rs r) (fun i (a : Int32 × mx_Mm) => Se_same a.2 X ∧ (i = 0 → ¬ a.1 = 0) ∧ (1 ≤ i → Se_I rk r X (i - 1) a.2) ∧ (a.1 = 0 → (Mo_rd r a.2).2 = a.2)) 100 (m := (nI 1, m)) ⟨hs, fun _ => n10, fun q => absurd q (by decide), fun q => absurd q n10⟩ (fun i a hi hI => by
    obtain ⟨i1, i2, i3, i4⟩ := hI
    unfold Mo_rs
    split
    next hz =>
      have hi1 : 1 ≤ i := by
        rcases Nat.eq_zero_or_pos i with e | e
        · exact absurd hz (i2 e)
        · exact e
      refine ⟨i1, fun q => absurd q (by omega), fun _ => ?_, i4⟩
      have q := Se_round hr hv hf (i3 hi1)
      rw [i4 hz, show i - 1 + 1 = i + 1 - 1 by omega] at q
      exact q
    next hz =>
      have q : Se_I rk r X (i + 1 - 1) (Mo_rd r a.2).2 := by
        rcases Nat.eq_zero_or_pos i with e | e
        · subst e; exact Se_first i1
        · have q := Se_round hr hv hf (i3 e)
          rw [show i - 1 + 1 = i + 1 - 1 by omega] at q
          exact q
      refine ⟨q.1, fun q => absurd q (by omega), fun _ => q, fun e => ?_⟩
      rw [rd_stop e]
      exact rd_stop e)
  exact h.2.2.1 (by decide)
/-- so the joins and cuts are the solution's -/
theorem Se_end {rk : Nat → Nat → Nat} {r : Nat} {m X : mx_Mm} (hr : r < 6) (hv : Se_via rk X) (hf : Se_fix r X) (hs : Se_same m X) : (∀ k, k < 18 → (Mo_rr r m).2 192 k = X 192 k) ∧ (∀ k, k < 108 → (Mo_rr r m).2 194 k = X 194 k) ∧ ∀ k, k < 108 → (Mo_rr r m).2 196 k = X 196 k := by
  obtain ⟨-, -, g1, g2, g3⟩ := Se_all hr hv hf hs
  refine ⟨fun k hk => g1 k hk ?_, fun k hk => g2 k hk ?_, fun k hk => g3 k hk ?_⟩
  · have := hv.1 r (k / 3) hr (by omega)
    omega
  · have := hv.1 r (k / 18) hr (by omega)
    omega
  · have := hv.1 (k % 18 / 3) (k / 18) (by omega) (by omega)
    omega
