theorem pm_fd_congr : ∀ (n : Nat) {c d : Nat → Bool}, (∀ j, j < n → c j = d j) → pm_fd n c = pm_fd n d
  | 0, _, _, _ => rfl
  | n + 1, c, d, h => by
    unfold pm_fd
    rw [pm_fd_congr n (fun j hj => h j (by omega)), h n (by omega)]
theorem Ne_next_eq {a t : Nat} (ha : a < 6) (ht : t < 6) {m A c : mx_Mm} (h : Rl m A) (hc : ∀ a b, a < 6 → b < 6 → m (7 + a) b = c a b) : Ne_next a t m = pm_N c A a t := by
  have e : pm_fd 6 (Ne_nt a t m) = pm_fd 6 (pm_t c A a t) := pm_fd_congr 6 (fun n hn => by
    unfold Ne_nt pm_t
    rw [hc a n ha hn, h n t hn ht, h a t ha ht])
  unfold Ne_next pm_N
  rw [e, h a t ha ht]
  rfl
theorem Ne_m1_spec {t : Nat} (ht : t < 6) {m A c : mx_Mm} (h : Rl m A) (hc : ∀ a b, a < 6 → b < 6 → m (7 + a) b = c a b) : (∀ p j, ¬ (21 ≤ p ∧ p < 27 ∧ j = t) → (mx_lp 6 (Ne_m1 t) m) p j = m p j) ∧ ∀ a, a < 6 → (mx_lp 6 (Ne_m1 t) m) (21 + a) t = pm_N c A a t := by
  have q := lp_inv (f := Ne_m1 t) (fun i x => (∀ p j, ¬ (21 ≤ p ∧ p < 27 ∧ j = t) → x p j = m p j) ∧ ∀ a, a < i → x (21 + a) t = pm_N c A a t) 6 (m := m) ⟨fun _ _ _ => rfl, fun a ha => absurd ha (Nat.not_lt_zero _)⟩ (fun i x hi hI => by
    refine ⟨fun p j hp => ?_, fun a ha => ?_⟩
    · show (mx_up x (21 + i) t _) p j = _
      rw [up_ne (by omega)]; exact hI.1 p j hp
    · show (mx_up x (21 + i) t (Ne_next i t x)) (21 + a) t = _
      by_cases e : a = i
      · subst e
        rw [up_same]
        exact Ne_next_eq hi ht (fun a b ha hb => (hI.1 _ _ (by omega)).trans (h a b ha hb)) (fun a b ha hb => (hI.1 _ _ (by omega)).trans (hc a b ha hb))
      · rw [up_neP (by omega)]; exact hI.2 a (by omega))
  exact q
theorem Or_cg {t : Nat} (ht : t < 6) {m x : mx_Mm} (h : Or_n t 6 m) (h1 : ∀ k, x (28 + t) k = m (28 + t) k) (h2 : ∀ a, a < 6 → x (14 + a) t = m (14 + a) t) : Or_n t 6 x := by
  obtain ⟨o1, o2, o3⟩ := h
  refine ⟨fun k hk => by rw [h1]; exact o1 k hk, fun j hj => ?_, fun i k hik hk => ?_⟩
  · obtain ⟨k, hk, e⟩ := o2 j hj
    exact ⟨k, hk, by rw [h1]; exact e⟩
  · rw [h1, h1, h2 _ (o1 i (by omega)), h2 _ (o1 k hk)]
    exact o3 i k hik hk
/-- all that measuring leaves -/
theorem Ne_measure_spec {m : mx_Mm} (hk : Ne_ok m) : (∀ p j, p < 14 ∨ 34 ≤ p → (Ne_measure m) p j = m p j) ∧ Rl (Ne_measure m) (pm_F (mc m)) ∧ (∀ a t, a < 6 → t < 6 → (Ne_measure m) (21 + a) t = pm_N (mc m) (pm_F (mc m)) a t) ∧ ∀ t, t < 6 → Or_n t 6 (Ne_measure m) := by
  obtain ⟨l1, l2⟩ := Ne_len_spec m
  have hk0 : Ne_ok (mx_lp 6 Ne_sh (Ne_start m)) := fun t k ht hk' => by rw [l1 _ _ (by omega)]; exact hk t k ht hk'
  have q := lp_inv (f := Ne_m2) (fun i x => Ne_ok x ∧ (∀ p j, p < 14 ∨ 34 ≤ p → x p j = m p j) ∧ Rl x (pm_F (mc m)) ∧ (∀ a t, a < 6 → t < i → x (21 + a) t = pm_N (mc m) (pm_F (mc m)) a t) ∧ ∀ t, t < i → Or_n t 6 x) 6 (m := mx_lp 6 Ne_sh (Ne_start m)) ⟨hk0, fun p j hp => l1 p j (by omega), l2, fun a t _ h => absurd h (Nat.not_lt_zero _), fun t h => absurd h (Nat.not_lt_zero _)⟩ (fun i x hi hI => by
    obtain ⟨i1, i2, i3, i4, i5⟩ := hI
    obtain ⟨s1, s2⟩ := Ne_m1_spec hi i3 (c := mc m) (fun a b ha hb => i2 _ _ (by omega))
    have hk1 : Ne_ok (mx_lp 6 (Ne_m1 i) x) := Ne_m1s_ok i1
    obtain ⟨o1, o2⟩ := Or_all hi hk1
    have hk2 : Ne_ok (Ne_m2 i x) := Ne_m2_ok hi i1
    have f : ∀ p j, p ≠ 28 + i → ¬ (21 ≤ p ∧ p < 27 ∧ j = i) → (Ne_m2 i x) p j = x p j := fun p j h1 h2 => (o2 p j h1).trans (s1 p j h2)
    refine ⟨hk2, fun p j hp => ?_, fun a b ha hb => ?_, fun a t ha htt => ?_, fun t htt => ?_⟩
    · rw [f p j (by omega) (by omega)]; exact i2 p j hp
    · rw [f _ _ (by omega) (by omega)]; exact i3 a b ha hb
    · by_cases e : t = i
      · subst e
        exact (o2 _ _ (by omega)).trans (s2 a ha)
      · rw [f _ _ (by omega) (by omega)]; exact i4 a t ha (by omega)
    · by_cases e : t = i
      · subst e; exact o1
      · exact Or_cg (by omega) (i5 t (by omega)) (fun k => f _ _ (by omega) (by omega)) (fun a ha => f _ _ (by omega) (by omega)))
  exact q.2
