/-! a round of the reference -/
def Se_I (rk : Nat → Nat → Nat) (r : Nat) (X : mx_Mm) (j : Nat) (m : mx_Mm) : Prop := Se_same m X ∧ Se_own r m ∧ Se_good rk r X j m
theorem Se_via.of {rk : Nat → Nat → Nat} {m X : mx_Mm} (h : Se_via rk X) (hs : Se_same m X) : Se_via rk m := ⟨h.1, fun t k n ht hk hn e => h.2 t k n ht hk hn (by rw [← hs 188 _ (by decide) (by decide) (by decide)]; exact e)⟩
theorem Se_same.up {m X : mx_Mm} (h : Se_same m X) {p k : Nat} {x : Int32} (hp : p = 192 ∨ p = 194 ∨ p = 196) : Se_same (mx_up m p k x) X := fun q j h1 h2 h3 => by
  rw [up_neP (by omega)]
  exact h q j h1 h2 h3
theorem Se_u1 {rk : Nat → Nat → Nat} {r j k : Nat} {m X : mx_Mm} (hr : r < 6) (hv : Se_via rk X) (hf : Se_fix r X) (hk : k < 18) (h : Se_I rk r X j m) : Se_I rk r X j (mx_up m 192 k (Mo_sd r (k / 3) (k % 3) m)) ∧ (rk r (k / 3) ≤ j → (mx_up m 192 k (Mo_sd r (k / 3) (k % 3) m)) 192 k = X 192 k) := by
  obtain ⟨hs, ho, hg⟩ := h
  have hd := fun hj => Se_sd (k := k) hr (hv.of hs) hs ho hf hg hk hj
  refine ⟨⟨hs.up (Or.inl rfl), ⟨fun k' hk' => ?_, fun k' hk' => ?_, fun k' hk' => ?_⟩, fun k' hk' hj => ?_, fun k' hk' hj => ?_, fun k' hk' hj => ?_⟩, fun hj => ?_⟩
  · rw [up_neP (p := 192) (q := 188) (by decide)]
    by_cases e : k' = k
    · subst e; rw [up_same]; exact Mo_sd_own
    · rw [up_neK e]; exact ho.1 k' hk'
  · rw [up_neP (by decide), up_neP (by decide)]; exact ho.2.1 k' hk'
  · rw [up_neP (by decide), up_neP (by decide)]; exact ho.2.2 k' hk'
  · by_cases e : k' = k
    · subst e; rw [up_same]; exact hd (by omega)
    · rw [up_neK e]; exact hg.1 k' hk' hj
  · rw [up_neP (by decide)]; exact hg.2.1 k' hk' hj
  · rw [up_neP (by decide)]; exact hg.2.2 k' hk' hj
  · rw [up_same]; exact hd hj
theorem Se_u2 {rk : Nat → Nat → Nat} {r j k : Nat} {m X : mx_Mm} (hr : r < 6) (hv : Se_via rk X) (hf : Se_fix r X) (hk : k < 108) (h : Se_I rk r X j m) : Se_I rk r X j (mx_up (mx_up m 194 k (Mo_cd r (k / 18) (k % 18) m)) 196 k (Mo_pd (k / 18) (k % 18) m)) ∧ (6 + rk r (k / 18) ≤ j → Mo_cd r (k / 18) (k % 18) m = X 194 k) ∧ (12 + rk (k % 18 / 3) (k / 18) ≤ j → Mo_pd (k / 18) (k % 18) m = X 196 k) := by
  obtain ⟨hs, ho, hg⟩ := h
  have hd := fun hj => Se_cd (k := k) hr (hv.of hs) hs ho hf hg hk hj
  have hp := fun hj => Se_pd (k := k) hr (hv.of hs) hs ho hf hg hk hj
  refine ⟨⟨(hs.up (Or.inr (Or.inl rfl))).up (Or.inr (Or.inr rfl)), ⟨fun k' hk' => ?_, fun k' hk' => ?_, fun k' hk' => ?_⟩, fun k' hk' hj => ?_, fun k' hk' hj => ?_, fun k' hk' hj => ?_⟩, hd, hp⟩
  · rw [up_neP (by decide), up_neP (by decide), up_neP (by decide), up_neP (by decide)]; exact ho.1 k' hk'
  · rw [up_neP (p := 196) (q := 194) (by decide), up_neP (p := 196) (q := 188) (by decide), up_neP (p := 194) (q := 188) (by decide)]
    by_cases e : k' = k
    · subst e; rw [up_same]; exact Mo_cd_own
    · rw [up_neK e]; exact ho.2.1 k' hk'
  · rw [up_neP (p := 196) (q := 188) (by decide), up_neP (p := 194) (q := 188) (by decide)]
    by_cases e : k' = k
    · subst e; rw [up_same]; exact Mo_pd_own
    · rw [up_neK e, up_neP (by decide)]; exact ho.2.2 k' hk'
  · rw [up_neP (by decide), up_neP (by decide)]; exact hg.1 k' hk' hj
  · rw [up_neP (p := 196) (q := 194) (by decide)]
    by_cases e : k' = k
    · subst e; rw [up_same]; exact hd (by omega)
    · rw [up_neK e]; exact hg.2.1 k' hk' hj
  · by_cases e : k' = k
    · subst e; rw [up_same]; exact hp (by omega)
    · rw [up_neK e, up_neP (by decide)]; exact hg.2.2 k' hk' hj
/-- loops whose invariant speaks of the turns done -/
theorem lp_inv {α : Type} {f : Nat → α → α} (I : Nat → α → Prop) : ∀ (n : Nat) {m : α}, I 0 m → (∀ i m, i < n → I i m → I (i + 1) (f i m)) → I n (mx_lp n f m)
  | 0, _, h, _ => h
  | n + 1, _, h, hs => hs n _ (by omega) (lp_inv I n h (fun i m hi => hs i m (by omega)))
theorem r2_192 {r k j : Nat} {a : Int32 × mx_Mm} : (Mo_r2 r k a).2 192 j = a.2 192 j := by
  show (mx_up (mx_up a.2 194 k (Mo_cd r (k / 18) (k % 18) a.2)) 196 k (Mo_pd (k / 18) (k % 18) a.2)) 192 j = a.2 192 j
  rw [up_neP (by decide), up_neP (by decide)]
theorem r2_194 {r k j : Nat} {a : Int32 × mx_Mm} : (Mo_r2 r k a).2 194 j = mx_up a.2 194 k (Mo_cd r (k / 18) (k % 18) a.2) 194 j := by
  show (mx_up (mx_up a.2 194 k (Mo_cd r (k / 18) (k % 18) a.2)) 196 k (Mo_pd (k / 18) (k % 18) a.2)) 194 j = _
  rw [up_neP (by decide)]
theorem Se_round {rk : Nat → Nat → Nat} {r j : Nat} {m X : mx_Mm} (hr : r < 6) (hv : Se_via rk X) (hf : Se_fix r X) (h : Se_I rk r X j m) : Se_I rk r X (j + 1) (Mo_rd r m).2 := by
  have h1 := lp_inv (f := Mo_r1 r) (fun i (a : Int32 × mx_Mm) => Se_I rk r X j a.2 ∧ ∀ k, k < i → rk r (k / 3) ≤ j → a.2 192 k = X 192 k) 18 (m := (nI 0, m)) ⟨h, fun k hk => absurd hk (Nat.not_lt_zero _)⟩ (fun i a hi hI => by
    obtain ⟨q1, q2⟩ := Se_u1 hr hv hf hi hI.1
    refine ⟨q1, fun k hk hj => ?_⟩
    by_cases e : k = i
    · subst e; exact q2 hj
    · show (mx_up a.2 192 i _) 192 k = _
      rw [up_neK e]; exact hI.2 k (by omega) hj)
  have h2 := lp_inv (f := Mo_r2 r) (fun i (a : Int32 × mx_Mm) => Se_I rk r X j a.2 ∧ (∀ k, k < 18 → rk r (k / 3) ≤ j → a.2 192 k = X 192 k) ∧ (∀ k, k < i → 6 + rk r (k / 18) ≤ j → a.2 194 k = X 194 k) ∧ ∀ k, k < i → 12 + rk (k % 18 / 3) (k / 18) ≤ j → a.2 196 k = X 196 k) 108 (m := mx_lp 18 (Mo_r1 r) (nI 0, m)) ⟨h1.1, h1.2, fun k hk => absurd hk (Nat.not_lt_zero _), fun k hk => absurd hk (Nat.not_lt_zero _)⟩ (fun i a hi hI => by
    obtain ⟨q1, q2, q3⟩ := Se_u2 hr hv hf hi hI.1
    refine ⟨q1, fun k hk hj => ?_, fun k hk hj => ?_, fun k hk hj => ?_⟩
    · rw [r2_192]; exact hI.2.1 k hk hj
    · rw [r2_194]
      by_cases e : k = i
      · subst e; rw [up_same]; exact q2 hj
      · rw [up_neK e]; exact hI.2.2.1 k (by omega) hj
    · show (mx_up (mx_up a.2 194 i _) 196 i _) 196 k = _
      by_cases e : k = i
      · subst e; rw [up_same]; exact q3 hj
      · rw [up_neK e, up_neP (by decide)]; exact hI.2.2.2 k (by omega) hj)
  obtain ⟨⟨hs, ho, -⟩, g1, g2, g3⟩ := h2
  exact ⟨hs, ho, fun k hk hj => g1 k hk (by omega), fun k hk hj => g2 k hk (by omega), fun k hk hj => g3 k hk (by omega)⟩
/-- the first round: every entry becomes none or its own next -/
theorem Se_first {rk : Nat → Nat → Nat} {r : Nat} {m X : mx_Mm} (hs : Se_same m X) : Se_I rk r X 0 (Mo_rd r m).2 := by
  have h1 := lp_inv (f := Mo_r1 r) (fun i (a : Int32 × mx_Mm) => Se_same a.2 X ∧ ∀ k, k < i → a.2 192 k = -1 ∨ a.2 192 k = X 188 (6 * (k / 3) + r)) 18 (m := (nI 0, m)) ⟨hs, fun k hk => absurd hk (Nat.not_lt_zero _)⟩ (fun i a hi hI => by
    refine ⟨hI.1.up (Or.inl rfl), fun k hk => ?_⟩
    show (mx_up a.2 192 i _) 192 k = -1 ∨ (mx_up a.2 192 i _) 192 k = _
    by_cases e : k = i
    · subst e
      rw [up_same, ← hI.1 188 _ (by decide) (by decide) (by decide)]; exact Mo_sd_own
    · rw [up_neK e]; exact hI.2 k (by omega))
  have h2 := lp_inv (f := Mo_r2 r) (fun i (a : Int32 × mx_Mm) => Se_same a.2 X ∧ (∀ k, k < 18 → a.2 192 k = -1 ∨ a.2 192 k = X 188 (6 * (k / 3) + r)) ∧ (∀ k, k < i → a.2 194 k = -1 ∨ a.2 194 k = X 188 (6 * (k / 18) + r)) ∧ ∀ k, k < i → a.2 196 k = -1 ∨ a.2 196 k = X 188 (6 * (k / 18) + k % 18 / 3)) 108 (m := mx_lp 18 (Mo_r1 r) (nI 0, m)) ⟨h1.1, h1.2, fun k hk => absurd hk (Nat.not_lt_zero _), fun k hk => absurd hk (Nat.not_lt_zero _)⟩ (fun i a hi hI => by
    refine ⟨(hI.1.up (Or.inr (Or.inl rfl))).up (Or.inr (Or.inr rfl)), fun k hk => ?_, fun k hk => ?_, fun k hk => ?_⟩
    · rw [r2_192]; exact hI.2.1 k hk
    · rw [r2_194]
      by_cases e : k = i
      · subst e
        rw [up_same, ← hI.1 188 _ (by decide) (by decide) (by decide)]; exact Mo_cd_own
      · rw [up_neK e]; exact hI.2.2.1 k (by omega)
    · show (mx_up (mx_up a.2 194 i _) 196 i _) 196 k = -1 ∨ (mx_up (mx_up a.2 194 i _) 196 i _) 196 k = _
      by_cases e : k = i
      · subst e
        rw [up_same, ← hI.1 188 _ (by decide) (by decide) (by decide)]; exact Mo_pd_own
      · rw [up_neK e, up_neP (by decide)]; exact hI.2.2.2 k (by omega))
  obtain ⟨hs2, g1, g2, g3⟩ := h2
  have hv : ∀ j, X 188 j = (Mo_rd r m).2 188 j := fun j => (hs2 188 j (by decide) (by decide) (by decide)).symm
  refine ⟨hs2, ⟨fun k hk => ?_, fun k hk => ?_, fun k hk => ?_⟩, fun _ _ hj => absurd hj (Nat.not_lt_zero _), fun _ _ hj => absurd hj (Nat.not_lt_zero _), fun _ _ hj => absurd hj (Nat.not_lt_zero _)⟩
  · rw [← hv]; exact g1 k hk
  · rw [← hv]; exact g2 k hk
  · rw [← hv]; exact g3 k hk
