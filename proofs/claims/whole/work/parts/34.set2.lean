/-! settling: the reference's rounds end in the one solution -/
def Se_fix (r : Nat) (X : mx_Mm) : Prop := (∀ k, k < 18 → X 192 k = Mo_sd r (k / 3) (k % 3) X) ∧ (∀ k, k < 108 → X 194 k = Mo_cd r (k / 18) (k % 18) X) ∧ ∀ k, k < 108 → X 196 k = Mo_pd (k / 18) (k % 18) X
def Se_own (r : Nat) (m : mx_Mm) : Prop := (∀ k, k < 18 → m 192 k = -1 ∨ m 192 k = m 188 (6 * (k / 3) + r)) ∧ (∀ k, k < 108 → m 194 k = -1 ∨ m 194 k = m 188 (6 * (k / 18) + r)) ∧ ∀ k, k < 108 → m 196 k = -1 ∨ m 196 k = m 188 (6 * (k / 18) + k % 18 / 3)
def Se_via (rk : Nat → Nat → Nat) (m : mx_Mm) : Prop := (∀ t n, t < 6 → n < 6 → rk t n < 6) ∧ ∀ t k n, t < 6 → k < 6 → n < 6 → m 188 (6 * k + t) = nI n → rk t k < rk t n
def Se_good (rk : Nat → Nat → Nat) (r : Nat) (X : mx_Mm) (j : Nat) (m : mx_Mm) : Prop := (∀ k, k < 18 → rk r (k / 3) < j → m 192 k = X 192 k) ∧ (∀ k, k < 108 → 6 + rk r (k / 18) < j → m 194 k = X 194 k) ∧ ∀ k, k < 108 → 12 + rk (k % 18 / 3) (k / 18) < j → m 196 k = X 196 k
theorem Mo_sd_own {r n g : Nat} {m : mx_Mm} : Mo_sd r n g m = -1 ∨ Mo_sd r n g m = m 188 (6 * n + r) := by
  unfold Mo_sd
  split
  · exact Or.inl rfl
  · exact Or.inr rfl
theorem Mo_cd_own {r n st : Nat} {m : mx_Mm} : Mo_cd r n st m = -1 ∨ Mo_cd r n st m = m 188 (6 * n + r) := by
  unfold Mo_cd
  split
  · exact Or.inl rfl
  · split
    · exact Or.inr rfl
    · exact Or.inl rfl
theorem Mo_pd_own {n st : Nat} {m : mx_Mm} : Mo_pd n st m = -1 ∨ Mo_pd n st m = m 188 (6 * n + st / 3) := by
  unfold Mo_pd
  split
  · exact Or.inr rfl
  · exact Or.inl rfl
theorem Se_fix.own {r : Nat} {X : mx_Mm} (h : Se_fix r X) : Se_own r X := by
  refine ⟨fun k hk => ?_, fun k hk => ?_, fun k hk => ?_⟩
  · rw [h.1 k hk]; exact Mo_sd_own
  · rw [h.2.1 k hk]; exact Mo_cd_own
  · rw [h.2.2 k hk]; exact Mo_pd_own
theorem own_via {a b : Int32} {n : Nat} (hn : n < 6) (h : a = -1 ∨ a = b) (e : a = nI n) : b = nI n := by
  rcases h with h | h
  · rw [h] at e; exact absurd e.symm (pm_nI_m1 (by omega))
  · rw [← h]; exact e
theorem Se_c {rk : Nat → Nat → Nat} {r j n k g : Nat} {m X : mx_Mm} (hr : r < 6) (hv : Se_via rk m) (hs : Se_same m X) (hm : Se_own r m) (hX : Se_own r X) (hg : Se_good rk r X j m) (hn : n < 6) (hk : k < 6) (hg3 : g < 3) (hj : rk r n ≤ j) : (m 192 (3 * k + g) = nI n ↔ X 192 (3 * k + g) = nI n) ∧ (m 192 (3 * k + g) = nI n → rk r k < rk r n) := by
  have e1 : (3 * k + g) / 3 = k := by omega
  have a1 : m 192 (3 * k + g) = nI n → rk r k < rk r n := fun e => by
    have := own_via hn (hm.1 (3 * k + g) (by omega)) e
    rw [e1] at this
    exact hv.2 r k n hr hk hn this
  have a2 : X 192 (3 * k + g) = nI n → rk r k < rk r n := fun e => by
    have := own_via hn (hX.1 (3 * k + g) (by omega)) e
    rw [e1, ← hs 188 _ (by decide) (by decide) (by decide)] at this
    exact hv.2 r k n hr hk hn this
  have a3 : rk r k < rk r n → m 192 (3 * k + g) = X 192 (3 * k + g) := fun h => hg.1 _ (by omega) (by rw [e1]; omega)
  exact ⟨⟨fun e => by rw [← a3 (a1 e)]; exact e, fun e => by rw [a3 (a2 e)]; exact e⟩, a1⟩
theorem Se_sd {rk : Nat → Nat → Nat} {r j k : Nat} {m X : mx_Mm} (hr : r < 6) (hv : Se_via rk m) (hs : Se_same m X) (hm : Se_own r m) (hf : Se_fix r X) (hg : Se_good rk r X j m) (hk : k < 18) (hj : rk r (k / 3) ≤ j) : Mo_sd r (k / 3) (k % 3) m = X 192 k := by
  rw [hf.1 k hk]
  exact Mo_sd_eq hs (fun k' hk' => (Se_c hr hv hs hm hf.own hg (by omega) hk' (by omega) hj).1)
theorem Se_in {rk : Nat → Nat → Nat} {r j n k st : Nat} {m X : mx_Mm} (hr : r < 6) (hv : Se_via rk m) (hs : Se_same m X) (hm : Se_own r m) (hX : Se_own r X) (hg : Se_good rk r X j m) (hn : n < 6) (hk : k < 6) (hst : st < 18) (hj : 6 + rk r n ≤ j) : Mo_in n k st m ↔ Mo_in n k st X := by
  obtain ⟨h1, h2⟩ := Se_c (g := st % 3) hr hv hs hm hX hg hn hk (by omega) (by omega)
  have h3 : m 192 (3 * k + st % 3) = nI n → m 194 (18 * k + st) = X 194 (18 * k + st) := fun e => hg.2.1 _ (by omega) (by
    have e1 : (18 * k + st) / 18 = k := by omega
    rw [e1]
    have := h2 e
    omega)
  constructor
  · intro h
    exact ⟨h1.mp h.1, by rw [← h3 h.1]; exact h.2⟩
  · intro h
    exact ⟨h1.mpr h.1, by rw [h3 (h1.mpr h.1)]; exact h.2⟩
theorem Se_cd {rk : Nat → Nat → Nat} {r j k : Nat} {m X : mx_Mm} (hr : r < 6) (hv : Se_via rk m) (hs : Se_same m X) (hm : Se_own r m) (hf : Se_fix r X) (hg : Se_good rk r X j m) (hk : k < 108) (hj : 6 + rk r (k / 18) ≤ j) : Mo_cd r (k / 18) (k % 18) m = X 194 k := by
  rw [hf.2.1 k hk]
  exact Mo_cd_eq hs (hg.1 _ (by omega) (by
    have e1 : (3 * (k / 18) + k % 18 % 3) / 3 = k / 18 := by omega
    rw [e1]; omega)) (fun k' hk' => Se_in hr hv hs hm hf.own hg (by omega) hk' (by omega) hj)
theorem Se_pd {rk : Nat → Nat → Nat} {r j k : Nat} {m X : mx_Mm} (hr : r < 6) (hv : Se_via rk m) (hs : Se_same m X) (hm : Se_own r m) (hf : Se_fix r X) (hg : Se_good rk r X j m) (hk : k < 108) (hj : 12 + rk (k % 18 / 3) (k / 18) ≤ j) : Mo_pd (k / 18) (k % 18) m = X 196 k := by
  have hX := hf.own
  have hp : ∀ k', k' < 6 → (m 196 (18 * k' + k % 18) = nI (k / 18) ↔ X 196 (18 * k' + k % 18) = nI (k / 18)) := fun k' hk' => by
    have e1 : (18 * k' + k % 18) / 18 = k' := by omega
    have e2 : (18 * k' + k % 18) % 18 = k % 18 := by omega
    have a0 : m 188 (6 * k' + k % 18 / 3) = nI (k / 18) → m 196 (18 * k' + k % 18) = X 196 (18 * k' + k % 18) := fun e => hg.2.2 _ (by omega) (by
      have := hv.2 (k % 18 / 3) k' (k / 18) (by omega) hk' (by omega) e
      rw [e1, e2]
      omega)
    constructor
    · intro e
      have h1 := own_via (by omega) (hm.2.2 (18 * k' + k % 18) (by omega)) e
      rw [e1, e2] at h1
      rw [← a0 h1]; exact e
    · intro e
      have h1 := own_via (by omega) (hX.2.2 (18 * k' + k % 18) (by omega)) e
      rw [e1, e2, ← hs 188 _ (by decide) (by decide) (by decide)] at h1
      rw [a0 h1]; exact e
  rw [hf.2.2 k hk]
  refine Mo_pd_eq hs (fun k' hk' => or_congr ?_ (hp k' hk')) hp
  have hb := hv.1 r (k / 18) hr (by omega)
  exact Se_in hr hv hs hm hX hg (by omega) hk' (by omega) (by omega)
