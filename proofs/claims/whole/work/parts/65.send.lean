/-! class and reference side by side: sending -/
theorem pm_fd_ex {n : Nat} {c : Nat → Bool} : pm_fd n c < n ↔ ∃ j, j < n ∧ c j = true := by
  constructor
  · intro h; exact ⟨_, h, (pm_fd_spec n c).2 h⟩
  · rintro ⟨j, hj, e⟩
    have hle := pm_fd_le n c
    rcases Nat.lt_or_ge (pm_fd n c) n with h | h
    · exact h
    · have := (pm_fd_spec n c).1 j (by omega)
      rw [e] at this; cases this
theorem some_eq {r t st : Nat} {a b : mx_Mm} (h : Core r t a b) (hst : st < 18) : Sm_some st a ↔ ¬ Mo_ru st b = 0 := by
  obtain ⟨-, -, hmk, -, hke, -⟩ := h
  unfold Sm_some
  rw [pm_fd_ex, ru_ne]
  constructor
  · rintro ⟨n, hn, e⟩
    unfold Sm_al at e
    have := of_decide_eq_true e
    rw [hmk.1, hke st n hst hn] at this
    exact ⟨n, hn, this⟩
  · rintro ⟨n, hn, e⟩
    refine ⟨n, hn, decide_eq_true ?_⟩
    rw [hmk.1, hke st n hst hn]
    exact e
theorem cnt_eq {r t : Nat} {a b : mx_Mm} (h : Core r t a b) : Sm_cnt a = Mo_oc b := by
  unfold Sm_cnt Mo_oc
  refine lp_congr 18 0 (fun i c hi => ?_)
  unfold Sm_c1 Mo_o1
  have := some_eq h hi
  by_cases e : Sm_some i a
  · rw [if_pos e, if_pos (this.mp e)]
  · rw [if_neg e, if_neg (fun z => e (this.mpr z))]
theorem oc_le {b : mx_Mm} : Mo_oc b ≤ 18 := by
  have h := lp_inv (f := Mo_o1 b) (fun i c => c ≤ i) 18 (m := 0) (Nat.le_refl _) (fun i c _ hc => by
    unfold Mo_o1
    split <;> omega)
  exact h
theorem sd_eq {r t : Nat} {s g : Int32} {a b : mx_Mm} (h : Core r t a b) : C_sdP s g a ↔ ¬ Mo_rf s g b := by
  unfold C_sdP Mo_rf
  by_cases c : rt s ∧ gp g
  · obtain ⟨e1, h1⟩ := in_tn c.1 (by decide)
    obtain ⟨e2, h2⟩ := in_tn c.2 (by decide)
    have e3 : tn s * 3 + tn g = 3 * tn s + tn g := by omega
    rw [e3, some_eq h (show 3 * tn s + tn g < 18 by omega), cnt_eq h]
    have e4 : nI (Mo_oc b) < nI 5 ↔ Mo_oc b < 5 := nI_ltI (by have := oc_le (b := b); omega) (by decide)
    rw [e4]
    constructor
    · rintro ⟨-, -, z⟩ (w | w)
      · exact w c
      · rcases z with z | z
        · exact z w.1
        · exact w.2 z
    · intro z
      refine ⟨c.1, c.2, ?_⟩
      by_cases w : Mo_ru (3 * tn s + tn g) b = 0
      · refine Or.inr (Decidable.byContradiction fun k => z (Or.inr ⟨w, k⟩))
      · exact Or.inl w
  · exact ⟨fun z => absurd ⟨z.1, z.2.1⟩ c, fun z => absurd (Or.inl c) z⟩
theorem S_pk.fr {a b a' b' : mx_Mm} (h : S_pk a b) (ha : ∀ j, 8 ≤ j → j < 12 → a' 165 j = a 165 j) (hb : ∀ j, 19 ≤ j → j < 23 → b' 185 j = b 185 j) : S_pk a' b' := by
  unfold S_pk
  rw [ha 8 (by omega) (by omega), ha 9 (by omega) (by omega), ha 10 (by omega) (by omega), ha 11 (by omega) (by omega), hb 19 (by omega) (by omega), hb 20 (by omega) (by omega), hb 21 (by omega) (by omega), hb 22 (by omega) (by omega)]
  exact h
theorem Pa_ok.fr {r : Nat} {a a' : mx_Mm} (h : Pa_ok r a) (ha : ∀ p j, p = 79 ∨ p = 165 ∨ p = 166 → a' p j = a p j) : Pa_ok r a' := by
  obtain ⟨h1, ⟨c, hc, h2⟩, h3⟩ := h
  exact ⟨(ha _ _ (by omega)).trans h1, ⟨c, hc, (ha _ _ (by omega)).trans h2⟩, fun k hk => by rw [ha _ _ (by omega)]; exact h3 k hk⟩
theorem nTr {p : Nat} (h : p = 79 ∨ 165 ≤ p) : ¬ Tr_fp p := fun z => by unfold Tr_fp at z; omega
theorem nMo {p : Nat} (h : p < 192 ∨ 202 ≤ p) : ¬ Mo_fp p := fun z => by unfold Mo_fp at z; omega
theorem send_core {r t s g st : Nat} {a b : mx_Mm} (hr : r < 6) (hs : s < 6) (hg : g < 3) (est : s * 3 + g = st) (hpk : Pa_ok r a) (h : Core r t a b) :
    Core r t (Tr_settle r (Pa_disp s g r a)) (Mo_settle r (Mo_pk r s st b).2) ∧ S_pk (Tr_settle r (Pa_disp s g r a)) (Mo_settle r (Mo_pk r s st b).2) ∧ Pa_ok r (Tr_settle r (Pa_disp s g r a)) ∧ bc ((Tr_settle r (Pa_disp s g r a)) 165 11) = nI (Mo_pk r s st b).1 ∧ (∀ p j, p = 0 ∨ 168 ≤ p → (Tr_settle r (Pa_disp s g r a)) p j = a p j) ∧ ∀ p j, p < 185 ∨ 206 ≤ p ∨ (p = 185 ∧ 23 ≤ j) → (Mo_settle r (Mo_pk r s st b).2) p j = b p j := by
  obtain ⟨⟨ht, hb⟩, hn, hmk, hme, hke, hss, hq, hal, hv, hls, hc, hlo, ka, kb⟩ := id h
  obtain ⟨m1, m2, m3, m4, m5, m6, m7, m8, m9, m10, m11⟩ := Pk_match (t := t) hs hg hr est ka hn hmk hke hss hq hal hv hls hc hlo hb (by omega)
  obtain ⟨d1, -⟩ := disp_spec hs hg hr est hn.1 (hss st (by omega))
  obtain ⟨p1, -⟩ := pk_spec (b := b) (r := r) (s := s) (st := st) (by omega) hs hr
  have k1 : Tr_ok r (Pa_disp s g r a) := Tr_disp_ok hs hg ka
  have k2 : Mo_ok r (Mo_pk r s st b).2 := Mo_pk_ok kb
  have k3 : Pa_ok r (Pa_disp s g r a) := Pa_disp_ok hs hg hr hpk
  have ft := ft_disp s g r hs hg a
  generalize Pa_disp s g r a = a' at m1 m2 m3 m4 m5 m7 m8 m9 m10 m11 d1 k1 k3 ft ⊢
  generalize Mo_pk r s st b = B at m1 m2 m3 m4 m5 m6 m7 m8 m9 m10 m11 p1 k2 ⊢
  obtain ⟨cnt, b'⟩ := B
  have hst : st < 18 := by omega
  have p1' : ∀ p j, ¬ (198 ≤ p ∧ p < 206) → ¬ (p = 185 ∧ 19 ≤ j ∧ j < 23) → b' p j = b p j := p1
  have hpre : Cpre r t a' b' := by
    refine ⟨⟨ht, (p1' 185 1 (by omega) (by omega)).trans hb⟩, m1, m2, hme.fr (fun p j _ => d1 p j (by omega) (by omega) (by omega) (by omega) (by omega) (by omega) (by omega) (by omega)) (fun p j _ => p1' p j (by omega) (by omega)), m3, fun st' h1 => ?_, m5, m7, m8, m9, k1, k2⟩
    exact bs_cg (m4 st' h1) (fun n _ => and_congr_right (fun hn => ⟨fun z => ⟨z, m6 n st' hn h1 z⟩, fun z => z.1⟩))
  obtain ⟨s1, s2, s3⟩ := settle_core hr hpre
  have m11' : bc (a' 165 11) = nI cnt := m11
  refine ⟨s1, m10.fr (fun j _ _ => s2 _ _ (nTr (by omega))) (fun j _ _ => s3 _ _ (nMo (by omega))), k3.fr (fun p j hp => s2 p j (nTr (by omega))), ?_, fun p j hp => ?_, fun p j hp => ?_⟩
  · rw [s2 165 11 (nTr (by omega))]; exact m11'
  · rcases hp with hp | hp
    · rw [s2 p j (fun z => by unfold Tr_fp at z; omega)]
      exact d1 p j (by omega) (by omega) (by omega) (by omega) (by omega) (by omega) (by omega) (by omega)
    · rw [s2 p j (nTr (by omega))]
      exact ft p j (by show ¬ p < 168; omega)
  · show (Mo_settle r b') p j = b p j
    rw [s3 p j (nMo (by omega))]
    exact p1' p j (by omega) (by omega)
