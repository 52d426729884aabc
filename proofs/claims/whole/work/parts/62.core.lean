/-! class and reference side by side: the core, kept by settling -/
def S_mem (a b : mx_Mm) : Prop := ∀ l g, l < 6 → g < 3 → bs (a (36 + l) g) (fun h => h < 4 ∧ ¬ b 189 (12 * l + 3 * h + g) = 0) ∧ a (50 + l) g = b 191 (3 * l + g)
/-- what stands before a settling -/
def Cpre (r t : Nat) (a b : mx_Mm) : Prop := (t + 100 < 2 ^ 31 ∧ b 185 1 = nI t) ∧ S_net a b ∧ S_mk a b ∧ S_mem a b ∧ S_ka a b ∧ (∀ st, st < 18 → bs (a 77 st) (fun n => n < 6 ∧ ¬ b 199 (18 * n + st) = 0 ∧ b 185 1 < b 198 (18 * n + st))) ∧ S_q a b ∧ S_tv a b ∧ S_cnt a b ∧ S_los a b ∧ Tr_ok r a ∧ Mo_ok r b
/-- what stands behind it -/
def Core (r t : Nat) (a b : mx_Mm) : Prop := (t + 100 < 2 ^ 31 ∧ b 185 1 = nI t) ∧ S_net a b ∧ S_mk a b ∧ S_mem a b ∧ S_ka a b ∧ S_sws a b ∧ S_q a b ∧ S_al b ∧ S_tv a b ∧ S_ls a b ∧ S_cnt a b ∧ S_los a b ∧ Tr_ok r a ∧ Mo_ok r b
theorem S_net.fr {a b a' b' : mx_Mm} (h : S_net a b) (ha : ∀ p j, 7 ≤ p → p < 34 → a' p j = a p j) (hb : ∀ p j, 186 ≤ p → p < 189 → b' p j = b p j) : S_net a' b' := by
  refine ⟨Nt_cg h.1 ha, fun x y hx hy => ?_⟩
  rw [ha _ _ (by omega) (by omega), ha _ _ (by omega) (by omega), ha _ _ (by omega) (by omega), hb _ _ (by omega) (by omega), hb _ _ (by omega) (by omega), hb _ _ (by omega) (by omega)]
  exact h.2 x y hx hy
theorem S_mk.fr {a b a' b' : mx_Mm} (h : S_mk a b) (ha : ∀ p j, p = 2 ∨ (43 ≤ p ∧ p < 49) → a' p j = a p j) (hb : ∀ p j, (p = 185 ∧ j = 1) ∨ p = 190 → b' p j = b p j) : S_mk a' b' := by
  refine ⟨?_, fun l g hl hg => ?_⟩
  · rw [ha 2 0 (by omega), hb 185 1 (by omega)]; exact h.1
  · rw [ha _ _ (by omega), hb _ _ (by omega)]; exact h.2 l g hl hg
theorem S_mem.fr {a b a' b' : mx_Mm} (h : S_mem a b) (ha : ∀ p j, (36 ≤ p ∧ p < 42) ∨ (50 ≤ p ∧ p < 56) → a' p j = a p j) (hb : ∀ p j, p = 189 ∨ p = 191 → b' p j = b p j) : S_mem a' b' := fun l g hl hg => by
  rw [ha _ _ (by omega), ha _ _ (by omega), hb 191 _ (by omega)]
  refine ⟨bs_cg (h l g hl hg).1 (fun k _ => ?_), (h l g hl hg).2⟩
  rw [hb 189 _ (by omega)]
theorem S_ka.fr {a b a' b' : mx_Mm} (h : S_ka a b) (ha : ∀ p j, 59 ≤ p → p < 77 → a' p j = a p j) (hb : ∀ j, b' 198 j = b 198 j) : S_ka a' b' := fun st n h1 h2 => by
  rw [ha _ _ (by omega) (by omega), hb]; exact h st n h1 h2
theorem S_q.fr {a b a' b' : mx_Mm} (h : S_q a b) (ha : ∀ j, a' 78 j = a 78 j) (hb : ∀ j, b' 200 j = b 200 j) : S_q a' b' := fun st h1 => by
  rw [ha, hb]; exact h st h1
theorem S_tv.fr {a b a' b' : mx_Mm} (h : S_tv a b) (ha : ∀ p j, 81 ≤ p → p < 126 → a' p j = a p j) (hb : ∀ p j, p = 192 ∨ p = 194 ∨ p = 196 → b' p j = b p j) : S_tv a' b' := by
  refine ⟨fun g n hg hn => ?_, fun st n h1 h2 => ?_⟩
  · rw [ha _ _ (by omega) (by omega), hb _ _ (by omega)]; exact h.1 g n hg hn
  · rw [ha _ _ (by omega) (by omega), ha _ _ (by omega) (by omega), hb _ _ (by omega), hb _ _ (by omega)]; exact h.2 st n h1 h2
theorem S_cnt.fr {a b a' b' : mx_Mm} (h : S_cnt a b) (ha : ∀ j, a' 4 j = a 4 j) (hb : ∀ j, b' 201 j = b 201 j) : S_cnt a' b' := fun j hj => by
  rw [ha, hb]; exact h j hj
theorem S_los.fr {a b a' b' : mx_Mm} (h : S_los a b) (ha : ∀ j, a' 56 j = a 56 j) (hb : ∀ j, b' 202 j = b 202 j) : S_los a' b' := fun l hl => by
  rw [ha, hb]; exact h l hl
theorem S_ls.fr {a b a' b' : mx_Mm} (h : S_ls a b) (ha : ∀ p j, 127 ≤ p → p < 165 → a' p j = a p j) (hb : ∀ p j, Mo_dep p j → b' p j = b p j) : S_ls a' b' := fun st n h1 h2 => by
  rw [ha _ _ (by omega) (by omega), ha _ _ (by omega) (by omega)]
  refine ⟨bs_cg (h st n h1 h2).1 (fun k _ => ?_), bs_cg (h st n h1 h2).2 (fun k _ => ?_)⟩
  · rw [Mo_in_cg hb, Mo_on_cg hb]
  · rw [Mo_out_cg hb, Mo_on_cg hb]
theorem Tr_fp_ge {p : Nat} (h : Tr_fp p) : p = 4 ∨ 81 ≤ p := by unfold Tr_fp at h; omega
theorem settle_core {r t : Nat} {a b : mx_Mm} (hr : r < 6) (h : Cpre r t a b) : Core r t (Tr_settle r a) (Mo_settle r b) ∧ (∀ p j, ¬ Tr_fp p → (Tr_settle r a) p j = a p j) ∧ ∀ p j, ¬ Mo_fp p → (Mo_settle r b) p j = b p j := by
  obtain ⟨⟨ht, hb⟩, hn, hmk, hme, hke, hsw, hq, hv, hc, hlo, ka, kb⟩ := h
  have hs : S_sw a b := fun st n h1 h2 => by
    rw [bs_hold (hsw st h1) (by omega)]
    exact ⟨fun z => z.2, fun z => ⟨h2, z⟩⟩
  obtain ⟨t1, t2, t3, t4, t5, t6⟩ := St_match hr ka kb hn hmk hke hs hv hc
  have k1 := Tr_settle_ok hr ka
  have k2 := Mo_settle_ok hr kb
  generalize Tr_settle r a = a' at t1 t4 t5 t6 k1 ⊢
  generalize Mo_settle r b = b' at t2 t3 t4 t5 t6 k2 ⊢
  have u1 : ∀ p j, p ≠ 4 → p < 81 → a' p j = a p j := fun p j h1 h2 => t1 p j (fun z => by have := Tr_fp_ge z; omega)
  have u2 : ∀ p j, p < 192 ∨ p = 198 ∨ p = 200 ∨ 202 ≤ p → b' p j = b p j := fun p j h1 => t2 p j (fun z => by unfold Mo_fp at z; omega)
  have e18 : b' 185 1 = b 185 1 := u2 _ _ (by omega)
  refine ⟨⟨⟨ht, e18.trans hb⟩, hn.fr (fun p j _ _ => u1 p j (by omega) (by omega)) (fun p j _ _ => u2 p j (by omega)), hmk.fr (fun p j _ => u1 p j (by omega) (by omega)) (fun p j _ => u2 p j (by omega)), hme.fr (fun p j _ => u1 p j (by omega) (by omega)) (fun p j _ => u2 p j (by omega)), hke.fr (fun p j _ _ => u1 p j (by omega) (by omega)) (fun j => u2 _ j (by omega)), fun st h1 => ?_, hq.fr (fun j => u1 _ j (by omega) (by omega)) (fun j => u2 _ j (by omega)), fun n st hn h1 hne => ?_, t4, t5, t6, hlo.fr (fun j => u1 _ j (by omega) (by omega)) (fun j => u2 _ j (by omega)), k1, k2⟩, t1, t2⟩
  · rw [u1 77 st (by omega) (by omega)]
    refine bs_cg (hsw st h1) (fun n _ => and_congr_right (fun hn => ?_))
    rw [t3 (18 * n + st) (by omega)]
    split
    next z => exact ⟨fun _ => n10, fun _ => z⟩
    next z => exact ⟨fun w => absurd w z, fun w => absurd rfl w⟩
  · rw [t3 (18 * n + st) (by omega)] at hne
    rw [e18, u2 198 _ (by omega)]
    split at hne
    next z => exact z.2
    next z => exact absurd rfl hne
theorem Core.sw {r t : Nat} {a b : mx_Mm} (h : Core r t a b) : ∀ st, st < 18 → bs (a 77 st) (fun n => n < 6 ∧ ¬ b 199 (18 * n + st) = 0 ∧ b 185 1 < b 198 (18 * n + st)) := fun st h1 => by
  obtain ⟨-, -, -, -, -, hsw, -, hal, -⟩ := h
  exact bs_cg (hsw st h1) (fun n _ => and_congr_right (fun hn => ⟨fun z => ⟨z, hal n st hn h1 z⟩, fun z => z.1⟩))
theorem Core.pre {r t : Nat} {a b : mx_Mm} (h : Core r t a b) : Cpre r t a b := by
  have hs := h.sw
  obtain ⟨h1, h2, h3, h4, h5, h6, h7, h8, h9, h10, h11, h12, h13, h14⟩ := h
  exact ⟨h1, h2, h3, h4, h5, hs, h7, h9, h11, h12, h13, h14⟩
/-- a change of the ways -/
theorem link_core {r t x y : Nat} {c : Int32} {a b : mx_Mm} (hr : r < 6) (hx : x < 6) (hy : y < 6) (hxy : x ≠ y) (hc : ∃ k, k ≤ 9 ∧ c = nI k) (h : Core r t a b) : Core r t (Tr_settle r (Ne_set x y c a)) (Mo_settle r (Mo_ways (D_lk x y c b))) ∧ (∀ p j, p = 0 ∨ 34 ≤ p → ¬ Tr_fp p → (Tr_settle r (Ne_set x y c a)) p j = a p j) ∧ ∀ p j, p < 186 ∨ 189 ≤ p → ¬ Mo_fp p → (Mo_settle r (Mo_ways (D_lk x y c b))) p j = b p j := by
  have hk1 : Tr_ok r (Ne_set x y c a) := Tr_set_ok hx hy h.2.2.2.2.2.2.2.2.2.2.2.2.1
  have hk2 : Mo_ok r (Mo_ways (D_lk x y c b)) := Mo_ways_ok (D_lk_ok h.2.2.2.2.2.2.2.2.2.2.2.2.2)
  obtain ⟨⟨ht, hb⟩, ⟨hN, hcv⟩, hmk, hme, hke, hsw, hq, hv, hc4, hlo, ka, kb⟩ := h.pre
  have e1 : ∀ p q, p < 6 → q < 6 → mc (mx_up (mx_up a (7 + x) y c) (7 + y) x c) p q = if (p = x ∧ q = y) ∨ (p = y ∧ q = x) then c else mc a p q := fun p q hp hq => by
    show (mx_up (mx_up a (7 + x) y c) (7 + y) x c) (7 + p) q = if _ then c else a (7 + p) q
    by_cases d : p = y ∧ q = x
    · rw [if_pos (Or.inr d), d.1, d.2, up_same]
    · rw [up_ne (by omega)]
      by_cases f : p = x ∧ q = y
      · rw [if_pos (Or.inl f), f.1, f.2, up_same]
      · rw [if_neg (fun z => z.elim f d), up_ne (by omega)]
  have e2 : ∀ p q, p < 6 → q < 6 → md (D_lk x y c b) p q = if (p = x ∧ q = y) ∨ (p = y ∧ q = x) then c else md b p q := fun p q hp hq => by
    show (mx_up (mx_up b 186 (6 * x + y) c) 186 (6 * y + x) c) 186 (6 * p + q) = if _ then c else b 186 (6 * p + q)
    by_cases d : p = y ∧ q = x
    · rw [if_pos (Or.inr d), d.1, d.2, up_same]
    · rw [up_neK (by omega)]
      by_cases f : p = x ∧ q = y
      · rw [if_pos (Or.inl f), f.1, f.2, up_same]
      · rw [if_neg (fun z => z.elim f d), up_neK (by omega)]
  have e6 : E6 (mc (mx_up (mx_up a (7 + x) y c) (7 + y) x c)) (md (D_lk x y c b)) := fun p q hp hq => by
    rw [e1 p q hp hq, e2 p q hp hq]
    exact ite_iff Iff.rfl rfl (hcv p q hp hq).1
  have pc1 : pm_c (mc (mx_up (mx_up a (7 + x) y c) (7 + y) x c)) := by
    refine ⟨fun p q hp hq => ?_, fun p q hp hq => ?_⟩
    · rw [e1 p q hp hq]
      split
      · exact hc
      · exact hN.1.1 p q hp hq
    · rw [e1 p q hp hq, e1 q p hq hp]
      exact ite_iff ⟨fun z => z.elim (fun w => Or.inr ⟨w.2, w.1⟩) (fun w => Or.inl ⟨w.2, w.1⟩), fun z => z.elim (fun w => Or.inr ⟨w.2, w.1⟩) (fun w => Or.inl ⟨w.2, w.1⟩)⟩ rfl (hN.1.2 p q hp hq)
  have pc2 : pm_c (md (D_lk x y c b)) := pm_c_cg e6 pc1
  have nk : Ne_ok (mx_up (mx_up a (7 + x) y c) (7 + y) x c) := (ka.2.1.upP (by omega)).upP (by omega)
  obtain ⟨m1, m2, m3, m4⟩ := Ne_measure_spec nk
  obtain ⟨w1, w2, w3⟩ := Mo_ways_spec pc2
  have ua : ∀ p j, ¬ (7 ≤ p ∧ p < 13) → (mx_up (mx_up a (7 + x) y c) (7 + y) x c) p j = a p j := fun p j hp => by
    rw [up_neP (by omega), up_neP (by omega)]
  have ub : ∀ p j, p ≠ 186 → (D_lk x y c b) p j = b p j := fun p j hp => by
    unfold D_lk
    rw [up_neP hp, up_neP hp]
  unfold Ne_set at hk1 ⊢
  generalize mx_up (mx_up a (7 + x) y c) (7 + y) x c = a0 at e1 e6 pc1 nk m1 m2 m3 m4 ua hk1 ⊢
  generalize D_lk x y c b = b0 at e2 e6 pc2 w1 w2 w3 ub hk2 ⊢
  generalize Ne_measure a0 = a' at m1 m2 m3 m4 hk1 ⊢
  generalize Mo_ways b0 = b' at w1 w2 w3 hk2 ⊢
  have ea : E6 (mc a0) (mc a') := fun p q hp hq => (m1 (7 + p) q (by omega)).symm
  have va : ∀ p j, 34 ≤ p ∨ p < 7 → a' p j = a p j := fun p j hp => (m1 p j (by omega)).trans (ua p j (by omega))
  have vb : ∀ p j, p < 186 ∨ 189 ≤ p → b' p j = b p j := fun p j hp => (w1 p j (by omega) (by omega)).trans (ub p j (by omega))
  have hNt : Nt a' := by
    refine ⟨pm_c_cg ea pc1, fun p q hp hq => ?_, fun p q hp hq => ?_, m4⟩
    · rw [m2 p q hp hq]; exact pm_F_cg ea p q hp hq
    · rw [m3 p q hp hq]; exact pm_N_cg ea (pm_F_cg ea) hp hq
  have hnet : S_net a' b' := by
    refine ⟨hNt, fun p q hp hq => ⟨?_, ?_, ?_⟩⟩
    · rw [w1 186 _ (by decide) (by decide)]
      exact (m1 (7 + p) q (by omega)).trans (e6 p q hp hq)
    · rw [m2 p q hp hq, w2 _ (by omega), show (6 * p + q) / 6 = p by omega, show (6 * p + q) % 6 = q by omega]
      exact pm_F_cg e6 p q hp hq
    · rw [m3 p q hp hq, w3 p q hp hq]
      exact pm_N_cg e6 (pm_F_cg e6) hp hq
  have e18 : b' 185 1 = b 185 1 := vb _ _ (by omega)
  have hpre : Cpre r t a' b' := by
    refine ⟨⟨ht, e18.trans hb⟩, hnet, hmk.fr (fun p j _ => va p j (by omega)) (fun p j _ => vb p j (by omega)), hme.fr (fun p j _ => va p j (by omega)) (fun p j _ => vb p j (by omega)), hke.fr (fun p j _ _ => va p j (by omega)) (fun j => vb _ j (by omega)), fun st h1 => ?_, hq.fr (fun j => va _ j (by omega)) (fun j => vb _ j (by omega)), hv.fr (fun p j _ _ => va p j (by omega)) (fun p j _ => vb p j (by omega)), hc4.fr (fun j => va _ j (by omega)) (fun j => vb _ j (by omega)), hlo.fr (fun j => va _ j (by omega)) (fun j => vb _ j (by omega)), hk1, hk2⟩
    rw [va 77 st (by omega)]
    refine bs_cg (hsw st h1) (fun n _ => ?_)
    rw [e18, vb 199 _ (by omega), vb 198 _ (by omega)]
  obtain ⟨s1, s2, s3⟩ := settle_core hr hpre
  exact ⟨s1, fun p j h1 h2 => (s2 p j h2).trans (va p j (by omega)), fun p j h1 h2 => (s3 p j h2).trans (vb p j h1)⟩
