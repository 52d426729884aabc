/-! class and reference side by side: sending a file's block -/
theorem Tr_ok.fr {r : Nat} {a a' : mx_Mm} (h : Tr_ok r a) (ha : ∀ p j, p < 127 → p ≠ 4 → a' p j = a p j) : Tr_ok r a' := by
  obtain ⟨h1, h2, h3, h4, h5, h6⟩ := h
  exact ⟨(ha _ _ (by omega) (by omega)).trans h1, fun t k ht hk => by rw [ha _ _ (by omega) (by omega)]; exact h2 t k ht hk, fun x t hx ht => by rw [ha _ _ (by omega) (by omega)]; exact h3 x t hx ht, fun g n hg hn => by rw [ha _ _ (by omega) (by omega)]; exact h4 g n hg hn, fun s n hs hn => by rw [ha _ _ (by omega) (by omega)]; exact h5 s n hs hn, fun s n hs hn => by rw [ha _ _ (by omega) (by omega)]; exact h6 s n hs hn⟩
theorem Mo_ok.fr {r : Nat} {b b' : mx_Mm} (h : Mo_ok r b) (hb : ∀ p j, (p = 185 ∧ j = 0) ∨ p = 188 ∨ (192 ≤ p ∧ p < 198) → b' p j = b p j) : Mo_ok r b' := by
  obtain ⟨h1, h2, h3, h4⟩ := h
  refine ⟨(hb _ _ (by omega)).trans h1, fun k hk => by rw [hb _ _ (by omega)]; exact h2 k hk, fun k hk => ?_, fun k hk => ?_⟩
  · rw [hb 192 _ (by omega), hb 193 _ (by omega)]; exact h3 k hk
  · rw [hb 194 _ (by omega), hb 195 _ (by omega), hb 196 _ (by omega), hb 197 _ (by omega)]; exact h4 k hk
theorem Core.frc {r t : Nat} {a b a' b' : mx_Mm} (h : Core r t a b) (ha : ∀ p j, p < 165 → p ≠ 4 → a' p j = a p j) (hb : ∀ p j, 185 ≤ p → p < 203 → p ≠ 201 → ¬ (p = 185 ∧ 2 ≤ j) → b' p j = b p j) (hc : S_cnt a' b') : Core r t a' b' := by
  obtain ⟨⟨ht, hb1⟩, hn, hmk, hme, hke, hss, hq, hal, hv, hls, -, hlo, ka, kb⟩ := h
  refine ⟨⟨ht, (hb _ _ (by omega) (by omega) (by omega) (by omega)).trans hb1⟩, hn.fr (fun p j _ _ => ha p j (by omega) (by omega)) (fun p j _ _ => hb p j (by omega) (by omega) (by omega) (by omega)), hmk.fr (fun p j _ => ha p j (by omega) (by omega)) (fun p j _ => hb p j (by omega) (by omega) (by omega) (by omega)), hme.fr (fun p j _ => ha p j (by omega) (by omega)) (fun p j _ => hb p j (by omega) (by omega) (by omega) (by omega)), hke.fr (fun p j _ _ => ha p j (by omega) (by omega)) (fun j => hb _ j (by omega) (by omega) (by omega) (by omega)), fun st h1 => ?_, hq.fr (fun j => ha _ j (by omega) (by omega)) (fun j => hb _ j (by omega) (by omega) (by omega) (by omega)), fun n st hn h1 hne => ?_, hv.fr (fun p j _ _ => ha p j (by omega) (by omega)) (fun p j _ => hb p j (by omega) (by omega) (by omega) (by omega)), hls.fr (fun p j _ _ => ha p j (by omega) (by omega)) (fun p j hd => hb p j (by unfold Mo_dep at hd; omega) (by unfold Mo_dep at hd; omega) (by unfold Mo_dep at hd; omega) (by unfold Mo_dep at hd; omega)), hc, hlo.fr (fun j => ha _ j (by omega) (by omega)) (fun j => hb _ j (by omega) (by omega) (by omega) (by omega)), ka.fr (fun p j _ _ => ha p j (by omega) (by omega)), kb.fr (fun p j _ => hb p j (by omega) (by omega) (by omega) (by omega))⟩
  · rw [ha 77 st (by omega) (by omega)]
    refine bs_cg (hss st h1) (fun n _ => ?_)
    rw [hb 199 _ (by omega) (by omega) (by omega) (by omega)]
  · rw [hb 199 _ (by omega) (by omega) (by omega) (by omega)] at hne
    rw [hb 185 1 (by omega) (by omega) (by omega) (by omega), hb 198 _ (by omega) (by omega) (by omega) (by omega)]
    exact hal n st hn h1 hne
theorem Core.fr {r t : Nat} {a b a' b' : mx_Mm} (h : Core r t a b) (ha : ∀ p j, p < 165 → a' p j = a p j) (hb : ∀ p j, 185 ≤ p → p < 203 → ¬ (p = 185 ∧ 2 ≤ j) → b' p j = b p j) : Core r t a' b' := by
  have hc := h.2.2.2.2.2.2.2.2.2.2.1
  exact h.frc (fun p j h1 _ => ha p j h1) (fun p j h0 h1 _ h3 => hb p j h0 h1 h3) (hc.fr (fun j => ha _ _ (by omega)) (fun j => hb _ _ (by omega) (by omega) (by omega)))
/-- one LAN stores the block -/
theorem store_pair {f l k n : Nat} {a b : mx_Mm} (hf : f < 4) (hl : l < 6) (hn : n ≤ 16) (en : a 171 f = nI n) (hk : k ≤ n) (h : S_f1 f a b) : S_f1 f (Fi_store f (nI k) l a) (Mo_d3 f l (if nI k < b 208 f then nI k + nI 1 else nI k) (Mo_d2 f l (nI k) b)) := by
  obtain ⟨⟨h1, h2, h3, h4, h5⟩, h6, n0, j, q1, q2, q3, q4, q5, q6⟩ := h
  have e0 : n0 = n := (nI_eq (by omega) (by omega)).mp (q2.symm.trans en)
  subst e0
  have e8 : b 208 f = nI n0 := h3.symm.trans q2
  have hlt : nI k < nI n0 ↔ k < n0 := nI_ltI (by omega) (by omega)
  -- the class
  have s1o : ∀ p j, ¬ (p = 175 + f ∧ j = l) → (Fi_s1 f l (nI k) a) p j = a p j := fun p j hp => by
    unfold Fi_s1
    split
    · exact up_ne hp
    · rfl
  have s1v : (Fi_s1 f l (nI k) a) (175 + f) l = if k < n0 then a (175 + f) l ||| nI 1 <<< (nI k &&& 31) else a (175 + f) l := by
    unfold Fi_s1
    rw [q2]
    by_cases c : k < n0
    · rw [if_pos (hlt.mpr c), if_pos c, up_same]
    · rw [if_neg (fun z => c (hlt.mp z)), if_neg c]
  have so : ∀ p j, ¬ (p = 175 + f ∧ j = l) → ¬ (p = 180 + f ∧ j = l) → (Fi_store f (nI k) l a) p j = a p j := fun p j p1 p2 => (up_ne p2).trans (s1o p j p1)
  have sv : (Fi_store f (nI k) l a) (175 + f) l = if k < n0 then a (175 + f) l ||| nI 1 <<< (nI k &&& 31) else a (175 + f) l := (up_neP (by omega)).trans s1v
  obtain ⟨o, ho, eo⟩ := q6 l hl
  have sw : (Fi_store f (nI k) l a) (180 + f) l = pm_x (nI o) (nI (min (k + 1) n0)) := by
    unfold Fi_store Fi_s2
    rw [up_same, s1o (180 + f) l (by omega), s1o 171 f (by omega), eo, q2, nI_add, pm_n_nI (by omega) (by omega)]
  -- the reference
  have do1 : ∀ p j, ¬ (p = 211 ∧ j = 6 * f + l) → (Mo_d2 f l (nI k) b) p j = b p j := fun p j hp => up_ne hp
  have dv : (Mo_d2 f l (nI k) b) 211 (6 * f + l) = if k < n0 then b 211 (6 * f + l) ||| nI 1 <<< (nI k &&& 31) else b 211 (6 * f + l) := by
    unfold Mo_d2
    rw [up_same, e8]
    exact ite_iff hlt rfl rfl
  have eto : (if nI k < b 208 f then nI k + nI 1 else nI k) = nI (min (k + 1) n0) := by
    rw [e8]
    by_cases c : k < n0
    · rw [if_pos (hlt.mpr c), nI_add, Nat.min_eq_left (by omega)]
    · rw [if_neg (fun z => c (hlt.mp z)), Nat.min_eq_right (by omega), show k = n0 by omega]
  rw [eto]
  have d3o : ∀ p j, ¬ (p = 212 ∧ j = 6 * f + l) → (Mo_d3 f l (nI (min (k + 1) n0)) (Mo_d2 f l (nI k) b)) p j = (Mo_d2 f l (nI k) b) p j := fun p j hp => up_ne hp
  have d3v : (Mo_d3 f l (nI (min (k + 1) n0)) (Mo_d2 f l (nI k) b)) 212 (6 * f + l) = pm_x (nI o) (nI (min (k + 1) n0)) := by
    have e12 : (Mo_d2 f l (nI k) b) 212 (6 * f + l) = nI o := (do1 _ _ (by omega)).trans ((h6 l hl).2.symm.trans eo)
    unfold Mo_d3
    rw [up_same, e12]
    rfl
  have dO : ∀ p j, ¬ (p = 211 ∧ j = 6 * f + l) → ¬ (p = 212 ∧ j = 6 * f + l) → (Mo_d3 f l (nI (min (k + 1) n0)) (Mo_d2 f l (nI k) b)) p j = b p j := fun p j p1 p2 => (d3o p j p2).trans (do1 p j p1)
  refine ⟨⟨?_, ?_, ?_, ?_, ?_⟩, fun l' hl' => ⟨?_, ?_⟩, n0, j, q1, ?_, q3, ?_, fun k' k1 k2 => ?_, fun l' hl' => ?_⟩
  · rw [so _ _ (by omega) (by omega), dO _ _ (by omega) (by omega)]; exact h1
  · rw [so _ _ (by omega) (by omega), dO _ _ (by omega) (by omega)]; exact h2
  · rw [so _ _ (by omega) (by omega), dO _ _ (by omega) (by omega)]; exact h3
  · rw [so _ _ (by omega) (by omega), dO _ _ (by omega) (by omega)]; exact h4
  · rw [so _ _ (by omega) (by omega), dO _ _ (by omega) (by omega)]; exact h5
  · by_cases e : l' = l
    · subst e
      rw [sv, d3o _ _ (by omega), dv, (h6 l' hl').1]
    · rw [so _ _ (by omega) (by omega), dO _ _ (by omega) (by omega)]; exact (h6 l' hl').1
  · by_cases e : l' = l
    · subst e
      rw [sw, d3v]
    · rw [so _ _ (by omega) (by omega), dO _ _ (by omega) (by omega)]; exact (h6 l' hl').2
  · rw [so _ _ (by omega) (by omega)]; exact q2
  · rw [so _ _ (by omega) (by omega)]; exact q4
  · rw [so _ _ (by omega) (by omega)]; exact q5 k' k1 k2
  · by_cases e : l' = l
    · subst e
      rw [sw]
      unfold pm_x
      split
      · exact ⟨o, ho, rfl⟩
      · exact ⟨min (k + 1) n0, by omega, rfl⟩
    · rw [so _ _ (by omega) (by omega)]; exact q6 l' hl'
theorem store_at {f l p j : Nat} {x : Int32} {a : mx_Mm} (hp : ¬ (p = 175 + f ∧ j = l)) (hp2 : ¬ (p = 180 + f ∧ j = l)) : (Fi_store f x l a) p j = a p j := by
  unfold Fi_store Fi_s2 Fi_s1
  rw [up_ne hp2]
  split
  · exact up_ne hp
  · rfl
theorem d23_at {f l p j : Nat} {x y : Int32} {b : mx_Mm} (hp : ¬ (p = 211 ∧ j = 6 * f + l)) (hp2 : ¬ (p = 212 ∧ j = 6 * f + l)) : (Mo_d3 f l y (Mo_d2 f l x b)) p j = b p j := by
  unfold Mo_d3 Mo_d2
  rw [up_ne hp2, up_ne hp]
/-- the block goes to all that heard it -/
theorem deliver {f g k n : Nat} {a b : mx_Mm} (hf : f < 4) (hg : g < 3) (hn : n ≤ 16) (en : a 171 f = nI n) (hk : k ≤ n) (h : S_f1 f a b) (hm : S_mem a b) (h22 : a 165 11 = b 185 22) :
    S_f1 f (mx_lp 6 (Fi_d1 f g (nI k) (a 165 11)) a) (D_e5 f g (nI k) b) ∧ (∀ p j, p ≠ 175 + f → p ≠ 180 + f → (mx_lp 6 (Fi_d1 f g (nI k) (a 165 11)) a) p j = a p j) ∧ ∀ p j, ¬ ((p = 211 ∨ p = 212) ∧ 6 * f ≤ j ∧ j < 6 * f + 6) → (D_e5 f g (nI k) b) p j = b p j := by
  unfold D_e5
  generalize hto : Mo_to f (nI k) b = w
  have hw : w = if nI k < b 208 f then nI k + nI 1 else nI k := hto.symm
  have := lp_rel (f := Fi_d1 f g (nI k) (a 165 11)) (g := Mo_d1 f g (nI k) w) (fun x u => S_f1 f x u ∧ (∀ p j, p ≠ 175 + f → p ≠ 180 + f → x p j = a p j) ∧ ∀ p j, ¬ ((p = 211 ∨ p = 212) ∧ 6 * f ≤ j ∧ j < 6 * f + 6) → u p j = b p j) 6 (a := a) (b := b) ⟨h, fun _ _ _ _ => rfl, fun _ _ _ => rfl⟩ (fun l x u hl hR => by
    obtain ⟨r1, r2, r3⟩ := hR
    have hmx : S_mem x u := hm.fr (fun p j _ => r2 p j (by omega) (by omega)) (fun p j _ => r3 p j (by omega))
    have hc : (hold (a 165 11) l ∧ ¬ x (36 + l) g = 0) ↔ (bt1 (u 185 22) l ∧ ¬ Mo_low l g u < 0) := by
      rw [h22, hold_bt, r3 185 22 (by omega), mem_z hl hg hmx]
    unfold Fi_d1 Mo_d1
    by_cases c : hold (a 165 11) l ∧ ¬ x (36 + l) g = 0
    · rw [if_pos c, if_pos (hc.mp c)]
      have e8 : u 208 f = b 208 f := r3 _ _ (by omega)
      have hw' : w = if nI k < u 208 f then nI k + nI 1 else nI k := by rw [e8]; exact hw
      rw [hw']
      refine ⟨store_pair hf hl hn ((r2 _ _ (by omega) (by omega)).trans en) hk r1, fun p j p1 p2 => ?_, fun p j p1 => ?_⟩
      · rw [store_at (fun z => p1 z.1) (fun z => p2 z.1)]; exact r2 p j p1 p2
      · rw [d23_at (by omega) (by omega)]; exact r3 p j p1
    · rw [if_neg c, if_neg (fun z => c (hc.mpr z))]
      exact ⟨r1, r2, r3⟩)
  exact this
/-- emit -/
theorem emit_core {r t f s g n : Nat} {a b : mx_Mm} (hr : r < 6) (hf : f < 4) (hs : s < 6) (hg : g < 3) (hn : n ≤ 16) (en : a 171 f = nI n) (hpk : Pa_ok r a) (h : Core r t a b) (hfi : S_fil a b) :
    Core r t (C_e5 f n g (Tr_settle r (Pa_disp s g r a))) (D_e5 f g (Mo_tv f b) (Mo_settle r (Mo_pk r s (3 * s + g) (Mo_tm f b)).2)) ∧ S_fil (C_e5 f n g (Tr_settle r (Pa_disp s g r a))) (D_e5 f g (Mo_tv f b) (Mo_settle r (Mo_pk r s (3 * s + g) (Mo_tm f b)).2)) ∧ S_pk (C_e5 f n g (Tr_settle r (Pa_disp s g r a))) (D_e5 f g (Mo_tv f b) (Mo_settle r (Mo_pk r s (3 * s + g) (Mo_tm f b)).2)) ∧ Pa_ok r (C_e5 f n g (Tr_settle r (Pa_disp s g r a))) ∧ Fi_tv f n (Tr_settle r (Pa_disp s g r a)) = Mo_tv f b ∧ (∀ p j, p = 0 ∨ 185 ≤ p ∨ p = 168 ∨ p = 169 ∨ p = 170 ∨ p = 171 → (C_e5 f n g (Tr_settle r (Pa_disp s g r a))) p j = a p j) ∧ ∀ p j, p < 185 ∨ p = 206 ∨ p = 207 ∨ (p = 185 ∧ j = 26) → (D_e5 f g (Mo_tv f b) (Mo_settle r (Mo_pk r s (3 * s + g) (Mo_tm f b)).2)) p j = b p j := by
  obtain ⟨k1, k2, ⟨k, hk, ek⟩, k4, k5⟩ := take_fil hf hn en (hfi.2 f hf)
  have hcore : Core r t a (Mo_tm f b) := h.fr (fun _ _ _ => rfl) (fun p j _ h1 h2 => k5 p j (by omega) (by omega))
  obtain ⟨c1, c2, c3, -, c5, c6⟩ := send_core (st := 3 * s + g) hr hs hg (by omega) hpk hcore
  generalize Tr_settle r (Pa_disp s g r a) = a1 at c1 c2 c3 c5 ⊢
  generalize Mo_settle r (Mo_pk r s (3 * s + g) (Mo_tm f b)).2 = b1 at c1 c2 c6 ⊢
  -- the class takes its turn behind the packet
  have e1 : a1 171 f = nI n := (c5 _ _ (by omega)).trans en
  have hf1 : S_f1 f a1 b := (hfi.2 f hf).fr (fun p j h1 _ _ _ _ => c5 p j (by omega)) (fun _ _ _ _ _ _ => rfl) hf
  obtain ⟨t1, t2, ⟨k', hk', ek'⟩, t4, t5⟩ := take_fil hf hn e1 hf1
  have evb : Mo_tv f b = nI k' := t2.symm.trans ek'
  unfold C_e5
  rw [ek', evb]
  generalize Fi_tm f n a1 = a2 at t1 t4 ⊢
  have e2 : a2 171 f = nI n := (t4 _ _ (by omega) (by omega)).trans e1
  have hf2 : S_f1 f a2 b1 := t1.fr (fun _ _ _ _ _ _ _ => rfl) (fun p j h1 _ _ _ => c6 p j (by omega)) hf
  have core2 : Core r t a2 b1 := c1.fr (fun p j h1 => t4 p j (by omega) (by omega)) (fun _ _ _ _ _ => rfl)
  have pk2 : S_pk a2 b1 := c2.fr (fun j _ _ => t4 _ _ (by omega) (by omega)) (fun _ _ _ => rfl)
  obtain ⟨d1, d2, d3⟩ := deliver hf hg hn e2 hk' hf2 core2.2.2.2.1 pk2.2.2.2
  generalize mx_lp 6 (Fi_d1 f g (nI k') (a2 165 11)) a2 = a3 at d1 d2 ⊢
  generalize D_e5 f g (nI k') b1 = b3 at d1 d3 ⊢
  refine ⟨core2.fr (fun p j h1 => d2 p j (by omega) (by omega)) (fun p j _ h1 h2 => d3 p j (by omega)), ⟨?_, fun f' hf' => ?_⟩, pk2.fr (fun j _ _ => d2 _ _ (by omega) (by omega)) (fun j _ _ => d3 _ _ (by omega)), c3.fr (fun p j hp => (d2 p j (by omega) (by omega)).trans (t4 p j (by omega) (by omega))), rfl, fun p j hp => ?_, fun p j hp => ?_⟩
  · rw [d2 168 11 (by omega) (by omega), d2 168 12 (by omega) (by omega), t4 _ _ (by omega) (by omega), t4 _ _ (by omega) (by omega), c5 _ _ (by omega), c5 _ _ (by omega), d3 185 26 (by omega), d3 185 34 (by omega), c6 _ _ (by omega), c6 _ _ (by omega), k5 _ _ (by omega) (by omega), k5 _ _ (by omega) (by omega)]
    exact hfi.1
  · by_cases e : f' = f
    · rw [e]; exact d1
    · refine (hfi.2 f' hf').fr (fun p j h1 h2 h3 h4 h5 => ?_) (fun p j h1 h2 h3 h4 => ?_) hf'
      · rw [d2 p j (by omega) (by omega), t4 p j (by omega) (by omega)]; exact c5 p j (by omega)
      · rw [d3 p j (by omega), c6 p j (by omega)]; exact k5 p j (by omega) (by omega)
  · rw [d2 p j (by omega) (by omega), t4 p j (by omega) (by omega)]; exact c5 p j (by omega)
  · rw [d3 p j (by omega), c6 p j (by omega)]; exact k5 p j (by omega) (by omega)
