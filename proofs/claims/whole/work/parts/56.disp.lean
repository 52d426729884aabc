/-! the class's packets: the stages -/
theorem over_ne {st n p j : Nat} {m : mx_Mm} (h1 : ¬ (p = 59 + st ∧ j = n)) (h2 : ¬ (p = 77 ∧ j = st)) : (Sm_over st n m) p j = m p j := by
  unfold Sm_over Sm_renew
  rw [up_ne h2, up_ne h1]
theorem over_59 {st n : Nat} {m : mx_Mm} (hst : st < 18) : (Sm_over st n m) (59 + st) n = m 2 0 + nI 8 := by
  unfold Sm_over Sm_renew
  rw [up_neP (by omega), up_same]
theorem over_77 {st n : Nat} {m : mx_Mm} (hst : st < 18) : (Sm_over st n m) 77 st = m 77 st ||| bit n := by
  unfold Sm_over Sm_renew
  rw [up_same, up_neP (by omega)]
theorem sj_spec {st s g : Nat} {a : mx_Mm} {P : Nat → Prop} (hst : st < 18) (hs : s < 6) (hP : bs (a 77 st) P) :
    (∀ p j, p ≠ 165 → p ≠ 59 + st → ¬ (p = 77 ∧ j = st) → (Pa_sj st s (Pa_d0 s g (Pa_z a))) p j = a p j) ∧
    (∀ n, n < 6 → (Pa_sj st s (Pa_d0 s g (Pa_z a))) (59 + st) n = if n = s ∨ ¬ a (108 + st) n = -1 then a 2 0 + nI 8 else a (59 + st) n) ∧
    bs ((Pa_sj st s (Pa_d0 s g (Pa_z a))) 77 st) (fun n => P n ∨ (n = s ∧ ¬ a (146 + st) s = 0) ∨ (n < 6 ∧ ¬ a (108 + st) n = -1)) ∧
    (Pa_sj st s (Pa_d0 s g (Pa_z a))) 165 7 = nI 0 ∧ (Pa_sj st s (Pa_d0 s g (Pa_z a))) 165 8 = nI 0 ∧ (Pa_sj st s (Pa_d0 s g (Pa_z a))) 165 9 = nI 0 ∧ (Pa_sj st s (Pa_d0 s g (Pa_z a))) 165 10 = if a 2 0 < a (43 + s) g then bit s else nI 0 := by
  -- the four counters
  have z1 : ∀ p j, p ≠ 165 → (Pa_d0 s g (Pa_z a)) p j = a p j := fun p j hp => by
    unfold Pa_d0 Pa_z
    rw [up_neP hp, up_neP hp, up_neP hp, up_neP hp]
  have z7 : (Pa_d0 s g (Pa_z a)) 165 7 = nI 0 := by
    unfold Pa_d0 Pa_z
    rw [up_neK (by decide), up_neK (by decide), up_neK (by decide), up_same]
  have z8 : (Pa_d0 s g (Pa_z a)) 165 8 = nI 0 := by
    unfold Pa_d0 Pa_z
    rw [up_neK (by decide), up_neK (by decide), up_same]
  have z9 : (Pa_d0 s g (Pa_z a)) 165 9 = nI 0 := by
    unfold Pa_d0 Pa_z
    rw [up_neK (by decide), up_same]
  have z10 : (Pa_d0 s g (Pa_z a)) 165 10 = if a 2 0 < a (43 + s) g then bit s else nI 0 := by
    have e1 : (Pa_z a) 2 0 = a 2 0 := by
      unfold Pa_z
      rw [up_neP (by decide), up_neP (by decide), up_neP (by decide)]
    have e2 : (Pa_z a) (43 + s) g = a (43 + s) g := by
      unfold Pa_z
      rw [up_neP (by omega), up_neP (by omega), up_neP (by omega)]
    unfold Pa_d0
    rw [up_same, e1, e2]
  unfold Pa_sj
  generalize Pa_d0 s g (Pa_z a) = z at z1 z7 z8 z9 z10 ⊢
  -- the source's own switch
  have y1 : ∀ p j, ¬ (p = 59 + st ∧ j = s) → ¬ (p = 77 ∧ j = st) → (Pa_j1 st s (Sm_renew st s z)) p j = z p j := fun p j h1 h2 => by
    unfold Pa_j1
    split
    · rw [over_ne h1 h2]; exact up_ne h1
    · exact up_ne h1
  have y59 : (Pa_j1 st s (Sm_renew st s z)) (59 + st) s = a 2 0 + nI 8 := by
    have e : (Sm_renew st s z) 2 0 = a 2 0 := (up_neP (by omega)).trans (z1 2 0 (by decide))
    unfold Pa_j1
    split
    · rw [over_59 hst, e]
    · unfold Sm_renew
      rw [up_same, z1 2 0 (by decide)]
  have y77 : bs ((Pa_j1 st s (Sm_renew st s z)) 77 st) (fun n => P n ∨ (n = s ∧ ¬ a (146 + st) s = 0)) := by
    have e : (Sm_renew st s z) 77 st = a 77 st := (up_neP (by omega)).trans (z1 77 st (by decide))
    have e2 : (Sm_renew st s z) (146 + st) s = a (146 + st) s := (up_neP (by omega)).trans (z1 _ _ (by omega))
    unfold Pa_j1
    rw [e2]
    split
    next h =>
      rw [over_77 hst, e]
      exact bs_cg (bs_or hP (bs_bit (by omega))) (fun n _ => or_congr Iff.rfl ⟨fun w => ⟨w, h⟩, fun w => w.1⟩)
    next h =>
      rw [e]
      exact bs_cg hP (fun n _ => ⟨Or.inl, fun w => w.elim id (fun v => absurd v.2 h)⟩)
  generalize Pa_j1 st s (Sm_renew st s z) = y at y1 y59 y77 ⊢
  have h := lp_inv (f := Pa_j2 st) (fun i (w : mx_Mm) => (∀ p j, p ≠ 59 + st → ¬ (p = 77 ∧ j = st) → w p j = y p j) ∧ (∀ n, n < 6 → w (59 + st) n = if n < i ∧ ¬ a (108 + st) n = -1 then a 2 0 + nI 8 else y (59 + st) n) ∧ bs (w 77 st) (fun n => P n ∨ (n = s ∧ ¬ a (146 + st) s = 0) ∨ (n < i ∧ ¬ a (108 + st) n = -1))) 6 (m := y) ⟨fun _ _ _ _ => rfl, fun n _ => by rw [if_neg (fun q => absurd q.1 (Nat.not_lt_zero _))], bs_cg y77 (fun n _ => or_congr Iff.rfl ⟨Or.inl, fun w => w.elim id (fun v => absurd v.1 (Nat.not_lt_zero _))⟩)⟩ (fun i w hi hI => by
    obtain ⟨w1, w2, w3⟩ := hI
    have e : w (108 + st) i = a (108 + st) i := (w1 _ _ (by omega) (by omega)).trans ((y1 _ _ (by omega) (by omega)).trans (z1 _ _ (by omega)))
    have e2 : w 2 0 = a 2 0 := (w1 _ _ (by omega) (by omega)).trans ((y1 _ _ (by omega) (by omega)).trans (z1 _ _ (by omega)))
    unfold Pa_j2
    rw [e]
    by_cases c : a (108 + st) i = -1
    · rw [if_pos c]
      refine ⟨w1, fun n hn => ?_, bs_cg w3 (fun n _ => or_congr Iff.rfl (or_congr Iff.rfl ⟨fun v => ⟨by omega, v.2⟩, fun v => ⟨?_, v.2⟩⟩))⟩
      · rw [w2 n hn]
        by_cases d : n < i ∧ ¬ a (108 + st) n = -1
        · rw [if_pos d, if_pos ⟨by omega, d.2⟩]
        · rw [if_neg d, if_neg (fun v => d ⟨?_, v.2⟩)]
          have : n ≠ i := fun u => v.2 (by rw [u]; exact c)
          omega
      · have : n ≠ i := fun u => v.2 (by rw [u]; exact c)
        omega
    · rw [if_neg c]
      refine ⟨fun p j h1 h2 => ?_, fun n hn => ?_, ?_⟩
      · rw [over_ne (fun q => h1 q.1) h2]; exact w1 p j h1 h2
      · by_cases d : n = i
        · subst d
          rw [over_59 hst, e2, if_pos ⟨by omega, c⟩]
        · rw [over_ne (fun q => d q.2) (by omega), w2 n hn]
          by_cases f : n < i ∧ ¬ a (108 + st) n = -1
          · rw [if_pos f, if_pos ⟨by omega, f.2⟩]
          · rw [if_neg f, if_neg (fun v => f ⟨by omega, v.2⟩)]
      · rw [over_77 hst]
        refine bs_cg (bs_or w3 (bs_bit (by omega))) (fun n _ => ⟨fun v => ?_, fun v => ?_⟩)
        · rcases v with (v | v | v) | v
          · exact Or.inl v
          · exact Or.inr (Or.inl v)
          · exact Or.inr (Or.inr ⟨by omega, v.2⟩)
          · exact Or.inr (Or.inr ⟨by omega, by rw [v]; exact c⟩)
        · rcases v with v | v | v
          · exact Or.inl (Or.inl v)
          · exact Or.inl (Or.inr (Or.inl v))
          · by_cases d : n = i
            · exact Or.inr d
            · exact Or.inl (Or.inr (Or.inr ⟨by omega, v.2⟩)))
  obtain ⟨w1, w2, w3⟩ := h
  have q5 : ∀ j, (mx_lp 6 (Pa_j2 st) y) 165 j = z 165 j := fun j => (w1 165 j (by omega) (by omega)).trans (y1 165 j (by omega) (by omega))
  refine ⟨fun p j h1 h2 h3 => (w1 p j h2 h3).trans ((y1 p j (fun q => h2 q.1) h3).trans (z1 p j h1)), fun n hn => ?_, w3, (q5 7).trans z7, (q5 8).trans z8, (q5 9).trans z9, (q5 10).trans z10⟩
  rw [w2 n hn]
  by_cases c : ¬ a (108 + st) n = -1
  · rw [if_pos ⟨hn, c⟩, if_pos (Or.inr c)]
  · rw [if_neg (fun q => c q.2)]
    by_cases d : n = s
    · rw [if_pos (Or.inl d), d]; exact y59
    · rw [if_neg (fun q => q.elim d c), y1 _ _ (fun q => d q.2) (by omega), z1 _ _ (by omega)]
/-- registering -/
theorem reg_spec {st s r : Nat} {y : mx_Mm} (hst : st < 18) :
    (∀ p j, p ≠ 59 + st → p ≠ 78 → p ≠ 4 → (Pa_reg st s r y) p j = y p j) ∧
    (∀ n, (Pa_reg st s r y) (59 + st) n = if Pa_rc st s r y ∧ n = r then y 2 0 + nI 8 else y (59 + st) n) ∧
    (∀ j, (Pa_reg st s r y) 78 j = if j = st ∧ Pa_rc st s r y ∧ (hold (y 77 st) r ∨ y (146 + st) r = 0) then y 2 0 + nI 6 else y 78 j) ∧
    ∀ j, (Pa_reg st s r y) 4 j = y 4 j + ((if Pa_rc st s r y ∧ j = 6 then nI 1 else 0) + if (Pa_rc st s r y ∧ (hold (y 77 st) r ∨ y (146 + st) r = 0)) ∧ j = 7 then nI 1 else 0) := by
  unfold Pa_reg
  by_cases c : Pa_rc st s r y
  · rw [if_pos c]
    have e : ∀ p j, p ≠ 59 + st → p ≠ 4 → (Sm_renew st r (Tr_cnt 6 y)) p j = y p j := fun p j h1 h2 => (up_neP h1).trans (Tr_cnt_ne h2)
    have e59 : ∀ n, (Sm_renew st r (Tr_cnt 6 y)) (59 + st) n = if n = r then y 2 0 + nI 8 else y (59 + st) n := fun n => by
      unfold Sm_renew
      by_cases d : n = r
      · rw [if_pos d, d, up_same, Tr_cnt_ne (by decide)]
      · rw [if_neg d, up_neK d, Tr_cnt_ne (by omega)]
    have e4 : ∀ j, (Sm_renew st r (Tr_cnt 6 y)) 4 j = y 4 j + if j = 6 then nI 1 else 0 := fun j => (up_neP (by omega)).trans Tr_cnt_4
    generalize Sm_renew st r (Tr_cnt 6 y) = z at e e59 e4 ⊢
    unfold Pa_r2
    have hz : (hold (z 77 st) r ∨ z (146 + st) r = 0) ↔ (hold (y 77 st) r ∨ y (146 + st) r = 0) := by
      rw [e 77 st (by omega) (by omega), e (146 + st) r (by omega) (by omega)]
    by_cases d : hold (z 77 st) r ∨ z (146 + st) r = 0
    · have d' := hz.mp d
      rw [if_pos d]
      unfold Pa_r3
      refine ⟨fun p j h1 h2 h3 => ?_, fun n => ?_, fun j => ?_, fun j => ?_⟩
      · rw [up_neP h2, Tr_cnt_ne h3]; exact e p j h1 h3
      · rw [up_neP (by omega), Tr_cnt_ne (by omega), e59 n]
        by_cases f : n = r
        · rw [if_pos f, if_pos ⟨c, f⟩]
        · rw [if_neg f, if_neg (fun q => f q.2)]
      · by_cases f : j = st
        · rw [if_pos ⟨f, c, d'⟩, f, up_same, Tr_cnt_ne (by decide), e 2 0 (by omega) (by decide)]
        · rw [if_neg (fun q => f q.1), up_neK f, Tr_cnt_ne (by decide), e 78 j (by omega) (by decide)]
      · rw [up_neP (by decide), Tr_cnt_4, e4 j, Int32.add_assoc]
        refine congrArg (fun w => y 4 j + w) ?_
        have u1 : (if j = 6 then nI 1 else 0) = if Pa_rc st s r y ∧ j = 6 then nI 1 else 0 := ite_iff ⟨fun f => ⟨c, f⟩, fun q => q.2⟩ rfl rfl
        have u2 : (if j = 7 then nI 1 else 0) = if (Pa_rc st s r y ∧ (hold (y 77 st) r ∨ y (146 + st) r = 0)) ∧ j = 7 then nI 1 else 0 := ite_iff ⟨fun f => ⟨⟨c, d'⟩, f⟩, fun q => q.2⟩ rfl rfl
        rw [u1, u2]
    · have d' : ¬ (hold (y 77 st) r ∨ y (146 + st) r = 0) := fun q => d (hz.mpr q)
      rw [if_neg d]
      refine ⟨fun p j h1 h2 h3 => e p j h1 h3, fun n => ?_, fun j => ?_, fun j => ?_⟩
      · rw [e59 n]
        by_cases f : n = r
        · rw [if_pos f, if_pos ⟨c, f⟩]
        · rw [if_neg f, if_neg (fun q => f q.2)]
      · rw [if_neg (fun q => d' q.2.2), e 78 j (by omega) (by decide)]
      · rw [e4 j]
        refine congrArg (fun w => y 4 j + w) ?_
        rw [if_neg (fun q : (Pa_rc st s r y ∧ _) ∧ j = 7 => d' q.1.2), Int32.add_zero]
        by_cases f : j = 6
        · rw [if_pos f, if_pos ⟨c, f⟩]
        · rw [if_neg f, if_neg (fun q => f q.2)]
  · rw [if_neg c]
    refine ⟨fun _ _ _ _ _ => rfl, fun n => by rw [if_neg (fun q => c q.1)], fun j => by rw [if_neg (fun q => c q.2.1)], fun j => ?_⟩
    rw [if_neg (fun q => c q.1), if_neg (fun q => c q.1.1), Int32.add_zero, Int32.add_zero]
/-- the first carriers -/
theorem dA_spec {st s r : Nat} {y : mx_Mm} (hst : st < 18) (hs : s < 6) (hr : r < 6) (h7 : y 165 7 = nI 0) (hrr : y (21 + r) r = -1) :
    (∀ p j, p ≠ 165 → p ≠ 166 → p ≠ 167 → (Pa_dA st s r y) p j = (Pa_reg st s r y) p j) ∧ (∀ j, j ≠ 7 → (Pa_dA st s r y) 165 j = y 165 j) ∧
    (∀ q, ((q = s ∧ ¬ y (146 + st) s = 0) ∨ (q = r ∧ Pa_rc st s r y ∧ ¬ hold (y 77 st) r)) → cfr st s r (Pa_dA st s r y) q = -1) ∧
    ∃ K c, Qs st s r (Pa_dA st s r y) (Pa_dA st s r y) K c ∧ (∀ k, k < K → (c k = s ∧ ¬ y (146 + st) s = 0) ∨ (c k = r ∧ Pa_rc st s r y ∧ ¬ hold (y 77 st) r)) ∧ ∀ q, q < 6 → ((q = s ∧ ¬ y (146 + st) s = 0) ∨ (q = r ∧ Pa_rc st s r y ∧ ¬ hold (y 77 st) r)) → ∃ k, k < K ∧ c k = q := by
  obtain ⟨g1, -, -, -⟩ := reg_spec (s := s) (r := r) (y := y) hst
  unfold Pa_dA
  have rc := Pa_rc st s r y
  have x7 : (Pa_reg st s r y) 165 7 = nI 0 := (g1 _ _ (by omega) (by decide) (by decide)).trans h7
  have x77 : (Pa_reg st s r y) 77 st = y 77 st := g1 _ _ (by omega) (by decide) (by decide)
  have x146 : (Pa_reg st s r y) (146 + st) s = y (146 + st) s := g1 _ _ (by omega) (by omega) (by omega)
  have x21 : (Pa_reg st s r y) (21 + r) r = -1 := (g1 _ _ (by omega) (by omega) (by omega)).trans hrr
  have x165 : ∀ j, (Pa_reg st s r y) 165 j = y 165 j := fun j => g1 _ _ (by omega) (by decide) (by decide)
  generalize Pa_reg st s r y = x at x7 x77 x146 x21 x165 ⊢
  have fs : cfr st s r x s = -1 := if_pos rfl
  have fr : ∀ (w : Pa_rc st s r y ∧ ¬ hold (y 77 st) r), cfr st s r x r = -1 := fun w => by
    unfold cfr
    split
    · rfl
    · unfold Pa_side
      rw [x77, if_neg w.2]; exact x21
  have cc : ∀ w, Sam x w → ∀ q, q < 6 → cfr st s r w q = cfr st s r x q := fun w hw q hq => by
    unfold cfr
    rw [hw.side, hw _ _ (by omega) (by omega) (by omega)]
  have Q0 : Qs st s r x x 0 (fun _ => 0) := ⟨x7, by decide, fun k hk => absurd hk (Nat.not_lt_zero _), fun i k _ hk => absurd hk (Nat.not_lt_zero _)⟩
  have sx : Sam x x := fun _ _ _ _ _ => rfl
  -- the source
  have A : ∃ K c, Qs st s r x (Pa_d3 st s x) K c ∧ Sam x (Pa_d3 st s x) ∧ (∀ j, j ≠ 7 → (Pa_d3 st s x) 165 j = x 165 j) ∧ (∀ k, k < K → c k = s ∧ ¬ y (146 + st) s = 0) ∧ (¬ y (146 + st) s = 0 → ∃ k, k < K ∧ c k = s) := by
    unfold Pa_d3
    by_cases c : ¬ x (146 + st) s = 0
    · rw [if_pos c]
      have c' : ¬ y (146 + st) s = 0 := by rw [← x146]; exact c
      obtain ⟨a1, a2, a3⟩ := Q0.add (v := -1) hs fs.symm (fun k hk => absurd hk (Nat.not_lt_zero _))
      exact ⟨1, _, a2, sx.carry, fun j hj => a3 165 j (by decide) (by decide) (fun z => hj z.2), fun k hk => ⟨if_neg (Nat.not_lt_zero _), c'⟩, fun _ => ⟨0, by omega, if_neg (Nat.not_lt_zero _)⟩⟩
    · rw [if_neg c]
      exact ⟨0, fun _ => 0, Q0, sx, fun _ _ => rfl, fun k hk => absurd hk (Nat.not_lt_zero _), fun z => absurd (by rw [x146]; exact z) c⟩
  obtain ⟨K, c, a1, a2, a3, a4, a5⟩ := A
  generalize Pa_d3 st s x = w at a1 a2 a3 ⊢
  have w77 : w 77 st = y 77 st := (a2 _ _ (by omega) (by omega) (by omega)).trans x77
  unfold Pa_d4
  by_cases d : Pa_rc st s r y ∧ ¬ hold (w 77 st) r
  · have d' : Pa_rc st s r y ∧ ¬ hold (y 77 st) r := by rw [← w77]; exact d
    rw [if_pos d]
    obtain ⟨b1, b2, b3⟩ := a1.add (v := -1) (n := r) hr (fr d').symm (fun k hk e => d'.1.1 (by rw [← (a4 k hk).1, e]))
    have b4 : Sam x (Pa_carry r (-1) w) := a2.carry
    generalize Pa_carry r (-1) w = v at b2 b3 b4 ⊢
    have hQv : Qs st s r v v (K + 1) (fun k => if k < K then c k else r) := by
      obtain ⟨p1, p2, p3, p4⟩ := b2
      exact ⟨p1, p2, fun k hk => ⟨(p3 k hk).1, (p3 k hk).2.1, (p3 k hk).2.2.trans (cc v b4 _ (p3 k hk).1).symm⟩, p4⟩
    refine ⟨b4, fun j hj => ?_, fun q hq => ?_, K + 1, _, hQv, fun k hk => ?_, fun q hq h => ?_⟩
    · rw [b3 165 j (by decide) (by decide) (fun z => hj z.2), a3 j hj]; exact x165 j
    · rcases hq with ⟨e, -⟩ | ⟨e, z⟩
      · rw [e, cc v b4 s hs]; exact fs
      · rw [e, cc v b4 r hr]; exact fr z
    · show ((if k < K then c k else r) = s ∧ _) ∨ ((if k < K then c k else r) = r ∧ _)
      by_cases e : k < K
      · rw [if_pos e]; exact Or.inl (a4 k e)
      · rw [if_neg e]; exact Or.inr ⟨rfl, d'⟩
    · rcases h with ⟨e, z⟩ | ⟨e, z⟩
      · obtain ⟨k, hk, ek⟩ := a5 z
        exact ⟨k, by omega, by show (if k < K then c k else r) = q; rw [if_pos hk, e]; exact ek⟩
      · exact ⟨K, by omega, by show (if K < K then c K else r) = q; rw [if_neg (Nat.lt_irrefl _), e]⟩
  · have d' : ¬ (Pa_rc st s r y ∧ ¬ hold (y 77 st) r) := by rw [← w77]; exact d
    rw [if_neg d]
    have hQv : Qs st s r w w K c := by
      obtain ⟨p1, p2, p3, p4⟩ := a1
      exact ⟨p1, p2, fun k hk => ⟨(p3 k hk).1, (p3 k hk).2.1, (p3 k hk).2.2.trans (cc w a2 _ (p3 k hk).1).symm⟩, p4⟩
    refine ⟨a2, fun j hj => ?_, fun q hq => ?_, K, c, hQv, fun k hk => Or.inl (a4 k hk), fun q hq h => ?_⟩
    · rw [a3 j hj]; exact x165 j
    · rcases hq with ⟨e, -⟩ | ⟨e, z⟩
      · rw [e, cc w a2 s hs]; exact fs
      · exact absurd z d'
    · rcases h with ⟨e, z⟩ | ⟨e, z⟩
      · obtain ⟨k, hk, ek⟩ := a5 z
        exact ⟨k, hk, ek.trans e.symm⟩
      · exact absurd z d'
/-- the carriers renewed -/
theorem rn_spec {st g K : Nat} {v : mx_Mm} {c : Nat → Nat} (hst : st < 18) (h7 : v 165 7 = nI K) (hK : K ≤ 6) (hc : ∀ k, k < K → c k < 6 ∧ v 166 k = nI (c k)) :
    (∀ p j, p ≠ 59 + st → (mx_lp 6 (Pa_rn st g) v) p j = v p j) ∧
    ∀ n, n < 6 → ift ((∃ k, k < K ∧ c k = n) ∧ ¬ hold (v 77 st) n ∧ v 2 0 < v (43 + n) g) (v 2 0 + nI 8) (v (59 + st) n) ((mx_lp 6 (Pa_rn st g) v) (59 + st) n) := by
  have h := lp_inv (f := Pa_rn st g) (fun i (w : mx_Mm) => (∀ p j, p ≠ 59 + st → w p j = v p j) ∧ ∀ n, n < 6 → ift ((∃ k, k < i ∧ k < K ∧ c k = n) ∧ ¬ hold (v 77 st) n ∧ v 2 0 < v (43 + n) g) (v 2 0 + nI 8) (v (59 + st) n) (w (59 + st) n)) 6 (m := v) ⟨fun _ _ _ => rfl, fun n _ => ⟨fun z => by obtain ⟨⟨k, hk, -⟩, -⟩ := z; exact absurd hk (Nat.not_lt_zero _), fun _ => rfl⟩⟩ (fun i w hi hI => by
    obtain ⟨w1, w2⟩ := hI
    unfold Pa_rn
    rw [w1 165 7 (by omega), h7]
    by_cases d : nI i < nI K
    · rw [if_pos d]
      have hiK : i < K := (nI_ltI (by omega) (by omega)).mp d
      obtain ⟨hci, e6⟩ := hc i hiK
      have et : tn (w 166 i) = c i := by rw [w1 166 i (by omega), e6]; exact tn_nI (by omega)
      rw [et]
      unfold Pa_rnq
      have hq : (¬ hold (w 77 st) (c i) ∧ w 2 0 < w (43 + c i) g) ↔ (¬ hold (v 77 st) (c i) ∧ v 2 0 < v (43 + c i) g) := by
        rw [w1 77 st (by omega), w1 2 0 (by omega), w1 (43 + c i) g (by omega)]
      by_cases f : ¬ hold (w 77 st) (c i) ∧ w 2 0 < w (43 + c i) g
      · rw [if_pos f]
        unfold Sm_renew
        refine ⟨fun p j hp => (up_neP hp).trans (w1 p j hp), fun n hn => ?_⟩
        by_cases e : n = c i
        · subst e
          rw [up_same, w1 2 0 (by omega)]
          exact ⟨fun _ => rfl, fun z => absurd ⟨⟨i, by omega, hiK, rfl⟩, hq.mp f⟩ z⟩
        · rw [up_neK e]
          obtain ⟨u1, u2⟩ := w2 n hn
          refine ⟨fun z => u1 ⟨?_, z.2⟩, fun z => u2 (fun y => z ⟨?_, y.2⟩)⟩
          · obtain ⟨⟨k, k1, k2, k3⟩, -⟩ := z
            have : k ≠ i := fun q => e (by rw [← k3, q])
            exact ⟨k, by omega, k2, k3⟩
          · obtain ⟨⟨k, k1, k2, k3⟩, -⟩ := y
            exact ⟨k, by omega, k2, k3⟩
      · rw [if_neg f]
        refine ⟨w1, fun n hn => ?_⟩
        obtain ⟨u1, u2⟩ := w2 n hn
        refine ⟨fun z => u1 ⟨?_, z.2⟩, fun z => u2 (fun y => z ⟨?_, y.2⟩)⟩
        · obtain ⟨⟨k, k1, k2, k3⟩, z2⟩ := z
          have : k ≠ i := fun q => f (hq.mpr (by rw [← q, k3]; exact z2))
          exact ⟨k, by omega, k2, k3⟩
        · obtain ⟨⟨k, k1, k2, k3⟩, -⟩ := y
          exact ⟨k, by omega, k2, k3⟩
    · rw [if_neg d]
      have hiK : K ≤ i := by
        have := mt (nI_ltI (a := i) (b := K) (by omega) (by omega)).mpr d
        omega
      refine ⟨w1, fun n hn => ?_⟩
      obtain ⟨u1, u2⟩ := w2 n hn
      refine ⟨fun z => u1 ⟨?_, z.2⟩, fun z => u2 (fun y => z ⟨?_, y.2⟩)⟩
      · obtain ⟨⟨k, k1, k2, k3⟩, -⟩ := z
        exact ⟨k, by omega, k2, k3⟩
      · obtain ⟨⟨k, k1, k2, k3⟩, -⟩ := y
        exact ⟨k, by omega, k2, k3⟩)
  refine ⟨h.1, fun n hn => ?_⟩
  obtain ⟨u1, u2⟩ := h.2 n hn
  refine ⟨fun z => u1 ⟨?_, z.2⟩, fun z => u2 (fun y => z ⟨?_, y.2⟩)⟩
  · obtain ⟨⟨k, k2, k3⟩, -⟩ := z
    exact ⟨k, by omega, k2, k3⟩
  · obtain ⟨⟨k, k1, k2, k3⟩, -⟩ := y
    exact ⟨k, k2, k3⟩
/-- who hears it -/
theorem listen_spec {w : mx_Mm} :
    (∀ p j, p ≠ 56 → ¬ (p = 165 ∧ j = 11) → (Pa_listen w) p j = w p j) ∧
    (∀ l, l < 6 → (Pa_listen w) 56 l = if hold (w 165 10) l ∧ ¬ w 56 l = 0 then w 56 l - nI 1 else w 56 l) ∧
    bs ((Pa_listen w) 165 11) (fun l => l < 6 ∧ hold (w 165 10) l ∧ w 56 l = 0) := by
  have h := lp_inv (f := Pa_l1) (fun i (x : mx_Mm) => (∀ p j, p ≠ 56 → ¬ (p = 165 ∧ j = 11) → x p j = w p j) ∧ (∀ l, l < 6 → x 56 l = if l < i ∧ hold (w 165 10) l ∧ ¬ w 56 l = 0 then w 56 l - nI 1 else w 56 l) ∧ bs (x 165 11) (fun l => l < i ∧ hold (w 165 10) l ∧ w 56 l = 0)) 6 (m := mx_up w 165 11 (nI 0)) ⟨fun p j h1 h2 => up_ne h2, fun l hl => by rw [up_neP (by decide), if_neg (fun z => absurd z.1 (Nat.not_lt_zero _))], by rw [up_same]; exact bs_cg bs_0 (fun n _ => ⟨fun z => z.elim, fun z => absurd z.1 (Nat.not_lt_zero _)⟩)⟩ (fun i x hi hI => by
    obtain ⟨x1, x2, x3⟩ := hI
    have e10 : x 165 10 = w 165 10 := x1 _ _ (by decide) (by decide)
    have e56 : x 56 i = w 56 i := by rw [x2 i hi, if_neg (fun z => absurd z.1 (Nat.lt_irrefl _))]
    unfold Pa_l1
    rw [e10]
    have nx : ∀ {Z : Nat → Prop}, ¬ Z i → ∀ n, (n < i ∧ Z n ↔ n < i + 1 ∧ Z n) := fun {Z} hz n => ⟨fun v => ⟨by omega, v.2⟩, fun v => ⟨by
      have : n ≠ i := fun q => hz (by rw [← q]; exact v.2)
      omega, v.2⟩⟩
    have keep56 : ¬ (hold (w 165 10) i ∧ ¬ w 56 i = 0) → ∀ l, l < 6 → x 56 l = if l < i + 1 ∧ hold (w 165 10) l ∧ ¬ w 56 l = 0 then w 56 l - nI 1 else w 56 l := fun hz l hl => by
      rw [x2 l hl]
      have := nx (Z := fun l => hold (w 165 10) l ∧ ¬ w 56 l = 0) hz l
      by_cases q : l < i ∧ hold (w 165 10) l ∧ ¬ w 56 l = 0
      · rw [if_pos q, if_pos (this.mp q)]
      · rw [if_neg q, if_neg (fun z => q (this.mpr z))]
    by_cases d : hold (w 165 10) i
    · rw [if_pos d, e56]
      by_cases f : w 56 i = 0
      · rw [if_pos f]
        have eh : La_hear i x = x := by
          unfold La_hear
          rw [if_pos (e56.trans f)]
        rw [eh]
        unfold Pa_l2
        refine ⟨fun p j h1 h2 => (up_ne h2).trans (x1 p j h1 h2), fun l hl => ?_, ?_⟩
        · rw [up_neP (by decide)]
          exact keep56 (fun z => z.2 f) l hl
        · rw [up_same]
          refine bs_cg (bs_or x3 (bs_bit (by omega))) (fun n _ => ⟨fun v => ?_, fun v => ?_⟩)
          · rcases v with v | v
            · exact ⟨by omega, v.2⟩
            · exact ⟨by omega, by rw [v]; exact ⟨d, f⟩⟩
          · by_cases q : n = i
            · exact Or.inr q
            · exact Or.inl ⟨by omega, v.2⟩
      · rw [if_neg f]
        have eh : La_hear i x = mx_up x 56 i (w 56 i - nI 1) := by
          unfold La_hear
          rw [if_neg (fun z => f (e56.symm.trans z)), e56]
        rw [eh]
        refine ⟨fun p j h1 h2 => (up_neP h1).trans (x1 p j h1 h2), fun l hl => ?_, ?_⟩
        · by_cases q : l = i
          · subst q; rw [up_same, if_pos ⟨by omega, d, f⟩]
          · rw [up_neK q, x2 l hl]
            by_cases u : l < i ∧ hold (w 165 10) l ∧ ¬ w 56 l = 0
            · rw [if_pos u, if_pos ⟨by omega, u.2⟩]
            · rw [if_neg u, if_neg (fun z => u ⟨by omega, z.2⟩)]
        · rw [up_neP (by decide)]
          exact bs_cg x3 (fun n _ => nx (Z := fun l => hold (w 165 10) l ∧ w 56 l = 0) (fun z => f z.2) n)
    · rw [if_neg d]
      exact ⟨x1, keep56 (fun z => d z.1), bs_cg x3 (fun n _ => nx (Z := fun l => hold (w 165 10) l ∧ w 56 l = 0) (fun z => d z.1) n)⟩)
  obtain ⟨h1, h2, h3⟩ := h
  refine ⟨h1, fun l hl => ?_, h3⟩
  have e := h2 l hl
  by_cases q : hold (w 165 10) l ∧ ¬ w 56 l = 0
  · rw [if_pos ⟨hl, q⟩] at e; rw [if_pos q]; exact e
  · rw [if_neg (fun z => q z.2)] at e; rw [if_neg q]; exact e
