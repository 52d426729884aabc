/-! class and reference side by side: the start -/
theorem fill_v {p n : Nat} {v : Int32} (m : mx_Mm) {i : Nat} (hi : i < n) : (fill_m p n v m) p i = v :=
  lp_inv (f := fun i m => mx_up m p i v) (fun k (x : mx_Mm) => ∀ i, i < k → x p i = v) n (m := m) (fun i h => absurd h (Nat.not_lt_zero _)) (fun k x _ h i hi => by
    by_cases e : i = k
    · subst e; exact up_same _ _ _ _
    · rw [up_neK e]; exact h i (by omega)) i hi
/-- the class's memory behind its constructor -/
theorem MT_start {r : Nat} {m : mx_Mm} (hz : ∀ q j, 2 ≤ q → m q j = 0) :
    (∀ p j, 34 ≤ p → ¬ (50 ≤ p ∧ p < 56) → p ≠ 79 → ¬ (81 ≤ p ∧ p < 84) → ¬ (89 ≤ p ∧ p < 107) → ¬ (108 ≤ p ∧ p < 126) → ¬ (p = 168 ∧ j = 12) → (MT_init r m) p j = 0) ∧
    (MT_init r m) 2 0 = 0 ∧ (∀ j, (MT_init r m) 4 j = 0) ∧ (MT_init r m) 79 0 = nI r ∧ (MT_init r m) 168 12 = nI 1 ∧
    (∀ l g, l < 6 → g < 3 → (MT_init r m) (50 + l) g = -1) ∧ (∀ g n, g < 3 → n < 6 → (MT_init r m) (81 + g) n = -1) ∧ (∀ s n, s < 18 → n < 6 → (MT_init r m) (89 + s) n = -1 ∧ (MT_init r m) (108 + s) n = -1) ∧
    Nt (MT_init r m) ∧ Ne_ok (MT_init r m) ∧ ∀ x y, x < 6 → y < 6 → (MT_init r m) (7 + x) y = 0 := by
  have u0 : ∀ p j, 2 ≤ p → (mx_up m 2 0 (nI 0)) p j = 0 := fun p j hp => by
    by_cases e : p = 2 ∧ j = 0
    · rw [e.1, e.2, up_same]; rfl
    · rw [up_ne e]; exact hz p j hp
  have nk : Ne_ok (mx_up m 2 0 (nI 0)) := fun t k _ _ => ⟨0, by decide, u0 _ _ (by omega)⟩
  have nk2 := Ne_measure_ok nk
  obtain ⟨n1, n2, n3, n4⟩ := Ne_measure_spec nk
  unfold MT_init
  generalize mx_up m 2 0 (nI 0) = m1 at u0 nk nk2 n1 n2 n3 n4 ⊢
  generalize Ne_measure m1 = x at nk2 n1 n2 n3 n4 ⊢
  have xz : ∀ p j, 2 ≤ p → p < 14 ∨ 34 ≤ p → x p j = 0 := fun p j h1 h2 => (n1 p j h2).trans (u0 p j h1)
  -- the LANs
  have l1 : ∀ p j, ¬ (50 ≤ p ∧ p < 56) → (La_init x) p j = x p j := fun p j hp => lp_keep (fun w : mx_Mm => w p j = x p j) 6 rfl (fun l w hl h => (ft_fill w p j (by omega)).trans h)
  have l2 : ∀ l g, l < 6 → g < 3 → (La_init x) (50 + l) g = -1 := fun l g hl hg =>
    lp_inv (f := fun l => fill_m (50 + l) 3 (-1)) (fun i (w : mx_Mm) => ∀ l, l < i → w (50 + l) g = -1) 6 (m := x) (fun l h => absurd h (Nat.not_lt_zero _)) (fun i w _ h l hl => by
      by_cases e : l = i
      · subst e; exact fill_v w hg
      · show (fill_m (50 + i) 3 (-1) w) (50 + l) g = -1
        rw [ft_fill w _ _ (by omega)]; exact h l (by omega)) l hl
  generalize La_init x = y at l1 l2 ⊢
  -- the trees
  have t1 : ∀ p j, p ≠ 79 → ¬ (81 ≤ p ∧ p < 84) → ¬ (89 ≤ p ∧ p < 107) → ¬ (108 ≤ p ∧ p < 126) → (Tr_init r y) p j = y p j := fun p j h1 h2 h3 h4 => by
    refine lp_keep (fun w : mx_Mm => w p j = y p j) 18 (lp_keep (fun w : mx_Mm => w p j = y p j) 3 (up_neP h1) (fun g w hg h => (ft_fill w p j (by omega)).trans h)) (fun s w hs h => ?_)
    exact ((ft_fill _ p j (by omega)).trans (ft_fill w p j (by omega))).trans h
  have t79 : (Tr_init r y) 79 0 = nI r := by
    refine lp_keep (fun w : mx_Mm => w 79 0 = nI r) 18 (lp_keep (fun w : mx_Mm => w 79 0 = nI r) 3 (up_same _ _ _ _) (fun g w hg h => (ft_fill w _ _ (by omega)).trans h)) (fun s w hs h => ?_)
    exact ((ft_fill _ _ _ (by omega)).trans (ft_fill w _ _ (by omega))).trans h
  have t81 : ∀ g n, g < 3 → n < 6 → (Tr_init r y) (81 + g) n = -1 := fun g n hg hn => by
    refine lp_keep (fun w : mx_Mm => w (81 + g) n = -1) 18 ?_ (fun s w hs h => ((ft_fill _ _ _ (by omega)).trans (ft_fill w _ _ (by omega))).trans h)
    exact lp_inv (f := fun g => fill_m (81 + g) 6 (-1)) (fun i (w : mx_Mm) => ∀ g, g < i → w (81 + g) n = -1) 3 (m := mx_up y 79 0 (nI r)) (fun g h => absurd h (Nat.not_lt_zero _)) (fun i w _ h g hg => by
      by_cases e : g = i
      · subst e; exact fill_v w hn
      · show (fill_m (81 + i) 6 (-1) w) (81 + g) n = -1
        rw [ft_fill w _ _ (by omega)]; exact h g (by omega)) g hg
  have t89 : ∀ s n, s < 18 → n < 6 → (Tr_init r y) (89 + s) n = -1 ∧ (Tr_init r y) (108 + s) n = -1 := fun s n hs hn =>
    lp_inv (f := Tr_i2) (fun i (w : mx_Mm) => ∀ s, s < i → w (89 + s) n = -1 ∧ w (108 + s) n = -1) 18 (m := mx_lp 3 (fun g => fill_m (81 + g) 6 (-1)) (mx_up y 79 0 (nI r))) (fun s h => absurd h (Nat.not_lt_zero _)) (fun i w hi h s hs => by
      unfold Tr_i2
      by_cases e : s = i
      · subst e
        exact ⟨(ft_fill _ _ _ (by omega)).trans (fill_v w hn), fill_v _ hn⟩
      · rw [ft_fill _ _ _ (by omega), ft_fill _ _ _ (by omega), ft_fill _ (108 + s) _ (by omega), ft_fill _ (108 + s) _ (by omega)]
        exact h s (by omega)) s hs
  generalize Tr_init r y = w at t1 t79 t81 t89 ⊢
  -- the packets and the files
  have p1 : ∀ p j, p ≠ 165 → p ≠ 168 → (Fi_init (Pa_init w)) p j = w p j := fun p j h1 h2 => by
    unfold Fi_init Pa_init
    rw [up_neP h2, up_neP h2, up_neP h1, up_neP h1, up_neP h1, up_neP h1, up_neP h1]
  have wz : ∀ p j, 2 ≤ p → p < 14 ∨ 34 ≤ p → ¬ (50 ≤ p ∧ p < 56) → p ≠ 79 → ¬ (81 ≤ p ∧ p < 84) → ¬ (89 ≤ p ∧ p < 107) → ¬ (108 ≤ p ∧ p < 126) → w p j = 0 := fun p j h0 h1 h2 h3 h4 h5 h6 => (t1 p j h3 h4 h5 h6).trans ((l1 p j h2).trans (xz p j h0 h1))
  have p5 : ∀ j, (Fi_init (Pa_init w)) 165 j = 0 := fun j => by
    unfold Fi_init Pa_init
    rw [up_neP (by decide), up_neP (by decide)]
    by_cases e11 : j = 11
    · rw [e11, up_same]; rfl
    · rw [up_neK e11]
      by_cases e10 : j = 10
      · rw [e10, up_same]; rfl
      · rw [up_neK e10]
        by_cases e9 : j = 9
        · rw [e9, up_same]; rfl
        · rw [up_neK e9]
          by_cases e8 : j = 8
          · rw [e8, up_same]; rfl
          · rw [up_neK e8]
            by_cases e7 : j = 7
            · rw [e7, up_same]; rfl
            · rw [up_neK e7]; exact wz _ _ (by omega) (by omega) (by omega) (by omega) (by omega) (by omega) (by omega)
  have p8 : ∀ j, j ≠ 12 → (Fi_init (Pa_init w)) 168 j = 0 := fun j hj => by
    unfold Fi_init
    rw [up_neK hj]
    by_cases e : j = 11
    · rw [e, up_same]; rfl
    · rw [up_neK e]
      unfold Pa_init
      rw [up_neP (by decide), up_neP (by decide), up_neP (by decide), up_neP (by decide), up_neP (by decide)]
      exact wz _ _ (by omega) (by omega) (by omega) (by omega) (by omega) (by omega) (by omega)
  have p12 : (Fi_init (Pa_init w)) 168 12 = nI 1 := up_same _ _ _ _
  generalize Fi_init (Pa_init w) = a at p1 p5 p8 p12 ⊢
  have ax : ∀ p j, 3 ≤ p → p < 50 → a p j = x p j := fun p j h1 h2 => (p1 p j (by omega) (by omega)).trans ((t1 p j (by omega) (by omega) (by omega) (by omega)).trans (l1 p j (by omega)))
  have e6 : E6 (mc m1) (mc a) := fun p q hp hq => ((ax (7 + p) q (by omega) (by omega)).trans (n1 _ _ (by omega))).symm
  have c0 : pm_c (mc m1) := ⟨fun p q _ _ => ⟨0, by decide, u0 _ _ (by omega)⟩, fun p q _ _ => (u0 (7 + p) q (by omega)).trans (u0 (7 + q) p (by omega)).symm⟩
  refine ⟨fun p j h0 h1 h2 h3 h4 h5 h6 => ?_, ?_, fun j => ?_, ?_, p12, fun l g hl hg => ?_, fun g n hg hn => ?_, fun s n hs hn => ?_, ⟨pm_c_cg e6 c0, fun p q hp hq => ?_, fun p q hp hq => ?_, fun t ht => ?_⟩, fun t k ht hk => ?_, fun p q hp hq => ?_⟩
  · by_cases e5 : p = 165
    · rw [e5]; exact p5 j
    · by_cases e8 : p = 168
      · rw [e8]; exact p8 j (fun z => h6 ⟨e8, z⟩)
      · rw [p1 p j e5 e8]; exact wz p j (by omega) (by omega) h1 h2 h3 h4 h5
  · rw [p1 _ _ (by decide) (by decide)]; exact wz _ _ (by omega) (by omega) (by omega) (by omega) (by omega) (by omega) (by omega)
  · rw [p1 _ _ (by decide) (by decide)]; exact wz _ _ (by omega) (by omega) (by omega) (by omega) (by omega) (by omega) (by omega)
  · rw [p1 _ _ (by decide) (by decide)]; exact t79
  · rw [p1 _ _ (by omega) (by omega), t1 _ _ (by omega) (by omega) (by omega) (by omega)]; exact l2 l g hl hg
  · rw [p1 _ _ (by omega) (by omega)]; exact t81 g n hg hn
  · rw [p1 _ _ (by omega) (by omega), p1 _ _ (by omega) (by omega)]; exact t89 s n hs hn
  · rw [ax _ _ (by omega) (by omega), n2 p q hp hq]; exact pm_F_cg e6 p q hp hq
  · rw [ax _ _ (by omega) (by omega), n3 p q hp hq]; exact pm_N_cg e6 (pm_F_cg e6) hp hq
  · exact Or_cg ht (n4 t ht) (fun k => ax _ _ (by omega) (by omega)) (fun p hp => ax _ _ (by omega) (by omega))
  · rw [ax _ _ (by omega) (by omega)]; exact nk2 t k ht hk
  · rw [ax _ _ (by omega) (by omega)]; exact xz _ _ (by omega) (by omega)
/-- the reference's memory behind its constructor -/
theorem Mo_start {r : Nat} {a : mx_Mm} (hz : ∀ q j, 185 ≤ q → a q j = 0) :
    (∀ p j, p < 185 → (Mo_init r a) p j = a p j) ∧
    (∀ p j, 185 ≤ p → p ≠ 187 → p ≠ 188 → p ≠ 191 → p ≠ 192 → p ≠ 194 → p ≠ 196 → ¬ (p = 185 ∧ (j = 0 ∨ j = 34)) → (Mo_init r a) p j = 0) ∧
    (Mo_init r a) 185 0 = nI r ∧ (Mo_init r a) 185 34 = nI 1 ∧ (∀ k, k < 18 → (Mo_init r a) 191 k = -1 ∧ (Mo_init r a) 192 k = -1) ∧ (∀ k, k < 108 → (Mo_init r a) 194 k = -1 ∧ (Mo_init r a) 196 k = -1) ∧
    (∀ c, E6 c (fun _ _ => 0) → R2 (Mo_init r a) (pm_F c)) ∧ ∀ c, E6 c (fun _ _ => 0) → ∀ x y, x < 6 → y < 6 → (Mo_init r a) 188 (6 * x + y) = pm_N c (pm_F c) x y := by
  have i0 : ∀ p j, ¬ (p = 185 ∧ (j = 0 ∨ j = 34)) → (Mo_i0 r a) p j = a p j := fun p j hp => by
    unfold Mo_i0
    rw [up_ne (by omega), up_ne (by omega)]
  have i00 : (Mo_i0 r a) 185 0 = nI r := up_same _ _ _ _
  have i34 : (Mo_i0 r a) 185 34 = nI 1 := by
    unfold Mo_i0
    rw [up_neK (by decide), up_same]
  unfold Mo_init
  generalize Mo_i0 r a = x at i0 i00 i34 ⊢
  have h1 := lp_inv (f := Mo_i1) (fun i (w : mx_Mm) => (∀ p j, p ≠ 191 → p ≠ 192 → w p j = x p j) ∧ ∀ k, k < i → w 191 k = -1 ∧ w 192 k = -1) 18 (m := x) ⟨fun _ _ _ _ => rfl, fun k h => absurd h (Nat.not_lt_zero _)⟩ (fun i w _ h => by
    unfold Mo_i1
    refine ⟨fun p j p1 p2 => (up_neP p2).trans ((up_neP p1).trans (h.1 p j p1 p2)), fun k hk => ?_⟩
    by_cases e : k = i
    · subst e; exact ⟨(up_neP (by decide)).trans (up_same _ _ _ _), up_same _ _ _ _⟩
    · rw [up_neK e, up_neK e, up_neK e, up_neK e]; exact h.2 k (by omega))
  obtain ⟨a1, a2⟩ := h1
  generalize mx_lp 18 Mo_i1 x = y at a1 a2 ⊢
  have h2 := lp_inv (f := Mo_i2) (fun i (w : mx_Mm) => (∀ p j, p ≠ 194 → p ≠ 196 → w p j = y p j) ∧ ∀ k, k < i → w 194 k = -1 ∧ w 196 k = -1) 108 (m := y) ⟨fun _ _ _ _ => rfl, fun k h => absurd h (Nat.not_lt_zero _)⟩ (fun i w _ h => by
    unfold Mo_i2
    refine ⟨fun p j p1 p2 => (up_neP p2).trans ((up_neP p1).trans (h.1 p j p1 p2)), fun k hk => ?_⟩
    by_cases e : k = i
    · subst e; exact ⟨(up_neP (by decide)).trans (up_same _ _ _ _), up_same _ _ _ _⟩
    · rw [up_neK e, up_neK e, up_neK e, up_neK e]; exact h.2 k (by omega))
  obtain ⟨b1, b2⟩ := h2
  generalize mx_lp 108 Mo_i2 y = z at b1 b2 ⊢
  have zo : ∀ p j, p ≠ 191 → p ≠ 192 → p ≠ 194 → p ≠ 196 → z p j = x p j := fun p j p1 p2 p3 p4 => (b1 p j p3 p4).trans (a1 p j p1 p2)
  have z186 : ∀ j, z 186 j = 0 := fun j => (zo _ _ (by decide) (by decide) (by decide) (by decide)).trans ((i0 _ _ (by omega)).trans (hz _ _ (by omega)))
  have pc : pm_c (md z) := ⟨fun p q _ _ => ⟨0, by decide, z186 _⟩, fun p q _ _ => (z186 _).trans (z186 _).symm⟩
  obtain ⟨w1, w2, w3⟩ := Mo_ways_spec pc
  generalize Mo_ways z = b at w1 w2 w3 ⊢
  have hE : ∀ c, E6 c (fun _ _ => 0) → E6 (md z) c := fun c hc p q hp hq => (z186 _).trans (hc p q hp hq).symm
  refine ⟨fun p j hp => ?_, fun p j h0 h1 h2 h3 h4 h5 h6 h7 => ?_, ?_, ?_, fun k hk => ?_, fun k hk => ?_, fun c hc p hp => ?_, fun c hc p q hp hq => ?_⟩
  · rw [w1 p j (by omega) (by omega), zo p j (by omega) (by omega) (by omega) (by omega), i0 p j (by omega)]
  · rw [w1 p j h1 h2, zo p j h3 h4 h5 h6, i0 p j h7]; exact hz p j h0
  · rw [w1 _ _ (by decide) (by decide), zo _ _ (by decide) (by decide) (by decide) (by decide)]; exact i00
  · rw [w1 _ _ (by decide) (by decide), zo _ _ (by decide) (by decide) (by decide) (by decide)]; exact i34
  · rw [w1 _ _ (by decide) (by decide), w1 _ _ (by decide) (by decide), b1 _ _ (by decide) (by decide), b1 _ _ (by decide) (by decide)]; exact a2 k hk
  · rw [w1 _ _ (by decide) (by decide), w1 _ _ (by decide) (by decide)]; exact b2 k hk
  · rw [w2 p hp]; exact pm_F_cg (hE c hc) _ _ (by omega) (by omega)
  · rw [w3 p q hp hq]; exact pm_N_cg (hE c hc) (pm_F_cg (hE c hc)) hp hq
theorem bs_zero {P : Nat → Prop} (h : ∀ n, n < 7 → ¬ P n) : bs (0 : Int32) P := bs_cg bs_0 (fun n hn => ⟨fun z => z.elim, fun z => h n hn z⟩)
theorem start_sim {r : Nat} {m : mx_Mm} (hr : r < 6) (hz : ∀ q j, 2 ≤ q → m q j = 0) : Sim r 0 (MT_init r m) (Mo_init r (MT_init r m)) := by
  obtain ⟨a0, a2, a4, a79, a12, a50, a81, a89, aN, aok, a7⟩ := MT_start (r := r) hz
  obtain ⟨b0, b1, b2, b3, b4, b5, b6, b7⟩ := Mo_start (r := r) (a := MT_init r m) (fun q j hq => a0 q j (by omega) (by omega) (by omega) (by omega) (by omega) (by omega) (by omega))
  generalize MT_init r m = a at a0 a2 a4 a79 a12 a50 a81 a89 aN aok a7 b0 b1 b2 b3 b4 b5 b6 b7 ⊢
  generalize Mo_init r a = b at b0 b1 b2 b3 b4 b5 b6 b7 ⊢
  have e0 : E6 (mc a) (fun _ _ => 0) := fun p q hp hq => a7 p q hp hq
  have zb : ∀ p j, 185 ≤ p → p ≠ 187 → p ≠ 188 → p ≠ 191 → p ≠ 192 → p ≠ 194 → p ≠ 196 → p ≠ 185 → b p j = 0 := fun p j h1 h2 h3 h4 h5 h6 h7 h8 => b1 p j h1 h2 h3 h4 h5 h6 h7 (fun z => h8 z.1)
  have za : ∀ p j, 34 ≤ p → ¬ (50 ≤ p ∧ p < 56) → p ≠ 79 → ¬ (81 ≤ p ∧ p < 84) → ¬ (89 ≤ p ∧ p < 107) → ¬ (108 ≤ p ∧ p < 126) → p ≠ 168 → a p j = 0 := fun p j h1 h2 h3 h4 h5 h6 h7 => a0 p j h1 h2 h3 h4 h5 h6 (fun z => h7 z.1)
  have m1n : ∀ n, n < 6 → ¬ (-1 : Int32) = nI n := fun n hn e => pm_nI_m1 (by omega) e.symm
  have hon : ∀ n g, ¬ Mo_on n g b := fun n g => by
    unfold Mo_on
    rw [b1 185 1 (by omega) (by omega) (by omega) (by omega) (by omega) (by omega) (by omega) (by omega), zb 190 _ (by omega) (by omega) (by omega) (by omega) (by omega) (by omega) (by omega) (by omega)]
    decide
  have hin : ∀ n k st, n < 6 → k < 6 → st < 18 → ¬ Mo_in n k st b := fun n k st hn hk hst w => by
    have w1 := w.1
    rw [(b4 (3 * k + st % 3) (by omega)).2] at w1
    exact m1n n hn w1
  have hout : ∀ n k st, n < 6 → k < 6 → st < 18 → ¬ Mo_out n k st b := fun n k st hn hk hst w => by
    rcases w with w | w
    · exact hin n k st hn hk hst w
    · rw [(b5 (18 * k + st) (by omega)).2] at w
      exact m1n n hn w
  have hc : S_cnt a b := fun j hj => by
    rw [a4 j, zb 201 j (by omega) (by omega) (by omega) (by omega) (by omega) (by omega) (by omega) (by omega)]
  have z1 : ∀ j, j ≠ 0 → j ≠ 34 → b 185 j = 0 := fun j h1 h2 => b1 185 j (by omega) (by omega) (by omega) (by omega) (by omega) (by omega) (by omega) (by omega)
  have tok : Tr_ok r a := ⟨a79, aok, fun p t hp ht => aN.nx ht hp, fun g n hg hn => Or.inl (a81 g n hg hn), fun s n hs hn => Or.inl (a89 s n hs hn).1, fun s n hs hn => Or.inl (a89 s n hs hn).2⟩
  have net : S_net a b := ⟨aN, fun x y hx hy => ⟨(a7 x y hx hy).trans (zb 186 _ (by omega) (by omega) (by omega) (by omega) (by omega) (by omega) (by omega) (by omega)).symm, by
      rw [b6 (mc a) e0 _ (by omega), show (6 * x + y) / 6 = x by omega, show (6 * x + y) % 6 = y by omega]; exact aN.2.1 x y hx hy, by
      rw [b7 (mc a) e0 x y hx hy]; exact aN.2.2.1 x y hx hy⟩⟩
  have mok : Mo_ok r b := by
    refine ⟨b2, fun k hk => ?_, fun k hk => ⟨Or.inl (b4 k hk).2, Or.inr ⟨0, by decide, zb 193 _ (by omega) (by omega) (by omega) (by omega) (by omega) (by omega) (by omega) (by omega)⟩⟩, fun k hk => ⟨Or.inl (b5 k hk).1, Or.inr ⟨0, by decide, zb 195 _ (by omega) (by omega) (by omega) (by omega) (by omega) (by omega) (by omega) (by omega)⟩, Or.inl (b5 k hk).2, Or.inr ⟨0, by decide, zb 197 _ (by omega) (by omega) (by omega) (by omega) (by omega) (by omega) (by omega) (by omega)⟩⟩⟩
    have := (net.2 (k / 6) (k % 6) (by omega) (by omega)).2.2
    rw [show 6 * (k / 6) + k % 6 = k by omega] at this
    rw [← this]
    exact aN.nx (by omega) (by omega)
  have hh0 : ∀ k, k < 16 → ¬ hold (0 : Int32) k := by decide
  refine ⟨⟨⟨by decide, z1 1 (by decide) (by decide)⟩, net, ⟨a2.trans (z1 1 (by decide) (by decide)).symm, fun l g hl hg => ?_⟩, fun l g hl hg => ⟨?_, ?_⟩, fun st n h1 h2 => ?_, fun st h1 => ?_, fun st h1 => ?_, fun n st hn h1 hne => ?_, ⟨fun g n hg hn => ?_, fun st n h1 hn => ⟨?_, ?_⟩⟩, fun st n h1 hn => ⟨?_, ?_⟩, hc, fun l hl => ⟨?_, 0, by decide, ?_⟩, tok, mok⟩, ⟨?_, ?_, ?_, ?_⟩, ⟨⟨?_, ?_⟩, fun f hf => ?_⟩, fun c f _ _ _ hf => ?_, ⟨a79, ⟨0, by decide, ?_⟩, fun k hk => ⟨0, by decide, ?_⟩⟩, ⟨⟨0, by decide, ?_⟩, fun f hf => ⟨⟨0, by decide, ?_⟩, ⟨0, by decide, ?_⟩, 0, by decide, ?_⟩⟩, ⟨0, by decide, ?_⟩, fun f hf => ⟨⟨0, by decide, ?_⟩, 0, by decide, ?_⟩⟩
  · rw [za _ _ (by omega) (by omega) (by omega) (by omega) (by omega) (by omega) (by omega), zb 190 _ (by omega) (by omega) (by omega) (by omega) (by omega) (by omega) (by omega) (by omega)]
  · rw [za _ _ (by omega) (by omega) (by omega) (by omega) (by omega) (by omega) (by omega)]
    exact bs_zero (fun k _ z => z.2 (zb 189 _ (by omega) (by omega) (by omega) (by omega) (by omega) (by omega) (by omega) (by omega)))
  · rw [a50 l g hl hg, (b4 (3 * l + g) (by omega)).1]
  · rw [za _ _ (by omega) (by omega) (by omega) (by omega) (by omega) (by omega) (by omega), zb 198 _ (by omega) (by omega) (by omega) (by omega) (by omega) (by omega) (by omega) (by omega)]
  · rw [za _ _ (by omega) (by omega) (by omega) (by omega) (by omega) (by omega) (by omega)]
    exact bs_zero (fun k _ z => z.2 (zb 199 _ (by omega) (by omega) (by omega) (by omega) (by omega) (by omega) (by omega) (by omega)))
  · rw [za _ _ (by omega) (by omega) (by omega) (by omega) (by omega) (by omega) (by omega), zb 200 _ (by omega) (by omega) (by omega) (by omega) (by omega) (by omega) (by omega) (by omega)]
  · exact absurd (zb 199 _ (by omega) (by omega) (by omega) (by omega) (by omega) (by omega) (by omega) (by omega)) hne
  · rw [a81 g n hg hn, (b4 (3 * n + g) (by omega)).2]
  · rw [(a89 st n h1 hn).1, (b5 (18 * n + st) (by omega)).1]
  · rw [(a89 st n h1 hn).2, (b5 (18 * n + st) (by omega)).2]
  · rw [za _ _ (by omega) (by omega) (by omega) (by omega) (by omega) (by omega) (by omega)]
    refine bs_zero (fun k _ z => ?_)
    by_cases c : k < 6
    · rw [if_pos c] at z; exact hin n k st hn c h1 z
    · rw [if_neg c] at z; exact hon _ _ z
  · rw [za _ _ (by omega) (by omega) (by omega) (by omega) (by omega) (by omega) (by omega)]
    refine bs_zero (fun k _ z => ?_)
    by_cases c : k < 6
    · rw [if_pos c] at z; exact hout n k st hn c h1 z
    · rw [if_neg c] at z; exact hon _ _ z
  · rw [za _ _ (by omega) (by omega) (by omega) (by omega) (by omega) (by omega) (by omega), zb 202 _ (by omega) (by omega) (by omega) (by omega) (by omega) (by omega) (by omega) (by omega)]
  · exact za _ _ (by omega) (by omega) (by omega) (by omega) (by omega) (by omega) (by omega)
  · rw [za _ _ (by omega) (by omega) (by omega) (by omega) (by omega) (by omega) (by omega), z1 19 (by decide) (by decide)]
  · rw [za _ _ (by omega) (by omega) (by omega) (by omega) (by omega) (by omega) (by omega), z1 20 (by decide) (by decide)]
  · rw [za _ _ (by omega) (by omega) (by omega) (by omega) (by omega) (by omega) (by omega), z1 21 (by decide) (by decide)]
  · rw [za _ _ (by omega) (by omega) (by omega) (by omega) (by omega) (by omega) (by omega), z1 22 (by decide) (by decide)]
  · rw [a0 168 11 (by omega) (by omega) (by omega) (by omega) (by omega) (by omega) (by omega), z1 26 (by decide) (by decide)]
  · rw [a12, b3]
  · have zz : ∀ p j, 169 ≤ p → a p j = 0 := fun p j hp => za p j (by omega) (by omega) (by omega) (by omega) (by omega) (by omega) (by omega)
    have yy : ∀ p j, 206 ≤ p → b p j = 0 := fun p j hp => zb p j (by omega) (by omega) (by omega) (by omega) (by omega) (by omega) (by omega) (by omega)
    refine ⟨⟨?_, ?_, ?_, ?_, ?_⟩, fun l hl => ⟨?_, ?_⟩, 0, 0, by decide, zz _ _ (by omega), Nat.le_refl _, zz _ _ (by omega), fun k _ k2 => ?_, fun l hl => ⟨0, Nat.le_refl _, zz _ _ (by omega)⟩⟩
    · rw [zz _ _ (by omega), yy _ _ (by omega)]
    · rw [zz _ _ (by omega), yy _ _ (by omega)]
    · rw [zz _ _ (by omega), yy _ _ (by omega)]
    · rw [zz _ _ (by omega), yy _ _ (by omega)]
    · rw [zz _ _ (by omega), yy _ _ (by omega)]
    · rw [zz _ _ (by omega), yy _ _ (by omega)]
    · rw [zz _ _ (by omega), yy _ _ (by omega)]
    · rw [zz _ _ (by omega)]; exact hh0 k k2
  · exact za _ _ (by omega) (by omega) (by omega) (by omega) (by omega) (by omega) (by omega)
  · exact za _ _ (by omega) (by omega) (by omega) (by omega) (by omega) (by omega) (by omega)
  · exact za _ _ (by omega) (by omega) (by omega) (by omega) (by omega) (by omega) (by omega)
  · exact a0 168 11 (by omega) (by omega) (by omega) (by omega) (by omega) (by omega) (by omega)
  · exact za _ _ (by omega) (by omega) (by omega) (by omega) (by omega) (by omega) (by omega)
  · exact za _ _ (by omega) (by omega) (by omega) (by omega) (by omega) (by omega) (by omega)
  · exact za _ _ (by omega) (by omega) (by omega) (by omega) (by omega) (by omega) (by omega)
  · exact z1 26 (by decide) (by decide)
  · exact zb 206 _ (by omega) (by omega) (by omega) (by omega) (by omega) (by omega) (by omega) (by omega)
  · exact zb 207 _ (by omega) (by omega) (by omega) (by omega) (by omega) (by omega) (by omega) (by omega)
/-- the script stays -/
theorem MT_at0 {r : Nat} {m : mx_Mm} (hz : ∀ q j, 2 ≤ q → m q j = 0) (j : Nat) : (MT_init r m) 0 j = m 0 j := by
  have nk : Ne_ok (mx_up m 2 0 (nI 0)) := fun t k _ _ => ⟨0, by decide, (up_neP (by omega)).trans (hz _ _ (by omega))⟩
  obtain ⟨n1, -⟩ := Ne_measure_spec nk
  have e1 : (Ne_measure (mx_up m 2 0 (nI 0))) 0 j = m 0 j := (n1 0 j (by omega)).trans (up_neP (by decide))
  unfold MT_init
  generalize Ne_measure (mx_up m 2 0 (nI 0)) = x at e1 ⊢
  have e2 : (La_init x) 0 j = x 0 j := lp_keep (fun w : mx_Mm => w 0 j = x 0 j) 6 rfl (fun l w hl h => (ft_fill w 0 j (by omega)).trans h)
  generalize La_init x = y at e2 ⊢
  have e3 : (Tr_init r y) 0 j = y 0 j := by
    refine lp_keep (fun w : mx_Mm => w 0 j = y 0 j) 18 (lp_keep (fun w : mx_Mm => w 0 j = y 0 j) 3 (up_neP (by decide)) (fun g w hg h => (ft_fill w 0 j (by omega)).trans h)) (fun s w hs h => ?_)
    exact ((ft_fill _ 0 j (by omega)).trans (ft_fill w 0 j (by omega))).trans h
  generalize Tr_init r y = w at e3 ⊢
  unfold Fi_init Pa_init
  rw [up_neP (by decide), up_neP (by decide), up_neP (by decide), up_neP (by decide), up_neP (by decide), up_neP (by decide), up_neP (by decide), e3, e2, e1]
