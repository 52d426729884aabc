/-! the class's packet as a whole -/
theorem env_cg {st s r : Nat} {x y : mx_Mm} (h : ∀ p j, p = 77 ∨ p = 127 + st ∨ p = 146 + st ∨ (21 ≤ p ∧ p < 27) → y p j = x p j) : (∀ q, Pa_list st q y = Pa_list st q x) ∧ ∀ q, q < 6 → cfr st s r y q = cfr st s r x q := by
  refine ⟨fun q => ?_, fun q hq => ?_⟩
  · unfold Pa_list
    rw [h 77 st (by omega), h (146 + st) q (by omega), h (127 + st) q (by omega)]
  · unfold cfr Pa_side
    rw [h 77 st (by omega), h (21 + q) _ (by omega)]
theorem disp_spec {s g r st : Nat} {a : mx_Mm} {P : Nat → Prop} (hs : s < 6) (hg : g < 3) (hr : r < 6) (est : s * 3 + g = st) (hN : Nt a) (hP : bs (a 77 st) P) :
    (∀ p j, p ≠ 4 → p ≠ 56 → p ≠ 59 + st → p ≠ 78 → p ≠ 165 → p ≠ 166 → p ≠ 167 → ¬ (p = 77 ∧ j = st) → (Pa_disp s g r a) p j = a p j) ∧
    bs ((Pa_disp s g r a) 77 st) (fun n => P n ∨ (n = s ∧ ¬ a (146 + st) s = 0) ∨ (n < 6 ∧ ¬ a (108 + st) n = -1)) ∧
    (∀ j, (Pa_disp s g r a) 78 j = if j = st ∧ Pa_rc st s r a ∧ (hold ((Pa_disp s g r a) 77 st) r ∨ a (146 + st) r = 0) then a 2 0 + nI 6 else a 78 j) ∧
    (∀ j, (Pa_disp s g r a) 4 j = a 4 j + ((if Pa_rc st s r a ∧ j = 6 then nI 1 else 0) + if (Pa_rc st s r a ∧ (hold ((Pa_disp s g r a) 77 st) r ∨ a (146 + st) r = 0)) ∧ j = 7 then nI 1 else 0)) ∧
    (∀ l, l < 6 → (Pa_disp s g r a) 56 l = if hold ((Pa_disp s g r a) 165 10) l ∧ ¬ a 56 l = 0 then a 56 l - nI 1 else a 56 l) ∧
    bs ((Pa_disp s g r a) 165 11) (fun l => l < 6 ∧ hold ((Pa_disp s g r a) 165 10) l ∧ a 56 l = 0) ∧
    ∃ K c, Chn (fun q => (q = s ∧ ¬ a (146 + st) s = 0) ∨ (q = r ∧ Pa_rc st s r a ∧ ¬ hold ((Pa_disp s g r a) 77 st) r)) (cgo st s r (Pa_disp s g r a)) K c ∧
      (Pa_disp s g r a) 165 8 = sI K (fun k => sI 6 (cxx st s r (Pa_disp s g r a) (c k))) ∧ (Pa_disp s g r a) 165 9 = sI K (fun k => sI 6 (cdd st s r (Pa_disp s g r a) (c k))) ∧
      bs ((Pa_disp s g r a) 165 10) (fun q => (q = s ∧ a 2 0 < a (43 + s) g) ∨ ∃ k, k < K ∧ c k = q ∧ ¬ Pa_list st q (Pa_disp s g r a) &&& nI 64 = 0 ∧ ¬ q = s) ∧
      ∀ n, n < 6 → ift (n = s ∨ ¬ a (108 + st) n = -1 ∨ (Pa_rc st s r a ∧ n = r) ∨ ((∃ k, k < K ∧ c k = n) ∧ ¬ hold ((Pa_disp s g r a) 77 st) n ∧ a 2 0 < a (43 + n) g)) (a 2 0 + nI 8) (a (59 + st) n) ((Pa_disp s g r a) (59 + st) n) := by
  have hst : st < 18 := by omega
  unfold Pa_disp
  rw [est]
  obtain ⟨y1, y2, y3, y7, y8, y9, y10⟩ := sj_spec (g := g) hst hs hP
  generalize Pa_sj st s (Pa_d0 s g (Pa_z a)) = y at y1 y2 y3 y7 y8 y9 y10 ⊢
  have rcq : Pa_rc st s r y ↔ Pa_rc st s r a := by
    unfold Pa_rc
    rw [y1 (14 + s) r (by omega) (by omega) (by omega), y1 2 0 (by omega) (by omega) (by omega), y1 78 st (by omega) (by omega) (by omega)]
  have hrr : y (21 + r) r = -1 := by
    rw [y1 _ _ (by omega) (by omega) (by omega), hN.2.2.1 r r hr hr]
    unfold pm_N
    rw [if_pos (Or.inl rfl)]
  obtain ⟨g1, g2, g3, g4⟩ := reg_spec (s := s) (r := r) (y := y) hst
  obtain ⟨d1, d2, d3, K0, c0, d4, d5, d6⟩ := dA_spec hst hs hr y7 hrr
  generalize Pa_reg st s r y = w at g1 g2 g3 g4 d1
  generalize Pa_dA st s r y = x at d1 d2 d3 d4 d5 d6 ⊢
  have sx : Sam x x := fun _ _ _ _ _ => rfl
  obtain ⟨K, c, p1, p2, p3, p8, p9, p10, pj⟩ := puts_all hst sx d4 d5 d6 d3
  unfold Pa_dB
  generalize mx_lp 6 (Pa_puts st s r) x = v at p2 p3 p8 p9 p10 pj ⊢
  obtain ⟨n1, n2⟩ := rn_spec (g := g) hst p3.1 p3.2.1 (fun k hk => ⟨(p3.2.2.1 k hk).1, (p3.2.2.1 k hk).2.1⟩)
  generalize mx_lp 6 (Pa_rn st g) v = u at n1 n2 ⊢
  obtain ⟨l1, l2, l3⟩ := listen_spec (w := u)
  generalize Pa_listen u = a' at l1 l2 l3 ⊢
  -- all places in one line
  have yw : ∀ p j, p ≠ 59 + st → p ≠ 78 → p ≠ 4 → p ≠ 165 → p ≠ 166 → p ≠ 167 → p ≠ 56 → a' p j = y p j := fun p j h1 h2 h3 h4 h5 h6 h7 => (l1 p j h7 (fun z => h4 z.1)).trans ((n1 p j h1).trans ((p2 p j h4 h5 h6).trans ((d1 p j h4 h5 h6).trans (g1 p j h1 h2 h3))))
  have xa : ∀ p j, p ≠ 59 + st → p ≠ 165 → p ≠ 166 → p ≠ 167 → p ≠ 56 → a' p j = x p j := fun p j h1 h4 h5 h6 h7 => (l1 p j h7 (fun z => h4 z.1)).trans ((n1 p j h1).trans (p2 p j h4 h5 h6))
  have a77 : a' 77 st = y 77 st := yw _ _ (by omega) (by omega) (by omega) (by omega) (by omega) (by omega) (by omega)
  obtain ⟨el, ef⟩ := env_cg (st := st) (s := s) (r := r) (x := x) (y := a') (fun p j hp => xa p j (by omega) (by omega) (by omega) (by omega) (by omega))
  have y2c : y 2 0 = a 2 0 := y1 2 0 (by omega) (by omega) (by omega)
  have y146 : ∀ q, y (146 + st) q = a (146 + st) q := fun q => y1 _ q (by omega) (by omega) (by omega)
  have v2c : v 2 0 = a 2 0 := (p2 _ _ (by omega) (by omega) (by omega)).trans ((d1 _ _ (by omega) (by omega) (by omega)).trans ((g1 _ _ (by omega) (by omega) (by omega)).trans y2c))
  have v43 : ∀ n, n < 6 → v (43 + n) g = a (43 + n) g := fun n hn => (p2 _ _ (by omega) (by omega) (by omega)).trans ((d1 _ _ (by omega) (by omega) (by omega)).trans ((g1 _ _ (by omega) (by omega) (by omega)).trans (y1 _ _ (by omega) (by omega) (by omega))))
  have v77 : v 77 st = a' 77 st := by
    rw [a77]
    exact (p2 _ _ (by omega) (by omega) (by omega)).trans ((d1 _ _ (by omega) (by omega) (by omega)).trans (g1 _ _ (by omega) (by omega) (by omega)))
  have u56 : ∀ l, u 56 l = a 56 l := fun l => (n1 _ _ (by omega)).trans ((p2 _ _ (by omega) (by omega) (by omega)).trans ((d1 _ _ (by omega) (by omega) (by omega)).trans ((g1 _ _ (by omega) (by omega) (by omega)).trans (y1 _ _ (by omega) (by omega) (by omega)))))
  have u10 : a' 165 10 = u 165 10 := l1 _ _ (by decide) (by decide)
  have stq : (Pa_rc st s r y ∧ (hold (y 77 st) r ∨ y (146 + st) r = 0)) ↔ (Pa_rc st s r a ∧ (hold (a' 77 st) r ∨ a (146 + st) r = 0)) := by
    rw [rcq, a77, y146]
  have hgo : ∀ q n, q < 6 → n < 6 → (cgo st s r x q n ↔ cgo st s r a' q n) := fun q n hq hn => by
    unfold cgo cad
    rw [el, ef q hq, ef n hn]
  have hS : ∀ q, ((q = s ∧ ¬ y (146 + st) s = 0) ∨ (q = r ∧ Pa_rc st s r y ∧ ¬ hold (y 77 st) r)) ↔ ((q = s ∧ ¬ a (146 + st) s = 0) ∨ (q = r ∧ Pa_rc st s r a ∧ ¬ hold (a' 77 st) r)) := fun q => by
    rw [rcq, a77, y146]
  obtain ⟨c1, c2, c3, c4, c5, c6⟩ := p1
  refine ⟨fun p j h1 h2 h3 h4 h5 h6 h7 h8 => (yw p j h3 h4 h1 h5 h6 h7 h2).trans (y1 p j h5 h3 h8), ?_, fun j => ?_, fun j => ?_, fun l hl => ?_, ?_, K, c, ⟨c1, c2, c3, fun k hk => ?_, fun q hq h => c5 q hq ((hS q).mpr h), fun k n hk hn h => c6 k n hk hn ((hgo _ _ (c2 k hk) hn).mpr h)⟩, ?_, ?_, ?_, fun n hn => ?_⟩
  · rw [a77]; exact y3
  · have e : a' 78 j = w 78 j := (xa _ _ (by omega) (by omega) (by omega) (by omega) (by omega)).trans (d1 _ _ (by omega) (by omega) (by omega))
    rw [e, g3 j]
    exact ite_iff (and_congr Iff.rfl stq) (by rw [y2c]) (y1 78 j (by omega) (by omega) (by omega))
  · have e : a' 4 j = w 4 j := (xa _ _ (by omega) (by omega) (by omega) (by omega) (by omega)).trans (d1 _ _ (by omega) (by omega) (by omega))
    have u1 : (if Pa_rc st s r y ∧ j = 6 then nI 1 else 0) = if Pa_rc st s r a ∧ j = 6 then nI 1 else 0 := ite_iff (and_congr rcq Iff.rfl) rfl rfl
    have u2 : (if (Pa_rc st s r y ∧ (hold (y 77 st) r ∨ y (146 + st) r = 0)) ∧ j = 7 then nI 1 else 0) = if (Pa_rc st s r a ∧ (hold (a' 77 st) r ∨ a (146 + st) r = 0)) ∧ j = 7 then nI 1 else 0 := ite_iff (and_congr stq Iff.rfl) rfl rfl
    rw [e, g4 j, y1 4 j (by omega) (by omega) (by omega), u1, u2]
  · rw [l2 l hl, u10, u56]
  · refine bs_cg l3 (fun l _ => ?_)
    rw [u10, u56]
  · rcases c4 k hk with h | ⟨j, hj, h⟩
    · exact Or.inl ((hS _).mp h)
    · exact Or.inr ⟨j, hj, (hgo _ _ (c2 j (by omega)) (c2 k hk)).mp h⟩
  · have e : a' 165 8 = v 165 8 := (l1 _ _ (by decide) (by decide)).trans (n1 _ _ (by omega))
    have e0 : x 165 8 = 0 := (d2 8 (by decide)).trans y8
    rw [e, p8, e0, Int32.zero_add]
    refine sg_cg K (fun k hk => sg_cg 6 (fun n hn => ?_))
    unfold cxx
    exact ite_iff (by
      unfold cad
      rw [el, ef _ (c2 k hk)]) rfl rfl
  · have e : a' 165 9 = v 165 9 := (l1 _ _ (by decide) (by decide)).trans (n1 _ _ (by omega))
    have e0 : x 165 9 = 0 := (d2 9 (by decide)).trans y9
    rw [e, p9, e0, Int32.zero_add]
    refine sg_cg K (fun k hk => sg_cg 6 (fun n hn => ?_))
    unfold cdd
    exact ite_iff (by
      unfold cad
      rw [el, ef _ (c2 k hk), ef n hn]) rfl rfl
  · have e : a' 165 10 = v 165 10 := u10.trans (n1 _ _ (by omega))
    have e0 : x 165 10 = if a 2 0 < a (43 + s) g then bit s else nI 0 := (d2 10 (by decide)).trans y10
    have b0 : bs (x 165 10) (fun q => q = s ∧ a 2 0 < a (43 + s) g) := by
      rw [e0]
      split
      next h => exact bs_cg (bs_bit (by omega)) (fun q _ => ⟨fun z => ⟨z, h⟩, fun z => z.1⟩)
      next h => exact bs_cg bs_0 (fun q _ => ⟨fun z => z.elim, fun z => absurd z.2 h⟩)
    rw [e]
    refine bs_cg (p10 _ b0) (fun q _ => or_congr Iff.rfl ?_)
    rw [el]
  · have e1 : a' (59 + st) n = u (59 + st) n := l1 _ _ (by omega) (by omega)
    have e2 : v (59 + st) n = w (59 + st) n := (p2 _ _ (by omega) (by omega) (by omega)).trans (d1 _ _ (by omega) (by omega) (by omega))
    obtain ⟨r1, r2⟩ := n2 n hn
    rw [v77, v2c, v43 n hn] at r1 r2
    have e3 : v (59 + st) n = if (Pa_rc st s r a ∧ n = r) ∨ (n = s ∨ ¬ a (108 + st) n = -1) then a 2 0 + nI 8 else a (59 + st) n := by
      rw [e2, g2 n]
      by_cases z : Pa_rc st s r y ∧ n = r
      · rw [if_pos z, if_pos (Or.inl ⟨rcq.mp z.1, z.2⟩), y2c]
      · rw [if_neg z, y2 n hn]
        exact ite_iff ⟨Or.inr, fun q => q.elim (fun k => absurd ⟨rcq.mpr k.1, k.2⟩ z) id⟩ rfl rfl
    rw [e1]
    refine ⟨fun z => ?_, fun z => ?_⟩
    · by_cases q : (∃ k, k < K ∧ c k = n) ∧ ¬ hold (a' 77 st) n ∧ a 2 0 < a (43 + n) g
      · exact r1 q
      · rw [r2 q, e3]
        refine if_pos ?_
        rcases z with z | z | z | z
        · exact Or.inr (Or.inl z)
        · exact Or.inr (Or.inr z)
        · exact Or.inl z
        · exact absurd z q
    · rw [r2 (fun q => z (Or.inr (Or.inr (Or.inr q)))), e3]
      refine if_neg (fun q => z ?_)
      rcases q with q | q | q
      · exact Or.inr (Or.inr (Or.inl q))
      · exact Or.inl q
      · exact Or.inr (Or.inl q)
