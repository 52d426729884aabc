/-! class and reference side by side: every call -/
def Sim (r t : Nat) (a b : mx_Mm) : Prop := Core r t a b ∧ S_pk a b ∧ S_fil a b ∧ (∀ c f, a 168 11 = nI c → c ≤ 4 → c ≤ f → f < 4 → a 171 f = nI 0) ∧ Pa_ok r a ∧ Fl_ok a ∧ Ml_ok b
def Ff (a a' b b' : mx_Mm) : Prop := (∀ p j, p = 0 ∨ 185 ≤ p → a' p j = a p j) ∧ ∀ p j, p < 185 → b' p j = b p j
theorem Ff.rf {a b : mx_Mm} : Ff a a b b := ⟨fun _ _ _ => rfl, fun _ _ _ => rfl⟩
theorem nT0 {p : Nat} (h : p = 0 ∨ 185 ≤ p) : ¬ Tr_fp p := fun z => by unfold Tr_fp at z; omega
theorem Sim.mk' {r t t' : Nat} {a b a' b' : mx_Mm} (h : Sim r t a b) (hc : Core r t' a' b') (ha : ∀ p j, p = 79 ∨ 165 ≤ p → a' p j = a p j) (hb : ∀ p j, 206 ≤ p ∨ (p = 185 ∧ 19 ≤ j) → b' p j = b p j) : Sim r t' a' b' := by
  obtain ⟨-, h2, h3, h4, h5, h6, h7⟩ := h
  refine ⟨hc, h2.fr (fun j _ _ => ha _ _ (by omega)) (fun j _ _ => hb _ _ (by omega)), h3.fr (fun p j _ => ha p j (by omega)) (fun p j _ => hb p j (by omega)), fun c f e => ?_, h5.fr (fun p j _ => ha p j (by omega)), h6.fr (fun p j _ => ha p j (by omega)), h7.fr (fun p j _ => hb p j (by omega))⟩
  rw [ha _ _ (by omega)] at e
  rw [ha _ _ (by omega)]
  exact h4 c f e
/-- both halves may be looked at in one memory -/
theorem Sim.two {r t : Nat} {a b a' b' : mx_Mm} (h : Sim r t a b) (ha : ∀ p j, p < 185 → a' p j = a p j) (hb : ∀ p j, 185 ≤ p → b' p j = b p j) : Sim r t a' b' := by
  obtain ⟨h1, h2, h3, h4, h5, h6, h7⟩ := h
  refine ⟨h1.fr (fun p j _ => ha p j (by omega)) (fun p j q1 _ _ => hb p j q1), h2.fr (fun j _ _ => ha _ _ (by omega)) (fun j _ _ => hb _ _ (by omega)), ⟨?_, fun f hf => (h3.2 f hf).fr (fun p j _ _ _ _ _ => ha p j (by omega)) (fun p j _ _ _ _ => hb p j (by omega)) hf⟩, fun c f e => ?_, h5.fr (fun p j _ => ha p j (by omega)), h6.fr (fun p j _ => ha p j (by omega)), h7.fr (fun p j _ => hb p j (by omega))⟩
  · rw [ha _ _ (by omega), ha _ _ (by omega), hb _ _ (by omega), hb _ _ (by omega)]
    exact h3.1
  · rw [ha _ _ (by omega)] at e
    rw [ha _ _ (by omega)]
    exact h4 c f e
theorem le9 {c : Int32} {n : Nat} (h0 : 0 ≤ c) (h9 : c ≤ nI n) (hn : n < 2 ^ 31) : ∃ k, k ≤ n ∧ c = nI k := by
  obtain ⟨j, hj, e⟩ := nI_of (x := c) (Int32.not_lt.mpr h0)
  subst e
  exact ⟨j, (nI_leI hj hn).mp h9, rfl⟩
theorem sim_lkP {r t : Nat} {x y c : Int32} {a b : mx_Mm} (h : Sim r t a b) : C_lkP x y c a ↔ D_lkP x y c b := by
  obtain ⟨⟨-, ⟨-, hcv⟩, -⟩, -⟩ := h
  unfold C_lkP D_lkP
  refine and_congr_right (fun hx => and_congr_right (fun hy => and_congr_right (fun _ => and_congr_right (fun _ => and_congr_right (fun _ => ?_)))))
  rw [(hcv (tn x) (tn y) (in_tn hx (by decide)).2 (in_tn hy (by decide)).2).1]
  exact ⟨fun z w => z w.symm, fun z w => z w.symm⟩
theorem sim_link {r t : Nat} {x y c : Int32} {a b : mx_Mm} (hr : r < 6) (h : Sim r t a b) : Sim r t (C_link r x y c a) (D_link r x y c b) ∧ Ff a (C_link r x y c a) b (D_link r x y c b) := by
  unfold C_link D_link
  by_cases q : C_lkP x y c a
  · rw [if_pos q, if_pos ((sim_lkP h).mp q)]
    obtain ⟨hx, hy, hxy, h0, h9, -⟩ := q
    obtain ⟨ex, hx6⟩ := in_tn hx (by decide)
    obtain ⟨ey, hy6⟩ := in_tn hy (by decide)
    obtain ⟨s1, s2, s3⟩ := link_core (x := tn x) (y := tn y) hr hx6 hy6 (fun z => hxy (by rw [ex, ey, z])) (le9 h0 h9 (by decide)) h.1
    exact ⟨h.mk' s1 (fun p j hp => s2 p j (by omega) (nTr hp)) (fun p j hp => s3 p j (by omega) (nMo (by omega))), fun p j hp => s2 p j (by omega) (nT0 hp), fun p j hp => s3 p j (by omega) (nMo (by omega))⟩
  · rw [if_neg q, if_neg (fun z => q ((sim_lkP h).mpr z))]
    exact ⟨h, Ff.rf⟩
theorem sim_dist {r t : Nat} {x y : Int32} {a b : mx_Mm} (h : Sim r t a b) : C_dist x y a = D_dist x y b := by
  obtain ⟨⟨-, ⟨-, hcv⟩, -⟩, -⟩ := h
  unfold C_dist D_dist
  by_cases q : rt x ∧ rt y
  · have e := (hcv (tn x) (tn y) (in_tn q.1 (by decide)).2 (in_tn q.2 (by decide)).2).2.1
    rw [e]
  · rw [if_neg (fun z => q ⟨z.1, z.2.1⟩), if_neg (fun z => q ⟨z.1, z.2.1⟩)]
theorem sim_hop {r t : Nat} {x y : Int32} {a b : mx_Mm} (h : Sim r t a b) : C_hop x y a = D_hop x y b := by
  obtain ⟨⟨-, ⟨-, hcv⟩, -⟩, -⟩ := h
  unfold C_hop D_hop
  by_cases q : rt x ∧ rt y
  · rw [if_pos q, if_pos q]
    exact (hcv (tn x) (tn y) (in_tn q.1 (by decide)).2 (in_tn q.2 (by decide)).2).2.2
  · rw [if_neg q, if_neg q]
theorem sim_jnP {r t : Nat} {l h g : Int32} {a b : mx_Mm} (hh : Sim r t a b) : C_jnP l h g a ↔ D_jnP l h g b := by
  obtain ⟨⟨-, -, -, hme, -⟩, -⟩ := hh
  unfold C_jnP D_jnP
  by_cases q : rt l ∧ ht4 h ∧ gp g
  · have hh4 := (in_tn q.2.1 (by decide)).2
    have e := bs_hold (hme (tn l) (tn g) (in_tn q.1 (by decide)).2 (in_tn q.2.2 (by decide)).2).1 (show tn h < 7 by omega)
    rw [e]
    exact ⟨fun z => ⟨q, Decidable.byContradiction fun w => z.2.2.2 ⟨hh4, w⟩⟩, fun z => ⟨q.1, q.2.1, q.2.2, fun w => w.2 z.2⟩⟩
  · exact ⟨fun z => absurd ⟨z.1, z.2.1, z.2.2.1⟩ q, fun z => absurd z.1 q⟩
theorem sim_lvP {r t : Nat} {l h g : Int32} {a b : mx_Mm} (hh : Sim r t a b) : C_lvP l h g a ↔ D_lvP l h g b := by
  obtain ⟨⟨-, -, -, hme, -⟩, -⟩ := hh
  unfold C_lvP D_lvP
  by_cases q : rt l ∧ ht4 h ∧ gp g
  · have hh4 := (in_tn q.2.1 (by decide)).2
    have e := bs_hold (hme (tn l) (tn g) (in_tn q.1 (by decide)).2 (in_tn q.2.2 (by decide)).2).1 (show tn h < 7 by omega)
    rw [e]
    exact ⟨fun z => ⟨q, z.2.2.2.2⟩, fun z => ⟨q.1, q.2.1, q.2.2, hh4, z.2⟩⟩
  · exact ⟨fun z => absurd ⟨z.1, z.2.1, z.2.2.1⟩ q, fun z => absurd z.1 q⟩
theorem sim_join {r t : Nat} {l k g : Int32} {a b : mx_Mm} (hr : r < 6) (h : Sim r t a b) : Sim r t (C_join r l k g a) (D_join r l k g b) ∧ Ff a (C_join r l k g a) b (D_join r l k g b) := by
  unfold C_join D_join
  by_cases q : C_jnP l k g a
  · rw [if_pos q, if_pos ((sim_jnP h).mp q)]
    obtain ⟨s1, s2, s3⟩ := join_core hr (in_tn q.1 (by decide)).2 (in_tn q.2.1 (by decide)).2 (in_tn q.2.2.1 (by decide)).2 h.1
    exact ⟨h.mk' s1 (fun p j hp => s2 p j (by omega) (nTr hp)) (fun p j hp => s3 p j (by omega) (nMo (by omega))), fun p j hp => s2 p j (by omega) (nT0 hp), fun p j hp => s3 p j (by omega) (nMo (by omega))⟩
  · rw [if_neg q, if_neg (fun z => q ((sim_jnP h).mpr z))]
    exact ⟨h, Ff.rf⟩
theorem sim_leave {r t : Nat} {l k g x : Int32} {a b : mx_Mm} (hr : r < 6) (h : Sim r t a b) : Sim r t (C_leave r l k g x a) (D_leave r l k g x b) ∧ Ff a (C_leave r l k g x a) b (D_leave r l k g x b) := by
  unfold C_leave D_leave
  by_cases q : C_lvP l k g a
  · rw [if_pos q, if_pos ((sim_lvP h).mp q)]
    obtain ⟨s1, s2, s3⟩ := leave_core (x := x) hr (in_tn q.1 (by decide)).2 (in_tn q.2.1 (by decide)).2 (in_tn q.2.2.1 (by decide)).2 h.1
    exact ⟨h.mk' s1 (fun p j hp => s2 p j (by omega) (nTr hp)) (fun p j hp => s3 p j (by omega) (nMo (by omega))), fun p j hp => s2 p j (by omega) (nT0 hp), fun p j hp => s3 p j (by omega) (nMo (by omega))⟩
  · rw [if_neg q, if_neg (fun z => q ((sim_lvP h).mpr z))]
    exact ⟨h, Ff.rf⟩
theorem sim_mark {r t : Nat} {l g : Int32} {a b : mx_Mm} (h : Sim r t a b) : C_mark l g a = D_mark l g b := by
  obtain ⟨⟨-, -, hmk, -⟩, -⟩ := h
  unfold C_mark D_mark Mo_on
  by_cases q : rt l ∧ gp g
  · rw [if_pos q, if_pos q, hmk.1, hmk.2 (tn l) (tn g) (in_tn q.1 (by decide)).2 (in_tn q.2 (by decide)).2]
  · rw [if_neg q, if_neg q]
theorem sim_pass {r t : Nat} {n : Int32} {a b : mx_Mm} (hr : r < 6) (ht : t + 111 < 2 ^ 31) (h : Sim r t a b) : (∃ t', t' ≤ t + 10 ∧ Sim r t' (C_pass r n a) (D_pass r n b)) ∧ Ff a (C_pass r n a) b (D_pass r n b) := by
  unfold C_pass D_pass
  by_cases q : C_psP n
  · rw [if_pos q, if_pos q]
    have hn := (ps_tn q).2
    obtain ⟨s1, s2, s3⟩ := pass_core (tn n) hr (by omega) h.1
    exact ⟨⟨t + tn n, by omega, h.mk' s1 (fun p j hp => s2 p j (by omega) (nTr hp)) (fun p j hp => s3 p j (by omega) (nMo (by omega)))⟩, fun p j hp => s2 p j (by omega) (nT0 hp), fun p j hp => s3 p j (by omega) (nMo (by omega))⟩
  · rw [if_neg q, if_neg q]
    exact ⟨⟨t, by omega, h⟩, Ff.rf⟩
theorem sim_send {r t : Nat} {s g : Int32} {a b : mx_Mm} (hr : r < 6) (h : Sim r t a b) : Sim r t (C_send r s g a) (D_send r s g b) ∧ C_sendv r s g a = D_sendv r s g b ∧ Ff a (C_send r s g a) b (D_send r s g b) := by
  have hq := sd_eq (s := s) (g := g) h.1
  unfold C_send D_send C_sendv D_sendv
  by_cases q : C_sdP s g a
  · have q' := hq.mp q
    rw [if_pos q, if_neg q', if_pos q, if_neg q']
    obtain ⟨h1, h2, h3, h4, h5, h6, h7⟩ := h
    have hs := (in_tn q.1 (by decide)).2
    have hg := (in_tn q.2.1 (by decide)).2
    obtain ⟨s1, s2, s3, s4, s5, s6⟩ := send_core (st := 3 * tn s + tn g) hr hs hg (by omega) h5 h1
    unfold C_sd D_sd
    refine ⟨⟨s1, s2, h3.fr (fun p j _ => s5 p j (by omega)) (fun p j _ => s6 p j (by omega)), fun c f e => ?_, s3, h6.fr (fun p j _ => s5 p j (by omega)), h7.fr (fun p j _ => s6 p j (by omega))⟩, s4, fun p j hp => s5 p j (by omega), fun p j hp => s6 p j (by omega)⟩
    rw [s5 _ _ (by omega)] at e
    rw [s5 _ _ (by omega)]
    exact h4 c f e
  · have q' : Mo_rf s g b := Decidable.byContradiction fun z => q (hq.mpr z)
    rw [if_neg q, if_pos q', if_neg q, if_pos q']
    exact ⟨h, rfl, Ff.rf⟩
theorem sim_shar {r t : Nat} {n g : Int32} {a b : mx_Mm} (h : Sim r t a b) : C_shar n g a = D_shar n g b := by
  obtain ⟨⟨-, -, -, -, -, -, -, -, hv, -⟩, -⟩ := h
  unfold C_shar D_shar
  by_cases q : rt n ∧ gp g
  · rw [if_pos q, if_pos q]
    exact hv.1 (tn g) (tn n) (in_tn q.2 (by decide)).2 (in_tn q.1 (by decide)).2
  · rw [if_neg q, if_neg q]
theorem ent_b : ∀ k, k ≤ 7 → ∀ p1 p2 p3 p4 : Bool, (if p4 = true then (if p3 = true then (if p2 = true then (if p1 = true then nI 16 * nI k + 1 else nI 16 * nI k) + 2 else (if p1 = true then nI 16 * nI k + 1 else nI 16 * nI k)) + 4 else (if p2 = true then (if p1 = true then nI 16 * nI k + 1 else nI 16 * nI k) + 2 else (if p1 = true then nI 16 * nI k + 1 else nI 16 * nI k))) + 8 else (if p3 = true then (if p2 = true then (if p1 = true then nI 16 * nI k + 1 else nI 16 * nI k) + 2 else (if p1 = true then nI 16 * nI k + 1 else nI 16 * nI k)) + 4 else (if p2 = true then (if p1 = true then nI 16 * nI k + 1 else nI 16 * nI k) + 2 else (if p1 = true then nI 16 * nI k + 1 else nI 16 * nI k)))) = (if p4 = true then (if p3 = true then (if p2 = true then (if p1 = true then nI 1 else nI 0) + nI 2 else (if p1 = true then nI 1 else nI 0)) + nI 4 else (if p2 = true then (if p1 = true then nI 1 else nI 0) + nI 2 else (if p1 = true then nI 1 else nI 0))) + nI 8 else (if p3 = true then (if p2 = true then (if p1 = true then nI 1 else nI 0) + nI 2 else (if p1 = true then nI 1 else nI 0)) + nI 4 else (if p2 = true then (if p1 = true then nI 1 else nI 0) + nI 2 else (if p1 = true then nI 1 else nI 0)))) + nI (16 * k) := by decide +kernel
theorem ite_b {P : Prop} [Decidable P] {p : Bool} (h : P ↔ p = true) {x y : Int32} : (if P then x else y) = if p = true then x else y := ite_iff h rfl rfl
theorem ite_c {P : Prop} [Decidable P] {p : Bool} (h : P ↔ ¬ p = true) {x y : Int32} : (if P then x else y) = if p = true then y else x := by
  by_cases c : P
  · rw [if_pos c, if_neg (h.mp c)]
  · rw [if_neg c, if_pos (Decidable.not_not.mp (fun z => c (h.mpr z)))]
theorem sim_ent {r t : Nat} {n s g : Int32} {a b : mx_Mm} (h : Sim r t a b) : C_ent n s g a = D_ent n s g b := by
  obtain ⟨⟨-, -, hmk, -, hke, hss, -, -, hv, hls, -, -, ka, -⟩, -⟩ := h
  unfold C_ent D_ent
  by_cases q : rt n ∧ rt s ∧ gp g
  · rw [if_pos q, if_pos q]
    have hn := (in_tn q.1 (by decide)).2
    have hs := (in_tn q.2.1 (by decide)).2
    have hg := (in_tn q.2.2 (by decide)).2
    generalize tn n = n at hn ⊢
    generalize tn s = s at hs ⊢
    generalize tn g = g at hg ⊢
    have est : s * 3 + g = 3 * s + g := by omega
    have eix : 18 * n + 3 * s + g = 18 * n + (3 * s + g) := by omega
    rw [est, eix]
    have hst : 3 * s + g < 18 := by omega
    generalize 3 * s + g = st at hst ⊢
    have ebc : bc (a (146 + st) n) = nI (Mo_m1 n st b) := bs_m1 (hls st n hst hn).2
    unfold C_e4 C_e3 C_e2 C_e1 C_e0 D_e4 D_e3 D_e2 D_e1 D_e0
    rw [ebc]
    have c1 : a 2 0 < a (59 + st) n ↔ decide (b 185 1 < b 198 (18 * n + st)) = true := by rw [hmk.1, hke st n hst hn, decide_eq_true_iff]
    have d1 : b 198 (18 * n + st) ≤ b 185 1 ↔ ¬ decide (b 185 1 < b 198 (18 * n + st)) = true := by rw [decide_eq_true_iff, Int32.not_lt]
    have c2 : hold (a 77 st) n ↔ decide (¬ b 199 (18 * n + st) = 0) = true := by
      rw [decide_eq_true_iff, bs_hold (hss st hst) (by omega)]
      exact ⟨fun z => z.2, fun z => ⟨hn, z⟩⟩
    have d2 : b 199 (18 * n + st) = 0 ↔ ¬ decide (¬ b 199 (18 * n + st) = 0) = true := by rw [decide_eq_true_iff]; exact Decidable.not_not.symm
    have c3 : a (89 + st) n = -1 ↔ ¬ decide (¬ b 194 (18 * n + st) < 0) = true := by
      rw [decide_eq_true_iff, Decidable.not_not, ← (hv.2 st n hst hn).1]
      exact (rng6_neg (ka.2.2.2.2.1 st n hst hn)).symm
    have d3 : b 194 (18 * n + st) < 0 ↔ ¬ decide (¬ b 194 (18 * n + st) < 0) = true := by rw [decide_eq_true_iff, Decidable.not_not]
    have c4 : a (108 + st) n = -1 ↔ ¬ decide (¬ b 196 (18 * n + st) < 0) = true := by
      rw [decide_eq_true_iff, Decidable.not_not, ← (hv.2 st n hst hn).2]
      exact (rng6_neg (ka.2.2.2.2.2 st n hst hn)).symm
    have d4 : b 196 (18 * n + st) < 0 ↔ ¬ decide (¬ b 196 (18 * n + st) < 0) = true := by rw [decide_eq_true_iff, Decidable.not_not]
    have key := ent_b (Mo_m1 n st b) Mo_m1_le (decide (b 185 1 < b 198 (18 * n + st))) (decide (¬ b 199 (18 * n + st) = 0)) (decide (¬ b 194 (18 * n + st) < 0)) (decide (¬ b 196 (18 * n + st) < 0))
    rw [ite_c c4, ite_c c3, ite_b c2, ite_b c1, ite_c d4, ite_c d3, ite_c d2, ite_c d1]
    exact key
  · rw [if_neg q, if_neg q]
theorem sim_msg {r t : Nat} {k : Int32} {a b : mx_Mm} (h : Sim r t a b) : C_msg k a = D_msg k b := by
  obtain ⟨⟨-, -, -, -, -, -, -, -, -, -, hc, -⟩, -⟩ := h
  unfold C_msg D_msg
  by_cases q : 0 ≤ k ∧ k < nI 10
  · rw [if_pos q, if_pos q]
    exact hc (tn k) (in_tn q (by decide)).2
  · rw [if_neg q, if_neg q]
theorem sim_lose {r t : Nat} {l c : Int32} {a b : mx_Mm} (h : Sim r t a b) : Sim r t (C_lose l c a) (D_lose l c b) ∧ Ff a (C_lose l c a) b (D_lose l c b) := by
  unfold C_lose D_lose
  by_cases q : C_lsP l c
  · rw [if_pos q, if_pos q]
    have hl := (in_tn q.1 (by decide)).2
    have hc := le9 q.2.1 q.2.2 (by decide)
    have fa : ∀ p j, p ≠ 56 → (mx_up a 56 (tn l) c) p j = a p j := fun p j hp => up_neP hp
    have fb : ∀ p j, p ≠ 202 → (mx_up b 202 (tn l) c) p j = b p j := fun p j hp => up_neP hp
    have hlo : S_los (mx_up a 56 (tn l) c) (mx_up b 202 (tn l) c) := fun l' hl' => by
      by_cases e : l' = tn l
      · rw [e, up_same, up_same]; exact ⟨rfl, hc⟩
      · rw [up_neK e, up_neK e]; exact h.1.2.2.2.2.2.2.2.2.2.2.2.1 l' hl'
    have hcore : Core r t (mx_up a 56 (tn l) c) (mx_up b 202 (tn l) c) := by
      obtain ⟨⟨ht, hb1⟩, hn, hmk, hme, hke, hss, hq, hal, hv, hls, hc', -, ka, kb⟩ := h.1
      refine ⟨⟨ht, (fb _ _ (by omega)).trans hb1⟩, hn.fr (fun p j _ _ => fa p j (by omega)) (fun p j _ _ => fb p j (by omega)), hmk.fr (fun p j _ => fa p j (by omega)) (fun p j _ => fb p j (by omega)), hme.fr (fun p j _ => fa p j (by omega)) (fun p j _ => fb p j (by omega)), hke.fr (fun p j _ _ => fa p j (by omega)) (fun j => fb _ j (by omega)), fun st h1 => ?_, hq.fr (fun j => fa _ j (by omega)) (fun j => fb _ j (by omega)), fun n st hn h1 hne => ?_, hv.fr (fun p j _ _ => fa p j (by omega)) (fun p j _ => fb p j (by omega)), hls.fr (fun p j _ _ => fa p j (by omega)) (fun p j hd => fb p j (by unfold Mo_dep at hd; omega)), hc'.fr (fun j => fa _ j (by omega)) (fun j => fb _ j (by omega)), hlo, ka.upP (by omega), kb.upP (by omega)⟩
      · rw [fa 77 st (by omega)]
        refine bs_cg (hss st h1) (fun n _ => ?_)
        rw [fb 199 _ (by omega)]
      · rw [fb 199 _ (by omega)] at hne
        rw [fb 185 1 (by omega), fb 198 _ (by omega)]
        exact hal n st hn h1 hne
    exact ⟨h.mk' hcore (fun p j hp => fa p j (by omega)) (fun p j hp => fb p j (by omega)), fun p j hp => fa p j (by omega), fun p j hp => fb p j (by omega)⟩
  · rw [if_neg q, if_neg q]
    exact ⟨h, Ff.rf⟩
theorem sim_pub {r t : Nat} {s g n : Int32} {a b : mx_Mm} (h : Sim r t a b) : Sim r t (C_pub s g n a) (D_pub s g n b) ∧ C_pubv s g n a = D_pubv s g n b ∧ Ff a (C_pub s g n a) b (D_pub s g n b) := by
  obtain ⟨h1, h2, h3, h4, h5, h6, h7⟩ := h
  have ec : a 168 11 = b 185 26 := h3.1.1
  have hq : C_pbP s g n a ↔ D_pbP s g n b := by
    unfold C_pbP D_pbP
    rw [ec]
  unfold C_pub D_pub C_pubv D_pubv
  by_cases q : C_pbP s g n a
  · have q' := hq.mp q
    rw [if_pos q, if_pos q', if_pos q, if_pos q']
    obtain ⟨⟨c, hc, e⟩, -⟩ := id h6
    have etc : tn (a 168 11) = c := by rw [e]; exact tn_nI (by omega)
    have etc' : tn (b 185 26) = c := by rw [← ec]; exact etc
    rw [etc, etc']
    have hc4 : c < 4 := by
      have := q.2.2.2.2
      rw [e] at this
      exact (nI_ltI (by omega) (by decide)).mp this
    have h0 : (0 : Int32) ≤ n := Int32.le_trans (show (0 : Int32) ≤ nI 1 by decide) q.2.2.1
    obtain ⟨k, hk, ek⟩ := le9 h0 q.2.2.2.1 (by decide)
    rw [ek]
    obtain ⟨p1, p2, p3⟩ := pub_fil hc4 (in_tn q.1 (by decide)).2 (in_tn q.2.1 (by decide)).2 hk e (h4 c c e hc (Nat.le_refl _) hc4) h3 h6 h7
    have fa : ∀ p j, p < 168 → (Fi_c4 c (tn s) (tn g) (nI k) a) p j = a p j := fun p j hp => by
      rw [c4_at, if_neg (by omega), if_neg (by omega), if_neg (by omega), if_neg (by omega)]
    have fb : ∀ p j, p < 206 → ¬ (p = 185 ∧ j = 26) → (D_p4 c (tn s) (tn g) (nI k) b) p j = b p j := fun p j hp hp2 => by
      rw [p4_at, if_neg hp2, if_neg (by omega), if_neg (by omega), if_neg (by omega)]
    refine ⟨⟨h1.fr (fun p j hp => fa p j (by omega)) (fun p j _ hp1 hp2 => fb p j (by omega) (by omega)), h2.fr (fun j _ _ => fa _ _ (by omega)) (fun j _ _ => fb _ _ (by omega) (by omega)), p1, fun c' f e' hc' hcf hf => ?_, h5.fr (fun p j hp => fa p j (by omega)), p2, p3⟩, ?_, fun p j hp => ?_, fun p j hp => fb p j (by omega) (by omega)⟩
    · rw [c4_at, if_pos ⟨rfl, rfl⟩, e, nI_add] at e'
      have e2 : c + 1 = c' := (nI_eq (by omega) (by omega)).mp e'
      rw [c4_at, if_neg (by omega), if_neg (by omega), if_neg (by omega), if_neg (by omega)]
      exact h4 c f e hc (by omega) hf
    · rw [c4_at, p4_at, if_pos ⟨rfl, rfl⟩, if_pos ⟨rfl, rfl⟩, ec]
    · rw [c4_at, if_neg (by omega), if_neg (by omega), if_neg (by omega), if_neg (by omega)]
  · rw [if_neg q, if_neg (fun z => q (hq.mpr z)), if_neg q, if_neg (fun z => q (hq.mpr z))]
    exact ⟨⟨h1, h2, h3, h4, h5, h6, h7⟩, rfl, Ff.rf⟩
theorem sim_ex {r t : Nat} {x : Int32} {a b : mx_Mm} (h : Sim r t a b) : C_ex x a ↔ D_ex x b := by
  unfold C_ex D_ex
  rw [h.2.2.1.1.1]
theorem sim_emit {r t : Nat} {x : Int32} {a b : mx_Mm} (hr : r < 6) (h : Sim r t a b) : Sim r t (C_emit r x a) (D_emit r x b) ∧ C_emitv r x a = D_emitv x b ∧ Ff a (C_emit r x a) b (D_emit r x b) := by
  have hex := sim_ex (x := x) h
  obtain ⟨h1, h2, h3, h4, h5, h6, h7⟩ := h
  have hq : C_emP x a ↔ D_emP x b := by
    unfold C_emP D_emP
    rw [hex]
    refine and_congr_right (fun hx => ?_)
    obtain ⟨e, hf⟩ := h7.f hx
    rw [(h3.2 (tn x) hf).1.1, (h3.2 (tn x) hf).1.2.1]
    exact sd_eq h1
  unfold C_emit D_emit C_emitv D_emitv
  by_cases q : C_emP x a
  · have q' := hq.mp q
    rw [if_pos q, if_pos q', if_pos q, if_pos q']
    obtain ⟨ex, hf⟩ := h6.f q.1
    obtain ⟨es, hs⟩ := h6.s hf
    obtain ⟨eg, hg⟩ := h6.g hf
    obtain ⟨en, hn⟩ := h6.n hf
    unfold C_em C_sd D_em
    rw [← (h3.2 (tn x) hf).1.1, ← (h3.2 (tn x) hf).1.2.1]
    generalize tn x = f at hf es hs eg hg en hn ⊢
    generalize tn (a 169 f) = s at hs ⊢
    generalize tn (a 170 f) = g at hg ⊢
    generalize tn (a 171 f) = n at en hn ⊢
    obtain ⟨s1, s2, s3, s4, s5, s6, s7⟩ := emit_core (s := s) (g := g) hr hf hs hg hn en h5 h1 h3
    refine ⟨⟨s1, s3, s2, fun c f' e => ?_, s4, h6.fr (fun p j _ => s6 p j (by omega)), h7.fr (fun p j _ => s7 p j (by omega))⟩, s5, fun p j hp => s6 p j (by omega), fun p j hp => s7 p j (by omega)⟩
    rw [s6 _ _ (by omega)] at e
    rw [s6 _ _ (by omega)]
    exact h4 c f' e
  · have q' : ¬ D_emP x b := fun z => q (hq.mpr z)
    rw [if_neg q, if_neg q', if_neg q, if_neg q']
    exact ⟨⟨h1, h2, h3, h4, h5, h6, h7⟩, rfl, Ff.rf⟩
theorem sim_req {r t : Nat} {x : Int32} {a b : mx_Mm} (h : Sim r t a b) : Sim r t (C_req x a) (D_req x b) ∧ C_reqv x a = D_reqv x b ∧ Ff a (C_req x a) b (D_req x b) := by
  have hex := sim_ex (x := x) h
  obtain ⟨h1, h2, h3, h4, h5, h6, h7⟩ := h
  unfold C_req D_req C_reqv D_reqv
  by_cases q : C_ex x a
  · have q' := hex.mp q
    rw [if_pos q, if_pos q', if_pos q, if_pos q']
    obtain ⟨ex, hf⟩ := h6.f q
    obtain ⟨es, hs⟩ := h6.s hf
    obtain ⟨eg, hg⟩ := h6.g hf
    obtain ⟨en, hn⟩ := h6.n hf
    rw [← (h3.2 (tn x) hf).1.1, ← (h3.2 (tn x) hf).1.2.1]
    generalize tn x = f at hf es hs eg hg en hn ⊢
    generalize tn (a 169 f) = s at hs ⊢
    generalize tn (a 170 f) = g at hg ⊢
    generalize tn (a 171 f) = n at en hn
    obtain ⟨s1, s2, s3, s4, s5⟩ := req_core (s := s) (g := g) hf hs hg hn en h1 h3
    refine ⟨⟨s1, h2.fr (fun j _ _ => s4 _ _ (by omega) (by omega) (by omega) (by omega)) (fun j _ _ => s5 _ _ (by omega) (by omega) (by omega) (by omega)), s2, fun c f' e => ?_, h5.fr (fun p j hp => s4 p j (by omega) (by omega) (by omega) (by omega)), ?_, h7.fr (fun p j hp => s5 p j (by omega) (by omega) (by omega) (by omega))⟩, s3, fun p j hp => s4 p j (by omega) (by omega) (by omega) (by omega), fun p j hp => s5 p j (by omega) (by omega) (by omega) (by omega)⟩
    · rw [s4 _ _ (by omega) (by omega) (by omega) (by omega)] at e
      rw [s4 _ _ (by omega) (by omega) (by omega) (by omega)]
      exact h4 c f' e
    · obtain ⟨⟨c, hc, e⟩, k2⟩ := h6
      refine ⟨⟨c, hc, (s4 _ _ (by omega) (by omega) (by omega) (by omega)).trans e⟩, fun f' hf' => ?_⟩
      rw [s4 169 f' (by omega) (by omega) (by omega) (by omega), s4 170 f' (by omega) (by omega) (by omega) (by omega), s4 171 f' (by omega) (by omega) (by omega) (by omega)]
      exact k2 f' hf'
  · have q' : ¬ D_ex x b := fun z => q (hex.mpr z)
    rw [if_neg q, if_neg q', if_neg q, if_neg q']
    exact ⟨⟨h1, h2, h3, h4, h5, h6, h7⟩, rfl, Ff.rf⟩
theorem sim_have {r t : Nat} {x l : Int32} {a b : mx_Mm} (h : Sim r t a b) : C_have x l a = D_have x l b := by
  have hex := sim_ex (x := x) h
  obtain ⟨h1, h2, h3, h4, h5, h6, h7⟩ := h
  unfold C_have D_have
  by_cases q : C_ex x a ∧ rt l
  · rw [if_pos q, if_pos ⟨hex.mp q.1, q.2⟩]
    exact ((h3.2 (tn x) (h6.f q.1).2).2.1 (tn l) (in_tn q.2 (by decide)).2).1
  · rw [if_neg q, if_neg (fun z => q ⟨hex.mpr z.1, z.2⟩)]
theorem sim_get {r t : Nat} {a b : mx_Mm} (h : Sim r t a b) : S_pk a b := h.2.1
