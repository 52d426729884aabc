/-! class and reference side by side: time -/
theorem es1_ne {s n p j : Nat} {m : mx_Mm} (hp : ¬ (p = 77 ∧ j = s)) : (Sm_es1 s n m) p j = m p j := by
  unfold Sm_es1
  split
  · rfl
  · exact up_ne hp
theorem es_row {st : Nat} {a : mx_Mm} {P : Nat → Prop} (hP : bs (a 77 st) P) : (∀ p j, ¬ (p = 77 ∧ j = st) → (mx_lp 6 (Sm_es1 st) a) p j = a p j) ∧ bs ((mx_lp 6 (Sm_es1 st) a) 77 st) (fun n => P n ∧ (n < 6 → a 2 0 < a (59 + st) n)) := by
  have h := lp_inv (f := Sm_es1 st) (fun i (x : mx_Mm) => (∀ p j, ¬ (p = 77 ∧ j = st) → x p j = a p j) ∧ bs (x 77 st) (fun n => P n ∧ (n < i → a 2 0 < a (59 + st) n))) 6 (m := a) ⟨fun _ _ _ => rfl, bs_cg hP (fun n _ => ⟨fun z => ⟨z, fun w => absurd w (Nat.not_lt_zero _)⟩, fun z => z.1⟩)⟩ (fun i x hi hI => by
    obtain ⟨x1, x2⟩ := hI
    refine ⟨fun p j hp => (es1_ne hp).trans (x1 p j hp), ?_⟩
    unfold Sm_es1
    rw [x1 2 0 (by omega)]
    by_cases e : 59 + st = 77
    · by_cases c : a 2 0 < x (59 + st) i
      · rw [if_pos c]
        by_cases f : i = st
        · omega
        · rw [x1 _ _ (fun z => f z.2)] at c
          refine bs_cg x2 (fun n _ => and_congr_right (fun _ => ⟨fun z w => ?_, fun z w => z (by omega)⟩))
          by_cases g : n = i
          · rw [g]; exact c
          · exact z (by omega)
      · rw [if_neg c, up_same]
        by_cases f : i = st
        · omega
        · rw [x1 _ _ (fun z => f z.2)] at c
          refine bs_cg (bs_an x2 (bs_bit (by omega))) (fun n _ => ⟨fun z => ⟨z.1.1, fun w => z.1.2 (by have := z.2; omega)⟩, fun z => ⟨⟨z.1, fun w => z.2 (by omega)⟩, fun w => c (by rw [← w]; exact z.2 (by omega))⟩⟩)
    · rw [x1 (59 + st) i (fun z => e z.1)]
      by_cases c : a 2 0 < a (59 + st) i
      · rw [if_pos c]
        refine bs_cg x2 (fun n _ => and_congr_right (fun _ => ⟨fun z w => ?_, fun z w => z (by omega)⟩))
        by_cases g : n = i
        · rw [g]; exact c
        · exact z (by omega)
      · rw [if_neg c, up_same]
        refine bs_cg (bs_an x2 (bs_bit (by omega))) (fun n _ => ⟨fun z => ⟨z.1.1, fun w => z.1.2 (by have := z.2; omega)⟩, fun z => ⟨⟨z.1, fun w => z.2 (by omega)⟩, fun w => c (by rw [← w]; exact z.2 (by omega))⟩⟩))
  exact h
theorem es_spec {a : mx_Mm} {P : Nat → Nat → Prop} (hP : ∀ st, st < 18 → bs (a 77 st) (P st)) : (∀ p j, p ≠ 77 → (Sm_es a) p j = a p j) ∧ ∀ st, st < 18 → bs ((Sm_es a) 77 st) (fun n => P st n ∧ (n < 6 → a 2 0 < a (59 + st) n)) := by
  have h := lp_inv (f := fun s => mx_lp 6 (Sm_es1 s)) (fun i (x : mx_Mm) => (∀ p j, p ≠ 77 ∨ i ≤ j → x p j = a p j) ∧ ∀ st, st < i → bs (x 77 st) (fun n => P st n ∧ (n < 6 → a 2 0 < a (59 + st) n))) 18 (m := a) ⟨fun _ _ _ => rfl, fun st h => absurd h (Nat.not_lt_zero _)⟩ (fun i x hi hI => by
    obtain ⟨x1, x2⟩ := hI
    obtain ⟨r1, r2⟩ := es_row (st := i) (a := x) (P := P i) (by rw [x1 77 i (by omega)]; exact hP i hi)
    refine ⟨fun p j hp => (r1 p j (by omega)).trans (x1 p j (by omega)), fun st hst => ?_⟩
    by_cases e : st = i
    · subst e
      refine bs_cg r2 (fun n _ => ?_)
      rw [x1 2 0 (by omega), x1 (59 + st) n (by omega)]
    · show bs ((mx_lp 6 (Sm_es1 i) x) 77 st) _
      rw [r1 77 st (fun z => e z.2)]
      exact x2 st (by omega))
  exact ⟨fun p j hp => h.1 p j (Or.inl hp), h.2⟩
theorem rl_at {l g p j : Nat} {a : mx_Mm} (hl : l < 6) (hp : p < 43 ∨ 56 ≤ p) : (La_rl l g a) p j = a p j := by
  unfold La_rl
  split
  · exact rep_a hl hp
  · rfl
theorem p1_at {k p j : Nat} {b : mx_Mm} (hp : p ≠ 190 ∧ p ≠ 191) : (Mo_p1 k b) p j = b p j := by
  unfold Mo_p1
  split
  · split
    · rfl
    · exact rep_b hp
  · rfl
theorem tick_core {r t : Nat} {a b : mx_Mm} (hr : r < 6) (ht : t + 101 < 2 ^ 31) (h : Core r t a b) : Core r (t + 1) (C_tick r a) (Mo_tick r b) ∧ (∀ p j, p = 0 ∨ 78 ≤ p → ¬ Tr_fp p → (C_tick r a) p j = a p j) ∧ ∀ p j, p < 185 ∨ 192 ≤ p ∨ (p = 185 ∧ 2 ≤ j) → ¬ Mo_fp p → (Mo_tick r b) p j = b p j := by
  have hsw := h.sw
  obtain ⟨⟨-, hb⟩, hn, hmk, hme, hke, hss, hq, -, hv, -, hc, hlo, ka, kb⟩ := id h
  have ea : a 2 0 + nI 1 = nI (t + 1) := by rw [hmk.1, hb, nI_add]
  have eb : b 185 1 + nI 1 = nI (t + 1) := by rw [hb, nI_add]
  -- the clock
  have a0 : ∀ p j, p ≠ 2 → (mx_up a 2 0 (a 2 0 + nI 1)) p j = a p j := fun p j hp => up_neP hp
  have a1 : (mx_up a 2 0 (a 2 0 + nI 1)) 2 0 = nI (t + 1) := (up_same _ _ _ _).trans ea
  have b0 : ∀ p j, ¬ (p = 185 ∧ j = 1) → (Mo_clk b) p j = b p j := fun p j hp => up_ne hp
  have b1 : (Mo_clk b) 185 1 = nI (t + 1) := (up_same _ _ _ _).trans eb
  obtain ⟨e1, e2⟩ := es_spec (a := mx_up a 2 0 (a 2 0 + nI 1)) (P := fun st n => n < 6 ∧ ¬ b 199 (18 * n + st) = 0) (fun st h1 => by rw [a0 77 st (by omega)]; exact hss st h1)
  have k1 : Tr_ok r (C_tk a) := Tr_es_ok (ka.upP (by omega))
  have k2 : Mo_ok r (Mo_clk b) := kb.upP (by omega)
  have hk1 : Tr_ok r (C_rp (C_tk a)) := by
    unfold C_rp
    split
    · exact Tr_all_ok k1
    · exact k1
  have hk2 : Mo_ok r (mx_lp 18 Mo_p1 (Mo_clk b)) := lp_keep (Mo_ok r) 18 k2 (fun _ _ _ h => Mo_p1_ok h)
  unfold C_tick Mo_tick
  have ctk : C_tk a = Sm_es (mx_up a 2 0 (a 2 0 + nI 1)) := rfl
  rw [ctk] at k1 hk1 ⊢
  generalize mx_up a 2 0 (a 2 0 + nI 1) = a2 at a0 a1 e1 e2 k1 hk1 ⊢
  generalize Sm_es a2 = x at e1 e2 k1 hk1 ⊢
  generalize Mo_clk b = y at b0 b1 k2 hk2 ⊢
  have x2 : x 2 0 = nI (t + 1) := (e1 _ _ (by decide)).trans a1
  have xa : ∀ p j, p ≠ 2 → p ≠ 77 → x p j = a p j := fun p j h1 h2 => (e1 p j h2).trans (a0 p j h1)
  have m0 : S_mk x y := ⟨x2.trans b1.symm, fun l g hl hg => by rw [xa _ _ (by omega) (by omega), b0 _ _ (by omega)]; exact hmk.2 l g hl hg⟩
  have m1 : S_mem x y := hme.fr (fun p j _ => xa p j (by omega) (by omega)) (fun p j _ => b0 p j (by omega))
  -- the reports
  have rep : S_mk (C_rp x) (mx_lp 18 Mo_p1 y) ∧ S_mem (C_rp x) (mx_lp 18 Mo_p1 y) ∧ (∀ p j, p < 43 ∨ 56 ≤ p → (C_rp x) p j = x p j) ∧ ∀ p j, p ≠ 190 ∧ p ≠ 191 → (mx_lp 18 Mo_p1 y) p j = y p j := by
    have fb : ∀ p j, p ≠ 190 ∧ p ≠ 191 → (mx_lp 18 Mo_p1 y) p j = y p j := fun p j hp => lp_keep (fun w : mx_Mm => w p j = y p j) 18 rfl (fun k w _ hw => (p1_at hp).trans hw)
    unfold C_rp
    rw [x2]
    by_cases c : nI (t + 1) - nI (t + 1) / nI 5 * nI 5 = 0
    · rw [if_pos c]
      have ela : La_all x = mx_lp 18 (fun k => La_rl (k / 3) (k % 3)) x := (lp_mul (fun l g => La_rl l g) 3 (by decide) 6 x).symm
      have fa : ∀ p j, p < 43 ∨ 56 ≤ p → (La_all x) p j = x p j := fun p j hp => by
        rw [ela]
        exact lp_keep (fun w : mx_Mm => w p j = x p j) 18 rfl (fun k w hk hw => (rl_at (by omega) hp).trans hw)
      have hrel : S_mk (La_all x) (mx_lp 18 Mo_p1 y) ∧ S_mem (La_all x) (mx_lp 18 Mo_p1 y) := by
        rw [ela]
        have := lp_rel (f := fun k => La_rl (k / 3) (k % 3)) (g := Mo_p1) (fun u v => (S_mk u v ∧ S_mem u v) ∧ v 185 1 = nI (t + 1)) 18 (a := x) (b := y) ⟨⟨m0, m1⟩, b1⟩ (fun k u v hk huv => by
          obtain ⟨⟨h1, h2⟩, h3⟩ := huv
          refine ⟨?_, (p1_at (by omega)).trans h3⟩
          have ep : Mo_p1 k v = if Mo_low (k / 3) (k % 3) v < 0 then v else Mo_report (k / 3) (Mo_low (k / 3) (k % 3) v) (k % 3) v := by
            unfold Mo_p1
            rw [h3, if_pos c]
          rw [ep]
          exact rl_pair (by omega) (by omega) h1 h2)
        exact this.1
      exact ⟨hrel.1, hrel.2, fa, fb⟩
    · rw [if_neg c]
      have hid : mx_lp 18 Mo_p1 y = y := lp_keep (fun w : mx_Mm => w = y) 18 rfl (fun k w _ hw => by
        rw [hw]
        unfold Mo_p1
        rw [b1, if_neg c])
      rw [hid]
      exact ⟨m0, m1, fun _ _ _ => rfl, fun _ _ _ => rfl⟩
  obtain ⟨r1, r2, r3, r4⟩ := rep
  generalize C_rp x = x' at r1 r2 r3 hk1 ⊢
  generalize mx_lp 18 Mo_p1 y = y' at r1 r2 r4 hk2 ⊢
  have fa : ∀ p j, p ≠ 2 → p ≠ 77 → p < 43 ∨ 56 ≤ p → x' p j = a p j := fun p j h1 h2 h3 => (r3 p j h3).trans (xa p j h1 h2)
  have fb : ∀ p j, p ≠ 190 ∧ p ≠ 191 → ¬ (p = 185 ∧ j = 1) → y' p j = b p j := fun p j h1 h2 => (r4 p j h1).trans (b0 p j h2)
  have y1 : y' 185 1 = nI (t + 1) := (r4 _ _ (by omega)).trans b1
  have hpre : Cpre r (t + 1) x' y' := by
    refine ⟨⟨by omega, y1⟩, hn.fr (fun p j _ _ => fa p j (by omega) (by omega) (by omega)) (fun p j _ _ => fb p j (by omega) (by omega)), r1, r2, hke.fr (fun p j _ _ => fa p j (by omega) (by omega) (by omega)) (fun j => fb _ j (by omega) (by omega)), fun st h1 => ?_, hq.fr (fun j => fa _ j (by omega) (by omega) (by omega)) (fun j => fb _ j (by omega) (by omega)), hv.fr (fun p j _ _ => fa p j (by omega) (by omega) (by omega)) (fun p j _ => fb p j (by omega) (by omega)), hc.fr (fun j => fa _ j (by omega) (by omega) (by omega)) (fun j => fb _ j (by omega) (by omega)), hlo.fr (fun j => fa _ j (by omega) (by omega) (by omega)) (fun j => fb _ j (by omega) (by omega)), hk1, hk2⟩
    rw [r3 77 st (by omega)]
    refine bs_cg (e2 st h1) (fun n _ => ?_)
    rw [fb 199 _ (by omega) (by omega), y1, a1, fb 198 _ (by omega) (by omega), a0 (59 + st) n (by omega)]
    constructor
    · rintro ⟨⟨z1, z2⟩, z3⟩
      exact ⟨z1, z2, by rw [← hke st n h1 z1]; exact z3 z1⟩
    · rintro ⟨z1, z2, z3⟩
      exact ⟨⟨z1, z2⟩, fun _ => by rw [hke st n h1 z1]; exact z3⟩
  obtain ⟨s1, s2, s3⟩ := settle_core hr hpre
  exact ⟨s1, fun p j h1 h2 => (s2 p j h2).trans (fa p j (by omega) (by omega) (by omega)), fun p j h1 h2 => (s3 p j h2).trans (fb p j (by omega) (by omega))⟩
theorem lp_succ {α : Type} (n : Nat) (f : Nat → α → α) (m : α) : mx_lp (n + 1) f m = f n (mx_lp n f m) := rfl
theorem pass_core {r t : Nat} : ∀ (n : Nat) {a b : mx_Mm}, r < 6 → t + n + 101 < 2 ^ 31 → Core r t a b → Core r (t + n) (mx_lp n (fun _ => C_tick r) a) (mx_lp n (fun _ => Mo_tick r) b) ∧ (∀ p j, p = 0 ∨ 78 ≤ p → ¬ Tr_fp p → (mx_lp n (fun _ => C_tick r) a) p j = a p j) ∧ ∀ p j, p < 185 ∨ 192 ≤ p ∨ (p = 185 ∧ 2 ≤ j) → ¬ Mo_fp p → (mx_lp n (fun _ => Mo_tick r) b) p j = b p j
  | 0, _, _, _, _, h => ⟨h, fun _ _ _ _ => rfl, fun _ _ _ _ => rfl⟩
  | n + 1, a, b, hr, ht, h => by
    obtain ⟨h1, h2, h3⟩ := pass_core n hr (by omega) h
    rw [lp_succ, lp_succ, ← Nat.add_assoc]
    generalize mx_lp n (fun _ => C_tick r) a = x at h1 h2 ⊢
    generalize mx_lp n (fun _ => Mo_tick r) b = y at h1 h3 ⊢
    obtain ⟨g1, g2, g3⟩ := tick_core hr (by omega) h1
    exact ⟨g1, fun p j p1 p2 => (g2 p j p1 p2).trans (h2 p j p1 p2), fun p j p1 p2 => (g3 p j p1 p2).trans (h3 p j p1 p2)⟩
