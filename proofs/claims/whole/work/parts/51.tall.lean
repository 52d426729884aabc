/-! the class's settling: all passes -/
def E6 (c d : mx_Mm) : Prop := ∀ a b, a < 6 → b < 6 → c a b = d a b
theorem pm_F_cg {c d : mx_Mm} (h : E6 c d) : E6 (pm_F c) (pm_F d) := by
  refine lp_rel E6 6 (fun a b ha hb => ?_) (fun v A B hv hE => lp_rel E6 6 hE (fun a A B ha hE => lp_rel E6 6 hE (fun b A B hb hE a' b' ha' hb' => ?_)))
  · unfold pm_s; rw [h a b ha hb]
  · rw [hE a b ha hb, hE a v ha hv, hE v b hv hb]
    by_cases e : a' = a ∧ b' = b
    · rw [e.1, e.2, up_same, up_same]
    · rw [up_ne e, up_ne e]; exact hE a' b' ha' hb'
theorem pm_N_cg {c d A B : mx_Mm} (h : E6 c d) (hA : E6 A B) {a t : Nat} (ha : a < 6) (ht : t < 6) : pm_N c A a t = pm_N d B a t := by
  have e : pm_fd 6 (pm_t c A a t) = pm_fd 6 (pm_t d B a t) := pm_fd_congr 6 (fun n hn => by
    unfold pm_t
    rw [h a n ha hn, hA n t hn ht, hA a t ha ht])
  unfold pm_N
  rw [e, hA a t ha ht]
theorem pm_c_cg {c d : mx_Mm} (h : E6 c d) (hc : pm_c c) : pm_c d := ⟨fun a b ha hb => by rw [← h a b ha hb]; exact hc.1 a b ha hb, fun a b ha hb => by rw [← h a b ha hb, ← h b a hb ha]; exact hc.2 a b ha hb⟩
theorem Nt_cg {a x : mx_Mm} (h : Nt a) (hx : ∀ p j, 7 ≤ p → p < 34 → x p j = a p j) : Nt x := by
  obtain ⟨h1, h2, h3, h4⟩ := h
  have e : E6 (mc a) (mc x) := fun p j hp _ => (hx (7 + p) j (by omega) (by omega)).symm
  refine ⟨pm_c_cg e h1, fun p j hp hj => ?_, fun p t hp ht => ?_, fun t ht => ?_⟩
  · rw [hx _ _ (by omega) (by omega), h2 p j hp hj, pm_F_cg e p j hp hj]
  · rw [hx _ _ (by omega) (by omega), h3 p t hp ht, pm_N_cg e (pm_F_cg e) hp ht]
  · exact Or_cg ht (h4 t ht) (fun k => hx _ _ (by omega) (by omega)) (fun p hp => hx _ _ (by omega) (by omega))
def Ssh (r g : Nat) (a : mx_Mm) (sh fr : Nat → Int32) : Prop := ∀ n, n < 6 → ift (a 2 0 < a (43 + n) g ∨ ∃ q, q < 6 ∧ sh q = nI n) (a (21 + n) r) (-1) (sh n) ∧ bs (fr n) (fun q => q < 6 ∧ sh q = nI n)
def Sin (g n : Nat) (a : mx_Mm) (sh cu : Nat → Int32) (q : Nat) : Prop := if q < 6 then sh q = nI n ∧ cu q = -1 else a 2 0 < a (43 + n) g
def Sst (r st : Nat) (a : mx_Mm) (sh cu inn so ou : Nat → Int32) : Prop := ∀ n, n < 6 → ift (inn n = 0 ∨ Tr_els st (st / 3) r n a) (sh n) (-1) (cu n) ∧ bs (inn n) (Sin (st % 3) n a sh cu) ∧ ift ((∃ q, q < 6 ∧ so q = nI n) ∨ (a 2 0 < a (59 + st) n ∧ ¬ ou n = 0)) (a (21 + n) (st / 3)) (-1) (so n) ∧ bs (ou n) (fun q => Sin (st % 3) n a sh cu q ∨ (q < 6 ∧ so q = nI n))
theorem Ssh.own {r g : Nat} {a : mx_Mm} {sh fr : Nat → Int32} (h : Ssh r g a sh fr) {n : Nat} (hn : n < 6) : sh n = -1 ∨ sh n = a (21 + n) r := by
  obtain ⟨⟨h1, h2⟩, -⟩ := h n hn
  by_cases c : a 2 0 < a (43 + n) g ∨ ∃ q, q < 6 ∧ sh q = nI n
  · exact Or.inr (h1 c)
  · exact Or.inl (h2 c)
/-- the shared passes -/
theorem Tr_shs_spec {a : mx_Mm} {r : Nat} (hN : Nt a) (hr : r < 6) (hv : ∀ g n, g < 3 → n < 6 → rng6 (a (81 + g) n)) :
    (∀ p j, p ≠ 4 → ¬ (81 ≤ p ∧ p < 84) → ¬ (85 ≤ p ∧ p < 88) → (mx_lp 3 (fun g => Tr_shared g r) a) p j = a p j) ∧
    (∀ g, g < 3 → Ssh r g a ((mx_lp 3 (fun g => Tr_shared g r) a) (81 + g)) ((mx_lp 3 (fun g => Tr_shared g r) a) (85 + g))) ∧
    ∀ j, (mx_lp 3 (fun g => Tr_shared g r) a) 4 j = a 4 j + sI 3 (fun g => sI 6 (fun n => dA j 0 n (a (81 + g) n) ((mx_lp 3 (fun g => Tr_shared g r) a) (81 + g) n) (mc a))) := by
  have h := lp_inv (f := fun g => Tr_shared g r) (fun i (x : mx_Mm) => (∀ p j, p ≠ 4 → ¬ (81 ≤ p ∧ p < 81 + i) → ¬ (85 ≤ p ∧ p < 85 + i) → x p j = a p j) ∧ (∀ g, g < i → Ssh r g a (x (81 + g)) (x (85 + g))) ∧ ∀ j, x 4 j = a 4 j + sI i (fun g => sI 6 (fun n => dA j 0 n (a (81 + g) n) (x (81 + g) n) (mc a)))) 3 (m := a) ⟨fun _ _ _ _ _ => rfl, fun g hg => absurd hg (Nat.not_lt_zero _), fun j => (Int32.add_zero _).symm⟩ (fun i x hi hI => by
    obtain ⟨i1, i2, i3⟩ := hI
    have hNx : Nt x := Nt_cg hN (fun p j h1 h2 => i1 p j (by omega) (by omega) (by omega))
    obtain ⟨s1, s2, s3, s4⟩ := Tr_shared_spec hNx hr hi (fun n hn => by rw [i1 _ _ (by omega) (by omega) (by omega)]; exact hv i n hi hn)
    generalize Tr_shared i r x = y at s1 s2 s3 s4 ⊢
    have row : ∀ g, g < i → y (81 + g) = x (81 + g) ∧ y (85 + g) = x (85 + g) := fun g hg => ⟨funext fun q => s1 _ _ (by omega) (by omega) (by omega), funext fun q => s1 _ _ (by omega) (by omega) (by omega)⟩
    refine ⟨fun p j h1 h2 h3 => ?_, fun g hg => ?_, fun j => ?_⟩
    · rw [s1 p j h1 (by omega) (by omega)]
      exact i1 p j h1 (by omega) (by omega)
    · by_cases e : g = i
      · subst e
        intro n hn
        have q1 := s2 n hn
        rw [i1 2 0 (by omega) (by omega) (by omega), i1 (43 + n) g (by omega) (by omega) (by omega), i1 (21 + n) r (by omega) (by omega) (by omega)] at q1
        exact ⟨q1, s3 n hn⟩
      · obtain ⟨e1, e2⟩ := row g (by omega)
        rw [e1, e2]
        exact i2 g (by omega)
    · rw [s4 j, i3 j, Int32.add_assoc]
      refine congrArg (fun z => a 4 j + z) ?_
      show sI i (fun g => sI 6 (fun n => dA j 0 n (a (81 + g) n) (x (81 + g) n) (mc a))) + sI 6 (fun n => dA j 0 n (x (81 + i) n) (y (81 + i) n) (mc x)) = sI i (fun g => sI 6 (fun n => dA j 0 n (a (81 + g) n) (y (81 + g) n) (mc a))) + sI 6 (fun n => dA j 0 n (a (81 + i) n) (y (81 + i) n) (mc a))
      have e1 : sI i (fun g => sI 6 (fun n => dA j 0 n (a (81 + g) n) (x (81 + g) n) (mc a))) = sI i (fun g => sI 6 (fun n => dA j 0 n (a (81 + g) n) (y (81 + g) n) (mc a))) := sg_cg i (fun g hg => by rw [(row g hg).1])
      have e2 : sI 6 (fun n => dA j 0 n (x (81 + i) n) (y (81 + i) n) (mc x)) = sI 6 (fun n => dA j 0 n (a (81 + i) n) (y (81 + i) n) (mc a)) := sg_cg 6 (fun n hn => by
        rw [i1 (81 + i) n (by omega) (by omega) (by omega)]
        exact dA_cg (hv i n hi hn) (fun b _ => i1 (7 + n) b (by omega) (by omega) (by omega)))
      rw [e1, e2])
  exact h
/-- one stream -/
theorem Tr_st1_spec {a : mx_Mm} {r st : Nat} (hN : Nt a) (hr : r < 6) (hst : st < 18) (hv : ∀ n, n < 6 → rng6 (a (89 + st) n) ∧ rng6 (a (108 + st) n)) (hsh : Ssh r (st % 3) a (a (81 + st % 3)) (a (85 + st % 3))) :
    (∀ p j, p ≠ 4 → p ≠ 89 + st → p ≠ 108 + st → p ≠ 127 + st → p ≠ 146 + st → p ≠ 164 → (Tr_st1 r (st / 3) (st % 3) a) p j = a p j) ∧
    Sst r st a (a (81 + st % 3)) ((Tr_st1 r (st / 3) (st % 3) a) (89 + st)) ((Tr_st1 r (st / 3) (st % 3) a) (127 + st)) ((Tr_st1 r (st / 3) (st % 3) a) (108 + st)) ((Tr_st1 r (st / 3) (st % 3) a) (146 + st)) ∧
    ∀ j, (Tr_st1 r (st / 3) (st % 3) a) 4 j = a 4 j + (sI 6 (fun n => dA j 4 n (a (89 + st) n) ((Tr_st1 r (st / 3) (st % 3) a) (89 + st) n) (mc a)) + sI 6 (fun n => dA j 2 n (a (108 + st) n) ((Tr_st1 r (st / 3) (st % 3) a) (108 + st) n) (mc a))) := by
  obtain ⟨c1, c2, c3, c4⟩ := Tr_cuts_spec (st := st) hN hr (show st / 3 < 6 by omega) (show st % 3 < 3 by omega) (by omega) (fun n hn => (hv n hn).1) (fun n hn => (hsh n hn).2) (fun n hn => hsh.own hn)
  unfold Tr_st1
  generalize Tr_cuts (st / 3) (st % 3) r a = x at c1 c2 c3 c4 ⊢
  have hNx : Nt x := Nt_cg hN (fun p j h1 h2 => c1 p j (by omega) (by omega) (by omega))
  obtain ⟨s1, s2, s3, s4⟩ := Tr_sources_spec (st := st) (In := fun n => Sin (st % 3) n a (a (81 + st % 3)) (x (89 + st))) hNx (show st / 3 < 6 by omega) (show st % 3 < 3 by omega) (by omega) (fun n hn => by rw [c1 _ _ (by omega) (by omega) (by omega)]; exact (hv n hn).2) (fun n hn => c3 n hn)
  generalize Tr_sources (st / 3) (st % 3) x = y at s1 s2 s3 s4 ⊢
  have r1 : y (89 + st) = x (89 + st) := funext fun q => s1 _ _ (by omega) (by omega) (by omega) (by omega)
  have r2 : y (127 + st) = x (127 + st) := funext fun q => s1 _ _ (by omega) (by omega) (by omega) (by omega)
  refine ⟨fun p j h1 h2 h3 h4 h5 h6 => ?_, fun n hn => ⟨?_, ?_, ?_, ?_⟩, fun j => ?_⟩
  · rw [s1 p j h1 h3 h5 h6]; exact c1 p j h1 h2 h4
  · rw [r1, r2]; exact c2 n hn
  · rw [r1, r2]; exact c3 n hn
  · have q1 := s2 n hn
    rw [c1 2 0 (by omega) (by omega) (by omega), c1 (59 + st) n (by omega) (by omega) (by omega), c1 (21 + n) _ (by omega) (by omega) (by omega)] at q1
    exact q1
  · rw [r1]; exact s3 n hn
  · rw [s4 j, c4 j, Int32.add_assoc, r1]
    refine congrArg (fun z => a 4 j + (sI 6 (fun n => dA j 4 n (a (89 + st) n) (x (89 + st) n) (mc a)) + z)) ?_
    refine sg_cg 6 (fun n hn => ?_)
    rw [c1 (108 + st) n (by omega) (by omega) (by omega)]
    exact dA_cg (hv n hn).2 (fun b _ => c1 (7 + n) b (by omega) (by omega) (by omega))
theorem Sst_cg {r st : Nat} {a x : mx_Mm} {sh cu inn so ou : Nat → Int32} (hst : st < 18) (h : Sst r st x sh cu inn so ou) (e : ∀ p j, p = 2 ∨ (21 ≤ p ∧ p < 79) → x p j = a p j) : Sst r st a sh cu inn so ou := by
  intro n hn
  obtain ⟨h1, h2, h3, h4⟩ := h n hn
  unfold Sin at h2 h4
  unfold Tr_els at h1
  rw [e 77 _ (by omega), e (21 + n) _ (by omega), e (21 + n) _ (by omega)] at h1
  rw [e 2 _ (by omega), e (43 + n) _ (by omega)] at h2 h4
  rw [e 2 _ (by omega), e (59 + st) _ (by omega), e (21 + n) _ (by omega)] at h3
  exact ⟨h1, h2, h3, h4⟩
theorem Ssh_cg {r g : Nat} {a x : mx_Mm} {sh fr : Nat → Int32} (h : Ssh r g x sh fr) (e : ∀ p j, p = 2 ∨ (21 ≤ p ∧ p < 79) → x p j = a p j) : Ssh r g a sh fr := by
  intro n hn
  obtain ⟨h1, h2⟩ := h n hn
  rw [e 2 _ (by omega), e (43 + n) _ (by omega), e (21 + n) _ (by omega)] at h1
  exact ⟨h1, h2⟩
def Tr_fp (p : Nat) : Prop := p = 4 ∨ (81 ≤ p ∧ p < 84) ∨ (85 ≤ p ∧ p < 88) ∨ (89 ≤ p ∧ p < 107) ∨ (108 ≤ p ∧ p < 126) ∨ (127 ≤ p ∧ p < 145) ∨ (146 ≤ p ∧ p < 165)
/-- all that settling leaves -/
theorem Tr_settle_spec {a : mx_Mm} {r : Nat} (hN : Nt a) (hr : r < 6) (hk : Tr_ok r a) :
    (∀ p j, ¬ Tr_fp p → (Tr_settle r a) p j = a p j) ∧
    (∀ g, g < 3 → Ssh r g a ((Tr_settle r a) (81 + g)) ((Tr_settle r a) (85 + g))) ∧
    (∀ st, st < 18 → Sst r st a ((Tr_settle r a) (81 + st % 3)) ((Tr_settle r a) (89 + st)) ((Tr_settle r a) (127 + st)) ((Tr_settle r a) (108 + st)) ((Tr_settle r a) (146 + st))) ∧
    ∀ j, (Tr_settle r a) 4 j = a 4 j + (sI 3 (fun g => sI 6 (fun n => dA j 0 n (a (81 + g) n) ((Tr_settle r a) (81 + g) n) (mc a))) + sI 18 (fun st => sI 6 (fun n => dA j 4 n (a (89 + st) n) ((Tr_settle r a) (89 + st) n) (mc a)) + sI 6 (fun n => dA j 2 n (a (108 + st) n) ((Tr_settle r a) (108 + st) n) (mc a)))) := by
  obtain ⟨-, -, -, v1, v2, v3⟩ := hk
  obtain ⟨b1, b2, b3⟩ := Tr_shs_spec hN hr v1
  have e0 : Tr_settle r a = mx_lp 18 (fun st => Tr_st1 r (st / 3) (st % 3)) (mx_lp 3 (fun g => Tr_shared g r) a) := (lp_mul (fun s g => Tr_st1 r s g) 3 (by decide) 6 _).symm
  rw [e0]
  generalize mx_lp 3 (fun g => Tr_shared g r) a = b at b1 b2 b3 ⊢
  have h := lp_inv (f := fun st => Tr_st1 r (st / 3) (st % 3)) (fun i (x : mx_Mm) => (∀ p j, p ≠ 4 → ¬ (89 ≤ p ∧ p < 89 + i) → ¬ (108 ≤ p ∧ p < 108 + i) → ¬ (127 ≤ p ∧ p < 127 + i) → ¬ (146 ≤ p ∧ p < 146 + i) → p ≠ 164 → x p j = b p j) ∧ (∀ st, st < i → Sst r st a (b (81 + st % 3)) (x (89 + st)) (x (127 + st)) (x (108 + st)) (x (146 + st))) ∧ ∀ j, x 4 j = b 4 j + sI i (fun st => sI 6 (fun n => dA j 4 n (a (89 + st) n) (x (89 + st) n) (mc a)) + sI 6 (fun n => dA j 2 n (a (108 + st) n) (x (108 + st) n) (mc a)))) 18 (m := b) ⟨fun _ _ _ _ _ _ _ _ => rfl, fun st h => absurd h (Nat.not_lt_zero _), fun j => (Int32.add_zero _).symm⟩ (fun i x hi hI => by
    obtain ⟨i1, i2, i3⟩ := hI
    have lo : ∀ p j, p ≠ 4 → p < 81 → x p j = a p j := fun p j h1 h2 => (i1 p j h1 (by omega) (by omega) (by omega) (by omega) (by omega)).trans (b1 p j h1 (by omega) (by omega))
    have hNx : Nt x := Nt_cg hN (fun p j h1 h2 => lo p j (by omega) (by omega))
    have ra : ∀ n, x (89 + i) n = a (89 + i) n := fun n => (i1 _ n (by omega) (by omega) (by omega) (by omega) (by omega) (by omega)).trans (b1 _ n (by omega) (by omega) (by omega))
    have rb : ∀ n, x (108 + i) n = a (108 + i) n := fun n => (i1 _ n (by omega) (by omega) (by omega) (by omega) (by omega) (by omega)).trans (b1 _ n (by omega) (by omega) (by omega))
    have rs : x (81 + i % 3) = b (81 + i % 3) := funext fun q => i1 _ q (by omega) (by omega) (by omega) (by omega) (by omega) (by omega)
    have rf : x (85 + i % 3) = b (85 + i % 3) := funext fun q => i1 _ q (by omega) (by omega) (by omega) (by omega) (by omega) (by omega)
    obtain ⟨s1, s2, s3⟩ := Tr_st1_spec hNx hr hi (fun n hn => ⟨by rw [ra]; exact v2 i n hi hn, by rw [rb]; exact v3 i n hi hn⟩) (by
      rw [rs, rf]
      exact Ssh_cg (b2 (i % 3) (by omega)) (fun p j hp => (lo p j (by omega) (by omega)).symm))
    show (∀ p j, _) ∧ _
    generalize Tr_st1 r (i / 3) (i % 3) x = y at s1 s2 s3 ⊢
    have row : ∀ st, st < i → y (89 + st) = x (89 + st) ∧ y (127 + st) = x (127 + st) ∧ y (108 + st) = x (108 + st) ∧ y (146 + st) = x (146 + st) := fun st hst => ⟨funext fun q => s1 _ _ (by omega) (by omega) (by omega) (by omega) (by omega) (by omega), funext fun q => s1 _ _ (by omega) (by omega) (by omega) (by omega) (by omega) (by omega), funext fun q => s1 _ _ (by omega) (by omega) (by omega) (by omega) (by omega) (by omega), funext fun q => s1 _ _ (by omega) (by omega) (by omega) (by omega) (by omega) (by omega)⟩
    refine ⟨fun p j h1 h2 h3 h4 h5 h6 => ?_, fun st hst => ?_, fun j => ?_⟩
    · rw [s1 p j h1 (by omega) (by omega) (by omega) (by omega) h6]
      exact i1 p j h1 (by omega) (by omega) (by omega) (by omega) h6
    · by_cases e : st = i
      · subst e
        rw [rs] at s2
        exact Sst_cg hi s2 (fun p j hp => lo p j (by omega) (by omega))
      · obtain ⟨e1, e2, e3, e4⟩ := row st (by omega)
        rw [e1, e2, e3, e4]
        exact i2 st (by omega)
    · rw [s3 j, i3 j, Int32.add_assoc]
      refine congrArg (fun z => b 4 j + z) ?_
      have e1 : sI i (fun st => sI 6 (fun n => dA j 4 n (a (89 + st) n) (x (89 + st) n) (mc a)) + sI 6 (fun n => dA j 2 n (a (108 + st) n) (x (108 + st) n) (mc a))) = sI i (fun st => sI 6 (fun n => dA j 4 n (a (89 + st) n) (y (89 + st) n) (mc a)) + sI 6 (fun n => dA j 2 n (a (108 + st) n) (y (108 + st) n) (mc a))) := sg_cg i (fun st hst => by rw [(row st hst).1, (row st hst).2.2.1])
      have e2 : sI 6 (fun n => dA j 4 n (x (89 + i) n) (y (89 + i) n) (mc x)) = sI 6 (fun n => dA j 4 n (a (89 + i) n) (y (89 + i) n) (mc a)) := sg_cg 6 (fun n hn => by
        rw [ra]
        exact dA_cg (v2 i n hi hn) (fun b _ => lo (7 + n) b (by omega) (by omega)))
      have e3 : sI 6 (fun n => dA j 2 n (x (108 + i) n) (y (108 + i) n) (mc x)) = sI 6 (fun n => dA j 2 n (a (108 + i) n) (y (108 + i) n) (mc a)) := sg_cg 6 (fun n hn => by
        rw [rb]
        exact dA_cg (v3 i n hi hn) (fun b _ => lo (7 + n) b (by omega) (by omega)))
      rw [e1, e2, e3]
      rfl)
  obtain ⟨h1, h2, h3⟩ := h
  generalize mx_lp 18 (fun st => Tr_st1 r (st / 3) (st % 3)) b = y at h1 h2 h3 ⊢
  have rs : ∀ g, g < 3 → y (81 + g) = b (81 + g) := fun g hg => funext fun q => h1 _ q (by omega) (by omega) (by omega) (by omega) (by omega) (by omega)
  have rf : ∀ g, g < 3 → y (85 + g) = b (85 + g) := fun g hg => funext fun q => h1 _ q (by omega) (by omega) (by omega) (by omega) (by omega) (by omega)
  refine ⟨fun p j hp => ?_, fun g hg => ?_, fun st hst => ?_, fun j => ?_⟩
  · unfold Tr_fp at hp
    rw [h1 p j (by omega) (by omega) (by omega) (by omega) (by omega) (by omega)]
    exact b1 p j (by omega) (by omega) (by omega)
  · rw [rs g hg, rf g hg]; exact b2 g hg
  · rw [rs _ (by omega)]; exact h2 st hst
  · rw [h3 j, b3 j, Int32.add_assoc]
    refine congrArg (fun z => a 4 j + (z + _)) ?_
    exact sg_cg 3 (fun g hg => by rw [rs g hg])
