/-! the class's settling: cuts -/
theorem c12_ne {g st n p j : Nat} {a : Int32 × mx_Mm} (hp : p ≠ 127 + st) : (Tr_c12 g st n a) p j = a.2 p j := by
  unfold Tr_c12 Tr_c2 Tr_c1
  split
  · rw [up_neP hp, up_neP hp]
  · rw [up_neP hp]
theorem c12_neK {g st n j : Nat} {a : Int32 × mx_Mm} (hj : j ≠ n) : (Tr_c12 g st n a) (127 + st) j = a.2 (127 + st) j := by
  unfold Tr_c12 Tr_c2 Tr_c1
  split
  · rw [up_neK hj, up_neK hj]
  · rw [up_neK hj]
theorem b64 : nI 64 = bit 6 := by decide
theorem c12_bs {g st n : Nat} (hst : st < 18) (hg : g < 3) {a : Int32 × mx_Mm} {P Q : Nat → Prop} (h1 : bs (a.2 (85 + g) n) P) (h2 : bs a.1 Q) (hP : ∀ q, P q → q < 6) : bs ((Tr_c12 g st n a) (127 + st) n) (fun q => if q < 6 then P q ∧ ¬ Q q else a.2 2 0 < a.2 (43 + n) g ∧ q = 6) := by
  have h3 := bs_an h1 h2
  unfold Tr_c12 Tr_c2 Tr_c1
  rw [up_neP (p := 127 + st) (q := 2) (by omega)]
  by_cases hn : 43 + n = 127 + st
  · have hc := h2
    by_cases hm : a.2 2 0 < (mx_up a.2 (127 + st) n (a.2 (85 + g) n &&& (a.1 ^^^ (-1)))) (43 + n) g
    · rw [if_pos hm, up_same, up_same, b64]
      have hm2 : a.2 2 0 < a.2 (43 + n) g := by
        rw [up_ne (by omega)] at hm; exact hm
      refine bs_cg (bs_or h3 (bs_bit (by decide))) (fun q hq => ?_)
      by_cases c : q < 6
      · rw [if_pos c]
        exact ⟨fun z => z.elim id (fun w => by omega), Or.inl⟩
      · rw [if_neg c]
        exact ⟨fun z => ⟨hm2, by omega⟩, fun z => Or.inr z.2⟩
    · rw [if_neg hm, up_same]
      have hm2 : ¬ a.2 2 0 < a.2 (43 + n) g := by
        rw [up_ne (by omega)] at hm; exact hm
      refine bs_cg h3 (fun q hq => ?_)
      by_cases c : q < 6
      · rw [if_pos c]
      · rw [if_neg c]
        exact ⟨fun z => absurd (hP q z.1) c, fun z => absurd z.1 hm2⟩
  · rw [up_neP hn]
    by_cases hm : a.2 2 0 < a.2 (43 + n) g
    · rw [if_pos hm, up_same, up_same, b64]
      refine bs_cg (bs_or h3 (bs_bit (by decide))) (fun q hq => ?_)
      by_cases c : q < 6
      · rw [if_pos c]
        exact ⟨fun z => z.elim id (fun w => by omega), Or.inl⟩
      · rw [if_neg c]
        exact ⟨fun z => ⟨hm, by omega⟩, fun z => Or.inr z.2⟩
    · rw [if_neg hm, up_same]
      refine bs_cg h3 (fun q hq => ?_)
      by_cases c : q < 6
      · rw [if_pos c]
      · rw [if_neg c]
        exact ⟨fun z => absurd (hP q z.1) c, fun z => absurd z.1 hm⟩
theorem cb_ne {g st s r n p j : Nat} {a : Int32 × mx_Mm} (h1 : p ≠ 4) (h2 : p ≠ 89 + st) (h3 : p ≠ 127 + st) : (Tr_cb g st s r n a).2 p j = a.2 p j := by
  show (Tr_c4 st n _ (Tr_c12 g st n a)) p j = _
  unfold Tr_c4
  rw [up_neP h2, Tr_ann_ne h1, c12_ne h3]
theorem cb_89 {g st s r n q : Nat} {a : Int32 × mx_Mm} : (Tr_cb g st s r n a).2 (89 + st) q = if q = n then Tr_cat g st s r n (Tr_c12 g st n a) else a.2 (89 + st) q := by
  show (Tr_c4 st n _ (Tr_c12 g st n a)) (89 + st) q = _
  unfold Tr_c4
  by_cases e : q = n
  · rw [if_pos e, e, up_same]
  · rw [if_neg e, up_neK e, Tr_ann_ne (by omega), c12_ne (by omega)]
theorem cb_127 {g st s r n q : Nat} {a : Int32 × mx_Mm} : (Tr_cb g st s r n a).2 (127 + st) q = if q = n then (Tr_c12 g st n a) (127 + st) n else a.2 (127 + st) q := by
  show (Tr_c4 st n _ (Tr_c12 g st n a)) (127 + st) q = _
  unfold Tr_c4
  rw [up_neP (by omega), Tr_ann_ne (by omega)]
  by_cases e : q = n
  · rw [if_pos e, e]
  · rw [if_neg e, c12_neK e]
theorem cb_4 {g st s r n j : Nat} {a : Int32 × mx_Mm} (hn : n < 6) (hx : rng6 (a.2 (89 + st) n)) : (Tr_cb g st s r n a).2 4 j = a.2 4 j + dA j 4 n (a.2 (89 + st) n) (Tr_cat g st s r n (Tr_c12 g st n a)) (mc a.2) := by
  show (Tr_c4 st n _ (Tr_c12 g st n a)) 4 j = _
  unfold Tr_c4
  rw [up_neP (by omega), Tr_ann_4, c12_ne (by omega), c12_ne (by omega), dA_cg (c := mc (Tr_c12 g st n a)) (d := mc a.2) hx (fun b _ => c12_ne (by omega))]
theorem cb_c {g st s r n : Nat} {a : Int32 × mx_Mm} : (Tr_cb g st s r n a).1 = if ¬ Tr_cat g st s r n (Tr_c12 g st n a) = -1 then a.1 ||| bit n else a.1 := by
  show Tr_cc n _ a.1 = _
  unfold Tr_cc
  by_cases e : Tr_cat g st s r n (Tr_c12 g st n a) = -1
  · rw [if_pos e, if_neg (fun z => z e)]
  · rw [if_neg e, if_pos e]
/-- the pass over a stream's cuts -/
theorem Tr_cuts_spec {a : mx_Mm} {r s g st : Nat} (hN : Nt a) (hr : r < 6) (hs : s < 6) (hg : g < 3) (est : s * 3 + g = st) (hv : ∀ n, n < 6 → rng6 (a (89 + st) n)) (hset : ∀ n, n < 6 → bs (a (85 + g) n) (fun q => q < 6 ∧ a (81 + g) q = nI n)) (hown : ∀ n, n < 6 → a (81 + g) n = -1 ∨ a (81 + g) n = a (21 + n) r) :
    (∀ p j, p ≠ 4 → p ≠ 89 + st → p ≠ 127 + st → (Tr_cuts s g r a) p j = a p j) ∧
    (∀ n, n < 6 → ift ((Tr_cuts s g r a) (127 + st) n = 0 ∨ Tr_els st s r n a) (a (81 + g) n) (-1) ((Tr_cuts s g r a) (89 + st) n)) ∧
    (∀ n, n < 6 → bs ((Tr_cuts s g r a) (127 + st) n) (fun q => if q < 6 then a (81 + g) q = nI n ∧ (Tr_cuts s g r a) (89 + st) q = -1 else a 2 0 < a (43 + n) g)) ∧
    ∀ j, (Tr_cuts s g r a) 4 j = a 4 j + sI 6 (fun n => dA j 4 n (a (89 + st) n) ((Tr_cuts s g r a) (89 + st) n) (mc a)) := by
  obtain ⟨ob, os, -⟩ := hN.2.2.2 r hr
  have oi := fun i k (hik : i < k) (hk : k < 6) => hN.inj hr hik hk
  have hst : st < 18 := by omega
  have e0 : Tr_cuts s g r a = (mx_lp 6 (Tr_ck g st s r) (nI 0, a)).2 := by rw [← est]; rfl
  rw [e0]
  let I : Int32 × mx_Mm → Prop := fun x => ∀ p j, p ≠ 4 → p ≠ 89 + st → p ≠ 127 + st → x.2 p j = a p j
  have I0 : I (nI 0, a) := fun p j _ _ _ => rfl
  have hF : ∀ k x, I x → Tr_ck g st s r k x = Tr_cb g st s r (tn (a (28 + r) k)) x := fun k x hx => by
    show Tr_cb g st s r (tn (x.2 (28 + r) k)) x = _
    rw [hx (28 + r) k (by omega) (by omega) (by omega)]
  have hI : ∀ k x, k < 6 → I x → I (Tr_ck g st s r k x) := fun k x hk hx p j h1 h2 h3 => by
    rw [hF k x hx, cb_ne h1 h2 h3]; exact hx p j h1 h2 h3
  have hat : ∀ k x, k < 6 → I x → Tr_cat g st s r (tn (a (28 + r) k)) (Tr_c12 g st (tn (a (28 + r) k)) x) = -1 ∨ Tr_cat g st s r (tn (a (28 + r) k)) (Tr_c12 g st (tn (a (28 + r) k)) x) = a (81 + g) (tn (a (28 + r) k)) := fun k x hk hx => by
    unfold Tr_cat
    split
    · exact Or.inr ((c12_ne (by omega)).trans (hx _ _ (by omega) (by omega) (by omega)))
    · exact Or.inl rfl
  have hrow := row_at (F := Tr_ck g st s r) (o := fun k => tn (a (28 + r) k)) (fun x q => x.2 (89 + st) q) (fun k x => Tr_cat g st s r (tn (a (28 + r) k)) (Tr_c12 g st (tn (a (28 + r) k)) x)) I0 hI (fun k x q hk hx hq => by rw [hF k x hx, cb_89]) ob oi
  have hrow2 := row_at (F := Tr_ck g st s r) (o := fun k => tn (a (28 + r) k)) (fun x q => x.2 (127 + st) q) (fun k x => (Tr_c12 g st (tn (a (28 + r) k)) x) (127 + st) (tn (a (28 + r) k))) I0 hI (fun k x q hk hx hq => by rw [hF k x hx, cb_127]) ob oi
  have hc := set_at (F := Tr_ck g st s r) (o := fun k => tn (a (28 + r) k)) (fun x => x.1) (fun k x => ¬ Tr_cat g st s r (tn (a (28 + r) k)) (Tr_c12 g st (tn (a (28 + r) k)) x) = -1) I0 hI (fun k x hk hx => by rw [hF k x hx, cb_c]) ob rfl
  have hfin : ∀ k, k < 6 → (mx_lp 6 (Tr_ck g st s r) (nI 0, a)).2 (89 + st) (tn (a (28 + r) k)) = Tr_cat g st s r (tn (a (28 + r) k)) (Tr_c12 g st (tn (a (28 + r) k)) (mx_lp k (Tr_ck g st s r) (nI 0, a))) := fun k hk => by
    have := (hrow 6 (by omega)).2 k hk
    rw [if_pos hk] at this
    exact this
  have hfin2 : ∀ k, k < 6 → (mx_lp 6 (Tr_ck g st s r) (nI 0, a)).2 (127 + st) (tn (a (28 + r) k)) = (Tr_c12 g st (tn (a (28 + r) k)) (mx_lp k (Tr_ck g st s r) (nI 0, a))) (127 + st) (tn (a (28 + r) k)) := fun k hk => by
    have := (hrow2 6 (by omega)).2 k hk
    rw [if_pos hk] at this
    exact this
  have hIk : ∀ k, k ≤ 6 → I (mx_lp k (Tr_ck g st s r) (nI 0, a)) := fun k hk => (hrow k hk).1
  have hl : ∀ n, n < 6 → bs ((mx_lp 6 (Tr_ck g st s r) (nI 0, a)).2 (127 + st) n) (fun q => if q < 6 then a (81 + g) q = nI n ∧ (mx_lp 6 (Tr_ck g st s r) (nI 0, a)).2 (89 + st) q = -1 else a 2 0 < a (43 + n) g) := fun n hn => by
    obtain ⟨k, hk, e⟩ := os n hn
    subst e
    rw [hfin2 k hk]
    have hx := hIk k (by omega)
    have h1 : bs ((mx_lp k (Tr_ck g st s r) (nI 0, a)).2 (85 + g) (tn (a (28 + r) k))) (fun q => q < 6 ∧ a (81 + g) q = nI (tn (a (28 + r) k))) := by
      rw [hx _ _ (by omega) (by omega) (by omega)]; exact hset _ hn
    refine bs_cg (c12_bs hst hg h1 (hc k (by omega)).2 (fun q h => h.1)) (fun q hq => ?_)
    by_cases c : q < 6
    · rw [if_pos c, if_pos c]
      constructor
      · rintro ⟨⟨-, w⟩, z⟩
        refine ⟨w, Decidable.byContradiction fun y => z ?_⟩
        obtain ⟨i, hi, ei⟩ := os q c
        subst ei
        have h2 : i < k := hN.later hr hi hk (by
          rcases hown _ c with v | v
          · rw [v] at w; exact absurd w.symm (pm_nI_m1 (by omega))
          · rw [← v]; exact w)
        exact ⟨i, h2, rfl, fun v => y ((hfin i hi).trans v)⟩
      · rintro ⟨w, z⟩
        refine ⟨⟨c, w⟩, ?_⟩
        rintro ⟨i, hi, ei, y⟩
        subst ei
        exact y ((hfin i (by omega)).symm.trans z)
    · rw [if_neg c, if_neg c, hx 2 0 (by omega) (by omega) (by omega), hx (43 + _) g (by omega) (by omega) (by omega)]
      exact ⟨fun z => z.1, fun z => ⟨z, by omega⟩⟩
  refine ⟨hIk 6 (by omega), fun n hn => ?_, hl, fun j => ?_⟩
  · obtain ⟨k, hk, e⟩ := os n hn
    subst e
    rw [hfin k hk, hfin2 k hk]
    have hx := hIk k (by omega)
    unfold Tr_cat
    rw [c12_ne (p := 81 + g) (by omega), hx (81 + g) _ (by omega) (by omega) (by omega)]
    refine ift_if (or_congr Iff.rfl ?_)
    unfold Tr_els
    rw [c12_ne (p := 77) (by omega), c12_ne (p := 21 + _) (by omega), c12_ne (p := 21 + _) (by omega), hx 77 _ (by omega) (by omega) (by omega), hx (21 + _) s (by omega) (by omega) (by omega), hx (21 + _) r (by omega) (by omega) (by omega)]
  · have hrs : ∀ n, n < 6 → rng6 (a (81 + g) n) := fun n hn => by
      rcases hown n hn with e | e
      · exact Or.inl e
      · rw [e]; exact hN.nx hr hn
    have h := (cnt_at (F := Tr_ck g st s r) (fun x => x.2 4 j) (fun k x => dA j 4 (tn (a (28 + r) k)) (x.2 (89 + st) (tn (a (28 + r) k))) (Tr_cat g st s r (tn (a (28 + r) k)) (Tr_c12 g st (tn (a (28 + r) k)) x)) (mc a)) (I := fun x => I x ∧ ∀ n, n < 6 → rng6 (x.2 (89 + st) n)) (a := (nI 0, a)) ⟨I0, hv⟩ 6 (fun k x hk hx => ⟨hI k x hk hx.1, fun n hn => ?_⟩) (fun k x hk hx => ?_)).2
    · show (mx_lp 6 (Tr_ck g st s r) (nI 0, a)).2 4 j = _
      rw [h]
      refine congrArg (fun z => a 4 j + z) ?_
      rw [← sI_perm (fun n => dA j 4 n (a (89 + st) n) ((mx_lp 6 (Tr_ck g st s r) (nI 0, a)).2 (89 + st) n) (mc a)) os]
      refine sg_cg 6 (fun k hk => ?_)
      have h2 : (mx_lp k (Tr_ck g st s r) (nI 0, a)).2 (89 + st) (tn (a (28 + r) k)) = a (89 + st) (tn (a (28 + r) k)) := by
        have := (hrow k (by omega)).2 k hk
        rw [if_neg (Nat.lt_irrefl _)] at this
        exact this
      rw [hfin k hk, h2]
    · rw [hF k x hx.1, cb_89]
      split
      · rcases hat k x hk hx.1 with e | e
        · exact Or.inl e
        · rw [e]; exact hrs _ (ob k hk)
      · exact hx.2 n hn
    · show (Tr_ck g st s r k x).2 4 j = _
      have hnk := ob k hk
      rw [hF k x hx.1, cb_4 hnk (hx.2 _ hnk), dA_cg (c := mc x.2) (d := mc a) (hx.2 _ hnk) (fun b _ => hx.1 (7 + tn (a (28 + r) k)) b (by omega) (by omega) (by omega))]
/-! sources -/
theorem o1_ne {st n p j : Nat} {m : mx_Mm} (hp : p ≠ 146 + st) : (Tr_o1 st n m) p j = m p j := up_neP hp
theorem o2_ne {n p j : Nat} {x : Int32} {m : mx_Mm} (hp : p ≠ 164) : (Tr_o2 n x m) p j = m p j := by
  unfold Tr_o2
  split
  · rfl
  · exact up_neP hp
theorem o2_164 {n q : Nat} {x : Int32} {m : mx_Mm} (hx : rng6 x) (hq : q < 6) : (Tr_o2 n x m) 164 q = if x = nI q then m 164 q ||| bit n else m 164 q := by
  unfold Tr_o2
  split
  next h => rw [if_neg (fun z => pm_nI_m1 (by omega) (z.symm.trans h))]
  next h =>
    by_cases e : q = tn x
    · rw [if_pos ((rng6_ix hx hq h).mpr e), e, up_same]
    · rw [if_neg (fun z => e ((rng6_ix hx hq h).mp z)), up_neK e]
theorem ob_ne {st s n p j : Nat} {m : mx_Mm} (h1 : p ≠ 4) (h2 : p ≠ 108 + st) (h3 : p ≠ 146 + st) (h4 : p ≠ 164) : (Tr_ob st s n m) p j = m p j := by
  unfold Tr_ob Tr_o3
  rw [up_neP h2, Tr_ann_ne h1, o2_ne h4, o1_ne h3]
theorem ob_108 {st s n q : Nat} (hst : st < 18) {m : mx_Mm} : (Tr_ob st s n m) (108 + st) q = if q = n then Tr_oat st s n (Tr_o1 st n m) else m (108 + st) q := by
  unfold Tr_ob Tr_o3
  by_cases e : q = n
  · rw [if_pos e, e, up_same]
  · rw [if_neg e, up_neK e, Tr_ann_ne (by omega), o2_ne (by omega), o1_ne (by omega)]
theorem ob_146 {st s n q : Nat} (hst : st < 18) {m : mx_Mm} : (Tr_ob st s n m) (146 + st) q = if q = n then m (127 + st) n ||| m 164 n else m (146 + st) q := by
  unfold Tr_ob Tr_o3
  rw [up_neP (by omega), Tr_ann_ne (by omega), o2_ne (by omega)]
  unfold Tr_o1
  by_cases e : q = n
  · rw [if_pos e, e, up_same]
  · rw [if_neg e, up_neK e]
theorem ob_164 {st s n q : Nat} (hst : st < 18) {m : mx_Mm} (hx : rng6 (Tr_oat st s n (Tr_o1 st n m))) (hq : q < 6) : (Tr_ob st s n m) 164 q = if Tr_oat st s n (Tr_o1 st n m) = nI q then m 164 q ||| bit n else m 164 q := by
  unfold Tr_ob Tr_o3
  rw [up_neP (by omega), Tr_ann_ne (by omega), o2_164 hx hq, o1_ne (by omega)]
theorem ob_4 {st s n j : Nat} (hst : st < 18) {m : mx_Mm} (hn : n < 6) (hx : rng6 (m (108 + st) n)) : (Tr_ob st s n m) 4 j = m 4 j + dA j 2 n (m (108 + st) n) (Tr_oat st s n (Tr_o1 st n m)) (mc m) := by
  have hm : ∀ y b, mc (Tr_o2 n y (Tr_o1 st n m)) n b = mc m n b := fun y b => (o2_ne (by omega)).trans (o1_ne (by omega))
  unfold Tr_ob Tr_o3
  rw [up_neP (by omega), Tr_ann_4, o2_ne (p := 4) (by omega), o2_ne (p := 108 + st) (by omega), o1_ne (p := 4) (by omega), o1_ne (p := 108 + st) (by omega), dA_cg hx (fun b _ => hm _ b)]
/-- the pass over a stream's joins to its source -/
theorem Tr_sources_spec {a : mx_Mm} {s g st : Nat} {In : Nat → Nat → Prop} (hN : Nt a) (hs : s < 6) (hg : g < 3) (est : s * 3 + g = st) (hv : ∀ n, n < 6 → rng6 (a (108 + st) n)) (hin : ∀ n, n < 6 → bs (a (127 + st) n) (In n)) :
    (∀ p j, p ≠ 4 → p ≠ 108 + st → p ≠ 146 + st → p ≠ 164 → (Tr_sources s g a) p j = a p j) ∧
    (∀ n, n < 6 → ift ((∃ q, q < 6 ∧ (Tr_sources s g a) (108 + st) q = nI n) ∨ (a 2 0 < a (59 + st) n ∧ ¬ (Tr_sources s g a) (146 + st) n = 0)) (a (21 + n) s) (-1) ((Tr_sources s g a) (108 + st) n)) ∧
    (∀ n, n < 6 → bs ((Tr_sources s g a) (146 + st) n) (fun q => In n q ∨ (q < 6 ∧ (Tr_sources s g a) (108 + st) q = nI n))) ∧
    ∀ j, (Tr_sources s g a) 4 j = a 4 j + sI 6 (fun n => dA j 2 n (a (108 + st) n) ((Tr_sources s g a) (108 + st) n) (mc a)) := by
  obtain ⟨ob, os, -⟩ := hN.2.2.2 s hs
  have oi := fun i k (hik : i < k) (hk : k < 6) => hN.inj hs hik hk
  have hst : st < 18 := by omega
  have f1 : ∀ p j, p ≠ 164 → (fill_m 164 6 (nI 0) a) p j = a p j := fun p j hp => lp_keep (fun x : mx_Mm => x p j = a p j) 6 rfl (fun i x _ h => (up_neP hp).trans h)
  have f2 : ∀ q, q < 6 → (fill_m 164 6 (nI 0) a) 164 q = nI 0 := lp_inv (f := fun i m => mx_up m 164 i (nI 0)) (fun i (x : mx_Mm) => ∀ q, q < i → x 164 q = nI 0) 6 (m := a) (fun q hq => absurd hq (Nat.not_lt_zero _)) (fun i x hi h q hq => by
    by_cases e : q = i
    · subst e; exact up_same _ _ _ _
    · rw [up_neK e]; exact h q (by omega))
  have e0 : Tr_sources s g a = mx_lp 6 (Tr_ok1 st s) (fill_m 164 6 (nI 0) a) := by rw [← est]; rfl
  rw [e0]
  generalize fill_m 164 6 (nI 0) a = b at f1 f2 ⊢
  let I : mx_Mm → Prop := fun x => ∀ p j, p ≠ 4 → p ≠ 108 + st → p ≠ 146 + st → p ≠ 164 → x p j = a p j
  have I0 : I b := fun p j _ _ _ h4 => f1 p j h4
  have hF : ∀ k x, I x → Tr_ok1 st s k x = Tr_ob st s (tn (a (28 + s) k)) x := fun k x hx => by
    show Tr_ob st s (tn (x (28 + s) k)) x = _
    rw [hx (28 + s) k (by omega) (by omega) (by omega) (by omega)]
  have hI : ∀ k x, k < 6 → I x → I (Tr_ok1 st s k x) := fun k x hk hx p j h1 h2 h3 h4 => by
    rw [hF k x hx, ob_ne h1 h2 h3 h4]; exact hx p j h1 h2 h3 h4
  have hat : ∀ k x, k < 6 → I x → Tr_oat st s (tn (a (28 + s) k)) (Tr_o1 st (tn (a (28 + s) k)) x) = -1 ∨ Tr_oat st s (tn (a (28 + s) k)) (Tr_o1 st (tn (a (28 + s) k)) x) = a (21 + tn (a (28 + s) k)) s := fun k x hk hx => by
    have := ob k hk
    unfold Tr_oat
    split
    · exact Or.inr ((o1_ne (by omega)).trans (hx _ _ (by omega) (by omega) (by omega) (by omega)))
    · exact Or.inl rfl
  have har : ∀ k x, k < 6 → I x → rng6 (Tr_oat st s (tn (a (28 + s) k)) (Tr_o1 st (tn (a (28 + s) k)) x)) := fun k x hk hx => by
    rcases hat k x hk hx with e | e
    · exact Or.inl e
    · rw [e]; exact hN.nx hs (ob k hk)
  have hrow := row_at (F := Tr_ok1 st s) (o := fun k => tn (a (28 + s) k)) (fun x q => x (108 + st) q) (fun k x => Tr_oat st s (tn (a (28 + s) k)) (Tr_o1 st (tn (a (28 + s) k)) x)) I0 hI (fun k x q hk hx hq => by rw [hF k x hx, ob_108 hst]) ob oi
  have hrow2 := row_at (F := Tr_ok1 st s) (o := fun k => tn (a (28 + s) k)) (fun x q => x (146 + st) q) (fun k x => x (127 + st) (tn (a (28 + s) k)) ||| x 164 (tn (a (28 + s) k))) I0 hI (fun k x q hk hx hq => by rw [hF k x hx, ob_146 hst]) ob oi
  have hset := fun q (hq : q < 6) => set_at (F := Tr_ok1 st s) (o := fun k => tn (a (28 + s) k)) (fun x => x 164 q) (fun k x => Tr_oat st s (tn (a (28 + s) k)) (Tr_o1 st (tn (a (28 + s) k)) x) = nI q) I0 hI (fun k x hk hx => by rw [hF k x hx, ob_164 hst (har k x hk hx) hq]) ob (f2 q hq)
  have hfin : ∀ k, k < 6 → (mx_lp 6 (Tr_ok1 st s) b) (108 + st) (tn (a (28 + s) k)) = Tr_oat st s (tn (a (28 + s) k)) (Tr_o1 st (tn (a (28 + s) k)) (mx_lp k (Tr_ok1 st s) b)) := fun k hk => by
    rw [(hrow 6 (by omega)).2 k hk, if_pos hk]
  have hfin2 : ∀ k, k < 6 → (mx_lp 6 (Tr_ok1 st s) b) (146 + st) (tn (a (28 + s) k)) = (mx_lp k (Tr_ok1 st s) b) (127 + st) (tn (a (28 + s) k)) ||| (mx_lp k (Tr_ok1 st s) b) 164 (tn (a (28 + s) k)) := fun k hk => by
    rw [(hrow2 6 (by omega)).2 k hk, if_pos hk]
  have hIk : ∀ k, k ≤ 6 → I (mx_lp k (Tr_ok1 st s) b) := fun k hk => (hrow k hk).1
  have hmem : ∀ k, k < 6 → bs ((mx_lp k (Tr_ok1 st s) b) 164 (tn (a (28 + s) k))) (fun q => q < 6 ∧ (mx_lp 6 (Tr_ok1 st s) b) (108 + st) q = nI (tn (a (28 + s) k))) := fun k hk => by
    refine bs_cg (hset _ (ob k hk) k (by omega)).2 (fun n _ => ?_)
    constructor
    · rintro ⟨i, hi, e, w⟩
      rw [e]
      exact ⟨ob i (by omega), by rw [hfin i (by omega)]; exact w⟩
    · rintro ⟨hn, w⟩
      obtain ⟨i, hi, e⟩ := os n hn
      subst e
      rw [hfin i hi] at w
      refine ⟨i, hN.later hs hi hk ?_, rfl, w⟩
      have := ob k hk
      rcases hat i _ hi (hIk i (by omega)) with z | z
      · rw [z] at w; exact absurd w.symm (pm_nI_m1 (by omega))
      · rw [← z]; exact w
  refine ⟨hIk 6 (by omega), fun n hn => ?_, fun n hn => ?_, fun j => ?_⟩
  · obtain ⟨k, hk, e⟩ := os n hn
    subst e
    have hx := hIk k (by omega)
    have hz := bs_z (hmem k hk)
    rw [hfin k hk, hfin2 k hk]
    unfold Tr_oat
    rw [o1_ne (p := 21 + _) (by omega), hx (21 + _) s (by omega) (by omega) (by omega) (by omega)]
    refine ift_if (or_congr ?_ (and_congr ?_ ?_))
    · rw [o1_ne (p := 164) (by omega), hz]
      constructor
      · intro h
        refine Decidable.byContradiction fun c => h (fun q _ w => c ⟨q, w⟩)
      · rintro ⟨q, hq, w⟩ h
        exact h q (by omega) ⟨hq, w⟩
    · rw [o1_ne (p := 2) (by omega), o1_ne (p := 59 + st) (by omega), hx 2 0 (by omega) (by omega) (by omega) (by omega), hx (59 + st) _ (by omega) (by omega) (by omega) (by omega)]
    · unfold Tr_o1
      rw [up_same]
  · obtain ⟨k, hk, e⟩ := os n hn
    subst e
    have hx := hIk k (by omega)
    rw [hfin2 k hk, hx (127 + st) _ (by omega) (by omega) (by omega) (by omega)]
    exact bs_or (hin _ hn) (hmem k hk)
  · have h := (cnt_at (F := Tr_ok1 st s) (fun x => x 4 j) (fun k x => dA j 2 (tn (a (28 + s) k)) (x (108 + st) (tn (a (28 + s) k))) (Tr_oat st s (tn (a (28 + s) k)) (Tr_o1 st (tn (a (28 + s) k)) x)) (mc a)) (I := fun x => I x ∧ ∀ n, n < 6 → rng6 (x (108 + st) n)) ⟨I0, fun n hn => by rw [f1 _ _ (by omega)]; exact hv n hn⟩ 6 (fun k x hk hx => ⟨hI k x hk hx.1, fun n hn => ?_⟩) (fun k x hk hx => ?_)).2
    · show (mx_lp 6 (Tr_ok1 st s) b) 4 j = _
      rw [h, f1 4 j (by omega)]
      refine congrArg (fun z => a 4 j + z) ?_
      rw [← sI_perm (fun n => dA j 2 n (a (108 + st) n) ((mx_lp 6 (Tr_ok1 st s) b) (108 + st) n) (mc a)) os]
      refine sg_cg 6 (fun k hk => ?_)
      show dA j 2 _ ((mx_lp k (Tr_ok1 st s) b) (108 + st) _) _ _ = dA j 2 _ _ ((mx_lp 6 (Tr_ok1 st s) b) (108 + st) _) _
      rw [hfin k hk, (hrow k (by omega)).2 k hk, if_neg (Nat.lt_irrefl _), f1 _ _ (by omega)]
    · rw [hF k x hx.1, ob_108 hst]
      split
      · exact har k x hk hx.1
      · exact hx.2 n hn
    · show (Tr_ok1 st s k x) 4 j = _
      have hnk := ob k hk
      rw [hF k x hx.1, ob_4 hst hnk (hx.2 _ hnk), dA_cg (c := mc x) (d := mc a) (hx.2 _ hnk) (fun b _ => hx.1 (7 + tn (a (28 + s) k)) b (by omega) (by omega) (by omega) (by omega))]
