/-! the class's packets: putting out -/
abbrev cad (st : Nat) (a : mx_Mm) (q n : Nat) : Prop := hold (Pa_list st q a) n
def cfr (st s r : Nat) (a : mx_Mm) (q : Nat) : Int32 := if q = s then -1 else a (21 + q) (Pa_side st s r q a)
abbrev cgo (st s r : Nat) (a : mx_Mm) (q n : Nat) : Prop := cad st a q n ∧ ¬ nI n = cfr st s r a q ∧ cfr st s r a n = nI q
def cxx (st s r : Nat) (a : mx_Mm) (q n : Nat) : Int32 := if cad st a q n ∧ ¬ nI n = cfr st s r a q then nI 1 else 0
def cdd (st s r : Nat) (a : mx_Mm) (q n : Nat) : Int32 := if cad st a q n ∧ ¬ nI n = cfr st s r a q ∧ ¬ cfr st s r a n = nI q then nI 1 else 0
def Sam (a x : mx_Mm) : Prop := ∀ p j, p ≠ 165 → p ≠ 166 → p ≠ 167 → x p j = a p j
def Qs (st s r : Nat) (a x : mx_Mm) (K : Nat) (c : Nat → Nat) : Prop := x 165 7 = nI K ∧ K ≤ 6 ∧ (∀ k, k < K → c k < 6 ∧ x 166 k = nI (c k) ∧ x 167 k = cfr st s r a (c k)) ∧ ∀ i k, i < k → k < K → c i ≠ c k
theorem carry_at {n K p j : Nat} {v : Int32} {x : mx_Mm} (hK : K < 6) (e : x 165 7 = nI K) : (Pa_carry n v x) p j = if p = 165 ∧ j = 7 then nI (K + 1) else if p = 166 ∧ j = K then nI n else if p = 167 ∧ j = K then v else x p j := by
  have ht : tn (x 165 7) = K := by rw [e]; exact tn_nI (by omega)
  unfold Pa_carry
  rw [if_pos (by rw [e]; exact (nI_ltI (by omega) (by decide)).mpr hK), ht]
  have e1 : (Pa_c1 n K v x) 165 7 + nI 1 = nI (K + 1) := by
    unfold Pa_c1
    rw [up_neP (by decide), up_neP (by decide), e, nI_add]
  rw [e1]
  by_cases h1 : p = 165 ∧ j = 7
  · rw [if_pos h1, h1.1, h1.2, up_same]
  · rw [if_neg h1, up_ne h1]
    unfold Pa_c1
    by_cases h2 : p = 166 ∧ j = K
    · rw [if_pos h2, h2.1, h2.2, up_neP (by decide), up_same]
    · rw [if_neg h2]
      by_cases h3 : p = 167 ∧ j = K
      · rw [if_pos h3, h3.1, h3.2, up_same]
      · rw [if_neg h3, up_ne h3, up_ne h2]
theorem Sam.side {a x : mx_Mm} (h : Sam a x) {st s r n : Nat} : Pa_side st s r n x = Pa_side st s r n a := by
  unfold Pa_side
  rw [h 77 st (by decide) (by decide) (by decide)]
theorem Sam.carry {a x : mx_Mm} (h : Sam a x) {n : Nat} {v : Int32} : Sam a (Pa_carry n v x) := fun p j h1 h2 h3 => by
  unfold Pa_carry Pa_c1
  split
  · rw [up_neP h1, up_neP h3, up_neP h2]; exact h p j h1 h2 h3
  · exact h p j h1 h2 h3
theorem Sam.u5 {a x : mx_Mm} (h : Sam a x) {k : Nat} {v : Int32} : Sam a (mx_up x 165 k v) := fun p j h1 h2 h3 => (up_neP h1).trans (h p j h1 h2 h3)
theorem cfr_tk {st s r n q : Nat} {a x : mx_Mm} (h : Sam a x) (hn : n < 6) (hq : q < 6) : (¬ n = s ∧ x (21 + n) (Pa_side st s r n x) = nI q) ↔ cfr st s r a n = nI q := by
  unfold cfr
  rw [h.side, h (21 + n) _ (by omega) (by omega) (by omega)]
  by_cases e : n = s
  · rw [if_pos e]
    exact ⟨fun z => absurd e z.1, fun z => absurd z.symm (pm_nI_m1 (by omega))⟩
  · rw [if_neg e]
    exact ⟨fun z => z.2, fun z => ⟨e, z⟩⟩
/-- a new carrier joins the list -/
theorem Qs.add {st s r K n : Nat} {a x : mx_Mm} {c : Nat → Nat} {v : Int32} (h : Qs st s r a x K c) (hn : n < 6) (hv : v = cfr st s r a n) (hnew : ∀ k, k < K → c k ≠ n) : K < 6 ∧ Qs st s r a (Pa_carry n v x) (K + 1) (fun k => if k < K then c k else n) ∧ ∀ p j, p ≠ 166 → p ≠ 167 → ¬ (p = 165 ∧ j = 7) → (Pa_carry n v x) p j = x p j := by
  obtain ⟨h1, h2, h3, h4⟩ := h
  have hi : ∀ i k, i < k → k < K + 1 → (if i < K then c i else n) ≠ (if k < K then c k else n) := fun i k hik hk => by
    rw [if_pos (by omega)]
    by_cases e : k < K
    · rw [if_pos e]; exact h4 i k hik e
    · rw [if_neg e]; exact hnew i (by omega)
  have hK : K + 1 ≤ 6 := ph 6 (fun k => if k < K then c k else n) (K + 1) (fun k hk => by
    show (if k < K then c k else n) < 6
    by_cases e : k < K
    · rw [if_pos e]; exact (h3 k e).1
    · rw [if_neg e]; exact hn) hi
  have hK6 : K < 6 := by omega
  refine ⟨hK6, ⟨?_, hK, fun k hk => ?_, hi⟩, fun p j p1 p2 p3 => ?_⟩
  · rw [carry_at hK6 h1, if_pos ⟨rfl, rfl⟩]
  · have e6 : (Pa_carry n v x) 166 k = if k = K then nI n else x 166 k := by
      rw [carry_at hK6 h1, if_neg (by omega)]
      by_cases e : k = K
      · rw [if_pos ⟨rfl, e⟩, if_pos e]
      · rw [if_neg (fun z => e z.2), if_neg (by omega), if_neg e]
    have e7 : (Pa_carry n v x) 167 k = if k = K then v else x 167 k := by
      rw [carry_at hK6 h1, if_neg (by omega), if_neg (by omega)]
      by_cases e : k = K
      · rw [if_pos ⟨rfl, e⟩, if_pos e]
      · rw [if_neg (fun z => e z.2), if_neg e]
    show (if k < K then c k else n) < 6 ∧ _ = nI (if k < K then c k else n) ∧ _ = cfr st s r a (if k < K then c k else n)
    rw [e6, e7]
    by_cases e : k < K
    · rw [if_pos e, if_neg (by omega), if_neg (by omega)]
      exact h3 k e
    · have ek : k = K := by omega
      rw [if_neg e, if_pos ek, if_pos ek]
      exact ⟨hn, rfl, hv⟩
  · rw [carry_at hK6 h1, if_neg p3, if_neg (fun z => p1 z.1), if_neg (fun z => p2 z.1)]
/-- one router of the list -/
theorem po2_step {st s r K q k n : Nat} {a x : mx_Mm} {c : Nat → Nat} (hs : Sam a x) (hQ : Qs st s r a x K c) (hk : k < K) (eq : c k = q) (hn : n < 6) (hnew : cgo st s r a q n → ∀ j, j < K → c j ≠ n) :
    Sam a (Pa_po2 st s r q k (Pa_list st q a) n x) ∧ (∃ K' c', K ≤ K' ∧ K' ≤ K + 1 ∧ (∀ j, j < K → c' j = c j) ∧ Qs st s r a (Pa_po2 st s r q k (Pa_list st q a) n x) K' c' ∧ (∀ j, K ≤ j → j < K' → c' j = n ∧ cgo st s r a q n) ∧ (cgo st s r a q n → c' K = n ∧ K' = K + 1)) ∧
    (Pa_po2 st s r q k (Pa_list st q a) n x) 165 8 = x 165 8 + cxx st s r a q n ∧ (Pa_po2 st s r q k (Pa_list st q a) n x) 165 9 = x 165 9 + cdd st s r a q n ∧ ∀ j, j ≠ 7 → j ≠ 8 → j ≠ 9 → (Pa_po2 st s r q k (Pa_list st q a) n x) 165 j = x 165 j := by
  have hq : q < 6 := by rw [← eq]; exact (hQ.2.2.1 k hk).1
  have hfr : x 167 k = cfr st s r a q := by rw [← eq]; exact (hQ.2.2.1 k hk).2.2
  have same : ∀ j, j < K → c j = c j := fun _ _ => rfl
  unfold Pa_po2
  rw [hfr]
  by_cases hx : cad st a q n ∧ ¬ nI n = cfr st s r a q
  · rw [if_pos hx]
    have ex : cxx st s r a q n = nI 1 := if_pos hx
    have hs1 : Sam a (Pa_x1 x) := hs.u5
    have hQ1 : Qs st s r a (Pa_x1 x) K c := by
      obtain ⟨q1, q2, q3, q4⟩ := hQ
      exact ⟨(up_neK (by decide)).trans q1, q2, fun j hj => ⟨(q3 j hj).1, (up_neP (by decide)).trans (q3 j hj).2.1, (up_neP (by decide)).trans (q3 j hj).2.2⟩, q4⟩
    have e8 : (Pa_x1 x) 165 8 = x 165 8 + nI 1 := up_same _ _ _ _
    have e9 : ∀ j, j ≠ 8 → (Pa_x1 x) 165 j = x 165 j := fun j hj => up_neK hj
    unfold Pa_cross Pa_xs
    by_cases ht : ¬ n = s ∧ (Pa_x1 x) (21 + n) (Pa_side st s r n (Pa_x1 x)) = nI q
    · have htk := (cfr_tk hs1 hn hq).mp ht
      have hgo : cgo st s r a q n := ⟨hx.1, hx.2, htk⟩
      rw [if_pos ht]
      obtain ⟨a1, a2, a3⟩ := hQ1.add hn htk.symm (fun j hj => hnew hgo j hj)
      have ed : cdd st s r a q n = 0 := if_neg (fun z => z.2.2 htk)
      refine ⟨hs1.carry, ⟨K + 1, _, by omega, by omega, fun j hj => if_pos hj, a2, fun j h1 h2 => ⟨if_neg (by omega), hgo⟩, fun _ => ⟨if_neg (by omega), rfl⟩⟩, ?_, ?_, fun j j1 j2 j3 => ?_⟩
      · rw [a3 165 8 (by decide) (by decide) (by decide), e8, ex]
      · rw [a3 165 9 (by decide) (by decide) (by decide), e9 9 (by decide), ed, Int32.add_zero]
      · rw [a3 165 j (by decide) (by decide) (fun z => j1 z.2), e9 j j2]
    · rw [if_neg ht]
      have htk : ¬ cfr st s r a n = nI q := fun z => ht ((cfr_tk hs1 hn hq).mpr z)
      have hgo : ¬ cgo st s r a q n := fun z => htk z.2.2
      have ed : cdd st s r a q n = nI 1 := if_pos ⟨hx.1, hx.2, htk⟩
      refine ⟨hs1.u5, ⟨K, c, by omega, by omega, same, ?_, fun j h1 h2 => absurd h2 (by omega), fun z => absurd z hgo⟩, ?_, ?_, fun j j1 j2 j3 => ?_⟩
      · obtain ⟨q1, q2, q3, q4⟩ := hQ1
        exact ⟨(up_neK (by decide)).trans q1, q2, fun j hj => ⟨(q3 j hj).1, (up_neP (by decide)).trans (q3 j hj).2.1, (up_neP (by decide)).trans (q3 j hj).2.2⟩, q4⟩
      · unfold Pa_x2
        rw [up_neK (by decide), e8, ex]
      · unfold Pa_x2
        rw [up_same, e9 9 (by decide), ed]
      · unfold Pa_x2
        rw [up_neK j3, e9 j j2]
  · rw [if_neg hx]
    have hgo : ¬ cgo st s r a q n := fun z => hx ⟨z.1, z.2.1⟩
    have ex : cxx st s r a q n = 0 := if_neg hx
    have ed : cdd st s r a q n = 0 := if_neg (fun z => hx ⟨z.1, z.2.1⟩)
    rw [ex, ed, Int32.add_zero, Int32.add_zero]
    exact ⟨hs, ⟨K, c, by omega, by omega, same, hQ, fun j h1 h2 => absurd h2 (by omega), fun z => absurd z hgo⟩, rfl, rfl, fun _ _ _ _ => rfl⟩
theorem Sam.list {a x : mx_Mm} (h : Sam a x) {st q : Nat} (hst : st < 18) : Pa_list st q x = Pa_list st q a := by
  unfold Pa_list
  rw [h 77 _ (by decide) (by decide) (by decide), h (146 + st) _ (by omega) (by omega) (by omega), h (127 + st) _ (by omega) (by omega) (by omega)]
theorem po1_ne {s q p j : Nat} {L : Int32} {x : mx_Mm} (h : ¬ (p = 165 ∧ j = 10)) : (Pa_po1 s q L x) p j = x p j := by
  unfold Pa_po1
  split
  · exact up_ne h
  · rfl
theorem po1_10 {s q : Nat} {L : Int32} {x : mx_Mm} : (Pa_po1 s q L x) 165 10 = if ¬ L &&& nI 64 = 0 ∧ ¬ q = s then x 165 10 ||| bit q else x 165 10 := by
  unfold Pa_po1
  split
  · exact up_same _ _ _ _
  · rfl
/-- one entry of the list is put out -/
theorem put_step {st s r K k : Nat} (hst : st < 18) {a x : mx_Mm} {c : Nat → Nat} (hs : Sam a x) (hQ : Qs st s r a x K c) (hk : k < K) (hnew : ∀ n, n < 6 → cgo st s r a (c k) n → ∀ j, j < K → c j ≠ n) :
    Sam a (Pa_put st s r k x) ∧ (∃ K' c', K ≤ K' ∧ (∀ j, j < K → c' j = c j) ∧ Qs st s r a (Pa_put st s r k x) K' c' ∧ (∀ j, K ≤ j → j < K' → cgo st s r a (c k) (c' j)) ∧ ∀ n, n < 6 → cgo st s r a (c k) n → ∃ j, j < K' ∧ c' j = n) ∧
    (Pa_put st s r k x) 165 8 = x 165 8 + sI 6 (cxx st s r a (c k)) ∧ (Pa_put st s r k x) 165 9 = x 165 9 + sI 6 (cdd st s r a (c k)) ∧ (Pa_put st s r k x) 165 10 = (if ¬ Pa_list st (c k) a &&& nI 64 = 0 ∧ ¬ c k = s then x 165 10 ||| bit (c k) else x 165 10) ∧ ∀ j, j ≠ 7 → j ≠ 8 → j ≠ 9 → j ≠ 10 → (Pa_put st s r k x) 165 j = x 165 j := by
  have q3 := hQ.2.2.1
  have hq := (q3 k hk).1
  have et : tn (x 166 k) = c k := by rw [(q3 k hk).2.1]; exact tn_nI (by omega)
  have el : Pa_list st (c k) x = Pa_list st (c k) a := hs.list hst
  unfold Pa_put Pa_putq
  rw [et, el]
  have s0 : Sam a (Pa_po1 s (c k) (Pa_list st (c k) a) x) := fun p j h1 h2 h3 => (po1_ne (fun z => h1 z.1)).trans (hs p j h1 h2 h3)
  have Q0 : Qs st s r a (Pa_po1 s (c k) (Pa_list st (c k) a) x) K c := by
    obtain ⟨q1, q2, q3, q4⟩ := hQ
    exact ⟨(po1_ne (by decide)).trans q1, q2, fun j hj => ⟨(q3 j hj).1, (po1_ne (by omega)).trans (q3 j hj).2.1, (po1_ne (by omega)).trans (q3 j hj).2.2⟩, q4⟩
  have z8 : (Pa_po1 s (c k) (Pa_list st (c k) a) x) 165 8 = x 165 8 := po1_ne (by decide)
  have z9 : (Pa_po1 s (c k) (Pa_list st (c k) a) x) 165 9 = x 165 9 := po1_ne (by decide)
  have z10 := po1_10 (s := s) (q := c k) (L := Pa_list st (c k) a) (x := x)
  have zj : ∀ j, j ≠ 10 → (Pa_po1 s (c k) (Pa_list st (c k) a) x) 165 j = x 165 j := fun j hj => po1_ne (fun z => hj z.2)
  generalize Pa_po1 s (c k) (Pa_list st (c k) a) x = y at s0 Q0 z8 z9 z10 zj ⊢
  have h := lp_inv (f := Pa_po2 st s r (c k) k (Pa_list st (c k) a)) (fun i (w : mx_Mm) => Sam a w ∧ (∃ K' c', K ≤ K' ∧ (∀ j, j < K → c' j = c j) ∧ Qs st s r a w K' c' ∧ (∀ j, K ≤ j → j < K' → c' j < i ∧ cgo st s r a (c k) (c' j)) ∧ ∀ n, n < i → cgo st s r a (c k) n → ∃ j, j < K' ∧ c' j = n) ∧ w 165 8 = y 165 8 + sI i (cxx st s r a (c k)) ∧ w 165 9 = y 165 9 + sI i (cdd st s r a (c k)) ∧ ∀ j, j ≠ 7 → j ≠ 8 → j ≠ 9 → w 165 j = y 165 j) 6 (m := y) ⟨s0, ⟨K, c, Nat.le_refl _, fun _ _ => rfl, Q0, fun j h1 h2 => absurd h2 (by omega), fun n hn => absurd hn (Nat.not_lt_zero _)⟩, (Int32.add_zero _).symm, (Int32.add_zero _).symm, fun _ _ _ _ => rfl⟩ (fun i w hi hI => by
    obtain ⟨w1, ⟨K', c', k1, k2, k3, k4, k5⟩, w8, w9, wj⟩ := hI
    obtain ⟨p1, ⟨K2, c2, l1, l2, l3, l4, l5, l6⟩, p8, p9, pj⟩ := po2_step (q := c k) (k := k) (n := i) w1 k3 (by omega) (k2 k hk) hi (fun hg j hj => by
      by_cases e : j < K
      · rw [k2 j e]; exact hnew i hi hg j e
      · have := (k4 j (by omega) hj).1
        omega)
    refine ⟨p1, ⟨K2, c2, by omega, fun j hj => (l3 j (by omega)).trans (k2 j hj), l4, fun j h1 h2 => ?_, fun n hn hg => ?_⟩, ?_, ?_, fun j j1 j2 j3 => (pj j j1 j2 j3).trans (wj j j1 j2 j3)⟩
    · by_cases e : j < K'
      · rw [l3 j e]
        have := k4 j h1 e
        exact ⟨by omega, this.2⟩
      · obtain ⟨u1, u2⟩ := l5 j (by omega) h2
        rw [u1]
        exact ⟨by omega, u2⟩
    · by_cases e : n = i
      · subst e
        obtain ⟨u1, u2⟩ := l6 hg
        exact ⟨K', by omega, u1⟩
      · obtain ⟨j, hj, ej⟩ := k5 n (by omega) hg
        exact ⟨j, by omega, (l3 j hj).trans ej⟩
    · rw [p8, w8, Int32.add_assoc]; rfl
    · rw [p9, w9, Int32.add_assoc]; rfl)
  obtain ⟨w1, ⟨K', c', k1, k2, k3, k4, k5⟩, w8, w9, wj⟩ := h
  refine ⟨w1, ⟨K', c', k1, k2, k3, fun j h1 h2 => (k4 j h1 h2).2, k5⟩, ?_, ?_, ?_, fun j j1 j2 j3 j4 => ?_⟩
  · rw [w8, z8]
  · rw [w9, z9]
  · rw [wj 10 (by decide) (by decide) (by decide), z10]
  · rw [wj j j1 j2 j3, zj j j4]
/-- all that is put out: the list that is left carries the packet -/
theorem puts_all {st s r K0 : Nat} (hst : st < 18) {S0 : Nat → Prop} {a x : mx_Mm} {c0 : Nat → Nat} (hs : Sam a x) (hQ : Qs st s r a x K0 c0) (hS : ∀ k, k < K0 → S0 (c0 k)) (hS1 : ∀ q, q < 6 → S0 q → ∃ k, k < K0 ∧ c0 k = q) (hSf : ∀ q, S0 q → cfr st s r a q = -1) :
    ∃ K c, Chn S0 (cgo st s r a) K c ∧ Sam a (mx_lp 6 (Pa_puts st s r) x) ∧ Qs st s r a (mx_lp 6 (Pa_puts st s r) x) K c ∧ (mx_lp 6 (Pa_puts st s r) x) 165 8 = x 165 8 + sI K (fun k => sI 6 (cxx st s r a (c k))) ∧ (mx_lp 6 (Pa_puts st s r) x) 165 9 = x 165 9 + sI K (fun k => sI 6 (cdd st s r a (c k))) ∧
    (∀ P, bs (x 165 10) P → bs ((mx_lp 6 (Pa_puts st s r) x) 165 10) (fun q => P q ∨ ∃ k, k < K ∧ c k = q ∧ ¬ Pa_list st q a &&& nI 64 = 0 ∧ ¬ q = s)) ∧ ∀ j, j ≠ 7 → j ≠ 8 → j ≠ 9 → j ≠ 10 → (mx_lp 6 (Pa_puts st s r) x) 165 j = x 165 j := by
  have h := lp_inv (f := Pa_puts st s r) (fun i (w : mx_Mm) => Sam a w ∧ ∃ K c, Qs st s r a w K c ∧ (∀ k, k < K → S0 (c k) ∨ ∃ j, j < k ∧ j < i ∧ cgo st s r a (c j) (c k)) ∧ (∀ q, q < 6 → S0 q → ∃ k, k < K ∧ c k = q) ∧ (∀ k n, k < i → k < K → n < 6 → cgo st s r a (c k) n → ∃ j, j < K ∧ c j = n) ∧ w 165 8 = x 165 8 + sI (min i K) (fun k => sI 6 (cxx st s r a (c k))) ∧ w 165 9 = x 165 9 + sI (min i K) (fun k => sI 6 (cdd st s r a (c k))) ∧ (∀ P, bs (x 165 10) P → bs (w 165 10) (fun q => P q ∨ ∃ k, k < i ∧ k < K ∧ c k = q ∧ ¬ Pa_list st q a &&& nI 64 = 0 ∧ ¬ q = s)) ∧ ∀ j, j ≠ 7 → j ≠ 8 → j ≠ 9 → j ≠ 10 → w 165 j = x 165 j) 6 (m := x) ⟨hs, K0, c0, hQ, fun k hk => Or.inl (hS k hk), hS1, fun k n hk => absurd hk (Nat.not_lt_zero _), by rw [Nat.zero_min]; exact (Int32.add_zero _).symm, by rw [Nat.zero_min]; exact (Int32.add_zero _).symm, fun P hP => bs_cg hP (fun q _ => ⟨Or.inl, fun z => z.elim id (fun ⟨k, hk, _⟩ => absurd hk (Nat.not_lt_zero _))⟩), fun _ _ _ _ _ => rfl⟩ (fun i w hi hI => by
    obtain ⟨w1, K, c, q, par, sta, clo, w8, w9, w10, wj⟩ := hI
    have hK := q.2.1
    show Sam a (Pa_puts st s r i w) ∧ _
    unfold Pa_puts
    by_cases hlt : nI i < w 165 7
    · rw [if_pos hlt]
      have hiK : i < K := by
        rw [q.1] at hlt
        exact (nI_ltI (by omega) (by omega)).mp hlt
      obtain ⟨p1, ⟨K', c', k1, k2, k3, k4, k5⟩, p8, p9, p10, pj⟩ := put_step hst w1 q hiK (fun n hn hg j hj e => by
        have hfr : cfr st s r a (c j) = nI (c i) := by rw [e]; exact hg.2.2
        have hci := (q.2.2.1 i hiK).1
        rcases par j hj with z | ⟨j', h1, h2, h3⟩
        · rw [hSf _ z] at hfr; exact absurd hfr.symm (pm_nI_m1 (by omega))
        · have e2 : cfr st s r a (c j) = nI (c j') := h3.2.2
          have hcj := (q.2.2.1 j' (by omega)).1
          rw [hfr] at e2
          have e3 : c i = c j' := (nI_eq (by omega) (by omega)).mp e2
          exact q.2.2.2 j' i h2 hiK e3.symm)
      have hm1 : min i K = i := Nat.min_eq_left (by omega)
      have hm2 : min (i + 1) K' = i + 1 := Nat.min_eq_left (by omega)
      refine ⟨p1, K', c', k3, fun k hk => ?_, fun z hz hz0 => ?_, fun k n hk1 hk2 hn hg => ?_, ?_, ?_, fun P hP => ?_, fun j j1 j2 j3 j4 => (pj j j1 j2 j3 j4).trans (wj j j1 j2 j3 j4)⟩
      · by_cases e : k < K
        · rcases par k e with z | ⟨j, h1, h2, h3⟩
          · rw [k2 k e]; exact Or.inl z
          · refine Or.inr ⟨j, h1, by omega, ?_⟩
            rw [k2 k e, k2 j (by omega)]; exact h3
        · refine Or.inr ⟨i, by omega, by omega, ?_⟩
          rw [k2 i hiK]; exact k4 k (by omega) hk
      · obtain ⟨k, hk, e⟩ := sta z hz hz0
        exact ⟨k, by omega, (k2 k hk).trans e⟩
      · by_cases e : k = i
        · subst e
          rw [k2 k hiK] at hg
          exact k5 n hn hg
        · rw [k2 k (by omega)] at hg
          obtain ⟨j, hj, ej⟩ := clo k n (by omega) (by omega) hn hg
          exact ⟨j, by omega, (k2 j hj).trans ej⟩
      · rw [p8, w8, hm1, hm2, Int32.add_assoc]
        refine congrArg (fun z => x 165 8 + z) ?_
        show _ = sI i (fun k => sI 6 (cxx st s r a (c' k))) + sI 6 (cxx st s r a (c' i))
        rw [k2 i hiK]
        refine congrArg (fun z => z + sI 6 (cxx st s r a (c i))) ?_
        exact sg_cg i (fun k hk => by rw [k2 k (by omega)])
      · rw [p9, w9, hm1, hm2, Int32.add_assoc]
        refine congrArg (fun z => x 165 9 + z) ?_
        show _ = sI i (fun k => sI 6 (cdd st s r a (c' k))) + sI 6 (cdd st s r a (c' i))
        rw [k2 i hiK]
        refine congrArg (fun z => z + sI 6 (cdd st s r a (c i))) ?_
        exact sg_cg i (fun k hk => by rw [k2 k (by omega)])
      · rw [p10]
        have hb := w10 P hP
        have hci := (q.2.2.1 i hiK).1
        have old : ∀ v, (∃ k, k < i ∧ k < K ∧ c k = v ∧ ¬ Pa_list st v a &&& nI 64 = 0 ∧ ¬ v = s) → ∃ k, k < i + 1 ∧ k < K' ∧ c' k = v ∧ ¬ Pa_list st v a &&& nI 64 = 0 ∧ ¬ v = s := fun v ⟨k, h1, h2, h3, h4⟩ => ⟨k, by omega, by omega, (k2 k h2).trans h3, h4⟩
        by_cases t : ¬ Pa_list st (c i) a &&& nI 64 = 0 ∧ ¬ c i = s
        · rw [if_pos t]
          refine bs_cg (bs_or hb (bs_bit (by omega))) (fun v _ => ⟨fun z => ?_, fun z => ?_⟩)
          · rcases z with (z | z) | z
            · exact Or.inl z
            · exact Or.inr (old v z)
            · exact Or.inr ⟨i, by omega, by omega, (k2 i hiK).trans z.symm, by rw [z]; exact t⟩
          · rcases z with z | ⟨k, h1, h2, h3, h4⟩
            · exact Or.inl (Or.inl z)
            · by_cases e : k = i
              · subst e; rw [k2 k hiK] at h3; exact Or.inr h3.symm
              · rw [k2 k (by omega)] at h3
                exact Or.inl (Or.inr ⟨k, by omega, by omega, h3, h4⟩)
        · rw [if_neg t]
          refine bs_cg hb (fun v _ => ⟨fun z => z.imp id (old v), fun z => ?_⟩)
          rcases z with z | ⟨k, h1, h2, h3, h4⟩
          · exact Or.inl z
          · by_cases e : k = i
            · subst e
              rw [k2 k hiK] at h3
              rw [← h3] at h4
              exact absurd h4 t
            · rw [k2 k (by omega)] at h3
              exact Or.inr ⟨k, by omega, by omega, h3, h4⟩
    · rw [if_neg hlt]
      have hiK : K ≤ i := by
        rw [q.1] at hlt
        have := mt (nI_ltI (a := i) (b := K) (by omega) (by omega)).mpr hlt
        omega
      have hm1 : min i K = K := Nat.min_eq_right hiK
      have hm2 : min (i + 1) K = K := Nat.min_eq_right (by omega)
      rw [hm1] at w8 w9
      refine ⟨w1, K, c, q, fun k hk => (par k hk).imp id (fun ⟨j, h1, h2, h3⟩ => ⟨j, h1, by omega, h3⟩), sta, fun k n _ hk => clo k n (by omega) hk, by rw [hm2]; exact w8, by rw [hm2]; exact w9, fun P hP => bs_cg (w10 P hP) (fun v _ => or_congr Iff.rfl ⟨fun ⟨k, h1, h2⟩ => ⟨k, by omega, h2⟩, fun ⟨k, h1, h2, h3⟩ => ⟨k, by omega, h2, h3⟩⟩), wj⟩)
  obtain ⟨w1, K, c, q, par, sta, clo, w8, w9, w10, wj⟩ := h
  have hK := q.2.1
  rw [Nat.min_eq_right hK] at w8 w9
  refine ⟨K, c, ⟨hK, fun k hk => (q.2.2.1 k hk).1, q.2.2.2, fun k hk => (par k hk).imp id (fun ⟨j, h1, h2, h3⟩ => ⟨j, h1, h3⟩), sta, fun k n hk hn hg => clo k n (by omega) hk hn hg⟩, w1, q, w8, w9, fun P hP => bs_cg (w10 P hP) (fun v _ => or_congr Iff.rfl ⟨fun ⟨k, h1, h2⟩ => ⟨k, h2⟩, fun ⟨k, h2⟩ => ⟨k, by omega, h2⟩⟩), wj⟩
