/-! the reference's packets: the sweeps -/
abbrev rad (st : Nat) (z : mx_Mm) (q n : Nat) : Prop := Mo_pin q n st z
def rfr (st s r : Nat) (z : mx_Mm) (q : Nat) : Int32 := if q = s then -1 else Mo_side r s st q z
abbrev rgo (st s r : Nat) (z : mx_Mm) (q n : Nat) : Prop := rad st z q n ∧ ¬ nI n = rfr st s r z q ∧ rfr st s r z n = nI q
def rxx (st s r : Nat) (z : mx_Mm) (q n : Nat) : Int32 := if rad st z q n ∧ ¬ nI n = rfr st s r z q then nI 1 else 0
def rdd (st s r : Nat) (z : mx_Mm) (q n : Nat) : Int32 := if rad st z q n ∧ ¬ nI n = rfr st s r z q ∧ ¬ rfr st s r z n = nI q then nI 1 else 0
def Sar (z x : mx_Mm) : Prop := ∀ p j, p ≠ 203 → p ≠ 204 → p ≠ 205 → ¬ (p = 185 ∧ 19 ≤ j ∧ j < 22) → x p j = z p j
theorem Sar.dep {z x : mx_Mm} (h : Sar z x) : ∀ p j, Mo_dep p j → x p j = z p j := fun p j hd => by
  unfold Mo_dep at hd
  exact h p j (by omega) (by omega) (by omega) (by omega)
theorem Sar.pin {z x : mx_Mm} (h : Sar z x) {q n st : Nat} : Mo_pin q n st x ↔ Mo_pin q n st z := by
  unfold Mo_pin
  rw [h 199 _ (by decide) (by decide) (by decide) (by omega), Mo_in_cg h.dep, Mo_out_cg h.dep]
theorem Sar.tk {z x : mx_Mm} (h : Sar z x) {r s st n q : Nat} (hn : n < 6) (hs : s < 6) (hq : q < 6) : (¬ nI n = nI s ∧ Mo_side r s st n x = nI q) ↔ rfr st s r z n = nI q := by
  have e : Mo_side r s st n x = Mo_side r s st n z := by
    unfold Mo_side
    rw [h 199 _ (by decide) (by decide) (by decide) (by omega), h 188 _ (by decide) (by decide) (by decide) (by omega), h 188 _ (by decide) (by decide) (by decide) (by omega)]
  rw [e, nIs hn hs]
  unfold rfr
  by_cases d : n = s
  · rw [if_pos d]
    exact ⟨fun w => absurd d w.1, fun w => absurd w.symm (pm_nI_m1 (by omega))⟩
  · rw [if_neg d]
    exact ⟨fun w => w.2, fun w => ⟨d, w⟩⟩
theorem Sar.u {z x : mx_Mm} (h : Sar z x) {p k : Nat} {v : Int32} (hp : p = 203 ∨ p = 204 ∨ p = 205 ∨ (p = 185 ∧ 19 ≤ k ∧ k < 22)) : Sar z (mx_up x p k v) := fun q j h1 h2 h3 h4 => by
  rw [up_ne (by omega)]
  exact h q j h1 h2 h3 h4
/-- one neighbour -/
theorem mpo2_step {st s r q n : Nat} {z x : mx_Mm} (hs : s < 6) (hq : q < 6) (hn : n < 6) (h : Sar z x) (hf : x 205 q = rfr st s r z q) :
    Sar z (Mo_po2 r q s st n x) ∧ (∀ j, (¬ (Mo_po2 r q s st n x) 203 j = 0) ↔ (¬ x 203 j = 0 ∨ (j = n ∧ rgo st s r z q n))) ∧ (∀ j, (Mo_po2 r q s st n x) 204 j = x 204 j) ∧ (∀ j, (Mo_po2 r q s st n x) 205 j = if j = n ∧ rgo st s r z q n then nI q else x 205 j) ∧
    (Mo_po2 r q s st n x) 185 19 = x 185 19 + rxx st s r z q n ∧ (Mo_po2 r q s st n x) 185 20 = x 185 20 + rdd st s r z q n ∧ (Mo_po2 r q s st n x) 185 21 = x 185 21 := by
  unfold Mo_po2
  have hx : (Mo_pin q n st x ∧ ¬ nI n = x 205 q) ↔ (rad st z q n ∧ ¬ nI n = rfr st s r z q) := by rw [h.pin, hf]
  by_cases d : Mo_pin q n st x ∧ ¬ nI n = x 205 q
  · have d' := hx.mp d
    rw [if_pos d]
    have ex : rxx st s r z q n = nI 1 := if_pos d'
    have h1 : Sar z (Mo_x1 x) := h.u (by omega)
    have o1 : ∀ p j, ¬ (p = 185 ∧ j = 19) → (Mo_x1 x) p j = x p j := fun p j hp => up_ne hp
    have e19 : (Mo_x1 x) 185 19 = x 185 19 + nI 1 := up_same _ _ _ _
    generalize Mo_x1 x = y at h1 o1 e19 ⊢
    unfold Mo_xs
    by_cases t : ¬ nI n = nI s ∧ Mo_side r s st n y = nI q
    · have t' := (h1.tk hn hs hq).mp t
      have hg : rgo st s r z q n := ⟨d'.1, d'.2, t'⟩
      have ed : rdd st s r z q n = 0 := if_neg (fun w => w.2.2 t')
      rw [if_pos t]
      refine ⟨(h1.u (by omega)).u (by omega), fun j => ?_, fun j => ?_, fun j => ?_, ?_, ?_, ?_⟩
      · rw [up_neP (by decide)]
        by_cases e : j = n
        · rw [e, up_same]
          exact ⟨fun _ => Or.inr ⟨rfl, hg⟩, fun _ => n10⟩
        · rw [up_neK e, o1 203 j (by omega)]
          exact ⟨Or.inl, fun w => w.elim id (fun k => absurd k.1 e)⟩
      · rw [up_neP (by decide), up_neP (by decide), o1 204 j (by omega)]
      · by_cases e : j = n
        · rw [if_pos ⟨e, hg⟩, e, up_same]
        · rw [if_neg (fun w => e w.1), up_neK e, up_neP (by decide), o1 205 j (by omega)]
      · rw [up_neP (by decide), up_neP (by decide), e19, ex]
      · rw [up_neP (by decide), up_neP (by decide), o1 185 20 (by omega), ed, Int32.add_zero]
      · rw [up_neP (by decide), up_neP (by decide), o1 185 21 (by omega)]
    · have t' : ¬ rfr st s r z n = nI q := fun w => t ((h1.tk hn hs hq).mpr w)
      have hg : ¬ rgo st s r z q n := fun w => t' w.2.2
      have ed : rdd st s r z q n = nI 1 := if_pos ⟨d'.1, d'.2, t'⟩
      rw [if_neg t]
      unfold Mo_x2
      refine ⟨h1.u (by omega), fun j => ?_, fun j => ?_, fun j => ?_, ?_, ?_, ?_⟩
      · rw [up_neP (by decide), o1 203 j (by omega)]
        exact ⟨Or.inl, fun w => w.elim id (fun k => absurd k.2 hg)⟩
      · rw [up_neP (by decide), o1 204 j (by omega)]
      · rw [up_neP (by decide), o1 205 j (by omega), if_neg (fun w => hg w.2)]
      · rw [up_neK (by decide), e19, ex]
      · rw [up_same, o1 185 20 (by omega), ed]
      · rw [up_neK (by decide), o1 185 21 (by omega)]
  · have d' : ¬ (rad st z q n ∧ ¬ nI n = rfr st s r z q) := fun w => d (hx.mpr w)
    have hg : ¬ rgo st s r z q n := fun w => d' ⟨w.1, w.2.1⟩
    have ex : rxx st s r z q n = 0 := if_neg d'
    have ed : rdd st s r z q n = 0 := if_neg (fun w => d' ⟨w.1, w.2.1⟩)
    rw [if_neg d, ex, ed, Int32.add_zero, Int32.add_zero]
    refine ⟨h, fun j => ⟨Or.inl, fun w => w.elim id (fun k => absurd k.2 hg)⟩, fun _ => rfl, fun j => ?_, rfl, rfl, rfl⟩
    rw [if_neg (fun w => hg w.2)]
/-- a router puts the packet out -/
theorem mput_step {st s r q : Nat} {z x : mx_Mm} (hs : s < 6) (hq : q < 6) (h : Sar z x) (hf : x 205 q = rfr st s r z q) (hqq : ¬ rfr st s r z q = nI q) :
    Sar z (Mo_put r q s st x) ∧ (∀ j, j < 6 → ((¬ (Mo_put r q s st x) 203 j = 0) ↔ (¬ x 203 j = 0 ∨ rgo st s r z q j))) ∧ (∀ j, (Mo_put r q s st x) 204 j = if j = q then nI 1 else x 204 j) ∧ (∀ j, j < 6 → (Mo_put r q s st x) 205 j = if rgo st s r z q j then nI q else x 205 j) ∧
    (Mo_put r q s st x) 185 19 = x 185 19 + sI 6 (rxx st s r z q) ∧ (Mo_put r q s st x) 185 20 = x 185 20 + sI 6 (rdd st s r z q) ∧ (Mo_put r q s st x) 185 21 = if Mo_on q (st % 3) z ∧ ¬ q = s then x 185 21 ||| bit q else x 185 21 := by
  have p1 : ∀ p j, p ≠ 204 → ¬ (p = 185 ∧ j = 21) → (Mo_po1 q s st (Mo_po0 q x)) p j = x p j := fun p j h1 h2 => by
    unfold Mo_po1 Mo_rb Mo_po0
    split
    · rw [up_ne h2, up_neP h1]
    · rw [up_neP h1]
  have p4 : ∀ j, (Mo_po1 q s st (Mo_po0 q x)) 204 j = if j = q then nI 1 else x 204 j := fun j => by
    have e : (Mo_po1 q s st (Mo_po0 q x)) 204 j = (Mo_po0 q x) 204 j := by
      unfold Mo_po1 Mo_rb
      split
      · rw [up_neP (by decide)]
      · rfl
    rw [e]
    unfold Mo_po0
    by_cases d : j = q
    · rw [if_pos d, d, up_same]
    · rw [if_neg d, up_neK d]
  have h0 : Sar z (Mo_po0 q x) := h.u (by omega)
  have p21 : (Mo_po1 q s st (Mo_po0 q x)) 185 21 = if Mo_on q (st % 3) z ∧ ¬ q = s then x 185 21 ||| bit q else x 185 21 := by
    have e0 : (Mo_po0 q x) 185 21 = x 185 21 := up_neP (by decide)
    unfold Mo_po1
    have hc : (Mo_on q (st % 3) (Mo_po0 q x) ∧ ¬ nI q = nI s) ↔ (Mo_on q (st % 3) z ∧ ¬ q = s) := by
      rw [Mo_on_cg h0.dep, nIs hq hs]
    by_cases d : Mo_on q (st % 3) (Mo_po0 q x) ∧ ¬ nI q = nI s
    · rw [if_pos d, if_pos (hc.mp d)]
      unfold Mo_rb
      rw [up_same, e0]
    · rw [if_neg d, if_neg (fun w => d (hc.mpr w)), e0]
  have hp : Sar z (Mo_po1 q s st (Mo_po0 q x)) := by
    unfold Mo_po1 Mo_rb
    split
    · exact h0.u (by omega)
    · exact h0
  unfold Mo_put
  generalize Mo_po1 q s st (Mo_po0 q x) = y at p1 p4 p21 hp ⊢
  have hi := lp_inv (f := Mo_po2 r q s st) (fun i (w : mx_Mm) => Sar z w ∧ (∀ j, (¬ w 203 j = 0) ↔ (¬ x 203 j = 0 ∨ (j < i ∧ rgo st s r z q j))) ∧ (∀ j, w 204 j = y 204 j) ∧ (∀ j, w 205 j = if j < i ∧ rgo st s r z q j then nI q else x 205 j) ∧ w 185 19 = x 185 19 + sI i (rxx st s r z q) ∧ w 185 20 = x 185 20 + sI i (rdd st s r z q) ∧ w 185 21 = y 185 21) 6 (m := y) ⟨hp, fun j => by rw [p1 203 j (by decide) (by omega)]; exact ⟨Or.inl, fun w => w.elim id (fun k => absurd k.1 (Nat.not_lt_zero _))⟩, fun _ => rfl, fun j => by rw [if_neg (fun w => absurd w.1 (Nat.not_lt_zero _)), p1 205 j (by decide) (by omega)], by rw [p1 185 19 (by decide) (by omega)]; exact (Int32.add_zero _).symm, by rw [p1 185 20 (by decide) (by omega)]; exact (Int32.add_zero _).symm, rfl⟩ (fun i w hi hI => by
    obtain ⟨w1, w3, w4, w5, w19, w20, w21⟩ := hI
    have hfq : w 205 q = rfr st s r z q := by
      rw [w5 q, if_neg (fun k => hqq k.2.2.2)]
      exact hf
    obtain ⟨v1, v3, v4, v5, v19, v20, v21⟩ := mpo2_step (n := i) hs hq hi w1 hfq
    refine ⟨v1, fun j => ?_, fun j => (v4 j).trans (w4 j), fun j => ?_, ?_, ?_, v21.trans w21⟩
    · rw [v3 j, w3 j]
      constructor
      · rintro ((k | k) | k)
        · exact Or.inl k
        · exact Or.inr ⟨by omega, k.2⟩
        · exact Or.inr ⟨by omega, by rw [k.1]; exact k.2⟩
      · rintro (k | k)
        · exact Or.inl (Or.inl k)
        · by_cases e : j = i
          · exact Or.inr ⟨e, by rw [← e]; exact k.2⟩
          · exact Or.inl (Or.inr ⟨by omega, k.2⟩)
    · rw [v5 j, w5 j]
      by_cases e : j = i
      · subst e
        by_cases g : rgo st s r z q j
        · rw [if_pos ⟨rfl, g⟩, if_pos ⟨by omega, g⟩]
        · rw [if_neg (fun k => g k.2), if_neg (fun k => g k.2), if_neg (fun k => g k.2)]
      · rw [if_neg (fun k => e k.1)]
        exact ite_iff ⟨fun k => ⟨by omega, k.2⟩, fun k => ⟨by omega, k.2⟩⟩ rfl rfl
    · rw [v19, w19, Int32.add_assoc]; rfl
    · rw [v20, w20, Int32.add_assoc]; rfl)
  obtain ⟨w1, w3, w4, w5, w19, w20, w21⟩ := hi
  refine ⟨w1, fun j hj => ?_, fun j => (w4 j).trans (p4 j), fun j hj => ?_, w19, w20, w21.trans p21⟩
  · rw [w3 j]
    exact or_congr Iff.rfl ⟨fun k => k.2, fun k => ⟨hj, k⟩⟩
  · rw [w5 j]
    exact ite_iff ⟨fun k => k.2, fun k => ⟨hj, k⟩⟩ rfl rfl
/-- what the sweeps keep -/
def Rsw (st s r : Nat) (S0 : Nat → Prop) (K : Nat) (c : Nat → Nat) (z x : mx_Mm) : Prop := Sar z x ∧ (∀ q, q < 6 → ¬ x 203 q = 0 → (∃ k, k < K ∧ c k = q) ∧ x 205 q = rfr st s r z q) ∧ (∀ q, q < 6 → S0 q → ¬ x 203 q = 0) ∧ (∀ q, q < 6 → ¬ x 204 q = 0 → ¬ x 203 q = 0) ∧ (∀ q n, q < 6 → n < 6 → ¬ x 204 q = 0 → rgo st s r z q n → ¬ x 203 n = 0) ∧
  x 185 19 = sI 6 (fun q => if ¬ x 204 q = 0 then sI 6 (rxx st s r z q) else 0) ∧ x 185 20 = sI 6 (fun q => if ¬ x 204 q = 0 then sI 6 (rdd st s r z q) else 0) ∧ bs (x 185 21) (fun q => q < 6 ∧ ¬ x 204 q = 0 ∧ Mo_on q (st % 3) z ∧ ¬ q = s)
theorem sI_set (X : Nat → Int32) {P Q : Nat → Prop} [∀ q, Decidable (P q)] [∀ q, Decidable (Q q)] {c : Nat} (hc : c < 6) (hP : ¬ P c) (hQ : ∀ q, Q q ↔ (P q ∨ q = c)) : sI 6 (fun q => if Q q then X q else 0) = sI 6 (fun q => if P q then X q else 0) + X c := by
  have h1 := sI_one X c 6
  rw [if_pos hc] at h1
  rw [← h1, ← sI_add]
  refine sg_cg 6 (fun q hq => ?_)
  by_cases e : q = c
  · rw [if_pos ((hQ q).mpr (Or.inr e)), if_neg (by rw [e]; exact hP), if_pos e, Int32.zero_add]
  · rw [if_neg e, Int32.add_zero]
    exact ite_iff ⟨fun k => ((hQ q).mp k).elim id (fun w => absurd w e), fun k => (hQ q).mpr (Or.inl k)⟩ rfl rfl
theorem q1_step {st s r K q : Nat} {S0 : Nat → Prop} {c : Nat → Nat} {z x : mx_Mm} (hs : s < 6) (hq : q < 6) (hqq : ∀ q, q < 6 → ¬ rfr st s r z q = nI q) (hC : Chn S0 (rgo st s r z) K c) (h : Rsw st s r S0 K c z x) :
    Rsw st s r S0 K c z (Mo_q1 r s st q x) ∧ (∀ j, j < 6 → ¬ x 203 j = 0 → ¬ (Mo_q1 r s st q x) 203 j = 0) ∧ (∀ j, j < 6 → ¬ x 204 j = 0 → ¬ (Mo_q1 r s st q x) 204 j = 0) ∧ (¬ x 203 q = 0 → ¬ (Mo_q1 r s st q x) 204 q = 0) := by
  unfold Mo_q1
  by_cases d : ¬ x 203 q = 0 ∧ x 204 q = 0
  · rw [if_pos d]
    obtain ⟨h1, h2, h3, h4, h5, h19, h20, h21⟩ := h
    obtain ⟨⟨k0, hk0, ek0⟩, hf⟩ := h2 q hq d.1
    obtain ⟨v1, v3, v4, v5, v19, v20, v21⟩ := mput_step (r := r) (st := st) hs hq h1 hf (hqq q hq)
    generalize Mo_put r q s st x = y at v1 v3 v4 v5 v19 v20 v21 ⊢
    have y4 : ∀ j, (¬ y 204 j = 0) ↔ (¬ x 204 j = 0 ∨ j = q) := fun j => by
      rw [v4 j]
      by_cases e : j = q
      · rw [if_pos e]; exact ⟨fun _ => Or.inr e, fun _ => n10⟩
      · rw [if_neg e]; exact ⟨Or.inl, fun k => k.elim id (fun w => absurd w e)⟩
    have np : ¬ ¬ x 204 q = 0 := fun w => w d.2
    refine ⟨⟨v1, fun j hj hc => ?_, fun j hj hS => (v3 j hj).mpr (Or.inl (h3 j hj hS)), fun j hj hc => ?_, fun j n hj hn hc hg => ?_, ?_, ?_, ?_⟩, fun j hj hc => (v3 j hj).mpr (Or.inl hc), fun j hj hc => (y4 j).mpr (Or.inl hc), fun _ => (y4 q).mpr (Or.inr rfl)⟩
    · by_cases g : rgo st s r z q j
      · refine ⟨?_, ?_⟩
        · rw [← ek0] at g
          exact hC.2.2.2.2.2 k0 j hk0 hj g
        · rw [v5 j hj, if_pos g]; exact g.2.2.symm
      · rw [v5 j hj, if_neg g]
        rcases (v3 j hj).mp hc with k | k
        · exact h2 j hj k
        · exact absurd k g
    · rcases (y4 j).mp hc with k | k
      · exact (v3 j hj).mpr (Or.inl (h4 j hj k))
      · rw [k]; exact (v3 q hq).mpr (Or.inl d.1)
    · rcases (y4 j).mp hc with k | k
      · exact (v3 n hn).mpr (Or.inl (h5 j n hj hn k hg))
      · rw [k] at hg; exact (v3 n hn).mpr (Or.inr hg)
    · rw [v19, h19]
      exact (sI_set (fun q => sI 6 (rxx st s r z q)) (P := fun q => ¬ x 204 q = 0) (Q := fun q => ¬ y 204 q = 0) hq np y4).symm
    · rw [v20, h20]
      exact (sI_set (fun q => sI 6 (rdd st s r z q)) (P := fun q => ¬ x 204 q = 0) (Q := fun q => ¬ y 204 q = 0) hq np y4).symm
    · rw [v21]
      by_cases t : Mo_on q (st % 3) z ∧ ¬ q = s
      · rw [if_pos t]
        refine bs_cg (bs_or h21 (bs_bit (by omega))) (fun j _ => ⟨fun k => ?_, fun k => ?_⟩)
        · rcases k with k | k
          · exact ⟨k.1, (y4 j).mpr (Or.inl k.2.1), k.2.2⟩
          · exact ⟨by omega, (y4 j).mpr (Or.inr k), by rw [k]; exact t⟩
        · rcases (y4 j).mp k.2.1 with w | w
          · exact Or.inl ⟨k.1, w, k.2.2⟩
          · exact Or.inr w
      · rw [if_neg t]
        refine bs_cg h21 (fun j _ => ⟨fun k => ⟨k.1, (y4 j).mpr (Or.inl k.2.1), k.2.2⟩, fun k => ?_⟩)
        rcases (y4 j).mp k.2.1 with w | w
        · exact ⟨k.1, w, k.2.2⟩
        · rw [w] at k; exact absurd k.2.2 t
  · rw [if_neg d]
    exact ⟨h, fun _ _ k => k, fun _ _ k => k, fun k w => d ⟨k, w⟩⟩
/-- all sweeps: the carriers are the chain's, and all put it out -/
theorem pD_spec {st s r K : Nat} {S0 : Nat → Prop} {c : Nat → Nat} {z : mx_Mm} (hs : s < 6) (hqq : ∀ q, q < 6 → ¬ rfr st s r z q = nI q) (hC : Chn S0 (rgo st s r z) K c) (h : Rsw st s r S0 K c z z) :
    Rsw st s r S0 K c z (Mo_pD r s st z) ∧ ∀ k, k < K → ¬ (Mo_pD r s st z) 204 (c k) = 0 := by
  have h := lp_inv (f := fun _ => mx_lp 6 (Mo_q1 r s st)) (fun i (x : mx_Mm) => Rsw st s r S0 K c z x ∧ ∀ k, k < i → k < K → ¬ x 204 (c k) = 0) 6 (m := z) ⟨h, fun k hk => absurd hk (Nat.not_lt_zero _)⟩ (fun i x hi hI => by
    obtain ⟨x1, x2⟩ := hI
    by_cases hiK : i < K
    · have hci := hC.2.1 i hiK
      have hcar : ¬ x 203 (c i) = 0 := by
        rcases hC.2.2.2.1 i hiK with k | ⟨j, hj, k⟩
        · exact x1.2.2.1 _ hci k
        · exact x1.2.2.2.2.1 _ _ (hC.2.1 j (by omega)) hci (x2 j hj (by omega)) k
      have g := lp_inv (f := Mo_q1 r s st) (fun i' (w : mx_Mm) => Rsw st s r S0 K c z w ∧ (∀ k, k < i → k < K → ¬ w 204 (c k) = 0) ∧ ¬ w 203 (c i) = 0 ∧ (c i < i' → ¬ w 204 (c i) = 0)) 6 (m := x) ⟨x1, x2, hcar, fun k => absurd k (Nat.not_lt_zero _)⟩ (fun q w hq hW => by
        obtain ⟨w1, w2, w3, w4⟩ := hW
        obtain ⟨s1, s2, s3, s4⟩ := q1_step (r := r) (st := st) hs hq hqq hC w1
        refine ⟨s1, fun k hk hkK => s3 _ (hC.2.1 k hkK) (w2 k hk hkK), s2 _ hci w3, fun hlt => ?_⟩
        by_cases e : c i = q
        · rw [e]; exact s4 (by rw [← e]; exact w3)
        · exact s3 _ hci (w4 (by omega)))
      refine ⟨g.1, fun k hk hkK => ?_⟩
      by_cases e : k = i
      · rw [e]; exact g.2.2.2 hci
      · exact g.2.1 k (by omega) hkK
    · have g := lp_inv (f := Mo_q1 r s st) (fun i' (w : mx_Mm) => Rsw st s r S0 K c z w ∧ ∀ k, k < K → ¬ w 204 (c k) = 0) 6 (m := x) ⟨x1, fun k hk => x2 k (by omega) hk⟩ (fun q w hq hW => by
        obtain ⟨w1, w2⟩ := hW
        obtain ⟨s1, s2, s3, s4⟩ := q1_step (r := r) (st := st) hs hq hqq hC w1
        exact ⟨s1, fun k hkK => s3 _ (hC.2.1 k hkK) (w2 k hkK)⟩)
      exact ⟨g.1, fun k _ hkK => g.2 k hkK⟩)
  exact ⟨h.1, fun k hk => h.2 k (by have := hC.1; omega) hk⟩
