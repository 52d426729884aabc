/-! the class's settling: one pass -/
def Nt (a : mx_Mm) : Prop := pm_c (mc a) ∧ Rl a (pm_F (mc a)) ∧ (∀ x t, x < 6 → t < 6 → a (21 + x) t = pm_N (mc a) (pm_F (mc a)) x t) ∧ ∀ t, t < 6 → Or_n t 6 a
theorem Nt.nx {a : mx_Mm} (h : Nt a) {t n : Nat} (ht : t < 6) (hn : n < 6) : rng6 (a (21 + n) t) := by
  rw [h.2.2.1 n t hn ht]
  rcases pm_N_cases (mc a) (pm_F (mc a)) n t with e | ⟨k, hk, e⟩
  · exact Or.inl e
  · exact Or.inr ⟨k, hk, e⟩
theorem Nt.inj {a : mx_Mm} (h : Nt a) {t : Nat} (ht : t < 6) {i k : Nat} (hik : i < k) (hk : k < 6) : tn (a (28 + t) i) ≠ tn (a (28 + t) k) := cov_inj (o := fun k => tn (a (28 + t) k)) (h.2.2.2 t ht).1 (h.2.2.2 t ht).2.1 hik hk
/-- the next router comes later in the order -/
theorem Nt.later {a : mx_Mm} (h : Nt a) {t : Nat} (ht : t < 6) {i k : Nat} (hi : i < 6) (hk : k < 6) (e : a (21 + tn (a (28 + t) i)) t = nI (tn (a (28 + t) k))) : i < k := by
  obtain ⟨hc, hl, hx, ho⟩ := h
  obtain ⟨o1, o2, o3⟩ := ho t ht
  rw [hx _ _ (o1 i hi) ht] at e
  have h1 := pm_near hc (pm_F_ok hc) (o1 i hi) ht (o1 k hk) e
  rw [← hl _ _ (o1 k hk) ht, ← hl _ _ (o1 i hi) ht] at h1
  rcases Nat.lt_trichotomy i k with q | q | q
  · exact q
  · subst q; exact absurd h1 Int32.lt_irrefl
  · exact absurd h1 (o3 k i q hi)
def ift (C : Prop) (x y v : Int32) : Prop := (C → v = x) ∧ (¬ C → v = y)
theorem ift_if {C D : Prop} [Decidable C] {x y : Int32} (h : C ↔ D) : ift D x y (if C then x else y) := ⟨fun d => if_pos (h.mpr d), fun d => if_neg (fun c => d (h.mp c))⟩
def dA (j k n : Nat) (x y : Int32) (c : mx_Mm) : Int32 := if x = y then 0 else (if ¬ x = -1 ∧ ¬ c n (tn x) = 0 ∧ j = k + 1 then nI 1 else 0) + (if ¬ y = -1 ∧ j = k then nI 1 else 0)
theorem dA_cg {j k n : Nat} {x y : Int32} {c d : mx_Mm} (hx : rng6 x) (h : ∀ b, b < 6 → c n b = d n b) : dA j k n x y c = dA j k n x y d := by
  unfold dA
  by_cases e : x = -1
  · simp [e]
  · rw [h _ (hx.tn e).2]
theorem Tr_cnt_4 {k j : Nat} {m : mx_Mm} : (Tr_cnt k m) 4 j = m 4 j + if j = k then nI 1 else 0 := by
  unfold Tr_cnt
  by_cases e : j = k
  · subst e; rw [up_same, if_pos rfl]
  · rw [up_neK e, if_neg e, Int32.add_zero]
theorem Tr_cnt_ne {k p j : Nat} {m : mx_Mm} (hp : p ≠ 4) : (Tr_cnt k m) p j = m p j := up_neP hp
theorem Tr_a1_ne {k n p j : Nat} {x : Int32} {m : mx_Mm} (hp : p ≠ 4) : (Tr_a1 k n x m) p j = m p j := by
  unfold Tr_a1
  split
  · rfl
  · split
    · exact Tr_cnt_ne hp
    · rfl
theorem Tr_ann_ne {k n p j : Nat} {x y : Int32} {m : mx_Mm} (hp : p ≠ 4) : (Tr_ann k n x y m) p j = m p j := by
  unfold Tr_ann Tr_a2
  split
  · rfl
  · split
    · exact Tr_a1_ne hp
    · rw [Tr_cnt_ne hp]; exact Tr_a1_ne hp
theorem Tr_a1_4 {k n j : Nat} {x : Int32} {m : mx_Mm} : (Tr_a1 k n x m) 4 j = m 4 j + if ¬ x = -1 ∧ ¬ m (7 + n) (tn x) = 0 ∧ j = k + 1 then nI 1 else 0 := by
  unfold Tr_a1
  split
  next h => rw [if_neg (fun z => z.1 h), Int32.add_zero]
  next h =>
    split
    next h2 =>
      rw [Tr_cnt_4]
      by_cases e : j = k + 1
      · rw [if_pos e, if_pos ⟨h, h2, e⟩]
      · rw [if_neg e, if_neg (fun z => e z.2.2)]
    next h2 => rw [if_neg (fun z => h2 z.2.1), Int32.add_zero]
theorem Tr_ann_4 {k n j : Nat} {x y : Int32} {m : mx_Mm} : (Tr_ann k n x y m) 4 j = m 4 j + dA j k n x y (mc m) := by
  unfold Tr_ann dA
  split
  · exact (Int32.add_zero _).symm
  · have e : (Tr_a2 k y (Tr_a1 k n x m)) 4 j = (Tr_a1 k n x m) 4 j + if ¬ y = -1 ∧ j = k then nI 1 else 0 := by
      unfold Tr_a2
      split
      next h => rw [if_neg (fun z => z.1 h), Int32.add_zero]
      next h =>
        rw [Tr_cnt_4]
        by_cases e : j = k
        · rw [if_pos e, if_pos ⟨h, e⟩]
        · rw [if_neg e, if_neg (fun z => e z.2)]
    rw [e, Tr_a1_4, Int32.add_assoc]
    rfl
theorem rng6_ix {x : Int32} {q : Nat} (h : rng6 x) (hq : q < 6) (hx : ¬ x = -1) : x = nI q ↔ q = tn x := by
  obtain ⟨e, hl⟩ := h.tn hx
  constructor
  · intro z; rw [z]; exact (tn_nI (by omega)).symm
  · intro z; rw [z]; exact e
/-! one turn of the shared pass -/
theorem s2_ne {g n p j : Nat} {x : Int32} {m : mx_Mm} (hp : p ≠ 85 + g) : (Tr_s2 g n x m) p j = m p j := by
  unfold Tr_s2
  split
  · rfl
  · exact up_neP hp
theorem s2_85 {g n q : Nat} {x : Int32} {m : mx_Mm} (hx : rng6 x) (hq : q < 6) : (Tr_s2 g n x m) (85 + g) q = if x = nI q then m (85 + g) q ||| bit n else m (85 + g) q := by
  unfold Tr_s2
  split
  next h => rw [if_neg (fun z => pm_nI_m1 (by omega) (z.symm.trans h))]
  next h =>
    by_cases e : q = tn x
    · rw [if_pos ((rng6_ix hx hq h).mpr e), e, up_same]
    · rw [if_neg (fun z => e ((rng6_ix hx hq h).mp z)), up_neK e]
theorem s1_ne {g r n p j : Nat} {m : mx_Mm} (h1 : p ≠ 4) (h2 : p ≠ 81 + g) (h3 : p ≠ 85 + g) : (Tr_s1 g r n m) p j = m p j := by
  unfold Tr_s1 Tr_s3
  rw [up_neP h2, Tr_ann_ne h1, s2_ne h3]
theorem s1_81 {g r n q : Nat} {m : mx_Mm} : (Tr_s1 g r n m) (81 + g) q = if q = n then Tr_at g r n m else m (81 + g) q := by
  unfold Tr_s1 Tr_s3
  by_cases e : q = n
  · rw [if_pos e, e, up_same]
  · rw [if_neg e, up_neK e, Tr_ann_ne (by omega), s2_ne (by omega)]
theorem s1_85 {g r n q : Nat} {m : mx_Mm} (hx : rng6 (Tr_at g r n m)) (hq : q < 6) : (Tr_s1 g r n m) (85 + g) q = if Tr_at g r n m = nI q then m (85 + g) q ||| bit n else m (85 + g) q := by
  unfold Tr_s1 Tr_s3
  rw [up_neP (by omega), Tr_ann_ne (by omega), s2_85 hx hq]
theorem mc_s2 {g n : Nat} {x : Int32} {m : mx_Mm} (hn : n < 6) {b : Nat} : mc (Tr_s2 g n x m) n b = mc m n b := s2_ne (by omega)
theorem s1_4 {g r n j : Nat} {m : mx_Mm} (hn : n < 6) (hx : rng6 (m (81 + g) n)) : (Tr_s1 g r n m) 4 j = m 4 j + dA j 0 n (m (81 + g) n) (Tr_at g r n m) (mc m) := by
  unfold Tr_s1 Tr_s3
  rw [up_neP (by omega), Tr_ann_4, s2_ne (by omega), s2_ne (by omega), dA_cg hx (fun b _ => mc_s2 hn)]
/-- the shared pass -/
theorem Tr_shared_spec {a : mx_Mm} {r g : Nat} (hN : Nt a) (hr : r < 6) (hg : g < 3) (hv : ∀ n, n < 6 → rng6 (a (81 + g) n)) :
    (∀ p j, p ≠ 4 → p ≠ 81 + g → p ≠ 85 + g → (Tr_shared g r a) p j = a p j) ∧
    (∀ n, n < 6 → ift (a 2 0 < a (43 + n) g ∨ ∃ q, q < 6 ∧ (Tr_shared g r a) (81 + g) q = nI n) (a (21 + n) r) (-1) ((Tr_shared g r a) (81 + g) n)) ∧
    (∀ n, n < 6 → bs ((Tr_shared g r a) (85 + g) n) (fun q => q < 6 ∧ (Tr_shared g r a) (81 + g) q = nI n)) ∧
    ∀ j, (Tr_shared g r a) 4 j = a 4 j + sI 6 (fun n => dA j 0 n (a (81 + g) n) ((Tr_shared g r a) (81 + g) n) (mc a)) := by
  obtain ⟨ob, os, -⟩ := hN.2.2.2 r hr
  have oi := fun i k (hik : i < k) (hk : k < 6) => hN.inj hr hik hk
  -- the memory at the start of the loop
  have f1 : ∀ p j, p ≠ 85 + g → (fill_m (85 + g) 6 (nI 0) a) p j = a p j := fun p j hp => lp_keep (fun x : mx_Mm => x p j = a p j) 6 rfl (fun i x _ h => (up_neP hp).trans h)
  have f2 : ∀ q, q < 6 → (fill_m (85 + g) 6 (nI 0) a) (85 + g) q = nI 0 := lp_inv (f := fun i m => mx_up m (85 + g) i (nI 0)) (fun i (x : mx_Mm) => ∀ q, q < i → x (85 + g) q = nI 0) 6 (m := a) (fun q hq => absurd hq (Nat.not_lt_zero _)) (fun i x hi h q hq => by
    by_cases e : q = i
    · subst e; exact up_same _ _ _ _
    · rw [up_neK e]; exact h q (by omega))
  show _ ∧ _ ∧ _ ∧ _
  unfold Tr_shared
  generalize fill_m (85 + g) 6 (nI 0) a = b at f1 f2 ⊢
  let I : mx_Mm → Prop := fun x => ∀ p j, p ≠ 4 → p ≠ 81 + g → p ≠ 85 + g → x p j = a p j
  have I0 : I b := fun p j _ _ h3 => f1 p j h3
  have ord : ∀ x, I x → ∀ k, tn (x (28 + r) k) = tn (a (28 + r) k) := fun x hx k => by rw [hx _ _ (by omega) (by omega) (by omega)]
  have hF : ∀ k x, I x → Tr_sh1 g r k x = Tr_s1 g r (tn (a (28 + r) k)) x := fun k x hx => by
    show Tr_s1 g r (tn (x (28 + r) k)) x = _
    rw [ord x hx]
  have hI : ∀ k x, k < 6 → I x → I (Tr_sh1 g r k x) := fun k x hk hx p j h1 h2 h3 => by
    rw [hF k x hx, s1_ne h1 h2 h3]; exact hx p j h1 h2 h3
  have hat : ∀ k x, k < 6 → I x → Tr_at g r (tn (a (28 + r) k)) x = -1 ∨ Tr_at g r (tn (a (28 + r) k)) x = a (21 + tn (a (28 + r) k)) r := fun k x hk hx => by
    have := ob k hk
    unfold Tr_at
    split
    · exact Or.inr (hx _ _ (by omega) (by omega) (by omega))
    · exact Or.inl rfl
  have har : ∀ k x, k < 6 → I x → rng6 (Tr_at g r (tn (a (28 + r) k)) x) := fun k x hk hx => by
    rcases hat k x hk hx with e | e
    · exact Or.inl e
    · rw [e]; exact hN.nx hr (ob k hk)
  have hrow := row_at (F := Tr_sh1 g r) (o := fun k => tn (a (28 + r) k)) (fun x q => x (81 + g) q) (fun k x => Tr_at g r (tn (a (28 + r) k)) x) I0 hI (fun k x q hk hx hq => by rw [hF k x hx, s1_81]) ob oi
  have hset := fun q (hq : q < 6) => set_at (F := Tr_sh1 g r) (o := fun k => tn (a (28 + r) k)) (fun x => x (85 + g) q) (fun k x => Tr_at g r (tn (a (28 + r) k)) x = nI q) I0 hI (fun k x hk hx => by rw [hF k x hx, s1_85 (har k x hk hx) hq]) ob (f2 q hq)
  have hfin : ∀ k, k < 6 → (mx_lp 6 (Tr_sh1 g r) b) (81 + g) (tn (a (28 + r) k)) = Tr_at g r (tn (a (28 + r) k)) (mx_lp k (Tr_sh1 g r) b) := fun k hk => by
    rw [(hrow 6 (by omega)).2 k hk, if_pos hk]
  have hIk : ∀ k, k ≤ 6 → I (mx_lp k (Tr_sh1 g r) b) := fun k hk => (hrow k hk).1
  -- who joined at q, seen from any later turn
  have hmem : ∀ q, q < 6 → ∀ j, j ≤ 6 → (∀ i, i < 6 → a (21 + tn (a (28 + r) i)) r = nI q → i < j) → ∀ n, (∃ k, k < j ∧ n = tn (a (28 + r) k) ∧ Tr_at g r (tn (a (28 + r) k)) (mx_lp k (Tr_sh1 g r) b) = nI q) ↔ (n < 6 ∧ (mx_lp 6 (Tr_sh1 g r) b) (81 + g) n = nI q) := fun q hq j hj hl n => by
    constructor
    · rintro ⟨k, hk, e, w⟩
      rw [e]
      exact ⟨ob k (by omega), by rw [hfin k (by omega)]; exact w⟩
    · rintro ⟨hn, w⟩
      obtain ⟨k, hk, e⟩ := os n hn
      subst e
      rw [hfin k hk] at w
      refine ⟨k, hl k hk ?_, rfl, w⟩
      rcases hat k _ hk (hIk k (by omega)) with z | z
      · rw [z] at w; exact absurd w.symm (pm_nI_m1 (by omega))
      · rw [← z]; exact w
  refine ⟨hIk 6 (by omega), fun n hn => ?_, fun n hn => ?_, fun j => ?_⟩
  · obtain ⟨k, hk, e⟩ := os n hn
    subst e
    rw [hfin k hk]
    have hx := hIk k (by omega)
    have hb := bs_cg (hset _ hn k (by omega)).2 (fun n' _ => hmem _ hn k (by omega) (fun i hi z => hN.later hr hi hk z) n')
    have hz := bs_z hb
    unfold Tr_at
    rw [hx (21 + _) r (by omega) (by omega) (by omega)]
    refine ift_if ?_
    rw [hx 2 0 (by omega) (by omega) (by omega), hx (43 + _) g (by omega) (by omega) (by omega)]
    refine or_congr Iff.rfl ?_
    rw [hz]
    constructor
    · intro h
      refine Decidable.byContradiction fun c => h (fun q _ w => c ⟨q, w⟩)
    · rintro ⟨q, hq, w⟩ h
      exact h q (by omega) ⟨hq, w⟩
  · exact bs_cg (hset n hn 6 (by omega)).2 (fun n' _ => hmem n hn 6 (by omega) (fun i hi _ => hi) n')
  · have h := (cnt_at (F := Tr_sh1 g r) (fun x => x 4 j) (fun k x => dA j 0 (tn (a (28 + r) k)) (x (81 + g) (tn (a (28 + r) k))) (Tr_at g r (tn (a (28 + r) k)) x) (mc a)) (I := fun x => I x ∧ ∀ n, n < 6 → rng6 (x (81 + g) n)) ⟨I0, fun n hn => by rw [f1 _ _ (by omega)]; exact hv n hn⟩ 6 (fun k x hk hx => ⟨hI k x hk hx.1, fun n hn => ?_⟩) (fun k x hk hx => ?_)).2
    · show (mx_lp 6 (Tr_sh1 g r) b) 4 j = _
      rw [h, f1 4 j (by omega)]
      refine congrArg (fun z => a 4 j + z) ?_
      rw [← sI_perm (fun n => dA j 0 n (a (81 + g) n) ((mx_lp 6 (Tr_sh1 g r) b) (81 + g) n) (mc a)) os]
      refine sg_cg 6 (fun k hk => ?_)
      show dA j 0 _ ((mx_lp k (Tr_sh1 g r) b) (81 + g) _) _ _ = dA j 0 _ _ ((mx_lp 6 (Tr_sh1 g r) b) (81 + g) _) _
      rw [hfin k hk, (hrow k (by omega)).2 k hk, if_neg (Nat.lt_irrefl _), f1 _ _ (by omega)]
    · rw [hF k x hx.1, s1_81]
      split
      · exact har k x hk hx.1
      · exact hx.2 n hn
    · show (Tr_sh1 g r k x) 4 j = _
      have hnk := ob k hk
      rw [hF k x hx.1, s1_4 hnk (hx.2 _ hnk), dA_cg (c := mc x) (d := mc a) (hx.2 _ hnk) (fun b _ => hx.1 (7 + tn (a (28 + r) k)) b (by omega) (by omega) (by omega))]
