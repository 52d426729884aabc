/-! the reference's settling: begin, counts -/
theorem Mo_b1s_spec (b : mx_Mm) : (∀ p j, p ≠ 193 → (mx_lp 18 Mo_b1 b) p j = b p j) ∧ ∀ k, k < 18 → (mx_lp 18 Mo_b1 b) 193 k = b 192 k :=
  lp_inv (f := Mo_b1) (fun i (x : mx_Mm) => (∀ p j, p ≠ 193 → x p j = b p j) ∧ ∀ k, k < i → x 193 k = b 192 k) 18 (m := b) ⟨fun _ _ _ => rfl, fun k hk => absurd hk (Nat.not_lt_zero _)⟩ (fun i x hi hI => ⟨fun p j hp => (up_neP hp).trans (hI.1 p j hp), fun k hk => by
    show (mx_up x 193 i (x 192 i)) 193 k = _
    by_cases e : k = i
    · subst e; rw [up_same]; exact hI.1 192 k (by decide)
    · rw [up_neK e]; exact hI.2 k (by omega)⟩)
theorem b2_ne {k p j : Nat} {x : mx_Mm} (h1 : p ≠ 195) (h2 : p ≠ 197) (h3 : p ≠ 199) : (Mo_b2 k x) p j = x p j := by
  show (mx_up (mx_up (mx_up x 199 k _) 195 k _) 197 k _) p j = _
  rw [up_neP h2, up_neP h1, up_neP h3]
theorem b2_neK {k p j : Nat} {x : mx_Mm} (h : j ≠ k) : (Mo_b2 k x) p j = x p j := by
  show (mx_up (mx_up (mx_up x 199 k _) 195 k _) 197 k _) p j = _
  rw [up_neK h, up_neK h, up_neK h]
theorem b2_195 {k : Nat} {x : mx_Mm} : (Mo_b2 k x) 195 k = x 194 k := by
  unfold Mo_b2 Mo_b4 Mo_b3 Mo_bf
  rw [up_neP (by decide), up_same, up_neP (by decide)]
theorem b2_197 {k : Nat} {x : mx_Mm} : (Mo_b2 k x) 197 k = x 196 k := by
  show (mx_up (Mo_b3 k (Mo_bf k x)) 197 k ((Mo_b3 k (Mo_bf k x)) 196 k)) 197 k = _
  rw [up_same]
  show (mx_up (mx_up x 199 k _) 195 k _) 196 k = _
  rw [up_neP (by decide), up_neP (by decide)]
theorem b2_199 {k : Nat} {x : mx_Mm} : (Mo_b2 k x) 199 k = if ¬ x 199 k = 0 ∧ x 185 1 < x 198 k then nI 1 else nI 0 := by
  unfold Mo_b2 Mo_b4 Mo_b3 Mo_bf
  rw [up_neP (by decide), up_neP (by decide), up_same]
theorem Mo_begin_spec (b : mx_Mm) : (∀ p j, p ≠ 193 → p ≠ 195 → p ≠ 197 → p ≠ 199 → (Mo_begin b) p j = b p j) ∧ (∀ k, k < 18 → (Mo_begin b) 193 k = b 192 k) ∧ ∀ k, k < 108 → (Mo_begin b) 195 k = b 194 k ∧ (Mo_begin b) 197 k = b 196 k ∧ (Mo_begin b) 199 k = if ¬ b 199 k = 0 ∧ b 185 1 < b 198 k then nI 1 else nI 0 := by
  obtain ⟨b1, b2⟩ := Mo_b1s_spec b
  unfold Mo_begin
  generalize mx_lp 18 Mo_b1 b = c at b1 b2 ⊢
  have h := lp_inv (f := Mo_b2) (fun i (x : mx_Mm) => (∀ p j, p ≠ 195 → p ≠ 197 → p ≠ 199 → x p j = c p j) ∧ (∀ p j, i ≤ j → x p j = c p j) ∧ ∀ k, k < i → x 195 k = c 194 k ∧ x 197 k = c 196 k ∧ x 199 k = if ¬ c 199 k = 0 ∧ c 185 1 < c 198 k then nI 1 else nI 0) 108 (m := c) ⟨fun _ _ _ _ _ => rfl, fun _ _ _ => rfl, fun k hk => absurd hk (Nat.not_lt_zero _)⟩ (fun i x hi hI => by
    obtain ⟨i1, i2, i3⟩ := hI
    refine ⟨fun p j h1 h2 h3 => (b2_ne h1 h2 h3).trans (i1 p j h1 h2 h3), fun p j hj => (b2_neK (by omega)).trans (i2 p j (by omega)), fun k hk => ?_⟩
    by_cases e : k = i
    · subst e
      rw [b2_195, b2_197, b2_199, i1 194 k (by decide) (by decide) (by decide), i1 196 k (by decide) (by decide) (by decide), i2 199 k (by omega), i1 185 1 (by decide) (by decide) (by decide), i1 198 k (by decide) (by decide) (by decide)]
      exact ⟨rfl, rfl, rfl⟩
    · rw [b2_neK e, b2_neK e, b2_neK e]
      exact i3 k (by omega))
  obtain ⟨h1, -, h3⟩ := h
  refine ⟨fun p j p1 p2 p3 p4 => (h1 p j p2 p3 p4).trans (b1 p j p1), fun k hk => (h1 _ _ (by decide) (by decide) (by decide)).trans (b2 k hk), fun k hk => ?_⟩
  obtain ⟨q1, q2, q3⟩ := h3 k hk
  rw [q1, q2, q3, b1 194 k (by decide), b1 196 k (by decide), b1 199 k (by decide), b1 185 1 (by decide), b1 198 k (by decide)]
  exact ⟨rfl, rfl, rfl⟩
theorem Mo_cnt_201 {k j : Nat} {m : mx_Mm} : (Mo_cnt k m) 201 j = m 201 j + if j = k then nI 1 else 0 := by
  unfold Mo_cnt
  by_cases e : j = k
  · subst e; rw [up_same, if_pos rfl]
  · rw [up_neK e, if_neg e, Int32.add_zero]
theorem Mo_cnt_ne {k p j : Nat} {m : mx_Mm} (hp : p ≠ 201) : (Mo_cnt k m) p j = m p j := up_neP hp
theorem Mo_t1_ne {k n p j : Nat} {x : Int32} {m : mx_Mm} (hp : p ≠ 201) : (Mo_t1 k n x m) p j = m p j := by
  unfold Mo_t1
  split
  · rfl
  · split
    · rfl
    · exact Mo_cnt_ne hp
theorem Mo_tell_ne {k n p j : Nat} {x y : Int32} {m : mx_Mm} (hp : p ≠ 201) : (Mo_tell k n x y m) p j = m p j := by
  unfold Mo_tell Mo_t2
  split
  · rfl
  · split
    · exact Mo_t1_ne hp
    · rw [Mo_cnt_ne hp]; exact Mo_t1_ne hp
theorem c9z : ∀ k, k ≤ 9 → (nI k ≤ 0 ↔ nI k = 0) := by decide
theorem Mo_t1_201 {k n j : Nat} {x : Int32} {m : mx_Mm} (hn : n < 6) (hx : rng6 x) (hc : pm_c (md m)) : (Mo_t1 k n x m) 201 j = m 201 j + if ¬ x = -1 ∧ ¬ md m n (tn x) = 0 ∧ j = k + 1 then nI 1 else 0 := by
  unfold Mo_t1
  split
  next h0 =>
    have h := (rng6_neg hx).mp h0
    rw [if_neg (fun z => z.1 h), Int32.add_zero]
  next h0 =>
    have h : ¬ x = -1 := fun z => h0 ((rng6_neg hx).mpr z)
    obtain ⟨c, hc9, ec⟩ := hc.1 n (tn x) hn (hx.tn h).2
    have hz : m 186 (6 * n + tn x) ≤ 0 ↔ md m n (tn x) = 0 := by
      show md m n (tn x) ≤ 0 ↔ _
      rw [ec]; exact c9z c hc9
    split
    next h2 => rw [if_neg (fun z => z.2.1 (hz.mp h2)), Int32.add_zero]
    next h3 =>
      have h2 : ¬ md m n (tn x) = 0 := fun z => h3 (hz.mpr z)
      rw [Mo_cnt_201]
      by_cases e : j = k + 1
      · rw [if_pos e, if_pos ⟨h, h2, e⟩]
      · rw [if_neg e, if_neg (fun z => e z.2.2)]
theorem Mo_tell_201 {k n j : Nat} {x y : Int32} {m : mx_Mm} (hn : n < 6) (hx : rng6 x) (hy : rng6 y) (hc : pm_c (md m)) : (Mo_tell k n x y m) 201 j = m 201 j + dA j k n x y (md m) := by
  unfold Mo_tell dA
  split
  · exact (Int32.add_zero _).symm
  · have e : (Mo_t2 k y (Mo_t1 k n x m)) 201 j = (Mo_t1 k n x m) 201 j + if ¬ y = -1 ∧ j = k then nI 1 else 0 := by
      unfold Mo_t2
      split
      next h => rw [if_neg (fun z => z.1 ((rng6_neg hy).mp h)), Int32.add_zero]
      next h0 =>
        have h : ¬ y = -1 := fun z => h0 ((rng6_neg hy).mpr z)
        rw [Mo_cnt_201]
        by_cases e : j = k
        · rw [if_pos e, if_pos ⟨h, e⟩]
        · rw [if_neg e, if_neg (fun z => e z.2)]
    rw [e, Mo_t1_201 hn hx hc, Int32.add_assoc]
/-- the counts at a settling's end -/
theorem Mo_es_spec {d : mx_Mm} (hc : pm_c (md d)) (h1 : ∀ k, k < 18 → rng6 (d 192 k) ∧ rng6 (d 193 k)) (h2 : ∀ k, k < 108 → rng6 (d 194 k) ∧ rng6 (d 195 k) ∧ rng6 (d 196 k) ∧ rng6 (d 197 k)) :
    (∀ p j, p ≠ 201 → (mx_lp 108 Mo_e2 (mx_lp 18 Mo_e1 d)) p j = d p j) ∧
    ∀ j, (mx_lp 108 Mo_e2 (mx_lp 18 Mo_e1 d)) 201 j = d 201 j + (sI 18 (fun k => dA j 0 (k / 3) (d 193 k) (d 192 k) (md d)) + sI 108 (fun k => dA j 2 (k / 18) (d 197 k) (d 196 k) (md d) + dA j 4 (k / 18) (d 195 k) (d 194 k) (md d))) := by
  have mds : ∀ x : mx_Mm, (∀ p j, p ≠ 201 → x p j = d p j) → md x = md d := fun x hx => funext fun a => funext fun b => hx 186 _ (by decide)
  have a1 := fun j => cnt_at (F := Mo_e1) (fun x => x 201 j) (fun k x => dA j 0 (k / 3) (d 193 k) (d 192 k) (md d)) (I := fun x => ∀ p j, p ≠ 201 → x p j = d p j) (a := d) (fun _ _ _ => rfl) 18 (fun k x _ hx p j hp => by
      show (Mo_tell 0 (k / 3) _ _ x) p j = _
      rw [Mo_tell_ne hp]; exact hx p j hp) (fun k x hk hx => by
      show (Mo_tell 0 (k / 3) (x 193 k) (x 192 k) x) 201 j = _
      rw [hx 193 k (by decide), hx 192 k (by decide), Mo_tell_201 (by omega) (h1 k hk).2 (h1 k hk).1 (by rw [mds x hx]; exact hc), mds x hx])
  have b0 := (a1 0).1
  have b1 := fun j => (a1 j).2
  generalize mx_lp 18 Mo_e1 d = e at b0 b1 ⊢
  have a2 := fun j => cnt_at (F := Mo_e2) (fun x => x 201 j) (fun k x => dA j 2 (k / 18) (d 197 k) (d 196 k) (md d) + dA j 4 (k / 18) (d 195 k) (d 194 k) (md d)) (I := fun x => ∀ p j, p ≠ 201 → x p j = d p j) (a := e) b0 108 (fun k x _ hx p j hp => by
      show (Mo_tell 4 (k / 18) _ _ (Mo_tell 2 (k / 18) _ _ x)) p j = _
      rw [Mo_tell_ne hp, Mo_tell_ne hp]; exact hx p j hp) (fun k x hk hx => by
      show (Mo_tell 4 (k / 18) ((Mo_e3 k x) 195 k) ((Mo_e3 k x) 194 k) (Mo_e3 k x)) 201 j = _
      have hy : ∀ p j, p ≠ 201 → (Mo_e3 k x) p j = d p j := fun p j hp => by
        show (Mo_tell 2 (k / 18) _ _ x) p j = _
        rw [Mo_tell_ne hp]; exact hx p j hp
      rw [hy 195 k (by decide), hy 194 k (by decide), Mo_tell_201 (by omega) (h2 k hk).2.1 (h2 k hk).1 (by rw [mds _ hy]; exact hc), mds _ hy]
      show (Mo_tell 2 (k / 18) (x 197 k) (x 196 k) x) 201 j + _ = _
      rw [hx 197 k (by decide), hx 196 k (by decide), Mo_tell_201 (by omega) (h2 k hk).2.2.2 (h2 k hk).2.2.1 (by rw [mds x hx]; exact hc), mds x hx, Int32.add_assoc])
  refine ⟨(a2 0).1, fun j => ?_⟩
  have q := (a2 j).2
  have q' : (mx_lp 108 Mo_e2 e) 201 j = e 201 j + sI 108 (fun k => dA j 2 (k / 18) (d 197 k) (d 196 k) (md d) + dA j 4 (k / 18) (d 195 k) (d 194 k) (md d)) := q
  have w : e 201 j = d 201 j + sI 18 (fun k => dA j 0 (k / 3) (d 193 k) (d 192 k) (md d)) := b1 j
  rw [q', w, Int32.add_assoc]
