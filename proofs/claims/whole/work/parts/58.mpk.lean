/-! the reference's packets: the stages -/
def Mo_dep (p j : Nat) : Prop := (p = 185 ∧ j = 1) ∨ p = 190 ∨ p = 192 ∨ p = 194 ∨ p = 196
theorem Mo_on_cg {n g : Nat} {x b : mx_Mm} (h : ∀ p j, Mo_dep p j → x p j = b p j) : Mo_on n g x ↔ Mo_on n g b := by
  unfold Mo_on
  rw [h 185 1 (Or.inl ⟨rfl, rfl⟩), h 190 _ (Or.inr (Or.inl rfl))]
theorem Mo_in_cg {n k st : Nat} {x b : mx_Mm} (h : ∀ p j, Mo_dep p j → x p j = b p j) : Mo_in n k st x ↔ Mo_in n k st b := by
  unfold Mo_in
  rw [h 192 _ (Or.inr (Or.inr (Or.inl rfl))), h 194 _ (Or.inr (Or.inr (Or.inr (Or.inl rfl))))]
theorem Mo_out_cg {n k st : Nat} {x b : mx_Mm} (h : ∀ p j, Mo_dep p j → x p j = b p j) : Mo_out n k st x ↔ Mo_out n k st b := by
  unfold Mo_out
  rw [Mo_in_cg h, h 196 _ (Or.inr (Or.inr (Or.inr (Or.inr rfl))))]
theorem Mo_m1_cg {n st : Nat} {x b : mx_Mm} (h : ∀ p j, Mo_dep p j → x p j = b p j) : Mo_m1 n st x = Mo_m1 n st b := by
  have e : Mo_c0 n st x = Mo_c0 n st b := by
    unfold Mo_c0
    by_cases q : Mo_on n (st % 3) x
    · rw [if_pos q, if_pos ((Mo_on_cg h).mp q)]
    · rw [if_neg q, if_neg (fun z => q ((Mo_on_cg h).mpr z))]
  unfold Mo_m1
  rw [e]
  refine lp_congr 6 _ (fun k c hk => ?_)
  unfold Mo_n1
  by_cases q : Mo_out n k st x
  · rw [if_pos q, if_pos ((Mo_out_cg h).mp q)]
  · rw [if_neg q, if_neg (fun z => q ((Mo_out_cg h).mpr z))]
theorem ix18 {n n' st st' : Nat} (h : st < 18) (h' : st' < 18) : 18 * n + st = 18 * n' + st' ↔ n = n' ∧ st = st' := by
  constructor
  · intro e
    have : n = n' := by omega
    exact ⟨this, by omega⟩
  · rintro ⟨e1, e2⟩
    rw [e1, e2]
theorem keep_ne {n st p j : Nat} {m : mx_Mm} (h : ¬ (p = 198 ∧ j = 18 * n + st)) : (Mo_keep n st m) p j = m p j := up_ne h
theorem keep_198 {n st n' st' : Nat} {m : mx_Mm} (h : st < 18) (h' : st' < 18) : (Mo_keep n st m) 198 (18 * n' + st') = if st' = st ∧ n' = n then m 185 1 + nI 8 else m 198 (18 * n' + st') := by
  unfold Mo_keep
  by_cases e : st' = st ∧ n' = n
  · rw [if_pos e, e.1, e.2, up_same]
  · rw [if_neg e, up_neK (fun z => e (by
      have := (ix18 h' h).mp z
      exact ⟨this.2, this.1⟩))]
theorem pA_spec {s st : Nat} {b : mx_Mm} (hst : st < 18) :
    (∀ p j, p ≠ 198 → p ≠ 203 → p ≠ 204 → p ≠ 205 → ¬ (p = 185 ∧ 19 ≤ j ∧ j < 23) → (Mo_pA s st b) p j = b p j) ∧
    (∀ n st', st' < 18 → (Mo_pA s st b) 198 (18 * n + st') = if st' = st ∧ n = s then b 185 1 + nI 8 else b 198 (18 * n + st')) ∧
    (∀ n, n < 6 → (Mo_pA s st b) 203 n = nI 0 ∧ (Mo_pA s st b) 204 n = nI 0 ∧ (Mo_pA s st b) 205 n = -1) ∧
    ∀ j, 19 ≤ j → j < 23 → (Mo_pA s st b) 185 j = nI 0 := by
  have z1 : ∀ p j, ¬ (p = 185 ∧ 19 ≤ j ∧ j < 23) → (Mo_pz b) p j = b p j := fun p j h => by
    unfold Mo_pz
    rw [up_ne (by omega), up_ne (by omega), up_ne (by omega), up_ne (by omega)]
  have z2 : ∀ j, 19 ≤ j → j < 23 → (Mo_pz b) 185 j = nI 0 := fun j h1 h2 => by
    unfold Mo_pz
    have : j = 19 ∨ j = 20 ∨ j = 21 ∨ j = 22 := by omega
    rcases this with e | e | e | e
    · rw [e, up_neK (by decide), up_neK (by decide), up_neK (by decide), up_same]
    · rw [e, up_neK (by decide), up_neK (by decide), up_same]
    · rw [e, up_neK (by decide), up_same]
    · rw [e, up_same]
  unfold Mo_pA
  generalize Mo_pz b = z at z1 z2 ⊢
  have h := lp_inv (f := Mo_k0) (fun i (x : mx_Mm) => (∀ p j, p ≠ 203 → p ≠ 204 → p ≠ 205 → x p j = z p j) ∧ ∀ n, n < i → x 203 n = nI 0 ∧ x 204 n = nI 0 ∧ x 205 n = -1) 6 (m := z) ⟨fun _ _ _ _ _ => rfl, fun n hn => absurd hn (Nat.not_lt_zero _)⟩ (fun i x hi hI => by
    obtain ⟨x1, x2⟩ := hI
    unfold Mo_k0
    refine ⟨fun p j h1 h2 h3 => ?_, fun n hn => ?_⟩
    · rw [up_neP h3, up_neP h2, up_neP h1]; exact x1 p j h1 h2 h3
    · by_cases e : n = i
      · subst e
        exact ⟨by rw [up_neP (by decide), up_neP (by decide), up_same], by rw [up_neP (by decide), up_same], up_same _ _ _ _⟩
      · rw [up_neK e, up_neK e, up_neK e, up_neK e, up_neK e, up_neK e, up_neK e, up_neK e, up_neK e]
        exact x2 n (by omega))
  obtain ⟨x1, x2⟩ := h
  generalize mx_lp 6 Mo_k0 z = x at x1 x2 ⊢
  refine ⟨fun p j h1 h2 h3 h4 h5 => ?_, fun n st' h' => ?_, fun n hn => ?_, fun j h1 h2 => ?_⟩
  · rw [keep_ne (fun q => h1 q.1), x1 p j h2 h3 h4, z1 p j h5]
  · rw [keep_198 hst h', x1 185 1 (by decide) (by decide) (by decide), z1 185 1 (by omega), x1 198 _ (by decide) (by decide) (by decide), z1 198 _ (by omega)]
  · rw [keep_ne (by omega), keep_ne (by omega), keep_ne (by omega)]
    exact x2 n hn
  · rw [keep_ne (by omega), x1 185 j (by decide) (by decide) (by decide)]
    exact z2 j h1 h2
theorem nIs {n s : Nat} (hn : n < 6) (hs : s < 6) : nI n = nI s ↔ n = s := nI_eq (by omega) (by omega)
theorem k1_ne {s st w n p j : Nat} {m : mx_Mm} (h1 : p ≠ 198) (h2 : p ≠ 199) : (Mo_k1 s st w n m) p j = m p j := by
  unfold Mo_k1 Mo_f1
  split
  · rw [keep_ne (fun z => h1 z.1), up_neP h2]
  · rfl
theorem pB_spec {s st : Nat} {y : mx_Mm} (hst : st < 18) (hs : s < 6) :
    (∀ p j, p ≠ 198 → p ≠ 199 → (Mo_pB s st y) p j = y p j) ∧
    (∀ n st', n < 6 → st' < 18 → (Mo_pB s st y) 198 (18 * n + st') = if st' = st ∧ (¬ y 196 (18 * n + st) < 0 ∨ (n = s ∧ ¬ nI (Mo_m1 s st y) ≤ 0)) then y 185 1 + nI 8 else y 198 (18 * n + st')) ∧
    ∀ n st', n < 6 → st' < 18 → (Mo_pB s st y) 199 (18 * n + st') = if st' = st ∧ (¬ y 196 (18 * n + st) < 0 ∨ (n = s ∧ ¬ nI (Mo_m1 s st y) ≤ 0)) then nI 1 else y 199 (18 * n + st') := by
  unfold Mo_pB
  generalize Mo_m1 s st y = w
  have h := lp_inv (f := Mo_k1 s st w) (fun i (x : mx_Mm) => (∀ p j, p ≠ 198 → p ≠ 199 → x p j = y p j) ∧ (∀ n st', n < 6 → st' < 18 → x 198 (18 * n + st') = if n < i ∧ st' = st ∧ (¬ y 196 (18 * n + st) < 0 ∨ (n = s ∧ ¬ nI w ≤ 0)) then y 185 1 + nI 8 else y 198 (18 * n + st')) ∧ ∀ n st', n < 6 → st' < 18 → x 199 (18 * n + st') = if n < i ∧ st' = st ∧ (¬ y 196 (18 * n + st) < 0 ∨ (n = s ∧ ¬ nI w ≤ 0)) then nI 1 else y 199 (18 * n + st')) 6 (m := y) ⟨fun _ _ _ _ => rfl, fun n st' _ _ => by rw [if_neg (fun z => absurd z.1 (Nat.not_lt_zero _))], fun n st' _ _ => by rw [if_neg (fun z => absurd z.1 (Nat.not_lt_zero _))]⟩ (fun i x hi hI => by
    obtain ⟨x1, x2, x3⟩ := hI
    have hc : (¬ x 196 (18 * i + st) < 0 ∨ (nI i = nI s ∧ ¬ nI w ≤ 0)) ↔ (¬ y 196 (18 * i + st) < 0 ∨ (i = s ∧ ¬ nI w ≤ 0)) := by
      rw [x1 196 _ (by decide) (by decide), nIs hi hs]
    refine ⟨fun p j h1 h2 => (k1_ne h1 h2).trans (x1 p j h1 h2), fun n st' hn h' => ?_, fun n st' hn h' => ?_⟩
    · unfold Mo_k1
      by_cases d : ¬ x 196 (18 * i + st) < 0 ∨ (nI i = nI s ∧ ¬ nI w ≤ 0)
      · rw [if_pos d]
        unfold Mo_f1
        rw [keep_198 hst h', up_neP (by decide), up_neP (by decide), x1 185 1 (by decide) (by decide), x2 n st' hn h']
        by_cases e : st' = st ∧ n = i
        · rw [if_pos e, if_pos ⟨by omega, e.1, by rw [e.2]; exact hc.mp d⟩]
        · rw [if_neg e]
          refine ite_iff ⟨fun z => ⟨by omega, z.2⟩, fun z => ⟨?_, z.2⟩⟩ rfl rfl
          have : n ≠ i := fun q => e ⟨z.2.1, q⟩
          omega
      · rw [if_neg d, x2 n st' hn h']
        refine ite_iff ⟨fun z => ⟨by omega, z.2⟩, fun z => ⟨?_, z.2⟩⟩ rfl rfl
        have : n ≠ i := fun q => d (hc.mpr (by rw [← q]; exact z.2.2))
        omega
    · unfold Mo_k1
      by_cases d : ¬ x 196 (18 * i + st) < 0 ∨ (nI i = nI s ∧ ¬ nI w ≤ 0)
      · rw [if_pos d]
        unfold Mo_f1
        rw [keep_ne (by omega)]
        by_cases e : st' = st ∧ n = i
        · rw [if_pos ⟨by omega, e.1, by rw [e.2]; exact hc.mp d⟩, e.1, e.2, up_same]
        · rw [up_neK (fun z => e (by
            have := (ix18 h' hst).mp z
            exact ⟨this.2, this.1⟩)), x3 n st' hn h']
          refine ite_iff ⟨fun z => ⟨by omega, z.2⟩, fun z => ⟨?_, z.2⟩⟩ rfl rfl
          have : n ≠ i := fun q => e ⟨z.2.1, q⟩
          omega
      · rw [if_neg d, x3 n st' hn h']
        refine ite_iff ⟨fun z => ⟨by omega, z.2⟩, fun z => ⟨?_, z.2⟩⟩ rfl rfl
        have : n ≠ i := fun q => d (hc.mpr (by rw [← q]; exact z.2.2))
        omega)
  obtain ⟨x1, x2, x3⟩ := h
  refine ⟨x1, fun n st' hn h' => ?_, fun n st' hn h' => ?_⟩
  · rw [x2 n st' hn h']
    exact ite_iff ⟨fun z => z.2, fun z => ⟨hn, z⟩⟩ rfl rfl
  · rw [x3 n st' hn h']
    exact ite_iff ⟨fun z => z.2, fun z => ⟨hn, z⟩⟩ rfl rfl
/-- registering, the reference's -/
theorem mreg_spec {s r st : Nat} {y : mx_Mm} (hst : st < 18) :
    (∀ p j, p ≠ 198 → p ≠ 200 → p ≠ 201 → (Mo_reg r s st y) p j = y p j) ∧
    (∀ n st', n < 6 → st' < 18 → (Mo_reg r s st y) 198 (18 * n + st') = if Mo_rc r s st y ∧ st' = st ∧ n = r then y 185 1 + nI 8 else y 198 (18 * n + st')) ∧
    (∀ j, (Mo_reg r s st y) 200 j = if j = st ∧ Mo_rc r s st y ∧ (¬ y 199 (18 * r + st) = 0 ∨ nI (Mo_m1 r st y) = 0) then y 185 1 + nI 6 else y 200 j) ∧
    ∀ j, (Mo_reg r s st y) 201 j = y 201 j + ((if Mo_rc r s st y ∧ j = 6 then nI 1 else 0) + if (Mo_rc r s st y ∧ (¬ y 199 (18 * r + st) = 0 ∨ nI (Mo_m1 r st y) = 0)) ∧ j = 7 then nI 1 else 0) := by
  unfold Mo_reg
  by_cases c : Mo_rc r s st y
  · rw [if_pos c]
    have e : ∀ p j, p ≠ 198 → p ≠ 201 → (Mo_keep r st (Mo_cnt 6 y)) p j = y p j := fun p j h1 h2 => (keep_ne (fun z => h1 z.1)).trans (Mo_cnt_ne h2)
    have e8 : ∀ n st', st' < 18 → (Mo_keep r st (Mo_cnt 6 y)) 198 (18 * n + st') = if st' = st ∧ n = r then y 185 1 + nI 8 else y 198 (18 * n + st') := fun n st' h' => by
      rw [keep_198 hst h', Mo_cnt_ne (by decide), Mo_cnt_ne (by decide)]
    have e4 : ∀ j, (Mo_keep r st (Mo_cnt 6 y)) 201 j = y 201 j + if j = 6 then nI 1 else 0 := fun j => (keep_ne (by omega)).trans Mo_cnt_201
    generalize Mo_keep r st (Mo_cnt 6 y) = z at e e8 e4 ⊢
    have em : Mo_m1 r st z = Mo_m1 r st y := Mo_m1_cg (fun p j h => e p j (by unfold Mo_dep at h; omega) (by unfold Mo_dep at h; omega))
    unfold Mo_rg2
    have hz : (¬ z 199 (18 * r + st) = 0 ∨ nI (Mo_m1 r st z) = 0) ↔ (¬ y 199 (18 * r + st) = 0 ∨ nI (Mo_m1 r st y) = 0) := by
      rw [e 199 _ (by decide) (by decide), em]
    by_cases d : ¬ z 199 (18 * r + st) = 0 ∨ nI (Mo_m1 r st z) = 0
    · have d' := hz.mp d
      rw [if_pos d]
      unfold Mo_qu
      refine ⟨fun p j h1 h2 h3 => ?_, fun n st' hn h' => ?_, fun j => ?_, fun j => ?_⟩
      · rw [up_neP h2, Mo_cnt_ne h3]; exact e p j h1 h3
      · rw [up_neP (by decide), Mo_cnt_ne (by decide), e8 n st' h']
        exact ite_iff ⟨fun q => ⟨c, q⟩, fun q => q.2⟩ rfl rfl
      · by_cases f : j = st
        · rw [if_pos ⟨f, c, d'⟩, f, up_same, Mo_cnt_ne (by decide), e 185 1 (by decide) (by decide)]
        · rw [if_neg (fun q => f q.1), up_neK f, Mo_cnt_ne (by decide), e 200 j (by decide) (by decide)]
      · rw [up_neP (by decide), Mo_cnt_201, e4 j, Int32.add_assoc]
        refine congrArg (fun w => y 201 j + w) ?_
        have u1 : (if j = 6 then nI 1 else 0) = if Mo_rc r s st y ∧ j = 6 then nI 1 else 0 := ite_iff ⟨fun f => ⟨c, f⟩, fun q => q.2⟩ rfl rfl
        have u2 : (if j = 7 then nI 1 else 0) = if (Mo_rc r s st y ∧ (¬ y 199 (18 * r + st) = 0 ∨ nI (Mo_m1 r st y) = 0)) ∧ j = 7 then nI 1 else 0 := ite_iff ⟨fun f => ⟨⟨c, d'⟩, f⟩, fun q => q.2⟩ rfl rfl
        rw [u1, u2]
    · have d' : ¬ (¬ y 199 (18 * r + st) = 0 ∨ nI (Mo_m1 r st y) = 0) := fun q => d (hz.mpr q)
      rw [if_neg d]
      refine ⟨fun p j h1 h2 h3 => e p j h1 h3, fun n st' hn h' => ?_, fun j => ?_, fun j => ?_⟩
      · rw [e8 n st' h']
        exact ite_iff ⟨fun q => ⟨c, q⟩, fun q => q.2⟩ rfl rfl
      · rw [if_neg (fun q => d' q.2.2), e 200 j (by decide) (by decide)]
      · rw [e4 j]
        refine congrArg (fun w => y 201 j + w) ?_
        have u1 : (if j = 6 then nI 1 else 0) = if Mo_rc r s st y ∧ j = 6 then nI 1 else 0 := ite_iff ⟨fun f => ⟨c, f⟩, fun q => q.2⟩ rfl rfl
        have u2 : (0 : Int32) = if (Mo_rc r s st y ∧ (¬ y 199 (18 * r + st) = 0 ∨ nI (Mo_m1 r st y) = 0)) ∧ j = 7 then nI 1 else 0 := (if_neg (fun q => d' q.1.2)).symm
        rw [u1, ← u2, Int32.add_zero]
  · rw [if_neg c]
    refine ⟨fun _ _ _ _ _ => rfl, fun n st' _ _ => by rw [if_neg (fun q => c q.1)], fun j => by rw [if_neg (fun q => c q.2.1)], fun j => ?_⟩
    rw [if_neg (fun q => c q.1), if_neg (fun q => c q.1.1), Int32.add_zero, Int32.add_zero]
theorem pC_spec {s r st w : Nat} {y : mx_Mm} (hst : st < 18) (hs : s < 6) (hr : r < 6) (h3 : ∀ n, n < 6 → y 203 n = nI 0) :
    (∀ p j, p ≠ 203 → (Mo_pC r s st w y) p j = (Mo_reg r s st y) p j) ∧
    ∀ n, n < 6 → ((¬ (Mo_pC r s st w y) 203 n = 0) ↔ ((n = s ∧ ¬ nI w ≤ 0) ∨ (n = r ∧ Mo_rc r s st y ∧ y 199 (18 * r + st) = 0))) := by
  obtain ⟨g1, -, -, -⟩ := mreg_spec (s := s) (r := r) (y := y) hst
  have e3 : ∀ n, n < 6 → (Mo_reg r s st y) 203 n = nI 0 := fun n hn => (g1 _ _ (by decide) (by decide) (by decide)).trans (h3 n hn)
  have e9 : (Mo_reg r s st y) 199 (18 * r + st) = y 199 (18 * r + st) := g1 _ _ (by decide) (by decide) (by decide)
  unfold Mo_pC
  generalize Mo_reg r s st y = x at e3 e9 ⊢
  have y9 : (Mo_y1 s w x) 199 (18 * r + st) = y 199 (18 * r + st) := (up_neP (by decide)).trans e9
  have y3 : ∀ n, n < 6 → ((¬ (Mo_y1 s w x) 203 n = 0) ↔ (n = s ∧ ¬ nI w ≤ 0)) := fun n hn => by
    unfold Mo_y1
    by_cases e : n = s
    · subst e
      rw [up_same]
      split
      next h => exact ⟨fun z => absurd rfl z, fun z => absurd h z.2⟩
      next h => exact ⟨fun _ => ⟨rfl, h⟩, fun _ => n10⟩
    · rw [up_neK e, e3 n hn]
      exact ⟨fun z => absurd rfl z, fun z => absurd z.1 e⟩
  have yo : ∀ p j, p ≠ 203 → (Mo_y1 s w x) p j = x p j := fun p j hp => up_neP hp
  generalize Mo_y1 s w x = v at y9 y3 yo ⊢
  unfold Mo_y2
  refine ⟨fun p j hp => (up_neP hp).trans (yo p j hp), fun n hn => ?_⟩
  by_cases e : n = r
  · subst e
    rw [up_same, y9]
    have := y3 n hn
    split
    next h =>
      refine ⟨fun _ => ?_, fun _ => n10⟩
      rcases h with h | h
      · exact Or.inl (this.mp h)
      · exact Or.inr ⟨rfl, h⟩
    next h =>
      refine ⟨fun z => absurd rfl z, fun z => absurd ?_ h⟩
      rcases z with z | z
      · exact Or.inl (this.mpr z)
      · exact Or.inr z.2
  · rw [up_neK e, y3 n hn]
    exact ⟨Or.inl, fun z => z.elim id (fun k => absurd k.1 e)⟩
