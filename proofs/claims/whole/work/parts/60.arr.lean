/-! the reference's packets: arriving, and the whole -/
theorem a3_eq {l c : Nat} {m : mx_Mm} : Mo_a3 l c m = (if bt1 (m 185 21) l ∧ m 202 l ≤ 0 then c + 1 else c, (Mo_a3 l 0 m).2) := by
  unfold Mo_a3
  by_cases h : bt1 (m 185 21) l
  · rw [if_pos h, if_pos h]
    by_cases k : m 202 l ≤ 0
    · rw [if_pos k, if_pos k, if_pos ⟨h, k⟩]
    · rw [if_neg k, if_neg k, if_neg (fun z => k z.2)]
  · rw [if_neg h, if_neg h, if_neg (fun z => h z.1)]
theorem arr_spec {s st : Nat} {x : mx_Mm} {P : Nat → Prop} (hst : st < 18) (hs : s < 6) (h21 : bs (x 185 21) P) (h22 : x 185 22 = nI 0) :
    (∀ p j, p ≠ 198 → p ≠ 202 → ¬ (p = 185 ∧ 21 ≤ j ∧ j < 23) → (Mo_arr s st x).2 p j = x p j) ∧
    bs ((Mo_arr s st x).2 185 21) (fun q => P q ∨ (q = s ∧ Mo_on s (st % 3) x)) ∧
    bs ((Mo_arr s st x).2 185 22) (fun l => l < 6 ∧ bt1 ((Mo_arr s st x).2 185 21) l ∧ x 202 l ≤ 0) ∧
    (∀ l, l < 6 → (Mo_arr s st x).2 202 l = if bt1 ((Mo_arr s st x).2 185 21) l ∧ ¬ x 202 l ≤ 0 then x 202 l - nI 1 else x 202 l) ∧
    (∀ n st', n < 6 → st' < 18 → (Mo_arr s st x).2 198 (18 * n + st') = if st' = st ∧ ¬ x 203 n = 0 ∧ x 199 (18 * n + st) = 0 ∧ Mo_on n (st % 3) x then x 185 1 + nI 8 else x 198 (18 * n + st')) ∧
    (Mo_arr s st x).1 = ((List.range 6).filter (fun l => decide (bt1 ((Mo_arr s st x).2 185 21) l ∧ x 202 l ≤ 0))).length := by
  have o0 : ∀ p j, ¬ (p = 185 ∧ j = 21) → (Mo_a0 s st x) p j = x p j := fun p j hp => by
    unfold Mo_a0 Mo_rb
    split
    · exact up_ne hp
    · rfl
  have b0 : bs ((Mo_a0 s st x) 185 21) (fun q => P q ∨ (q = s ∧ Mo_on s (st % 3) x)) := by
    unfold Mo_a0 Mo_rb
    split
    next h =>
      rw [up_same]
      exact bs_cg (bs_or h21 (bs_bit (by omega))) (fun q _ => or_congr Iff.rfl ⟨fun z => ⟨z, h⟩, fun z => z.1⟩)
    next h => exact bs_cg h21 (fun q _ => ⟨Or.inl, fun z => z.elim id (fun k => absurd k.2 h)⟩)
  unfold Mo_arr
  generalize Mo_a0 s st x = y at o0 b0 ⊢
  have h := lp_inv (f := Mo_a2 st) (fun i (w : Nat × mx_Mm) => (∀ p j, p ≠ 198 → p ≠ 202 → ¬ (p = 185 ∧ j = 22) → w.2 p j = y p j) ∧ bs (w.2 185 22) (fun l => l < i ∧ bt1 (y 185 21) l ∧ x 202 l ≤ 0) ∧ (∀ l, l < 6 → w.2 202 l = if l < i ∧ bt1 (y 185 21) l ∧ ¬ x 202 l ≤ 0 then x 202 l - nI 1 else x 202 l) ∧ (∀ n st', n < 6 → st' < 18 → w.2 198 (18 * n + st') = if n < i ∧ st' = st ∧ ¬ x 203 n = 0 ∧ x 199 (18 * n + st) = 0 ∧ Mo_on n (st % 3) x then x 185 1 + nI 8 else x 198 (18 * n + st')) ∧ w.1 = mx_lp i (fun l c => if bt1 (y 185 21) l ∧ x 202 l ≤ 0 then c + 1 else c) 0) 6 (m := (0, y)) ⟨fun _ _ _ _ _ => rfl, by
      show bs (y 185 22) _
      rw [o0 185 22 (by omega), h22]
      exact bs_cg bs_0 (fun n _ => ⟨fun z => z.elim, fun z => absurd z.1 (Nat.not_lt_zero _)⟩), fun l hl => by
      rw [if_neg (fun z => absurd z.1 (Nat.not_lt_zero _))]; exact o0 202 l (by omega), fun n st' hn h' => by
      rw [if_neg (fun z => absurd z.1 (Nat.not_lt_zero _))]; exact o0 198 _ (by omega), rfl⟩ (fun i w hi hI => by
    obtain ⟨w1, w2, w3, w4, w5⟩ := hI
    -- the keepalive
    have k1 : ∀ p j, p ≠ 198 → (Mo_a1 st i w.2) p j = w.2 p j := fun p j hp => by
      unfold Mo_a1
      split
      · exact keep_ne (fun z => hp z.1)
      · rfl
    have hon : (¬ w.2 203 i = 0 ∧ w.2 199 (18 * i + st) = 0 ∧ Mo_on i (st % 3) w.2) ↔ (¬ x 203 i = 0 ∧ x 199 (18 * i + st) = 0 ∧ Mo_on i (st % 3) x) := by
      unfold Mo_on
      rw [w1 203 i (by decide) (by decide) (by omega), w1 199 _ (by decide) (by decide) (by omega), w1 185 1 (by decide) (by decide) (by omega), w1 190 _ (by decide) (by decide) (by omega), o0 203 i (by omega), o0 199 _ (by omega), o0 185 1 (by omega), o0 190 _ (by omega)]
    have k2 : ∀ n st', n < 6 → st' < 18 → (Mo_a1 st i w.2) 198 (18 * n + st') = if n < i + 1 ∧ st' = st ∧ ¬ x 203 n = 0 ∧ x 199 (18 * n + st) = 0 ∧ Mo_on n (st % 3) x then x 185 1 + nI 8 else x 198 (18 * n + st') := fun n st' hn h' => by
      unfold Mo_a1
      by_cases d : ¬ w.2 203 i = 0 ∧ w.2 199 (18 * i + st) = 0 ∧ Mo_on i (st % 3) w.2
      · rw [if_pos d, keep_198 hst h', w1 185 1 (by decide) (by decide) (by omega), o0 185 1 (by omega), w4 n st' hn h']
        by_cases e : st' = st ∧ n = i
        · rw [if_pos e, if_pos ⟨by omega, e.1, by rw [e.2]; exact hon.mp d⟩]
        · rw [if_neg e]
          refine ite_iff ⟨fun z => ⟨by omega, z.2⟩, fun z => ⟨?_, z.2⟩⟩ rfl rfl
          have : n ≠ i := fun q => e ⟨z.2.1, q⟩
          omega
      · rw [if_neg d, w4 n st' hn h']
        refine ite_iff ⟨fun z => ⟨by omega, z.2⟩, fun z => ⟨?_, z.2⟩⟩ rfl rfl
        have : n ≠ i := fun q => d (hon.mpr (by rw [← q]; exact z.2.2))
        omega
    have e21 : (Mo_a1 st i w.2) 185 21 = y 185 21 := (k1 _ _ (by decide)).trans (w1 _ _ (by decide) (by decide) (by omega))
    have e202 : ∀ l, (Mo_a1 st i w.2) 202 l = w.2 202 l := fun l => k1 _ _ (by decide)
    have e22 : (Mo_a1 st i w.2) 185 22 = w.2 185 22 := k1 _ _ (by decide)
    have e202i : (Mo_a1 st i w.2) 202 i = x 202 i := by rw [e202, w3 i hi, if_neg (fun z => absurd z.1 (Nat.lt_irrefl _))]
    have ko : ∀ p j, p ≠ 198 → p ≠ 202 → ¬ (p = 185 ∧ j = 22) → (Mo_a1 st i w.2) p j = y p j := fun p j h1 h2 h3 => (k1 p j h1).trans (w1 p j h1 h2 h3)
    show _ ∧ _
    have ea : Mo_a2 st i w = (if bt1 (y 185 21) i ∧ x 202 i ≤ 0 then w.1 + 1 else w.1, (Mo_a3 i 0 (Mo_a1 st i w.2)).2) := by
      unfold Mo_a2
      rw [a3_eq, e21, e202i]
    rw [ea]
    generalize Mo_a1 st i w.2 = v at k2 e21 e202 e22 e202i ko ⊢
    have nx : ∀ {Z : Nat → Prop}, ¬ Z i → ∀ n, (n < i ∧ Z n ↔ n < i + 1 ∧ Z n) := fun {Z} hz n => ⟨fun q => ⟨by omega, q.2⟩, fun q => ⟨by
      have : n ≠ i := fun u => hz (by rw [← u]; exact q.2)
      omega, q.2⟩⟩
    have keep202 : ¬ (bt1 (y 185 21) i ∧ ¬ x 202 i ≤ 0) → ∀ l, l < 6 → w.2 202 l = if l < i + 1 ∧ bt1 (y 185 21) l ∧ ¬ x 202 l ≤ 0 then x 202 l - nI 1 else x 202 l := fun hz l hl => by
      rw [w3 l hl]
      exact ite_iff (nx (Z := fun l => bt1 (y 185 21) l ∧ ¬ x 202 l ≤ 0) hz l) rfl rfl
    have hcnt : (if bt1 (y 185 21) i ∧ x 202 i ≤ 0 then w.1 + 1 else w.1) = mx_lp (i + 1) (fun l c => if bt1 (y 185 21) l ∧ x 202 l ≤ 0 then c + 1 else c) 0 := by
      rw [w5]; rfl
    unfold Mo_a3
    rw [e21, e202i]
    by_cases d : bt1 (y 185 21) i
    · rw [if_pos d]
      by_cases f : x 202 i ≤ 0
      · rw [if_pos f]
        unfold Mo_hb
        refine ⟨fun p j h1 h2 h3 => (up_ne h3).trans (ko p j h1 h2 h3), ?_, fun l hl => ?_, fun n st' hn h' => ?_, hcnt⟩
        · show bs ((mx_up v 185 22 (v 185 22 ||| bit i)) 185 22) _
          rw [up_same, e22]
          refine bs_cg (bs_or w2 (bs_bit (by omega))) (fun n _ => ⟨fun q => ?_, fun q => ?_⟩)
          · rcases q with q | q
            · exact ⟨by omega, q.2⟩
            · exact ⟨by omega, by rw [q]; exact ⟨d, f⟩⟩
          · by_cases u : n = i
            · exact Or.inr u
            · exact Or.inl ⟨by omega, q.2⟩
        · show (mx_up v 185 22 (v 185 22 ||| bit i)) 202 l = _
          rw [up_neP (by decide), e202]
          exact keep202 (fun z => z.2 f) l hl
        · show (mx_up v 185 22 (v 185 22 ||| bit i)) 198 _ = _
          rw [up_neP (by decide)]
          exact k2 n st' hn h'
      · rw [if_neg f]
        unfold Mo_lo
        refine ⟨fun p j h1 h2 h3 => (up_neP h2).trans (ko p j h1 h2 h3), ?_, fun l hl => ?_, fun n st' hn h' => ?_, hcnt⟩
        · show bs ((mx_up v 202 i (v 202 i - nI 1)) 185 22) _
          rw [up_neP (by decide), e22]
          exact bs_cg w2 (fun n _ => nx (Z := fun l => bt1 (y 185 21) l ∧ x 202 l ≤ 0) (fun z => f z.2) n)
        · show (mx_up v 202 i (v 202 i - nI 1)) 202 l = _
          by_cases q : l = i
          · subst q; rw [up_same, e202i, if_pos ⟨by omega, d, f⟩]
          · rw [up_neK q, e202, w3 l hl]
            exact ite_iff ⟨fun z => ⟨by omega, z.2⟩, fun z => ⟨by omega, z.2⟩⟩ rfl rfl
        · show (mx_up v 202 i (v 202 i - nI 1)) 198 _ = _
          rw [up_neP (by decide)]
          exact k2 n st' hn h'
    · rw [if_neg d]
      exact ⟨ko, by
        show bs (v 185 22) _
        rw [e22]
        exact bs_cg w2 (fun n _ => nx (Z := fun l => bt1 (y 185 21) l ∧ x 202 l ≤ 0) (fun z => d z.1) n), fun l hl => (e202 l).trans (keep202 (fun z => d z.1) l hl), k2, hcnt⟩)
  obtain ⟨w1, w2, w3, w4, w5⟩ := h
  generalize mx_lp 6 (Mo_a2 st) (0, y) = w at w1 w2 w3 w4 w5 ⊢
  have e21 : w.2 185 21 = y 185 21 := w1 _ _ (by decide) (by decide) (by omega)
  rw [e21]
  refine ⟨fun p j h1 h2 h3 => (w1 p j h1 h2 (by omega)).trans (o0 p j (by omega)), b0, w2, fun l hl => ?_, fun n st' hn h' => ?_, ?_⟩
  · rw [w3 l hl]
    exact ite_iff ⟨fun z => z.2, fun z => ⟨hl, z⟩⟩ rfl rfl
  · rw [w4 n st' hn h']
    exact ite_iff ⟨fun z => z.2, fun z => ⟨hn, z⟩⟩ rfl rfl
  · rw [w5, lp_count, Nat.zero_add]
theorem renv_cg {st s r : Nat} {x y : mx_Mm} (h : ∀ p j, Mo_dep p j ∨ p = 188 ∨ p = 199 → y p j = x p j) : (∀ q n, rad st y q n ↔ rad st x q n) ∧ ∀ q, rfr st s r y q = rfr st s r x q := by
  have hd : ∀ p j, Mo_dep p j → y p j = x p j := fun p j k => h p j (Or.inl k)
  refine ⟨fun q n => ?_, fun q => ?_⟩
  · unfold rad Mo_pin
    rw [h 199 _ (Or.inr (Or.inr rfl)), Mo_in_cg hd, Mo_out_cg hd]
  · unfold rfr Mo_side
    rw [h 199 _ (Or.inr (Or.inr rfl)), h 188 _ (Or.inr (Or.inl rfl)), h 188 _ (Or.inr (Or.inl rfl))]
/-- the reference's packet as a whole -/
theorem pk_spec {r s st : Nat} {b : mx_Mm} (hst : st < 18) (hs : s < 6) (hr : r < 6) :
    (∀ p j, ¬ (198 ≤ p ∧ p < 206) → ¬ (p = 185 ∧ 19 ≤ j ∧ j < 23) → (Mo_pk r s st b).2 p j = b p j) ∧
    (∀ n st', n < 6 → st' < 18 → (Mo_pk r s st b).2 199 (18 * n + st') = if st' = st ∧ (¬ b 196 (18 * n + st) < 0 ∨ (n = s ∧ ¬ nI (Mo_m1 s st b) ≤ 0)) then nI 1 else b 199 (18 * n + st')) ∧
    (∀ j, (Mo_pk r s st b).2 200 j = if j = st ∧ Mo_rc r s st b ∧ (¬ (Mo_pk r s st b).2 199 (18 * r + st) = 0 ∨ nI (Mo_m1 r st b) = 0) then b 185 1 + nI 6 else b 200 j) ∧
    (∀ j, (Mo_pk r s st b).2 201 j = b 201 j + ((if Mo_rc r s st b ∧ j = 6 then nI 1 else 0) + if (Mo_rc r s st b ∧ (¬ (Mo_pk r s st b).2 199 (18 * r + st) = 0 ∨ nI (Mo_m1 r st b) = 0)) ∧ j = 7 then nI 1 else 0)) ∧
    ∀ K c, (∀ q, q < 6 → ¬ rfr st s r (Mo_pk r s st b).2 q = nI q) → (∀ q, q < 6 → ((q = s ∧ ¬ nI (Mo_m1 s st b) ≤ 0) ∨ (q = r ∧ Mo_rc r s st b ∧ (Mo_pk r s st b).2 199 (18 * r + st) = 0)) → rfr st s r (Mo_pk r s st b).2 q = -1) →
      Chn (fun q => (q = s ∧ ¬ nI (Mo_m1 s st b) ≤ 0) ∨ (q = r ∧ Mo_rc r s st b ∧ (Mo_pk r s st b).2 199 (18 * r + st) = 0)) (rgo st s r (Mo_pk r s st b).2) K c →
      (Mo_pk r s st b).2 185 19 = sI K (fun k => sI 6 (rxx st s r (Mo_pk r s st b).2 (c k))) ∧ (Mo_pk r s st b).2 185 20 = sI K (fun k => sI 6 (rdd st s r (Mo_pk r s st b).2 (c k))) ∧
      bs ((Mo_pk r s st b).2 185 21) (fun q => (q = s ∧ Mo_on s (st % 3) b) ∨ ∃ k, k < K ∧ c k = q ∧ Mo_on q (st % 3) b ∧ ¬ q = s) ∧
      bs ((Mo_pk r s st b).2 185 22) (fun l => l < 6 ∧ bt1 ((Mo_pk r s st b).2 185 21) l ∧ b 202 l ≤ 0) ∧
      (∀ l, l < 6 → (Mo_pk r s st b).2 202 l = if bt1 ((Mo_pk r s st b).2 185 21) l ∧ ¬ b 202 l ≤ 0 then b 202 l - nI 1 else b 202 l) ∧
      (Mo_pk r s st b).1 = ((List.range 6).filter (fun l => decide (bt1 ((Mo_pk r s st b).2 185 21) l ∧ b 202 l ≤ 0))).length ∧
      ∀ n st', n < 6 → st' < 18 → ift (st' = st ∧ (n = s ∨ ¬ b 196 (18 * n + st) < 0 ∨ (Mo_rc r s st b ∧ n = r) ∨ ((∃ k, k < K ∧ c k = n) ∧ (Mo_pk r s st b).2 199 (18 * n + st) = 0 ∧ Mo_on n (st % 3) b))) (b 185 1 + nI 8) (b 198 (18 * n + st')) ((Mo_pk r s st b).2 198 (18 * n + st')) := by
  obtain ⟨a1, a2, a3, a4⟩ := pA_spec (s := s) (b := b) hst
  unfold Mo_pk
  generalize Mo_pA s st b = x at a1 a2 a3 a4 ⊢
  have xd : ∀ p j, Mo_dep p j → x p j = b p j := fun p j h => a1 p j (by unfold Mo_dep at h; omega) (by unfold Mo_dep at h; omega) (by unfold Mo_dep at h; omega) (by unfold Mo_dep at h; omega) (by unfold Mo_dep at h; omega)
  have xm : Mo_m1 s st x = Mo_m1 s st b := Mo_m1_cg xd
  obtain ⟨b1, b2, b3⟩ := pB_spec (y := x) hst hs
  rw [xm] at b2 b3 ⊢
  generalize Mo_pB s st x = y at b1 b2 b3 ⊢
  have yd : ∀ p j, Mo_dep p j → y p j = b p j := fun p j h => (b1 p j (by unfold Mo_dep at h; omega) (by unfold Mo_dep at h; omega)).trans (xd p j h)
  have ym : Mo_m1 r st y = Mo_m1 r st b := Mo_m1_cg yd
  have yo : ∀ p j, p ≠ 198 → p ≠ 199 → p ≠ 203 → p ≠ 204 → p ≠ 205 → ¬ (p = 185 ∧ 19 ≤ j ∧ j < 23) → y p j = b p j := fun p j h1 h2 h3 h4 h5 h6 => (b1 p j h1 h2).trans (a1 p j h1 h3 h4 h5 h6)
  have yrc : Mo_rc r s st y ↔ Mo_rc r s st b := by
    unfold Mo_rc
    rw [yo 187 _ (by decide) (by decide) (by decide) (by decide) (by decide) (by omega), yo 200 _ (by decide) (by decide) (by decide) (by decide) (by decide) (by omega), yo 185 1 (by decide) (by decide) (by decide) (by decide) (by decide) (by omega)]
  obtain ⟨g1, g2, g3, g4⟩ := mreg_spec (s := s) (r := r) (y := y) hst
  obtain ⟨c1, c2⟩ := pC_spec (w := Mo_m1 s st b) (r := r) hst hs hr (fun n hn => (b1 _ _ (by decide) (by decide)).trans (a3 n hn).1)
  generalize Mo_reg r s st y = v at g1 g2 g3 g4 c1
  generalize Mo_pC r s st (Mo_m1 s st b) y = z at c1 c2 ⊢
  have zo : ∀ p j, p ≠ 198 → p ≠ 199 → p ≠ 200 → p ≠ 201 → p ≠ 203 → p ≠ 204 → p ≠ 205 → ¬ (p = 185 ∧ 19 ≤ j ∧ j < 23) → z p j = b p j := fun p j h1 h2 h3 h4 h5 h6 h7 h8 => (c1 p j h5).trans ((g1 p j h1 h3 h4).trans (yo p j h1 h2 h5 h6 h7 h8))
  have z99 : ∀ j, z 199 j = y 199 j := fun j => (c1 _ _ (by decide)).trans (g1 _ _ (by decide) (by decide) (by decide))
  -- the sweeps and the arrival keep all this
  have dz : ∀ p j, p ≠ 203 → p ≠ 204 → p ≠ 205 → ¬ (p = 185 ∧ 19 ≤ j ∧ j < 22) → (Mo_pD r s st z) p j = z p j := by
    intro p j h1 h2 h3 h4
    refine lp_keep (fun a : mx_Mm => a p j = z p j) 6 rfl (fun _ u _ hu => lp_keep (fun a : mx_Mm => a p j = z p j) 6 hu (fun q u _ hu => ?_))
    unfold Mo_q1
    split
    · unfold Mo_put
      refine lp_keep (fun a : mx_Mm => a p j = z p j) 6 ?_ (fun n u _ hu => ?_)
      · unfold Mo_po1 Mo_rb Mo_po0
        split
        · rw [up_ne (by omega), up_neP h2]; exact hu
        · rw [up_neP h2]; exact hu
      · unfold Mo_po2 Mo_xs Mo_x2 Mo_x1
        split
        · split
          · rw [up_neP h3, up_neP h1, up_ne (by omega)]; exact hu
          · rw [up_ne (by omega), up_ne (by omega)]; exact hu
        · exact hu
    · exact hu
  have ar : ∀ (u : mx_Mm) p j, p ≠ 198 → p ≠ 202 → ¬ (p = 185 ∧ 21 ≤ j ∧ j < 23) → (Mo_arr s st u).2 p j = u p j := by
    intro u p j h1 h2 h3
    refine lp_keep (fun a : Nat × mx_Mm => a.2 p j = u p j) 6 (m := (0, Mo_a0 s st u)) ?_ (fun l a _ ha => ?_)
    · show (Mo_a0 s st u) p j = u p j
      unfold Mo_a0 Mo_rb
      split
      · rw [up_ne (by omega)]
      · rfl
    · have e : (Mo_a1 st l a.2) p j = u p j := by
        unfold Mo_a1
        split
        · rw [keep_ne (fun k => h1 k.1)]; exact ha
        · exact ha
      show (Mo_a3 l a.1 (Mo_a1 st l a.2)).2 p j = u p j
      unfold Mo_a3 Mo_hb Mo_lo
      split
      · split
        · show (mx_up _ 185 22 _) p j = _
          rw [up_ne (by omega)]; exact e
        · show (mx_up _ 202 l _) p j = _
          rw [up_neP h2]; exact e
      · exact e
  have fz : ∀ p j, p ≠ 198 → p ≠ 202 → p ≠ 203 → p ≠ 204 → p ≠ 205 → ¬ (p = 185 ∧ 19 ≤ j ∧ j < 23) → (Mo_arr s st (Mo_pD r s st z)).2 p j = z p j := fun p j h1 h2 h3 h4 h5 h6 => (ar _ p j h1 h2 (by omega)).trans (dz p j h3 h4 h5 (by omega))
  have f99 : ∀ j, (Mo_arr s st (Mo_pD r s st z)).2 199 j = y 199 j := fun j => (fz _ _ (by decide) (by decide) (by decide) (by decide) (by decide) (by omega)).trans (z99 j)
  have stq : (Mo_rc r s st y ∧ (¬ y 199 (18 * r + st) = 0 ∨ nI (Mo_m1 r st y) = 0)) ↔ (Mo_rc r s st b ∧ (¬ (Mo_arr s st (Mo_pD r s st z)).2 199 (18 * r + st) = 0 ∨ nI (Mo_m1 r st b) = 0)) := by
    rw [yrc, f99, ym]
  have y18 : y 185 1 = b 185 1 := yd _ _ (Or.inl ⟨rfl, rfl⟩)
  refine ⟨fun p j h1 h2 => ?_, fun n st' hn h' => ?_, fun j => ?_, fun j => ?_, fun K c hqq hS0 hC => ?_⟩
  · rw [fz p j (by omega) (by omega) (by omega) (by omega) (by omega) h2]
    exact zo p j (by omega) (by omega) (by omega) (by omega) (by omega) (by omega) (by omega) h2
  · rw [f99, b3 n st' hn h', a1 196 _ (by decide) (by decide) (by decide) (by decide) (by omega), a1 199 _ (by decide) (by decide) (by decide) (by decide) (by omega)]
  · rw [fz 200 j (by decide) (by decide) (by decide) (by decide) (by decide) (by omega), c1 200 j (by decide), g3 j]
    exact ite_iff (and_congr Iff.rfl stq) (by rw [y18]) (yo 200 j (by decide) (by decide) (by decide) (by decide) (by decide) (by omega))
  · have u1 : (if Mo_rc r s st y ∧ j = 6 then nI 1 else 0) = if Mo_rc r s st b ∧ j = 6 then nI 1 else 0 := ite_iff (and_congr yrc Iff.rfl) rfl rfl
    have u2 : (if (Mo_rc r s st y ∧ (¬ y 199 (18 * r + st) = 0 ∨ nI (Mo_m1 r st y) = 0)) ∧ j = 7 then nI 1 else 0) = if (Mo_rc r s st b ∧ (¬ (Mo_arr s st (Mo_pD r s st z)).2 199 (18 * r + st) = 0 ∨ nI (Mo_m1 r st b) = 0)) ∧ j = 7 then nI 1 else 0 := ite_iff (and_congr stq Iff.rfl) rfl rfl
    rw [fz 201 j (by decide) (by decide) (by decide) (by decide) (by decide) (by omega), c1 201 j (by decide), g4 j, u1, u2, yo 201 j (by decide) (by decide) (by decide) (by decide) (by decide) (by omega)]
  · -- the way of the packet
    obtain ⟨er, ef⟩ := renv_cg (st := st) (s := s) (r := r) (x := z) (y := (Mo_arr s st (Mo_pD r s st z)).2) (fun p j h => fz p j (by unfold Mo_dep at h; omega) (by unfold Mo_dep at h; omega) (by unfold Mo_dep at h; omega) (by unfold Mo_dep at h; omega) (by unfold Mo_dep at h; omega) (by unfold Mo_dep at h; omega))
    have ex : ∀ q n, rxx st s r (Mo_arr s st (Mo_pD r s st z)).2 q n = rxx st s r z q n := fun q n => ite_iff (by rw [er, ef]) rfl rfl
    have ed : ∀ q n, rdd st s r (Mo_arr s st (Mo_pD r s st z)).2 q n = rdd st s r z q n := fun q n => ite_iff (by rw [er, ef, ef]) rfl rfl
    have eg : ∀ q n, rgo st s r (Mo_arr s st (Mo_pD r s st z)).2 q n ↔ rgo st s r z q n := fun q n => by
      unfold rgo
      rw [er, ef, ef]
    have hC' : Chn (fun q => (q = s ∧ ¬ nI (Mo_m1 s st b) ≤ 0) ∨ (q = r ∧ Mo_rc r s st b ∧ (Mo_arr s st (Mo_pD r s st z)).2 199 (18 * r + st) = 0)) (rgo st s r z) K c := by
      obtain ⟨q1, q2, q3, q4, q5, q6⟩ := hC
      exact ⟨q1, q2, q3, fun k hk => (q4 k hk).imp id (fun ⟨j, hj, w⟩ => ⟨j, hj, (eg _ _).mp w⟩), q5, fun k n hk hn w => q6 k n hk hn ((eg _ _).mpr w)⟩
    have z3 : ∀ n, n < 6 → ((¬ z 203 n = 0) ↔ ((n = s ∧ ¬ nI (Mo_m1 s st b) ≤ 0) ∨ (n = r ∧ Mo_rc r s st b ∧ (Mo_arr s st (Mo_pD r s st z)).2 199 (18 * r + st) = 0))) := fun n hn => by
      rw [c2 n hn, yrc, f99]
    have z4 : ∀ n, n < 6 → z 204 n = 0 := fun n hn => (c1 _ _ (by decide)).trans ((g1 _ _ (by decide) (by decide) (by decide)).trans ((b1 _ _ (by decide) (by decide)).trans (a3 n hn).2.1))
    have z5 : ∀ n, n < 6 → z 205 n = -1 := fun n hn => (c1 _ _ (by decide)).trans ((g1 _ _ (by decide) (by decide) (by decide)).trans ((b1 _ _ (by decide) (by decide)).trans (a3 n hn).2.2))
    have zc : ∀ j, 19 ≤ j → j < 23 → z 185 j = 0 := fun j h1 h2 => (c1 _ _ (by decide)).trans ((g1 _ _ (by decide) (by decide) (by decide)).trans ((b1 _ _ (by decide) (by decide)).trans (a4 j h1 h2)))
    have zdep : ∀ p j, Mo_dep p j → z p j = b p j := fun p j h => zo p j (by unfold Mo_dep at h; omega) (by unfold Mo_dep at h; omega) (by unfold Mo_dep at h; omega) (by unfold Mo_dep at h; omega) (by unfold Mo_dep at h; omega) (by unfold Mo_dep at h; omega) (by unfold Mo_dep at h; omega) (by unfold Mo_dep at h; omega)
    have hR : Rsw st s r (fun q => (q = s ∧ ¬ nI (Mo_m1 s st b) ≤ 0) ∨ (q = r ∧ Mo_rc r s st b ∧ (Mo_arr s st (Mo_pD r s st z)).2 199 (18 * r + st) = 0)) K c z z := by
      refine ⟨fun _ _ _ _ _ _ => rfl, fun q hq h => ?_, fun q hq h => (z3 q hq).mpr h, fun q hq h => absurd (z4 q hq) h, fun q n hq hn h => absurd (z4 q hq) h, ?_, ?_, ?_⟩
      · have h' := (z3 q hq).mp h
        refine ⟨hC'.2.2.2.2.1 q hq h', ?_⟩
        rw [z5 q hq, ← ef]
        exact (hS0 q hq h').symm
      · rw [zc 19 (by omega) (by omega)]
        exact ((sg_cg 6 (fun q hq => if_neg (fun w => w (z4 q hq)))).trans (sI_0 6)).symm
      · rw [zc 20 (by omega) (by omega)]
        exact ((sg_cg 6 (fun q hq => if_neg (fun w => w (z4 q hq)))).trans (sI_0 6)).symm
      · rw [zc 21 (by omega) (by omega)]
        exact bs_cg bs_0 (fun q _ => ⟨fun w => w.elim, fun w => absurd (z4 q w.1) w.2.1⟩)
    obtain ⟨d0, dput⟩ := pD_spec (r := r) hs (fun q hq => by rw [← ef]; exact hqq q hq) hC' hR
    obtain ⟨d1, d2, d3, d4, d5, d19, d20, d21⟩ := d0
    have dz2 := dz
    have d22 : (Mo_pD r s st z) 185 22 = nI 0 := (dz 185 22 (by decide) (by decide) (by decide) (by omega)).trans (zc 22 (by omega) (by omega))
    obtain ⟨r1, r2, r3, r4, r5, r6⟩ := arr_spec hst hs d21 d22
    generalize Mo_pD r s st z = u at d1 d2 d3 d4 d5 d19 d20 d21 d22 dput r1 r2 r3 r4 r5 r6 dz2 f99 ex ed ⊢
    have hput : ∀ q, q < 6 → ((¬ u 204 q = 0) ↔ ∃ k, k < K ∧ c k = q) := fun q hq => ⟨fun w => (d2 q hq (d4 q hq w)).1, fun ⟨k, hk, e⟩ => by rw [← e]; exact dput k hk⟩
    have hcar : ∀ q, q < 6 → ((¬ u 203 q = 0) ↔ ∃ k, k < K ∧ c k = q) := fun q hq => ⟨fun w => (d2 q hq w).1, fun w => d4 q hq ((hput q hq).mpr w)⟩
    have ud : ∀ p j, Mo_dep p j → u p j = b p j := fun p j h => (d1.dep p j h).trans (zdep p j h)
    have u202 : ∀ l, u 202 l = b 202 l := fun l => (dz2 _ _ (by decide) (by decide) (by decide) (by omega)).trans (zo _ _ (by decide) (by decide) (by decide) (by decide) (by decide) (by decide) (by decide) (by omega))
    refine ⟨?_, ?_, ?_, ?_, fun l hl => ?_, ?_, fun n st' hn h' => ?_⟩
    · rw [r1 185 19 (by decide) (by decide) (by omega), d19, sI_mem (fun q => sI 6 (rxx st s r z q)) c K hC'.2.1 hC'.2.2.1 (fun q => ¬ u 204 q = 0) hput]
      exact sg_cg K (fun k _ => sg_cg 6 (fun n _ => (ex (c k) n).symm))
    · rw [r1 185 20 (by decide) (by decide) (by omega), d20, sI_mem (fun q => sI 6 (rdd st s r z q)) c K hC'.2.1 hC'.2.2.1 (fun q => ¬ u 204 q = 0) hput]
      exact sg_cg K (fun k _ => sg_cg 6 (fun n _ => (ed (c k) n).symm))
    · refine bs_cg r2 (fun q _ => ?_)
      rw [Mo_on_cg (x := z) (b := b) zdep, Mo_on_cg (x := u) (b := b) ud]
      constructor
      · rintro (w | w)
        · obtain ⟨k, hk, e⟩ := (hput q w.1).mp w.2.1
          exact Or.inr ⟨k, hk, e, w.2.2⟩
        · exact Or.inl w
      · rintro (w | ⟨k, hk, e, w⟩)
        · exact Or.inr w
        · have hq : q < 6 := by rw [← e]; exact hC'.2.1 k hk
          exact Or.inl ⟨hq, (hput q hq).mpr ⟨k, hk, e⟩, w⟩
    · refine bs_cg r3 (fun l _ => ?_)
      rw [u202]
    · rw [r4 l hl, u202]
    · rw [r6]
      congr 2
      funext l
      rw [u202]
    · have e8 : u 198 (18 * n + st') = if Mo_rc r s st y ∧ st' = st ∧ n = r then y 185 1 + nI 8 else y 198 (18 * n + st') := (dz2 _ _ (by decide) (by decide) (by decide) (by omega)).trans ((c1 _ _ (by decide)).trans (g2 n st' hn h'))
      have u18 : u 185 1 = b 185 1 := ud _ _ (Or.inl ⟨rfl, rfl⟩)
      have u99 : u 199 (18 * n + st) = y 199 (18 * n + st) := (dz2 _ _ (by decide) (by decide) (by decide) (by omega)).trans (z99 _)
      rw [r5 n st' hn h']
      have hc : (st' = st ∧ ¬ u 203 n = 0 ∧ u 199 (18 * n + st) = 0 ∧ Mo_on n (st % 3) u) ↔ (st' = st ∧ (∃ k, k < K ∧ c k = n) ∧ (Mo_arr s st u).2 199 (18 * n + st) = 0 ∧ Mo_on n (st % 3) b) := by
        rw [hcar n hn, u99, f99, Mo_on_cg (x := u) (b := b) ud]
      have hy : y 198 (18 * n + st') = if st' = st ∧ (n = s ∨ ¬ b 196 (18 * n + st) < 0) then b 185 1 + nI 8 else b 198 (18 * n + st') := by
        rw [b2 n st' hn h', a1 196 _ (by decide) (by decide) (by decide) (by decide) (by omega), a1 185 1 (by decide) (by decide) (by decide) (by decide) (by omega), a2 n st' h']
        by_cases q : st' = st ∧ (¬ b 196 (18 * n + st) < 0 ∨ (n = s ∧ ¬ nI (Mo_m1 s st b) ≤ 0))
        · rw [if_pos q, if_pos ⟨q.1, q.2.elim Or.inr (fun w => Or.inl w.1)⟩]
        · rw [if_neg q]
          refine ite_iff ⟨fun w => ⟨w.1, Or.inl w.2⟩, fun w => ⟨w.1, w.2.elim id (fun v => absurd ⟨w.1, Or.inl v⟩ q)⟩⟩ rfl rfl
      by_cases q : st' = st ∧ ¬ u 203 n = 0 ∧ u 199 (18 * n + st) = 0 ∧ Mo_on n (st % 3) u
      · rw [if_pos q, u18]
        have q' := hc.mp q
        exact ⟨fun _ => rfl, fun w => absurd ⟨q'.1, Or.inr (Or.inr (Or.inr q'.2))⟩ w⟩
      · rw [if_neg q, e8]
        by_cases p : Mo_rc r s st y ∧ st' = st ∧ n = r
        · rw [if_pos p, y18]
          exact ⟨fun _ => rfl, fun w => absurd ⟨p.2.1, Or.inr (Or.inr (Or.inl ⟨yrc.mp p.1, p.2.2⟩))⟩ w⟩
        · rw [if_neg p, hy]
          refine ⟨fun w => if_pos ⟨w.1, ?_⟩, fun w => if_neg (fun k => w ⟨k.1, k.2.elim Or.inl (fun v => Or.inr (Or.inl v))⟩)⟩
          rcases w.2 with v | v | v | v
          · exact Or.inl v
          · exact Or.inr v
          · exact absurd ⟨yrc.mpr v.1, w.1, v.2⟩ p
          · exact absurd (hc.mpr ⟨w.1, v⟩) q
