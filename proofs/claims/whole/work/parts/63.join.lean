/-! class and reference side by side: members -/
theorem ix3 {l g l' g' : Nat} (h : g < 3) (h' : g' < 3) : 3 * l + g = 3 * l' + g' ↔ l = l' ∧ g = g' := by
  constructor
  · intro e
    have : l = l' := by omega
    exact ⟨this, by omega⟩
  · rintro ⟨e1, e2⟩; rw [e1, e2]
theorem ix12 {l h g l' h' g' : Nat} (hg : g < 3) (hg' : g' < 3) (hh : h < 4) (hh' : h' < 4) : 12 * l + 3 * h + g = 12 * l' + 3 * h' + g' ↔ l = l' ∧ h = h' ∧ g = g' := by
  constructor
  · intro e
    have e1 : l = l' := by omega
    have e2 : h = h' := by omega
    exact ⟨e1, e2, by omega⟩
  · rintro ⟨e1, e2, e3⟩; rw [e1, e2, e3]
theorem S_mk.up {a b : mx_Mm} (h : S_mk a b) {l g : Nat} (hl : l < 6) (hg : g < 3) {v : Int32} : S_mk (mx_up a (43 + l) g v) (mx_up b 190 (3 * l + g) v) := by
  refine ⟨?_, fun l' g' hl' hg' => ?_⟩
  · rw [up_neP (by omega), up_neP (by omega)]; exact h.1
  · by_cases e : l' = l ∧ g' = g
    · rw [e.1, e.2, up_same, up_same]
    · rw [up_ne (by omega), up_neK (fun z => e ((ix3 hg' hg).mp z))]
      exact h.2 l' g' hl' hg'
theorem S_mem.upr {a b : mx_Mm} (h : S_mem a b) {l g : Nat} (hl : l < 6) (hg : g < 3) {v : Int32} : S_mem (mx_up a (50 + l) g v) (mx_up b 191 (3 * l + g) v) := fun l' g' hl' hg' => by
  refine ⟨?_, ?_⟩
  · rw [up_neP (by omega)]
    refine bs_cg (h l' g' hl' hg').1 (fun k _ => ?_)
    rw [up_neP (by decide)]
  · by_cases e : l' = l ∧ g' = g
    · rw [e.1, e.2, up_same, up_same]
    · rw [up_ne (by omega), up_neK (fun z => e ((ix3 hg' hg).mp z))]
      exact (h l' g' hl' hg').2
theorem S_mem.upm {a b : mx_Mm} (h : S_mem a b) {l k g : Nat} (hl : l < 6) (hk : k < 4) (hg : g < 3) {v w : Int32} (hv : bs v (fun j => j < 4 ∧ ¬ (mx_up b 189 (12 * l + 3 * k + g) w) 189 (12 * l + 3 * j + g) = 0)) : S_mem (mx_up a (36 + l) g v) (mx_up b 189 (12 * l + 3 * k + g) w) := fun l' g' hl' hg' => by
  refine ⟨?_, ?_⟩
  · by_cases e : l' = l ∧ g' = g
    · rw [e.1, e.2, up_same]; exact hv
    · rw [up_ne (by omega)]
      refine bs_cg (h l' g' hl' hg').1 (fun j _ => and_congr_right (fun hj => ?_))
      rw [up_neK (fun z => e (by
        have := (ix12 hg' hg hj hk).mp z
        exact ⟨this.1, this.2.2⟩))]
  · rw [up_neP (by omega), up_neP (by decide)]
    exact (h l' g' hl' hg').2
/-- a change of the class's LANs and of the reference's members and marks -/
theorem lan_pre {r t : Nat} {a b a' b' : mx_Mm} (h : Core r t a b) (ha : ∀ p j, p ≠ 2 → p < 36 ∨ 56 ≤ p → a' p j = a p j) (hb : ∀ p j, p < 189 ∨ 192 ≤ p → b' p j = b p j) (hmk : S_mk a' b') (hme : S_mem a' b') (hk1 : Tr_ok r a') (hk2 : Mo_ok r b') : Cpre r t a' b' := by
  obtain ⟨⟨ht, hb1⟩, hn, -, -, hke, hsw, hq, hv, hc, hlo, -, -⟩ := h.pre
  refine ⟨⟨ht, (hb _ _ (by omega)).trans hb1⟩, hn.fr (fun p j _ _ => ha p j (by omega) (by omega)) (fun p j _ _ => hb p j (by omega)), hmk, hme, hke.fr (fun p j _ _ => ha p j (by omega) (by omega)) (fun j => hb _ j (by omega)), fun st h1 => ?_, hq.fr (fun j => ha _ j (by omega) (by omega)) (fun j => hb _ j (by omega)), hv.fr (fun p j _ _ => ha p j (by omega) (by omega)) (fun p j _ => hb p j (by omega)), hc.fr (fun j => ha _ j (by omega) (by omega)) (fun j => hb _ j (by omega)), hlo.fr (fun j => ha _ j (by omega) (by omega)) (fun j => hb _ j (by omega)), hk1, hk2⟩
  rw [ha 77 st (by omega) (by omega)]
  refine bs_cg (hsw st h1) (fun n _ => ?_)
  rw [hb 185 1 (by omega), hb 199 _ (by omega), hb 198 _ (by omega)]
theorem report_pair {l g : Nat} {x : Int32} {a b : mx_Mm} (hl : l < 6) (hg : g < 3) (h1 : S_mk a b) (h2 : S_mem a b) {k : Nat} (e : x = nI k) : S_mk (La_report l k g a) (Mo_report l x g b) ∧ S_mem (La_report l k g a) (Mo_report l x g b) := by
  unfold La_report Mo_report
  rw [h1.1, e]
  have q1 : S_mk (mx_up a (43 + l) g (b 185 1 + nI 12)) (mx_up b 190 (3 * l + g) (b 185 1 + nI 12)) := h1.up hl hg
  have q2 : S_mem (mx_up a (43 + l) g (b 185 1 + nI 12)) (mx_up b 190 (3 * l + g) (b 185 1 + nI 12)) := h2.fr (fun p j _ => up_neP (by omega)) (fun p j _ => up_neP (by omega))
  exact ⟨q1.fr (fun p j _ => up_neP (by omega)) (fun p j _ => up_neP (by omega)), q2.upr hl hg⟩
theorem rep_a {l k g p j : Nat} {a : mx_Mm} (hl : l < 6) (hp : p < 43 ∨ 56 ≤ p) : (La_report l k g a) p j = a p j := by
  unfold La_report
  rw [up_neP (by omega), up_neP (by omega)]
theorem rep_b {l g p j : Nat} {x : Int32} {b : mx_Mm} (hp : p ≠ 190 ∧ p ≠ 191) : (Mo_report l x g b) p j = b p j := by
  unfold Mo_report
  rw [up_neP (by omega), up_neP (by omega)]
theorem join_core {r t l k g : Nat} {a b : mx_Mm} (hr : r < 6) (hl : l < 6) (hk : k < 4) (hg : g < 3) (h : Core r t a b) : Core r t (Tr_settle r (La_admit l k g a)) (Mo_settle r (D_jn l k g b)) ∧ (∀ p j, p = 0 ∨ 56 ≤ p → ¬ Tr_fp p → (Tr_settle r (La_admit l k g a)) p j = a p j) ∧ ∀ p j, p < 189 ∨ 192 ≤ p → ¬ Mo_fp p → (Mo_settle r (D_jn l k g b)) p j = b p j := by
  obtain ⟨-, -, hmk, hme, -, -, -, -, -, -, -, -, ka, kb⟩ := id h
  have q2 : S_mem (mx_up a (36 + l) g (a (36 + l) g ||| bit k)) (mx_up b 189 (12 * l + 3 * k + g) (nI 1)) := hme.upm hl hk hg (by
    refine bs_cg (bs_or (hme l g hl hg).1 (bs_bit (by omega))) (fun j _ => ?_)
    by_cases e : j = k
    · subst e
      rw [up_same]
      exact ⟨fun _ => ⟨hk, n10⟩, fun _ => Or.inr rfl⟩
    · constructor
      · rintro (z | z)
        · exact ⟨z.1, by rw [up_neK (by omega)]; exact z.2⟩
        · exact absurd z e
      · intro z
        refine Or.inl ⟨z.1, ?_⟩
        have := z.2
        rw [up_neK (by omega)] at this
        exact this)
  have q1 : S_mk (mx_up a (36 + l) g (a (36 + l) g ||| bit k)) (mx_up b 189 (12 * l + 3 * k + g) (nI 1)) := hmk.fr (fun p j _ => up_neP (by omega)) (fun p j _ => up_neP (by omega))
  obtain ⟨p1, p2⟩ := report_pair hl hg q1 q2 (k := k) rfl
  have fa : ∀ p j, p < 36 ∨ 56 ≤ p → (La_admit l k g a) p j = a p j := fun p j hp => (rep_a hl (by omega)).trans (up_neP (by omega))
  have fb : ∀ p j, p < 189 ∨ 192 ≤ p → (D_jn l k g b) p j = b p j := fun p j hp => (rep_b (by omega)).trans (up_neP (by omega))
  obtain ⟨s1, s2, s3⟩ := settle_core hr (lan_pre h (fun p j _ hp => fa p j hp) fb p1 p2 (Tr_admit_ok hl ka) (D_jn_ok kb))
  exact ⟨s1, fun p j h1 h2 => (s2 p j h2).trans (fa p j (by omega)), fun p j h1 h2 => (s3 p j h2).trans (fb p j h1)⟩
/-- the lowest member -/
theorem low_eq {l g : Nat} {a b : mx_Mm} (hl : l < 6) (hg : g < 3) (h : S_mem a b) : pm_fd 4 (La_hs l g a) = pm_fd 4 (Mo_lh l g b) := pm_fd_congr 4 (fun k hk => by
  unfold La_hs Mo_lh
  refine decide_eq_decide.mpr ?_
  rw [bs_hold (h l g hl hg).1 (by omega)]
  exact ⟨fun z => z.2, fun z => ⟨hk, z⟩⟩)
theorem nI_nn {n : Nat} (h : n < 2 ^ 31) : ¬ nI n < 0 := Int32.not_lt.mpr (nI_le (Nat.zero_le _) h)
theorem low_lt {l g : Nat} {b : mx_Mm} : Mo_low l g b < 0 ↔ ¬ pm_fd 4 (Mo_lh l g b) < 4 := by
  unfold Mo_low
  by_cases c : pm_fd 4 (Mo_lh l g b) < 4
  · rw [if_pos c]
    exact ⟨fun z => absurd z (nI_nn (by omega)), fun z => absurd c z⟩
  · rw [if_neg c]
    exact ⟨fun _ => c, fun _ => by decide⟩
theorem mem_z {l g : Nat} {a b : mx_Mm} (hl : l < 6) (hg : g < 3) (h : S_mem a b) : a (36 + l) g = 0 ↔ Mo_low l g b < 0 := by
  rw [low_lt, bs_z (h l g hl hg).1]
  constructor
  · intro z c
    have := (pm_fd_spec 4 (Mo_lh l g b)).2 c
    unfold Mo_lh at this
    exact z _ (by omega) ⟨c, of_decide_eq_true this⟩
  · rintro z n hn ⟨h4, w⟩
    have hle := pm_fd_le 4 (Mo_lh l g b)
    have := (pm_fd_spec 4 (Mo_lh l g b)).1 n (by omega)
    unfold Mo_lh at this
    exact of_decide_eq_false this w
/-- the lowest member's report -/
theorem rl_pair {l g : Nat} {a b : mx_Mm} (hl : l < 6) (hg : g < 3) (h1 : S_mk a b) (h2 : S_mem a b) : S_mk (La_rl l g a) (if Mo_low l g b < 0 then b else Mo_report l (Mo_low l g b) g b) ∧ S_mem (La_rl l g a) (if Mo_low l g b < 0 then b else Mo_report l (Mo_low l g b) g b) := by
  unfold La_rl
  rw [low_eq hl hg h2]
  by_cases c : pm_fd 4 (Mo_lh l g b) < 4
  · rw [if_pos c, if_neg (fun z => low_lt.mp z c)]
    exact report_pair hl hg h1 h2 (if_pos c)
  · rw [if_neg c, if_pos (low_lt.mpr c)]
    exact ⟨h1, h2⟩
theorem leave_core {r t l k g : Nat} {x : Int32} {a b : mx_Mm} (hr : r < 6) (hl : l < 6) (hk : k < 4) (hg : g < 3) (h : Core r t a b) : Core r t (Tr_settle r (La_dismiss l k g x a)) (Mo_settle r (D_l1 l k g x (D_l0 l k g b))) ∧ (∀ p j, p = 0 ∨ 56 ≤ p → ¬ Tr_fp p → (Tr_settle r (La_dismiss l k g x a)) p j = a p j) ∧ ∀ p j, p < 189 ∨ 192 ≤ p → ¬ Mo_fp p → (Mo_settle r (D_l1 l k g x (D_l0 l k g b))) p j = b p j := by
  obtain ⟨-, -, hmk, hme, -, -, -, -, -, -, -, -, ka, kb⟩ := id h
  have q2 : S_mem (La_d1 l k g a) (D_l0 l k g b) := hme.upm hl hk hg (by
    refine bs_cg (bs_an (hme l g hl hg).1 (bs_bit (by omega))) (fun j _ => ?_)
    by_cases e : j = k
    · subst e
      rw [up_same]
      exact ⟨fun z => absurd rfl z.2, fun z => absurd rfl z.2⟩
    · constructor
      · rintro ⟨z, -⟩
        exact ⟨z.1, by rw [up_neK (by omega)]; exact z.2⟩
      · intro z
        refine ⟨⟨z.1, ?_⟩, e⟩
        have := z.2
        rw [up_neK (by omega)] at this
        exact this)
  have q1 : S_mk (La_d1 l k g a) (D_l0 l k g b) := hmk.fr (fun p j _ => up_neP (by omega)) (fun p j _ => up_neP (by omega))
  have fa0 : ∀ p j, p < 36 ∨ 42 ≤ p → (La_d1 l k g a) p j = a p j := fun p j hp => up_neP (by omega)
  have fb0 : ∀ p j, p ≠ 189 → (D_l0 l k g b) p j = b p j := fun p j hp => up_neP hp
  have k1 : Tr_ok r (La_dismiss l k g x a) := Tr_dismiss_ok hl ka
  have k2 : Mo_ok r (D_l1 l k g x (D_l0 l k g b)) := D_l1_ok (kb.upP (by omega))
  unfold La_dismiss at k1 ⊢
  generalize La_d1 l k g a = a0 at q1 q2 fa0 k1 ⊢
  generalize D_l0 l k g b = b0 at q1 q2 fb0 k2 ⊢
  have er : a0 (50 + l) g = b0 191 (3 * l + g) := (q2 l g hl hg).2
  have main : S_mk (La_d3 l k g x a0) (D_l1 l k g x b0) ∧ S_mem (La_d3 l k g x a0) (D_l1 l k g x b0) ∧ (∀ p j, p < 36 ∨ 56 ≤ p → (La_d3 l k g x a0) p j = a0 p j) ∧ ∀ p j, p < 189 ∨ 192 ≤ p → (D_l1 l k g x b0) p j = b0 p j := by
    unfold La_d3 D_l1
    by_cases c : x = 0 ∨ ¬ a0 (50 + l) g = nI k
    · rw [if_pos c, if_neg (fun z => by
        rcases c with c | c
        · exact z.1 c
        · exact c (er.trans z.2))]
      exact ⟨q1, q2, fun _ _ _ => rfl, fun _ _ _ => rfl⟩
    · have c' := not_or.mp c
      have c2 : ¬ x = 0 ∧ b0 191 (3 * l + g) = nI k := ⟨c'.1, er.symm.trans (Decidable.not_not.mp c'.2)⟩
      rw [if_neg c, if_pos c2]
      by_cases d : a0 (36 + l) g = 0
      · have d' := (mem_z hl hg q2).mp d
        rw [if_neg (show ¬ ¬ a0 (36 + l) g = 0 from fun z => z d), if_pos d']
        unfold La_d2 D_l2 D_l3
        have v1 : S_mem (mx_up a0 (50 + l) g (-1)) (mx_up b0 191 (3 * l + g) (-1)) := q2.upr hl hg
        have v2 : S_mk (mx_up a0 (50 + l) g (-1)) (mx_up b0 191 (3 * l + g) (-1)) := q1.fr (fun p j _ => up_neP (by omega)) (fun p j _ => up_neP (by omega))
        have fa1 : ∀ p j, p < 36 ∨ 56 ≤ p → (mx_up a0 (50 + l) g (-1)) p j = a0 p j := fun p j hp => up_neP (by omega)
        have fb1 : ∀ p j, p < 189 ∨ 192 ≤ p → (mx_up b0 191 (3 * l + g) (-1)) p j = b0 p j := fun p j hp => up_neP (by omega)
        generalize mx_up a0 (50 + l) g (-1) = a1 at v1 v2 fa1 ⊢
        generalize mx_up b0 191 (3 * l + g) (-1) = b1 at v1 v2 fb1 ⊢
        have ev : pm_n (a1 (43 + l) g) (a1 2 0 + nI 2) = if b1 190 (3 * l + g) ≤ b1 185 1 + nI 2 then b1 190 (3 * l + g) else b1 185 1 + nI 2 := by
          rw [v2.1, v2.2 l g hl hg]; rfl
        rw [ev]
        exact ⟨v2.up hl hg, v1.fr (fun p j _ => up_neP (by omega)) (fun p j _ => up_neP (by omega)), fun p j hp => (up_neP (by omega)).trans (fa1 p j hp), fun p j hp => (up_neP (by omega)).trans (fb1 p j hp)⟩
      · have d' : ¬ Mo_low l g b0 < 0 := fun z => d ((mem_z hl hg q2).mpr z)
        rw [if_pos d, if_neg d']
        obtain ⟨w1, w2⟩ := rl_pair hl hg q1 q2
        rw [if_neg d'] at w1 w2
        refine ⟨w1, w2, fun p j hp => ?_, fun p j hp => rep_b (by omega)⟩
        unfold La_rl
        split
        · exact rep_a hl (by omega)
        · rfl
  obtain ⟨m1, m2, m3, m4⟩ := main
  have fa : ∀ p j, p < 36 ∨ 56 ≤ p → (La_d3 l k g x a0) p j = a p j := fun p j hp => (m3 p j hp).trans (fa0 p j (by omega))
  have fb : ∀ p j, p < 189 ∨ 192 ≤ p → (D_l1 l k g x b0) p j = b p j := fun p j hp => (m4 p j hp).trans (fb0 p j (by omega))
  obtain ⟨s1, s2, s3⟩ := settle_core hr (lan_pre h (fun p j _ hp => fa p j hp) fb m1 m2 k1 k2)
  exact ⟨s1, fun p j h1 h2 => (s2 p j h2).trans (fa p j (by omega)), fun p j h1 h2 => (s3 p j h2).trans (fb p j h1)⟩
