/-! class and reference side by side: files -/
theorem and1 (y : Int32) : y &&& nI 1 = 0 ∨ y &&& nI 1 = nI 1 := by
  obtain ⟨j, hj, e⟩ := pk_andE y (m := nI 1) 1 (by decide)
  have : j = 0 ∨ j = 1 := by omega
  rcases this with h | h
  · subst h; exact Or.inl e
  · subst h; exact Or.inr e
theorem hold_bt {x : Int32} {k : Nat} : hold x k ↔ bt1 x k := by
  unfold hold bt1
  rcases and1 (x >>> (nI k &&& 31)) with h | h
  · rw [h]; exact ⟨fun z => absurd rfl z, fun z => absurd z.symm n10⟩
  · rw [h]; exact ⟨fun _ => rfl, fun _ => n10⟩
theorem hold_and {x y : Int32} {k : Nat} (h : hold (x &&& y) k) : hold x k := fun z => h (by
  rw [Int32.shiftRight_and, Int32.and_assoc, Int32.and_comm (y >>> (nI k &&& 31)), ← Int32.and_assoc, z, Int32.zero_and])
theorem or_and (u v c : Int32) : (u ||| v) &&& c = (u &&& c) ||| (v &&& c) := Int32.toBitVec_inj.1 (by
  rw [Int32.toBitVec_and, Int32.toBitVec_or, Int32.toBitVec_or, Int32.toBitVec_and, Int32.toBitVec_and]
  refine BitVec.eq_of_getLsbD_eq (fun i _ => ?_)
  rw [BitVec.getLsbD_and, BitVec.getLsbD_or, BitVec.getLsbD_or, BitVec.getLsbD_and, BitVec.getLsbD_and, Bool.and_or_distrib_right])
theorem hold_or {x y : Int32} {k : Nat} (h : hold (x ||| y) k) : hold x k ∨ hold y k := by
  rcases and1 (x >>> (nI k &&& 31)) with h1 | h1
  · rcases and1 (y >>> (nI k &&& 31)) with h2 | h2
    · refine absurd ?_ h
      rw [Int32.shiftRight_or, or_and, h1, h2]
      rfl
    · exact Or.inr (fun z => n10 (h2.symm.trans z))
  · exact Or.inl (fun z => n10 (h1.symm.trans z))
set_option maxRecDepth 100000 in
theorem mask_b : ∀ o, o ≤ 16 → ∀ k, k < 16 → hold (nI 1 <<< (nI o &&& 31) - nI 1) k → k < o := by decide +kernel
def S_f1 (f : Nat) (a b : mx_Mm) : Prop := (a 169 f = b 206 f ∧ a 170 f = b 207 f ∧ a 171 f = b 208 f ∧ a 172 f = b 209 f ∧ a 173 f = b 210 f) ∧ (∀ l, l < 6 → a (175 + f) l = b 211 (6 * f + l) ∧ a (180 + f) l = b 212 (6 * f + l)) ∧ ∃ n j, n ≤ 16 ∧ a 171 f = nI n ∧ j ≤ n ∧ a 172 f = nI j ∧ (∀ k, n ≤ k → k < 16 → ¬ hold (a 173 f) k) ∧ ∀ l, l < 6 → ∃ o, o ≤ n ∧ a (180 + f) l = nI o
def S_fil (a b : mx_Mm) : Prop := (a 168 11 = b 185 26 ∧ a 168 12 = b 185 34) ∧ ∀ f, f < 4 → S_f1 f a b
theorem S_f1.fr {f : Nat} {a b a' b' : mx_Mm} (h : S_f1 f a b) (ha : ∀ p j, 169 ≤ p → p < 184 → ((169 ≤ p ∧ p < 174) → j = f) → ((175 ≤ p ∧ p < 179) → p = 175 + f) → ((180 ≤ p ∧ p < 184) → p = 180 + f) → a' p j = a p j) (hb : ∀ p j, 206 ≤ p → p < 213 → (p < 211 → j = f) → (211 ≤ p → 6 * f ≤ j ∧ j < 6 * f + 6) → b' p j = b p j) (hf : f < 4) : S_f1 f a' b' := by
  unfold S_f1
  rw [ha 169 f (by omega) (by omega) (by omega) (by omega) (by omega), ha 170 f (by omega) (by omega) (by omega) (by omega) (by omega), ha 171 f (by omega) (by omega) (by omega) (by omega) (by omega), ha 172 f (by omega) (by omega) (by omega) (by omega) (by omega), ha 173 f (by omega) (by omega) (by omega) (by omega) (by omega), hb 206 f (by omega) (by omega) (by omega) (by omega), hb 207 f (by omega) (by omega) (by omega) (by omega), hb 208 f (by omega) (by omega) (by omega) (by omega), hb 209 f (by omega) (by omega) (by omega) (by omega), hb 210 f (by omega) (by omega) (by omega) (by omega)]
  obtain ⟨h1, h2, n, j, h3, h4, h5, h6, h7, h8⟩ := h
  refine ⟨h1, fun l hl => ?_, n, j, h3, h4, h5, h6, h7, fun l hl => ?_⟩
  · rw [ha (175 + f) l (by omega) (by omega) (by omega) (by omega) (by omega), ha (180 + f) l (by omega) (by omega) (by omega) (by omega) (by omega), hb 211 _ (by omega) (by omega) (by omega) (by omega), hb 212 _ (by omega) (by omega) (by omega) (by omega)]
    exact h2 l hl
  · rw [ha (180 + f) l (by omega) (by omega) (by omega) (by omega) (by omega)]
    exact h8 l hl
theorem S_fil.fr {a b a' b' : mx_Mm} (h : S_fil a b) (ha : ∀ p j, 168 ≤ p → a' p j = a p j) (hb : ∀ p j, 206 ≤ p ∨ (p = 185 ∧ 23 ≤ j) → b' p j = b p j) : S_fil a' b' := by
  refine ⟨?_, fun f hf => (h.2 f hf).fr (fun p j h1 _ _ _ _ => ha p j (by omega)) (fun p j h1 _ _ _ => hb p j (by omega)) hf⟩
  rw [ha _ _ (by omega), ha _ _ (by omega), hb _ _ (by omega), hb _ _ (by omega)]
  exact h.1
theorem Fl_ok.fr {a a' : mx_Mm} (h : Fl_ok a) (ha : ∀ p j, p = 168 ∨ p = 169 ∨ p = 170 ∨ p = 171 → a' p j = a p j) : Fl_ok a' := by
  obtain ⟨⟨c, hc, e⟩, h2⟩ := h
  refine ⟨⟨c, hc, (ha _ _ (by omega)).trans e⟩, fun f hf => ?_⟩
  rw [ha 169 f (by omega), ha 170 f (by omega), ha 171 f (by omega)]
  exact h2 f hf
theorem Ml_ok.fr {b b' : mx_Mm} (h : Ml_ok b) (hb : ∀ p j, p = 206 ∨ p = 207 ∨ (p = 185 ∧ j = 26) → b' p j = b p j) : Ml_ok b' := by
  obtain ⟨⟨c, hc, e⟩, h2⟩ := h
  refine ⟨⟨c, hc, (hb _ _ (by omega)).trans e⟩, fun f hf => ?_⟩
  rw [hb 206 f (by omega), hb 207 f (by omega)]
  exact h2 f hf
/-! publishing -/
theorem c4_at {c s g p j : Nat} {b : Int32} {m : mx_Mm} : (Fi_c4 c s g b m) p j = if p = 168 ∧ j = 11 then m 168 11 + nI 1 else if p = 171 ∧ j = c then b else if p = 170 ∧ j = c then nI g else if p = 169 ∧ j = c then nI s else m p j := by
  have e : (Fi_c3 c s g b m) 168 11 = m 168 11 := by
    unfold Fi_c3
    rw [up_neP (by decide), up_neP (by decide), up_neP (by decide)]
  unfold Fi_c4
  rw [e]
  by_cases h1 : p = 168 ∧ j = 11
  · rw [if_pos h1, h1.1, h1.2, up_same]
  · rw [if_neg h1, up_ne h1]
    unfold Fi_c3
    by_cases h2 : p = 171 ∧ j = c
    · rw [if_pos h2, h2.1, h2.2, up_same]
    · rw [if_neg h2, up_ne h2]
      by_cases h3 : p = 170 ∧ j = c
      · rw [if_pos h3, h3.1, h3.2, up_same]
      · rw [if_neg h3, up_ne h3]
        by_cases h4 : p = 169 ∧ j = c
        · rw [if_pos h4, h4.1, h4.2, up_same]
        · rw [if_neg h4, up_ne h4]
theorem p4_at {c s g p j : Nat} {b : Int32} {m : mx_Mm} : (D_p4 c s g b m) p j = if p = 185 ∧ j = 26 then m 185 26 + nI 1 else if p = 208 ∧ j = c then b else if p = 207 ∧ j = c then nI g else if p = 206 ∧ j = c then nI s else m p j := by
  have e : (D_p3 c s g b m) 185 26 = m 185 26 := by
    unfold D_p3
    rw [up_neP (by decide), up_neP (by decide), up_neP (by decide)]
  unfold D_p4
  rw [e]
  by_cases h1 : p = 185 ∧ j = 26
  · rw [if_pos h1, h1.1, h1.2, up_same]
  · rw [if_neg h1, up_ne h1]
    unfold D_p3
    by_cases h2 : p = 208 ∧ j = c
    · rw [if_pos h2, h2.1, h2.2, up_same]
    · rw [if_neg h2, up_ne h2]
      by_cases h3 : p = 207 ∧ j = c
      · rw [if_pos h3, h3.1, h3.2, up_same]
      · rw [if_neg h3, up_ne h3]
        by_cases h4 : p = 206 ∧ j = c
        · rw [if_pos h4, h4.1, h4.2, up_same]
        · rw [if_neg h4, up_ne h4]
/-- publishing keeps the files alike; a slot not yet taken has length 0 -/
theorem pub_fil {c s g n : Nat} {a b : mx_Mm} (hc : c < 4) (hs : s < 6) (hg : g < 3) (hn : n ≤ 16) (ec : a 168 11 = nI c) (hz : a 171 c = nI 0) (h : S_fil a b) (hf : Fl_ok a) (hm : Ml_ok b) : S_fil (Fi_c4 c s g (nI n) a) (D_p4 c s g (nI n) b) ∧ Fl_ok (Fi_c4 c s g (nI n) a) ∧ Ml_ok (D_p4 c s g (nI n) b) := by
  have e26 : b 185 26 = nI c := h.1.1.symm.trans ec
  refine ⟨⟨⟨?_, ?_⟩, fun f hf4 => ?_⟩, ⟨⟨c + 1, by omega, ?_⟩, fun f hf4 => ?_⟩, ⟨c + 1, by omega, ?_⟩, fun f hf4 => ?_⟩
  · rw [c4_at, p4_at, if_pos ⟨rfl, rfl⟩, if_pos ⟨rfl, rfl⟩, h.1.1]
  · rw [c4_at, p4_at, if_neg (by omega), if_neg (by omega), if_neg (by omega), if_neg (by omega), if_neg (by omega), if_neg (by omega), if_neg (by omega), if_neg (by omega)]
    exact h.1.2
  · by_cases e : f = c
    · subst e
      obtain ⟨⟨h1, h2, h3, h4, h5⟩, h6, n0, j0, q1, q2, q3, q4, q5, q6⟩ := h.2 f hf4
      have en : n0 = 0 := (nI_eq (by omega) (by decide)).mp (q2.symm.trans hz)
      have A : ∀ p j, p ≠ 168 → p ≠ 169 → p ≠ 170 → p ≠ 171 → (Fi_c4 f s g (nI n) a) p j = a p j := fun p j p1 p2 p3 p4 => by
        rw [c4_at, if_neg (fun z => p1 z.1), if_neg (fun z => p4 z.1), if_neg (fun z => p3 z.1), if_neg (fun z => p2 z.1)]
      have B : ∀ p j, p ≠ 185 → p ≠ 206 → p ≠ 207 → p ≠ 208 → (D_p4 f s g (nI n) b) p j = b p j := fun p j p1 p2 p3 p4 => by
        rw [p4_at, if_neg (fun z => p1 z.1), if_neg (fun z => p4 z.1), if_neg (fun z => p3 z.1), if_neg (fun z => p2 z.1)]
      have a171 : (Fi_c4 f s g (nI n) a) 171 f = nI n := by rw [c4_at, if_neg (by omega), if_pos ⟨rfl, rfl⟩]
      refine ⟨⟨?_, ?_, ?_, ?_, ?_⟩, fun l hl => ?_, n, j0, hn, a171, by omega, ?_, fun k k1 k2 => ?_, fun l hl => ?_⟩
      · rw [c4_at, p4_at, if_neg (by omega), if_neg (by omega), if_neg (by omega), if_pos ⟨rfl, rfl⟩, if_neg (by omega), if_neg (by omega), if_neg (by omega), if_pos ⟨rfl, rfl⟩]
      · rw [c4_at, p4_at, if_neg (by omega), if_neg (by omega), if_pos ⟨rfl, rfl⟩, if_neg (by omega), if_neg (by omega), if_pos ⟨rfl, rfl⟩]
      · rw [a171, p4_at, if_neg (by omega), if_pos ⟨rfl, rfl⟩]
      · rw [A _ _ (by decide) (by decide) (by decide) (by decide), B _ _ (by decide) (by decide) (by decide) (by decide)]; exact h4
      · rw [A _ _ (by decide) (by decide) (by decide) (by decide), B _ _ (by decide) (by decide) (by decide) (by decide)]; exact h5
      · rw [A _ _ (by omega) (by omega) (by omega) (by omega), A _ _ (by omega) (by omega) (by omega) (by omega), B _ _ (by decide) (by decide) (by decide) (by decide), B _ _ (by decide) (by decide) (by decide) (by decide)]
        exact h6 l hl
      · rw [A _ _ (by decide) (by decide) (by decide) (by decide)]; exact q4
      · rw [A _ _ (by decide) (by decide) (by decide) (by decide)]; exact q5 k (by omega) k2
      · rw [A _ _ (by omega) (by omega) (by omega) (by omega)]
        obtain ⟨o, ho, eo⟩ := q6 l hl
        exact ⟨o, by omega, eo⟩
    · refine (h.2 f hf4).fr (fun p j h1 h2 h3 h4 h5 => ?_) (fun p j h1 h2 h3 h4 => ?_) hf4
      · rw [c4_at, if_neg (by omega), if_neg (by omega), if_neg (by omega), if_neg (by omega)]
      · rw [p4_at, if_neg (by omega), if_neg (by omega), if_neg (by omega), if_neg (by omega)]
  · rw [c4_at, if_pos ⟨rfl, rfl⟩, ec, nI_add]
  · obtain ⟨⟨s0, hs0, es0⟩, ⟨g0, hg0, eg0⟩, n0, hn0, en0⟩ := hf.2 f hf4
    by_cases e : f = c
    · subst e
      exact ⟨⟨s, hs, by rw [c4_at, if_neg (by omega), if_neg (by omega), if_neg (by omega), if_pos ⟨rfl, rfl⟩]⟩, ⟨g, hg, by rw [c4_at, if_neg (by omega), if_neg (by omega), if_pos ⟨rfl, rfl⟩]⟩, n, hn, by rw [c4_at, if_neg (by omega), if_pos ⟨rfl, rfl⟩]⟩
    · exact ⟨⟨s0, hs0, by rw [c4_at, if_neg (by omega), if_neg (by omega), if_neg (by omega), if_neg (by omega)]; exact es0⟩, ⟨g0, hg0, by rw [c4_at, if_neg (by omega), if_neg (by omega), if_neg (by omega), if_neg (by omega)]; exact eg0⟩, n0, hn0, by rw [c4_at, if_neg (by omega), if_neg (by omega), if_neg (by omega), if_neg (by omega)]; exact en0⟩
  · rw [p4_at, if_pos ⟨rfl, rfl⟩, e26, nI_add]
  · obtain ⟨⟨s0, hs0, es0⟩, g0, hg0, eg0⟩ := hm.2 f hf4
    by_cases e : f = c
    · subst e
      exact ⟨⟨s, hs, by rw [p4_at, if_neg (by omega), if_neg (by omega), if_neg (by omega), if_pos ⟨rfl, rfl⟩]⟩, g, hg, by rw [p4_at, if_neg (by omega), if_neg (by omega), if_pos ⟨rfl, rfl⟩]⟩
    · exact ⟨⟨s0, hs0, by rw [p4_at, if_neg (by omega), if_neg (by omega), if_neg (by omega), if_neg (by omega)]; exact es0⟩, g0, hg0, by rw [p4_at, if_neg (by omega), if_neg (by omega), if_neg (by omega), if_neg (by omega)]; exact eg0⟩
/-! taking the next block -/
theorem fd16 {n : Nat} {c : Nat → Bool} (hn : n ≤ 16) (hc : ∀ k, n ≤ k → k < 16 → c k = false) : (pm_fd 16 c < 16 ↔ pm_fd n c < n) ∧ (pm_fd n c < n → pm_fd 16 c = pm_fd n c) := by
  have h2 : pm_fd n c < n → pm_fd 16 c = pm_fd n c := fun h => pm_fd_eq (by omega) ((pm_fd_spec n c).2 h) (pm_fd_spec n c).1
  refine ⟨⟨fun h => ?_, fun h => by rw [h2 h]; omega⟩, h2⟩
  have e := (pm_fd_spec 16 c).2 h
  refine pm_fd_ex.mpr ⟨pm_fd 16 c, ?_, e⟩
  rcases Nat.lt_or_ge (pm_fd 16 c) n with w | w
  · exact w
  · rw [hc _ w h] at e; cases e
theorem take_fil {f n : Nat} {a b : mx_Mm} (hf : f < 4) (hn : n ≤ 16) (en : a 171 f = nI n) (h : S_f1 f a b) :
    S_f1 f (Fi_tm f n a) (Mo_tm f b) ∧ Fi_tv f n a = Mo_tv f b ∧ (∃ k, k ≤ n ∧ Fi_tv f n a = nI k) ∧ (∀ p j, ¬ (p = 172 ∧ j = f) → ¬ (p = 173 ∧ j = f) → (Fi_tm f n a) p j = a p j) ∧ ∀ p j, ¬ (p = 209 ∧ j = f) → ¬ (p = 210 ∧ j = f) → (Mo_tm f b) p j = b p j := by
  obtain ⟨⟨h1, h2, h3, h4, h5⟩, h6, n0, j, q1, q2, q3, q4, q5, q6⟩ := h
  have e0 : n0 = n := (nI_eq (by omega) (by omega)).mp (q2.symm.trans en)
  subst e0
  have hbt : ∀ k, Fi_hb f a k = Mo_tb f b k := fun k => by
    unfold Fi_hb Mo_tb
    refine decide_eq_decide.mpr ?_
    rw [h5, hold_bt]
  have hfd : pm_fd n0 (Fi_hb f a) = pm_fd n0 (Mo_tb f b) := pm_fd_congr n0 (fun k _ => hbt k)
  obtain ⟨w1, w2⟩ := fd16 (c := Mo_tb f b) hn (fun k k1 k2 => by
    rw [← hbt k]
    unfold Fi_hb
    exact decide_eq_false (q5 k k1 k2))
  have fa : ∀ p j, ¬ (p = 172 ∧ j = f) → ¬ (p = 173 ∧ j = f) → (Fi_tm f n0 a) p j = a p j := fun p j p1 p2 => by
    unfold Fi_tm Fi_n1
    split
    · exact up_ne p2
    · split
      · rfl
      · exact up_ne p1
  have fb : ∀ p j, ¬ (p = 209 ∧ j = f) → ¬ (p = 210 ∧ j = f) → (Mo_tm f b) p j = b p j := fun p j p1 p2 => by
    unfold Mo_tm Mo_tn
    split
    · exact up_ne p2
    · split
      · exact up_ne p1
      · rfl
  have hj : nI j = nI n0 ↔ ¬ nI j < nI n0 := by
    rw [nI_eq (by omega) (by omega), nI_ltI (by omega) (by omega)]
    omega
  have base : ∀ (x y : mx_Mm), (∀ p j, ¬ (p = 172 ∧ j = f) → ¬ (p = 173 ∧ j = f) → x p j = a p j) → (∀ p j, ¬ (p = 209 ∧ j = f) → ¬ (p = 210 ∧ j = f) → y p j = b p j) → x 172 f = y 209 f → x 173 f = y 210 f → (∃ j, j ≤ n0 ∧ x 172 f = nI j) → (∀ k, n0 ≤ k → k < 16 → ¬ hold (x 173 f) k) → S_f1 f x y := fun x y hx hy e1 e2 ⟨j', hj', ej'⟩ hb => by
    refine ⟨⟨?_, ?_, ?_, e1, e2⟩, fun l hl => ?_, n0, j', q1, ?_, hj', ej', hb, fun l hl => ?_⟩
    · rw [hx _ _ (by omega) (by omega), hy _ _ (by omega) (by omega)]; exact h1
    · rw [hx _ _ (by omega) (by omega), hy _ _ (by omega) (by omega)]; exact h2
    · rw [hx _ _ (by omega) (by omega), hy _ _ (by omega) (by omega)]; exact h3
    · rw [hx _ _ (by omega) (by omega), hy _ _ (by omega) (by omega), hx _ _ (by omega) (by omega), hy _ _ (by omega) (by omega)]; exact h6 l hl
    · rw [hx _ _ (by omega) (by omega)]; exact q2
    · rw [hx _ _ (by omega) (by omega)]; exact q6 l hl
  by_cases c : pm_fd n0 (Fi_hb f a) < n0
  · have c' : pm_fd n0 (Mo_tb f b) < n0 := by rw [← hfd]; exact c
    have c16 := w1.mpr c'
    have ea : Fi_tm f n0 a = mx_up a 173 f (a 173 f &&& (bit (pm_fd n0 (Fi_hb f a)) ^^^ (-1))) := by unfold Fi_tm; rw [if_pos c]
    have eb : Mo_tm f b = mx_up b 210 f (b 210 f &&& (bit (pm_fd n0 (Fi_hb f a)) ^^^ (-1))) := by unfold Mo_tm; rw [if_pos c16, w2 c', ← hfd]
    have eva : Fi_tv f n0 a = nI (pm_fd n0 (Fi_hb f a)) := by unfold Fi_tv; rw [if_pos c]
    have evb : Mo_tv f b = nI (pm_fd n0 (Fi_hb f a)) := by unfold Mo_tv; rw [if_pos c16, w2 c', ← hfd]
    refine ⟨base _ _ fa fb ?_ ?_ ⟨j, q3, ?_⟩ (fun k k1 k2 w => ?_), eva.trans evb.symm, ⟨_, by omega, eva⟩, fa, fb⟩
    · rw [ea, eb, up_neP (by decide), up_neP (by decide)]; exact h4
    · rw [ea, eb, up_same, up_same, h5]
    · rw [ea, up_neP (by decide)]; exact q4
    · rw [ea, up_same] at w
      exact q5 k k1 k2 (hold_and w)
  · have c' : ¬ pm_fd n0 (Mo_tb f b) < n0 := by rw [← hfd]; exact c
    have c16 : ¬ pm_fd 16 (Mo_tb f b) < 16 := fun w => c' (w1.mp w)
    by_cases d : nI j = nI n0
    · have d1 : a 172 f = a 171 f := q4.trans (d.trans q2.symm)
      have d2 : ¬ b 209 f < b 208 f := by rw [← h4, ← h3, q4, q2]; exact hj.mp d
      have ea : Fi_tm f n0 a = a := by unfold Fi_tm; rw [if_neg c, if_pos d1]
      have eb : Mo_tm f b = b := by unfold Mo_tm; rw [if_neg c16, if_neg d2]
      have eva : Fi_tv f n0 a = nI n0 := by unfold Fi_tv; rw [if_neg c, if_pos d1]; exact q2
      have evb : Mo_tv f b = nI n0 := by unfold Mo_tv; rw [if_neg c16, if_neg d2, ← h3]; exact q2
      refine ⟨base _ _ fa fb ?_ ?_ ⟨j, q3, ?_⟩ (fun k k1 k2 w => ?_), eva.trans evb.symm, ⟨n0, Nat.le_refl _, eva⟩, fa, fb⟩
      · rw [ea, eb]; exact h4
      · rw [ea, eb]; exact h5
      · rw [ea]; exact q4
      · rw [ea] at w; exact q5 k k1 k2 w
    · have d1 : ¬ a 172 f = a 171 f := fun z => d (q4.symm.trans (z.trans q2))
      have d2 : b 209 f < b 208 f := by
        rw [← h4, ← h3, q4, q2]
        exact Decidable.byContradiction fun z => d (hj.mpr z)
      have jn : j < n0 := by
        rw [← h4, ← h3, q4, q2] at d2
        exact (nI_ltI (by omega) (by omega)).mp d2
      have ea : Fi_tm f n0 a = mx_up a 172 f (nI (j + 1)) := by unfold Fi_tm Fi_n1; rw [if_neg c, if_neg d1, q4, nI_add]
      have eb : Mo_tm f b = mx_up b 209 f (nI (j + 1)) := by unfold Mo_tm Mo_tn; rw [if_neg c16, if_pos d2, ← h4, q4, nI_add]
      have em : nI (j + 1) - nI 1 = nI j := by
        rw [← nI_add]
        exact Int32.add_sub_cancel _ _
      have eva : Fi_tv f n0 a = nI j := by
        unfold Fi_tv Fi_n1
        rw [if_neg c, if_neg d1, up_same, q4, nI_add, em]
      have evb : Mo_tv f b = nI j := by
        unfold Mo_tv Mo_tn
        rw [if_neg c16, if_pos d2, up_same, ← h4, q4, nI_add, em]
      refine ⟨base _ _ fa fb ?_ ?_ ⟨j + 1, by omega, ?_⟩ (fun k k1 k2 w => ?_), eva.trans evb.symm, ⟨j, by omega, eva⟩, fa, fb⟩
      · rw [ea, eb, up_same, up_same]
      · rw [ea, eb, up_neP (by decide), up_neP (by decide)]; exact h5
      · rw [ea, up_same]
      · rw [ea, up_neP (by decide)] at w; exact q5 k k1 k2 w
