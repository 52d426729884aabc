/-! packets -/
/-- a counted loop that a test of the memory may end early -/
theorem mx_loopB {N : Nat} {Hd : Nat → mx_Mm → Prop} {Ex : mx_Mm → Prop} (f : Nat → mx_Mm → mx_Mm) (c : Nat → mx_Mm → Prop) (I : Nat → mx_Mm → Prop) {m : mx_Mm} (h0 : I 0 m) (hI : ∀ i m, i < N → I i m → I (i + 1) (f i m)) (hc : ∀ i j m, i ≤ j → j < N → ¬ c i m → f j m = m)
    (hs : ∀ i m, i < N → I i m → (c i m → Hd (i + 1) (f i m)) → (¬ c i m → Ex m) → Hd i m) (hx : ∀ m, I N m → Ex m → Hd N m) (he : Ex (mx_lp N f m)) : Hd 0 m := by
  have hA := mx_lp_inv (f := f) (m := m) N h0 hI
  have hst : ∀ d i, i + d ≤ N → ¬ c i (mx_lp i f m) → mx_lp (i + d) f m = mx_lp i f m := by
    intro d i hd hn
    induction d with
    | zero => rfl
    | succ d ih =>
      show f (i + d) (mx_lp (i + d) f m) = _
      rw [ih (by omega)]
      exact hc i (i + d) _ (by omega) (by omega) hn
  have key : ∀ j, j ≤ N → Hd (N - j) (mx_lp (N - j) f m) := by
    intro j
    induction j with
    | zero => intro _; exact hx _ (hA N (Nat.le_refl _)) he
    | succ j ih =>
      intro hj
      have h1 := ih (by omega)
      have e : N - j = (N - (j + 1)) + 1 := by omega
      rw [e] at h1
      refine hs _ _ (by omega) (hA _ (by omega)) (fun _ => h1) (fun hn => ?_)
      have h2 := hst (j + 1) (N - (j + 1)) (by omega) hn
      rw [show N - (j + 1) + (j + 1) = N by omega] at h2
      rw [← h2]
      exact he
  have := key N (Nat.le_refl _)
  rw [Nat.sub_self] at this
  exact this
def Pa_c1 (n c : Nat) (x : Int32) (m : mx_Mm) : mx_Mm := mx_up (mx_up m 166 c (nI n)) 167 c x
def Pa_carry (n : Nat) (x : Int32) (m : mx_Mm) : mx_Mm := if m 165 7 < nI 6 then mx_up (Pa_c1 n (tn (m 165 7)) x m) 165 7 ((Pa_c1 n (tn (m 165 7)) x m) 165 7 + nI 1) else m
def Pa_side (st s r n : Nat) (m : mx_Mm) : Nat := if hold (m 77 st) n then s else r
def Pa_x1 (m : mx_Mm) : mx_Mm := mx_up m 165 8 (m 165 8 + nI 1)
def Pa_x2 (m : mx_Mm) : mx_Mm := mx_up m 165 9 (m 165 9 + nI 1)
def Pa_xs (st s r q n : Nat) (m : mx_Mm) : mx_Mm := if ¬ n = s ∧ m (21 + n) (Pa_side st s r n m) = nI q then Pa_carry n (nI q) m else Pa_x2 m
def Pa_cross (st s r q n : Nat) (m : mx_Mm) : mx_Mm := Pa_xs st s r q n (Pa_x1 m)
def Pa_list (st q : Nat) (m : mx_Mm) : Int32 := if hold (m 77 st) q then m (146 + st) q else m (127 + st) q
def Pa_po1 (s q : Nat) (x : Int32) (m : mx_Mm) : mx_Mm := if ¬ x &&& nI 64 = 0 ∧ ¬ q = s then mx_up m 165 10 (m 165 10 ||| bit q) else m
def Pa_po2 (st s r q k : Nat) (x : Int32) (n : Nat) (m : mx_Mm) : mx_Mm := if hold x n ∧ ¬ nI n = m 167 k then Pa_cross st s r q n m else m
def Pa_putq (st s r q k : Nat) (m : mx_Mm) : mx_Mm := mx_lp 6 (Pa_po2 st s r q k (Pa_list st q m)) (Pa_po1 s q (Pa_list st q m) m)
def Pa_put (st s r k : Nat) (m : mx_Mm) : mx_Mm := Pa_putq st s r (tn (m 166 k)) k m
def Pa_puts (st s r k : Nat) (m : mx_Mm) : mx_Mm := if nI k < m 165 7 then Pa_put st s r k m else m
def Pa_rnq (st g q : Nat) (m : mx_Mm) : mx_Mm := if ¬ hold (m 77 st) q ∧ m 2 0 < m (43 + q) g then Sm_renew st q m else m
def Pa_rn (st g k : Nat) (m : mx_Mm) : mx_Mm := if nI k < m 165 7 then Pa_rnq st g (tn (m 166 k)) m else m
def Pa_l2 (l : Nat) (m : mx_Mm) : mx_Mm := mx_up m 165 11 (m 165 11 ||| bit l)
def Pa_l1 (l : Nat) (m : mx_Mm) : mx_Mm := if hold (m 165 10) l then (if m 56 l = 0 then Pa_l2 l (La_hear l m) else La_hear l m) else m
def Pa_listen (m : mx_Mm) : mx_Mm := mx_lp 6 Pa_l1 (mx_up m 165 11 (nI 0))
def Pa_j1 (st s : Nat) (m : mx_Mm) : mx_Mm := if ¬ m (146 + st) s = 0 then Sm_over st s m else m
def Pa_j2 (st n : Nat) (m : mx_Mm) : mx_Mm := if m (108 + st) n = -1 then m else Sm_over st n m
def Pa_sj (st s : Nat) (m : mx_Mm) : mx_Mm := mx_lp 6 (Pa_j2 st) (Pa_j1 st s (Sm_renew st s m))
abbrev Pa_rc (st s r : Nat) (m : mx_Mm) : Prop := ¬ s = r ∧ m (14 + s) r < nI 1000 ∧ ¬ m 2 0 < m 78 st
def Pa_r3 (st : Nat) (m : mx_Mm) : mx_Mm := mx_up m 78 st (m 2 0 + nI 6)
def Pa_r2 (st r : Nat) (m : mx_Mm) : mx_Mm := if hold (m 77 st) r ∨ m (146 + st) r = 0 then Pa_r3 st (Tr_cnt 7 m) else m
def Pa_reg (st s r : Nat) (m : mx_Mm) : mx_Mm := if Pa_rc st s r m then Pa_r2 st r (Sm_renew st r (Tr_cnt 6 m)) else m
def Pa_d0 (s g : Nat) (m : mx_Mm) : mx_Mm := mx_up m 165 10 (if m 2 0 < m (43 + s) g then bit s else nI 0)
def Pa_z (m : mx_Mm) : mx_Mm := mx_up (mx_up (mx_up m 165 7 (nI 0)) 165 8 (nI 0)) 165 9 (nI 0)
def Pa_d3 (st s : Nat) (m : mx_Mm) : mx_Mm := if ¬ m (146 + st) s = 0 then Pa_carry s (-1) m else m
def Pa_d4 (st r : Nat) (b : Prop) [Decidable b] (m : mx_Mm) : mx_Mm := if b ∧ ¬ hold (m 77 st) r then Pa_carry r (-1) m else m
def Pa_dA (st s r : Nat) (m : mx_Mm) : mx_Mm := Pa_d4 st r (Pa_rc st s r m) (Pa_d3 st s (Pa_reg st s r m))
def Pa_dB (st s r g : Nat) (m : mx_Mm) : mx_Mm := Pa_listen (mx_lp 6 (Pa_rn st g) (mx_lp 6 (Pa_puts st s r) m))
def Pa_disp (s g r : Nat) (m : mx_Mm) : mx_Mm := Pa_dB (s * 3 + g) s r g (Pa_dA (s * 3 + g) s r (Pa_sj (s * 3 + g) s (Pa_d0 s g (Pa_z m))))
def Pa_ok (r : Nat) (m : mx_Mm) : Prop := m 79 0 = nI r ∧ (∃ c, c ≤ 6 ∧ m 165 7 = nI c) ∧ ∀ k, k < 6 → ∃ j, j < 6 ∧ m 166 k = nI j
theorem Pa_ok.upP {r : Nat} {m : mx_Mm} (h : Pa_ok r m) {p k : Nat} {x : Int32} (hp : p ≠ 79 ∧ p ≠ 166 ∧ (p ≠ 165 ∨ k ≠ 7)) : Pa_ok r (mx_up m p k x) := by
  obtain ⟨h1, ⟨c, hc, h2⟩, h3⟩ := h
  exact ⟨by rw [up_neP (by omega)]; exact h1, ⟨c, hc, by rw [up_ne (by omega)]; exact h2⟩, fun j hj => by rw [up_neP (by omega)]; exact h3 j hj⟩
theorem Pa_ok.c {r : Nat} {m : mx_Mm} (h : Pa_ok r m) : m 165 7 = nI (tn (m 165 7)) ∧ tn (m 165 7) ≤ 6 := by
  obtain ⟨-, ⟨c, hc, h2⟩, -⟩ := h
  have e : tn (m 165 7) = c := by rw [h2]; exact tn_nI (by omega)
  rw [e]
  exact ⟨h2, hc⟩
theorem Pa_ok.q {r : Nat} {m : mx_Mm} (h : Pa_ok r m) {k : Nat} (hk : k < 6) : ∃ q, q < 6 ∧ m 166 k = nI q ∧ tn (m 166 k) = q := by
  obtain ⟨q, hq, e⟩ := h.2.2 k hk
  exact ⟨q, hq, e, by rw [e]; exact tn_nI (by omega)⟩
theorem Pa_carry_ok {r n : Nat} {x : Int32} {m : mx_Mm} (hn : n < 6) (h : Pa_ok r m) : Pa_ok r (Pa_carry n x m) := by
  unfold Pa_carry
  split
  next hlt =>
    obtain ⟨ec, hc⟩ := h.c
    obtain ⟨h1, -, h3⟩ := h
    have hc6 : tn (m 165 7) < 6 := by
      rw [ec] at hlt
      exact (nI_ltI (by omega) (by decide)).mp hlt
    refine ⟨by simp [Pa_c1, mx_up]; exact h1, ⟨tn (m 165 7) + 1, by omega, ?_⟩, fun k hk => ?_⟩
    · rw [up_same]
      have e1 : (Pa_c1 n (tn (m 165 7)) x m) 165 7 = nI (tn (m 165 7)) := by
        rw [Pa_c1, up_neP (by decide), up_neP (by decide)]
        exact ec
      rw [e1, nI_add]
    · rw [up_neP (by decide), Pa_c1, up_neP (by decide)]
      by_cases e : k = tn (m 165 7)
      · rw [e, up_same]; exact ⟨n, hn, rfl⟩
      · rw [up_neK e]; exact h3 k hk
  next => exact h
theorem Pa_x1_ok {r : Nat} {m : mx_Mm} (h : Pa_ok r m) : Pa_ok r (Pa_x1 m) := h.upP (by decide)
theorem Pa_x2_ok {r : Nat} {m : mx_Mm} (h : Pa_ok r m) : Pa_ok r (Pa_x2 m) := h.upP (by decide)
theorem Pa_cross_ok {r st s r' q n : Nat} {m : mx_Mm} (hn : n < 6) (h : Pa_ok r m) : Pa_ok r (Pa_cross st s r' q n m) := by
  unfold Pa_cross Pa_xs
  split
  · exact Pa_carry_ok hn (Pa_x1_ok h)
  · exact Pa_x2_ok (Pa_x1_ok h)
theorem Pa_po1_ok {r s q : Nat} {x : Int32} {m : mx_Mm} (h : Pa_ok r m) : Pa_ok r (Pa_po1 s q x m) := by
  unfold Pa_po1
  split
  · exact h.upP (by decide)
  · exact h
theorem Pa_po2_ok {r st s r' q k : Nat} {x : Int32} {n : Nat} {m : mx_Mm} (hn : n < 6) (h : Pa_ok r m) : Pa_ok r (Pa_po2 st s r' q k x n m) := by
  unfold Pa_po2
  split
  · exact Pa_cross_ok hn h
  · exact h
theorem Pa_put_ok {r st s r' k : Nat} {m : mx_Mm} (h : Pa_ok r m) : Pa_ok r (Pa_put st s r' k m) := lp_keep (Pa_ok r) 6 (Pa_po1_ok h) (fun _ _ hn h => Pa_po2_ok hn h)
theorem Pa_puts_ok {r st s r' k : Nat} {m : mx_Mm} (h : Pa_ok r m) : Pa_ok r (Pa_puts st s r' k m) := by
  unfold Pa_puts
  split
  · exact Pa_put_ok h
  · exact h
theorem Pa_renew_ok {r st n : Nat} {m : mx_Mm} (hst : st < 18) (h : Pa_ok r m) : Pa_ok r (Sm_renew st n m) := h.upP (by omega)
theorem Pa_over_ok {r st n : Nat} {m : mx_Mm} (hst : st < 18) (h : Pa_ok r m) : Pa_ok r (Sm_over st n m) := (Pa_renew_ok hst h).upP (by omega)
theorem Pa_rn_ok {r st g k : Nat} {m : mx_Mm} (hst : st < 18) (h : Pa_ok r m) : Pa_ok r (Pa_rn st g k m) := by
  unfold Pa_rn Pa_rnq
  split
  · split
    · exact Pa_renew_ok hst h
    · exact h
  · exact h
theorem Pa_hear_ok {r l : Nat} {m : mx_Mm} (h : Pa_ok r m) : Pa_ok r (La_hear l m) := by
  unfold La_hear
  split
  · exact h
  · exact h.upP (by omega)
theorem Pa_l1_ok {r l : Nat} {m : mx_Mm} (h : Pa_ok r m) : Pa_ok r (Pa_l1 l m) := by
  unfold Pa_l1 Pa_l2
  split
  · split
    · exact (Pa_hear_ok h).upP (by decide)
    · exact Pa_hear_ok h
  · exact h
theorem Pa_listen_ok {r : Nat} {m : mx_Mm} (h : Pa_ok r m) : Pa_ok r (Pa_listen m) := lp_keep (Pa_ok r) 6 (h.upP (by decide)) (fun _ _ _ h => Pa_l1_ok h)
theorem Pa_sj_ok {r st s : Nat} {m : mx_Mm} (hst : st < 18) (h : Pa_ok r m) : Pa_ok r (Pa_sj st s m) := by
  refine lp_keep (Pa_ok r) 6 ?_ (fun _ _ _ h => ?_)
  · unfold Pa_j1
    split
    · exact Pa_over_ok hst (Pa_renew_ok hst h)
    · exact Pa_renew_ok hst h
  · unfold Pa_j2
    split
    · exact h
    · exact Pa_over_ok hst h
theorem Pa_reg_ok {r st s r' : Nat} {m : mx_Mm} (hst : st < 18) (h : Pa_ok r m) : Pa_ok r (Pa_reg st s r' m) := by
  have hc : ∀ {k : Nat} {m : mx_Mm}, Pa_ok r m → Pa_ok r (Tr_cnt k m) := fun h => h.upP (by omega)
  unfold Pa_reg Pa_r2 Pa_r3
  split
  · split
    · exact (hc (Pa_renew_ok hst (hc h))).upP (by omega)
    · exact Pa_renew_ok hst (hc h)
  · exact h
theorem Pa_z_ok {r : Nat} {m : mx_Mm} (h : Pa_ok r m) : Pa_ok r (Pa_z m) := by
  have h1 : Pa_ok r (mx_up m 165 7 (nI 0)) := ⟨by rw [up_neP (by decide)]; exact h.1, ⟨0, by decide, up_same _ _ _ _⟩, fun k hk => by rw [up_neP (by decide)]; exact h.2.2 k hk⟩
  exact (h1.upP (by decide)).upP (by decide)
theorem Pa_d0_ok {r s g : Nat} {m : mx_Mm} (h : Pa_ok r m) : Pa_ok r (Pa_d0 s g m) := h.upP (by decide)
theorem Pa_d3_ok {r st s : Nat} {m : mx_Mm} (hs : s < 6) (h : Pa_ok r m) : Pa_ok r (Pa_d3 st s m) := by
  unfold Pa_d3
  split
  · exact Pa_carry_ok hs h
  · exact h
theorem Pa_d4_ok {r st r' : Nat} {b : Prop} [Decidable b] {m : mx_Mm} (hr : r' < 6) (h : Pa_ok r m) : Pa_ok r (Pa_d4 st r' b m) := by
  unfold Pa_d4
  split
  · exact Pa_carry_ok hr h
  · exact h
theorem Pa_dA_ok {r st s : Nat} {m : mx_Mm} (hst : st < 18) (hs : s < 6) (hr : r < 6) (h : Pa_ok r m) : Pa_ok r (Pa_dA st s r m) := Pa_d4_ok hr (Pa_d3_ok hs (Pa_reg_ok hst h))
theorem Pa_dB_ok {r st s g : Nat} {m : mx_Mm} (hst : st < 18) (h : Pa_ok r m) : Pa_ok r (Pa_dB st s r g m) := Pa_listen_ok (lp_keep (Pa_ok r) 6 (lp_keep (Pa_ok r) 6 h (fun _ _ _ h => Pa_puts_ok h)) (fun _ _ _ h => Pa_rn_ok hst h))
theorem Pa_disp_ok {s g r : Nat} {m : mx_Mm} (hs : s < 6) (hg : g < 3) (hr : r < 6) (h : Pa_ok r m) : Pa_ok r (Pa_disp s g r m) := Pa_dB_ok (by omega) (Pa_dA_ok (by omega) hs hr (Pa_sj_ok (by omega) (Pa_d0_ok (Pa_z_ok h))))
theorem Pa_stay {i j : Nat} {x : Int32} (hij : i ≤ j) (hj : j < 6) (hn : ¬ nI i < x) : ¬ nI j < x := fun h => hn (Int32.lt_of_le_of_lt (nI_le hij (by omega)) h)
