/-! the outer one's methods -/
abbrev rt (x : Int32) : Prop := 0 ≤ x ∧ x < nI 6
abbrev gp (x : Int32) : Prop := 0 ≤ x ∧ x < nI 3
abbrev ht4 (x : Int32) : Prop := 0 ≤ x ∧ x < nI 4
theorem in_tn {x : Int32} {n : Nat} (h : 0 ≤ x ∧ x < nI n) (hn : n < 2 ^ 31) : x = nI (tn x) ∧ tn x < n := by
  obtain ⟨j, hj, e⟩ := nI_of (x := x) (Int32.not_lt.mpr h.1)
  subst e
  rw [tn_nI hj]
  exact ⟨rfl, (nI_ltI hj hn).mp h.2⟩
theorem Tr_ok.upN {r : Nat} {m : mx_Mm} (h : Tr_ok r m) {p k : Nat} {x : Int32} (hp : 21 ≤ p ∧ p < 27) (hx : rng6 x) : Tr_ok r (mx_up m p k x) := by
  obtain ⟨h1, h2, h3, h4, h5, h6⟩ := h
  have key : ∀ q j, rng6 (m q j) → rng6 (mx_up m p k x q j) := fun q j hq => by
    by_cases e : q = p ∧ j = k
    · rw [e.1, e.2, up_same]; exact hx
    · rw [up_ne e]; exact hq
  exact ⟨by rw [up_neP (by omega)]; exact h1, h2.upP (by omega), fun a t ha ht => key _ _ (h3 a t ha ht), fun a t ha ht => key _ _ (h4 a t ha ht), fun a t ha ht => key _ _ (h5 a t ha ht), fun a t ha ht => key _ _ (h6 a t ha ht)⟩
theorem Tr_ok.upO {r : Nat} {m : mx_Mm} (h : Tr_ok r m) {p k : Nat} {x : Int32} (hp : 28 ≤ p ∧ p < 34) (hx : ∃ j, j < 6 ∧ x = nI j) : Tr_ok r (mx_up m p k x) := by
  obtain ⟨h1, h2, h3, h4, h5, h6⟩ := h
  exact ⟨by rw [up_neP (by omega)]; exact h1, h2.upR hx, fun a t ha ht => by rw [up_neP (by omega)]; exact h3 a t ha ht, fun a t ha ht => by rw [up_neP (by omega)]; exact h4 a t ha ht, fun a t ha ht => by rw [up_neP (by omega)]; exact h5 a t ha ht, fun a t ha ht => by rw [up_neP (by omega)]; exact h6 a t ha ht⟩
theorem Ne_next_rng (a t : Nat) (m : mx_Mm) : rng6 (Ne_next a t m) := by
  unfold Ne_next
  split
  · exact Or.inl rfl
  · split
    next h => exact Or.inr ⟨_, h, rfl⟩
    next => exact Or.inl rfl
theorem Tr_w_ok {r t n : Nat} (ht : t < 6) : ∀ (p : Nat) (m : mx_Mm), p < 6 → Tr_ok r m → Tr_ok r (Ne_w t n p m).2
  | 0, _, _, h => h
  | p + 1, m, hp, h => by
    unfold Ne_w
    split
    · exact Tr_w_ok ht p _ (by omega) (h.upO (by omega) (h.2.1 t p ht (by omega)))
    · exact h
theorem Tr_lp {r n : Nat} {f : Nat → mx_Mm → mx_Mm} {m : mx_Mm} (h : Tr_ok r m) (hf : ∀ i m, i < n → Tr_ok r m → Tr_ok r (f i m)) : Tr_ok r (mx_lp n f m) := lp_keep (Tr_ok r) n h hf
theorem Tr_measure_ok {r : Nat} {m : mx_Mm} (h : Tr_ok r m) : Tr_ok r (Ne_measure m) := by
  refine Tr_lp (Tr_lp (Tr_lp h (fun a m ha h => ?_)) (fun v m _ h => ?_)) (fun t m ht h => ?_)
  · exact Tr_ok.upP (Tr_lp h (fun b m hb h => h.upP (by omega))) (by omega)
  · exact Tr_lp h (fun a m ha h => Tr_lp h (fun b m hb h => h.upP (by omega)))
  · exact Tr_lp (Tr_lp h (fun a m ha h => h.upN (by omega) (Ne_next_rng _ _ _))) (fun n m hn h => (Tr_w_ok ht n m hn h).upO (by omega) ⟨n, hn, rfl⟩)
theorem Tr_set_ok {r a b : Nat} {c : Int32} {m : mx_Mm} (ha : a < 6) (hb : b < 6) (h : Tr_ok r m) : Tr_ok r (Ne_set a b c m) := Tr_measure_ok ((h.upP (by omega)).upP (by omega))
theorem Tr_report_ok {r l h g : Nat} {m : mx_Mm} (hl : l < 6) (hk : Tr_ok r m) : Tr_ok r (La_report l h g m) := (hk.upP (by omega)).upP (by omega)
theorem Tr_admit_ok {r l h g : Nat} {m : mx_Mm} (hl : l < 6) (hk : Tr_ok r m) : Tr_ok r (La_admit l h g m) := Tr_report_ok hl (hk.upP (by omega))
theorem Tr_rl_ok {r l g : Nat} {m : mx_Mm} (hl : l < 6) (hk : Tr_ok r m) : Tr_ok r (La_rl l g m) := by
  unfold La_rl
  split
  · exact Tr_report_ok hl hk
  · exact hk
theorem Tr_dismiss_ok {r l h g : Nat} {x : Int32} {m : mx_Mm} (hl : l < 6) (hk : Tr_ok r m) : Tr_ok r (La_dismiss l h g x m) := by
  have h1 : Tr_ok r (La_d1 l h g m) := hk.upP (by omega)
  unfold La_dismiss La_d3
  split
  · exact h1
  · split
    · exact Tr_rl_ok hl h1
    · exact (h1.upP (by omega)).upP (by omega)
theorem Tr_all_ok {r : Nat} {m : mx_Mm} (h : Tr_ok r m) : Tr_ok r (La_all m) := Tr_lp h (fun l m hl h => Tr_lp h (fun g m hg h => Tr_rl_ok hl h))
theorem Tr_es_ok {r : Nat} {m : mx_Mm} (h : Tr_ok r m) : Tr_ok r (Sm_es m) := Tr_lp h (fun s m hs h => Tr_lp h (fun n m hn h => by
  unfold Sm_es1
  split
  · exact h
  · exact h.upP (by omega)))
/-- writes that leave the trees alone -/
theorem Tr_keep_hear {r l : Nat} {m : mx_Mm} (h : Tr_ok r m) : Tr_ok r (La_hear l m) := by
  unfold La_hear
  split
  · exact h
  · exact h.upP (by omega)
theorem Tr_keep_carry {r n : Nat} {x : Int32} {m : mx_Mm} (h : Tr_ok r m) : Tr_ok r (Pa_carry n x m) := by
  unfold Pa_carry Pa_c1
  split
  · exact Tr_ok.upP (Tr_ok.upP (h.upP (by omega)) (by omega)) (by omega)
  · exact h
theorem Tr_keep_renew {r st n : Nat} {m : mx_Mm} (hst : st < 18) (h : Tr_ok r m) : Tr_ok r (Sm_renew st n m) := h.upP (by omega)
theorem Tr_keep_over {r st n : Nat} {m : mx_Mm} (hst : st < 18) (h : Tr_ok r m) : Tr_ok r (Sm_over st n m) := (Tr_keep_renew hst h).upP (by omega)
theorem Tr_disp_ok {r s g : Nat} {m : mx_Mm} (hs : s < 6) (hg : g < 3) (h : Tr_ok r m) : Tr_ok r (Pa_disp s g r m) := by
  have hc : ∀ {k : Nat} {m : mx_Mm}, Tr_ok r m → Tr_ok r (Tr_cnt k m) := fun h => h.upP (by omega)
  have hst : s * 3 + g < 18 := by omega
  have h0 : Tr_ok r (Pa_d0 s g (Pa_z m)) := Tr_ok.upP (Tr_ok.upP (Tr_ok.upP (h.upP (by omega)) (by omega)) (by omega)) (by omega)
  have h1 : Tr_ok r (Pa_sj (s * 3 + g) s (Pa_d0 s g (Pa_z m))) := by
    refine Tr_lp ?_ (fun n m _ h => ?_)
    · unfold Pa_j1
      split
      · exact Tr_keep_over hst (Tr_keep_renew hst h0)
      · exact Tr_keep_renew hst h0
    · unfold Pa_j2
      split
      · exact h
      · exact Tr_keep_over hst h
  have h2 : Tr_ok r (Pa_reg (s * 3 + g) s r (Pa_sj (s * 3 + g) s (Pa_d0 s g (Pa_z m)))) := by
    unfold Pa_reg Pa_r2 Pa_r3
    split
    · split
      · exact (hc (Tr_keep_renew hst (hc h1))).upP (by omega)
      · exact Tr_keep_renew hst (hc h1)
    · exact h1
  have h3 : Tr_ok r (Pa_dA (s * 3 + g) s r (Pa_sj (s * 3 + g) s (Pa_d0 s g (Pa_z m)))) := by
    have h25 : Tr_ok r (Pa_d3 (s * 3 + g) s (Pa_reg (s * 3 + g) s r (Pa_sj (s * 3 + g) s (Pa_d0 s g (Pa_z m))))) := by
      unfold Pa_d3
      split
      · exact Tr_keep_carry h2
      · exact h2
    unfold Pa_dA Pa_d4
    split
    · exact Tr_keep_carry h25
    · exact h25
  refine Tr_lp (Tr_ok.upP (Tr_lp (Tr_lp h3 (fun k m _ h => ?_)) (fun k m _ h => ?_)) (by omega)) (fun l m _ h => ?_)
  · unfold Pa_puts Pa_put Pa_putq
    split
    · refine Tr_lp ?_ (fun n m _ h => ?_)
      · unfold Pa_po1
        split
        · exact h.upP (by omega)
        · exact h
      · unfold Pa_po2 Pa_cross Pa_xs
        split
        · have hx : Tr_ok r (Pa_x1 m) := h.upP (by omega)
          split
          · exact Tr_keep_carry hx
          · exact hx.upP (by omega)
        · exact h
    · exact h
  · unfold Pa_rn Pa_rnq
    split
    · split
      · exact Tr_keep_renew hst h
      · exact h
    · exact h
  · unfold Pa_l1 Pa_l2
    split
    · split
      · exact (Tr_keep_hear h).upP (by omega)
      · exact Tr_keep_hear h
    · exact h
/-- Integer.bitCount -/
def ush (x y : Int32) : Int32 := (x.toUInt32 >>> (y.toUInt32 &&& Int32.toUInt32 31)).toInt32
def bc1 (x : Int32) : Int32 := x - (ush x (nI 1) &&& 1431655765)
def bc2 (x : Int32) : Int32 := (x &&& 858993459) + (ush x (nI 2) &&& 858993459)
def bc3 (x : Int32) : Int32 := (x + ush x (nI 4)) &&& 252645135
def bc4 (x : Int32) : Int32 := x + ush x (nI 8)
def bc5 (x : Int32) : Int32 := x + ush x (nI 16)
def bc (x : Int32) : Int32 := bc5 (bc4 (bc3 (bc2 (bc1 x)))) &&& nI 63
/-! the answers and the memory behind each public call -/
abbrev C_lkP (x y c : Int32) (m : mx_Mm) : Prop := rt x ∧ rt y ∧ ¬ x = y ∧ 0 ≤ c ∧ c ≤ nI 9 ∧ ¬ c = m (7 + tn x) (tn y)
def C_link (r : Nat) (x y c : Int32) (m : mx_Mm) : mx_Mm := if C_lkP x y c m then Tr_settle r (Ne_set (tn x) (tn y) c m) else m
def C_dist (x y : Int32) (m : mx_Mm) : Int32 := if rt x ∧ rt y ∧ m (14 + tn x) (tn y) < nI 1000 then m (14 + tn x) (tn y) else -1
def C_hop (x y : Int32) (m : mx_Mm) : Int32 := if rt x ∧ rt y then m (21 + tn x) (tn y) else -1
abbrev C_jnP (l h g : Int32) (m : mx_Mm) : Prop := rt l ∧ ht4 h ∧ gp g ∧ ¬ hold (m (36 + tn l) (tn g)) (tn h)
def C_join (r : Nat) (l h g : Int32) (m : mx_Mm) : mx_Mm := if C_jnP l h g m then Tr_settle r (La_admit (tn l) (tn h) (tn g) m) else m
abbrev C_lvP (l h g : Int32) (m : mx_Mm) : Prop := rt l ∧ ht4 h ∧ gp g ∧ hold (m (36 + tn l) (tn g)) (tn h)
def C_leave (r : Nat) (l h g x : Int32) (m : mx_Mm) : mx_Mm := if C_lvP l h g m then Tr_settle r (La_dismiss (tn l) (tn h) (tn g) x m) else m
def C_mark (l g : Int32) (m : mx_Mm) : Int32 := if rt l ∧ gp g then (if m 2 0 < m (43 + tn l) (tn g) then m (43 + tn l) (tn g) - m 2 0 else nI 0) else -1
def C_tk (m : mx_Mm) : mx_Mm := Sm_es (mx_up m 2 0 (m 2 0 + nI 1))
def C_rp (m : mx_Mm) : mx_Mm := if m 2 0 - m 2 0 / nI 5 * nI 5 = 0 then La_all m else m
def C_tick (r : Nat) (m : mx_Mm) : mx_Mm := Tr_settle r (C_rp (C_tk m))
abbrev C_psP (n : Int32) : Prop := nI 1 ≤ n ∧ n ≤ nI 10
def C_pass (r : Nat) (n : Int32) (m : mx_Mm) : mx_Mm := if C_psP n then mx_lp (tn n) (fun _ => C_tick r) m else m
abbrev C_sdP (s g : Int32) (m : mx_Mm) : Prop := rt s ∧ gp g ∧ (Sm_some (tn s * 3 + tn g) m ∨ Sm_cnt m < 5)
def C_sd (r : Nat) (s g : Int32) (m : mx_Mm) : mx_Mm := Tr_settle r (Pa_disp (tn s) (tn g) r m)
def C_send (r : Nat) (s g : Int32) (m : mx_Mm) : mx_Mm := if C_sdP s g m then C_sd r s g m else m
def C_sendv (r : Nat) (s g : Int32) (m : mx_Mm) : Int32 := if C_sdP s g m then bc ((C_sd r s g m) 165 11) else -1
def C_shar (n g : Int32) (m : mx_Mm) : Int32 := if rt n ∧ gp g then m (81 + tn g) (tn n) else -1
def C_msg (k : Int32) (m : mx_Mm) : Int32 := if 0 ≤ k ∧ k < nI 10 then m 4 (tn k) else -1
abbrev C_lsP (l c : Int32) : Prop := rt l ∧ 0 ≤ c ∧ c ≤ nI 9
def C_lose (l c : Int32) (m : mx_Mm) : mx_Mm := if C_lsP l c then mx_up m 56 (tn l) c else m
