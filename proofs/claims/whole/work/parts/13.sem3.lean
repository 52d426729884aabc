/-! trees -/
def rng6 (x : Int32) : Prop := x = -1 ∨ ∃ j, j < 6 ∧ x = nI j
theorem tn_nI {n : Nat} (h : n < 2 ^ 31) : tn (nI n) = n := nI_clamp h
theorem rng6.tn {x : Int32} (h : rng6 x) (hx : ¬ x = -1) : x = nI (tn x) ∧ tn x < 6 := by
  rcases h with h | ⟨j, hj, e⟩
  · exact absurd h hx
  · subst e
    rw [tn_nI (by omega)]
    exact ⟨rfl, hj⟩
def Tr_cnt (k : Nat) (m : mx_Mm) : mx_Mm := mx_up m 4 k (m 4 k + nI 1)
def Tr_a1 (k n : Nat) (x : Int32) (m : mx_Mm) : mx_Mm := if x = -1 then m else if ¬ m (7 + n) (tn x) = 0 then Tr_cnt (k + 1) m else m
def Tr_a2 (k : Nat) (y : Int32) (m : mx_Mm) : mx_Mm := if y = -1 then m else Tr_cnt k m
def Tr_ann (k n : Nat) (x y : Int32) (m : mx_Mm) : mx_Mm := if x = y then m else Tr_a2 k y (Tr_a1 k n x m)
def Tr_at (g r n : Nat) (m : mx_Mm) : Int32 := if m 2 0 < m (43 + n) g ∨ ¬ m (85 + g) n = 0 then m (21 + n) r else -1
def Tr_s2 (g n : Nat) (x : Int32) (m : mx_Mm) : mx_Mm := if x = -1 then m else mx_up m (85 + g) (tn x) (m (85 + g) (tn x) ||| bit n)
def Tr_s3 (g n : Nat) (x : Int32) (m : mx_Mm) : mx_Mm := mx_up (Tr_ann 0 n (m (81 + g) n) x m) (81 + g) n x
def Tr_s1 (g r n : Nat) (m : mx_Mm) : mx_Mm := Tr_s3 g n (Tr_at g r n m) (Tr_s2 g n (Tr_at g r n m) m)
def Tr_sh1 (g r k : Nat) (m : mx_Mm) : mx_Mm := Tr_s1 g r (tn (m (28 + r) k)) m
def Tr_shared (g r : Nat) (m : mx_Mm) : mx_Mm := mx_lp 6 (Tr_sh1 g r) (fill_m (85 + g) 6 (nI 0) m)
def Tr_c1 (g st n : Nat) (c : Int32) (m : mx_Mm) : mx_Mm := mx_up m (127 + st) n (m (85 + g) n &&& (c ^^^ (-1)))
def Tr_c2 (g st n : Nat) (m : mx_Mm) : mx_Mm := if m 2 0 < m (43 + n) g then mx_up m (127 + st) n (m (127 + st) n ||| nI 64) else m
abbrev Tr_els (st s r n : Nat) (m : mx_Mm) : Prop := hold (m 77 st) n ∧ ¬ m (21 + n) s = m (21 + n) r
def Tr_cat (g st s r n : Nat) (m : mx_Mm) : Int32 := if m (127 + st) n = 0 ∨ Tr_els st s r n m then m (81 + g) n else -1
def Tr_cc (n : Nat) (x c : Int32) : Int32 := if x = -1 then c else c ||| bit n
def Tr_c4 (st n : Nat) (x : Int32) (m : mx_Mm) : mx_Mm := mx_up (Tr_ann 4 n (m (89 + st) n) x m) (89 + st) n x
def Tr_c12 (g st n : Nat) (a : Int32 × mx_Mm) : mx_Mm := Tr_c2 g st n (Tr_c1 g st n a.1 a.2)
def Tr_cb (g st s r n : Nat) (a : Int32 × mx_Mm) : Int32 × mx_Mm := (Tr_cc n (Tr_cat g st s r n (Tr_c12 g st n a)) a.1, Tr_c4 st n (Tr_cat g st s r n (Tr_c12 g st n a)) (Tr_c12 g st n a))
def Tr_ck (g st s r k : Nat) (a : Int32 × mx_Mm) : Int32 × mx_Mm := Tr_cb g st s r (tn (a.2 (28 + r) k)) a
def Tr_cuts (s g r : Nat) (m : mx_Mm) : mx_Mm := (mx_lp 6 (Tr_ck g (s * 3 + g) s r) (nI 0, m)).2
def Tr_o1 (st n : Nat) (m : mx_Mm) : mx_Mm := mx_up m (146 + st) n (m (127 + st) n ||| m 164 n)
def Tr_oat (st s n : Nat) (m : mx_Mm) : Int32 := if ¬ m 164 n = 0 ∨ (m 2 0 < m (59 + st) n ∧ ¬ m (146 + st) n = 0) then m (21 + n) s else -1
def Tr_o2 (n : Nat) (x : Int32) (m : mx_Mm) : mx_Mm := if x = -1 then m else mx_up m 164 (tn x) (m 164 (tn x) ||| bit n)
def Tr_o3 (st n : Nat) (x : Int32) (m : mx_Mm) : mx_Mm := mx_up (Tr_ann 2 n (m (108 + st) n) x m) (108 + st) n x
def Tr_ob (st s n : Nat) (m : mx_Mm) : mx_Mm := Tr_o3 st n (Tr_oat st s n (Tr_o1 st n m)) (Tr_o2 n (Tr_oat st s n (Tr_o1 st n m)) (Tr_o1 st n m))
def Tr_ok1 (st s k : Nat) (m : mx_Mm) : mx_Mm := Tr_ob st s (tn (m (28 + s) k)) m
def Tr_sources (s g : Nat) (m : mx_Mm) : mx_Mm := mx_lp 6 (Tr_ok1 (s * 3 + g) s) (fill_m 164 6 (nI 0) m)
def Tr_st1 (r s g : Nat) (m : mx_Mm) : mx_Mm := Tr_sources s g (Tr_cuts s g r m)
def Tr_settle (r : Nat) (m : mx_Mm) : mx_Mm := mx_lp 6 (fun s => mx_lp 3 (Tr_st1 r s)) (mx_lp 3 (fun g => Tr_shared g r) m)
/-- what the trees' methods ask: the meeting point, orders, ways and joins are routers (or none) -/
def Tr_ok (r : Nat) (m : mx_Mm) : Prop := m 79 0 = nI r ∧ Ne_ok m ∧ (∀ a t, a < 6 → t < 6 → rng6 (m (21 + a) t)) ∧ (∀ g n, g < 3 → n < 6 → rng6 (m (81 + g) n)) ∧ (∀ s n, s < 18 → n < 6 → rng6 (m (89 + s) n)) ∧ ∀ s n, s < 18 → n < 6 → rng6 (m (108 + s) n)
theorem Tr_ok.upP {r : Nat} {m : mx_Mm} (h : Tr_ok r m) {p k : Nat} {x : Int32} (hp : p < 21 ∨ (34 ≤ p ∧ p < 79) ∨ (84 ≤ p ∧ p < 89) ∨ 126 ≤ p) : Tr_ok r (mx_up m p k x) := by
  obtain ⟨h1, h2, h3, h4, h5, h6⟩ := h
  refine ⟨by rw [up_neP (by omega)]; exact h1, h2.upP (by omega), fun a t ha ht => ?_, fun a t ha ht => ?_, fun a t ha ht => ?_, fun a t ha ht => ?_⟩
  · rw [up_neP (by omega)]; exact h3 a t ha ht
  · rw [up_neP (by omega)]; exact h4 a t ha ht
  · rw [up_neP (by omega)]; exact h5 a t ha ht
  · rw [up_neP (by omega)]; exact h6 a t ha ht
theorem Tr_ok.upA {r : Nat} {m : mx_Mm} (h : Tr_ok r m) {p k : Nat} {x : Int32} (hp : 81 ≤ p ∧ p < 84 ∨ 89 ≤ p ∧ p < 107 ∨ 108 ≤ p ∧ p < 126) (hx : rng6 x) : Tr_ok r (mx_up m p k x) := by
  obtain ⟨h1, h2, h3, h4, h5, h6⟩ := h
  have key : ∀ q j, rng6 (m q j) → rng6 (mx_up m p k x q j) := fun q j hq => by
    by_cases e : q = p ∧ j = k
    · rw [e.1, e.2, up_same]; exact hx
    · rw [up_ne e]; exact hq
  exact ⟨by rw [up_neP (by omega)]; exact h1, h2.upP (by omega), fun a t ha ht => key _ _ (h3 a t ha ht), fun a t ha ht => key _ _ (h4 a t ha ht), fun a t ha ht => key _ _ (h5 a t ha ht), fun a t ha ht => key _ _ (h6 a t ha ht)⟩
theorem Tr_ok.n {r : Nat} {m : mx_Mm} (h : Tr_ok r m) {t k : Nat} (ht : t < 6) (hk : k < 6) : ∃ n, n < 6 ∧ m (28 + t) k = nI n ∧ tn (m (28 + t) k) = n := by
  obtain ⟨n, hn, e⟩ := h.2.1 t k ht hk
  exact ⟨n, hn, e, by rw [e]; exact tn_nI (by omega)⟩
theorem Tr_ann_ok {r k n : Nat} {x y : Int32} {m : mx_Mm} (h : Tr_ok r m) : Tr_ok r (Tr_ann k n x y m) := by
  have hc : ∀ {k : Nat} {m : mx_Mm}, Tr_ok r m → Tr_ok r (Tr_cnt k m) := fun h => h.upP (by omega)
  have h1 : Tr_ok r (Tr_a1 k n x m) := by
    unfold Tr_a1
    split
    · exact h
    · split
      · exact hc h
      · exact h
  unfold Tr_ann Tr_a2
  split
  · exact h
  · split
    · exact h1
    · exact hc h1
theorem Tr_at_rng {g r n : Nat} {m : mx_Mm} (h : Tr_ok r m) (hn : n < 6) (hr : r < 6) : rng6 (Tr_at g r n m) := by
  unfold Tr_at
  split
  · exact h.2.2.1 n r hn hr
  · exact Or.inl rfl
theorem Tr_s2_ok {g r n : Nat} {x : Int32} {m : mx_Mm} (hg : g < 3) (h : Tr_ok r m) : Tr_ok r (Tr_s2 g n x m) := by
  unfold Tr_s2
  split
  · exact h
  · exact h.upP (by omega)
theorem Tr_sh1_ok {g r k : Nat} {m : mx_Mm} (hg : g < 3) (hr : r < 6) (hk : k < 6) (h : Tr_ok r m) : Tr_ok r (Tr_sh1 g r k m) := by
  obtain ⟨n, hn, e, et⟩ := h.n hr hk
  show Tr_ok r (Tr_s1 g r (tn (m (28 + r) k)) m)
  rw [et]
  exact (Tr_ann_ok (Tr_s2_ok hg h)).upA (by omega) (Tr_at_rng h hn hr)
theorem Tr_fill_ok {r p n : Nat} {v : Int32} {m : mx_Mm} (hp : (84 ≤ p ∧ p < 89) ∨ 126 ≤ p) (h : Tr_ok r m) : Tr_ok r (fill_m p n v m) := lp_keep (Tr_ok r) n h (fun _ _ _ h => h.upP (by omega))
theorem Tr_shared_ok {g r : Nat} {m : mx_Mm} (hg : g < 3) (hr : r < 6) (h : Tr_ok r m) : Tr_ok r (Tr_shared g r m) := lp_keep (Tr_ok r) 6 (Tr_fill_ok (by omega) h) (fun _ _ hk h => Tr_sh1_ok hg hr hk h)
theorem Tr_c1_ok {r g st n : Nat} {c : Int32} {m : mx_Mm} (h : Tr_ok r m) : Tr_ok r (Tr_c1 g st n c m) := h.upP (by omega)
theorem Tr_c2_ok {r g st n : Nat} {m : mx_Mm} (h : Tr_ok r m) : Tr_ok r (Tr_c2 g st n m) := by
  unfold Tr_c2
  split
  · exact h.upP (by omega)
  · exact h
theorem Tr_cat_rng {g st s r n : Nat} {m : mx_Mm} (hg : g < 3) (hn : n < 6) (h : Tr_ok r m) : rng6 (Tr_cat g st s r n m) := by
  unfold Tr_cat
  split
  · exact h.2.2.2.1 g n hg hn
  · exact Or.inl rfl
theorem Tr_ck_ok {g st s r k : Nat} {a : Int32 × mx_Mm} (hg : g < 3) (hst : st < 18) (hr : r < 6) (hk : k < 6) (h : Tr_ok r a.2) : Tr_ok r (Tr_ck g st s r k a).2 := by
  obtain ⟨n, hn, e, et⟩ := h.n hr hk
  show Tr_ok r (Tr_cb g st s r (tn (a.2 (28 + r) k)) a).2
  rw [et]
  have h2 : Tr_ok r (Tr_c12 g st n a) := Tr_c2_ok (Tr_c1_ok h)
  exact (Tr_ann_ok h2).upA (by omega) (Tr_cat_rng hg hn h2)
theorem Tr_cuts_ok {s g r : Nat} {m : mx_Mm} (hs : s < 6) (hg : g < 3) (hr : r < 6) (h : Tr_ok r m) : Tr_ok r (Tr_cuts s g r m) := lp_keep (fun a : Int32 × mx_Mm => Tr_ok r a.2) 6 (m := (nI 0, m)) h (fun _ _ hk h => Tr_ck_ok hg (by omega) hr hk h)
theorem Tr_o1_ok {r st n : Nat} {m : mx_Mm} (h : Tr_ok r m) : Tr_ok r (Tr_o1 st n m) := h.upP (by omega)
theorem Tr_oat_rng {st s r n : Nat} {m : mx_Mm} (hs : s < 6) (hn : n < 6) (h : Tr_ok r m) : rng6 (Tr_oat st s n m) := by
  unfold Tr_oat
  split
  · exact h.2.2.1 n s hn hs
  · exact Or.inl rfl
theorem Tr_o2_ok {r n : Nat} {x : Int32} {m : mx_Mm} (h : Tr_ok r m) : Tr_ok r (Tr_o2 n x m) := by
  unfold Tr_o2
  split
  · exact h
  · exact h.upP (by omega)
theorem Tr_ok1_ok {st s r k : Nat} {m : mx_Mm} (hst : st < 18) (hs : s < 6) (hk : k < 6) (h : Tr_ok r m) : Tr_ok r (Tr_ok1 st s k m) := by
  obtain ⟨n, hn, e, et⟩ := h.n hs hk
  show Tr_ok r (Tr_ob st s (tn (m (28 + s) k)) m)
  rw [et]
  exact (Tr_ann_ok (Tr_o2_ok (Tr_o1_ok h))).upA (by omega) (Tr_oat_rng hs hn (Tr_o1_ok h))
theorem Tr_sources_ok {s g r : Nat} {m : mx_Mm} (hs : s < 6) (hg : g < 3) (h : Tr_ok r m) : Tr_ok r (Tr_sources s g m) := lp_keep (Tr_ok r) 6 (Tr_fill_ok (by omega) h) (fun _ _ hk h => Tr_ok1_ok (by omega) hs hk h)
theorem Tr_st1_ok {r s g : Nat} {m : mx_Mm} (hs : s < 6) (hg : g < 3) (hr : r < 6) (h : Tr_ok r m) : Tr_ok r (Tr_st1 r s g m) := Tr_sources_ok hs hg (Tr_cuts_ok hs hg hr h)
theorem Tr_shs_ok {r : Nat} {m : mx_Mm} (hr : r < 6) (h : Tr_ok r m) : Tr_ok r (mx_lp 3 (fun g => Tr_shared g r) m) := lp_keep (Tr_ok r) 3 h (fun _ _ hg h => Tr_shared_ok hg hr h)
theorem Tr_settle_ok {r : Nat} {m : mx_Mm} (hr : r < 6) (h : Tr_ok r m) : Tr_ok r (Tr_settle r m) := lp_keep (Tr_ok r) 6 (Tr_shs_ok hr h) (fun _ _ hs h => lp_keep (Tr_ok r) 3 h (fun _ _ hg h => Tr_st1_ok hs hg hr h))
