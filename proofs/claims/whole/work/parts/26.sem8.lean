/-! the reference -/
theorem Mo_lts {x : Int32} {n : Nat} (h : n + 1 < 2 ^ 31) : x < nI (n + 1) ↔ ¬ nI n < x := by
  have h1 := nI_toInt (n := n) (by omega)
  have h2 := nI_toInt (n := n + 1) h
  rw [Int32.lt_iff_toInt_lt, Int32.lt_iff_toInt_lt, h1, h2]
  omega
theorem nar01 {x : Int32} (h : x = nI 0 ∨ x = nI 1) : narrow .boolean (.int x) = .int x := by
  rcases h with h | h <;> subst h <;> rfl
theorem lp01 {n : Nat} {f : Nat → Int32 → Int32} {a : Int32} (h : a = nI 0 ∨ a = nI 1) (hf : ∀ k a, f k a = nI 0 ∨ f k a = nI 1) : mx_lp n f a = nI 0 ∨ mx_lp n f a = nI 1 := by
  cases n with
  | zero => exact h
  | succ n => exact hf _ _
theorem it01 {c : Prop} [Decidable c] : (if c then nI 1 else nI 0) = nI 0 ∨ (if c then nI 1 else nI 0) = nI 1 := by
  split
  · exact Or.inr rfl
  · exact Or.inl rfl
/-- a loop over any state that a test of the state may end early -/
theorem mx_loopH {α : Type} {N : Nat} {Hd : Nat → α → Prop} {Ex : α → Prop} (f : Nat → α → α) (c : α → Prop) (I : α → Prop) {m : α} (h0 : I m) (hI : ∀ i m, i < N → I m → I (f i m)) (hc : ∀ j m, ¬ c m → f j m = m)
    (hs : ∀ i m, i < N → I m → (c m → Hd (i + 1) (f i m)) → (¬ c m → Ex m) → Hd i m) (hx : ∀ m, I m → Ex m → Hd N m) (he : Ex (mx_lp N f m)) : Hd 0 m := by
  have hA : ∀ i, i ≤ N → I (mx_lp i f m) := fun i hi => lp_keep I i h0 (fun j m hj => hI j m (by omega))
  have hst : ∀ d i, ¬ c (mx_lp i f m) → mx_lp (i + d) f m = mx_lp i f m := by
    intro d i hn
    induction d with
    | zero => rfl
    | succ d ih =>
      show f (i + d) (mx_lp (i + d) f m) = _
      rw [ih]
      exact hc (i + d) _ hn
  have key : ∀ j, j ≤ N → Hd (N - j) (mx_lp (N - j) f m) := by
    intro j
    induction j with
    | zero => intro _; exact hx _ (hA N (Nat.le_refl _)) he
    | succ j ih =>
      intro hj
      have h1 := ih (by omega)
      have e : N - j = (N - (j + 1)) + 1 := by omega
      rw [e] at h1
      refine hs _ _ (by omega) (hA _ (by omega)) (fun _ => h1) (fun hn => ?_)
      have h2 := hst (j + 1) (N - (j + 1)) hn
      rw [show N - (j + 1) + (j + 1) = N by omega] at h2
      rw [← h2]
      exact he
  have := key N (Nat.le_refl _)
  rw [Nat.sub_self] at this
  exact this
abbrev Mo_on (l g : Nat) (m : mx_Mm) : Prop := m 185 1 < m 190 (3 * l + g)
def Mo_w1 (p : Nat) (m : mx_Mm) : mx_Mm := mx_up m 187 p (if nI (p % 7) = 0 then nI 0 else if m 186 p ≤ 0 then nI 1000 else m 186 p)
def Mo_w2 (k p : Nat) (m : mx_Mm) : mx_Mm := mx_up m 187 p (if m 187 (p / 6 * 6 + k) + m 187 (6 * k + p % 6) < m 187 p then m 187 (p / 6 * 6 + k) + m 187 (6 * k + p % 6) else m 187 p)
abbrev Mo_vc (p n : Nat) (m : mx_Mm) : Prop := ¬ nI (p % 7) = 0 ∧ m 187 p < nI 1000 ∧ 0 < m 186 (p / 6 * 6 + n) ∧ m 186 (p / 6 * 6 + n) + m 187 (6 * n + p % 6) = m 187 p
def Mo_v1 (p n : Nat) (m : mx_Mm) : mx_Mm := if Mo_vc p n m then mx_up m 188 p (nI n) else m
def Mo_vd (p : Nat) : Nat → mx_Mm → mx_Mm
  | 0, m => m
  | i + 1, m => Mo_vd p i (Mo_v1 p i m)
def Mo_v3 (p : Nat) (m : mx_Mm) : mx_Mm := Mo_vd p 6 (mx_up m 188 p (-1))
def Mo_ways (m : mx_Mm) : mx_Mm := mx_lp 36 Mo_v3 (mx_lp 6 (fun k => mx_lp 36 (Mo_w2 k)) (mx_lp 36 Mo_w1 m))
theorem nI_dn (i : Nat) : nI (i + 1) + (-1) = nI i := by
  rw [← nI_add]
  show nI i + 1 + (-1) = nI i
  rw [Int32.add_assoc]
  exact Int32.add_zero _
def Mo_as1 (n g : Nat) (m : mx_Mm) (k : Nat) (a : Int32) : Int32 := if ¬ a = 0 ∨ m 192 (3 * k + g) = nI n then nI 1 else nI 0
def Mo_as (n g : Nat) (m : mx_Mm) : Int32 := mx_lp 6 (Mo_as1 n g m) (bz (Mo_on n g m))
def Mo_sd (r n g : Nat) (m : mx_Mm) : Int32 := if Mo_as n g m = 0 then -1 else m 188 (6 * n + r)
abbrev Mo_in (n k st : Nat) (m : mx_Mm) : Prop := m 192 (3 * k + st % 3) = nI n ∧ ¬ m 194 (18 * k + st) = nI n
abbrev Mo_out (n k st : Nat) (m : mx_Mm) : Prop := Mo_in n k st m ∨ m 196 (18 * k + st) = nI n
def Mo_c0 (n st : Nat) (m : mx_Mm) : Nat := if Mo_on n (st % 3) m then 1 else 0
def Mo_n0 (n st : Nat) (m : mx_Mm) (k c : Nat) : Nat := if Mo_in n k st m then c + 1 else c
def Mo_n1 (n st : Nat) (m : mx_Mm) (k c : Nat) : Nat := if Mo_out n k st m then c + 1 else c
def Mo_m0 (n st : Nat) (m : mx_Mm) : Nat := mx_lp 6 (Mo_n0 n st m) (Mo_c0 n st m)
def Mo_m1 (n st : Nat) (m : mx_Mm) : Nat := mx_lp 6 (Mo_n1 n st m) (Mo_c0 n st m)
abbrev Mo_oth (r n st : Nat) (m : mx_Mm) : Prop := ¬ m 199 (18 * n + st) = 0 ∧ ¬ m 188 (6 * n + st / 3) = m 188 (6 * n + r)
def Mo_cd (r n st : Nat) (m : mx_Mm) : Int32 := if m 188 (6 * n + r) < 0 ∨ ¬ m 192 (3 * n + st % 3) = m 188 (6 * n + r) then -1 else if nI (Mo_m0 n st m) = 0 ∨ Mo_oth r n st m then m 188 (6 * n + r) else -1
def Mo_ap1 (n st : Nat) (m : mx_Mm) (k : Nat) (a : Int32) : Int32 := if ¬ a = 0 ∨ m 196 (18 * k + st) = nI n then nI 1 else nI 0
def Mo_ap (n st : Nat) (m : mx_Mm) : Int32 := mx_lp 6 (Mo_ap1 n st m) (nI 0)
abbrev Mo_pc (n st : Nat) (m : mx_Mm) : Prop := ¬ Mo_ap n st m = 0 ∨ (m 185 1 < m 198 (18 * n + st) ∧ ¬ nI (Mo_m1 n st m) ≤ 0)
def Mo_pd (n st : Nat) (m : mx_Mm) : Int32 := if Mo_pc n st m then m 188 (6 * n + st / 3) else -1
def Mo_cnt (k : Nat) (m : mx_Mm) : mx_Mm := mx_up m 201 k (m 201 k + nI 1)
def Mo_t1 (k n : Nat) (x : Int32) (m : mx_Mm) : mx_Mm := if x < 0 then m else if m 186 (6 * n + tn x) ≤ 0 then m else Mo_cnt (k + 1) m
def Mo_t2 (k : Nat) (y : Int32) (m : mx_Mm) : mx_Mm := if y < 0 then m else Mo_cnt k m
def Mo_tell (k n : Nat) (x y : Int32) (m : mx_Mm) : mx_Mm := if x = y then m else Mo_t2 k y (Mo_t1 k n x m)
def Mo_b1 (k : Nat) (m : mx_Mm) : mx_Mm := mx_up m 193 k (m 192 k)
def Mo_bf (k : Nat) (m : mx_Mm) : mx_Mm := mx_up m 199 k (if ¬ m 199 k = 0 ∧ m 185 1 < m 198 k then nI 1 else nI 0)
def Mo_b3 (k : Nat) (m : mx_Mm) : mx_Mm := mx_up m 195 k (m 194 k)
def Mo_b4 (k : Nat) (m : mx_Mm) : mx_Mm := mx_up m 197 k (m 196 k)
def Mo_b2 (k : Nat) (m : mx_Mm) : mx_Mm := Mo_b4 k (Mo_b3 k (Mo_bf k m))
def Mo_rv1 (r k : Nat) (a : Int32 × mx_Mm) : Int32 := if ¬ a.1 = 0 ∨ ¬ Mo_sd r (k / 3) (k % 3) a.2 = a.2 192 k then nI 1 else nI 0
def Mo_r1 (r k : Nat) (a : Int32 × mx_Mm) : Int32 × mx_Mm := (Mo_rv1 r k a, mx_up a.2 192 k (Mo_sd r (k / 3) (k % 3) a.2))
def Mo_rv2 (r k : Nat) (a : Int32 × mx_Mm) : Int32 := if ¬ a.1 = 0 ∨ ¬ Mo_cd r (k / 18) (k % 18) a.2 = a.2 194 k ∨ ¬ Mo_pd (k / 18) (k % 18) a.2 = a.2 196 k then nI 1 else nI 0
def Mo_r2 (r k : Nat) (a : Int32 × mx_Mm) : Int32 × mx_Mm := (Mo_rv2 r k a, mx_up (mx_up a.2 194 k (Mo_cd r (k / 18) (k % 18) a.2)) 196 k (Mo_pd (k / 18) (k % 18) a.2))
def Mo_rd (r : Nat) (m : mx_Mm) : Int32 × mx_Mm := mx_lp 108 (Mo_r2 r) (mx_lp 18 (Mo_r1 r) (nI 0, m))
def Mo_rs (r : Nat) (a : Int32 × mx_Mm) : Int32 × mx_Mm := if a.1 = 0 then a else Mo_rd r a.2
def Mo_rr (r : Nat) (m : mx_Mm) : Int32 × mx_Mm := mx_lp 100 (fun _ => Mo_rs r) (nI 1, m)
def Mo_e1 (k : Nat) (m : mx_Mm) : mx_Mm := Mo_tell 0 (k / 3) (m 193 k) (m 192 k) m
def Mo_e3 (k : Nat) (m : mx_Mm) : mx_Mm := Mo_tell 2 (k / 18) (m 197 k) (m 196 k) m
def Mo_e4 (k : Nat) (m : mx_Mm) : mx_Mm := Mo_tell 4 (k / 18) (m 195 k) (m 194 k) m
def Mo_e2 (k : Nat) (m : mx_Mm) : mx_Mm := Mo_e4 k (Mo_e3 k m)
def Mo_begin (m : mx_Mm) : mx_Mm := mx_lp 108 Mo_b2 (mx_lp 18 Mo_b1 m)
def Mo_settle (r : Nat) (m : mx_Mm) : mx_Mm := mx_lp 108 Mo_e2 (mx_lp 18 Mo_e1 (Mo_rr r (Mo_begin m)).2)
/-- what the reference's methods ask -/
def Mo_ok (r : Nat) (m : mx_Mm) : Prop := m 185 0 = nI r ∧ (∀ k, k < 36 → rng6 (m 188 k)) ∧ (∀ k, k < 18 → rng6 (m 192 k) ∧ rng6 (m 193 k)) ∧ ∀ k, k < 108 → rng6 (m 194 k) ∧ rng6 (m 195 k) ∧ rng6 (m 196 k) ∧ rng6 (m 197 k)
theorem Mo_ok.upP {r : Nat} {m : mx_Mm} (h : Mo_ok r m) {p k : Nat} {x : Int32} (hp : p ≠ 188 ∧ (p < 192 ∨ 197 < p) ∧ (p ≠ 185 ∨ k ≠ 0)) : Mo_ok r (mx_up m p k x) := by
  obtain ⟨h1, h2, h3, h4⟩ := h
  refine ⟨by rw [up_ne (by omega)]; exact h1, fun j hj => ?_, fun j hj => ?_, fun j hj => ?_⟩
  · rw [up_neP (by omega)]; exact h2 j hj
  · rw [up_neP (by omega), up_neP (by omega)]; exact h3 j hj
  · rw [up_neP (by omega), up_neP (by omega), up_neP (by omega), up_neP (by omega)]; exact h4 j hj
theorem Mo_ok.upR {r : Nat} {m : mx_Mm} (h : Mo_ok r m) {p k : Nat} {x : Int32} (hp : p ≠ 185) (hx : rng6 x) : Mo_ok r (mx_up m p k x) := by
  obtain ⟨h1, h2, h3, h4⟩ := h
  have key : ∀ q j, rng6 (m q j) → rng6 (mx_up m p k x q j) := fun q j hq => by
    by_cases e : q = p ∧ j = k
    · rw [e.1, e.2, up_same]; exact hx
    · rw [up_ne e]; exact hq
  exact ⟨by rw [up_neP (by omega)]; exact h1, fun j hj => key _ _ (h2 j hj), fun j hj => ⟨key _ _ (h3 j hj).1, key _ _ (h3 j hj).2⟩, fun j hj => ⟨key _ _ (h4 j hj).1, key _ _ (h4 j hj).2.1, key _ _ (h4 j hj).2.2.1, key _ _ (h4 j hj).2.2.2⟩⟩
theorem rng6_m1 : rng6 (-1) := Or.inl rfl
theorem rng6_nI {n : Nat} (h : n < 6) : rng6 (nI n) := Or.inr ⟨n, h, rfl⟩
theorem rng6_it {c : Prop} [Decidable c] {x y : Int32} (h1 : rng6 x) (h2 : rng6 y) : rng6 (if c then x else y) := by
  split
  · exact h1
  · exact h2
theorem rng6_pos {x : Int32} (h : rng6 x) (hx : ¬ x < 0) : x = nI (tn x) ∧ tn x < 6 := h.tn (fun e => hx (by rw [e]; decide))
theorem rng6_neg {x : Int32} (h : rng6 x) : x < 0 ↔ x = -1 := by
  rcases h with h | ⟨j, hj, e⟩
  · rw [h]; decide
  · subst e
    constructor
    · intro h; exact absurd h (Int32.not_lt.mpr (nI_le (Nat.zero_le _) (by omega)))
    · intro h; exact absurd h (pm_nI_m1 (by omega))
theorem Mo_v1_ok {r p n : Nat} {m : mx_Mm} (hn : n < 6) (h : Mo_ok r m) : Mo_ok r (Mo_v1 p n m) := by
  unfold Mo_v1
  split
  · exact h.upR (by decide) (rng6_nI hn)
  · exact h
theorem Mo_vd_ok {r p : Nat} : ∀ (i : Nat) {m : mx_Mm}, i ≤ 6 → Mo_ok r m → Mo_ok r (Mo_vd p i m)
  | 0, _, _, h => h
  | i + 1, _, hi, h => Mo_vd_ok i (by omega) (Mo_v1_ok (by omega) h)
theorem Mo_v3_ok {r p : Nat} {m : mx_Mm} (h : Mo_ok r m) : Mo_ok r (Mo_v3 p m) := Mo_vd_ok 6 (Nat.le_refl _) (h.upR (by decide) rng6_m1)
theorem Mo_ways_ok {r : Nat} {m : mx_Mm} (h : Mo_ok r m) : Mo_ok r (Mo_ways m) :=
  lp_keep (Mo_ok r) 36 (lp_keep (Mo_ok r) 6 (lp_keep (Mo_ok r) 36 h (fun _ _ _ h => h.upP (by omega))) (fun _ _ _ h => lp_keep (Mo_ok r) 36 h (fun _ _ _ h => h.upP (by omega)))) (fun _ _ _ h => Mo_v3_ok h)
theorem Mo_sd_rng {r n g : Nat} {m : mx_Mm} (hn : n < 6) (hr : r < 6) (h : Mo_ok r m) : rng6 (Mo_sd r n g m) := rng6_it rng6_m1 (h.2.1 _ (by omega))
theorem Mo_cd_rng {r n st : Nat} {m : mx_Mm} (hn : n < 6) (hr : r < 6) (h : Mo_ok r m) : rng6 (Mo_cd r n st m) := rng6_it rng6_m1 (rng6_it (h.2.1 _ (by omega)) rng6_m1)
theorem Mo_pd_rng {r n st : Nat} {m : mx_Mm} (hn : n < 6) (hst : st < 18) (h : Mo_ok r m) : rng6 (Mo_pd n st m) := rng6_it (h.2.1 _ (by omega)) rng6_m1
theorem Mo_r1_ok {r k : Nat} {a : Int32 × mx_Mm} (hk : k < 18) (hr : r < 6) (h : Mo_ok r a.2) : Mo_ok r (Mo_r1 r k a).2 := h.upR (by decide) (Mo_sd_rng (by omega) hr h)
theorem Mo_r2_ok {r k : Nat} {a : Int32 × mx_Mm} (hk : k < 108) (hr : r < 6) (h : Mo_ok r a.2) : Mo_ok r (Mo_r2 r k a).2 := (h.upR (by decide) (Mo_cd_rng (by omega) hr h)).upR (by decide) (Mo_pd_rng (by omega) (by omega) h)
theorem Mo_rd_ok {r : Nat} {m : mx_Mm} (hr : r < 6) (h : Mo_ok r m) : Mo_ok r (Mo_rd r m).2 :=
  lp_keep (fun a : Int32 × mx_Mm => Mo_ok r a.2) 108 (lp_keep (fun a : Int32 × mx_Mm => Mo_ok r a.2) 18 (m := (nI 0, m)) h (fun _ _ hk h => Mo_r1_ok hk hr h)) (fun _ _ hk h => Mo_r2_ok hk hr h)
theorem Mo_rs_ok {r : Nat} {a : Int32 × mx_Mm} (hr : r < 6) (h : Mo_ok r a.2) : Mo_ok r (Mo_rs r a).2 := by
  unfold Mo_rs
  split
  · exact h
  · exact Mo_rd_ok hr h
theorem Mo_rr_ok {r : Nat} {m : mx_Mm} (hr : r < 6) (h : Mo_ok r m) : Mo_ok r (Mo_rr r m).2 := lp_keep (fun a : Int32 × mx_Mm => Mo_ok r a.2) 100 (m := (nI 1, m)) h (fun _ _ _ h => Mo_rs_ok hr h)
theorem Mo_cnt_ok {r k : Nat} {m : mx_Mm} (h : Mo_ok r m) : Mo_ok r (Mo_cnt k m) := h.upP (by omega)
theorem Mo_tell_ok {r k n : Nat} {x y : Int32} {m : mx_Mm} (h : Mo_ok r m) : Mo_ok r (Mo_tell k n x y m) := by
  have h1 : Mo_ok r (Mo_t1 k n x m) := by
    unfold Mo_t1
    split
    · exact h
    · split
      · exact h
      · exact Mo_cnt_ok h
  unfold Mo_tell Mo_t2
  split
  · exact h
  · split
    · exact h1
    · exact Mo_cnt_ok h1
theorem Mo_b1_ok {r k : Nat} {m : mx_Mm} (hk : k < 18) (h : Mo_ok r m) : Mo_ok r (Mo_b1 k m) := h.upR (by decide) (h.2.2.1 k hk).1
theorem Mo_b2_ok {r k : Nat} {m : mx_Mm} (hk : k < 108) (h : Mo_ok r m) : Mo_ok r (Mo_b2 k m) := by
  have h1 : Mo_ok r (Mo_bf k m) := h.upP (by omega)
  have h2 : Mo_ok r (Mo_b3 k (Mo_bf k m)) := h1.upR (by decide) (h1.2.2.2 k hk).1
  exact h2.upR (by decide) (h2.2.2.2 k hk).2.2.1
theorem Mo_begin_ok {r : Nat} {m : mx_Mm} (h : Mo_ok r m) : Mo_ok r (Mo_begin m) := lp_keep (Mo_ok r) 108 (lp_keep (Mo_ok r) 18 h (fun _ _ hk h => Mo_b1_ok hk h)) (fun _ _ hk h => Mo_b2_ok hk h)
theorem Mo_e2_ok {r k : Nat} {m : mx_Mm} (h : Mo_ok r m) : Mo_ok r (Mo_e2 k m) := Mo_tell_ok (Mo_tell_ok h)
theorem Mo_settle_ok {r : Nat} {m : mx_Mm} (hr : r < 6) (h : Mo_ok r m) : Mo_ok r (Mo_settle r m) := lp_keep (Mo_ok r) 108 (lp_keep (Mo_ok r) 18 (Mo_rr_ok hr (Mo_begin_ok h)) (fun _ _ _ h => Mo_tell_ok h)) (fun _ _ _ h => Mo_e2_ok h)
theorem rd01 {r : Nat} {m : mx_Mm} : (Mo_rd r m).1 = nI 0 ∨ (Mo_rd r m).1 = nI 1 :=
  lp_keep (fun a : Int32 × mx_Mm => a.1 = nI 0 ∨ a.1 = nI 1) 108 (lp_keep (fun a : Int32 × mx_Mm => a.1 = nI 0 ∨ a.1 = nI 1) 18 (m := (nI 0, m)) (Or.inl rfl) (fun _ _ _ _ => it01)) (fun _ _ _ _ => it01)
