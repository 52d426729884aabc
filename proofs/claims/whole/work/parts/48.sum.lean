/-! sums, and loops that go over the routers in an order -/
def sg {α : Type} (A : α → α → α) (z : α) : Nat → (Nat → α) → α
  | 0, _ => z
  | n + 1, f => A (sg A z n f) (f n)
theorem sg_cg {α : Type} {A : α → α → α} {z : α} : ∀ (n : Nat) {f g : Nat → α}, (∀ k, k < n → f k = g k) → sg A z n f = sg A z n g
  | 0, _, _, _ => rfl
  | n + 1, f, g, h => by
    show A (sg A z n f) (f n) = A (sg A z n g) (g n)
    rw [sg_cg n (fun k hk => h k (by omega)), h n (by omega)]
/-- one turn's value put in the place of another's -/
theorem sg_rep {α : Type} {A : α → α → α} {z : α} (hc : ∀ a b, A a b = A b a) (ha : ∀ a b c, A (A a b) c = A a (A b c)) {f : Nat → α} {v : α} {i : Nat} : ∀ (n : Nat), i < n → A (sg A z n (fun k => if k = i then v else f k)) (f i) = A (sg A z n f) v
  | 0, h => absurd h (Nat.not_lt_zero _)
  | n + 1, h => by
    show A (A (sg A z n (fun k => if k = i then v else f k)) (if n = i then v else f n)) (f i) = A (A (sg A z n f) (f n)) v
    by_cases e : n = i
    · subst e
      rw [if_pos rfl, sg_cg n (g := f) (fun k hk => if_neg (by omega)), ha, ha, hc v]
    · rw [if_neg e, ha, hc (f n), ← ha, sg_rep hc ha n (by omega), ha, hc v, ← ha]
theorem sg_perm {α : Type} {A : α → α → α} {z : α} (hc : ∀ a b, A a b = A b a) (ha : ∀ a b c, A (A a b) c = A a (A b c)) (f : Nat → α) : ∀ (n : Nat) (o : Nat → Nat), (∀ j, j < n → ∃ k, k < n ∧ o k = j) → sg A z n (fun k => f (o k)) = sg A z n f
  | 0, _, _ => rfl
  | n + 1, o, h => by
    obtain ⟨k0, hk0, e0⟩ := h n (by omega)
    show A (sg A z n (fun k => f (o k))) (f (o n)) = A (sg A z n f) (f n)
    by_cases e : k0 = n
    · subst e
      rw [sg_perm hc ha f k0 o (fun j hj => ?_), e0]
      obtain ⟨k, hk, ek⟩ := h j (by omega)
      refine ⟨k, ?_, ek⟩
      have : k ≠ k0 := fun q => by rw [q, e0] at ek; omega
      omega
    · have h1 := sg_rep (z := z) hc ha (f := fun k => f (o k)) (v := f (o n)) (i := k0) n (by omega)
      rw [← h1, e0]
      have h2 := sg_perm (z := z) hc ha f n (fun k => if k = k0 then o n else o k) (fun j hj => by
        obtain ⟨k, hk, ek⟩ := h j (by omega)
        have hk1 : k ≠ k0 := fun q => by rw [q, e0] at ek; omega
        by_cases e2 : k = n
        · exact ⟨k0, by omega, by show (if k0 = k0 then o n else o k0) = j; rw [if_pos rfl, ← e2]; exact ek⟩
        · exact ⟨k, by omega, by show (if k = k0 then o n else o k) = j; rw [if_neg hk1]; exact ek⟩)
      rw [← h2]
      congr 1
      refine sg_cg n (fun k _ => ?_)
      by_cases e3 : k = k0
      · rw [if_pos e3, if_pos e3]
      · rw [if_neg e3, if_neg e3]
theorem sn_1 {f : Nat → Nat} {i : Nat} : ∀ (n : Nat), i < n → f i ≤ sg Nat.add 0 n f
  | 0, h => absurd h (Nat.not_lt_zero _)
  | n + 1, h => by
    show f i ≤ sg Nat.add 0 n f + f n
    by_cases e : i = n
    · subst e; omega
    · have := sn_1 (f := f) (i := i) n (by omega)
      omega
theorem sn_2 {f : Nat → Nat} {i k : Nat} (hik : i < k) : ∀ (n : Nat), k < n → f i + f k ≤ sg Nat.add 0 n f
  | 0, h => absurd h (Nat.not_lt_zero _)
  | n + 1, h => by
    show f i + f k ≤ sg Nat.add 0 n f + f n
    by_cases e : k = n
    · subst e
      have := sn_1 (f := f) (i := i) k hik
      omega
    · have := sn_2 (f := f) hik n (by omega)
      omega
/-- what covers six routers in six turns takes none twice -/
theorem cov_inj {o : Nat → Nat} (hb : ∀ k, k < 6 → o k < 6) (hs : ∀ j, j < 6 → ∃ k, k < 6 ∧ o k = j) {i k : Nat} (hik : i < k) (hk : k < 6) : o i ≠ o k := fun e => by
  have h1 := sg_perm (A := Nat.add) (z := 0) Nat.add_comm Nat.add_assoc (fun j => if j = o k then 1 else 0) 6 o hs
  have h2 := sn_2 (f := fun j => (fun j => if j = o k then 1 else 0) (o j)) hik 6 hk
  have h3 : ∀ c, c < 6 → sg Nat.add 0 6 (fun j => if j = c then 1 else 0) = 1 := by decide
  rw [h1, h3 _ (hb k hk)] at h2
  have h4 : (1 : Nat) + 1 ≤ 1 := by
    have e1 : (if o i = o k then 1 else 0) = 1 := if_pos e
    have e2 : (if o k = o k then 1 else 0) = 1 := if_pos rfl
    have h5 : (if o i = o k then 1 else 0) + (if o k = o k then 1 else 0) ≤ 1 := h2
    rw [e1, e2] at h5
    exact h5
  omega
abbrev sI (n : Nat) (f : Nat → Int32) : Int32 := sg (fun a b : Int32 => a + b) 0 n f
theorem sI_perm (f : Nat → Int32) {n : Nat} {o : Nat → Nat} (h : ∀ j, j < n → ∃ k, k < n ∧ o k = j) : sI n (fun k => f (o k)) = sI n f := sg_perm Int32.add_comm Int32.add_assoc f n o h
theorem sI_add (f g : Nat → Int32) : ∀ (n : Nat), sI n (fun k => f k + g k) = sI n f + sI n g
  | 0 => (Int32.add_zero 0).symm
  | n + 1 => by
    show sI n (fun k => f k + g k) + (f n + g n) = sI n f + f n + (sI n g + g n)
    rw [sI_add f g n, Int32.add_assoc, Int32.add_assoc, ← Int32.add_assoc (sI n g), Int32.add_comm (sI n g) (f n), Int32.add_assoc]
theorem sI_0 : ∀ (n : Nat), sI n (fun _ => 0) = 0
  | 0 => rfl
  | n + 1 => by
    show sI n (fun _ => 0) + 0 = 0
    rw [sI_0 n, Int32.add_zero]
theorem sI_swap (f : Nat → Nat → Int32) (p : Nat) : ∀ (n : Nat), sI n (fun a => sI p (fun b => f a b)) = sI p (fun b => sI n (fun a => f a b))
  | 0 => (sI_0 p).symm
  | n + 1 => by
    show sI n (fun a => sI p (fun b => f a b)) + sI p (fun b => f n b) = sI p (fun b => sI n (fun a => f a b) + f n b)
    rw [sI_swap f p n, sI_add]
/-- a sum over pairs -/
theorem sI_lp (f : Nat → Int32) (a : Int32) : ∀ (n : Nat), mx_lp n (fun i s => s + f i) a = a + sI n f
  | 0 => (Int32.add_zero a).symm
  | n + 1 => by
    show mx_lp n (fun i s => s + f i) a + f n = a + (sI n f + f n)
    rw [sI_lp f a n, Int32.add_assoc]
theorem sI_mul (f : Nat → Nat → Int32) {k : Nat} (hk : 0 < k) (n : Nat) : sI (n * k) (fun p => f (p / k) (p % k)) = sI n (fun a => sI k (fun b => f a b)) := by
  have h1 := lp_mul (fun a b (s : Int32) => s + f a b) k hk n 0
  rw [sI_lp (fun p => f (p / k) (p % k)) 0 (n * k), Int32.zero_add] at h1
  rw [h1]
  have h2 : mx_lp n (fun a => mx_lp k (fun b (s : Int32) => s + f a b)) 0 = mx_lp n (fun a s => s + sI k (fun b => f a b)) 0 := lp_congr n 0 (fun a m _ => sI_lp (fun b => f a b) m k)
  rw [h2, sI_lp, Int32.zero_add]
/-! a loop that goes over the routers -/
/-- a row written at the turn's router -/
theorem row_at {α : Type} {F : Nat → α → α} {o : Nat → Nat} (R : α → Nat → Int32) (v : Nat → α → Int32) {I : α → Prop} {a : α} (h0 : I a) (hI : ∀ k x, k < 6 → I x → I (F k x)) (hR : ∀ k x q, k < 6 → I x → q < 6 → R (F k x) q = if q = o k then v k x else R x q) (hb : ∀ k, k < 6 → o k < 6) (hi : ∀ i k, i < k → k < 6 → o i ≠ o k) : ∀ (j : Nat), j ≤ 6 → I (mx_lp j F a) ∧ ∀ k, k < 6 → R (mx_lp j F a) (o k) = if k < j then v k (mx_lp k F a) else R a (o k)
  | 0, _ => ⟨h0, fun k _ => by rw [if_neg (Nat.not_lt_zero _)]; rfl⟩
  | j + 1, hj => by
    obtain ⟨i1, i2⟩ := row_at R v h0 hI hR hb hi j (by omega)
    refine ⟨hI j _ (by omega) i1, fun k hk => ?_⟩
    show R (F j (mx_lp j F a)) (o k) = _
    rw [hR j _ _ (by omega) i1 (hb k hk)]
    rcases Nat.lt_trichotomy k j with e | e | e
    · rw [if_neg (hi k j e (by omega)), i2 k hk, if_pos e, if_pos (by omega)]
    · subst e; rw [if_pos rfl, if_pos (by omega)]
    · rw [if_neg (fun z => hi j k e hk z.symm), i2 k hk, if_neg (by omega), if_neg (by omega)]
/-- a set that gains the turn's router -/
theorem set_at {α : Type} {F : Nat → α → α} {o : Nat → Nat} (P : α → Int32) (W : Nat → α → Prop) [∀ k x, Decidable (W k x)] {I : α → Prop} {a : α} (h0 : I a) (hI : ∀ k x, k < 6 → I x → I (F k x)) (hP : ∀ k x, k < 6 → I x → P (F k x) = if W k x then P x ||| bit (o k) else P x) (hb : ∀ k, k < 6 → o k < 6) (hz : P a = nI 0) : ∀ (j : Nat), j ≤ 6 → I (mx_lp j F a) ∧ bs (P (mx_lp j F a)) (fun n => ∃ k, k < j ∧ n = o k ∧ W k (mx_lp k F a))
  | 0, _ => ⟨h0, by
    show bs (P a) _
    rw [hz]
    exact bs_cg bs_0 (fun n _ => ⟨fun h => h.elim, fun ⟨k, hk, _⟩ => absurd hk (Nat.not_lt_zero _)⟩)⟩
  | j + 1, hj => by
    obtain ⟨i1, i2⟩ := set_at P W h0 hI hP hb hz j (by omega)
    refine ⟨hI j _ (by omega) i1, ?_⟩
    show bs (P (F j (mx_lp j F a))) _
    rw [hP j _ (by omega) i1]
    by_cases w : W j (mx_lp j F a)
    · rw [if_pos w]
      refine bs_cg (bs_or i2 (bs_bit (by have := hb j (by omega); omega))) (fun n _ => ⟨fun h => ?_, fun ⟨k, hk, e, q⟩ => ?_⟩)
      · rcases h with ⟨k, hk, e, q⟩ | h
        · exact ⟨k, by omega, e, q⟩
        · exact ⟨j, by omega, h, w⟩
      · by_cases c : k = j
        · subst c; exact Or.inr e
        · exact Or.inl ⟨k, by omega, e, q⟩
    · rw [if_neg w]
      refine bs_cg i2 (fun n _ => ⟨fun ⟨k, hk, e, q⟩ => ⟨k, by omega, e, q⟩, fun ⟨k, hk, e, q⟩ => ?_⟩)
      by_cases c : k = j
      · subst c; exact absurd q w
      · exact ⟨k, by omega, e, q⟩
/-- a count that grows by the turn -/
theorem cnt_at {α : Type} {F : Nat → α → α} (T : α → Int32) (c : Nat → α → Int32) {I : α → Prop} {a : α} (h0 : I a) : ∀ (n : Nat), (∀ k x, k < n → I x → I (F k x)) → (∀ k x, k < n → I x → T (F k x) = T x + c k x) → I (mx_lp n F a) ∧ T (mx_lp n F a) = T a + sI n (fun k => c k (mx_lp k F a))
  | 0, _, _ => ⟨h0, (Int32.add_zero _).symm⟩
  | n + 1, hI, hT => by
    obtain ⟨i1, i2⟩ := cnt_at T c h0 n (fun k x hk => hI k x (by omega)) (fun k x hk => hT k x (by omega))
    refine ⟨hI n _ (by omega) i1, ?_⟩
    show T (F n (mx_lp n F a)) = T a + (sI n (fun k => c k (mx_lp k F a)) + c n (mx_lp n F a))
    rw [hT n _ (by omega) i1, i2, Int32.add_assoc]
