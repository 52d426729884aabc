/-! pure rows: loops, and the shortest ways as a matrix -/
theorem lp_congr {α : Type} {f g : Nat → α → α} : ∀ (n : Nat) (m : α), (∀ i m, i < n → f i m = g i m) → mx_lp n f m = mx_lp n g m
  | 0, _, _ => rfl
  | n + 1, m, h => by
    show f n (mx_lp n f m) = g n (mx_lp n g m)
    rw [lp_congr n m (fun i m hi => h i m (by omega)), h n _ (by omega)]
theorem lp_add {α : Type} (f : Nat → α → α) (n : Nat) : ∀ (k : Nat) (m : α), mx_lp (n + k) f m = mx_lp k (fun j => f (n + j)) (mx_lp n f m)
  | 0, _ => rfl
  | k + 1, m => by
    show f (n + k) (mx_lp (n + k) f m) = f (n + k) (mx_lp k (fun j => f (n + j)) (mx_lp n f m))
    rw [lp_add f n k m]
theorem lp_mul {α : Type} (g : Nat → Nat → α → α) (k : Nat) (hk : 0 < k) : ∀ (n : Nat) (m : α), mx_lp (n * k) (fun p => g (p / k) (p % k)) m = mx_lp n (fun a => mx_lp k (g a)) m
  | 0, m => by rw [Nat.zero_mul]; rfl
  | n + 1, m => by
    rw [Nat.succ_mul, lp_add, lp_mul g k hk n m]
    show mx_lp k _ _ = mx_lp k (g n) (mx_lp n (fun a => mx_lp k (g a)) m)
    refine lp_congr k _ (fun j m hj => ?_)
    have e1 : (n * k + j) / k = n := by
      rw [Nat.mul_comm, Nat.mul_add_div hk, Nat.div_eq_of_lt hj, Nat.add_zero]
    have e2 : (n * k + j) % k = j := by
      rw [Nat.mul_comm, Nat.mul_add_mod, Nat.mod_eq_of_lt hj]
    rw [e1, e2]
/-- two loops side by side: a relation that every turn keeps -/
theorem lp_rel {α β : Type} {f : Nat → α → α} {g : Nat → β → β} (R : α → β → Prop) : ∀ (n : Nat) {a : α} {b : β}, R a b → (∀ i a b, i < n → R a b → R (f i a) (g i b)) → R (mx_lp n f a) (mx_lp n g b)
  | 0, _, _, h, _ => h
  | n + 1, _, _, h, hs => hs n _ _ (by omega) (lp_rel R n h (fun i a b hi => hs i a b (by omega)))
/-- a loop keeps what every turn keeps -/
theorem lp_keep {α : Type} {f : Nat → α → α} (I : α → Prop) : ∀ (n : Nat) {m : α}, I m → (∀ i m, i < n → I m → I (f i m)) → I (mx_lp n f m)
  | 0, _, h, _ => h
  | n + 1, _, h, hs => hs n _ (by omega) (lp_keep I n h (fun i m hi => hs i m (by omega)))
theorem up_same (f : mx_Mm) (p k : Nat) (x : Int32) : mx_up f p k x p k = x := by simp [mx_up]
theorem up_ne {f : mx_Mm} {p k q j : Nat} {x : Int32} (h : ¬ (q = p ∧ j = k)) : mx_up f p k x q j = f q j := by simp [mx_up, h]
theorem up_neP {f : mx_Mm} {p k q j : Nat} {x : Int32} (h : q ≠ p) : mx_up f p k x q j = f q j := up_ne (fun e => h e.1)
theorem up_neK {f : mx_Mm} {p k q j : Nat} {x : Int32} (h : j ≠ k) : mx_up f p k x q j = f q j := up_ne (fun e => h e.2)
/-- the first place below N at which c holds, or N -/
def pm_fd : Nat → (Nat → Bool) → Nat
  | 0, _ => 0
  | n + 1, c => if pm_fd n c < n then pm_fd n c else if c n then n else n + 1
theorem pm_fd_le : ∀ (n : Nat) (c : Nat → Bool), pm_fd n c ≤ n
  | 0, _ => Nat.le_refl _
  | n + 1, c => by
    have h := pm_fd_le n c
    unfold pm_fd
    split
    · omega
    · split <;> omega
theorem pm_fd_spec : ∀ (n : Nat) (c : Nat → Bool), (∀ j, j < pm_fd n c → c j = false) ∧ (pm_fd n c < n → c (pm_fd n c) = true)
  | 0, _ => ⟨fun j h => absurd h (Nat.not_lt_zero _), fun h => absurd h (Nat.not_lt_zero _)⟩
  | n + 1, c => by
    obtain ⟨h1, h2⟩ := pm_fd_spec n c
    have hle := pm_fd_le n c
    unfold pm_fd
    split
    next h => exact ⟨h1, fun _ => h2 h⟩
    next h =>
      have e : pm_fd n c = n := by omega
      rw [e] at h1
      split
      next hc => exact ⟨h1, fun _ => hc⟩
      next hc =>
        refine ⟨fun j hj => ?_, fun h => absurd h (Nat.lt_irrefl _)⟩
        by_cases hjn : j = n
        · subst hjn
          simpa using hc
        · exact h1 j (by omega)
theorem pm_fd_eq {n i : Nat} {c : Nat → Bool} (hi : i < n) (hc : c i = true) (hn : ∀ j, j < i → c j = false) : pm_fd n c = i := by
  obtain ⟨h1, h2⟩ := pm_fd_spec n c
  rcases Nat.lt_trichotomy (pm_fd n c) i with h | h | h
  · have := hn _ h
    rw [h2 (by omega)] at this
    cases this
  · exact h
  · have := h1 i h
    rw [hc] at this
    cases this
theorem pm_fd_none {n : Nat} {c : Nat → Bool} (hn : ∀ j, j < n → c j = false) : pm_fd n c = n := by
  have hle := pm_fd_le n c
  obtain ⟨h1, h2⟩ := pm_fd_spec n c
  by_cases h : pm_fd n c < n
  · have := h2 h
    rw [hn _ h] at this
    cases this
  · omega
/-- Math.min -/
def pm_n (x y : Int32) : Int32 := if x ≤ y then x else y
def pm_x (x y : Int32) : Int32 := if y ≤ x then x else y
theorem pm_n_nI {x y : Nat} (hx : x < 2 ^ 31) (hy : y < 2 ^ 31) : pm_n (nI x) (nI y) = nI (min x y) := by
  unfold pm_n
  by_cases h : x ≤ y
  · rw [if_pos ((nI_leI hx hy).mpr h), Nat.min_eq_left h]
  · rw [if_neg (fun q => h ((nI_leI hx hy).mp q)), Nat.min_eq_right (by omega)]
/-- the lengths at the start, a round of shortening, all of them -/
def pm_s (c : mx_Mm) : mx_Mm := fun a b => if a = b then 0 else if c a b = 0 then 1000 else c a b
def pm_v (v : Nat) (A : mx_Mm) : mx_Mm := mx_lp 6 (fun a => mx_lp 6 (fun b A => mx_up A a b (pm_n (A a b) (A a v + A v b)))) A
def pm_F (c : mx_Mm) : mx_Mm := mx_lp 6 pm_v (pm_s c)
def pm_ok (A : mx_Mm) : Prop := (∀ a, a < 6 → A a a = 0) ∧ (∀ a b, a < 6 → b < 6 → ∃ k, k ≤ 1000 ∧ A a b = nI k) ∧ ∀ a b, a < 6 → b < 6 → A a b = A b a
theorem pm_n_self (x : Int32) : pm_n x x = x := by unfold pm_n; split <;> rfl
theorem pm_v_eq {A : mx_Mm} (hA : pm_ok A) {v : Nat} (hv : v < 6) : ∀ a b, a < 6 → b < 6 → pm_v v A a b = pm_n (A a b) (A a v + A v b) := by
  have e : pm_v v A = mx_lp 36 (fun p B => mx_up B (p / 6) (p % 6) (pm_n (B (p / 6) (p % 6)) (B (p / 6) v + B v (p % 6)))) A :=
    (lp_mul (fun a b (B : mx_Mm) => mx_up B a b (pm_n (B a b) (B a v + B v b))) 6 (by decide) 6 A).symm
  rw [e]
  have hv0 : A v v = 0 := hA.1 v hv
  have key := mx_lp_inv (m := A) (f := fun p (B : mx_Mm) => mx_up B (p / 6) (p % 6) (pm_n (B (p / 6) (p % 6)) (B (p / 6) v + B v (p % 6))))
    (I := fun p B => ∀ a b, a < 6 → b < 6 → B a b = if 6 * a + b < p then pm_n (A a b) (A a v + A v b) else A a b) 36 (fun a b _ _ => by rw [if_neg (by omega)]) (fun p B hp hB => ?_) 36 (Nat.le_refl _)
  · intro a b ha hb
    rw [key a b ha hb, if_pos (by omega)]
  · intro a b ha hb
    have hp1 : p / 6 < 6 := by omega
    have hp2 : p % 6 < 6 := by omega
    have r1 : B (p / 6) (p % 6) = A (p / 6) (p % 6) := by rw [hB _ _ hp1 hp2, if_neg (by omega)]
    have r2 : B (p / 6) v = A (p / 6) v := by
      rw [hB _ _ hp1 hv]
      split
      · rw [hv0, Int32.add_zero, pm_n_self]
      · rfl
    have r3 : B v (p % 6) = A v (p % 6) := by
      rw [hB _ _ hv hp2]
      split
      · rw [hv0, Int32.zero_add, pm_n_self]
      · rfl
    show mx_up B (p / 6) (p % 6) _ a b = _
    rw [r1, r2, r3]
    by_cases he : a = p / 6 ∧ b = p % 6
    · obtain ⟨rfl, rfl⟩ := he
      rw [up_same, if_pos (by omega)]
    · rw [up_ne he, hB a b ha hb]
      have : (6 * a + b < p) ↔ (6 * a + b < p + 1) := by
        constructor
        · intro h; omega
        · intro h
          rcases Nat.lt_or_eq_of_le (Nat.lt_succ_iff.mp h) with h1 | h1
          · exact h1
          · exact absurd ⟨by omega, by omega⟩ he
      by_cases h : 6 * a + b < p
      · rw [if_pos h, if_pos (this.mp h)]
      · rw [if_neg h, if_neg (fun q => h (this.mpr q))]
theorem pm_v_ok {A : mx_Mm} (hA : pm_ok A) {v : Nat} (hv : v < 6) : pm_ok (pm_v v A) := by
  have hE := pm_v_eq hA hv
  refine ⟨fun a ha => ?_, fun a b ha hb => ?_, fun a b ha hb => ?_⟩
  · obtain ⟨y, hy, ey⟩ := hA.2.1 a v ha hv
    obtain ⟨z, hz, ez⟩ := hA.2.1 v a hv ha
    rw [hE a a ha ha, hA.1 a ha, ey, ez, nI_add, ← nI_0, pm_n_nI (by decide) (by omega), Nat.zero_min]
  · obtain ⟨x, hx, ex⟩ := hA.2.1 a b ha hb
    obtain ⟨y, hy, ey⟩ := hA.2.1 a v ha hv
    obtain ⟨z, hz, ez⟩ := hA.2.1 v b hv hb
    exact ⟨min x (y + z), by omega, by rw [hE a b ha hb, ex, ey, ez, nI_add, pm_n_nI (by omega) (by omega)]⟩
  · rw [hE a b ha hb, hE b a hb ha, hA.2.2 a b ha hb, hA.2.2 a v ha hv, hA.2.2 v b hv hb, Int32.add_comm]
def pm_c (c : mx_Mm) : Prop := (∀ a b, a < 6 → b < 6 → ∃ k, k ≤ 9 ∧ c a b = nI k) ∧ ∀ a b, a < 6 → b < 6 → c a b = c b a
theorem pm_s_ok {c : mx_Mm} (h : pm_c c) : pm_ok (pm_s c) := by
  refine ⟨fun a _ => by simp [pm_s], fun a b ha hb => ?_, fun a b ha hb => ?_⟩
  · unfold pm_s
    split
    · exact ⟨0, by decide, rfl⟩
    · split
      · exact ⟨1000, by decide, rfl⟩
      · obtain ⟨k, hk, e⟩ := h.1 a b ha hb
        exact ⟨k, by omega, e⟩
  · unfold pm_s
    rw [h.2 a b ha hb]
    by_cases e : a = b
    · subst e; rfl
    · have e' : ¬ b = a := fun q => e q.symm
      simp only [e, e', if_false]
theorem pm_F_ok {c : mx_Mm} (h : pm_c c) : pm_ok (pm_F c) := lp_keep pm_ok 6 (pm_s_ok h) (fun _ _ hi hA => pm_v_ok hA hi)
/-- the next router towards t -/
def pm_t (c A : mx_Mm) (a t n : Nat) : Bool := decide (c a n ≠ 0 ∧ c a n + A n t = A a t)
def pm_N (c A : mx_Mm) (a t : Nat) : Int32 := if a = t ∨ ¬ A a t < 1000 then -1 else if pm_fd 6 (pm_t c A a t) < 6 then nI (pm_fd 6 (pm_t c A a t)) else -1
theorem pm_N_cases (c A : mx_Mm) (a t : Nat) : pm_N c A a t = -1 ∨ ∃ n, n < 6 ∧ pm_N c A a t = nI n := by
  unfold pm_N
  split
  · exact Or.inl rfl
  · split
    next h => exact Or.inr ⟨_, h, rfl⟩
    next => exact Or.inl rfl
theorem pm_nI_m1 {n : Nat} (h : n < 2 ^ 31) : nI n ≠ -1 := by
  intro e
  have h1 := nI_toInt h
  rw [e] at h1
  have h2 : (-1 : Int32).toInt = -1 := by decide
  omega
theorem pm_N_spec {c A : mx_Mm} {a t n : Nat} (hn : n < 6) (h : pm_N c A a t = nI n) : a ≠ t ∧ A a t < 1000 ∧ c a n ≠ 0 ∧ c a n + A n t = A a t := by
  unfold pm_N at h
  split at h
  · exact absurd h.symm (pm_nI_m1 (by omega))
  next h1 =>
    split at h
    next h2 =>
      have e : pm_fd 6 (pm_t c A a t) = n := (nI_eq (by omega) (by omega)).mp h
      have h3 := (pm_fd_spec 6 (pm_t c A a t)).2 h2
      rw [e] at h3
      have h4 : c a n ≠ 0 ∧ c a n + A n t = A a t := by simpa [pm_t] using h3
      have h5 : ¬ a = t := fun q => h1 (Or.inl q)
      have h6 : A a t < 1000 := Decidable.byContradiction fun q => h1 (Or.inr q)
      exact ⟨h5, h6, h4.1, h4.2⟩
    next => exact absurd h.symm (pm_nI_m1 (by omega))
/-- nearer: the rank of a router towards t falls along the way -/
def pm_r (A : mx_Mm) (t n : Nat) : Nat := ((List.range 6).filter (fun m => decide (A n t < A m t))).length
theorem pm_near {c A : mx_Mm} (hc : pm_c c) (hA : pm_ok A) {a t n : Nat} (ha : a < 6) (ht : t < 6) (hn : n < 6) (h : pm_N c A a t = nI n) : A n t < A a t := by
  obtain ⟨-, -, h1, h2⟩ := pm_N_spec hn h
  obtain ⟨k, hk, ek⟩ := hc.1 a n ha hn
  obtain ⟨x, hx, ex⟩ := hA.2.1 n t hn ht
  obtain ⟨y, hy, ey⟩ := hA.2.1 a t ha ht
  rw [ek, ex, ey, nI_add] at h2
  have h3 : k + x = y := (nI_eq (by omega) (by omega)).mp h2
  have h4 : k ≠ 0 := fun q => h1 (by rw [ek, q]; rfl)
  rw [ex, ey]
  exact nI_lt (by omega) (by omega)
theorem pm_flen {α : Type} (p q : α → Bool) : ∀ (l : List α), (∀ x, x ∈ l → p x = true → q x = true) → (l.filter p).length ≤ (l.filter q).length
  | [], _ => Nat.le_refl _
  | a :: l, h => by
    have ih := pm_flen p q l (fun x hx => h x (List.mem_cons_of_mem _ hx))
    have ha := h a List.mem_cons_self
    rw [List.filter_cons, List.filter_cons]
    cases hp : p a with
    | true => rw [ha hp]; simpa using ih
    | false =>
      cases hq : q a with
      | true => simp; omega
      | false => simpa using ih
theorem pm_flen_lt {α : Type} (p q : α → Bool) : ∀ (l : List α), (∀ x, x ∈ l → p x = true → q x = true) → (∃ x, x ∈ l ∧ p x = false ∧ q x = true) → (l.filter p).length < (l.filter q).length
  | [], _, h => by obtain ⟨x, hx, -⟩ := h; cases hx
  | a :: l, h, hx => by
    have h' := fun x hx => h x (List.mem_cons_of_mem a hx)
    have hle := pm_flen p q l h'
    have ha := h a List.mem_cons_self
    rw [List.filter_cons, List.filter_cons]
    obtain ⟨x, hm, hpx, hqx⟩ := hx
    cases hp : p a with
    | true =>
      rw [ha hp]
      have hxl : x ∈ l := by
        rcases List.mem_cons.mp hm with e | e
        · rw [e, hp] at hpx; cases hpx
        · exact e
      have ih := pm_flen_lt p q l h' ⟨x, hxl, hpx, hqx⟩
      simpa using ih
    | false =>
      cases hq : q a with
      | true => simp; omega
      | false =>
        have hxl : x ∈ l := by
          rcases List.mem_cons.mp hm with e | e
          · rw [e, hq] at hqx; cases hqx
          · exact e
        have ih := pm_flen_lt p q l h' ⟨x, hxl, hpx, hqx⟩
        simpa using ih
theorem pm_rank {A : mx_Mm} {t a n : Nat} (ha : a < 6) (h : A n t < A a t) : pm_r A t a < pm_r A t n := by
  unfold pm_r
  refine pm_flen_lt _ _ _ (fun x _ hx => ?_) ⟨a, List.mem_range.mpr ha, ?_, ?_⟩
  · have h1 : A a t < A x t := by simpa using hx
    have h2 : A n t < A x t := Int32.lt_trans h h1
    simpa using h2
  · have : ¬ A a t < A a t := Int32.lt_irrefl
    simpa using this
  · simpa using h
theorem pm_rank6 (A : mx_Mm) {t n : Nat} (hn : n < 6) : pm_r A t n < 6 := by
  unfold pm_r
  have h1 : ((List.range 6).filter (fun m => decide (A n t < A m t))).length < ((List.range 6).filter (fun _ => true)).length := by
    refine pm_flen_lt _ _ _ (fun _ _ _ => rfl) ⟨n, List.mem_range.mpr hn, ?_, rfl⟩
    have : ¬ A n t < A n t := Int32.lt_irrefl
    simpa using this
  have h2 : ((List.range 6).filter (fun _ => true)).length = 6 := rfl
  omega
