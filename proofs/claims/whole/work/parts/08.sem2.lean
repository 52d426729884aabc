/-! bits, LANs, streams -/
abbrev hold (s : Int32) (n : Nat) : Prop := ¬ (s >>> (nI n &&& 31)) &&& nI 1 = 0
abbrev bit (n : Nat) : Int32 := nI 1 <<< (nI n &&& 31)
/-- a loop over any state -/
theorem mx_loopG {α : Type} {N : Nat} {Hd : Nat → α → Prop} (f : Nat → α → α) (I : Nat → α → Prop) {m : α} (h0 : I 0 m) (hI : ∀ i m, i < N → I i m → I (i + 1) (f i m)) (hs : ∀ i m, i < N → I i m → Hd (i + 1) (f i m) → Hd i m) (hx : I N (mx_lp N f m) → Hd N (mx_lp N f m)) : Hd 0 m := by
  have hA := mx_lp_inv (f := f) (m := m) N h0 hI
  have key : ∀ j, j ≤ N → Hd (N - j) (mx_lp (N - j) f m) := by
    intro j
    induction j with
    | zero => intro _; exact hx (hA N (Nat.le_refl _))
    | succ j ih =>
      intro hj
      have h1 := ih (by omega)
      have e : N - j = (N - (j + 1)) + 1 := by omega
      rw [e] at h1
      exact hs _ _ (by omega) (hA _ (by omega)) h1
  have := key N (Nat.le_refl _)
  rw [Nat.sub_self] at this
  exact this
theorem mx_eqG {Γ : mx_X} {κ : mx_K} {M : mx_M} {Q : State → Prop} {pc : Nat} {L L1 : List (Nat × Value)} {S S1 : List Value} {σ τ : mx_S} {cells slots : Nat} (hL : L = L1) (hS : S = S1) (hσ : σ = τ) (k : mx_G Γ κ M Q pc L1 S1 τ cells slots) : mx_G Γ κ M Q pc L S σ cells slots := by
  subst hL; subst hS; subst hσ; exact k
def La_report (l h g : Nat) (m : mx_Mm) : mx_Mm := mx_up (mx_up m (43 + l) g (m 2 0 + nI 12)) (50 + l) g (nI h)
def La_hs (l g : Nat) (m : mx_Mm) (h : Nat) : Bool := decide (hold (m (36 + l) g) h)
def La_rl (l g : Nat) (m : mx_Mm) : mx_Mm := if pm_fd 4 (La_hs l g m) < 4 then La_report l (pm_fd 4 (La_hs l g m)) g m else m
def La_all (m : mx_Mm) : mx_Mm := mx_lp 6 (fun l => mx_lp 3 (La_rl l)) m
def La_admit (l h g : Nat) (m : mx_Mm) : mx_Mm := La_report l h g (mx_up m (36 + l) g (m (36 + l) g ||| bit h))
def La_d1 (l h g : Nat) (m : mx_Mm) : mx_Mm := mx_up m (36 + l) g (m (36 + l) g &&& (bit h ^^^ (-1)))
def La_d2 (l g : Nat) (m : mx_Mm) : mx_Mm := mx_up (mx_up m (50 + l) g (-1)) (43 + l) g (pm_n ((mx_up m (50 + l) g (-1)) (43 + l) g) ((mx_up m (50 + l) g (-1)) 2 0 + nI 2))
def La_d3 (l h g : Nat) (x : Int32) (m : mx_Mm) : mx_Mm := if x = 0 ∨ ¬ m (50 + l) g = nI h then m else if ¬ m (36 + l) g = 0 then La_rl l g m else La_d2 l g m
def La_dismiss (l h g : Nat) (x : Int32) (m : mx_Mm) : mx_Mm := La_d3 l h g x (La_d1 l h g m)
def La_hear (l : Nat) (m : mx_Mm) : mx_Mm := if m 56 l = 0 then m else mx_up m 56 l (m 56 l - nI 1)
def Sm_renew (s n : Nat) (m : mx_Mm) : mx_Mm := mx_up m (59 + s) n (m 2 0 + nI 8)
def Sm_over (s n : Nat) (m : mx_Mm) : mx_Mm := mx_up (Sm_renew s n m) 77 s ((Sm_renew s n m) 77 s ||| bit n)
def Sm_es1 (s n : Nat) (m : mx_Mm) : mx_Mm := if m 2 0 < m (59 + s) n then m else mx_up m 77 s (m 77 s &&& (bit n ^^^ (-1)))
def Sm_es (m : mx_Mm) : mx_Mm := mx_lp 18 (fun s => mx_lp 6 (Sm_es1 s)) m
def Sm_al (s : Nat) (m : mx_Mm) (n : Nat) : Bool := decide (m 2 0 < m (59 + s) n)
abbrev Sm_some (s : Nat) (m : mx_Mm) : Prop := pm_fd 6 (Sm_al s m) < 6
def Sm_c1 (m : mx_Mm) (i c : Nat) : Nat := if Sm_some i m then c + 1 else c
def Sm_cnt (m : mx_Mm) : Nat := mx_lp 18 (Sm_c1 m) 0
theorem Sm_c1_le (m : mx_Mm) (i c : Nat) : Sm_c1 m i c ≤ c + 1 := by unfold Sm_c1; split <;> omega
theorem pr {nx : Nat} {u : Nat → Nat → Bool} {a b : mx_Mm} (h : a = b) : ((nx, u, a) : mx_S) = (nx, u, b) := by rw [h]
theorem it_t {α : Type} {c : Prop} [Decidable c] {a b m : α} (h : c) (e : m = a) : m = if c then a else b := by rw [if_pos h]; exact e
theorem it_f {α : Type} {c : Prop} [Decidable c] {a b m : α} (h : ¬ c) (e : m = b) : m = if c then a else b := by rw [if_neg h]; exact e
theorem sv {a b : Int32} (h : a = b) : some (Value.int a) = some (Value.int b) := by rw [h]
