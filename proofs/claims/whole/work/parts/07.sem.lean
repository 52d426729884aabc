/-! what the methods of the class do to the memory -/
def bz (P : Prop) [Decidable P] : Int32 := if P then 1 else 0
theorem bz_t {P : Prop} [Decidable P] (h : P) : some (Value.int (nI 1)) = some (Value.int (bz P)) := by unfold bz; rw [if_pos h]; rfl
theorem bz_f {P : Prop} [Decidable P] (h : ¬ P) : some (Value.int (nI 0)) = some (Value.int (bz P)) := by unfold bz; rw [if_neg h]; rfl
theorem bz_0 {P : Prop} [Decidable P] (h : bz P = 0) : ¬ P := fun q => by unfold bz at h; rw [if_pos q] at h; exact absurd h (by decide)
theorem bz_1 {P : Prop} [Decidable P] (h : ¬ bz P = 0) : P := Decidable.byContradiction fun q => by unfold bz at h; rw [if_neg q] at h; exact h rfl
theorem bz_n {P : Prop} [Decidable P] : narrow .boolean (.int (bz P)) = .int (bz P) := by unfold bz; split <;> rfl
theorem bz_q {P Q : Prop} [Decidable P] [Decidable Q] (h : P ↔ Q) : bz P = bz Q := by
  unfold bz
  by_cases p : P
  · rw [if_pos p, if_pos (h.mp p)]
  · rw [if_neg p, if_neg (fun q => p (h.mpr q))]
/-- a counted loop that may end in its midst, and leaves the memory -/
theorem mx_loopR {N : Nat} {Hd : Nat → Prop} (c : Nat → Bool) (hs : ∀ i, i < N → (∀ j, j < i → c j = false) → (c i = false → Hd (i + 1)) → Hd i) (hx : (∀ j, j < N → c j = false) → Hd N) : Hd 0 := by
  have key : ∀ d i, i + d = N → (∀ j, j < i → c j = false) → Hd i := by
    intro d
    induction d with
    | zero => intro i hi hn; rw [Nat.add_zero] at hi; subst hi; exact hx hn
    | succ d ih =>
      intro i hi hn
      refine hs i (by omega) hn (fun hc => ih (i + 1) (by omega) (fun j hj => ?_))
      by_cases e : j = i
      · rw [e]; exact hc
      · exact hn j (by omega)
  exact key N 0 (by omega) (fun j hj => absurd hj (Nat.not_lt_zero _))
/-- the same for a method of the library -/
theorem mx_C.introF {Γ : mx_X} {l : Launch} {M : mx_M} {A : List Value} {σ : mx_S} {P : Option Value → mx_S → Prop} (hy : plainFor M.1 = true) (hAb : (A.all fun v => v.category == 1) = true) (hn : A.length ≤ M.2.2.1)
    (body : ∀ κ : mx_K, mx_l κ = l → mx_Ctx Γ κ M → mx_G Γ κ M (MQ (mx_b κ) (mx_Qc Γ P) (mx_a κ) (mx_s κ) M.2.2.2.2.cells M.2.2.2.2.slots (mx_fr Γ)) 0 (mx_ar 0 A) [] σ 0 0) : mx_C Γ l M A σ P := by
  have hA : ∀ v ∈ A, v.category = 1 := fun v hv => by
    have := List.all_eq_true.mp hAb v hv
    simpa using this
  refine va_MetF (cc := M.2.1) (maxL := M.2.2.1) (ret := M.2.2.2.1) hy rfl ?_
  intro p e s m args below meth c s1 B hml hv
  obtain ⟨rfl, hR, hK⟩ := hv
  have hts := atoms_spec (ws := .code M.1 M.2.1 M.2.2.1 M.2.2.2.1 :: mx_WS) B.pre
  obtain ⟨ha1, ha2⟩ := mx_args Γ.1 A 0 hA
  have hl := lv_entry (A.map (mx_v Γ.1)) (n := M.2.2.1) (by rw [ha2]; exact hn)
  rw [lg_entry_eq]
  rw [ha1] at hl
  exact body (p, l, e, M.2.2.2.2, s, m, (A.map (mx_v Γ.1)).toArray, below, meth, c) rfl ⟨B.exec, B.bytes, hml, findClass_of_methodNamed B.named, fun x hx => hts x (List.mem_cons_of_mem _ hx), hK, B.notSynchronized, rfl, B.returns, (name_of_methodNamed B.named B.method).1⟩ s.heap [] _ hR (fun q hq => by cases hq) hl
theorem mx_nr {Γ : mx_X} {κ : mx_K} {M : mx_M} {Q : State → Prop} {pc : Nat} {L : List (Nat × Value)} {S : List Value} {cells slots : Nat} {nx : Nat} {u : Nat → Nat → Bool} {m1 : mx_Mm} (k : ∀ m, m1 = m → mx_G Γ κ M Q pc L S (nx, u, m) cells slots) : mx_G Γ κ M Q pc L S (nx, u, m1) cells slots := k m1 rfl
abbrev tn (v : Int32) : Nat := v.toNatClampNeg
def fill_m (p n : Nat) (v : Int32) (m : mx_Mm) : mx_Mm := mx_lp n (fun i m => mx_up m p i v) m
def Ne_sl1 (a b : Nat) (m : mx_Mm) : mx_Mm := mx_up m (14 + a) b (if m (7 + a) b = 0 then nI 1000 else m (7 + a) b)
def Ne_sl (a : Nat) (m : mx_Mm) : mx_Mm := mx_up (mx_lp 6 (Ne_sl1 a) m) (14 + a) a (nI 0)
def Ne_start (m : mx_Mm) : mx_Mm := mx_lp 6 Ne_sl m
def Ne_sh1 (v a b : Nat) (m : mx_Mm) : mx_Mm := mx_up m (14 + a) b (pm_n (m (14 + a) b) (m (14 + a) v + m (14 + v) b))
def Ne_sh (v : Nat) (m : mx_Mm) : mx_Mm := mx_lp 6 (fun a => mx_lp 6 (Ne_sh1 v a)) m
def Ne_nt (a t : Nat) (m : mx_Mm) (n : Nat) : Bool := decide (¬ m (7 + a) n = 0 ∧ m (7 + a) n + m (14 + n) t = m (14 + a) t)
def Ne_next (a t : Nat) (m : mx_Mm) : Int32 := if a = t ∨ ¬ m (14 + a) t < nI 1000 then -1 else if pm_fd 6 (Ne_nt a t m) < 6 then nI (pm_fd 6 (Ne_nt a t m)) else -1
def Ne_w (t n : Nat) : Nat → mx_Mm → Nat × mx_Mm
  | 0, m => (0, m)
  | p + 1, m => if m (14 + tn (m (28 + t) p)) t < m (14 + n) t then Ne_w t n p (mx_up m (28 + t) (p + 1) (m (28 + t) p)) else (p + 1, m)
def Ne_o1 (t n : Nat) (m : mx_Mm) : mx_Mm := mx_up (Ne_w t n n m).2 (28 + t) (Ne_w t n n m).1 (nI n)
def Ne_order (t : Nat) (m : mx_Mm) : mx_Mm := mx_lp 6 (Ne_o1 t) m
def Ne_m1 (t a : Nat) (m : mx_Mm) : mx_Mm := mx_up m (21 + a) t (Ne_next a t m)
def Ne_m2 (t : Nat) (m : mx_Mm) : mx_Mm := Ne_order t (mx_lp 6 (Ne_m1 t) m)
def Ne_measure (m : mx_Mm) : mx_Mm := mx_lp 6 Ne_m2 (mx_lp 6 Ne_sh (Ne_start m))
def Ne_set (a b : Nat) (c : Int32) (m : mx_Mm) : mx_Mm := Ne_measure (mx_up (mx_up m (7 + a) b c) (7 + b) a c)
/-- the orders hold routers -/
def Ne_ok (m : mx_Mm) : Prop := ∀ t k, t < 6 → k < 6 → ∃ j, j < 6 ∧ m (28 + t) k = nI j
theorem Ne_ok.tn {m : mx_Mm} (h : Ne_ok m) {t k : Nat} (ht : t < 6) (hk : k < 6) : m (28 + t) k = nI (tn (m (28 + t) k)) ∧ tn (m (28 + t) k) < 6 := by
  obtain ⟨j, hj, e⟩ := h t k ht hk
  have e2 : (m (28 + t) k).toNatClampNeg = j := by rw [e]; exact nI_clamp (by omega)
  refine ⟨?_, ?_⟩
  · show _ = nI (m (28 + t) k).toNatClampNeg
    rw [e2]
    exact e
  · show (m (28 + t) k).toNatClampNeg < 6
    omega
theorem Ne_ok.upP {m : mx_Mm} (h : Ne_ok m) {p k : Nat} {x : Int32} (hp : p < 28 ∨ 34 ≤ p) : Ne_ok (mx_up m p k x) := fun t j ht hj => by
  rw [up_neP (by omega)]
  exact h t j ht hj
theorem Ne_ok.upR {m : mx_Mm} (h : Ne_ok m) {p k : Nat} {x : Int32} (hx : ∃ j, j < 6 ∧ x = nI j) : Ne_ok (mx_up m p k x) := fun t j ht hj => by
  by_cases e : 28 + t = p ∧ j = k
  · rw [e.1, e.2, up_same]
    exact hx
  · rw [up_ne e]
    exact h t j ht hj
