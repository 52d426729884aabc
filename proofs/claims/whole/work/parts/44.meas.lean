/-! the class's measuring, as matrices -/
def mc (m : mx_Mm) : mx_Mm := fun a b => m (7 + a) b
def Rl (m A : mx_Mm) : Prop := ∀ a b, a < 6 → b < 6 → m (14 + a) b = A a b
theorem Rl_up {m A : mx_Mm} (h : Rl m A) {a b : Nat} {x y : Int32} (e : x = y) : Rl (mx_up m (14 + a) b x) (mx_up A a b y) := fun a' b' ha hb => by
  by_cases c : a' = a ∧ b' = b
  · rw [c.1, c.2, up_same, up_same]; exact e
  · rw [up_ne (fun z => c ⟨by omega, z.2⟩), up_ne c]; exact h a' b' ha hb
theorem Ne_sl_spec {a : Nat} (ha : a < 6) (m : mx_Mm) : (∀ p j, p ≠ 14 + a → (Ne_sl a m) p j = m p j) ∧ ∀ b, b < 6 → (Ne_sl a m) (14 + a) b = pm_s (mc m) a b := by
  have h := lp_inv (f := Ne_sl1 a) (fun i x => (∀ p j, p ≠ 14 + a → x p j = m p j) ∧ ∀ b, b < i → x (14 + a) b = if m (7 + a) b = 0 then nI 1000 else m (7 + a) b) 6 (m := m) ⟨fun _ _ _ => rfl, fun b hb => absurd hb (Nat.not_lt_zero _)⟩ (fun i x hi hI => by
    refine ⟨fun p j hp => ?_, fun b hb => ?_⟩
    · show (mx_up x (14 + a) i _) p j = _
      rw [up_neP hp]; exact hI.1 p j hp
    · show (mx_up x (14 + a) i (if x (7 + a) i = 0 then nI 1000 else x (7 + a) i)) (14 + a) b = _
      by_cases e : b = i
      · subst e; rw [up_same, hI.1 _ _ (by omega)]
      · rw [up_neK e]; exact hI.2 b (by omega))
  unfold Ne_sl
  generalize mx_lp 6 (Ne_sl1 a) m = x at h ⊢
  refine ⟨fun p j hp => by rw [up_neP hp]; exact h.1 p j hp, fun b hb => ?_⟩
  unfold pm_s
  by_cases e : a = b
  · subst e; rw [up_same, if_pos rfl]; rfl
  · rw [up_neK (fun z => e z.symm), if_neg e]; exact h.2 b hb
theorem Ne_start_spec (m : mx_Mm) : (∀ p j, p < 14 ∨ 20 ≤ p → (Ne_start m) p j = m p j) ∧ Rl (Ne_start m) (pm_s (mc m)) := by
  have h := lp_inv (f := Ne_sl) (fun i x => (∀ p j, p < 14 ∨ 20 ≤ p → x p j = m p j) ∧ ∀ a b, a < i → b < 6 → x (14 + a) b = pm_s (mc m) a b) 6 (m := m) ⟨fun _ _ _ => rfl, fun a b ha => absurd ha (Nat.not_lt_zero _)⟩ (fun i x hi hI => by
    obtain ⟨s1, s2⟩ := Ne_sl_spec hi x
    refine ⟨fun p j hp => ?_, fun a b ha hb => ?_⟩
    · rw [s1 p j (by omega)]; exact hI.1 p j hp
    · by_cases e : a = i
      · subst e
        rw [s2 b hb]
        have em : x (7 + a) b = m (7 + a) b := hI.1 _ _ (by omega)
        show (if a = b then (0 : Int32) else if x (7 + a) b = 0 then 1000 else x (7 + a) b) = if a = b then 0 else if m (7 + a) b = 0 then 1000 else m (7 + a) b
        rw [em]
      · rw [s1 _ _ (by omega)]; exact hI.2 a b (by omega) hb)
  exact h
theorem Ne_sh_rel {v : Nat} (hv : v < 6) {m A : mx_Mm} (h : Rl m A) : Rl (Ne_sh v m) (pm_v v A) := by
  refine lp_rel Rl 6 h (fun a m A ha h => lp_rel Rl 6 h (fun b m A hb h => ?_))
  refine Rl_up h ?_
  rw [h a b ha hb, h a v ha hv, h v b hv hb]
theorem Ne_sh_at {v : Nat} (m : mx_Mm) (p j : Nat) (hp : p < 14 ∨ 20 ≤ p) : (Ne_sh v m) p j = m p j := by
  refine lp_keep (fun a : mx_Mm => a p j = m p j) 6 rfl (fun a x ha h => lp_keep (fun a : mx_Mm => a p j = m p j) 6 h (fun b x hb h => ?_))
  show (mx_up x (14 + a) b _) p j = _
  rw [up_neP (by omega)]; exact h
theorem Ne_len_spec (m : mx_Mm) : (∀ p j, p < 14 ∨ 20 ≤ p → (mx_lp 6 Ne_sh (Ne_start m)) p j = m p j) ∧ Rl (mx_lp 6 Ne_sh (Ne_start m)) (pm_F (mc m)) := by
  obtain ⟨s1, s2⟩ := Ne_start_spec m
  exact ⟨fun p j hp => lp_keep (fun a : mx_Mm => a p j = m p j) 6 (s1 p j hp) (fun v x _ h => (Ne_sh_at x p j hp).trans h), lp_rel Rl 6 s2 (fun v x A hv h => Ne_sh_rel hv h)⟩
