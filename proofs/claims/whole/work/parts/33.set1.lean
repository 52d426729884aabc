/-! settling: the reference's due values depend on little -/
theorem lp_or {N : Nat} {P : Nat → Prop} [∀ k, Decidable (P k)] : ∀ {a : Int32}, (¬ mx_lp N (fun k a => if ¬ a = 0 ∨ P k then nI 1 else nI 0) a = 0) ↔ (¬ a = 0 ∨ ∃ k, k < N ∧ P k) := by
  induction N with
  | zero =>
    intro a
    constructor
    · intro h; exact Or.inl h
    · intro h
      rcases h with h | ⟨k, hk, -⟩
      · exact h
      · omega
  | succ N ih =>
    intro a
    show (¬ (if ¬ mx_lp N _ a = 0 ∨ P N then nI 1 else nI 0) = 0) ↔ _
    split
    next h =>
      refine ⟨fun _ => ?_, fun _ => by decide⟩
      rcases h with h | h
      · rcases ih.mp h with h1 | ⟨k, hk, hp⟩
        · exact Or.inl h1
        · exact Or.inr ⟨k, by omega, hp⟩
      · exact Or.inr ⟨N, by omega, h⟩
    next h =>
      refine ⟨fun q => absurd rfl q, fun q => absurd ?_ h⟩
      rcases q with q | ⟨k, hk, hp⟩
      · exact Or.inl (ih.mpr (Or.inl q))
      · by_cases e : k = N
        · exact Or.inr (e ▸ hp)
        · exact Or.inl (ih.mpr (Or.inr ⟨k, by omega, hp⟩))
theorem bz_ne {P : Prop} [Decidable P] : (¬ bz P = 0) ↔ P := by
  unfold bz
  split
  next h => exact ⟨fun _ => h, fun _ => by decide⟩
  next h => exact ⟨fun q => absurd rfl q, fun q => absurd q h⟩
theorem Mo_as_ne {n g : Nat} {m : mx_Mm} : (¬ Mo_as n g m = 0) ↔ (Mo_on n g m ∨ ∃ k, k < 6 ∧ m 192 (3 * k + g) = nI n) := by
  have h := lp_or (N := 6) (P := fun k => m 192 (3 * k + g) = nI n) (a := bz (Mo_on n g m))
  rw [bz_ne] at h
  exact h
theorem Mo_ap_ne {n st : Nat} {m : mx_Mm} : (¬ Mo_ap n st m = 0) ↔ ∃ k, k < 6 ∧ m 196 (18 * k + st) = nI n := by
  have h := lp_or (N := 6) (P := fun k => m 196 (18 * k + st) = nI n) (a := nI 0)
  exact h.trans ⟨fun q => q.elim (fun z => absurd rfl z) id, Or.inr⟩
theorem ru_ne {st : Nat} {m : mx_Mm} : (¬ Mo_ru st m = 0) ↔ ∃ k, k < 6 ∧ m 185 1 < m 198 (18 * k + st) := by
  have h := lp_or (N := 6) (P := fun k => m 185 1 < m 198 (18 * k + st)) (a := nI 0)
  exact h.trans ⟨fun q => q.elim (fun z => absurd rfl z) id, Or.inr⟩
/-- two memories that differ in joins and cuts alone -/
def Se_same (m X : mx_Mm) : Prop := ∀ p j, p ≠ 192 → p ≠ 194 → p ≠ 196 → m p j = X p j
theorem ite_iff {c d : Prop} [Decidable c] [Decidable d] {a b a' b' : Int32} (h : c ↔ d) (ha : a = a') (hb : b = b') : (if c then a else b) = if d then a' else b' := by
  by_cases hc : c
  · rw [if_pos hc, if_pos (h.mp hc), ha]
  · rw [if_neg hc, if_neg (fun q => hc (h.mpr q)), hb]
theorem Mo_on_eq {l g : Nat} {m X : mx_Mm} (hs : Se_same m X) : Mo_on l g m ↔ Mo_on l g X := by
  unfold Mo_on
  rw [hs 185 1 (by decide) (by decide) (by decide), hs 190 _ (by decide) (by decide) (by decide)]
theorem Mo_sd_eq {r n g : Nat} {m X : mx_Mm} (hs : Se_same m X) (h : ∀ k, k < 6 → (m 192 (3 * k + g) = nI n ↔ X 192 (3 * k + g) = nI n)) : Mo_sd r n g m = Mo_sd r n g X := by
  have e : Mo_as n g m = 0 ↔ Mo_as n g X = 0 := by
    refine Decidable.not_iff_not.mp ?_
    rw [Mo_as_ne, Mo_as_ne, Mo_on_eq hs]
    refine or_congr Iff.rfl ⟨fun ⟨k, hk, e⟩ => ⟨k, hk, (h k hk).mp e⟩, fun ⟨k, hk, e⟩ => ⟨k, hk, (h k hk).mpr e⟩⟩
  unfold Mo_sd
  exact ite_iff e rfl (hs 188 _ (by decide) (by decide) (by decide))
theorem Mo_c0_eq {n st : Nat} {m X : mx_Mm} (hs : Se_same m X) : Mo_c0 n st m = Mo_c0 n st X := by
  unfold Mo_c0
  by_cases h : Mo_on n (st % 3) m
  · rw [if_pos h, if_pos ((Mo_on_eq hs).mp h)]
  · rw [if_neg h, if_neg (fun q => h ((Mo_on_eq hs).mpr q))]
theorem Mo_m0_eq {n st : Nat} {m X : mx_Mm} (hs : Se_same m X) (h : ∀ k, k < 6 → (Mo_in n k st m ↔ Mo_in n k st X)) : Mo_m0 n st m = Mo_m0 n st X := by
  unfold Mo_m0
  rw [Mo_c0_eq hs]
  refine lp_congr 6 _ (fun k c hk => ?_)
  unfold Mo_n0
  by_cases e : Mo_in n k st m
  · rw [if_pos e, if_pos ((h k hk).mp e)]
  · rw [if_neg e, if_neg (fun q => e ((h k hk).mpr q))]
theorem Mo_m1_eq {n st : Nat} {m X : mx_Mm} (hs : Se_same m X) (h : ∀ k, k < 6 → (Mo_out n k st m ↔ Mo_out n k st X)) : Mo_m1 n st m = Mo_m1 n st X := by
  unfold Mo_m1
  rw [Mo_c0_eq hs]
  refine lp_congr 6 _ (fun k c hk => ?_)
  unfold Mo_n1
  by_cases e : Mo_out n k st m
  · rw [if_pos e, if_pos ((h k hk).mp e)]
  · rw [if_neg e, if_neg (fun q => e ((h k hk).mpr q))]
theorem Mo_cd_eq {r n st : Nat} {m X : mx_Mm} (hs : Se_same m X) (h0 : m 192 (3 * n + st % 3) = X 192 (3 * n + st % 3)) (h : ∀ k, k < 6 → (Mo_in n k st m ↔ Mo_in n k st X)) : Mo_cd r n st m = Mo_cd r n st X := by
  have hv : ∀ j, m 188 j = X 188 j := fun j => hs 188 j (by decide) (by decide) (by decide)
  unfold Mo_cd Mo_oth
  rw [h0, hv, hv, hs 199 _ (by decide) (by decide) (by decide), Mo_m0_eq hs h]
theorem Mo_pd_eq {n st : Nat} {m X : mx_Mm} (hs : Se_same m X) (h : ∀ k, k < 6 → (Mo_out n k st m ↔ Mo_out n k st X)) (h1 : ∀ k, k < 6 → (m 196 (18 * k + st) = nI n ↔ X 196 (18 * k + st) = nI n)) : Mo_pd n st m = Mo_pd n st X := by
  have hv : ∀ j, m 188 j = X 188 j := fun j => hs 188 j (by decide) (by decide) (by decide)
  have e : (¬ Mo_ap n st m = 0) ↔ (¬ Mo_ap n st X = 0) := by
    rw [Mo_ap_ne, Mo_ap_ne]
    exact ⟨fun ⟨k, hk, e⟩ => ⟨k, hk, (h1 k hk).mp e⟩, fun ⟨k, hk, e⟩ => ⟨k, hk, (h1 k hk).mpr e⟩⟩
  unfold Mo_pd
  refine ite_iff ?_ (hv _) rfl
  unfold Mo_pc
  rw [e, hs 185 1 (by decide) (by decide) (by decide), hs 198 _ (by decide) (by decide) (by decide), Mo_m1_eq hs h]
