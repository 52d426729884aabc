/-! counting -/
theorem lp_count {P : Nat → Prop} [∀ k, Decidable (P k)] : ∀ (N c : Nat), mx_lp N (fun k c => if P k then c + 1 else c) c = c + ((List.range N).filter (fun k => decide (P k))).length
  | 0, c => rfl
  | N + 1, c => by
    show (if P N then mx_lp N (fun k c => if P k then c + 1 else c) c + 1 else mx_lp N (fun k c => if P k then c + 1 else c) c) = _
    rw [lp_count N c, List.range_succ, List.filter_append, List.length_append]
    by_cases h : P N
    · rw [if_pos h]
      simp [h, Nat.add_assoc]
    · rw [if_neg h]
      simp [h]
theorem bs_bc {x : Int32} {P : Nat → Prop} [∀ k, Decidable (P k)] (h : bs x P) : bc x = nI ((List.range 7).filter (fun k => decide (P k))).length := by
  obtain ⟨k, hk, e, hp⟩ := h
  subst e
  rw [bc_nI k hk]
  congr 2
  refine List.filter_congr (fun n hn => ?_)
  have hn7 : n < 7 := List.mem_range.mp hn
  have := hp n hn7
  cases hb : k.testBit n with
  | true => simp [this.mp hb]
  | false =>
    have hnp : ¬ P n := fun q => by rw [this.mpr q] at hb; cases hb
    simp [hnp]
theorem cnt7 {P : Nat → Prop} [∀ k, Decidable (P k)] : ((List.range 7).filter (fun k => decide (P k))).length = ((List.range 6).filter (fun k => decide (P k))).length + if P 6 then 1 else 0 := by
  rw [List.range_succ, List.filter_append, List.length_append]
  by_cases h : P 6
  · rw [if_pos h]
    simp [h]
  · rw [if_neg h]
    simp [h]
/-- a list's length, as the reference counts it -/
theorem bs_m1 {x : Int32} {n st : Nat} {m : mx_Mm} (h : bs x (fun k => if k < 6 then Mo_out n k st m else Mo_on n (st % 3) m)) : bc x = nI (Mo_m1 n st m) := by
  rw [bs_bc h, cnt7]
  unfold Mo_m1 Mo_n1 Mo_c0
  rw [lp_count]
  congr 1
  rw [Nat.add_comm]
  congr 1
