set_option maxRecDepth 100000 in
set_option maxHeartbeats 400000 in
theorem c_MT_isRouter {Γ : mx_X} {lau : Launch} {nx : Nat} {u : Nat → Nat → Bool} {mi : mx_Mm} {x : Int32}   : mx_C Γ lau M_MT_isRouter [.int x] (nx, u, mi) (fun ρ τ => ρ = some (.int (bz (0 ≤ x ∧ x < nI 6))) ∧ τ = (nx, u, mi)) := by
  refine mx_C.intro (by decide) rfl (Nat.le_of_ble_eq_true rfl) (fun κ _ hC => ?_)
  show mx_G Γ κ _ _ 0 [(0, .int x)] [] (nx, u, mi) 0 0
  refine x_iload_n (q := 1) hC d_MT_isRouter_0 rfl rfl rfl ?_
  refine x_if_lt (tgt := 14) (q := 4) hC d_MT_isRouter_1 (by decide) rfl (fun h1 => ?_) (fun h1 => ?_)
  · skip
    refine x_iconst (q := 15) (v := nI 0) hC d_MT_isRouter_14 (by decide) rfl ?_
    exact x_iret hC rfl rfl ⟨bz_f (by first | exact fun q => Int32.not_le.mpr h1 q.1 | exact fun q => Int32.not_lt.mpr h7 q.2), rfl⟩ (by decide) (by decide) d_MT_isRouter_15
  · skip
    refine x_iload_n (q := 5) hC d_MT_isRouter_4 rfl rfl rfl ?_
    refine x_bipush (q := 7) (v := nI 6) hC d_MT_isRouter_5 (by decide) rfl ?_
    refine x_icmp_ge (tgt := 14) (q := 10) hC d_MT_isRouter_7 (by decide) rfl (fun h7 => ?_) (fun h7 => ?_)
    · skip
      refine x_iconst (q := 15) (v := nI 0) hC d_MT_isRouter_14 (by decide) rfl ?_
      exact x_iret hC rfl rfl ⟨bz_f (by first | exact fun q => Int32.not_le.mpr h1 q.1 | exact fun q => Int32.not_lt.mpr h7 q.2), rfl⟩ (by decide) (by decide) d_MT_isRouter_15
    · skip
      refine x_iconst (q := 11) (v := nI 1) hC d_MT_isRouter_10 (by decide) rfl ?_
      refine x_goto (tgt := 15) hC d_MT_isRouter_11 (by decide) ?_
      exact x_iret hC rfl rfl ⟨bz_t (⟨Int32.not_lt.mp h1, Int32.not_le.mp h7⟩), rfl⟩ (by decide) (by decide) d_MT_isRouter_15
set_option maxRecDepth 100000 in
set_option maxHeartbeats 400000 in
theorem c_MT_isHost {Γ : mx_X} {lau : Launch} {nx : Nat} {u : Nat → Nat → Bool} {mi : mx_Mm} {x : Int32}   : mx_C Γ lau M_MT_isHost [.int x] (nx, u, mi) (fun ρ τ => ρ = some (.int (bz (0 ≤ x ∧ x < nI 4))) ∧ τ = (nx, u, mi)) := by
  refine mx_C.intro (by decide) rfl (Nat.le_of_ble_eq_true rfl) (fun κ _ hC => ?_)
  show mx_G Γ κ _ _ 0 [(0, .int x)] [] (nx, u, mi) 0 0
  refine x_iload_n (q := 1) hC d_MT_isHost_0 rfl rfl rfl ?_
  refine x_if_lt (tgt := 13) (q := 4) hC d_MT_isHost_1 (by decide) rfl (fun h1 => ?_) (fun h1 => ?_)
  · skip
    refine x_iconst (q := 14) (v := nI 0) hC d_MT_isHost_13 (by decide) rfl ?_
    exact x_iret hC rfl rfl ⟨bz_f (by first | exact fun q => Int32.not_le.mpr h1 q.1 | exact fun q => Int32.not_lt.mpr h6 q.2), rfl⟩ (by decide) (by decide) d_MT_isHost_14
  · skip
    refine x_iload_n (q := 5) hC d_MT_isHost_4 rfl rfl rfl ?_
    refine x_iconst (q := 6) (v := nI 4) hC d_MT_isHost_5 (by decide) rfl ?_
    refine x_icmp_ge (tgt := 13) (q := 9) hC d_MT_isHost_6 (by decide) rfl (fun h6 => ?_) (fun h6 => ?_)
    · skip
      refine x_iconst (q := 14) (v := nI 0) hC d_MT_isHost_13 (by decide) rfl ?_
      exact x_iret hC rfl rfl ⟨bz_f (by first | exact fun q => Int32.not_le.mpr h1 q.1 | exact fun q => Int32.not_lt.mpr h6 q.2), rfl⟩ (by decide) (by decide) d_MT_isHost_14
    · skip
      refine x_iconst (q := 10) (v := nI 1) hC d_MT_isHost_9 (by decide) rfl ?_
      refine x_goto (tgt := 14) hC d_MT_isHost_10 (by decide) ?_
      exact x_iret hC rfl rfl ⟨bz_t (⟨Int32.not_lt.mp h1, Int32.not_le.mp h6⟩), rfl⟩ (by decide) (by decide) d_MT_isHost_14
set_option maxRecDepth 100000 in
set_option maxHeartbeats 400000 in
theorem c_MT_isGroup {Γ : mx_X} {lau : Launch} {nx : Nat} {u : Nat → Nat → Bool} {mi : mx_Mm} {x : Int32}   : mx_C Γ lau M_MT_isGroup [.int x] (nx, u, mi) (fun ρ τ => ρ = some (.int (bz (0 ≤ x ∧ x < nI 3))) ∧ τ = (nx, u, mi)) := by
  refine mx_C.intro (by decide) rfl (Nat.le_of_ble_eq_true rfl) (fun κ _ hC => ?_)
  show mx_G Γ κ _ _ 0 [(0, .int x)] [] (nx, u, mi) 0 0
  refine x_iload_n (q := 1) hC d_MT_isGroup_0 rfl rfl rfl ?_
  refine x_if_lt (tgt := 13) (q := 4) hC d_MT_isGroup_1 (by decide) rfl (fun h1 => ?_) (fun h1 => ?_)
  · skip
    refine x_iconst (q := 14) (v := nI 0) hC d_MT_isGroup_13 (by decide) rfl ?_
    exact x_iret hC rfl rfl ⟨bz_f (by first | exact fun q => Int32.not_le.mpr h1 q.1 | exact fun q => Int32.not_lt.mpr h6 q.2), rfl⟩ (by decide) (by decide) d_MT_isGroup_14
  · skip
    refine x_iload_n (q := 5) hC d_MT_isGroup_4 rfl rfl rfl ?_
    refine x_iconst (q := 6) (v := nI 3) hC d_MT_isGroup_5 (by decide) rfl ?_
    refine x_icmp_ge (tgt := 13) (q := 9) hC d_MT_isGroup_6 (by decide) rfl (fun h6 => ?_) (fun h6 => ?_)
    · skip
      refine x_iconst (q := 14) (v := nI 0) hC d_MT_isGroup_13 (by decide) rfl ?_
      exact x_iret hC rfl rfl ⟨bz_f (by first | exact fun q => Int32.not_le.mpr h1 q.1 | exact fun q => Int32.not_lt.mpr h6 q.2), rfl⟩ (by decide) (by decide) d_MT_isGroup_14
    · skip
      refine x_iconst (q := 10) (v := nI 1) hC d_MT_isGroup_9 (by decide) rfl ?_
      refine x_goto (tgt := 14) hC d_MT_isGroup_10 (by decide) ?_
      exact x_iret hC rfl rfl ⟨bz_t (⟨Int32.not_lt.mp h1, Int32.not_le.mp h6⟩), rfl⟩ (by decide) (by decide) d_MT_isGroup_14
set_option maxRecDepth 100000 in
set_option maxHeartbeats 400000 in
theorem c_MT_streamOf {Γ : mx_X} {lau : Launch} {nx : Nat} {u : Nat → Nat → Bool} {mi : mx_Mm} {s g : Nat}   : mx_C Γ lau M_MT_streamOf [.int (nI s), .int (nI g)] (nx, u, mi) (fun ρ τ => ρ = some (.int (nI (s * 3 + g))) ∧ τ = (nx, u, mi)) := by
  refine mx_C.intro (by decide) rfl (Nat.le_of_ble_eq_true rfl) (fun κ _ hC => ?_)
  show mx_G Γ κ _ _ 0 [(0, .int (nI s)), (1, .int (nI g))] [] (nx, u, mi) 0 0
  refine x_iload_n (q := 1) hC d_MT_streamOf_0 rfl rfl rfl ?_
  refine x_iconst (q := 2) (v := nI 3) hC d_MT_streamOf_1 (by decide) rfl ?_
  refine x_imul (q := 3) (z := nI (s * 3)) hC d_MT_streamOf_2 (pk_mul _ _) rfl ?_
  refine x_iload_n (q := 4) hC d_MT_streamOf_3 rfl rfl rfl ?_
  refine x_iadd (q := 5) (z := nI ((s * 3) + g)) hC d_MT_streamOf_4 (nI_add _ _) rfl ?_
  exact x_iret hC rfl rfl ⟨rfl, rfl⟩ (by decide) (by decide) d_MT_streamOf_5
set_option maxRecDepth 100000 in
set_option maxHeartbeats 400000 in
theorem c_MT_holds {Γ : mx_X} {lau : Launch} {nx : Nat} {u : Nat → Nat → Bool} {mi : mx_Mm} {x : Int32} {n : Nat}   : mx_C Γ lau M_MT_holds [.int x, .int (nI n)] (nx, u, mi) (fun ρ τ => ρ = some (.int (bz (hold x n))) ∧ τ = (nx, u, mi)) := by
  refine mx_C.intro (by decide) rfl (Nat.le_of_ble_eq_true rfl) (fun κ _ hC => ?_)
  show mx_G Γ κ _ _ 0 [(0, .int x), (1, .int (nI n))] [] (nx, u, mi) 0 0
  refine x_iload_n (q := 1) hC d_MT_holds_0 rfl rfl rfl ?_
  refine x_iload_n (q := 2) hC d_MT_holds_1 rfl rfl rfl ?_
  refine x_ishr (q := 3) (z := x >>> ((nI n) &&& 31)) hC d_MT_holds_2 rfl rfl ?_
  refine x_iconst (q := 4) (v := nI 1) hC d_MT_holds_3 (by decide) rfl ?_
  refine x_iand (q := 5) (z := (x >>> ((nI n) &&& 31)) &&& (nI 1)) hC d_MT_holds_4 rfl rfl ?_
  refine x_if_eq (tgt := 12) (q := 8) hC d_MT_holds_5 (by decide) rfl (fun h5 => ?_) (fun h5 => ?_)
  · skip
    refine x_iconst (q := 13) (v := nI 0) hC d_MT_holds_12 (by decide) rfl ?_
    exact x_iret hC rfl rfl ⟨bz_f (fun q => q h5), rfl⟩ (by decide) (by decide) d_MT_holds_13
  · skip
    refine x_iconst (q := 9) (v := nI 1) hC d_MT_holds_8 (by decide) rfl ?_
    refine x_goto (tgt := 13) hC d_MT_holds_9 (by decide) ?_
    exact x_iret hC rfl rfl ⟨bz_t (h5), rfl⟩ (by decide) (by decide) d_MT_holds_13
set_option maxRecDepth 100000 in
set_option maxHeartbeats 400000 in
theorem c_La_isMember {Γ : mx_X} {lau : Launch} {nx : Nat} {u : Nat → Nat → Bool} {mi : mx_Mm} {l h g : Nat} (hnx : 57 ≤ nx) (hu : ∀ p k, 2 ≤ p → u p k = true) (hl : l < 6) (hh : h < 4) (hg : g < 3) : mx_C Γ lau M_La_isMember [.ref 34, .int (nI l), .int (nI h), .int (nI g)] (nx, u, mi) (fun ρ τ => ρ = some (.int (bz (hold (mi (36 + l) g) h))) ∧ τ = (nx, u, mi)) := by
  refine mx_C.intro (by decide) rfl (Nat.le_of_ble_eq_true rfl) (fun κ _ hC => ?_)
  show mx_G Γ κ _ _ 0 [(0, .ref 34), (1, .int (nI l)), (2, .int (nI h)), (3, .int (nI g))] [] (nx, u, mi) 0 0
  refine x_aload_n (q := 1) hC d_La_isMember_0 rfl rfl rfl ?_
  refine x_getr (q := 4) (p := 34) (j := 1) (r := 35) hC f_La_11 rfl rfl rfl (by omega) (hu _ _ (by decide)) d_La_isMember_1 rfl ?_
  refine x_iload_n (q := 5) hC d_La_isMember_4 rfl rfl rfl ?_
  refine x_aald (q := 6) (p := 35) (r := 36 + l) hC l (mr_35 _ (by omega)) rfl (by omega) rfl (by omega) (by decide) d_La_isMember_5 rfl ?_
  refine x_iload_n (q := 7) hC d_La_isMember_6 rfl rfl rfl ?_
  refine x_iald (q := 8) (p := 36 + l) hC g (sh_36 _ (by omega)) (by omega) rfl (by omega) (by decide) d_La_isMember_7 rfl ?_
  refine x_iload_n (q := 9) hC d_La_isMember_8 rfl rfl rfl ?_
  refine x_callSN (q := 12) (A := [.int (mi (36 + l) g), .int (nI h)]) (S := []) (c1 := 0) (s1 := 0) hC (c_MT_holds (n := h)) s_La_isMember_36 rfl rfl rfl (Nat.le_of_ble_eq_true rfl) rfl rfl (by decide) (by decide) d_La_isMember_9 rfl (fun r τ hP => ?_)
  obtain ⟨rfl, rfl⟩ := hP
  show mx_G Γ κ _ _ 12 [(0, .ref 34), (1, .int (nI l)), (2, .int (nI h)), (3, .int (nI g))] [.int (bz (hold (mi (36 + l) g) h))] (nx, u, mi) 0 0
  exact x_iret hC rfl bz_n ⟨rfl, rfl⟩ (by decide) (by decide) d_La_isMember_12
set_option maxRecDepth 100000 in
set_option maxHeartbeats 400000 in
theorem c_La_hasMembers {Γ : mx_X} {lau : Launch} {nx : Nat} {u : Nat → Nat → Bool} {mi : mx_Mm} {l g : Nat} (hnx : 57 ≤ nx) (hu : ∀ p k, 2 ≤ p → u p k = true) (hl : l < 6) (hg : g < 3) : mx_C Γ lau M_La_hasMembers [.ref 34, .int (nI l), .int (nI g)] (nx, u, mi) (fun ρ τ => ρ = some (.int (bz (¬ mi (36 + l) g = 0))) ∧ τ = (nx, u, mi)) := by
  refine mx_C.intro (by decide) rfl (Nat.le_of_ble_eq_true rfl) (fun κ _ hC => ?_)
  show mx_G Γ κ _ _ 0 [(0, .ref 34), (1, .int (nI l)), (2, .int (nI g))] [] (nx, u, mi) 0 0
  refine x_aload_n (q := 1) hC d_La_hasMembers_0 rfl rfl rfl ?_
  refine x_getr (q := 4) (p := 34) (j := 1) (r := 35) hC f_La_11 rfl rfl rfl (by omega) (hu _ _ (by decide)) d_La_hasMembers_1 rfl ?_
  refine x_iload_n (q := 5) hC d_La_hasMembers_4 rfl rfl rfl ?_
  refine x_aald (q := 6) (p := 35) (r := 36 + l) hC l (mr_35 _ (by omega)) rfl (by omega) rfl (by omega) (by decide) d_La_hasMembers_5 rfl ?_
  refine x_iload_n (q := 7) hC d_La_hasMembers_6 rfl rfl rfl ?_
  refine x_iald (q := 8) (p := 36 + l) hC g (sh_36 _ (by omega)) (by omega) rfl (by omega) (by decide) d_La_hasMembers_7 rfl ?_
  refine x_if_eq (tgt := 15) (q := 11) hC d_La_hasMembers_8 (by decide) rfl (fun h8 => ?_) (fun h8 => ?_)
  · skip
    refine x_iconst (q := 16) (v := nI 0) hC d_La_hasMembers_15 (by decide) rfl ?_
    exact x_iret hC rfl rfl ⟨bz_f (fun q => q h8), rfl⟩ (by decide) (by decide) d_La_hasMembers_16
  · skip
    refine x_iconst (q := 12) (v := nI 1) hC d_La_hasMembers_11 (by decide) rfl ?_
    refine x_goto (tgt := 16) hC d_La_hasMembers_12 (by decide) ?_
    exact x_iret hC rfl rfl ⟨bz_t (h8), rfl⟩ (by decide) (by decide) d_La_hasMembers_16
set_option maxRecDepth 100000 in
set_option maxHeartbeats 400000 in
theorem c_La_isMarked {Γ : mx_X} {lau : Launch} {nx : Nat} {u : Nat → Nat → Bool} {mi : mx_Mm} {l g : Nat} (hnx : 57 ≤ nx) (hu : ∀ p k, 2 ≤ p → u p k = true) (hl : l < 6) (hg : g < 3) : mx_C Γ lau M_La_isMarked [.ref 34, .int (nI l), .int (nI g)] (nx, u, mi) (fun ρ τ => ρ = some (.int (bz (mi 2 0 < mi (43 + l) g))) ∧ τ = (nx, u, mi)) := by
  refine mx_C.intro (by decide) rfl (Nat.le_of_ble_eq_true rfl) (fun κ _ hC => ?_)
  show mx_G Γ κ _ _ 0 [(0, .ref 34), (1, .int (nI l)), (2, .int (nI g))] [] (nx, u, mi) 0 0
  refine x_aload_n (q := 1) hC d_La_isMarked_0 rfl rfl rfl ?_
  refine x_getr (q := 4) (p := 34) (j := 0) (r := 2) hC f_La_26 rfl rfl rfl (by omega) (hu _ _ (by decide)) d_La_isMarked_1 rfl ?_
  refine x_callV (q := 7) (p := 2) (A := []) (S := []) (c1 := 0) (s1 := 0) hC (c_Ck_time (by omega) hu) s_La_isMarked_40 rfl (by omega) rfl rfl rfl (Nat.le_of_ble_eq_true rfl) rfl rfl (by decide) (by decide) d_La_isMarked_4 rfl (fun r τ hP => ?_)
  obtain ⟨rfl, rfl⟩ := hP
  show mx_G Γ κ _ _ 7 [(0, .ref 34), (1, .int (nI l)), (2, .int (nI g))] [.int (mi 2 0)] (nx, u, mi) 0 0
  refine x_aload_n (q := 8) hC d_La_isMarked_7 rfl rfl rfl ?_
  refine x_getr (q := 11) (p := 34) (j := 2) (r := 42) hC f_La_16 rfl rfl rfl (by omega) (hu _ _ (by decide)) d_La_isMarked_8 rfl ?_
  refine x_iload_n (q := 12) hC d_La_isMarked_11 rfl rfl rfl ?_
  refine x_aald (q := 13) (p := 42) (r := 43 + l) hC l (mr_42 _ (by omega)) rfl (by omega) rfl (by omega) (by decide) d_La_isMarked_12 rfl ?_
  refine x_iload_n (q := 14) hC d_La_isMarked_13 rfl rfl rfl ?_
  refine x_iald (q := 15) (p := 43 + l) hC g (sh_43 _ (by omega)) (by omega) rfl (by omega) (by decide) d_La_isMarked_14 rfl ?_
  refine x_icmp_ge (tgt := 22) (q := 18) hC d_La_isMarked_15 (by decide) rfl (fun h15 => ?_) (fun h15 => ?_)
  · skip
    refine x_iconst (q := 23) (v := nI 0) hC d_La_isMarked_22 (by decide) rfl ?_
    exact x_iret hC rfl rfl ⟨bz_f (Int32.not_lt.mpr h15), rfl⟩ (by decide) (by decide) d_La_isMarked_23
  · skip
    refine x_iconst (q := 19) (v := nI 1) hC d_La_isMarked_18 (by decide) rfl ?_
    refine x_goto (tgt := 23) hC d_La_isMarked_19 (by decide) ?_
    exact x_iret hC rfl rfl ⟨bz_t (Int32.not_le.mp h15), rfl⟩ (by decide) (by decide) d_La_isMarked_23
set_option maxRecDepth 100000 in
set_option maxHeartbeats 400000 in
theorem c_La_ticksLeft {Γ : mx_X} {lau : Launch} {nx : Nat} {u : Nat → Nat → Bool} {mi : mx_Mm} {l g : Nat} (hnx : 57 ≤ nx) (hu : ∀ p k, 2 ≤ p → u p k = true) (hl : l < 6) (hg : g < 3) : mx_C Γ lau M_La_ticksLeft [.ref 34, .int (nI l), .int (nI g)] (nx, u, mi) (fun ρ τ => ρ = some (.int (if mi 2 0 < mi (43 + l) g then mi (43 + l) g - mi 2 0 else nI 0)) ∧ τ = (nx, u, mi)) := by
  refine mx_C.intro (by decide) rfl (Nat.le_of_ble_eq_true rfl) (fun κ _ hC => ?_)
  show mx_G Γ κ _ _ 0 [(0, .ref 34), (1, .int (nI l)), (2, .int (nI g))] [] (nx, u, mi) 0 0
  refine x_aload_n (q := 1) hC d_La_ticksLeft_0 rfl rfl rfl ?_
  refine x_iload_n (q := 2) hC d_La_ticksLeft_1 rfl rfl rfl ?_
  refine x_iload_n (q := 3) hC d_La_ticksLeft_2 rfl rfl rfl ?_
  refine x_callV (q := 6) (p := 34) (A := [.int (nI l), .int (nI g)]) (S := []) (c1 := 0) (s1 := 0) hC (c_La_isMarked (l := l) (g := g) (by omega) hu (by omega) (by omega) ) s_La_ticksLeft_46 rfl (by omega) rfl rfl rfl (Nat.le_of_ble_eq_true rfl) rfl rfl (by decide) (by decide) d_La_ticksLeft_3 rfl (fun r τ hP => ?_)
  obtain ⟨rfl, rfl⟩ := hP
  show mx_G Γ κ _ _ 6 [(0, .ref 34), (1, .int (nI l)), (2, .int (nI g))] [.int (bz (mi 2 0 < mi (43 + l) g))] (nx, u, mi) 0 0
  refine x_if_eq (tgt := 28) (q := 9) hC d_La_ticksLeft_6 (by decide) rfl (fun h6 => ?_) (fun h6 => ?_)
  · have h6 := bz_0 h6
    refine x_iconst (q := 29) (v := nI 0) hC d_La_ticksLeft_28 (by decide) rfl ?_
    exact x_iret hC rfl rfl ⟨by first | rw [if_pos h6] | rw [if_neg h6], rfl⟩ (by decide) (by decide) d_La_ticksLeft_29
  · have h6 := bz_1 h6
    refine x_aload_n (q := 10) hC d_La_ticksLeft_9 rfl rfl rfl ?_
    refine x_getr (q := 13) (p := 34) (j := 2) (r := 42) hC f_La_16 rfl rfl rfl (by omega) (hu _ _ (by decide)) d_La_ticksLeft_10 rfl ?_
    refine x_iload_n (q := 14) hC d_La_ticksLeft_13 rfl rfl rfl ?_
    refine x_aald (q := 15) (p := 42) (r := 43 + l) hC l (mr_42 _ (by omega)) rfl (by omega) rfl (by omega) (by decide) d_La_ticksLeft_14 rfl ?_
    refine x_iload_n (q := 16) hC d_La_ticksLeft_15 rfl rfl rfl ?_
    refine x_iald (q := 17) (p := 43 + l) hC g (sh_43 _ (by omega)) (by omega) rfl (by omega) (by decide) d_La_ticksLeft_16 rfl ?_
    refine x_aload_n (q := 18) hC d_La_ticksLeft_17 rfl rfl rfl ?_
    refine x_getr (q := 21) (p := 34) (j := 0) (r := 2) hC f_La_26 rfl rfl rfl (by omega) (hu _ _ (by decide)) d_La_ticksLeft_18 rfl ?_
    refine x_callV (q := 24) (p := 2) (A := []) (S := [.int (mi (43 + l) g)]) (c1 := 0) (s1 := 0) hC (c_Ck_time (by omega) hu) s_La_ticksLeft_40 rfl (by omega) rfl rfl rfl (Nat.le_of_ble_eq_true rfl) rfl rfl (by decide) (by decide) d_La_ticksLeft_21 rfl (fun r τ hP => ?_)
    obtain ⟨rfl, rfl⟩ := hP
    show mx_G Γ κ _ _ 24 [(0, .ref 34), (1, .int (nI l)), (2, .int (nI g))] [.int (mi 2 0), .int (mi (43 + l) g)] (nx, u, mi) 0 0
    refine x_isub (q := 25) (z := (mi (43 + l) g) - (mi 2 0)) hC d_La_ticksLeft_24 rfl rfl ?_
    refine x_goto (tgt := 29) hC d_La_ticksLeft_25 (by decide) ?_
    exact x_iret hC rfl rfl ⟨by first | rw [if_pos h6] | rw [if_neg h6], rfl⟩ (by decide) (by decide) d_La_ticksLeft_29
set_option maxRecDepth 100000 in
set_option maxHeartbeats 400000 in
theorem c_La_report {Γ : mx_X} {lau : Launch} {nx : Nat} {u : Nat → Nat → Bool} {mi : mx_Mm} {l h g : Nat} (hnx : 57 ≤ nx) (hu : ∀ p k, 2 ≤ p → u p k = true) (hl : l < 6) (hh : h < 4) (hg : g < 3) : mx_C Γ lau M_La_report [.ref 34, .int (nI l), .int (nI h), .int (nI g)] (nx, u, mi) (fun ρ τ => ρ = none ∧ τ = (nx, u, La_report l h g mi)) := by
  refine mx_C.intro (by decide) rfl (Nat.le_of_ble_eq_true rfl) (fun κ _ hC => ?_)
  show mx_G Γ κ _ _ 0 [(0, .ref 34), (1, .int (nI l)), (2, .int (nI h)), (3, .int (nI g))] [] (nx, u, mi) 0 0
  refine x_aload_n (q := 1) hC d_La_report_0 rfl rfl rfl ?_
  refine x_getr (q := 4) (p := 34) (j := 2) (r := 42) hC f_La_16 rfl rfl rfl (by omega) (hu _ _ (by decide)) d_La_report_1 rfl ?_
  refine x_iload_n (q := 5) hC d_La_report_4 rfl rfl rfl ?_
  refine x_aald (q := 6) (p := 42) (r := 43 + l) hC l (mr_42 _ (by omega)) rfl (by omega) rfl (by omega) (by decide) d_La_report_5 rfl ?_
  refine x_iload_n (q := 7) hC d_La_report_6 rfl rfl rfl ?_
  refine x_aload_n (q := 8) hC d_La_report_7 rfl rfl rfl ?_
  refine x_getr (q := 11) (p := 34) (j := 0) (r := 2) hC f_La_26 rfl rfl rfl (by omega) (hu _ _ (by decide)) d_La_report_8 rfl ?_
  refine x_callV (q := 14) (p := 2) (A := []) (S := [.int (nI g), .ref (43 + l)]) (c1 := 0) (s1 := 0) hC (c_Ck_time (by omega) hu) s_La_report_40 rfl (by omega) rfl rfl rfl (Nat.le_of_ble_eq_true rfl) rfl rfl (by decide) (by decide) d_La_report_11 rfl (fun r τ hP => ?_)
  obtain ⟨rfl, rfl⟩ := hP
  show mx_G Γ κ _ _ 14 [(0, .ref 34), (1, .int (nI l)), (2, .int (nI h)), (3, .int (nI g))] [.int (mi 2 0), .int (nI g), .ref (43 + l)] (nx, u, mi) 0 0
  refine x_bipush (q := 16) (v := nI 12) hC d_La_report_14 (by decide) rfl ?_
  refine x_iadd (q := 17) (z := (mi 2 0) + (nI 12)) hC d_La_report_16 rfl rfl ?_
  refine x_iast (q := 18) (p := 43 + l) hC g (sh_43 _ (by omega)) (by omega) (by omega) rfl (by omega) (by decide) d_La_report_17 rfl ?_
  refine x_aload_n (q := 19) hC d_La_report_18 rfl rfl rfl ?_
  refine x_getr (q := 22) (p := 34) (j := 3) (r := 49) hC f_La_19 rfl rfl rfl (by omega) (hu _ _ (by decide)) d_La_report_19 rfl ?_
  refine x_iload_n (q := 23) hC d_La_report_22 rfl rfl rfl ?_
  refine x_aald (q := 24) (p := 49) (r := 50 + l) hC l (mr_49 _ (by omega)) rfl (by omega) rfl (by omega) (by decide) d_La_report_23 rfl ?_
  refine x_iload_n (q := 25) hC d_La_report_24 rfl rfl rfl ?_
  refine x_iload_n (q := 26) hC d_La_report_25 rfl rfl rfl ?_
  refine x_iast (q := 27) (p := 50 + l) hC g (sh_50 _ (by omega)) (by omega) (by omega) rfl (by omega) (by decide) d_La_report_26 rfl ?_
  refine mx_nr (fun m1 e2 => ?_)
  subst e2
  exact x_vret hC rfl ⟨rfl, rfl⟩ (by decide) (by decide) d_La_report_27
set_option maxRecDepth 100000 in
set_option maxHeartbeats 400000 in
theorem c_La_reportLowest {Γ : mx_X} {lau : Launch} {nx : Nat} {u : Nat → Nat → Bool} {mi : mx_Mm} {l g : Nat} (hnx : 57 ≤ nx) (hu : ∀ p k, 2 ≤ p → u p k = true) (hl : l < 6) (hg : g < 3) : mx_C Γ lau M_La_reportLowest [.ref 34, .int (nI l), .int (nI g)] (nx, u, mi) (fun ρ τ => ρ = none ∧ τ = (nx, u, La_rl l g mi)) := by
  refine mx_C.intro (by decide) rfl (Nat.le_of_ble_eq_true rfl) (fun κ _ hC => ?_)
  show mx_G Γ κ _ _ 0 [(0, .ref 34), (1, .int (nI l)), (2, .int (nI g))] [] (nx, u, mi) 0 0
  refine x_iconst (q := 1) (v := nI 0) hC d_La_reportLowest_0 (by decide) rfl ?_
  refine x_istore_n (q := 2) (L1 := [(3, .int (nI 0)), (0, .ref 34), (1, .int (nI l)), (2, .int (nI g))]) hC d_La_reportLowest_1 rfl (by decide) rfl rfl ?_
  refine x_sub (L1 := [(3, .int (nI 0)), (0, .ref 34), (1, .int (nI l)), (2, .int (nI g))]) [0, 1, 2, 3] rfl ?_
  refine mx_loopR (N := 4) (Hd := fun h => mx_G Γ κ _ _ 2 [(3, .int (nI h)), (0, .ref 34), (1, .int (nI l)), (2, .int (nI g))] [] (nx, u, mi) 0 0) (La_hs l g mi) ?_ ?_
  · intro h hl1 hn2 hN3
    refine x_iload_n (q := 3) hC d_La_reportLowest_2 rfl rfl rfl ?_
    refine x_iconst (q := 4) (v := nI 4) hC d_La_reportLowest_3 (by decide) rfl ?_
    refine x_icmp_ge (tgt := 31) (q := 7) hC d_La_reportLowest_4 (by decide) rfl (fun h => absurd h (nI_ge hl1 (by decide))) (fun _ => ?_)
    refine x_aload_n (q := 8) hC d_La_reportLowest_7 rfl rfl rfl ?_
    refine x_iload_n (q := 9) hC d_La_reportLowest_8 rfl rfl rfl ?_
    refine x_iload_n (q := 10) hC d_La_reportLowest_9 rfl rfl rfl ?_
    refine x_iload_n (q := 11) hC d_La_reportLowest_10 rfl rfl rfl ?_
    refine x_callV (q := 14) (p := 34) (A := [.int (nI l), .int (nI h), .int (nI g)]) (S := []) (c1 := 0) (s1 := 0) hC (c_La_isMember (l := l) (h := h) (g := g) (by omega) hu (by omega) (by omega) (by omega) ) s_La_reportLowest_66 rfl (by omega) rfl rfl rfl (Nat.le_of_ble_eq_true rfl) rfl rfl (by decide) (by decide) d_La_reportLowest_11 rfl (fun r τ hP => ?_)
    obtain ⟨rfl, rfl⟩ := hP
    show mx_G Γ κ _ _ 14 [(3, .int (nI h)), (0, .ref 34), (1, .int (nI l)), (2, .int (nI g))] [.int (bz (hold (mi (36 + l) g) h))] (nx, u, mi) 0 0
    refine x_if_eq (tgt := 25) (q := 17) hC d_La_reportLowest_14 (by decide) rfl (fun h14 => ?_) (fun h14 => ?_)
    · have h14 := bz_0 h14
      refine x_iinc (q := 28) (y := nI (h + 1)) (L1 := [(3, .int (nI (h + 1))), (0, .ref 34), (1, .int (nI l)), (2, .int (nI g))]) hC d_La_reportLowest_25 rfl (mx_inc h) (by decide) rfl rfl ?_
      refine x_goto (tgt := 2) hC d_La_reportLowest_28 (by decide) ?_
      exact x_sub [0, 1, 2, 3] rfl (hN3 (decide_eq_false h14))
    · have h14 := bz_1 h14
      refine x_aload_n (q := 18) hC d_La_reportLowest_17 rfl rfl rfl ?_
      refine x_iload_n (q := 19) hC d_La_reportLowest_18 rfl rfl rfl ?_
      refine x_iload_n (q := 20) hC d_La_reportLowest_19 rfl rfl rfl ?_
      refine x_iload_n (q := 21) hC d_La_reportLowest_20 rfl rfl rfl ?_
      refine x_callV (q := 24) (p := 34) (A := [.int (nI l), .int (nI h), .int (nI g)]) (S := []) (c1 := 0) (s1 := 0) hC (c_La_report (l := l) (h := h) (g := g) (by omega) hu (by omega) (by omega) (by omega) ) s_La_reportLowest_49 rfl (by omega) rfl rfl rfl (Nat.le_of_ble_eq_true rfl) rfl rfl (by decide) (by decide) d_La_reportLowest_21 rfl (fun r τ hP => ?_)
      obtain ⟨rfl, rfl⟩ := hP
      show mx_G Γ κ _ _ 24 [(3, .int (nI h)), (0, .ref 34), (1, .int (nI l)), (2, .int (nI g))] [] (nx, u, La_report l h g mi) 0 0
      exact x_vret hC rfl ⟨rfl, by unfold La_rl; first | rw [pm_fd_eq hl1 (decide_eq_true h14) hn2, if_pos hl1] | rw [if_neg (by rw [pm_fd_none hx]; decide)]⟩ (by decide) (by decide) d_La_reportLowest_24
  · intro hx
    refine x_iload_n (q := 3) hC d_La_reportLowest_2 rfl rfl rfl ?_
    refine x_iconst (q := 4) (v := nI 4) hC d_La_reportLowest_3 (by decide) rfl ?_
    refine x_icmp_ge (tgt := 31) (q := 7) hC d_La_reportLowest_4 (by decide) rfl (fun _ => ?_) (fun h => absurd (nI_le (Nat.le_refl _) (by decide)) h)
    exact x_vret hC rfl ⟨rfl, by unfold La_rl; first | rw [pm_fd_eq hl1 (decide_eq_true h14) hn2, if_pos hl1] | rw [if_neg (by rw [pm_fd_none hx]; decide)]⟩ (by decide) (by decide) d_La_reportLowest_31
set_option maxRecDepth 100000 in
set_option maxHeartbeats 400000 in
theorem c_La_reportAll {Γ : mx_X} {lau : Launch} {nx : Nat} {u : Nat → Nat → Bool} {mi : mx_Mm}  (hnx : 57 ≤ nx) (hu : ∀ p k, 2 ≤ p → u p k = true)  : mx_C Γ lau M_La_reportAll [.ref 34] (nx, u, mi) (fun ρ τ => ρ = none ∧ τ = (nx, u, La_all mi)) := by
  refine mx_C.intro (by decide) rfl (Nat.le_of_ble_eq_true rfl) (fun κ _ hC => ?_)
  show mx_G Γ κ _ _ 0 [(0, .ref 34)] [] (nx, u, mi) 0 0
  refine x_iconst (q := 1) (v := nI 0) hC d_La_reportAll_0 (by decide) rfl ?_
  refine x_istore_n (q := 2) (L1 := [(1, .int (nI 0)), (0, .ref 34)]) hC d_La_reportAll_1 rfl (by decide) rfl rfl ?_
  refine x_sub (L1 := [(1, .int (nI 0)), (0, .ref 34)]) [0, 1] rfl ?_
  refine mx_loop (N := 6) (Hd := fun l m1 => mx_G Γ κ _ _ 2 [(1, .int (nI l)), (0, .ref 34)] [] (nx, u, m1) 0 0) (fun l => mx_lp 3 (La_rl l)) (fun _ _ => True) trivial ?_ ?_ ?_
  · exact fun _ _ _ _ => trivial
  · intro l m1 hl2 hI3 hN4
    refine x_iload_n (q := 3) hC d_La_reportAll_2 rfl rfl rfl ?_
    refine x_bipush (q := 5) (v := nI 6) hC d_La_reportAll_3 (by decide) rfl ?_
    refine x_icmp_ge (tgt := 33) (q := 8) hC d_La_reportAll_5 (by decide) rfl (fun h => absurd h (nI_ge hl2 (by decide))) (fun _ => ?_)
    refine x_iconst (q := 9) (v := nI 0) hC d_La_reportAll_8 (by decide) rfl ?_
    refine x_istore_n (q := 10) (L1 := [(2, .int (nI 0)), (1, .int (nI l)), (0, .ref 34)]) hC d_La_reportAll_9 rfl (by decide) rfl rfl ?_
    refine x_sub (L1 := [(2, .int (nI 0)), (1, .int (nI l)), (0, .ref 34)]) [0, 1, 2] rfl ?_
    refine mx_loop (N := 3) (Hd := fun g m5 => mx_G Γ κ _ _ 10 [(2, .int (nI g)), (1, .int (nI l)), (0, .ref 34)] [] (nx, u, m5) 0 0) (La_rl l) (fun _ _ => True) trivial ?_ ?_ ?_
    · exact fun _ _ _ _ => trivial
    · intro g m5 hl6 hI7 hN8
      refine x_iload_n (q := 11) hC d_La_reportAll_10 rfl rfl rfl ?_
      refine x_iconst (q := 12) (v := nI 3) hC d_La_reportAll_11 (by decide) rfl ?_
      refine x_icmp_ge (tgt := 27) (q := 15) hC d_La_reportAll_12 (by decide) rfl (fun h => absurd h (nI_ge hl6 (by decide))) (fun _ => ?_)
      refine x_aload_n (q := 16) hC d_La_reportAll_15 rfl rfl rfl ?_
      refine x_iload_n (q := 17) hC d_La_reportAll_16 rfl rfl rfl ?_
      refine x_iload_n (q := 18) hC d_La_reportAll_17 rfl rfl rfl ?_
      refine x_callV (q := 21) (p := 34) (A := [.int (nI l), .int (nI g)]) (S := []) (c1 := 0) (s1 := 0) hC (c_La_reportLowest (l := l) (g := g) (by omega) hu (by omega) (by omega) ) s_La_reportAll_56 rfl (by omega) rfl rfl rfl (Nat.le_of_ble_eq_true rfl) rfl rfl (by decide) (by decide) d_La_reportAll_18 rfl (fun r τ hP => ?_)
      obtain ⟨rfl, rfl⟩ := hP
      show mx_G Γ κ _ _ 21 [(2, .int (nI g)), (1, .int (nI l)), (0, .ref 34)] [] (nx, u, La_rl l g m5) 0 0
      refine x_iinc (q := 24) (y := nI (g + 1)) (L1 := [(2, .int (nI (g + 1))), (1, .int (nI l)), (0, .ref 34)]) hC d_La_reportAll_21 rfl (mx_inc g) (by decide) rfl rfl ?_
      refine x_goto (tgt := 10) hC d_La_reportAll_24 (by decide) ?_
      exact x_close hN8 [0, 1, 2] rfl (by rfl)
    · intro hx9
      refine mx_nr (fun m10 e11 => ?_)
      try rw [e11] at hx9
      refine x_iload_n (q := 11) hC d_La_reportAll_10 rfl rfl rfl ?_
      refine x_iconst (q := 12) (v := nI 3) hC d_La_reportAll_11 (by decide) rfl ?_
      refine x_icmp_ge (tgt := 27) (q := 15) hC d_La_reportAll_12 (by decide) rfl (fun _ => ?_) (fun h => absurd (nI_le (Nat.le_refl _) (by decide)) h)
      refine x_iinc (q := 30) (y := nI (l + 1)) (L1 := [(1, .int (nI (l + 1))), (2, .int (nI 3)), (0, .ref 34)]) hC d_La_reportAll_27 rfl (mx_inc l) (by decide) rfl rfl ?_
      refine x_goto (tgt := 2) hC d_La_reportAll_30 (by decide) ?_
      subst e11
      exact x_close hN4 [0, 2] rfl (by rfl)
  · intro hx12
    refine mx_nr (fun m13 e14 => ?_)
    try rw [e14] at hx12
    refine x_iload_n (q := 3) hC d_La_reportAll_2 rfl rfl rfl ?_
    refine x_bipush (q := 5) (v := nI 6) hC d_La_reportAll_3 (by decide) rfl ?_
    refine x_icmp_ge (tgt := 33) (q := 8) hC d_La_reportAll_5 (by decide) rfl (fun _ => ?_) (fun h => absurd (nI_le (Nat.le_refl _) (by decide)) h)
    subst e14
    exact x_vret hC rfl ⟨rfl, rfl⟩ (by decide) (by decide) d_La_reportAll_33
set_option maxRecDepth 100000 in
set_option maxHeartbeats 400000 in
theorem c_La_admit {Γ : mx_X} {lau : Launch} {nx : Nat} {u : Nat → Nat → Bool} {mi : mx_Mm} {l h g : Nat} (hnx : 57 ≤ nx) (hu : ∀ p k, 2 ≤ p → u p k = true) (hl : l < 6) (hh : h < 4) (hg : g < 3) : mx_C Γ lau M_La_admit [.ref 34, .int (nI l), .int (nI h), .int (nI g)] (nx, u, mi) (fun ρ τ => ρ = none ∧ τ = (nx, u, La_admit l h g mi)) := by
  refine mx_C.intro (by decide) rfl (Nat.le_of_ble_eq_true rfl) (fun κ _ hC => ?_)
  show mx_G Γ κ _ _ 0 [(0, .ref 34), (1, .int (nI l)), (2, .int (nI h)), (3, .int (nI g))] [] (nx, u, mi) 0 0
  refine x_aload_n (q := 1) hC d_La_admit_0 rfl rfl rfl ?_
  refine x_getr (q := 4) (p := 34) (j := 1) (r := 35) hC f_La_11 rfl rfl rfl (by omega) (hu _ _ (by decide)) d_La_admit_1 rfl ?_
  refine x_iload_n (q := 5) hC d_La_admit_4 rfl rfl rfl ?_
  refine x_aald (q := 6) (p := 35) (r := 36 + l) hC l (mr_35 _ (by omega)) rfl (by omega) rfl (by omega) (by decide) d_La_admit_5 rfl ?_
  refine x_iload_n (q := 7) hC d_La_admit_6 rfl rfl rfl ?_
  refine x_dup2 (q := 8) hC d_La_admit_7 rfl rfl rfl ?_
  refine x_iald (q := 9) (p := 36 + l) hC g (sh_36 _ (by omega)) (by omega) rfl (by omega) (by decide) d_La_admit_8 rfl ?_
  refine x_iconst (q := 10) (v := nI 1) hC d_La_admit_9 (by decide) rfl ?_
  refine x_iload_n (q := 11) hC d_La_admit_10 rfl rfl rfl ?_
  refine x_ishl (q := 12) (z := (nI 1) <<< ((nI h) &&& 31)) hC d_La_admit_11 rfl rfl ?_
  refine x_ior (q := 13) (z := (mi (36 + l) g) ||| ((nI 1) <<< ((nI h) &&& 31))) hC d_La_admit_12 rfl rfl ?_
  refine x_iast (q := 14) (p := 36 + l) hC g (sh_36 _ (by omega)) (by omega) (by omega) rfl (by omega) (by decide) d_La_admit_13 rfl ?_
  refine mx_nr (fun m1 e2 => ?_)
  refine x_aload_n (q := 15) hC d_La_admit_14 rfl rfl rfl ?_
  refine x_iload_n (q := 16) hC d_La_admit_15 rfl rfl rfl ?_
  refine x_iload_n (q := 17) hC d_La_admit_16 rfl rfl rfl ?_
  refine x_iload_n (q := 18) hC d_La_admit_17 rfl rfl rfl ?_
  refine x_callV (q := 21) (p := 34) (A := [.int (nI l), .int (nI h), .int (nI g)]) (S := []) (c1 := 0) (s1 := 0) hC (c_La_report (l := l) (h := h) (g := g) (by omega) hu (by omega) (by omega) (by omega) ) s_La_admit_49 rfl (by omega) rfl rfl rfl (Nat.le_of_ble_eq_true rfl) rfl rfl (by decide) (by decide) d_La_admit_18 rfl (fun r τ hP => ?_)
  obtain ⟨rfl, rfl⟩ := hP
  show mx_G Γ κ _ _ 21 [(0, .ref 34), (1, .int (nI l)), (2, .int (nI h)), (3, .int (nI g))] [] (nx, u, La_report l h g m1) 0 0
  subst e2
  exact x_vret hC rfl ⟨rfl, rfl⟩ (by decide) (by decide) d_La_admit_21
set_option maxRecDepth 100000 in
set_option maxHeartbeats 400000 in
theorem c_La_dismiss {Γ : mx_X} {lau : Launch} {nx : Nat} {u : Nat → Nat → Bool} {mi : mx_Mm} {l h g : Nat} {x : Int32} (hnx : 57 ≤ nx) (hu : ∀ p k, 2 ≤ p → u p k = true) (hl : l < 6) (hh : h < 4) (hg : g < 3) : mx_C Γ lau M_La_dismiss [.ref 34, .int (nI l), .int (nI h), .int (nI g), .int x] (nx, u, mi) (fun ρ τ => ρ = none ∧ τ = (nx, u, La_dismiss l h g x mi)) := by
  refine mx_C.intro (by decide) rfl (Nat.le_of_ble_eq_true rfl) (fun κ _ hC => ?_)
  show mx_G Γ κ _ _ 0 [(0, .ref 34), (1, .int (nI l)), (2, .int (nI h)), (3, .int (nI g)), (4, .int x)] [] (nx, u, mi) 0 0
  refine x_aload_n (q := 1) hC d_La_dismiss_0 rfl rfl rfl ?_
  refine x_getr (q := 4) (p := 34) (j := 1) (r := 35) hC f_La_11 rfl rfl rfl (by omega) (hu _ _ (by decide)) d_La_dismiss_1 rfl ?_
  refine x_iload_n (q := 5) hC d_La_dismiss_4 rfl rfl rfl ?_
  refine x_aald (q := 6) (p := 35) (r := 36 + l) hC l (mr_35 _ (by omega)) rfl (by omega) rfl (by omega) (by decide) d_La_dismiss_5 rfl ?_
  refine x_iload_n (q := 7) hC d_La_dismiss_6 rfl rfl rfl ?_
  refine x_dup2 (q := 8) hC d_La_dismiss_7 rfl rfl rfl ?_
  refine x_iald (q := 9) (p := 36 + l) hC g (sh_36 _ (by omega)) (by omega) rfl (by omega) (by decide) d_La_dismiss_8 rfl ?_
  refine x_iconst (q := 10) (v := nI 1) hC d_La_dismiss_9 (by decide) rfl ?_
  refine x_iload_n (q := 11) hC d_La_dismiss_10 rfl rfl rfl ?_
  refine x_ishl (q := 12) (z := (nI 1) <<< ((nI h) &&& 31)) hC d_La_dismiss_11 rfl rfl ?_
  refine x_iconst (q := 13) (v := (-1)) hC d_La_dismiss_12 (by decide) rfl ?_
  refine x_ixor (q := 14) (z := ((nI 1) <<< ((nI h) &&& 31)) ^^^ (-1)) hC d_La_dismiss_13 rfl rfl ?_
  refine x_iand (q := 15) (z := (mi (36 + l) g) &&& (((nI 1) <<< ((nI h) &&& 31)) ^^^ (-1))) hC d_La_dismiss_14 rfl rfl ?_
  refine x_iast (q := 16) (p := 36 + l) hC g (sh_36 _ (by omega)) (by omega) (by omega) rfl (by omega) (by decide) d_La_dismiss_15 rfl ?_
  refine mx_nr (fun m1 e2 => ?_)
  refine x_iload (q := 18) hC d_La_dismiss_16 rfl rfl ?_
  refine x_if_eq (tgt := 33) (q := 21) hC d_La_dismiss_18 (by decide) rfl (fun h18 => ?_) (fun h18 => ?_)
  · skip
    subst e2
    exact x_vret hC rfl ⟨rfl, by first | exact pr (it_t (Or.inl h18) rfl) | exact pr (it_t (Or.inr h30) rfl) | exact pr (it_f (fun q => q.elim h18 (fun z => z h30)) (it_t h40 rfl)) | exact pr (it_f (fun q => q.elim h18 (fun z => z h30)) (it_f h40 rfl))⟩ (by decide) (by decide) d_La_dismiss_33
  · skip
    refine x_aload_n (q := 22) hC d_La_dismiss_21 rfl rfl rfl ?_
    refine x_getr (q := 25) (p := 34) (j := 3) (r := 49) hC f_La_19 rfl rfl rfl (by omega) (hu _ _ (by decide)) d_La_dismiss_22 rfl ?_
    refine x_iload_n (q := 26) hC d_La_dismiss_25 rfl rfl rfl ?_
    refine x_aald (q := 27) (p := 49) (r := 50 + l) hC l (mr_49 _ (by omega)) rfl (by omega) rfl (by omega) (by decide) d_La_dismiss_26 rfl ?_
    refine x_iload_n (q := 28) hC d_La_dismiss_27 rfl rfl rfl ?_
    refine x_iald (q := 29) (p := 50 + l) hC g (sh_50 _ (by omega)) (by omega) rfl (by omega) (by decide) d_La_dismiss_28 rfl ?_
    refine x_iload_n (q := 30) hC d_La_dismiss_29 rfl rfl rfl ?_
    refine x_icmp_eq (tgt := 34) (q := 33) hC d_La_dismiss_30 (by decide) rfl (fun h30 => ?_) (fun h30 => ?_)
    · skip
      refine x_aload_n (q := 35) hC d_La_dismiss_34 rfl rfl rfl ?_
      refine x_iload_n (q := 36) hC d_La_dismiss_35 rfl rfl rfl ?_
      refine x_iload_n (q := 37) hC d_La_dismiss_36 rfl rfl rfl ?_
      refine x_callV (q := 40) (p := 34) (A := [.int (nI l), .int (nI g)]) (S := []) (c1 := 0) (s1 := 0) hC (c_La_hasMembers (l := l) (g := g) (by omega) hu (by omega) (by omega) ) s_La_dismiss_53 rfl (by omega) rfl rfl rfl (Nat.le_of_ble_eq_true rfl) rfl rfl (by decide) (by decide) d_La_dismiss_37 rfl (fun r τ hP => ?_)
      obtain ⟨rfl, rfl⟩ := hP
      show mx_G Γ κ _ _ 40 [(0, .ref 34), (1, .int (nI l)), (2, .int (nI h)), (3, .int (nI g)), (4, .int x)] [.int (bz (¬ m1 (36 + l) g = 0))] (nx, u, m1) 0 0
      refine x_if_eq (tgt := 52) (q := 43) hC d_La_dismiss_40 (by decide) rfl (fun h40 => ?_) (fun h40 => ?_)
      · have h40 := bz_0 h40
        refine x_aload_n (q := 53) hC d_La_dismiss_52 rfl rfl rfl ?_
        refine x_getr (q := 56) (p := 34) (j := 3) (r := 49) hC f_La_19 rfl rfl rfl (by omega) (hu _ _ (by decide)) d_La_dismiss_53 rfl ?_
        refine x_iload_n (q := 57) hC d_La_dismiss_56 rfl rfl rfl ?_
        refine x_aald (q := 58) (p := 49) (r := 50 + l) hC l (mr_49 _ (by omega)) rfl (by omega) rfl (by omega) (by decide) d_La_dismiss_57 rfl ?_
        refine x_iload_n (q := 59) hC d_La_dismiss_58 rfl rfl rfl ?_
        refine x_iconst (q := 60) (v := (-1)) hC d_La_dismiss_59 (by decide) rfl ?_
        refine x_iast (q := 61) (p := 50 + l) hC g (sh_50 _ (by omega)) (by omega) (by omega) rfl (by omega) (by decide) d_La_dismiss_60 rfl ?_
        refine x_aload_n (q := 62) hC d_La_dismiss_61 rfl rfl rfl ?_
        refine x_getr (q := 65) (p := 34) (j := 2) (r := 42) hC f_La_16 rfl rfl rfl (by omega) (hu _ _ (by decide)) d_La_dismiss_62 rfl ?_
        refine x_iload_n (q := 66) hC d_La_dismiss_65 rfl rfl rfl ?_
        refine x_aald (q := 67) (p := 42) (r := 43 + l) hC l (mr_42 _ (by omega)) rfl (by omega) rfl (by omega) (by decide) d_La_dismiss_66 rfl ?_
        refine x_iload_n (q := 68) hC d_La_dismiss_67 rfl rfl rfl ?_
        refine x_aload_n (q := 69) hC d_La_dismiss_68 rfl rfl rfl ?_
        refine x_getr (q := 72) (p := 34) (j := 2) (r := 42) hC f_La_16 rfl rfl rfl (by omega) (hu _ _ (by decide)) d_La_dismiss_69 rfl ?_
        refine x_iload_n (q := 73) hC d_La_dismiss_72 rfl rfl rfl ?_
        refine x_aald (q := 74) (p := 42) (r := 43 + l) hC l (mr_42 _ (by omega)) rfl (by omega) rfl (by omega) (by decide) d_La_dismiss_73 rfl ?_
        refine x_iload_n (q := 75) hC d_La_dismiss_74 rfl rfl rfl ?_
        refine x_iald (q := 76) (p := 43 + l) hC g (sh_43 _ (by omega)) (by omega) rfl (by omega) (by decide) d_La_dismiss_75 rfl ?_
        refine x_aload_n (q := 77) hC d_La_dismiss_76 rfl rfl rfl ?_
        refine x_getr (q := 80) (p := 34) (j := 0) (r := 2) hC f_La_26 rfl rfl rfl (by omega) (hu _ _ (by decide)) d_La_dismiss_77 rfl ?_
        refine x_callV (q := 83) (p := 2) (A := []) (S := [.int ((mx_up m1 (50 + l) g (-1)) (43 + l) g), .int (nI g), .ref (43 + l)]) (c1 := 0) (s1 := 0) hC (c_Ck_time (by omega) hu) s_La_dismiss_40 rfl (by omega) rfl rfl rfl (Nat.le_of_ble_eq_true rfl) rfl rfl (by decide) (by decide) d_La_dismiss_80 rfl (fun r τ hP => ?_)
        obtain ⟨rfl, rfl⟩ := hP
        show mx_G Γ κ _ _ 83 [(0, .ref 34), (1, .int (nI l)), (2, .int (nI h)), (3, .int (nI g)), (4, .int x)] [.int ((mx_up m1 (50 + l) g (-1)) 2 0), .int ((mx_up m1 (50 + l) g (-1)) (43 + l) g), .int (nI g), .ref (43 + l)] (nx, u, mx_up m1 (50 + l) g (-1)) 0 0
        refine x_iconst (q := 84) (v := nI 2) hC d_La_dismiss_83 (by decide) rfl ?_
        refine x_iadd (q := 85) (z := ((mx_up m1 (50 + l) g (-1)) 2 0) + (nI 2)) hC d_La_dismiss_84 rfl rfl ?_
        refine x_callS (q := 88) (A := [.int ((mx_up m1 (50 + l) g (-1)) (43 + l) g), .int (((mx_up m1 (50 + l) g (-1)) 2 0) + (nI 2))]) (S := [.int (nI g), .ref (43 + l)]) (c1 := 0) (s1 := 0) hC (c_JM_min) s_La_dismiss_60 rfl rfl rfl (Nat.le_of_ble_eq_true rfl) rfl rfl (by decide) (by decide) d_La_dismiss_85 rfl (fun r τ hP => ?_)
        obtain ⟨rfl, rfl⟩ := hP
        show mx_G Γ κ _ _ 88 [(0, .ref 34), (1, .int (nI l)), (2, .int (nI h)), (3, .int (nI g)), (4, .int x)] [.int (pm_n ((mx_up m1 (50 + l) g (-1)) (43 + l) g) (((mx_up m1 (50 + l) g (-1)) 2 0) + (nI 2))), .int (nI g), .ref (43 + l)] (nx, u, mx_up m1 (50 + l) g (-1)) 0 0
        refine x_iast (q := 89) (p := 43 + l) hC g (sh_43 _ (by omega)) (by omega) (by omega) rfl (by omega) (by decide) d_La_dismiss_88 rfl ?_
        refine mx_nr (fun m3 e4 => ?_)
        subst e4
        subst e2
        exact x_vret hC rfl ⟨rfl, by first | exact pr (it_t (Or.inl h18) rfl) | exact pr (it_t (Or.inr h30) rfl) | exact pr (it_f (fun q => q.elim h18 (fun z => z h30)) (it_t h40 rfl)) | exact pr (it_f (fun q => q.elim h18 (fun z => z h30)) (it_f h40 rfl))⟩ (by decide) (by decide) d_La_dismiss_89
      · have h40 := bz_1 h40
        refine x_aload_n (q := 44) hC d_La_dismiss_43 rfl rfl rfl ?_
        refine x_iload_n (q := 45) hC d_La_dismiss_44 rfl rfl rfl ?_
        refine x_iload_n (q := 46) hC d_La_dismiss_45 rfl rfl rfl ?_
        refine x_callV (q := 49) (p := 34) (A := [.int (nI l), .int (nI g)]) (S := []) (c1 := 0) (s1 := 0) hC (c_La_reportLowest (l := l) (g := g) (by omega) hu (by omega) (by omega) ) s_La_dismiss_56 rfl (by omega) rfl rfl rfl (Nat.le_of_ble_eq_true rfl) rfl rfl (by decide) (by decide) d_La_dismiss_46 rfl (fun r τ hP => ?_)
        obtain ⟨rfl, rfl⟩ := hP
        show mx_G Γ κ _ _ 49 [(0, .ref 34), (1, .int (nI l)), (2, .int (nI h)), (3, .int (nI g)), (4, .int x)] [] (nx, u, La_rl l g m1) 0 0
        refine x_goto (tgt := 89) hC d_La_dismiss_49 (by decide) ?_
        subst e2
        exact x_vret hC rfl ⟨rfl, by first | exact pr (it_t (Or.inl h18) rfl) | exact pr (it_t (Or.inr h30) rfl) | exact pr (it_f (fun q => q.elim h18 (fun z => z h30)) (it_t h40 rfl)) | exact pr (it_f (fun q => q.elim h18 (fun z => z h30)) (it_f h40 rfl))⟩ (by decide) (by decide) d_La_dismiss_89
    · skip
      subst e2
      exact x_vret hC rfl ⟨rfl, by first | exact pr (it_t (Or.inl h18) rfl) | exact pr (it_t (Or.inr h30) rfl) | exact pr (it_f (fun q => q.elim h18 (fun z => z h30)) (it_t h40 rfl)) | exact pr (it_f (fun q => q.elim h18 (fun z => z h30)) (it_f h40 rfl))⟩ (by decide) (by decide) d_La_dismiss_33
set_option maxRecDepth 100000 in
set_option maxHeartbeats 400000 in
theorem c_La_setLosses {Γ : mx_X} {lau : Launch} {nx : Nat} {u : Nat → Nat → Bool} {mi : mx_Mm} {l : Nat} {c : Int32} (hnx : 57 ≤ nx) (hu : ∀ p k, 2 ≤ p → u p k = true) (hl : l < 6) : mx_C Γ lau M_La_setLosses [.ref 34, .int (nI l), .int c] (nx, u, mi) (fun ρ τ => ρ = none ∧ τ = (nx, u, mx_up mi 56 l c)) := by
  refine mx_C.intro (by decide) rfl (Nat.le_of_ble_eq_true rfl) (fun κ _ hC => ?_)
  show mx_G Γ κ _ _ 0 [(0, .ref 34), (1, .int (nI l)), (2, .int c)] [] (nx, u, mi) 0 0
  refine x_aload_n (q := 1) hC d_La_setLosses_0 rfl rfl rfl ?_
  refine x_getr (q := 4) (p := 34) (j := 4) (r := 56) hC f_La_22 rfl rfl rfl (by omega) (hu _ _ (by decide)) d_La_setLosses_1 rfl ?_
  refine x_iload_n (q := 5) hC d_La_setLosses_4 rfl rfl rfl ?_
  refine x_iload_n (q := 6) hC d_La_setLosses_5 rfl rfl rfl ?_
  refine x_iast (q := 7) (p := 56) hC l rfl (by omega) (by omega) rfl (by omega) (by decide) d_La_setLosses_6 rfl ?_
  exact x_vret hC rfl ⟨rfl, rfl⟩ (by decide) (by decide) d_La_setLosses_7
set_option maxRecDepth 100000 in
set_option maxHeartbeats 400000 in
theorem c_La_hearsOrLoses {Γ : mx_X} {lau : Launch} {nx : Nat} {u : Nat → Nat → Bool} {mi : mx_Mm} {l : Nat} (hnx : 57 ≤ nx) (hu : ∀ p k, 2 ≤ p → u p k = true) (hl : l < 6) : mx_C Γ lau M_La_hearsOrLoses [.ref 34, .int (nI l)] (nx, u, mi) (fun ρ τ => ρ = some (.int (bz (mi 56 l = 0))) ∧ τ = (nx, u, La_hear l mi)) := by
  refine mx_C.intro (by decide) rfl (Nat.le_of_ble_eq_true rfl) (fun κ _ hC => ?_)
  show mx_G Γ κ _ _ 0 [(0, .ref 34), (1, .int (nI l))] [] (nx, u, mi) 0 0
  refine x_aload_n (q := 1) hC d_La_hearsOrLoses_0 rfl rfl rfl ?_
  refine x_getr (q := 4) (p := 34) (j := 4) (r := 56) hC f_La_22 rfl rfl rfl (by omega) (hu _ _ (by decide)) d_La_hearsOrLoses_1 rfl ?_
  refine x_iload_n (q := 5) hC d_La_hearsOrLoses_4 rfl rfl rfl ?_
  refine x_iald (q := 6) (p := 56) hC l rfl (by omega) rfl (by omega) (by decide) d_La_hearsOrLoses_5 rfl ?_
  refine x_if_ne (tgt := 11) (q := 9) hC d_La_hearsOrLoses_6 (by decide) rfl (fun h6 => ?_) (fun h6 => ?_)
  · skip
    refine x_aload_n (q := 12) hC d_La_hearsOrLoses_11 rfl rfl rfl ?_
    refine x_getr (q := 15) (p := 34) (j := 4) (r := 56) hC f_La_22 rfl rfl rfl (by omega) (hu _ _ (by decide)) d_La_hearsOrLoses_12 rfl ?_
    refine x_iload_n (q := 16) hC d_La_hearsOrLoses_15 rfl rfl rfl ?_
    refine x_dup2 (q := 17) hC d_La_hearsOrLoses_16 rfl rfl rfl ?_
    refine x_iald (q := 18) (p := 56) hC l rfl (by omega) rfl (by omega) (by decide) d_La_hearsOrLoses_17 rfl ?_
    refine x_iconst (q := 19) (v := nI 1) hC d_La_hearsOrLoses_18 (by decide) rfl ?_
    refine x_isub (q := 20) (z := (mi 56 l) - (nI 1)) hC d_La_hearsOrLoses_19 rfl rfl ?_
    refine x_iast (q := 21) (p := 56) hC l rfl (by omega) (by omega) rfl (by omega) (by decide) d_La_hearsOrLoses_20 rfl ?_
    refine x_iconst (q := 22) (v := nI 0) hC d_La_hearsOrLoses_21 (by decide) rfl ?_
    exact x_iret hC rfl rfl ⟨bz_f (h6), by first | exact pr (it_t h6 rfl) | exact pr (it_f h6 rfl)⟩ (by decide) (by decide) d_La_hearsOrLoses_22
  · skip
    refine x_iconst (q := 10) (v := nI 1) hC d_La_hearsOrLoses_9 (by decide) rfl ?_
    exact x_iret hC rfl rfl ⟨bz_t (h6), by first | exact pr (it_t h6 rfl) | exact pr (it_f h6 rfl)⟩ (by decide) (by decide) d_La_hearsOrLoses_10
