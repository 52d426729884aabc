set_option maxRecDepth 100000 in
set_option maxHeartbeats 400000 in
theorem c_Sm_isAlive {Γ : mx_X} {lau : Launch} {nx : Nat} {u : Nat → Nat → Bool} {mi : mx_Mm} {s n : Nat} (hnx : 79 ≤ nx) (hu : ∀ p k, 2 ≤ p → u p k = true) (hs : s < 18) (hn : n < 6) : mx_C Γ lau M_Sm_isAlive [.ref 57, .int (nI s), .int (nI n)] (nx, u, mi) (fun ρ τ => ρ = some (.int (bz (mi 2 0 < mi (59 + s) n))) ∧ τ = (nx, u, mi)) := by
  refine mx_C.intro (by decide) rfl (Nat.le_of_ble_eq_true rfl) (fun κ _ hC => ?_)
  show mx_G Γ κ _ _ 0 [(0, .ref 57), (1, .int (nI s)), (2, .int (nI n))] [] (nx, u, mi) 0 0
  refine x_aload_n (q := 1) hC d_Sm_isAlive_0 rfl rfl rfl ?_
  refine x_getr (q := 4) (p := 57) (j := 0) (r := 2) hC f_Sm_23 rfl rfl rfl (by omega) (hu _ _ (by decide)) d_Sm_isAlive_1 rfl ?_
  refine x_callV (q := 7) (p := 2) (A := []) (S := []) (c1 := 0) (s1 := 0) hC (c_Ck_time (by omega) hu) s_Sm_isAlive_27 rfl (by omega) rfl rfl rfl (Nat.le_of_ble_eq_true rfl) rfl rfl (by decide) (by decide) d_Sm_isAlive_4 rfl (fun r τ hP => ?_)
  obtain ⟨rfl, rfl⟩ := hP
  show mx_G Γ κ _ _ 7 [(0, .ref 57), (1, .int (nI s)), (2, .int (nI n))] [.int (mi 2 0)] (nx, u, mi) 0 0
  refine x_aload_n (q := 8) hC d_Sm_isAlive_7 rfl rfl rfl ?_
  refine x_getr (q := 11) (p := 57) (j := 1) (r := 58) hC f_Sm_11 rfl rfl rfl (by omega) (hu _ _ (by decide)) d_Sm_isAlive_8 rfl ?_
  refine x_iload_n (q := 12) hC d_Sm_isAlive_11 rfl rfl rfl ?_
  refine x_aald (q := 13) (p := 58) (r := 59 + s) hC s (mr_58 _ (by omega)) rfl (by omega) rfl (by omega) (by decide) d_Sm_isAlive_12 rfl ?_
  refine x_iload_n (q := 14) hC d_Sm_isAlive_13 rfl rfl rfl ?_
  refine x_iald (q := 15) (p := 59 + s) hC n (sh_59 _ (by omega)) (by omega) rfl (by omega) (by decide) d_Sm_isAlive_14 rfl ?_
  refine x_icmp_ge (tgt := 22) (q := 18) hC d_Sm_isAlive_15 (by decide) rfl (fun h15 => ?_) (fun h15 => ?_)
  · skip
    refine x_iconst (q := 23) (v := nI 0) hC d_Sm_isAlive_22 (by decide) rfl ?_
    exact x_iret hC rfl rfl ⟨bz_f (Int32.not_lt.mpr h15), rfl⟩ (by decide) (by decide) d_Sm_isAlive_23
  · skip
    refine x_iconst (q := 19) (v := nI 1) hC d_Sm_isAlive_18 (by decide) rfl ?_
    refine x_goto (tgt := 23) hC d_Sm_isAlive_19 (by decide) ?_
    exact x_iret hC rfl rfl ⟨bz_t (Int32.not_le.mp h15), rfl⟩ (by decide) (by decide) d_Sm_isAlive_23
set_option maxRecDepth 100000 in
set_option maxHeartbeats 400000 in
theorem c_Sm_isSwitched {Γ : mx_X} {lau : Launch} {nx : Nat} {u : Nat → Nat → Bool} {mi : mx_Mm} {s n : Nat} (hnx : 79 ≤ nx) (hu : ∀ p k, 2 ≤ p → u p k = true) (hs : s < 18) (hn : n < 6) : mx_C Γ lau M_Sm_isSwitched [.ref 57, .int (nI s), .int (nI n)] (nx, u, mi) (fun ρ τ => ρ = some (.int (bz (hold (mi 77 s) n))) ∧ τ = (nx, u, mi)) := by
  refine mx_C.intro (by decide) rfl (Nat.le_of_ble_eq_true rfl) (fun κ _ hC => ?_)
  show mx_G Γ κ _ _ 0 [(0, .ref 57), (1, .int (nI s)), (2, .int (nI n))] [] (nx, u, mi) 0 0
  refine x_aload_n (q := 1) hC d_Sm_isSwitched_0 rfl rfl rfl ?_
  refine x_getr (q := 4) (p := 57) (j := 2) (r := 77) hC f_Sm_16 rfl rfl rfl (by omega) (hu _ _ (by decide)) d_Sm_isSwitched_1 rfl ?_
  refine x_iload_n (q := 5) hC d_Sm_isSwitched_4 rfl rfl rfl ?_
  refine x_iald (q := 6) (p := 77) hC s rfl (by omega) rfl (by omega) (by decide) d_Sm_isSwitched_5 rfl ?_
  refine x_iload_n (q := 7) hC d_Sm_isSwitched_6 rfl rfl rfl ?_
  refine x_callSN (q := 10) (A := [.int (mi 77 s), .int (nI n)]) (S := []) (c1 := 0) (s1 := 0) hC (c_MT_holds (n := n)) s_Sm_isSwitched_33 rfl rfl rfl (Nat.le_of_ble_eq_true rfl) rfl rfl (by decide) (by decide) d_Sm_isSwitched_7 rfl (fun r τ hP => ?_)
  obtain ⟨rfl, rfl⟩ := hP
  show mx_G Γ κ _ _ 10 [(0, .ref 57), (1, .int (nI s)), (2, .int (nI n))] [.int (bz (hold (mi 77 s) n))] (nx, u, mi) 0 0
  exact x_iret hC rfl bz_n ⟨rfl, rfl⟩ (by decide) (by decide) d_Sm_isSwitched_10
set_option maxRecDepth 100000 in
set_option maxHeartbeats 400000 in
theorem c_Sm_isQuiet {Γ : mx_X} {lau : Launch} {nx : Nat} {u : Nat → Nat → Bool} {mi : mx_Mm} {s : Nat} (hnx : 79 ≤ nx) (hu : ∀ p k, 2 ≤ p → u p k = true) (hs : s < 18) : mx_C Γ lau M_Sm_isQuiet [.ref 57, .int (nI s)] (nx, u, mi) (fun ρ τ => ρ = some (.int (bz (mi 2 0 < mi 78 s))) ∧ τ = (nx, u, mi)) := by
  refine mx_C.intro (by decide) rfl (Nat.le_of_ble_eq_true rfl) (fun κ _ hC => ?_)
  show mx_G Γ κ _ _ 0 [(0, .ref 57), (1, .int (nI s))] [] (nx, u, mi) 0 0
  refine x_aload_n (q := 1) hC d_Sm_isQuiet_0 rfl rfl rfl ?_
  refine x_getr (q := 4) (p := 57) (j := 3) (r := 78) hC f_Sm_20 rfl rfl rfl (by omega) (hu _ _ (by decide)) d_Sm_isQuiet_1 rfl ?_
  refine x_iload_n (q := 5) hC d_Sm_isQuiet_4 rfl rfl rfl ?_
  refine x_iald (q := 6) (p := 78) hC s rfl (by omega) rfl (by omega) (by decide) d_Sm_isQuiet_5 rfl ?_
  refine x_aload_n (q := 7) hC d_Sm_isQuiet_6 rfl rfl rfl ?_
  refine x_getr (q := 10) (p := 57) (j := 0) (r := 2) hC f_Sm_23 rfl rfl rfl (by omega) (hu _ _ (by decide)) d_Sm_isQuiet_7 rfl ?_
  refine x_callV (q := 13) (p := 2) (A := []) (S := [.int (mi 78 s)]) (c1 := 0) (s1 := 0) hC (c_Ck_time (by omega) hu) s_Sm_isQuiet_27 rfl (by omega) rfl rfl rfl (Nat.le_of_ble_eq_true rfl) rfl rfl (by decide) (by decide) d_Sm_isQuiet_10 rfl (fun r τ hP => ?_)
  obtain ⟨rfl, rfl⟩ := hP
  show mx_G Γ κ _ _ 13 [(0, .ref 57), (1, .int (nI s))] [.int (mi 2 0), .int (mi 78 s)] (nx, u, mi) 0 0
  refine x_icmp_le (tgt := 20) (q := 16) hC d_Sm_isQuiet_13 (by decide) rfl (fun h13 => ?_) (fun h13 => ?_)
  · skip
    refine x_iconst (q := 21) (v := nI 0) hC d_Sm_isQuiet_20 (by decide) rfl ?_
    exact x_iret hC rfl rfl ⟨bz_f (Int32.not_lt.mpr h13), rfl⟩ (by decide) (by decide) d_Sm_isQuiet_21
  · skip
    refine x_iconst (q := 17) (v := nI 1) hC d_Sm_isQuiet_16 (by decide) rfl ?_
    refine x_goto (tgt := 21) hC d_Sm_isQuiet_17 (by decide) ?_
    exact x_iret hC rfl rfl ⟨bz_t (Int32.not_le.mp h13), rfl⟩ (by decide) (by decide) d_Sm_isQuiet_21
set_option maxRecDepth 100000 in
set_option maxHeartbeats 400000 in
theorem c_Sm_renew {Γ : mx_X} {lau : Launch} {nx : Nat} {u : Nat → Nat → Bool} {mi : mx_Mm} {s n : Nat} (hnx : 79 ≤ nx) (hu : ∀ p k, 2 ≤ p → u p k = true) (hs : s < 18) (hn : n < 6) : mx_C Γ lau M_Sm_renew [.ref 57, .int (nI s), .int (nI n)] (nx, u, mi) (fun ρ τ => ρ = none ∧ τ = (nx, u, Sm_renew s n mi)) := by
  refine mx_C.intro (by decide) rfl (Nat.le_of_ble_eq_true rfl) (fun κ _ hC => ?_)
  show mx_G Γ κ _ _ 0 [(0, .ref 57), (1, .int (nI s)), (2, .int (nI n))] [] (nx, u, mi) 0 0
  refine x_aload_n (q := 1) hC d_Sm_renew_0 rfl rfl rfl ?_
  refine x_getr (q := 4) (p := 57) (j := 1) (r := 58) hC f_Sm_11 rfl rfl rfl (by omega) (hu _ _ (by decide)) d_Sm_renew_1 rfl ?_
  refine x_iload_n (q := 5) hC d_Sm_renew_4 rfl rfl rfl ?_
  refine x_aald (q := 6) (p := 58) (r := 59 + s) hC s (mr_58 _ (by omega)) rfl (by omega) rfl (by omega) (by decide) d_Sm_renew_5 rfl ?_
  refine x_iload_n (q := 7) hC d_Sm_renew_6 rfl rfl rfl ?_
  refine x_aload_n (q := 8) hC d_Sm_renew_7 rfl rfl rfl ?_
  refine x_getr (q := 11) (p := 57) (j := 0) (r := 2) hC f_Sm_23 rfl rfl rfl (by omega) (hu _ _ (by decide)) d_Sm_renew_8 rfl ?_
  refine x_callV (q := 14) (p := 2) (A := []) (S := [.int (nI n), .ref (59 + s)]) (c1 := 0) (s1 := 0) hC (c_Ck_time (by omega) hu) s_Sm_renew_27 rfl (by omega) rfl rfl rfl (Nat.le_of_ble_eq_true rfl) rfl rfl (by decide) (by decide) d_Sm_renew_11 rfl (fun r τ hP => ?_)
  obtain ⟨rfl, rfl⟩ := hP
  show mx_G Γ κ _ _ 14 [(0, .ref 57), (1, .int (nI s)), (2, .int (nI n))] [.int (mi 2 0), .int (nI n), .ref (59 + s)] (nx, u, mi) 0 0
  refine x_bipush (q := 16) (v := nI 8) hC d_Sm_renew_14 (by decide) rfl ?_
  refine x_iadd (q := 17) (z := (mi 2 0) + (nI 8)) hC d_Sm_renew_16 rfl rfl ?_
  refine x_iast (q := 18) (p := 59 + s) hC n (sh_59 _ (by omega)) (by omega) (by omega) rfl (by omega) (by decide) d_Sm_renew_17 rfl ?_
  exact x_vret hC rfl ⟨rfl, rfl⟩ (by decide) (by decide) d_Sm_renew_18
set_option maxRecDepth 100000 in
set_option maxHeartbeats 400000 in
theorem c_Sm_switchOver {Γ : mx_X} {lau : Launch} {nx : Nat} {u : Nat → Nat → Bool} {mi : mx_Mm} {s n : Nat} (hnx : 79 ≤ nx) (hu : ∀ p k, 2 ≤ p → u p k = true) (hs : s < 18) (hn : n < 6) : mx_C Γ lau M_Sm_switchOver [.ref 57, .int (nI s), .int (nI n)] (nx, u, mi) (fun ρ τ => ρ = none ∧ τ = (nx, u, Sm_over s n mi)) := by
  refine mx_C.intro (by decide) rfl (Nat.le_of_ble_eq_true rfl) (fun κ _ hC => ?_)
  show mx_G Γ κ _ _ 0 [(0, .ref 57), (1, .int (nI s)), (2, .int (nI n))] [] (nx, u, mi) 0 0
  refine x_aload_n (q := 1) hC d_Sm_switchOver_0 rfl rfl rfl ?_
  refine x_iload_n (q := 2) hC d_Sm_switchOver_1 rfl rfl rfl ?_
  refine x_iload_n (q := 3) hC d_Sm_switchOver_2 rfl rfl rfl ?_
  refine x_callV (q := 6) (p := 57) (A := [.int (nI s), .int (nI n)]) (S := []) (c1 := 0) (s1 := 0) hC (c_Sm_renew (s := s) (n := n) (by omega) hu (by omega) (by omega) ) s_Sm_switchOver_37 rfl (by omega) rfl rfl rfl (Nat.le_of_ble_eq_true rfl) rfl rfl (by decide) (by decide) d_Sm_switchOver_3 rfl (fun r τ hP => ?_)
  obtain ⟨rfl, rfl⟩ := hP
  show mx_G Γ κ _ _ 6 [(0, .ref 57), (1, .int (nI s)), (2, .int (nI n))] [] (nx, u, Sm_renew s n mi) 0 0
  refine x_aload_n (q := 7) hC d_Sm_switchOver_6 rfl rfl rfl ?_
  refine x_getr (q := 10) (p := 57) (j := 2) (r := 77) hC f_Sm_16 rfl rfl rfl (by omega) (hu _ _ (by decide)) d_Sm_switchOver_7 rfl ?_
  refine x_iload_n (q := 11) hC d_Sm_switchOver_10 rfl rfl rfl ?_
  refine x_dup2 (q := 12) hC d_Sm_switchOver_11 rfl rfl rfl ?_
  refine x_iald (q := 13) (p := 77) hC s rfl (by omega) rfl (by omega) (by decide) d_Sm_switchOver_12 rfl ?_
  refine x_iconst (q := 14) (v := nI 1) hC d_Sm_switchOver_13 (by decide) rfl ?_
  refine x_iload_n (q := 15) hC d_Sm_switchOver_14 rfl rfl rfl ?_
  refine x_ishl (q := 16) (z := (nI 1) <<< ((nI n) &&& 31)) hC d_Sm_switchOver_15 rfl rfl ?_
  refine x_ior (q := 17) (z := ((Sm_renew s n mi) 77 s) ||| ((nI 1) <<< ((nI n) &&& 31))) hC d_Sm_switchOver_16 rfl rfl ?_
  refine x_iast (q := 18) (p := 77) hC s rfl (by omega) (by omega) rfl (by omega) (by decide) d_Sm_switchOver_17 rfl ?_
  refine mx_nr (fun m1 e2 => ?_)
  subst e2
  exact x_vret hC rfl ⟨rfl, rfl⟩ (by decide) (by decide) d_Sm_switchOver_18
set_option maxRecDepth 100000 in
set_option maxHeartbeats 400000 in
theorem c_Sm_silence {Γ : mx_X} {lau : Launch} {nx : Nat} {u : Nat → Nat → Bool} {mi : mx_Mm} {s : Nat} (hnx : 79 ≤ nx) (hu : ∀ p k, 2 ≤ p → u p k = true) (hs : s < 18) : mx_C Γ lau M_Sm_silence [.ref 57, .int (nI s)] (nx, u, mi) (fun ρ τ => ρ = none ∧ τ = (nx, u, mx_up mi 78 s (mi 2 0 + nI 6))) := by
  refine mx_C.intro (by decide) rfl (Nat.le_of_ble_eq_true rfl) (fun κ _ hC => ?_)
  show mx_G Γ κ _ _ 0 [(0, .ref 57), (1, .int (nI s))] [] (nx, u, mi) 0 0
  refine x_aload_n (q := 1) hC d_Sm_silence_0 rfl rfl rfl ?_
  refine x_getr (q := 4) (p := 57) (j := 3) (r := 78) hC f_Sm_20 rfl rfl rfl (by omega) (hu _ _ (by decide)) d_Sm_silence_1 rfl ?_
  refine x_iload_n (q := 5) hC d_Sm_silence_4 rfl rfl rfl ?_
  refine x_aload_n (q := 6) hC d_Sm_silence_5 rfl rfl rfl ?_
  refine x_getr (q := 9) (p := 57) (j := 0) (r := 2) hC f_Sm_23 rfl rfl rfl (by omega) (hu _ _ (by decide)) d_Sm_silence_6 rfl ?_
  refine x_callV (q := 12) (p := 2) (A := []) (S := [.int (nI s), .ref 78]) (c1 := 0) (s1 := 0) hC (c_Ck_time (by omega) hu) s_Sm_silence_27 rfl (by omega) rfl rfl rfl (Nat.le_of_ble_eq_true rfl) rfl rfl (by decide) (by decide) d_Sm_silence_9 rfl (fun r τ hP => ?_)
  obtain ⟨rfl, rfl⟩ := hP
  show mx_G Γ κ _ _ 12 [(0, .ref 57), (1, .int (nI s))] [.int (mi 2 0), .int (nI s), .ref 78] (nx, u, mi) 0 0
  refine x_bipush (q := 14) (v := nI 6) hC d_Sm_silence_12 (by decide) rfl ?_
  refine x_iadd (q := 15) (z := (mi 2 0) + (nI 6)) hC d_Sm_silence_14 rfl rfl ?_
  refine x_iast (q := 16) (p := 78) hC s rfl (by omega) (by omega) rfl (by omega) (by decide) d_Sm_silence_15 rfl ?_
  exact x_vret hC rfl ⟨rfl, rfl⟩ (by decide) (by decide) d_Sm_silence_16
set_option maxRecDepth 100000 in
set_option maxHeartbeats 400000 in
theorem c_Sm_endStale {Γ : mx_X} {lau : Launch} {nx : Nat} {u : Nat → Nat → Bool} {mi : mx_Mm}  (hnx : 79 ≤ nx) (hu : ∀ p k, 2 ≤ p → u p k = true)  : mx_C Γ lau M_Sm_endStale [.ref 57] (nx, u, mi) (fun ρ τ => ρ = none ∧ τ = (nx, u, Sm_es mi)) := by
  refine mx_C.intro (by decide) rfl (Nat.le_of_ble_eq_true rfl) (fun κ _ hC => ?_)
  show mx_G Γ κ _ _ 0 [(0, .ref 57)] [] (nx, u, mi) 0 0
  refine x_iconst (q := 1) (v := nI 0) hC d_Sm_endStale_0 (by decide) rfl ?_
  refine x_istore_n (q := 2) (L1 := [(1, .int (nI 0)), (0, .ref 57)]) hC d_Sm_endStale_1 rfl (by decide) rfl rfl ?_
  refine x_sub (L1 := [(1, .int (nI 0)), (0, .ref 57)]) [0, 1] rfl ?_
  refine mx_loop (N := 18) (Hd := fun s m1 => mx_G Γ κ _ _ 2 [(1, .int (nI s)), (0, .ref 57)] [] (nx, u, m1) 0 0) (fun s => mx_lp 6 (Sm_es1 s)) (fun _ _ => True) trivial ?_ ?_ ?_
  · exact fun _ _ _ _ => trivial
  · intro s m1 hl2 hI3 hN4
    refine x_iload_n (q := 3) hC d_Sm_endStale_2 rfl rfl rfl ?_
    refine x_bipush (q := 5) (v := nI 18) hC d_Sm_endStale_3 (by decide) rfl ?_
    refine x_icmp_ge (tgt := 51) (q := 8) hC d_Sm_endStale_5 (by decide) rfl (fun h => absurd h (nI_ge hl2 (by decide))) (fun _ => ?_)
    refine x_iconst (q := 9) (v := nI 0) hC d_Sm_endStale_8 (by decide) rfl ?_
    refine x_istore_n (q := 10) (L1 := [(2, .int (nI 0)), (1, .int (nI s)), (0, .ref 57)]) hC d_Sm_endStale_9 rfl (by decide) rfl rfl ?_
    refine x_sub (L1 := [(2, .int (nI 0)), (1, .int (nI s)), (0, .ref 57)]) [0, 1, 2] rfl ?_
    refine mx_loop (N := 6) (Hd := fun n m5 => mx_G Γ κ _ _ 10 [(2, .int (nI n)), (1, .int (nI s)), (0, .ref 57)] [] (nx, u, m5) 0 0) (Sm_es1 s) (fun _ _ => True) trivial ?_ ?_ ?_
    · exact fun _ _ _ _ => trivial
    · intro n m5 hl6 hI7 hN8
      refine x_iload_n (q := 11) hC d_Sm_endStale_10 rfl rfl rfl ?_
      refine x_bipush (q := 13) (v := nI 6) hC d_Sm_endStale_11 (by decide) rfl ?_
      refine x_icmp_ge (tgt := 45) (q := 16) hC d_Sm_endStale_13 (by decide) rfl (fun h => absurd h (nI_ge hl6 (by decide))) (fun _ => ?_)
      refine x_aload_n (q := 17) hC d_Sm_endStale_16 rfl rfl rfl ?_
      refine x_iload_n (q := 18) hC d_Sm_endStale_17 rfl rfl rfl ?_
      refine x_iload_n (q := 19) hC d_Sm_endStale_18 rfl rfl rfl ?_
      refine x_callV (q := 22) (p := 57) (A := [.int (nI s), .int (nI n)]) (S := []) (c1 := 0) (s1 := 0) hC (c_Sm_isAlive (s := s) (n := n) (by omega) hu (by omega) (by omega) ) s_Sm_endStale_41 rfl (by omega) rfl rfl rfl (Nat.le_of_ble_eq_true rfl) rfl rfl (by decide) (by decide) d_Sm_endStale_19 rfl (fun r τ hP => ?_)
      obtain ⟨rfl, rfl⟩ := hP
      show mx_G Γ κ _ _ 22 [(2, .int (nI n)), (1, .int (nI s)), (0, .ref 57)] [.int (bz (m5 2 0 < m5 (59 + s) n))] (nx, u, m5) 0 0
      refine x_if_ne (tgt := 39) (q := 25) hC d_Sm_endStale_22 (by decide) rfl (fun h22 => ?_) (fun h22 => ?_)
      · have h22 := bz_1 h22
        refine x_iinc (q := 42) (y := nI (n + 1)) (L1 := [(2, .int (nI (n + 1))), (1, .int (nI s)), (0, .ref 57)]) hC d_Sm_endStale_39 rfl (mx_inc n) (by decide) rfl rfl ?_
        refine x_goto (tgt := 10) hC d_Sm_endStale_42 (by decide) ?_
        exact x_close hN8 [0, 1, 2] rfl (by unfold Sm_es1; first | rw [if_pos h22] | rw [if_neg h22])
      · have h22 := bz_0 h22
        refine x_aload_n (q := 26) hC d_Sm_endStale_25 rfl rfl rfl ?_
        refine x_getr (q := 29) (p := 57) (j := 2) (r := 77) hC f_Sm_16 rfl rfl rfl (by omega) (hu _ _ (by decide)) d_Sm_endStale_26 rfl ?_
        refine x_iload_n (q := 30) hC d_Sm_endStale_29 rfl rfl rfl ?_
        refine x_dup2 (q := 31) hC d_Sm_endStale_30 rfl rfl rfl ?_
        refine x_iald (q := 32) (p := 77) hC s rfl (by omega) rfl (by omega) (by decide) d_Sm_endStale_31 rfl ?_
        refine x_iconst (q := 33) (v := nI 1) hC d_Sm_endStale_32 (by decide) rfl ?_
        refine x_iload_n (q := 34) hC d_Sm_endStale_33 rfl rfl rfl ?_
        refine x_ishl (q := 35) (z := (nI 1) <<< ((nI n) &&& 31)) hC d_Sm_endStale_34 rfl rfl ?_
        refine x_iconst (q := 36) (v := (-1)) hC d_Sm_endStale_35 (by decide) rfl ?_
        refine x_ixor (q := 37) (z := ((nI 1) <<< ((nI n) &&& 31)) ^^^ (-1)) hC d_Sm_endStale_36 rfl rfl ?_
        refine x_iand (q := 38) (z := (m5 77 s) &&& (((nI 1) <<< ((nI n) &&& 31)) ^^^ (-1))) hC d_Sm_endStale_37 rfl rfl ?_
        refine x_iast (q := 39) (p := 77) hC s rfl (by omega) (by omega) rfl (by omega) (by decide) d_Sm_endStale_38 rfl ?_
        refine mx_nr (fun m9 e10 => ?_)
        refine x_iinc (q := 42) (y := nI (n + 1)) (L1 := [(2, .int (nI (n + 1))), (1, .int (nI s)), (0, .ref 57)]) hC d_Sm_endStale_39 rfl (mx_inc n) (by decide) rfl rfl ?_
        refine x_goto (tgt := 10) hC d_Sm_endStale_42 (by decide) ?_
        subst e10
        exact x_close hN8 [0, 1, 2] rfl (by unfold Sm_es1; first | rw [if_pos h22] | rw [if_neg h22])
    · intro hx11
      refine mx_nr (fun m12 e13 => ?_)
      try rw [e13] at hx11
      refine x_iload_n (q := 11) hC d_Sm_endStale_10 rfl rfl rfl ?_
      refine x_bipush (q := 13) (v := nI 6) hC d_Sm_endStale_11 (by decide) rfl ?_
      refine x_icmp_ge (tgt := 45) (q := 16) hC d_Sm_endStale_13 (by decide) rfl (fun _ => ?_) (fun h => absurd (nI_le (Nat.le_refl _) (by decide)) h)
      refine x_iinc (q := 48) (y := nI (s + 1)) (L1 := [(1, .int (nI (s + 1))), (2, .int (nI 6)), (0, .ref 57)]) hC d_Sm_endStale_45 rfl (mx_inc s) (by decide) rfl rfl ?_
      refine x_goto (tgt := 2) hC d_Sm_endStale_48 (by decide) ?_
      subst e13
      exact x_close hN4 [0, 2] rfl (by rfl)
  · intro hx14
    refine mx_nr (fun m15 e16 => ?_)
    try rw [e16] at hx14
    refine x_iload_n (q := 3) hC d_Sm_endStale_2 rfl rfl rfl ?_
    refine x_bipush (q := 5) (v := nI 18) hC d_Sm_endStale_3 (by decide) rfl ?_
    refine x_icmp_ge (tgt := 51) (q := 8) hC d_Sm_endStale_5 (by decide) rfl (fun _ => ?_) (fun h => absurd (nI_le (Nat.le_refl _) (by decide)) h)
    subst e16
    exact x_vret hC rfl ⟨rfl, rfl⟩ (by decide) (by decide) d_Sm_endStale_51
set_option maxRecDepth 100000 in
set_option maxHeartbeats 400000 in
theorem c_Sm_isAliveSomewhere {Γ : mx_X} {lau : Launch} {nx : Nat} {u : Nat → Nat → Bool} {mi : mx_Mm} {s : Nat} (hnx : 79 ≤ nx) (hu : ∀ p k, 2 ≤ p → u p k = true) (hs : s < 18) : mx_C Γ lau M_Sm_isAliveSomewhere [.ref 57, .int (nI s)] (nx, u, mi) (fun ρ τ => ρ = some (.int (bz (Sm_some s mi))) ∧ τ = (nx, u, mi)) := by
  refine mx_C.intro (by decide) rfl (Nat.le_of_ble_eq_true rfl) (fun κ _ hC => ?_)
  show mx_G Γ κ _ _ 0 [(0, .ref 57), (1, .int (nI s))] [] (nx, u, mi) 0 0
  refine x_iconst (q := 1) (v := nI 0) hC d_Sm_isAliveSomewhere_0 (by decide) rfl ?_
  refine x_istore_n (q := 2) (L1 := [(2, .int (nI 0)), (0, .ref 57), (1, .int (nI s))]) hC d_Sm_isAliveSomewhere_1 rfl (by decide) rfl rfl ?_
  refine x_sub (L1 := [(2, .int (nI 0)), (0, .ref 57), (1, .int (nI s))]) [0, 1, 2] rfl ?_
  refine mx_loopR (N := 6) (Hd := fun n => mx_G Γ κ _ _ 2 [(2, .int (nI n)), (0, .ref 57), (1, .int (nI s))] [] (nx, u, mi) 0 0) (Sm_al s mi) ?_ ?_
  · intro n hl1 hn2 hN3
    refine x_iload_n (q := 3) hC d_Sm_isAliveSomewhere_2 rfl rfl rfl ?_
    refine x_bipush (q := 5) (v := nI 6) hC d_Sm_isAliveSomewhere_3 (by decide) rfl ?_
    refine x_icmp_ge (tgt := 25) (q := 8) hC d_Sm_isAliveSomewhere_5 (by decide) rfl (fun h => absurd h (nI_ge hl1 (by decide))) (fun _ => ?_)
    refine x_aload_n (q := 9) hC d_Sm_isAliveSomewhere_8 rfl rfl rfl ?_
    refine x_iload_n (q := 10) hC d_Sm_isAliveSomewhere_9 rfl rfl rfl ?_
    refine x_iload_n (q := 11) hC d_Sm_isAliveSomewhere_10 rfl rfl rfl ?_
    refine x_callV (q := 14) (p := 57) (A := [.int (nI s), .int (nI n)]) (S := []) (c1 := 0) (s1 := 0) hC (c_Sm_isAlive (s := s) (n := n) (by omega) hu (by omega) (by omega) ) s_Sm_isAliveSomewhere_41 rfl (by omega) rfl rfl rfl (Nat.le_of_ble_eq_true rfl) rfl rfl (by decide) (by decide) d_Sm_isAliveSomewhere_11 rfl (fun r τ hP => ?_)
    obtain ⟨rfl, rfl⟩ := hP
    show mx_G Γ κ _ _ 14 [(2, .int (nI n)), (0, .ref 57), (1, .int (nI s))] [.int (bz (mi 2 0 < mi (59 + s) n))] (nx, u, mi) 0 0
    refine x_if_eq (tgt := 19) (q := 17) hC d_Sm_isAliveSomewhere_14 (by decide) rfl (fun h14 => ?_) (fun h14 => ?_)
    · have h14 := bz_0 h14
      refine x_iinc (q := 22) (y := nI (n + 1)) (L1 := [(2, .int (nI (n + 1))), (0, .ref 57), (1, .int (nI s))]) hC d_Sm_isAliveSomewhere_19 rfl (mx_inc n) (by decide) rfl rfl ?_
      refine x_goto (tgt := 2) hC d_Sm_isAliveSomewhere_22 (by decide) ?_
      exact x_sub [0, 1, 2] rfl (hN3 (decide_eq_false h14))
    · have h14 := bz_1 h14
      refine x_iconst (q := 18) (v := nI 1) hC d_Sm_isAliveSomewhere_17 (by decide) rfl ?_
      exact x_iret hC rfl rfl ⟨bz_t (by rw [Sm_some, pm_fd_eq hl1 (decide_eq_true h14) hn2]; exact hl1), rfl⟩ (by decide) (by decide) d_Sm_isAliveSomewhere_18
  · intro hx
    refine x_iload_n (q := 3) hC d_Sm_isAliveSomewhere_2 rfl rfl rfl ?_
    refine x_bipush (q := 5) (v := nI 6) hC d_Sm_isAliveSomewhere_3 (by decide) rfl ?_
    refine x_icmp_ge (tgt := 25) (q := 8) hC d_Sm_isAliveSomewhere_5 (by decide) rfl (fun _ => ?_) (fun h => absurd (nI_le (Nat.le_refl _) (by decide)) h)
    refine x_iconst (q := 26) (v := nI 0) hC d_Sm_isAliveSomewhere_25 (by decide) rfl ?_
    exact x_iret hC rfl rfl ⟨bz_f (by rw [Sm_some, pm_fd_none hx]; decide), rfl⟩ (by decide) (by decide) d_Sm_isAliveSomewhere_26
set_option maxRecDepth 100000 in
set_option maxHeartbeats 400000 in
theorem c_Sm_hasRoomFor {Γ : mx_X} {lau : Launch} {nx : Nat} {u : Nat → Nat → Bool} {mi : mx_Mm} {s : Nat} (hnx : 79 ≤ nx) (hu : ∀ p k, 2 ≤ p → u p k = true) (hs : s < 18) : mx_C Γ lau M_Sm_hasRoomFor [.ref 57, .int (nI s)] (nx, u, mi) (fun ρ τ => ρ = some (.int (bz (Sm_some s mi ∨ Sm_cnt mi < 5))) ∧ τ = (nx, u, mi)) := by
  refine mx_C.intro (by decide) rfl (Nat.le_of_ble_eq_true rfl) (fun κ _ hC => ?_)
  show mx_G Γ κ _ _ 0 [(0, .ref 57), (1, .int (nI s))] [] (nx, u, mi) 0 0
  refine x_aload_n (q := 1) hC d_Sm_hasRoomFor_0 rfl rfl rfl ?_
  refine x_iload_n (q := 2) hC d_Sm_hasRoomFor_1 rfl rfl rfl ?_
  refine x_callV (q := 5) (p := 57) (A := [.int (nI s)]) (S := []) (c1 := 0) (s1 := 0) hC (c_Sm_isAliveSomewhere (s := s) (by omega) hu (by omega) ) s_Sm_hasRoomFor_44 rfl (by omega) rfl rfl rfl (Nat.le_of_ble_eq_true rfl) rfl rfl (by decide) (by decide) d_Sm_hasRoomFor_2 rfl (fun r τ hP => ?_)
  obtain ⟨rfl, rfl⟩ := hP
  show mx_G Γ κ _ _ 5 [(0, .ref 57), (1, .int (nI s))] [.int (bz (Sm_some s mi))] (nx, u, mi) 0 0
  refine x_if_eq (tgt := 10) (q := 8) hC d_Sm_hasRoomFor_5 (by decide) rfl (fun h5 => ?_) (fun h5 => ?_)
  · have h5 := bz_0 h5
    refine x_iconst (q := 11) (v := nI 0) hC d_Sm_hasRoomFor_10 (by decide) rfl ?_
    refine x_istore_n (q := 12) (L1 := [(2, .int (nI 0)), (0, .ref 57), (1, .int (nI s))]) hC d_Sm_hasRoomFor_11 rfl (by decide) rfl rfl ?_
    refine x_iconst (q := 13) (v := nI 0) hC d_Sm_hasRoomFor_12 (by decide) rfl ?_
    refine x_istore_n (q := 14) (L1 := [(3, .int (nI 0)), (2, .int (nI 0)), (0, .ref 57), (1, .int (nI s))]) hC d_Sm_hasRoomFor_13 rfl (by decide) rfl rfl ?_
    refine x_sub (L1 := [(3, .int (nI 0)), (2, .int (nI 0)), (0, .ref 57), (1, .int (nI s))]) [0, 1, 2, 3] rfl ?_
    refine mx_loopG (N := 18) (Hd := fun i c => mx_G Γ κ _ _ 14 [(3, .int (nI i)), (2, .int (nI c)), (0, .ref 57), (1, .int (nI s))] [] (nx, u, mi) 0 0) (Sm_c1 mi) (fun i c => c ≤ i) (m := 0) (Nat.le_refl _) ?_ ?_ ?_
    · exact fun i c _ h => Nat.le_trans (Sm_c1_le mi i c) (by omega)
    · intro i c hl1 hI2 hN3
      refine x_iload_n (q := 15) hC d_Sm_hasRoomFor_14 rfl rfl rfl ?_
      refine x_bipush (q := 17) (v := nI 18) hC d_Sm_hasRoomFor_15 (by decide) rfl ?_
      refine x_icmp_ge (tgt := 37) (q := 20) hC d_Sm_hasRoomFor_17 (by decide) rfl (fun h => absurd h (nI_ge hl1 (by decide))) (fun _ => ?_)
      refine x_aload_n (q := 21) hC d_Sm_hasRoomFor_20 rfl rfl rfl ?_
      refine x_iload_n (q := 22) hC d_Sm_hasRoomFor_21 rfl rfl rfl ?_
      refine x_callV (q := 25) (p := 57) (A := [.int (nI i)]) (S := []) (c1 := 0) (s1 := 0) hC (c_Sm_isAliveSomewhere (s := i) (by omega) hu (by omega) ) s_Sm_hasRoomFor_44 rfl (by omega) rfl rfl rfl (Nat.le_of_ble_eq_true rfl) rfl rfl (by decide) (by decide) d_Sm_hasRoomFor_22 rfl (fun r τ hP => ?_)
      obtain ⟨rfl, rfl⟩ := hP
      show mx_G Γ κ _ _ 25 [(3, .int (nI i)), (2, .int (nI c)), (0, .ref 57), (1, .int (nI s))] [.int (bz (Sm_some i mi))] (nx, u, mi) 0 0
      refine x_if_eq (tgt := 31) (q := 28) hC d_Sm_hasRoomFor_25 (by decide) rfl (fun h25 => ?_) (fun h25 => ?_)
      · have h25 := bz_0 h25
        refine x_iinc (q := 34) (y := nI (i + 1)) (L1 := [(3, .int (nI (i + 1))), (2, .int (nI c)), (0, .ref 57), (1, .int (nI s))]) hC d_Sm_hasRoomFor_31 rfl (mx_inc i) (by decide) rfl rfl ?_
        refine x_goto (tgt := 14) hC d_Sm_hasRoomFor_34 (by decide) ?_
        refine x_sub (L1 := [(3, .int (nI (i + 1))), (2, .int (nI c)), (0, .ref 57), (1, .int (nI s))]) [0, 1, 2, 3] rfl (mx_eqG ?_ rfl ?_ hN3)
        · first | rw [Sm_c1, if_pos h25] | rw [Sm_c1, if_neg h25]
        · rfl
      · have h25 := bz_1 h25
        refine x_iinc (q := 31) (y := nI (c + 1)) (L1 := [(2, .int (nI (c + 1))), (3, .int (nI i)), (0, .ref 57), (1, .int (nI s))]) hC d_Sm_hasRoomFor_28 rfl (mx_inc c) (by decide) rfl rfl ?_
        refine x_iinc (q := 34) (y := nI (i + 1)) (L1 := [(3, .int (nI (i + 1))), (2, .int (nI (c + 1))), (0, .ref 57), (1, .int (nI s))]) hC d_Sm_hasRoomFor_31 rfl (mx_inc i) (by decide) rfl rfl ?_
        refine x_goto (tgt := 14) hC d_Sm_hasRoomFor_34 (by decide) ?_
        refine x_sub (L1 := [(3, .int (nI (i + 1))), (2, .int (nI (c + 1))), (0, .ref 57), (1, .int (nI s))]) [0, 1, 2, 3] rfl (mx_eqG ?_ rfl ?_ hN3)
        · first | rw [Sm_c1, if_pos h25] | rw [Sm_c1, if_neg h25]
        · rfl
    · intro hx4
      generalize e6 : mx_lp 18 (Sm_c1 mi) 0 = a5 at hx4 ⊢
      refine x_iload_n (q := 15) hC d_Sm_hasRoomFor_14 rfl rfl rfl ?_
      refine x_bipush (q := 17) (v := nI 18) hC d_Sm_hasRoomFor_15 (by decide) rfl ?_
      refine x_icmp_ge (tgt := 37) (q := 20) hC d_Sm_hasRoomFor_17 (by decide) rfl (fun _ => ?_) (fun h => absurd (nI_le (Nat.le_refl _) (by decide)) h)
      refine x_iload_n (q := 38) hC d_Sm_hasRoomFor_37 rfl rfl rfl ?_
      refine x_iconst (q := 39) (v := nI 5) hC d_Sm_hasRoomFor_38 (by decide) rfl ?_
      refine x_icmp_ge (tgt := 46) (q := 42) hC d_Sm_hasRoomFor_39 (by decide) rfl (fun h39 => ?_) (fun h39 => ?_)
      · skip
        refine x_iconst (q := 47) (v := nI 0) hC d_Sm_hasRoomFor_46 (by decide) rfl ?_
        subst e6
        exact x_iret hC rfl rfl ⟨bz_f (by intro q; rcases q with q | q; exact h5 q; unfold Sm_cnt at q; exact absurd ((nI_leI (by decide) (by omega)).mp h39) (by omega)), rfl⟩ (by decide) (by decide) d_Sm_hasRoomFor_47
      · skip
        refine x_iconst (q := 43) (v := nI 1) hC d_Sm_hasRoomFor_42 (by decide) rfl ?_
        refine x_goto (tgt := 47) hC d_Sm_hasRoomFor_43 (by decide) ?_
        subst e6
        exact x_iret hC rfl rfl ⟨bz_t (by first | exact Or.inl h5 | (refine Or.inr ?_; have h39 := Int32.not_le.mp h39; unfold Sm_cnt; exact (nI_ltI (by omega) (by decide)).mp h39)), rfl⟩ (by decide) (by decide) d_Sm_hasRoomFor_47
  · have h5 := bz_1 h5
    refine x_iconst (q := 9) (v := nI 1) hC d_Sm_hasRoomFor_8 (by decide) rfl ?_
    exact x_iret hC rfl rfl ⟨bz_t (by first | exact Or.inl h5 | (refine Or.inr ?_; have h39 := Int32.not_le.mp h39; unfold Sm_cnt; exact (nI_ltI (by omega) (by decide)).mp h39)), rfl⟩ (by decide) (by decide) d_Sm_hasRoomFor_9
