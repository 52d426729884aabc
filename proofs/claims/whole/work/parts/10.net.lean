set_option maxRecDepth 100000 in
set_option maxHeartbeats 4000000 in
theorem c_JM_min {Γ : mx_X} {lau : Launch} {nx : Nat} {u : Nat → Nat → Bool} {mi : mx_Mm} {x y : Int32}   : mx_C Γ lau M_JM_min [.int x, .int y] (nx, u, mi) (fun ρ τ => ρ = some (.int (pm_n x y)) ∧ τ = (nx, u, mi)) := by
  refine mx_C.introF (by decide +kernel) rfl (Nat.le_of_ble_eq_true rfl) (fun κ _ hC => ?_)
  show mx_G Γ κ _ _ 0 [(0, .int x), (1, .int y)] [] (nx, u, mi) 0 0
  refine x_iload_n (q := 1) hC d_JM_min_0 rfl rfl rfl ?_
  refine x_iload_n (q := 2) hC d_JM_min_1 rfl rfl rfl ?_
  refine x_icmp_gt (tgt := 9) (q := 5) hC d_JM_min_2 (by decide) rfl (fun h2 => ?_) (fun h2 => ?_)
  · skip
    refine x_iload_n (q := 10) hC d_JM_min_9 rfl rfl rfl ?_
    exact x_iret hC rfl rfl ⟨by rw [pm_n, if_neg (Int32.not_le.mpr h2)], rfl⟩ (by decide) (by decide) d_JM_min_10
  · skip
    refine x_iload_n (q := 6) hC d_JM_min_5 rfl rfl rfl ?_
    refine x_goto (tgt := 10) hC d_JM_min_6 (by decide) ?_
    exact x_iret hC rfl rfl ⟨by rw [pm_n, if_pos (Int32.not_lt.mp h2)], rfl⟩ (by decide) (by decide) d_JM_min_10
set_option maxRecDepth 100000 in
set_option maxHeartbeats 4000000 in
theorem c_JM_max {Γ : mx_X} {lau : Launch} {nx : Nat} {u : Nat → Nat → Bool} {mi : mx_Mm} {x y : Int32}   : mx_C Γ lau M_JM_max [.int x, .int y] (nx, u, mi) (fun ρ τ => ρ = some (.int (pm_x x y)) ∧ τ = (nx, u, mi)) := by
  refine mx_C.introF (by decide +kernel) rfl (Nat.le_of_ble_eq_true rfl) (fun κ _ hC => ?_)
  show mx_G Γ κ _ _ 0 [(0, .int x), (1, .int y)] [] (nx, u, mi) 0 0
  refine x_iload_n (q := 1) hC d_JM_max_0 rfl rfl rfl ?_
  refine x_iload_n (q := 2) hC d_JM_max_1 rfl rfl rfl ?_
  refine x_icmp_lt (tgt := 9) (q := 5) hC d_JM_max_2 (by decide) rfl (fun h2 => ?_) (fun h2 => ?_)
  · skip
    refine x_iload_n (q := 10) hC d_JM_max_9 rfl rfl rfl ?_
    exact x_iret hC rfl rfl ⟨by rw [pm_x, if_neg (Int32.not_le.mpr h2)], rfl⟩ (by decide) (by decide) d_JM_max_10
  · skip
    refine x_iload_n (q := 6) hC d_JM_max_5 rfl rfl rfl ?_
    refine x_goto (tgt := 10) hC d_JM_max_6 (by decide) ?_
    exact x_iret hC rfl rfl ⟨by rw [pm_x, if_pos (Int32.not_lt.mp h2)], rfl⟩ (by decide) (by decide) d_JM_max_10
set_option maxRecDepth 100000 in
set_option maxHeartbeats 4000000 in
theorem c_Ck_time {Γ : mx_X} {lau : Launch} {nx : Nat} {u : Nat → Nat → Bool} {mi : mx_Mm}  (hnx : 3 ≤ nx) (hu : ∀ p k, 2 ≤ p → u p k = true)  : mx_C Γ lau M_Ck_time [.ref 2] (nx, u, mi) (fun ρ τ => ρ = some (.int (mi 2 0)) ∧ τ = (nx, u, mi)) := by
  refine mx_C.intro (by decide) rfl (Nat.le_of_ble_eq_true rfl) (fun κ _ hC => ?_)
  show mx_G Γ κ _ _ 0 [(0, .ref 2)] [] (nx, u, mi) 0 0
  refine x_aload_n (q := 1) hC d_Ck_time_0 rfl rfl rfl ?_
  refine x_geti (q := 4) (p := 2) (j := 0) hC f_Ck_7 rfl rfl (by omega) d_Ck_time_1 rfl ?_
  exact x_iret hC rfl rfl ⟨rfl, rfl⟩ (by decide) (by decide) d_Ck_time_4
set_option maxRecDepth 100000 in
set_option maxHeartbeats 4000000 in
theorem c_Ck_tick {Γ : mx_X} {lau : Launch} {nx : Nat} {u : Nat → Nat → Bool} {mi : mx_Mm}  (hnx : 3 ≤ nx) (hu : ∀ p k, 2 ≤ p → u p k = true)  : mx_C Γ lau M_Ck_tick [.ref 2] (nx, u, mi) (fun ρ τ => ρ = none ∧ τ = (nx, u, mx_up mi 2 0 (mi 2 0 + nI 1))) := by
  refine mx_C.intro (by decide) rfl (Nat.le_of_ble_eq_true rfl) (fun κ _ hC => ?_)
  show mx_G Γ κ _ _ 0 [(0, .ref 2)] [] (nx, u, mi) 0 0
  refine x_aload_n (q := 1) hC d_Ck_tick_0 rfl rfl rfl ?_
  refine x_dup (q := 2) hC d_Ck_tick_1 rfl rfl ?_
  refine x_geti (q := 5) (p := 2) (j := 0) hC f_Ck_7 rfl rfl (by omega) d_Ck_tick_2 rfl ?_
  refine x_iconst (q := 6) (v := nI 1) hC d_Ck_tick_5 (by decide) rfl ?_
  refine x_iadd (q := 7) (z := (mi 2 0) + (nI 1)) hC d_Ck_tick_6 rfl rfl ?_
  refine x_puti (q := 10) (p := 2) (j := 0) hC f_Ck_7 y_Ck rfl rfl rfl rfl rfl (by omega) (by decide) d_Ck_tick_7 rfl ?_
  exact x_vret hC rfl ⟨rfl, rfl⟩ (by decide) (by decide) d_Ck_tick_10
set_option maxRecDepth 100000 in
set_option maxHeartbeats 4000000 in
theorem c_Ck_isReportTime {Γ : mx_X} {lau : Launch} {nx : Nat} {u : Nat → Nat → Bool} {mi : mx_Mm}  (hnx : 3 ≤ nx) (hu : ∀ p k, 2 ≤ p → u p k = true)  : mx_C Γ lau M_Ck_isReportTime [.ref 2] (nx, u, mi) (fun ρ τ => ρ = some (.int (bz (mi 2 0 - mi 2 0 / nI 5 * nI 5 = 0))) ∧ τ = (nx, u, mi)) := by
  refine mx_C.intro (by decide) rfl (Nat.le_of_ble_eq_true rfl) (fun κ _ hC => ?_)
  show mx_G Γ κ _ _ 0 [(0, .ref 2)] [] (nx, u, mi) 0 0
  refine x_aload_n (q := 1) hC d_Ck_isReportTime_0 rfl rfl rfl ?_
  refine x_geti (q := 4) (p := 2) (j := 0) hC f_Ck_7 rfl rfl (by omega) d_Ck_isReportTime_1 rfl ?_
  refine x_iconst (q := 5) (v := nI 5) hC d_Ck_isReportTime_4 (by decide) rfl ?_
  refine x_irem (q := 6) (z := (mi 2 0) - (mi 2 0) / (nI 5) * (nI 5)) hC d_Ck_isReportTime_5 (by decide) rfl rfl ?_
  refine x_if_ne (tgt := 13) (q := 9) hC d_Ck_isReportTime_6 (by decide) rfl (fun h6 => ?_) (fun h6 => ?_)
  · skip
    refine x_iconst (q := 14) (v := nI 0) hC d_Ck_isReportTime_13 (by decide) rfl ?_
    exact x_iret hC rfl rfl ⟨bz_f (h6), rfl⟩ (by decide) (by decide) d_Ck_isReportTime_14
  · skip
    refine x_iconst (q := 10) (v := nI 1) hC d_Ck_isReportTime_9 (by decide) rfl ?_
    refine x_goto (tgt := 14) hC d_Ck_isReportTime_10 (by decide) ?_
    exact x_iret hC rfl rfl ⟨bz_t (h6), rfl⟩ (by decide) (by decide) d_Ck_isReportTime_14
set_option maxRecDepth 100000 in
set_option maxHeartbeats 4000000 in
theorem c_Ta_count {Γ : mx_X} {lau : Launch} {nx : Nat} {u : Nat → Nat → Bool} {mi : mx_Mm} {k : Nat} (hnx : 5 ≤ nx) (hu : ∀ p k, 2 ≤ p → u p k = true) (hk : k < 10) : mx_C Γ lau M_Ta_count [.ref 3, .int (nI k)] (nx, u, mi) (fun ρ τ => ρ = none ∧ τ = (nx, u, mx_up mi 4 k (mi 4 k + nI 1))) := by
  refine mx_C.intro (by decide) rfl (Nat.le_of_ble_eq_true rfl) (fun κ _ hC => ?_)
  show mx_G Γ κ _ _ 0 [(0, .ref 3), (1, .int (nI k))] [] (nx, u, mi) 0 0
  refine x_aload_n (q := 1) hC d_Ta_count_0 rfl rfl rfl ?_
  refine x_getr (q := 4) (p := 3) (j := 0) (r := 4) hC f_Ta_9 rfl rfl rfl (by omega) (hu _ _ (by decide)) d_Ta_count_1 rfl ?_
  refine x_iload_n (q := 5) hC d_Ta_count_4 rfl rfl rfl ?_
  refine x_dup2 (q := 6) hC d_Ta_count_5 rfl rfl rfl ?_
  refine x_iald (q := 7) (p := 4) hC k rfl (by omega) rfl (by omega) (by decide) d_Ta_count_6 rfl ?_
  refine x_iconst (q := 8) (v := nI 1) hC d_Ta_count_7 (by decide) rfl ?_
  refine x_iadd (q := 9) (z := (mi 4 k) + (nI 1)) hC d_Ta_count_8 rfl rfl ?_
  refine x_iast (q := 10) (p := 4) hC k rfl (by omega) (by omega) rfl (by omega) (by decide) d_Ta_count_9 rfl ?_
  exact x_vret hC rfl ⟨rfl, rfl⟩ (by decide) (by decide) d_Ta_count_10
set_option maxRecDepth 100000 in
set_option maxHeartbeats 4000000 in
theorem c_Ta_countOf {Γ : mx_X} {lau : Launch} {nx : Nat} {u : Nat → Nat → Bool} {mi : mx_Mm} {k : Nat} (hnx : 5 ≤ nx) (hu : ∀ p k, 2 ≤ p → u p k = true) (hk : k < 10) : mx_C Γ lau M_Ta_countOf [.ref 3, .int (nI k)] (nx, u, mi) (fun ρ τ => ρ = some (.int (mi 4 k)) ∧ τ = (nx, u, mi)) := by
  refine mx_C.intro (by decide) rfl (Nat.le_of_ble_eq_true rfl) (fun κ _ hC => ?_)
  show mx_G Γ κ _ _ 0 [(0, .ref 3), (1, .int (nI k))] [] (nx, u, mi) 0 0
  refine x_aload_n (q := 1) hC d_Ta_countOf_0 rfl rfl rfl ?_
  refine x_getr (q := 4) (p := 3) (j := 0) (r := 4) hC f_Ta_9 rfl rfl rfl (by omega) (hu _ _ (by decide)) d_Ta_countOf_1 rfl ?_
  refine x_iload_n (q := 5) hC d_Ta_countOf_4 rfl rfl rfl ?_
  refine x_iald (q := 6) (p := 4) hC k rfl (by omega) rfl (by omega) (by decide) d_Ta_countOf_5 rfl ?_
  exact x_iret hC rfl rfl ⟨rfl, rfl⟩ (by decide) (by decide) d_Ta_countOf_6
set_option maxRecDepth 100000 in
set_option maxHeartbeats 4000000 in
theorem c_Ne_costOf {Γ : mx_X} {lau : Launch} {nx : Nat} {u : Nat → Nat → Bool} {mi : mx_Mm} {a b : Nat} (hnx : 34 ≤ nx) (hu : ∀ p k, 2 ≤ p → u p k = true) (ha : a < 6) (hb : b < 6) : mx_C Γ lau M_Ne_costOf [.ref 5, .int (nI a), .int (nI b)] (nx, u, mi) (fun ρ τ => ρ = some (.int (mi (7 + a) b)) ∧ τ = (nx, u, mi)) := by
  refine mx_C.intro (by decide) rfl (Nat.le_of_ble_eq_true rfl) (fun κ _ hC => ?_)
  show mx_G Γ κ _ _ 0 [(0, .ref 5), (1, .int (nI a)), (2, .int (nI b))] [] (nx, u, mi) 0 0
  refine x_aload_n (q := 1) hC d_Ne_costOf_0 rfl rfl rfl ?_
  refine x_getr (q := 4) (p := 5) (j := 0) (r := 6) hC f_Ne_11 rfl rfl rfl (by omega) (hu _ _ (by decide)) d_Ne_costOf_1 rfl ?_
  refine x_iload_n (q := 5) hC d_Ne_costOf_4 rfl rfl rfl ?_
  refine x_aald (q := 6) (p := 6) (r := 7 + a) hC a (mr_6 _ (by omega)) rfl (by omega) rfl (by omega) (by decide) d_Ne_costOf_5 rfl ?_
  refine x_iload_n (q := 7) hC d_Ne_costOf_6 rfl rfl rfl ?_
  refine x_iald (q := 8) (p := 7 + a) hC b (sh_7 _ (by omega)) (by omega) rfl (by omega) (by decide) d_Ne_costOf_7 rfl ?_
  exact x_iret hC rfl rfl ⟨rfl, rfl⟩ (by decide) (by decide) d_Ne_costOf_8
set_option maxRecDepth 100000 in
set_option maxHeartbeats 4000000 in
theorem c_Ne_lengthOf {Γ : mx_X} {lau : Launch} {nx : Nat} {u : Nat → Nat → Bool} {mi : mx_Mm} {a b : Nat} (hnx : 34 ≤ nx) (hu : ∀ p k, 2 ≤ p → u p k = true) (ha : a < 6) (hb : b < 6) : mx_C Γ lau M_Ne_lengthOf [.ref 5, .int (nI a), .int (nI b)] (nx, u, mi) (fun ρ τ => ρ = some (.int (mi (14 + a) b)) ∧ τ = (nx, u, mi)) := by
  refine mx_C.intro (by decide) rfl (Nat.le_of_ble_eq_true rfl) (fun κ _ hC => ?_)
  show mx_G Γ κ _ _ 0 [(0, .ref 5), (1, .int (nI a)), (2, .int (nI b))] [] (nx, u, mi) 0 0
  refine x_aload_n (q := 1) hC d_Ne_lengthOf_0 rfl rfl rfl ?_
  refine x_getr (q := 4) (p := 5) (j := 1) (r := 13) hC f_Ne_16 rfl rfl rfl (by omega) (hu _ _ (by decide)) d_Ne_lengthOf_1 rfl ?_
  refine x_iload_n (q := 5) hC d_Ne_lengthOf_4 rfl rfl rfl ?_
  refine x_aald (q := 6) (p := 13) (r := 14 + a) hC a (mr_13 _ (by omega)) rfl (by omega) rfl (by omega) (by decide) d_Ne_lengthOf_5 rfl ?_
  refine x_iload_n (q := 7) hC d_Ne_lengthOf_6 rfl rfl rfl ?_
  refine x_iald (q := 8) (p := 14 + a) hC b (sh_14 _ (by omega)) (by omega) rfl (by omega) (by decide) d_Ne_lengthOf_7 rfl ?_
  exact x_iret hC rfl rfl ⟨rfl, rfl⟩ (by decide) (by decide) d_Ne_lengthOf_8
set_option maxRecDepth 100000 in
set_option maxHeartbeats 4000000 in
theorem c_Ne_nextTowards {Γ : mx_X} {lau : Launch} {nx : Nat} {u : Nat → Nat → Bool} {mi : mx_Mm} {a b : Nat} (hnx : 34 ≤ nx) (hu : ∀ p k, 2 ≤ p → u p k = true) (ha : a < 6) (hb : b < 6) : mx_C Γ lau M_Ne_nextTowards [.ref 5, .int (nI a), .int (nI b)] (nx, u, mi) (fun ρ τ => ρ = some (.int (mi (21 + a) b)) ∧ τ = (nx, u, mi)) := by
  refine mx_C.intro (by decide) rfl (Nat.le_of_ble_eq_true rfl) (fun κ _ hC => ?_)
  show mx_G Γ κ _ _ 0 [(0, .ref 5), (1, .int (nI a)), (2, .int (nI b))] [] (nx, u, mi) 0 0
  refine x_aload_n (q := 1) hC d_Ne_nextTowards_0 rfl rfl rfl ?_
  refine x_getr (q := 4) (p := 5) (j := 2) (r := 20) hC f_Ne_19 rfl rfl rfl (by omega) (hu _ _ (by decide)) d_Ne_nextTowards_1 rfl ?_
  refine x_iload_n (q := 5) hC d_Ne_nextTowards_4 rfl rfl rfl ?_
  refine x_aald (q := 6) (p := 20) (r := 21 + a) hC a (mr_20 _ (by omega)) rfl (by omega) rfl (by omega) (by decide) d_Ne_nextTowards_5 rfl ?_
  refine x_iload_n (q := 7) hC d_Ne_nextTowards_6 rfl rfl rfl ?_
  refine x_iald (q := 8) (p := 21 + a) hC b (sh_21 _ (by omega)) (by omega) rfl (by omega) (by decide) d_Ne_nextTowards_7 rfl ?_
  exact x_iret hC rfl rfl ⟨rfl, rfl⟩ (by decide) (by decide) d_Ne_nextTowards_8
set_option maxRecDepth 100000 in
set_option maxHeartbeats 4000000 in
theorem c_Ne_fromFarthest {Γ : mx_X} {lau : Launch} {nx : Nat} {u : Nat → Nat → Bool} {mi : mx_Mm} {a b : Nat} (hnx : 34 ≤ nx) (hu : ∀ p k, 2 ≤ p → u p k = true) (ha : a < 6) (hb : b < 6) : mx_C Γ lau M_Ne_fromFarthest [.ref 5, .int (nI a), .int (nI b)] (nx, u, mi) (fun ρ τ => ρ = some (.int (mi (28 + a) b)) ∧ τ = (nx, u, mi)) := by
  refine mx_C.intro (by decide) rfl (Nat.le_of_ble_eq_true rfl) (fun κ _ hC => ?_)
  show mx_G Γ κ _ _ 0 [(0, .ref 5), (1, .int (nI a)), (2, .int (nI b))] [] (nx, u, mi) 0 0
  refine x_aload_n (q := 1) hC d_Ne_fromFarthest_0 rfl rfl rfl ?_
  refine x_getr (q := 4) (p := 5) (j := 3) (r := 27) hC f_Ne_22 rfl rfl rfl (by omega) (hu _ _ (by decide)) d_Ne_fromFarthest_1 rfl ?_
  refine x_iload_n (q := 5) hC d_Ne_fromFarthest_4 rfl rfl rfl ?_
  refine x_aald (q := 6) (p := 27) (r := 28 + a) hC a (mr_27 _ (by omega)) rfl (by omega) rfl (by omega) (by decide) d_Ne_fromFarthest_5 rfl ?_
  refine x_iload_n (q := 7) hC d_Ne_fromFarthest_6 rfl rfl rfl ?_
  refine x_iald (q := 8) (p := 28 + a) hC b (sh_28 _ (by omega)) (by omega) rfl (by omega) (by decide) d_Ne_fromFarthest_7 rfl ?_
  exact x_iret hC rfl rfl ⟨rfl, rfl⟩ (by decide) (by decide) d_Ne_fromFarthest_8
set_option maxRecDepth 100000 in
set_option maxHeartbeats 4000000 in
theorem c_Ne_areLinked {Γ : mx_X} {lau : Launch} {nx : Nat} {u : Nat → Nat → Bool} {mi : mx_Mm} {a b : Nat} (hnx : 34 ≤ nx) (hu : ∀ p k, 2 ≤ p → u p k = true) (ha : a < 6) (hb : b < 6) : mx_C Γ lau M_Ne_areLinked [.ref 5, .int (nI a), .int (nI b)] (nx, u, mi) (fun ρ τ => ρ = some (.int (bz (¬ mi (7 + a) b = 0))) ∧ τ = (nx, u, mi)) := by
  refine mx_C.intro (by decide) rfl (Nat.le_of_ble_eq_true rfl) (fun κ _ hC => ?_)
  show mx_G Γ κ _ _ 0 [(0, .ref 5), (1, .int (nI a)), (2, .int (nI b))] [] (nx, u, mi) 0 0
  refine x_aload_n (q := 1) hC d_Ne_areLinked_0 rfl rfl rfl ?_
  refine x_getr (q := 4) (p := 5) (j := 0) (r := 6) hC f_Ne_11 rfl rfl rfl (by omega) (hu _ _ (by decide)) d_Ne_areLinked_1 rfl ?_
  refine x_iload_n (q := 5) hC d_Ne_areLinked_4 rfl rfl rfl ?_
  refine x_aald (q := 6) (p := 6) (r := 7 + a) hC a (mr_6 _ (by omega)) rfl (by omega) rfl (by omega) (by decide) d_Ne_areLinked_5 rfl ?_
  refine x_iload_n (q := 7) hC d_Ne_areLinked_6 rfl rfl rfl ?_
  refine x_iald (q := 8) (p := 7 + a) hC b (sh_7 _ (by omega)) (by omega) rfl (by omega) (by decide) d_Ne_areLinked_7 rfl ?_
  refine x_if_eq (tgt := 15) (q := 11) hC d_Ne_areLinked_8 (by decide) rfl (fun h8 => ?_) (fun h8 => ?_)
  · skip
    refine x_iconst (q := 16) (v := nI 0) hC d_Ne_areLinked_15 (by decide) rfl ?_
    exact x_iret hC rfl rfl ⟨bz_f (fun q => q h8), rfl⟩ (by decide) (by decide) d_Ne_areLinked_16
  · skip
    refine x_iconst (q := 12) (v := nI 1) hC d_Ne_areLinked_11 (by decide) rfl ?_
    refine x_goto (tgt := 16) hC d_Ne_areLinked_12 (by decide) ?_
    exact x_iret hC rfl rfl ⟨bz_t (h8), rfl⟩ (by decide) (by decide) d_Ne_areLinked_16
set_option maxRecDepth 100000 in
set_option maxHeartbeats 4000000 in
theorem c_Ne_areConnected {Γ : mx_X} {lau : Launch} {nx : Nat} {u : Nat → Nat → Bool} {mi : mx_Mm} {a b : Nat} (hnx : 34 ≤ nx) (hu : ∀ p k, 2 ≤ p → u p k = true) (ha : a < 6) (hb : b < 6) : mx_C Γ lau M_Ne_areConnected [.ref 5, .int (nI a), .int (nI b)] (nx, u, mi) (fun ρ τ => ρ = some (.int (bz (mi (14 + a) b < nI 1000))) ∧ τ = (nx, u, mi)) := by
  refine mx_C.intro (by decide) rfl (Nat.le_of_ble_eq_true rfl) (fun κ _ hC => ?_)
  show mx_G Γ κ _ _ 0 [(0, .ref 5), (1, .int (nI a)), (2, .int (nI b))] [] (nx, u, mi) 0 0
  refine x_aload_n (q := 1) hC d_Ne_areConnected_0 rfl rfl rfl ?_
  refine x_getr (q := 4) (p := 5) (j := 1) (r := 13) hC f_Ne_16 rfl rfl rfl (by omega) (hu _ _ (by decide)) d_Ne_areConnected_1 rfl ?_
  refine x_iload_n (q := 5) hC d_Ne_areConnected_4 rfl rfl rfl ?_
  refine x_aald (q := 6) (p := 13) (r := 14 + a) hC a (mr_13 _ (by omega)) rfl (by omega) rfl (by omega) (by decide) d_Ne_areConnected_5 rfl ?_
  refine x_iload_n (q := 7) hC d_Ne_areConnected_6 rfl rfl rfl ?_
  refine x_iald (q := 8) (p := 14 + a) hC b (sh_14 _ (by omega)) (by omega) rfl (by omega) (by decide) d_Ne_areConnected_7 rfl ?_
  refine x_sipush (q := 11) (v := nI 1000) hC d_Ne_areConnected_8 (by decide) rfl ?_
  refine x_icmp_ge (tgt := 18) (q := 14) hC d_Ne_areConnected_11 (by decide) rfl (fun h11 => ?_) (fun h11 => ?_)
  · skip
    refine x_iconst (q := 19) (v := nI 0) hC d_Ne_areConnected_18 (by decide) rfl ?_
    exact x_iret hC rfl rfl ⟨bz_f (Int32.not_lt.mpr h11), rfl⟩ (by decide) (by decide) d_Ne_areConnected_19
  · skip
    refine x_iconst (q := 15) (v := nI 1) hC d_Ne_areConnected_14 (by decide) rfl ?_
    refine x_goto (tgt := 19) hC d_Ne_areConnected_15 (by decide) ?_
    exact x_iret hC rfl rfl ⟨bz_t (Int32.not_le.mp h11), rfl⟩ (by decide) (by decide) d_Ne_areConnected_19
set_option maxRecDepth 100000 in
set_option maxHeartbeats 4000000 in
theorem c_JA_fill {Γ : mx_X} {lau : Launch} {nx : Nat} {u : Nat → Nat → Bool} {mi : mx_Mm} {p n : Nat} {v : Int32} (hsh : mx_SH p = (0, n)) (hp : p < nx) (hp1 : 1 ≤ p) (hn : n < 1000) : mx_C Γ lau M_JA_fill [.ref p, .int v] (nx, u, mi) (fun ρ τ => ρ = none ∧ τ = (nx, u, fill_m p n v mi)) := by
  refine mx_C.introF (by decide +kernel) rfl (Nat.le_of_ble_eq_true rfl) (fun κ _ hC => ?_)
  show mx_G Γ κ _ _ 0 [(0, .ref p), (1, .int v)] [] (nx, u, mi) 0 0
  refine x_iconst (q := 1) (v := nI 0) hC d_JA_fill_0 (by decide) rfl ?_
  refine x_istore_n (q := 2) (L1 := [(2, .int (nI 0)), (0, .ref p), (1, .int v)]) hC d_JA_fill_1 rfl (by decide) rfl rfl ?_
  refine x_aload_n (q := 3) hC d_JA_fill_2 rfl rfl rfl ?_
  refine x_alen (q := 4) (v := nI n) hC hsh (by omega) rfl d_JA_fill_3 rfl ?_
  refine x_istore_n (q := 5) (L1 := [(3, .int (nI n)), (2, .int (nI 0)), (0, .ref p), (1, .int v)]) hC d_JA_fill_4 rfl (by decide) rfl rfl ?_
  refine x_sub (L1 := [(3, .int (nI n)), (2, .int (nI 0)), (0, .ref p), (1, .int v)]) [0, 1, 2, 3] rfl ?_
  refine mx_loop (N := n) (Hd := fun i1 m2 => mx_G Γ κ _ _ 5 [(3, .int (nI n)), (2, .int (nI i1)), (0, .ref p), (1, .int v)] [] (nx, u, m2) 0 0) (fun i m => mx_up m p i v) (fun _ _ => True) trivial ?_ ?_ ?_
  · exact fun _ _ _ _ => trivial
  · intro i1 m2 hl3 hI4 hN5
    refine x_iload_n (q := 6) hC d_JA_fill_5 rfl rfl rfl ?_
    refine x_iload_n (q := 7) hC d_JA_fill_6 rfl rfl rfl ?_
    refine x_icmp_ge (tgt := 20) (q := 10) hC d_JA_fill_7 (by decide) rfl (fun h => absurd h (nI_ge hl3 (by omega))) (fun _ => ?_)
    refine x_aload_n (q := 11) hC d_JA_fill_10 rfl rfl rfl ?_
    refine x_iload_n (q := 12) hC d_JA_fill_11 rfl rfl rfl ?_
    refine x_iload_n (q := 13) hC d_JA_fill_12 rfl rfl rfl ?_
    refine x_iast (q := 14) (p := p) hC i1 hsh (by omega) (by omega) rfl (by omega) (by omega) d_JA_fill_13 rfl ?_
    refine x_iinc (q := 17) (y := nI (i1 + 1)) (L1 := [(2, .int (nI (i1 + 1))), (3, .int (nI n)), (0, .ref p), (1, .int v)]) hC d_JA_fill_14 rfl (mx_inc i1) (by decide) rfl rfl ?_
    refine x_goto (tgt := 5) hC d_JA_fill_17 (by decide) ?_
    exact x_close hN5 [1, 0, 2, 3] rfl (by rfl)
  · intro hx6
    refine mx_nr (fun m7 e8 => ?_)
    try rw [e8] at hx6
    refine x_iload_n (q := 6) hC d_JA_fill_5 rfl rfl rfl ?_
    refine x_iload_n (q := 7) hC d_JA_fill_6 rfl rfl rfl ?_
    refine x_icmp_ge (tgt := 20) (q := 10) hC d_JA_fill_7 (by decide) rfl (fun _ => ?_) (fun h => absurd (nI_le (Nat.le_refl _) (by omega)) h)
    subst e8
    exact x_vret hC rfl ⟨rfl, rfl⟩ (by decide) (by decide) d_JA_fill_20
set_option maxRecDepth 100000 in
set_option maxHeartbeats 4000000 in
theorem c_Ne_startLengths {Γ : mx_X} {lau : Launch} {nx : Nat} {u : Nat → Nat → Bool} {mi : mx_Mm}  (hnx : 34 ≤ nx) (hu : ∀ p k, 2 ≤ p → u p k = true)  : mx_C Γ lau M_Ne_startLengths [.ref 5] (nx, u, mi) (fun ρ τ => ρ = none ∧ τ = (nx, u, Ne_start mi)) := by
  refine mx_C.intro (by decide) rfl (Nat.le_of_ble_eq_true rfl) (fun κ _ hC => ?_)
  show mx_G Γ κ _ _ 0 [(0, .ref 5)] [] (nx, u, mi) 0 0
  refine x_iconst (q := 1) (v := nI 0) hC d_Ne_startLengths_0 (by decide) rfl ?_
  refine x_istore_n (q := 2) (L1 := [(1, .int (nI 0)), (0, .ref 5)]) hC d_Ne_startLengths_1 rfl (by decide) rfl rfl ?_
  refine x_sub (L1 := [(1, .int (nI 0)), (0, .ref 5)]) [0, 1] rfl ?_
  refine mx_loop (N := 6) (Hd := fun a m1 => mx_G Γ κ _ _ 2 [(1, .int (nI a)), (0, .ref 5)] [] (nx, u, m1) 0 0) (Ne_sl) (fun _ _ => True) trivial ?_ ?_ ?_
  · exact fun _ _ _ _ => trivial
  · intro a m1 hl2 hI3 hN4
    refine x_iload_n (q := 3) hC d_Ne_startLengths_2 rfl rfl rfl ?_
    refine x_bipush (q := 5) (v := nI 6) hC d_Ne_startLengths_3 (by decide) rfl ?_
    refine x_icmp_ge (tgt := 68) (q := 8) hC d_Ne_startLengths_5 (by decide) rfl (fun h => absurd h (nI_ge hl2 (by decide))) (fun _ => ?_)
    refine x_iconst (q := 9) (v := nI 0) hC d_Ne_startLengths_8 (by decide) rfl ?_
    refine x_istore_n (q := 10) (L1 := [(2, .int (nI 0)), (1, .int (nI a)), (0, .ref 5)]) hC d_Ne_startLengths_9 rfl (by decide) rfl rfl ?_
    refine x_sub (L1 := [(2, .int (nI 0)), (1, .int (nI a)), (0, .ref 5)]) [0, 1, 2] rfl ?_
    refine mx_loop (N := 6) (Hd := fun b m5 => mx_G Γ κ _ _ 10 [(2, .int (nI b)), (1, .int (nI a)), (0, .ref 5)] [] (nx, u, m5) 0 0) (Ne_sl1 a) (fun _ _ => True) trivial ?_ ?_ ?_
    · exact fun _ _ _ _ => trivial
    · intro b m5 hl6 hI7 hN8
      refine x_iload_n (q := 11) hC d_Ne_startLengths_10 rfl rfl rfl ?_
      refine x_bipush (q := 13) (v := nI 6) hC d_Ne_startLengths_11 (by decide) rfl ?_
      refine x_icmp_ge (tgt := 53) (q := 16) hC d_Ne_startLengths_13 (by decide) rfl (fun h => absurd h (nI_ge hl6 (by decide))) (fun _ => ?_)
      refine x_aload_n (q := 17) hC d_Ne_startLengths_16 rfl rfl rfl ?_
      refine x_getr (q := 20) (p := 5) (j := 1) (r := 13) hC f_Ne_16 rfl rfl rfl (by omega) (hu _ _ (by decide)) d_Ne_startLengths_17 rfl ?_
      refine x_iload_n (q := 21) hC d_Ne_startLengths_20 rfl rfl rfl ?_
      refine x_aald (q := 22) (p := 13) (r := 14 + a) hC a (mr_13 _ (by omega)) rfl (by omega) rfl (by omega) (by decide) d_Ne_startLengths_21 rfl ?_
      refine x_iload_n (q := 23) hC d_Ne_startLengths_22 rfl rfl rfl ?_
      refine x_aload_n (q := 24) hC d_Ne_startLengths_23 rfl rfl rfl ?_
      refine x_iload_n (q := 25) hC d_Ne_startLengths_24 rfl rfl rfl ?_
      refine x_iload_n (q := 26) hC d_Ne_startLengths_25 rfl rfl rfl ?_
      refine x_callV (q := 29) (p := 5) (A := [.int (nI a), .int (nI b)]) (S := [.int (nI b), .ref (14 + a)]) (c1 := 0) (s1 := 0) hC (c_Ne_areLinked (a := a) (b := b) (by omega) hu (by omega) (by omega)) s_Ne_startLengths_42 rfl (by omega) rfl rfl rfl (Nat.le_of_ble_eq_true rfl) rfl rfl (by decide) (by decide) d_Ne_startLengths_26 rfl (fun r τ hP => ?_)
      obtain ⟨rfl, rfl⟩ := hP
      show mx_G Γ κ _ _ 29 [(2, .int (nI b)), (1, .int (nI a)), (0, .ref 5)] [.int (bz (¬ m5 (7 + a) b = 0)), .int (nI b), .ref (14 + a)] (nx, u, m5) 0 0
      refine x_if_eq (tgt := 43) (q := 32) hC d_Ne_startLengths_29 (by decide) rfl (fun h29 => ?_) (fun h29 => ?_)
      · have h29 := bz_0 h29
        refine x_sipush (q := 46) (v := nI 1000) hC d_Ne_startLengths_43 (by decide) rfl ?_
        refine x_iast (q := 47) (p := 14 + a) hC b (sh_14 _ (by omega)) (by omega) (by omega) rfl (by omega) (by decide) d_Ne_startLengths_46 rfl ?_
        refine x_iinc (q := 50) (y := nI (b + 1)) (L1 := [(2, .int (nI (b + 1))), (1, .int (nI a)), (0, .ref 5)]) hC d_Ne_startLengths_47 rfl (mx_inc b) (by decide) rfl rfl ?_
        refine x_goto (tgt := 10) hC d_Ne_startLengths_50 (by decide) ?_
        exact x_close hN8 [0, 1, 2] rfl (by unfold Ne_sl1; first | rw [if_neg h29] | rw [if_pos (Decidable.not_not.mp h29)])
      · have h29 := bz_1 h29
        refine x_aload_n (q := 33) hC d_Ne_startLengths_32 rfl rfl rfl ?_
        refine x_getr (q := 36) (p := 5) (j := 0) (r := 6) hC f_Ne_11 rfl rfl rfl (by omega) (hu _ _ (by decide)) d_Ne_startLengths_33 rfl ?_
        refine x_iload_n (q := 37) hC d_Ne_startLengths_36 rfl rfl rfl ?_
        refine x_aald (q := 38) (p := 6) (r := 7 + a) hC a (mr_6 _ (by omega)) rfl (by omega) rfl (by omega) (by decide) d_Ne_startLengths_37 rfl ?_
        refine x_iload_n (q := 39) hC d_Ne_startLengths_38 rfl rfl rfl ?_
        refine x_iald (q := 40) (p := 7 + a) hC b (sh_7 _ (by omega)) (by omega) rfl (by omega) (by decide) d_Ne_startLengths_39 rfl ?_
        refine x_goto (tgt := 46) hC d_Ne_startLengths_40 (by decide) ?_
        refine x_iast (q := 47) (p := 14 + a) hC b (sh_14 _ (by omega)) (by omega) (by omega) rfl (by omega) (by decide) d_Ne_startLengths_46 rfl ?_
        refine x_iinc (q := 50) (y := nI (b + 1)) (L1 := [(2, .int (nI (b + 1))), (1, .int (nI a)), (0, .ref 5)]) hC d_Ne_startLengths_47 rfl (mx_inc b) (by decide) rfl rfl ?_
        refine x_goto (tgt := 10) hC d_Ne_startLengths_50 (by decide) ?_
        exact x_close hN8 [0, 1, 2] rfl (by unfold Ne_sl1; first | rw [if_neg h29] | rw [if_pos (Decidable.not_not.mp h29)])
    · intro hx9
      refine mx_nr (fun m10 e11 => ?_)
      try rw [e11] at hx9
      refine x_iload_n (q := 11) hC d_Ne_startLengths_10 rfl rfl rfl ?_
      refine x_bipush (q := 13) (v := nI 6) hC d_Ne_startLengths_11 (by decide) rfl ?_
      refine x_icmp_ge (tgt := 53) (q := 16) hC d_Ne_startLengths_13 (by decide) rfl (fun _ => ?_) (fun h => absurd (nI_le (Nat.le_refl _) (by decide)) h)
      refine x_aload_n (q := 54) hC d_Ne_startLengths_53 rfl rfl rfl ?_
      refine x_getr (q := 57) (p := 5) (j := 1) (r := 13) hC f_Ne_16 rfl rfl rfl (by omega) (hu _ _ (by decide)) d_Ne_startLengths_54 rfl ?_
      refine x_iload_n (q := 58) hC d_Ne_startLengths_57 rfl rfl rfl ?_
      refine x_aald (q := 59) (p := 13) (r := 14 + a) hC a (mr_13 _ (by omega)) rfl (by omega) rfl (by omega) (by decide) d_Ne_startLengths_58 rfl ?_
      refine x_iload_n (q := 60) hC d_Ne_startLengths_59 rfl rfl rfl ?_
      refine x_iconst (q := 61) (v := nI 0) hC d_Ne_startLengths_60 (by decide) rfl ?_
      refine x_iast (q := 62) (p := 14 + a) hC a (sh_14 _ (by omega)) (by omega) (by omega) rfl (by omega) (by decide) d_Ne_startLengths_61 rfl ?_
      refine x_iinc (q := 65) (y := nI (a + 1)) (L1 := [(1, .int (nI (a + 1))), (2, .int (nI 6)), (0, .ref 5)]) hC d_Ne_startLengths_62 rfl (mx_inc a) (by decide) rfl rfl ?_
      refine x_goto (tgt := 2) hC d_Ne_startLengths_65 (by decide) ?_
      subst e11
      exact x_close hN4 [0, 2] rfl (by rfl)
  · intro hx12
    refine mx_nr (fun m13 e14 => ?_)
    try rw [e14] at hx12
    refine x_iload_n (q := 3) hC d_Ne_startLengths_2 rfl rfl rfl ?_
    refine x_bipush (q := 5) (v := nI 6) hC d_Ne_startLengths_3 (by decide) rfl ?_
    refine x_icmp_ge (tgt := 68) (q := 8) hC d_Ne_startLengths_5 (by decide) rfl (fun _ => ?_) (fun h => absurd (nI_le (Nat.le_refl _) (by decide)) h)
    subst e14
    exact x_vret hC rfl ⟨rfl, rfl⟩ (by decide) (by decide) d_Ne_startLengths_68
set_option maxRecDepth 100000 in
set_option maxHeartbeats 4000000 in
theorem c_Ne_shortenBy {Γ : mx_X} {lau : Launch} {nx : Nat} {u : Nat → Nat → Bool} {mi : mx_Mm} {v : Nat} (hnx : 34 ≤ nx) (hu : ∀ p k, 2 ≤ p → u p k = true) (hv : v < 6) : mx_C Γ lau M_Ne_shortenBy [.ref 5, .int (nI v)] (nx, u, mi) (fun ρ τ => ρ = none ∧ τ = (nx, u, Ne_sh v mi)) := by
  refine mx_C.intro (by decide) rfl (Nat.le_of_ble_eq_true rfl) (fun κ _ hC => ?_)
  show mx_G Γ κ _ _ 0 [(0, .ref 5), (1, .int (nI v))] [] (nx, u, mi) 0 0
  refine x_iconst (q := 1) (v := nI 0) hC d_Ne_shortenBy_0 (by decide) rfl ?_
  refine x_istore_n (q := 2) (L1 := [(2, .int (nI 0)), (0, .ref 5), (1, .int (nI v))]) hC d_Ne_shortenBy_1 rfl (by decide) rfl rfl ?_
  refine x_sub (L1 := [(2, .int (nI 0)), (0, .ref 5), (1, .int (nI v))]) [0, 1, 2] rfl ?_
  refine mx_loop (N := 6) (Hd := fun a m1 => mx_G Γ κ _ _ 2 [(2, .int (nI a)), (0, .ref 5), (1, .int (nI v))] [] (nx, u, m1) 0 0) (fun a => mx_lp 6 (Ne_sh1 v a)) (fun _ _ => True) trivial ?_ ?_ ?_
  · exact fun _ _ _ _ => trivial
  · intro a m1 hl2 hI3 hN4
    refine x_iload_n (q := 3) hC d_Ne_shortenBy_2 rfl rfl rfl ?_
    refine x_bipush (q := 5) (v := nI 6) hC d_Ne_shortenBy_3 (by decide) rfl ?_
    refine x_icmp_ge (tgt := 64) (q := 8) hC d_Ne_shortenBy_5 (by decide) rfl (fun h => absurd h (nI_ge hl2 (by decide))) (fun _ => ?_)
    refine x_iconst (q := 9) (v := nI 0) hC d_Ne_shortenBy_8 (by decide) rfl ?_
    refine x_istore_n (q := 10) (L1 := [(3, .int (nI 0)), (2, .int (nI a)), (0, .ref 5), (1, .int (nI v))]) hC d_Ne_shortenBy_9 rfl (by decide) rfl rfl ?_
    refine x_sub (L1 := [(3, .int (nI 0)), (2, .int (nI a)), (0, .ref 5), (1, .int (nI v))]) [0, 1, 2, 3] rfl ?_
    refine mx_loop (N := 6) (Hd := fun b m5 => mx_G Γ κ _ _ 10 [(3, .int (nI b)), (2, .int (nI a)), (0, .ref 5), (1, .int (nI v))] [] (nx, u, m5) 0 0) (Ne_sh1 v a) (fun _ _ => True) trivial ?_ ?_ ?_
    · exact fun _ _ _ _ => trivial
    · intro b m5 hl6 hI7 hN8
      refine x_iload_n (q := 11) hC d_Ne_shortenBy_10 rfl rfl rfl ?_
      refine x_bipush (q := 13) (v := nI 6) hC d_Ne_shortenBy_11 (by decide) rfl ?_
      refine x_icmp_ge (tgt := 58) (q := 16) hC d_Ne_shortenBy_13 (by decide) rfl (fun h => absurd h (nI_ge hl6 (by decide))) (fun _ => ?_)
      refine x_aload_n (q := 17) hC d_Ne_shortenBy_16 rfl rfl rfl ?_
      refine x_getr (q := 20) (p := 5) (j := 1) (r := 13) hC f_Ne_16 rfl rfl rfl (by omega) (hu _ _ (by decide)) d_Ne_shortenBy_17 rfl ?_
      refine x_iload_n (q := 21) hC d_Ne_shortenBy_20 rfl rfl rfl ?_
      refine x_aald (q := 22) (p := 13) (r := 14 + a) hC a (mr_13 _ (by omega)) rfl (by omega) rfl (by omega) (by decide) d_Ne_shortenBy_21 rfl ?_
      refine x_iload_n (q := 23) hC d_Ne_shortenBy_22 rfl rfl rfl ?_
      refine x_aload_n (q := 24) hC d_Ne_shortenBy_23 rfl rfl rfl ?_
      refine x_getr (q := 27) (p := 5) (j := 1) (r := 13) hC f_Ne_16 rfl rfl rfl (by omega) (hu _ _ (by decide)) d_Ne_shortenBy_24 rfl ?_
      refine x_iload_n (q := 28) hC d_Ne_shortenBy_27 rfl rfl rfl ?_
      refine x_aald (q := 29) (p := 13) (r := 14 + a) hC a (mr_13 _ (by omega)) rfl (by omega) rfl (by omega) (by decide) d_Ne_shortenBy_28 rfl ?_
      refine x_iload_n (q := 30) hC d_Ne_shortenBy_29 rfl rfl rfl ?_
      refine x_iald (q := 31) (p := 14 + a) hC b (sh_14 _ (by omega)) (by omega) rfl (by omega) (by decide) d_Ne_shortenBy_30 rfl ?_
      refine x_aload_n (q := 32) hC d_Ne_shortenBy_31 rfl rfl rfl ?_
      refine x_getr (q := 35) (p := 5) (j := 1) (r := 13) hC f_Ne_16 rfl rfl rfl (by omega) (hu _ _ (by decide)) d_Ne_shortenBy_32 rfl ?_
      refine x_iload_n (q := 36) hC d_Ne_shortenBy_35 rfl rfl rfl ?_
      refine x_aald (q := 37) (p := 13) (r := 14 + a) hC a (mr_13 _ (by omega)) rfl (by omega) rfl (by omega) (by decide) d_Ne_shortenBy_36 rfl ?_
      refine x_iload_n (q := 38) hC d_Ne_shortenBy_37 rfl rfl rfl ?_
      refine x_iald (q := 39) (p := 14 + a) hC v (sh_14 _ (by omega)) (by omega) rfl (by omega) (by decide) d_Ne_shortenBy_38 rfl ?_
      refine x_aload_n (q := 40) hC d_Ne_shortenBy_39 rfl rfl rfl ?_
      refine x_getr (q := 43) (p := 5) (j := 1) (r := 13) hC f_Ne_16 rfl rfl rfl (by omega) (hu _ _ (by decide)) d_Ne_shortenBy_40 rfl ?_
      refine x_iload_n (q := 44) hC d_Ne_shortenBy_43 rfl rfl rfl ?_
      refine x_aald (q := 45) (p := 13) (r := 14 + v) hC v (mr_13 _ (by omega)) rfl (by omega) rfl (by omega) (by decide) d_Ne_shortenBy_44 rfl ?_
      refine x_iload_n (q := 46) hC d_Ne_shortenBy_45 rfl rfl rfl ?_
      refine x_iald (q := 47) (p := 14 + v) hC b (sh_14 _ (by omega)) (by omega) rfl (by omega) (by decide) d_Ne_shortenBy_46 rfl ?_
      refine x_iadd (q := 48) (z := (m5 (14 + a) v) + (m5 (14 + v) b)) hC d_Ne_shortenBy_47 rfl rfl ?_
      refine x_callS (q := 51) (A := [.int (m5 (14 + a) b), .int ((m5 (14 + a) v) + (m5 (14 + v) b))]) (S := [.int (nI b), .ref (14 + a)]) (c1 := 0) (s1 := 0) hC (c_JM_min) s_Ne_shortenBy_46 rfl rfl rfl (Nat.le_of_ble_eq_true rfl) rfl rfl (by decide) (by decide) d_Ne_shortenBy_48 rfl (fun r τ hP => ?_)
      obtain ⟨rfl, rfl⟩ := hP
      show mx_G Γ κ _ _ 51 [(3, .int (nI b)), (2, .int (nI a)), (0, .ref 5), (1, .int (nI v))] [.int (pm_n (m5 (14 + a) b) ((m5 (14 + a) v) + (m5 (14 + v) b))), .int (nI b), .ref (14 + a)] (nx, u, m5) 0 0
      refine x_iast (q := 52) (p := 14 + a) hC b (sh_14 _ (by omega)) (by omega) (by omega) rfl (by omega) (by decide) d_Ne_shortenBy_51 rfl ?_
      refine mx_nr (fun m9 e10 => ?_)
      refine x_iinc (q := 55) (y := nI (b + 1)) (L1 := [(3, .int (nI (b + 1))), (2, .int (nI a)), (0, .ref 5), (1, .int (nI v))]) hC d_Ne_shortenBy_52 rfl (mx_inc b) (by decide) rfl rfl ?_
      refine x_goto (tgt := 10) hC d_Ne_shortenBy_55 (by decide) ?_
      subst e10
      exact x_close hN8 [0, 1, 2, 3] rfl (by rfl)
    · intro hx11
      refine mx_nr (fun m12 e13 => ?_)
      try rw [e13] at hx11
      refine x_iload_n (q := 11) hC d_Ne_shortenBy_10 rfl rfl rfl ?_
      refine x_bipush (q := 13) (v := nI 6) hC d_Ne_shortenBy_11 (by decide) rfl ?_
      refine x_icmp_ge (tgt := 58) (q := 16) hC d_Ne_shortenBy_13 (by decide) rfl (fun _ => ?_) (fun h => absurd (nI_le (Nat.le_refl _) (by decide)) h)
      refine x_iinc (q := 61) (y := nI (a + 1)) (L1 := [(2, .int (nI (a + 1))), (3, .int (nI 6)), (0, .ref 5), (1, .int (nI v))]) hC d_Ne_shortenBy_58 rfl (mx_inc a) (by decide) rfl rfl ?_
      refine x_goto (tgt := 2) hC d_Ne_shortenBy_61 (by decide) ?_
      subst e13
      exact x_close hN4 [0, 2, 3] rfl (by rfl)
  · intro hx14
    refine mx_nr (fun m15 e16 => ?_)
    try rw [e16] at hx14
    refine x_iload_n (q := 3) hC d_Ne_shortenBy_2 rfl rfl rfl ?_
    refine x_bipush (q := 5) (v := nI 6) hC d_Ne_shortenBy_3 (by decide) rfl ?_
    refine x_icmp_ge (tgt := 64) (q := 8) hC d_Ne_shortenBy_5 (by decide) rfl (fun _ => ?_) (fun h => absurd (nI_le (Nat.le_refl _) (by decide)) h)
    subst e16
    exact x_vret hC rfl ⟨rfl, rfl⟩ (by decide) (by decide) d_Ne_shortenBy_64
set_option maxRecDepth 100000 in
set_option maxHeartbeats 4000000 in
theorem c_Ne_findNext {Γ : mx_X} {lau : Launch} {nx : Nat} {u : Nat → Nat → Bool} {mi : mx_Mm} {a t : Nat} (hnx : 34 ≤ nx) (hu : ∀ p k, 2 ≤ p → u p k = true) (ha : a < 6) (ht : t < 6) : mx_C Γ lau M_Ne_findNext [.ref 5, .int (nI a), .int (nI t)] (nx, u, mi) (fun ρ τ => ρ = some (.int (Ne_next a t mi)) ∧ τ = (nx, u, mi)) := by
  refine mx_C.intro (by decide) rfl (Nat.le_of_ble_eq_true rfl) (fun κ _ hC => ?_)
  show mx_G Γ κ _ _ 0 [(0, .ref 5), (1, .int (nI a)), (2, .int (nI t))] [] (nx, u, mi) 0 0
  refine x_iload_n (q := 1) hC d_Ne_findNext_0 rfl rfl rfl ?_
  refine x_iload_n (q := 2) hC d_Ne_findNext_1 rfl rfl rfl ?_
  refine x_icmp_eq (tgt := 14) (q := 5) hC d_Ne_findNext_2 (by decide) rfl (fun h2 => ?_) (fun h2 => ?_)
  · skip
    refine x_iconst (q := 15) (v := (-1)) hC d_Ne_findNext_14 (by decide) rfl ?_
    exact x_iret hC rfl rfl ⟨by unfold Ne_next; first | (rw [if_pos (Or.inl ((nI_eq (by omega) (by omega)).mp h2))]; done) | (rw [if_pos (Or.inr h11)]; done) | (rw [if_neg (fun q => q.elim (fun z => h2 (by rw [z])) (fun z => z h11)), if_neg (by rw [pm_fd_none hx]; decide)]; done) | (rw [if_neg (fun q => q.elim (fun z => h2 (by rw [z])) (fun z => z h11)), pm_fd_eq hl1 (decide_eq_true ⟨h30, h58⟩) hn2, if_pos hl1]; done), rfl⟩ (by decide) (by decide) d_Ne_findNext_15
  · skip
    refine x_aload_n (q := 6) hC d_Ne_findNext_5 rfl rfl rfl ?_
    refine x_iload_n (q := 7) hC d_Ne_findNext_6 rfl rfl rfl ?_
    refine x_iload_n (q := 8) hC d_Ne_findNext_7 rfl rfl rfl ?_
    refine x_callV (q := 11) (p := 5) (A := [.int (nI a), .int (nI t)]) (S := []) (c1 := 0) (s1 := 0) hC (c_Ne_areConnected (a := a) (b := t) (by omega) hu (by omega) (by omega)) s_Ne_findNext_51 rfl (by omega) rfl rfl rfl (Nat.le_of_ble_eq_true rfl) rfl rfl (by decide) (by decide) d_Ne_findNext_8 rfl (fun r τ hP => ?_)
    obtain ⟨rfl, rfl⟩ := hP
    show mx_G Γ κ _ _ 11 [(0, .ref 5), (1, .int (nI a)), (2, .int (nI t))] [.int (bz (mi (14 + a) t < nI 1000))] (nx, u, mi) 0 0
    refine x_if_ne (tgt := 16) (q := 14) hC d_Ne_findNext_11 (by decide) rfl (fun h11 => ?_) (fun h11 => ?_)
    · have h11 := bz_1 h11
      refine x_iconst (q := 17) (v := nI 0) hC d_Ne_findNext_16 (by decide) rfl ?_
      refine x_istore_n (q := 18) (L1 := [(3, .int (nI 0)), (0, .ref 5), (1, .int (nI a)), (2, .int (nI t))]) hC d_Ne_findNext_17 rfl (by decide) rfl rfl ?_
      refine x_sub (L1 := [(3, .int (nI 0)), (0, .ref 5), (1, .int (nI a)), (2, .int (nI t))]) [0, 1, 2, 3] rfl ?_
      refine mx_loopR (N := 6) (Hd := fun n => mx_G Γ κ _ _ 18 [(3, .int (nI n)), (0, .ref 5), (1, .int (nI a)), (2, .int (nI t))] [] (nx, u, mi) 0 0) (Ne_nt a t mi) ?_ ?_
      · intro n hl1 hn2 hN3
        refine x_iload_n (q := 19) hC d_Ne_findNext_18 rfl rfl rfl ?_
        refine x_bipush (q := 21) (v := nI 6) hC d_Ne_findNext_19 (by decide) rfl ?_
        refine x_icmp_ge (tgt := 69) (q := 24) hC d_Ne_findNext_21 (by decide) rfl (fun h => absurd h (nI_ge hl1 (by decide))) (fun _ => ?_)
        refine x_aload_n (q := 25) hC d_Ne_findNext_24 rfl rfl rfl ?_
        refine x_iload_n (q := 26) hC d_Ne_findNext_25 rfl rfl rfl ?_
        refine x_iload_n (q := 27) hC d_Ne_findNext_26 rfl rfl rfl ?_
        refine x_callV (q := 30) (p := 5) (A := [.int (nI a), .int (nI n)]) (S := []) (c1 := 0) (s1 := 0) hC (c_Ne_areLinked (a := a) (b := n) (by omega) hu (by omega) (by omega)) s_Ne_findNext_42 rfl (by omega) rfl rfl rfl (Nat.le_of_ble_eq_true rfl) rfl rfl (by decide) (by decide) d_Ne_findNext_27 rfl (fun r τ hP => ?_)
        obtain ⟨rfl, rfl⟩ := hP
        show mx_G Γ κ _ _ 30 [(3, .int (nI n)), (0, .ref 5), (1, .int (nI a)), (2, .int (nI t))] [.int (bz (¬ mi (7 + a) n = 0))] (nx, u, mi) 0 0
        refine x_if_eq (tgt := 63) (q := 33) hC d_Ne_findNext_30 (by decide) rfl (fun h30 => ?_) (fun h30 => ?_)
        · have h30 := bz_0 h30
          refine x_iinc (q := 66) (y := nI (n + 1)) (L1 := [(3, .int (nI (n + 1))), (0, .ref 5), (1, .int (nI a)), (2, .int (nI t))]) hC d_Ne_findNext_63 rfl (mx_inc n) (by decide) rfl rfl ?_
          refine x_goto (tgt := 18) hC d_Ne_findNext_66 (by decide) ?_
          exact x_sub [0, 1, 2, 3] rfl (hN3 (by simp only [Ne_nt]; first | exact decide_eq_false (fun q => h30 q.1) | exact decide_eq_false (fun q => h58 q.2)))
        · have h30 := bz_1 h30
          refine x_aload_n (q := 34) hC d_Ne_findNext_33 rfl rfl rfl ?_
          refine x_getr (q := 37) (p := 5) (j := 0) (r := 6) hC f_Ne_11 rfl rfl rfl (by omega) (hu _ _ (by decide)) d_Ne_findNext_34 rfl ?_
          refine x_iload_n (q := 38) hC d_Ne_findNext_37 rfl rfl rfl ?_
          refine x_aald (q := 39) (p := 6) (r := 7 + a) hC a (mr_6 _ (by omega)) rfl (by omega) rfl (by omega) (by decide) d_Ne_findNext_38 rfl ?_
          refine x_iload_n (q := 40) hC d_Ne_findNext_39 rfl rfl rfl ?_
          refine x_iald (q := 41) (p := 7 + a) hC n (sh_7 _ (by omega)) (by omega) rfl (by omega) (by decide) d_Ne_findNext_40 rfl ?_
          refine x_aload_n (q := 42) hC d_Ne_findNext_41 rfl rfl rfl ?_
          refine x_getr (q := 45) (p := 5) (j := 1) (r := 13) hC f_Ne_16 rfl rfl rfl (by omega) (hu _ _ (by decide)) d_Ne_findNext_42 rfl ?_
          refine x_iload_n (q := 46) hC d_Ne_findNext_45 rfl rfl rfl ?_
          refine x_aald (q := 47) (p := 13) (r := 14 + n) hC n (mr_13 _ (by omega)) rfl (by omega) rfl (by omega) (by decide) d_Ne_findNext_46 rfl ?_
          refine x_iload_n (q := 48) hC d_Ne_findNext_47 rfl rfl rfl ?_
          refine x_iald (q := 49) (p := 14 + n) hC t (sh_14 _ (by omega)) (by omega) rfl (by omega) (by decide) d_Ne_findNext_48 rfl ?_
          refine x_iadd (q := 50) (z := (mi (7 + a) n) + (mi (14 + n) t)) hC d_Ne_findNext_49 rfl rfl ?_
          refine x_aload_n (q := 51) hC d_Ne_findNext_50 rfl rfl rfl ?_
          refine x_getr (q := 54) (p := 5) (j := 1) (r := 13) hC f_Ne_16 rfl rfl rfl (by omega) (hu _ _ (by decide)) d_Ne_findNext_51 rfl ?_
          refine x_iload_n (q := 55) hC d_Ne_findNext_54 rfl rfl rfl ?_
          refine x_aald (q := 56) (p := 13) (r := 14 + a) hC a (mr_13 _ (by omega)) rfl (by omega) rfl (by omega) (by decide) d_Ne_findNext_55 rfl ?_
          refine x_iload_n (q := 57) hC d_Ne_findNext_56 rfl rfl rfl ?_
          refine x_iald (q := 58) (p := 14 + a) hC t (sh_14 _ (by omega)) (by omega) rfl (by omega) (by decide) d_Ne_findNext_57 rfl ?_
          refine x_icmp_ne (tgt := 63) (q := 61) hC d_Ne_findNext_58 (by decide) rfl (fun h58 => ?_) (fun h58 => ?_)
          · skip
            refine x_iinc (q := 66) (y := nI (n + 1)) (L1 := [(3, .int (nI (n + 1))), (0, .ref 5), (1, .int (nI a)), (2, .int (nI t))]) hC d_Ne_findNext_63 rfl (mx_inc n) (by decide) rfl rfl ?_
            refine x_goto (tgt := 18) hC d_Ne_findNext_66 (by decide) ?_
            exact x_sub [0, 1, 2, 3] rfl (hN3 (by simp only [Ne_nt]; first | exact decide_eq_false (fun q => h30 q.1) | exact decide_eq_false (fun q => h58 q.2)))
          · skip
            refine x_iload_n (q := 62) hC d_Ne_findNext_61 rfl rfl rfl ?_
            exact x_iret hC rfl rfl ⟨by unfold Ne_next; first | (rw [if_pos (Or.inl ((nI_eq (by omega) (by omega)).mp h2))]; done) | (rw [if_pos (Or.inr h11)]; done) | (rw [if_neg (fun q => q.elim (fun z => h2 (by rw [z])) (fun z => z h11)), if_neg (by rw [pm_fd_none hx]; decide)]; done) | (rw [if_neg (fun q => q.elim (fun z => h2 (by rw [z])) (fun z => z h11)), pm_fd_eq hl1 (decide_eq_true ⟨h30, h58⟩) hn2, if_pos hl1]; done), rfl⟩ (by decide) (by decide) d_Ne_findNext_62
      · intro hx
        refine x_iload_n (q := 19) hC d_Ne_findNext_18 rfl rfl rfl ?_
        refine x_bipush (q := 21) (v := nI 6) hC d_Ne_findNext_19 (by decide) rfl ?_
        refine x_icmp_ge (tgt := 69) (q := 24) hC d_Ne_findNext_21 (by decide) rfl (fun _ => ?_) (fun h => absurd (nI_le (Nat.le_refl _) (by decide)) h)
        refine x_iconst (q := 70) (v := (-1)) hC d_Ne_findNext_69 (by decide) rfl ?_
        exact x_iret hC rfl rfl ⟨by unfold Ne_next; first | (rw [if_pos (Or.inl ((nI_eq (by omega) (by omega)).mp h2))]; done) | (rw [if_pos (Or.inr h11)]; done) | (rw [if_neg (fun q => q.elim (fun z => h2 (by rw [z])) (fun z => z h11)), if_neg (by rw [pm_fd_none hx]; decide)]; done) | (rw [if_neg (fun q => q.elim (fun z => h2 (by rw [z])) (fun z => z h11)), pm_fd_eq hl1 (decide_eq_true ⟨h30, h58⟩) hn2, if_pos hl1]; done), rfl⟩ (by decide) (by decide) d_Ne_findNext_70
    · have h11 := bz_0 h11
      refine x_iconst (q := 15) (v := (-1)) hC d_Ne_findNext_14 (by decide) rfl ?_
      exact x_iret hC rfl rfl ⟨by unfold Ne_next; first | (rw [if_pos (Or.inl ((nI_eq (by omega) (by omega)).mp h2))]; done) | (rw [if_pos (Or.inr h11)]; done) | (rw [if_neg (fun q => q.elim (fun z => h2 (by rw [z])) (fun z => z h11)), if_neg (by rw [pm_fd_none hx]; decide)]; done) | (rw [if_neg (fun q => q.elim (fun z => h2 (by rw [z])) (fun z => z h11)), pm_fd_eq hl1 (decide_eq_true ⟨h30, h58⟩) hn2, if_pos hl1]; done), rfl⟩ (by decide) (by decide) d_Ne_findNext_15
theorem mx_dec (p : Nat) : nI (p + 1) + Int32.ofInt (-1) = nI p := pk_m1 p
theorem Ne_w_le (t n : Nat) : ∀ (p : Nat) (m : mx_Mm), (Ne_w t n p m).1 ≤ p
  | 0, _ => Nat.le_refl _
  | p + 1, m => by
    unfold Ne_w
    split
    · exact Nat.le_trans (Ne_w_le t n p _) (by omega)
    · exact Nat.le_refl _
theorem Ne_w_ok (t n : Nat) (ht : t < 6) : ∀ (p : Nat) (m : mx_Mm), p < 6 → Ne_ok m → Ne_ok (Ne_w t n p m).2
  | 0, _, _, h => h
  | p + 1, m, hp, h => by
    unfold Ne_w
    split
    · exact Ne_w_ok t n ht p _ (by omega) (h.upR (h t p ht (by omega)))
    · exact h
theorem Ne_o1_ok {t n : Nat} (ht : t < 6) (hn : n < 6) {m : mx_Mm} (h : Ne_ok m) : Ne_ok (Ne_o1 t n m) := (Ne_w_ok t n ht n m (by omega) h).upR ⟨n, hn, rfl⟩
theorem Ne_order_ok {t : Nat} (ht : t < 6) {m : mx_Mm} (h : Ne_ok m) : Ne_ok (Ne_order t m) := lp_keep Ne_ok 6 h (fun _ _ hi h => Ne_o1_ok ht hi h)
set_option maxRecDepth 100000 in
set_option maxHeartbeats 4000000 in
theorem c_Ne_orderTowards {Γ : mx_X} {lau : Launch} {nx : Nat} {u : Nat → Nat → Bool} {mi : mx_Mm} {t : Nat} (hnx : 34 ≤ nx) (hu : ∀ p k, 2 ≤ p → u p k = true) (ht : t < 6) (hk : Ne_ok mi) : mx_C Γ lau M_Ne_orderTowards [.ref 5, .int (nI t)] (nx, u, mi) (fun ρ τ => ρ = none ∧ τ = (nx, u, Ne_order t mi)) := by
  refine mx_C.intro (by decide) rfl (Nat.le_of_ble_eq_true rfl) (fun κ _ hC => ?_)
  show mx_G Γ κ _ _ 0 [(0, .ref 5), (1, .int (nI t))] [] (nx, u, mi) 0 0
  refine x_aload_n (q := 1) hC d_Ne_orderTowards_0 rfl rfl rfl ?_
  refine x_getr (q := 4) (p := 5) (j := 3) (r := 27) hC f_Ne_22 rfl rfl rfl (by omega) (hu _ _ (by decide)) d_Ne_orderTowards_1 rfl ?_
  refine x_iload_n (q := 5) hC d_Ne_orderTowards_4 rfl rfl rfl ?_
  refine x_aald (q := 6) (p := 27) (r := 28 + t) hC t (mr_27 _ (by omega)) rfl (by omega) rfl (by omega) (by decide) d_Ne_orderTowards_5 rfl ?_
  refine x_astore_n (q := 7) (L1 := [(2, .ref (28 + t)), (0, .ref 5), (1, .int (nI t))]) hC d_Ne_orderTowards_6 rfl (by decide) rfl rfl ?_
  refine x_iconst (q := 8) (v := nI 0) hC d_Ne_orderTowards_7 (by decide) rfl ?_
  refine x_istore_n (q := 9) (L1 := [(3, .int (nI 0)), (2, .ref (28 + t)), (0, .ref 5), (1, .int (nI t))]) hC d_Ne_orderTowards_8 rfl (by decide) rfl rfl ?_
  refine x_sub (L1 := [(3, .int (nI 0)), (2, .ref (28 + t)), (0, .ref 5), (1, .int (nI t))]) [0, 1, 2, 3] rfl ?_
  refine mx_loop (N := 6) (Hd := fun n m1 => mx_G Γ κ _ _ 9 [(3, .int (nI n)), (2, .ref (28 + t)), (0, .ref 5), (1, .int (nI t))] [] (nx, u, m1) 0 0) (Ne_o1 t) (fun _ m => Ne_ok m) hk ?_ ?_ ?_
  · exact fun i m hi h => Ne_o1_ok ht hi h
  · intro n m1 hl2 hI3 hN4
    refine x_iload_n (q := 10) hC d_Ne_orderTowards_9 rfl rfl rfl ?_
    refine x_bipush (q := 12) (v := nI 6) hC d_Ne_orderTowards_10 (by decide) rfl ?_
    refine x_icmp_ge (tgt := 74) (q := 15) hC d_Ne_orderTowards_12 (by decide) rfl (fun h => absurd h (nI_ge hl2 (by decide))) (fun _ => ?_)
    refine x_iload_n (q := 16) hC d_Ne_orderTowards_15 rfl rfl rfl ?_
    refine x_istore (q := 18) (L1 := [(4, .int (nI n)), (3, .int (nI n)), (2, .ref (28 + t)), (0, .ref 5), (1, .int (nI t))]) hC d_Ne_orderTowards_16 (by decide) rfl rfl ?_
    have hW : ∀ p m, p ≤ n → Ne_ok m → mx_G Γ κ M_Ne_orderTowards (MQ (mx_b κ) (mx_Qc Γ (fun ρ τ => ρ = none ∧ τ = (nx, u, Ne_order t mi))) (mx_a κ) (mx_s κ) M_Ne_orderTowards.2.2.2.2.cells M_Ne_orderTowards.2.2.2.2.slots (mx_fr Γ)) 63 [(4, .int (nI ((Ne_w t n p m).1))), (3, .int (nI n)), (2, .ref (28 + t)), (0, .ref 5), (1, .int (nI t))] [] (nx, u, (Ne_w t n p m).2) 0 0 → mx_G Γ κ M_Ne_orderTowards (MQ (mx_b κ) (mx_Qc Γ (fun ρ τ => ρ = none ∧ τ = (nx, u, Ne_order t mi))) (mx_a κ) (mx_s κ) M_Ne_orderTowards.2.2.2.2.cells M_Ne_orderTowards.2.2.2.2.slots (mx_fr Γ)) 18 [(4, .int (nI p)), (3, .int (nI n)), (2, .ref (28 + t)), (0, .ref 5), (1, .int (nI t))] [] (nx, u, m) 0 0 := by
      intro p
      induction p with
      | zero =>
        intro m hp hk2 hE
        refine x_iload (q := 20) hC d_Ne_orderTowards_18 rfl rfl ?_
        refine x_if_le (tgt := 63) (q := 23) hC d_Ne_orderTowards_20 (by decide) rfl (fun _ => ?_) (fun h => absurd (by decide) h)
        exact hE
      | succ p ih =>
        intro m hp hk2 hE
        obtain ⟨eo, ho⟩ := hk2.tn (t := t) (k := p) ht (by omega)
        refine x_iload (q := 20) hC d_Ne_orderTowards_18 rfl rfl ?_
        refine x_if_le (tgt := 63) (q := 23) hC d_Ne_orderTowards_20 (by decide) rfl (fun h => absurd h (nI_nle (by omega) (by omega))) (fun _ => ?_)
        refine x_aload_n (q := 24) hC d_Ne_orderTowards_23 rfl rfl rfl ?_
        refine x_getr (q := 27) (p := 5) (j := 1) (r := 13) hC f_Ne_16 rfl rfl rfl (by omega) (hu _ _ (by decide)) d_Ne_orderTowards_24 rfl ?_
        refine x_aload_n (q := 28) hC d_Ne_orderTowards_27 rfl rfl rfl ?_
        refine x_iload (q := 30) hC d_Ne_orderTowards_28 rfl rfl ?_
        refine x_iconst (q := 31) (v := nI 1) hC d_Ne_orderTowards_30 (by decide) rfl ?_
        refine x_isub (q := 32) (z := nI p) hC d_Ne_orderTowards_31 (by rw [pk_sub (by omega)]; rfl) rfl ?_
        refine x_iald (q := 33) (p := 28 + t) hC p (sh_28 _ (by omega)) (by omega) rfl (by omega) (by decide) d_Ne_orderTowards_32 rfl ?_
        refine x_aald (q := 34) (p := 13) (r := 14 + (tn (m (28 + t) p))) hC (tn (m (28 + t) p)) (mr_13 _ (by omega)) rfl (by omega) eo ho (by decide) d_Ne_orderTowards_33 rfl ?_
        refine x_iload_n (q := 35) hC d_Ne_orderTowards_34 rfl rfl rfl ?_
        refine x_iald (q := 36) (p := 14 + (tn (m (28 + t) p))) hC t (sh_14 _ (by omega)) (by omega) rfl (by omega) (by decide) d_Ne_orderTowards_35 rfl ?_
        refine x_aload_n (q := 37) hC d_Ne_orderTowards_36 rfl rfl rfl ?_
        refine x_getr (q := 40) (p := 5) (j := 1) (r := 13) hC f_Ne_16 rfl rfl rfl (by omega) (hu _ _ (by decide)) d_Ne_orderTowards_37 rfl ?_
        refine x_iload_n (q := 41) hC d_Ne_orderTowards_40 rfl rfl rfl ?_
        refine x_aald (q := 42) (p := 13) (r := 14 + n) hC n (mr_13 _ (by omega)) rfl (by omega) rfl (by omega) (by decide) d_Ne_orderTowards_41 rfl ?_
        refine x_iload_n (q := 43) hC d_Ne_orderTowards_42 rfl rfl rfl ?_
        refine x_iald (q := 44) (p := 14 + n) hC t (sh_14 _ (by omega)) (by omega) rfl (by omega) (by decide) d_Ne_orderTowards_43 rfl ?_
        refine x_icmp_ge (tgt := 63) (q := 47) hC d_Ne_orderTowards_44 (by decide) rfl (fun h44 => ?_) (fun h44 => ?_)
        · skip
          exact (by rw [Ne_w, if_neg (Int32.not_lt.mpr h44)] at hE; exact hE)
        · skip
          refine x_aload_n (q := 48) hC d_Ne_orderTowards_47 rfl rfl rfl ?_
          refine x_iload (q := 50) hC d_Ne_orderTowards_48 rfl rfl ?_
          refine x_aload_n (q := 51) hC d_Ne_orderTowards_50 rfl rfl rfl ?_
          refine x_iload (q := 53) hC d_Ne_orderTowards_51 rfl rfl ?_
          refine x_iconst (q := 54) (v := nI 1) hC d_Ne_orderTowards_53 (by decide) rfl ?_
          refine x_isub (q := 55) (z := nI p) hC d_Ne_orderTowards_54 (by rw [pk_sub (by omega)]; rfl) rfl ?_
          refine x_iald (q := 56) (p := 28 + t) hC p (sh_28 _ (by omega)) (by omega) rfl (by omega) (by decide) d_Ne_orderTowards_55 rfl ?_
          refine x_iast (q := 57) (p := 28 + t) hC (p + 1) (sh_28 _ (by omega)) (by omega) (by omega) rfl (by omega) (by decide) d_Ne_orderTowards_56 rfl ?_
          refine x_iinc (q := 60) (y := nI p) (L1 := [(4, .int (nI p)), (3, .int (nI n)), (2, .ref (28 + t)), (0, .ref 5), (1, .int (nI t))]) hC d_Ne_orderTowards_57 rfl (mx_dec p) (by decide) rfl rfl ?_
          refine x_goto (tgt := 18) hC d_Ne_orderTowards_60 (by decide) ?_
          exact x_sub [0, 1, 2, 3, 4] rfl (ih _ (by omega) (hk2.upR (hk2 t p ht (by omega))) (by rw [Ne_w, if_pos (Int32.not_le.mp h44)] at hE; exact hE))
    refine x_sub (L1 := [(4, .int (nI n)), (3, .int (nI n)), (2, .ref (28 + t)), (0, .ref 5), (1, .int (nI t))]) [0, 1, 2, 3, 4] rfl ?_
    refine hW n m1 (Nat.le_refl _) hI3 ?_
    have hw1 := Ne_w_le t n n m1
    refine x_aload_n (q := 64) hC d_Ne_orderTowards_63 rfl rfl rfl ?_
    refine x_iload (q := 66) hC d_Ne_orderTowards_64 rfl rfl ?_
    refine x_iload_n (q := 67) hC d_Ne_orderTowards_66 rfl rfl rfl ?_
    refine x_iast (q := 68) (p := 28 + t) hC ((Ne_w t n n m1).1) (sh_28 _ (by omega)) (by omega) (by omega) rfl (by omega) (by decide) d_Ne_orderTowards_67 rfl ?_
    refine mx_nr (fun m5 e6 => ?_)
    refine x_iinc (q := 71) (y := nI (n + 1)) (L1 := [(3, .int (nI (n + 1))), (4, .int (nI ((Ne_w t n n m1).1))), (2, .ref (28 + t)), (0, .ref 5), (1, .int (nI t))]) hC d_Ne_orderTowards_68 rfl (mx_inc n) (by decide) rfl rfl ?_
    refine x_goto (tgt := 9) hC d_Ne_orderTowards_71 (by decide) ?_
    subst e6
    exact x_close hN4 [0, 2, 3, 4] rfl (by rfl)
  · intro hx7
    refine mx_nr (fun m8 e9 => ?_)
    try rw [e9] at hx7
    refine x_iload_n (q := 10) hC d_Ne_orderTowards_9 rfl rfl rfl ?_
    refine x_bipush (q := 12) (v := nI 6) hC d_Ne_orderTowards_10 (by decide) rfl ?_
    refine x_icmp_ge (tgt := 74) (q := 15) hC d_Ne_orderTowards_12 (by decide) rfl (fun _ => ?_) (fun h => absurd (nI_le (Nat.le_refl _) (by decide)) h)
    subst e9
    exact x_vret hC rfl ⟨rfl, rfl⟩ (by decide) (by decide) d_Ne_orderTowards_74
theorem lp_ok {f : Nat → mx_Mm → mx_Mm} {n : Nat} {m : mx_Mm} (h : Ne_ok m) (hf : ∀ i m, i < n → Ne_ok m → Ne_ok (f i m)) : Ne_ok (mx_lp n f m) := lp_keep Ne_ok n h hf
theorem Ne_start_ok {m : mx_Mm} (h : Ne_ok m) : Ne_ok (Ne_start m) := lp_ok h (fun a m ha h => (lp_ok h (fun b m hb h => h.upP (by omega))).upP (by omega))
theorem Ne_sh_ok {v : Nat} {m : mx_Mm} (h : Ne_ok m) : Ne_ok (Ne_sh v m) := lp_ok h (fun a m ha h => lp_ok h (fun b m hb h => h.upP (by omega)))
theorem Ne_m1s_ok {t : Nat} {m : mx_Mm} (h : Ne_ok m) : Ne_ok (mx_lp 6 (Ne_m1 t) m) := lp_ok h (fun a m ha h => h.upP (by omega))
theorem Ne_m2_ok {t : Nat} (ht : t < 6) {m : mx_Mm} (h : Ne_ok m) : Ne_ok (Ne_m2 t m) := Ne_order_ok ht (Ne_m1s_ok h)
theorem Ne_measure_ok {m : mx_Mm} (h : Ne_ok m) : Ne_ok (Ne_measure m) := lp_ok (lp_ok (Ne_start_ok h) (fun v m _ h => Ne_sh_ok h)) (fun t m ht h => Ne_m2_ok ht h)
set_option maxRecDepth 100000 in
set_option maxHeartbeats 4000000 in
theorem c_Ne_measure {Γ : mx_X} {lau : Launch} {nx : Nat} {u : Nat → Nat → Bool} {mi : mx_Mm}  (hnx : 34 ≤ nx) (hu : ∀ p k, 2 ≤ p → u p k = true) (hk : Ne_ok mi) : mx_C Γ lau M_Ne_measure [.ref 5] (nx, u, mi) (fun ρ τ => ρ = none ∧ τ = (nx, u, Ne_measure mi)) := by
  refine mx_C.intro (by decide) rfl (Nat.le_of_ble_eq_true rfl) (fun κ _ hC => ?_)
  show mx_G Γ κ _ _ 0 [(0, .ref 5)] [] (nx, u, mi) 0 0
  refine x_aload_n (q := 1) hC d_Ne_measure_0 rfl rfl rfl ?_
  refine x_callV (q := 4) (p := 5) (A := []) (S := []) (c1 := 0) (s1 := 0) hC (c_Ne_startLengths (by omega) hu) s_Ne_measure_28 rfl (by omega) rfl rfl rfl (Nat.le_of_ble_eq_true rfl) rfl rfl (by decide) (by decide) d_Ne_measure_1 rfl (fun r τ hP => ?_)
  obtain ⟨rfl, rfl⟩ := hP
  show mx_G Γ κ _ _ 4 [(0, .ref 5)] [] (nx, u, Ne_start mi) 0 0
  refine x_iconst (q := 5) (v := nI 0) hC d_Ne_measure_4 (by decide) rfl ?_
  refine x_istore_n (q := 6) (L1 := [(1, .int (nI 0)), (0, .ref 5)]) hC d_Ne_measure_5 rfl (by decide) rfl rfl ?_
  refine x_sub (L1 := [(1, .int (nI 0)), (0, .ref 5)]) [0, 1] rfl ?_
  refine mx_loop (N := 6) (Hd := fun v m1 => mx_G Γ κ _ _ 6 [(1, .int (nI v)), (0, .ref 5)] [] (nx, u, m1) 0 0) (Ne_sh) (fun _ _ => True) trivial ?_ ?_ ?_
  · exact fun _ _ _ _ => trivial
  · intro v m1 hl2 hI3 hN4
    refine x_iload_n (q := 7) hC d_Ne_measure_6 rfl rfl rfl ?_
    refine x_bipush (q := 9) (v := nI 6) hC d_Ne_measure_7 (by decide) rfl ?_
    refine x_icmp_ge (tgt := 23) (q := 12) hC d_Ne_measure_9 (by decide) rfl (fun h => absurd h (nI_ge hl2 (by decide))) (fun _ => ?_)
    refine x_aload_n (q := 13) hC d_Ne_measure_12 rfl rfl rfl ?_
    refine x_iload_n (q := 14) hC d_Ne_measure_13 rfl rfl rfl ?_
    refine x_callV (q := 17) (p := 5) (A := [.int (nI v)]) (S := []) (c1 := 0) (s1 := 0) hC (c_Ne_shortenBy (v := v) (by omega) hu (by omega)) s_Ne_measure_31 rfl (by omega) rfl rfl rfl (Nat.le_of_ble_eq_true rfl) rfl rfl (by decide) (by decide) d_Ne_measure_14 rfl (fun r τ hP => ?_)
    obtain ⟨rfl, rfl⟩ := hP
    show mx_G Γ κ _ _ 17 [(1, .int (nI v)), (0, .ref 5)] [] (nx, u, Ne_sh v m1) 0 0
    refine x_iinc (q := 20) (y := nI (v + 1)) (L1 := [(1, .int (nI (v + 1))), (0, .ref 5)]) hC d_Ne_measure_17 rfl (mx_inc v) (by decide) rfl rfl ?_
    refine x_goto (tgt := 6) hC d_Ne_measure_20 (by decide) ?_
    exact x_close hN4 [0, 1] rfl (by rfl)
  · intro hx5
    refine mx_nr (fun m6 e7 => ?_)
    try rw [e7] at hx5
    refine x_iload_n (q := 7) hC d_Ne_measure_6 rfl rfl rfl ?_
    refine x_bipush (q := 9) (v := nI 6) hC d_Ne_measure_7 (by decide) rfl ?_
    refine x_icmp_ge (tgt := 23) (q := 12) hC d_Ne_measure_9 (by decide) rfl (fun _ => ?_) (fun h => absurd (nI_le (Nat.le_refl _) (by decide)) h)
    refine x_iconst (q := 24) (v := nI 0) hC d_Ne_measure_23 (by decide) rfl ?_
    refine x_istore_n (q := 25) (L1 := [(1, .int (nI 0)), (0, .ref 5)]) hC d_Ne_measure_24 rfl (by decide) rfl rfl ?_
    refine x_sub (L1 := [(1, .int (nI 0)), (0, .ref 5)]) [0, 1] rfl ?_
    refine mx_loop (N := 6) (Hd := fun t m8 => mx_G Γ κ _ _ 25 [(1, .int (nI t)), (0, .ref 5)] [] (nx, u, m8) 0 0) (Ne_m2) (fun _ m => Ne_ok m) (by subst_vars; exact lp_ok (Ne_start_ok hk) (fun v m _ h => Ne_sh_ok h)) ?_ ?_ ?_
    · exact fun t m ht h => Ne_m2_ok ht h
    · intro t m8 hl9 hI10 hN11
      refine x_iload_n (q := 26) hC d_Ne_measure_25 rfl rfl rfl ?_
      refine x_bipush (q := 28) (v := nI 6) hC d_Ne_measure_26 (by decide) rfl ?_
      refine x_icmp_ge (tgt := 70) (q := 31) hC d_Ne_measure_28 (by decide) rfl (fun h => absurd h (nI_ge hl9 (by decide))) (fun _ => ?_)
      refine x_iconst (q := 32) (v := nI 0) hC d_Ne_measure_31 (by decide) rfl ?_
      refine x_istore_n (q := 33) (L1 := [(2, .int (nI 0)), (1, .int (nI t)), (0, .ref 5)]) hC d_Ne_measure_32 rfl (by decide) rfl rfl ?_
      refine x_sub (L1 := [(2, .int (nI 0)), (1, .int (nI t)), (0, .ref 5)]) [0, 1, 2] rfl ?_
      refine mx_loop (N := 6) (Hd := fun a m12 => mx_G Γ κ _ _ 33 [(2, .int (nI a)), (1, .int (nI t)), (0, .ref 5)] [] (nx, u, m12) 0 0) (Ne_m1 t) (fun _ _ => True) trivial ?_ ?_ ?_
      · exact fun _ _ _ _ => trivial
      · intro a m12 hl13 hI14 hN15
        refine x_iload_n (q := 34) hC d_Ne_measure_33 rfl rfl rfl ?_
        refine x_bipush (q := 36) (v := nI 6) hC d_Ne_measure_34 (by decide) rfl ?_
        refine x_icmp_ge (tgt := 59) (q := 39) hC d_Ne_measure_36 (by decide) rfl (fun h => absurd h (nI_ge hl13 (by decide))) (fun _ => ?_)
        refine x_aload_n (q := 40) hC d_Ne_measure_39 rfl rfl rfl ?_
        refine x_getr (q := 43) (p := 5) (j := 2) (r := 20) hC f_Ne_19 rfl rfl rfl (by omega) (hu _ _ (by decide)) d_Ne_measure_40 rfl ?_
        refine x_iload_n (q := 44) hC d_Ne_measure_43 rfl rfl rfl ?_
        refine x_aald (q := 45) (p := 20) (r := 21 + a) hC a (mr_20 _ (by omega)) rfl (by omega) rfl (by omega) (by decide) d_Ne_measure_44 rfl ?_
        refine x_iload_n (q := 46) hC d_Ne_measure_45 rfl rfl rfl ?_
        refine x_aload_n (q := 47) hC d_Ne_measure_46 rfl rfl rfl ?_
        refine x_iload_n (q := 48) hC d_Ne_measure_47 rfl rfl rfl ?_
        refine x_iload_n (q := 49) hC d_Ne_measure_48 rfl rfl rfl ?_
        refine x_callV (q := 52) (p := 5) (A := [.int (nI a), .int (nI t)]) (S := [.int (nI t), .ref (21 + a)]) (c1 := 0) (s1 := 0) hC (c_Ne_findNext (a := a) (t := t) (by omega) hu (by omega) (by omega)) s_Ne_measure_35 rfl (by omega) rfl rfl rfl (Nat.le_of_ble_eq_true rfl) rfl rfl (by decide) (by decide) d_Ne_measure_49 rfl (fun r τ hP => ?_)
        obtain ⟨rfl, rfl⟩ := hP
        show mx_G Γ κ _ _ 52 [(2, .int (nI a)), (1, .int (nI t)), (0, .ref 5)] [.int (Ne_next a t m12), .int (nI t), .ref (21 + a)] (nx, u, m12) 0 0
        refine x_iast (q := 53) (p := 21 + a) hC t (sh_21 _ (by omega)) (by omega) (by omega) rfl (by omega) (by decide) d_Ne_measure_52 rfl ?_
        refine x_iinc (q := 56) (y := nI (a + 1)) (L1 := [(2, .int (nI (a + 1))), (1, .int (nI t)), (0, .ref 5)]) hC d_Ne_measure_53 rfl (mx_inc a) (by decide) rfl rfl ?_
        refine x_goto (tgt := 33) hC d_Ne_measure_56 (by decide) ?_
        exact x_close hN15 [0, 1, 2] rfl (by rfl)
      · intro hx16
        refine mx_nr (fun m17 e18 => ?_)
        try rw [e18] at hx16
        refine x_iload_n (q := 34) hC d_Ne_measure_33 rfl rfl rfl ?_
        refine x_bipush (q := 36) (v := nI 6) hC d_Ne_measure_34 (by decide) rfl ?_
        refine x_icmp_ge (tgt := 59) (q := 39) hC d_Ne_measure_36 (by decide) rfl (fun _ => ?_) (fun h => absurd (nI_le (Nat.le_refl _) (by decide)) h)
        refine x_aload_n (q := 60) hC d_Ne_measure_59 rfl rfl rfl ?_
        refine x_iload_n (q := 61) hC d_Ne_measure_60 rfl rfl rfl ?_
        refine x_callV (q := 64) (p := 5) (A := [.int (nI t)]) (S := []) (c1 := 0) (s1 := 0) hC (c_Ne_orderTowards (t := t) (by omega) hu (by omega) (by subst_vars; exact Ne_m1s_ok hI10)) s_Ne_measure_39 rfl (by omega) rfl rfl rfl (Nat.le_of_ble_eq_true rfl) rfl rfl (by decide) (by decide) d_Ne_measure_61 rfl (fun r τ hP => ?_)
        obtain ⟨rfl, rfl⟩ := hP
        show mx_G Γ κ _ _ 64 [(2, .int (nI 6)), (1, .int (nI t)), (0, .ref 5)] [] (nx, u, Ne_order t m17) 0 0
        refine x_iinc (q := 67) (y := nI (t + 1)) (L1 := [(1, .int (nI (t + 1))), (2, .int (nI 6)), (0, .ref 5)]) hC d_Ne_measure_64 rfl (mx_inc t) (by decide) rfl rfl ?_
        refine x_goto (tgt := 25) hC d_Ne_measure_67 (by decide) ?_
        subst e18
        exact x_close hN11 [0, 2] rfl (by rfl)
    · intro hx19
      refine mx_nr (fun m20 e21 => ?_)
      try rw [e21] at hx19
      refine x_iload_n (q := 26) hC d_Ne_measure_25 rfl rfl rfl ?_
      refine x_bipush (q := 28) (v := nI 6) hC d_Ne_measure_26 (by decide) rfl ?_
      refine x_icmp_ge (tgt := 70) (q := 31) hC d_Ne_measure_28 (by decide) rfl (fun _ => ?_) (fun h => absurd (nI_le (Nat.le_refl _) (by decide)) h)
      subst e21
      subst e7
      exact x_vret hC rfl ⟨rfl, rfl⟩ (by decide) (by decide) d_Ne_measure_70
set_option maxRecDepth 100000 in
set_option maxHeartbeats 4000000 in
theorem c_Ne_setCost {Γ : mx_X} {lau : Launch} {nx : Nat} {u : Nat → Nat → Bool} {mi : mx_Mm} {a b : Nat} {c : Int32} (hnx : 34 ≤ nx) (hu : ∀ p k, 2 ≤ p → u p k = true) (ha : a < 6) (hb : b < 6) (hk : Ne_ok mi) : mx_C Γ lau M_Ne_setCost [.ref 5, .int (nI a), .int (nI b), .int c] (nx, u, mi) (fun ρ τ => ρ = none ∧ τ = (nx, u, Ne_set a b c mi)) := by
  refine mx_C.intro (by decide) rfl (Nat.le_of_ble_eq_true rfl) (fun κ _ hC => ?_)
  show mx_G Γ κ _ _ 0 [(0, .ref 5), (1, .int (nI a)), (2, .int (nI b)), (3, .int c)] [] (nx, u, mi) 0 0
  refine x_aload_n (q := 1) hC d_Ne_setCost_0 rfl rfl rfl ?_
  refine x_getr (q := 4) (p := 5) (j := 0) (r := 6) hC f_Ne_11 rfl rfl rfl (by omega) (hu _ _ (by decide)) d_Ne_setCost_1 rfl ?_
  refine x_iload_n (q := 5) hC d_Ne_setCost_4 rfl rfl rfl ?_
  refine x_aald (q := 6) (p := 6) (r := 7 + a) hC a (mr_6 _ (by omega)) rfl (by omega) rfl (by omega) (by decide) d_Ne_setCost_5 rfl ?_
  refine x_iload_n (q := 7) hC d_Ne_setCost_6 rfl rfl rfl ?_
  refine x_iload_n (q := 8) hC d_Ne_setCost_7 rfl rfl rfl ?_
  refine x_iast (q := 9) (p := 7 + a) hC b (sh_7 _ (by omega)) (by omega) (by omega) rfl (by omega) (by decide) d_Ne_setCost_8 rfl ?_
  refine x_aload_n (q := 10) hC d_Ne_setCost_9 rfl rfl rfl ?_
  refine x_getr (q := 13) (p := 5) (j := 0) (r := 6) hC f_Ne_11 rfl rfl rfl (by omega) (hu _ _ (by decide)) d_Ne_setCost_10 rfl ?_
  refine x_iload_n (q := 14) hC d_Ne_setCost_13 rfl rfl rfl ?_
  refine x_aald (q := 15) (p := 6) (r := 7 + b) hC b (mr_6 _ (by omega)) rfl (by omega) rfl (by omega) (by decide) d_Ne_setCost_14 rfl ?_
  refine x_iload_n (q := 16) hC d_Ne_setCost_15 rfl rfl rfl ?_
  refine x_iload_n (q := 17) hC d_Ne_setCost_16 rfl rfl rfl ?_
  refine x_iast (q := 18) (p := 7 + b) hC a (sh_7 _ (by omega)) (by omega) (by omega) rfl (by omega) (by decide) d_Ne_setCost_17 rfl ?_
  refine x_aload_n (q := 19) hC d_Ne_setCost_18 rfl rfl rfl ?_
  refine x_callV (q := 22) (p := 5) (A := []) (S := []) (c1 := 0) (s1 := 0) hC (c_Ne_measure (by omega) hu (by subst_vars; exact (hk.upP (by omega)).upP (by omega))) s_Ne_setCost_25 rfl (by omega) rfl rfl rfl (Nat.le_of_ble_eq_true rfl) rfl rfl (by decide) (by decide) d_Ne_setCost_19 rfl (fun r τ hP => ?_)
  obtain ⟨rfl, rfl⟩ := hP
  show mx_G Γ κ _ _ 22 [(0, .ref 5), (1, .int (nI a)), (2, .int (nI b)), (3, .int c)] [] (nx, u, Ne_measure (mx_up (mx_up mi (7 + a) b c) (7 + b) a c)) 0 0
  exact x_vret hC rfl ⟨rfl, rfl⟩ (by decide) (by decide) d_Ne_setCost_22
