/-! constructors -/
theorem zr_b {nx p : Nat} {u : Nat → Nat → Bool} {m : mx_Mm} (h : ∀ j, m p j = 0) : ((nx, u, mx_zr m p) : mx_S) = (nx, u, m) := by
  have e : mx_zr m p = m := by
    funext q j
    unfold mx_zr
    split
    next e => rw [e]; exact (h j).symm
    next => rfl
  rw [e]
theorem zs_b {nx p n : Nat} {u : Nat → Nat → Bool} {m : mx_Mm} (h : ∀ q j, p ≤ q → m q j = 0) : ((nx, u, mx_zs m p n) : mx_S) = (nx, u, m) := by
  have e : mx_zs m p n = m := by
    funext q j
    unfold mx_zs
    split
    next e => exact (h q j e.1).symm
    next => rfl
  rw [e]
theorem ub_b {nx p : Nat} {u v : Nat → Nat → Bool} {m : mx_Mm} (hu : ∀ p k, 2 ≤ p → u p k = true) (hp : 2 ≤ p) (hv : ∀ j, v p j = true) (hv2 : ∀ q j, ¬ q = p → v q j = u q j) : ((nx, v, m) : mx_S) = (nx, u, m) := by
  have e : v = u := by
    funext q j
    by_cases h : q = p
    · rw [h, hv j, hu p j hp]
    · exact hv2 q j h
  rw [e]
def La_init (m : mx_Mm) : mx_Mm := mx_lp 6 (fun l => fill_m (50 + l) 3 (-1)) m
def Tr_i2 (s : Nat) (m : mx_Mm) : mx_Mm := fill_m (108 + s) 6 (-1) (fill_m (89 + s) 6 (-1) m)
def Tr_init (r : Nat) (m : mx_Mm) : mx_Mm := mx_lp 18 Tr_i2 (mx_lp 3 (fun g => fill_m (81 + g) 6 (-1)) (mx_up m 79 0 (nI r)))
def Pa_init (m : mx_Mm) : mx_Mm := mx_up (mx_up (mx_up (mx_up (mx_up m 165 7 (nI 0)) 165 8 (nI 0)) 165 9 (nI 0)) 165 10 (nI 0)) 165 11 (nI 0)
def Fi_init (m : mx_Mm) : mx_Mm := mx_up (mx_up m 168 11 (nI 0)) 168 12 (nI 1)
set_option maxRecDepth 100000 in
set_option maxHeartbeats 1000000 in
theorem c_Ck_init {Γ : mx_X} {lau : Launch} {u : Nat → Nat → Bool} {mi : mx_Mm}  (hu : ∀ p k, 2 ≤ p → u p k = true) (hz : ∀ q j, 2 ≤ q → mi q j = 0)  : mx_C Γ lau M_Ck_init [.ref 2] (3, mx_zu u 2 0, mi) (fun ρ τ => ρ = none ∧ τ = (3, u, mx_up mi 2 0 (nI 0))) := by
  refine mx_C.intro (by decide) rfl (Nat.le_of_ble_eq_true rfl) (fun κ _ hC => ?_)
  show mx_G Γ κ _ _ 0 [(0, .ref 2)] [] (3, mx_zu u 2 0, mi) 0 0
  refine x_aload_n (q := 1) hC d_Ck_init_0 rfl rfl rfl ?_
  refine x_obj (q := 4) hC so_Ck_init_1 (by decide) (by decide) rfl (Nat.le_of_ble_eq_true rfl) d_Ck_init_1 rfl ?_
  refine x_aload_n (q := 5) hC d_Ck_init_4 rfl rfl rfl ?_
  refine x_iconst (q := 6) (v := nI 0) hC d_Ck_init_5 (by decide) rfl ?_
  refine x_puti (q := 9) (p := 2) (j := 0) hC f_Ck_7 y_Ck rfl rfl rfl rfl rfl (by omega) (by decide) d_Ck_init_6 rfl ?_
  refine mx_eqG rfl rfl (ub_b (p := 2) (u := u) hu (by decide) (by intro j; rcases j with _ | j <;> rfl) (by intro q j hq; simp [mx_ub, mx_zu, hq])) ?_
  exact x_vret hC rfl ⟨rfl, rfl⟩ (by decide) (by decide) d_Ck_init_9
set_option maxRecDepth 100000 in
set_option maxHeartbeats 1000000 in
theorem c_Ta_init {Γ : mx_X} {lau : Launch} {u : Nat → Nat → Bool} {mi : mx_Mm}  (hu : ∀ p k, 2 ≤ p → u p k = true) (hz : ∀ q j, 3 ≤ q → mi q j = 0)  : mx_C Γ lau M_Ta_init [.ref 3] (4, mx_zu u 3 6, mi) (fun ρ τ => ρ = none ∧ τ = (5, u, mi)) := by
  refine mx_C.intro (by decide) rfl (Nat.le_of_ble_eq_true rfl) (fun κ _ hC => ?_)
  show mx_G Γ κ _ _ 0 [(0, .ref 3)] [] (4, mx_zu u 3 6, mi) 0 0
  refine x_aload_n (q := 1) hC d_Ta_init_0 rfl rfl rfl ?_
  refine x_obj (q := 4) hC so_Ta_init_3 (by decide) (by decide) rfl (Nat.le_of_ble_eq_true rfl) d_Ta_init_1 rfl ?_
  refine x_aload_n (q := 5) hC d_Ta_init_4 rfl rfl rfl ?_
  refine x_bipush (q := 7) (v := nI 10) hC d_Ta_init_5 (by decide) rfl ?_
  refine x_newi (q := 9) (p := 4) (N := 10) (c1 := 1) (s1 := 10) hC w_ac_int rfl rfl rfl (by decide) rfl rfl (by decide) (by decide) d_Ta_init_7 rfl ?_
  refine mx_eqG rfl rfl (zr_b (fun j => hz _ _ (by decide))) ?_
  refine x_putrF (q := 12) (p := 3) (j := 0) (r := 4) hC f_Ta_9 y_Ta rfl rfl rfl rfl rfl rfl rfl rfl (by omega) (by decide) d_Ta_init_9 rfl ?_
  refine mx_eqG rfl rfl (ub_b (p := 3) (u := u) hu (by decide) (by intro j; rcases j with _ | j <;> rfl) (by intro q j hq; simp [mx_ub, mx_zu, hq])) ?_
  exact x_vret hC rfl ⟨rfl, rfl⟩ (by decide) (by decide) d_Ta_init_12
set_option maxRecDepth 100000 in
set_option maxHeartbeats 1000000 in
theorem c_Ne_init {Γ : mx_X} {lau : Launch} {u : Nat → Nat → Bool} {mi : mx_Mm}  (hu : ∀ p k, 2 ≤ p → u p k = true) (hz : ∀ q j, 5 ≤ q → mi q j = 0)  : mx_C Γ lau M_Ne_init [.ref 5] (6, mx_zu u 5 3, mi) (fun ρ τ => ρ = none ∧ τ = (34, u, Ne_measure mi)) := by
  refine mx_C.intro (by decide) rfl (Nat.le_of_ble_eq_true rfl) (fun κ _ hC => ?_)
  show mx_G Γ κ _ _ 0 [(0, .ref 5)] [] (6, mx_zu u 5 3, mi) 0 0
  have hk : Ne_ok mi := fun t k _ _ => ⟨0, by decide, hz _ _ (by omega)⟩
  refine x_aload_n (q := 1) hC d_Ne_init_0 rfl rfl rfl ?_
  refine x_obj (q := 4) hC so_Ne_init_3 (by decide) (by decide) rfl (Nat.le_of_ble_eq_true rfl) d_Ne_init_1 rfl ?_
  refine x_aload_n (q := 5) hC d_Ne_init_4 rfl rfl rfl ?_
  refine x_bipush (q := 7) (v := nI 6) hC d_Ne_init_5 (by decide) rfl ?_
  refine x_bipush (q := 9) (v := nI 6) hC d_Ne_init_7 (by decide) rfl ?_
  refine x_mna (q := 13) (p := 6) (N := 6) (N2 := 6) (c1 := 7) (s1 := 42) hC w_ac_int w_aa_Ne_9 rfl (by decide) rfl rfl (by decide) rfl (by decide) rfl rfl (by decide) (by decide) d_Ne_init_9 rfl ?_
  refine mx_eqG rfl rfl (zs_b (fun q j hq => hz _ _ (by omega))) ?_
  refine x_putrF (q := 16) (p := 5) (j := 0) (r := 6) hC f_Ne_11 y_Ne rfl rfl rfl rfl rfl rfl rfl rfl (by omega) (by decide) d_Ne_init_13 rfl ?_
  refine x_aload_n (q := 17) hC d_Ne_init_16 rfl rfl rfl ?_
  refine x_bipush (q := 19) (v := nI 6) hC d_Ne_init_17 (by decide) rfl ?_
  refine x_bipush (q := 21) (v := nI 6) hC d_Ne_init_19 (by decide) rfl ?_
  refine x_mna (q := 25) (p := 13) (N := 6) (N2 := 6) (c1 := 14) (s1 := 84) hC w_ac_int w_aa_Ne_9 rfl (by decide) rfl rfl (by decide) rfl (by decide) rfl rfl (by decide) (by decide) d_Ne_init_21 rfl ?_
  refine mx_eqG rfl rfl (zs_b (fun q j hq => hz _ _ (by omega))) ?_
  refine x_putrF (q := 28) (p := 5) (j := 1) (r := 13) hC f_Ne_16 y_Ne rfl rfl rfl rfl rfl rfl rfl rfl (by omega) (by decide) d_Ne_init_25 rfl ?_
  refine x_aload_n (q := 29) hC d_Ne_init_28 rfl rfl rfl ?_
  refine x_bipush (q := 31) (v := nI 6) hC d_Ne_init_29 (by decide) rfl ?_
  refine x_bipush (q := 33) (v := nI 6) hC d_Ne_init_31 (by decide) rfl ?_
  refine x_mna (q := 37) (p := 20) (N := 6) (N2 := 6) (c1 := 21) (s1 := 126) hC w_ac_int w_aa_Ne_9 rfl (by decide) rfl rfl (by decide) rfl (by decide) rfl rfl (by decide) (by decide) d_Ne_init_33 rfl ?_
  refine mx_eqG rfl rfl (zs_b (fun q j hq => hz _ _ (by omega))) ?_
  refine x_putrF (q := 40) (p := 5) (j := 2) (r := 20) hC f_Ne_19 y_Ne rfl rfl rfl rfl rfl rfl rfl rfl (by omega) (by decide) d_Ne_init_37 rfl ?_
  refine x_aload_n (q := 41) hC d_Ne_init_40 rfl rfl rfl ?_
  refine x_bipush (q := 43) (v := nI 6) hC d_Ne_init_41 (by decide) rfl ?_
  refine x_bipush (q := 45) (v := nI 6) hC d_Ne_init_43 (by decide) rfl ?_
  refine x_mna (q := 49) (p := 27) (N := 6) (N2 := 6) (c1 := 28) (s1 := 168) hC w_ac_int w_aa_Ne_9 rfl (by decide) rfl rfl (by decide) rfl (by decide) rfl rfl (by decide) (by decide) d_Ne_init_45 rfl ?_
  refine mx_eqG rfl rfl (zs_b (fun q j hq => hz _ _ (by omega))) ?_
  refine x_putrF (q := 52) (p := 5) (j := 3) (r := 27) hC f_Ne_22 y_Ne rfl rfl rfl rfl rfl rfl rfl rfl (by omega) (by decide) d_Ne_init_49 rfl ?_
  refine mx_eqG rfl rfl (ub_b (p := 5) (u := u) hu (by decide) (by intro j; rcases j with _ | _ | _ | _ | j <;> rfl) (by intro q j hq; simp [mx_ub, mx_zu, hq])) ?_
  refine x_aload_n (q := 53) hC d_Ne_init_52 rfl rfl rfl ?_
  refine x_callV (q := 56) (p := 5) (A := []) (S := []) (c1 := 28) (s1 := 168) hC (c_Ne_measure (by omega) hu hk) s_Ne_init_25 rfl (by omega) rfl rfl rfl (Nat.le_of_ble_eq_true rfl) rfl rfl (by decide) (by decide) d_Ne_init_53 rfl (fun r τ hP => ?_)
  obtain ⟨rfl, rfl⟩ := hP
  show mx_G Γ κ _ _ 56 [(0, .ref 5)] [] (34, u, Ne_measure mi) 28 168
  exact x_vret hC rfl ⟨rfl, rfl⟩ (by decide) (by decide) d_Ne_init_56
set_option maxRecDepth 100000 in
set_option maxHeartbeats 1000000 in
theorem c_La_init {Γ : mx_X} {lau : Launch} {u : Nat → Nat → Bool} {mi : mx_Mm}  (hu : ∀ p k, 2 ≤ p → u p k = true) (hz : ∀ q j, 34 ≤ q → mi q j = 0)  : mx_C Γ lau M_La_init [.ref 34, .ref 2] (35, mx_zu u 34 2, mi) (fun ρ τ => ρ = none ∧ τ = (57, u, La_init mi)) := by
  refine mx_C.intro (by decide) rfl (Nat.le_of_ble_eq_true rfl) (fun κ _ hC => ?_)
  show mx_G Γ κ _ _ 0 [(0, .ref 34), (1, .ref 2)] [] (35, mx_zu u 34 2, mi) 0 0
  refine x_aload_n (q := 1) hC d_La_init_0 rfl rfl rfl ?_
  refine x_obj (q := 4) hC so_La_init_3 (by decide) (by decide) rfl (Nat.le_of_ble_eq_true rfl) d_La_init_1 rfl ?_
  refine x_aload_n (q := 5) hC d_La_init_4 rfl rfl rfl ?_
  refine x_bipush (q := 7) (v := nI 6) hC d_La_init_5 (by decide) rfl ?_
  refine x_iconst (q := 8) (v := nI 3) hC d_La_init_7 (by decide) rfl ?_
  refine x_mna (q := 12) (p := 35) (N := 6) (N2 := 3) (c1 := 7) (s1 := 24) hC w_ac_int w_aa_La_9 rfl (by decide) rfl rfl (by decide) rfl (by decide) rfl rfl (by decide) (by decide) d_La_init_8 rfl ?_
  refine mx_eqG rfl rfl (zs_b (fun q j hq => hz _ _ (by omega))) ?_
  refine x_putrF (q := 15) (p := 34) (j := 1) (r := 35) hC f_La_11 y_La rfl rfl rfl rfl rfl rfl rfl rfl (by omega) (by decide) d_La_init_12 rfl ?_
  refine x_aload_n (q := 16) hC d_La_init_15 rfl rfl rfl ?_
  refine x_bipush (q := 18) (v := nI 6) hC d_La_init_16 (by decide) rfl ?_
  refine x_iconst (q := 19) (v := nI 3) hC d_La_init_18 (by decide) rfl ?_
  refine x_mna (q := 23) (p := 42) (N := 6) (N2 := 3) (c1 := 14) (s1 := 48) hC w_ac_int w_aa_La_9 rfl (by decide) rfl rfl (by decide) rfl (by decide) rfl rfl (by decide) (by decide) d_La_init_19 rfl ?_
  refine mx_eqG rfl rfl (zs_b (fun q j hq => hz _ _ (by omega))) ?_
  refine x_putrF (q := 26) (p := 34) (j := 2) (r := 42) hC f_La_16 y_La rfl rfl rfl rfl rfl rfl rfl rfl (by omega) (by decide) d_La_init_23 rfl ?_
  refine x_aload_n (q := 27) hC d_La_init_26 rfl rfl rfl ?_
  refine x_bipush (q := 29) (v := nI 6) hC d_La_init_27 (by decide) rfl ?_
  refine x_iconst (q := 30) (v := nI 3) hC d_La_init_29 (by decide) rfl ?_
  refine x_mna (q := 34) (p := 49) (N := 6) (N2 := 3) (c1 := 21) (s1 := 72) hC w_ac_int w_aa_La_9 rfl (by decide) rfl rfl (by decide) rfl (by decide) rfl rfl (by decide) (by decide) d_La_init_30 rfl ?_
  refine mx_eqG rfl rfl (zs_b (fun q j hq => hz _ _ (by omega))) ?_
  refine x_putrF (q := 37) (p := 34) (j := 3) (r := 49) hC f_La_19 y_La rfl rfl rfl rfl rfl rfl rfl rfl (by omega) (by decide) d_La_init_34 rfl ?_
  refine x_aload_n (q := 38) hC d_La_init_37 rfl rfl rfl ?_
  refine x_bipush (q := 40) (v := nI 6) hC d_La_init_38 (by decide) rfl ?_
  refine x_newi (q := 42) (p := 56) (N := 6) (c1 := 22) (s1 := 78) hC w_ac_int rfl rfl rfl (by decide) rfl rfl (by decide) (by decide) d_La_init_40 rfl ?_
  refine mx_eqG rfl rfl (zr_b (fun j => hz _ _ (by decide))) ?_
  refine x_putrF (q := 45) (p := 34) (j := 4) (r := 56) hC f_La_22 y_La rfl rfl rfl rfl rfl rfl rfl rfl (by omega) (by decide) d_La_init_42 rfl ?_
  refine x_aload_n (q := 46) hC d_La_init_45 rfl rfl rfl ?_
  refine x_aload_n (q := 47) hC d_La_init_46 rfl rfl rfl ?_
  refine x_putrF (q := 50) (p := 34) (j := 0) (r := 2) hC f_La_26 y_La rfl rfl rfl rfl rfl rfl rfl rfl (by omega) (by decide) d_La_init_47 rfl ?_
  refine mx_eqG rfl rfl (ub_b (p := 34) (u := u) hu (by decide) (by intro j; rcases j with _ | _ | _ | _ | _ | j <;> rfl) (by intro q j hq; simp [mx_ub, mx_zu, hq])) ?_
  refine x_iconst (q := 51) (v := nI 0) hC d_La_init_50 (by decide) rfl ?_
  refine x_istore_n (q := 52) (L1 := [(2, .int (nI 0)), (0, .ref 34), (1, .ref 2)]) hC d_La_init_51 rfl (by decide) rfl rfl ?_
  refine x_sub (L1 := [(2, .int (nI 0)), (0, .ref 34)]) [0, 1] rfl ?_
  refine mx_loop (N := 6) (Hd := fun l m1 => mx_G Γ κ _ _ 52 [(2, .int (nI l)), (0, .ref 34)] [] (57, u, m1) 22 78) (fun l => fill_m (50 + l) 3 (-1)) (fun _ _ => True) trivial ?_ ?_ ?_
  · exact fun _ _ _ _ => trivial
  · intro l m1 hl2 hI3 hN4
    refine x_iload_n (q := 53) hC d_La_init_52 rfl rfl rfl ?_
    refine x_bipush (q := 55) (v := nI 6) hC d_La_init_53 (by decide) rfl ?_
    refine x_icmp_ge (tgt := 74) (q := 58) hC d_La_init_55 (by decide) rfl (fun h => absurd h (nI_ge hl2 (by decide))) (fun _ => ?_)
    refine x_aload_n (q := 59) hC d_La_init_58 rfl rfl rfl ?_
    refine x_getr (q := 62) (p := 34) (j := 3) (r := 49) hC f_La_19 rfl rfl rfl (by omega) (hu _ _ (by decide)) d_La_init_59 rfl ?_
    refine x_iload_n (q := 63) hC d_La_init_62 rfl rfl rfl ?_
    refine x_aald (q := 64) (p := 49) (r := 50 + l) hC l (mr_49 _ (by omega)) rfl (by omega) rfl (by omega) (by decide) d_La_init_63 rfl ?_
    refine x_iconst (q := 65) (v := (-1)) hC d_La_init_64 (by decide) rfl ?_
    refine x_callS (q := 68) (A := [.ref (50 + l), .int ((-1))]) (S := []) (c1 := 22) (s1 := 78) hC (c_JA_fill (p := 50 + l) (n := 3) (v := (-1)) (sh_50 _ (by omega)) (by omega) (by omega) (by decide)) s_La_init_30 rfl rfl rfl (Nat.le_of_ble_eq_true rfl) rfl rfl (by decide) (by decide) d_La_init_65 rfl (fun r τ hP => ?_)
    obtain ⟨rfl, rfl⟩ := hP
    show mx_G Γ κ _ _ 68 [(2, .int (nI l)), (0, .ref 34)] [] (57, u, fill_m (50 + l) 3 (-1) m1) 22 78
    refine x_iinc (q := 71) (y := nI (l + 1)) (L1 := [(2, .int (nI (l + 1))), (0, .ref 34)]) hC d_La_init_68 rfl (mx_inc l) (by decide) rfl rfl ?_
    refine x_goto (tgt := 52) hC d_La_init_71 (by decide) ?_
    exact x_close hN4 [0, 1] rfl (by rfl)
  · intro hx5
    refine mx_nr (fun m6 e7 => ?_)
    try rw [e7] at hx5
    refine x_iload_n (q := 53) hC d_La_init_52 rfl rfl rfl ?_
    refine x_bipush (q := 55) (v := nI 6) hC d_La_init_53 (by decide) rfl ?_
    refine x_icmp_ge (tgt := 74) (q := 58) hC d_La_init_55 (by decide) rfl (fun _ => ?_) (fun h => absurd (nI_le (Nat.le_refl _) (by decide)) h)
    subst e7
    exact x_vret hC rfl ⟨rfl, rfl⟩ (by decide) (by decide) d_La_init_74
set_option maxRecDepth 100000 in
set_option maxHeartbeats 1000000 in
theorem c_Sm_init {Γ : mx_X} {lau : Launch} {u : Nat → Nat → Bool} {mi : mx_Mm}  (hu : ∀ p k, 2 ≤ p → u p k = true) (hz : ∀ q j, 57 ≤ q → mi q j = 0)  : mx_C Γ lau M_Sm_init [.ref 57, .ref 2] (58, mx_zu u 57 5, mi) (fun ρ τ => ρ = none ∧ τ = (79, u, mi)) := by
  refine mx_C.intro (by decide) rfl (Nat.le_of_ble_eq_true rfl) (fun κ _ hC => ?_)
  show mx_G Γ κ _ _ 0 [(0, .ref 57), (1, .ref 2)] [] (58, mx_zu u 57 5, mi) 0 0
  refine x_aload_n (q := 1) hC d_Sm_init_0 rfl rfl rfl ?_
  refine x_obj (q := 4) hC so_Sm_init_3 (by decide) (by decide) rfl (Nat.le_of_ble_eq_true rfl) d_Sm_init_1 rfl ?_
  refine x_aload_n (q := 5) hC d_Sm_init_4 rfl rfl rfl ?_
  refine x_bipush (q := 7) (v := nI 18) hC d_Sm_init_5 (by decide) rfl ?_
  refine x_bipush (q := 9) (v := nI 6) hC d_Sm_init_7 (by decide) rfl ?_
  refine x_mna (q := 13) (p := 58) (N := 18) (N2 := 6) (c1 := 19) (s1 := 126) hC w_ac_int w_aa_Sm_9 rfl (by decide) rfl rfl (by decide) rfl (by decide) rfl rfl (by decide) (by decide) d_Sm_init_9 rfl ?_
  refine mx_eqG rfl rfl (zs_b (fun q j hq => hz _ _ (by omega))) ?_
  refine x_putrF (q := 16) (p := 57) (j := 1) (r := 58) hC f_Sm_11 y_Sm rfl rfl rfl rfl rfl rfl rfl rfl (by omega) (by decide) d_Sm_init_13 rfl ?_
  refine x_aload_n (q := 17) hC d_Sm_init_16 rfl rfl rfl ?_
  refine x_bipush (q := 19) (v := nI 18) hC d_Sm_init_17 (by decide) rfl ?_
  refine x_newi (q := 21) (p := 77) (N := 18) (c1 := 20) (s1 := 144) hC w_ac_int rfl rfl rfl (by decide) rfl rfl (by decide) (by decide) d_Sm_init_19 rfl ?_
  refine mx_eqG rfl rfl (zr_b (fun j => hz _ _ (by decide))) ?_
  refine x_putrF (q := 24) (p := 57) (j := 2) (r := 77) hC f_Sm_16 y_Sm rfl rfl rfl rfl rfl rfl rfl rfl (by omega) (by decide) d_Sm_init_21 rfl ?_
  refine x_aload_n (q := 25) hC d_Sm_init_24 rfl rfl rfl ?_
  refine x_bipush (q := 27) (v := nI 18) hC d_Sm_init_25 (by decide) rfl ?_
  refine x_newi (q := 29) (p := 78) (N := 18) (c1 := 21) (s1 := 162) hC w_ac_int rfl rfl rfl (by decide) rfl rfl (by decide) (by decide) d_Sm_init_27 rfl ?_
  refine mx_eqG rfl rfl (zr_b (fun j => hz _ _ (by decide))) ?_
  refine x_putrF (q := 32) (p := 57) (j := 3) (r := 78) hC f_Sm_20 y_Sm rfl rfl rfl rfl rfl rfl rfl rfl (by omega) (by decide) d_Sm_init_29 rfl ?_
  refine x_aload_n (q := 33) hC d_Sm_init_32 rfl rfl rfl ?_
  refine x_aload_n (q := 34) hC d_Sm_init_33 rfl rfl rfl ?_
  refine x_putrF (q := 37) (p := 57) (j := 0) (r := 2) hC f_Sm_23 y_Sm rfl rfl rfl rfl rfl rfl rfl rfl (by omega) (by decide) d_Sm_init_34 rfl ?_
  refine mx_eqG rfl rfl (ub_b (p := 57) (u := u) hu (by decide) (by intro j; rcases j with _ | _ | _ | _ | j <;> rfl) (by intro q j hq; simp [mx_ub, mx_zu, hq])) ?_
  exact x_vret hC rfl ⟨rfl, rfl⟩ (by decide) (by decide) d_Sm_init_37
set_option maxRecDepth 100000 in
set_option maxHeartbeats 1000000 in
theorem c_Tr_init {Γ : mx_X} {lau : Launch} {u : Nat → Nat → Bool} {mi : mx_Mm} {r : Nat} (hu : ∀ p k, 2 ≤ p → u p k = true) (hz : ∀ q j, 79 ≤ q → mi q j = 0)  : mx_C Γ lau M_Tr_init [.ref 79, .int (nI r), .ref 5, .ref 34, .ref 57, .ref 3] (80, mx_zu u 79 7, mi) (fun ρ τ => ρ = none ∧ τ = (165, u, Tr_init r mi)) := by
  refine mx_C.intro (by decide) rfl (Nat.le_of_ble_eq_true rfl) (fun κ _ hC => ?_)
  show mx_G Γ κ _ _ 0 [(0, .ref 79), (1, .int (nI r)), (2, .ref 5), (3, .ref 34), (4, .ref 57), (5, .ref 3)] [] (80, mx_zu u 79 7, mi) 0 0
  refine x_aload_n (q := 1) hC d_Tr_init_0 rfl rfl rfl ?_
  refine x_obj (q := 4) hC so_Tr_init_3 (by decide) (by decide) rfl (Nat.le_of_ble_eq_true rfl) d_Tr_init_1 rfl ?_
  refine x_aload_n (q := 5) hC d_Tr_init_4 rfl rfl rfl ?_
  refine x_iconst (q := 6) (v := nI 3) hC d_Tr_init_5 (by decide) rfl ?_
  refine x_bipush (q := 8) (v := nI 6) hC d_Tr_init_6 (by decide) rfl ?_
  refine x_mna (q := 12) (p := 80) (N := 3) (N2 := 6) (c1 := 4) (s1 := 21) hC w_ac_int w_aa_Tr_9 rfl (by decide) rfl rfl (by decide) rfl (by decide) rfl rfl (by decide) (by decide) d_Tr_init_8 rfl ?_
  refine mx_eqG rfl rfl (zs_b (fun q j hq => hz _ _ (by omega))) ?_
  refine x_putrF (q := 15) (p := 79) (j := 5) (r := 80) hC f_Tr_11 y_Tr rfl rfl rfl rfl rfl rfl rfl rfl (by omega) (by decide) d_Tr_init_12 rfl ?_
  refine x_aload_n (q := 16) hC d_Tr_init_15 rfl rfl rfl ?_
  refine x_iconst (q := 17) (v := nI 3) hC d_Tr_init_16 (by decide) rfl ?_
  refine x_bipush (q := 19) (v := nI 6) hC d_Tr_init_17 (by decide) rfl ?_
  refine x_mna (q := 23) (p := 84) (N := 3) (N2 := 6) (c1 := 8) (s1 := 42) hC w_ac_int w_aa_Tr_9 rfl (by decide) rfl rfl (by decide) rfl (by decide) rfl rfl (by decide) (by decide) d_Tr_init_19 rfl ?_
  refine mx_eqG rfl rfl (zs_b (fun q j hq => hz _ _ (by omega))) ?_
  refine x_putrF (q := 26) (p := 79) (j := 6) (r := 84) hC f_Tr_16 y_Tr rfl rfl rfl rfl rfl rfl rfl rfl (by omega) (by decide) d_Tr_init_23 rfl ?_
  refine x_aload_n (q := 27) hC d_Tr_init_26 rfl rfl rfl ?_
  refine x_bipush (q := 29) (v := nI 18) hC d_Tr_init_27 (by decide) rfl ?_
  refine x_bipush (q := 31) (v := nI 6) hC d_Tr_init_29 (by decide) rfl ?_
  refine x_mna (q := 35) (p := 88) (N := 18) (N2 := 6) (c1 := 27) (s1 := 168) hC w_ac_int w_aa_Tr_9 rfl (by decide) rfl rfl (by decide) rfl (by decide) rfl rfl (by decide) (by decide) d_Tr_init_31 rfl ?_
  refine mx_eqG rfl rfl (zs_b (fun q j hq => hz _ _ (by omega))) ?_
  refine x_putrF (q := 38) (p := 79) (j := 7) (r := 88) hC f_Tr_19 y_Tr rfl rfl rfl rfl rfl rfl rfl rfl (by omega) (by decide) d_Tr_init_35 rfl ?_
  refine x_aload_n (q := 39) hC d_Tr_init_38 rfl rfl rfl ?_
  refine x_bipush (q := 41) (v := nI 18) hC d_Tr_init_39 (by decide) rfl ?_
  refine x_bipush (q := 43) (v := nI 6) hC d_Tr_init_41 (by decide) rfl ?_
  refine x_mna (q := 47) (p := 107) (N := 18) (N2 := 6) (c1 := 46) (s1 := 294) hC w_ac_int w_aa_Tr_9 rfl (by decide) rfl rfl (by decide) rfl (by decide) rfl rfl (by decide) (by decide) d_Tr_init_43 rfl ?_
  refine mx_eqG rfl rfl (zs_b (fun q j hq => hz _ _ (by omega))) ?_
  refine x_putrF (q := 50) (p := 79) (j := 8) (r := 107) hC f_Tr_22 y_Tr rfl rfl rfl rfl rfl rfl rfl rfl (by omega) (by decide) d_Tr_init_47 rfl ?_
  refine x_aload_n (q := 51) hC d_Tr_init_50 rfl rfl rfl ?_
  refine x_bipush (q := 53) (v := nI 18) hC d_Tr_init_51 (by decide) rfl ?_
  refine x_bipush (q := 55) (v := nI 6) hC d_Tr_init_53 (by decide) rfl ?_
  refine x_mna (q := 59) (p := 126) (N := 18) (N2 := 6) (c1 := 65) (s1 := 420) hC w_ac_int w_aa_Tr_9 rfl (by decide) rfl rfl (by decide) rfl (by decide) rfl rfl (by decide) (by decide) d_Tr_init_55 rfl ?_
  refine mx_eqG rfl rfl (zs_b (fun q j hq => hz _ _ (by omega))) ?_
  refine x_putrF (q := 62) (p := 79) (j := 9) (r := 126) hC f_Tr_25 y_Tr rfl rfl rfl rfl rfl rfl rfl rfl (by omega) (by decide) d_Tr_init_59 rfl ?_
  refine x_aload_n (q := 63) hC d_Tr_init_62 rfl rfl rfl ?_
  refine x_bipush (q := 65) (v := nI 18) hC d_Tr_init_63 (by decide) rfl ?_
  refine x_bipush (q := 67) (v := nI 6) hC d_Tr_init_65 (by decide) rfl ?_
  refine x_mna (q := 71) (p := 145) (N := 18) (N2 := 6) (c1 := 84) (s1 := 546) hC w_ac_int w_aa_Tr_9 rfl (by decide) rfl rfl (by decide) rfl (by decide) rfl rfl (by decide) (by decide) d_Tr_init_67 rfl ?_
  refine mx_eqG rfl rfl (zs_b (fun q j hq => hz _ _ (by omega))) ?_
  refine x_putrF (q := 74) (p := 79) (j := 10) (r := 145) hC f_Tr_28 y_Tr rfl rfl rfl rfl rfl rfl rfl rfl (by omega) (by decide) d_Tr_init_71 rfl ?_
  refine x_aload_n (q := 75) hC d_Tr_init_74 rfl rfl rfl ?_
  refine x_bipush (q := 77) (v := nI 6) hC d_Tr_init_75 (by decide) rfl ?_
  refine x_newi (q := 79) (p := 164) (N := 6) (c1 := 85) (s1 := 552) hC w_ac_int rfl rfl rfl (by decide) rfl rfl (by decide) (by decide) d_Tr_init_77 rfl ?_
  refine mx_eqG rfl rfl (zr_b (fun j => hz _ _ (by decide))) ?_
  refine x_putrF (q := 82) (p := 79) (j := 11) (r := 164) hC f_Tr_31 y_Tr rfl rfl rfl rfl rfl rfl rfl rfl (by omega) (by decide) d_Tr_init_79 rfl ?_
  refine x_aload_n (q := 83) hC d_Tr_init_82 rfl rfl rfl ?_
  refine x_iload_n (q := 84) hC d_Tr_init_83 rfl rfl rfl ?_
  refine x_putiF (q := 87) (p := 79) (j := 0) hC f_Tr_35 y_Tr rfl rfl rfl rfl rfl rfl rfl (by omega) (by decide) d_Tr_init_84 rfl ?_
  refine x_aload_n (q := 88) hC d_Tr_init_87 rfl rfl rfl ?_
  refine x_aload_n (q := 89) hC d_Tr_init_88 rfl rfl rfl ?_
  refine x_putrF (q := 92) (p := 79) (j := 1) (r := 5) hC f_Tr_39 y_Tr rfl rfl rfl rfl rfl rfl rfl rfl (by omega) (by decide) d_Tr_init_89 rfl ?_
  refine x_aload_n (q := 93) hC d_Tr_init_92 rfl rfl rfl ?_
  refine x_aload_n (q := 94) hC d_Tr_init_93 rfl rfl rfl ?_
  refine x_putrF (q := 97) (p := 79) (j := 2) (r := 34) hC f_Tr_43 y_Tr rfl rfl rfl rfl rfl rfl rfl rfl (by omega) (by decide) d_Tr_init_94 rfl ?_
  refine x_aload_n (q := 98) hC d_Tr_init_97 rfl rfl rfl ?_
  refine x_aload (q := 100) hC d_Tr_init_98 rfl rfl ?_
  refine x_putrF (q := 103) (p := 79) (j := 3) (r := 57) hC f_Tr_47 y_Tr rfl rfl rfl rfl rfl rfl rfl rfl (by omega) (by decide) d_Tr_init_100 rfl ?_
  refine x_aload_n (q := 104) hC d_Tr_init_103 rfl rfl rfl ?_
  refine x_aload (q := 106) hC d_Tr_init_104 rfl rfl ?_
  refine x_putrF (q := 109) (p := 79) (j := 4) (r := 3) hC f_Tr_51 y_Tr rfl rfl rfl rfl rfl rfl rfl rfl (by omega) (by decide) d_Tr_init_106 rfl ?_
  refine mx_eqG rfl rfl (ub_b (p := 79) (u := u) hu (by decide) (by intro j; rcases j with _ | _ | _ | _ | _ | _ | _ | _ | _ | _ | _ | _ | j <;> rfl) (by intro q j hq; simp [mx_ub, mx_zu, hq])) ?_
  refine x_iconst (q := 110) (v := nI 0) hC d_Tr_init_109 (by decide) rfl ?_
  refine x_istore (q := 112) (L1 := [(6, .int (nI 0)), (0, .ref 79), (1, .int (nI r)), (2, .ref 5), (3, .ref 34), (4, .ref 57), (5, .ref 3)]) hC d_Tr_init_110 (by decide) rfl rfl ?_
  refine x_sub (L1 := [(6, .int (nI 0)), (0, .ref 79)]) [0, 1] rfl ?_
  refine mx_loop (N := 3) (Hd := fun g m1 => mx_G Γ κ _ _ 112 [(6, .int (nI g)), (0, .ref 79)] [] (165, u, m1) 85 552) (fun g => fill_m (81 + g) 6 (-1)) (fun _ _ => True) trivial ?_ ?_ ?_
  · exact fun _ _ _ _ => trivial
  · intro g m1 hl2 hI3 hN4
    refine x_iload (q := 114) hC d_Tr_init_112 rfl rfl ?_
    refine x_iconst (q := 115) (v := nI 3) hC d_Tr_init_114 (by decide) rfl ?_
    refine x_icmp_ge (tgt := 135) (q := 118) hC d_Tr_init_115 (by decide) rfl (fun h => absurd h (nI_ge hl2 (by decide))) (fun _ => ?_)
    refine x_aload_n (q := 119) hC d_Tr_init_118 rfl rfl rfl ?_
    refine x_getr (q := 122) (p := 79) (j := 5) (r := 80) hC f_Tr_11 rfl rfl rfl (by omega) (hu _ _ (by decide)) d_Tr_init_119 rfl ?_
    refine x_iload (q := 124) hC d_Tr_init_122 rfl rfl ?_
    refine x_aald (q := 125) (p := 80) (r := 81 + g) hC g (mr_80 _ (by omega)) rfl (by omega) rfl (by omega) (by decide) d_Tr_init_124 rfl ?_
    refine x_iconst (q := 126) (v := (-1)) hC d_Tr_init_125 (by decide) rfl ?_
    refine x_callS (q := 129) (A := [.ref (81 + g), .int ((-1))]) (S := []) (c1 := 85) (s1 := 552) hC (c_JA_fill (p := 81 + g) (n := 6) (v := (-1)) (sh_81 _ (by omega)) (by omega) (by omega) (by decide)) s_Tr_init_55 rfl rfl rfl (Nat.le_of_ble_eq_true rfl) rfl rfl (by decide) (by decide) d_Tr_init_126 rfl (fun r τ hP => ?_)
    obtain ⟨rfl, rfl⟩ := hP
    show mx_G Γ κ _ _ 129 [(6, .int (nI g)), (0, .ref 79)] [] (165, u, fill_m (81 + g) 6 (-1) m1) 85 552
    refine x_iinc (q := 132) (y := nI (g + 1)) (L1 := [(6, .int (nI (g + 1))), (0, .ref 79)]) hC d_Tr_init_129 rfl (mx_inc g) (by decide) rfl rfl ?_
    refine x_goto (tgt := 112) hC d_Tr_init_132 (by decide) ?_
    exact x_close hN4 [0, 1] rfl (by rfl)
  · intro hx5
    refine mx_nr (fun m6 e7 => ?_)
    try rw [e7] at hx5
    refine x_iload (q := 114) hC d_Tr_init_112 rfl rfl ?_
    refine x_iconst (q := 115) (v := nI 3) hC d_Tr_init_114 (by decide) rfl ?_
    refine x_icmp_ge (tgt := 135) (q := 118) hC d_Tr_init_115 (by decide) rfl (fun _ => ?_) (fun h => absurd (nI_le (Nat.le_refl _) (by decide)) h)
    refine x_iconst (q := 136) (v := nI 0) hC d_Tr_init_135 (by decide) rfl ?_
    refine x_istore (q := 138) (L1 := [(6, .int (nI 0)), (0, .ref 79)]) hC d_Tr_init_136 (by decide) rfl rfl ?_
    refine x_sub (L1 := [(6, .int (nI 0)), (0, .ref 79)]) [0, 1] rfl ?_
    refine mx_loop (N := 18) (Hd := fun s m8 => mx_G Γ κ _ _ 138 [(6, .int (nI s)), (0, .ref 79)] [] (165, u, m8) 85 552) (Tr_i2) (fun _ _ => True) trivial ?_ ?_ ?_
    · exact fun _ _ _ _ => trivial
    · intro s m8 hl9 hI10 hN11
      refine x_iload (q := 140) hC d_Tr_init_138 rfl rfl ?_
      refine x_bipush (q := 142) (v := nI 18) hC d_Tr_init_140 (by decide) rfl ?_
      refine x_icmp_ge (tgt := 173) (q := 145) hC d_Tr_init_142 (by decide) rfl (fun h => absurd h (nI_ge hl9 (by decide))) (fun _ => ?_)
      refine x_aload_n (q := 146) hC d_Tr_init_145 rfl rfl rfl ?_
      refine x_getr (q := 149) (p := 79) (j := 7) (r := 88) hC f_Tr_19 rfl rfl rfl (by omega) (hu _ _ (by decide)) d_Tr_init_146 rfl ?_
      refine x_iload (q := 151) hC d_Tr_init_149 rfl rfl ?_
      refine x_aald (q := 152) (p := 88) (r := 89 + s) hC s (mr_88 _ (by omega)) rfl (by omega) rfl (by omega) (by decide) d_Tr_init_151 rfl ?_
      refine x_iconst (q := 153) (v := (-1)) hC d_Tr_init_152 (by decide) rfl ?_
      refine x_callS (q := 156) (A := [.ref (89 + s), .int ((-1))]) (S := []) (c1 := 85) (s1 := 552) hC (c_JA_fill (p := 89 + s) (n := 6) (v := (-1)) (sh_89 _ (by omega)) (by omega) (by omega) (by decide)) s_Tr_init_55 rfl rfl rfl (Nat.le_of_ble_eq_true rfl) rfl rfl (by decide) (by decide) d_Tr_init_153 rfl (fun r τ hP => ?_)
      obtain ⟨rfl, rfl⟩ := hP
      show mx_G Γ κ _ _ 156 [(6, .int (nI s)), (0, .ref 79)] [] (165, u, fill_m (89 + s) 6 (-1) m8) 85 552
      refine x_aload_n (q := 157) hC d_Tr_init_156 rfl rfl rfl ?_
      refine x_getr (q := 160) (p := 79) (j := 8) (r := 107) hC f_Tr_22 rfl rfl rfl (by omega) (hu _ _ (by decide)) d_Tr_init_157 rfl ?_
      refine x_iload (q := 162) hC d_Tr_init_160 rfl rfl ?_
      refine x_aald (q := 163) (p := 107) (r := 108 + s) hC s (mr_107 _ (by omega)) rfl (by omega) rfl (by omega) (by decide) d_Tr_init_162 rfl ?_
      refine x_iconst (q := 164) (v := (-1)) hC d_Tr_init_163 (by decide) rfl ?_
      refine x_callS (q := 167) (A := [.ref (108 + s), .int ((-1))]) (S := []) (c1 := 85) (s1 := 552) hC (c_JA_fill (p := 108 + s) (n := 6) (v := (-1)) (sh_108 _ (by omega)) (by omega) (by omega) (by decide)) s_Tr_init_55 rfl rfl rfl (Nat.le_of_ble_eq_true rfl) rfl rfl (by decide) (by decide) d_Tr_init_164 rfl (fun r τ hP => ?_)
      obtain ⟨rfl, rfl⟩ := hP
      show mx_G Γ κ _ _ 167 [(6, .int (nI s)), (0, .ref 79)] [] (165, u, fill_m (108 + s) 6 (-1) (fill_m (89 + s) 6 (-1) m8)) 85 552
      refine x_iinc (q := 170) (y := nI (s + 1)) (L1 := [(6, .int (nI (s + 1))), (0, .ref 79)]) hC d_Tr_init_167 rfl (mx_inc s) (by decide) rfl rfl ?_
      refine x_goto (tgt := 138) hC d_Tr_init_170 (by decide) ?_
      exact x_close hN11 [0, 1] rfl (by rfl)
    · intro hx12
      refine mx_nr (fun m13 e14 => ?_)
      try rw [e14] at hx12
      refine x_iload (q := 140) hC d_Tr_init_138 rfl rfl ?_
      refine x_bipush (q := 142) (v := nI 18) hC d_Tr_init_140 (by decide) rfl ?_
      refine x_icmp_ge (tgt := 173) (q := 145) hC d_Tr_init_142 (by decide) rfl (fun _ => ?_) (fun h => absurd (nI_le (Nat.le_refl _) (by decide)) h)
      subst e14
      subst e7
      exact x_vret hC rfl ⟨rfl, rfl⟩ (by decide) (by decide) d_Tr_init_173
set_option maxRecDepth 100000 in
set_option maxHeartbeats 1000000 in
theorem c_Pa_init {Γ : mx_X} {lau : Launch} {u : Nat → Nat → Bool} {mi : mx_Mm}  (hu : ∀ p k, 2 ≤ p → u p k = true) (hz : ∀ q j, 165 ≤ q → mi q j = 0)  : mx_C Γ lau M_Pa_init [.ref 165, .ref 5, .ref 34, .ref 57, .ref 79, .ref 3] (166, mx_zu u 165 4, mi) (fun ρ τ => ρ = none ∧ τ = (168, u, Pa_init mi)) := by
  refine mx_C.intro (by decide) rfl (Nat.le_of_ble_eq_true rfl) (fun κ _ hC => ?_)
  show mx_G Γ κ _ _ 0 [(0, .ref 165), (1, .ref 5), (2, .ref 34), (3, .ref 57), (4, .ref 79), (5, .ref 3)] [] (166, mx_zu u 165 4, mi) 0 0
  refine x_aload_n (q := 1) hC d_Pa_init_0 rfl rfl rfl ?_
  refine x_obj (q := 4) hC so_Pa_init_3 (by decide) (by decide) rfl (Nat.le_of_ble_eq_true rfl) d_Pa_init_1 rfl ?_
  refine x_aload_n (q := 5) hC d_Pa_init_4 rfl rfl rfl ?_
  refine x_bipush (q := 7) (v := nI 6) hC d_Pa_init_5 (by decide) rfl ?_
  refine x_newi (q := 9) (p := 166) (N := 6) (c1 := 1) (s1 := 6) hC w_ac_int rfl rfl rfl (by decide) rfl rfl (by decide) (by decide) d_Pa_init_7 rfl ?_
  refine mx_eqG rfl rfl (zr_b (fun j => hz _ _ (by decide))) ?_
  refine x_putrF (q := 12) (p := 165) (j := 5) (r := 166) hC f_Pa_9 y_Pa rfl rfl rfl rfl rfl rfl rfl rfl (by omega) (by decide) d_Pa_init_9 rfl ?_
  refine x_aload_n (q := 13) hC d_Pa_init_12 rfl rfl rfl ?_
  refine x_bipush (q := 15) (v := nI 6) hC d_Pa_init_13 (by decide) rfl ?_
  refine x_newi (q := 17) (p := 167) (N := 6) (c1 := 2) (s1 := 12) hC w_ac_int rfl rfl rfl (by decide) rfl rfl (by decide) (by decide) d_Pa_init_15 rfl ?_
  refine mx_eqG rfl rfl (zr_b (fun j => hz _ _ (by decide))) ?_
  refine x_putrF (q := 20) (p := 165) (j := 6) (r := 167) hC f_Pa_15 y_Pa rfl rfl rfl rfl rfl rfl rfl rfl (by omega) (by decide) d_Pa_init_17 rfl ?_
  refine x_aload_n (q := 21) hC d_Pa_init_20 rfl rfl rfl ?_
  refine x_iconst (q := 22) (v := nI 0) hC d_Pa_init_21 (by decide) rfl ?_
  refine x_puti (q := 25) (p := 165) (j := 7) hC f_Pa_18 y_Pa rfl rfl rfl rfl rfl (by omega) (by decide) d_Pa_init_22 rfl ?_
  refine x_aload_n (q := 26) hC d_Pa_init_25 rfl rfl rfl ?_
  refine x_iconst (q := 27) (v := nI 0) hC d_Pa_init_26 (by decide) rfl ?_
  refine x_puti (q := 30) (p := 165) (j := 8) hC f_Pa_22 y_Pa rfl rfl rfl rfl rfl (by omega) (by decide) d_Pa_init_27 rfl ?_
  refine x_aload_n (q := 31) hC d_Pa_init_30 rfl rfl rfl ?_
  refine x_iconst (q := 32) (v := nI 0) hC d_Pa_init_31 (by decide) rfl ?_
  refine x_puti (q := 35) (p := 165) (j := 9) hC f_Pa_25 y_Pa rfl rfl rfl rfl rfl (by omega) (by decide) d_Pa_init_32 rfl ?_
  refine x_aload_n (q := 36) hC d_Pa_init_35 rfl rfl rfl ?_
  refine x_iconst (q := 37) (v := nI 0) hC d_Pa_init_36 (by decide) rfl ?_
  refine x_puti (q := 40) (p := 165) (j := 10) hC f_Pa_28 y_Pa rfl rfl rfl rfl rfl (by omega) (by decide) d_Pa_init_37 rfl ?_
  refine x_aload_n (q := 41) hC d_Pa_init_40 rfl rfl rfl ?_
  refine x_iconst (q := 42) (v := nI 0) hC d_Pa_init_41 (by decide) rfl ?_
  refine x_puti (q := 45) (p := 165) (j := 11) hC f_Pa_31 y_Pa rfl rfl rfl rfl rfl (by omega) (by decide) d_Pa_init_42 rfl ?_
  refine x_aload_n (q := 46) hC d_Pa_init_45 rfl rfl rfl ?_
  refine x_aload_n (q := 47) hC d_Pa_init_46 rfl rfl rfl ?_
  refine x_putrF (q := 50) (p := 165) (j := 0) (r := 5) hC f_Pa_34 y_Pa rfl rfl rfl rfl rfl rfl rfl rfl (by omega) (by decide) d_Pa_init_47 rfl ?_
  refine x_aload_n (q := 51) hC d_Pa_init_50 rfl rfl rfl ?_
  refine x_aload_n (q := 52) hC d_Pa_init_51 rfl rfl rfl ?_
  refine x_putrF (q := 55) (p := 165) (j := 1) (r := 34) hC f_Pa_38 y_Pa rfl rfl rfl rfl rfl rfl rfl rfl (by omega) (by decide) d_Pa_init_52 rfl ?_
  refine x_aload_n (q := 56) hC d_Pa_init_55 rfl rfl rfl ?_
  refine x_aload_n (q := 57) hC d_Pa_init_56 rfl rfl rfl ?_
  refine x_putrF (q := 60) (p := 165) (j := 2) (r := 57) hC f_Pa_42 y_Pa rfl rfl rfl rfl rfl rfl rfl rfl (by omega) (by decide) d_Pa_init_57 rfl ?_
  refine x_aload_n (q := 61) hC d_Pa_init_60 rfl rfl rfl ?_
  refine x_aload (q := 63) hC d_Pa_init_61 rfl rfl ?_
  refine x_putrF (q := 66) (p := 165) (j := 3) (r := 79) hC f_Pa_46 y_Pa rfl rfl rfl rfl rfl rfl rfl rfl (by omega) (by decide) d_Pa_init_63 rfl ?_
  refine x_aload_n (q := 67) hC d_Pa_init_66 rfl rfl rfl ?_
  refine x_aload (q := 69) hC d_Pa_init_67 rfl rfl ?_
  refine x_putrF (q := 72) (p := 165) (j := 4) (r := 3) hC f_Pa_50 y_Pa rfl rfl rfl rfl rfl rfl rfl rfl (by omega) (by decide) d_Pa_init_69 rfl ?_
  refine mx_eqG rfl rfl (ub_b (p := 165) (u := u) hu (by decide) (by intro j; rcases j with _ | _ | _ | _ | _ | _ | _ | _ | _ | _ | _ | _ | j <;> rfl) (by intro q j hq; simp [mx_ub, mx_zu, hq])) ?_
  exact x_vret hC rfl ⟨rfl, rfl⟩ (by decide) (by decide) d_Pa_init_72
set_option maxRecDepth 100000 in
set_option maxHeartbeats 1000000 in
theorem c_Fi_init {Γ : mx_X} {lau : Launch} {u : Nat → Nat → Bool} {mi : mx_Mm}  (hu : ∀ p k, 2 ≤ p → u p k = true) (hz : ∀ q j, 168 ≤ q → mi q j = 0)  : mx_C Γ lau M_Fi_init [.ref 168, .ref 5, .ref 34, .ref 3] (169, mx_zu u 168 1, mi) (fun ρ τ => ρ = none ∧ τ = (185, u, Fi_init mi)) := by
  refine mx_C.intro (by decide) rfl (Nat.le_of_ble_eq_true rfl) (fun κ _ hC => ?_)
  show mx_G Γ κ _ _ 0 [(0, .ref 168), (1, .ref 5), (2, .ref 34), (3, .ref 3)] [] (169, mx_zu u 168 1, mi) 0 0
  refine x_aload_n (q := 1) hC d_Fi_init_0 rfl rfl rfl ?_
  refine x_obj (q := 4) hC so_Fi_init_3 (by decide) (by decide) rfl (Nat.le_of_ble_eq_true rfl) d_Fi_init_1 rfl ?_
  refine x_aload_n (q := 5) hC d_Fi_init_4 rfl rfl rfl ?_
  refine x_iconst (q := 6) (v := nI 4) hC d_Fi_init_5 (by decide) rfl ?_
  refine x_newi (q := 8) (p := 169) (N := 4) (c1 := 1) (s1 := 4) hC w_ac_int rfl rfl rfl (by decide) rfl rfl (by decide) (by decide) d_Fi_init_6 rfl ?_
  refine mx_eqG rfl rfl (zr_b (fun j => hz _ _ (by decide))) ?_
  refine x_putrF (q := 11) (p := 168) (j := 3) (r := 169) hC f_Fi_9 y_Fi rfl rfl rfl rfl rfl rfl rfl rfl (by omega) (by decide) d_Fi_init_8 rfl ?_
  refine x_aload_n (q := 12) hC d_Fi_init_11 rfl rfl rfl ?_
  refine x_iconst (q := 13) (v := nI 4) hC d_Fi_init_12 (by decide) rfl ?_
  refine x_newi (q := 15) (p := 170) (N := 4) (c1 := 2) (s1 := 8) hC w_ac_int rfl rfl rfl (by decide) rfl rfl (by decide) (by decide) d_Fi_init_13 rfl ?_
  refine mx_eqG rfl rfl (zr_b (fun j => hz _ _ (by decide))) ?_
  refine x_putrF (q := 18) (p := 168) (j := 4) (r := 170) hC f_Fi_15 y_Fi rfl rfl rfl rfl rfl rfl rfl rfl (by omega) (by decide) d_Fi_init_15 rfl ?_
  refine x_aload_n (q := 19) hC d_Fi_init_18 rfl rfl rfl ?_
  refine x_iconst (q := 20) (v := nI 4) hC d_Fi_init_19 (by decide) rfl ?_
  refine x_newi (q := 22) (p := 171) (N := 4) (c1 := 3) (s1 := 12) hC w_ac_int rfl rfl rfl (by decide) rfl rfl (by decide) (by decide) d_Fi_init_20 rfl ?_
  refine mx_eqG rfl rfl (zr_b (fun j => hz _ _ (by decide))) ?_
  refine x_putrF (q := 25) (p := 168) (j := 5) (r := 171) hC f_Fi_18 y_Fi rfl rfl rfl rfl rfl rfl rfl rfl (by omega) (by decide) d_Fi_init_22 rfl ?_
  refine x_aload_n (q := 26) hC d_Fi_init_25 rfl rfl rfl ?_
  refine x_iconst (q := 27) (v := nI 4) hC d_Fi_init_26 (by decide) rfl ?_
  refine x_newi (q := 29) (p := 172) (N := 4) (c1 := 4) (s1 := 16) hC w_ac_int rfl rfl rfl (by decide) rfl rfl (by decide) (by decide) d_Fi_init_27 rfl ?_
  refine mx_eqG rfl rfl (zr_b (fun j => hz _ _ (by decide))) ?_
  refine x_putrF (q := 32) (p := 168) (j := 6) (r := 172) hC f_Fi_21 y_Fi rfl rfl rfl rfl rfl rfl rfl rfl (by omega) (by decide) d_Fi_init_29 rfl ?_
  refine x_aload_n (q := 33) hC d_Fi_init_32 rfl rfl rfl ?_
  refine x_iconst (q := 34) (v := nI 4) hC d_Fi_init_33 (by decide) rfl ?_
  refine x_newi (q := 36) (p := 173) (N := 4) (c1 := 5) (s1 := 20) hC w_ac_int rfl rfl rfl (by decide) rfl rfl (by decide) (by decide) d_Fi_init_34 rfl ?_
  refine mx_eqG rfl rfl (zr_b (fun j => hz _ _ (by decide))) ?_
  refine x_putrF (q := 39) (p := 168) (j := 7) (r := 173) hC f_Fi_24 y_Fi rfl rfl rfl rfl rfl rfl rfl rfl (by omega) (by decide) d_Fi_init_36 rfl ?_
  refine x_aload_n (q := 40) hC d_Fi_init_39 rfl rfl rfl ?_
  refine x_iconst (q := 41) (v := nI 4) hC d_Fi_init_40 (by decide) rfl ?_
  refine x_bipush (q := 43) (v := nI 6) hC d_Fi_init_41 (by decide) rfl ?_
  refine x_mna (q := 47) (p := 174) (N := 4) (N2 := 6) (c1 := 10) (s1 := 48) hC w_ac_int w_aa_Fi_27 rfl (by decide) rfl rfl (by decide) rfl (by decide) rfl rfl (by decide) (by decide) d_Fi_init_43 rfl ?_
  refine mx_eqG rfl rfl (zs_b (fun q j hq => hz _ _ (by omega))) ?_
  refine x_putrF (q := 50) (p := 168) (j := 8) (r := 174) hC f_Fi_29 y_Fi rfl rfl rfl rfl rfl rfl rfl rfl (by omega) (by decide) d_Fi_init_47 rfl ?_
  refine x_aload_n (q := 51) hC d_Fi_init_50 rfl rfl rfl ?_
  refine x_iconst (q := 52) (v := nI 4) hC d_Fi_init_51 (by decide) rfl ?_
  refine x_bipush (q := 54) (v := nI 6) hC d_Fi_init_52 (by decide) rfl ?_
  refine x_mna (q := 58) (p := 179) (N := 4) (N2 := 6) (c1 := 15) (s1 := 76) hC w_ac_int w_aa_Fi_27 rfl (by decide) rfl rfl (by decide) rfl (by decide) rfl rfl (by decide) (by decide) d_Fi_init_54 rfl ?_
  refine mx_eqG rfl rfl (zs_b (fun q j hq => hz _ _ (by omega))) ?_
  refine x_putrF (q := 61) (p := 168) (j := 9) (r := 179) hC f_Fi_32 y_Fi rfl rfl rfl rfl rfl rfl rfl rfl (by omega) (by decide) d_Fi_init_58 rfl ?_
  refine x_aload_n (q := 62) hC d_Fi_init_61 rfl rfl rfl ?_
  refine x_bipush (q := 64) (v := nI 6) hC d_Fi_init_62 (by decide) rfl ?_
  refine x_newi (q := 66) (p := 184) (N := 6) (c1 := 16) (s1 := 82) hC w_ac_int rfl rfl rfl (by decide) rfl rfl (by decide) (by decide) d_Fi_init_64 rfl ?_
  refine mx_eqG rfl rfl (zr_b (fun j => hz _ _ (by decide))) ?_
  refine x_putrF (q := 69) (p := 168) (j := 10) (r := 184) hC f_Fi_35 y_Fi rfl rfl rfl rfl rfl rfl rfl rfl (by omega) (by decide) d_Fi_init_66 rfl ?_
  refine x_aload_n (q := 70) hC d_Fi_init_69 rfl rfl rfl ?_
  refine x_iconst (q := 71) (v := nI 0) hC d_Fi_init_70 (by decide) rfl ?_
  refine x_puti (q := 74) (p := 168) (j := 11) hC f_Fi_38 y_Fi rfl rfl rfl rfl rfl (by omega) (by decide) d_Fi_init_71 rfl ?_
  refine x_aload_n (q := 75) hC d_Fi_init_74 rfl rfl rfl ?_
  refine x_iconst (q := 76) (v := nI 1) hC d_Fi_init_75 (by decide) rfl ?_
  refine x_puti (q := 79) (p := 168) (j := 12) hC f_Fi_42 y_Fi rfl rfl rfl rfl rfl (by omega) (by decide) d_Fi_init_76 rfl ?_
  refine x_aload_n (q := 80) hC d_Fi_init_79 rfl rfl rfl ?_
  refine x_aload_n (q := 81) hC d_Fi_init_80 rfl rfl rfl ?_
  refine x_putrF (q := 84) (p := 168) (j := 0) (r := 5) hC f_Fi_45 y_Fi rfl rfl rfl rfl rfl rfl rfl rfl (by omega) (by decide) d_Fi_init_81 rfl ?_
  refine x_aload_n (q := 85) hC d_Fi_init_84 rfl rfl rfl ?_
  refine x_aload_n (q := 86) hC d_Fi_init_85 rfl rfl rfl ?_
  refine x_putrF (q := 89) (p := 168) (j := 1) (r := 34) hC f_Fi_49 y_Fi rfl rfl rfl rfl rfl rfl rfl rfl (by omega) (by decide) d_Fi_init_86 rfl ?_
  refine x_aload_n (q := 90) hC d_Fi_init_89 rfl rfl rfl ?_
  refine x_aload_n (q := 91) hC d_Fi_init_90 rfl rfl rfl ?_
  refine x_putrF (q := 94) (p := 168) (j := 2) (r := 3) hC f_Fi_53 y_Fi rfl rfl rfl rfl rfl rfl rfl rfl (by omega) (by decide) d_Fi_init_91 rfl ?_
  refine mx_eqG rfl rfl (ub_b (p := 168) (u := u) hu (by decide) (by intro j; rcases j with _ | _ | _ | _ | _ | _ | _ | _ | _ | _ | _ | _ | _ | j <;> rfl) (by intro q j hq; simp [mx_ub, mx_zu, hq])) ?_
  exact x_vret hC rfl ⟨rfl, rfl⟩ (by decide) (by decide) d_Fi_init_94
