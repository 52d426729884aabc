set_option maxRecDepth 100000 in
set_option maxHeartbeats 400000 in
theorem c_Pa_crossingCount {Γ : mx_X} {lau : Launch} {nx : Nat} {u : Nat → Nat → Bool} {mi : mx_Mm}  (hnx : 168 ≤ nx) (hu : ∀ p k, 2 ≤ p → u p k = true)  : mx_C Γ lau M_Pa_crossingCount [.ref 165] (nx, u, mi) (fun ρ τ => ρ = some (.int (mi 165 8)) ∧ τ = (nx, u, mi)) := by
  refine mx_C.intro (by decide) rfl (Nat.le_of_ble_eq_true rfl) (fun κ _ hC => ?_)
  show mx_G Γ κ _ _ 0 [(0, .ref 165)] [] (nx, u, mi) 0 0
  refine x_aload_n (q := 1) hC d_Pa_crossingCount_0 rfl rfl rfl ?_
  refine x_geti (q := 4) (p := 165) (j := 8) hC f_Pa_22 rfl rfl (by omega) d_Pa_crossingCount_1 rfl ?_
  exact x_iret hC rfl rfl ⟨rfl, rfl⟩ (by decide) (by decide) d_Pa_crossingCount_4
set_option maxRecDepth 100000 in
set_option maxHeartbeats 400000 in
theorem c_Pa_dropCount {Γ : mx_X} {lau : Launch} {nx : Nat} {u : Nat → Nat → Bool} {mi : mx_Mm}  (hnx : 168 ≤ nx) (hu : ∀ p k, 2 ≤ p → u p k = true)  : mx_C Γ lau M_Pa_dropCount [.ref 165] (nx, u, mi) (fun ρ τ => ρ = some (.int (mi 165 9)) ∧ τ = (nx, u, mi)) := by
  refine mx_C.intro (by decide) rfl (Nat.le_of_ble_eq_true rfl) (fun κ _ hC => ?_)
  show mx_G Γ κ _ _ 0 [(0, .ref 165)] [] (nx, u, mi) 0 0
  refine x_aload_n (q := 1) hC d_Pa_dropCount_0 rfl rfl rfl ?_
  refine x_geti (q := 4) (p := 165) (j := 9) hC f_Pa_25 rfl rfl (by omega) d_Pa_dropCount_1 rfl ?_
  exact x_iret hC rfl rfl ⟨rfl, rfl⟩ (by decide) (by decide) d_Pa_dropCount_4
set_option maxRecDepth 100000 in
set_option maxHeartbeats 400000 in
theorem c_Pa_reachedLans {Γ : mx_X} {lau : Launch} {nx : Nat} {u : Nat → Nat → Bool} {mi : mx_Mm}  (hnx : 168 ≤ nx) (hu : ∀ p k, 2 ≤ p → u p k = true)  : mx_C Γ lau M_Pa_reachedLans [.ref 165] (nx, u, mi) (fun ρ τ => ρ = some (.int (mi 165 10)) ∧ τ = (nx, u, mi)) := by
  refine mx_C.intro (by decide) rfl (Nat.le_of_ble_eq_true rfl) (fun κ _ hC => ?_)
  show mx_G Γ κ _ _ 0 [(0, .ref 165)] [] (nx, u, mi) 0 0
  refine x_aload_n (q := 1) hC d_Pa_reachedLans_0 rfl rfl rfl ?_
  refine x_geti (q := 4) (p := 165) (j := 10) hC f_Pa_28 rfl rfl (by omega) d_Pa_reachedLans_1 rfl ?_
  exact x_iret hC rfl rfl ⟨rfl, rfl⟩ (by decide) (by decide) d_Pa_reachedLans_4
set_option maxRecDepth 100000 in
set_option maxHeartbeats 400000 in
theorem c_Pa_heardBy {Γ : mx_X} {lau : Launch} {nx : Nat} {u : Nat → Nat → Bool} {mi : mx_Mm}  (hnx : 168 ≤ nx) (hu : ∀ p k, 2 ≤ p → u p k = true)  : mx_C Γ lau M_Pa_heardBy [.ref 165] (nx, u, mi) (fun ρ τ => ρ = some (.int (mi 165 11)) ∧ τ = (nx, u, mi)) := by
  refine mx_C.intro (by decide) rfl (Nat.le_of_ble_eq_true rfl) (fun κ _ hC => ?_)
  show mx_G Γ κ _ _ 0 [(0, .ref 165)] [] (nx, u, mi) 0 0
  refine x_aload_n (q := 1) hC d_Pa_heardBy_0 rfl rfl rfl ?_
  refine x_geti (q := 4) (p := 165) (j := 11) hC f_Pa_31 rfl rfl (by omega) d_Pa_heardBy_1 rfl ?_
  exact x_iret hC rfl rfl ⟨rfl, rfl⟩ (by decide) (by decide) d_Pa_heardBy_4
set_option maxRecDepth 100000 in
set_option maxHeartbeats 400000 in
theorem c_Pa_carry {Γ : mx_X} {lau : Launch} {nx : Nat} {u : Nat → Nat → Bool} {mi : mx_Mm} {n r : Nat} {x : Int32} (hnx : 168 ≤ nx) (hu : ∀ p k, 2 ≤ p → u p k = true) (hok : Pa_ok r mi) : mx_C Γ lau M_Pa_carry [.ref 165, .int (nI n), .int x] (nx, u, mi) (fun ρ τ => ρ = none ∧ τ = (nx, u, Pa_carry n x mi)) := by
  refine mx_C.intro (by decide) rfl (Nat.le_of_ble_eq_true rfl) (fun κ _ hC => ?_)
  show mx_G Γ κ _ _ 0 [(0, .ref 165), (1, .int (nI n)), (2, .int x)] [] (nx, u, mi) 0 0
  obtain ⟨ec, hc⟩ := hok.c
  refine x_aload_n (q := 1) hC d_Pa_carry_0 rfl rfl rfl ?_
  refine x_geti (q := 4) (p := 165) (j := 7) hC f_Pa_18 rfl rfl (by omega) d_Pa_carry_1 rfl ?_
  refine x_bipush (q := 6) (v := nI 6) hC d_Pa_carry_4 (by decide) rfl ?_
  refine x_icmp_lt (tgt := 10) (q := 9) hC d_Pa_carry_6 (by decide) rfl (fun h6 => ?_) (fun h6 => ?_)
  · skip
    have h6c : tn (mi 165 7) < 6 := by have h6' := h6; rw [show (nx, u, mi).2.2 165 7 = nI (tn (mi 165 7)) from ec] at h6'; exact (nI_ltI (by omega) (by decide)).mp h6'
    refine x_aload_n (q := 11) hC d_Pa_carry_10 rfl rfl rfl ?_
    refine x_getr (q := 14) (p := 165) (j := 5) (r := 166) hC f_Pa_9 rfl rfl rfl (by omega) (hu _ _ (by decide)) d_Pa_carry_11 rfl ?_
    refine x_aload_n (q := 15) hC d_Pa_carry_14 rfl rfl rfl ?_
    refine x_geti (q := 18) (p := 165) (j := 7) hC f_Pa_18 rfl rfl (by omega) d_Pa_carry_15 rfl ?_
    refine x_iload_n (q := 19) hC d_Pa_carry_18 rfl rfl rfl ?_
    refine x_iast (q := 20) (p := 166) hC (tn (mi 165 7)) rfl (by omega) (by omega) ec h6c (by decide) d_Pa_carry_19 rfl ?_
    refine x_aload_n (q := 21) hC d_Pa_carry_20 rfl rfl rfl ?_
    refine x_getr (q := 24) (p := 165) (j := 6) (r := 167) hC f_Pa_15 rfl rfl rfl (by omega) (hu _ _ (by decide)) d_Pa_carry_21 rfl ?_
    refine x_aload_n (q := 25) hC d_Pa_carry_24 rfl rfl rfl ?_
    refine x_geti (q := 28) (p := 165) (j := 7) hC f_Pa_18 rfl rfl (by omega) d_Pa_carry_25 rfl ?_
    refine x_iload_n (q := 29) hC d_Pa_carry_28 rfl rfl rfl ?_
    refine x_iast (q := 30) (p := 167) hC (tn (mi 165 7)) rfl (by omega) (by omega) (by show mx_up mi 166 (tn (mi 165 7)) (nI n) 165 7 = nI (tn (mi 165 7)); rw [up_neP (by decide)]; exact ec) h6c (by decide) d_Pa_carry_29 rfl ?_
    refine mx_nr (fun m1 e2 => ?_)
    refine x_aload_n (q := 31) hC d_Pa_carry_30 rfl rfl rfl ?_
    refine x_dup (q := 32) hC d_Pa_carry_31 rfl rfl ?_
    refine x_geti (q := 35) (p := 165) (j := 7) hC f_Pa_18 rfl rfl (by omega) d_Pa_carry_32 rfl ?_
    refine x_iconst (q := 36) (v := nI 1) hC d_Pa_carry_35 (by decide) rfl ?_
    refine x_iadd (q := 37) (z := (m1 165 7) + (nI 1)) hC d_Pa_carry_36 rfl rfl ?_
    refine x_puti (q := 40) (p := 165) (j := 7) hC f_Pa_18 y_Pa rfl rfl rfl rfl rfl (by omega) (by decide) d_Pa_carry_37 rfl ?_
    subst e2
    exact x_vret hC rfl ⟨rfl, by first | exact pr (it_f h6 rfl) | exact pr (it_t h6 rfl)⟩ (by decide) (by decide) d_Pa_carry_40
  · skip
    exact x_vret hC rfl ⟨rfl, by first | exact pr (it_f h6 rfl) | exact pr (it_t h6 rfl)⟩ (by decide) (by decide) d_Pa_carry_9
set_option maxRecDepth 100000 in
set_option maxHeartbeats 400000 in
theorem c_Pa_cross {Γ : mx_X} {lau : Launch} {nx : Nat} {u : Nat → Nat → Bool} {mi : mx_Mm} {st s q n r : Nat} (hnx : 168 ≤ nx) (hu : ∀ p k, 2 ≤ p → u p k = true) (hst : st < 18) (hs : s < 6) (hq : q < 6) (hn : n < 6) (hr : r < 6) (hok : Pa_ok r mi) : mx_C Γ lau M_Pa_cross [.ref 165, .int (nI st), .int (nI s), .int (nI q), .int (nI n)] (nx, u, mi) (fun ρ τ => ρ = none ∧ τ = (nx, u, Pa_cross st s r q n mi)) := by
  refine mx_C.intro (by decide) rfl (Nat.le_of_ble_eq_true rfl) (fun κ _ hC => ?_)
  show mx_G Γ κ _ _ 0 [(0, .ref 165), (1, .int (nI st)), (2, .int (nI s)), (3, .int (nI q)), (4, .int (nI n))] [] (nx, u, mi) 0 0
  refine x_aload_n (q := 1) hC d_Pa_cross_0 rfl rfl rfl ?_
  refine x_dup (q := 2) hC d_Pa_cross_1 rfl rfl ?_
  refine x_geti (q := 5) (p := 165) (j := 8) hC f_Pa_22 rfl rfl (by omega) d_Pa_cross_2 rfl ?_
  refine x_iconst (q := 6) (v := nI 1) hC d_Pa_cross_5 (by decide) rfl ?_
  refine x_iadd (q := 7) (z := (mi 165 8) + (nI 1)) hC d_Pa_cross_6 rfl rfl ?_
  refine x_puti (q := 10) (p := 165) (j := 8) hC f_Pa_22 y_Pa rfl rfl rfl rfl rfl (by omega) (by decide) d_Pa_cross_7 rfl ?_
  refine mx_nr (fun mX eX => ?_)
  have eX' : Pa_x1 mi = mX := eX
  have hX : Pa_ok r mX := eX' ▸ Pa_x1_ok hok
  refine x_aload_n (q := 11) hC d_Pa_cross_10 rfl rfl rfl ?_
  refine x_getr (q := 14) (p := 165) (j := 2) (r := 57) hC f_Pa_42 rfl rfl rfl (by omega) (hu _ _ (by decide)) d_Pa_cross_11 rfl ?_
  refine x_iload_n (q := 15) hC d_Pa_cross_14 rfl rfl rfl ?_
  refine x_iload (q := 17) hC d_Pa_cross_15 rfl rfl ?_
  refine x_callV (q := 20) (p := 57) (A := [.int (nI st), .int (nI n)]) (S := []) (c1 := 0) (s1 := 0) hC (c_Sm_isSwitched (s := st) (n := n) (by omega) hu (by omega) (by omega) ) s_Pa_cross_83 rfl (by omega) rfl rfl rfl (Nat.le_of_ble_eq_true rfl) rfl rfl (by decide) (by decide) d_Pa_cross_17 rfl (fun r τ hP => ?_)
  obtain ⟨rfl, rfl⟩ := hP
  show mx_G Γ κ _ _ 20 [(0, .ref 165), (1, .int (nI st)), (2, .int (nI s)), (3, .int (nI q)), (4, .int (nI n))] [.int (bz (hold (mX 77 st) n))] (nx, u, mX) 0 0
  refine x_if_eq (tgt := 27) (q := 23) hC d_Pa_cross_20 (by decide) rfl (fun h20 => ?_) (fun h20 => ?_)
  · have h20 := bz_0 h20
    refine x_aload_n (q := 28) hC d_Pa_cross_27 rfl rfl rfl ?_
    refine x_getr (q := 31) (p := 165) (j := 3) (r := 79) hC f_Pa_46 rfl rfl rfl (by omega) (hu _ _ (by decide)) d_Pa_cross_28 rfl ?_
    refine x_callV (q := 34) (p := 79) (A := []) (S := []) (c1 := 0) (s1 := 0) hC (c_Tr_meetingPoint  (by omega) hu  ) s_Pa_cross_79 rfl (by omega) rfl rfl rfl (Nat.le_of_ble_eq_true rfl) rfl rfl (by decide) (by decide) d_Pa_cross_31 rfl (fun r τ hP => ?_)
    obtain ⟨rfl, rfl⟩ := hP
    show mx_G Γ κ _ _ 34 [(0, .ref 165), (1, .int (nI st)), (2, .int (nI s)), (3, .int (nI q)), (4, .int (nI n))] [.int (mX 79 0)] (nx, u, mX) 0 0
    refine mx_eqG (S1 := [.int (nI r)]) rfl (by exact congrArg (fun z => Value.int z :: ([] : List Value)) (show mX 79 0 = nI r from hX.1)) rfl ?_
    refine x_istore (q := 36) (L1 := [(5, .int (nI r)), (0, .ref 165), (1, .int (nI st)), (2, .int (nI s)), (3, .int (nI q)), (4, .int (nI n))]) hC d_Pa_cross_34 (by decide) rfl rfl ?_
    refine x_iload (q := 38) hC d_Pa_cross_36 rfl rfl ?_
    refine x_iload_n (q := 39) hC d_Pa_cross_38 rfl rfl rfl ?_
    refine x_icmp_eq (tgt := 67) (q := 42) hC d_Pa_cross_39 (by decide) rfl (fun h39 => ?_) (fun h39 => ?_)
    · skip
      refine x_aload_n (q := 68) hC d_Pa_cross_67 rfl rfl rfl ?_
      refine x_dup (q := 69) hC d_Pa_cross_68 rfl rfl ?_
      refine x_geti (q := 72) (p := 165) (j := 9) hC f_Pa_25 rfl rfl (by omega) d_Pa_cross_69 rfl ?_
      refine x_iconst (q := 73) (v := nI 1) hC d_Pa_cross_72 (by decide) rfl ?_
      refine x_iadd (q := 74) (z := (mX 165 9) + (nI 1)) hC d_Pa_cross_73 rfl rfl ?_
      refine x_puti (q := 77) (p := 165) (j := 9) hC f_Pa_25 y_Pa rfl rfl rfl rfl rfl (by omega) (by decide) d_Pa_cross_74 rfl ?_
      exact x_vret hC rfl ⟨rfl, pr (by show _ = Pa_xs st s r q n (Pa_x1 mi); rw [eX']; unfold Pa_xs; exact it_f (fun z => z.1 ((nI_eq (by omega) (by omega)).mp h39)) rfl)⟩ (by decide) (by decide) d_Pa_cross_77
    · skip
      refine x_aload_n (q := 43) hC d_Pa_cross_42 rfl rfl rfl ?_
      refine x_getr (q := 46) (p := 165) (j := 0) (r := 5) hC f_Pa_34 rfl rfl rfl (by omega) (hu _ _ (by decide)) d_Pa_cross_43 rfl ?_
      refine x_iload (q := 48) hC d_Pa_cross_46 rfl rfl ?_
      refine x_iload (q := 50) hC d_Pa_cross_48 rfl rfl ?_
      refine x_callV (q := 53) (p := 5) (A := [.int (nI n), .int (nI r)]) (S := []) (c1 := 0) (s1 := 0) hC (c_Ne_nextTowards (a := n) (b := r) (by omega) hu (by omega) (by omega)) s_Pa_cross_135 rfl (by omega) rfl rfl rfl (Nat.le_of_ble_eq_true rfl) rfl rfl (by decide) (by decide) d_Pa_cross_50 rfl (fun r τ hP => ?_)
      obtain ⟨rfl, rfl⟩ := hP
      show mx_G Γ κ _ _ 53 [(5, .int (nI r)), (0, .ref 165), (1, .int (nI st)), (2, .int (nI s)), (3, .int (nI q)), (4, .int (nI n))] [.int (mX (21 + n) r)] (nx, u, mX) 0 0
      refine x_iload_n (q := 54) hC d_Pa_cross_53 rfl rfl rfl ?_
      refine x_icmp_ne (tgt := 67) (q := 57) hC d_Pa_cross_54 (by decide) rfl (fun h54 => ?_) (fun h54 => ?_)
      · skip
        refine x_aload_n (q := 68) hC d_Pa_cross_67 rfl rfl rfl ?_
        refine x_dup (q := 69) hC d_Pa_cross_68 rfl rfl ?_
        refine x_geti (q := 72) (p := 165) (j := 9) hC f_Pa_25 rfl rfl (by omega) d_Pa_cross_69 rfl ?_
        refine x_iconst (q := 73) (v := nI 1) hC d_Pa_cross_72 (by decide) rfl ?_
        refine x_iadd (q := 74) (z := (mX 165 9) + (nI 1)) hC d_Pa_cross_73 rfl rfl ?_
        refine x_puti (q := 77) (p := 165) (j := 9) hC f_Pa_25 y_Pa rfl rfl rfl rfl rfl (by omega) (by decide) d_Pa_cross_74 rfl ?_
        exact x_vret hC rfl ⟨rfl, pr (by show _ = Pa_xs st s r q n (Pa_x1 mi); rw [eX']; unfold Pa_xs; refine it_f (fun z => ?_) rfl; have z2 := z.2; rw [Pa_side, if_neg h20] at z2; exact h54 z2)⟩ (by decide) (by decide) d_Pa_cross_77
      · skip
        refine x_aload_n (q := 58) hC d_Pa_cross_57 rfl rfl rfl ?_
        refine x_iload (q := 60) hC d_Pa_cross_58 rfl rfl ?_
        refine x_iload_n (q := 61) hC d_Pa_cross_60 rfl rfl rfl ?_
        refine x_callV (q := 64) (p := 165) (A := [.int (nI n), .int (nI q)]) (S := []) (c1 := 0) (s1 := 0) hC (c_Pa_carry (n := n) (r := r) (x := nI q) (by omega) hu hX) s_Pa_cross_76 rfl (by omega) rfl rfl rfl (Nat.le_of_ble_eq_true rfl) rfl rfl (by decide) (by decide) d_Pa_cross_61 rfl (fun r τ hP => ?_)
        obtain ⟨rfl, rfl⟩ := hP
        show mx_G Γ κ _ _ 64 [(5, .int (nI r)), (0, .ref 165), (1, .int (nI st)), (2, .int (nI s)), (3, .int (nI q)), (4, .int (nI n))] [] (nx, u, Pa_carry n (nI q) mX) 0 0
        refine x_goto (tgt := 77) hC d_Pa_cross_64 (by decide) ?_
        exact x_vret hC rfl ⟨rfl, pr (by show _ = Pa_xs st s r q n (Pa_x1 mi); rw [eX']; unfold Pa_xs; refine it_t (And.intro (fun z => h39 (by rw [z])) ?_) rfl; rw [Pa_side, if_neg h20]; exact h54)⟩ (by decide) (by decide) d_Pa_cross_77
  · have h20 := bz_1 h20
    refine x_iload_n (q := 24) hC d_Pa_cross_23 rfl rfl rfl ?_
    refine x_goto (tgt := 34) hC d_Pa_cross_24 (by decide) ?_
    refine x_istore (q := 36) (L1 := [(5, .int (nI s)), (0, .ref 165), (1, .int (nI st)), (2, .int (nI s)), (3, .int (nI q)), (4, .int (nI n))]) hC d_Pa_cross_34 (by decide) rfl rfl ?_
    refine x_iload (q := 38) hC d_Pa_cross_36 rfl rfl ?_
    refine x_iload_n (q := 39) hC d_Pa_cross_38 rfl rfl rfl ?_
    refine x_icmp_eq (tgt := 67) (q := 42) hC d_Pa_cross_39 (by decide) rfl (fun h39 => ?_) (fun h39 => ?_)
    · skip
      refine x_aload_n (q := 68) hC d_Pa_cross_67 rfl rfl rfl ?_
      refine x_dup (q := 69) hC d_Pa_cross_68 rfl rfl ?_
      refine x_geti (q := 72) (p := 165) (j := 9) hC f_Pa_25 rfl rfl (by omega) d_Pa_cross_69 rfl ?_
      refine x_iconst (q := 73) (v := nI 1) hC d_Pa_cross_72 (by decide) rfl ?_
      refine x_iadd (q := 74) (z := (mX 165 9) + (nI 1)) hC d_Pa_cross_73 rfl rfl ?_
      refine x_puti (q := 77) (p := 165) (j := 9) hC f_Pa_25 y_Pa rfl rfl rfl rfl rfl (by omega) (by decide) d_Pa_cross_74 rfl ?_
      exact x_vret hC rfl ⟨rfl, pr (by show _ = Pa_xs st s r q n (Pa_x1 mi); rw [eX']; unfold Pa_xs; exact it_f (fun z => z.1 ((nI_eq (by omega) (by omega)).mp h39)) rfl)⟩ (by decide) (by decide) d_Pa_cross_77
    · skip
      refine x_aload_n (q := 43) hC d_Pa_cross_42 rfl rfl rfl ?_
      refine x_getr (q := 46) (p := 165) (j := 0) (r := 5) hC f_Pa_34 rfl rfl rfl (by omega) (hu _ _ (by decide)) d_Pa_cross_43 rfl ?_
      refine x_iload (q := 48) hC d_Pa_cross_46 rfl rfl ?_
      refine x_iload (q := 50) hC d_Pa_cross_48 rfl rfl ?_
      refine x_callV (q := 53) (p := 5) (A := [.int (nI n), .int (nI s)]) (S := []) (c1 := 0) (s1 := 0) hC (c_Ne_nextTowards (a := n) (b := s) (by omega) hu (by omega) (by omega)) s_Pa_cross_135 rfl (by omega) rfl rfl rfl (Nat.le_of_ble_eq_true rfl) rfl rfl (by decide) (by decide) d_Pa_cross_50 rfl (fun r τ hP => ?_)
      obtain ⟨rfl, rfl⟩ := hP
      show mx_G Γ κ _ _ 53 [(5, .int (nI s)), (0, .ref 165), (1, .int (nI st)), (2, .int (nI s)), (3, .int (nI q)), (4, .int (nI n))] [.int (mX (21 + n) s)] (nx, u, mX) 0 0
      refine x_iload_n (q := 54) hC d_Pa_cross_53 rfl rfl rfl ?_
      refine x_icmp_ne (tgt := 67) (q := 57) hC d_Pa_cross_54 (by decide) rfl (fun h54 => ?_) (fun h54 => ?_)
      · skip
        refine x_aload_n (q := 68) hC d_Pa_cross_67 rfl rfl rfl ?_
        refine x_dup (q := 69) hC d_Pa_cross_68 rfl rfl ?_
        refine x_geti (q := 72) (p := 165) (j := 9) hC f_Pa_25 rfl rfl (by omega) d_Pa_cross_69 rfl ?_
        refine x_iconst (q := 73) (v := nI 1) hC d_Pa_cross_72 (by decide) rfl ?_
        refine x_iadd (q := 74) (z := (mX 165 9) + (nI 1)) hC d_Pa_cross_73 rfl rfl ?_
        refine x_puti (q := 77) (p := 165) (j := 9) hC f_Pa_25 y_Pa rfl rfl rfl rfl rfl (by omega) (by decide) d_Pa_cross_74 rfl ?_
        exact x_vret hC rfl ⟨rfl, pr (by show _ = Pa_xs st s r q n (Pa_x1 mi); rw [eX']; unfold Pa_xs; refine it_f (fun z => ?_) rfl; have z2 := z.2; rw [Pa_side, if_pos h20] at z2; exact h54 z2)⟩ (by decide) (by decide) d_Pa_cross_77
      · skip
        refine x_aload_n (q := 58) hC d_Pa_cross_57 rfl rfl rfl ?_
        refine x_iload (q := 60) hC d_Pa_cross_58 rfl rfl ?_
        refine x_iload_n (q := 61) hC d_Pa_cross_60 rfl rfl rfl ?_
        refine x_callV (q := 64) (p := 165) (A := [.int (nI n), .int (nI q)]) (S := []) (c1 := 0) (s1 := 0) hC (c_Pa_carry (n := n) (r := r) (x := nI q) (by omega) hu hX) s_Pa_cross_76 rfl (by omega) rfl rfl rfl (Nat.le_of_ble_eq_true rfl) rfl rfl (by decide) (by decide) d_Pa_cross_61 rfl (fun r τ hP => ?_)
        obtain ⟨rfl, rfl⟩ := hP
        show mx_G Γ κ _ _ 64 [(5, .int (nI s)), (0, .ref 165), (1, .int (nI st)), (2, .int (nI s)), (3, .int (nI q)), (4, .int (nI n))] [] (nx, u, Pa_carry n (nI q) mX) 0 0
        refine x_goto (tgt := 77) hC d_Pa_cross_64 (by decide) ?_
        exact x_vret hC rfl ⟨rfl, pr (by show _ = Pa_xs st s r q n (Pa_x1 mi); rw [eX']; unfold Pa_xs; refine it_t (And.intro (fun z => h39 (by rw [z])) ?_) rfl; rw [Pa_side, if_pos h20]; exact h54)⟩ (by decide) (by decide) d_Pa_cross_77
set_option maxRecDepth 100000 in
set_option maxHeartbeats 400000 in
theorem c_Pa_putOut {Γ : mx_X} {lau : Launch} {nx : Nat} {u : Nat → Nat → Bool} {mi : mx_Mm} {st s k r : Nat} (hnx : 168 ≤ nx) (hu : ∀ p k, 2 ≤ p → u p k = true) (hst : st < 18) (hs : s < 6) (hk : k < 6) (hr : r < 6) (hok : Pa_ok r mi) : mx_C Γ lau M_Pa_putOut [.ref 165, .int (nI st), .int (nI s), .int (nI k)] (nx, u, mi) (fun ρ τ => ρ = none ∧ τ = (nx, u, Pa_put st s r k mi)) := by
  refine mx_C.intro (by decide) rfl (Nat.le_of_ble_eq_true rfl) (fun κ _ hC => ?_)
  show mx_G Γ κ _ _ 0 [(0, .ref 165), (1, .int (nI st)), (2, .int (nI s)), (3, .int (nI k))] [] (nx, u, mi) 0 0
  refine x_aload_n (q := 1) hC d_Pa_putOut_0 rfl rfl rfl ?_
  refine x_getr (q := 4) (p := 165) (j := 5) (r := 166) hC f_Pa_9 rfl rfl rfl (by omega) (hu _ _ (by decide)) d_Pa_putOut_1 rfl ?_
  refine x_iload_n (q := 5) hC d_Pa_putOut_4 rfl rfl rfl ?_
  refine x_iald (q := 6) (p := 166) hC k rfl (by omega) rfl (by omega) (by decide) d_Pa_putOut_5 rfl ?_
  refine x_istore (q := 8) (L1 := [(4, .int (mi 166 k)), (0, .ref 165), (1, .int (nI st)), (2, .int (nI s)), (3, .int (nI k))]) hC d_Pa_putOut_6 (by decide) rfl rfl ?_
  obtain ⟨q, hq, eq0, et⟩ := hok.q hk
  refine mx_eqG (L1 := [(4, .int (nI q)), (0, .ref 165), (1, .int (nI st)), (2, .int (nI s)), (3, .int (nI k))]) (by rw [eq0]) rfl rfl ?_
  refine x_aload_n (q := 9) hC d_Pa_putOut_8 rfl rfl rfl ?_
  have J1 : mx_G Γ κ M_Pa_putOut (MQ (mx_b κ) (mx_Qc Γ (fun ρ τ => ρ = none ∧ τ = (nx, u, Pa_put st s r k mi))) (mx_a κ) (mx_s κ) M_Pa_putOut.2.2.2.2.cells M_Pa_putOut.2.2.2.2.slots (mx_fr Γ)) 46 [(5, .int (Pa_list st q mi)), (4, .int (nI q)), (0, .ref 165), (1, .int (nI st)), (2, .int (nI s)), (3, .int (nI k))] [] (nx, u, mi) 0 0 := by
    have J2 : mx_G Γ κ M_Pa_putOut (MQ (mx_b κ) (mx_Qc Γ (fun ρ τ => ρ = none ∧ τ = (nx, u, Pa_put st s r k mi))) (mx_a κ) (mx_s κ) M_Pa_putOut.2.2.2.2.cells M_Pa_putOut.2.2.2.2.slots (mx_fr Γ)) 73 [(5, .int (Pa_list st q mi)), (4, .int (nI q)), (0, .ref 165), (1, .int (nI st)), (2, .int (nI s)), (3, .int (nI k))] [] (nx, u, Pa_po1 s q (Pa_list st q mi) mi) 0 0 := by
      refine mx_nr (fun mj ej => ?_)
      have hIj : Pa_ok r mj := ej ▸ Pa_po1_ok hok
      refine x_iconst (q := 74) (v := nI 0) hC d_Pa_putOut_73 (by decide) rfl ?_
      refine x_istore (q := 76) (L1 := [(6, .int (nI 0)), (5, .int (Pa_list st q mi)), (4, .int (nI q)), (0, .ref 165), (1, .int (nI st)), (2, .int (nI s)), (3, .int (nI k))]) hC d_Pa_putOut_74 (by decide) rfl rfl ?_
      refine x_sub (L1 := [(6, .int (nI 0)), (5, .int (Pa_list st q mi)), (4, .int (nI q)), (0, .ref 165), (1, .int (nI st)), (2, .int (nI s)), (3, .int (nI k))]) [0, 1, 2, 3, 4, 5, 6] rfl ?_
      refine mx_loop (N := 6) (Hd := fun n m3 => mx_G Γ κ _ _ 76 [(6, .int (nI n)), (5, .int (Pa_list st q mi)), (4, .int (nI q)), (0, .ref 165), (1, .int (nI st)), (2, .int (nI s)), (3, .int (nI k))] [] (nx, u, m3) 0 0) (Pa_po2 st s r q k (Pa_list st q mi)) (fun _ m => Pa_ok r m) hIj ?_ ?_ ?_
      · exact fun n m hn h => Pa_po2_ok hn h
      · intro n m3 hl4 hI5 hN6
        refine x_iload (q := 78) hC d_Pa_putOut_76 rfl rfl ?_
        refine x_bipush (q := 80) (v := nI 6) hC d_Pa_putOut_78 (by decide) rfl ?_
        refine x_icmp_ge (tgt := 120) (q := 83) hC d_Pa_putOut_80 (by decide) rfl (fun h => absurd h (nI_ge hl4 (by decide))) (fun _ => ?_)
        refine x_iload (q := 85) hC d_Pa_putOut_83 rfl rfl ?_
        refine x_iload (q := 87) hC d_Pa_putOut_85 rfl rfl ?_
        refine x_callSN (q := 90) (A := [.int (Pa_list st q mi), .int (nI n)]) (S := []) (c1 := 0) (s1 := 0) hC (c_MT_holds (n := n)) s_Pa_putOut_128 rfl rfl rfl (Nat.le_of_ble_eq_true rfl) rfl rfl (by decide) (by decide) d_Pa_putOut_87 rfl (fun r τ hP => ?_)
        obtain ⟨rfl, rfl⟩ := hP
        show mx_G Γ κ _ _ 90 [(6, .int (nI n)), (5, .int (Pa_list st q mi)), (4, .int (nI q)), (0, .ref 165), (1, .int (nI st)), (2, .int (nI s)), (3, .int (nI k))] [.int (bz (hold (Pa_list st q mi) n))] (nx, u, m3) 0 0
        refine x_if_eq (tgt := 114) (q := 93) hC d_Pa_putOut_90 (by decide) rfl (fun h90 => ?_) (fun h90 => ?_)
        · have h90 := bz_0 h90
          refine x_iinc (q := 117) (y := nI (n + 1)) (L1 := [(6, .int (nI (n + 1))), (5, .int (Pa_list st q mi)), (4, .int (nI q)), (0, .ref 165), (1, .int (nI st)), (2, .int (nI s)), (3, .int (nI k))]) hC d_Pa_putOut_114 rfl (mx_inc n) (by decide) rfl rfl ?_
          refine x_goto (tgt := 76) hC d_Pa_putOut_117 (by decide) ?_
          exact x_close hN6 [0, 1, 2, 3, 4, 5, 6] rfl (by first | exact it_t (And.intro h90 h101) rfl | exact it_f (fun z => h90 z.1) rfl | exact it_f (fun z => z.2 h101) rfl)
        · have h90 := bz_1 h90
          refine x_iload (q := 95) hC d_Pa_putOut_93 rfl rfl ?_
          refine x_aload_n (q := 96) hC d_Pa_putOut_95 rfl rfl rfl ?_
          refine x_getr (q := 99) (p := 165) (j := 6) (r := 167) hC f_Pa_15 rfl rfl rfl (by omega) (hu _ _ (by decide)) d_Pa_putOut_96 rfl ?_
          refine x_iload_n (q := 100) hC d_Pa_putOut_99 rfl rfl rfl ?_
          refine x_iald (q := 101) (p := 167) hC k rfl (by omega) rfl (by omega) (by decide) d_Pa_putOut_100 rfl ?_
          refine x_icmp_eq (tgt := 114) (q := 104) hC d_Pa_putOut_101 (by decide) rfl (fun h101 => ?_) (fun h101 => ?_)
          · skip
            refine x_iinc (q := 117) (y := nI (n + 1)) (L1 := [(6, .int (nI (n + 1))), (5, .int (Pa_list st q mi)), (4, .int (nI q)), (0, .ref 165), (1, .int (nI st)), (2, .int (nI s)), (3, .int (nI k))]) hC d_Pa_putOut_114 rfl (mx_inc n) (by decide) rfl rfl ?_
            refine x_goto (tgt := 76) hC d_Pa_putOut_117 (by decide) ?_
            exact x_close hN6 [0, 1, 2, 3, 4, 5, 6] rfl (by first | exact it_t (And.intro h90 h101) rfl | exact it_f (fun z => h90 z.1) rfl | exact it_f (fun z => z.2 h101) rfl)
          · skip
            refine x_aload_n (q := 105) hC d_Pa_putOut_104 rfl rfl rfl ?_
            refine x_iload_n (q := 106) hC d_Pa_putOut_105 rfl rfl rfl ?_
            refine x_iload_n (q := 107) hC d_Pa_putOut_106 rfl rfl rfl ?_
            refine x_iload (q := 109) hC d_Pa_putOut_107 rfl rfl ?_
            refine x_iload (q := 111) hC d_Pa_putOut_109 rfl rfl ?_
            refine x_callV (q := 114) (p := 165) (A := [.int (nI st), .int (nI s), .int (nI q), .int (nI n)]) (S := []) (c1 := 0) (s1 := 0) hC (c_Pa_cross (st := st) (s := s) (q := q) (n := n) (r := r) (by omega) hu (by omega) (by omega) (by omega) (by omega) hr hI5) s_Pa_putOut_131 rfl (by omega) rfl rfl rfl (Nat.le_of_ble_eq_true rfl) rfl rfl (by decide) (by decide) d_Pa_putOut_111 rfl (fun r τ hP => ?_)
            obtain ⟨rfl, rfl⟩ := hP
            show mx_G Γ κ _ _ 114 [(6, .int (nI n)), (5, .int (Pa_list st q mi)), (4, .int (nI q)), (0, .ref 165), (1, .int (nI st)), (2, .int (nI s)), (3, .int (nI k))] [] (nx, u, Pa_cross st s r q n m3) 0 0
            refine x_iinc (q := 117) (y := nI (n + 1)) (L1 := [(6, .int (nI (n + 1))), (5, .int (Pa_list st q mi)), (4, .int (nI q)), (0, .ref 165), (1, .int (nI st)), (2, .int (nI s)), (3, .int (nI k))]) hC d_Pa_putOut_114 rfl (mx_inc n) (by decide) rfl rfl ?_
            refine x_goto (tgt := 76) hC d_Pa_putOut_117 (by decide) ?_
            exact x_close hN6 [0, 1, 2, 3, 4, 5, 6] rfl (by first | exact it_t (And.intro h90 h101) rfl | exact it_f (fun z => h90 z.1) rfl | exact it_f (fun z => z.2 h101) rfl)
      · intro hx7
        refine mx_nr (fun m8 e9 => ?_)
        try rw [e9] at hx7
        refine x_iload (q := 78) hC d_Pa_putOut_76 rfl rfl ?_
        refine x_bipush (q := 80) (v := nI 6) hC d_Pa_putOut_78 (by decide) rfl ?_
        refine x_icmp_ge (tgt := 120) (q := 83) hC d_Pa_putOut_80 (by decide) rfl (fun _ => ?_) (fun h => absurd (nI_le (Nat.le_refl _) (by decide)) h)
        subst e9
        subst ej
        exact x_vret hC rfl ⟨rfl, pr (by unfold Pa_put; rw [et] <;> rfl)⟩ (by decide) (by decide) d_Pa_putOut_120
    refine x_iload (q := 48) hC d_Pa_putOut_46 rfl rfl ?_
    refine x_bipush (q := 50) (v := nI 64) hC d_Pa_putOut_48 (by decide) rfl ?_
    refine x_iand (q := 51) (z := (Pa_list st q mi) &&& (nI 64)) hC d_Pa_putOut_50 rfl rfl ?_
    refine x_if_eq (tgt := 73) (q := 54) hC d_Pa_putOut_51 (by decide) rfl (fun h51 => ?_) (fun h51 => ?_)
    · skip
      exact x_sub (L1 := [(5, .int (Pa_list st q mi)), (4, .int (nI q)), (0, .ref 165), (1, .int (nI st)), (2, .int (nI s)), (3, .int (nI k))]) [0, 1, 2, 3, 4, 5] rfl (mx_eqG rfl rfl (pr (by first | exact it_t (And.intro h51 (fun z => h57 (by rw [z]))) rfl | exact it_f (fun z => z.1 h51) rfl | exact it_f (fun z => z.2 ((nI_eq (by omega) (by omega)).mp h57)) rfl)) J2)
    · skip
      refine x_iload (q := 56) hC d_Pa_putOut_54 rfl rfl ?_
      refine x_iload_n (q := 57) hC d_Pa_putOut_56 rfl rfl rfl ?_
      refine x_icmp_eq (tgt := 73) (q := 60) hC d_Pa_putOut_57 (by decide) rfl (fun h57 => ?_) (fun h57 => ?_)
      · skip
        exact x_sub (L1 := [(5, .int (Pa_list st q mi)), (4, .int (nI q)), (0, .ref 165), (1, .int (nI st)), (2, .int (nI s)), (3, .int (nI k))]) [0, 1, 2, 3, 4, 5] rfl (mx_eqG rfl rfl (pr (by first | exact it_t (And.intro h51 (fun z => h57 (by rw [z]))) rfl | exact it_f (fun z => z.1 h51) rfl | exact it_f (fun z => z.2 ((nI_eq (by omega) (by omega)).mp h57)) rfl)) J2)
      · skip
        refine x_aload_n (q := 61) hC d_Pa_putOut_60 rfl rfl rfl ?_
        refine x_dup (q := 62) hC d_Pa_putOut_61 rfl rfl ?_
        refine x_geti (q := 65) (p := 165) (j := 10) hC f_Pa_28 rfl rfl (by omega) d_Pa_putOut_62 rfl ?_
        refine x_iconst (q := 66) (v := nI 1) hC d_Pa_putOut_65 (by decide) rfl ?_
        refine x_iload (q := 68) hC d_Pa_putOut_66 rfl rfl ?_
        refine x_ishl (q := 69) (z := (nI 1) <<< ((nI q) &&& 31)) hC d_Pa_putOut_68 rfl rfl ?_
        refine x_ior (q := 70) (z := (mi 165 10) ||| ((nI 1) <<< ((nI q) &&& 31))) hC d_Pa_putOut_69 rfl rfl ?_
        refine x_puti (q := 73) (p := 165) (j := 10) hC f_Pa_28 y_Pa rfl rfl rfl rfl rfl (by omega) (by decide) d_Pa_putOut_70 rfl ?_
        refine mx_nr (fun m10 e11 => ?_)
        exact x_sub (L1 := [(5, .int (Pa_list st q mi)), (4, .int (nI q)), (0, .ref 165), (1, .int (nI st)), (2, .int (nI s)), (3, .int (nI k))]) [0, 1, 2, 3, 4, 5] rfl (mx_eqG rfl rfl (pr (by subst e11; first | exact it_t (And.intro h51 (fun z => h57 (by rw [z]))) rfl | exact it_f (fun z => z.1 h51) rfl | exact it_f (fun z => z.2 ((nI_eq (by omega) (by omega)).mp h57)) rfl)) J2)
  refine x_getr (q := 12) (p := 165) (j := 2) (r := 57) hC f_Pa_42 rfl rfl rfl (by omega) (hu _ _ (by decide)) d_Pa_putOut_9 rfl ?_
  refine x_iload_n (q := 13) hC d_Pa_putOut_12 rfl rfl rfl ?_
  refine x_iload (q := 15) hC d_Pa_putOut_13 rfl rfl ?_
  refine x_callV (q := 18) (p := 57) (A := [.int (nI st), .int (nI q)]) (S := []) (c1 := 0) (s1 := 0) hC (c_Sm_isSwitched (s := st) (n := q) (by omega) hu (by omega) (by omega) ) s_Pa_putOut_83 rfl (by omega) rfl rfl rfl (Nat.le_of_ble_eq_true rfl) rfl rfl (by decide) (by decide) d_Pa_putOut_15 rfl (fun r τ hP => ?_)
  obtain ⟨rfl, rfl⟩ := hP
  show mx_G Γ κ _ _ 18 [(4, .int (nI q)), (0, .ref 165), (1, .int (nI st)), (2, .int (nI s)), (3, .int (nI k))] [.int (bz (hold (mi 77 st) q))] (nx, u, mi) 0 0
  refine x_if_eq (tgt := 34) (q := 21) hC d_Pa_putOut_18 (by decide) rfl (fun h18 => ?_) (fun h18 => ?_)
  · have h18 := bz_0 h18
    refine x_aload_n (q := 35) hC d_Pa_putOut_34 rfl rfl rfl ?_
    refine x_getr (q := 38) (p := 165) (j := 3) (r := 79) hC f_Pa_46 rfl rfl rfl (by omega) (hu _ _ (by decide)) d_Pa_putOut_35 rfl ?_
    refine x_iload_n (q := 39) hC d_Pa_putOut_38 rfl rfl rfl ?_
    refine x_iload (q := 41) hC d_Pa_putOut_39 rfl rfl ?_
    refine x_callV (q := 44) (p := 79) (A := [.int (nI st), .int (nI q)]) (S := []) (c1 := 0) (s1 := 0) hC (c_Tr_innerList (a := st) (n := q) (by omega) hu (by omega) (by omega) ) s_Pa_putOut_125 rfl (by omega) rfl rfl rfl (Nat.le_of_ble_eq_true rfl) rfl rfl (by decide) (by decide) d_Pa_putOut_41 rfl (fun r τ hP => ?_)
    obtain ⟨rfl, rfl⟩ := hP
    show mx_G Γ κ _ _ 44 [(4, .int (nI q)), (0, .ref 165), (1, .int (nI st)), (2, .int (nI s)), (3, .int (nI k))] [.int (mi (127 + st) q)] (nx, u, mi) 0 0
    refine x_istore (q := 46) (L1 := [(5, .int (mi (127 + st) q)), (4, .int (nI q)), (0, .ref 165), (1, .int (nI st)), (2, .int (nI s)), (3, .int (nI k))]) hC d_Pa_putOut_44 (by decide) rfl rfl ?_
    exact x_sub (L1 := [(5, .int (mi (127 + st) q)), (4, .int (nI q)), (0, .ref 165), (1, .int (nI st)), (2, .int (nI s)), (3, .int (nI k))]) [0, 1, 2, 3, 4, 5] rfl (mx_eqG (by first | rw [Pa_list, if_pos h18] | rw [Pa_list, if_neg h18]) rfl rfl J1)
  · have h18 := bz_1 h18
    refine x_aload_n (q := 22) hC d_Pa_putOut_21 rfl rfl rfl ?_
    refine x_getr (q := 25) (p := 165) (j := 3) (r := 79) hC f_Pa_46 rfl rfl rfl (by omega) (hu _ _ (by decide)) d_Pa_putOut_22 rfl ?_
    refine x_iload_n (q := 26) hC d_Pa_putOut_25 rfl rfl rfl ?_
    refine x_iload (q := 28) hC d_Pa_putOut_26 rfl rfl ?_
    refine x_callV (q := 31) (p := 79) (A := [.int (nI st), .int (nI q)]) (S := []) (c1 := 0) (s1 := 0) hC (c_Tr_outerList (a := st) (n := q) (by omega) hu (by omega) (by omega) ) s_Pa_putOut_71 rfl (by omega) rfl rfl rfl (Nat.le_of_ble_eq_true rfl) rfl rfl (by decide) (by decide) d_Pa_putOut_28 rfl (fun r τ hP => ?_)
    obtain ⟨rfl, rfl⟩ := hP
    show mx_G Γ κ _ _ 31 [(4, .int (nI q)), (0, .ref 165), (1, .int (nI st)), (2, .int (nI s)), (3, .int (nI k))] [.int (mi (146 + st) q)] (nx, u, mi) 0 0
    refine x_goto (tgt := 44) hC d_Pa_putOut_31 (by decide) ?_
    refine x_istore (q := 46) (L1 := [(5, .int (mi (146 + st) q)), (4, .int (nI q)), (0, .ref 165), (1, .int (nI st)), (2, .int (nI s)), (3, .int (nI k))]) hC d_Pa_putOut_44 (by decide) rfl rfl ?_
    exact x_sub (L1 := [(5, .int (mi (146 + st) q)), (4, .int (nI q)), (0, .ref 165), (1, .int (nI st)), (2, .int (nI s)), (3, .int (nI k))]) [0, 1, 2, 3, 4, 5] rfl (mx_eqG (by first | rw [Pa_list, if_pos h18] | rw [Pa_list, if_neg h18]) rfl rfl J1)
set_option maxRecDepth 100000 in
set_option maxHeartbeats 400000 in
theorem c_Pa_renewCarriers {Γ : mx_X} {lau : Launch} {nx : Nat} {u : Nat → Nat → Bool} {mi : mx_Mm} {st g r : Nat} (hnx : 168 ≤ nx) (hu : ∀ p k, 2 ≤ p → u p k = true) (hst : st < 18) (hg : g < 3) (hok : Pa_ok r mi) : mx_C Γ lau M_Pa_renewCarriers [.ref 165, .int (nI st), .int (nI g)] (nx, u, mi) (fun ρ τ => ρ = none ∧ τ = (nx, u, mx_lp 6 (Pa_rn st g) mi)) := by
  refine mx_C.intro (by decide) rfl (Nat.le_of_ble_eq_true rfl) (fun κ _ hC => ?_)
  show mx_G Γ κ _ _ 0 [(0, .ref 165), (1, .int (nI st)), (2, .int (nI g))] [] (nx, u, mi) 0 0
  refine x_iconst (q := 1) (v := nI 0) hC d_Pa_renewCarriers_0 (by decide) rfl ?_
  refine x_istore_n (q := 2) (L1 := [(3, .int (nI 0)), (0, .ref 165), (1, .int (nI st)), (2, .int (nI g))]) hC d_Pa_renewCarriers_1 rfl (by decide) rfl rfl ?_
  refine x_sub (L1 := [(3, .int (nI 0)), (0, .ref 165), (1, .int (nI st)), (2, .int (nI g))]) [0, 1, 2, 3] rfl ?_
  refine mx_loopB (N := 6) (Hd := fun k m1 => mx_G Γ κ M_Pa_renewCarriers (MQ (mx_b κ) (mx_Qc Γ (fun ρ τ => ρ = none ∧ τ = (nx, u, mx_lp 6 (Pa_rn st g) mi))) (mx_a κ) (mx_s κ) M_Pa_renewCarriers.2.2.2.2.cells M_Pa_renewCarriers.2.2.2.2.slots (mx_fr Γ)) 2 [(3, .int (nI k)), (0, .ref 165), (1, .int (nI st)), (2, .int (nI g))] [] (nx, u, m1) 0 0) (Ex := fun m1 => mx_G Γ κ M_Pa_renewCarriers (MQ (mx_b κ) (mx_Qc Γ (fun ρ τ => ρ = none ∧ τ = (nx, u, mx_lp 6 (Pa_rn st g) mi))) (mx_a κ) (mx_s κ) M_Pa_renewCarriers.2.2.2.2.cells M_Pa_renewCarriers.2.2.2.2.slots (mx_fr Γ)) 66 [(0, .ref 165), (1, .int (nI st)), (2, .int (nI g))] [] (nx, u, m1) 0 0) (Pa_rn st g) (fun k m => nI k < m 165 7) (fun _ m => Pa_ok r m) hok ?_ ?_ ?_ ?_ ?_
  · exact fun k m hk h => Pa_rn_ok hst h
  · exact fun i j m hij hj hn => if_neg (Pa_stay hij hj hn)
  · intro k m1 hl2 hI3 hN4 hE5
    refine x_iload_n (q := 3) hC d_Pa_renewCarriers_2 rfl rfl rfl ?_
    refine x_bipush (q := 5) (v := nI 6) hC d_Pa_renewCarriers_3 (by decide) rfl ?_
    refine x_icmp_ge (tgt := 66) (q := 8) hC d_Pa_renewCarriers_5 (by decide) rfl (fun h => absurd h (nI_ge hl2 (by decide))) (fun _ => ?_)
    refine x_iload_n (q := 9) hC d_Pa_renewCarriers_8 rfl rfl rfl ?_
    refine x_aload_n (q := 10) hC d_Pa_renewCarriers_9 rfl rfl rfl ?_
    refine x_geti (q := 13) (p := 165) (j := 7) hC f_Pa_18 rfl rfl (by omega) d_Pa_renewCarriers_10 rfl ?_
    refine x_icmp_ge (tgt := 66) (q := 16) hC d_Pa_renewCarriers_13 (by decide) rfl (fun h13 => ?_) (fun h13 => ?_)
    · skip
      exact x_sub (L1 := [(0, .ref 165), (1, .int (nI st)), (2, .int (nI g))]) [1, 2, 3] rfl (hE5 (Int32.not_lt.mpr h13))
    · skip
      refine x_aload_n (q := 17) hC d_Pa_renewCarriers_16 rfl rfl rfl ?_
      refine x_getr (q := 20) (p := 165) (j := 5) (r := 166) hC f_Pa_9 rfl rfl rfl (by omega) (hu _ _ (by decide)) d_Pa_renewCarriers_17 rfl ?_
      refine x_iload_n (q := 21) hC d_Pa_renewCarriers_20 rfl rfl rfl ?_
      refine x_iald (q := 22) (p := 166) hC k rfl (by omega) rfl (by omega) (by decide) d_Pa_renewCarriers_21 rfl ?_
      refine x_istore (q := 24) (L1 := [(4, .int (m1 166 k)), (3, .int (nI k)), (0, .ref 165), (1, .int (nI st)), (2, .int (nI g))]) hC d_Pa_renewCarriers_22 (by decide) rfl rfl ?_
      obtain ⟨q, hq, eq0, et⟩ := hI3.q hl2
      refine mx_eqG (L1 := [(4, .int (nI q)), (3, .int (nI k)), (0, .ref 165), (1, .int (nI st)), (2, .int (nI g))]) (by rw [eq0]) rfl rfl ?_
      refine x_aload_n (q := 25) hC d_Pa_renewCarriers_24 rfl rfl rfl ?_
      refine x_getr (q := 28) (p := 165) (j := 2) (r := 57) hC f_Pa_42 rfl rfl rfl (by omega) (hu _ _ (by decide)) d_Pa_renewCarriers_25 rfl ?_
      refine x_iload_n (q := 29) hC d_Pa_renewCarriers_28 rfl rfl rfl ?_
      refine x_iload (q := 31) hC d_Pa_renewCarriers_29 rfl rfl ?_
      refine x_callV (q := 34) (p := 57) (A := [.int (nI st), .int (nI q)]) (S := []) (c1 := 0) (s1 := 0) hC (c_Sm_isSwitched (s := st) (n := q) (by omega) hu (by omega) (by omega) ) s_Pa_renewCarriers_83 rfl (by omega) rfl rfl rfl (Nat.le_of_ble_eq_true rfl) rfl rfl (by decide) (by decide) d_Pa_renewCarriers_31 rfl (fun r τ hP => ?_)
      obtain ⟨rfl, rfl⟩ := hP
      show mx_G Γ κ _ _ 34 [(4, .int (nI q)), (3, .int (nI k)), (0, .ref 165), (1, .int (nI st)), (2, .int (nI g))] [.int (bz (hold (m1 77 st) q))] (nx, u, m1) 0 0
      refine x_if_ne (tgt := 60) (q := 37) hC d_Pa_renewCarriers_34 (by decide) rfl (fun h34 => ?_) (fun h34 => ?_)
      · have h34 := bz_1 h34
        refine x_iinc (q := 63) (y := nI (k + 1)) (L1 := [(3, .int (nI (k + 1))), (4, .int (nI q)), (0, .ref 165), (1, .int (nI st)), (2, .int (nI g))]) hC d_Pa_renewCarriers_60 rfl (mx_inc k) (by decide) rfl rfl ?_
        refine x_goto (tgt := 2) hC d_Pa_renewCarriers_63 (by decide) ?_
        exact x_close (hN4 (Int32.not_le.mp h13)) [0, 2, 3, 4] rfl (by refine it_t (Int32.not_le.mp h13) ?_; show _ = Pa_rnq st g (tn _) _; rw [et]; first | exact it_t (And.intro h34 h47) rfl | exact it_f (fun z => z.1 h34) rfl | exact it_f (fun z => h47 z.2) rfl)
      · have h34 := bz_0 h34
        refine x_aload_n (q := 38) hC d_Pa_renewCarriers_37 rfl rfl rfl ?_
        refine x_getr (q := 41) (p := 165) (j := 1) (r := 34) hC f_Pa_38 rfl rfl rfl (by omega) (hu _ _ (by decide)) d_Pa_renewCarriers_38 rfl ?_
        refine x_iload (q := 43) hC d_Pa_renewCarriers_41 rfl rfl ?_
        refine x_iload_n (q := 44) hC d_Pa_renewCarriers_43 rfl rfl rfl ?_
        refine x_callV (q := 47) (p := 34) (A := [.int (nI q), .int (nI g)]) (S := []) (c1 := 0) (s1 := 0) hC (c_La_isMarked (l := q) (g := g) (by omega) hu (by omega) (by omega) ) s_Pa_renewCarriers_58 rfl (by omega) rfl rfl rfl (Nat.le_of_ble_eq_true rfl) rfl rfl (by decide) (by decide) d_Pa_renewCarriers_44 rfl (fun r τ hP => ?_)
        obtain ⟨rfl, rfl⟩ := hP
        show mx_G Γ κ _ _ 47 [(4, .int (nI q)), (3, .int (nI k)), (0, .ref 165), (1, .int (nI st)), (2, .int (nI g))] [.int (bz (m1 2 0 < m1 (43 + q) g))] (nx, u, m1) 0 0
        refine x_if_eq (tgt := 60) (q := 50) hC d_Pa_renewCarriers_47 (by decide) rfl (fun h47 => ?_) (fun h47 => ?_)
        · have h47 := bz_0 h47
          refine x_iinc (q := 63) (y := nI (k + 1)) (L1 := [(3, .int (nI (k + 1))), (4, .int (nI q)), (0, .ref 165), (1, .int (nI st)), (2, .int (nI g))]) hC d_Pa_renewCarriers_60 rfl (mx_inc k) (by decide) rfl rfl ?_
          refine x_goto (tgt := 2) hC d_Pa_renewCarriers_63 (by decide) ?_
          exact x_close (hN4 (Int32.not_le.mp h13)) [0, 2, 3, 4] rfl (by refine it_t (Int32.not_le.mp h13) ?_; show _ = Pa_rnq st g (tn _) _; rw [et]; first | exact it_t (And.intro h34 h47) rfl | exact it_f (fun z => z.1 h34) rfl | exact it_f (fun z => h47 z.2) rfl)
        · have h47 := bz_1 h47
          refine x_aload_n (q := 51) hC d_Pa_renewCarriers_50 rfl rfl rfl ?_
          refine x_getr (q := 54) (p := 165) (j := 2) (r := 57) hC f_Pa_42 rfl rfl rfl (by omega) (hu _ _ (by decide)) d_Pa_renewCarriers_51 rfl ?_
          refine x_iload_n (q := 55) hC d_Pa_renewCarriers_54 rfl rfl rfl ?_
          refine x_iload (q := 57) hC d_Pa_renewCarriers_55 rfl rfl ?_
          refine x_callV (q := 60) (p := 57) (A := [.int (nI st), .int (nI q)]) (S := []) (c1 := 0) (s1 := 0) hC (c_Sm_renew (s := st) (n := q) (by omega) hu (by omega) (by omega) ) s_Pa_renewCarriers_98 rfl (by omega) rfl rfl rfl (Nat.le_of_ble_eq_true rfl) rfl rfl (by decide) (by decide) d_Pa_renewCarriers_57 rfl (fun r τ hP => ?_)
          obtain ⟨rfl, rfl⟩ := hP
          show mx_G Γ κ _ _ 60 [(4, .int (nI q)), (3, .int (nI k)), (0, .ref 165), (1, .int (nI st)), (2, .int (nI g))] [] (nx, u, Sm_renew st q m1) 0 0
          refine x_iinc (q := 63) (y := nI (k + 1)) (L1 := [(3, .int (nI (k + 1))), (4, .int (nI q)), (0, .ref 165), (1, .int (nI st)), (2, .int (nI g))]) hC d_Pa_renewCarriers_60 rfl (mx_inc k) (by decide) rfl rfl ?_
          refine x_goto (tgt := 2) hC d_Pa_renewCarriers_63 (by decide) ?_
          exact x_close (hN4 (Int32.not_le.mp h13)) [0, 2, 3, 4] rfl (by refine it_t (Int32.not_le.mp h13) ?_; show _ = Pa_rnq st g (tn _) _; rw [et]; first | exact it_t (And.intro h34 h47) rfl | exact it_f (fun z => z.1 h34) rfl | exact it_f (fun z => h47 z.2) rfl)
  · intro m1 hI7 hE6
    refine x_iload_n (q := 3) hC d_Pa_renewCarriers_2 rfl rfl rfl ?_
    refine x_bipush (q := 5) (v := nI 6) hC d_Pa_renewCarriers_3 (by decide) rfl ?_
    refine x_icmp_ge (tgt := 66) (q := 8) hC d_Pa_renewCarriers_5 (by decide) rfl (fun _ => ?_) (fun h => absurd (nI_le (Nat.le_refl _) (by decide)) h)
    exact x_sub (L1 := [(0, .ref 165), (1, .int (nI st)), (2, .int (nI g))]) [1, 2, 3] rfl hE6
  · refine mx_nr (fun mb2 eb2 => ?_)
    subst eb2
    exact x_vret hC rfl ⟨rfl, rfl⟩ (by decide) (by decide) d_Pa_renewCarriers_66
set_option maxRecDepth 100000 in
set_option maxHeartbeats 400000 in
theorem c_Pa_listen {Γ : mx_X} {lau : Launch} {nx : Nat} {u : Nat → Nat → Bool} {mi : mx_Mm}  (hnx : 168 ≤ nx) (hu : ∀ p k, 2 ≤ p → u p k = true)  : mx_C Γ lau M_Pa_listen [.ref 165] (nx, u, mi) (fun ρ τ => ρ = none ∧ τ = (nx, u, Pa_listen mi)) := by
  refine mx_C.intro (by decide) rfl (Nat.le_of_ble_eq_true rfl) (fun κ _ hC => ?_)
  show mx_G Γ κ _ _ 0 [(0, .ref 165)] [] (nx, u, mi) 0 0
  refine x_aload_n (q := 1) hC d_Pa_listen_0 rfl rfl rfl ?_
  refine x_iconst (q := 2) (v := nI 0) hC d_Pa_listen_1 (by decide) rfl ?_
  refine x_puti (q := 5) (p := 165) (j := 11) hC f_Pa_31 y_Pa rfl rfl rfl rfl rfl (by omega) (by decide) d_Pa_listen_2 rfl ?_
  refine x_iconst (q := 6) (v := nI 0) hC d_Pa_listen_5 (by decide) rfl ?_
  refine x_istore_n (q := 7) (L1 := [(1, .int (nI 0)), (0, .ref 165)]) hC d_Pa_listen_6 rfl (by decide) rfl rfl ?_
  refine x_sub (L1 := [(1, .int (nI 0)), (0, .ref 165)]) [0, 1] rfl ?_
  refine mx_loop (N := 6) (Hd := fun l m1 => mx_G Γ κ _ _ 7 [(1, .int (nI l)), (0, .ref 165)] [] (nx, u, m1) 0 0) (Pa_l1) (fun _ _ => True) trivial ?_ ?_ ?_
  · exact fun _ _ _ _ => trivial
  · intro l m1 hl2 hI3 hN4
    refine x_iload_n (q := 8) hC d_Pa_listen_7 rfl rfl rfl ?_
    refine x_bipush (q := 10) (v := nI 6) hC d_Pa_listen_8 (by decide) rfl ?_
    refine x_icmp_ge (tgt := 53) (q := 13) hC d_Pa_listen_10 (by decide) rfl (fun h => absurd h (nI_ge hl2 (by decide))) (fun _ => ?_)
    refine x_aload_n (q := 14) hC d_Pa_listen_13 rfl rfl rfl ?_
    refine x_geti (q := 17) (p := 165) (j := 10) hC f_Pa_28 rfl rfl (by omega) d_Pa_listen_14 rfl ?_
    refine x_iload_n (q := 18) hC d_Pa_listen_17 rfl rfl rfl ?_
    refine x_callSN (q := 21) (A := [.int (m1 165 10), .int (nI l)]) (S := []) (c1 := 0) (s1 := 0) hC (c_MT_holds (n := l)) s_Pa_listen_128 rfl rfl rfl (Nat.le_of_ble_eq_true rfl) rfl rfl (by decide) (by decide) d_Pa_listen_18 rfl (fun r τ hP => ?_)
    obtain ⟨rfl, rfl⟩ := hP
    show mx_G Γ κ _ _ 21 [(1, .int (nI l)), (0, .ref 165)] [.int (bz (hold (m1 165 10) l))] (nx, u, m1) 0 0
    refine x_if_eq (tgt := 47) (q := 24) hC d_Pa_listen_21 (by decide) rfl (fun h21 => ?_) (fun h21 => ?_)
    · have h21 := bz_0 h21
      refine x_iinc (q := 50) (y := nI (l + 1)) (L1 := [(1, .int (nI (l + 1))), (0, .ref 165)]) hC d_Pa_listen_47 rfl (mx_inc l) (by decide) rfl rfl ?_
      refine x_goto (tgt := 7) hC d_Pa_listen_50 (by decide) ?_
      exact x_close hN4 [0, 1] rfl (by first | exact it_t h21 (it_t h32 rfl) | exact it_t h21 (it_f h32 rfl) | exact it_f h21 rfl)
    · have h21 := bz_1 h21
      refine x_aload_n (q := 25) hC d_Pa_listen_24 rfl rfl rfl ?_
      refine x_getr (q := 28) (p := 165) (j := 1) (r := 34) hC f_Pa_38 rfl rfl rfl (by omega) (hu _ _ (by decide)) d_Pa_listen_25 rfl ?_
      refine x_iload_n (q := 29) hC d_Pa_listen_28 rfl rfl rfl ?_
      refine x_callV (q := 32) (p := 34) (A := [.int (nI l)]) (S := []) (c1 := 0) (s1 := 0) hC (c_La_hearsOrLoses (l := l) (by omega) hu (by omega)) s_Pa_listen_138 rfl (by omega) rfl rfl rfl (Nat.le_of_ble_eq_true rfl) rfl rfl (by decide) (by decide) d_Pa_listen_29 rfl (fun r τ hP => ?_)
      obtain ⟨rfl, rfl⟩ := hP
      show mx_G Γ κ _ _ 32 [(1, .int (nI l)), (0, .ref 165)] [.int (bz (m1 56 l = 0))] (nx, u, La_hear l m1) 0 0
      refine x_if_eq (tgt := 47) (q := 35) hC d_Pa_listen_32 (by decide) rfl (fun h32 => ?_) (fun h32 => ?_)
      · have h32 := bz_0 h32
        refine x_iinc (q := 50) (y := nI (l + 1)) (L1 := [(1, .int (nI (l + 1))), (0, .ref 165)]) hC d_Pa_listen_47 rfl (mx_inc l) (by decide) rfl rfl ?_
        refine x_goto (tgt := 7) hC d_Pa_listen_50 (by decide) ?_
        exact x_close hN4 [0, 1] rfl (by first | exact it_t h21 (it_t h32 rfl) | exact it_t h21 (it_f h32 rfl) | exact it_f h21 rfl)
      · have h32 := bz_1 h32
        refine x_aload_n (q := 36) hC d_Pa_listen_35 rfl rfl rfl ?_
        refine x_dup (q := 37) hC d_Pa_listen_36 rfl rfl ?_
        refine x_geti (q := 40) (p := 165) (j := 11) hC f_Pa_31 rfl rfl (by omega) d_Pa_listen_37 rfl ?_
        refine x_iconst (q := 41) (v := nI 1) hC d_Pa_listen_40 (by decide) rfl ?_
        refine x_iload_n (q := 42) hC d_Pa_listen_41 rfl rfl rfl ?_
        refine x_ishl (q := 43) (z := (nI 1) <<< ((nI l) &&& 31)) hC d_Pa_listen_42 rfl rfl ?_
        refine x_ior (q := 44) (z := ((La_hear l m1) 165 11) ||| ((nI 1) <<< ((nI l) &&& 31))) hC d_Pa_listen_43 rfl rfl ?_
        refine x_puti (q := 47) (p := 165) (j := 11) hC f_Pa_31 y_Pa rfl rfl rfl rfl rfl (by omega) (by decide) d_Pa_listen_44 rfl ?_
        refine mx_nr (fun m5 e6 => ?_)
        refine x_iinc (q := 50) (y := nI (l + 1)) (L1 := [(1, .int (nI (l + 1))), (0, .ref 165)]) hC d_Pa_listen_47 rfl (mx_inc l) (by decide) rfl rfl ?_
        refine x_goto (tgt := 7) hC d_Pa_listen_50 (by decide) ?_
        subst e6
        exact x_close hN4 [0, 1] rfl (by first | exact it_t h21 (it_t h32 rfl) | exact it_t h21 (it_f h32 rfl) | exact it_f h21 rfl)
  · intro hx7
    refine mx_nr (fun m8 e9 => ?_)
    try rw [e9] at hx7
    refine x_iload_n (q := 8) hC d_Pa_listen_7 rfl rfl rfl ?_
    refine x_bipush (q := 10) (v := nI 6) hC d_Pa_listen_8 (by decide) rfl ?_
    refine x_icmp_ge (tgt := 53) (q := 13) hC d_Pa_listen_10 (by decide) rfl (fun _ => ?_) (fun h => absurd (nI_le (Nat.le_refl _) (by decide)) h)
    subst e9
    exact x_vret hC rfl ⟨rfl, rfl⟩ (by decide) (by decide) d_Pa_listen_53
set_option maxRecDepth 100000 in
set_option maxHeartbeats 400000 in
theorem c_Pa_switchJoined {Γ : mx_X} {lau : Launch} {nx : Nat} {u : Nat → Nat → Bool} {mi : mx_Mm} {st s : Nat} (hnx : 168 ≤ nx) (hu : ∀ p k, 2 ≤ p → u p k = true) (hst : st < 18) (hs : s < 6) : mx_C Γ lau M_Pa_switchJoined [.ref 165, .int (nI st), .int (nI s)] (nx, u, mi) (fun ρ τ => ρ = none ∧ τ = (nx, u, Pa_sj st s mi)) := by
  refine mx_C.intro (by decide) rfl (Nat.le_of_ble_eq_true rfl) (fun κ _ hC => ?_)
  show mx_G Γ κ _ _ 0 [(0, .ref 165), (1, .int (nI st)), (2, .int (nI s))] [] (nx, u, mi) 0 0
  refine x_aload_n (q := 1) hC d_Pa_switchJoined_0 rfl rfl rfl ?_
  refine x_getr (q := 4) (p := 165) (j := 2) (r := 57) hC f_Pa_42 rfl rfl rfl (by omega) (hu _ _ (by decide)) d_Pa_switchJoined_1 rfl ?_
  refine x_iload_n (q := 5) hC d_Pa_switchJoined_4 rfl rfl rfl ?_
  refine x_iload_n (q := 6) hC d_Pa_switchJoined_5 rfl rfl rfl ?_
  refine x_callV (q := 9) (p := 57) (A := [.int (nI st), .int (nI s)]) (S := []) (c1 := 0) (s1 := 0) hC (c_Sm_renew (s := st) (n := s) (by omega) hu (by omega) (by omega) ) s_Pa_switchJoined_98 rfl (by omega) rfl rfl rfl (Nat.le_of_ble_eq_true rfl) rfl rfl (by decide) (by decide) d_Pa_switchJoined_6 rfl (fun r τ hP => ?_)
  obtain ⟨rfl, rfl⟩ := hP
  show mx_G Γ κ _ _ 9 [(0, .ref 165), (1, .int (nI st)), (2, .int (nI s))] [] (nx, u, Sm_renew st s mi) 0 0
  have J1 : mx_G Γ κ M_Pa_switchJoined (MQ (mx_b κ) (mx_Qc Γ (fun ρ τ => ρ = none ∧ τ = (nx, u, Pa_sj st s mi))) (mx_a κ) (mx_s κ) M_Pa_switchJoined.2.2.2.2.cells M_Pa_switchJoined.2.2.2.2.slots (mx_fr Γ)) 30 [(0, .ref 165), (1, .int (nI st)), (2, .int (nI s))] [] (nx, u, Pa_j1 st s (Sm_renew st s mi)) 0 0 := by
    refine x_iconst (q := 31) (v := nI 0) hC d_Pa_switchJoined_30 (by decide) rfl ?_
    refine x_istore_n (q := 32) (L1 := [(3, .int (nI 0)), (0, .ref 165), (1, .int (nI st)), (2, .int (nI s))]) hC d_Pa_switchJoined_31 rfl (by decide) rfl rfl ?_
    refine x_sub (L1 := [(3, .int (nI 0)), (0, .ref 165), (1, .int (nI st)), (2, .int (nI s))]) [0, 1, 2, 3] rfl ?_
    refine mx_loop (N := 6) (Hd := fun n m2 => mx_G Γ κ _ _ 32 [(3, .int (nI n)), (0, .ref 165), (1, .int (nI st)), (2, .int (nI s))] [] (nx, u, m2) 0 0) (Pa_j2 st) (fun _ _ => True) trivial ?_ ?_ ?_
    · exact fun _ _ _ _ => trivial
    · intro n m2 hl3 hI4 hN5
      refine x_iload_n (q := 33) hC d_Pa_switchJoined_32 rfl rfl rfl ?_
      refine x_bipush (q := 35) (v := nI 6) hC d_Pa_switchJoined_33 (by decide) rfl ?_
      refine x_icmp_ge (tgt := 66) (q := 38) hC d_Pa_switchJoined_35 (by decide) rfl (fun h => absurd h (nI_ge hl3 (by decide))) (fun _ => ?_)
      refine x_aload_n (q := 39) hC d_Pa_switchJoined_38 rfl rfl rfl ?_
      refine x_getr (q := 42) (p := 165) (j := 3) (r := 79) hC f_Pa_46 rfl rfl rfl (by omega) (hu _ _ (by decide)) d_Pa_switchJoined_39 rfl ?_
      refine x_iload_n (q := 43) hC d_Pa_switchJoined_42 rfl rfl rfl ?_
      refine x_iload_n (q := 44) hC d_Pa_switchJoined_43 rfl rfl rfl ?_
      refine x_callV (q := 47) (p := 79) (A := [.int (nI st), .int (nI n)]) (S := []) (c1 := 0) (s1 := 0) hC (c_Tr_sourceJoinOf (a := st) (n := n) (by omega) hu (by omega) (by omega) ) s_Pa_switchJoined_104 rfl (by omega) rfl rfl rfl (Nat.le_of_ble_eq_true rfl) rfl rfl (by decide) (by decide) d_Pa_switchJoined_44 rfl (fun r τ hP => ?_)
      obtain ⟨rfl, rfl⟩ := hP
      show mx_G Γ κ _ _ 47 [(3, .int (nI n)), (0, .ref 165), (1, .int (nI st)), (2, .int (nI s))] [.int (m2 (108 + st) n)] (nx, u, m2) 0 0
      refine x_iconst (q := 48) (v := (-1)) hC d_Pa_switchJoined_47 (by decide) rfl ?_
      refine x_icmp_eq (tgt := 60) (q := 51) hC d_Pa_switchJoined_48 (by decide) rfl (fun h48 => ?_) (fun h48 => ?_)
      · skip
        refine x_iinc (q := 63) (y := nI (n + 1)) (L1 := [(3, .int (nI (n + 1))), (0, .ref 165), (1, .int (nI st)), (2, .int (nI s))]) hC d_Pa_switchJoined_60 rfl (mx_inc n) (by decide) rfl rfl ?_
        refine x_goto (tgt := 32) hC d_Pa_switchJoined_63 (by decide) ?_
        exact x_close hN5 [0, 1, 2, 3] rfl (by first | exact it_t h48 rfl | exact it_f h48 rfl)
      · skip
        refine x_aload_n (q := 52) hC d_Pa_switchJoined_51 rfl rfl rfl ?_
        refine x_getr (q := 55) (p := 165) (j := 2) (r := 57) hC f_Pa_42 rfl rfl rfl (by omega) (hu _ _ (by decide)) d_Pa_switchJoined_52 rfl ?_
        refine x_iload_n (q := 56) hC d_Pa_switchJoined_55 rfl rfl rfl ?_
        refine x_iload_n (q := 57) hC d_Pa_switchJoined_56 rfl rfl rfl ?_
        refine x_callV (q := 60) (p := 57) (A := [.int (nI st), .int (nI n)]) (S := []) (c1 := 0) (s1 := 0) hC (c_Sm_switchOver (s := st) (n := n) (by omega) hu (by omega) (by omega) ) s_Pa_switchJoined_101 rfl (by omega) rfl rfl rfl (Nat.le_of_ble_eq_true rfl) rfl rfl (by decide) (by decide) d_Pa_switchJoined_57 rfl (fun r τ hP => ?_)
        obtain ⟨rfl, rfl⟩ := hP
        show mx_G Γ κ _ _ 60 [(3, .int (nI n)), (0, .ref 165), (1, .int (nI st)), (2, .int (nI s))] [] (nx, u, Sm_over st n m2) 0 0
        refine x_iinc (q := 63) (y := nI (n + 1)) (L1 := [(3, .int (nI (n + 1))), (0, .ref 165), (1, .int (nI st)), (2, .int (nI s))]) hC d_Pa_switchJoined_60 rfl (mx_inc n) (by decide) rfl rfl ?_
        refine x_goto (tgt := 32) hC d_Pa_switchJoined_63 (by decide) ?_
        exact x_close hN5 [0, 1, 2, 3] rfl (by first | exact it_t h48 rfl | exact it_f h48 rfl)
    · intro hx6
      refine mx_nr (fun m7 e8 => ?_)
      try rw [e8] at hx6
      refine x_iload_n (q := 33) hC d_Pa_switchJoined_32 rfl rfl rfl ?_
      refine x_bipush (q := 35) (v := nI 6) hC d_Pa_switchJoined_33 (by decide) rfl ?_
      refine x_icmp_ge (tgt := 66) (q := 38) hC d_Pa_switchJoined_35 (by decide) rfl (fun _ => ?_) (fun h => absurd (nI_le (Nat.le_refl _) (by decide)) h)
      subst e8
      exact x_vret hC rfl ⟨rfl, rfl⟩ (by decide) (by decide) d_Pa_switchJoined_66
  refine x_aload_n (q := 10) hC d_Pa_switchJoined_9 rfl rfl rfl ?_
  refine x_getr (q := 13) (p := 165) (j := 3) (r := 79) hC f_Pa_46 rfl rfl rfl (by omega) (hu _ _ (by decide)) d_Pa_switchJoined_10 rfl ?_
  refine x_iload_n (q := 14) hC d_Pa_switchJoined_13 rfl rfl rfl ?_
  refine x_iload_n (q := 15) hC d_Pa_switchJoined_14 rfl rfl rfl ?_
  refine x_callV (q := 18) (p := 79) (A := [.int (nI st), .int (nI s)]) (S := []) (c1 := 0) (s1 := 0) hC (c_Tr_outerList (a := st) (n := s) (by omega) hu (by omega) (by omega) ) s_Pa_switchJoined_71 rfl (by omega) rfl rfl rfl (Nat.le_of_ble_eq_true rfl) rfl rfl (by decide) (by decide) d_Pa_switchJoined_15 rfl (fun r τ hP => ?_)
  obtain ⟨rfl, rfl⟩ := hP
  show mx_G Γ κ _ _ 18 [(0, .ref 165), (1, .int (nI st)), (2, .int (nI s))] [.int ((Sm_renew st s mi) (146 + st) s)] (nx, u, Sm_renew st s mi) 0 0
  refine x_if_eq (tgt := 30) (q := 21) hC d_Pa_switchJoined_18 (by decide) rfl (fun h18 => ?_) (fun h18 => ?_)
  · skip
    exact x_sub (L1 := [(0, .ref 165), (1, .int (nI st)), (2, .int (nI s))]) [0, 1, 2] rfl (mx_eqG rfl rfl (pr (by first | exact it_t h18 rfl | exact it_f (fun z => z h18) rfl)) J1)
  · skip
    refine x_aload_n (q := 22) hC d_Pa_switchJoined_21 rfl rfl rfl ?_
    refine x_getr (q := 25) (p := 165) (j := 2) (r := 57) hC f_Pa_42 rfl rfl rfl (by omega) (hu _ _ (by decide)) d_Pa_switchJoined_22 rfl ?_
    refine x_iload_n (q := 26) hC d_Pa_switchJoined_25 rfl rfl rfl ?_
    refine x_iload_n (q := 27) hC d_Pa_switchJoined_26 rfl rfl rfl ?_
    refine x_callV (q := 30) (p := 57) (A := [.int (nI st), .int (nI s)]) (S := []) (c1 := 0) (s1 := 0) hC (c_Sm_switchOver (s := st) (n := s) (by omega) hu (by omega) (by omega) ) s_Pa_switchJoined_101 rfl (by omega) rfl rfl rfl (Nat.le_of_ble_eq_true rfl) rfl rfl (by decide) (by decide) d_Pa_switchJoined_27 rfl (fun r τ hP => ?_)
    obtain ⟨rfl, rfl⟩ := hP
    show mx_G Γ κ _ _ 30 [(0, .ref 165), (1, .int (nI st)), (2, .int (nI s))] [] (nx, u, Sm_over st s (Sm_renew st s mi)) 0 0
    exact x_sub (L1 := [(0, .ref 165), (1, .int (nI st)), (2, .int (nI s))]) [0, 1, 2] rfl (mx_eqG rfl rfl (pr (by first | exact it_t h18 rfl | exact it_f (fun z => z h18) rfl)) J1)
set_option maxRecDepth 100000 in
set_option maxHeartbeats 400000 in
theorem c_Pa_register {Γ : mx_X} {lau : Launch} {nx : Nat} {u : Nat → Nat → Bool} {mi : mx_Mm} {st s r : Nat} (hnx : 168 ≤ nx) (hu : ∀ p k, 2 ≤ p → u p k = true) (hst : st < 18) (hs : s < 6) (hr : r < 6) (hm : mi 79 0 = nI r) : mx_C Γ lau M_Pa_register [.ref 165, .int (nI st), .int (nI s)] (nx, u, mi) (fun ρ τ => ρ = some (.int (bz (Pa_rc st s r mi))) ∧ τ = (nx, u, Pa_reg st s r mi)) := by
  refine mx_C.intro (by decide) rfl (Nat.le_of_ble_eq_true rfl) (fun κ _ hC => ?_)
  show mx_G Γ κ _ _ 0 [(0, .ref 165), (1, .int (nI st)), (2, .int (nI s))] [] (nx, u, mi) 0 0
  refine x_aload_n (q := 1) hC d_Pa_register_0 rfl rfl rfl ?_
  refine x_getr (q := 4) (p := 165) (j := 3) (r := 79) hC f_Pa_46 rfl rfl rfl (by omega) (hu _ _ (by decide)) d_Pa_register_1 rfl ?_
  refine x_callV (q := 7) (p := 79) (A := []) (S := []) (c1 := 0) (s1 := 0) hC (c_Tr_meetingPoint  (by omega) hu  ) s_Pa_register_79 rfl (by omega) rfl rfl rfl (Nat.le_of_ble_eq_true rfl) rfl rfl (by decide) (by decide) d_Pa_register_4 rfl (fun r τ hP => ?_)
  obtain ⟨rfl, rfl⟩ := hP
  show mx_G Γ κ _ _ 7 [(0, .ref 165), (1, .int (nI st)), (2, .int (nI s))] [.int (mi 79 0)] (nx, u, mi) 0 0
  refine mx_eqG (S1 := [.int (nI r)]) rfl (by exact congrArg (fun z => Value.int z :: ([] : List Value)) (show mi 79 0 = nI r from hm)) rfl ?_
  refine x_istore_n (q := 8) (L1 := [(3, .int (nI r)), (0, .ref 165), (1, .int (nI st)), (2, .int (nI s))]) hC d_Pa_register_7 rfl (by decide) rfl rfl ?_
  refine x_iload_n (q := 9) hC d_Pa_register_8 rfl rfl rfl ?_
  refine x_iload_n (q := 10) hC d_Pa_register_9 rfl rfl rfl ?_
  refine x_icmp_eq (tgt := 36) (q := 13) hC d_Pa_register_10 (by decide) rfl (fun h10 => ?_) (fun h10 => ?_)
  · skip
    refine x_iconst (q := 37) (v := nI 0) hC d_Pa_register_36 (by decide) rfl ?_
    exact x_iret hC rfl rfl ⟨bz_f (by intro z; first | exact z.1 ((nI_eq (by omega) (by omega)).mp h10) | exact h22 z.2.1 | exact z.2.2 h33), by first | exact pr (it_f (by intro z; first | exact z.1 ((nI_eq (by omega) (by omega)).mp h10) | exact h22 z.2.1 | exact z.2.2 h33) rfl) | exact pr (it_t (And.intro (fun z => h10 (by rw [z])) (And.intro h22 h33)) rfl)⟩ (by decide) (by decide) d_Pa_register_37
  · skip
    refine x_aload_n (q := 14) hC d_Pa_register_13 rfl rfl rfl ?_
    refine x_getr (q := 17) (p := 165) (j := 0) (r := 5) hC f_Pa_34 rfl rfl rfl (by omega) (hu _ _ (by decide)) d_Pa_register_14 rfl ?_
    refine x_iload_n (q := 18) hC d_Pa_register_17 rfl rfl rfl ?_
    refine x_iload_n (q := 19) hC d_Pa_register_18 rfl rfl rfl ?_
    refine x_callV (q := 22) (p := 5) (A := [.int (nI s), .int (nI r)]) (S := []) (c1 := 0) (s1 := 0) hC (c_Ne_areConnected (a := s) (b := r) (by omega) hu (by omega) (by omega)) s_Pa_register_107 rfl (by omega) rfl rfl rfl (Nat.le_of_ble_eq_true rfl) rfl rfl (by decide) (by decide) d_Pa_register_19 rfl (fun r τ hP => ?_)
    obtain ⟨rfl, rfl⟩ := hP
    show mx_G Γ κ _ _ 22 [(3, .int (nI r)), (0, .ref 165), (1, .int (nI st)), (2, .int (nI s))] [.int (bz (mi (14 + s) r < nI 1000))] (nx, u, mi) 0 0
    refine x_if_eq (tgt := 36) (q := 25) hC d_Pa_register_22 (by decide) rfl (fun h22 => ?_) (fun h22 => ?_)
    · have h22 := bz_0 h22
      refine x_iconst (q := 37) (v := nI 0) hC d_Pa_register_36 (by decide) rfl ?_
      exact x_iret hC rfl rfl ⟨bz_f (by intro z; first | exact z.1 ((nI_eq (by omega) (by omega)).mp h10) | exact h22 z.2.1 | exact z.2.2 h33), by first | exact pr (it_f (by intro z; first | exact z.1 ((nI_eq (by omega) (by omega)).mp h10) | exact h22 z.2.1 | exact z.2.2 h33) rfl) | exact pr (it_t (And.intro (fun z => h10 (by rw [z])) (And.intro h22 h33)) rfl)⟩ (by decide) (by decide) d_Pa_register_37
    · have h22 := bz_1 h22
      refine x_aload_n (q := 26) hC d_Pa_register_25 rfl rfl rfl ?_
      refine x_getr (q := 29) (p := 165) (j := 2) (r := 57) hC f_Pa_42 rfl rfl rfl (by omega) (hu _ _ (by decide)) d_Pa_register_26 rfl ?_
      refine x_iload_n (q := 30) hC d_Pa_register_29 rfl rfl rfl ?_
      refine x_callV (q := 33) (p := 57) (A := [.int (nI st)]) (S := []) (c1 := 0) (s1 := 0) hC (c_Sm_isQuiet (s := st) (by omega) hu (by omega) ) s_Pa_register_112 rfl (by omega) rfl rfl rfl (Nat.le_of_ble_eq_true rfl) rfl rfl (by decide) (by decide) d_Pa_register_30 rfl (fun r τ hP => ?_)
      obtain ⟨rfl, rfl⟩ := hP
      show mx_G Γ κ _ _ 33 [(3, .int (nI r)), (0, .ref 165), (1, .int (nI st)), (2, .int (nI s))] [.int (bz (mi 2 0 < mi 78 st))] (nx, u, mi) 0 0
      refine x_if_eq (tgt := 38) (q := 36) hC d_Pa_register_33 (by decide) rfl (fun h33 => ?_) (fun h33 => ?_)
      · have h33 := bz_0 h33
        refine x_aload_n (q := 39) hC d_Pa_register_38 rfl rfl rfl ?_
        refine x_getr (q := 42) (p := 165) (j := 4) (r := 3) hC f_Pa_50 rfl rfl rfl (by omega) (hu _ _ (by decide)) d_Pa_register_39 rfl ?_
        refine x_bipush (q := 44) (v := nI 6) hC d_Pa_register_42 (by decide) rfl ?_
        refine x_callV (q := 47) (p := 3) (A := [.int (nI 6)]) (S := []) (c1 := 0) (s1 := 0) hC (c_Ta_count (k := 6) (by omega) hu (by omega)) s_Pa_register_116 rfl (by omega) rfl rfl rfl (Nat.le_of_ble_eq_true rfl) rfl rfl (by decide) (by decide) d_Pa_register_44 rfl (fun r τ hP => ?_)
        obtain ⟨rfl, rfl⟩ := hP
        show mx_G Γ κ _ _ 47 [(3, .int (nI r)), (0, .ref 165), (1, .int (nI st)), (2, .int (nI s))] [] (nx, u, mx_up mi 4 6 (mi 4 6 + nI 1)) 0 0
        refine x_aload_n (q := 48) hC d_Pa_register_47 rfl rfl rfl ?_
        refine x_getr (q := 51) (p := 165) (j := 2) (r := 57) hC f_Pa_42 rfl rfl rfl (by omega) (hu _ _ (by decide)) d_Pa_register_48 rfl ?_
        refine x_iload_n (q := 52) hC d_Pa_register_51 rfl rfl rfl ?_
        refine x_iload_n (q := 53) hC d_Pa_register_52 rfl rfl rfl ?_
        refine x_callV (q := 56) (p := 57) (A := [.int (nI st), .int (nI r)]) (S := []) (c1 := 0) (s1 := 0) hC (c_Sm_renew (s := st) (n := r) (by omega) hu (by omega) (by omega) ) s_Pa_register_98 rfl (by omega) rfl rfl rfl (Nat.le_of_ble_eq_true rfl) rfl rfl (by decide) (by decide) d_Pa_register_53 rfl (fun r τ hP => ?_)
        obtain ⟨rfl, rfl⟩ := hP
        show mx_G Γ κ _ _ 56 [(3, .int (nI r)), (0, .ref 165), (1, .int (nI st)), (2, .int (nI s))] [] (nx, u, Sm_renew st r (mx_up mi 4 6 (mi 4 6 + nI 1))) 0 0
        refine x_aload_n (q := 57) hC d_Pa_register_56 rfl rfl rfl ?_
        have J1 : mx_G Γ κ M_Pa_register (MQ (mx_b κ) (mx_Qc Γ (fun ρ τ => ρ = some (.int (bz (Pa_rc st s r mi))) ∧ τ = (nx, u, Pa_reg st s r mi))) (mx_a κ) (mx_s κ) M_Pa_register.2.2.2.2.cells M_Pa_register.2.2.2.2.slots (mx_fr Γ)) 97 [(3, .int (nI r)), (0, .ref 165), (1, .int (nI st)), (2, .int (nI s))] [] (nx, u, Pa_r2 st r (Sm_renew st r (Tr_cnt 6 mi))) 0 0 := by
          refine x_iconst (q := 98) (v := nI 1) hC d_Pa_register_97 (by decide) rfl ?_
          exact x_iret hC rfl rfl ⟨bz_t (And.intro (fun z => h10 (by rw [z])) (And.intro h22 h33)), by first | exact pr (it_f (by intro z; first | exact z.1 ((nI_eq (by omega) (by omega)).mp h10) | exact h22 z.2.1 | exact z.2.2 h33) rfl) | exact pr (it_t (And.intro (fun z => h10 (by rw [z])) (And.intro h22 h33)) rfl)⟩ (by decide) (by decide) d_Pa_register_98
        refine x_getr (q := 60) (p := 165) (j := 2) (r := 57) hC f_Pa_42 rfl rfl rfl (by omega) (hu _ _ (by decide)) d_Pa_register_57 rfl ?_
        refine x_iload_n (q := 61) hC d_Pa_register_60 rfl rfl rfl ?_
        refine x_iload_n (q := 62) hC d_Pa_register_61 rfl rfl rfl ?_
        refine x_callV (q := 65) (p := 57) (A := [.int (nI st), .int (nI r)]) (S := []) (c1 := 0) (s1 := 0) hC (c_Sm_isSwitched (s := st) (n := r) (by omega) hu (by omega) (by omega) ) s_Pa_register_83 rfl (by omega) rfl rfl rfl (Nat.le_of_ble_eq_true rfl) rfl rfl (by decide) (by decide) d_Pa_register_62 rfl (fun r τ hP => ?_)
        obtain ⟨rfl, rfl⟩ := hP
        show mx_G Γ κ _ _ 65 [(3, .int (nI r)), (0, .ref 165), (1, .int (nI st)), (2, .int (nI s))] [.int (bz (hold ((Sm_renew st r (mx_up mi 4 6 (mi 4 6 + nI 1))) 77 st) r))] (nx, u, Sm_renew st r (mx_up mi 4 6 (mi 4 6 + nI 1))) 0 0
        refine x_if_ne (tgt := 80) (q := 68) hC d_Pa_register_65 (by decide) rfl (fun h65 => ?_) (fun h65 => ?_)
        · have h65 := bz_1 h65
          refine x_aload_n (q := 81) hC d_Pa_register_80 rfl rfl rfl ?_
          refine x_getr (q := 84) (p := 165) (j := 4) (r := 3) hC f_Pa_50 rfl rfl rfl (by omega) (hu _ _ (by decide)) d_Pa_register_81 rfl ?_
          refine x_bipush (q := 86) (v := nI 7) hC d_Pa_register_84 (by decide) rfl ?_
          refine x_callV (q := 89) (p := 3) (A := [.int (nI 7)]) (S := []) (c1 := 0) (s1 := 0) hC (c_Ta_count (k := 7) (by omega) hu (by omega)) s_Pa_register_116 rfl (by omega) rfl rfl rfl (Nat.le_of_ble_eq_true rfl) rfl rfl (by decide) (by decide) d_Pa_register_86 rfl (fun r τ hP => ?_)
          obtain ⟨rfl, rfl⟩ := hP
          show mx_G Γ κ _ _ 89 [(3, .int (nI r)), (0, .ref 165), (1, .int (nI st)), (2, .int (nI s))] [] (nx, u, mx_up (Sm_renew st r (mx_up mi 4 6 (mi 4 6 + nI 1))) 4 7 ((Sm_renew st r (mx_up mi 4 6 (mi 4 6 + nI 1))) 4 7 + nI 1)) 0 0
          refine mx_nr (fun m2 e3 => ?_)
          refine x_aload_n (q := 90) hC d_Pa_register_89 rfl rfl rfl ?_
          refine x_getr (q := 93) (p := 165) (j := 2) (r := 57) hC f_Pa_42 rfl rfl rfl (by omega) (hu _ _ (by decide)) d_Pa_register_90 rfl ?_
          refine x_iload_n (q := 94) hC d_Pa_register_93 rfl rfl rfl ?_
          refine x_callV (q := 97) (p := 57) (A := [.int (nI st)]) (S := []) (c1 := 0) (s1 := 0) hC (c_Sm_silence (s := st) (by omega) hu (by omega) ) s_Pa_register_122 rfl (by omega) rfl rfl rfl (Nat.le_of_ble_eq_true rfl) rfl rfl (by decide) (by decide) d_Pa_register_94 rfl (fun r τ hP => ?_)
          obtain ⟨rfl, rfl⟩ := hP
          show mx_G Γ κ _ _ 97 [(3, .int (nI r)), (0, .ref 165), (1, .int (nI st)), (2, .int (nI s))] [] (nx, u, mx_up m2 78 st (m2 2 0 + nI 6)) 0 0
          exact x_sub (L1 := [(3, .int (nI r)), (0, .ref 165), (1, .int (nI st)), (2, .int (nI s))]) [0, 1, 2, 3] rfl (mx_eqG rfl rfl (pr (by subst e3; first | exact it_t (Or.inl h65) rfl | exact it_t (Or.inr h77) rfl | exact it_f (fun z => z.elim h65 h77) rfl)) J1)
        · have h65 := bz_0 h65
          refine x_aload_n (q := 69) hC d_Pa_register_68 rfl rfl rfl ?_
          refine x_getr (q := 72) (p := 165) (j := 3) (r := 79) hC f_Pa_46 rfl rfl rfl (by omega) (hu _ _ (by decide)) d_Pa_register_69 rfl ?_
          refine x_iload_n (q := 73) hC d_Pa_register_72 rfl rfl rfl ?_
          refine x_iload_n (q := 74) hC d_Pa_register_73 rfl rfl rfl ?_
          refine x_callV (q := 77) (p := 79) (A := [.int (nI st), .int (nI r)]) (S := []) (c1 := 0) (s1 := 0) hC (c_Tr_outerList (a := st) (n := r) (by omega) hu (by omega) (by omega) ) s_Pa_register_71 rfl (by omega) rfl rfl rfl (Nat.le_of_ble_eq_true rfl) rfl rfl (by decide) (by decide) d_Pa_register_74 rfl (fun r τ hP => ?_)
          obtain ⟨rfl, rfl⟩ := hP
          show mx_G Γ κ _ _ 77 [(3, .int (nI r)), (0, .ref 165), (1, .int (nI st)), (2, .int (nI s))] [.int ((Sm_renew st r (mx_up mi 4 6 (mi 4 6 + nI 1))) (146 + st) r)] (nx, u, Sm_renew st r (mx_up mi 4 6 (mi 4 6 + nI 1))) 0 0
          refine x_if_ne (tgt := 97) (q := 80) hC d_Pa_register_77 (by decide) rfl (fun h77 => ?_) (fun h77 => ?_)
          · skip
            exact x_sub (L1 := [(3, .int (nI r)), (0, .ref 165), (1, .int (nI st)), (2, .int (nI s))]) [0, 1, 2, 3] rfl (mx_eqG rfl rfl (pr (by first | exact it_t (Or.inl h65) rfl | exact it_t (Or.inr h77) rfl | exact it_f (fun z => z.elim h65 h77) rfl)) J1)
          · skip
            refine x_aload_n (q := 81) hC d_Pa_register_80 rfl rfl rfl ?_
            refine x_getr (q := 84) (p := 165) (j := 4) (r := 3) hC f_Pa_50 rfl rfl rfl (by omega) (hu _ _ (by decide)) d_Pa_register_81 rfl ?_
            refine x_bipush (q := 86) (v := nI 7) hC d_Pa_register_84 (by decide) rfl ?_
            refine x_callV (q := 89) (p := 3) (A := [.int (nI 7)]) (S := []) (c1 := 0) (s1 := 0) hC (c_Ta_count (k := 7) (by omega) hu (by omega)) s_Pa_register_116 rfl (by omega) rfl rfl rfl (Nat.le_of_ble_eq_true rfl) rfl rfl (by decide) (by decide) d_Pa_register_86 rfl (fun r τ hP => ?_)
            obtain ⟨rfl, rfl⟩ := hP
            show mx_G Γ κ _ _ 89 [(3, .int (nI r)), (0, .ref 165), (1, .int (nI st)), (2, .int (nI s))] [] (nx, u, mx_up (Sm_renew st r (mx_up mi 4 6 (mi 4 6 + nI 1))) 4 7 ((Sm_renew st r (mx_up mi 4 6 (mi 4 6 + nI 1))) 4 7 + nI 1)) 0 0
            refine mx_nr (fun m4 e5 => ?_)
            refine x_aload_n (q := 90) hC d_Pa_register_89 rfl rfl rfl ?_
            refine x_getr (q := 93) (p := 165) (j := 2) (r := 57) hC f_Pa_42 rfl rfl rfl (by omega) (hu _ _ (by decide)) d_Pa_register_90 rfl ?_
            refine x_iload_n (q := 94) hC d_Pa_register_93 rfl rfl rfl ?_
            refine x_callV (q := 97) (p := 57) (A := [.int (nI st)]) (S := []) (c1 := 0) (s1 := 0) hC (c_Sm_silence (s := st) (by omega) hu (by omega) ) s_Pa_register_122 rfl (by omega) rfl rfl rfl (Nat.le_of_ble_eq_true rfl) rfl rfl (by decide) (by decide) d_Pa_register_94 rfl (fun r τ hP => ?_)
            obtain ⟨rfl, rfl⟩ := hP
            show mx_G Γ κ _ _ 97 [(3, .int (nI r)), (0, .ref 165), (1, .int (nI st)), (2, .int (nI s))] [] (nx, u, mx_up m4 78 st (m4 2 0 + nI 6)) 0 0
            exact x_sub (L1 := [(3, .int (nI r)), (0, .ref 165), (1, .int (nI st)), (2, .int (nI s))]) [0, 1, 2, 3] rfl (mx_eqG rfl rfl (pr (by subst e5; first | exact it_t (Or.inl h65) rfl | exact it_t (Or.inr h77) rfl | exact it_f (fun z => z.elim h65 h77) rfl)) J1)
      · have h33 := bz_1 h33
        refine x_iconst (q := 37) (v := nI 0) hC d_Pa_register_36 (by decide) rfl ?_
        exact x_iret hC rfl rfl ⟨bz_f (by intro z; first | exact z.1 ((nI_eq (by omega) (by omega)).mp h10) | exact h22 z.2.1 | exact z.2.2 h33), by first | exact pr (it_f (by intro z; first | exact z.1 ((nI_eq (by omega) (by omega)).mp h10) | exact h22 z.2.1 | exact z.2.2 h33) rfl) | exact pr (it_t (And.intro (fun z => h10 (by rw [z])) (And.intro h22 h33)) rfl)⟩ (by decide) (by decide) d_Pa_register_37
set_option maxRecDepth 100000 in
set_option maxHeartbeats 400000 in
theorem c_Pa_dispatch {Γ : mx_X} {lau : Launch} {nx : Nat} {u : Nat → Nat → Bool} {mi : mx_Mm} {s g r : Nat} (hnx : 168 ≤ nx) (hu : ∀ p k, 2 ≤ p → u p k = true) (hs : s < 6) (hg : g < 3) (hr : r < 6) (hok : Pa_ok r mi) : mx_C Γ lau M_Pa_dispatch [.ref 165, .int (nI s), .int (nI g)] (nx, u, mi) (fun ρ τ => ρ = none ∧ τ = (nx, u, Pa_disp s g r mi)) := by
  refine mx_C.intro (by decide) rfl (Nat.le_of_ble_eq_true rfl) (fun κ _ hC => ?_)
  show mx_G Γ κ _ _ 0 [(0, .ref 165), (1, .int (nI s)), (2, .int (nI g))] [] (nx, u, mi) 0 0
  refine x_iload_n (q := 1) hC d_Pa_dispatch_0 rfl rfl rfl ?_
  refine x_iload_n (q := 2) hC d_Pa_dispatch_1 rfl rfl rfl ?_
  refine x_callSN (q := 5) (A := [.int (nI s), .int (nI g)]) (S := []) (c1 := 0) (s1 := 0) hC (c_MT_streamOf (s := s) (g := g)) s_Pa_dispatch_54 rfl rfl rfl (Nat.le_of_ble_eq_true rfl) rfl rfl (by decide) (by decide) d_Pa_dispatch_2 rfl (fun r τ hP => ?_)
  obtain ⟨rfl, rfl⟩ := hP
  show mx_G Γ κ _ _ 5 [(0, .ref 165), (1, .int (nI s)), (2, .int (nI g))] [.int (nI (s * 3 + g))] (nx, u, mi) 0 0
  refine x_istore_n (q := 6) (L1 := [(3, .int (nI (s * 3 + g))), (0, .ref 165), (1, .int (nI s)), (2, .int (nI g))]) hC d_Pa_dispatch_5 rfl (by decide) rfl rfl ?_
  refine x_aload_n (q := 7) hC d_Pa_dispatch_6 rfl rfl rfl ?_
  refine x_iconst (q := 8) (v := nI 0) hC d_Pa_dispatch_7 (by decide) rfl ?_
  refine x_puti (q := 11) (p := 165) (j := 7) hC f_Pa_18 y_Pa rfl rfl rfl rfl rfl (by omega) (by decide) d_Pa_dispatch_8 rfl ?_
  refine x_aload_n (q := 12) hC d_Pa_dispatch_11 rfl rfl rfl ?_
  refine x_iconst (q := 13) (v := nI 0) hC d_Pa_dispatch_12 (by decide) rfl ?_
  refine x_puti (q := 16) (p := 165) (j := 8) hC f_Pa_22 y_Pa rfl rfl rfl rfl rfl (by omega) (by decide) d_Pa_dispatch_13 rfl ?_
  refine x_aload_n (q := 17) hC d_Pa_dispatch_16 rfl rfl rfl ?_
  refine x_iconst (q := 18) (v := nI 0) hC d_Pa_dispatch_17 (by decide) rfl ?_
  refine x_puti (q := 21) (p := 165) (j := 9) hC f_Pa_25 y_Pa rfl rfl rfl rfl rfl (by omega) (by decide) d_Pa_dispatch_18 rfl ?_
  refine mx_nr (fun m1 e2 => ?_)
  have J3 : mx_G Γ κ M_Pa_dispatch (MQ (mx_b κ) (mx_Qc Γ (fun ρ τ => ρ = none ∧ τ = (nx, u, Pa_disp s g r mi))) (mx_a κ) (mx_s κ) M_Pa_dispatch.2.2.2.2.cells M_Pa_dispatch.2.2.2.2.slots (mx_fr Γ)) 44 [(3, .int (nI (s * 3 + g))), (0, .ref 165), (1, .int (nI s)), (2, .int (nI g))] [] (nx, u, Pa_d0 s g (Pa_z mi)) 0 0 := by
    refine x_aload_n (q := 45) hC d_Pa_dispatch_44 rfl rfl rfl ?_
    refine x_iload_n (q := 46) hC d_Pa_dispatch_45 rfl rfl rfl ?_
    refine x_iload_n (q := 47) hC d_Pa_dispatch_46 rfl rfl rfl ?_
    refine x_callV (q := 50) (p := 165) (A := [.int (nI (s * 3 + g)), .int (nI s)]) (S := []) (c1 := 0) (s1 := 0) hC (c_Pa_switchJoined (st := s * 3 + g) (s := s) (by omega) hu (by omega) (by omega) ) s_Pa_dispatch_64 rfl (by omega) rfl rfl rfl (Nat.le_of_ble_eq_true rfl) rfl rfl (by decide) (by decide) d_Pa_dispatch_47 rfl (fun r τ hP => ?_)
    obtain ⟨rfl, rfl⟩ := hP
    show mx_G Γ κ _ _ 50 [(3, .int (nI (s * 3 + g))), (0, .ref 165), (1, .int (nI s)), (2, .int (nI g))] [] (nx, u, Pa_sj (s * 3 + g) s (Pa_d0 s g (Pa_z mi))) 0 0
    refine mx_nr (fun mS eS => ?_)
    have hIS : Pa_ok r mS := eS ▸ Pa_sj_ok (by omega) (Pa_d0_ok (Pa_z_ok hok))
    have hmS := hIS.1
    refine x_aload_n (q := 51) hC d_Pa_dispatch_50 rfl rfl rfl ?_
    refine x_iload_n (q := 52) hC d_Pa_dispatch_51 rfl rfl rfl ?_
    refine x_iload_n (q := 53) hC d_Pa_dispatch_52 rfl rfl rfl ?_
    refine x_callV (q := 56) (p := 165) (A := [.int (nI (s * 3 + g)), .int (nI s)]) (S := []) (c1 := 0) (s1 := 0) hC (c_Pa_register (st := s * 3 + g) (s := s) (r := r) (by omega) hu (by omega) (by omega) hr hmS) s_Pa_dispatch_68 rfl (by omega) rfl rfl rfl (Nat.le_of_ble_eq_true rfl) rfl rfl (by decide) (by decide) d_Pa_dispatch_53 rfl (fun r τ hP => ?_)
    obtain ⟨rfl, rfl⟩ := hP
    show mx_G Γ κ _ _ 56 [(3, .int (nI (s * 3 + g))), (0, .ref 165), (1, .int (nI s)), (2, .int (nI g))] [.int (bz (Pa_rc (s * 3 + g) s r mS))] (nx, u, Pa_reg (s * 3 + g) s r mS) 0 0
    refine mx_nr (fun mR eR => ?_)
    have hIR : Pa_ok r mR := eR ▸ Pa_reg_ok (by omega) hIS
    refine x_istore (q := 58) (L1 := [(4, .int (bz (Pa_rc (s * 3 + g) s r mS))), (3, .int (nI (s * 3 + g))), (0, .ref 165), (1, .int (nI s)), (2, .int (nI g))]) hC d_Pa_dispatch_56 (by decide) rfl rfl ?_
    have J4 : mx_G Γ κ M_Pa_dispatch (MQ (mx_b κ) (mx_Qc Γ (fun ρ τ => ρ = none ∧ τ = (nx, u, Pa_disp s g r mi))) (mx_a κ) (mx_s κ) M_Pa_dispatch.2.2.2.2.cells M_Pa_dispatch.2.2.2.2.slots (mx_fr Γ)) 76 [(4, .int (bz (Pa_rc (s * 3 + g) s r mS))), (3, .int (nI (s * 3 + g))), (0, .ref 165), (1, .int (nI s)), (2, .int (nI g))] [] (nx, u, Pa_d3 (s * 3 + g) s mR) 0 0 := by
      refine mx_nr (fun m3 e3 => ?_)
      have hI3 : Pa_ok r m3 := e3 ▸ Pa_d3_ok hs hIR
      refine x_aload_n (q := 77) hC d_Pa_dispatch_76 rfl rfl rfl ?_
      refine x_getr (q := 80) (p := 165) (j := 3) (r := 79) hC f_Pa_46 rfl rfl rfl (by omega) (hu _ _ (by decide)) d_Pa_dispatch_77 rfl ?_
      refine x_callV (q := 83) (p := 79) (A := []) (S := []) (c1 := 0) (s1 := 0) hC (c_Tr_meetingPoint  (by omega) hu  ) s_Pa_dispatch_79 rfl (by omega) rfl rfl rfl (Nat.le_of_ble_eq_true rfl) rfl rfl (by decide) (by decide) d_Pa_dispatch_80 rfl (fun r τ hP => ?_)
      obtain ⟨rfl, rfl⟩ := hP
      show mx_G Γ κ _ _ 83 [(4, .int (bz (Pa_rc (s * 3 + g) s r mS))), (3, .int (nI (s * 3 + g))), (0, .ref 165), (1, .int (nI s)), (2, .int (nI g))] [.int (m3 79 0)] (nx, u, m3) 0 0
      refine mx_eqG (S1 := [.int (nI r)]) rfl (by exact congrArg (fun z => Value.int z :: ([] : List Value)) (show m3 79 0 = nI r from hI3.1)) rfl ?_
      refine x_istore (q := 85) (L1 := [(5, .int (nI r)), (4, .int (bz (Pa_rc (s * 3 + g) s r mS))), (3, .int (nI (s * 3 + g))), (0, .ref 165), (1, .int (nI s)), (2, .int (nI g))]) hC d_Pa_dispatch_83 (by decide) rfl rfl ?_
      have J5 : mx_G Γ κ M_Pa_dispatch (MQ (mx_b κ) (mx_Qc Γ (fun ρ τ => ρ = none ∧ τ = (nx, u, Pa_disp s g r mi))) (mx_a κ) (mx_s κ) M_Pa_dispatch.2.2.2.2.cells M_Pa_dispatch.2.2.2.2.slots (mx_fr Γ)) 110 [(3, .int (nI (s * 3 + g))), (0, .ref 165), (1, .int (nI s)), (2, .int (nI g))] [] (nx, u, Pa_d4 (s * 3 + g) r (Pa_rc (s * 3 + g) s r mS) m3) 0 0 := by
        refine mx_nr (fun m4 e4 => ?_)
        have hI4 : Pa_ok r m4 := e4 ▸ Pa_d4_ok hr hI3
        refine x_iconst (q := 111) (v := nI 0) hC d_Pa_dispatch_110 (by decide) rfl ?_
        refine x_istore (q := 113) (L1 := [(6, .int (nI 0)), (3, .int (nI (s * 3 + g))), (0, .ref 165), (1, .int (nI s)), (2, .int (nI g))]) hC d_Pa_dispatch_111 (by decide) rfl rfl ?_
        refine x_sub (L1 := [(6, .int (nI 0)), (3, .int (nI (s * 3 + g))), (0, .ref 165), (1, .int (nI s)), (2, .int (nI g))]) [0, 1, 2, 3, 4] rfl ?_
        refine mx_loopB (N := 6) (Hd := fun k m6 => mx_G Γ κ M_Pa_dispatch (MQ (mx_b κ) (mx_Qc Γ (fun ρ τ => ρ = none ∧ τ = (nx, u, Pa_disp s g r mi))) (mx_a κ) (mx_s κ) M_Pa_dispatch.2.2.2.2.cells M_Pa_dispatch.2.2.2.2.slots (mx_fr Γ)) 113 [(6, .int (nI k)), (3, .int (nI (s * 3 + g))), (0, .ref 165), (1, .int (nI s)), (2, .int (nI g))] [] (nx, u, m6) 0 0) (Ex := fun m6 => mx_G Γ κ M_Pa_dispatch (MQ (mx_b κ) (mx_Qc Γ (fun ρ τ => ρ = none ∧ τ = (nx, u, Pa_disp s g r mi))) (mx_a κ) (mx_s κ) M_Pa_dispatch.2.2.2.2.cells M_Pa_dispatch.2.2.2.2.slots (mx_fr Γ)) 143 [(3, .int (nI (s * 3 + g))), (0, .ref 165), (1, .int (nI s)), (2, .int (nI g))] [] (nx, u, m6) 0 0) (Pa_puts (s * 3 + g) s r) (fun k m => nI k < m 165 7) (fun _ m => Pa_ok r m) hI4 ?_ ?_ ?_ ?_ ?_
        · exact fun k m hk h => Pa_puts_ok h
        · exact fun i j m hij hj hn => if_neg (Pa_stay hij hj hn)
        · intro k m6 hl7 hI8 hN9 hE10
          refine x_iload (q := 115) hC d_Pa_dispatch_113 rfl rfl ?_
          refine x_bipush (q := 117) (v := nI 6) hC d_Pa_dispatch_115 (by decide) rfl ?_
          refine x_icmp_ge (tgt := 143) (q := 120) hC d_Pa_dispatch_117 (by decide) rfl (fun h => absurd h (nI_ge hl7 (by decide))) (fun _ => ?_)
          refine x_iload (q := 122) hC d_Pa_dispatch_120 rfl rfl ?_
          refine x_aload_n (q := 123) hC d_Pa_dispatch_122 rfl rfl rfl ?_
          refine x_geti (q := 126) (p := 165) (j := 7) hC f_Pa_18 rfl rfl (by omega) d_Pa_dispatch_123 rfl ?_
          refine x_icmp_ge (tgt := 143) (q := 129) hC d_Pa_dispatch_126 (by decide) rfl (fun h126 => ?_) (fun h126 => ?_)
          · skip
            exact x_sub (L1 := [(3, .int (nI (s * 3 + g))), (0, .ref 165), (1, .int (nI s)), (2, .int (nI g))]) [1, 2, 3, 4] rfl (hE10 (Int32.not_lt.mpr h126))
          · skip
            refine x_aload_n (q := 130) hC d_Pa_dispatch_129 rfl rfl rfl ?_
            refine x_iload_n (q := 131) hC d_Pa_dispatch_130 rfl rfl rfl ?_
            refine x_iload_n (q := 132) hC d_Pa_dispatch_131 rfl rfl rfl ?_
            refine x_iload (q := 134) hC d_Pa_dispatch_132 rfl rfl ?_
            refine x_callV (q := 137) (p := 165) (A := [.int (nI (s * 3 + g)), .int (nI s), .int (nI k)]) (S := []) (c1 := 0) (s1 := 0) hC (c_Pa_putOut (st := s * 3 + g) (s := s) (k := k) (r := r) (by omega) hu (by omega) (by omega) (by omega) hr hI8) s_Pa_dispatch_88 rfl (by omega) rfl rfl rfl (Nat.le_of_ble_eq_true rfl) rfl rfl (by decide) (by decide) d_Pa_dispatch_134 rfl (fun r τ hP => ?_)
            obtain ⟨rfl, rfl⟩ := hP
            show mx_G Γ κ _ _ 137 [(6, .int (nI k)), (3, .int (nI (s * 3 + g))), (0, .ref 165), (1, .int (nI s)), (2, .int (nI g))] [] (nx, u, Pa_put (s * 3 + g) s r k m6) 0 0
            refine x_iinc (q := 140) (y := nI (k + 1)) (L1 := [(6, .int (nI (k + 1))), (3, .int (nI (s * 3 + g))), (0, .ref 165), (1, .int (nI s)), (2, .int (nI g))]) hC d_Pa_dispatch_137 rfl (mx_inc k) (by decide) rfl rfl ?_
            refine x_goto (tgt := 113) hC d_Pa_dispatch_140 (by decide) ?_
            exact x_close (hN9 (Int32.not_le.mp h126)) [0, 1, 2, 3, 4] rfl (by exact it_t (Int32.not_le.mp h126) rfl)
        · intro m6 hI12 hE11
          refine x_iload (q := 115) hC d_Pa_dispatch_113 rfl rfl ?_
          refine x_bipush (q := 117) (v := nI 6) hC d_Pa_dispatch_115 (by decide) rfl ?_
          refine x_icmp_ge (tgt := 143) (q := 120) hC d_Pa_dispatch_117 (by decide) rfl (fun _ => ?_) (fun h => absurd (nI_le (Nat.le_refl _) (by decide)) h)
          exact x_sub (L1 := [(3, .int (nI (s * 3 + g))), (0, .ref 165), (1, .int (nI s)), (2, .int (nI g))]) [1, 2, 3, 4] rfl hE11
        · refine mx_nr (fun mb113 eb113 => ?_)
          refine x_aload_n (q := 144) hC d_Pa_dispatch_143 rfl rfl rfl ?_
          refine x_iload_n (q := 145) hC d_Pa_dispatch_144 rfl rfl rfl ?_
          refine x_iload_n (q := 146) hC d_Pa_dispatch_145 rfl rfl rfl ?_
          refine x_callV (q := 149) (p := 165) (A := [.int (nI (s * 3 + g)), .int (nI g)]) (S := []) (c1 := 0) (s1 := 0) hC (c_Pa_renewCarriers (st := s * 3 + g) (g := g) (r := r) (by omega) hu (by omega) (by omega) (eb113 ▸ lp_keep (Pa_ok r) 6 hI4 (fun _ _ _ h => Pa_puts_ok h))) s_Pa_dispatch_92 rfl (by omega) rfl rfl rfl (Nat.le_of_ble_eq_true rfl) rfl rfl (by decide) (by decide) d_Pa_dispatch_146 rfl (fun r τ hP => ?_)
          obtain ⟨rfl, rfl⟩ := hP
          show mx_G Γ κ _ _ 149 [(3, .int (nI (s * 3 + g))), (0, .ref 165), (1, .int (nI s)), (2, .int (nI g))] [] (nx, u, mx_lp 6 (Pa_rn (s * 3 + g) g) mb113) 0 0
          refine x_aload_n (q := 150) hC d_Pa_dispatch_149 rfl rfl rfl ?_
          refine x_callV (q := 153) (p := 165) (A := []) (S := []) (c1 := 0) (s1 := 0) hC (c_Pa_listen  (by omega) hu  ) s_Pa_dispatch_95 rfl (by omega) rfl rfl rfl (Nat.le_of_ble_eq_true rfl) rfl rfl (by decide) (by decide) d_Pa_dispatch_150 rfl (fun r τ hP => ?_)
          obtain ⟨rfl, rfl⟩ := hP
          show mx_G Γ κ _ _ 153 [(3, .int (nI (s * 3 + g))), (0, .ref 165), (1, .int (nI s)), (2, .int (nI g))] [] (nx, u, Pa_listen (mx_lp 6 (Pa_rn (s * 3 + g) g) mb113)) 0 0
          subst eb113
          subst e4
          subst e3
          subst eR
          subst eS
          subst e2
          exact x_vret hC rfl ⟨rfl, rfl⟩ (by decide) (by decide) d_Pa_dispatch_153
      refine x_iload (q := 87) hC d_Pa_dispatch_85 rfl rfl ?_
      refine x_if_eq (tgt := 110) (q := 90) hC d_Pa_dispatch_87 (by decide) rfl (fun h87 => ?_) (fun h87 => ?_)
      · have h87 := bz_0 h87
        exact x_sub (L1 := [(3, .int (nI (s * 3 + g))), (0, .ref 165), (1, .int (nI s)), (2, .int (nI g))]) [2, 3, 4, 5] rfl (mx_eqG rfl rfl (pr (by subst e3; subst eR; subst eS; subst e2; first | exact it_t (And.intro h87 h100) rfl | exact it_f (fun z => h87 z.1) rfl | exact it_f (fun z => z.2 h100) rfl)) J5)
      · have h87 := bz_1 h87
        refine x_aload_n (q := 91) hC d_Pa_dispatch_90 rfl rfl rfl ?_
        refine x_getr (q := 94) (p := 165) (j := 2) (r := 57) hC f_Pa_42 rfl rfl rfl (by omega) (hu _ _ (by decide)) d_Pa_dispatch_91 rfl ?_
        refine x_iload_n (q := 95) hC d_Pa_dispatch_94 rfl rfl rfl ?_
        refine x_iload (q := 97) hC d_Pa_dispatch_95 rfl rfl ?_
        refine x_callV (q := 100) (p := 57) (A := [.int (nI (s * 3 + g)), .int (nI r)]) (S := []) (c1 := 0) (s1 := 0) hC (c_Sm_isSwitched (s := s * 3 + g) (n := r) (by omega) hu (by omega) (by omega) ) s_Pa_dispatch_83 rfl (by omega) rfl rfl rfl (Nat.le_of_ble_eq_true rfl) rfl rfl (by decide) (by decide) d_Pa_dispatch_97 rfl (fun r τ hP => ?_)
        obtain ⟨rfl, rfl⟩ := hP
        show mx_G Γ κ _ _ 100 [(5, .int (nI r)), (4, .int (bz (Pa_rc (s * 3 + g) s r mS))), (3, .int (nI (s * 3 + g))), (0, .ref 165), (1, .int (nI s)), (2, .int (nI g))] [.int (bz (hold (m3 77 (s * 3 + g)) r))] (nx, u, m3) 0 0
        refine x_if_ne (tgt := 110) (q := 103) hC d_Pa_dispatch_100 (by decide) rfl (fun h100 => ?_) (fun h100 => ?_)
        · have h100 := bz_1 h100
          exact x_sub (L1 := [(3, .int (nI (s * 3 + g))), (0, .ref 165), (1, .int (nI s)), (2, .int (nI g))]) [2, 3, 4, 5] rfl (mx_eqG rfl rfl (pr (by subst e3; subst eR; subst eS; subst e2; first | exact it_t (And.intro h87 h100) rfl | exact it_f (fun z => h87 z.1) rfl | exact it_f (fun z => z.2 h100) rfl)) J5)
        · have h100 := bz_0 h100
          refine x_aload_n (q := 104) hC d_Pa_dispatch_103 rfl rfl rfl ?_
          refine x_iload (q := 106) hC d_Pa_dispatch_104 rfl rfl ?_
          refine x_iconst (q := 107) (v := (-1)) hC d_Pa_dispatch_106 (by decide) rfl ?_
          refine x_callV (q := 110) (p := 165) (A := [.int (nI r), .int ((-1))]) (S := []) (c1 := 0) (s1 := 0) hC (c_Pa_carry (n := r) (r := r) (x := (-1)) (by omega) hu hI3) s_Pa_dispatch_76 rfl (by omega) rfl rfl rfl (Nat.le_of_ble_eq_true rfl) rfl rfl (by decide) (by decide) d_Pa_dispatch_107 rfl (fun r τ hP => ?_)
          obtain ⟨rfl, rfl⟩ := hP
          show mx_G Γ κ _ _ 110 [(5, .int (nI r)), (4, .int (bz (Pa_rc (s * 3 + g) s r mS))), (3, .int (nI (s * 3 + g))), (0, .ref 165), (1, .int (nI s)), (2, .int (nI g))] [] (nx, u, Pa_carry r (-1) m3) 0 0
          exact x_sub (L1 := [(3, .int (nI (s * 3 + g))), (0, .ref 165), (1, .int (nI s)), (2, .int (nI g))]) [2, 3, 4, 5] rfl (mx_eqG rfl rfl (pr (by subst e3; subst eR; subst eS; subst e2; first | exact it_t (And.intro h87 h100) rfl | exact it_f (fun z => h87 z.1) rfl | exact it_f (fun z => z.2 h100) rfl)) J5)
    refine x_aload_n (q := 59) hC d_Pa_dispatch_58 rfl rfl rfl ?_
    refine x_getr (q := 62) (p := 165) (j := 3) (r := 79) hC f_Pa_46 rfl rfl rfl (by omega) (hu _ _ (by decide)) d_Pa_dispatch_59 rfl ?_
    refine x_iload_n (q := 63) hC d_Pa_dispatch_62 rfl rfl rfl ?_
    refine x_iload_n (q := 64) hC d_Pa_dispatch_63 rfl rfl rfl ?_
    refine x_callV (q := 67) (p := 79) (A := [.int (nI (s * 3 + g)), .int (nI s)]) (S := []) (c1 := 0) (s1 := 0) hC (c_Tr_outerList (a := s * 3 + g) (n := s) (by omega) hu (by omega) (by omega) ) s_Pa_dispatch_71 rfl (by omega) rfl rfl rfl (Nat.le_of_ble_eq_true rfl) rfl rfl (by decide) (by decide) d_Pa_dispatch_64 rfl (fun r τ hP => ?_)
    obtain ⟨rfl, rfl⟩ := hP
    show mx_G Γ κ _ _ 67 [(4, .int (bz (Pa_rc (s * 3 + g) s r mS))), (3, .int (nI (s * 3 + g))), (0, .ref 165), (1, .int (nI s)), (2, .int (nI g))] [.int (mR (146 + (s * 3 + g)) s)] (nx, u, mR) 0 0
    refine x_if_eq (tgt := 76) (q := 70) hC d_Pa_dispatch_67 (by decide) rfl (fun h67 => ?_) (fun h67 => ?_)
    · skip
      exact x_sub (L1 := [(4, .int (bz (Pa_rc (s * 3 + g) s r mS))), (3, .int (nI (s * 3 + g))), (0, .ref 165), (1, .int (nI s)), (2, .int (nI g))]) [0, 1, 2, 3, 4] rfl (mx_eqG rfl rfl (pr (by subst eR; subst eS; subst e2; first | exact it_t h67 rfl | exact it_f (fun z => z h67) rfl)) J4)
    · skip
      refine x_aload_n (q := 71) hC d_Pa_dispatch_70 rfl rfl rfl ?_
      refine x_iload_n (q := 72) hC d_Pa_dispatch_71 rfl rfl rfl ?_
      refine x_iconst (q := 73) (v := (-1)) hC d_Pa_dispatch_72 (by decide) rfl ?_
      refine x_callV (q := 76) (p := 165) (A := [.int (nI s), .int ((-1))]) (S := []) (c1 := 0) (s1 := 0) hC (c_Pa_carry (n := s) (r := r) (x := (-1)) (by omega) hu hIR) s_Pa_dispatch_76 rfl (by omega) rfl rfl rfl (Nat.le_of_ble_eq_true rfl) rfl rfl (by decide) (by decide) d_Pa_dispatch_73 rfl (fun r τ hP => ?_)
      obtain ⟨rfl, rfl⟩ := hP
      show mx_G Γ κ _ _ 76 [(4, .int (bz (Pa_rc (s * 3 + g) s r mS))), (3, .int (nI (s * 3 + g))), (0, .ref 165), (1, .int (nI s)), (2, .int (nI g))] [] (nx, u, Pa_carry s (-1) mR) 0 0
      exact x_sub (L1 := [(4, .int (bz (Pa_rc (s * 3 + g) s r mS))), (3, .int (nI (s * 3 + g))), (0, .ref 165), (1, .int (nI s)), (2, .int (nI g))]) [0, 1, 2, 3, 4] rfl (mx_eqG rfl rfl (pr (by subst eR; subst eS; subst e2; first | exact it_t h67 rfl | exact it_f (fun z => z h67) rfl)) J4)
  refine x_aload_n (q := 22) hC d_Pa_dispatch_21 rfl rfl rfl ?_
  refine x_aload_n (q := 23) hC d_Pa_dispatch_22 rfl rfl rfl ?_
  refine x_getr (q := 26) (p := 165) (j := 1) (r := 34) hC f_Pa_38 rfl rfl rfl (by omega) (hu _ _ (by decide)) d_Pa_dispatch_23 rfl ?_
  refine x_iload_n (q := 27) hC d_Pa_dispatch_26 rfl rfl rfl ?_
  refine x_iload_n (q := 28) hC d_Pa_dispatch_27 rfl rfl rfl ?_
  refine x_callV (q := 31) (p := 34) (A := [.int (nI s), .int (nI g)]) (S := [.ref 165]) (c1 := 0) (s1 := 0) hC (c_La_isMarked (l := s) (g := g) (by omega) hu (by omega) (by omega) ) s_Pa_dispatch_58 rfl (by omega) rfl rfl rfl (Nat.le_of_ble_eq_true rfl) rfl rfl (by decide) (by decide) d_Pa_dispatch_28 rfl (fun r τ hP => ?_)
  obtain ⟨rfl, rfl⟩ := hP
  show mx_G Γ κ _ _ 31 [(3, .int (nI (s * 3 + g))), (0, .ref 165), (1, .int (nI s)), (2, .int (nI g))] [.int (bz (m1 2 0 < m1 (43 + s) g)), .ref 165] (nx, u, m1) 0 0
  refine x_if_eq (tgt := 40) (q := 34) hC d_Pa_dispatch_31 (by decide) rfl (fun h31 => ?_) (fun h31 => ?_)
  · have h31 := bz_0 h31
    refine x_iconst (q := 41) (v := nI 0) hC d_Pa_dispatch_40 (by decide) rfl ?_
    refine x_puti (q := 44) (p := 165) (j := 10) hC f_Pa_28 y_Pa rfl rfl rfl rfl rfl (by omega) (by decide) d_Pa_dispatch_41 rfl ?_
    exact x_sub (L1 := [(3, .int (nI (s * 3 + g))), (0, .ref 165), (1, .int (nI s)), (2, .int (nI g))]) [0, 1, 2, 3] rfl (mx_eqG rfl rfl (pr (by subst e2; first | (exact congrArg (mx_up (Pa_z mi) 165 10) (it_t h31 rfl)) | (exact congrArg (mx_up (Pa_z mi) 165 10) (it_f h31 rfl)))) J3)
  · have h31 := bz_1 h31
    refine x_iconst (q := 35) (v := nI 1) hC d_Pa_dispatch_34 (by decide) rfl ?_
    refine x_iload_n (q := 36) hC d_Pa_dispatch_35 rfl rfl rfl ?_
    refine x_ishl (q := 37) (z := (nI 1) <<< ((nI s) &&& 31)) hC d_Pa_dispatch_36 rfl rfl ?_
    refine x_goto (tgt := 41) hC d_Pa_dispatch_37 (by decide) ?_
    refine x_puti (q := 44) (p := 165) (j := 10) hC f_Pa_28 y_Pa rfl rfl rfl rfl rfl (by omega) (by decide) d_Pa_dispatch_41 rfl ?_
    exact x_sub (L1 := [(3, .int (nI (s * 3 + g))), (0, .ref 165), (1, .int (nI s)), (2, .int (nI g))]) [0, 1, 2, 3] rfl (mx_eqG rfl rfl (pr (by subst e2; first | (exact congrArg (mx_up (Pa_z mi) 165 10) (it_t h31 rfl)) | (exact congrArg (mx_up (Pa_z mi) 165 10) (it_f h31 rfl)))) J3)
