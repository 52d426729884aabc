theorem C_rp_ok {r : Nat} {m : mx_Mm} (h : Tr_ok r m) : Tr_ok r (C_rp m) := by
  unfold C_rp
  split
  · exact Tr_all_ok h
  · exact h
theorem C_tk_ok {r : Nat} {m : mx_Mm} (h : Tr_ok r m) : Tr_ok r (C_tk m) := Tr_es_ok (h.upP (by omega))
theorem C_tick_ok {r : Nat} {m : mx_Mm} (hr : r < 6) (h : Tr_ok r m) : Tr_ok r (C_tick r m) := Tr_settle_ok hr (C_rp_ok (C_tk_ok h))
theorem C_sendv_m1 {r : Nat} {s g : Int32} {m : mx_Mm} : C_sendv r s g m = -1 ↔ ¬ C_sdP s g m := by
  unfold C_sendv
  split
  next h => exact ⟨fun e => absurd e (bc_ne _), fun e => absurd h e⟩
  next h => exact ⟨fun _ => h, fun _ => rfl⟩
set_option maxRecDepth 100000 in
set_option maxHeartbeats 400000 in
theorem c_MT_pass {Γ : mx_X} {lau : Launch} {nx : Nat} {u : Nat → Nat → Bool} {mi : mx_Mm} {r : Nat} {n : Int32} (hnx : 185 ≤ nx) (hu : ∀ p k, 2 ≤ p → u p k = true) (hu1 : ∀ k, u 1 k = true) (hr : r < 6) (hok : Tr_ok r mi) : mx_C Γ lau M_MT_pass [.ref 1, .int n] (nx, u, mi) (fun ρ τ => ρ = some (.int (bz (C_psP n))) ∧ τ = (nx, u, C_pass r n mi)) := by
  refine mx_C.intro (by decide) rfl (Nat.le_of_ble_eq_true rfl) (fun κ _ hC => ?_)
  show mx_G Γ κ _ _ 0 [(0, .ref 1), (1, .int n)] [] (nx, u, mi) 0 0
  refine x_iload_n (q := 1) hC d_MT_pass_0 rfl rfl rfl ?_
  refine x_iconst (q := 2) (v := nI 1) hC d_MT_pass_1 (by decide) rfl ?_
  refine x_icmp_lt (tgt := 11) (q := 5) hC d_MT_pass_2 (by decide) rfl (fun h2 => ?_) (fun h2 => ?_)
  · skip
    refine x_iconst (q := 12) (v := nI 0) hC d_MT_pass_11 (by decide) rfl ?_
    exact x_iret hC rfl rfl ⟨bz_f (fun q => Int32.not_lt.mpr q.1 h2), pr (it_f (fun q => Int32.not_lt.mpr q.1 h2) rfl)⟩ (by decide) (by decide) d_MT_pass_12
  · skip
    refine x_iload_n (q := 6) hC d_MT_pass_5 rfl rfl rfl ?_
    refine x_bipush (q := 8) (v := nI 10) hC d_MT_pass_6 (by decide) rfl ?_
    refine x_icmp_le (tgt := 13) (q := 11) hC d_MT_pass_8 (by decide) rfl (fun h8 => ?_) (fun h8 => ?_)
    · skip
      obtain ⟨en, hn⟩ := ps_tn (And.intro (Int32.not_lt.mp h2) h8)
      refine mx_eqG (L1 := [(0, .ref 1), (1, .int (nI (tn n)))]) (by rw [← en]) rfl rfl ?_
      refine x_iconst (q := 14) (v := nI 0) hC d_MT_pass_13 (by decide) rfl ?_
      refine x_istore_n (q := 15) (L1 := [(2, .int (nI 0)), (0, .ref 1), (1, .int (nI (tn n)))]) hC d_MT_pass_14 rfl (by decide) rfl rfl ?_
      refine x_sub (L1 := [(2, .int (nI 0)), (0, .ref 1), (1, .int (nI (tn n)))]) [0, 1, 2] rfl ?_
      refine mx_loop (N := (tn n)) (Hd := fun i m1 => mx_G Γ κ _ _ 15 [(2, .int (nI i)), (0, .ref 1), (1, .int (nI (tn n)))] [] (nx, u, m1) 0 0) (fun _ => C_tick r) (fun _ m => Tr_ok r m) hok ?_ ?_ ?_
      · exact fun _ m _ h => C_tick_ok hr h
      · intro i m1 hl2 hI3 hN4
        refine x_iload_n (q := 16) hC d_MT_pass_15 rfl rfl rfl ?_
        refine x_iload_n (q := 17) hC d_MT_pass_16 rfl rfl rfl ?_
        refine x_icmp_ge (tgt := 64) (q := 20) hC d_MT_pass_17 (by decide) rfl (fun h => absurd h (nI_ge hl2 (by omega))) (fun _ => ?_)
        refine x_aload_n (q := 21) hC d_MT_pass_20 rfl rfl rfl ?_
        refine x_getr (q := 24) (p := 1) (j := 0) (r := 2) hC f_MT_16 rfl rfl rfl (by omega) (hu1 _) d_MT_pass_21 rfl ?_
        refine x_callV (q := 27) (p := 2) (A := []) (S := []) (c1 := 0) (s1 := 0) hC (c_Ck_tick (by omega) hu) s_MT_pass_118 rfl (by omega) rfl rfl rfl (Nat.le_of_ble_eq_true rfl) rfl rfl (by decide) (by decide) d_MT_pass_24 rfl (fun r τ hP => ?_)
        obtain ⟨rfl, rfl⟩ := hP
        show mx_G Γ κ _ _ 27 [(2, .int (nI i)), (0, .ref 1), (1, .int (nI (tn n)))] [] (nx, u, mx_up m1 2 0 (m1 2 0 + nI 1)) 0 0
        refine x_aload_n (q := 28) hC d_MT_pass_27 rfl rfl rfl ?_
        refine x_getr (q := 31) (p := 1) (j := 4) (r := 57) hC f_MT_46 rfl rfl rfl (by omega) (hu1 _) d_MT_pass_28 rfl ?_
        refine x_callV (q := 34) (p := 57) (A := []) (S := []) (c1 := 0) (s1 := 0) hC (c_Sm_endStale  (by omega) hu  ) s_MT_pass_121 rfl (by omega) rfl rfl rfl (Nat.le_of_ble_eq_true rfl) rfl rfl (by decide) (by decide) d_MT_pass_31 rfl (fun r τ hP => ?_)
        obtain ⟨rfl, rfl⟩ := hP
        show mx_G Γ κ _ _ 34 [(2, .int (nI i)), (0, .ref 1), (1, .int (nI (tn n)))] [] (nx, u, Sm_es (mx_up m1 2 0 (m1 2 0 + nI 1))) 0 0
        have J5 : mx_G Γ κ M_MT_pass (MQ (mx_b κ) (mx_Qc Γ (fun ρ τ => ρ = some (.int (bz (C_psP n))) ∧ τ = (nx, u, C_pass r n mi))) (mx_a κ) (mx_s κ) M_MT_pass.2.2.2.2.cells M_MT_pass.2.2.2.2.slots (mx_fr Γ)) 51 [(2, .int (nI i)), (0, .ref 1), (1, .int (nI (tn n)))] [] (nx, u, C_rp (Sm_es (mx_up m1 2 0 (m1 2 0 + nI 1)))) 0 0 := by
          refine mx_nr (fun mj ej => ?_)
          have hJ : Tr_ok r mj := ej ▸ C_rp_ok (C_tk_ok hI3)
          refine x_aload_n (q := 52) hC d_MT_pass_51 rfl rfl rfl ?_
          refine x_getr (q := 55) (p := 1) (j := 5) (r := 79) hC f_MT_55 rfl rfl rfl (by omega) (hu1 _) d_MT_pass_52 rfl ?_
          refine x_callV (q := 58) (p := 79) (A := []) (S := []) (c1 := 0) (s1 := 0) hC (c_Tr_settle (r := r) (by omega) hu hr hJ) s_MT_pass_85 rfl (by omega) rfl rfl rfl (Nat.le_of_ble_eq_true rfl) rfl rfl (by decide) (by decide) d_MT_pass_55 rfl (fun r τ hP => ?_)
          obtain ⟨rfl, rfl⟩ := hP
          show mx_G Γ κ _ _ 58 [(2, .int (nI i)), (0, .ref 1), (1, .int (nI (tn n)))] [] (nx, u, Tr_settle r mj) 0 0
          refine x_iinc (q := 61) (y := nI (i + 1)) (L1 := [(2, .int (nI (i + 1))), (0, .ref 1), (1, .int (nI (tn n)))]) hC d_MT_pass_58 rfl (mx_inc i) (by decide) rfl rfl ?_
          refine x_goto (tgt := 15) hC d_MT_pass_61 (by decide) ?_
          subst ej
          exact x_close hN4 [0, 1, 2] rfl (by rfl)
        refine x_aload_n (q := 35) hC d_MT_pass_34 rfl rfl rfl ?_
        refine x_getr (q := 38) (p := 1) (j := 0) (r := 2) hC f_MT_16 rfl rfl rfl (by omega) (hu1 _) d_MT_pass_35 rfl ?_
        refine x_callV (q := 41) (p := 2) (A := []) (S := []) (c1 := 0) (s1 := 0) hC (c_Ck_isReportTime (by omega) hu) s_MT_pass_124 rfl (by omega) rfl rfl rfl (Nat.le_of_ble_eq_true rfl) rfl rfl (by decide) (by decide) d_MT_pass_38 rfl (fun r τ hP => ?_)
        obtain ⟨rfl, rfl⟩ := hP
        show mx_G Γ κ _ _ 41 [(2, .int (nI i)), (0, .ref 1), (1, .int (nI (tn n)))] [.int (bz ((Sm_es (mx_up m1 2 0 (m1 2 0 + nI 1))) 2 0 - (Sm_es (mx_up m1 2 0 (m1 2 0 + nI 1))) 2 0 / nI 5 * nI 5 = 0))] (nx, u, Sm_es (mx_up m1 2 0 (m1 2 0 + nI 1))) 0 0
        refine x_if_eq (tgt := 51) (q := 44) hC d_MT_pass_41 (by decide) rfl (fun h41 => ?_) (fun h41 => ?_)
        · have h41 := bz_0 h41
          exact x_sub (L1 := [(2, .int (nI i)), (0, .ref 1), (1, .int (nI (tn n)))]) [0, 1, 2] rfl (mx_eqG rfl rfl (pr (by first | exact it_t h41 rfl | exact it_f h41 rfl)) J5)
        · have h41 := bz_1 h41
          refine x_aload_n (q := 45) hC d_MT_pass_44 rfl rfl rfl ?_
          refine x_getr (q := 48) (p := 1) (j := 3) (r := 34) hC f_MT_39 rfl rfl rfl (by omega) (hu1 _) d_MT_pass_45 rfl ?_
          refine x_callV (q := 51) (p := 34) (A := []) (S := []) (c1 := 0) (s1 := 0) hC (c_La_reportAll  (by omega) hu  ) s_MT_pass_128 rfl (by omega) rfl rfl rfl (Nat.le_of_ble_eq_true rfl) rfl rfl (by decide) (by decide) d_MT_pass_48 rfl (fun r τ hP => ?_)
          obtain ⟨rfl, rfl⟩ := hP
          show mx_G Γ κ _ _ 51 [(2, .int (nI i)), (0, .ref 1), (1, .int (nI (tn n)))] [] (nx, u, La_all (Sm_es (mx_up m1 2 0 (m1 2 0 + nI 1)))) 0 0
          exact x_sub (L1 := [(2, .int (nI i)), (0, .ref 1), (1, .int (nI (tn n)))]) [0, 1, 2] rfl (mx_eqG rfl rfl (pr (by first | exact it_t h41 rfl | exact it_f h41 rfl)) J5)
      · intro hx6
        refine mx_nr (fun m7 e8 => ?_)
        try rw [e8] at hx6
        refine x_iload_n (q := 16) hC d_MT_pass_15 rfl rfl rfl ?_
        refine x_iload_n (q := 17) hC d_MT_pass_16 rfl rfl rfl ?_
        refine x_icmp_ge (tgt := 64) (q := 20) hC d_MT_pass_17 (by decide) rfl (fun _ => ?_) (fun h => absurd (nI_le (Nat.le_refl _) (by omega)) h)
        refine x_iconst (q := 65) (v := nI 1) hC d_MT_pass_64 (by decide) rfl ?_
        subst e8
        exact x_iret hC rfl rfl ⟨bz_t (And.intro (Int32.not_lt.mp h2) h8), pr (it_t (And.intro (Int32.not_lt.mp h2) h8) rfl)⟩ (by decide) (by decide) d_MT_pass_65
    · skip
      refine x_iconst (q := 12) (v := nI 0) hC d_MT_pass_11 (by decide) rfl ?_
      exact x_iret hC rfl rfl ⟨bz_f (fun q => h8 q.2), pr (it_f (fun q => h8 q.2) rfl)⟩ (by decide) (by decide) d_MT_pass_12
set_option maxRecDepth 100000 in
set_option maxHeartbeats 400000 in
theorem c_MT_send {Γ : mx_X} {lau : Launch} {nx : Nat} {u : Nat → Nat → Bool} {mi : mx_Mm} {r : Nat} {s g : Int32} (hnx : 185 ≤ nx) (hu : ∀ p k, 2 ≤ p → u p k = true) (hu1 : ∀ k, u 1 k = true) (hr : r < 6) (hok : Tr_ok r mi) (hpa : Pa_ok r mi) : mx_C Γ lau M_MT_send [.ref 1, .int s, .int g] (nx, u, mi) (fun ρ τ => ρ = some (.int (C_sendv r s g mi)) ∧ τ = (nx, u, C_send r s g mi)) := by
  refine mx_C.intro (by decide) rfl (Nat.le_of_ble_eq_true rfl) (fun κ _ hC => ?_)
  show mx_G Γ κ _ _ 0 [(0, .ref 1), (1, .int s), (2, .int g)] [] (nx, u, mi) 0 0
  refine x_iload_n (q := 1) hC d_MT_send_0 rfl rfl rfl ?_
  refine x_callS (q := 4) (A := [.int s]) (S := []) (c1 := 0) (s1 := 0) hC (c_MT_isRouter) s_MT_send_9 rfl rfl rfl (Nat.le_of_ble_eq_true rfl) rfl rfl (by decide) (by decide) d_MT_send_1 rfl (fun r τ hP => ?_)
  obtain ⟨rfl, rfl⟩ := hP
  show mx_G Γ κ _ _ 4 [(0, .ref 1), (1, .int s), (2, .int g)] [.int (bz (0 ≤ s ∧ s < nI 6))] (nx, u, mi) 0 0
  refine x_if_eq (tgt := 14) (q := 7) hC d_MT_send_4 (by decide) rfl (fun h4 => ?_) (fun h4 => ?_)
  · have h4 := bz_0 h4
    refine x_iconst (q := 15) (v := (-1)) hC d_MT_send_14 (by decide) rfl ?_
    exact x_iret hC rfl rfl ⟨sv (it_f (fun q => h4 q.1) rfl), pr (it_f (fun q => h4 q.1) rfl)⟩ (by decide) (by decide) d_MT_send_15
  · have h4 := bz_1 h4
    obtain ⟨es, hs⟩ := in_tn h4 (by decide)
    refine mx_eqG (L1 := [(0, .ref 1), (1, .int (nI (tn s))), (2, .int g)]) (by rw [← es]) rfl rfl ?_
    refine x_iload_n (q := 8) hC d_MT_send_7 rfl rfl rfl ?_
    refine x_callS (q := 11) (A := [.int g]) (S := []) (c1 := 0) (s1 := 0) hC (c_MT_isGroup) s_MT_send_101 rfl rfl rfl (Nat.le_of_ble_eq_true rfl) rfl rfl (by decide) (by decide) d_MT_send_8 rfl (fun r τ hP => ?_)
    obtain ⟨rfl, rfl⟩ := hP
    show mx_G Γ κ _ _ 11 [(0, .ref 1), (1, .int (nI (tn s))), (2, .int g)] [.int (bz (0 ≤ g ∧ g < nI 3))] (nx, u, mi) 0 0
    refine x_if_ne (tgt := 16) (q := 14) hC d_MT_send_11 (by decide) rfl (fun h11 => ?_) (fun h11 => ?_)
    · have h11 := bz_1 h11
      obtain ⟨eg, hg⟩ := in_tn h11 (by decide)
      refine mx_eqG (L1 := [(0, .ref 1), (1, .int (nI (tn s))), (2, .int (nI (tn g)))]) (by rw [← eg]) rfl rfl ?_
      refine x_aload_n (q := 17) hC d_MT_send_16 rfl rfl rfl ?_
      refine x_getr (q := 20) (p := 1) (j := 4) (r := 57) hC f_MT_46 rfl rfl rfl (by omega) (hu1 _) d_MT_send_17 rfl ?_
      refine x_iload_n (q := 21) hC d_MT_send_20 rfl rfl rfl ?_
      refine x_iload_n (q := 22) hC d_MT_send_21 rfl rfl rfl ?_
      refine x_callS (q := 25) (A := [.int (nI (tn s)), .int (nI (tn g))]) (S := [.ref 57]) (c1 := 0) (s1 := 0) hC (c_MT_streamOf (s := tn s) (g := tn g)) s_MT_send_131 rfl rfl rfl (Nat.le_of_ble_eq_true rfl) rfl rfl (by decide) (by decide) d_MT_send_22 rfl (fun r τ hP => ?_)
      obtain ⟨rfl, rfl⟩ := hP
      show mx_G Γ κ _ _ 25 [(0, .ref 1), (1, .int (nI (tn s))), (2, .int (nI (tn g)))] [.int (nI ((tn s) * 3 + (tn g))), .ref 57] (nx, u, mi) 0 0
      refine x_callV (q := 28) (p := 57) (A := [.int (nI ((tn s) * 3 + (tn g)))]) (S := []) (c1 := 0) (s1 := 0) hC (c_Sm_hasRoomFor (s := (tn s) * 3 + (tn g)) (by omega) hu (by omega) ) s_MT_send_134 rfl (by omega) rfl rfl rfl (Nat.le_of_ble_eq_true rfl) rfl rfl (by decide) (by decide) d_MT_send_25 rfl (fun r τ hP => ?_)
      obtain ⟨rfl, rfl⟩ := hP
      show mx_G Γ κ _ _ 28 [(0, .ref 1), (1, .int (nI (tn s))), (2, .int (nI (tn g)))] [.int (bz (Sm_some ((tn s) * 3 + (tn g)) mi ∨ Sm_cnt mi < 5))] (nx, u, mi) 0 0
      refine x_if_ne (tgt := 33) (q := 31) hC d_MT_send_28 (by decide) rfl (fun h28 => ?_) (fun h28 => ?_)
      · have h28 := bz_1 h28
        refine x_aload_n (q := 34) hC d_MT_send_33 rfl rfl rfl ?_
        refine x_getr (q := 37) (p := 1) (j := 6) (r := 165) hC f_MT_64 rfl rfl rfl (by omega) (hu1 _) d_MT_send_34 rfl ?_
        refine x_iload_n (q := 38) hC d_MT_send_37 rfl rfl rfl ?_
        refine x_iload_n (q := 39) hC d_MT_send_38 rfl rfl rfl ?_
        refine x_callV (q := 42) (p := 165) (A := [.int (nI (tn s)), .int (nI (tn g))]) (S := []) (c1 := 0) (s1 := 0) hC (c_Pa_dispatch (s := tn s) (g := tn g) (r := r) (by omega) hu (by omega) (by omega) hr hpa) s_MT_send_137 rfl (by omega) rfl rfl rfl (Nat.le_of_ble_eq_true rfl) rfl rfl (by decide) (by decide) d_MT_send_39 rfl (fun r τ hP => ?_)
        obtain ⟨rfl, rfl⟩ := hP
        show mx_G Γ κ _ _ 42 [(0, .ref 1), (1, .int (nI (tn s))), (2, .int (nI (tn g)))] [] (nx, u, Pa_disp (tn s) (tn g) r mi) 0 0
        refine x_aload_n (q := 43) hC d_MT_send_42 rfl rfl rfl ?_
        refine x_getr (q := 46) (p := 1) (j := 5) (r := 79) hC f_MT_55 rfl rfl rfl (by omega) (hu1 _) d_MT_send_43 rfl ?_
        refine x_callV (q := 49) (p := 79) (A := []) (S := []) (c1 := 0) (s1 := 0) hC (c_Tr_settle (r := r) (by omega) hu hr (Tr_disp_ok hs hg hok)) s_MT_send_85 rfl (by omega) rfl rfl rfl (Nat.le_of_ble_eq_true rfl) rfl rfl (by decide) (by decide) d_MT_send_46 rfl (fun r τ hP => ?_)
        obtain ⟨rfl, rfl⟩ := hP
        show mx_G Γ κ _ _ 49 [(0, .ref 1), (1, .int (nI (tn s))), (2, .int (nI (tn g)))] [] (nx, u, Tr_settle r (Pa_disp (tn s) (tn g) r mi)) 0 0
        refine x_aload_n (q := 50) hC d_MT_send_49 rfl rfl rfl ?_
        refine x_getr (q := 53) (p := 1) (j := 6) (r := 165) hC f_MT_64 rfl rfl rfl (by omega) (hu1 _) d_MT_send_50 rfl ?_
        refine x_callV (q := 56) (p := 165) (A := []) (S := []) (c1 := 0) (s1 := 0) hC (c_Pa_heardBy  (by omega) hu  ) s_MT_send_141 rfl (by omega) rfl rfl rfl (Nat.le_of_ble_eq_true rfl) rfl rfl (by decide) (by decide) d_MT_send_53 rfl (fun r τ hP => ?_)
        obtain ⟨rfl, rfl⟩ := hP
        show mx_G Γ κ _ _ 56 [(0, .ref 1), (1, .int (nI (tn s))), (2, .int (nI (tn g)))] [.int ((Tr_settle r (Pa_disp (tn s) (tn g) r mi)) 165 11)] (nx, u, Tr_settle r (Pa_disp (tn s) (tn g) r mi)) 0 0
        refine x_callS (q := 59) (A := [.int ((Tr_settle r (Pa_disp (tn s) (tn g) r mi)) 165 11)]) (S := []) (c1 := 0) (s1 := 0) hC (c_JI_bitCount) s_MT_send_145 rfl rfl rfl (Nat.le_of_ble_eq_true rfl) rfl rfl (by decide) (by decide) d_MT_send_56 rfl (fun r τ hP => ?_)
        obtain ⟨rfl, rfl⟩ := hP
        show mx_G Γ κ _ _ 59 [(0, .ref 1), (1, .int (nI (tn s))), (2, .int (nI (tn g)))] [.int (bc ((Tr_settle r (Pa_disp (tn s) (tn g) r mi)) 165 11))] (nx, u, Tr_settle r (Pa_disp (tn s) (tn g) r mi)) 0 0
        exact x_iret hC rfl rfl ⟨sv (it_t (And.intro h4 (And.intro h11 h28)) rfl), pr (it_t (And.intro h4 (And.intro h11 h28)) rfl)⟩ (by decide) (by decide) d_MT_send_59
      · have h28 := bz_0 h28
        refine x_iconst (q := 32) (v := (-1)) hC d_MT_send_31 (by decide) rfl ?_
        exact x_iret hC rfl rfl ⟨sv (it_f (fun q => h28 q.2.2) rfl), pr (it_f (fun q => h28 q.2.2) rfl)⟩ (by decide) (by decide) d_MT_send_32
    · have h11 := bz_0 h11
      refine x_iconst (q := 15) (v := (-1)) hC d_MT_send_14 (by decide) rfl ?_
      exact x_iret hC rfl rfl ⟨sv (it_f (fun q => h11 q.2.1) rfl), pr (it_f (fun q => h11 q.2.1) rfl)⟩ (by decide) (by decide) d_MT_send_15
set_option maxRecDepth 100000 in
set_option maxHeartbeats 400000 in
theorem c_MT_entry {Γ : mx_X} {lau : Launch} {nx : Nat} {u : Nat → Nat → Bool} {mi : mx_Mm} {n s g : Int32} (hnx : 185 ≤ nx) (hu : ∀ p k, 2 ≤ p → u p k = true) (hu1 : ∀ k, u 1 k = true)  : mx_C Γ lau M_MT_entry [.ref 1, .int n, .int s, .int g] (nx, u, mi) (fun ρ τ => ρ = some (.int (C_ent n s g mi)) ∧ τ = (nx, u, mi)) := by
  refine mx_C.intro (by decide) rfl (Nat.le_of_ble_eq_true rfl) (fun κ _ hC => ?_)
  show mx_G Γ κ _ _ 0 [(0, .ref 1), (1, .int n), (2, .int s), (3, .int g)] [] (nx, u, mi) 0 0
  refine x_iload_n (q := 1) hC d_MT_entry_0 rfl rfl rfl ?_
  refine x_callS (q := 4) (A := [.int n]) (S := []) (c1 := 0) (s1 := 0) hC (c_MT_isRouter) s_MT_entry_9 rfl rfl rfl (Nat.le_of_ble_eq_true rfl) rfl rfl (by decide) (by decide) d_MT_entry_1 rfl (fun r τ hP => ?_)
  obtain ⟨rfl, rfl⟩ := hP
  show mx_G Γ κ _ _ 4 [(0, .ref 1), (1, .int n), (2, .int s), (3, .int g)] [.int (bz (0 ≤ n ∧ n < nI 6))] (nx, u, mi) 0 0
  refine x_if_eq (tgt := 21) (q := 7) hC d_MT_entry_4 (by decide) rfl (fun h4 => ?_) (fun h4 => ?_)
  · have h4 := bz_0 h4
    refine x_iconst (q := 22) (v := (-1)) hC d_MT_entry_21 (by decide) rfl ?_
    exact x_iret hC rfl rfl ⟨sv (it_f (fun q => h4 q.1) rfl), rfl⟩ (by decide) (by decide) d_MT_entry_22
  · have h4 := bz_1 h4
    obtain ⟨en, hn⟩ := in_tn h4 (by decide)
    refine mx_eqG (L1 := [(0, .ref 1), (1, .int (nI (tn n))), (2, .int s), (3, .int g)]) (by rw [← en]) rfl rfl ?_
    refine x_iload_n (q := 8) hC d_MT_entry_7 rfl rfl rfl ?_
    refine x_callS (q := 11) (A := [.int s]) (S := []) (c1 := 0) (s1 := 0) hC (c_MT_isRouter) s_MT_entry_9 rfl rfl rfl (Nat.le_of_ble_eq_true rfl) rfl rfl (by decide) (by decide) d_MT_entry_8 rfl (fun r τ hP => ?_)
    obtain ⟨rfl, rfl⟩ := hP
    show mx_G Γ κ _ _ 11 [(0, .ref 1), (1, .int (nI (tn n))), (2, .int s), (3, .int g)] [.int (bz (0 ≤ s ∧ s < nI 6))] (nx, u, mi) 0 0
    refine x_if_eq (tgt := 21) (q := 14) hC d_MT_entry_11 (by decide) rfl (fun h11 => ?_) (fun h11 => ?_)
    · have h11 := bz_0 h11
      refine x_iconst (q := 22) (v := (-1)) hC d_MT_entry_21 (by decide) rfl ?_
      exact x_iret hC rfl rfl ⟨sv (it_f (fun q => h11 q.2.1) rfl), rfl⟩ (by decide) (by decide) d_MT_entry_22
    · have h11 := bz_1 h11
      obtain ⟨es, hs⟩ := in_tn h11 (by decide)
      refine mx_eqG (L1 := [(0, .ref 1), (1, .int (nI (tn n))), (2, .int (nI (tn s))), (3, .int g)]) (by rw [← es]) rfl rfl ?_
      refine x_iload_n (q := 15) hC d_MT_entry_14 rfl rfl rfl ?_
      refine x_callS (q := 18) (A := [.int g]) (S := []) (c1 := 0) (s1 := 0) hC (c_MT_isGroup) s_MT_entry_101 rfl rfl rfl (Nat.le_of_ble_eq_true rfl) rfl rfl (by decide) (by decide) d_MT_entry_15 rfl (fun r τ hP => ?_)
      obtain ⟨rfl, rfl⟩ := hP
      show mx_G Γ κ _ _ 18 [(0, .ref 1), (1, .int (nI (tn n))), (2, .int (nI (tn s))), (3, .int g)] [.int (bz (0 ≤ g ∧ g < nI 3))] (nx, u, mi) 0 0
      refine x_if_ne (tgt := 23) (q := 21) hC d_MT_entry_18 (by decide) rfl (fun h18 => ?_) (fun h18 => ?_)
      · have h18 := bz_1 h18
        obtain ⟨eg, hg⟩ := in_tn h18 (by decide)
        refine mx_eqG (L1 := [(0, .ref 1), (1, .int (nI (tn n))), (2, .int (nI (tn s))), (3, .int (nI (tn g)))]) (by rw [← eg]) rfl rfl ?_
        refine x_iload_n (q := 24) hC d_MT_entry_23 rfl rfl rfl ?_
        refine x_iload_n (q := 25) hC d_MT_entry_24 rfl rfl rfl ?_
        refine x_callS (q := 28) (A := [.int (nI (tn s)), .int (nI (tn g))]) (S := []) (c1 := 0) (s1 := 0) hC (c_MT_streamOf (s := tn s) (g := tn g)) s_MT_entry_131 rfl rfl rfl (Nat.le_of_ble_eq_true rfl) rfl rfl (by decide) (by decide) d_MT_entry_25 rfl (fun r τ hP => ?_)
        obtain ⟨rfl, rfl⟩ := hP
        show mx_G Γ κ _ _ 28 [(0, .ref 1), (1, .int (nI (tn n))), (2, .int (nI (tn s))), (3, .int (nI (tn g)))] [.int (nI ((tn s) * 3 + (tn g)))] (nx, u, mi) 0 0
        refine x_istore (q := 30) (L1 := [(4, .int (nI ((tn s) * 3 + (tn g)))), (0, .ref 1), (1, .int (nI (tn n))), (2, .int (nI (tn s))), (3, .int (nI (tn g)))]) hC d_MT_entry_28 (by decide) rfl rfl ?_
        refine x_bipush (q := 32) (v := nI 16) hC d_MT_entry_30 (by decide) rfl ?_
        refine x_aload_n (q := 33) hC d_MT_entry_32 rfl rfl rfl ?_
        refine x_getr (q := 36) (p := 1) (j := 5) (r := 79) hC f_MT_55 rfl rfl rfl (by omega) (hu1 _) d_MT_entry_33 rfl ?_
        refine x_iload (q := 38) hC d_MT_entry_36 rfl rfl ?_
        refine x_iload_n (q := 39) hC d_MT_entry_38 rfl rfl rfl ?_
        refine x_callV (q := 42) (p := 79) (A := [.int (nI ((tn s) * 3 + (tn g))), .int (nI (tn n))]) (S := [.int (nI 16)]) (c1 := 0) (s1 := 0) hC (c_Tr_outerList (a := (tn s) * 3 + (tn g)) (n := tn n) (by omega) hu (by omega) (by omega) ) s_MT_entry_163 rfl (by omega) rfl rfl rfl (Nat.le_of_ble_eq_true rfl) rfl rfl (by decide) (by decide) d_MT_entry_39 rfl (fun r τ hP => ?_)
        obtain ⟨rfl, rfl⟩ := hP
        show mx_G Γ κ _ _ 42 [(4, .int (nI ((tn s) * 3 + (tn g)))), (0, .ref 1), (1, .int (nI (tn n))), (2, .int (nI (tn s))), (3, .int (nI (tn g)))] [.int (mi (146 + ((tn s) * 3 + (tn g))) (tn n)), .int (nI 16)] (nx, u, mi) 0 0
        refine x_callS (q := 45) (A := [.int (mi (146 + ((tn s) * 3 + (tn g))) (tn n))]) (S := [.int (nI 16)]) (c1 := 0) (s1 := 0) hC (c_JI_bitCount) s_MT_entry_145 rfl rfl rfl (Nat.le_of_ble_eq_true rfl) rfl rfl (by decide) (by decide) d_MT_entry_42 rfl (fun r τ hP => ?_)
        obtain ⟨rfl, rfl⟩ := hP
        show mx_G Γ κ _ _ 45 [(4, .int (nI ((tn s) * 3 + (tn g)))), (0, .ref 1), (1, .int (nI (tn n))), (2, .int (nI (tn s))), (3, .int (nI (tn g)))] [.int (bc (mi (146 + ((tn s) * 3 + (tn g))) (tn n))), .int (nI 16)] (nx, u, mi) 0 0
        refine x_imul (q := 46) (z := (nI 16) * (bc (mi (146 + ((tn s) * 3 + (tn g))) (tn n)))) hC d_MT_entry_45 rfl rfl ?_
        refine x_istore (q := 48) (L1 := [(5, .int ((nI 16) * (bc (mi (146 + ((tn s) * 3 + (tn g))) (tn n))))), (4, .int (nI ((tn s) * 3 + (tn g)))), (0, .ref 1), (1, .int (nI (tn n))), (2, .int (nI (tn s))), (3, .int (nI (tn g)))]) hC d_MT_entry_46 (by decide) rfl rfl ?_
        have J1 : mx_G Γ κ M_MT_entry (MQ (mx_b κ) (mx_Qc Γ (fun ρ τ => ρ = some (.int (C_ent n s g mi)) ∧ τ = (nx, u, mi))) (mx_a κ) (mx_s κ) M_MT_entry.2.2.2.2.cells M_MT_entry.2.2.2.2.slots (mx_fr Γ)) 64 [(5, .int (C_e1 (tn s * 3 + tn g) (tn n) mi (C_e0 (tn s * 3 + tn g) (tn n) mi))), (4, .int (nI ((tn s) * 3 + (tn g)))), (0, .ref 1), (1, .int (nI (tn n))), (2, .int (nI (tn s))), (3, .int (nI (tn g)))] [] (nx, u, mi) 0 0 := by
          have J2 : mx_G Γ κ M_MT_entry (MQ (mx_b κ) (mx_Qc Γ (fun ρ τ => ρ = some (.int (C_ent n s g mi)) ∧ τ = (nx, u, mi))) (mx_a κ) (mx_s κ) M_MT_entry.2.2.2.2.cells M_MT_entry.2.2.2.2.slots (mx_fr Γ)) 80 [(5, .int (C_e2 (tn s * 3 + tn g) (tn n) mi (C_e1 (tn s * 3 + tn g) (tn n) mi (C_e0 (tn s * 3 + tn g) (tn n) mi)))), (4, .int (nI ((tn s) * 3 + (tn g)))), (0, .ref 1), (1, .int (nI (tn n))), (2, .int (nI (tn s))), (3, .int (nI (tn g)))] [] (nx, u, mi) 0 0 := by
            have J3 : mx_G Γ κ M_MT_entry (MQ (mx_b κ) (mx_Qc Γ (fun ρ τ => ρ = some (.int (C_ent n s g mi)) ∧ τ = (nx, u, mi))) (mx_a κ) (mx_s κ) M_MT_entry.2.2.2.2.cells M_MT_entry.2.2.2.2.slots (mx_fr Γ)) 97 [(5, .int (C_e3 (tn s * 3 + tn g) (tn n) mi (C_e2 (tn s * 3 + tn g) (tn n) mi (C_e1 (tn s * 3 + tn g) (tn n) mi (C_e0 (tn s * 3 + tn g) (tn n) mi))))), (4, .int (nI ((tn s) * 3 + (tn g)))), (0, .ref 1), (1, .int (nI (tn n))), (2, .int (nI (tn s))), (3, .int (nI (tn g)))] [] (nx, u, mi) 0 0 := by
              have J4 : mx_G Γ κ M_MT_entry (MQ (mx_b κ) (mx_Qc Γ (fun ρ τ => ρ = some (.int (C_ent n s g mi)) ∧ τ = (nx, u, mi))) (mx_a κ) (mx_s κ) M_MT_entry.2.2.2.2.cells M_MT_entry.2.2.2.2.slots (mx_fr Γ)) 114 [(5, .int (C_e4 (tn s * 3 + tn g) (tn n) mi (C_e3 (tn s * 3 + tn g) (tn n) mi (C_e2 (tn s * 3 + tn g) (tn n) mi (C_e1 (tn s * 3 + tn g) (tn n) mi (C_e0 (tn s * 3 + tn g) (tn n) mi)))))), (4, .int (nI ((tn s) * 3 + (tn g)))), (0, .ref 1), (1, .int (nI (tn n))), (2, .int (nI (tn s))), (3, .int (nI (tn g)))] [] (nx, u, mi) 0 0 := by
                refine x_iload (q := 116) hC d_MT_entry_114 rfl rfl ?_
                exact x_iret hC rfl rfl ⟨sv (it_t (And.intro h4 (And.intro h11 h18)) rfl), rfl⟩ (by decide) (by decide) d_MT_entry_116
              refine x_aload_n (q := 98) hC d_MT_entry_97 rfl rfl rfl ?_
              refine x_getr (q := 101) (p := 1) (j := 5) (r := 79) hC f_MT_55 rfl rfl rfl (by omega) (hu1 _) d_MT_entry_98 rfl ?_
              refine x_iload (q := 103) hC d_MT_entry_101 rfl rfl ?_
              refine x_iload_n (q := 104) hC d_MT_entry_103 rfl rfl rfl ?_
              refine x_callV (q := 107) (p := 79) (A := [.int (nI ((tn s) * 3 + (tn g))), .int (nI (tn n))]) (S := []) (c1 := 0) (s1 := 0) hC (c_Tr_sourceJoinOf (a := (tn s) * 3 + (tn g)) (n := tn n) (by omega) hu (by omega) (by omega) ) s_MT_entry_175 rfl (by omega) rfl rfl rfl (Nat.le_of_ble_eq_true rfl) rfl rfl (by decide) (by decide) d_MT_entry_104 rfl (fun r τ hP => ?_)
              obtain ⟨rfl, rfl⟩ := hP
              show mx_G Γ κ _ _ 107 [(5, .int (C_e3 (tn s * 3 + tn g) (tn n) mi (C_e2 (tn s * 3 + tn g) (tn n) mi (C_e1 (tn s * 3 + tn g) (tn n) mi (C_e0 (tn s * 3 + tn g) (tn n) mi))))), (4, .int (nI ((tn s) * 3 + (tn g)))), (0, .ref 1), (1, .int (nI (tn n))), (2, .int (nI (tn s))), (3, .int (nI (tn g)))] [.int (mi (108 + ((tn s) * 3 + (tn g))) (tn n))] (nx, u, mi) 0 0
              refine x_iconst (q := 108) (v := (-1)) hC d_MT_entry_107 (by decide) rfl ?_
              refine x_icmp_eq (tgt := 114) (q := 111) hC d_MT_entry_108 (by decide) rfl (fun h108 => ?_) (fun h108 => ?_)
              · skip
                exact x_sub (L1 := [(5, .int (C_e3 (tn s * 3 + tn g) (tn n) mi (C_e2 (tn s * 3 + tn g) (tn n) mi (C_e1 (tn s * 3 + tn g) (tn n) mi (C_e0 (tn s * 3 + tn g) (tn n) mi))))), (4, .int (nI ((tn s) * 3 + (tn g)))), (0, .ref 1), (1, .int (nI (tn n))), (2, .int (nI (tn s))), (3, .int (nI (tn g)))]) [0, 1, 2, 3, 4, 5] rfl (mx_eqG (by first | rw [C_e4, if_pos h108] | rw [C_e4, if_neg h108]) rfl rfl J4)
              · skip
                refine x_iinc (q := 114) (y := (C_e3 (tn s * 3 + tn g) (tn n) mi (C_e2 (tn s * 3 + tn g) (tn n) mi (C_e1 (tn s * 3 + tn g) (tn n) mi (C_e0 (tn s * 3 + tn g) (tn n) mi)))) + (8)) (L1 := [(5, .int ((C_e3 (tn s * 3 + tn g) (tn n) mi (C_e2 (tn s * 3 + tn g) (tn n) mi (C_e1 (tn s * 3 + tn g) (tn n) mi (C_e0 (tn s * 3 + tn g) (tn n) mi)))) + (8))), (4, .int (nI ((tn s) * 3 + (tn g)))), (0, .ref 1), (1, .int (nI (tn n))), (2, .int (nI (tn s))), (3, .int (nI (tn g)))]) hC d_MT_entry_111 rfl (by rfl) (by decide) rfl rfl ?_
                exact x_sub (L1 := [(5, .int ((C_e3 (tn s * 3 + tn g) (tn n) mi (C_e2 (tn s * 3 + tn g) (tn n) mi (C_e1 (tn s * 3 + tn g) (tn n) mi (C_e0 (tn s * 3 + tn g) (tn n) mi)))) + (8))), (4, .int (nI ((tn s) * 3 + (tn g)))), (0, .ref 1), (1, .int (nI (tn n))), (2, .int (nI (tn s))), (3, .int (nI (tn g)))]) [0, 1, 2, 3, 4, 5] rfl (mx_eqG (by first | rw [C_e4, if_pos h108] | rw [C_e4, if_neg h108]) rfl rfl J4)
            refine x_aload_n (q := 81) hC d_MT_entry_80 rfl rfl rfl ?_
            refine x_getr (q := 84) (p := 1) (j := 5) (r := 79) hC f_MT_55 rfl rfl rfl (by omega) (hu1 _) d_MT_entry_81 rfl ?_
            refine x_iload (q := 86) hC d_MT_entry_84 rfl rfl ?_
            refine x_iload_n (q := 87) hC d_MT_entry_86 rfl rfl rfl ?_
            refine x_callV (q := 90) (p := 79) (A := [.int (nI ((tn s) * 3 + (tn g))), .int (nI (tn n))]) (S := []) (c1 := 0) (s1 := 0) hC (c_Tr_cutOf (a := (tn s) * 3 + (tn g)) (n := tn n) (by omega) hu (by omega) (by omega) ) s_MT_entry_172 rfl (by omega) rfl rfl rfl (Nat.le_of_ble_eq_true rfl) rfl rfl (by decide) (by decide) d_MT_entry_87 rfl (fun r τ hP => ?_)
            obtain ⟨rfl, rfl⟩ := hP
            show mx_G Γ κ _ _ 90 [(5, .int (C_e2 (tn s * 3 + tn g) (tn n) mi (C_e1 (tn s * 3 + tn g) (tn n) mi (C_e0 (tn s * 3 + tn g) (tn n) mi)))), (4, .int (nI ((tn s) * 3 + (tn g)))), (0, .ref 1), (1, .int (nI (tn n))), (2, .int (nI (tn s))), (3, .int (nI (tn g)))] [.int (mi (89 + ((tn s) * 3 + (tn g))) (tn n))] (nx, u, mi) 0 0
            refine x_iconst (q := 91) (v := (-1)) hC d_MT_entry_90 (by decide) rfl ?_
            refine x_icmp_eq (tgt := 97) (q := 94) hC d_MT_entry_91 (by decide) rfl (fun h91 => ?_) (fun h91 => ?_)
            · skip
              exact x_sub (L1 := [(5, .int (C_e2 (tn s * 3 + tn g) (tn n) mi (C_e1 (tn s * 3 + tn g) (tn n) mi (C_e0 (tn s * 3 + tn g) (tn n) mi)))), (4, .int (nI ((tn s) * 3 + (tn g)))), (0, .ref 1), (1, .int (nI (tn n))), (2, .int (nI (tn s))), (3, .int (nI (tn g)))]) [0, 1, 2, 3, 4, 5] rfl (mx_eqG (by first | rw [C_e3, if_pos h91] | rw [C_e3, if_neg h91]) rfl rfl J3)
            · skip
              refine x_iinc (q := 97) (y := (C_e2 (tn s * 3 + tn g) (tn n) mi (C_e1 (tn s * 3 + tn g) (tn n) mi (C_e0 (tn s * 3 + tn g) (tn n) mi))) + (4)) (L1 := [(5, .int ((C_e2 (tn s * 3 + tn g) (tn n) mi (C_e1 (tn s * 3 + tn g) (tn n) mi (C_e0 (tn s * 3 + tn g) (tn n) mi))) + (4))), (4, .int (nI ((tn s) * 3 + (tn g)))), (0, .ref 1), (1, .int (nI (tn n))), (2, .int (nI (tn s))), (3, .int (nI (tn g)))]) hC d_MT_entry_94 rfl (by rfl) (by decide) rfl rfl ?_
              exact x_sub (L1 := [(5, .int ((C_e2 (tn s * 3 + tn g) (tn n) mi (C_e1 (tn s * 3 + tn g) (tn n) mi (C_e0 (tn s * 3 + tn g) (tn n) mi))) + (4))), (4, .int (nI ((tn s) * 3 + (tn g)))), (0, .ref 1), (1, .int (nI (tn n))), (2, .int (nI (tn s))), (3, .int (nI (tn g)))]) [0, 1, 2, 3, 4, 5] rfl (mx_eqG (by first | rw [C_e3, if_pos h91] | rw [C_e3, if_neg h91]) rfl rfl J3)
          refine x_aload_n (q := 65) hC d_MT_entry_64 rfl rfl rfl ?_
          refine x_getr (q := 68) (p := 1) (j := 4) (r := 57) hC f_MT_46 rfl rfl rfl (by omega) (hu1 _) d_MT_entry_65 rfl ?_
          refine x_iload (q := 70) hC d_MT_entry_68 rfl rfl ?_
          refine x_iload_n (q := 71) hC d_MT_entry_70 rfl rfl rfl ?_
          refine x_callV (q := 74) (p := 57) (A := [.int (nI ((tn s) * 3 + (tn g))), .int (nI (tn n))]) (S := []) (c1 := 0) (s1 := 0) hC (c_Sm_isSwitched (s := (tn s) * 3 + (tn g)) (n := tn n) (by omega) hu (by omega) (by omega) ) s_MT_entry_169 rfl (by omega) rfl rfl rfl (Nat.le_of_ble_eq_true rfl) rfl rfl (by decide) (by decide) d_MT_entry_71 rfl (fun r τ hP => ?_)
          obtain ⟨rfl, rfl⟩ := hP
          show mx_G Γ κ _ _ 74 [(5, .int (C_e1 (tn s * 3 + tn g) (tn n) mi (C_e0 (tn s * 3 + tn g) (tn n) mi))), (4, .int (nI ((tn s) * 3 + (tn g)))), (0, .ref 1), (1, .int (nI (tn n))), (2, .int (nI (tn s))), (3, .int (nI (tn g)))] [.int (bz (hold (mi 77 ((tn s) * 3 + (tn g))) (tn n)))] (nx, u, mi) 0 0
          refine x_if_eq (tgt := 80) (q := 77) hC d_MT_entry_74 (by decide) rfl (fun h74 => ?_) (fun h74 => ?_)
          · have h74 := bz_0 h74
            exact x_sub (L1 := [(5, .int (C_e1 (tn s * 3 + tn g) (tn n) mi (C_e0 (tn s * 3 + tn g) (tn n) mi))), (4, .int (nI ((tn s) * 3 + (tn g)))), (0, .ref 1), (1, .int (nI (tn n))), (2, .int (nI (tn s))), (3, .int (nI (tn g)))]) [0, 1, 2, 3, 4, 5] rfl (mx_eqG (by first | rw [C_e2, if_pos h74] | rw [C_e2, if_neg h74]) rfl rfl J2)
          · have h74 := bz_1 h74
            refine x_iinc (q := 80) (y := (C_e1 (tn s * 3 + tn g) (tn n) mi (C_e0 (tn s * 3 + tn g) (tn n) mi)) + (2)) (L1 := [(5, .int ((C_e1 (tn s * 3 + tn g) (tn n) mi (C_e0 (tn s * 3 + tn g) (tn n) mi)) + (2))), (4, .int (nI ((tn s) * 3 + (tn g)))), (0, .ref 1), (1, .int (nI (tn n))), (2, .int (nI (tn s))), (3, .int (nI (tn g)))]) hC d_MT_entry_77 rfl (by rfl) (by decide) rfl rfl ?_
            exact x_sub (L1 := [(5, .int ((C_e1 (tn s * 3 + tn g) (tn n) mi (C_e0 (tn s * 3 + tn g) (tn n) mi)) + (2))), (4, .int (nI ((tn s) * 3 + (tn g)))), (0, .ref 1), (1, .int (nI (tn n))), (2, .int (nI (tn s))), (3, .int (nI (tn g)))]) [0, 1, 2, 3, 4, 5] rfl (mx_eqG (by first | rw [C_e2, if_pos h74] | rw [C_e2, if_neg h74]) rfl rfl J2)
        refine x_aload_n (q := 49) hC d_MT_entry_48 rfl rfl rfl ?_
        refine x_getr (q := 52) (p := 1) (j := 4) (r := 57) hC f_MT_46 rfl rfl rfl (by omega) (hu1 _) d_MT_entry_49 rfl ?_
        refine x_iload (q := 54) hC d_MT_entry_52 rfl rfl ?_
        refine x_iload_n (q := 55) hC d_MT_entry_54 rfl rfl rfl ?_
        refine x_callV (q := 58) (p := 57) (A := [.int (nI ((tn s) * 3 + (tn g))), .int (nI (tn n))]) (S := []) (c1 := 0) (s1 := 0) hC (c_Sm_isAlive (s := (tn s) * 3 + (tn g)) (n := tn n) (by omega) hu (by omega) (by omega) ) s_MT_entry_166 rfl (by omega) rfl rfl rfl (Nat.le_of_ble_eq_true rfl) rfl rfl (by decide) (by decide) d_MT_entry_55 rfl (fun r τ hP => ?_)
        obtain ⟨rfl, rfl⟩ := hP
        show mx_G Γ κ _ _ 58 [(5, .int ((nI 16) * (bc (mi (146 + ((tn s) * 3 + (tn g))) (tn n))))), (4, .int (nI ((tn s) * 3 + (tn g)))), (0, .ref 1), (1, .int (nI (tn n))), (2, .int (nI (tn s))), (3, .int (nI (tn g)))] [.int (bz (mi 2 0 < mi (59 + ((tn s) * 3 + (tn g))) (tn n)))] (nx, u, mi) 0 0
        refine x_if_eq (tgt := 64) (q := 61) hC d_MT_entry_58 (by decide) rfl (fun h58 => ?_) (fun h58 => ?_)
        · have h58 := bz_0 h58
          exact x_sub (L1 := [(5, .int ((nI 16) * (bc (mi (146 + ((tn s) * 3 + (tn g))) (tn n))))), (4, .int (nI ((tn s) * 3 + (tn g)))), (0, .ref 1), (1, .int (nI (tn n))), (2, .int (nI (tn s))), (3, .int (nI (tn g)))]) [0, 1, 2, 3, 4, 5] rfl (mx_eqG (by first | (rw [C_e1, if_pos h58] <;> rfl) | (rw [C_e1, if_neg h58] <;> rfl)) rfl rfl J1)
        · have h58 := bz_1 h58
          refine x_iinc (q := 64) (y := ((nI 16) * (bc (mi (146 + ((tn s) * 3 + (tn g))) (tn n)))) + 1) (L1 := [(5, .int (((nI 16) * (bc (mi (146 + ((tn s) * 3 + (tn g))) (tn n)))) + 1)), (4, .int (nI ((tn s) * 3 + (tn g)))), (0, .ref 1), (1, .int (nI (tn n))), (2, .int (nI (tn s))), (3, .int (nI (tn g)))]) hC d_MT_entry_61 rfl (by rfl) (by decide) rfl rfl ?_
          exact x_sub (L1 := [(5, .int (((nI 16) * (bc (mi (146 + ((tn s) * 3 + (tn g))) (tn n)))) + 1)), (4, .int (nI ((tn s) * 3 + (tn g)))), (0, .ref 1), (1, .int (nI (tn n))), (2, .int (nI (tn s))), (3, .int (nI (tn g)))]) [0, 1, 2, 3, 4, 5] rfl (mx_eqG (by first | (rw [C_e1, if_pos h58] <;> rfl) | (rw [C_e1, if_neg h58] <;> rfl)) rfl rfl J1)
      · have h18 := bz_0 h18
        refine x_iconst (q := 22) (v := (-1)) hC d_MT_entry_21 (by decide) rfl ?_
        exact x_iret hC rfl rfl ⟨sv (it_f (fun q => h18 q.2.2) rfl), rfl⟩ (by decide) (by decide) d_MT_entry_22
set_option maxRecDepth 100000 in
set_option maxHeartbeats 400000 in
theorem c_MT_publish {Γ : mx_X} {lau : Launch} {nx : Nat} {u : Nat → Nat → Bool} {mi : mx_Mm} {s g b : Int32} (hnx : 185 ≤ nx) (hu : ∀ p k, 2 ≤ p → u p k = true) (hu1 : ∀ k, u 1 k = true) (hfl : Fl_ok mi) : mx_C Γ lau M_MT_publish [.ref 1, .int s, .int g, .int b] (nx, u, mi) (fun ρ τ => ρ = some (.int (C_pubv s g b mi)) ∧ τ = (nx, u, C_pub s g b mi)) := by
  refine mx_C.intro (by decide) rfl (Nat.le_of_ble_eq_true rfl) (fun κ _ hC => ?_)
  show mx_G Γ κ _ _ 0 [(0, .ref 1), (1, .int s), (2, .int g), (3, .int b)] [] (nx, u, mi) 0 0
  refine x_iload_n (q := 1) hC d_MT_publish_0 rfl rfl rfl ?_
  refine x_callS (q := 4) (A := [.int s]) (S := []) (c1 := 0) (s1 := 0) hC (c_MT_isRouter) s_MT_publish_9 rfl rfl rfl (Nat.le_of_ble_eq_true rfl) rfl rfl (by decide) (by decide) d_MT_publish_1 rfl (fun r τ hP => ?_)
  obtain ⟨rfl, rfl⟩ := hP
  show mx_G Γ κ _ _ 4 [(0, .ref 1), (1, .int s), (2, .int g), (3, .int b)] [.int (bz (0 ≤ s ∧ s < nI 6))] (nx, u, mi) 0 0
  refine x_if_eq (tgt := 25) (q := 7) hC d_MT_publish_4 (by decide) rfl (fun h4 => ?_) (fun h4 => ?_)
  · have h4 := bz_0 h4
    refine x_iconst (q := 26) (v := (-1)) hC d_MT_publish_25 (by decide) rfl ?_
    exact x_iret hC rfl rfl ⟨sv (it_f (fun q => h4 q.1) rfl), pr (it_f (fun q => h4 q.1) rfl)⟩ (by decide) (by decide) d_MT_publish_26
  · have h4 := bz_1 h4
    obtain ⟨es, hs⟩ := in_tn h4 (by decide)
    refine mx_eqG (L1 := [(0, .ref 1), (1, .int (nI (tn s))), (2, .int g), (3, .int b)]) (by rw [← es]) rfl rfl ?_
    refine x_iload_n (q := 8) hC d_MT_publish_7 rfl rfl rfl ?_
    refine x_callS (q := 11) (A := [.int g]) (S := []) (c1 := 0) (s1 := 0) hC (c_MT_isGroup) s_MT_publish_101 rfl rfl rfl (Nat.le_of_ble_eq_true rfl) rfl rfl (by decide) (by decide) d_MT_publish_8 rfl (fun r τ hP => ?_)
    obtain ⟨rfl, rfl⟩ := hP
    show mx_G Γ κ _ _ 11 [(0, .ref 1), (1, .int (nI (tn s))), (2, .int g), (3, .int b)] [.int (bz (0 ≤ g ∧ g < nI 3))] (nx, u, mi) 0 0
    refine x_if_eq (tgt := 25) (q := 14) hC d_MT_publish_11 (by decide) rfl (fun h11 => ?_) (fun h11 => ?_)
    · have h11 := bz_0 h11
      refine x_iconst (q := 26) (v := (-1)) hC d_MT_publish_25 (by decide) rfl ?_
      exact x_iret hC rfl rfl ⟨sv (it_f (fun q => h11 q.2.1) rfl), pr (it_f (fun q => h11 q.2.1) rfl)⟩ (by decide) (by decide) d_MT_publish_26
    · have h11 := bz_1 h11
      obtain ⟨eg, hg⟩ := in_tn h11 (by decide)
      refine mx_eqG (L1 := [(0, .ref 1), (1, .int (nI (tn s))), (2, .int (nI (tn g))), (3, .int b)]) (by rw [← eg]) rfl rfl ?_
      refine x_iload_n (q := 15) hC d_MT_publish_14 rfl rfl rfl ?_
      refine x_iconst (q := 16) (v := nI 1) hC d_MT_publish_15 (by decide) rfl ?_
      refine x_icmp_lt (tgt := 25) (q := 19) hC d_MT_publish_16 (by decide) rfl (fun h16 => ?_) (fun h16 => ?_)
      · skip
        refine x_iconst (q := 26) (v := (-1)) hC d_MT_publish_25 (by decide) rfl ?_
        exact x_iret hC rfl rfl ⟨sv (it_f (fun q => Int32.not_lt.mpr q.2.2.1 h16) rfl), pr (it_f (fun q => Int32.not_lt.mpr q.2.2.1 h16) rfl)⟩ (by decide) (by decide) d_MT_publish_26
      · skip
        refine x_iload_n (q := 20) hC d_MT_publish_19 rfl rfl rfl ?_
        refine x_bipush (q := 22) (v := nI 16) hC d_MT_publish_20 (by decide) rfl ?_
        refine x_icmp_le (tgt := 27) (q := 25) hC d_MT_publish_22 (by decide) rfl (fun h22 => ?_) (fun h22 => ?_)
        · skip
          refine x_aload_n (q := 28) hC d_MT_publish_27 rfl rfl rfl ?_
          refine x_getr (q := 31) (p := 1) (j := 7) (r := 168) hC f_MT_73 rfl rfl rfl (by omega) (hu1 _) d_MT_publish_28 rfl ?_
          refine x_callV (q := 34) (p := 168) (A := []) (S := []) (c1 := 0) (s1 := 0) hC (c_Fi_isFull  (by omega) hu  ) s_MT_publish_184 rfl (by omega) rfl rfl rfl (Nat.le_of_ble_eq_true rfl) rfl rfl (by decide) (by decide) d_MT_publish_31 rfl (fun r τ hP => ?_)
          obtain ⟨rfl, rfl⟩ := hP
          show mx_G Γ κ _ _ 34 [(0, .ref 1), (1, .int (nI (tn s))), (2, .int (nI (tn g))), (3, .int b)] [.int (bz (¬ mi 168 11 < nI 4))] (nx, u, mi) 0 0
          refine x_if_eq (tgt := 39) (q := 37) hC d_MT_publish_34 (by decide) rfl (fun h34 => ?_) (fun h34 => ?_)
          · have h34 := bz_0 h34
            obtain ⟨⟨c, hc5, hc⟩, -⟩ := hfl
            have h34' : mi 168 11 < nI 4 := Decidable.not_not.mp h34
            have hc4 : c < 4 := by rw [hc] at h34'; exact (nI_ltI (by omega) (by decide)).mp h34'
            have ec : tn (mi 168 11) = c := by rw [hc]; exact tn_nI (by omega)
            refine x_aload_n (q := 40) hC d_MT_publish_39 rfl rfl rfl ?_
            refine x_getr (q := 43) (p := 1) (j := 7) (r := 168) hC f_MT_73 rfl rfl rfl (by omega) (hu1 _) d_MT_publish_40 rfl ?_
            refine x_iload_n (q := 44) hC d_MT_publish_43 rfl rfl rfl ?_
            refine x_iload_n (q := 45) hC d_MT_publish_44 rfl rfl rfl ?_
            refine x_iload_n (q := 46) hC d_MT_publish_45 rfl rfl rfl ?_
            refine x_callV (q := 49) (p := 168) (A := [.int (nI (tn s)), .int (nI (tn g)), .int b]) (S := []) (c1 := 0) (s1 := 0) hC (c_Fi_create (c := c) (s := tn s) (g := tn g) (b := b) (by omega) hu hc hc4) s_MT_publish_187 rfl (by omega) rfl rfl rfl (Nat.le_of_ble_eq_true rfl) rfl rfl (by decide) (by decide) d_MT_publish_46 rfl (fun r τ hP => ?_)
            obtain ⟨rfl, rfl⟩ := hP
            show mx_G Γ κ _ _ 49 [(0, .ref 1), (1, .int (nI (tn s))), (2, .int (nI (tn g))), (3, .int b)] [.int ((Fi_c4 c (tn s) (tn g) b mi) 168 11 - nI 1)] (nx, u, Fi_c4 c (tn s) (tn g) b mi) 0 0
            exact x_iret hC rfl rfl ⟨sv (it_t (And.intro h4 (And.intro h11 (And.intro (Int32.not_lt.mp h16) (And.intro h22 h34')))) (by rw [ec])), pr (it_t (And.intro h4 (And.intro h11 (And.intro (Int32.not_lt.mp h16) (And.intro h22 h34')))) (by rw [ec]))⟩ (by decide) (by decide) d_MT_publish_49
          · have h34 := bz_1 h34
            refine x_iconst (q := 38) (v := (-1)) hC d_MT_publish_37 (by decide) rfl ?_
            exact x_iret hC rfl rfl ⟨sv (it_f (fun q => h34 q.2.2.2.2) rfl), pr (it_f (fun q => h34 q.2.2.2.2) rfl)⟩ (by decide) (by decide) d_MT_publish_38
        · skip
          refine x_iconst (q := 26) (v := (-1)) hC d_MT_publish_25 (by decide) rfl ?_
          exact x_iret hC rfl rfl ⟨sv (it_f (fun q => h22 q.2.2.2.1) rfl), pr (it_f (fun q => h22 q.2.2.2.1) rfl)⟩ (by decide) (by decide) d_MT_publish_26
set_option maxRecDepth 100000 in
set_option maxHeartbeats 400000 in
theorem c_MT_requests {Γ : mx_X} {lau : Launch} {nx : Nat} {u : Nat → Nat → Bool} {mi : mx_Mm} {x : Int32} (hnx : 185 ≤ nx) (hu : ∀ p k, 2 ≤ p → u p k = true) (hu1 : ∀ k, u 1 k = true) (hfl : Fl_ok mi) : mx_C Γ lau M_MT_requests [.ref 1, .int x] (nx, u, mi) (fun ρ τ => ρ = some (.int (C_reqv x mi)) ∧ τ = (nx, u, C_req x mi)) := by
  refine mx_C.intro (by decide) rfl (Nat.le_of_ble_eq_true rfl) (fun κ _ hC => ?_)
  show mx_G Γ κ _ _ 0 [(0, .ref 1), (1, .int x)] [] (nx, u, mi) 0 0
  refine x_aload_n (q := 1) hC d_MT_requests_0 rfl rfl rfl ?_
  refine x_getr (q := 4) (p := 1) (j := 7) (r := 168) hC f_MT_73 rfl rfl rfl (by omega) (hu1 _) d_MT_requests_1 rfl ?_
  refine x_iload_n (q := 5) hC d_MT_requests_4 rfl rfl rfl ?_
  refine x_callV (q := 8) (p := 168) (A := [.int x]) (S := []) (c1 := 0) (s1 := 0) hC (c_Fi_exists (x := x) (by omega) hu  ) s_MT_requests_191 rfl (by omega) rfl rfl rfl (Nat.le_of_ble_eq_true rfl) rfl rfl (by decide) (by decide) d_MT_requests_5 rfl (fun r τ hP => ?_)
  obtain ⟨rfl, rfl⟩ := hP
  show mx_G Γ κ _ _ 8 [(0, .ref 1), (1, .int x)] [.int (bz (0 ≤ x ∧ x < mi 168 11))] (nx, u, mi) 0 0
  refine x_if_ne (tgt := 13) (q := 11) hC d_MT_requests_8 (by decide) rfl (fun h8 => ?_) (fun h8 => ?_)
  · have h8 := bz_1 h8
    obtain ⟨ex, hx⟩ := hfl.f h8
    refine mx_eqG (L1 := [(0, .ref 1), (1, .int (nI (tn x)))]) (by rw [← ex]) rfl rfl ?_
    obtain ⟨e1, hs⟩ := hfl.s hx
    obtain ⟨e2, hg⟩ := hfl.g hx
    generalize hes : tn (mi 169 (tn x)) = s at e1 hs
    generalize heg : tn (mi 170 (tn x)) = g at e2 hg
    refine x_aload_n (q := 14) hC d_MT_requests_13 rfl rfl rfl ?_
    refine x_getr (q := 17) (p := 1) (j := 7) (r := 168) hC f_MT_73 rfl rfl rfl (by omega) (hu1 _) d_MT_requests_14 rfl ?_
    refine x_iload_n (q := 18) hC d_MT_requests_17 rfl rfl rfl ?_
    refine x_callV (q := 21) (p := 168) (A := [.int (nI (tn x))]) (S := []) (c1 := 0) (s1 := 0) hC (c_Fi_askAgain (f := tn x) (s := s) (g := g) (by omega) hu (by omega) hs hg ⟨e1, e2⟩) s_MT_requests_209 rfl (by omega) rfl rfl rfl (Nat.le_of_ble_eq_true rfl) rfl rfl (by decide) (by decide) d_MT_requests_18 rfl (fun r τ hP => ?_)
    obtain ⟨rfl, rfl⟩ := hP
    show mx_G Γ κ _ _ 21 [(0, .ref 1), (1, .int (nI (tn x)))] [.int ((Fi_asks (tn x) s g mi).2.1)] (nx, u, Fi_end (tn x) (Fi_asks (tn x) s g mi)) 0 0
    exact x_iret hC rfl rfl ⟨sv (it_t h8 (by rw [hes, heg])), pr (it_t h8 (by rw [hes, heg]))⟩ (by decide) (by decide) d_MT_requests_21
  · have h8 := bz_0 h8
    refine x_iconst (q := 12) (v := (-1)) hC d_MT_requests_11 (by decide) rfl ?_
    exact x_iret hC rfl rfl ⟨sv (it_f h8 rfl), pr (it_f h8 rfl)⟩ (by decide) (by decide) d_MT_requests_12
set_option maxRecDepth 100000 in
set_option maxHeartbeats 400000 in
theorem c_MT_have {Γ : mx_X} {lau : Launch} {nx : Nat} {u : Nat → Nat → Bool} {mi : mx_Mm} {x l : Int32} (hnx : 185 ≤ nx) (hu : ∀ p k, 2 ≤ p → u p k = true) (hu1 : ∀ k, u 1 k = true) (hfl : Fl_ok mi) : mx_C Γ lau M_MT_have [.ref 1, .int x, .int l] (nx, u, mi) (fun ρ τ => ρ = some (.int (C_have x l mi)) ∧ τ = (nx, u, mi)) := by
  refine mx_C.intro (by decide) rfl (Nat.le_of_ble_eq_true rfl) (fun κ _ hC => ?_)
  show mx_G Γ κ _ _ 0 [(0, .ref 1), (1, .int x), (2, .int l)] [] (nx, u, mi) 0 0
  refine x_aload_n (q := 1) hC d_MT_have_0 rfl rfl rfl ?_
  refine x_getr (q := 4) (p := 1) (j := 7) (r := 168) hC f_MT_73 rfl rfl rfl (by omega) (hu1 _) d_MT_have_1 rfl ?_
  refine x_iload_n (q := 5) hC d_MT_have_4 rfl rfl rfl ?_
  refine x_callV (q := 8) (p := 168) (A := [.int x]) (S := []) (c1 := 0) (s1 := 0) hC (c_Fi_exists (x := x) (by omega) hu  ) s_MT_have_191 rfl (by omega) rfl rfl rfl (Nat.le_of_ble_eq_true rfl) rfl rfl (by decide) (by decide) d_MT_have_5 rfl (fun r τ hP => ?_)
  obtain ⟨rfl, rfl⟩ := hP
  show mx_G Γ κ _ _ 8 [(0, .ref 1), (1, .int x), (2, .int l)] [.int (bz (0 ≤ x ∧ x < mi 168 11))] (nx, u, mi) 0 0
  refine x_if_eq (tgt := 18) (q := 11) hC d_MT_have_8 (by decide) rfl (fun h8 => ?_) (fun h8 => ?_)
  · have h8 := bz_0 h8
    refine x_iconst (q := 19) (v := (-1)) hC d_MT_have_18 (by decide) rfl ?_
    exact x_iret hC rfl rfl ⟨sv (it_f (fun q => h8 q.1) rfl), rfl⟩ (by decide) (by decide) d_MT_have_19
  · have h8 := bz_1 h8
    obtain ⟨ex, hx⟩ := hfl.f h8
    refine mx_eqG (L1 := [(0, .ref 1), (1, .int (nI (tn x))), (2, .int l)]) (by rw [← ex]) rfl rfl ?_
    refine x_iload_n (q := 12) hC d_MT_have_11 rfl rfl rfl ?_
    refine x_callS (q := 15) (A := [.int l]) (S := []) (c1 := 0) (s1 := 0) hC (c_MT_isRouter) s_MT_have_9 rfl rfl rfl (Nat.le_of_ble_eq_true rfl) rfl rfl (by decide) (by decide) d_MT_have_12 rfl (fun r τ hP => ?_)
    obtain ⟨rfl, rfl⟩ := hP
    show mx_G Γ κ _ _ 15 [(0, .ref 1), (1, .int (nI (tn x))), (2, .int l)] [.int (bz (0 ≤ l ∧ l < nI 6))] (nx, u, mi) 0 0
    refine x_if_ne (tgt := 20) (q := 18) hC d_MT_have_15 (by decide) rfl (fun h15 => ?_) (fun h15 => ?_)
    · have h15 := bz_1 h15
      obtain ⟨el, hl⟩ := in_tn h15 (by decide)
      refine mx_eqG (L1 := [(0, .ref 1), (1, .int (nI (tn x))), (2, .int (nI (tn l)))]) (by rw [← el]) rfl rfl ?_
      refine x_aload_n (q := 21) hC d_MT_have_20 rfl rfl rfl ?_
      refine x_getr (q := 24) (p := 1) (j := 7) (r := 168) hC f_MT_73 rfl rfl rfl (by omega) (hu1 _) d_MT_have_21 rfl ?_
      refine x_iload_n (q := 25) hC d_MT_have_24 rfl rfl rfl ?_
      refine x_iload_n (q := 26) hC d_MT_have_25 rfl rfl rfl ?_
      refine x_callV (q := 29) (p := 168) (A := [.int (nI (tn x)), .int (nI (tn l))]) (S := []) (c1 := 0) (s1 := 0) hC (c_Fi_blocksAt (f := tn x) (l := tn l) (by omega) hu (by omega) (by omega) ) s_MT_have_212 rfl (by omega) rfl rfl rfl (Nat.le_of_ble_eq_true rfl) rfl rfl (by decide) (by decide) d_MT_have_26 rfl (fun r τ hP => ?_)
      obtain ⟨rfl, rfl⟩ := hP
      show mx_G Γ κ _ _ 29 [(0, .ref 1), (1, .int (nI (tn x))), (2, .int (nI (tn l)))] [.int (mi (175 + (tn x)) (tn l))] (nx, u, mi) 0 0
      exact x_iret hC rfl rfl ⟨sv (it_t (And.intro h8 h15) rfl), rfl⟩ (by decide) (by decide) d_MT_have_29
    · have h15 := bz_0 h15
      refine x_iconst (q := 19) (v := (-1)) hC d_MT_have_18 (by decide) rfl ?_
      exact x_iret hC rfl rfl ⟨sv (it_f (fun q => h15 q.2) rfl), rfl⟩ (by decide) (by decide) d_MT_have_19
theorem Fi_tm_ok {f n s g : Nat} {m : mx_Mm} (h : Fi_ok f s g m) : Fi_ok f s g (Fi_tm f n m) := by
  unfold Fi_tm Fi_n1
  split
  · exact h.upP (by decide)
  · split
    · exact h
    · exact h.upP (by decide)
set_option maxRecDepth 100000 in
set_option maxHeartbeats 400000 in
theorem c_MT_emit {Γ : mx_X} {lau : Launch} {nx : Nat} {u : Nat → Nat → Bool} {mi : mx_Mm} {r : Nat} {x : Int32} (hnx : 185 ≤ nx) (hu : ∀ p k, 2 ≤ p → u p k = true) (hu1 : ∀ k, u 1 k = true) (hr : r < 6) (hok : Tr_ok r mi) (hpa : Pa_ok r mi) (hfl : Fl_ok mi) : mx_C Γ lau M_MT_emit [.ref 1, .int x] (nx, u, mi) (fun ρ τ => ρ = some (.int (C_emitv r x mi)) ∧ τ = (nx, u, C_emit r x mi)) := by
  refine mx_C.intro (by decide) rfl (Nat.le_of_ble_eq_true rfl) (fun κ _ hC => ?_)
  show mx_G Γ κ _ _ 0 [(0, .ref 1), (1, .int x)] [] (nx, u, mi) 0 0
  refine x_aload_n (q := 1) hC d_MT_emit_0 rfl rfl rfl ?_
  refine x_getr (q := 4) (p := 1) (j := 7) (r := 168) hC f_MT_73 rfl rfl rfl (by omega) (hu1 _) d_MT_emit_1 rfl ?_
  refine x_iload_n (q := 5) hC d_MT_emit_4 rfl rfl rfl ?_
  refine x_callV (q := 8) (p := 168) (A := [.int x]) (S := []) (c1 := 0) (s1 := 0) hC (c_Fi_exists (x := x) (by omega) hu  ) s_MT_emit_191 rfl (by omega) rfl rfl rfl (Nat.le_of_ble_eq_true rfl) rfl rfl (by decide) (by decide) d_MT_emit_5 rfl (fun r τ hP => ?_)
  obtain ⟨rfl, rfl⟩ := hP
  show mx_G Γ κ _ _ 8 [(0, .ref 1), (1, .int x)] [.int (bz (0 ≤ x ∧ x < mi 168 11))] (nx, u, mi) 0 0
  refine x_if_ne (tgt := 13) (q := 11) hC d_MT_emit_8 (by decide) rfl (fun h8 => ?_) (fun h8 => ?_)
  · have h8 := bz_1 h8
    obtain ⟨ex, hx⟩ := hfl.f h8
    refine mx_eqG (L1 := [(0, .ref 1), (1, .int (nI (tn x)))]) (by rw [← ex]) rfl rfl ?_
    refine x_aload_n (q := 14) hC d_MT_emit_13 rfl rfl rfl ?_
    refine x_aload_n (q := 15) hC d_MT_emit_14 rfl rfl rfl ?_
    refine x_getr (q := 18) (p := 1) (j := 7) (r := 168) hC f_MT_73 rfl rfl rfl (by omega) (hu1 _) d_MT_emit_15 rfl ?_
    refine x_iload_n (q := 19) hC d_MT_emit_18 rfl rfl rfl ?_
    refine x_callV (q := 22) (p := 168) (A := [.int (nI (tn x))]) (S := [.ref 1]) (c1 := 0) (s1 := 0) hC (c_Fi_sourceOf (f := tn x) (by omega) hu (by omega) ) s_MT_emit_194 rfl (by omega) rfl rfl rfl (Nat.le_of_ble_eq_true rfl) rfl rfl (by decide) (by decide) d_MT_emit_19 rfl (fun r τ hP => ?_)
    obtain ⟨rfl, rfl⟩ := hP
    show mx_G Γ κ _ _ 22 [(0, .ref 1), (1, .int (nI (tn x)))] [.int (mi 169 (tn x)), .ref 1] (nx, u, mi) 0 0
    refine x_aload_n (q := 23) hC d_MT_emit_22 rfl rfl rfl ?_
    refine x_getr (q := 26) (p := 1) (j := 7) (r := 168) hC f_MT_73 rfl rfl rfl (by omega) (hu1 _) d_MT_emit_23 rfl ?_
    refine x_iload_n (q := 27) hC d_MT_emit_26 rfl rfl rfl ?_
    refine x_callV (q := 30) (p := 168) (A := [.int (nI (tn x))]) (S := [.int (mi 169 (tn x)), .ref 1]) (c1 := 0) (s1 := 0) hC (c_Fi_groupOf (f := tn x) (by omega) hu (by omega) ) s_MT_emit_197 rfl (by omega) rfl rfl rfl (Nat.le_of_ble_eq_true rfl) rfl rfl (by decide) (by decide) d_MT_emit_27 rfl (fun r τ hP => ?_)
    obtain ⟨rfl, rfl⟩ := hP
    show mx_G Γ κ _ _ 30 [(0, .ref 1), (1, .int (nI (tn x)))] [.int (mi 170 (tn x)), .int (mi 169 (tn x)), .ref 1] (nx, u, mi) 0 0
    refine x_callV (q := 33) (p := 1) (A := [.int (mi 169 (tn x)), .int (mi 170 (tn x))]) (S := []) (c1 := 0) (s1 := 0) hC (c_MT_send (r := r) (s := mi 169 (tn x)) (g := mi 170 (tn x)) (by omega) hu hu1 hr hok hpa) s_MT_emit_200 rfl (by omega) rfl rfl rfl (Nat.le_of_ble_eq_true rfl) rfl rfl (by decide) (by decide) d_MT_emit_30 rfl (fun r τ hP => ?_)
    obtain ⟨rfl, rfl⟩ := hP
    show mx_G Γ κ _ _ 33 [(0, .ref 1), (1, .int (nI (tn x)))] [.int (C_sendv r (mi 169 (tn x)) (mi 170 (tn x)) mi)] (nx, u, C_send r (mi 169 (tn x)) (mi 170 (tn x)) mi) 0 0
    refine x_iconst (q := 34) (v := (-1)) hC d_MT_emit_33 (by decide) rfl ?_
    refine x_icmp_ne (tgt := 39) (q := 37) hC d_MT_emit_34 (by decide) rfl (fun h34 => ?_) (fun h34 => ?_)
    · skip
      have hP : C_sdP (mi 169 (tn x)) (mi 170 (tn x)) mi := Decidable.not_not.mp (fun z => h34 (C_sendv_m1.mpr z))
      have eC : C_send r (mi 169 (tn x)) (mi 170 (tn x)) mi = C_em r x mi := if_pos hP
      refine mx_eqG rfl rfl (pr eC) ?_
      have hft : ∀ p j, 168 ≤ p → (C_em r x mi) p j = mi p j := fun p j hp => ft_sd r _ _ (hfl.s hx).2 (hfl.g hx).2 mi p j (by show ¬ p < 168; omega)
      refine mx_nr (fun mE eE => ?_)
      rw [eE] at hft
      obtain ⟨e1, hs⟩ := hfl.s hx
      obtain ⟨e2, hg⟩ := hfl.g hx
      obtain ⟨e3, hn16⟩ := hfl.n hx
      generalize hes : tn (mi 169 (tn x)) = s at e1 hs
      generalize heg : tn (mi 170 (tn x)) = g at e2 hg
      generalize hen : tn (mi 171 (tn x)) = n at e3 hn16
      have hokE : Fi_ok (tn x) s g mE := ⟨(hft _ _ (by decide)).trans e1, (hft _ _ (by decide)).trans e2⟩
      have hnE : mE 171 (tn x) = nI n := (hft _ _ (by decide)).trans e3
      have hokT : Fi_ok (tn x) s g (Fi_tm (tn x) n mE) := Fi_tm_ok hokE
      refine x_aload_n (q := 40) hC d_MT_emit_39 rfl rfl rfl ?_
      refine x_getr (q := 43) (p := 1) (j := 7) (r := 168) hC f_MT_73 rfl rfl rfl (by omega) (hu1 _) d_MT_emit_40 rfl ?_
      refine x_iload_n (q := 44) hC d_MT_emit_43 rfl rfl rfl ?_
      refine x_callV (q := 47) (p := 168) (A := [.int (nI (tn x))]) (S := []) (c1 := 0) (s1 := 0) hC (c_Fi_takeTurn (f := tn x) (n := n) (by omega) hu (by omega) hnE hn16) s_MT_emit_203 rfl (by omega) rfl rfl rfl (Nat.le_of_ble_eq_true rfl) rfl rfl (by decide) (by decide) d_MT_emit_44 rfl (fun r τ hP => ?_)
      obtain ⟨rfl, rfl⟩ := hP
      show mx_G Γ κ _ _ 47 [(0, .ref 1), (1, .int (nI (tn x)))] [.int (Fi_tv (tn x) n mE)] (nx, u, Fi_tm (tn x) n mE) 0 0
      refine x_istore_n (q := 48) (L1 := [(2, .int (Fi_tv (tn x) n mE)), (0, .ref 1), (1, .int (nI (tn x)))]) hC d_MT_emit_47 rfl (by decide) rfl rfl ?_
      refine x_aload_n (q := 49) hC d_MT_emit_48 rfl rfl rfl ?_
      refine x_getr (q := 52) (p := 1) (j := 7) (r := 168) hC f_MT_73 rfl rfl rfl (by omega) (hu1 _) d_MT_emit_49 rfl ?_
      refine x_iload_n (q := 53) hC d_MT_emit_52 rfl rfl rfl ?_
      refine x_iload_n (q := 54) hC d_MT_emit_53 rfl rfl rfl ?_
      refine x_aload_n (q := 55) hC d_MT_emit_54 rfl rfl rfl ?_
      refine x_getr (q := 58) (p := 1) (j := 6) (r := 165) hC f_MT_64 rfl rfl rfl (by omega) (hu1 _) d_MT_emit_55 rfl ?_
      refine x_callV (q := 61) (p := 165) (A := []) (S := [.int (Fi_tv (tn x) n mE), .int (nI (tn x)), .ref 168]) (c1 := 0) (s1 := 0) hC (c_Pa_heardBy  (by omega) hu  ) s_MT_emit_141 rfl (by omega) rfl rfl rfl (Nat.le_of_ble_eq_true rfl) rfl rfl (by decide) (by decide) d_MT_emit_58 rfl (fun r τ hP => ?_)
      obtain ⟨rfl, rfl⟩ := hP
      show mx_G Γ κ _ _ 61 [(2, .int (Fi_tv (tn x) n mE)), (0, .ref 1), (1, .int (nI (tn x)))] [.int ((Fi_tm (tn x) n mE) 165 11), .int (Fi_tv (tn x) n mE), .int (nI (tn x)), .ref 168] (nx, u, Fi_tm (tn x) n mE) 0 0
      refine x_callV (q := 64) (p := 168) (A := [.int (nI (tn x)), .int (Fi_tv (tn x) n mE), .int ((Fi_tm (tn x) n mE) 165 11)]) (S := []) (c1 := 0) (s1 := 0) hC (c_Fi_deliver (f := tn x) (s := s) (g := g) (x := Fi_tv (tn x) n mE) (y := (Fi_tm (tn x) n mE) 165 11) (by omega) hu (by omega) hg hokT) s_MT_emit_206 rfl (by omega) rfl rfl rfl (Nat.le_of_ble_eq_true rfl) rfl rfl (by decide) (by decide) d_MT_emit_61 rfl (fun r τ hP => ?_)
      obtain ⟨rfl, rfl⟩ := hP
      show mx_G Γ κ _ _ 64 [(2, .int (Fi_tv (tn x) n mE)), (0, .ref 1), (1, .int (nI (tn x)))] [] (nx, u, mx_lp 6 (Fi_d1 (tn x) g (Fi_tv (tn x) n mE) ((Fi_tm (tn x) n mE) 165 11)) (Fi_tm (tn x) n mE)) 0 0
      refine mx_nr (fun m1 e2 => ?_)
      refine x_iload_n (q := 65) hC d_MT_emit_64 rfl rfl rfl ?_
      subst e2
      subst eE
      exact x_iret hC rfl rfl ⟨sv (it_t (And.intro h8 hP) (by rw [hen])), pr (it_t (And.intro h8 hP) (by rw [hen, heg]; rfl))⟩ (by decide) (by decide) d_MT_emit_65
    · skip
      refine x_iconst (q := 38) (v := (-1)) hC d_MT_emit_37 (by decide) rfl ?_
      exact x_iret hC rfl rfl ⟨sv (it_f (fun q => C_sendv_m1.mp h34 q.2) rfl), pr (it_f (fun q => C_sendv_m1.mp h34 q.2) (if_neg (C_sendv_m1.mp h34)))⟩ (by decide) (by decide) d_MT_emit_38
  · have h8 := bz_0 h8
    refine x_iconst (q := 12) (v := (-1)) hC d_MT_emit_11 (by decide) rfl ?_
    exact x_iret hC rfl rfl ⟨sv (it_f (fun q => h8 q.1) rfl), pr (it_f (fun q => h8 q.1) rfl)⟩ (by decide) (by decide) d_MT_emit_12
