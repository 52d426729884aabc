set_option maxRecDepth 100000 in
set_option maxHeartbeats 400000 in
theorem c_Mo_router {Γ : mx_X} {lau : Launch} {nx : Nat} {u : Nat → Nat → Bool} {mi : mx_Mm} {x : Int32}   : mx_C Γ lau M_Mo_router [.int x] (nx, u, mi) (fun ρ τ => ρ = some (.int (bz (rt x))) ∧ τ = (nx, u, mi)) := by
  refine mx_C.intro (by decide) rfl (Nat.le_of_ble_eq_true rfl) (fun κ _ hC => ?_)
  show mx_G Γ κ _ _ 0 [(0, .int x)] [] (nx, u, mi) 0 0
  refine x_iload_n (q := 1) hC d_Mo_router_0 rfl rfl rfl ?_
  refine x_if_lt (tgt := 13) (q := 4) hC d_Mo_router_1 (by decide) rfl (fun h1 => ?_) (fun h1 => ?_)
  · skip
    refine x_iconst (q := 14) (v := nI 0) hC d_Mo_router_13 (by decide) rfl ?_
    exact x_iret hC rfl rfl ⟨bz_f (fun q => Int32.not_lt.mpr q.1 h1), rfl⟩ (by decide) (by decide) d_Mo_router_14
  · skip
    refine x_iload_n (q := 5) hC d_Mo_router_4 rfl rfl rfl ?_
    refine x_iconst (q := 6) (v := nI 5) hC d_Mo_router_5 (by decide) rfl ?_
    refine x_icmp_gt (tgt := 13) (q := 9) hC d_Mo_router_6 (by decide) rfl (fun h6 => ?_) (fun h6 => ?_)
    · skip
      refine x_iconst (q := 14) (v := nI 0) hC d_Mo_router_13 (by decide) rfl ?_
      exact x_iret hC rfl rfl ⟨bz_f (fun q => (Mo_lts (by decide)).mp q.2 h6), rfl⟩ (by decide) (by decide) d_Mo_router_14
    · skip
      refine x_iconst (q := 10) (v := nI 1) hC d_Mo_router_9 (by decide) rfl ?_
      refine x_goto (tgt := 14) hC d_Mo_router_10 (by decide) ?_
      exact x_iret hC rfl rfl ⟨bz_t (And.intro (Int32.not_lt.mp h1) ((Mo_lts (by decide)).mpr h6)), rfl⟩ (by decide) (by decide) d_Mo_router_14
set_option maxRecDepth 100000 in
set_option maxHeartbeats 400000 in
theorem c_Mo_isGroup {Γ : mx_X} {lau : Launch} {nx : Nat} {u : Nat → Nat → Bool} {mi : mx_Mm} {x : Int32}   : mx_C Γ lau M_Mo_isGroup [.int x] (nx, u, mi) (fun ρ τ => ρ = some (.int (bz (gp x))) ∧ τ = (nx, u, mi)) := by
  refine mx_C.intro (by decide) rfl (Nat.le_of_ble_eq_true rfl) (fun κ _ hC => ?_)
  show mx_G Γ κ _ _ 0 [(0, .int x)] [] (nx, u, mi) 0 0
  refine x_iload_n (q := 1) hC d_Mo_isGroup_0 rfl rfl rfl ?_
  refine x_if_lt (tgt := 13) (q := 4) hC d_Mo_isGroup_1 (by decide) rfl (fun h1 => ?_) (fun h1 => ?_)
  · skip
    refine x_iconst (q := 14) (v := nI 0) hC d_Mo_isGroup_13 (by decide) rfl ?_
    exact x_iret hC rfl rfl ⟨bz_f (fun q => Int32.not_lt.mpr q.1 h1), rfl⟩ (by decide) (by decide) d_Mo_isGroup_14
  · skip
    refine x_iload_n (q := 5) hC d_Mo_isGroup_4 rfl rfl rfl ?_
    refine x_iconst (q := 6) (v := nI 2) hC d_Mo_isGroup_5 (by decide) rfl ?_
    refine x_icmp_gt (tgt := 13) (q := 9) hC d_Mo_isGroup_6 (by decide) rfl (fun h6 => ?_) (fun h6 => ?_)
    · skip
      refine x_iconst (q := 14) (v := nI 0) hC d_Mo_isGroup_13 (by decide) rfl ?_
      exact x_iret hC rfl rfl ⟨bz_f (fun q => (Mo_lts (by decide)).mp q.2 h6), rfl⟩ (by decide) (by decide) d_Mo_isGroup_14
    · skip
      refine x_iconst (q := 10) (v := nI 1) hC d_Mo_isGroup_9 (by decide) rfl ?_
      refine x_goto (tgt := 14) hC d_Mo_isGroup_10 (by decide) ?_
      exact x_iret hC rfl rfl ⟨bz_t (And.intro (Int32.not_lt.mp h1) ((Mo_lts (by decide)).mpr h6)), rfl⟩ (by decide) (by decide) d_Mo_isGroup_14
set_option maxRecDepth 100000 in
set_option maxHeartbeats 400000 in
theorem c_Mo_isHost {Γ : mx_X} {lau : Launch} {nx : Nat} {u : Nat → Nat → Bool} {mi : mx_Mm} {l h g : Int32} (hnx : 214 ≤ nx) (hu : ∀ p k, 2 ≤ p → u p k = true)  : mx_C Γ lau M_Mo_isHost [.ref 185, .int l, .int h, .int g] (nx, u, mi) (fun ρ τ => ρ = some (.int (bz (rt l ∧ ht4 h ∧ gp g))) ∧ τ = (nx, u, mi)) := by
  refine mx_C.intro (by decide) rfl (Nat.le_of_ble_eq_true rfl) (fun κ _ hC => ?_)
  show mx_G Γ κ _ _ 0 [(0, .ref 185), (1, .int l), (2, .int h), (3, .int g)] [] (nx, u, mi) 0 0
  refine x_iload_n (q := 1) hC d_Mo_isHost_0 rfl rfl rfl ?_
  refine x_callS (q := 4) (A := [.int l]) (S := []) (c1 := 0) (s1 := 0) hC (c_Mo_router (x := l)) s_Mo_isHost_99 rfl rfl rfl (Nat.le_of_ble_eq_true rfl) rfl rfl (by decide) (by decide) d_Mo_isHost_1 rfl (fun r τ hP => ?_)
  obtain ⟨rfl, rfl⟩ := hP
  show mx_G Γ κ _ _ 4 [(0, .ref 185), (1, .int l), (2, .int h), (3, .int g)] [.int (bz (rt l))] (nx, u, mi) 0 0
  refine x_if_eq (tgt := 27) (q := 7) hC d_Mo_isHost_4 (by decide) rfl (fun h4 => ?_) (fun h4 => ?_)
  · have h4 := bz_0 h4
    refine x_iconst (q := 28) (v := nI 0) hC d_Mo_isHost_27 (by decide) rfl ?_
    exact x_iret hC rfl rfl ⟨bz_f (fun q => h4 q.1), rfl⟩ (by decide) (by decide) d_Mo_isHost_28
  · have h4 := bz_1 h4
    refine x_iload_n (q := 8) hC d_Mo_isHost_7 rfl rfl rfl ?_
    refine x_if_lt (tgt := 27) (q := 11) hC d_Mo_isHost_8 (by decide) rfl (fun h8 => ?_) (fun h8 => ?_)
    · skip
      refine x_iconst (q := 28) (v := nI 0) hC d_Mo_isHost_27 (by decide) rfl ?_
      exact x_iret hC rfl rfl ⟨bz_f (fun q => Int32.not_lt.mpr q.2.1.1 h8), rfl⟩ (by decide) (by decide) d_Mo_isHost_28
    · skip
      refine x_iload_n (q := 12) hC d_Mo_isHost_11 rfl rfl rfl ?_
      refine x_iconst (q := 13) (v := nI 3) hC d_Mo_isHost_12 (by decide) rfl ?_
      refine x_icmp_gt (tgt := 27) (q := 16) hC d_Mo_isHost_13 (by decide) rfl (fun h13 => ?_) (fun h13 => ?_)
      · skip
        refine x_iconst (q := 28) (v := nI 0) hC d_Mo_isHost_27 (by decide) rfl ?_
        exact x_iret hC rfl rfl ⟨bz_f (fun q => (Mo_lts (by decide)).mp q.2.1.2 h13), rfl⟩ (by decide) (by decide) d_Mo_isHost_28
      · skip
        refine x_iload_n (q := 17) hC d_Mo_isHost_16 rfl rfl rfl ?_
        refine x_callS (q := 20) (A := [.int g]) (S := []) (c1 := 0) (s1 := 0) hC (c_Mo_isGroup (x := g)) s_Mo_isHost_115 rfl rfl rfl (Nat.le_of_ble_eq_true rfl) rfl rfl (by decide) (by decide) d_Mo_isHost_17 rfl (fun r τ hP => ?_)
        obtain ⟨rfl, rfl⟩ := hP
        show mx_G Γ κ _ _ 20 [(0, .ref 185), (1, .int l), (2, .int h), (3, .int g)] [.int (bz (gp g))] (nx, u, mi) 0 0
        refine x_if_eq (tgt := 27) (q := 23) hC d_Mo_isHost_20 (by decide) rfl (fun h20 => ?_) (fun h20 => ?_)
        · have h20 := bz_0 h20
          refine x_iconst (q := 28) (v := nI 0) hC d_Mo_isHost_27 (by decide) rfl ?_
          exact x_iret hC rfl rfl ⟨bz_f (fun q => h20 q.2.2), rfl⟩ (by decide) (by decide) d_Mo_isHost_28
        · have h20 := bz_1 h20
          refine x_iconst (q := 24) (v := nI 1) hC d_Mo_isHost_23 (by decide) rfl ?_
          refine x_goto (tgt := 28) hC d_Mo_isHost_24 (by decide) ?_
          exact x_iret hC rfl rfl ⟨bz_t (And.intro h4 (And.intro (And.intro (Int32.not_lt.mp h8) ((Mo_lts (by decide)).mpr h13)) h20)), rfl⟩ (by decide) (by decide) d_Mo_isHost_28
set_option maxRecDepth 100000 in
set_option maxHeartbeats 400000 in
theorem c_Mo_ways {Γ : mx_X} {lau : Launch} {nx : Nat} {u : Nat → Nat → Bool} {mi : mx_Mm}  (hnx : 214 ≤ nx) (hu : ∀ p k, 2 ≤ p → u p k = true)  : mx_C Γ lau M_Mo_ways [.ref 185] (nx, u, mi) (fun ρ τ => ρ = none ∧ τ = (nx, u, Mo_ways mi)) := by
  refine mx_C.intro (by decide) rfl (Nat.le_of_ble_eq_true rfl) (fun κ _ hC => ?_)
  show mx_G Γ κ _ _ 0 [(0, .ref 185)] [] (nx, u, mi) 0 0
  refine x_iconst (q := 1) (v := nI 0) hC d_Mo_ways_0 (by decide) rfl ?_
  refine x_istore_n (q := 2) (L1 := [(1, .int (nI 0)), (0, .ref 185)]) hC d_Mo_ways_1 rfl (by decide) rfl rfl ?_
  refine x_sub (L1 := [(1, .int (nI 0)), (0, .ref 185)]) [0, 1] rfl ?_
  refine mx_loop (N := 36) (Hd := fun p m1 => mx_G Γ κ _ _ 2 [(1, .int (nI p)), (0, .ref 185)] [] (nx, u, m1) 0 0) (Mo_w1) (fun _ _ => True) trivial ?_ ?_ ?_
  · exact fun _ _ _ _ => trivial
  · intro p m1 hl2 hI3 hN4
    refine x_iload_n (q := 3) hC d_Mo_ways_2 rfl rfl rfl ?_
    refine x_bipush (q := 5) (v := nI 36) hC d_Mo_ways_3 (by decide) rfl ?_
    refine x_icmp_ge (tgt := 52) (q := 8) hC d_Mo_ways_5 (by decide) rfl (fun h => absurd h (nI_ge hl2 (by decide))) (fun _ => ?_)
    refine x_aload_n (q := 9) hC d_Mo_ways_8 rfl rfl rfl ?_
    refine x_getr (q := 12) (p := 185) (j := 3) (r := 187) hC f_Mo_13 rfl rfl rfl (by omega) (hu _ _ (by decide)) d_Mo_ways_9 rfl ?_
    refine x_iload_n (q := 13) hC d_Mo_ways_12 rfl rfl rfl ?_
    refine x_iload_n (q := 14) hC d_Mo_ways_13 rfl rfl rfl ?_
    refine x_bipush (q := 16) (v := nI 7) hC d_Mo_ways_14 (by decide) rfl ?_
    refine x_irem (q := 17) (z := nI (p % 7)) hC d_Mo_ways_16 (by decide) (pk_rem (by omega) (by decide) (by decide)) rfl ?_
    refine x_if_ne (tgt := 24) (q := 20) hC d_Mo_ways_17 (by decide) rfl (fun h17 => ?_) (fun h17 => ?_)
    · skip
      refine x_aload_n (q := 25) hC d_Mo_ways_24 rfl rfl rfl ?_
      refine x_getr (q := 28) (p := 185) (j := 2) (r := 186) hC f_Mo_7 rfl rfl rfl (by omega) (hu _ _ (by decide)) d_Mo_ways_25 rfl ?_
      refine x_iload_n (q := 29) hC d_Mo_ways_28 rfl rfl rfl ?_
      refine x_iald (q := 30) (p := 186) hC p rfl (by omega) rfl (by omega) (by decide) d_Mo_ways_29 rfl ?_
      refine x_if_le (tgt := 42) (q := 33) hC d_Mo_ways_30 (by decide) rfl (fun h30 => ?_) (fun h30 => ?_)
      · skip
        refine x_sipush (q := 45) (v := nI 1000) hC d_Mo_ways_42 (by decide) rfl ?_
        refine x_iast (q := 46) (p := 187) hC p rfl (by omega) (by omega) rfl (by omega) (by decide) d_Mo_ways_45 rfl ?_
        refine x_iinc (q := 49) (y := nI (p + 1)) (L1 := [(1, .int (nI (p + 1))), (0, .ref 185)]) hC d_Mo_ways_46 rfl (mx_inc p) (by decide) rfl rfl ?_
        refine x_goto (tgt := 2) hC d_Mo_ways_49 (by decide) ?_
        exact x_close hN4 [0, 1] rfl (by unfold Mo_w1; first | rw [if_pos h17] | rw [if_neg h17, if_pos h30] | rw [if_neg h17, if_neg h30])
      · skip
        refine x_aload_n (q := 34) hC d_Mo_ways_33 rfl rfl rfl ?_
        refine x_getr (q := 37) (p := 185) (j := 2) (r := 186) hC f_Mo_7 rfl rfl rfl (by omega) (hu _ _ (by decide)) d_Mo_ways_34 rfl ?_
        refine x_iload_n (q := 38) hC d_Mo_ways_37 rfl rfl rfl ?_
        refine x_iald (q := 39) (p := 186) hC p rfl (by omega) rfl (by omega) (by decide) d_Mo_ways_38 rfl ?_
        refine x_goto (tgt := 45) hC d_Mo_ways_39 (by decide) ?_
        refine x_iast (q := 46) (p := 187) hC p rfl (by omega) (by omega) rfl (by omega) (by decide) d_Mo_ways_45 rfl ?_
        refine x_iinc (q := 49) (y := nI (p + 1)) (L1 := [(1, .int (nI (p + 1))), (0, .ref 185)]) hC d_Mo_ways_46 rfl (mx_inc p) (by decide) rfl rfl ?_
        refine x_goto (tgt := 2) hC d_Mo_ways_49 (by decide) ?_
        exact x_close hN4 [0, 1] rfl (by unfold Mo_w1; first | rw [if_pos h17] | rw [if_neg h17, if_pos h30] | rw [if_neg h17, if_neg h30])
    · skip
      refine x_iconst (q := 21) (v := nI 0) hC d_Mo_ways_20 (by decide) rfl ?_
      refine x_goto (tgt := 45) hC d_Mo_ways_21 (by decide) ?_
      refine x_iast (q := 46) (p := 187) hC p rfl (by omega) (by omega) rfl (by omega) (by decide) d_Mo_ways_45 rfl ?_
      refine x_iinc (q := 49) (y := nI (p + 1)) (L1 := [(1, .int (nI (p + 1))), (0, .ref 185)]) hC d_Mo_ways_46 rfl (mx_inc p) (by decide) rfl rfl ?_
      refine x_goto (tgt := 2) hC d_Mo_ways_49 (by decide) ?_
      exact x_close hN4 [0, 1] rfl (by unfold Mo_w1; first | rw [if_pos h17] | rw [if_neg h17, if_pos h30] | rw [if_neg h17, if_neg h30])
  · intro hx5
    refine mx_nr (fun m6 e7 => ?_)
    try rw [e7] at hx5
    refine x_iload_n (q := 3) hC d_Mo_ways_2 rfl rfl rfl ?_
    refine x_bipush (q := 5) (v := nI 36) hC d_Mo_ways_3 (by decide) rfl ?_
    refine x_icmp_ge (tgt := 52) (q := 8) hC d_Mo_ways_5 (by decide) rfl (fun _ => ?_) (fun h => absurd (nI_le (Nat.le_refl _) (by decide)) h)
    refine x_iconst (q := 53) (v := nI 0) hC d_Mo_ways_52 (by decide) rfl ?_
    refine x_istore_n (q := 54) (L1 := [(1, .int (nI 0)), (0, .ref 185)]) hC d_Mo_ways_53 rfl (by decide) rfl rfl ?_
    refine x_sub (L1 := [(1, .int (nI 0)), (0, .ref 185)]) [0, 1] rfl ?_
    refine mx_loop (N := 6) (Hd := fun k m8 => mx_G Γ κ _ _ 54 [(1, .int (nI k)), (0, .ref 185)] [] (nx, u, m8) 0 0) (fun k => mx_lp 36 (Mo_w2 k)) (fun _ _ => True) trivial ?_ ?_ ?_
    · exact fun _ _ _ _ => trivial
    · intro k m8 hl9 hI10 hN11
      refine x_iload_n (q := 55) hC d_Mo_ways_54 rfl rfl rfl ?_
      refine x_bipush (q := 57) (v := nI 6) hC d_Mo_ways_55 (by decide) rfl ?_
      refine x_icmp_ge (tgt := 136) (q := 60) hC d_Mo_ways_57 (by decide) rfl (fun h => absurd h (nI_ge hl9 (by decide))) (fun _ => ?_)
      refine x_iconst (q := 61) (v := nI 0) hC d_Mo_ways_60 (by decide) rfl ?_
      refine x_istore_n (q := 62) (L1 := [(2, .int (nI 0)), (1, .int (nI k)), (0, .ref 185)]) hC d_Mo_ways_61 rfl (by decide) rfl rfl ?_
      refine x_sub (L1 := [(2, .int (nI 0)), (1, .int (nI k)), (0, .ref 185)]) [0, 1, 2] rfl ?_
      refine mx_loop (N := 36) (Hd := fun p m12 => mx_G Γ κ _ _ 62 [(2, .int (nI p)), (1, .int (nI k)), (0, .ref 185)] [] (nx, u, m12) 0 0) (Mo_w2 k) (fun _ _ => True) trivial ?_ ?_ ?_
      · exact fun _ _ _ _ => trivial
      · intro p m12 hl13 hI14 hN15
        refine x_iload_n (q := 63) hC d_Mo_ways_62 rfl rfl rfl ?_
        refine x_bipush (q := 65) (v := nI 36) hC d_Mo_ways_63 (by decide) rfl ?_
        refine x_icmp_ge (tgt := 130) (q := 68) hC d_Mo_ways_65 (by decide) rfl (fun h => absurd h (nI_ge hl13 (by decide))) (fun _ => ?_)
        refine x_aload_n (q := 69) hC d_Mo_ways_68 rfl rfl rfl ?_
        refine x_getr (q := 72) (p := 185) (j := 3) (r := 187) hC f_Mo_13 rfl rfl rfl (by omega) (hu _ _ (by decide)) d_Mo_ways_69 rfl ?_
        refine x_iload_n (q := 73) hC d_Mo_ways_72 rfl rfl rfl ?_
        refine x_bipush (q := 75) (v := nI 6) hC d_Mo_ways_73 (by decide) rfl ?_
        refine x_idiv (q := 76) (z := nI (p / 6)) hC d_Mo_ways_75 (by decide) (pk_div (by omega) (by decide) (by decide)) rfl ?_
        refine x_bipush (q := 78) (v := nI 6) hC d_Mo_ways_76 (by decide) rfl ?_
        refine x_imul (q := 79) (z := nI ((p / 6) * 6)) hC d_Mo_ways_78 (pk_mul _ _) rfl ?_
        refine x_iload_n (q := 80) hC d_Mo_ways_79 rfl rfl rfl ?_
        refine x_iadd (q := 81) (z := nI (((p / 6) * 6) + k)) hC d_Mo_ways_80 (nI_add _ _) rfl ?_
        refine x_iald (q := 82) (p := 187) hC (((p / 6) * 6) + k) rfl (by omega) rfl (by omega) (by decide) d_Mo_ways_81 rfl ?_
        refine x_aload_n (q := 83) hC d_Mo_ways_82 rfl rfl rfl ?_
        refine x_getr (q := 86) (p := 185) (j := 3) (r := 187) hC f_Mo_13 rfl rfl rfl (by omega) (hu _ _ (by decide)) d_Mo_ways_83 rfl ?_
        refine x_bipush (q := 88) (v := nI 6) hC d_Mo_ways_86 (by decide) rfl ?_
        refine x_iload_n (q := 89) hC d_Mo_ways_88 rfl rfl rfl ?_
        refine x_imul (q := 90) (z := nI (6 * k)) hC d_Mo_ways_89 (pk_mul _ _) rfl ?_
        refine x_iload_n (q := 91) hC d_Mo_ways_90 rfl rfl rfl ?_
        refine x_bipush (q := 93) (v := nI 6) hC d_Mo_ways_91 (by decide) rfl ?_
        refine x_irem (q := 94) (z := nI (p % 6)) hC d_Mo_ways_93 (by decide) (pk_rem (by omega) (by decide) (by decide)) rfl ?_
        refine x_iadd (q := 95) (z := nI ((6 * k) + (p % 6))) hC d_Mo_ways_94 (nI_add _ _) rfl ?_
        refine x_iald (q := 96) (p := 187) hC ((6 * k) + (p % 6)) rfl (by omega) rfl (by omega) (by decide) d_Mo_ways_95 rfl ?_
        refine x_iadd (q := 97) (z := (m12 187 (((p / 6) * 6) + k)) + (m12 187 ((6 * k) + (p % 6)))) hC d_Mo_ways_96 rfl rfl ?_
        refine x_istore_n (q := 98) (L1 := [(3, .int ((m12 187 (((p / 6) * 6) + k)) + (m12 187 ((6 * k) + (p % 6))))), (2, .int (nI p)), (1, .int (nI k)), (0, .ref 185)]) hC d_Mo_ways_97 rfl (by decide) rfl rfl ?_
        refine x_aload_n (q := 99) hC d_Mo_ways_98 rfl rfl rfl ?_
        refine x_getr (q := 102) (p := 185) (j := 3) (r := 187) hC f_Mo_13 rfl rfl rfl (by omega) (hu _ _ (by decide)) d_Mo_ways_99 rfl ?_
        refine x_iload_n (q := 103) hC d_Mo_ways_102 rfl rfl rfl ?_
        refine x_iload_n (q := 104) hC d_Mo_ways_103 rfl rfl rfl ?_
        refine x_aload_n (q := 105) hC d_Mo_ways_104 rfl rfl rfl ?_
        refine x_getr (q := 108) (p := 185) (j := 3) (r := 187) hC f_Mo_13 rfl rfl rfl (by omega) (hu _ _ (by decide)) d_Mo_ways_105 rfl ?_
        refine x_iload_n (q := 109) hC d_Mo_ways_108 rfl rfl rfl ?_
        refine x_iald (q := 110) (p := 187) hC p rfl (by omega) rfl (by omega) (by decide) d_Mo_ways_109 rfl ?_
        refine x_icmp_ge (tgt := 117) (q := 113) hC d_Mo_ways_110 (by decide) rfl (fun h110 => ?_) (fun h110 => ?_)
        · skip
          refine x_aload_n (q := 118) hC d_Mo_ways_117 rfl rfl rfl ?_
          refine x_getr (q := 121) (p := 185) (j := 3) (r := 187) hC f_Mo_13 rfl rfl rfl (by omega) (hu _ _ (by decide)) d_Mo_ways_118 rfl ?_
          refine x_iload_n (q := 122) hC d_Mo_ways_121 rfl rfl rfl ?_
          refine x_iald (q := 123) (p := 187) hC p rfl (by omega) rfl (by omega) (by decide) d_Mo_ways_122 rfl ?_
          refine x_iast (q := 124) (p := 187) hC p rfl (by omega) (by omega) rfl (by omega) (by decide) d_Mo_ways_123 rfl ?_
          refine x_iinc (q := 127) (y := nI (p + 1)) (L1 := [(2, .int (nI (p + 1))), (3, .int ((m12 187 (((p / 6) * 6) + k)) + (m12 187 ((6 * k) + (p % 6))))), (1, .int (nI k)), (0, .ref 185)]) hC d_Mo_ways_124 rfl (mx_inc p) (by decide) rfl rfl ?_
          refine x_goto (tgt := 62) hC d_Mo_ways_127 (by decide) ?_
          exact x_close hN15 [0, 2, 3] rfl (by unfold Mo_w2; first | rw [if_pos (Int32.not_le.mp h110)] | rw [if_neg (Int32.not_lt.mpr h110)])
        · skip
          refine x_iload_n (q := 114) hC d_Mo_ways_113 rfl rfl rfl ?_
          refine x_goto (tgt := 123) hC d_Mo_ways_114 (by decide) ?_
          refine x_iast (q := 124) (p := 187) hC p rfl (by omega) (by omega) rfl (by omega) (by decide) d_Mo_ways_123 rfl ?_
          refine mx_nr (fun m16 e17 => ?_)
          refine x_iinc (q := 127) (y := nI (p + 1)) (L1 := [(2, .int (nI (p + 1))), (3, .int ((m12 187 (((p / 6) * 6) + k)) + (m12 187 ((6 * k) + (p % 6))))), (1, .int (nI k)), (0, .ref 185)]) hC d_Mo_ways_124 rfl (mx_inc p) (by decide) rfl rfl ?_
          refine x_goto (tgt := 62) hC d_Mo_ways_127 (by decide) ?_
          subst e17
          exact x_close hN15 [0, 2, 3] rfl (by unfold Mo_w2; first | rw [if_pos (Int32.not_le.mp h110)] | rw [if_neg (Int32.not_lt.mpr h110)])
      · intro hx18
        refine mx_nr (fun m19 e20 => ?_)
        try rw [e20] at hx18
        refine x_iload_n (q := 63) hC d_Mo_ways_62 rfl rfl rfl ?_
        refine x_bipush (q := 65) (v := nI 36) hC d_Mo_ways_63 (by decide) rfl ?_
        refine x_icmp_ge (tgt := 130) (q := 68) hC d_Mo_ways_65 (by decide) rfl (fun _ => ?_) (fun h => absurd (nI_le (Nat.le_refl _) (by decide)) h)
        refine x_iinc (q := 133) (y := nI (k + 1)) (L1 := [(1, .int (nI (k + 1))), (2, .int (nI 36)), (0, .ref 185)]) hC d_Mo_ways_130 rfl (mx_inc k) (by decide) rfl rfl ?_
        refine x_goto (tgt := 54) hC d_Mo_ways_133 (by decide) ?_
        subst e20
        exact x_close hN11 [0, 2] rfl (by rfl)
    · intro hx21
      refine mx_nr (fun m22 e23 => ?_)
      try rw [e23] at hx21
      refine x_iload_n (q := 55) hC d_Mo_ways_54 rfl rfl rfl ?_
      refine x_bipush (q := 57) (v := nI 6) hC d_Mo_ways_55 (by decide) rfl ?_
      refine x_icmp_ge (tgt := 136) (q := 60) hC d_Mo_ways_57 (by decide) rfl (fun _ => ?_) (fun h => absurd (nI_le (Nat.le_refl _) (by decide)) h)
      refine x_iconst (q := 137) (v := nI 0) hC d_Mo_ways_136 (by decide) rfl ?_
      refine x_istore_n (q := 138) (L1 := [(1, .int (nI 0)), (0, .ref 185)]) hC d_Mo_ways_137 rfl (by decide) rfl rfl ?_
      refine x_sub (L1 := [(1, .int (nI 0)), (0, .ref 185)]) [0, 1] rfl ?_
      refine mx_loop (N := 36) (Hd := fun p m24 => mx_G Γ κ _ _ 138 [(1, .int (nI p)), (0, .ref 185)] [] (nx, u, m24) 0 0) (Mo_v3) (fun _ _ => True) trivial ?_ ?_ ?_
      · exact fun _ _ _ _ => trivial
      · intro p m24 hl25 hI26 hN27
        refine x_iload_n (q := 139) hC d_Mo_ways_138 rfl rfl rfl ?_
        refine x_bipush (q := 141) (v := nI 36) hC d_Mo_ways_139 (by decide) rfl ?_
        refine x_icmp_ge (tgt := 239) (q := 144) hC d_Mo_ways_141 (by decide) rfl (fun h => absurd h (nI_ge hl25 (by decide))) (fun _ => ?_)
        refine x_aload_n (q := 145) hC d_Mo_ways_144 rfl rfl rfl ?_
        refine x_getr (q := 148) (p := 185) (j := 4) (r := 188) hC f_Mo_16 rfl rfl rfl (by omega) (hu _ _ (by decide)) d_Mo_ways_145 rfl ?_
        refine x_iload_n (q := 149) hC d_Mo_ways_148 rfl rfl rfl ?_
        refine x_iconst (q := 150) (v := (-1)) hC d_Mo_ways_149 (by decide) rfl ?_
        refine x_iast (q := 151) (p := 188) hC p rfl (by omega) (by omega) rfl (by omega) (by decide) d_Mo_ways_150 rfl ?_
        refine x_iconst (q := 152) (v := nI 5) hC d_Mo_ways_151 (by decide) rfl ?_
        refine x_istore_n (q := 153) (L1 := [(2, .int (nI 5)), (1, .int (nI p)), (0, .ref 185)]) hC d_Mo_ways_152 rfl (by decide) rfl rfl ?_
        have hW : ∀ i m, i ≤ 6 → mx_G Γ κ M_Mo_ways (MQ (mx_b κ) (mx_Qc Γ (fun ρ τ => ρ = none ∧ τ = (nx, u, Mo_ways mi))) (mx_a κ) (mx_s κ) M_Mo_ways.2.2.2.2.cells M_Mo_ways.2.2.2.2.slots (mx_fr Γ)) 233 [(1, .int (nI p)), (0, .ref 185)] [] (nx, u, Mo_vd p i m) 0 0 → mx_G Γ κ M_Mo_ways (MQ (mx_b κ) (mx_Qc Γ (fun ρ τ => ρ = none ∧ τ = (nx, u, Mo_ways mi))) (mx_a κ) (mx_s κ) M_Mo_ways.2.2.2.2.cells M_Mo_ways.2.2.2.2.slots (mx_fr Γ)) 153 [(2, .int (nI i + (-1))), (1, .int (nI p)), (0, .ref 185)] [] (nx, u, m) 0 0 := by
          intro i
          induction i with
          | zero =>
            intro m hi hE
            refine x_iload_n (q := 154) hC d_Mo_ways_153 rfl rfl rfl ?_
            refine x_if_lt (tgt := 233) (q := 157) hC d_Mo_ways_154 (by decide) rfl (fun _ => ?_) (fun h => absurd (by decide) h)
            exact x_sub (L1 := [(1, .int (nI p)), (0, .ref 185)]) [1, 2] rfl hE
          | succ i ih =>
            intro m hi hE
            refine mx_eqG (L1 := [(2, .int (nI i)), (1, .int (nI p)), (0, .ref 185)]) (by rw [nI_dn]) rfl rfl ?_
            refine x_iload_n (q := 154) hC d_Mo_ways_153 rfl rfl rfl ?_
            refine x_if_lt (tgt := 233) (q := 157) hC d_Mo_ways_154 (by decide) rfl (fun h => absurd h (Int32.not_lt.mpr (nI_le (Nat.zero_le _) (by omega)))) (fun _ => ?_)
            refine x_aload_n (q := 158) hC d_Mo_ways_157 rfl rfl rfl ?_
            refine x_getr (q := 161) (p := 185) (j := 2) (r := 186) hC f_Mo_7 rfl rfl rfl (by omega) (hu _ _ (by decide)) d_Mo_ways_158 rfl ?_
            refine x_iload_n (q := 162) hC d_Mo_ways_161 rfl rfl rfl ?_
            refine x_bipush (q := 164) (v := nI 6) hC d_Mo_ways_162 (by decide) rfl ?_
            refine x_idiv (q := 165) (z := nI (p / 6)) hC d_Mo_ways_164 (by decide) (pk_div (by omega) (by decide) (by decide)) rfl ?_
            refine x_bipush (q := 167) (v := nI 6) hC d_Mo_ways_165 (by decide) rfl ?_
            refine x_imul (q := 168) (z := nI ((p / 6) * 6)) hC d_Mo_ways_167 (pk_mul _ _) rfl ?_
            refine x_iload_n (q := 169) hC d_Mo_ways_168 rfl rfl rfl ?_
            refine x_iadd (q := 170) (z := nI (((p / 6) * 6) + i)) hC d_Mo_ways_169 (nI_add _ _) rfl ?_
            refine x_iald (q := 171) (p := 186) hC (((p / 6) * 6) + i) rfl (by omega) rfl (by omega) (by decide) d_Mo_ways_170 rfl ?_
            refine x_istore_n (q := 172) (L1 := [(3, .int (m 186 (((p / 6) * 6) + i))), (2, .int (nI i)), (1, .int (nI p)), (0, .ref 185)]) hC d_Mo_ways_171 rfl (by decide) rfl rfl ?_
            refine x_iload_n (q := 173) hC d_Mo_ways_172 rfl rfl rfl ?_
            refine x_bipush (q := 175) (v := nI 7) hC d_Mo_ways_173 (by decide) rfl ?_
            refine x_irem (q := 176) (z := nI (p % 7)) hC d_Mo_ways_175 (by decide) (pk_rem (by omega) (by decide) (by decide)) rfl ?_
            refine x_if_eq (tgt := 227) (q := 179) hC d_Mo_ways_176 (by decide) rfl (fun h176 => ?_) (fun h176 => ?_)
            · skip
              refine x_iinc (q := 230) (y := (nI i) + (-1)) (L1 := [(2, .int ((nI i) + (-1))), (3, .int (m 186 (((p / 6) * 6) + i))), (1, .int (nI p)), (0, .ref 185)]) hC d_Mo_ways_227 rfl (by rfl) (by decide) rfl rfl ?_
              refine x_goto (tgt := 153) hC d_Mo_ways_230 (by decide) ?_
              exact x_sub [0, 2, 3] rfl (mx_eqG rfl rfl (pr (it_f (fun q => q.1 h176) rfl)) (ih (Mo_v1 p i m) (by omega) hE))
            · skip
              refine x_aload_n (q := 180) hC d_Mo_ways_179 rfl rfl rfl ?_
              refine x_getr (q := 183) (p := 185) (j := 3) (r := 187) hC f_Mo_13 rfl rfl rfl (by omega) (hu _ _ (by decide)) d_Mo_ways_180 rfl ?_
              refine x_iload_n (q := 184) hC d_Mo_ways_183 rfl rfl rfl ?_
              refine x_iald (q := 185) (p := 187) hC p rfl (by omega) rfl (by omega) (by decide) d_Mo_ways_184 rfl ?_
              refine x_sipush (q := 188) (v := nI 1000) hC d_Mo_ways_185 (by decide) rfl ?_
              refine x_icmp_ge (tgt := 227) (q := 191) hC d_Mo_ways_188 (by decide) rfl (fun h188 => ?_) (fun h188 => ?_)
              · skip
                refine x_iinc (q := 230) (y := (nI i) + (-1)) (L1 := [(2, .int ((nI i) + (-1))), (3, .int (m 186 (((p / 6) * 6) + i))), (1, .int (nI p)), (0, .ref 185)]) hC d_Mo_ways_227 rfl (by rfl) (by decide) rfl rfl ?_
                refine x_goto (tgt := 153) hC d_Mo_ways_230 (by decide) ?_
                exact x_sub [0, 2, 3] rfl (mx_eqG rfl rfl (pr (it_f (fun q => Int32.not_lt.mpr h188 q.2.1) rfl)) (ih (Mo_v1 p i m) (by omega) hE))
              · skip
                refine x_iload_n (q := 192) hC d_Mo_ways_191 rfl rfl rfl ?_
                refine x_if_le (tgt := 227) (q := 195) hC d_Mo_ways_192 (by decide) rfl (fun h192 => ?_) (fun h192 => ?_)
                · skip
                  refine x_iinc (q := 230) (y := (nI i) + (-1)) (L1 := [(2, .int ((nI i) + (-1))), (3, .int (m 186 (((p / 6) * 6) + i))), (1, .int (nI p)), (0, .ref 185)]) hC d_Mo_ways_227 rfl (by rfl) (by decide) rfl rfl ?_
                  refine x_goto (tgt := 153) hC d_Mo_ways_230 (by decide) ?_
                  exact x_sub [0, 2, 3] rfl (mx_eqG rfl rfl (pr (it_f (fun q => Int32.not_lt.mpr h192 q.2.2.1) rfl)) (ih (Mo_v1 p i m) (by omega) hE))
                · skip
                  refine x_iload_n (q := 196) hC d_Mo_ways_195 rfl rfl rfl ?_
                  refine x_aload_n (q := 197) hC d_Mo_ways_196 rfl rfl rfl ?_
                  refine x_getr (q := 200) (p := 185) (j := 3) (r := 187) hC f_Mo_13 rfl rfl rfl (by omega) (hu _ _ (by decide)) d_Mo_ways_197 rfl ?_
                  refine x_bipush (q := 202) (v := nI 6) hC d_Mo_ways_200 (by decide) rfl ?_
                  refine x_iload_n (q := 203) hC d_Mo_ways_202 rfl rfl rfl ?_
                  refine x_imul (q := 204) (z := nI (6 * i)) hC d_Mo_ways_203 (pk_mul _ _) rfl ?_
                  refine x_iload_n (q := 205) hC d_Mo_ways_204 rfl rfl rfl ?_
                  refine x_bipush (q := 207) (v := nI 6) hC d_Mo_ways_205 (by decide) rfl ?_
                  refine x_irem (q := 208) (z := nI (p % 6)) hC d_Mo_ways_207 (by decide) (pk_rem (by omega) (by decide) (by decide)) rfl ?_
                  refine x_iadd (q := 209) (z := nI ((6 * i) + (p % 6))) hC d_Mo_ways_208 (nI_add _ _) rfl ?_
                  refine x_iald (q := 210) (p := 187) hC ((6 * i) + (p % 6)) rfl (by omega) rfl (by omega) (by decide) d_Mo_ways_209 rfl ?_
                  refine x_iadd (q := 211) (z := (m 186 (((p / 6) * 6) + i)) + (m 187 ((6 * i) + (p % 6)))) hC d_Mo_ways_210 rfl rfl ?_
                  refine x_aload_n (q := 212) hC d_Mo_ways_211 rfl rfl rfl ?_
                  refine x_getr (q := 215) (p := 185) (j := 3) (r := 187) hC f_Mo_13 rfl rfl rfl (by omega) (hu _ _ (by decide)) d_Mo_ways_212 rfl ?_
                  refine x_iload_n (q := 216) hC d_Mo_ways_215 rfl rfl rfl ?_
                  refine x_iald (q := 217) (p := 187) hC p rfl (by omega) rfl (by omega) (by decide) d_Mo_ways_216 rfl ?_
                  refine x_icmp_ne (tgt := 227) (q := 220) hC d_Mo_ways_217 (by decide) rfl (fun h217 => ?_) (fun h217 => ?_)
                  · skip
                    refine x_iinc (q := 230) (y := (nI i) + (-1)) (L1 := [(2, .int ((nI i) + (-1))), (3, .int (m 186 (((p / 6) * 6) + i))), (1, .int (nI p)), (0, .ref 185)]) hC d_Mo_ways_227 rfl (by rfl) (by decide) rfl rfl ?_
                    refine x_goto (tgt := 153) hC d_Mo_ways_230 (by decide) ?_
                    exact x_sub [0, 2, 3] rfl (mx_eqG rfl rfl (pr (it_f (fun q => h217 q.2.2.2) rfl)) (ih (Mo_v1 p i m) (by omega) hE))
                  · skip
                    refine x_aload_n (q := 221) hC d_Mo_ways_220 rfl rfl rfl ?_
                    refine x_getr (q := 224) (p := 185) (j := 4) (r := 188) hC f_Mo_16 rfl rfl rfl (by omega) (hu _ _ (by decide)) d_Mo_ways_221 rfl ?_
                    refine x_iload_n (q := 225) hC d_Mo_ways_224 rfl rfl rfl ?_
                    refine x_iload_n (q := 226) hC d_Mo_ways_225 rfl rfl rfl ?_
                    refine x_iast (q := 227) (p := 188) hC p rfl (by omega) (by omega) rfl (by omega) (by decide) d_Mo_ways_226 rfl ?_
                    refine x_iinc (q := 230) (y := (nI i) + (-1)) (L1 := [(2, .int ((nI i) + (-1))), (3, .int (m 186 (((p / 6) * 6) + i))), (1, .int (nI p)), (0, .ref 185)]) hC d_Mo_ways_227 rfl (by rfl) (by decide) rfl rfl ?_
                    refine x_goto (tgt := 153) hC d_Mo_ways_230 (by decide) ?_
                    exact x_sub [0, 2, 3] rfl (mx_eqG rfl rfl (pr (it_t (And.intro h176 (And.intro (Int32.not_le.mp h188) (And.intro (Int32.not_le.mp h192) h217))) rfl)) (ih (Mo_v1 p i m) (by omega) hE))
        refine x_sub (L1 := [(2, .int (nI 5)), (1, .int (nI p)), (0, .ref 185)]) [0, 1, 2] rfl ?_
        refine mx_eqG (L1 := [(2, .int (nI 6 + (-1))), (1, .int (nI p)), (0, .ref 185)]) rfl rfl rfl ?_
        refine hW 6 (mx_up m24 188 p (-1)) (Nat.le_refl _) ?_
        refine x_iinc (q := 236) (y := nI (p + 1)) (L1 := [(1, .int (nI (p + 1))), (0, .ref 185)]) hC d_Mo_ways_233 rfl (mx_inc p) (by decide) rfl rfl ?_
        refine x_goto (tgt := 138) hC d_Mo_ways_236 (by decide) ?_
        exact x_close hN27 [0, 1] rfl (by rfl)
      · intro hx28
        refine mx_nr (fun m29 e30 => ?_)
        try rw [e30] at hx28
        refine x_iload_n (q := 139) hC d_Mo_ways_138 rfl rfl rfl ?_
        refine x_bipush (q := 141) (v := nI 36) hC d_Mo_ways_139 (by decide) rfl ?_
        refine x_icmp_ge (tgt := 239) (q := 144) hC d_Mo_ways_141 (by decide) rfl (fun _ => ?_) (fun h => absurd (nI_le (Nat.le_refl _) (by decide)) h)
        subst e30
        subst e23
        subst e7
        exact x_vret hC rfl ⟨rfl, rfl⟩ (by decide) (by decide) d_Mo_ways_239
set_option maxRecDepth 100000 in
set_option maxHeartbeats 400000 in
theorem c_Mo_onLan {Γ : mx_X} {lau : Launch} {nx : Nat} {u : Nat → Nat → Bool} {mi : mx_Mm} {l g : Nat} (hnx : 214 ≤ nx) (hu : ∀ p k, 2 ≤ p → u p k = true) (hl : l < 6) (hg : g < 3) : mx_C Γ lau M_Mo_onLan [.ref 185, .int (nI l), .int (nI g)] (nx, u, mi) (fun ρ τ => ρ = some (.int (bz (Mo_on l g mi))) ∧ τ = (nx, u, mi)) := by
  refine mx_C.intro (by decide) rfl (Nat.le_of_ble_eq_true rfl) (fun κ _ hC => ?_)
  show mx_G Γ κ _ _ 0 [(0, .ref 185), (1, .int (nI l)), (2, .int (nI g))] [] (nx, u, mi) 0 0
  refine x_aload_n (q := 1) hC d_Mo_onLan_0 rfl rfl rfl ?_
  refine x_geti (q := 4) (p := 185) (j := 1) hC f_Mo_112 rfl rfl (by omega) d_Mo_onLan_1 rfl ?_
  refine x_aload_n (q := 5) hC d_Mo_onLan_4 rfl rfl rfl ?_
  refine x_getr (q := 8) (p := 185) (j := 6) (r := 190) hC f_Mo_23 rfl rfl rfl (by omega) (hu _ _ (by decide)) d_Mo_onLan_5 rfl ?_
  refine x_iconst (q := 9) (v := nI 3) hC d_Mo_onLan_8 (by decide) rfl ?_
  refine x_iload_n (q := 10) hC d_Mo_onLan_9 rfl rfl rfl ?_
  refine x_imul (q := 11) (z := nI (3 * l)) hC d_Mo_onLan_10 (pk_mul _ _) rfl ?_
  refine x_iload_n (q := 12) hC d_Mo_onLan_11 rfl rfl rfl ?_
  refine x_iadd (q := 13) (z := nI ((3 * l) + g)) hC d_Mo_onLan_12 (nI_add _ _) rfl ?_
  refine x_iald (q := 14) (p := 190) hC ((3 * l) + g) rfl (by omega) rfl (by omega) (by decide) d_Mo_onLan_13 rfl ?_
  refine x_icmp_ge (tgt := 21) (q := 17) hC d_Mo_onLan_14 (by decide) rfl (fun h14 => ?_) (fun h14 => ?_)
  · skip
    refine x_iconst (q := 22) (v := nI 0) hC d_Mo_onLan_21 (by decide) rfl ?_
    exact x_iret hC rfl rfl ⟨bz_f (Int32.not_lt.mpr h14), rfl⟩ (by decide) (by decide) d_Mo_onLan_22
  · skip
    refine x_iconst (q := 18) (v := nI 1) hC d_Mo_onLan_17 (by decide) rfl ?_
    refine x_goto (tgt := 22) hC d_Mo_onLan_18 (by decide) ?_
    exact x_iret hC rfl rfl ⟨bz_t (Int32.not_le.mp h14), rfl⟩ (by decide) (by decide) d_Mo_onLan_22
set_option maxRecDepth 100000 in
set_option maxHeartbeats 400000 in
theorem c_Mo_inner {Γ : mx_X} {lau : Launch} {nx : Nat} {u : Nat → Nat → Bool} {mi : mx_Mm} {n k st : Nat} (hnx : 214 ≤ nx) (hu : ∀ p k, 2 ≤ p → u p k = true) (hn : n < 6) (hk : k < 6) (hst : st < 18) : mx_C Γ lau M_Mo_inner [.ref 185, .int (nI n), .int (nI k), .int (nI st)] (nx, u, mi) (fun ρ τ => ρ = some (.int (bz (Mo_in n k st mi))) ∧ τ = (nx, u, mi)) := by
  refine mx_C.intro (by decide) rfl (Nat.le_of_ble_eq_true rfl) (fun κ _ hC => ?_)
  show mx_G Γ κ _ _ 0 [(0, .ref 185), (1, .int (nI n)), (2, .int (nI k)), (3, .int (nI st))] [] (nx, u, mi) 0 0
  refine x_aload_n (q := 1) hC d_Mo_inner_0 rfl rfl rfl ?_
  refine x_getr (q := 4) (p := 185) (j := 8) (r := 192) hC f_Mo_29 rfl rfl rfl (by omega) (hu _ _ (by decide)) d_Mo_inner_1 rfl ?_
  refine x_iconst (q := 5) (v := nI 3) hC d_Mo_inner_4 (by decide) rfl ?_
  refine x_iload_n (q := 6) hC d_Mo_inner_5 rfl rfl rfl ?_
  refine x_imul (q := 7) (z := nI (3 * k)) hC d_Mo_inner_6 (pk_mul _ _) rfl ?_
  refine x_iload_n (q := 8) hC d_Mo_inner_7 rfl rfl rfl ?_
  refine x_iconst (q := 9) (v := nI 3) hC d_Mo_inner_8 (by decide) rfl ?_
  refine x_irem (q := 10) (z := nI (st % 3)) hC d_Mo_inner_9 (by decide) (pk_rem (by omega) (by decide) (by decide)) rfl ?_
  refine x_iadd (q := 11) (z := nI ((3 * k) + (st % 3))) hC d_Mo_inner_10 (nI_add _ _) rfl ?_
  refine x_iald (q := 12) (p := 192) hC ((3 * k) + (st % 3)) rfl (by omega) rfl (by omega) (by decide) d_Mo_inner_11 rfl ?_
  refine x_iload_n (q := 13) hC d_Mo_inner_12 rfl rfl rfl ?_
  refine x_icmp_ne (tgt := 35) (q := 16) hC d_Mo_inner_13 (by decide) rfl (fun h13 => ?_) (fun h13 => ?_)
  · skip
    refine x_iconst (q := 36) (v := nI 0) hC d_Mo_inner_35 (by decide) rfl ?_
    exact x_iret hC rfl rfl ⟨bz_f (fun q => h13 q.1), rfl⟩ (by decide) (by decide) d_Mo_inner_36
  · skip
    refine x_aload_n (q := 17) hC d_Mo_inner_16 rfl rfl rfl ?_
    refine x_getr (q := 20) (p := 185) (j := 10) (r := 194) hC f_Mo_35 rfl rfl rfl (by omega) (hu _ _ (by decide)) d_Mo_inner_17 rfl ?_
    refine x_bipush (q := 22) (v := nI 18) hC d_Mo_inner_20 (by decide) rfl ?_
    refine x_iload_n (q := 23) hC d_Mo_inner_22 rfl rfl rfl ?_
    refine x_imul (q := 24) (z := nI (18 * k)) hC d_Mo_inner_23 (pk_mul _ _) rfl ?_
    refine x_iload_n (q := 25) hC d_Mo_inner_24 rfl rfl rfl ?_
    refine x_iadd (q := 26) (z := nI ((18 * k) + st)) hC d_Mo_inner_25 (nI_add _ _) rfl ?_
    refine x_iald (q := 27) (p := 194) hC ((18 * k) + st) rfl (by omega) rfl (by omega) (by decide) d_Mo_inner_26 rfl ?_
    refine x_iload_n (q := 28) hC d_Mo_inner_27 rfl rfl rfl ?_
    refine x_icmp_eq (tgt := 35) (q := 31) hC d_Mo_inner_28 (by decide) rfl (fun h28 => ?_) (fun h28 => ?_)
    · skip
      refine x_iconst (q := 36) (v := nI 0) hC d_Mo_inner_35 (by decide) rfl ?_
      exact x_iret hC rfl rfl ⟨bz_f (fun q => q.2 h28), rfl⟩ (by decide) (by decide) d_Mo_inner_36
    · skip
      refine x_iconst (q := 32) (v := nI 1) hC d_Mo_inner_31 (by decide) rfl ?_
      refine x_goto (tgt := 36) hC d_Mo_inner_32 (by decide) ?_
      exact x_iret hC rfl rfl ⟨bz_t (And.intro h13 h28), rfl⟩ (by decide) (by decide) d_Mo_inner_36
set_option maxRecDepth 100000 in
set_option maxHeartbeats 400000 in
theorem c_Mo_outer {Γ : mx_X} {lau : Launch} {nx : Nat} {u : Nat → Nat → Bool} {mi : mx_Mm} {n k st : Nat} (hnx : 214 ≤ nx) (hu : ∀ p k, 2 ≤ p → u p k = true) (hn : n < 6) (hk : k < 6) (hst : st < 18) : mx_C Γ lau M_Mo_outer [.ref 185, .int (nI n), .int (nI k), .int (nI st)] (nx, u, mi) (fun ρ τ => ρ = some (.int (bz (Mo_out n k st mi))) ∧ τ = (nx, u, mi)) := by
  refine mx_C.intro (by decide) rfl (Nat.le_of_ble_eq_true rfl) (fun κ _ hC => ?_)
  show mx_G Γ κ _ _ 0 [(0, .ref 185), (1, .int (nI n)), (2, .int (nI k)), (3, .int (nI st))] [] (nx, u, mi) 0 0
  refine x_aload_n (q := 1) hC d_Mo_outer_0 rfl rfl rfl ?_
  refine x_iload_n (q := 2) hC d_Mo_outer_1 rfl rfl rfl ?_
  refine x_iload_n (q := 3) hC d_Mo_outer_2 rfl rfl rfl ?_
  refine x_iload_n (q := 4) hC d_Mo_outer_3 rfl rfl rfl ?_
  refine x_callV (q := 7) (p := 185) (A := [.int (nI n), .int (nI k), .int (nI st)]) (S := []) (c1 := 0) (s1 := 0) hC (c_Mo_inner (n := n) (k := k) (st := st) (by omega) hu (by omega) (by omega) (by omega) ) s_Mo_outer_134 rfl (by omega) rfl rfl rfl (Nat.le_of_ble_eq_true rfl) rfl rfl (by decide) (by decide) d_Mo_outer_4 rfl (fun r τ hP => ?_)
  obtain ⟨rfl, rfl⟩ := hP
  show mx_G Γ κ _ _ 7 [(0, .ref 185), (1, .int (nI n)), (2, .int (nI k)), (3, .int (nI st))] [.int (bz (Mo_in n k st mi))] (nx, u, mi) 0 0
  refine x_if_ne (tgt := 25) (q := 10) hC d_Mo_outer_7 (by decide) rfl (fun h7 => ?_) (fun h7 => ?_)
  · have h7 := bz_1 h7
    refine x_iconst (q := 26) (v := nI 1) hC d_Mo_outer_25 (by decide) rfl ?_
    refine x_goto (tgt := 30) hC d_Mo_outer_26 (by decide) ?_
    exact x_iret hC rfl rfl ⟨bz_t (Or.inl h7), rfl⟩ (by decide) (by decide) d_Mo_outer_30
  · have h7 := bz_0 h7
    refine x_aload_n (q := 11) hC d_Mo_outer_10 rfl rfl rfl ?_
    refine x_getr (q := 14) (p := 185) (j := 12) (r := 196) hC f_Mo_41 rfl rfl rfl (by omega) (hu _ _ (by decide)) d_Mo_outer_11 rfl ?_
    refine x_bipush (q := 16) (v := nI 18) hC d_Mo_outer_14 (by decide) rfl ?_
    refine x_iload_n (q := 17) hC d_Mo_outer_16 rfl rfl rfl ?_
    refine x_imul (q := 18) (z := nI (18 * k)) hC d_Mo_outer_17 (pk_mul _ _) rfl ?_
    refine x_iload_n (q := 19) hC d_Mo_outer_18 rfl rfl rfl ?_
    refine x_iadd (q := 20) (z := nI ((18 * k) + st)) hC d_Mo_outer_19 (nI_add _ _) rfl ?_
    refine x_iald (q := 21) (p := 196) hC ((18 * k) + st) rfl (by omega) rfl (by omega) (by decide) d_Mo_outer_20 rfl ?_
    refine x_iload_n (q := 22) hC d_Mo_outer_21 rfl rfl rfl ?_
    refine x_icmp_ne (tgt := 29) (q := 25) hC d_Mo_outer_22 (by decide) rfl (fun h22 => ?_) (fun h22 => ?_)
    · skip
      refine x_iconst (q := 30) (v := nI 0) hC d_Mo_outer_29 (by decide) rfl ?_
      exact x_iret hC rfl rfl ⟨bz_f (fun q => q.elim h7 h22), rfl⟩ (by decide) (by decide) d_Mo_outer_30
    · skip
      refine x_iconst (q := 26) (v := nI 1) hC d_Mo_outer_25 (by decide) rfl ?_
      refine x_goto (tgt := 30) hC d_Mo_outer_26 (by decide) ?_
      exact x_iret hC rfl rfl ⟨bz_t (Or.inr h22), rfl⟩ (by decide) (by decide) d_Mo_outer_30
set_option maxRecDepth 100000 in
set_option maxHeartbeats 400000 in
theorem c_Mo_many0 {Γ : mx_X} {lau : Launch} {nx : Nat} {u : Nat → Nat → Bool} {mi : mx_Mm} {n st : Nat} (hnx : 214 ≤ nx) (hu : ∀ p k, 2 ≤ p → u p k = true) (hn : n < 6) (hst : st < 18) : mx_C Γ lau M_Mo_many [.ref 185, .int (nI n), .int (nI st), .int (nI 0)] (nx, u, mi) (fun ρ τ => ρ = some (.int (nI (Mo_m0 n st mi))) ∧ τ = (nx, u, mi)) := by
  refine mx_C.intro (by decide) rfl (Nat.le_of_ble_eq_true rfl) (fun κ _ hC => ?_)
  show mx_G Γ κ _ _ 0 [(0, .ref 185), (1, .int (nI n)), (2, .int (nI st)), (3, .int (nI 0))] [] (nx, u, mi) 0 0
  have J1 : mx_G Γ κ M_Mo_many (MQ (mx_b κ) (mx_Qc Γ (fun ρ τ => ρ = some (.int (nI (Mo_m0 n st mi))) ∧ τ = (nx, u, mi))) (mx_a κ) (mx_s κ) M_Mo_many.2.2.2.2.cells M_Mo_many.2.2.2.2.slots (mx_fr Γ)) 18 [(4, .int (nI (Mo_c0 n st mi))), (0, .ref 185), (1, .int (nI n)), (2, .int (nI st)), (3, .int (nI 0))] [] (nx, u, mi) 0 0 := by
    refine x_iconst (q := 19) (v := nI 0) hC d_Mo_many_18 (by decide) rfl ?_
    refine x_istore (q := 21) (L1 := [(5, .int (nI 0)), (4, .int (nI (Mo_c0 n st mi))), (0, .ref 185), (1, .int (nI n)), (2, .int (nI st)), (3, .int (nI 0))]) hC d_Mo_many_19 (by decide) rfl rfl ?_
    refine x_sub (L1 := [(5, .int (nI 0)), (4, .int (nI (Mo_c0 n st mi))), (0, .ref 185), (1, .int (nI n)), (2, .int (nI st)), (3, .int (nI 0))]) [0, 1, 2, 3, 4, 5] rfl ?_
    refine mx_loopG (N := 6) (Hd := fun k c => mx_G Γ κ _ _ 21 [(5, .int (nI k)), (4, .int (nI c)), (0, .ref 185), (1, .int (nI n)), (2, .int (nI st)), (3, .int (nI 0))] [] (nx, u, mi) 0 0) (Mo_n0 n st mi) (fun _ _ => True) (m := (Mo_c0 n st mi)) trivial ?_ ?_ ?_
    · exact fun _ _ _ _ => trivial
    · intro k c hl2 hI3 hN4
      refine x_iload (q := 23) hC d_Mo_many_21 rfl rfl ?_
      refine x_bipush (q := 25) (v := nI 6) hC d_Mo_many_23 (by decide) rfl ?_
      refine x_icmp_ge (tgt := 75) (q := 28) hC d_Mo_many_25 (by decide) rfl (fun h => absurd h (nI_ge hl2 (by decide))) (fun _ => ?_)
      refine x_iload_n (q := 29) hC d_Mo_many_28 rfl rfl rfl ?_
      refine x_if_eq (tgt := 43) (q := 32) hC d_Mo_many_29 (by decide) rfl (fun _ => ?_) (fun h => absurd (by decide) h)
      refine x_aload_n (q := 44) hC d_Mo_many_43 rfl rfl rfl ?_
      refine x_iload_n (q := 45) hC d_Mo_many_44 rfl rfl rfl ?_
      refine x_iload (q := 47) hC d_Mo_many_45 rfl rfl ?_
      refine x_iload_n (q := 48) hC d_Mo_many_47 rfl rfl rfl ?_
      refine x_callV (q := 51) (p := 185) (A := [.int (nI n), .int (nI k), .int (nI st)]) (S := []) (c1 := 0) (s1 := 0) hC (c_Mo_inner (n := n) (k := k) (st := st) (by omega) hu (by omega) (by omega) (by omega) ) s_Mo_many_134 rfl (by omega) rfl rfl rfl (Nat.le_of_ble_eq_true rfl) rfl rfl (by decide) (by decide) d_Mo_many_48 rfl (fun r τ hP => ?_)
      obtain ⟨rfl, rfl⟩ := hP
      show mx_G Γ κ _ _ 51 [(5, .int (nI k)), (4, .int (nI c)), (0, .ref 185), (1, .int (nI n)), (2, .int (nI st)), (3, .int (nI 0))] [.int (bz (Mo_in n k st mi))] (nx, u, mi) 0 0
      refine x_istore (q := 53) (L1 := [(6, .int (bz (Mo_in n k st mi))), (5, .int (nI k)), (4, .int (nI c)), (0, .ref 185), (1, .int (nI n)), (2, .int (nI st)), (3, .int (nI 0))]) hC d_Mo_many_51 (by decide) rfl rfl ?_
      refine x_iload (q := 55) hC d_Mo_many_53 rfl rfl ?_
      refine x_if_eq (tgt := 65) (q := 58) hC d_Mo_many_55 (by decide) rfl (fun h55 => ?_) (fun h55 => ?_)
      · have h55 := bz_0 h55
        refine x_iload (q := 67) hC d_Mo_many_65 rfl rfl ?_
        refine x_istore (q := 69) (L1 := [(4, .int (nI c)), (6, .int (bz (Mo_in n k st mi))), (5, .int (nI k)), (0, .ref 185), (1, .int (nI n)), (2, .int (nI st)), (3, .int (nI 0))]) hC d_Mo_many_67 (by decide) rfl rfl ?_
        refine x_iinc (q := 72) (y := nI (k + 1)) (L1 := [(5, .int (nI (k + 1))), (4, .int (nI c)), (6, .int (bz (Mo_in n k st mi))), (0, .ref 185), (1, .int (nI n)), (2, .int (nI st)), (3, .int (nI 0))]) hC d_Mo_many_69 rfl (mx_inc k) (by decide) rfl rfl ?_
        refine x_goto (tgt := 21) hC d_Mo_many_72 (by decide) ?_
        refine x_sub (L1 := [(5, .int (nI (k + 1))), (4, .int (nI c)), (0, .ref 185), (1, .int (nI n)), (2, .int (nI st)), (3, .int (nI 0))]) [0, 1, 3, 4, 5, 6] rfl (mx_eqG ?_ rfl ?_ hN4)
        · first | rw [Mo_n0, if_pos h55] | rw [Mo_n0, if_neg h55]
        · rfl
      · have h55 := bz_1 h55
        refine x_iload (q := 60) hC d_Mo_many_58 rfl rfl ?_
        refine x_iconst (q := 61) (v := nI 1) hC d_Mo_many_60 (by decide) rfl ?_
        refine x_iadd (q := 62) (z := nI (c + 1)) hC d_Mo_many_61 (nI_add _ _) rfl ?_
        refine x_goto (tgt := 67) hC d_Mo_many_62 (by decide) ?_
        refine x_istore (q := 69) (L1 := [(4, .int (nI (c + 1))), (6, .int (bz (Mo_in n k st mi))), (5, .int (nI k)), (0, .ref 185), (1, .int (nI n)), (2, .int (nI st)), (3, .int (nI 0))]) hC d_Mo_many_67 (by decide) rfl rfl ?_
        refine x_iinc (q := 72) (y := nI (k + 1)) (L1 := [(5, .int (nI (k + 1))), (4, .int (nI (c + 1))), (6, .int (bz (Mo_in n k st mi))), (0, .ref 185), (1, .int (nI n)), (2, .int (nI st)), (3, .int (nI 0))]) hC d_Mo_many_69 rfl (mx_inc k) (by decide) rfl rfl ?_
        refine x_goto (tgt := 21) hC d_Mo_many_72 (by decide) ?_
        refine x_sub (L1 := [(5, .int (nI (k + 1))), (4, .int (nI (c + 1))), (0, .ref 185), (1, .int (nI n)), (2, .int (nI st)), (3, .int (nI 0))]) [0, 1, 3, 4, 5, 6] rfl (mx_eqG ?_ rfl ?_ hN4)
        · first | rw [Mo_n0, if_pos h55] | rw [Mo_n0, if_neg h55]
        · rfl
    · intro hx5
      generalize e7 : mx_lp 6 (Mo_n0 n st mi) (Mo_c0 n st mi) = a6 at hx5 ⊢
      refine x_iload (q := 23) hC d_Mo_many_21 rfl rfl ?_
      refine x_bipush (q := 25) (v := nI 6) hC d_Mo_many_23 (by decide) rfl ?_
      refine x_icmp_ge (tgt := 75) (q := 28) hC d_Mo_many_25 (by decide) rfl (fun _ => ?_) (fun h => absurd (nI_le (Nat.le_refl _) (by decide)) h)
      refine x_iload (q := 77) hC d_Mo_many_75 rfl rfl ?_
      subst e7
      exact x_iret hC rfl rfl ⟨rfl, rfl⟩ (by decide) (by decide) d_Mo_many_77
  refine x_aload_n (q := 1) hC d_Mo_many_0 rfl rfl rfl ?_
  refine x_iload_n (q := 2) hC d_Mo_many_1 rfl rfl rfl ?_
  refine x_iload_n (q := 3) hC d_Mo_many_2 rfl rfl rfl ?_
  refine x_iconst (q := 4) (v := nI 3) hC d_Mo_many_3 (by decide) rfl ?_
  refine x_irem (q := 5) (z := nI (st % 3)) hC d_Mo_many_4 (by decide) (pk_rem (by omega) (by decide) (by decide)) rfl ?_
  refine x_callV (q := 8) (p := 185) (A := [.int (nI n), .int (nI (st % 3))]) (S := []) (c1 := 0) (s1 := 0) hC (c_Mo_onLan (l := n) (g := st % 3) (by omega) hu (by omega) (by omega) ) s_Mo_many_130 rfl (by omega) rfl rfl rfl (Nat.le_of_ble_eq_true rfl) rfl rfl (by decide) (by decide) d_Mo_many_5 rfl (fun r τ hP => ?_)
  obtain ⟨rfl, rfl⟩ := hP
  show mx_G Γ κ _ _ 8 [(0, .ref 185), (1, .int (nI n)), (2, .int (nI st)), (3, .int (nI 0))] [.int (bz (Mo_on n (st % 3) mi))] (nx, u, mi) 0 0
  refine x_if_eq (tgt := 15) (q := 11) hC d_Mo_many_8 (by decide) rfl (fun h8 => ?_) (fun h8 => ?_)
  · have h8 := bz_0 h8
    refine x_iconst (q := 16) (v := nI 0) hC d_Mo_many_15 (by decide) rfl ?_
    refine x_istore (q := 18) (L1 := [(4, .int (nI 0)), (0, .ref 185), (1, .int (nI n)), (2, .int (nI st)), (3, .int (nI 0))]) hC d_Mo_many_16 (by decide) rfl rfl ?_
    exact x_sub (L1 := [(4, .int (nI 0)), (0, .ref 185), (1, .int (nI n)), (2, .int (nI st)), (3, .int (nI 0))]) [0, 1, 2, 3, 4] rfl (mx_eqG (by first | rw [Mo_c0, if_pos h8] | rw [Mo_c0, if_neg h8]) rfl rfl J1)
  · have h8 := bz_1 h8
    refine x_iconst (q := 12) (v := nI 1) hC d_Mo_many_11 (by decide) rfl ?_
    refine x_goto (tgt := 16) hC d_Mo_many_12 (by decide) ?_
    refine x_istore (q := 18) (L1 := [(4, .int (nI 1)), (0, .ref 185), (1, .int (nI n)), (2, .int (nI st)), (3, .int (nI 0))]) hC d_Mo_many_16 (by decide) rfl rfl ?_
    exact x_sub (L1 := [(4, .int (nI 1)), (0, .ref 185), (1, .int (nI n)), (2, .int (nI st)), (3, .int (nI 0))]) [0, 1, 2, 3, 4] rfl (mx_eqG (by first | rw [Mo_c0, if_pos h8] | rw [Mo_c0, if_neg h8]) rfl rfl J1)
set_option maxRecDepth 100000 in
set_option maxHeartbeats 400000 in
theorem c_Mo_many1 {Γ : mx_X} {lau : Launch} {nx : Nat} {u : Nat → Nat → Bool} {mi : mx_Mm} {n st : Nat} (hnx : 214 ≤ nx) (hu : ∀ p k, 2 ≤ p → u p k = true) (hn : n < 6) (hst : st < 18) : mx_C Γ lau M_Mo_many [.ref 185, .int (nI n), .int (nI st), .int (nI 1)] (nx, u, mi) (fun ρ τ => ρ = some (.int (nI (Mo_m1 n st mi))) ∧ τ = (nx, u, mi)) := by
  refine mx_C.intro (by decide) rfl (Nat.le_of_ble_eq_true rfl) (fun κ _ hC => ?_)
  show mx_G Γ κ _ _ 0 [(0, .ref 185), (1, .int (nI n)), (2, .int (nI st)), (3, .int (nI 1))] [] (nx, u, mi) 0 0
  have J1 : mx_G Γ κ M_Mo_many (MQ (mx_b κ) (mx_Qc Γ (fun ρ τ => ρ = some (.int (nI (Mo_m1 n st mi))) ∧ τ = (nx, u, mi))) (mx_a κ) (mx_s κ) M_Mo_many.2.2.2.2.cells M_Mo_many.2.2.2.2.slots (mx_fr Γ)) 18 [(4, .int (nI (Mo_c0 n st mi))), (0, .ref 185), (1, .int (nI n)), (2, .int (nI st)), (3, .int (nI 1))] [] (nx, u, mi) 0 0 := by
    refine x_iconst (q := 19) (v := nI 0) hC d_Mo_many_18 (by decide) rfl ?_
    refine x_istore (q := 21) (L1 := [(5, .int (nI 0)), (4, .int (nI (Mo_c0 n st mi))), (0, .ref 185), (1, .int (nI n)), (2, .int (nI st)), (3, .int (nI 1))]) hC d_Mo_many_19 (by decide) rfl rfl ?_
    refine x_sub (L1 := [(5, .int (nI 0)), (4, .int (nI (Mo_c0 n st mi))), (0, .ref 185), (1, .int (nI n)), (2, .int (nI st)), (3, .int (nI 1))]) [0, 1, 2, 3, 4, 5] rfl ?_
    refine mx_loopG (N := 6) (Hd := fun k c => mx_G Γ κ _ _ 21 [(5, .int (nI k)), (4, .int (nI c)), (0, .ref 185), (1, .int (nI n)), (2, .int (nI st)), (3, .int (nI 1))] [] (nx, u, mi) 0 0) (Mo_n1 n st mi) (fun _ _ => True) (m := (Mo_c0 n st mi)) trivial ?_ ?_ ?_
    · exact fun _ _ _ _ => trivial
    · intro k c hl2 hI3 hN4
      refine x_iload (q := 23) hC d_Mo_many_21 rfl rfl ?_
      refine x_bipush (q := 25) (v := nI 6) hC d_Mo_many_23 (by decide) rfl ?_
      refine x_icmp_ge (tgt := 75) (q := 28) hC d_Mo_many_25 (by decide) rfl (fun h => absurd h (nI_ge hl2 (by decide))) (fun _ => ?_)
      refine x_iload_n (q := 29) hC d_Mo_many_28 rfl rfl rfl ?_
      refine x_if_eq (tgt := 43) (q := 32) hC d_Mo_many_29 (by decide) rfl (fun h => absurd h (by decide)) (fun _ => ?_)
      refine x_aload_n (q := 33) hC d_Mo_many_32 rfl rfl rfl ?_
      refine x_iload_n (q := 34) hC d_Mo_many_33 rfl rfl rfl ?_
      refine x_iload (q := 36) hC d_Mo_many_34 rfl rfl ?_
      refine x_iload_n (q := 37) hC d_Mo_many_36 rfl rfl rfl ?_
      refine x_callV (q := 40) (p := 185) (A := [.int (nI n), .int (nI k), .int (nI st)]) (S := []) (c1 := 0) (s1 := 0) hC (c_Mo_outer (n := n) (k := k) (st := st) (by omega) hu (by omega) (by omega) (by omega) ) s_Mo_many_137 rfl (by omega) rfl rfl rfl (Nat.le_of_ble_eq_true rfl) rfl rfl (by decide) (by decide) d_Mo_many_37 rfl (fun r τ hP => ?_)
      obtain ⟨rfl, rfl⟩ := hP
      show mx_G Γ κ _ _ 40 [(5, .int (nI k)), (4, .int (nI c)), (0, .ref 185), (1, .int (nI n)), (2, .int (nI st)), (3, .int (nI 1))] [.int (bz (Mo_out n k st mi))] (nx, u, mi) 0 0
      refine x_goto (tgt := 51) hC d_Mo_many_40 (by decide) ?_
      refine x_istore (q := 53) (L1 := [(6, .int (bz (Mo_out n k st mi))), (5, .int (nI k)), (4, .int (nI c)), (0, .ref 185), (1, .int (nI n)), (2, .int (nI st)), (3, .int (nI 1))]) hC d_Mo_many_51 (by decide) rfl rfl ?_
      refine x_iload (q := 55) hC d_Mo_many_53 rfl rfl ?_
      refine x_if_eq (tgt := 65) (q := 58) hC d_Mo_many_55 (by decide) rfl (fun h55 => ?_) (fun h55 => ?_)
      · have h55 := bz_0 h55
        refine x_iload (q := 67) hC d_Mo_many_65 rfl rfl ?_
        refine x_istore (q := 69) (L1 := [(4, .int (nI c)), (6, .int (bz (Mo_out n k st mi))), (5, .int (nI k)), (0, .ref 185), (1, .int (nI n)), (2, .int (nI st)), (3, .int (nI 1))]) hC d_Mo_many_67 (by decide) rfl rfl ?_
        refine x_iinc (q := 72) (y := nI (k + 1)) (L1 := [(5, .int (nI (k + 1))), (4, .int (nI c)), (6, .int (bz (Mo_out n k st mi))), (0, .ref 185), (1, .int (nI n)), (2, .int (nI st)), (3, .int (nI 1))]) hC d_Mo_many_69 rfl (mx_inc k) (by decide) rfl rfl ?_
        refine x_goto (tgt := 21) hC d_Mo_many_72 (by decide) ?_
        refine x_sub (L1 := [(5, .int (nI (k + 1))), (4, .int (nI c)), (0, .ref 185), (1, .int (nI n)), (2, .int (nI st)), (3, .int (nI 1))]) [0, 1, 3, 4, 5, 6] rfl (mx_eqG ?_ rfl ?_ hN4)
        · first | rw [Mo_n1, if_pos h55] | rw [Mo_n1, if_neg h55]
        · rfl
      · have h55 := bz_1 h55
        refine x_iload (q := 60) hC d_Mo_many_58 rfl rfl ?_
        refine x_iconst (q := 61) (v := nI 1) hC d_Mo_many_60 (by decide) rfl ?_
        refine x_iadd (q := 62) (z := nI (c + 1)) hC d_Mo_many_61 (nI_add _ _) rfl ?_
        refine x_goto (tgt := 67) hC d_Mo_many_62 (by decide) ?_
        refine x_istore (q := 69) (L1 := [(4, .int (nI (c + 1))), (6, .int (bz (Mo_out n k st mi))), (5, .int (nI k)), (0, .ref 185), (1, .int (nI n)), (2, .int (nI st)), (3, .int (nI 1))]) hC d_Mo_many_67 (by decide) rfl rfl ?_
        refine x_iinc (q := 72) (y := nI (k + 1)) (L1 := [(5, .int (nI (k + 1))), (4, .int (nI (c + 1))), (6, .int (bz (Mo_out n k st mi))), (0, .ref 185), (1, .int (nI n)), (2, .int (nI st)), (3, .int (nI 1))]) hC d_Mo_many_69 rfl (mx_inc k) (by decide) rfl rfl ?_
        refine x_goto (tgt := 21) hC d_Mo_many_72 (by decide) ?_
        refine x_sub (L1 := [(5, .int (nI (k + 1))), (4, .int (nI (c + 1))), (0, .ref 185), (1, .int (nI n)), (2, .int (nI st)), (3, .int (nI 1))]) [0, 1, 3, 4, 5, 6] rfl (mx_eqG ?_ rfl ?_ hN4)
        · first | rw [Mo_n1, if_pos h55] | rw [Mo_n1, if_neg h55]
        · rfl
    · intro hx5
      generalize e7 : mx_lp 6 (Mo_n1 n st mi) (Mo_c0 n st mi) = a6 at hx5 ⊢
      refine x_iload (q := 23) hC d_Mo_many_21 rfl rfl ?_
      refine x_bipush (q := 25) (v := nI 6) hC d_Mo_many_23 (by decide) rfl ?_
      refine x_icmp_ge (tgt := 75) (q := 28) hC d_Mo_many_25 (by decide) rfl (fun _ => ?_) (fun h => absurd (nI_le (Nat.le_refl _) (by decide)) h)
      refine x_iload (q := 77) hC d_Mo_many_75 rfl rfl ?_
      subst e7
      exact x_iret hC rfl rfl ⟨rfl, rfl⟩ (by decide) (by decide) d_Mo_many_77
  refine x_aload_n (q := 1) hC d_Mo_many_0 rfl rfl rfl ?_
  refine x_iload_n (q := 2) hC d_Mo_many_1 rfl rfl rfl ?_
  refine x_iload_n (q := 3) hC d_Mo_many_2 rfl rfl rfl ?_
  refine x_iconst (q := 4) (v := nI 3) hC d_Mo_many_3 (by decide) rfl ?_
  refine x_irem (q := 5) (z := nI (st % 3)) hC d_Mo_many_4 (by decide) (pk_rem (by omega) (by decide) (by decide)) rfl ?_
  refine x_callV (q := 8) (p := 185) (A := [.int (nI n), .int (nI (st % 3))]) (S := []) (c1 := 0) (s1 := 0) hC (c_Mo_onLan (l := n) (g := st % 3) (by omega) hu (by omega) (by omega) ) s_Mo_many_130 rfl (by omega) rfl rfl rfl (Nat.le_of_ble_eq_true rfl) rfl rfl (by decide) (by decide) d_Mo_many_5 rfl (fun r τ hP => ?_)
  obtain ⟨rfl, rfl⟩ := hP
  show mx_G Γ κ _ _ 8 [(0, .ref 185), (1, .int (nI n)), (2, .int (nI st)), (3, .int (nI 1))] [.int (bz (Mo_on n (st % 3) mi))] (nx, u, mi) 0 0
  refine x_if_eq (tgt := 15) (q := 11) hC d_Mo_many_8 (by decide) rfl (fun h8 => ?_) (fun h8 => ?_)
  · have h8 := bz_0 h8
    refine x_iconst (q := 16) (v := nI 0) hC d_Mo_many_15 (by decide) rfl ?_
    refine x_istore (q := 18) (L1 := [(4, .int (nI 0)), (0, .ref 185), (1, .int (nI n)), (2, .int (nI st)), (3, .int (nI 1))]) hC d_Mo_many_16 (by decide) rfl rfl ?_
    exact x_sub (L1 := [(4, .int (nI 0)), (0, .ref 185), (1, .int (nI n)), (2, .int (nI st)), (3, .int (nI 1))]) [0, 1, 2, 3, 4] rfl (mx_eqG (by first | rw [Mo_c0, if_pos h8] | rw [Mo_c0, if_neg h8]) rfl rfl J1)
  · have h8 := bz_1 h8
    refine x_iconst (q := 12) (v := nI 1) hC d_Mo_many_11 (by decide) rfl ?_
    refine x_goto (tgt := 16) hC d_Mo_many_12 (by decide) ?_
    refine x_istore (q := 18) (L1 := [(4, .int (nI 1)), (0, .ref 185), (1, .int (nI n)), (2, .int (nI st)), (3, .int (nI 1))]) hC d_Mo_many_16 (by decide) rfl rfl ?_
    exact x_sub (L1 := [(4, .int (nI 1)), (0, .ref 185), (1, .int (nI n)), (2, .int (nI st)), (3, .int (nI 1))]) [0, 1, 2, 3, 4] rfl (mx_eqG (by first | rw [Mo_c0, if_pos h8] | rw [Mo_c0, if_neg h8]) rfl rfl J1)
set_option maxRecDepth 100000 in
set_option maxHeartbeats 400000 in
theorem c_Mo_sharedDue {Γ : mx_X} {lau : Launch} {nx : Nat} {u : Nat → Nat → Bool} {mi : mx_Mm} {r n g : Nat} (hnx : 214 ≤ nx) (hu : ∀ p k, 2 ≤ p → u p k = true) (hn : n < 6) (hg : g < 3) (hr : r < 6) (hm : mi 185 0 = nI r) : mx_C Γ lau M_Mo_sharedDue [.ref 185, .int (nI n), .int (nI g)] (nx, u, mi) (fun ρ τ => ρ = some (.int (Mo_sd r n g mi)) ∧ τ = (nx, u, mi)) := by
  refine mx_C.intro (by decide) rfl (Nat.le_of_ble_eq_true rfl) (fun κ _ hC => ?_)
  show mx_G Γ κ _ _ 0 [(0, .ref 185), (1, .int (nI n)), (2, .int (nI g))] [] (nx, u, mi) 0 0
  refine x_aload_n (q := 1) hC d_Mo_sharedDue_0 rfl rfl rfl ?_
  refine x_iload_n (q := 2) hC d_Mo_sharedDue_1 rfl rfl rfl ?_
  refine x_iload_n (q := 3) hC d_Mo_sharedDue_2 rfl rfl rfl ?_
  refine x_callV (q := 6) (p := 185) (A := [.int (nI n), .int (nI g)]) (S := []) (c1 := 0) (s1 := 0) hC (c_Mo_onLan (l := n) (g := g) (by omega) hu (by omega) (by omega) ) s_Mo_sharedDue_130 rfl (by omega) rfl rfl rfl (Nat.le_of_ble_eq_true rfl) rfl rfl (by decide) (by decide) d_Mo_sharedDue_3 rfl (fun r τ hP => ?_)
  obtain ⟨rfl, rfl⟩ := hP
  show mx_G Γ κ _ _ 6 [(0, .ref 185), (1, .int (nI n)), (2, .int (nI g))] [.int (bz (Mo_on n g mi))] (nx, u, mi) 0 0
  refine x_istore_n (q := 7) (L1 := [(3, .int (bz (Mo_on n g mi))), (0, .ref 185), (1, .int (nI n)), (2, .int (nI g))]) hC d_Mo_sharedDue_6 rfl (by decide) rfl rfl ?_
  refine x_iconst (q := 8) (v := nI 0) hC d_Mo_sharedDue_7 (by decide) rfl ?_
  refine x_istore (q := 10) (L1 := [(4, .int (nI 0)), (3, .int (bz (Mo_on n g mi))), (0, .ref 185), (1, .int (nI n)), (2, .int (nI g))]) hC d_Mo_sharedDue_8 (by decide) rfl rfl ?_
  refine x_sub (L1 := [(4, .int (nI 0)), (3, .int (bz (Mo_on n g mi))), (0, .ref 185), (1, .int (nI n)), (2, .int (nI g))]) [0, 1, 2, 3, 4] rfl ?_
  refine mx_loopG (N := 6) (Hd := fun k a => mx_G Γ κ _ _ 10 [(4, .int (nI k)), (3, .int a), (0, .ref 185), (1, .int (nI n)), (2, .int (nI g))] [] (nx, u, mi) 0 0) (Mo_as1 n g mi) (fun _ _ => True) (m := (bz (Mo_on n g mi))) trivial ?_ ?_ ?_
  · exact fun _ _ _ _ => trivial
  · intro k a hl1 hI2 hN3
    refine x_iload (q := 12) hC d_Mo_sharedDue_10 rfl rfl ?_
    refine x_bipush (q := 14) (v := nI 6) hC d_Mo_sharedDue_12 (by decide) rfl ?_
    refine x_icmp_ge (tgt := 48) (q := 17) hC d_Mo_sharedDue_14 (by decide) rfl (fun h => absurd h (nI_ge hl1 (by decide))) (fun _ => ?_)
    refine x_iload_n (q := 18) hC d_Mo_sharedDue_17 rfl rfl rfl ?_
    refine x_if_ne (tgt := 36) (q := 21) hC d_Mo_sharedDue_18 (by decide) rfl (fun h18 => ?_) (fun h18 => ?_)
    · skip
      refine x_iconst (q := 37) (v := nI 1) hC d_Mo_sharedDue_36 (by decide) rfl ?_
      refine x_goto (tgt := 41) hC d_Mo_sharedDue_37 (by decide) ?_
      refine x_istore_n (q := 42) (L1 := [(3, .int (nI 1)), (4, .int (nI k)), (0, .ref 185), (1, .int (nI n)), (2, .int (nI g))]) hC d_Mo_sharedDue_41 rfl (by decide) rfl rfl ?_
      refine x_iinc (q := 45) (y := nI (k + 1)) (L1 := [(4, .int (nI (k + 1))), (3, .int (nI 1)), (0, .ref 185), (1, .int (nI n)), (2, .int (nI g))]) hC d_Mo_sharedDue_42 rfl (mx_inc k) (by decide) rfl rfl ?_
      refine x_goto (tgt := 10) hC d_Mo_sharedDue_45 (by decide) ?_
      refine x_sub (L1 := [(4, .int (nI (k + 1))), (3, .int (nI 1)), (0, .ref 185), (1, .int (nI n)), (2, .int (nI g))]) [0, 1, 2, 3, 4] rfl (mx_eqG ?_ rfl ?_ hN3)
      · first | (rw [Mo_as1, if_pos (Or.inl h18)]; done) | (rw [Mo_as1, if_pos (Or.inr h33)]; done) | (rw [Mo_as1, if_neg (not_or.mpr (And.intro (not_not_intro h18) h33))]; done)
      · rfl
    · skip
      refine x_aload_n (q := 22) hC d_Mo_sharedDue_21 rfl rfl rfl ?_
      refine x_getr (q := 25) (p := 185) (j := 8) (r := 192) hC f_Mo_29 rfl rfl rfl (by omega) (hu _ _ (by decide)) d_Mo_sharedDue_22 rfl ?_
      refine x_iconst (q := 26) (v := nI 3) hC d_Mo_sharedDue_25 (by decide) rfl ?_
      refine x_iload (q := 28) hC d_Mo_sharedDue_26 rfl rfl ?_
      refine x_imul (q := 29) (z := nI (3 * k)) hC d_Mo_sharedDue_28 (pk_mul _ _) rfl ?_
      refine x_iload_n (q := 30) hC d_Mo_sharedDue_29 rfl rfl rfl ?_
      refine x_iadd (q := 31) (z := nI ((3 * k) + g)) hC d_Mo_sharedDue_30 (nI_add _ _) rfl ?_
      refine x_iald (q := 32) (p := 192) hC ((3 * k) + g) rfl (by omega) rfl (by omega) (by decide) d_Mo_sharedDue_31 rfl ?_
      refine x_iload_n (q := 33) hC d_Mo_sharedDue_32 rfl rfl rfl ?_
      refine x_icmp_ne (tgt := 40) (q := 36) hC d_Mo_sharedDue_33 (by decide) rfl (fun h33 => ?_) (fun h33 => ?_)
      · skip
        refine x_iconst (q := 41) (v := nI 0) hC d_Mo_sharedDue_40 (by decide) rfl ?_
        refine x_istore_n (q := 42) (L1 := [(3, .int (nI 0)), (4, .int (nI k)), (0, .ref 185), (1, .int (nI n)), (2, .int (nI g))]) hC d_Mo_sharedDue_41 rfl (by decide) rfl rfl ?_
        refine x_iinc (q := 45) (y := nI (k + 1)) (L1 := [(4, .int (nI (k + 1))), (3, .int (nI 0)), (0, .ref 185), (1, .int (nI n)), (2, .int (nI g))]) hC d_Mo_sharedDue_42 rfl (mx_inc k) (by decide) rfl rfl ?_
        refine x_goto (tgt := 10) hC d_Mo_sharedDue_45 (by decide) ?_
        refine x_sub (L1 := [(4, .int (nI (k + 1))), (3, .int (nI 0)), (0, .ref 185), (1, .int (nI n)), (2, .int (nI g))]) [0, 1, 2, 3, 4] rfl (mx_eqG ?_ rfl ?_ hN3)
        · first | (rw [Mo_as1, if_pos (Or.inl h18)]; done) | (rw [Mo_as1, if_pos (Or.inr h33)]; done) | (rw [Mo_as1, if_neg (not_or.mpr (And.intro (not_not_intro h18) h33))]; done)
        · rfl
      · skip
        refine x_iconst (q := 37) (v := nI 1) hC d_Mo_sharedDue_36 (by decide) rfl ?_
        refine x_goto (tgt := 41) hC d_Mo_sharedDue_37 (by decide) ?_
        refine x_istore_n (q := 42) (L1 := [(3, .int (nI 1)), (4, .int (nI k)), (0, .ref 185), (1, .int (nI n)), (2, .int (nI g))]) hC d_Mo_sharedDue_41 rfl (by decide) rfl rfl ?_
        refine x_iinc (q := 45) (y := nI (k + 1)) (L1 := [(4, .int (nI (k + 1))), (3, .int (nI 1)), (0, .ref 185), (1, .int (nI n)), (2, .int (nI g))]) hC d_Mo_sharedDue_42 rfl (mx_inc k) (by decide) rfl rfl ?_
        refine x_goto (tgt := 10) hC d_Mo_sharedDue_45 (by decide) ?_
        refine x_sub (L1 := [(4, .int (nI (k + 1))), (3, .int (nI 1)), (0, .ref 185), (1, .int (nI n)), (2, .int (nI g))]) [0, 1, 2, 3, 4] rfl (mx_eqG ?_ rfl ?_ hN3)
        · first | (rw [Mo_as1, if_pos (Or.inl h18)]; done) | (rw [Mo_as1, if_pos (Or.inr h33)]; done) | (rw [Mo_as1, if_neg (not_or.mpr (And.intro (not_not_intro h18) h33))]; done)
        · rfl
  · intro hx4
    generalize e6 : mx_lp 6 (Mo_as1 n g mi) (bz (Mo_on n g mi)) = a5 at hx4 ⊢
    refine x_iload (q := 12) hC d_Mo_sharedDue_10 rfl rfl ?_
    refine x_bipush (q := 14) (v := nI 6) hC d_Mo_sharedDue_12 (by decide) rfl ?_
    refine x_icmp_ge (tgt := 48) (q := 17) hC d_Mo_sharedDue_14 (by decide) rfl (fun _ => ?_) (fun h => absurd (nI_le (Nat.le_refl _) (by decide)) h)
    refine x_iload_n (q := 49) hC d_Mo_sharedDue_48 rfl rfl rfl ?_
    refine x_if_eq (tgt := 69) (q := 52) hC d_Mo_sharedDue_49 (by decide) rfl (fun h49 => ?_) (fun h49 => ?_)
    · skip
      refine x_iconst (q := 70) (v := (-1)) hC d_Mo_sharedDue_69 (by decide) rfl ?_
      subst e6
      exact x_iret hC rfl rfl ⟨sv (it_t h49 rfl), rfl⟩ (by decide) (by decide) d_Mo_sharedDue_70
    · skip
      refine x_aload_n (q := 53) hC d_Mo_sharedDue_52 rfl rfl rfl ?_
      refine x_getr (q := 56) (p := 185) (j := 4) (r := 188) hC f_Mo_16 rfl rfl rfl (by omega) (hu _ _ (by decide)) d_Mo_sharedDue_53 rfl ?_
      refine x_bipush (q := 58) (v := nI 6) hC d_Mo_sharedDue_56 (by decide) rfl ?_
      refine x_iload_n (q := 59) hC d_Mo_sharedDue_58 rfl rfl rfl ?_
      refine x_imul (q := 60) (z := nI (6 * n)) hC d_Mo_sharedDue_59 (pk_mul _ _) rfl ?_
      refine x_aload_n (q := 61) hC d_Mo_sharedDue_60 rfl rfl rfl ?_
      refine x_geti (q := 64) (p := 185) (j := 0) hC f_Mo_103 rfl rfl (by omega) d_Mo_sharedDue_61 rfl ?_
      refine mx_eqG (S1 := [.int (nI r), .int (nI (6 * n)), .ref 188]) rfl (by exact congrArg (fun z => Value.int z :: ([.int (nI (6 * n)), .ref 188] : List Value)) (show mi 185 0 = nI r from hm)) rfl ?_
      refine x_iadd (q := 65) (z := nI ((6 * n) + r)) hC d_Mo_sharedDue_64 (nI_add _ _) rfl ?_
      refine x_iald (q := 66) (p := 188) hC ((6 * n) + r) rfl (by omega) rfl (by omega) (by decide) d_Mo_sharedDue_65 rfl ?_
      refine x_goto (tgt := 70) hC d_Mo_sharedDue_66 (by decide) ?_
      subst e6
      exact x_iret hC rfl rfl ⟨sv (it_f h49 rfl), rfl⟩ (by decide) (by decide) d_Mo_sharedDue_70
set_option maxRecDepth 100000 in
set_option maxHeartbeats 400000 in
theorem c_Mo_cutDue {Γ : mx_X} {lau : Launch} {nx : Nat} {u : Nat → Nat → Bool} {mi : mx_Mm} {r n st : Nat} (hnx : 214 ≤ nx) (hu : ∀ p k, 2 ≤ p → u p k = true) (hn : n < 6) (hst : st < 18) (hr : r < 6) (hm : mi 185 0 = nI r) : mx_C Γ lau M_Mo_cutDue [.ref 185, .int (nI n), .int (nI st)] (nx, u, mi) (fun ρ τ => ρ = some (.int (Mo_cd r n st mi)) ∧ τ = (nx, u, mi)) := by
  refine mx_C.intro (by decide) rfl (Nat.le_of_ble_eq_true rfl) (fun κ _ hC => ?_)
  show mx_G Γ κ _ _ 0 [(0, .ref 185), (1, .int (nI n)), (2, .int (nI st))] [] (nx, u, mi) 0 0
  refine x_aload_n (q := 1) hC d_Mo_cutDue_0 rfl rfl rfl ?_
  refine x_getr (q := 4) (p := 185) (j := 4) (r := 188) hC f_Mo_16 rfl rfl rfl (by omega) (hu _ _ (by decide)) d_Mo_cutDue_1 rfl ?_
  refine x_bipush (q := 6) (v := nI 6) hC d_Mo_cutDue_4 (by decide) rfl ?_
  refine x_iload_n (q := 7) hC d_Mo_cutDue_6 rfl rfl rfl ?_
  refine x_imul (q := 8) (z := nI (6 * n)) hC d_Mo_cutDue_7 (pk_mul _ _) rfl ?_
  refine x_aload_n (q := 9) hC d_Mo_cutDue_8 rfl rfl rfl ?_
  refine x_geti (q := 12) (p := 185) (j := 0) hC f_Mo_103 rfl rfl (by omega) d_Mo_cutDue_9 rfl ?_
  refine mx_eqG (S1 := [.int (nI r), .int (nI (6 * n)), .ref 188]) rfl (by exact congrArg (fun z => Value.int z :: ([.int (nI (6 * n)), .ref 188] : List Value)) (show mi 185 0 = nI r from hm)) rfl ?_
  refine x_iadd (q := 13) (z := nI ((6 * n) + r)) hC d_Mo_cutDue_12 (nI_add _ _) rfl ?_
  refine x_iald (q := 14) (p := 188) hC ((6 * n) + r) rfl (by omega) rfl (by omega) (by decide) d_Mo_cutDue_13 rfl ?_
  refine x_istore_n (q := 15) (L1 := [(3, .int (mi 188 ((6 * n) + r))), (0, .ref 185), (1, .int (nI n)), (2, .int (nI st))]) hC d_Mo_cutDue_14 rfl (by decide) rfl rfl ?_
  refine x_iload_n (q := 16) hC d_Mo_cutDue_15 rfl rfl rfl ?_
  refine x_if_lt (tgt := 35) (q := 19) hC d_Mo_cutDue_16 (by decide) rfl (fun h16 => ?_) (fun h16 => ?_)
  · skip
    refine x_iconst (q := 36) (v := (-1)) hC d_Mo_cutDue_35 (by decide) rfl ?_
    exact x_iret hC rfl rfl ⟨sv (it_t (Or.inl h16) rfl), rfl⟩ (by decide) (by decide) d_Mo_cutDue_36
  · skip
    refine x_aload_n (q := 20) hC d_Mo_cutDue_19 rfl rfl rfl ?_
    refine x_getr (q := 23) (p := 185) (j := 8) (r := 192) hC f_Mo_29 rfl rfl rfl (by omega) (hu _ _ (by decide)) d_Mo_cutDue_20 rfl ?_
    refine x_iconst (q := 24) (v := nI 3) hC d_Mo_cutDue_23 (by decide) rfl ?_
    refine x_iload_n (q := 25) hC d_Mo_cutDue_24 rfl rfl rfl ?_
    refine x_imul (q := 26) (z := nI (3 * n)) hC d_Mo_cutDue_25 (pk_mul _ _) rfl ?_
    refine x_iload_n (q := 27) hC d_Mo_cutDue_26 rfl rfl rfl ?_
    refine x_iconst (q := 28) (v := nI 3) hC d_Mo_cutDue_27 (by decide) rfl ?_
    refine x_irem (q := 29) (z := nI (st % 3)) hC d_Mo_cutDue_28 (by decide) (pk_rem (by omega) (by decide) (by decide)) rfl ?_
    refine x_iadd (q := 30) (z := nI ((3 * n) + (st % 3))) hC d_Mo_cutDue_29 (nI_add _ _) rfl ?_
    refine x_iald (q := 31) (p := 192) hC ((3 * n) + (st % 3)) rfl (by omega) rfl (by omega) (by decide) d_Mo_cutDue_30 rfl ?_
    refine x_iload_n (q := 32) hC d_Mo_cutDue_31 rfl rfl rfl ?_
    refine x_icmp_eq (tgt := 37) (q := 35) hC d_Mo_cutDue_32 (by decide) rfl (fun h32 => ?_) (fun h32 => ?_)
    · skip
      refine x_aload_n (q := 38) hC d_Mo_cutDue_37 rfl rfl rfl ?_
      refine x_iload_n (q := 39) hC d_Mo_cutDue_38 rfl rfl rfl ?_
      refine x_iload_n (q := 40) hC d_Mo_cutDue_39 rfl rfl rfl ?_
      refine x_iconst (q := 41) (v := nI 0) hC d_Mo_cutDue_40 (by decide) rfl ?_
      refine x_callV (q := 44) (p := 185) (A := [.int (nI n), .int (nI st), .int (nI 0)]) (S := []) (c1 := 0) (s1 := 0) hC (c_Mo_many0 (n := n) (st := st) (by omega) hu (by omega) (by omega)) s_Mo_cutDue_140 rfl (by omega) rfl rfl rfl (Nat.le_of_ble_eq_true rfl) rfl rfl (by decide) (by decide) d_Mo_cutDue_41 rfl (fun r τ hP => ?_)
      obtain ⟨rfl, rfl⟩ := hP
      show mx_G Γ κ _ _ 44 [(3, .int (mi 188 ((6 * n) + r))), (0, .ref 185), (1, .int (nI n)), (2, .int (nI st))] [.int (nI (Mo_m0 n st mi))] (nx, u, mi) 0 0
      refine x_istore (q := 46) (L1 := [(4, .int (nI (Mo_m0 n st mi))), (3, .int (mi 188 ((6 * n) + r))), (0, .ref 185), (1, .int (nI n)), (2, .int (nI st))]) hC d_Mo_cutDue_44 (by decide) rfl rfl ?_
      refine x_aload_n (q := 47) hC d_Mo_cutDue_46 rfl rfl rfl ?_
      refine x_getr (q := 50) (p := 185) (j := 15) (r := 199) hC f_Mo_50 rfl rfl rfl (by omega) (hu _ _ (by decide)) d_Mo_cutDue_47 rfl ?_
      refine x_bipush (q := 52) (v := nI 18) hC d_Mo_cutDue_50 (by decide) rfl ?_
      refine x_iload_n (q := 53) hC d_Mo_cutDue_52 rfl rfl rfl ?_
      refine x_imul (q := 54) (z := nI (18 * n)) hC d_Mo_cutDue_53 (pk_mul _ _) rfl ?_
      refine x_iload_n (q := 55) hC d_Mo_cutDue_54 rfl rfl rfl ?_
      refine x_iadd (q := 56) (z := nI ((18 * n) + st)) hC d_Mo_cutDue_55 (nI_add _ _) rfl ?_
      refine x_zald (q := 57) (p := 199) hC ((18 * n) + st) rfl (by omega) rfl (by omega) (by decide) d_Mo_cutDue_56 rfl ?_
      refine x_if_eq (tgt := 81) (q := 60) hC d_Mo_cutDue_57 (by decide) rfl (fun h57 => ?_) (fun h57 => ?_)
      · skip
        refine x_iconst (q := 82) (v := nI 0) hC d_Mo_cutDue_81 (by decide) rfl ?_
        refine x_istore (q := 84) (L1 := [(5, .int (nI 0)), (4, .int (nI (Mo_m0 n st mi))), (3, .int (mi 188 ((6 * n) + r))), (0, .ref 185), (1, .int (nI n)), (2, .int (nI st))]) hC d_Mo_cutDue_82 (by decide) rfl rfl ?_
        refine x_iload (q := 86) hC d_Mo_cutDue_84 rfl rfl ?_
        refine x_if_eq (tgt := 94) (q := 89) hC d_Mo_cutDue_86 (by decide) rfl (fun h86 => ?_) (fun h86 => ?_)
        · skip
          refine x_iload_n (q := 95) hC d_Mo_cutDue_94 rfl rfl rfl ?_
          refine x_goto (tgt := 99) hC d_Mo_cutDue_95 (by decide) ?_
          exact x_iret hC rfl rfl ⟨sv (it_f (fun q => q.elim h16 (fun z => z h32)) (it_t (Or.inl h86) rfl)), rfl⟩ (by decide) (by decide) d_Mo_cutDue_99
        · skip
          refine x_iload (q := 91) hC d_Mo_cutDue_89 rfl rfl ?_
          refine x_if_eq (tgt := 98) (q := 94) hC d_Mo_cutDue_91 (by decide) rfl (fun _ => ?_) (fun h => absurd (by decide) h)
          refine x_iconst (q := 99) (v := (-1)) hC d_Mo_cutDue_98 (by decide) rfl ?_
          exact x_iret hC rfl rfl ⟨sv (it_f (fun q => q.elim h16 (fun z => z h32)) (it_f (fun q => q.elim h86 (fun z => z.1 h57)) rfl)), rfl⟩ (by decide) (by decide) d_Mo_cutDue_99
      · skip
        refine x_aload_n (q := 61) hC d_Mo_cutDue_60 rfl rfl rfl ?_
        refine x_getr (q := 64) (p := 185) (j := 4) (r := 188) hC f_Mo_16 rfl rfl rfl (by omega) (hu _ _ (by decide)) d_Mo_cutDue_61 rfl ?_
        refine x_bipush (q := 66) (v := nI 6) hC d_Mo_cutDue_64 (by decide) rfl ?_
        refine x_iload_n (q := 67) hC d_Mo_cutDue_66 rfl rfl rfl ?_
        refine x_imul (q := 68) (z := nI (6 * n)) hC d_Mo_cutDue_67 (pk_mul _ _) rfl ?_
        refine x_iload_n (q := 69) hC d_Mo_cutDue_68 rfl rfl rfl ?_
        refine x_iconst (q := 70) (v := nI 3) hC d_Mo_cutDue_69 (by decide) rfl ?_
        refine x_idiv (q := 71) (z := nI (st / 3)) hC d_Mo_cutDue_70 (by decide) (pk_div (by omega) (by decide) (by decide)) rfl ?_
        refine x_iadd (q := 72) (z := nI ((6 * n) + (st / 3))) hC d_Mo_cutDue_71 (nI_add _ _) rfl ?_
        refine x_iald (q := 73) (p := 188) hC ((6 * n) + (st / 3)) rfl (by omega) rfl (by omega) (by decide) d_Mo_cutDue_72 rfl ?_
        refine x_iload_n (q := 74) hC d_Mo_cutDue_73 rfl rfl rfl ?_
        refine x_icmp_eq (tgt := 81) (q := 77) hC d_Mo_cutDue_74 (by decide) rfl (fun h74 => ?_) (fun h74 => ?_)
        · skip
          refine x_iconst (q := 82) (v := nI 0) hC d_Mo_cutDue_81 (by decide) rfl ?_
          refine x_istore (q := 84) (L1 := [(5, .int (nI 0)), (4, .int (nI (Mo_m0 n st mi))), (3, .int (mi 188 ((6 * n) + r))), (0, .ref 185), (1, .int (nI n)), (2, .int (nI st))]) hC d_Mo_cutDue_82 (by decide) rfl rfl ?_
          refine x_iload (q := 86) hC d_Mo_cutDue_84 rfl rfl ?_
          refine x_if_eq (tgt := 94) (q := 89) hC d_Mo_cutDue_86 (by decide) rfl (fun h86 => ?_) (fun h86 => ?_)
          · skip
            refine x_iload_n (q := 95) hC d_Mo_cutDue_94 rfl rfl rfl ?_
            refine x_goto (tgt := 99) hC d_Mo_cutDue_95 (by decide) ?_
            exact x_iret hC rfl rfl ⟨sv (it_f (fun q => q.elim h16 (fun z => z h32)) (it_t (Or.inl h86) rfl)), rfl⟩ (by decide) (by decide) d_Mo_cutDue_99
          · skip
            refine x_iload (q := 91) hC d_Mo_cutDue_89 rfl rfl ?_
            refine x_if_eq (tgt := 98) (q := 94) hC d_Mo_cutDue_91 (by decide) rfl (fun _ => ?_) (fun h => absurd (by decide) h)
            refine x_iconst (q := 99) (v := (-1)) hC d_Mo_cutDue_98 (by decide) rfl ?_
            exact x_iret hC rfl rfl ⟨sv (it_f (fun q => q.elim h16 (fun z => z h32)) (it_f (fun q => q.elim h86 (fun z => z.2 h74)) rfl)), rfl⟩ (by decide) (by decide) d_Mo_cutDue_99
        · skip
          refine x_iconst (q := 78) (v := nI 1) hC d_Mo_cutDue_77 (by decide) rfl ?_
          refine x_goto (tgt := 82) hC d_Mo_cutDue_78 (by decide) ?_
          refine x_istore (q := 84) (L1 := [(5, .int (nI 1)), (4, .int (nI (Mo_m0 n st mi))), (3, .int (mi 188 ((6 * n) + r))), (0, .ref 185), (1, .int (nI n)), (2, .int (nI st))]) hC d_Mo_cutDue_82 (by decide) rfl rfl ?_
          refine x_iload (q := 86) hC d_Mo_cutDue_84 rfl rfl ?_
          refine x_if_eq (tgt := 94) (q := 89) hC d_Mo_cutDue_86 (by decide) rfl (fun h86 => ?_) (fun h86 => ?_)
          · skip
            refine x_iload_n (q := 95) hC d_Mo_cutDue_94 rfl rfl rfl ?_
            refine x_goto (tgt := 99) hC d_Mo_cutDue_95 (by decide) ?_
            exact x_iret hC rfl rfl ⟨sv (it_f (fun q => q.elim h16 (fun z => z h32)) (it_t (Or.inl h86) rfl)), rfl⟩ (by decide) (by decide) d_Mo_cutDue_99
          · skip
            refine x_iload (q := 91) hC d_Mo_cutDue_89 rfl rfl ?_
            refine x_if_eq (tgt := 98) (q := 94) hC d_Mo_cutDue_91 (by decide) rfl (fun h => absurd h (by decide)) (fun _ => ?_)
            refine x_iload_n (q := 95) hC d_Mo_cutDue_94 rfl rfl rfl ?_
            refine x_goto (tgt := 99) hC d_Mo_cutDue_95 (by decide) ?_
            exact x_iret hC rfl rfl ⟨sv (it_f (fun q => q.elim h16 (fun z => z h32)) (it_t (Or.inr (And.intro h57 h74)) rfl)), rfl⟩ (by decide) (by decide) d_Mo_cutDue_99
    · skip
      refine x_iconst (q := 36) (v := (-1)) hC d_Mo_cutDue_35 (by decide) rfl ?_
      exact x_iret hC rfl rfl ⟨sv (it_t (Or.inr h32) rfl), rfl⟩ (by decide) (by decide) d_Mo_cutDue_36
set_option maxRecDepth 100000 in
set_option maxHeartbeats 400000 in
theorem c_Mo_pullDue {Γ : mx_X} {lau : Launch} {nx : Nat} {u : Nat → Nat → Bool} {mi : mx_Mm} {n st : Nat} (hnx : 214 ≤ nx) (hu : ∀ p k, 2 ≤ p → u p k = true) (hn : n < 6) (hst : st < 18) : mx_C Γ lau M_Mo_pullDue [.ref 185, .int (nI n), .int (nI st)] (nx, u, mi) (fun ρ τ => ρ = some (.int (Mo_pd n st mi)) ∧ τ = (nx, u, mi)) := by
  refine mx_C.intro (by decide) rfl (Nat.le_of_ble_eq_true rfl) (fun κ _ hC => ?_)
  show mx_G Γ κ _ _ 0 [(0, .ref 185), (1, .int (nI n)), (2, .int (nI st))] [] (nx, u, mi) 0 0
  refine x_iconst (q := 1) (v := nI 0) hC d_Mo_pullDue_0 (by decide) rfl ?_
  refine x_istore_n (q := 2) (L1 := [(3, .int (nI 0)), (0, .ref 185), (1, .int (nI n)), (2, .int (nI st))]) hC d_Mo_pullDue_1 rfl (by decide) rfl rfl ?_
  refine x_iconst (q := 3) (v := nI 0) hC d_Mo_pullDue_2 (by decide) rfl ?_
  refine x_istore (q := 5) (L1 := [(4, .int (nI 0)), (3, .int (nI 0)), (0, .ref 185), (1, .int (nI n)), (2, .int (nI st))]) hC d_Mo_pullDue_3 (by decide) rfl rfl ?_
  refine x_sub (L1 := [(4, .int (nI 0)), (3, .int (nI 0)), (0, .ref 185), (1, .int (nI n)), (2, .int (nI st))]) [0, 1, 2, 3, 4] rfl ?_
  refine mx_loopG (N := 6) (Hd := fun k a => mx_G Γ κ _ _ 5 [(4, .int (nI k)), (3, .int a), (0, .ref 185), (1, .int (nI n)), (2, .int (nI st))] [] (nx, u, mi) 0 0) (Mo_ap1 n st mi) (fun _ _ => True) (m := (nI 0)) trivial ?_ ?_ ?_
  · exact fun _ _ _ _ => trivial
  · intro k a hl1 hI2 hN3
    refine x_iload (q := 7) hC d_Mo_pullDue_5 rfl rfl ?_
    refine x_bipush (q := 9) (v := nI 6) hC d_Mo_pullDue_7 (by decide) rfl ?_
    refine x_icmp_ge (tgt := 44) (q := 12) hC d_Mo_pullDue_9 (by decide) rfl (fun h => absurd h (nI_ge hl1 (by decide))) (fun _ => ?_)
    refine x_iload_n (q := 13) hC d_Mo_pullDue_12 rfl rfl rfl ?_
    refine x_if_ne (tgt := 32) (q := 16) hC d_Mo_pullDue_13 (by decide) rfl (fun h13 => ?_) (fun h13 => ?_)
    · skip
      refine x_iconst (q := 33) (v := nI 1) hC d_Mo_pullDue_32 (by decide) rfl ?_
      refine x_goto (tgt := 37) hC d_Mo_pullDue_33 (by decide) ?_
      refine x_istore_n (q := 38) (L1 := [(3, .int (nI 1)), (4, .int (nI k)), (0, .ref 185), (1, .int (nI n)), (2, .int (nI st))]) hC d_Mo_pullDue_37 rfl (by decide) rfl rfl ?_
      refine x_iinc (q := 41) (y := nI (k + 1)) (L1 := [(4, .int (nI (k + 1))), (3, .int (nI 1)), (0, .ref 185), (1, .int (nI n)), (2, .int (nI st))]) hC d_Mo_pullDue_38 rfl (mx_inc k) (by decide) rfl rfl ?_
      refine x_goto (tgt := 5) hC d_Mo_pullDue_41 (by decide) ?_
      refine x_sub (L1 := [(4, .int (nI (k + 1))), (3, .int (nI 1)), (0, .ref 185), (1, .int (nI n)), (2, .int (nI st))]) [0, 1, 2, 3, 4] rfl (mx_eqG ?_ rfl ?_ hN3)
      · first | (rw [Mo_ap1, if_pos (Or.inl h13)]; done) | (rw [Mo_ap1, if_pos (Or.inr h29)]; done) | (rw [Mo_ap1, if_neg (not_or.mpr (And.intro (not_not_intro h13) h29))]; done)
      · rfl
    · skip
      refine x_aload_n (q := 17) hC d_Mo_pullDue_16 rfl rfl rfl ?_
      refine x_getr (q := 20) (p := 185) (j := 12) (r := 196) hC f_Mo_41 rfl rfl rfl (by omega) (hu _ _ (by decide)) d_Mo_pullDue_17 rfl ?_
      refine x_bipush (q := 22) (v := nI 18) hC d_Mo_pullDue_20 (by decide) rfl ?_
      refine x_iload (q := 24) hC d_Mo_pullDue_22 rfl rfl ?_
      refine x_imul (q := 25) (z := nI (18 * k)) hC d_Mo_pullDue_24 (pk_mul _ _) rfl ?_
      refine x_iload_n (q := 26) hC d_Mo_pullDue_25 rfl rfl rfl ?_
      refine x_iadd (q := 27) (z := nI ((18 * k) + st)) hC d_Mo_pullDue_26 (nI_add _ _) rfl ?_
      refine x_iald (q := 28) (p := 196) hC ((18 * k) + st) rfl (by omega) rfl (by omega) (by decide) d_Mo_pullDue_27 rfl ?_
      refine x_iload_n (q := 29) hC d_Mo_pullDue_28 rfl rfl rfl ?_
      refine x_icmp_ne (tgt := 36) (q := 32) hC d_Mo_pullDue_29 (by decide) rfl (fun h29 => ?_) (fun h29 => ?_)
      · skip
        refine x_iconst (q := 37) (v := nI 0) hC d_Mo_pullDue_36 (by decide) rfl ?_
        refine x_istore_n (q := 38) (L1 := [(3, .int (nI 0)), (4, .int (nI k)), (0, .ref 185), (1, .int (nI n)), (2, .int (nI st))]) hC d_Mo_pullDue_37 rfl (by decide) rfl rfl ?_
        refine x_iinc (q := 41) (y := nI (k + 1)) (L1 := [(4, .int (nI (k + 1))), (3, .int (nI 0)), (0, .ref 185), (1, .int (nI n)), (2, .int (nI st))]) hC d_Mo_pullDue_38 rfl (mx_inc k) (by decide) rfl rfl ?_
        refine x_goto (tgt := 5) hC d_Mo_pullDue_41 (by decide) ?_
        refine x_sub (L1 := [(4, .int (nI (k + 1))), (3, .int (nI 0)), (0, .ref 185), (1, .int (nI n)), (2, .int (nI st))]) [0, 1, 2, 3, 4] rfl (mx_eqG ?_ rfl ?_ hN3)
        · first | (rw [Mo_ap1, if_pos (Or.inl h13)]; done) | (rw [Mo_ap1, if_pos (Or.inr h29)]; done) | (rw [Mo_ap1, if_neg (not_or.mpr (And.intro (not_not_intro h13) h29))]; done)
        · rfl
      · skip
        refine x_iconst (q := 33) (v := nI 1) hC d_Mo_pullDue_32 (by decide) rfl ?_
        refine x_goto (tgt := 37) hC d_Mo_pullDue_33 (by decide) ?_
        refine x_istore_n (q := 38) (L1 := [(3, .int (nI 1)), (4, .int (nI k)), (0, .ref 185), (1, .int (nI n)), (2, .int (nI st))]) hC d_Mo_pullDue_37 rfl (by decide) rfl rfl ?_
        refine x_iinc (q := 41) (y := nI (k + 1)) (L1 := [(4, .int (nI (k + 1))), (3, .int (nI 1)), (0, .ref 185), (1, .int (nI n)), (2, .int (nI st))]) hC d_Mo_pullDue_38 rfl (mx_inc k) (by decide) rfl rfl ?_
        refine x_goto (tgt := 5) hC d_Mo_pullDue_41 (by decide) ?_
        refine x_sub (L1 := [(4, .int (nI (k + 1))), (3, .int (nI 1)), (0, .ref 185), (1, .int (nI n)), (2, .int (nI st))]) [0, 1, 2, 3, 4] rfl (mx_eqG ?_ rfl ?_ hN3)
        · first | (rw [Mo_ap1, if_pos (Or.inl h13)]; done) | (rw [Mo_ap1, if_pos (Or.inr h29)]; done) | (rw [Mo_ap1, if_neg (not_or.mpr (And.intro (not_not_intro h13) h29))]; done)
        · rfl
  · intro hx4
    generalize e6 : mx_lp 6 (Mo_ap1 n st mi) (nI 0) = a5 at hx4 ⊢
    refine x_iload (q := 7) hC d_Mo_pullDue_5 rfl rfl ?_
    refine x_bipush (q := 9) (v := nI 6) hC d_Mo_pullDue_7 (by decide) rfl ?_
    refine x_icmp_ge (tgt := 44) (q := 12) hC d_Mo_pullDue_9 (by decide) rfl (fun _ => ?_) (fun h => absurd (nI_le (Nat.le_refl _) (by decide)) h)
    refine x_aload_n (q := 45) hC d_Mo_pullDue_44 rfl rfl rfl ?_
    refine x_iload_n (q := 46) hC d_Mo_pullDue_45 rfl rfl rfl ?_
    refine x_iload_n (q := 47) hC d_Mo_pullDue_46 rfl rfl rfl ?_
    refine x_iconst (q := 48) (v := nI 1) hC d_Mo_pullDue_47 (by decide) rfl ?_
    refine x_callV (q := 51) (p := 185) (A := [.int (nI n), .int (nI st), .int (nI 1)]) (S := []) (c1 := 0) (s1 := 0) hC (c_Mo_many1 (n := n) (st := st) (by omega) hu (by omega) (by omega)) s_Mo_pullDue_140 rfl (by omega) rfl rfl rfl (Nat.le_of_ble_eq_true rfl) rfl rfl (by decide) (by decide) d_Mo_pullDue_48 rfl (fun r τ hP => ?_)
    obtain ⟨rfl, rfl⟩ := hP
    show mx_G Γ κ _ _ 51 [(4, .int (nI 6)), (3, .int a5), (0, .ref 185), (1, .int (nI n)), (2, .int (nI st))] [.int (nI (Mo_m1 n st mi))] (nx, u, mi) 0 0
    refine x_istore (q := 53) (L1 := [(4, .int (nI (Mo_m1 n st mi))), (3, .int a5), (0, .ref 185), (1, .int (nI n)), (2, .int (nI st))]) hC d_Mo_pullDue_51 (by decide) rfl rfl ?_
    refine x_iload_n (q := 54) hC d_Mo_pullDue_53 rfl rfl rfl ?_
    refine x_if_ne (tgt := 80) (q := 57) hC d_Mo_pullDue_54 (by decide) rfl (fun h54 => ?_) (fun h54 => ?_)
    · skip
      refine x_iconst (q := 81) (v := nI 1) hC d_Mo_pullDue_80 (by decide) rfl ?_
      refine x_goto (tgt := 85) hC d_Mo_pullDue_81 (by decide) ?_
      refine x_istore_n (q := 86) (L1 := [(3, .int (nI 1)), (4, .int (nI (Mo_m1 n st mi))), (0, .ref 185), (1, .int (nI n)), (2, .int (nI st))]) hC d_Mo_pullDue_85 rfl (by decide) rfl rfl ?_
      refine x_iload_n (q := 87) hC d_Mo_pullDue_86 rfl rfl rfl ?_
      refine x_if_eq (tgt := 106) (q := 90) hC d_Mo_pullDue_87 (by decide) rfl (fun h => absurd h (by decide)) (fun _ => ?_)
      refine x_aload_n (q := 91) hC d_Mo_pullDue_90 rfl rfl rfl ?_
      refine x_getr (q := 94) (p := 185) (j := 4) (r := 188) hC f_Mo_16 rfl rfl rfl (by omega) (hu _ _ (by decide)) d_Mo_pullDue_91 rfl ?_
      refine x_bipush (q := 96) (v := nI 6) hC d_Mo_pullDue_94 (by decide) rfl ?_
      refine x_iload_n (q := 97) hC d_Mo_pullDue_96 rfl rfl rfl ?_
      refine x_imul (q := 98) (z := nI (6 * n)) hC d_Mo_pullDue_97 (pk_mul _ _) rfl ?_
      refine x_iload_n (q := 99) hC d_Mo_pullDue_98 rfl rfl rfl ?_
      refine x_iconst (q := 100) (v := nI 3) hC d_Mo_pullDue_99 (by decide) rfl ?_
      refine x_idiv (q := 101) (z := nI (st / 3)) hC d_Mo_pullDue_100 (by decide) (pk_div (by omega) (by decide) (by decide)) rfl ?_
      refine x_iadd (q := 102) (z := nI ((6 * n) + (st / 3))) hC d_Mo_pullDue_101 (nI_add _ _) rfl ?_
      refine x_iald (q := 103) (p := 188) hC ((6 * n) + (st / 3)) rfl (by omega) rfl (by omega) (by decide) d_Mo_pullDue_102 rfl ?_
      refine x_goto (tgt := 107) hC d_Mo_pullDue_103 (by decide) ?_
      subst e6
      exact x_iret hC rfl rfl ⟨sv (it_t (Or.inl h54) rfl), rfl⟩ (by decide) (by decide) d_Mo_pullDue_107
    · skip
      refine x_aload_n (q := 58) hC d_Mo_pullDue_57 rfl rfl rfl ?_
      refine x_getr (q := 61) (p := 185) (j := 14) (r := 198) hC f_Mo_47 rfl rfl rfl (by omega) (hu _ _ (by decide)) d_Mo_pullDue_58 rfl ?_
      refine x_bipush (q := 63) (v := nI 18) hC d_Mo_pullDue_61 (by decide) rfl ?_
      refine x_iload_n (q := 64) hC d_Mo_pullDue_63 rfl rfl rfl ?_
      refine x_imul (q := 65) (z := nI (18 * n)) hC d_Mo_pullDue_64 (pk_mul _ _) rfl ?_
      refine x_iload_n (q := 66) hC d_Mo_pullDue_65 rfl rfl rfl ?_
      refine x_iadd (q := 67) (z := nI ((18 * n) + st)) hC d_Mo_pullDue_66 (nI_add _ _) rfl ?_
      refine x_iald (q := 68) (p := 198) hC ((18 * n) + st) rfl (by omega) rfl (by omega) (by decide) d_Mo_pullDue_67 rfl ?_
      refine x_aload_n (q := 69) hC d_Mo_pullDue_68 rfl rfl rfl ?_
      refine x_geti (q := 72) (p := 185) (j := 1) hC f_Mo_112 rfl rfl (by omega) d_Mo_pullDue_69 rfl ?_
      refine x_icmp_le (tgt := 84) (q := 75) hC d_Mo_pullDue_72 (by decide) rfl (fun h72 => ?_) (fun h72 => ?_)
      · skip
        refine x_iconst (q := 85) (v := nI 0) hC d_Mo_pullDue_84 (by decide) rfl ?_
        refine x_istore_n (q := 86) (L1 := [(3, .int (nI 0)), (4, .int (nI (Mo_m1 n st mi))), (0, .ref 185), (1, .int (nI n)), (2, .int (nI st))]) hC d_Mo_pullDue_85 rfl (by decide) rfl rfl ?_
        refine x_iload_n (q := 87) hC d_Mo_pullDue_86 rfl rfl rfl ?_
        refine x_if_eq (tgt := 106) (q := 90) hC d_Mo_pullDue_87 (by decide) rfl (fun _ => ?_) (fun h => absurd (by decide) h)
        refine x_iconst (q := 107) (v := (-1)) hC d_Mo_pullDue_106 (by decide) rfl ?_
        subst e6
        exact x_iret hC rfl rfl ⟨sv (it_f (fun q => q.elim (fun z => z h54) (fun z => Int32.not_lt.mpr h72 z.1)) rfl), rfl⟩ (by decide) (by decide) d_Mo_pullDue_107
      · skip
        refine x_iload (q := 77) hC d_Mo_pullDue_75 rfl rfl ?_
        refine x_if_le (tgt := 84) (q := 80) hC d_Mo_pullDue_77 (by decide) rfl (fun h77 => ?_) (fun h77 => ?_)
        · skip
          refine x_iconst (q := 85) (v := nI 0) hC d_Mo_pullDue_84 (by decide) rfl ?_
          refine x_istore_n (q := 86) (L1 := [(3, .int (nI 0)), (4, .int (nI (Mo_m1 n st mi))), (0, .ref 185), (1, .int (nI n)), (2, .int (nI st))]) hC d_Mo_pullDue_85 rfl (by decide) rfl rfl ?_
          refine x_iload_n (q := 87) hC d_Mo_pullDue_86 rfl rfl rfl ?_
          refine x_if_eq (tgt := 106) (q := 90) hC d_Mo_pullDue_87 (by decide) rfl (fun _ => ?_) (fun h => absurd (by decide) h)
          refine x_iconst (q := 107) (v := (-1)) hC d_Mo_pullDue_106 (by decide) rfl ?_
          subst e6
          exact x_iret hC rfl rfl ⟨sv (it_f (fun q => q.elim (fun z => z h54) (fun z => z.2 h77)) rfl), rfl⟩ (by decide) (by decide) d_Mo_pullDue_107
        · skip
          refine x_iconst (q := 81) (v := nI 1) hC d_Mo_pullDue_80 (by decide) rfl ?_
          refine x_goto (tgt := 85) hC d_Mo_pullDue_81 (by decide) ?_
          refine x_istore_n (q := 86) (L1 := [(3, .int (nI 1)), (4, .int (nI (Mo_m1 n st mi))), (0, .ref 185), (1, .int (nI n)), (2, .int (nI st))]) hC d_Mo_pullDue_85 rfl (by decide) rfl rfl ?_
          refine x_iload_n (q := 87) hC d_Mo_pullDue_86 rfl rfl rfl ?_
          refine x_if_eq (tgt := 106) (q := 90) hC d_Mo_pullDue_87 (by decide) rfl (fun h => absurd h (by decide)) (fun _ => ?_)
          refine x_aload_n (q := 91) hC d_Mo_pullDue_90 rfl rfl rfl ?_
          refine x_getr (q := 94) (p := 185) (j := 4) (r := 188) hC f_Mo_16 rfl rfl rfl (by omega) (hu _ _ (by decide)) d_Mo_pullDue_91 rfl ?_
          refine x_bipush (q := 96) (v := nI 6) hC d_Mo_pullDue_94 (by decide) rfl ?_
          refine x_iload_n (q := 97) hC d_Mo_pullDue_96 rfl rfl rfl ?_
          refine x_imul (q := 98) (z := nI (6 * n)) hC d_Mo_pullDue_97 (pk_mul _ _) rfl ?_
          refine x_iload_n (q := 99) hC d_Mo_pullDue_98 rfl rfl rfl ?_
          refine x_iconst (q := 100) (v := nI 3) hC d_Mo_pullDue_99 (by decide) rfl ?_
          refine x_idiv (q := 101) (z := nI (st / 3)) hC d_Mo_pullDue_100 (by decide) (pk_div (by omega) (by decide) (by decide)) rfl ?_
          refine x_iadd (q := 102) (z := nI ((6 * n) + (st / 3))) hC d_Mo_pullDue_101 (nI_add _ _) rfl ?_
          refine x_iald (q := 103) (p := 188) hC ((6 * n) + (st / 3)) rfl (by omega) rfl (by omega) (by decide) d_Mo_pullDue_102 rfl ?_
          refine x_goto (tgt := 107) hC d_Mo_pullDue_103 (by decide) ?_
          subst e6
          exact x_iret hC rfl rfl ⟨sv (it_t (Or.inr (And.intro (Int32.not_le.mp h72) h77)) rfl), rfl⟩ (by decide) (by decide) d_Mo_pullDue_107
set_option maxRecDepth 100000 in
set_option maxHeartbeats 400000 in
theorem c_Mo_tell {Γ : mx_X} {lau : Launch} {nx : Nat} {u : Nat → Nat → Bool} {mi : mx_Mm} {k n : Nat} {x y : Int32} (hnx : 214 ≤ nx) (hu : ∀ p k, 2 ≤ p → u p k = true) (hk : k + 1 < 10) (hn : n < 6) (hx : rng6 x) : mx_C Γ lau M_Mo_tell [.ref 185, .int (nI k), .int (nI n), .int x, .int y] (nx, u, mi) (fun ρ τ => ρ = none ∧ τ = (nx, u, Mo_tell k n x y mi)) := by
  refine mx_C.intro (by decide) rfl (Nat.le_of_ble_eq_true rfl) (fun κ _ hC => ?_)
  show mx_G Γ κ _ _ 0 [(0, .ref 185), (1, .int (nI k)), (2, .int (nI n)), (3, .int x), (4, .int y)] [] (nx, u, mi) 0 0
  refine x_iload_n (q := 1) hC d_Mo_tell_0 rfl rfl rfl ?_
  refine x_iload (q := 3) hC d_Mo_tell_1 rfl rfl ?_
  refine x_icmp_ne (tgt := 7) (q := 6) hC d_Mo_tell_3 (by decide) rfl (fun h3 => ?_) (fun h3 => ?_)
  · skip
    have J1 : mx_G Γ κ M_Mo_tell (MQ (mx_b κ) (mx_Qc Γ (fun ρ τ => ρ = none ∧ τ = (nx, u, Mo_tell k n x y mi))) (mx_a κ) (mx_s κ) M_Mo_tell.2.2.2.2.cells M_Mo_tell.2.2.2.2.slots (mx_fr Γ)) 43 [(0, .ref 185), (1, .int (nI k)), (2, .int (nI n)), (4, .int y)] [] (nx, u, Mo_t1 k n x mi) 0 0 := by
      refine x_iload (q := 45) hC d_Mo_tell_43 rfl rfl ?_
      refine x_if_lt (tgt := 62) (q := 48) hC d_Mo_tell_45 (by decide) rfl (fun h45 => ?_) (fun h45 => ?_)
      · skip
        exact x_vret hC rfl ⟨rfl, pr (it_f h3 (it_t h45 rfl))⟩ (by decide) (by decide) d_Mo_tell_62
      · skip
        refine x_aload_n (q := 49) hC d_Mo_tell_48 rfl rfl rfl ?_
        refine x_getr (q := 52) (p := 185) (j := 17) (r := 201) hC f_Mo_56 rfl rfl rfl (by omega) (hu _ _ (by decide)) d_Mo_tell_49 rfl ?_
        refine x_iload_n (q := 53) hC d_Mo_tell_52 rfl rfl rfl ?_
        refine x_aload_n (q := 54) hC d_Mo_tell_53 rfl rfl rfl ?_
        refine x_getr (q := 57) (p := 185) (j := 17) (r := 201) hC f_Mo_56 rfl rfl rfl (by omega) (hu _ _ (by decide)) d_Mo_tell_54 rfl ?_
        refine x_iload_n (q := 58) hC d_Mo_tell_57 rfl rfl rfl ?_
        refine x_iald (q := 59) (p := 201) hC k rfl (by omega) rfl (by omega) (by decide) d_Mo_tell_58 rfl ?_
        refine x_iconst (q := 60) (v := nI 1) hC d_Mo_tell_59 (by decide) rfl ?_
        refine x_iadd (q := 61) (z := ((Mo_t1 k n x mi) 201 k) + (nI 1)) hC d_Mo_tell_60 rfl rfl ?_
        refine x_iast (q := 62) (p := 201) hC k rfl (by omega) (by omega) rfl (by omega) (by decide) d_Mo_tell_61 rfl ?_
        refine mx_nr (fun m2 e3 => ?_)
        subst e3
        exact x_vret hC rfl ⟨rfl, pr (it_f h3 (it_f h45 rfl))⟩ (by decide) (by decide) d_Mo_tell_62
    refine x_iload_n (q := 8) hC d_Mo_tell_7 rfl rfl rfl ?_
    refine x_if_lt (tgt := 43) (q := 11) hC d_Mo_tell_8 (by decide) rfl (fun h8 => ?_) (fun h8 => ?_)
    · skip
      exact x_sub (L1 := [(0, .ref 185), (1, .int (nI k)), (2, .int (nI n)), (4, .int y)]) [0, 1, 2, 4] rfl (mx_eqG rfl rfl (pr (by first | exact it_t h8 rfl | exact it_f h8 (it_t h22 rfl) | exact it_f h8 (it_f h22 rfl))) J1)
    · skip
      obtain ⟨ex, hxl⟩ := rng6_pos hx h8
      refine mx_eqG (L1 := [(0, .ref 185), (1, .int (nI k)), (2, .int (nI n)), (3, .int (nI (tn x))), (4, .int y)]) (by rw [← ex]) rfl rfl ?_
      refine x_aload_n (q := 12) hC d_Mo_tell_11 rfl rfl rfl ?_
      refine x_getr (q := 15) (p := 185) (j := 2) (r := 186) hC f_Mo_7 rfl rfl rfl (by omega) (hu _ _ (by decide)) d_Mo_tell_12 rfl ?_
      refine x_bipush (q := 17) (v := nI 6) hC d_Mo_tell_15 (by decide) rfl ?_
      refine x_iload_n (q := 18) hC d_Mo_tell_17 rfl rfl rfl ?_
      refine x_imul (q := 19) (z := nI (6 * n)) hC d_Mo_tell_18 (pk_mul _ _) rfl ?_
      refine x_iload_n (q := 20) hC d_Mo_tell_19 rfl rfl rfl ?_
      refine x_iadd (q := 21) (z := nI ((6 * n) + (tn x))) hC d_Mo_tell_20 (nI_add _ _) rfl ?_
      refine x_iald (q := 22) (p := 186) hC ((6 * n) + (tn x)) rfl (by omega) rfl (by omega) (by decide) d_Mo_tell_21 rfl ?_
      refine x_if_le (tgt := 43) (q := 25) hC d_Mo_tell_22 (by decide) rfl (fun h22 => ?_) (fun h22 => ?_)
      · skip
        exact x_sub (L1 := [(0, .ref 185), (1, .int (nI k)), (2, .int (nI n)), (4, .int y)]) [0, 1, 2, 4] rfl (mx_eqG rfl rfl (pr (by first | exact it_t h8 rfl | exact it_f h8 (it_t h22 rfl) | exact it_f h8 (it_f h22 rfl))) J1)
      · skip
        refine x_aload_n (q := 26) hC d_Mo_tell_25 rfl rfl rfl ?_
        refine x_getr (q := 29) (p := 185) (j := 17) (r := 201) hC f_Mo_56 rfl rfl rfl (by omega) (hu _ _ (by decide)) d_Mo_tell_26 rfl ?_
        refine x_iload_n (q := 30) hC d_Mo_tell_29 rfl rfl rfl ?_
        refine x_iconst (q := 31) (v := nI 1) hC d_Mo_tell_30 (by decide) rfl ?_
        refine x_iadd (q := 32) (z := nI (k + 1)) hC d_Mo_tell_31 (nI_add _ _) rfl ?_
        refine x_aload_n (q := 33) hC d_Mo_tell_32 rfl rfl rfl ?_
        refine x_getr (q := 36) (p := 185) (j := 17) (r := 201) hC f_Mo_56 rfl rfl rfl (by omega) (hu _ _ (by decide)) d_Mo_tell_33 rfl ?_
        refine x_iload_n (q := 37) hC d_Mo_tell_36 rfl rfl rfl ?_
        refine x_iconst (q := 38) (v := nI 1) hC d_Mo_tell_37 (by decide) rfl ?_
        refine x_iadd (q := 39) (z := nI (k + 1)) hC d_Mo_tell_38 (nI_add _ _) rfl ?_
        refine x_iald (q := 40) (p := 201) hC (k + 1) rfl (by omega) rfl (by omega) (by decide) d_Mo_tell_39 rfl ?_
        refine x_iconst (q := 41) (v := nI 1) hC d_Mo_tell_40 (by decide) rfl ?_
        refine x_iadd (q := 42) (z := (mi 201 (k + 1)) + (nI 1)) hC d_Mo_tell_41 rfl rfl ?_
        refine x_iast (q := 43) (p := 201) hC (k + 1) rfl (by omega) (by omega) rfl (by omega) (by decide) d_Mo_tell_42 rfl ?_
        exact x_sub (L1 := [(0, .ref 185), (1, .int (nI k)), (2, .int (nI n)), (4, .int y)]) [0, 1, 2, 4] rfl (mx_eqG rfl rfl (pr (by first | exact it_t h8 rfl | exact it_f h8 (it_t h22 rfl) | exact it_f h8 (it_f h22 rfl))) J1)
  · skip
    exact x_vret hC rfl ⟨rfl, pr (it_t h3 rfl)⟩ (by decide) (by decide) d_Mo_tell_6
set_option maxRecDepth 100000 in
set_option maxHeartbeats 400000 in
theorem c_Mo_round {Γ : mx_X} {lau : Launch} {nx : Nat} {u : Nat → Nat → Bool} {mi : mx_Mm} {r : Nat} (hnx : 214 ≤ nx) (hu : ∀ p k, 2 ≤ p → u p k = true) (hr : r < 6) (hok : Mo_ok r mi) : mx_C Γ lau M_Mo_round [.ref 185] (nx, u, mi) (fun ρ τ => ρ = some (.int (Mo_rd r mi).1) ∧ τ = (nx, u, (Mo_rd r mi).2)) := by
  refine mx_C.intro (by decide) rfl (Nat.le_of_ble_eq_true rfl) (fun κ _ hC => ?_)
  show mx_G Γ κ _ _ 0 [(0, .ref 185)] [] (nx, u, mi) 0 0
  refine x_iconst (q := 1) (v := nI 0) hC d_Mo_round_0 (by decide) rfl ?_
  refine x_istore_n (q := 2) (L1 := [(1, .int (nI 0)), (0, .ref 185)]) hC d_Mo_round_1 rfl (by decide) rfl rfl ?_
  refine x_iconst (q := 3) (v := nI 0) hC d_Mo_round_2 (by decide) rfl ?_
  refine x_istore_n (q := 4) (L1 := [(2, .int (nI 0)), (1, .int (nI 0)), (0, .ref 185)]) hC d_Mo_round_3 rfl (by decide) rfl rfl ?_
  refine x_sub (L1 := [(2, .int (nI 0)), (1, .int (nI 0)), (0, .ref 185)]) [0, 1, 2] rfl ?_
  refine mx_loopG (N := 18) (Hd := fun k a => mx_G Γ κ _ _ 4 [(2, .int (nI k)), (1, .int (a.1)), (0, .ref 185)] [] (nx, u, a.2) 0 0) (Mo_r1 r) (fun _ a => Mo_ok r a.2) (m := (nI 0, mi)) hok ?_ ?_ ?_
  · exact fun k a hk h => Mo_r1_ok hk hr h
  · intro k a hl1 hI2 hN3
    refine x_iload_n (q := 5) hC d_Mo_round_4 rfl rfl rfl ?_
    refine x_bipush (q := 7) (v := nI 18) hC d_Mo_round_5 (by decide) rfl ?_
    refine x_icmp_ge (tgt := 54) (q := 10) hC d_Mo_round_7 (by decide) rfl (fun h => absurd h (nI_ge hl1 (by decide))) (fun _ => ?_)
    refine x_aload_n (q := 11) hC d_Mo_round_10 rfl rfl rfl ?_
    refine x_iload_n (q := 12) hC d_Mo_round_11 rfl rfl rfl ?_
    refine x_iconst (q := 13) (v := nI 3) hC d_Mo_round_12 (by decide) rfl ?_
    refine x_idiv (q := 14) (z := nI (k / 3)) hC d_Mo_round_13 (by decide) (pk_div (by omega) (by decide) (by decide)) rfl ?_
    refine x_iload_n (q := 15) hC d_Mo_round_14 rfl rfl rfl ?_
    refine x_iconst (q := 16) (v := nI 3) hC d_Mo_round_15 (by decide) rfl ?_
    refine x_irem (q := 17) (z := nI (k % 3)) hC d_Mo_round_16 (by decide) (pk_rem (by omega) (by decide) (by decide)) rfl ?_
    refine x_callV (q := 20) (p := 185) (A := [.int (nI (k / 3)), .int (nI (k % 3))]) (S := []) (c1 := 0) (s1 := 0) hC (c_Mo_sharedDue (r := r) (n := k / 3) (g := k % 3) (by omega) hu (by omega) (by omega) hr hI2.1) s_Mo_round_144 rfl (by omega) rfl rfl rfl (Nat.le_of_ble_eq_true rfl) rfl rfl (by decide) (by decide) d_Mo_round_17 rfl (fun r τ hP => ?_)
    obtain ⟨rfl, rfl⟩ := hP
    show mx_G Γ κ _ _ 20 [(2, .int (nI k)), (1, .int (a.1)), (0, .ref 185)] [.int (Mo_sd r (k / 3) (k % 3) a.2)] (nx, u, a.2) 0 0
    refine x_istore_n (q := 21) (L1 := [(3, .int (Mo_sd r (k / 3) (k % 3) a.2)), (2, .int (nI k)), (1, .int (a.1)), (0, .ref 185)]) hC d_Mo_round_20 rfl (by decide) rfl rfl ?_
    refine x_iload_n (q := 22) hC d_Mo_round_21 rfl rfl rfl ?_
    refine x_if_ne (tgt := 35) (q := 25) hC d_Mo_round_22 (by decide) rfl (fun h22 => ?_) (fun h22 => ?_)
    · skip
      refine x_iconst (q := 36) (v := nI 1) hC d_Mo_round_35 (by decide) rfl ?_
      refine x_goto (tgt := 40) hC d_Mo_round_36 (by decide) ?_
      refine x_istore_n (q := 41) (L1 := [(1, .int (nI 1)), (3, .int (Mo_sd r (k / 3) (k % 3) a.2)), (2, .int (nI k)), (0, .ref 185)]) hC d_Mo_round_40 rfl (by decide) rfl rfl ?_
      refine x_aload_n (q := 42) hC d_Mo_round_41 rfl rfl rfl ?_
      refine x_getr (q := 45) (p := 185) (j := 8) (r := 192) hC f_Mo_29 rfl rfl rfl (by omega) (hu _ _ (by decide)) d_Mo_round_42 rfl ?_
      refine x_iload_n (q := 46) hC d_Mo_round_45 rfl rfl rfl ?_
      refine x_iload_n (q := 47) hC d_Mo_round_46 rfl rfl rfl ?_
      refine x_iast (q := 48) (p := 192) hC k rfl (by omega) (by omega) rfl (by omega) (by decide) d_Mo_round_47 rfl ?_
      refine x_iinc (q := 51) (y := nI (k + 1)) (L1 := [(2, .int (nI (k + 1))), (1, .int (nI 1)), (3, .int (Mo_sd r (k / 3) (k % 3) a.2)), (0, .ref 185)]) hC d_Mo_round_48 rfl (mx_inc k) (by decide) rfl rfl ?_
      refine x_goto (tgt := 4) hC d_Mo_round_51 (by decide) ?_
      refine x_sub (L1 := [(2, .int (nI (k + 1))), (1, .int (nI 1)), (0, .ref 185)]) [0, 1, 3] rfl (mx_eqG ?_ rfl ?_ hN3)
      · first | (rw [show (Mo_r1 r k a).1 = Mo_rv1 r k a from rfl, Mo_rv1, if_pos (Or.inl h22)]; done) | (rw [show (Mo_r1 r k a).1 = Mo_rv1 r k a from rfl, Mo_rv1, if_pos (Or.inr h32)]; done) | (rw [show (Mo_r1 r k a).1 = Mo_rv1 r k a from rfl, Mo_rv1, if_neg (not_or.mpr (And.intro (not_not_intro h22) (not_not_intro h32)))]; done)
      · rfl
    · skip
      refine x_iload_n (q := 26) hC d_Mo_round_25 rfl rfl rfl ?_
      refine x_aload_n (q := 27) hC d_Mo_round_26 rfl rfl rfl ?_
      refine x_getr (q := 30) (p := 185) (j := 8) (r := 192) hC f_Mo_29 rfl rfl rfl (by omega) (hu _ _ (by decide)) d_Mo_round_27 rfl ?_
      refine x_iload_n (q := 31) hC d_Mo_round_30 rfl rfl rfl ?_
      refine x_iald (q := 32) (p := 192) hC k rfl (by omega) rfl (by omega) (by decide) d_Mo_round_31 rfl ?_
      refine x_icmp_eq (tgt := 39) (q := 35) hC d_Mo_round_32 (by decide) rfl (fun h32 => ?_) (fun h32 => ?_)
      · skip
        refine x_iconst (q := 40) (v := nI 0) hC d_Mo_round_39 (by decide) rfl ?_
        refine x_istore_n (q := 41) (L1 := [(1, .int (nI 0)), (3, .int (Mo_sd r (k / 3) (k % 3) a.2)), (2, .int (nI k)), (0, .ref 185)]) hC d_Mo_round_40 rfl (by decide) rfl rfl ?_
        refine x_aload_n (q := 42) hC d_Mo_round_41 rfl rfl rfl ?_
        refine x_getr (q := 45) (p := 185) (j := 8) (r := 192) hC f_Mo_29 rfl rfl rfl (by omega) (hu _ _ (by decide)) d_Mo_round_42 rfl ?_
        refine x_iload_n (q := 46) hC d_Mo_round_45 rfl rfl rfl ?_
        refine x_iload_n (q := 47) hC d_Mo_round_46 rfl rfl rfl ?_
        refine x_iast (q := 48) (p := 192) hC k rfl (by omega) (by omega) rfl (by omega) (by decide) d_Mo_round_47 rfl ?_
        refine x_iinc (q := 51) (y := nI (k + 1)) (L1 := [(2, .int (nI (k + 1))), (1, .int (nI 0)), (3, .int (Mo_sd r (k / 3) (k % 3) a.2)), (0, .ref 185)]) hC d_Mo_round_48 rfl (mx_inc k) (by decide) rfl rfl ?_
        refine x_goto (tgt := 4) hC d_Mo_round_51 (by decide) ?_
        refine x_sub (L1 := [(2, .int (nI (k + 1))), (1, .int (nI 0)), (0, .ref 185)]) [0, 1, 3] rfl (mx_eqG ?_ rfl ?_ hN3)
        · first | (rw [show (Mo_r1 r k a).1 = Mo_rv1 r k a from rfl, Mo_rv1, if_pos (Or.inl h22)]; done) | (rw [show (Mo_r1 r k a).1 = Mo_rv1 r k a from rfl, Mo_rv1, if_pos (Or.inr h32)]; done) | (rw [show (Mo_r1 r k a).1 = Mo_rv1 r k a from rfl, Mo_rv1, if_neg (not_or.mpr (And.intro (not_not_intro h22) (not_not_intro h32)))]; done)
        · rfl
      · skip
        refine x_iconst (q := 36) (v := nI 1) hC d_Mo_round_35 (by decide) rfl ?_
        refine x_goto (tgt := 40) hC d_Mo_round_36 (by decide) ?_
        refine x_istore_n (q := 41) (L1 := [(1, .int (nI 1)), (3, .int (Mo_sd r (k / 3) (k % 3) a.2)), (2, .int (nI k)), (0, .ref 185)]) hC d_Mo_round_40 rfl (by decide) rfl rfl ?_
        refine x_aload_n (q := 42) hC d_Mo_round_41 rfl rfl rfl ?_
        refine x_getr (q := 45) (p := 185) (j := 8) (r := 192) hC f_Mo_29 rfl rfl rfl (by omega) (hu _ _ (by decide)) d_Mo_round_42 rfl ?_
        refine x_iload_n (q := 46) hC d_Mo_round_45 rfl rfl rfl ?_
        refine x_iload_n (q := 47) hC d_Mo_round_46 rfl rfl rfl ?_
        refine x_iast (q := 48) (p := 192) hC k rfl (by omega) (by omega) rfl (by omega) (by decide) d_Mo_round_47 rfl ?_
        refine x_iinc (q := 51) (y := nI (k + 1)) (L1 := [(2, .int (nI (k + 1))), (1, .int (nI 1)), (3, .int (Mo_sd r (k / 3) (k % 3) a.2)), (0, .ref 185)]) hC d_Mo_round_48 rfl (mx_inc k) (by decide) rfl rfl ?_
        refine x_goto (tgt := 4) hC d_Mo_round_51 (by decide) ?_
        refine x_sub (L1 := [(2, .int (nI (k + 1))), (1, .int (nI 1)), (0, .ref 185)]) [0, 1, 3] rfl (mx_eqG ?_ rfl ?_ hN3)
        · first | (rw [show (Mo_r1 r k a).1 = Mo_rv1 r k a from rfl, Mo_rv1, if_pos (Or.inl h22)]; done) | (rw [show (Mo_r1 r k a).1 = Mo_rv1 r k a from rfl, Mo_rv1, if_pos (Or.inr h32)]; done) | (rw [show (Mo_r1 r k a).1 = Mo_rv1 r k a from rfl, Mo_rv1, if_neg (not_or.mpr (And.intro (not_not_intro h22) (not_not_intro h32)))]; done)
        · rfl
  · intro hx4
    generalize e6 : mx_lp 18 (Mo_r1 r) (nI 0, mi) = a5 at hx4 ⊢
    refine x_iload_n (q := 5) hC d_Mo_round_4 rfl rfl rfl ?_
    refine x_bipush (q := 7) (v := nI 18) hC d_Mo_round_5 (by decide) rfl ?_
    refine x_icmp_ge (tgt := 54) (q := 10) hC d_Mo_round_7 (by decide) rfl (fun _ => ?_) (fun h => absurd (nI_le (Nat.le_refl _) (by decide)) h)
    refine x_iconst (q := 55) (v := nI 0) hC d_Mo_round_54 (by decide) rfl ?_
    refine x_istore_n (q := 56) (L1 := [(2, .int (nI 0)), (1, .int (a5.1)), (0, .ref 185)]) hC d_Mo_round_55 rfl (by decide) rfl rfl ?_
    refine x_sub (L1 := [(2, .int (nI 0)), (1, .int (a5.1)), (0, .ref 185)]) [0, 1, 2] rfl ?_
    have hok2 := hx4
    refine mx_loopG (N := 108) (Hd := fun k b => mx_G Γ κ _ _ 56 [(2, .int (nI k)), (1, .int (b.1)), (0, .ref 185)] [] (nx, u, b.2) 0 0) (Mo_r2 r) (fun _ a => Mo_ok r a.2) (m := a5) hok2 ?_ ?_ ?_
    · exact fun k a hk h => Mo_r2_ok hk hr h
    · intro k b hl7 hI8 hN9
      refine x_iload_n (q := 57) hC d_Mo_round_56 rfl rfl rfl ?_
      refine x_bipush (q := 59) (v := nI 108) hC d_Mo_round_57 (by decide) rfl ?_
      refine x_icmp_ge (tgt := 141) (q := 62) hC d_Mo_round_59 (by decide) rfl (fun h => absurd h (nI_ge hl7 (by decide))) (fun _ => ?_)
      refine x_aload_n (q := 63) hC d_Mo_round_62 rfl rfl rfl ?_
      refine x_iload_n (q := 64) hC d_Mo_round_63 rfl rfl rfl ?_
      refine x_bipush (q := 66) (v := nI 18) hC d_Mo_round_64 (by decide) rfl ?_
      refine x_idiv (q := 67) (z := nI (k / 18)) hC d_Mo_round_66 (by decide) (pk_div (by omega) (by decide) (by decide)) rfl ?_
      refine x_iload_n (q := 68) hC d_Mo_round_67 rfl rfl rfl ?_
      refine x_bipush (q := 70) (v := nI 18) hC d_Mo_round_68 (by decide) rfl ?_
      refine x_irem (q := 71) (z := nI (k % 18)) hC d_Mo_round_70 (by decide) (pk_rem (by omega) (by decide) (by decide)) rfl ?_
      refine x_callV (q := 74) (p := 185) (A := [.int (nI (k / 18)), .int (nI (k % 18))]) (S := []) (c1 := 0) (s1 := 0) hC (c_Mo_cutDue (r := r) (n := k / 18) (st := k % 18) (by omega) hu (by omega) (by omega) hr hI8.1) s_Mo_round_147 rfl (by omega) rfl rfl rfl (Nat.le_of_ble_eq_true rfl) rfl rfl (by decide) (by decide) d_Mo_round_71 rfl (fun r τ hP => ?_)
      obtain ⟨rfl, rfl⟩ := hP
      show mx_G Γ κ _ _ 74 [(2, .int (nI k)), (1, .int (b.1)), (0, .ref 185)] [.int (Mo_cd r (k / 18) (k % 18) b.2)] (nx, u, b.2) 0 0
      refine x_istore_n (q := 75) (L1 := [(3, .int (Mo_cd r (k / 18) (k % 18) b.2)), (2, .int (nI k)), (1, .int (b.1)), (0, .ref 185)]) hC d_Mo_round_74 rfl (by decide) rfl rfl ?_
      refine x_aload_n (q := 76) hC d_Mo_round_75 rfl rfl rfl ?_
      refine x_iload_n (q := 77) hC d_Mo_round_76 rfl rfl rfl ?_
      refine x_bipush (q := 79) (v := nI 18) hC d_Mo_round_77 (by decide) rfl ?_
      refine x_idiv (q := 80) (z := nI (k / 18)) hC d_Mo_round_79 (by decide) (pk_div (by omega) (by decide) (by decide)) rfl ?_
      refine x_iload_n (q := 81) hC d_Mo_round_80 rfl rfl rfl ?_
      refine x_bipush (q := 83) (v := nI 18) hC d_Mo_round_81 (by decide) rfl ?_
      refine x_irem (q := 84) (z := nI (k % 18)) hC d_Mo_round_83 (by decide) (pk_rem (by omega) (by decide) (by decide)) rfl ?_
      refine x_callV (q := 87) (p := 185) (A := [.int (nI (k / 18)), .int (nI (k % 18))]) (S := []) (c1 := 0) (s1 := 0) hC (c_Mo_pullDue (n := k / 18) (st := k % 18) (by omega) hu (by omega) (by omega)) s_Mo_round_150 rfl (by omega) rfl rfl rfl (Nat.le_of_ble_eq_true rfl) rfl rfl (by decide) (by decide) d_Mo_round_84 rfl (fun r τ hP => ?_)
      obtain ⟨rfl, rfl⟩ := hP
      show mx_G Γ κ _ _ 87 [(3, .int (Mo_cd r (k / 18) (k % 18) b.2)), (2, .int (nI k)), (1, .int (b.1)), (0, .ref 185)] [.int (Mo_pd (k / 18) (k % 18) b.2)] (nx, u, b.2) 0 0
      refine x_istore (q := 89) (L1 := [(4, .int (Mo_pd (k / 18) (k % 18) b.2)), (3, .int (Mo_cd r (k / 18) (k % 18) b.2)), (2, .int (nI k)), (1, .int (b.1)), (0, .ref 185)]) hC d_Mo_round_87 (by decide) rfl rfl ?_
      refine x_iload_n (q := 90) hC d_Mo_round_89 rfl rfl rfl ?_
      refine x_if_ne (tgt := 114) (q := 93) hC d_Mo_round_90 (by decide) rfl (fun h90 => ?_) (fun h90 => ?_)
      · skip
        refine x_iconst (q := 115) (v := nI 1) hC d_Mo_round_114 (by decide) rfl ?_
        refine x_goto (tgt := 119) hC d_Mo_round_115 (by decide) ?_
        refine x_istore_n (q := 120) (L1 := [(1, .int (nI 1)), (4, .int (Mo_pd (k / 18) (k % 18) b.2)), (3, .int (Mo_cd r (k / 18) (k % 18) b.2)), (2, .int (nI k)), (0, .ref 185)]) hC d_Mo_round_119 rfl (by decide) rfl rfl ?_
        refine x_aload_n (q := 121) hC d_Mo_round_120 rfl rfl rfl ?_
        refine x_getr (q := 124) (p := 185) (j := 10) (r := 194) hC f_Mo_35 rfl rfl rfl (by omega) (hu _ _ (by decide)) d_Mo_round_121 rfl ?_
        refine x_iload_n (q := 125) hC d_Mo_round_124 rfl rfl rfl ?_
        refine x_iload_n (q := 126) hC d_Mo_round_125 rfl rfl rfl ?_
        refine x_iast (q := 127) (p := 194) hC k rfl (by omega) (by omega) rfl (by omega) (by decide) d_Mo_round_126 rfl ?_
        refine x_aload_n (q := 128) hC d_Mo_round_127 rfl rfl rfl ?_
        refine x_getr (q := 131) (p := 185) (j := 12) (r := 196) hC f_Mo_41 rfl rfl rfl (by omega) (hu _ _ (by decide)) d_Mo_round_128 rfl ?_
        refine x_iload_n (q := 132) hC d_Mo_round_131 rfl rfl rfl ?_
        refine x_iload (q := 134) hC d_Mo_round_132 rfl rfl ?_
        refine x_iast (q := 135) (p := 196) hC k rfl (by omega) (by omega) rfl (by omega) (by decide) d_Mo_round_134 rfl ?_
        refine mx_nr (fun m10 e11 => ?_)
        refine x_iinc (q := 138) (y := nI (k + 1)) (L1 := [(2, .int (nI (k + 1))), (1, .int (nI 1)), (4, .int (Mo_pd (k / 18) (k % 18) b.2)), (3, .int (Mo_cd r (k / 18) (k % 18) b.2)), (0, .ref 185)]) hC d_Mo_round_135 rfl (mx_inc k) (by decide) rfl rfl ?_
        refine x_goto (tgt := 56) hC d_Mo_round_138 (by decide) ?_
        refine x_sub (L1 := [(2, .int (nI (k + 1))), (1, .int (nI 1)), (0, .ref 185)]) [0, 1, 4] rfl (mx_eqG ?_ rfl ?_ hN9)
        · subst e11; first | (rw [show (Mo_r2 r k b).1 = Mo_rv2 r k b from rfl, Mo_rv2, if_pos (Or.inl h90)]; done) | (rw [show (Mo_r2 r k b).1 = Mo_rv2 r k b from rfl, Mo_rv2, if_pos (Or.inr (Or.inl h100))]; done) | (rw [show (Mo_r2 r k b).1 = Mo_rv2 r k b from rfl, Mo_rv2, if_pos (Or.inr (Or.inr h111))]; done) | (rw [show (Mo_r2 r k b).1 = Mo_rv2 r k b from rfl, Mo_rv2, if_neg (not_or.mpr (And.intro (not_not_intro h90) (not_or.mpr (And.intro (not_not_intro h100) (not_not_intro h111)))))]; done)
        · subst e11; rfl
      · skip
        refine x_iload_n (q := 94) hC d_Mo_round_93 rfl rfl rfl ?_
        refine x_aload_n (q := 95) hC d_Mo_round_94 rfl rfl rfl ?_
        refine x_getr (q := 98) (p := 185) (j := 10) (r := 194) hC f_Mo_35 rfl rfl rfl (by omega) (hu _ _ (by decide)) d_Mo_round_95 rfl ?_
        refine x_iload_n (q := 99) hC d_Mo_round_98 rfl rfl rfl ?_
        refine x_iald (q := 100) (p := 194) hC k rfl (by omega) rfl (by omega) (by decide) d_Mo_round_99 rfl ?_
        refine x_icmp_ne (tgt := 114) (q := 103) hC d_Mo_round_100 (by decide) rfl (fun h100 => ?_) (fun h100 => ?_)
        · skip
          refine x_iconst (q := 115) (v := nI 1) hC d_Mo_round_114 (by decide) rfl ?_
          refine x_goto (tgt := 119) hC d_Mo_round_115 (by decide) ?_
          refine x_istore_n (q := 120) (L1 := [(1, .int (nI 1)), (4, .int (Mo_pd (k / 18) (k % 18) b.2)), (3, .int (Mo_cd r (k / 18) (k % 18) b.2)), (2, .int (nI k)), (0, .ref 185)]) hC d_Mo_round_119 rfl (by decide) rfl rfl ?_
          refine x_aload_n (q := 121) hC d_Mo_round_120 rfl rfl rfl ?_
          refine x_getr (q := 124) (p := 185) (j := 10) (r := 194) hC f_Mo_35 rfl rfl rfl (by omega) (hu _ _ (by decide)) d_Mo_round_121 rfl ?_
          refine x_iload_n (q := 125) hC d_Mo_round_124 rfl rfl rfl ?_
          refine x_iload_n (q := 126) hC d_Mo_round_125 rfl rfl rfl ?_
          refine x_iast (q := 127) (p := 194) hC k rfl (by omega) (by omega) rfl (by omega) (by decide) d_Mo_round_126 rfl ?_
          refine x_aload_n (q := 128) hC d_Mo_round_127 rfl rfl rfl ?_
          refine x_getr (q := 131) (p := 185) (j := 12) (r := 196) hC f_Mo_41 rfl rfl rfl (by omega) (hu _ _ (by decide)) d_Mo_round_128 rfl ?_
          refine x_iload_n (q := 132) hC d_Mo_round_131 rfl rfl rfl ?_
          refine x_iload (q := 134) hC d_Mo_round_132 rfl rfl ?_
          refine x_iast (q := 135) (p := 196) hC k rfl (by omega) (by omega) rfl (by omega) (by decide) d_Mo_round_134 rfl ?_
          refine mx_nr (fun m12 e13 => ?_)
          refine x_iinc (q := 138) (y := nI (k + 1)) (L1 := [(2, .int (nI (k + 1))), (1, .int (nI 1)), (4, .int (Mo_pd (k / 18) (k % 18) b.2)), (3, .int (Mo_cd r (k / 18) (k % 18) b.2)), (0, .ref 185)]) hC d_Mo_round_135 rfl (mx_inc k) (by decide) rfl rfl ?_
          refine x_goto (tgt := 56) hC d_Mo_round_138 (by decide) ?_
          refine x_sub (L1 := [(2, .int (nI (k + 1))), (1, .int (nI 1)), (0, .ref 185)]) [0, 1, 4] rfl (mx_eqG ?_ rfl ?_ hN9)
          · subst e13; first | (rw [show (Mo_r2 r k b).1 = Mo_rv2 r k b from rfl, Mo_rv2, if_pos (Or.inl h90)]; done) | (rw [show (Mo_r2 r k b).1 = Mo_rv2 r k b from rfl, Mo_rv2, if_pos (Or.inr (Or.inl h100))]; done) | (rw [show (Mo_r2 r k b).1 = Mo_rv2 r k b from rfl, Mo_rv2, if_pos (Or.inr (Or.inr h111))]; done) | (rw [show (Mo_r2 r k b).1 = Mo_rv2 r k b from rfl, Mo_rv2, if_neg (not_or.mpr (And.intro (not_not_intro h90) (not_or.mpr (And.intro (not_not_intro h100) (not_not_intro h111)))))]; done)
          · subst e13; rfl
        · skip
          refine x_iload (q := 105) hC d_Mo_round_103 rfl rfl ?_
          refine x_aload_n (q := 106) hC d_Mo_round_105 rfl rfl rfl ?_
          refine x_getr (q := 109) (p := 185) (j := 12) (r := 196) hC f_Mo_41 rfl rfl rfl (by omega) (hu _ _ (by decide)) d_Mo_round_106 rfl ?_
          refine x_iload_n (q := 110) hC d_Mo_round_109 rfl rfl rfl ?_
          refine x_iald (q := 111) (p := 196) hC k rfl (by omega) rfl (by omega) (by decide) d_Mo_round_110 rfl ?_
          refine x_icmp_eq (tgt := 118) (q := 114) hC d_Mo_round_111 (by decide) rfl (fun h111 => ?_) (fun h111 => ?_)
          · skip
            refine x_iconst (q := 119) (v := nI 0) hC d_Mo_round_118 (by decide) rfl ?_
            refine x_istore_n (q := 120) (L1 := [(1, .int (nI 0)), (4, .int (Mo_pd (k / 18) (k % 18) b.2)), (3, .int (Mo_cd r (k / 18) (k % 18) b.2)), (2, .int (nI k)), (0, .ref 185)]) hC d_Mo_round_119 rfl (by decide) rfl rfl ?_
            refine x_aload_n (q := 121) hC d_Mo_round_120 rfl rfl rfl ?_
            refine x_getr (q := 124) (p := 185) (j := 10) (r := 194) hC f_Mo_35 rfl rfl rfl (by omega) (hu _ _ (by decide)) d_Mo_round_121 rfl ?_
            refine x_iload_n (q := 125) hC d_Mo_round_124 rfl rfl rfl ?_
            refine x_iload_n (q := 126) hC d_Mo_round_125 rfl rfl rfl ?_
            refine x_iast (q := 127) (p := 194) hC k rfl (by omega) (by omega) rfl (by omega) (by decide) d_Mo_round_126 rfl ?_
            refine x_aload_n (q := 128) hC d_Mo_round_127 rfl rfl rfl ?_
            refine x_getr (q := 131) (p := 185) (j := 12) (r := 196) hC f_Mo_41 rfl rfl rfl (by omega) (hu _ _ (by decide)) d_Mo_round_128 rfl ?_
            refine x_iload_n (q := 132) hC d_Mo_round_131 rfl rfl rfl ?_
            refine x_iload (q := 134) hC d_Mo_round_132 rfl rfl ?_
            refine x_iast (q := 135) (p := 196) hC k rfl (by omega) (by omega) rfl (by omega) (by decide) d_Mo_round_134 rfl ?_
            refine mx_nr (fun m14 e15 => ?_)
            refine x_iinc (q := 138) (y := nI (k + 1)) (L1 := [(2, .int (nI (k + 1))), (1, .int (nI 0)), (4, .int (Mo_pd (k / 18) (k % 18) b.2)), (3, .int (Mo_cd r (k / 18) (k % 18) b.2)), (0, .ref 185)]) hC d_Mo_round_135 rfl (mx_inc k) (by decide) rfl rfl ?_
            refine x_goto (tgt := 56) hC d_Mo_round_138 (by decide) ?_
            refine x_sub (L1 := [(2, .int (nI (k + 1))), (1, .int (nI 0)), (0, .ref 185)]) [0, 1, 4] rfl (mx_eqG ?_ rfl ?_ hN9)
            · subst e15; first | (rw [show (Mo_r2 r k b).1 = Mo_rv2 r k b from rfl, Mo_rv2, if_pos (Or.inl h90)]; done) | (rw [show (Mo_r2 r k b).1 = Mo_rv2 r k b from rfl, Mo_rv2, if_pos (Or.inr (Or.inl h100))]; done) | (rw [show (Mo_r2 r k b).1 = Mo_rv2 r k b from rfl, Mo_rv2, if_pos (Or.inr (Or.inr h111))]; done) | (rw [show (Mo_r2 r k b).1 = Mo_rv2 r k b from rfl, Mo_rv2, if_neg (not_or.mpr (And.intro (not_not_intro h90) (not_or.mpr (And.intro (not_not_intro h100) (not_not_intro h111)))))]; done)
            · subst e15; rfl
          · skip
            refine x_iconst (q := 115) (v := nI 1) hC d_Mo_round_114 (by decide) rfl ?_
            refine x_goto (tgt := 119) hC d_Mo_round_115 (by decide) ?_
            refine x_istore_n (q := 120) (L1 := [(1, .int (nI 1)), (4, .int (Mo_pd (k / 18) (k % 18) b.2)), (3, .int (Mo_cd r (k / 18) (k % 18) b.2)), (2, .int (nI k)), (0, .ref 185)]) hC d_Mo_round_119 rfl (by decide) rfl rfl ?_
            refine x_aload_n (q := 121) hC d_Mo_round_120 rfl rfl rfl ?_
            refine x_getr (q := 124) (p := 185) (j := 10) (r := 194) hC f_Mo_35 rfl rfl rfl (by omega) (hu _ _ (by decide)) d_Mo_round_121 rfl ?_
            refine x_iload_n (q := 125) hC d_Mo_round_124 rfl rfl rfl ?_
            refine x_iload_n (q := 126) hC d_Mo_round_125 rfl rfl rfl ?_
            refine x_iast (q := 127) (p := 194) hC k rfl (by omega) (by omega) rfl (by omega) (by decide) d_Mo_round_126 rfl ?_
            refine x_aload_n (q := 128) hC d_Mo_round_127 rfl rfl rfl ?_
            refine x_getr (q := 131) (p := 185) (j := 12) (r := 196) hC f_Mo_41 rfl rfl rfl (by omega) (hu _ _ (by decide)) d_Mo_round_128 rfl ?_
            refine x_iload_n (q := 132) hC d_Mo_round_131 rfl rfl rfl ?_
            refine x_iload (q := 134) hC d_Mo_round_132 rfl rfl ?_
            refine x_iast (q := 135) (p := 196) hC k rfl (by omega) (by omega) rfl (by omega) (by decide) d_Mo_round_134 rfl ?_
            refine mx_nr (fun m16 e17 => ?_)
            refine x_iinc (q := 138) (y := nI (k + 1)) (L1 := [(2, .int (nI (k + 1))), (1, .int (nI 1)), (4, .int (Mo_pd (k / 18) (k % 18) b.2)), (3, .int (Mo_cd r (k / 18) (k % 18) b.2)), (0, .ref 185)]) hC d_Mo_round_135 rfl (mx_inc k) (by decide) rfl rfl ?_
            refine x_goto (tgt := 56) hC d_Mo_round_138 (by decide) ?_
            refine x_sub (L1 := [(2, .int (nI (k + 1))), (1, .int (nI 1)), (0, .ref 185)]) [0, 1, 4] rfl (mx_eqG ?_ rfl ?_ hN9)
            · subst e17; first | (rw [show (Mo_r2 r k b).1 = Mo_rv2 r k b from rfl, Mo_rv2, if_pos (Or.inl h90)]; done) | (rw [show (Mo_r2 r k b).1 = Mo_rv2 r k b from rfl, Mo_rv2, if_pos (Or.inr (Or.inl h100))]; done) | (rw [show (Mo_r2 r k b).1 = Mo_rv2 r k b from rfl, Mo_rv2, if_pos (Or.inr (Or.inr h111))]; done) | (rw [show (Mo_r2 r k b).1 = Mo_rv2 r k b from rfl, Mo_rv2, if_neg (not_or.mpr (And.intro (not_not_intro h90) (not_or.mpr (And.intro (not_not_intro h100) (not_not_intro h111)))))]; done)
            · subst e17; rfl
    · intro hx18
      generalize e20 : mx_lp 108 (Mo_r2 r) a5 = a19 at hx18 ⊢
      refine x_iload_n (q := 57) hC d_Mo_round_56 rfl rfl rfl ?_
      refine x_bipush (q := 59) (v := nI 108) hC d_Mo_round_57 (by decide) rfl ?_
      refine x_icmp_ge (tgt := 141) (q := 62) hC d_Mo_round_59 (by decide) rfl (fun _ => ?_) (fun h => absurd (nI_le (Nat.le_refl _) (by decide)) h)
      refine x_iload_n (q := 142) hC d_Mo_round_141 rfl rfl rfl ?_
      have eA : Mo_rd r mi = a19 := by rw [← e20, ← e6]; rfl
      exact x_iret hC rfl (by rw [← eA]; exact nar01 rd01) ⟨sv (by rw [eA]), pr (by rw [eA])⟩ (by decide) (by decide) d_Mo_round_142
theorem Mo_b2_a {k : Nat} {m : mx_Mm} {x : Int32} (h : Mo_bf k m = mx_up m 199 k x) : mx_up (mx_up (mx_up m 199 k x) 195 k ((mx_up m 199 k x) 194 k)) 197 k ((mx_up (mx_up m 199 k x) 195 k ((mx_up m 199 k x) 194 k)) 196 k) = Mo_b2 k m := by
  unfold Mo_b2
  rw [h] <;> rfl
theorem Mo_bf_t {k : Nat} {m : mx_Mm} (h1 : ¬ m 199 k = 0) (h2 : ¬ m 198 k ≤ m 185 1) : Mo_bf k m = mx_up m 199 k (nI 1) := by rw [Mo_bf, if_pos ⟨h1, Int32.not_le.mp h2⟩]
theorem Mo_bf_f {k : Nat} {m : mx_Mm} (h1 : m 199 k = 0) : Mo_bf k m = mx_up m 199 k (nI 0) := by rw [Mo_bf, if_neg (fun q => q.1 h1)]
theorem Mo_bf_g {k : Nat} {m : mx_Mm} (h2 : m 198 k ≤ m 185 1) : Mo_bf k m = mx_up m 199 k (nI 0) := by rw [Mo_bf, if_neg (fun q => Int32.not_lt.mpr h2 q.2)]
set_option maxRecDepth 100000 in
set_option maxHeartbeats 400000 in
theorem c_Mo_settle {Γ : mx_X} {lau : Launch} {nx : Nat} {u : Nat → Nat → Bool} {mi : mx_Mm} {r : Nat} (hnx : 214 ≤ nx) (hu : ∀ p k, 2 ≤ p → u p k = true) (hr : r < 6) (hok : Mo_ok r mi) : mx_C Γ lau M_Mo_settle [.ref 185] (nx, u, mi) (fun ρ τ => ρ = none ∧ τ = (nx, u, Mo_settle r mi)) := by
  refine mx_C.intro (by decide) rfl (Nat.le_of_ble_eq_true rfl) (fun κ _ hC => ?_)
  show mx_G Γ κ _ _ 0 [(0, .ref 185)] [] (nx, u, mi) 0 0
  refine x_iconst (q := 1) (v := nI 0) hC d_Mo_settle_0 (by decide) rfl ?_
  refine x_istore_n (q := 2) (L1 := [(1, .int (nI 0)), (0, .ref 185)]) hC d_Mo_settle_1 rfl (by decide) rfl rfl ?_
  refine x_sub (L1 := [(1, .int (nI 0)), (0, .ref 185)]) [0, 1] rfl ?_
  refine mx_loop (N := 18) (Hd := fun k m1 => mx_G Γ κ _ _ 2 [(1, .int (nI k)), (0, .ref 185)] [] (nx, u, m1) 0 0) (Mo_b1) (fun _ m => Mo_ok r m) hok ?_ ?_ ?_
  · exact fun k m hk h => Mo_b1_ok hk h
  · intro k m1 hl2 hI3 hN4
    refine x_iload_n (q := 3) hC d_Mo_settle_2 rfl rfl rfl ?_
    refine x_bipush (q := 5) (v := nI 18) hC d_Mo_settle_3 (by decide) rfl ?_
    refine x_icmp_ge (tgt := 26) (q := 8) hC d_Mo_settle_5 (by decide) rfl (fun h => absurd h (nI_ge hl2 (by decide))) (fun _ => ?_)
    refine x_aload_n (q := 9) hC d_Mo_settle_8 rfl rfl rfl ?_
    refine x_getr (q := 12) (p := 185) (j := 9) (r := 193) hC f_Mo_32 rfl rfl rfl (by omega) (hu _ _ (by decide)) d_Mo_settle_9 rfl ?_
    refine x_iload_n (q := 13) hC d_Mo_settle_12 rfl rfl rfl ?_
    refine x_aload_n (q := 14) hC d_Mo_settle_13 rfl rfl rfl ?_
    refine x_getr (q := 17) (p := 185) (j := 8) (r := 192) hC f_Mo_29 rfl rfl rfl (by omega) (hu _ _ (by decide)) d_Mo_settle_14 rfl ?_
    refine x_iload_n (q := 18) hC d_Mo_settle_17 rfl rfl rfl ?_
    refine x_iald (q := 19) (p := 192) hC k rfl (by omega) rfl (by omega) (by decide) d_Mo_settle_18 rfl ?_
    refine x_iast (q := 20) (p := 193) hC k rfl (by omega) (by omega) rfl (by omega) (by decide) d_Mo_settle_19 rfl ?_
    refine x_iinc (q := 23) (y := nI (k + 1)) (L1 := [(1, .int (nI (k + 1))), (0, .ref 185)]) hC d_Mo_settle_20 rfl (mx_inc k) (by decide) rfl rfl ?_
    refine x_goto (tgt := 2) hC d_Mo_settle_23 (by decide) ?_
    exact x_close hN4 [0, 1] rfl (by rfl)
  · intro hx5
    refine mx_nr (fun m6 e7 => ?_)
    try rw [e7] at hx5
    have hk1 := hx5
    refine x_iload_n (q := 3) hC d_Mo_settle_2 rfl rfl rfl ?_
    refine x_bipush (q := 5) (v := nI 18) hC d_Mo_settle_3 (by decide) rfl ?_
    refine x_icmp_ge (tgt := 26) (q := 8) hC d_Mo_settle_5 (by decide) rfl (fun _ => ?_) (fun h => absurd (nI_le (Nat.le_refl _) (by decide)) h)
    refine x_iconst (q := 27) (v := nI 0) hC d_Mo_settle_26 (by decide) rfl ?_
    refine x_istore_n (q := 28) (L1 := [(1, .int (nI 0)), (0, .ref 185)]) hC d_Mo_settle_27 rfl (by decide) rfl rfl ?_
    refine x_sub (L1 := [(1, .int (nI 0)), (0, .ref 185)]) [0, 1] rfl ?_
    refine mx_loop (N := 108) (Hd := fun k m8 => mx_G Γ κ _ _ 28 [(1, .int (nI k)), (0, .ref 185)] [] (nx, u, m8) 0 0) (Mo_b2) (fun _ m => Mo_ok r m) hk1 ?_ ?_ ?_
    · exact fun k m hk h => Mo_b2_ok hk h
    · intro k m8 hl9 hI10 hN11
      refine x_iload_n (q := 29) hC d_Mo_settle_28 rfl rfl rfl ?_
      refine x_bipush (q := 31) (v := nI 108) hC d_Mo_settle_29 (by decide) rfl ?_
      refine x_icmp_ge (tgt := 97) (q := 34) hC d_Mo_settle_31 (by decide) rfl (fun h => absurd h (nI_ge hl9 (by decide))) (fun _ => ?_)
      refine x_aload_n (q := 35) hC d_Mo_settle_34 rfl rfl rfl ?_
      refine x_getr (q := 38) (p := 185) (j := 15) (r := 199) hC f_Mo_50 rfl rfl rfl (by omega) (hu _ _ (by decide)) d_Mo_settle_35 rfl ?_
      refine x_iload_n (q := 39) hC d_Mo_settle_38 rfl rfl rfl ?_
      refine x_aload_n (q := 40) hC d_Mo_settle_39 rfl rfl rfl ?_
      refine x_getr (q := 43) (p := 185) (j := 15) (r := 199) hC f_Mo_50 rfl rfl rfl (by omega) (hu _ _ (by decide)) d_Mo_settle_40 rfl ?_
      refine x_iload_n (q := 44) hC d_Mo_settle_43 rfl rfl rfl ?_
      refine x_zald (q := 45) (p := 199) hC k rfl (by omega) rfl (by omega) (by decide) d_Mo_settle_44 rfl ?_
      refine x_if_eq (tgt := 65) (q := 48) hC d_Mo_settle_45 (by decide) rfl (fun h45 => ?_) (fun h45 => ?_)
      · skip
        refine x_iconst (q := 66) (v := nI 0) hC d_Mo_settle_65 (by decide) rfl ?_
        refine x_zast (q := 67) (p := 199) hC k rfl (by omega) (by omega) rfl (by omega) (by decide) rfl d_Mo_settle_66 rfl ?_
        refine x_aload_n (q := 68) hC d_Mo_settle_67 rfl rfl rfl ?_
        refine x_getr (q := 71) (p := 185) (j := 11) (r := 195) hC f_Mo_38 rfl rfl rfl (by omega) (hu _ _ (by decide)) d_Mo_settle_68 rfl ?_
        refine x_iload_n (q := 72) hC d_Mo_settle_71 rfl rfl rfl ?_
        refine x_aload_n (q := 73) hC d_Mo_settle_72 rfl rfl rfl ?_
        refine x_getr (q := 76) (p := 185) (j := 10) (r := 194) hC f_Mo_35 rfl rfl rfl (by omega) (hu _ _ (by decide)) d_Mo_settle_73 rfl ?_
        refine x_iload_n (q := 77) hC d_Mo_settle_76 rfl rfl rfl ?_
        refine x_iald (q := 78) (p := 194) hC k rfl (by omega) rfl (by omega) (by decide) d_Mo_settle_77 rfl ?_
        refine x_iast (q := 79) (p := 195) hC k rfl (by omega) (by omega) rfl (by omega) (by decide) d_Mo_settle_78 rfl ?_
        refine mx_nr (fun m12 e13 => ?_)
        refine x_aload_n (q := 80) hC d_Mo_settle_79 rfl rfl rfl ?_
        refine x_getr (q := 83) (p := 185) (j := 13) (r := 197) hC f_Mo_44 rfl rfl rfl (by omega) (hu _ _ (by decide)) d_Mo_settle_80 rfl ?_
        refine x_iload_n (q := 84) hC d_Mo_settle_83 rfl rfl rfl ?_
        refine x_aload_n (q := 85) hC d_Mo_settle_84 rfl rfl rfl ?_
        refine x_getr (q := 88) (p := 185) (j := 12) (r := 196) hC f_Mo_41 rfl rfl rfl (by omega) (hu _ _ (by decide)) d_Mo_settle_85 rfl ?_
        refine x_iload_n (q := 89) hC d_Mo_settle_88 rfl rfl rfl ?_
        refine x_iald (q := 90) (p := 196) hC k rfl (by omega) rfl (by omega) (by decide) d_Mo_settle_89 rfl ?_
        refine x_iast (q := 91) (p := 197) hC k rfl (by omega) (by omega) rfl (by omega) (by decide) d_Mo_settle_90 rfl ?_
        refine x_iinc (q := 94) (y := nI (k + 1)) (L1 := [(1, .int (nI (k + 1))), (0, .ref 185)]) hC d_Mo_settle_91 rfl (mx_inc k) (by decide) rfl rfl ?_
        refine x_goto (tgt := 28) hC d_Mo_settle_94 (by decide) ?_
        subst e13
        exact x_close hN11 [0, 1] rfl (by first | exact Mo_b2_a (Mo_bf_t h45 h58) | exact Mo_b2_a (Mo_bf_f h45) | exact Mo_b2_a (Mo_bf_g h58))
      · skip
        refine x_aload_n (q := 49) hC d_Mo_settle_48 rfl rfl rfl ?_
        refine x_getr (q := 52) (p := 185) (j := 14) (r := 198) hC f_Mo_47 rfl rfl rfl (by omega) (hu _ _ (by decide)) d_Mo_settle_49 rfl ?_
        refine x_iload_n (q := 53) hC d_Mo_settle_52 rfl rfl rfl ?_
        refine x_iald (q := 54) (p := 198) hC k rfl (by omega) rfl (by omega) (by decide) d_Mo_settle_53 rfl ?_
        refine x_aload_n (q := 55) hC d_Mo_settle_54 rfl rfl rfl ?_
        refine x_geti (q := 58) (p := 185) (j := 1) hC f_Mo_112 rfl rfl (by omega) d_Mo_settle_55 rfl ?_
        refine x_icmp_le (tgt := 65) (q := 61) hC d_Mo_settle_58 (by decide) rfl (fun h58 => ?_) (fun h58 => ?_)
        · skip
          refine x_iconst (q := 66) (v := nI 0) hC d_Mo_settle_65 (by decide) rfl ?_
          refine x_zast (q := 67) (p := 199) hC k rfl (by omega) (by omega) rfl (by omega) (by decide) rfl d_Mo_settle_66 rfl ?_
          refine x_aload_n (q := 68) hC d_Mo_settle_67 rfl rfl rfl ?_
          refine x_getr (q := 71) (p := 185) (j := 11) (r := 195) hC f_Mo_38 rfl rfl rfl (by omega) (hu _ _ (by decide)) d_Mo_settle_68 rfl ?_
          refine x_iload_n (q := 72) hC d_Mo_settle_71 rfl rfl rfl ?_
          refine x_aload_n (q := 73) hC d_Mo_settle_72 rfl rfl rfl ?_
          refine x_getr (q := 76) (p := 185) (j := 10) (r := 194) hC f_Mo_35 rfl rfl rfl (by omega) (hu _ _ (by decide)) d_Mo_settle_73 rfl ?_
          refine x_iload_n (q := 77) hC d_Mo_settle_76 rfl rfl rfl ?_
          refine x_iald (q := 78) (p := 194) hC k rfl (by omega) rfl (by omega) (by decide) d_Mo_settle_77 rfl ?_
          refine x_iast (q := 79) (p := 195) hC k rfl (by omega) (by omega) rfl (by omega) (by decide) d_Mo_settle_78 rfl ?_
          refine mx_nr (fun m14 e15 => ?_)
          refine x_aload_n (q := 80) hC d_Mo_settle_79 rfl rfl rfl ?_
          refine x_getr (q := 83) (p := 185) (j := 13) (r := 197) hC f_Mo_44 rfl rfl rfl (by omega) (hu _ _ (by decide)) d_Mo_settle_80 rfl ?_
          refine x_iload_n (q := 84) hC d_Mo_settle_83 rfl rfl rfl ?_
          refine x_aload_n (q := 85) hC d_Mo_settle_84 rfl rfl rfl ?_
          refine x_getr (q := 88) (p := 185) (j := 12) (r := 196) hC f_Mo_41 rfl rfl rfl (by omega) (hu _ _ (by decide)) d_Mo_settle_85 rfl ?_
          refine x_iload_n (q := 89) hC d_Mo_settle_88 rfl rfl rfl ?_
          refine x_iald (q := 90) (p := 196) hC k rfl (by omega) rfl (by omega) (by decide) d_Mo_settle_89 rfl ?_
          refine x_iast (q := 91) (p := 197) hC k rfl (by omega) (by omega) rfl (by omega) (by decide) d_Mo_settle_90 rfl ?_
          refine x_iinc (q := 94) (y := nI (k + 1)) (L1 := [(1, .int (nI (k + 1))), (0, .ref 185)]) hC d_Mo_settle_91 rfl (mx_inc k) (by decide) rfl rfl ?_
          refine x_goto (tgt := 28) hC d_Mo_settle_94 (by decide) ?_
          subst e15
          exact x_close hN11 [0, 1] rfl (by first | exact Mo_b2_a (Mo_bf_t h45 h58) | exact Mo_b2_a (Mo_bf_f h45) | exact Mo_b2_a (Mo_bf_g h58))
        · skip
          refine x_iconst (q := 62) (v := nI 1) hC d_Mo_settle_61 (by decide) rfl ?_
          refine x_goto (tgt := 66) hC d_Mo_settle_62 (by decide) ?_
          refine x_zast (q := 67) (p := 199) hC k rfl (by omega) (by omega) rfl (by omega) (by decide) rfl d_Mo_settle_66 rfl ?_
          refine x_aload_n (q := 68) hC d_Mo_settle_67 rfl rfl rfl ?_
          refine x_getr (q := 71) (p := 185) (j := 11) (r := 195) hC f_Mo_38 rfl rfl rfl (by omega) (hu _ _ (by decide)) d_Mo_settle_68 rfl ?_
          refine x_iload_n (q := 72) hC d_Mo_settle_71 rfl rfl rfl ?_
          refine x_aload_n (q := 73) hC d_Mo_settle_72 rfl rfl rfl ?_
          refine x_getr (q := 76) (p := 185) (j := 10) (r := 194) hC f_Mo_35 rfl rfl rfl (by omega) (hu _ _ (by decide)) d_Mo_settle_73 rfl ?_
          refine x_iload_n (q := 77) hC d_Mo_settle_76 rfl rfl rfl ?_
          refine x_iald (q := 78) (p := 194) hC k rfl (by omega) rfl (by omega) (by decide) d_Mo_settle_77 rfl ?_
          refine x_iast (q := 79) (p := 195) hC k rfl (by omega) (by omega) rfl (by omega) (by decide) d_Mo_settle_78 rfl ?_
          refine mx_nr (fun m16 e17 => ?_)
          refine x_aload_n (q := 80) hC d_Mo_settle_79 rfl rfl rfl ?_
          refine x_getr (q := 83) (p := 185) (j := 13) (r := 197) hC f_Mo_44 rfl rfl rfl (by omega) (hu _ _ (by decide)) d_Mo_settle_80 rfl ?_
          refine x_iload_n (q := 84) hC d_Mo_settle_83 rfl rfl rfl ?_
          refine x_aload_n (q := 85) hC d_Mo_settle_84 rfl rfl rfl ?_
          refine x_getr (q := 88) (p := 185) (j := 12) (r := 196) hC f_Mo_41 rfl rfl rfl (by omega) (hu _ _ (by decide)) d_Mo_settle_85 rfl ?_
          refine x_iload_n (q := 89) hC d_Mo_settle_88 rfl rfl rfl ?_
          refine x_iald (q := 90) (p := 196) hC k rfl (by omega) rfl (by omega) (by decide) d_Mo_settle_89 rfl ?_
          refine x_iast (q := 91) (p := 197) hC k rfl (by omega) (by omega) rfl (by omega) (by decide) d_Mo_settle_90 rfl ?_
          refine x_iinc (q := 94) (y := nI (k + 1)) (L1 := [(1, .int (nI (k + 1))), (0, .ref 185)]) hC d_Mo_settle_91 rfl (mx_inc k) (by decide) rfl rfl ?_
          refine x_goto (tgt := 28) hC d_Mo_settle_94 (by decide) ?_
          subst e17
          exact x_close hN11 [0, 1] rfl (by first | exact Mo_b2_a (Mo_bf_t h45 h58) | exact Mo_b2_a (Mo_bf_f h45) | exact Mo_b2_a (Mo_bf_g h58))
    · intro hx18
      refine mx_nr (fun m19 e20 => ?_)
      try rw [e20] at hx18
      have hk2 := hx18
      refine x_iload_n (q := 29) hC d_Mo_settle_28 rfl rfl rfl ?_
      refine x_bipush (q := 31) (v := nI 108) hC d_Mo_settle_29 (by decide) rfl ?_
      refine x_icmp_ge (tgt := 97) (q := 34) hC d_Mo_settle_31 (by decide) rfl (fun _ => ?_) (fun h => absurd (nI_le (Nat.le_refl _) (by decide)) h)
      refine x_iconst (q := 98) (v := nI 1) hC d_Mo_settle_97 (by decide) rfl ?_
      refine x_istore_n (q := 99) (L1 := [(1, .int (nI 1)), (0, .ref 185)]) hC d_Mo_settle_98 rfl (by decide) rfl rfl ?_
      refine x_iconst (q := 100) (v := nI 0) hC d_Mo_settle_99 (by decide) rfl ?_
      refine x_istore_n (q := 101) (L1 := [(2, .int (nI 0)), (1, .int (nI 1)), (0, .ref 185)]) hC d_Mo_settle_100 rfl (by decide) rfl rfl ?_
      refine x_sub (L1 := [(2, .int (nI 0)), (1, .int (nI 1)), (0, .ref 185)]) [0, 1, 2] rfl ?_
      refine mx_loopH (N := 100) (Hd := fun i a => mx_G Γ κ M_Mo_settle (MQ (mx_b κ) (mx_Qc Γ (fun ρ τ => ρ = none ∧ τ = (nx, u, Mo_settle r mi))) (mx_a κ) (mx_s κ) M_Mo_settle.2.2.2.2.cells M_Mo_settle.2.2.2.2.slots (mx_fr Γ)) 101 [(2, .int (nI i)), (1, .int (a.1)), (0, .ref 185)] [] (nx, u, a.2) 0 0) (Ex := fun a => mx_G Γ κ M_Mo_settle (MQ (mx_b κ) (mx_Qc Γ (fun ρ τ => ρ = none ∧ τ = (nx, u, Mo_settle r mi))) (mx_a κ) (mx_s κ) M_Mo_settle.2.2.2.2.cells M_Mo_settle.2.2.2.2.slots (mx_fr Γ)) 122 [(1, .int (a.1)), (0, .ref 185)] [] (nx, u, a.2) 0 0) (fun _ => Mo_rs r) (fun a => ¬ a.1 = 0) (fun a => Mo_ok r a.2) (m := (nI 1, m19)) hk2 ?_ ?_ ?_ ?_ ?_
      · exact fun _ a _ h => Mo_rs_ok hr h
      · exact fun _ a h => if_pos (Decidable.not_not.mp h)
      · intro i a hl21 hI22 hN23 hE24
        refine x_iload_n (q := 102) hC d_Mo_settle_101 rfl rfl rfl ?_
        refine x_bipush (q := 104) (v := nI 100) hC d_Mo_settle_102 (by decide) rfl ?_
        refine x_icmp_ge (tgt := 122) (q := 107) hC d_Mo_settle_104 (by decide) rfl (fun h => absurd h (nI_ge hl21 (by decide))) (fun _ => ?_)
        refine x_iload_n (q := 108) hC d_Mo_settle_107 rfl rfl rfl ?_
        refine x_if_eq (tgt := 122) (q := 111) hC d_Mo_settle_108 (by decide) rfl (fun h108 => ?_) (fun h108 => ?_)
        · skip
          exact x_sub (L1 := [(1, .int (a.1)), (0, .ref 185)]) [1, 2] rfl (hE24 (not_not_intro h108))
        · skip
          refine x_aload_n (q := 112) hC d_Mo_settle_111 rfl rfl rfl ?_
          refine x_callV (q := 115) (p := 185) (A := []) (S := []) (c1 := 0) (s1 := 0) hC (c_Mo_round (r := r) (by omega) hu hr hI22) s_Mo_settle_153 rfl (by omega) rfl rfl rfl (Nat.le_of_ble_eq_true rfl) rfl rfl (by decide) (by decide) d_Mo_settle_112 rfl (fun r τ hP => ?_)
          obtain ⟨rfl, rfl⟩ := hP
          show mx_G Γ κ _ _ 115 [(2, .int (nI i)), (1, .int (a.1)), (0, .ref 185)] [.int ((Mo_rd r a.2).1)] (nx, u, (Mo_rd r a.2).2) 0 0
          refine x_istore_n (q := 116) (L1 := [(1, .int ((Mo_rd r a.2).1)), (2, .int (nI i)), (0, .ref 185)]) hC d_Mo_settle_115 rfl (by decide) rfl rfl ?_
          refine x_iinc (q := 119) (y := nI (i + 1)) (L1 := [(2, .int (nI (i + 1))), (1, .int ((Mo_rd r a.2).1)), (0, .ref 185)]) hC d_Mo_settle_116 rfl (mx_inc i) (by decide) rfl rfl ?_
          refine x_goto (tgt := 101) hC d_Mo_settle_119 (by decide) ?_
          refine x_sub (L1 := [(2, .int (nI (i + 1))), (1, .int ((Mo_rd r a.2).1)), (0, .ref 185)]) [0, 1, 2] rfl (mx_eqG ?_ rfl ?_ (hN23 h108))
          · rw [show Mo_rs r a = Mo_rd r a.2 from if_neg h108]
          · rw [show Mo_rs r a = Mo_rd r a.2 from if_neg h108]
      · intro a hI26 hE25
        refine x_iload_n (q := 102) hC d_Mo_settle_101 rfl rfl rfl ?_
        refine x_bipush (q := 104) (v := nI 100) hC d_Mo_settle_102 (by decide) rfl ?_
        refine x_icmp_ge (tgt := 122) (q := 107) hC d_Mo_settle_104 (by decide) rfl (fun _ => ?_) (fun h => absurd (nI_le (Nat.le_refl _) (by decide)) h)
        exact x_sub (L1 := [(1, .int (a.1)), (0, .ref 185)]) [1, 2] rfl hE25
      · generalize e28 : mx_lp 100 (fun _ => Mo_rs r) (nI 1, m19) = a27
        have hk3 : Mo_ok r a27.2 := e28 ▸ lp_keep (fun a : Int32 × mx_Mm => Mo_ok r a.2) 100 hk2 (fun _ _ _ h => Mo_rs_ok hr h)
        refine x_iconst (q := 123) (v := nI 0) hC d_Mo_settle_122 (by decide) rfl ?_
        refine x_istore_n (q := 124) (L1 := [(2, .int (nI 0)), (1, .int (a27.1)), (0, .ref 185)]) hC d_Mo_settle_123 rfl (by decide) rfl rfl ?_
        refine x_sub (L1 := [(2, .int (nI 0)), (0, .ref 185)]) [0, 2] rfl ?_
        refine mx_loop (N := 18) (Hd := fun k m29 => mx_G Γ κ _ _ 124 [(2, .int (nI k)), (0, .ref 185)] [] (nx, u, m29) 0 0) (Mo_e1) (fun _ m => Mo_ok r m) hk3 ?_ ?_ ?_
        · exact fun k m hk h => Mo_tell_ok h
        · intro k m29 hl30 hI31 hN32
          refine x_iload_n (q := 125) hC d_Mo_settle_124 rfl rfl rfl ?_
          refine x_bipush (q := 127) (v := nI 18) hC d_Mo_settle_125 (by decide) rfl ?_
          refine x_icmp_ge (tgt := 156) (q := 130) hC d_Mo_settle_127 (by decide) rfl (fun h => absurd h (nI_ge hl30 (by decide))) (fun _ => ?_)
          refine x_aload_n (q := 131) hC d_Mo_settle_130 rfl rfl rfl ?_
          refine x_iconst (q := 132) (v := nI 0) hC d_Mo_settle_131 (by decide) rfl ?_
          refine x_iload_n (q := 133) hC d_Mo_settle_132 rfl rfl rfl ?_
          refine x_iconst (q := 134) (v := nI 3) hC d_Mo_settle_133 (by decide) rfl ?_
          refine x_idiv (q := 135) (z := nI (k / 3)) hC d_Mo_settle_134 (by decide) (pk_div (by omega) (by decide) (by decide)) rfl ?_
          refine x_aload_n (q := 136) hC d_Mo_settle_135 rfl rfl rfl ?_
          refine x_getr (q := 139) (p := 185) (j := 9) (r := 193) hC f_Mo_32 rfl rfl rfl (by omega) (hu _ _ (by decide)) d_Mo_settle_136 rfl ?_
          refine x_iload_n (q := 140) hC d_Mo_settle_139 rfl rfl rfl ?_
          refine x_iald (q := 141) (p := 193) hC k rfl (by omega) rfl (by omega) (by decide) d_Mo_settle_140 rfl ?_
          refine x_aload_n (q := 142) hC d_Mo_settle_141 rfl rfl rfl ?_
          refine x_getr (q := 145) (p := 185) (j := 8) (r := 192) hC f_Mo_29 rfl rfl rfl (by omega) (hu _ _ (by decide)) d_Mo_settle_142 rfl ?_
          refine x_iload_n (q := 146) hC d_Mo_settle_145 rfl rfl rfl ?_
          refine x_iald (q := 147) (p := 192) hC k rfl (by omega) rfl (by omega) (by decide) d_Mo_settle_146 rfl ?_
          refine x_callV (q := 150) (p := 185) (A := [.int (nI 0), .int (nI (k / 3)), .int (m29 193 k), .int (m29 192 k)]) (S := []) (c1 := 0) (s1 := 0) hC (c_Mo_tell (k := 0) (n := k / 3) (x := m29 193 k) (y := m29 192 k) (by omega) hu (by decide) (by omega) (hI31.2.2.1 _ (by omega)).2) s_Mo_settle_157 rfl (by omega) rfl rfl rfl (Nat.le_of_ble_eq_true rfl) rfl rfl (by decide) (by decide) d_Mo_settle_147 rfl (fun r τ hP => ?_)
          obtain ⟨rfl, rfl⟩ := hP
          show mx_G Γ κ _ _ 150 [(2, .int (nI k)), (0, .ref 185)] [] (nx, u, Mo_tell 0 (k / 3) (m29 193 k) (m29 192 k) m29) 0 0
          refine x_iinc (q := 153) (y := nI (k + 1)) (L1 := [(2, .int (nI (k + 1))), (0, .ref 185)]) hC d_Mo_settle_150 rfl (mx_inc k) (by decide) rfl rfl ?_
          refine x_goto (tgt := 124) hC d_Mo_settle_153 (by decide) ?_
          exact x_close hN32 [0, 1] rfl (by rfl)
        · intro hx33
          refine mx_nr (fun m34 e35 => ?_)
          try rw [e35] at hx33
          have hk4 := hx33
          refine x_iload_n (q := 125) hC d_Mo_settle_124 rfl rfl rfl ?_
          refine x_bipush (q := 127) (v := nI 18) hC d_Mo_settle_125 (by decide) rfl ?_
          refine x_icmp_ge (tgt := 156) (q := 130) hC d_Mo_settle_127 (by decide) rfl (fun _ => ?_) (fun h => absurd (nI_le (Nat.le_refl _) (by decide)) h)
          refine x_iconst (q := 157) (v := nI 0) hC d_Mo_settle_156 (by decide) rfl ?_
          refine x_istore_n (q := 158) (L1 := [(2, .int (nI 0)), (0, .ref 185)]) hC d_Mo_settle_157 rfl (by decide) rfl rfl ?_
          refine x_sub (L1 := [(2, .int (nI 0)), (0, .ref 185)]) [0, 1] rfl ?_
          refine mx_loop (N := 108) (Hd := fun k m36 => mx_G Γ κ _ _ 158 [(2, .int (nI k)), (0, .ref 185)] [] (nx, u, m36) 0 0) (Mo_e2) (fun _ m => Mo_ok r m) hk4 ?_ ?_ ?_
          · exact fun k m hk h => Mo_e2_ok h
          · intro k m36 hl37 hI38 hN39
            refine x_iload_n (q := 159) hC d_Mo_settle_158 rfl rfl rfl ?_
            refine x_bipush (q := 161) (v := nI 108) hC d_Mo_settle_159 (by decide) rfl ?_
            refine x_icmp_ge (tgt := 212) (q := 164) hC d_Mo_settle_161 (by decide) rfl (fun h => absurd h (nI_ge hl37 (by decide))) (fun _ => ?_)
            refine x_aload_n (q := 165) hC d_Mo_settle_164 rfl rfl rfl ?_
            refine x_iconst (q := 166) (v := nI 2) hC d_Mo_settle_165 (by decide) rfl ?_
            refine x_iload_n (q := 167) hC d_Mo_settle_166 rfl rfl rfl ?_
            refine x_bipush (q := 169) (v := nI 18) hC d_Mo_settle_167 (by decide) rfl ?_
            refine x_idiv (q := 170) (z := nI (k / 18)) hC d_Mo_settle_169 (by decide) (pk_div (by omega) (by decide) (by decide)) rfl ?_
            refine x_aload_n (q := 171) hC d_Mo_settle_170 rfl rfl rfl ?_
            refine x_getr (q := 174) (p := 185) (j := 13) (r := 197) hC f_Mo_44 rfl rfl rfl (by omega) (hu _ _ (by decide)) d_Mo_settle_171 rfl ?_
            refine x_iload_n (q := 175) hC d_Mo_settle_174 rfl rfl rfl ?_
            refine x_iald (q := 176) (p := 197) hC k rfl (by omega) rfl (by omega) (by decide) d_Mo_settle_175 rfl ?_
            refine x_aload_n (q := 177) hC d_Mo_settle_176 rfl rfl rfl ?_
            refine x_getr (q := 180) (p := 185) (j := 12) (r := 196) hC f_Mo_41 rfl rfl rfl (by omega) (hu _ _ (by decide)) d_Mo_settle_177 rfl ?_
            refine x_iload_n (q := 181) hC d_Mo_settle_180 rfl rfl rfl ?_
            refine x_iald (q := 182) (p := 196) hC k rfl (by omega) rfl (by omega) (by decide) d_Mo_settle_181 rfl ?_
            refine x_callV (q := 185) (p := 185) (A := [.int (nI 2), .int (nI (k / 18)), .int (m36 197 k), .int (m36 196 k)]) (S := []) (c1 := 0) (s1 := 0) hC (c_Mo_tell (k := 2) (n := k / 18) (x := m36 197 k) (y := m36 196 k) (by omega) hu (by decide) (by omega) (hI38.2.2.2 _ (by omega)).2.2.2) s_Mo_settle_157 rfl (by omega) rfl rfl rfl (Nat.le_of_ble_eq_true rfl) rfl rfl (by decide) (by decide) d_Mo_settle_182 rfl (fun r τ hP => ?_)
            obtain ⟨rfl, rfl⟩ := hP
            show mx_G Γ κ _ _ 185 [(2, .int (nI k)), (0, .ref 185)] [] (nx, u, Mo_tell 2 (k / 18) (m36 197 k) (m36 196 k) m36) 0 0
            refine x_aload_n (q := 186) hC d_Mo_settle_185 rfl rfl rfl ?_
            refine x_iconst (q := 187) (v := nI 4) hC d_Mo_settle_186 (by decide) rfl ?_
            refine x_iload_n (q := 188) hC d_Mo_settle_187 rfl rfl rfl ?_
            refine x_bipush (q := 190) (v := nI 18) hC d_Mo_settle_188 (by decide) rfl ?_
            refine x_idiv (q := 191) (z := nI (k / 18)) hC d_Mo_settle_190 (by decide) (pk_div (by omega) (by decide) (by decide)) rfl ?_
            refine x_aload_n (q := 192) hC d_Mo_settle_191 rfl rfl rfl ?_
            refine x_getr (q := 195) (p := 185) (j := 11) (r := 195) hC f_Mo_38 rfl rfl rfl (by omega) (hu _ _ (by decide)) d_Mo_settle_192 rfl ?_
            refine x_iload_n (q := 196) hC d_Mo_settle_195 rfl rfl rfl ?_
            refine x_iald (q := 197) (p := 195) hC k rfl (by omega) rfl (by omega) (by decide) d_Mo_settle_196 rfl ?_
            refine x_aload_n (q := 198) hC d_Mo_settle_197 rfl rfl rfl ?_
            refine x_getr (q := 201) (p := 185) (j := 10) (r := 194) hC f_Mo_35 rfl rfl rfl (by omega) (hu _ _ (by decide)) d_Mo_settle_198 rfl ?_
            refine x_iload_n (q := 202) hC d_Mo_settle_201 rfl rfl rfl ?_
            refine x_iald (q := 203) (p := 194) hC k rfl (by omega) rfl (by omega) (by decide) d_Mo_settle_202 rfl ?_
            refine x_callV (q := 206) (p := 185) (A := [.int (nI 4), .int (nI (k / 18)), .int ((Mo_tell 2 (k / 18) (m36 197 k) (m36 196 k) m36) 195 k), .int ((Mo_tell 2 (k / 18) (m36 197 k) (m36 196 k) m36) 194 k)]) (S := []) (c1 := 0) (s1 := 0) hC (c_Mo_tell (k := 4) (n := k / 18) (x := (Mo_tell 2 (k / 18) (m36 197 k) (m36 196 k) m36) 195 k) (y := (Mo_tell 2 (k / 18) (m36 197 k) (m36 196 k) m36) 194 k) (by omega) hu (by decide) (by omega) ((Mo_tell_ok hI38).2.2.2 _ (by omega)).2.1) s_Mo_settle_157 rfl (by omega) rfl rfl rfl (Nat.le_of_ble_eq_true rfl) rfl rfl (by decide) (by decide) d_Mo_settle_203 rfl (fun r τ hP => ?_)
            obtain ⟨rfl, rfl⟩ := hP
            show mx_G Γ κ _ _ 206 [(2, .int (nI k)), (0, .ref 185)] [] (nx, u, Mo_tell 4 (k / 18) ((Mo_tell 2 (k / 18) (m36 197 k) (m36 196 k) m36) 195 k) ((Mo_tell 2 (k / 18) (m36 197 k) (m36 196 k) m36) 194 k) (Mo_tell 2 (k / 18) (m36 197 k) (m36 196 k) m36)) 0 0
            refine mx_nr (fun m40 e41 => ?_)
            refine x_iinc (q := 209) (y := nI (k + 1)) (L1 := [(2, .int (nI (k + 1))), (0, .ref 185)]) hC d_Mo_settle_206 rfl (mx_inc k) (by decide) rfl rfl ?_
            refine x_goto (tgt := 158) hC d_Mo_settle_209 (by decide) ?_
            subst e41
            exact x_close hN39 [0, 1] rfl (by rfl)
          · intro hx42
            refine mx_nr (fun m43 e44 => ?_)
            try rw [e44] at hx42
            refine x_iload_n (q := 159) hC d_Mo_settle_158 rfl rfl rfl ?_
            refine x_bipush (q := 161) (v := nI 108) hC d_Mo_settle_159 (by decide) rfl ?_
            refine x_icmp_ge (tgt := 212) (q := 164) hC d_Mo_settle_161 (by decide) rfl (fun _ => ?_) (fun h => absurd (nI_le (Nat.le_refl _) (by decide)) h)
            subst e44
            subst e35
            subst e28
            subst e20
            subst e7
            exact x_vret hC rfl ⟨rfl, rfl⟩ (by decide) (by decide) d_Mo_settle_212
