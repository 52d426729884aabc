/-! the law from its entry -/
set_option maxRecDepth 100000 in
set_option maxHeartbeats 1000000 in
theorem lw_disp {Γ : mx_X} {κ : mx_K} {Q : State → Prop} {u : Nat → Nat → Bool} {m : mx_Mm} {r t i : Nat} (hC : mx_Ctx Γ κ M_Lw_law) (hu : ∀ p k, 2 ≤ p → u p k = true) (hu1 : ∀ k, u 1 k = true) (hr : r < 6) (hL : Γ.2.2.2 ≤ 2561) (hi : i + 5 ≤ Γ.2.2.2) (h : Sim r t m m) (ht : t ≤ 100000) (K : ∀ m' t', t' ≤ t + 10 → Sim r t' m' m' → mx_G Γ κ M_Lw_law Q 752 [(3, .int (nI i)), (2, .ref 185), (1, .ref 1), (0, .ref 0)] [] (214, u, m') 213 2186) : mx_G Γ κ M_Lw_law Q 36 [(3, .int (nI i)), (2, .ref 185), (1, .ref 1), (0, .ref 0)] [] (214, u, m) 213 2186 := by
  refine x_aload_n (q := 37) hC d_Lw_law_36 rfl rfl rfl ?_
  refine x_iload_n (q := 38) hC d_Lw_law_37 rfl rfl rfl ?_
  refine x_sld (q := 39) (p := 0) hC i rfl (Nat.le_of_ble_eq_true rfl) rfl (by omega) (by omega) d_Lw_law_38 rfl ?_
  refine x_bipush (q := 41) (v := nI 31) hC d_Lw_law_39 (by decide) rfl ?_
  obtain ⟨j, hj, ej⟩ := pk_andE (m 0 i) (m := nI 31) 5 (by decide)
  refine x_iand (q := 42) (z := nI j) hC d_Lw_law_41 ej rfl ?_
  rcases Nat.lt_or_ge j 20 with h20 | h20
  · have hc : j = 0 ∨ j = 1 ∨ j = 2 ∨ j = 3 ∨ j = 4 ∨ j = 5 ∨ j = 6 ∨ j = 7 ∨ j = 8 ∨ j = 9 ∨ j = 10 ∨ j = 11 ∨ j = 12 ∨ j = 13 ∨ j = 14 ∨ j = 15 ∨ j = 16 ∨ j = 17 ∨ j = 18 ∨ j = 19 := by omega
    rcases hc with e | e | e | e | e | e | e | e | e | e | e | e | e | e | e | e | e | e | e | e
    · subst e; exact x_tabI (tgt := 136) hC d_Lw_law_42 (by decide) (by decide) rfl (by decide) (lw_link hC hu hu1 hr hL hi h ht K)
    · subst e; exact x_tabI (tgt := 179) hC d_Lw_law_42 (by decide) (by decide) rfl (by decide) (lw_distance hC hu hu1 hr hL hi h ht K)
    · subst e; exact x_tabI (tgt := 212) hC d_Lw_law_42 (by decide) (by decide) rfl (by decide) (lw_hop hC hu hu1 hr hL hi h ht K)
    · subst e; exact x_tabI (tgt := 245) hC d_Lw_law_42 (by decide) (by decide) rfl (by decide) (lw_join hC hu hu1 hr hL hi h ht K)
    · subst e; exact x_tabI (tgt := 288) hC d_Lw_law_42 (by decide) (by decide) rfl (by decide) (lw_leave hC hu hu1 hr hL hi h ht K)
    · subst e; exact x_tabI (tgt := 357) hC d_Lw_law_42 (by decide) (by decide) rfl (by decide) (lw_marked hC hu hu1 hr hL hi h ht K)
    · subst e; exact x_tabI (tgt := 390) hC d_Lw_law_42 (by decide) (by decide) rfl (by decide) (lw_pass hC hu hu1 hr hL hi h ht K)
    · subst e; exact x_tabI (tgt := 413) hC d_Lw_law_42 (by decide) (by decide) rfl (by decide) (lw_send hC hu hu1 hr hL hi h ht K)
    · subst e; exact x_tabI (tgt := 446) hC d_Lw_law_42 (by decide) (by decide) rfl (by decide) (lw_crossings hC hu hu1 hr hL hi h ht K)
    · subst e; exact x_tabI (tgt := 459) hC d_Lw_law_42 (by decide) (by decide) rfl (by decide) (lw_drops hC hu hu1 hr hL hi h ht K)
    · subst e; exact x_tabI (tgt := 472) hC d_Lw_law_42 (by decide) (by decide) rfl (by decide) (lw_reached hC hu hu1 hr hL hi h ht K)
    · subst e; exact x_tabI (tgt := 485) hC d_Lw_law_42 (by decide) (by decide) rfl (by decide) (lw_heard hC hu hu1 hr hL hi h ht K)
    · subst e; exact x_tabI (tgt := 498) hC d_Lw_law_42 (by decide) (by decide) rfl (by decide) (lw_shared hC hu hu1 hr hL hi h ht K)
    · subst e; exact x_tabI (tgt := 531) hC d_Lw_law_42 (by decide) (by decide) rfl (by decide) (lw_entry hC hu hu1 hr hL hi h ht K)
    · subst e; exact x_tabI (tgt := 574) hC d_Lw_law_42 (by decide) (by decide) rfl (by decide) (lw_messages hC hu hu1 hr hL hi h ht K)
    · subst e; exact x_tabI (tgt := 597) hC d_Lw_law_42 (by decide) (by decide) rfl (by decide) (lw_lose hC hu hu1 hr hL hi h ht K)
    · subst e; exact x_tabI (tgt := 630) hC d_Lw_law_42 (by decide) (by decide) rfl (by decide) (lw_publish hC hu hu1 hr hL hi h ht K)
    · subst e; exact x_tabI (tgt := 673) hC d_Lw_law_42 (by decide) (by decide) rfl (by decide) (lw_emit hC hu hu1 hr hL hi h ht K)
    · subst e; exact x_tabI (tgt := 696) hC d_Lw_law_42 (by decide) (by decide) rfl (by decide) (lw_requests hC hu hu1 hr hL hi h ht K)
    · subst e; exact x_tabI (tgt := 719) hC d_Lw_law_42 (by decide) (by decide) rfl (by decide) (lw_have hC hu hu1 hr hL hi h ht K)
  · refine x_tabO (tgt := 752) hC d_Lw_law_42 (Or.inr ?_) (by decide) (K m t (by omega) h)
    rw [nI_toInt (by omega)]
    omega
theorem i5 (i : Nat) : nI i + Int32.ofInt 5 = nI (i + 5) := nI_add i 5
set_option maxRecDepth 100000 in
set_option maxHeartbeats 1000000 in
theorem lw_loop {Γ : mx_X} {κ : mx_K} {Q : State → Prop} {u : Nat → Nat → Bool} {r : Nat} (hC : mx_Ctx Γ κ M_Lw_law) (hu : ∀ p k, 2 ≤ p → u p k = true) (hu1 : ∀ k, u 1 k = true) (hr : r < 6) (hL : Γ.2.2.2 ≤ 2561) (E : ∀ i m, mx_G Γ κ M_Lw_law Q 758 [(3, .int (nI i)), (2, .ref 185), (1, .ref 1), (0, .ref 0)] [] (214, u, m) 213 2186) : ∀ (n i t : Nat) (m : mx_Mm), Γ.2.2.2 < i + n → i ≤ 3000 → t ≤ 2 * i → Sim r t m m → mx_G Γ κ M_Lw_law Q 28 [(3, .int (nI i)), (2, .ref 185), (1, .ref 1), (0, .ref 0)] [] (214, u, m) 213 2186 := by
  intro n
  induction n with
  | zero =>
    intro i t m h1 h2 h3 h
    refine x_iload_n (q := 29) hC d_Lw_law_28 rfl rfl rfl ?_
    refine x_aload_n (q := 30) hC d_Lw_law_29 rfl rfl rfl ?_
    refine x_slen (q := 31) (v := nI Γ.2.2.2) hC rfl (Nat.le_of_ble_eq_true rfl) rfl d_Lw_law_30 rfl ?_
    refine x_iconst (q := 32) (v := nI 5) hC d_Lw_law_31 (by decide) rfl ?_
    refine x_isub (q := 33) (z := nI Γ.2.2.2 - nI 5) hC d_Lw_law_32 rfl rfl ?_
    exact x_icmp_gt (tgt := 758) (q := 36) hC d_Lw_law_33 (by decide) rfl (fun _ => E i m) (fun hn => absurd ((lt5 hL (by omega)).mpr (by omega)) hn)
  | succ n ih =>
    intro i t m h1 h2 h3 h
    refine x_iload_n (q := 29) hC d_Lw_law_28 rfl rfl rfl ?_
    refine x_aload_n (q := 30) hC d_Lw_law_29 rfl rfl rfl ?_
    refine x_slen (q := 31) (v := nI Γ.2.2.2) hC rfl (Nat.le_of_ble_eq_true rfl) rfl d_Lw_law_30 rfl ?_
    refine x_iconst (q := 32) (v := nI 5) hC d_Lw_law_31 (by decide) rfl ?_
    refine x_isub (q := 33) (z := nI Γ.2.2.2 - nI 5) hC d_Lw_law_32 rfl rfl ?_
    refine x_icmp_gt (tgt := 758) (q := 36) hC d_Lw_law_33 (by decide) rfl (fun _ => E i m) (fun hn => ?_)
    have hi : i + 5 ≤ Γ.2.2.2 := by
      have := mt (lt5 hL (show i < 2 ^ 30 by omega)).mpr hn
      omega
    refine lw_disp hC hu hu1 hr hL hi h (by omega) (fun m' t' ht' hs' => ?_)
    refine x_iinc (q := 755) (y := nI (i + 5)) (L1 := [(3, .int (nI (i + 5))), (2, .ref 185), (1, .ref 1), (0, .ref 0)]) hC d_Lw_law_752 rfl (i5 i) (by decide) rfl rfl ?_
    refine x_goto (tgt := 28) hC d_Lw_law_755 (by decide) ?_
    exact ih (i + 5) t' m' (by omega) (by omega) (by omega) hs'
set_option maxRecDepth 100000 in
set_option maxHeartbeats 1000000 in
theorem c_Lw_cell {Γ : mx_X} {lau : Launch} {nx : Nat} {u : Nat → Nat → Bool} {mi : mx_Mm} (hnx : 1 ≤ nx) (hL : Γ.2.2.2 ≤ 2561) : mx_C Γ lau M_Lw_cell [.ref 0, .int (nI 0)] (nx, u, mi) (fun ρ τ => ρ = some (.int (if 0 < Γ.2.2.2 then mi 0 0 else nI 0)) ∧ τ = (nx, u, mi)) := by
  refine mx_C.intro (by decide) rfl (Nat.le_of_ble_eq_true rfl) (fun κ _ hC => ?_)
  show mx_G Γ κ _ _ 0 [(0, .ref 0), (1, .int (nI 0))] [] (nx, u, mi) 0 0
  refine x_iload_n (q := 1) hC d_Lw_cell_0 rfl rfl rfl ?_
  refine x_aload_n (q := 2) hC d_Lw_cell_1 rfl rfl rfl ?_
  refine x_slen (q := 3) (v := nI Γ.2.2.2) hC rfl hnx rfl d_Lw_cell_2 rfl ?_
  refine x_icmp_ge (tgt := 12) (q := 6) hC d_Lw_cell_3 (by decide) rfl (fun h => ?_) (fun h => ?_)
  · have h0 : ¬ 0 < Γ.2.2.2 := by
      have := (nI_leI (a := Γ.2.2.2) (b := 0) (by omega) (by decide)).mp h
      omega
    refine x_iconst (q := 13) (v := nI 0) hC d_Lw_cell_12 (by decide) rfl ?_
    exact x_iret hC rfl rfl ⟨sv (it_f h0 rfl), rfl⟩ (by decide) (by decide) d_Lw_cell_13
  · have h0 : 0 < Γ.2.2.2 := by
      have := mt (nI_leI (a := Γ.2.2.2) (b := 0) (by omega) (by decide)).mpr h
      omega
    refine x_aload_n (q := 7) hC d_Lw_cell_6 rfl rfl rfl ?_
    refine x_iload_n (q := 8) hC d_Lw_cell_7 rfl rfl rfl ?_
    refine x_sld (q := 9) (p := 0) hC 0 rfl hnx rfl h0 (by omega) d_Lw_cell_8 rfl ?_
    refine x_goto (tgt := 13) hC d_Lw_cell_9 (by decide) ?_
    exact x_iret hC rfl rfl ⟨sv (it_t h0 rfl), rfl⟩ (by decide) (by decide) d_Lw_cell_13
set_option maxRecDepth 100000 in
set_option maxHeartbeats 1000000 in
theorem lw_all {Γ : mx_X} {κ : mx_K} {Q : State → Prop} {u0 : Nat → Nat → Bool} {m0 : mx_Mm} (hC : mx_Ctx Γ κ M_Lw_law) (hu : ∀ p k, 2 ≤ p → u0 p k = true) (hu1 : ∀ k, u0 1 k = true) (hL : Γ.2.2.2 ≤ 2561) (E : ∀ i m, mx_G Γ κ M_Lw_law Q 758 [(3, .int (nI i)), (2, .ref 185), (1, .ref 1), (0, .ref 0)] [] (214, u0, m) 213 2186) (hz : ∀ q j, 1 ≤ q → m0 q j = 0) : mx_G Γ κ M_Lw_law Q 0 [(0, .ref 0)] [] (1, u0, m0) 0 0 := by
  refine x_new (q := 3) (p := 1) (c1 := 1) (s1 := 8) hC sn_Lw_law_7 rfl rfl rfl rfl (by decide) (by decide) d_Lw_law_0 rfl ?_
  refine x_dup (q := 4) hC d_Lw_law_3 rfl rfl ?_
  refine x_aload_n (q := 5) hC d_Lw_law_4 rfl rfl rfl ?_
  refine x_iconst (q := 6) (v := nI 0) hC d_Lw_law_5 (by decide) rfl ?_
  refine mx_nr (fun m1 e1 => ?_)
  have z1 : ∀ q j, 1 ≤ q → m1 q j = 0 := fun q j hq => by
    rw [← e1]
    show (if q = 1 then 0 else m0 q j) = 0
    split
    · rfl
    · exact hz q j hq
  refine x_callS (q := 9) (A := [.ref 0, .int (nI 0)]) (S := [.ref 1, .ref 1]) (c1 := 1) (s1 := 8) hC (c_Lw_cell (Nat.le_of_ble_eq_true rfl) hL) s_Lw_law_9 rfl rfl rfl (Nat.le_of_ble_eq_true rfl) rfl rfl (by decide) (by decide) d_Lw_law_6 rfl (fun ρ τ hP => ?_)
  obtain ⟨rfl, rfl⟩ := hP
  show mx_G Γ κ _ _ 9 [(0, .ref 0)] [.int (if 0 < Γ.2.2.2 then m1 0 0 else nI 0), .ref 1, .ref 1] (2, mx_zu u0 1 8, m1) 1 8
  generalize hxx : (if 0 < Γ.2.2.2 then m1 0 0 else nI 0) = x
  obtain ⟨r, hr, hr1, hr0⟩ : ∃ r, r < 6 ∧ (rt x → x = nI r) ∧ (¬ rt x → r = 0) := by
    by_cases c : rt x
    · exact ⟨tn x, (in_tn c (by decide)).2, fun _ => (in_tn c (by decide)).1, fun z => absurd c z⟩
    · exact ⟨0, by decide, fun z => absurd z c, fun _ => rfl⟩
  have zz : ∀ q j, 2 ≤ q → m1 q j = 0 := fun q j hq => z1 q j (by omega)
  have hst := start_sim (r := r) (m := m1) hr zz
  have hat := MT_at0 (r := r) (m := m1) zz
  have hz2 : ∀ q j, 185 ≤ q → (MT_init r m1) q j = 0 := fun q j hq => (MT_start (r := r) zz).1 q j (by omega) (by omega) (by omega) (by omega) (by omega) (by omega) (by omega)
  refine x_callI (q := 12) (p := 1) (A := [.int x]) (S := [.ref 1]) (c1 := 184) (s1 := 1124) hC (c_MT_init (r := r) hu zz hr1 hr0 hu1) s_Lw_law_15 rfl rfl rfl (Nat.le_of_ble_eq_true rfl) rfl rfl (by decide) (by decide) d_Lw_law_9 rfl (fun ρ τ hP => ?_)
  obtain ⟨rfl, rfl⟩ := hP
  show mx_G Γ κ _ _ 12 [(0, .ref 0)] [.ref 1] (185, u0, MT_init r m1) 184 1124
  refine x_astore_n (q := 13) (L1 := [(1, .ref 1), (0, .ref 0)]) hC d_Lw_law_12 rfl (by decide) rfl rfl ?_
  refine mx_nr (fun a ea => ?_)
  rw [ea] at hst hz2
  have hat' : ∀ j, a 0 j = m1 0 j := fun j => by rw [← ea]; exact hat j
  have hza : mx_zr a 185 = a := funext fun q => funext fun j => by
    show (if q = 185 then 0 else a q j) = a q j
    split
    next e => rw [e]; exact (hz2 185 j (by omega)).symm
    next => rfl
  refine x_new (q := 16) (p := 185) (c1 := 185) (s1 := 1160) hC sn_Lw_law_18 rfl rfl rfl rfl (by decide) (by decide) d_Lw_law_13 rfl ?_
  refine x_dup (q := 17) hC d_Lw_law_16 rfl rfl ?_
  refine x_aload_n (q := 18) hC d_Lw_law_17 rfl rfl rfl ?_
  refine x_iconst (q := 19) (v := nI 0) hC d_Lw_law_18 (by decide) rfl ?_
  refine mx_eqG (τ := (186, mx_zu u0 185 9, a)) rfl rfl (pr hza) ?_
  refine x_callS (q := 22) (A := [.ref 0, .int (nI 0)]) (S := [.ref 185, .ref 185]) (c1 := 185) (s1 := 1160) hC (c_Lw_cell (Nat.le_of_ble_eq_true rfl) hL) s_Lw_law_9 rfl rfl rfl (Nat.le_of_ble_eq_true rfl) rfl rfl (by decide) (by decide) d_Lw_law_19 rfl (fun ρ τ hP => ?_)
  obtain ⟨rfl, rfl⟩ := hP
  show mx_G Γ κ _ _ 22 [(1, .ref 1), (0, .ref 0)] [.int (if 0 < Γ.2.2.2 then a 0 0 else nI 0), .ref 185, .ref 185] (186, mx_zu u0 185 9, a) 185 1160
  rw [hat' 0, hxx]
  refine x_callI (q := 25) (p := 185) (A := [.int x]) (S := [.ref 185]) (c1 := 213) (s1 := 2186) hC (c_Mo_init (r := r) hu hz2 hr1 hr0) s_Lw_law_20 rfl rfl rfl (Nat.le_of_ble_eq_true rfl) rfl rfl (by decide) (by decide) d_Lw_law_22 rfl (fun ρ τ hP => ?_)
  obtain ⟨rfl, rfl⟩ := hP
  show mx_G Γ κ _ _ 25 [(1, .ref 1), (0, .ref 0)] [.ref 185] (214, u0, Mo_init r a) 213 2186
  refine x_astore_n (q := 26) (L1 := [(2, .ref 185), (1, .ref 1), (0, .ref 0)]) hC d_Lw_law_25 rfl (by decide) rfl rfl ?_
  refine x_iconst (q := 27) (v := nI 1) hC d_Lw_law_26 (by decide) rfl ?_
  refine x_istore_n (q := 28) (L1 := [(3, .int (nI 1)), (2, .ref 185), (1, .ref 1), (0, .ref 0)]) hC d_Lw_law_27 rfl (by decide) rfl rfl ?_
  have hb0 := (Mo_start (r := r) (a := a) hz2).1
  refine mx_nr (fun m2 e2 => ?_)
  rw [e2] at hst hb0
  exact lw_loop hC hu hu1 hr hL E 2561 1 0 m2 (by omega) (by omega) (by omega) (hst.two hb0 (fun _ _ _ => rfl))
