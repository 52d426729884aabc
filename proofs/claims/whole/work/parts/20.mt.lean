set_option maxRecDepth 100000 in
set_option maxHeartbeats 400000 in
theorem c_JI_bitCount {Γ : mx_X} {lau : Launch} {nx : Nat} {u : Nat → Nat → Bool} {mi : mx_Mm} {x : Int32}   : mx_C Γ lau M_JI_bitCount [.int x] (nx, u, mi) (fun ρ τ => ρ = some (.int (bc x)) ∧ τ = (nx, u, mi)) := by
  refine mx_C.introF (by decide +kernel) rfl (Nat.le_of_ble_eq_true rfl) (fun κ _ hC => ?_)
  show mx_G Γ κ _ _ 0 [(0, .int x)] [] (nx, u, mi) 0 0
  refine x_iload_n (q := 1) hC d_JI_bitCount_0 rfl rfl rfl ?_
  refine x_iload_n (q := 2) hC d_JI_bitCount_1 rfl rfl rfl ?_
  refine x_iconst (q := 3) (v := nI 1) hC d_JI_bitCount_2 (by decide) rfl ?_
  refine x_iushr (q := 4) (z := (x.toUInt32 >>> ((nI 1).toUInt32 &&& Int32.toUInt32 31)).toInt32) hC d_JI_bitCount_3 rfl rfl ?_
  refine x_ldcw (q := 7) (v := 1431655765) hC k_JI_265 d_JI_bitCount_4 rfl ?_
  refine x_iand (q := 8) (z := ((x.toUInt32 >>> ((nI 1).toUInt32 &&& Int32.toUInt32 31)).toInt32) &&& 1431655765) hC d_JI_bitCount_7 rfl rfl ?_
  refine x_isub (q := 9) (z := x - (((x.toUInt32 >>> ((nI 1).toUInt32 &&& Int32.toUInt32 31)).toInt32) &&& 1431655765)) hC d_JI_bitCount_8 rfl rfl ?_
  refine x_istore_n (q := 10) (L1 := [(0, .int (x - (((x.toUInt32 >>> ((nI 1).toUInt32 &&& Int32.toUInt32 31)).toInt32) &&& 1431655765)))]) hC d_JI_bitCount_9 rfl (by decide) rfl rfl ?_
  refine mx_eqG (L1 := [(0, .int (bc1 x))]) (by rfl) rfl rfl ?_
  refine x_iload_n (q := 11) hC d_JI_bitCount_10 rfl rfl rfl ?_
  refine x_ldcw (q := 14) (v := 858993459) hC k_JI_266 d_JI_bitCount_11 rfl ?_
  refine x_iand (q := 15) (z := (bc1 x) &&& 858993459) hC d_JI_bitCount_14 rfl rfl ?_
  refine x_iload_n (q := 16) hC d_JI_bitCount_15 rfl rfl rfl ?_
  refine x_iconst (q := 17) (v := nI 2) hC d_JI_bitCount_16 (by decide) rfl ?_
  refine x_iushr (q := 18) (z := ((bc1 x).toUInt32 >>> ((nI 2).toUInt32 &&& Int32.toUInt32 31)).toInt32) hC d_JI_bitCount_17 rfl rfl ?_
  refine x_ldcw (q := 21) (v := 858993459) hC k_JI_266 d_JI_bitCount_18 rfl ?_
  refine x_iand (q := 22) (z := (((bc1 x).toUInt32 >>> ((nI 2).toUInt32 &&& Int32.toUInt32 31)).toInt32) &&& 858993459) hC d_JI_bitCount_21 rfl rfl ?_
  refine x_iadd (q := 23) (z := ((bc1 x) &&& 858993459) + ((((bc1 x).toUInt32 >>> ((nI 2).toUInt32 &&& Int32.toUInt32 31)).toInt32) &&& 858993459)) hC d_JI_bitCount_22 rfl rfl ?_
  refine x_istore_n (q := 24) (L1 := [(0, .int (((bc1 x) &&& 858993459) + ((((bc1 x).toUInt32 >>> ((nI 2).toUInt32 &&& Int32.toUInt32 31)).toInt32) &&& 858993459)))]) hC d_JI_bitCount_23 rfl (by decide) rfl rfl ?_
  refine mx_eqG (L1 := [(0, .int (bc2 (bc1 x)))]) (by rfl) rfl rfl ?_
  refine x_iload_n (q := 25) hC d_JI_bitCount_24 rfl rfl rfl ?_
  refine x_iload_n (q := 26) hC d_JI_bitCount_25 rfl rfl rfl ?_
  refine x_iconst (q := 27) (v := nI 4) hC d_JI_bitCount_26 (by decide) rfl ?_
  refine x_iushr (q := 28) (z := ((bc2 (bc1 x)).toUInt32 >>> ((nI 4).toUInt32 &&& Int32.toUInt32 31)).toInt32) hC d_JI_bitCount_27 rfl rfl ?_
  refine x_iadd (q := 29) (z := (bc2 (bc1 x)) + (((bc2 (bc1 x)).toUInt32 >>> ((nI 4).toUInt32 &&& Int32.toUInt32 31)).toInt32)) hC d_JI_bitCount_28 rfl rfl ?_
  refine x_ldcw (q := 32) (v := 252645135) hC k_JI_267 d_JI_bitCount_29 rfl ?_
  refine x_iand (q := 33) (z := ((bc2 (bc1 x)) + (((bc2 (bc1 x)).toUInt32 >>> ((nI 4).toUInt32 &&& Int32.toUInt32 31)).toInt32)) &&& 252645135) hC d_JI_bitCount_32 rfl rfl ?_
  refine x_istore_n (q := 34) (L1 := [(0, .int (((bc2 (bc1 x)) + (((bc2 (bc1 x)).toUInt32 >>> ((nI 4).toUInt32 &&& Int32.toUInt32 31)).toInt32)) &&& 252645135))]) hC d_JI_bitCount_33 rfl (by decide) rfl rfl ?_
  refine mx_eqG (L1 := [(0, .int (bc3 (bc2 (bc1 x))))]) (by rfl) rfl rfl ?_
  refine x_iload_n (q := 35) hC d_JI_bitCount_34 rfl rfl rfl ?_
  refine x_iload_n (q := 36) hC d_JI_bitCount_35 rfl rfl rfl ?_
  refine x_bipush (q := 38) (v := nI 8) hC d_JI_bitCount_36 (by decide) rfl ?_
  refine x_iushr (q := 39) (z := ((bc3 (bc2 (bc1 x))).toUInt32 >>> ((nI 8).toUInt32 &&& Int32.toUInt32 31)).toInt32) hC d_JI_bitCount_38 rfl rfl ?_
  refine x_iadd (q := 40) (z := (bc3 (bc2 (bc1 x))) + (((bc3 (bc2 (bc1 x))).toUInt32 >>> ((nI 8).toUInt32 &&& Int32.toUInt32 31)).toInt32)) hC d_JI_bitCount_39 rfl rfl ?_
  refine x_istore_n (q := 41) (L1 := [(0, .int ((bc3 (bc2 (bc1 x))) + (((bc3 (bc2 (bc1 x))).toUInt32 >>> ((nI 8).toUInt32 &&& Int32.toUInt32 31)).toInt32)))]) hC d_JI_bitCount_40 rfl (by decide) rfl rfl ?_
  refine mx_eqG (L1 := [(0, .int (bc4 (bc3 (bc2 (bc1 x)))))]) (by rfl) rfl rfl ?_
  refine x_iload_n (q := 42) hC d_JI_bitCount_41 rfl rfl rfl ?_
  refine x_iload_n (q := 43) hC d_JI_bitCount_42 rfl rfl rfl ?_
  refine x_bipush (q := 45) (v := nI 16) hC d_JI_bitCount_43 (by decide) rfl ?_
  refine x_iushr (q := 46) (z := ((bc4 (bc3 (bc2 (bc1 x)))).toUInt32 >>> ((nI 16).toUInt32 &&& Int32.toUInt32 31)).toInt32) hC d_JI_bitCount_45 rfl rfl ?_
  refine x_iadd (q := 47) (z := (bc4 (bc3 (bc2 (bc1 x)))) + (((bc4 (bc3 (bc2 (bc1 x)))).toUInt32 >>> ((nI 16).toUInt32 &&& Int32.toUInt32 31)).toInt32)) hC d_JI_bitCount_46 rfl rfl ?_
  refine x_istore_n (q := 48) (L1 := [(0, .int ((bc4 (bc3 (bc2 (bc1 x)))) + (((bc4 (bc3 (bc2 (bc1 x)))).toUInt32 >>> ((nI 16).toUInt32 &&& Int32.toUInt32 31)).toInt32)))]) hC d_JI_bitCount_47 rfl (by decide) rfl rfl ?_
  refine mx_eqG (L1 := [(0, .int (bc5 (bc4 (bc3 (bc2 (bc1 x))))))]) (by rfl) rfl rfl ?_
  refine x_iload_n (q := 49) hC d_JI_bitCount_48 rfl rfl rfl ?_
  refine x_bipush (q := 51) (v := nI 63) hC d_JI_bitCount_49 (by decide) rfl ?_
  refine x_iand (q := 52) (z := (bc5 (bc4 (bc3 (bc2 (bc1 x))))) &&& (nI 63)) hC d_JI_bitCount_51 rfl rfl ?_
  exact x_iret hC rfl rfl ⟨rfl, rfl⟩ (by decide) (by decide) d_JI_bitCount_52
set_option maxRecDepth 100000 in
set_option maxHeartbeats 400000 in
theorem c_MT_link {Γ : mx_X} {lau : Launch} {nx : Nat} {u : Nat → Nat → Bool} {mi : mx_Mm} {r : Nat} {x y c : Int32} (hnx : 185 ≤ nx) (hu : ∀ p k, 2 ≤ p → u p k = true) (hu1 : ∀ k, u 1 k = true) (hr : r < 6) (hok : Tr_ok r mi) : mx_C Γ lau M_MT_link [.ref 1, .int x, .int y, .int c] (nx, u, mi) (fun ρ τ => ρ = some (.int (bz (C_lkP x y c mi))) ∧ τ = (nx, u, C_link r x y c mi)) := by
  refine mx_C.intro (by decide) rfl (Nat.le_of_ble_eq_true rfl) (fun κ _ hC => ?_)
  show mx_G Γ κ _ _ 0 [(0, .ref 1), (1, .int x), (2, .int y), (3, .int c)] [] (nx, u, mi) 0 0
  refine x_iload_n (q := 1) hC d_MT_link_0 rfl rfl rfl ?_
  refine x_callS (q := 4) (A := [.int x]) (S := []) (c1 := 0) (s1 := 0) hC (c_MT_isRouter) s_MT_link_9 rfl rfl rfl (Nat.le_of_ble_eq_true rfl) rfl rfl (by decide) (by decide) d_MT_link_1 rfl (fun r τ hP => ?_)
  obtain ⟨rfl, rfl⟩ := hP
  show mx_G Γ κ _ _ 4 [(0, .ref 1), (1, .int x), (2, .int y), (3, .int c)] [.int (bz (0 ≤ x ∧ x < nI 6))] (nx, u, mi) 0 0
  refine x_if_eq (tgt := 19) (q := 7) hC d_MT_link_4 (by decide) rfl (fun h4 => ?_) (fun h4 => ?_)
  · have h4 := bz_0 h4
    refine x_iconst (q := 20) (v := nI 0) hC d_MT_link_19 (by decide) rfl ?_
    exact x_iret hC rfl rfl ⟨bz_f (fun q => h4 q.1), pr (it_f (fun q => h4 q.1) rfl)⟩ (by decide) (by decide) d_MT_link_20
  · have h4 := bz_1 h4
    obtain ⟨ex, hx⟩ := in_tn h4 (by decide)
    refine mx_eqG (L1 := [(0, .ref 1), (1, .int (nI (tn x))), (2, .int y), (3, .int c)]) (by rw [← ex]) rfl rfl ?_
    refine x_iload_n (q := 8) hC d_MT_link_7 rfl rfl rfl ?_
    refine x_callS (q := 11) (A := [.int y]) (S := []) (c1 := 0) (s1 := 0) hC (c_MT_isRouter) s_MT_link_9 rfl rfl rfl (Nat.le_of_ble_eq_true rfl) rfl rfl (by decide) (by decide) d_MT_link_8 rfl (fun r τ hP => ?_)
    obtain ⟨rfl, rfl⟩ := hP
    show mx_G Γ κ _ _ 11 [(0, .ref 1), (1, .int (nI (tn x))), (2, .int y), (3, .int c)] [.int (bz (0 ≤ y ∧ y < nI 6))] (nx, u, mi) 0 0
    refine x_if_eq (tgt := 19) (q := 14) hC d_MT_link_11 (by decide) rfl (fun h11 => ?_) (fun h11 => ?_)
    · have h11 := bz_0 h11
      refine x_iconst (q := 20) (v := nI 0) hC d_MT_link_19 (by decide) rfl ?_
      exact x_iret hC rfl rfl ⟨bz_f (fun q => h11 q.2.1), pr (it_f (fun q => h11 q.2.1) rfl)⟩ (by decide) (by decide) d_MT_link_20
    · have h11 := bz_1 h11
      obtain ⟨ey, hy⟩ := in_tn h11 (by decide)
      refine mx_eqG (L1 := [(0, .ref 1), (1, .int (nI (tn x))), (2, .int (nI (tn y))), (3, .int c)]) (by rw [← ey]) rfl rfl ?_
      refine x_iload_n (q := 15) hC d_MT_link_14 rfl rfl rfl ?_
      refine x_iload_n (q := 16) hC d_MT_link_15 rfl rfl rfl ?_
      refine x_icmp_ne (tgt := 21) (q := 19) hC d_MT_link_16 (by decide) rfl (fun h16 => ?_) (fun h16 => ?_)
      · skip
        refine x_iload_n (q := 22) hC d_MT_link_21 rfl rfl rfl ?_
        refine x_if_lt (tgt := 44) (q := 25) hC d_MT_link_22 (by decide) rfl (fun h22 => ?_) (fun h22 => ?_)
        · skip
          refine x_iconst (q := 45) (v := nI 0) hC d_MT_link_44 (by decide) rfl ?_
          exact x_iret hC rfl rfl ⟨bz_f (fun q => Int32.not_le.mpr h22 q.2.2.2.1), pr (it_f (fun q => Int32.not_le.mpr h22 q.2.2.2.1) rfl)⟩ (by decide) (by decide) d_MT_link_45
        · skip
          refine x_iload_n (q := 26) hC d_MT_link_25 rfl rfl rfl ?_
          refine x_bipush (q := 28) (v := nI 9) hC d_MT_link_26 (by decide) rfl ?_
          refine x_icmp_gt (tgt := 44) (q := 31) hC d_MT_link_28 (by decide) rfl (fun h28 => ?_) (fun h28 => ?_)
          · skip
            refine x_iconst (q := 45) (v := nI 0) hC d_MT_link_44 (by decide) rfl ?_
            exact x_iret hC rfl rfl ⟨bz_f (fun q => Int32.not_lt.mpr q.2.2.2.2.1 h28), pr (it_f (fun q => Int32.not_lt.mpr q.2.2.2.2.1 h28) rfl)⟩ (by decide) (by decide) d_MT_link_45
          · skip
            refine x_iload_n (q := 32) hC d_MT_link_31 rfl rfl rfl ?_
            refine x_aload_n (q := 33) hC d_MT_link_32 rfl rfl rfl ?_
            refine x_getr (q := 36) (p := 1) (j := 2) (r := 5) hC f_MT_30 rfl rfl rfl (by omega) (hu1 _) d_MT_link_33 rfl ?_
            refine x_iload_n (q := 37) hC d_MT_link_36 rfl rfl rfl ?_
            refine x_iload_n (q := 38) hC d_MT_link_37 rfl rfl rfl ?_
            refine x_callV (q := 41) (p := 5) (A := [.int (nI (tn x)), .int (nI (tn y))]) (S := [.int c]) (c1 := 0) (s1 := 0) hC (c_Ne_costOf (a := tn x) (b := tn y) (by omega) hu (by omega) (by omega)) s_MT_link_77 rfl (by omega) rfl rfl rfl (Nat.le_of_ble_eq_true rfl) rfl rfl (by decide) (by decide) d_MT_link_38 rfl (fun r τ hP => ?_)
            obtain ⟨rfl, rfl⟩ := hP
            show mx_G Γ κ _ _ 41 [(0, .ref 1), (1, .int (nI (tn x))), (2, .int (nI (tn y))), (3, .int c)] [.int (mi (7 + (tn x)) (tn y)), .int c] (nx, u, mi) 0 0
            refine x_icmp_ne (tgt := 46) (q := 44) hC d_MT_link_41 (by decide) rfl (fun h41 => ?_) (fun h41 => ?_)
            · skip
              refine x_aload_n (q := 47) hC d_MT_link_46 rfl rfl rfl ?_
              refine x_getr (q := 50) (p := 1) (j := 2) (r := 5) hC f_MT_30 rfl rfl rfl (by omega) (hu1 _) d_MT_link_47 rfl ?_
              refine x_iload_n (q := 51) hC d_MT_link_50 rfl rfl rfl ?_
              refine x_iload_n (q := 52) hC d_MT_link_51 rfl rfl rfl ?_
              refine x_iload_n (q := 53) hC d_MT_link_52 rfl rfl rfl ?_
              refine x_callV (q := 56) (p := 5) (A := [.int (nI (tn x)), .int (nI (tn y)), .int c]) (S := []) (c1 := 0) (s1 := 0) hC (c_Ne_setCost (a := tn x) (b := tn y) (c := c) (by omega) hu (by omega) (by omega) hok.2.1) s_MT_link_81 rfl (by omega) rfl rfl rfl (Nat.le_of_ble_eq_true rfl) rfl rfl (by decide) (by decide) d_MT_link_53 rfl (fun r τ hP => ?_)
              obtain ⟨rfl, rfl⟩ := hP
              show mx_G Γ κ _ _ 56 [(0, .ref 1), (1, .int (nI (tn x))), (2, .int (nI (tn y))), (3, .int c)] [] (nx, u, Ne_set (tn x) (tn y) c mi) 0 0
              refine x_aload_n (q := 57) hC d_MT_link_56 rfl rfl rfl ?_
              refine x_getr (q := 60) (p := 1) (j := 5) (r := 79) hC f_MT_55 rfl rfl rfl (by omega) (hu1 _) d_MT_link_57 rfl ?_
              refine x_callV (q := 63) (p := 79) (A := []) (S := []) (c1 := 0) (s1 := 0) hC (c_Tr_settle (r := r) (by omega) hu hr (Tr_set_ok hx hy hok)) s_MT_link_85 rfl (by omega) rfl rfl rfl (Nat.le_of_ble_eq_true rfl) rfl rfl (by decide) (by decide) d_MT_link_60 rfl (fun r τ hP => ?_)
              obtain ⟨rfl, rfl⟩ := hP
              show mx_G Γ κ _ _ 63 [(0, .ref 1), (1, .int (nI (tn x))), (2, .int (nI (tn y))), (3, .int c)] [] (nx, u, Tr_settle r (Ne_set (tn x) (tn y) c mi)) 0 0
              refine x_iconst (q := 64) (v := nI 1) hC d_MT_link_63 (by decide) rfl ?_
              exact x_iret hC rfl rfl ⟨bz_t (And.intro h4 (And.intro h11 (And.intro (fun q => h16 (by rw [← ex, ← ey]; exact q)) (And.intro (Int32.not_lt.mp h22) (And.intro (Int32.not_lt.mp h28) h41))))), pr (it_t (And.intro h4 (And.intro h11 (And.intro (fun q => h16 (by rw [← ex, ← ey]; exact q)) (And.intro (Int32.not_lt.mp h22) (And.intro (Int32.not_lt.mp h28) h41))))) rfl)⟩ (by decide) (by decide) d_MT_link_64
            · skip
              refine x_iconst (q := 45) (v := nI 0) hC d_MT_link_44 (by decide) rfl ?_
              exact x_iret hC rfl rfl ⟨bz_f (fun q => q.2.2.2.2.2 h41), pr (it_f (fun q => q.2.2.2.2.2 h41) rfl)⟩ (by decide) (by decide) d_MT_link_45
      · skip
        refine x_iconst (q := 20) (v := nI 0) hC d_MT_link_19 (by decide) rfl ?_
        exact x_iret hC rfl rfl ⟨bz_f (fun q => q.2.2.1 (by rw [ex, ey]; exact h16)), pr (it_f (fun q => q.2.2.1 (by rw [ex, ey]; exact h16)) rfl)⟩ (by decide) (by decide) d_MT_link_20
set_option maxRecDepth 100000 in
set_option maxHeartbeats 400000 in
theorem c_MT_distance {Γ : mx_X} {lau : Launch} {nx : Nat} {u : Nat → Nat → Bool} {mi : mx_Mm} {x y : Int32} (hnx : 185 ≤ nx) (hu : ∀ p k, 2 ≤ p → u p k = true) (hu1 : ∀ k, u 1 k = true)  : mx_C Γ lau M_MT_distance [.ref 1, .int x, .int y] (nx, u, mi) (fun ρ τ => ρ = some (.int (C_dist x y mi)) ∧ τ = (nx, u, mi)) := by
  refine mx_C.intro (by decide) rfl (Nat.le_of_ble_eq_true rfl) (fun κ _ hC => ?_)
  show mx_G Γ κ _ _ 0 [(0, .ref 1), (1, .int x), (2, .int y)] [] (nx, u, mi) 0 0
  refine x_iload_n (q := 1) hC d_MT_distance_0 rfl rfl rfl ?_
  refine x_callS (q := 4) (A := [.int x]) (S := []) (c1 := 0) (s1 := 0) hC (c_MT_isRouter) s_MT_distance_9 rfl rfl rfl (Nat.le_of_ble_eq_true rfl) rfl rfl (by decide) (by decide) d_MT_distance_1 rfl (fun r τ hP => ?_)
  obtain ⟨rfl, rfl⟩ := hP
  show mx_G Γ κ _ _ 4 [(0, .ref 1), (1, .int x), (2, .int y)] [.int (bz (0 ≤ x ∧ x < nI 6))] (nx, u, mi) 0 0
  refine x_if_eq (tgt := 26) (q := 7) hC d_MT_distance_4 (by decide) rfl (fun h4 => ?_) (fun h4 => ?_)
  · have h4 := bz_0 h4
    refine x_iconst (q := 27) (v := (-1)) hC d_MT_distance_26 (by decide) rfl ?_
    exact x_iret hC rfl rfl ⟨sv (it_f (fun q => h4 q.1) rfl), rfl⟩ (by decide) (by decide) d_MT_distance_27
  · have h4 := bz_1 h4
    obtain ⟨ex, hx⟩ := in_tn h4 (by decide)
    refine mx_eqG (L1 := [(0, .ref 1), (1, .int (nI (tn x))), (2, .int y)]) (by rw [← ex]) rfl rfl ?_
    refine x_iload_n (q := 8) hC d_MT_distance_7 rfl rfl rfl ?_
    refine x_callS (q := 11) (A := [.int y]) (S := []) (c1 := 0) (s1 := 0) hC (c_MT_isRouter) s_MT_distance_9 rfl rfl rfl (Nat.le_of_ble_eq_true rfl) rfl rfl (by decide) (by decide) d_MT_distance_8 rfl (fun r τ hP => ?_)
    obtain ⟨rfl, rfl⟩ := hP
    show mx_G Γ κ _ _ 11 [(0, .ref 1), (1, .int (nI (tn x))), (2, .int y)] [.int (bz (0 ≤ y ∧ y < nI 6))] (nx, u, mi) 0 0
    refine x_if_eq (tgt := 26) (q := 14) hC d_MT_distance_11 (by decide) rfl (fun h11 => ?_) (fun h11 => ?_)
    · have h11 := bz_0 h11
      refine x_iconst (q := 27) (v := (-1)) hC d_MT_distance_26 (by decide) rfl ?_
      exact x_iret hC rfl rfl ⟨sv (it_f (fun q => h11 q.2.1) rfl), rfl⟩ (by decide) (by decide) d_MT_distance_27
    · have h11 := bz_1 h11
      obtain ⟨ey, hy⟩ := in_tn h11 (by decide)
      refine mx_eqG (L1 := [(0, .ref 1), (1, .int (nI (tn x))), (2, .int (nI (tn y)))]) (by rw [← ey]) rfl rfl ?_
      refine x_aload_n (q := 15) hC d_MT_distance_14 rfl rfl rfl ?_
      refine x_getr (q := 18) (p := 1) (j := 2) (r := 5) hC f_MT_30 rfl rfl rfl (by omega) (hu1 _) d_MT_distance_15 rfl ?_
      refine x_iload_n (q := 19) hC d_MT_distance_18 rfl rfl rfl ?_
      refine x_iload_n (q := 20) hC d_MT_distance_19 rfl rfl rfl ?_
      refine x_callV (q := 23) (p := 5) (A := [.int (nI (tn x)), .int (nI (tn y))]) (S := []) (c1 := 0) (s1 := 0) hC (c_Ne_areConnected (a := tn x) (b := tn y) (by omega) hu (by omega) (by omega)) s_MT_distance_88 rfl (by omega) rfl rfl rfl (Nat.le_of_ble_eq_true rfl) rfl rfl (by decide) (by decide) d_MT_distance_20 rfl (fun r τ hP => ?_)
      obtain ⟨rfl, rfl⟩ := hP
      show mx_G Γ κ _ _ 23 [(0, .ref 1), (1, .int (nI (tn x))), (2, .int (nI (tn y)))] [.int (bz (mi (14 + (tn x)) (tn y) < nI 1000))] (nx, u, mi) 0 0
      refine x_if_ne (tgt := 28) (q := 26) hC d_MT_distance_23 (by decide) rfl (fun h23 => ?_) (fun h23 => ?_)
      · have h23 := bz_1 h23
        refine x_aload_n (q := 29) hC d_MT_distance_28 rfl rfl rfl ?_
        refine x_getr (q := 32) (p := 1) (j := 2) (r := 5) hC f_MT_30 rfl rfl rfl (by omega) (hu1 _) d_MT_distance_29 rfl ?_
        refine x_iload_n (q := 33) hC d_MT_distance_32 rfl rfl rfl ?_
        refine x_iload_n (q := 34) hC d_MT_distance_33 rfl rfl rfl ?_
        refine x_callV (q := 37) (p := 5) (A := [.int (nI (tn x)), .int (nI (tn y))]) (S := []) (c1 := 0) (s1 := 0) hC (c_Ne_lengthOf (a := tn x) (b := tn y) (by omega) hu (by omega) (by omega)) s_MT_distance_92 rfl (by omega) rfl rfl rfl (Nat.le_of_ble_eq_true rfl) rfl rfl (by decide) (by decide) d_MT_distance_34 rfl (fun r τ hP => ?_)
        obtain ⟨rfl, rfl⟩ := hP
        show mx_G Γ κ _ _ 37 [(0, .ref 1), (1, .int (nI (tn x))), (2, .int (nI (tn y)))] [.int (mi (14 + (tn x)) (tn y))] (nx, u, mi) 0 0
        exact x_iret hC rfl rfl ⟨sv (it_t (And.intro h4 (And.intro h11 h23)) rfl), rfl⟩ (by decide) (by decide) d_MT_distance_37
      · have h23 := bz_0 h23
        refine x_iconst (q := 27) (v := (-1)) hC d_MT_distance_26 (by decide) rfl ?_
        exact x_iret hC rfl rfl ⟨sv (it_f (fun q => h23 q.2.2) rfl), rfl⟩ (by decide) (by decide) d_MT_distance_27
set_option maxRecDepth 100000 in
set_option maxHeartbeats 400000 in
theorem c_MT_hop {Γ : mx_X} {lau : Launch} {nx : Nat} {u : Nat → Nat → Bool} {mi : mx_Mm} {x y : Int32} (hnx : 185 ≤ nx) (hu : ∀ p k, 2 ≤ p → u p k = true) (hu1 : ∀ k, u 1 k = true)  : mx_C Γ lau M_MT_hop [.ref 1, .int x, .int y] (nx, u, mi) (fun ρ τ => ρ = some (.int (C_hop x y mi)) ∧ τ = (nx, u, mi)) := by
  refine mx_C.intro (by decide) rfl (Nat.le_of_ble_eq_true rfl) (fun κ _ hC => ?_)
  show mx_G Γ κ _ _ 0 [(0, .ref 1), (1, .int x), (2, .int y)] [] (nx, u, mi) 0 0
  refine x_iload_n (q := 1) hC d_MT_hop_0 rfl rfl rfl ?_
  refine x_callS (q := 4) (A := [.int x]) (S := []) (c1 := 0) (s1 := 0) hC (c_MT_isRouter) s_MT_hop_9 rfl rfl rfl (Nat.le_of_ble_eq_true rfl) rfl rfl (by decide) (by decide) d_MT_hop_1 rfl (fun r τ hP => ?_)
  obtain ⟨rfl, rfl⟩ := hP
  show mx_G Γ κ _ _ 4 [(0, .ref 1), (1, .int x), (2, .int y)] [.int (bz (0 ≤ x ∧ x < nI 6))] (nx, u, mi) 0 0
  refine x_if_eq (tgt := 14) (q := 7) hC d_MT_hop_4 (by decide) rfl (fun h4 => ?_) (fun h4 => ?_)
  · have h4 := bz_0 h4
    refine x_iconst (q := 15) (v := (-1)) hC d_MT_hop_14 (by decide) rfl ?_
    exact x_iret hC rfl rfl ⟨sv (it_f (fun q => h4 q.1) rfl), rfl⟩ (by decide) (by decide) d_MT_hop_15
  · have h4 := bz_1 h4
    obtain ⟨ex, hx⟩ := in_tn h4 (by decide)
    refine mx_eqG (L1 := [(0, .ref 1), (1, .int (nI (tn x))), (2, .int y)]) (by rw [← ex]) rfl rfl ?_
    refine x_iload_n (q := 8) hC d_MT_hop_7 rfl rfl rfl ?_
    refine x_callS (q := 11) (A := [.int y]) (S := []) (c1 := 0) (s1 := 0) hC (c_MT_isRouter) s_MT_hop_9 rfl rfl rfl (Nat.le_of_ble_eq_true rfl) rfl rfl (by decide) (by decide) d_MT_hop_8 rfl (fun r τ hP => ?_)
    obtain ⟨rfl, rfl⟩ := hP
    show mx_G Γ κ _ _ 11 [(0, .ref 1), (1, .int (nI (tn x))), (2, .int y)] [.int (bz (0 ≤ y ∧ y < nI 6))] (nx, u, mi) 0 0
    refine x_if_ne (tgt := 16) (q := 14) hC d_MT_hop_11 (by decide) rfl (fun h11 => ?_) (fun h11 => ?_)
    · have h11 := bz_1 h11
      obtain ⟨ey, hy⟩ := in_tn h11 (by decide)
      refine mx_eqG (L1 := [(0, .ref 1), (1, .int (nI (tn x))), (2, .int (nI (tn y)))]) (by rw [← ey]) rfl rfl ?_
      refine x_aload_n (q := 17) hC d_MT_hop_16 rfl rfl rfl ?_
      refine x_getr (q := 20) (p := 1) (j := 2) (r := 5) hC f_MT_30 rfl rfl rfl (by omega) (hu1 _) d_MT_hop_17 rfl ?_
      refine x_iload_n (q := 21) hC d_MT_hop_20 rfl rfl rfl ?_
      refine x_iload_n (q := 22) hC d_MT_hop_21 rfl rfl rfl ?_
      refine x_callV (q := 25) (p := 5) (A := [.int (nI (tn x)), .int (nI (tn y))]) (S := []) (c1 := 0) (s1 := 0) hC (c_Ne_nextTowards (a := tn x) (b := tn y) (by omega) hu (by omega) (by omega)) s_MT_hop_95 rfl (by omega) rfl rfl rfl (Nat.le_of_ble_eq_true rfl) rfl rfl (by decide) (by decide) d_MT_hop_22 rfl (fun r τ hP => ?_)
      obtain ⟨rfl, rfl⟩ := hP
      show mx_G Γ κ _ _ 25 [(0, .ref 1), (1, .int (nI (tn x))), (2, .int (nI (tn y)))] [.int (mi (21 + (tn x)) (tn y))] (nx, u, mi) 0 0
      exact x_iret hC rfl rfl ⟨sv (it_t (And.intro h4 h11) rfl), rfl⟩ (by decide) (by decide) d_MT_hop_25
    · have h11 := bz_0 h11
      refine x_iconst (q := 15) (v := (-1)) hC d_MT_hop_14 (by decide) rfl ?_
      exact x_iret hC rfl rfl ⟨sv (it_f (fun q => h11 q.2) rfl), rfl⟩ (by decide) (by decide) d_MT_hop_15
set_option maxRecDepth 100000 in
set_option maxHeartbeats 400000 in
theorem c_MT_join {Γ : mx_X} {lau : Launch} {nx : Nat} {u : Nat → Nat → Bool} {mi : mx_Mm} {r : Nat} {l h g : Int32} (hnx : 185 ≤ nx) (hu : ∀ p k, 2 ≤ p → u p k = true) (hu1 : ∀ k, u 1 k = true) (hr : r < 6) (hok : Tr_ok r mi) : mx_C Γ lau M_MT_join [.ref 1, .int l, .int h, .int g] (nx, u, mi) (fun ρ τ => ρ = some (.int (bz (C_jnP l h g mi))) ∧ τ = (nx, u, C_join r l h g mi)) := by
  refine mx_C.intro (by decide) rfl (Nat.le_of_ble_eq_true rfl) (fun κ _ hC => ?_)
  show mx_G Γ κ _ _ 0 [(0, .ref 1), (1, .int l), (2, .int h), (3, .int g)] [] (nx, u, mi) 0 0
  refine x_iload_n (q := 1) hC d_MT_join_0 rfl rfl rfl ?_
  refine x_callS (q := 4) (A := [.int l]) (S := []) (c1 := 0) (s1 := 0) hC (c_MT_isRouter) s_MT_join_9 rfl rfl rfl (Nat.le_of_ble_eq_true rfl) rfl rfl (by decide) (by decide) d_MT_join_1 rfl (fun r τ hP => ?_)
  obtain ⟨rfl, rfl⟩ := hP
  show mx_G Γ κ _ _ 4 [(0, .ref 1), (1, .int l), (2, .int h), (3, .int g)] [.int (bz (0 ≤ l ∧ l < nI 6))] (nx, u, mi) 0 0
  refine x_if_eq (tgt := 34) (q := 7) hC d_MT_join_4 (by decide) rfl (fun h4 => ?_) (fun h4 => ?_)
  · have h4 := bz_0 h4
    refine x_iconst (q := 35) (v := nI 0) hC d_MT_join_34 (by decide) rfl ?_
    exact x_iret hC rfl rfl ⟨bz_f (fun q => h4 q.1), pr (it_f (fun q => h4 q.1) rfl)⟩ (by decide) (by decide) d_MT_join_35
  · have h4 := bz_1 h4
    obtain ⟨el, hl⟩ := in_tn h4 (by decide)
    refine mx_eqG (L1 := [(0, .ref 1), (1, .int (nI (tn l))), (2, .int h), (3, .int g)]) (by rw [← el]) rfl rfl ?_
    refine x_iload_n (q := 8) hC d_MT_join_7 rfl rfl rfl ?_
    refine x_callS (q := 11) (A := [.int h]) (S := []) (c1 := 0) (s1 := 0) hC (c_MT_isHost) s_MT_join_98 rfl rfl rfl (Nat.le_of_ble_eq_true rfl) rfl rfl (by decide) (by decide) d_MT_join_8 rfl (fun r τ hP => ?_)
    obtain ⟨rfl, rfl⟩ := hP
    show mx_G Γ κ _ _ 11 [(0, .ref 1), (1, .int (nI (tn l))), (2, .int h), (3, .int g)] [.int (bz (0 ≤ h ∧ h < nI 4))] (nx, u, mi) 0 0
    refine x_if_eq (tgt := 34) (q := 14) hC d_MT_join_11 (by decide) rfl (fun h11 => ?_) (fun h11 => ?_)
    · have h11 := bz_0 h11
      refine x_iconst (q := 35) (v := nI 0) hC d_MT_join_34 (by decide) rfl ?_
      exact x_iret hC rfl rfl ⟨bz_f (fun q => h11 q.2.1), pr (it_f (fun q => h11 q.2.1) rfl)⟩ (by decide) (by decide) d_MT_join_35
    · have h11 := bz_1 h11
      obtain ⟨eh, hh⟩ := in_tn h11 (by decide)
      refine mx_eqG (L1 := [(0, .ref 1), (1, .int (nI (tn l))), (2, .int (nI (tn h))), (3, .int g)]) (by rw [← eh]) rfl rfl ?_
      refine x_iload_n (q := 15) hC d_MT_join_14 rfl rfl rfl ?_
      refine x_callS (q := 18) (A := [.int g]) (S := []) (c1 := 0) (s1 := 0) hC (c_MT_isGroup) s_MT_join_101 rfl rfl rfl (Nat.le_of_ble_eq_true rfl) rfl rfl (by decide) (by decide) d_MT_join_15 rfl (fun r τ hP => ?_)
      obtain ⟨rfl, rfl⟩ := hP
      show mx_G Γ κ _ _ 18 [(0, .ref 1), (1, .int (nI (tn l))), (2, .int (nI (tn h))), (3, .int g)] [.int (bz (0 ≤ g ∧ g < nI 3))] (nx, u, mi) 0 0
      refine x_if_eq (tgt := 34) (q := 21) hC d_MT_join_18 (by decide) rfl (fun h18 => ?_) (fun h18 => ?_)
      · have h18 := bz_0 h18
        refine x_iconst (q := 35) (v := nI 0) hC d_MT_join_34 (by decide) rfl ?_
        exact x_iret hC rfl rfl ⟨bz_f (fun q => h18 q.2.2.1), pr (it_f (fun q => h18 q.2.2.1) rfl)⟩ (by decide) (by decide) d_MT_join_35
      · have h18 := bz_1 h18
        obtain ⟨eg, hg⟩ := in_tn h18 (by decide)
        refine mx_eqG (L1 := [(0, .ref 1), (1, .int (nI (tn l))), (2, .int (nI (tn h))), (3, .int (nI (tn g)))]) (by rw [← eg]) rfl rfl ?_
        refine x_aload_n (q := 22) hC d_MT_join_21 rfl rfl rfl ?_
        refine x_getr (q := 25) (p := 1) (j := 3) (r := 34) hC f_MT_39 rfl rfl rfl (by omega) (hu1 _) d_MT_join_22 rfl ?_
        refine x_iload_n (q := 26) hC d_MT_join_25 rfl rfl rfl ?_
        refine x_iload_n (q := 27) hC d_MT_join_26 rfl rfl rfl ?_
        refine x_iload_n (q := 28) hC d_MT_join_27 rfl rfl rfl ?_
        refine x_callV (q := 31) (p := 34) (A := [.int (nI (tn l)), .int (nI (tn h)), .int (nI (tn g))]) (S := []) (c1 := 0) (s1 := 0) hC (c_La_isMember (l := tn l) (h := tn h) (g := tn g) (by omega) hu (by omega) (by omega) (by omega) ) s_MT_join_104 rfl (by omega) rfl rfl rfl (Nat.le_of_ble_eq_true rfl) rfl rfl (by decide) (by decide) d_MT_join_28 rfl (fun r τ hP => ?_)
        obtain ⟨rfl, rfl⟩ := hP
        show mx_G Γ κ _ _ 31 [(0, .ref 1), (1, .int (nI (tn l))), (2, .int (nI (tn h))), (3, .int (nI (tn g)))] [.int (bz (hold (mi (36 + (tn l)) (tn g)) (tn h)))] (nx, u, mi) 0 0
        refine x_if_eq (tgt := 36) (q := 34) hC d_MT_join_31 (by decide) rfl (fun h31 => ?_) (fun h31 => ?_)
        · have h31 := bz_0 h31
          refine x_aload_n (q := 37) hC d_MT_join_36 rfl rfl rfl ?_
          refine x_getr (q := 40) (p := 1) (j := 3) (r := 34) hC f_MT_39 rfl rfl rfl (by omega) (hu1 _) d_MT_join_37 rfl ?_
          refine x_iload_n (q := 41) hC d_MT_join_40 rfl rfl rfl ?_
          refine x_iload_n (q := 42) hC d_MT_join_41 rfl rfl rfl ?_
          refine x_iload_n (q := 43) hC d_MT_join_42 rfl rfl rfl ?_
          refine x_callV (q := 46) (p := 34) (A := [.int (nI (tn l)), .int (nI (tn h)), .int (nI (tn g))]) (S := []) (c1 := 0) (s1 := 0) hC (c_La_admit (l := tn l) (h := tn h) (g := tn g) (by omega) hu (by omega) (by omega) (by omega) ) s_MT_join_108 rfl (by omega) rfl rfl rfl (Nat.le_of_ble_eq_true rfl) rfl rfl (by decide) (by decide) d_MT_join_43 rfl (fun r τ hP => ?_)
          obtain ⟨rfl, rfl⟩ := hP
          show mx_G Γ κ _ _ 46 [(0, .ref 1), (1, .int (nI (tn l))), (2, .int (nI (tn h))), (3, .int (nI (tn g)))] [] (nx, u, La_admit (tn l) (tn h) (tn g) mi) 0 0
          refine x_aload_n (q := 47) hC d_MT_join_46 rfl rfl rfl ?_
          refine x_getr (q := 50) (p := 1) (j := 5) (r := 79) hC f_MT_55 rfl rfl rfl (by omega) (hu1 _) d_MT_join_47 rfl ?_
          refine x_callV (q := 53) (p := 79) (A := []) (S := []) (c1 := 0) (s1 := 0) hC (c_Tr_settle (r := r) (by omega) hu hr (Tr_admit_ok hl hok)) s_MT_join_85 rfl (by omega) rfl rfl rfl (Nat.le_of_ble_eq_true rfl) rfl rfl (by decide) (by decide) d_MT_join_50 rfl (fun r τ hP => ?_)
          obtain ⟨rfl, rfl⟩ := hP
          show mx_G Γ κ _ _ 53 [(0, .ref 1), (1, .int (nI (tn l))), (2, .int (nI (tn h))), (3, .int (nI (tn g)))] [] (nx, u, Tr_settle r (La_admit (tn l) (tn h) (tn g) mi)) 0 0
          refine x_iconst (q := 54) (v := nI 1) hC d_MT_join_53 (by decide) rfl ?_
          exact x_iret hC rfl rfl ⟨bz_t (And.intro h4 (And.intro h11 (And.intro h18 h31))), pr (it_t (And.intro h4 (And.intro h11 (And.intro h18 h31))) rfl)⟩ (by decide) (by decide) d_MT_join_54
        · have h31 := bz_1 h31
          refine x_iconst (q := 35) (v := nI 0) hC d_MT_join_34 (by decide) rfl ?_
          exact x_iret hC rfl rfl ⟨bz_f (fun q => q.2.2.2 h31), pr (it_f (fun q => q.2.2.2 h31) rfl)⟩ (by decide) (by decide) d_MT_join_35
set_option maxRecDepth 100000 in
set_option maxHeartbeats 400000 in
theorem c_MT_leave {Γ : mx_X} {lau : Launch} {nx : Nat} {u : Nat → Nat → Bool} {mi : mx_Mm} {r : Nat} {l h g x : Int32} (hnx : 185 ≤ nx) (hu : ∀ p k, 2 ≤ p → u p k = true) (hu1 : ∀ k, u 1 k = true) (hr : r < 6) (hok : Tr_ok r mi) : mx_C Γ lau M_MT_leave [.ref 1, .int l, .int h, .int g, .int x] (nx, u, mi) (fun ρ τ => ρ = some (.int (bz (C_lvP l h g mi))) ∧ τ = (nx, u, C_leave r l h g x mi)) := by
  refine mx_C.intro (by decide) rfl (Nat.le_of_ble_eq_true rfl) (fun κ _ hC => ?_)
  show mx_G Γ κ _ _ 0 [(0, .ref 1), (1, .int l), (2, .int h), (3, .int g), (4, .int x)] [] (nx, u, mi) 0 0
  refine x_iload_n (q := 1) hC d_MT_leave_0 rfl rfl rfl ?_
  refine x_callS (q := 4) (A := [.int l]) (S := []) (c1 := 0) (s1 := 0) hC (c_MT_isRouter) s_MT_leave_9 rfl rfl rfl (Nat.le_of_ble_eq_true rfl) rfl rfl (by decide) (by decide) d_MT_leave_1 rfl (fun r τ hP => ?_)
  obtain ⟨rfl, rfl⟩ := hP
  show mx_G Γ κ _ _ 4 [(0, .ref 1), (1, .int l), (2, .int h), (3, .int g), (4, .int x)] [.int (bz (0 ≤ l ∧ l < nI 6))] (nx, u, mi) 0 0
  refine x_if_eq (tgt := 34) (q := 7) hC d_MT_leave_4 (by decide) rfl (fun h4 => ?_) (fun h4 => ?_)
  · have h4 := bz_0 h4
    refine x_iconst (q := 35) (v := nI 0) hC d_MT_leave_34 (by decide) rfl ?_
    exact x_iret hC rfl rfl ⟨bz_f (fun q => h4 q.1), pr (it_f (fun q => h4 q.1) rfl)⟩ (by decide) (by decide) d_MT_leave_35
  · have h4 := bz_1 h4
    obtain ⟨el, hl⟩ := in_tn h4 (by decide)
    refine mx_eqG (L1 := [(0, .ref 1), (1, .int (nI (tn l))), (2, .int h), (3, .int g), (4, .int x)]) (by rw [← el]) rfl rfl ?_
    refine x_iload_n (q := 8) hC d_MT_leave_7 rfl rfl rfl ?_
    refine x_callS (q := 11) (A := [.int h]) (S := []) (c1 := 0) (s1 := 0) hC (c_MT_isHost) s_MT_leave_98 rfl rfl rfl (Nat.le_of_ble_eq_true rfl) rfl rfl (by decide) (by decide) d_MT_leave_8 rfl (fun r τ hP => ?_)
    obtain ⟨rfl, rfl⟩ := hP
    show mx_G Γ κ _ _ 11 [(0, .ref 1), (1, .int (nI (tn l))), (2, .int h), (3, .int g), (4, .int x)] [.int (bz (0 ≤ h ∧ h < nI 4))] (nx, u, mi) 0 0
    refine x_if_eq (tgt := 34) (q := 14) hC d_MT_leave_11 (by decide) rfl (fun h11 => ?_) (fun h11 => ?_)
    · have h11 := bz_0 h11
      refine x_iconst (q := 35) (v := nI 0) hC d_MT_leave_34 (by decide) rfl ?_
      exact x_iret hC rfl rfl ⟨bz_f (fun q => h11 q.2.1), pr (it_f (fun q => h11 q.2.1) rfl)⟩ (by decide) (by decide) d_MT_leave_35
    · have h11 := bz_1 h11
      obtain ⟨eh, hh⟩ := in_tn h11 (by decide)
      refine mx_eqG (L1 := [(0, .ref 1), (1, .int (nI (tn l))), (2, .int (nI (tn h))), (3, .int g), (4, .int x)]) (by rw [← eh]) rfl rfl ?_
      refine x_iload_n (q := 15) hC d_MT_leave_14 rfl rfl rfl ?_
      refine x_callS (q := 18) (A := [.int g]) (S := []) (c1 := 0) (s1 := 0) hC (c_MT_isGroup) s_MT_leave_101 rfl rfl rfl (Nat.le_of_ble_eq_true rfl) rfl rfl (by decide) (by decide) d_MT_leave_15 rfl (fun r τ hP => ?_)
      obtain ⟨rfl, rfl⟩ := hP
      show mx_G Γ κ _ _ 18 [(0, .ref 1), (1, .int (nI (tn l))), (2, .int (nI (tn h))), (3, .int g), (4, .int x)] [.int (bz (0 ≤ g ∧ g < nI 3))] (nx, u, mi) 0 0
      refine x_if_eq (tgt := 34) (q := 21) hC d_MT_leave_18 (by decide) rfl (fun h18 => ?_) (fun h18 => ?_)
      · have h18 := bz_0 h18
        refine x_iconst (q := 35) (v := nI 0) hC d_MT_leave_34 (by decide) rfl ?_
        exact x_iret hC rfl rfl ⟨bz_f (fun q => h18 q.2.2.1), pr (it_f (fun q => h18 q.2.2.1) rfl)⟩ (by decide) (by decide) d_MT_leave_35
      · have h18 := bz_1 h18
        obtain ⟨eg, hg⟩ := in_tn h18 (by decide)
        refine mx_eqG (L1 := [(0, .ref 1), (1, .int (nI (tn l))), (2, .int (nI (tn h))), (3, .int (nI (tn g))), (4, .int x)]) (by rw [← eg]) rfl rfl ?_
        refine x_aload_n (q := 22) hC d_MT_leave_21 rfl rfl rfl ?_
        refine x_getr (q := 25) (p := 1) (j := 3) (r := 34) hC f_MT_39 rfl rfl rfl (by omega) (hu1 _) d_MT_leave_22 rfl ?_
        refine x_iload_n (q := 26) hC d_MT_leave_25 rfl rfl rfl ?_
        refine x_iload_n (q := 27) hC d_MT_leave_26 rfl rfl rfl ?_
        refine x_iload_n (q := 28) hC d_MT_leave_27 rfl rfl rfl ?_
        refine x_callV (q := 31) (p := 34) (A := [.int (nI (tn l)), .int (nI (tn h)), .int (nI (tn g))]) (S := []) (c1 := 0) (s1 := 0) hC (c_La_isMember (l := tn l) (h := tn h) (g := tn g) (by omega) hu (by omega) (by omega) (by omega) ) s_MT_leave_104 rfl (by omega) rfl rfl rfl (Nat.le_of_ble_eq_true rfl) rfl rfl (by decide) (by decide) d_MT_leave_28 rfl (fun r τ hP => ?_)
        obtain ⟨rfl, rfl⟩ := hP
        show mx_G Γ κ _ _ 31 [(0, .ref 1), (1, .int (nI (tn l))), (2, .int (nI (tn h))), (3, .int (nI (tn g))), (4, .int x)] [.int (bz (hold (mi (36 + (tn l)) (tn g)) (tn h)))] (nx, u, mi) 0 0
        refine x_if_ne (tgt := 36) (q := 34) hC d_MT_leave_31 (by decide) rfl (fun h31 => ?_) (fun h31 => ?_)
        · have h31 := bz_1 h31
          refine x_aload_n (q := 37) hC d_MT_leave_36 rfl rfl rfl ?_
          refine x_getr (q := 40) (p := 1) (j := 3) (r := 34) hC f_MT_39 rfl rfl rfl (by omega) (hu1 _) d_MT_leave_37 rfl ?_
          refine x_iload_n (q := 41) hC d_MT_leave_40 rfl rfl rfl ?_
          refine x_iload_n (q := 42) hC d_MT_leave_41 rfl rfl rfl ?_
          refine x_iload_n (q := 43) hC d_MT_leave_42 rfl rfl rfl ?_
          refine x_iload (q := 45) hC d_MT_leave_43 rfl rfl ?_
          refine x_callV (q := 48) (p := 34) (A := [.int (nI (tn l)), .int (nI (tn h)), .int (nI (tn g)), .int x]) (S := []) (c1 := 0) (s1 := 0) hC (c_La_dismiss (l := tn l) (h := tn h) (g := tn g) (x := x) (by omega) hu (by omega) (by omega) (by omega) ) s_MT_leave_111 rfl (by omega) rfl rfl rfl (Nat.le_of_ble_eq_true rfl) rfl rfl (by decide) (by decide) d_MT_leave_45 rfl (fun r τ hP => ?_)
          obtain ⟨rfl, rfl⟩ := hP
          show mx_G Γ κ _ _ 48 [(0, .ref 1), (1, .int (nI (tn l))), (2, .int (nI (tn h))), (3, .int (nI (tn g))), (4, .int x)] [] (nx, u, La_dismiss (tn l) (tn h) (tn g) x mi) 0 0
          refine x_aload_n (q := 49) hC d_MT_leave_48 rfl rfl rfl ?_
          refine x_getr (q := 52) (p := 1) (j := 5) (r := 79) hC f_MT_55 rfl rfl rfl (by omega) (hu1 _) d_MT_leave_49 rfl ?_
          refine x_callV (q := 55) (p := 79) (A := []) (S := []) (c1 := 0) (s1 := 0) hC (c_Tr_settle (r := r) (by omega) hu hr (Tr_dismiss_ok hl hok)) s_MT_leave_85 rfl (by omega) rfl rfl rfl (Nat.le_of_ble_eq_true rfl) rfl rfl (by decide) (by decide) d_MT_leave_52 rfl (fun r τ hP => ?_)
          obtain ⟨rfl, rfl⟩ := hP
          show mx_G Γ κ _ _ 55 [(0, .ref 1), (1, .int (nI (tn l))), (2, .int (nI (tn h))), (3, .int (nI (tn g))), (4, .int x)] [] (nx, u, Tr_settle r (La_dismiss (tn l) (tn h) (tn g) x mi)) 0 0
          refine x_iconst (q := 56) (v := nI 1) hC d_MT_leave_55 (by decide) rfl ?_
          exact x_iret hC rfl rfl ⟨bz_t (And.intro h4 (And.intro h11 (And.intro h18 h31))), pr (it_t (And.intro h4 (And.intro h11 (And.intro h18 h31))) rfl)⟩ (by decide) (by decide) d_MT_leave_56
        · have h31 := bz_0 h31
          refine x_iconst (q := 35) (v := nI 0) hC d_MT_leave_34 (by decide) rfl ?_
          exact x_iret hC rfl rfl ⟨bz_f (fun q => h31 q.2.2.2), pr (it_f (fun q => h31 q.2.2.2) rfl)⟩ (by decide) (by decide) d_MT_leave_35
set_option maxRecDepth 100000 in
set_option maxHeartbeats 400000 in
theorem c_MT_marked {Γ : mx_X} {lau : Launch} {nx : Nat} {u : Nat → Nat → Bool} {mi : mx_Mm} {l g : Int32} (hnx : 185 ≤ nx) (hu : ∀ p k, 2 ≤ p → u p k = true) (hu1 : ∀ k, u 1 k = true)  : mx_C Γ lau M_MT_marked [.ref 1, .int l, .int g] (nx, u, mi) (fun ρ τ => ρ = some (.int (C_mark l g mi)) ∧ τ = (nx, u, mi)) := by
  refine mx_C.intro (by decide) rfl (Nat.le_of_ble_eq_true rfl) (fun κ _ hC => ?_)
  show mx_G Γ κ _ _ 0 [(0, .ref 1), (1, .int l), (2, .int g)] [] (nx, u, mi) 0 0
  refine x_iload_n (q := 1) hC d_MT_marked_0 rfl rfl rfl ?_
  refine x_callS (q := 4) (A := [.int l]) (S := []) (c1 := 0) (s1 := 0) hC (c_MT_isRouter) s_MT_marked_9 rfl rfl rfl (Nat.le_of_ble_eq_true rfl) rfl rfl (by decide) (by decide) d_MT_marked_1 rfl (fun r τ hP => ?_)
  obtain ⟨rfl, rfl⟩ := hP
  show mx_G Γ κ _ _ 4 [(0, .ref 1), (1, .int l), (2, .int g)] [.int (bz (0 ≤ l ∧ l < nI 6))] (nx, u, mi) 0 0
  refine x_if_eq (tgt := 14) (q := 7) hC d_MT_marked_4 (by decide) rfl (fun h4 => ?_) (fun h4 => ?_)
  · have h4 := bz_0 h4
    refine x_iconst (q := 15) (v := (-1)) hC d_MT_marked_14 (by decide) rfl ?_
    exact x_iret hC rfl rfl ⟨sv (it_f (fun q => h4 q.1) rfl), rfl⟩ (by decide) (by decide) d_MT_marked_15
  · have h4 := bz_1 h4
    obtain ⟨el, hl⟩ := in_tn h4 (by decide)
    refine mx_eqG (L1 := [(0, .ref 1), (1, .int (nI (tn l))), (2, .int g)]) (by rw [← el]) rfl rfl ?_
    refine x_iload_n (q := 8) hC d_MT_marked_7 rfl rfl rfl ?_
    refine x_callS (q := 11) (A := [.int g]) (S := []) (c1 := 0) (s1 := 0) hC (c_MT_isGroup) s_MT_marked_101 rfl rfl rfl (Nat.le_of_ble_eq_true rfl) rfl rfl (by decide) (by decide) d_MT_marked_8 rfl (fun r τ hP => ?_)
    obtain ⟨rfl, rfl⟩ := hP
    show mx_G Γ κ _ _ 11 [(0, .ref 1), (1, .int (nI (tn l))), (2, .int g)] [.int (bz (0 ≤ g ∧ g < nI 3))] (nx, u, mi) 0 0
    refine x_if_ne (tgt := 16) (q := 14) hC d_MT_marked_11 (by decide) rfl (fun h11 => ?_) (fun h11 => ?_)
    · have h11 := bz_1 h11
      obtain ⟨eg, hg⟩ := in_tn h11 (by decide)
      refine mx_eqG (L1 := [(0, .ref 1), (1, .int (nI (tn l))), (2, .int (nI (tn g)))]) (by rw [← eg]) rfl rfl ?_
      refine x_aload_n (q := 17) hC d_MT_marked_16 rfl rfl rfl ?_
      refine x_getr (q := 20) (p := 1) (j := 3) (r := 34) hC f_MT_39 rfl rfl rfl (by omega) (hu1 _) d_MT_marked_17 rfl ?_
      refine x_iload_n (q := 21) hC d_MT_marked_20 rfl rfl rfl ?_
      refine x_iload_n (q := 22) hC d_MT_marked_21 rfl rfl rfl ?_
      refine x_callV (q := 25) (p := 34) (A := [.int (nI (tn l)), .int (nI (tn g))]) (S := []) (c1 := 0) (s1 := 0) hC (c_La_ticksLeft (l := tn l) (g := tn g) (by omega) hu (by omega) (by omega) ) s_MT_marked_115 rfl (by omega) rfl rfl rfl (Nat.le_of_ble_eq_true rfl) rfl rfl (by decide) (by decide) d_MT_marked_22 rfl (fun r τ hP => ?_)
      obtain ⟨rfl, rfl⟩ := hP
      show mx_G Γ κ _ _ 25 [(0, .ref 1), (1, .int (nI (tn l))), (2, .int (nI (tn g)))] [.int (if mi 2 0 < mi (43 + (tn l)) (tn g) then mi (43 + (tn l)) (tn g) - mi 2 0 else nI 0)] (nx, u, mi) 0 0
      exact x_iret hC rfl rfl ⟨sv (it_t (And.intro h4 h11) rfl), rfl⟩ (by decide) (by decide) d_MT_marked_25
    · have h11 := bz_0 h11
      refine x_iconst (q := 15) (v := (-1)) hC d_MT_marked_14 (by decide) rfl ?_
      exact x_iret hC rfl rfl ⟨sv (it_f (fun q => h11 q.2) rfl), rfl⟩ (by decide) (by decide) d_MT_marked_15
set_option maxRecDepth 100000 in
set_option maxHeartbeats 400000 in
theorem c_MT_shared {Γ : mx_X} {lau : Launch} {nx : Nat} {u : Nat → Nat → Bool} {mi : mx_Mm} {n g : Int32} (hnx : 185 ≤ nx) (hu : ∀ p k, 2 ≤ p → u p k = true) (hu1 : ∀ k, u 1 k = true)  : mx_C Γ lau M_MT_shared [.ref 1, .int n, .int g] (nx, u, mi) (fun ρ τ => ρ = some (.int (C_shar n g mi)) ∧ τ = (nx, u, mi)) := by
  refine mx_C.intro (by decide) rfl (Nat.le_of_ble_eq_true rfl) (fun κ _ hC => ?_)
  show mx_G Γ κ _ _ 0 [(0, .ref 1), (1, .int n), (2, .int g)] [] (nx, u, mi) 0 0
  refine x_iload_n (q := 1) hC d_MT_shared_0 rfl rfl rfl ?_
  refine x_callS (q := 4) (A := [.int n]) (S := []) (c1 := 0) (s1 := 0) hC (c_MT_isRouter) s_MT_shared_9 rfl rfl rfl (Nat.le_of_ble_eq_true rfl) rfl rfl (by decide) (by decide) d_MT_shared_1 rfl (fun r τ hP => ?_)
  obtain ⟨rfl, rfl⟩ := hP
  show mx_G Γ κ _ _ 4 [(0, .ref 1), (1, .int n), (2, .int g)] [.int (bz (0 ≤ n ∧ n < nI 6))] (nx, u, mi) 0 0
  refine x_if_eq (tgt := 14) (q := 7) hC d_MT_shared_4 (by decide) rfl (fun h4 => ?_) (fun h4 => ?_)
  · have h4 := bz_0 h4
    refine x_iconst (q := 15) (v := (-1)) hC d_MT_shared_14 (by decide) rfl ?_
    exact x_iret hC rfl rfl ⟨sv (it_f (fun q => h4 q.1) rfl), rfl⟩ (by decide) (by decide) d_MT_shared_15
  · have h4 := bz_1 h4
    obtain ⟨en, hn⟩ := in_tn h4 (by decide)
    refine mx_eqG (L1 := [(0, .ref 1), (1, .int (nI (tn n))), (2, .int g)]) (by rw [← en]) rfl rfl ?_
    refine x_iload_n (q := 8) hC d_MT_shared_7 rfl rfl rfl ?_
    refine x_callS (q := 11) (A := [.int g]) (S := []) (c1 := 0) (s1 := 0) hC (c_MT_isGroup) s_MT_shared_101 rfl rfl rfl (Nat.le_of_ble_eq_true rfl) rfl rfl (by decide) (by decide) d_MT_shared_8 rfl (fun r τ hP => ?_)
    obtain ⟨rfl, rfl⟩ := hP
    show mx_G Γ κ _ _ 11 [(0, .ref 1), (1, .int (nI (tn n))), (2, .int g)] [.int (bz (0 ≤ g ∧ g < nI 3))] (nx, u, mi) 0 0
    refine x_if_ne (tgt := 16) (q := 14) hC d_MT_shared_11 (by decide) rfl (fun h11 => ?_) (fun h11 => ?_)
    · have h11 := bz_1 h11
      obtain ⟨eg, hg⟩ := in_tn h11 (by decide)
      refine mx_eqG (L1 := [(0, .ref 1), (1, .int (nI (tn n))), (2, .int (nI (tn g)))]) (by rw [← eg]) rfl rfl ?_
      refine x_aload_n (q := 17) hC d_MT_shared_16 rfl rfl rfl ?_
      refine x_getr (q := 20) (p := 1) (j := 5) (r := 79) hC f_MT_55 rfl rfl rfl (by omega) (hu1 _) d_MT_shared_17 rfl ?_
      refine x_iload_n (q := 21) hC d_MT_shared_20 rfl rfl rfl ?_
      refine x_iload_n (q := 22) hC d_MT_shared_21 rfl rfl rfl ?_
      refine x_callV (q := 25) (p := 79) (A := [.int (nI (tn g)), .int (nI (tn n))]) (S := []) (c1 := 0) (s1 := 0) hC (c_Tr_sharedJoinOf (a := tn g) (n := tn n) (by omega) hu (by omega) (by omega) ) s_MT_shared_160 rfl (by omega) rfl rfl rfl (Nat.le_of_ble_eq_true rfl) rfl rfl (by decide) (by decide) d_MT_shared_22 rfl (fun r τ hP => ?_)
      obtain ⟨rfl, rfl⟩ := hP
      show mx_G Γ κ _ _ 25 [(0, .ref 1), (1, .int (nI (tn n))), (2, .int (nI (tn g)))] [.int (mi (81 + (tn g)) (tn n))] (nx, u, mi) 0 0
      exact x_iret hC rfl rfl ⟨sv (it_t (And.intro h4 h11) rfl), rfl⟩ (by decide) (by decide) d_MT_shared_25
    · have h11 := bz_0 h11
      refine x_iconst (q := 15) (v := (-1)) hC d_MT_shared_14 (by decide) rfl ?_
      exact x_iret hC rfl rfl ⟨sv (it_f (fun q => h11 q.2) rfl), rfl⟩ (by decide) (by decide) d_MT_shared_15
set_option maxRecDepth 100000 in
set_option maxHeartbeats 400000 in
theorem c_MT_crossings {Γ : mx_X} {lau : Launch} {nx : Nat} {u : Nat → Nat → Bool} {mi : mx_Mm}  (hnx : 185 ≤ nx) (hu : ∀ p k, 2 ≤ p → u p k = true) (hu1 : ∀ k, u 1 k = true)  : mx_C Γ lau M_MT_crossings [.ref 1] (nx, u, mi) (fun ρ τ => ρ = some (.int (mi 165 8)) ∧ τ = (nx, u, mi)) := by
  refine mx_C.intro (by decide) rfl (Nat.le_of_ble_eq_true rfl) (fun κ _ hC => ?_)
  show mx_G Γ κ _ _ 0 [(0, .ref 1)] [] (nx, u, mi) 0 0
  refine x_aload_n (q := 1) hC d_MT_crossings_0 rfl rfl rfl ?_
  refine x_getr (q := 4) (p := 1) (j := 6) (r := 165) hC f_MT_64 rfl rfl rfl (by omega) (hu1 _) d_MT_crossings_1 rfl ?_
  refine x_callV (q := 7) (p := 165) (A := []) (S := []) (c1 := 0) (s1 := 0) hC (c_Pa_crossingCount  (by omega) hu  ) s_MT_crossings_151 rfl (by omega) rfl rfl rfl (Nat.le_of_ble_eq_true rfl) rfl rfl (by decide) (by decide) d_MT_crossings_4 rfl (fun r τ hP => ?_)
  obtain ⟨rfl, rfl⟩ := hP
  show mx_G Γ κ _ _ 7 [(0, .ref 1)] [.int (mi 165 8)] (nx, u, mi) 0 0
  exact x_iret hC rfl rfl ⟨rfl, rfl⟩ (by decide) (by decide) d_MT_crossings_7
set_option maxRecDepth 100000 in
set_option maxHeartbeats 400000 in
theorem c_MT_drops {Γ : mx_X} {lau : Launch} {nx : Nat} {u : Nat → Nat → Bool} {mi : mx_Mm}  (hnx : 185 ≤ nx) (hu : ∀ p k, 2 ≤ p → u p k = true) (hu1 : ∀ k, u 1 k = true)  : mx_C Γ lau M_MT_drops [.ref 1] (nx, u, mi) (fun ρ τ => ρ = some (.int (mi 165 9)) ∧ τ = (nx, u, mi)) := by
  refine mx_C.intro (by decide) rfl (Nat.le_of_ble_eq_true rfl) (fun κ _ hC => ?_)
  show mx_G Γ κ _ _ 0 [(0, .ref 1)] [] (nx, u, mi) 0 0
  refine x_aload_n (q := 1) hC d_MT_drops_0 rfl rfl rfl ?_
  refine x_getr (q := 4) (p := 1) (j := 6) (r := 165) hC f_MT_64 rfl rfl rfl (by omega) (hu1 _) d_MT_drops_1 rfl ?_
  refine x_callV (q := 7) (p := 165) (A := []) (S := []) (c1 := 0) (s1 := 0) hC (c_Pa_dropCount  (by omega) hu  ) s_MT_drops_154 rfl (by omega) rfl rfl rfl (Nat.le_of_ble_eq_true rfl) rfl rfl (by decide) (by decide) d_MT_drops_4 rfl (fun r τ hP => ?_)
  obtain ⟨rfl, rfl⟩ := hP
  show mx_G Γ κ _ _ 7 [(0, .ref 1)] [.int (mi 165 9)] (nx, u, mi) 0 0
  exact x_iret hC rfl rfl ⟨rfl, rfl⟩ (by decide) (by decide) d_MT_drops_7
set_option maxRecDepth 100000 in
set_option maxHeartbeats 400000 in
theorem c_MT_reached {Γ : mx_X} {lau : Launch} {nx : Nat} {u : Nat → Nat → Bool} {mi : mx_Mm}  (hnx : 185 ≤ nx) (hu : ∀ p k, 2 ≤ p → u p k = true) (hu1 : ∀ k, u 1 k = true)  : mx_C Γ lau M_MT_reached [.ref 1] (nx, u, mi) (fun ρ τ => ρ = some (.int (mi 165 10)) ∧ τ = (nx, u, mi)) := by
  refine mx_C.intro (by decide) rfl (Nat.le_of_ble_eq_true rfl) (fun κ _ hC => ?_)
  show mx_G Γ κ _ _ 0 [(0, .ref 1)] [] (nx, u, mi) 0 0
  refine x_aload_n (q := 1) hC d_MT_reached_0 rfl rfl rfl ?_
  refine x_getr (q := 4) (p := 1) (j := 6) (r := 165) hC f_MT_64 rfl rfl rfl (by omega) (hu1 _) d_MT_reached_1 rfl ?_
  refine x_callV (q := 7) (p := 165) (A := []) (S := []) (c1 := 0) (s1 := 0) hC (c_Pa_reachedLans  (by omega) hu  ) s_MT_reached_157 rfl (by omega) rfl rfl rfl (Nat.le_of_ble_eq_true rfl) rfl rfl (by decide) (by decide) d_MT_reached_4 rfl (fun r τ hP => ?_)
  obtain ⟨rfl, rfl⟩ := hP
  show mx_G Γ κ _ _ 7 [(0, .ref 1)] [.int (mi 165 10)] (nx, u, mi) 0 0
  exact x_iret hC rfl rfl ⟨rfl, rfl⟩ (by decide) (by decide) d_MT_reached_7
set_option maxRecDepth 100000 in
set_option maxHeartbeats 400000 in
theorem c_MT_heard {Γ : mx_X} {lau : Launch} {nx : Nat} {u : Nat → Nat → Bool} {mi : mx_Mm}  (hnx : 185 ≤ nx) (hu : ∀ p k, 2 ≤ p → u p k = true) (hu1 : ∀ k, u 1 k = true)  : mx_C Γ lau M_MT_heard [.ref 1] (nx, u, mi) (fun ρ τ => ρ = some (.int (mi 165 11)) ∧ τ = (nx, u, mi)) := by
  refine mx_C.intro (by decide) rfl (Nat.le_of_ble_eq_true rfl) (fun κ _ hC => ?_)
  show mx_G Γ κ _ _ 0 [(0, .ref 1)] [] (nx, u, mi) 0 0
  refine x_aload_n (q := 1) hC d_MT_heard_0 rfl rfl rfl ?_
  refine x_getr (q := 4) (p := 1) (j := 6) (r := 165) hC f_MT_64 rfl rfl rfl (by omega) (hu1 _) d_MT_heard_1 rfl ?_
  refine x_callV (q := 7) (p := 165) (A := []) (S := []) (c1 := 0) (s1 := 0) hC (c_Pa_heardBy  (by omega) hu  ) s_MT_heard_141 rfl (by omega) rfl rfl rfl (Nat.le_of_ble_eq_true rfl) rfl rfl (by decide) (by decide) d_MT_heard_4 rfl (fun r τ hP => ?_)
  obtain ⟨rfl, rfl⟩ := hP
  show mx_G Γ κ _ _ 7 [(0, .ref 1)] [.int (mi 165 11)] (nx, u, mi) 0 0
  exact x_iret hC rfl rfl ⟨rfl, rfl⟩ (by decide) (by decide) d_MT_heard_7
set_option maxRecDepth 100000 in
set_option maxHeartbeats 400000 in
theorem c_MT_messages {Γ : mx_X} {lau : Launch} {nx : Nat} {u : Nat → Nat → Bool} {mi : mx_Mm} {k : Int32} (hnx : 185 ≤ nx) (hu : ∀ p k, 2 ≤ p → u p k = true) (hu1 : ∀ k, u 1 k = true)  : mx_C Γ lau M_MT_messages [.ref 1, .int k] (nx, u, mi) (fun ρ τ => ρ = some (.int (C_msg k mi)) ∧ τ = (nx, u, mi)) := by
  refine mx_C.intro (by decide) rfl (Nat.le_of_ble_eq_true rfl) (fun κ _ hC => ?_)
  show mx_G Γ κ _ _ 0 [(0, .ref 1), (1, .int k)] [] (nx, u, mi) 0 0
  refine x_iload_n (q := 1) hC d_MT_messages_0 rfl rfl rfl ?_
  refine x_if_lt (tgt := 10) (q := 4) hC d_MT_messages_1 (by decide) rfl (fun h1 => ?_) (fun h1 => ?_)
  · skip
    refine x_iconst (q := 11) (v := (-1)) hC d_MT_messages_10 (by decide) rfl ?_
    exact x_iret hC rfl rfl ⟨sv (it_f (fun q => Int32.not_lt.mpr q.1 h1) rfl), rfl⟩ (by decide) (by decide) d_MT_messages_11
  · skip
    refine x_iload_n (q := 5) hC d_MT_messages_4 rfl rfl rfl ?_
    refine x_bipush (q := 7) (v := nI 10) hC d_MT_messages_5 (by decide) rfl ?_
    refine x_icmp_lt (tgt := 12) (q := 10) hC d_MT_messages_7 (by decide) rfl (fun h7 => ?_) (fun h7 => ?_)
    · skip
      obtain ⟨ek, hk⟩ := in_tn (x := k) (n := 10) (And.intro (Int32.not_lt.mp h1) h7) (by decide)
      refine mx_eqG (L1 := [(0, .ref 1), (1, .int (nI (tn k)))]) (by rw [← ek]) rfl rfl ?_
      refine x_aload_n (q := 13) hC d_MT_messages_12 rfl rfl rfl ?_
      refine x_getr (q := 16) (p := 1) (j := 1) (r := 3) hC f_MT_23 rfl rfl rfl (by omega) (hu1 _) d_MT_messages_13 rfl ?_
      refine x_iload_n (q := 17) hC d_MT_messages_16 rfl rfl rfl ?_
      refine x_callV (q := 20) (p := 3) (A := [.int (nI (tn k))]) (S := []) (c1 := 0) (s1 := 0) hC (c_Ta_countOf (k := tn k) (by omega) hu (by omega)) s_MT_messages_178 rfl (by omega) rfl rfl rfl (Nat.le_of_ble_eq_true rfl) rfl rfl (by decide) (by decide) d_MT_messages_17 rfl (fun r τ hP => ?_)
      obtain ⟨rfl, rfl⟩ := hP
      show mx_G Γ κ _ _ 20 [(0, .ref 1), (1, .int (nI (tn k)))] [.int (mi 4 (tn k))] (nx, u, mi) 0 0
      exact x_iret hC rfl rfl ⟨sv (it_t (And.intro (Int32.not_lt.mp h1) h7) rfl), rfl⟩ (by decide) (by decide) d_MT_messages_20
    · skip
      refine x_iconst (q := 11) (v := (-1)) hC d_MT_messages_10 (by decide) rfl ?_
      exact x_iret hC rfl rfl ⟨sv (it_f (fun q => h7 q.2) rfl), rfl⟩ (by decide) (by decide) d_MT_messages_11
set_option maxRecDepth 100000 in
set_option maxHeartbeats 400000 in
theorem c_MT_lose {Γ : mx_X} {lau : Launch} {nx : Nat} {u : Nat → Nat → Bool} {mi : mx_Mm} {l c : Int32} (hnx : 185 ≤ nx) (hu : ∀ p k, 2 ≤ p → u p k = true) (hu1 : ∀ k, u 1 k = true)  : mx_C Γ lau M_MT_lose [.ref 1, .int l, .int c] (nx, u, mi) (fun ρ τ => ρ = some (.int (bz (C_lsP l c))) ∧ τ = (nx, u, C_lose l c mi)) := by
  refine mx_C.intro (by decide) rfl (Nat.le_of_ble_eq_true rfl) (fun κ _ hC => ?_)
  show mx_G Γ κ _ _ 0 [(0, .ref 1), (1, .int l), (2, .int c)] [] (nx, u, mi) 0 0
  refine x_iload_n (q := 1) hC d_MT_lose_0 rfl rfl rfl ?_
  refine x_callS (q := 4) (A := [.int l]) (S := []) (c1 := 0) (s1 := 0) hC (c_MT_isRouter) s_MT_lose_9 rfl rfl rfl (Nat.le_of_ble_eq_true rfl) rfl rfl (by decide) (by decide) d_MT_lose_1 rfl (fun r τ hP => ?_)
  obtain ⟨rfl, rfl⟩ := hP
  show mx_G Γ κ _ _ 4 [(0, .ref 1), (1, .int l), (2, .int c)] [.int (bz (0 ≤ l ∧ l < nI 6))] (nx, u, mi) 0 0
  refine x_if_eq (tgt := 17) (q := 7) hC d_MT_lose_4 (by decide) rfl (fun h4 => ?_) (fun h4 => ?_)
  · have h4 := bz_0 h4
    refine x_iconst (q := 18) (v := nI 0) hC d_MT_lose_17 (by decide) rfl ?_
    exact x_iret hC rfl rfl ⟨bz_f (fun q => h4 q.1), pr (it_f (fun q => h4 q.1) rfl)⟩ (by decide) (by decide) d_MT_lose_18
  · have h4 := bz_1 h4
    obtain ⟨el, hl⟩ := in_tn h4 (by decide)
    refine mx_eqG (L1 := [(0, .ref 1), (1, .int (nI (tn l))), (2, .int c)]) (by rw [← el]) rfl rfl ?_
    refine x_iload_n (q := 8) hC d_MT_lose_7 rfl rfl rfl ?_
    refine x_if_lt (tgt := 17) (q := 11) hC d_MT_lose_8 (by decide) rfl (fun h8 => ?_) (fun h8 => ?_)
    · skip
      refine x_iconst (q := 18) (v := nI 0) hC d_MT_lose_17 (by decide) rfl ?_
      exact x_iret hC rfl rfl ⟨bz_f (fun q => Int32.not_lt.mpr q.2.1 h8), pr (it_f (fun q => Int32.not_lt.mpr q.2.1 h8) rfl)⟩ (by decide) (by decide) d_MT_lose_18
    · skip
      refine x_iload_n (q := 12) hC d_MT_lose_11 rfl rfl rfl ?_
      refine x_bipush (q := 14) (v := nI 9) hC d_MT_lose_12 (by decide) rfl ?_
      refine x_icmp_le (tgt := 19) (q := 17) hC d_MT_lose_14 (by decide) rfl (fun h14 => ?_) (fun h14 => ?_)
      · skip
        refine x_aload_n (q := 20) hC d_MT_lose_19 rfl rfl rfl ?_
        refine x_getr (q := 23) (p := 1) (j := 3) (r := 34) hC f_MT_39 rfl rfl rfl (by omega) (hu1 _) d_MT_lose_20 rfl ?_
        refine x_iload_n (q := 24) hC d_MT_lose_23 rfl rfl rfl ?_
        refine x_iload_n (q := 25) hC d_MT_lose_24 rfl rfl rfl ?_
        refine x_callV (q := 28) (p := 34) (A := [.int (nI (tn l)), .int c]) (S := []) (c1 := 0) (s1 := 0) hC (c_La_setLosses (l := tn l) (c := c) (by omega) hu (by omega) ) s_MT_lose_181 rfl (by omega) rfl rfl rfl (Nat.le_of_ble_eq_true rfl) rfl rfl (by decide) (by decide) d_MT_lose_25 rfl (fun r τ hP => ?_)
        obtain ⟨rfl, rfl⟩ := hP
        show mx_G Γ κ _ _ 28 [(0, .ref 1), (1, .int (nI (tn l))), (2, .int c)] [] (nx, u, mx_up mi 56 (tn l) c) 0 0
        refine x_iconst (q := 29) (v := nI 1) hC d_MT_lose_28 (by decide) rfl ?_
        exact x_iret hC rfl rfl ⟨bz_t (And.intro h4 (And.intro (Int32.not_lt.mp h8) h14)), pr (it_t (And.intro h4 (And.intro (Int32.not_lt.mp h8) h14)) rfl)⟩ (by decide) (by decide) d_MT_lose_29
      · skip
        refine x_iconst (q := 18) (v := nI 0) hC d_MT_lose_17 (by decide) rfl ?_
        exact x_iret hC rfl rfl ⟨bz_f (fun q => h14 q.2.2), pr (it_f (fun q => h14 q.2.2) rfl)⟩ (by decide) (by decide) d_MT_lose_18
