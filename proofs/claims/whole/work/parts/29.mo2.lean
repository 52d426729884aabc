set_option maxRecDepth 100000 in
set_option maxHeartbeats 400000 in
theorem c_Mo_report {Γ : mx_X} {lau : Launch} {nx : Nat} {u : Nat → Nat → Bool} {mi : mx_Mm} {l g : Nat} {x : Int32} (hnx : 214 ≤ nx) (hu : ∀ p k, 2 ≤ p → u p k = true) (hl : l < 6) (hg : g < 3) : mx_C Γ lau M_Mo_report [.ref 185, .int (nI l), .int x, .int (nI g)] (nx, u, mi) (fun ρ τ => ρ = none ∧ τ = (nx, u, Mo_report l x g mi)) := by
  refine mx_C.intro (by decide) rfl (Nat.le_of_ble_eq_true rfl) (fun κ _ hC => ?_)
  show mx_G Γ κ _ _ 0 [(0, .ref 185), (1, .int (nI l)), (2, .int x), (3, .int (nI g))] [] (nx, u, mi) 0 0
  refine x_aload_n (q := 1) hC d_Mo_report_0 rfl rfl rfl ?_
  refine x_getr (q := 4) (p := 185) (j := 6) (r := 190) hC f_Mo_23 rfl rfl rfl (by omega) (hu _ _ (by decide)) d_Mo_report_1 rfl ?_
  refine x_iconst (q := 5) (v := nI 3) hC d_Mo_report_4 (by decide) rfl ?_
  refine x_iload_n (q := 6) hC d_Mo_report_5 rfl rfl rfl ?_
  refine x_imul (q := 7) (z := nI (3 * l)) hC d_Mo_report_6 (pk_mul _ _) rfl ?_
  refine x_iload_n (q := 8) hC d_Mo_report_7 rfl rfl rfl ?_
  refine x_iadd (q := 9) (z := nI ((3 * l) + g)) hC d_Mo_report_8 (nI_add _ _) rfl ?_
  refine x_aload_n (q := 10) hC d_Mo_report_9 rfl rfl rfl ?_
  refine x_geti (q := 13) (p := 185) (j := 1) hC f_Mo_112 rfl rfl (by omega) d_Mo_report_10 rfl ?_
  refine x_bipush (q := 15) (v := nI 12) hC d_Mo_report_13 (by decide) rfl ?_
  refine x_iadd (q := 16) (z := (mi 185 1) + (nI 12)) hC d_Mo_report_15 rfl rfl ?_
  refine x_iast (q := 17) (p := 190) hC ((3 * l) + g) rfl (by omega) (by omega) rfl (by omega) (by decide) d_Mo_report_16 rfl ?_
  refine x_aload_n (q := 18) hC d_Mo_report_17 rfl rfl rfl ?_
  refine x_getr (q := 21) (p := 185) (j := 7) (r := 191) hC f_Mo_26 rfl rfl rfl (by omega) (hu _ _ (by decide)) d_Mo_report_18 rfl ?_
  refine x_iconst (q := 22) (v := nI 3) hC d_Mo_report_21 (by decide) rfl ?_
  refine x_iload_n (q := 23) hC d_Mo_report_22 rfl rfl rfl ?_
  refine x_imul (q := 24) (z := nI (3 * l)) hC d_Mo_report_23 (pk_mul _ _) rfl ?_
  refine x_iload_n (q := 25) hC d_Mo_report_24 rfl rfl rfl ?_
  refine x_iadd (q := 26) (z := nI ((3 * l) + g)) hC d_Mo_report_25 (nI_add _ _) rfl ?_
  refine x_iload_n (q := 27) hC d_Mo_report_26 rfl rfl rfl ?_
  refine x_iast (q := 28) (p := 191) hC ((3 * l) + g) rfl (by omega) (by omega) rfl (by omega) (by decide) d_Mo_report_27 rfl ?_
  refine mx_nr (fun m1 e2 => ?_)
  subst e2
  exact x_vret hC rfl ⟨rfl, rfl⟩ (by decide) (by decide) d_Mo_report_28
set_option maxRecDepth 100000 in
set_option maxHeartbeats 400000 in
theorem c_Mo_lowest {Γ : mx_X} {lau : Launch} {nx : Nat} {u : Nat → Nat → Bool} {mi : mx_Mm} {l g : Nat} (hnx : 214 ≤ nx) (hu : ∀ p k, 2 ≤ p → u p k = true) (hl : l < 6) (hg : g < 3) : mx_C Γ lau M_Mo_lowest [.ref 185, .int (nI l), .int (nI g)] (nx, u, mi) (fun ρ τ => ρ = some (.int (Mo_low l g mi)) ∧ τ = (nx, u, mi)) := by
  refine mx_C.intro (by decide) rfl (Nat.le_of_ble_eq_true rfl) (fun κ _ hC => ?_)
  show mx_G Γ κ _ _ 0 [(0, .ref 185), (1, .int (nI l)), (2, .int (nI g))] [] (nx, u, mi) 0 0
  refine x_iconst (q := 1) (v := nI 0) hC d_Mo_lowest_0 (by decide) rfl ?_
  refine x_istore_n (q := 2) (L1 := [(3, .int (nI 0)), (0, .ref 185), (1, .int (nI l)), (2, .int (nI g))]) hC d_Mo_lowest_1 rfl (by decide) rfl rfl ?_
  refine x_sub (L1 := [(3, .int (nI 0)), (0, .ref 185), (1, .int (nI l)), (2, .int (nI g))]) [0, 1, 2, 3] rfl ?_
  refine mx_loopR (N := 4) (Hd := fun h => mx_G Γ κ _ _ 2 [(3, .int (nI h)), (0, .ref 185), (1, .int (nI l)), (2, .int (nI g))] [] (nx, u, mi) 0 0) (Mo_lh l g mi) ?_ ?_
  · intro h hl1 hn2 hN3
    refine x_iload_n (q := 3) hC d_Mo_lowest_2 rfl rfl rfl ?_
    refine x_iconst (q := 4) (v := nI 4) hC d_Mo_lowest_3 (by decide) rfl ?_
    refine x_icmp_ge (tgt := 33) (q := 7) hC d_Mo_lowest_4 (by decide) rfl (fun h => absurd h (nI_ge hl1 (by decide))) (fun _ => ?_)
    refine x_aload_n (q := 8) hC d_Mo_lowest_7 rfl rfl rfl ?_
    refine x_getr (q := 11) (p := 185) (j := 5) (r := 189) hC f_Mo_19 rfl rfl rfl (by omega) (hu _ _ (by decide)) d_Mo_lowest_8 rfl ?_
    refine x_bipush (q := 13) (v := nI 12) hC d_Mo_lowest_11 (by decide) rfl ?_
    refine x_iload_n (q := 14) hC d_Mo_lowest_13 rfl rfl rfl ?_
    refine x_imul (q := 15) (z := nI (12 * l)) hC d_Mo_lowest_14 (pk_mul _ _) rfl ?_
    refine x_iconst (q := 16) (v := nI 3) hC d_Mo_lowest_15 (by decide) rfl ?_
    refine x_iload_n (q := 17) hC d_Mo_lowest_16 rfl rfl rfl ?_
    refine x_imul (q := 18) (z := nI (3 * h)) hC d_Mo_lowest_17 (pk_mul _ _) rfl ?_
    refine x_iadd (q := 19) (z := nI ((12 * l) + (3 * h))) hC d_Mo_lowest_18 (nI_add _ _) rfl ?_
    refine x_iload_n (q := 20) hC d_Mo_lowest_19 rfl rfl rfl ?_
    refine x_iadd (q := 21) (z := nI (((12 * l) + (3 * h)) + g)) hC d_Mo_lowest_20 (nI_add _ _) rfl ?_
    refine x_zald (q := 22) (p := 189) hC (((12 * l) + (3 * h)) + g) rfl (by omega) rfl (by omega) (by decide) d_Mo_lowest_21 rfl ?_
    refine x_if_eq (tgt := 27) (q := 25) hC d_Mo_lowest_22 (by decide) rfl (fun h22 => ?_) (fun h22 => ?_)
    · skip
      refine x_iinc (q := 30) (y := nI (h + 1)) (L1 := [(3, .int (nI (h + 1))), (0, .ref 185), (1, .int (nI l)), (2, .int (nI g))]) hC d_Mo_lowest_27 rfl (mx_inc h) (by decide) rfl rfl ?_
      refine x_goto (tgt := 2) hC d_Mo_lowest_30 (by decide) ?_
      exact x_sub [0, 1, 2, 3] rfl (hN3 (decide_eq_false (not_not_intro h22)))
    · skip
      refine x_iload_n (q := 26) hC d_Mo_lowest_25 rfl rfl rfl ?_
      exact x_iret hC rfl rfl ⟨sv (it_t (by rw [pm_fd_eq hl1 (decide_eq_true h22) hn2]; exact hl1) (by rw [pm_fd_eq hl1 (decide_eq_true h22) hn2])), rfl⟩ (by decide) (by decide) d_Mo_lowest_26
  · intro hx
    refine x_iload_n (q := 3) hC d_Mo_lowest_2 rfl rfl rfl ?_
    refine x_iconst (q := 4) (v := nI 4) hC d_Mo_lowest_3 (by decide) rfl ?_
    refine x_icmp_ge (tgt := 33) (q := 7) hC d_Mo_lowest_4 (by decide) rfl (fun _ => ?_) (fun h => absurd (nI_le (Nat.le_refl _) (by decide)) h)
    refine x_iconst (q := 34) (v := (-1)) hC d_Mo_lowest_33 (by decide) rfl ?_
    exact x_iret hC rfl rfl ⟨sv (it_f (by rw [pm_fd_none hx]; exact Nat.lt_irrefl _) rfl), rfl⟩ (by decide) (by decide) d_Mo_lowest_34
set_option maxRecDepth 100000 in
set_option maxHeartbeats 400000 in
theorem c_Mo_link {Γ : mx_X} {lau : Launch} {nx : Nat} {u : Nat → Nat → Bool} {mi : mx_Mm} {r : Nat} {x y c : Int32} (hnx : 214 ≤ nx) (hu : ∀ p k, 2 ≤ p → u p k = true) (hr : r < 6) (hok : Mo_ok r mi) : mx_C Γ lau M_Mo_link [.ref 185, .int x, .int y, .int c] (nx, u, mi) (fun ρ τ => ρ = some (.int (bz (D_lkP x y c mi))) ∧ τ = (nx, u, D_link r x y c mi)) := by
  refine mx_C.intro (by decide) rfl (Nat.le_of_ble_eq_true rfl) (fun κ _ hC => ?_)
  show mx_G Γ κ _ _ 0 [(0, .ref 185), (1, .int x), (2, .int y), (3, .int c)] [] (nx, u, mi) 0 0
  refine x_iload_n (q := 1) hC d_Mo_link_0 rfl rfl rfl ?_
  refine x_callS (q := 4) (A := [.int x]) (S := []) (c1 := 0) (s1 := 0) hC (c_Mo_router (x := x)) s_Mo_link_99 rfl rfl rfl (Nat.le_of_ble_eq_true rfl) rfl rfl (by decide) (by decide) d_Mo_link_1 rfl (fun r τ hP => ?_)
  obtain ⟨rfl, rfl⟩ := hP
  show mx_G Γ κ _ _ 4 [(0, .ref 185), (1, .int x), (2, .int y), (3, .int c)] [.int (bz (rt x))] (nx, u, mi) 0 0
  refine x_if_eq (tgt := 44) (q := 7) hC d_Mo_link_4 (by decide) rfl (fun h4 => ?_) (fun h4 => ?_)
  · have h4 := bz_0 h4
    refine x_iconst (q := 45) (v := nI 0) hC d_Mo_link_44 (by decide) rfl ?_
    exact x_iret hC rfl rfl ⟨bz_f (fun q => h4 q.1), pr (it_f (fun q => h4 q.1) rfl)⟩ (by decide) (by decide) d_Mo_link_45
  · have h4 := bz_1 h4
    obtain ⟨ex, hx⟩ := in_tn h4 (by decide)
    refine mx_eqG (L1 := [(0, .ref 185), (1, .int (nI (tn x))), (2, .int y), (3, .int c)]) (by rw [← ex]) rfl rfl ?_
    refine x_iload_n (q := 8) hC d_Mo_link_7 rfl rfl rfl ?_
    refine x_callS (q := 11) (A := [.int y]) (S := []) (c1 := 0) (s1 := 0) hC (c_Mo_router (x := y)) s_Mo_link_99 rfl rfl rfl (Nat.le_of_ble_eq_true rfl) rfl rfl (by decide) (by decide) d_Mo_link_8 rfl (fun r τ hP => ?_)
    obtain ⟨rfl, rfl⟩ := hP
    show mx_G Γ κ _ _ 11 [(0, .ref 185), (1, .int (nI (tn x))), (2, .int y), (3, .int c)] [.int (bz (rt y))] (nx, u, mi) 0 0
    refine x_if_eq (tgt := 44) (q := 14) hC d_Mo_link_11 (by decide) rfl (fun h11 => ?_) (fun h11 => ?_)
    · have h11 := bz_0 h11
      refine x_iconst (q := 45) (v := nI 0) hC d_Mo_link_44 (by decide) rfl ?_
      exact x_iret hC rfl rfl ⟨bz_f (fun q => h11 q.2.1), pr (it_f (fun q => h11 q.2.1) rfl)⟩ (by decide) (by decide) d_Mo_link_45
    · have h11 := bz_1 h11
      obtain ⟨ey, hy⟩ := in_tn h11 (by decide)
      refine mx_eqG (L1 := [(0, .ref 185), (1, .int (nI (tn x))), (2, .int (nI (tn y))), (3, .int c)]) (by rw [← ey]) rfl rfl ?_
      refine x_iload_n (q := 15) hC d_Mo_link_14 rfl rfl rfl ?_
      refine x_iload_n (q := 16) hC d_Mo_link_15 rfl rfl rfl ?_
      refine x_icmp_eq (tgt := 44) (q := 19) hC d_Mo_link_16 (by decide) rfl (fun h16 => ?_) (fun h16 => ?_)
      · skip
        refine x_iconst (q := 45) (v := nI 0) hC d_Mo_link_44 (by decide) rfl ?_
        exact x_iret hC rfl rfl ⟨bz_f (fun q => q.2.2.1 (by rw [ex, ey]; exact h16)), pr (it_f (fun q => q.2.2.1 (by rw [ex, ey]; exact h16)) rfl)⟩ (by decide) (by decide) d_Mo_link_45
      · skip
        refine x_iload_n (q := 20) hC d_Mo_link_19 rfl rfl rfl ?_
        refine x_if_lt (tgt := 44) (q := 23) hC d_Mo_link_20 (by decide) rfl (fun h20 => ?_) (fun h20 => ?_)
        · skip
          refine x_iconst (q := 45) (v := nI 0) hC d_Mo_link_44 (by decide) rfl ?_
          exact x_iret hC rfl rfl ⟨bz_f (fun q => Int32.not_le.mpr h20 q.2.2.2.1), pr (it_f (fun q => Int32.not_le.mpr h20 q.2.2.2.1) rfl)⟩ (by decide) (by decide) d_Mo_link_45
        · skip
          refine x_iload_n (q := 24) hC d_Mo_link_23 rfl rfl rfl ?_
          refine x_bipush (q := 26) (v := nI 9) hC d_Mo_link_24 (by decide) rfl ?_
          refine x_icmp_gt (tgt := 44) (q := 29) hC d_Mo_link_26 (by decide) rfl (fun h26 => ?_) (fun h26 => ?_)
          · skip
            refine x_iconst (q := 45) (v := nI 0) hC d_Mo_link_44 (by decide) rfl ?_
            exact x_iret hC rfl rfl ⟨bz_f (fun q => Int32.not_lt.mpr q.2.2.2.2.1 h26), pr (it_f (fun q => Int32.not_lt.mpr q.2.2.2.2.1 h26) rfl)⟩ (by decide) (by decide) d_Mo_link_45
          · skip
            refine x_aload_n (q := 30) hC d_Mo_link_29 rfl rfl rfl ?_
            refine x_getr (q := 33) (p := 185) (j := 2) (r := 186) hC f_Mo_7 rfl rfl rfl (by omega) (hu _ _ (by decide)) d_Mo_link_30 rfl ?_
            refine x_bipush (q := 35) (v := nI 6) hC d_Mo_link_33 (by decide) rfl ?_
            refine x_iload_n (q := 36) hC d_Mo_link_35 rfl rfl rfl ?_
            refine x_imul (q := 37) (z := nI (6 * (tn x))) hC d_Mo_link_36 (pk_mul _ _) rfl ?_
            refine x_iload_n (q := 38) hC d_Mo_link_37 rfl rfl rfl ?_
            refine x_iadd (q := 39) (z := nI ((6 * (tn x)) + (tn y))) hC d_Mo_link_38 (nI_add _ _) rfl ?_
            refine x_iald (q := 40) (p := 186) hC ((6 * (tn x)) + (tn y)) rfl (by omega) rfl (by omega) (by decide) d_Mo_link_39 rfl ?_
            refine x_iload_n (q := 41) hC d_Mo_link_40 rfl rfl rfl ?_
            refine x_icmp_ne (tgt := 46) (q := 44) hC d_Mo_link_41 (by decide) rfl (fun h41 => ?_) (fun h41 => ?_)
            · skip
              refine x_aload_n (q := 47) hC d_Mo_link_46 rfl rfl rfl ?_
              refine x_getr (q := 50) (p := 185) (j := 2) (r := 186) hC f_Mo_7 rfl rfl rfl (by omega) (hu _ _ (by decide)) d_Mo_link_47 rfl ?_
              refine x_bipush (q := 52) (v := nI 6) hC d_Mo_link_50 (by decide) rfl ?_
              refine x_iload_n (q := 53) hC d_Mo_link_52 rfl rfl rfl ?_
              refine x_imul (q := 54) (z := nI (6 * (tn x))) hC d_Mo_link_53 (pk_mul _ _) rfl ?_
              refine x_iload_n (q := 55) hC d_Mo_link_54 rfl rfl rfl ?_
              refine x_iadd (q := 56) (z := nI ((6 * (tn x)) + (tn y))) hC d_Mo_link_55 (nI_add _ _) rfl ?_
              refine x_iload_n (q := 57) hC d_Mo_link_56 rfl rfl rfl ?_
              refine x_iast (q := 58) (p := 186) hC ((6 * (tn x)) + (tn y)) rfl (by omega) (by omega) rfl (by omega) (by decide) d_Mo_link_57 rfl ?_
              refine x_aload_n (q := 59) hC d_Mo_link_58 rfl rfl rfl ?_
              refine x_getr (q := 62) (p := 185) (j := 2) (r := 186) hC f_Mo_7 rfl rfl rfl (by omega) (hu _ _ (by decide)) d_Mo_link_59 rfl ?_
              refine x_bipush (q := 64) (v := nI 6) hC d_Mo_link_62 (by decide) rfl ?_
              refine x_iload_n (q := 65) hC d_Mo_link_64 rfl rfl rfl ?_
              refine x_imul (q := 66) (z := nI (6 * (tn y))) hC d_Mo_link_65 (pk_mul _ _) rfl ?_
              refine x_iload_n (q := 67) hC d_Mo_link_66 rfl rfl rfl ?_
              refine x_iadd (q := 68) (z := nI ((6 * (tn y)) + (tn x))) hC d_Mo_link_67 (nI_add _ _) rfl ?_
              refine x_iload_n (q := 69) hC d_Mo_link_68 rfl rfl rfl ?_
              refine x_iast (q := 70) (p := 186) hC ((6 * (tn y)) + (tn x)) rfl (by omega) (by omega) rfl (by omega) (by decide) d_Mo_link_69 rfl ?_
              refine x_aload_n (q := 71) hC d_Mo_link_70 rfl rfl rfl ?_
              refine x_callV (q := 74) (p := 185) (A := []) (S := []) (c1 := 0) (s1 := 0) hC (c_Mo_ways  (by omega) hu  ) s_Mo_link_106 rfl (by omega) rfl rfl rfl (Nat.le_of_ble_eq_true rfl) rfl rfl (by decide) (by decide) d_Mo_link_71 rfl (fun r τ hP => ?_)
              obtain ⟨rfl, rfl⟩ := hP
              show mx_G Γ κ _ _ 74 [(0, .ref 185), (1, .int (nI (tn x))), (2, .int (nI (tn y))), (3, .int c)] [] (nx, u, Mo_ways (mx_up (mx_up mi 186 ((6 * (tn x)) + (tn y)) c) 186 ((6 * (tn y)) + (tn x)) c)) 0 0
              refine x_aload_n (q := 75) hC d_Mo_link_74 rfl rfl rfl ?_
              refine x_callV (q := 78) (p := 185) (A := []) (S := []) (c1 := 0) (s1 := 0) hC (c_Mo_settle (r := r) (by omega) hu hr (Mo_ways_ok (D_lk_ok (x := tn x) (y := tn y) (c := c) hok))) s_Mo_link_109 rfl (by omega) rfl rfl rfl (Nat.le_of_ble_eq_true rfl) rfl rfl (by decide) (by decide) d_Mo_link_75 rfl (fun r τ hP => ?_)
              obtain ⟨rfl, rfl⟩ := hP
              show mx_G Γ κ _ _ 78 [(0, .ref 185), (1, .int (nI (tn x))), (2, .int (nI (tn y))), (3, .int c)] [] (nx, u, Mo_settle r (Mo_ways (mx_up (mx_up mi 186 ((6 * (tn x)) + (tn y)) c) 186 ((6 * (tn y)) + (tn x)) c))) 0 0
              refine x_iconst (q := 79) (v := nI 1) hC d_Mo_link_78 (by decide) rfl ?_
              exact x_iret hC rfl rfl ⟨bz_t (And.intro h4 (And.intro h11 (And.intro (fun q => h16 (by rw [← ex, ← ey]; exact q)) (And.intro (Int32.not_lt.mp h20) (And.intro (Int32.not_lt.mp h26) h41))))), pr (it_t (And.intro h4 (And.intro h11 (And.intro (fun q => h16 (by rw [← ex, ← ey]; exact q)) (And.intro (Int32.not_lt.mp h20) (And.intro (Int32.not_lt.mp h26) h41))))) rfl)⟩ (by decide) (by decide) d_Mo_link_79
            · skip
              refine x_iconst (q := 45) (v := nI 0) hC d_Mo_link_44 (by decide) rfl ?_
              exact x_iret hC rfl rfl ⟨bz_f (fun q => q.2.2.2.2.2 h41), pr (it_f (fun q => q.2.2.2.2.2 h41) rfl)⟩ (by decide) (by decide) d_Mo_link_45
set_option maxRecDepth 100000 in
set_option maxHeartbeats 400000 in
theorem c_Mo_distance {Γ : mx_X} {lau : Launch} {nx : Nat} {u : Nat → Nat → Bool} {mi : mx_Mm} {x y : Int32} (hnx : 214 ≤ nx) (hu : ∀ p k, 2 ≤ p → u p k = true)  : mx_C Γ lau M_Mo_distance [.ref 185, .int x, .int y] (nx, u, mi) (fun ρ τ => ρ = some (.int (D_dist x y mi)) ∧ τ = (nx, u, mi)) := by
  refine mx_C.intro (by decide) rfl (Nat.le_of_ble_eq_true rfl) (fun κ _ hC => ?_)
  show mx_G Γ κ _ _ 0 [(0, .ref 185), (1, .int x), (2, .int y)] [] (nx, u, mi) 0 0
  refine x_iload_n (q := 1) hC d_Mo_distance_0 rfl rfl rfl ?_
  refine x_callS (q := 4) (A := [.int x]) (S := []) (c1 := 0) (s1 := 0) hC (c_Mo_router (x := x)) s_Mo_distance_99 rfl rfl rfl (Nat.le_of_ble_eq_true rfl) rfl rfl (by decide) (by decide) d_Mo_distance_1 rfl (fun r τ hP => ?_)
  obtain ⟨rfl, rfl⟩ := hP
  show mx_G Γ κ _ _ 4 [(0, .ref 185), (1, .int x), (2, .int y)] [.int (bz (rt x))] (nx, u, mi) 0 0
  refine x_if_eq (tgt := 31) (q := 7) hC d_Mo_distance_4 (by decide) rfl (fun h4 => ?_) (fun h4 => ?_)
  · have h4 := bz_0 h4
    refine x_iconst (q := 32) (v := (-1)) hC d_Mo_distance_31 (by decide) rfl ?_
    refine x_goto (tgt := 46) hC d_Mo_distance_32 (by decide) ?_
    exact x_iret hC rfl rfl ⟨sv (it_f (fun q => h4 q.1) rfl), rfl⟩ (by decide) (by decide) d_Mo_distance_46
  · have h4 := bz_1 h4
    obtain ⟨ex, hx⟩ := in_tn h4 (by decide)
    refine mx_eqG (L1 := [(0, .ref 185), (1, .int (nI (tn x))), (2, .int y)]) (by rw [← ex]) rfl rfl ?_
    refine x_iload_n (q := 8) hC d_Mo_distance_7 rfl rfl rfl ?_
    refine x_callS (q := 11) (A := [.int y]) (S := []) (c1 := 0) (s1 := 0) hC (c_Mo_router (x := y)) s_Mo_distance_99 rfl rfl rfl (Nat.le_of_ble_eq_true rfl) rfl rfl (by decide) (by decide) d_Mo_distance_8 rfl (fun r τ hP => ?_)
    obtain ⟨rfl, rfl⟩ := hP
    show mx_G Γ κ _ _ 11 [(0, .ref 185), (1, .int (nI (tn x))), (2, .int y)] [.int (bz (rt y))] (nx, u, mi) 0 0
    refine x_if_eq (tgt := 31) (q := 14) hC d_Mo_distance_11 (by decide) rfl (fun h11 => ?_) (fun h11 => ?_)
    · have h11 := bz_0 h11
      refine x_iconst (q := 32) (v := (-1)) hC d_Mo_distance_31 (by decide) rfl ?_
      refine x_goto (tgt := 46) hC d_Mo_distance_32 (by decide) ?_
      exact x_iret hC rfl rfl ⟨sv (it_f (fun q => h11 q.2.1) rfl), rfl⟩ (by decide) (by decide) d_Mo_distance_46
    · have h11 := bz_1 h11
      obtain ⟨ey, hy⟩ := in_tn h11 (by decide)
      refine mx_eqG (L1 := [(0, .ref 185), (1, .int (nI (tn x))), (2, .int (nI (tn y)))]) (by rw [← ey]) rfl rfl ?_
      refine x_aload_n (q := 15) hC d_Mo_distance_14 rfl rfl rfl ?_
      refine x_getr (q := 18) (p := 185) (j := 3) (r := 187) hC f_Mo_13 rfl rfl rfl (by omega) (hu _ _ (by decide)) d_Mo_distance_15 rfl ?_
      refine x_bipush (q := 20) (v := nI 6) hC d_Mo_distance_18 (by decide) rfl ?_
      refine x_iload_n (q := 21) hC d_Mo_distance_20 rfl rfl rfl ?_
      refine x_imul (q := 22) (z := nI (6 * (tn x))) hC d_Mo_distance_21 (pk_mul _ _) rfl ?_
      refine x_iload_n (q := 23) hC d_Mo_distance_22 rfl rfl rfl ?_
      refine x_iadd (q := 24) (z := nI ((6 * (tn x)) + (tn y))) hC d_Mo_distance_23 (nI_add _ _) rfl ?_
      refine x_iald (q := 25) (p := 187) hC ((6 * (tn x)) + (tn y)) rfl (by omega) rfl (by omega) (by decide) d_Mo_distance_24 rfl ?_
      refine x_sipush (q := 28) (v := nI 1000) hC d_Mo_distance_25 (by decide) rfl ?_
      refine x_icmp_lt (tgt := 35) (q := 31) hC d_Mo_distance_28 (by decide) rfl (fun h28 => ?_) (fun h28 => ?_)
      · skip
        refine x_aload_n (q := 36) hC d_Mo_distance_35 rfl rfl rfl ?_
        refine x_getr (q := 39) (p := 185) (j := 3) (r := 187) hC f_Mo_13 rfl rfl rfl (by omega) (hu _ _ (by decide)) d_Mo_distance_36 rfl ?_
        refine x_bipush (q := 41) (v := nI 6) hC d_Mo_distance_39 (by decide) rfl ?_
        refine x_iload_n (q := 42) hC d_Mo_distance_41 rfl rfl rfl ?_
        refine x_imul (q := 43) (z := nI (6 * (tn x))) hC d_Mo_distance_42 (pk_mul _ _) rfl ?_
        refine x_iload_n (q := 44) hC d_Mo_distance_43 rfl rfl rfl ?_
        refine x_iadd (q := 45) (z := nI ((6 * (tn x)) + (tn y))) hC d_Mo_distance_44 (nI_add _ _) rfl ?_
        refine x_iald (q := 46) (p := 187) hC ((6 * (tn x)) + (tn y)) rfl (by omega) rfl (by omega) (by decide) d_Mo_distance_45 rfl ?_
        exact x_iret hC rfl rfl ⟨sv (it_t (And.intro h4 (And.intro h11 h28)) rfl), rfl⟩ (by decide) (by decide) d_Mo_distance_46
      · skip
        refine x_iconst (q := 32) (v := (-1)) hC d_Mo_distance_31 (by decide) rfl ?_
        refine x_goto (tgt := 46) hC d_Mo_distance_32 (by decide) ?_
        exact x_iret hC rfl rfl ⟨sv (it_f (fun q => h28 q.2.2) rfl), rfl⟩ (by decide) (by decide) d_Mo_distance_46
set_option maxRecDepth 100000 in
set_option maxHeartbeats 400000 in
theorem c_Mo_hop {Γ : mx_X} {lau : Launch} {nx : Nat} {u : Nat → Nat → Bool} {mi : mx_Mm} {x y : Int32} (hnx : 214 ≤ nx) (hu : ∀ p k, 2 ≤ p → u p k = true)  : mx_C Γ lau M_Mo_hop [.ref 185, .int x, .int y] (nx, u, mi) (fun ρ τ => ρ = some (.int (D_hop x y mi)) ∧ τ = (nx, u, mi)) := by
  refine mx_C.intro (by decide) rfl (Nat.le_of_ble_eq_true rfl) (fun κ _ hC => ?_)
  show mx_G Γ κ _ _ 0 [(0, .ref 185), (1, .int x), (2, .int y)] [] (nx, u, mi) 0 0
  refine x_iload_n (q := 1) hC d_Mo_hop_0 rfl rfl rfl ?_
  refine x_callS (q := 4) (A := [.int x]) (S := []) (c1 := 0) (s1 := 0) hC (c_Mo_router (x := x)) s_Mo_hop_99 rfl rfl rfl (Nat.le_of_ble_eq_true rfl) rfl rfl (by decide) (by decide) d_Mo_hop_1 rfl (fun r τ hP => ?_)
  obtain ⟨rfl, rfl⟩ := hP
  show mx_G Γ κ _ _ 4 [(0, .ref 185), (1, .int x), (2, .int y)] [.int (bz (rt x))] (nx, u, mi) 0 0
  refine x_if_eq (tgt := 28) (q := 7) hC d_Mo_hop_4 (by decide) rfl (fun h4 => ?_) (fun h4 => ?_)
  · have h4 := bz_0 h4
    refine x_iconst (q := 29) (v := (-1)) hC d_Mo_hop_28 (by decide) rfl ?_
    exact x_iret hC rfl rfl ⟨sv (it_f (fun q => h4 q.1) rfl), rfl⟩ (by decide) (by decide) d_Mo_hop_29
  · have h4 := bz_1 h4
    obtain ⟨ex, hx⟩ := in_tn h4 (by decide)
    refine mx_eqG (L1 := [(0, .ref 185), (1, .int (nI (tn x))), (2, .int y)]) (by rw [← ex]) rfl rfl ?_
    refine x_iload_n (q := 8) hC d_Mo_hop_7 rfl rfl rfl ?_
    refine x_callS (q := 11) (A := [.int y]) (S := []) (c1 := 0) (s1 := 0) hC (c_Mo_router (x := y)) s_Mo_hop_99 rfl rfl rfl (Nat.le_of_ble_eq_true rfl) rfl rfl (by decide) (by decide) d_Mo_hop_8 rfl (fun r τ hP => ?_)
    obtain ⟨rfl, rfl⟩ := hP
    show mx_G Γ κ _ _ 11 [(0, .ref 185), (1, .int (nI (tn x))), (2, .int y)] [.int (bz (rt y))] (nx, u, mi) 0 0
    refine x_if_eq (tgt := 28) (q := 14) hC d_Mo_hop_11 (by decide) rfl (fun h11 => ?_) (fun h11 => ?_)
    · have h11 := bz_0 h11
      refine x_iconst (q := 29) (v := (-1)) hC d_Mo_hop_28 (by decide) rfl ?_
      exact x_iret hC rfl rfl ⟨sv (it_f (fun q => h11 q.2) rfl), rfl⟩ (by decide) (by decide) d_Mo_hop_29
    · have h11 := bz_1 h11
      obtain ⟨ey, hy⟩ := in_tn h11 (by decide)
      refine mx_eqG (L1 := [(0, .ref 185), (1, .int (nI (tn x))), (2, .int (nI (tn y)))]) (by rw [← ey]) rfl rfl ?_
      refine x_aload_n (q := 15) hC d_Mo_hop_14 rfl rfl rfl ?_
      refine x_getr (q := 18) (p := 185) (j := 4) (r := 188) hC f_Mo_16 rfl rfl rfl (by omega) (hu _ _ (by decide)) d_Mo_hop_15 rfl ?_
      refine x_bipush (q := 20) (v := nI 6) hC d_Mo_hop_18 (by decide) rfl ?_
      refine x_iload_n (q := 21) hC d_Mo_hop_20 rfl rfl rfl ?_
      refine x_imul (q := 22) (z := nI (6 * (tn x))) hC d_Mo_hop_21 (pk_mul _ _) rfl ?_
      refine x_iload_n (q := 23) hC d_Mo_hop_22 rfl rfl rfl ?_
      refine x_iadd (q := 24) (z := nI ((6 * (tn x)) + (tn y))) hC d_Mo_hop_23 (nI_add _ _) rfl ?_
      refine x_iald (q := 25) (p := 188) hC ((6 * (tn x)) + (tn y)) rfl (by omega) rfl (by omega) (by decide) d_Mo_hop_24 rfl ?_
      refine x_goto (tgt := 29) hC d_Mo_hop_25 (by decide) ?_
      exact x_iret hC rfl rfl ⟨sv (it_t (And.intro h4 h11) rfl), rfl⟩ (by decide) (by decide) d_Mo_hop_29
set_option maxRecDepth 100000 in
set_option maxHeartbeats 400000 in
theorem c_Mo_join {Γ : mx_X} {lau : Launch} {nx : Nat} {u : Nat → Nat → Bool} {mi : mx_Mm} {r : Nat} {l h g : Int32} (hnx : 214 ≤ nx) (hu : ∀ p k, 2 ≤ p → u p k = true) (hr : r < 6) (hok : Mo_ok r mi) : mx_C Γ lau M_Mo_join [.ref 185, .int l, .int h, .int g] (nx, u, mi) (fun ρ τ => ρ = some (.int (bz (D_jnP l h g mi))) ∧ τ = (nx, u, D_join r l h g mi)) := by
  refine mx_C.intro (by decide) rfl (Nat.le_of_ble_eq_true rfl) (fun κ _ hC => ?_)
  show mx_G Γ κ _ _ 0 [(0, .ref 185), (1, .int l), (2, .int h), (3, .int g)] [] (nx, u, mi) 0 0
  refine x_aload_n (q := 1) hC d_Mo_join_0 rfl rfl rfl ?_
  refine x_iload_n (q := 2) hC d_Mo_join_1 rfl rfl rfl ?_
  refine x_iload_n (q := 3) hC d_Mo_join_2 rfl rfl rfl ?_
  refine x_iload_n (q := 4) hC d_Mo_join_3 rfl rfl rfl ?_
  refine x_callV (q := 7) (p := 185) (A := [.int l, .int h, .int g]) (S := []) (c1 := 0) (s1 := 0) hC (c_Mo_isHost (l := l) (h := h) (g := g) (by omega) hu) s_Mo_join_118 rfl (by omega) rfl rfl rfl (Nat.le_of_ble_eq_true rfl) rfl rfl (by decide) (by decide) d_Mo_join_4 rfl (fun r τ hP => ?_)
  obtain ⟨rfl, rfl⟩ := hP
  show mx_G Γ κ _ _ 7 [(0, .ref 185), (1, .int l), (2, .int h), (3, .int g)] [.int (bz (rt l ∧ ht4 h ∧ gp g))] (nx, u, mi) 0 0
  refine x_if_eq (tgt := 28) (q := 10) hC d_Mo_join_7 (by decide) rfl (fun h7 => ?_) (fun h7 => ?_)
  · have h7 := bz_0 h7
    refine x_iconst (q := 29) (v := nI 0) hC d_Mo_join_28 (by decide) rfl ?_
    exact x_iret hC rfl rfl ⟨bz_f (fun q => h7 q.1), pr (it_f (fun q => h7 q.1) rfl)⟩ (by decide) (by decide) d_Mo_join_29
  · have h7 := bz_1 h7
    obtain ⟨el, hl⟩ := in_tn h7.1 (by decide)
    refine mx_eqG (L1 := [(0, .ref 185), (1, .int (nI (tn l))), (2, .int h), (3, .int g)]) (by rw [← el]) rfl rfl ?_
    obtain ⟨eh, hh⟩ := in_tn h7.2.1 (by decide)
    refine mx_eqG (L1 := [(0, .ref 185), (1, .int (nI (tn l))), (2, .int (nI (tn h))), (3, .int g)]) (by rw [← eh]) rfl rfl ?_
    obtain ⟨eg, hg⟩ := in_tn h7.2.2 (by decide)
    refine mx_eqG (L1 := [(0, .ref 185), (1, .int (nI (tn l))), (2, .int (nI (tn h))), (3, .int (nI (tn g)))]) (by rw [← eg]) rfl rfl ?_
    refine x_aload_n (q := 11) hC d_Mo_join_10 rfl rfl rfl ?_
    refine x_getr (q := 14) (p := 185) (j := 5) (r := 189) hC f_Mo_19 rfl rfl rfl (by omega) (hu _ _ (by decide)) d_Mo_join_11 rfl ?_
    refine x_bipush (q := 16) (v := nI 12) hC d_Mo_join_14 (by decide) rfl ?_
    refine x_iload_n (q := 17) hC d_Mo_join_16 rfl rfl rfl ?_
    refine x_imul (q := 18) (z := nI (12 * (tn l))) hC d_Mo_join_17 (pk_mul _ _) rfl ?_
    refine x_iconst (q := 19) (v := nI 3) hC d_Mo_join_18 (by decide) rfl ?_
    refine x_iload_n (q := 20) hC d_Mo_join_19 rfl rfl rfl ?_
    refine x_imul (q := 21) (z := nI (3 * (tn h))) hC d_Mo_join_20 (pk_mul _ _) rfl ?_
    refine x_iadd (q := 22) (z := nI ((12 * (tn l)) + (3 * (tn h)))) hC d_Mo_join_21 (nI_add _ _) rfl ?_
    refine x_iload_n (q := 23) hC d_Mo_join_22 rfl rfl rfl ?_
    refine x_iadd (q := 24) (z := nI (((12 * (tn l)) + (3 * (tn h))) + (tn g))) hC d_Mo_join_23 (nI_add _ _) rfl ?_
    refine x_zald (q := 25) (p := 189) hC (((12 * (tn l)) + (3 * (tn h))) + (tn g)) rfl (by omega) rfl (by omega) (by decide) d_Mo_join_24 rfl ?_
    refine x_if_eq (tgt := 30) (q := 28) hC d_Mo_join_25 (by decide) rfl (fun h25 => ?_) (fun h25 => ?_)
    · skip
      refine x_aload_n (q := 31) hC d_Mo_join_30 rfl rfl rfl ?_
      refine x_getr (q := 34) (p := 185) (j := 5) (r := 189) hC f_Mo_19 rfl rfl rfl (by omega) (hu _ _ (by decide)) d_Mo_join_31 rfl ?_
      refine x_bipush (q := 36) (v := nI 12) hC d_Mo_join_34 (by decide) rfl ?_
      refine x_iload_n (q := 37) hC d_Mo_join_36 rfl rfl rfl ?_
      refine x_imul (q := 38) (z := nI (12 * (tn l))) hC d_Mo_join_37 (pk_mul _ _) rfl ?_
      refine x_iconst (q := 39) (v := nI 3) hC d_Mo_join_38 (by decide) rfl ?_
      refine x_iload_n (q := 40) hC d_Mo_join_39 rfl rfl rfl ?_
      refine x_imul (q := 41) (z := nI (3 * (tn h))) hC d_Mo_join_40 (pk_mul _ _) rfl ?_
      refine x_iadd (q := 42) (z := nI ((12 * (tn l)) + (3 * (tn h)))) hC d_Mo_join_41 (nI_add _ _) rfl ?_
      refine x_iload_n (q := 43) hC d_Mo_join_42 rfl rfl rfl ?_
      refine x_iadd (q := 44) (z := nI (((12 * (tn l)) + (3 * (tn h))) + (tn g))) hC d_Mo_join_43 (nI_add _ _) rfl ?_
      refine x_iconst (q := 45) (v := nI 1) hC d_Mo_join_44 (by decide) rfl ?_
      refine x_zast (q := 46) (p := 189) hC (((12 * (tn l)) + (3 * (tn h))) + (tn g)) rfl (by omega) (by omega) rfl (by omega) (by decide) rfl d_Mo_join_45 rfl ?_
      refine x_aload_n (q := 47) hC d_Mo_join_46 rfl rfl rfl ?_
      refine x_iload_n (q := 48) hC d_Mo_join_47 rfl rfl rfl ?_
      refine x_iload_n (q := 49) hC d_Mo_join_48 rfl rfl rfl ?_
      refine x_iload_n (q := 50) hC d_Mo_join_49 rfl rfl rfl ?_
      refine x_callV (q := 53) (p := 185) (A := [.int (nI (tn l)), .int (nI (tn h)), .int (nI (tn g))]) (S := []) (c1 := 0) (s1 := 0) hC (c_Mo_report (l := tn l) (x := nI (tn h)) (g := tn g) (by omega) hu (by omega) (by omega)) s_Mo_join_122 rfl (by omega) rfl rfl rfl (Nat.le_of_ble_eq_true rfl) rfl rfl (by decide) (by decide) d_Mo_join_50 rfl (fun r τ hP => ?_)
      obtain ⟨rfl, rfl⟩ := hP
      show mx_G Γ κ _ _ 53 [(0, .ref 185), (1, .int (nI (tn l))), (2, .int (nI (tn h))), (3, .int (nI (tn g)))] [] (nx, u, Mo_report (tn l) (nI (tn h)) (tn g) (mx_up mi 189 (((12 * (tn l)) + (3 * (tn h))) + (tn g)) (nI 1))) 0 0
      refine x_aload_n (q := 54) hC d_Mo_join_53 rfl rfl rfl ?_
      refine x_callV (q := 57) (p := 185) (A := []) (S := []) (c1 := 0) (s1 := 0) hC (c_Mo_settle (r := r) (by omega) hu hr (D_jn_ok (l := tn l) (h := tn h) (g := tn g) hok)) s_Mo_join_109 rfl (by omega) rfl rfl rfl (Nat.le_of_ble_eq_true rfl) rfl rfl (by decide) (by decide) d_Mo_join_54 rfl (fun r τ hP => ?_)
      obtain ⟨rfl, rfl⟩ := hP
      show mx_G Γ κ _ _ 57 [(0, .ref 185), (1, .int (nI (tn l))), (2, .int (nI (tn h))), (3, .int (nI (tn g)))] [] (nx, u, Mo_settle r (Mo_report (tn l) (nI (tn h)) (tn g) (mx_up mi 189 (((12 * (tn l)) + (3 * (tn h))) + (tn g)) (nI 1)))) 0 0
      refine x_iconst (q := 58) (v := nI 1) hC d_Mo_join_57 (by decide) rfl ?_
      exact x_iret hC rfl rfl ⟨bz_t (And.intro h7 h25), pr (it_t (And.intro h7 h25) rfl)⟩ (by decide) (by decide) d_Mo_join_58
    · skip
      refine x_iconst (q := 29) (v := nI 0) hC d_Mo_join_28 (by decide) rfl ?_
      exact x_iret hC rfl rfl ⟨bz_f (fun q => h25 q.2), pr (it_f (fun q => h25 q.2) rfl)⟩ (by decide) (by decide) d_Mo_join_29
set_option maxRecDepth 100000 in
set_option maxHeartbeats 400000 in
theorem c_Mo_leave {Γ : mx_X} {lau : Launch} {nx : Nat} {u : Nat → Nat → Bool} {mi : mx_Mm} {r : Nat} {l h g x : Int32} (hnx : 214 ≤ nx) (hu : ∀ p k, 2 ≤ p → u p k = true) (hr : r < 6) (hok : Mo_ok r mi) : mx_C Γ lau M_Mo_leave [.ref 185, .int l, .int h, .int g, .int x] (nx, u, mi) (fun ρ τ => ρ = some (.int (bz (D_lvP l h g mi))) ∧ τ = (nx, u, D_leave r l h g x mi)) := by
  refine mx_C.intro (by decide) rfl (Nat.le_of_ble_eq_true rfl) (fun κ _ hC => ?_)
  show mx_G Γ κ _ _ 0 [(0, .ref 185), (1, .int l), (2, .int h), (3, .int g), (4, .int x)] [] (nx, u, mi) 0 0
  refine x_aload_n (q := 1) hC d_Mo_leave_0 rfl rfl rfl ?_
  refine x_iload_n (q := 2) hC d_Mo_leave_1 rfl rfl rfl ?_
  refine x_iload_n (q := 3) hC d_Mo_leave_2 rfl rfl rfl ?_
  refine x_iload_n (q := 4) hC d_Mo_leave_3 rfl rfl rfl ?_
  refine x_callV (q := 7) (p := 185) (A := [.int l, .int h, .int g]) (S := []) (c1 := 0) (s1 := 0) hC (c_Mo_isHost (l := l) (h := h) (g := g) (by omega) hu) s_Mo_leave_118 rfl (by omega) rfl rfl rfl (Nat.le_of_ble_eq_true rfl) rfl rfl (by decide) (by decide) d_Mo_leave_4 rfl (fun r τ hP => ?_)
  obtain ⟨rfl, rfl⟩ := hP
  show mx_G Γ κ _ _ 7 [(0, .ref 185), (1, .int l), (2, .int h), (3, .int g), (4, .int x)] [.int (bz (rt l ∧ ht4 h ∧ gp g))] (nx, u, mi) 0 0
  refine x_if_eq (tgt := 28) (q := 10) hC d_Mo_leave_7 (by decide) rfl (fun h7 => ?_) (fun h7 => ?_)
  · have h7 := bz_0 h7
    refine x_iconst (q := 29) (v := nI 0) hC d_Mo_leave_28 (by decide) rfl ?_
    exact x_iret hC rfl rfl ⟨bz_f (fun q => h7 q.1), pr (it_f (fun q => h7 q.1) rfl)⟩ (by decide) (by decide) d_Mo_leave_29
  · have h7 := bz_1 h7
    obtain ⟨el, hl⟩ := in_tn h7.1 (by decide)
    refine mx_eqG (L1 := [(0, .ref 185), (1, .int (nI (tn l))), (2, .int h), (3, .int g), (4, .int x)]) (by rw [← el]) rfl rfl ?_
    obtain ⟨eh, hh⟩ := in_tn h7.2.1 (by decide)
    refine mx_eqG (L1 := [(0, .ref 185), (1, .int (nI (tn l))), (2, .int (nI (tn h))), (3, .int g), (4, .int x)]) (by rw [← eh]) rfl rfl ?_
    obtain ⟨eg, hg⟩ := in_tn h7.2.2 (by decide)
    refine mx_eqG (L1 := [(0, .ref 185), (1, .int (nI (tn l))), (2, .int (nI (tn h))), (3, .int (nI (tn g))), (4, .int x)]) (by rw [← eg]) rfl rfl ?_
    refine x_aload_n (q := 11) hC d_Mo_leave_10 rfl rfl rfl ?_
    refine x_getr (q := 14) (p := 185) (j := 5) (r := 189) hC f_Mo_19 rfl rfl rfl (by omega) (hu _ _ (by decide)) d_Mo_leave_11 rfl ?_
    refine x_bipush (q := 16) (v := nI 12) hC d_Mo_leave_14 (by decide) rfl ?_
    refine x_iload_n (q := 17) hC d_Mo_leave_16 rfl rfl rfl ?_
    refine x_imul (q := 18) (z := nI (12 * (tn l))) hC d_Mo_leave_17 (pk_mul _ _) rfl ?_
    refine x_iconst (q := 19) (v := nI 3) hC d_Mo_leave_18 (by decide) rfl ?_
    refine x_iload_n (q := 20) hC d_Mo_leave_19 rfl rfl rfl ?_
    refine x_imul (q := 21) (z := nI (3 * (tn h))) hC d_Mo_leave_20 (pk_mul _ _) rfl ?_
    refine x_iadd (q := 22) (z := nI ((12 * (tn l)) + (3 * (tn h)))) hC d_Mo_leave_21 (nI_add _ _) rfl ?_
    refine x_iload_n (q := 23) hC d_Mo_leave_22 rfl rfl rfl ?_
    refine x_iadd (q := 24) (z := nI (((12 * (tn l)) + (3 * (tn h))) + (tn g))) hC d_Mo_leave_23 (nI_add _ _) rfl ?_
    refine x_zald (q := 25) (p := 189) hC (((12 * (tn l)) + (3 * (tn h))) + (tn g)) rfl (by omega) rfl (by omega) (by decide) d_Mo_leave_24 rfl ?_
    refine x_if_ne (tgt := 30) (q := 28) hC d_Mo_leave_25 (by decide) rfl (fun h25 => ?_) (fun h25 => ?_)
    · skip
      refine x_aload_n (q := 31) hC d_Mo_leave_30 rfl rfl rfl ?_
      refine x_getr (q := 34) (p := 185) (j := 5) (r := 189) hC f_Mo_19 rfl rfl rfl (by omega) (hu _ _ (by decide)) d_Mo_leave_31 rfl ?_
      refine x_bipush (q := 36) (v := nI 12) hC d_Mo_leave_34 (by decide) rfl ?_
      refine x_iload_n (q := 37) hC d_Mo_leave_36 rfl rfl rfl ?_
      refine x_imul (q := 38) (z := nI (12 * (tn l))) hC d_Mo_leave_37 (pk_mul _ _) rfl ?_
      refine x_iconst (q := 39) (v := nI 3) hC d_Mo_leave_38 (by decide) rfl ?_
      refine x_iload_n (q := 40) hC d_Mo_leave_39 rfl rfl rfl ?_
      refine x_imul (q := 41) (z := nI (3 * (tn h))) hC d_Mo_leave_40 (pk_mul _ _) rfl ?_
      refine x_iadd (q := 42) (z := nI ((12 * (tn l)) + (3 * (tn h)))) hC d_Mo_leave_41 (nI_add _ _) rfl ?_
      refine x_iload_n (q := 43) hC d_Mo_leave_42 rfl rfl rfl ?_
      refine x_iadd (q := 44) (z := nI (((12 * (tn l)) + (3 * (tn h))) + (tn g))) hC d_Mo_leave_43 (nI_add _ _) rfl ?_
      refine x_iconst (q := 45) (v := nI 0) hC d_Mo_leave_44 (by decide) rfl ?_
      refine x_zast (q := 46) (p := 189) hC (((12 * (tn l)) + (3 * (tn h))) + (tn g)) rfl (by omega) (by omega) rfl (by omega) (by decide) rfl d_Mo_leave_45 rfl ?_
      refine x_iconst (q := 47) (v := nI 3) hC d_Mo_leave_46 (by decide) rfl ?_
      refine x_iload_n (q := 48) hC d_Mo_leave_47 rfl rfl rfl ?_
      refine x_imul (q := 49) (z := nI (3 * (tn l))) hC d_Mo_leave_48 (pk_mul _ _) rfl ?_
      refine x_iload_n (q := 50) hC d_Mo_leave_49 rfl rfl rfl ?_
      refine x_iadd (q := 51) (z := nI ((3 * (tn l)) + (tn g))) hC d_Mo_leave_50 (nI_add _ _) rfl ?_
      refine x_istore (q := 53) (L1 := [(5, .int (nI ((3 * (tn l)) + (tn g)))), (0, .ref 185), (1, .int (nI (tn l))), (2, .int (nI (tn h))), (3, .int (nI (tn g))), (4, .int x)]) hC d_Mo_leave_51 (by decide) rfl rfl ?_
      have J1 : mx_G Γ κ M_Mo_leave (MQ (mx_b κ) (mx_Qc Γ (fun ρ τ => ρ = some (.int (bz (D_lvP l h g mi))) ∧ τ = (nx, u, D_leave r l h g x mi))) (mx_a κ) (mx_s κ) M_Mo_leave.2.2.2.2.cells M_Mo_leave.2.2.2.2.slots (mx_fr Γ)) 140 [(0, .ref 185)] [] (nx, u, D_l1 (tn l) (tn h) (tn g) x (D_l0 (tn l) (tn h) (tn g) mi)) 0 0 := by
        refine mx_nr (fun mj ej => ?_)
        have hJ : Mo_ok r mj := ej ▸ D_l1_ok (m := D_l0 (tn l) (tn h) (tn g) mi) (Mo_ok.upP hok (by omega))
        refine x_aload_n (q := 141) hC d_Mo_leave_140 rfl rfl rfl ?_
        refine x_callV (q := 144) (p := 185) (A := []) (S := []) (c1 := 0) (s1 := 0) hC (c_Mo_settle (r := r) (by omega) hu hr hJ) s_Mo_leave_109 rfl (by omega) rfl rfl rfl (Nat.le_of_ble_eq_true rfl) rfl rfl (by decide) (by decide) d_Mo_leave_141 rfl (fun r τ hP => ?_)
        obtain ⟨rfl, rfl⟩ := hP
        show mx_G Γ κ _ _ 144 [(0, .ref 185)] [] (nx, u, Mo_settle r mj) 0 0
        refine x_iconst (q := 145) (v := nI 1) hC d_Mo_leave_144 (by decide) rfl ?_
        subst ej
        exact x_iret hC rfl rfl ⟨bz_t (And.intro h7 h25), pr (it_t (And.intro h7 h25) rfl)⟩ (by decide) (by decide) d_Mo_leave_145
      refine x_iload (q := 55) hC d_Mo_leave_53 rfl rfl ?_
      refine x_if_eq (tgt := 140) (q := 58) hC d_Mo_leave_55 (by decide) rfl (fun h55 => ?_) (fun h55 => ?_)
      · skip
        exact x_sub (L1 := [(0, .ref 185)]) [1] rfl (mx_eqG rfl rfl (pr (by exact it_f (fun q => q.1 h55) rfl)) J1)
      · skip
        refine x_aload_n (q := 59) hC d_Mo_leave_58 rfl rfl rfl ?_
        refine x_getr (q := 62) (p := 185) (j := 7) (r := 191) hC f_Mo_26 rfl rfl rfl (by omega) (hu _ _ (by decide)) d_Mo_leave_59 rfl ?_
        refine x_iload (q := 64) hC d_Mo_leave_62 rfl rfl ?_
        refine x_iald (q := 65) (p := 191) hC ((3 * (tn l)) + (tn g)) rfl (by omega) rfl (by omega) (by decide) d_Mo_leave_64 rfl ?_
        refine x_iload_n (q := 66) hC d_Mo_leave_65 rfl rfl rfl ?_
        refine x_icmp_ne (tgt := 140) (q := 69) hC d_Mo_leave_66 (by decide) rfl (fun h66 => ?_) (fun h66 => ?_)
        · skip
          exact x_sub (L1 := [(0, .ref 185)]) [1] rfl (mx_eqG rfl rfl (pr (by exact it_f (fun q => h66 q.2) rfl)) J1)
        · skip
          refine x_aload_n (q := 70) hC d_Mo_leave_69 rfl rfl rfl ?_
          refine x_iload_n (q := 71) hC d_Mo_leave_70 rfl rfl rfl ?_
          refine x_iload_n (q := 72) hC d_Mo_leave_71 rfl rfl rfl ?_
          refine x_callV (q := 75) (p := 185) (A := [.int (nI (tn l)), .int (nI (tn g))]) (S := []) (c1 := 0) (s1 := 0) hC (c_Mo_lowest (l := tn l) (g := tn g) (by omega) hu (by omega) (by omega) ) s_Mo_leave_126 rfl (by omega) rfl rfl rfl (Nat.le_of_ble_eq_true rfl) rfl rfl (by decide) (by decide) d_Mo_leave_72 rfl (fun r τ hP => ?_)
          obtain ⟨rfl, rfl⟩ := hP
          show mx_G Γ κ _ _ 75 [(5, .int (nI ((3 * (tn l)) + (tn g)))), (0, .ref 185), (1, .int (nI (tn l))), (2, .int (nI (tn h))), (3, .int (nI (tn g))), (4, .int x)] [.int (Mo_low (tn l) (tn g) (mx_up mi 189 (((12 * (tn l)) + (3 * (tn h))) + (tn g)) (nI 0)))] (nx, u, mx_up mi 189 (((12 * (tn l)) + (3 * (tn h))) + (tn g)) (nI 0)) 0 0
          refine x_istore (q := 77) (L1 := [(6, .int (Mo_low (tn l) (tn g) (mx_up mi 189 (((12 * (tn l)) + (3 * (tn h))) + (tn g)) (nI 0)))), (5, .int (nI ((3 * (tn l)) + (tn g)))), (0, .ref 185), (1, .int (nI (tn l))), (2, .int (nI (tn h))), (3, .int (nI (tn g))), (4, .int x)]) hC d_Mo_leave_75 (by decide) rfl rfl ?_
          refine x_iload (q := 79) hC d_Mo_leave_77 rfl rfl ?_
          refine x_if_lt (tgt := 93) (q := 82) hC d_Mo_leave_79 (by decide) rfl (fun h79 => ?_) (fun h79 => ?_)
          · skip
            refine x_aload_n (q := 94) hC d_Mo_leave_93 rfl rfl rfl ?_
            refine x_getr (q := 97) (p := 185) (j := 7) (r := 191) hC f_Mo_26 rfl rfl rfl (by omega) (hu _ _ (by decide)) d_Mo_leave_94 rfl ?_
            refine x_iload (q := 99) hC d_Mo_leave_97 rfl rfl ?_
            refine x_iconst (q := 100) (v := (-1)) hC d_Mo_leave_99 (by decide) rfl ?_
            refine x_iast (q := 101) (p := 191) hC ((3 * (tn l)) + (tn g)) rfl (by omega) (by omega) rfl (by omega) (by decide) d_Mo_leave_100 rfl ?_
            refine x_aload_n (q := 102) hC d_Mo_leave_101 rfl rfl rfl ?_
            refine x_getr (q := 105) (p := 185) (j := 6) (r := 190) hC f_Mo_23 rfl rfl rfl (by omega) (hu _ _ (by decide)) d_Mo_leave_102 rfl ?_
            refine x_iload (q := 107) hC d_Mo_leave_105 rfl rfl ?_
            refine x_aload_n (q := 108) hC d_Mo_leave_107 rfl rfl rfl ?_
            refine x_getr (q := 111) (p := 185) (j := 6) (r := 190) hC f_Mo_23 rfl rfl rfl (by omega) (hu _ _ (by decide)) d_Mo_leave_108 rfl ?_
            refine x_iload (q := 113) hC d_Mo_leave_111 rfl rfl ?_
            refine x_iald (q := 114) (p := 190) hC ((3 * (tn l)) + (tn g)) rfl (by omega) rfl (by omega) (by decide) d_Mo_leave_113 rfl ?_
            refine x_aload_n (q := 115) hC d_Mo_leave_114 rfl rfl rfl ?_
            refine x_geti (q := 118) (p := 185) (j := 1) hC f_Mo_112 rfl rfl (by omega) d_Mo_leave_115 rfl ?_
            refine x_iconst (q := 119) (v := nI 2) hC d_Mo_leave_118 (by decide) rfl ?_
            refine x_iadd (q := 120) (z := ((mx_up (mx_up mi 189 (((12 * (tn l)) + (3 * (tn h))) + (tn g)) (nI 0)) 191 ((3 * (tn l)) + (tn g)) (-1)) 185 1) + (nI 2)) hC d_Mo_leave_119 rfl rfl ?_
            refine x_icmp_le (tgt := 132) (q := 123) hC d_Mo_leave_120 (by decide) rfl (fun h120 => ?_) (fun h120 => ?_)
            · skip
              refine x_aload_n (q := 133) hC d_Mo_leave_132 rfl rfl rfl ?_
              refine x_getr (q := 136) (p := 185) (j := 6) (r := 190) hC f_Mo_23 rfl rfl rfl (by omega) (hu _ _ (by decide)) d_Mo_leave_133 rfl ?_
              refine x_iload (q := 138) hC d_Mo_leave_136 rfl rfl ?_
              refine x_iald (q := 139) (p := 190) hC ((3 * (tn l)) + (tn g)) rfl (by omega) rfl (by omega) (by decide) d_Mo_leave_138 rfl ?_
              refine x_iast (q := 140) (p := 190) hC ((3 * (tn l)) + (tn g)) rfl (by omega) (by omega) rfl (by omega) (by decide) d_Mo_leave_139 rfl ?_
              exact x_sub (L1 := [(0, .ref 185)]) [2] rfl (mx_eqG rfl rfl (pr (by exact it_t (And.intro h55 h66) (it_t h79 (congrArg (mx_up _ 190 _) (it_t h120 rfl))))) J1)
            · skip
              refine x_aload_n (q := 124) hC d_Mo_leave_123 rfl rfl rfl ?_
              refine x_geti (q := 127) (p := 185) (j := 1) hC f_Mo_112 rfl rfl (by omega) d_Mo_leave_124 rfl ?_
              refine x_iconst (q := 128) (v := nI 2) hC d_Mo_leave_127 (by decide) rfl ?_
              refine x_iadd (q := 129) (z := ((mx_up (mx_up mi 189 (((12 * (tn l)) + (3 * (tn h))) + (tn g)) (nI 0)) 191 ((3 * (tn l)) + (tn g)) (-1)) 185 1) + (nI 2)) hC d_Mo_leave_128 rfl rfl ?_
              refine x_goto (tgt := 139) hC d_Mo_leave_129 (by decide) ?_
              refine x_iast (q := 140) (p := 190) hC ((3 * (tn l)) + (tn g)) rfl (by omega) (by omega) rfl (by omega) (by decide) d_Mo_leave_139 rfl ?_
              exact x_sub (L1 := [(0, .ref 185)]) [2] rfl (mx_eqG rfl rfl (pr (by exact it_t (And.intro h55 h66) (it_t h79 (congrArg (mx_up _ 190 _) (it_f h120 rfl))))) J1)
          · skip
            refine x_aload_n (q := 83) hC d_Mo_leave_82 rfl rfl rfl ?_
            refine x_iload_n (q := 84) hC d_Mo_leave_83 rfl rfl rfl ?_
            refine x_iload (q := 86) hC d_Mo_leave_84 rfl rfl ?_
            refine x_iload_n (q := 87) hC d_Mo_leave_86 rfl rfl rfl ?_
            refine x_callV (q := 90) (p := 185) (A := [.int (nI (tn l)), .int (Mo_low (tn l) (tn g) (mx_up mi 189 (((12 * (tn l)) + (3 * (tn h))) + (tn g)) (nI 0))), .int (nI (tn g))]) (S := []) (c1 := 0) (s1 := 0) hC (c_Mo_report (l := tn l) (x := Mo_low (tn l) (tn g) (mx_up mi 189 (((12 * (tn l)) + (3 * (tn h))) + (tn g)) (nI 0))) (g := tn g) (by omega) hu (by omega) (by omega)) s_Mo_leave_122 rfl (by omega) rfl rfl rfl (Nat.le_of_ble_eq_true rfl) rfl rfl (by decide) (by decide) d_Mo_leave_87 rfl (fun r τ hP => ?_)
            obtain ⟨rfl, rfl⟩ := hP
            show mx_G Γ κ _ _ 90 [(6, .int (Mo_low (tn l) (tn g) (mx_up mi 189 (((12 * (tn l)) + (3 * (tn h))) + (tn g)) (nI 0)))), (5, .int (nI ((3 * (tn l)) + (tn g)))), (0, .ref 185), (1, .int (nI (tn l))), (2, .int (nI (tn h))), (3, .int (nI (tn g))), (4, .int x)] [] (nx, u, Mo_report (tn l) (Mo_low (tn l) (tn g) (mx_up mi 189 (((12 * (tn l)) + (3 * (tn h))) + (tn g)) (nI 0))) (tn g) (mx_up mi 189 (((12 * (tn l)) + (3 * (tn h))) + (tn g)) (nI 0))) 0 0
            refine x_goto (tgt := 140) hC d_Mo_leave_90 (by decide) ?_
            exact x_sub (L1 := [(0, .ref 185)]) [2] rfl (mx_eqG rfl rfl (pr (by exact it_t (And.intro h55 h66) (it_f h79 rfl))) J1)
    · skip
      refine x_iconst (q := 29) (v := nI 0) hC d_Mo_leave_28 (by decide) rfl ?_
      exact x_iret hC rfl rfl ⟨bz_f (fun q => q.2 h25), pr (it_f (fun q => q.2 h25) rfl)⟩ (by decide) (by decide) d_Mo_leave_29
set_option maxRecDepth 100000 in
set_option maxHeartbeats 400000 in
theorem c_Mo_marked {Γ : mx_X} {lau : Launch} {nx : Nat} {u : Nat → Nat → Bool} {mi : mx_Mm} {l g : Int32} (hnx : 214 ≤ nx) (hu : ∀ p k, 2 ≤ p → u p k = true)  : mx_C Γ lau M_Mo_marked [.ref 185, .int l, .int g] (nx, u, mi) (fun ρ τ => ρ = some (.int (D_mark l g mi)) ∧ τ = (nx, u, mi)) := by
  refine mx_C.intro (by decide) rfl (Nat.le_of_ble_eq_true rfl) (fun κ _ hC => ?_)
  show mx_G Γ κ _ _ 0 [(0, .ref 185), (1, .int l), (2, .int g)] [] (nx, u, mi) 0 0
  refine x_iload_n (q := 1) hC d_Mo_marked_0 rfl rfl rfl ?_
  refine x_callS (q := 4) (A := [.int l]) (S := []) (c1 := 0) (s1 := 0) hC (c_Mo_router (x := l)) s_Mo_marked_99 rfl rfl rfl (Nat.le_of_ble_eq_true rfl) rfl rfl (by decide) (by decide) d_Mo_marked_1 rfl (fun r τ hP => ?_)
  obtain ⟨rfl, rfl⟩ := hP
  show mx_G Γ κ _ _ 4 [(0, .ref 185), (1, .int l), (2, .int g)] [.int (bz (rt l))] (nx, u, mi) 0 0
  refine x_if_eq (tgt := 14) (q := 7) hC d_Mo_marked_4 (by decide) rfl (fun h4 => ?_) (fun h4 => ?_)
  · have h4 := bz_0 h4
    refine x_iconst (q := 15) (v := (-1)) hC d_Mo_marked_14 (by decide) rfl ?_
    exact x_iret hC rfl rfl ⟨sv (it_f (fun q => h4 q.1) rfl), rfl⟩ (by decide) (by decide) d_Mo_marked_15
  · have h4 := bz_1 h4
    obtain ⟨el, hl⟩ := in_tn h4 (by decide)
    refine mx_eqG (L1 := [(0, .ref 185), (1, .int (nI (tn l))), (2, .int g)]) (by rw [← el]) rfl rfl ?_
    refine x_iload_n (q := 8) hC d_Mo_marked_7 rfl rfl rfl ?_
    refine x_callS (q := 11) (A := [.int g]) (S := []) (c1 := 0) (s1 := 0) hC (c_Mo_isGroup (x := g)) s_Mo_marked_115 rfl rfl rfl (Nat.le_of_ble_eq_true rfl) rfl rfl (by decide) (by decide) d_Mo_marked_8 rfl (fun r τ hP => ?_)
    obtain ⟨rfl, rfl⟩ := hP
    show mx_G Γ κ _ _ 11 [(0, .ref 185), (1, .int (nI (tn l))), (2, .int g)] [.int (bz (gp g))] (nx, u, mi) 0 0
    refine x_if_ne (tgt := 16) (q := 14) hC d_Mo_marked_11 (by decide) rfl (fun h11 => ?_) (fun h11 => ?_)
    · have h11 := bz_1 h11
      obtain ⟨eg, hg⟩ := in_tn h11 (by decide)
      refine mx_eqG (L1 := [(0, .ref 185), (1, .int (nI (tn l))), (2, .int (nI (tn g)))]) (by rw [← eg]) rfl rfl ?_
      refine x_aload_n (q := 17) hC d_Mo_marked_16 rfl rfl rfl ?_
      refine x_iload_n (q := 18) hC d_Mo_marked_17 rfl rfl rfl ?_
      refine x_iload_n (q := 19) hC d_Mo_marked_18 rfl rfl rfl ?_
      refine x_callV (q := 22) (p := 185) (A := [.int (nI (tn l)), .int (nI (tn g))]) (S := []) (c1 := 0) (s1 := 0) hC (c_Mo_onLan (l := tn l) (g := tn g) (by omega) hu (by omega) (by omega) ) s_Mo_marked_130 rfl (by omega) rfl rfl rfl (Nat.le_of_ble_eq_true rfl) rfl rfl (by decide) (by decide) d_Mo_marked_19 rfl (fun r τ hP => ?_)
      obtain ⟨rfl, rfl⟩ := hP
      show mx_G Γ κ _ _ 22 [(0, .ref 185), (1, .int (nI (tn l))), (2, .int (nI (tn g)))] [.int (bz (Mo_on (tn l) (tn g) mi))] (nx, u, mi) 0 0
      refine x_if_eq (tgt := 43) (q := 25) hC d_Mo_marked_22 (by decide) rfl (fun h22 => ?_) (fun h22 => ?_)
      · have h22 := bz_0 h22
        refine x_iconst (q := 44) (v := nI 0) hC d_Mo_marked_43 (by decide) rfl ?_
        exact x_iret hC rfl rfl ⟨sv (it_t (And.intro h4 h11) (it_f h22 rfl)), rfl⟩ (by decide) (by decide) d_Mo_marked_44
      · have h22 := bz_1 h22
        refine x_aload_n (q := 26) hC d_Mo_marked_25 rfl rfl rfl ?_
        refine x_getr (q := 29) (p := 185) (j := 6) (r := 190) hC f_Mo_23 rfl rfl rfl (by omega) (hu _ _ (by decide)) d_Mo_marked_26 rfl ?_
        refine x_iconst (q := 30) (v := nI 3) hC d_Mo_marked_29 (by decide) rfl ?_
        refine x_iload_n (q := 31) hC d_Mo_marked_30 rfl rfl rfl ?_
        refine x_imul (q := 32) (z := nI (3 * (tn l))) hC d_Mo_marked_31 (pk_mul _ _) rfl ?_
        refine x_iload_n (q := 33) hC d_Mo_marked_32 rfl rfl rfl ?_
        refine x_iadd (q := 34) (z := nI ((3 * (tn l)) + (tn g))) hC d_Mo_marked_33 (nI_add _ _) rfl ?_
        refine x_iald (q := 35) (p := 190) hC ((3 * (tn l)) + (tn g)) rfl (by omega) rfl (by omega) (by decide) d_Mo_marked_34 rfl ?_
        refine x_aload_n (q := 36) hC d_Mo_marked_35 rfl rfl rfl ?_
        refine x_geti (q := 39) (p := 185) (j := 1) hC f_Mo_112 rfl rfl (by omega) d_Mo_marked_36 rfl ?_
        refine x_isub (q := 40) (z := (mi 190 ((3 * (tn l)) + (tn g))) - (mi 185 1)) hC d_Mo_marked_39 rfl rfl ?_
        refine x_goto (tgt := 44) hC d_Mo_marked_40 (by decide) ?_
        exact x_iret hC rfl rfl ⟨sv (it_t (And.intro h4 h11) (it_t h22 rfl)), rfl⟩ (by decide) (by decide) d_Mo_marked_44
    · have h11 := bz_0 h11
      refine x_iconst (q := 15) (v := (-1)) hC d_Mo_marked_14 (by decide) rfl ?_
      exact x_iret hC rfl rfl ⟨sv (it_f (fun q => h11 q.2) rfl), rfl⟩ (by decide) (by decide) d_Mo_marked_15
set_option maxRecDepth 100000 in
set_option maxHeartbeats 400000 in
theorem c_Mo_shared {Γ : mx_X} {lau : Launch} {nx : Nat} {u : Nat → Nat → Bool} {mi : mx_Mm} {n g : Int32} (hnx : 214 ≤ nx) (hu : ∀ p k, 2 ≤ p → u p k = true)  : mx_C Γ lau M_Mo_shared [.ref 185, .int n, .int g] (nx, u, mi) (fun ρ τ => ρ = some (.int (D_shar n g mi)) ∧ τ = (nx, u, mi)) := by
  refine mx_C.intro (by decide) rfl (Nat.le_of_ble_eq_true rfl) (fun κ _ hC => ?_)
  show mx_G Γ κ _ _ 0 [(0, .ref 185), (1, .int n), (2, .int g)] [] (nx, u, mi) 0 0
  refine x_iload_n (q := 1) hC d_Mo_shared_0 rfl rfl rfl ?_
  refine x_callS (q := 4) (A := [.int n]) (S := []) (c1 := 0) (s1 := 0) hC (c_Mo_router (x := n)) s_Mo_shared_99 rfl rfl rfl (Nat.le_of_ble_eq_true rfl) rfl rfl (by decide) (by decide) d_Mo_shared_1 rfl (fun r τ hP => ?_)
  obtain ⟨rfl, rfl⟩ := hP
  show mx_G Γ κ _ _ 4 [(0, .ref 185), (1, .int n), (2, .int g)] [.int (bz (rt n))] (nx, u, mi) 0 0
  refine x_if_eq (tgt := 27) (q := 7) hC d_Mo_shared_4 (by decide) rfl (fun h4 => ?_) (fun h4 => ?_)
  · have h4 := bz_0 h4
    refine x_iconst (q := 28) (v := (-1)) hC d_Mo_shared_27 (by decide) rfl ?_
    exact x_iret hC rfl rfl ⟨sv (it_f (fun q => h4 q.1) rfl), rfl⟩ (by decide) (by decide) d_Mo_shared_28
  · have h4 := bz_1 h4
    obtain ⟨en, hn⟩ := in_tn h4 (by decide)
    refine mx_eqG (L1 := [(0, .ref 185), (1, .int (nI (tn n))), (2, .int g)]) (by rw [← en]) rfl rfl ?_
    refine x_iload_n (q := 8) hC d_Mo_shared_7 rfl rfl rfl ?_
    refine x_callS (q := 11) (A := [.int g]) (S := []) (c1 := 0) (s1 := 0) hC (c_Mo_isGroup (x := g)) s_Mo_shared_115 rfl rfl rfl (Nat.le_of_ble_eq_true rfl) rfl rfl (by decide) (by decide) d_Mo_shared_8 rfl (fun r τ hP => ?_)
    obtain ⟨rfl, rfl⟩ := hP
    show mx_G Γ κ _ _ 11 [(0, .ref 185), (1, .int (nI (tn n))), (2, .int g)] [.int (bz (gp g))] (nx, u, mi) 0 0
    refine x_if_eq (tgt := 27) (q := 14) hC d_Mo_shared_11 (by decide) rfl (fun h11 => ?_) (fun h11 => ?_)
    · have h11 := bz_0 h11
      refine x_iconst (q := 28) (v := (-1)) hC d_Mo_shared_27 (by decide) rfl ?_
      exact x_iret hC rfl rfl ⟨sv (it_f (fun q => h11 q.2) rfl), rfl⟩ (by decide) (by decide) d_Mo_shared_28
    · have h11 := bz_1 h11
      obtain ⟨eg, hg⟩ := in_tn h11 (by decide)
      refine mx_eqG (L1 := [(0, .ref 185), (1, .int (nI (tn n))), (2, .int (nI (tn g)))]) (by rw [← eg]) rfl rfl ?_
      refine x_aload_n (q := 15) hC d_Mo_shared_14 rfl rfl rfl ?_
      refine x_getr (q := 18) (p := 185) (j := 8) (r := 192) hC f_Mo_29 rfl rfl rfl (by omega) (hu _ _ (by decide)) d_Mo_shared_15 rfl ?_
      refine x_iconst (q := 19) (v := nI 3) hC d_Mo_shared_18 (by decide) rfl ?_
      refine x_iload_n (q := 20) hC d_Mo_shared_19 rfl rfl rfl ?_
      refine x_imul (q := 21) (z := nI (3 * (tn n))) hC d_Mo_shared_20 (pk_mul _ _) rfl ?_
      refine x_iload_n (q := 22) hC d_Mo_shared_21 rfl rfl rfl ?_
      refine x_iadd (q := 23) (z := nI ((3 * (tn n)) + (tn g))) hC d_Mo_shared_22 (nI_add _ _) rfl ?_
      refine x_iald (q := 24) (p := 192) hC ((3 * (tn n)) + (tn g)) rfl (by omega) rfl (by omega) (by decide) d_Mo_shared_23 rfl ?_
      refine x_goto (tgt := 28) hC d_Mo_shared_24 (by decide) ?_
      exact x_iret hC rfl rfl ⟨sv (it_t (And.intro h4 h11) rfl), rfl⟩ (by decide) (by decide) d_Mo_shared_28
set_option maxRecDepth 100000 in
set_option maxHeartbeats 400000 in
theorem c_Mo_pass {Γ : mx_X} {lau : Launch} {nx : Nat} {u : Nat → Nat → Bool} {mi : mx_Mm} {r : Nat} {n : Int32} (hnx : 214 ≤ nx) (hu : ∀ p k, 2 ≤ p → u p k = true) (hr : r < 6) (hok : Mo_ok r mi) : mx_C Γ lau M_Mo_pass [.ref 185, .int n] (nx, u, mi) (fun ρ τ => ρ = some (.int (bz (C_psP n))) ∧ τ = (nx, u, D_pass r n mi)) := by
  refine mx_C.intro (by decide) rfl (Nat.le_of_ble_eq_true rfl) (fun κ _ hC => ?_)
  show mx_G Γ κ _ _ 0 [(0, .ref 185), (1, .int n)] [] (nx, u, mi) 0 0
  refine x_iload_n (q := 1) hC d_Mo_pass_0 rfl rfl rfl ?_
  refine x_iconst (q := 2) (v := nI 1) hC d_Mo_pass_1 (by decide) rfl ?_
  refine x_icmp_lt (tgt := 11) (q := 5) hC d_Mo_pass_2 (by decide) rfl (fun h2 => ?_) (fun h2 => ?_)
  · skip
    refine x_iconst (q := 12) (v := nI 0) hC d_Mo_pass_11 (by decide) rfl ?_
    exact x_iret hC rfl rfl ⟨bz_f (fun q => Int32.not_lt.mpr q.1 h2), pr (it_f (fun q => Int32.not_lt.mpr q.1 h2) rfl)⟩ (by decide) (by decide) d_Mo_pass_12
  · skip
    refine x_iload_n (q := 6) hC d_Mo_pass_5 rfl rfl rfl ?_
    refine x_bipush (q := 8) (v := nI 10) hC d_Mo_pass_6 (by decide) rfl ?_
    refine x_icmp_le (tgt := 13) (q := 11) hC d_Mo_pass_8 (by decide) rfl (fun h8 => ?_) (fun h8 => ?_)
    · skip
      obtain ⟨en, hn⟩ := ps_tn (And.intro (Int32.not_lt.mp h2) h8)
      refine mx_eqG (L1 := [(0, .ref 185), (1, .int (nI (tn n)))]) (by rw [← en]) rfl rfl ?_
      refine x_iconst (q := 14) (v := nI 0) hC d_Mo_pass_13 (by decide) rfl ?_
      refine x_istore_n (q := 15) (L1 := [(2, .int (nI 0)), (0, .ref 185), (1, .int (nI (tn n)))]) hC d_Mo_pass_14 rfl (by decide) rfl rfl ?_
      refine x_sub (L1 := [(2, .int (nI 0)), (0, .ref 185), (1, .int (nI (tn n)))]) [0, 1, 2] rfl ?_
      refine mx_loop (N := (tn n)) (Hd := fun i m1 => mx_G Γ κ _ _ 15 [(2, .int (nI i)), (0, .ref 185), (1, .int (nI (tn n)))] [] (nx, u, m1) 0 0) (fun _ => Mo_tick r) (fun _ m => Mo_ok r m) hok ?_ ?_ ?_
      · exact fun _ m _ h => Mo_tick_ok hr h
      · intro i m1 hl2 hI3 hN4
        have hI0 := hI3
        refine x_iload_n (q := 16) hC d_Mo_pass_15 rfl rfl rfl ?_
        refine x_iload_n (q := 17) hC d_Mo_pass_16 rfl rfl rfl ?_
        refine x_icmp_ge (tgt := 92) (q := 20) hC d_Mo_pass_17 (by decide) rfl (fun h => absurd h (nI_ge hl2 (by omega))) (fun _ => ?_)
        refine x_aload_n (q := 21) hC d_Mo_pass_20 rfl rfl rfl ?_
        refine x_aload_n (q := 22) hC d_Mo_pass_21 rfl rfl rfl ?_
        refine x_geti (q := 25) (p := 185) (j := 1) hC f_Mo_112 rfl rfl (by omega) d_Mo_pass_22 rfl ?_
        refine x_iconst (q := 26) (v := nI 1) hC d_Mo_pass_25 (by decide) rfl ?_
        refine x_iadd (q := 27) (z := (m1 185 1) + (nI 1)) hC d_Mo_pass_26 rfl rfl ?_
        refine x_puti (q := 30) (p := 185) (j := 1) hC f_Mo_112 y_Mo rfl rfl rfl rfl rfl (by omega) (by decide) d_Mo_pass_27 rfl ?_
        refine x_iconst (q := 31) (v := nI 0) hC d_Mo_pass_30 (by decide) rfl ?_
        refine x_istore_n (q := 32) (L1 := [(3, .int (nI 0)), (2, .int (nI i)), (0, .ref 185), (1, .int (nI (tn n)))]) hC d_Mo_pass_31 rfl (by decide) rfl rfl ?_
        refine x_sub (L1 := [(3, .int (nI 0)), (2, .int (nI i)), (0, .ref 185), (1, .int (nI (tn n)))]) [0, 1, 2, 3] rfl ?_
        refine mx_loopB (N := 18) (Hd := fun k m5 => mx_G Γ κ M_Mo_pass (MQ (mx_b κ) (mx_Qc Γ (fun ρ τ => ρ = some (.int (bz (C_psP n))) ∧ τ = (nx, u, D_pass r n mi))) (mx_a κ) (mx_s κ) M_Mo_pass.2.2.2.2.cells M_Mo_pass.2.2.2.2.slots (mx_fr Γ)) 32 [(3, .int (nI k)), (2, .int (nI i)), (0, .ref 185), (1, .int (nI (tn n)))] [] (nx, u, m5) 0 0) (Ex := fun m5 => mx_G Γ κ M_Mo_pass (MQ (mx_b κ) (mx_Qc Γ (fun ρ τ => ρ = some (.int (bz (C_psP n))) ∧ τ = (nx, u, D_pass r n mi))) (mx_a κ) (mx_s κ) M_Mo_pass.2.2.2.2.cells M_Mo_pass.2.2.2.2.slots (mx_fr Γ)) 82 [(2, .int (nI i)), (0, .ref 185), (1, .int (nI (tn n)))] [] (nx, u, m5) 0 0) (Mo_p1) (fun _ m => m 185 1 - m 185 1 / nI 5 * nI 5 = 0) (fun _ _ => True) trivial ?_ ?_ ?_ ?_ ?_
        · exact fun _ _ _ _ => trivial
        · exact fun i j m hij hj hn => if_neg hn
        · intro k m5 hl6 hI7 hN8 hE9
          refine x_iload_n (q := 33) hC d_Mo_pass_32 rfl rfl rfl ?_
          refine x_bipush (q := 35) (v := nI 18) hC d_Mo_pass_33 (by decide) rfl ?_
          refine x_icmp_ge (tgt := 82) (q := 38) hC d_Mo_pass_35 (by decide) rfl (fun h => absurd h (nI_ge hl6 (by omega))) (fun _ => ?_)
          refine x_aload_n (q := 39) hC d_Mo_pass_38 rfl rfl rfl ?_
          refine x_geti (q := 42) (p := 185) (j := 1) hC f_Mo_112 rfl rfl (by omega) d_Mo_pass_39 rfl ?_
          refine x_iconst (q := 43) (v := nI 5) hC d_Mo_pass_42 (by decide) rfl ?_
          refine x_irem (q := 44) (z := (m5 185 1) - (m5 185 1) / (nI 5) * (nI 5)) hC d_Mo_pass_43 (by decide) rfl rfl ?_
          refine x_if_ne (tgt := 82) (q := 47) hC d_Mo_pass_44 (by decide) rfl (fun h44 => ?_) (fun h44 => ?_)
          · skip
            exact x_sub (L1 := [(2, .int (nI i)), (0, .ref 185), (1, .int (nI (tn n)))]) [1, 2, 3] rfl (hE9 h44)
          · skip
            refine x_aload_n (q := 48) hC d_Mo_pass_47 rfl rfl rfl ?_
            refine x_iload_n (q := 49) hC d_Mo_pass_48 rfl rfl rfl ?_
            refine x_iconst (q := 50) (v := nI 3) hC d_Mo_pass_49 (by decide) rfl ?_
            refine x_idiv (q := 51) (z := nI (k / 3)) hC d_Mo_pass_50 (by decide) (pk_div (by omega) (by decide) (by decide)) rfl ?_
            refine x_iload_n (q := 52) hC d_Mo_pass_51 rfl rfl rfl ?_
            refine x_iconst (q := 53) (v := nI 3) hC d_Mo_pass_52 (by decide) rfl ?_
            refine x_irem (q := 54) (z := nI (k % 3)) hC d_Mo_pass_53 (by decide) (pk_rem (by omega) (by decide) (by decide)) rfl ?_
            refine x_callV (q := 57) (p := 185) (A := [.int (nI (k / 3)), .int (nI (k % 3))]) (S := []) (c1 := 0) (s1 := 0) hC (c_Mo_lowest (l := k / 3) (g := k % 3) (by omega) hu (by omega) (by omega) ) s_Mo_pass_126 rfl (by omega) rfl rfl rfl (Nat.le_of_ble_eq_true rfl) rfl rfl (by decide) (by decide) d_Mo_pass_54 rfl (fun r τ hP => ?_)
            obtain ⟨rfl, rfl⟩ := hP
            show mx_G Γ κ _ _ 57 [(3, .int (nI k)), (2, .int (nI i)), (0, .ref 185), (1, .int (nI (tn n)))] [.int (Mo_low (k / 3) (k % 3) m5)] (nx, u, m5) 0 0
            refine x_istore (q := 59) (L1 := [(4, .int (Mo_low (k / 3) (k % 3) m5)), (3, .int (nI k)), (2, .int (nI i)), (0, .ref 185), (1, .int (nI (tn n)))]) hC d_Mo_pass_57 (by decide) rfl rfl ?_
            refine x_iload (q := 61) hC d_Mo_pass_59 rfl rfl ?_
            refine x_if_lt (tgt := 76) (q := 64) hC d_Mo_pass_61 (by decide) rfl (fun h61 => ?_) (fun h61 => ?_)
            · skip
              refine x_iinc (q := 79) (y := nI (k + 1)) (L1 := [(3, .int (nI (k + 1))), (4, .int (Mo_low (k / 3) (k % 3) m5)), (2, .int (nI i)), (0, .ref 185), (1, .int (nI (tn n)))]) hC d_Mo_pass_76 rfl (mx_inc k) (by decide) rfl rfl ?_
              refine x_goto (tgt := 32) hC d_Mo_pass_79 (by decide) ?_
              exact x_close (hN8 h44) [0, 2, 3, 4] rfl (by exact it_t h44 (it_t h61 rfl))
            · skip
              refine x_aload_n (q := 65) hC d_Mo_pass_64 rfl rfl rfl ?_
              refine x_iload_n (q := 66) hC d_Mo_pass_65 rfl rfl rfl ?_
              refine x_iconst (q := 67) (v := nI 3) hC d_Mo_pass_66 (by decide) rfl ?_
              refine x_idiv (q := 68) (z := nI (k / 3)) hC d_Mo_pass_67 (by decide) (pk_div (by omega) (by decide) (by decide)) rfl ?_
              refine x_iload (q := 70) hC d_Mo_pass_68 rfl rfl ?_
              refine x_iload_n (q := 71) hC d_Mo_pass_70 rfl rfl rfl ?_
              refine x_iconst (q := 72) (v := nI 3) hC d_Mo_pass_71 (by decide) rfl ?_
              refine x_irem (q := 73) (z := nI (k % 3)) hC d_Mo_pass_72 (by decide) (pk_rem (by omega) (by decide) (by decide)) rfl ?_
              refine x_callV (q := 76) (p := 185) (A := [.int (nI (k / 3)), .int (Mo_low (k / 3) (k % 3) m5), .int (nI (k % 3))]) (S := []) (c1 := 0) (s1 := 0) hC (c_Mo_report (l := k / 3) (x := Mo_low (k / 3) (k % 3) m5) (g := k % 3) (by omega) hu (by omega) (by omega)) s_Mo_pass_122 rfl (by omega) rfl rfl rfl (Nat.le_of_ble_eq_true rfl) rfl rfl (by decide) (by decide) d_Mo_pass_73 rfl (fun r τ hP => ?_)
              obtain ⟨rfl, rfl⟩ := hP
              show mx_G Γ κ _ _ 76 [(4, .int (Mo_low (k / 3) (k % 3) m5)), (3, .int (nI k)), (2, .int (nI i)), (0, .ref 185), (1, .int (nI (tn n)))] [] (nx, u, Mo_report (k / 3) (Mo_low (k / 3) (k % 3) m5) (k % 3) m5) 0 0
              refine x_iinc (q := 79) (y := nI (k + 1)) (L1 := [(3, .int (nI (k + 1))), (4, .int (Mo_low (k / 3) (k % 3) m5)), (2, .int (nI i)), (0, .ref 185), (1, .int (nI (tn n)))]) hC d_Mo_pass_76 rfl (mx_inc k) (by decide) rfl rfl ?_
              refine x_goto (tgt := 32) hC d_Mo_pass_79 (by decide) ?_
              exact x_close (hN8 h44) [0, 2, 3, 4] rfl (by exact it_t h44 (it_f h61 rfl))
        · intro m5 hI11 hE10
          refine x_iload_n (q := 33) hC d_Mo_pass_32 rfl rfl rfl ?_
          refine x_bipush (q := 35) (v := nI 18) hC d_Mo_pass_33 (by decide) rfl ?_
          refine x_icmp_ge (tgt := 82) (q := 38) hC d_Mo_pass_35 (by decide) rfl (fun _ => ?_) (fun h => absurd (nI_le (Nat.le_refl _) (by omega)) h)
          exact x_sub (L1 := [(2, .int (nI i)), (0, .ref 185), (1, .int (nI (tn n)))]) [1, 2, 3] rfl hE10
        · refine mx_nr (fun mb32 eb32 => ?_)
          have hB : Mo_ok r mb32 := eb32 ▸ lp_keep (Mo_ok r) 18 (Mo_ok.upP hI0 (by omega)) (fun _ _ _ h => Mo_p1_ok h)
          refine x_aload_n (q := 83) hC d_Mo_pass_82 rfl rfl rfl ?_
          refine x_callV (q := 86) (p := 185) (A := []) (S := []) (c1 := 0) (s1 := 0) hC (c_Mo_settle (r := r) (by omega) hu hr hB) s_Mo_pass_109 rfl (by omega) rfl rfl rfl (Nat.le_of_ble_eq_true rfl) rfl rfl (by decide) (by decide) d_Mo_pass_83 rfl (fun r τ hP => ?_)
          obtain ⟨rfl, rfl⟩ := hP
          show mx_G Γ κ _ _ 86 [(2, .int (nI i)), (0, .ref 185), (1, .int (nI (tn n)))] [] (nx, u, Mo_settle r mb32) 0 0
          refine x_iinc (q := 89) (y := nI (i + 1)) (L1 := [(2, .int (nI (i + 1))), (0, .ref 185), (1, .int (nI (tn n)))]) hC d_Mo_pass_86 rfl (mx_inc i) (by decide) rfl rfl ?_
          refine x_goto (tgt := 15) hC d_Mo_pass_89 (by decide) ?_
          subst eb32
          exact x_close hN4 [0, 1, 2] rfl (by rfl)
      · intro hx12
        refine mx_nr (fun m13 e14 => ?_)
        try rw [e14] at hx12
        refine x_iload_n (q := 16) hC d_Mo_pass_15 rfl rfl rfl ?_
        refine x_iload_n (q := 17) hC d_Mo_pass_16 rfl rfl rfl ?_
        refine x_icmp_ge (tgt := 92) (q := 20) hC d_Mo_pass_17 (by decide) rfl (fun _ => ?_) (fun h => absurd (nI_le (Nat.le_refl _) (by omega)) h)
        refine x_iconst (q := 93) (v := nI 1) hC d_Mo_pass_92 (by decide) rfl ?_
        subst e14
        exact x_iret hC rfl rfl ⟨bz_t (And.intro (Int32.not_lt.mp h2) h8), pr (it_t (And.intro (Int32.not_lt.mp h2) h8) rfl)⟩ (by decide) (by decide) d_Mo_pass_93
    · skip
      refine x_iconst (q := 12) (v := nI 0) hC d_Mo_pass_11 (by decide) rfl ?_
      exact x_iret hC rfl rfl ⟨bz_f (fun q => h8 q.2), pr (it_f (fun q => h8 q.2) rfl)⟩ (by decide) (by decide) d_Mo_pass_12
set_option maxRecDepth 100000 in
set_option maxHeartbeats 400000 in
theorem c_Mo_entry {Γ : mx_X} {lau : Launch} {nx : Nat} {u : Nat → Nat → Bool} {mi : mx_Mm} {n s g : Int32} (hnx : 214 ≤ nx) (hu : ∀ p k, 2 ≤ p → u p k = true)  : mx_C Γ lau M_Mo_entry [.ref 185, .int n, .int s, .int g] (nx, u, mi) (fun ρ τ => ρ = some (.int (D_ent n s g mi)) ∧ τ = (nx, u, mi)) := by
  refine mx_C.intro (by decide) rfl (Nat.le_of_ble_eq_true rfl) (fun κ _ hC => ?_)
  show mx_G Γ κ _ _ 0 [(0, .ref 185), (1, .int n), (2, .int s), (3, .int g)] [] (nx, u, mi) 0 0
  refine x_iload_n (q := 1) hC d_Mo_entry_0 rfl rfl rfl ?_
  refine x_callS (q := 4) (A := [.int n]) (S := []) (c1 := 0) (s1 := 0) hC (c_Mo_router (x := n)) s_Mo_entry_99 rfl rfl rfl (Nat.le_of_ble_eq_true rfl) rfl rfl (by decide) (by decide) d_Mo_entry_1 rfl (fun r τ hP => ?_)
  obtain ⟨rfl, rfl⟩ := hP
  show mx_G Γ κ _ _ 4 [(0, .ref 185), (1, .int n), (2, .int s), (3, .int g)] [.int (bz (rt n))] (nx, u, mi) 0 0
  refine x_if_eq (tgt := 21) (q := 7) hC d_Mo_entry_4 (by decide) rfl (fun h4 => ?_) (fun h4 => ?_)
  · have h4 := bz_0 h4
    refine x_iconst (q := 22) (v := (-1)) hC d_Mo_entry_21 (by decide) rfl ?_
    exact x_iret hC rfl rfl ⟨sv (it_f (fun q => h4 q.1) rfl), rfl⟩ (by decide) (by decide) d_Mo_entry_22
  · have h4 := bz_1 h4
    obtain ⟨en, hn⟩ := in_tn h4 (by decide)
    refine mx_eqG (L1 := [(0, .ref 185), (1, .int (nI (tn n))), (2, .int s), (3, .int g)]) (by rw [← en]) rfl rfl ?_
    refine x_iload_n (q := 8) hC d_Mo_entry_7 rfl rfl rfl ?_
    refine x_callS (q := 11) (A := [.int s]) (S := []) (c1 := 0) (s1 := 0) hC (c_Mo_router (x := s)) s_Mo_entry_99 rfl rfl rfl (Nat.le_of_ble_eq_true rfl) rfl rfl (by decide) (by decide) d_Mo_entry_8 rfl (fun r τ hP => ?_)
    obtain ⟨rfl, rfl⟩ := hP
    show mx_G Γ κ _ _ 11 [(0, .ref 185), (1, .int (nI (tn n))), (2, .int s), (3, .int g)] [.int (bz (rt s))] (nx, u, mi) 0 0
    refine x_if_eq (tgt := 21) (q := 14) hC d_Mo_entry_11 (by decide) rfl (fun h11 => ?_) (fun h11 => ?_)
    · have h11 := bz_0 h11
      refine x_iconst (q := 22) (v := (-1)) hC d_Mo_entry_21 (by decide) rfl ?_
      exact x_iret hC rfl rfl ⟨sv (it_f (fun q => h11 q.2.1) rfl), rfl⟩ (by decide) (by decide) d_Mo_entry_22
    · have h11 := bz_1 h11
      obtain ⟨es, hs⟩ := in_tn h11 (by decide)
      refine mx_eqG (L1 := [(0, .ref 185), (1, .int (nI (tn n))), (2, .int (nI (tn s))), (3, .int g)]) (by rw [← es]) rfl rfl ?_
      refine x_iload_n (q := 15) hC d_Mo_entry_14 rfl rfl rfl ?_
      refine x_callS (q := 18) (A := [.int g]) (S := []) (c1 := 0) (s1 := 0) hC (c_Mo_isGroup (x := g)) s_Mo_entry_115 rfl rfl rfl (Nat.le_of_ble_eq_true rfl) rfl rfl (by decide) (by decide) d_Mo_entry_15 rfl (fun r τ hP => ?_)
      obtain ⟨rfl, rfl⟩ := hP
      show mx_G Γ κ _ _ 18 [(0, .ref 185), (1, .int (nI (tn n))), (2, .int (nI (tn s))), (3, .int g)] [.int (bz (gp g))] (nx, u, mi) 0 0
      refine x_if_ne (tgt := 23) (q := 21) hC d_Mo_entry_18 (by decide) rfl (fun h18 => ?_) (fun h18 => ?_)
      · have h18 := bz_1 h18
        obtain ⟨eg, hg⟩ := in_tn h18 (by decide)
        refine mx_eqG (L1 := [(0, .ref 185), (1, .int (nI (tn n))), (2, .int (nI (tn s))), (3, .int (nI (tn g)))]) (by rw [← eg]) rfl rfl ?_
        refine x_bipush (q := 25) (v := nI 18) hC d_Mo_entry_23 (by decide) rfl ?_
        refine x_iload_n (q := 26) hC d_Mo_entry_25 rfl rfl rfl ?_
        refine x_imul (q := 27) (z := nI (18 * (tn n))) hC d_Mo_entry_26 (pk_mul _ _) rfl ?_
        refine x_iconst (q := 28) (v := nI 3) hC d_Mo_entry_27 (by decide) rfl ?_
        refine x_iload_n (q := 29) hC d_Mo_entry_28 rfl rfl rfl ?_
        refine x_imul (q := 30) (z := nI (3 * (tn s))) hC d_Mo_entry_29 (pk_mul _ _) rfl ?_
        refine x_iadd (q := 31) (z := nI ((18 * (tn n)) + (3 * (tn s)))) hC d_Mo_entry_30 (nI_add _ _) rfl ?_
        refine x_iload_n (q := 32) hC d_Mo_entry_31 rfl rfl rfl ?_
        refine x_iadd (q := 33) (z := nI (((18 * (tn n)) + (3 * (tn s))) + (tn g))) hC d_Mo_entry_32 (nI_add _ _) rfl ?_
        refine x_istore (q := 35) (L1 := [(4, .int (nI (((18 * (tn n)) + (3 * (tn s))) + (tn g)))), (0, .ref 185), (1, .int (nI (tn n))), (2, .int (nI (tn s))), (3, .int (nI (tn g)))]) hC d_Mo_entry_33 (by decide) rfl rfl ?_
        have J1 : mx_G Γ κ M_Mo_entry (MQ (mx_b κ) (mx_Qc Γ (fun ρ τ => ρ = some (.int (D_ent n s g mi)) ∧ τ = (nx, u, mi))) (mx_a κ) (mx_s κ) M_Mo_entry.2.2.2.2.cells M_Mo_entry.2.2.2.2.slots (mx_fr Γ)) 56 [(5, .int (D_e0 (18 * tn n + 3 * tn s + tn g) mi)), (4, .int (nI (((18 * (tn n)) + (3 * (tn s))) + (tn g)))), (0, .ref 185), (1, .int (nI (tn n))), (2, .int (nI (tn s))), (3, .int (nI (tn g)))] [] (nx, u, mi) 0 0 := by
          have J2 : mx_G Γ κ M_Mo_entry (MQ (mx_b κ) (mx_Qc Γ (fun ρ τ => ρ = some (.int (D_ent n s g mi)) ∧ τ = (nx, u, mi))) (mx_a κ) (mx_s κ) M_Mo_entry.2.2.2.2.cells M_Mo_entry.2.2.2.2.slots (mx_fr Γ)) 77 [(5, .int (D_e1 (18 * tn n + 3 * tn s + tn g) mi (D_e0 (18 * tn n + 3 * tn s + tn g) mi))), (4, .int (nI (((18 * (tn n)) + (3 * (tn s))) + (tn g)))), (0, .ref 185), (1, .int (nI (tn n))), (2, .int (nI (tn s))), (3, .int (nI (tn g)))] [] (nx, u, mi) 0 0 := by
            have J3 : mx_G Γ κ M_Mo_entry (MQ (mx_b κ) (mx_Qc Γ (fun ρ τ => ρ = some (.int (D_ent n s g mi)) ∧ τ = (nx, u, mi))) (mx_a κ) (mx_s κ) M_Mo_entry.2.2.2.2.cells M_Mo_entry.2.2.2.2.slots (mx_fr Γ)) 98 [(5, .int (D_e2 (18 * tn n + 3 * tn s + tn g) mi (D_e1 (18 * tn n + 3 * tn s + tn g) mi (D_e0 (18 * tn n + 3 * tn s + tn g) mi)))), (4, .int (nI (((18 * (tn n)) + (3 * (tn s))) + (tn g)))), (0, .ref 185), (1, .int (nI (tn n))), (2, .int (nI (tn s))), (3, .int (nI (tn g)))] [] (nx, u, mi) 0 0 := by
              have J4 : mx_G Γ κ M_Mo_entry (MQ (mx_b κ) (mx_Qc Γ (fun ρ τ => ρ = some (.int (D_ent n s g mi)) ∧ τ = (nx, u, mi))) (mx_a κ) (mx_s κ) M_Mo_entry.2.2.2.2.cells M_Mo_entry.2.2.2.2.slots (mx_fr Γ)) 120 [(5, .int (D_e3 (18 * tn n + 3 * tn s + tn g) mi (D_e2 (18 * tn n + 3 * tn s + tn g) mi (D_e1 (18 * tn n + 3 * tn s + tn g) mi (D_e0 (18 * tn n + 3 * tn s + tn g) mi))))), (4, .int (nI (((18 * (tn n)) + (3 * (tn s))) + (tn g)))), (0, .ref 185), (1, .int (nI (tn n))), (2, .int (nI (tn s))), (3, .int (nI (tn g)))] [] (nx, u, mi) 0 0 := by
                refine x_iload (q := 122) hC d_Mo_entry_120 rfl rfl ?_
                refine x_bipush (q := 124) (v := nI 16) hC d_Mo_entry_122 (by decide) rfl ?_
                refine x_aload_n (q := 125) hC d_Mo_entry_124 rfl rfl rfl ?_
                refine x_iload_n (q := 126) hC d_Mo_entry_125 rfl rfl rfl ?_
                refine x_iconst (q := 127) (v := nI 3) hC d_Mo_entry_126 (by decide) rfl ?_
                refine x_iload_n (q := 128) hC d_Mo_entry_127 rfl rfl rfl ?_
                refine x_imul (q := 129) (z := nI (3 * (tn s))) hC d_Mo_entry_128 (pk_mul _ _) rfl ?_
                refine x_iload_n (q := 130) hC d_Mo_entry_129 rfl rfl rfl ?_
                refine x_iadd (q := 131) (z := nI ((3 * (tn s)) + (tn g))) hC d_Mo_entry_130 (nI_add _ _) rfl ?_
                refine x_iconst (q := 132) (v := nI 1) hC d_Mo_entry_131 (by decide) rfl ?_
                refine x_callV (q := 135) (p := 185) (A := [.int (nI (tn n)), .int (nI ((3 * (tn s)) + (tn g))), .int (nI 1)]) (S := [.int (nI 16), .int (D_e3 (18 * tn n + 3 * tn s + tn g) mi (D_e2 (18 * tn n + 3 * tn s + tn g) mi (D_e1 (18 * tn n + 3 * tn s + tn g) mi (D_e0 (18 * tn n + 3 * tn s + tn g) mi))))]) (c1 := 0) (s1 := 0) hC (c_Mo_many1 (n := tn n) (st := (3 * (tn s)) + (tn g)) (by omega) hu (by omega) (by omega)) s_Mo_entry_140 rfl (by omega) rfl rfl rfl (Nat.le_of_ble_eq_true rfl) rfl rfl (by decide) (by decide) d_Mo_entry_132 rfl (fun r τ hP => ?_)
                obtain ⟨rfl, rfl⟩ := hP
                show mx_G Γ κ _ _ 135 [(5, .int (D_e3 (18 * tn n + 3 * tn s + tn g) mi (D_e2 (18 * tn n + 3 * tn s + tn g) mi (D_e1 (18 * tn n + 3 * tn s + tn g) mi (D_e0 (18 * tn n + 3 * tn s + tn g) mi))))), (4, .int (nI (((18 * (tn n)) + (3 * (tn s))) + (tn g)))), (0, .ref 185), (1, .int (nI (tn n))), (2, .int (nI (tn s))), (3, .int (nI (tn g)))] [.int (nI (Mo_m1 (tn n) ((3 * (tn s)) + (tn g)) mi)), .int (nI 16), .int (D_e3 (18 * tn n + 3 * tn s + tn g) mi (D_e2 (18 * tn n + 3 * tn s + tn g) mi (D_e1 (18 * tn n + 3 * tn s + tn g) mi (D_e0 (18 * tn n + 3 * tn s + tn g) mi))))] (nx, u, mi) 0 0
                refine x_imul (q := 136) (z := nI (16 * (Mo_m1 (tn n) ((3 * (tn s)) + (tn g)) mi))) hC d_Mo_entry_135 (pk_mul _ _) rfl ?_
                refine x_iadd (q := 137) (z := (D_e3 (18 * tn n + 3 * tn s + tn g) mi (D_e2 (18 * tn n + 3 * tn s + tn g) mi (D_e1 (18 * tn n + 3 * tn s + tn g) mi (D_e0 (18 * tn n + 3 * tn s + tn g) mi)))) + (nI (16 * (Mo_m1 (tn n) ((3 * (tn s)) + (tn g)) mi)))) hC d_Mo_entry_136 rfl rfl ?_
                exact x_iret hC rfl rfl ⟨sv (it_t (And.intro h4 (And.intro h11 h18)) rfl), rfl⟩ (by decide) (by decide) d_Mo_entry_137
              refine x_aload_n (q := 99) hC d_Mo_entry_98 rfl rfl rfl ?_
              refine x_getr (q := 102) (p := 185) (j := 12) (r := 196) hC f_Mo_41 rfl rfl rfl (by omega) (hu _ _ (by decide)) d_Mo_entry_99 rfl ?_
              refine x_iload (q := 104) hC d_Mo_entry_102 rfl rfl ?_
              refine x_iald (q := 105) (p := 196) hC (((18 * (tn n)) + (3 * (tn s))) + (tn g)) rfl (by omega) rfl (by omega) (by decide) d_Mo_entry_104 rfl ?_
              refine x_if_lt (tgt := 116) (q := 108) hC d_Mo_entry_105 (by decide) rfl (fun h105 => ?_) (fun h105 => ?_)
              · skip
                refine x_iload (q := 118) hC d_Mo_entry_116 rfl rfl ?_
                refine x_istore (q := 120) (L1 := [(5, .int (D_e2 (18 * tn n + 3 * tn s + tn g) mi (D_e1 (18 * tn n + 3 * tn s + tn g) mi (D_e0 (18 * tn n + 3 * tn s + tn g) mi)))), (4, .int (nI (((18 * (tn n)) + (3 * (tn s))) + (tn g)))), (0, .ref 185), (1, .int (nI (tn n))), (2, .int (nI (tn s))), (3, .int (nI (tn g)))]) hC d_Mo_entry_118 (by decide) rfl rfl ?_
                exact x_sub (L1 := [(5, .int (D_e2 (18 * tn n + 3 * tn s + tn g) mi (D_e1 (18 * tn n + 3 * tn s + tn g) mi (D_e0 (18 * tn n + 3 * tn s + tn g) mi)))), (4, .int (nI (((18 * (tn n)) + (3 * (tn s))) + (tn g)))), (0, .ref 185), (1, .int (nI (tn n))), (2, .int (nI (tn s))), (3, .int (nI (tn g)))]) [0, 1, 2, 3, 4, 5] rfl (mx_eqG (by first | rw [D_e3, if_pos h105] | rw [D_e3, if_neg h105]) rfl rfl J4)
              · skip
                refine x_iload (q := 110) hC d_Mo_entry_108 rfl rfl ?_
                refine x_bipush (q := 112) (v := nI 8) hC d_Mo_entry_110 (by decide) rfl ?_
                refine x_iadd (q := 113) (z := (D_e2 (18 * tn n + 3 * tn s + tn g) mi (D_e1 (18 * tn n + 3 * tn s + tn g) mi (D_e0 (18 * tn n + 3 * tn s + tn g) mi))) + (nI 8)) hC d_Mo_entry_112 rfl rfl ?_
                refine x_goto (tgt := 118) hC d_Mo_entry_113 (by decide) ?_
                refine x_istore (q := 120) (L1 := [(5, .int ((D_e2 (18 * tn n + 3 * tn s + tn g) mi (D_e1 (18 * tn n + 3 * tn s + tn g) mi (D_e0 (18 * tn n + 3 * tn s + tn g) mi))) + (nI 8))), (4, .int (nI (((18 * (tn n)) + (3 * (tn s))) + (tn g)))), (0, .ref 185), (1, .int (nI (tn n))), (2, .int (nI (tn s))), (3, .int (nI (tn g)))]) hC d_Mo_entry_118 (by decide) rfl rfl ?_
                exact x_sub (L1 := [(5, .int ((D_e2 (18 * tn n + 3 * tn s + tn g) mi (D_e1 (18 * tn n + 3 * tn s + tn g) mi (D_e0 (18 * tn n + 3 * tn s + tn g) mi))) + (nI 8))), (4, .int (nI (((18 * (tn n)) + (3 * (tn s))) + (tn g)))), (0, .ref 185), (1, .int (nI (tn n))), (2, .int (nI (tn s))), (3, .int (nI (tn g)))]) [0, 1, 2, 3, 4, 5] rfl (mx_eqG (by first | rw [D_e3, if_pos h105] | rw [D_e3, if_neg h105]) rfl rfl J4)
            refine x_aload_n (q := 78) hC d_Mo_entry_77 rfl rfl rfl ?_
            refine x_getr (q := 81) (p := 185) (j := 10) (r := 194) hC f_Mo_35 rfl rfl rfl (by omega) (hu _ _ (by decide)) d_Mo_entry_78 rfl ?_
            refine x_iload (q := 83) hC d_Mo_entry_81 rfl rfl ?_
            refine x_iald (q := 84) (p := 194) hC (((18 * (tn n)) + (3 * (tn s))) + (tn g)) rfl (by omega) rfl (by omega) (by decide) d_Mo_entry_83 rfl ?_
            refine x_if_lt (tgt := 94) (q := 87) hC d_Mo_entry_84 (by decide) rfl (fun h84 => ?_) (fun h84 => ?_)
            · skip
              refine x_iload (q := 96) hC d_Mo_entry_94 rfl rfl ?_
              refine x_istore (q := 98) (L1 := [(5, .int (D_e1 (18 * tn n + 3 * tn s + tn g) mi (D_e0 (18 * tn n + 3 * tn s + tn g) mi))), (4, .int (nI (((18 * (tn n)) + (3 * (tn s))) + (tn g)))), (0, .ref 185), (1, .int (nI (tn n))), (2, .int (nI (tn s))), (3, .int (nI (tn g)))]) hC d_Mo_entry_96 (by decide) rfl rfl ?_
              exact x_sub (L1 := [(5, .int (D_e1 (18 * tn n + 3 * tn s + tn g) mi (D_e0 (18 * tn n + 3 * tn s + tn g) mi))), (4, .int (nI (((18 * (tn n)) + (3 * (tn s))) + (tn g)))), (0, .ref 185), (1, .int (nI (tn n))), (2, .int (nI (tn s))), (3, .int (nI (tn g)))]) [0, 1, 2, 3, 4, 5] rfl (mx_eqG (by first | rw [D_e2, if_pos h84] | rw [D_e2, if_neg h84]) rfl rfl J3)
            · skip
              refine x_iload (q := 89) hC d_Mo_entry_87 rfl rfl ?_
              refine x_iconst (q := 90) (v := nI 4) hC d_Mo_entry_89 (by decide) rfl ?_
              refine x_iadd (q := 91) (z := (D_e1 (18 * tn n + 3 * tn s + tn g) mi (D_e0 (18 * tn n + 3 * tn s + tn g) mi)) + (nI 4)) hC d_Mo_entry_90 rfl rfl ?_
              refine x_goto (tgt := 96) hC d_Mo_entry_91 (by decide) ?_
              refine x_istore (q := 98) (L1 := [(5, .int ((D_e1 (18 * tn n + 3 * tn s + tn g) mi (D_e0 (18 * tn n + 3 * tn s + tn g) mi)) + (nI 4))), (4, .int (nI (((18 * (tn n)) + (3 * (tn s))) + (tn g)))), (0, .ref 185), (1, .int (nI (tn n))), (2, .int (nI (tn s))), (3, .int (nI (tn g)))]) hC d_Mo_entry_96 (by decide) rfl rfl ?_
              exact x_sub (L1 := [(5, .int ((D_e1 (18 * tn n + 3 * tn s + tn g) mi (D_e0 (18 * tn n + 3 * tn s + tn g) mi)) + (nI 4))), (4, .int (nI (((18 * (tn n)) + (3 * (tn s))) + (tn g)))), (0, .ref 185), (1, .int (nI (tn n))), (2, .int (nI (tn s))), (3, .int (nI (tn g)))]) [0, 1, 2, 3, 4, 5] rfl (mx_eqG (by first | rw [D_e2, if_pos h84] | rw [D_e2, if_neg h84]) rfl rfl J3)
          refine x_aload_n (q := 57) hC d_Mo_entry_56 rfl rfl rfl ?_
          refine x_getr (q := 60) (p := 185) (j := 15) (r := 199) hC f_Mo_50 rfl rfl rfl (by omega) (hu _ _ (by decide)) d_Mo_entry_57 rfl ?_
          refine x_iload (q := 62) hC d_Mo_entry_60 rfl rfl ?_
          refine x_zald (q := 63) (p := 199) hC (((18 * (tn n)) + (3 * (tn s))) + (tn g)) rfl (by omega) rfl (by omega) (by decide) d_Mo_entry_62 rfl ?_
          refine x_if_eq (tgt := 73) (q := 66) hC d_Mo_entry_63 (by decide) rfl (fun h63 => ?_) (fun h63 => ?_)
          · skip
            refine x_iload (q := 75) hC d_Mo_entry_73 rfl rfl ?_
            refine x_istore (q := 77) (L1 := [(5, .int (D_e0 (18 * tn n + 3 * tn s + tn g) mi)), (4, .int (nI (((18 * (tn n)) + (3 * (tn s))) + (tn g)))), (0, .ref 185), (1, .int (nI (tn n))), (2, .int (nI (tn s))), (3, .int (nI (tn g)))]) hC d_Mo_entry_75 (by decide) rfl rfl ?_
            exact x_sub (L1 := [(5, .int (D_e0 (18 * tn n + 3 * tn s + tn g) mi)), (4, .int (nI (((18 * (tn n)) + (3 * (tn s))) + (tn g)))), (0, .ref 185), (1, .int (nI (tn n))), (2, .int (nI (tn s))), (3, .int (nI (tn g)))]) [0, 1, 2, 3, 4, 5] rfl (mx_eqG (by first | rw [D_e1, if_pos h63] | rw [D_e1, if_neg h63]) rfl rfl J2)
          · skip
            refine x_iload (q := 68) hC d_Mo_entry_66 rfl rfl ?_
            refine x_iconst (q := 69) (v := nI 2) hC d_Mo_entry_68 (by decide) rfl ?_
            refine x_iadd (q := 70) (z := (D_e0 (18 * tn n + 3 * tn s + tn g) mi) + (nI 2)) hC d_Mo_entry_69 rfl rfl ?_
            refine x_goto (tgt := 75) hC d_Mo_entry_70 (by decide) ?_
            refine x_istore (q := 77) (L1 := [(5, .int ((D_e0 (18 * tn n + 3 * tn s + tn g) mi) + (nI 2))), (4, .int (nI (((18 * (tn n)) + (3 * (tn s))) + (tn g)))), (0, .ref 185), (1, .int (nI (tn n))), (2, .int (nI (tn s))), (3, .int (nI (tn g)))]) hC d_Mo_entry_75 (by decide) rfl rfl ?_
            exact x_sub (L1 := [(5, .int ((D_e0 (18 * tn n + 3 * tn s + tn g) mi) + (nI 2))), (4, .int (nI (((18 * (tn n)) + (3 * (tn s))) + (tn g)))), (0, .ref 185), (1, .int (nI (tn n))), (2, .int (nI (tn s))), (3, .int (nI (tn g)))]) [0, 1, 2, 3, 4, 5] rfl (mx_eqG (by first | rw [D_e1, if_pos h63] | rw [D_e1, if_neg h63]) rfl rfl J2)
        refine x_aload_n (q := 36) hC d_Mo_entry_35 rfl rfl rfl ?_
        refine x_getr (q := 39) (p := 185) (j := 14) (r := 198) hC f_Mo_47 rfl rfl rfl (by omega) (hu _ _ (by decide)) d_Mo_entry_36 rfl ?_
        refine x_iload (q := 41) hC d_Mo_entry_39 rfl rfl ?_
        refine x_iald (q := 42) (p := 198) hC (((18 * (tn n)) + (3 * (tn s))) + (tn g)) rfl (by omega) rfl (by omega) (by decide) d_Mo_entry_41 rfl ?_
        refine x_aload_n (q := 43) hC d_Mo_entry_42 rfl rfl rfl ?_
        refine x_geti (q := 46) (p := 185) (j := 1) hC f_Mo_112 rfl rfl (by omega) d_Mo_entry_43 rfl ?_
        refine x_icmp_le (tgt := 53) (q := 49) hC d_Mo_entry_46 (by decide) rfl (fun h46 => ?_) (fun h46 => ?_)
        · skip
          refine x_iconst (q := 54) (v := nI 0) hC d_Mo_entry_53 (by decide) rfl ?_
          refine x_istore (q := 56) (L1 := [(5, .int (nI 0)), (4, .int (nI (((18 * (tn n)) + (3 * (tn s))) + (tn g)))), (0, .ref 185), (1, .int (nI (tn n))), (2, .int (nI (tn s))), (3, .int (nI (tn g)))]) hC d_Mo_entry_54 (by decide) rfl rfl ?_
          exact x_sub (L1 := [(5, .int (nI 0)), (4, .int (nI (((18 * (tn n)) + (3 * (tn s))) + (tn g)))), (0, .ref 185), (1, .int (nI (tn n))), (2, .int (nI (tn s))), (3, .int (nI (tn g)))]) [0, 1, 2, 3, 4, 5] rfl (mx_eqG (by first | rw [D_e0, if_pos h46] | rw [D_e0, if_neg h46]) rfl rfl J1)
        · skip
          refine x_iconst (q := 50) (v := nI 1) hC d_Mo_entry_49 (by decide) rfl ?_
          refine x_goto (tgt := 54) hC d_Mo_entry_50 (by decide) ?_
          refine x_istore (q := 56) (L1 := [(5, .int (nI 1)), (4, .int (nI (((18 * (tn n)) + (3 * (tn s))) + (tn g)))), (0, .ref 185), (1, .int (nI (tn n))), (2, .int (nI (tn s))), (3, .int (nI (tn g)))]) hC d_Mo_entry_54 (by decide) rfl rfl ?_
          exact x_sub (L1 := [(5, .int (nI 1)), (4, .int (nI (((18 * (tn n)) + (3 * (tn s))) + (tn g)))), (0, .ref 185), (1, .int (nI (tn n))), (2, .int (nI (tn s))), (3, .int (nI (tn g)))]) [0, 1, 2, 3, 4, 5] rfl (mx_eqG (by first | rw [D_e0, if_pos h46] | rw [D_e0, if_neg h46]) rfl rfl J1)
      · have h18 := bz_0 h18
        refine x_iconst (q := 22) (v := (-1)) hC d_Mo_entry_21 (by decide) rfl ?_
        exact x_iret hC rfl rfl ⟨sv (it_f (fun q => h18 q.2.2) rfl), rfl⟩ (by decide) (by decide) d_Mo_entry_22
set_option maxRecDepth 100000 in
set_option maxHeartbeats 400000 in
theorem c_Mo_messages {Γ : mx_X} {lau : Launch} {nx : Nat} {u : Nat → Nat → Bool} {mi : mx_Mm} {k : Int32} (hnx : 214 ≤ nx) (hu : ∀ p k, 2 ≤ p → u p k = true)  : mx_C Γ lau M_Mo_messages [.ref 185, .int k] (nx, u, mi) (fun ρ τ => ρ = some (.int (D_msg k mi)) ∧ τ = (nx, u, mi)) := by
  refine mx_C.intro (by decide) rfl (Nat.le_of_ble_eq_true rfl) (fun κ _ hC => ?_)
  show mx_G Γ κ _ _ 0 [(0, .ref 185), (1, .int k)] [] (nx, u, mi) 0 0
  refine x_iload_n (q := 1) hC d_Mo_messages_0 rfl rfl rfl ?_
  refine x_if_lt (tgt := 10) (q := 4) hC d_Mo_messages_1 (by decide) rfl (fun h1 => ?_) (fun h1 => ?_)
  · skip
    refine x_iconst (q := 11) (v := (-1)) hC d_Mo_messages_10 (by decide) rfl ?_
    refine x_goto (tgt := 20) hC d_Mo_messages_11 (by decide) ?_
    exact x_iret hC rfl rfl ⟨sv (it_f (fun q => Int32.not_lt.mpr q.1 h1) rfl), rfl⟩ (by decide) (by decide) d_Mo_messages_20
  · skip
    refine x_iload_n (q := 5) hC d_Mo_messages_4 rfl rfl rfl ?_
    refine x_bipush (q := 7) (v := nI 9) hC d_Mo_messages_5 (by decide) rfl ?_
    refine x_icmp_le (tgt := 14) (q := 10) hC d_Mo_messages_7 (by decide) rfl (fun h7 => ?_) (fun h7 => ?_)
    · skip
      have hk9 : 0 ≤ k ∧ k < nI 10 := And.intro (Int32.not_lt.mp h1) ((Mo_lts (by decide)).mpr (Int32.not_lt.mpr h7))
      obtain ⟨ek, hk⟩ := in_tn (x := k) (n := 10) hk9 (by decide)
      refine mx_eqG (L1 := [(0, .ref 185), (1, .int (nI (tn k)))]) (by rw [← ek]) rfl rfl ?_
      refine x_aload_n (q := 15) hC d_Mo_messages_14 rfl rfl rfl ?_
      refine x_getr (q := 18) (p := 185) (j := 17) (r := 201) hC f_Mo_56 rfl rfl rfl (by omega) (hu _ _ (by decide)) d_Mo_messages_15 rfl ?_
      refine x_iload_n (q := 19) hC d_Mo_messages_18 rfl rfl rfl ?_
      refine x_iald (q := 20) (p := 201) hC (tn k) rfl (by omega) rfl (by omega) (by decide) d_Mo_messages_19 rfl ?_
      exact x_iret hC rfl rfl ⟨sv (it_t hk9 rfl), rfl⟩ (by decide) (by decide) d_Mo_messages_20
    · skip
      refine x_iconst (q := 11) (v := (-1)) hC d_Mo_messages_10 (by decide) rfl ?_
      refine x_goto (tgt := 20) hC d_Mo_messages_11 (by decide) ?_
      exact x_iret hC rfl rfl ⟨sv (it_f (fun q => h7 (Int32.not_lt.mp ((Mo_lts (by decide)).mp q.2))) rfl), rfl⟩ (by decide) (by decide) d_Mo_messages_20
set_option maxRecDepth 100000 in
set_option maxHeartbeats 400000 in
theorem c_Mo_runs {Γ : mx_X} {lau : Launch} {nx : Nat} {u : Nat → Nat → Bool} {mi : mx_Mm} {st : Nat} (hnx : 214 ≤ nx) (hu : ∀ p k, 2 ≤ p → u p k = true) (hst : st < 18) : mx_C Γ lau M_Mo_runs [.ref 185, .int (nI st)] (nx, u, mi) (fun ρ τ => ρ = some (.int (Mo_ru st mi)) ∧ τ = (nx, u, mi)) := by
  refine mx_C.intro (by decide) rfl (Nat.le_of_ble_eq_true rfl) (fun κ _ hC => ?_)
  show mx_G Γ κ _ _ 0 [(0, .ref 185), (1, .int (nI st))] [] (nx, u, mi) 0 0
  refine x_iconst (q := 1) (v := nI 0) hC d_Mo_runs_0 (by decide) rfl ?_
  refine x_istore_n (q := 2) (L1 := [(2, .int (nI 0)), (0, .ref 185), (1, .int (nI st))]) hC d_Mo_runs_1 rfl (by decide) rfl rfl ?_
  refine x_iconst (q := 3) (v := nI 0) hC d_Mo_runs_2 (by decide) rfl ?_
  refine x_istore_n (q := 4) (L1 := [(3, .int (nI 0)), (2, .int (nI 0)), (0, .ref 185), (1, .int (nI st))]) hC d_Mo_runs_3 rfl (by decide) rfl rfl ?_
  refine x_sub (L1 := [(3, .int (nI 0)), (2, .int (nI 0)), (0, .ref 185), (1, .int (nI st))]) [0, 1, 2, 3] rfl ?_
  refine mx_loopG (N := 6) (Hd := fun k a => mx_G Γ κ _ _ 4 [(3, .int (nI k)), (2, .int a), (0, .ref 185), (1, .int (nI st))] [] (nx, u, mi) 0 0) (Mo_ru1 st mi) (fun _ _ => True) (m := (nI 0)) trivial ?_ ?_ ?_
  · exact fun _ _ _ _ => trivial
  · intro k a hl1 hI2 hN3
    refine x_iload_n (q := 5) hC d_Mo_runs_4 rfl rfl rfl ?_
    refine x_bipush (q := 7) (v := nI 6) hC d_Mo_runs_5 (by decide) rfl ?_
    refine x_icmp_ge (tgt := 44) (q := 10) hC d_Mo_runs_7 (by decide) rfl (fun h => absurd h (nI_ge hl1 (by decide))) (fun _ => ?_)
    refine x_iload_n (q := 11) hC d_Mo_runs_10 rfl rfl rfl ?_
    refine x_if_ne (tgt := 32) (q := 14) hC d_Mo_runs_11 (by decide) rfl (fun h11 => ?_) (fun h11 => ?_)
    · skip
      refine x_iconst (q := 33) (v := nI 1) hC d_Mo_runs_32 (by decide) rfl ?_
      refine x_goto (tgt := 37) hC d_Mo_runs_33 (by decide) ?_
      refine x_istore_n (q := 38) (L1 := [(2, .int (nI 1)), (3, .int (nI k)), (0, .ref 185), (1, .int (nI st))]) hC d_Mo_runs_37 rfl (by decide) rfl rfl ?_
      refine x_iinc (q := 41) (y := nI (k + 1)) (L1 := [(3, .int (nI (k + 1))), (2, .int (nI 1)), (0, .ref 185), (1, .int (nI st))]) hC d_Mo_runs_38 rfl (mx_inc k) (by decide) rfl rfl ?_
      refine x_goto (tgt := 4) hC d_Mo_runs_41 (by decide) ?_
      refine x_sub (L1 := [(3, .int (nI (k + 1))), (2, .int (nI 1)), (0, .ref 185), (1, .int (nI st))]) [0, 1, 2, 3] rfl (mx_eqG ?_ rfl ?_ hN3)
      · rw [Mo_ru1, if_pos (Or.inl h11)]
      · rfl
    · skip
      refine x_aload_n (q := 15) hC d_Mo_runs_14 rfl rfl rfl ?_
      refine x_getr (q := 18) (p := 185) (j := 14) (r := 198) hC f_Mo_47 rfl rfl rfl (by omega) (hu _ _ (by decide)) d_Mo_runs_15 rfl ?_
      refine x_bipush (q := 20) (v := nI 18) hC d_Mo_runs_18 (by decide) rfl ?_
      refine x_iload_n (q := 21) hC d_Mo_runs_20 rfl rfl rfl ?_
      refine x_imul (q := 22) (z := nI (18 * k)) hC d_Mo_runs_21 (pk_mul _ _) rfl ?_
      refine x_iload_n (q := 23) hC d_Mo_runs_22 rfl rfl rfl ?_
      refine x_iadd (q := 24) (z := nI ((18 * k) + st)) hC d_Mo_runs_23 (nI_add _ _) rfl ?_
      refine x_iald (q := 25) (p := 198) hC ((18 * k) + st) rfl (by omega) rfl (by omega) (by decide) d_Mo_runs_24 rfl ?_
      refine x_aload_n (q := 26) hC d_Mo_runs_25 rfl rfl rfl ?_
      refine x_geti (q := 29) (p := 185) (j := 1) hC f_Mo_112 rfl rfl (by omega) d_Mo_runs_26 rfl ?_
      refine x_icmp_le (tgt := 36) (q := 32) hC d_Mo_runs_29 (by decide) rfl (fun h29 => ?_) (fun h29 => ?_)
      · skip
        refine x_iconst (q := 37) (v := nI 0) hC d_Mo_runs_36 (by decide) rfl ?_
        refine x_istore_n (q := 38) (L1 := [(2, .int (nI 0)), (3, .int (nI k)), (0, .ref 185), (1, .int (nI st))]) hC d_Mo_runs_37 rfl (by decide) rfl rfl ?_
        refine x_iinc (q := 41) (y := nI (k + 1)) (L1 := [(3, .int (nI (k + 1))), (2, .int (nI 0)), (0, .ref 185), (1, .int (nI st))]) hC d_Mo_runs_38 rfl (mx_inc k) (by decide) rfl rfl ?_
        refine x_goto (tgt := 4) hC d_Mo_runs_41 (by decide) ?_
        refine x_sub (L1 := [(3, .int (nI (k + 1))), (2, .int (nI 0)), (0, .ref 185), (1, .int (nI st))]) [0, 1, 2, 3] rfl (mx_eqG ?_ rfl ?_ hN3)
        · rw [Mo_ru1, if_neg (not_or.mpr (And.intro (not_not_intro h11) (Int32.not_lt.mpr h29)))]
        · rfl
      · skip
        refine x_iconst (q := 33) (v := nI 1) hC d_Mo_runs_32 (by decide) rfl ?_
        refine x_goto (tgt := 37) hC d_Mo_runs_33 (by decide) ?_
        refine x_istore_n (q := 38) (L1 := [(2, .int (nI 1)), (3, .int (nI k)), (0, .ref 185), (1, .int (nI st))]) hC d_Mo_runs_37 rfl (by decide) rfl rfl ?_
        refine x_iinc (q := 41) (y := nI (k + 1)) (L1 := [(3, .int (nI (k + 1))), (2, .int (nI 1)), (0, .ref 185), (1, .int (nI st))]) hC d_Mo_runs_38 rfl (mx_inc k) (by decide) rfl rfl ?_
        refine x_goto (tgt := 4) hC d_Mo_runs_41 (by decide) ?_
        refine x_sub (L1 := [(3, .int (nI (k + 1))), (2, .int (nI 1)), (0, .ref 185), (1, .int (nI st))]) [0, 1, 2, 3] rfl (mx_eqG ?_ rfl ?_ hN3)
        · rw [Mo_ru1, if_pos (Or.inr (Int32.not_le.mp h29))]
        · rfl
  · intro hx4
    generalize e6 : mx_lp 6 (Mo_ru1 st mi) (nI 0) = a5 at hx4 ⊢
    refine x_iload_n (q := 5) hC d_Mo_runs_4 rfl rfl rfl ?_
    refine x_bipush (q := 7) (v := nI 6) hC d_Mo_runs_5 (by decide) rfl ?_
    refine x_icmp_ge (tgt := 44) (q := 10) hC d_Mo_runs_7 (by decide) rfl (fun _ => ?_) (fun h => absurd (nI_le (Nat.le_refl _) (by decide)) h)
    refine x_iload_n (q := 45) hC d_Mo_runs_44 rfl rfl rfl ?_
    subst e6
    exact x_iret hC rfl (nar01 (Mo_ru01 (st := st) (m := mi))) ⟨rfl, rfl⟩ (by decide) (by decide) d_Mo_runs_45
set_option maxRecDepth 100000 in
set_option maxHeartbeats 400000 in
theorem c_Mo_refused {Γ : mx_X} {lau : Launch} {nx : Nat} {u : Nat → Nat → Bool} {mi : mx_Mm} {s g : Int32} (hnx : 214 ≤ nx) (hu : ∀ p k, 2 ≤ p → u p k = true)  : mx_C Γ lau M_Mo_refused [.ref 185, .int s, .int g] (nx, u, mi) (fun ρ τ => ρ = some (.int (bz (Mo_rf s g mi))) ∧ τ = (nx, u, mi)) := by
  refine mx_C.intro (by decide) rfl (Nat.le_of_ble_eq_true rfl) (fun κ _ hC => ?_)
  show mx_G Γ κ _ _ 0 [(0, .ref 185), (1, .int s), (2, .int g)] [] (nx, u, mi) 0 0
  refine x_iload_n (q := 1) hC d_Mo_refused_0 rfl rfl rfl ?_
  refine x_callS (q := 4) (A := [.int s]) (S := []) (c1 := 0) (s1 := 0) hC (c_Mo_router (x := s)) s_Mo_refused_99 rfl rfl rfl (Nat.le_of_ble_eq_true rfl) rfl rfl (by decide) (by decide) d_Mo_refused_1 rfl (fun r τ hP => ?_)
  obtain ⟨rfl, rfl⟩ := hP
  show mx_G Γ κ _ _ 4 [(0, .ref 185), (1, .int s), (2, .int g)] [.int (bz (rt s))] (nx, u, mi) 0 0
  refine x_if_eq (tgt := 14) (q := 7) hC d_Mo_refused_4 (by decide) rfl (fun h4 => ?_) (fun h4 => ?_)
  · have h4 := bz_0 h4
    refine x_iconst (q := 15) (v := nI 1) hC d_Mo_refused_14 (by decide) rfl ?_
    exact x_iret hC rfl rfl ⟨bz_t (Or.inl (fun q => h4 q.1)), rfl⟩ (by decide) (by decide) d_Mo_refused_15
  · have h4 := bz_1 h4
    obtain ⟨es, hs⟩ := in_tn h4 (by decide)
    refine mx_eqG (L1 := [(0, .ref 185), (1, .int (nI (tn s))), (2, .int g)]) (by rw [← es]) rfl rfl ?_
    refine x_iload_n (q := 8) hC d_Mo_refused_7 rfl rfl rfl ?_
    refine x_callS (q := 11) (A := [.int g]) (S := []) (c1 := 0) (s1 := 0) hC (c_Mo_isGroup (x := g)) s_Mo_refused_115 rfl rfl rfl (Nat.le_of_ble_eq_true rfl) rfl rfl (by decide) (by decide) d_Mo_refused_8 rfl (fun r τ hP => ?_)
    obtain ⟨rfl, rfl⟩ := hP
    show mx_G Γ κ _ _ 11 [(0, .ref 185), (1, .int (nI (tn s))), (2, .int g)] [.int (bz (gp g))] (nx, u, mi) 0 0
    refine x_if_ne (tgt := 16) (q := 14) hC d_Mo_refused_11 (by decide) rfl (fun h11 => ?_) (fun h11 => ?_)
    · have h11 := bz_1 h11
      obtain ⟨eg, hg⟩ := in_tn h11 (by decide)
      refine mx_eqG (L1 := [(0, .ref 185), (1, .int (nI (tn s))), (2, .int (nI (tn g)))]) (by rw [← eg]) rfl rfl ?_
      refine x_iconst (q := 17) (v := nI 0) hC d_Mo_refused_16 (by decide) rfl ?_
      refine x_istore_n (q := 18) (L1 := [(3, .int (nI 0)), (0, .ref 185), (1, .int (nI (tn s))), (2, .int (nI (tn g)))]) hC d_Mo_refused_17 rfl (by decide) rfl rfl ?_
      refine x_iconst (q := 19) (v := nI 0) hC d_Mo_refused_18 (by decide) rfl ?_
      refine x_istore (q := 21) (L1 := [(4, .int (nI 0)), (3, .int (nI 0)), (0, .ref 185), (1, .int (nI (tn s))), (2, .int (nI (tn g)))]) hC d_Mo_refused_19 (by decide) rfl rfl ?_
      refine x_sub (L1 := [(4, .int (nI 0)), (3, .int (nI 0)), (0, .ref 185), (1, .int (nI (tn s))), (2, .int (nI (tn g)))]) [0, 1, 2, 3, 4] rfl ?_
      refine mx_loopG (N := 18) (Hd := fun i c => mx_G Γ κ _ _ 21 [(4, .int (nI i)), (3, .int (nI c)), (0, .ref 185), (1, .int (nI (tn s))), (2, .int (nI (tn g)))] [] (nx, u, mi) 0 0) (Mo_o1 mi) (fun _ _ => True) (m := 0) trivial ?_ ?_ ?_
      · exact fun _ _ _ _ => trivial
      · intro i c hl1 hI2 hN3
        refine x_iload (q := 23) hC d_Mo_refused_21 rfl rfl ?_
        refine x_bipush (q := 25) (v := nI 18) hC d_Mo_refused_23 (by decide) rfl ?_
        refine x_icmp_ge (tgt := 51) (q := 28) hC d_Mo_refused_25 (by decide) rfl (fun h => absurd h (nI_ge hl1 (by decide))) (fun _ => ?_)
        refine x_aload_n (q := 29) hC d_Mo_refused_28 rfl rfl rfl ?_
        refine x_iload (q := 31) hC d_Mo_refused_29 rfl rfl ?_
        refine x_callV (q := 34) (p := 185) (A := [.int (nI i)]) (S := []) (c1 := 0) (s1 := 0) hC (c_Mo_runs (st := i) (by omega) hu (by omega) ) s_Mo_refused_161 rfl (by omega) rfl rfl rfl (Nat.le_of_ble_eq_true rfl) rfl rfl (by decide) (by decide) d_Mo_refused_31 rfl (fun r τ hP => ?_)
        obtain ⟨rfl, rfl⟩ := hP
        show mx_G Γ κ _ _ 34 [(4, .int (nI i)), (3, .int (nI c)), (0, .ref 185), (1, .int (nI (tn s))), (2, .int (nI (tn g)))] [.int (Mo_ru i mi)] (nx, u, mi) 0 0
        refine x_if_eq (tgt := 43) (q := 37) hC d_Mo_refused_34 (by decide) rfl (fun h34 => ?_) (fun h34 => ?_)
        · skip
          refine x_iload_n (q := 44) hC d_Mo_refused_43 rfl rfl rfl ?_
          refine x_istore_n (q := 45) (L1 := [(3, .int (nI c)), (4, .int (nI i)), (0, .ref 185), (1, .int (nI (tn s))), (2, .int (nI (tn g)))]) hC d_Mo_refused_44 rfl (by decide) rfl rfl ?_
          refine x_iinc (q := 48) (y := nI (i + 1)) (L1 := [(4, .int (nI (i + 1))), (3, .int (nI c)), (0, .ref 185), (1, .int (nI (tn s))), (2, .int (nI (tn g)))]) hC d_Mo_refused_45 rfl (mx_inc i) (by decide) rfl rfl ?_
          refine x_goto (tgt := 21) hC d_Mo_refused_48 (by decide) ?_
          refine x_sub (L1 := [(4, .int (nI (i + 1))), (3, .int (nI c)), (0, .ref 185), (1, .int (nI (tn s))), (2, .int (nI (tn g)))]) [0, 1, 2, 3, 4] rfl (mx_eqG ?_ rfl ?_ hN3)
          · rw [Mo_o1, if_neg (not_not_intro h34)]
          · rfl
        · skip
          refine x_iload_n (q := 38) hC d_Mo_refused_37 rfl rfl rfl ?_
          refine x_iconst (q := 39) (v := nI 1) hC d_Mo_refused_38 (by decide) rfl ?_
          refine x_iadd (q := 40) (z := nI (c + 1)) hC d_Mo_refused_39 (nI_add _ _) rfl ?_
          refine x_goto (tgt := 44) hC d_Mo_refused_40 (by decide) ?_
          refine x_istore_n (q := 45) (L1 := [(3, .int (nI (c + 1))), (4, .int (nI i)), (0, .ref 185), (1, .int (nI (tn s))), (2, .int (nI (tn g)))]) hC d_Mo_refused_44 rfl (by decide) rfl rfl ?_
          refine x_iinc (q := 48) (y := nI (i + 1)) (L1 := [(4, .int (nI (i + 1))), (3, .int (nI (c + 1))), (0, .ref 185), (1, .int (nI (tn s))), (2, .int (nI (tn g)))]) hC d_Mo_refused_45 rfl (mx_inc i) (by decide) rfl rfl ?_
          refine x_goto (tgt := 21) hC d_Mo_refused_48 (by decide) ?_
          refine x_sub (L1 := [(4, .int (nI (i + 1))), (3, .int (nI (c + 1))), (0, .ref 185), (1, .int (nI (tn s))), (2, .int (nI (tn g)))]) [0, 1, 2, 3, 4] rfl (mx_eqG ?_ rfl ?_ hN3)
          · rw [Mo_o1, if_pos h34]
          · rfl
      · intro hx4
        generalize e6 : mx_lp 18 (Mo_o1 mi) 0 = a5 at hx4 ⊢
        refine x_iload (q := 23) hC d_Mo_refused_21 rfl rfl ?_
        refine x_bipush (q := 25) (v := nI 18) hC d_Mo_refused_23 (by decide) rfl ?_
        refine x_icmp_ge (tgt := 51) (q := 28) hC d_Mo_refused_25 (by decide) rfl (fun _ => ?_) (fun h => absurd (nI_le (Nat.le_refl _) (by decide)) h)
        refine x_aload_n (q := 52) hC d_Mo_refused_51 rfl rfl rfl ?_
        refine x_iconst (q := 53) (v := nI 3) hC d_Mo_refused_52 (by decide) rfl ?_
        refine x_iload_n (q := 54) hC d_Mo_refused_53 rfl rfl rfl ?_
        refine x_imul (q := 55) (z := nI (3 * (tn s))) hC d_Mo_refused_54 (pk_mul _ _) rfl ?_
        refine x_iload_n (q := 56) hC d_Mo_refused_55 rfl rfl rfl ?_
        refine x_iadd (q := 57) (z := nI ((3 * (tn s)) + (tn g))) hC d_Mo_refused_56 (nI_add _ _) rfl ?_
        refine x_callV (q := 60) (p := 185) (A := [.int (nI ((3 * (tn s)) + (tn g)))]) (S := []) (c1 := 0) (s1 := 0) hC (c_Mo_runs (st := (3 * (tn s)) + (tn g)) (by omega) hu (by omega) ) s_Mo_refused_161 rfl (by omega) rfl rfl rfl (Nat.le_of_ble_eq_true rfl) rfl rfl (by decide) (by decide) d_Mo_refused_57 rfl (fun r τ hP => ?_)
        obtain ⟨rfl, rfl⟩ := hP
        show mx_G Γ κ _ _ 60 [(4, .int (nI 18)), (3, .int (nI a5)), (0, .ref 185), (1, .int (nI (tn s))), (2, .int (nI (tn g)))] [.int (Mo_ru ((3 * (tn s)) + (tn g)) mi)] (nx, u, mi) 0 0
        refine x_if_ne (tgt := 72) (q := 63) hC d_Mo_refused_60 (by decide) rfl (fun h60 => ?_) (fun h60 => ?_)
        · skip
          refine x_iconst (q := 73) (v := nI 0) hC d_Mo_refused_72 (by decide) rfl ?_
          subst e6
          exact x_iret hC rfl rfl ⟨bz_f (fun q => q.elim (fun z => z (And.intro h4 h11)) (fun z => h60 z.1)), rfl⟩ (by decide) (by decide) d_Mo_refused_73
        · skip
          refine x_iload_n (q := 64) hC d_Mo_refused_63 rfl rfl rfl ?_
          refine x_iconst (q := 65) (v := nI 5) hC d_Mo_refused_64 (by decide) rfl ?_
          refine x_icmp_lt (tgt := 72) (q := 68) hC d_Mo_refused_65 (by decide) rfl (fun h65 => ?_) (fun h65 => ?_)
          · skip
            refine x_iconst (q := 73) (v := nI 0) hC d_Mo_refused_72 (by decide) rfl ?_
            subst e6
            exact x_iret hC rfl rfl ⟨bz_f (fun q => q.elim (fun z => z (And.intro h4 h11)) (fun z => z.2 h65)), rfl⟩ (by decide) (by decide) d_Mo_refused_73
          · skip
            refine x_iconst (q := 69) (v := nI 1) hC d_Mo_refused_68 (by decide) rfl ?_
            refine x_goto (tgt := 73) hC d_Mo_refused_69 (by decide) ?_
            subst e6
            exact x_iret hC rfl rfl ⟨bz_t (Or.inr (And.intro h60 h65)), rfl⟩ (by decide) (by decide) d_Mo_refused_73
    · have h11 := bz_0 h11
      refine x_iconst (q := 15) (v := nI 1) hC d_Mo_refused_14 (by decide) rfl ?_
      exact x_iret hC rfl rfl ⟨bz_t (Or.inl (fun q => h11 q.2)), rfl⟩ (by decide) (by decide) d_Mo_refused_15
set_option maxRecDepth 100000 in
set_option maxHeartbeats 400000 in
theorem c_Mo_register {Γ : mx_X} {lau : Launch} {nx : Nat} {u : Nat → Nat → Bool} {mi : mx_Mm} {r s st : Nat} (hnx : 214 ≤ nx) (hu : ∀ p k, 2 ≤ p → u p k = true) (hs : s < 6) (hst : st < 18) (hr : r < 6) (hm : mi 185 0 = nI r) : mx_C Γ lau M_Mo_register [.ref 185, .int (nI s), .int (nI st)] (nx, u, mi) (fun ρ τ => ρ = some (.int (bz (Mo_rc r s st mi))) ∧ τ = (nx, u, Mo_reg r s st mi)) := by
  refine mx_C.intro (by decide) rfl (Nat.le_of_ble_eq_true rfl) (fun κ _ hC => ?_)
  show mx_G Γ κ _ _ 0 [(0, .ref 185), (1, .int (nI s)), (2, .int (nI st))] [] (nx, u, mi) 0 0
  refine x_iload_n (q := 1) hC d_Mo_register_0 rfl rfl rfl ?_
  refine x_aload_n (q := 2) hC d_Mo_register_1 rfl rfl rfl ?_
  refine x_geti (q := 5) (p := 185) (j := 0) hC f_Mo_103 rfl rfl (by omega) d_Mo_register_2 rfl ?_
  refine mx_eqG (S1 := [.int (nI r), .int (nI s)]) rfl (by exact congrArg (fun z => Value.int z :: ([.int (nI s)] : List Value)) (show mi 185 0 = nI r from hm)) rfl ?_
  refine x_icmp_eq (tgt := 41) (q := 8) hC d_Mo_register_5 (by decide) rfl (fun h5 => ?_) (fun h5 => ?_)
  · skip
    refine x_iconst (q := 42) (v := nI 0) hC d_Mo_register_41 (by decide) rfl ?_
    exact x_iret hC rfl rfl ⟨bz_f (fun q => q.1 h5), pr (it_f (fun q => q.1 h5) rfl)⟩ (by decide) (by decide) d_Mo_register_42
  · skip
    refine x_aload_n (q := 9) hC d_Mo_register_8 rfl rfl rfl ?_
    refine x_getr (q := 12) (p := 185) (j := 3) (r := 187) hC f_Mo_13 rfl rfl rfl (by omega) (hu _ _ (by decide)) d_Mo_register_9 rfl ?_
    refine x_bipush (q := 14) (v := nI 6) hC d_Mo_register_12 (by decide) rfl ?_
    refine x_iload_n (q := 15) hC d_Mo_register_14 rfl rfl rfl ?_
    refine x_imul (q := 16) (z := nI (6 * s)) hC d_Mo_register_15 (pk_mul _ _) rfl ?_
    refine x_aload_n (q := 17) hC d_Mo_register_16 rfl rfl rfl ?_
    refine x_geti (q := 20) (p := 185) (j := 0) hC f_Mo_103 rfl rfl (by omega) d_Mo_register_17 rfl ?_
    refine mx_eqG (S1 := [.int (nI r), .int (nI (6 * s)), .ref 187]) rfl (by exact congrArg (fun z => Value.int z :: ([.int (nI (6 * s)), .ref 187] : List Value)) (show mi 185 0 = nI r from hm)) rfl ?_
    refine x_iadd (q := 21) (z := nI ((6 * s) + r)) hC d_Mo_register_20 (nI_add _ _) rfl ?_
    refine x_iald (q := 22) (p := 187) hC ((6 * s) + r) rfl (by omega) rfl (by omega) (by decide) d_Mo_register_21 rfl ?_
    refine x_sipush (q := 25) (v := nI 1000) hC d_Mo_register_22 (by decide) rfl ?_
    refine x_icmp_ge (tgt := 41) (q := 28) hC d_Mo_register_25 (by decide) rfl (fun h25 => ?_) (fun h25 => ?_)
    · skip
      refine x_iconst (q := 42) (v := nI 0) hC d_Mo_register_41 (by decide) rfl ?_
      exact x_iret hC rfl rfl ⟨bz_f (fun q => q.2.1 h25), pr (it_f (fun q => q.2.1 h25) rfl)⟩ (by decide) (by decide) d_Mo_register_42
    · skip
      refine x_aload_n (q := 29) hC d_Mo_register_28 rfl rfl rfl ?_
      refine x_getr (q := 32) (p := 185) (j := 16) (r := 200) hC f_Mo_53 rfl rfl rfl (by omega) (hu _ _ (by decide)) d_Mo_register_29 rfl ?_
      refine x_iload_n (q := 33) hC d_Mo_register_32 rfl rfl rfl ?_
      refine x_iald (q := 34) (p := 200) hC st rfl (by omega) rfl (by omega) (by decide) d_Mo_register_33 rfl ?_
      refine x_aload_n (q := 35) hC d_Mo_register_34 rfl rfl rfl ?_
      refine x_geti (q := 38) (p := 185) (j := 1) hC f_Mo_112 rfl rfl (by omega) d_Mo_register_35 rfl ?_
      refine x_icmp_le (tgt := 43) (q := 41) hC d_Mo_register_38 (by decide) rfl (fun h38 => ?_) (fun h38 => ?_)
      · skip
        refine x_aload_n (q := 44) hC d_Mo_register_43 rfl rfl rfl ?_
        refine x_getr (q := 47) (p := 185) (j := 17) (r := 201) hC f_Mo_56 rfl rfl rfl (by omega) (hu _ _ (by decide)) d_Mo_register_44 rfl ?_
        refine x_bipush (q := 49) (v := nI 6) hC d_Mo_register_47 (by decide) rfl ?_
        refine x_aload_n (q := 50) hC d_Mo_register_49 rfl rfl rfl ?_
        refine x_getr (q := 53) (p := 185) (j := 17) (r := 201) hC f_Mo_56 rfl rfl rfl (by omega) (hu _ _ (by decide)) d_Mo_register_50 rfl ?_
        refine x_bipush (q := 55) (v := nI 6) hC d_Mo_register_53 (by decide) rfl ?_
        refine x_iald (q := 56) (p := 201) hC 6 rfl (by omega) rfl (by omega) (by decide) d_Mo_register_55 rfl ?_
        refine x_iconst (q := 57) (v := nI 1) hC d_Mo_register_56 (by decide) rfl ?_
        refine x_iadd (q := 58) (z := (mi 201 6) + (nI 1)) hC d_Mo_register_57 rfl rfl ?_
        refine x_iast (q := 59) (p := 201) hC 6 rfl (by omega) (by omega) rfl (by omega) (by decide) d_Mo_register_58 rfl ?_
        refine x_aload_n (q := 60) hC d_Mo_register_59 rfl rfl rfl ?_
        refine x_getr (q := 63) (p := 185) (j := 14) (r := 198) hC f_Mo_47 rfl rfl rfl (by omega) (hu _ _ (by decide)) d_Mo_register_60 rfl ?_
        refine x_bipush (q := 65) (v := nI 18) hC d_Mo_register_63 (by decide) rfl ?_
        refine x_aload_n (q := 66) hC d_Mo_register_65 rfl rfl rfl ?_
        refine x_geti (q := 69) (p := 185) (j := 0) hC f_Mo_103 rfl rfl (by omega) d_Mo_register_66 rfl ?_
        refine mx_eqG (S1 := [.int (nI r), .int (nI 18), .ref 198]) rfl (by exact congrArg (fun z => Value.int z :: ([.int (nI 18), .ref 198] : List Value)) (show (mx_up mi 201 6 ((mi 201 6) + (nI 1))) 185 0 = nI r from ((up_neP (by decide)).trans hm))) rfl ?_
        refine x_imul (q := 70) (z := nI (18 * r)) hC d_Mo_register_69 (pk_mul _ _) rfl ?_
        refine x_iload_n (q := 71) hC d_Mo_register_70 rfl rfl rfl ?_
        refine x_iadd (q := 72) (z := nI ((18 * r) + st)) hC d_Mo_register_71 (nI_add _ _) rfl ?_
        refine x_aload_n (q := 73) hC d_Mo_register_72 rfl rfl rfl ?_
        refine x_geti (q := 76) (p := 185) (j := 1) hC f_Mo_112 rfl rfl (by omega) d_Mo_register_73 rfl ?_
        refine x_bipush (q := 78) (v := nI 8) hC d_Mo_register_76 (by decide) rfl ?_
        refine x_iadd (q := 79) (z := ((mx_up mi 201 6 ((mi 201 6) + (nI 1))) 185 1) + (nI 8)) hC d_Mo_register_78 rfl rfl ?_
        refine x_iast (q := 80) (p := 198) hC ((18 * r) + st) rfl (by omega) (by omega) rfl (by omega) (by decide) d_Mo_register_79 rfl ?_
        refine mx_nr (fun mK eK => ?_)
        have eK' : Mo_keep r st (Mo_cnt 6 mi) = mK := eK
        have hmK : mK 185 0 = nI r := by rw [← eK']; show (mx_up (mx_up mi 201 6 _) 198 _ _) 185 0 = nI r; rw [up_neP (by decide), up_neP (by decide)]; exact hm
        refine x_aload_n (q := 81) hC d_Mo_register_80 rfl rfl rfl ?_
        refine x_aload_n (q := 82) hC d_Mo_register_81 rfl rfl rfl ?_
        refine x_geti (q := 85) (p := 185) (j := 0) hC f_Mo_103 rfl rfl (by omega) d_Mo_register_82 rfl ?_
        refine mx_eqG (S1 := [.int (nI r), .ref 185]) rfl (by exact congrArg (fun z => Value.int z :: ([.ref 185] : List Value)) (show mK 185 0 = nI r from hmK)) rfl ?_
        refine x_iload_n (q := 86) hC d_Mo_register_85 rfl rfl rfl ?_
        refine x_iconst (q := 87) (v := nI 1) hC d_Mo_register_86 (by decide) rfl ?_
        refine x_callV (q := 90) (p := 185) (A := [.int (nI r), .int (nI st), .int (nI 1)]) (S := []) (c1 := 0) (s1 := 0) hC (c_Mo_many1 (n := r) (st := st) (by omega) hu (by omega) (by omega)) s_Mo_register_140 rfl (by omega) rfl rfl rfl (Nat.le_of_ble_eq_true rfl) rfl rfl (by decide) (by decide) d_Mo_register_87 rfl (fun r τ hP => ?_)
        obtain ⟨rfl, rfl⟩ := hP
        show mx_G Γ κ _ _ 90 [(0, .ref 185), (1, .int (nI s)), (2, .int (nI st))] [.int (nI (Mo_m1 r st mK))] (nx, u, mK) 0 0
        refine x_istore_n (q := 91) (L1 := [(3, .int (nI (Mo_m1 r st mK))), (0, .ref 185), (1, .int (nI s)), (2, .int (nI st))]) hC d_Mo_register_90 rfl (by decide) rfl rfl ?_
        have J1 : mx_G Γ κ M_Mo_register (MQ (mx_b κ) (mx_Qc Γ (fun ρ τ => ρ = some (.int (bz (Mo_rc r s st mi))) ∧ τ = (nx, u, Mo_reg r s st mi))) (mx_a κ) (mx_s κ) M_Mo_register.2.2.2.2.cells M_Mo_register.2.2.2.2.slots (mx_fr Γ)) 141 [(0, .ref 185)] [] (nx, u, Mo_rg2 r st mK) 0 0 := by
          refine x_iconst (q := 142) (v := nI 1) hC d_Mo_register_141 (by decide) rfl ?_
          subst eK
          exact x_iret hC rfl rfl ⟨bz_t (And.intro h5 (And.intro h25 h38)), pr (it_t (And.intro h5 (And.intro h25 h38)) rfl)⟩ (by decide) (by decide) d_Mo_register_142
        refine x_aload_n (q := 92) hC d_Mo_register_91 rfl rfl rfl ?_
        refine x_getr (q := 95) (p := 185) (j := 15) (r := 199) hC f_Mo_50 rfl rfl rfl (by omega) (hu _ _ (by decide)) d_Mo_register_92 rfl ?_
        refine x_bipush (q := 97) (v := nI 18) hC d_Mo_register_95 (by decide) rfl ?_
        refine x_aload_n (q := 98) hC d_Mo_register_97 rfl rfl rfl ?_
        refine x_geti (q := 101) (p := 185) (j := 0) hC f_Mo_103 rfl rfl (by omega) d_Mo_register_98 rfl ?_
        refine mx_eqG (S1 := [.int (nI r), .int (nI 18), .ref 199]) rfl (by exact congrArg (fun z => Value.int z :: ([.int (nI 18), .ref 199] : List Value)) (show mK 185 0 = nI r from hmK)) rfl ?_
        refine x_imul (q := 102) (z := nI (18 * r)) hC d_Mo_register_101 (pk_mul _ _) rfl ?_
        refine x_iload_n (q := 103) hC d_Mo_register_102 rfl rfl rfl ?_
        refine x_iadd (q := 104) (z := nI ((18 * r) + st)) hC d_Mo_register_103 (nI_add _ _) rfl ?_
        refine x_zald (q := 105) (p := 199) hC ((18 * r) + st) rfl (by omega) rfl (by omega) (by decide) d_Mo_register_104 rfl ?_
        refine x_if_ne (tgt := 112) (q := 108) hC d_Mo_register_105 (by decide) rfl (fun h105 => ?_) (fun h105 => ?_)
        · skip
          refine x_aload_n (q := 113) hC d_Mo_register_112 rfl rfl rfl ?_
          refine x_getr (q := 116) (p := 185) (j := 17) (r := 201) hC f_Mo_56 rfl rfl rfl (by omega) (hu _ _ (by decide)) d_Mo_register_113 rfl ?_
          refine x_bipush (q := 118) (v := nI 7) hC d_Mo_register_116 (by decide) rfl ?_
          refine x_aload_n (q := 119) hC d_Mo_register_118 rfl rfl rfl ?_
          refine x_getr (q := 122) (p := 185) (j := 17) (r := 201) hC f_Mo_56 rfl rfl rfl (by omega) (hu _ _ (by decide)) d_Mo_register_119 rfl ?_
          refine x_bipush (q := 124) (v := nI 7) hC d_Mo_register_122 (by decide) rfl ?_
          refine x_iald (q := 125) (p := 201) hC 7 rfl (by omega) rfl (by omega) (by decide) d_Mo_register_124 rfl ?_
          refine x_iconst (q := 126) (v := nI 1) hC d_Mo_register_125 (by decide) rfl ?_
          refine x_iadd (q := 127) (z := (mK 201 7) + (nI 1)) hC d_Mo_register_126 rfl rfl ?_
          refine x_iast (q := 128) (p := 201) hC 7 rfl (by omega) (by omega) rfl (by omega) (by decide) d_Mo_register_127 rfl ?_
          refine x_aload_n (q := 129) hC d_Mo_register_128 rfl rfl rfl ?_
          refine x_getr (q := 132) (p := 185) (j := 16) (r := 200) hC f_Mo_53 rfl rfl rfl (by omega) (hu _ _ (by decide)) d_Mo_register_129 rfl ?_
          refine x_iload_n (q := 133) hC d_Mo_register_132 rfl rfl rfl ?_
          refine x_aload_n (q := 134) hC d_Mo_register_133 rfl rfl rfl ?_
          refine x_geti (q := 137) (p := 185) (j := 1) hC f_Mo_112 rfl rfl (by omega) d_Mo_register_134 rfl ?_
          refine x_bipush (q := 139) (v := nI 6) hC d_Mo_register_137 (by decide) rfl ?_
          refine x_iadd (q := 140) (z := ((mx_up mK 201 7 ((mK 201 7) + (nI 1))) 185 1) + (nI 6)) hC d_Mo_register_139 rfl rfl ?_
          refine x_iast (q := 141) (p := 200) hC st rfl (by omega) (by omega) rfl (by omega) (by decide) d_Mo_register_140 rfl ?_
          exact x_sub (L1 := [(0, .ref 185)]) [1] rfl (mx_eqG rfl rfl (pr (by subst eK; exact it_t (Or.inl h105) rfl)) J1)
        · skip
          refine x_iload_n (q := 109) hC d_Mo_register_108 rfl rfl rfl ?_
          refine x_if_ne (tgt := 141) (q := 112) hC d_Mo_register_109 (by decide) rfl (fun h109 => ?_) (fun h109 => ?_)
          · skip
            exact x_sub (L1 := [(0, .ref 185)]) [1] rfl (mx_eqG rfl rfl (pr (by subst eK; exact it_f (not_or.mpr (And.intro (not_not_intro h105) h109)) rfl)) J1)
          · skip
            refine x_aload_n (q := 113) hC d_Mo_register_112 rfl rfl rfl ?_
            refine x_getr (q := 116) (p := 185) (j := 17) (r := 201) hC f_Mo_56 rfl rfl rfl (by omega) (hu _ _ (by decide)) d_Mo_register_113 rfl ?_
            refine x_bipush (q := 118) (v := nI 7) hC d_Mo_register_116 (by decide) rfl ?_
            refine x_aload_n (q := 119) hC d_Mo_register_118 rfl rfl rfl ?_
            refine x_getr (q := 122) (p := 185) (j := 17) (r := 201) hC f_Mo_56 rfl rfl rfl (by omega) (hu _ _ (by decide)) d_Mo_register_119 rfl ?_
            refine x_bipush (q := 124) (v := nI 7) hC d_Mo_register_122 (by decide) rfl ?_
            refine x_iald (q := 125) (p := 201) hC 7 rfl (by omega) rfl (by omega) (by decide) d_Mo_register_124 rfl ?_
            refine x_iconst (q := 126) (v := nI 1) hC d_Mo_register_125 (by decide) rfl ?_
            refine x_iadd (q := 127) (z := (mK 201 7) + (nI 1)) hC d_Mo_register_126 rfl rfl ?_
            refine x_iast (q := 128) (p := 201) hC 7 rfl (by omega) (by omega) rfl (by omega) (by decide) d_Mo_register_127 rfl ?_
            refine x_aload_n (q := 129) hC d_Mo_register_128 rfl rfl rfl ?_
            refine x_getr (q := 132) (p := 185) (j := 16) (r := 200) hC f_Mo_53 rfl rfl rfl (by omega) (hu _ _ (by decide)) d_Mo_register_129 rfl ?_
            refine x_iload_n (q := 133) hC d_Mo_register_132 rfl rfl rfl ?_
            refine x_aload_n (q := 134) hC d_Mo_register_133 rfl rfl rfl ?_
            refine x_geti (q := 137) (p := 185) (j := 1) hC f_Mo_112 rfl rfl (by omega) d_Mo_register_134 rfl ?_
            refine x_bipush (q := 139) (v := nI 6) hC d_Mo_register_137 (by decide) rfl ?_
            refine x_iadd (q := 140) (z := ((mx_up mK 201 7 ((mK 201 7) + (nI 1))) 185 1) + (nI 6)) hC d_Mo_register_139 rfl rfl ?_
            refine x_iast (q := 141) (p := 200) hC st rfl (by omega) (by omega) rfl (by omega) (by decide) d_Mo_register_140 rfl ?_
            exact x_sub (L1 := [(0, .ref 185)]) [1] rfl (mx_eqG rfl rfl (pr (by subst eK; exact it_t (Or.inr h109) rfl)) J1)
      · skip
        refine x_iconst (q := 42) (v := nI 0) hC d_Mo_register_41 (by decide) rfl ?_
        exact x_iret hC rfl rfl ⟨bz_f (fun q => h38 q.2.2), pr (it_f (fun q => h38 q.2.2) rfl)⟩ (by decide) (by decide) d_Mo_register_42
theorem Mo_side_t {r s st n : Nat} {m : mx_Mm} (h : m 199 (18 * n + st) = 0) : Mo_side r s st n m = m 188 (6 * n + r) := if_pos h
theorem Mo_side_f {r s st n : Nat} {m : mx_Mm} (h : ¬ m 199 (18 * n + st) = 0) : Mo_side r s st n m = m 188 (6 * n + s) := if_neg h
theorem Mo_y1_ok {r s w : Nat} {m : mx_Mm} (h : Mo_ok r m) : Mo_ok r (Mo_y1 s w m) := h.upP (by omega)
theorem Mo_y2_ok {r r' st : Nat} {b : Prop} [Decidable b] {m : mx_Mm} (h : Mo_ok r m) : Mo_ok r (Mo_y2 r' st b m) := h.upP (by omega)
theorem Mo_po0_ok {r q : Nat} {m : mx_Mm} (h : Mo_ok r m) : Mo_ok r (Mo_po0 q m) := h.upP (by omega)
set_option maxRecDepth 100000 in
set_option maxHeartbeats 400000 in
theorem c_Mo_putOut {Γ : mx_X} {lau : Launch} {nx : Nat} {u : Nat → Nat → Bool} {mi : mx_Mm} {r q s st : Nat} (hnx : 214 ≤ nx) (hu : ∀ p k, 2 ≤ p → u p k = true) (hq : q < 6) (hs : s < 6) (hst : st < 18) (hr : r < 6) (hok : Mo_ok r mi) : mx_C Γ lau M_Mo_putOut [.ref 185, .int (nI q), .int (nI s), .int (nI st)] (nx, u, mi) (fun ρ τ => ρ = none ∧ τ = (nx, u, Mo_put r q s st mi)) := by
  refine mx_C.intro (by decide) rfl (Nat.le_of_ble_eq_true rfl) (fun κ _ hC => ?_)
  show mx_G Γ κ _ _ 0 [(0, .ref 185), (1, .int (nI q)), (2, .int (nI s)), (3, .int (nI st))] [] (nx, u, mi) 0 0
  refine x_aload_n (q := 1) hC d_Mo_putOut_0 rfl rfl rfl ?_
  refine x_getr (q := 4) (p := 185) (j := 24) (r := 204) hC f_Mo_65 rfl rfl rfl (by omega) (hu _ _ (by decide)) d_Mo_putOut_1 rfl ?_
  refine x_iload_n (q := 5) hC d_Mo_putOut_4 rfl rfl rfl ?_
  refine x_iconst (q := 6) (v := nI 1) hC d_Mo_putOut_5 (by decide) rfl ?_
  refine x_zast (q := 7) (p := 204) hC q rfl (by omega) (by omega) rfl (by omega) (by decide) rfl d_Mo_putOut_6 rfl ?_
  have J1 : mx_G Γ κ M_Mo_putOut (MQ (mx_b κ) (mx_Qc Γ (fun ρ τ => ρ = none ∧ τ = (nx, u, Mo_put r q s st mi))) (mx_a κ) (mx_s κ) M_Mo_putOut.2.2.2.2.cells M_Mo_putOut.2.2.2.2.slots (mx_fr Γ)) 35 [(0, .ref 185), (1, .int (nI q)), (2, .int (nI s)), (3, .int (nI st))] [] (nx, u, Mo_po1 q s st (Mo_po0 q mi)) 0 0 := by
    refine mx_nr (fun mj ej => ?_)
    have hJ : Mo_ok r mj := ej ▸ Mo_po1_ok (Mo_po0_ok hok)
    refine x_iconst (q := 36) (v := nI 0) hC d_Mo_putOut_35 (by decide) rfl ?_
    refine x_istore (q := 38) (L1 := [(4, .int (nI 0)), (0, .ref 185), (1, .int (nI q)), (2, .int (nI s)), (3, .int (nI st))]) hC d_Mo_putOut_36 (by decide) rfl rfl ?_
    refine x_sub (L1 := [(4, .int (nI 0)), (0, .ref 185), (1, .int (nI q)), (2, .int (nI s)), (3, .int (nI st))]) [0, 1, 2, 3, 4] rfl ?_
    refine mx_loop (N := 6) (Hd := fun n m2 => mx_G Γ κ _ _ 38 [(4, .int (nI n)), (0, .ref 185), (1, .int (nI q)), (2, .int (nI s)), (3, .int (nI st))] [] (nx, u, m2) 0 0) (Mo_po2 r q s st) (fun _ m => Mo_ok r m) hJ ?_ ?_ ?_
    · exact fun n m _ h => Mo_po2_ok h
    · intro n m2 hl3 hI4 hN5
      refine x_iload (q := 40) hC d_Mo_putOut_38 rfl rfl ?_
      refine x_bipush (q := 42) (v := nI 6) hC d_Mo_putOut_40 (by decide) rfl ?_
      refine x_icmp_ge (tgt := 200) (q := 45) hC d_Mo_putOut_42 (by decide) rfl (fun h => absurd h (nI_ge hl3 (by decide))) (fun _ => ?_)
      refine x_aload_n (q := 46) hC d_Mo_putOut_45 rfl rfl rfl ?_
      refine x_getr (q := 49) (p := 185) (j := 15) (r := 199) hC f_Mo_50 rfl rfl rfl (by omega) (hu _ _ (by decide)) d_Mo_putOut_46 rfl ?_
      refine x_bipush (q := 51) (v := nI 18) hC d_Mo_putOut_49 (by decide) rfl ?_
      refine x_iload_n (q := 52) hC d_Mo_putOut_51 rfl rfl rfl ?_
      refine x_imul (q := 53) (z := nI (18 * q)) hC d_Mo_putOut_52 (pk_mul _ _) rfl ?_
      refine x_iload_n (q := 54) hC d_Mo_putOut_53 rfl rfl rfl ?_
      refine x_iadd (q := 55) (z := nI ((18 * q) + st)) hC d_Mo_putOut_54 (nI_add _ _) rfl ?_
      refine x_zald (q := 56) (p := 199) hC ((18 * q) + st) rfl (by omega) rfl (by omega) (by decide) d_Mo_putOut_55 rfl ?_
      refine x_if_eq (tgt := 70) (q := 59) hC d_Mo_putOut_56 (by decide) rfl (fun h56 => ?_) (fun h56 => ?_)
      · skip
        refine x_aload_n (q := 71) hC d_Mo_putOut_70 rfl rfl rfl ?_
        refine x_iload_n (q := 72) hC d_Mo_putOut_71 rfl rfl rfl ?_
        refine x_iload (q := 74) hC d_Mo_putOut_72 rfl rfl ?_
        refine x_iload_n (q := 75) hC d_Mo_putOut_74 rfl rfl rfl ?_
        refine x_callV (q := 78) (p := 185) (A := [.int (nI q), .int (nI n), .int (nI st)]) (S := []) (c1 := 0) (s1 := 0) hC (c_Mo_inner (n := q) (k := n) (st := st) (by omega) hu (by omega) (by omega) (by omega) ) s_Mo_putOut_134 rfl (by omega) rfl rfl rfl (Nat.le_of_ble_eq_true rfl) rfl rfl (by decide) (by decide) d_Mo_putOut_75 rfl (fun r τ hP => ?_)
        obtain ⟨rfl, rfl⟩ := hP
        show mx_G Γ κ _ _ 78 [(4, .int (nI n)), (0, .ref 185), (1, .int (nI q)), (2, .int (nI s)), (3, .int (nI st))] [.int (bz (Mo_in q n st m2))] (nx, u, m2) 0 0
        refine x_istore (q := 80) (L1 := [(5, .int (bz (Mo_in q n st m2))), (4, .int (nI n)), (0, .ref 185), (1, .int (nI q)), (2, .int (nI s)), (3, .int (nI st))]) hC d_Mo_putOut_78 (by decide) rfl rfl ?_
        refine x_iload (q := 82) hC d_Mo_putOut_80 rfl rfl ?_
        refine x_if_eq (tgt := 194) (q := 85) hC d_Mo_putOut_82 (by decide) rfl (fun h82 => ?_) (fun h82 => ?_)
        · have h82 := bz_0 h82
          refine x_iinc (q := 197) (y := nI (n + 1)) (L1 := [(4, .int (nI (n + 1))), (5, .int (bz (Mo_in q n st m2))), (0, .ref 185), (1, .int (nI q)), (2, .int (nI s)), (3, .int (nI st))]) hC d_Mo_putOut_194 rfl (mx_inc n) (by decide) rfl rfl ?_
          refine x_goto (tgt := 38) hC d_Mo_putOut_197 (by decide) ?_
          exact x_close hN5 [0, 2, 3, 4, 5] rfl (by exact it_f (fun z => z.1.elim (fun y => h82 y.2) (fun y => y.1 h56)) rfl)
        · have h82 := bz_1 h82
          refine x_iload (q := 87) hC d_Mo_putOut_85 rfl rfl ?_
          refine x_aload_n (q := 88) hC d_Mo_putOut_87 rfl rfl rfl ?_
          refine x_getr (q := 91) (p := 185) (j := 25) (r := 205) hC f_Mo_68 rfl rfl rfl (by omega) (hu _ _ (by decide)) d_Mo_putOut_88 rfl ?_
          refine x_iload_n (q := 92) hC d_Mo_putOut_91 rfl rfl rfl ?_
          refine x_iald (q := 93) (p := 205) hC q rfl (by omega) rfl (by omega) (by decide) d_Mo_putOut_92 rfl ?_
          refine x_icmp_eq (tgt := 194) (q := 96) hC d_Mo_putOut_93 (by decide) rfl (fun h93 => ?_) (fun h93 => ?_)
          · skip
            refine x_iinc (q := 197) (y := nI (n + 1)) (L1 := [(4, .int (nI (n + 1))), (5, .int (bz (Mo_in q n st m2))), (0, .ref 185), (1, .int (nI q)), (2, .int (nI s)), (3, .int (nI st))]) hC d_Mo_putOut_194 rfl (mx_inc n) (by decide) rfl rfl ?_
            refine x_goto (tgt := 38) hC d_Mo_putOut_197 (by decide) ?_
            exact x_close hN5 [0, 2, 3, 4, 5] rfl (by exact it_f (fun z => z.2 h93) rfl)
          · skip
            refine x_aload_n (q := 97) hC d_Mo_putOut_96 rfl rfl rfl ?_
            refine x_aload_n (q := 98) hC d_Mo_putOut_97 rfl rfl rfl ?_
            refine x_geti (q := 101) (p := 185) (j := 19) hC f_Mo_170 rfl rfl (by omega) d_Mo_putOut_98 rfl ?_
            refine x_iconst (q := 102) (v := nI 1) hC d_Mo_putOut_101 (by decide) rfl ?_
            refine x_iadd (q := 103) (z := (m2 185 19) + (nI 1)) hC d_Mo_putOut_102 rfl rfl ?_
            refine x_puti (q := 106) (p := 185) (j := 19) hC f_Mo_170 y_Mo rfl rfl rfl rfl rfl (by omega) (by decide) d_Mo_putOut_103 rfl ?_
            refine x_aload_n (q := 107) hC d_Mo_putOut_106 rfl rfl rfl ?_
            refine x_getr (q := 110) (p := 185) (j := 15) (r := 199) hC f_Mo_50 rfl rfl rfl (by omega) (hu _ _ (by decide)) d_Mo_putOut_107 rfl ?_
            refine x_bipush (q := 112) (v := nI 18) hC d_Mo_putOut_110 (by decide) rfl ?_
            refine x_iload (q := 114) hC d_Mo_putOut_112 rfl rfl ?_
            refine x_imul (q := 115) (z := nI (18 * n)) hC d_Mo_putOut_114 (pk_mul _ _) rfl ?_
            refine x_iload_n (q := 116) hC d_Mo_putOut_115 rfl rfl rfl ?_
            refine x_iadd (q := 117) (z := nI ((18 * n) + st)) hC d_Mo_putOut_116 (nI_add _ _) rfl ?_
            refine x_zald (q := 118) (p := 199) hC ((18 * n) + st) rfl (by omega) rfl (by omega) (by decide) d_Mo_putOut_117 rfl ?_
            refine x_if_eq (tgt := 136) (q := 121) hC d_Mo_putOut_118 (by decide) rfl (fun h118 => ?_) (fun h118 => ?_)
            · skip
              refine x_aload_n (q := 137) hC d_Mo_putOut_136 rfl rfl rfl ?_
              refine x_getr (q := 140) (p := 185) (j := 4) (r := 188) hC f_Mo_16 rfl rfl rfl (by omega) (hu _ _ (by decide)) d_Mo_putOut_137 rfl ?_
              refine x_bipush (q := 142) (v := nI 6) hC d_Mo_putOut_140 (by decide) rfl ?_
              refine x_iload (q := 144) hC d_Mo_putOut_142 rfl rfl ?_
              refine x_imul (q := 145) (z := nI (6 * n)) hC d_Mo_putOut_144 (pk_mul _ _) rfl ?_
              refine x_aload_n (q := 146) hC d_Mo_putOut_145 rfl rfl rfl ?_
              refine x_geti (q := 149) (p := 185) (j := 0) hC f_Mo_103 rfl rfl (by omega) d_Mo_putOut_146 rfl ?_
              refine mx_eqG (S1 := [.int (nI r), .int (nI (6 * n)), .ref 188]) rfl (by exact congrArg (fun z => Value.int z :: ([.int (nI (6 * n)), .ref 188] : List Value)) (show (mx_up m2 185 19 ((m2 185 19) + (nI 1))) 185 0 = nI r from ((up_ne (by decide)).trans hI4.1))) rfl ?_
              refine x_iadd (q := 150) (z := nI ((6 * n) + r)) hC d_Mo_putOut_149 (nI_add _ _) rfl ?_
              refine x_iald (q := 151) (p := 188) hC ((6 * n) + r) rfl (by omega) rfl (by omega) (by decide) d_Mo_putOut_150 rfl ?_
              refine x_istore (q := 153) (L1 := [(6, .int ((mx_up m2 185 19 ((m2 185 19) + (nI 1))) 188 ((6 * n) + r))), (5, .int (bz (Mo_in q n st m2))), (4, .int (nI n)), (0, .ref 185), (1, .int (nI q)), (2, .int (nI s)), (3, .int (nI st))]) hC d_Mo_putOut_151 (by decide) rfl rfl ?_
              refine x_iload (q := 155) hC d_Mo_putOut_153 rfl rfl ?_
              refine x_iload_n (q := 156) hC d_Mo_putOut_155 rfl rfl rfl ?_
              refine x_icmp_eq (tgt := 184) (q := 159) hC d_Mo_putOut_156 (by decide) rfl (fun h156 => ?_) (fun h156 => ?_)
              · skip
                refine x_aload_n (q := 185) hC d_Mo_putOut_184 rfl rfl rfl ?_
                refine x_aload_n (q := 186) hC d_Mo_putOut_185 rfl rfl rfl ?_
                refine x_geti (q := 189) (p := 185) (j := 20) hC f_Mo_173 rfl rfl (by omega) d_Mo_putOut_186 rfl ?_
                refine x_iconst (q := 190) (v := nI 1) hC d_Mo_putOut_189 (by decide) rfl ?_
                refine x_iadd (q := 191) (z := ((mx_up m2 185 19 ((m2 185 19) + (nI 1))) 185 20) + (nI 1)) hC d_Mo_putOut_190 rfl rfl ?_
                refine x_puti (q := 194) (p := 185) (j := 20) hC f_Mo_173 y_Mo rfl rfl rfl rfl rfl (by omega) (by decide) d_Mo_putOut_191 rfl ?_
                refine x_iinc (q := 197) (y := nI (n + 1)) (L1 := [(4, .int (nI (n + 1))), (6, .int ((mx_up m2 185 19 ((m2 185 19) + (nI 1))) 188 ((6 * n) + r))), (5, .int (bz (Mo_in q n st m2))), (0, .ref 185), (1, .int (nI q)), (2, .int (nI s)), (3, .int (nI st))]) hC d_Mo_putOut_194 rfl (mx_inc n) (by decide) rfl rfl ?_
                refine x_goto (tgt := 38) hC d_Mo_putOut_197 (by decide) ?_
                exact x_close hN5 [0, 3, 4, 5, 6] rfl (by exact it_t (And.intro (Or.inl (And.intro h56 h82)) h93) (it_f (fun z => z.1 h156) rfl))
              · skip
                refine x_iload (q := 161) hC d_Mo_putOut_159 rfl rfl ?_
                refine x_iload_n (q := 162) hC d_Mo_putOut_161 rfl rfl rfl ?_
                refine x_icmp_ne (tgt := 184) (q := 165) hC d_Mo_putOut_162 (by decide) rfl (fun h162 => ?_) (fun h162 => ?_)
                · skip
                  refine x_aload_n (q := 185) hC d_Mo_putOut_184 rfl rfl rfl ?_
                  refine x_aload_n (q := 186) hC d_Mo_putOut_185 rfl rfl rfl ?_
                  refine x_geti (q := 189) (p := 185) (j := 20) hC f_Mo_173 rfl rfl (by omega) d_Mo_putOut_186 rfl ?_
                  refine x_iconst (q := 190) (v := nI 1) hC d_Mo_putOut_189 (by decide) rfl ?_
                  refine x_iadd (q := 191) (z := ((mx_up m2 185 19 ((m2 185 19) + (nI 1))) 185 20) + (nI 1)) hC d_Mo_putOut_190 rfl rfl ?_
                  refine x_puti (q := 194) (p := 185) (j := 20) hC f_Mo_173 y_Mo rfl rfl rfl rfl rfl (by omega) (by decide) d_Mo_putOut_191 rfl ?_
                  refine x_iinc (q := 197) (y := nI (n + 1)) (L1 := [(4, .int (nI (n + 1))), (6, .int ((mx_up m2 185 19 ((m2 185 19) + (nI 1))) 188 ((6 * n) + r))), (5, .int (bz (Mo_in q n st m2))), (0, .ref 185), (1, .int (nI q)), (2, .int (nI s)), (3, .int (nI st))]) hC d_Mo_putOut_194 rfl (mx_inc n) (by decide) rfl rfl ?_
                  refine x_goto (tgt := 38) hC d_Mo_putOut_197 (by decide) ?_
                  exact x_close hN5 [0, 3, 4, 5, 6] rfl (by exact it_t (And.intro (Or.inl (And.intro h56 h82)) h93) (it_f (fun z => h162 ((Mo_side_t h118).symm.trans z.2)) rfl))
                · skip
                  refine x_aload_n (q := 166) hC d_Mo_putOut_165 rfl rfl rfl ?_
                  refine x_getr (q := 169) (p := 185) (j := 23) (r := 203) hC f_Mo_62 rfl rfl rfl (by omega) (hu _ _ (by decide)) d_Mo_putOut_166 rfl ?_
                  refine x_iload (q := 171) hC d_Mo_putOut_169 rfl rfl ?_
                  refine x_iconst (q := 172) (v := nI 1) hC d_Mo_putOut_171 (by decide) rfl ?_
                  refine x_zast (q := 173) (p := 203) hC n rfl (by omega) (by omega) rfl (by omega) (by decide) rfl d_Mo_putOut_172 rfl ?_
                  refine x_aload_n (q := 174) hC d_Mo_putOut_173 rfl rfl rfl ?_
                  refine x_getr (q := 177) (p := 185) (j := 25) (r := 205) hC f_Mo_68 rfl rfl rfl (by omega) (hu _ _ (by decide)) d_Mo_putOut_174 rfl ?_
                  refine x_iload (q := 179) hC d_Mo_putOut_177 rfl rfl ?_
                  refine x_iload_n (q := 180) hC d_Mo_putOut_179 rfl rfl rfl ?_
                  refine x_iast (q := 181) (p := 205) hC n rfl (by omega) (by omega) rfl (by omega) (by decide) d_Mo_putOut_180 rfl ?_
                  refine x_goto (tgt := 194) hC d_Mo_putOut_181 (by decide) ?_
                  refine x_iinc (q := 197) (y := nI (n + 1)) (L1 := [(4, .int (nI (n + 1))), (6, .int ((mx_up m2 185 19 ((m2 185 19) + (nI 1))) 188 ((6 * n) + r))), (5, .int (bz (Mo_in q n st m2))), (0, .ref 185), (1, .int (nI q)), (2, .int (nI s)), (3, .int (nI st))]) hC d_Mo_putOut_194 rfl (mx_inc n) (by decide) rfl rfl ?_
                  refine x_goto (tgt := 38) hC d_Mo_putOut_197 (by decide) ?_
                  exact x_close hN5 [0, 3, 4, 5, 6] rfl (by exact it_t (And.intro (Or.inl (And.intro h56 h82)) h93) (it_t (And.intro h156 ((Mo_side_t h118).trans h162)) rfl))
            · skip
              refine x_aload_n (q := 122) hC d_Mo_putOut_121 rfl rfl rfl ?_
              refine x_getr (q := 125) (p := 185) (j := 4) (r := 188) hC f_Mo_16 rfl rfl rfl (by omega) (hu _ _ (by decide)) d_Mo_putOut_122 rfl ?_
              refine x_bipush (q := 127) (v := nI 6) hC d_Mo_putOut_125 (by decide) rfl ?_
              refine x_iload (q := 129) hC d_Mo_putOut_127 rfl rfl ?_
              refine x_imul (q := 130) (z := nI (6 * n)) hC d_Mo_putOut_129 (pk_mul _ _) rfl ?_
              refine x_iload_n (q := 131) hC d_Mo_putOut_130 rfl rfl rfl ?_
              refine x_iadd (q := 132) (z := nI ((6 * n) + s)) hC d_Mo_putOut_131 (nI_add _ _) rfl ?_
              refine x_iald (q := 133) (p := 188) hC ((6 * n) + s) rfl (by omega) rfl (by omega) (by decide) d_Mo_putOut_132 rfl ?_
              refine x_goto (tgt := 151) hC d_Mo_putOut_133 (by decide) ?_
              refine x_istore (q := 153) (L1 := [(6, .int ((mx_up m2 185 19 ((m2 185 19) + (nI 1))) 188 ((6 * n) + s))), (5, .int (bz (Mo_in q n st m2))), (4, .int (nI n)), (0, .ref 185), (1, .int (nI q)), (2, .int (nI s)), (3, .int (nI st))]) hC d_Mo_putOut_151 (by decide) rfl rfl ?_
              refine x_iload (q := 155) hC d_Mo_putOut_153 rfl rfl ?_
              refine x_iload_n (q := 156) hC d_Mo_putOut_155 rfl rfl rfl ?_
              refine x_icmp_eq (tgt := 184) (q := 159) hC d_Mo_putOut_156 (by decide) rfl (fun h156 => ?_) (fun h156 => ?_)
              · skip
                refine x_aload_n (q := 185) hC d_Mo_putOut_184 rfl rfl rfl ?_
                refine x_aload_n (q := 186) hC d_Mo_putOut_185 rfl rfl rfl ?_
                refine x_geti (q := 189) (p := 185) (j := 20) hC f_Mo_173 rfl rfl (by omega) d_Mo_putOut_186 rfl ?_
                refine x_iconst (q := 190) (v := nI 1) hC d_Mo_putOut_189 (by decide) rfl ?_
                refine x_iadd (q := 191) (z := ((mx_up m2 185 19 ((m2 185 19) + (nI 1))) 185 20) + (nI 1)) hC d_Mo_putOut_190 rfl rfl ?_
                refine x_puti (q := 194) (p := 185) (j := 20) hC f_Mo_173 y_Mo rfl rfl rfl rfl rfl (by omega) (by decide) d_Mo_putOut_191 rfl ?_
                refine x_iinc (q := 197) (y := nI (n + 1)) (L1 := [(4, .int (nI (n + 1))), (6, .int ((mx_up m2 185 19 ((m2 185 19) + (nI 1))) 188 ((6 * n) + s))), (5, .int (bz (Mo_in q n st m2))), (0, .ref 185), (1, .int (nI q)), (2, .int (nI s)), (3, .int (nI st))]) hC d_Mo_putOut_194 rfl (mx_inc n) (by decide) rfl rfl ?_
                refine x_goto (tgt := 38) hC d_Mo_putOut_197 (by decide) ?_
                exact x_close hN5 [0, 3, 4, 5, 6] rfl (by exact it_t (And.intro (Or.inl (And.intro h56 h82)) h93) (it_f (fun z => z.1 h156) rfl))
              · skip
                refine x_iload (q := 161) hC d_Mo_putOut_159 rfl rfl ?_
                refine x_iload_n (q := 162) hC d_Mo_putOut_161 rfl rfl rfl ?_
                refine x_icmp_ne (tgt := 184) (q := 165) hC d_Mo_putOut_162 (by decide) rfl (fun h162 => ?_) (fun h162 => ?_)
                · skip
                  refine x_aload_n (q := 185) hC d_Mo_putOut_184 rfl rfl rfl ?_
                  refine x_aload_n (q := 186) hC d_Mo_putOut_185 rfl rfl rfl ?_
                  refine x_geti (q := 189) (p := 185) (j := 20) hC f_Mo_173 rfl rfl (by omega) d_Mo_putOut_186 rfl ?_
                  refine x_iconst (q := 190) (v := nI 1) hC d_Mo_putOut_189 (by decide) rfl ?_
                  refine x_iadd (q := 191) (z := ((mx_up m2 185 19 ((m2 185 19) + (nI 1))) 185 20) + (nI 1)) hC d_Mo_putOut_190 rfl rfl ?_
                  refine x_puti (q := 194) (p := 185) (j := 20) hC f_Mo_173 y_Mo rfl rfl rfl rfl rfl (by omega) (by decide) d_Mo_putOut_191 rfl ?_
                  refine x_iinc (q := 197) (y := nI (n + 1)) (L1 := [(4, .int (nI (n + 1))), (6, .int ((mx_up m2 185 19 ((m2 185 19) + (nI 1))) 188 ((6 * n) + s))), (5, .int (bz (Mo_in q n st m2))), (0, .ref 185), (1, .int (nI q)), (2, .int (nI s)), (3, .int (nI st))]) hC d_Mo_putOut_194 rfl (mx_inc n) (by decide) rfl rfl ?_
                  refine x_goto (tgt := 38) hC d_Mo_putOut_197 (by decide) ?_
                  exact x_close hN5 [0, 3, 4, 5, 6] rfl (by exact it_t (And.intro (Or.inl (And.intro h56 h82)) h93) (it_f (fun z => h162 ((Mo_side_f h118).symm.trans z.2)) rfl))
                · skip
                  refine x_aload_n (q := 166) hC d_Mo_putOut_165 rfl rfl rfl ?_
                  refine x_getr (q := 169) (p := 185) (j := 23) (r := 203) hC f_Mo_62 rfl rfl rfl (by omega) (hu _ _ (by decide)) d_Mo_putOut_166 rfl ?_
                  refine x_iload (q := 171) hC d_Mo_putOut_169 rfl rfl ?_
                  refine x_iconst (q := 172) (v := nI 1) hC d_Mo_putOut_171 (by decide) rfl ?_
                  refine x_zast (q := 173) (p := 203) hC n rfl (by omega) (by omega) rfl (by omega) (by decide) rfl d_Mo_putOut_172 rfl ?_
                  refine x_aload_n (q := 174) hC d_Mo_putOut_173 rfl rfl rfl ?_
                  refine x_getr (q := 177) (p := 185) (j := 25) (r := 205) hC f_Mo_68 rfl rfl rfl (by omega) (hu _ _ (by decide)) d_Mo_putOut_174 rfl ?_
                  refine x_iload (q := 179) hC d_Mo_putOut_177 rfl rfl ?_
                  refine x_iload_n (q := 180) hC d_Mo_putOut_179 rfl rfl rfl ?_
                  refine x_iast (q := 181) (p := 205) hC n rfl (by omega) (by omega) rfl (by omega) (by decide) d_Mo_putOut_180 rfl ?_
                  refine x_goto (tgt := 194) hC d_Mo_putOut_181 (by decide) ?_
                  refine x_iinc (q := 197) (y := nI (n + 1)) (L1 := [(4, .int (nI (n + 1))), (6, .int ((mx_up m2 185 19 ((m2 185 19) + (nI 1))) 188 ((6 * n) + s))), (5, .int (bz (Mo_in q n st m2))), (0, .ref 185), (1, .int (nI q)), (2, .int (nI s)), (3, .int (nI st))]) hC d_Mo_putOut_194 rfl (mx_inc n) (by decide) rfl rfl ?_
                  refine x_goto (tgt := 38) hC d_Mo_putOut_197 (by decide) ?_
                  exact x_close hN5 [0, 3, 4, 5, 6] rfl (by exact it_t (And.intro (Or.inl (And.intro h56 h82)) h93) (it_t (And.intro h156 ((Mo_side_f h118).trans h162)) rfl))
      · skip
        refine x_aload_n (q := 60) hC d_Mo_putOut_59 rfl rfl rfl ?_
        refine x_iload_n (q := 61) hC d_Mo_putOut_60 rfl rfl rfl ?_
        refine x_iload (q := 63) hC d_Mo_putOut_61 rfl rfl ?_
        refine x_iload_n (q := 64) hC d_Mo_putOut_63 rfl rfl rfl ?_
        refine x_callV (q := 67) (p := 185) (A := [.int (nI q), .int (nI n), .int (nI st)]) (S := []) (c1 := 0) (s1 := 0) hC (c_Mo_outer (n := q) (k := n) (st := st) (by omega) hu (by omega) (by omega) (by omega) ) s_Mo_putOut_137 rfl (by omega) rfl rfl rfl (Nat.le_of_ble_eq_true rfl) rfl rfl (by decide) (by decide) d_Mo_putOut_64 rfl (fun r τ hP => ?_)
        obtain ⟨rfl, rfl⟩ := hP
        show mx_G Γ κ _ _ 67 [(4, .int (nI n)), (0, .ref 185), (1, .int (nI q)), (2, .int (nI s)), (3, .int (nI st))] [.int (bz (Mo_out q n st m2))] (nx, u, m2) 0 0
        refine x_goto (tgt := 78) hC d_Mo_putOut_67 (by decide) ?_
        refine x_istore (q := 80) (L1 := [(5, .int (bz (Mo_out q n st m2))), (4, .int (nI n)), (0, .ref 185), (1, .int (nI q)), (2, .int (nI s)), (3, .int (nI st))]) hC d_Mo_putOut_78 (by decide) rfl rfl ?_
        refine x_iload (q := 82) hC d_Mo_putOut_80 rfl rfl ?_
        refine x_if_eq (tgt := 194) (q := 85) hC d_Mo_putOut_82 (by decide) rfl (fun h82 => ?_) (fun h82 => ?_)
        · have h82 := bz_0 h82
          refine x_iinc (q := 197) (y := nI (n + 1)) (L1 := [(4, .int (nI (n + 1))), (5, .int (bz (Mo_out q n st m2))), (0, .ref 185), (1, .int (nI q)), (2, .int (nI s)), (3, .int (nI st))]) hC d_Mo_putOut_194 rfl (mx_inc n) (by decide) rfl rfl ?_
          refine x_goto (tgt := 38) hC d_Mo_putOut_197 (by decide) ?_
          exact x_close hN5 [0, 2, 3, 4, 5] rfl (by exact it_f (fun z => z.1.elim (fun y => h56 y.1) (fun y => h82 y.2)) rfl)
        · have h82 := bz_1 h82
          refine x_iload (q := 87) hC d_Mo_putOut_85 rfl rfl ?_
          refine x_aload_n (q := 88) hC d_Mo_putOut_87 rfl rfl rfl ?_
          refine x_getr (q := 91) (p := 185) (j := 25) (r := 205) hC f_Mo_68 rfl rfl rfl (by omega) (hu _ _ (by decide)) d_Mo_putOut_88 rfl ?_
          refine x_iload_n (q := 92) hC d_Mo_putOut_91 rfl rfl rfl ?_
          refine x_iald (q := 93) (p := 205) hC q rfl (by omega) rfl (by omega) (by decide) d_Mo_putOut_92 rfl ?_
          refine x_icmp_eq (tgt := 194) (q := 96) hC d_Mo_putOut_93 (by decide) rfl (fun h93 => ?_) (fun h93 => ?_)
          · skip
            refine x_iinc (q := 197) (y := nI (n + 1)) (L1 := [(4, .int (nI (n + 1))), (5, .int (bz (Mo_out q n st m2))), (0, .ref 185), (1, .int (nI q)), (2, .int (nI s)), (3, .int (nI st))]) hC d_Mo_putOut_194 rfl (mx_inc n) (by decide) rfl rfl ?_
            refine x_goto (tgt := 38) hC d_Mo_putOut_197 (by decide) ?_
            exact x_close hN5 [0, 2, 3, 4, 5] rfl (by exact it_f (fun z => z.2 h93) rfl)
          · skip
            refine x_aload_n (q := 97) hC d_Mo_putOut_96 rfl rfl rfl ?_
            refine x_aload_n (q := 98) hC d_Mo_putOut_97 rfl rfl rfl ?_
            refine x_geti (q := 101) (p := 185) (j := 19) hC f_Mo_170 rfl rfl (by omega) d_Mo_putOut_98 rfl ?_
            refine x_iconst (q := 102) (v := nI 1) hC d_Mo_putOut_101 (by decide) rfl ?_
            refine x_iadd (q := 103) (z := (m2 185 19) + (nI 1)) hC d_Mo_putOut_102 rfl rfl ?_
            refine x_puti (q := 106) (p := 185) (j := 19) hC f_Mo_170 y_Mo rfl rfl rfl rfl rfl (by omega) (by decide) d_Mo_putOut_103 rfl ?_
            refine x_aload_n (q := 107) hC d_Mo_putOut_106 rfl rfl rfl ?_
            refine x_getr (q := 110) (p := 185) (j := 15) (r := 199) hC f_Mo_50 rfl rfl rfl (by omega) (hu _ _ (by decide)) d_Mo_putOut_107 rfl ?_
            refine x_bipush (q := 112) (v := nI 18) hC d_Mo_putOut_110 (by decide) rfl ?_
            refine x_iload (q := 114) hC d_Mo_putOut_112 rfl rfl ?_
            refine x_imul (q := 115) (z := nI (18 * n)) hC d_Mo_putOut_114 (pk_mul _ _) rfl ?_
            refine x_iload_n (q := 116) hC d_Mo_putOut_115 rfl rfl rfl ?_
            refine x_iadd (q := 117) (z := nI ((18 * n) + st)) hC d_Mo_putOut_116 (nI_add _ _) rfl ?_
            refine x_zald (q := 118) (p := 199) hC ((18 * n) + st) rfl (by omega) rfl (by omega) (by decide) d_Mo_putOut_117 rfl ?_
            refine x_if_eq (tgt := 136) (q := 121) hC d_Mo_putOut_118 (by decide) rfl (fun h118 => ?_) (fun h118 => ?_)
            · skip
              refine x_aload_n (q := 137) hC d_Mo_putOut_136 rfl rfl rfl ?_
              refine x_getr (q := 140) (p := 185) (j := 4) (r := 188) hC f_Mo_16 rfl rfl rfl (by omega) (hu _ _ (by decide)) d_Mo_putOut_137 rfl ?_
              refine x_bipush (q := 142) (v := nI 6) hC d_Mo_putOut_140 (by decide) rfl ?_
              refine x_iload (q := 144) hC d_Mo_putOut_142 rfl rfl ?_
              refine x_imul (q := 145) (z := nI (6 * n)) hC d_Mo_putOut_144 (pk_mul _ _) rfl ?_
              refine x_aload_n (q := 146) hC d_Mo_putOut_145 rfl rfl rfl ?_
              refine x_geti (q := 149) (p := 185) (j := 0) hC f_Mo_103 rfl rfl (by omega) d_Mo_putOut_146 rfl ?_
              refine mx_eqG (S1 := [.int (nI r), .int (nI (6 * n)), .ref 188]) rfl (by exact congrArg (fun z => Value.int z :: ([.int (nI (6 * n)), .ref 188] : List Value)) (show (mx_up m2 185 19 ((m2 185 19) + (nI 1))) 185 0 = nI r from ((up_ne (by decide)).trans hI4.1))) rfl ?_
              refine x_iadd (q := 150) (z := nI ((6 * n) + r)) hC d_Mo_putOut_149 (nI_add _ _) rfl ?_
              refine x_iald (q := 151) (p := 188) hC ((6 * n) + r) rfl (by omega) rfl (by omega) (by decide) d_Mo_putOut_150 rfl ?_
              refine x_istore (q := 153) (L1 := [(6, .int ((mx_up m2 185 19 ((m2 185 19) + (nI 1))) 188 ((6 * n) + r))), (5, .int (bz (Mo_out q n st m2))), (4, .int (nI n)), (0, .ref 185), (1, .int (nI q)), (2, .int (nI s)), (3, .int (nI st))]) hC d_Mo_putOut_151 (by decide) rfl rfl ?_
              refine x_iload (q := 155) hC d_Mo_putOut_153 rfl rfl ?_
              refine x_iload_n (q := 156) hC d_Mo_putOut_155 rfl rfl rfl ?_
              refine x_icmp_eq (tgt := 184) (q := 159) hC d_Mo_putOut_156 (by decide) rfl (fun h156 => ?_) (fun h156 => ?_)
              · skip
                refine x_aload_n (q := 185) hC d_Mo_putOut_184 rfl rfl rfl ?_
                refine x_aload_n (q := 186) hC d_Mo_putOut_185 rfl rfl rfl ?_
                refine x_geti (q := 189) (p := 185) (j := 20) hC f_Mo_173 rfl rfl (by omega) d_Mo_putOut_186 rfl ?_
                refine x_iconst (q := 190) (v := nI 1) hC d_Mo_putOut_189 (by decide) rfl ?_
                refine x_iadd (q := 191) (z := ((mx_up m2 185 19 ((m2 185 19) + (nI 1))) 185 20) + (nI 1)) hC d_Mo_putOut_190 rfl rfl ?_
                refine x_puti (q := 194) (p := 185) (j := 20) hC f_Mo_173 y_Mo rfl rfl rfl rfl rfl (by omega) (by decide) d_Mo_putOut_191 rfl ?_
                refine x_iinc (q := 197) (y := nI (n + 1)) (L1 := [(4, .int (nI (n + 1))), (6, .int ((mx_up m2 185 19 ((m2 185 19) + (nI 1))) 188 ((6 * n) + r))), (5, .int (bz (Mo_out q n st m2))), (0, .ref 185), (1, .int (nI q)), (2, .int (nI s)), (3, .int (nI st))]) hC d_Mo_putOut_194 rfl (mx_inc n) (by decide) rfl rfl ?_
                refine x_goto (tgt := 38) hC d_Mo_putOut_197 (by decide) ?_
                exact x_close hN5 [0, 3, 4, 5, 6] rfl (by exact it_t (And.intro (Or.inr (And.intro h56 h82)) h93) (it_f (fun z => z.1 h156) rfl))
              · skip
                refine x_iload (q := 161) hC d_Mo_putOut_159 rfl rfl ?_
                refine x_iload_n (q := 162) hC d_Mo_putOut_161 rfl rfl rfl ?_
                refine x_icmp_ne (tgt := 184) (q := 165) hC d_Mo_putOut_162 (by decide) rfl (fun h162 => ?_) (fun h162 => ?_)
                · skip
                  refine x_aload_n (q := 185) hC d_Mo_putOut_184 rfl rfl rfl ?_
                  refine x_aload_n (q := 186) hC d_Mo_putOut_185 rfl rfl rfl ?_
                  refine x_geti (q := 189) (p := 185) (j := 20) hC f_Mo_173 rfl rfl (by omega) d_Mo_putOut_186 rfl ?_
                  refine x_iconst (q := 190) (v := nI 1) hC d_Mo_putOut_189 (by decide) rfl ?_
                  refine x_iadd (q := 191) (z := ((mx_up m2 185 19 ((m2 185 19) + (nI 1))) 185 20) + (nI 1)) hC d_Mo_putOut_190 rfl rfl ?_
                  refine x_puti (q := 194) (p := 185) (j := 20) hC f_Mo_173 y_Mo rfl rfl rfl rfl rfl (by omega) (by decide) d_Mo_putOut_191 rfl ?_
                  refine x_iinc (q := 197) (y := nI (n + 1)) (L1 := [(4, .int (nI (n + 1))), (6, .int ((mx_up m2 185 19 ((m2 185 19) + (nI 1))) 188 ((6 * n) + r))), (5, .int (bz (Mo_out q n st m2))), (0, .ref 185), (1, .int (nI q)), (2, .int (nI s)), (3, .int (nI st))]) hC d_Mo_putOut_194 rfl (mx_inc n) (by decide) rfl rfl ?_
                  refine x_goto (tgt := 38) hC d_Mo_putOut_197 (by decide) ?_
                  exact x_close hN5 [0, 3, 4, 5, 6] rfl (by exact it_t (And.intro (Or.inr (And.intro h56 h82)) h93) (it_f (fun z => h162 ((Mo_side_t h118).symm.trans z.2)) rfl))
                · skip
                  refine x_aload_n (q := 166) hC d_Mo_putOut_165 rfl rfl rfl ?_
                  refine x_getr (q := 169) (p := 185) (j := 23) (r := 203) hC f_Mo_62 rfl rfl rfl (by omega) (hu _ _ (by decide)) d_Mo_putOut_166 rfl ?_
                  refine x_iload (q := 171) hC d_Mo_putOut_169 rfl rfl ?_
                  refine x_iconst (q := 172) (v := nI 1) hC d_Mo_putOut_171 (by decide) rfl ?_
                  refine x_zast (q := 173) (p := 203) hC n rfl (by omega) (by omega) rfl (by omega) (by decide) rfl d_Mo_putOut_172 rfl ?_
                  refine x_aload_n (q := 174) hC d_Mo_putOut_173 rfl rfl rfl ?_
                  refine x_getr (q := 177) (p := 185) (j := 25) (r := 205) hC f_Mo_68 rfl rfl rfl (by omega) (hu _ _ (by decide)) d_Mo_putOut_174 rfl ?_
                  refine x_iload (q := 179) hC d_Mo_putOut_177 rfl rfl ?_
                  refine x_iload_n (q := 180) hC d_Mo_putOut_179 rfl rfl rfl ?_
                  refine x_iast (q := 181) (p := 205) hC n rfl (by omega) (by omega) rfl (by omega) (by decide) d_Mo_putOut_180 rfl ?_
                  refine x_goto (tgt := 194) hC d_Mo_putOut_181 (by decide) ?_
                  refine x_iinc (q := 197) (y := nI (n + 1)) (L1 := [(4, .int (nI (n + 1))), (6, .int ((mx_up m2 185 19 ((m2 185 19) + (nI 1))) 188 ((6 * n) + r))), (5, .int (bz (Mo_out q n st m2))), (0, .ref 185), (1, .int (nI q)), (2, .int (nI s)), (3, .int (nI st))]) hC d_Mo_putOut_194 rfl (mx_inc n) (by decide) rfl rfl ?_
                  refine x_goto (tgt := 38) hC d_Mo_putOut_197 (by decide) ?_
                  exact x_close hN5 [0, 3, 4, 5, 6] rfl (by exact it_t (And.intro (Or.inr (And.intro h56 h82)) h93) (it_t (And.intro h156 ((Mo_side_t h118).trans h162)) rfl))
            · skip
              refine x_aload_n (q := 122) hC d_Mo_putOut_121 rfl rfl rfl ?_
              refine x_getr (q := 125) (p := 185) (j := 4) (r := 188) hC f_Mo_16 rfl rfl rfl (by omega) (hu _ _ (by decide)) d_Mo_putOut_122 rfl ?_
              refine x_bipush (q := 127) (v := nI 6) hC d_Mo_putOut_125 (by decide) rfl ?_
              refine x_iload (q := 129) hC d_Mo_putOut_127 rfl rfl ?_
              refine x_imul (q := 130) (z := nI (6 * n)) hC d_Mo_putOut_129 (pk_mul _ _) rfl ?_
              refine x_iload_n (q := 131) hC d_Mo_putOut_130 rfl rfl rfl ?_
              refine x_iadd (q := 132) (z := nI ((6 * n) + s)) hC d_Mo_putOut_131 (nI_add _ _) rfl ?_
              refine x_iald (q := 133) (p := 188) hC ((6 * n) + s) rfl (by omega) rfl (by omega) (by decide) d_Mo_putOut_132 rfl ?_
              refine x_goto (tgt := 151) hC d_Mo_putOut_133 (by decide) ?_
              refine x_istore (q := 153) (L1 := [(6, .int ((mx_up m2 185 19 ((m2 185 19) + (nI 1))) 188 ((6 * n) + s))), (5, .int (bz (Mo_out q n st m2))), (4, .int (nI n)), (0, .ref 185), (1, .int (nI q)), (2, .int (nI s)), (3, .int (nI st))]) hC d_Mo_putOut_151 (by decide) rfl rfl ?_
              refine x_iload (q := 155) hC d_Mo_putOut_153 rfl rfl ?_
              refine x_iload_n (q := 156) hC d_Mo_putOut_155 rfl rfl rfl ?_
              refine x_icmp_eq (tgt := 184) (q := 159) hC d_Mo_putOut_156 (by decide) rfl (fun h156 => ?_) (fun h156 => ?_)
              · skip
                refine x_aload_n (q := 185) hC d_Mo_putOut_184 rfl rfl rfl ?_
                refine x_aload_n (q := 186) hC d_Mo_putOut_185 rfl rfl rfl ?_
                refine x_geti (q := 189) (p := 185) (j := 20) hC f_Mo_173 rfl rfl (by omega) d_Mo_putOut_186 rfl ?_
                refine x_iconst (q := 190) (v := nI 1) hC d_Mo_putOut_189 (by decide) rfl ?_
                refine x_iadd (q := 191) (z := ((mx_up m2 185 19 ((m2 185 19) + (nI 1))) 185 20) + (nI 1)) hC d_Mo_putOut_190 rfl rfl ?_
                refine x_puti (q := 194) (p := 185) (j := 20) hC f_Mo_173 y_Mo rfl rfl rfl rfl rfl (by omega) (by decide) d_Mo_putOut_191 rfl ?_
                refine x_iinc (q := 197) (y := nI (n + 1)) (L1 := [(4, .int (nI (n + 1))), (6, .int ((mx_up m2 185 19 ((m2 185 19) + (nI 1))) 188 ((6 * n) + s))), (5, .int (bz (Mo_out q n st m2))), (0, .ref 185), (1, .int (nI q)), (2, .int (nI s)), (3, .int (nI st))]) hC d_Mo_putOut_194 rfl (mx_inc n) (by decide) rfl rfl ?_
                refine x_goto (tgt := 38) hC d_Mo_putOut_197 (by decide) ?_
                exact x_close hN5 [0, 3, 4, 5, 6] rfl (by exact it_t (And.intro (Or.inr (And.intro h56 h82)) h93) (it_f (fun z => z.1 h156) rfl))
              · skip
                refine x_iload (q := 161) hC d_Mo_putOut_159 rfl rfl ?_
                refine x_iload_n (q := 162) hC d_Mo_putOut_161 rfl rfl rfl ?_
                refine x_icmp_ne (tgt := 184) (q := 165) hC d_Mo_putOut_162 (by decide) rfl (fun h162 => ?_) (fun h162 => ?_)
                · skip
                  refine x_aload_n (q := 185) hC d_Mo_putOut_184 rfl rfl rfl ?_
                  refine x_aload_n (q := 186) hC d_Mo_putOut_185 rfl rfl rfl ?_
                  refine x_geti (q := 189) (p := 185) (j := 20) hC f_Mo_173 rfl rfl (by omega) d_Mo_putOut_186 rfl ?_
                  refine x_iconst (q := 190) (v := nI 1) hC d_Mo_putOut_189 (by decide) rfl ?_
                  refine x_iadd (q := 191) (z := ((mx_up m2 185 19 ((m2 185 19) + (nI 1))) 185 20) + (nI 1)) hC d_Mo_putOut_190 rfl rfl ?_
                  refine x_puti (q := 194) (p := 185) (j := 20) hC f_Mo_173 y_Mo rfl rfl rfl rfl rfl (by omega) (by decide) d_Mo_putOut_191 rfl ?_
                  refine x_iinc (q := 197) (y := nI (n + 1)) (L1 := [(4, .int (nI (n + 1))), (6, .int ((mx_up m2 185 19 ((m2 185 19) + (nI 1))) 188 ((6 * n) + s))), (5, .int (bz (Mo_out q n st m2))), (0, .ref 185), (1, .int (nI q)), (2, .int (nI s)), (3, .int (nI st))]) hC d_Mo_putOut_194 rfl (mx_inc n) (by decide) rfl rfl ?_
                  refine x_goto (tgt := 38) hC d_Mo_putOut_197 (by decide) ?_
                  exact x_close hN5 [0, 3, 4, 5, 6] rfl (by exact it_t (And.intro (Or.inr (And.intro h56 h82)) h93) (it_f (fun z => h162 ((Mo_side_f h118).symm.trans z.2)) rfl))
                · skip
                  refine x_aload_n (q := 166) hC d_Mo_putOut_165 rfl rfl rfl ?_
                  refine x_getr (q := 169) (p := 185) (j := 23) (r := 203) hC f_Mo_62 rfl rfl rfl (by omega) (hu _ _ (by decide)) d_Mo_putOut_166 rfl ?_
                  refine x_iload (q := 171) hC d_Mo_putOut_169 rfl rfl ?_
                  refine x_iconst (q := 172) (v := nI 1) hC d_Mo_putOut_171 (by decide) rfl ?_
                  refine x_zast (q := 173) (p := 203) hC n rfl (by omega) (by omega) rfl (by omega) (by decide) rfl d_Mo_putOut_172 rfl ?_
                  refine x_aload_n (q := 174) hC d_Mo_putOut_173 rfl rfl rfl ?_
                  refine x_getr (q := 177) (p := 185) (j := 25) (r := 205) hC f_Mo_68 rfl rfl rfl (by omega) (hu _ _ (by decide)) d_Mo_putOut_174 rfl ?_
                  refine x_iload (q := 179) hC d_Mo_putOut_177 rfl rfl ?_
                  refine x_iload_n (q := 180) hC d_Mo_putOut_179 rfl rfl rfl ?_
                  refine x_iast (q := 181) (p := 205) hC n rfl (by omega) (by omega) rfl (by omega) (by decide) d_Mo_putOut_180 rfl ?_
                  refine x_goto (tgt := 194) hC d_Mo_putOut_181 (by decide) ?_
                  refine x_iinc (q := 197) (y := nI (n + 1)) (L1 := [(4, .int (nI (n + 1))), (6, .int ((mx_up m2 185 19 ((m2 185 19) + (nI 1))) 188 ((6 * n) + s))), (5, .int (bz (Mo_out q n st m2))), (0, .ref 185), (1, .int (nI q)), (2, .int (nI s)), (3, .int (nI st))]) hC d_Mo_putOut_194 rfl (mx_inc n) (by decide) rfl rfl ?_
                  refine x_goto (tgt := 38) hC d_Mo_putOut_197 (by decide) ?_
                  exact x_close hN5 [0, 3, 4, 5, 6] rfl (by exact it_t (And.intro (Or.inr (And.intro h56 h82)) h93) (it_t (And.intro h156 ((Mo_side_f h118).trans h162)) rfl))
    · intro hx6
      refine mx_nr (fun m7 e8 => ?_)
      try rw [e8] at hx6
      refine x_iload (q := 40) hC d_Mo_putOut_38 rfl rfl ?_
      refine x_bipush (q := 42) (v := nI 6) hC d_Mo_putOut_40 (by decide) rfl ?_
      refine x_icmp_ge (tgt := 200) (q := 45) hC d_Mo_putOut_42 (by decide) rfl (fun _ => ?_) (fun h => absurd (nI_le (Nat.le_refl _) (by decide)) h)
      subst e8
      subst ej
      exact x_vret hC rfl ⟨rfl, rfl⟩ (by decide) (by decide) d_Mo_putOut_200
  refine x_aload_n (q := 8) hC d_Mo_putOut_7 rfl rfl rfl ?_
  refine x_iload_n (q := 9) hC d_Mo_putOut_8 rfl rfl rfl ?_
  refine x_iload_n (q := 10) hC d_Mo_putOut_9 rfl rfl rfl ?_
  refine x_iconst (q := 11) (v := nI 3) hC d_Mo_putOut_10 (by decide) rfl ?_
  refine x_irem (q := 12) (z := nI (st % 3)) hC d_Mo_putOut_11 (by decide) (pk_rem (by omega) (by decide) (by decide)) rfl ?_
  refine x_callV (q := 15) (p := 185) (A := [.int (nI q), .int (nI (st % 3))]) (S := []) (c1 := 0) (s1 := 0) hC (c_Mo_onLan (l := q) (g := st % 3) (by omega) hu (by omega) (by omega) ) s_Mo_putOut_130 rfl (by omega) rfl rfl rfl (Nat.le_of_ble_eq_true rfl) rfl rfl (by decide) (by decide) d_Mo_putOut_12 rfl (fun r τ hP => ?_)
  obtain ⟨rfl, rfl⟩ := hP
  show mx_G Γ κ _ _ 15 [(0, .ref 185), (1, .int (nI q)), (2, .int (nI s)), (3, .int (nI st))] [.int (bz (Mo_on q (st % 3) (mx_up mi 204 q (nI 1))))] (nx, u, mx_up mi 204 q (nI 1)) 0 0
  refine x_if_eq (tgt := 35) (q := 18) hC d_Mo_putOut_15 (by decide) rfl (fun h15 => ?_) (fun h15 => ?_)
  · have h15 := bz_0 h15
    exact x_sub (L1 := [(0, .ref 185), (1, .int (nI q)), (2, .int (nI s)), (3, .int (nI st))]) [0, 1, 2, 3] rfl (mx_eqG rfl rfl (pr (by exact it_f (fun z => h15 z.1) rfl)) J1)
  · have h15 := bz_1 h15
    refine x_iload_n (q := 19) hC d_Mo_putOut_18 rfl rfl rfl ?_
    refine x_iload_n (q := 20) hC d_Mo_putOut_19 rfl rfl rfl ?_
    refine x_icmp_eq (tgt := 35) (q := 23) hC d_Mo_putOut_20 (by decide) rfl (fun h20 => ?_) (fun h20 => ?_)
    · skip
      exact x_sub (L1 := [(0, .ref 185), (1, .int (nI q)), (2, .int (nI s)), (3, .int (nI st))]) [0, 1, 2, 3] rfl (mx_eqG rfl rfl (pr (by exact it_f (fun z => z.2 h20) rfl)) J1)
    · skip
      refine x_aload_n (q := 24) hC d_Mo_putOut_23 rfl rfl rfl ?_
      refine x_aload_n (q := 25) hC d_Mo_putOut_24 rfl rfl rfl ?_
      refine x_geti (q := 28) (p := 185) (j := 21) hC f_Mo_176 rfl rfl (by omega) d_Mo_putOut_25 rfl ?_
      refine x_iconst (q := 29) (v := nI 1) hC d_Mo_putOut_28 (by decide) rfl ?_
      refine x_iload_n (q := 30) hC d_Mo_putOut_29 rfl rfl rfl ?_
      refine x_ishl (q := 31) (z := (nI 1) <<< ((nI q) &&& 31)) hC d_Mo_putOut_30 rfl rfl ?_
      refine x_ior (q := 32) (z := ((mx_up mi 204 q (nI 1)) 185 21) ||| ((nI 1) <<< ((nI q) &&& 31))) hC d_Mo_putOut_31 rfl rfl ?_
      refine x_puti (q := 35) (p := 185) (j := 21) hC f_Mo_176 y_Mo rfl rfl rfl rfl rfl (by omega) (by decide) d_Mo_putOut_32 rfl ?_
      exact x_sub (L1 := [(0, .ref 185), (1, .int (nI q)), (2, .int (nI s)), (3, .int (nI st))]) [0, 1, 2, 3] rfl (mx_eqG rfl rfl (pr (by exact it_t (And.intro h15 h20) rfl)) J1)
set_option maxRecDepth 100000 in
set_option maxHeartbeats 400000 in
theorem c_Mo_arrive {Γ : mx_X} {lau : Launch} {nx : Nat} {u : Nat → Nat → Bool} {mi : mx_Mm} {r s st : Nat} (hnx : 214 ≤ nx) (hu : ∀ p k, 2 ≤ p → u p k = true) (hs : s < 6) (hst : st < 18) (hr : r < 6) (hok : Mo_ok r mi) : mx_C Γ lau M_Mo_arrive [.ref 185, .int (nI s), .int (nI st)] (nx, u, mi) (fun ρ τ => ρ = some (.int (nI (Mo_arr s st mi).1)) ∧ τ = (nx, u, Mo_settle r (Mo_arr s st mi).2)) := by
  refine mx_C.intro (by decide) rfl (Nat.le_of_ble_eq_true rfl) (fun κ _ hC => ?_)
  show mx_G Γ κ _ _ 0 [(0, .ref 185), (1, .int (nI s)), (2, .int (nI st))] [] (nx, u, mi) 0 0
  have J1 : mx_G Γ κ M_Mo_arrive (MQ (mx_b κ) (mx_Qc Γ (fun ρ τ => ρ = some (.int (nI (Mo_arr s st mi).1)) ∧ τ = (nx, u, Mo_settle r (Mo_arr s st mi).2))) (mx_a κ) (mx_s κ) M_Mo_arrive.2.2.2.2.cells M_Mo_arrive.2.2.2.2.slots (mx_fr Γ)) 23 [(0, .ref 185), (1, .int (nI s)), (2, .int (nI st))] [] (nx, u, Mo_a0 s st mi) 0 0 := by
    refine mx_nr (fun mj ej => ?_)
    have hJ : Mo_ok r mj := ej ▸ Mo_a0_ok hok
    refine x_iconst (q := 24) (v := nI 0) hC d_Mo_arrive_23 (by decide) rfl ?_
    refine x_istore_n (q := 25) (L1 := [(3, .int (nI 0)), (0, .ref 185), (1, .int (nI s)), (2, .int (nI st))]) hC d_Mo_arrive_24 rfl (by decide) rfl rfl ?_
    refine x_iconst (q := 26) (v := nI 0) hC d_Mo_arrive_25 (by decide) rfl ?_
    refine x_istore (q := 28) (L1 := [(4, .int (nI 0)), (3, .int (nI 0)), (0, .ref 185), (1, .int (nI s)), (2, .int (nI st))]) hC d_Mo_arrive_26 (by decide) rfl rfl ?_
    refine x_sub (L1 := [(4, .int (nI 0)), (3, .int (nI 0)), (0, .ref 185), (1, .int (nI s)), (2, .int (nI st))]) [0, 1, 2, 3, 4] rfl ?_
    refine mx_loopG (N := 6) (Hd := fun l a => mx_G Γ κ _ _ 28 [(4, .int (nI l)), (3, .int (nI a.1)), (0, .ref 185), (1, .int (nI s)), (2, .int (nI st))] [] (nx, u, a.2) 0 0) (Mo_a2 st) (fun _ a => Mo_ok r a.2) (m := (0, mj)) hJ ?_ ?_ ?_
    · exact fun l a _ h => Mo_a2_ok h
    · intro l a hl2 hI3 hN4
      refine x_iload (q := 30) hC d_Mo_arrive_28 rfl rfl ?_
      refine x_bipush (q := 32) (v := nI 6) hC d_Mo_arrive_30 (by decide) rfl ?_
      refine x_icmp_ge (tgt := 169) (q := 35) hC d_Mo_arrive_32 (by decide) rfl (fun h => absurd h (nI_ge hl2 (by decide))) (fun _ => ?_)
      have J5 : mx_G Γ κ M_Mo_arrive (MQ (mx_b κ) (mx_Qc Γ (fun ρ τ => ρ = some (.int (nI (Mo_arr s st mi).1)) ∧ τ = (nx, u, Mo_settle r (Mo_arr s st mi).2))) (mx_a κ) (mx_s κ) M_Mo_arrive.2.2.2.2.cells M_Mo_arrive.2.2.2.2.slots (mx_fr Γ)) 91 [(4, .int (nI l)), (3, .int (nI a.1)), (0, .ref 185), (1, .int (nI s)), (2, .int (nI st))] [] (nx, u, Mo_a1 st l a.2) 0 0 := by
        refine mx_nr (fun mk ek => ?_)
        refine x_aload_n (q := 92) hC d_Mo_arrive_91 rfl rfl rfl ?_
        refine x_geti (q := 95) (p := 185) (j := 21) hC f_Mo_176 rfl rfl (by omega) d_Mo_arrive_92 rfl ?_
        refine x_iload (q := 97) hC d_Mo_arrive_95 rfl rfl ?_
        refine x_ishr (q := 98) (z := (mk 185 21) >>> ((nI l) &&& 31)) hC d_Mo_arrive_97 rfl rfl ?_
        refine x_iconst (q := 99) (v := nI 1) hC d_Mo_arrive_98 (by decide) rfl ?_
        refine x_iand (q := 100) (z := ((mk 185 21) >>> ((nI l) &&& 31)) &&& (nI 1)) hC d_Mo_arrive_99 rfl rfl ?_
        refine x_iconst (q := 101) (v := nI 1) hC d_Mo_arrive_100 (by decide) rfl ?_
        refine x_icmp_ne (tgt := 133) (q := 104) hC d_Mo_arrive_101 (by decide) rfl (fun h101 => ?_) (fun h101 => ?_)
        · skip
          refine x_aload_n (q := 134) hC d_Mo_arrive_133 rfl rfl rfl ?_
          refine x_geti (q := 137) (p := 185) (j := 21) hC f_Mo_176 rfl rfl (by omega) d_Mo_arrive_134 rfl ?_
          refine x_iload (q := 139) hC d_Mo_arrive_137 rfl rfl ?_
          refine x_ishr (q := 140) (z := (mk 185 21) >>> ((nI l) &&& 31)) hC d_Mo_arrive_139 rfl rfl ?_
          refine x_iconst (q := 141) (v := nI 1) hC d_Mo_arrive_140 (by decide) rfl ?_
          refine x_iand (q := 142) (z := ((mk 185 21) >>> ((nI l) &&& 31)) &&& (nI 1)) hC d_Mo_arrive_141 rfl rfl ?_
          refine x_iconst (q := 143) (v := nI 1) hC d_Mo_arrive_142 (by decide) rfl ?_
          refine x_icmp_ne (tgt := 163) (q := 146) hC d_Mo_arrive_143 (by decide) rfl (fun _ => ?_) (fun h => absurd h h101)
          refine x_iinc (q := 166) (y := nI (l + 1)) (L1 := [(4, .int (nI (l + 1))), (3, .int (nI a.1)), (0, .ref 185), (1, .int (nI s)), (2, .int (nI st))]) hC d_Mo_arrive_163 rfl (mx_inc l) (by decide) rfl rfl ?_
          refine x_goto (tgt := 28) hC d_Mo_arrive_166 (by decide) ?_
          refine x_sub (L1 := [(4, .int (nI (l + 1))), (3, .int (nI a.1)), (0, .ref 185), (1, .int (nI s)), (2, .int (nI st))]) [0, 1, 2, 3, 4] rfl (mx_eqG ?_ rfl ?_ hN4)
          · subst ek; rw [show Mo_a2 st l a = (a.1, (Mo_a1 st l a.2)) from by unfold Mo_a2 Mo_a3; rw [if_neg h101]] <;> rfl
          · subst ek; rw [show Mo_a2 st l a = (a.1, (Mo_a1 st l a.2)) from by unfold Mo_a2 Mo_a3; rw [if_neg h101]] <;> rfl
        · skip
          refine x_aload_n (q := 105) hC d_Mo_arrive_104 rfl rfl rfl ?_
          refine x_getr (q := 108) (p := 185) (j := 18) (r := 202) hC f_Mo_59 rfl rfl rfl (by omega) (hu _ _ (by decide)) d_Mo_arrive_105 rfl ?_
          refine x_iload (q := 110) hC d_Mo_arrive_108 rfl rfl ?_
          refine x_iald (q := 111) (p := 202) hC l rfl (by omega) rfl (by omega) (by decide) d_Mo_arrive_110 rfl ?_
          refine x_if_le (tgt := 133) (q := 114) hC d_Mo_arrive_111 (by decide) rfl (fun h111 => ?_) (fun h111 => ?_)
          · skip
            refine x_aload_n (q := 134) hC d_Mo_arrive_133 rfl rfl rfl ?_
            refine x_geti (q := 137) (p := 185) (j := 21) hC f_Mo_176 rfl rfl (by omega) d_Mo_arrive_134 rfl ?_
            refine x_iload (q := 139) hC d_Mo_arrive_137 rfl rfl ?_
            refine x_ishr (q := 140) (z := (mk 185 21) >>> ((nI l) &&& 31)) hC d_Mo_arrive_139 rfl rfl ?_
            refine x_iconst (q := 141) (v := nI 1) hC d_Mo_arrive_140 (by decide) rfl ?_
            refine x_iand (q := 142) (z := ((mk 185 21) >>> ((nI l) &&& 31)) &&& (nI 1)) hC d_Mo_arrive_141 rfl rfl ?_
            refine x_iconst (q := 143) (v := nI 1) hC d_Mo_arrive_142 (by decide) rfl ?_
            refine x_icmp_ne (tgt := 163) (q := 146) hC d_Mo_arrive_143 (by decide) rfl (fun h => absurd h101 h) (fun _ => ?_)
            refine x_aload_n (q := 147) hC d_Mo_arrive_146 rfl rfl rfl ?_
            refine x_aload_n (q := 148) hC d_Mo_arrive_147 rfl rfl rfl ?_
            refine x_geti (q := 151) (p := 185) (j := 22) hC f_Mo_179 rfl rfl (by omega) d_Mo_arrive_148 rfl ?_
            refine x_iconst (q := 152) (v := nI 1) hC d_Mo_arrive_151 (by decide) rfl ?_
            refine x_iload (q := 154) hC d_Mo_arrive_152 rfl rfl ?_
            refine x_ishl (q := 155) (z := (nI 1) <<< ((nI l) &&& 31)) hC d_Mo_arrive_154 rfl rfl ?_
            refine x_ior (q := 156) (z := (mk 185 22) ||| ((nI 1) <<< ((nI l) &&& 31))) hC d_Mo_arrive_155 rfl rfl ?_
            refine x_puti (q := 159) (p := 185) (j := 22) hC f_Mo_179 y_Mo rfl rfl rfl rfl rfl (by omega) (by decide) d_Mo_arrive_156 rfl ?_
            refine x_iload_n (q := 160) hC d_Mo_arrive_159 rfl rfl rfl ?_
            refine x_iconst (q := 161) (v := nI 1) hC d_Mo_arrive_160 (by decide) rfl ?_
            refine x_iadd (q := 162) (z := nI (a.1 + 1)) hC d_Mo_arrive_161 (nI_add _ _) rfl ?_
            refine x_istore_n (q := 163) (L1 := [(3, .int (nI (a.1 + 1))), (4, .int (nI l)), (0, .ref 185), (1, .int (nI s)), (2, .int (nI st))]) hC d_Mo_arrive_162 rfl (by decide) rfl rfl ?_
            refine x_iinc (q := 166) (y := nI (l + 1)) (L1 := [(4, .int (nI (l + 1))), (3, .int (nI (a.1 + 1))), (0, .ref 185), (1, .int (nI s)), (2, .int (nI st))]) hC d_Mo_arrive_163 rfl (mx_inc l) (by decide) rfl rfl ?_
            refine x_goto (tgt := 28) hC d_Mo_arrive_166 (by decide) ?_
            refine x_sub (L1 := [(4, .int (nI (l + 1))), (3, .int (nI (a.1 + 1))), (0, .ref 185), (1, .int (nI s)), (2, .int (nI st))]) [0, 1, 2, 3, 4] rfl (mx_eqG ?_ rfl ?_ hN4)
            · subst ek; rw [show Mo_a2 st l a = (a.1 + 1, Mo_hb l (Mo_a1 st l a.2)) from by unfold Mo_a2 Mo_a3; rw [if_pos h101, if_pos h111]] <;> rfl
            · subst ek; rw [show Mo_a2 st l a = (a.1 + 1, Mo_hb l (Mo_a1 st l a.2)) from by unfold Mo_a2 Mo_a3; rw [if_pos h101, if_pos h111]] <;> rfl
          · skip
            refine x_aload_n (q := 115) hC d_Mo_arrive_114 rfl rfl rfl ?_
            refine x_getr (q := 118) (p := 185) (j := 18) (r := 202) hC f_Mo_59 rfl rfl rfl (by omega) (hu _ _ (by decide)) d_Mo_arrive_115 rfl ?_
            refine x_iload (q := 120) hC d_Mo_arrive_118 rfl rfl ?_
            refine x_aload_n (q := 121) hC d_Mo_arrive_120 rfl rfl rfl ?_
            refine x_getr (q := 124) (p := 185) (j := 18) (r := 202) hC f_Mo_59 rfl rfl rfl (by omega) (hu _ _ (by decide)) d_Mo_arrive_121 rfl ?_
            refine x_iload (q := 126) hC d_Mo_arrive_124 rfl rfl ?_
            refine x_iald (q := 127) (p := 202) hC l rfl (by omega) rfl (by omega) (by decide) d_Mo_arrive_126 rfl ?_
            refine x_iconst (q := 128) (v := nI 1) hC d_Mo_arrive_127 (by decide) rfl ?_
            refine x_isub (q := 129) (z := (mk 202 l) - (nI 1)) hC d_Mo_arrive_128 rfl rfl ?_
            refine x_iast (q := 130) (p := 202) hC l rfl (by omega) (by omega) rfl (by omega) (by decide) d_Mo_arrive_129 rfl ?_
            refine x_goto (tgt := 163) hC d_Mo_arrive_130 (by decide) ?_
            refine x_iinc (q := 166) (y := nI (l + 1)) (L1 := [(4, .int (nI (l + 1))), (3, .int (nI a.1)), (0, .ref 185), (1, .int (nI s)), (2, .int (nI st))]) hC d_Mo_arrive_163 rfl (mx_inc l) (by decide) rfl rfl ?_
            refine x_goto (tgt := 28) hC d_Mo_arrive_166 (by decide) ?_
            refine x_sub (L1 := [(4, .int (nI (l + 1))), (3, .int (nI a.1)), (0, .ref 185), (1, .int (nI s)), (2, .int (nI st))]) [0, 1, 2, 3, 4] rfl (mx_eqG ?_ rfl ?_ hN4)
            · subst ek; rw [show Mo_a2 st l a = (a.1, Mo_lo l (Mo_a1 st l a.2)) from by unfold Mo_a2 Mo_a3; rw [if_pos h101, if_neg h111]] <;> rfl
            · subst ek; rw [show Mo_a2 st l a = (a.1, Mo_lo l (Mo_a1 st l a.2)) from by unfold Mo_a2 Mo_a3; rw [if_pos h101, if_neg h111]] <;> rfl
      refine x_aload_n (q := 36) hC d_Mo_arrive_35 rfl rfl rfl ?_
      refine x_getr (q := 39) (p := 185) (j := 23) (r := 203) hC f_Mo_62 rfl rfl rfl (by omega) (hu _ _ (by decide)) d_Mo_arrive_36 rfl ?_
      refine x_iload (q := 41) hC d_Mo_arrive_39 rfl rfl ?_
      refine x_zald (q := 42) (p := 203) hC l rfl (by omega) rfl (by omega) (by decide) d_Mo_arrive_41 rfl ?_
      refine x_if_eq (tgt := 91) (q := 45) hC d_Mo_arrive_42 (by decide) rfl (fun h42 => ?_) (fun h42 => ?_)
      · skip
        exact x_sub (L1 := [(4, .int (nI l)), (3, .int (nI a.1)), (0, .ref 185), (1, .int (nI s)), (2, .int (nI st))]) [0, 1, 2, 3, 4] rfl (mx_eqG rfl rfl (pr (by exact it_f (fun z => z.1 h42) rfl)) J5)
      · skip
        refine x_aload_n (q := 46) hC d_Mo_arrive_45 rfl rfl rfl ?_
        refine x_getr (q := 49) (p := 185) (j := 15) (r := 199) hC f_Mo_50 rfl rfl rfl (by omega) (hu _ _ (by decide)) d_Mo_arrive_46 rfl ?_
        refine x_bipush (q := 51) (v := nI 18) hC d_Mo_arrive_49 (by decide) rfl ?_
        refine x_iload (q := 53) hC d_Mo_arrive_51 rfl rfl ?_
        refine x_imul (q := 54) (z := nI (18 * l)) hC d_Mo_arrive_53 (pk_mul _ _) rfl ?_
        refine x_iload_n (q := 55) hC d_Mo_arrive_54 rfl rfl rfl ?_
        refine x_iadd (q := 56) (z := nI ((18 * l) + st)) hC d_Mo_arrive_55 (nI_add _ _) rfl ?_
        refine x_zald (q := 57) (p := 199) hC ((18 * l) + st) rfl (by omega) rfl (by omega) (by decide) d_Mo_arrive_56 rfl ?_
        refine x_if_ne (tgt := 91) (q := 60) hC d_Mo_arrive_57 (by decide) rfl (fun h57 => ?_) (fun h57 => ?_)
        · skip
          exact x_sub (L1 := [(4, .int (nI l)), (3, .int (nI a.1)), (0, .ref 185), (1, .int (nI s)), (2, .int (nI st))]) [0, 1, 2, 3, 4] rfl (mx_eqG rfl rfl (pr (by exact it_f (fun z => h57 z.2.1) rfl)) J5)
        · skip
          refine x_aload_n (q := 61) hC d_Mo_arrive_60 rfl rfl rfl ?_
          refine x_iload (q := 63) hC d_Mo_arrive_61 rfl rfl ?_
          refine x_iload_n (q := 64) hC d_Mo_arrive_63 rfl rfl rfl ?_
          refine x_iconst (q := 65) (v := nI 3) hC d_Mo_arrive_64 (by decide) rfl ?_
          refine x_irem (q := 66) (z := nI (st % 3)) hC d_Mo_arrive_65 (by decide) (pk_rem (by omega) (by decide) (by decide)) rfl ?_
          refine x_callV (q := 69) (p := 185) (A := [.int (nI l), .int (nI (st % 3))]) (S := []) (c1 := 0) (s1 := 0) hC (c_Mo_onLan (l := l) (g := st % 3) (by omega) hu (by omega) (by omega) ) s_Mo_arrive_130 rfl (by omega) rfl rfl rfl (Nat.le_of_ble_eq_true rfl) rfl rfl (by decide) (by decide) d_Mo_arrive_66 rfl (fun r τ hP => ?_)
          obtain ⟨rfl, rfl⟩ := hP
          show mx_G Γ κ _ _ 69 [(4, .int (nI l)), (3, .int (nI a.1)), (0, .ref 185), (1, .int (nI s)), (2, .int (nI st))] [.int (bz (Mo_on l (st % 3) a.2))] (nx, u, a.2) 0 0
          refine x_if_eq (tgt := 91) (q := 72) hC d_Mo_arrive_69 (by decide) rfl (fun h69 => ?_) (fun h69 => ?_)
          · have h69 := bz_0 h69
            exact x_sub (L1 := [(4, .int (nI l)), (3, .int (nI a.1)), (0, .ref 185), (1, .int (nI s)), (2, .int (nI st))]) [0, 1, 2, 3, 4] rfl (mx_eqG rfl rfl (pr (by exact it_f (fun z => h69 z.2.2) rfl)) J5)
          · have h69 := bz_1 h69
            refine x_aload_n (q := 73) hC d_Mo_arrive_72 rfl rfl rfl ?_
            refine x_getr (q := 76) (p := 185) (j := 14) (r := 198) hC f_Mo_47 rfl rfl rfl (by omega) (hu _ _ (by decide)) d_Mo_arrive_73 rfl ?_
            refine x_bipush (q := 78) (v := nI 18) hC d_Mo_arrive_76 (by decide) rfl ?_
            refine x_iload (q := 80) hC d_Mo_arrive_78 rfl rfl ?_
            refine x_imul (q := 81) (z := nI (18 * l)) hC d_Mo_arrive_80 (pk_mul _ _) rfl ?_
            refine x_iload_n (q := 82) hC d_Mo_arrive_81 rfl rfl rfl ?_
            refine x_iadd (q := 83) (z := nI ((18 * l) + st)) hC d_Mo_arrive_82 (nI_add _ _) rfl ?_
            refine x_aload_n (q := 84) hC d_Mo_arrive_83 rfl rfl rfl ?_
            refine x_geti (q := 87) (p := 185) (j := 1) hC f_Mo_112 rfl rfl (by omega) d_Mo_arrive_84 rfl ?_
            refine x_bipush (q := 89) (v := nI 8) hC d_Mo_arrive_87 (by decide) rfl ?_
            refine x_iadd (q := 90) (z := (a.2 185 1) + (nI 8)) hC d_Mo_arrive_89 rfl rfl ?_
            refine x_iast (q := 91) (p := 198) hC ((18 * l) + st) rfl (by omega) (by omega) rfl (by omega) (by decide) d_Mo_arrive_90 rfl ?_
            exact x_sub (L1 := [(4, .int (nI l)), (3, .int (nI a.1)), (0, .ref 185), (1, .int (nI s)), (2, .int (nI st))]) [0, 1, 2, 3, 4] rfl (mx_eqG rfl rfl (pr (by exact it_t (And.intro h42 (And.intro h57 h69)) rfl)) J5)
    · intro hx6
      generalize e8 : mx_lp 6 (Mo_a2 st) (0, mj) = a7 at hx6 ⊢
      refine x_iload (q := 30) hC d_Mo_arrive_28 rfl rfl ?_
      refine x_bipush (q := 32) (v := nI 6) hC d_Mo_arrive_30 (by decide) rfl ?_
      refine x_icmp_ge (tgt := 169) (q := 35) hC d_Mo_arrive_32 (by decide) rfl (fun _ => ?_) (fun h => absurd (nI_le (Nat.le_refl _) (by decide)) h)
      refine x_aload_n (q := 170) hC d_Mo_arrive_169 rfl rfl rfl ?_
      refine x_callV (q := 173) (p := 185) (A := []) (S := []) (c1 := 0) (s1 := 0) hC (c_Mo_settle (r := r) (by omega) hu hr hx6) s_Mo_arrive_109 rfl (by omega) rfl rfl rfl (Nat.le_of_ble_eq_true rfl) rfl rfl (by decide) (by decide) d_Mo_arrive_170 rfl (fun r τ hP => ?_)
      obtain ⟨rfl, rfl⟩ := hP
      show mx_G Γ κ _ _ 173 [(4, .int (nI 6)), (3, .int (nI a7.1)), (0, .ref 185), (1, .int (nI s)), (2, .int (nI st))] [] (nx, u, Mo_settle r a7.2) 0 0
      refine x_iload_n (q := 174) hC d_Mo_arrive_173 rfl rfl rfl ?_
      subst e8
      subst ej
      exact x_iret hC rfl rfl ⟨rfl, rfl⟩ (by decide) (by decide) d_Mo_arrive_174
  refine x_aload_n (q := 1) hC d_Mo_arrive_0 rfl rfl rfl ?_
  refine x_iload_n (q := 2) hC d_Mo_arrive_1 rfl rfl rfl ?_
  refine x_iload_n (q := 3) hC d_Mo_arrive_2 rfl rfl rfl ?_
  refine x_iconst (q := 4) (v := nI 3) hC d_Mo_arrive_3 (by decide) rfl ?_
  refine x_irem (q := 5) (z := nI (st % 3)) hC d_Mo_arrive_4 (by decide) (pk_rem (by omega) (by decide) (by decide)) rfl ?_
  refine x_callV (q := 8) (p := 185) (A := [.int (nI s), .int (nI (st % 3))]) (S := []) (c1 := 0) (s1 := 0) hC (c_Mo_onLan (l := s) (g := st % 3) (by omega) hu (by omega) (by omega) ) s_Mo_arrive_130 rfl (by omega) rfl rfl rfl (Nat.le_of_ble_eq_true rfl) rfl rfl (by decide) (by decide) d_Mo_arrive_5 rfl (fun r τ hP => ?_)
  obtain ⟨rfl, rfl⟩ := hP
  show mx_G Γ κ _ _ 8 [(0, .ref 185), (1, .int (nI s)), (2, .int (nI st))] [.int (bz (Mo_on s (st % 3) mi))] (nx, u, mi) 0 0
  refine x_if_eq (tgt := 23) (q := 11) hC d_Mo_arrive_8 (by decide) rfl (fun h8 => ?_) (fun h8 => ?_)
  · have h8 := bz_0 h8
    exact x_sub (L1 := [(0, .ref 185), (1, .int (nI s)), (2, .int (nI st))]) [0, 1, 2] rfl (mx_eqG rfl rfl (pr (by exact it_f h8 rfl)) J1)
  · have h8 := bz_1 h8
    refine x_aload_n (q := 12) hC d_Mo_arrive_11 rfl rfl rfl ?_
    refine x_aload_n (q := 13) hC d_Mo_arrive_12 rfl rfl rfl ?_
    refine x_geti (q := 16) (p := 185) (j := 21) hC f_Mo_176 rfl rfl (by omega) d_Mo_arrive_13 rfl ?_
    refine x_iconst (q := 17) (v := nI 1) hC d_Mo_arrive_16 (by decide) rfl ?_
    refine x_iload_n (q := 18) hC d_Mo_arrive_17 rfl rfl rfl ?_
    refine x_ishl (q := 19) (z := (nI 1) <<< ((nI s) &&& 31)) hC d_Mo_arrive_18 rfl rfl ?_
    refine x_ior (q := 20) (z := (mi 185 21) ||| ((nI 1) <<< ((nI s) &&& 31))) hC d_Mo_arrive_19 rfl rfl ?_
    refine x_puti (q := 23) (p := 185) (j := 21) hC f_Mo_176 y_Mo rfl rfl rfl rfl rfl (by omega) (by decide) d_Mo_arrive_20 rfl ?_
    exact x_sub (L1 := [(0, .ref 185), (1, .int (nI s)), (2, .int (nI st))]) [0, 1, 2] rfl (mx_eqG rfl rfl (pr (by exact it_t h8 rfl)) J1)
