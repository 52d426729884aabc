set_option maxRecDepth 100000 in
set_option maxHeartbeats 400000 in
theorem c_Tr_sharedJoinOf {Γ : mx_X} {lau : Launch} {nx : Nat} {u : Nat → Nat → Bool} {mi : mx_Mm} {a n : Nat} (hnx : 165 ≤ nx) (hu : ∀ p k, 2 ≤ p → u p k = true) (ha : a < 3) (hn : n < 6) : mx_C Γ lau M_Tr_sharedJoinOf [.ref 79, .int (nI a), .int (nI n)] (nx, u, mi) (fun ρ τ => ρ = some (.int (mi (81 + a) n)) ∧ τ = (nx, u, mi)) := by
  refine mx_C.intro (by decide) rfl (Nat.le_of_ble_eq_true rfl) (fun κ _ hC => ?_)
  show mx_G Γ κ _ _ 0 [(0, .ref 79), (1, .int (nI a)), (2, .int (nI n))] [] (nx, u, mi) 0 0
  refine x_aload_n (q := 1) hC d_Tr_sharedJoinOf_0 rfl rfl rfl ?_
  refine x_getr (q := 4) (p := 79) (j := 5) (r := 80) hC f_Tr_11 rfl rfl rfl (by omega) (hu _ _ (by decide)) d_Tr_sharedJoinOf_1 rfl ?_
  refine x_iload_n (q := 5) hC d_Tr_sharedJoinOf_4 rfl rfl rfl ?_
  refine x_aald (q := 6) (p := 80) (r := 81 + a) hC a (mr_80 _ (by omega)) rfl (by omega) rfl (by omega) (by decide) d_Tr_sharedJoinOf_5 rfl ?_
  refine x_iload_n (q := 7) hC d_Tr_sharedJoinOf_6 rfl rfl rfl ?_
  refine x_iald (q := 8) (p := 81 + a) hC n (sh_81 _ (by omega)) (by omega) rfl (by omega) (by decide) d_Tr_sharedJoinOf_7 rfl ?_
  exact x_iret hC rfl rfl ⟨rfl, rfl⟩ (by decide) (by decide) d_Tr_sharedJoinOf_8
set_option maxRecDepth 100000 in
set_option maxHeartbeats 400000 in
theorem c_Tr_cutOf {Γ : mx_X} {lau : Launch} {nx : Nat} {u : Nat → Nat → Bool} {mi : mx_Mm} {a n : Nat} (hnx : 165 ≤ nx) (hu : ∀ p k, 2 ≤ p → u p k = true) (ha : a < 18) (hn : n < 6) : mx_C Γ lau M_Tr_cutOf [.ref 79, .int (nI a), .int (nI n)] (nx, u, mi) (fun ρ τ => ρ = some (.int (mi (89 + a) n)) ∧ τ = (nx, u, mi)) := by
  refine mx_C.intro (by decide) rfl (Nat.le_of_ble_eq_true rfl) (fun κ _ hC => ?_)
  show mx_G Γ κ _ _ 0 [(0, .ref 79), (1, .int (nI a)), (2, .int (nI n))] [] (nx, u, mi) 0 0
  refine x_aload_n (q := 1) hC d_Tr_cutOf_0 rfl rfl rfl ?_
  refine x_getr (q := 4) (p := 79) (j := 7) (r := 88) hC f_Tr_19 rfl rfl rfl (by omega) (hu _ _ (by decide)) d_Tr_cutOf_1 rfl ?_
  refine x_iload_n (q := 5) hC d_Tr_cutOf_4 rfl rfl rfl ?_
  refine x_aald (q := 6) (p := 88) (r := 89 + a) hC a (mr_88 _ (by omega)) rfl (by omega) rfl (by omega) (by decide) d_Tr_cutOf_5 rfl ?_
  refine x_iload_n (q := 7) hC d_Tr_cutOf_6 rfl rfl rfl ?_
  refine x_iald (q := 8) (p := 89 + a) hC n (sh_89 _ (by omega)) (by omega) rfl (by omega) (by decide) d_Tr_cutOf_7 rfl ?_
  exact x_iret hC rfl rfl ⟨rfl, rfl⟩ (by decide) (by decide) d_Tr_cutOf_8
set_option maxRecDepth 100000 in
set_option maxHeartbeats 400000 in
theorem c_Tr_sourceJoinOf {Γ : mx_X} {lau : Launch} {nx : Nat} {u : Nat → Nat → Bool} {mi : mx_Mm} {a n : Nat} (hnx : 165 ≤ nx) (hu : ∀ p k, 2 ≤ p → u p k = true) (ha : a < 18) (hn : n < 6) : mx_C Γ lau M_Tr_sourceJoinOf [.ref 79, .int (nI a), .int (nI n)] (nx, u, mi) (fun ρ τ => ρ = some (.int (mi (108 + a) n)) ∧ τ = (nx, u, mi)) := by
  refine mx_C.intro (by decide) rfl (Nat.le_of_ble_eq_true rfl) (fun κ _ hC => ?_)
  show mx_G Γ κ _ _ 0 [(0, .ref 79), (1, .int (nI a)), (2, .int (nI n))] [] (nx, u, mi) 0 0
  refine x_aload_n (q := 1) hC d_Tr_sourceJoinOf_0 rfl rfl rfl ?_
  refine x_getr (q := 4) (p := 79) (j := 8) (r := 107) hC f_Tr_22 rfl rfl rfl (by omega) (hu _ _ (by decide)) d_Tr_sourceJoinOf_1 rfl ?_
  refine x_iload_n (q := 5) hC d_Tr_sourceJoinOf_4 rfl rfl rfl ?_
  refine x_aald (q := 6) (p := 107) (r := 108 + a) hC a (mr_107 _ (by omega)) rfl (by omega) rfl (by omega) (by decide) d_Tr_sourceJoinOf_5 rfl ?_
  refine x_iload_n (q := 7) hC d_Tr_sourceJoinOf_6 rfl rfl rfl ?_
  refine x_iald (q := 8) (p := 108 + a) hC n (sh_108 _ (by omega)) (by omega) rfl (by omega) (by decide) d_Tr_sourceJoinOf_7 rfl ?_
  exact x_iret hC rfl rfl ⟨rfl, rfl⟩ (by decide) (by decide) d_Tr_sourceJoinOf_8
set_option maxRecDepth 100000 in
set_option maxHeartbeats 400000 in
theorem c_Tr_innerList {Γ : mx_X} {lau : Launch} {nx : Nat} {u : Nat → Nat → Bool} {mi : mx_Mm} {a n : Nat} (hnx : 165 ≤ nx) (hu : ∀ p k, 2 ≤ p → u p k = true) (ha : a < 18) (hn : n < 6) : mx_C Γ lau M_Tr_innerList [.ref 79, .int (nI a), .int (nI n)] (nx, u, mi) (fun ρ τ => ρ = some (.int (mi (127 + a) n)) ∧ τ = (nx, u, mi)) := by
  refine mx_C.intro (by decide) rfl (Nat.le_of_ble_eq_true rfl) (fun κ _ hC => ?_)
  show mx_G Γ κ _ _ 0 [(0, .ref 79), (1, .int (nI a)), (2, .int (nI n))] [] (nx, u, mi) 0 0
  refine x_aload_n (q := 1) hC d_Tr_innerList_0 rfl rfl rfl ?_
  refine x_getr (q := 4) (p := 79) (j := 9) (r := 126) hC f_Tr_25 rfl rfl rfl (by omega) (hu _ _ (by decide)) d_Tr_innerList_1 rfl ?_
  refine x_iload_n (q := 5) hC d_Tr_innerList_4 rfl rfl rfl ?_
  refine x_aald (q := 6) (p := 126) (r := 127 + a) hC a (mr_126 _ (by omega)) rfl (by omega) rfl (by omega) (by decide) d_Tr_innerList_5 rfl ?_
  refine x_iload_n (q := 7) hC d_Tr_innerList_6 rfl rfl rfl ?_
  refine x_iald (q := 8) (p := 127 + a) hC n (sh_127 _ (by omega)) (by omega) rfl (by omega) (by decide) d_Tr_innerList_7 rfl ?_
  exact x_iret hC rfl rfl ⟨rfl, rfl⟩ (by decide) (by decide) d_Tr_innerList_8
set_option maxRecDepth 100000 in
set_option maxHeartbeats 400000 in
theorem c_Tr_outerList {Γ : mx_X} {lau : Launch} {nx : Nat} {u : Nat → Nat → Bool} {mi : mx_Mm} {a n : Nat} (hnx : 165 ≤ nx) (hu : ∀ p k, 2 ≤ p → u p k = true) (ha : a < 18) (hn : n < 6) : mx_C Γ lau M_Tr_outerList [.ref 79, .int (nI a), .int (nI n)] (nx, u, mi) (fun ρ τ => ρ = some (.int (mi (146 + a) n)) ∧ τ = (nx, u, mi)) := by
  refine mx_C.intro (by decide) rfl (Nat.le_of_ble_eq_true rfl) (fun κ _ hC => ?_)
  show mx_G Γ κ _ _ 0 [(0, .ref 79), (1, .int (nI a)), (2, .int (nI n))] [] (nx, u, mi) 0 0
  refine x_aload_n (q := 1) hC d_Tr_outerList_0 rfl rfl rfl ?_
  refine x_getr (q := 4) (p := 79) (j := 10) (r := 145) hC f_Tr_28 rfl rfl rfl (by omega) (hu _ _ (by decide)) d_Tr_outerList_1 rfl ?_
  refine x_iload_n (q := 5) hC d_Tr_outerList_4 rfl rfl rfl ?_
  refine x_aald (q := 6) (p := 145) (r := 146 + a) hC a (mr_145 _ (by omega)) rfl (by omega) rfl (by omega) (by decide) d_Tr_outerList_5 rfl ?_
  refine x_iload_n (q := 7) hC d_Tr_outerList_6 rfl rfl rfl ?_
  refine x_iald (q := 8) (p := 146 + a) hC n (sh_146 _ (by omega)) (by omega) rfl (by omega) (by decide) d_Tr_outerList_7 rfl ?_
  exact x_iret hC rfl rfl ⟨rfl, rfl⟩ (by decide) (by decide) d_Tr_outerList_8
set_option maxRecDepth 100000 in
set_option maxHeartbeats 400000 in
theorem c_Tr_meetingPoint {Γ : mx_X} {lau : Launch} {nx : Nat} {u : Nat → Nat → Bool} {mi : mx_Mm}  (hnx : 165 ≤ nx) (hu : ∀ p k, 2 ≤ p → u p k = true)  : mx_C Γ lau M_Tr_meetingPoint [.ref 79] (nx, u, mi) (fun ρ τ => ρ = some (.int (mi 79 0)) ∧ τ = (nx, u, mi)) := by
  refine mx_C.intro (by decide) rfl (Nat.le_of_ble_eq_true rfl) (fun κ _ hC => ?_)
  show mx_G Γ κ _ _ 0 [(0, .ref 79)] [] (nx, u, mi) 0 0
  refine x_aload_n (q := 1) hC d_Tr_meetingPoint_0 rfl rfl rfl ?_
  refine x_geti (q := 4) (p := 79) (j := 0) hC f_Tr_35 rfl rfl (by omega) d_Tr_meetingPoint_1 rfl ?_
  exact x_iret hC rfl rfl ⟨rfl, rfl⟩ (by decide) (by decide) d_Tr_meetingPoint_4
set_option maxRecDepth 100000 in
set_option maxHeartbeats 400000 in
theorem c_Tr_announce {Γ : mx_X} {lau : Launch} {nx : Nat} {u : Nat → Nat → Bool} {mi : mx_Mm} {k n : Nat} {x y : Int32} (hnx : 165 ≤ nx) (hu : ∀ p k, 2 ≤ p → u p k = true) (hk : k < 9) (hn : n < 6) (hx : rng6 x) : mx_C Γ lau M_Tr_announce [.ref 79, .int (nI k), .int (nI n), .int x, .int y] (nx, u, mi) (fun ρ τ => ρ = none ∧ τ = (nx, u, Tr_ann k n x y mi)) := by
  refine mx_C.intro (by decide) rfl (Nat.le_of_ble_eq_true rfl) (fun κ _ hC => ?_)
  show mx_G Γ κ _ _ 0 [(0, .ref 79), (1, .int (nI k)), (2, .int (nI n)), (3, .int x), (4, .int y)] [] (nx, u, mi) 0 0
  refine x_iload_n (q := 1) hC d_Tr_announce_0 rfl rfl rfl ?_
  refine x_iload (q := 3) hC d_Tr_announce_1 rfl rfl ?_
  refine x_icmp_ne (tgt := 7) (q := 6) hC d_Tr_announce_3 (by decide) rfl (fun h3 => ?_) (fun h3 => ?_)
  · skip
    refine x_iload_n (q := 8) hC d_Tr_announce_7 rfl rfl rfl ?_
    refine x_iconst (q := 9) (v := (-1)) hC d_Tr_announce_8 (by decide) rfl ?_
    have J1 : mx_G Γ κ M_Tr_announce (MQ (mx_b κ) (mx_Qc Γ (fun ρ τ => ρ = none ∧ τ = (nx, u, Tr_ann k n x y mi))) (mx_a κ) (mx_s κ) M_Tr_announce.2.2.2.2.cells M_Tr_announce.2.2.2.2.slots (mx_fr Γ)) 34 [(0, .ref 79), (1, .int (nI k)), (2, .int (nI n)), (3, .int x), (4, .int y)] [] (nx, u, Tr_a1 k n x mi) 0 0 := by
      refine x_iload (q := 36) hC d_Tr_announce_34 rfl rfl ?_
      refine x_iconst (q := 37) (v := (-1)) hC d_Tr_announce_36 (by decide) rfl ?_
      refine x_icmp_eq (tgt := 48) (q := 40) hC d_Tr_announce_37 (by decide) rfl (fun h37 => ?_) (fun h37 => ?_)
      · skip
        exact x_vret hC rfl ⟨rfl, by first | exact pr (it_t h3 rfl) | exact pr (it_f h3 (it_t h37 rfl)) | exact pr (it_f h3 (it_f h37 rfl))⟩ (by decide) (by decide) d_Tr_announce_48
      · skip
        refine x_aload_n (q := 41) hC d_Tr_announce_40 rfl rfl rfl ?_
        refine x_getr (q := 44) (p := 79) (j := 4) (r := 3) hC f_Tr_51 rfl rfl rfl (by omega) (hu _ _ (by decide)) d_Tr_announce_41 rfl ?_
        refine x_iload_n (q := 45) hC d_Tr_announce_44 rfl rfl rfl ?_
        refine x_callV (q := 48) (p := 3) (A := [.int (nI k)]) (S := []) (c1 := 0) (s1 := 0) hC (c_Ta_count (k := k) (by omega) hu (by omega)) s_Tr_announce_109 rfl (by omega) rfl rfl rfl (Nat.le_of_ble_eq_true rfl) rfl rfl (by decide) (by decide) d_Tr_announce_45 rfl (fun r τ hP => ?_)
        obtain ⟨rfl, rfl⟩ := hP
        show mx_G Γ κ _ _ 48 [(0, .ref 79), (1, .int (nI k)), (2, .int (nI n)), (3, .int x), (4, .int y)] [] (nx, u, mx_up (Tr_a1 k n x mi) 4 k ((Tr_a1 k n x mi) 4 k + nI 1)) 0 0
        exact x_vret hC rfl ⟨rfl, by first | exact pr (it_t h3 rfl) | exact pr (it_f h3 (it_t h37 rfl)) | exact pr (it_f h3 (it_f h37 rfl))⟩ (by decide) (by decide) d_Tr_announce_48
    refine x_icmp_eq (tgt := 34) (q := 12) hC d_Tr_announce_9 (by decide) rfl (fun h9 => ?_) (fun h9 => ?_)
    · skip
      exact x_sub (L1 := [(0, .ref 79), (1, .int (nI k)), (2, .int (nI n)), (3, .int x), (4, .int y)]) [0, 1, 2, 3, 4] rfl (mx_eqG rfl rfl (pr (by first | exact it_t h9 rfl | exact it_f h9 (it_t h21 rfl) | exact it_f h9 (it_f h21 rfl))) J1)
    · skip
      obtain ⟨eb, hb⟩ := hx.tn h9
      refine mx_eqG (L1 := [(0, .ref 79), (1, .int (nI k)), (2, .int (nI n)), (3, .int (nI (tn x))), (4, .int y)]) (by rw [← eb]) rfl rfl ?_
      refine x_aload_n (q := 13) hC d_Tr_announce_12 rfl rfl rfl ?_
      refine x_getr (q := 16) (p := 79) (j := 1) (r := 5) hC f_Tr_39 rfl rfl rfl (by omega) (hu _ _ (by decide)) d_Tr_announce_13 rfl ?_
      refine x_iload_n (q := 17) hC d_Tr_announce_16 rfl rfl rfl ?_
      refine x_iload_n (q := 18) hC d_Tr_announce_17 rfl rfl rfl ?_
      refine x_callV (q := 21) (p := 5) (A := [.int (nI n), .int (nI (tn x))]) (S := []) (c1 := 0) (s1 := 0) hC (c_Ne_areLinked (a := n) (b := tn x) (by omega) hu (by omega) (by omega)) s_Tr_announce_106 rfl (by omega) rfl rfl rfl (Nat.le_of_ble_eq_true rfl) rfl rfl (by decide) (by decide) d_Tr_announce_18 rfl (fun r τ hP => ?_)
      obtain ⟨rfl, rfl⟩ := hP
      show mx_G Γ κ _ _ 21 [(0, .ref 79), (1, .int (nI k)), (2, .int (nI n)), (3, .int (nI (tn x))), (4, .int y)] [.int (bz (¬ mi (7 + n) (tn x) = 0))] (nx, u, mi) 0 0
      refine x_if_eq (tgt := 34) (q := 24) hC d_Tr_announce_21 (by decide) rfl (fun h21 => ?_) (fun h21 => ?_)
      · have h21 := bz_0 h21
        exact x_sub (L1 := [(0, .ref 79), (1, .int (nI k)), (2, .int (nI n)), (3, .int (nI (tn x))), (4, .int y)]) [0, 1, 2, 3, 4] rfl (mx_eqG (by rw [← eb]) rfl (pr (by first | exact it_t h9 rfl | exact it_f h9 (it_t h21 rfl) | exact it_f h9 (it_f h21 rfl))) J1)
      · have h21 := bz_1 h21
        refine x_aload_n (q := 25) hC d_Tr_announce_24 rfl rfl rfl ?_
        refine x_getr (q := 28) (p := 79) (j := 4) (r := 3) hC f_Tr_51 rfl rfl rfl (by omega) (hu _ _ (by decide)) d_Tr_announce_25 rfl ?_
        refine x_iload_n (q := 29) hC d_Tr_announce_28 rfl rfl rfl ?_
        refine x_iconst (q := 30) (v := nI 1) hC d_Tr_announce_29 (by decide) rfl ?_
        refine x_iadd (q := 31) (z := nI (k + 1)) hC d_Tr_announce_30 (nI_add _ _) rfl ?_
        refine x_callV (q := 34) (p := 3) (A := [.int (nI (k + 1))]) (S := []) (c1 := 0) (s1 := 0) hC (c_Ta_count (k := k + 1) (by omega) hu (by omega)) s_Tr_announce_109 rfl (by omega) rfl rfl rfl (Nat.le_of_ble_eq_true rfl) rfl rfl (by decide) (by decide) d_Tr_announce_31 rfl (fun r τ hP => ?_)
        obtain ⟨rfl, rfl⟩ := hP
        show mx_G Γ κ _ _ 34 [(0, .ref 79), (1, .int (nI k)), (2, .int (nI n)), (3, .int (nI (tn x))), (4, .int y)] [] (nx, u, mx_up mi 4 (k + 1) (mi 4 (k + 1) + nI 1)) 0 0
        exact x_sub (L1 := [(0, .ref 79), (1, .int (nI k)), (2, .int (nI n)), (3, .int (nI (tn x))), (4, .int y)]) [0, 1, 2, 3, 4] rfl (mx_eqG (by rw [← eb]) rfl (pr (by first | exact it_t h9 rfl | exact it_f h9 (it_t h21 rfl) | exact it_f h9 (it_f h21 rfl))) J1)
  · skip
    exact x_vret hC rfl ⟨rfl, by first | exact pr (it_t h3 rfl) | exact pr (it_f h3 (it_t h37 rfl)) | exact pr (it_f h3 (it_f h37 rfl))⟩ (by decide) (by decide) d_Tr_announce_6
set_option maxRecDepth 100000 in
set_option maxHeartbeats 400000 in
theorem c_Tr_settleShared {Γ : mx_X} {lau : Launch} {nx : Nat} {u : Nat → Nat → Bool} {mi : mx_Mm} {g r : Nat} (hnx : 165 ≤ nx) (hu : ∀ p k, 2 ≤ p → u p k = true) (hg : g < 3) (hr : r < 6) (hok : Tr_ok r mi) : mx_C Γ lau M_Tr_settleShared [.ref 79, .int (nI g)] (nx, u, mi) (fun ρ τ => ρ = none ∧ τ = (nx, u, Tr_shared g r mi)) := by
  refine mx_C.intro (by decide) rfl (Nat.le_of_ble_eq_true rfl) (fun κ _ hC => ?_)
  show mx_G Γ κ _ _ 0 [(0, .ref 79), (1, .int (nI g))] [] (nx, u, mi) 0 0
  refine x_aload_n (q := 1) hC d_Tr_settleShared_0 rfl rfl rfl ?_
  refine x_getr (q := 4) (p := 79) (j := 6) (r := 84) hC f_Tr_16 rfl rfl rfl (by omega) (hu _ _ (by decide)) d_Tr_settleShared_1 rfl ?_
  refine x_iload_n (q := 5) hC d_Tr_settleShared_4 rfl rfl rfl ?_
  refine x_aald (q := 6) (p := 84) (r := 85 + g) hC g (mr_84 _ (by omega)) rfl (by omega) rfl (by omega) (by decide) d_Tr_settleShared_5 rfl ?_
  refine x_astore_n (q := 7) (L1 := [(2, .ref (85 + g)), (0, .ref 79), (1, .int (nI g))]) hC d_Tr_settleShared_6 rfl (by decide) rfl rfl ?_
  refine x_aload_n (q := 8) hC d_Tr_settleShared_7 rfl rfl rfl ?_
  refine x_iconst (q := 9) (v := nI 0) hC d_Tr_settleShared_8 (by decide) rfl ?_
  refine x_callS (q := 12) (A := [.ref (85 + g), .int (nI 0)]) (S := []) (c1 := 0) (s1 := 0) hC (c_JA_fill (p := 85 + g) (n := 6) (v := nI 0) (sh_85 _ (by omega)) (by omega) (by omega) (by decide)) s_Tr_settleShared_55 rfl rfl rfl (Nat.le_of_ble_eq_true rfl) rfl rfl (by decide) (by decide) d_Tr_settleShared_9 rfl (fun r τ hP => ?_)
  obtain ⟨rfl, rfl⟩ := hP
  show mx_G Γ κ _ _ 12 [(2, .ref (85 + g)), (0, .ref 79), (1, .int (nI g))] [] (nx, u, fill_m (85 + g) 6 (nI 0) mi) 0 0
  refine x_iconst (q := 13) (v := nI 0) hC d_Tr_settleShared_12 (by decide) rfl ?_
  refine x_istore_n (q := 14) (L1 := [(3, .int (nI 0)), (2, .ref (85 + g)), (0, .ref 79), (1, .int (nI g))]) hC d_Tr_settleShared_13 rfl (by decide) rfl rfl ?_
  refine x_sub (L1 := [(3, .int (nI 0)), (2, .ref (85 + g)), (0, .ref 79), (1, .int (nI g))]) [0, 1, 2, 3] rfl ?_
  refine mx_loop (N := 6) (Hd := fun k m1 => mx_G Γ κ _ _ 14 [(3, .int (nI k)), (2, .ref (85 + g)), (0, .ref 79), (1, .int (nI g))] [] (nx, u, m1) 0 0) (Tr_sh1 g r) (fun _ m => Tr_ok r m) (by subst_vars; exact Tr_fill_ok (by omega) hok) ?_ ?_ ?_
  · exact fun k m hk h => Tr_sh1_ok hg hr hk h
  · intro k m1 hl2 hI3 hN4
    refine x_iload_n (q := 15) hC d_Tr_settleShared_14 rfl rfl rfl ?_
    refine x_bipush (q := 17) (v := nI 6) hC d_Tr_settleShared_15 (by decide) rfl ?_
    refine x_icmp_ge (tgt := 137) (q := 20) hC d_Tr_settleShared_17 (by decide) rfl (fun h => absurd h (nI_ge hl2 (by decide))) (fun _ => ?_)
    refine x_aload_n (q := 21) hC d_Tr_settleShared_20 rfl rfl rfl ?_
    refine x_getr (q := 24) (p := 79) (j := 1) (r := 5) hC f_Tr_39 rfl rfl rfl (by omega) (hu _ _ (by decide)) d_Tr_settleShared_21 rfl ?_
    refine x_aload_n (q := 25) hC d_Tr_settleShared_24 rfl rfl rfl ?_
    refine x_geti (q := 28) (p := 79) (j := 0) hC f_Tr_35 rfl rfl (by omega) d_Tr_settleShared_25 rfl ?_
    refine mx_eqG (S1 := [.int (nI r), .ref 5]) rfl (by exact congrArg (fun z => Value.int z :: ([.ref 5] : List Value)) (show m1 79 0 = nI r from hI3.1)) rfl ?_
    refine x_iload_n (q := 29) hC d_Tr_settleShared_28 rfl rfl rfl ?_
    refine x_callV (q := 32) (p := 5) (A := [.int (nI r), .int (nI k)]) (S := []) (c1 := 0) (s1 := 0) hC (c_Ne_fromFarthest (a := r) (b := k) (by omega) hu (by omega) (by omega)) s_Tr_settleShared_72 rfl (by omega) rfl rfl rfl (Nat.le_of_ble_eq_true rfl) rfl rfl (by decide) (by decide) d_Tr_settleShared_29 rfl (fun r τ hP => ?_)
    obtain ⟨rfl, rfl⟩ := hP
    show mx_G Γ κ _ _ 32 [(3, .int (nI k)), (2, .ref (85 + g)), (0, .ref 79), (1, .int (nI g))] [.int (m1 (28 + r) k)] (nx, u, m1) 0 0
    refine x_istore (q := 34) (L1 := [(4, .int (m1 (28 + r) k)), (3, .int (nI k)), (2, .ref (85 + g)), (0, .ref 79), (1, .int (nI g))]) hC d_Tr_settleShared_32 (by decide) rfl rfl ?_
    obtain ⟨n, hn, en, et⟩ := Tr_ok.n hI3 (t := r) (k := k) (by omega) (by omega)
    refine mx_eqG (L1 := [(4, .int (nI n)), (3, .int (nI k)), (2, .ref (85 + g)), (0, .ref 79), (1, .int (nI g))]) (by rw [en]) rfl rfl ?_
    refine x_aload_n (q := 35) hC d_Tr_settleShared_34 rfl rfl rfl ?_
    refine x_getr (q := 38) (p := 79) (j := 2) (r := 34) hC f_Tr_43 rfl rfl rfl (by omega) (hu _ _ (by decide)) d_Tr_settleShared_35 rfl ?_
    have J5 : mx_G Γ κ M_Tr_settleShared (MQ (mx_b κ) (mx_Qc Γ (fun ρ τ => ρ = none ∧ τ = (nx, u, Tr_shared g r mi))) (mx_a κ) (mx_s κ) M_Tr_settleShared.2.2.2.2.cells M_Tr_settleShared.2.2.2.2.slots (mx_fr Γ)) 85 [(6, .int (Tr_at g r n m1)), (4, .int (nI n)), (3, .int (nI k)), (2, .ref (85 + g)), (0, .ref 79), (1, .int (nI g))] [] (nx, u, m1) 0 0 := by
      have J6 : mx_G Γ κ M_Tr_settleShared (MQ (mx_b κ) (mx_Qc Γ (fun ρ τ => ρ = none ∧ τ = (nx, u, Tr_shared g r mi))) (mx_a κ) (mx_s κ) M_Tr_settleShared.2.2.2.2.cells M_Tr_settleShared.2.2.2.2.slots (mx_fr Γ)) 102 [(6, .int (Tr_at g r n m1)), (4, .int (nI n)), (3, .int (nI k)), (2, .ref (85 + g)), (0, .ref 79), (1, .int (nI g))] [] (nx, u, Tr_s2 g n (Tr_at g r n m1) m1) 0 0 := by
        refine mx_nr (fun mj ej => ?_)
        have hIj : Tr_ok r mj := ej ▸ Tr_s2_ok hg hI3
        refine x_aload_n (q := 103) hC d_Tr_settleShared_102 rfl rfl rfl ?_
        refine x_iconst (q := 104) (v := nI 0) hC d_Tr_settleShared_103 (by decide) rfl ?_
        refine x_iload (q := 106) hC d_Tr_settleShared_104 rfl rfl ?_
        refine x_aload_n (q := 107) hC d_Tr_settleShared_106 rfl rfl rfl ?_
        refine x_getr (q := 110) (p := 79) (j := 5) (r := 80) hC f_Tr_11 rfl rfl rfl (by omega) (hu _ _ (by decide)) d_Tr_settleShared_107 rfl ?_
        refine x_iload_n (q := 111) hC d_Tr_settleShared_110 rfl rfl rfl ?_
        refine x_aald (q := 112) (p := 80) (r := 81 + g) hC g (mr_80 _ (by omega)) rfl (by omega) rfl (by omega) (by decide) d_Tr_settleShared_111 rfl ?_
        refine x_iload (q := 114) hC d_Tr_settleShared_112 rfl rfl ?_
        refine x_iald (q := 115) (p := 81 + g) hC n (sh_81 _ (by omega)) (by omega) rfl (by omega) (by decide) d_Tr_settleShared_114 rfl ?_
        refine x_iload (q := 117) hC d_Tr_settleShared_115 rfl rfl ?_
        refine x_callV (q := 120) (p := 79) (A := [.int (nI 0), .int (nI n), .int (mj (81 + g) n), .int (Tr_at g r n m1)]) (S := []) (c1 := 0) (s1 := 0) hC (c_Tr_announce (k := 0) (n := n) (x := mj (81 + g) n) (y := Tr_at g r n m1) (by omega) hu (by omega) (by omega) (hIj.2.2.2.1 g n hg hn)) s_Tr_settleShared_87 rfl (by omega) rfl rfl rfl (Nat.le_of_ble_eq_true rfl) rfl rfl (by decide) (by decide) d_Tr_settleShared_117 rfl (fun r τ hP => ?_)
        obtain ⟨rfl, rfl⟩ := hP
        show mx_G Γ κ _ _ 120 [(6, .int (Tr_at g r n m1)), (4, .int (nI n)), (3, .int (nI k)), (2, .ref (85 + g)), (0, .ref 79), (1, .int (nI g))] [] (nx, u, Tr_ann 0 n (mj (81 + g) n) (Tr_at g r n m1) mj) 0 0
        refine x_aload_n (q := 121) hC d_Tr_settleShared_120 rfl rfl rfl ?_
        refine x_getr (q := 124) (p := 79) (j := 5) (r := 80) hC f_Tr_11 rfl rfl rfl (by omega) (hu _ _ (by decide)) d_Tr_settleShared_121 rfl ?_
        refine x_iload_n (q := 125) hC d_Tr_settleShared_124 rfl rfl rfl ?_
        refine x_aald (q := 126) (p := 80) (r := 81 + g) hC g (mr_80 _ (by omega)) rfl (by omega) rfl (by omega) (by decide) d_Tr_settleShared_125 rfl ?_
        refine x_iload (q := 128) hC d_Tr_settleShared_126 rfl rfl ?_
        refine x_iload (q := 130) hC d_Tr_settleShared_128 rfl rfl ?_
        refine x_iast (q := 131) (p := 81 + g) hC n (sh_81 _ (by omega)) (by omega) (by omega) rfl (by omega) (by decide) d_Tr_settleShared_130 rfl ?_
        refine mx_nr (fun m7 e8 => ?_)
        refine x_iinc (q := 134) (y := nI (k + 1)) (L1 := [(3, .int (nI (k + 1))), (6, .int (Tr_at g r n m1)), (4, .int (nI n)), (2, .ref (85 + g)), (0, .ref 79), (1, .int (nI g))]) hC d_Tr_settleShared_131 rfl (mx_inc k) (by decide) rfl rfl ?_
        refine x_goto (tgt := 14) hC d_Tr_settleShared_134 (by decide) ?_
        subst e8
        subst ej
        exact x_close hN4 [0, 3, 4, 5] rfl (by show _ = Tr_s1 g r (tn _) _; rw [et] <;> rfl)
      refine x_iload (q := 87) hC d_Tr_settleShared_85 rfl rfl ?_
      refine x_iconst (q := 88) (v := (-1)) hC d_Tr_settleShared_87 (by decide) rfl ?_
      refine x_icmp_eq (tgt := 102) (q := 91) hC d_Tr_settleShared_88 (by decide) rfl (fun h88 => ?_) (fun h88 => ?_)
      · skip
        exact x_sub (L1 := [(6, .int (Tr_at g r n m1)), (4, .int (nI n)), (3, .int (nI k)), (2, .ref (85 + g)), (0, .ref 79), (1, .int (nI g))]) [0, 1, 2, 3, 4, 5] rfl (mx_eqG rfl rfl (pr (by first | exact it_t h88 rfl | exact it_f h88 rfl)) J6)
      · skip
        obtain ⟨ea, ha⟩ := (Tr_at_rng (g := g) hI3 hn hr).tn h88
        refine x_aload_n (q := 92) hC d_Tr_settleShared_91 rfl rfl rfl ?_
        refine x_iload (q := 94) hC d_Tr_settleShared_92 rfl rfl ?_
        refine x_dup2 (q := 95) hC d_Tr_settleShared_94 rfl rfl rfl ?_
        refine x_iald (q := 96) (p := 85 + g) hC (tn (Tr_at g r n m1)) (sh_85 _ (by omega)) (by omega) ea ha (by decide) d_Tr_settleShared_95 rfl ?_
        refine x_iconst (q := 97) (v := nI 1) hC d_Tr_settleShared_96 (by decide) rfl ?_
        refine x_iload (q := 99) hC d_Tr_settleShared_97 rfl rfl ?_
        refine x_ishl (q := 100) (z := (nI 1) <<< ((nI n) &&& 31)) hC d_Tr_settleShared_99 rfl rfl ?_
        refine x_ior (q := 101) (z := (m1 (85 + g) (tn (Tr_at g r n m1))) ||| ((nI 1) <<< ((nI n) &&& 31))) hC d_Tr_settleShared_100 rfl rfl ?_
        refine x_iast (q := 102) (p := 85 + g) hC (tn (Tr_at g r n m1)) (sh_85 _ (by omega)) (by omega) (by omega) ea ha (by decide) d_Tr_settleShared_101 rfl ?_
        refine mx_nr (fun m9 e10 => ?_)
        exact x_sub (L1 := [(6, .int (Tr_at g r n m1)), (4, .int (nI n)), (3, .int (nI k)), (2, .ref (85 + g)), (0, .ref 79), (1, .int (nI g))]) [0, 1, 2, 3, 4, 5] rfl (mx_eqG rfl rfl (pr (by subst e10; first | exact it_t h88 rfl | exact it_f h88 rfl)) J6)
    refine x_iload (q := 40) hC d_Tr_settleShared_38 rfl rfl ?_
    refine x_iload_n (q := 41) hC d_Tr_settleShared_40 rfl rfl rfl ?_
    refine x_callV (q := 44) (p := 34) (A := [.int (nI n), .int (nI g)]) (S := []) (c1 := 0) (s1 := 0) hC (c_La_isMarked (l := n) (g := g) (by omega) hu (by omega) (by omega) ) s_Tr_settleShared_78 rfl (by omega) rfl rfl rfl (Nat.le_of_ble_eq_true rfl) rfl rfl (by decide) (by decide) d_Tr_settleShared_41 rfl (fun r τ hP => ?_)
    obtain ⟨rfl, rfl⟩ := hP
    show mx_G Γ κ _ _ 44 [(4, .int (nI n)), (3, .int (nI k)), (2, .ref (85 + g)), (0, .ref 79), (1, .int (nI g))] [.int (bz (m1 2 0 < m1 (43 + n) g))] (nx, u, m1) 0 0
    refine x_if_ne (tgt := 54) (q := 47) hC d_Tr_settleShared_44 (by decide) rfl (fun h44 => ?_) (fun h44 => ?_)
    · have h44 := bz_1 h44
      refine x_iconst (q := 55) (v := nI 1) hC d_Tr_settleShared_54 (by decide) rfl ?_
      refine x_goto (tgt := 59) hC d_Tr_settleShared_55 (by decide) ?_
      refine x_istore (q := 61) (L1 := [(5, .int (nI 1)), (4, .int (nI n)), (3, .int (nI k)), (2, .ref (85 + g)), (0, .ref 79), (1, .int (nI g))]) hC d_Tr_settleShared_59 (by decide) rfl rfl ?_
      refine x_iload (q := 63) hC d_Tr_settleShared_61 rfl rfl ?_
      refine x_if_eq (tgt := 82) (q := 66) hC d_Tr_settleShared_63 (by decide) rfl (fun h => absurd h (by decide)) (fun _ => ?_)
      refine x_aload_n (q := 67) hC d_Tr_settleShared_66 rfl rfl rfl ?_
      refine x_getr (q := 70) (p := 79) (j := 1) (r := 5) hC f_Tr_39 rfl rfl rfl (by omega) (hu _ _ (by decide)) d_Tr_settleShared_67 rfl ?_
      refine x_iload (q := 72) hC d_Tr_settleShared_70 rfl rfl ?_
      refine x_aload_n (q := 73) hC d_Tr_settleShared_72 rfl rfl rfl ?_
      refine x_geti (q := 76) (p := 79) (j := 0) hC f_Tr_35 rfl rfl (by omega) d_Tr_settleShared_73 rfl ?_
      refine mx_eqG (S1 := [.int (nI r), .int (nI n), .ref 5]) rfl (by exact congrArg (fun z => Value.int z :: ([.int (nI n), .ref 5] : List Value)) (show m1 79 0 = nI r from hI3.1)) rfl ?_
      refine x_callV (q := 79) (p := 5) (A := [.int (nI n), .int (nI r)]) (S := []) (c1 := 0) (s1 := 0) hC (c_Ne_nextTowards (a := n) (b := r) (by omega) hu (by omega) (by omega)) s_Tr_settleShared_84 rfl (by omega) rfl rfl rfl (Nat.le_of_ble_eq_true rfl) rfl rfl (by decide) (by decide) d_Tr_settleShared_76 rfl (fun r τ hP => ?_)
      obtain ⟨rfl, rfl⟩ := hP
      show mx_G Γ κ _ _ 79 [(5, .int (nI 1)), (4, .int (nI n)), (3, .int (nI k)), (2, .ref (85 + g)), (0, .ref 79), (1, .int (nI g))] [.int (m1 (21 + n) r)] (nx, u, m1) 0 0
      refine x_goto (tgt := 83) hC d_Tr_settleShared_79 (by decide) ?_
      refine x_istore (q := 85) (L1 := [(6, .int (m1 (21 + n) r)), (5, .int (nI 1)), (4, .int (nI n)), (3, .int (nI k)), (2, .ref (85 + g)), (0, .ref 79), (1, .int (nI g))]) hC d_Tr_settleShared_83 (by decide) rfl rfl ?_
      exact x_sub (L1 := [(6, .int (m1 (21 + n) r)), (4, .int (nI n)), (3, .int (nI k)), (2, .ref (85 + g)), (0, .ref 79), (1, .int (nI g))]) [0, 2, 3, 4, 5, 6] rfl (mx_eqG (by first | rw [Tr_at, if_pos (Or.inl h44)] | rw [Tr_at, if_pos (Or.inr h51)] | rw [Tr_at, if_neg (fun q => q.elim h44 (fun z => z h51))]) rfl rfl J5)
    · have h44 := bz_0 h44
      refine x_aload_n (q := 48) hC d_Tr_settleShared_47 rfl rfl rfl ?_
      refine x_iload (q := 50) hC d_Tr_settleShared_48 rfl rfl ?_
      refine x_iald (q := 51) (p := 85 + g) hC n (sh_85 _ (by omega)) (by omega) rfl (by omega) (by decide) d_Tr_settleShared_50 rfl ?_
      refine x_if_eq (tgt := 58) (q := 54) hC d_Tr_settleShared_51 (by decide) rfl (fun h51 => ?_) (fun h51 => ?_)
      · skip
        refine x_iconst (q := 59) (v := nI 0) hC d_Tr_settleShared_58 (by decide) rfl ?_
        refine x_istore (q := 61) (L1 := [(5, .int (nI 0)), (4, .int (nI n)), (3, .int (nI k)), (2, .ref (85 + g)), (0, .ref 79), (1, .int (nI g))]) hC d_Tr_settleShared_59 (by decide) rfl rfl ?_
        refine x_iload (q := 63) hC d_Tr_settleShared_61 rfl rfl ?_
        refine x_if_eq (tgt := 82) (q := 66) hC d_Tr_settleShared_63 (by decide) rfl (fun _ => ?_) (fun h => absurd (by decide) h)
        refine x_iconst (q := 83) (v := (-1)) hC d_Tr_settleShared_82 (by decide) rfl ?_
        refine x_istore (q := 85) (L1 := [(6, .int ((-1))), (5, .int (nI 0)), (4, .int (nI n)), (3, .int (nI k)), (2, .ref (85 + g)), (0, .ref 79), (1, .int (nI g))]) hC d_Tr_settleShared_83 (by decide) rfl rfl ?_
        exact x_sub (L1 := [(6, .int ((-1))), (4, .int (nI n)), (3, .int (nI k)), (2, .ref (85 + g)), (0, .ref 79), (1, .int (nI g))]) [0, 2, 3, 4, 5, 6] rfl (mx_eqG (by first | rw [Tr_at, if_pos (Or.inl h44)] | rw [Tr_at, if_pos (Or.inr h51)] | rw [Tr_at, if_neg (fun q => q.elim h44 (fun z => z h51))]) rfl rfl J5)
      · skip
        refine x_iconst (q := 55) (v := nI 1) hC d_Tr_settleShared_54 (by decide) rfl ?_
        refine x_goto (tgt := 59) hC d_Tr_settleShared_55 (by decide) ?_
        refine x_istore (q := 61) (L1 := [(5, .int (nI 1)), (4, .int (nI n)), (3, .int (nI k)), (2, .ref (85 + g)), (0, .ref 79), (1, .int (nI g))]) hC d_Tr_settleShared_59 (by decide) rfl rfl ?_
        refine x_iload (q := 63) hC d_Tr_settleShared_61 rfl rfl ?_
        refine x_if_eq (tgt := 82) (q := 66) hC d_Tr_settleShared_63 (by decide) rfl (fun h => absurd h (by decide)) (fun _ => ?_)
        refine x_aload_n (q := 67) hC d_Tr_settleShared_66 rfl rfl rfl ?_
        refine x_getr (q := 70) (p := 79) (j := 1) (r := 5) hC f_Tr_39 rfl rfl rfl (by omega) (hu _ _ (by decide)) d_Tr_settleShared_67 rfl ?_
        refine x_iload (q := 72) hC d_Tr_settleShared_70 rfl rfl ?_
        refine x_aload_n (q := 73) hC d_Tr_settleShared_72 rfl rfl rfl ?_
        refine x_geti (q := 76) (p := 79) (j := 0) hC f_Tr_35 rfl rfl (by omega) d_Tr_settleShared_73 rfl ?_
        refine mx_eqG (S1 := [.int (nI r), .int (nI n), .ref 5]) rfl (by exact congrArg (fun z => Value.int z :: ([.int (nI n), .ref 5] : List Value)) (show m1 79 0 = nI r from hI3.1)) rfl ?_
        refine x_callV (q := 79) (p := 5) (A := [.int (nI n), .int (nI r)]) (S := []) (c1 := 0) (s1 := 0) hC (c_Ne_nextTowards (a := n) (b := r) (by omega) hu (by omega) (by omega)) s_Tr_settleShared_84 rfl (by omega) rfl rfl rfl (Nat.le_of_ble_eq_true rfl) rfl rfl (by decide) (by decide) d_Tr_settleShared_76 rfl (fun r τ hP => ?_)
        obtain ⟨rfl, rfl⟩ := hP
        show mx_G Γ κ _ _ 79 [(5, .int (nI 1)), (4, .int (nI n)), (3, .int (nI k)), (2, .ref (85 + g)), (0, .ref 79), (1, .int (nI g))] [.int (m1 (21 + n) r)] (nx, u, m1) 0 0
        refine x_goto (tgt := 83) hC d_Tr_settleShared_79 (by decide) ?_
        refine x_istore (q := 85) (L1 := [(6, .int (m1 (21 + n) r)), (5, .int (nI 1)), (4, .int (nI n)), (3, .int (nI k)), (2, .ref (85 + g)), (0, .ref 79), (1, .int (nI g))]) hC d_Tr_settleShared_83 (by decide) rfl rfl ?_
        exact x_sub (L1 := [(6, .int (m1 (21 + n) r)), (4, .int (nI n)), (3, .int (nI k)), (2, .ref (85 + g)), (0, .ref 79), (1, .int (nI g))]) [0, 2, 3, 4, 5, 6] rfl (mx_eqG (by first | rw [Tr_at, if_pos (Or.inl h44)] | rw [Tr_at, if_pos (Or.inr h51)] | rw [Tr_at, if_neg (fun q => q.elim h44 (fun z => z h51))]) rfl rfl J5)
  · intro hx11
    refine mx_nr (fun m12 e13 => ?_)
    try rw [e13] at hx11
    refine x_iload_n (q := 15) hC d_Tr_settleShared_14 rfl rfl rfl ?_
    refine x_bipush (q := 17) (v := nI 6) hC d_Tr_settleShared_15 (by decide) rfl ?_
    refine x_icmp_ge (tgt := 137) (q := 20) hC d_Tr_settleShared_17 (by decide) rfl (fun _ => ?_) (fun h => absurd (nI_le (Nat.le_refl _) (by decide)) h)
    subst e13
    exact x_vret hC rfl ⟨rfl, rfl⟩ (by decide) (by decide) d_Tr_settleShared_137
set_option maxRecDepth 100000 in
set_option maxHeartbeats 400000 in
theorem c_Tr_takesElsewhere {Γ : mx_X} {lau : Launch} {nx : Nat} {u : Nat → Nat → Bool} {mi : mx_Mm} {st s n r : Nat} (hnx : 165 ≤ nx) (hu : ∀ p k, 2 ≤ p → u p k = true) (hst : st < 18) (hs : s < 6) (hn : n < 6) (hr : r < 6) (hm : mi 79 0 = nI r) : mx_C Γ lau M_Tr_takesElsewhere [.ref 79, .int (nI st), .int (nI s), .int (nI n)] (nx, u, mi) (fun ρ τ => ρ = some (.int (bz (Tr_els st s r n mi))) ∧ τ = (nx, u, mi)) := by
  refine mx_C.intro (by decide) rfl (Nat.le_of_ble_eq_true rfl) (fun κ _ hC => ?_)
  show mx_G Γ κ _ _ 0 [(0, .ref 79), (1, .int (nI st)), (2, .int (nI s)), (3, .int (nI n))] [] (nx, u, mi) 0 0
  refine x_aload_n (q := 1) hC d_Tr_takesElsewhere_0 rfl rfl rfl ?_
  refine x_getr (q := 4) (p := 79) (j := 3) (r := 57) hC f_Tr_47 rfl rfl rfl (by omega) (hu _ _ (by decide)) d_Tr_takesElsewhere_1 rfl ?_
  refine x_iload_n (q := 5) hC d_Tr_takesElsewhere_4 rfl rfl rfl ?_
  refine x_iload_n (q := 6) hC d_Tr_takesElsewhere_5 rfl rfl rfl ?_
  refine x_callV (q := 9) (p := 57) (A := [.int (nI st), .int (nI n)]) (S := []) (c1 := 0) (s1 := 0) hC (c_Sm_isSwitched (s := st) (n := n) (by omega) hu (by omega) (by omega) ) s_Tr_takesElsewhere_98 rfl (by omega) rfl rfl rfl (Nat.le_of_ble_eq_true rfl) rfl rfl (by decide) (by decide) d_Tr_takesElsewhere_6 rfl (fun r τ hP => ?_)
  obtain ⟨rfl, rfl⟩ := hP
  show mx_G Γ κ _ _ 9 [(0, .ref 79), (1, .int (nI st)), (2, .int (nI s)), (3, .int (nI n))] [.int (bz (hold (mi 77 st) n))] (nx, u, mi) 0 0
  refine x_if_eq (tgt := 40) (q := 12) hC d_Tr_takesElsewhere_9 (by decide) rfl (fun h9 => ?_) (fun h9 => ?_)
  · have h9 := bz_0 h9
    refine x_iconst (q := 41) (v := nI 0) hC d_Tr_takesElsewhere_40 (by decide) rfl ?_
    exact x_iret hC rfl rfl ⟨bz_f (by first | exact fun q => h9 q.1 | exact fun q => q.2 h33), rfl⟩ (by decide) (by decide) d_Tr_takesElsewhere_41
  · have h9 := bz_1 h9
    refine x_aload_n (q := 13) hC d_Tr_takesElsewhere_12 rfl rfl rfl ?_
    refine x_getr (q := 16) (p := 79) (j := 1) (r := 5) hC f_Tr_39 rfl rfl rfl (by omega) (hu _ _ (by decide)) d_Tr_takesElsewhere_13 rfl ?_
    refine x_iload_n (q := 17) hC d_Tr_takesElsewhere_16 rfl rfl rfl ?_
    refine x_iload_n (q := 18) hC d_Tr_takesElsewhere_17 rfl rfl rfl ?_
    refine x_callV (q := 21) (p := 5) (A := [.int (nI n), .int (nI s)]) (S := []) (c1 := 0) (s1 := 0) hC (c_Ne_nextTowards (a := n) (b := s) (by omega) hu (by omega) (by omega)) s_Tr_takesElsewhere_84 rfl (by omega) rfl rfl rfl (Nat.le_of_ble_eq_true rfl) rfl rfl (by decide) (by decide) d_Tr_takesElsewhere_18 rfl (fun r τ hP => ?_)
    obtain ⟨rfl, rfl⟩ := hP
    show mx_G Γ κ _ _ 21 [(0, .ref 79), (1, .int (nI st)), (2, .int (nI s)), (3, .int (nI n))] [.int (mi (21 + n) s)] (nx, u, mi) 0 0
    refine x_aload_n (q := 22) hC d_Tr_takesElsewhere_21 rfl rfl rfl ?_
    refine x_getr (q := 25) (p := 79) (j := 1) (r := 5) hC f_Tr_39 rfl rfl rfl (by omega) (hu _ _ (by decide)) d_Tr_takesElsewhere_22 rfl ?_
    refine x_iload_n (q := 26) hC d_Tr_takesElsewhere_25 rfl rfl rfl ?_
    refine x_aload_n (q := 27) hC d_Tr_takesElsewhere_26 rfl rfl rfl ?_
    refine x_geti (q := 30) (p := 79) (j := 0) hC f_Tr_35 rfl rfl (by omega) d_Tr_takesElsewhere_27 rfl ?_
    refine mx_eqG (S1 := [.int (nI r), .int (nI n), .ref 5, .int (mi (21 + n) s)]) rfl (by exact congrArg (fun z => Value.int z :: ([.int (nI n), .ref 5, .int (mi (21 + n) s)] : List Value)) (show mi 79 0 = nI r from hm)) rfl ?_
    refine x_callV (q := 33) (p := 5) (A := [.int (nI n), .int (nI r)]) (S := [.int (mi (21 + n) s)]) (c1 := 0) (s1 := 0) hC (c_Ne_nextTowards (a := n) (b := r) (by omega) hu (by omega) (by omega)) s_Tr_takesElsewhere_84 rfl (by omega) rfl rfl rfl (Nat.le_of_ble_eq_true rfl) rfl rfl (by decide) (by decide) d_Tr_takesElsewhere_30 rfl (fun r τ hP => ?_)
    obtain ⟨rfl, rfl⟩ := hP
    show mx_G Γ κ _ _ 33 [(0, .ref 79), (1, .int (nI st)), (2, .int (nI s)), (3, .int (nI n))] [.int (mi (21 + n) r), .int (mi (21 + n) s)] (nx, u, mi) 0 0
    refine x_icmp_eq (tgt := 40) (q := 36) hC d_Tr_takesElsewhere_33 (by decide) rfl (fun h33 => ?_) (fun h33 => ?_)
    · skip
      refine x_iconst (q := 41) (v := nI 0) hC d_Tr_takesElsewhere_40 (by decide) rfl ?_
      exact x_iret hC rfl rfl ⟨bz_f (by first | exact fun q => h9 q.1 | exact fun q => q.2 h33), rfl⟩ (by decide) (by decide) d_Tr_takesElsewhere_41
    · skip
      refine x_iconst (q := 37) (v := nI 1) hC d_Tr_takesElsewhere_36 (by decide) rfl ?_
      refine x_goto (tgt := 41) hC d_Tr_takesElsewhere_37 (by decide) ?_
      exact x_iret hC rfl rfl ⟨bz_t (⟨h9, h33⟩), rfl⟩ (by decide) (by decide) d_Tr_takesElsewhere_41
set_option maxRecDepth 100000 in
set_option maxHeartbeats 400000 in
theorem c_Tr_settleCuts {Γ : mx_X} {lau : Launch} {nx : Nat} {u : Nat → Nat → Bool} {mi : mx_Mm} {s g r : Nat} (hnx : 165 ≤ nx) (hu : ∀ p k, 2 ≤ p → u p k = true) (hs : s < 6) (hg : g < 3) (hr : r < 6) (hok : Tr_ok r mi) : mx_C Γ lau M_Tr_settleCuts [.ref 79, .int (nI s), .int (nI g)] (nx, u, mi) (fun ρ τ => ρ = none ∧ τ = (nx, u, Tr_cuts s g r mi)) := by
  refine mx_C.intro (by decide) rfl (Nat.le_of_ble_eq_true rfl) (fun κ _ hC => ?_)
  show mx_G Γ κ _ _ 0 [(0, .ref 79), (1, .int (nI s)), (2, .int (nI g))] [] (nx, u, mi) 0 0
  refine x_iload_n (q := 1) hC d_Tr_settleCuts_0 rfl rfl rfl ?_
  refine x_iload_n (q := 2) hC d_Tr_settleCuts_1 rfl rfl rfl ?_
  refine x_callSN (q := 5) (A := [.int (nI s), .int (nI g)]) (S := []) (c1 := 0) (s1 := 0) hC (c_MT_streamOf (s := s) (g := g)) s_Tr_settleCuts_91 rfl rfl rfl (Nat.le_of_ble_eq_true rfl) rfl rfl (by decide) (by decide) d_Tr_settleCuts_2 rfl (fun r τ hP => ?_)
  obtain ⟨rfl, rfl⟩ := hP
  show mx_G Γ κ _ _ 5 [(0, .ref 79), (1, .int (nI s)), (2, .int (nI g))] [.int (nI (s * 3 + g))] (nx, u, mi) 0 0
  refine x_istore_n (q := 6) (L1 := [(3, .int (nI (s * 3 + g))), (0, .ref 79), (1, .int (nI s)), (2, .int (nI g))]) hC d_Tr_settleCuts_5 rfl (by decide) rfl rfl ?_
  refine x_aload_n (q := 7) hC d_Tr_settleCuts_6 rfl rfl rfl ?_
  refine x_getr (q := 10) (p := 79) (j := 9) (r := 126) hC f_Tr_25 rfl rfl rfl (by omega) (hu _ _ (by decide)) d_Tr_settleCuts_7 rfl ?_
  refine x_iload_n (q := 11) hC d_Tr_settleCuts_10 rfl rfl rfl ?_
  refine x_aald (q := 12) (p := 126) (r := 127 + (s * 3 + g)) hC (s * 3 + g) (mr_126 _ (by omega)) rfl (by omega) rfl (by omega) (by decide) d_Tr_settleCuts_11 rfl ?_
  refine x_astore (q := 14) (L1 := [(4, .ref (127 + (s * 3 + g))), (3, .int (nI (s * 3 + g))), (0, .ref 79), (1, .int (nI s)), (2, .int (nI g))]) hC d_Tr_settleCuts_12 (by decide) rfl rfl ?_
  refine x_iconst (q := 15) (v := nI 0) hC d_Tr_settleCuts_14 (by decide) rfl ?_
  refine x_istore (q := 17) (L1 := [(5, .int (nI 0)), (4, .ref (127 + (s * 3 + g))), (3, .int (nI (s * 3 + g))), (0, .ref 79), (1, .int (nI s)), (2, .int (nI g))]) hC d_Tr_settleCuts_15 (by decide) rfl rfl ?_
  refine x_iconst (q := 18) (v := nI 0) hC d_Tr_settleCuts_17 (by decide) rfl ?_
  refine x_istore (q := 20) (L1 := [(6, .int (nI 0)), (5, .int (nI 0)), (4, .ref (127 + (s * 3 + g))), (3, .int (nI (s * 3 + g))), (0, .ref 79), (1, .int (nI s)), (2, .int (nI g))]) hC d_Tr_settleCuts_18 (by decide) rfl rfl ?_
  refine x_sub (L1 := [(6, .int (nI 0)), (5, .int (nI 0)), (4, .ref (127 + (s * 3 + g))), (3, .int (nI (s * 3 + g))), (0, .ref 79), (1, .int (nI s)), (2, .int (nI g))]) [0, 1, 2, 3, 4, 5, 6] rfl ?_
  refine mx_loopG (N := 6) (Hd := fun k a => mx_G Γ κ _ _ 20 [(6, .int (nI k)), (5, .int (a.1)), (4, .ref (127 + (s * 3 + g))), (3, .int (nI (s * 3 + g))), (0, .ref 79), (1, .int (nI s)), (2, .int (nI g))] [] (nx, u, a.2) 0 0) (Tr_ck g (s * 3 + g) s r) (fun _ a => Tr_ok r a.2) (m := (nI 0, mi)) hok ?_ ?_ ?_
  · exact fun k a hk h => Tr_ck_ok hg (by omega) hr hk h
  · intro k a hl1 hI2 hN3
    refine x_iload (q := 22) hC d_Tr_settleCuts_20 rfl rfl ?_
    refine x_bipush (q := 24) (v := nI 6) hC d_Tr_settleCuts_22 (by decide) rfl ?_
    refine x_icmp_ge (tgt := 180) (q := 27) hC d_Tr_settleCuts_24 (by decide) rfl (fun h => absurd h (nI_ge hl1 (by decide))) (fun _ => ?_)
    refine x_aload_n (q := 28) hC d_Tr_settleCuts_27 rfl rfl rfl ?_
    refine x_getr (q := 31) (p := 79) (j := 1) (r := 5) hC f_Tr_39 rfl rfl rfl (by omega) (hu _ _ (by decide)) d_Tr_settleCuts_28 rfl ?_
    refine x_aload_n (q := 32) hC d_Tr_settleCuts_31 rfl rfl rfl ?_
    refine x_geti (q := 35) (p := 79) (j := 0) hC f_Tr_35 rfl rfl (by omega) d_Tr_settleCuts_32 rfl ?_
    refine mx_eqG (S1 := [.int (nI r), .ref 5]) rfl (by exact congrArg (fun z => Value.int z :: ([.ref 5] : List Value)) (show a.2 79 0 = nI r from hI2.1)) rfl ?_
    refine x_iload (q := 37) hC d_Tr_settleCuts_35 rfl rfl ?_
    refine x_callV (q := 40) (p := 5) (A := [.int (nI r), .int (nI k)]) (S := []) (c1 := 0) (s1 := 0) hC (c_Ne_fromFarthest (a := r) (b := k) (by omega) hu (by omega) (by omega)) s_Tr_settleCuts_72 rfl (by omega) rfl rfl rfl (Nat.le_of_ble_eq_true rfl) rfl rfl (by decide) (by decide) d_Tr_settleCuts_37 rfl (fun r τ hP => ?_)
    obtain ⟨rfl, rfl⟩ := hP
    show mx_G Γ κ _ _ 40 [(6, .int (nI k)), (5, .int (a.1)), (4, .ref (127 + (s * 3 + g))), (3, .int (nI (s * 3 + g))), (0, .ref 79), (1, .int (nI s)), (2, .int (nI g))] [.int (a.2 (28 + r) k)] (nx, u, a.2) 0 0
    refine x_istore (q := 42) (L1 := [(7, .int (a.2 (28 + r) k)), (6, .int (nI k)), (5, .int (a.1)), (4, .ref (127 + (s * 3 + g))), (3, .int (nI (s * 3 + g))), (0, .ref 79), (1, .int (nI s)), (2, .int (nI g))]) hC d_Tr_settleCuts_40 (by decide) rfl rfl ?_
    obtain ⟨n, hn, en, et⟩ := Tr_ok.n hI2 (t := r) (k := k) (by omega) (by omega)
    refine mx_eqG (L1 := [(7, .int (nI n)), (6, .int (nI k)), (5, .int (a.1)), (4, .ref (127 + (s * 3 + g))), (3, .int (nI (s * 3 + g))), (0, .ref 79), (1, .int (nI s)), (2, .int (nI g))]) (by rw [en]) rfl rfl ?_
    refine x_aload (q := 44) hC d_Tr_settleCuts_42 rfl rfl ?_
    refine x_iload (q := 46) hC d_Tr_settleCuts_44 rfl rfl ?_
    refine x_aload_n (q := 47) hC d_Tr_settleCuts_46 rfl rfl rfl ?_
    refine x_getr (q := 50) (p := 79) (j := 6) (r := 84) hC f_Tr_16 rfl rfl rfl (by omega) (hu _ _ (by decide)) d_Tr_settleCuts_47 rfl ?_
    refine x_iload_n (q := 51) hC d_Tr_settleCuts_50 rfl rfl rfl ?_
    refine x_aald (q := 52) (p := 84) (r := 85 + g) hC g (mr_84 _ (by omega)) rfl (by omega) rfl (by omega) (by decide) d_Tr_settleCuts_51 rfl ?_
    refine x_iload (q := 54) hC d_Tr_settleCuts_52 rfl rfl ?_
    refine x_iald (q := 55) (p := 85 + g) hC n (sh_85 _ (by omega)) (by omega) rfl (by omega) (by decide) d_Tr_settleCuts_54 rfl ?_
    refine x_iload (q := 57) hC d_Tr_settleCuts_55 rfl rfl ?_
    refine x_iconst (q := 58) (v := (-1)) hC d_Tr_settleCuts_57 (by decide) rfl ?_
    refine x_ixor (q := 59) (z := a.1 ^^^ (-1)) hC d_Tr_settleCuts_58 rfl rfl ?_
    refine x_iand (q := 60) (z := (a.2 (85 + g) n) &&& (a.1 ^^^ (-1))) hC d_Tr_settleCuts_59 rfl rfl ?_
    refine x_iast (q := 61) (p := 127 + (s * 3 + g)) hC n (sh_127 _ (by omega)) (by omega) (by omega) rfl (by omega) (by decide) d_Tr_settleCuts_60 rfl ?_
    refine mx_nr (fun m4 e5 => ?_)
    refine x_aload_n (q := 62) hC d_Tr_settleCuts_61 rfl rfl rfl ?_
    have J6 : mx_G Γ κ M_Tr_settleCuts (MQ (mx_b κ) (mx_Qc Γ (fun ρ τ => ρ = none ∧ τ = (nx, u, Tr_cuts s g r mi))) (mx_a κ) (mx_s κ) M_Tr_settleCuts.2.2.2.2.cells M_Tr_settleCuts.2.2.2.2.slots (mx_fr Γ)) 84 [(7, .int (nI n)), (6, .int (nI k)), (5, .int (a.1)), (4, .ref (127 + (s * 3 + g))), (3, .int (nI (s * 3 + g))), (0, .ref 79), (1, .int (nI s)), (2, .int (nI g))] [] (nx, u, Tr_c12 g (s * 3 + g) n a) 0 0 := by
      refine mx_nr (fun mj ej => ?_)
      have hIj : Tr_ok r mj := ej ▸ Tr_c2_ok (Tr_c1_ok hI2)
      have J7 : mx_G Γ κ M_Tr_settleCuts (MQ (mx_b κ) (mx_Qc Γ (fun ρ τ => ρ = none ∧ τ = (nx, u, Tr_cuts s g r mi))) (mx_a κ) (mx_s κ) M_Tr_settleCuts.2.2.2.2.cells M_Tr_settleCuts.2.2.2.2.slots (mx_fr Γ)) 130 [(9, .int (Tr_cat g (s * 3 + g) s r n mj)), (7, .int (nI n)), (6, .int (nI k)), (5, .int (a.1)), (4, .ref (127 + (s * 3 + g))), (3, .int (nI (s * 3 + g))), (0, .ref 79), (1, .int (nI s)), (2, .int (nI g))] [] (nx, u, mj) 0 0 := by
        have J8 : mx_G Γ κ M_Tr_settleCuts (MQ (mx_b κ) (mx_Qc Γ (fun ρ τ => ρ = none ∧ τ = (nx, u, Tr_cuts s g r mi))) (mx_a κ) (mx_s κ) M_Tr_settleCuts.2.2.2.2.cells M_Tr_settleCuts.2.2.2.2.slots (mx_fr Γ)) 145 [(5, .int (Tr_cc n (Tr_cat g (s * 3 + g) s r n mj) a.1)), (9, .int (Tr_cat g (s * 3 + g) s r n mj)), (7, .int (nI n)), (6, .int (nI k)), (4, .ref (127 + (s * 3 + g))), (3, .int (nI (s * 3 + g))), (0, .ref 79), (1, .int (nI s)), (2, .int (nI g))] [] (nx, u, mj) 0 0 := by
          refine x_aload_n (q := 146) hC d_Tr_settleCuts_145 rfl rfl rfl ?_
          refine x_iconst (q := 147) (v := nI 4) hC d_Tr_settleCuts_146 (by decide) rfl ?_
          refine x_iload (q := 149) hC d_Tr_settleCuts_147 rfl rfl ?_
          refine x_aload_n (q := 150) hC d_Tr_settleCuts_149 rfl rfl rfl ?_
          refine x_getr (q := 153) (p := 79) (j := 7) (r := 88) hC f_Tr_19 rfl rfl rfl (by omega) (hu _ _ (by decide)) d_Tr_settleCuts_150 rfl ?_
          refine x_iload_n (q := 154) hC d_Tr_settleCuts_153 rfl rfl rfl ?_
          refine x_aald (q := 155) (p := 88) (r := 89 + (s * 3 + g)) hC (s * 3 + g) (mr_88 _ (by omega)) rfl (by omega) rfl (by omega) (by decide) d_Tr_settleCuts_154 rfl ?_
          refine x_iload (q := 157) hC d_Tr_settleCuts_155 rfl rfl ?_
          refine x_iald (q := 158) (p := 89 + (s * 3 + g)) hC n (sh_89 _ (by omega)) (by omega) rfl (by omega) (by decide) d_Tr_settleCuts_157 rfl ?_
          refine x_iload (q := 160) hC d_Tr_settleCuts_158 rfl rfl ?_
          refine x_callV (q := 163) (p := 79) (A := [.int (nI 4), .int (nI n), .int (mj (89 + (s * 3 + g)) n), .int (Tr_cat g (s * 3 + g) s r n mj)]) (S := []) (c1 := 0) (s1 := 0) hC (c_Tr_announce (k := 4) (n := n) (x := mj (89 + (s * 3 + g)) n) (y := Tr_cat g (s * 3 + g) s r n mj) (by omega) hu (by omega) (by omega) (hIj.2.2.2.2.1 _ n (by omega) hn)) s_Tr_settleCuts_87 rfl (by omega) rfl rfl rfl (Nat.le_of_ble_eq_true rfl) rfl rfl (by decide) (by decide) d_Tr_settleCuts_160 rfl (fun r τ hP => ?_)
          obtain ⟨rfl, rfl⟩ := hP
          show mx_G Γ κ _ _ 163 [(5, .int (Tr_cc n (Tr_cat g (s * 3 + g) s r n mj) a.1)), (9, .int (Tr_cat g (s * 3 + g) s r n mj)), (7, .int (nI n)), (6, .int (nI k)), (4, .ref (127 + (s * 3 + g))), (3, .int (nI (s * 3 + g))), (0, .ref 79), (1, .int (nI s)), (2, .int (nI g))] [] (nx, u, Tr_ann 4 n (mj (89 + (s * 3 + g)) n) (Tr_cat g (s * 3 + g) s r n mj) mj) 0 0
          refine mx_nr (fun m9 e10 => ?_)
          refine x_aload_n (q := 164) hC d_Tr_settleCuts_163 rfl rfl rfl ?_
          refine x_getr (q := 167) (p := 79) (j := 7) (r := 88) hC f_Tr_19 rfl rfl rfl (by omega) (hu _ _ (by decide)) d_Tr_settleCuts_164 rfl ?_
          refine x_iload_n (q := 168) hC d_Tr_settleCuts_167 rfl rfl rfl ?_
          refine x_aald (q := 169) (p := 88) (r := 89 + (s * 3 + g)) hC (s * 3 + g) (mr_88 _ (by omega)) rfl (by omega) rfl (by omega) (by decide) d_Tr_settleCuts_168 rfl ?_
          refine x_iload (q := 171) hC d_Tr_settleCuts_169 rfl rfl ?_
          refine x_iload (q := 173) hC d_Tr_settleCuts_171 rfl rfl ?_
          refine x_iast (q := 174) (p := 89 + (s * 3 + g)) hC n (sh_89 _ (by omega)) (by omega) (by omega) rfl (by omega) (by decide) d_Tr_settleCuts_173 rfl ?_
          refine mx_nr (fun m11 e12 => ?_)
          refine x_iinc (q := 177) (y := nI (k + 1)) (L1 := [(6, .int (nI (k + 1))), (5, .int (Tr_cc n (Tr_cat g (s * 3 + g) s r n mj) a.1)), (9, .int (Tr_cat g (s * 3 + g) s r n mj)), (7, .int (nI n)), (4, .ref (127 + (s * 3 + g))), (3, .int (nI (s * 3 + g))), (0, .ref 79), (1, .int (nI s)), (2, .int (nI g))]) hC d_Tr_settleCuts_174 rfl (mx_inc k) (by decide) rfl rfl ?_
          refine x_goto (tgt := 20) hC d_Tr_settleCuts_177 (by decide) ?_
          refine x_sub (L1 := [(6, .int (nI (k + 1))), (5, .int (Tr_cc n (Tr_cat g (s * 3 + g) s r n mj) a.1)), (4, .ref (127 + (s * 3 + g))), (3, .int (nI (s * 3 + g))), (0, .ref 79), (1, .int (nI s)), (2, .int (nI g))]) [0, 1, 4, 5, 6, 7, 8] rfl (mx_eqG ?_ rfl ?_ hN3)
          · subst e12; subst e10; subst ej; subst e5; show _ = [_, _, _, _, _, _, _]; rw [show Tr_ck g (s * 3 + g) s r k a = Tr_cb g (s * 3 + g) s r n a by unfold Tr_ck; rw [et]] <;> rfl
          · subst e12; subst e10; subst ej; subst e5; refine pr ?_; rw [show Tr_ck g (s * 3 + g) s r k a = Tr_cb g (s * 3 + g) s r n a by unfold Tr_ck; rw [et]] <;> rfl
        refine x_iload (q := 132) hC d_Tr_settleCuts_130 rfl rfl ?_
        refine x_iconst (q := 133) (v := (-1)) hC d_Tr_settleCuts_132 (by decide) rfl ?_
        refine x_icmp_eq (tgt := 145) (q := 136) hC d_Tr_settleCuts_133 (by decide) rfl (fun h133 => ?_) (fun h133 => ?_)
        · skip
          exact x_sub (L1 := [(5, .int (a.1)), (9, .int (Tr_cat g (s * 3 + g) s r n mj)), (7, .int (nI n)), (6, .int (nI k)), (4, .ref (127 + (s * 3 + g))), (3, .int (nI (s * 3 + g))), (0, .ref 79), (1, .int (nI s)), (2, .int (nI g))]) [3, 0, 1, 2, 4, 5, 6, 7, 8] rfl (mx_eqG (by subst ej; subst e5; first | rw [Tr_cc, if_pos h133] | rw [Tr_cc, if_neg h133]) rfl rfl J8)
        · skip
          refine x_iload (q := 138) hC d_Tr_settleCuts_136 rfl rfl ?_
          refine x_iconst (q := 139) (v := nI 1) hC d_Tr_settleCuts_138 (by decide) rfl ?_
          refine x_iload (q := 141) hC d_Tr_settleCuts_139 rfl rfl ?_
          refine x_ishl (q := 142) (z := (nI 1) <<< ((nI n) &&& 31)) hC d_Tr_settleCuts_141 rfl rfl ?_
          refine x_ior (q := 143) (z := a.1 ||| ((nI 1) <<< ((nI n) &&& 31))) hC d_Tr_settleCuts_142 rfl rfl ?_
          refine x_istore (q := 145) (L1 := [(5, .int (a.1 ||| ((nI 1) <<< ((nI n) &&& 31)))), (9, .int (Tr_cat g (s * 3 + g) s r n mj)), (7, .int (nI n)), (6, .int (nI k)), (4, .ref (127 + (s * 3 + g))), (3, .int (nI (s * 3 + g))), (0, .ref 79), (1, .int (nI s)), (2, .int (nI g))]) hC d_Tr_settleCuts_143 (by decide) rfl rfl ?_
          exact x_sub (L1 := [(5, .int (a.1 ||| ((nI 1) <<< ((nI n) &&& 31)))), (9, .int (Tr_cat g (s * 3 + g) s r n mj)), (7, .int (nI n)), (6, .int (nI k)), (4, .ref (127 + (s * 3 + g))), (3, .int (nI (s * 3 + g))), (0, .ref 79), (1, .int (nI s)), (2, .int (nI g))]) [0, 1, 2, 3, 4, 5, 6, 7, 8] rfl (mx_eqG (by subst ej; subst e5; first | rw [Tr_cc, if_pos h133] | rw [Tr_cc, if_neg h133]) rfl rfl J8)
      refine x_aload (q := 86) hC d_Tr_settleCuts_84 rfl rfl ?_
      refine x_iload (q := 88) hC d_Tr_settleCuts_86 rfl rfl ?_
      refine x_iald (q := 89) (p := 127 + (s * 3 + g)) hC n (sh_127 _ (by omega)) (by omega) rfl (by omega) (by decide) d_Tr_settleCuts_88 rfl ?_
      refine x_if_eq (tgt := 103) (q := 92) hC d_Tr_settleCuts_89 (by decide) rfl (fun h89 => ?_) (fun h89 => ?_)
      · skip
        refine x_iconst (q := 104) (v := nI 1) hC d_Tr_settleCuts_103 (by decide) rfl ?_
        refine x_goto (tgt := 108) hC d_Tr_settleCuts_104 (by decide) ?_
        refine x_istore (q := 110) (L1 := [(8, .int (nI 1)), (7, .int (nI n)), (6, .int (nI k)), (5, .int (a.1)), (4, .ref (127 + (s * 3 + g))), (3, .int (nI (s * 3 + g))), (0, .ref 79), (1, .int (nI s)), (2, .int (nI g))]) hC d_Tr_settleCuts_108 (by decide) rfl rfl ?_
        refine x_iload (q := 112) hC d_Tr_settleCuts_110 rfl rfl ?_
        refine x_if_eq (tgt := 127) (q := 115) hC d_Tr_settleCuts_112 (by decide) rfl (fun h => absurd h (by decide)) (fun _ => ?_)
        refine x_aload_n (q := 116) hC d_Tr_settleCuts_115 rfl rfl rfl ?_
        refine x_getr (q := 119) (p := 79) (j := 5) (r := 80) hC f_Tr_11 rfl rfl rfl (by omega) (hu _ _ (by decide)) d_Tr_settleCuts_116 rfl ?_
        refine x_iload_n (q := 120) hC d_Tr_settleCuts_119 rfl rfl rfl ?_
        refine x_aald (q := 121) (p := 80) (r := 81 + g) hC g (mr_80 _ (by omega)) rfl (by omega) rfl (by omega) (by decide) d_Tr_settleCuts_120 rfl ?_
        refine x_iload (q := 123) hC d_Tr_settleCuts_121 rfl rfl ?_
        refine x_iald (q := 124) (p := 81 + g) hC n (sh_81 _ (by omega)) (by omega) rfl (by omega) (by decide) d_Tr_settleCuts_123 rfl ?_
        refine x_goto (tgt := 128) hC d_Tr_settleCuts_124 (by decide) ?_
        refine x_istore (q := 130) (L1 := [(9, .int (mj (81 + g) n)), (8, .int (nI 1)), (7, .int (nI n)), (6, .int (nI k)), (5, .int (a.1)), (4, .ref (127 + (s * 3 + g))), (3, .int (nI (s * 3 + g))), (0, .ref 79), (1, .int (nI s)), (2, .int (nI g))]) hC d_Tr_settleCuts_128 (by decide) rfl rfl ?_
        exact x_sub (L1 := [(9, .int (mj (81 + g) n)), (7, .int (nI n)), (6, .int (nI k)), (5, .int (a.1)), (4, .ref (127 + (s * 3 + g))), (3, .int (nI (s * 3 + g))), (0, .ref 79), (1, .int (nI s)), (2, .int (nI g))]) [0, 2, 3, 4, 5, 6, 7, 8, 9] rfl (mx_eqG (by subst ej; subst e5; first | rw [Tr_cat, if_pos (Or.inl h89)] | rw [Tr_cat, if_pos (Or.inr h100)] | rw [Tr_cat, if_neg (fun q => q.elim h89 h100)]) rfl rfl J7)
      · skip
        refine x_aload_n (q := 93) hC d_Tr_settleCuts_92 rfl rfl rfl ?_
        refine x_iload_n (q := 94) hC d_Tr_settleCuts_93 rfl rfl rfl ?_
        refine x_iload_n (q := 95) hC d_Tr_settleCuts_94 rfl rfl rfl ?_
        refine x_iload (q := 97) hC d_Tr_settleCuts_95 rfl rfl ?_
        refine x_callV (q := 100) (p := 79) (A := [.int (nI (s * 3 + g)), .int (nI s), .int (nI n)]) (S := []) (c1 := 0) (s1 := 0) hC (c_Tr_takesElsewhere (st := s * 3 + g) (s := s) (n := n) (r := r) (by omega) hu (by omega) (by omega) (by omega) hr hIj.1) s_Tr_settleCuts_94 rfl (by omega) rfl rfl rfl (Nat.le_of_ble_eq_true rfl) rfl rfl (by decide) (by decide) d_Tr_settleCuts_97 rfl (fun r τ hP => ?_)
        obtain ⟨rfl, rfl⟩ := hP
        show mx_G Γ κ _ _ 100 [(7, .int (nI n)), (6, .int (nI k)), (5, .int (a.1)), (4, .ref (127 + (s * 3 + g))), (3, .int (nI (s * 3 + g))), (0, .ref 79), (1, .int (nI s)), (2, .int (nI g))] [.int (bz (Tr_els (s * 3 + g) s r n mj))] (nx, u, mj) 0 0
        refine x_if_eq (tgt := 107) (q := 103) hC d_Tr_settleCuts_100 (by decide) rfl (fun h100 => ?_) (fun h100 => ?_)
        · have h100 := bz_0 h100
          refine x_iconst (q := 108) (v := nI 0) hC d_Tr_settleCuts_107 (by decide) rfl ?_
          refine x_istore (q := 110) (L1 := [(8, .int (nI 0)), (7, .int (nI n)), (6, .int (nI k)), (5, .int (a.1)), (4, .ref (127 + (s * 3 + g))), (3, .int (nI (s * 3 + g))), (0, .ref 79), (1, .int (nI s)), (2, .int (nI g))]) hC d_Tr_settleCuts_108 (by decide) rfl rfl ?_
          refine x_iload (q := 112) hC d_Tr_settleCuts_110 rfl rfl ?_
          refine x_if_eq (tgt := 127) (q := 115) hC d_Tr_settleCuts_112 (by decide) rfl (fun _ => ?_) (fun h => absurd (by decide) h)
          refine x_iconst (q := 128) (v := (-1)) hC d_Tr_settleCuts_127 (by decide) rfl ?_
          refine x_istore (q := 130) (L1 := [(9, .int ((-1))), (8, .int (nI 0)), (7, .int (nI n)), (6, .int (nI k)), (5, .int (a.1)), (4, .ref (127 + (s * 3 + g))), (3, .int (nI (s * 3 + g))), (0, .ref 79), (1, .int (nI s)), (2, .int (nI g))]) hC d_Tr_settleCuts_128 (by decide) rfl rfl ?_
          exact x_sub (L1 := [(9, .int ((-1))), (7, .int (nI n)), (6, .int (nI k)), (5, .int (a.1)), (4, .ref (127 + (s * 3 + g))), (3, .int (nI (s * 3 + g))), (0, .ref 79), (1, .int (nI s)), (2, .int (nI g))]) [0, 2, 3, 4, 5, 6, 7, 8, 9] rfl (mx_eqG (by subst ej; subst e5; first | rw [Tr_cat, if_pos (Or.inl h89)] | rw [Tr_cat, if_pos (Or.inr h100)] | rw [Tr_cat, if_neg (fun q => q.elim h89 h100)]) rfl rfl J7)
        · have h100 := bz_1 h100
          refine x_iconst (q := 104) (v := nI 1) hC d_Tr_settleCuts_103 (by decide) rfl ?_
          refine x_goto (tgt := 108) hC d_Tr_settleCuts_104 (by decide) ?_
          refine x_istore (q := 110) (L1 := [(8, .int (nI 1)), (7, .int (nI n)), (6, .int (nI k)), (5, .int (a.1)), (4, .ref (127 + (s * 3 + g))), (3, .int (nI (s * 3 + g))), (0, .ref 79), (1, .int (nI s)), (2, .int (nI g))]) hC d_Tr_settleCuts_108 (by decide) rfl rfl ?_
          refine x_iload (q := 112) hC d_Tr_settleCuts_110 rfl rfl ?_
          refine x_if_eq (tgt := 127) (q := 115) hC d_Tr_settleCuts_112 (by decide) rfl (fun h => absurd h (by decide)) (fun _ => ?_)
          refine x_aload_n (q := 116) hC d_Tr_settleCuts_115 rfl rfl rfl ?_
          refine x_getr (q := 119) (p := 79) (j := 5) (r := 80) hC f_Tr_11 rfl rfl rfl (by omega) (hu _ _ (by decide)) d_Tr_settleCuts_116 rfl ?_
          refine x_iload_n (q := 120) hC d_Tr_settleCuts_119 rfl rfl rfl ?_
          refine x_aald (q := 121) (p := 80) (r := 81 + g) hC g (mr_80 _ (by omega)) rfl (by omega) rfl (by omega) (by decide) d_Tr_settleCuts_120 rfl ?_
          refine x_iload (q := 123) hC d_Tr_settleCuts_121 rfl rfl ?_
          refine x_iald (q := 124) (p := 81 + g) hC n (sh_81 _ (by omega)) (by omega) rfl (by omega) (by decide) d_Tr_settleCuts_123 rfl ?_
          refine x_goto (tgt := 128) hC d_Tr_settleCuts_124 (by decide) ?_
          refine x_istore (q := 130) (L1 := [(9, .int (mj (81 + g) n)), (8, .int (nI 1)), (7, .int (nI n)), (6, .int (nI k)), (5, .int (a.1)), (4, .ref (127 + (s * 3 + g))), (3, .int (nI (s * 3 + g))), (0, .ref 79), (1, .int (nI s)), (2, .int (nI g))]) hC d_Tr_settleCuts_128 (by decide) rfl rfl ?_
          exact x_sub (L1 := [(9, .int (mj (81 + g) n)), (7, .int (nI n)), (6, .int (nI k)), (5, .int (a.1)), (4, .ref (127 + (s * 3 + g))), (3, .int (nI (s * 3 + g))), (0, .ref 79), (1, .int (nI s)), (2, .int (nI g))]) [0, 2, 3, 4, 5, 6, 7, 8, 9] rfl (mx_eqG (by subst ej; subst e5; first | rw [Tr_cat, if_pos (Or.inl h89)] | rw [Tr_cat, if_pos (Or.inr h100)] | rw [Tr_cat, if_neg (fun q => q.elim h89 h100)]) rfl rfl J7)
    refine x_getr (q := 65) (p := 79) (j := 2) (r := 34) hC f_Tr_43 rfl rfl rfl (by omega) (hu _ _ (by decide)) d_Tr_settleCuts_62 rfl ?_
    refine x_iload (q := 67) hC d_Tr_settleCuts_65 rfl rfl ?_
    refine x_iload_n (q := 68) hC d_Tr_settleCuts_67 rfl rfl rfl ?_
    refine x_callV (q := 71) (p := 34) (A := [.int (nI n), .int (nI g)]) (S := []) (c1 := 0) (s1 := 0) hC (c_La_isMarked (l := n) (g := g) (by omega) hu (by omega) (by omega) ) s_Tr_settleCuts_78 rfl (by omega) rfl rfl rfl (Nat.le_of_ble_eq_true rfl) rfl rfl (by decide) (by decide) d_Tr_settleCuts_68 rfl (fun r τ hP => ?_)
    obtain ⟨rfl, rfl⟩ := hP
    show mx_G Γ κ _ _ 71 [(7, .int (nI n)), (6, .int (nI k)), (5, .int (a.1)), (4, .ref (127 + (s * 3 + g))), (3, .int (nI (s * 3 + g))), (0, .ref 79), (1, .int (nI s)), (2, .int (nI g))] [.int (bz (m4 2 0 < m4 (43 + n) g))] (nx, u, m4) 0 0
    refine x_if_eq (tgt := 84) (q := 74) hC d_Tr_settleCuts_71 (by decide) rfl (fun h71 => ?_) (fun h71 => ?_)
    · have h71 := bz_0 h71
      exact x_sub (L1 := [(7, .int (nI n)), (6, .int (nI k)), (5, .int (a.1)), (4, .ref (127 + (s * 3 + g))), (3, .int (nI (s * 3 + g))), (0, .ref 79), (1, .int (nI s)), (2, .int (nI g))]) [0, 1, 2, 3, 4, 5, 6, 7] rfl (mx_eqG rfl rfl (pr (by subst e5; first | exact it_t h71 rfl | exact it_f h71 rfl)) J6)
    · have h71 := bz_1 h71
      refine x_aload (q := 76) hC d_Tr_settleCuts_74 rfl rfl ?_
      refine x_iload (q := 78) hC d_Tr_settleCuts_76 rfl rfl ?_
      refine x_dup2 (q := 79) hC d_Tr_settleCuts_78 rfl rfl rfl ?_
      refine x_iald (q := 80) (p := 127 + (s * 3 + g)) hC n (sh_127 _ (by omega)) (by omega) rfl (by omega) (by decide) d_Tr_settleCuts_79 rfl ?_
      refine x_bipush (q := 82) (v := nI 64) hC d_Tr_settleCuts_80 (by decide) rfl ?_
      refine x_ior (q := 83) (z := (m4 (127 + (s * 3 + g)) n) ||| (nI 64)) hC d_Tr_settleCuts_82 rfl rfl ?_
      refine x_iast (q := 84) (p := 127 + (s * 3 + g)) hC n (sh_127 _ (by omega)) (by omega) (by omega) rfl (by omega) (by decide) d_Tr_settleCuts_83 rfl ?_
      refine mx_nr (fun m13 e14 => ?_)
      exact x_sub (L1 := [(7, .int (nI n)), (6, .int (nI k)), (5, .int (a.1)), (4, .ref (127 + (s * 3 + g))), (3, .int (nI (s * 3 + g))), (0, .ref 79), (1, .int (nI s)), (2, .int (nI g))]) [0, 1, 2, 3, 4, 5, 6, 7] rfl (mx_eqG rfl rfl (pr (by subst e14; subst e5; first | exact it_t h71 rfl | exact it_f h71 rfl)) J6)
  · intro hx15
    generalize e17 : mx_lp 6 (Tr_ck g (s * 3 + g) s r) (nI 0, mi) = a16 at hx15 ⊢
    refine x_iload (q := 22) hC d_Tr_settleCuts_20 rfl rfl ?_
    refine x_bipush (q := 24) (v := nI 6) hC d_Tr_settleCuts_22 (by decide) rfl ?_
    refine x_icmp_ge (tgt := 180) (q := 27) hC d_Tr_settleCuts_24 (by decide) rfl (fun _ => ?_) (fun h => absurd (nI_le (Nat.le_refl _) (by decide)) h)
    subst e17
    exact x_vret hC rfl ⟨rfl, by subst_vars; rfl⟩ (by decide) (by decide) d_Tr_settleCuts_180
set_option maxRecDepth 100000 in
set_option maxHeartbeats 400000 in
theorem c_Tr_settleSources {Γ : mx_X} {lau : Launch} {nx : Nat} {u : Nat → Nat → Bool} {mi : mx_Mm} {s g r : Nat} (hnx : 165 ≤ nx) (hu : ∀ p k, 2 ≤ p → u p k = true) (hs : s < 6) (hg : g < 3) (hok : Tr_ok r mi) : mx_C Γ lau M_Tr_settleSources [.ref 79, .int (nI s), .int (nI g)] (nx, u, mi) (fun ρ τ => ρ = none ∧ τ = (nx, u, Tr_sources s g mi)) := by
  refine mx_C.intro (by decide) rfl (Nat.le_of_ble_eq_true rfl) (fun κ _ hC => ?_)
  show mx_G Γ κ _ _ 0 [(0, .ref 79), (1, .int (nI s)), (2, .int (nI g))] [] (nx, u, mi) 0 0
  refine x_iload_n (q := 1) hC d_Tr_settleSources_0 rfl rfl rfl ?_
  refine x_iload_n (q := 2) hC d_Tr_settleSources_1 rfl rfl rfl ?_
  refine x_callSN (q := 5) (A := [.int (nI s), .int (nI g)]) (S := []) (c1 := 0) (s1 := 0) hC (c_MT_streamOf (s := s) (g := g)) s_Tr_settleSources_91 rfl rfl rfl (Nat.le_of_ble_eq_true rfl) rfl rfl (by decide) (by decide) d_Tr_settleSources_2 rfl (fun r τ hP => ?_)
  obtain ⟨rfl, rfl⟩ := hP
  show mx_G Γ κ _ _ 5 [(0, .ref 79), (1, .int (nI s)), (2, .int (nI g))] [.int (nI (s * 3 + g))] (nx, u, mi) 0 0
  refine x_istore_n (q := 6) (L1 := [(3, .int (nI (s * 3 + g))), (0, .ref 79), (1, .int (nI s)), (2, .int (nI g))]) hC d_Tr_settleSources_5 rfl (by decide) rfl rfl ?_
  refine x_aload_n (q := 7) hC d_Tr_settleSources_6 rfl rfl rfl ?_
  refine x_getr (q := 10) (p := 79) (j := 10) (r := 145) hC f_Tr_28 rfl rfl rfl (by omega) (hu _ _ (by decide)) d_Tr_settleSources_7 rfl ?_
  refine x_iload_n (q := 11) hC d_Tr_settleSources_10 rfl rfl rfl ?_
  refine x_aald (q := 12) (p := 145) (r := 146 + (s * 3 + g)) hC (s * 3 + g) (mr_145 _ (by omega)) rfl (by omega) rfl (by omega) (by decide) d_Tr_settleSources_11 rfl ?_
  refine x_astore (q := 14) (L1 := [(4, .ref (146 + (s * 3 + g))), (3, .int (nI (s * 3 + g))), (0, .ref 79), (1, .int (nI s)), (2, .int (nI g))]) hC d_Tr_settleSources_12 (by decide) rfl rfl ?_
  refine x_aload_n (q := 15) hC d_Tr_settleSources_14 rfl rfl rfl ?_
  refine x_getr (q := 18) (p := 79) (j := 11) (r := 164) hC f_Tr_31 rfl rfl rfl (by omega) (hu _ _ (by decide)) d_Tr_settleSources_15 rfl ?_
  refine x_iconst (q := 19) (v := nI 0) hC d_Tr_settleSources_18 (by decide) rfl ?_
  refine x_callS (q := 22) (A := [.ref 164, .int (nI 0)]) (S := []) (c1 := 0) (s1 := 0) hC (c_JA_fill (p := 164) (n := 6) (v := nI 0) rfl (by omega) (by omega) (by decide)) s_Tr_settleSources_55 rfl rfl rfl (Nat.le_of_ble_eq_true rfl) rfl rfl (by decide) (by decide) d_Tr_settleSources_19 rfl (fun r τ hP => ?_)
  obtain ⟨rfl, rfl⟩ := hP
  show mx_G Γ κ _ _ 22 [(4, .ref (146 + (s * 3 + g))), (3, .int (nI (s * 3 + g))), (0, .ref 79), (1, .int (nI s)), (2, .int (nI g))] [] (nx, u, fill_m 164 6 (nI 0) mi) 0 0
  refine x_iconst (q := 23) (v := nI 0) hC d_Tr_settleSources_22 (by decide) rfl ?_
  refine x_istore (q := 25) (L1 := [(5, .int (nI 0)), (4, .ref (146 + (s * 3 + g))), (3, .int (nI (s * 3 + g))), (0, .ref 79), (1, .int (nI s)), (2, .int (nI g))]) hC d_Tr_settleSources_23 (by decide) rfl rfl ?_
  refine x_sub (L1 := [(5, .int (nI 0)), (4, .ref (146 + (s * 3 + g))), (3, .int (nI (s * 3 + g))), (0, .ref 79), (1, .int (nI s)), (2, .int (nI g))]) [0, 1, 2, 3, 4, 5] rfl ?_
  refine mx_loop (N := 6) (Hd := fun k m1 => mx_G Γ κ _ _ 25 [(5, .int (nI k)), (4, .ref (146 + (s * 3 + g))), (3, .int (nI (s * 3 + g))), (0, .ref 79), (1, .int (nI s)), (2, .int (nI g))] [] (nx, u, m1) 0 0) (Tr_ok1 (s * 3 + g) s) (fun _ m => Tr_ok r m) (by subst_vars; exact Tr_fill_ok (by omega) hok) ?_ ?_ ?_
  · exact fun k m hk h => Tr_ok1_ok (by omega) hs hk h
  · intro k m1 hl2 hI3 hN4
    refine x_iload (q := 27) hC d_Tr_settleSources_25 rfl rfl ?_
    refine x_bipush (q := 29) (v := nI 6) hC d_Tr_settleSources_27 (by decide) rfl ?_
    refine x_icmp_ge (tgt := 180) (q := 32) hC d_Tr_settleSources_29 (by decide) rfl (fun h => absurd h (nI_ge hl2 (by decide))) (fun _ => ?_)
    refine x_aload_n (q := 33) hC d_Tr_settleSources_32 rfl rfl rfl ?_
    refine x_getr (q := 36) (p := 79) (j := 1) (r := 5) hC f_Tr_39 rfl rfl rfl (by omega) (hu _ _ (by decide)) d_Tr_settleSources_33 rfl ?_
    refine x_iload_n (q := 37) hC d_Tr_settleSources_36 rfl rfl rfl ?_
    refine x_iload (q := 39) hC d_Tr_settleSources_37 rfl rfl ?_
    refine x_callV (q := 42) (p := 5) (A := [.int (nI s), .int (nI k)]) (S := []) (c1 := 0) (s1 := 0) hC (c_Ne_fromFarthest (a := s) (b := k) (by omega) hu (by omega) (by omega)) s_Tr_settleSources_72 rfl (by omega) rfl rfl rfl (Nat.le_of_ble_eq_true rfl) rfl rfl (by decide) (by decide) d_Tr_settleSources_39 rfl (fun r τ hP => ?_)
    obtain ⟨rfl, rfl⟩ := hP
    show mx_G Γ κ _ _ 42 [(5, .int (nI k)), (4, .ref (146 + (s * 3 + g))), (3, .int (nI (s * 3 + g))), (0, .ref 79), (1, .int (nI s)), (2, .int (nI g))] [.int (m1 (28 + s) k)] (nx, u, m1) 0 0
    refine x_istore (q := 44) (L1 := [(6, .int (m1 (28 + s) k)), (5, .int (nI k)), (4, .ref (146 + (s * 3 + g))), (3, .int (nI (s * 3 + g))), (0, .ref 79), (1, .int (nI s)), (2, .int (nI g))]) hC d_Tr_settleSources_42 (by decide) rfl rfl ?_
    obtain ⟨n, hn, en, et⟩ := Tr_ok.n hI3 (t := s) (k := k) (by omega) (by omega)
    refine mx_eqG (L1 := [(6, .int (nI n)), (5, .int (nI k)), (4, .ref (146 + (s * 3 + g))), (3, .int (nI (s * 3 + g))), (0, .ref 79), (1, .int (nI s)), (2, .int (nI g))]) (by rw [en]) rfl rfl ?_
    refine x_aload (q := 46) hC d_Tr_settleSources_44 rfl rfl ?_
    refine x_iload (q := 48) hC d_Tr_settleSources_46 rfl rfl ?_
    refine x_aload_n (q := 49) hC d_Tr_settleSources_48 rfl rfl rfl ?_
    refine x_getr (q := 52) (p := 79) (j := 9) (r := 126) hC f_Tr_25 rfl rfl rfl (by omega) (hu _ _ (by decide)) d_Tr_settleSources_49 rfl ?_
    refine x_iload_n (q := 53) hC d_Tr_settleSources_52 rfl rfl rfl ?_
    refine x_aald (q := 54) (p := 126) (r := 127 + (s * 3 + g)) hC (s * 3 + g) (mr_126 _ (by omega)) rfl (by omega) rfl (by omega) (by decide) d_Tr_settleSources_53 rfl ?_
    refine x_iload (q := 56) hC d_Tr_settleSources_54 rfl rfl ?_
    refine x_iald (q := 57) (p := 127 + (s * 3 + g)) hC n (sh_127 _ (by omega)) (by omega) rfl (by omega) (by decide) d_Tr_settleSources_56 rfl ?_
    refine x_aload_n (q := 58) hC d_Tr_settleSources_57 rfl rfl rfl ?_
    refine x_getr (q := 61) (p := 79) (j := 11) (r := 164) hC f_Tr_31 rfl rfl rfl (by omega) (hu _ _ (by decide)) d_Tr_settleSources_58 rfl ?_
    refine x_iload (q := 63) hC d_Tr_settleSources_61 rfl rfl ?_
    refine x_iald (q := 64) (p := 164) hC n rfl (by omega) rfl (by omega) (by decide) d_Tr_settleSources_63 rfl ?_
    refine x_ior (q := 65) (z := (m1 (127 + (s * 3 + g)) n) ||| (m1 164 n)) hC d_Tr_settleSources_64 rfl rfl ?_
    refine x_iast (q := 66) (p := 146 + (s * 3 + g)) hC n (sh_146 _ (by omega)) (by omega) (by omega) rfl (by omega) (by decide) d_Tr_settleSources_65 rfl ?_
    refine mx_nr (fun m5 e6 => ?_)
    have hIl : Tr_ok r m5 := by subst e6; exact Tr_o1_ok hI3
    refine x_aload_n (q := 67) hC d_Tr_settleSources_66 rfl rfl rfl ?_
    have J7 : mx_G Γ κ M_Tr_settleSources (MQ (mx_b κ) (mx_Qc Γ (fun ρ τ => ρ = none ∧ τ = (nx, u, Tr_sources s g mi))) (mx_a κ) (mx_s κ) M_Tr_settleSources.2.2.2.2.cells M_Tr_settleSources.2.2.2.2.slots (mx_fr Γ)) 125 [(8, .int (Tr_oat (s * 3 + g) s n m5)), (6, .int (nI n)), (5, .int (nI k)), (4, .ref (146 + (s * 3 + g))), (3, .int (nI (s * 3 + g))), (0, .ref 79), (1, .int (nI s)), (2, .int (nI g))] [] (nx, u, m5) 0 0 := by
      have J8 : mx_G Γ κ M_Tr_settleSources (MQ (mx_b κ) (mx_Qc Γ (fun ρ τ => ρ = none ∧ τ = (nx, u, Tr_sources s g mi))) (mx_a κ) (mx_s κ) M_Tr_settleSources.2.2.2.2.cells M_Tr_settleSources.2.2.2.2.slots (mx_fr Γ)) 145 [(8, .int (Tr_oat (s * 3 + g) s n m5)), (6, .int (nI n)), (5, .int (nI k)), (4, .ref (146 + (s * 3 + g))), (3, .int (nI (s * 3 + g))), (0, .ref 79), (1, .int (nI s)), (2, .int (nI g))] [] (nx, u, Tr_o2 n (Tr_oat (s * 3 + g) s n m5) m5) 0 0 := by
        refine mx_nr (fun mj ej => ?_)
        have hIj : Tr_ok r mj := ej ▸ Tr_o2_ok hIl
        refine x_aload_n (q := 146) hC d_Tr_settleSources_145 rfl rfl rfl ?_
        refine x_iconst (q := 147) (v := nI 2) hC d_Tr_settleSources_146 (by decide) rfl ?_
        refine x_iload (q := 149) hC d_Tr_settleSources_147 rfl rfl ?_
        refine x_aload_n (q := 150) hC d_Tr_settleSources_149 rfl rfl rfl ?_
        refine x_getr (q := 153) (p := 79) (j := 8) (r := 107) hC f_Tr_22 rfl rfl rfl (by omega) (hu _ _ (by decide)) d_Tr_settleSources_150 rfl ?_
        refine x_iload_n (q := 154) hC d_Tr_settleSources_153 rfl rfl rfl ?_
        refine x_aald (q := 155) (p := 107) (r := 108 + (s * 3 + g)) hC (s * 3 + g) (mr_107 _ (by omega)) rfl (by omega) rfl (by omega) (by decide) d_Tr_settleSources_154 rfl ?_
        refine x_iload (q := 157) hC d_Tr_settleSources_155 rfl rfl ?_
        refine x_iald (q := 158) (p := 108 + (s * 3 + g)) hC n (sh_108 _ (by omega)) (by omega) rfl (by omega) (by decide) d_Tr_settleSources_157 rfl ?_
        refine x_iload (q := 160) hC d_Tr_settleSources_158 rfl rfl ?_
        refine x_callV (q := 163) (p := 79) (A := [.int (nI 2), .int (nI n), .int (mj (108 + (s * 3 + g)) n), .int (Tr_oat (s * 3 + g) s n m5)]) (S := []) (c1 := 0) (s1 := 0) hC (c_Tr_announce (k := 2) (n := n) (x := mj (108 + (s * 3 + g)) n) (y := Tr_oat (s * 3 + g) s n m5) (by omega) hu (by omega) (by omega) (hIj.2.2.2.2.2 _ n (by omega) hn)) s_Tr_settleSources_87 rfl (by omega) rfl rfl rfl (Nat.le_of_ble_eq_true rfl) rfl rfl (by decide) (by decide) d_Tr_settleSources_160 rfl (fun r τ hP => ?_)
        obtain ⟨rfl, rfl⟩ := hP
        show mx_G Γ κ _ _ 163 [(8, .int (Tr_oat (s * 3 + g) s n m5)), (6, .int (nI n)), (5, .int (nI k)), (4, .ref (146 + (s * 3 + g))), (3, .int (nI (s * 3 + g))), (0, .ref 79), (1, .int (nI s)), (2, .int (nI g))] [] (nx, u, Tr_ann 2 n (mj (108 + (s * 3 + g)) n) (Tr_oat (s * 3 + g) s n m5) mj) 0 0
        refine mx_nr (fun m9 e10 => ?_)
        refine x_aload_n (q := 164) hC d_Tr_settleSources_163 rfl rfl rfl ?_
        refine x_getr (q := 167) (p := 79) (j := 8) (r := 107) hC f_Tr_22 rfl rfl rfl (by omega) (hu _ _ (by decide)) d_Tr_settleSources_164 rfl ?_
        refine x_iload_n (q := 168) hC d_Tr_settleSources_167 rfl rfl rfl ?_
        refine x_aald (q := 169) (p := 107) (r := 108 + (s * 3 + g)) hC (s * 3 + g) (mr_107 _ (by omega)) rfl (by omega) rfl (by omega) (by decide) d_Tr_settleSources_168 rfl ?_
        refine x_iload (q := 171) hC d_Tr_settleSources_169 rfl rfl ?_
        refine x_iload (q := 173) hC d_Tr_settleSources_171 rfl rfl ?_
        refine x_iast (q := 174) (p := 108 + (s * 3 + g)) hC n (sh_108 _ (by omega)) (by omega) (by omega) rfl (by omega) (by decide) d_Tr_settleSources_173 rfl ?_
        refine x_iinc (q := 177) (y := nI (k + 1)) (L1 := [(5, .int (nI (k + 1))), (8, .int (Tr_oat (s * 3 + g) s n m5)), (6, .int (nI n)), (4, .ref (146 + (s * 3 + g))), (3, .int (nI (s * 3 + g))), (0, .ref 79), (1, .int (nI s)), (2, .int (nI g))]) hC d_Tr_settleSources_174 rfl (mx_inc k) (by decide) rfl rfl ?_
        refine x_goto (tgt := 25) hC d_Tr_settleSources_177 (by decide) ?_
        subst e10
        subst ej
        subst e6
        exact x_close hN4 [0, 3, 4, 5, 6, 7] rfl (by show _ = Tr_ob _ _ (tn _) _; rw [et] <;> rfl)
      refine x_iload (q := 127) hC d_Tr_settleSources_125 rfl rfl ?_
      refine x_iconst (q := 128) (v := (-1)) hC d_Tr_settleSources_127 (by decide) rfl ?_
      refine x_icmp_eq (tgt := 145) (q := 131) hC d_Tr_settleSources_128 (by decide) rfl (fun h128 => ?_) (fun h128 => ?_)
      · skip
        exact x_sub (L1 := [(8, .int (Tr_oat (s * 3 + g) s n m5)), (6, .int (nI n)), (5, .int (nI k)), (4, .ref (146 + (s * 3 + g))), (3, .int (nI (s * 3 + g))), (0, .ref 79), (1, .int (nI s)), (2, .int (nI g))]) [0, 1, 2, 3, 4, 5, 6, 7] rfl (mx_eqG rfl rfl (pr (by subst e6; first | exact it_t h128 rfl | exact it_f h128 rfl)) J8)
      · skip
        obtain ⟨ea, ha⟩ := (Tr_oat_rng (st := s * 3 + g) hs hn hIl).tn h128
        refine x_aload_n (q := 132) hC d_Tr_settleSources_131 rfl rfl rfl ?_
        refine x_getr (q := 135) (p := 79) (j := 11) (r := 164) hC f_Tr_31 rfl rfl rfl (by omega) (hu _ _ (by decide)) d_Tr_settleSources_132 rfl ?_
        refine x_iload (q := 137) hC d_Tr_settleSources_135 rfl rfl ?_
        refine x_dup2 (q := 138) hC d_Tr_settleSources_137 rfl rfl rfl ?_
        refine x_iald (q := 139) (p := 164) hC (tn (Tr_oat (s * 3 + g) s n m5)) rfl (by omega) ea ha (by decide) d_Tr_settleSources_138 rfl ?_
        refine x_iconst (q := 140) (v := nI 1) hC d_Tr_settleSources_139 (by decide) rfl ?_
        refine x_iload (q := 142) hC d_Tr_settleSources_140 rfl rfl ?_
        refine x_ishl (q := 143) (z := (nI 1) <<< ((nI n) &&& 31)) hC d_Tr_settleSources_142 rfl rfl ?_
        refine x_ior (q := 144) (z := (m5 164 (tn (Tr_oat (s * 3 + g) s n m5))) ||| ((nI 1) <<< ((nI n) &&& 31))) hC d_Tr_settleSources_143 rfl rfl ?_
        refine x_iast (q := 145) (p := 164) hC (tn (Tr_oat (s * 3 + g) s n m5)) rfl (by omega) (by omega) ea ha (by decide) d_Tr_settleSources_144 rfl ?_
        refine mx_nr (fun m11 e12 => ?_)
        exact x_sub (L1 := [(8, .int (Tr_oat (s * 3 + g) s n m5)), (6, .int (nI n)), (5, .int (nI k)), (4, .ref (146 + (s * 3 + g))), (3, .int (nI (s * 3 + g))), (0, .ref 79), (1, .int (nI s)), (2, .int (nI g))]) [0, 1, 2, 3, 4, 5, 6, 7] rfl (mx_eqG rfl rfl (pr (by subst e12; subst e6; first | exact it_t h128 rfl | exact it_f h128 rfl)) J8)
    refine x_getr (q := 70) (p := 79) (j := 11) (r := 164) hC f_Tr_31 rfl rfl rfl (by omega) (hu _ _ (by decide)) d_Tr_settleSources_67 rfl ?_
    refine x_iload (q := 72) hC d_Tr_settleSources_70 rfl rfl ?_
    refine x_iald (q := 73) (p := 164) hC n rfl (by omega) rfl (by omega) (by decide) d_Tr_settleSources_72 rfl ?_
    refine x_if_ne (tgt := 97) (q := 76) hC d_Tr_settleSources_73 (by decide) rfl (fun h73 => ?_) (fun h73 => ?_)
    · skip
      refine x_iconst (q := 98) (v := nI 1) hC d_Tr_settleSources_97 (by decide) rfl ?_
      refine x_goto (tgt := 102) hC d_Tr_settleSources_98 (by decide) ?_
      refine x_istore (q := 104) (L1 := [(7, .int (nI 1)), (6, .int (nI n)), (5, .int (nI k)), (4, .ref (146 + (s * 3 + g))), (3, .int (nI (s * 3 + g))), (0, .ref 79), (1, .int (nI s)), (2, .int (nI g))]) hC d_Tr_settleSources_102 (by decide) rfl rfl ?_
      refine x_iload (q := 106) hC d_Tr_settleSources_104 rfl rfl ?_
      refine x_if_eq (tgt := 122) (q := 109) hC d_Tr_settleSources_106 (by decide) rfl (fun h => absurd h (by decide)) (fun _ => ?_)
      refine x_aload_n (q := 110) hC d_Tr_settleSources_109 rfl rfl rfl ?_
      refine x_getr (q := 113) (p := 79) (j := 1) (r := 5) hC f_Tr_39 rfl rfl rfl (by omega) (hu _ _ (by decide)) d_Tr_settleSources_110 rfl ?_
      refine x_iload (q := 115) hC d_Tr_settleSources_113 rfl rfl ?_
      refine x_iload_n (q := 116) hC d_Tr_settleSources_115 rfl rfl rfl ?_
      refine x_callV (q := 119) (p := 5) (A := [.int (nI n), .int (nI s)]) (S := []) (c1 := 0) (s1 := 0) hC (c_Ne_nextTowards (a := n) (b := s) (by omega) hu (by omega) (by omega)) s_Tr_settleSources_84 rfl (by omega) rfl rfl rfl (Nat.le_of_ble_eq_true rfl) rfl rfl (by decide) (by decide) d_Tr_settleSources_116 rfl (fun r τ hP => ?_)
      obtain ⟨rfl, rfl⟩ := hP
      show mx_G Γ κ _ _ 119 [(7, .int (nI 1)), (6, .int (nI n)), (5, .int (nI k)), (4, .ref (146 + (s * 3 + g))), (3, .int (nI (s * 3 + g))), (0, .ref 79), (1, .int (nI s)), (2, .int (nI g))] [.int (m5 (21 + n) s)] (nx, u, m5) 0 0
      refine x_goto (tgt := 123) hC d_Tr_settleSources_119 (by decide) ?_
      refine x_istore (q := 125) (L1 := [(8, .int (m5 (21 + n) s)), (7, .int (nI 1)), (6, .int (nI n)), (5, .int (nI k)), (4, .ref (146 + (s * 3 + g))), (3, .int (nI (s * 3 + g))), (0, .ref 79), (1, .int (nI s)), (2, .int (nI g))]) hC d_Tr_settleSources_123 (by decide) rfl rfl ?_
      exact x_sub (L1 := [(8, .int (m5 (21 + n) s)), (6, .int (nI n)), (5, .int (nI k)), (4, .ref (146 + (s * 3 + g))), (3, .int (nI (s * 3 + g))), (0, .ref 79), (1, .int (nI s)), (2, .int (nI g))]) [0, 2, 3, 4, 5, 6, 7, 8] rfl (mx_eqG (by subst e6; first | rw [Tr_oat, if_pos (Or.inl h73)] | rw [Tr_oat, if_pos (Or.inr (And.intro h86 h94))] | rw [Tr_oat, if_neg (by intro q; rcases q with q | q; exact q h73; first | exact h86 q.1 | exact q.2 h94)]) rfl rfl J7)
    · skip
      refine x_aload_n (q := 77) hC d_Tr_settleSources_76 rfl rfl rfl ?_
      refine x_getr (q := 80) (p := 79) (j := 3) (r := 57) hC f_Tr_47 rfl rfl rfl (by omega) (hu _ _ (by decide)) d_Tr_settleSources_77 rfl ?_
      refine x_iload_n (q := 81) hC d_Tr_settleSources_80 rfl rfl rfl ?_
      refine x_iload (q := 83) hC d_Tr_settleSources_81 rfl rfl ?_
      refine x_callV (q := 86) (p := 57) (A := [.int (nI (s * 3 + g)), .int (nI n)]) (S := []) (c1 := 0) (s1 := 0) hC (c_Sm_isAlive (s := s * 3 + g) (n := n) (by omega) hu (by omega) (by omega) ) s_Tr_settleSources_103 rfl (by omega) rfl rfl rfl (Nat.le_of_ble_eq_true rfl) rfl rfl (by decide) (by decide) d_Tr_settleSources_83 rfl (fun r τ hP => ?_)
      obtain ⟨rfl, rfl⟩ := hP
      show mx_G Γ κ _ _ 86 [(6, .int (nI n)), (5, .int (nI k)), (4, .ref (146 + (s * 3 + g))), (3, .int (nI (s * 3 + g))), (0, .ref 79), (1, .int (nI s)), (2, .int (nI g))] [.int (bz (m5 2 0 < m5 (59 + (s * 3 + g)) n))] (nx, u, m5) 0 0
      refine x_if_eq (tgt := 101) (q := 89) hC d_Tr_settleSources_86 (by decide) rfl (fun h86 => ?_) (fun h86 => ?_)
      · have h86 := bz_0 h86
        refine x_iconst (q := 102) (v := nI 0) hC d_Tr_settleSources_101 (by decide) rfl ?_
        refine x_istore (q := 104) (L1 := [(7, .int (nI 0)), (6, .int (nI n)), (5, .int (nI k)), (4, .ref (146 + (s * 3 + g))), (3, .int (nI (s * 3 + g))), (0, .ref 79), (1, .int (nI s)), (2, .int (nI g))]) hC d_Tr_settleSources_102 (by decide) rfl rfl ?_
        refine x_iload (q := 106) hC d_Tr_settleSources_104 rfl rfl ?_
        refine x_if_eq (tgt := 122) (q := 109) hC d_Tr_settleSources_106 (by decide) rfl (fun _ => ?_) (fun h => absurd (by decide) h)
        refine x_iconst (q := 123) (v := (-1)) hC d_Tr_settleSources_122 (by decide) rfl ?_
        refine x_istore (q := 125) (L1 := [(8, .int ((-1))), (7, .int (nI 0)), (6, .int (nI n)), (5, .int (nI k)), (4, .ref (146 + (s * 3 + g))), (3, .int (nI (s * 3 + g))), (0, .ref 79), (1, .int (nI s)), (2, .int (nI g))]) hC d_Tr_settleSources_123 (by decide) rfl rfl ?_
        exact x_sub (L1 := [(8, .int ((-1))), (6, .int (nI n)), (5, .int (nI k)), (4, .ref (146 + (s * 3 + g))), (3, .int (nI (s * 3 + g))), (0, .ref 79), (1, .int (nI s)), (2, .int (nI g))]) [0, 2, 3, 4, 5, 6, 7, 8] rfl (mx_eqG (by subst e6; first | rw [Tr_oat, if_pos (Or.inl h73)] | rw [Tr_oat, if_pos (Or.inr (And.intro h86 h94))] | rw [Tr_oat, if_neg (by intro q; rcases q with q | q; exact q h73; first | exact h86 q.1 | exact q.2 h94)]) rfl rfl J7)
      · have h86 := bz_1 h86
        refine x_aload (q := 91) hC d_Tr_settleSources_89 rfl rfl ?_
        refine x_iload (q := 93) hC d_Tr_settleSources_91 rfl rfl ?_
        refine x_iald (q := 94) (p := 146 + (s * 3 + g)) hC n (sh_146 _ (by omega)) (by omega) rfl (by omega) (by decide) d_Tr_settleSources_93 rfl ?_
        refine x_if_eq (tgt := 101) (q := 97) hC d_Tr_settleSources_94 (by decide) rfl (fun h94 => ?_) (fun h94 => ?_)
        · skip
          refine x_iconst (q := 102) (v := nI 0) hC d_Tr_settleSources_101 (by decide) rfl ?_
          refine x_istore (q := 104) (L1 := [(7, .int (nI 0)), (6, .int (nI n)), (5, .int (nI k)), (4, .ref (146 + (s * 3 + g))), (3, .int (nI (s * 3 + g))), (0, .ref 79), (1, .int (nI s)), (2, .int (nI g))]) hC d_Tr_settleSources_102 (by decide) rfl rfl ?_
          refine x_iload (q := 106) hC d_Tr_settleSources_104 rfl rfl ?_
          refine x_if_eq (tgt := 122) (q := 109) hC d_Tr_settleSources_106 (by decide) rfl (fun _ => ?_) (fun h => absurd (by decide) h)
          refine x_iconst (q := 123) (v := (-1)) hC d_Tr_settleSources_122 (by decide) rfl ?_
          refine x_istore (q := 125) (L1 := [(8, .int ((-1))), (7, .int (nI 0)), (6, .int (nI n)), (5, .int (nI k)), (4, .ref (146 + (s * 3 + g))), (3, .int (nI (s * 3 + g))), (0, .ref 79), (1, .int (nI s)), (2, .int (nI g))]) hC d_Tr_settleSources_123 (by decide) rfl rfl ?_
          exact x_sub (L1 := [(8, .int ((-1))), (6, .int (nI n)), (5, .int (nI k)), (4, .ref (146 + (s * 3 + g))), (3, .int (nI (s * 3 + g))), (0, .ref 79), (1, .int (nI s)), (2, .int (nI g))]) [0, 2, 3, 4, 5, 6, 7, 8] rfl (mx_eqG (by subst e6; first | rw [Tr_oat, if_pos (Or.inl h73)] | rw [Tr_oat, if_pos (Or.inr (And.intro h86 h94))] | rw [Tr_oat, if_neg (by intro q; rcases q with q | q; exact q h73; first | exact h86 q.1 | exact q.2 h94)]) rfl rfl J7)
        · skip
          refine x_iconst (q := 98) (v := nI 1) hC d_Tr_settleSources_97 (by decide) rfl ?_
          refine x_goto (tgt := 102) hC d_Tr_settleSources_98 (by decide) ?_
          refine x_istore (q := 104) (L1 := [(7, .int (nI 1)), (6, .int (nI n)), (5, .int (nI k)), (4, .ref (146 + (s * 3 + g))), (3, .int (nI (s * 3 + g))), (0, .ref 79), (1, .int (nI s)), (2, .int (nI g))]) hC d_Tr_settleSources_102 (by decide) rfl rfl ?_
          refine x_iload (q := 106) hC d_Tr_settleSources_104 rfl rfl ?_
          refine x_if_eq (tgt := 122) (q := 109) hC d_Tr_settleSources_106 (by decide) rfl (fun h => absurd h (by decide)) (fun _ => ?_)
          refine x_aload_n (q := 110) hC d_Tr_settleSources_109 rfl rfl rfl ?_
          refine x_getr (q := 113) (p := 79) (j := 1) (r := 5) hC f_Tr_39 rfl rfl rfl (by omega) (hu _ _ (by decide)) d_Tr_settleSources_110 rfl ?_
          refine x_iload (q := 115) hC d_Tr_settleSources_113 rfl rfl ?_
          refine x_iload_n (q := 116) hC d_Tr_settleSources_115 rfl rfl rfl ?_
          refine x_callV (q := 119) (p := 5) (A := [.int (nI n), .int (nI s)]) (S := []) (c1 := 0) (s1 := 0) hC (c_Ne_nextTowards (a := n) (b := s) (by omega) hu (by omega) (by omega)) s_Tr_settleSources_84 rfl (by omega) rfl rfl rfl (Nat.le_of_ble_eq_true rfl) rfl rfl (by decide) (by decide) d_Tr_settleSources_116 rfl (fun r τ hP => ?_)
          obtain ⟨rfl, rfl⟩ := hP
          show mx_G Γ κ _ _ 119 [(7, .int (nI 1)), (6, .int (nI n)), (5, .int (nI k)), (4, .ref (146 + (s * 3 + g))), (3, .int (nI (s * 3 + g))), (0, .ref 79), (1, .int (nI s)), (2, .int (nI g))] [.int (m5 (21 + n) s)] (nx, u, m5) 0 0
          refine x_goto (tgt := 123) hC d_Tr_settleSources_119 (by decide) ?_
          refine x_istore (q := 125) (L1 := [(8, .int (m5 (21 + n) s)), (7, .int (nI 1)), (6, .int (nI n)), (5, .int (nI k)), (4, .ref (146 + (s * 3 + g))), (3, .int (nI (s * 3 + g))), (0, .ref 79), (1, .int (nI s)), (2, .int (nI g))]) hC d_Tr_settleSources_123 (by decide) rfl rfl ?_
          exact x_sub (L1 := [(8, .int (m5 (21 + n) s)), (6, .int (nI n)), (5, .int (nI k)), (4, .ref (146 + (s * 3 + g))), (3, .int (nI (s * 3 + g))), (0, .ref 79), (1, .int (nI s)), (2, .int (nI g))]) [0, 2, 3, 4, 5, 6, 7, 8] rfl (mx_eqG (by subst e6; first | rw [Tr_oat, if_pos (Or.inl h73)] | rw [Tr_oat, if_pos (Or.inr (And.intro h86 h94))] | rw [Tr_oat, if_neg (by intro q; rcases q with q | q; exact q h73; first | exact h86 q.1 | exact q.2 h94)]) rfl rfl J7)
  · intro hx13
    refine mx_nr (fun m14 e15 => ?_)
    try rw [e15] at hx13
    refine x_iload (q := 27) hC d_Tr_settleSources_25 rfl rfl ?_
    refine x_bipush (q := 29) (v := nI 6) hC d_Tr_settleSources_27 (by decide) rfl ?_
    refine x_icmp_ge (tgt := 180) (q := 32) hC d_Tr_settleSources_29 (by decide) rfl (fun _ => ?_) (fun h => absurd (nI_le (Nat.le_refl _) (by decide)) h)
    subst e15
    exact x_vret hC rfl ⟨rfl, by subst_vars; rfl⟩ (by decide) (by decide) d_Tr_settleSources_180
set_option maxRecDepth 100000 in
set_option maxHeartbeats 400000 in
theorem c_Tr_settle {Γ : mx_X} {lau : Launch} {nx : Nat} {u : Nat → Nat → Bool} {mi : mx_Mm} {r : Nat} (hnx : 165 ≤ nx) (hu : ∀ p k, 2 ≤ p → u p k = true) (hr : r < 6) (hok : Tr_ok r mi) : mx_C Γ lau M_Tr_settle [.ref 79] (nx, u, mi) (fun ρ τ => ρ = none ∧ τ = (nx, u, Tr_settle r mi)) := by
  refine mx_C.intro (by decide) rfl (Nat.le_of_ble_eq_true rfl) (fun κ _ hC => ?_)
  show mx_G Γ κ _ _ 0 [(0, .ref 79)] [] (nx, u, mi) 0 0
  refine x_iconst (q := 1) (v := nI 0) hC d_Tr_settle_0 (by decide) rfl ?_
  refine x_istore_n (q := 2) (L1 := [(1, .int (nI 0)), (0, .ref 79)]) hC d_Tr_settle_1 rfl (by decide) rfl rfl ?_
  refine x_sub (L1 := [(1, .int (nI 0)), (0, .ref 79)]) [0, 1] rfl ?_
  refine mx_loop (N := 3) (Hd := fun g m1 => mx_G Γ κ _ _ 2 [(1, .int (nI g)), (0, .ref 79)] [] (nx, u, m1) 0 0) (fun g => Tr_shared g r) (fun _ m => Tr_ok r m) hok ?_ ?_ ?_
  · exact fun g m hg h => Tr_shared_ok hg hr h
  · intro g m1 hl2 hI3 hN4
    refine x_iload_n (q := 3) hC d_Tr_settle_2 rfl rfl rfl ?_
    refine x_iconst (q := 4) (v := nI 3) hC d_Tr_settle_3 (by decide) rfl ?_
    refine x_icmp_ge (tgt := 18) (q := 7) hC d_Tr_settle_4 (by decide) rfl (fun h => absurd h (nI_ge hl2 (by decide))) (fun _ => ?_)
    refine x_aload_n (q := 8) hC d_Tr_settle_7 rfl rfl rfl ?_
    refine x_iload_n (q := 9) hC d_Tr_settle_8 rfl rfl rfl ?_
    refine x_callV (q := 12) (p := 79) (A := [.int (nI g)]) (S := []) (c1 := 0) (s1 := 0) hC (c_Tr_settleShared (g := g) (r := r) (by omega) hu (by omega) hr hI3) s_Tr_settle_61 rfl (by omega) rfl rfl rfl (Nat.le_of_ble_eq_true rfl) rfl rfl (by decide) (by decide) d_Tr_settle_9 rfl (fun r τ hP => ?_)
    obtain ⟨rfl, rfl⟩ := hP
    show mx_G Γ κ _ _ 12 [(1, .int (nI g)), (0, .ref 79)] [] (nx, u, Tr_shared g r m1) 0 0
    refine x_iinc (q := 15) (y := nI (g + 1)) (L1 := [(1, .int (nI (g + 1))), (0, .ref 79)]) hC d_Tr_settle_12 rfl (mx_inc g) (by decide) rfl rfl ?_
    refine x_goto (tgt := 2) hC d_Tr_settle_15 (by decide) ?_
    exact x_close hN4 [0, 1] rfl (by rfl)
  · intro hx5
    refine mx_nr (fun m6 e7 => ?_)
    try rw [e7] at hx5
    refine x_iload_n (q := 3) hC d_Tr_settle_2 rfl rfl rfl ?_
    refine x_iconst (q := 4) (v := nI 3) hC d_Tr_settle_3 (by decide) rfl ?_
    refine x_icmp_ge (tgt := 18) (q := 7) hC d_Tr_settle_4 (by decide) rfl (fun _ => ?_) (fun h => absurd (nI_le (Nat.le_refl _) (by decide)) h)
    refine x_iconst (q := 19) (v := nI 0) hC d_Tr_settle_18 (by decide) rfl ?_
    refine x_istore_n (q := 20) (L1 := [(1, .int (nI 0)), (0, .ref 79)]) hC d_Tr_settle_19 rfl (by decide) rfl rfl ?_
    refine x_sub (L1 := [(1, .int (nI 0)), (0, .ref 79)]) [0, 1] rfl ?_
    refine mx_loop (N := 6) (Hd := fun s m8 => mx_G Γ κ _ _ 20 [(1, .int (nI s)), (0, .ref 79)] [] (nx, u, m8) 0 0) (fun s => mx_lp 3 (Tr_st1 r s)) (fun _ m => Tr_ok r m) (by assumption) ?_ ?_ ?_
    · exact fun s m hs h => lp_keep (Tr_ok r) 3 h (fun _ _ hg h => Tr_st1_ok hs hg hr h)
    · intro s m8 hl9 hI10 hN11
      have hs' := hl9
      refine x_iload_n (q := 21) hC d_Tr_settle_20 rfl rfl rfl ?_
      refine x_bipush (q := 23) (v := nI 6) hC d_Tr_settle_21 (by decide) rfl ?_
      refine x_icmp_ge (tgt := 57) (q := 26) hC d_Tr_settle_23 (by decide) rfl (fun h => absurd h (nI_ge hl9 (by decide))) (fun _ => ?_)
      refine x_iconst (q := 27) (v := nI 0) hC d_Tr_settle_26 (by decide) rfl ?_
      refine x_istore_n (q := 28) (L1 := [(2, .int (nI 0)), (1, .int (nI s)), (0, .ref 79)]) hC d_Tr_settle_27 rfl (by decide) rfl rfl ?_
      refine x_sub (L1 := [(2, .int (nI 0)), (1, .int (nI s)), (0, .ref 79)]) [0, 1, 2] rfl ?_
      refine mx_loop (N := 3) (Hd := fun g m12 => mx_G Γ κ _ _ 28 [(2, .int (nI g)), (1, .int (nI s)), (0, .ref 79)] [] (nx, u, m12) 0 0) (Tr_st1 r s) (fun _ m => Tr_ok r m) (by assumption) ?_ ?_ ?_
      · exact fun g m hg h => Tr_st1_ok hs' hg hr h
      · intro g m12 hl13 hI14 hN15
        have hg' := hl13
        refine x_iload_n (q := 29) hC d_Tr_settle_28 rfl rfl rfl ?_
        refine x_iconst (q := 30) (v := nI 3) hC d_Tr_settle_29 (by decide) rfl ?_
        refine x_icmp_ge (tgt := 51) (q := 33) hC d_Tr_settle_30 (by decide) rfl (fun h => absurd h (nI_ge hl13 (by decide))) (fun _ => ?_)
        refine x_aload_n (q := 34) hC d_Tr_settle_33 rfl rfl rfl ?_
        refine x_iload_n (q := 35) hC d_Tr_settle_34 rfl rfl rfl ?_
        refine x_iload_n (q := 36) hC d_Tr_settle_35 rfl rfl rfl ?_
        refine x_callV (q := 39) (p := 79) (A := [.int (nI s), .int (nI g)]) (S := []) (c1 := 0) (s1 := 0) hC (c_Tr_settleCuts (s := s) (g := g) (r := r) (by omega) hu (by omega) (by omega) hr hI14) s_Tr_settle_65 rfl (by omega) rfl rfl rfl (Nat.le_of_ble_eq_true rfl) rfl rfl (by decide) (by decide) d_Tr_settle_36 rfl (fun r τ hP => ?_)
        obtain ⟨rfl, rfl⟩ := hP
        show mx_G Γ κ _ _ 39 [(2, .int (nI g)), (1, .int (nI s)), (0, .ref 79)] [] (nx, u, Tr_cuts s g r m12) 0 0
        refine x_aload_n (q := 40) hC d_Tr_settle_39 rfl rfl rfl ?_
        refine x_iload_n (q := 41) hC d_Tr_settle_40 rfl rfl rfl ?_
        refine x_iload_n (q := 42) hC d_Tr_settle_41 rfl rfl rfl ?_
        refine x_callV (q := 45) (p := 79) (A := [.int (nI s), .int (nI g)]) (S := []) (c1 := 0) (s1 := 0) hC (c_Tr_settleSources (s := s) (g := g) (r := r) (by omega) hu (by omega) (by omega) (by subst_vars; exact Tr_cuts_ok hs' hg' hr hI14)) s_Tr_settle_69 rfl (by omega) rfl rfl rfl (Nat.le_of_ble_eq_true rfl) rfl rfl (by decide) (by decide) d_Tr_settle_42 rfl (fun r τ hP => ?_)
        obtain ⟨rfl, rfl⟩ := hP
        show mx_G Γ κ _ _ 45 [(2, .int (nI g)), (1, .int (nI s)), (0, .ref 79)] [] (nx, u, Tr_sources s g (Tr_cuts s g r m12)) 0 0
        refine x_iinc (q := 48) (y := nI (g + 1)) (L1 := [(2, .int (nI (g + 1))), (1, .int (nI s)), (0, .ref 79)]) hC d_Tr_settle_45 rfl (mx_inc g) (by decide) rfl rfl ?_
        refine x_goto (tgt := 28) hC d_Tr_settle_48 (by decide) ?_
        exact x_close hN15 [0, 1, 2] rfl (by rfl)
      · intro hx16
        refine mx_nr (fun m17 e18 => ?_)
        try rw [e18] at hx16
        refine x_iload_n (q := 29) hC d_Tr_settle_28 rfl rfl rfl ?_
        refine x_iconst (q := 30) (v := nI 3) hC d_Tr_settle_29 (by decide) rfl ?_
        refine x_icmp_ge (tgt := 51) (q := 33) hC d_Tr_settle_30 (by decide) rfl (fun _ => ?_) (fun h => absurd (nI_le (Nat.le_refl _) (by decide)) h)
        refine x_iinc (q := 54) (y := nI (s + 1)) (L1 := [(1, .int (nI (s + 1))), (2, .int (nI 3)), (0, .ref 79)]) hC d_Tr_settle_51 rfl (mx_inc s) (by decide) rfl rfl ?_
        refine x_goto (tgt := 20) hC d_Tr_settle_54 (by decide) ?_
        subst e18
        exact x_close hN11 [0, 2] rfl (by rfl)
    · intro hx19
      refine mx_nr (fun m20 e21 => ?_)
      try rw [e21] at hx19
      refine x_iload_n (q := 21) hC d_Tr_settle_20 rfl rfl rfl ?_
      refine x_bipush (q := 23) (v := nI 6) hC d_Tr_settle_21 (by decide) rfl ?_
      refine x_icmp_ge (tgt := 57) (q := 26) hC d_Tr_settle_23 (by decide) rfl (fun _ => ?_) (fun h => absurd (nI_le (Nat.le_refl _) (by decide)) h)
      subst e21
      subst e7
      exact x_vret hC rfl ⟨rfl, by subst_vars; rfl⟩ (by decide) (by decide) d_Tr_settle_57
