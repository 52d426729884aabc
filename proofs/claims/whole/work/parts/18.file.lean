set_option maxRecDepth 100000 in
set_option maxHeartbeats 400000 in
theorem c_Fi_exists {Γ : mx_X} {lau : Launch} {nx : Nat} {u : Nat → Nat → Bool} {mi : mx_Mm} {x : Int32} (hnx : 185 ≤ nx) (hu : ∀ p k, 2 ≤ p → u p k = true)  : mx_C Γ lau M_Fi_exists [.ref 168, .int x] (nx, u, mi) (fun ρ τ => ρ = some (.int (bz (0 ≤ x ∧ x < mi 168 11))) ∧ τ = (nx, u, mi)) := by
  refine mx_C.intro (by decide) rfl (Nat.le_of_ble_eq_true rfl) (fun κ _ hC => ?_)
  show mx_G Γ κ _ _ 0 [(0, .ref 168), (1, .int x)] [] (nx, u, mi) 0 0
  refine x_iload_n (q := 1) hC d_Fi_exists_0 rfl rfl rfl ?_
  refine x_if_lt (tgt := 16) (q := 4) hC d_Fi_exists_1 (by decide) rfl (fun h1 => ?_) (fun h1 => ?_)
  · skip
    refine x_iconst (q := 17) (v := nI 0) hC d_Fi_exists_16 (by decide) rfl ?_
    exact x_iret hC rfl rfl ⟨bz_f (fun q => Int32.not_le.mpr h1 q.1), rfl⟩ (by decide) (by decide) d_Fi_exists_17
  · skip
    refine x_iload_n (q := 5) hC d_Fi_exists_4 rfl rfl rfl ?_
    refine x_aload_n (q := 6) hC d_Fi_exists_5 rfl rfl rfl ?_
    refine x_geti (q := 9) (p := 168) (j := 11) hC f_Fi_38 rfl rfl (by omega) d_Fi_exists_6 rfl ?_
    refine x_icmp_ge (tgt := 16) (q := 12) hC d_Fi_exists_9 (by decide) rfl (fun h9 => ?_) (fun h9 => ?_)
    · skip
      refine x_iconst (q := 17) (v := nI 0) hC d_Fi_exists_16 (by decide) rfl ?_
      exact x_iret hC rfl rfl ⟨bz_f (fun q => Int32.not_lt.mpr h9 q.2), rfl⟩ (by decide) (by decide) d_Fi_exists_17
    · skip
      refine x_iconst (q := 13) (v := nI 1) hC d_Fi_exists_12 (by decide) rfl ?_
      refine x_goto (tgt := 17) hC d_Fi_exists_13 (by decide) ?_
      exact x_iret hC rfl rfl ⟨bz_t (And.intro (Int32.not_lt.mp h1) (Int32.not_le.mp h9)), rfl⟩ (by decide) (by decide) d_Fi_exists_17
set_option maxRecDepth 100000 in
set_option maxHeartbeats 400000 in
theorem c_Fi_isFull {Γ : mx_X} {lau : Launch} {nx : Nat} {u : Nat → Nat → Bool} {mi : mx_Mm}  (hnx : 185 ≤ nx) (hu : ∀ p k, 2 ≤ p → u p k = true)  : mx_C Γ lau M_Fi_isFull [.ref 168] (nx, u, mi) (fun ρ τ => ρ = some (.int (bz (¬ mi 168 11 < nI 4))) ∧ τ = (nx, u, mi)) := by
  refine mx_C.intro (by decide) rfl (Nat.le_of_ble_eq_true rfl) (fun κ _ hC => ?_)
  show mx_G Γ κ _ _ 0 [(0, .ref 168)] [] (nx, u, mi) 0 0
  refine x_aload_n (q := 1) hC d_Fi_isFull_0 rfl rfl rfl ?_
  refine x_geti (q := 4) (p := 168) (j := 11) hC f_Fi_38 rfl rfl (by omega) d_Fi_isFull_1 rfl ?_
  refine x_iconst (q := 5) (v := nI 4) hC d_Fi_isFull_4 (by decide) rfl ?_
  refine x_icmp_lt (tgt := 12) (q := 8) hC d_Fi_isFull_5 (by decide) rfl (fun h5 => ?_) (fun h5 => ?_)
  · skip
    refine x_iconst (q := 13) (v := nI 0) hC d_Fi_isFull_12 (by decide) rfl ?_
    exact x_iret hC rfl rfl ⟨bz_f (fun q => q h5), rfl⟩ (by decide) (by decide) d_Fi_isFull_13
  · skip
    refine x_iconst (q := 9) (v := nI 1) hC d_Fi_isFull_8 (by decide) rfl ?_
    refine x_goto (tgt := 13) hC d_Fi_isFull_9 (by decide) ?_
    exact x_iret hC rfl rfl ⟨bz_t (h5), rfl⟩ (by decide) (by decide) d_Fi_isFull_13
set_option maxRecDepth 100000 in
set_option maxHeartbeats 400000 in
theorem c_Fi_create {Γ : mx_X} {lau : Launch} {nx : Nat} {u : Nat → Nat → Bool} {mi : mx_Mm} {c s g : Nat} {b : Int32} (hnx : 185 ≤ nx) (hu : ∀ p k, 2 ≤ p → u p k = true) (hc : mi 168 11 = nI c) (hc4 : c < 4) : mx_C Γ lau M_Fi_create [.ref 168, .int (nI s), .int (nI g), .int b] (nx, u, mi) (fun ρ τ => ρ = some (.int ((Fi_c4 c s g b mi) 168 11 - nI 1)) ∧ τ = (nx, u, Fi_c4 c s g b mi)) := by
  refine mx_C.intro (by decide) rfl (Nat.le_of_ble_eq_true rfl) (fun κ _ hC => ?_)
  show mx_G Γ κ _ _ 0 [(0, .ref 168), (1, .int (nI s)), (2, .int (nI g)), (3, .int b)] [] (nx, u, mi) 0 0
  refine x_aload_n (q := 1) hC d_Fi_create_0 rfl rfl rfl ?_
  refine x_getr (q := 4) (p := 168) (j := 3) (r := 169) hC f_Fi_9 rfl rfl rfl (by omega) (hu _ _ (by decide)) d_Fi_create_1 rfl ?_
  refine x_aload_n (q := 5) hC d_Fi_create_4 rfl rfl rfl ?_
  refine x_geti (q := 8) (p := 168) (j := 11) hC f_Fi_38 rfl rfl (by omega) d_Fi_create_5 rfl ?_
  refine x_iload_n (q := 9) hC d_Fi_create_8 rfl rfl rfl ?_
  refine x_iast (q := 10) (p := 169) hC c rfl (by omega) (by omega) hc hc4 (by decide) d_Fi_create_9 rfl ?_
  refine x_aload_n (q := 11) hC d_Fi_create_10 rfl rfl rfl ?_
  refine x_getr (q := 14) (p := 168) (j := 4) (r := 170) hC f_Fi_15 rfl rfl rfl (by omega) (hu _ _ (by decide)) d_Fi_create_11 rfl ?_
  refine x_aload_n (q := 15) hC d_Fi_create_14 rfl rfl rfl ?_
  refine x_geti (q := 18) (p := 168) (j := 11) hC f_Fi_38 rfl rfl (by omega) d_Fi_create_15 rfl ?_
  refine x_iload_n (q := 19) hC d_Fi_create_18 rfl rfl rfl ?_
  refine x_iast (q := 20) (p := 170) hC c rfl (by omega) (by omega) (by show mx_up mi 169 c (nI s) 168 11 = nI c; rw [up_neP (by decide)]; exact hc) hc4 (by decide) d_Fi_create_19 rfl ?_
  refine x_aload_n (q := 21) hC d_Fi_create_20 rfl rfl rfl ?_
  refine x_getr (q := 24) (p := 168) (j := 5) (r := 171) hC f_Fi_18 rfl rfl rfl (by omega) (hu _ _ (by decide)) d_Fi_create_21 rfl ?_
  refine x_aload_n (q := 25) hC d_Fi_create_24 rfl rfl rfl ?_
  refine x_geti (q := 28) (p := 168) (j := 11) hC f_Fi_38 rfl rfl (by omega) d_Fi_create_25 rfl ?_
  refine x_iload_n (q := 29) hC d_Fi_create_28 rfl rfl rfl ?_
  refine x_iast (q := 30) (p := 171) hC c rfl (by omega) (by omega) (by show mx_up (mx_up mi 169 c (nI s)) 170 c (nI g) 168 11 = nI c; rw [up_neP (by decide), up_neP (by decide)]; exact hc) hc4 (by decide) d_Fi_create_29 rfl ?_
  refine x_aload_n (q := 31) hC d_Fi_create_30 rfl rfl rfl ?_
  refine x_dup (q := 32) hC d_Fi_create_31 rfl rfl ?_
  refine x_geti (q := 35) (p := 168) (j := 11) hC f_Fi_38 rfl rfl (by omega) d_Fi_create_32 rfl ?_
  refine x_iconst (q := 36) (v := nI 1) hC d_Fi_create_35 (by decide) rfl ?_
  refine x_iadd (q := 37) (z := ((mx_up (mx_up (mx_up mi 169 c (nI s)) 170 c (nI g)) 171 c b) 168 11) + (nI 1)) hC d_Fi_create_36 rfl rfl ?_
  refine x_puti (q := 40) (p := 168) (j := 11) hC f_Fi_38 y_Fi rfl rfl rfl rfl rfl (by omega) (by decide) d_Fi_create_37 rfl ?_
  refine x_aload_n (q := 41) hC d_Fi_create_40 rfl rfl rfl ?_
  refine x_geti (q := 44) (p := 168) (j := 11) hC f_Fi_38 rfl rfl (by omega) d_Fi_create_41 rfl ?_
  refine x_iconst (q := 45) (v := nI 1) hC d_Fi_create_44 (by decide) rfl ?_
  refine x_isub (q := 46) (z := ((mx_up (mx_up (mx_up (mx_up mi 169 c (nI s)) 170 c (nI g)) 171 c b) 168 11 (((mx_up (mx_up (mx_up mi 169 c (nI s)) 170 c (nI g)) 171 c b) 168 11) + (nI 1))) 168 11) - (nI 1)) hC d_Fi_create_45 rfl rfl ?_
  exact x_iret hC rfl rfl ⟨rfl, rfl⟩ (by decide) (by decide) d_Fi_create_46
set_option maxRecDepth 100000 in
set_option maxHeartbeats 400000 in
theorem c_Fi_sourceOf {Γ : mx_X} {lau : Launch} {nx : Nat} {u : Nat → Nat → Bool} {mi : mx_Mm} {f : Nat} (hnx : 185 ≤ nx) (hu : ∀ p k, 2 ≤ p → u p k = true) (hf : f < 4) : mx_C Γ lau M_Fi_sourceOf [.ref 168, .int (nI f)] (nx, u, mi) (fun ρ τ => ρ = some (.int (mi 169 f)) ∧ τ = (nx, u, mi)) := by
  refine mx_C.intro (by decide) rfl (Nat.le_of_ble_eq_true rfl) (fun κ _ hC => ?_)
  show mx_G Γ κ _ _ 0 [(0, .ref 168), (1, .int (nI f))] [] (nx, u, mi) 0 0
  refine x_aload_n (q := 1) hC d_Fi_sourceOf_0 rfl rfl rfl ?_
  refine x_getr (q := 4) (p := 168) (j := 3) (r := 169) hC f_Fi_9 rfl rfl rfl (by omega) (hu _ _ (by decide)) d_Fi_sourceOf_1 rfl ?_
  refine x_iload_n (q := 5) hC d_Fi_sourceOf_4 rfl rfl rfl ?_
  refine x_iald (q := 6) (p := 169) hC f rfl (by omega) rfl (by omega) (by decide) d_Fi_sourceOf_5 rfl ?_
  exact x_iret hC rfl rfl ⟨rfl, rfl⟩ (by decide) (by decide) d_Fi_sourceOf_6
set_option maxRecDepth 100000 in
set_option maxHeartbeats 400000 in
theorem c_Fi_groupOf {Γ : mx_X} {lau : Launch} {nx : Nat} {u : Nat → Nat → Bool} {mi : mx_Mm} {f : Nat} (hnx : 185 ≤ nx) (hu : ∀ p k, 2 ≤ p → u p k = true) (hf : f < 4) : mx_C Γ lau M_Fi_groupOf [.ref 168, .int (nI f)] (nx, u, mi) (fun ρ τ => ρ = some (.int (mi 170 f)) ∧ τ = (nx, u, mi)) := by
  refine mx_C.intro (by decide) rfl (Nat.le_of_ble_eq_true rfl) (fun κ _ hC => ?_)
  show mx_G Γ κ _ _ 0 [(0, .ref 168), (1, .int (nI f))] [] (nx, u, mi) 0 0
  refine x_aload_n (q := 1) hC d_Fi_groupOf_0 rfl rfl rfl ?_
  refine x_getr (q := 4) (p := 168) (j := 4) (r := 170) hC f_Fi_15 rfl rfl rfl (by omega) (hu _ _ (by decide)) d_Fi_groupOf_1 rfl ?_
  refine x_iload_n (q := 5) hC d_Fi_groupOf_4 rfl rfl rfl ?_
  refine x_iald (q := 6) (p := 170) hC f rfl (by omega) rfl (by omega) (by decide) d_Fi_groupOf_5 rfl ?_
  exact x_iret hC rfl rfl ⟨rfl, rfl⟩ (by decide) (by decide) d_Fi_groupOf_6
set_option maxRecDepth 100000 in
set_option maxHeartbeats 400000 in
theorem c_Fi_blocksAt {Γ : mx_X} {lau : Launch} {nx : Nat} {u : Nat → Nat → Bool} {mi : mx_Mm} {f l : Nat} (hnx : 185 ≤ nx) (hu : ∀ p k, 2 ≤ p → u p k = true) (hf : f < 4) (hl : l < 6) : mx_C Γ lau M_Fi_blocksAt [.ref 168, .int (nI f), .int (nI l)] (nx, u, mi) (fun ρ τ => ρ = some (.int (mi (175 + f) l)) ∧ τ = (nx, u, mi)) := by
  refine mx_C.intro (by decide) rfl (Nat.le_of_ble_eq_true rfl) (fun κ _ hC => ?_)
  show mx_G Γ κ _ _ 0 [(0, .ref 168), (1, .int (nI f)), (2, .int (nI l))] [] (nx, u, mi) 0 0
  refine x_aload_n (q := 1) hC d_Fi_blocksAt_0 rfl rfl rfl ?_
  refine x_getr (q := 4) (p := 168) (j := 8) (r := 174) hC f_Fi_29 rfl rfl rfl (by omega) (hu _ _ (by decide)) d_Fi_blocksAt_1 rfl ?_
  refine x_iload_n (q := 5) hC d_Fi_blocksAt_4 rfl rfl rfl ?_
  refine x_aald (q := 6) (p := 174) (r := 175 + f) hC f (mr_174 _ (by omega)) rfl (by omega) rfl (by omega) (by decide) d_Fi_blocksAt_5 rfl ?_
  refine x_iload_n (q := 7) hC d_Fi_blocksAt_6 rfl rfl rfl ?_
  refine x_iald (q := 8) (p := 175 + f) hC l (sh_175 _ (by omega)) (by omega) rfl (by omega) (by decide) d_Fi_blocksAt_7 rfl ?_
  exact x_iret hC rfl rfl ⟨rfl, rfl⟩ (by decide) (by decide) d_Fi_blocksAt_8
set_option maxRecDepth 100000 in
set_option maxHeartbeats 400000 in
theorem c_Fi_takeTurn {Γ : mx_X} {lau : Launch} {nx : Nat} {u : Nat → Nat → Bool} {mi : mx_Mm} {f n : Nat} (hnx : 185 ≤ nx) (hu : ∀ p k, 2 ≤ p → u p k = true) (hf : f < 4) (hn : mi 171 f = nI n) (hn16 : n ≤ 16) : mx_C Γ lau M_Fi_takeTurn [.ref 168, .int (nI f)] (nx, u, mi) (fun ρ τ => ρ = some (.int (Fi_tv f n mi)) ∧ τ = (nx, u, Fi_tm f n mi)) := by
  refine mx_C.intro (by decide) rfl (Nat.le_of_ble_eq_true rfl) (fun κ _ hC => ?_)
  show mx_G Γ κ _ _ 0 [(0, .ref 168), (1, .int (nI f))] [] (nx, u, mi) 0 0
  refine x_iconst (q := 1) (v := nI 0) hC d_Fi_takeTurn_0 (by decide) rfl ?_
  refine x_istore_n (q := 2) (L1 := [(2, .int (nI 0)), (0, .ref 168), (1, .int (nI f))]) hC d_Fi_takeTurn_1 rfl (by decide) rfl rfl ?_
  refine x_sub (L1 := [(2, .int (nI 0)), (0, .ref 168), (1, .int (nI f))]) [0, 1, 2] rfl ?_
  refine mx_loopR (N := n) (Hd := fun b => mx_G Γ κ _ _ 2 [(2, .int (nI b)), (0, .ref 168), (1, .int (nI f))] [] (nx, u, mi) 0 0) (Fi_hb f mi) ?_ ?_
  · intro b hl1 hn2 hN3
    refine x_iload_n (q := 3) hC d_Fi_takeTurn_2 rfl rfl rfl ?_
    refine x_aload_n (q := 4) hC d_Fi_takeTurn_3 rfl rfl rfl ?_
    refine x_getr (q := 7) (p := 168) (j := 5) (r := 171) hC f_Fi_18 rfl rfl rfl (by omega) (hu _ _ (by decide)) d_Fi_takeTurn_4 rfl ?_
    refine x_iload_n (q := 8) hC d_Fi_takeTurn_7 rfl rfl rfl ?_
    refine x_iald (q := 9) (p := 171) hC f rfl (by omega) rfl (by omega) (by decide) d_Fi_takeTurn_8 rfl ?_
    refine mx_eqG (S1 := [.int (nI n), .int (nI b)]) rfl (by exact congrArg (fun z => Value.int z :: ([.int (nI b)] : List Value)) (show mi 171 f = nI n from hn)) rfl ?_
    refine x_icmp_ge (tgt := 47) (q := 12) hC d_Fi_takeTurn_9 (by decide) rfl (fun h => absurd h (nI_ge hl1 (by omega))) (fun _ => ?_)
    refine x_aload_n (q := 13) hC d_Fi_takeTurn_12 rfl rfl rfl ?_
    refine x_getr (q := 16) (p := 168) (j := 7) (r := 173) hC f_Fi_24 rfl rfl rfl (by omega) (hu _ _ (by decide)) d_Fi_takeTurn_13 rfl ?_
    refine x_iload_n (q := 17) hC d_Fi_takeTurn_16 rfl rfl rfl ?_
    refine x_iald (q := 18) (p := 173) hC f rfl (by omega) rfl (by omega) (by decide) d_Fi_takeTurn_17 rfl ?_
    refine x_iload_n (q := 19) hC d_Fi_takeTurn_18 rfl rfl rfl ?_
    refine x_callSN (q := 22) (A := [.int (mi 173 f), .int (nI b)]) (S := []) (c1 := 0) (s1 := 0) hC (c_MT_holds (n := b)) s_Fi_takeTurn_57 rfl rfl rfl (Nat.le_of_ble_eq_true rfl) rfl rfl (by decide) (by decide) d_Fi_takeTurn_19 rfl (fun r τ hP => ?_)
    obtain ⟨rfl, rfl⟩ := hP
    show mx_G Γ κ _ _ 22 [(2, .int (nI b)), (0, .ref 168), (1, .int (nI f))] [.int (bz (hold (mi 173 f) b))] (nx, u, mi) 0 0
    refine x_if_eq (tgt := 41) (q := 25) hC d_Fi_takeTurn_22 (by decide) rfl (fun h22 => ?_) (fun h22 => ?_)
    · have h22 := bz_0 h22
      refine x_iinc (q := 44) (y := nI (b + 1)) (L1 := [(2, .int (nI (b + 1))), (0, .ref 168), (1, .int (nI f))]) hC d_Fi_takeTurn_41 rfl (mx_inc b) (by decide) rfl rfl ?_
      refine x_goto (tgt := 2) hC d_Fi_takeTurn_44 (by decide) ?_
      exact x_sub [0, 1, 2] rfl (hN3 (decide_eq_false h22))
    · have h22 := bz_1 h22
      refine x_aload_n (q := 26) hC d_Fi_takeTurn_25 rfl rfl rfl ?_
      refine x_getr (q := 29) (p := 168) (j := 7) (r := 173) hC f_Fi_24 rfl rfl rfl (by omega) (hu _ _ (by decide)) d_Fi_takeTurn_26 rfl ?_
      refine x_iload_n (q := 30) hC d_Fi_takeTurn_29 rfl rfl rfl ?_
      refine x_dup2 (q := 31) hC d_Fi_takeTurn_30 rfl rfl rfl ?_
      refine x_iald (q := 32) (p := 173) hC f rfl (by omega) rfl (by omega) (by decide) d_Fi_takeTurn_31 rfl ?_
      refine x_iconst (q := 33) (v := nI 1) hC d_Fi_takeTurn_32 (by decide) rfl ?_
      refine x_iload_n (q := 34) hC d_Fi_takeTurn_33 rfl rfl rfl ?_
      refine x_ishl (q := 35) (z := (nI 1) <<< ((nI b) &&& 31)) hC d_Fi_takeTurn_34 rfl rfl ?_
      refine x_iconst (q := 36) (v := (-1)) hC d_Fi_takeTurn_35 (by decide) rfl ?_
      refine x_ixor (q := 37) (z := ((nI 1) <<< ((nI b) &&& 31)) ^^^ (-1)) hC d_Fi_takeTurn_36 rfl rfl ?_
      refine x_iand (q := 38) (z := (mi 173 f) &&& (((nI 1) <<< ((nI b) &&& 31)) ^^^ (-1))) hC d_Fi_takeTurn_37 rfl rfl ?_
      refine x_iast (q := 39) (p := 173) hC f rfl (by omega) (by omega) rfl (by omega) (by decide) d_Fi_takeTurn_38 rfl ?_
      refine x_iload_n (q := 40) hC d_Fi_takeTurn_39 rfl rfl rfl ?_
      exact x_iret hC rfl rfl ⟨sv (it_t (by rw [pm_fd_eq hl1 (decide_eq_true h22) hn2]; exact hl1) (by rw [pm_fd_eq hl1 (decide_eq_true h22) hn2] <;> rfl)), pr (it_t (by rw [pm_fd_eq hl1 (decide_eq_true h22) hn2]; exact hl1) (by rw [pm_fd_eq hl1 (decide_eq_true h22) hn2] <;> rfl))⟩ (by decide) (by decide) d_Fi_takeTurn_40
  · intro hx
    refine x_iload_n (q := 3) hC d_Fi_takeTurn_2 rfl rfl rfl ?_
    refine x_aload_n (q := 4) hC d_Fi_takeTurn_3 rfl rfl rfl ?_
    refine x_getr (q := 7) (p := 168) (j := 5) (r := 171) hC f_Fi_18 rfl rfl rfl (by omega) (hu _ _ (by decide)) d_Fi_takeTurn_4 rfl ?_
    refine x_iload_n (q := 8) hC d_Fi_takeTurn_7 rfl rfl rfl ?_
    refine x_iald (q := 9) (p := 171) hC f rfl (by omega) rfl (by omega) (by decide) d_Fi_takeTurn_8 rfl ?_
    refine mx_eqG (S1 := [.int (nI n), .int (nI n)]) rfl (by exact congrArg (fun z => Value.int z :: ([.int (nI n)] : List Value)) (show mi 171 f = nI n from hn)) rfl ?_
    refine x_icmp_ge (tgt := 47) (q := 12) hC d_Fi_takeTurn_9 (by decide) rfl (fun _ => ?_) (fun h => absurd (nI_le (Nat.le_refl _) (by omega)) h)
    refine x_aload_n (q := 48) hC d_Fi_takeTurn_47 rfl rfl rfl ?_
    refine x_getr (q := 51) (p := 168) (j := 6) (r := 172) hC f_Fi_21 rfl rfl rfl (by omega) (hu _ _ (by decide)) d_Fi_takeTurn_48 rfl ?_
    refine x_iload_n (q := 52) hC d_Fi_takeTurn_51 rfl rfl rfl ?_
    refine x_iald (q := 53) (p := 172) hC f rfl (by omega) rfl (by omega) (by decide) d_Fi_takeTurn_52 rfl ?_
    refine x_aload_n (q := 54) hC d_Fi_takeTurn_53 rfl rfl rfl ?_
    refine x_getr (q := 57) (p := 168) (j := 5) (r := 171) hC f_Fi_18 rfl rfl rfl (by omega) (hu _ _ (by decide)) d_Fi_takeTurn_54 rfl ?_
    refine x_iload_n (q := 58) hC d_Fi_takeTurn_57 rfl rfl rfl ?_
    refine x_iald (q := 59) (p := 171) hC f rfl (by omega) rfl (by omega) (by decide) d_Fi_takeTurn_58 rfl ?_
    refine x_icmp_ne (tgt := 69) (q := 62) hC d_Fi_takeTurn_59 (by decide) rfl (fun h59 => ?_) (fun h59 => ?_)
    · skip
      refine x_aload_n (q := 70) hC d_Fi_takeTurn_69 rfl rfl rfl ?_
      refine x_getr (q := 73) (p := 168) (j := 6) (r := 172) hC f_Fi_21 rfl rfl rfl (by omega) (hu _ _ (by decide)) d_Fi_takeTurn_70 rfl ?_
      refine x_iload_n (q := 74) hC d_Fi_takeTurn_73 rfl rfl rfl ?_
      refine x_dup2 (q := 75) hC d_Fi_takeTurn_74 rfl rfl rfl ?_
      refine x_iald (q := 76) (p := 172) hC f rfl (by omega) rfl (by omega) (by decide) d_Fi_takeTurn_75 rfl ?_
      refine x_iconst (q := 77) (v := nI 1) hC d_Fi_takeTurn_76 (by decide) rfl ?_
      refine x_iadd (q := 78) (z := (mi 172 f) + (nI 1)) hC d_Fi_takeTurn_77 rfl rfl ?_
      refine x_iast (q := 79) (p := 172) hC f rfl (by omega) (by omega) rfl (by omega) (by decide) d_Fi_takeTurn_78 rfl ?_
      refine x_aload_n (q := 80) hC d_Fi_takeTurn_79 rfl rfl rfl ?_
      refine x_getr (q := 83) (p := 168) (j := 6) (r := 172) hC f_Fi_21 rfl rfl rfl (by omega) (hu _ _ (by decide)) d_Fi_takeTurn_80 rfl ?_
      refine x_iload_n (q := 84) hC d_Fi_takeTurn_83 rfl rfl rfl ?_
      refine x_iald (q := 85) (p := 172) hC f rfl (by omega) rfl (by omega) (by decide) d_Fi_takeTurn_84 rfl ?_
      refine x_iconst (q := 86) (v := nI 1) hC d_Fi_takeTurn_85 (by decide) rfl ?_
      refine x_isub (q := 87) (z := ((mx_up mi 172 f ((mi 172 f) + (nI 1))) 172 f) - (nI 1)) hC d_Fi_takeTurn_86 rfl rfl ?_
      exact x_iret hC rfl rfl ⟨sv (it_f (by rw [pm_fd_none hx]; exact Nat.lt_irrefl _) (it_f h59 rfl)), pr (it_f (by rw [pm_fd_none hx]; exact Nat.lt_irrefl _) (it_f h59 rfl))⟩ (by decide) (by decide) d_Fi_takeTurn_87
    · skip
      refine x_aload_n (q := 63) hC d_Fi_takeTurn_62 rfl rfl rfl ?_
      refine x_getr (q := 66) (p := 168) (j := 5) (r := 171) hC f_Fi_18 rfl rfl rfl (by omega) (hu _ _ (by decide)) d_Fi_takeTurn_63 rfl ?_
      refine x_iload_n (q := 67) hC d_Fi_takeTurn_66 rfl rfl rfl ?_
      refine x_iald (q := 68) (p := 171) hC f rfl (by omega) rfl (by omega) (by decide) d_Fi_takeTurn_67 rfl ?_
      exact x_iret hC rfl rfl ⟨sv (it_f (by rw [pm_fd_none hx]; exact Nat.lt_irrefl _) (it_t h59 rfl)), pr (it_f (by rw [pm_fd_none hx]; exact Nat.lt_irrefl _) (it_t h59 rfl))⟩ (by decide) (by decide) d_Fi_takeTurn_68
set_option maxRecDepth 100000 in
set_option maxHeartbeats 400000 in
theorem c_Fi_store {Γ : mx_X} {lau : Launch} {nx : Nat} {u : Nat → Nat → Bool} {mi : mx_Mm} {f l : Nat} {x : Int32} (hnx : 185 ≤ nx) (hu : ∀ p k, 2 ≤ p → u p k = true) (hf : f < 4) (hl : l < 6) : mx_C Γ lau M_Fi_store [.ref 168, .int (nI f), .int x, .int (nI l)] (nx, u, mi) (fun ρ τ => ρ = none ∧ τ = (nx, u, Fi_store f x l mi)) := by
  refine mx_C.intro (by decide) rfl (Nat.le_of_ble_eq_true rfl) (fun κ _ hC => ?_)
  show mx_G Γ κ _ _ 0 [(0, .ref 168), (1, .int (nI f)), (2, .int x), (3, .int (nI l))] [] (nx, u, mi) 0 0
  refine x_iload_n (q := 1) hC d_Fi_store_0 rfl rfl rfl ?_
  have J1 : mx_G Γ κ M_Fi_store (MQ (mx_b κ) (mx_Qc Γ (fun ρ τ => ρ = none ∧ τ = (nx, u, Fi_store f x l mi))) (mx_a κ) (mx_s κ) M_Fi_store.2.2.2.2.cells M_Fi_store.2.2.2.2.slots (mx_fr Γ)) 24 [(0, .ref 168), (1, .int (nI f)), (2, .int x), (3, .int (nI l))] [] (nx, u, Fi_s1 f l x mi) 0 0 := by
    refine x_aload_n (q := 25) hC d_Fi_store_24 rfl rfl rfl ?_
    refine x_getr (q := 28) (p := 168) (j := 9) (r := 179) hC f_Fi_32 rfl rfl rfl (by omega) (hu _ _ (by decide)) d_Fi_store_25 rfl ?_
    refine x_iload_n (q := 29) hC d_Fi_store_28 rfl rfl rfl ?_
    refine x_aald (q := 30) (p := 179) (r := 180 + f) hC f (mr_179 _ (by omega)) rfl (by omega) rfl (by omega) (by decide) d_Fi_store_29 rfl ?_
    refine x_iload_n (q := 31) hC d_Fi_store_30 rfl rfl rfl ?_
    refine x_aload_n (q := 32) hC d_Fi_store_31 rfl rfl rfl ?_
    refine x_getr (q := 35) (p := 168) (j := 9) (r := 179) hC f_Fi_32 rfl rfl rfl (by omega) (hu _ _ (by decide)) d_Fi_store_32 rfl ?_
    refine x_iload_n (q := 36) hC d_Fi_store_35 rfl rfl rfl ?_
    refine x_aald (q := 37) (p := 179) (r := 180 + f) hC f (mr_179 _ (by omega)) rfl (by omega) rfl (by omega) (by decide) d_Fi_store_36 rfl ?_
    refine x_iload_n (q := 38) hC d_Fi_store_37 rfl rfl rfl ?_
    refine x_iald (q := 39) (p := 180 + f) hC l (sh_180 _ (by omega)) (by omega) rfl (by omega) (by decide) d_Fi_store_38 rfl ?_
    refine x_iload_n (q := 40) hC d_Fi_store_39 rfl rfl rfl ?_
    refine x_iconst (q := 41) (v := nI 1) hC d_Fi_store_40 (by decide) rfl ?_
    refine x_iadd (q := 42) (z := x + (nI 1)) hC d_Fi_store_41 rfl rfl ?_
    refine x_aload_n (q := 43) hC d_Fi_store_42 rfl rfl rfl ?_
    refine x_getr (q := 46) (p := 168) (j := 5) (r := 171) hC f_Fi_18 rfl rfl rfl (by omega) (hu _ _ (by decide)) d_Fi_store_43 rfl ?_
    refine x_iload_n (q := 47) hC d_Fi_store_46 rfl rfl rfl ?_
    refine x_iald (q := 48) (p := 171) hC f rfl (by omega) rfl (by omega) (by decide) d_Fi_store_47 rfl ?_
    refine x_callS (q := 51) (A := [.int (x + (nI 1)), .int ((Fi_s1 f l x mi) 171 f)]) (S := [.int ((Fi_s1 f l x mi) (180 + f) l), .int (nI l), .ref (180 + f)]) (c1 := 0) (s1 := 0) hC (c_JM_min) s_Fi_store_70 rfl rfl rfl (Nat.le_of_ble_eq_true rfl) rfl rfl (by decide) (by decide) d_Fi_store_48 rfl (fun r τ hP => ?_)
    obtain ⟨rfl, rfl⟩ := hP
    show mx_G Γ κ _ _ 51 [(0, .ref 168), (1, .int (nI f)), (2, .int x), (3, .int (nI l))] [.int (pm_n (x + (nI 1)) ((Fi_s1 f l x mi) 171 f)), .int ((Fi_s1 f l x mi) (180 + f) l), .int (nI l), .ref (180 + f)] (nx, u, Fi_s1 f l x mi) 0 0
    refine x_callS (q := 54) (A := [.int ((Fi_s1 f l x mi) (180 + f) l), .int (pm_n (x + (nI 1)) ((Fi_s1 f l x mi) 171 f))]) (S := [.int (nI l), .ref (180 + f)]) (c1 := 0) (s1 := 0) hC (c_JM_max) s_Fi_store_76 rfl rfl rfl (Nat.le_of_ble_eq_true rfl) rfl rfl (by decide) (by decide) d_Fi_store_51 rfl (fun r τ hP => ?_)
    obtain ⟨rfl, rfl⟩ := hP
    show mx_G Γ κ _ _ 54 [(0, .ref 168), (1, .int (nI f)), (2, .int x), (3, .int (nI l))] [.int (pm_x ((Fi_s1 f l x mi) (180 + f) l) (pm_n (x + (nI 1)) ((Fi_s1 f l x mi) 171 f))), .int (nI l), .ref (180 + f)] (nx, u, Fi_s1 f l x mi) 0 0
    refine x_iast (q := 55) (p := 180 + f) hC l (sh_180 _ (by omega)) (by omega) (by omega) rfl (by omega) (by decide) d_Fi_store_54 rfl ?_
    refine mx_nr (fun m2 e3 => ?_)
    subst e3
    exact x_vret hC rfl ⟨rfl, rfl⟩ (by decide) (by decide) d_Fi_store_55
  refine x_aload_n (q := 2) hC d_Fi_store_1 rfl rfl rfl ?_
  refine x_getr (q := 5) (p := 168) (j := 5) (r := 171) hC f_Fi_18 rfl rfl rfl (by omega) (hu _ _ (by decide)) d_Fi_store_2 rfl ?_
  refine x_iload_n (q := 6) hC d_Fi_store_5 rfl rfl rfl ?_
  refine x_iald (q := 7) (p := 171) hC f rfl (by omega) rfl (by omega) (by decide) d_Fi_store_6 rfl ?_
  refine x_icmp_ge (tgt := 24) (q := 10) hC d_Fi_store_7 (by decide) rfl (fun h7 => ?_) (fun h7 => ?_)
  · skip
    exact x_sub (L1 := [(0, .ref 168), (1, .int (nI f)), (2, .int x), (3, .int (nI l))]) [0, 1, 2, 3] rfl (mx_eqG rfl rfl (pr (by first | exact it_t (Int32.not_le.mp h7) rfl | exact it_f (Int32.not_lt.mpr h7) rfl)) J1)
  · skip
    refine x_aload_n (q := 11) hC d_Fi_store_10 rfl rfl rfl ?_
    refine x_getr (q := 14) (p := 168) (j := 8) (r := 174) hC f_Fi_29 rfl rfl rfl (by omega) (hu _ _ (by decide)) d_Fi_store_11 rfl ?_
    refine x_iload_n (q := 15) hC d_Fi_store_14 rfl rfl rfl ?_
    refine x_aald (q := 16) (p := 174) (r := 175 + f) hC f (mr_174 _ (by omega)) rfl (by omega) rfl (by omega) (by decide) d_Fi_store_15 rfl ?_
    refine x_iload_n (q := 17) hC d_Fi_store_16 rfl rfl rfl ?_
    refine x_dup2 (q := 18) hC d_Fi_store_17 rfl rfl rfl ?_
    refine x_iald (q := 19) (p := 175 + f) hC l (sh_175 _ (by omega)) (by omega) rfl (by omega) (by decide) d_Fi_store_18 rfl ?_
    refine x_iconst (q := 20) (v := nI 1) hC d_Fi_store_19 (by decide) rfl ?_
    refine x_iload_n (q := 21) hC d_Fi_store_20 rfl rfl rfl ?_
    refine x_ishl (q := 22) (z := (nI 1) <<< (x &&& 31)) hC d_Fi_store_21 rfl rfl ?_
    refine x_ior (q := 23) (z := (mi (175 + f) l) ||| ((nI 1) <<< (x &&& 31))) hC d_Fi_store_22 rfl rfl ?_
    refine x_iast (q := 24) (p := 175 + f) hC l (sh_175 _ (by omega)) (by omega) (by omega) rfl (by omega) (by decide) d_Fi_store_23 rfl ?_
    refine mx_nr (fun m4 e5 => ?_)
    exact x_sub (L1 := [(0, .ref 168), (1, .int (nI f)), (2, .int x), (3, .int (nI l))]) [0, 1, 2, 3] rfl (mx_eqG rfl rfl (pr (by subst e5; first | exact it_t (Int32.not_le.mp h7) rfl | exact it_f (Int32.not_lt.mpr h7) rfl)) J1)
set_option maxRecDepth 100000 in
set_option maxHeartbeats 400000 in
theorem c_Fi_deliver {Γ : mx_X} {lau : Launch} {nx : Nat} {u : Nat → Nat → Bool} {mi : mx_Mm} {f s g : Nat} {x y : Int32} (hnx : 185 ≤ nx) (hu : ∀ p k, 2 ≤ p → u p k = true) (hf : f < 4) (hg : g < 3) (hok : Fi_ok f s g mi) : mx_C Γ lau M_Fi_deliver [.ref 168, .int (nI f), .int x, .int y] (nx, u, mi) (fun ρ τ => ρ = none ∧ τ = (nx, u, mx_lp 6 (Fi_d1 f g x y) mi)) := by
  refine mx_C.intro (by decide) rfl (Nat.le_of_ble_eq_true rfl) (fun κ _ hC => ?_)
  show mx_G Γ κ _ _ 0 [(0, .ref 168), (1, .int (nI f)), (2, .int x), (3, .int y)] [] (nx, u, mi) 0 0
  refine x_iconst (q := 1) (v := nI 0) hC d_Fi_deliver_0 (by decide) rfl ?_
  refine x_istore (q := 3) (L1 := [(4, .int (nI 0)), (0, .ref 168), (1, .int (nI f)), (2, .int x), (3, .int y)]) hC d_Fi_deliver_1 (by decide) rfl rfl ?_
  refine x_sub (L1 := [(4, .int (nI 0)), (0, .ref 168), (1, .int (nI f)), (2, .int x), (3, .int y)]) [0, 1, 2, 3, 4] rfl ?_
  refine mx_loop (N := 6) (Hd := fun l m1 => mx_G Γ κ _ _ 3 [(4, .int (nI l)), (0, .ref 168), (1, .int (nI f)), (2, .int x), (3, .int y)] [] (nx, u, m1) 0 0) (Fi_d1 f g x y) (fun _ m => Fi_ok f s g m) hok ?_ ?_ ?_
  · exact fun l m _ h => Fi_d1_ok hf h
  · intro l m1 hl2 hI3 hN4
    refine x_iload (q := 5) hC d_Fi_deliver_3 rfl rfl ?_
    refine x_bipush (q := 7) (v := nI 6) hC d_Fi_deliver_5 (by decide) rfl ?_
    refine x_icmp_ge (tgt := 51) (q := 10) hC d_Fi_deliver_7 (by decide) rfl (fun h => absurd h (nI_ge hl2 (by decide))) (fun _ => ?_)
    refine x_iload_n (q := 11) hC d_Fi_deliver_10 rfl rfl rfl ?_
    refine x_iload (q := 13) hC d_Fi_deliver_11 rfl rfl ?_
    refine x_callSN (q := 16) (A := [.int y, .int (nI l)]) (S := []) (c1 := 0) (s1 := 0) hC (c_MT_holds (n := l)) s_Fi_deliver_57 rfl rfl rfl (Nat.le_of_ble_eq_true rfl) rfl rfl (by decide) (by decide) d_Fi_deliver_13 rfl (fun r τ hP => ?_)
    obtain ⟨rfl, rfl⟩ := hP
    show mx_G Γ κ _ _ 16 [(4, .int (nI l)), (0, .ref 168), (1, .int (nI f)), (2, .int x), (3, .int y)] [.int (bz (hold y l))] (nx, u, m1) 0 0
    refine x_if_eq (tgt := 45) (q := 19) hC d_Fi_deliver_16 (by decide) rfl (fun h16 => ?_) (fun h16 => ?_)
    · have h16 := bz_0 h16
      refine x_iinc (q := 48) (y := nI (l + 1)) (L1 := [(4, .int (nI (l + 1))), (0, .ref 168), (1, .int (nI f)), (2, .int x), (3, .int y)]) hC d_Fi_deliver_45 rfl (mx_inc l) (by decide) rfl rfl ?_
      refine x_goto (tgt := 3) hC d_Fi_deliver_48 (by decide) ?_
      exact x_close hN4 [0, 1, 2, 3, 4] rfl (by first | exact it_t (And.intro h16 h34) rfl | exact it_f (fun z => h16 z.1) rfl | exact it_f (fun z => h34 z.2) rfl)
    · have h16 := bz_1 h16
      refine x_aload_n (q := 20) hC d_Fi_deliver_19 rfl rfl rfl ?_
      refine x_getr (q := 23) (p := 168) (j := 1) (r := 34) hC f_Fi_49 rfl rfl rfl (by omega) (hu _ _ (by decide)) d_Fi_deliver_20 rfl ?_
      refine x_iload (q := 25) hC d_Fi_deliver_23 rfl rfl ?_
      refine x_aload_n (q := 26) hC d_Fi_deliver_25 rfl rfl rfl ?_
      refine x_getr (q := 29) (p := 168) (j := 4) (r := 170) hC f_Fi_15 rfl rfl rfl (by omega) (hu _ _ (by decide)) d_Fi_deliver_26 rfl ?_
      refine x_iload_n (q := 30) hC d_Fi_deliver_29 rfl rfl rfl ?_
      refine x_iald (q := 31) (p := 170) hC f rfl (by omega) rfl (by omega) (by decide) d_Fi_deliver_30 rfl ?_
      refine mx_eqG (S1 := [.int (nI g), .int (nI l), .ref 34]) rfl (by exact congrArg (fun z => Value.int z :: ([.int (nI l), .ref 34] : List Value)) (show m1 170 f = nI g from hI3.2)) rfl ?_
      refine x_callV (q := 34) (p := 34) (A := [.int (nI l), .int (nI g)]) (S := []) (c1 := 0) (s1 := 0) hC (c_La_hasMembers (l := l) (g := g) (by omega) hu (by omega) (by omega) ) s_Fi_deliver_61 rfl (by omega) rfl rfl rfl (Nat.le_of_ble_eq_true rfl) rfl rfl (by decide) (by decide) d_Fi_deliver_31 rfl (fun r τ hP => ?_)
      obtain ⟨rfl, rfl⟩ := hP
      show mx_G Γ κ _ _ 34 [(4, .int (nI l)), (0, .ref 168), (1, .int (nI f)), (2, .int x), (3, .int y)] [.int (bz (¬ m1 (36 + l) g = 0))] (nx, u, m1) 0 0
      refine x_if_eq (tgt := 45) (q := 37) hC d_Fi_deliver_34 (by decide) rfl (fun h34 => ?_) (fun h34 => ?_)
      · have h34 := bz_0 h34
        refine x_iinc (q := 48) (y := nI (l + 1)) (L1 := [(4, .int (nI (l + 1))), (0, .ref 168), (1, .int (nI f)), (2, .int x), (3, .int y)]) hC d_Fi_deliver_45 rfl (mx_inc l) (by decide) rfl rfl ?_
        refine x_goto (tgt := 3) hC d_Fi_deliver_48 (by decide) ?_
        exact x_close hN4 [0, 1, 2, 3, 4] rfl (by first | exact it_t (And.intro h16 h34) rfl | exact it_f (fun z => h16 z.1) rfl | exact it_f (fun z => h34 z.2) rfl)
      · have h34 := bz_1 h34
        refine x_aload_n (q := 38) hC d_Fi_deliver_37 rfl rfl rfl ?_
        refine x_iload_n (q := 39) hC d_Fi_deliver_38 rfl rfl rfl ?_
        refine x_iload_n (q := 40) hC d_Fi_deliver_39 rfl rfl rfl ?_
        refine x_iload (q := 42) hC d_Fi_deliver_40 rfl rfl ?_
        refine x_callV (q := 45) (p := 168) (A := [.int (nI f), .int x, .int (nI l)]) (S := []) (c1 := 0) (s1 := 0) hC (c_Fi_store (f := f) (x := x) (l := l) (by omega) hu (by omega) (by omega) ) s_Fi_deliver_66 rfl (by omega) rfl rfl rfl (Nat.le_of_ble_eq_true rfl) rfl rfl (by decide) (by decide) d_Fi_deliver_42 rfl (fun r τ hP => ?_)
        obtain ⟨rfl, rfl⟩ := hP
        show mx_G Γ κ _ _ 45 [(4, .int (nI l)), (0, .ref 168), (1, .int (nI f)), (2, .int x), (3, .int y)] [] (nx, u, Fi_store f x l m1) 0 0
        refine x_iinc (q := 48) (y := nI (l + 1)) (L1 := [(4, .int (nI (l + 1))), (0, .ref 168), (1, .int (nI f)), (2, .int x), (3, .int y)]) hC d_Fi_deliver_45 rfl (mx_inc l) (by decide) rfl rfl ?_
        refine x_goto (tgt := 3) hC d_Fi_deliver_48 (by decide) ?_
        exact x_close hN4 [0, 1, 2, 3, 4] rfl (by first | exact it_t (And.intro h16 h34) rfl | exact it_f (fun z => h16 z.1) rfl | exact it_f (fun z => h34 z.2) rfl)
  · intro hx5
    refine mx_nr (fun m6 e7 => ?_)
    try rw [e7] at hx5
    refine x_iload (q := 5) hC d_Fi_deliver_3 rfl rfl ?_
    refine x_bipush (q := 7) (v := nI 6) hC d_Fi_deliver_5 (by decide) rfl ?_
    refine x_icmp_ge (tgt := 51) (q := 10) hC d_Fi_deliver_7 (by decide) rfl (fun _ => ?_) (fun h => absurd (nI_le (Nat.le_refl _) (by decide)) h)
    subst e7
    exact x_vret hC rfl ⟨rfl, rfl⟩ (by decide) (by decide) d_Fi_deliver_51
set_option maxRecDepth 100000 in
set_option maxHeartbeats 400000 in
theorem c_Fi_missingAt {Γ : mx_X} {lau : Launch} {nx : Nat} {u : Nat → Nat → Bool} {mi : mx_Mm} {f l : Nat} (hnx : 185 ≤ nx) (hu : ∀ p k, 2 ≤ p → u p k = true) (hf : f < 4) (hl : l < 6) : mx_C Γ lau M_Fi_missingAt [.ref 168, .int (nI f), .int (nI l)] (nx, u, mi) (fun ρ τ => ρ = some (.int (Fi_mis f l mi)) ∧ τ = (nx, u, mi)) := by
  refine mx_C.intro (by decide) rfl (Nat.le_of_ble_eq_true rfl) (fun κ _ hC => ?_)
  show mx_G Γ κ _ _ 0 [(0, .ref 168), (1, .int (nI f)), (2, .int (nI l))] [] (nx, u, mi) 0 0
  refine x_iconst (q := 1) (v := nI 1) hC d_Fi_missingAt_0 (by decide) rfl ?_
  refine x_aload_n (q := 2) hC d_Fi_missingAt_1 rfl rfl rfl ?_
  refine x_getr (q := 5) (p := 168) (j := 9) (r := 179) hC f_Fi_32 rfl rfl rfl (by omega) (hu _ _ (by decide)) d_Fi_missingAt_2 rfl ?_
  refine x_iload_n (q := 6) hC d_Fi_missingAt_5 rfl rfl rfl ?_
  refine x_aald (q := 7) (p := 179) (r := 180 + f) hC f (mr_179 _ (by omega)) rfl (by omega) rfl (by omega) (by decide) d_Fi_missingAt_6 rfl ?_
  refine x_iload_n (q := 8) hC d_Fi_missingAt_7 rfl rfl rfl ?_
  refine x_iald (q := 9) (p := 180 + f) hC l (sh_180 _ (by omega)) (by omega) rfl (by omega) (by decide) d_Fi_missingAt_8 rfl ?_
  refine x_ishl (q := 10) (z := (nI 1) <<< ((mi (180 + f) l) &&& 31)) hC d_Fi_missingAt_9 rfl rfl ?_
  refine x_iconst (q := 11) (v := nI 1) hC d_Fi_missingAt_10 (by decide) rfl ?_
  refine x_isub (q := 12) (z := ((nI 1) <<< ((mi (180 + f) l) &&& 31)) - (nI 1)) hC d_Fi_missingAt_11 rfl rfl ?_
  refine x_aload_n (q := 13) hC d_Fi_missingAt_12 rfl rfl rfl ?_
  refine x_getr (q := 16) (p := 168) (j := 8) (r := 174) hC f_Fi_29 rfl rfl rfl (by omega) (hu _ _ (by decide)) d_Fi_missingAt_13 rfl ?_
  refine x_iload_n (q := 17) hC d_Fi_missingAt_16 rfl rfl rfl ?_
  refine x_aald (q := 18) (p := 174) (r := 175 + f) hC f (mr_174 _ (by omega)) rfl (by omega) rfl (by omega) (by decide) d_Fi_missingAt_17 rfl ?_
  refine x_iload_n (q := 19) hC d_Fi_missingAt_18 rfl rfl rfl ?_
  refine x_iald (q := 20) (p := 175 + f) hC l (sh_175 _ (by omega)) (by omega) rfl (by omega) (by decide) d_Fi_missingAt_19 rfl ?_
  refine x_iconst (q := 21) (v := (-1)) hC d_Fi_missingAt_20 (by decide) rfl ?_
  refine x_ixor (q := 22) (z := (mi (175 + f) l) ^^^ (-1)) hC d_Fi_missingAt_21 rfl rfl ?_
  refine x_iand (q := 23) (z := (((nI 1) <<< ((mi (180 + f) l) &&& 31)) - (nI 1)) &&& ((mi (175 + f) l) ^^^ (-1))) hC d_Fi_missingAt_22 rfl rfl ?_
  exact x_iret hC rfl rfl ⟨rfl, rfl⟩ (by decide) (by decide) d_Fi_missingAt_23
set_option maxRecDepth 100000 in
set_option maxHeartbeats 400000 in
theorem c_Fi_takesPart {Γ : mx_X} {lau : Launch} {nx : Nat} {u : Nat → Nat → Bool} {mi : mx_Mm} {f s g l : Nat} (hnx : 185 ≤ nx) (hu : ∀ p k, 2 ≤ p → u p k = true) (hf : f < 4) (hs : s < 6) (hg : g < 3) (hl : l < 6) (hok : Fi_ok f s g mi) : mx_C Γ lau M_Fi_takesPart [.ref 168, .int (nI f), .int (nI l)] (nx, u, mi) (fun ρ τ => ρ = some (.int (bz (Fi_part f s g l mi))) ∧ τ = (nx, u, mi)) := by
  refine mx_C.intro (by decide) rfl (Nat.le_of_ble_eq_true rfl) (fun κ _ hC => ?_)
  show mx_G Γ κ _ _ 0 [(0, .ref 168), (1, .int (nI f)), (2, .int (nI l))] [] (nx, u, mi) 0 0
  refine x_aload_n (q := 1) hC d_Fi_takesPart_0 rfl rfl rfl ?_
  refine x_getr (q := 4) (p := 168) (j := 0) (r := 5) hC f_Fi_45 rfl rfl rfl (by omega) (hu _ _ (by decide)) d_Fi_takesPart_1 rfl ?_
  refine x_iload_n (q := 5) hC d_Fi_takesPart_4 rfl rfl rfl ?_
  refine x_aload_n (q := 6) hC d_Fi_takesPart_5 rfl rfl rfl ?_
  refine x_getr (q := 9) (p := 168) (j := 3) (r := 169) hC f_Fi_9 rfl rfl rfl (by omega) (hu _ _ (by decide)) d_Fi_takesPart_6 rfl ?_
  refine x_iload_n (q := 10) hC d_Fi_takesPart_9 rfl rfl rfl ?_
  refine x_iald (q := 11) (p := 169) hC f rfl (by omega) rfl (by omega) (by decide) d_Fi_takesPart_10 rfl ?_
  refine mx_eqG (S1 := [.int (nI s), .int (nI l), .ref 5]) rfl (by exact congrArg (fun z => Value.int z :: ([.int (nI l), .ref 5] : List Value)) (show mi 169 f = nI s from hok.1)) rfl ?_
  refine x_callV (q := 14) (p := 5) (A := [.int (nI l), .int (nI s)]) (S := []) (c1 := 0) (s1 := 0) hC (c_Ne_areConnected (a := l) (b := s) (by omega) hu (by omega) (by omega)) s_Fi_takesPart_97 rfl (by omega) rfl rfl rfl (Nat.le_of_ble_eq_true rfl) rfl rfl (by decide) (by decide) d_Fi_takesPart_11 rfl (fun r τ hP => ?_)
  obtain ⟨rfl, rfl⟩ := hP
  show mx_G Γ κ _ _ 14 [(0, .ref 168), (1, .int (nI f)), (2, .int (nI l))] [.int (bz (mi (14 + l) s < nI 1000))] (nx, u, mi) 0 0
  refine x_if_eq (tgt := 47) (q := 17) hC d_Fi_takesPart_14 (by decide) rfl (fun h14 => ?_) (fun h14 => ?_)
  · have h14 := bz_0 h14
    refine x_iconst (q := 48) (v := nI 0) hC d_Fi_takesPart_47 (by decide) rfl ?_
    exact x_iret hC rfl rfl ⟨bz_f (fun q => h14 q.1), rfl⟩ (by decide) (by decide) d_Fi_takesPart_48
  · have h14 := bz_1 h14
    refine x_aload_n (q := 18) hC d_Fi_takesPart_17 rfl rfl rfl ?_
    refine x_getr (q := 21) (p := 168) (j := 1) (r := 34) hC f_Fi_49 rfl rfl rfl (by omega) (hu _ _ (by decide)) d_Fi_takesPart_18 rfl ?_
    refine x_iload_n (q := 22) hC d_Fi_takesPart_21 rfl rfl rfl ?_
    refine x_aload_n (q := 23) hC d_Fi_takesPart_22 rfl rfl rfl ?_
    refine x_getr (q := 26) (p := 168) (j := 4) (r := 170) hC f_Fi_15 rfl rfl rfl (by omega) (hu _ _ (by decide)) d_Fi_takesPart_23 rfl ?_
    refine x_iload_n (q := 27) hC d_Fi_takesPart_26 rfl rfl rfl ?_
    refine x_iald (q := 28) (p := 170) hC f rfl (by omega) rfl (by omega) (by decide) d_Fi_takesPart_27 rfl ?_
    refine mx_eqG (S1 := [.int (nI g), .int (nI l), .ref 34]) rfl (by exact congrArg (fun z => Value.int z :: ([.int (nI l), .ref 34] : List Value)) (show mi 170 f = nI g from hok.2)) rfl ?_
    refine x_callV (q := 31) (p := 34) (A := [.int (nI l), .int (nI g)]) (S := []) (c1 := 0) (s1 := 0) hC (c_La_hasMembers (l := l) (g := g) (by omega) hu (by omega) (by omega) ) s_Fi_takesPart_61 rfl (by omega) rfl rfl rfl (Nat.le_of_ble_eq_true rfl) rfl rfl (by decide) (by decide) d_Fi_takesPart_28 rfl (fun r τ hP => ?_)
    obtain ⟨rfl, rfl⟩ := hP
    show mx_G Γ κ _ _ 31 [(0, .ref 168), (1, .int (nI f)), (2, .int (nI l))] [.int (bz (¬ mi (36 + l) g = 0))] (nx, u, mi) 0 0
    refine x_if_eq (tgt := 47) (q := 34) hC d_Fi_takesPart_31 (by decide) rfl (fun h31 => ?_) (fun h31 => ?_)
    · have h31 := bz_0 h31
      refine x_iconst (q := 48) (v := nI 0) hC d_Fi_takesPart_47 (by decide) rfl ?_
      exact x_iret hC rfl rfl ⟨bz_f (fun q => h31 q.2.1), rfl⟩ (by decide) (by decide) d_Fi_takesPart_48
    · have h31 := bz_1 h31
      refine x_aload_n (q := 35) hC d_Fi_takesPart_34 rfl rfl rfl ?_
      refine x_iload_n (q := 36) hC d_Fi_takesPart_35 rfl rfl rfl ?_
      refine x_iload_n (q := 37) hC d_Fi_takesPart_36 rfl rfl rfl ?_
      refine x_callV (q := 40) (p := 168) (A := [.int (nI f), .int (nI l)]) (S := []) (c1 := 0) (s1 := 0) hC (c_Fi_missingAt (f := f) (l := l) (by omega) hu (by omega) (by omega) ) s_Fi_takesPart_83 rfl (by omega) rfl rfl rfl (Nat.le_of_ble_eq_true rfl) rfl rfl (by decide) (by decide) d_Fi_takesPart_37 rfl (fun r τ hP => ?_)
      obtain ⟨rfl, rfl⟩ := hP
      show mx_G Γ κ _ _ 40 [(0, .ref 168), (1, .int (nI f)), (2, .int (nI l))] [.int (Fi_mis f l mi)] (nx, u, mi) 0 0
      refine x_if_eq (tgt := 47) (q := 43) hC d_Fi_takesPart_40 (by decide) rfl (fun h40 => ?_) (fun h40 => ?_)
      · skip
        refine x_iconst (q := 48) (v := nI 0) hC d_Fi_takesPart_47 (by decide) rfl ?_
        exact x_iret hC rfl rfl ⟨bz_f (fun q => q.2.2 h40), rfl⟩ (by decide) (by decide) d_Fi_takesPart_48
      · skip
        refine x_iconst (q := 44) (v := nI 1) hC d_Fi_takesPart_43 (by decide) rfl ?_
        refine x_goto (tgt := 48) hC d_Fi_takesPart_44 (by decide) ?_
        exact x_iret hC rfl rfl ⟨bz_t (And.intro h14 (And.intro h31 h40)), rfl⟩ (by decide) (by decide) d_Fi_takesPart_48
set_option maxRecDepth 100000 in
set_option maxHeartbeats 400000 in
theorem c_Fi_draw {Γ : mx_X} {lau : Launch} {nx : Nat} {u : Nat → Nat → Bool} {mi : mx_Mm}  (hnx : 185 ≤ nx) (hu : ∀ p k, 2 ≤ p → u p k = true)  : mx_C Γ lau M_Fi_draw [.ref 168] (nx, u, mi) (fun ρ τ => ρ = some (.int (Fi_dv (Fi_draw mi))) ∧ τ = (nx, u, Fi_draw mi)) := by
  refine mx_C.intro (by decide) rfl (Nat.le_of_ble_eq_true rfl) (fun κ _ hC => ?_)
  show mx_G Γ κ _ _ 0 [(0, .ref 168)] [] (nx, u, mi) 0 0
  refine x_aload_n (q := 1) hC d_Fi_draw_0 rfl rfl rfl ?_
  refine x_aload_n (q := 2) hC d_Fi_draw_1 rfl rfl rfl ?_
  refine x_geti (q := 5) (p := 168) (j := 12) hC f_Fi_42 rfl rfl (by omega) d_Fi_draw_2 rfl ?_
  refine x_ldc (q := 7) (v := 1103515245) hC k_Fi_102 d_Fi_draw_5 rfl ?_
  refine x_imul (q := 8) (z := (mi 168 12) * 1103515245) hC d_Fi_draw_7 rfl rfl ?_
  refine x_sipush (q := 11) (v := nI 12345) hC d_Fi_draw_8 (by decide) rfl ?_
  refine x_iadd (q := 12) (z := ((mi 168 12) * 1103515245) + (nI 12345)) hC d_Fi_draw_11 rfl rfl ?_
  refine x_puti (q := 15) (p := 168) (j := 12) hC f_Fi_42 y_Fi rfl rfl rfl rfl rfl (by omega) (by decide) d_Fi_draw_12 rfl ?_
  refine x_aload_n (q := 16) hC d_Fi_draw_15 rfl rfl rfl ?_
  refine x_geti (q := 19) (p := 168) (j := 12) hC f_Fi_42 rfl rfl (by omega) d_Fi_draw_16 rfl ?_
  refine x_bipush (q := 21) (v := nI 16) hC d_Fi_draw_19 (by decide) rfl ?_
  refine x_iushr (q := 22) (z := (((mx_up mi 168 12 (((mi 168 12) * 1103515245) + (nI 12345))) 168 12).toUInt32 >>> ((nI 16).toUInt32 &&& Int32.toUInt32 31)).toInt32) hC d_Fi_draw_21 rfl rfl ?_
  refine x_bipush (q := 24) (v := nI 7) hC d_Fi_draw_22 (by decide) rfl ?_
  refine x_iand (q := 25) (z := ((((mx_up mi 168 12 (((mi 168 12) * 1103515245) + (nI 12345))) 168 12).toUInt32 >>> ((nI 16).toUInt32 &&& Int32.toUInt32 31)).toInt32) &&& (nI 7)) hC d_Fi_draw_24 rfl rfl ?_
  exact x_iret hC rfl rfl ⟨rfl, rfl⟩ (by decide) (by decide) d_Fi_draw_25
set_option maxRecDepth 100000 in
set_option maxHeartbeats 400000 in
theorem c_Fi_drawWaits {Γ : mx_X} {lau : Launch} {nx : Nat} {u : Nat → Nat → Bool} {mi : mx_Mm} {f s g : Nat} (hnx : 185 ≤ nx) (hu : ∀ p k, 2 ≤ p → u p k = true) (hf : f < 4) (hs : s < 6) (hg : g < 3) (hok : Fi_ok f s g mi) : mx_C Γ lau M_Fi_drawWaits [.ref 168, .int (nI f)] (nx, u, mi) (fun ρ τ => ρ = none ∧ τ = (nx, u, Fi_waits f s g mi)) := by
  refine mx_C.intro (by decide) rfl (Nat.le_of_ble_eq_true rfl) (fun κ _ hC => ?_)
  show mx_G Γ κ _ _ 0 [(0, .ref 168), (1, .int (nI f))] [] (nx, u, mi) 0 0
  refine x_iconst (q := 1) (v := nI 0) hC d_Fi_drawWaits_0 (by decide) rfl ?_
  refine x_istore_n (q := 2) (L1 := [(2, .int (nI 0)), (0, .ref 168), (1, .int (nI f))]) hC d_Fi_drawWaits_1 rfl (by decide) rfl rfl ?_
  refine x_sub (L1 := [(2, .int (nI 0)), (0, .ref 168), (1, .int (nI f))]) [0, 1, 2] rfl ?_
  refine mx_loop (N := 6) (Hd := fun l m1 => mx_G Γ κ _ _ 2 [(2, .int (nI l)), (0, .ref 168), (1, .int (nI f))] [] (nx, u, m1) 0 0) (Fi_w1 f s g) (fun _ m => Fi_ok f s g m) hok ?_ ?_ ?_
  · exact fun l m _ h => Fi_w1_ok h
  · intro l m1 hl2 hI3 hN4
    refine x_iload_n (q := 3) hC d_Fi_drawWaits_2 rfl rfl rfl ?_
    refine x_bipush (q := 5) (v := nI 6) hC d_Fi_drawWaits_3 (by decide) rfl ?_
    refine x_icmp_ge (tgt := 37) (q := 8) hC d_Fi_drawWaits_5 (by decide) rfl (fun h => absurd h (nI_ge hl2 (by decide))) (fun _ => ?_)
    refine x_aload_n (q := 9) hC d_Fi_drawWaits_8 rfl rfl rfl ?_
    refine x_getr (q := 12) (p := 168) (j := 10) (r := 184) hC f_Fi_35 rfl rfl rfl (by omega) (hu _ _ (by decide)) d_Fi_drawWaits_9 rfl ?_
    refine x_iload_n (q := 13) hC d_Fi_drawWaits_12 rfl rfl rfl ?_
    refine x_aload_n (q := 14) hC d_Fi_drawWaits_13 rfl rfl rfl ?_
    refine x_iload_n (q := 15) hC d_Fi_drawWaits_14 rfl rfl rfl ?_
    refine x_iload_n (q := 16) hC d_Fi_drawWaits_15 rfl rfl rfl ?_
    refine x_callV (q := 19) (p := 168) (A := [.int (nI f), .int (nI l)]) (S := [.int (nI l), .ref 184]) (c1 := 0) (s1 := 0) hC (c_Fi_takesPart (f := f) (s := s) (g := g) (l := l) (by omega) hu (by omega) hs hg (by omega) hI3) s_Fi_drawWaits_90 rfl (by omega) rfl rfl rfl (Nat.le_of_ble_eq_true rfl) rfl rfl (by decide) (by decide) d_Fi_drawWaits_16 rfl (fun r τ hP => ?_)
    obtain ⟨rfl, rfl⟩ := hP
    show mx_G Γ κ _ _ 19 [(2, .int (nI l)), (0, .ref 168), (1, .int (nI f))] [.int (bz (Fi_part f s g l m1)), .int (nI l), .ref 184] (nx, u, m1) 0 0
    refine x_if_eq (tgt := 29) (q := 22) hC d_Fi_drawWaits_19 (by decide) rfl (fun h19 => ?_) (fun h19 => ?_)
    · have h19 := bz_0 h19
      refine x_iconst (q := 30) (v := (-1)) hC d_Fi_drawWaits_29 (by decide) rfl ?_
      refine x_iast (q := 31) (p := 184) hC l rfl (by omega) (by omega) rfl (by omega) (by decide) d_Fi_drawWaits_30 rfl ?_
      refine x_iinc (q := 34) (y := nI (l + 1)) (L1 := [(2, .int (nI (l + 1))), (0, .ref 168), (1, .int (nI f))]) hC d_Fi_drawWaits_31 rfl (mx_inc l) (by decide) rfl rfl ?_
      refine x_goto (tgt := 2) hC d_Fi_drawWaits_34 (by decide) ?_
      exact x_close hN4 [0, 1, 2] rfl (by first | exact it_t h19 rfl | exact it_f h19 rfl)
    · have h19 := bz_1 h19
      refine x_aload_n (q := 23) hC d_Fi_drawWaits_22 rfl rfl rfl ?_
      refine x_callV (q := 26) (p := 168) (A := []) (S := [.int (nI l), .ref 184]) (c1 := 0) (s1 := 0) hC (c_Fi_draw (by omega) hu) s_Fi_drawWaits_93 rfl (by omega) rfl rfl rfl (Nat.le_of_ble_eq_true rfl) rfl rfl (by decide) (by decide) d_Fi_drawWaits_23 rfl (fun r τ hP => ?_)
      obtain ⟨rfl, rfl⟩ := hP
      show mx_G Γ κ _ _ 26 [(2, .int (nI l)), (0, .ref 168), (1, .int (nI f))] [.int (Fi_dv (Fi_draw m1)), .int (nI l), .ref 184] (nx, u, Fi_draw m1) 0 0
      refine x_goto (tgt := 30) hC d_Fi_drawWaits_26 (by decide) ?_
      refine x_iast (q := 31) (p := 184) hC l rfl (by omega) (by omega) rfl (by omega) (by decide) d_Fi_drawWaits_30 rfl ?_
      refine x_iinc (q := 34) (y := nI (l + 1)) (L1 := [(2, .int (nI (l + 1))), (0, .ref 168), (1, .int (nI f))]) hC d_Fi_drawWaits_31 rfl (mx_inc l) (by decide) rfl rfl ?_
      refine x_goto (tgt := 2) hC d_Fi_drawWaits_34 (by decide) ?_
      exact x_close hN4 [0, 1, 2] rfl (by first | exact it_t h19 rfl | exact it_f h19 rfl)
  · intro hx5
    refine mx_nr (fun m6 e7 => ?_)
    try rw [e7] at hx5
    refine x_iload_n (q := 3) hC d_Fi_drawWaits_2 rfl rfl rfl ?_
    refine x_bipush (q := 5) (v := nI 6) hC d_Fi_drawWaits_3 (by decide) rfl ?_
    refine x_icmp_ge (tgt := 37) (q := 8) hC d_Fi_drawWaits_5 (by decide) rfl (fun _ => ?_) (fun h => absurd (nI_le (Nat.le_refl _) (by decide)) h)
    subst e7
    exact x_vret hC rfl ⟨rfl, rfl⟩ (by decide) (by decide) d_Fi_drawWaits_37
set_option maxRecDepth 100000 in
set_option maxHeartbeats 400000 in
theorem c_Fi_askAgain {Γ : mx_X} {lau : Launch} {nx : Nat} {u : Nat → Nat → Bool} {mi : mx_Mm} {f s g : Nat} (hnx : 185 ≤ nx) (hu : ∀ p k, 2 ≤ p → u p k = true) (hf : f < 4) (hs : s < 6) (hg : g < 3) (hok : Fi_ok f s g mi) : mx_C Γ lau M_Fi_askAgain [.ref 168, .int (nI f)] (nx, u, mi) (fun ρ τ => ρ = some (.int ((Fi_asks f s g mi).2.1)) ∧ τ = (nx, u, Fi_end f (Fi_asks f s g mi))) := by
  refine mx_C.intro (by decide) rfl (Nat.le_of_ble_eq_true rfl) (fun κ _ hC => ?_)
  show mx_G Γ κ _ _ 0 [(0, .ref 168), (1, .int (nI f))] [] (nx, u, mi) 0 0
  refine x_aload_n (q := 1) hC d_Fi_askAgain_0 rfl rfl rfl ?_
  refine x_iload_n (q := 2) hC d_Fi_askAgain_1 rfl rfl rfl ?_
  refine x_callV (q := 5) (p := 168) (A := [.int (nI f)]) (S := []) (c1 := 0) (s1 := 0) hC (c_Fi_drawWaits (f := f) (s := s) (g := g) (by omega) hu (by omega) hs hg hok) s_Fi_askAgain_79 rfl (by omega) rfl rfl rfl (Nat.le_of_ble_eq_true rfl) rfl rfl (by decide) (by decide) d_Fi_askAgain_2 rfl (fun r τ hP => ?_)
  obtain ⟨rfl, rfl⟩ := hP
  show mx_G Γ κ _ _ 5 [(0, .ref 168), (1, .int (nI f))] [] (nx, u, Fi_waits f s g mi) 0 0
  refine mx_nr (fun mW eW => ?_)
  refine x_iconst (q := 6) (v := nI 0) hC d_Fi_askAgain_5 (by decide) rfl ?_
  refine x_istore_n (q := 7) (L1 := [(2, .int (nI 0)), (0, .ref 168), (1, .int (nI f))]) hC d_Fi_askAgain_6 rfl (by decide) rfl rfl ?_
  refine x_iconst (q := 8) (v := nI 0) hC d_Fi_askAgain_7 (by decide) rfl ?_
  refine x_istore_n (q := 9) (L1 := [(3, .int (nI 0)), (2, .int (nI 0)), (0, .ref 168), (1, .int (nI f))]) hC d_Fi_askAgain_8 rfl (by decide) rfl rfl ?_
  refine x_iconst (q := 10) (v := nI 0) hC d_Fi_askAgain_9 (by decide) rfl ?_
  refine x_istore (q := 12) (L1 := [(4, .int (nI 0)), (3, .int (nI 0)), (2, .int (nI 0)), (0, .ref 168), (1, .int (nI f))]) hC d_Fi_askAgain_10 (by decide) rfl rfl ?_
  refine x_sub (L1 := [(4, .int (nI 0)), (3, .int (nI 0)), (2, .int (nI 0)), (0, .ref 168), (1, .int (nI f))]) [0, 1, 2, 3, 4] rfl ?_
  refine mx_loopG (N := 8) (Hd := fun w a => mx_G Γ κ _ _ 12 [(4, .int (nI w)), (3, .int (a.2.1)), (2, .int (a.1)), (0, .ref 168), (1, .int (nI f))] [] (nx, u, a.2.2) 0 0) (fun w => mx_lp 6 (Fi_a1 f w)) (fun _ _ => True) (m := (nI 0, nI 0, mW)) trivial ?_ ?_ ?_
  · exact fun _ _ _ _ => trivial
  · intro w a hl1 hI2 hN3
    refine x_iload (q := 14) hC d_Fi_askAgain_12 rfl rfl ?_
    refine x_bipush (q := 16) (v := nI 8) hC d_Fi_askAgain_14 (by decide) rfl ?_
    refine x_icmp_ge (tgt := 104) (q := 19) hC d_Fi_askAgain_16 (by decide) rfl (fun h => absurd h (nI_ge hl1 (by decide))) (fun _ => ?_)
    refine x_iconst (q := 20) (v := nI 0) hC d_Fi_askAgain_19 (by decide) rfl ?_
    refine x_istore (q := 22) (L1 := [(5, .int (nI 0)), (4, .int (nI w)), (3, .int (a.2.1)), (2, .int (a.1)), (0, .ref 168), (1, .int (nI f))]) hC d_Fi_askAgain_20 (by decide) rfl rfl ?_
    refine x_sub (L1 := [(5, .int (nI 0)), (4, .int (nI w)), (3, .int (a.2.1)), (2, .int (a.1)), (0, .ref 168), (1, .int (nI f))]) [0, 1, 2, 3, 4, 5] rfl ?_
    refine mx_loopG (N := 6) (Hd := fun l b => mx_G Γ κ _ _ 22 [(5, .int (nI l)), (4, .int (nI w)), (3, .int (b.2.1)), (2, .int (b.1)), (0, .ref 168), (1, .int (nI f))] [] (nx, u, b.2.2) 0 0) (Fi_a1 f w) (fun _ _ => True) (m := a) trivial ?_ ?_ ?_
    · exact fun _ _ _ _ => trivial
    · intro l b hl4 hI5 hN6
      refine x_iload (q := 24) hC d_Fi_askAgain_22 rfl rfl ?_
      refine x_bipush (q := 26) (v := nI 6) hC d_Fi_askAgain_24 (by decide) rfl ?_
      refine x_icmp_ge (tgt := 98) (q := 29) hC d_Fi_askAgain_26 (by decide) rfl (fun h => absurd h (nI_ge hl4 (by decide))) (fun _ => ?_)
      refine x_aload_n (q := 30) hC d_Fi_askAgain_29 rfl rfl rfl ?_
      refine x_getr (q := 33) (p := 168) (j := 10) (r := 184) hC f_Fi_35 rfl rfl rfl (by omega) (hu _ _ (by decide)) d_Fi_askAgain_30 rfl ?_
      refine x_iload (q := 35) hC d_Fi_askAgain_33 rfl rfl ?_
      refine x_iald (q := 36) (p := 184) hC l rfl (by omega) rfl (by omega) (by decide) d_Fi_askAgain_35 rfl ?_
      refine x_iload (q := 38) hC d_Fi_askAgain_36 rfl rfl ?_
      refine x_icmp_eq (tgt := 44) (q := 41) hC d_Fi_askAgain_38 (by decide) rfl (fun h38 => ?_) (fun h38 => ?_)
      · skip
        refine x_aload_n (q := 45) hC d_Fi_askAgain_44 rfl rfl rfl ?_
        refine x_iload_n (q := 46) hC d_Fi_askAgain_45 rfl rfl rfl ?_
        refine x_iload (q := 48) hC d_Fi_askAgain_46 rfl rfl ?_
        refine x_callV (q := 51) (p := 168) (A := [.int (nI f), .int (nI l)]) (S := []) (c1 := 0) (s1 := 0) hC (c_Fi_missingAt (f := f) (l := l) (by omega) hu (by omega) (by omega) ) s_Fi_askAgain_83 rfl (by omega) rfl rfl rfl (Nat.le_of_ble_eq_true rfl) rfl rfl (by decide) (by decide) d_Fi_askAgain_48 rfl (fun r τ hP => ?_)
        obtain ⟨rfl, rfl⟩ := hP
        show mx_G Γ κ _ _ 51 [(5, .int (nI l)), (4, .int (nI w)), (3, .int (b.2.1)), (2, .int (b.1)), (0, .ref 168), (1, .int (nI f))] [.int (Fi_mis f l b.2.2)] (nx, u, b.2.2) 0 0
        refine x_iload_n (q := 52) hC d_Fi_askAgain_51 rfl rfl rfl ?_
        refine x_iconst (q := 53) (v := (-1)) hC d_Fi_askAgain_52 (by decide) rfl ?_
        refine x_ixor (q := 54) (z := b.1 ^^^ (-1)) hC d_Fi_askAgain_53 rfl rfl ?_
        refine x_iand (q := 55) (z := (Fi_mis f l b.2.2) &&& (b.1 ^^^ (-1))) hC d_Fi_askAgain_54 rfl rfl ?_
        refine x_if_ne (tgt := 70) (q := 58) hC d_Fi_askAgain_55 (by decide) rfl (fun h55 => ?_) (fun h55 => ?_)
        · skip
          refine x_aload_n (q := 71) hC d_Fi_askAgain_70 rfl rfl rfl ?_
          refine x_getr (q := 74) (p := 168) (j := 2) (r := 3) hC f_Fi_53 rfl rfl rfl (by omega) (hu _ _ (by decide)) d_Fi_askAgain_71 rfl ?_
          refine x_bipush (q := 76) (v := nI 8) hC d_Fi_askAgain_74 (by decide) rfl ?_
          refine x_callV (q := 79) (p := 3) (A := [.int (nI 8)]) (S := []) (c1 := 0) (s1 := 0) hC (c_Ta_count (k := 8) (by omega) hu (by omega)) s_Fi_askAgain_86 rfl (by omega) rfl rfl rfl (Nat.le_of_ble_eq_true rfl) rfl rfl (by decide) (by decide) d_Fi_askAgain_76 rfl (fun r τ hP => ?_)
          obtain ⟨rfl, rfl⟩ := hP
          show mx_G Γ κ _ _ 79 [(5, .int (nI l)), (4, .int (nI w)), (3, .int (b.2.1)), (2, .int (b.1)), (0, .ref 168), (1, .int (nI f))] [] (nx, u, mx_up b.2.2 4 8 (b.2.2 4 8 + nI 1)) 0 0
          refine x_iinc (q := 82) (y := b.2.1 + 1) (L1 := [(3, .int (b.2.1 + 1)), (5, .int (nI l)), (4, .int (nI w)), (2, .int (b.1)), (0, .ref 168), (1, .int (nI f))]) hC d_Fi_askAgain_79 rfl (by rfl) (by decide) rfl rfl ?_
          refine x_iload_n (q := 83) hC d_Fi_askAgain_82 rfl rfl rfl ?_
          refine x_aload_n (q := 84) hC d_Fi_askAgain_83 rfl rfl rfl ?_
          refine x_iload_n (q := 85) hC d_Fi_askAgain_84 rfl rfl rfl ?_
          refine x_iload (q := 87) hC d_Fi_askAgain_85 rfl rfl ?_
          refine x_callV (q := 90) (p := 168) (A := [.int (nI f), .int (nI l)]) (S := [.int (b.1)]) (c1 := 0) (s1 := 0) hC (c_Fi_missingAt (f := f) (l := l) (by omega) hu (by omega) (by omega) ) s_Fi_askAgain_83 rfl (by omega) rfl rfl rfl (Nat.le_of_ble_eq_true rfl) rfl rfl (by decide) (by decide) d_Fi_askAgain_87 rfl (fun r τ hP => ?_)
          obtain ⟨rfl, rfl⟩ := hP
          show mx_G Γ κ _ _ 90 [(3, .int (b.2.1 + 1)), (5, .int (nI l)), (4, .int (nI w)), (2, .int (b.1)), (0, .ref 168), (1, .int (nI f))] [.int (Fi_mis f l (mx_up b.2.2 4 8 (b.2.2 4 8 + nI 1))), .int (b.1)] (nx, u, mx_up b.2.2 4 8 (b.2.2 4 8 + nI 1)) 0 0
          refine x_ior (q := 91) (z := b.1 ||| (Fi_mis f l (mx_up b.2.2 4 8 (b.2.2 4 8 + nI 1)))) hC d_Fi_askAgain_90 rfl rfl ?_
          refine x_istore_n (q := 92) (L1 := [(2, .int (b.1 ||| (Fi_mis f l (mx_up b.2.2 4 8 (b.2.2 4 8 + nI 1))))), (3, .int (b.2.1 + 1)), (5, .int (nI l)), (4, .int (nI w)), (0, .ref 168), (1, .int (nI f))]) hC d_Fi_askAgain_91 rfl (by decide) rfl rfl ?_
          refine x_iinc (q := 95) (y := nI (l + 1)) (L1 := [(5, .int (nI (l + 1))), (2, .int (b.1 ||| (Fi_mis f l (mx_up b.2.2 4 8 (b.2.2 4 8 + nI 1))))), (3, .int (b.2.1 + 1)), (4, .int (nI w)), (0, .ref 168), (1, .int (nI f))]) hC d_Fi_askAgain_92 rfl (mx_inc l) (by decide) rfl rfl ?_
          refine x_goto (tgt := 22) hC d_Fi_askAgain_95 (by decide) ?_
          refine x_sub (L1 := [(5, .int (nI (l + 1))), (4, .int (nI w)), (3, .int (b.2.1 + 1)), (2, .int (b.1 ||| (Fi_mis f l (mx_up b.2.2 4 8 (b.2.2 4 8 + nI 1))))), (0, .ref 168), (1, .int (nI f))]) [0, 3, 2, 1, 4, 5] rfl (mx_eqG ?_ rfl ?_ hN6)
          · first | (rw [Fi_a1, if_pos h38, if_pos h55] <;> rfl) | (rw [Fi_a1, if_pos h38, if_neg h55] <;> rfl) | (rw [Fi_a1, if_neg h38] <;> rfl)
          · exact pr (by first | (rw [Fi_a1, if_pos h38, if_pos h55] <;> rfl) | (rw [Fi_a1, if_pos h38, if_neg h55] <;> rfl) | (rw [Fi_a1, if_neg h38] <;> rfl))
        · skip
          refine x_aload_n (q := 59) hC d_Fi_askAgain_58 rfl rfl rfl ?_
          refine x_getr (q := 62) (p := 168) (j := 2) (r := 3) hC f_Fi_53 rfl rfl rfl (by omega) (hu _ _ (by decide)) d_Fi_askAgain_59 rfl ?_
          refine x_bipush (q := 64) (v := nI 9) hC d_Fi_askAgain_62 (by decide) rfl ?_
          refine x_callV (q := 67) (p := 3) (A := [.int (nI 9)]) (S := []) (c1 := 0) (s1 := 0) hC (c_Ta_count (k := 9) (by omega) hu (by omega)) s_Fi_askAgain_86 rfl (by omega) rfl rfl rfl (Nat.le_of_ble_eq_true rfl) rfl rfl (by decide) (by decide) d_Fi_askAgain_64 rfl (fun r τ hP => ?_)
          obtain ⟨rfl, rfl⟩ := hP
          show mx_G Γ κ _ _ 67 [(5, .int (nI l)), (4, .int (nI w)), (3, .int (b.2.1)), (2, .int (b.1)), (0, .ref 168), (1, .int (nI f))] [] (nx, u, mx_up b.2.2 4 9 (b.2.2 4 9 + nI 1)) 0 0
          refine x_goto (tgt := 92) hC d_Fi_askAgain_67 (by decide) ?_
          refine x_iinc (q := 95) (y := nI (l + 1)) (L1 := [(5, .int (nI (l + 1))), (4, .int (nI w)), (3, .int (b.2.1)), (2, .int (b.1)), (0, .ref 168), (1, .int (nI f))]) hC d_Fi_askAgain_92 rfl (mx_inc l) (by decide) rfl rfl ?_
          refine x_goto (tgt := 22) hC d_Fi_askAgain_95 (by decide) ?_
          refine x_sub (L1 := [(5, .int (nI (l + 1))), (4, .int (nI w)), (3, .int (b.2.1)), (2, .int (b.1)), (0, .ref 168), (1, .int (nI f))]) [0, 1, 2, 3, 4, 5] rfl (mx_eqG ?_ rfl ?_ hN6)
          · first | (rw [Fi_a1, if_pos h38, if_pos h55] <;> rfl) | (rw [Fi_a1, if_pos h38, if_neg h55] <;> rfl) | (rw [Fi_a1, if_neg h38] <;> rfl)
          · exact pr (by first | (rw [Fi_a1, if_pos h38, if_pos h55] <;> rfl) | (rw [Fi_a1, if_pos h38, if_neg h55] <;> rfl) | (rw [Fi_a1, if_neg h38] <;> rfl))
      · skip
        refine x_goto (tgt := 92) hC d_Fi_askAgain_41 (by decide) ?_
        refine x_iinc (q := 95) (y := nI (l + 1)) (L1 := [(5, .int (nI (l + 1))), (4, .int (nI w)), (3, .int (b.2.1)), (2, .int (b.1)), (0, .ref 168), (1, .int (nI f))]) hC d_Fi_askAgain_92 rfl (mx_inc l) (by decide) rfl rfl ?_
        refine x_goto (tgt := 22) hC d_Fi_askAgain_95 (by decide) ?_
        refine x_sub (L1 := [(5, .int (nI (l + 1))), (4, .int (nI w)), (3, .int (b.2.1)), (2, .int (b.1)), (0, .ref 168), (1, .int (nI f))]) [0, 1, 2, 3, 4, 5] rfl (mx_eqG ?_ rfl ?_ hN6)
        · first | (rw [Fi_a1, if_pos h38, if_pos h55] <;> rfl) | (rw [Fi_a1, if_pos h38, if_neg h55] <;> rfl) | (rw [Fi_a1, if_neg h38] <;> rfl)
        · exact pr (by first | (rw [Fi_a1, if_pos h38, if_pos h55] <;> rfl) | (rw [Fi_a1, if_pos h38, if_neg h55] <;> rfl) | (rw [Fi_a1, if_neg h38] <;> rfl))
    · intro hx7
      generalize e9 : mx_lp 6 (Fi_a1 f w) a = a8 at hx7 ⊢
      refine x_iload (q := 24) hC d_Fi_askAgain_22 rfl rfl ?_
      refine x_bipush (q := 26) (v := nI 6) hC d_Fi_askAgain_24 (by decide) rfl ?_
      refine x_icmp_ge (tgt := 98) (q := 29) hC d_Fi_askAgain_26 (by decide) rfl (fun _ => ?_) (fun h => absurd (nI_le (Nat.le_refl _) (by decide)) h)
      refine x_iinc (q := 101) (y := nI (w + 1)) (L1 := [(4, .int (nI (w + 1))), (5, .int (nI 6)), (3, .int (a8.2.1)), (2, .int (a8.1)), (0, .ref 168), (1, .int (nI f))]) hC d_Fi_askAgain_98 rfl (mx_inc w) (by decide) rfl rfl ?_
      refine x_goto (tgt := 12) hC d_Fi_askAgain_101 (by decide) ?_
      refine x_sub (L1 := [(4, .int (nI (w + 1))), (3, .int (a8.2.1)), (2, .int (a8.1)), (0, .ref 168), (1, .int (nI f))]) [0, 2, 3, 4, 5] rfl (mx_eqG ?_ rfl ?_ hN3)
      · subst e9; rfl
      · subst e9; rfl
  · intro hx10
    generalize e12 : mx_lp 8 (fun w => mx_lp 6 (Fi_a1 f w)) (nI 0, nI 0, mW) = a11 at hx10 ⊢
    refine x_iload (q := 14) hC d_Fi_askAgain_12 rfl rfl ?_
    refine x_bipush (q := 16) (v := nI 8) hC d_Fi_askAgain_14 (by decide) rfl ?_
    refine x_icmp_ge (tgt := 104) (q := 19) hC d_Fi_askAgain_16 (by decide) rfl (fun _ => ?_) (fun h => absurd (nI_le (Nat.le_refl _) (by decide)) h)
    refine x_aload_n (q := 105) hC d_Fi_askAgain_104 rfl rfl rfl ?_
    refine x_getr (q := 108) (p := 168) (j := 7) (r := 173) hC f_Fi_24 rfl rfl rfl (by omega) (hu _ _ (by decide)) d_Fi_askAgain_105 rfl ?_
    refine x_iload_n (q := 109) hC d_Fi_askAgain_108 rfl rfl rfl ?_
    refine x_dup2 (q := 110) hC d_Fi_askAgain_109 rfl rfl rfl ?_
    refine x_iald (q := 111) (p := 173) hC f rfl (by omega) rfl (by omega) (by decide) d_Fi_askAgain_110 rfl ?_
    refine x_iload_n (q := 112) hC d_Fi_askAgain_111 rfl rfl rfl ?_
    refine x_ior (q := 113) (z := (a11.2.2 173 f) ||| a11.1) hC d_Fi_askAgain_112 rfl rfl ?_
    refine x_iast (q := 114) (p := 173) hC f rfl (by omega) (by omega) rfl (by omega) (by decide) d_Fi_askAgain_113 rfl ?_
    refine x_iload_n (q := 115) hC d_Fi_askAgain_114 rfl rfl rfl ?_
    have eA : Fi_asks f s g mi = a11 := by rw [← e12, ← eW]; rfl
    exact x_iret hC rfl rfl ⟨sv (by rw [eA]), pr (by rw [eA] <;> rfl)⟩ (by decide) (by decide) d_Fi_askAgain_115
