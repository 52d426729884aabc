/-- what the reference's settling and its packets leave alone -/
abbrev D_sM : Nat → Prop := fun p => 185 ≤ p ∧ p < 206
theorem fm_cnt (k : Nat) : foot D_sM (Mo_cnt k) := foot_up (k := fun _ => k) (by decide)
theorem fm_tell (k n : Nat) (x y : Int32) : foot D_sM (Mo_tell k n x y) := by
  intro m p j hp
  have h1 : (Mo_t1 k n x m) p j = m p j := by
    unfold Mo_t1
    split
    · rfl
    · split
      · rfl
      · exact fm_cnt _ m p j hp
  unfold Mo_tell Mo_t2
  split
  · rfl
  · split
    · exact h1
    · exact (fm_cnt _ _ p j hp).trans h1
theorem fm_rd (r : Nat) (m : mx_Mm) (p j : Nat) (hp : ¬ D_sM p) : (Mo_rd r m).2 p j = m p j := by
  have hp' : p < 185 ∨ 206 ≤ p := by
    have : ¬ (185 ≤ p ∧ p < 206) := hp
    omega
  refine lp_keep (fun a : Int32 × mx_Mm => a.2 p j = m p j) 108 (lp_keep (fun a : Int32 × mx_Mm => a.2 p j = m p j) 18 (m := (nI 0, m)) rfl (fun k a _ h => ?_)) (fun k a _ h => ?_)
  · show (mx_up a.2 192 k _) p j = _
    rw [up_neP (by omega)]; exact h
  · show (mx_up (mx_up a.2 194 k _) 196 k _) p j = _
    rw [up_neP (by omega), up_neP (by omega)]; exact h
theorem fm_settle (r : Nat) : foot D_sM (Mo_settle r) := by
  intro m p j hp
  have hp' : p < 185 ∨ 206 ≤ p := by
    have : ¬ (185 ≤ p ∧ p < 206) := hp
    omega
  have h1 : (Mo_begin m) p j = m p j := by
    refine lp_keep (fun a : mx_Mm => a p j = m p j) 108 (lp_keep (fun a : mx_Mm => a p j = m p j) 18 rfl (fun k a _ h => ?_)) (fun k a _ h => ?_)
    · show (mx_up a 193 k _) p j = _
      rw [up_neP (by omega)]; exact h
    · show (mx_up (mx_up (mx_up a 199 k _) 195 k _) 197 k _) p j = _
      rw [up_neP (by omega), up_neP (by omega), up_neP (by omega)]; exact h
  have h0 : ∀ a : Int32 × mx_Mm, a.2 p j = m p j → (Mo_rs r a).2 p j = m p j := fun a h => by
    unfold Mo_rs
    split
    · exact h
    · exact (fm_rd r _ p j hp).trans h
  have h2' : (mx_lp 100 (fun _ => Mo_rs r) (nI 1, Mo_begin m)).2 p j = m p j := lp_keep (f := fun _ => Mo_rs r) (fun a : Int32 × mx_Mm => a.2 p j = m p j) 100 (m := (nI 1, Mo_begin m)) h1 (fun _ a _ h => h0 a h)
  have h2 : (Mo_rr r (Mo_begin m)).2 p j = m p j := by
    unfold Mo_rr
    exact h2'
  refine lp_keep (fun a : mx_Mm => a p j = m p j) 108 (lp_keep (fun a : mx_Mm => a p j = m p j) 18 h2 (fun k a _ h => (fm_tell _ _ _ _ a p j hp).trans h)) (fun k a _ h => ?_)
  exact ((fm_tell _ _ _ _ _ p j hp).trans (fm_tell _ _ _ _ a p j hp)).trans h
theorem fm_pk (r s st : Nat) (m : mx_Mm) (p j : Nat) (hp : ¬ D_sM p) : (Mo_pk r s st m).2 p j = m p j := by
  have hp' : p < 185 ∨ 206 ≤ p := by
    have : ¬ (185 ≤ p ∧ p < 206) := hp
    omega
  have hA : (Mo_pA s st m) p j = m p j := by
    show (mx_up (mx_lp 6 Mo_k0 (Mo_pz m)) 198 _ _) p j = _
    rw [up_neP (by omega)]
    refine lp_keep (fun a : mx_Mm => a p j = m p j) 6 ?_ (fun k a _ h => ?_)
    · unfold Mo_pz
      rw [up_neP (by omega), up_neP (by omega), up_neP (by omega), up_neP (by omega)]
    · unfold Mo_k0
      rw [up_neP (by omega), up_neP (by omega), up_neP (by omega)]; exact h
  have hB : (Mo_pB s st (Mo_pA s st m)) p j = m p j := by
    refine lp_keep (fun a : mx_Mm => a p j = m p j) 6 hA (fun k a _ h => ?_)
    unfold Mo_k1 Mo_f1 Mo_keep
    split
    · rw [up_neP (by omega), up_neP (by omega)]; exact h
    · exact h
  have hC : ∀ w, (Mo_pC r s st w (Mo_pB s st (Mo_pA s st m))) p j = m p j := fun w => by
    unfold Mo_pC Mo_y2 Mo_y1 Mo_reg Mo_rg2 Mo_qu Mo_keep
    rw [up_neP (by omega), up_neP (by omega)]
    split
    · split
      · rw [up_neP (by omega), fm_cnt _ _ p j hp, up_neP (by omega), fm_cnt _ _ p j hp]; exact hB
      · rw [up_neP (by omega), fm_cnt _ _ p j hp]; exact hB
    · exact hB
  have hD : ∀ w, (Mo_pD r s st (Mo_pC r s st w (Mo_pB s st (Mo_pA s st m)))) p j = m p j := fun w => by
    refine lp_keep (fun a : mx_Mm => a p j = m p j) 6 (hC w) (fun _ a _ h => lp_keep (fun a : mx_Mm => a p j = m p j) 6 h (fun q a _ h => ?_))
    unfold Mo_q1 Mo_put
    split
    · refine lp_keep (fun a : mx_Mm => a p j = m p j) 6 ?_ (fun n a _ h => ?_)
      · have h0 : (Mo_po0 q a) p j = m p j := by
          unfold Mo_po0
          rw [up_neP (by omega)]; exact h
        unfold Mo_po1 Mo_rb
        split
        · rw [up_neP (by omega)]; exact h0
        · exact h0
      · have hx : (Mo_x1 a) p j = m p j := by
          unfold Mo_x1
          rw [up_neP (by omega)]; exact h
        unfold Mo_po2 Mo_xs Mo_x2
        split
        · split
          · rw [up_neP (by omega), up_neP (by omega)]; exact hx
          · rw [up_neP (by omega)]; exact hx
        · exact h
    · exact h
  unfold Mo_pk Mo_arr
  have hD' := hD (Mo_m1 s st (Mo_pA s st m))
  generalize Mo_pD r s st (Mo_pC r s st (Mo_m1 s st (Mo_pA s st m)) (Mo_pB s st (Mo_pA s st m))) = X at hD' ⊢
  have hX : (Mo_a0 s st X) p j = m p j := by
    unfold Mo_a0 Mo_rb
    split
    · rw [up_neP (by omega)]; exact hD'
    · exact hD'
  refine lp_keep (f := Mo_a2 st) (fun a : Nat × mx_Mm => a.2 p j = m p j) 6 (m := (0, Mo_a0 s st X)) hX (fun l a _ h => ?_)
  · have h1 : (Mo_a1 st l a.2) p j = m p j := by
      unfold Mo_a1 Mo_keep
      split
      · rw [up_neP (by omega)]; exact h
      · exact h
    unfold Mo_a2 Mo_a3 Mo_hb Mo_lo
    split
    · split
      · show (mx_up _ 185 22 _) p j = _
        rw [up_neP (by omega)]; exact h1
      · show (mx_up _ 202 l _) p j = _
        rw [up_neP (by omega)]; exact h1
    · exact h1
theorem Mo_tm_at {f : Nat} {m : mx_Mm} {p j : Nat} (hp : p ≠ 209 ∧ p ≠ 210) : (Mo_tm f m) p j = m p j := by
  unfold Mo_tm Mo_tn
  split
  · exact up_neP (by omega)
  · split
    · exact up_neP (by omega)
    · rfl
theorem Mo_tm_ok {r f : Nat} {m : mx_Mm} (h : Mo_ok r m) : Mo_ok r (Mo_tm f m) := by
  unfold Mo_tm Mo_tn
  split
  · exact h.upP (by omega)
  · split
    · exact h.upP (by omega)
    · exact h
theorem D_em_at {r f s g : Nat} {m : mx_Mm} {p j : Nat} (hp : 206 ≤ p) : (D_em r f s g m) p j = m p j := (fm_settle r _ p j (by show ¬ (185 ≤ p ∧ p < 206); omega)).trans (fm_pk r s _ m p j (by show ¬ (185 ≤ p ∧ p < 206); omega))
theorem Mo_d1_at {f g l : Nat} {b y : Int32} {m : mx_Mm} {p j : Nat} (hp : p ≠ 211 ∧ p ≠ 212) : (Mo_d1 f g b y l m) p j = m p j := by
  unfold Mo_d1 Mo_d3 Mo_d2
  split
  · rw [up_neP (by omega), up_neP (by omega)]
  · rfl
theorem Mo_w5_at {f s g l : Nat} {m : mx_Mm} {p j : Nat} (hp : p ≠ 213 ∧ p ≠ 185) : (Mo_w5 f s g l m) p j = m p j := by
  unfold Mo_w5 Mo_dr Mo_draw Mo_q0
  split
  · rw [up_neP (by omega), up_neP (by omega), up_neP (by omega)]
  · rw [up_neP (by omega)]
set_option maxRecDepth 100000 in
set_option maxHeartbeats 1000000 in
theorem c_Mo_packet {Γ : mx_X} {lau : Launch} {nx : Nat} {u : Nat → Nat → Bool} {mi : mx_Mm} {r s st : Nat} (hnx : 214 ≤ nx) (hu : ∀ p k, 2 ≤ p → u p k = true) (hs : s < 6) (hst : st < 18) (hr : r < 6) (hok : Mo_ok r mi) : mx_C Γ lau M_Mo_packet [.ref 185, .int (nI s), .int (nI st)] (nx, u, mi) (fun ρ τ => ρ = some (.int (nI (Mo_pk r s st mi).1)) ∧ τ = (nx, u, Mo_settle r (Mo_pk r s st mi).2)) := by
  refine mx_C.intro (by decide) rfl (Nat.le_of_ble_eq_true rfl) (fun κ _ hC => ?_)
  show mx_G Γ κ _ _ 0 [(0, .ref 185), (1, .int (nI s)), (2, .int (nI st))] [] (nx, u, mi) 0 0
  refine x_aload_n (q := 1) hC d_Mo_packet_0 rfl rfl rfl ?_
  refine x_iconst (q := 2) (v := nI 0) hC d_Mo_packet_1 (by decide) rfl ?_
  refine x_puti (q := 5) (p := 185) (j := 19) hC f_Mo_170 y_Mo rfl rfl rfl rfl rfl (by omega) (by decide) d_Mo_packet_2 rfl ?_
  refine x_aload_n (q := 6) hC d_Mo_packet_5 rfl rfl rfl ?_
  refine x_iconst (q := 7) (v := nI 0) hC d_Mo_packet_6 (by decide) rfl ?_
  refine x_puti (q := 10) (p := 185) (j := 20) hC f_Mo_173 y_Mo rfl rfl rfl rfl rfl (by omega) (by decide) d_Mo_packet_7 rfl ?_
  refine x_aload_n (q := 11) hC d_Mo_packet_10 rfl rfl rfl ?_
  refine x_iconst (q := 12) (v := nI 0) hC d_Mo_packet_11 (by decide) rfl ?_
  refine x_puti (q := 15) (p := 185) (j := 21) hC f_Mo_176 y_Mo rfl rfl rfl rfl rfl (by omega) (by decide) d_Mo_packet_12 rfl ?_
  refine x_aload_n (q := 16) hC d_Mo_packet_15 rfl rfl rfl ?_
  refine x_iconst (q := 17) (v := nI 0) hC d_Mo_packet_16 (by decide) rfl ?_
  refine x_puti (q := 20) (p := 185) (j := 22) hC f_Mo_179 y_Mo rfl rfl rfl rfl rfl (by omega) (by decide) d_Mo_packet_17 rfl ?_
  refine mx_nr (fun mZ eZ => ?_)
  have hZ : Mo_ok r mZ := eZ ▸ Mo_pz_ok hok
  refine x_iconst (q := 21) (v := nI 0) hC d_Mo_packet_20 (by decide) rfl ?_
  refine x_istore_n (q := 22) (L1 := [(3, .int (nI 0)), (0, .ref 185), (1, .int (nI s)), (2, .int (nI st))]) hC d_Mo_packet_21 rfl (by decide) rfl rfl ?_
  refine x_sub (L1 := [(3, .int (nI 0)), (0, .ref 185), (1, .int (nI s)), (2, .int (nI st))]) [0, 1, 2, 3] rfl ?_
  refine mx_loop (N := 6) (Hd := fun n m1 => mx_G Γ κ _ _ 22 [(3, .int (nI n)), (0, .ref 185), (1, .int (nI s)), (2, .int (nI st))] [] (nx, u, m1) 0 0) (Mo_k0) (fun _ m => Mo_ok r m) hZ ?_ ?_ ?_
  · exact fun n m _ h => Mo_k0_ok h
  · intro n m1 hl2 hI3 hN4
    refine x_iload_n (q := 23) hC d_Mo_packet_22 rfl rfl rfl ?_
    refine x_bipush (q := 25) (v := nI 6) hC d_Mo_packet_23 (by decide) rfl ?_
    refine x_icmp_ge (tgt := 55) (q := 28) hC d_Mo_packet_25 (by decide) rfl (fun h => absurd h (nI_ge hl2 (by decide))) (fun _ => ?_)
    refine x_aload_n (q := 29) hC d_Mo_packet_28 rfl rfl rfl ?_
    refine x_getr (q := 32) (p := 185) (j := 23) (r := 203) hC f_Mo_62 rfl rfl rfl (by omega) (hu _ _ (by decide)) d_Mo_packet_29 rfl ?_
    refine x_iload_n (q := 33) hC d_Mo_packet_32 rfl rfl rfl ?_
    refine x_iconst (q := 34) (v := nI 0) hC d_Mo_packet_33 (by decide) rfl ?_
    refine x_zast (q := 35) (p := 203) hC n rfl (by omega) (by omega) rfl (by omega) (by decide) rfl d_Mo_packet_34 rfl ?_
    refine x_aload_n (q := 36) hC d_Mo_packet_35 rfl rfl rfl ?_
    refine x_getr (q := 39) (p := 185) (j := 24) (r := 204) hC f_Mo_65 rfl rfl rfl (by omega) (hu _ _ (by decide)) d_Mo_packet_36 rfl ?_
    refine x_iload_n (q := 40) hC d_Mo_packet_39 rfl rfl rfl ?_
    refine x_iconst (q := 41) (v := nI 0) hC d_Mo_packet_40 (by decide) rfl ?_
    refine x_zast (q := 42) (p := 204) hC n rfl (by omega) (by omega) rfl (by omega) (by decide) rfl d_Mo_packet_41 rfl ?_
    refine x_aload_n (q := 43) hC d_Mo_packet_42 rfl rfl rfl ?_
    refine x_getr (q := 46) (p := 185) (j := 25) (r := 205) hC f_Mo_68 rfl rfl rfl (by omega) (hu _ _ (by decide)) d_Mo_packet_43 rfl ?_
    refine x_iload_n (q := 47) hC d_Mo_packet_46 rfl rfl rfl ?_
    refine x_iconst (q := 48) (v := (-1)) hC d_Mo_packet_47 (by decide) rfl ?_
    refine x_iast (q := 49) (p := 205) hC n rfl (by omega) (by omega) rfl (by omega) (by decide) d_Mo_packet_48 rfl ?_
    refine x_iinc (q := 52) (y := nI (n + 1)) (L1 := [(3, .int (nI (n + 1))), (0, .ref 185), (1, .int (nI s)), (2, .int (nI st))]) hC d_Mo_packet_49 rfl (mx_inc n) (by decide) rfl rfl ?_
    refine x_goto (tgt := 22) hC d_Mo_packet_52 (by decide) ?_
    exact x_close hN4 [0, 1, 2, 3] rfl (by rfl)
  · intro hx5
    refine mx_nr (fun m6 e7 => ?_)
    try rw [e7] at hx5
    have hk1 := hx5
    refine x_iload_n (q := 23) hC d_Mo_packet_22 rfl rfl rfl ?_
    refine x_bipush (q := 25) (v := nI 6) hC d_Mo_packet_23 (by decide) rfl ?_
    refine x_icmp_ge (tgt := 55) (q := 28) hC d_Mo_packet_25 (by decide) rfl (fun _ => ?_) (fun h => absurd (nI_le (Nat.le_refl _) (by decide)) h)
    refine x_aload_n (q := 56) hC d_Mo_packet_55 rfl rfl rfl ?_
    refine x_getr (q := 59) (p := 185) (j := 14) (r := 198) hC f_Mo_47 rfl rfl rfl (by omega) (hu _ _ (by decide)) d_Mo_packet_56 rfl ?_
    refine x_bipush (q := 61) (v := nI 18) hC d_Mo_packet_59 (by decide) rfl ?_
    refine x_iload_n (q := 62) hC d_Mo_packet_61 rfl rfl rfl ?_
    refine x_imul (q := 63) (z := nI (18 * s)) hC d_Mo_packet_62 (pk_mul _ _) rfl ?_
    refine x_iload_n (q := 64) hC d_Mo_packet_63 rfl rfl rfl ?_
    refine x_iadd (q := 65) (z := nI ((18 * s) + st)) hC d_Mo_packet_64 (nI_add _ _) rfl ?_
    refine x_aload_n (q := 66) hC d_Mo_packet_65 rfl rfl rfl ?_
    refine x_geti (q := 69) (p := 185) (j := 1) hC f_Mo_112 rfl rfl (by omega) d_Mo_packet_66 rfl ?_
    refine x_bipush (q := 71) (v := nI 8) hC d_Mo_packet_69 (by decide) rfl ?_
    refine x_iadd (q := 72) (z := (m6 185 1) + (nI 8)) hC d_Mo_packet_71 rfl rfl ?_
    refine x_iast (q := 73) (p := 198) hC ((18 * s) + st) rfl (by omega) (by omega) rfl (by omega) (by decide) d_Mo_packet_72 rfl ?_
    refine mx_nr (fun mA eA => ?_)
    have hA : Mo_ok r mA := eA ▸ Mo_keep_ok hk1
    refine x_aload_n (q := 74) hC d_Mo_packet_73 rfl rfl rfl ?_
    refine x_iload_n (q := 75) hC d_Mo_packet_74 rfl rfl rfl ?_
    refine x_iload_n (q := 76) hC d_Mo_packet_75 rfl rfl rfl ?_
    refine x_iconst (q := 77) (v := nI 1) hC d_Mo_packet_76 (by decide) rfl ?_
    refine x_callV (q := 80) (p := 185) (A := [.int (nI s), .int (nI st), .int (nI 1)]) (S := []) (c1 := 0) (s1 := 0) hC (c_Mo_many1 (n := s) (st := st) (by omega) hu (by omega) (by omega)) s_Mo_packet_140 rfl (by omega) rfl rfl rfl (Nat.le_of_ble_eq_true rfl) rfl rfl (by decide) (by decide) d_Mo_packet_77 rfl (fun r τ hP => ?_)
    obtain ⟨rfl, rfl⟩ := hP
    show mx_G Γ κ _ _ 80 [(3, .int (nI 6)), (0, .ref 185), (1, .int (nI s)), (2, .int (nI st))] [.int (nI (Mo_m1 s st mA))] (nx, u, mA) 0 0
    refine x_istore_n (q := 81) (L1 := [(3, .int (nI (Mo_m1 s st mA))), (0, .ref 185), (1, .int (nI s)), (2, .int (nI st))]) hC d_Mo_packet_80 rfl (by decide) rfl rfl ?_
    refine x_iconst (q := 82) (v := nI 0) hC d_Mo_packet_81 (by decide) rfl ?_
    refine x_istore (q := 84) (L1 := [(4, .int (nI 0)), (3, .int (nI (Mo_m1 s st mA))), (0, .ref 185), (1, .int (nI s)), (2, .int (nI st))]) hC d_Mo_packet_82 (by decide) rfl rfl ?_
    refine x_sub (L1 := [(4, .int (nI 0)), (3, .int (nI (Mo_m1 s st mA))), (0, .ref 185), (1, .int (nI s)), (2, .int (nI st))]) [0, 1, 2, 3, 4] rfl ?_
    refine mx_loop (N := 6) (Hd := fun n m8 => mx_G Γ κ _ _ 84 [(4, .int (nI n)), (3, .int (nI (Mo_m1 s st mA))), (0, .ref 185), (1, .int (nI s)), (2, .int (nI st))] [] (nx, u, m8) 0 0) (Mo_k1 s st (Mo_m1 s st mA)) (fun _ m => Mo_ok r m) hA ?_ ?_ ?_
    · exact fun n m _ h => Mo_k1_ok h
    · intro n m8 hl9 hI10 hN11
      refine x_iload (q := 86) hC d_Mo_packet_84 rfl rfl ?_
      refine x_bipush (q := 88) (v := nI 6) hC d_Mo_packet_86 (by decide) rfl ?_
      refine x_icmp_ge (tgt := 154) (q := 91) hC d_Mo_packet_88 (by decide) rfl (fun h => absurd h (nI_ge hl9 (by decide))) (fun _ => ?_)
      refine x_aload_n (q := 92) hC d_Mo_packet_91 rfl rfl rfl ?_
      refine x_getr (q := 95) (p := 185) (j := 12) (r := 196) hC f_Mo_41 rfl rfl rfl (by omega) (hu _ _ (by decide)) d_Mo_packet_92 rfl ?_
      refine x_bipush (q := 97) (v := nI 18) hC d_Mo_packet_95 (by decide) rfl ?_
      refine x_iload (q := 99) hC d_Mo_packet_97 rfl rfl ?_
      refine x_imul (q := 100) (z := nI (18 * n)) hC d_Mo_packet_99 (pk_mul _ _) rfl ?_
      refine x_iload_n (q := 101) hC d_Mo_packet_100 rfl rfl rfl ?_
      refine x_iadd (q := 102) (z := nI ((18 * n) + st)) hC d_Mo_packet_101 (nI_add _ _) rfl ?_
      refine x_iald (q := 103) (p := 196) hC ((18 * n) + st) rfl (by omega) rfl (by omega) (by decide) d_Mo_packet_102 rfl ?_
      refine x_if_ge (tgt := 116) (q := 106) hC d_Mo_packet_103 (by decide) rfl (fun h103 => ?_) (fun h103 => ?_)
      · skip
        refine x_aload_n (q := 117) hC d_Mo_packet_116 rfl rfl rfl ?_
        refine x_getr (q := 120) (p := 185) (j := 15) (r := 199) hC f_Mo_50 rfl rfl rfl (by omega) (hu _ _ (by decide)) d_Mo_packet_117 rfl ?_
        refine x_bipush (q := 122) (v := nI 18) hC d_Mo_packet_120 (by decide) rfl ?_
        refine x_iload (q := 124) hC d_Mo_packet_122 rfl rfl ?_
        refine x_imul (q := 125) (z := nI (18 * n)) hC d_Mo_packet_124 (pk_mul _ _) rfl ?_
        refine x_iload_n (q := 126) hC d_Mo_packet_125 rfl rfl rfl ?_
        refine x_iadd (q := 127) (z := nI ((18 * n) + st)) hC d_Mo_packet_126 (nI_add _ _) rfl ?_
        refine x_iconst (q := 128) (v := nI 1) hC d_Mo_packet_127 (by decide) rfl ?_
        refine x_zast (q := 129) (p := 199) hC ((18 * n) + st) rfl (by omega) (by omega) rfl (by omega) (by decide) rfl d_Mo_packet_128 rfl ?_
        refine x_aload_n (q := 130) hC d_Mo_packet_129 rfl rfl rfl ?_
        refine x_getr (q := 133) (p := 185) (j := 14) (r := 198) hC f_Mo_47 rfl rfl rfl (by omega) (hu _ _ (by decide)) d_Mo_packet_130 rfl ?_
        refine x_bipush (q := 135) (v := nI 18) hC d_Mo_packet_133 (by decide) rfl ?_
        refine x_iload (q := 137) hC d_Mo_packet_135 rfl rfl ?_
        refine x_imul (q := 138) (z := nI (18 * n)) hC d_Mo_packet_137 (pk_mul _ _) rfl ?_
        refine x_iload_n (q := 139) hC d_Mo_packet_138 rfl rfl rfl ?_
        refine x_iadd (q := 140) (z := nI ((18 * n) + st)) hC d_Mo_packet_139 (nI_add _ _) rfl ?_
        refine x_aload_n (q := 141) hC d_Mo_packet_140 rfl rfl rfl ?_
        refine x_geti (q := 144) (p := 185) (j := 1) hC f_Mo_112 rfl rfl (by omega) d_Mo_packet_141 rfl ?_
        refine x_bipush (q := 146) (v := nI 8) hC d_Mo_packet_144 (by decide) rfl ?_
        refine x_iadd (q := 147) (z := ((mx_up m8 199 ((18 * n) + st) (nI 1)) 185 1) + (nI 8)) hC d_Mo_packet_146 rfl rfl ?_
        refine x_iast (q := 148) (p := 198) hC ((18 * n) + st) rfl (by omega) (by omega) rfl (by omega) (by decide) d_Mo_packet_147 rfl ?_
        refine x_iinc (q := 151) (y := nI (n + 1)) (L1 := [(4, .int (nI (n + 1))), (3, .int (nI (Mo_m1 s st mA))), (0, .ref 185), (1, .int (nI s)), (2, .int (nI st))]) hC d_Mo_packet_148 rfl (mx_inc n) (by decide) rfl rfl ?_
        refine x_goto (tgt := 84) hC d_Mo_packet_151 (by decide) ?_
        exact x_close hN11 [0, 1, 2, 3, 4] rfl (by exact it_t (Or.inl (Int32.not_lt.mpr h103)) rfl)
      · skip
        refine x_iload (q := 108) hC d_Mo_packet_106 rfl rfl ?_
        refine x_iload_n (q := 109) hC d_Mo_packet_108 rfl rfl rfl ?_
        refine x_icmp_ne (tgt := 148) (q := 112) hC d_Mo_packet_109 (by decide) rfl (fun h109 => ?_) (fun h109 => ?_)
        · skip
          refine x_iinc (q := 151) (y := nI (n + 1)) (L1 := [(4, .int (nI (n + 1))), (3, .int (nI (Mo_m1 s st mA))), (0, .ref 185), (1, .int (nI s)), (2, .int (nI st))]) hC d_Mo_packet_148 rfl (mx_inc n) (by decide) rfl rfl ?_
          refine x_goto (tgt := 84) hC d_Mo_packet_151 (by decide) ?_
          exact x_close hN11 [0, 1, 2, 3, 4] rfl (by exact it_f (fun q => q.elim (fun z => z (Int32.not_le.mp h103)) (fun z => h109 z.1)) rfl)
        · skip
          refine x_iload_n (q := 113) hC d_Mo_packet_112 rfl rfl rfl ?_
          refine x_if_le (tgt := 148) (q := 116) hC d_Mo_packet_113 (by decide) rfl (fun h113 => ?_) (fun h113 => ?_)
          · skip
            refine x_iinc (q := 151) (y := nI (n + 1)) (L1 := [(4, .int (nI (n + 1))), (3, .int (nI (Mo_m1 s st mA))), (0, .ref 185), (1, .int (nI s)), (2, .int (nI st))]) hC d_Mo_packet_148 rfl (mx_inc n) (by decide) rfl rfl ?_
            refine x_goto (tgt := 84) hC d_Mo_packet_151 (by decide) ?_
            exact x_close hN11 [0, 1, 2, 3, 4] rfl (by exact it_f (fun q => q.elim (fun z => z (Int32.not_le.mp h103)) (fun z => z.2 h113)) rfl)
          · skip
            refine x_aload_n (q := 117) hC d_Mo_packet_116 rfl rfl rfl ?_
            refine x_getr (q := 120) (p := 185) (j := 15) (r := 199) hC f_Mo_50 rfl rfl rfl (by omega) (hu _ _ (by decide)) d_Mo_packet_117 rfl ?_
            refine x_bipush (q := 122) (v := nI 18) hC d_Mo_packet_120 (by decide) rfl ?_
            refine x_iload (q := 124) hC d_Mo_packet_122 rfl rfl ?_
            refine x_imul (q := 125) (z := nI (18 * n)) hC d_Mo_packet_124 (pk_mul _ _) rfl ?_
            refine x_iload_n (q := 126) hC d_Mo_packet_125 rfl rfl rfl ?_
            refine x_iadd (q := 127) (z := nI ((18 * n) + st)) hC d_Mo_packet_126 (nI_add _ _) rfl ?_
            refine x_iconst (q := 128) (v := nI 1) hC d_Mo_packet_127 (by decide) rfl ?_
            refine x_zast (q := 129) (p := 199) hC ((18 * n) + st) rfl (by omega) (by omega) rfl (by omega) (by decide) rfl d_Mo_packet_128 rfl ?_
            refine x_aload_n (q := 130) hC d_Mo_packet_129 rfl rfl rfl ?_
            refine x_getr (q := 133) (p := 185) (j := 14) (r := 198) hC f_Mo_47 rfl rfl rfl (by omega) (hu _ _ (by decide)) d_Mo_packet_130 rfl ?_
            refine x_bipush (q := 135) (v := nI 18) hC d_Mo_packet_133 (by decide) rfl ?_
            refine x_iload (q := 137) hC d_Mo_packet_135 rfl rfl ?_
            refine x_imul (q := 138) (z := nI (18 * n)) hC d_Mo_packet_137 (pk_mul _ _) rfl ?_
            refine x_iload_n (q := 139) hC d_Mo_packet_138 rfl rfl rfl ?_
            refine x_iadd (q := 140) (z := nI ((18 * n) + st)) hC d_Mo_packet_139 (nI_add _ _) rfl ?_
            refine x_aload_n (q := 141) hC d_Mo_packet_140 rfl rfl rfl ?_
            refine x_geti (q := 144) (p := 185) (j := 1) hC f_Mo_112 rfl rfl (by omega) d_Mo_packet_141 rfl ?_
            refine x_bipush (q := 146) (v := nI 8) hC d_Mo_packet_144 (by decide) rfl ?_
            refine x_iadd (q := 147) (z := ((mx_up m8 199 ((18 * n) + st) (nI 1)) 185 1) + (nI 8)) hC d_Mo_packet_146 rfl rfl ?_
            refine x_iast (q := 148) (p := 198) hC ((18 * n) + st) rfl (by omega) (by omega) rfl (by omega) (by decide) d_Mo_packet_147 rfl ?_
            refine x_iinc (q := 151) (y := nI (n + 1)) (L1 := [(4, .int (nI (n + 1))), (3, .int (nI (Mo_m1 s st mA))), (0, .ref 185), (1, .int (nI s)), (2, .int (nI st))]) hC d_Mo_packet_148 rfl (mx_inc n) (by decide) rfl rfl ?_
            refine x_goto (tgt := 84) hC d_Mo_packet_151 (by decide) ?_
            exact x_close hN11 [0, 1, 2, 3, 4] rfl (by exact it_t (Or.inr (And.intro h109 h113)) rfl)
    · intro hx12
      refine mx_nr (fun m13 e14 => ?_)
      try rw [e14] at hx12
      have hk2 := hx12
      refine x_iload (q := 86) hC d_Mo_packet_84 rfl rfl ?_
      refine x_bipush (q := 88) (v := nI 6) hC d_Mo_packet_86 (by decide) rfl ?_
      refine x_icmp_ge (tgt := 154) (q := 91) hC d_Mo_packet_88 (by decide) rfl (fun _ => ?_) (fun h => absurd (nI_le (Nat.le_refl _) (by decide)) h)
      refine x_aload_n (q := 155) hC d_Mo_packet_154 rfl rfl rfl ?_
      refine x_iload_n (q := 156) hC d_Mo_packet_155 rfl rfl rfl ?_
      refine x_iload_n (q := 157) hC d_Mo_packet_156 rfl rfl rfl ?_
      refine x_callV (q := 160) (p := 185) (A := [.int (nI s), .int (nI st)]) (S := []) (c1 := 0) (s1 := 0) hC (c_Mo_register (r := r) (s := s) (st := st) (by omega) hu (by omega) (by omega) hr hk2.1) s_Mo_packet_182 rfl (by omega) rfl rfl rfl (Nat.le_of_ble_eq_true rfl) rfl rfl (by decide) (by decide) d_Mo_packet_157 rfl (fun r τ hP => ?_)
      obtain ⟨rfl, rfl⟩ := hP
      show mx_G Γ κ _ _ 160 [(4, .int (nI 6)), (3, .int (nI (Mo_m1 s st mA))), (0, .ref 185), (1, .int (nI s)), (2, .int (nI st))] [.int (bz (Mo_rc r s st m13))] (nx, u, Mo_reg r s st m13) 0 0
      refine mx_nr (fun mR eR => ?_)
      have hR : Mo_ok r mR := eR ▸ Mo_reg_ok hk2
      refine x_istore (q := 162) (L1 := [(4, .int (bz (Mo_rc r s st m13))), (3, .int (nI (Mo_m1 s st mA))), (0, .ref 185), (1, .int (nI s)), (2, .int (nI st))]) hC d_Mo_packet_160 (by decide) rfl rfl ?_
      have J15 : mx_G Γ κ M_Mo_packet (MQ (mx_b κ) (mx_Qc Γ (fun ρ τ => ρ = some (.int (nI (Mo_pk r s st mi).1)) ∧ τ = (nx, u, Mo_settle r (Mo_pk r s st mi).2))) (mx_a κ) (mx_s κ) M_Mo_packet.2.2.2.2.cells M_Mo_packet.2.2.2.2.slots (mx_fr Γ)) 177 [(4, .int (bz (Mo_rc r s st m13))), (0, .ref 185), (1, .int (nI s)), (2, .int (nI st))] [] (nx, u, Mo_y1 s (Mo_m1 s st mA) mR) 0 0 := by
        refine mx_nr (fun mY eY => ?_)
        have hY : Mo_ok r mY := eY ▸ Mo_y1_ok hR
        have J16 : mx_G Γ κ M_Mo_packet (MQ (mx_b κ) (mx_Qc Γ (fun ρ τ => ρ = some (.int (nI (Mo_pk r s st mi).1)) ∧ τ = (nx, u, Mo_settle r (Mo_pk r s st mi).2))) (mx_a κ) (mx_s κ) M_Mo_packet.2.2.2.2.cells M_Mo_packet.2.2.2.2.slots (mx_fr Γ)) 225 [(0, .ref 185), (1, .int (nI s)), (2, .int (nI st))] [] (nx, u, Mo_y2 r st (Mo_rc r s st m13) mY) 0 0 := by
          refine mx_nr (fun mQ eQ => ?_)
          have hQ : Mo_ok r mQ := eQ ▸ Mo_y2_ok hY
          refine x_iconst (q := 226) (v := nI 0) hC d_Mo_packet_225 (by decide) rfl ?_
          refine x_istore (q := 228) (L1 := [(5, .int (nI 0)), (0, .ref 185), (1, .int (nI s)), (2, .int (nI st))]) hC d_Mo_packet_226 (by decide) rfl rfl ?_
          refine x_sub (L1 := [(5, .int (nI 0)), (0, .ref 185), (1, .int (nI s)), (2, .int (nI st))]) [0, 1, 2, 3] rfl ?_
          refine mx_loop (N := 6) (Hd := fun j m17 => mx_G Γ κ _ _ 228 [(5, .int (nI j)), (0, .ref 185), (1, .int (nI s)), (2, .int (nI st))] [] (nx, u, m17) 0 0) (fun _ => mx_lp 6 (Mo_q1 r s st)) (fun _ m => Mo_ok r m) hQ ?_ ?_ ?_
          · exact fun n m _ h => lp_keep (Mo_ok r) 6 h (fun _ _ _ h => Mo_q1_ok h)
          · intro j m17 hl18 hI19 hN20
            have hI0 := hI19
            refine x_iload (q := 230) hC d_Mo_packet_228 rfl rfl ?_
            refine x_bipush (q := 232) (v := nI 6) hC d_Mo_packet_230 (by decide) rfl ?_
            refine x_icmp_ge (tgt := 285) (q := 235) hC d_Mo_packet_232 (by decide) rfl (fun h => absurd h (nI_ge hl18 (by decide))) (fun _ => ?_)
            refine x_iconst (q := 236) (v := nI 0) hC d_Mo_packet_235 (by decide) rfl ?_
            refine x_istore (q := 238) (L1 := [(6, .int (nI 0)), (5, .int (nI j)), (0, .ref 185), (1, .int (nI s)), (2, .int (nI st))]) hC d_Mo_packet_236 (by decide) rfl rfl ?_
            refine x_sub (L1 := [(6, .int (nI 0)), (5, .int (nI j)), (0, .ref 185), (1, .int (nI s)), (2, .int (nI st))]) [0, 1, 2, 3, 4] rfl ?_
            refine mx_loop (N := 6) (Hd := fun q m21 => mx_G Γ κ _ _ 238 [(6, .int (nI q)), (5, .int (nI j)), (0, .ref 185), (1, .int (nI s)), (2, .int (nI st))] [] (nx, u, m21) 0 0) (Mo_q1 r s st) (fun _ m => Mo_ok r m) hI0 ?_ ?_ ?_
            · exact fun n m _ h => Mo_q1_ok h
            · intro q m21 hl22 hI23 hN24
              refine x_iload (q := 240) hC d_Mo_packet_238 rfl rfl ?_
              refine x_bipush (q := 242) (v := nI 6) hC d_Mo_packet_240 (by decide) rfl ?_
              refine x_icmp_ge (tgt := 279) (q := 245) hC d_Mo_packet_242 (by decide) rfl (fun h => absurd h (nI_ge hl22 (by decide))) (fun _ => ?_)
              refine x_aload_n (q := 246) hC d_Mo_packet_245 rfl rfl rfl ?_
              refine x_getr (q := 249) (p := 185) (j := 23) (r := 203) hC f_Mo_62 rfl rfl rfl (by omega) (hu _ _ (by decide)) d_Mo_packet_246 rfl ?_
              refine x_iload (q := 251) hC d_Mo_packet_249 rfl rfl ?_
              refine x_zald (q := 252) (p := 203) hC q rfl (by omega) rfl (by omega) (by decide) d_Mo_packet_251 rfl ?_
              refine x_if_eq (tgt := 273) (q := 255) hC d_Mo_packet_252 (by decide) rfl (fun h252 => ?_) (fun h252 => ?_)
              · skip
                refine x_iinc (q := 276) (y := nI (q + 1)) (L1 := [(6, .int (nI (q + 1))), (5, .int (nI j)), (0, .ref 185), (1, .int (nI s)), (2, .int (nI st))]) hC d_Mo_packet_273 rfl (mx_inc q) (by decide) rfl rfl ?_
                refine x_goto (tgt := 238) hC d_Mo_packet_276 (by decide) ?_
                exact x_close hN24 [0, 1, 2, 3, 4] rfl (by exact it_f (fun z => z.1 h252) rfl)
              · skip
                refine x_aload_n (q := 256) hC d_Mo_packet_255 rfl rfl rfl ?_
                refine x_getr (q := 259) (p := 185) (j := 24) (r := 204) hC f_Mo_65 rfl rfl rfl (by omega) (hu _ _ (by decide)) d_Mo_packet_256 rfl ?_
                refine x_iload (q := 261) hC d_Mo_packet_259 rfl rfl ?_
                refine x_zald (q := 262) (p := 204) hC q rfl (by omega) rfl (by omega) (by decide) d_Mo_packet_261 rfl ?_
                refine x_if_ne (tgt := 273) (q := 265) hC d_Mo_packet_262 (by decide) rfl (fun h262 => ?_) (fun h262 => ?_)
                · skip
                  refine x_iinc (q := 276) (y := nI (q + 1)) (L1 := [(6, .int (nI (q + 1))), (5, .int (nI j)), (0, .ref 185), (1, .int (nI s)), (2, .int (nI st))]) hC d_Mo_packet_273 rfl (mx_inc q) (by decide) rfl rfl ?_
                  refine x_goto (tgt := 238) hC d_Mo_packet_276 (by decide) ?_
                  exact x_close hN24 [0, 1, 2, 3, 4] rfl (by exact it_f (fun z => h262 z.2) rfl)
                · skip
                  refine x_aload_n (q := 266) hC d_Mo_packet_265 rfl rfl rfl ?_
                  refine x_iload (q := 268) hC d_Mo_packet_266 rfl rfl ?_
                  refine x_iload_n (q := 269) hC d_Mo_packet_268 rfl rfl rfl ?_
                  refine x_iload_n (q := 270) hC d_Mo_packet_269 rfl rfl rfl ?_
                  refine x_callV (q := 273) (p := 185) (A := [.int (nI q), .int (nI s), .int (nI st)]) (S := []) (c1 := 0) (s1 := 0) hC (c_Mo_putOut (r := r) (q := q) (s := s) (st := st) (by omega) hu (by omega) (by omega) (by omega) hr hI23) s_Mo_packet_185 rfl (by omega) rfl rfl rfl (Nat.le_of_ble_eq_true rfl) rfl rfl (by decide) (by decide) d_Mo_packet_270 rfl (fun r τ hP => ?_)
                  obtain ⟨rfl, rfl⟩ := hP
                  show mx_G Γ κ _ _ 273 [(6, .int (nI q)), (5, .int (nI j)), (0, .ref 185), (1, .int (nI s)), (2, .int (nI st))] [] (nx, u, Mo_put r q s st m21) 0 0
                  refine x_iinc (q := 276) (y := nI (q + 1)) (L1 := [(6, .int (nI (q + 1))), (5, .int (nI j)), (0, .ref 185), (1, .int (nI s)), (2, .int (nI st))]) hC d_Mo_packet_273 rfl (mx_inc q) (by decide) rfl rfl ?_
                  refine x_goto (tgt := 238) hC d_Mo_packet_276 (by decide) ?_
                  exact x_close hN24 [0, 1, 2, 3, 4] rfl (by exact it_t (And.intro h252 h262) rfl)
            · intro hx25
              refine mx_nr (fun m26 e27 => ?_)
              try rw [e27] at hx25
              refine x_iload (q := 240) hC d_Mo_packet_238 rfl rfl ?_
              refine x_bipush (q := 242) (v := nI 6) hC d_Mo_packet_240 (by decide) rfl ?_
              refine x_icmp_ge (tgt := 279) (q := 245) hC d_Mo_packet_242 (by decide) rfl (fun _ => ?_) (fun h => absurd (nI_le (Nat.le_refl _) (by decide)) h)
              refine x_iinc (q := 282) (y := nI (j + 1)) (L1 := [(5, .int (nI (j + 1))), (6, .int (nI 6)), (0, .ref 185), (1, .int (nI s)), (2, .int (nI st))]) hC d_Mo_packet_279 rfl (mx_inc j) (by decide) rfl rfl ?_
              refine x_goto (tgt := 228) hC d_Mo_packet_282 (by decide) ?_
              subst e27
              exact x_close hN20 [0, 2, 3, 4] rfl (by rfl)
          · intro hx28
            refine mx_nr (fun m29 e30 => ?_)
            try rw [e30] at hx28
            have hk3 := hx28
            refine x_iload (q := 230) hC d_Mo_packet_228 rfl rfl ?_
            refine x_bipush (q := 232) (v := nI 6) hC d_Mo_packet_230 (by decide) rfl ?_
            refine x_icmp_ge (tgt := 285) (q := 235) hC d_Mo_packet_232 (by decide) rfl (fun _ => ?_) (fun h => absurd (nI_le (Nat.le_refl _) (by decide)) h)
            refine x_aload_n (q := 286) hC d_Mo_packet_285 rfl rfl rfl ?_
            refine x_iload_n (q := 287) hC d_Mo_packet_286 rfl rfl rfl ?_
            refine x_iload_n (q := 288) hC d_Mo_packet_287 rfl rfl rfl ?_
            refine x_callV (q := 291) (p := 185) (A := [.int (nI s), .int (nI st)]) (S := []) (c1 := 0) (s1 := 0) hC (c_Mo_arrive (r := r) (s := s) (st := st) (by omega) hu (by omega) (by omega) hr hk3) s_Mo_packet_188 rfl (by omega) rfl rfl rfl (Nat.le_of_ble_eq_true rfl) rfl rfl (by decide) (by decide) d_Mo_packet_288 rfl (fun r τ hP => ?_)
            obtain ⟨rfl, rfl⟩ := hP
            show mx_G Γ κ _ _ 291 [(5, .int (nI 6)), (0, .ref 185), (1, .int (nI s)), (2, .int (nI st))] [.int (nI ((Mo_arr s st m29).1))] (nx, u, Mo_settle r (Mo_arr s st m29).2) 0 0
            subst e30
            subst eQ
            subst eY
            subst eR
            subst e14
            subst eA
            subst e7
            subst eZ
            exact x_iret hC rfl rfl ⟨rfl, rfl⟩ (by decide) (by decide) d_Mo_packet_291
        refine x_aload_n (q := 178) hC d_Mo_packet_177 rfl rfl rfl ?_
        refine x_getr (q := 181) (p := 185) (j := 23) (r := 203) hC f_Mo_62 rfl rfl rfl (by omega) (hu _ _ (by decide)) d_Mo_packet_178 rfl ?_
        refine x_aload_n (q := 182) hC d_Mo_packet_181 rfl rfl rfl ?_
        refine x_geti (q := 185) (p := 185) (j := 0) hC f_Mo_103 rfl rfl (by omega) d_Mo_packet_182 rfl ?_
        refine mx_eqG (S1 := [.int (nI r), .ref 203]) rfl (by exact congrArg (fun z => Value.int z :: ([.ref 203] : List Value)) (show mY 185 0 = nI r from hY.1)) rfl ?_
        refine x_aload_n (q := 186) hC d_Mo_packet_185 rfl rfl rfl ?_
        refine x_getr (q := 189) (p := 185) (j := 23) (r := 203) hC f_Mo_62 rfl rfl rfl (by omega) (hu _ _ (by decide)) d_Mo_packet_186 rfl ?_
        refine x_aload_n (q := 190) hC d_Mo_packet_189 rfl rfl rfl ?_
        refine x_geti (q := 193) (p := 185) (j := 0) hC f_Mo_103 rfl rfl (by omega) d_Mo_packet_190 rfl ?_
        refine mx_eqG (S1 := [.int (nI r), .ref 203, .int (nI r), .ref 203]) rfl (by exact congrArg (fun z => Value.int z :: ([.ref 203, .int (nI r), .ref 203] : List Value)) (show mY 185 0 = nI r from hY.1)) rfl ?_
        refine x_zald (q := 194) (p := 203) hC r rfl (by omega) rfl (by omega) (by decide) d_Mo_packet_193 rfl ?_
        refine x_if_ne (tgt := 219) (q := 197) hC d_Mo_packet_194 (by decide) rfl (fun h194 => ?_) (fun h194 => ?_)
        · skip
          refine x_iconst (q := 220) (v := nI 1) hC d_Mo_packet_219 (by decide) rfl ?_
          refine x_goto (tgt := 224) hC d_Mo_packet_220 (by decide) ?_
          refine x_zast (q := 225) (p := 203) hC r rfl (by omega) (by omega) rfl (by omega) (by decide) rfl d_Mo_packet_224 rfl ?_
          exact x_sub (L1 := [(0, .ref 185), (1, .int (nI s)), (2, .int (nI st))]) [1, 2, 3] rfl (mx_eqG rfl rfl (pr (by subst eY; subst eR; subst e14; subst eA; subst e7; subst eZ; refine congrArg (mx_up _ 203 r) ?_; exact it_t (Or.inl h194) rfl)) J16)
        · skip
          refine x_iload (q := 199) hC d_Mo_packet_197 rfl rfl ?_
          refine x_if_eq (tgt := 223) (q := 202) hC d_Mo_packet_199 (by decide) rfl (fun h199 => ?_) (fun h199 => ?_)
          · have h199 := bz_0 h199
            refine x_iconst (q := 224) (v := nI 0) hC d_Mo_packet_223 (by decide) rfl ?_
            refine x_zast (q := 225) (p := 203) hC r rfl (by omega) (by omega) rfl (by omega) (by decide) rfl d_Mo_packet_224 rfl ?_
            exact x_sub (L1 := [(0, .ref 185), (1, .int (nI s)), (2, .int (nI st))]) [1, 2, 3] rfl (mx_eqG rfl rfl (pr (by subst eY; subst eR; subst e14; subst eA; subst e7; subst eZ; refine congrArg (mx_up _ 203 r) ?_; exact it_f (fun z => z.elim (fun y => y h194) (fun y => h199 y.1)) rfl)) J16)
          · have h199 := bz_1 h199
            refine x_aload_n (q := 203) hC d_Mo_packet_202 rfl rfl rfl ?_
            refine x_getr (q := 206) (p := 185) (j := 15) (r := 199) hC f_Mo_50 rfl rfl rfl (by omega) (hu _ _ (by decide)) d_Mo_packet_203 rfl ?_
            refine x_bipush (q := 208) (v := nI 18) hC d_Mo_packet_206 (by decide) rfl ?_
            refine x_aload_n (q := 209) hC d_Mo_packet_208 rfl rfl rfl ?_
            refine x_geti (q := 212) (p := 185) (j := 0) hC f_Mo_103 rfl rfl (by omega) d_Mo_packet_209 rfl ?_
            refine mx_eqG (S1 := [.int (nI r), .int (nI 18), .ref 199, .int (nI r), .ref 203]) rfl (by exact congrArg (fun z => Value.int z :: ([.int (nI 18), .ref 199, .int (nI r), .ref 203] : List Value)) (show mY 185 0 = nI r from hY.1)) rfl ?_
            refine x_imul (q := 213) (z := nI (18 * r)) hC d_Mo_packet_212 (pk_mul _ _) rfl ?_
            refine x_iload_n (q := 214) hC d_Mo_packet_213 rfl rfl rfl ?_
            refine x_iadd (q := 215) (z := nI ((18 * r) + st)) hC d_Mo_packet_214 (nI_add _ _) rfl ?_
            refine x_zald (q := 216) (p := 199) hC ((18 * r) + st) rfl (by omega) rfl (by omega) (by decide) d_Mo_packet_215 rfl ?_
            refine x_if_ne (tgt := 223) (q := 219) hC d_Mo_packet_216 (by decide) rfl (fun h216 => ?_) (fun h216 => ?_)
            · skip
              refine x_iconst (q := 224) (v := nI 0) hC d_Mo_packet_223 (by decide) rfl ?_
              refine x_zast (q := 225) (p := 203) hC r rfl (by omega) (by omega) rfl (by omega) (by decide) rfl d_Mo_packet_224 rfl ?_
              exact x_sub (L1 := [(0, .ref 185), (1, .int (nI s)), (2, .int (nI st))]) [1, 2, 3] rfl (mx_eqG rfl rfl (pr (by subst eY; subst eR; subst e14; subst eA; subst e7; subst eZ; refine congrArg (mx_up _ 203 r) ?_; exact it_f (fun z => z.elim (fun y => y h194) (fun y => h216 y.2)) rfl)) J16)
            · skip
              refine x_iconst (q := 220) (v := nI 1) hC d_Mo_packet_219 (by decide) rfl ?_
              refine x_goto (tgt := 224) hC d_Mo_packet_220 (by decide) ?_
              refine x_zast (q := 225) (p := 203) hC r rfl (by omega) (by omega) rfl (by omega) (by decide) rfl d_Mo_packet_224 rfl ?_
              exact x_sub (L1 := [(0, .ref 185), (1, .int (nI s)), (2, .int (nI st))]) [1, 2, 3] rfl (mx_eqG rfl rfl (pr (by subst eY; subst eR; subst e14; subst eA; subst e7; subst eZ; refine congrArg (mx_up _ 203 r) ?_; exact it_t (Or.inr (And.intro h199 h216)) rfl)) J16)
      refine x_aload_n (q := 163) hC d_Mo_packet_162 rfl rfl rfl ?_
      refine x_getr (q := 166) (p := 185) (j := 23) (r := 203) hC f_Mo_62 rfl rfl rfl (by omega) (hu _ _ (by decide)) d_Mo_packet_163 rfl ?_
      refine x_iload_n (q := 167) hC d_Mo_packet_166 rfl rfl rfl ?_
      refine x_iload_n (q := 168) hC d_Mo_packet_167 rfl rfl rfl ?_
      refine x_if_le (tgt := 175) (q := 171) hC d_Mo_packet_168 (by decide) rfl (fun h168 => ?_) (fun h168 => ?_)
      · skip
        refine x_iconst (q := 176) (v := nI 0) hC d_Mo_packet_175 (by decide) rfl ?_
        refine x_zast (q := 177) (p := 203) hC s rfl (by omega) (by omega) rfl (by omega) (by decide) rfl d_Mo_packet_176 rfl ?_
        exact x_sub (L1 := [(4, .int (bz (Mo_rc r s st m13))), (0, .ref 185), (1, .int (nI s)), (2, .int (nI st))]) [0, 2, 3, 4] rfl (mx_eqG rfl rfl (pr (by subst eR; subst e14; subst eA; subst e7; subst eZ; refine congrArg (mx_up _ 203 s) ?_; exact it_t h168 rfl)) J15)
      · skip
        refine x_iconst (q := 172) (v := nI 1) hC d_Mo_packet_171 (by decide) rfl ?_
        refine x_goto (tgt := 176) hC d_Mo_packet_172 (by decide) ?_
        refine x_zast (q := 177) (p := 203) hC s rfl (by omega) (by omega) rfl (by omega) (by decide) rfl d_Mo_packet_176 rfl ?_
        exact x_sub (L1 := [(4, .int (bz (Mo_rc r s st m13))), (0, .ref 185), (1, .int (nI s)), (2, .int (nI st))]) [0, 2, 3, 4] rfl (mx_eqG rfl rfl (pr (by subst eR; subst e14; subst eA; subst e7; subst eZ; refine congrArg (mx_up _ 203 s) ?_; exact it_f h168 rfl)) J15)
set_option maxRecDepth 100000 in
set_option maxHeartbeats 400000 in
theorem c_Mo_send {Γ : mx_X} {lau : Launch} {nx : Nat} {u : Nat → Nat → Bool} {mi : mx_Mm} {r : Nat} {s g : Int32} (hnx : 214 ≤ nx) (hu : ∀ p k, 2 ≤ p → u p k = true) (hr : r < 6) (hok : Mo_ok r mi) : mx_C Γ lau M_Mo_send [.ref 185, .int s, .int g] (nx, u, mi) (fun ρ τ => ρ = some (.int (D_sendv r s g mi)) ∧ τ = (nx, u, D_send r s g mi)) := by
  refine mx_C.intro (by decide) rfl (Nat.le_of_ble_eq_true rfl) (fun κ _ hC => ?_)
  show mx_G Γ κ _ _ 0 [(0, .ref 185), (1, .int s), (2, .int g)] [] (nx, u, mi) 0 0
  refine x_aload_n (q := 1) hC d_Mo_send_0 rfl rfl rfl ?_
  refine x_iload_n (q := 2) hC d_Mo_send_1 rfl rfl rfl ?_
  refine x_iload_n (q := 3) hC d_Mo_send_2 rfl rfl rfl ?_
  refine x_callV (q := 6) (p := 185) (A := [.int s, .int g]) (S := []) (c1 := 0) (s1 := 0) hC (c_Mo_refused (s := s) (g := g) (by omega) hu) s_Mo_send_164 rfl (by omega) rfl rfl rfl (Nat.le_of_ble_eq_true rfl) rfl rfl (by decide) (by decide) d_Mo_send_3 rfl (fun r τ hP => ?_)
  obtain ⟨rfl, rfl⟩ := hP
  show mx_G Γ κ _ _ 6 [(0, .ref 185), (1, .int s), (2, .int g)] [.int (bz (Mo_rf s g mi))] (nx, u, mi) 0 0
  refine x_if_eq (tgt := 13) (q := 9) hC d_Mo_send_6 (by decide) rfl (fun h6 => ?_) (fun h6 => ?_)
  · have h6 := bz_0 h6
    have hsg : rt s ∧ gp g := Decidable.not_not.mp (fun z => h6 (Or.inl z))
    obtain ⟨es, hs⟩ := in_tn hsg.1 (by decide)
    refine mx_eqG (L1 := [(0, .ref 185), (1, .int (nI (tn s))), (2, .int g)]) (by rw [← es]) rfl rfl ?_
    obtain ⟨eg, hg⟩ := in_tn hsg.2 (by decide)
    refine mx_eqG (L1 := [(0, .ref 185), (1, .int (nI (tn s))), (2, .int (nI (tn g)))]) (by rw [← eg]) rfl rfl ?_
    refine x_aload_n (q := 14) hC d_Mo_send_13 rfl rfl rfl ?_
    refine x_iload_n (q := 15) hC d_Mo_send_14 rfl rfl rfl ?_
    refine x_iconst (q := 16) (v := nI 3) hC d_Mo_send_15 (by decide) rfl ?_
    refine x_iload_n (q := 17) hC d_Mo_send_16 rfl rfl rfl ?_
    refine x_imul (q := 18) (z := nI (3 * (tn s))) hC d_Mo_send_17 (pk_mul _ _) rfl ?_
    refine x_iload_n (q := 19) hC d_Mo_send_18 rfl rfl rfl ?_
    refine x_iadd (q := 20) (z := nI ((3 * (tn s)) + (tn g))) hC d_Mo_send_19 (nI_add _ _) rfl ?_
    refine x_callV (q := 23) (p := 185) (A := [.int (nI (tn s)), .int (nI ((3 * (tn s)) + (tn g)))]) (S := []) (c1 := 0) (s1 := 0) hC (c_Mo_packet (r := r) (s := tn s) (st := (3 * (tn s)) + (tn g)) (by omega) hu (by omega) (by omega) hr hok) s_Mo_send_167 rfl (by omega) rfl rfl rfl (Nat.le_of_ble_eq_true rfl) rfl rfl (by decide) (by decide) d_Mo_send_20 rfl (fun r τ hP => ?_)
    obtain ⟨rfl, rfl⟩ := hP
    show mx_G Γ κ _ _ 23 [(0, .ref 185), (1, .int (nI (tn s))), (2, .int (nI (tn g)))] [.int (nI ((Mo_pk r (tn s) ((3 * (tn s)) + (tn g)) mi).1))] (nx, u, Mo_settle r (Mo_pk r (tn s) ((3 * (tn s)) + (tn g)) mi).2) 0 0
    exact x_iret hC rfl rfl ⟨sv (it_f h6 rfl), pr (it_f h6 rfl)⟩ (by decide) (by decide) d_Mo_send_23
  · have h6 := bz_1 h6
    refine x_iconst (q := 10) (v := (-1)) hC d_Mo_send_9 (by decide) rfl ?_
    refine x_goto (tgt := 23) hC d_Mo_send_10 (by decide) ?_
    exact x_iret hC rfl rfl ⟨sv (it_t h6 rfl), pr (it_t h6 rfl)⟩ (by decide) (by decide) d_Mo_send_23
set_option maxRecDepth 100000 in
set_option maxHeartbeats 400000 in
theorem c_Mo_crossings {Γ : mx_X} {lau : Launch} {nx : Nat} {u : Nat → Nat → Bool} {mi : mx_Mm}  (hnx : 214 ≤ nx) (hu : ∀ p k, 2 ≤ p → u p k = true)  : mx_C Γ lau M_Mo_crossings [.ref 185] (nx, u, mi) (fun ρ τ => ρ = some (.int (mi 185 19)) ∧ τ = (nx, u, mi)) := by
  refine mx_C.intro (by decide) rfl (Nat.le_of_ble_eq_true rfl) (fun κ _ hC => ?_)
  show mx_G Γ κ _ _ 0 [(0, .ref 185)] [] (nx, u, mi) 0 0
  refine x_aload_n (q := 1) hC d_Mo_crossings_0 rfl rfl rfl ?_
  refine x_geti (q := 4) (p := 185) (j := 19) hC f_Mo_170 rfl rfl (by omega) d_Mo_crossings_1 rfl ?_
  exact x_iret hC rfl rfl ⟨rfl, rfl⟩ (by decide) (by decide) d_Mo_crossings_4
set_option maxRecDepth 100000 in
set_option maxHeartbeats 400000 in
theorem c_Mo_drops {Γ : mx_X} {lau : Launch} {nx : Nat} {u : Nat → Nat → Bool} {mi : mx_Mm}  (hnx : 214 ≤ nx) (hu : ∀ p k, 2 ≤ p → u p k = true)  : mx_C Γ lau M_Mo_drops [.ref 185] (nx, u, mi) (fun ρ τ => ρ = some (.int (mi 185 20)) ∧ τ = (nx, u, mi)) := by
  refine mx_C.intro (by decide) rfl (Nat.le_of_ble_eq_true rfl) (fun κ _ hC => ?_)
  show mx_G Γ κ _ _ 0 [(0, .ref 185)] [] (nx, u, mi) 0 0
  refine x_aload_n (q := 1) hC d_Mo_drops_0 rfl rfl rfl ?_
  refine x_geti (q := 4) (p := 185) (j := 20) hC f_Mo_173 rfl rfl (by omega) d_Mo_drops_1 rfl ?_
  exact x_iret hC rfl rfl ⟨rfl, rfl⟩ (by decide) (by decide) d_Mo_drops_4
set_option maxRecDepth 100000 in
set_option maxHeartbeats 400000 in
theorem c_Mo_reached {Γ : mx_X} {lau : Launch} {nx : Nat} {u : Nat → Nat → Bool} {mi : mx_Mm}  (hnx : 214 ≤ nx) (hu : ∀ p k, 2 ≤ p → u p k = true)  : mx_C Γ lau M_Mo_reached [.ref 185] (nx, u, mi) (fun ρ τ => ρ = some (.int (mi 185 21)) ∧ τ = (nx, u, mi)) := by
  refine mx_C.intro (by decide) rfl (Nat.le_of_ble_eq_true rfl) (fun κ _ hC => ?_)
  show mx_G Γ κ _ _ 0 [(0, .ref 185)] [] (nx, u, mi) 0 0
  refine x_aload_n (q := 1) hC d_Mo_reached_0 rfl rfl rfl ?_
  refine x_geti (q := 4) (p := 185) (j := 21) hC f_Mo_176 rfl rfl (by omega) d_Mo_reached_1 rfl ?_
  exact x_iret hC rfl rfl ⟨rfl, rfl⟩ (by decide) (by decide) d_Mo_reached_4
set_option maxRecDepth 100000 in
set_option maxHeartbeats 400000 in
theorem c_Mo_heard {Γ : mx_X} {lau : Launch} {nx : Nat} {u : Nat → Nat → Bool} {mi : mx_Mm}  (hnx : 214 ≤ nx) (hu : ∀ p k, 2 ≤ p → u p k = true)  : mx_C Γ lau M_Mo_heard [.ref 185] (nx, u, mi) (fun ρ τ => ρ = some (.int (mi 185 22)) ∧ τ = (nx, u, mi)) := by
  refine mx_C.intro (by decide) rfl (Nat.le_of_ble_eq_true rfl) (fun κ _ hC => ?_)
  show mx_G Γ κ _ _ 0 [(0, .ref 185)] [] (nx, u, mi) 0 0
  refine x_aload_n (q := 1) hC d_Mo_heard_0 rfl rfl rfl ?_
  refine x_geti (q := 4) (p := 185) (j := 22) hC f_Mo_179 rfl rfl (by omega) d_Mo_heard_1 rfl ?_
  exact x_iret hC rfl rfl ⟨rfl, rfl⟩ (by decide) (by decide) d_Mo_heard_4
set_option maxRecDepth 100000 in
set_option maxHeartbeats 400000 in
theorem c_Mo_lose {Γ : mx_X} {lau : Launch} {nx : Nat} {u : Nat → Nat → Bool} {mi : mx_Mm} {l c : Int32} (hnx : 214 ≤ nx) (hu : ∀ p k, 2 ≤ p → u p k = true)  : mx_C Γ lau M_Mo_lose [.ref 185, .int l, .int c] (nx, u, mi) (fun ρ τ => ρ = some (.int (bz (C_lsP l c))) ∧ τ = (nx, u, D_lose l c mi)) := by
  refine mx_C.intro (by decide) rfl (Nat.le_of_ble_eq_true rfl) (fun κ _ hC => ?_)
  show mx_G Γ κ _ _ 0 [(0, .ref 185), (1, .int l), (2, .int c)] [] (nx, u, mi) 0 0
  refine x_iload_n (q := 1) hC d_Mo_lose_0 rfl rfl rfl ?_
  refine x_callS (q := 4) (A := [.int l]) (S := []) (c1 := 0) (s1 := 0) hC (c_Mo_router (x := l)) s_Mo_lose_99 rfl rfl rfl (Nat.le_of_ble_eq_true rfl) rfl rfl (by decide) (by decide) d_Mo_lose_1 rfl (fun r τ hP => ?_)
  obtain ⟨rfl, rfl⟩ := hP
  show mx_G Γ κ _ _ 4 [(0, .ref 185), (1, .int l), (2, .int c)] [.int (bz (rt l))] (nx, u, mi) 0 0
  refine x_if_eq (tgt := 17) (q := 7) hC d_Mo_lose_4 (by decide) rfl (fun h4 => ?_) (fun h4 => ?_)
  · have h4 := bz_0 h4
    refine x_iconst (q := 18) (v := nI 0) hC d_Mo_lose_17 (by decide) rfl ?_
    exact x_iret hC rfl rfl ⟨bz_f (fun q => h4 q.1), pr (it_f (fun q => h4 q.1) rfl)⟩ (by decide) (by decide) d_Mo_lose_18
  · have h4 := bz_1 h4
    obtain ⟨el, hl⟩ := in_tn h4 (by decide)
    refine mx_eqG (L1 := [(0, .ref 185), (1, .int (nI (tn l))), (2, .int c)]) (by rw [← el]) rfl rfl ?_
    refine x_iload_n (q := 8) hC d_Mo_lose_7 rfl rfl rfl ?_
    refine x_if_lt (tgt := 17) (q := 11) hC d_Mo_lose_8 (by decide) rfl (fun h8 => ?_) (fun h8 => ?_)
    · skip
      refine x_iconst (q := 18) (v := nI 0) hC d_Mo_lose_17 (by decide) rfl ?_
      exact x_iret hC rfl rfl ⟨bz_f (fun q => Int32.not_lt.mpr q.2.1 h8), pr (it_f (fun q => Int32.not_lt.mpr q.2.1 h8) rfl)⟩ (by decide) (by decide) d_Mo_lose_18
    · skip
      refine x_iload_n (q := 12) hC d_Mo_lose_11 rfl rfl rfl ?_
      refine x_bipush (q := 14) (v := nI 9) hC d_Mo_lose_12 (by decide) rfl ?_
      refine x_icmp_le (tgt := 19) (q := 17) hC d_Mo_lose_14 (by decide) rfl (fun h14 => ?_) (fun h14 => ?_)
      · skip
        refine x_aload_n (q := 20) hC d_Mo_lose_19 rfl rfl rfl ?_
        refine x_getr (q := 23) (p := 185) (j := 18) (r := 202) hC f_Mo_59 rfl rfl rfl (by omega) (hu _ _ (by decide)) d_Mo_lose_20 rfl ?_
        refine x_iload_n (q := 24) hC d_Mo_lose_23 rfl rfl rfl ?_
        refine x_iload_n (q := 25) hC d_Mo_lose_24 rfl rfl rfl ?_
        refine x_iast (q := 26) (p := 202) hC (tn l) rfl (by omega) (by omega) rfl (by omega) (by decide) d_Mo_lose_25 rfl ?_
        refine x_iconst (q := 27) (v := nI 1) hC d_Mo_lose_26 (by decide) rfl ?_
        exact x_iret hC rfl rfl ⟨bz_t (And.intro h4 (And.intro (Int32.not_lt.mp h8) h14)), pr (it_t (And.intro h4 (And.intro (Int32.not_lt.mp h8) h14)) rfl)⟩ (by decide) (by decide) d_Mo_lose_27
      · skip
        refine x_iconst (q := 18) (v := nI 0) hC d_Mo_lose_17 (by decide) rfl ?_
        exact x_iret hC rfl rfl ⟨bz_f (fun q => h14 q.2.2), pr (it_f (fun q => h14 q.2.2) rfl)⟩ (by decide) (by decide) d_Mo_lose_18
set_option maxRecDepth 100000 in
set_option maxHeartbeats 400000 in
theorem c_Mo_isFile {Γ : mx_X} {lau : Launch} {nx : Nat} {u : Nat → Nat → Bool} {mi : mx_Mm} {x : Int32} (hnx : 214 ≤ nx) (hu : ∀ p k, 2 ≤ p → u p k = true)  : mx_C Γ lau M_Mo_isFile [.ref 185, .int x] (nx, u, mi) (fun ρ τ => ρ = some (.int (bz (D_ex x mi))) ∧ τ = (nx, u, mi)) := by
  refine mx_C.intro (by decide) rfl (Nat.le_of_ble_eq_true rfl) (fun κ _ hC => ?_)
  show mx_G Γ κ _ _ 0 [(0, .ref 185), (1, .int x)] [] (nx, u, mi) 0 0
  refine x_iload_n (q := 1) hC d_Mo_isFile_0 rfl rfl rfl ?_
  refine x_if_lt (tgt := 16) (q := 4) hC d_Mo_isFile_1 (by decide) rfl (fun h1 => ?_) (fun h1 => ?_)
  · skip
    refine x_iconst (q := 17) (v := nI 0) hC d_Mo_isFile_16 (by decide) rfl ?_
    exact x_iret hC rfl rfl ⟨bz_f (fun q => Int32.not_le.mpr h1 q.1), rfl⟩ (by decide) (by decide) d_Mo_isFile_17
  · skip
    refine x_iload_n (q := 5) hC d_Mo_isFile_4 rfl rfl rfl ?_
    refine x_aload_n (q := 6) hC d_Mo_isFile_5 rfl rfl rfl ?_
    refine x_geti (q := 9) (p := 185) (j := 26) hC f_Mo_191 rfl rfl (by omega) d_Mo_isFile_6 rfl ?_
    refine x_icmp_ge (tgt := 16) (q := 12) hC d_Mo_isFile_9 (by decide) rfl (fun h9 => ?_) (fun h9 => ?_)
    · skip
      refine x_iconst (q := 17) (v := nI 0) hC d_Mo_isFile_16 (by decide) rfl ?_
      exact x_iret hC rfl rfl ⟨bz_f (fun q => Int32.not_lt.mpr h9 q.2), rfl⟩ (by decide) (by decide) d_Mo_isFile_17
    · skip
      refine x_iconst (q := 13) (v := nI 1) hC d_Mo_isFile_12 (by decide) rfl ?_
      refine x_goto (tgt := 17) hC d_Mo_isFile_13 (by decide) ?_
      exact x_iret hC rfl rfl ⟨bz_t (And.intro (Int32.not_lt.mp h1) (Int32.not_le.mp h9)), rfl⟩ (by decide) (by decide) d_Mo_isFile_17
set_option maxRecDepth 100000 in
set_option maxHeartbeats 400000 in
theorem c_Mo_publish {Γ : mx_X} {lau : Launch} {nx : Nat} {u : Nat → Nat → Bool} {mi : mx_Mm} {s g b : Int32} (hnx : 214 ≤ nx) (hu : ∀ p k, 2 ≤ p → u p k = true) (hfl : Ml_ok mi) : mx_C Γ lau M_Mo_publish [.ref 185, .int s, .int g, .int b] (nx, u, mi) (fun ρ τ => ρ = some (.int (D_pubv s g b mi)) ∧ τ = (nx, u, D_pub s g b mi)) := by
  refine mx_C.intro (by decide) rfl (Nat.le_of_ble_eq_true rfl) (fun κ _ hC => ?_)
  show mx_G Γ κ _ _ 0 [(0, .ref 185), (1, .int s), (2, .int g), (3, .int b)] [] (nx, u, mi) 0 0
  refine x_iload_n (q := 1) hC d_Mo_publish_0 rfl rfl rfl ?_
  refine x_callS (q := 4) (A := [.int s]) (S := []) (c1 := 0) (s1 := 0) hC (c_Mo_router (x := s)) s_Mo_publish_99 rfl rfl rfl (Nat.le_of_ble_eq_true rfl) rfl rfl (by decide) (by decide) d_Mo_publish_1 rfl (fun r τ hP => ?_)
  obtain ⟨rfl, rfl⟩ := hP
  show mx_G Γ κ _ _ 4 [(0, .ref 185), (1, .int s), (2, .int g), (3, .int b)] [.int (bz (rt s))] (nx, u, mi) 0 0
  refine x_if_eq (tgt := 33) (q := 7) hC d_Mo_publish_4 (by decide) rfl (fun h4 => ?_) (fun h4 => ?_)
  · have h4 := bz_0 h4
    refine x_iconst (q := 34) (v := (-1)) hC d_Mo_publish_33 (by decide) rfl ?_
    exact x_iret hC rfl rfl ⟨sv (it_f (fun q => h4 q.1) rfl), pr (it_f (fun q => h4 q.1) rfl)⟩ (by decide) (by decide) d_Mo_publish_34
  · have h4 := bz_1 h4
    obtain ⟨es, hs⟩ := in_tn h4 (by decide)
    refine mx_eqG (L1 := [(0, .ref 185), (1, .int (nI (tn s))), (2, .int g), (3, .int b)]) (by rw [← es]) rfl rfl ?_
    refine x_iload_n (q := 8) hC d_Mo_publish_7 rfl rfl rfl ?_
    refine x_callS (q := 11) (A := [.int g]) (S := []) (c1 := 0) (s1 := 0) hC (c_Mo_isGroup (x := g)) s_Mo_publish_115 rfl rfl rfl (Nat.le_of_ble_eq_true rfl) rfl rfl (by decide) (by decide) d_Mo_publish_8 rfl (fun r τ hP => ?_)
    obtain ⟨rfl, rfl⟩ := hP
    show mx_G Γ κ _ _ 11 [(0, .ref 185), (1, .int (nI (tn s))), (2, .int g), (3, .int b)] [.int (bz (gp g))] (nx, u, mi) 0 0
    refine x_if_eq (tgt := 33) (q := 14) hC d_Mo_publish_11 (by decide) rfl (fun h11 => ?_) (fun h11 => ?_)
    · have h11 := bz_0 h11
      refine x_iconst (q := 34) (v := (-1)) hC d_Mo_publish_33 (by decide) rfl ?_
      exact x_iret hC rfl rfl ⟨sv (it_f (fun q => h11 q.2.1) rfl), pr (it_f (fun q => h11 q.2.1) rfl)⟩ (by decide) (by decide) d_Mo_publish_34
    · have h11 := bz_1 h11
      obtain ⟨eg, hg⟩ := in_tn h11 (by decide)
      refine mx_eqG (L1 := [(0, .ref 185), (1, .int (nI (tn s))), (2, .int (nI (tn g))), (3, .int b)]) (by rw [← eg]) rfl rfl ?_
      refine x_iload_n (q := 15) hC d_Mo_publish_14 rfl rfl rfl ?_
      refine x_iconst (q := 16) (v := nI 1) hC d_Mo_publish_15 (by decide) rfl ?_
      refine x_icmp_lt (tgt := 33) (q := 19) hC d_Mo_publish_16 (by decide) rfl (fun h16 => ?_) (fun h16 => ?_)
      · skip
        refine x_iconst (q := 34) (v := (-1)) hC d_Mo_publish_33 (by decide) rfl ?_
        exact x_iret hC rfl rfl ⟨sv (it_f (fun q => Int32.not_lt.mpr q.2.2.1 h16) rfl), pr (it_f (fun q => Int32.not_lt.mpr q.2.2.1 h16) rfl)⟩ (by decide) (by decide) d_Mo_publish_34
      · skip
        refine x_iload_n (q := 20) hC d_Mo_publish_19 rfl rfl rfl ?_
        refine x_bipush (q := 22) (v := nI 16) hC d_Mo_publish_20 (by decide) rfl ?_
        refine x_icmp_gt (tgt := 33) (q := 25) hC d_Mo_publish_22 (by decide) rfl (fun h22 => ?_) (fun h22 => ?_)
        · skip
          refine x_iconst (q := 34) (v := (-1)) hC d_Mo_publish_33 (by decide) rfl ?_
          exact x_iret hC rfl rfl ⟨sv (it_f (fun q => Int32.not_lt.mpr q.2.2.2.1 h22) rfl), pr (it_f (fun q => Int32.not_lt.mpr q.2.2.2.1 h22) rfl)⟩ (by decide) (by decide) d_Mo_publish_34
        · skip
          refine x_aload_n (q := 26) hC d_Mo_publish_25 rfl rfl rfl ?_
          refine x_geti (q := 29) (p := 185) (j := 26) hC f_Mo_191 rfl rfl (by omega) d_Mo_publish_26 rfl ?_
          refine x_iconst (q := 30) (v := nI 4) hC d_Mo_publish_29 (by decide) rfl ?_
          refine x_icmp_lt (tgt := 35) (q := 33) hC d_Mo_publish_30 (by decide) rfl (fun h30 => ?_) (fun h30 => ?_)
          · skip
            obtain ⟨⟨c, hc5, hc⟩, -⟩ := hfl
            have hc4 : c < 4 := by have h30' := h30; rw [show (nx, u, mi).2.2 185 26 = nI c from hc] at h30'; exact (nI_ltI (by omega) (by decide)).mp h30'
            have ec : tn (mi 185 26) = c := by rw [hc]; exact tn_nI (by omega)
            refine x_aload_n (q := 36) hC d_Mo_publish_35 rfl rfl rfl ?_
            refine x_getr (q := 39) (p := 185) (j := 27) (r := 206) hC f_Mo_71 rfl rfl rfl (by omega) (hu _ _ (by decide)) d_Mo_publish_36 rfl ?_
            refine x_aload_n (q := 40) hC d_Mo_publish_39 rfl rfl rfl ?_
            refine x_geti (q := 43) (p := 185) (j := 26) hC f_Mo_191 rfl rfl (by omega) d_Mo_publish_40 rfl ?_
            refine x_iload_n (q := 44) hC d_Mo_publish_43 rfl rfl rfl ?_
            refine x_iast (q := 45) (p := 206) hC c rfl (by omega) (by omega) hc hc4 (by decide) d_Mo_publish_44 rfl ?_
            refine x_aload_n (q := 46) hC d_Mo_publish_45 rfl rfl rfl ?_
            refine x_getr (q := 49) (p := 185) (j := 28) (r := 207) hC f_Mo_74 rfl rfl rfl (by omega) (hu _ _ (by decide)) d_Mo_publish_46 rfl ?_
            refine x_aload_n (q := 50) hC d_Mo_publish_49 rfl rfl rfl ?_
            refine x_geti (q := 53) (p := 185) (j := 26) hC f_Mo_191 rfl rfl (by omega) d_Mo_publish_50 rfl ?_
            refine x_iload_n (q := 54) hC d_Mo_publish_53 rfl rfl rfl ?_
            refine x_iast (q := 55) (p := 207) hC c rfl (by omega) (by omega) (by show mx_up mi 206 c (nI (tn s)) 185 26 = nI c; rw [up_neP (by decide)]; exact hc) hc4 (by decide) d_Mo_publish_54 rfl ?_
            refine x_aload_n (q := 56) hC d_Mo_publish_55 rfl rfl rfl ?_
            refine x_getr (q := 59) (p := 185) (j := 29) (r := 208) hC f_Mo_77 rfl rfl rfl (by omega) (hu _ _ (by decide)) d_Mo_publish_56 rfl ?_
            refine x_aload_n (q := 60) hC d_Mo_publish_59 rfl rfl rfl ?_
            refine x_geti (q := 63) (p := 185) (j := 26) hC f_Mo_191 rfl rfl (by omega) d_Mo_publish_60 rfl ?_
            refine x_iload_n (q := 64) hC d_Mo_publish_63 rfl rfl rfl ?_
            refine x_iast (q := 65) (p := 208) hC c rfl (by omega) (by omega) (by show mx_up (mx_up mi 206 c (nI (tn s))) 207 c (nI (tn g)) 185 26 = nI c; rw [up_neP (by decide), up_neP (by decide)]; exact hc) hc4 (by decide) d_Mo_publish_64 rfl ?_
            refine x_aload_n (q := 66) hC d_Mo_publish_65 rfl rfl rfl ?_
            refine x_aload_n (q := 67) hC d_Mo_publish_66 rfl rfl rfl ?_
            refine x_geti (q := 70) (p := 185) (j := 26) hC f_Mo_191 rfl rfl (by omega) d_Mo_publish_67 rfl ?_
            refine x_iconst (q := 71) (v := nI 1) hC d_Mo_publish_70 (by decide) rfl ?_
            refine x_iadd (q := 72) (z := ((mx_up (mx_up (mx_up mi 206 c (nI (tn s))) 207 c (nI (tn g))) 208 c b) 185 26) + (nI 1)) hC d_Mo_publish_71 rfl rfl ?_
            refine x_puti (q := 75) (p := 185) (j := 26) hC f_Mo_191 y_Mo rfl rfl rfl rfl rfl (by omega) (by decide) d_Mo_publish_72 rfl ?_
            refine x_aload_n (q := 76) hC d_Mo_publish_75 rfl rfl rfl ?_
            refine x_geti (q := 79) (p := 185) (j := 26) hC f_Mo_191 rfl rfl (by omega) d_Mo_publish_76 rfl ?_
            refine x_iconst (q := 80) (v := nI 1) hC d_Mo_publish_79 (by decide) rfl ?_
            refine x_isub (q := 81) (z := ((mx_up (mx_up (mx_up (mx_up mi 206 c (nI (tn s))) 207 c (nI (tn g))) 208 c b) 185 26 (((mx_up (mx_up (mx_up mi 206 c (nI (tn s))) 207 c (nI (tn g))) 208 c b) 185 26) + (nI 1))) 185 26) - (nI 1)) hC d_Mo_publish_80 rfl rfl ?_
            exact x_iret hC rfl rfl ⟨sv (it_t (And.intro h4 (And.intro h11 (And.intro (Int32.not_lt.mp h16) (And.intro (Int32.not_lt.mp h22) h30)))) (by rw [ec] <;> rfl)), pr (it_t (And.intro h4 (And.intro h11 (And.intro (Int32.not_lt.mp h16) (And.intro (Int32.not_lt.mp h22) h30)))) (by rw [ec] <;> rfl))⟩ (by decide) (by decide) d_Mo_publish_81
          · skip
            refine x_iconst (q := 34) (v := (-1)) hC d_Mo_publish_33 (by decide) rfl ?_
            exact x_iret hC rfl rfl ⟨sv (it_f (fun q => h30 q.2.2.2.2) rfl), pr (it_f (fun q => h30 q.2.2.2.2) rfl)⟩ (by decide) (by decide) d_Mo_publish_34
set_option maxRecDepth 100000 in
set_option maxHeartbeats 400000 in
theorem c_Mo_take {Γ : mx_X} {lau : Launch} {nx : Nat} {u : Nat → Nat → Bool} {mi : mx_Mm} {f : Nat} (hnx : 214 ≤ nx) (hu : ∀ p k, 2 ≤ p → u p k = true) (hf : f < 4) : mx_C Γ lau M_Mo_take [.ref 185, .int (nI f)] (nx, u, mi) (fun ρ τ => ρ = some (.int (Mo_tv f mi)) ∧ τ = (nx, u, Mo_tm f mi)) := by
  refine mx_C.intro (by decide) rfl (Nat.le_of_ble_eq_true rfl) (fun κ _ hC => ?_)
  show mx_G Γ κ _ _ 0 [(0, .ref 185), (1, .int (nI f))] [] (nx, u, mi) 0 0
  refine x_iconst (q := 1) (v := nI 0) hC d_Mo_take_0 (by decide) rfl ?_
  refine x_istore_n (q := 2) (L1 := [(2, .int (nI 0)), (0, .ref 185), (1, .int (nI f))]) hC d_Mo_take_1 rfl (by decide) rfl rfl ?_
  refine x_sub (L1 := [(2, .int (nI 0)), (0, .ref 185), (1, .int (nI f))]) [0, 1, 2] rfl ?_
  refine mx_loopR (N := 16) (Hd := fun b => mx_G Γ κ _ _ 2 [(2, .int (nI b)), (0, .ref 185), (1, .int (nI f))] [] (nx, u, mi) 0 0) (Mo_tb f mi) ?_ ?_
  · intro b hl1 hn2 hN3
    refine x_iload_n (q := 3) hC d_Mo_take_2 rfl rfl rfl ?_
    refine x_bipush (q := 5) (v := nI 16) hC d_Mo_take_3 (by decide) rfl ?_
    refine x_icmp_ge (tgt := 48) (q := 8) hC d_Mo_take_5 (by decide) rfl (fun h => absurd h (nI_ge hl1 (by decide))) (fun _ => ?_)
    refine x_aload_n (q := 9) hC d_Mo_take_8 rfl rfl rfl ?_
    refine x_getr (q := 12) (p := 185) (j := 31) (r := 210) hC f_Mo_83 rfl rfl rfl (by omega) (hu _ _ (by decide)) d_Mo_take_9 rfl ?_
    refine x_iload_n (q := 13) hC d_Mo_take_12 rfl rfl rfl ?_
    refine x_iald (q := 14) (p := 210) hC f rfl (by omega) rfl (by omega) (by decide) d_Mo_take_13 rfl ?_
    refine x_iload_n (q := 15) hC d_Mo_take_14 rfl rfl rfl ?_
    refine x_ishr (q := 16) (z := (mi 210 f) >>> ((nI b) &&& 31)) hC d_Mo_take_15 rfl rfl ?_
    refine x_iconst (q := 17) (v := nI 1) hC d_Mo_take_16 (by decide) rfl ?_
    refine x_iand (q := 18) (z := ((mi 210 f) >>> ((nI b) &&& 31)) &&& (nI 1)) hC d_Mo_take_17 rfl rfl ?_
    refine x_iconst (q := 19) (v := nI 1) hC d_Mo_take_18 (by decide) rfl ?_
    refine x_icmp_ne (tgt := 42) (q := 22) hC d_Mo_take_19 (by decide) rfl (fun h19 => ?_) (fun h19 => ?_)
    · skip
      refine x_iinc (q := 45) (y := nI (b + 1)) (L1 := [(2, .int (nI (b + 1))), (0, .ref 185), (1, .int (nI f))]) hC d_Mo_take_42 rfl (mx_inc b) (by decide) rfl rfl ?_
      refine x_goto (tgt := 2) hC d_Mo_take_45 (by decide) ?_
      exact x_sub [0, 1, 2] rfl (hN3 (decide_eq_false h19))
    · skip
      refine x_aload_n (q := 23) hC d_Mo_take_22 rfl rfl rfl ?_
      refine x_getr (q := 26) (p := 185) (j := 31) (r := 210) hC f_Mo_83 rfl rfl rfl (by omega) (hu _ _ (by decide)) d_Mo_take_23 rfl ?_
      refine x_iload_n (q := 27) hC d_Mo_take_26 rfl rfl rfl ?_
      refine x_aload_n (q := 28) hC d_Mo_take_27 rfl rfl rfl ?_
      refine x_getr (q := 31) (p := 185) (j := 31) (r := 210) hC f_Mo_83 rfl rfl rfl (by omega) (hu _ _ (by decide)) d_Mo_take_28 rfl ?_
      refine x_iload_n (q := 32) hC d_Mo_take_31 rfl rfl rfl ?_
      refine x_iald (q := 33) (p := 210) hC f rfl (by omega) rfl (by omega) (by decide) d_Mo_take_32 rfl ?_
      refine x_iconst (q := 34) (v := nI 1) hC d_Mo_take_33 (by decide) rfl ?_
      refine x_iload_n (q := 35) hC d_Mo_take_34 rfl rfl rfl ?_
      refine x_ishl (q := 36) (z := (nI 1) <<< ((nI b) &&& 31)) hC d_Mo_take_35 rfl rfl ?_
      refine x_iconst (q := 37) (v := (-1)) hC d_Mo_take_36 (by decide) rfl ?_
      refine x_ixor (q := 38) (z := ((nI 1) <<< ((nI b) &&& 31)) ^^^ (-1)) hC d_Mo_take_37 rfl rfl ?_
      refine x_iand (q := 39) (z := (mi 210 f) &&& (((nI 1) <<< ((nI b) &&& 31)) ^^^ (-1))) hC d_Mo_take_38 rfl rfl ?_
      refine x_iast (q := 40) (p := 210) hC f rfl (by omega) (by omega) rfl (by omega) (by decide) d_Mo_take_39 rfl ?_
      refine x_iload_n (q := 41) hC d_Mo_take_40 rfl rfl rfl ?_
      exact x_iret hC rfl rfl ⟨sv (it_t (by rw [pm_fd_eq hl1 (decide_eq_true h19) hn2]; exact hl1) (by rw [pm_fd_eq hl1 (decide_eq_true h19) hn2] <;> rfl)), pr (it_t (by rw [pm_fd_eq hl1 (decide_eq_true h19) hn2]; exact hl1) (by rw [pm_fd_eq hl1 (decide_eq_true h19) hn2] <;> rfl))⟩ (by decide) (by decide) d_Mo_take_41
  · intro hx
    refine x_iload_n (q := 3) hC d_Mo_take_2 rfl rfl rfl ?_
    refine x_bipush (q := 5) (v := nI 16) hC d_Mo_take_3 (by decide) rfl ?_
    refine x_icmp_ge (tgt := 48) (q := 8) hC d_Mo_take_5 (by decide) rfl (fun _ => ?_) (fun h => absurd (nI_le (Nat.le_refl _) (by decide)) h)
    refine x_aload_n (q := 49) hC d_Mo_take_48 rfl rfl rfl ?_
    refine x_getr (q := 52) (p := 185) (j := 30) (r := 209) hC f_Mo_80 rfl rfl rfl (by omega) (hu _ _ (by decide)) d_Mo_take_49 rfl ?_
    refine x_iload_n (q := 53) hC d_Mo_take_52 rfl rfl rfl ?_
    refine x_iald (q := 54) (p := 209) hC f rfl (by omega) rfl (by omega) (by decide) d_Mo_take_53 rfl ?_
    refine x_aload_n (q := 55) hC d_Mo_take_54 rfl rfl rfl ?_
    refine x_getr (q := 58) (p := 185) (j := 29) (r := 208) hC f_Mo_77 rfl rfl rfl (by omega) (hu _ _ (by decide)) d_Mo_take_55 rfl ?_
    refine x_iload_n (q := 59) hC d_Mo_take_58 rfl rfl rfl ?_
    refine x_iald (q := 60) (p := 208) hC f rfl (by omega) rfl (by omega) (by decide) d_Mo_take_59 rfl ?_
    refine x_icmp_lt (tgt := 70) (q := 63) hC d_Mo_take_60 (by decide) rfl (fun h60 => ?_) (fun h60 => ?_)
    · skip
      refine x_aload_n (q := 71) hC d_Mo_take_70 rfl rfl rfl ?_
      refine x_getr (q := 74) (p := 185) (j := 30) (r := 209) hC f_Mo_80 rfl rfl rfl (by omega) (hu _ _ (by decide)) d_Mo_take_71 rfl ?_
      refine x_iload_n (q := 75) hC d_Mo_take_74 rfl rfl rfl ?_
      refine x_aload_n (q := 76) hC d_Mo_take_75 rfl rfl rfl ?_
      refine x_getr (q := 79) (p := 185) (j := 30) (r := 209) hC f_Mo_80 rfl rfl rfl (by omega) (hu _ _ (by decide)) d_Mo_take_76 rfl ?_
      refine x_iload_n (q := 80) hC d_Mo_take_79 rfl rfl rfl ?_
      refine x_iald (q := 81) (p := 209) hC f rfl (by omega) rfl (by omega) (by decide) d_Mo_take_80 rfl ?_
      refine x_iconst (q := 82) (v := nI 1) hC d_Mo_take_81 (by decide) rfl ?_
      refine x_iadd (q := 83) (z := (mi 209 f) + (nI 1)) hC d_Mo_take_82 rfl rfl ?_
      refine x_iast (q := 84) (p := 209) hC f rfl (by omega) (by omega) rfl (by omega) (by decide) d_Mo_take_83 rfl ?_
      refine x_aload_n (q := 85) hC d_Mo_take_84 rfl rfl rfl ?_
      refine x_getr (q := 88) (p := 185) (j := 30) (r := 209) hC f_Mo_80 rfl rfl rfl (by omega) (hu _ _ (by decide)) d_Mo_take_85 rfl ?_
      refine x_iload_n (q := 89) hC d_Mo_take_88 rfl rfl rfl ?_
      refine x_iald (q := 90) (p := 209) hC f rfl (by omega) rfl (by omega) (by decide) d_Mo_take_89 rfl ?_
      refine x_iconst (q := 91) (v := nI 1) hC d_Mo_take_90 (by decide) rfl ?_
      refine x_isub (q := 92) (z := ((mx_up mi 209 f ((mi 209 f) + (nI 1))) 209 f) - (nI 1)) hC d_Mo_take_91 rfl rfl ?_
      exact x_iret hC rfl rfl ⟨sv (it_f (by rw [pm_fd_none hx]; exact Nat.lt_irrefl _) (it_t h60 rfl)), pr (it_f (by rw [pm_fd_none hx]; exact Nat.lt_irrefl _) (it_t h60 rfl))⟩ (by decide) (by decide) d_Mo_take_92
    · skip
      refine x_aload_n (q := 64) hC d_Mo_take_63 rfl rfl rfl ?_
      refine x_getr (q := 67) (p := 185) (j := 29) (r := 208) hC f_Mo_77 rfl rfl rfl (by omega) (hu _ _ (by decide)) d_Mo_take_64 rfl ?_
      refine x_iload_n (q := 68) hC d_Mo_take_67 rfl rfl rfl ?_
      refine x_iald (q := 69) (p := 208) hC f rfl (by omega) rfl (by omega) (by decide) d_Mo_take_68 rfl ?_
      exact x_iret hC rfl rfl ⟨sv (it_f (by rw [pm_fd_none hx]; exact Nat.lt_irrefl _) (it_f h60 rfl)), pr (it_f (by rw [pm_fd_none hx]; exact Nat.lt_irrefl _) (it_f h60 rfl))⟩ (by decide) (by decide) d_Mo_take_69
set_option maxRecDepth 100000 in
set_option maxHeartbeats 400000 in
theorem c_Mo_missing {Γ : mx_X} {lau : Launch} {nx : Nat} {u : Nat → Nat → Bool} {mi : mx_Mm} {f l : Nat} (hnx : 214 ≤ nx) (hu : ∀ p k, 2 ≤ p → u p k = true) (hf : f < 4) (hl : l < 6) : mx_C Γ lau M_Mo_missing [.ref 185, .int (nI f), .int (nI l)] (nx, u, mi) (fun ρ τ => ρ = some (.int (Mo_mis f l mi)) ∧ τ = (nx, u, mi)) := by
  refine mx_C.intro (by decide) rfl (Nat.le_of_ble_eq_true rfl) (fun κ _ hC => ?_)
  show mx_G Γ κ _ _ 0 [(0, .ref 185), (1, .int (nI f)), (2, .int (nI l))] [] (nx, u, mi) 0 0
  refine x_iconst (q := 1) (v := nI 1) hC d_Mo_missing_0 (by decide) rfl ?_
  refine x_aload_n (q := 2) hC d_Mo_missing_1 rfl rfl rfl ?_
  refine x_getr (q := 5) (p := 185) (j := 33) (r := 212) hC f_Mo_89 rfl rfl rfl (by omega) (hu _ _ (by decide)) d_Mo_missing_2 rfl ?_
  refine x_bipush (q := 7) (v := nI 6) hC d_Mo_missing_5 (by decide) rfl ?_
  refine x_iload_n (q := 8) hC d_Mo_missing_7 rfl rfl rfl ?_
  refine x_imul (q := 9) (z := nI (6 * f)) hC d_Mo_missing_8 (pk_mul _ _) rfl ?_
  refine x_iload_n (q := 10) hC d_Mo_missing_9 rfl rfl rfl ?_
  refine x_iadd (q := 11) (z := nI ((6 * f) + l)) hC d_Mo_missing_10 (nI_add _ _) rfl ?_
  refine x_iald (q := 12) (p := 212) hC ((6 * f) + l) rfl (by omega) rfl (by omega) (by decide) d_Mo_missing_11 rfl ?_
  refine x_ishl (q := 13) (z := (nI 1) <<< ((mi 212 ((6 * f) + l)) &&& 31)) hC d_Mo_missing_12 rfl rfl ?_
  refine x_iconst (q := 14) (v := nI 1) hC d_Mo_missing_13 (by decide) rfl ?_
  refine x_isub (q := 15) (z := ((nI 1) <<< ((mi 212 ((6 * f) + l)) &&& 31)) - (nI 1)) hC d_Mo_missing_14 rfl rfl ?_
  refine x_istore_n (q := 16) (L1 := [(3, .int (((nI 1) <<< ((mi 212 ((6 * f) + l)) &&& 31)) - (nI 1))), (0, .ref 185), (1, .int (nI f)), (2, .int (nI l))]) hC d_Mo_missing_15 rfl (by decide) rfl rfl ?_
  refine x_iload_n (q := 17) hC d_Mo_missing_16 rfl rfl rfl ?_
  refine x_aload_n (q := 18) hC d_Mo_missing_17 rfl rfl rfl ?_
  refine x_getr (q := 21) (p := 185) (j := 32) (r := 211) hC f_Mo_86 rfl rfl rfl (by omega) (hu _ _ (by decide)) d_Mo_missing_18 rfl ?_
  refine x_bipush (q := 23) (v := nI 6) hC d_Mo_missing_21 (by decide) rfl ?_
  refine x_iload_n (q := 24) hC d_Mo_missing_23 rfl rfl rfl ?_
  refine x_imul (q := 25) (z := nI (6 * f)) hC d_Mo_missing_24 (pk_mul _ _) rfl ?_
  refine x_iload_n (q := 26) hC d_Mo_missing_25 rfl rfl rfl ?_
  refine x_iadd (q := 27) (z := nI ((6 * f) + l)) hC d_Mo_missing_26 (nI_add _ _) rfl ?_
  refine x_iald (q := 28) (p := 211) hC ((6 * f) + l) rfl (by omega) rfl (by omega) (by decide) d_Mo_missing_27 rfl ?_
  refine x_iconst (q := 29) (v := (-1)) hC d_Mo_missing_28 (by decide) rfl ?_
  refine x_ixor (q := 30) (z := (mi 211 ((6 * f) + l)) ^^^ (-1)) hC d_Mo_missing_29 rfl rfl ?_
  refine x_iand (q := 31) (z := (((nI 1) <<< ((mi 212 ((6 * f) + l)) &&& 31)) - (nI 1)) &&& ((mi 211 ((6 * f) + l)) ^^^ (-1))) hC d_Mo_missing_30 rfl rfl ?_
  exact x_iret hC rfl rfl ⟨rfl, rfl⟩ (by decide) (by decide) d_Mo_missing_31
set_option maxRecDepth 100000 in
set_option maxHeartbeats 400000 in
theorem c_Mo_have {Γ : mx_X} {lau : Launch} {nx : Nat} {u : Nat → Nat → Bool} {mi : mx_Mm} {x l : Int32} (hnx : 214 ≤ nx) (hu : ∀ p k, 2 ≤ p → u p k = true) (hfl : Ml_ok mi) : mx_C Γ lau M_Mo_have [.ref 185, .int x, .int l] (nx, u, mi) (fun ρ τ => ρ = some (.int (D_have x l mi)) ∧ τ = (nx, u, mi)) := by
  refine mx_C.intro (by decide) rfl (Nat.le_of_ble_eq_true rfl) (fun κ _ hC => ?_)
  show mx_G Γ κ _ _ 0 [(0, .ref 185), (1, .int x), (2, .int l)] [] (nx, u, mi) 0 0
  refine x_aload_n (q := 1) hC d_Mo_have_0 rfl rfl rfl ?_
  refine x_iload_n (q := 2) hC d_Mo_have_1 rfl rfl rfl ?_
  refine x_callV (q := 5) (p := 185) (A := [.int x]) (S := []) (c1 := 0) (s1 := 0) hC (c_Mo_isFile (x := x) (by omega) hu  ) s_Mo_have_194 rfl (by omega) rfl rfl rfl (Nat.le_of_ble_eq_true rfl) rfl rfl (by decide) (by decide) d_Mo_have_2 rfl (fun r τ hP => ?_)
  obtain ⟨rfl, rfl⟩ := hP
  show mx_G Γ κ _ _ 5 [(0, .ref 185), (1, .int x), (2, .int l)] [.int (bz (D_ex x mi))] (nx, u, mi) 0 0
  refine x_if_eq (tgt := 29) (q := 8) hC d_Mo_have_5 (by decide) rfl (fun h5 => ?_) (fun h5 => ?_)
  · have h5 := bz_0 h5
    refine x_iconst (q := 30) (v := (-1)) hC d_Mo_have_29 (by decide) rfl ?_
    exact x_iret hC rfl rfl ⟨sv (it_f (fun q => h5 q.1) rfl), rfl⟩ (by decide) (by decide) d_Mo_have_30
  · have h5 := bz_1 h5
    obtain ⟨ex, hx⟩ := hfl.f h5
    refine mx_eqG (L1 := [(0, .ref 185), (1, .int (nI (tn x))), (2, .int l)]) (by rw [← ex]) rfl rfl ?_
    refine x_iload_n (q := 9) hC d_Mo_have_8 rfl rfl rfl ?_
    refine x_callS (q := 12) (A := [.int l]) (S := []) (c1 := 0) (s1 := 0) hC (c_Mo_router (x := l)) s_Mo_have_99 rfl rfl rfl (Nat.le_of_ble_eq_true rfl) rfl rfl (by decide) (by decide) d_Mo_have_9 rfl (fun r τ hP => ?_)
    obtain ⟨rfl, rfl⟩ := hP
    show mx_G Γ κ _ _ 12 [(0, .ref 185), (1, .int (nI (tn x))), (2, .int l)] [.int (bz (rt l))] (nx, u, mi) 0 0
    refine x_if_eq (tgt := 29) (q := 15) hC d_Mo_have_12 (by decide) rfl (fun h12 => ?_) (fun h12 => ?_)
    · have h12 := bz_0 h12
      refine x_iconst (q := 30) (v := (-1)) hC d_Mo_have_29 (by decide) rfl ?_
      exact x_iret hC rfl rfl ⟨sv (it_f (fun q => h12 q.2) rfl), rfl⟩ (by decide) (by decide) d_Mo_have_30
    · have h12 := bz_1 h12
      obtain ⟨el, hl⟩ := in_tn h12 (by decide)
      refine mx_eqG (L1 := [(0, .ref 185), (1, .int (nI (tn x))), (2, .int (nI (tn l)))]) (by rw [← el]) rfl rfl ?_
      refine x_aload_n (q := 16) hC d_Mo_have_15 rfl rfl rfl ?_
      refine x_getr (q := 19) (p := 185) (j := 32) (r := 211) hC f_Mo_86 rfl rfl rfl (by omega) (hu _ _ (by decide)) d_Mo_have_16 rfl ?_
      refine x_bipush (q := 21) (v := nI 6) hC d_Mo_have_19 (by decide) rfl ?_
      refine x_iload_n (q := 22) hC d_Mo_have_21 rfl rfl rfl ?_
      refine x_imul (q := 23) (z := nI (6 * (tn x))) hC d_Mo_have_22 (pk_mul _ _) rfl ?_
      refine x_iload_n (q := 24) hC d_Mo_have_23 rfl rfl rfl ?_
      refine x_iadd (q := 25) (z := nI ((6 * (tn x)) + (tn l))) hC d_Mo_have_24 (nI_add _ _) rfl ?_
      refine x_iald (q := 26) (p := 211) hC ((6 * (tn x)) + (tn l)) rfl (by omega) rfl (by omega) (by decide) d_Mo_have_25 rfl ?_
      refine x_goto (tgt := 30) hC d_Mo_have_26 (by decide) ?_
      exact x_iret hC rfl rfl ⟨sv (it_t (And.intro h5 h12) rfl), rfl⟩ (by decide) (by decide) d_Mo_have_30
theorem Mo_d_eq {f l : Nat} {b y v w : Int32} {m : mx_Mm} (h1 : v = if b < m 208 f then m 211 (6 * f + l) ||| (nI 1 <<< (b &&& 31)) else m 211 (6 * f + l)) (h2 : w = if y ≤ (mx_up m 211 (6 * f + l) v) 212 (6 * f + l) then (mx_up m 211 (6 * f + l) v) 212 (6 * f + l) else y) : mx_up (mx_up m 211 (6 * f + l) v) 212 (6 * f + l) w = Mo_d3 f l y (Mo_d2 f l b m) := by
  unfold Mo_d3 Mo_d2
  rw [← h1, ← h2]
set_option maxRecDepth 100000 in
set_option maxHeartbeats 1000000 in
theorem c_Mo_emit {Γ : mx_X} {lau : Launch} {nx : Nat} {u : Nat → Nat → Bool} {mi : mx_Mm} {r : Nat} {x : Int32} (hnx : 214 ≤ nx) (hu : ∀ p k, 2 ≤ p → u p k = true) (hr : r < 6) (hok : Mo_ok r mi) (hfl : Ml_ok mi) : mx_C Γ lau M_Mo_emit [.ref 185, .int x] (nx, u, mi) (fun ρ τ => ρ = some (.int (D_emitv x mi)) ∧ τ = (nx, u, D_emit r x mi)) := by
  refine mx_C.intro (by decide) rfl (Nat.le_of_ble_eq_true rfl) (fun κ _ hC => ?_)
  show mx_G Γ κ _ _ 0 [(0, .ref 185), (1, .int x)] [] (nx, u, mi) 0 0
  refine x_aload_n (q := 1) hC d_Mo_emit_0 rfl rfl rfl ?_
  refine x_iload_n (q := 2) hC d_Mo_emit_1 rfl rfl rfl ?_
  refine x_callV (q := 5) (p := 185) (A := [.int x]) (S := []) (c1 := 0) (s1 := 0) hC (c_Mo_isFile (x := x) (by omega) hu  ) s_Mo_emit_194 rfl (by omega) rfl rfl rfl (Nat.le_of_ble_eq_true rfl) rfl rfl (by decide) (by decide) d_Mo_emit_2 rfl (fun r τ hP => ?_)
  obtain ⟨rfl, rfl⟩ := hP
  show mx_G Γ κ _ _ 5 [(0, .ref 185), (1, .int x)] [.int (bz (D_ex x mi))] (nx, u, mi) 0 0
  refine x_if_eq (tgt := 27) (q := 8) hC d_Mo_emit_5 (by decide) rfl (fun h5 => ?_) (fun h5 => ?_)
  · have h5 := bz_0 h5
    refine x_iconst (q := 28) (v := (-1)) hC d_Mo_emit_27 (by decide) rfl ?_
    exact x_iret hC rfl rfl ⟨sv (it_f (fun q => h5 q.1) rfl), pr (it_f (fun q => h5 q.1) rfl)⟩ (by decide) (by decide) d_Mo_emit_28
  · have h5 := bz_1 h5
    obtain ⟨ex, hx⟩ := hfl.f h5
    refine mx_eqG (L1 := [(0, .ref 185), (1, .int (nI (tn x)))]) (by rw [← ex]) rfl rfl ?_
    refine x_aload_n (q := 9) hC d_Mo_emit_8 rfl rfl rfl ?_
    refine x_aload_n (q := 10) hC d_Mo_emit_9 rfl rfl rfl ?_
    refine x_getr (q := 13) (p := 185) (j := 27) (r := 206) hC f_Mo_71 rfl rfl rfl (by omega) (hu _ _ (by decide)) d_Mo_emit_10 rfl ?_
    refine x_iload_n (q := 14) hC d_Mo_emit_13 rfl rfl rfl ?_
    refine x_iald (q := 15) (p := 206) hC (tn x) rfl (by omega) rfl (by omega) (by decide) d_Mo_emit_14 rfl ?_
    refine x_aload_n (q := 16) hC d_Mo_emit_15 rfl rfl rfl ?_
    refine x_getr (q := 19) (p := 185) (j := 28) (r := 207) hC f_Mo_74 rfl rfl rfl (by omega) (hu _ _ (by decide)) d_Mo_emit_16 rfl ?_
    refine x_iload_n (q := 20) hC d_Mo_emit_19 rfl rfl rfl ?_
    refine x_iald (q := 21) (p := 207) hC (tn x) rfl (by omega) rfl (by omega) (by decide) d_Mo_emit_20 rfl ?_
    refine x_callV (q := 24) (p := 185) (A := [.int (mi 206 (tn x)), .int (mi 207 (tn x))]) (S := []) (c1 := 0) (s1 := 0) hC (c_Mo_refused (s := mi 206 (tn x)) (g := mi 207 (tn x)) (by omega) hu) s_Mo_emit_164 rfl (by omega) rfl rfl rfl (Nat.le_of_ble_eq_true rfl) rfl rfl (by decide) (by decide) d_Mo_emit_21 rfl (fun r τ hP => ?_)
    obtain ⟨rfl, rfl⟩ := hP
    show mx_G Γ κ _ _ 24 [(0, .ref 185), (1, .int (nI (tn x)))] [.int (bz (Mo_rf (mi 206 (tn x)) (mi 207 (tn x)) mi))] (nx, u, mi) 0 0
    refine x_if_eq (tgt := 29) (q := 27) hC d_Mo_emit_24 (by decide) rfl (fun h24 => ?_) (fun h24 => ?_)
    · have h24 := bz_0 h24
      obtain ⟨e1, hs⟩ := hfl.s hx
      obtain ⟨e2, hg⟩ := hfl.g hx
      generalize hes : tn (mi 206 (tn x)) = s at e1 hs
      generalize heg : tn (mi 207 (tn x)) = g at e2 hg
      have hokT : Mo_ok r (Mo_tm (tn x) mi) := Mo_tm_ok hok
      have hT1 : (Mo_tm (tn x) mi) 206 (tn x) = nI s := (Mo_tm_at (by decide)).trans e1
      have hT2 : (Mo_tm (tn x) mi) 207 (tn x) = nI g := (Mo_tm_at (by decide)).trans e2
      refine x_aload_n (q := 30) hC d_Mo_emit_29 rfl rfl rfl ?_
      refine x_iload_n (q := 31) hC d_Mo_emit_30 rfl rfl rfl ?_
      refine x_callV (q := 34) (p := 185) (A := [.int (nI (tn x))]) (S := []) (c1 := 0) (s1 := 0) hC (c_Mo_take (f := tn x) (by omega) hu (by omega) ) s_Mo_emit_197 rfl (by omega) rfl rfl rfl (Nat.le_of_ble_eq_true rfl) rfl rfl (by decide) (by decide) d_Mo_emit_31 rfl (fun r τ hP => ?_)
      obtain ⟨rfl, rfl⟩ := hP
      show mx_G Γ κ _ _ 34 [(0, .ref 185), (1, .int (nI (tn x)))] [.int (Mo_tv (tn x) mi)] (nx, u, Mo_tm (tn x) mi) 0 0
      refine mx_nr (fun mT eT => ?_)
      rw [show Mo_tm (tn x) mi = mT from eT] at hokT hT1 hT2
      refine x_istore_n (q := 35) (L1 := [(2, .int (Mo_tv (tn x) mi)), (0, .ref 185), (1, .int (nI (tn x)))]) hC d_Mo_emit_34 rfl (by decide) rfl rfl ?_
      refine x_aload_n (q := 36) hC d_Mo_emit_35 rfl rfl rfl ?_
      refine x_aload_n (q := 37) hC d_Mo_emit_36 rfl rfl rfl ?_
      refine x_getr (q := 40) (p := 185) (j := 27) (r := 206) hC f_Mo_71 rfl rfl rfl (by omega) (hu _ _ (by decide)) d_Mo_emit_37 rfl ?_
      refine x_iload_n (q := 41) hC d_Mo_emit_40 rfl rfl rfl ?_
      refine x_iald (q := 42) (p := 206) hC (tn x) rfl (by omega) rfl (by omega) (by decide) d_Mo_emit_41 rfl ?_
      refine mx_eqG (S1 := [.int (nI s), .ref 185]) rfl (by exact congrArg (fun z => Value.int z :: ([.ref 185] : List Value)) (show mT 206 (tn x) = nI s from hT1)) rfl ?_
      refine x_iconst (q := 43) (v := nI 3) hC d_Mo_emit_42 (by decide) rfl ?_
      refine x_aload_n (q := 44) hC d_Mo_emit_43 rfl rfl rfl ?_
      refine x_getr (q := 47) (p := 185) (j := 27) (r := 206) hC f_Mo_71 rfl rfl rfl (by omega) (hu _ _ (by decide)) d_Mo_emit_44 rfl ?_
      refine x_iload_n (q := 48) hC d_Mo_emit_47 rfl rfl rfl ?_
      refine x_iald (q := 49) (p := 206) hC (tn x) rfl (by omega) rfl (by omega) (by decide) d_Mo_emit_48 rfl ?_
      refine mx_eqG (S1 := [.int (nI s), .int (nI 3), .int (nI s), .ref 185]) rfl (by exact congrArg (fun z => Value.int z :: ([.int (nI 3), .int (nI s), .ref 185] : List Value)) (show mT 206 (tn x) = nI s from hT1)) rfl ?_
      refine x_imul (q := 50) (z := nI (3 * s)) hC d_Mo_emit_49 (pk_mul _ _) rfl ?_
      refine x_aload_n (q := 51) hC d_Mo_emit_50 rfl rfl rfl ?_
      refine x_getr (q := 54) (p := 185) (j := 28) (r := 207) hC f_Mo_74 rfl rfl rfl (by omega) (hu _ _ (by decide)) d_Mo_emit_51 rfl ?_
      refine x_iload_n (q := 55) hC d_Mo_emit_54 rfl rfl rfl ?_
      refine x_iald (q := 56) (p := 207) hC (tn x) rfl (by omega) rfl (by omega) (by decide) d_Mo_emit_55 rfl ?_
      refine mx_eqG (S1 := [.int (nI g), .int (nI (3 * s)), .int (nI s), .ref 185]) rfl (by exact congrArg (fun z => Value.int z :: ([.int (nI (3 * s)), .int (nI s), .ref 185] : List Value)) (show mT 207 (tn x) = nI g from hT2)) rfl ?_
      refine x_iadd (q := 57) (z := nI ((3 * s) + g)) hC d_Mo_emit_56 (nI_add _ _) rfl ?_
      refine x_callV (q := 60) (p := 185) (A := [.int (nI s), .int (nI ((3 * s) + g))]) (S := []) (c1 := 0) (s1 := 0) hC (c_Mo_packet (r := r) (s := s) (st := (3 * s) + g) (by omega) hu (by omega) (by omega) hr hokT) s_Mo_emit_167 rfl (by omega) rfl rfl rfl (Nat.le_of_ble_eq_true rfl) rfl rfl (by decide) (by decide) d_Mo_emit_57 rfl (fun r τ hP => ?_)
      obtain ⟨rfl, rfl⟩ := hP
      show mx_G Γ κ _ _ 60 [(2, .int (Mo_tv (tn x) mi)), (0, .ref 185), (1, .int (nI (tn x)))] [.int (nI ((Mo_pk r s ((3 * s) + g) mT).1))] (nx, u, Mo_settle r (Mo_pk r s ((3 * s) + g) mT).2) 0 0
      refine mx_nr (fun mE eE => ?_)
      have eE' : D_em r (tn x) s g mT = mE := eE
      have hE2 : mE 207 (tn x) = nI g := by rw [← eE', D_em_at (by decide)]; exact hT2
      refine x_pop (q := 61) hC d_Mo_emit_60 rfl rfl ?_
      have J1 : mx_G Γ κ M_Mo_emit (MQ (mx_b κ) (mx_Qc Γ (fun ρ τ => ρ = some (.int (D_emitv x mi)) ∧ τ = (nx, u, D_emit r x mi))) (mx_a κ) (mx_s κ) M_Mo_emit.2.2.2.2.cells M_Mo_emit.2.2.2.2.slots (mx_fr Γ)) 79 [(3, .int (Mo_to (tn x) (Mo_tv (tn x) mi) mE)), (2, .int (Mo_tv (tn x) mi)), (0, .ref 185), (1, .int (nI (tn x)))] [] (nx, u, mE) 0 0 := by
        refine x_iconst (q := 80) (v := nI 0) hC d_Mo_emit_79 (by decide) rfl ?_
        refine x_istore (q := 82) (L1 := [(4, .int (nI 0)), (3, .int (Mo_to (tn x) (Mo_tv (tn x) mi) mE)), (2, .int (Mo_tv (tn x) mi)), (0, .ref 185), (1, .int (nI (tn x)))]) hC d_Mo_emit_80 (by decide) rfl rfl ?_
        refine x_sub (L1 := [(4, .int (nI 0)), (3, .int (Mo_to (tn x) (Mo_tv (tn x) mi) mE)), (2, .int (Mo_tv (tn x) mi)), (0, .ref 185), (1, .int (nI (tn x)))]) [0, 1, 2, 3, 4] rfl ?_
        refine mx_loop (N := 6) (Hd := fun l m2 => mx_G Γ κ _ _ 82 [(4, .int (nI l)), (3, .int (Mo_to (tn x) (Mo_tv (tn x) mi) mE)), (2, .int (Mo_tv (tn x) mi)), (0, .ref 185), (1, .int (nI (tn x)))] [] (nx, u, m2) 0 0) (Mo_d1 (tn x) g (Mo_tv (tn x) mi) (Mo_to (tn x) (Mo_tv (tn x) mi) mE)) (fun _ m => m 207 (tn x) = nI g) hE2 ?_ ?_ ?_
        · exact fun l m _ h => (Mo_d1_at (by decide)).trans h
        · intro l m2 hl3 hI4 hN5
          refine x_iload (q := 84) hC d_Mo_emit_82 rfl rfl ?_
          refine x_bipush (q := 86) (v := nI 6) hC d_Mo_emit_84 (by decide) rfl ?_
          refine x_icmp_ge (tgt := 199) (q := 89) hC d_Mo_emit_86 (by decide) rfl (fun h => absurd h (nI_ge hl3 (by decide))) (fun _ => ?_)
          refine x_bipush (q := 91) (v := nI 6) hC d_Mo_emit_89 (by decide) rfl ?_
          refine x_iload_n (q := 92) hC d_Mo_emit_91 rfl rfl rfl ?_
          refine x_imul (q := 93) (z := nI (6 * (tn x))) hC d_Mo_emit_92 (pk_mul _ _) rfl ?_
          refine x_iload (q := 95) hC d_Mo_emit_93 rfl rfl ?_
          refine x_iadd (q := 96) (z := nI ((6 * (tn x)) + l)) hC d_Mo_emit_95 (nI_add _ _) rfl ?_
          refine x_istore (q := 98) (L1 := [(5, .int (nI ((6 * (tn x)) + l))), (4, .int (nI l)), (3, .int (Mo_to (tn x) (Mo_tv (tn x) mi) mE)), (2, .int (Mo_tv (tn x) mi)), (0, .ref 185), (1, .int (nI (tn x)))]) hC d_Mo_emit_96 (by decide) rfl rfl ?_
          refine x_aload_n (q := 99) hC d_Mo_emit_98 rfl rfl rfl ?_
          refine x_geti (q := 102) (p := 185) (j := 22) hC f_Mo_179 rfl rfl (by omega) d_Mo_emit_99 rfl ?_
          refine x_iload (q := 104) hC d_Mo_emit_102 rfl rfl ?_
          refine x_ishr (q := 105) (z := (m2 185 22) >>> ((nI l) &&& 31)) hC d_Mo_emit_104 rfl rfl ?_
          refine x_iconst (q := 106) (v := nI 1) hC d_Mo_emit_105 (by decide) rfl ?_
          refine x_iand (q := 107) (z := ((m2 185 22) >>> ((nI l) &&& 31)) &&& (nI 1)) hC d_Mo_emit_106 rfl rfl ?_
          refine x_iconst (q := 108) (v := nI 1) hC d_Mo_emit_107 (by decide) rfl ?_
          refine x_icmp_ne (tgt := 193) (q := 111) hC d_Mo_emit_108 (by decide) rfl (fun h108 => ?_) (fun h108 => ?_)
          · skip
            refine x_iinc (q := 196) (y := nI (l + 1)) (L1 := [(4, .int (nI (l + 1))), (5, .int (nI ((6 * (tn x)) + l))), (3, .int (Mo_to (tn x) (Mo_tv (tn x) mi) mE)), (2, .int (Mo_tv (tn x) mi)), (0, .ref 185), (1, .int (nI (tn x)))]) hC d_Mo_emit_193 rfl (mx_inc l) (by decide) rfl rfl ?_
            refine x_goto (tgt := 82) hC d_Mo_emit_196 (by decide) ?_
            exact x_close hN5 [0, 2, 3, 4, 5] rfl (by exact it_f (fun z => h108 z.1) rfl)
          · skip
            refine x_aload_n (q := 112) hC d_Mo_emit_111 rfl rfl rfl ?_
            refine x_iload (q := 114) hC d_Mo_emit_112 rfl rfl ?_
            refine x_aload_n (q := 115) hC d_Mo_emit_114 rfl rfl rfl ?_
            refine x_getr (q := 118) (p := 185) (j := 28) (r := 207) hC f_Mo_74 rfl rfl rfl (by omega) (hu _ _ (by decide)) d_Mo_emit_115 rfl ?_
            refine x_iload_n (q := 119) hC d_Mo_emit_118 rfl rfl rfl ?_
            refine x_iald (q := 120) (p := 207) hC (tn x) rfl (by omega) rfl (by omega) (by decide) d_Mo_emit_119 rfl ?_
            refine mx_eqG (S1 := [.int (nI g), .int (nI l), .ref 185]) rfl (by exact congrArg (fun z => Value.int z :: ([.int (nI l), .ref 185] : List Value)) (show m2 207 (tn x) = nI g from hI4)) rfl ?_
            refine x_callV (q := 123) (p := 185) (A := [.int (nI l), .int (nI g)]) (S := []) (c1 := 0) (s1 := 0) hC (c_Mo_lowest (l := l) (g := g) (by omega) hu (by omega) (by omega) ) s_Mo_emit_126 rfl (by omega) rfl rfl rfl (Nat.le_of_ble_eq_true rfl) rfl rfl (by decide) (by decide) d_Mo_emit_120 rfl (fun r τ hP => ?_)
            obtain ⟨rfl, rfl⟩ := hP
            show mx_G Γ κ _ _ 123 [(5, .int (nI ((6 * (tn x)) + l))), (4, .int (nI l)), (3, .int (Mo_to (tn x) (Mo_tv (tn x) mi) mE)), (2, .int (Mo_tv (tn x) mi)), (0, .ref 185), (1, .int (nI (tn x)))] [.int (Mo_low l g m2)] (nx, u, m2) 0 0
            refine x_if_lt (tgt := 193) (q := 126) hC d_Mo_emit_123 (by decide) rfl (fun h123 => ?_) (fun h123 => ?_)
            · skip
              refine x_iinc (q := 196) (y := nI (l + 1)) (L1 := [(4, .int (nI (l + 1))), (5, .int (nI ((6 * (tn x)) + l))), (3, .int (Mo_to (tn x) (Mo_tv (tn x) mi) mE)), (2, .int (Mo_tv (tn x) mi)), (0, .ref 185), (1, .int (nI (tn x)))]) hC d_Mo_emit_193 rfl (mx_inc l) (by decide) rfl rfl ?_
              refine x_goto (tgt := 82) hC d_Mo_emit_196 (by decide) ?_
              exact x_close hN5 [0, 2, 3, 4, 5] rfl (by exact it_f (fun z => z.2 h123) rfl)
            · skip
              refine x_aload_n (q := 127) hC d_Mo_emit_126 rfl rfl rfl ?_
              refine x_getr (q := 130) (p := 185) (j := 32) (r := 211) hC f_Mo_86 rfl rfl rfl (by omega) (hu _ _ (by decide)) d_Mo_emit_127 rfl ?_
              refine x_iload (q := 132) hC d_Mo_emit_130 rfl rfl ?_
              refine x_iload_n (q := 133) hC d_Mo_emit_132 rfl rfl rfl ?_
              refine x_aload_n (q := 134) hC d_Mo_emit_133 rfl rfl rfl ?_
              refine x_getr (q := 137) (p := 185) (j := 29) (r := 208) hC f_Mo_77 rfl rfl rfl (by omega) (hu _ _ (by decide)) d_Mo_emit_134 rfl ?_
              refine x_iload_n (q := 138) hC d_Mo_emit_137 rfl rfl rfl ?_
              refine x_iald (q := 139) (p := 208) hC (tn x) rfl (by omega) rfl (by omega) (by decide) d_Mo_emit_138 rfl ?_
              refine x_icmp_ge (tgt := 156) (q := 142) hC d_Mo_emit_139 (by decide) rfl (fun h139 => ?_) (fun h139 => ?_)
              · skip
                refine x_aload_n (q := 157) hC d_Mo_emit_156 rfl rfl rfl ?_
                refine x_getr (q := 160) (p := 185) (j := 32) (r := 211) hC f_Mo_86 rfl rfl rfl (by omega) (hu _ _ (by decide)) d_Mo_emit_157 rfl ?_
                refine x_iload (q := 162) hC d_Mo_emit_160 rfl rfl ?_
                refine x_iald (q := 163) (p := 211) hC ((6 * (tn x)) + l) rfl (by omega) rfl (by omega) (by decide) d_Mo_emit_162 rfl ?_
                refine x_iast (q := 164) (p := 211) hC ((6 * (tn x)) + l) rfl (by omega) (by omega) rfl (by omega) (by decide) d_Mo_emit_163 rfl ?_
                refine x_aload_n (q := 165) hC d_Mo_emit_164 rfl rfl rfl ?_
                refine x_getr (q := 168) (p := 185) (j := 33) (r := 212) hC f_Mo_89 rfl rfl rfl (by omega) (hu _ _ (by decide)) d_Mo_emit_165 rfl ?_
                refine x_iload (q := 170) hC d_Mo_emit_168 rfl rfl ?_
                refine x_iload_n (q := 171) hC d_Mo_emit_170 rfl rfl rfl ?_
                refine x_aload_n (q := 172) hC d_Mo_emit_171 rfl rfl rfl ?_
                refine x_getr (q := 175) (p := 185) (j := 33) (r := 212) hC f_Mo_89 rfl rfl rfl (by omega) (hu _ _ (by decide)) d_Mo_emit_172 rfl ?_
                refine x_iload (q := 177) hC d_Mo_emit_175 rfl rfl ?_
                refine x_iald (q := 178) (p := 212) hC ((6 * (tn x)) + l) rfl (by omega) rfl (by omega) (by decide) d_Mo_emit_177 rfl ?_
                refine x_icmp_le (tgt := 185) (q := 181) hC d_Mo_emit_178 (by decide) rfl (fun h178 => ?_) (fun h178 => ?_)
                · skip
                  refine x_aload_n (q := 186) hC d_Mo_emit_185 rfl rfl rfl ?_
                  refine x_getr (q := 189) (p := 185) (j := 33) (r := 212) hC f_Mo_89 rfl rfl rfl (by omega) (hu _ _ (by decide)) d_Mo_emit_186 rfl ?_
                  refine x_iload (q := 191) hC d_Mo_emit_189 rfl rfl ?_
                  refine x_iald (q := 192) (p := 212) hC ((6 * (tn x)) + l) rfl (by omega) rfl (by omega) (by decide) d_Mo_emit_191 rfl ?_
                  refine x_iast (q := 193) (p := 212) hC ((6 * (tn x)) + l) rfl (by omega) (by omega) rfl (by omega) (by decide) d_Mo_emit_192 rfl ?_
                  refine x_iinc (q := 196) (y := nI (l + 1)) (L1 := [(4, .int (nI (l + 1))), (5, .int (nI ((6 * (tn x)) + l))), (3, .int (Mo_to (tn x) (Mo_tv (tn x) mi) mE)), (2, .int (Mo_tv (tn x) mi)), (0, .ref 185), (1, .int (nI (tn x)))]) hC d_Mo_emit_193 rfl (mx_inc l) (by decide) rfl rfl ?_
                  refine x_goto (tgt := 82) hC d_Mo_emit_196 (by decide) ?_
                  exact x_close hN5 [0, 2, 3, 4, 5] rfl (by refine it_t (And.intro h108 h123) ?_; exact Mo_d_eq (it_f (Int32.not_lt.mpr h139) rfl) (it_t h178 rfl))
                · skip
                  refine x_iload_n (q := 182) hC d_Mo_emit_181 rfl rfl rfl ?_
                  refine x_goto (tgt := 192) hC d_Mo_emit_182 (by decide) ?_
                  refine x_iast (q := 193) (p := 212) hC ((6 * (tn x)) + l) rfl (by omega) (by omega) rfl (by omega) (by decide) d_Mo_emit_192 rfl ?_
                  refine x_iinc (q := 196) (y := nI (l + 1)) (L1 := [(4, .int (nI (l + 1))), (5, .int (nI ((6 * (tn x)) + l))), (3, .int (Mo_to (tn x) (Mo_tv (tn x) mi) mE)), (2, .int (Mo_tv (tn x) mi)), (0, .ref 185), (1, .int (nI (tn x)))]) hC d_Mo_emit_193 rfl (mx_inc l) (by decide) rfl rfl ?_
                  refine x_goto (tgt := 82) hC d_Mo_emit_196 (by decide) ?_
                  exact x_close hN5 [0, 2, 3, 4, 5] rfl (by refine it_t (And.intro h108 h123) ?_; exact Mo_d_eq (it_f (Int32.not_lt.mpr h139) rfl) (it_f h178 rfl))
              · skip
                refine x_aload_n (q := 143) hC d_Mo_emit_142 rfl rfl rfl ?_
                refine x_getr (q := 146) (p := 185) (j := 32) (r := 211) hC f_Mo_86 rfl rfl rfl (by omega) (hu _ _ (by decide)) d_Mo_emit_143 rfl ?_
                refine x_iload (q := 148) hC d_Mo_emit_146 rfl rfl ?_
                refine x_iald (q := 149) (p := 211) hC ((6 * (tn x)) + l) rfl (by omega) rfl (by omega) (by decide) d_Mo_emit_148 rfl ?_
                refine x_iconst (q := 150) (v := nI 1) hC d_Mo_emit_149 (by decide) rfl ?_
                refine x_iload_n (q := 151) hC d_Mo_emit_150 rfl rfl rfl ?_
                refine x_ishl (q := 152) (z := (nI 1) <<< ((Mo_tv (tn x) mi) &&& 31)) hC d_Mo_emit_151 rfl rfl ?_
                refine x_ior (q := 153) (z := (m2 211 ((6 * (tn x)) + l)) ||| ((nI 1) <<< ((Mo_tv (tn x) mi) &&& 31))) hC d_Mo_emit_152 rfl rfl ?_
                refine x_goto (tgt := 163) hC d_Mo_emit_153 (by decide) ?_
                refine x_iast (q := 164) (p := 211) hC ((6 * (tn x)) + l) rfl (by omega) (by omega) rfl (by omega) (by decide) d_Mo_emit_163 rfl ?_
                refine x_aload_n (q := 165) hC d_Mo_emit_164 rfl rfl rfl ?_
                refine x_getr (q := 168) (p := 185) (j := 33) (r := 212) hC f_Mo_89 rfl rfl rfl (by omega) (hu _ _ (by decide)) d_Mo_emit_165 rfl ?_
                refine x_iload (q := 170) hC d_Mo_emit_168 rfl rfl ?_
                refine x_iload_n (q := 171) hC d_Mo_emit_170 rfl rfl rfl ?_
                refine x_aload_n (q := 172) hC d_Mo_emit_171 rfl rfl rfl ?_
                refine x_getr (q := 175) (p := 185) (j := 33) (r := 212) hC f_Mo_89 rfl rfl rfl (by omega) (hu _ _ (by decide)) d_Mo_emit_172 rfl ?_
                refine x_iload (q := 177) hC d_Mo_emit_175 rfl rfl ?_
                refine x_iald (q := 178) (p := 212) hC ((6 * (tn x)) + l) rfl (by omega) rfl (by omega) (by decide) d_Mo_emit_177 rfl ?_
                refine x_icmp_le (tgt := 185) (q := 181) hC d_Mo_emit_178 (by decide) rfl (fun h178 => ?_) (fun h178 => ?_)
                · skip
                  refine x_aload_n (q := 186) hC d_Mo_emit_185 rfl rfl rfl ?_
                  refine x_getr (q := 189) (p := 185) (j := 33) (r := 212) hC f_Mo_89 rfl rfl rfl (by omega) (hu _ _ (by decide)) d_Mo_emit_186 rfl ?_
                  refine x_iload (q := 191) hC d_Mo_emit_189 rfl rfl ?_
                  refine x_iald (q := 192) (p := 212) hC ((6 * (tn x)) + l) rfl (by omega) rfl (by omega) (by decide) d_Mo_emit_191 rfl ?_
                  refine x_iast (q := 193) (p := 212) hC ((6 * (tn x)) + l) rfl (by omega) (by omega) rfl (by omega) (by decide) d_Mo_emit_192 rfl ?_
                  refine x_iinc (q := 196) (y := nI (l + 1)) (L1 := [(4, .int (nI (l + 1))), (5, .int (nI ((6 * (tn x)) + l))), (3, .int (Mo_to (tn x) (Mo_tv (tn x) mi) mE)), (2, .int (Mo_tv (tn x) mi)), (0, .ref 185), (1, .int (nI (tn x)))]) hC d_Mo_emit_193 rfl (mx_inc l) (by decide) rfl rfl ?_
                  refine x_goto (tgt := 82) hC d_Mo_emit_196 (by decide) ?_
                  exact x_close hN5 [0, 2, 3, 4, 5] rfl (by refine it_t (And.intro h108 h123) ?_; exact Mo_d_eq (it_t (Int32.not_le.mp h139) rfl) (it_t h178 rfl))
                · skip
                  refine x_iload_n (q := 182) hC d_Mo_emit_181 rfl rfl rfl ?_
                  refine x_goto (tgt := 192) hC d_Mo_emit_182 (by decide) ?_
                  refine x_iast (q := 193) (p := 212) hC ((6 * (tn x)) + l) rfl (by omega) (by omega) rfl (by omega) (by decide) d_Mo_emit_192 rfl ?_
                  refine x_iinc (q := 196) (y := nI (l + 1)) (L1 := [(4, .int (nI (l + 1))), (5, .int (nI ((6 * (tn x)) + l))), (3, .int (Mo_to (tn x) (Mo_tv (tn x) mi) mE)), (2, .int (Mo_tv (tn x) mi)), (0, .ref 185), (1, .int (nI (tn x)))]) hC d_Mo_emit_193 rfl (mx_inc l) (by decide) rfl rfl ?_
                  refine x_goto (tgt := 82) hC d_Mo_emit_196 (by decide) ?_
                  exact x_close hN5 [0, 2, 3, 4, 5] rfl (by refine it_t (And.intro h108 h123) ?_; exact Mo_d_eq (it_t (Int32.not_le.mp h139) rfl) (it_f h178 rfl))
        · intro hx6
          refine mx_nr (fun m7 e8 => ?_)
          try rw [e8] at hx6
          refine x_iload (q := 84) hC d_Mo_emit_82 rfl rfl ?_
          refine x_bipush (q := 86) (v := nI 6) hC d_Mo_emit_84 (by decide) rfl ?_
          refine x_icmp_ge (tgt := 199) (q := 89) hC d_Mo_emit_86 (by decide) rfl (fun _ => ?_) (fun h => absurd (nI_le (Nat.le_refl _) (by decide)) h)
          refine x_iload_n (q := 200) hC d_Mo_emit_199 rfl rfl rfl ?_
          subst e8
          subst eE
          subst eT
          exact x_iret hC rfl rfl ⟨sv (it_t (And.intro h5 h24) rfl), pr (it_t (And.intro h5 h24) (by rw [hes, heg] <;> rfl))⟩ (by decide) (by decide) d_Mo_emit_200
      refine x_iload_n (q := 62) hC d_Mo_emit_61 rfl rfl rfl ?_
      refine x_aload_n (q := 63) hC d_Mo_emit_62 rfl rfl rfl ?_
      refine x_getr (q := 66) (p := 185) (j := 29) (r := 208) hC f_Mo_77 rfl rfl rfl (by omega) (hu _ _ (by decide)) d_Mo_emit_63 rfl ?_
      refine x_iload_n (q := 67) hC d_Mo_emit_66 rfl rfl rfl ?_
      refine x_iald (q := 68) (p := 208) hC (tn x) rfl (by omega) rfl (by omega) (by decide) d_Mo_emit_67 rfl ?_
      refine x_icmp_ge (tgt := 77) (q := 71) hC d_Mo_emit_68 (by decide) rfl (fun h68 => ?_) (fun h68 => ?_)
      · skip
        refine x_iload_n (q := 78) hC d_Mo_emit_77 rfl rfl rfl ?_
        refine x_istore_n (q := 79) (L1 := [(3, .int (Mo_tv (tn x) mi)), (2, .int (Mo_tv (tn x) mi)), (0, .ref 185), (1, .int (nI (tn x)))]) hC d_Mo_emit_78 rfl (by decide) rfl rfl ?_
        exact x_sub (L1 := [(3, .int (Mo_tv (tn x) mi)), (2, .int (Mo_tv (tn x) mi)), (0, .ref 185), (1, .int (nI (tn x)))]) [0, 1, 2, 3] rfl (mx_eqG (by subst eE; subst eT; rw [Mo_to, if_neg (Int32.not_lt.mpr h68)]) rfl rfl J1)
      · skip
        refine x_iload_n (q := 72) hC d_Mo_emit_71 rfl rfl rfl ?_
        refine x_iconst (q := 73) (v := nI 1) hC d_Mo_emit_72 (by decide) rfl ?_
        refine x_iadd (q := 74) (z := (Mo_tv (tn x) mi) + (nI 1)) hC d_Mo_emit_73 rfl rfl ?_
        refine x_goto (tgt := 78) hC d_Mo_emit_74 (by decide) ?_
        refine x_istore_n (q := 79) (L1 := [(3, .int ((Mo_tv (tn x) mi) + (nI 1))), (2, .int (Mo_tv (tn x) mi)), (0, .ref 185), (1, .int (nI (tn x)))]) hC d_Mo_emit_78 rfl (by decide) rfl rfl ?_
        exact x_sub (L1 := [(3, .int ((Mo_tv (tn x) mi) + (nI 1))), (2, .int (Mo_tv (tn x) mi)), (0, .ref 185), (1, .int (nI (tn x)))]) [0, 1, 2, 3] rfl (mx_eqG (by subst eE; subst eT; rw [Mo_to, if_pos (Int32.not_le.mp h68)]) rfl rfl J1)
    · have h24 := bz_1 h24
      refine x_iconst (q := 28) (v := (-1)) hC d_Mo_emit_27 (by decide) rfl ?_
      exact x_iret hC rfl rfl ⟨sv (it_f (fun q => q.2 h24) rfl), pr (it_f (fun q => q.2 h24) rfl)⟩ (by decide) (by decide) d_Mo_emit_28
set_option maxRecDepth 100000 in
set_option maxHeartbeats 400000 in
theorem c_Mo_requests {Γ : mx_X} {lau : Launch} {nx : Nat} {u : Nat → Nat → Bool} {mi : mx_Mm} {x : Int32} (hnx : 214 ≤ nx) (hu : ∀ p k, 2 ≤ p → u p k = true) (hfl : Ml_ok mi) : mx_C Γ lau M_Mo_requests [.ref 185, .int x] (nx, u, mi) (fun ρ τ => ρ = some (.int (D_reqv x mi)) ∧ τ = (nx, u, D_req x mi)) := by
  refine mx_C.intro (by decide) rfl (Nat.le_of_ble_eq_true rfl) (fun κ _ hC => ?_)
  show mx_G Γ κ _ _ 0 [(0, .ref 185), (1, .int x)] [] (nx, u, mi) 0 0
  refine x_aload_n (q := 1) hC d_Mo_requests_0 rfl rfl rfl ?_
  refine x_iload_n (q := 2) hC d_Mo_requests_1 rfl rfl rfl ?_
  refine x_callV (q := 5) (p := 185) (A := [.int x]) (S := []) (c1 := 0) (s1 := 0) hC (c_Mo_isFile (x := x) (by omega) hu  ) s_Mo_requests_194 rfl (by omega) rfl rfl rfl (Nat.le_of_ble_eq_true rfl) rfl rfl (by decide) (by decide) d_Mo_requests_2 rfl (fun r τ hP => ?_)
  obtain ⟨rfl, rfl⟩ := hP
  show mx_G Γ κ _ _ 5 [(0, .ref 185), (1, .int x)] [.int (bz (D_ex x mi))] (nx, u, mi) 0 0
  refine x_if_ne (tgt := 10) (q := 8) hC d_Mo_requests_5 (by decide) rfl (fun h5 => ?_) (fun h5 => ?_)
  · have h5 := bz_1 h5
    obtain ⟨ex, hx⟩ := hfl.f h5
    refine mx_eqG (L1 := [(0, .ref 185), (1, .int (nI (tn x)))]) (by rw [← ex]) rfl rfl ?_
    obtain ⟨e1, hs⟩ := hfl.s hx
    obtain ⟨e2, hg⟩ := hfl.g hx
    generalize hes : tn (mi 206 (tn x)) = s at e1 hs
    generalize heg : tn (mi 207 (tn x)) = g at e2 hg
    refine x_iconst (q := 11) (v := nI 0) hC d_Mo_requests_10 (by decide) rfl ?_
    refine x_istore_n (q := 12) (L1 := [(2, .int (nI 0)), (0, .ref 185), (1, .int (nI (tn x)))]) hC d_Mo_requests_11 rfl (by decide) rfl rfl ?_
    refine x_sub (L1 := [(2, .int (nI 0)), (0, .ref 185), (1, .int (nI (tn x)))]) [0, 1, 2] rfl ?_
    refine mx_loop (N := 6) (Hd := fun l m1 => mx_G Γ κ _ _ 12 [(2, .int (nI l)), (0, .ref 185), (1, .int (nI (tn x)))] [] (nx, u, m1) 0 0) (Mo_w5 (tn x) s g) (fun _ m => m 206 (tn x) = nI s ∧ m 207 (tn x) = nI g) ⟨e1, e2⟩ ?_ ?_ ?_
    · exact fun l m _ h => ⟨(Mo_w5_at (by decide)).trans h.1, (Mo_w5_at (by decide)).trans h.2⟩
    · intro l m1 hl2 hI3 hN4
      refine x_iload_n (q := 13) hC d_Mo_requests_12 rfl rfl rfl ?_
      refine x_bipush (q := 15) (v := nI 6) hC d_Mo_requests_13 (by decide) rfl ?_
      refine x_icmp_ge (tgt := 117) (q := 18) hC d_Mo_requests_15 (by decide) rfl (fun h => absurd h (nI_ge hl2 (by decide))) (fun _ => ?_)
      refine x_aload_n (q := 19) hC d_Mo_requests_18 rfl rfl rfl ?_
      refine x_getr (q := 22) (p := 185) (j := 3) (r := 187) hC f_Mo_13 rfl rfl rfl (by omega) (hu _ _ (by decide)) d_Mo_requests_19 rfl ?_
      refine x_bipush (q := 24) (v := nI 6) hC d_Mo_requests_22 (by decide) rfl ?_
      refine x_aload_n (q := 25) hC d_Mo_requests_24 rfl rfl rfl ?_
      refine x_getr (q := 28) (p := 185) (j := 27) (r := 206) hC f_Mo_71 rfl rfl rfl (by omega) (hu _ _ (by decide)) d_Mo_requests_25 rfl ?_
      refine x_iload_n (q := 29) hC d_Mo_requests_28 rfl rfl rfl ?_
      refine x_iald (q := 30) (p := 206) hC (tn x) rfl (by omega) rfl (by omega) (by decide) d_Mo_requests_29 rfl ?_
      refine mx_eqG (S1 := [.int (nI s), .int (nI 6), .ref 187]) rfl (by exact congrArg (fun z => Value.int z :: ([.int (nI 6), .ref 187] : List Value)) (show m1 206 (tn x) = nI s from hI3.1)) rfl ?_
      refine x_imul (q := 31) (z := nI (6 * s)) hC d_Mo_requests_30 (pk_mul _ _) rfl ?_
      refine x_iload_n (q := 32) hC d_Mo_requests_31 rfl rfl rfl ?_
      refine x_iadd (q := 33) (z := nI ((6 * s) + l)) hC d_Mo_requests_32 (nI_add _ _) rfl ?_
      refine x_iald (q := 34) (p := 187) hC ((6 * s) + l) rfl (by omega) rfl (by omega) (by decide) d_Mo_requests_33 rfl ?_
      refine x_sipush (q := 37) (v := nI 1000) hC d_Mo_requests_34 (by decide) rfl ?_
      refine x_icmp_ge (tgt := 67) (q := 40) hC d_Mo_requests_37 (by decide) rfl (fun h37 => ?_) (fun h37 => ?_)
      · skip
        refine x_iconst (q := 68) (v := nI 0) hC d_Mo_requests_67 (by decide) rfl ?_
        refine x_istore_n (q := 69) (L1 := [(3, .int (nI 0)), (2, .int (nI l)), (0, .ref 185), (1, .int (nI (tn x)))]) hC d_Mo_requests_68 rfl (by decide) rfl rfl ?_
        refine x_aload_n (q := 70) hC d_Mo_requests_69 rfl rfl rfl ?_
        refine x_getr (q := 73) (p := 185) (j := 35) (r := 213) hC f_Mo_96 rfl rfl rfl (by omega) (hu _ _ (by decide)) d_Mo_requests_70 rfl ?_
        refine x_iload_n (q := 74) hC d_Mo_requests_73 rfl rfl rfl ?_
        refine x_iconst (q := 75) (v := (-1)) hC d_Mo_requests_74 (by decide) rfl ?_
        refine x_iast (q := 76) (p := 213) hC l rfl (by omega) (by omega) rfl (by omega) (by decide) d_Mo_requests_75 rfl ?_
        refine x_iload_n (q := 77) hC d_Mo_requests_76 rfl rfl rfl ?_
        refine x_if_eq (tgt := 111) (q := 80) hC d_Mo_requests_77 (by decide) rfl (fun _ => ?_) (fun h => absurd (by decide) h)
        refine x_iinc (q := 114) (y := nI (l + 1)) (L1 := [(2, .int (nI (l + 1))), (3, .int (nI 0)), (0, .ref 185), (1, .int (nI (tn x)))]) hC d_Mo_requests_111 rfl (mx_inc l) (by decide) rfl rfl ?_
        refine x_goto (tgt := 12) hC d_Mo_requests_114 (by decide) ?_
        exact x_close hN4 [0, 2, 3] rfl (by exact it_f (fun z => z.1 h37) rfl)
      · skip
        refine x_aload_n (q := 41) hC d_Mo_requests_40 rfl rfl rfl ?_
        refine x_iload_n (q := 42) hC d_Mo_requests_41 rfl rfl rfl ?_
        refine x_aload_n (q := 43) hC d_Mo_requests_42 rfl rfl rfl ?_
        refine x_getr (q := 46) (p := 185) (j := 28) (r := 207) hC f_Mo_74 rfl rfl rfl (by omega) (hu _ _ (by decide)) d_Mo_requests_43 rfl ?_
        refine x_iload_n (q := 47) hC d_Mo_requests_46 rfl rfl rfl ?_
        refine x_iald (q := 48) (p := 207) hC (tn x) rfl (by omega) rfl (by omega) (by decide) d_Mo_requests_47 rfl ?_
        refine mx_eqG (S1 := [.int (nI g), .int (nI l), .ref 185]) rfl (by exact congrArg (fun z => Value.int z :: ([.int (nI l), .ref 185] : List Value)) (show m1 207 (tn x) = nI g from hI3.2)) rfl ?_
        refine x_callV (q := 51) (p := 185) (A := [.int (nI l), .int (nI g)]) (S := []) (c1 := 0) (s1 := 0) hC (c_Mo_lowest (l := l) (g := g) (by omega) hu (by omega) (by omega) ) s_Mo_requests_126 rfl (by omega) rfl rfl rfl (Nat.le_of_ble_eq_true rfl) rfl rfl (by decide) (by decide) d_Mo_requests_48 rfl (fun r τ hP => ?_)
        obtain ⟨rfl, rfl⟩ := hP
        show mx_G Γ κ _ _ 51 [(2, .int (nI l)), (0, .ref 185), (1, .int (nI (tn x)))] [.int (Mo_low l g m1)] (nx, u, m1) 0 0
        refine x_if_lt (tgt := 67) (q := 54) hC d_Mo_requests_51 (by decide) rfl (fun h51 => ?_) (fun h51 => ?_)
        · skip
          refine x_iconst (q := 68) (v := nI 0) hC d_Mo_requests_67 (by decide) rfl ?_
          refine x_istore_n (q := 69) (L1 := [(3, .int (nI 0)), (2, .int (nI l)), (0, .ref 185), (1, .int (nI (tn x)))]) hC d_Mo_requests_68 rfl (by decide) rfl rfl ?_
          refine x_aload_n (q := 70) hC d_Mo_requests_69 rfl rfl rfl ?_
          refine x_getr (q := 73) (p := 185) (j := 35) (r := 213) hC f_Mo_96 rfl rfl rfl (by omega) (hu _ _ (by decide)) d_Mo_requests_70 rfl ?_
          refine x_iload_n (q := 74) hC d_Mo_requests_73 rfl rfl rfl ?_
          refine x_iconst (q := 75) (v := (-1)) hC d_Mo_requests_74 (by decide) rfl ?_
          refine x_iast (q := 76) (p := 213) hC l rfl (by omega) (by omega) rfl (by omega) (by decide) d_Mo_requests_75 rfl ?_
          refine x_iload_n (q := 77) hC d_Mo_requests_76 rfl rfl rfl ?_
          refine x_if_eq (tgt := 111) (q := 80) hC d_Mo_requests_77 (by decide) rfl (fun _ => ?_) (fun h => absurd (by decide) h)
          refine x_iinc (q := 114) (y := nI (l + 1)) (L1 := [(2, .int (nI (l + 1))), (3, .int (nI 0)), (0, .ref 185), (1, .int (nI (tn x)))]) hC d_Mo_requests_111 rfl (mx_inc l) (by decide) rfl rfl ?_
          refine x_goto (tgt := 12) hC d_Mo_requests_114 (by decide) ?_
          exact x_close hN4 [0, 2, 3] rfl (by exact it_f (fun z => z.2.1 h51) rfl)
        · skip
          refine x_aload_n (q := 55) hC d_Mo_requests_54 rfl rfl rfl ?_
          refine x_iload_n (q := 56) hC d_Mo_requests_55 rfl rfl rfl ?_
          refine x_iload_n (q := 57) hC d_Mo_requests_56 rfl rfl rfl ?_
          refine x_callV (q := 60) (p := 185) (A := [.int (nI (tn x)), .int (nI l)]) (S := []) (c1 := 0) (s1 := 0) hC (c_Mo_missing (f := tn x) (l := l) (by omega) hu (by omega) (by omega) ) s_Mo_requests_201 rfl (by omega) rfl rfl rfl (Nat.le_of_ble_eq_true rfl) rfl rfl (by decide) (by decide) d_Mo_requests_57 rfl (fun r τ hP => ?_)
          obtain ⟨rfl, rfl⟩ := hP
          show mx_G Γ κ _ _ 60 [(2, .int (nI l)), (0, .ref 185), (1, .int (nI (tn x)))] [.int (Mo_mis (tn x) l m1)] (nx, u, m1) 0 0
          refine x_if_eq (tgt := 67) (q := 63) hC d_Mo_requests_60 (by decide) rfl (fun h60 => ?_) (fun h60 => ?_)
          · skip
            refine x_iconst (q := 68) (v := nI 0) hC d_Mo_requests_67 (by decide) rfl ?_
            refine x_istore_n (q := 69) (L1 := [(3, .int (nI 0)), (2, .int (nI l)), (0, .ref 185), (1, .int (nI (tn x)))]) hC d_Mo_requests_68 rfl (by decide) rfl rfl ?_
            refine x_aload_n (q := 70) hC d_Mo_requests_69 rfl rfl rfl ?_
            refine x_getr (q := 73) (p := 185) (j := 35) (r := 213) hC f_Mo_96 rfl rfl rfl (by omega) (hu _ _ (by decide)) d_Mo_requests_70 rfl ?_
            refine x_iload_n (q := 74) hC d_Mo_requests_73 rfl rfl rfl ?_
            refine x_iconst (q := 75) (v := (-1)) hC d_Mo_requests_74 (by decide) rfl ?_
            refine x_iast (q := 76) (p := 213) hC l rfl (by omega) (by omega) rfl (by omega) (by decide) d_Mo_requests_75 rfl ?_
            refine x_iload_n (q := 77) hC d_Mo_requests_76 rfl rfl rfl ?_
            refine x_if_eq (tgt := 111) (q := 80) hC d_Mo_requests_77 (by decide) rfl (fun _ => ?_) (fun h => absurd (by decide) h)
            refine x_iinc (q := 114) (y := nI (l + 1)) (L1 := [(2, .int (nI (l + 1))), (3, .int (nI 0)), (0, .ref 185), (1, .int (nI (tn x)))]) hC d_Mo_requests_111 rfl (mx_inc l) (by decide) rfl rfl ?_
            refine x_goto (tgt := 12) hC d_Mo_requests_114 (by decide) ?_
            exact x_close hN4 [0, 2, 3] rfl (by exact it_f (fun z => z.2.2 h60) rfl)
          · skip
            refine x_iconst (q := 64) (v := nI 1) hC d_Mo_requests_63 (by decide) rfl ?_
            refine x_goto (tgt := 68) hC d_Mo_requests_64 (by decide) ?_
            refine x_istore_n (q := 69) (L1 := [(3, .int (nI 1)), (2, .int (nI l)), (0, .ref 185), (1, .int (nI (tn x)))]) hC d_Mo_requests_68 rfl (by decide) rfl rfl ?_
            refine x_aload_n (q := 70) hC d_Mo_requests_69 rfl rfl rfl ?_
            refine x_getr (q := 73) (p := 185) (j := 35) (r := 213) hC f_Mo_96 rfl rfl rfl (by omega) (hu _ _ (by decide)) d_Mo_requests_70 rfl ?_
            refine x_iload_n (q := 74) hC d_Mo_requests_73 rfl rfl rfl ?_
            refine x_iconst (q := 75) (v := (-1)) hC d_Mo_requests_74 (by decide) rfl ?_
            refine x_iast (q := 76) (p := 213) hC l rfl (by omega) (by omega) rfl (by omega) (by decide) d_Mo_requests_75 rfl ?_
            refine x_iload_n (q := 77) hC d_Mo_requests_76 rfl rfl rfl ?_
            refine x_if_eq (tgt := 111) (q := 80) hC d_Mo_requests_77 (by decide) rfl (fun h => absurd h (by decide)) (fun _ => ?_)
            refine x_aload_n (q := 81) hC d_Mo_requests_80 rfl rfl rfl ?_
            refine x_aload_n (q := 82) hC d_Mo_requests_81 rfl rfl rfl ?_
            refine x_geti (q := 85) (p := 185) (j := 34) hC f_Mo_92 rfl rfl (by omega) d_Mo_requests_82 rfl ?_
            refine x_ldc (q := 87) (v := 1103515245) hC k_Mo_204 d_Mo_requests_85 rfl ?_
            refine x_imul (q := 88) (z := ((mx_up m1 213 l (-1)) 185 34) * 1103515245) hC d_Mo_requests_87 rfl rfl ?_
            refine x_sipush (q := 91) (v := nI 12345) hC d_Mo_requests_88 (by decide) rfl ?_
            refine x_iadd (q := 92) (z := (((mx_up m1 213 l (-1)) 185 34) * 1103515245) + (nI 12345)) hC d_Mo_requests_91 rfl rfl ?_
            refine x_puti (q := 95) (p := 185) (j := 34) hC f_Mo_92 y_Mo rfl rfl rfl rfl rfl (by omega) (by decide) d_Mo_requests_92 rfl ?_
            refine x_aload_n (q := 96) hC d_Mo_requests_95 rfl rfl rfl ?_
            refine x_getr (q := 99) (p := 185) (j := 35) (r := 213) hC f_Mo_96 rfl rfl rfl (by omega) (hu _ _ (by decide)) d_Mo_requests_96 rfl ?_
            refine x_iload_n (q := 100) hC d_Mo_requests_99 rfl rfl rfl ?_
            refine x_aload_n (q := 101) hC d_Mo_requests_100 rfl rfl rfl ?_
            refine x_geti (q := 104) (p := 185) (j := 34) hC f_Mo_92 rfl rfl (by omega) d_Mo_requests_101 rfl ?_
            refine x_bipush (q := 106) (v := nI 16) hC d_Mo_requests_104 (by decide) rfl ?_
            refine x_iushr (q := 107) (z := (((mx_up (mx_up m1 213 l (-1)) 185 34 ((((mx_up m1 213 l (-1)) 185 34) * 1103515245) + (nI 12345))) 185 34).toUInt32 >>> ((nI 16).toUInt32 &&& Int32.toUInt32 31)).toInt32) hC d_Mo_requests_106 rfl rfl ?_
            refine x_bipush (q := 109) (v := nI 7) hC d_Mo_requests_107 (by decide) rfl ?_
            refine x_iand (q := 110) (z := ((((mx_up (mx_up m1 213 l (-1)) 185 34 ((((mx_up m1 213 l (-1)) 185 34) * 1103515245) + (nI 12345))) 185 34).toUInt32 >>> ((nI 16).toUInt32 &&& Int32.toUInt32 31)).toInt32) &&& (nI 7)) hC d_Mo_requests_109 rfl rfl ?_
            refine x_iast (q := 111) (p := 213) hC l rfl (by omega) (by omega) rfl (by omega) (by decide) d_Mo_requests_110 rfl ?_
            refine x_iinc (q := 114) (y := nI (l + 1)) (L1 := [(2, .int (nI (l + 1))), (3, .int (nI 1)), (0, .ref 185), (1, .int (nI (tn x)))]) hC d_Mo_requests_111 rfl (mx_inc l) (by decide) rfl rfl ?_
            refine x_goto (tgt := 12) hC d_Mo_requests_114 (by decide) ?_
            exact x_close hN4 [0, 2, 3] rfl (by exact it_t (And.intro h37 (And.intro h51 h60)) rfl)
    · intro hx5
      refine mx_nr (fun m6 e7 => ?_)
      try rw [e7] at hx5
      refine x_iload_n (q := 13) hC d_Mo_requests_12 rfl rfl rfl ?_
      refine x_bipush (q := 15) (v := nI 6) hC d_Mo_requests_13 (by decide) rfl ?_
      refine x_icmp_ge (tgt := 117) (q := 18) hC d_Mo_requests_15 (by decide) rfl (fun _ => ?_) (fun h => absurd (nI_le (Nat.le_refl _) (by decide)) h)
      refine x_iconst (q := 118) (v := nI 0) hC d_Mo_requests_117 (by decide) rfl ?_
      refine x_istore_n (q := 119) (L1 := [(2, .int (nI 0)), (0, .ref 185), (1, .int (nI (tn x)))]) hC d_Mo_requests_118 rfl (by decide) rfl rfl ?_
      refine x_iconst (q := 120) (v := nI 0) hC d_Mo_requests_119 (by decide) rfl ?_
      refine x_istore_n (q := 121) (L1 := [(3, .int (nI 0)), (2, .int (nI 0)), (0, .ref 185), (1, .int (nI (tn x)))]) hC d_Mo_requests_120 rfl (by decide) rfl rfl ?_
      refine x_iconst (q := 122) (v := nI 0) hC d_Mo_requests_121 (by decide) rfl ?_
      refine x_istore (q := 124) (L1 := [(4, .int (nI 0)), (3, .int (nI 0)), (2, .int (nI 0)), (0, .ref 185), (1, .int (nI (tn x)))]) hC d_Mo_requests_122 (by decide) rfl rfl ?_
      refine x_sub (L1 := [(4, .int (nI 0)), (3, .int (nI 0)), (2, .int (nI 0)), (0, .ref 185), (1, .int (nI (tn x)))]) [0, 1, 2, 3, 4] rfl ?_
      refine mx_loopG (N := 8) (Hd := fun w a => mx_G Γ κ _ _ 124 [(4, .int (nI w)), (3, .int (a.2.1)), (2, .int (a.1)), (0, .ref 185), (1, .int (nI (tn x)))] [] (nx, u, a.2.2) 0 0) (fun w => mx_lp 6 (Mo_ask (tn x) w)) (fun _ _ => True) (m := (nI 0, nI 0, m6)) trivial ?_ ?_ ?_
      · exact fun _ _ _ _ => trivial
      · intro w a hl8 hI9 hN10
        refine x_iload (q := 126) hC d_Mo_requests_124 rfl rfl ?_
        refine x_bipush (q := 128) (v := nI 8) hC d_Mo_requests_126 (by decide) rfl ?_
        refine x_icmp_ge (tgt := 240) (q := 131) hC d_Mo_requests_128 (by decide) rfl (fun h => absurd h (nI_ge hl8 (by decide))) (fun _ => ?_)
        refine x_iconst (q := 132) (v := nI 0) hC d_Mo_requests_131 (by decide) rfl ?_
        refine x_istore (q := 134) (L1 := [(5, .int (nI 0)), (4, .int (nI w)), (3, .int (a.2.1)), (2, .int (a.1)), (0, .ref 185), (1, .int (nI (tn x)))]) hC d_Mo_requests_132 (by decide) rfl rfl ?_
        refine x_sub (L1 := [(5, .int (nI 0)), (4, .int (nI w)), (3, .int (a.2.1)), (2, .int (a.1)), (0, .ref 185), (1, .int (nI (tn x)))]) [0, 1, 2, 3, 4, 5] rfl ?_
        refine mx_loopG (N := 6) (Hd := fun l b => mx_G Γ κ _ _ 134 [(5, .int (nI l)), (4, .int (nI w)), (3, .int (b.2.1)), (2, .int (b.1)), (0, .ref 185), (1, .int (nI (tn x)))] [] (nx, u, b.2.2) 0 0) (Mo_ask (tn x) w) (fun _ _ => True) (m := a) trivial ?_ ?_ ?_
        · exact fun _ _ _ _ => trivial
        · intro l b hl11 hI12 hN13
          refine x_iload (q := 136) hC d_Mo_requests_134 rfl rfl ?_
          refine x_bipush (q := 138) (v := nI 6) hC d_Mo_requests_136 (by decide) rfl ?_
          refine x_icmp_ge (tgt := 234) (q := 141) hC d_Mo_requests_138 (by decide) rfl (fun h => absurd h (nI_ge hl11 (by decide))) (fun _ => ?_)
          refine x_aload_n (q := 142) hC d_Mo_requests_141 rfl rfl rfl ?_
          refine x_getr (q := 145) (p := 185) (j := 35) (r := 213) hC f_Mo_96 rfl rfl rfl (by omega) (hu _ _ (by decide)) d_Mo_requests_142 rfl ?_
          refine x_iload (q := 147) hC d_Mo_requests_145 rfl rfl ?_
          refine x_iald (q := 148) (p := 213) hC l rfl (by omega) rfl (by omega) (by decide) d_Mo_requests_147 rfl ?_
          refine x_iload (q := 150) hC d_Mo_requests_148 rfl rfl ?_
          refine x_icmp_ne (tgt := 186) (q := 153) hC d_Mo_requests_150 (by decide) rfl (fun h150 => ?_) (fun h150 => ?_)
          · skip
            refine x_aload_n (q := 187) hC d_Mo_requests_186 rfl rfl rfl ?_
            refine x_getr (q := 190) (p := 185) (j := 35) (r := 213) hC f_Mo_96 rfl rfl rfl (by omega) (hu _ _ (by decide)) d_Mo_requests_187 rfl ?_
            refine x_iload (q := 192) hC d_Mo_requests_190 rfl rfl ?_
            refine x_iald (q := 193) (p := 213) hC l rfl (by omega) rfl (by omega) (by decide) d_Mo_requests_192 rfl ?_
            refine x_iload (q := 195) hC d_Mo_requests_193 rfl rfl ?_
            refine x_icmp_ne (tgt := 228) (q := 198) hC d_Mo_requests_195 (by decide) rfl (fun _ => ?_) (fun h => absurd h h150)
            refine x_iinc (q := 231) (y := nI (l + 1)) (L1 := [(5, .int (nI (l + 1))), (4, .int (nI w)), (3, .int (b.2.1)), (2, .int (b.1)), (0, .ref 185), (1, .int (nI (tn x)))]) hC d_Mo_requests_228 rfl (mx_inc l) (by decide) rfl rfl ?_
            refine x_goto (tgt := 134) hC d_Mo_requests_231 (by decide) ?_
            refine x_sub (L1 := [(5, .int (nI (l + 1))), (4, .int (nI w)), (3, .int (b.2.1)), (2, .int (b.1)), (0, .ref 185), (1, .int (nI (tn x)))]) [0, 1, 2, 3, 4, 5] rfl (mx_eqG ?_ rfl ?_ hN13)
            · rw [Mo_ask, if_neg h150] <;> rfl
            · rw [Mo_ask, if_neg h150] <;> rfl
          · skip
            refine x_aload_n (q := 154) hC d_Mo_requests_153 rfl rfl rfl ?_
            refine x_iload_n (q := 155) hC d_Mo_requests_154 rfl rfl rfl ?_
            refine x_iload (q := 157) hC d_Mo_requests_155 rfl rfl ?_
            refine x_callV (q := 160) (p := 185) (A := [.int (nI (tn x)), .int (nI l)]) (S := []) (c1 := 0) (s1 := 0) hC (c_Mo_missing (f := tn x) (l := l) (by omega) hu (by omega) (by omega) ) s_Mo_requests_201 rfl (by omega) rfl rfl rfl (Nat.le_of_ble_eq_true rfl) rfl rfl (by decide) (by decide) d_Mo_requests_157 rfl (fun r τ hP => ?_)
            obtain ⟨rfl, rfl⟩ := hP
            show mx_G Γ κ _ _ 160 [(5, .int (nI l)), (4, .int (nI w)), (3, .int (b.2.1)), (2, .int (b.1)), (0, .ref 185), (1, .int (nI (tn x)))] [.int (Mo_mis (tn x) l b.2.2)] (nx, u, b.2.2) 0 0
            refine x_iload_n (q := 161) hC d_Mo_requests_160 rfl rfl rfl ?_
            refine x_iconst (q := 162) (v := (-1)) hC d_Mo_requests_161 (by decide) rfl ?_
            refine x_ixor (q := 163) (z := b.1 ^^^ (-1)) hC d_Mo_requests_162 rfl rfl ?_
            refine x_iand (q := 164) (z := (Mo_mis (tn x) l b.2.2) &&& (b.1 ^^^ (-1))) hC d_Mo_requests_163 rfl rfl ?_
            refine x_if_ne (tgt := 186) (q := 167) hC d_Mo_requests_164 (by decide) rfl (fun h164 => ?_) (fun h164 => ?_)
            · skip
              refine x_aload_n (q := 187) hC d_Mo_requests_186 rfl rfl rfl ?_
              refine x_getr (q := 190) (p := 185) (j := 35) (r := 213) hC f_Mo_96 rfl rfl rfl (by omega) (hu _ _ (by decide)) d_Mo_requests_187 rfl ?_
              refine x_iload (q := 192) hC d_Mo_requests_190 rfl rfl ?_
              refine x_iald (q := 193) (p := 213) hC l rfl (by omega) rfl (by omega) (by decide) d_Mo_requests_192 rfl ?_
              refine x_iload (q := 195) hC d_Mo_requests_193 rfl rfl ?_
              refine x_icmp_ne (tgt := 228) (q := 198) hC d_Mo_requests_195 (by decide) rfl (fun h => absurd h150 h) (fun _ => ?_)
              refine x_iload_n (q := 199) hC d_Mo_requests_198 rfl rfl rfl ?_
              refine x_aload_n (q := 200) hC d_Mo_requests_199 rfl rfl rfl ?_
              refine x_iload_n (q := 201) hC d_Mo_requests_200 rfl rfl rfl ?_
              refine x_iload (q := 203) hC d_Mo_requests_201 rfl rfl ?_
              refine x_callV (q := 206) (p := 185) (A := [.int (nI (tn x)), .int (nI l)]) (S := [.int (b.1)]) (c1 := 0) (s1 := 0) hC (c_Mo_missing (f := tn x) (l := l) (by omega) hu (by omega) (by omega) ) s_Mo_requests_201 rfl (by omega) rfl rfl rfl (Nat.le_of_ble_eq_true rfl) rfl rfl (by decide) (by decide) d_Mo_requests_203 rfl (fun r τ hP => ?_)
              obtain ⟨rfl, rfl⟩ := hP
              show mx_G Γ κ _ _ 206 [(5, .int (nI l)), (4, .int (nI w)), (3, .int (b.2.1)), (2, .int (b.1)), (0, .ref 185), (1, .int (nI (tn x)))] [.int (Mo_mis (tn x) l b.2.2), .int (b.1)] (nx, u, b.2.2) 0 0
              refine x_ior (q := 207) (z := b.1 ||| (Mo_mis (tn x) l b.2.2)) hC d_Mo_requests_206 rfl rfl ?_
              refine x_istore_n (q := 208) (L1 := [(2, .int (b.1 ||| (Mo_mis (tn x) l b.2.2))), (5, .int (nI l)), (4, .int (nI w)), (3, .int (b.2.1)), (0, .ref 185), (1, .int (nI (tn x)))]) hC d_Mo_requests_207 rfl (by decide) rfl rfl ?_
              refine x_aload_n (q := 209) hC d_Mo_requests_208 rfl rfl rfl ?_
              refine x_getr (q := 212) (p := 185) (j := 17) (r := 201) hC f_Mo_56 rfl rfl rfl (by omega) (hu _ _ (by decide)) d_Mo_requests_209 rfl ?_
              refine x_bipush (q := 214) (v := nI 8) hC d_Mo_requests_212 (by decide) rfl ?_
              refine x_aload_n (q := 215) hC d_Mo_requests_214 rfl rfl rfl ?_
              refine x_getr (q := 218) (p := 185) (j := 17) (r := 201) hC f_Mo_56 rfl rfl rfl (by omega) (hu _ _ (by decide)) d_Mo_requests_215 rfl ?_
              refine x_bipush (q := 220) (v := nI 8) hC d_Mo_requests_218 (by decide) rfl ?_
              refine x_iald (q := 221) (p := 201) hC 8 rfl (by omega) rfl (by omega) (by decide) d_Mo_requests_220 rfl ?_
              refine x_iconst (q := 222) (v := nI 1) hC d_Mo_requests_221 (by decide) rfl ?_
              refine x_iadd (q := 223) (z := (b.2.2 201 8) + (nI 1)) hC d_Mo_requests_222 rfl rfl ?_
              refine x_iast (q := 224) (p := 201) hC 8 rfl (by omega) (by omega) rfl (by omega) (by decide) d_Mo_requests_223 rfl ?_
              refine x_iload_n (q := 225) hC d_Mo_requests_224 rfl rfl rfl ?_
              refine x_iconst (q := 226) (v := nI 1) hC d_Mo_requests_225 (by decide) rfl ?_
              refine x_iadd (q := 227) (z := b.2.1 + (nI 1)) hC d_Mo_requests_226 rfl rfl ?_
              refine x_istore_n (q := 228) (L1 := [(3, .int (b.2.1 + (nI 1))), (2, .int (b.1 ||| (Mo_mis (tn x) l b.2.2))), (5, .int (nI l)), (4, .int (nI w)), (0, .ref 185), (1, .int (nI (tn x)))]) hC d_Mo_requests_227 rfl (by decide) rfl rfl ?_
              refine x_iinc (q := 231) (y := nI (l + 1)) (L1 := [(5, .int (nI (l + 1))), (3, .int (b.2.1 + (nI 1))), (2, .int (b.1 ||| (Mo_mis (tn x) l b.2.2))), (4, .int (nI w)), (0, .ref 185), (1, .int (nI (tn x)))]) hC d_Mo_requests_228 rfl (mx_inc l) (by decide) rfl rfl ?_
              refine x_goto (tgt := 134) hC d_Mo_requests_231 (by decide) ?_
              refine x_sub (L1 := [(5, .int (nI (l + 1))), (4, .int (nI w)), (3, .int (b.2.1 + (nI 1))), (2, .int (b.1 ||| (Mo_mis (tn x) l b.2.2))), (0, .ref 185), (1, .int (nI (tn x)))]) [0, 3, 1, 2, 4, 5] rfl (mx_eqG ?_ rfl ?_ hN13)
              · rw [Mo_ask, if_pos h150, if_neg h164] <;> rfl
              · rw [Mo_ask, if_pos h150, if_neg h164] <;> rfl
            · skip
              refine x_aload_n (q := 168) hC d_Mo_requests_167 rfl rfl rfl ?_
              refine x_getr (q := 171) (p := 185) (j := 17) (r := 201) hC f_Mo_56 rfl rfl rfl (by omega) (hu _ _ (by decide)) d_Mo_requests_168 rfl ?_
              refine x_bipush (q := 173) (v := nI 9) hC d_Mo_requests_171 (by decide) rfl ?_
              refine x_aload_n (q := 174) hC d_Mo_requests_173 rfl rfl rfl ?_
              refine x_getr (q := 177) (p := 185) (j := 17) (r := 201) hC f_Mo_56 rfl rfl rfl (by omega) (hu _ _ (by decide)) d_Mo_requests_174 rfl ?_
              refine x_bipush (q := 179) (v := nI 9) hC d_Mo_requests_177 (by decide) rfl ?_
              refine x_iald (q := 180) (p := 201) hC 9 rfl (by omega) rfl (by omega) (by decide) d_Mo_requests_179 rfl ?_
              refine x_iconst (q := 181) (v := nI 1) hC d_Mo_requests_180 (by decide) rfl ?_
              refine x_iadd (q := 182) (z := (b.2.2 201 9) + (nI 1)) hC d_Mo_requests_181 rfl rfl ?_
              refine x_iast (q := 183) (p := 201) hC 9 rfl (by omega) (by omega) rfl (by omega) (by decide) d_Mo_requests_182 rfl ?_
              refine x_goto (tgt := 228) hC d_Mo_requests_183 (by decide) ?_
              refine x_iinc (q := 231) (y := nI (l + 1)) (L1 := [(5, .int (nI (l + 1))), (4, .int (nI w)), (3, .int (b.2.1)), (2, .int (b.1)), (0, .ref 185), (1, .int (nI (tn x)))]) hC d_Mo_requests_228 rfl (mx_inc l) (by decide) rfl rfl ?_
              refine x_goto (tgt := 134) hC d_Mo_requests_231 (by decide) ?_
              refine x_sub (L1 := [(5, .int (nI (l + 1))), (4, .int (nI w)), (3, .int (b.2.1)), (2, .int (b.1)), (0, .ref 185), (1, .int (nI (tn x)))]) [0, 1, 2, 3, 4, 5] rfl (mx_eqG ?_ rfl ?_ hN13)
              · rw [Mo_ask, if_pos h150, if_pos h164] <;> rfl
              · rw [Mo_ask, if_pos h150, if_pos h164] <;> rfl
        · intro hx14
          generalize e16 : mx_lp 6 (Mo_ask (tn x) w) a = a15 at hx14 ⊢
          refine x_iload (q := 136) hC d_Mo_requests_134 rfl rfl ?_
          refine x_bipush (q := 138) (v := nI 6) hC d_Mo_requests_136 (by decide) rfl ?_
          refine x_icmp_ge (tgt := 234) (q := 141) hC d_Mo_requests_138 (by decide) rfl (fun _ => ?_) (fun h => absurd (nI_le (Nat.le_refl _) (by decide)) h)
          refine x_iinc (q := 237) (y := nI (w + 1)) (L1 := [(4, .int (nI (w + 1))), (5, .int (nI 6)), (3, .int (a15.2.1)), (2, .int (a15.1)), (0, .ref 185), (1, .int (nI (tn x)))]) hC d_Mo_requests_234 rfl (mx_inc w) (by decide) rfl rfl ?_
          refine x_goto (tgt := 124) hC d_Mo_requests_237 (by decide) ?_
          refine x_sub (L1 := [(4, .int (nI (w + 1))), (3, .int (a15.2.1)), (2, .int (a15.1)), (0, .ref 185), (1, .int (nI (tn x)))]) [0, 2, 3, 4, 5] rfl (mx_eqG ?_ rfl ?_ hN10)
          · subst e16; rfl
          · subst e16; rfl
      · intro hx17
        generalize e19 : mx_lp 8 (fun w => mx_lp 6 (Mo_ask (tn x) w)) (nI 0, nI 0, m6) = a18 at hx17 ⊢
        refine x_iload (q := 126) hC d_Mo_requests_124 rfl rfl ?_
        refine x_bipush (q := 128) (v := nI 8) hC d_Mo_requests_126 (by decide) rfl ?_
        refine x_icmp_ge (tgt := 240) (q := 131) hC d_Mo_requests_128 (by decide) rfl (fun _ => ?_) (fun h => absurd (nI_le (Nat.le_refl _) (by decide)) h)
        refine x_aload_n (q := 241) hC d_Mo_requests_240 rfl rfl rfl ?_
        refine x_getr (q := 244) (p := 185) (j := 31) (r := 210) hC f_Mo_83 rfl rfl rfl (by omega) (hu _ _ (by decide)) d_Mo_requests_241 rfl ?_
        refine x_iload_n (q := 245) hC d_Mo_requests_244 rfl rfl rfl ?_
        refine x_aload_n (q := 246) hC d_Mo_requests_245 rfl rfl rfl ?_
        refine x_getr (q := 249) (p := 185) (j := 31) (r := 210) hC f_Mo_83 rfl rfl rfl (by omega) (hu _ _ (by decide)) d_Mo_requests_246 rfl ?_
        refine x_iload_n (q := 250) hC d_Mo_requests_249 rfl rfl rfl ?_
        refine x_iald (q := 251) (p := 210) hC (tn x) rfl (by omega) rfl (by omega) (by decide) d_Mo_requests_250 rfl ?_
        refine x_iload_n (q := 252) hC d_Mo_requests_251 rfl rfl rfl ?_
        refine x_ior (q := 253) (z := (a18.2.2 210 (tn x)) ||| a18.1) hC d_Mo_requests_252 rfl rfl ?_
        refine x_iast (q := 254) (p := 210) hC (tn x) rfl (by omega) (by omega) rfl (by omega) (by decide) d_Mo_requests_253 rfl ?_
        refine x_iload_n (q := 255) hC d_Mo_requests_254 rfl rfl rfl ?_
        have eA : Mo_asks (tn x) (tn (mi 206 (tn x))) (tn (mi 207 (tn x))) mi = a18 := by rw [hes, heg, ← e19]; subst e7; rfl
        exact x_iret hC rfl rfl ⟨sv (it_t h5 (by rw [eA])), pr (it_t h5 (by rw [eA] <;> rfl))⟩ (by decide) (by decide) d_Mo_requests_255
  · have h5 := bz_0 h5
    refine x_iconst (q := 9) (v := (-1)) hC d_Mo_requests_8 (by decide) rfl ?_
    exact x_iret hC rfl rfl ⟨sv (it_f h5 rfl), pr (it_f h5 rfl)⟩ (by decide) (by decide) d_Mo_requests_9
