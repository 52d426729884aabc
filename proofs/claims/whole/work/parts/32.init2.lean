theorem ub_c {nx p : Nat} {u v : Nat → Nat → Bool} {m : mx_Mm} (hu : ∀ k, u p k = true) (hv : ∀ j, v p j = true) (hv2 : ∀ q j, ¬ q = p → v q j = u q j) : ((nx, v, m) : mx_S) = (nx, u, m) := by
  have e : v = u := by
    funext q j
    by_cases h : q = p
    · rw [h, hv j, hu j]
    · exact hv2 q j h
  rw [e]
theorem ft_w {t : Nat} (n : Nat) (ht : t < 6) : ∀ (p : Nat) (m : mx_Mm) (q j : Nat), 34 ≤ q → (Ne_w t n p m).2 q j = m q j
  | 0, _, _, _, _ => rfl
  | p + 1, m, q, j, hq => by
    unfold Ne_w
    split
    · rw [ft_w n ht p _ q j hq, up_neP (by omega)]
    · rfl
theorem ft_meas (m : mx_Mm) (q j : Nat) (hq : 34 ≤ q) : (Ne_measure m) q j = m q j := by
  refine lp_keep (fun a : mx_Mm => a q j = m q j) 6 (lp_keep (fun a : mx_Mm => a q j = m q j) 6 (lp_keep (fun a : mx_Mm => a q j = m q j) 6 rfl (fun a m' ha h => ?_)) (fun v m' _ h => ?_)) (fun t m' ht h => ?_)
  · show (mx_up (mx_lp 6 (Ne_sl1 a) m') (14 + a) a _) q j = _
    rw [up_neP (by omega)]
    exact lp_keep (fun a : mx_Mm => a q j = m q j) 6 h (fun b m'' hb h => by
      show (mx_up m'' (14 + a) b _) q j = _
      rw [up_neP (by omega)]; exact h)
  · exact lp_keep (fun a : mx_Mm => a q j = m q j) 6 h (fun a m'' ha h => lp_keep (fun a : mx_Mm => a q j = m q j) 6 h (fun b m'' hb h => by
      show (mx_up m'' (14 + a) b _) q j = _
      rw [up_neP (by omega)]; exact h))
  · show (mx_lp 6 (Ne_o1 t) (mx_lp 6 (Ne_m1 t) m')) q j = m q j
    refine lp_keep (fun a : mx_Mm => a q j = m q j) 6 (lp_keep (fun a : mx_Mm => a q j = m q j) 6 h (fun a m'' ha h => ?_)) (fun n m'' hn h => ?_)
    · show (mx_up m'' (21 + a) t _) q j = _
      rw [up_neP (by omega)]; exact h
    · show (mx_up (Ne_w t n n m'').2 (28 + t) _ _) q j = _
      rw [up_neP (by omega), ft_w n ht n m'' q j (by omega)]; exact h
theorem ft_fill {p n : Nat} {v : Int32} (m : mx_Mm) (q j : Nat) (hq : ¬ q = p) : (fill_m p n v m) q j = m q j := lp_keep (fun a : mx_Mm => a q j = m q j) n rfl (fun i a _ h => by
  show (mx_up a p i v) q j = _
  rw [up_neP hq]; exact h)
theorem ft_lai (m : mx_Mm) (q j : Nat) (hq : 57 ≤ q) : (La_init m) q j = m q j := lp_keep (fun a : mx_Mm => a q j = m q j) 6 rfl (fun l a hl h => (ft_fill a q j (by omega)).trans h)
theorem ft_tri {r : Nat} (m : mx_Mm) (q j : Nat) (hq : 165 ≤ q) : (Tr_init r m) q j = m q j := by
  refine lp_keep (fun a : mx_Mm => a q j = m q j) 18 (lp_keep (fun a : mx_Mm => a q j = m q j) 3 ?_ (fun l a hl h => (ft_fill a q j (by omega)).trans h)) (fun l a hl h => ?_)
  · exact up_neP (by omega)
  · exact ((ft_fill _ q j (by omega)).trans (ft_fill a q j (by omega))).trans h
theorem ft_pai (m : mx_Mm) (q j : Nat) (hq : 168 ≤ q) : (Pa_init m) q j = m q j := by
  unfold Pa_init
  rw [up_neP (by omega), up_neP (by omega), up_neP (by omega), up_neP (by omega), up_neP (by omega)]
theorem ft_fii (m : mx_Mm) (q j : Nat) (hq : 185 ≤ q) : (Fi_init m) q j = m q j := by
  unfold Fi_init
  rw [up_neP (by omega), up_neP (by omega)]
def MT_init (r : Nat) (m : mx_Mm) : mx_Mm := Fi_init (Pa_init (Tr_init r (La_init (Ne_measure (mx_up m 2 0 (nI 0))))))
def Mo_i1 (k : Nat) (m : mx_Mm) : mx_Mm := mx_up (mx_up m 191 k (-1)) 192 k (-1)
def Mo_i2 (k : Nat) (m : mx_Mm) : mx_Mm := mx_up (mx_up m 194 k (-1)) 196 k (-1)
def Mo_i0 (r : Nat) (m : mx_Mm) : mx_Mm := mx_up (mx_up m 185 34 (nI 1)) 185 0 (nI r)
def Mo_init (r : Nat) (m : mx_Mm) : mx_Mm := Mo_ways (mx_lp 108 Mo_i2 (mx_lp 18 Mo_i1 (Mo_i0 r m)))
set_option maxRecDepth 100000 in
set_option maxHeartbeats 1000000 in
theorem c_Mo_init {Γ : mx_X} {lau : Launch} {u : Nat → Nat → Bool} {mi : mx_Mm} {r : Nat} {x : Int32} (hu : ∀ p k, 2 ≤ p → u p k = true) (hz : ∀ q j, 185 ≤ q → mi q j = 0) (hr1 : rt x → x = nI r) (hr0 : ¬ rt x → r = 0) : mx_C Γ lau M_Mo_init [.ref 185, .int x] (186, mx_zu u 185 9, mi) (fun ρ τ => ρ = none ∧ τ = (214, u, Mo_init r mi)) := by
  refine mx_C.intro (by decide) rfl (Nat.le_of_ble_eq_true rfl) (fun κ _ hC => ?_)
  show mx_G Γ κ _ _ 0 [(0, .ref 185), (1, .int x)] [] (186, mx_zu u 185 9, mi) 0 0
  refine x_aload_n (q := 1) hC d_Mo_init_0 rfl rfl rfl ?_
  refine x_obj (q := 4) hC so_Mo_init_1 (by decide) (by decide) rfl (Nat.le_of_ble_eq_true rfl) d_Mo_init_1 rfl ?_
  refine x_aload_n (q := 5) hC d_Mo_init_4 rfl rfl rfl ?_
  refine x_bipush (q := 7) (v := nI 36) hC d_Mo_init_5 (by decide) rfl ?_
  refine x_newi (q := 9) (p := 186) (N := 36) (c1 := 1) (s1 := 36) hC w_ac_int rfl rfl rfl (by decide) rfl rfl (by decide) (by decide) d_Mo_init_7 rfl ?_
  refine mx_eqG rfl rfl (zr_b (fun j => hz _ _ (by decide))) ?_
  refine x_putr (q := 12) (p := 185) (j := 2) (r := 186) hC f_Mo_7 y_Mo rfl rfl rfl rfl rfl rfl (by omega) (by decide) d_Mo_init_9 rfl ?_
  refine x_aload_n (q := 13) hC d_Mo_init_12 rfl rfl rfl ?_
  refine x_bipush (q := 15) (v := nI 36) hC d_Mo_init_13 (by decide) rfl ?_
  refine x_newi (q := 17) (p := 187) (N := 36) (c1 := 2) (s1 := 72) hC w_ac_int rfl rfl rfl (by decide) rfl rfl (by decide) (by decide) d_Mo_init_15 rfl ?_
  refine mx_eqG rfl rfl (zr_b (fun j => hz _ _ (by decide))) ?_
  refine x_putr (q := 20) (p := 185) (j := 3) (r := 187) hC f_Mo_13 y_Mo rfl rfl rfl rfl rfl rfl (by omega) (by decide) d_Mo_init_17 rfl ?_
  refine x_aload_n (q := 21) hC d_Mo_init_20 rfl rfl rfl ?_
  refine x_bipush (q := 23) (v := nI 36) hC d_Mo_init_21 (by decide) rfl ?_
  refine x_newi (q := 25) (p := 188) (N := 36) (c1 := 3) (s1 := 108) hC w_ac_int rfl rfl rfl (by decide) rfl rfl (by decide) (by decide) d_Mo_init_23 rfl ?_
  refine mx_eqG rfl rfl (zr_b (fun j => hz _ _ (by decide))) ?_
  refine x_putr (q := 28) (p := 185) (j := 4) (r := 188) hC f_Mo_16 y_Mo rfl rfl rfl rfl rfl rfl (by omega) (by decide) d_Mo_init_25 rfl ?_
  refine x_aload_n (q := 29) hC d_Mo_init_28 rfl rfl rfl ?_
  refine x_bipush (q := 31) (v := nI 72) hC d_Mo_init_29 (by decide) rfl ?_
  refine x_newz (q := 33) (p := 189) (N := 72) (c1 := 4) (s1 := 180) hC w_ac_boolean rfl rfl rfl (by decide) rfl rfl (by decide) (by decide) d_Mo_init_31 rfl ?_
  refine mx_eqG rfl rfl (zr_b (fun j => hz _ _ (by decide))) ?_
  refine x_putr (q := 36) (p := 185) (j := 5) (r := 189) hC f_Mo_19 y_Mo rfl rfl rfl rfl rfl rfl (by omega) (by decide) d_Mo_init_33 rfl ?_
  refine x_aload_n (q := 37) hC d_Mo_init_36 rfl rfl rfl ?_
  refine x_bipush (q := 39) (v := nI 18) hC d_Mo_init_37 (by decide) rfl ?_
  refine x_newi (q := 41) (p := 190) (N := 18) (c1 := 5) (s1 := 198) hC w_ac_int rfl rfl rfl (by decide) rfl rfl (by decide) (by decide) d_Mo_init_39 rfl ?_
  refine mx_eqG rfl rfl (zr_b (fun j => hz _ _ (by decide))) ?_
  refine x_putr (q := 44) (p := 185) (j := 6) (r := 190) hC f_Mo_23 y_Mo rfl rfl rfl rfl rfl rfl (by omega) (by decide) d_Mo_init_41 rfl ?_
  refine x_aload_n (q := 45) hC d_Mo_init_44 rfl rfl rfl ?_
  refine x_bipush (q := 47) (v := nI 18) hC d_Mo_init_45 (by decide) rfl ?_
  refine x_newi (q := 49) (p := 191) (N := 18) (c1 := 6) (s1 := 216) hC w_ac_int rfl rfl rfl (by decide) rfl rfl (by decide) (by decide) d_Mo_init_47 rfl ?_
  refine mx_eqG rfl rfl (zr_b (fun j => hz _ _ (by decide))) ?_
  refine x_putr (q := 52) (p := 185) (j := 7) (r := 191) hC f_Mo_26 y_Mo rfl rfl rfl rfl rfl rfl (by omega) (by decide) d_Mo_init_49 rfl ?_
  refine x_aload_n (q := 53) hC d_Mo_init_52 rfl rfl rfl ?_
  refine x_bipush (q := 55) (v := nI 18) hC d_Mo_init_53 (by decide) rfl ?_
  refine x_newi (q := 57) (p := 192) (N := 18) (c1 := 7) (s1 := 234) hC w_ac_int rfl rfl rfl (by decide) rfl rfl (by decide) (by decide) d_Mo_init_55 rfl ?_
  refine mx_eqG rfl rfl (zr_b (fun j => hz _ _ (by decide))) ?_
  refine x_putr (q := 60) (p := 185) (j := 8) (r := 192) hC f_Mo_29 y_Mo rfl rfl rfl rfl rfl rfl (by omega) (by decide) d_Mo_init_57 rfl ?_
  refine x_aload_n (q := 61) hC d_Mo_init_60 rfl rfl rfl ?_
  refine x_bipush (q := 63) (v := nI 18) hC d_Mo_init_61 (by decide) rfl ?_
  refine x_newi (q := 65) (p := 193) (N := 18) (c1 := 8) (s1 := 252) hC w_ac_int rfl rfl rfl (by decide) rfl rfl (by decide) (by decide) d_Mo_init_63 rfl ?_
  refine mx_eqG rfl rfl (zr_b (fun j => hz _ _ (by decide))) ?_
  refine x_putr (q := 68) (p := 185) (j := 9) (r := 193) hC f_Mo_32 y_Mo rfl rfl rfl rfl rfl rfl (by omega) (by decide) d_Mo_init_65 rfl ?_
  refine x_aload_n (q := 69) hC d_Mo_init_68 rfl rfl rfl ?_
  refine x_bipush (q := 71) (v := nI 108) hC d_Mo_init_69 (by decide) rfl ?_
  refine x_newi (q := 73) (p := 194) (N := 108) (c1 := 9) (s1 := 360) hC w_ac_int rfl rfl rfl (by decide) rfl rfl (by decide) (by decide) d_Mo_init_71 rfl ?_
  refine mx_eqG rfl rfl (zr_b (fun j => hz _ _ (by decide))) ?_
  refine x_putr (q := 76) (p := 185) (j := 10) (r := 194) hC f_Mo_35 y_Mo rfl rfl rfl rfl rfl rfl (by omega) (by decide) d_Mo_init_73 rfl ?_
  refine x_aload_n (q := 77) hC d_Mo_init_76 rfl rfl rfl ?_
  refine x_bipush (q := 79) (v := nI 108) hC d_Mo_init_77 (by decide) rfl ?_
  refine x_newi (q := 81) (p := 195) (N := 108) (c1 := 10) (s1 := 468) hC w_ac_int rfl rfl rfl (by decide) rfl rfl (by decide) (by decide) d_Mo_init_79 rfl ?_
  refine mx_eqG rfl rfl (zr_b (fun j => hz _ _ (by decide))) ?_
  refine x_putr (q := 84) (p := 185) (j := 11) (r := 195) hC f_Mo_38 y_Mo rfl rfl rfl rfl rfl rfl (by omega) (by decide) d_Mo_init_81 rfl ?_
  refine x_aload_n (q := 85) hC d_Mo_init_84 rfl rfl rfl ?_
  refine x_bipush (q := 87) (v := nI 108) hC d_Mo_init_85 (by decide) rfl ?_
  refine x_newi (q := 89) (p := 196) (N := 108) (c1 := 11) (s1 := 576) hC w_ac_int rfl rfl rfl (by decide) rfl rfl (by decide) (by decide) d_Mo_init_87 rfl ?_
  refine mx_eqG rfl rfl (zr_b (fun j => hz _ _ (by decide))) ?_
  refine x_putr (q := 92) (p := 185) (j := 12) (r := 196) hC f_Mo_41 y_Mo rfl rfl rfl rfl rfl rfl (by omega) (by decide) d_Mo_init_89 rfl ?_
  refine x_aload_n (q := 93) hC d_Mo_init_92 rfl rfl rfl ?_
  refine x_bipush (q := 95) (v := nI 108) hC d_Mo_init_93 (by decide) rfl ?_
  refine x_newi (q := 97) (p := 197) (N := 108) (c1 := 12) (s1 := 684) hC w_ac_int rfl rfl rfl (by decide) rfl rfl (by decide) (by decide) d_Mo_init_95 rfl ?_
  refine mx_eqG rfl rfl (zr_b (fun j => hz _ _ (by decide))) ?_
  refine x_putr (q := 100) (p := 185) (j := 13) (r := 197) hC f_Mo_44 y_Mo rfl rfl rfl rfl rfl rfl (by omega) (by decide) d_Mo_init_97 rfl ?_
  refine x_aload_n (q := 101) hC d_Mo_init_100 rfl rfl rfl ?_
  refine x_bipush (q := 103) (v := nI 108) hC d_Mo_init_101 (by decide) rfl ?_
  refine x_newi (q := 105) (p := 198) (N := 108) (c1 := 13) (s1 := 792) hC w_ac_int rfl rfl rfl (by decide) rfl rfl (by decide) (by decide) d_Mo_init_103 rfl ?_
  refine mx_eqG rfl rfl (zr_b (fun j => hz _ _ (by decide))) ?_
  refine x_putr (q := 108) (p := 185) (j := 14) (r := 198) hC f_Mo_47 y_Mo rfl rfl rfl rfl rfl rfl (by omega) (by decide) d_Mo_init_105 rfl ?_
  refine x_aload_n (q := 109) hC d_Mo_init_108 rfl rfl rfl ?_
  refine x_bipush (q := 111) (v := nI 108) hC d_Mo_init_109 (by decide) rfl ?_
  refine x_newz (q := 113) (p := 199) (N := 108) (c1 := 14) (s1 := 900) hC w_ac_boolean rfl rfl rfl (by decide) rfl rfl (by decide) (by decide) d_Mo_init_111 rfl ?_
  refine mx_eqG rfl rfl (zr_b (fun j => hz _ _ (by decide))) ?_
  refine x_putr (q := 116) (p := 185) (j := 15) (r := 199) hC f_Mo_50 y_Mo rfl rfl rfl rfl rfl rfl (by omega) (by decide) d_Mo_init_113 rfl ?_
  refine x_aload_n (q := 117) hC d_Mo_init_116 rfl rfl rfl ?_
  refine x_bipush (q := 119) (v := nI 18) hC d_Mo_init_117 (by decide) rfl ?_
  refine x_newi (q := 121) (p := 200) (N := 18) (c1 := 15) (s1 := 918) hC w_ac_int rfl rfl rfl (by decide) rfl rfl (by decide) (by decide) d_Mo_init_119 rfl ?_
  refine mx_eqG rfl rfl (zr_b (fun j => hz _ _ (by decide))) ?_
  refine x_putr (q := 124) (p := 185) (j := 16) (r := 200) hC f_Mo_53 y_Mo rfl rfl rfl rfl rfl rfl (by omega) (by decide) d_Mo_init_121 rfl ?_
  refine x_aload_n (q := 125) hC d_Mo_init_124 rfl rfl rfl ?_
  refine x_bipush (q := 127) (v := nI 10) hC d_Mo_init_125 (by decide) rfl ?_
  refine x_newi (q := 129) (p := 201) (N := 10) (c1 := 16) (s1 := 928) hC w_ac_int rfl rfl rfl (by decide) rfl rfl (by decide) (by decide) d_Mo_init_127 rfl ?_
  refine mx_eqG rfl rfl (zr_b (fun j => hz _ _ (by decide))) ?_
  refine x_putr (q := 132) (p := 185) (j := 17) (r := 201) hC f_Mo_56 y_Mo rfl rfl rfl rfl rfl rfl (by omega) (by decide) d_Mo_init_129 rfl ?_
  refine x_aload_n (q := 133) hC d_Mo_init_132 rfl rfl rfl ?_
  refine x_bipush (q := 135) (v := nI 6) hC d_Mo_init_133 (by decide) rfl ?_
  refine x_newi (q := 137) (p := 202) (N := 6) (c1 := 17) (s1 := 934) hC w_ac_int rfl rfl rfl (by decide) rfl rfl (by decide) (by decide) d_Mo_init_135 rfl ?_
  refine mx_eqG rfl rfl (zr_b (fun j => hz _ _ (by decide))) ?_
  refine x_putr (q := 140) (p := 185) (j := 18) (r := 202) hC f_Mo_59 y_Mo rfl rfl rfl rfl rfl rfl (by omega) (by decide) d_Mo_init_137 rfl ?_
  refine x_aload_n (q := 141) hC d_Mo_init_140 rfl rfl rfl ?_
  refine x_bipush (q := 143) (v := nI 6) hC d_Mo_init_141 (by decide) rfl ?_
  refine x_newz (q := 145) (p := 203) (N := 6) (c1 := 18) (s1 := 940) hC w_ac_boolean rfl rfl rfl (by decide) rfl rfl (by decide) (by decide) d_Mo_init_143 rfl ?_
  refine mx_eqG rfl rfl (zr_b (fun j => hz _ _ (by decide))) ?_
  refine x_putr (q := 148) (p := 185) (j := 23) (r := 203) hC f_Mo_62 y_Mo rfl rfl rfl rfl rfl rfl (by omega) (by decide) d_Mo_init_145 rfl ?_
  refine x_aload_n (q := 149) hC d_Mo_init_148 rfl rfl rfl ?_
  refine x_bipush (q := 151) (v := nI 6) hC d_Mo_init_149 (by decide) rfl ?_
  refine x_newz (q := 153) (p := 204) (N := 6) (c1 := 19) (s1 := 946) hC w_ac_boolean rfl rfl rfl (by decide) rfl rfl (by decide) (by decide) d_Mo_init_151 rfl ?_
  refine mx_eqG rfl rfl (zr_b (fun j => hz _ _ (by decide))) ?_
  refine x_putr (q := 156) (p := 185) (j := 24) (r := 204) hC f_Mo_65 y_Mo rfl rfl rfl rfl rfl rfl (by omega) (by decide) d_Mo_init_153 rfl ?_
  refine x_aload_n (q := 157) hC d_Mo_init_156 rfl rfl rfl ?_
  refine x_bipush (q := 159) (v := nI 6) hC d_Mo_init_157 (by decide) rfl ?_
  refine x_newi (q := 161) (p := 205) (N := 6) (c1 := 20) (s1 := 952) hC w_ac_int rfl rfl rfl (by decide) rfl rfl (by decide) (by decide) d_Mo_init_159 rfl ?_
  refine mx_eqG rfl rfl (zr_b (fun j => hz _ _ (by decide))) ?_
  refine x_putr (q := 164) (p := 185) (j := 25) (r := 205) hC f_Mo_68 y_Mo rfl rfl rfl rfl rfl rfl (by omega) (by decide) d_Mo_init_161 rfl ?_
  refine x_aload_n (q := 165) hC d_Mo_init_164 rfl rfl rfl ?_
  refine x_iconst (q := 166) (v := nI 4) hC d_Mo_init_165 (by decide) rfl ?_
  refine x_newi (q := 168) (p := 206) (N := 4) (c1 := 21) (s1 := 956) hC w_ac_int rfl rfl rfl (by decide) rfl rfl (by decide) (by decide) d_Mo_init_166 rfl ?_
  refine mx_eqG rfl rfl (zr_b (fun j => hz _ _ (by decide))) ?_
  refine x_putr (q := 171) (p := 185) (j := 27) (r := 206) hC f_Mo_71 y_Mo rfl rfl rfl rfl rfl rfl (by omega) (by decide) d_Mo_init_168 rfl ?_
  refine x_aload_n (q := 172) hC d_Mo_init_171 rfl rfl rfl ?_
  refine x_iconst (q := 173) (v := nI 4) hC d_Mo_init_172 (by decide) rfl ?_
  refine x_newi (q := 175) (p := 207) (N := 4) (c1 := 22) (s1 := 960) hC w_ac_int rfl rfl rfl (by decide) rfl rfl (by decide) (by decide) d_Mo_init_173 rfl ?_
  refine mx_eqG rfl rfl (zr_b (fun j => hz _ _ (by decide))) ?_
  refine x_putr (q := 178) (p := 185) (j := 28) (r := 207) hC f_Mo_74 y_Mo rfl rfl rfl rfl rfl rfl (by omega) (by decide) d_Mo_init_175 rfl ?_
  refine x_aload_n (q := 179) hC d_Mo_init_178 rfl rfl rfl ?_
  refine x_iconst (q := 180) (v := nI 4) hC d_Mo_init_179 (by decide) rfl ?_
  refine x_newi (q := 182) (p := 208) (N := 4) (c1 := 23) (s1 := 964) hC w_ac_int rfl rfl rfl (by decide) rfl rfl (by decide) (by decide) d_Mo_init_180 rfl ?_
  refine mx_eqG rfl rfl (zr_b (fun j => hz _ _ (by decide))) ?_
  refine x_putr (q := 185) (p := 185) (j := 29) (r := 208) hC f_Mo_77 y_Mo rfl rfl rfl rfl rfl rfl (by omega) (by decide) d_Mo_init_182 rfl ?_
  refine x_aload_n (q := 186) hC d_Mo_init_185 rfl rfl rfl ?_
  refine x_iconst (q := 187) (v := nI 4) hC d_Mo_init_186 (by decide) rfl ?_
  refine x_newi (q := 189) (p := 209) (N := 4) (c1 := 24) (s1 := 968) hC w_ac_int rfl rfl rfl (by decide) rfl rfl (by decide) (by decide) d_Mo_init_187 rfl ?_
  refine mx_eqG rfl rfl (zr_b (fun j => hz _ _ (by decide))) ?_
  refine x_putr (q := 192) (p := 185) (j := 30) (r := 209) hC f_Mo_80 y_Mo rfl rfl rfl rfl rfl rfl (by omega) (by decide) d_Mo_init_189 rfl ?_
  refine x_aload_n (q := 193) hC d_Mo_init_192 rfl rfl rfl ?_
  refine x_iconst (q := 194) (v := nI 4) hC d_Mo_init_193 (by decide) rfl ?_
  refine x_newi (q := 196) (p := 210) (N := 4) (c1 := 25) (s1 := 972) hC w_ac_int rfl rfl rfl (by decide) rfl rfl (by decide) (by decide) d_Mo_init_194 rfl ?_
  refine mx_eqG rfl rfl (zr_b (fun j => hz _ _ (by decide))) ?_
  refine x_putr (q := 199) (p := 185) (j := 31) (r := 210) hC f_Mo_83 y_Mo rfl rfl rfl rfl rfl rfl (by omega) (by decide) d_Mo_init_196 rfl ?_
  refine x_aload_n (q := 200) hC d_Mo_init_199 rfl rfl rfl ?_
  refine x_bipush (q := 202) (v := nI 24) hC d_Mo_init_200 (by decide) rfl ?_
  refine x_newi (q := 204) (p := 211) (N := 24) (c1 := 26) (s1 := 996) hC w_ac_int rfl rfl rfl (by decide) rfl rfl (by decide) (by decide) d_Mo_init_202 rfl ?_
  refine mx_eqG rfl rfl (zr_b (fun j => hz _ _ (by decide))) ?_
  refine x_putr (q := 207) (p := 185) (j := 32) (r := 211) hC f_Mo_86 y_Mo rfl rfl rfl rfl rfl rfl (by omega) (by decide) d_Mo_init_204 rfl ?_
  refine x_aload_n (q := 208) hC d_Mo_init_207 rfl rfl rfl ?_
  refine x_bipush (q := 210) (v := nI 24) hC d_Mo_init_208 (by decide) rfl ?_
  refine x_newi (q := 212) (p := 212) (N := 24) (c1 := 27) (s1 := 1020) hC w_ac_int rfl rfl rfl (by decide) rfl rfl (by decide) (by decide) d_Mo_init_210 rfl ?_
  refine mx_eqG rfl rfl (zr_b (fun j => hz _ _ (by decide))) ?_
  refine x_putr (q := 215) (p := 185) (j := 33) (r := 212) hC f_Mo_89 y_Mo rfl rfl rfl rfl rfl rfl (by omega) (by decide) d_Mo_init_212 rfl ?_
  refine x_aload_n (q := 216) hC d_Mo_init_215 rfl rfl rfl ?_
  refine x_iconst (q := 217) (v := nI 1) hC d_Mo_init_216 (by decide) rfl ?_
  refine x_puti (q := 220) (p := 185) (j := 34) hC f_Mo_92 y_Mo rfl rfl rfl rfl rfl (by omega) (by decide) d_Mo_init_217 rfl ?_
  refine x_aload_n (q := 221) hC d_Mo_init_220 rfl rfl rfl ?_
  refine x_bipush (q := 223) (v := nI 6) hC d_Mo_init_221 (by decide) rfl ?_
  refine x_newi (q := 225) (p := 213) (N := 6) (c1 := 28) (s1 := 1026) hC w_ac_int rfl rfl rfl (by decide) rfl rfl (by decide) (by decide) d_Mo_init_223 rfl ?_
  refine mx_eqG rfl rfl (zr_b (by intro j; show (mx_up mi 185 34 (nI 1)) 213 j = 0; rw [up_neP (by decide)]; exact hz _ _ (by decide))) ?_
  refine x_putr (q := 228) (p := 185) (j := 35) (r := 213) hC f_Mo_96 y_Mo rfl rfl rfl rfl rfl rfl (by omega) (by decide) d_Mo_init_225 rfl ?_
  refine mx_eqG rfl rfl (ub_c (p := 185) (u := u) (fun k => hu _ _ (by decide)) (by intro j; rcases j with _ | _ | _ | _ | _ | _ | _ | _ | _ | _ | _ | _ | _ | _ | _ | _ | _ | _ | _ | _ | _ | _ | _ | _ | _ | _ | _ | _ | _ | _ | _ | _ | _ | _ | _ | _ | j <;> rfl) (by intro q j hq; simp [mx_ub, mx_zu, hq])) ?_
  refine x_aload_n (q := 229) hC d_Mo_init_228 rfl rfl rfl ?_
  have J1 : mx_G Γ κ M_Mo_init (MQ (mx_b κ) (mx_Qc Γ (fun ρ τ => ρ = none ∧ τ = (214, u, Mo_init r mi))) (mx_a κ) (mx_s κ) M_Mo_init.2.2.2.2.cells M_Mo_init.2.2.2.2.slots (mx_fr Γ)) 241 [(0, .ref 185)] [.int (nI r), .ref 185] (214, u, mx_up mi 185 34 (nI 1)) 28 1026 := by
    refine x_puti (q := 244) (p := 185) (j := 0) hC f_Mo_103 y_Mo rfl rfl rfl rfl rfl (by omega) (by decide) d_Mo_init_241 rfl ?_
    refine x_iconst (q := 245) (v := nI 0) hC d_Mo_init_244 (by decide) rfl ?_
    refine x_istore_n (q := 246) (L1 := [(2, .int (nI 0)), (0, .ref 185)]) hC d_Mo_init_245 rfl (by decide) rfl rfl ?_
    refine x_sub (L1 := [(2, .int (nI 0)), (0, .ref 185)]) [0, 1] rfl ?_
    refine mx_loop (N := 18) (Hd := fun k m2 => mx_G Γ κ _ _ 246 [(2, .int (nI k)), (0, .ref 185)] [] (214, u, m2) 28 1026) (Mo_i1) (fun _ _ => True) trivial ?_ ?_ ?_
    · exact fun _ _ _ _ => trivial
    · intro k m2 hl3 hI4 hN5
      refine x_iload_n (q := 247) hC d_Mo_init_246 rfl rfl rfl ?_
      refine x_bipush (q := 249) (v := nI 18) hC d_Mo_init_247 (by decide) rfl ?_
      refine x_icmp_ge (tgt := 272) (q := 252) hC d_Mo_init_249 (by decide) rfl (fun h => absurd h (nI_ge hl3 (by decide))) (fun _ => ?_)
      refine x_aload_n (q := 253) hC d_Mo_init_252 rfl rfl rfl ?_
      refine x_getr (q := 256) (p := 185) (j := 7) (r := 191) hC f_Mo_26 rfl rfl rfl (by omega) (hu _ _ (by decide)) d_Mo_init_253 rfl ?_
      refine x_iload_n (q := 257) hC d_Mo_init_256 rfl rfl rfl ?_
      refine x_iconst (q := 258) (v := (-1)) hC d_Mo_init_257 (by decide) rfl ?_
      refine x_iast (q := 259) (p := 191) hC k rfl (by omega) (by omega) rfl (by omega) (by decide) d_Mo_init_258 rfl ?_
      refine x_aload_n (q := 260) hC d_Mo_init_259 rfl rfl rfl ?_
      refine x_getr (q := 263) (p := 185) (j := 8) (r := 192) hC f_Mo_29 rfl rfl rfl (by omega) (hu _ _ (by decide)) d_Mo_init_260 rfl ?_
      refine x_iload_n (q := 264) hC d_Mo_init_263 rfl rfl rfl ?_
      refine x_iconst (q := 265) (v := (-1)) hC d_Mo_init_264 (by decide) rfl ?_
      refine x_iast (q := 266) (p := 192) hC k rfl (by omega) (by omega) rfl (by omega) (by decide) d_Mo_init_265 rfl ?_
      refine x_iinc (q := 269) (y := nI (k + 1)) (L1 := [(2, .int (nI (k + 1))), (0, .ref 185)]) hC d_Mo_init_266 rfl (mx_inc k) (by decide) rfl rfl ?_
      refine x_goto (tgt := 246) hC d_Mo_init_269 (by decide) ?_
      exact x_close hN5 [0, 1] rfl (by rfl)
    · intro hx6
      refine mx_nr (fun m7 e8 => ?_)
      try rw [e8] at hx6
      refine x_iload_n (q := 247) hC d_Mo_init_246 rfl rfl rfl ?_
      refine x_bipush (q := 249) (v := nI 18) hC d_Mo_init_247 (by decide) rfl ?_
      refine x_icmp_ge (tgt := 272) (q := 252) hC d_Mo_init_249 (by decide) rfl (fun _ => ?_) (fun h => absurd (nI_le (Nat.le_refl _) (by decide)) h)
      refine x_iconst (q := 273) (v := nI 0) hC d_Mo_init_272 (by decide) rfl ?_
      refine x_istore_n (q := 274) (L1 := [(2, .int (nI 0)), (0, .ref 185)]) hC d_Mo_init_273 rfl (by decide) rfl rfl ?_
      refine x_sub (L1 := [(2, .int (nI 0)), (0, .ref 185)]) [0, 1] rfl ?_
      refine mx_loop (N := 108) (Hd := fun k m9 => mx_G Γ κ _ _ 274 [(2, .int (nI k)), (0, .ref 185)] [] (214, u, m9) 28 1026) (Mo_i2) (fun _ _ => True) trivial ?_ ?_ ?_
      · exact fun _ _ _ _ => trivial
      · intro k m9 hl10 hI11 hN12
        refine x_iload_n (q := 275) hC d_Mo_init_274 rfl rfl rfl ?_
        refine x_bipush (q := 277) (v := nI 108) hC d_Mo_init_275 (by decide) rfl ?_
        refine x_icmp_ge (tgt := 300) (q := 280) hC d_Mo_init_277 (by decide) rfl (fun h => absurd h (nI_ge hl10 (by decide))) (fun _ => ?_)
        refine x_aload_n (q := 281) hC d_Mo_init_280 rfl rfl rfl ?_
        refine x_getr (q := 284) (p := 185) (j := 10) (r := 194) hC f_Mo_35 rfl rfl rfl (by omega) (hu _ _ (by decide)) d_Mo_init_281 rfl ?_
        refine x_iload_n (q := 285) hC d_Mo_init_284 rfl rfl rfl ?_
        refine x_iconst (q := 286) (v := (-1)) hC d_Mo_init_285 (by decide) rfl ?_
        refine x_iast (q := 287) (p := 194) hC k rfl (by omega) (by omega) rfl (by omega) (by decide) d_Mo_init_286 rfl ?_
        refine x_aload_n (q := 288) hC d_Mo_init_287 rfl rfl rfl ?_
        refine x_getr (q := 291) (p := 185) (j := 12) (r := 196) hC f_Mo_41 rfl rfl rfl (by omega) (hu _ _ (by decide)) d_Mo_init_288 rfl ?_
        refine x_iload_n (q := 292) hC d_Mo_init_291 rfl rfl rfl ?_
        refine x_iconst (q := 293) (v := (-1)) hC d_Mo_init_292 (by decide) rfl ?_
        refine x_iast (q := 294) (p := 196) hC k rfl (by omega) (by omega) rfl (by omega) (by decide) d_Mo_init_293 rfl ?_
        refine x_iinc (q := 297) (y := nI (k + 1)) (L1 := [(2, .int (nI (k + 1))), (0, .ref 185)]) hC d_Mo_init_294 rfl (mx_inc k) (by decide) rfl rfl ?_
        refine x_goto (tgt := 274) hC d_Mo_init_297 (by decide) ?_
        exact x_close hN12 [0, 1] rfl (by rfl)
      · intro hx13
        refine mx_nr (fun m14 e15 => ?_)
        try rw [e15] at hx13
        refine x_iload_n (q := 275) hC d_Mo_init_274 rfl rfl rfl ?_
        refine x_bipush (q := 277) (v := nI 108) hC d_Mo_init_275 (by decide) rfl ?_
        refine x_icmp_ge (tgt := 300) (q := 280) hC d_Mo_init_277 (by decide) rfl (fun _ => ?_) (fun h => absurd (nI_le (Nat.le_refl _) (by decide)) h)
        refine x_aload_n (q := 301) hC d_Mo_init_300 rfl rfl rfl ?_
        refine x_callV (q := 304) (p := 185) (A := []) (S := []) (c1 := 28) (s1 := 1026) hC (c_Mo_ways  (by omega) hu  ) s_Mo_init_106 rfl (by omega) rfl rfl rfl (Nat.le_of_ble_eq_true rfl) rfl rfl (by decide) (by decide) d_Mo_init_301 rfl (fun r τ hP => ?_)
        obtain ⟨rfl, rfl⟩ := hP
        show mx_G Γ κ _ _ 304 [(2, .int (nI 108)), (0, .ref 185)] [] (214, u, Mo_ways m14) 28 1026
        subst e15
        subst e8
        exact x_vret hC rfl ⟨rfl, rfl⟩ (by decide) (by decide) d_Mo_init_304
  refine x_iload_n (q := 230) hC d_Mo_init_229 rfl rfl rfl ?_
  refine x_callS (q := 233) (A := [.int x]) (S := [.ref 185]) (c1 := 28) (s1 := 1026) hC (c_Mo_router (x := x)) s_Mo_init_99 rfl rfl rfl (Nat.le_of_ble_eq_true rfl) rfl rfl (by decide) (by decide) d_Mo_init_230 rfl (fun r τ hP => ?_)
  obtain ⟨rfl, rfl⟩ := hP
  show mx_G Γ κ _ _ 233 [(0, .ref 185), (1, .int x)] [.int (bz (rt x)), .ref 185] (214, u, mx_up mi 185 34 (nI 1)) 28 1026
  refine x_if_eq (tgt := 240) (q := 236) hC d_Mo_init_233 (by decide) rfl (fun h233 => ?_) (fun h233 => ?_)
  · have h233 := bz_0 h233
    refine x_iconst (q := 241) (v := nI 0) hC d_Mo_init_240 (by decide) rfl ?_
    exact x_sub (L1 := [(0, .ref 185)]) [0] rfl (mx_eqG rfl (by rw [hr0 h233]) rfl J1)
  · have h233 := bz_1 h233
    refine x_iload_n (q := 237) hC d_Mo_init_236 rfl rfl rfl ?_
    refine x_goto (tgt := 241) hC d_Mo_init_237 (by decide) ?_
    exact x_sub (L1 := [(0, .ref 185)]) [0] rfl (mx_eqG rfl (by rw [← hr1 h233]) rfl J1)
set_option maxRecDepth 100000 in
set_option maxHeartbeats 1000000 in
theorem c_MT_init {Γ : mx_X} {lau : Launch} {u : Nat → Nat → Bool} {mi : mx_Mm} {r : Nat} {x : Int32} (hu : ∀ p k, 2 ≤ p → u p k = true) (hz : ∀ q j, 2 ≤ q → mi q j = 0) (hr1 : rt x → x = nI r) (hr0 : ¬ rt x → r = 0) (hu1 : ∀ k, u 1 k = true) : mx_C Γ lau M_MT_init [.ref 1, .int x] (2, mx_zu u 1 8, mi) (fun ρ τ => ρ = none ∧ τ = (185, u, MT_init r mi)) := by
  refine mx_C.intro (by decide) rfl (Nat.le_of_ble_eq_true rfl) (fun κ _ hC => ?_)
  show mx_G Γ κ _ _ 0 [(0, .ref 1), (1, .int x)] [] (2, mx_zu u 1 8, mi) 0 0
  refine x_aload_n (q := 1) hC d_MT_init_0 rfl rfl rfl ?_
  refine x_obj (q := 4) hC so_MT_init_3 (by decide) (by decide) rfl (Nat.le_of_ble_eq_true rfl) d_MT_init_1 rfl ?_
  have J1 : mx_G Γ κ M_MT_init (MQ (mx_b κ) (mx_Qc Γ (fun ρ τ => ρ = none ∧ τ = (185, u, MT_init r mi))) (mx_a κ) (mx_s κ) M_MT_init.2.2.2.2.cells M_MT_init.2.2.2.2.slots (mx_fr Γ)) 17 [(2, .int (nI r)), (0, .ref 1)] [] (2, mx_zu u 1 8, mi) 0 0 := by
    refine x_aload_n (q := 18) hC d_MT_init_17 rfl rfl rfl ?_
    refine x_new (q := 21) (p := 2) (c1 := 1) (s1 := 1) hC sn_MT_init_13 rfl rfl rfl rfl (by decide) (by decide) d_MT_init_18 rfl ?_
    refine mx_eqG rfl rfl (zr_b (fun j => hz _ _ (by decide))) ?_
    refine x_dup (q := 22) hC d_MT_init_21 rfl rfl ?_
    have hU22 : ∀ p k, 2 ≤ p → (mx_zu u 1 8) p k = true := by
      intro p k hp
      have h1 : ¬ p = 1 := by omega
      simp [mx_ub, mx_zu, h1, hu p k hp]
    refine x_callIN (q := 25) (p := 2) (A := []) (S := [.ref 2, .ref 1]) (c1 := 1) (s1 := 1) hC (c_Ck_init (u := (mx_zu u 1 8)) hU22 (fun q j hq => hz q j (by omega))) s_MT_init_15 rfl rfl rfl (Nat.le_of_ble_eq_true rfl) rfl rfl (by decide) (by decide) d_MT_init_22 rfl (fun r τ hP => ?_)
    obtain ⟨rfl, rfl⟩ := hP
    show mx_G Γ κ _ _ 25 [(2, .int (nI r)), (0, .ref 1)] [.ref 2, .ref 1] (3, mx_zu u 1 8, mx_up mi 2 0 (nI 0)) 1 1
    refine mx_nr (fun n1 f1 => ?_)
    have hz1 : ∀ q j, 3 ≤ q → n1 q j = 0 := fun q j hq => by rw [← f1]; exact (up_neP (by omega)).trans (hz q j (by omega))
    refine x_putrF (q := 28) (p := 1) (j := 0) (r := 2) hC f_MT_16 y_MT rfl rfl rfl rfl rfl rfl rfl rfl (by omega) (by decide) d_MT_init_25 rfl ?_
    refine x_aload_n (q := 29) hC d_MT_init_28 rfl rfl rfl ?_
    refine x_new (q := 32) (p := 3) (c1 := 2) (s1 := 2) hC sn_MT_init_20 rfl rfl rfl rfl (by decide) (by decide) d_MT_init_29 rfl ?_
    refine mx_eqG rfl rfl (zr_b (fun j => hz1 _ _ (by decide))) ?_
    refine x_dup (q := 33) hC d_MT_init_32 rfl rfl ?_
    have hU33 : ∀ p k, 2 ≤ p → (mx_ub (mx_zu u 1 8) 1 0) p k = true := by
      intro p k hp
      have h1 : ¬ p = 1 := by omega
      simp [mx_ub, mx_zu, h1, hu p k hp]
    refine x_callIN (q := 36) (p := 3) (A := []) (S := [.ref 3, .ref 1]) (c1 := 3) (s1 := 12) hC (c_Ta_init (u := (mx_ub (mx_zu u 1 8) 1 0)) hU33 (fun q j hq => hz1 q j (by omega))) s_MT_init_22 rfl rfl rfl (Nat.le_of_ble_eq_true rfl) rfl rfl (by decide) (by decide) d_MT_init_33 rfl (fun r τ hP => ?_)
    obtain ⟨rfl, rfl⟩ := hP
    show mx_G Γ κ _ _ 36 [(2, .int (nI r)), (0, .ref 1)] [.ref 3, .ref 1] (5, mx_ub (mx_zu u 1 8) 1 0, n1) 3 12
    refine x_putrF (q := 39) (p := 1) (j := 1) (r := 3) hC f_MT_23 y_MT rfl rfl rfl rfl rfl rfl rfl rfl (by omega) (by decide) d_MT_init_36 rfl ?_
    refine x_aload_n (q := 40) hC d_MT_init_39 rfl rfl rfl ?_
    refine x_new (q := 43) (p := 5) (c1 := 4) (s1 := 16) hC sn_MT_init_27 rfl rfl rfl rfl (by decide) (by decide) d_MT_init_40 rfl ?_
    refine mx_eqG rfl rfl (zr_b (fun j => hz1 _ _ (by decide))) ?_
    refine x_dup (q := 44) hC d_MT_init_43 rfl rfl ?_
    have hU44 : ∀ p k, 2 ≤ p → (mx_ub (mx_ub (mx_zu u 1 8) 1 0) 1 1) p k = true := by
      intro p k hp
      have h1 : ¬ p = 1 := by omega
      simp [mx_ub, mx_zu, h1, hu p k hp]
    refine x_callI (q := 47) (p := 5) (A := []) (S := [.ref 5, .ref 1]) (c1 := 32) (s1 := 184) hC (c_Ne_init (u := (mx_ub (mx_ub (mx_zu u 1 8) 1 0) 1 1)) hU44 (fun q j hq => hz1 q j (by omega))) s_MT_init_29 rfl rfl rfl (Nat.le_of_ble_eq_true rfl) rfl rfl (by decide) (by decide) d_MT_init_44 rfl (fun r τ hP => ?_)
    obtain ⟨rfl, rfl⟩ := hP
    show mx_G Γ κ _ _ 47 [(2, .int (nI r)), (0, .ref 1)] [.ref 5, .ref 1] (34, mx_ub (mx_ub (mx_zu u 1 8) 1 0) 1 1, Ne_measure n1) 32 184
    refine mx_nr (fun n2 f2 => ?_)
    have hz2 : ∀ q j, 34 ≤ q → n2 q j = 0 := fun q j hq => by rw [← f2]; exact (ft_meas _ q j hq).trans (hz1 q j (by omega))
    refine x_putrF (q := 50) (p := 1) (j := 2) (r := 5) hC f_MT_30 y_MT rfl rfl rfl rfl rfl rfl rfl rfl (by omega) (by decide) d_MT_init_47 rfl ?_
    refine x_aload_n (q := 51) hC d_MT_init_50 rfl rfl rfl ?_
    refine x_new (q := 54) (p := 34) (c1 := 33) (s1 := 189) hC sn_MT_init_34 rfl rfl rfl rfl (by decide) (by decide) d_MT_init_51 rfl ?_
    refine mx_eqG rfl rfl (zr_b (fun j => hz2 _ _ (by decide))) ?_
    refine x_dup (q := 55) hC d_MT_init_54 rfl rfl ?_
    refine x_aload_n (q := 56) hC d_MT_init_55 rfl rfl rfl ?_
    refine x_getr (q := 59) (p := 1) (j := 0) (r := 2) hC f_MT_16 rfl rfl rfl (by omega) (by simp [mx_ub, mx_zu]) d_MT_init_56 rfl ?_
    have hU59 : ∀ p k, 2 ≤ p → (mx_ub (mx_ub (mx_ub (mx_zu u 1 8) 1 0) 1 1) 1 2) p k = true := by
      intro p k hp
      have h1 : ¬ p = 1 := by omega
      simp [mx_ub, mx_zu, h1, hu p k hp]
    refine x_callI (q := 62) (p := 34) (A := [.ref 2]) (S := [.ref 34, .ref 1]) (c1 := 55) (s1 := 267) hC (c_La_init (u := (mx_ub (mx_ub (mx_ub (mx_zu u 1 8) 1 0) 1 1) 1 2)) hU59 (fun q j hq => hz2 q j (by omega))) s_MT_init_36 rfl rfl rfl (Nat.le_of_ble_eq_true rfl) rfl rfl (by decide) (by decide) d_MT_init_59 rfl (fun r τ hP => ?_)
    obtain ⟨rfl, rfl⟩ := hP
    show mx_G Γ κ _ _ 62 [(2, .int (nI r)), (0, .ref 1)] [.ref 34, .ref 1] (57, mx_ub (mx_ub (mx_ub (mx_zu u 1 8) 1 0) 1 1) 1 2, La_init n2) 55 267
    refine mx_nr (fun n3 f3 => ?_)
    have hz3 : ∀ q j, 57 ≤ q → n3 q j = 0 := fun q j hq => by rw [← f3]; exact (ft_lai _ q j hq).trans (hz2 q j (by omega))
    refine x_putrF (q := 65) (p := 1) (j := 3) (r := 34) hC f_MT_39 y_MT rfl rfl rfl rfl rfl rfl rfl rfl (by omega) (by decide) d_MT_init_62 rfl ?_
    refine x_aload_n (q := 66) hC d_MT_init_65 rfl rfl rfl ?_
    refine x_new (q := 69) (p := 57) (c1 := 56) (s1 := 271) hC sn_MT_init_43 rfl rfl rfl rfl (by decide) (by decide) d_MT_init_66 rfl ?_
    refine mx_eqG rfl rfl (zr_b (fun j => hz3 _ _ (by decide))) ?_
    refine x_dup (q := 70) hC d_MT_init_69 rfl rfl ?_
    refine x_aload_n (q := 71) hC d_MT_init_70 rfl rfl rfl ?_
    refine x_getr (q := 74) (p := 1) (j := 0) (r := 2) hC f_MT_16 rfl rfl rfl (by omega) (by simp [mx_ub, mx_zu]) d_MT_init_71 rfl ?_
    have hU74 : ∀ p k, 2 ≤ p → (mx_ub (mx_ub (mx_ub (mx_ub (mx_zu u 1 8) 1 0) 1 1) 1 2) 1 3) p k = true := by
      intro p k hp
      have h1 : ¬ p = 1 := by omega
      simp [mx_ub, mx_zu, h1, hu p k hp]
    refine x_callI (q := 77) (p := 57) (A := [.ref 2]) (S := [.ref 57, .ref 1]) (c1 := 77) (s1 := 433) hC (c_Sm_init (u := (mx_ub (mx_ub (mx_ub (mx_ub (mx_zu u 1 8) 1 0) 1 1) 1 2) 1 3)) hU74 (fun q j hq => hz3 q j (by omega))) s_MT_init_45 rfl rfl rfl (Nat.le_of_ble_eq_true rfl) rfl rfl (by decide) (by decide) d_MT_init_74 rfl (fun r τ hP => ?_)
    obtain ⟨rfl, rfl⟩ := hP
    show mx_G Γ κ _ _ 77 [(2, .int (nI r)), (0, .ref 1)] [.ref 57, .ref 1] (79, mx_ub (mx_ub (mx_ub (mx_ub (mx_zu u 1 8) 1 0) 1 1) 1 2) 1 3, n3) 77 433
    refine x_putrF (q := 80) (p := 1) (j := 4) (r := 57) hC f_MT_46 y_MT rfl rfl rfl rfl rfl rfl rfl rfl (by omega) (by decide) d_MT_init_77 rfl ?_
    refine x_aload_n (q := 81) hC d_MT_init_80 rfl rfl rfl ?_
    refine x_new (q := 84) (p := 79) (c1 := 78) (s1 := 445) hC sn_MT_init_50 rfl rfl rfl rfl (by decide) (by decide) d_MT_init_81 rfl ?_
    refine mx_eqG rfl rfl (zr_b (fun j => hz3 _ _ (by decide))) ?_
    refine x_dup (q := 85) hC d_MT_init_84 rfl rfl ?_
    refine x_iload_n (q := 86) hC d_MT_init_85 rfl rfl rfl ?_
    refine x_aload_n (q := 87) hC d_MT_init_86 rfl rfl rfl ?_
    refine x_getr (q := 90) (p := 1) (j := 2) (r := 5) hC f_MT_30 rfl rfl rfl (by omega) (by simp [mx_ub, mx_zu]) d_MT_init_87 rfl ?_
    refine x_aload_n (q := 91) hC d_MT_init_90 rfl rfl rfl ?_
    refine x_getr (q := 94) (p := 1) (j := 3) (r := 34) hC f_MT_39 rfl rfl rfl (by omega) (by simp [mx_ub, mx_zu]) d_MT_init_91 rfl ?_
    refine x_aload_n (q := 95) hC d_MT_init_94 rfl rfl rfl ?_
    refine x_getr (q := 98) (p := 1) (j := 4) (r := 57) hC f_MT_46 rfl rfl rfl (by omega) (by simp [mx_ub, mx_zu]) d_MT_init_95 rfl ?_
    refine x_aload_n (q := 99) hC d_MT_init_98 rfl rfl rfl ?_
    refine x_getr (q := 102) (p := 1) (j := 1) (r := 3) hC f_MT_23 rfl rfl rfl (by omega) (by simp [mx_ub, mx_zu]) d_MT_init_99 rfl ?_
    have hU102 : ∀ p k, 2 ≤ p → (mx_ub (mx_ub (mx_ub (mx_ub (mx_ub (mx_zu u 1 8) 1 0) 1 1) 1 2) 1 3) 1 4) p k = true := by
      intro p k hp
      have h1 : ¬ p = 1 := by omega
      simp [mx_ub, mx_zu, h1, hu p k hp]
    refine x_callI (q := 105) (p := 79) (A := [.int (nI r), .ref 5, .ref 34, .ref 57, .ref 3]) (S := [.ref 79, .ref 1]) (c1 := 163) (s1 := 997) hC (c_Tr_init (r := r) (u := (mx_ub (mx_ub (mx_ub (mx_ub (mx_ub (mx_zu u 1 8) 1 0) 1 1) 1 2) 1 3) 1 4)) hU102 (fun q j hq => hz3 q j (by omega))) s_MT_init_52 rfl rfl rfl (Nat.le_of_ble_eq_true rfl) rfl rfl (by decide) (by decide) d_MT_init_102 rfl (fun r τ hP => ?_)
    obtain ⟨rfl, rfl⟩ := hP
    show mx_G Γ κ _ _ 105 [(2, .int (nI r)), (0, .ref 1)] [.ref 79, .ref 1] (165, mx_ub (mx_ub (mx_ub (mx_ub (mx_ub (mx_zu u 1 8) 1 0) 1 1) 1 2) 1 3) 1 4, Tr_init r n3) 163 997
    refine mx_nr (fun n4 f4 => ?_)
    have hz4 : ∀ q j, 165 ≤ q → n4 q j = 0 := fun q j hq => by rw [← f4]; exact (ft_tri _ q j hq).trans (hz3 q j (by omega))
    refine x_putrF (q := 108) (p := 1) (j := 5) (r := 79) hC f_MT_55 y_MT rfl rfl rfl rfl rfl rfl rfl rfl (by omega) (by decide) d_MT_init_105 rfl ?_
    refine x_aload_n (q := 109) hC d_MT_init_108 rfl rfl rfl ?_
    refine x_new (q := 112) (p := 165) (c1 := 164) (s1 := 1009) hC sn_MT_init_59 rfl rfl rfl rfl (by decide) (by decide) d_MT_init_109 rfl ?_
    refine mx_eqG rfl rfl (zr_b (fun j => hz4 _ _ (by decide))) ?_
    refine x_dup (q := 113) hC d_MT_init_112 rfl rfl ?_
    refine x_aload_n (q := 114) hC d_MT_init_113 rfl rfl rfl ?_
    refine x_getr (q := 117) (p := 1) (j := 2) (r := 5) hC f_MT_30 rfl rfl rfl (by omega) (by simp [mx_ub, mx_zu]) d_MT_init_114 rfl ?_
    refine x_aload_n (q := 118) hC d_MT_init_117 rfl rfl rfl ?_
    refine x_getr (q := 121) (p := 1) (j := 3) (r := 34) hC f_MT_39 rfl rfl rfl (by omega) (by simp [mx_ub, mx_zu]) d_MT_init_118 rfl ?_
    refine x_aload_n (q := 122) hC d_MT_init_121 rfl rfl rfl ?_
    refine x_getr (q := 125) (p := 1) (j := 4) (r := 57) hC f_MT_46 rfl rfl rfl (by omega) (by simp [mx_ub, mx_zu]) d_MT_init_122 rfl ?_
    refine x_aload_n (q := 126) hC d_MT_init_125 rfl rfl rfl ?_
    refine x_getr (q := 129) (p := 1) (j := 5) (r := 79) hC f_MT_55 rfl rfl rfl (by omega) (by simp [mx_ub, mx_zu]) d_MT_init_126 rfl ?_
    refine x_aload_n (q := 130) hC d_MT_init_129 rfl rfl rfl ?_
    refine x_getr (q := 133) (p := 1) (j := 1) (r := 3) hC f_MT_23 rfl rfl rfl (by omega) (by simp [mx_ub, mx_zu]) d_MT_init_130 rfl ?_
    have hU133 : ∀ p k, 2 ≤ p → (mx_ub (mx_ub (mx_ub (mx_ub (mx_ub (mx_ub (mx_zu u 1 8) 1 0) 1 1) 1 2) 1 3) 1 4) 1 5) p k = true := by
      intro p k hp
      have h1 : ¬ p = 1 := by omega
      simp [mx_ub, mx_zu, h1, hu p k hp]
    refine x_callI (q := 136) (p := 165) (A := [.ref 5, .ref 34, .ref 57, .ref 79, .ref 3]) (S := [.ref 165, .ref 1]) (c1 := 166) (s1 := 1021) hC (c_Pa_init (u := (mx_ub (mx_ub (mx_ub (mx_ub (mx_ub (mx_ub (mx_zu u 1 8) 1 0) 1 1) 1 2) 1 3) 1 4) 1 5)) hU133 (fun q j hq => hz4 q j (by omega))) s_MT_init_61 rfl rfl rfl (Nat.le_of_ble_eq_true rfl) rfl rfl (by decide) (by decide) d_MT_init_133 rfl (fun r τ hP => ?_)
    obtain ⟨rfl, rfl⟩ := hP
    show mx_G Γ κ _ _ 136 [(2, .int (nI r)), (0, .ref 1)] [.ref 165, .ref 1] (168, mx_ub (mx_ub (mx_ub (mx_ub (mx_ub (mx_ub (mx_zu u 1 8) 1 0) 1 1) 1 2) 1 3) 1 4) 1 5, Pa_init n4) 166 1021
    refine mx_nr (fun n5 f5 => ?_)
    have hz5 : ∀ q j, 168 ≤ q → n5 q j = 0 := fun q j hq => by rw [← f5]; exact (ft_pai _ q j hq).trans (hz4 q j (by omega))
    refine x_putrF (q := 139) (p := 1) (j := 6) (r := 165) hC f_MT_64 y_MT rfl rfl rfl rfl rfl rfl rfl rfl (by omega) (by decide) d_MT_init_136 rfl ?_
    refine x_aload_n (q := 140) hC d_MT_init_139 rfl rfl rfl ?_
    refine x_new (q := 143) (p := 168) (c1 := 167) (s1 := 1034) hC sn_MT_init_68 rfl rfl rfl rfl (by decide) (by decide) d_MT_init_140 rfl ?_
    refine mx_eqG rfl rfl (zr_b (fun j => hz5 _ _ (by decide))) ?_
    refine x_dup (q := 144) hC d_MT_init_143 rfl rfl ?_
    refine x_aload_n (q := 145) hC d_MT_init_144 rfl rfl rfl ?_
    refine x_getr (q := 148) (p := 1) (j := 2) (r := 5) hC f_MT_30 rfl rfl rfl (by omega) (by simp [mx_ub, mx_zu]) d_MT_init_145 rfl ?_
    refine x_aload_n (q := 149) hC d_MT_init_148 rfl rfl rfl ?_
    refine x_getr (q := 152) (p := 1) (j := 3) (r := 34) hC f_MT_39 rfl rfl rfl (by omega) (by simp [mx_ub, mx_zu]) d_MT_init_149 rfl ?_
    refine x_aload_n (q := 153) hC d_MT_init_152 rfl rfl rfl ?_
    refine x_getr (q := 156) (p := 1) (j := 1) (r := 3) hC f_MT_23 rfl rfl rfl (by omega) (by simp [mx_ub, mx_zu]) d_MT_init_153 rfl ?_
    have hU156 : ∀ p k, 2 ≤ p → (mx_ub (mx_ub (mx_ub (mx_ub (mx_ub (mx_ub (mx_ub (mx_zu u 1 8) 1 0) 1 1) 1 2) 1 3) 1 4) 1 5) 1 6) p k = true := by
      intro p k hp
      have h1 : ¬ p = 1 := by omega
      simp [mx_ub, mx_zu, h1, hu p k hp]
    refine x_callI (q := 159) (p := 168) (A := [.ref 5, .ref 34, .ref 3]) (S := [.ref 168, .ref 1]) (c1 := 183) (s1 := 1116) hC (c_Fi_init (u := (mx_ub (mx_ub (mx_ub (mx_ub (mx_ub (mx_ub (mx_ub (mx_zu u 1 8) 1 0) 1 1) 1 2) 1 3) 1 4) 1 5) 1 6)) hU156 (fun q j hq => hz5 q j (by omega))) s_MT_init_70 rfl rfl rfl (Nat.le_of_ble_eq_true rfl) rfl rfl (by decide) (by decide) d_MT_init_156 rfl (fun r τ hP => ?_)
    obtain ⟨rfl, rfl⟩ := hP
    show mx_G Γ κ _ _ 159 [(2, .int (nI r)), (0, .ref 1)] [.ref 168, .ref 1] (185, mx_ub (mx_ub (mx_ub (mx_ub (mx_ub (mx_ub (mx_ub (mx_zu u 1 8) 1 0) 1 1) 1 2) 1 3) 1 4) 1 5) 1 6, Fi_init n5) 183 1116
    refine x_putrF (q := 162) (p := 1) (j := 7) (r := 168) hC f_MT_73 y_MT rfl rfl rfl rfl rfl rfl rfl rfl (by omega) (by decide) d_MT_init_159 rfl ?_
    refine mx_eqG rfl rfl (ub_c (p := 1) (u := u) (fun k => hu1 k) (by intro j; rcases j with _ | _ | _ | _ | _ | _ | _ | _ | j <;> rfl) (by intro q j hq; simp [mx_ub, mx_zu, hq])) ?_
    subst f5
    subst f4
    subst f3
    subst f2
    subst f1
    exact x_vret hC rfl ⟨rfl, rfl⟩ (by decide) (by decide) d_MT_init_162
  refine x_iload_n (q := 5) hC d_MT_init_4 rfl rfl rfl ?_
  refine x_callS (q := 8) (A := [.int x]) (S := []) (c1 := 0) (s1 := 0) hC (c_MT_isRouter) s_MT_init_9 rfl rfl rfl (Nat.le_of_ble_eq_true rfl) rfl rfl (by decide) (by decide) d_MT_init_5 rfl (fun r τ hP => ?_)
  obtain ⟨rfl, rfl⟩ := hP
  show mx_G Γ κ _ _ 8 [(0, .ref 1), (1, .int x)] [.int (bz (0 ≤ x ∧ x < nI 6))] (2, mx_zu u 1 8, mi) 0 0
  refine x_if_eq (tgt := 15) (q := 11) hC d_MT_init_8 (by decide) rfl (fun h8 => ?_) (fun h8 => ?_)
  · have h8 := bz_0 h8
    refine x_iconst (q := 16) (v := nI 0) hC d_MT_init_15 (by decide) rfl ?_
    refine x_istore_n (q := 17) (L1 := [(2, .int (nI 0)), (0, .ref 1), (1, .int x)]) hC d_MT_init_16 rfl (by decide) rfl rfl ?_
    exact x_sub (L1 := [(2, .int (nI 0)), (0, .ref 1)]) [0, 1] rfl (mx_eqG (by rw [hr0 h8]) rfl rfl J1)
  · have h8 := bz_1 h8
    refine x_iload_n (q := 12) hC d_MT_init_11 rfl rfl rfl ?_
    refine x_goto (tgt := 16) hC d_MT_init_12 (by decide) ?_
    refine x_istore_n (q := 17) (L1 := [(2, .int x), (0, .ref 1), (1, .int x)]) hC d_MT_init_16 rfl (by decide) rfl rfl ?_
    exact x_sub (L1 := [(2, .int x), (0, .ref 1)]) [0, 1] rfl (mx_eqG (by rw [← hr1 h8]) rfl rfl J1)
