/-! the law's calls, one by one -/
set_option maxRecDepth 100000 in
set_option maxHeartbeats 1000000 in
theorem lw_link {Γ : mx_X} {κ : mx_K} {Q : State → Prop} {u : Nat → Nat → Bool} {m : mx_Mm} {r t i : Nat} (hC : mx_Ctx Γ κ M_Lw_law) (hu : ∀ p k, 2 ≤ p → u p k = true) (hu1 : ∀ k, u 1 k = true) (hr : r < 6) (hL : Γ.2.2.2 ≤ 2561) (hi : i + 5 ≤ Γ.2.2.2) (h : Sim r t m m) (ht : t ≤ 100000) (K : ∀ m' t', t' ≤ t + 10 → Sim r t' m' m' → mx_G Γ κ M_Lw_law Q 752 [(3, .int (nI i)), (2, .ref 185), (1, .ref 1), (0, .ref 0)] [] (214, u, m') 213 2186) : mx_G Γ κ M_Lw_law Q 136 [(3, .int (nI i)), (2, .ref 185), (1, .ref 1), (0, .ref 0)] [] (214, u, m) 213 2186 := by
  refine x_aload_n (q := 137) hC d_Lw_law_136 rfl rfl rfl ?_
  refine x_aload_n (q := 138) hC d_Lw_law_137 rfl rfl rfl ?_
  refine x_iload_n (q := 139) hC d_Lw_law_138 rfl rfl rfl ?_
  refine x_iconst (q := 140) (v := nI 1) hC d_Lw_law_139 (by decide) rfl ?_
  refine x_iadd (q := 141) (z := nI (i + 1)) hC d_Lw_law_140 (nI_add _ _) rfl ?_
  refine x_sld (q := 142) (p := 0) hC (i + 1) rfl (Nat.le_of_ble_eq_true rfl) rfl (by omega) (by omega) d_Lw_law_141 rfl ?_
  refine x_aload_n (q := 143) hC d_Lw_law_142 rfl rfl rfl ?_
  refine x_iload_n (q := 144) hC d_Lw_law_143 rfl rfl rfl ?_
  refine x_iconst (q := 145) (v := nI 2) hC d_Lw_law_144 (by decide) rfl ?_
  refine x_iadd (q := 146) (z := nI (i + 2)) hC d_Lw_law_145 (nI_add _ _) rfl ?_
  refine x_sld (q := 147) (p := 0) hC (i + 2) rfl (Nat.le_of_ble_eq_true rfl) rfl (by omega) (by omega) d_Lw_law_146 rfl ?_
  refine x_aload_n (q := 148) hC d_Lw_law_147 rfl rfl rfl ?_
  refine x_iload_n (q := 149) hC d_Lw_law_148 rfl rfl rfl ?_
  refine x_iconst (q := 150) (v := nI 3) hC d_Lw_law_149 (by decide) rfl ?_
  refine x_iadd (q := 151) (z := nI (i + 3)) hC d_Lw_law_150 (nI_add _ _) rfl ?_
  refine x_sld (q := 152) (p := 0) hC (i + 3) rfl (Nat.le_of_ble_eq_true rfl) rfl (by omega) (by omega) d_Lw_law_151 rfl ?_
  refine x_callV (q := 155) (p := 1) (A := [.int (m 0 (i + 1)), .int (m 0 (i + 2)), .int (m 0 (i + 3))]) (S := []) (c1 := 213) (s1 := 2186) hC (c_MT_link (Nat.le_of_ble_eq_true rfl) hu hu1 hr h.tr) s_Lw_law_21 rfl (Nat.le_of_ble_eq_true rfl) rfl rfl rfl (Nat.le_of_ble_eq_true rfl) rfl rfl (by decide) (by decide) d_Lw_law_152 rfl (fun r τ hP => ?_)
  obtain ⟨rfl, rfl⟩ := hP
  show mx_G Γ κ _ _ 155 [(3, .int (nI i)), (2, .ref 185), (1, .ref 1), (0, .ref 0)] [.int (bz (C_lkP (m 0 (i + 1)) (m 0 (i + 2)) (m 0 (i + 3)) m))] (214, u, C_link r (m 0 (i + 1)) (m 0 (i + 2)) (m 0 (i + 3)) m) 213 2186
  refine mx_nr (fun m1 e1 => ?_)
  have f1 := (sim_link (x := m 0 (i + 1)) (y := m 0 (i + 2)) (c := m 0 (i + 3)) hr h).2.1
  rw [e1] at f1
  have hs := h.mid f1
  have z : ∀ j, m1 0 j = m 0 j := fun j => f1 0 j (Or.inl rfl)
  refine x_aload_n (q := 156) hC d_Lw_law_155 rfl rfl rfl ?_
  refine x_aload_n (q := 157) hC d_Lw_law_156 rfl rfl rfl ?_
  refine x_iload_n (q := 158) hC d_Lw_law_157 rfl rfl rfl ?_
  refine x_iconst (q := 159) (v := nI 1) hC d_Lw_law_158 (by decide) rfl ?_
  refine x_iadd (q := 160) (z := nI (i + 1)) hC d_Lw_law_159 (nI_add _ _) rfl ?_
  refine x_sld (q := 161) (p := 0) hC (i + 1) rfl (Nat.le_of_ble_eq_true rfl) rfl (by omega) (by omega) d_Lw_law_160 rfl ?_
  refine x_aload_n (q := 162) hC d_Lw_law_161 rfl rfl rfl ?_
  refine x_iload_n (q := 163) hC d_Lw_law_162 rfl rfl rfl ?_
  refine x_iconst (q := 164) (v := nI 2) hC d_Lw_law_163 (by decide) rfl ?_
  refine x_iadd (q := 165) (z := nI (i + 2)) hC d_Lw_law_164 (nI_add _ _) rfl ?_
  refine x_sld (q := 166) (p := 0) hC (i + 2) rfl (Nat.le_of_ble_eq_true rfl) rfl (by omega) (by omega) d_Lw_law_165 rfl ?_
  refine x_aload_n (q := 167) hC d_Lw_law_166 rfl rfl rfl ?_
  refine x_iload_n (q := 168) hC d_Lw_law_167 rfl rfl rfl ?_
  refine x_iconst (q := 169) (v := nI 3) hC d_Lw_law_168 (by decide) rfl ?_
  refine x_iadd (q := 170) (z := nI (i + 3)) hC d_Lw_law_169 (nI_add _ _) rfl ?_
  refine x_sld (q := 171) (p := 0) hC (i + 3) rfl (Nat.le_of_ble_eq_true rfl) rfl (by omega) (by omega) d_Lw_law_170 rfl ?_
  refine x_callV (q := 174) (p := 185) (A := [.int (m1 0 (i + 1)), .int (m1 0 (i + 2)), .int (m1 0 (i + 3))]) (S := [.int (bz (C_lkP (m 0 (i + 1)) (m 0 (i + 2)) (m 0 (i + 3)) m))]) (c1 := 213) (s1 := 2186) hC (c_Mo_link (Nat.le_of_ble_eq_true rfl) hu hr hs.mo) s_Lw_law_25 rfl (Nat.le_of_ble_eq_true rfl) rfl rfl rfl (Nat.le_of_ble_eq_true rfl) rfl rfl (by decide) (by decide) d_Lw_law_171 rfl (fun r τ hP => ?_)
  obtain ⟨rfl, rfl⟩ := hP
  show mx_G Γ κ _ _ 174 [(3, .int (nI i)), (2, .ref 185), (1, .ref 1), (0, .ref 0)] [.int (bz (D_lkP (m1 0 (i + 1)) (m1 0 (i + 2)) (m1 0 (i + 3)) m1)), .int (bz (C_lkP (m 0 (i + 1)) (m 0 (i + 2)) (m 0 (i + 3)) m))] (214, u, D_link r (m1 0 (i + 1)) (m1 0 (i + 2)) (m1 0 (i + 3)) m1) 213 2186
  have eq : bz (C_lkP (m 0 (i + 1)) (m 0 (i + 2)) (m 0 (i + 3)) m) = bz (D_lkP (m1 0 (i + 1)) (m1 0 (i + 2)) (m1 0 (i + 3)) m1) := bz_q (by rw [z, z, z]; exact sim_lkP hs)
  refine x_icmp_eq (tgt := 752) (q := 177) hC d_Lw_law_174 (by decide) rfl (fun _ => ?_) (fun hn => absurd eq hn)
  refine mx_nr (fun m2 e2 => ?_)
  rw [z, z, z] at e2
  have hq := sim_link (x := m 0 (i + 1)) (y := m 0 (i + 2)) (c := m 0 (i + 3)) hr hs
  rw [e1, e2] at hq
  exact K m2 t (by omega) (hq.1.two hq.2.2 (fun _ _ _ => rfl))
set_option maxRecDepth 100000 in
set_option maxHeartbeats 1000000 in
theorem lw_distance {Γ : mx_X} {κ : mx_K} {Q : State → Prop} {u : Nat → Nat → Bool} {m : mx_Mm} {r t i : Nat} (hC : mx_Ctx Γ κ M_Lw_law) (hu : ∀ p k, 2 ≤ p → u p k = true) (hu1 : ∀ k, u 1 k = true) (hr : r < 6) (hL : Γ.2.2.2 ≤ 2561) (hi : i + 5 ≤ Γ.2.2.2) (h : Sim r t m m) (ht : t ≤ 100000) (K : ∀ m' t', t' ≤ t + 10 → Sim r t' m' m' → mx_G Γ κ M_Lw_law Q 752 [(3, .int (nI i)), (2, .ref 185), (1, .ref 1), (0, .ref 0)] [] (214, u, m') 213 2186) : mx_G Γ κ M_Lw_law Q 179 [(3, .int (nI i)), (2, .ref 185), (1, .ref 1), (0, .ref 0)] [] (214, u, m) 213 2186 := by
  refine x_aload_n (q := 180) hC d_Lw_law_179 rfl rfl rfl ?_
  refine x_aload_n (q := 181) hC d_Lw_law_180 rfl rfl rfl ?_
  refine x_iload_n (q := 182) hC d_Lw_law_181 rfl rfl rfl ?_
  refine x_iconst (q := 183) (v := nI 1) hC d_Lw_law_182 (by decide) rfl ?_
  refine x_iadd (q := 184) (z := nI (i + 1)) hC d_Lw_law_183 (nI_add _ _) rfl ?_
  refine x_sld (q := 185) (p := 0) hC (i + 1) rfl (Nat.le_of_ble_eq_true rfl) rfl (by omega) (by omega) d_Lw_law_184 rfl ?_
  refine x_aload_n (q := 186) hC d_Lw_law_185 rfl rfl rfl ?_
  refine x_iload_n (q := 187) hC d_Lw_law_186 rfl rfl rfl ?_
  refine x_iconst (q := 188) (v := nI 2) hC d_Lw_law_187 (by decide) rfl ?_
  refine x_iadd (q := 189) (z := nI (i + 2)) hC d_Lw_law_188 (nI_add _ _) rfl ?_
  refine x_sld (q := 190) (p := 0) hC (i + 2) rfl (Nat.le_of_ble_eq_true rfl) rfl (by omega) (by omega) d_Lw_law_189 rfl ?_
  refine x_callV (q := 193) (p := 1) (A := [.int (m 0 (i + 1)), .int (m 0 (i + 2))]) (S := []) (c1 := 213) (s1 := 2186) hC (c_MT_distance (Nat.le_of_ble_eq_true rfl) hu hu1 ) s_Lw_law_26 rfl (Nat.le_of_ble_eq_true rfl) rfl rfl rfl (Nat.le_of_ble_eq_true rfl) rfl rfl (by decide) (by decide) d_Lw_law_190 rfl (fun r τ hP => ?_)
  obtain ⟨rfl, rfl⟩ := hP
  show mx_G Γ κ _ _ 193 [(3, .int (nI i)), (2, .ref 185), (1, .ref 1), (0, .ref 0)] [.int (C_dist (m 0 (i + 1)) (m 0 (i + 2)) m)] (214, u, m) 213 2186
  refine x_aload_n (q := 194) hC d_Lw_law_193 rfl rfl rfl ?_
  refine x_aload_n (q := 195) hC d_Lw_law_194 rfl rfl rfl ?_
  refine x_iload_n (q := 196) hC d_Lw_law_195 rfl rfl rfl ?_
  refine x_iconst (q := 197) (v := nI 1) hC d_Lw_law_196 (by decide) rfl ?_
  refine x_iadd (q := 198) (z := nI (i + 1)) hC d_Lw_law_197 (nI_add _ _) rfl ?_
  refine x_sld (q := 199) (p := 0) hC (i + 1) rfl (Nat.le_of_ble_eq_true rfl) rfl (by omega) (by omega) d_Lw_law_198 rfl ?_
  refine x_aload_n (q := 200) hC d_Lw_law_199 rfl rfl rfl ?_
  refine x_iload_n (q := 201) hC d_Lw_law_200 rfl rfl rfl ?_
  refine x_iconst (q := 202) (v := nI 2) hC d_Lw_law_201 (by decide) rfl ?_
  refine x_iadd (q := 203) (z := nI (i + 2)) hC d_Lw_law_202 (nI_add _ _) rfl ?_
  refine x_sld (q := 204) (p := 0) hC (i + 2) rfl (Nat.le_of_ble_eq_true rfl) rfl (by omega) (by omega) d_Lw_law_203 rfl ?_
  refine x_callV (q := 207) (p := 185) (A := [.int (m 0 (i + 1)), .int (m 0 (i + 2))]) (S := [.int (C_dist (m 0 (i + 1)) (m 0 (i + 2)) m)]) (c1 := 213) (s1 := 2186) hC (c_Mo_distance (Nat.le_of_ble_eq_true rfl) hu ) s_Lw_law_30 rfl (Nat.le_of_ble_eq_true rfl) rfl rfl rfl (Nat.le_of_ble_eq_true rfl) rfl rfl (by decide) (by decide) d_Lw_law_204 rfl (fun r τ hP => ?_)
  obtain ⟨rfl, rfl⟩ := hP
  show mx_G Γ κ _ _ 207 [(3, .int (nI i)), (2, .ref 185), (1, .ref 1), (0, .ref 0)] [.int (D_dist (m 0 (i + 1)) (m 0 (i + 2)) m), .int (C_dist (m 0 (i + 1)) (m 0 (i + 2)) m)] (214, u, m) 213 2186
  have eq : C_dist (m 0 (i + 1)) (m 0 (i + 2)) m = D_dist (m 0 (i + 1)) (m 0 (i + 2)) m := sim_dist h
  refine x_icmp_eq (tgt := 752) (q := 210) hC d_Lw_law_207 (by decide) rfl (fun _ => ?_) (fun hn => absurd eq hn)
  exact K m t (by omega) h
set_option maxRecDepth 100000 in
set_option maxHeartbeats 1000000 in
theorem lw_hop {Γ : mx_X} {κ : mx_K} {Q : State → Prop} {u : Nat → Nat → Bool} {m : mx_Mm} {r t i : Nat} (hC : mx_Ctx Γ κ M_Lw_law) (hu : ∀ p k, 2 ≤ p → u p k = true) (hu1 : ∀ k, u 1 k = true) (hr : r < 6) (hL : Γ.2.2.2 ≤ 2561) (hi : i + 5 ≤ Γ.2.2.2) (h : Sim r t m m) (ht : t ≤ 100000) (K : ∀ m' t', t' ≤ t + 10 → Sim r t' m' m' → mx_G Γ κ M_Lw_law Q 752 [(3, .int (nI i)), (2, .ref 185), (1, .ref 1), (0, .ref 0)] [] (214, u, m') 213 2186) : mx_G Γ κ M_Lw_law Q 212 [(3, .int (nI i)), (2, .ref 185), (1, .ref 1), (0, .ref 0)] [] (214, u, m) 213 2186 := by
  refine x_aload_n (q := 213) hC d_Lw_law_212 rfl rfl rfl ?_
  refine x_aload_n (q := 214) hC d_Lw_law_213 rfl rfl rfl ?_
  refine x_iload_n (q := 215) hC d_Lw_law_214 rfl rfl rfl ?_
  refine x_iconst (q := 216) (v := nI 1) hC d_Lw_law_215 (by decide) rfl ?_
  refine x_iadd (q := 217) (z := nI (i + 1)) hC d_Lw_law_216 (nI_add _ _) rfl ?_
  refine x_sld (q := 218) (p := 0) hC (i + 1) rfl (Nat.le_of_ble_eq_true rfl) rfl (by omega) (by omega) d_Lw_law_217 rfl ?_
  refine x_aload_n (q := 219) hC d_Lw_law_218 rfl rfl rfl ?_
  refine x_iload_n (q := 220) hC d_Lw_law_219 rfl rfl rfl ?_
  refine x_iconst (q := 221) (v := nI 2) hC d_Lw_law_220 (by decide) rfl ?_
  refine x_iadd (q := 222) (z := nI (i + 2)) hC d_Lw_law_221 (nI_add _ _) rfl ?_
  refine x_sld (q := 223) (p := 0) hC (i + 2) rfl (Nat.le_of_ble_eq_true rfl) rfl (by omega) (by omega) d_Lw_law_222 rfl ?_
  refine x_callV (q := 226) (p := 1) (A := [.int (m 0 (i + 1)), .int (m 0 (i + 2))]) (S := []) (c1 := 213) (s1 := 2186) hC (c_MT_hop (Nat.le_of_ble_eq_true rfl) hu hu1 ) s_Lw_law_31 rfl (Nat.le_of_ble_eq_true rfl) rfl rfl rfl (Nat.le_of_ble_eq_true rfl) rfl rfl (by decide) (by decide) d_Lw_law_223 rfl (fun r τ hP => ?_)
  obtain ⟨rfl, rfl⟩ := hP
  show mx_G Γ κ _ _ 226 [(3, .int (nI i)), (2, .ref 185), (1, .ref 1), (0, .ref 0)] [.int (C_hop (m 0 (i + 1)) (m 0 (i + 2)) m)] (214, u, m) 213 2186
  refine x_aload_n (q := 227) hC d_Lw_law_226 rfl rfl rfl ?_
  refine x_aload_n (q := 228) hC d_Lw_law_227 rfl rfl rfl ?_
  refine x_iload_n (q := 229) hC d_Lw_law_228 rfl rfl rfl ?_
  refine x_iconst (q := 230) (v := nI 1) hC d_Lw_law_229 (by decide) rfl ?_
  refine x_iadd (q := 231) (z := nI (i + 1)) hC d_Lw_law_230 (nI_add _ _) rfl ?_
  refine x_sld (q := 232) (p := 0) hC (i + 1) rfl (Nat.le_of_ble_eq_true rfl) rfl (by omega) (by omega) d_Lw_law_231 rfl ?_
  refine x_aload_n (q := 233) hC d_Lw_law_232 rfl rfl rfl ?_
  refine x_iload_n (q := 234) hC d_Lw_law_233 rfl rfl rfl ?_
  refine x_iconst (q := 235) (v := nI 2) hC d_Lw_law_234 (by decide) rfl ?_
  refine x_iadd (q := 236) (z := nI (i + 2)) hC d_Lw_law_235 (nI_add _ _) rfl ?_
  refine x_sld (q := 237) (p := 0) hC (i + 2) rfl (Nat.le_of_ble_eq_true rfl) rfl (by omega) (by omega) d_Lw_law_236 rfl ?_
  refine x_callV (q := 240) (p := 185) (A := [.int (m 0 (i + 1)), .int (m 0 (i + 2))]) (S := [.int (C_hop (m 0 (i + 1)) (m 0 (i + 2)) m)]) (c1 := 213) (s1 := 2186) hC (c_Mo_hop (Nat.le_of_ble_eq_true rfl) hu ) s_Lw_law_34 rfl (Nat.le_of_ble_eq_true rfl) rfl rfl rfl (Nat.le_of_ble_eq_true rfl) rfl rfl (by decide) (by decide) d_Lw_law_237 rfl (fun r τ hP => ?_)
  obtain ⟨rfl, rfl⟩ := hP
  show mx_G Γ κ _ _ 240 [(3, .int (nI i)), (2, .ref 185), (1, .ref 1), (0, .ref 0)] [.int (D_hop (m 0 (i + 1)) (m 0 (i + 2)) m), .int (C_hop (m 0 (i + 1)) (m 0 (i + 2)) m)] (214, u, m) 213 2186
  have eq : C_hop (m 0 (i + 1)) (m 0 (i + 2)) m = D_hop (m 0 (i + 1)) (m 0 (i + 2)) m := sim_hop h
  refine x_icmp_eq (tgt := 752) (q := 243) hC d_Lw_law_240 (by decide) rfl (fun _ => ?_) (fun hn => absurd eq hn)
  exact K m t (by omega) h
set_option maxRecDepth 100000 in
set_option maxHeartbeats 1000000 in
theorem lw_join {Γ : mx_X} {κ : mx_K} {Q : State → Prop} {u : Nat → Nat → Bool} {m : mx_Mm} {r t i : Nat} (hC : mx_Ctx Γ κ M_Lw_law) (hu : ∀ p k, 2 ≤ p → u p k = true) (hu1 : ∀ k, u 1 k = true) (hr : r < 6) (hL : Γ.2.2.2 ≤ 2561) (hi : i + 5 ≤ Γ.2.2.2) (h : Sim r t m m) (ht : t ≤ 100000) (K : ∀ m' t', t' ≤ t + 10 → Sim r t' m' m' → mx_G Γ κ M_Lw_law Q 752 [(3, .int (nI i)), (2, .ref 185), (1, .ref 1), (0, .ref 0)] [] (214, u, m') 213 2186) : mx_G Γ κ M_Lw_law Q 245 [(3, .int (nI i)), (2, .ref 185), (1, .ref 1), (0, .ref 0)] [] (214, u, m) 213 2186 := by
  refine x_aload_n (q := 246) hC d_Lw_law_245 rfl rfl rfl ?_
  refine x_aload_n (q := 247) hC d_Lw_law_246 rfl rfl rfl ?_
  refine x_iload_n (q := 248) hC d_Lw_law_247 rfl rfl rfl ?_
  refine x_iconst (q := 249) (v := nI 1) hC d_Lw_law_248 (by decide) rfl ?_
  refine x_iadd (q := 250) (z := nI (i + 1)) hC d_Lw_law_249 (nI_add _ _) rfl ?_
  refine x_sld (q := 251) (p := 0) hC (i + 1) rfl (Nat.le_of_ble_eq_true rfl) rfl (by omega) (by omega) d_Lw_law_250 rfl ?_
  refine x_aload_n (q := 252) hC d_Lw_law_251 rfl rfl rfl ?_
  refine x_iload_n (q := 253) hC d_Lw_law_252 rfl rfl rfl ?_
  refine x_iconst (q := 254) (v := nI 2) hC d_Lw_law_253 (by decide) rfl ?_
  refine x_iadd (q := 255) (z := nI (i + 2)) hC d_Lw_law_254 (nI_add _ _) rfl ?_
  refine x_sld (q := 256) (p := 0) hC (i + 2) rfl (Nat.le_of_ble_eq_true rfl) rfl (by omega) (by omega) d_Lw_law_255 rfl ?_
  refine x_aload_n (q := 257) hC d_Lw_law_256 rfl rfl rfl ?_
  refine x_iload_n (q := 258) hC d_Lw_law_257 rfl rfl rfl ?_
  refine x_iconst (q := 259) (v := nI 3) hC d_Lw_law_258 (by decide) rfl ?_
  refine x_iadd (q := 260) (z := nI (i + 3)) hC d_Lw_law_259 (nI_add _ _) rfl ?_
  refine x_sld (q := 261) (p := 0) hC (i + 3) rfl (Nat.le_of_ble_eq_true rfl) rfl (by omega) (by omega) d_Lw_law_260 rfl ?_
  refine x_callV (q := 264) (p := 1) (A := [.int (m 0 (i + 1)), .int (m 0 (i + 2)), .int (m 0 (i + 3))]) (S := []) (c1 := 213) (s1 := 2186) hC (c_MT_join (Nat.le_of_ble_eq_true rfl) hu hu1 hr h.tr) s_Lw_law_35 rfl (Nat.le_of_ble_eq_true rfl) rfl rfl rfl (Nat.le_of_ble_eq_true rfl) rfl rfl (by decide) (by decide) d_Lw_law_261 rfl (fun r τ hP => ?_)
  obtain ⟨rfl, rfl⟩ := hP
  show mx_G Γ κ _ _ 264 [(3, .int (nI i)), (2, .ref 185), (1, .ref 1), (0, .ref 0)] [.int (bz (C_jnP (m 0 (i + 1)) (m 0 (i + 2)) (m 0 (i + 3)) m))] (214, u, C_join r (m 0 (i + 1)) (m 0 (i + 2)) (m 0 (i + 3)) m) 213 2186
  refine mx_nr (fun m1 e1 => ?_)
  have f1 := (sim_join (l := m 0 (i + 1)) (k := m 0 (i + 2)) (g := m 0 (i + 3)) hr h).2.1
  rw [e1] at f1
  have hs := h.mid f1
  have z : ∀ j, m1 0 j = m 0 j := fun j => f1 0 j (Or.inl rfl)
  refine x_aload_n (q := 265) hC d_Lw_law_264 rfl rfl rfl ?_
  refine x_aload_n (q := 266) hC d_Lw_law_265 rfl rfl rfl ?_
  refine x_iload_n (q := 267) hC d_Lw_law_266 rfl rfl rfl ?_
  refine x_iconst (q := 268) (v := nI 1) hC d_Lw_law_267 (by decide) rfl ?_
  refine x_iadd (q := 269) (z := nI (i + 1)) hC d_Lw_law_268 (nI_add _ _) rfl ?_
  refine x_sld (q := 270) (p := 0) hC (i + 1) rfl (Nat.le_of_ble_eq_true rfl) rfl (by omega) (by omega) d_Lw_law_269 rfl ?_
  refine x_aload_n (q := 271) hC d_Lw_law_270 rfl rfl rfl ?_
  refine x_iload_n (q := 272) hC d_Lw_law_271 rfl rfl rfl ?_
  refine x_iconst (q := 273) (v := nI 2) hC d_Lw_law_272 (by decide) rfl ?_
  refine x_iadd (q := 274) (z := nI (i + 2)) hC d_Lw_law_273 (nI_add _ _) rfl ?_
  refine x_sld (q := 275) (p := 0) hC (i + 2) rfl (Nat.le_of_ble_eq_true rfl) rfl (by omega) (by omega) d_Lw_law_274 rfl ?_
  refine x_aload_n (q := 276) hC d_Lw_law_275 rfl rfl rfl ?_
  refine x_iload_n (q := 277) hC d_Lw_law_276 rfl rfl rfl ?_
  refine x_iconst (q := 278) (v := nI 3) hC d_Lw_law_277 (by decide) rfl ?_
  refine x_iadd (q := 279) (z := nI (i + 3)) hC d_Lw_law_278 (nI_add _ _) rfl ?_
  refine x_sld (q := 280) (p := 0) hC (i + 3) rfl (Nat.le_of_ble_eq_true rfl) rfl (by omega) (by omega) d_Lw_law_279 rfl ?_
  refine x_callV (q := 283) (p := 185) (A := [.int (m1 0 (i + 1)), .int (m1 0 (i + 2)), .int (m1 0 (i + 3))]) (S := [.int (bz (C_jnP (m 0 (i + 1)) (m 0 (i + 2)) (m 0 (i + 3)) m))]) (c1 := 213) (s1 := 2186) hC (c_Mo_join (Nat.le_of_ble_eq_true rfl) hu hr hs.mo) s_Lw_law_38 rfl (Nat.le_of_ble_eq_true rfl) rfl rfl rfl (Nat.le_of_ble_eq_true rfl) rfl rfl (by decide) (by decide) d_Lw_law_280 rfl (fun r τ hP => ?_)
  obtain ⟨rfl, rfl⟩ := hP
  show mx_G Γ κ _ _ 283 [(3, .int (nI i)), (2, .ref 185), (1, .ref 1), (0, .ref 0)] [.int (bz (D_jnP (m1 0 (i + 1)) (m1 0 (i + 2)) (m1 0 (i + 3)) m1)), .int (bz (C_jnP (m 0 (i + 1)) (m 0 (i + 2)) (m 0 (i + 3)) m))] (214, u, D_join r (m1 0 (i + 1)) (m1 0 (i + 2)) (m1 0 (i + 3)) m1) 213 2186
  have eq : bz (C_jnP (m 0 (i + 1)) (m 0 (i + 2)) (m 0 (i + 3)) m) = bz (D_jnP (m1 0 (i + 1)) (m1 0 (i + 2)) (m1 0 (i + 3)) m1) := bz_q (by rw [z, z, z]; exact sim_jnP hs)
  refine x_icmp_eq (tgt := 752) (q := 286) hC d_Lw_law_283 (by decide) rfl (fun _ => ?_) (fun hn => absurd eq hn)
  refine mx_nr (fun m2 e2 => ?_)
  rw [z, z, z] at e2
  have hq := sim_join (l := m 0 (i + 1)) (k := m 0 (i + 2)) (g := m 0 (i + 3)) hr hs
  rw [e1, e2] at hq
  exact K m2 t (by omega) (hq.1.two hq.2.2 (fun _ _ _ => rfl))
set_option maxRecDepth 100000 in
set_option maxHeartbeats 1000000 in
theorem lw_leave {Γ : mx_X} {κ : mx_K} {Q : State → Prop} {u : Nat → Nat → Bool} {m : mx_Mm} {r t i : Nat} (hC : mx_Ctx Γ κ M_Lw_law) (hu : ∀ p k, 2 ≤ p → u p k = true) (hu1 : ∀ k, u 1 k = true) (hr : r < 6) (hL : Γ.2.2.2 ≤ 2561) (hi : i + 5 ≤ Γ.2.2.2) (h : Sim r t m m) (ht : t ≤ 100000) (K : ∀ m' t', t' ≤ t + 10 → Sim r t' m' m' → mx_G Γ κ M_Lw_law Q 752 [(3, .int (nI i)), (2, .ref 185), (1, .ref 1), (0, .ref 0)] [] (214, u, m') 213 2186) : mx_G Γ κ M_Lw_law Q 288 [(3, .int (nI i)), (2, .ref 185), (1, .ref 1), (0, .ref 0)] [] (214, u, m) 213 2186 := by
  refine x_aload_n (q := 289) hC d_Lw_law_288 rfl rfl rfl ?_
  refine x_aload_n (q := 290) hC d_Lw_law_289 rfl rfl rfl ?_
  refine x_iload_n (q := 291) hC d_Lw_law_290 rfl rfl rfl ?_
  refine x_iconst (q := 292) (v := nI 1) hC d_Lw_law_291 (by decide) rfl ?_
  refine x_iadd (q := 293) (z := nI (i + 1)) hC d_Lw_law_292 (nI_add _ _) rfl ?_
  refine x_sld (q := 294) (p := 0) hC (i + 1) rfl (Nat.le_of_ble_eq_true rfl) rfl (by omega) (by omega) d_Lw_law_293 rfl ?_
  refine x_aload_n (q := 295) hC d_Lw_law_294 rfl rfl rfl ?_
  refine x_iload_n (q := 296) hC d_Lw_law_295 rfl rfl rfl ?_
  refine x_iconst (q := 297) (v := nI 2) hC d_Lw_law_296 (by decide) rfl ?_
  refine x_iadd (q := 298) (z := nI (i + 2)) hC d_Lw_law_297 (nI_add _ _) rfl ?_
  refine x_sld (q := 299) (p := 0) hC (i + 2) rfl (Nat.le_of_ble_eq_true rfl) rfl (by omega) (by omega) d_Lw_law_298 rfl ?_
  refine x_aload_n (q := 300) hC d_Lw_law_299 rfl rfl rfl ?_
  refine x_iload_n (q := 301) hC d_Lw_law_300 rfl rfl rfl ?_
  refine x_iconst (q := 302) (v := nI 3) hC d_Lw_law_301 (by decide) rfl ?_
  refine x_iadd (q := 303) (z := nI (i + 3)) hC d_Lw_law_302 (nI_add _ _) rfl ?_
  refine x_sld (q := 304) (p := 0) hC (i + 3) rfl (Nat.le_of_ble_eq_true rfl) rfl (by omega) (by omega) d_Lw_law_303 rfl ?_
  refine x_aload_n (q := 305) hC d_Lw_law_304 rfl rfl rfl ?_
  refine x_iload_n (q := 306) hC d_Lw_law_305 rfl rfl rfl ?_
  refine x_iconst (q := 307) (v := nI 4) hC d_Lw_law_306 (by decide) rfl ?_
  refine x_iadd (q := 308) (z := nI (i + 4)) hC d_Lw_law_307 (nI_add _ _) rfl ?_
  refine x_sld (q := 309) (p := 0) hC (i + 4) rfl (Nat.le_of_ble_eq_true rfl) rfl (by omega) (by omega) d_Lw_law_308 rfl ?_
  refine x_if_eq (tgt := 316) (q := 312) hC d_Lw_law_309 (by decide) rfl (fun h0 => ?_) (fun h0 => ?_)
  · skip
    refine x_iconst (q := 317) (v := nI 0) hC d_Lw_law_316 (by decide) rfl ?_
    refine x_callV (q := 320) (p := 1) (A := [.int (m 0 (i + 1)), .int (m 0 (i + 2)), .int (m 0 (i + 3)), .int (nI 0)]) (S := []) (c1 := 213) (s1 := 2186) hC (c_MT_leave (Nat.le_of_ble_eq_true rfl) hu hu1 hr h.tr) s_Lw_law_39 rfl (Nat.le_of_ble_eq_true rfl) rfl rfl rfl (Nat.le_of_ble_eq_true rfl) rfl rfl (by decide) (by decide) d_Lw_law_317 rfl (fun r τ hP => ?_)
    obtain ⟨rfl, rfl⟩ := hP
    show mx_G Γ κ _ _ 320 [(3, .int (nI i)), (2, .ref 185), (1, .ref 1), (0, .ref 0)] [.int (bz (C_lvP (m 0 (i + 1)) (m 0 (i + 2)) (m 0 (i + 3)) m))] (214, u, C_leave r (m 0 (i + 1)) (m 0 (i + 2)) (m 0 (i + 3)) (nI 0) m) 213 2186
    refine mx_nr (fun m1 e1 => ?_)
    have f1 := (sim_leave (l := m 0 (i + 1)) (k := m 0 (i + 2)) (g := m 0 (i + 3)) (x := nI 0) hr h).2.1
    rw [e1] at f1
    have hs := h.mid f1
    have z : ∀ j, m1 0 j = m 0 j := fun j => f1 0 j (Or.inl rfl)
    refine x_aload_n (q := 321) hC d_Lw_law_320 rfl rfl rfl ?_
    refine x_aload_n (q := 322) hC d_Lw_law_321 rfl rfl rfl ?_
    refine x_iload_n (q := 323) hC d_Lw_law_322 rfl rfl rfl ?_
    refine x_iconst (q := 324) (v := nI 1) hC d_Lw_law_323 (by decide) rfl ?_
    refine x_iadd (q := 325) (z := nI (i + 1)) hC d_Lw_law_324 (nI_add _ _) rfl ?_
    refine x_sld (q := 326) (p := 0) hC (i + 1) rfl (Nat.le_of_ble_eq_true rfl) rfl (by omega) (by omega) d_Lw_law_325 rfl ?_
    refine x_aload_n (q := 327) hC d_Lw_law_326 rfl rfl rfl ?_
    refine x_iload_n (q := 328) hC d_Lw_law_327 rfl rfl rfl ?_
    refine x_iconst (q := 329) (v := nI 2) hC d_Lw_law_328 (by decide) rfl ?_
    refine x_iadd (q := 330) (z := nI (i + 2)) hC d_Lw_law_329 (nI_add _ _) rfl ?_
    refine x_sld (q := 331) (p := 0) hC (i + 2) rfl (Nat.le_of_ble_eq_true rfl) rfl (by omega) (by omega) d_Lw_law_330 rfl ?_
    refine x_aload_n (q := 332) hC d_Lw_law_331 rfl rfl rfl ?_
    refine x_iload_n (q := 333) hC d_Lw_law_332 rfl rfl rfl ?_
    refine x_iconst (q := 334) (v := nI 3) hC d_Lw_law_333 (by decide) rfl ?_
    refine x_iadd (q := 335) (z := nI (i + 3)) hC d_Lw_law_334 (nI_add _ _) rfl ?_
    refine x_sld (q := 336) (p := 0) hC (i + 3) rfl (Nat.le_of_ble_eq_true rfl) rfl (by omega) (by omega) d_Lw_law_335 rfl ?_
    refine x_aload_n (q := 337) hC d_Lw_law_336 rfl rfl rfl ?_
    refine x_iload_n (q := 338) hC d_Lw_law_337 rfl rfl rfl ?_
    refine x_iconst (q := 339) (v := nI 4) hC d_Lw_law_338 (by decide) rfl ?_
    refine x_iadd (q := 340) (z := nI (i + 4)) hC d_Lw_law_339 (nI_add _ _) rfl ?_
    refine x_sld (q := 341) (p := 0) hC (i + 4) rfl (Nat.le_of_ble_eq_true rfl) rfl (by omega) (by omega) d_Lw_law_340 rfl ?_
    refine x_if_eq (tgt := 348) (q := 344) hC d_Lw_law_341 (by decide) rfl (fun _ => ?_) (fun hn => absurd ((z _).trans h0) hn)
    refine x_iconst (q := 349) (v := nI 0) hC d_Lw_law_348 (by decide) rfl ?_
    refine x_callV (q := 352) (p := 185) (A := [.int (m1 0 (i + 1)), .int (m1 0 (i + 2)), .int (m1 0 (i + 3)), .int (nI 0)]) (S := [.int (bz (C_lvP (m 0 (i + 1)) (m 0 (i + 2)) (m 0 (i + 3)) m))]) (c1 := 213) (s1 := 2186) hC (c_Mo_leave (Nat.le_of_ble_eq_true rfl) hu hr hs.mo) s_Lw_law_43 rfl (Nat.le_of_ble_eq_true rfl) rfl rfl rfl (Nat.le_of_ble_eq_true rfl) rfl rfl (by decide) (by decide) d_Lw_law_349 rfl (fun r τ hP => ?_)
    obtain ⟨rfl, rfl⟩ := hP
    show mx_G Γ κ _ _ 352 [(3, .int (nI i)), (2, .ref 185), (1, .ref 1), (0, .ref 0)] [.int (bz (D_lvP (m1 0 (i + 1)) (m1 0 (i + 2)) (m1 0 (i + 3)) m1)), .int (bz (C_lvP (m 0 (i + 1)) (m 0 (i + 2)) (m 0 (i + 3)) m))] (214, u, D_leave r (m1 0 (i + 1)) (m1 0 (i + 2)) (m1 0 (i + 3)) (nI 0) m1) 213 2186
    have eq : bz (C_lvP (m 0 (i + 1)) (m 0 (i + 2)) (m 0 (i + 3)) m) = bz (D_lvP (m1 0 (i + 1)) (m1 0 (i + 2)) (m1 0 (i + 3)) m1) := bz_q (by rw [z, z, z]; exact sim_lvP hs)
    refine x_icmp_eq (tgt := 752) (q := 355) hC d_Lw_law_352 (by decide) rfl (fun _ => ?_) (fun hn => absurd eq hn)
    refine mx_nr (fun m2 e2 => ?_)
    rw [z, z, z] at e2
    have hq := sim_leave (l := m 0 (i + 1)) (k := m 0 (i + 2)) (g := m 0 (i + 3)) (x := nI 0) hr hs
    rw [e1, e2] at hq
    exact K m2 t (by omega) (hq.1.two hq.2.2 (fun _ _ _ => rfl))
  · skip
    refine x_iconst (q := 313) (v := nI 1) hC d_Lw_law_312 (by decide) rfl ?_
    refine x_goto (tgt := 317) hC d_Lw_law_313 (by decide) ?_
    refine x_callV (q := 320) (p := 1) (A := [.int (m 0 (i + 1)), .int (m 0 (i + 2)), .int (m 0 (i + 3)), .int (nI 1)]) (S := []) (c1 := 213) (s1 := 2186) hC (c_MT_leave (Nat.le_of_ble_eq_true rfl) hu hu1 hr h.tr) s_Lw_law_39 rfl (Nat.le_of_ble_eq_true rfl) rfl rfl rfl (Nat.le_of_ble_eq_true rfl) rfl rfl (by decide) (by decide) d_Lw_law_317 rfl (fun r τ hP => ?_)
    obtain ⟨rfl, rfl⟩ := hP
    show mx_G Γ κ _ _ 320 [(3, .int (nI i)), (2, .ref 185), (1, .ref 1), (0, .ref 0)] [.int (bz (C_lvP (m 0 (i + 1)) (m 0 (i + 2)) (m 0 (i + 3)) m))] (214, u, C_leave r (m 0 (i + 1)) (m 0 (i + 2)) (m 0 (i + 3)) (nI 1) m) 213 2186
    refine mx_nr (fun m1 e1 => ?_)
    have f1 := (sim_leave (l := m 0 (i + 1)) (k := m 0 (i + 2)) (g := m 0 (i + 3)) (x := nI 1) hr h).2.1
    rw [e1] at f1
    have hs := h.mid f1
    have z : ∀ j, m1 0 j = m 0 j := fun j => f1 0 j (Or.inl rfl)
    refine x_aload_n (q := 321) hC d_Lw_law_320 rfl rfl rfl ?_
    refine x_aload_n (q := 322) hC d_Lw_law_321 rfl rfl rfl ?_
    refine x_iload_n (q := 323) hC d_Lw_law_322 rfl rfl rfl ?_
    refine x_iconst (q := 324) (v := nI 1) hC d_Lw_law_323 (by decide) rfl ?_
    refine x_iadd (q := 325) (z := nI (i + 1)) hC d_Lw_law_324 (nI_add _ _) rfl ?_
    refine x_sld (q := 326) (p := 0) hC (i + 1) rfl (Nat.le_of_ble_eq_true rfl) rfl (by omega) (by omega) d_Lw_law_325 rfl ?_
    refine x_aload_n (q := 327) hC d_Lw_law_326 rfl rfl rfl ?_
    refine x_iload_n (q := 328) hC d_Lw_law_327 rfl rfl rfl ?_
    refine x_iconst (q := 329) (v := nI 2) hC d_Lw_law_328 (by decide) rfl ?_
    refine x_iadd (q := 330) (z := nI (i + 2)) hC d_Lw_law_329 (nI_add _ _) rfl ?_
    refine x_sld (q := 331) (p := 0) hC (i + 2) rfl (Nat.le_of_ble_eq_true rfl) rfl (by omega) (by omega) d_Lw_law_330 rfl ?_
    refine x_aload_n (q := 332) hC d_Lw_law_331 rfl rfl rfl ?_
    refine x_iload_n (q := 333) hC d_Lw_law_332 rfl rfl rfl ?_
    refine x_iconst (q := 334) (v := nI 3) hC d_Lw_law_333 (by decide) rfl ?_
    refine x_iadd (q := 335) (z := nI (i + 3)) hC d_Lw_law_334 (nI_add _ _) rfl ?_
    refine x_sld (q := 336) (p := 0) hC (i + 3) rfl (Nat.le_of_ble_eq_true rfl) rfl (by omega) (by omega) d_Lw_law_335 rfl ?_
    refine x_aload_n (q := 337) hC d_Lw_law_336 rfl rfl rfl ?_
    refine x_iload_n (q := 338) hC d_Lw_law_337 rfl rfl rfl ?_
    refine x_iconst (q := 339) (v := nI 4) hC d_Lw_law_338 (by decide) rfl ?_
    refine x_iadd (q := 340) (z := nI (i + 4)) hC d_Lw_law_339 (nI_add _ _) rfl ?_
    refine x_sld (q := 341) (p := 0) hC (i + 4) rfl (Nat.le_of_ble_eq_true rfl) rfl (by omega) (by omega) d_Lw_law_340 rfl ?_
    refine x_if_eq (tgt := 348) (q := 344) hC d_Lw_law_341 (by decide) rfl (fun hn => absurd ((z _).symm.trans hn) h0) (fun _ => ?_)
    refine x_iconst (q := 345) (v := nI 1) hC d_Lw_law_344 (by decide) rfl ?_
    refine x_goto (tgt := 349) hC d_Lw_law_345 (by decide) ?_
    refine x_callV (q := 352) (p := 185) (A := [.int (m1 0 (i + 1)), .int (m1 0 (i + 2)), .int (m1 0 (i + 3)), .int (nI 1)]) (S := [.int (bz (C_lvP (m 0 (i + 1)) (m 0 (i + 2)) (m 0 (i + 3)) m))]) (c1 := 213) (s1 := 2186) hC (c_Mo_leave (Nat.le_of_ble_eq_true rfl) hu hr hs.mo) s_Lw_law_43 rfl (Nat.le_of_ble_eq_true rfl) rfl rfl rfl (Nat.le_of_ble_eq_true rfl) rfl rfl (by decide) (by decide) d_Lw_law_349 rfl (fun r τ hP => ?_)
    obtain ⟨rfl, rfl⟩ := hP
    show mx_G Γ κ _ _ 352 [(3, .int (nI i)), (2, .ref 185), (1, .ref 1), (0, .ref 0)] [.int (bz (D_lvP (m1 0 (i + 1)) (m1 0 (i + 2)) (m1 0 (i + 3)) m1)), .int (bz (C_lvP (m 0 (i + 1)) (m 0 (i + 2)) (m 0 (i + 3)) m))] (214, u, D_leave r (m1 0 (i + 1)) (m1 0 (i + 2)) (m1 0 (i + 3)) (nI 1) m1) 213 2186
    have eq : bz (C_lvP (m 0 (i + 1)) (m 0 (i + 2)) (m 0 (i + 3)) m) = bz (D_lvP (m1 0 (i + 1)) (m1 0 (i + 2)) (m1 0 (i + 3)) m1) := bz_q (by rw [z, z, z]; exact sim_lvP hs)
    refine x_icmp_eq (tgt := 752) (q := 355) hC d_Lw_law_352 (by decide) rfl (fun _ => ?_) (fun hn => absurd eq hn)
    refine mx_nr (fun m2 e2 => ?_)
    rw [z, z, z] at e2
    have hq := sim_leave (l := m 0 (i + 1)) (k := m 0 (i + 2)) (g := m 0 (i + 3)) (x := nI 1) hr hs
    rw [e1, e2] at hq
    exact K m2 t (by omega) (hq.1.two hq.2.2 (fun _ _ _ => rfl))
set_option maxRecDepth 100000 in
set_option maxHeartbeats 1000000 in
theorem lw_marked {Γ : mx_X} {κ : mx_K} {Q : State → Prop} {u : Nat → Nat → Bool} {m : mx_Mm} {r t i : Nat} (hC : mx_Ctx Γ κ M_Lw_law) (hu : ∀ p k, 2 ≤ p → u p k = true) (hu1 : ∀ k, u 1 k = true) (hr : r < 6) (hL : Γ.2.2.2 ≤ 2561) (hi : i + 5 ≤ Γ.2.2.2) (h : Sim r t m m) (ht : t ≤ 100000) (K : ∀ m' t', t' ≤ t + 10 → Sim r t' m' m' → mx_G Γ κ M_Lw_law Q 752 [(3, .int (nI i)), (2, .ref 185), (1, .ref 1), (0, .ref 0)] [] (214, u, m') 213 2186) : mx_G Γ κ M_Lw_law Q 357 [(3, .int (nI i)), (2, .ref 185), (1, .ref 1), (0, .ref 0)] [] (214, u, m) 213 2186 := by
  refine x_aload_n (q := 358) hC d_Lw_law_357 rfl rfl rfl ?_
  refine x_aload_n (q := 359) hC d_Lw_law_358 rfl rfl rfl ?_
  refine x_iload_n (q := 360) hC d_Lw_law_359 rfl rfl rfl ?_
  refine x_iconst (q := 361) (v := nI 1) hC d_Lw_law_360 (by decide) rfl ?_
  refine x_iadd (q := 362) (z := nI (i + 1)) hC d_Lw_law_361 (nI_add _ _) rfl ?_
  refine x_sld (q := 363) (p := 0) hC (i + 1) rfl (Nat.le_of_ble_eq_true rfl) rfl (by omega) (by omega) d_Lw_law_362 rfl ?_
  refine x_aload_n (q := 364) hC d_Lw_law_363 rfl rfl rfl ?_
  refine x_iload_n (q := 365) hC d_Lw_law_364 rfl rfl rfl ?_
  refine x_iconst (q := 366) (v := nI 2) hC d_Lw_law_365 (by decide) rfl ?_
  refine x_iadd (q := 367) (z := nI (i + 2)) hC d_Lw_law_366 (nI_add _ _) rfl ?_
  refine x_sld (q := 368) (p := 0) hC (i + 2) rfl (Nat.le_of_ble_eq_true rfl) rfl (by omega) (by omega) d_Lw_law_367 rfl ?_
  refine x_callV (q := 371) (p := 1) (A := [.int (m 0 (i + 1)), .int (m 0 (i + 2))]) (S := []) (c1 := 213) (s1 := 2186) hC (c_MT_marked (Nat.le_of_ble_eq_true rfl) hu hu1 ) s_Lw_law_44 rfl (Nat.le_of_ble_eq_true rfl) rfl rfl rfl (Nat.le_of_ble_eq_true rfl) rfl rfl (by decide) (by decide) d_Lw_law_368 rfl (fun r τ hP => ?_)
  obtain ⟨rfl, rfl⟩ := hP
  show mx_G Γ κ _ _ 371 [(3, .int (nI i)), (2, .ref 185), (1, .ref 1), (0, .ref 0)] [.int (C_mark (m 0 (i + 1)) (m 0 (i + 2)) m)] (214, u, m) 213 2186
  refine x_aload_n (q := 372) hC d_Lw_law_371 rfl rfl rfl ?_
  refine x_aload_n (q := 373) hC d_Lw_law_372 rfl rfl rfl ?_
  refine x_iload_n (q := 374) hC d_Lw_law_373 rfl rfl rfl ?_
  refine x_iconst (q := 375) (v := nI 1) hC d_Lw_law_374 (by decide) rfl ?_
  refine x_iadd (q := 376) (z := nI (i + 1)) hC d_Lw_law_375 (nI_add _ _) rfl ?_
  refine x_sld (q := 377) (p := 0) hC (i + 1) rfl (Nat.le_of_ble_eq_true rfl) rfl (by omega) (by omega) d_Lw_law_376 rfl ?_
  refine x_aload_n (q := 378) hC d_Lw_law_377 rfl rfl rfl ?_
  refine x_iload_n (q := 379) hC d_Lw_law_378 rfl rfl rfl ?_
  refine x_iconst (q := 380) (v := nI 2) hC d_Lw_law_379 (by decide) rfl ?_
  refine x_iadd (q := 381) (z := nI (i + 2)) hC d_Lw_law_380 (nI_add _ _) rfl ?_
  refine x_sld (q := 382) (p := 0) hC (i + 2) rfl (Nat.le_of_ble_eq_true rfl) rfl (by omega) (by omega) d_Lw_law_381 rfl ?_
  refine x_callV (q := 385) (p := 185) (A := [.int (m 0 (i + 1)), .int (m 0 (i + 2))]) (S := [.int (C_mark (m 0 (i + 1)) (m 0 (i + 2)) m)]) (c1 := 213) (s1 := 2186) hC (c_Mo_marked (Nat.le_of_ble_eq_true rfl) hu ) s_Lw_law_47 rfl (Nat.le_of_ble_eq_true rfl) rfl rfl rfl (Nat.le_of_ble_eq_true rfl) rfl rfl (by decide) (by decide) d_Lw_law_382 rfl (fun r τ hP => ?_)
  obtain ⟨rfl, rfl⟩ := hP
  show mx_G Γ κ _ _ 385 [(3, .int (nI i)), (2, .ref 185), (1, .ref 1), (0, .ref 0)] [.int (D_mark (m 0 (i + 1)) (m 0 (i + 2)) m), .int (C_mark (m 0 (i + 1)) (m 0 (i + 2)) m)] (214, u, m) 213 2186
  have eq : C_mark (m 0 (i + 1)) (m 0 (i + 2)) m = D_mark (m 0 (i + 1)) (m 0 (i + 2)) m := sim_mark h
  refine x_icmp_eq (tgt := 752) (q := 388) hC d_Lw_law_385 (by decide) rfl (fun _ => ?_) (fun hn => absurd eq hn)
  exact K m t (by omega) h
set_option maxRecDepth 100000 in
set_option maxHeartbeats 1000000 in
theorem lw_pass {Γ : mx_X} {κ : mx_K} {Q : State → Prop} {u : Nat → Nat → Bool} {m : mx_Mm} {r t i : Nat} (hC : mx_Ctx Γ κ M_Lw_law) (hu : ∀ p k, 2 ≤ p → u p k = true) (hu1 : ∀ k, u 1 k = true) (hr : r < 6) (hL : Γ.2.2.2 ≤ 2561) (hi : i + 5 ≤ Γ.2.2.2) (h : Sim r t m m) (ht : t ≤ 100000) (K : ∀ m' t', t' ≤ t + 10 → Sim r t' m' m' → mx_G Γ κ M_Lw_law Q 752 [(3, .int (nI i)), (2, .ref 185), (1, .ref 1), (0, .ref 0)] [] (214, u, m') 213 2186) : mx_G Γ κ M_Lw_law Q 390 [(3, .int (nI i)), (2, .ref 185), (1, .ref 1), (0, .ref 0)] [] (214, u, m) 213 2186 := by
  refine x_aload_n (q := 391) hC d_Lw_law_390 rfl rfl rfl ?_
  refine x_aload_n (q := 392) hC d_Lw_law_391 rfl rfl rfl ?_
  refine x_iload_n (q := 393) hC d_Lw_law_392 rfl rfl rfl ?_
  refine x_iconst (q := 394) (v := nI 1) hC d_Lw_law_393 (by decide) rfl ?_
  refine x_iadd (q := 395) (z := nI (i + 1)) hC d_Lw_law_394 (nI_add _ _) rfl ?_
  refine x_sld (q := 396) (p := 0) hC (i + 1) rfl (Nat.le_of_ble_eq_true rfl) rfl (by omega) (by omega) d_Lw_law_395 rfl ?_
  refine x_callV (q := 399) (p := 1) (A := [.int (m 0 (i + 1))]) (S := []) (c1 := 213) (s1 := 2186) hC (c_MT_pass (Nat.le_of_ble_eq_true rfl) hu hu1 hr h.tr) s_Lw_law_48 rfl (Nat.le_of_ble_eq_true rfl) rfl rfl rfl (Nat.le_of_ble_eq_true rfl) rfl rfl (by decide) (by decide) d_Lw_law_396 rfl (fun r τ hP => ?_)
  obtain ⟨rfl, rfl⟩ := hP
  show mx_G Γ κ _ _ 399 [(3, .int (nI i)), (2, .ref 185), (1, .ref 1), (0, .ref 0)] [.int (bz (C_psP (m 0 (i + 1))))] (214, u, C_pass r (m 0 (i + 1)) m) 213 2186
  refine mx_nr (fun m1 e1 => ?_)
  have f1 := (sim_pass (n := m 0 (i + 1)) hr (by omega) h).2.1
  rw [e1] at f1
  have hs := h.mid f1
  have z : ∀ j, m1 0 j = m 0 j := fun j => f1 0 j (Or.inl rfl)
  refine x_aload_n (q := 400) hC d_Lw_law_399 rfl rfl rfl ?_
  refine x_aload_n (q := 401) hC d_Lw_law_400 rfl rfl rfl ?_
  refine x_iload_n (q := 402) hC d_Lw_law_401 rfl rfl rfl ?_
  refine x_iconst (q := 403) (v := nI 1) hC d_Lw_law_402 (by decide) rfl ?_
  refine x_iadd (q := 404) (z := nI (i + 1)) hC d_Lw_law_403 (nI_add _ _) rfl ?_
  refine x_sld (q := 405) (p := 0) hC (i + 1) rfl (Nat.le_of_ble_eq_true rfl) rfl (by omega) (by omega) d_Lw_law_404 rfl ?_
  refine x_callV (q := 408) (p := 185) (A := [.int (m1 0 (i + 1))]) (S := [.int (bz (C_psP (m 0 (i + 1))))]) (c1 := 213) (s1 := 2186) hC (c_Mo_pass (Nat.le_of_ble_eq_true rfl) hu hr hs.mo) s_Lw_law_52 rfl (Nat.le_of_ble_eq_true rfl) rfl rfl rfl (Nat.le_of_ble_eq_true rfl) rfl rfl (by decide) (by decide) d_Lw_law_405 rfl (fun r τ hP => ?_)
  obtain ⟨rfl, rfl⟩ := hP
  show mx_G Γ κ _ _ 408 [(3, .int (nI i)), (2, .ref 185), (1, .ref 1), (0, .ref 0)] [.int (bz (C_psP (m1 0 (i + 1)))), .int (bz (C_psP (m 0 (i + 1))))] (214, u, D_pass r (m1 0 (i + 1)) m1) 213 2186
  have eq : bz (C_psP (m 0 (i + 1))) = bz (C_psP (m1 0 (i + 1))) := bz_q (by rw [z])
  refine x_icmp_eq (tgt := 752) (q := 411) hC d_Lw_law_408 (by decide) rfl (fun _ => ?_) (fun hn => absurd eq hn)
  refine mx_nr (fun m2 e2 => ?_)
  rw [z] at e2
  have hq := sim_pass (n := m 0 (i + 1)) hr (by omega) hs
  rw [e1, e2] at hq
  obtain ⟨⟨t', ht', hq1⟩, hq2⟩ := hq
  exact K m2 t' ht' (hq1.two hq2.2 (fun _ _ _ => rfl))
set_option maxRecDepth 100000 in
set_option maxHeartbeats 1000000 in
theorem lw_send {Γ : mx_X} {κ : mx_K} {Q : State → Prop} {u : Nat → Nat → Bool} {m : mx_Mm} {r t i : Nat} (hC : mx_Ctx Γ κ M_Lw_law) (hu : ∀ p k, 2 ≤ p → u p k = true) (hu1 : ∀ k, u 1 k = true) (hr : r < 6) (hL : Γ.2.2.2 ≤ 2561) (hi : i + 5 ≤ Γ.2.2.2) (h : Sim r t m m) (ht : t ≤ 100000) (K : ∀ m' t', t' ≤ t + 10 → Sim r t' m' m' → mx_G Γ κ M_Lw_law Q 752 [(3, .int (nI i)), (2, .ref 185), (1, .ref 1), (0, .ref 0)] [] (214, u, m') 213 2186) : mx_G Γ κ M_Lw_law Q 413 [(3, .int (nI i)), (2, .ref 185), (1, .ref 1), (0, .ref 0)] [] (214, u, m) 213 2186 := by
  refine x_aload_n (q := 414) hC d_Lw_law_413 rfl rfl rfl ?_
  refine x_aload_n (q := 415) hC d_Lw_law_414 rfl rfl rfl ?_
  refine x_iload_n (q := 416) hC d_Lw_law_415 rfl rfl rfl ?_
  refine x_iconst (q := 417) (v := nI 1) hC d_Lw_law_416 (by decide) rfl ?_
  refine x_iadd (q := 418) (z := nI (i + 1)) hC d_Lw_law_417 (nI_add _ _) rfl ?_
  refine x_sld (q := 419) (p := 0) hC (i + 1) rfl (Nat.le_of_ble_eq_true rfl) rfl (by omega) (by omega) d_Lw_law_418 rfl ?_
  refine x_aload_n (q := 420) hC d_Lw_law_419 rfl rfl rfl ?_
  refine x_iload_n (q := 421) hC d_Lw_law_420 rfl rfl rfl ?_
  refine x_iconst (q := 422) (v := nI 2) hC d_Lw_law_421 (by decide) rfl ?_
  refine x_iadd (q := 423) (z := nI (i + 2)) hC d_Lw_law_422 (nI_add _ _) rfl ?_
  refine x_sld (q := 424) (p := 0) hC (i + 2) rfl (Nat.le_of_ble_eq_true rfl) rfl (by omega) (by omega) d_Lw_law_423 rfl ?_
  refine x_callV (q := 427) (p := 1) (A := [.int (m 0 (i + 1)), .int (m 0 (i + 2))]) (S := []) (c1 := 213) (s1 := 2186) hC (c_MT_send (Nat.le_of_ble_eq_true rfl) hu hu1 hr h.tr h.pa) s_Lw_law_53 rfl (Nat.le_of_ble_eq_true rfl) rfl rfl rfl (Nat.le_of_ble_eq_true rfl) rfl rfl (by decide) (by decide) d_Lw_law_424 rfl (fun r τ hP => ?_)
  obtain ⟨rfl, rfl⟩ := hP
  show mx_G Γ κ _ _ 427 [(3, .int (nI i)), (2, .ref 185), (1, .ref 1), (0, .ref 0)] [.int (C_sendv r (m 0 (i + 1)) (m 0 (i + 2)) m)] (214, u, C_send r (m 0 (i + 1)) (m 0 (i + 2)) m) 213 2186
  refine mx_nr (fun m1 e1 => ?_)
  have f1 := (sim_send (s := m 0 (i + 1)) (g := m 0 (i + 2)) hr h).2.2.1
  rw [e1] at f1
  have hs := h.mid f1
  have z : ∀ j, m1 0 j = m 0 j := fun j => f1 0 j (Or.inl rfl)
  refine x_aload_n (q := 428) hC d_Lw_law_427 rfl rfl rfl ?_
  refine x_aload_n (q := 429) hC d_Lw_law_428 rfl rfl rfl ?_
  refine x_iload_n (q := 430) hC d_Lw_law_429 rfl rfl rfl ?_
  refine x_iconst (q := 431) (v := nI 1) hC d_Lw_law_430 (by decide) rfl ?_
  refine x_iadd (q := 432) (z := nI (i + 1)) hC d_Lw_law_431 (nI_add _ _) rfl ?_
  refine x_sld (q := 433) (p := 0) hC (i + 1) rfl (Nat.le_of_ble_eq_true rfl) rfl (by omega) (by omega) d_Lw_law_432 rfl ?_
  refine x_aload_n (q := 434) hC d_Lw_law_433 rfl rfl rfl ?_
  refine x_iload_n (q := 435) hC d_Lw_law_434 rfl rfl rfl ?_
  refine x_iconst (q := 436) (v := nI 2) hC d_Lw_law_435 (by decide) rfl ?_
  refine x_iadd (q := 437) (z := nI (i + 2)) hC d_Lw_law_436 (nI_add _ _) rfl ?_
  refine x_sld (q := 438) (p := 0) hC (i + 2) rfl (Nat.le_of_ble_eq_true rfl) rfl (by omega) (by omega) d_Lw_law_437 rfl ?_
  refine x_callV (q := 441) (p := 185) (A := [.int (m1 0 (i + 1)), .int (m1 0 (i + 2))]) (S := [.int (C_sendv r (m 0 (i + 1)) (m 0 (i + 2)) m)]) (c1 := 213) (s1 := 2186) hC (c_Mo_send (Nat.le_of_ble_eq_true rfl) hu hr hs.mo) s_Lw_law_56 rfl (Nat.le_of_ble_eq_true rfl) rfl rfl rfl (Nat.le_of_ble_eq_true rfl) rfl rfl (by decide) (by decide) d_Lw_law_438 rfl (fun r τ hP => ?_)
  obtain ⟨rfl, rfl⟩ := hP
  show mx_G Γ κ _ _ 441 [(3, .int (nI i)), (2, .ref 185), (1, .ref 1), (0, .ref 0)] [.int (D_sendv r (m1 0 (i + 1)) (m1 0 (i + 2)) m1), .int (C_sendv r (m 0 (i + 1)) (m 0 (i + 2)) m)] (214, u, D_send r (m1 0 (i + 1)) (m1 0 (i + 2)) m1) 213 2186
  have eq : C_sendv r (m 0 (i + 1)) (m 0 (i + 2)) m = D_sendv r (m1 0 (i + 1)) (m1 0 (i + 2)) m1 := (by rw [z, z]; exact (sim_send hr hs).2.1)
  refine x_icmp_eq (tgt := 752) (q := 444) hC d_Lw_law_441 (by decide) rfl (fun _ => ?_) (fun hn => absurd eq hn)
  refine mx_nr (fun m2 e2 => ?_)
  rw [z, z] at e2
  have hq := sim_send (s := m 0 (i + 1)) (g := m 0 (i + 2)) hr hs
  rw [e1, e2] at hq
  exact K m2 t (by omega) (hq.1.two hq.2.2.2 (fun _ _ _ => rfl))
set_option maxRecDepth 100000 in
set_option maxHeartbeats 1000000 in
theorem lw_crossings {Γ : mx_X} {κ : mx_K} {Q : State → Prop} {u : Nat → Nat → Bool} {m : mx_Mm} {r t i : Nat} (hC : mx_Ctx Γ κ M_Lw_law) (hu : ∀ p k, 2 ≤ p → u p k = true) (hu1 : ∀ k, u 1 k = true) (hr : r < 6) (hL : Γ.2.2.2 ≤ 2561) (hi : i + 5 ≤ Γ.2.2.2) (h : Sim r t m m) (ht : t ≤ 100000) (K : ∀ m' t', t' ≤ t + 10 → Sim r t' m' m' → mx_G Γ κ M_Lw_law Q 752 [(3, .int (nI i)), (2, .ref 185), (1, .ref 1), (0, .ref 0)] [] (214, u, m') 213 2186) : mx_G Γ κ M_Lw_law Q 446 [(3, .int (nI i)), (2, .ref 185), (1, .ref 1), (0, .ref 0)] [] (214, u, m) 213 2186 := by
  refine x_aload_n (q := 447) hC d_Lw_law_446 rfl rfl rfl ?_
  refine x_callV (q := 450) (p := 1) (A := []) (S := []) (c1 := 213) (s1 := 2186) hC (c_MT_crossings (Nat.le_of_ble_eq_true rfl) hu hu1 ) s_Lw_law_57 rfl (Nat.le_of_ble_eq_true rfl) rfl rfl rfl (Nat.le_of_ble_eq_true rfl) rfl rfl (by decide) (by decide) d_Lw_law_447 rfl (fun r τ hP => ?_)
  obtain ⟨rfl, rfl⟩ := hP
  show mx_G Γ κ _ _ 450 [(3, .int (nI i)), (2, .ref 185), (1, .ref 1), (0, .ref 0)] [.int (m 165 8)] (214, u, m) 213 2186
  refine x_aload_n (q := 451) hC d_Lw_law_450 rfl rfl rfl ?_
  refine x_callV (q := 454) (p := 185) (A := []) (S := [.int (m 165 8)]) (c1 := 213) (s1 := 2186) hC (c_Mo_crossings (Nat.le_of_ble_eq_true rfl) hu ) s_Lw_law_61 rfl (Nat.le_of_ble_eq_true rfl) rfl rfl rfl (Nat.le_of_ble_eq_true rfl) rfl rfl (by decide) (by decide) d_Lw_law_451 rfl (fun r τ hP => ?_)
  obtain ⟨rfl, rfl⟩ := hP
  show mx_G Γ κ _ _ 454 [(3, .int (nI i)), (2, .ref 185), (1, .ref 1), (0, .ref 0)] [.int (m 185 19), .int (m 165 8)] (214, u, m) 213 2186
  have eq : m 165 8 = m 185 19 := h.2.1.1
  refine x_icmp_eq (tgt := 752) (q := 457) hC d_Lw_law_454 (by decide) rfl (fun _ => ?_) (fun hn => absurd eq hn)
  exact K m t (by omega) h
set_option maxRecDepth 100000 in
set_option maxHeartbeats 1000000 in
theorem lw_drops {Γ : mx_X} {κ : mx_K} {Q : State → Prop} {u : Nat → Nat → Bool} {m : mx_Mm} {r t i : Nat} (hC : mx_Ctx Γ κ M_Lw_law) (hu : ∀ p k, 2 ≤ p → u p k = true) (hu1 : ∀ k, u 1 k = true) (hr : r < 6) (hL : Γ.2.2.2 ≤ 2561) (hi : i + 5 ≤ Γ.2.2.2) (h : Sim r t m m) (ht : t ≤ 100000) (K : ∀ m' t', t' ≤ t + 10 → Sim r t' m' m' → mx_G Γ κ M_Lw_law Q 752 [(3, .int (nI i)), (2, .ref 185), (1, .ref 1), (0, .ref 0)] [] (214, u, m') 213 2186) : mx_G Γ κ M_Lw_law Q 459 [(3, .int (nI i)), (2, .ref 185), (1, .ref 1), (0, .ref 0)] [] (214, u, m) 213 2186 := by
  refine x_aload_n (q := 460) hC d_Lw_law_459 rfl rfl rfl ?_
  refine x_callV (q := 463) (p := 1) (A := []) (S := []) (c1 := 213) (s1 := 2186) hC (c_MT_drops (Nat.le_of_ble_eq_true rfl) hu hu1 ) s_Lw_law_62 rfl (Nat.le_of_ble_eq_true rfl) rfl rfl rfl (Nat.le_of_ble_eq_true rfl) rfl rfl (by decide) (by decide) d_Lw_law_460 rfl (fun r τ hP => ?_)
  obtain ⟨rfl, rfl⟩ := hP
  show mx_G Γ κ _ _ 463 [(3, .int (nI i)), (2, .ref 185), (1, .ref 1), (0, .ref 0)] [.int (m 165 9)] (214, u, m) 213 2186
  refine x_aload_n (q := 464) hC d_Lw_law_463 rfl rfl rfl ?_
  refine x_callV (q := 467) (p := 185) (A := []) (S := [.int (m 165 9)]) (c1 := 213) (s1 := 2186) hC (c_Mo_drops (Nat.le_of_ble_eq_true rfl) hu ) s_Lw_law_65 rfl (Nat.le_of_ble_eq_true rfl) rfl rfl rfl (Nat.le_of_ble_eq_true rfl) rfl rfl (by decide) (by decide) d_Lw_law_464 rfl (fun r τ hP => ?_)
  obtain ⟨rfl, rfl⟩ := hP
  show mx_G Γ κ _ _ 467 [(3, .int (nI i)), (2, .ref 185), (1, .ref 1), (0, .ref 0)] [.int (m 185 20), .int (m 165 9)] (214, u, m) 213 2186
  have eq : m 165 9 = m 185 20 := h.2.1.2.1
  refine x_icmp_eq (tgt := 752) (q := 470) hC d_Lw_law_467 (by decide) rfl (fun _ => ?_) (fun hn => absurd eq hn)
  exact K m t (by omega) h
set_option maxRecDepth 100000 in
set_option maxHeartbeats 1000000 in
theorem lw_reached {Γ : mx_X} {κ : mx_K} {Q : State → Prop} {u : Nat → Nat → Bool} {m : mx_Mm} {r t i : Nat} (hC : mx_Ctx Γ κ M_Lw_law) (hu : ∀ p k, 2 ≤ p → u p k = true) (hu1 : ∀ k, u 1 k = true) (hr : r < 6) (hL : Γ.2.2.2 ≤ 2561) (hi : i + 5 ≤ Γ.2.2.2) (h : Sim r t m m) (ht : t ≤ 100000) (K : ∀ m' t', t' ≤ t + 10 → Sim r t' m' m' → mx_G Γ κ M_Lw_law Q 752 [(3, .int (nI i)), (2, .ref 185), (1, .ref 1), (0, .ref 0)] [] (214, u, m') 213 2186) : mx_G Γ κ M_Lw_law Q 472 [(3, .int (nI i)), (2, .ref 185), (1, .ref 1), (0, .ref 0)] [] (214, u, m) 213 2186 := by
  refine x_aload_n (q := 473) hC d_Lw_law_472 rfl rfl rfl ?_
  refine x_callV (q := 476) (p := 1) (A := []) (S := []) (c1 := 213) (s1 := 2186) hC (c_MT_reached (Nat.le_of_ble_eq_true rfl) hu hu1 ) s_Lw_law_66 rfl (Nat.le_of_ble_eq_true rfl) rfl rfl rfl (Nat.le_of_ble_eq_true rfl) rfl rfl (by decide) (by decide) d_Lw_law_473 rfl (fun r τ hP => ?_)
  obtain ⟨rfl, rfl⟩ := hP
  show mx_G Γ κ _ _ 476 [(3, .int (nI i)), (2, .ref 185), (1, .ref 1), (0, .ref 0)] [.int (m 165 10)] (214, u, m) 213 2186
  refine x_aload_n (q := 477) hC d_Lw_law_476 rfl rfl rfl ?_
  refine x_callV (q := 480) (p := 185) (A := []) (S := [.int (m 165 10)]) (c1 := 213) (s1 := 2186) hC (c_Mo_reached (Nat.le_of_ble_eq_true rfl) hu ) s_Lw_law_69 rfl (Nat.le_of_ble_eq_true rfl) rfl rfl rfl (Nat.le_of_ble_eq_true rfl) rfl rfl (by decide) (by decide) d_Lw_law_477 rfl (fun r τ hP => ?_)
  obtain ⟨rfl, rfl⟩ := hP
  show mx_G Γ κ _ _ 480 [(3, .int (nI i)), (2, .ref 185), (1, .ref 1), (0, .ref 0)] [.int (m 185 21), .int (m 165 10)] (214, u, m) 213 2186
  have eq : m 165 10 = m 185 21 := h.2.1.2.2.1
  refine x_icmp_eq (tgt := 752) (q := 483) hC d_Lw_law_480 (by decide) rfl (fun _ => ?_) (fun hn => absurd eq hn)
  exact K m t (by omega) h
set_option maxRecDepth 100000 in
set_option maxHeartbeats 1000000 in
theorem lw_heard {Γ : mx_X} {κ : mx_K} {Q : State → Prop} {u : Nat → Nat → Bool} {m : mx_Mm} {r t i : Nat} (hC : mx_Ctx Γ κ M_Lw_law) (hu : ∀ p k, 2 ≤ p → u p k = true) (hu1 : ∀ k, u 1 k = true) (hr : r < 6) (hL : Γ.2.2.2 ≤ 2561) (hi : i + 5 ≤ Γ.2.2.2) (h : Sim r t m m) (ht : t ≤ 100000) (K : ∀ m' t', t' ≤ t + 10 → Sim r t' m' m' → mx_G Γ κ M_Lw_law Q 752 [(3, .int (nI i)), (2, .ref 185), (1, .ref 1), (0, .ref 0)] [] (214, u, m') 213 2186) : mx_G Γ κ M_Lw_law Q 485 [(3, .int (nI i)), (2, .ref 185), (1, .ref 1), (0, .ref 0)] [] (214, u, m) 213 2186 := by
  refine x_aload_n (q := 486) hC d_Lw_law_485 rfl rfl rfl ?_
  refine x_callV (q := 489) (p := 1) (A := []) (S := []) (c1 := 213) (s1 := 2186) hC (c_MT_heard (Nat.le_of_ble_eq_true rfl) hu hu1 ) s_Lw_law_70 rfl (Nat.le_of_ble_eq_true rfl) rfl rfl rfl (Nat.le_of_ble_eq_true rfl) rfl rfl (by decide) (by decide) d_Lw_law_486 rfl (fun r τ hP => ?_)
  obtain ⟨rfl, rfl⟩ := hP
  show mx_G Γ κ _ _ 489 [(3, .int (nI i)), (2, .ref 185), (1, .ref 1), (0, .ref 0)] [.int (m 165 11)] (214, u, m) 213 2186
  refine x_aload_n (q := 490) hC d_Lw_law_489 rfl rfl rfl ?_
  refine x_callV (q := 493) (p := 185) (A := []) (S := [.int (m 165 11)]) (c1 := 213) (s1 := 2186) hC (c_Mo_heard (Nat.le_of_ble_eq_true rfl) hu ) s_Lw_law_73 rfl (Nat.le_of_ble_eq_true rfl) rfl rfl rfl (Nat.le_of_ble_eq_true rfl) rfl rfl (by decide) (by decide) d_Lw_law_490 rfl (fun r τ hP => ?_)
  obtain ⟨rfl, rfl⟩ := hP
  show mx_G Γ κ _ _ 493 [(3, .int (nI i)), (2, .ref 185), (1, .ref 1), (0, .ref 0)] [.int (m 185 22), .int (m 165 11)] (214, u, m) 213 2186
  have eq : m 165 11 = m 185 22 := h.2.1.2.2.2
  refine x_icmp_eq (tgt := 752) (q := 496) hC d_Lw_law_493 (by decide) rfl (fun _ => ?_) (fun hn => absurd eq hn)
  exact K m t (by omega) h
set_option maxRecDepth 100000 in
set_option maxHeartbeats 1000000 in
theorem lw_shared {Γ : mx_X} {κ : mx_K} {Q : State → Prop} {u : Nat → Nat → Bool} {m : mx_Mm} {r t i : Nat} (hC : mx_Ctx Γ κ M_Lw_law) (hu : ∀ p k, 2 ≤ p → u p k = true) (hu1 : ∀ k, u 1 k = true) (hr : r < 6) (hL : Γ.2.2.2 ≤ 2561) (hi : i + 5 ≤ Γ.2.2.2) (h : Sim r t m m) (ht : t ≤ 100000) (K : ∀ m' t', t' ≤ t + 10 → Sim r t' m' m' → mx_G Γ κ M_Lw_law Q 752 [(3, .int (nI i)), (2, .ref 185), (1, .ref 1), (0, .ref 0)] [] (214, u, m') 213 2186) : mx_G Γ κ M_Lw_law Q 498 [(3, .int (nI i)), (2, .ref 185), (1, .ref 1), (0, .ref 0)] [] (214, u, m) 213 2186 := by
  refine x_aload_n (q := 499) hC d_Lw_law_498 rfl rfl rfl ?_
  refine x_aload_n (q := 500) hC d_Lw_law_499 rfl rfl rfl ?_
  refine x_iload_n (q := 501) hC d_Lw_law_500 rfl rfl rfl ?_
  refine x_iconst (q := 502) (v := nI 1) hC d_Lw_law_501 (by decide) rfl ?_
  refine x_iadd (q := 503) (z := nI (i + 1)) hC d_Lw_law_502 (nI_add _ _) rfl ?_
  refine x_sld (q := 504) (p := 0) hC (i + 1) rfl (Nat.le_of_ble_eq_true rfl) rfl (by omega) (by omega) d_Lw_law_503 rfl ?_
  refine x_aload_n (q := 505) hC d_Lw_law_504 rfl rfl rfl ?_
  refine x_iload_n (q := 506) hC d_Lw_law_505 rfl rfl rfl ?_
  refine x_iconst (q := 507) (v := nI 2) hC d_Lw_law_506 (by decide) rfl ?_
  refine x_iadd (q := 508) (z := nI (i + 2)) hC d_Lw_law_507 (nI_add _ _) rfl ?_
  refine x_sld (q := 509) (p := 0) hC (i + 2) rfl (Nat.le_of_ble_eq_true rfl) rfl (by omega) (by omega) d_Lw_law_508 rfl ?_
  refine x_callV (q := 512) (p := 1) (A := [.int (m 0 (i + 1)), .int (m 0 (i + 2))]) (S := []) (c1 := 213) (s1 := 2186) hC (c_MT_shared (Nat.le_of_ble_eq_true rfl) hu hu1 ) s_Lw_law_74 rfl (Nat.le_of_ble_eq_true rfl) rfl rfl rfl (Nat.le_of_ble_eq_true rfl) rfl rfl (by decide) (by decide) d_Lw_law_509 rfl (fun r τ hP => ?_)
  obtain ⟨rfl, rfl⟩ := hP
  show mx_G Γ κ _ _ 512 [(3, .int (nI i)), (2, .ref 185), (1, .ref 1), (0, .ref 0)] [.int (C_shar (m 0 (i + 1)) (m 0 (i + 2)) m)] (214, u, m) 213 2186
  refine x_aload_n (q := 513) hC d_Lw_law_512 rfl rfl rfl ?_
  refine x_aload_n (q := 514) hC d_Lw_law_513 rfl rfl rfl ?_
  refine x_iload_n (q := 515) hC d_Lw_law_514 rfl rfl rfl ?_
  refine x_iconst (q := 516) (v := nI 1) hC d_Lw_law_515 (by decide) rfl ?_
  refine x_iadd (q := 517) (z := nI (i + 1)) hC d_Lw_law_516 (nI_add _ _) rfl ?_
  refine x_sld (q := 518) (p := 0) hC (i + 1) rfl (Nat.le_of_ble_eq_true rfl) rfl (by omega) (by omega) d_Lw_law_517 rfl ?_
  refine x_aload_n (q := 519) hC d_Lw_law_518 rfl rfl rfl ?_
  refine x_iload_n (q := 520) hC d_Lw_law_519 rfl rfl rfl ?_
  refine x_iconst (q := 521) (v := nI 2) hC d_Lw_law_520 (by decide) rfl ?_
  refine x_iadd (q := 522) (z := nI (i + 2)) hC d_Lw_law_521 (nI_add _ _) rfl ?_
  refine x_sld (q := 523) (p := 0) hC (i + 2) rfl (Nat.le_of_ble_eq_true rfl) rfl (by omega) (by omega) d_Lw_law_522 rfl ?_
  refine x_callV (q := 526) (p := 185) (A := [.int (m 0 (i + 1)), .int (m 0 (i + 2))]) (S := [.int (C_shar (m 0 (i + 1)) (m 0 (i + 2)) m)]) (c1 := 213) (s1 := 2186) hC (c_Mo_shared (Nat.le_of_ble_eq_true rfl) hu ) s_Lw_law_77 rfl (Nat.le_of_ble_eq_true rfl) rfl rfl rfl (Nat.le_of_ble_eq_true rfl) rfl rfl (by decide) (by decide) d_Lw_law_523 rfl (fun r τ hP => ?_)
  obtain ⟨rfl, rfl⟩ := hP
  show mx_G Γ κ _ _ 526 [(3, .int (nI i)), (2, .ref 185), (1, .ref 1), (0, .ref 0)] [.int (D_shar (m 0 (i + 1)) (m 0 (i + 2)) m), .int (C_shar (m 0 (i + 1)) (m 0 (i + 2)) m)] (214, u, m) 213 2186
  have eq : C_shar (m 0 (i + 1)) (m 0 (i + 2)) m = D_shar (m 0 (i + 1)) (m 0 (i + 2)) m := sim_shar h
  refine x_icmp_eq (tgt := 752) (q := 529) hC d_Lw_law_526 (by decide) rfl (fun _ => ?_) (fun hn => absurd eq hn)
  exact K m t (by omega) h
set_option maxRecDepth 100000 in
set_option maxHeartbeats 1000000 in
theorem lw_entry {Γ : mx_X} {κ : mx_K} {Q : State → Prop} {u : Nat → Nat → Bool} {m : mx_Mm} {r t i : Nat} (hC : mx_Ctx Γ κ M_Lw_law) (hu : ∀ p k, 2 ≤ p → u p k = true) (hu1 : ∀ k, u 1 k = true) (hr : r < 6) (hL : Γ.2.2.2 ≤ 2561) (hi : i + 5 ≤ Γ.2.2.2) (h : Sim r t m m) (ht : t ≤ 100000) (K : ∀ m' t', t' ≤ t + 10 → Sim r t' m' m' → mx_G Γ κ M_Lw_law Q 752 [(3, .int (nI i)), (2, .ref 185), (1, .ref 1), (0, .ref 0)] [] (214, u, m') 213 2186) : mx_G Γ κ M_Lw_law Q 531 [(3, .int (nI i)), (2, .ref 185), (1, .ref 1), (0, .ref 0)] [] (214, u, m) 213 2186 := by
  refine x_aload_n (q := 532) hC d_Lw_law_531 rfl rfl rfl ?_
  refine x_aload_n (q := 533) hC d_Lw_law_532 rfl rfl rfl ?_
  refine x_iload_n (q := 534) hC d_Lw_law_533 rfl rfl rfl ?_
  refine x_iconst (q := 535) (v := nI 1) hC d_Lw_law_534 (by decide) rfl ?_
  refine x_iadd (q := 536) (z := nI (i + 1)) hC d_Lw_law_535 (nI_add _ _) rfl ?_
  refine x_sld (q := 537) (p := 0) hC (i + 1) rfl (Nat.le_of_ble_eq_true rfl) rfl (by omega) (by omega) d_Lw_law_536 rfl ?_
  refine x_aload_n (q := 538) hC d_Lw_law_537 rfl rfl rfl ?_
  refine x_iload_n (q := 539) hC d_Lw_law_538 rfl rfl rfl ?_
  refine x_iconst (q := 540) (v := nI 2) hC d_Lw_law_539 (by decide) rfl ?_
  refine x_iadd (q := 541) (z := nI (i + 2)) hC d_Lw_law_540 (nI_add _ _) rfl ?_
  refine x_sld (q := 542) (p := 0) hC (i + 2) rfl (Nat.le_of_ble_eq_true rfl) rfl (by omega) (by omega) d_Lw_law_541 rfl ?_
  refine x_aload_n (q := 543) hC d_Lw_law_542 rfl rfl rfl ?_
  refine x_iload_n (q := 544) hC d_Lw_law_543 rfl rfl rfl ?_
  refine x_iconst (q := 545) (v := nI 3) hC d_Lw_law_544 (by decide) rfl ?_
  refine x_iadd (q := 546) (z := nI (i + 3)) hC d_Lw_law_545 (nI_add _ _) rfl ?_
  refine x_sld (q := 547) (p := 0) hC (i + 3) rfl (Nat.le_of_ble_eq_true rfl) rfl (by omega) (by omega) d_Lw_law_546 rfl ?_
  refine x_callV (q := 550) (p := 1) (A := [.int (m 0 (i + 1)), .int (m 0 (i + 2)), .int (m 0 (i + 3))]) (S := []) (c1 := 213) (s1 := 2186) hC (c_MT_entry (Nat.le_of_ble_eq_true rfl) hu hu1 ) s_Lw_law_78 rfl (Nat.le_of_ble_eq_true rfl) rfl rfl rfl (Nat.le_of_ble_eq_true rfl) rfl rfl (by decide) (by decide) d_Lw_law_547 rfl (fun r τ hP => ?_)
  obtain ⟨rfl, rfl⟩ := hP
  show mx_G Γ κ _ _ 550 [(3, .int (nI i)), (2, .ref 185), (1, .ref 1), (0, .ref 0)] [.int (C_ent (m 0 (i + 1)) (m 0 (i + 2)) (m 0 (i + 3)) m)] (214, u, m) 213 2186
  refine x_aload_n (q := 551) hC d_Lw_law_550 rfl rfl rfl ?_
  refine x_aload_n (q := 552) hC d_Lw_law_551 rfl rfl rfl ?_
  refine x_iload_n (q := 553) hC d_Lw_law_552 rfl rfl rfl ?_
  refine x_iconst (q := 554) (v := nI 1) hC d_Lw_law_553 (by decide) rfl ?_
  refine x_iadd (q := 555) (z := nI (i + 1)) hC d_Lw_law_554 (nI_add _ _) rfl ?_
  refine x_sld (q := 556) (p := 0) hC (i + 1) rfl (Nat.le_of_ble_eq_true rfl) rfl (by omega) (by omega) d_Lw_law_555 rfl ?_
  refine x_aload_n (q := 557) hC d_Lw_law_556 rfl rfl rfl ?_
  refine x_iload_n (q := 558) hC d_Lw_law_557 rfl rfl rfl ?_
  refine x_iconst (q := 559) (v := nI 2) hC d_Lw_law_558 (by decide) rfl ?_
  refine x_iadd (q := 560) (z := nI (i + 2)) hC d_Lw_law_559 (nI_add _ _) rfl ?_
  refine x_sld (q := 561) (p := 0) hC (i + 2) rfl (Nat.le_of_ble_eq_true rfl) rfl (by omega) (by omega) d_Lw_law_560 rfl ?_
  refine x_aload_n (q := 562) hC d_Lw_law_561 rfl rfl rfl ?_
  refine x_iload_n (q := 563) hC d_Lw_law_562 rfl rfl rfl ?_
  refine x_iconst (q := 564) (v := nI 3) hC d_Lw_law_563 (by decide) rfl ?_
  refine x_iadd (q := 565) (z := nI (i + 3)) hC d_Lw_law_564 (nI_add _ _) rfl ?_
  refine x_sld (q := 566) (p := 0) hC (i + 3) rfl (Nat.le_of_ble_eq_true rfl) rfl (by omega) (by omega) d_Lw_law_565 rfl ?_
  refine x_callV (q := 569) (p := 185) (A := [.int (m 0 (i + 1)), .int (m 0 (i + 2)), .int (m 0 (i + 3))]) (S := [.int (C_ent (m 0 (i + 1)) (m 0 (i + 2)) (m 0 (i + 3)) m)]) (c1 := 213) (s1 := 2186) hC (c_Mo_entry (Nat.le_of_ble_eq_true rfl) hu ) s_Lw_law_82 rfl (Nat.le_of_ble_eq_true rfl) rfl rfl rfl (Nat.le_of_ble_eq_true rfl) rfl rfl (by decide) (by decide) d_Lw_law_566 rfl (fun r τ hP => ?_)
  obtain ⟨rfl, rfl⟩ := hP
  show mx_G Γ κ _ _ 569 [(3, .int (nI i)), (2, .ref 185), (1, .ref 1), (0, .ref 0)] [.int (D_ent (m 0 (i + 1)) (m 0 (i + 2)) (m 0 (i + 3)) m), .int (C_ent (m 0 (i + 1)) (m 0 (i + 2)) (m 0 (i + 3)) m)] (214, u, m) 213 2186
  have eq : C_ent (m 0 (i + 1)) (m 0 (i + 2)) (m 0 (i + 3)) m = D_ent (m 0 (i + 1)) (m 0 (i + 2)) (m 0 (i + 3)) m := sim_ent h
  refine x_icmp_eq (tgt := 752) (q := 572) hC d_Lw_law_569 (by decide) rfl (fun _ => ?_) (fun hn => absurd eq hn)
  exact K m t (by omega) h
set_option maxRecDepth 100000 in
set_option maxHeartbeats 1000000 in
theorem lw_messages {Γ : mx_X} {κ : mx_K} {Q : State → Prop} {u : Nat → Nat → Bool} {m : mx_Mm} {r t i : Nat} (hC : mx_Ctx Γ κ M_Lw_law) (hu : ∀ p k, 2 ≤ p → u p k = true) (hu1 : ∀ k, u 1 k = true) (hr : r < 6) (hL : Γ.2.2.2 ≤ 2561) (hi : i + 5 ≤ Γ.2.2.2) (h : Sim r t m m) (ht : t ≤ 100000) (K : ∀ m' t', t' ≤ t + 10 → Sim r t' m' m' → mx_G Γ κ M_Lw_law Q 752 [(3, .int (nI i)), (2, .ref 185), (1, .ref 1), (0, .ref 0)] [] (214, u, m') 213 2186) : mx_G Γ κ M_Lw_law Q 574 [(3, .int (nI i)), (2, .ref 185), (1, .ref 1), (0, .ref 0)] [] (214, u, m) 213 2186 := by
  refine x_aload_n (q := 575) hC d_Lw_law_574 rfl rfl rfl ?_
  refine x_aload_n (q := 576) hC d_Lw_law_575 rfl rfl rfl ?_
  refine x_iload_n (q := 577) hC d_Lw_law_576 rfl rfl rfl ?_
  refine x_iconst (q := 578) (v := nI 1) hC d_Lw_law_577 (by decide) rfl ?_
  refine x_iadd (q := 579) (z := nI (i + 1)) hC d_Lw_law_578 (nI_add _ _) rfl ?_
  refine x_sld (q := 580) (p := 0) hC (i + 1) rfl (Nat.le_of_ble_eq_true rfl) rfl (by omega) (by omega) d_Lw_law_579 rfl ?_
  refine x_callV (q := 583) (p := 1) (A := [.int (m 0 (i + 1))]) (S := []) (c1 := 213) (s1 := 2186) hC (c_MT_messages (Nat.le_of_ble_eq_true rfl) hu hu1 ) s_Lw_law_83 rfl (Nat.le_of_ble_eq_true rfl) rfl rfl rfl (Nat.le_of_ble_eq_true rfl) rfl rfl (by decide) (by decide) d_Lw_law_580 rfl (fun r τ hP => ?_)
  obtain ⟨rfl, rfl⟩ := hP
  show mx_G Γ κ _ _ 583 [(3, .int (nI i)), (2, .ref 185), (1, .ref 1), (0, .ref 0)] [.int (C_msg (m 0 (i + 1)) m)] (214, u, m) 213 2186
  refine x_aload_n (q := 584) hC d_Lw_law_583 rfl rfl rfl ?_
  refine x_aload_n (q := 585) hC d_Lw_law_584 rfl rfl rfl ?_
  refine x_iload_n (q := 586) hC d_Lw_law_585 rfl rfl rfl ?_
  refine x_iconst (q := 587) (v := nI 1) hC d_Lw_law_586 (by decide) rfl ?_
  refine x_iadd (q := 588) (z := nI (i + 1)) hC d_Lw_law_587 (nI_add _ _) rfl ?_
  refine x_sld (q := 589) (p := 0) hC (i + 1) rfl (Nat.le_of_ble_eq_true rfl) rfl (by omega) (by omega) d_Lw_law_588 rfl ?_
  refine x_callV (q := 592) (p := 185) (A := [.int (m 0 (i + 1))]) (S := [.int (C_msg (m 0 (i + 1)) m)]) (c1 := 213) (s1 := 2186) hC (c_Mo_messages (Nat.le_of_ble_eq_true rfl) hu ) s_Lw_law_87 rfl (Nat.le_of_ble_eq_true rfl) rfl rfl rfl (Nat.le_of_ble_eq_true rfl) rfl rfl (by decide) (by decide) d_Lw_law_589 rfl (fun r τ hP => ?_)
  obtain ⟨rfl, rfl⟩ := hP
  show mx_G Γ κ _ _ 592 [(3, .int (nI i)), (2, .ref 185), (1, .ref 1), (0, .ref 0)] [.int (D_msg (m 0 (i + 1)) m), .int (C_msg (m 0 (i + 1)) m)] (214, u, m) 213 2186
  have eq : C_msg (m 0 (i + 1)) m = D_msg (m 0 (i + 1)) m := sim_msg h
  refine x_icmp_eq (tgt := 752) (q := 595) hC d_Lw_law_592 (by decide) rfl (fun _ => ?_) (fun hn => absurd eq hn)
  exact K m t (by omega) h
set_option maxRecDepth 100000 in
set_option maxHeartbeats 1000000 in
theorem lw_lose {Γ : mx_X} {κ : mx_K} {Q : State → Prop} {u : Nat → Nat → Bool} {m : mx_Mm} {r t i : Nat} (hC : mx_Ctx Γ κ M_Lw_law) (hu : ∀ p k, 2 ≤ p → u p k = true) (hu1 : ∀ k, u 1 k = true) (hr : r < 6) (hL : Γ.2.2.2 ≤ 2561) (hi : i + 5 ≤ Γ.2.2.2) (h : Sim r t m m) (ht : t ≤ 100000) (K : ∀ m' t', t' ≤ t + 10 → Sim r t' m' m' → mx_G Γ κ M_Lw_law Q 752 [(3, .int (nI i)), (2, .ref 185), (1, .ref 1), (0, .ref 0)] [] (214, u, m') 213 2186) : mx_G Γ κ M_Lw_law Q 597 [(3, .int (nI i)), (2, .ref 185), (1, .ref 1), (0, .ref 0)] [] (214, u, m) 213 2186 := by
  refine x_aload_n (q := 598) hC d_Lw_law_597 rfl rfl rfl ?_
  refine x_aload_n (q := 599) hC d_Lw_law_598 rfl rfl rfl ?_
  refine x_iload_n (q := 600) hC d_Lw_law_599 rfl rfl rfl ?_
  refine x_iconst (q := 601) (v := nI 1) hC d_Lw_law_600 (by decide) rfl ?_
  refine x_iadd (q := 602) (z := nI (i + 1)) hC d_Lw_law_601 (nI_add _ _) rfl ?_
  refine x_sld (q := 603) (p := 0) hC (i + 1) rfl (Nat.le_of_ble_eq_true rfl) rfl (by omega) (by omega) d_Lw_law_602 rfl ?_
  refine x_aload_n (q := 604) hC d_Lw_law_603 rfl rfl rfl ?_
  refine x_iload_n (q := 605) hC d_Lw_law_604 rfl rfl rfl ?_
  refine x_iconst (q := 606) (v := nI 2) hC d_Lw_law_605 (by decide) rfl ?_
  refine x_iadd (q := 607) (z := nI (i + 2)) hC d_Lw_law_606 (nI_add _ _) rfl ?_
  refine x_sld (q := 608) (p := 0) hC (i + 2) rfl (Nat.le_of_ble_eq_true rfl) rfl (by omega) (by omega) d_Lw_law_607 rfl ?_
  refine x_callV (q := 611) (p := 1) (A := [.int (m 0 (i + 1)), .int (m 0 (i + 2))]) (S := []) (c1 := 213) (s1 := 2186) hC (c_MT_lose (Nat.le_of_ble_eq_true rfl) hu hu1 ) s_Lw_law_88 rfl (Nat.le_of_ble_eq_true rfl) rfl rfl rfl (Nat.le_of_ble_eq_true rfl) rfl rfl (by decide) (by decide) d_Lw_law_608 rfl (fun r τ hP => ?_)
  obtain ⟨rfl, rfl⟩ := hP
  show mx_G Γ κ _ _ 611 [(3, .int (nI i)), (2, .ref 185), (1, .ref 1), (0, .ref 0)] [.int (bz (C_lsP (m 0 (i + 1)) (m 0 (i + 2))))] (214, u, C_lose (m 0 (i + 1)) (m 0 (i + 2)) m) 213 2186
  refine mx_nr (fun m1 e1 => ?_)
  have f1 := (sim_lose (l := m 0 (i + 1)) (c := m 0 (i + 2)) h).2.1
  rw [e1] at f1
  have hs := h.mid f1
  have z : ∀ j, m1 0 j = m 0 j := fun j => f1 0 j (Or.inl rfl)
  refine x_aload_n (q := 612) hC d_Lw_law_611 rfl rfl rfl ?_
  refine x_aload_n (q := 613) hC d_Lw_law_612 rfl rfl rfl ?_
  refine x_iload_n (q := 614) hC d_Lw_law_613 rfl rfl rfl ?_
  refine x_iconst (q := 615) (v := nI 1) hC d_Lw_law_614 (by decide) rfl ?_
  refine x_iadd (q := 616) (z := nI (i + 1)) hC d_Lw_law_615 (nI_add _ _) rfl ?_
  refine x_sld (q := 617) (p := 0) hC (i + 1) rfl (Nat.le_of_ble_eq_true rfl) rfl (by omega) (by omega) d_Lw_law_616 rfl ?_
  refine x_aload_n (q := 618) hC d_Lw_law_617 rfl rfl rfl ?_
  refine x_iload_n (q := 619) hC d_Lw_law_618 rfl rfl rfl ?_
  refine x_iconst (q := 620) (v := nI 2) hC d_Lw_law_619 (by decide) rfl ?_
  refine x_iadd (q := 621) (z := nI (i + 2)) hC d_Lw_law_620 (nI_add _ _) rfl ?_
  refine x_sld (q := 622) (p := 0) hC (i + 2) rfl (Nat.le_of_ble_eq_true rfl) rfl (by omega) (by omega) d_Lw_law_621 rfl ?_
  refine x_callV (q := 625) (p := 185) (A := [.int (m1 0 (i + 1)), .int (m1 0 (i + 2))]) (S := [.int (bz (C_lsP (m 0 (i + 1)) (m 0 (i + 2))))]) (c1 := 213) (s1 := 2186) hC (c_Mo_lose (Nat.le_of_ble_eq_true rfl) hu ) s_Lw_law_92 rfl (Nat.le_of_ble_eq_true rfl) rfl rfl rfl (Nat.le_of_ble_eq_true rfl) rfl rfl (by decide) (by decide) d_Lw_law_622 rfl (fun r τ hP => ?_)
  obtain ⟨rfl, rfl⟩ := hP
  show mx_G Γ κ _ _ 625 [(3, .int (nI i)), (2, .ref 185), (1, .ref 1), (0, .ref 0)] [.int (bz (C_lsP (m1 0 (i + 1)) (m1 0 (i + 2)))), .int (bz (C_lsP (m 0 (i + 1)) (m 0 (i + 2))))] (214, u, D_lose (m1 0 (i + 1)) (m1 0 (i + 2)) m1) 213 2186
  have eq : bz (C_lsP (m 0 (i + 1)) (m 0 (i + 2))) = bz (C_lsP (m1 0 (i + 1)) (m1 0 (i + 2))) := bz_q (by rw [z, z])
  refine x_icmp_eq (tgt := 752) (q := 628) hC d_Lw_law_625 (by decide) rfl (fun _ => ?_) (fun hn => absurd eq hn)
  refine mx_nr (fun m2 e2 => ?_)
  rw [z, z] at e2
  have hq := sim_lose (l := m 0 (i + 1)) (c := m 0 (i + 2)) hs
  rw [e1, e2] at hq
  exact K m2 t (by omega) (hq.1.two hq.2.2 (fun _ _ _ => rfl))
set_option maxRecDepth 100000 in
set_option maxHeartbeats 1000000 in
theorem lw_publish {Γ : mx_X} {κ : mx_K} {Q : State → Prop} {u : Nat → Nat → Bool} {m : mx_Mm} {r t i : Nat} (hC : mx_Ctx Γ κ M_Lw_law) (hu : ∀ p k, 2 ≤ p → u p k = true) (hu1 : ∀ k, u 1 k = true) (hr : r < 6) (hL : Γ.2.2.2 ≤ 2561) (hi : i + 5 ≤ Γ.2.2.2) (h : Sim r t m m) (ht : t ≤ 100000) (K : ∀ m' t', t' ≤ t + 10 → Sim r t' m' m' → mx_G Γ κ M_Lw_law Q 752 [(3, .int (nI i)), (2, .ref 185), (1, .ref 1), (0, .ref 0)] [] (214, u, m') 213 2186) : mx_G Γ κ M_Lw_law Q 630 [(3, .int (nI i)), (2, .ref 185), (1, .ref 1), (0, .ref 0)] [] (214, u, m) 213 2186 := by
  refine x_aload_n (q := 631) hC d_Lw_law_630 rfl rfl rfl ?_
  refine x_aload_n (q := 632) hC d_Lw_law_631 rfl rfl rfl ?_
  refine x_iload_n (q := 633) hC d_Lw_law_632 rfl rfl rfl ?_
  refine x_iconst (q := 634) (v := nI 1) hC d_Lw_law_633 (by decide) rfl ?_
  refine x_iadd (q := 635) (z := nI (i + 1)) hC d_Lw_law_634 (nI_add _ _) rfl ?_
  refine x_sld (q := 636) (p := 0) hC (i + 1) rfl (Nat.le_of_ble_eq_true rfl) rfl (by omega) (by omega) d_Lw_law_635 rfl ?_
  refine x_aload_n (q := 637) hC d_Lw_law_636 rfl rfl rfl ?_
  refine x_iload_n (q := 638) hC d_Lw_law_637 rfl rfl rfl ?_
  refine x_iconst (q := 639) (v := nI 2) hC d_Lw_law_638 (by decide) rfl ?_
  refine x_iadd (q := 640) (z := nI (i + 2)) hC d_Lw_law_639 (nI_add _ _) rfl ?_
  refine x_sld (q := 641) (p := 0) hC (i + 2) rfl (Nat.le_of_ble_eq_true rfl) rfl (by omega) (by omega) d_Lw_law_640 rfl ?_
  refine x_aload_n (q := 642) hC d_Lw_law_641 rfl rfl rfl ?_
  refine x_iload_n (q := 643) hC d_Lw_law_642 rfl rfl rfl ?_
  refine x_iconst (q := 644) (v := nI 3) hC d_Lw_law_643 (by decide) rfl ?_
  refine x_iadd (q := 645) (z := nI (i + 3)) hC d_Lw_law_644 (nI_add _ _) rfl ?_
  refine x_sld (q := 646) (p := 0) hC (i + 3) rfl (Nat.le_of_ble_eq_true rfl) rfl (by omega) (by omega) d_Lw_law_645 rfl ?_
  refine x_callV (q := 649) (p := 1) (A := [.int (m 0 (i + 1)), .int (m 0 (i + 2)), .int (m 0 (i + 3))]) (S := []) (c1 := 213) (s1 := 2186) hC (c_MT_publish (Nat.le_of_ble_eq_true rfl) hu hu1 h.fl) s_Lw_law_93 rfl (Nat.le_of_ble_eq_true rfl) rfl rfl rfl (Nat.le_of_ble_eq_true rfl) rfl rfl (by decide) (by decide) d_Lw_law_646 rfl (fun r τ hP => ?_)
  obtain ⟨rfl, rfl⟩ := hP
  show mx_G Γ κ _ _ 649 [(3, .int (nI i)), (2, .ref 185), (1, .ref 1), (0, .ref 0)] [.int (C_pubv (m 0 (i + 1)) (m 0 (i + 2)) (m 0 (i + 3)) m)] (214, u, C_pub (m 0 (i + 1)) (m 0 (i + 2)) (m 0 (i + 3)) m) 213 2186
  refine mx_nr (fun m1 e1 => ?_)
  have f1 := (sim_pub (s := m 0 (i + 1)) (g := m 0 (i + 2)) (n := m 0 (i + 3)) h).2.2.1
  rw [e1] at f1
  have hs := h.mid f1
  have z : ∀ j, m1 0 j = m 0 j := fun j => f1 0 j (Or.inl rfl)
  refine x_aload_n (q := 650) hC d_Lw_law_649 rfl rfl rfl ?_
  refine x_aload_n (q := 651) hC d_Lw_law_650 rfl rfl rfl ?_
  refine x_iload_n (q := 652) hC d_Lw_law_651 rfl rfl rfl ?_
  refine x_iconst (q := 653) (v := nI 1) hC d_Lw_law_652 (by decide) rfl ?_
  refine x_iadd (q := 654) (z := nI (i + 1)) hC d_Lw_law_653 (nI_add _ _) rfl ?_
  refine x_sld (q := 655) (p := 0) hC (i + 1) rfl (Nat.le_of_ble_eq_true rfl) rfl (by omega) (by omega) d_Lw_law_654 rfl ?_
  refine x_aload_n (q := 656) hC d_Lw_law_655 rfl rfl rfl ?_
  refine x_iload_n (q := 657) hC d_Lw_law_656 rfl rfl rfl ?_
  refine x_iconst (q := 658) (v := nI 2) hC d_Lw_law_657 (by decide) rfl ?_
  refine x_iadd (q := 659) (z := nI (i + 2)) hC d_Lw_law_658 (nI_add _ _) rfl ?_
  refine x_sld (q := 660) (p := 0) hC (i + 2) rfl (Nat.le_of_ble_eq_true rfl) rfl (by omega) (by omega) d_Lw_law_659 rfl ?_
  refine x_aload_n (q := 661) hC d_Lw_law_660 rfl rfl rfl ?_
  refine x_iload_n (q := 662) hC d_Lw_law_661 rfl rfl rfl ?_
  refine x_iconst (q := 663) (v := nI 3) hC d_Lw_law_662 (by decide) rfl ?_
  refine x_iadd (q := 664) (z := nI (i + 3)) hC d_Lw_law_663 (nI_add _ _) rfl ?_
  refine x_sld (q := 665) (p := 0) hC (i + 3) rfl (Nat.le_of_ble_eq_true rfl) rfl (by omega) (by omega) d_Lw_law_664 rfl ?_
  refine x_callV (q := 668) (p := 185) (A := [.int (m1 0 (i + 1)), .int (m1 0 (i + 2)), .int (m1 0 (i + 3))]) (S := [.int (C_pubv (m 0 (i + 1)) (m 0 (i + 2)) (m 0 (i + 3)) m)]) (c1 := 213) (s1 := 2186) hC (c_Mo_publish (Nat.le_of_ble_eq_true rfl) hu hs.ml) s_Lw_law_96 rfl (Nat.le_of_ble_eq_true rfl) rfl rfl rfl (Nat.le_of_ble_eq_true rfl) rfl rfl (by decide) (by decide) d_Lw_law_665 rfl (fun r τ hP => ?_)
  obtain ⟨rfl, rfl⟩ := hP
  show mx_G Γ κ _ _ 668 [(3, .int (nI i)), (2, .ref 185), (1, .ref 1), (0, .ref 0)] [.int (D_pubv (m1 0 (i + 1)) (m1 0 (i + 2)) (m1 0 (i + 3)) m1), .int (C_pubv (m 0 (i + 1)) (m 0 (i + 2)) (m 0 (i + 3)) m)] (214, u, D_pub (m1 0 (i + 1)) (m1 0 (i + 2)) (m1 0 (i + 3)) m1) 213 2186
  have eq : C_pubv (m 0 (i + 1)) (m 0 (i + 2)) (m 0 (i + 3)) m = D_pubv (m1 0 (i + 1)) (m1 0 (i + 2)) (m1 0 (i + 3)) m1 := (by rw [z, z, z]; exact (sim_pub hs).2.1)
  refine x_icmp_eq (tgt := 752) (q := 671) hC d_Lw_law_668 (by decide) rfl (fun _ => ?_) (fun hn => absurd eq hn)
  refine mx_nr (fun m2 e2 => ?_)
  rw [z, z, z] at e2
  have hq := sim_pub (s := m 0 (i + 1)) (g := m 0 (i + 2)) (n := m 0 (i + 3)) hs
  rw [e1, e2] at hq
  exact K m2 t (by omega) (hq.1.two hq.2.2.2 (fun _ _ _ => rfl))
set_option maxRecDepth 100000 in
set_option maxHeartbeats 1000000 in
theorem lw_emit {Γ : mx_X} {κ : mx_K} {Q : State → Prop} {u : Nat → Nat → Bool} {m : mx_Mm} {r t i : Nat} (hC : mx_Ctx Γ κ M_Lw_law) (hu : ∀ p k, 2 ≤ p → u p k = true) (hu1 : ∀ k, u 1 k = true) (hr : r < 6) (hL : Γ.2.2.2 ≤ 2561) (hi : i + 5 ≤ Γ.2.2.2) (h : Sim r t m m) (ht : t ≤ 100000) (K : ∀ m' t', t' ≤ t + 10 → Sim r t' m' m' → mx_G Γ κ M_Lw_law Q 752 [(3, .int (nI i)), (2, .ref 185), (1, .ref 1), (0, .ref 0)] [] (214, u, m') 213 2186) : mx_G Γ κ M_Lw_law Q 673 [(3, .int (nI i)), (2, .ref 185), (1, .ref 1), (0, .ref 0)] [] (214, u, m) 213 2186 := by
  refine x_aload_n (q := 674) hC d_Lw_law_673 rfl rfl rfl ?_
  refine x_aload_n (q := 675) hC d_Lw_law_674 rfl rfl rfl ?_
  refine x_iload_n (q := 676) hC d_Lw_law_675 rfl rfl rfl ?_
  refine x_iconst (q := 677) (v := nI 1) hC d_Lw_law_676 (by decide) rfl ?_
  refine x_iadd (q := 678) (z := nI (i + 1)) hC d_Lw_law_677 (nI_add _ _) rfl ?_
  refine x_sld (q := 679) (p := 0) hC (i + 1) rfl (Nat.le_of_ble_eq_true rfl) rfl (by omega) (by omega) d_Lw_law_678 rfl ?_
  refine x_callV (q := 682) (p := 1) (A := [.int (m 0 (i + 1))]) (S := []) (c1 := 213) (s1 := 2186) hC (c_MT_emit (Nat.le_of_ble_eq_true rfl) hu hu1 hr h.tr h.pa h.fl) s_Lw_law_97 rfl (Nat.le_of_ble_eq_true rfl) rfl rfl rfl (Nat.le_of_ble_eq_true rfl) rfl rfl (by decide) (by decide) d_Lw_law_679 rfl (fun r τ hP => ?_)
  obtain ⟨rfl, rfl⟩ := hP
  show mx_G Γ κ _ _ 682 [(3, .int (nI i)), (2, .ref 185), (1, .ref 1), (0, .ref 0)] [.int (C_emitv r (m 0 (i + 1)) m)] (214, u, C_emit r (m 0 (i + 1)) m) 213 2186
  refine mx_nr (fun m1 e1 => ?_)
  have f1 := (sim_emit (x := m 0 (i + 1)) hr h).2.2.1
  rw [e1] at f1
  have hs := h.mid f1
  have z : ∀ j, m1 0 j = m 0 j := fun j => f1 0 j (Or.inl rfl)
  refine x_aload_n (q := 683) hC d_Lw_law_682 rfl rfl rfl ?_
  refine x_aload_n (q := 684) hC d_Lw_law_683 rfl rfl rfl ?_
  refine x_iload_n (q := 685) hC d_Lw_law_684 rfl rfl rfl ?_
  refine x_iconst (q := 686) (v := nI 1) hC d_Lw_law_685 (by decide) rfl ?_
  refine x_iadd (q := 687) (z := nI (i + 1)) hC d_Lw_law_686 (nI_add _ _) rfl ?_
  refine x_sld (q := 688) (p := 0) hC (i + 1) rfl (Nat.le_of_ble_eq_true rfl) rfl (by omega) (by omega) d_Lw_law_687 rfl ?_
  refine x_callV (q := 691) (p := 185) (A := [.int (m1 0 (i + 1))]) (S := [.int (C_emitv r (m 0 (i + 1)) m)]) (c1 := 213) (s1 := 2186) hC (c_Mo_emit (Nat.le_of_ble_eq_true rfl) hu hr hs.mo hs.ml) s_Lw_law_100 rfl (Nat.le_of_ble_eq_true rfl) rfl rfl rfl (Nat.le_of_ble_eq_true rfl) rfl rfl (by decide) (by decide) d_Lw_law_688 rfl (fun r τ hP => ?_)
  obtain ⟨rfl, rfl⟩ := hP
  show mx_G Γ κ _ _ 691 [(3, .int (nI i)), (2, .ref 185), (1, .ref 1), (0, .ref 0)] [.int (D_emitv (m1 0 (i + 1)) m1), .int (C_emitv r (m 0 (i + 1)) m)] (214, u, D_emit r (m1 0 (i + 1)) m1) 213 2186
  have eq : C_emitv r (m 0 (i + 1)) m = D_emitv (m1 0 (i + 1)) m1 := (by rw [z]; exact (sim_emit hr hs).2.1)
  refine x_icmp_eq (tgt := 752) (q := 694) hC d_Lw_law_691 (by decide) rfl (fun _ => ?_) (fun hn => absurd eq hn)
  refine mx_nr (fun m2 e2 => ?_)
  rw [z] at e2
  have hq := sim_emit (x := m 0 (i + 1)) hr hs
  rw [e1, e2] at hq
  exact K m2 t (by omega) (hq.1.two hq.2.2.2 (fun _ _ _ => rfl))
set_option maxRecDepth 100000 in
set_option maxHeartbeats 1000000 in
theorem lw_requests {Γ : mx_X} {κ : mx_K} {Q : State → Prop} {u : Nat → Nat → Bool} {m : mx_Mm} {r t i : Nat} (hC : mx_Ctx Γ κ M_Lw_law) (hu : ∀ p k, 2 ≤ p → u p k = true) (hu1 : ∀ k, u 1 k = true) (hr : r < 6) (hL : Γ.2.2.2 ≤ 2561) (hi : i + 5 ≤ Γ.2.2.2) (h : Sim r t m m) (ht : t ≤ 100000) (K : ∀ m' t', t' ≤ t + 10 → Sim r t' m' m' → mx_G Γ κ M_Lw_law Q 752 [(3, .int (nI i)), (2, .ref 185), (1, .ref 1), (0, .ref 0)] [] (214, u, m') 213 2186) : mx_G Γ κ M_Lw_law Q 696 [(3, .int (nI i)), (2, .ref 185), (1, .ref 1), (0, .ref 0)] [] (214, u, m) 213 2186 := by
  refine x_aload_n (q := 697) hC d_Lw_law_696 rfl rfl rfl ?_
  refine x_aload_n (q := 698) hC d_Lw_law_697 rfl rfl rfl ?_
  refine x_iload_n (q := 699) hC d_Lw_law_698 rfl rfl rfl ?_
  refine x_iconst (q := 700) (v := nI 1) hC d_Lw_law_699 (by decide) rfl ?_
  refine x_iadd (q := 701) (z := nI (i + 1)) hC d_Lw_law_700 (nI_add _ _) rfl ?_
  refine x_sld (q := 702) (p := 0) hC (i + 1) rfl (Nat.le_of_ble_eq_true rfl) rfl (by omega) (by omega) d_Lw_law_701 rfl ?_
  refine x_callV (q := 705) (p := 1) (A := [.int (m 0 (i + 1))]) (S := []) (c1 := 213) (s1 := 2186) hC (c_MT_requests (Nat.le_of_ble_eq_true rfl) hu hu1 h.fl) s_Lw_law_101 rfl (Nat.le_of_ble_eq_true rfl) rfl rfl rfl (Nat.le_of_ble_eq_true rfl) rfl rfl (by decide) (by decide) d_Lw_law_702 rfl (fun r τ hP => ?_)
  obtain ⟨rfl, rfl⟩ := hP
  show mx_G Γ κ _ _ 705 [(3, .int (nI i)), (2, .ref 185), (1, .ref 1), (0, .ref 0)] [.int (C_reqv (m 0 (i + 1)) m)] (214, u, C_req (m 0 (i + 1)) m) 213 2186
  refine mx_nr (fun m1 e1 => ?_)
  have f1 := (sim_req (x := m 0 (i + 1)) h).2.2.1
  rw [e1] at f1
  have hs := h.mid f1
  have z : ∀ j, m1 0 j = m 0 j := fun j => f1 0 j (Or.inl rfl)
  refine x_aload_n (q := 706) hC d_Lw_law_705 rfl rfl rfl ?_
  refine x_aload_n (q := 707) hC d_Lw_law_706 rfl rfl rfl ?_
  refine x_iload_n (q := 708) hC d_Lw_law_707 rfl rfl rfl ?_
  refine x_iconst (q := 709) (v := nI 1) hC d_Lw_law_708 (by decide) rfl ?_
  refine x_iadd (q := 710) (z := nI (i + 1)) hC d_Lw_law_709 (nI_add _ _) rfl ?_
  refine x_sld (q := 711) (p := 0) hC (i + 1) rfl (Nat.le_of_ble_eq_true rfl) rfl (by omega) (by omega) d_Lw_law_710 rfl ?_
  refine x_callV (q := 714) (p := 185) (A := [.int (m1 0 (i + 1))]) (S := [.int (C_reqv (m 0 (i + 1)) m)]) (c1 := 213) (s1 := 2186) hC (c_Mo_requests (Nat.le_of_ble_eq_true rfl) hu hs.ml) s_Lw_law_104 rfl (Nat.le_of_ble_eq_true rfl) rfl rfl rfl (Nat.le_of_ble_eq_true rfl) rfl rfl (by decide) (by decide) d_Lw_law_711 rfl (fun r τ hP => ?_)
  obtain ⟨rfl, rfl⟩ := hP
  show mx_G Γ κ _ _ 714 [(3, .int (nI i)), (2, .ref 185), (1, .ref 1), (0, .ref 0)] [.int (D_reqv (m1 0 (i + 1)) m1), .int (C_reqv (m 0 (i + 1)) m)] (214, u, D_req (m1 0 (i + 1)) m1) 213 2186
  have eq : C_reqv (m 0 (i + 1)) m = D_reqv (m1 0 (i + 1)) m1 := (by rw [z]; exact (sim_req hs).2.1)
  refine x_icmp_eq (tgt := 752) (q := 717) hC d_Lw_law_714 (by decide) rfl (fun _ => ?_) (fun hn => absurd eq hn)
  refine mx_nr (fun m2 e2 => ?_)
  rw [z] at e2
  have hq := sim_req (x := m 0 (i + 1)) hs
  rw [e1, e2] at hq
  exact K m2 t (by omega) (hq.1.two hq.2.2.2 (fun _ _ _ => rfl))
set_option maxRecDepth 100000 in
set_option maxHeartbeats 1000000 in
theorem lw_have {Γ : mx_X} {κ : mx_K} {Q : State → Prop} {u : Nat → Nat → Bool} {m : mx_Mm} {r t i : Nat} (hC : mx_Ctx Γ κ M_Lw_law) (hu : ∀ p k, 2 ≤ p → u p k = true) (hu1 : ∀ k, u 1 k = true) (hr : r < 6) (hL : Γ.2.2.2 ≤ 2561) (hi : i + 5 ≤ Γ.2.2.2) (h : Sim r t m m) (ht : t ≤ 100000) (K : ∀ m' t', t' ≤ t + 10 → Sim r t' m' m' → mx_G Γ κ M_Lw_law Q 752 [(3, .int (nI i)), (2, .ref 185), (1, .ref 1), (0, .ref 0)] [] (214, u, m') 213 2186) : mx_G Γ κ M_Lw_law Q 719 [(3, .int (nI i)), (2, .ref 185), (1, .ref 1), (0, .ref 0)] [] (214, u, m) 213 2186 := by
  refine x_aload_n (q := 720) hC d_Lw_law_719 rfl rfl rfl ?_
  refine x_aload_n (q := 721) hC d_Lw_law_720 rfl rfl rfl ?_
  refine x_iload_n (q := 722) hC d_Lw_law_721 rfl rfl rfl ?_
  refine x_iconst (q := 723) (v := nI 1) hC d_Lw_law_722 (by decide) rfl ?_
  refine x_iadd (q := 724) (z := nI (i + 1)) hC d_Lw_law_723 (nI_add _ _) rfl ?_
  refine x_sld (q := 725) (p := 0) hC (i + 1) rfl (Nat.le_of_ble_eq_true rfl) rfl (by omega) (by omega) d_Lw_law_724 rfl ?_
  refine x_aload_n (q := 726) hC d_Lw_law_725 rfl rfl rfl ?_
  refine x_iload_n (q := 727) hC d_Lw_law_726 rfl rfl rfl ?_
  refine x_iconst (q := 728) (v := nI 2) hC d_Lw_law_727 (by decide) rfl ?_
  refine x_iadd (q := 729) (z := nI (i + 2)) hC d_Lw_law_728 (nI_add _ _) rfl ?_
  refine x_sld (q := 730) (p := 0) hC (i + 2) rfl (Nat.le_of_ble_eq_true rfl) rfl (by omega) (by omega) d_Lw_law_729 rfl ?_
  refine x_callV (q := 733) (p := 1) (A := [.int (m 0 (i + 1)), .int (m 0 (i + 2))]) (S := []) (c1 := 213) (s1 := 2186) hC (c_MT_have (Nat.le_of_ble_eq_true rfl) hu hu1 h.fl) s_Lw_law_105 rfl (Nat.le_of_ble_eq_true rfl) rfl rfl rfl (Nat.le_of_ble_eq_true rfl) rfl rfl (by decide) (by decide) d_Lw_law_730 rfl (fun r τ hP => ?_)
  obtain ⟨rfl, rfl⟩ := hP
  show mx_G Γ κ _ _ 733 [(3, .int (nI i)), (2, .ref 185), (1, .ref 1), (0, .ref 0)] [.int (C_have (m 0 (i + 1)) (m 0 (i + 2)) m)] (214, u, m) 213 2186
  refine x_aload_n (q := 734) hC d_Lw_law_733 rfl rfl rfl ?_
  refine x_aload_n (q := 735) hC d_Lw_law_734 rfl rfl rfl ?_
  refine x_iload_n (q := 736) hC d_Lw_law_735 rfl rfl rfl ?_
  refine x_iconst (q := 737) (v := nI 1) hC d_Lw_law_736 (by decide) rfl ?_
  refine x_iadd (q := 738) (z := nI (i + 1)) hC d_Lw_law_737 (nI_add _ _) rfl ?_
  refine x_sld (q := 739) (p := 0) hC (i + 1) rfl (Nat.le_of_ble_eq_true rfl) rfl (by omega) (by omega) d_Lw_law_738 rfl ?_
  refine x_aload_n (q := 740) hC d_Lw_law_739 rfl rfl rfl ?_
  refine x_iload_n (q := 741) hC d_Lw_law_740 rfl rfl rfl ?_
  refine x_iconst (q := 742) (v := nI 2) hC d_Lw_law_741 (by decide) rfl ?_
  refine x_iadd (q := 743) (z := nI (i + 2)) hC d_Lw_law_742 (nI_add _ _) rfl ?_
  refine x_sld (q := 744) (p := 0) hC (i + 2) rfl (Nat.le_of_ble_eq_true rfl) rfl (by omega) (by omega) d_Lw_law_743 rfl ?_
  refine x_callV (q := 747) (p := 185) (A := [.int (m 0 (i + 1)), .int (m 0 (i + 2))]) (S := [.int (C_have (m 0 (i + 1)) (m 0 (i + 2)) m)]) (c1 := 213) (s1 := 2186) hC (c_Mo_have (Nat.le_of_ble_eq_true rfl) hu h.ml) s_Lw_law_108 rfl (Nat.le_of_ble_eq_true rfl) rfl rfl rfl (Nat.le_of_ble_eq_true rfl) rfl rfl (by decide) (by decide) d_Lw_law_744 rfl (fun r τ hP => ?_)
  obtain ⟨rfl, rfl⟩ := hP
  show mx_G Γ κ _ _ 747 [(3, .int (nI i)), (2, .ref 185), (1, .ref 1), (0, .ref 0)] [.int (D_have (m 0 (i + 1)) (m 0 (i + 2)) m), .int (C_have (m 0 (i + 1)) (m 0 (i + 2)) m)] (214, u, m) 213 2186
  have eq : C_have (m 0 (i + 1)) (m 0 (i + 2)) m = D_have (m 0 (i + 1)) (m 0 (i + 2)) m := sim_have h
  refine x_icmp_eq (tgt := 752) (q := 750) hC d_Lw_law_747 (by decide) rfl (fun _ => ?_) (fun hn => absurd eq hn)
  exact K m t (by omega) h
