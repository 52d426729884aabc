/-! the reference's other methods -/
def Mo_report (l : Nat) (x : Int32) (g : Nat) (m : mx_Mm) : mx_Mm := mx_up (mx_up m 190 (3 * l + g) (m 185 1 + nI 12)) 191 (3 * l + g) x
def Mo_lh (l g : Nat) (m : mx_Mm) (h : Nat) : Bool := decide (¬ m 189 (12 * l + 3 * h + g) = 0)
def Mo_low (l g : Nat) (m : mx_Mm) : Int32 := if pm_fd 4 (Mo_lh l g m) < 4 then nI (pm_fd 4 (Mo_lh l g m)) else -1
theorem Mo_report_ok {r l g : Nat} {x : Int32} {m : mx_Mm} (h : Mo_ok r m) : Mo_ok r (Mo_report l x g m) := (h.upP (by omega)).upP (by omega)
abbrev D_lkP (x y c : Int32) (m : mx_Mm) : Prop := rt x ∧ rt y ∧ ¬ x = y ∧ 0 ≤ c ∧ c ≤ nI 9 ∧ ¬ m 186 (6 * tn x + tn y) = c
def D_lk (x y : Nat) (c : Int32) (m : mx_Mm) : mx_Mm := mx_up (mx_up m 186 (6 * x + y) c) 186 (6 * y + x) c
def D_link (r : Nat) (x y c : Int32) (m : mx_Mm) : mx_Mm := if D_lkP x y c m then Mo_settle r (Mo_ways (D_lk (tn x) (tn y) c m)) else m
theorem D_lk_ok {r x y : Nat} {c : Int32} {m : mx_Mm} (h : Mo_ok r m) : Mo_ok r (D_lk x y c m) := (h.upP (by omega)).upP (by omega)
def D_dist (x y : Int32) (m : mx_Mm) : Int32 := if rt x ∧ rt y ∧ m 187 (6 * tn x + tn y) < nI 1000 then m 187 (6 * tn x + tn y) else -1
def D_hop (x y : Int32) (m : mx_Mm) : Int32 := if rt x ∧ rt y then m 188 (6 * tn x + tn y) else -1
abbrev D_jnP (l h g : Int32) (m : mx_Mm) : Prop := (rt l ∧ ht4 h ∧ gp g) ∧ m 189 (12 * tn l + 3 * tn h + tn g) = 0
def D_jn (l h g : Nat) (m : mx_Mm) : mx_Mm := Mo_report l (nI h) g (mx_up m 189 (12 * l + 3 * h + g) (nI 1))
def D_join (r : Nat) (l h g : Int32) (m : mx_Mm) : mx_Mm := if D_jnP l h g m then Mo_settle r (D_jn (tn l) (tn h) (tn g) m) else m
theorem D_jn_ok {r l h g : Nat} {m : mx_Mm} (hk : Mo_ok r m) : Mo_ok r (D_jn l h g m) := Mo_report_ok (hk.upP (by omega))
abbrev D_lvP (l h g : Int32) (m : mx_Mm) : Prop := (rt l ∧ ht4 h ∧ gp g) ∧ ¬ m 189 (12 * tn l + 3 * tn h + tn g) = 0
def D_l3 (k : Nat) (m : mx_Mm) : mx_Mm := mx_up m 190 k (if m 190 k ≤ m 185 1 + nI 2 then m 190 k else m 185 1 + nI 2)
def D_l2 (l g : Nat) (m : mx_Mm) : mx_Mm := D_l3 (3 * l + g) (mx_up m 191 (3 * l + g) (-1))
def D_l1 (l h g : Nat) (x : Int32) (m : mx_Mm) : mx_Mm := if ¬ x = 0 ∧ m 191 (3 * l + g) = nI h then (if Mo_low l g m < 0 then D_l2 l g m else Mo_report l (Mo_low l g m) g m) else m
def D_l0 (l h g : Nat) (m : mx_Mm) : mx_Mm := mx_up m 189 (12 * l + 3 * h + g) (nI 0)
def D_leave (r : Nat) (l h g x : Int32) (m : mx_Mm) : mx_Mm := if D_lvP l h g m then Mo_settle r (D_l1 (tn l) (tn h) (tn g) x (D_l0 (tn l) (tn h) (tn g) m)) else m
theorem D_l1_ok {r l h g : Nat} {x : Int32} {m : mx_Mm} (hk : Mo_ok r m) : Mo_ok r (D_l1 l h g x m) := by
  unfold D_l1
  split
  · split
    · exact Mo_ok.upP (hk.upP (by omega)) (by omega)
    · exact Mo_report_ok hk
  · exact hk
def D_mark (l g : Int32) (m : mx_Mm) : Int32 := if rt l ∧ gp g then (if Mo_on (tn l) (tn g) m then m 190 (3 * tn l + tn g) - m 185 1 else nI 0) else -1
def Mo_p1 (k : Nat) (m : mx_Mm) : mx_Mm := if m 185 1 - m 185 1 / nI 5 * nI 5 = 0 then (if Mo_low (k / 3) (k % 3) m < 0 then m else Mo_report (k / 3) (Mo_low (k / 3) (k % 3) m) (k % 3) m) else m
def Mo_clk (m : mx_Mm) : mx_Mm := mx_up m 185 1 (m 185 1 + nI 1)
def Mo_tick (r : Nat) (m : mx_Mm) : mx_Mm := Mo_settle r (mx_lp 18 Mo_p1 (Mo_clk m))
theorem Mo_p1_ok {r k : Nat} {m : mx_Mm} (h : Mo_ok r m) : Mo_ok r (Mo_p1 k m) := by
  unfold Mo_p1
  split
  · split
    · exact h
    · exact Mo_report_ok h
  · exact h
theorem Mo_tick_ok {r : Nat} {m : mx_Mm} (hr : r < 6) (h : Mo_ok r m) : Mo_ok r (Mo_tick r m) := Mo_settle_ok hr (lp_keep (Mo_ok r) 18 (h.upP (by omega)) (fun _ _ _ h => Mo_p1_ok h))
def D_pass (r : Nat) (n : Int32) (m : mx_Mm) : mx_Mm := if C_psP n then mx_lp (tn n) (fun _ => Mo_tick r) m else m
def D_shar (n g : Int32) (m : mx_Mm) : Int32 := if rt n ∧ gp g then m 192 (3 * tn n + tn g) else -1
def D_e0 (k : Nat) (m : mx_Mm) : Int32 := if m 198 k ≤ m 185 1 then nI 0 else nI 1
def D_e1 (k : Nat) (m : mx_Mm) (a : Int32) : Int32 := if m 199 k = 0 then a else a + nI 2
def D_e2 (k : Nat) (m : mx_Mm) (a : Int32) : Int32 := if m 194 k < 0 then a else a + nI 4
def D_e3 (k : Nat) (m : mx_Mm) (a : Int32) : Int32 := if m 196 k < 0 then a else a + nI 8
def D_e4 (k : Nat) (m : mx_Mm) : Int32 := D_e3 k m (D_e2 k m (D_e1 k m (D_e0 k m)))
def D_ent (n s g : Int32) (m : mx_Mm) : Int32 := if rt n ∧ rt s ∧ gp g then D_e4 (18 * tn n + 3 * tn s + tn g) m + nI (16 * Mo_m1 (tn n) (3 * tn s + tn g) m) else -1
def D_msg (k : Int32) (m : mx_Mm) : Int32 := if 0 ≤ k ∧ k < nI 10 then m 201 (tn k) else -1
def Mo_ru1 (st : Nat) (m : mx_Mm) (k : Nat) (a : Int32) : Int32 := if ¬ a = 0 ∨ m 185 1 < m 198 (18 * k + st) then nI 1 else nI 0
def Mo_ru (st : Nat) (m : mx_Mm) : Int32 := mx_lp 6 (Mo_ru1 st m) (nI 0)
theorem Mo_ru01 {st : Nat} {m : mx_Mm} : Mo_ru st m = nI 0 ∨ Mo_ru st m = nI 1 := lp01 (Or.inl rfl) (fun _ _ => it01)
def Mo_o1 (m : mx_Mm) (i c : Nat) : Nat := if ¬ Mo_ru i m = 0 then c + 1 else c
def Mo_oc (m : mx_Mm) : Nat := mx_lp 18 (Mo_o1 m) 0
abbrev Mo_rf (s g : Int32) (m : mx_Mm) : Prop := ¬ (rt s ∧ gp g) ∨ (Mo_ru (3 * tn s + tn g) m = 0 ∧ ¬ nI (Mo_oc m) < nI 5)
/-! a packet -/
def Mo_k0 (n : Nat) (m : mx_Mm) : mx_Mm := mx_up (mx_up (mx_up m 203 n (nI 0)) 204 n (nI 0)) 205 n (-1)
def Mo_pz (m : mx_Mm) : mx_Mm := mx_up (mx_up (mx_up (mx_up m 185 19 (nI 0)) 185 20 (nI 0)) 185 21 (nI 0)) 185 22 (nI 0)
def Mo_keep (n st : Nat) (m : mx_Mm) : mx_Mm := mx_up m 198 (18 * n + st) (m 185 1 + nI 8)
def Mo_f1 (n st : Nat) (m : mx_Mm) : mx_Mm := Mo_keep n st (mx_up m 199 (18 * n + st) (nI 1))
def Mo_k1 (s st w n : Nat) (m : mx_Mm) : mx_Mm := if ¬ m 196 (18 * n + st) < 0 ∨ (nI n = nI s ∧ ¬ nI w ≤ 0) then Mo_f1 n st m else m
abbrev Mo_rc (r s st : Nat) (m : mx_Mm) : Prop := ¬ nI s = nI r ∧ ¬ nI 1000 ≤ m 187 (6 * s + r) ∧ m 200 st ≤ m 185 1
def Mo_qu (st : Nat) (m : mx_Mm) : mx_Mm := mx_up m 200 st (m 185 1 + nI 6)
def Mo_rg2 (r st : Nat) (m : mx_Mm) : mx_Mm := if ¬ m 199 (18 * r + st) = 0 ∨ nI (Mo_m1 r st m) = 0 then Mo_qu st (Mo_cnt 7 m) else m
def Mo_reg (r s st : Nat) (m : mx_Mm) : mx_Mm := if Mo_rc r s st m then Mo_rg2 r st (Mo_keep r st (Mo_cnt 6 m)) else m
def Mo_y1 (s w : Nat) (m : mx_Mm) : mx_Mm := mx_up m 203 s (if nI w ≤ 0 then nI 0 else nI 1)
def Mo_y2 (r st : Nat) (b : Prop) [Decidable b] (m : mx_Mm) : mx_Mm := mx_up m 203 r (if ¬ m 203 r = 0 ∨ (b ∧ m 199 (18 * r + st) = 0) then nI 1 else nI 0)
def Mo_x1 (m : mx_Mm) : mx_Mm := mx_up m 185 19 (m 185 19 + nI 1)
def Mo_x2 (m : mx_Mm) : mx_Mm := mx_up m 185 20 (m 185 20 + nI 1)
def Mo_side (r s st n : Nat) (m : mx_Mm) : Int32 := if m 199 (18 * n + st) = 0 then m 188 (6 * n + r) else m 188 (6 * n + s)
def Mo_xs (r q s st n : Nat) (m : mx_Mm) : mx_Mm := if ¬ nI n = nI s ∧ Mo_side r s st n m = nI q then mx_up (mx_up m 203 n (nI 1)) 205 n (nI q) else Mo_x2 m
abbrev Mo_pin (q n st : Nat) (m : mx_Mm) : Prop := (m 199 (18 * q + st) = 0 ∧ Mo_in q n st m) ∨ (¬ m 199 (18 * q + st) = 0 ∧ Mo_out q n st m)
def Mo_po2 (r q s st n : Nat) (m : mx_Mm) : mx_Mm := if Mo_pin q n st m ∧ ¬ nI n = m 205 q then Mo_xs r q s st n (Mo_x1 m) else m
def Mo_po0 (q : Nat) (m : mx_Mm) : mx_Mm := mx_up m 204 q (nI 1)
def Mo_rb (q : Nat) (m : mx_Mm) : mx_Mm := mx_up m 185 21 (m 185 21 ||| bit q)
def Mo_po1 (q s st : Nat) (m : mx_Mm) : mx_Mm := if Mo_on q (st % 3) m ∧ ¬ nI q = nI s then Mo_rb q m else m
def Mo_put (r q s st : Nat) (m : mx_Mm) : mx_Mm := mx_lp 6 (Mo_po2 r q s st) (Mo_po1 q s st (Mo_po0 q m))
def Mo_q1 (r s st q : Nat) (m : mx_Mm) : mx_Mm := if ¬ m 203 q = 0 ∧ m 204 q = 0 then Mo_put r q s st m else m
abbrev bt1 (x : Int32) (l : Nat) : Prop := (x >>> (nI l &&& 31)) &&& nI 1 = nI 1
def Mo_a1 (st l : Nat) (m : mx_Mm) : mx_Mm := if ¬ m 203 l = 0 ∧ m 199 (18 * l + st) = 0 ∧ Mo_on l (st % 3) m then Mo_keep l st m else m
def Mo_hb (l : Nat) (m : mx_Mm) : mx_Mm := mx_up m 185 22 (m 185 22 ||| bit l)
def Mo_lo (l : Nat) (m : mx_Mm) : mx_Mm := mx_up m 202 l (m 202 l - nI 1)
def Mo_a3 (l c : Nat) (m : mx_Mm) : Nat × mx_Mm := if bt1 (m 185 21) l then (if m 202 l ≤ 0 then (c + 1, Mo_hb l m) else (c, Mo_lo l m)) else (c, m)
def Mo_a2 (st l : Nat) (a : Nat × mx_Mm) : Nat × mx_Mm := Mo_a3 l a.1 (Mo_a1 st l a.2)
def Mo_a0 (s st : Nat) (m : mx_Mm) : mx_Mm := if Mo_on s (st % 3) m then Mo_rb s m else m
def Mo_arr (s st : Nat) (m : mx_Mm) : Nat × mx_Mm := mx_lp 6 (Mo_a2 st) (0, Mo_a0 s st m)
def Mo_pA (s st : Nat) (m : mx_Mm) : mx_Mm := Mo_keep s st (mx_lp 6 Mo_k0 (Mo_pz m))
def Mo_pB (s st : Nat) (m : mx_Mm) : mx_Mm := mx_lp 6 (Mo_k1 s st (Mo_m1 s st m)) m
def Mo_pC (r s st w : Nat) (m : mx_Mm) : mx_Mm := Mo_y2 r st (Mo_rc r s st m) (Mo_y1 s w (Mo_reg r s st m))
def Mo_pD (r s st : Nat) (m : mx_Mm) : mx_Mm := mx_lp 6 (fun _ => mx_lp 6 (Mo_q1 r s st)) m
def Mo_pk (r s st : Nat) (m : mx_Mm) : Nat × mx_Mm := Mo_arr s st (Mo_pD r s st (Mo_pC r s st (Mo_m1 s st (Mo_pA s st m)) (Mo_pB s st (Mo_pA s st m))))
theorem Mo_keep_ok {r n st : Nat} {m : mx_Mm} (h : Mo_ok r m) : Mo_ok r (Mo_keep n st m) := h.upP (by omega)
theorem Mo_k1_ok {r s st w n : Nat} {m : mx_Mm} (h : Mo_ok r m) : Mo_ok r (Mo_k1 s st w n m) := by
  unfold Mo_k1
  split
  · exact Mo_keep_ok (h.upP (by omega))
  · exact h
theorem Mo_pz_ok {r : Nat} {m : mx_Mm} (h : Mo_ok r m) : Mo_ok r (Mo_pz m) := Mo_ok.upP (Mo_ok.upP (Mo_ok.upP (h.upP (by omega)) (by omega)) (by omega)) (by omega)
theorem Mo_k0_ok {r n : Nat} {m : mx_Mm} (h : Mo_ok r m) : Mo_ok r (Mo_k0 n m) := Mo_ok.upP (Mo_ok.upP (h.upP (by omega)) (by omega)) (by omega)
theorem Mo_pA_ok {r s st : Nat} {m : mx_Mm} (h : Mo_ok r m) : Mo_ok r (Mo_pA s st m) := Mo_keep_ok (lp_keep (Mo_ok r) 6 (Mo_pz_ok h) (fun _ _ _ h => Mo_k0_ok h))
theorem Mo_reg_ok {r r' s st : Nat} {m : mx_Mm} (h : Mo_ok r m) : Mo_ok r (Mo_reg r' s st m) := by
  have h1 : Mo_ok r (Mo_keep r' st (Mo_cnt 6 m)) := Mo_keep_ok (Mo_cnt_ok h)
  unfold Mo_reg Mo_rg2
  split
  · split
    · exact Mo_ok.upP (Mo_cnt_ok h1) (by omega)
    · exact h1
  · exact h
theorem Mo_po2_ok {r r' q s st n : Nat} {m : mx_Mm} (h : Mo_ok r m) : Mo_ok r (Mo_po2 r' q s st n m) := by
  have h1 : Mo_ok r (Mo_x1 m) := h.upP (by omega)
  unfold Mo_po2 Mo_xs
  split
  · split
    · exact Mo_ok.upP (h1.upP (by omega)) (by omega)
    · exact h1.upP (by omega)
  · exact h
theorem Mo_rb_ok {r q : Nat} {m : mx_Mm} (h : Mo_ok r m) : Mo_ok r (Mo_rb q m) := h.upP (by omega)
theorem Mo_po1_ok {r q s st : Nat} {m : mx_Mm} (h : Mo_ok r m) : Mo_ok r (Mo_po1 q s st m) := by
  unfold Mo_po1
  split
  · exact Mo_rb_ok h
  · exact h
theorem Mo_put_ok {r r' q s st : Nat} {m : mx_Mm} (h : Mo_ok r m) : Mo_ok r (Mo_put r' q s st m) := lp_keep (Mo_ok r) 6 (Mo_po1_ok (h.upP (by omega))) (fun _ _ _ h => Mo_po2_ok h)
theorem Mo_q1_ok {r r' q s st : Nat} {m : mx_Mm} (h : Mo_ok r m) : Mo_ok r (Mo_q1 r' s st q m) := by
  unfold Mo_q1
  split
  · exact Mo_put_ok h
  · exact h
theorem Mo_pC_ok {r s st w : Nat} {m : mx_Mm} (h : Mo_ok r m) : Mo_ok r (Mo_pC r s st w m) := Mo_ok.upP (Mo_ok.upP (Mo_reg_ok h) (by omega)) (by omega)
theorem Mo_pD_ok {r s st : Nat} {m : mx_Mm} (h : Mo_ok r m) : Mo_ok r (Mo_pD r s st m) := lp_keep (Mo_ok r) 6 h (fun _ _ _ h => lp_keep (Mo_ok r) 6 h (fun _ _ _ h => Mo_q1_ok h))
theorem Mo_a2_ok {r st l : Nat} {a : Nat × mx_Mm} (h : Mo_ok r a.2) : Mo_ok r (Mo_a2 st l a).2 := by
  have h1 : Mo_ok r (Mo_a1 st l a.2) := by
    unfold Mo_a1
    split
    · exact Mo_keep_ok h
    · exact h
  unfold Mo_a2 Mo_a3
  split
  · split
    · exact h1.upP (by omega)
    · exact h1.upP (by omega)
  · exact h1
theorem Mo_a0_ok {r s st : Nat} {m : mx_Mm} (h : Mo_ok r m) : Mo_ok r (Mo_a0 s st m) := by
  unfold Mo_a0
  split
  · exact Mo_rb_ok h
  · exact h
theorem Mo_arr_ok {r s st : Nat} {m : mx_Mm} (h : Mo_ok r m) : Mo_ok r (Mo_arr s st m).2 := lp_keep (fun a : Nat × mx_Mm => Mo_ok r a.2) 6 (m := (0, Mo_a0 s st m)) (Mo_a0_ok h) (fun _ _ _ h => Mo_a2_ok h)
theorem Mo_pk_ok {r s st : Nat} {m : mx_Mm} (h : Mo_ok r m) : Mo_ok r (Mo_pk r s st m).2 := Mo_arr_ok (Mo_pD_ok (Mo_pC_ok (lp_keep (Mo_ok r) 6 (Mo_pA_ok h) (fun _ _ _ h => Mo_k1_ok h))))
def D_sd (r : Nat) (s g : Int32) (m : mx_Mm) : Nat × mx_Mm := Mo_pk r (tn s) (3 * tn s + tn g) m
def D_send (r : Nat) (s g : Int32) (m : mx_Mm) : mx_Mm := if Mo_rf s g m then m else Mo_settle r (D_sd r s g m).2
def D_sendv (r : Nat) (s g : Int32) (m : mx_Mm) : Int32 := if Mo_rf s g m then -1 else nI (D_sd r s g m).1
def D_lose (l c : Int32) (m : mx_Mm) : mx_Mm := if C_lsP l c then mx_up m 202 (tn l) c else m
/-! files -/
abbrev D_ex (x : Int32) (m : mx_Mm) : Prop := 0 ≤ x ∧ x < m 185 26
abbrev D_pbP (s g b : Int32) (m : mx_Mm) : Prop := rt s ∧ gp g ∧ nI 1 ≤ b ∧ b ≤ nI 16 ∧ m 185 26 < nI 4
def D_p3 (c s g : Nat) (b : Int32) (m : mx_Mm) : mx_Mm := mx_up (mx_up (mx_up m 206 c (nI s)) 207 c (nI g)) 208 c b
def D_p4 (c s g : Nat) (b : Int32) (m : mx_Mm) : mx_Mm := mx_up (D_p3 c s g b m) 185 26 ((D_p3 c s g b m) 185 26 + nI 1)
def D_pub (s g b : Int32) (m : mx_Mm) : mx_Mm := if D_pbP s g b m then D_p4 (tn (m 185 26)) (tn s) (tn g) b m else m
def D_pubv (s g b : Int32) (m : mx_Mm) : Int32 := if D_pbP s g b m then (D_p4 (tn (m 185 26)) (tn s) (tn g) b m) 185 26 - nI 1 else -1
def Mo_tb (f : Nat) (m : mx_Mm) (b : Nat) : Bool := decide (bt1 (m 210 f) b)
def Mo_tn (f : Nat) (m : mx_Mm) : mx_Mm := mx_up m 209 f (m 209 f + nI 1)
def Mo_tm (f : Nat) (m : mx_Mm) : mx_Mm := if pm_fd 16 (Mo_tb f m) < 16 then mx_up m 210 f (m 210 f &&& (bit (pm_fd 16 (Mo_tb f m)) ^^^ (-1))) else if m 209 f < m 208 f then Mo_tn f m else m
def Mo_tv (f : Nat) (m : mx_Mm) : Int32 := if pm_fd 16 (Mo_tb f m) < 16 then nI (pm_fd 16 (Mo_tb f m)) else if m 209 f < m 208 f then (Mo_tn f m) 209 f - nI 1 else m 208 f
def Mo_to (f : Nat) (b : Int32) (m : mx_Mm) : Int32 := if b < m 208 f then b + nI 1 else b
def Mo_d2 (f l : Nat) (b : Int32) (m : mx_Mm) : mx_Mm := mx_up m 211 (6 * f + l) (if b < m 208 f then m 211 (6 * f + l) ||| (nI 1 <<< (b &&& 31)) else m 211 (6 * f + l))
def Mo_d3 (f l : Nat) (y : Int32) (m : mx_Mm) : mx_Mm := mx_up m 212 (6 * f + l) (if y ≤ m 212 (6 * f + l) then m 212 (6 * f + l) else y)
def Mo_d1 (f g : Nat) (b y : Int32) (l : Nat) (m : mx_Mm) : mx_Mm := if bt1 (m 185 22) l ∧ ¬ Mo_low l g m < 0 then Mo_d3 f l y (Mo_d2 f l b m) else m
def Mo_mis (f l : Nat) (m : mx_Mm) : Int32 := (nI 1 <<< (m 212 (6 * f + l) &&& 31) - nI 1) &&& (m 211 (6 * f + l) ^^^ (-1))
def D_have (x l : Int32) (m : mx_Mm) : Int32 := if D_ex x m ∧ rt l then m 211 (6 * tn x + tn l) else -1
abbrev Mo_part (f s g l : Nat) (m : mx_Mm) : Prop := ¬ nI 1000 ≤ m 187 (6 * s + l) ∧ ¬ Mo_low l g m < 0 ∧ ¬ Mo_mis f l m = 0
def Mo_draw (m : mx_Mm) : mx_Mm := mx_up m 185 34 (m 185 34 * 1103515245 + nI 12345)
def Mo_dv (m : mx_Mm) : Int32 := (m 185 34).toUInt32 >>> ((nI 16).toUInt32 &&& Int32.toUInt32 31) |>.toInt32 |> (· &&& nI 7)
def Mo_dr (l : Nat) (m : mx_Mm) : mx_Mm := mx_up (Mo_draw m) 213 l (Mo_dv (Mo_draw m))
def Mo_q0 (l : Nat) (m : mx_Mm) : mx_Mm := mx_up m 213 l (-1)
def Mo_w5 (f s g l : Nat) (m : mx_Mm) : mx_Mm := if Mo_part f s g l m then Mo_dr l (Mo_q0 l m) else Mo_q0 l m
def Mo_ask (f w l : Nat) (a : Int32 × Int32 × mx_Mm) : Int32 × Int32 × mx_Mm := if a.2.2 213 l = nI w then (if Mo_mis f l a.2.2 &&& (a.1 ^^^ (-1)) = 0 then (a.1, a.2.1, Mo_cnt 9 a.2.2) else (a.1 ||| Mo_mis f l a.2.2, a.2.1 + nI 1, Mo_cnt 8 a.2.2)) else a
def Mo_asks (f s g : Nat) (m : mx_Mm) : Int32 × Int32 × mx_Mm := mx_lp 8 (fun w => mx_lp 6 (Mo_ask f w)) (nI 0, nI 0, mx_lp 6 (Mo_w5 f s g) m)
def Mo_end (f : Nat) (a : Int32 × Int32 × mx_Mm) : mx_Mm := mx_up a.2.2 210 f (a.2.2 210 f ||| a.1)
def D_req (x : Int32) (m : mx_Mm) : mx_Mm := if D_ex x m then Mo_end (tn x) (Mo_asks (tn x) (tn (m 206 (tn x))) (tn (m 207 (tn x))) m) else m
def D_reqv (x : Int32) (m : mx_Mm) : Int32 := if D_ex x m then (Mo_asks (tn x) (tn (m 206 (tn x))) (tn (m 207 (tn x))) m).2.1 else -1
abbrev D_emP (x : Int32) (m : mx_Mm) : Prop := D_ex x m ∧ ¬ Mo_rf (m 206 (tn x)) (m 207 (tn x)) m
def D_em (r f s g : Nat) (m : mx_Mm) : mx_Mm := Mo_settle r (Mo_pk r s (3 * s + g) m).2
def D_e5 (f g : Nat) (b : Int32) (m : mx_Mm) : mx_Mm := mx_lp 6 (Mo_d1 f g b (Mo_to f b m)) m
def D_emit (r : Nat) (x : Int32) (m : mx_Mm) : mx_Mm := if D_emP x m then D_e5 (tn x) (tn (m 207 (tn x))) (Mo_tv (tn x) m) (D_em r (tn x) (tn (m 206 (tn x))) (tn (m 207 (tn x))) (Mo_tm (tn x) m)) else m
def D_emitv (x : Int32) (m : mx_Mm) : Int32 := if D_emP x m then Mo_tv (tn x) m else -1
def Ml_ok (m : mx_Mm) : Prop := (∃ c, c ≤ 4 ∧ m 185 26 = nI c) ∧ ∀ f, f < 4 → (∃ s, s < 6 ∧ m 206 f = nI s) ∧ (∃ g, g < 3 ∧ m 207 f = nI g)
theorem Ml_ok.f {m : mx_Mm} (h : Ml_ok m) {x : Int32} (hx : D_ex x m) : x = nI (tn x) ∧ tn x < 4 := by
  obtain ⟨⟨c, hc, e⟩, -⟩ := h
  have hx2 : 0 ≤ x ∧ x < nI c := by rw [← e]; exact hx
  obtain ⟨h1, h2⟩ := in_tn hx2 (by omega)
  exact ⟨h1, by omega⟩
theorem Ml_ok.s {m : mx_Mm} (h : Ml_ok m) {f : Nat} (hf : f < 4) : m 206 f = nI (tn (m 206 f)) ∧ tn (m 206 f) < 6 := by
  obtain ⟨j, hj, e⟩ := (h.2 f hf).1
  rw [e, tn_nI (by omega)]
  exact ⟨rfl, hj⟩
theorem Ml_ok.g {m : mx_Mm} (h : Ml_ok m) {f : Nat} (hf : f < 4) : m 207 f = nI (tn (m 207 f)) ∧ tn (m 207 f) < 3 := by
  obtain ⟨j, hj, e⟩ := (h.2 f hf).2
  rw [e, tn_nI (by omega)]
  exact ⟨rfl, hj⟩
