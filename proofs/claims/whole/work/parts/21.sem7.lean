theorem ps_tn {n : Int32} (h : C_psP n) : n = nI (tn n) ∧ tn n ≤ 10 := by
  have h0 : ¬ n < 0 := fun q => by
    have h1 := Int32.lt_of_lt_of_le q (show (0 : Int32) ≤ nI 1 by decide)
    exact Int32.not_le.mpr h1 h.1
  obtain ⟨j, hj, e⟩ := nI_of h0
  subst e
  rw [tn_nI hj]
  exact ⟨rfl, (nI_leI hj (by decide)).mp h.2⟩
/-- what a map of the memory may write -/
def foot (S : Nat → Prop) (F : mx_Mm → mx_Mm) : Prop := ∀ m p k, ¬ S p → F m p k = m p k
theorem foot_id {S : Nat → Prop} : foot S (fun m => m) := fun _ _ _ _ => rfl
theorem foot_up {S : Nat → Prop} {p : Nat} {k : mx_Mm → Nat} {x : mx_Mm → Int32} (hp : S p) : foot S (fun m => mx_up m p (k m) (x m)) := fun m q j hq => up_neP (fun e => hq (e ▸ hp))
theorem foot_co {S : Nat → Prop} {F G : mx_Mm → mx_Mm} (hF : foot S F) (hG : foot S G) : foot S (fun m => F (G m)) := fun m q j hq => (hF _ q j hq).trans (hG m q j hq)
theorem foot_it {S : Nat → Prop} {c : mx_Mm → Prop} [DecidablePred c] {F G : mx_Mm → mx_Mm} (hF : foot S F) (hG : foot S G) : foot S (fun m => if c m then F m else G m) := fun m q j hq => by
  show (if c m then F m else G m) q j = _
  split
  · exact hF m q j hq
  · exact hG m q j hq
theorem foot_lp {S : Nat → Prop} {n : Nat} {f : Nat → mx_Mm → mx_Mm} (hf : ∀ i, i < n → foot S (f i)) : foot S (mx_lp n f) := fun m q j hq => lp_keep (fun m' => m' q j = m q j) n rfl (fun i m' hi h => (hf i hi m' q j hq).trans h)
theorem foot_mono {S T : Nat → Prop} {F : mx_Mm → mx_Mm} (h : foot S F) (hS : ∀ p, S p → T p) : foot T F := fun m q j hq => h m q j (fun z => hq (hS q z))
/-- by cases over an argument that the memory gives -/
theorem foot_arg {α : Type} {S : Nat → Prop} {F : α → mx_Mm → mx_Mm} {a : mx_Mm → α} (h : ∀ b, foot S (F b)) : foot S (fun m => F (a m) m) := fun m q j hq => h (a m) m q j hq
abbrev C_s168 : Nat → Prop := fun p => p < 168
theorem ft_cnt (k : Nat) : foot C_s168 (Tr_cnt k) := foot_up (k := fun _ => k) (by decide)
theorem ft_ann (k n : Nat) (x y : Int32) : foot C_s168 (Tr_ann k n x y) := by
  intro m p j hp
  unfold Tr_ann
  split
  · rfl
  · have h1 : (Tr_a1 k n x m) p j = m p j := by
      unfold Tr_a1
      split
      · rfl
      · split
        · exact ft_cnt _ m p j hp
        · rfl
    unfold Tr_a2
    split
    · exact h1
    · exact (ft_cnt _ _ p j hp).trans h1
theorem ft_sh (g r : Nat) (hg : g < 3) : foot C_s168 (Tr_shared g r) := by
  intro m p j hp
  refine (foot_lp (S := C_s168) (fun k _ => ?_) _ p j hp).trans (foot_lp (S := C_s168) (fun i _ => foot_up (p := 85 + g) (by show 85 + g < 168; omega)) m p j hp)
  intro m p j hp
  show (mx_up (Tr_ann 0 _ _ _ _) (81 + g) _ _) p j = _
  rw [up_neP (fun e => hp (by show p < 168; omega)), ft_ann _ _ _ _ _ p j hp]
  unfold Tr_s2
  split
  · rfl
  · exact up_neP (fun e => hp (by show p < 168; omega))
theorem ft_cuts (s g r : Nat) (hs : s < 6) (hg : g < 3) : foot C_s168 (Tr_cuts s g r) := by
  intro m p j hp
  have hp' : 168 ≤ p := by
    have : ¬ p < 168 := hp
    omega
  refine lp_keep (fun a : Int32 × mx_Mm => a.2 p j = m p j) 6 (m := (nI 0, m)) rfl (fun k a hk h => ?_)
  show (mx_up (Tr_ann 4 _ _ _ _) (89 + (s * 3 + g)) _ _) p j = _
  rw [up_neP (by omega), ft_ann _ _ _ _ _ p j hp]
  unfold Tr_c12 Tr_c2 Tr_c1
  split
  · rw [up_neP (by omega), up_neP (by omega)]; exact h
  · rw [up_neP (by omega)]; exact h
theorem ft_srcs (s g : Nat) (hs : s < 6) (hg : g < 3) : foot C_s168 (Tr_sources s g) := by
  intro m p j hp
  have hp' : 168 ≤ p := by
    have : ¬ p < 168 := hp
    omega
  refine lp_keep (fun a : mx_Mm => a p j = m p j) 6 (foot_lp (S := C_s168) (fun i _ => foot_up (p := 164) (by decide)) m p j hp) (fun k a hk h => ?_)
  show (mx_up (Tr_ann 2 _ _ _ _) (108 + (s * 3 + g)) _ _) p j = _
  rw [up_neP (by omega), ft_ann _ _ _ _ _ p j hp]
  unfold Tr_o2 Tr_o1
  split
  · rw [up_neP (by omega)]; exact h
  · rw [up_neP (by omega), up_neP (by omega)]; exact h
theorem ft_st1 (r s g : Nat) (hs : s < 6) (hg : g < 3) : foot C_s168 (Tr_st1 r s g) := by
  intro m p j hp
  unfold Tr_st1
  exact (ft_srcs s g hs hg _ p j hp).trans (ft_cuts s g r hs hg m p j hp)
theorem ft_settle (r : Nat) : foot C_s168 (Tr_settle r) := by
  intro m p j hp
  unfold Tr_settle
  exact (foot_lp (S := C_s168) (f := fun s => mx_lp 3 (Tr_st1 r s)) (fun s hs => foot_lp (f := Tr_st1 r s) (fun g hg => ft_st1 r s g hs hg)) _ p j hp).trans (foot_lp (S := C_s168) (f := fun g => Tr_shared g r) (fun g hg => ft_sh g r hg) m p j hp)
theorem ft_carry (n : Nat) (x : Int32) : foot C_s168 (Pa_carry n x) := by
  intro m p j hp
  have hp' : 168 ≤ p := by
    have : ¬ p < 168 := hp
    omega
  unfold Pa_carry Pa_c1
  split
  · rw [up_neP (by omega), up_neP (by omega), up_neP (by omega)]
  · rfl
theorem ft_renew (st n : Nat) (h : st < 18) : foot C_s168 (Sm_renew st n) := foot_up (k := fun _ => n) (by show 59 + st < 168; omega)
theorem ft_over (st n : Nat) (h : st < 18) : foot C_s168 (Sm_over st n) := fun m p j hp => by
  show (mx_up (Sm_renew st n m) 77 st _) p j = _
  rw [up_neP (fun e => hp (by show p < 168; omega))]
  exact ft_renew st n h m p j hp
theorem ft_hear (l : Nat) : foot C_s168 (La_hear l) := fun m p j hp => by
  unfold La_hear
  split
  · rfl
  · exact up_neP (fun e => hp (by show p < 168; omega))
theorem ft_disp (s g r : Nat) (hs : s < 6) (hg : g < 3) : foot C_s168 (Pa_disp s g r) := by
  have hst : s * 3 + g < 18 := by omega
  intro m p j hp
  have hp' : 168 ≤ p := by
    have : ¬ p < 168 := hp
    omega
  unfold Pa_disp Pa_dB Pa_listen
  refine lp_keep (fun a : mx_Mm => a p j = m p j) 6 ?_ (fun l a _ h => ?_)
  · rw [up_neP (by omega)]
    refine lp_keep (fun a : mx_Mm => a p j = m p j) 6 (lp_keep (fun a : mx_Mm => a p j = m p j) 6 ?_ (fun k a _ h => ?_)) (fun k a _ h => ?_)
    · unfold Pa_dA
      have e0 : (Pa_sj (s * 3 + g) s (Pa_d0 s g (Pa_z m))) p j = m p j := by
        unfold Pa_sj
        refine lp_keep (fun a : mx_Mm => a p j = m p j) 6 ?_ (fun n a _ h => ?_)
        · have e1 : (Sm_renew (s * 3 + g) s (Pa_d0 s g (Pa_z m))) p j = m p j := by
            rw [ft_renew _ _ hst _ p j hp]
            unfold Pa_d0 Pa_z
            rw [up_neP (by omega), up_neP (by omega), up_neP (by omega), up_neP (by omega)]
          unfold Pa_j1
          split
          · rw [ft_over _ _ hst _ p j hp]; exact e1
          · exact e1
        · unfold Pa_j2
          split
          · exact h
          · rw [ft_over _ _ hst _ p j hp]; exact h
      have e2 : (Pa_reg (s * 3 + g) s r (Pa_sj (s * 3 + g) s (Pa_d0 s g (Pa_z m)))) p j = m p j := by
        unfold Pa_reg Pa_r2 Pa_r3
        split
        · split
          · rw [up_neP (by omega), ft_cnt _ _ p j hp, ft_renew _ _ hst _ p j hp, ft_cnt _ _ p j hp]; exact e0
          · rw [ft_renew _ _ hst _ p j hp, ft_cnt _ _ p j hp]; exact e0
        · exact e0
      have e3 : (Pa_d3 (s * 3 + g) s (Pa_reg (s * 3 + g) s r (Pa_sj (s * 3 + g) s (Pa_d0 s g (Pa_z m))))) p j = m p j := by
        unfold Pa_d3
        split
        · rw [ft_carry _ _ _ p j hp]; exact e2
        · exact e2
      unfold Pa_d4
      split
      · rw [ft_carry _ _ _ p j hp]; exact e3
      · exact e3
    · unfold Pa_puts Pa_put Pa_putq
      split
      · refine lp_keep (fun a : mx_Mm => a p j = m p j) 6 ?_ (fun n a _ h => ?_)
        · unfold Pa_po1
          split
          · rw [up_neP (by omega)]; exact h
          · exact h
        · unfold Pa_po2 Pa_cross Pa_xs Pa_x2
          have hx : (Pa_x1 a) p j = m p j := by
            unfold Pa_x1
            rw [up_neP (by omega)]; exact h
          split
          · split
            · rw [ft_carry _ _ _ p j hp]; exact hx
            · rw [up_neP (by omega)]; exact hx
          · exact h
      · exact h
    · unfold Pa_rn Pa_rnq
      split
      · split
        · rw [ft_renew _ _ hst _ p j hp]; exact h
        · exact h
      · exact h
  · unfold Pa_l1 Pa_l2
    split
    · split
      · rw [up_neP (by omega), ft_hear _ _ p j hp]; exact h
      · rw [ft_hear _ _ p j hp]; exact h
    · exact h
theorem ft_sd (r : Nat) (s g : Int32) (hs : tn s < 6) (hg : tn g < 3) : foot C_s168 (C_sd r s g) := by
  intro m p j hp
  unfold C_sd
  exact (ft_settle r _ p j hp).trans (ft_disp (tn s) (tn g) r hs hg m p j hp)
theorem bc_ne (x : Int32) : ¬ bc x = -1 := by
  intro e
  obtain ⟨j, hj, e2⟩ := pk_andE (bc5 (bc4 (bc3 (bc2 (bc1 x))))) (m := nI 63) 6 (by decide)
  have e3 : bc x = nI j := e2
  rw [e3] at e
  exact pm_nI_m1 (by omega) e
abbrev C_ex (x : Int32) (m : mx_Mm) : Prop := 0 ≤ x ∧ x < m 168 11
def C_have (x l : Int32) (m : mx_Mm) : Int32 := if C_ex x m ∧ rt l then m (175 + tn x) (tn l) else -1
def C_req (x : Int32) (m : mx_Mm) : mx_Mm := if C_ex x m then Fi_end (tn x) (Fi_asks (tn x) (tn (m 169 (tn x))) (tn (m 170 (tn x))) m) else m
def C_reqv (x : Int32) (m : mx_Mm) : Int32 := if C_ex x m then (Fi_asks (tn x) (tn (m 169 (tn x))) (tn (m 170 (tn x))) m).2.1 else -1
abbrev C_pbP (s g b : Int32) (m : mx_Mm) : Prop := rt s ∧ gp g ∧ nI 1 ≤ b ∧ b ≤ nI 16 ∧ m 168 11 < nI 4
def C_pub (s g b : Int32) (m : mx_Mm) : mx_Mm := if C_pbP s g b m then Fi_c4 (tn (m 168 11)) (tn s) (tn g) b m else m
def C_pubv (s g b : Int32) (m : mx_Mm) : Int32 := if C_pbP s g b m then (Fi_c4 (tn (m 168 11)) (tn s) (tn g) b m) 168 11 - nI 1 else -1
def C_e0 (st n : Nat) (m : mx_Mm) : Int32 := nI 16 * bc (m (146 + st) n)
def C_e1 (st n : Nat) (m : mx_Mm) (a : Int32) : Int32 := if m 2 0 < m (59 + st) n then a + 1 else a
def C_e2 (st n : Nat) (m : mx_Mm) (a : Int32) : Int32 := if hold (m 77 st) n then a + 2 else a
def C_e3 (st n : Nat) (m : mx_Mm) (a : Int32) : Int32 := if m (89 + st) n = -1 then a else a + 4
def C_e4 (st n : Nat) (m : mx_Mm) (a : Int32) : Int32 := if m (108 + st) n = -1 then a else a + 8
def C_ent (n s g : Int32) (m : mx_Mm) : Int32 := if rt n ∧ rt s ∧ gp g then C_e4 (tn s * 3 + tn g) (tn n) m (C_e3 (tn s * 3 + tn g) (tn n) m (C_e2 (tn s * 3 + tn g) (tn n) m (C_e1 (tn s * 3 + tn g) (tn n) m (C_e0 (tn s * 3 + tn g) (tn n) m)))) else -1
/-- emit: the file's source, group, length as the memory has them -/
def C_e5 (f n g : Nat) (m : mx_Mm) : mx_Mm := mx_lp 6 (Fi_d1 f g (Fi_tv f n m) ((Fi_tm f n m) 165 11)) (Fi_tm f n m)
abbrev C_emP (x : Int32) (m : mx_Mm) : Prop := C_ex x m ∧ C_sdP (m 169 (tn x)) (m 170 (tn x)) m
def C_em (r : Nat) (x : Int32) (m : mx_Mm) : mx_Mm := C_sd r (m 169 (tn x)) (m 170 (tn x)) m
def C_emit (r : Nat) (x : Int32) (m : mx_Mm) : mx_Mm := if C_emP x m then C_e5 (tn x) (tn (m 171 (tn x))) (tn (m 170 (tn x))) (C_em r x m) else m
def C_emitv (r : Nat) (x : Int32) (m : mx_Mm) : Int32 := if C_emP x m then Fi_tv (tn x) (tn (m 171 (tn x))) (C_em r x m) else -1
/-- the files -/
def Fl_ok (m : mx_Mm) : Prop := (∃ c, c ≤ 4 ∧ m 168 11 = nI c) ∧ ∀ f, f < 4 → (∃ s, s < 6 ∧ m 169 f = nI s) ∧ (∃ g, g < 3 ∧ m 170 f = nI g) ∧ ∃ n, n ≤ 16 ∧ m 171 f = nI n
theorem Fl_ok.f {m : mx_Mm} (h : Fl_ok m) {x : Int32} (hx : C_ex x m) : x = nI (tn x) ∧ tn x < 4 := by
  obtain ⟨⟨c, hc, e⟩, -⟩ := h
  have hx2 : 0 ≤ x ∧ x < nI c := by rw [← e]; exact hx
  obtain ⟨h1, h2⟩ := in_tn hx2 (by omega)
  exact ⟨h1, by omega⟩
theorem Fl_ok.s {m : mx_Mm} (h : Fl_ok m) {f : Nat} (hf : f < 4) : m 169 f = nI (tn (m 169 f)) ∧ tn (m 169 f) < 6 := by
  obtain ⟨j, hj, e⟩ := (h.2 f hf).1
  rw [e, tn_nI (by omega)]
  exact ⟨rfl, hj⟩
theorem Fl_ok.g {m : mx_Mm} (h : Fl_ok m) {f : Nat} (hf : f < 4) : m 170 f = nI (tn (m 170 f)) ∧ tn (m 170 f) < 3 := by
  obtain ⟨j, hj, e⟩ := (h.2 f hf).2.1
  rw [e, tn_nI (by omega)]
  exact ⟨rfl, hj⟩
theorem Fl_ok.n {m : mx_Mm} (h : Fl_ok m) {f : Nat} (hf : f < 4) : m 171 f = nI (tn (m 171 f)) ∧ tn (m 171 f) ≤ 16 := by
  obtain ⟨j, hj, e⟩ := (h.2 f hf).2.2
  rw [e, tn_nI (by omega)]
  exact ⟨rfl, hj⟩
