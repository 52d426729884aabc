/-! class and reference side by side: settling -/
def S_net (a b : mx_Mm) : Prop := Nt a ∧ ∀ x y, x < 6 → y < 6 → a (7 + x) y = b 186 (6 * x + y) ∧ a (14 + x) y = b 187 (6 * x + y) ∧ a (21 + x) y = b 188 (6 * x + y)
def S_cnt (a b : mx_Mm) : Prop := ∀ j, j < 10 → a 4 j = b 201 j
def S_tv (a b : mx_Mm) : Prop := (∀ g n, g < 3 → n < 6 → a (81 + g) n = b 192 (3 * n + g)) ∧ ∀ st n, st < 18 → n < 6 → a (89 + st) n = b 194 (18 * n + st) ∧ a (108 + st) n = b 196 (18 * n + st)
def S_ls (a b : mx_Mm) : Prop := ∀ st n, st < 18 → n < 6 → bs (a (127 + st) n) (fun k => if k < 6 then Mo_in n k st b else Mo_on n (st % 3) b) ∧ bs (a (146 + st) n) (fun k => if k < 6 then Mo_out n k st b else Mo_on n (st % 3) b)
def S_mk (a b : mx_Mm) : Prop := a 2 0 = b 185 1 ∧ ∀ l g, l < 6 → g < 3 → a (43 + l) g = b 190 (3 * l + g)
def S_ka (a b : mx_Mm) : Prop := ∀ st n, st < 18 → n < 6 → a (59 + st) n = b 198 (18 * n + st)
/-- the switches as a settling sees them -/
def S_sw (a b : mx_Mm) : Prop := ∀ st n, st < 18 → n < 6 → (hold (a 77 st) n ↔ (¬ b 199 (18 * n + st) = 0 ∧ b 185 1 < b 198 (18 * n + st)))
theorem Mo_m0_z {n st : Nat} {m : mx_Mm} : nI (Mo_m0 n st m) = 0 ↔ (¬ Mo_on n (st % 3) m ∧ ∀ k, k < 6 → ¬ Mo_in n k st m) := by
  have e : Mo_m0 n st m = Mo_c0 n st m + ((List.range 6).filter (fun k => decide (Mo_in n k st m))).length := lp_count (P := fun k => Mo_in n k st m) 6 _
  have hl : ((List.range 6).filter (fun k => decide (Mo_in n k st m))).length ≤ 6 := by
    have := List.length_filter_le (fun k => decide (Mo_in n k st m)) (List.range 6)
    simpa using this
  have hc : Mo_c0 n st m ≤ 1 := by unfold Mo_c0; split <;> omega
  rw [nI_z _ (by omega), e, Nat.add_eq_zero_iff]
  refine and_congr ?_ ?_
  · unfold Mo_c0
    split
    next h => exact ⟨fun z => by omega, fun z => absurd h z⟩
    next h => exact ⟨fun _ => h, fun _ => rfl⟩
  · rw [List.length_eq_zero_iff, List.filter_eq_nil_iff]
    constructor
    · intro h k hk q
      exact h k (List.mem_range.mpr hk) (decide_eq_true q)
    · intro h k hk q
      exact h k (List.mem_range.mp hk) (of_decide_eq_true q)
theorem Mo_m1_z {n st : Nat} {m : mx_Mm} : nI (Mo_m1 n st m) ≤ 0 ↔ (¬ Mo_on n (st % 3) m ∧ ∀ k, k < 6 → ¬ Mo_out n k st m) := by
  have e : Mo_m1 n st m = Mo_c0 n st m + ((List.range 6).filter (fun k => decide (Mo_out n k st m))).length := lp_count (P := fun k => Mo_out n k st m) 6 _
  have hl : ((List.range 6).filter (fun k => decide (Mo_out n k st m))).length ≤ 6 := by
    have := List.length_filter_le (fun k => decide (Mo_out n k st m)) (List.range 6)
    simpa using this
  have hc : Mo_c0 n st m ≤ 1 := by unfold Mo_c0; split <;> omega
  have e0 : nI (Mo_m1 n st m) ≤ 0 ↔ Mo_m1 n st m ≤ 0 := nI_leI (b := 0) (by omega) (by decide)
  rw [e0, Nat.le_zero, e, Nat.add_eq_zero_iff]
  refine and_congr ?_ ?_
  · unfold Mo_c0
    split
    next h => exact ⟨fun z => by omega, fun z => absurd h z⟩
    next h => exact ⟨fun _ => h, fun _ => rfl⟩
  · rw [List.length_eq_zero_iff, List.filter_eq_nil_iff]
    constructor
    · intro h k hk q
      exact h k (List.mem_range.mpr hk) (decide_eq_true q)
    · intro h k hk q
      exact h k (List.mem_range.mp hk) (of_decide_eq_true q)
/-- a list that is empty -/
theorem ls_z {x : Int32} {P : Nat → Prop} {Q : Prop} (h : bs x (fun k => if k < 6 then P k else Q)) : x = 0 ↔ (¬ Q ∧ ∀ k, k < 6 → ¬ P k) := by
  rw [bs_z h]
  constructor
  · intro z
    refine ⟨fun q => z 6 (by omega) ?_, fun k hk q => z k (by omega) ?_⟩
    · rw [if_neg (by omega)]; exact q
    · rw [if_pos hk]; exact q
  · rintro ⟨z1, z2⟩ k hk q
    by_cases c : k < 6
    · rw [if_pos c] at q; exact z2 k c q
    · rw [if_neg c] at q; exact z1 q
/-- the memory that carries the class's joins and cuts in the reference's places -/
def St_X (a c : mx_Mm) : mx_Mm := fun p j => if p = 192 then a (81 + j % 3) (j / 3) else if p = 194 then a (89 + j % 18) (j / 18) else if p = 196 then a (108 + j % 18) (j / 18) else c p j
theorem X_192 {a c : mx_Mm} {n g : Nat} (hg : g < 3) : (St_X a c) 192 (3 * n + g) = a (81 + g) n := by
  show a (81 + (3 * n + g) % 3) ((3 * n + g) / 3) = _
  rw [show (3 * n + g) % 3 = g by omega, show (3 * n + g) / 3 = n by omega]
theorem X_194 {a c : mx_Mm} {n st : Nat} (h : st < 18) : (St_X a c) 194 (18 * n + st) = a (89 + st) n := by
  show a (89 + (18 * n + st) % 18) ((18 * n + st) / 18) = _
  rw [show (18 * n + st) % 18 = st by omega, show (18 * n + st) / 18 = n by omega]
theorem X_196 {a c : mx_Mm} {n st : Nat} (h : st < 18) : (St_X a c) 196 (18 * n + st) = a (108 + st) n := by
  show a (108 + (18 * n + st) % 18) ((18 * n + st) / 18) = _
  rw [show (18 * n + st) % 18 = st by omega, show (18 * n + st) / 18 = n by omega]
theorem X_o {a c : mx_Mm} {p j : Nat} (h1 : p ≠ 192) (h2 : p ≠ 194) (h3 : p ≠ 196) : (St_X a c) p j = c p j := by
  unfold St_X
  rw [if_neg h1, if_neg h2, if_neg h3]
theorem X_k2 {a c : mx_Mm} {k : Nat} : (St_X a c) 192 k = a (81 + k % 3) (k / 3) := if_pos rfl
theorem X_k4 {a c : mx_Mm} {k : Nat} : (St_X a c) 194 k = a (89 + k % 18) (k / 18) := (if_neg (by decide)).trans (if_pos rfl)
theorem X_k6 {a c : mx_Mm} {k : Nat} : (St_X a c) 196 k = a (108 + k % 18) (k / 18) := (if_neg (by decide)).trans ((if_neg (by decide)).trans (if_pos rfl))
/-- the lists and the equations -/
theorem St_fix {r : Nat} {a a' c : mx_Mm} (hr : r < 6) (hN : Nt a)
    (hvia : ∀ x y, x < 6 → y < 6 → a (21 + x) y = c 188 (6 * x + y)) (hmk : S_mk a c) (hka : S_ka a c)
    (hsw : ∀ st n, st < 18 → n < 6 → (hold (a 77 st) n ↔ ¬ c 199 (18 * n + st) = 0))
    (hsh : ∀ g, g < 3 → Ssh r g a (a' (81 + g)) (a' (85 + g)))
    (hst : ∀ st, st < 18 → Sst r st a (a' (81 + st % 3)) (a' (89 + st)) (a' (127 + st)) (a' (108 + st)) (a' (146 + st))) :
    Se_fix r (St_X a' c) ∧ S_ls a' (St_X a' c) := by
  have on : ∀ n g, n < 6 → g < 3 → (Mo_on n g (St_X a' c) ↔ a 2 0 < a (43 + n) g) := fun n g hn hg => by
    unfold Mo_on
    rw [X_o (by decide) (by decide) (by decide), X_o (by decide) (by decide) (by decide), hmk.1, hmk.2 n g hn hg]
  have sown : ∀ g n, g < 3 → n < 6 → a' (81 + g) n = -1 ∨ a' (81 + g) n = a (21 + n) r := fun g n hg hn => (hsh g hg).own hn
  have hin : ∀ st n k, st < 18 → n < 6 → k < 6 → (Mo_in n k st (St_X a' c) ↔ (a' (81 + st % 3) k = nI n ∧ a' (89 + st) k = -1)) := fun st n k h1 hn hk => by
    unfold Mo_in
    rw [X_192 (by omega), X_194 h1]
    refine and_congr_right (fun e => ?_)
    obtain ⟨⟨q1, q2⟩, -⟩ := hst st h1 k hk
    by_cases z : a' (127 + st) k = 0 ∨ Tr_els st (st / 3) r k a
    · rw [q1 z, e]
      exact ⟨fun w => absurd rfl w, fun w => absurd w (pm_nI_m1 (by omega))⟩
    · rw [q2 z]
      exact ⟨fun _ => rfl, fun _ w => pm_nI_m1 (by omega) w.symm⟩
  have hL : S_ls a' (St_X a' c) := fun st n h1 hn => by
    obtain ⟨-, q2, -, q4⟩ := hst st h1 n hn
    refine ⟨bs_cg q2 (fun k hk => ?_), bs_cg q4 (fun k hk => ?_)⟩
    · unfold Sin
      by_cases z : k < 6
      · rw [if_pos z, if_pos z, hin st n k h1 hn z]
      · rw [if_neg z, if_neg z, on n (st % 3) hn (by omega)]
    · unfold Sin
      by_cases z : k < 6
      · rw [if_pos z, if_pos z]
        unfold Mo_out
        rw [hin st n k h1 hn z, X_196 h1]
        exact or_congr Iff.rfl ⟨fun w => w.2, fun w => ⟨z, w⟩⟩
      · rw [if_neg z, if_neg z, on n (st % 3) hn (by omega)]
        exact ⟨fun w => w.elim id (fun v => absurd v.1 z), Or.inl⟩
  refine ⟨⟨fun k hk => ?_, fun k hk => ?_, fun k hk => ?_⟩, hL⟩
  · have hn : k / 3 < 6 := by omega
    have hg : k % 3 < 3 := by omega
    obtain ⟨⟨q1, q2⟩, -⟩ := hsh (k % 3) hg (k / 3) hn
    show a' (81 + k % 3) (k / 3) = _
    unfold Mo_sd
    rw [X_o (by decide) (by decide) (by decide), ← hvia _ _ hn hr]
    have has : (¬ Mo_as (k / 3) (k % 3) (St_X a' c) = 0) ↔ (a 2 0 < a (43 + k / 3) (k % 3) ∨ ∃ q, q < 6 ∧ a' (81 + k % 3) q = nI (k / 3)) := by
      rw [Mo_as_ne, on _ _ hn hg]
      refine or_congr Iff.rfl ⟨fun ⟨q, hq, e⟩ => ⟨q, hq, ?_⟩, fun ⟨q, hq, e⟩ => ⟨q, hq, ?_⟩⟩
      · rw [X_192 hg] at e; exact e
      · rw [X_192 hg]; exact e
    by_cases z : Mo_as (k / 3) (k % 3) (St_X a' c) = 0
    · rw [if_pos z]; exact q2 (fun w => has.mpr w z)
    · rw [if_neg z]; exact q1 (has.mp z)
  · have hn : k / 18 < 6 := by omega
    have h1 : k % 18 < 18 := by omega
    obtain ⟨⟨q1, q2⟩, -⟩ := hst (k % 18) h1 (k / 18) hn
    have hs := sown (k % 18 % 3) (k / 18) (by omega) hn
    have hz : nI (Mo_m0 (k / 18) (k % 18) (St_X a' c)) = 0 ↔ a' (127 + k % 18) (k / 18) = 0 := by
      rw [Mo_m0_z, ls_z (hL (k % 18) (k / 18) h1 hn).1]
    have ho : Mo_oth r (k / 18) (k % 18) (St_X a' c) ↔ Tr_els (k % 18) (k % 18 / 3) r (k / 18) a := by
      unfold Mo_oth Tr_els
      rw [X_o (by decide) (by decide) (by decide), X_o (by decide) (by decide) (by decide), X_o (by decide) (by decide) (by decide), ← hsw _ _ h1 hn, ← hvia _ _ hn (by omega), ← hvia _ _ hn hr]
    show a' (89 + k % 18) (k / 18) = _
    have ev : (St_X a' c) 188 (6 * (k / 18) + r) = a (21 + k / 18) r := by
      rw [X_o (by decide) (by decide) (by decide), ← hvia _ _ hn hr]
    have ex : (St_X a' c) 192 (3 * (k / 18) + k % 18 % 3) = a' (81 + k % 18 % 3) (k / 18) := X_192 (by omega)
    unfold Mo_cd
    have hrn := hN.nx hr hn
    by_cases z : (St_X a' c) 188 (6 * (k / 18) + r) < 0 ∨ ¬ (St_X a' c) 192 (3 * (k / 18) + k % 18 % 3) = (St_X a' c) 188 (6 * (k / 18) + r)
    · rw [if_pos z]
      rw [ev, ex] at z
      have e1 : a' (81 + k % 18 % 3) (k / 18) = -1 := by
        rcases hs with e | e
        · exact e
        · rcases z with z | z
          · rw [e]; exact (rng6_neg hrn).mp z
          · exact absurd e z
      by_cases w : a' (127 + k % 18) (k / 18) = 0 ∨ Tr_els (k % 18) (k % 18 / 3) r (k / 18) a
      · rw [q1 w]; exact e1
      · exact q2 w
    · rw [if_neg z]
      have z' := not_or.mp z
      have e1 := Decidable.not_not.mp z'.2
      by_cases w : a' (127 + k % 18) (k / 18) = 0 ∨ Tr_els (k % 18) (k % 18 / 3) r (k / 18) a
      · rw [q1 w, if_pos (w.imp hz.mpr ho.mpr), ← e1, ex]
      · rw [q2 w, if_neg (fun v => w (v.imp hz.mp ho.mp))]
  · have hn : k / 18 < 6 := by omega
    have h1 : k % 18 < 18 := by omega
    obtain ⟨-, -, ⟨q1, q2⟩, -⟩ := hst (k % 18) h1 (k / 18) hn
    show a' (108 + k % 18) (k / 18) = _
    have hz : nI (Mo_m1 (k / 18) (k % 18) (St_X a' c)) ≤ 0 ↔ a' (146 + k % 18) (k / 18) = 0 := by
      rw [Mo_m1_z, ls_z (hL (k % 18) (k / 18) h1 hn).2]
    have hp : Mo_pc (k / 18) (k % 18) (St_X a' c) ↔ ((∃ q, q < 6 ∧ a' (108 + k % 18) q = nI (k / 18)) ∨ (a 2 0 < a (59 + k % 18) (k / 18) ∧ ¬ a' (146 + k % 18) (k / 18) = 0)) := by
      unfold Mo_pc
      rw [Mo_ap_ne, hz, X_o (by decide) (by decide) (by decide), X_o (by decide) (by decide) (by decide), ← hmk.1, ← hka _ _ h1 hn]
      refine or_congr ⟨fun ⟨q, hq, e⟩ => ⟨q, hq, ?_⟩, fun ⟨q, hq, e⟩ => ⟨q, hq, ?_⟩⟩ Iff.rfl
      · rw [X_196 h1] at e; exact e
      · rw [X_196 h1]; exact e
    have ev : (St_X a' c) 188 (6 * (k / 18) + k % 18 / 3) = a (21 + k / 18) (k % 18 / 3) := by
      rw [X_o (by decide) (by decide) (by decide), ← hvia _ _ hn (by omega)]
    unfold Mo_pd
    by_cases z : Mo_pc (k / 18) (k % 18) (St_X a' c)
    · rw [if_pos z, ev]; exact q1 (hp.mp z)
    · rw [if_neg z]; exact q2 (fun w => z (hp.mpr w))
theorem s18 (f : Nat → Nat → Int32) : sI 18 (fun k => f (k / 3) (k % 3)) = sI 3 (fun g => sI 6 (fun n => f n g)) := by
  have h := sI_mul f (k := 3) (by decide) 6
  have e : sI 18 (fun k => f (k / 3) (k % 3)) = sI (6 * 3) (fun p => f (p / 3) (p % 3)) := congrArg (fun n => sI n (fun k => f (k / 3) (k % 3))) (by decide : 18 = 6 * 3)
  rw [e, h]
  exact sI_swap f 3 6
theorem s108 (f : Nat → Nat → Int32) : sI 108 (fun k => f (k / 18) (k % 18)) = sI 18 (fun st => sI 6 (fun n => f n st)) := by
  have h := sI_mul f (k := 18) (by decide) 6
  have e : sI 108 (fun k => f (k / 18) (k % 18)) = sI (6 * 18) (fun p => f (p / 18) (p % 18)) := congrArg (fun n => sI n (fun k => f (k / 18) (k % 18))) (by decide : 108 = 6 * 18)
  rw [e, h]
  exact sI_swap f 18 6
def Mo_fp (p : Nat) : Prop := (192 ≤ p ∧ p < 198) ∨ p = 199 ∨ p = 201
/-- settling, side by side -/
theorem St_match {r : Nat} {a b : mx_Mm} (hr : r < 6) (hka : Tr_ok r a) (hkb : Mo_ok r b) (hn : S_net a b) (hmk : S_mk a b) (hke : S_ka a b) (hsw : S_sw a b) (hv : S_tv a b) (hc : S_cnt a b) :
    (∀ p j, ¬ Tr_fp p → (Tr_settle r a) p j = a p j) ∧ (∀ p j, ¬ Mo_fp p → (Mo_settle r b) p j = b p j) ∧
    (∀ k, k < 108 → (Mo_settle r b) 199 k = if ¬ b 199 k = 0 ∧ b 185 1 < b 198 k then nI 1 else nI 0) ∧
    S_tv (Tr_settle r a) (Mo_settle r b) ∧ S_ls (Tr_settle r a) (Mo_settle r b) ∧ S_cnt (Tr_settle r a) (Mo_settle r b) := by
  obtain ⟨hN, hcv⟩ := hn
  obtain ⟨t1, t2, t3, t4⟩ := Tr_settle_spec hN hr hka
  have tk := Tr_settle_ok hr hka
  obtain ⟨c1, c2, c3⟩ := Mo_begin_spec b
  have ck := Mo_begin_ok hkb
  have sk := Mo_settle_ok hr hkb
  have rk := Mo_rr_ok hr ck
  unfold Mo_settle at sk ⊢
  generalize Tr_settle r a = a' at t1 t2 t3 t4 tk ⊢
  generalize Mo_begin b = c at c1 c2 c3 ck sk rk ⊢
  obtain ⟨hf, hL⟩ := St_fix (r := r) (a := a) (a' := a') (c := c) hr hN (fun x y hx hy => by rw [c1 188 _ (by decide) (by decide) (by decide) (by decide)]; exact (hcv x y hx hy).2.2) ⟨by rw [c1 185 _ (by decide) (by decide) (by decide) (by decide)]; exact hmk.1, fun l g hl hg => by rw [c1 190 _ (by decide) (by decide) (by decide) (by decide)]; exact hmk.2 l g hl hg⟩ (fun st n h1 h2 => by rw [c1 198 _ (by decide) (by decide) (by decide) (by decide)]; exact hke st n h1 h2) (fun st n h1 h2 => by
    rw [hsw st n h1 h2, (c3 (18 * n + st) (by omega)).2.2]
    split
    next h => exact ⟨fun _ => n10, fun _ => h⟩
    next h => exact ⟨fun z => absurd z h, fun z => absurd rfl z⟩) t2 t3
  have hs : Se_same c (St_X a' c) := fun p j h1 h2 h3 => (X_o h1 h2 h3).symm
  have hvia : Se_via (pm_r (pm_F (mc a))) (St_X a' c) := by
    refine ⟨fun t n ht hn => pm_rank6 _ hn, fun t k n ht hk hn e => ?_⟩
    rw [X_o (by decide) (by decide) (by decide), c1 188 _ (by decide) (by decide) (by decide) (by decide), ← (hcv k t hk ht).2.2, hN.2.2.1 k t hk ht] at e
    exact pm_rank hk (pm_near hN.1 (pm_F_ok hN.1) hk ht hn e)
  obtain ⟨g1, g2, g3⟩ := Se_end hr hvia hf hs
  have ds := (Se_all hr hvia hf hs).1
  generalize (Mo_rr r c).2 = d at g1 g2 g3 ds sk rk ⊢
  have dc : ∀ p j, p ≠ 192 → p ≠ 194 → p ≠ 196 → d p j = c p j := fun p j h1 h2 h3 => (ds p j h1 h2 h3).trans (X_o h1 h2 h3)
  have mdc : md d = md b := funext fun x => funext fun y => (dc 186 _ (by decide) (by decide) (by decide)).trans (c1 186 _ (by decide) (by decide) (by decide) (by decide))
  have e6 : E6 (mc a) (md b) := fun x y hx hy => (hcv x y hx hy).1
  have pc : pm_c (md d) := by rw [mdc]; exact pm_c_cg e6 hN.1
  obtain ⟨e1, e2⟩ := Mo_es_spec pc (fun k hk => rk.2.2.1 k hk) (fun k hk => rk.2.2.2 k hk)
  generalize mx_lp 108 Mo_e2 (mx_lp 18 Mo_e1 d) = b' at e1 e2 sk ⊢
  have bX : ∀ p j, p = 192 ∧ j < 18 ∨ p = 194 ∧ j < 108 ∨ p = 196 ∧ j < 108 ∨ (p ≠ 192 ∧ p ≠ 194 ∧ p ≠ 196 ∧ p ≠ 201) → b' p j = (St_X a' c) p j := fun p j h => by
    rcases h with ⟨h, hj⟩ | ⟨h, hj⟩ | ⟨h, hj⟩ | ⟨h1, h2, h3, h4⟩
    · subst h; rw [e1 _ _ (by decide)]; exact g1 j hj
    · subst h; rw [e1 _ _ (by decide)]; exact g2 j hj
    · subst h; rw [e1 _ _ (by decide)]; exact g3 j hj
    · rw [e1 _ _ h4]; exact ds p j h1 h2 h3
  refine ⟨t1, fun p j hp => ?_, fun k hk => ?_, ⟨fun g n hg hn => ?_, fun st n h1 h2 => ⟨?_, ?_⟩⟩, fun st n h1 h2 => ?_, fun j hj => ?_⟩
  · unfold Mo_fp at hp
    rw [e1 p j (by omega), dc p j (by omega) (by omega) (by omega), c1 p j (by omega) (by omega) (by omega) (by omega)]
  · rw [e1 _ _ (by decide), dc _ _ (by decide) (by decide) (by decide)]
    exact (c3 k hk).2.2
  · rw [bX _ _ (Or.inl ⟨rfl, by omega⟩), X_192 hg]
  · rw [bX _ _ (Or.inr (Or.inl ⟨rfl, by omega⟩)), X_194 h1]
  · rw [bX _ _ (Or.inr (Or.inr (Or.inl ⟨rfl, by omega⟩))), X_196 h1]
  · have on : Mo_on n (st % 3) b' ↔ Mo_on n (st % 3) (St_X a' c) := by
      unfold Mo_on
      rw [bX 185 1 (by omega), bX 190 _ (by omega)]
    have hin : ∀ k, k < 6 → (Mo_in n k st b' ↔ Mo_in n k st (St_X a' c)) := fun k hk => by
      unfold Mo_in
      rw [bX 192 _ (by omega), bX 194 _ (by omega)]
    have hout : ∀ k, k < 6 → (Mo_out n k st b' ↔ Mo_out n k st (St_X a' c)) := fun k hk => by
      unfold Mo_out
      rw [hin k hk, bX 196 _ (by omega)]
    obtain ⟨q1, q2⟩ := hL st n h1 h2
    refine ⟨bs_cg q1 (fun k _ => ?_), bs_cg q2 (fun k _ => ?_)⟩
    · by_cases z : k < 6
      · rw [if_pos z, if_pos z, hin k z]
      · rw [if_neg z, if_neg z, on]
    · by_cases z : k < 6
      · rw [if_pos z, if_pos z, hout k z]
      · rw [if_neg z, if_neg z, on]
  · rw [t4 j, e2 j, hc j hj, dc 201 j (by decide) (by decide) (by decide), c1 201 j (by decide) (by decide) (by decide) (by decide), mdc]
    refine congrArg (fun z => b 201 j + z) ?_
    have s1 : sI 18 (fun k => dA j 0 (k / 3) (d 193 k) (d 192 k) (md b)) = sI 3 (fun g => sI 6 (fun n => dA j 0 n (a (81 + g) n) (a' (81 + g) n) (mc a))) := by
      rw [← s18 (fun n g => dA j 0 n (a (81 + g) n) (a' (81 + g) n) (mc a))]
      refine sg_cg 18 (fun k hk => ?_)
      rw [dc 193 k (by decide) (by decide) (by decide), c2 k hk, g1 k hk, X_k2, hv.1 (k % 3) (k / 3) (by omega) (by omega), show 3 * (k / 3) + k % 3 = k by omega]
      exact dA_cg (hkb.2.2.1 k hk).1 (fun y hy => (e6 (k / 3) y (by omega) hy).symm)
    have s2 : sI 108 (fun k => dA j 2 (k / 18) (d 197 k) (d 196 k) (md b) + dA j 4 (k / 18) (d 195 k) (d 194 k) (md b)) = sI 18 (fun st => sI 6 (fun n => dA j 4 n (a (89 + st) n) (a' (89 + st) n) (mc a)) + sI 6 (fun n => dA j 2 n (a (108 + st) n) (a' (108 + st) n) (mc a))) := by
      have w : sI 18 (fun st => sI 6 (fun n => dA j 4 n (a (89 + st) n) (a' (89 + st) n) (mc a)) + sI 6 (fun n => dA j 2 n (a (108 + st) n) (a' (108 + st) n) (mc a))) = sI 18 (fun st => sI 6 (fun n => dA j 4 n (a (89 + st) n) (a' (89 + st) n) (mc a) + dA j 2 n (a (108 + st) n) (a' (108 + st) n) (mc a))) := sg_cg 18 (fun st _ => (sI_add (fun n => dA j 4 n (a (89 + st) n) (a' (89 + st) n) (mc a)) (fun n => dA j 2 n (a (108 + st) n) (a' (108 + st) n) (mc a)) 6).symm)
      rw [w, ← s108 (fun n st => dA j 4 n (a (89 + st) n) (a' (89 + st) n) (mc a) + dA j 2 n (a (108 + st) n) (a' (108 + st) n) (mc a))]
      refine sg_cg 108 (fun k hk => ?_)
      rw [dc 197 k (by decide) (by decide) (by decide), (c3 k hk).2.1, g3 k hk, X_k6, dc 195 k (by decide) (by decide) (by decide), (c3 k hk).1, g2 k hk, X_k4, (hv.2 (k % 18) (k / 18) (by omega) (by omega)).1, (hv.2 (k % 18) (k / 18) (by omega) (by omega)).2, show 18 * (k / 18) + k % 18 = k by omega, Int32.add_comm]
      obtain ⟨r1, -, r3, -⟩ := hkb.2.2.2 k hk
      have w1 : ∀ y, y < 6 → md b (k / 18) y = mc a (k / 18) y := fun y hy => (e6 (k / 18) y (by omega) hy).symm
      rw [dA_cg r1 w1, dA_cg r3 w1]
    rw [s1, s2]
