/-! class and reference side by side: a packet -/
def S_sws (a b : mx_Mm) : Prop := ∀ st, st < 18 → bs (a 77 st) (fun n => n < 6 ∧ ¬ b 199 (18 * n + st) = 0)
def S_q (a b : mx_Mm) : Prop := ∀ st, st < 18 → a 78 st = b 200 st
def S_al (b : mx_Mm) : Prop := ∀ n st, n < 6 → st < 18 → ¬ b 199 (18 * n + st) = 0 → b 185 1 < b 198 (18 * n + st)
def S_los (a b : mx_Mm) : Prop := ∀ l, l < 6 → a 56 l = b 202 l ∧ ∃ c, c ≤ 9 ∧ a 56 l = nI c
def S_pk (a b : mx_Mm) : Prop := a 165 8 = b 185 19 ∧ a 165 9 = b 185 20 ∧ a 165 10 = b 185 21 ∧ a 165 11 = b 185 22
theorem ift_eq {C D : Prop} {x y v x' y' v' : Int32} (h1 : ift C x y v) (h2 : ift D x' y' v') (h : C ↔ D) (ex : x = x') (ey : y = y') : v = v' := by
  by_cases c : C
  · rw [h1.1 c, h2.1 (h.mp c), ex]
  · rw [h1.2 c, h2.2 (fun d => c (h.mpr d)), ey]
theorem Mo_m1_le {n st : Nat} {m : mx_Mm} : Mo_m1 n st m ≤ 7 := by
  have e : Mo_m1 n st m = Mo_c0 n st m + ((List.range 6).filter (fun k => decide (Mo_out n k st m))).length := lp_count (P := fun k => Mo_out n k st m) 6 _
  have hl : ((List.range 6).filter (fun k => decide (Mo_out n k st m))).length ≤ 6 := by
    have := List.length_filter_le (fun k => decide (Mo_out n k st m)) (List.range 6)
    simpa using this
  have hc : Mo_c0 n st m ≤ 1 := by unfold Mo_c0; split <;> omega
  omega
theorem m7z : ∀ k, k ≤ 7 → (nI k ≤ 0 ↔ nI k = 0) := by decide
theorem bs_64 {x : Int32} {P : Nat → Prop} (h : bs x P) : (¬ x &&& nI 64 = 0) ↔ P 6 := by
  obtain ⟨k, hk, e, hp⟩ := h
  subst e
  rw [a64_nI k hk, ← hp 6 (by decide)]
  exact Decidable.not_not
theorem bs_bt {x : Int32} {P : Nat → Prop} (h : bs x P) {n : Nat} (hn : n < 7) : bt1 x n ↔ hold x n := by
  obtain ⟨k, hk, e, hp⟩ := h
  subst e
  exact bt1_nI k hk n hn
theorem nI_lt8 {t k : Nat} (h : t + k < 2 ^ 31) (hk : 0 < k) : nI t < nI t + nI k := by
  rw [nI_add]
  exact nI_lt (by omega) h
theorem Pk_match {r s g st t : Nat} {a b : mx_Mm} (hs : s < 6) (hg : g < 3) (hr : r < 6) (est : s * 3 + g = st) (hka : Tr_ok r a) (hn : S_net a b) (hmk : S_mk a b) (hke : S_ka a b) (hsw : S_sws a b) (hq : S_q a b) (hal : S_al b) (hv : S_tv a b) (hls : S_ls a b) (hc : S_cnt a b) (hlo : S_los a b) (ht : b 185 1 = nI t) (ht2 : t + 20 < 2 ^ 31) :
    S_net (Pa_disp s g r a) (Mo_pk r s st b).2 ∧ S_mk (Pa_disp s g r a) (Mo_pk r s st b).2 ∧ S_ka (Pa_disp s g r a) (Mo_pk r s st b).2 ∧ S_sws (Pa_disp s g r a) (Mo_pk r s st b).2 ∧ S_q (Pa_disp s g r a) (Mo_pk r s st b).2 ∧ S_al (Mo_pk r s st b).2 ∧ S_tv (Pa_disp s g r a) (Mo_pk r s st b).2 ∧ S_cnt (Pa_disp s g r a) (Mo_pk r s st b).2 ∧ S_los (Pa_disp s g r a) (Mo_pk r s st b).2 ∧ S_pk (Pa_disp s g r a) (Mo_pk r s st b).2 ∧ bc ((Pa_disp s g r a) 165 11) = nI (Mo_pk r s st b).1 := by
  have hst : st < 18 := by omega
  have hst3 : st % 3 = g := by omega
  obtain ⟨hN, hcv⟩ := hn
  obtain ⟨d1, d2, d3, d4, d5, d6, K, c, d7, d8, d9, d10, d11⟩ := disp_spec hs hg hr est hN (hsw st hst)
  obtain ⟨p1, p2, p3, p4, p5⟩ := pk_spec (b := b) hst hs hr
  generalize Pa_disp s g r a = a' at d1 d2 d3 d4 d5 d6 d7 d8 d9 d10 d11 ⊢
  generalize Mo_pk r s st b = B at p1 p2 p3 p4 p5 ⊢
  obtain ⟨cnt, b'⟩ := B
  have p1' : ∀ p j, ¬ (198 ≤ p ∧ p < 206) → ¬ (p = 185 ∧ 19 ≤ j ∧ j < 23) → b' p j = b p j := p1
  have p2' : ∀ n st', n < 6 → st' < 18 → b' 199 (18 * n + st') = if st' = st ∧ (¬ b 196 (18 * n + st) < 0 ∨ (n = s ∧ ¬ nI (Mo_m1 s st b) ≤ 0)) then nI 1 else b 199 (18 * n + st') := p2
  have p3' : ∀ j, b' 200 j = if j = st ∧ Mo_rc r s st b ∧ (¬ b' 199 (18 * r + st) = 0 ∨ nI (Mo_m1 r st b) = 0) then b 185 1 + nI 6 else b 200 j := p3
  have p4' : ∀ j, b' 201 j = b 201 j + ((if Mo_rc r s st b ∧ j = 6 then nI 1 else 0) + if (Mo_rc r s st b ∧ (¬ b' 199 (18 * r + st) = 0 ∨ nI (Mo_m1 r st b) = 0)) ∧ j = 7 then nI 1 else 0) := p4
  show S_net a' b' ∧ S_mk a' b' ∧ S_ka a' b' ∧ S_sws a' b' ∧ S_q a' b' ∧ S_al b' ∧ S_tv a' b' ∧ S_cnt a' b' ∧ S_los a' b' ∧ S_pk a' b' ∧ bc (a' 165 11) = nI cnt
  -- frames
  have fa : ∀ p j, p ≠ 4 → p ≠ 56 → p ≠ 59 + st → p ≠ 77 → p ≠ 78 → p < 165 → a' p j = a p j := fun p j h1 h2 h3 h4 h5 h6 => d1 p j h1 h2 h3 h5 (by omega) (by omega) (by omega) (fun z => h4 z.1)
  have hNa : Nt a' := Nt_cg hN (fun p j h1 h2 => fa p j (by omega) (by omega) (by omega) (by omega) (by omega) (by omega))
  -- the equivalences
  have E1 : ∀ n, n < 6 → (a (146 + st) n = 0 ↔ nI (Mo_m1 n st b) ≤ 0) := fun n hn => by
    rw [Mo_m1_z, ls_z (hls st n hst hn).2]
  have E1' : ∀ n, n < 6 → (a (146 + st) n = 0 ↔ nI (Mo_m1 n st b) = 0) := fun n hn => (E1 n hn).trans (m7z _ Mo_m1_le)
  have E2 : ∀ n, n < 6 → (a (108 + st) n = -1 ↔ b 196 (18 * n + st) < 0) := fun n hn => by
    rw [← (hv.2 st n hst hn).2]
    exact (rng6_neg (hka.2.2.2.2.2 st n hst hn)).symm
  have D77 : bs (a' 77 st) (fun n => n < 6 ∧ ¬ b' 199 (18 * n + st) = 0) := by
    refine bs_cg d2 (fun n _ => ?_)
    by_cases h6 : n < 6
    · rw [p2' n st h6 hst]
      have h1 := E1 s hs
      have h2 := E2 n h6
      by_cases z : st = st ∧ (¬ b 196 (18 * n + st) < 0 ∨ (n = s ∧ ¬ nI (Mo_m1 s st b) ≤ 0))
      · rw [if_pos z]
        refine ⟨fun _ => ⟨h6, n10⟩, fun _ => ?_⟩
        rcases z.2 with w | w
        · exact Or.inr (Or.inr ⟨h6, fun k => w (h2.mp k)⟩)
        · exact Or.inr (Or.inl ⟨w.1, fun k => w.2 (h1.mp k)⟩)
      · rw [if_neg z]
        constructor
        · rintro (w | w | w)
          · exact w
          · exact absurd ⟨rfl, Or.inr ⟨w.1, fun k => w.2 (h1.mpr k)⟩⟩ z
          · exact absurd ⟨rfl, Or.inl (fun k => w.2 (h2.mpr k))⟩ z
        · intro w; exact Or.inl w
    · constructor
      · rintro (w | w | w)
        · exact absurd w.1 h6
        · exact absurd (by omega) h6
        · exact absurd w.1 h6
      · intro w; exact absurd w.1 h6
  have E3 : ∀ n, n < 6 → (hold (a' 77 st) n ↔ ¬ b' 199 (18 * n + st) = 0) := fun n hn => by
    rw [bs_hold D77 (by omega)]
    exact ⟨fun z => z.2, fun z => ⟨hn, z⟩⟩
  have E3' : ∀ n, n < 6 → (¬ hold (a' 77 st) n ↔ b' 199 (18 * n + st) = 0) := fun n hn => by
    rw [E3 n hn]
    exact Decidable.not_not
  have E4 : Pa_rc st s r a ↔ Mo_rc r s st b := by
    unfold Pa_rc Mo_rc
    rw [nIs hs hr, (hcv s r hs hr).2.1, hmk.1, hq st hst, Int32.not_le, Int32.not_lt]
  have ad : ∀ p j, Mo_dep p j → b' p j = b p j := fun p j h => p1' p j (by unfold Mo_dep at h; omega) (by unfold Mo_dep at h; omega)
  have L127 : ∀ q, q < 6 → bs (a' (127 + st) q) (fun k => if k < 6 then Mo_in q k st b' else Mo_on q (st % 3) b') := fun q hq => by
    rw [fa (127 + st) q (by omega) (by omega) (by omega) (by omega) (by omega) (by omega)]
    refine bs_cg (hls st q hst hq).1 (fun k _ => ?_)
    rw [Mo_in_cg ad, Mo_on_cg ad]
  have L146 : ∀ q, q < 6 → bs (a' (146 + st) q) (fun k => if k < 6 then Mo_out q k st b' else Mo_on q (st % 3) b') := fun q hq => by
    rw [fa (146 + st) q (by omega) (by omega) (by omega) (by omega) (by omega) (by omega)]
    refine bs_cg (hls st q hst hq).2 (fun k _ => ?_)
    rw [Mo_out_cg ad, Mo_on_cg ad]
  have E5 : ∀ q n, q < 6 → n < 6 → (cad st a' q n ↔ rad st b' q n) := fun q n hq hn => by
    unfold cad rad Mo_pin Pa_list
    by_cases z : hold (a' 77 st) q
    · rw [if_pos z, bs_hold (L146 q hq) (by omega), if_pos hn]
      have z' := (E3 q hq).mp z
      exact ⟨fun w => Or.inr ⟨z', w⟩, fun w => w.elim (fun k => absurd k.1 z') (fun k => k.2)⟩
    · rw [if_neg z, bs_hold (L127 q hq) (by omega), if_pos hn]
      have z' := (E3' q hq).mp z
      exact ⟨fun w => Or.inl ⟨z', w⟩, fun w => w.elim (fun k => k.2) (fun k => absurd z' k.1)⟩
  have via : ∀ q t, q < 6 → t < 6 → a' (21 + q) t = b' 188 (6 * q + t) := fun q t hq ht => by
    rw [fa (21 + q) t (by omega) (by omega) (by omega) (by omega) (by omega) (by omega), p1' 188 _ (by omega) (by omega)]
    exact (hcv q t hq ht).2.2
  have E6 : ∀ q, q < 6 → cfr st s r a' q = rfr st s r b' q := fun q hq => by
    unfold cfr rfr
    by_cases e : q = s
    · rw [if_pos e, if_pos e]
    · rw [if_neg e, if_neg e]
      unfold Pa_side Mo_side
      by_cases z : hold (a' 77 st) q
      · rw [if_pos z, if_neg ((E3 q hq).mp z)]; exact via q s hq hs
      · rw [if_neg z, if_pos ((E3' q hq).mp z)]; exact via q r hq hr
  have E7 : ∀ q, q < 6 → ((¬ Pa_list st q a' &&& nI 64 = 0) ↔ Mo_on q (st % 3) b) := fun q hq => by
    unfold Pa_list
    by_cases z : hold (a' 77 st) q
    · rw [if_pos z, bs_64 (L146 q hq), if_neg (by omega), Mo_on_cg ad]
    · rw [if_neg z, bs_64 (L127 q hq), if_neg (by omega), Mo_on_cg ad]
  have on : ∀ n, n < 6 → (a 2 0 < a (43 + n) g ↔ Mo_on n (st % 3) b) := fun n hn => by
    unfold Mo_on
    rw [hmk.1, hmk.2 n g hn hg, hst3]
  have Eg : ∀ q n, q < 6 → n < 6 → (cgo st s r a' q n ↔ rgo st s r b' q n) := fun q n hq hn => by
    unfold cgo rgo
    rw [E5 q n hq hn, E6 q hq, E6 n hn]
  have ES : ∀ q, ((q = s ∧ ¬ a (146 + st) s = 0) ∨ (q = r ∧ Pa_rc st s r a ∧ ¬ hold (a' 77 st) r)) ↔ ((q = s ∧ ¬ nI (Mo_m1 s st b) ≤ 0) ∨ (q = r ∧ Mo_rc r s st b ∧ b' 199 (18 * r + st) = 0)) := fun q => by
    rw [E1 s hs, E4, E3' r hr]
  have hC : Chn (fun q => (q = s ∧ ¬ nI (Mo_m1 s st b) ≤ 0) ∨ (q = r ∧ Mo_rc r s st b ∧ b' 199 (18 * r + st) = 0)) (rgo st s r b') K c := by
    obtain ⟨q1, q2, q3, q4, q5, q6⟩ := d7
    refine ⟨q1, q2, q3, fun k hk => ?_, fun q hq h => q5 q hq ((ES q).mpr h), fun k n hk hn w => q6 k n hk hn ((Eg _ _ (q2 k hk) hn).mpr w)⟩
    rcases q4 k hk with h | ⟨j, hj, w⟩
    · exact Or.inl ((ES _).mp h)
    · exact Or.inr ⟨j, hj, (Eg _ _ (q2 j (by omega)) (q2 k hk)).mp w⟩
  have nself : ∀ q t, q < 6 → t < 6 → ¬ a' (21 + q) t = nI q := fun q t hq ht e => by
    rw [hNa.2.2.1 q t hq ht] at e
    exact absurd (pm_near hNa.1 (pm_F_ok hNa.1) hq ht hq e) Int32.lt_irrefl
  have hqq : ∀ q, q < 6 → ¬ rfr st s r b' q = nI q := fun q hq => by
    rw [← E6 q hq]
    unfold cfr
    split
    · exact fun z => pm_nI_m1 (by omega) z.symm
    · unfold Pa_side
      split
      · exact nself q s hq hs
      · exact nself q r hq hr
  have hS0 : ∀ q, q < 6 → ((q = s ∧ ¬ nI (Mo_m1 s st b) ≤ 0) ∨ (q = r ∧ Mo_rc r s st b ∧ b' 199 (18 * r + st) = 0)) → rfr st s r b' q = -1 := fun q hq h => by
    rcases h with h | h
    · unfold rfr
      rw [if_pos h.1]
    · have hsr : ¬ r = s := fun z => h.2.1.1 (by rw [z])
      unfold rfr
      rw [h.1, if_neg hsr]
      unfold Mo_side
      rw [if_pos h.2.2, ← via r r hr hr, hNa.2.2.1 r r hr hr]
      unfold pm_N
      rw [if_pos (Or.inl rfl)]
  obtain ⟨r1, r2, r3, r4, r5, r6, r7⟩ := p5 K c hqq hS0 hC
  have r1' : b' 185 19 = sI K (fun k => sI 6 (rxx st s r b' (c k))) := r1
  have r2' : b' 185 20 = sI K (fun k => sI 6 (rdd st s r b' (c k))) := r2
  have r3' : bs (b' 185 21) (fun q => (q = s ∧ Mo_on s (st % 3) b) ∨ ∃ k, k < K ∧ c k = q ∧ Mo_on q (st % 3) b ∧ ¬ q = s) := r3
  have r4' : bs (b' 185 22) (fun l => l < 6 ∧ bt1 (b' 185 21) l ∧ b 202 l ≤ 0) := r4
  have r5' : ∀ l, l < 6 → b' 202 l = if bt1 (b' 185 21) l ∧ ¬ b 202 l ≤ 0 then b 202 l - nI 1 else b 202 l := r5
  have r6' : cnt = ((List.range 6).filter (fun l => decide (bt1 (b' 185 21) l ∧ b 202 l ≤ 0))).length := r6
  have r7' : ∀ n st', n < 6 → st' < 18 → ift (st' = st ∧ (n = s ∨ ¬ b 196 (18 * n + st) < 0 ∨ (Mo_rc r s st b ∧ n = r) ∨ ((∃ k, k < K ∧ c k = n) ∧ b' 199 (18 * n + st) = 0 ∧ Mo_on n (st % 3) b))) (b 185 1 + nI 8) (b 198 (18 * n + st')) (b' 198 (18 * n + st')) := r7
  have cb := d7.2.1
  have e10 : a' 165 10 = b' 185 21 := by
    refine bs_eq (bs_cg d10 (fun q _ => ?_)) r3'
    refine or_congr (and_congr Iff.rfl (on s hs)) ?_
    constructor
    · rintro ⟨k, hk, e, w⟩
      have hq : q < 6 := by rw [← e]; exact cb k hk
      exact ⟨k, hk, e, (E7 q hq).mp w.1, w.2⟩
    · rintro ⟨k, hk, e, w⟩
      have hq : q < 6 := by rw [← e]; exact cb k hk
      exact ⟨k, hk, e, (E7 q hq).mpr w.1, w.2⟩
  have Ez : ∀ l, l < 6 → (a 56 l = 0 ↔ b 202 l ≤ 0) := fun l hl => by
    obtain ⟨e, k, hk, ek⟩ := hlo l hl
    rw [← e, ek]
    exact (c9z k hk).symm
  have Eh : ∀ l, l < 6 → (hold (a' 165 10) l ↔ bt1 (b' 185 21) l) := fun l hl => by
    rw [e10]
    exact (bs_bt r3' (by omega)).symm
  have d6' : bs (a' 165 11) (fun l => l < 6 ∧ bt1 (b' 185 21) l ∧ b 202 l ≤ 0) := bs_cg d6 (fun l _ => by
    by_cases hl : l < 6
    · rw [Eh l hl, Ez l hl]
    · exact ⟨fun z => absurd z.1 hl, fun z => absurd z.1 hl⟩)
  have stq : (Pa_rc st s r a ∧ (hold (a' 77 st) r ∨ a (146 + st) r = 0)) ↔ (Mo_rc r s st b ∧ (¬ b' 199 (18 * r + st) = 0 ∨ nI (Mo_m1 r st b) = 0)) := by
    rw [E4, E3 r hr, E1' r hr]
  refine ⟨⟨hNa, fun x y hx hy => ?_⟩, ⟨?_, fun l g' hl hg' => ?_⟩, fun st' n h' hn => ?_, fun st' h' => ?_, fun st' h' => ?_, fun n st' hn h' hne => ?_, ⟨fun g' n hg' hn => ?_, fun st' n h' hn => ?_⟩, fun j hj => ?_, fun l hl => ?_, ⟨?_, ?_, e10, bs_eq d6' r4'⟩, ?_⟩
  · rw [fa (7 + x) y (by omega) (by omega) (by omega) (by omega) (by omega) (by omega), fa (14 + x) y (by omega) (by omega) (by omega) (by omega) (by omega) (by omega), fa (21 + x) y (by omega) (by omega) (by omega) (by omega) (by omega) (by omega), p1' 186 _ (by omega) (by omega), p1' 187 _ (by omega) (by omega), p1' 188 _ (by omega) (by omega)]
    exact hcv x y hx hy
  · rw [fa 2 0 (by omega) (by omega) (by omega) (by omega) (by omega) (by omega), p1' 185 1 (by omega) (by omega)]
    exact hmk.1
  · rw [fa (43 + l) g' (by omega) (by omega) (by omega) (by omega) (by omega) (by omega), p1' 190 _ (by omega) (by omega)]
    exact hmk.2 l g' hl hg'
  · by_cases e : st' = st
    · subst e
      refine ift_eq (d11 n hn) (r7' n st' hn hst) ?_ (by rw [hmk.1]) (hke st' n hst hn)
      rw [E2 n hn, E4, E3' n hn, on n hn]
      exact ⟨fun z => ⟨rfl, z⟩, fun z => z.2⟩
    · rw [fa (59 + st') n (by omega) (by omega) (by omega) (by omega) (by omega) (by omega), (r7' n st' hn h').2 (fun z => e z.1)]
      exact hke st' n h' hn
  · by_cases e : st' = st
    · subst e; exact D77
    · rw [d1 77 st' (by omega) (by omega) (by omega) (by omega) (by omega) (by omega) (by omega) (fun z => e z.2)]
      refine bs_cg (hsw st' h') (fun n _ => ?_)
      by_cases hn : n < 6
      · rw [p2' n st' hn h', if_neg (fun z => e z.1)]
      · exact ⟨fun z => absurd z.1 hn, fun z => absurd z.1 hn⟩
  · rw [d3 st', p3' st']
    exact ite_iff (and_congr Iff.rfl stq) (by rw [hmk.1]) (hq st' h')
  · -- switched implies alive
    rw [p1' 185 1 (by omega) (by omega)]
    by_cases z : st' = st ∧ (n = s ∨ ¬ b 196 (18 * n + st) < 0 ∨ (Mo_rc r s st b ∧ n = r) ∨ ((∃ k, k < K ∧ c k = n) ∧ b' 199 (18 * n + st) = 0 ∧ Mo_on n (st % 3) b))
    · rw [(r7' n st' hn h').1 z, ht]
      exact nI_lt8 (by omega) (by decide)
    · rw [(r7' n st' hn h').2 z]
      refine hal n st' hn h' (fun e => hne ?_)
      rw [p2' n st' hn h', if_neg (fun w => z ⟨w.1, w.2.elim (fun k => Or.inr (Or.inl k)) (fun k => Or.inl k.1)⟩)]
      exact e
  · rw [fa (81 + g') n (by omega) (by omega) (by omega) (by omega) (by omega) (by omega), p1' 192 _ (by omega) (by omega)]
    exact hv.1 g' n hg' hn
  · rw [fa (89 + st') n (by omega) (by omega) (by omega) (by omega) (by omega) (by omega), fa (108 + st') n (by omega) (by omega) (by omega) (by omega) (by omega) (by omega), p1' 194 _ (by omega) (by omega), p1' 196 _ (by omega) (by omega)]
    exact hv.2 st' n h' hn
  · have u1 : (if Pa_rc st s r a ∧ j = 6 then nI 1 else 0) = if Mo_rc r s st b ∧ j = 6 then nI 1 else 0 := ite_iff (and_congr E4 Iff.rfl) rfl rfl
    have u2 : (if (Pa_rc st s r a ∧ (hold (a' 77 st) r ∨ a (146 + st) r = 0)) ∧ j = 7 then nI 1 else 0) = if (Mo_rc r s st b ∧ (¬ b' 199 (18 * r + st) = 0 ∨ nI (Mo_m1 r st b) = 0)) ∧ j = 7 then nI 1 else 0 := ite_iff (and_congr stq Iff.rfl) rfl rfl
    rw [d4 j, p4' j, u1, u2, hc j hj]
  · have hz : (hold (a' 165 10) l ∧ ¬ a 56 l = 0) ↔ (bt1 (b' 185 21) l ∧ ¬ b 202 l ≤ 0) := by rw [Eh l hl, Ez l hl]
    obtain ⟨e, k, hk, ek⟩ := hlo l hl
    refine ⟨?_, ?_⟩
    · rw [d5 l hl, r5' l hl]
      exact ite_iff hz (by rw [e]) e
    · rw [d5 l hl, ek]
      by_cases z : hold (a' 165 10) l ∧ ¬ nI k = 0
      · rw [if_pos z]
        have hk0 : k ≠ 0 := fun w => z.2 (by rw [w]; rfl)
        have : ∀ k, k ≤ 9 → k ≠ 0 → nI k - nI 1 = nI (k - 1) := by decide
        exact ⟨k - 1, by omega, this k hk hk0⟩
      · rw [if_neg z]; exact ⟨k, hk, rfl⟩
  · rw [d8, r1']
    refine sg_cg K (fun k hk => sg_cg 6 (fun n hn => ?_))
    unfold cxx rxx
    exact ite_iff (by rw [E5 _ n (cb k hk) hn, E6 _ (cb k hk)]) rfl rfl
  · rw [d9, r2']
    refine sg_cg K (fun k hk => sg_cg 6 (fun n hn => ?_))
    unfold cdd rdd
    exact ite_iff (by rw [E5 _ n (cb k hk) hn, E6 _ (cb k hk), E6 n hn]) rfl rfl
  · rw [bs_bc d6', cnt7, r6']
    congr 1
    rw [if_neg (fun z => absurd z.1 (Nat.lt_irrefl _)), Nat.add_zero]
    congr 1
    refine List.filter_congr (fun l hl => ?_)
    have hl6 : l < 6 := List.mem_range.mp hl
    exact decide_eq_decide.mpr ⟨fun z => z.2, fun z => ⟨hl6, z⟩⟩
