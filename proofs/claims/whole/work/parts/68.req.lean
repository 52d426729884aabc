/-! class and reference side by side: requests -/
theorem mis_eq {f l : Nat} {a b : mx_Mm} (hl : l < 6) (h : S_f1 f a b) : Fi_mis f l a = Mo_mis f l b := by
  unfold Fi_mis Mo_mis
  rw [(h.2.1 l hl).1, (h.2.1 l hl).2]
theorem mis_b {f l n : Nat} {a b : mx_Mm} (hl : l < 6) (hn : n ≤ 16) (en : a 171 f = nI n) (h : S_f1 f a b) : ∀ k, n ≤ k → k < 16 → ¬ hold (Fi_mis f l a) k := fun k k1 k2 w => by
  obtain ⟨-, -, n0, j, q1, q2, q3, q4, q5, q6⟩ := h
  have e0 : n0 = n := (nI_eq (by omega) (by omega)).mp (q2.symm.trans en)
  obtain ⟨o, ho, eo⟩ := q6 l hl
  unfold Fi_mis at w
  rw [eo] at w
  have := mask_b o (by omega) k k2 (hold_and w)
  omega
theorem part_eq {r t f s g l : Nat} {a b : mx_Mm} (hs : s < 6) (hg : g < 3) (hl : l < 6) (h : Core r t a b) (hf : S_f1 f a b) : Fi_part f s g l a ↔ Mo_part f s g l b := by
  obtain ⟨-, ⟨hN, hcv⟩, -, hme, -⟩ := h
  unfold Fi_part Mo_part
  have e : a (14 + l) s = b 187 (6 * s + l) := by
    rw [← (hcv s l hs hl).2.1, hN.2.1 l s hl hs, hN.2.1 s l hs hl]
    exact (pm_F_ok hN.1).2.2 l s hl hs
  rw [e, mem_z hl hg hme, mis_eq hl hf, Int32.not_le]
/-- what stays while requests are drawn and sent -/
theorem waits_pair {r t f s g : Nat} {a b : mx_Mm} (hf4 : f < 4) (hs : s < 6) (hg : g < 3) (h : Core r t a b) (hf : S_f1 f a b) (hd : a 168 12 = b 185 34) :
    (∀ p j, p ≠ 184 → ¬ (p = 168 ∧ j = 12) → (Fi_waits f s g a) p j = a p j) ∧ (∀ p j, p ≠ 213 → ¬ (p = 185 ∧ j = 34) → (mx_lp 6 (Mo_w5 f s g) b) p j = b p j) ∧ (Fi_waits f s g a) 168 12 = (mx_lp 6 (Mo_w5 f s g) b) 185 34 ∧ ∀ l, l < 6 → (Fi_waits f s g a) 184 l = (mx_lp 6 (Mo_w5 f s g) b) 213 l := by
  have key : ∀ i, i ≤ 6 → (∀ p j, p ≠ 184 → ¬ (p = 168 ∧ j = 12) → (mx_lp i (Fi_w1 f s g) a) p j = a p j) ∧ (∀ p j, p ≠ 213 → ¬ (p = 185 ∧ j = 34) → (mx_lp i (Mo_w5 f s g) b) p j = b p j) ∧ (mx_lp i (Fi_w1 f s g) a) 168 12 = (mx_lp i (Mo_w5 f s g) b) 185 34 ∧ ∀ l, l < i → (mx_lp i (Fi_w1 f s g) a) 184 l = (mx_lp i (Mo_w5 f s g) b) 213 l := by
    intro i
    induction i with
    | zero => intro _; exact ⟨fun _ _ _ _ => rfl, fun _ _ _ _ => rfl, hd, fun l hl => absurd hl (Nat.not_lt_zero _)⟩
    | succ i ih =>
      intro hi
      obtain ⟨r1, r2, r3, r4⟩ := ih (by omega)
      rw [lp_succ, lp_succ]
      generalize mx_lp i (Fi_w1 f s g) a = x at r1 r3 r4 ⊢
      generalize mx_lp i (Mo_w5 f s g) b = u at r2 r3 r4 ⊢
      have hcx : Core r t x u := h.fr (fun p j p1 => r1 p j (by omega) (by omega)) (fun p j _ p1 p2 => r2 p j (by omega) (by omega))
      have hfx : S_f1 f x u := hf.fr (fun p j p1 p2 _ _ _ => r1 p j (by omega) (by omega)) (fun p j p1 p2 _ _ => r2 p j (by omega) (by omega)) hf4
      have hp := part_eq hs hg (show i < 6 by omega) hcx hfx
      unfold Fi_w1 Mo_w5
      by_cases c : Fi_part f s g i x
      · rw [if_pos c, if_pos (hp.mp c)]
        have dx : (Fi_draw x) 168 12 = x 168 12 * 1103515245 + nI 12345 := up_same _ _ _ _
        have ux : (Mo_draw (Mo_q0 i u)) 185 34 = u 185 34 * 1103515245 + nI 12345 := by
          unfold Mo_draw
          rw [up_same]
          unfold Mo_q0
          rw [up_neP (by decide)]
        have dq : (Fi_draw x) 168 12 = (Mo_draw (Mo_q0 i u)) 185 34 := by rw [dx, ux, r3]
        have dv : Fi_dv (Fi_draw x) = Mo_dv (Mo_draw (Mo_q0 i u)) := by
          unfold Fi_dv Mo_dv
          rw [dq]
        have dxo : ∀ p j, ¬ (p = 168 ∧ j = 12) → (Fi_draw x) p j = x p j := fun p j hp => up_ne hp
        have uxo : ∀ p j, ¬ (p = 185 ∧ j = 34) → ¬ (p = 213 ∧ j = i) → (Mo_draw (Mo_q0 i u)) p j = u p j := fun p j hp hq => (up_ne hp).trans (up_ne hq)
        unfold Mo_dr
        generalize Fi_draw x = x1 at dq dv dxo ⊢
        generalize Mo_draw (Mo_q0 i u) = u1 at dq dv uxo ⊢
        refine ⟨fun p j p1 p2 => ?_, fun p j p1 p2 => ?_, ?_, fun l hl => ?_⟩
        · rw [up_neP p1, dxo p j p2]; exact r1 p j p1 p2
        · rw [up_neP p1, uxo p j p2 (fun z => p1 z.1)]; exact r2 p j p1 p2
        · rw [up_neP (by decide), up_neP (by decide)]; exact dq
        · by_cases e : l = i
          · rw [e, up_same, up_same]; exact dv
          · rw [up_neK e, up_neK e, dxo _ _ (by omega), uxo _ _ (by omega) (by omega)]; exact r4 l (by omega)
      · rw [if_neg c, if_neg (fun z => c (hp.mpr z))]
        unfold Mo_q0
        refine ⟨fun p j p1 p2 => (up_neP p1).trans (r1 p j p1 p2), fun p j p1 p2 => (up_neP p1).trans (r2 p j p1 p2), ?_, fun l hl => ?_⟩
        · rw [up_neP (by decide), up_neP (by decide)]; exact r3
        · by_cases e : l = i
          · rw [e, up_same, up_same]
          · rw [up_neK e, up_neK e]; exact r4 l (by omega)
  exact key 6 (Nat.le_refl _)
theorem asks_pair {f n : Nat} {x u : mx_Mm} (hf4 : f < 4) (hn : n ≤ 16) (en : x 171 f = nI n) (hf : S_f1 f x u) (hw : ∀ l, l < 6 → x 184 l = u 213 l) (hc : S_cnt x u) :
    let A := mx_lp 8 (fun w => mx_lp 6 (Fi_a1 f w)) (nI 0, nI 0, x)
    let B := mx_lp 8 (fun w => mx_lp 6 (Mo_ask f w)) (nI 0, nI 0, u)
    A.1 = B.1 ∧ A.2.1 = B.2.1 ∧ S_cnt A.2.2 B.2.2 ∧ (∀ p j, p ≠ 4 → A.2.2 p j = x p j) ∧ (∀ p j, p ≠ 201 → B.2.2 p j = u p j) ∧ ∀ k, n ≤ k → k < 16 → ¬ hold A.1 k := by
  have h0 : ∀ k, k < 16 → ¬ hold (nI 0) k := by decide
  have := lp_rel (f := fun w => mx_lp 6 (Fi_a1 f w)) (g := fun w => mx_lp 6 (Mo_ask f w)) (fun (A B : Int32 × Int32 × mx_Mm) => A.1 = B.1 ∧ A.2.1 = B.2.1 ∧ S_cnt A.2.2 B.2.2 ∧ (∀ p j, p ≠ 4 → A.2.2 p j = x p j) ∧ (∀ p j, p ≠ 201 → B.2.2 p j = u p j) ∧ ∀ k, n ≤ k → k < 16 → ¬ hold A.1 k) 8 (a := (nI 0, nI 0, x)) (b := (nI 0, nI 0, u)) ⟨rfl, rfl, hc, fun _ _ _ => rfl, fun _ _ _ => rfl, fun k _ k2 => h0 k k2⟩ (fun w A B hw8 hR => by
    refine lp_rel (f := Fi_a1 f w) (g := Mo_ask f w) (fun (A B : Int32 × Int32 × mx_Mm) => A.1 = B.1 ∧ A.2.1 = B.2.1 ∧ S_cnt A.2.2 B.2.2 ∧ (∀ p j, p ≠ 4 → A.2.2 p j = x p j) ∧ (∀ p j, p ≠ 201 → B.2.2 p j = u p j) ∧ ∀ k, n ≤ k → k < 16 → ¬ hold A.1 k) 6 hR (fun l A B hl hR => ?_)
    obtain ⟨a1, a2, y⟩ := A
    obtain ⟨b1, b2, v⟩ := B
    obtain ⟨r1, r2, r3, r4, r5, r6⟩ := hR
    have r1' : a1 = b1 := r1
    have r2' : a2 = b2 := r2
    have r3' : S_cnt y v := r3
    have r4' : ∀ p j, p ≠ 4 → y p j = x p j := r4
    have r5' : ∀ p j, p ≠ 201 → v p j = u p j := r5
    have r6' : ∀ k, n ≤ k → k < 16 → ¬ hold a1 k := r6
    have hfy : S_f1 f y v := hf.fr (fun p j p1 _ _ _ _ => r4' p j (by omega)) (fun p j p1 _ _ _ => r5' p j (by omega)) hf4
    have hm := mis_eq hl hfy
    have hm8 : Fi_mis f l (Tr_cnt 8 y) = Fi_mis f l y := by
      unfold Fi_mis
      rw [Tr_cnt_ne (by omega), Tr_cnt_ne (by omega)]
    have e184 : y 184 l = v 213 l := by rw [r4' _ _ (by omega), r5' _ _ (by omega)]; exact hw l hl
    have hcn : ∀ k, S_cnt (Tr_cnt k y) (Mo_cnt k v) := fun k j hj => by rw [Tr_cnt_4, Mo_cnt_201, r3' j hj]
    have f4 : ∀ k p j, p ≠ 4 → (Tr_cnt k y) p j = x p j := fun k p j hp => (Tr_cnt_ne hp).trans (r4' p j hp)
    have f5 : ∀ k p j, p ≠ 201 → (Mo_cnt k v) p j = u p j := fun k p j hp => (Mo_cnt_ne hp).trans (r5' p j hp)
    have eA : Fi_a1 f w l (a1, a2, y) = if y 184 l = nI w then (if Fi_mis f l y &&& (a1 ^^^ (-1)) = 0 then (a1, a2, Tr_cnt 9 y) else (a1 ||| Fi_mis f l (Tr_cnt 8 y), a2 + 1, Tr_cnt 8 y)) else (a1, a2, y) := rfl
    have eB : Mo_ask f w l (b1, b2, v) = if v 213 l = nI w then (if Mo_mis f l v &&& (b1 ^^^ (-1)) = 0 then (b1, b2, Mo_cnt 9 v) else (b1 ||| Mo_mis f l v, b2 + nI 1, Mo_cnt 8 v)) else (b1, b2, v) := rfl
    rw [eA, eB, hm8, ← hm, ← e184, ← r1', ← r2']
    by_cases c : y 184 l = nI w
    · rw [if_pos c, if_pos c]
      by_cases d : Fi_mis f l y &&& (a1 ^^^ (-1)) = 0
      · rw [if_pos d, if_pos d]
        exact ⟨rfl, rfl, hcn 9, f4 9, f5 9, r6'⟩
      · rw [if_neg d, if_neg d]
        refine ⟨rfl, rfl, hcn 8, f4 8, f5 8, fun k k1 k2 z => ?_⟩
        rcases hold_or z with z | z
        · exact r6' k k1 k2 z
        · exact mis_b hl hn ((r4' _ _ (by omega)).trans en) hfy k k1 k2 z
    · rw [if_neg c, if_neg c]
      exact ⟨rfl, rfl, r3', r4', r5', r6'⟩)
  exact this
theorem req_core {r t f s g n : Nat} {a b : mx_Mm} (hf : f < 4) (hs : s < 6) (hg : g < 3) (hn : n ≤ 16) (en : a 171 f = nI n) (h : Core r t a b) (hfi : S_fil a b) :
    Core r t (Fi_end f (Fi_asks f s g a)) (Mo_end f (Mo_asks f s g b)) ∧ S_fil (Fi_end f (Fi_asks f s g a)) (Mo_end f (Mo_asks f s g b)) ∧ (Fi_asks f s g a).2.1 = (Mo_asks f s g b).2.1 ∧ (∀ p j, p ≠ 4 → p ≠ 173 → p ≠ 184 → ¬ (p = 168 ∧ j = 12) → (Fi_end f (Fi_asks f s g a)) p j = a p j) ∧ ∀ p j, p ≠ 201 → p ≠ 210 → p ≠ 213 → ¬ (p = 185 ∧ j = 34) → (Mo_end f (Mo_asks f s g b)) p j = b p j := by
  obtain ⟨w1, w2, w3, w4⟩ := waits_pair hf hs hg h (hfi.2 f hf) hfi.1.2
  unfold Fi_asks Mo_asks
  generalize Fi_waits f s g a = x at w1 w3 w4 ⊢
  generalize mx_lp 6 (Mo_w5 f s g) b = u at w2 w3 w4 ⊢
  have hcx : Core r t x u := h.fr (fun p j p1 => w1 p j (by omega) (by omega)) (fun p j _ p1 p2 => w2 p j (by omega) (by omega))
  have hfx : ∀ f', f' < 4 → S_f1 f' x u := fun f' hf' => (hfi.2 f' hf').fr (fun p j p1 p2 _ _ _ => w1 p j (by omega) (by omega)) (fun p j p1 p2 _ _ => w2 p j (by omega) (by omega)) hf'
  have ex : x 171 f = nI n := (w1 _ _ (by omega) (by omega)).trans en
  obtain ⟨k1, k2, k3, k4, k5, k6⟩ := asks_pair hf hn ex (hfx f hf) w4 hcx.2.2.2.2.2.2.2.2.2.2.1
  generalize mx_lp 8 (fun w => mx_lp 6 (Fi_a1 f w)) (nI 0, nI 0, x) = A at k1 k2 k3 k4 k6 ⊢
  generalize mx_lp 8 (fun w => mx_lp 6 (Mo_ask f w)) (nI 0, nI 0, u) = B at k1 k2 k3 k5 ⊢
  unfold Fi_end Mo_end
  have fa : ∀ p j, p ≠ 4 → ¬ (p = 173 ∧ j = f) → (mx_up A.2.2 173 f (A.2.2 173 f ||| A.1)) p j = x p j := fun p j p1 p2 => (up_ne p2).trans (k4 p j p1)
  have fb : ∀ p j, p ≠ 201 → ¬ (p = 210 ∧ j = f) → (mx_up B.2.2 210 f (B.2.2 210 f ||| B.1)) p j = u p j := fun p j p1 p2 => (up_ne p2).trans (k5 p j p1)
  have va : (mx_up A.2.2 173 f (A.2.2 173 f ||| A.1)) 173 f = x 173 f ||| A.1 := by rw [up_same, k4 _ _ (by decide)]
  have vb : (mx_up B.2.2 210 f (B.2.2 210 f ||| B.1)) 210 f = u 210 f ||| B.1 := by rw [up_same, k5 _ _ (by decide)]
  have hcn : S_cnt (mx_up A.2.2 173 f (A.2.2 173 f ||| A.1)) (mx_up B.2.2 210 f (B.2.2 210 f ||| B.1)) := k3.fr (fun j => up_neP (by decide)) (fun j => up_neP (by decide))
  refine ⟨hcx.frc (fun p j p1 p2 => fa p j p2 (by omega)) (fun p j _ p1 p2 p3 => fb p j p2 (by omega)) hcn, ⟨?_, fun f' hf' => ?_⟩, k2, fun p j p1 p2 p3 p4 => (fa p j p1 (by omega)).trans (w1 p j p3 p4), fun p j p1 p2 p3 p4 => (fb p j p1 (by omega)).trans (w2 p j p3 p4)⟩
  · rw [fa 168 11 (by omega) (by omega), fa 168 12 (by omega) (by omega), fb 185 26 (by omega) (by omega), fb 185 34 (by omega) (by omega), w1 168 11 (by omega) (by omega), w2 185 26 (by omega) (by omega)]
    exact ⟨hfi.1.1, w3⟩
  · by_cases e : f' = f
    · subst e
      obtain ⟨⟨h1, h2, h3, h4, h5⟩, h6, n0, j, q1, q2, q3, q4, q5, q6⟩ := hfx f' hf'
      have e0 : n0 = n := (nI_eq (by omega) (by omega)).mp (q2.symm.trans ex)
      subst e0
      refine ⟨⟨?_, ?_, ?_, ?_, ?_⟩, fun l hl => ?_, n0, j, q1, ?_, q3, ?_, fun k kk1 kk2 z => ?_, fun l hl => ?_⟩
      · rw [fa _ _ (by omega) (by omega), fb _ _ (by omega) (by omega)]; exact h1
      · rw [fa _ _ (by omega) (by omega), fb _ _ (by omega) (by omega)]; exact h2
      · rw [fa _ _ (by omega) (by omega), fb _ _ (by omega) (by omega)]; exact h3
      · rw [fa _ _ (by omega) (by omega), fb _ _ (by omega) (by omega)]; exact h4
      · rw [va, vb, h5, k1]
      · rw [fa _ _ (by omega) (by omega), fa _ _ (by omega) (by omega), fb _ _ (by omega) (by omega), fb _ _ (by omega) (by omega)]; exact h6 l hl
      · rw [fa _ _ (by omega) (by omega)]; exact q2
      · rw [fa _ _ (by omega) (by omega)]; exact q4
      · rw [va] at z
        rcases hold_or z with z | z
        · exact q5 k kk1 kk2 z
        · exact k6 k kk1 kk2 z
      · rw [fa _ _ (by omega) (by omega)]; exact q6 l hl
    · exact (hfx f' hf').fr (fun p j p1 p2 p3 _ _ => fa p j (by omega) (by omega)) (fun p j p1 p2 p3 _ => fb p j (by omega) (by omega)) hf'
