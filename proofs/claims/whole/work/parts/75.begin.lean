/-! the world at the law's entry -/
theorem lw_kn {s : State} {args : Array Value} (hts : ∀ w ∈ mx_WS, w.before args s = true) : ∃ D : va_G, ∀ (c : Nat) (q : vw_C), vwCl[c]? = some q → u_Kn s q.1 q.2.1 q.2.2 (D.1 c) (D.2 c) := by
  have one : ∀ {M : mx_M} {ix ci : Nat} {C : String} {T : u_T} {N : Nat} {ty : Nat → FieldType}, mx_sN M ix ci C T N ty → ∃ z : ClassId × (Nat → Nat), u_Kn s C T N z.1 z.2 := fun h => by
    obtain ⟨-, h2, -, -, -, h6, -⟩ := h
    obtain ⟨cC, iS, hk⟩ := u_known hts h2 (hts _ h6)
    exact ⟨(cC, iS), hk⟩
  have key : ∀ c, ∃ z : ClassId × (Nat → Nat), ∀ (q : vw_C), vwCl[c]? = some q → u_Kn s q.1 q.2.1 q.2.2 z.1 z.2 := fun c => by
    match c with
    | 0 => obtain ⟨z, hz⟩ := one sn_MT_init_13; exact ⟨z, fun q e => by cases (Option.some.inj e); exact hz⟩
    | 1 => obtain ⟨z, hz⟩ := one sn_MT_init_68; exact ⟨z, fun q e => by cases (Option.some.inj e); exact hz⟩
    | 2 => obtain ⟨z, hz⟩ := one sn_MT_init_34; exact ⟨z, fun q e => by cases (Option.some.inj e); exact hz⟩
    | 3 => obtain ⟨z, hz⟩ := one sn_MT_init_27; exact ⟨z, fun q e => by cases (Option.some.inj e); exact hz⟩
    | 4 => obtain ⟨z, hz⟩ := one sn_MT_init_59; exact ⟨z, fun q e => by cases (Option.some.inj e); exact hz⟩
    | 5 => obtain ⟨z, hz⟩ := one sn_MT_init_43; exact ⟨z, fun q e => by cases (Option.some.inj e); exact hz⟩
    | 6 => obtain ⟨z, hz⟩ := one sn_MT_init_20; exact ⟨z, fun q e => by cases (Option.some.inj e); exact hz⟩
    | 7 => obtain ⟨z, hz⟩ := one sn_MT_init_50; exact ⟨z, fun q e => by cases (Option.some.inj e); exact hz⟩
    | 8 => obtain ⟨z, hz⟩ := one sn_Lw_law_7; exact ⟨z, fun q e => by cases (Option.some.inj e); exact hz⟩
    | 9 => obtain ⟨z, hz⟩ := one sn_Lw_law_18; exact ⟨z, fun q e => by cases (Option.some.inj e); exact hz⟩
    | n + 10 => exact ⟨(0, fun _ => 0), fun q e => by
        rw [List.getElem?_eq_none (show vwCl.length ≤ n + 10 from Nat.le_add_left 10 n)] at e
        cases e⟩
  exact ⟨(fun c => (Classical.choose (key c)).1, fun c => (Classical.choose (key c)).2), fun c q e => Classical.choose_spec (key c) q e⟩
theorem lw_ao : Cond.arrayOver (.array .int) ∈ lw_tbl := by decide +kernel
def lw_cls (a b c d : ClassId) (k : Nat) : ClassId := match k with
  | 0 => a
  | 1 => b
  | 2 => c
  | _ => d
def lw_ad (b h : Nat) (p : Nat) : Nat := if p = 0 then b else h + (p - 1)
set_option maxHeartbeats 1000000 in
/-- YOUR PART: from the entry, for every script of at most 2561 ints, the law comes to its end with true -/
theorem whole_start {p : Program} {e : Env} {s : State} {m : MethodId} {below : List Frame} {meth : Method} {c : Code} (l : Launch) {b L : Nat} {xs : Nat → Int32} (hL : L ≤ 2561) (C0 : lw_At p s m meth c b L xs) : W p l e room_1 s m #[Value.ref b] below meth c s.heap [] 0 0 (lw_Z below #[Value.ref b] s) (entryFrame m ([Value.ref b] : List Value).toArray 4) := by
  obtain ⟨hx, hb, hrt, hml, hown, hts, ⟨scr, x1, x2, x3, x4, x5⟩, hbl, hlk, -, hnm⟩ := C0
  have hW : ∀ w ∈ mx_WS, w.before #[Value.ref b] s = true := fun w hw => hts w (List.mem_filter.mp hw).1
  obtain ⟨D, hD⟩ := lw_kn hW
  obtain ⟨cI, kI, coI, i1, i2, i3⟩ := Cond.arrayClass_spec (hW _ w_ac_int)
  obtain ⟨cB, kB, coB, j1, j2, j3⟩ := Cond.arrayClass_spec (hW _ w_ac_boolean)
  have hAO : mx_AO s := hts _ lw_ao
  obtain ⟨coA, cA, kA, a1, a2, a3, a4, a5⟩ := arrayOverA_spec hAO
  obtain ⟨x2a, kS, hkS, coS, hkS2⟩ := x2
  generalize hΓ : ((lw_ad b s.heap.size, D, lw_cls cI cB cA scr.cls, L) : mx_X) = Γ
  have g1 : Γ.1 = lw_ad b s.heap.size := by rw [← hΓ]
  have g2 : Γ.2.1 = D := by rw [← hΓ]
  have g3 : Γ.2.2.1 = lw_cls cI cB cA scr.cls := by rw [← hΓ]
  have g4 : Γ.2.2.2 = L := by rw [← hΓ]
  have ad0 : Γ.1 0 = b := by rw [g1]; rfl
  have ad1 : ∀ j, Γ.1 (1 + j) = s.heap.size + j := fun j => by
    rw [g1]
    show (if 1 + j = 0 then b else s.heap.size + (1 + j - 1)) = _
    rw [if_neg (by omega), show 1 + j - 1 = j by omega]
  have hKK : mx_KK Γ s := by
    unfold mx_KK
    rw [g2, g3]
    refine ⟨⟨hD, fun k q e => ?_⟩, fun a i y h hm => va_Nw.of rfl (hts _ hm), hAO, kS, coS, hkS, hkS2⟩
    match k with
    | 0 => cases (Option.some.inj e); exact ⟨fun n z => ⟨fun k h => (by cases h), kI, i2, coI, i3⟩, i1⟩
    | 1 => cases (Option.some.inj e); exact ⟨fun n z => ⟨fun k h => (by cases h), kB, j2, coB, j3⟩, j1⟩
    | 2 => cases (Option.some.inj e); exact ⟨fun n z => ⟨fun k h => (by cases h), kA, a3, coA, a4⟩, a5⟩
    | n + 3 => cases e
  have hC : mx_Ctx Γ (p, l, e, room_1, s, m, #[Value.ref b], below, meth, c) M_Lw_law := ⟨hx, hb, hml, hown, hW, hKK, hlk, rfl, hrt, hnm⟩
  have hS0 : mx_SH 0 = (3, 0) := rfl
  have hRep : mx_Rep Γ (1, fun _ _ => true, fun q j => if q = 0 then xs j else 0) s.heap := by
    refine ⟨Nat.le_refl _, by rw [ad0, show (1 : Nat) = 1 + 0 from rfl, ad1]; exact hbl, fun j => by rw [ad1, show Γ.1 1 = s.heap.size from ad1 0], (ad1 0).symm, fun q hq => ?_⟩
    have hq0 : q = 0 := by
      have : q < 1 := hq
      omega
    subst hq0
    refine ⟨fun n h => absurd (mx_shq hS0 h).1 (by decide), fun n h => absurd (mx_shq hS0 h).1 (by decide), fun n h => absurd (mx_shq hS0 h).1 (by decide), fun n h => ⟨scr, by rw [ad0]; exact x1, by rw [g3]; rfl, x2a, x3, by rw [g4]; exact x4, fun j hj => ?_⟩, fun t n h => absurd (mx_shq hS0 h).1 (by omega)⟩
    rw [g4] at hj
    exact x5 j hj
  have hl := lv_entry ([Value.ref b] : List Value) (n := 4) (Nat.le_of_ble_eq_true rfl)
  rw [lg_entry_eq]
  have hE : ∀ i w, mx_G Γ (p, l, e, room_1, s, m, #[Value.ref b], below, meth, c) M_Lw_law (lw_Z below #[Value.ref b] s) 758 [(3, .int (nI i)), (2, .ref 185), (1, .ref 1), (0, .ref 0)] [] (214, fun _ _ => true, w) 213 2186 := fun i w => x_iconst (q := 759) (v := nI 1) hC d_Lw_law_758 (by decide) rfl (x_lend hC (ad1 0) (by decide) (by decide))
  have hG := lw_all (m0 := fun q j => if q = 0 then xs j else 0) hC (fun _ _ _ => rfl) (fun _ => rfl) (by rw [g4]; exact hL) hE (fun q j hq => if_neg (by omega))
  refine hG s.heap [] _ hRep (fun q hq => by cases hq) ?_
  show lv_has _ 4 [(0, .ref (Γ.1 0))]
  rw [ad0]
  exact hl
