/-! the law: what its walk needs -/
theorem Sim.tr {r t : Nat} {a b : mx_Mm} (h : Sim r t a b) : Tr_ok r a := h.1.2.2.2.2.2.2.2.2.2.2.2.2.1
theorem Sim.mo {r t : Nat} {a b : mx_Mm} (h : Sim r t a b) : Mo_ok r b := h.1.2.2.2.2.2.2.2.2.2.2.2.2.2
theorem Sim.pa {r t : Nat} {a b : mx_Mm} (h : Sim r t a b) : Pa_ok r a := h.2.2.2.2.1
theorem Sim.fl {r t : Nat} {a b : mx_Mm} (h : Sim r t a b) : Fl_ok a := h.2.2.2.2.2.1
theorem Sim.ml {r t : Nat} {a b : mx_Mm} (h : Sim r t a b) : Ml_ok b := h.2.2.2.2.2.2
theorem Sim.mid {r t : Nat} {m m1 : mx_Mm} (h : Sim r t m m) (hF : ∀ p j, p = 0 ∨ 185 ≤ p → m1 p j = m p j) : Sim r t m m1 := h.two (fun _ _ _ => rfl) (fun p j hp => hF p j (Or.inr hp))
theorem x_tabO {Γ : mx_X} {κ : mx_K} {M : mx_M} {Q : State → Prop} {pc : Nat} {L : List (Nat × Value)} {S : List Value} {σ : mx_S} {cells slots : Nat} (hC : mx_Ctx Γ κ M) {dflt lo hi : Int} {offs : Array Int} {len : Nat} {x : Int32} {tgt : Nat} (hdg : decode M.2.1 pc = .ok (.tableswitch dflt lo hi offs, len)) (h : x.toInt < lo ∨ hi < x.toInt) (ht : (pc : Int) + dflt = (tgt : Int)) (k : mx_G Γ κ M Q tgt L S σ cells slots) : mx_G Γ κ M Q pc L (.int x :: S) σ cells slots := by
  intro H locs ls hR ho hl
  exact lv_tableOut hC.1 hC.2.1 hdg h ht (k H locs ls hR ho hl)
theorem x_tabI {Γ : mx_X} {κ : mx_K} {M : mx_M} {Q : State → Prop} {pc : Nat} {L : List (Nat × Value)} {S : List Value} {σ : mx_S} {cells slots : Nat} (hC : mx_Ctx Γ κ M) {dflt lo hi : Int} {offs : Array Int} {len : Nat} {x : Int32} {off : Int} {tgt : Nat} (hdg : decode M.2.1 pc = .ok (.tableswitch dflt lo hi offs, len)) (h1 : ¬ x.toInt < lo) (h2 : ¬ hi < x.toInt) (ho : offs[(x.toInt - lo).toNat]? = some off) (ht : (pc : Int) + off = (tgt : Int)) (k : mx_G Γ κ M Q tgt L S σ cells slots) : mx_G Γ κ M Q pc L (.int x :: S) σ cells slots := by
  intro H locs ls hR ho2 hl
  exact lv_tableIn hC.1 hC.2.1 hdg h1 h2 ho ht (k H locs ls hR ho2 hl)
/-- the law's end -/
theorem x_lend {p : Program} {l : Launch} {e : Env} {s : State} {m : MethodId} {b : Nat} {below : List Frame} {meth : Method} {c : Code} {Γ : mx_X} (hC : mx_Ctx Γ (p, l, e, room_1, s, m, #[Value.ref b], below, meth, c) M_Lw_law) (hb : Γ.1 1 = s.heap.size) {L : List (Nat × Value)} {σ : mx_S} {cells slots : Nat} (h1 : cells ≤ 600000) (h2 : slots ≤ 7302250) : mx_G Γ (p, l, e, room_1, s, m, #[Value.ref b], below, meth, c) M_Lw_law (lw_Z below #[Value.ref b] s) 759 L [.int (nI 1)] σ cells slots := by
  intro H locs ls hR ho hl
  refine va_forget (fun q hq => by rw [← hb]; exact ho q hq) ?_
  refine W.widen (k := 600000) (n := 7302250) h1 h2 ?_
  exact lw_ret hC.1 hC.2.1 hC.2.2.2.2.2.2.2.2.1 hC.2.2.2.2.2.2.1 d_Lw_law_759
/-- the test of the law's loop -/
theorem lt5 {i L : Nat} (hL : L ≤ 2561) (hi : i < 2 ^ 30) : (nI L - nI 5 < nI i) ↔ L < i + 5 := by
  have e1 := nI_toInt (n := L) (by omega)
  have e2 := nI_toInt (n := i) (by omega)
  have e5 : (nI 5).toInt = 5 := by decide
  have e3 : (nI L - nI 5).toInt = (L : Int) - 5 := by
    rw [Int32.toInt_sub, e1, e5]
    apply Int.bmod_eq_of_le <;> omega
  rw [Int32.lt_iff_toInt_lt, e2, e3]
  omega
