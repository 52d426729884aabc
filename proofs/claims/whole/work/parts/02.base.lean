/-! The abstract walk: places for addresses, one memory of ints, a fixed table of shapes (mx_SH), of references (mx_MR) and of kinds of fields (mx_isI). -/
/-- the state: number of cells; which reference fields are set; the ints -/
abbrev mx_S : Type := Nat × (Nat → Nat → Bool) × (Nat → Nat → Int32)
/-- address of a place; numbers of the cell kinds; array kinds; length of the script -/
abbrev mx_X : Type := (Nat → Nat) × va_G × (Nat → ClassId) × Nat
abbrev mx_K : Type := Program × Launch × Env × Room × State × MethodId × Array Value × List Frame × Method × Code
abbrev mx_M : Type := MethodName × ByteArray × Nat × Option FieldType × Room
abbrev mx_p (κ : mx_K) : Program := κ.1
abbrev mx_l (κ : mx_K) : Launch := κ.2.1
abbrev mx_e (κ : mx_K) : Env := κ.2.2.1
abbrev mx_R (κ : mx_K) : Room := κ.2.2.2.1
abbrev mx_s (κ : mx_K) : State := κ.2.2.2.2.1
abbrev mx_m (κ : mx_K) : MethodId := κ.2.2.2.2.2.1
abbrev mx_a (κ : mx_K) : Array Value := κ.2.2.2.2.2.2.1
abbrev mx_b (κ : mx_K) : List Frame := κ.2.2.2.2.2.2.2.1
abbrev mx_h (κ : mx_K) : Method := κ.2.2.2.2.2.2.2.2.1
abbrev mx_c (κ : mx_K) : Code := κ.2.2.2.2.2.2.2.2.2
def mx_v (ad : Nat → Nat) (v : Value) : Value := match v with
  | .ref k => .ref (ad k)
  | x => x
theorem mx_v_cat (ad : Nat → Nat) (v : Value) : (mx_v ad v).category = v.category := by cases v <;> rfl
def mx_up (f : Nat → Nat → Int32) (p k : Nat) (x : Int32) : Nat → Nat → Int32 := fun q j => if q = p ∧ j = k then x else f q j
def mx_ub (u : Nat → Nat → Bool) (p k : Nat) : Nat → Nat → Bool := fun q j => if q = p ∧ j = k then true else u q j
def mx_zr (f : Nat → Nat → Int32) (p : Nat) : Nat → Nat → Int32 := fun q j => if q = p then 0 else f q j
def mx_zu (u : Nat → Nat → Bool) (p ci : Nat) : Nat → Nat → Bool := fun q j => if q = p then mx_isI ci j else u q j
def mx_zs (f : Nat → Nat → Int32) (p n : Nat) : Nat → Nat → Int32 := fun q j => if p ≤ q ∧ q < p + n then 0 else f q j
def mx_L (ad : Nat → Nat) (L : List (Nat × Value)) : List (Nat × Value) := L.map (fun q => (q.1, mx_v ad q.2))
def mx_lk : List (Nat × Value) → Nat → Option Value
  | [], _ => none
  | (j, x) :: L, i => bif Nat.beq j i then some x else mx_lk L i
theorem mx_lk_mem : ∀ {L : List (Nat × Value)} {i : Nat} {x : Value}, mx_lk L i = some x → (i, x) ∈ L
  | [], i, x, h => by cases h
  | (j, y) :: L, i, x, h => by
    unfold mx_lk at h
    cases hb : Nat.beq j i with
    | true =>
      rw [hb] at h
      have e : y = x := Option.some.inj h
      have e2 : j = i := Nat.eq_of_beq_eq_true hb
      rw [e, e2]
      exact List.mem_cons_self
    | false =>
      rw [hb] at h
      exact List.mem_cons_of_mem _ (mx_lk_mem h)
theorem mx_lget {ad : Nat → Nat} {ls : Array Slot} {n : Nat} {L : List (Nat × Value)} (h : lv_has ls n (mx_L ad L)) {i : Nat} {x : Value} (hx : mx_lk L i = some x) : ls[i]? = some (.val (mx_v ad x)) :=
  h.2.2 (i, mx_v ad x) (List.mem_map.mpr ⟨(i, x), mx_lk_mem hx, rfl⟩)
def mx_st (L : List (Nat × Value)) (i : Nat) (x : Value) : List (Nat × Value) := (i, x) :: L.filter (fun q => !(q.1 == i) && !(q.1 + 1 == i && q.2.category == 2))
theorem mx_L_filter (ad : Nat → Nat) (i : Nat) : ∀ L : List (Nat × Value), (mx_L ad L).filter (fun q => !(q.1 == i) && !(q.1 + 1 == i && q.2.category == 2)) = mx_L ad (L.filter (fun q => !(q.1 == i) && !(q.1 + 1 == i && q.2.category == 2)))
  | [] => rfl
  | q :: L => by
    have ih := mx_L_filter ad i L
    show List.filter _ ((q.1, mx_v ad q.2) :: mx_L ad L) = _
    rw [List.filter_cons, List.filter_cons]
    have e : (mx_v ad q.2).category = q.2.category := mx_v_cat ad q.2
    dsimp only
    rw [e, ih]
    split <;> rfl
theorem mx_L_st (ad : Nat → Nat) (L : List (Nat × Value)) (i : Nat) (x : Value) : (i, mx_v ad x) :: (mx_L ad L).filter (fun q => !(q.1 == i) && !(q.1 + 1 == i && q.2.category == 2)) = mx_L ad (mx_st L i x) := by
  rw [mx_L_filter]
  rfl
/-- the good words of the tables, one list for all methods -/
def mx_WS : List Cond := lw_tbl.filter goodWord
theorem mx_w {x : Cond} (h : x ∈ lw_tbl) (hg : goodWord x = true) : x ∈ mx_WS := List.mem_filter.mpr ⟨h, hg⟩
theorem mx_goodIn {y : MethodName} {cc : ByteArray} {n : Nat} {r : Option FieldType} (h : Cond.code y cc n r ∈ mx_WS) : GoodIn mx_WS (.code y cc n r :: mx_WS) := by
  intro x hx
  have hm : x ∈ mx_WS := by
    rcases List.mem_cons.mp hx with e | e
    · rw [e]; exact h
    · exact e
  exact ⟨hm, good_of_word (List.mem_filter.mp hm).2⟩
def mx_AO (U : State) : Prop := (Cond.arrayOver (.array .int)).before #[] U = true
theorem mx_AO.moved {u U : State} (hvm : u.vm.Alike U.vm) (h : mx_AO u) : mx_AO U := by
  obtain ⟨comp, c, k, h1, h2, h3, h4, h5⟩ := arrayOverA_spec h
  obtain ⟨k', hk', he⟩ := hvm.2.2 _ _ h3
  have hi : (U.vm.classes.findIdx? fun (y : Class) => match y.kind with | .array component _ => component == comp | _ => false) = some c := by
    rw [hvm.findIdx?_eq _ (fun _ => rfl)]
    exact h2
  have hkind : k'.kind = .array comp (.array .int) := by rw [he]; exact h4
  have f1 : U.vm.findClass (FieldType.array .int).toString = some comp := by rw [hvm.findClass]; exact h1
  have f2 : U.vm.findClass ("[" ++ (FieldType.array .int).toString) = some c := by rw [hvm.findClass]; exact h5
  unfold mx_AO Cond.before Cond.holds
  simp only [Cond.value]
  rw [f1, Option.bind_some]
  refine (congrArg (fun o : Option Nat => (o.bind (fun c => (U.vm.classes[c]?).map fun (k : Class) => match k.kind with | .array _ ty => decide (ty = FieldType.array .int) && decide (U.vm.findClass ("[" ++ (FieldType.array .int).toString) = some c) | _ => false) == some true)) hi).trans ?_
  simp [hk', hkind, f2]
/-- the outer array of a grid -/
theorem mx_outer (c : ClassId) (N h0 : Nat) : ∀ i : Nat, Jvm.Free.Multi.outerC c N h0 i = arrV c N (fun j => if j < i then .ref (h0 + 1 + j) else .null)
  | 0 => by
    show ({ cls := c, slots := Array.replicate N .null, vm := .none } : Cell) = _
    rw [arrV_new]
    refine congrArg (arrV c N) (funext fun j => ?_)
    simp
  | i + 1 => by
    show (Jvm.Free.Multi.outerC c N h0 i).setSlot i (.ref (h0 + 1 + i)) = _
    rw [mx_outer c N h0 i, arrV_store]
    refine congrArg (arrV c N) (funext fun j => ?_)
    by_cases e : j = i
    · subst e
      simp [updV]
    · by_cases h : j < i
      · simp [updV, e, h, Nat.lt_succ_of_lt h]
      · simp [updV, e, h, show ¬ j < i + 1 by omega]
/-- what the tables say, at any state of the run -/
def mx_KK (Γ : mx_X) (s : State) : Prop :=
  va_K Γ.2.1 vwCl [(Γ.2.2.1 0, .int), (Γ.2.2.1 1, .boolean), (Γ.2.2.1 2, .array .int)] s ∧
  (∀ (a : String) (i : Nat) (y : MethodName) (h : String), Cond.methodLinkNest a i y h ∈ lw_tbl → va_Nw (.methodLinkNest a i y h) s) ∧
  mx_AO s ∧ ∃ (k : Class) (comp : ClassId), s.vm.classes[Γ.2.2.1 3]? = some k ∧ k.kind = .array comp .int
theorem mx_KK.warm {Γ : mx_X} {s U : State} (hW : s.WarmedH U.vm) (h : mx_KK Γ s) : mx_KK Γ U := by
  obtain ⟨h1, h2, h3, k, comp, h4, h5⟩ := h
  obtain ⟨k', hk', he⟩ := hW.alike.2.2 _ _ h4
  exact ⟨va_K.moved hW.alike h1, fun a i y q hm => va_Nw.warmM hW (h2 a i y q hm), mx_AO.moved hW.alike h3, k', comp, hk', by rw [he]; exact h5⟩
theorem mx_KK.same {Γ : mx_X} {s U : State} (hv : s.vm = U.vm) (h : mx_KK Γ s) : mx_KK Γ U := by
  obtain ⟨h1, h2, h3, k, comp, h4, h5⟩ := h
  have hal : s.vm.Alike U.vm := by rw [hv]; exact Vm.Alike.refl _
  exact ⟨va_K.moved hal h1, fun a i y q hm => va_Nw.same rfl hv (h2 a i y q hm), mx_AO.moved hal h3, k, comp, by rw [← hv]; exact h4, h5⟩
theorem mx_shq {p a n b m : Nat} (h1 : mx_SH p = (a, n)) (h2 : mx_SH p = (b, m)) : a = b ∧ n = m := by
  have e := h1.symm.trans h2
  exact ⟨congrArg Prod.fst e, congrArg Prod.snd e⟩
/-- what a cell is -/
def mx_cell (Γ : mx_X) (σ : mx_S) (p : Nat) (H : Heap) : Prop :=
  (∀ n, mx_SH p = (0, n) → H[Γ.1 p]? = some (arrV (Γ.2.2.1 0) n (fun j => .int (σ.2.2 p j)))) ∧
  (∀ n, mx_SH p = (1, n) → H[Γ.1 p]? = some (arrV (Γ.2.2.1 1) n (fun j => .int (σ.2.2 p j)))) ∧
  (∀ n, mx_SH p = (2, n) → H[Γ.1 p]? = some (arrV (Γ.2.2.1 2) n (fun j => .ref (Γ.1 (mx_MR p j))))) ∧
  (∀ n, mx_SH p = (3, n) → ∃ scr : Cell, H[Γ.1 p]? = some scr ∧ scr.cls = Γ.2.2.1 3 ∧ (∀ k, scr.vm ≠ .statics k) ∧ scr.vm ≠ .unknown ∧ scr.slots.size = Γ.2.2.2 ∧ ∀ j : Nat, j < Γ.2.2.2 → scr.slots[j]? = some (.int (σ.2.2 p j))) ∧
  (∀ t n, mx_SH p = (t + 4, n) → ∃ cell : Cell, H[Γ.1 p]? = some cell ∧ cell.cls = Γ.2.1.1 t ∧ cell.vm = .none ∧
    ∀ k, k < n → ∃ x : Value, cell.slots[Γ.2.1.2 t k]? = some x ∧ (mx_isI t k = true → x = .int (σ.2.2 p k)) ∧ (mx_isI t k = false → σ.2.1 p k = true → x = .ref (Γ.1 (mx_MR p k))))
theorem mx_cell.kept {Γ : mx_X} {σ τ : mx_S} {p : Nat} {H H1 : Heap} (h : mx_cell Γ σ p H) (hH : H1[Γ.1 p]? = H[Γ.1 p]?) (hi : ∀ j, τ.2.2 p j = σ.2.2 p j) (hu : ∀ j, τ.2.1 p j = σ.2.1 p j) : mx_cell Γ τ p H1 := by
  have e : τ.2.2 p = σ.2.2 p := funext hi
  have e2 : τ.2.1 p = σ.2.1 p := funext hu
  unfold mx_cell at h ⊢
  rw [hH, e, e2]
  exact h
theorem mx_arrV {c n : Nat} {f g : Nat → Value} (h : ∀ j, j < n → f j = g j) : arrV c n f = arrV c n g := by
  unfold arrV
  have e : (fun j : Fin n => f j.val) = (fun j : Fin n => g j.val) := funext fun j => h j.val j.isLt
  rw [e]
def mx_Rep (Γ : mx_X) (σ : mx_S) (H : Heap) : Prop :=
  1 ≤ σ.1 ∧ Γ.1 0 < Γ.1 1 ∧ (∀ j, Γ.1 (1 + j) = Γ.1 1 + j) ∧ H.size = Γ.1 σ.1 ∧ ∀ p, p < σ.1 → mx_cell Γ σ p H
theorem mx_inj {ad : Nat → Nat} (h0 : ad 0 < ad 1) (h1 : ∀ j, ad (1 + j) = ad 1 + j) {i j : Nat} (h : ad i = ad j) : i = j := by
  rcases Nat.eq_zero_or_pos i with hi | hi <;> rcases Nat.eq_zero_or_pos j with hj | hj
  · omega
  · have e := h1 (j - 1)
    rw [show 1 + (j - 1) = j by omega] at e
    subst hi
    omega
  · have e := h1 (i - 1)
    rw [show 1 + (i - 1) = i by omega] at e
    subst hj
    omega
  · have e := h1 (i - 1)
    have e2 := h1 (j - 1)
    rw [show 1 + (i - 1) = i by omega] at e
    rw [show 1 + (j - 1) = j by omega] at e2
    omega
theorem mx_base {ad : Nat → Nat} (h1 : ∀ j, ad (1 + j) = ad 1 + j) {p : Nat} (hp : 1 ≤ p) : ad 1 ≤ ad p := by
  have e := h1 (p - 1)
  rw [show 1 + (p - 1) = p by omega] at e
  omega
theorem mx_adS {ad : Nat → Nat} (h1 : ∀ j, ad (1 + j) = ad 1 + j) {p : Nat} (hp : 1 ≤ p) (k : Nat) : ad (p + k) = ad p + k := by
  have e := h1 (p - 1)
  have e2 := h1 (p - 1 + k)
  rw [show 1 + (p - 1) = p by omega] at e
  rw [show 1 + (p - 1 + k) = p + k by omega] at e2
  omega
theorem mx_Rep.upd {Γ : mx_X} {σ τ : mx_S} {H H1 : Heap} {p : Nat} (hR : mx_Rep Γ σ H) (hn : τ.1 = σ.1) (hz : H1.size = H.size) (ho : ∀ a : Nat, a ≠ Γ.1 p → H1[a]? = H[a]?) (hc : mx_cell Γ τ p H1)
    (hi : ∀ r, r ≠ p → ∀ j, τ.2.2 r j = σ.2.2 r j) (hu : ∀ r, r ≠ p → ∀ j, τ.2.1 r j = σ.2.1 r j) : mx_Rep Γ τ H1 := by
  obtain ⟨h1, h2, h3, h4, h5⟩ := hR
  refine ⟨by rw [hn]; exact h1, h2, h3, by rw [hz, hn]; exact h4, fun r hr => ?_⟩
  by_cases e : r = p
  · rw [e]; exact hc
  · exact (h5 r (by rw [← hn]; exact hr)).kept (ho _ (fun z => e (mx_inj h2 h3 z))) (hi r e) (hu r e)
/-- what a method's body knows -/
def mx_Ctx (Γ : mx_X) (κ : mx_K) (M : mx_M) : Prop :=
  (mx_p κ).tables.exec = Jvm.exec ∧ (mx_c κ).code = M.2.1 ∧ (mx_c κ).maxLocals = M.2.2.1 ∧ (mx_s κ).vm.findClass M.1.cls = some (mx_m κ).cls ∧ (∀ x ∈ mx_WS, x.before (mx_a κ) (mx_s κ) = true) ∧ mx_KK Γ (mx_s κ) ∧
  (mx_h κ).locks = false ∧ mx_R κ = M.2.2.2.2 ∧ (mx_h κ).sig.returnType = M.2.2.2.1 ∧ (mx_h κ).name = M.1.name
abbrev mx_W (κ : mx_K) (H : Heap) (locs : List Loc) (cells slots : Nat) (Q : State → Prop) (g : JFrame) : Prop := W (mx_p κ) (mx_l κ) (mx_e κ) (mx_R κ) (mx_s κ) (mx_m κ) (mx_a κ) (mx_b κ) (mx_h κ) (mx_c κ) H locs cells slots Q g
/-- THE WALK: at pc, with locals L, stack S, state σ -/
def mx_G (Γ : mx_X) (κ : mx_K) (M : mx_M) (Q : State → Prop) (pc : Nat) (L : List (Nat × Value)) (S : List Value) (σ : mx_S) (cells slots : Nat) : Prop :=
  ∀ (H : Heap) (locs : List Loc) (ls : Array Slot), mx_Rep Γ σ H → (∀ q ∈ locs, Γ.1 1 ≤ q.base) → lv_has ls M.2.2.1 (mx_L Γ.1 L) → mx_W κ H locs cells slots Q (F0 (mx_m κ) pc ls (S.map (mx_v Γ.1)))
/-- a counted loop -/
abbrev mx_Mm : Type := Nat → Nat → Int32
def mx_lp {α : Type} : Nat → (Nat → α → α) → α → α
  | 0, _, m => m
  | n + 1, f, m => f n (mx_lp n f m)
theorem mx_lp_inv {α : Type} {f : Nat → α → α} {I : Nat → α → Prop} {m : α} : ∀ (N : Nat), I 0 m → (∀ i m, i < N → I i m → I (i + 1) (f i m)) → ∀ j, j ≤ N → I j (mx_lp j f m)
  | N, h0, hI, 0, _ => h0
  | N, h0, hI, j + 1, hj => hI j _ (by omega) (mx_lp_inv N h0 hI j (by omega))
theorem mx_loop {N : Nat} {Hd : Nat → mx_Mm → Prop} (f : Nat → mx_Mm → mx_Mm) (I : Nat → mx_Mm → Prop) {m : mx_Mm} (h0 : I 0 m) (hI : ∀ i m, i < N → I i m → I (i + 1) (f i m)) (hs : ∀ i m, i < N → I i m → Hd (i + 1) (f i m) → Hd i m) (hx : I N (mx_lp N f m) → Hd N (mx_lp N f m)) : Hd 0 m := by
  have hA := mx_lp_inv (f := f) (m := m) N h0 hI
  have key : ∀ j, j ≤ N → Hd (N - j) (mx_lp (N - j) f m) := by
    intro j
    induction j with
    | zero => intro _; exact hx (hA N (Nat.le_refl _))
    | succ j ih =>
      intro hj
      have h1 := ih (by omega)
      have e : N - j = (N - (j + 1)) + 1 := by omega
      rw [e] at h1
      exact hs _ _ (by omega) (hA _ (by omega)) h1
  have := key N (Nat.le_refl _)
  rw [Nat.sub_self] at this
  exact this
theorem mx_inc (i : Nat) : nI i + Int32.ofInt 1 = nI (i + 1) := nI_1 i
section XR
variable {Γ : mx_X} {κ : mx_K} {M : mx_M} {Q : State → Prop} {pc q : Nat} {L L1 : List (Nat × Value)} {S : List Value} {σ : mx_S} {cells slots : Nat}
theorem x_iconst (hC : mx_Ctx Γ κ M) {n : Int} {v : Int32} (hdg : decode M.2.1 pc = .ok (.iconst n, 1)) (hv : Int32.ofInt n = v) (hq : pc + 1 = q) (k : mx_G Γ κ M Q q L (.int v :: S) σ cells slots) : mx_G Γ κ M Q pc L S σ cells slots := by
  subst hq
  intro H locs ls hR ho hl
  exact lv_iconst hC.1 hC.2.1 hdg hv (k H locs ls hR ho hl)
theorem x_bipush (hC : mx_Ctx Γ κ M) {n : Int} {v : Int32} (hdg : decode M.2.1 pc = .ok (.bipush n, 2)) (hv : (Int8.ofInt n).toInt32 = v) (hq : pc + 2 = q) (k : mx_G Γ κ M Q q L (.int v :: S) σ cells slots) : mx_G Γ κ M Q pc L S σ cells slots := by
  subst hq
  intro H locs ls hR ho hl
  exact lv_bipush hC.1 hC.2.1 hdg hv (k H locs ls hR ho hl)
theorem x_sipush (hC : mx_Ctx Γ κ M) {n : Int} {v : Int32} (hdg : decode M.2.1 pc = .ok (.sipush n, 3)) (hv : (Int16.ofInt n).toInt32 = v) (hq : pc + 3 = q) (k : mx_G Γ κ M Q q L (.int v :: S) σ cells slots) : mx_G Γ κ M Q pc L S σ cells slots := by
  subst hq
  intro H locs ls hR ho hl
  exact lv_sipush hC.1 hC.2.1 hdg hv (k H locs ls hR ho hl)
theorem x_ldc (hC : mx_Ctx Γ κ M) {index : Nat} {v : Int32} (hw : Cond.constant M.1.cls index v ∈ mx_WS) (hdg : decode M.2.1 pc = .ok (.ldc index, 2)) (hq : pc + 2 = q) (k : mx_G Γ κ M Q q L (.int v :: S) σ cells slots) : mx_G Γ κ M Q pc L S σ cells slots := by
  subst hq
  intro H locs ls hR ho hl
  exact lv_ldc hC.1 hC.2.1 hC.2.2.2.1 (hC.2.2.2.2.1 _ hw) hdg (k H locs ls hR ho hl)
theorem x_ldcw (hC : mx_Ctx Γ κ M) {index : Nat} {v : Int32} (hw : Cond.constant M.1.cls index v ∈ mx_WS) (hdg : decode M.2.1 pc = .ok (.ldc_w index, 3)) (hq : pc + 3 = q) (k : mx_G Γ κ M Q q L (.int v :: S) σ cells slots) : mx_G Γ κ M Q pc L S σ cells slots := by
  subst hq
  intro H locs ls hR ho hl
  exact lv_ldcw hC.1 hC.2.1 hC.2.2.2.1 (hC.2.2.2.2.1 _ hw) hdg (k H locs ls hR ho hl)
theorem x_iload_n (hC : mx_Ctx Γ κ M) {f : Fin 4} {i : Nat} {x : Int32} (hdg : decode M.2.1 pc = .ok (.iload_n f, 1)) (hi : (f : Nat) = i) (hx : mx_lk L i = some (.int x)) (hq : pc + 1 = q) (k : mx_G Γ κ M Q q L (.int x :: S) σ cells slots) : mx_G Γ κ M Q pc L S σ cells slots := by
  subst hq
  intro H locs ls hR ho hl
  exact lv_iload_n hC.1 hC.2.1 hdg hi (mx_lget hl hx) (k H locs ls hR ho hl)
theorem x_iload (hC : mx_Ctx Γ κ M) {i : Nat} {x : Int32} (hdg : decode M.2.1 pc = .ok (.iload i, 2)) (hx : mx_lk L i = some (.int x)) (hq : pc + 2 = q) (k : mx_G Γ κ M Q q L (.int x :: S) σ cells slots) : mx_G Γ κ M Q pc L S σ cells slots := by
  subst hq
  intro H locs ls hR ho hl
  exact lv_iload hC.1 hC.2.1 hdg (mx_lget hl hx) (k H locs ls hR ho hl)
theorem x_aload_n (hC : mx_Ctx Γ κ M) {f : Fin 4} {i : Nat} {x : Nat} (hdg : decode M.2.1 pc = .ok (.aload_n f, 1)) (hi : (f : Nat) = i) (hx : mx_lk L i = some (.ref x)) (hq : pc + 1 = q) (k : mx_G Γ κ M Q q L (.ref x :: S) σ cells slots) : mx_G Γ κ M Q pc L S σ cells slots := by
  subst hq
  intro H locs ls hR ho hl
  exact lv_aload_n hC.1 hC.2.1 hdg hi (mx_lget hl hx) (k H locs ls hR ho hl)
theorem x_aload (hC : mx_Ctx Γ κ M) {i : Nat} {x : Nat} (hdg : decode M.2.1 pc = .ok (.aload i, 2)) (hx : mx_lk L i = some (.ref x)) (hq : pc + 2 = q) (k : mx_G Γ κ M Q q L (.ref x :: S) σ cells slots) : mx_G Γ κ M Q pc L S σ cells slots := by
  subst hq
  intro H locs ls hR ho hl
  exact lv_aload hC.1 hC.2.1 hdg (mx_lget hl hx) (k H locs ls hR ho hl)
theorem x_istore_n (hC : mx_Ctx Γ κ M) {f : Fin 4} {i : Nat} {x : Int32} (hdg : decode M.2.1 pc = .ok (.istore_n f, 1)) (hi : (f : Nat) = i) (hn : i < M.2.2.1) (hL : mx_st L i (.int x) = L1) (hq : pc + 1 = q) (k : mx_G Γ κ M Q q L1 S σ cells slots) : mx_G Γ κ M Q pc L (.int x :: S) σ cells slots := by
  subst hq
  intro H locs ls hR ho hl
  subst hL
  exact lv_istore_n hC.1 hC.2.1 hdg hi hl hn (mx_L_st Γ.1 L i (.int x)) (fun ls1 h1 => k H locs ls1 hR ho h1)
theorem x_istore (hC : mx_Ctx Γ κ M) {i : Nat} {x : Int32} (hdg : decode M.2.1 pc = .ok (.istore i, 2)) (hn : i < M.2.2.1) (hL : mx_st L i (.int x) = L1) (hq : pc + 2 = q) (k : mx_G Γ κ M Q q L1 S σ cells slots) : mx_G Γ κ M Q pc L (.int x :: S) σ cells slots := by
  subst hq
  intro H locs ls hR ho hl
  subst hL
  exact lv_istore hC.1 hC.2.1 hdg hl hn (mx_L_st Γ.1 L i (.int x)) (fun ls1 h1 => k H locs ls1 hR ho h1)
theorem x_astore_n (hC : mx_Ctx Γ κ M) {f : Fin 4} {i : Nat} {x : Nat} (hdg : decode M.2.1 pc = .ok (.astore_n f, 1)) (hi : (f : Nat) = i) (hn : i < M.2.2.1) (hL : mx_st L i (.ref x) = L1) (hq : pc + 1 = q) (k : mx_G Γ κ M Q q L1 S σ cells slots) : mx_G Γ κ M Q pc L (.ref x :: S) σ cells slots := by
  subst hq
  intro H locs ls hR ho hl
  subst hL
  exact lv_astore_n hC.1 hC.2.1 hdg hi hl hn (mx_L_st Γ.1 L i (.ref x)) (fun ls1 h1 => k H locs ls1 hR ho h1)
theorem x_astore (hC : mx_Ctx Γ κ M) {i : Nat} {x : Nat} (hdg : decode M.2.1 pc = .ok (.astore i, 2)) (hn : i < M.2.2.1) (hL : mx_st L i (.ref x) = L1) (hq : pc + 2 = q) (k : mx_G Γ κ M Q q L1 S σ cells slots) : mx_G Γ κ M Q pc L (.ref x :: S) σ cells slots := by
  subst hq
  intro H locs ls hR ho hl
  subst hL
  exact lv_astore hC.1 hC.2.1 hdg hl hn (mx_L_st Γ.1 L i (.ref x)) (fun ls1 h1 => k H locs ls1 hR ho h1)
theorem x_iinc (hC : mx_Ctx Γ κ M) {i : Nat} {n : Int} {x y : Int32} (hdg : decode M.2.1 pc = .ok (.iinc i n, 3)) (hx : mx_lk L i = some (.int x)) (hy : x + Int32.ofInt n = y) (hn : i < M.2.2.1) (hL : mx_st L i (.int y) = L1) (hq : pc + 3 = q) (k : mx_G Γ κ M Q q L1 S σ cells slots) : mx_G Γ κ M Q pc L S σ cells slots := by
  subst hq
  intro H locs ls hR ho hl
  subst hL
  obtain ⟨j, hj⟩ := List.getElem?_of_mem (List.mem_map.mpr ⟨(i, Value.int x), mx_lk_mem hx, rfl⟩ : (i, mx_v Γ.1 (.int x)) ∈ mx_L Γ.1 L)
  exact lv_iinc hC.1 hC.2.1 hdg hl hj hy hn (mx_L_st Γ.1 L i (.int y)) (fun ls1 h1 => k H locs ls1 hR ho h1)
theorem x_iadd (hC : mx_Ctx Γ κ M) {x y z : Int32} (hdg : decode M.2.1 pc = .ok (.iadd, 1)) (hz : x + y = z) (hq : pc + 1 = q) (k : mx_G Γ κ M Q q L (.int z :: S) σ cells slots) : mx_G Γ κ M Q pc L (.int y :: .int x :: S) σ cells slots := by
  subst hq
  intro H locs ls hR ho hl
  subst hz
  exact lv_iadd hC.1 hC.2.1 hdg (k H locs ls hR ho hl)
theorem x_isub (hC : mx_Ctx Γ κ M) {x y z : Int32} (hdg : decode M.2.1 pc = .ok (.isub, 1)) (hz : x - y = z) (hq : pc + 1 = q) (k : mx_G Γ κ M Q q L (.int z :: S) σ cells slots) : mx_G Γ κ M Q pc L (.int y :: .int x :: S) σ cells slots := by
  subst hq
  intro H locs ls hR ho hl
  subst hz
  exact lv_isub hC.1 hC.2.1 hdg (k H locs ls hR ho hl)
theorem x_imul (hC : mx_Ctx Γ κ M) {x y z : Int32} (hdg : decode M.2.1 pc = .ok (.imul, 1)) (hz : x * y = z) (hq : pc + 1 = q) (k : mx_G Γ κ M Q q L (.int z :: S) σ cells slots) : mx_G Γ κ M Q pc L (.int y :: .int x :: S) σ cells slots := by
  subst hq
  intro H locs ls hR ho hl
  subst hz
  exact lv_imul hC.1 hC.2.1 hdg (k H locs ls hR ho hl)
theorem x_iand (hC : mx_Ctx Γ κ M) {x y z : Int32} (hdg : decode M.2.1 pc = .ok (.iand, 1)) (hz : x &&& y = z) (hq : pc + 1 = q) (k : mx_G Γ κ M Q q L (.int z :: S) σ cells slots) : mx_G Γ κ M Q pc L (.int y :: .int x :: S) σ cells slots := by
  subst hq
  intro H locs ls hR ho hl
  subst hz
  exact lv_iand hC.1 hC.2.1 hdg (k H locs ls hR ho hl)
theorem x_ior (hC : mx_Ctx Γ κ M) {x y z : Int32} (hdg : decode M.2.1 pc = .ok (.ior, 1)) (hz : x ||| y = z) (hq : pc + 1 = q) (k : mx_G Γ κ M Q q L (.int z :: S) σ cells slots) : mx_G Γ κ M Q pc L (.int y :: .int x :: S) σ cells slots := by
  subst hq
  intro H locs ls hR ho hl
  subst hz
  exact lv_ior hC.1 hC.2.1 hdg (k H locs ls hR ho hl)
theorem x_ixor (hC : mx_Ctx Γ κ M) {x y z : Int32} (hdg : decode M.2.1 pc = .ok (.ixor, 1)) (hz : x ^^^ y = z) (hq : pc + 1 = q) (k : mx_G Γ κ M Q q L (.int z :: S) σ cells slots) : mx_G Γ κ M Q pc L (.int y :: .int x :: S) σ cells slots := by
  subst hq
  intro H locs ls hR ho hl
  subst hz
  exact lv_ixor hC.1 hC.2.1 hdg (k H locs ls hR ho hl)
theorem x_ishl (hC : mx_Ctx Γ κ M) {x y z : Int32} (hdg : decode M.2.1 pc = .ok (.ishl, 1)) (hz : x <<< (y &&& 31) = z) (hq : pc + 1 = q) (k : mx_G Γ κ M Q q L (.int z :: S) σ cells slots) : mx_G Γ κ M Q pc L (.int y :: .int x :: S) σ cells slots := by
  subst hq
  intro H locs ls hR ho hl
  subst hz
  exact lv_ishl hC.1 hC.2.1 hdg (k H locs ls hR ho hl)
theorem x_ishr (hC : mx_Ctx Γ κ M) {x y z : Int32} (hdg : decode M.2.1 pc = .ok (.ishr, 1)) (hz : x >>> (y &&& 31) = z) (hq : pc + 1 = q) (k : mx_G Γ κ M Q q L (.int z :: S) σ cells slots) : mx_G Γ κ M Q pc L (.int y :: .int x :: S) σ cells slots := by
  subst hq
  intro H locs ls hR ho hl
  subst hz
  exact lv_ishr hC.1 hC.2.1 hdg (k H locs ls hR ho hl)
theorem x_iushr (hC : mx_Ctx Γ κ M) {x y z : Int32} (hdg : decode M.2.1 pc = .ok (.iushr, 1)) (hz : (x.toUInt32 >>> (y.toUInt32 &&& Int32.toUInt32 31)).toInt32 = z) (hq : pc + 1 = q) (k : mx_G Γ κ M Q q L (.int z :: S) σ cells slots) : mx_G Γ κ M Q pc L (.int y :: .int x :: S) σ cells slots := by
  subst hq
  intro H locs ls hR ho hl
  exact lv_iushr hC.1 hC.2.1 hdg hz (k H locs ls hR ho hl)
theorem x_idiv (hC : mx_Ctx Γ κ M) {x y z : Int32} (hdg : decode M.2.1 pc = .ok (.idiv, 1)) (hne : ¬ y = 0) (hz : x / y = z) (hq : pc + 1 = q) (k : mx_G Γ κ M Q q L (.int z :: S) σ cells slots) : mx_G Γ κ M Q pc L (.int y :: .int x :: S) σ cells slots := by
  subst hq
  intro H locs ls hR ho hl
  subst hz
  exact lv_idiv hC.1 hC.2.1 hdg hne (k H locs ls hR ho hl)
theorem x_irem (hC : mx_Ctx Γ κ M) {x y z : Int32} (hdg : decode M.2.1 pc = .ok (.irem, 1)) (hne : ¬ y = 0) (hz : x - x / y * y = z) (hq : pc + 1 = q) (k : mx_G Γ κ M Q q L (.int z :: S) σ cells slots) : mx_G Γ κ M Q pc L (.int y :: .int x :: S) σ cells slots := by
  subst hq
  intro H locs ls hR ho hl
  subst hz
  exact lv_irem hC.1 hC.2.1 hdg hne (k H locs ls hR ho hl)
theorem x_ineg (hC : mx_Ctx Γ κ M) {x z : Int32} (hdg : decode M.2.1 pc = .ok (.ineg, 1)) (hz : -x = z) (hq : pc + 1 = q) (k : mx_G Γ κ M Q q L (.int z :: S) σ cells slots) : mx_G Γ κ M Q pc L (.int x :: S) σ cells slots := by
  subst hq
  intro H locs ls hR ho hl
  subst hz
  exact lv_ineg hC.1 hC.2.1 hdg (k H locs ls hR ho hl)
theorem x_dup (hC : mx_Ctx Γ κ M) {x : Value} (hdg : decode M.2.1 pc = .ok (.dup, 1)) (hx : x.category = 1) (hq : pc + 1 = q) (k : mx_G Γ κ M Q q L (x :: x :: S) σ cells slots) : mx_G Γ κ M Q pc L (x :: S) σ cells slots := by
  subst hq
  intro H locs ls hR ho hl
  exact lv_dup hC.1 hC.2.1 hdg ((mx_v_cat _ _).trans hx) (k H locs ls hR ho hl)
theorem x_pop (hC : mx_Ctx Γ κ M) {x : Value} (hdg : decode M.2.1 pc = .ok (.pop, 1)) (hx : x.category = 1) (hq : pc + 1 = q) (k : mx_G Γ κ M Q q L S σ cells slots) : mx_G Γ κ M Q pc L (x :: S) σ cells slots := by
  subst hq
  intro H locs ls hR ho hl
  exact lv_pop hC.1 hC.2.1 hdg ((mx_v_cat _ _).trans hx) (k H locs ls hR ho hl)
theorem x_dup_x1 (hC : mx_Ctx Γ κ M) {x y : Value} (hdg : decode M.2.1 pc = .ok (.dup_x1, 1)) (hx : x.category = 1) (hy : y.category = 1) (hq : pc + 1 = q) (k : mx_G Γ κ M Q q L (x :: y :: x :: S) σ cells slots) : mx_G Γ κ M Q pc L (x :: y :: S) σ cells slots := by
  subst hq
  intro H locs ls hR ho hl
  exact lv_dup_x1 hC.1 hC.2.1 hdg ((mx_v_cat _ _).trans hx) ((mx_v_cat _ _).trans hy) (k H locs ls hR ho hl)
theorem x_dup_x2 (hC : mx_Ctx Γ κ M) {x y z : Value} (hdg : decode M.2.1 pc = .ok (.dup_x2, 1)) (hx : x.category = 1) (hy : y.category = 1) (hz : z.category = 1) (hq : pc + 1 = q) (k : mx_G Γ κ M Q q L (x :: y :: z :: x :: S) σ cells slots) : mx_G Γ κ M Q pc L (x :: y :: z :: S) σ cells slots := by
  subst hq
  intro H locs ls hR ho hl
  exact lv_dup_x2 hC.1 hC.2.1 hdg ((mx_v_cat _ _).trans hx) ((mx_v_cat _ _).trans hy) ((mx_v_cat _ _).trans hz) (k H locs ls hR ho hl)
theorem x_dup2 (hC : mx_Ctx Γ κ M) {x y : Value} (hdg : decode M.2.1 pc = .ok (.dup2, 1)) (hx : x.category = 1) (hy : y.category = 1) (hq : pc + 1 = q) (k : mx_G Γ κ M Q q L (x :: y :: x :: y :: S) σ cells slots) : mx_G Γ κ M Q pc L (x :: y :: S) σ cells slots := by
  subst hq
  intro H locs ls hR ho hl
  exact lv_dup2_11 hC.1 hC.2.1 hdg ((mx_v_cat _ _).trans hx) ((mx_v_cat _ _).trans hy) (k H locs ls hR ho hl)
theorem x_if_eq (hC : mx_Ctx Γ κ M) {x : Int32} {off : Int} {tgt : Nat} (hdg : decode M.2.1 pc = .ok (.ifCond .eq off, 3)) (ht : (pc : Int) + off = (tgt : Int)) (hq : pc + 3 = q)
    (kt : x = 0 → mx_G Γ κ M Q tgt L S σ cells slots) (kf : ¬ x = 0 → mx_G Γ κ M Q q L S σ cells slots) : mx_G Γ κ M Q pc L (.int x :: S) σ cells slots := by
  subst hq
  intro H locs ls hR ho hl
  exact lv_if_eq hC.1 hC.2.1 hdg ht (fun h => kt h H locs ls hR ho hl) (fun h => kf h H locs ls hR ho hl)
theorem x_icmp_eq (hC : mx_Ctx Γ κ M) {x y : Int32} {off : Int} {tgt : Nat} (hdg : decode M.2.1 pc = .ok (.if_icmp .eq off, 3)) (ht : (pc : Int) + off = (tgt : Int)) (hq : pc + 3 = q)
    (kt : x = y → mx_G Γ κ M Q tgt L S σ cells slots) (kf : ¬ x = y → mx_G Γ κ M Q q L S σ cells slots) : mx_G Γ κ M Q pc L (.int y :: .int x :: S) σ cells slots := by
  subst hq
  intro H locs ls hR ho hl
  exact lv_icmp_eq hC.1 hC.2.1 hdg ht (fun h => kt h H locs ls hR ho hl) (fun h => kf h H locs ls hR ho hl)
theorem x_if_ne (hC : mx_Ctx Γ κ M) {x : Int32} {off : Int} {tgt : Nat} (hdg : decode M.2.1 pc = .ok (.ifCond .ne off, 3)) (ht : (pc : Int) + off = (tgt : Int)) (hq : pc + 3 = q)
    (kt : ¬ x = 0 → mx_G Γ κ M Q tgt L S σ cells slots) (kf : x = 0 → mx_G Γ κ M Q q L S σ cells slots) : mx_G Γ κ M Q pc L (.int x :: S) σ cells slots := by
  subst hq
  intro H locs ls hR ho hl
  exact lv_if_ne hC.1 hC.2.1 hdg ht (fun h => kt h H locs ls hR ho hl) (fun h => kf h H locs ls hR ho hl)
theorem x_icmp_ne (hC : mx_Ctx Γ κ M) {x y : Int32} {off : Int} {tgt : Nat} (hdg : decode M.2.1 pc = .ok (.if_icmp .ne off, 3)) (ht : (pc : Int) + off = (tgt : Int)) (hq : pc + 3 = q)
    (kt : ¬ x = y → mx_G Γ κ M Q tgt L S σ cells slots) (kf : x = y → mx_G Γ κ M Q q L S σ cells slots) : mx_G Γ κ M Q pc L (.int y :: .int x :: S) σ cells slots := by
  subst hq
  intro H locs ls hR ho hl
  exact lv_icmp_ne hC.1 hC.2.1 hdg ht (fun h => kt h H locs ls hR ho hl) (fun h => kf h H locs ls hR ho hl)
theorem x_if_lt (hC : mx_Ctx Γ κ M) {x : Int32} {off : Int} {tgt : Nat} (hdg : decode M.2.1 pc = .ok (.ifCond .lt off, 3)) (ht : (pc : Int) + off = (tgt : Int)) (hq : pc + 3 = q)
    (kt : x < 0 → mx_G Γ κ M Q tgt L S σ cells slots) (kf : ¬ x < 0 → mx_G Γ κ M Q q L S σ cells slots) : mx_G Γ κ M Q pc L (.int x :: S) σ cells slots := by
  subst hq
  intro H locs ls hR ho hl
  exact lv_if_lt hC.1 hC.2.1 hdg ht (fun h => kt h H locs ls hR ho hl) (fun h => kf h H locs ls hR ho hl)
theorem x_icmp_lt (hC : mx_Ctx Γ κ M) {x y : Int32} {off : Int} {tgt : Nat} (hdg : decode M.2.1 pc = .ok (.if_icmp .lt off, 3)) (ht : (pc : Int) + off = (tgt : Int)) (hq : pc + 3 = q)
    (kt : x < y → mx_G Γ κ M Q tgt L S σ cells slots) (kf : ¬ x < y → mx_G Γ κ M Q q L S σ cells slots) : mx_G Γ κ M Q pc L (.int y :: .int x :: S) σ cells slots := by
  subst hq
  intro H locs ls hR ho hl
  exact lv_icmp_lt hC.1 hC.2.1 hdg ht (fun h => kt h H locs ls hR ho hl) (fun h => kf h H locs ls hR ho hl)
theorem x_if_ge (hC : mx_Ctx Γ κ M) {x : Int32} {off : Int} {tgt : Nat} (hdg : decode M.2.1 pc = .ok (.ifCond .ge off, 3)) (ht : (pc : Int) + off = (tgt : Int)) (hq : pc + 3 = q)
    (kt : 0 ≤ x → mx_G Γ κ M Q tgt L S σ cells slots) (kf : ¬ 0 ≤ x → mx_G Γ κ M Q q L S σ cells slots) : mx_G Γ κ M Q pc L (.int x :: S) σ cells slots := by
  subst hq
  intro H locs ls hR ho hl
  exact lv_if_ge hC.1 hC.2.1 hdg ht (fun h => kt h H locs ls hR ho hl) (fun h => kf h H locs ls hR ho hl)
theorem x_icmp_ge (hC : mx_Ctx Γ κ M) {x y : Int32} {off : Int} {tgt : Nat} (hdg : decode M.2.1 pc = .ok (.if_icmp .ge off, 3)) (ht : (pc : Int) + off = (tgt : Int)) (hq : pc + 3 = q)
    (kt : y ≤ x → mx_G Γ κ M Q tgt L S σ cells slots) (kf : ¬ y ≤ x → mx_G Γ κ M Q q L S σ cells slots) : mx_G Γ κ M Q pc L (.int y :: .int x :: S) σ cells slots := by
  subst hq
  intro H locs ls hR ho hl
  exact lv_icmp_ge hC.1 hC.2.1 hdg ht (fun h => kt h H locs ls hR ho hl) (fun h => kf h H locs ls hR ho hl)
theorem x_if_gt (hC : mx_Ctx Γ κ M) {x : Int32} {off : Int} {tgt : Nat} (hdg : decode M.2.1 pc = .ok (.ifCond .gt off, 3)) (ht : (pc : Int) + off = (tgt : Int)) (hq : pc + 3 = q)
    (kt : 0 < x → mx_G Γ κ M Q tgt L S σ cells slots) (kf : ¬ 0 < x → mx_G Γ κ M Q q L S σ cells slots) : mx_G Γ κ M Q pc L (.int x :: S) σ cells slots := by
  subst hq
  intro H locs ls hR ho hl
  exact lv_if_gt hC.1 hC.2.1 hdg ht (fun h => kt h H locs ls hR ho hl) (fun h => kf h H locs ls hR ho hl)
theorem x_icmp_gt (hC : mx_Ctx Γ κ M) {x y : Int32} {off : Int} {tgt : Nat} (hdg : decode M.2.1 pc = .ok (.if_icmp .gt off, 3)) (ht : (pc : Int) + off = (tgt : Int)) (hq : pc + 3 = q)
    (kt : y < x → mx_G Γ κ M Q tgt L S σ cells slots) (kf : ¬ y < x → mx_G Γ κ M Q q L S σ cells slots) : mx_G Γ κ M Q pc L (.int y :: .int x :: S) σ cells slots := by
  subst hq
  intro H locs ls hR ho hl
  exact lv_icmp_gt hC.1 hC.2.1 hdg ht (fun h => kt h H locs ls hR ho hl) (fun h => kf h H locs ls hR ho hl)
theorem x_if_le (hC : mx_Ctx Γ κ M) {x : Int32} {off : Int} {tgt : Nat} (hdg : decode M.2.1 pc = .ok (.ifCond .le off, 3)) (ht : (pc : Int) + off = (tgt : Int)) (hq : pc + 3 = q)
    (kt : x ≤ 0 → mx_G Γ κ M Q tgt L S σ cells slots) (kf : ¬ x ≤ 0 → mx_G Γ κ M Q q L S σ cells slots) : mx_G Γ κ M Q pc L (.int x :: S) σ cells slots := by
  subst hq
  intro H locs ls hR ho hl
  exact lv_if_le hC.1 hC.2.1 hdg ht (fun h => kt h H locs ls hR ho hl) (fun h => kf h H locs ls hR ho hl)
theorem x_icmp_le (hC : mx_Ctx Γ κ M) {x y : Int32} {off : Int} {tgt : Nat} (hdg : decode M.2.1 pc = .ok (.if_icmp .le off, 3)) (ht : (pc : Int) + off = (tgt : Int)) (hq : pc + 3 = q)
    (kt : x ≤ y → mx_G Γ κ M Q tgt L S σ cells slots) (kf : ¬ x ≤ y → mx_G Γ κ M Q q L S σ cells slots) : mx_G Γ κ M Q pc L (.int y :: .int x :: S) σ cells slots := by
  subst hq
  intro H locs ls hR ho hl
  exact lv_icmp_le hC.1 hC.2.1 hdg ht (fun h => kt h H locs ls hR ho hl) (fun h => kf h H locs ls hR ho hl)
theorem x_goto (hC : mx_Ctx Γ κ M) {off : Int} {tgt : Nat} (hdg : decode M.2.1 pc = .ok (.goto off, 3)) (ht : (pc : Int) + off = (tgt : Int)) (k : mx_G Γ κ M Q tgt L S σ cells slots) : mx_G Γ κ M Q pc L S σ cells slots := by
  intro H locs ls hR ho hl
  exact lv_goto hC.1 hC.2.1 hdg ht (k H locs ls hR ho hl)
/-- a field as an instruction of the own cell kind names it -/
def mx_F (own : String) (index ci k : Nat) (C : String) (T : u_T) (N : Nat) : Prop := vwCl[ci]? = some (C, T, N) ∧ k < N ∧ Cond.fieldLink own index (T k).1 (T k).2.1 (T k).2.2.1 ∈ mx_WS ∧ ∀ x ∈ u_ws C T N, x ∈ mx_WS
/-- .. and its layout, for stores -/
def mx_Y (T : u_T) (N : Nat) (ty : Nat → FieldType) : Prop := (∀ k, k < N → parseFieldDescriptor (T k).2.2.1 = some (ty k)) ∧ ∀ a, a < N → ∀ b, b < N → a ≠ b → (T a).2.1 ≠ (T b).2.1
theorem x_geti (hC : mx_Ctx Γ κ M) {ci j N index p : Nat} {C : String} {T : u_T} (hF : mx_F M.1.cls index ci j C T N) (hsh : mx_SH p = (ci + 4, N)) (hI : mx_isI ci j = true) (hp : p < σ.1) (hdg : decode M.2.1 pc = .ok (.getfield index, 3)) (hq : pc + 3 = q)
    (k : mx_G Γ κ M Q q L (.int (σ.2.2 p j) :: S) σ cells slots) : mx_G Γ κ M Q pc L (.ref p :: S) σ cells slots := by
  subst hq
  intro H locs ls hR ho hl
  obtain ⟨hx, hb, hml, hown, hts, hK, -⟩ := hC
  obtain ⟨hc, hk, hw, hu⟩ := hF
  obtain ⟨cell, q1, q2, q3, q4⟩ := (hR.2.2.2.2 p hp).2.2.2.2 ci N hsh
  obtain ⟨v, v1, v2, v3⟩ := q4 j hk
  obtain ⟨hS, hfc, kC, hkC, hkind⟩ := hK.1.1 ci _ hc
  obtain ⟨cf, kf, fi, f, hi, hsl⟩ := hS j hk
  have hv := v2 hI
  subst hv
  exact W.getf hx hb hown (hts _ hw) hi (u_facts hfc hkC (u_lays hts hu hk) hi).1 q1 (by rw [q3]; exact fun h => by cases h) (v := .int (σ.2.2 p j)) (by rw [hsl]; exact v1) rfl rfl hdg (k H locs ls hR ho hl)
theorem x_getr (hC : mx_Ctx Γ κ M) {ci j N index p r : Nat} {C : String} {T : u_T} (hF : mx_F M.1.cls index ci j C T N) (hsh : mx_SH p = (ci + 4, N)) (hI : mx_isI ci j = false) (hr : mx_MR p j = r) (hp : p < σ.1) (hv : σ.2.1 p j = true) (hdg : decode M.2.1 pc = .ok (.getfield index, 3)) (hq : pc + 3 = q)
    (k : mx_G Γ κ M Q q L (.ref r :: S) σ cells slots) : mx_G Γ κ M Q pc L (.ref p :: S) σ cells slots := by
  subst hq
  subst hr
  intro H locs ls hR ho hl
  obtain ⟨hx, hb, hml, hown, hts, hK, -⟩ := hC
  obtain ⟨hc, hk, hw, hu⟩ := hF
  obtain ⟨cell, q1, q2, q3, q4⟩ := (hR.2.2.2.2 p hp).2.2.2.2 ci N hsh
  obtain ⟨v, v1, v2, v3⟩ := q4 j hk
  obtain ⟨hS, hfc, kC, hkC, hkind⟩ := hK.1.1 ci _ hc
  obtain ⟨cf, kf, fi, f, hi, hsl⟩ := hS j hk
  have hv := v3 hI hv
  subst hv
  exact W.getf hx hb hown (hts _ hw) hi (u_facts hfc hkC (u_lays hts hu hk) hi).1 q1 (by rw [q3]; exact fun h => by cases h) (v := .ref (Γ.1 (mx_MR p j))) (by rw [hsl]; exact v1) rfl rfl hdg (k H locs ls hR ho hl)
theorem mx_apart {ws : List Cond} {s : State} {args : Array Value} {C : String} {T : u_T} {N ci : Nat} {D : va_G} {cl : List vw_C} {tys : List (ClassId × FieldType)} {ty : Nat → FieldType} (hts : ∀ x ∈ ws, x.before args s = true) (hu : ∀ x ∈ u_ws C T N, x ∈ ws) (hY : mx_Y T N ty) (hK : va_K D cl tys s) (hc : cl[ci]? = some (C, T, N)) : ∀ x y, x < N → y < N → x ≠ y → (D.2 ci) x ≠ (D.2 ci) y := by
  intro x y hx hy hne
  obtain ⟨hS, -⟩ := hK.1 ci _ hc
  obtain ⟨_, _, _, fa, hia, ea⟩ := hS x hx
  obtain ⟨_, _, _, fb, hib, eb⟩ := hS y hy
  rw [← ea, ← eb]
  refine u_apart (u_lays hts hu hx) (u_lays hts hu hy) hia hib ?_
  rw [(State.fieldFound?_type hia (hY.1 x hx)).1, (State.fieldFound?_type hib (hY.1 y hy)).1]
  exact hY.2 x hx y hy hne
theorem x_puti (hC : mx_Ctx Γ κ M) {ci j N index p : Nat} {C : String} {T : u_T} {ty : Nat → FieldType} (hF : mx_F M.1.cls index ci j C T N) (hY : mx_Y T N ty) (hfin : (T j).2.2.2 = false) (hsh : mx_SH p = (ci + 4, N)) (hI : mx_isI ci j = true) {x : Int32} (hn : narrow (ty j) (.int x) = .int x) (hfit : fits (ty j) (.int x) = true) (hp : p < σ.1) (hp1 : 1 ≤ p) (hdg : decode M.2.1 pc = .ok (.putfield index, 3)) (hq : pc + 3 = q)
    (k : mx_G Γ κ M Q q L S (σ.1, σ.2.1, mx_up σ.2.2 p j x) cells slots) : mx_G Γ κ M Q pc L (.int x :: .ref p :: S) σ cells slots := by
  subst hq
  intro H locs ls hR ho hl
  obtain ⟨hx, hb, hml, hown, hts, hK, hlk, hRm, hrt, hnm⟩ := hC
  obtain ⟨hc, hk, hw, hu⟩ := hF
  have hap := mx_apart hts hu hY hK.1 hc
  obtain ⟨cell, q1, q2, q3, q4⟩ := (hR.2.2.2.2 p hp).2.2.2.2 ci N hsh
  obtain ⟨v, v1, v2, v3⟩ := q4 j hk
  obtain ⟨hS, hfc, kC, hkC, hkind⟩ := hK.1.1 ci _ hc
  obtain ⟨cf, kf, fi, f, hi, hsl⟩ := hS j hk
  have hd := hY.1 j hk
  have hlay := hts _ (hu _ (u_in_lay hk))
  unfold u_lay at hlay
  rw [if_neg (by rw [hfin]; decide)] at hlay
  have hst := (u_facts hfc hkC (u_lays hts hu hk) hi).1
  have h6 := u_store hfc hkC hkind hlay hi hd hn hfit
  refine W.putK hx hb (f := f) ⟨hown, hts _ hw, ⟨_, _, _, hi⟩, hst⟩ (by rw [q2]; exact h6) q1 q3 (by rw [hsl]; exact k2_hasslot v1) rfl rfl hdg fun H' e1 e2 e3 => ?_
  rw [hsl] at e1 ⊢
  refine k H' _ ls (mx_Rep.upd (p := p) hR rfl e2 e3 ⟨fun _ h => absurd (mx_shq hsh h).1 (by omega), fun _ h => absurd (mx_shq hsh h).1 (by omega), fun _ h => absurd (mx_shq hsh h).1 (by omega), fun _ h => absurd (mx_shq hsh h).1 (by omega), fun t n h => ?_⟩ (fun r hr i => by simp [mx_up, hr]) (fun _ _ _ => rfl)) ?_ hl
  · obtain ⟨ea, eb⟩ := mx_shq hsh h
    obtain rfl : ci = t := by omega
    subst eb
    refine ⟨_, e1, q2, q3, fun i hi2 => ?_⟩
    by_cases e : i = j
    · subst e
      refine ⟨_, Cell.slots_setSlot_self _ (k2_hasslot v1), fun _ => by simp [mx_up, mx_v], fun h => by rw [hI] at h; cases h⟩
    · obtain ⟨z, z1, z2, z3⟩ := q4 i hi2
      refine ⟨z, by rw [slot_ne _ _ (hap j i hk hi2 (Ne.symm e)), z1], fun h => by rw [z2 h]; simp [mx_up, e], z3⟩
  · intro y hy
    rcases List.mem_append.mp hy with h | h
    · exact ho y h
    · rw [List.mem_singleton.mp h]
      exact mx_base hR.2.2.1 hp1
theorem x_putiF (hC : mx_Ctx Γ κ M) {ci j N index p : Nat} {C : String} {T : u_T} {ty : Nat → FieldType} (hF : mx_F M.1.cls index ci j C T N) (hY : mx_Y T N ty) (hfin : (T j).2.2.2 = true) (hin : M.1.name = "<init>") (hdecl : (T j).1 = M.1.cls) (hsh : mx_SH p = (ci + 4, N)) (hI : mx_isI ci j = true) {x : Int32} (hn : narrow (ty j) (.int x) = .int x) (hfit : fits (ty j) (.int x) = true) (hp : p < σ.1) (hp1 : 1 ≤ p) (hdg : decode M.2.1 pc = .ok (.putfield index, 3)) (hq : pc + 3 = q)
    (k : mx_G Γ κ M Q q L S (σ.1, σ.2.1, mx_up σ.2.2 p j x) cells slots) : mx_G Γ κ M Q pc L (.int x :: .ref p :: S) σ cells slots := by
  subst hq
  intro H locs ls hR ho hl
  obtain ⟨hx, hb, hml, hown, hts, hK, hlk, hRm, hrt, hnm⟩ := hC
  obtain ⟨hc, hk, hw, hu⟩ := hF
  have hap := mx_apart hts hu hY hK.1 hc
  obtain ⟨cell, q1, q2, q3, q4⟩ := (hR.2.2.2.2 p hp).2.2.2.2 ci N hsh
  obtain ⟨v, v1, v2, v3⟩ := q4 j hk
  obtain ⟨hS, hfc, kC, hkC, hkind⟩ := hK.1.1 ci _ hc
  obtain ⟨cf, kf, fi, f, hi, hsl⟩ := hS j hk
  have hd := hY.1 j hk
  have hlay := hts _ (hu _ (u_in_lay hk))
  unfold u_lay at hlay
  rw [if_pos hfin] at hlay
  have hst := (u_facts hfc hkC (u_lays hts hu hk) hi).1
  have hcf : (mx_m κ).cls = cf := by
    obtain ⟨_, _, c', _, _, _, -, -, hf', -, -, -, hown2, -⟩ := Cond.laysFinal_spec hlay
    have e1 : c' = cf := by have := hi.symm.trans hf'; simp at this; exact this.1.symm
    rw [hdecl] at hown2
    rw [← e1]; exact Option.some.inj (hown.symm.trans hown2)
  have h6 := u_fits hfc hkC hkind (Or.inr hlay) hi hd hn hfit
  refine W.putFinK hx hb hown (hts _ hw) hi hst hcf (hnm.trans hin) (by rw [q2]; exact h6) q1 q3 (by rw [hsl]; exact k2_hasslot v1) rfl rfl hdg fun H' e1 e2 e3 => ?_
  rw [hsl] at e1 ⊢
  refine k H' _ ls (mx_Rep.upd (p := p) hR rfl e2 e3 ⟨fun _ h => absurd (mx_shq hsh h).1 (by omega), fun _ h => absurd (mx_shq hsh h).1 (by omega), fun _ h => absurd (mx_shq hsh h).1 (by omega), fun _ h => absurd (mx_shq hsh h).1 (by omega), fun t n h => ?_⟩ (fun r hr i => by simp [mx_up, hr]) (fun _ _ _ => rfl)) ?_ hl
  · obtain ⟨ea, eb⟩ := mx_shq hsh h
    obtain rfl : ci = t := by omega
    subst eb
    refine ⟨_, e1, q2, q3, fun i hi2 => ?_⟩
    by_cases e : i = j
    · subst e
      refine ⟨_, Cell.slots_setSlot_self _ (k2_hasslot v1), fun _ => by simp [mx_up, mx_v], fun h => by rw [hI] at h; cases h⟩
    · obtain ⟨z, z1, z2, z3⟩ := q4 i hi2
      refine ⟨z, by rw [slot_ne _ _ (hap j i hk hi2 (Ne.symm e)), z1], fun h => by rw [z2 h]; simp [mx_up, e], z3⟩
  · intro y hy
    rcases List.mem_append.mp hy with h | h
    · exact ho y h
    · rw [List.mem_singleton.mp h]
      exact mx_base hR.2.2.1 hp1
theorem x_putr (hC : mx_Ctx Γ κ M) {ci j N index p : Nat} {C : String} {T : u_T} {ty : Nat → FieldType} (hF : mx_F M.1.cls index ci j C T N) (hY : mx_Y T N ty) (hfin : (T j).2.2.2 = false) (hsh : mx_SH p = (ci + 4, N)) (hI : mx_isI ci j = false) {r : Nat} (hr : mx_MR p j = r) (hn : narrow (ty j) (.ref (Γ.1 (mx_MR p j))) = .ref (Γ.1 (mx_MR p j))) (hfit : fits (ty j) (.ref (Γ.1 (mx_MR p j))) = true) (hp : p < σ.1) (hp1 : 1 ≤ p) (hdg : decode M.2.1 pc = .ok (.putfield index, 3)) (hq : pc + 3 = q)
    (k : mx_G Γ κ M Q q L S (σ.1, mx_ub σ.2.1 p j, σ.2.2) cells slots) : mx_G Γ κ M Q pc L (.ref r :: .ref p :: S) σ cells slots := by
  subst hq
  subst hr
  intro H locs ls hR ho hl
  obtain ⟨hx, hb, hml, hown, hts, hK, hlk, hRm, hrt, hnm⟩ := hC
  obtain ⟨hc, hk, hw, hu⟩ := hF
  have hap := mx_apart hts hu hY hK.1 hc
  obtain ⟨cell, q1, q2, q3, q4⟩ := (hR.2.2.2.2 p hp).2.2.2.2 ci N hsh
  obtain ⟨v, v1, v2, v3⟩ := q4 j hk
  obtain ⟨hS, hfc, kC, hkC, hkind⟩ := hK.1.1 ci _ hc
  obtain ⟨cf, kf, fi, f, hi, hsl⟩ := hS j hk
  have hd := hY.1 j hk
  have hlay := hts _ (hu _ (u_in_lay hk))
  unfold u_lay at hlay
  rw [if_neg (by rw [hfin]; decide)] at hlay
  have hst := (u_facts hfc hkC (u_lays hts hu hk) hi).1
  have h6 := u_store hfc hkC hkind hlay hi hd hn hfit
  refine W.putK hx hb (f := f) ⟨hown, hts _ hw, ⟨_, _, _, hi⟩, hst⟩ (by rw [q2]; exact h6) q1 q3 (by rw [hsl]; exact k2_hasslot v1) rfl rfl hdg fun H' e1 e2 e3 => ?_
  rw [hsl] at e1 ⊢
  refine k H' _ ls (mx_Rep.upd (p := p) hR rfl e2 e3 ⟨fun _ h => absurd (mx_shq hsh h).1 (by omega), fun _ h => absurd (mx_shq hsh h).1 (by omega), fun _ h => absurd (mx_shq hsh h).1 (by omega), fun _ h => absurd (mx_shq hsh h).1 (by omega), fun t n h => ?_⟩ (fun _ _ _ => rfl) (fun r hr i => by simp [mx_ub, hr])) ?_ hl
  · obtain ⟨ea, eb⟩ := mx_shq hsh h
    obtain rfl : ci = t := by omega
    subst eb
    refine ⟨_, e1, q2, q3, fun i hi2 => ?_⟩
    by_cases e : i = j
    · subst e
      refine ⟨_, Cell.slots_setSlot_self _ (k2_hasslot v1), fun h => (by rw [hI] at h; cases h), fun _ _ => rfl⟩
    · obtain ⟨z, z1, z2, z3⟩ := q4 i hi2
      refine ⟨z, by rw [slot_ne _ _ (hap j i hk hi2 (Ne.symm e)), z1], z2, fun h1 h2 => z3 h1 (by simpa [mx_ub, e] using h2)⟩
  · intro y hy
    rcases List.mem_append.mp hy with h | h
    · exact ho y h
    · rw [List.mem_singleton.mp h]
      exact mx_base hR.2.2.1 hp1
theorem x_putrF (hC : mx_Ctx Γ κ M) {ci j N index p : Nat} {C : String} {T : u_T} {ty : Nat → FieldType} (hF : mx_F M.1.cls index ci j C T N) (hY : mx_Y T N ty) (hfin : (T j).2.2.2 = true) (hin : M.1.name = "<init>") (hdecl : (T j).1 = M.1.cls) (hsh : mx_SH p = (ci + 4, N)) (hI : mx_isI ci j = false) {r : Nat} (hr : mx_MR p j = r) (hn : narrow (ty j) (.ref (Γ.1 (mx_MR p j))) = .ref (Γ.1 (mx_MR p j))) (hfit : fits (ty j) (.ref (Γ.1 (mx_MR p j))) = true) (hp : p < σ.1) (hp1 : 1 ≤ p) (hdg : decode M.2.1 pc = .ok (.putfield index, 3)) (hq : pc + 3 = q)
    (k : mx_G Γ κ M Q q L S (σ.1, mx_ub σ.2.1 p j, σ.2.2) cells slots) : mx_G Γ κ M Q pc L (.ref r :: .ref p :: S) σ cells slots := by
  subst hq
  subst hr
  intro H locs ls hR ho hl
  obtain ⟨hx, hb, hml, hown, hts, hK, hlk, hRm, hrt, hnm⟩ := hC
  obtain ⟨hc, hk, hw, hu⟩ := hF
  have hap := mx_apart hts hu hY hK.1 hc
  obtain ⟨cell, q1, q2, q3, q4⟩ := (hR.2.2.2.2 p hp).2.2.2.2 ci N hsh
  obtain ⟨v, v1, v2, v3⟩ := q4 j hk
  obtain ⟨hS, hfc, kC, hkC, hkind⟩ := hK.1.1 ci _ hc
  obtain ⟨cf, kf, fi, f, hi, hsl⟩ := hS j hk
  have hd := hY.1 j hk
  have hlay := hts _ (hu _ (u_in_lay hk))
  unfold u_lay at hlay
  rw [if_pos hfin] at hlay
  have hst := (u_facts hfc hkC (u_lays hts hu hk) hi).1
  have hcf : (mx_m κ).cls = cf := by
    obtain ⟨_, _, c', _, _, _, -, -, hf', -, -, -, hown2, -⟩ := Cond.laysFinal_spec hlay
    have e1 : c' = cf := by have := hi.symm.trans hf'; simp at this; exact this.1.symm
    rw [hdecl] at hown2
    rw [← e1]; exact Option.some.inj (hown.symm.trans hown2)
  have h6 := u_fits hfc hkC hkind (Or.inr hlay) hi hd hn hfit
  refine W.putFinK hx hb hown (hts _ hw) hi hst hcf (hnm.trans hin) (by rw [q2]; exact h6) q1 q3 (by rw [hsl]; exact k2_hasslot v1) rfl rfl hdg fun H' e1 e2 e3 => ?_
  rw [hsl] at e1 ⊢
  refine k H' _ ls (mx_Rep.upd (p := p) hR rfl e2 e3 ⟨fun _ h => absurd (mx_shq hsh h).1 (by omega), fun _ h => absurd (mx_shq hsh h).1 (by omega), fun _ h => absurd (mx_shq hsh h).1 (by omega), fun _ h => absurd (mx_shq hsh h).1 (by omega), fun t n h => ?_⟩ (fun _ _ _ => rfl) (fun r hr i => by simp [mx_ub, hr])) ?_ hl
  · obtain ⟨ea, eb⟩ := mx_shq hsh h
    obtain rfl : ci = t := by omega
    subst eb
    refine ⟨_, e1, q2, q3, fun i hi2 => ?_⟩
    by_cases e : i = j
    · subst e
      refine ⟨_, Cell.slots_setSlot_self _ (k2_hasslot v1), fun h => (by rw [hI] at h; cases h), fun _ _ => rfl⟩
    · obtain ⟨z, z1, z2, z3⟩ := q4 i hi2
      refine ⟨z, by rw [slot_ne _ _ (hap j i hk hi2 (Ne.symm e)), z1], z2, fun h1 h2 => z3 h1 (by simpa [mx_ub, e] using h2)⟩
  · intro y hy
    rcases List.mem_append.mp hy with h | h
    · exact ho y h
    · rw [List.mem_singleton.mp h]
      exact mx_base hR.2.2.1 hp1
theorem x_iald (hC : mx_Ctx Γ κ M) {p n : Nat} {i : Int32} (j : Nat) (hsh : mx_SH p = (0, n)) (hp : p < σ.1) (hi : i = nI j) (hj : j < n) (hn : n < 2 ^ 31) (hdg : decode M.2.1 pc = .ok (.iaload, 1)) (hq : pc + 1 = q)
    (k : mx_G Γ κ M Q q L (.int (σ.2.2 p j) :: S) σ cells slots) : mx_G Γ κ M Q pc L (.int i :: .ref p :: S) σ cells slots := by
  subst hq
  subst hi
  skip
  intro H locs ls hR ho hl
  have hc := (hR.2.2.2.2 p hp).1 n hsh
  exact W.iald (v := .int (σ.2.2 p j)) hC.1 hC.2.1 hc ((hC.2.2.2.2.2.1.1.2 0 _ rfl).1 n _) (fun z => by cases z) (by rw [arrV_size]; exact nI_in hj hn) (by rw [nI_clamp (Nat.lt_trans hj hn), arrV_read _ _ hj]) rfl rfl hdg (k H locs ls hR ho hl)
theorem x_zald (hC : mx_Ctx Γ κ M) {p n : Nat} {i : Int32} (j : Nat) (hsh : mx_SH p = (1, n)) (hp : p < σ.1) (hi : i = nI j) (hj : j < n) (hn : n < 2 ^ 31) (hdg : decode M.2.1 pc = .ok (.baload, 1)) (hq : pc + 1 = q)
    (k : mx_G Γ κ M Q q L (.int (σ.2.2 p j) :: S) σ cells slots) : mx_G Γ κ M Q pc L (.int i :: .ref p :: S) σ cells slots := by
  subst hq
  subst hi
  skip
  intro H locs ls hR ho hl
  have hc := (hR.2.2.2.2 p hp).2.1 n hsh
  exact W.zald (v := .int (σ.2.2 p j)) hC.1 hC.2.1 hc ((hC.2.2.2.2.2.1.1.2 1 _ rfl).1 n _) (fun z => by cases z) (by rw [arrV_size]; exact nI_in hj hn) (by rw [nI_clamp (Nat.lt_trans hj hn), arrV_read _ _ hj]) rfl rfl hdg (k H locs ls hR ho hl)
theorem x_aald (hC : mx_Ctx Γ κ M) {p n : Nat} {i : Int32} (j : Nat) {r : Nat} (hr : mx_MR p j = r) (hsh : mx_SH p = (2, n)) (hp : p < σ.1) (hi : i = nI j) (hj : j < n) (hn : n < 2 ^ 31) (hdg : decode M.2.1 pc = .ok (.aaload, 1)) (hq : pc + 1 = q)
    (k : mx_G Γ κ M Q q L (.ref r :: S) σ cells slots) : mx_G Γ κ M Q pc L (.int i :: .ref p :: S) σ cells slots := by
  subst hq
  subst hi
  subst hr
  intro H locs ls hR ho hl
  have hc := (hR.2.2.2.2 p hp).2.2.1 n hsh
  exact W.aald (v := .ref (Γ.1 (mx_MR p j))) hC.1 hC.2.1 hc ((hC.2.2.2.2.2.1.1.2 2 _ rfl).1 n _) rfl (fun z => by cases z) (by rw [arrV_size]; exact nI_in hj hn) (by rw [nI_clamp (Nat.lt_trans hj hn), arrV_read _ _ hj]) rfl rfl hdg (k H locs ls hR ho hl)
theorem x_iast (hC : mx_Ctx Γ κ M) {p n : Nat} {i x : Int32} (j : Nat) (hsh : mx_SH p = (0, n)) (hp : p < σ.1) (hp1 : 1 ≤ p) (hi : i = nI j) (hj : j < n) (hn : n < 2 ^ 31) (hdg : decode M.2.1 pc = .ok (.iastore, 1)) (hq : pc + 1 = q)
    (k : mx_G Γ κ M Q q L S (σ.1, σ.2.1, mx_up σ.2.2 p j x) cells slots) : mx_G Γ κ M Q pc L (.int x :: .int i :: .ref p :: S) σ cells slots := by
  subst hq
  subst hi
  intro H locs ls hR ho hl
  have hc := (hR.2.2.2.2 p hp).1 n hsh
  refine W.iast (j := nI j) (x := x) hC.1 hC.2.1 hc ((hC.2.2.2.2.2.1.1.2 0 _ rfl).1 n _) (fun z => by cases z) (by rw [arrV_size]; exact nI_in hj hn) rfl rfl hdg fun H1 e1 e2 e3 => ?_
  rw [nI_clamp (Nat.lt_trans hj hn)] at e1 ⊢
  refine k H1 _ ls (mx_Rep.upd (p := p) hR rfl e2 e3 ⟨fun m h => ?_, fun _ h => absurd (mx_shq hsh h).1 (by omega), fun _ h => absurd (mx_shq hsh h).1 (by omega), fun _ h => absurd (mx_shq hsh h).1 (by omega), fun _ _ h => absurd (mx_shq hsh h).1 (by omega)⟩ (fun r hr i => by simp [mx_up, hr]) (fun _ _ _ => rfl)) ?_ hl
  · obtain ⟨-, rfl⟩ := mx_shq hsh h
    rw [e1, arrV_store]
    refine congrArg some (congrArg (arrV _ n) (funext fun r => ?_))
    by_cases e : r = j
    · subst e
      simp [updV, mx_up]
    · simp [updV, mx_up, e]
  · intro y hy
    rcases List.mem_append.mp hy with h | h
    · exact ho y h
    · rw [List.mem_singleton.mp h]
      exact mx_base hR.2.2.1 hp1
theorem x_zast (hC : mx_Ctx Γ κ M) {p n : Nat} {i x : Int32} (j : Nat) (hsh : mx_SH p = (1, n)) (hp : p < σ.1) (hp1 : 1 ≤ p) (hi : i = nI j) (hj : j < n) (hn : n < 2 ^ 31) (hz : narrow .boolean (.int x) = .int x) (hdg : decode M.2.1 pc = .ok (.bastore, 1)) (hq : pc + 1 = q)
    (k : mx_G Γ κ M Q q L S (σ.1, σ.2.1, mx_up σ.2.2 p j x) cells slots) : mx_G Γ κ M Q pc L (.int x :: .int i :: .ref p :: S) σ cells slots := by
  subst hq
  subst hi
  intro H locs ls hR ho hl
  have hc := (hR.2.2.2.2 p hp).2.1 n hsh
  refine W.zast (j := nI j) (x := x) hC.1 hC.2.1 hc ((hC.2.2.2.2.2.1.1.2 1 _ rfl).1 n _) (fun z => by cases z) (by rw [arrV_size]; exact nI_in hj hn) rfl rfl hdg fun H1 e1 e2 e3 => ?_
  rw [nI_clamp (Nat.lt_trans hj hn)] at e1 ⊢
  refine k H1 _ ls (mx_Rep.upd (p := p) hR rfl e2 e3 ⟨fun _ h => absurd (mx_shq hsh h).1 (by omega), fun m h => ?_, fun _ h => absurd (mx_shq hsh h).1 (by omega), fun _ h => absurd (mx_shq hsh h).1 (by omega), fun _ _ h => absurd (mx_shq hsh h).1 (by omega)⟩ (fun r hr i => by simp [mx_up, hr]) (fun _ _ _ => rfl)) ?_ hl
  · obtain ⟨-, rfl⟩ := mx_shq hsh h
    rw [e1, hz, arrV_store]
    refine congrArg some (congrArg (arrV _ n) (funext fun r => ?_))
    by_cases e : r = j
    · subst e
      simp [updV, mx_up]
    · simp [updV, mx_up, e]
  · intro y hy
    rcases List.mem_append.mp hy with h | h
    · exact ho y h
    · rw [List.mem_singleton.mp h]
      exact mx_base hR.2.2.1 hp1
theorem x_alen (hC : mx_Ctx Γ κ M) {p n : Nat} {v : Int32} (hsh : mx_SH p = (0, n)) (hp : p < σ.1) (hv : Int32.ofNat n = v) (hdg : decode M.2.1 pc = .ok (.arraylength, 1)) (hq : pc + 1 = q)
    (k : mx_G Γ κ M Q q L (.int v :: S) σ cells slots) : mx_G Γ κ M Q pc L (.ref p :: S) σ cells slots := by
  subst hq
  subst hv
  intro H locs ls hR ho hl
  have hc := (hR.2.2.2.2 p hp).1 n hsh
  exact W.alen (n := Int32.ofNat n) hC.1 hC.2.1 hc ((hC.2.2.2.2.2.1.1.2 0 _ rfl).1 n _) (by rw [arrV_size] <;> rfl) rfl rfl hdg (k H locs ls hR ho hl)
/-- the script -/
theorem x_sld (hC : mx_Ctx Γ κ M) {p n : Nat} {i : Int32} (j : Nat) (hsh : mx_SH p = (3, n)) (hp : p < σ.1) (hi : i = nI j) (hj : j < Γ.2.2.2) (hn : Γ.2.2.2 < 2 ^ 31) (hdg : decode M.2.1 pc = .ok (.iaload, 1)) (hq : pc + 1 = q)
    (k : mx_G Γ κ M Q q L (.int (σ.2.2 p j) :: S) σ cells slots) : mx_G Γ κ M Q pc L (.int i :: .ref p :: S) σ cells slots := by
  subst hq
  subst hi
  intro H locs ls hR ho hl
  obtain ⟨scr, s1, s2, s3, s4, s5, s6⟩ := (hR.2.2.2.2 p hp).2.2.2.1 n hsh
  obtain ⟨k0, comp, g1, g2⟩ := hC.2.2.2.2.2.1.2.2.2
  exact W.iald (v := .int (σ.2.2 p j)) hC.1 hC.2.1 s1 ⟨s3, k0, by rw [s2]; exact g1, comp, g2⟩ s4 (by rw [s5]; exact nI_in hj hn) (by rw [nI_clamp (Nat.lt_trans hj hn)]; exact s6 j hj) rfl rfl hdg (k H locs ls hR ho hl)
theorem x_slen (hC : mx_Ctx Γ κ M) {p n : Nat} {v : Int32} (hsh : mx_SH p = (3, n)) (hp : p < σ.1) (hv : Int32.ofNat Γ.2.2.2 = v) (hdg : decode M.2.1 pc = .ok (.arraylength, 1)) (hq : pc + 1 = q)
    (k : mx_G Γ κ M Q q L (.int v :: S) σ cells slots) : mx_G Γ κ M Q pc L (.ref p :: S) σ cells slots := by
  subst hq
  subst hv
  intro H locs ls hR ho hl
  obtain ⟨scr, s1, s2, s3, s4, s5, s6⟩ := (hR.2.2.2.2 p hp).2.2.2.1 n hsh
  obtain ⟨k0, comp, g1, g2⟩ := hC.2.2.2.2.2.1.2.2.2
  exact W.alen (n := Int32.ofNat Γ.2.2.2) hC.1 hC.2.1 s1 ⟨s3, k0, by rw [s2]; exact g1, comp, g2⟩ (by rw [s5] <;> rfl) rfl rfl hdg (k H locs ls hR ho hl)
theorem mx_Rep.push {Γ : mx_X} {σ τ : mx_S} {H H1 : Heap} (n : Nat) (hR : mx_Rep Γ σ H) (hn : τ.1 = σ.1 + n) (hz : H1.size = H.size + n) (ho : ∀ a : Nat, a < H.size → H1[a]? = H[a]?) (hc : ∀ i, i < n → mx_cell Γ τ (σ.1 + i) H1)
    (hi : ∀ r, r < σ.1 → ∀ j, τ.2.2 r j = σ.2.2 r j) (hu : ∀ r, r < σ.1 → ∀ j, τ.2.1 r j = σ.2.1 r j) : mx_Rep Γ τ H1 := by
  obtain ⟨h1, h2, h3, h4, h5⟩ := hR
  refine ⟨by rw [hn]; omega, h2, h3, by rw [hz, hn, h4, mx_adS h3 h1], fun r hr => ?_⟩
  by_cases e : r < σ.1
  · refine (h5 r e).kept (ho _ ?_) (hi r e) (hu r e)
    rw [h4]
    rcases Nat.eq_zero_or_pos r with h0 | h0
    · subst h0
      have := mx_base h3 h1
      omega
    · have := mx_adS h3 h0 (σ.1 - r)
      rw [show r + (σ.1 - r) = σ.1 by omega] at this
      omega
  · have := hc (r - σ.1) (by rw [hn] at hr; omega)
    rwa [show σ.1 + (r - σ.1) = r by omega] at this
/-- what 'new' asks of the tables -/
def mx_sN (M : mx_M) (index ci : Nat) (C : String) (T : u_T) (N : Nat) (ty : Nat → FieldType) : Prop := vwCl[ci]? = some (C, T, N) ∧ (∀ x ∈ u_ws C T N, x ∈ mx_WS) ∧ mx_Y T N ty ∧ (∀ j, j < N → mx_isI ci j = true → defaultValue (ty j) = .int 0) ∧
  Cond.classLink M.1.cls index C ∈ mx_WS ∧ Cond.instantiable C N ∈ mx_WS ∧ Cond.initialized C ∈ mx_WS
theorem x_new (hC : mx_Ctx Γ κ M) {ci N index c1 s1 p : Nat} {C : String} {T : u_T} {ty : Nat → FieldType} (hs : mx_sN M index ci C T N ty) (hsh : mx_SH p = (ci + 4, N)) (hp : σ.1 = p) (hc1 : cells + 1 = c1) (hs1 : slots + N = s1) (hcr : c1 ≤ M.2.2.2.2.cells) (hsr : s1 ≤ M.2.2.2.2.slots) (hdg : decode M.2.1 pc = .ok (.new index, 3)) (hq : pc + 3 = q)
    (k : mx_G Γ κ M Q q L (.ref p :: S) (p + 1, mx_zu σ.2.1 p ci, mx_zr σ.2.2 p) c1 s1) : mx_G Γ κ M Q pc L S σ cells slots := by
  subst hq
  subst hc1
  subst hs1
  subst hp
  intro H locs ls hR ho hl
  obtain ⟨hcl, hu, hY, hd, hw1, hw2, hw3⟩ := hs
  obtain ⟨hx, hb, hml, hown, hts, hK, hlk, hRm, -⟩ := hC
  have hKn := hK.1.1 ci _ hcl
  refine W.newcK hx hb hown (hts _ hw1) (hts _ hw2) (hts _ hw3) rfl hdg (by rw [hRm]; exact hcr) (by rw [hRm]; exact hsr) hKn.2.1 hR.2.2.2.1 fun H1 kC hkC e1 z1 o1 => ?_
  refine k H1 locs ls (mx_Rep.push 1 hR rfl (by rw [z1, hR.2.2.2.1]) (fun a ha => o1 a (by rw [← hR.2.2.2.1]; exact ha)) (fun i hi => ?_) (fun r hr j => by simp [mx_zr, Nat.ne_of_lt hr]) (fun r hr j => by simp [mx_zu, Nat.ne_of_lt hr])) ho hl
  have h0 : i = 0 := by omega
  subst h0
  refine ⟨fun _ h => absurd (mx_shq hsh h).1 (by omega), fun _ h => absurd (mx_shq hsh h).1 (by omega), fun _ h => absurd (mx_shq hsh h).1 (by omega), fun _ h => absurd (mx_shq hsh h).1 (by omega), fun t n h => ?_⟩
  obtain ⟨ea, eb⟩ := mx_shq hsh h
  obtain rfl : ci = t := by omega
  subst eb
  obtain ⟨cell, g1, g2, g3, g4⟩ := u_born ty hts hu hKn hkC e1 hY.1
  refine ⟨cell, g1, g2, g3, fun j hj => ⟨_, g4 j hj, fun h => ?_, fun h h2 => ?_⟩⟩
  · show defaultValue (ty j) = _
    rw [hd j hj h]
    simp [mx_zr]
  · simp [mx_zu] at h2
    rw [h] at h2
    cases h2
theorem x_newi (hC : mx_Ctx Γ κ M) {N c1 s1 p : Nat} {n : Int32} (hw : Cond.arrayClass .int ∈ mx_WS) (hsh : mx_SH p = (0, N)) (hp : σ.1 = p) (hn : n = nI N) (hN : N < 1000) (hc1 : cells + 1 = c1) (hs1 : slots + N = s1) (hcr : c1 ≤ M.2.2.2.2.cells) (hsr : s1 ≤ M.2.2.2.2.slots) (hdg : decode M.2.1 pc = .ok (.newarray .int, 2)) (hq : pc + 2 = q)
    (k : mx_G Γ κ M Q q L (.ref p :: S) (p + 1, σ.2.1, mx_zr σ.2.2 p) c1 s1) : mx_G Γ κ M Q pc L (.int n :: S) σ cells slots := by
  subst hq
  subst hc1
  subst hs1
  subst hp
  subst hn
  intro H locs ls hR ho hl
  obtain ⟨hx, hb, hml, hown, hts, hK, hlk, hRm, -⟩ := hC
  refine va_newaK (N := N) hx hb (atype := .int) (hts _ hw) rfl hdg rfl (nI_pos (by omega)) (nI_clamp (by omega)) (by show N * 4 ≤ _; omega) (by rw [hRm]; exact hcr) (by rw [hRm]; exact hsr) hR.2.2.2.1 fun H1 cA e1 z1 o1 hAr hNm => ?_
  have hcA : Γ.2.2.1 0 = cA := by
    have h9 := (hK.1.2 0 _ rfl).2
    exact Option.some.inj (h9.symm.trans hNm)
  refine k H1 locs ls (mx_Rep.push 1 hR rfl (by rw [z1, hR.2.2.2.1]) (fun a ha => o1 a (by rw [← hR.2.2.2.1]; exact ha)) (fun i hi => ?_) (fun r hr j => by simp [mx_zr, Nat.ne_of_lt hr]) (fun r hr j => rfl)) ho hl
  have h0 : i = 0 := by omega
  subst h0
  refine ⟨fun m h => ?_, fun _ h => absurd (mx_shq hsh h).1 (by omega), fun _ h => absurd (mx_shq hsh h).1 (by omega), fun _ h => absurd (mx_shq hsh h).1 (by omega), fun _ _ h => absurd (mx_shq hsh h).1 (by omega)⟩
  obtain ⟨-, rfl⟩ := mx_shq hsh h
  rw [Nat.add_zero, e1, hcA]
  refine congrArg some (congrArg (arrV _ N) (funext fun r => ?_))
  simp [mx_zr]
  try rfl
theorem x_newz (hC : mx_Ctx Γ κ M) {N c1 s1 p : Nat} {n : Int32} (hw : Cond.arrayClass .boolean ∈ mx_WS) (hsh : mx_SH p = (1, N)) (hp : σ.1 = p) (hn : n = nI N) (hN : N < 1000) (hc1 : cells + 1 = c1) (hs1 : slots + N = s1) (hcr : c1 ≤ M.2.2.2.2.cells) (hsr : s1 ≤ M.2.2.2.2.slots) (hdg : decode M.2.1 pc = .ok (.newarray .boolean, 2)) (hq : pc + 2 = q)
    (k : mx_G Γ κ M Q q L (.ref p :: S) (p + 1, σ.2.1, mx_zr σ.2.2 p) c1 s1) : mx_G Γ κ M Q pc L (.int n :: S) σ cells slots := by
  subst hq
  subst hc1
  subst hs1
  subst hp
  subst hn
  intro H locs ls hR ho hl
  obtain ⟨hx, hb, hml, hown, hts, hK, hlk, hRm, -⟩ := hC
  refine va_newaK (N := N) hx hb (atype := .boolean) (hts _ hw) rfl hdg rfl (nI_pos (by omega)) (nI_clamp (by omega)) (by show N * 1 ≤ _; omega) (by rw [hRm]; exact hcr) (by rw [hRm]; exact hsr) hR.2.2.2.1 fun H1 cA e1 z1 o1 hAr hNm => ?_
  have hcA : Γ.2.2.1 1 = cA := by
    have h9 := (hK.1.2 1 _ rfl).2
    exact Option.some.inj (h9.symm.trans hNm)
  refine k H1 locs ls (mx_Rep.push 1 hR rfl (by rw [z1, hR.2.2.2.1]) (fun a ha => o1 a (by rw [← hR.2.2.2.1]; exact ha)) (fun i hi => ?_) (fun r hr j => by simp [mx_zr, Nat.ne_of_lt hr]) (fun r hr j => rfl)) ho hl
  have h0 : i = 0 := by omega
  subst h0
  refine ⟨fun _ h => absurd (mx_shq hsh h).1 (by omega), fun m h => ?_, fun _ h => absurd (mx_shq hsh h).1 (by omega), fun _ h => absurd (mx_shq hsh h).1 (by omega), fun _ _ h => absurd (mx_shq hsh h).1 (by omega)⟩
  obtain ⟨-, rfl⟩ := mx_shq hsh h
  rw [Nat.add_zero, e1, hcA]
  refine congrArg some (congrArg (arrV _ N) (funext fun r => ?_))
  simp [mx_zr]
  try rfl
theorem x_mna (hC : mx_Ctx Γ κ M) {N N2 c1 s1 p index : Nat} {n n2 : Int32} (hw : Cond.arrayClass .int ∈ mx_WS) (hw2 : Cond.classLink M.1.cls index "[[I" ∈ mx_WS) (hsh : mx_SH p = (2, N)) (hrow : ∀ i, i < N → mx_SH (p + 1 + i) = (0, N2) ∧ mx_MR p i = p + 1 + i) (hp : σ.1 = p) (hn : n = nI N) (hN : N < 1000) (hn2 : n2 = nI N2) (hN2 : N2 < 1000) (hc1 : cells + 1 + N = c1) (hs1 : slots + N + N * N2 = s1) (hcr : c1 ≤ M.2.2.2.2.cells) (hsr : s1 ≤ M.2.2.2.2.slots) (hdg : decode M.2.1 pc = .ok (.multianewarray index 2, 4)) (hq : pc + 4 = q)
    (k : mx_G Γ κ M Q q L (.ref p :: S) (p + 1 + N, σ.2.1, mx_zs σ.2.2 (p + 1) N) c1 s1) : mx_G Γ κ M Q pc L (.int n2 :: .int n :: S) σ cells slots := by
  subst hq
  subst hc1
  subst hs1
  subst hp
  subst hn
  subst hn2
  intro H locs ls hR ho hl T hT X
  obtain ⟨hx, hb, hml, hown, hts, hK, hlk, hRm, -⟩ := hC
  have c1 : (nI N).toNatClampNeg = N := nI_clamp (by omega)
  have c2 : (nI N2).toNatClampNeg = N2 := nI_clamp (by omega)
  obtain ⟨vm1, cA, comp, -, fA, fC, hO, -, X', step⟩ := X.multianewarray2F hx (ty := .int) hown (hts _ hw2) hK.2.2.1 (hts _ hw) (g := F0 (mx_m κ) pc ls (.int (nI N2) :: .int (nI N) :: S.map (mx_v Γ.1))) rfl (by rw [hb]; exact hdg) rfl (nI_pos (by omega)) (nI_pos (by omega)) (by rw [c1]; omega) (by rw [c2]; show N2 * 4 ≤ _; omega) (by rw [c2]; omega) rfl rfl (by rw [hRm, c1]; omega) (by rw [hRm, c1, c2]; omega)
  rw [c1, c2] at X' step
  generalize hF : Jvm.Free.Multi.fill (T.setVm vm1) cA comp N N2 (defaultValue .int) N = F at X' step
  have hTh : (T.setVm vm1).heap = H := hT
  obtain ⟨f1, f2, -, -⟩ := Jvm.Free.Multi.fill_facts (T.setVm vm1) cA comp N N2 (defaultValue .int) N
  rw [hF, hTh] at f1 f2
  have hold : ∀ x : Nat, x < H.size → F.heap[x]? = H[x]? := fun x hx => by
    have := Jvm.Free.Multi.fill_old (T.setVm vm1) cA comp N N2 (defaultValue .int) (a := x) (by rw [hTh]; exact hx) N
    rw [hF, hTh] at this
    exact this
  have hrow2 : ∀ j : Nat, j < N → F.heap[H.size + 1 + j]? = some (Jvm.Free.Multi.innerC comp N2 (defaultValue .int)) := fun j hj => by
    have := Jvm.Free.Multi.fill_inner (T.setVm vm1) cA comp N N2 (defaultValue .int) N j hj
    rw [hF, hTh] at this
    exact this
  have hcI : Γ.2.2.1 0 = comp := by
    have h9 := (hK.1.2 0 _ rfl).2
    exact Option.some.inj (h9.symm.trans fC)
  have hcA : Γ.2.2.1 2 = cA := by
    have h9 := (hK.1.2 2 _ rfl).2
    exact Option.some.inj (h9.symm.trans fA)
  have had : ∀ i, Γ.1 (σ.1 + i) = H.size + i := fun i => by rw [mx_adS hR.2.2.1 hR.1, hR.2.2.2.1]
  have hRep : mx_Rep Γ (σ.1 + 1 + N, σ.2.1, mx_zs σ.2.2 (σ.1 + 1) N) F.heap := by
    refine mx_Rep.push (1 + N) hR (by show σ.1 + 1 + N = _; omega) (by rw [f1]; omega) hold (fun i hi => ?_) (fun r hr j => if_neg (show ¬ (σ.1 + 1 ≤ r ∧ r < σ.1 + 1 + N) by omega)) (fun _ _ _ => rfl)
    rcases Nat.eq_zero_or_pos i with h0 | h0
    · subst h0
      refine ⟨fun _ h => absurd (mx_shq hsh h).1 (by omega), fun _ h => absurd (mx_shq hsh h).1 (by omega), fun m h => ?_, fun _ h => absurd (mx_shq hsh h).1 (by omega), fun _ _ h => absurd (mx_shq hsh h).1 (by omega)⟩
      obtain ⟨-, rfl⟩ := mx_shq hsh h
      rw [Nat.add_zero, ← hR.2.2.2.1, f2, mx_outer, hcA]
      refine congrArg some (mx_arrV fun r hr => ?_)
      have e9 : Γ.1 (mx_MR σ.1 r) = H.size + 1 + r := by
        rw [(hrow r hr).2, show σ.1 + 1 + r = σ.1 + (1 + r) by omega, had]
        omega
      rw [if_pos hr, e9]
    · obtain ⟨r, rfl⟩ : ∃ r, i = 1 + r := ⟨i - 1, by omega⟩
      have hr : r < N := by omega
      have e0 : σ.1 + (1 + r) = σ.1 + 1 + r := by omega
      have hs := (hrow r hr).1
      rw [e0]
      refine ⟨fun m h => ?_, fun _ h => absurd (mx_shq hs h).1 (by omega), fun _ h => absurd (mx_shq hs h).1 (by omega), fun _ h => absurd (mx_shq hs h).1 (by omega), fun _ _ h => absurd (mx_shq hs h).1 (by omega)⟩
      obtain ⟨-, rfl⟩ := mx_shq hs h
      have ha : Γ.1 (σ.1 + 1 + r) = H.size + 1 + r := by rw [← e0, had]; omega
      rw [ha, hrow2 r hr, hcI]
      show some ({ cls := comp, slots := Array.replicate N2 (.int 0), vm := .none } : Cell) = _
      rw [arrV_new]
      refine congrArg some (congrArg (arrV _ N2) (funext fun z => ?_))
      have : σ.1 + 1 ≤ σ.1 + 1 + r ∧ σ.1 + 1 + r < σ.1 + 1 + N := by omega
      simp [mx_zs, this]
  obtain ⟨t, a1, b1⟩ := k F.heap locs ls hRep ho hl F rfl X'
  refine ⟨t, step t ?_, b1⟩
  rw [hT, hR.2.2.2.1]
  exact a1
theorem x_sub (ks : List Nat) (hk : ks.filterMap (fun i => L[i]?) = L1) (k : mx_G Γ κ M Q pc L1 S σ cells slots) : mx_G Γ κ M Q pc L S σ cells slots := by
  intro H locs ls hR ho hl
  refine k H locs ls hR ho ⟨hl.1, hl.2.1, fun q hq => ?_⟩
  subst hk
  obtain ⟨y, hy, rfl⟩ := List.mem_map.mp hq
  obtain ⟨i, -, hi⟩ := List.mem_filterMap.mp hy
  exact hl.2.2 _ (List.mem_map.mpr ⟨y, List.mem_of_getElem? hi, rfl⟩)
theorem x_close {nx : Nat} {u : Nat → Nat → Bool} {m1 m2 : mx_Mm} (k : mx_G Γ κ M Q pc L1 S (nx, u, m1) cells slots) (ks : List Nat) (hk : ks.filterMap (fun i => L[i]?) = L1) (hm : m2 = m1) : mx_G Γ κ M Q pc L S (nx, u, m2) cells slots := by
  subst hm
  exact x_sub ks hk k
theorem mx_nm {nx : Nat} {u : Nat → Nat → Bool} {m1 : mx_Mm} (k : ∀ m, m = m1 → mx_G Γ κ M Q pc L S (nx, u, m) cells slots) : mx_G Γ κ M Q pc L S (nx, u, m1) cells slots := k m1 rfl
end XR
/-- a contract: started with the values A in state σ the method ends, with an answer and a state for which P -/
def mx_Pc (Γ : mx_X) (A : List Value) (σ : mx_S) : Array Value → State → Prop := fun v U => v = (A.map (mx_v Γ.1)).toArray ∧ mx_Rep Γ σ U.heap ∧ mx_KK Γ U
def mx_Qc (Γ : mx_X) (P : Option Value → mx_S → Prop) : Array Value → State → Outcome → State → Prop := fun _ _ oc t => ∃ (r : Option Value) (τ : mx_S), oc = .returned (r.map (mx_v Γ.1)) ∧ P r τ ∧ mx_Rep Γ τ t.heap
def mx_fr (Γ : mx_X) : Addr → Prop := fun q => Γ.1 1 ≤ q
def mx_C (Γ : mx_X) (l : Launch) (M : mx_M) (A : List Value) (σ : mx_S) (P : Option Value → mx_S → Prop) : Prop :=
  Met l M.1 (.code M.1 M.2.1 M.2.2.1 M.2.2.2.1 :: mx_WS) M.2.2.2.2 (mx_Pc Γ A σ) (mx_Qc Γ P) M.2.2.2.2.cells M.2.2.2.2.slots (mx_fr Γ)
theorem mx_Pc_blind {Γ : mx_X} {A : List Value} {σ : mx_S} : FrameBlind (mx_Pc Γ A σ) := fun _ U g mk h => ⟨h.1, h.2.1, mx_KK.same (s := U) rfl h.2.2⟩
def mx_ar : Nat → List Value → List (Nat × Value)
  | _, [] => []
  | i, v :: vs => (i, v) :: mx_ar (i + 1) vs
theorem mx_args (ad : Nat → Nat) : ∀ (A : List Value) (i : Nat), (∀ v ∈ A, v.category = 1) → lv_args i (A.map (mx_v ad)) = mx_L ad (mx_ar i A) ∧ (lg_sl (A.map (mx_v ad))).length = A.length
  | [], i, _ => ⟨rfl, rfl⟩
  | v :: A, i, h => by
    have hv : (mx_v ad v).category = 1 := (mx_v_cat ad v).trans (h v List.mem_cons_self)
    have hc : ¬ (mx_v ad v).category = 2 := by omega
    obtain ⟨h1, h2⟩ := mx_args ad A (i + 1) (fun x hx => h x (List.mem_cons_of_mem _ hx))
    refine ⟨?_, ?_⟩
    · show (i, mx_v ad v) :: lv_args (if (mx_v ad v).category = 2 then i + 2 else i + 1) (A.map (mx_v ad)) = _
      rw [if_neg hc, h1]
      rfl
    · show ((if (mx_v ad v).category = 2 then [Slot.val (mx_v ad v), Slot.second] else [Slot.val (mx_v ad v)]) ++ lg_sl (A.map (mx_v ad))).length = _
      rw [if_neg hc, List.length_append, h2]
      simp [Nat.add_comm]
theorem mx_C.intro {Γ : mx_X} {l : Launch} {M : mx_M} {A : List Value} {σ : mx_S} {P : Option Value → mx_S → Prop} (hy : plainName M.1.cls = true) (hAb : (A.all fun v => v.category == 1) = true) (hn : A.length ≤ M.2.2.1)
    (body : ∀ κ : mx_K, mx_l κ = l → mx_Ctx Γ κ M → mx_G Γ κ M (MQ (mx_b κ) (mx_Qc Γ P) (mx_a κ) (mx_s κ) M.2.2.2.2.cells M.2.2.2.2.slots (mx_fr Γ)) 0 (mx_ar 0 A) [] σ 0 0) : mx_C Γ l M A σ P := by
  have hA : ∀ v ∈ A, v.category = 1 := fun v hv => by
    have := List.all_eq_true.mp hAb v hv
    simpa using this
  refine Met.ofW (cc := M.2.1) (maxL := M.2.2.1) (ret := M.2.2.2.1) hy rfl ?_
  intro p e s m args below meth c s1 B hml hv
  obtain ⟨rfl, hR, hK⟩ := hv
  have hts := atoms_spec (ws := .code M.1 M.2.1 M.2.2.1 M.2.2.2.1 :: mx_WS) B.pre
  obtain ⟨ha1, ha2⟩ := mx_args Γ.1 A 0 hA
  have hl := lv_entry (A.map (mx_v Γ.1)) (n := M.2.2.1) (by rw [ha2]; exact hn)
  rw [lg_entry_eq]
  rw [ha1] at hl
  exact body (p, l, e, M.2.2.2.2, s, m, (A.map (mx_v Γ.1)).toArray, below, meth, c) rfl ⟨B.exec, B.bytes, hml, findClass_of_methodNamed B.named, fun x hx => hts x (List.mem_cons_of_mem _ hx), hK, B.notSynchronized, rfl, B.returns, (name_of_methodNamed B.named B.method).1⟩ s.heap [] _ hR (fun q hq => by cases hq) hl
section XC
variable {Γ : mx_X} {κ : mx_K} {M M2 : mx_M} {Q : State → Prop} {pc q : Nat} {L : List (Nat × Value)} {A S S0 : List Value} {σ : mx_S} {cells slots c1 s1 : Nat} {P : Option Value → mx_S → Prop} {index : Nat}
theorem x_iret (hC : mx_Ctx Γ κ M) {v : Int32} {ty : FieldType} (hty : M.2.2.2.1 = some ty) (hn : narrow ty (.int v) = .int v) (hP : P (some (.int v)) σ) (hc : cells ≤ M.2.2.2.2.cells) (hs : slots ≤ M.2.2.2.2.slots) (hdg : decode M.2.1 pc = .ok (.ireturn, 1)) :
    mx_G Γ κ M (MQ (mx_b κ) (mx_Qc Γ P) (mx_a κ) (mx_s κ) M.2.2.2.2.cells M.2.2.2.2.slots (mx_fr Γ)) pc L [.int v] σ cells slots := by
  intro H locs ls hR ho hl
  refine W.widen hc hs ?_
  exact W.zret (v := v) (ty := ty) hC.1 hC.2.1 (hC.2.2.2.2.2.2.2.2.1.trans hty) hn (fun t ht hW => ⟨some (.int v), σ, rfl, hP, by rw [ht]; exact hR⟩) ho hdg hC.2.2.2.2.2.2.1
theorem x_vret (hC : mx_Ctx Γ κ M) (hty : M.2.2.2.1 = none) (hP : P none σ) (hc : cells ≤ M.2.2.2.2.cells) (hs : slots ≤ M.2.2.2.2.slots) (hdg : decode M.2.1 pc = .ok (.return_, 1)) :
    mx_G Γ κ M (MQ (mx_b κ) (mx_Qc Γ P) (mx_a κ) (mx_s κ) M.2.2.2.2.cells M.2.2.2.2.slots (mx_fr Γ)) pc L [] σ cells slots := by
  intro H locs ls hR ho hl
  refine W.widen hc hs ?_
  exact W.vret hC.1 hC.2.1 (hC.2.2.2.2.2.2.2.2.1.trans hty) (fun t ht hW => ⟨none, σ, rfl, hP, by rw [ht]; exact hR⟩) ho hdg hC.2.2.2.2.2.2.1
/-- what a call of M2 asks of the tables -/
def mx_cl (M2 : mx_M) (n : Nat) : Prop := Cond.code M2.1 M2.2.1 M2.2.2.1 M2.2.2.2.1 ∈ mx_WS ∧ Cond.initialized M2.1.cls ∈ mx_WS ∧ (M2.1.cls ≠ "java/lang/invoke/MethodHandle" ∧ M2.1.cls ≠ "java/lang/invoke/VarHandle" ∧ (parseMethodDescriptor M2.1.desc).map (fun d => d.parameters.length) = some n)
def mx_rm (M M2 : mx_M) : Prop := M2.2.2.2.2.frames + 1 ≤ M.2.2.2.2.frames ∧ 8 + (M2.2.2.1 + 11) + M2.2.2.2.2.locals ≤ M.2.2.2.2.locals
def mx_sS (M M2 : mx_M) (index n : Nat) : Prop := mx_cl M2 n ∧ mx_rm M M2 ∧ Cond.methodLink M.1.cls index M2.1 ∈ mx_WS ∧ Cond.static M2.1 ∈ mx_WS
def mx_sSN (M M2 : mx_M) (index n : Nat) (host : String) : Prop := mx_cl M2 n ∧ mx_rm M M2 ∧ Cond.methodLinkNest M.1.cls index M2.1 host ∈ lw_tbl ∧ Cond.static M2.1 ∈ mx_WS
def mx_sV (M M2 : mx_M) (index n ci N : Nat) (T : u_T) : Prop := mx_cl M2 n ∧ mx_rm M M2 ∧ Cond.methodLink M.1.cls index M2.1 ∈ mx_WS ∧ Cond.instanceMethod M2.1 ∈ mx_WS ∧ Cond.selects M2.1.cls M2.1 M2.1 ∈ mx_WS ∧ vwCl[ci]? = some (M2.1.cls, T, N)
def mx_sI (M M2 : mx_M) (index n : Nat) : Prop := M2.2.2.2.1 = none ∧ M2.1.name = "<init>" ∧ mx_cl M2 n ∧ mx_rm M M2 ∧ Cond.methodLink M.1.cls index M2.1 ∈ mx_WS ∧ Cond.instanceMethod M2.1 ∈ mx_WS
def mx_sIN (M M2 : mx_M) (index n : Nat) (host : String) : Prop := M2.2.2.2.1 = none ∧ M2.1.name = "<init>" ∧ mx_cl M2 n ∧ mx_rm M M2 ∧ Cond.methodLinkNest M.1.cls index M2.1 host ∈ lw_tbl ∧ Cond.instanceMethod M2.1 ∈ mx_WS
def mx_sO (M : mx_M) (index : Nat) : Prop := Cond.methodLink M.1.cls index objectInit ∈ mx_WS ∧ Cond.instanceMethod objectInit ∈ mx_WS ∧ Cond.code objectInit ⟨#[0xb1]⟩ 1 none ∈ mx_WS
theorem mx_roomS {st : List Value} (ad : Nat → Nat) (hcb : (st.all fun v => v.category == 1) = true) (h : st.length ≤ 8) : ((st.map (mx_v ad)).map fun v => v.category).sum ≤ 8 := by
  have hc : ∀ v ∈ st, v.category = 1 := fun v hv => by
    have := List.all_eq_true.mp hcb v hv
    simpa using this
  clear hcb
  have e : ((st.map (mx_v ad)).map fun v => v.category).sum = st.length := by
    clear h
    induction st with
    | nil => rfl
    | cons a t ih =>
      have h1 := ih (fun v hv => hc v (List.mem_cons_of_mem _ hv))
      have h2 : (mx_v ad a).category = 1 := (mx_v_cat ad a).trans (hc a List.mem_cons_self)
      simp only [List.map_cons, List.sum_cons, List.length_cons] at h1 ⊢
      rw [h1, h2]
      omega
  rw [e]
  exact h
theorem x_after {mc ms : Nat} {H : Heap} {locs : List Loc} {ls : Array Slot} {a : Array Value} {st0 : List Value} (hr : va_Run (mx_p κ) (mx_l κ) (mx_e κ) (mx_R κ) (mx_s κ) (mx_m κ) (mx_a κ) (mx_b κ) (mx_h κ) (mx_c κ) H locs cells slots mc ms (F0 (mx_m κ) pc ls st0) (S.map (mx_v Γ.1)) (mx_Qc Γ P a) (mx_fr Γ))
    (ho : ∀ q ∈ locs, Γ.1 1 ≤ q.base) (hl : lv_has ls M.2.2.1 (mx_L Γ.1 L)) (k : ∀ r τ, P r τ → mx_G Γ κ M Q (pc + 3) L (r.toList ++ S) τ (cells + mc) (slots + ms)) : mx_W κ H locs cells slots Q (F0 (mx_m κ) pc ls st0) := by
  intro T hT X
  obtain ⟨v, st₀, t, T', Lc, h0, X', hL, e1, e2, ⟨r, τ, hv, hP, hRep⟩, st⟩ := hr T hT X
  have hv2 : v = r.map (mx_v Γ.1) := Outcome.returned.inj hv
  subst hv2
  obtain ⟨t2, a1, b1⟩ := k r τ hP t.heap (locs ++ Lc) ls hRep (fun y hy => by
    rcases List.mem_append.mp hy with h | h
    · exact ho y h
    · exact hL y h) hl T' e1 X'
  refine ⟨t2, st t2 ?_, b1⟩
  have e : (r.toList ++ S).map (mx_v Γ.1) = (r.map (mx_v Γ.1)).toList ++ S.map (mx_v Γ.1) := by cases r <;> rfl
  rw [e] at a1
  exact a1
theorem x_callS (hC : mx_Ctx Γ κ M) (hM : mx_C Γ (mx_l κ) M2 A σ P) {n : Nat} (hs : mx_sS M M2 index n) (hn : A.length = n) (hst : S0 = A.reverse ++ S) (hS : (S.all fun v => v.category == 1) = true) (hS8 : S.length ≤ 8)
    (hc1 : cells + M2.2.2.2.2.cells = c1) (hs1 : slots + M2.2.2.2.2.slots = s1) (hcr : c1 ≤ M.2.2.2.2.cells) (hsr : s1 ≤ M.2.2.2.2.slots) (hdg : decode M.2.1 pc = .ok (.invokestatic index, 3)) (hq : pc + 3 = q)
    (k : ∀ r τ, P r τ → mx_G Γ κ M Q q L (r.toList ++ S) τ c1 s1) : mx_G Γ κ M Q pc L S0 σ cells slots := by
  subst hq
  subst hc1
  subst hs1
  subst hst
  obtain ⟨hcl, hrm, hlink, hstat⟩ := hs
  intro H locs ls hR ho hl
  obtain ⟨hx, hb, hml, hown, hts, hK, hlk, hRm, -⟩ := hC
  have cb := callB_of (R := mx_R κ) (bytes := M2.2.1) (maxL := M2.2.2.1) (ret := M2.2.2.2.1) (rm := M2.2.2.2.2) n hts (mx_goodIn hcl.1) rfl rfl rfl (hts _ hcl.2.1) (hts _ hlink) hcl.2.2 (by rw [hRm]; exact hrm)
  refine x_after (va_runS ⟨hx, hb, hml, hown, hts⟩ hM ⟨cb, hts _ hstat⟩ (As := A.map (mx_v Γ.1)) (rest := S.map (mx_v Γ.1)) ⟨mx_Pc_blind, fun U hU hW => ⟨rfl, by rw [hU]; exact hR, hK.warm hW⟩⟩ rfl (by rw [List.length_map]; exact hn) hl.1 (by show (A.reverse ++ S).map _ = _; rw [List.map_append, List.map_reverse]) (lv_room (mx_roomS Γ.1 hS hS8)) hdg ⟨by rw [hRm]; exact hcr, by rw [hRm]; exact hsr⟩) ho hl k
theorem x_callSN (hC : mx_Ctx Γ κ M) (hM : mx_C Γ (mx_l κ) M2 A σ P) {n : Nat} {host : String} (hs : mx_sSN M M2 index n host) (hn : A.length = n) (hst : S0 = A.reverse ++ S) (hS : (S.all fun v => v.category == 1) = true) (hS8 : S.length ≤ 8)
    (hc1 : cells + M2.2.2.2.2.cells = c1) (hs1 : slots + M2.2.2.2.2.slots = s1) (hcr : c1 ≤ M.2.2.2.2.cells) (hsr : s1 ≤ M.2.2.2.2.slots) (hdg : decode M.2.1 pc = .ok (.invokestatic index, 3)) (hq : pc + 3 = q)
    (k : ∀ r τ, P r τ → mx_G Γ κ M Q q L (r.toList ++ S) τ c1 s1) : mx_G Γ κ M Q pc L S0 σ cells slots := by
  subst hq
  subst hc1
  subst hs1
  subst hst
  obtain ⟨hcl, hrm, hlink, hstat⟩ := hs
  intro H locs ls hR ho hl
  obtain ⟨hx, hb, hml, hown, hts, hK, hlk, hRm, -⟩ := hC
  have cb := va_cnB (R := mx_R κ) (bytes := M2.2.1) (maxL := M2.2.2.1) (ret := M2.2.2.2.1) (rm := M2.2.2.2.2) n hts (mx_goodIn hcl.1) rfl rfl rfl (hK.2.1 _ _ _ _ hlink) (hts _ hcl.2.1) hcl.2.2 (by rw [hRm]; exact hrm)
  refine x_after (va_runSN ⟨hx, hb, hml, hown, hts⟩ hM ⟨cb, hts _ hstat, trivial⟩ (As := A.map (mx_v Γ.1)) (rest := S.map (mx_v Γ.1)) ⟨mx_Pc_blind, fun U hU hW => ⟨rfl, by rw [hU]; exact hR, hK.warm hW⟩⟩ rfl (by rw [List.length_map]; exact hn) hl.1 (by show (A.reverse ++ S).map _ = _; rw [List.map_append, List.map_reverse]) (lv_room (mx_roomS Γ.1 hS hS8)) hdg ⟨by rw [hRm]; exact hcr, by rw [hRm]; exact hsr⟩) ho hl k
theorem mx_recv {p ci N : Nat} {C : String} {T : u_T} (hK : mx_KK Γ (mx_s κ)) {H : Heap} (hR : mx_Rep Γ σ H) (hsh : mx_SH p = (ci + 4, N)) (hp : p < σ.1) (hcv : vwCl[ci]? = some (C, T, N)) : ∃ cellB : Cell, H[Γ.1 p]? = some cellB ∧ cellB.vm.isStatics = false ∧ (mx_s κ).vm.findClass C = some cellB.cls := by
  obtain ⟨cell, q1, q2, q3, -⟩ := (hR.2.2.2.2 p hp).2.2.2.2 ci N hsh
  exact ⟨cell, q1, by rw [q3]; rfl, by rw [q2]; exact (hK.1.1 ci _ hcv).2.1⟩
theorem x_callV (hC : mx_Ctx Γ κ M) {p ci N : Nat} {T : u_T} (hM : mx_C Γ (mx_l κ) M2 (.ref p :: A) σ P) {n : Nat} (hs : mx_sV M M2 index n ci N T) (hsh : mx_SH p = (ci + 4, N)) (hp : p < σ.1) (hn : A.length = n) (hst : S0 = A.reverse ++ .ref p :: S) (hS : (S.all fun v => v.category == 1) = true) (hS8 : S.length ≤ 8)
    (hc1 : cells + M2.2.2.2.2.cells = c1) (hs1 : slots + M2.2.2.2.2.slots = s1) (hcr : c1 ≤ M.2.2.2.2.cells) (hsr : s1 ≤ M.2.2.2.2.slots) (hdg : decode M.2.1 pc = .ok (.invokevirtual index, 3)) (hq : pc + 3 = q)
    (k : ∀ r τ, P r τ → mx_G Γ κ M Q q L (r.toList ++ S) τ c1 s1) : mx_G Γ κ M Q pc L S0 σ cells slots := by
  subst hq
  subst hc1
  subst hs1
  subst hst
  obtain ⟨hcl, hrm, hlink, hinst, hsel, hcv⟩ := hs
  intro H locs ls hR ho hl
  obtain ⟨hx, hb, hml, hown, hts, hK, hlk, hRm, -⟩ := hC
  have cb := callB_of (R := mx_R κ) (bytes := M2.2.1) (maxL := M2.2.2.1) (ret := M2.2.2.2.1) (rm := M2.2.2.2.2) n hts (mx_goodIn hcl.1) rfl rfl rfl (hts _ hcl.2.1) (hts _ hlink) hcl.2.2 (by rw [hRm]; exact hrm)
  refine x_after (va_runV ⟨hx, hb, hml, hown, hts⟩ hM ⟨cb, hts _ hinst, hts _ hsel⟩ (b := Γ.1 p) (As := A.map (mx_v Γ.1)) (rest := S.map (mx_v Γ.1)) ⟨mx_Pc_blind, mx_recv hK hR hsh hp hcv, fun U hU hW => ⟨rfl, by rw [hU]; exact hR, hK.warm hW⟩⟩ rfl (by rw [List.length_map]; exact hn) hl.1 (by show (A.reverse ++ .ref p :: S).map _ = _; rw [List.map_append, List.map_reverse]; rfl) (lv_room (mx_roomS Γ.1 hS hS8)) hdg ⟨by rw [hRm]; exact hcr, by rw [hRm]; exact hsr⟩) ho hl k
theorem x_callI (hC : mx_Ctx Γ κ M) {p : Nat} (hM : mx_C Γ (mx_l κ) M2 (.ref p :: A) σ P) {n : Nat} (hs : mx_sI M M2 index n) (hn : A.length = n) (hst : S0 = A.reverse ++ .ref p :: S) (hS : (S.all fun v => v.category == 1) = true) (hS8 : S.length ≤ 8)
    (hc1 : cells + M2.2.2.2.2.cells = c1) (hs1 : slots + M2.2.2.2.2.slots = s1) (hcr : c1 ≤ M.2.2.2.2.cells) (hsr : s1 ≤ M.2.2.2.2.slots) (hdg : decode M.2.1 pc = .ok (.invokespecial index, 3)) (hq : pc + 3 = q)
    (k : ∀ r τ, P r τ → mx_G Γ κ M Q q L (r.toList ++ S) τ c1 s1) : mx_G Γ κ M Q pc L S0 σ cells slots := by
  subst hq
  subst hc1
  subst hs1
  subst hst
  obtain ⟨hret, hnm, hcl, hrm, hlink, hinst⟩ := hs
  intro H locs ls hR ho hl
  obtain ⟨hx, hb, hml, hown, hts, hK, hlk, hRm, -⟩ := hC
  have cb := callB_of (R := mx_R κ) (bytes := M2.2.1) (maxL := M2.2.2.1) (ret := M2.2.2.2.1) (rm := M2.2.2.2.2) n hts (mx_goodIn hcl.1) rfl rfl rfl (hts _ hcl.2.1) (hts _ hlink) hcl.2.2 (by rw [hRm]; exact hrm)
  have hM' := hM
  unfold mx_C at hM'
  rw [hret] at hM' cb
  refine x_after (va_runI ⟨hx, hb, hml, hown, hts⟩ hM' ⟨cb, hnm, hts _ hinst⟩ (b := Γ.1 p) (As := A.map (mx_v Γ.1)) (rest := S.map (mx_v Γ.1)) ⟨mx_Pc_blind, fun U hU hW => ⟨rfl, by rw [hU]; exact hR, hK.warm hW⟩⟩ rfl (by rw [List.length_map]; exact hn) hl.1 (by show (A.reverse ++ .ref p :: S).map _ = _; rw [List.map_append, List.map_reverse]; rfl) (lv_room (mx_roomS Γ.1 hS hS8)) hdg ⟨by rw [hRm]; exact hcr, by rw [hRm]; exact hsr⟩) ho hl k
theorem x_callIN (hC : mx_Ctx Γ κ M) {p : Nat} {host : String} (hM : mx_C Γ (mx_l κ) M2 (.ref p :: A) σ P) {n : Nat} (hs : mx_sIN M M2 index n host) (hn : A.length = n) (hst : S0 = A.reverse ++ .ref p :: S) (hS : (S.all fun v => v.category == 1) = true) (hS8 : S.length ≤ 8)
    (hc1 : cells + M2.2.2.2.2.cells = c1) (hs1 : slots + M2.2.2.2.2.slots = s1) (hcr : c1 ≤ M.2.2.2.2.cells) (hsr : s1 ≤ M.2.2.2.2.slots) (hdg : decode M.2.1 pc = .ok (.invokespecial index, 3)) (hq : pc + 3 = q)
    (k : ∀ r τ, P r τ → mx_G Γ κ M Q q L (r.toList ++ S) τ c1 s1) : mx_G Γ κ M Q pc L S0 σ cells slots := by
  subst hq
  subst hc1
  subst hs1
  subst hst
  obtain ⟨hret, hnm, hcl, hrm, hlink, hinst⟩ := hs
  intro H locs ls hR ho hl
  obtain ⟨hx, hb, hml, hown, hts, hK, hlk, hRm, -⟩ := hC
  have cb := va_cnB (R := mx_R κ) (bytes := M2.2.1) (maxL := M2.2.2.1) (ret := M2.2.2.2.1) (rm := M2.2.2.2.2) n hts (mx_goodIn hcl.1) rfl rfl rfl (hK.2.1 _ _ _ _ hlink) (hts _ hcl.2.1) hcl.2.2 (by rw [hRm]; exact hrm)
  have hM' := hM
  unfold mx_C at hM'
  rw [hret] at hM' cb
  refine x_after (va_runIN ⟨hx, hb, hml, hown, hts⟩ hM' ⟨cb, hnm, hts _ hinst⟩ (b := Γ.1 p) (As := A.map (mx_v Γ.1)) (rest := S.map (mx_v Γ.1)) ⟨mx_Pc_blind, fun U hU hW => ⟨rfl, by rw [hU]; exact hR, hK.warm hW⟩⟩ rfl (by rw [List.length_map]; exact hn) hl.1 (by show (A.reverse ++ .ref p :: S).map _ = _; rw [List.map_append, List.map_reverse]; rfl) (lv_room (mx_roomS Γ.1 hS hS8)) hdg ⟨by rw [hRm]; exact hcr, by rw [hRm]; exact hsr⟩) ho hl k
theorem x_obj (hC : mx_Ctx Γ κ M) {p : Nat} (hs : mx_sO M index) (hf : 1 ≤ M.2.2.2.2.frames) (hlo : 20 ≤ M.2.2.2.2.locals) (hS : (S.all fun v => v.category == 1) = true) (hS8 : S.length ≤ 8) (hdg : decode M.2.1 pc = .ok (.invokespecial index, 3)) (hq : pc + 3 = q)
    (k : mx_G Γ κ M Q q L S σ cells slots) : mx_G Γ κ M Q pc L (.ref p :: S) σ cells slots := by
  subst hq
  obtain ⟨hw1, hw2, hw3⟩ := hs
  intro H locs ls hR ho hl
  obtain ⟨hx, hb, hml, hown, hts, hK, hlk, hRm, -⟩ := hC
  have h8 := mx_roomS Γ.1 hS hS8
  exact W.objInit hx hb hown (hts _ hw1) (hts _ hw2) (hts _ hw3) rfl (by rw [hml]; exact hl.1) rfl hdg (by rw [hRm]; exact hf) (by rw [hRm]; show 2 * 0 + _ + 12 ≤ _; omega) (k H locs ls hR ho hl)
theorem mx_C.mono {l : Launch} {P2 : Option Value → mx_S → Prop} (h : mx_C Γ l M A σ P) (hP : ∀ r τ, P r τ → P2 r τ) : mx_C Γ l M A σ P2 := by
  unfold mx_C Met at h ⊢
  refine MetFree.mono h (fun _ _ h => h) (fun _ _ _ _ _ h => h) (fun a st o t _ hq => ?_)
  obtain ⟨⟨r, τ, h1, h2, h3⟩, h4⟩ := hq
  exact ⟨⟨r, τ, h1, hP r τ h2, h3⟩, h4⟩
end XC
