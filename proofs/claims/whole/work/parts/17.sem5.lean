/-! files -/
def Fi_c3 (c s g : Nat) (b : Int32) (m : mx_Mm) : mx_Mm := mx_up (mx_up (mx_up m 169 c (nI s)) 170 c (nI g)) 171 c b
def Fi_c4 (c s g : Nat) (b : Int32) (m : mx_Mm) : mx_Mm := mx_up (Fi_c3 c s g b m) 168 11 ((Fi_c3 c s g b m) 168 11 + nI 1)
def Fi_hb (f : Nat) (m : mx_Mm) (b : Nat) : Bool := decide (hold (m 173 f) b)
def Fi_n1 (f : Nat) (m : mx_Mm) : mx_Mm := mx_up m 172 f (m 172 f + nI 1)
def Fi_tm (f n : Nat) (m : mx_Mm) : mx_Mm := if pm_fd n (Fi_hb f m) < n then mx_up m 173 f (m 173 f &&& (bit (pm_fd n (Fi_hb f m)) ^^^ (-1))) else if m 172 f = m 171 f then m else Fi_n1 f m
def Fi_tv (f n : Nat) (m : mx_Mm) : Int32 := if pm_fd n (Fi_hb f m) < n then nI (pm_fd n (Fi_hb f m)) else if m 172 f = m 171 f then m 171 f else (Fi_n1 f m) 172 f - nI 1
def Fi_s1 (f l : Nat) (x : Int32) (m : mx_Mm) : mx_Mm := if x < m 171 f then mx_up m (175 + f) l (m (175 + f) l ||| nI 1 <<< (x &&& 31)) else m
def Fi_s2 (f l : Nat) (x : Int32) (m : mx_Mm) : mx_Mm := mx_up m (180 + f) l (pm_x (m (180 + f) l) (pm_n (x + nI 1) (m 171 f)))
def Fi_store (f : Nat) (x : Int32) (l : Nat) (m : mx_Mm) : mx_Mm := Fi_s2 f l x (Fi_s1 f l x m)
def Fi_d1 (f g : Nat) (x y : Int32) (l : Nat) (m : mx_Mm) : mx_Mm := if hold y l ∧ ¬ m (36 + l) g = 0 then Fi_store f x l m else m
def Fi_mis (f l : Nat) (m : mx_Mm) : Int32 := (nI 1 <<< (m (180 + f) l &&& 31) - nI 1) &&& (m (175 + f) l ^^^ (-1))
abbrev Fi_part (f s g l : Nat) (m : mx_Mm) : Prop := m (14 + l) s < nI 1000 ∧ ¬ m (36 + l) g = 0 ∧ ¬ Fi_mis f l m = 0
def Fi_draw (m : mx_Mm) : mx_Mm := mx_up m 168 12 (m 168 12 * 1103515245 + nI 12345)
def Fi_dv (m : mx_Mm) : Int32 := (m 168 12).toUInt32 >>> ((nI 16).toUInt32 &&& Int32.toUInt32 31) |>.toInt32 |> (· &&& nI 7)
def Fi_w1 (f s g l : Nat) (m : mx_Mm) : mx_Mm := if Fi_part f s g l m then mx_up (Fi_draw m) 184 l (Fi_dv (Fi_draw m)) else mx_up m 184 l (-1)
def Fi_waits (f s g : Nat) (m : mx_Mm) : mx_Mm := mx_lp 6 (Fi_w1 f s g) m
def Fi_a1 (f w l : Nat) (a : Int32 × Int32 × mx_Mm) : Int32 × Int32 × mx_Mm := if a.2.2 184 l = nI w then (if Fi_mis f l a.2.2 &&& (a.1 ^^^ (-1)) = 0 then (a.1, a.2.1, Tr_cnt 9 a.2.2) else (a.1 ||| Fi_mis f l (Tr_cnt 8 a.2.2), a.2.1 + 1, Tr_cnt 8 a.2.2)) else a
def Fi_asks (f s g : Nat) (m : mx_Mm) : Int32 × Int32 × mx_Mm := mx_lp 8 (fun w => mx_lp 6 (Fi_a1 f w)) (nI 0, nI 0, Fi_waits f s g m)
def Fi_end (f : Nat) (a : Int32 × Int32 × mx_Mm) : mx_Mm := mx_up a.2.2 173 f (a.2.2 173 f ||| a.1)
/-- the files' sources and groups stay -/
def Fi_ok (f s g : Nat) (m : mx_Mm) : Prop := m 169 f = nI s ∧ m 170 f = nI g
theorem Fi_ok.upP {f s g : Nat} {m : mx_Mm} (h : Fi_ok f s g m) {p k : Nat} {x : Int32} (hp : p ≠ 169 ∧ p ≠ 170) : Fi_ok f s g (mx_up m p k x) := ⟨by rw [up_neP (by omega)]; exact h.1, by rw [up_neP (by omega)]; exact h.2⟩
theorem Fi_w1_ok {f s g l : Nat} {m : mx_Mm} (h : Fi_ok f s g m) : Fi_ok f s g (Fi_w1 f s g l m) := by
  unfold Fi_w1
  split
  · exact Fi_ok.upP (Fi_ok.upP h (by decide)) (by decide)
  · exact h.upP (by decide)
theorem Fi_d1_ok {f s g l : Nat} {x y : Int32} {m : mx_Mm} (hf : f < 4) (h : Fi_ok f s g m) : Fi_ok f s g (Fi_d1 f g x y l m) := by
  unfold Fi_d1 Fi_store
  split
  · refine Fi_ok.upP ?_ (by omega)
    unfold Fi_s1
    split
    · exact h.upP (by omega)
    · exact h
  · exact h
