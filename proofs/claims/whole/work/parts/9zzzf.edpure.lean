section
/-! distance: forests as rows (pure) -/
/-- m pieces of a row from p on, each with how many lie under it -/
def Fw (L e : Int → Int) : Int → Nat → List (Int × Nat)
  | _, 0 => []
  | p, m + 1 => (L p, (e p - p - 1).toNat) :: Fw L e (p + 1) m
theorem Fw_len (L e : Int → Int) : ∀ (m : Nat) (p : Int), (Fw L e p m).length = m := by
  intro m
  induction m with
  | zero => exact fun _ => rfl
  | succ m ih =>
    intro p
    rw [Fw, List.length_cons, ih]
theorem Fw_take {L e : Int → Int} : ∀ (m s : Nat) (p : Int), s ≤ m → (Fw L e p m).take s = Fw L e p s := by
  intro m
  induction m with
  | zero =>
    intro s p h
    have : s = 0 := by omega
    subst this
    rfl
  | succ m ih =>
    intro s p h
    cases s with
    | zero => rfl
    | succ s => rw [Fw, List.take_succ_cons, ih s (p + 1) (by omega), Fw]
theorem Fw_drop {L e : Int → Int} : ∀ (m s : Nat) (p : Int), s ≤ m → (Fw L e p m).drop s = Fw L e (p + s) (m - s) := by
  intro m
  induction m with
  | zero =>
    intro s p h
    have : s = 0 := by omega
    subst this
    rfl
  | succ m ih =>
    intro s p h
    cases s with
    | zero =>
      rw [List.drop_zero, show p + ((0 : Nat) : Int) = p by omega, Nat.sub_zero]
    | succ s => rw [Fw, List.drop_succ_cons, ih s (p + 1) (by omega), show p + 1 + (s : Int) = p + ((s + 1 : Nat) : Int) by omega, show m + 1 - (s + 1) = m - s by omega]
/-- pieces lie in one another -/
def Nst (e : Int → Int) (a b : Int) : Prop := (∀ q, a ≤ q → q < b → q < e q ∧ e q ≤ b) ∧ ∀ q x, a ≤ q → q < x → x < e q → x < b → e x ≤ e q
theorem Nst_sub {e : Int → Int} {a b a' b' : Int} (h : Nst e a b) (ha : a ≤ a') (hb : b' ≤ b) (hE : ∀ q, a' ≤ q → q < b' → e q ≤ b') : Nst e a' b' := ⟨fun q q0 q1 => ⟨(h.1 q (by omega) (by omega)).1, hE q q0 q1⟩, fun q x q0 q1 q2 q3 => h.2 q x (by omega) q1 q2 (by omega)⟩
theorem Nst_in {e : Int → Int} {a b q : Int} (h : Nst e a b) (q0 : a ≤ q) (q1 : q < b) : Nst e (q + 1) (e q) := by
  have := h.1 q q0 q1
  exact Nst_sub h (by omega) this.2 fun x x0 x1 => h.2 q x q0 (by omega) x1 (by omega)
theorem Nst_out {e : Int → Int} {a b a' : Int} (h : Nst e a b) (ha : a ≤ a') : Nst e a' b := Nst_sub h ha (Int.le_refl _) fun q q0 q1 => (h.1 q (by omega) q1).2
theorem Fw_ok {L e : Int → Int} : ∀ (n m : Nat) (a : Int), m ≤ n → Nst e a (a + m) → Fok (Fw L e a m) := by
  intro n
  induction n with
  | zero =>
    intro m a hm _
    have : m = 0 := by omega
    subst this
    exact fok_nil
  | succ n ih =>
    intro m a hm h
    cases m with
    | zero => exact fok_nil
    | succ m =>
      have ea := h.1 a (Int.le_refl _) (by omega)
      rw [Fw, fok_cons, Fw_len, Fw_take m _ _ (by omega), Fw_drop m _ _ (by omega)]
      refine ⟨by omega, ih _ _ (by omega) ?_, ih _ _ (by omega) ?_⟩
      · have := Nst_in h (Int.le_refl _) (by omega)
        rw [show a + 1 + (((e a - a - 1).toNat : Nat) : Int) = e a by omega]
        exact this
      · have := Nst_out h (a' := e a) (by omega)
        rw [show a + 1 + (((e a - a - 1).toNat : Nat) : Int) = e a by omega, show e a + ((m - (e a - a - 1).toNat : Nat) : Int) = a + ((m + 1 : Nat) : Int) by omega]
        exact this
/-- the step where one of the two trees isn't the whole forest: trees against trees, the rest against the rest -/
theorem ed_two {x y : Int} {s t : Nat} {r q : List (Int × Nat)} (h1 : Fok ((x, s) :: r)) (h2 : Fok ((y, t) :: q)) : Ed ((x, s) :: r) ((y, t) :: q) = min (min (1 + Ed r ((y, t) :: q)) (1 + Ed ((x, s) :: r) q)) (Ed ((x, s) :: r.take s) ((y, t) :: q.take t) + Ed (r.drop s) (q.drop t)) := by
  have a1 := fok_cons.mp h1
  have a2 := fok_cons.mp h2
  have l1 : (r.take s).length = s := by rw [List.length_take]; omega
  have l2 : (q.take t).length = t := by rw [List.length_take]; omega
  have f1 := fok_one (x := x) l1 a1.2.1
  have f2 := fok_one (x := y) l2 a2.2.1
  have up := ed_app _ _ _ (r.drop s) (q.drop t) (Nat.le_refl _) f1 f2
  rw [List.cons_append, List.cons_append, List.take_append_drop, List.take_append_drop] at up
  have d1 := ed_del x s r ((y, t) :: q)
  have d2 := ed_ins y t ((x, s) :: r) q
  have lo := ed_mat x y s t (r.take s) (q.take t)
  have e1 : (r.take s).take s = r.take s := List.take_of_length_le (by omega)
  have e2 : (q.take t).take t = q.take t := List.take_of_length_le (by omega)
  have e3 : (r.take s).drop s = [] := List.drop_of_length_le (by omega)
  have e4 : (q.take t).drop t = [] := List.drop_of_length_le (by omega)
  rw [e1, e2, e3, e4] at lo
  have z : Ed [] [] = 0 := ed_nl []
  rw [z] at lo
  rcases ed_case x y s t r q with c | c | c <;> omega
/-- the step where both are whole forests -/
theorem ed_both {x y : Int} {s t : Nat} {r q : List (Int × Nat)} (h1 : r.length = s) (h2 : q.length = t) : Ed ((x, s) :: r) ((y, t) :: q) = min (min (1 + Ed r ((y, t) :: q)) (1 + Ed ((x, s) :: r) q)) (Ed r q + if x = y then 0 else 1) := by
  rw [ed_cc, List.take_of_length_le (by omega), List.take_of_length_le (by omega), List.drop_of_length_le (by omega), List.drop_of_length_le (by omega), ed_nl]
  show min _ (Ed r q + 0 + _) = _
  rw [Nat.add_zero]
end
