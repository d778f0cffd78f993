section
/-! where the pieces of a row are put: the waiting slots, the next one first -/
def tgN (r : Int) : Int → Nat → List (Int × Int)
  | _, 0 => []
  | j, m + 1 => (r, j) :: tgN r (j + 1) m
def tgS (ns c : Int → Int) : Nat → List (Int × Int)
  | 0 => [(-1, 0)]
  | P + 1 => if 1000 ≤ c P then tgN (nb c P) 0 (ns (c P - 1000)).toNat ++ (tgS ns c P).tail else (tgS ns c P).tail
theorem tgS_s (ns c : Int → Int) (P : Nat) : tgS ns c (P + 1) = if 1000 ≤ c P then tgN (nb c P) 0 (ns (c P - 1000)).toNat ++ (tgS ns c P).tail else (tgS ns c P).tail := by rw [tgS]
theorem tgN_len (r : Int) : ∀ (m : Nat) (j : Int), (tgN r j m).length = m := by
  intro m
  induction m with
  | zero => intro j; rfl
  | succ m ih => intro j; rw [tgN, List.length_cons, ih]
theorem tgN_get (r : Int) : ∀ (m : Nat) (j : Int) (i : Nat), i < m → (tgN r j m)[i]? = some (r, j + i) := by
  intro m
  induction m with
  | zero => intro j i h; omega
  | succ m ih =>
    intro j i h
    rw [tgN]
    cases i with
    | zero => rw [List.getElem?_cons_zero, show j + ((0 : Nat) : Int) = j by omega]
    | succ i =>
      rw [List.getElem?_cons_succ, ih (j + 1) i (by omega), show j + 1 + (i : Int) = j + ((i + 1 : Nat) : Int) by omega]
/-- rows so far in which no piece is one too many -/
def Pre (ns c : Int → Int) (P : Nat) : Prop := (∀ q : Nat, q < P → 1 ≤ dd ns c q) ∧ ∀ q : Nat, q < P → 1000 ≤ c q → 0 ≤ ns (c q - 1000)
theorem Pre_le {ns c : Int → Int} {P Q : Nat} (h : Pre ns c P) (q : Q ≤ P) : Pre ns c Q := ⟨fun x hx => h.1 x (by omega), fun x hx => h.2 x (by omega)⟩
theorem dd_s (ns c : Int → Int) (k : Nat) : dd ns c (k + 1) = dd ns c k - 1 + if 1000 ≤ c k then ns (c k - 1000) else 0 := rfl
theorem tgS_len {ns c : Int → Int} : ∀ {P : Nat}, Pre ns c P → ((tgS ns c P).length : Int) = dd ns c P := by
  intro P
  induction P with
  | zero => intro _; rfl
  | succ P ih =>
    intro h
    have a := ih (Pre_le h (by omega))
    have b := h.1 P (by omega)
    rw [tgS_s, dd_s]
    by_cases g : 1000 ≤ c P
    · have n0 := h.2 P (by omega) g
      rw [if_pos g, if_pos g, List.length_append, tgN_len, List.length_tail]
      omega
    · rw [if_neg g, if_neg g, List.length_tail]
      omega
/-- what a waiting slot is: the last node that has it open -/
theorem tgS_get {ns c : Int → Int} : ∀ {P : Nat}, Pre ns c P → ∀ (j : Nat) (t : Int × Int), (tgS ns c P)[j]? = some t → (P = 0 ∧ t = (-1, 0)) ∨ ∃ u : Nat, u < P ∧ 1000 ≤ c u ∧ t.1 = nb c u ∧ dd ns c u ≤ dd ns c P - j ∧ (∀ q : Nat, u < q → q < P → dd ns c P - j < dd ns c q) ∧ t.2 = dd ns c u - 1 + ns (c u - 1000) - (dd ns c P - j) ∧ 0 ≤ t.2 ∧ t.2 < ns (c u - 1000) := by
  intro P
  induction P with
  | zero =>
    intro _ j t h
    refine Or.inl ⟨rfl, ?_⟩
    have h : [((-1 : Int), (0 : Int))][j]? = some t := h
    cases j with
    | zero =>
      rw [List.getElem?_cons_zero] at h
      injection h with h
      exact h.symm
    | succ j =>
      rw [List.getElem?_cons_succ, List.getElem?_nil] at h
      exact absurd h (by simp)
  | succ P ih =>
    intro hp j t h
    refine Or.inr ?_
    have hp' := Pre_le hp (show P ≤ P + 1 by omega)
    have len := tgS_len hp'
    have dP := hp.1 P (by omega)
    have es := dd_s ns c P
    rw [tgS_s] at h
    -- an older one
    have old : ∀ j' : Nat, 1 ≤ j' → (tgS ns c P)[j']? = some t → dd ns c (P + 1) - j = dd ns c P - j' → ∃ u : Nat, u < P + 1 ∧ 1000 ≤ c u ∧ t.1 = nb c u ∧ dd ns c u ≤ dd ns c (P + 1) - j ∧ (∀ q : Nat, u < q → q < P + 1 → dd ns c (P + 1) - j < dd ns c q) ∧ t.2 = dd ns c u - 1 + ns (c u - 1000) - (dd ns c (P + 1) - j) ∧ 0 ≤ t.2 ∧ t.2 < ns (c u - 1000) := fun j' j1 hj e => by
      rcases ih hp' j' t hj with ⟨z, _⟩ | ⟨u, u1, u2, u3, u4, u5, u6, u7⟩
      · subst z
        have hj : [((-1 : Int), (0 : Int))][j']? = some t := hj
        rw [List.getElem?_eq_none (by rw [List.length_singleton]; omega)] at hj
        exact absurd hj (by simp)
      · refine ⟨u, by omega, u2, u3, by rw [e]; exact u4, fun q q1 q2 => ?_, by rw [e]; exact u6, u7⟩
        by_cases z : q = P
        · rw [z]
          omega
        · rw [e]
          exact u5 q q1 (by omega)
    by_cases g : 1000 ≤ c P
    · have n0 := hp.2 P (by omega) g
      rw [if_pos g] at h es
      by_cases z : j < (ns (c P - 1000)).toNat
      · rw [List.getElem?_append_left (by rw [tgN_len]; exact z), tgN_get _ _ _ _ z] at h
        injection h with h
        subst h
        refine ⟨P, by omega, g, rfl, by omega, fun q q1 q2 => by omega, ?_, by show (0 : Int) ≤ 0 + j; omega, by show (0 : Int) + j < _; omega⟩
        show (0 : Int) + j = _
        omega
      · rw [List.getElem?_append_right (by rw [tgN_len]; omega), tgN_len, List.getElem?_tail] at h
        exact old (j - (ns (c P - 1000)).toNat + 1) (by omega) h (by omega)
    · rw [if_neg g, List.getElem?_tail] at h
      rw [if_neg g] at es
      exact old (j + 1) (by omega) h (by omega)
/-- the next one is where the tree has the piece -/
theorem tg_head {ns c : Int → Int} {n : Int} (w : Wd ns c n) {p : Int} (p0 : 0 < p) (p1 : p < n) {t : Int × Int} (h : (tgS ns c p.toNat)[0]? = some t) : t = (nb c (uU ns c p).toNat, sS ns c p) := by
  have pr : Pre ns c p.toNat := ⟨fun q hq => by
    have := w.2.2.1 q (by omega) (by omega)
    unfold D at this
    rw [Int.toNat_natCast] at this
    exact this, fun q hq g => w.2.2.2.2 q (by omega) (by omega) g⟩
  rcases tgS_get pr 0 t h with ⟨z, _⟩ | ⟨u, u1, u2, u3, u4, u5, u6, u7, u8⟩
  · omega
  · have e : uU ns c p = u := uU_is w (by omega) (by omega) p1 (by
      unfold D
      rw [Int.toNat_natCast]
      omega) (fun x x1 x2 => by
      unfold D
      have := u5 x.toNat (by omega) (by omega)
      omega)
    have e2 : sS ns c p = t.2 := by
      unfold sS
      rw [if_neg (by omega), e]
      unfold D
      rw [Int.toNat_natCast, u6]
      omega
    rw [e, e2, Int.toNat_natCast, ← u3]
theorem tg_some {ns c : Int → Int} {P : Nat} (h : Pre ns c P) (d : 1 ≤ dd ns c P) : ∃ t, (tgS ns c P)[0]? = some t ∧ tgS ns c P = t :: (tgS ns c P).tail := by
  have l := tgS_len h
  cases e : tgS ns c P with
  | nil =>
    rw [e, List.length_nil] at l
    omega
  | cons t l' => exact ⟨t, rfl, rfl⟩
/-- no slot is filled twice -/
theorem tg_ne {ns c : Int → Int} {P : Nat} (h : Pre ns c P) (dP : 1 ≤ dd ns c P) {q : Nat} (hq : q < P) {t t' : Int × Int} (ht : (tgS ns c P)[0]? = some t) (ht' : (tgS ns c q)[0]? = some t') : ¬ t' = t := by
  intro e
  subst e
  rcases tgS_get h 0 t' ht with ⟨z, _⟩ | ⟨u, u1, u2, u3, u4, u5, u6, u7, u8⟩
  · omega
  · rcases tgS_get (Pre_le h (show q ≤ P by omega)) 0 t' ht' with ⟨z, z2⟩ | ⟨u', v1, v2, v3, v4, v5, v6, v7, v8⟩
    · rw [z2] at u3
      have := nb_b c u
      omega
    · have eu : u = u' := by
        by_cases g : u < u'
        · have := nb_lt c g u2
          omega
        · by_cases g2 : u' < u
          · have := nb_lt c g2 v2
            omega
          · omega
      subst eu
      have := u5 q v1 hq
      omega
theorem nb_cong {c c' : Int → Int} {P : Nat} (h : ∀ q : Nat, q < P → c' q = c q) : nb c' P = nb c P := nb_congr P h
theorem dd_cong {ns c c' : Int → Int} : ∀ {P : Nat}, (∀ q : Nat, q < P → c' q = c q) → dd ns c' P = dd ns c P := by
  intro P
  induction P with
  | zero => intro _; rfl
  | succ P ih =>
    intro h
    rw [dd_s, dd_s, ih (fun q hq => h q (by omega)), h P (by omega)]
theorem tgS_cong {ns c c' : Int → Int} : ∀ {P : Nat}, (∀ q : Nat, q < P → c' q = c q) → tgS ns c' P = tgS ns c P := by
  intro P
  induction P with
  | zero => intro _; rfl
  | succ P ih =>
    intro h
    rw [tgS_s, tgS_s, ih (fun q hq => h q (by omega)), h P (by omega), nb_cong (fun q hq => h q (by omega))]
/-- pieces are never too many where the nodes aren't -/
theorem dd_room {ns c : Int → Int} {P : Nat} (h5 : ∀ q : Nat, q < P → 1000 ≤ c q → ns (c q - 1000) ≤ 5) : (P : Int) + dd ns c P ≤ 1 + 5 * nb c P := by
  induction P with
  | zero => show ((0 : Nat) : Int) + 1 ≤ 1 + 5 * 0; omega
  | succ P ih =>
    have a := ih (fun q hq => h5 q (by omega))
    rw [dd_s, nb_s]
    by_cases g : 1000 ≤ c P
    · have := h5 P (by omega) g
      rw [if_pos g, if_pos g]
      omega
    · rw [if_neg g, if_neg g]
      omega
theorem Wd_of {ns c : Int → Int} {P : Nat} (h : Pre ns c P) (d0 : dd ns c P = 0) (P1 : P ≤ 201) : Wd ns c P := by
  have p1 : 1 ≤ P := by
    refine Nat.one_le_iff_ne_zero.mpr fun e => ?_
    subst e
    have d0 : (1 : Int) = 0 := d0
    omega
  refine ⟨by omega, by omega, fun p p0 p2 => ?_, ?_, fun p p0 p2 g => ?_⟩
  · have := h.1 p.toNat (by omega)
    exact this
  · unfold D
    rw [Int.toNat_natCast]
    exact d0
  · have := h.2 p.toNat (by omega)
    rw [Int.toNat_of_nonneg p0] at this
    exact this g
end
