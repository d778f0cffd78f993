section
/-! lay: which nodes are open, and in how many open ones a node is -/
theorem own_in {sb : Int → Int} {m : Nat} (h : ¬ ownN sb m = -1) : ownN sb m = scN sb m ∧ sb m = 1 ∧ scN sb m < 8 := by
  have e : ownN sb m = if sb m = 1 ∧ scN sb m < 8 then scN sb m else -1 := rfl
  by_cases c : sb m = 1 ∧ scN sb m < 8
  · rw [if_pos c] at e
    exact ⟨e, c⟩
  · rw [if_neg c] at e
    exact absurd e h
theorem own_lt {sb : Int → Int} {m n : Nat} (h : m < n) (hm : ¬ ownN sb m = -1) (hn : ¬ ownN sb n = -1) : ownN sb m < ownN sb n := by
  obtain ⟨a1, a2, a3⟩ := own_in hm
  obtain ⟨b1, b2, b3⟩ := own_in hn
  have mm := scN_mono sb (show m + 1 ≤ n by omega)
  have e : scN sb (m + 1) = scN sb m + if sb m = 1 then 1 else 0 := rfl
  rw [if_pos a2] at e
  omega
theorem own_inj {sb : Int → Int} {m n : Nat} (hm : ¬ ownN sb m = -1) (e : ownN sb m = ownN sb n) : m = n := by
  have hn : ¬ ownN sb n = -1 := by rw [← e]; exact hm
  by_cases c : m < n
  · have := own_lt c hm hn
    omega
  · by_cases d : n < m
    · have := own_lt d hn hm
      omega
    · omega
theorem own_ex {sb : Int → Int} : ∀ (N : Nat) (k : Int), 0 ≤ k → k < min 8 (scN sb N) → ∃ m : Nat, m < N ∧ ownN sb m = k := by
  intro N
  induction N with
  | zero => intro k k0 k1; have : scN sb 0 = 0 := rfl; omega
  | succ N ih =>
    intro k k0 k1
    have e : scN sb (N + 1) = scN sb N + if sb N = 1 then 1 else 0 := rfl
    have b := scN_b sb N
    by_cases c : k < min 8 (scN sb N)
    · obtain ⟨m, m1, m2⟩ := ih k k0 c
      exact ⟨m, by omega, m2⟩
    · by_cases s : sb N = 1
      · rw [if_pos s] at e
        refine ⟨N, by omega, ?_⟩
        have o : ownN sb N = if sb N = 1 ∧ scN sb N < 8 then scN sb N else -1 := rfl
        rw [o, if_pos ⟨s, by omega⟩]
        omega
      · rw [if_neg s] at e
        omega
/-- open by set S -/
def opS (sb : Int → Int) (S : Nat) (n : Int) : Int := if ¬ ownN sb n = -1 ∧ S.testBit (ownN sb n).toNat = true then 1 else 0
def ioN (op up : Int → Int) : Nat → Int → Int
  | 0, _ => 0
  | k + 1, n => (if 0 < n then ioN op up k (up n) else 0) + op n
theorem ioN_fuel {op up : Int → Int} {N : Int} (hu : ∀ x, 0 < x → x < N → 0 ≤ up x ∧ up x < x) : ∀ (k : Nat) (n : Int), 0 ≤ n → n < k → n < N → ioN op up k n = ioN op up (k + 1) n := by
  intro k
  induction k with
  | zero => intro n _ h; omega
  | succ k ih =>
    intro n n0 nk nN
    have e : ioN op up (k + 1 + 1) n = (if 0 < n then ioN op up (k + 1) (up n) else 0) + op n := rfl
    rw [e, ioN]
    by_cases z : 0 < n
    · have := hu n z nN
      rw [if_pos z, if_pos z, ih (up n) this.1 (by omega) (by omega)]
    · rw [if_neg z, if_neg z]
theorem pop_add : ∀ (a : Fin 256) (k : Fin 8), ¬ a.val.testBit k.val = true → pop (a.val ||| 2 ^ k.val) = pop a.val + 1 := by decide +kernel
theorem in_bit {sb up : Int → Int} {N : Int} (hu : ∀ x, 0 < x → x < N → 0 ≤ up x ∧ up x < x) : ∀ (k : Nat) (n : Int) (j : Nat), 0 ≤ n → n < N → (inN sb up k n).testBit j = true → ∃ m : Nat, (m : Int) ≤ n ∧ ownN sb m = j := by
  intro k
  induction k with
  | zero =>
    intro n j _ _ h
    have h : (0 : Nat).testBit j = true := h
    rw [Nat.zero_testBit] at h
    exact absurd h (by decide)
  | succ k ih =>
    intro n j n0 nN h
    rw [inN, Nat.testBit_or, Bool.or_eq_true] at h
    rcases h with h | h
    · by_cases z : 0 < n
      · rw [if_pos z] at h
        have u := hu n z nN
        obtain ⟨m, m1, m2⟩ := ih (up n) j u.1 (by omega) h
        exact ⟨m, by omega, m2⟩
      · rw [if_neg z, Nat.zero_testBit] at h
        exact absurd h (by decide)
    · by_cases z : ownN sb n = -1
      · rw [if_pos z, Nat.zero_testBit] at h
        exact absurd h (by decide)
      · rw [if_neg z, Nat.testBit_two_pow] at h
        have e := of_decide_eq_true h
        have b := ownN_b sb n
        refine ⟨n.toNat, by omega, ?_⟩
        rw [Int.toNat_of_nonneg n0]
        omega
theorem and_pow (S k : Nat) : S &&& 2 ^ k = if S.testBit k = true then 2 ^ k else 0 := by
  apply Nat.eq_of_testBit_eq
  intro i
  rw [Nat.testBit_and, Nat.testBit_two_pow]
  by_cases t : S.testBit k = true
  · rw [if_pos t, Nat.testBit_two_pow]
    by_cases e : k = i
    · subst e
      rw [t]
      rfl
    · rw [decide_eq_false e, Bool.and_false]
  · rw [if_neg t, Nat.zero_testBit]
    by_cases e : k = i
    · subst e
      rw [Bool.eq_false_iff.mpr t]
      rfl
    · rw [decide_eq_false e, Bool.and_false]
theorem in_open {sb up : Int → Int} {N : Int} {S : Nat} (hu : ∀ x, 0 < x → x < N → 0 ≤ up x ∧ up x < x) : ∀ (k : Nat) (n : Int), 0 ≤ n → n < N → pop (inN sb up k n &&& S) = ioN (opS sb S) up k n ∨ k = 0 := by
  intro k
  induction k with
  | zero => intro n _ _; exact Or.inr rfl
  | succ k ih =>
    intro n n0 nN
    left
    have prev : pop ((if 0 < n then inN sb up k (up n) else 0) &&& S) = if 0 < n then ioN (opS sb S) up k (up n) else 0 := by
      by_cases z : 0 < n
      · rw [if_pos z, if_pos z]
        have u := hu n z nN
        rcases ih (up n) u.1 (by omega) with w | w
        · exact w
        · subst w
          show pop (0 &&& S) = 0
          rw [Nat.zero_and]
          decide
      · rw [if_neg z, if_neg z, Nat.zero_and]
        decide
    rw [inN, ioN, ← prev, Nat.and_or_distrib_right]
    have a256 : (if 0 < n then inN sb up k (up n) else 0) < 256 := by
      split
      · exact inN_b _ _ _ _
      · omega
    have nbit : ¬ ownN sb n = -1 → ¬ (if 0 < n then inN sb up k (up n) else 0).testBit (ownN sb n).toNat = true := fun hn h => by
      by_cases z : 0 < n
      · rw [if_pos z] at h
        have u := hu n z nN
        obtain ⟨m, m1, m2⟩ := in_bit hu k (up n) _ u.1 (by omega) h
        have b := ownN_b sb n
        have e : ownN sb m = ownN sb ((n.toNat : Nat) : Int) := by
          rw [m2, Int.toNat_of_nonneg n0]
          omega
        have := own_inj (by rw [e, Int.toNat_of_nonneg n0]; exact hn) e
        omega
      · rw [if_neg z, Nat.zero_testBit] at h
        exact absurd h (by decide)
    obtain ⟨a, ha⟩ : ∃ a, a = if 0 < n then inN sb up k (up n) else 0 := ⟨_, rfl⟩
    rw [← ha] at a256 nbit ⊢
    unfold opS
    by_cases z : ownN sb n = -1
    · rw [if_pos z, if_neg (fun w => w.1 z), Nat.zero_and, Nat.or_zero, Int.add_zero]
    · rw [if_neg z]
      have b := ownN_b sb n
      rw [Nat.and_comm (2 ^ _) S, and_pow]
      by_cases t : S.testBit (ownN sb n).toNat = true
      · rw [if_pos t, if_pos ⟨z, t⟩]
        have e := pop_add ⟨a &&& S, Nat.lt_of_le_of_lt Nat.and_le_left a256⟩ ⟨(ownN sb n).toNat, by omega⟩ (by
          show ¬ (a &&& S).testBit (ownN sb n).toNat = true
          rw [Nat.testBit_and]
          intro w
          exact nbit z (Bool.and_eq_true_iff.mp w).1)
        exact e
      · rw [if_neg t, if_neg (fun w => t w.2), Nat.or_zero, Int.add_zero]
end
