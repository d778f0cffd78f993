section
/-! prices: least sums, and when two tables with different ceilings are alike -/
def minN (F : Int → Int) (lo cap : Int) : Nat → Int
  | 0 => cap
  | k + 1 => min (minN F lo cap k) (F (lo + k))
theorem minN_cap {F : Int → Int} {lo cap : Int} : ∀ n, minN F lo cap n ≤ cap := by
  intro n
  induction n with
  | zero => exact Int.le_refl _
  | succ n ih => rw [minN]; omega
theorem minN_le {F : Int → Int} {lo cap : Int} : ∀ {n k : Nat}, k < n → minN F lo cap n ≤ F (lo + k) := by
  intro n
  induction n with
  | zero => intro k h; omega
  | succ n ih =>
    intro k h
    rw [minN]
    by_cases e : k = n
    · subst e; omega
    · have := ih (k := k) (by omega); omega
theorem minN_ge {F : Int → Int} {lo cap x : Int} : ∀ {n : Nat}, (∀ k : Nat, k < n → x ≤ F (lo + k)) → x ≤ cap → x ≤ minN F lo cap n := by
  intro n
  induction n with
  | zero => intro _ h; exact h
  | succ n ih =>
    intro h hc
    have h1 := ih (fun k hk => h k (by omega)) hc
    have h2 := h n (by omega)
    rw [minN]
    omega
theorem minN_ex {F : Int → Int} {lo cap : Int} : ∀ {n : Nat}, minN F lo cap n < cap → ∃ k : Nat, k < n ∧ minN F lo cap n = F (lo + k) := by
  intro n
  induction n with
  | zero => intro h; exact absurd h (by show ¬ cap < cap; omega)
  | succ n ih =>
    intro h
    rw [minN] at h ⊢
    by_cases e : F (lo + n) ≤ minN F lo cap n
    · exact ⟨n, by omega, by omega⟩
    · obtain ⟨k, hk, h2⟩ := ih (by omega)
      exact ⟨k, by omega, by omega⟩
theorem minN_congr {F F' : Int → Int} {lo cap : Int} : ∀ {n : Nat}, (∀ k : Nat, k < n → F (lo + k) = F' (lo + k)) → minN F lo cap n = minN F' lo cap n := by
  intro n
  induction n with
  | zero => intro _; rfl
  | succ n ih =>
    intro h
    rw [minN, minN, ih (fun k hk => h k (by omega)), h n (by omega)]
/-- alike: one small number, or both at their ceilings -/
def Rel (b I1 I2 c q : Int) : Prop := (c = q ∧ 0 ≤ q ∧ q < b) ∨ (c = I1 ∧ q = I2)
/-- alike before the ceilings are laid over -/
def Rel' (b I1 I2 c q : Int) : Prop := (c = q ∧ 0 ≤ q ∧ q < b) ∨ (I1 ≤ c ∧ I2 ≤ q)
theorem minN_rel {F F' : Int → Int} {lo b I1 I2 : Int} (h1 : b ≤ I1) (h2 : b ≤ I2) : ∀ {n : Nat}, (∀ k : Nat, k < n → Rel' b I1 I2 (F (lo + k)) (F' (lo + k))) → Rel b I1 I2 (minN F lo I1 n) (minN F' lo I2 n) := by
  intro n
  induction n with
  | zero => intro _; exact Or.inr ⟨rfl, rfl⟩
  | succ n ih =>
    intro h
    have h3 := ih (fun k hk => h k (by omega))
    have h4 := h n (by omega)
    unfold Rel at h3 ⊢
    unfold Rel' at h4
    rw [minN, minN]
    omega
theorem rel_up {b b' I1 I2 c q : Int} (h : Rel b I1 I2 c q) (hb : b ≤ b') : Rel b' I1 I2 c q := by
  unfold Rel at h ⊢
  omega
/-- price of a part of cells for an item -/
noncomputable def itP (P : Int → Int → Int → Int) (ft : Int → Int → Prop) (it p q : Int) : Int :=
  if 60 ≤ it then P (it - 60) p q else @ite Int (∃ x, p ≤ x ∧ x < q ∧ ft it x) (Classical.propDecidable _) (q - p - 1) (max (q - p) 1)
noncomputable def rP (I : Int) (P : Int → Int → Int → Int) (ft : Int → Int → Prop) (to : Int) : List Int → Int → Int
  | [], p => if p = to then 0 else I
  | it :: r, p => minN (fun q => itP P ft it p q + rP I P ft to r q) p I (to - p + 1).toNat
theorem itP_leaf {P P' : Int → Int → Int → Int} {ft : Int → Int → Prop} {it p q : Int} (h : ¬ 60 ≤ it) : itP P ft it p q = itP P' ft it p q := by
  unfold itP
  rw [if_neg h, if_neg h]
theorem itP_leaf_b {P : Int → Int → Int → Int} {ft : Int → Int → Prop} {it p q : Int} (h : ¬ 60 ≤ it) (hp : p ≤ q) : 0 ≤ itP P ft it p q ∧ itP P ft it p q ≤ q - p + 1 ∧ (p = q → itP P ft it p q = 1) := by
  unfold itP
  rw [if_neg h]
  by_cases e : ∃ x, p ≤ x ∧ x < q ∧ ft it x
  · rw [if_pos e]
    obtain ⟨x, h1, h2, _⟩ := e
    omega
  · rw [if_neg e]
    omega
theorem itP_sort {P : Int → Int → Int → Int} {ft : Int → Int → Prop} {it p q : Int} (h : 60 ≤ it) : itP P ft it p q = P (it - 60) p q := if_pos h
theorem rP_nn {I : Int} {P : Int → Int → Int → Int} {ft : Int → Int → Prop} {to : Int} (hI : 0 ≤ I) {l : List Int} : ∀ {p : Int}, (∀ s a b, p ≤ a → a ≤ b → b ≤ to → 0 ≤ P s a b) → 0 ≤ rP I P ft to l p := by
  induction l with
  | nil =>
    intro p _
    rw [rP]
    split <;> omega
  | cons it r ih =>
    intro p hP
    rw [rP]
    refine minN_ge (fun k hk => ?_) hI
    have h1 := ih (p := p + k) (fun s a b q1 q2 q3 => hP s a b (by omega) q2 q3)
    by_cases h : 60 ≤ it
    · have := hP (it - 60) p (p + k) (Int.le_refl _) (by omega) (by omega)
      rw [itP_sort h]
      omega
    · have := itP_leaf_b (P := P) (ft := ft) (p := p) (q := p + k) h (by omega)
      omega
theorem rP_cap {I : Int} {P : Int → Int → Int → Int} {ft : Int → Int → Prop} {to : Int} (hI : 0 ≤ I) {l : List Int} {p : Int} : rP I P ft to l p ≤ I := by
  cases l with
  | nil => rw [rP]; split <;> omega
  | cons it r => rw [rP]; exact minN_cap _
/-- what some items take of no cells costs one at least -/
theorem rP_pos {I : Int} {P : Int → Int → Int → Int} {ft : Int → Int → Prop} {to : Int} {l : List Int} (hl : l ≠ []) (hI : 1 ≤ I) (h0 : ∀ s, 1 ≤ P s to to) : 1 ≤ rP I P ft to l to := by
  cases l with
  | nil => exact absurd rfl hl
  | cons it r =>
    rw [rP]
    refine minN_ge (fun k hk => ?_) hI
    have e : k = 0 := by omega
    subst e
    have h1 : 0 ≤ rP I P ft to r to := rP_nn (by omega) (fun s a b q1 q2 q3 => by
      have e1 : a = to := by omega
      have e2 : b = to := by omega
      rw [e1, e2]
      have := h0 s
      omega)
    rw [show to + ((0 : Nat) : Int) = to by omega]
    by_cases h : 60 ≤ it
    · have := h0 (it - 60)
      rw [itP_sort h]
      omega
    · have := (itP_leaf_b (P := P) (ft := ft) (p := to) (q := to) h (Int.le_refl _)).2.2 rfl
      omega
/-- two tables alike on all parts: the sums are alike -/
theorem rP_rel {b I1 I2 : Int} {P Q : Int → Int → Int → Int} {ft : Int → Int → Prop} {to : Int} (hb : 20 ≤ b) {l : List Int} : ∀ {p : Int}, to - p ≤ 16 → 0 ≤ I1 → 0 ≤ I2 → b * (l.length + 1) ≤ I1 → b * (l.length + 1) ≤ I2 → (∀ s a c, p ≤ a → a ≤ c → c ≤ to → Rel b I1 I2 (P s a c) (Q s a c)) → Rel (b * (l.length + 1)) I1 I2 (rP I1 P ft to l p) (rP I2 Q ft to l p) := by
  induction l with
  | nil =>
    intro p h1 h2 h3 h4 h5 hR
    rw [rP, rP]
    unfold Rel
    by_cases e : p = to
    · rw [if_pos e, if_pos e]
      exact Or.inl ⟨rfl, Int.le_refl _, by simp only [List.length_nil]; omega⟩
    · rw [if_neg e, if_neg e]
      exact Or.inr ⟨rfl, rfl⟩
  | cons it r ih =>
    intro p h1 h2 h3 h4 h5 hR
    rw [rP, rP]
    have e : b * ((it :: r).length + 1 : Int) = b * (r.length + 1 : Int) + b := by
      rw [List.length_cons, Int.natCast_add, Int.mul_add, Int.mul_add, Int.mul_add]
      simp
    refine minN_rel h4 h5 fun k hk => ?_
    have g1 := ih (p := p + k) (by omega) h2 h3 (by omega) (by omega) (fun s a c q1 q2 q3 => hR s a c (by omega) q2 q3)
    rw [e]
    by_cases h : 60 ≤ it
    · have g2 := hR (it - 60) p (p + k) (Int.le_refl _) (by omega) (by omega)
      rw [itP_sort h, itP_sort h]
      unfold Rel at g1 g2
      unfold Rel'
      omega
    · rw [itP_leaf (P := P) (P' := Q) h]
      have g2 := itP_leaf_b (P := Q) (ft := ft) (p := p) (q := p + k) h (by omega)
      unfold Rel at g1
      unfold Rel'
      omega
end
