section
/-! prices: least sums -/
def minN (F : Int → Int) (lo cap : Int) : Nat → Int
  | 0 => cap
  | k + 1 => min (minN F lo cap k) (F (lo + k))
theorem minN_s (F : Int → Int) (lo cap : Int) (k : Nat) : minN F lo cap (k + 1) = min (minN F lo cap k) (F (lo + k)) := rfl
theorem minN_cap {F : Int → Int} {lo cap : Int} : ∀ n, minN F lo cap n ≤ cap := by
  intro n
  induction n with
  | zero => exact Int.le_refl _
  | succ n ih => rw [minN]; omega
theorem minN_le {F : Int → Int} {lo cap : Int} : ∀ {n k : Nat}, k < n → minN F lo cap n ≤ F (lo + k) := by
  intro n
  induction n with
  | zero => intro k h; omega
  | succ n ih =>
    intro k h
    rw [minN]
    by_cases e : k = n
    · subst e; omega
    · have := ih (k := k) (by omega); omega
theorem minN_ge {F : Int → Int} {lo cap x : Int} : ∀ {n : Nat}, (∀ k : Nat, k < n → x ≤ F (lo + k)) → x ≤ cap → x ≤ minN F lo cap n := by
  intro n
  induction n with
  | zero => intro _ h; exact h
  | succ n ih =>
    intro h hc
    have h1 := ih (fun k hk => h k (by omega)) hc
    have h2 := h n (by omega)
    rw [minN]
    omega
theorem minN_ex {F : Int → Int} {lo cap : Int} : ∀ {n : Nat}, minN F lo cap n < cap → ∃ k : Nat, k < n ∧ minN F lo cap n = F (lo + k) := by
  intro n
  induction n with
  | zero => intro h; exact absurd h (by show ¬ cap < cap; omega)
  | succ n ih =>
    intro h
    rw [minN] at h ⊢
    by_cases e : F (lo + n) ≤ minN F lo cap n
    · exact ⟨n, by omega, by omega⟩
    · obtain ⟨k, hk, h2⟩ := ih (by omega)
      exact ⟨k, by omega, by omega⟩
theorem minN_congr {F F' : Int → Int} {lo cap : Int} : ∀ {n : Nat}, (∀ k : Nat, k < n → F (lo + k) = F' (lo + k)) → minN F lo cap n = minN F' lo cap n := by
  intro n
  induction n with
  | zero => intro _; rfl
  | succ n ih =>
    intro h
    rw [minN, minN, ih (fun k hk => h k (by omega)), h n (by omega)]
theorem minN_mono {F F' : Int → Int} {lo cap : Int} : ∀ {n : Nat}, (∀ k : Nat, k < n → F (lo + k) ≤ F' (lo + k)) → minN F lo cap n ≤ minN F' lo cap n := by
  intro n
  induction n with
  | zero => intro _; exact Int.le_refl _
  | succ n ih =>
    intro h
    have h1 := ih (fun k hk => h k (by omega))
    have h2 := h n (by omega)
    rw [minN, minN]
    omega
/-- alike: one small number, or both at their ceilings -/
def Rel (b I1 I2 c q : Int) : Prop := (c = q ∧ 0 ≤ q ∧ q < b) ∨ (c = I1 ∧ q = I2)
/-- alike before the ceilings are laid over -/
def Rel' (b I1 I2 c q : Int) : Prop := (c = q ∧ 0 ≤ q ∧ q < b) ∨ (I1 ≤ c ∧ I2 ≤ q)
theorem minN_rel {F F' : Int → Int} {lo b I1 I2 : Int} (h1 : b ≤ I1) (h2 : b ≤ I2) : ∀ {n : Nat}, (∀ k : Nat, k < n → Rel' b I1 I2 (F (lo + k)) (F' (lo + k))) → Rel b I1 I2 (minN F lo I1 n) (minN F' lo I2 n) := by
  intro n
  induction n with
  | zero => intro _; exact Or.inr ⟨rfl, rfl⟩
  | succ n ih =>
    intro h
    have h3 := ih (fun k hk => h k (by omega))
    have h4 := h n (by omega)
    unfold Rel at h3 ⊢
    unfold Rel' at h4
    rw [minN, minN]
    omega
/-- whether one of n cells from p on fits an item -/
def anF (ft : Int → Int → Bool) (it p : Int) : Nat → Bool
  | 0 => false
  | n + 1 => anF ft it p n || ft it (p + n)
theorem anF_iff {ft : Int → Int → Bool} {it p : Int} : ∀ {n : Nat}, anF ft it p n = true ↔ ∃ k : Nat, k < n ∧ ft it (p + k) = true := by
  intro n
  induction n with
  | zero => exact ⟨fun h => absurd h Bool.false_ne_true, fun ⟨k, hk, _⟩ => absurd hk (by omega)⟩
  | succ n ih =>
    rw [anF, Bool.or_eq_true, ih]
    refine ⟨fun h => h.elim (fun ⟨k, hk, e⟩ => ⟨k, by omega, e⟩) (fun e => ⟨n, by omega, e⟩), fun ⟨k, hk, e⟩ => ?_⟩
    by_cases q : k = n
    · subst q
      exact Or.inr e
    · exact Or.inl ⟨k, by omega, e⟩
theorem anF_0 {ft : Int → Int → Bool} {it p q : Int} (h : q ≤ p) : ¬ anF ft it p (q - p).toNat = true := by
  rw [show (q - p).toNat = 0 by omega]
  exact fun z => absurd z Bool.false_ne_true
/-- price of the cells from p to q - 1 for an item -/
def itP (P : Int → Int → Int → Int) (ft : Int → Int → Bool) (it p q : Int) : Int :=
  if 60 ≤ it then P (it - 60) p q else if anF ft it p (q - p).toNat = true then q - p - 1 else max (q - p) 1
def rP (I : Int) (P : Int → Int → Int → Int) (ft : Int → Int → Bool) (to : Int) : List Int → Int → Int
  | [], p => if p = to then 0 else I
  | it :: r, p => minN (fun q => itP P ft it p q + rP I P ft to r q) p I (to - p + 1).toNat
theorem rP_c (I : Int) (P : Int → Int → Int → Int) (ft : Int → Int → Bool) (to it p : Int) (r : List Int) : rP I P ft to (it :: r) p = minN (fun q => itP P ft it p q + rP I P ft to r q) p I (to - p + 1).toNat := by rw [rP]
theorem itP_leaf {P P' : Int → Int → Int → Int} {ft : Int → Int → Bool} {it p q : Int} (h : ¬ 60 ≤ it) : itP P ft it p q = itP P' ft it p q := by
  unfold itP
  rw [if_neg h, if_neg h]
theorem itP_leaf_b {P : Int → Int → Int → Int} {ft : Int → Int → Bool} {it p q : Int} (h : ¬ 60 ≤ it) (hp : p ≤ q) : 0 ≤ itP P ft it p q ∧ itP P ft it p q ≤ q - p + 1 ∧ (p = q → itP P ft it p q = 1) := by
  unfold itP
  rw [if_neg h]
  by_cases e : anF ft it p (q - p).toNat = true
  · rw [if_pos e]
    obtain ⟨x, h1, _⟩ := anF_iff.mp e
    omega
  · rw [if_neg e]
    omega
theorem itP_sort {P : Int → Int → Int → Int} {ft : Int → Int → Bool} {it p q : Int} (h : 60 ≤ it) : itP P ft it p q = P (it - 60) p q := if_pos h
theorem itP_mono {P P' : Int → Int → Int → Int} {ft : Int → Int → Bool} {it p q : Int} (h : 60 ≤ it → P (it - 60) p q ≤ P' (it - 60) p q) : itP P ft it p q ≤ itP P' ft it p q := by
  by_cases c : 60 ≤ it
  · rw [itP_sort c, itP_sort c]
    exact h c
  · rw [itP_leaf (P := P) (P' := P') c]
    exact Int.le_refl _
theorem itP_nn {P : Int → Int → Int → Int} {ft : Int → Int → Bool} {it p q : Int} (hp : p ≤ q) (h : 0 ≤ P (it - 60) p q) : 0 ≤ itP P ft it p q := by
  by_cases c : 60 ≤ it
  · rw [itP_sort c]
    exact h
  · exact (itP_leaf_b c hp).1
theorem rP_nn {I : Int} {P : Int → Int → Int → Int} {ft : Int → Int → Bool} {to : Int} (hI : 0 ≤ I) {l : List Int} : ∀ {p : Int}, (∀ s a b, p ≤ a → a ≤ b → b ≤ to → 0 ≤ P s a b) → 0 ≤ rP I P ft to l p := by
  induction l with
  | nil =>
    intro p _
    rw [rP]
    split <;> omega
  | cons it r ih =>
    intro p hP
    rw [rP]
    refine minN_ge (fun k hk => ?_) hI
    have h1 := ih (p := p + k) (fun s a b q1 q2 q3 => hP s a b (by omega) q2 q3)
    have h2 := itP_nn (ft := ft) (it := it) (p := p) (q := p + k) (by omega) (hP (it - 60) p (p + k) (Int.le_refl _) (by omega) (by omega))
    omega
theorem rP_cap {I : Int} {P : Int → Int → Int → Int} {ft : Int → Int → Bool} {to : Int} (hI : 0 ≤ I) {l : List Int} {p : Int} : rP I P ft to l p ≤ I := by
  cases l with
  | nil => rw [rP]; split <;> omega
  | cons it r => rw [rP]; exact minN_cap _
theorem rP_le {I : Int} {P : Int → Int → Int → Int} {ft : Int → Int → Bool} {to it p q : Int} {r : List Int} (h1 : p ≤ q) (h2 : q ≤ to) : rP I P ft to (it :: r) p ≤ itP P ft it p q + rP I P ft to r q := by
  rw [rP]
  have := minN_le (F := fun q => itP P ft it p q + rP I P ft to r q) (lo := p) (cap := I) (n := (to - p + 1).toNat) (k := (q - p).toNat) (by omega)
  rw [show p + (((q - p).toNat : Nat) : Int) = q by omega] at this
  exact this
theorem rP_ex {I : Int} {P : Int → Int → Int → Int} {ft : Int → Int → Bool} {to it p : Int} {r : List Int} (h : rP I P ft to (it :: r) p < I) : ∃ q, p ≤ q ∧ q ≤ to ∧ rP I P ft to (it :: r) p = itP P ft it p q + rP I P ft to r q := by
  rw [rP] at h ⊢
  obtain ⟨k, hk, e⟩ := minN_ex h
  exact ⟨p + k, by omega, by omega, e⟩
/-- what some items take of no cells costs one at least -/
theorem rP_pos {I : Int} {P : Int → Int → Int → Int} {ft : Int → Int → Bool} {to : Int} {l : List Int} (hl : l ≠ []) (hI : 1 ≤ I) (h0 : ∀ s, 1 ≤ P s to to) : 1 ≤ rP I P ft to l to := by
  cases l with
  | nil => exact absurd rfl hl
  | cons it r =>
    rw [rP]
    refine minN_ge (fun k hk => ?_) hI
    have e : k = 0 := by omega
    subst e
    have h1 : 0 ≤ rP I P ft to r to := rP_nn (by omega) (fun s a b q1 q2 q3 => by
      have e1 : a = to := by omega
      have e2 : b = to := by omega
      rw [e1, e2]
      have := h0 s
      omega)
    rw [show to + ((0 : Nat) : Int) = to by omega]
    by_cases h : 60 ≤ it
    · have := h0 (it - 60)
      rw [itP_sort h]
      omega
    · have := (itP_leaf_b (P := P) (ft := ft) (p := to) (q := to) h (Int.le_refl _)).2.2 rfl
      omega
theorem rP_mono {I : Int} {P P' : Int → Int → Int → Int} {ft : Int → Int → Bool} {to : Int} {l : List Int} : ∀ {p : Int}, (∀ s a b, p ≤ a → a ≤ b → b ≤ to → P s a b ≤ P' s a b) → rP I P ft to l p ≤ rP I P' ft to l p := by
  induction l with
  | nil => intro p _; exact Int.le_refl _
  | cons it r ih =>
    intro p h
    rw [rP, rP]
    refine minN_mono fun k hk => ?_
    have h1 := ih (p := p + k) (fun s a b q1 q2 q3 => h s a b (by omega) q2 q3)
    have h2 : itP P ft it p (p + k) ≤ itP P' ft it p (p + k) := itP_mono fun _ => h _ _ _ (Int.le_refl _) (by omega) (by omega)
    omega
theorem rP_congr {I : Int} {P P' : Int → Int → Int → Int} {ft : Int → Int → Bool} {to : Int} {l : List Int} {p : Int} (h : ∀ s a b, p ≤ a → a ≤ b → b ≤ to → P s a b = P' s a b) : rP I P ft to l p = rP I P' ft to l p := Int.le_antisymm (rP_mono fun s a b q1 q2 q3 => Int.le_of_eq (h s a b q1 q2 q3)) (rP_mono fun s a b q1 q2 q3 => Int.le_of_eq (h s a b q1 q2 q3).symm)
/-- two tables alike on all parts: the sums are alike -/
theorem rP_rel {b I1 I2 : Int} {P Q : Int → Int → Int → Int} {ft : Int → Int → Bool} {to : Int} (hb : 20 ≤ b) {l : List Int} : ∀ {p : Int}, to - p ≤ 16 → 0 ≤ I1 → 0 ≤ I2 → b * (l.length + 1) ≤ I1 → b * (l.length + 1) ≤ I2 → (∀ s a c, p ≤ a → a ≤ c → c ≤ to → Rel b I1 I2 (P s a c) (Q s a c)) → Rel (b * (l.length + 1)) I1 I2 (rP I1 P ft to l p) (rP I2 Q ft to l p) := by
  induction l with
  | nil =>
    intro p h1 h2 h3 h4 h5 hR
    rw [rP, rP]
    unfold Rel
    by_cases e : p = to
    · rw [if_pos e, if_pos e]
      exact Or.inl ⟨rfl, Int.le_refl _, by simp only [List.length_nil]; omega⟩
    · rw [if_neg e, if_neg e]
      exact Or.inr ⟨rfl, rfl⟩
  | cons it r ih =>
    intro p h1 h2 h3 h4 h5 hR
    rw [rP, rP]
    have e : b * ((it :: r).length + 1 : Int) = b * (r.length + 1 : Int) + b := by
      rw [List.length_cons, Int.natCast_add, Int.mul_add, Int.mul_add, Int.mul_add]
      simp
    refine minN_rel h4 h5 fun k hk => ?_
    have g1 := ih (p := p + k) (by omega) h2 h3 (by omega) (by omega) (fun s a c q1 q2 q3 => hR s a c (by omega) q2 q3)
    rw [e]
    by_cases h : 60 ≤ it
    · have g2 := hR (it - 60) p (p + k) (Int.le_refl _) (by omega) (by omega)
      rw [itP_sort h, itP_sort h]
      unfold Rel at g1 g2
      unfold Rel'
      omega
    · rw [itP_leaf (P := P) (P' := Q) h]
      have g2 := itP_leaf_b (P := Q) (ft := ft) (p := p) (q := p + k) h (by omega)
      unfold Rel at g1
      unfold Rel'
      omega
/-- a sum told by its parts -/
def Dec (Q : Int → Int → Int → Int) (ft : Int → Int → Bool) (b : Int) (Pd : Int → Int → Int → Prop) : List Int → Int → Int → Prop
  | [], p, V => p = b ∧ V = 0
  | it :: r, p, V => ∃ q V', p ≤ q ∧ q ≤ b ∧ Pd it p q ∧ V = itP Q ft it p q + V' ∧ Dec Q ft b Pd r q V'
theorem Dec_mono {Q : Int → Int → Int → Int} {ft : Int → Int → Bool} {b : Int} {Pd Pd' : Int → Int → Int → Prop} (h : ∀ it x y, Pd it x y → Pd' it x y) : ∀ {l : List Int} {p V : Int}, Dec Q ft b Pd l p V → Dec Q ft b Pd' l p V := by
  intro l
  induction l with
  | nil => intro p V d; exact d
  | cons it r ih =>
    intro p V d
    obtain ⟨q, V', d1, d2, d3, d4, d5⟩ := d
    exact ⟨q, V', d1, d2, h _ _ _ d3, d4, ih d5⟩
theorem rP_dec {I : Int} {Q : Int → Int → Int → Int} {ft : Int → Int → Bool} {b : Int} (hI : 0 ≤ I) : ∀ (l : List Int) (p : Int), (∀ s x y, p ≤ x → x ≤ y → y ≤ b → 0 ≤ Q s x y) → rP I Q ft b l p < I → Dec Q ft b (fun it x y => it ∈ l ∧ p ≤ x ∧ x ≤ y ∧ y ≤ b ∧ itP Q ft it x y ≤ rP I Q ft b l p) l p (rP I Q ft b l p) := by
  intro l
  induction l with
  | nil =>
    intro p _ h
    rw [rP] at h ⊢
    by_cases e : p = b
    · rw [if_pos e]
      exact ⟨e, rfl⟩
    · rw [if_neg e] at h
      exact absurd h (by omega)
  | cons it r ih =>
    intro p hQ h
    obtain ⟨q, q1, q2, e⟩ := rP_ex h
    have h1 := itP_nn (ft := ft) (it := it) q1 (hQ (it - 60) p q (Int.le_refl _) q1 q2)
    have h2 : 0 ≤ rP I Q ft b r q := rP_nn hI (fun s x y w1 w2 w3 => hQ s x y (by omega) w2 w3)
    have d := ih q (fun s x y w1 w2 w3 => hQ s x y (by omega) w2 w3) (by omega)
    refine ⟨q, _, q1, q2, ⟨List.mem_cons_self, Int.le_refl _, q1, q2, by omega⟩, e, Dec_mono (fun it' x y ⟨w1, w2, w3, w4, w5⟩ => ⟨List.mem_cons_of_mem _ w1, by omega, w3, w4, by omega⟩) d⟩
theorem Dec_ub {I : Int} {Q X : Int → Int → Int → Int} {ft : Int → Int → Bool} {b : Int} {Pd : Int → Int → Int → Prop} (h : ∀ it x y, Pd it x y → itP X ft it x y ≤ itP Q ft it x y) : ∀ {l : List Int} {p V : Int}, Dec Q ft b Pd l p V → rP I X ft b l p ≤ V := by
  intro l
  induction l with
  | nil =>
    intro p V d
    rw [rP, if_pos d.1, d.2]
    exact Int.le_refl _
  | cons it r ih =>
    intro p V d
    obtain ⟨q, V', d1, d2, d3, d4, d5⟩ := d
    have a := rP_le (I := I) (P := X) (ft := ft) (it := it) (r := r) d1 d2
    have b := ih d5
    have c := h _ _ _ d3
    omega
theorem Dec_len {Q : Int → Int → Int → Int} {ft : Int → Int → Bool} {b m : Int} {Pd : Int → Int → Int → Prop} (h : ∀ it x y, Pd it x y → itP Q ft it x y ≤ m) : ∀ {l : List Int} {p V : Int}, Dec Q ft b Pd l p V → V ≤ m * l.length := by
  intro l
  induction l with
  | nil =>
    intro p V d
    rw [d.2, List.length_nil]
    omega
  | cons it r ih =>
    intro p V d
    obtain ⟨q, V', d1, d2, d3, d4, d5⟩ := d
    have b := ih d5
    have c := h _ _ _ d3
    have e : m * ((it :: r).length : Int) = m * (r.length : Int) + m := by
      rw [List.length_cons, Int.natCast_add, Int.mul_add]
      simp
    rw [e]
    omega
theorem Dec_all {Q : Int → Int → Int → Int} {ft : Int → Int → Bool} {b : Int} {Pd : Int → Int → Int → Prop} : ∀ {l : List Int} {p V : Int}, Dec Q ft b Pd l p V → ∀ it, it ∈ l → ∃ x y, Pd it x y := by
  intro l
  induction l with
  | nil => intro p V _ it h; exact absurd h List.not_mem_nil
  | cons it r ih =>
    intro p V d it' h
    obtain ⟨q, V', d1, d2, d3, d4, d5⟩ := d
    rcases List.mem_cons.mp h with e | h
    · subst e
      exact ⟨_, _, d3⟩
    · exact ih d5 it' h
end
