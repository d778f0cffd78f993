section
/-! distance: keys (pure) -/
/-- k is the first piece that ends where i ends -/
def KFi (e : Int → Int) (k i : Int) : Prop := 0 ≤ k ∧ k ≤ i ∧ e k = e i ∧ ∀ x, 0 ≤ x → x < k → ¬ e x = e i
theorem KFi_ex {e : Int → Int} {i : Int} (i0 : 0 ≤ i) : ∃ k, KFi e k i := by
  rcases least_fail (fun k => ¬ e k = e i) (i.toNat + 1) with h | ⟨j, j1, j2, j3⟩
  · have := h i.toNat (by omega)
    rw [Int.toNat_of_nonneg i0] at this
    exact absurd rfl this
  · refine ⟨j, by omega, by omega, Classical.byContradiction j2, fun x x0 x1 => ?_⟩
    have := j3 x.toNat (by omega)
    rw [Int.toNat_of_nonneg x0] at this
    exact this
theorem KFi_one {e : Int → Int} {k l i : Int} (h : KFi e k i) (g : KFi e l i) : k = l := by
  by_cases a : k < l
  · exact absurd h.2.2.1 (g.2.2.2 k h.1 a)
  · by_cases b : l < k
    · exact absurd g.2.2.1 (h.2.2.2 l g.1 b)
    · omega
/-- the first of a first is itself -/
theorem KFi_self {e : Int → Int} {k i : Int} (h : KFi e k i) : KFi e k k := ⟨h.1, Int.le_refl _, rfl, fun x x0 x1 => by rw [h.2.2.1]; exact h.2.2.2 x x0 x1⟩
theorem KFi_gt {e : Int → Int} {n p i k : Int} (N : Nst e 0 n) (p0 : 0 ≤ p) (hi : p ≤ i) (ie : i < e p) (en : e p ≤ n) (ne : ¬ e i = e p) (h : KFi e k i) : p < k := by
  refine Int.not_le.mp fun z => ?_
  have a := N.1 i (by omega) (by omega)
  have b : e i ≤ e p := by
    by_cases q : p = i
    · rw [q]; exact Int.le_refl _
    · exact N.2 p i p0 (by omega) ie (by omega)
  have c : e p ≤ e k := by
    by_cases q : k = p
    · rw [q]; exact Int.le_refl _
    · exact N.2 k p h.1 (by omega) (by rw [h.2.2.1]; omega) (by omega)
  rw [h.2.2.1] at c
  omega
/-- which trees have been measured when the keys p, q come next -/
def WRt (W : Int → Int) (L e L' e' : Int → Int) (n n' p q : Int) : Prop := ∀ i j k l, 0 ≤ i → i < n → 0 ≤ j → j < n' → KFi e k i → KFi e' l j → (p < k ∨ (k = p ∧ q < l)) → W (201 * i + j) = EDt L e L' e' i (e i) j (e' j)
theorem WRt_use {W L e L' e' : Int → Int} {n n' p q i j : Int} (N : Nst e 0 n) (N' : Nst e' 0 n') (w : WRt W L e L' e' n n' p q) (kp : KFi e p p) (p0 : p < n) (q0 : 0 ≤ q) (q1 : q < n') (i0 : p ≤ i) (i1 : i < e p) (j0 : q ≤ j) (j1 : j < e' q) (ne : ¬ (e i = e p ∧ e' j = e' q)) : W (201 * i + j) = EDt L e L' e' i (e i) j (e' j) := by
  have pp := kp.1
  have ep := N.1 p pp p0
  have eq := N'.1 q q0 q1
  obtain ⟨k, hk⟩ := KFi_ex (e := e) (i := i) (by omega)
  obtain ⟨l, hl⟩ := KFi_ex (e := e') (i := j) (by omega)
  refine w i j k l (by omega) (by omega) (by omega) (by omega) hk hl ?_
  by_cases a : e i = e p
  · refine Or.inr ⟨KFi_one hk ⟨pp, i0, a.symm, fun x x0 x1 => by rw [a]; exact kp.2.2.2 x x0 x1⟩, ?_⟩
    exact KFi_gt N' q0 j0 j1 eq.2 (fun z => ne ⟨a, z⟩) hl
  · exact Or.inl (KFi_gt N pp i0 i1 ep.2 a hk)
end
