section
/-! distance: from one pair of keys to the next (pure) -/
theorem WRt_step {W W' L e L' e' : Int → Int} {n n' p q q' : Int} (w : WRt W L e L' e' n n' p q) (nw : ∀ i j, 0 ≤ i → i < n → 0 ≤ j → j < n' → p ≤ i → q ≤ j → e i = e p → e' j = e' q → W' (201 * i + j) = EDt L e L' e' i (e i) j (e' j)) (old : ∀ i j, 0 ≤ i → i < n → 0 ≤ j → j < n' → ¬ (p ≤ i ∧ q ≤ j ∧ e i = e p ∧ e' j = e' q) → W' (201 * i + j) = W (201 * i + j)) (hq : ∀ l, KFi e' l l → l < n' → q' < l → q ≤ l) : WRt W' L e L' e' n n' p q' := by
  intro i j k l i0 i1 j0 j1 hk hl h
  by_cases g : p ≤ i ∧ q ≤ j ∧ e i = e p ∧ e' j = e' q
  · exact nw i j i0 i1 j0 j1 g.1 g.2.1 g.2.2.1 g.2.2.2
  · rw [old i j i0 i1 j0 j1 g]
    refine w i j k l i0 i1 j0 j1 hk hl ?_
    rcases h with h | ⟨h1, h2⟩
    · exact Or.inl h
    · have ql := hq l (KFi_self hl) (by have := hl.2.1; omega) h2
      refine Or.inr ⟨h1, ?_⟩
      by_cases z : q < l
      · exact z
      · have e1 : l = q := by omega
        refine absurd ⟨?_, ?_, ?_, ?_⟩ g
        · rw [← h1]; exact hk.2.1
        · rw [← e1]; exact hl.2.1
        · rw [← h1]; exact hk.2.2.1.symm
        · rw [← e1]; exact hl.2.2.1.symm
theorem WRt_row {W L e L' e' : Int → Int} {n n' p p' : Int} (w : WRt W L e L' e' n n' p (-1)) (hp : ∀ k, KFi e k k → k < n → p' < k → p ≤ k) : WRt W L e L' e' n n' p' n' := by
  intro i j k l i0 i1 j0 j1 hk hl h
  rcases h with h | ⟨_, h2⟩
  · have pk := hp k (KFi_self hk) (by have := hk.2.1; omega) h
    refine w i j k l i0 i1 j0 j1 hk hl ?_
    by_cases z : p < k
    · exact Or.inl z
    · exact Or.inr ⟨by omega, by have := hl.1; omega⟩
  · have := hl.2.1
    omega
theorem WRt_start {W L e L' e' : Int → Int} {n n' : Int} : WRt W L e L' e' n n' n n' := by
  intro i j k l i0 i1 j0 j1 hk hl h
  have := hk.2.1
  have := hl.2.1
  omega
end
