section
/-! what is let go one after the other, and the same found from behind -/
/-- of n that are held, those that stand after k have been asked: S is what stands -/
def lgo (F : (Nat → Prop) → Prop) : Nat → (Nat → Prop)
  | 0 => fun _ => True
  | k + 1 => fun i => lgo F k i ∧ ¬ (i = k ∧ F (fun j => lgo F k j ∧ ¬ j = k))
theorem lgo_keep {F : (Nat → Prop) → Prop} {k : Nat} (h : ¬ F (fun j => lgo F k j ∧ ¬ j = k)) : lgo F (k + 1) = lgo F k := by
  funext i
  refine propext ⟨fun q => q.1, fun q => ⟨q, fun w => h w.2⟩⟩
theorem lgo_drop {F : (Nat → Prop) → Prop} {k : Nat} (h : F (fun j => lgo F k j ∧ ¬ j = k)) : lgo F (k + 1) = fun j => lgo F k j ∧ ¬ j = k := by
  funext i
  refine propext ⟨fun q => ⟨q.1, fun w => q.2 ⟨w, h⟩⟩, fun q => ⟨q.1, fun w => q.2 w.1⟩⟩
/-- F asks of the first n alone, and more is worse -/
def Mono (n : Nat) (F : (Nat → Prop) → Prop) : Prop := ∀ S S' : Nat → Prop, (∀ i, i < n → S i → S' i) → F S → F S'
/-- between last and i all are let go, i stays -/
theorem lgo_skip {n : Nat} {F : (Nat → Prop) → Prop} (hF : Mono n F) {b : Nat → Prop} {m i : Nat} (hb : ∀ j, b j → j < m) (hi : i ≤ n) (hS : ∀ j, j < n → (lgo F m j ↔ b j ∨ m ≤ j)) (hf : F (fun j => b j ∨ i ≤ j)) (hmi : m ≤ i) :
    ∀ d k, k = m + d → k ≤ i → ∀ j, j < n → (lgo F k j ↔ b j ∨ k ≤ j) := by
  intro d
  induction d with
  | zero =>
    intro k hk _
    have e : k = m := by omega
    subst e
    exact hS
  | succ d ih =>
    intro k hk hki j hj
    have h1 := ih (m + d) rfl (by omega)
    have e : k = m + d + 1 := by omega
    subst e
    have h2 : F (fun j => lgo F (m + d) j ∧ ¬ j = m + d) := by
      refine hF _ _ (fun j hj hq => ?_) hf
      rcases hq with q | q
      · exact ⟨(h1 j hj).mpr (Or.inl q), fun e => by have := hb j q; omega⟩
      · exact ⟨(h1 j hj).mpr (Or.inr (by omega)), by omega⟩
    rw [lgo_drop h2]
    constructor
    · intro ⟨q1, q2⟩
      rcases (h1 j hj).mp q1 with q | q
      · exact Or.inl q
      · exact Or.inr (by omega)
    · intro q
      rcases q with q | q
      · exact ⟨(h1 j hj).mpr (Or.inl q), fun e => by have := hb j q; omega⟩
      · exact ⟨(h1 j hj).mpr (Or.inr (by omega)), by omega⟩
/-- i is the last one without which there is no fault: it stays, and what is behind it is asked next -/
theorem lgo_stay {n : Nat} {F : (Nat → Prop) → Prop} (hF : Mono n F) {b : Nat → Prop} {m i : Nat} (hb : ∀ j, b j → j < m) (hi : i < n) (hS : ∀ j, j < n → (lgo F m j ↔ b j ∨ m ≤ j)) (hf : F (fun j => b j ∨ i ≤ j)) (hn : ¬ F (fun j => b j ∨ i + 1 ≤ j)) (hmi : m ≤ i) :
    ∀ j, j < n → (lgo F (i + 1) j ↔ (b j ∨ j = i) ∨ i + 1 ≤ j) := by
  have h1 := lgo_skip hF hb (by omega) hS hf hmi (i - m) i (by omega) (Nat.le_refl _)
  have h2 : ¬ F (fun j => lgo F i j ∧ ¬ j = i) := by
    intro q
    refine hn (hF _ _ (fun j hj w => ?_) q)
    rcases (h1 j hj).mp w.1 with e | e
    · exact Or.inl e
    · exact Or.inr (by have := w.2; omega)
  intro j hj
  rw [lgo_keep h2, h1 j hj]
  constructor
  · intro q
    rcases q with q | q
    · exact Or.inl (Or.inl q)
    · by_cases e : j = i
      · exact Or.inl (Or.inr e)
      · exact Or.inr (by omega)
  · intro q
    rcases q with (q | q) | q
    · exact Or.inl q
    · exact Or.inr (by omega)
    · exact Or.inr (by omega)
/-- what stays is a fault by itself: all the others are let go -/
theorem lgo_end {n : Nat} {F : (Nat → Prop) → Prop} (hF : Mono n F) {b : Nat → Prop} {m : Nat} (hb : ∀ j, b j → j < m) (hm : m ≤ n) (hS : ∀ j, j < n → (lgo F m j ↔ b j ∨ m ≤ j)) (hf : F b) : ∀ j, j < n → (lgo F n j ↔ b j) := by
  have h1 := lgo_skip hF hb (Nat.le_refl n) hS (hF _ _ (fun j _ q => Or.inl q) hf) hm (n - m) n (by omega) (Nat.le_refl _)
  intro j hj
  rw [h1 j hj]
  exact ⟨fun q => q.elim id (fun w => by omega), fun q => Or.inl q⟩
end
