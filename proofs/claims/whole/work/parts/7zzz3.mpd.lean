section
/-! the forms of a tree that is mapped -/
theorem MPD_of {G : Nat → Int → Int} {B : Nat} (hM : IMp G B) {cT : Int → Int} {n : Int} (cb : ∀ x, 0 ≤ x → x < n → 20 ≤ cT x ∧ cT x ≤ 1013) (all : ∀ x, 0 ≤ x → x < n → 1000 ≤ cT x → 0 ≤ G (B + 17) (cT x - 1000)) :
    MPD (G (tvA B 1) 1) (G (tvA B 0 + 5)) (G (tvA B 1 + 5)) (G (tvA B 0 + 6)) (G (tvA B 1 + 6)) (G (B + 17)) (G (B + 18)) cT n ∧ ∀ x, 0 ≤ x → x < n → 1000 ≤ cT x → G (B + 544 + 93) (cT x - 1000) = G (B + 17) (cT x - 1000) ∧ ∀ i : Nat, (i : Int) < G (tvA B 1 + 5) (G (B + 17) (cT x - 1000)) → G (B + 544 + 94) (5 * (cT x - 1000) + i) = G (B + 18) (5 * (cT x - 1000) + i) := by
  have e0 : tvA B 0 = B + 370 := rfl
  have e1 : tvA B 1 = B + 384 := rfl
  rw [e0, e1]
  refine ⟨fun x x0 x1 l => ?_, fun x x0 x1 l => ?_⟩
  · have b := cb x x0 x1
    obtain ⟨_, _, a3, a4⟩ := hM (cT x - 1000) (by omega) (by omega)
    obtain ⟨b1, b2, b3⟩ := a4 (all x x0 x1 l)
    refine ⟨all x x0 x1 l, b2, fun i hi => ?_⟩
    obtain ⟨_, c2, c3, c4, c5⟩ := b3 i (by omega) hi
    refine ⟨c2, c3, ?_, fun i' hi' => c5 i' (by omega) (by omega)⟩
    unfold ki
    rcases c4 with c4 | ⟨c4, c6⟩
    · rw [c4]
    · rw [if_pos c4, if_pos c6]
  · have b := cb x x0 x1
    obtain ⟨a1, _, a3, a4⟩ := hM (cT x - 1000) (by omega) (by omega)
    obtain ⟨b1, b2, b3⟩ := a4 (all x x0 x1 l)
    exact ⟨a1, fun i hi => (b3 i (by omega) hi).1⟩
/-- the same word by the other side's map -/
theorem CW_cong {F F1 : Int} {ns0 ns1 I0 I1 mt ms mt' ms' : Int → Int} {n N L : Int} {cT eT u s r na la : Int → Int} (t : Tr 0 F ns0 I0 n N L cT eT u s r na la) (m : MPD F1 ns0 ns1 I0 I1 mt ms cT n) (e : ∀ x, 0 ≤ x → x < n → 1000 ≤ cT x → mt' (cT x - 1000) = mt (cT x - 1000) ∧ ∀ i : Nat, (i : Int) < ns1 (mt (cT x - 1000)) → ms' (5 * (cT x - 1000) + i) = ms (5 * (cT x - 1000) + i)) : ∀ (k : Nat) (x : Int) (w : List Int), 0 ≤ x → x < n → CW ns1 mt ms cT eT k x w → CW ns1 mt' ms' cT eT k x w := by
  intro k
  induction k with
  | zero => intro x w _ _ f; exact f
  | succ k ih =>
    intro x w x0 x1 f
    rcases f with f | ⟨l, u', hw, hu⟩
    · exact Or.inl f
    · obtain ⟨e1, e2⟩ := e x x0 x1 l
      obtain ⟨m1, m2, m3⟩ := m x x0 x1 l
      obtain ⟨F0, cE, cH⟩ := t.2.2.2.1 x x0 x1 l
      refine Or.inr ⟨l, u', by rw [e1]; exact hw, fun i hi => ?_⟩
      rw [e1] at hi
      rw [e2 i hi]
      obtain ⟨a1, a2, _⟩ := m3 i hi
      have b := cH (ms (5 * (cT x - 1000) + i)).toNat (by omega)
      exact ih _ _ (by omega) b.2.1 (hu i hi)
theorem MPD_cong {F1 : Int} {ns0 ns1 I0 I1 mt ms mt' ms' : Int → Int} {n : Int} {cT : Int → Int} (m : MPD F1 ns0 ns1 I0 I1 mt ms cT n) (e : ∀ x, 0 ≤ x → x < n → 1000 ≤ cT x → mt' (cT x - 1000) = mt (cT x - 1000) ∧ ∀ i : Nat, (i : Int) < ns1 (mt (cT x - 1000)) → ms' (5 * (cT x - 1000) + i) = ms (5 * (cT x - 1000) + i)) : MPD F1 ns0 ns1 I0 I1 mt' ms' cT n := fun x x0 x1 l => by
  obtain ⟨e1, e2⟩ := e x x0 x1 l
  obtain ⟨m1, m2, m3⟩ := m x x0 x1 l
  rw [e1]
  refine ⟨m1, m2, fun i hi => ?_⟩
  obtain ⟨a1, a2, a3, a4⟩ := m3 i hi
  rw [e2 i hi]
  refine ⟨a1, a2, a3, fun i' hi' => ?_⟩
  rw [e2 i' (by omega)]
  exact a4 i' hi'
end
