section
/-! a loop that counts: environment E k, memory M k after k turns, N turns -/
theorem q_for {c : q_C} {s w : q_S} (hd : q_dS w) (hl : ∀ (Kn : List Value → q_M → Prop) (Kr : Option Value → q_M → Prop) (I : Nat → List Value → q_M → Prop) (_ : ∀ n env μ, I n env μ → c env μ (fun μ' => s env μ' (fun e m => ∃ k, k < n ∧ I k e m) Kr) (fun μ' => Kn env μ')), ∀ n env μ, I n env μ → w env μ Kn Kr)
    (E : Nat → List Value) (M : Nat → q_M) (N : Nat)
    (step : ∀ k : Nat, k < N → ∀ (Kn : List Value → q_M → Prop) (Kf : q_M → Prop), Kn (E (k + 1)) (M (k + 1)) → c (E k) (M k) (fun μ' => s (E k) μ' Kn (fun _ _ => False)) Kf)
    (last : ∀ (Kt Kf : q_M → Prop), Kf (M N) → c (E N) (M N) Kt Kf) (Kn : List Value → q_M → Prop) (Kr : Option Value → q_M → Prop) : w (E 0) (M 0) Kn Kr = Kn (E N) (M N) := by
  refine hd.eqn ?_ Kn Kr
  refine hl _ _ (fun n env μ => ∃ k : Nat, k + n = N ∧ env = E k ∧ μ = M k) ?_ N _ _ ⟨0, by omega, rfl, rfl⟩
  intro n env μ ⟨k, hk, he, hm⟩
  subst he hm
  by_cases h : k < N
  · exact step k h _ _ ⟨n - 1, by omega, k + 1, by omega, rfl, rfl⟩
  · have e : k = N := by omega
    subst e
    exact last _ _ ⟨rfl, rfl⟩
end
