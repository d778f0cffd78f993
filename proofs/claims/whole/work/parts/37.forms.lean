section
theorem nsl_congr {c c' : Int → Int} : ∀ {n : Nat}, (∀ k : Nat, k < n → c' k = c k) → nsl c' n = nsl c n := by
  intro n
  induction n with
  | zero => intro _; rfl
  | succ n ih =>
    intro h
    rw [nsl, nsl, ih (fun k hk => h k (by omega)), h n (by omega)]
theorem nsl_b (c : Int → Int) : ∀ n : Nat, 0 ≤ nsl c n ∧ nsl c n ≤ n := by
  intro n
  induction n with
  | zero => exact ⟨Int.le_refl _, Int.le_refl _⟩
  | succ n ih =>
    rw [nsl]
    split <;> omega
theorem gs_off {G : Nat → Int → Int} {a : Nat} {j v j' : Int} (h : ¬ j' = j) : gs G a j v a j' = G a j' := by rw [gs_at, if_neg h]
theorem gs_not {G : Nat → Int → Int} {a a' : Nat} {j v j' : Int} (h : ¬ (a' = a ∧ j' = j)) : gs G a j v a' j' = G a' j' := if_neg h
/-- the cells of form f of telling v -/
def Fc (B t : Nat) (v f : Int) (a : Nat) (j : Int) : Prop :=
  ((a = t + 2 ∨ a = t + 3 ∨ a = t + 5 ∨ a = t + 9 ∨ a = t + 10 ∨ a = t + 11) ∧ j = f) ∨ ((a = t + 4 ∨ a = t + 6 ∨ a = t + 7 ∨ a = t + 8) ∧ 5 * f ≤ j ∧ j < 5 * f + 5) ∨ ((a = t + 12 ∨ a = t + 13) ∧ 6 * f ≤ j ∧ j < 6 * f + 6) ∨
  ((a = B + 544 + 3 ∨ a = B + 544 + 4 ∨ a = B + 544 + 8 ∨ a = B + 544 + 9 ∨ a = B + 544 + 12) ∧ j = 14 * v + f) ∨ ((a = B + 544 + 5 ∨ a = B + 544 + 6 ∨ a = B + 544 + 7) ∧ 5 * (14 * v + f) ≤ j ∧ j < 5 * (14 * v + f) + 5) ∨ ((a = B + 544 + 10 ∨ a = B + 544 + 11) ∧ 6 * (14 * v + f) ≤ j ∧ j < 6 * (14 * v + f) + 6)
theorem FR_congr2 {G G' : Nat → Int → Int} {B t : Nat} {v f : Int} (h : ∀ a j, Fc B t v f a j → G' a j = G a j) (hF : FR G B t v f) : FR G' B t v f := by
  obtain ⟨f1, f2, f3, f4, f5, f6, f7, f8, f9, f10, f11, f12⟩ := hF
  have e2 : G' (t + 3) f = G (t + 3) f := h _ _ (by unfold Fc; omega)
  have e5 : G' (t + 5) f = G (t + 5) f := h _ _ (by unfold Fc; omega)
  have e11 : G' (t + 11) f = G (t + 11) f := h _ _ (by unfold Fc; omega)
  have ec : ∀ n : Nat, n ≤ 5 → nsl (fun k => G' (t + 4) (5 * f + k)) n = nsl (fun k => G (t + 4) (5 * f + k)) n := fun n hn => nsl_congr fun k hk => h _ _ (by unfold Fc; omega)
  refine ⟨?_, ?_, ?_, ?_, ?_, ?_, ?_, ?_, ?_, ?_, ?_, ?_⟩
  · rw [h (t + 2) f (by unfold Fc; omega), h (B + 544 + 3) (14 * v + f) (by unfold Fc; omega)]
    exact f1
  · rw [e2, h (B + 544 + 4) (14 * v + f) (by unfold Fc; omega)]
    exact f2
  · intro k h1 h2
    rw [e2] at h2
    rw [h (B + 544 + 5) (5 * (14 * v + f) + k) (by unfold Fc; omega), h (t + 4) (5 * f + k) (by unfold Fc; omega), h (B + 544 + 6) (5 * (14 * v + f) + k) (by unfold Fc; omega), h (t + 7) (5 * f + k) (by unfold Fc; omega), h (B + 544 + 7) (5 * (14 * v + f) + k) (by unfold Fc; omega), h (t + 8) (5 * f + k) (by unfold Fc; omega)]
    exact f3 k h1 h2
  · intro k h1 h2
    rw [e2] at h1
    rw [h (B + 544 + 5) (5 * (14 * v + f) + k) (by unfold Fc; omega)]
    exact f4 k h1 h2
  · rw [e2, h (t + 7) _ (by unfold Fc; omega)]
    exact f5
  · rw [e5, e2, ec _ (by omega)]
    exact f6
  · intro k h1 h2 h3
    rw [e2] at h2
    have h4 := nsl_b (fun k => G (t + 4) (5 * f + k)) k.toNat
    rw [h (t + 4) (5 * f + k) (by unfold Fc; omega)] at h3 ⊢
    rw [ec _ (by omega), h (t + 6) _ (by unfold Fc; omega)]
    exact f7 k h1 h2 h3
  · rw [h (t + 9) f (by unfold Fc; omega), h (B + 544 + 12) (14 * v + f) (by unfold Fc; omega)]
    exact f8
  · rw [h (t + 10) f (by unfold Fc; omega), h (B + 544 + 8) (14 * v + f) (by unfold Fc; omega)]
    exact f9
  · rw [e11, h (B + 544 + 9) (14 * v + f) (by unfold Fc; omega)]
    exact f10
  · intro k h1 h2
    rw [e11] at h2
    rw [e5, h (B + 544 + 10) (6 * (14 * v + f) + k) (by unfold Fc; omega), h (t + 12) (6 * f + k) (by unfold Fc; omega), h (B + 544 + 11) (6 * (14 * v + f) + k) (by unfold Fc; omega), h (t + 13) (6 * f + k) (by unfold Fc; omega)]
    exact f11 k h1 h2
  · rw [e2, h (t + 4) (5 * f) (by unfold Fc; omega), h (t + 2) f (by unfold Fc; omega)]
    exact f12
/-- one form changes, the others stay -/
theorem IFm_one {G G' : Nat → Int → Int} {B : Nat} {v f : Int} (hI : IFm G B) (hv0 : 0 ≤ v) (hv1 : v ≤ 1) (hf0 : 0 ≤ f) (hf1 : f < G (B + 370 + 14 * v.toNat) 1)
    (h1 : G' (B + 370) = G (B + 370)) (h2 : G' (B + 384) = G (B + 384)) (h3 : G' (B + 544 + 2) = G (B + 544 + 2))
    (h : ∀ a j, ¬ Fc B (B + 370 + 14 * v.toNat) v f a j → G' a j = G a j) (hF : FR G' B (B + 370 + 14 * v.toNat) v f) : IFm G' B := by
  intro v' g1 g2
  obtain ⟨k1, k2, k3, k4⟩ := hI v' g1 g2
  have e : G' (B + 370 + 14 * v'.toNat) = G (B + 370 + 14 * v'.toNat) := by
    have : v'.toNat = 0 ∨ v'.toNat = 1 := by omega
    rcases this with q | q
    · rw [q]; exact h1
    · rw [q]; exact h2
  refine ⟨by rw [e, h3]; exact k1, by rw [e]; exact k2, by rw [e]; exact k3, fun f' q1 q2 => ?_⟩
  rw [e] at q2
  by_cases hv : v' = v
  · subst hv
    by_cases hf : f' = f
    · subst hf
      exact hF
    · refine FR_congr2 (fun a j hc => h a j ?_) (k4 f' q1 q2)
      unfold Fc at hc ⊢
      omega
  · refine FR_congr2 (fun a j hc => h a j ?_) (k4 f' q1 q2)
    have b1 := (hI v hv0 hv1).2.2.1
    unfold Fc at hc ⊢
    omega
end
