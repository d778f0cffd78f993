section
/-! kept: the search (pure) -/
/-- f at k, k + 1, .. : n times, or until it says an answer -/
def runL (f : Nat → (List (List Int × Int)) → (List (List Int × Int)) ⊕ Int) : Nat → Nat → (List (List Int × Int)) → (List (List Int × Int)) ⊕ Int
  | 0, _, s => Sum.inl s
  | n + 1, k, s => match f k s with
    | Sum.inl s' => runL f n (k + 1) s'
    | Sum.inr a => Sum.inr a
theorem runL_l {f : Nat → (List (List Int × Int)) → (List (List Int × Int)) ⊕ Int} {n k : Nat} {s s' : (List (List Int × Int))} (h : f k s = Sum.inl s') : runL f (n + 1) k s = runL f n (k + 1) s' := by
  rw [runL, h]
theorem runL_r {f : Nat → (List (List Int × Int)) → (List (List Int × Int)) ⊕ Int} {n k : Nat} {s : (List (List Int × Int))} {a : Int} (h : f k s = Sum.inr a) : runL f (n + 1) k s = Sum.inr a := by
  rw [runL, h]
/-- a tree that the search comes to -/
def kNew (goal w' : List Int) (z : Int) (s : (List (List Int × Int))) : (List (List Int × Int)) ⊕ Int := if nb (wf w') w'.length ≤ 40 then (if w' = goal then Sum.inr z else if w' ∈ s.map Prod.fst then Sum.inl s else if 60 ≤ s.length then Sum.inr (-100005) else Sum.inl (s ++ [(w', z)])) else Sum.inl s
noncomputable def kOut (G0 : Nat → Int → Int) (B : Nat) (v : Int) (ua uz : Nat) (w : List Int) (p : Int) : List Int := @dite (List Int) (∃ w', outW G0 B v ua uz w p w') (Classical.propDecidable _) (fun h => Classical.choose h) (fun _ => [])
theorem kOut_is {G0 : Nat → Int → Int} {B : Nat} {v : Int} {ua uz : Nat} {w : List Int} {p : Int} (h : ∃ w', outW G0 B v ua uz w p w') : outW G0 B v ua uz w p (kOut G0 B v ua uz w p) := by
  unfold kOut
  rw [dif_pos h]
  exact Classical.choose_spec h
/-- the word, the steps of tree i -/
def kW (s : (List (List Int × Int))) (i : Nat) : List Int := (s.getD i ([], 0)).1
def kZ (s : (List (List Int × Int))) (i : Nat) : Int := (s.getD i ([], 0)).2
noncomputable def kNode (G0 : Nat → Int → Int) (B : Nat) (v : Int) (goal : List Int) (i : Nat) (ua uz : Nat) (m : Nat) (s : (List (List Int × Int))) : (List (List Int × Int)) ⊕ Int := @ite ((List (List Int × Int)) ⊕ Int) (fitW G0 B v ua (kW s i) (naW (wf (kW s i)) (kW s i).length m)) (Classical.propDecidable _) (kNew goal (kOut G0 B v ua uz (kW s i) (naW (wf (kW s i)) (kW s i).length m)) (kZ s i + 1) s) (Sum.inl s)
def uaJ (B j : Nat) : Nat := B + 250 + 10 * j
def uzJ (B j : Nat) : Nat := if j % 2 = 0 then B + 260 + 10 * j else B + 240 + 10 * j
/-- no hole of the before is lost -/
def kSub (G0 : Nat → Int → Int) (B l : Nat) : Prop := ∀ y, 0 ≤ y → y < G0 (B + 250 + 20 * l) 2 → isHo (G0 (B + 250 + 20 * l + 1) y) → ∃ p', 0 ≤ p' ∧ p' < G0 (B + 260 + 20 * l) 2 ∧ G0 (B + 260 + 20 * l + 1) p' = G0 (B + 250 + 20 * l + 1) y
def kMay (G0 : Nat → Int → Int) (B : Nat) (tu v : Int) (j : Nat) : Prop := ¬ ((j / 2 : Nat) : Int) = tu ∧ (G0 (B + 60) ((j / 2 : Nat) : Int) = 1 ∧ G0 (B + 61) ((j / 2 : Nat) : Int) = 1 ∧ G0 (B + 250 + 20 * (j / 2)) 1 = v) ∧ (j % 2 = 0 ∨ kSub G0 B (j / 2))
noncomputable def kWay (G0 : Nat → Int → Int) (B : Nat) (tu v : Int) (goal : List Int) (i j : Nat) (s : (List (List Int × Int))) : (List (List Int × Int)) ⊕ Int := @ite ((List (List Int × Int)) ⊕ Int) (kMay G0 B tu v j) (Classical.propDecidable _) (runL (kNode G0 B v goal i (uaJ B j) (uzJ B j)) (nb (wf (kW s i)) (kW s i).length).toNat 0 s) (Sum.inl s)
noncomputable def kTree (G0 : Nat → Int → Int) (B : Nat) (tu v : Int) (goal : List Int) (i : Nat) (s : (List (List Int × Int))) : (List (List Int × Int)) ⊕ Int := if i < s.length then runL (kWay G0 B tu v goal i) 12 0 s else Sum.inl s
/-- what holds of the trees that the search has come to -/
def KI (G0 : Nat → Int → Int) (B : Nat) (v : Int) (goal : List Int) (s : (List (List Int × Int))) : Prop := (1 ≤ s.length ∧ s.length ≤ 60) ∧ ∀ k : Nat, k < s.length → GW1 G0 B v (kW s k) ∧ (0 ≤ kZ s k ∧ kZ s k ≤ k) ∧ ¬ kW s k = goal
theorem kW_app {s : (List (List Int × Int))} {w : List Int} {z : Int} {k : Nat} : (k < s.length → kW (s ++ [(w, z)]) k = kW s k ∧ kZ (s ++ [(w, z)]) k = kZ s k) ∧ (k = s.length → kW (s ++ [(w, z)]) k = w ∧ kZ (s ++ [(w, z)]) k = z) := by
  unfold kW kZ
  refine ⟨fun h => ?_, fun h => ?_⟩
  · rw [List.getD_eq_getElem?_getD, List.getElem?_append_left h, List.getD_eq_getElem?_getD]
    exact ⟨rfl, rfl⟩
  · subst h
    rw [List.getD_eq_getElem?_getD, List.getElem?_append_right (Nat.le_refl _), Nat.sub_self]
    exact ⟨rfl, rfl⟩
theorem kW_mem {s : (List (List Int × Int))} {w : List Int} : w ∈ s.map Prod.fst ↔ ∃ k : Nat, k < s.length ∧ kW s k = w := by
  constructor
  · intro h
    obtain ⟨a, a1, a2⟩ := List.mem_map.mp h
    obtain ⟨k, k1, k2⟩ := List.getElem_of_mem a1
    refine ⟨k, k1, ?_⟩
    unfold kW
    rw [List.getD_eq_getElem?_getD, List.getElem?_eq_getElem k1, Option.getD_some, k2, a2]
  · intro ⟨k, k1, k2⟩
    refine List.mem_map.mpr ⟨s[k], List.getElem_mem k1, ?_⟩
    unfold kW at k2
    rw [List.getD_eq_getElem?_getD, List.getElem?_eq_getElem k1, Option.getD_some] at k2
    exact k2
/-- what a new tree does to the search -/
theorem kNew_i {G0 : Nat → Int → Int} {B : Nat} {v : Int} {goal w' : List Int} {z : Int} {s s' : (List (List Int × Int))} (ki : KI G0 B v goal s) (gw : nb (wf w') w'.length ≤ 40 → GW1 G0 B v w') (z0 : 0 ≤ z ∧ z ≤ s.length) (h : kNew goal w' z s = Sum.inl s') : KI G0 B v goal s' ∧ s.length ≤ s'.length ∧ ∀ k : Nat, k < s.length → kW s' k = kW s k ∧ kZ s' k = kZ s k := by
  unfold kNew at h
  by_cases n40 : nb (wf w') w'.length ≤ 40
  · rw [if_pos n40] at h
    by_cases g : w' = goal
    · rw [if_pos g] at h
      exact absurd h (by simp)
    · rw [if_neg g] at h
      by_cases m : w' ∈ s.map Prod.fst
      · rw [if_pos m] at h
        injection h with h
        subst h
        exact ⟨ki, Nat.le_refl _, fun _ _ => ⟨rfl, rfl⟩⟩
      · rw [if_neg m] at h
        by_cases f : 60 ≤ s.length
        · rw [if_pos f] at h
          exact absurd h (by simp)
        · rw [if_neg f] at h
          injection h with h
          subst h
          rw [List.length_append]
          show KI G0 B v goal (s ++ [(w', z)]) ∧ s.length ≤ s.length + 1 ∧ _
          refine ⟨⟨by rw [List.length_append]; show 1 ≤ s.length + 1 ∧ s.length + 1 ≤ 60; omega, fun k hk => ?_⟩, by omega, fun k hk => (kW_app (w := w') (z := z)).1 hk⟩
          rw [List.length_append] at hk
          have hk : k < s.length + 1 := hk
          by_cases e : k = s.length
          · obtain ⟨a, b⟩ := (kW_app (w := w') (z := z)).2 e
            rw [a, b]
            exact ⟨gw n40, by omega, g⟩
          · obtain ⟨a, b⟩ := (kW_app (s := s) (w := w') (z := z) (k := k)).1 (by omega)
            rw [a, b]
            exact ki.2 k (by omega)
  · rw [if_neg n40] at h
    injection h with h
    subst h
    exact ⟨ki, Nat.le_refl _, fun _ _ => ⟨rfl, rfl⟩⟩
/-- a run keeps what each of its steps keeps -/
theorem runL_i {f : Nat → (List (List Int × Int)) → (List (List Int × Int)) ⊕ Int} {I : (List (List Int × Int)) → Prop} : ∀ (n k : Nat) (s s' : (List (List Int × Int))), (∀ j s s', I s → f j s = Sum.inl s' → I s') → I s → runL f n k s = Sum.inl s' → I s' := by
  intro n
  induction n with
  | zero =>
    intro k s s' _ h e
    rw [runL] at e
    injection e with e
    subst e
    exact h
  | succ n ih =>
    intro k s s' st h e
    cases q : f k s with
    | inl t =>
      rw [runL_l q] at e
      exact ih _ _ _ st (st k s t h q) e
    | inr a =>
      rw [runL_r q] at e
      exact absurd e (by simp)
end
