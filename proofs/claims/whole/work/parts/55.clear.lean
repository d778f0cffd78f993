section
/-! clear -/
/-- telling v is cleared: no tree, no shown pair, no turn of it -/
theorem IRe_clear {G G' : Nat → Int → Int} {B : Nat} {v : Int} (hI : IRe G B) (hF : IFm G B) (v0 : 0 ≤ v) (v1 : v ≤ 1) (hg : ∀ w, 0 ≤ w → w ≤ 1 → ¬ w = v → TvE G G' B w)
    (hT : ∀ i : Int, 0 ≤ i → i ≤ 11 → (∀ x, B + 398 + 10 * i.toNat + 1 ≤ x → x < B + 398 + 10 * i.toNat + 10 → G' x = G x) ∧ (G (B + 398 + 10 * i.toNat) 1 = v → G' (B + 398 + 10 * i.toNat) 0 = 0 ∧ G' (B + 398 + 10 * i.toNat) 1 = v) ∧ (¬ G (B + 398 + 10 * i.toNat) 1 = v → G' (B + 398 + 10 * i.toNat) = G (B + 398 + 10 * i.toNat)))
    (hS : ∀ x, B + 170 ≤ x → x < B + 370 → G' x = G x) (hp : G' (B + 59) 1 = G (B + 59) 1 ∧ G' (B + 544) 103 = G' (B + 59) 0 ∧ (G (B + 59) 1 = v → G' (B + 59) 0 = 0) ∧ (¬ G (B + 59) 1 = v → G' (B + 59) 0 = G (B + 59) 0))
    (hU : ∀ k : Int, 0 ≤ k → k ≤ 5 → (G (B + 250 + 20 * k.toNat) 1 = v → G' (B + 60) k = 0) ∧ (¬ G (B + 250 + 20 * k.toNat) 1 = v → G' (B + 60) k = G (B + 60) k ∧ G' (B + 61) k = G (B + 61) k))
    (hm : ∀ i : Int, 0 ≤ i → i ≤ 31 → G' (B + 544 + 16) i = if G (B + 544 + 16) i = v ∧ i ≤ 11 then -1 else G (B + 544 + 16) i) (hn : ∀ x, B + 544 + 17 ≤ x → x ≤ B + 544 + 22 → G' x = G x) (hu : ∀ k : Int, 0 ≤ k → k ≤ 5 → G' (B + 544 + 82) k = if G (B + 544 + 82) k = v then -1 else G (B + 544 + 82) k) (hl : G' (B + 544 + 84) = G (B + 544 + 84)) : IRe G' B := by
  obtain ⟨i1, ⟨s1, s2, s3, s4⟩, i3⟩ := hI
  have row : ∀ i, 0 ≤ i → i ≤ 31 → ¬ (G (B + 544 + 16) i = v ∧ i ≤ 11) → RowE G G' B i := fun i q1 q2 q3 => by
    unfold RowE
    rw [hm i q1 q2, if_neg q3, hn (B + 544 + 17) (by omega) (by omega), hn (B + 544 + 18) (by omega) (by omega), hn (B + 544 + 19) (by omega) (by omega), hn (B + 544 + 20) (by omega) (by omega), hn (B + 544 + 21) (by omega) (by omega)]
    exact ⟨rfl, rfl, rfl, fun m _ _ => ⟨rfl, rfl, fun k _ _ => rfl⟩⟩
  refine ⟨fun i q1 q2 => ?_, ⟨hp.2.1, ?_, by rw [hp.1]; exact s3, fun k q1 q2 => ?_⟩, fun k q1 q2 => ?_⟩
  · obtain ⟨t0, t⟩ := i1 i q1 q2
    obtain ⟨h1, h2, h3⟩ := hT i q1 q2
    by_cases e : G (B + 398 + 10 * i.toNat) 1 = v
    · have h2 := h2 e
      refine ⟨by omega, Or.inl ⟨h2.1, ?_⟩⟩
      rw [hm i q1 (by omega)]
      rcases t with ⟨_, t⟩ | ⟨_, t, _⟩
      · rw [if_neg (by omega)]
        exact t
      · have := t.2.1
        rw [if_pos (by omega)]
    · have h3 := h3 e
      have ha : ∀ x, B + 398 + 10 * i.toNat ≤ x → x < B + 398 + 10 * i.toNat + 10 → G' x = G x := fun x z1 z2 => by
        by_cases z : x = B + 398 + 10 * i.toNat
        · rw [z]; exact h3
        · exact h1 x (by omega) z2
      rcases t with ⟨t1, t2⟩ | ⟨t1, t2, t3, t4⟩
      · refine ⟨by rw [h3]; exact t0, Or.inl ⟨by rw [h3]; exact t1, ?_⟩⟩
        rw [hm i q1 (by omega), if_neg (by omega)]
        exact t2
      · have b := TOK_b t2
        refine ⟨by rw [h3]; exact t0, Or.inr ⟨by rw [h3]; exact t1, ?_, by rw [h3]; exact t3, ?_⟩⟩
        · rw [h3]
          exact TOK_rowT hF (hg _ t0.1 t0.2 e) (fun x z1 z2 => ha x z1 (by omega)) (row i q1 (by omega) (by omega)) t2
        · unfold PIN
          rw [h3, ha (a + 9) (by omega) (by omega), hn (B + 544 + 22) (by omega) (by omega)]
          exact t4
  · by_cases e : G (B + 59) 1 = v
    · have := hp.2.2.1 e
      omega
    · rw [hp.2.2.2 e]
      exact s2
  · by_cases e : G (B + 59) 1 = v
    · have := hp.2.2.1 e
      omega
    · rw [hp.2.2.2 e] at q2
      obtain ⟨t1, t2⟩ := s4 k q1 q2
      rw [hp.1, hS _ (by omega) (by omega)]
      exact ⟨TOK_rowT hF (hg _ s3.1 s3.2 e) (fun x z1 z2 => hS x (by omega) (by omega)) (row _ (by omega) (by omega) (by omega)) t1, t2⟩
  · obtain ⟨t0, t⟩ := i3 k q1 q2
    obtain ⟨h1, h2⟩ := hU k q1 q2
    have w := hu k q1 q2
    have sa : ∀ x, B + 250 + 20 * k.toNat ≤ x → x < B + 270 + 20 * k.toNat → G' x = G x := fun x z1 z2 => hS x (by omega) (by omega)
    by_cases e : G (B + 250 + 20 * k.toNat) 1 = v
    · refine ⟨by rw [sa _ (by omega) (by omega)]; exact t0, Or.inl ⟨h1 e, ?_⟩⟩
      rw [w]
      rcases t with ⟨_, t⟩ | ⟨_, t, _⟩
      · rw [if_neg (by omega)]
        exact t
      · rw [if_pos (by omega)]
    · obtain ⟨g1, g2⟩ := h2 e
      unfold ITu
      rw [sa _ (by omega) (by omega), g1, g2, w, hl, sa (B + 260 + 20 * k.toNat) (by omega) (by omega), sa (B + 250 + 20 * k.toNat + 1) (by omega) (by omega), sa (B + 250 + 20 * k.toNat + 3) (by omega) (by omega), sa (B + 250 + 20 * k.toNat + 4) (by omega) (by omega), sa (B + 260 + 20 * k.toNat + 1) (by omega) (by omega)]
      refine ⟨t0, ?_⟩
      rcases t with ⟨t1, t2⟩ | ⟨t1, t2, t3, t4, t5, t6, t7⟩
      · exact Or.inl ⟨t1, by rw [if_neg (by omega)]; exact t2⟩
      · have tv := hg _ t0.1 t0.2 e
        refine Or.inr ⟨t1, by rw [if_neg (by omega)]; exact t2, TOK_rowT hF tv (fun x z1 z2 => sa x (by omega) (by omega)) (row _ (by omega) (by omega) (by omega)) t3, TOK_rowT hF tv (fun x z1 z2 => sa x (by omega) (by omega)) (row _ (by omega) (by omega) (by omega)) t4, t5, t6, ?_⟩
        rw [tv.2.2]
        exact t7
end
