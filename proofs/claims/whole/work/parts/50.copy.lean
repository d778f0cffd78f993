section
/-! a tree copied -/
theorem chI_congr {e e' : Int → Int} {w : Int} : ∀ k : Nat, (∀ i : Nat, i < k → e' (chI e w i) = e (chI e w i)) → chI e' w k = chI e w k := by
  intro k
  induction k with
  | zero => intro _; rfl
  | succ k ih =>
    intro h
    show e' (chI e' w k) = e (chI e w k)
    rw [ih (fun i q => h i (by omega)), h k (by omega)]
theorem nb_congr {c c' : Int → Int} : ∀ k : Nat, (∀ i : Nat, i < k → c' i = c i) → nb c' k = nb c k := by
  intro k
  induction k with
  | zero => intro _; rfl
  | succ k ih =>
    intro h
    rw [nb_s, nb_s, ih (fun i q => h i (by omega)), h k (by omega)]
theorem Tr_chc {h F : Int} {ns I : Int → Int} {n N L : Int} {c e u s r na la : Int → Int} {e' : Int → Int} (t : Tr h F ns I n N L c e u s r na la) (hc : ∀ p, 0 ≤ p → p < n → e' p = e p) {w : Int} (h0 : 0 ≤ w) (h1 : w < n) (hn : 1000 ≤ c w) {k : Nat} (hk : (k : Int) ≤ ns (c w - 1000)) : chI e' w k = chI e w k := by
  refine chI_congr k fun i q => ?_
  have := (t.2.2.2.1 w h0 h1 hn).2.2 i (by omega)
  exact hc _ (by omega) this.2.1
theorem Tr_copy {h F : Int} {ns I : Int → Int} {n N L : Int} {c e u s r na la : Int → Int} {c' e' u' s' r' na' la' : Int → Int} (t : Tr h F ns I n N L c e u s r na la) (hc : ∀ p, 0 ≤ p → p < n → c' p = c p ∧ e' p = e p ∧ u' p = u p ∧ s' p = s p ∧ r' p = r p) (hna : ∀ m, 0 ≤ m → m < N → na' m = na m) (hla : ∀ l, 0 ≤ l → l < L → la' l = la l) : Tr h F ns I n N L c' e' u' s' r' na' la' := by
  have t0 := t
  obtain ⟨tS, tE, tU, tN, tL, tR⟩ := t
  have n1 := tS.1
  have he : ∀ p, 0 ≤ p → p < n → e' p = e p := fun p q1 q2 => (hc p q1 q2).2.1
  refine ⟨?_, fun p q1 q2 => ?_, fun p q1 q2 => ?_, fun p q1 q2 q3 => ?_, fun p q1 q2 q3 => ?_, ?_⟩
  · obtain ⟨a1, a2, a3, a4, a5, a6, a7, a8⟩ := tS
    obtain ⟨b1, b2, b3, b4, b5⟩ := hc 0 (by omega) (by omega)
    exact ⟨a1, a2, a3, a4, a5, a6, by rw [b2]; exact a7, by rw [b3]; exact a8⟩
  · rw [he p q1 q2]
    exact tE p q1 q2
  · obtain ⟨a1, a2, a3, a4, a5, a6⟩ := tU p q1 q2
    obtain ⟨b1, b2, b3, b4, b5⟩ := hc p (by omega) q2
    rw [b3, b4, (hc (u p) a1 (by omega)).1, Tr_chc t0 he a1 (by omega) a3 (by omega)]
    exact ⟨a1, a2, a3, a4, a5, a6⟩
  · obtain ⟨b1, b2, b3, b4, b5⟩ := hc p q1 q2
    rw [b1] at q3
    obtain ⟨a1, a2, a3⟩ := tN p q1 q2 q3
    have w := tE p q1 q2
    rw [b1, b2]
    refine ⟨a1, ?_, fun i qi => ?_⟩
    · by_cases z : 0 ≤ ns (c p - 1000)
      · rw [Tr_chc t0 he q1 q2 q3 (by omega)]
        exact a2
      · rw [show (ns (c p - 1000)).toNat = 0 by omega] at a2 ⊢
        exact a2
    · obtain ⟨d1, d2, d3, d4, d5⟩ := a3 i qi
      rw [Tr_chc t0 he q1 q2 q3 (by omega)]
      obtain ⟨g1, g2, g3, g4, g5⟩ := hc (chI e p i) (by omega) d2
      rw [g1, g3, g4]
      exact ⟨d1, d2, d3, d4, d5⟩
  · obtain ⟨b1, b2, b3, b4, b5⟩ := hc p q1 q2
    rw [b1] at q3
    rw [b1, b2]
    exact tL p q1 q2 q3
  · have hb : ∀ k : Nat, (k : Int) ≤ n → nb c' k = nb c k := fun k q => nb_congr k fun i qi => (hc i (by omega) (by omega)).1
    obtain ⟨a1, a2, a3, a4⟩ := tR
    refine ⟨by rw [hb _ (by omega)]; exact a1, fun p q1 q2 => ?_, fun m q1 q2 => ?_, fun l q1 q2 => ?_⟩
    · obtain ⟨b1, b2, b3, b4, b5⟩ := hc p q1 q2
      rw [b1, b5, hb _ (by omega)]
      refine ⟨fun q3 => ?_, fun q3 => ?_⟩
      · have x := Tr_n t0 q1 q2 q3
        rw [hna _ x.2.2.1 x.2.2.2]
        exact (a2 p q1 q2).1 q3
      · have y := (a2 p q1 q2).2 q3
        have z1 := nb_b c p.toNat
        have z2 := nb_lb c (show p < n from q2) q1 q3
        have z3 := tS.2.2.2.2.2.1
        rw [hla _ (by omega) (by omega)]
        exact y
    · obtain ⟨x1, x2, x3, x4⟩ := a3 m q1 q2
      rw [hna m q1 q2, (hc _ x1 x2).1, hb _ (by omega)]
      exact ⟨x1, x2, x3, x4⟩
    · obtain ⟨x1, x2, x3, x4⟩ := a4 l q1 q2
      rw [hla l q1 q2, (hc _ x1 x2).1, hb _ (by omega)]
      exact ⟨x1, x2, x3, x4⟩
theorem Rl_copy {h F : Int} {ns I : Int → Int} {n N L : Int} {c e u s r na la : Int → Int} {c' e' u' s' r' na' la' : Int → Int} (t : Tr h F ns I n N L c e u s r na la) (hc : ∀ p, 0 ≤ p → p < n → c' p = c p ∧ e' p = e p ∧ u' p = u p ∧ s' p = s p ∧ r' p = r p) (hna : ∀ m, 0 ≤ m → m < N → na' m = na m) (hns : ∀ f, 0 ≤ f → f < F → ns f ≤ 5) {i i' : Int} {nodes root f0 u0 s0 nodes' root' f0' u0' s0' : Int → Int} (h1 : nodes' i' = nodes i) (h2 : root' i' = root i) (h3 : ∀ k, 0 ≤ k → k < 40 → f0' (40 * i' + k) = f0 (40 * i + k) ∧ u0' (40 * i' + k) = u0 (40 * i + k)) (h4 : ∀ k, 0 ≤ k → k < 200 → s0' (200 * i' + k) = s0 (200 * i + k))
    (w : Rl ns N c e u r na i nodes root f0 u0 s0) : Rl ns N c' e' u' r' na' i' nodes' root' f0' u0' s0' := by
  have n1 := t.1.1
  have N4 := t.1.2.2.2.1
  obtain ⟨w1, w2, w3⟩ := w
  refine ⟨by rw [h1]; exact w1, fun z => ?_, fun m q1 q2 => ?_⟩
  · rw [h2, (hc 0 (by omega) (by omega)).1]
    exact w2 z
  · obtain ⟨a1, a2, a3, a4, a5⟩ := Tr_m t q1 q2
    obtain ⟨b1, b2, b3⟩ := w3 m q1 q2
    obtain ⟨g1, g2, g3, g4, g5⟩ := hc _ a1 a2
    obtain ⟨n1, n2, n3⟩ := t.2.2.2.1 _ a1 a2 a3
    have n5 := hns (c (na m) - 1000) (by omega) n1
    obtain ⟨d1, d2⟩ := h3 m q1 (by omega)
    rw [hna m q1 q2, g1, g3, d1, d2, b1, b2]
    refine ⟨rfl, ?_, fun k qk => ?_⟩
    · by_cases z : u (na m) = -1
      · rw [if_pos z, if_pos z]
      · rw [if_neg z, if_neg z]
        have p0 : 0 < na m := by
          refine Int.not_le.mp fun q => ?_
          rw [show na m = 0 by omega] at z
          exact z t.1.2.2.2.2.2.2.2
        have y := Tr_par t p0 a2
        exact (hc (u (na m)) y.1 (by omega)).2.2.2.2.symm
    · have x := n3 k qk
      have y := h4 (5 * m + k) (by omega) (by omega)
      rw [show 200 * i' + (5 * m + (k : Int)) = 5 * (40 * i' + m) + k by omega, show 200 * i + (5 * m + (k : Int)) = 5 * (40 * i + m) + k by omega] at y
      rw [y, b3 k qk, Tr_chc t (fun p q1 q2 => (hc p q1 q2).2.1) a1 a2 a3 (by omega)]
      obtain ⟨f1, f2, f3, f4, f5⟩ := hc (chI e (na m) k) (by omega) x.2.1
      unfold pc
      rw [f1, f5]
end
