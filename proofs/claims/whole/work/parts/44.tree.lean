section
/-! trees: what lies in what -/
theorem nb_s (c : Int → Int) (k : Nat) : nb c (k + 1) = nb c k + if 1000 ≤ c k then 1 else 0 := rfl
theorem nb_b (c : Int → Int) (k : Nat) : 0 ≤ nb c k ∧ nb c k ≤ k := by
  induction k with
  | zero => exact ⟨Int.le_refl _, Int.le_refl _⟩
  | succ k ih =>
    rw [nb_s]
    split <;> omega
theorem nb_mono (c : Int → Int) {j k : Nat} (h : j ≤ k) : nb c j ≤ nb c k := by
  obtain ⟨d, rfl⟩ := Nat.le.dest h
  clear h
  induction d with
  | zero => exact Int.le_refl _
  | succ d ih =>
    rw [← Nat.add_assoc, nb_s]
    split <;> omega
theorem nb_lt (c : Int → Int) {j k : Nat} (h : j < k) (hn : 1000 ≤ c j) : nb c j + 1 ≤ nb c k := by
  have h1 := nb_mono c (show j + 1 ≤ k from h)
  rw [nb_s, if_pos hn] at h1
  exact h1
theorem nbi_mono (c : Int → Int) {p q : Int} (h : p ≤ q) : nb c p.toNat ≤ nb c q.toNat := nb_mono c (by omega)
theorem nbi_lt (c : Int → Int) {p q : Int} (h0 : 0 ≤ p) (h : p < q) (hn : 1000 ≤ c p) : nb c p.toNat + 1 ≤ nb c q.toNat := nb_lt c (by omega) (by rw [Int.toNat_of_nonneg h0]; exact hn)
theorem nb_l (c : Int → Int) {j k : Nat} (h : j < k) (hn : ¬ 1000 ≤ c j) : (j : Int) - nb c j + 1 ≤ k - nb c k := by
  obtain ⟨d, rfl⟩ := Nat.le.dest (show j + 1 ≤ k from h)
  clear h
  induction d with
  | zero =>
    rw [Nat.add_zero, nb_s, if_neg hn]
    omega
  | succ d ih =>
    rw [← Nat.add_assoc, nb_s]
    split <;> omega
theorem nb_lb (c : Int → Int) {p n : Int} (h : p < n) (h0 : 0 ≤ p) (hn : ¬ 1000 ≤ c p) : p - nb c p.toNat + 1 ≤ n - nb c n.toNat := by
  have := nb_l c (j := p.toNat) (k := n.toNat) (by omega) (by rw [Int.toNat_of_nonneg h0]; exact hn)
  omega
theorem ch_find (e : Int → Int) {w x : Int} (h : w + 1 ≤ x) : ∀ k : Nat, x < chI e w k → ∃ j, j < k ∧ chI e w j ≤ x ∧ x < chI e w (j + 1) := by
  intro k
  induction k with
  | zero =>
    intro q
    have q : x < w + 1 := q
    omega
  | succ k ih =>
    intro q
    by_cases g : x < chI e w k
    · obtain ⟨j, a, b⟩ := ih g
      exact ⟨j, by omega, b⟩
    · exact ⟨k, by omega, by omega, q⟩
theorem Tr_ch {h F : Int} {ns I : Int → Int} {n N L : Int} {c e u s r na la : Int → Int} (t : Tr h F ns I n N L c e u s r na la) {w : Int} (h0 : 0 ≤ w) (h1 : w < n) (hn : 1000 ≤ c w) : ∀ k i : Nat, i ≤ k → k ≤ (ns (c w - 1000)).toNat → chI e w i ≤ chI e w k := by
  intro k
  induction k with
  | zero =>
    intro i hi _
    rw [show i = 0 by omega]
    exact Int.le_refl _
  | succ k ih =>
    intro i hi hk
    by_cases g : i = k + 1
    · rw [g]
      exact Int.le_refl _
    · have a := (t.2.2.2.1 w h0 h1 hn).2.2 k (by omega)
      have b := (t.2.1 (chI e w k) (by omega) a.2.1).1
      have d := ih i (by omega) (by omega)
      show chI e w i ≤ e (chI e w k)
      omega
theorem Tr_che {h F : Int} {ns I : Int → Int} {n N L : Int} {c e u s r na la : Int → Int} (t : Tr h F ns I n N L c e u s r na la) {w : Int} {i : Nat} (h0 : 0 ≤ w) (h1 : w < n) (hn : 1000 ≤ c w) (hi : i < (ns (c w - 1000)).toNat) : chI e w i < e (chI e w i) ∧ e (chI e w i) ≤ e w := by
  obtain ⟨a1, a2, a3⟩ := t.2.2.2.1 w h0 h1 hn
  have b := a3 i (by omega)
  have d := t.2.1 (chI e w i) (by omega) b.2.1
  have f := Tr_ch t h0 h1 hn (ns (c w - 1000)).toNat (i + 1) (by omega) (Nat.le_refl _)
  rw [a2] at f
  exact ⟨d.1, f⟩
theorem Tr_par {h F : Int} {ns I : Int → Int} {n N L : Int} {c e u s r na la : Int → Int} (t : Tr h F ns I n N L c e u s r na la) {p : Int} (h0 : 0 < p) (h1 : p < n) : 0 ≤ u p ∧ u p < p ∧ 1000 ≤ c (u p) ∧ p < e (u p) ∧ e p ≤ e (u p) ∧ 0 ≤ s p ∧ s p < ns (c (u p) - 1000) ∧ chI e (u p) (s p).toNat = p := by
  obtain ⟨a1, a2, a3, a4, a5, a6⟩ := t.2.2.1 p h0 h1
  have b := Tr_che t a1 (by omega) a3 (i := (s p).toNat) (by omega)
  rw [a6] at b
  exact ⟨a1, a2, a3, by omega, b.2, a4, a5, a6⟩
theorem Tr_B {h F : Int} {ns I : Int → Int} {n N L : Int} {c e u s r na la : Int → Int} (t : Tr h F ns I n N L c e u s r na la) : ∀ (m : Nat) (p x : Int), p < m → 0 ≤ x → x ≤ p → p < e x → p < n → e p ≤ e x ∧ (x < p → x ≤ u p) := by
  intro m
  induction m with
  | zero =>
    intro p x g1 g2 g3
    omega
  | succ m ih =>
    intro p x g1 g2 g3 g4 g5
    by_cases g : x = p
    · subst g
      exact ⟨Int.le_refl _, fun q => absurd q (by omega)⟩
    · obtain ⟨a1, a2, a3, a4, a5, a6, a7, a8⟩ := Tr_par t (p := p) (by omega) g5
      have k : x ≤ u p := by
        refine Int.not_lt.mp fun hlt => ?_
        have hx : x < chI e (u p) (s p).toNat := by omega
        obtain ⟨j, j1, j2, j3⟩ := ch_find e (w := u p) (x := x) (by omega) _ hx
        have b1 := (t.2.2.2.1 (u p) a1 (by omega) a3).2.2 j (by omega)
        have b2 := Tr_ch t a1 (by omega) a3 (s p).toNat (j + 1) (by omega) (by omega)
        rw [a8] at b2
        have j3 : x < e (chI e (u p) j) := j3
        have b2 : e (chI e (u p) j) ≤ p := b2
        have := (ih x (chI e (u p) j) (by omega) (by omega) j2 j3 (by omega)).1
        omega
      have q := (ih (u p) x (by omega) g2 k (by omega) (by omega)).1
      exact ⟨by omega, fun _ => k⟩
/-- what begins in a piece ends in it, and is in something in it -/
theorem Tr_nest {h F : Int} {ns I : Int → Int} {n N L : Int} {c e u s r na la : Int → Int} (t : Tr h F ns I n N L c e u s r na la) {p x : Int} (h0 : 0 ≤ x) (h1 : x ≤ p) (h2 : p < e x) (h3 : p < n) : e p ≤ e x ∧ (x < p → x ≤ u p) := Tr_B t (p.toNat + 1) p x (by omega) h0 h1 h2 h3
theorem Tr_n {h F : Int} {ns I : Int → Int} {n N L : Int} {c e u s r na la : Int → Int} (t : Tr h F ns I n N L c e u s r na la) {p : Int} (h0 : 0 ≤ p) (h1 : p < n) (hn : 1000 ≤ c p) : r p = nb c p.toNat ∧ na (nb c p.toNat) = p ∧ 0 ≤ nb c p.toNat ∧ nb c p.toNat < N := by
  obtain ⟨b1, b2, _⟩ := t.2.2.2.2.2
  have b := (b2 p h0 h1).1 hn
  have d := nbi_lt c h0 h1 hn
  exact ⟨b.1, b.2, (nb_b c _).1, by omega⟩
theorem Tr_m {h F : Int} {ns I : Int → Int} {n N L : Int} {c e u s r na la : Int → Int} (t : Tr h F ns I n N L c e u s r na la) {m : Int} (h0 : 0 ≤ m) (h1 : m < N) : 0 ≤ na m ∧ na m < n ∧ 1000 ≤ c (na m) ∧ nb c (na m).toNat = m ∧ r (na m) = m := by
  obtain ⟨a1, a2, a3, a4⟩ := t.2.2.2.2.2.2.2.1 m h0 h1
  have b := (Tr_n t a1 a2 a3).1
  exact ⟨a1, a2, a3, a4, by rw [b, a4]⟩
/-- the nodes in the m-th node -/
theorem Tr_in {h F : Int} {ns I : Int → Int} {n N L : Int} {c e u s r na la : Int → Int} (t : Tr h F ns I n N L c e u s r na la) {m k : Int} (h0 : 0 ≤ m) (h1 : m < N) (h2 : m < k) (h3 : k < nb c (e (na m)).toNat) : k < N ∧ 0 ≤ u (na k) ∧ u (na k) < n ∧ m ≤ r (u (na k)) ∧ r (u (na k)) < N := by
  obtain ⟨a1, a2, a3, a4, a5⟩ := Tr_m t h0 h1
  have w := t.2.1 _ a1 a2
  have kN : k < N := by
    have := nbi_mono c (show e (na m) ≤ n from w.2)
    rw [t.2.2.2.2.2.1]
    omega
  obtain ⟨b1, b2, b3, b4, b5⟩ := Tr_m t (m := k) (by omega) kN
  have g1 : na m < na k := by
    refine Int.not_le.mp fun q => ?_
    have := nbi_mono c q
    omega
  have g2 : na k < e (na m) := by
    refine Int.not_le.mp fun q => ?_
    have := nbi_mono c q
    omega
  have g3 := (Tr_nest t a1 (by omega) g2 b2).2 g1
  obtain ⟨d1, d2, d3, _⟩ := Tr_par t (p := na k) (by omega) b2
  obtain ⟨f1, f2, f3, f4⟩ := Tr_n t d1 (by omega) d3
  have g4 := nbi_mono c g3
  exact ⟨kN, d1, by omega, by omega, by omega⟩
/-- the node behind the m-th one -/
theorem Tr_out {h F : Int} {ns I : Int → Int} {n N L : Int} {c e u s r na la : Int → Int} (t : Tr h F ns I n N L c e u s r na la) {m k : Int} (h0 : 0 ≤ m) (h1 : m < N) (h2 : k = nb c (e (na m)).toNat) (h3 : k < N) : 0 ≤ u (na k) ∧ u (na k) < n ∧ 0 ≤ r (u (na k)) ∧ r (u (na k)) < m := by
  obtain ⟨a1, a2, a3, a4, a5⟩ := Tr_m t h0 h1
  have w := t.2.1 _ a1 a2
  have k0 : m < k := by
    have := nbi_lt c a1 w.1 a3
    omega
  obtain ⟨b1, b2, b3, b4, b5⟩ := Tr_m t (m := k) (by omega) h3
  have g2 : e (na m) ≤ na k := by
    refine Int.not_lt.mp fun q => ?_
    have := nbi_lt c b1 q b3
    omega
  obtain ⟨d1, d2, d3, d4, d5, _⟩ := Tr_par t (p := na k) (by omega) b2
  obtain ⟨f1, f2, f3, f4⟩ := Tr_n t d1 (by omega) d3
  refine ⟨d1, by omega, by omega, ?_⟩
  rw [f1]
  refine Int.not_le.mp fun q => ?_
  have g5 : na m ≤ u (na k) := by
    refine Int.not_lt.mp fun q2 => ?_
    have := nbi_lt c d1 q2 d3
    omega
  by_cases g6 : u (na k) < e (na m)
  · have := (Tr_nest t a1 g5 g6 (by omega)).1
    omega
  · have := nbi_mono c (show e (na m) ≤ u (na k) by omega)
    have := nbi_lt c d1 d2 d3
    omega
/-- how many nodes are in it -/
theorem Tr_many {h F : Int} {ns I : Int → Int} {n N L : Int} {c e u s r na la : Int → Int} (t : Tr h F ns I n N L c e u s r na la) {m : Int} (h0 : 0 ≤ m) (h1 : m < N) : m < nb c (e (na m)).toNat ∧ nb c (e (na m)).toNat ≤ N := by
  obtain ⟨a1, a2, a3, a4, a5⟩ := Tr_m t h0 h1
  have w := t.2.1 _ a1 a2
  have d := nbi_lt c a1 w.1 a3
  have f := nbi_mono c (show e (na m) ≤ n from w.2)
  have g := t.2.2.2.2.2.1
  omega
/-- the codes of pieces -/
theorem Tr_cb {h F : Int} {ns I : Int → Int} {n N L : Int} {c e u s r na la : Int → Int} (t : Tr h F ns I n N L c e u s r na la) (hF : F ≤ 14) (hN : 1 ≤ N) {p : Int} (h0 : 0 ≤ p) (h1 : p < n) : 20 ≤ c p ∧ c p ≤ 1013 := by
  by_cases g : 1000 ≤ c p
  · have := (t.2.2.2.1 p h0 h1 g).1
    omega
  · have a := t.2.2.2.2.1 p h0 h1 g
    by_cases g0 : p = 0
    · subst g0
      exfalso
      have b := t.2.2.2.2.2.1
      have d := t.1.2.2.2.2.2.2.1
      have hn : n = 1 := by omega
      rw [hn, show nb c (1 : Int).toNat = nb c 0 + if 1000 ≤ c 0 then 1 else 0 from rfl, if_neg g, show nb c 0 = 0 from rfl] at b
      omega
    · obtain ⟨d1, d2, d3, d4, d5, d6, d7, d8⟩ := Tr_par t (p := p) (by omega) h1
      have f := ((t.2.2.2.1 (u p) d1 (by omega) d3).2.2 (s p).toNat (by omega)).2.2.2.2
      rw [d8] at f
      unfold okc at f
      omega
end
