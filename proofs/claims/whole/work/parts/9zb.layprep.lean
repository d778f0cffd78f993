section
/-! lay: the reference walks and finds the soft nodes -/
theorem lay_prep {T : Nat → Option q_T} {nx B a : Nat} {R : Nat → Nat → Option Value} {G Gc : Nat → Int → Int} {i v : Int} (hM : Ly T R (B + 544) (L12 (B + 544))) (i0 : 0 ≤ i) (i1 : i < 100) (hF : IFm G B) (iLn : ILn G B) (tk : TOK G B 0 i v a) (tN : 1 ≤ G a 3) (fw : ∀ x, B + 544 ≤ x → Gc x = G x) :
    ∃ G1 G2, (∀ x, ¬ (B + 574 ≤ x ∧ x ≤ B + 582) → ¬ x = B + 544 → ¬ x = (B + 544 + 56) → G2 x = Gc x) ∧ (∀ j, ¬ j = 35 → ¬ j = 39 → ¬ j = 69 → G2 (B + 544) j = Gc (B + 544) j) ∧ LWH G2 B i v (spl (G (tvA B v + 3)) (G (tvA B v + 4)) (G (tvA B v + 7)) (G (a + 1)) (G (a + 2)) (G (a + 6)) 202 0 (-1) 0).length (G a 3).toNat ((fun n => softF (G (tvA B v + 7)) (G (a + 1) (G (a + 7) n) - 1000) (G (tvA B v + 3) (G (a + 1) (G (a + 7) n) - 1000) - 1).toNat)) ((fun n => G (a + 6) (G (a + 3) (G (a + 7) n)))) ((fun k => ((spl (G (tvA B v + 3)) (G (tvA B v + 4)) (G (tvA B v + 7)) (G (a + 1)) (G (a + 2)) (G (a + 6)) 202 0 (-1) 0).getD k.toNat (0, 0, 0)).2.1)) ((fun k => ((spl (G (tvA B v + 3)) (G (tvA B v + 4)) (G (tvA B v + 7)) (G (a + 1)) (G (a + 2)) (G (a + 6)) 202 0 (-1) 0).getD k.toNat (0, 0, 0)).2.2)) ((fun k => ((spl (G (tvA B v + 3)) (G (tvA B v + 4)) (G (tvA B v + 7)) (G (a + 1)) (G (a + 2)) (G (a + 6)) 202 0 (-1) 0).getD k.toNat (0, 0, 0)).1)) (G (tvA B v + 1)) ∧ (∀ K : Option Value → q_M → Prop, fX12_walk [.ref (B + 544), .int (zI i)] (st T nx 0 0 R Gc) K = K none (st T nx 0 0 R G1)) ∧ ∀ K : Option Value → q_M → Prop, fX12_findSoft [.ref (B + 544), .int (zI i)] (st T nx 0 0 R G1) K = K none (st T nx 0 0 R G2) := by
  have kT := tk.2.2.2.1
  have kR := tk.2.2.2.2
  have kv := tk.2.2.1
  have N0 := kT.1.2.2.1
  have N40 := kT.1.2.2.2.1
  have tb := TOK_b tk
  obtain ⟨G1, b1, b2, b3, b4, b5, b6⟩ := c12_walkG (T := T) (nx := nx) (rc := 0) (rs := 0) (R := R) (Gc := Gc) hM i0 i1 hF tk (fun x q _ _ => fw x q)
  have g1 : ∀ x, B + 544 ≤ x → ¬ (B + 574 ≤ x ∧ x ≤ B + 582) → ¬ x = B + 544 → G1 x = G x := fun x q0 q1 q2 => by rw [b1.1 x q1 q2, fw x q0]
  obtain ⟨N, hN⟩ : ∃ N : Nat, N = (G a 3).toNat := ⟨_, rfl⟩
  have eN : (N : Int) = G a 3 := by omega
  have node := fun (m : Nat) (hm : m < N) => Tr_m kT (m := (m : Int)) (by omega) (by omega)
  obtain ⟨G2, p1, p2, p3, p4, p5⟩ := c12_findSoft (T := T) (nx := nx) (R := R) (G := G1) (i := i) (v := v) (N := N) (sb := (fun n => softF (G (tvA B v + 7)) (G (a + 1) (G (a + 7) n) - 1000) (G (tvA B v + 3) (G (a + 1) (G (a + 7) n) - 1000) - 1).toNat)) (fm := fun n => G (a + 1) (G (a + 7) n) - 1000) hM i0 i1 (by rw [g1 _ (by omega) (by omega) (by omega), eN]; exact kR.1) (by omega) (by rw [g1 _ (by omega) (by omega) (by omega)]; exact tk.2.1) kv.1 kv.2 (fun n hn => by
    obtain ⟨w1, w2, w3, w4, w5⟩ := node n hn
    obtain ⟨f, M, ef, f0, f1, eM, M1, M5, ⟨r0, r1⟩, hf', hM', hC, hgp, hns, hend, hch⟩ := nodeF hF tk w1 w2 w3
    have kvF := (hF v kv.1 kv.2).2.2.2 f f0 (by
      have := (kT.2.2.2.1 _ w1 w2 w3).1
      rw [ef]
      exact this)
    obtain ⟨_, _, _, ⟨gaF, _⟩, _⟩ := kvF
    rw [w5] at hf'
    rw [g1 (B + 544 + 19) (by omega) (by omega) (by omega), g1 (B + 544 + 4) (by omega) (by omega) (by omega), g1 (B + 544 + 6) (by omega) (by omega) (by omega)]
    show _ = G (a + 1) (G (a + 7) n) - 1000 ∧ _
    rw [← ef, hM']
    refine ⟨hf', ⟨f0, f1⟩, ⟨M1, M5⟩, fun k k0 k1 => ?_, ?_⟩
    · rw [hgp k k0 k1]
      exact (gaF k k0 (by rw [eM] at k1; exact k1)).2
    · rw [← eM]
      exact (softF_congr fun k hk => hgp k (by omega) (by omega)).symm)
  have g2 : ∀ x, B + 544 ≤ x → ¬ (B + 574 ≤ x ∧ x ≤ B + 582) → ¬ x = B + 544 → ¬ x = (B + 544 + 56) → G2 x = G x := fun x q0 q1 q2 q3 => by rw [p1 x q2 q3, g1 x q0 q1 q2]
  have get : ∀ k : Int, 0 ≤ k → k < ((spl (G (tvA B v + 3)) (G (tvA B v + 4)) (G (tvA B v + 7)) (G (a + 1)) (G (a + 2)) (G (a + 6)) 202 0 (-1) 0).length : Int) → ∃ ev, ev ∈ (spl (G (tvA B v + 3)) (G (tvA B v + 4)) (G (tvA B v + 7)) (G (a + 1)) (G (a + 2)) (G (a + 6)) 202 0 (-1) 0) ∧ (spl (G (tvA B v + 3)) (G (tvA B v + 4)) (G (tvA B v + 7)) (G (a + 1)) (G (a + 2)) (G (a + 6)) 202 0 (-1) 0).getD k.toNat (0, 0, 0) = ev ∧ G2 (B + 544 + 30) k = ev.1 ∧ G2 (B + 544 + 31) k = ev.2.1 ∧ G2 (B + 544 + 32) k = ev.2.2 := fun k k0 k1 => by
    have lt : k.toNat < (spl (G (tvA B v + 3)) (G (tvA B v + 4)) (G (tvA B v + 7)) (G (a + 1)) (G (a + 2)) (G (a + 6)) 202 0 (-1) 0).length := by omega
    have e := List.getElem?_eq_getElem lt
    obtain ⟨c1, c2, c3⟩ := b2 k.toNat _ e
    rw [Int.toNat_of_nonneg k0, Int.zero_add] at c1 c2 c3
    refine ⟨_, List.getElem_mem lt, ?_, ?_, ?_, ?_⟩
    · rw [List.getD_eq_getElem?_getD, e]
      rfl
    · rw [p1 _ (by omega) (by omega)]; exact c1
    · rw [p1 _ (by omega) (by omega)]; exact c2
    · rw [p1 _ (by omega) (by omega)]; exact c3
  refine ⟨G1, G2, fun x q1 q2 q3 => by rw [p1 x q2 q3, b1.1 x q1 q2], fun j q1 q2 q3 => by rw [p2 j q3, b1.2.1 j q1 q2], ?_, b6, p5⟩
  rw [← hN]
  refine ⟨⟨by rw [g2 _ (by omega) (by omega) (by omega) (by omega), eN]; exact kR.1, by omega⟩, ⟨by rw [g2 _ (by omega) (by omega) (by omega) (by omega)]; exact tk.2.1, kv⟩, ⟨by rw [p2 _ (by omega)]; exact b3, by omega, b4⟩, p3, p4, fun m m0 m1 => ?_, fun m m0 m1 => ?_, fun w w0 w1 => ?_, fun k k0 k1 => ?_, fun k k0 k1 => ?_⟩
  · rw [g2 _ (by omega) (by omega) (by omega) (by omega)]
    have e := (kR.2.2 m (by omega) (by omega)).2.1
    obtain ⟨w1, w2, w3, w4, w5⟩ := Tr_m kT (m := m) (by omega) (by omega)
    have z : ¬ G (a + 7) m = 0 := fun z => by
      rw [z] at w4
      have : nb (G (a + 1)) (0 : Int).toNat = 0 := rfl
      omega
    obtain ⟨u1, _⟩ := kT.2.2.1 _ (by omega) w2
    rw [if_neg (by omega)] at e
    exact e
  · obtain ⟨w1, w2, w3, w4, w5⟩ := Tr_m kT (m := m) (by omega) (by omega)
    have z : ¬ G (a + 7) m = 0 := fun z => by
      rw [z] at w4
      have : nb (G (a + 1)) (0 : Int).toNat = 0 := rfl
      omega
    obtain ⟨u1, u2, u3, _⟩ := kT.2.2.1 _ (by omega) w2
    have n1 := (Tr_n kT u1 (by omega) u3).1
    have n2 := nbi_lt (G (a + 1)) u1 u2 u3
    have n3 := (nb_b (G (a + 1)) (G (a + 3) (G (a + 7) m)).toNat).1
    show 0 ≤ G (a + 6) (G (a + 3) (G (a + 7) m)) ∧ G (a + 6) (G (a + 3) (G (a + 7) m)) < m
    rw [n1]
    omega
  · obtain ⟨l1, l2, l3⟩ := iLn v w kv.1 kv.2 w0 w1
    exact ⟨⟨l2, l3⟩, by rw [g2 _ (by omega) (by omega) (by omega) (by omega)]; exact l1⟩
  · obtain ⟨ev, m, e, _⟩ := get k (by omega) k1
    have x := spl_ev hF tk 202 0 (-1) 0 (Int.le_refl _) (by omega) (by
      have := (kT.2.1 0 (Int.le_refl _) (by omega)).2
      omega) ev m
    show (0 ≤ ((spl (G (tvA B v + 3)) (G (tvA B v + 4)) (G (tvA B v + 7)) (G (a + 1)) (G (a + 2)) (G (a + 6)) 202 0 (-1) 0).getD k.toNat (0, 0, 0)).2.1 ∧ ((spl (G (tvA B v + 3)) (G (tvA B v + 4)) (G (tvA B v + 7)) (G (a + 1)) (G (a + 2)) (G (a + 6)) 202 0 (-1) 0).getD k.toNat (0, 0, 0)).2.1 < (N : Int) ∧ 0 ≤ ((spl (G (tvA B v + 3)) (G (tvA B v + 4)) (G (tvA B v + 7)) (G (a + 1)) (G (a + 2)) (G (a + 6)) 202 0 (-1) 0).getD k.toNat (0, 0, 0)).2.2 ∧ ((spl (G (tvA B v + 3)) (G (tvA B v + 4)) (G (tvA B v + 7)) (G (a + 1)) (G (a + 2)) (G (a + 6)) 202 0 (-1) 0).getD k.toNat (0, 0, 0)).2.2 ≤ 2) ∨ ((spl (G (tvA B v + 3)) (G (tvA B v + 4)) (G (tvA B v + 7)) (G (a + 1)) (G (a + 2)) (G (a + 6)) 202 0 (-1) 0).getD k.toNat (0, 0, 0)).2.2 = 0
    rw [e]
    rcases x with y | y
    · exact Or.inr y.2
    · left
      rw [eN]
      exact y
  · obtain ⟨ev, m, e, c1, c2, c3⟩ := get k k0 k1
    have x := spl_cd hF tk 202 0 (Int.le_refl _) (by omega) (by
      have := (kT.2.1 0 (Int.le_refl _) (by omega)).2
      omega) (Or.inl (Tr_root kT tN)) (-1) 0 ev m
    show G2 (B + 544 + 30) k = ((spl (G (tvA B v + 3)) (G (tvA B v + 4)) (G (tvA B v + 7)) (G (a + 1)) (G (a + 2)) (G (a + 6)) 202 0 (-1) 0).getD k.toNat (0, 0, 0)).1 ∧ (0 ≤ ((spl (G (tvA B v + 3)) (G (tvA B v + 4)) (G (tvA B v + 7)) (G (a + 1)) (G (a + 2)) (G (a + 6)) 202 0 (-1) 0).getD k.toNat (0, 0, 0)).1 ∧ ((spl (G (tvA B v + 3)) (G (tvA B v + 4)) (G (tvA B v + 7)) (G (a + 1)) (G (a + 2)) (G (a + 6)) 202 0 (-1) 0).getD k.toNat (0, 0, 0)).1 ≤ 1013) ∧ G2 (B + 544 + 31) k = ((spl (G (tvA B v + 3)) (G (tvA B v + 4)) (G (tvA B v + 7)) (G (a + 1)) (G (a + 2)) (G (a + 6)) 202 0 (-1) 0).getD k.toNat (0, 0, 0)).2.1 ∧ G2 (B + 544 + 32) k = ((spl (G (tvA B v + 3)) (G (tvA B v + 4)) (G (tvA B v + 7)) (G (a + 1)) (G (a + 2)) (G (a + 6)) 202 0 (-1) 0).getD k.toNat (0, 0, 0)).2.2
    rw [e]
    refine ⟨c1, ?_, c2, c3⟩
    unfold isCd at x
    omega
end
