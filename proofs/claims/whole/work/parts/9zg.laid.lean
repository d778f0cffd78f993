section
/-! laid -/
theorem lay_out {T : Nat → Option q_T} {nx B a j1 j2 j3 j4 : Nat} {R : Nat → Nat → Option Value} {G : Nat → Int → Int} {i v W : Int} (hL : Ly T R B (L11x B j1 j2 j3 j4)) (hM : Ly T R (B + 544) (L12 (B + 544))) (iFm : IFm G B) (iLn : ILn G B) (tk : TOK G B 0 i v a) (tN : 1 ≤ G a 3) (pin : PIN G B i a) (i0 : 0 ≤ i) (i1 : i < 100) (o9 : Ly T (rS R (B + 533) 8 (.ref (tvA B v))) a (L9 a)) (hao : a + 10 ≤ B + 533) (W5 : 5 ≤ W) (W60 : W ≤ 60) :
    (((spl (G (tvA B v + 3)) (G (tvA B v + 4)) (G (tvA B v + 7)) (G (a + 1)) (G (a + 2)) (G (a + 6)) 202 0 (-1) 0).length : Int) ≤ 200) ∧ ∃ G1 Gz, (∀ x, ¬ (B + 533 ≤ x ∧ x ≤ B + 539) → G1 x = G x) ∧ G1 (B + 533) 1 = ((spl (G (tvA B v + 3)) (G (tvA B v + 4)) (G (tvA B v + 7)) (G (a + 1)) (G (a + 2)) (G (a + 6)) 202 0 (-1) 0).length : Int) ∧ (∀ x, ¬ (B + 533 ≤ x ∧ x ≤ B + 539) → ¬ (B + 574 ≤ x ∧ x ≤ B + 582) → ¬ x = B + 544 → ¬ x = (B + 544 + 56) → ¬ x = (B + 544 + 52) → ¬ x = (B + 544 + 53) → ¬ x = (B + 544 + 54) → ¬ x = (B + 544 + 55) → Gz x = G x) ∧ (∀ j, ¬ j = 35 → ¬ j = 39 → ¬ j = 66 → ¬ j = 67 → ¬ j = 68 → ¬ j = 69 → Gz (B + 544) j = G (B + 544) j) ∧ Gz (B + 544) 35 = ((spl (G (tvA B v + 3)) (G (tvA B v + 4)) (G (tvA B v + 7)) (G (a + 1)) (G (a + 2)) (G (a + 6)) 202 0 (-1) 0).length : Int) ∧ (∀ K : Option Value → q_M → Prop, fX6_spellOut [.ref (B + 533), .ref (tvA B v), .ref a] (st T nx 0 0 R G) K = K none (st T nx 0 0 (rS R (B + 533) 8 (.ref (tvA B v))) G1)) ∧ ∀ K : Option Value → q_M → Prop, fX12_layBest [.ref (B + 544), .int (zI i), .int (zI W)] (st T nx 0 0 (rS R (B + 533) 8 (.ref (tvA B v))) G1) K = K (some (.int (zI (bestS G B a v W : Int)))) (st T nx 0 0 (rS R (B + 533) 8 (.ref (tvA B v))) Gz) := by
  have kT := tk.2.2.2.1
  have kv := tk.2.2.1
  have hF14 := (iFm _ kv.1 kv.2).2.2.1
  have hM2 := M_rS6 (f := 8) (v := .ref (tvA B v)) hM
  have tvb : B + 370 ≤ tvA B v ∧ tvA B v + 14 ≤ B + 398 := by unfold tvA; omega
  have cb := fun q q1 q2 => Tr_cb kT hF14 tN (p := q) q1 q2
  obtain ⟨_, _, _, _, lw, _, _⟩ := lay_prep (T := T) (nx := nx) (R := R) hM i0 i1 iFm iLn tk tN (fun _ _ => rfl)
  obtain ⟨_, _, ⟨_, n0, n1⟩, _⟩ := lw
  have hp : ∀ m : Nat, m < (G a 3).toNat → G (B + 544 + 22) (40 * i + m) = G (a + 9) m ∧ 0 ≤ G (a + 9) m ∧ G (a + 9) m ≤ 2 := fun m hm => pin m (by omega) (by omega)
  obtain ⟨G1, a1, a2, a3, a4, a5, a6⟩ := c6_spellOut2 (nx := nx) (rc := 0) (rs := 0) hL o9 hao iFm tk cb n1 (fun m m0 m1 => (pin m m0 m1).2)
  obtain ⟨b256, Gz, z1, z2, z3, z4, z5, z6, z7, cB⟩ := c12_layBest (T := T) (nx := nx) (R := (rS R (B + 533) 8 (.ref (tvA B v)))) (Gc := G1) (W := W) hM2 i0 i1 iFm iLn tk tN (fun x q => a1 x (by omega)) W5 W60 hp
  exact ⟨n1, G1, Gz, a1, a2, fun x q q1 q2 q3 q4 q5 q6 q7 => by rw [z1 x q1 q2 q3 q4 q5 q6 q7, a1 x q], fun j q1 q2 q3 q4 q5 q6 => by rw [z2 j q1 q2 q3 q4 q5 q6, a1 _ (by omega)], z3, a6, cB⟩
end
