section
/-! lay: the gaps of a spelled tree -/
/-- a gap of the list: the one ahead of all, or one of a node -/
def EvG (ah hw N : Int) (ev : Int × Int × Int) : Prop := (ev.2.1 = ah ∧ ev.2.2 = hw) ∨ (0 ≤ ev.2.1 ∧ ev.2.1 < N ∧ 0 ≤ ev.2.2 ∧ ev.2.2 ≤ 2)
theorem spl_ev {G0 : Nat → Int → Int} {B a : Nat} {h i v : Int} (hF : IFm G0 B) (tk : TOK G0 B h i v a) : ∀ (fuel : Nat) (p ah hw : Int), 0 ≤ p → p < G0 a 2 → G0 (a + 2) p - p ≤ fuel → ∀ ev, ev ∈ spl (G0 (tvA B v + 3)) (G0 (tvA B v + 4)) (G0 (tvA B v + 7)) (G0 (a + 1)) (G0 (a + 2)) (G0 (a + 6)) fuel p ah hw → EvG ah hw (G0 a 3) ev := by
  have kT := tk.2.2.2.1
  intro fuel
  induction fuel with
  | zero =>
    intro p ah hw p0 p1 hf
    have := kT.2.1 p p0 p1
    omega
  | succ fuel ih =>
    intro p ah hw p0 p1 hf
    by_cases l : 1000 ≤ G0 (a + 1) p
    · obtain ⟨f, N, ef, f0, f1, eN, N1, N5, ⟨r0, r1⟩, hf', hN, hC, hgp, hns, hend, hch⟩ := nodeF hF tk p0 p1 l
      have kvF := (hF v tk.2.2.1.1 tk.2.2.1.2).2.2.2 f f0 (by
        have := (kT.2.2.2.1 p p0 p1 l).1
        rw [ef]
        exact this)
      obtain ⟨_, _, _, ⟨gaF, _⟩, _⟩ := kvF
      have g2 : ∀ k, 0 ≤ k → k < N → 0 ≤ G0 (tvA B v + 7) (5 * f + k) ∧ G0 (tvA B v + 7) (5 * f + k) ≤ 2 := fun k z1 z2 => (gaF k z1 (by rw [eN] at z2; exact z2)).2
      have rN : G0 (a + 6) p < G0 a 3 := by
        obtain ⟨k1, _, _, k4⟩ := Tr_n kT p0 p1 l
        rw [k1]
        exact k4
      have es : spl (G0 (tvA B v + 3)) (G0 (tvA B v + 4)) (G0 (tvA B v + 7)) (G0 (a + 1)) (G0 (a + 2)) (G0 (a + 6)) (fuel + 1) p ah hw = spi (spl (G0 (tvA B v + 3)) (G0 (tvA B v + 4)) (G0 (tvA B v + 7)) (G0 (a + 1)) (G0 (a + 2)) (G0 (a + 6)) fuel) (G0 (tvA B v + 4)) (G0 (tvA B v + 7)) (G0 (a + 2)) f (G0 (a + 6) p) N.toNat 0 (p + 1) ah hw := by rw [spl, if_pos l, ← ef, ← eN]
      rw [es]
      have inner : ∀ (m k : Nat) (A Hh : Int), k + m = N.toNat → ((A = ah ∧ Hh = hw) ∨ (0 ≤ A ∧ A < G0 a 3 ∧ 0 ≤ Hh ∧ Hh ≤ 2)) → ∀ ev, ev ∈ spi (spl (G0 (tvA B v + 3)) (G0 (tvA B v + 4)) (G0 (tvA B v + 7)) (G0 (a + 1)) (G0 (a + 2)) (G0 (a + 6)) fuel) (G0 (tvA B v + 4)) (G0 (tvA B v + 7)) (G0 (a + 2)) f (G0 (a + 6) p) m k (chI (G0 (a + 2)) p (nsl (fun k => G0 (tvA B v + 4) (5 * f + k)) k).toNat) A Hh → EvG ah hw (G0 a 3) ev := by
        intro m
        induction m with
        | zero =>
          intro k A Hh _ _ ev hev
          rw [spi] at hev
          exact absurd hev List.not_mem_nil
        | succ m ihm =>
          intro k A Hh hk hA ev hev
          have k1 : (k : Int) < N := by omega
          have gb := g2 k (by omega) k1
          have em : ((k : Int) + 1) = ((k + 1 : Nat) : Int) := by omega
          have nxt : (G0 (a + 6) p = ah ∧ G0 (tvA B v + 7) (5 * f + k) = hw) ∨ (0 ≤ G0 (a + 6) p ∧ G0 (a + 6) p < G0 a 3 ∧ 0 ≤ G0 (tvA B v + 7) (5 * f + k) ∧ G0 (tvA B v + 7) (5 * f + k) ≤ 2) := Or.inr ⟨r0, rN, gb.1, gb.2⟩
          rw [spi] at hev
          by_cases w : 0 ≤ G0 (tvA B v + 4) (5 * f + k) ∧ G0 (tvA B v + 4) (5 * f + k) ≤ 11
          · rw [if_pos w] at hev
            have esl : nsl (fun k => G0 (tvA B v + 4) (5 * f + k)) (k + 1) = nsl (fun k => G0 (tvA B v + 4) (5 * f + k)) k := nsl_w _ w
            rcases List.mem_cons.mp hev with z | z
            · rw [z]
              exact hA
            · refine ihm (k + 1) _ _ (by omega) nxt ev ?_
              rw [esl, ← em]
              exact z
          · rw [if_neg w] at hev
            have esl : nsl (fun k => G0 (tvA B v + 4) (5 * f + k)) (k + 1) = nsl (fun k => G0 (tvA B v + 4) (5 * f + k)) k + 1 := nsl_n _ w
            have slb := nsl_b (fun k => G0 (tvA B v + 4) (5 * f + k)) k
            have slm := nsl_mono (fun k => G0 (tvA B v + 4) (5 * f + k)) (m := k + 1) (n := N.toNat) (by omega)
            obtain ⟨sN, hsN⟩ : ∃ sN, sN = nsl (fun k => G0 (tvA B v + 4) (5 * f + k)) k := ⟨_, rfl⟩
            rw [← hsN] at esl slb hev
            obtain ⟨q, hq⟩ : ∃ q, q = chI (G0 (a + 2)) p sN.toNat := ⟨_, rfl⟩
            rw [← hq] at hev
            obtain ⟨⟨z1, z2, z3, z4⟩, _⟩ := hch sN.toNat (by rw [hns]; omega)
            rw [← hq] at z1 z2 z3 z4
            have che := Tr_che kT p0 p1 l (i := sN.toNat) (by rw [← ef]; show sN.toNat < (G0 (tvA B v + 5) f).toNat; rw [hns]; omega)
            rw [← hq] at che
            have qn : G0 (a + 2) q = chI (G0 (a + 2)) p (nsl (fun k => G0 (tvA B v + 4) (5 * f + k)) (k + 1)).toNat := by
              rw [esl, show (sN + 1).toNat = sN.toNat + 1 by omega, hq]
              rfl
            rcases List.mem_append.mp hev with z | z
            · rcases ih q A Hh (by omega) z2 (by omega) ev z with y | y
              · unfold EvG
                rw [y.1, y.2]
                exact hA
              · exact Or.inr y
            · refine ihm (k + 1) _ _ (by omega) nxt ev ?_
              rw [← qn, ← em]
              exact z
      exact inner N.toNat 0 ah hw (by omega) (Or.inl ⟨rfl, rfl⟩)
    · intro ev hev
      rw [spl, if_neg l] at hev
      rw [List.mem_singleton.mp hev]
      exact Or.inl ⟨rfl, rfl⟩
end
