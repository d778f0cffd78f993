section
/-! kept: the holes in the list that the reference walks -/
theorem spl_ho {G : Nat → Int → Int} {B a : Nat} {h i v : Int} (hF : IFm G B) (tk : TOK G B h i v a) : ∀ (fuel : Nat) (p : Int), 0 ≤ p → p < G a 2 → G (a + 2) p - p ≤ fuel → (1000 ≤ G (a + 1) p ∨ isLf (G (a + 1) p)) → ∀ (ah hw : Int), (∀ ev : Int × Int × Int, ev ∈ spl (G (tvA B v + 3)) (G (tvA B v + 4)) (G (tvA B v + 7)) (G (a + 1)) (G (a + 2)) (G (a + 6)) fuel p ah hw → 0 ≤ ev.1 ∧ ev.1 ≤ 215 ∧ (200 ≤ ev.1 → ∃ q, p ≤ q ∧ q < G (a + 2) p ∧ G (a + 1) q = ev.1)) ∧ ∀ q, p ≤ q → q < G (a + 2) p → isHo (G (a + 1) q) → ∃ ev : Int × Int × Int, ev ∈ spl (G (tvA B v + 3)) (G (tvA B v + 4)) (G (tvA B v + 7)) (G (a + 1)) (G (a + 2)) (G (a + 6)) fuel p ah hw ∧ ev.1 = G (a + 1) q := by
  have kT := tk.2.2.2.1
  intro fuel
  induction fuel with
  | zero =>
    intro p p0 p1 hf
    have := kT.2.1 p p0 p1
    omega
  | succ fuel ih =>
    intro p p0 p1 hf hc ah hw
    by_cases l : 1000 ≤ G (a + 1) p
    · obtain ⟨f, N, ef, f0, f1, eN, N1, N5, ⟨r0, r1⟩, hf', hN, hC, hgp, hns, hend, hch⟩ := nodeF hF tk p0 p1 l
      rw [spl, if_pos l, ← ef, ← eN]
      have cE := (kT.2.2.2.1 p p0 p1 l).2.1
      rw [← ef] at cE
      have items : ∀ (mm : Nat) (k q A Hh : Int), 0 ≤ k → k + mm = N → q = chI (G (a + 2)) p (nsl (fun k => G (tvA B v + 4) (5 * f + k)) k.toNat).toNat → p + 1 ≤ q → (∀ ev : Int × Int × Int, ev ∈ spi (spl (G (tvA B v + 3)) (G (tvA B v + 4)) (G (tvA B v + 7)) (G (a + 1)) (G (a + 2)) (G (a + 6)) fuel) (G (tvA B v + 4)) (G (tvA B v + 7)) (G (a + 2)) f (G (a + 6) p) mm k q A Hh → 0 ≤ ev.1 ∧ ev.1 ≤ 215 ∧ (200 ≤ ev.1 → ∃ q', p ≤ q' ∧ q' < G (a + 2) p ∧ G (a + 1) q' = ev.1)) ∧ ∀ q', q ≤ q' → q' < G (a + 2) p → isHo (G (a + 1) q') → ∃ ev : Int × Int × Int, ev ∈ spi (spl (G (tvA B v + 3)) (G (tvA B v + 4)) (G (tvA B v + 7)) (G (a + 1)) (G (a + 2)) (G (a + 6)) fuel) (G (tvA B v + 4)) (G (tvA B v + 7)) (G (a + 2)) f (G (a + 6) p) mm k q A Hh ∧ ev.1 = G (a + 1) q' := by
        intro mm
        induction mm with
        | zero =>
          intro k q A Hh k0 km hq qp
          refine ⟨fun ev h => absurd h List.not_mem_nil, fun q' z1 z2 _ => ?_⟩
          rw [show k = N by omega] at hq
          have cE' : chI (G (a + 2)) p (G (tvA B v + 5) f).toNat = G (a + 2) p := cE
          rw [hns] at cE'
          omega
        | succ mm ihm =>
          intro k q A Hh k0 km hq qp
          have kk : (k.toNat : Int) = k := by omega
          have kt : (k + 1).toNat = k.toNat + 1 := by omega
          by_cases w : 0 ≤ G (tvA B v + 4) (5 * f + k) ∧ G (tvA B v + 4) (5 * f + k) ≤ 11
          · rw [spi, if_pos w]
            have esl : nsl (fun k => G (tvA B v + 4) (5 * f + k)) (k + 1).toNat = nsl (fun k => G (tvA B v + 4) (5 * f + k)) k.toNat := by
              rw [kt]
              exact nsl_w _ (by rw [kk]; exact w)
            obtain ⟨i1, i2⟩ := ihm (k + 1) q (G (a + 6) p) (G (tvA B v + 7) (5 * f + k)) (by omega) (by omega) (by rw [esl]; exact hq) qp
            refine ⟨fun ev h => ?_, fun q' z1 z2 z3 => ?_⟩
            · rcases List.mem_cons.mp h with h | h
              · rw [h]
                exact ⟨w.1, by show G (tvA B v + 4) (5 * f + k) ≤ 215; omega, fun z => by
                  have z : 200 ≤ G (tvA B v + 4) (5 * f + k) := z
                  omega⟩
              · exact i1 ev h
            · obtain ⟨ev, e1, e2⟩ := i2 q' z1 z2 z3
              exact ⟨ev, List.mem_cons_of_mem _ e1, e2⟩
          · rw [spi, if_neg w]
            have esl : nsl (fun k => G (tvA B v + 4) (5 * f + k)) (k + 1).toNat = nsl (fun k => G (tvA B v + 4) (5 * f + k)) k.toNat + 1 := by
              rw [kt]
              exact nsl_n _ (by rw [kk]; exact w)
            have slb := nsl_b (fun k => G (tvA B v + 4) (5 * f + k)) k.toNat
            have slm := nsl_mono (fun k => G (tvA B v + 4) (5 * f + k)) (m := (k + 1).toNat) (n := N.toNat) (by omega)
            obtain ⟨sN, hsN⟩ : ∃ sN, sN = nsl (fun k => G (tvA B v + 4) (5 * f + k)) k.toNat := ⟨_, rfl⟩
            rw [← hsN] at hq esl slb
            obtain ⟨z1, z2, _, _, ok⟩ := (kT.2.2.2.1 p p0 p1 l).2.2 sN.toNat (by rw [← ef]; show _ < G (tvA B v + 5) f; rw [hns]; omega)
            have che := Tr_che kT p0 p1 l (i := sN.toNat) (by rw [← ef]; show sN.toNat < (G (tvA B v + 5) f).toNat; rw [hns]; omega)
            rw [← hq] at z1 z2 ok che
            have qn : G (a + 2) q = chI (G (a + 2)) p (nsl (fun k => G (tvA B v + 4) (5 * f + k)) (k + 1).toNat).toNat := by
              rw [esl, show (sN + 1).toNat = sN.toNat + 1 by omega, hq]
              rfl
            have eq := kT.2.1 q (by omega) z2
            obtain ⟨i1, i2⟩ := ihm (k + 1) (G (a + 2) q) (G (a + 6) p) (G (tvA B v + 7) (5 * f + k)) (by omega) (by omega) qn (by omega)
            obtain ⟨j1, j2⟩ := ih q (by omega) z2 (by omega) (by unfold isLf; unfold okc at ok; omega) A Hh
            refine ⟨fun ev h => ?_, fun q' y1 y2 y3 => ?_⟩
            · rcases List.mem_append.mp h with h | h
              · obtain ⟨b1, b2, b3⟩ := j1 ev h
                exact ⟨b1, b2, fun z => by
                  obtain ⟨q', x1, x2, x3⟩ := b3 z
                  exact ⟨q', by omega, by omega, x3⟩⟩
              · exact i1 ev h
            · by_cases g : q' < G (a + 2) q
              · obtain ⟨ev, e1, e2⟩ := j2 q' y1 g y3
                exact ⟨ev, List.mem_append.mpr (Or.inl e1), e2⟩
              · obtain ⟨ev, e1, e2⟩ := i2 q' (by omega) y2 y3
                exact ⟨ev, List.mem_append.mpr (Or.inr e1), e2⟩
      obtain ⟨i1, i2⟩ := items N.toNat 0 (p + 1) ah hw (Int.le_refl _) (by omega) rfl (Int.le_refl _)
      refine ⟨i1, fun q y1 y2 y3 => ?_⟩
      by_cases e : q = p
      · unfold isHo at y3
        rw [e] at y3
        omega
      · exact i2 q (by omega) y2 y3
    · rw [spl, if_neg l]
      have lf := hc.resolve_left l
      have ep := (kT.2.2.2.2.1 p p0 p1 l).2
      refine ⟨fun ev hev => ?_, fun q y1 y2 y3 => ?_⟩
      · have e : ev = (G (a + 1) p, ah, hw) := List.mem_singleton.mp hev
        rw [e]
        unfold isLf at lf
        refine ⟨?_, ?_, fun _ => ⟨p, Int.le_refl _, by omega, rfl⟩⟩
        · show 0 ≤ G (a + 1) p
          omega
        · show G (a + 1) p ≤ 215
          omega
      · rw [ep] at y2
        rw [show q = p by omega]
        exact ⟨_, List.mem_singleton.mpr rfl, rfl⟩
end
