section
/-! a tree without holes is spelled in cells -/
theorem spl_cd {G : Nat → Int → Int} {B a : Nat} {i v : Int} (hF : IFm G B) (tk : TOK G B 0 i v a) : ∀ (fuel : Nat) (p : Int), 0 ≤ p → p < G a 2 → G (a + 2) p - p ≤ fuel → (1000 ≤ G (a + 1) p ∨ isCd (G (a + 1) p)) → ∀ (ah hw : Int) (ev : Int × Int × Int), ev ∈ spl (G (tvA B v + 3)) (G (tvA B v + 4)) (G (tvA B v + 7)) (G (a + 1)) (G (a + 2)) (G (a + 6)) fuel p ah hw → isCd ev.1 := by
  have kT := tk.2.2.2.1
  intro fuel
  induction fuel with
  | zero =>
    intro p p0 p1 hf
    have := kT.2.1 p p0 p1
    omega
  | succ fuel ih =>
    intro p p0 p1 hf hc ah hw ev hev
    by_cases l : 1000 ≤ G (a + 1) p
    · obtain ⟨f, N, ef, f0, f1, eN, N1, N5, ⟨r0, r1⟩, hf', hN, hC, hgp, hns, hend, hch⟩ := nodeF hF tk p0 p1 l
      rw [spl, if_pos l, ← ef, ← eN] at hev
      have items : ∀ (mm : Nat) (k q A Hh : Int), 0 ≤ k → k + mm = N → q = chI (G (a + 2)) p (nsl (fun k => G (tvA B v + 4) (5 * f + k)) k.toNat).toNat → ∀ ev : Int × Int × Int, ev ∈ spi (spl (G (tvA B v + 3)) (G (tvA B v + 4)) (G (tvA B v + 7)) (G (a + 1)) (G (a + 2)) (G (a + 6)) fuel) (G (tvA B v + 4)) (G (tvA B v + 7)) (G (a + 2)) f (G (a + 6) p) mm k q A Hh → isCd ev.1 := by
        intro mm
        induction mm with
        | zero => intro k q A Hh _ _ _ ev h; exact absurd h List.not_mem_nil
        | succ mm ihm =>
          intro k q A Hh k0 km hq ev h
          have kk : (k.toNat : Int) = k := by omega
          have kt : (k + 1).toNat = k.toNat + 1 := by omega
          by_cases w : 0 ≤ G (tvA B v + 4) (5 * f + k) ∧ G (tvA B v + 4) (5 * f + k) ≤ 11
          · rw [spi, if_pos w] at h
            have esl : nsl (fun k => G (tvA B v + 4) (5 * f + k)) (k + 1).toNat = nsl (fun k => G (tvA B v + 4) (5 * f + k)) k.toNat := by
              rw [kt]
              exact nsl_w _ (by rw [kk]; exact w)
            rcases List.mem_cons.mp h with h | h
            · rw [h]
              exact Or.inl (Or.inl w)
            · exact ihm (k + 1) q _ _ (by omega) (by omega) (by rw [esl]; exact hq) ev h
          · rw [spi, if_neg w] at h
            have esl : nsl (fun k => G (tvA B v + 4) (5 * f + k)) (k + 1).toNat = nsl (fun k => G (tvA B v + 4) (5 * f + k)) k.toNat + 1 := by
              rw [kt]
              exact nsl_n _ (by rw [kk]; exact w)
            have slb := nsl_b (fun k => G (tvA B v + 4) (5 * f + k)) k.toNat
            have slm := nsl_mono (fun k => G (tvA B v + 4) (5 * f + k)) (m := (k + 1).toNat) (n := N.toNat) (by omega)
            obtain ⟨sN, hsN⟩ : ∃ sN, sN = nsl (fun k => G (tvA B v + 4) (5 * f + k)) k.toNat := ⟨_, rfl⟩
            rw [← hsN] at hq esl slb
            obtain ⟨z1, z2, _, _, ok⟩ := (kT.2.2.2.1 p p0 p1 l).2.2 sN.toNat (by rw [← ef]; show _ < G (tvA B v + 5) f; rw [hns]; omega)
            have che := Tr_che kT p0 p1 l (i := sN.toNat) (by rw [← ef]; show sN.toNat < (G (tvA B v + 5) f).toNat; rw [hns]; omega)
            rw [← hq] at z1 z2 ok che
            have qn : G (a + 2) q = chI (G (a + 2)) p (nsl (fun k => G (tvA B v + 4) (5 * f + k)) (k + 1).toNat).toNat := by
              rw [esl, show (sN + 1).toNat = sN.toNat + 1 by omega, hq]
              rfl
            rcases List.mem_append.mp h with h | h
            · refine ih q (by omega) z2 (by omega) ?_ _ _ ev h
              rcases ok with o | o | o | o
              · exact Or.inl o.2
              · exact Or.inr (Or.inl (Or.inr o.2))
              · exact Or.inr (Or.inr o.2)
              · exact absurd o.1 (by omega)
            · exact ihm (k + 1) _ _ _ (by omega) (by omega) qn ev h
      exact items N.toNat 0 (p + 1) ah hw (Int.le_refl _) (by omega) rfl ev hev
    · rw [spl, if_neg l] at hev
      have e : ev = (G (a + 1) p, ah, hw) := List.mem_singleton.mp hev
      rw [e]
      exact hc.elim (fun z => absurd z l) id
end
