section
/-! kept: a side as a word -/
theorem TOK_word {G : Nat → Int → Int} {B a : Nat} {i v : Int} (hF : IFm G B) (tk : TOK G B 1 i v a) (rt : okc 1 60 ((G (a + 1)) 0)) : GW1 G B v (sgL (G (a + 1)) 0 (G a 2).toNat) ∧ G a 2 = (((sgL (G (a + 1)) 0 (G a 2).toNat)).length : Int) ∧ (∀ q : Nat, q < ((sgL (G (a + 1)) 0 (G a 2).toNat)).length → (G (a + 1)) q = wf (sgL (G (a + 1)) 0 (G a 2).toNat) q) ∧ BS (G (tvA B v + 5)) (wf (sgL (G (a + 1)) 0 (G a 2).toNat)) G B i v ((sgL (G (a + 1)) 0 (G a 2).toNat)).length := by
  obtain ⟨g1, tl, kv, kT, rl⟩ := tk
  have kT : Tr 1 (G (tvA B v) 1) (G (tvA B v + 5)) (G (tvA B v + 6)) (G a 2) (G a 3) (G a 4) (G (a + 1)) (G (a + 2)) (G (a + 3)) (G (a + 4)) (G (a + 6)) (G (a + 7)) (G (a + 8)) := kT
  have n0 : ∀ f, 0 ≤ f → f < (G (tvA B v) 1) → 0 ≤ (G (tvA B v + 5)) f := fun f f0 f1 => (IFm_ns hF kv f0 f1).1
  have b1 := kT.1.1
  have e0 := kT.1.2.2.2.2.2.2.1
  have u0 := kT.1.2.2.2.2.2.2.2
  have b201 := kT.1.2.1
  have pw := PW_sg kT n0 202 0 60 (Int.le_refl _) (by omega) (by omega) rt
  rw [e0, Int.sub_zero] at pw
  obtain ⟨w, hw⟩ : ∃ w, w = (sgL (G (a + 1)) 0 (G a 2).toNat) := ⟨_, rfl⟩
  have len : (w.length : Int) = G a 2 := by rw [hw, sgL_len]; omega
  have code : ∀ q : Nat, q < w.length → (G (a + 1)) q = wf w q := fun q hq => by
    have h := At_wf w
    rw [hw] at h
    have := At_sg h q (by omega) (by omega)
    rw [show (((0 : Nat) : Int) + (q : Int)) = (q : Int) by omega, show (0 : Int) + (q : Int) = q by omega] at this
    rw [hw, this]
  have nbe : nb (wf w) w.length = G a 3 := by
    rw [nb_cong (c' := wf w) (c := (G (a + 1))) (fun q hq => (code q hq).symm), kT.2.2.2.2.2.1, show w.length = (G a 2).toNat by omega]
  rw [← hw] at pw ⊢
  have g : GW1 G B v w := ⟨⟨_, pw⟩, by rw [nbe]; exact kT.1.2.2.2.1⟩
  refine ⟨g, len.symm, code, tl, by rw [nbe]; exact rl.1, fun q hq t ht => ?_⟩
  have codeI : ∀ p : Int, 0 ≤ p → p < (w.length : Int) → (G (a + 1)) p = wf w p := fun p p0 p1 => Nat_I code p p0 p1
  have tW := trW hF kv g
  obtain ⟨n5, pr, d0, ok, len1, len201, hcd, lfl⟩ := GW_row hF kv g
  obtain ⟨wdT, dT⟩ := Wd_Tr n0 kT
  rw [← len] at wdT
  have wd := Wd_of pr d0 len201
  have E : ∀ p, 0 ≤ p → p < (w.length : Int) → (G (a + 1)) p = wf w p ∧ G (a + 2) p = eE (G (tvA B v + 5)) (wf w) p := fun p p0 p1 => by
    refine ⟨codeI p p0 p1, ?_⟩
    rw [← eE_cg wd code p0 p1]
    obtain ⟨z1, z2⟩ := dT p p0 (by omega)
    have ee := kT.2.1 p p0 (by omega)
    exact (eE_is wdT p0 p1 ee.1 (by omega) (by omega) z2).symm
  have nbq : ∀ p : Nat, p ≤ w.length → nb (wf w) p = nb (G (a + 1)) p := fun p hp => nb_cong fun q hq => (code q (by omega)).symm
  -- the parent, the slot
  have us : ∀ p : Int, 0 < p → p < (w.length : Int) → G (a + 3) p = uU (G (tvA B v + 5)) (wf w) p ∧ G (a + 4) p = sS (G (tvA B v + 5)) (wf w) p ∧ 0 ≤ uU (G (tvA B v + 5)) (wf w) p ∧ uU (G (tvA B v + 5)) (wf w) p < p ∧ 1000 ≤ wf w (uU (G (tvA B v + 5)) (wf w) p) ∧ 0 ≤ sS (G (tvA B v + 5)) (wf w) p ∧ sS (G (tvA B v + 5)) (wf w) p < (G (tvA B v + 5)) (wf w (uU (G (tvA B v + 5)) (wf w) p) - 1000) ∧ chI (G (a + 2)) (uU (G (tvA B v + 5)) (wf w) p) (sS (G (tvA B v + 5)) (wf w) p).toNat = p := fun p p0 p1 => by
    obtain ⟨q1, q2, q3, q4, q5, q6⟩ := tW.2.2.1 p p0 p1
    have l : 1000 ≤ (G (a + 1)) (uU (G (tvA B v + 5)) (wf w) p) := by rw [codeI _ q1 (by omega)]; exact q3
    have ce := ch_cg tW E q1 (by omega) q3 (i := (sS (G (tvA B v + 5)) (wf w) p).toNat) (by omega)
    rw [q6] at ce
    have z := (kT.2.2.2.1 _ q1 (by omega) l).2.2 (sS (G (tvA B v + 5)) (wf w) p).toNat (by rw [codeI _ q1 (by omega)]; omega)
    rw [ce] at z
    exact ⟨z.2.2.1, by rw [z.2.2.2.1]; omega, q1, q2, q3, q4, q5, ce⟩
  have cq := code q hq
  have qI : 0 ≤ (q : Int) ∧ (q : Int) < G a 2 := by omega
  -- its target
  have tt : (q = 0 ∧ t = (-1, 0)) ∨ (0 < q ∧ t = (nb (wf w) (uU (G (tvA B v + 5)) (wf w) q).toNat, sS (G (tvA B v + 5)) (wf w) q)) := by
    by_cases z : q = 0
    · subst z
      exact Or.inl ⟨rfl, (Option.some.inj ht).symm⟩
    · have ht' : (tgS (G (tvA B v + 5)) (wf w) (q : Int).toNat)[0]? = some t := by rw [Int.toNat_natCast]; exact ht
      exact Or.inr ⟨by omega, tg_head wd (show 0 < (q : Int) by omega) (by omega) ht'⟩
  -- what the parent's slot holds
  have sl : 0 < q → G (B + 544 + 21) (5 * (40 * i + nb (wf w) (uU (G (tvA B v + 5)) (wf w) q).toNat) + sS (G (tvA B v + 5)) (wf w) q) = pc (G (a + 1)) (G (a + 6)) q ∧ 0 ≤ nb (wf w) (uU (G (tvA B v + 5)) (wf w) q).toNat := fun z => by
    obtain ⟨y1, y2, y3, y4, y5, y6, y7, y8⟩ := us q (by omega) (by omega)
    have l : 1000 ≤ (G (a + 1)) (uU (G (tvA B v + 5)) (wf w) q) := by rw [codeI _ y3 (by omega)]; exact y5
    have rk := (kT.2.2.2.2.2.2.1 _ y3 (by omega)).1 l
    have lt := nbi_lt (G (a + 1)) (p := uU (G (tvA B v + 5)) (wf w) q) (q := w.length) y3 (by omega) l
    rw [Int.toNat_natCast, ← nbq w.length (Nat.le_refl _), nbe] at lt
    have nn := nb_b (G (a + 1)) (uU (G (tvA B v + 5)) (wf w) q).toNat
    rw [nbq _ (by omega)]
    have := (rl.2.2 _ nn.1 lt).2.2 (sS (G (tvA B v + 5)) (wf w) q).toNat (by rw [rk.2, codeI _ y3 (by omega)]; omega)
    rw [rk.2, y8, Int.toNat_of_nonneg y6] at this
    exact ⟨this, nn.1⟩
  refine ⟨fun l => ?_, fun l => ⟨fun z => ?_, fun z => ?_⟩⟩
  · have lc : 1000 ≤ (G (a + 1)) q := by rw [cq]; exact l
    have rk := (kT.2.2.2.2.2.2.1 q qI.1 qI.2).1 lc
    rw [Int.toNat_natCast] at rk
    have lt := nb_lt (G (a + 1)) (show q < w.length by omega) lc
    rw [← nbq w.length (Nat.le_refl _), nbe] at lt
    have nn := nb_b (G (a + 1)) q
    obtain ⟨r1, r2, _⟩ := rl.2.2 _ nn.1 lt
    rw [rk.2] at r1 r2
    rw [nbq q (by omega)]
    refine ⟨by rw [r1, cq], ?_, fun z => ?_⟩
    · rw [r2]
      rcases tt with ⟨z, zt⟩ | ⟨z, zt⟩
      · subst z
        rw [zt]
        exact if_pos u0
      · obtain ⟨y1, y2, y3, y4, y5, y6, y7, y8⟩ := us q (by omega) (by omega)
        rw [zt, if_neg (by omega), y1]
        have := (kT.2.2.2.2.2.2.1 _ y3 (by omega)).1 (by rw [codeI _ y3 (by omega)]; exact y5)
        rw [this.1, nbq _ (by omega)]
    · rcases tt with ⟨_, zt⟩ | ⟨z, zt⟩
      · rw [zt] at z
        exact absurd z (by decide)
      · rw [zt]
        have := (sl z).1
        unfold pc at this
        rw [if_pos lc, rk.1] at this
        exact this
  · rcases tt with ⟨y, zt⟩ | ⟨y, zt⟩
    · have N0 : G a 3 = 0 := by
        refine Classical.byContradiction fun x => ?_
        have := Tr_root kT (by have := kT.1.2.2.1; omega)
        rw [y] at cq
        have cq : (G (a + 1)) 0 = wf w 0 := cq
        rw [y] at l
        have l : ¬ 1000 ≤ wf w 0 := l
        exact l (by rw [← cq]; exact this)
      have := rl.2.1 N0
      rw [this, ← cq, y]
      rfl
    · have := (sl y).2
      rw [zt] at z
      have z : nb (wf w) (uU (G (tvA B v + 5)) (wf w) q).toNat < 0 := z
      omega
  · rcases tt with ⟨_, zt⟩ | ⟨y, zt⟩
    · rw [zt] at z
      exact absurd z (by decide)
    · rw [zt]
      have := (sl y).1
      unfold pc at this
      rw [if_neg (by rw [cq]; exact l), cq] at this
      exact this
end
