section
/-! the reference carries: all of it -/
theorem cv_ref {T : Nat → Option q_T} {nx B b : Nat} {R : Nat → Nat → Option Value} {G0 : Nat → Int → Int} {ib to : Int} (hM : Ly T R (B + 544) (L12 (B + 544))) (it0 : 0 ≤ ib) (it1 : ib < 92) (hF : IFm G0 B) (tk : TOK G0 B 0 ib 0 b) {c : Int → Int} {F1 : Int} (cb : ∀ q, 0 ≤ q → q < G0 b 2 → 20 ≤ G0 (b + 1) q ∧ G0 (b + 1) q ≤ 1013) (m : MPD F1 (G0 (tvA B 0 + 5)) (G0 (tvA B 1 + 5)) (G0 (tvA B 0 + 6)) (G0 (tvA B 1 + 6)) (G0 (B + 544 + 93)) (G0 (B + 544 + 94)) (G0 (b + 1)) (G0 b 2)) (hF1 : F1 = G0 (tvA B 1) 1) (n5 : ∀ q : Nat, 1000 ≤ c q → ns0 (c q) (G0 (tvA B 1 + 5))) : ∀ (k : Nat) (x it : Int) (w : List Int) (P : Nat) (G : Nat → Int → Int) (W : Int), 0 ≤ x → x < G0 b 2 → okc 0 it (G0 (b + 1) x) → CW (G0 (tvA B 1 + 5)) (G0 (B + 544 + 93)) (G0 (B + 544 + 94)) (G0 (b + 1)) (G0 (b + 2)) k x w → At c P w → 0 ≤ W → W + 1 ≤ dd (G0 (tvA B 1 + 5)) c P → Pre (G0 (tvA B 1 + 5)) c P → nb c (P + w.length) ≤ 40 → BCh G0 G B 92 → G (B + 544) 23 = W + 1 → BS (G0 (tvA B 1 + 5)) c G B 92 1 P → (∀ t, (tgS (G0 (tvA B 1 + 5)) c P)[0]? = some t → ST5 G B W ib (pc (G0 (b + 1)) (G0 (b + 6)) x) t.1 t.2 0) →
    ∃ G', BCh G G' B 92 ∧ SL5 G G' B W ∧ G' (B + 544) 23 = W ∧ G' (B + 544) 22 = G (B + 544) 22 ∧ BS (G0 (tvA B 1 + 5)) c G' B 92 1 (P + w.length) ∧ CSt T nx R B ib to G G' := by
  have tkb := TOK_b tk
  have kT := tk.2.2.2.1
  have hn0 : ∀ f, 0 ≤ f → f < F1 → 0 ≤ G0 (tvA B 1 + 5) f := fun f f0 f1 => (IFm_ns hF (show (0 : Int) ≤ 1 ∧ (1 : Int) ≤ 1 by omega) f0 (by rw [← hF1]; exact f1)).1
  have f14 : F1 ≤ 14 := by rw [hF1]; exact (hF 1 (by omega) (by omega)).2.2.1
  intro k
  induction k with
  | zero => intro x it w P G W _ _ _ f; exact f.elim
  | succ k ih =>
    intro x it w P G W x0 x1 ok f hA' W0 Wd pr n40 fr h23 bs hst
    have ex := kT.2.1 x x0 x1
    have n5' : ∀ q : Nat, q < P → 1000 ≤ c q → G0 (tvA B 1 + 5) (c q - 1000) ≤ 5 := fun q _ h => (n5 q h).2.2
    have room := dd_room n5'
    have mono := nb_mono c (show P ≤ P + w.length by omega)
    obtain ⟨⟨tn, ts⟩, ht, hts⟩ := tg_some pr (by omega)
    have s5 : ST5 G B W ib (pc (G0 (b + 1)) (G0 (b + 6)) x) tn ts 0 := hst _ ht
    have cbx := cb x x0 x1
    have tb : -1 ≤ tn ∧ tn < 40 ∧ 0 ≤ ts ∧ ts < 5 := by
      rcases tg_b pr n5' ht with ⟨_, q⟩ | ⟨_, z1, z2, z3, z4⟩
      · injection q with z1 z2
        omega
      · have z1 : 0 ≤ tn := z1
        have z2 : tn < nb c P := z2
        have z3 : 0 ≤ ts := z3
        have z4 : ts < 5 := z4
        omega
    obtain ⟨G1, e1⟩ : ∃ M, M = gs G (B + 544) 23 W := ⟨_, rfl⟩
    have pc1 := pop_ch G B 92 W W
    rw [← e1] at pc1
    have fr1 := BCh_tr fr pc1.1
    have w1 : G1 (B + 544) 23 = W := by rw [e1]; exact gs_same _ _ _ _
    have w2 : G1 (B + 544) 22 = G (B + 544) 22 := by rw [e1, gs_eq, fu_ne (by omega)]
    have o1 : ∀ x, ¬ x = B + 544 → G1 x = G x := fun x q => by rw [e1, gs_ne q]
    have bs1 : BS (G0 (tvA B 1 + 5)) c G1 B 92 1 P := BS_congr (fun x a b => o1 x (by omega)) bs
    rcases f with ⟨l, hw⟩ | ⟨l, u, hw, hu⟩
    · subst hw
      have epc : pc (G0 (b + 1)) (G0 (b + 6)) x = G0 (b + 1) x := if_neg l
      rw [epc] at s5
      obtain ⟨G2, a1, a2, a3, a4⟩ := c12_putLeafB (T := T) (nx := nx) (rc := 0) (rs := 0) (R := R) (t := (tn, ts)) (x := G0 (b + 1) x) (i := 92) hM (by omega) (by omega) pr (by omega) n5' ht bs1 (by omega) (by rw [hA'.1]; exact l) (by rw [hA'.1]; omega) hA'.1.symm
      have b2 := BCh_of a1
      exact ⟨G2, BCh_tr pc1.1 b2, SL5_tr pc1.2 (BFr_lo a1) (Int.le_refl _), by rw [a2]; exact w1, by rw [a2]; exact w2, a3, cv_leaf hM (by omega) (by omega) W0 (by omega) h23 s5 (by omega) (by rw [← e1]; exact a4)⟩
    · obtain ⟨m1, m2, m3⟩ := m x x0 x1 l
      obtain ⟨F0, cE, cH⟩ := kT.2.2.2.1 x x0 x1 l
      subst hw
      obtain ⟨cP, hA'⟩ := hA'
      have rp := Tr_n kT x0 x1 l
      have epc : pc (G0 (b + 1)) (G0 (b + 6)) x = 1000 + G0 (b + 6) x := if_pos l
      rw [epc] at s5
      obtain ⟨f1, N1, ef, f0, f14', eN, N1', N5, rp2, hf1, _⟩ := nodeF hF tk x0 x1 l
      obtain ⟨f, hf⟩ : ∃ f, f = G0 (b + 1) x - 1000 := ⟨_, rfl⟩
      rw [← hf] at m1 m2 m3 cP hA' hu ef
      obtain ⟨h, hh⟩ : ∃ h, h = G0 (B + 544 + 93) f := ⟨_, rfl⟩
      rw [← hh] at m1 m2 m3 cP hA' hu
      have nh := IFm_ns hF (show (0 : Int) ≤ 1 ∧ (1 : Int) ≤ 1 by omega) m1 (by rw [← hF1]; exact m2)
      obtain ⟨N, hN⟩ : ∃ N, N = G0 (tvA B 1 + 5) h := ⟨_, rfl⟩
      have e1h : (1000 + h) - 1000 = h := by omega
      have okh : okc 0 it (1000 + h) := by
        unfold okc at ok ⊢
        omega
      have lP : 1000 ≤ c P := by omega
      have nbs := nb_s c P
      rw [if_pos lP] at nbs
      have ddP := dd_s (G0 (tvA B 1 + 5)) c P
      rw [if_pos lP, cP, e1h, ← hN] at ddP
      rw [← hN] at nh m3
      rw [List.length_cons, ← hf, ← hh, show P + ((cat u (G0 (tvA B 1 + 5) h).toNat).length + 1) = P + 1 + (cat u (G0 (tvA B 1 + 5) h).toNat).length by omega] at n40 ⊢
      have mono2 := nb_mono c (show P + 1 ≤ P + 1 + (cat u (G0 (tvA B 1 + 5) h).toNat).length by omega)
      obtain ⟨G2, a1, a2, a3, a4⟩ := c12_newNodeB (T := T) (nx := nx) (rc := 0) (rs := 0) (R := R) (t := (tn, ts)) (x := h) (i := 92) hM (by omega) (by omega) pr (by omega) n5' ht bs1 (by omega) (by omega) (n5 P lP).1 (by omega) (by omega)
      have b2 := BCh_of a1
      have fr2 := BCh_tr fr1 b2
      have nbp := nb_b c P
      obtain ⟨G3, c1, c2, c3, c4, c5, c6⟩ := cv_push (T := T) (nx := nx) (R := R) (to := to) (tn := tn) (ts := ts) (y := nb c P) (N := N) (W := W) (f := f) hM it0 it1 hF tk x0 x1 l hf nh (fun i hi => ⟨(m3 i hi).1, (m3 i hi).2.1⟩) nbp.1 (by omega) W0 (by omega) fr2 (by rw [a2]; exact w1)
      have b3 : BCh G2 G3 B 92 := BCh_stk c1 fun j _ q => c2 j q
      have fb : 0 ≤ f ∧ f < 14 := by omega
      have frF := (hF 1 (by omega) (by omega)).2.2.2 h m1 (by
        have : h < G0 (tvA B 1) 1 := by rw [← hF1]; exact m2
        exact this)
      have cS := fun K : Option Value → q_M → Prop => c12_slotsFX (T := T) (nx := nx) (rc := 0) (rs := 0) (R := R) (G := G0) (G1 := G2) (v := 1) (f := h) (K := K) hM frF (fr2.1 _ (by omega) (by omega)) (fr2.1 _ (by omega) (by omega)) (by omega) (by omega) m1 (by omega)
      have cS' : ∀ K : Option Value → q_M → Prop, fX12_slotsOf [.ref (B + 544), .int (zI (14 * 1 + h))] (st T nx 0 0 R G2) K = K (some (.int (zI N))) (st T nx 0 0 R G2) := fun K => by rw [hN]; exact cS K
      have stp : CSt T nx R B ib to G G3 := cv_node (m := 0) hM (by omega) (by omega) (by omega) W0 (by omega) h23 s5 (by omega) (by rw [((BCh_row fr (show ¬ ib = 92 by omega)).2.2.2 _ (by omega) (by omega)).1, hf1]; exact ef) fb (by rw [fr.1 _ (by omega) (by omega), hh]) (by omega) (by rw [fr2.1 _ (by omega) (by omega), hh]) nh (by rw [← e1]; exact a4) cS' c6
      have key : ∀ mm : Nat, (mm : Int) ≤ N → KidW 0 (G0 (tvA B 1 + 5)) (G0 (tvA B 1 + 6)) c (1000 + h) it mm P (P + 1 + (cat u mm).length) ∧ ∃ G', BCh G G' B 92 ∧ SL5 G G' B W ∧ (∀ j : Nat, mm ≤ j → (j : Int) < N → ST5 G' B (W + (N - 1 - j)) ib (pc (G0 (b + 1)) (G0 (b + 6)) (chI (G0 (b + 2)) x (G0 (B + 544 + 94) (5 * f + j)).toNat)) (nb c P) j 0) ∧ G' (B + 544) 23 = W + (N - mm) ∧ G' (B + 544) 22 = G (B + 544) 22 ∧ BS (G0 (tvA B 1 + 5)) c G' B 92 1 (P + 1 + (cat u mm).length) ∧ CSt T nx R B ib to G G' := by
        intro mm
        induction mm with
        | zero =>
          intro _
          refine ⟨Kid0 (by rw [e1h, ← hN]; exact nh.1) (by omega) cP okh pr (by omega), G3, BCh_tr pc1.1 (BCh_tr b2 b3), SL5_tr pc1.2 (SL5_tr (BFr_lo a1) c4 (Int.le_refl _)) (Int.le_refl _), fun j _ hj => c5 j hj, by rw [c3]; omega, by rw [c2 _ (by omega), a2]; exact w2, BS_congr (fun x q1 q2 => c1 x (by omega) (by omega)) a3, stp⟩
        | succ mm ihm =>
          intro hm
          obtain ⟨kw, Gm, z2, z3, z4, z5, z6, z8, z9⟩ := ihm (by omega)
          obtain ⟨rr', hr⟩ := cat_pre u (show mm + 1 ≤ (G0 (tvA B 1 + 5) h).toNat by omega)
          have hA2 := hA'
          rw [hr, At_app, cat_s, At_app] at hA2
          obtain ⟨q1, q2, q3, _⟩ := m3 mm (by omega)
          have uu := hu mm (by omega)
          obtain ⟨sl, hsl⟩ : ∃ sl, sl = G0 (B + 544 + 94) (5 * f + mm) := ⟨_, rfl⟩
          rw [← hsl] at q1 q2 q3 uu
          have bq := cH sl.toNat (by rw [← hf]; omega)
          have obb := bq.2.2.2.2
          rw [Int.toNat_of_nonneg q1, ← hf] at obb
          have okk := ki_okc q3 obb
          have pw := (CW_pw kT m k (chI (G0 (b + 2)) x sl.toNat) _ (u mm) (by omega) bq.2.1 okk uu).1
          have kwd := kw.2.1
          have kt := kw.2.2.1
          rw [e1h, ← hN] at kwd kt
          have sw := pw_seg hn0 _ _ _ _ pw hA2.1.2 kw.1 (by omega)
          have kw' := Kid_s (x := 1000 + h) (m := mm) (by rw [e1h]; omega) kw (by rw [e1h]; exact sw)
          have len2 : (cat u (mm + 1)).length ≤ (cat u (G0 (tvA B 1 + 5) h).toNat).length := by rw [hr, List.length_append]; omega
          have mo3 := nb_mono c (show P + 1 + (cat u (mm + 1)).length ≤ P + 1 + (cat u (G0 (tvA B 1 + 5) h).toNat).length by omega)
          rw [cat_s, List.length_append, show P + 1 + ((cat u mm).length + (u mm).length) = P + 1 + (cat u mm).length + (u mm).length by omega] at mo3 ⊢
          refine ⟨kw', ?_⟩
          rw [show N.toNat - mm = (N.toNat - (mm + 1)) + 1 by omega, tgN] at kt
          obtain ⟨G5, t2, t3, t4, t5, t7, t8⟩ := ih (chI (G0 (b + 2)) x sl.toNat) _ (u mm) _ Gm (W + (N - 1 - mm)) (by omega) bq.2.1 okk uu hA2.1.2 (by omega) (by omega) kw.1 (by omega) (BCh_tr fr z2) (by rw [z5]; omega) z8 (fun t' ht' => by
            rw [kt, List.cons_append, List.getElem?_cons_zero] at ht'
            injection ht' with ht'
            subst ht'
            rw [hsl]
            exact z4 mm (Nat.le_refl _) (by omega))
          exact ⟨G5, BCh_tr z2 t2, SL5_tr z3 t3 (by omega), fun j j0 j1 => ST5_lo t3 (by omega) (z4 j (by omega) j1), by rw [t4]; omega, by rw [t5, z6], t7, CSt_tr z9 t8⟩
      obtain ⟨_, G4, z2, z3, _, z5, z6, z8, z9⟩ := key N.toNat (by omega)
      rw [hN] at z8
      exact ⟨G4, z2, z3, by rw [z5]; omega, z6, z8, z9⟩
end
