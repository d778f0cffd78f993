section
/-! the reference joins: piece by piece -/
theorem j_ref {T : Nat → Option q_T} {nx B b l r : Nat} {R : Nat → Nat → Option Value} {G0 Gm : Nat → Int → Int} {gb gl gr ib il ir v : Int} (hM : Ly T R (B + 544) (L12 (B + 544))) (ib0 : 0 ≤ ib) (ib1 : ib < 92) (il0 : 0 ≤ il) (il1 : il < 92) (ir0 : 0 ≤ ir) (ir1 : ir < 92) (hF : IFm G0 B) (tb : TOK G0 B gb ib v b) (tl : TOK G0 B gl il v l) (tr : TOK G0 B gr ir v r) (sb0 : SRC G0 Gm B ib) (sl0 : SRC G0 Gm B il) (sr0 : SRC G0 Gm B ir) (cB : ∀ q, 0 ≤ q → q < G0 b 2 → 20 ≤ G0 (b + 1) q ∧ G0 (b + 1) q ≤ 1013) (cL : ∀ q, 0 ≤ q → q < G0 l 2 → 20 ≤ G0 (l + 1) q ∧ G0 (l + 1) q ≤ 1013) (cR : ∀ q, 0 ≤ q → q < G0 r 2 → 20 ≤ G0 (r + 1) q ∧ G0 (r + 1) q ≤ 1013)  {c : Int → Int} {to : Int} (n5 : ∀ q : Nat, 1000 ≤ c q → ns0 (c q) (G0 (tvA B v + 5))) (hg : gb = 0 ∧ gl = 0 ∧ gr = 0) : ∀ (k : Nat) (p q s : Int) (w : List Int) (d d0 it : Int) (G : Nat → Int → Int) (P : Nat) (W : Int), 0 ≤ p → p < G0 b 2 → 0 ≤ q → q < G0 l 2 → 0 ≤ s → s < G0 r 2 → okc 0 it (G0 (b + 1) p) → okc 0 it (G0 (l + 1) q) → okc 0 it (G0 (r + 1) s) → JW (G0 (tvA B v + 5)) (G0 (b + 1)) (G0 (b + 2)) (G0 (l + 1)) (G0 (l + 2)) (G0 (r + 1)) (G0 (r + 2)) k p q s w d → At c P w → JCh Gm G B 92 → Pre (G0 (tvA B v + 5)) c P → 0 ≤ W → W + 1 ≤ dd (G0 (tvA B v + 5)) c P → nb c P ≤ 40 → G (B + 544) 77 = W + 1 → G (B + 544) 22 = 0 → G (B + 544) 23 = 0 → BS (G0 (tvA B v + 5)) c G B 92 v P → (∀ t, (tgS (G0 (tvA B v + 5)) c P)[0]? = some t → SJ G B W (pc (G0 (b + 1)) (G0 (b + 6)) p) (pc (G0 (l + 1)) (G0 (l + 6)) q) (pc (G0 (r + 1)) (G0 (r + 6)) s) t.1 t.2) →
    (nb c (P + w.length) ≤ 40 ∧ ∃ G', JCh Gm G' B 92 ∧ SLJ G G' B W ∧ G' (B + 544) 77 = W ∧ G' (B + 544) 22 = 0 ∧ G' (B + 544) 23 = 0 ∧ BS (G0 (tvA B v + 5)) c G' B 92 v (P + w.length) ∧ RJt T nx R B ib il ir to d0 G (d0 + d) G') ∨ (40 < nb c (P + w.length) ∧ ∃ G' d', JCh Gm G' B 92 ∧ G' (B + 544) 22 = 1 ∧ (0 ≤ G' (B + 544) 77 ∧ G' (B + 544) 77 < 400) ∧ RJt T nx R B ib il ir to d0 G d' G') := by
  obtain ⟨hg1, hg2, hg3⟩ := hg
  subst hg1 hg2 hg3
  have kB := tb.2.2.2.1
  have kL := tl.2.2.2.1
  have kR := tr.2.2.2.1
  have kv := tb.2.2.1
  have n0 : ∀ f, 0 ≤ f → f < G0 (tvA B v) 1 → 0 ≤ G0 (tvA B v + 5) f := fun f f0 f1 => (IFm_ns hF kv f0 f1).1
  intro k
  induction k with
  | zero =>
    intro p q s w d d0 it G P W _ _ _ _ _ _ _ _ _ j
    exact j.elim
  | succ k ih =>
    intro p q s w d d0 it G P W p0 p1 q0 q1 s0 s1 ob ol orr j hA' jc pr W0 Wd n40 h77 h22 h23 bs hst
    have n5' : ∀ q : Nat, q < P → 1000 ≤ c q → G0 (tvA B v + 5) (c q - 1000) ≤ 5 := fun q _ h => (n5 q h).2.2
    have room := dd_room n5'
    have fp := kB.2.1 p p0 p1
    have fq := kL.2.1 q q0 q1
    have fs := kR.2.1 s s0 s1
    obtain ⟨⟨tn, ts⟩, ht, hts⟩ := tg_some pr (by omega)
    have sj : SJ G B W (pc (G0 (b + 1)) (G0 (b + 6)) p) (pc (G0 (l + 1)) (G0 (l + 6)) q) (pc (G0 (r + 1)) (G0 (r + 6)) s) tn ts := hst _ ht
    have tbd : -1 ≤ tn ∧ tn < 40 ∧ 0 ≤ ts ∧ ts < 5 := by
      rcases tg_b pr n5' ht with ⟨_, z⟩ | ⟨_, z1, z2, z3, z4⟩
      · injection z with z1 z2
        omega
      · have z1 : 0 ≤ tn := z1
        have z2 : tn < nb c P := z2
        have z3 : 0 ≤ ts := z3
        have z4 : ts < 5 := z4
        omega
    obtain ⟨G1, e1⟩ : ∃ M, M = gs G (B + 544) 77 W := ⟨_, rfl⟩
    have jp := jpop G B 92 W W
    rw [← e1] at jp
    have jc1 := JCh_tr jc jp.1
    have w77 : G1 (B + 544) 77 = W := by rw [e1]; exact gs_same _ _ _ _
    have w22 : G1 (B + 544) 22 = 0 := by rw [e1, gs_eq, fu_ne (by omega)]; exact h22
    have w23 : G1 (B + 544) 23 = 0 := by rw [e1, gs_eq, fu_ne (by omega)]; exact h23
    have o1 : ∀ x, ¬ x = B + 544 → G1 x = G x := fun x q => by rw [e1, gs_ne q]
    have bs1 : BS (G0 (tvA B v + 5)) c G1 B 92 v P := BS_congr (fun x a b => o1 x (by omega)) bs
    -- after a whole piece
    have seg : ∀ (G2 : Nat → Int → Int) (m : Nat), BCh G1 G2 B 92 → G2 (B + 544) 23 = 0 → ((nb c (P + m) ≤ 40 ∧ G2 (B + 544) 22 = 0 ∧ BS (G0 (tvA B v + 5)) c G2 B 92 v (P + m)) ∨ (40 < nb c (P + m) ∧ G2 (B + 544) 22 = 1)) → RJt T nx R B ib il ir to d0 G (d0 + d) G2 → (nb c (P + m) ≤ 40 ∧ ∃ G', JCh Gm G' B 92 ∧ SLJ G G' B W ∧ G' (B + 544) 77 = W ∧ G' (B + 544) 22 = 0 ∧ G' (B + 544) 23 = 0 ∧ BS (G0 (tvA B v + 5)) c G' B 92 v (P + m) ∧ RJt T nx R B ib il ir to d0 G (d0 + d) G') ∨ (40 < nb c (P + m) ∧ ∃ G' d', JCh Gm G' B 92 ∧ G' (B + 544) 22 = 1 ∧ (0 ≤ G' (B + 544) 77 ∧ G' (B + 544) 77 < 400) ∧ RJt T nx R B ib il ir to d0 G d' G') := fun G2 m y1 y2 y3 y4 => by
      have z77 : G2 (B + 544) 77 = W := by rw [y1.2.1 _ (by omega) (by omega)]; exact w77
      rcases y3 with ⟨t1, t2, t3⟩ | ⟨t1, t2⟩
      · exact Or.inl ⟨t1, G2, JCh_tr jc1 (JCh_of y1), SLJ_tr jp.2 (BCh_sj y1) (Int.le_refl _), z77, t2, y2, t3, y4⟩
      · exact Or.inr ⟨t1, G2, d0 + d, JCh_tr jc1 (JCh_of y1), t2, by omega, y4⟩
    rcases j with ⟨g1, hw, hd⟩ | ⟨g1, g2, hw, hd⟩ | ⟨g1, g2, g3, g4, hw, hd⟩ | ⟨g1, g2, g3, g4, u, du, hw, hd, hu⟩
    · subst hw
      have ag := At_sg hA'
      obtain ⟨Ga, Gb, x1, x2, x3, x4, x5⟩ := b_one (T := T) (nx := nx) (R := R) (i := 92) (c := c) (P := P) (Q := P + (G0 (r + 2) s - s).toNat) (x := s) hM (by omega) (by omega) ir0 (by omega) (by omega) hF tr cR n5 s0 s1 (fun z z0 z1 => ag z z0 (by omega)) (by omega) pr (by omega) n40 (SRC_j sr0 jc1 (by omega)) w23 w22 bs1 ht
      rw [sgL_len]
      exact seg Gb _ x3 x4 x5 (rj_turnS (T := T) (nx := nx) (R := R) hM ib0 ib1 il0 il1 ir0 ir1 hF tb tl tr sb0 sl0 sr0 cB cL cR p0 p1 q0 q1 s0 s1 rfl rfl rfl jc W0 (by omega) h77 h22 sj tbd (Or.inl ⟨g1, by omega, rfl, rfl⟩) (by rw [← e1]; exact x1) x2)
    · subst hw
      have ag := At_sg hA'
      obtain ⟨Ga, Gb, x1, x2, x3, x4, x5⟩ := b_one (T := T) (nx := nx) (R := R) (i := 92) (c := c) (P := P) (Q := P + (G0 (l + 2) q - q).toNat) (x := q) hM (by omega) (by omega) il0 (by omega) (by omega) hF tl cL n5 q0 q1 (fun z z0 z1 => ag z z0 (by omega)) (by omega) pr (by omega) n40 (SRC_j sl0 jc1 (by omega)) w23 w22 bs1 ht
      rw [sgL_len]
      exact seg Gb _ x3 x4 x5 (rj_turnS (T := T) (nx := nx) (R := R) hM ib0 ib1 il0 il1 ir0 ir1 hF tb tl tr sb0 sl0 sr0 cB cL cR p0 p1 q0 q1 s0 s1 rfl rfl rfl jc W0 (by omega) h77 h22 sj tbd (Or.inr (Or.inl ⟨g1, g2, by omega, rfl, rfl⟩)) (by rw [← e1]; exact x1) x2)
    · subst hw
      have ag := At_sg hA'
      obtain ⟨Ga, Gb, x1, x2, x3, x4, x5⟩ := b_one (T := T) (nx := nx) (R := R) (i := 92) (c := c) (P := P) (Q := P + (G0 (b + 2) p - p).toNat) (x := p) hM (by omega) (by omega) ib0 (by omega) (by omega) hF tb cB n5 p0 p1 (fun z z0 z1 => ag z z0 (by omega)) (by omega) pr (by omega) n40 (SRC_j sb0 jc1 (by omega)) w23 w22 bs1 ht
      rw [sgL_len]
      exact seg Gb _ x3 x4 x5 (rj_turnS (T := T) (nx := nx) (R := R) hM ib0 ib1 il0 il1 ir0 ir1 hF tb tl tr sb0 sl0 sr0 cB cL cR p0 p1 q0 q1 s0 s1 rfl rfl rfl jc W0 (by omega) h77 h22 sj tbd (Or.inr (Or.inr ⟨g1, g2, g3, g4, by omega, rfl, rfl⟩)) (by rw [← e1]; exact x1) x2)
    · have l' := JW_node kB kL kR n0 p0 p1 q0 q1 (s := s) g1 g4.1
      have FB := kB.2.2.2.1 p p0 p1 l'
      have FL := kL.2.2.2.1 q q0 q1 (by omega)
      have FR' := kR.2.2.2.1 s s0 s1 (by omega)
      rw [← g4.1] at FL
      rw [← g4.2] at FR'
      have n1 := IFm_ns hF kv (show 0 ≤ G0 (b + 1) p - 1000 by omega) FB.1
      subst hw
      obtain ⟨cP, hA'⟩ := hA'
      have bd := cB p p0 p1
      have lP : 1000 ≤ c P := by omega
      have nbs := nb_s c P
      rw [if_pos lP] at nbs
      have ddP := dd_s (G0 (tvA B v + 5)) c P
      rw [if_pos lP, cP] at ddP
      obtain ⟨N, hN⟩ : ∃ N, N = G0 (tvA B v + 5) (G0 (b + 1) p - 1000) := ⟨_, rfl⟩
      have eB : pc (G0 (b + 1)) (G0 (b + 6)) p = 1000 + G0 (b + 6) p := if_pos l'
      have eL : pc (G0 (l + 1)) (G0 (l + 6)) q = 1000 + G0 (l + 6) q := if_pos (by omega)
      have eR : pc (G0 (r + 1)) (G0 (r + 6)) s = 1000 + G0 (r + 6) s := if_pos (by omega)
      rw [List.length_cons, show P + ((cat u (G0 (tvA B v + 5) (G0 (b + 1) p - 1000)).toNat).length + 1) = P + 1 + (cat u (G0 (tvA B v + 5) (G0 (b + 1) p - 1000)).toNat).length by omega]
      have mono := nb_mono c (show P + 1 ≤ P + 1 + (cat u (G0 (tvA B v + 5) (G0 (b + 1) p - 1000)).toNat).length by omega)
      have frF := (hF v kv.1 kv.2).2.2.2 (G0 (b + 1) p - 1000) (by omega) FB.1
      have cSl : ∀ G2 : Nat → Int → Int, JCh Gm G2 B 92 → ∀ K : Option Value → q_M → Prop, fX12_slotsOf [.ref (B + 544), .int (zI (14 * v + (G0 (b + 1) p - 1000)))] (st T nx 0 0 R G2) K = K (some (.int (zI N))) (st T nx 0 0 R G2) := fun G2 j2 K => by
        have := c12_slotsFX (T := T) (nx := nx) (rc := 0) (rs := 0) (R := R) (G := G0) (G1 := G2) (v := v) (f := G0 (b + 1) p - 1000) (K := K) hM frF (by rw [j2.1 _ (by omega) (by omega) (by omega)]; exact sb0.2.1) (by rw [j2.1 _ (by omega) (by omega) (by omega)]; exact sb0.2.2) kv.1 kv.2 (by omega) (by omega)
        rw [hN]
        exact this
      by_cases n4 : nb c P < 40
      · obtain ⟨G2, a1, a2, a3, a4⟩ := c12_newNodeB (T := T) (nx := nx) (rc := 0) (rs := 0) (R := R) (t := (tn, ts)) (x := G0 (b + 1) p - 1000) (i := 92) hM (by omega) (by omega) pr (by omega) n5' ht bs1 n40 (by omega) (n5 P lP).1 (by omega) n4
        have b2 := BCh_of a1
        have jc2 := JCh_tr jc1 (JCh_of b2)
        have nbb := nb_b c P
        obtain ⟨G3, c1, c2, c3, c4, c5, c6⟩ := j_push (T := T) (nx := nx) (R := R) (tn := tn) (ts := ts) (d := d0) (to := to) (f := 14 * v + (G0 (b + 1) p - 1000)) (fr := -1) (y := nb c P) (W := W) hM ib0 ib1 il0 il1 ir0 ir1 hF tb tl tr p0 p1 q0 q1 s0 s1 l' g4.1 g4.2 hN nbb.1 n4 W0 (by omega) (SRC_j sb0 jc2 (by omega)) (SRC_j sl0 jc2 (by omega)) (SRC_j sr0 jc2 (by omega)) (by rw [a2]; exact w77)
        have jc3 : JCh Gm G3 B 92 := JCh_tr jc2 (JCh_stk c1 fun j _ q => c2 j q)
        have sl3 : SLJ G G3 B W := SLJ_tr jp.2 (SLJ_tr (BCh_sj b2) c4 (Int.le_refl _)) (Int.le_refl _)
        have stp : RJt T nx R B ib il ir to d0 G d0 G3 := rj_turnN (T := T) (nx := nx) (R := R) (N := N) (y := nb c P) (e := -1) hM ib0 ib1 il0 il1 ir0 ir1 hF tb tl tr sb0 sl0 sr0 cB cL cR p0 p1 q0 q1 s0 s1 rfl rfl rfl jc W0 (by omega) h77 h22 sj tbd g1 g2 g3 g4 l' (by omega) (by omega) (by rw [← e1]; exact a4) (cSl G2 jc2) (by rw [eB, eL, eR]; exact c6)
        have bs3 : BS (G0 (tvA B v + 5)) c G3 B 92 v (P + 1) := BS_congr (fun x _ _ => c1 x (by omega) (by omega)) a3
        have key : ∀ m : Nat, (m : Int) ≤ N → KidW 0 (G0 (tvA B v + 5)) (G0 (tvA B v + 6)) c (G0 (b + 1) p) it m P (P + 1 + (cat u m).length) ∧ ((nb c (P + 1 + (cat u m).length) ≤ 40 ∧ ∃ G', JCh Gm G' B 92 ∧ SLJ G G' B W ∧ (∀ j : Nat, m ≤ j → (j : Int) < N → SJ G' B (W + (N - 1 - j)) (pc (G0 (b + 1)) (G0 (b + 6)) (chI (G0 (b + 2)) p j)) (pc (G0 (l + 1)) (G0 (l + 6)) (chI (G0 (l + 2)) q j)) (pc (G0 (r + 1)) (G0 (r + 6)) (chI (G0 (r + 2)) s j)) (nb c P) j) ∧ G' (B + 544) 77 = W + (N - m) ∧ G' (B + 544) 22 = 0 ∧ G' (B + 544) 23 = 0 ∧ BS (G0 (tvA B v + 5)) c G' B 92 v (P + 1 + (cat u m).length) ∧ RJt T nx R B ib il ir to d0 G (d0 + csum du m) G') ∨ (40 < nb c (P + 1 + (cat u m).length) ∧ ∃ G' d', JCh Gm G' B 92 ∧ G' (B + 544) 22 = 1 ∧ (0 ≤ G' (B + 544) 77 ∧ G' (B + 544) 77 < 400) ∧ RJt T nx R B ib il ir to d0 G d' G')) := by
          intro m
          induction m with
          | zero =>
            intro _
            refine ⟨Kid0 n1.1 l' cP ob pr (by omega), Or.inl ⟨by show nb c (P + 1) ≤ 40; omega, G3, jc3, sl3, fun j _ hj => c5 j hj, by rw [c3]; omega, by rw [c2 _ (by omega), a2]; exact w22, by rw [c2 _ (by omega), a2]; exact w23, bs3, ?_⟩⟩
            have e0 : d0 + csum du 0 = d0 := by show d0 + 0 = d0; omega
            rw [e0]
            exact stp
          | succ m ihm =>
            intro hm
            obtain ⟨kw, ihm⟩ := ihm (by omega)
            obtain ⟨rr', hr⟩ := cat_pre u (show m + 1 ≤ (G0 (tvA B v + 5) (G0 (b + 1) p - 1000)).toNat by omega)
            have hA2 := hA'
            rw [hr, At_app, cat_s, At_app] at hA2
            have q1' := FB.2.2 m (by omega)
            have q2' := FL.2.2 m (by omega)
            have q3' := FR'.2.2 m (by omega)
            have pw := JW_pw kB kL kR n0 _ _ _ _ _ _ _ (by omega) q1'.2.1 (by omega) q2'.2.1 (by omega) q3'.2.1 q1'.2.2.2.2 q2'.2.2.2.2 q3'.2.2.2.2 (hu m (by omega))
            have kwd := kw.2.1
            have kt := kw.2.2.1
            rw [← hN] at kwd kt
            have sw := pw_seg n0 _ _ _ _ pw.1 hA2.1.2 kw.1 (by omega)
            have kw' := Kid_s (by omega) kw sw
            rw [cat_s, List.length_append, show P + 1 + ((cat u m).length + (u m).length) = P + 1 + (cat u m).length + (u m).length by omega]
            refine ⟨kw', ?_⟩
            have mo := nb_mono c (show P + 1 + (cat u m).length ≤ P + 1 + (cat u m).length + (u m).length by omega)
            rw [show N.toNat - m = (N.toNat - (m + 1)) + 1 by omega, tgN] at kt
            rcases ihm with ⟨y1, G4, y2, y3, y4, y5, y6, y7, y8, y9⟩ | ⟨y1, y2⟩
            · rcases ih (chI (G0 (b + 2)) p m) (chI (G0 (l + 2)) q m) (chI (G0 (r + 2)) s m) (u m) (du m) (d0 + csum du m) _ G4 _ (W + (N - 1 - m)) (by omega) q1'.2.1 (by omega) q2'.2.1 (by omega) q3'.2.1 q1'.2.2.2.2 q2'.2.2.2.2 q3'.2.2.2.2 (hu m (by omega)) hA2.1.2 y2 kw.1 (by omega) (by omega) y1 (by rw [y5]; omega) y6 y7 y8 (fun t' ht' => by
                rw [kt, List.cons_append, List.getElem?_cons_zero] at ht'
                injection ht' with ht'
                subst ht'
                exact y4 m (Nat.le_refl _) (by omega)) with ⟨t1, G5, t2, t3, t4, t5, t6, t7, t8⟩ | ⟨t1, G5, d', t2, t3, t4, t5⟩
              · refine Or.inl ⟨t1, G5, t2, SLJ_tr y3 t3 (by omega), fun j j0 j1 => SJ_lo t3 (by omega) (y4 j (by omega) j1), by rw [t4]; omega, t5, t6, t7, ?_⟩
                rw [csum_s, ← Int.add_assoc]
                exact RJt_tr y9 t8
              · exact Or.inr ⟨t1, G5, d', t2, t3, t4, RJt_tr y9 t5⟩
            · exact Or.inr ⟨by omega, y2⟩
        obtain ⟨_, kk⟩ := key N.toNat (by omega)
        rw [hN, ← hd] at kk
        rcases kk with ⟨y1, G4, y2, y3, y4, y5, y6, y7, y8, y9⟩ | y
        · exact Or.inl ⟨y1, G4, y2, y3, by rw [y5]; omega, y6, y7, y8, y9⟩
        · exact Or.inr y
      · have nd : G1 (B + 544 + 17) 92 = 40 := by rw [bs1.2.1]; omega
        have cF := fun K : Option Value → q_M → Prop => c12_newNodeF (T := T) (nx := nx) (rc := 0) (rs := 0) (R := R) (x := G0 (b + 1) p - 1000) (a := tn) (b := ts) (i := 92) hM (by omega) (by omega) nd K
        obtain ⟨G2, e2⟩ : ∃ M, M = gs G1 (B + 544) 22 1 := ⟨_, rfl⟩
        rw [← e2] at cF
        have jc2 : JCh Gm G2 B 92 := JCh_tr jc1 ⟨fun x _ _ q => by rw [e2, gs_ne q], fun j q _ _ => by rw [e2, gs_eq, fu_ne q], fun j _ => ⟨RowE_of fun x w1 w2 => by rw [e2, gs_ne (by omega)], fun k _ _ => by rw [e2, gs_ne (by omega)]⟩⟩
        have lw : ∀ (Kn : List Value → q_M → Prop) (Kr : Option Value → q_M → Prop), wX12_join_1 [.ref (B + 544), .int (zI ib), .int (zI il), .int (zI ir), .int (zI to), .int (zI d0), .int (zI (pc (G0 (b + 1)) (G0 (b + 6)) p)), .int (zI (pc (G0 (l + 1)) (G0 (l + 6)) q)), .int (zI (pc (G0 (r + 1)) (G0 (r + 6)) s)), .int (zI tn), .int (zI ts), .int (zI (14 * v + (G0 (b + 1) p - 1000))), .int (zI (-1)), .int (zI (-1)), .int (zI (N - 1))] (st T nx 0 0 R G2) Kn Kr = Kn [.ref (B + 544), .int (zI ib), .int (zI il), .int (zI ir), .int (zI to), .int (zI d0), .int (zI (pc (G0 (b + 1)) (G0 (b + 6)) p)), .int (zI (pc (G0 (l + 1)) (G0 (l + 6)) q)), .int (zI (pc (G0 (r + 1)) (G0 (r + 6)) s)), .int (zI tn), .int (zI ts), .int (zI (14 * v + (G0 (b + 1) p - 1000))), .int (zI (-1)), .int (zI (-1)), .int (zI (N - 1))] (st T nx 0 0 R G2) := eX12_join_1.eqn (q_outR (fun Kt Kf hk => by
          have hz : ¬ (0 : Int) ≤ -1 := by omega
          have Nb : 0 ≤ N ∧ N ≤ 5 := by omega
          clear hN jc jc1 jc2 hu hA' cSl cF
          by_cases hy : 0 ≤ N - 1
          · simp (disch := omega) only [↓wcX12_join_1.eq_1, ↓k_mk, ↓k_sq, ↓k_sk, ↓k_bk, ↓k_if, ↓k_te, ↓k_cm, ↓k_cz, ↓k_an2, ↓k_or2, ↓k_no, ↓k_ci, ↓k_l0, ↓k_r0, ↓k_se0, ↓k_ic0, ↓k_l1, ↓k_r1, ↓k_se1, ↓k_ic1, ↓k_de1, ↓k_tk1, ↓k_l2, ↓k_r2, ↓k_se2, ↓k_ic2, ↓k_de2, ↓k_tk2, ↓k_l3, ↓k_r3, ↓k_se3, ↓k_ic3, ↓k_de3, ↓k_tk3, ↓k_l4, ↓k_r4, ↓k_se4, ↓k_ic4, ↓k_de4, ↓k_tk4, ↓k_l5, ↓k_r5, ↓k_se5, ↓k_ic5, ↓k_de5, ↓k_tk5, ↓k_l6, ↓k_r6, ↓k_se6, ↓k_ic6, ↓k_de6, ↓k_tk6, ↓k_l7, ↓k_r7, ↓k_se7, ↓k_ic7, ↓k_de7, ↓k_tk7, ↓k_l8, ↓k_r8, ↓k_se8, ↓k_ic8, ↓k_de8, ↓k_tk8, ↓k_l9, ↓k_r9, ↓k_se9, ↓k_ic9, ↓k_de9, ↓k_tk9, ↓k_l10, ↓k_r10, ↓k_se10, ↓k_ic10, ↓k_de10, ↓k_tk10, ↓k_l11, ↓k_r11, ↓k_se11, ↓k_ic11, ↓k_de11, ↓k_tk11, ↓k_l12, ↓k_r12, ↓k_se12, ↓k_ic12, ↓k_de12, ↓k_tk12, ↓k_l13, ↓k_r13, ↓k_se13, ↓k_ic13, ↓k_de13, ↓k_tk13, ↓k_l14, ↓k_r14, ↓k_se14, ↓k_ic14, ↓k_de14, ↓k_tk14, ↓k_l15, ↓k_r15, ↓k_se15, ↓k_ic15, ↓k_de15, ↓k_tk15, ↓k_l16, ↓k_r16, ↓k_se16, ↓k_ic16, ↓k_de16, ↓k_tk16, ↓k_l17, ↓k_r17, ↓k_se17, ↓k_ic17, ↓k_de17, ↓k_tk17, ↓k_l18, ↓k_r18, ↓k_se18, ↓k_ic18, ↓k_de18, ↓k_tk18, ↓k_l19, ↓k_r19, ↓k_se19, ↓k_ic19, ↓k_de19, ↓k_tk19, ↓k_l20, ↓k_r20, ↓k_se20, ↓k_ic20, ↓k_de20, ↓k_tk20, ↓k_l21, ↓k_r21, ↓k_se21, ↓k_ic21, ↓k_de21, ↓k_tk21, ↓k_l22, ↓k_r22, ↓k_se22, ↓k_ic22, ↓k_de22, ↓k_tk22, ↓k_l23, ↓k_r23, ↓k_se23, ↓k_ic23, ↓k_de23, ↓k_tk23, ↓k_l24, ↓k_r24, ↓k_se24, ↓k_ic24, ↓k_de24, ↓k_tk24, ↓k_l25, ↓k_r25, ↓k_se25, ↓k_ic25, ↓k_de25, ↓k_tk25, ↓k_k, ↓k_kn, ↓k_kl, ↓k_kln, ↓k_il, ↓k_2, ↓k_1, ↓k_2c, ↓k_2l, ↓k_ac, ↓k_an, ↓k_cs, ↓k_cv, ↓k_fi, ↓k_fr, ↓k_ai, ↓k_az, ↓k_ar, ↓k_sai, ↓k_saz, ↓k_soa, ↓k_sof, ↓k_spf, ↓k_sx, ↓k_blk, ↓k_sset, ↓k_sdec, ↓k_sri, ↓k_srv, ↓k_srr, ↓k_nop, ↓k_add, ↓k_sub, ↓k_mul, ↓k_min, ↓k_max, ↓k_shr, ↓k_shl, ↓k_or, ↓k_ilz, ↓k_addl, ↓k_rt, ↓k_rb, ↓k_rbz, ↓k_rsi, ↓k_rsr, ↓k_rsv, ↓reduceIte, hz, hy, List.length_cons, List.length_nil, List.forall_mem_cons, List.not_mem_nil, Value.category, true_and, and_true, false_and, and_false, or_true, true_or, or_false, false_or, Nat.zero_le, forall_const, implies_true, false_implies, Nat.zero_add, Nat.reduceAdd, Nat.reduceLT, Nat.reduceLeDiff, Nat.le_refl, not_true_eq_false, not_false_eq_true, r_eq, r_ne, r_lt, r_ge, r_gt, r_le, bz_ne, nn_toNat, cn_of, cn_0, cn_1, i10, Int.reduceLE, Int.reduceLT, Int.reduceEq, bz_T, bz_F, ite_self, mulc, st_bud]
            exact hk
          · simp (disch := omega) only [↓wcX12_join_1.eq_1, ↓k_mk, ↓k_sq, ↓k_sk, ↓k_bk, ↓k_if, ↓k_te, ↓k_cm, ↓k_cz, ↓k_an2, ↓k_or2, ↓k_no, ↓k_ci, ↓k_l0, ↓k_r0, ↓k_se0, ↓k_ic0, ↓k_l1, ↓k_r1, ↓k_se1, ↓k_ic1, ↓k_de1, ↓k_tk1, ↓k_l2, ↓k_r2, ↓k_se2, ↓k_ic2, ↓k_de2, ↓k_tk2, ↓k_l3, ↓k_r3, ↓k_se3, ↓k_ic3, ↓k_de3, ↓k_tk3, ↓k_l4, ↓k_r4, ↓k_se4, ↓k_ic4, ↓k_de4, ↓k_tk4, ↓k_l5, ↓k_r5, ↓k_se5, ↓k_ic5, ↓k_de5, ↓k_tk5, ↓k_l6, ↓k_r6, ↓k_se6, ↓k_ic6, ↓k_de6, ↓k_tk6, ↓k_l7, ↓k_r7, ↓k_se7, ↓k_ic7, ↓k_de7, ↓k_tk7, ↓k_l8, ↓k_r8, ↓k_se8, ↓k_ic8, ↓k_de8, ↓k_tk8, ↓k_l9, ↓k_r9, ↓k_se9, ↓k_ic9, ↓k_de9, ↓k_tk9, ↓k_l10, ↓k_r10, ↓k_se10, ↓k_ic10, ↓k_de10, ↓k_tk10, ↓k_l11, ↓k_r11, ↓k_se11, ↓k_ic11, ↓k_de11, ↓k_tk11, ↓k_l12, ↓k_r12, ↓k_se12, ↓k_ic12, ↓k_de12, ↓k_tk12, ↓k_l13, ↓k_r13, ↓k_se13, ↓k_ic13, ↓k_de13, ↓k_tk13, ↓k_l14, ↓k_r14, ↓k_se14, ↓k_ic14, ↓k_de14, ↓k_tk14, ↓k_l15, ↓k_r15, ↓k_se15, ↓k_ic15, ↓k_de15, ↓k_tk15, ↓k_l16, ↓k_r16, ↓k_se16, ↓k_ic16, ↓k_de16, ↓k_tk16, ↓k_l17, ↓k_r17, ↓k_se17, ↓k_ic17, ↓k_de17, ↓k_tk17, ↓k_l18, ↓k_r18, ↓k_se18, ↓k_ic18, ↓k_de18, ↓k_tk18, ↓k_l19, ↓k_r19, ↓k_se19, ↓k_ic19, ↓k_de19, ↓k_tk19, ↓k_l20, ↓k_r20, ↓k_se20, ↓k_ic20, ↓k_de20, ↓k_tk20, ↓k_l21, ↓k_r21, ↓k_se21, ↓k_ic21, ↓k_de21, ↓k_tk21, ↓k_l22, ↓k_r22, ↓k_se22, ↓k_ic22, ↓k_de22, ↓k_tk22, ↓k_l23, ↓k_r23, ↓k_se23, ↓k_ic23, ↓k_de23, ↓k_tk23, ↓k_l24, ↓k_r24, ↓k_se24, ↓k_ic24, ↓k_de24, ↓k_tk24, ↓k_l25, ↓k_r25, ↓k_se25, ↓k_ic25, ↓k_de25, ↓k_tk25, ↓k_k, ↓k_kn, ↓k_kl, ↓k_kln, ↓k_il, ↓k_2, ↓k_1, ↓k_2c, ↓k_2l, ↓k_ac, ↓k_an, ↓k_cs, ↓k_cv, ↓k_fi, ↓k_fr, ↓k_ai, ↓k_az, ↓k_ar, ↓k_sai, ↓k_saz, ↓k_soa, ↓k_sof, ↓k_spf, ↓k_sx, ↓k_blk, ↓k_sset, ↓k_sdec, ↓k_sri, ↓k_srv, ↓k_srr, ↓k_nop, ↓k_add, ↓k_sub, ↓k_mul, ↓k_min, ↓k_max, ↓k_shr, ↓k_shl, ↓k_or, ↓k_ilz, ↓k_addl, ↓k_rt, ↓k_rb, ↓k_rbz, ↓k_rsi, ↓k_rsr, ↓k_rsv, ↓reduceIte, hz, hy, List.length_cons, List.length_nil, List.forall_mem_cons, List.not_mem_nil, Value.category, true_and, and_true, false_and, and_false, or_true, true_or, or_false, false_or, Nat.zero_le, forall_const, implies_true, false_implies, Nat.zero_add, Nat.reduceAdd, Nat.reduceLT, Nat.reduceLeDiff, Nat.le_refl, not_true_eq_false, not_false_eq_true, r_eq, r_ne, r_lt, r_ge, r_gt, r_le, bz_ne, nn_toNat, cn_of, cn_0, cn_1, i10, Int.reduceLE, Int.reduceLT, Int.reduceEq, bz_T, bz_F, ite_self, mulc, st_bud]
            exact hk) ⟨rfl, rfl⟩)
        refine Or.inr ⟨by omega, G2, d0, jc2, by rw [e2]; exact gs_same _ _ _ _, by rw [e2, gs_eq, fu_ne (by omega), w77]; omega, rj_turnN (T := T) (nx := nx) (R := R) (N := N) (y := -1) (e := N - 1) hM ib0 ib1 il0 il1 ir0 ir1 hF tb tl tr sb0 sl0 sr0 cB cL cR p0 p1 q0 q1 s0 s1 rfl rfl rfl jc W0 (by omega) h77 h22 sj tbd g1 g2 g3 g4 l' (by omega) (by omega) (by rw [← e1]; exact cF) (cSl G2 jc2) lw⟩
end
