section
/-! kept: the reference puts a side in at one node: all of it -/
theorem u_ref {T : Nat → Option q_T} {nx B b ua uz : Nat} {R : Nat → Nat → Option Value} {G0 : Nat → Int → Int} {tu s gt ib v p : Int} (hM : Ly T R (B + 544) (L12 (B + 544))) (ib0 : 0 ≤ ib) (ib1 : ib < 92) (tk : TUW G0 B ua uz tu s gt ib v p b) {c : Int → Int} (n5 : ∀ q : Nat, 1000 ≤ c q → ns0 (c q) (G0 (tvA B v + 5))) : ∀ (k : Nat) (x it : Int) (w : List Int) (d d0 : Int) (P : Nat) (G : Nat → Int → Int) (W : Int), 0 ≤ x → x < G0 b 2 → okc gt it (G0 (b + 1) x) → TW (fun x => x = p) (fun x w => FW (G0 (tvA B v + 5)) (G0 (uz + 1)) (G0 (uz + 2)) (G0 (b + 1)) (G0 (b + 2)) (hlM (G0 (tvA B v + 5)) (G0 (ua + 1)) (G0 (ua + 2)) (G0 (b + 1)) (G0 (b + 2)) 202 0 x) 202 0 w) (G0 (tvA B v + 5)) (G0 (b + 1)) (G0 (b + 2)) k x w d → At c P w → 0 ≤ W → W + 1 ≤ dd (G0 (tvA B v + 5)) c P → Pre (G0 (tvA B v + 5)) c P → nb c P ≤ 40 → ACg G0 G B → G (B + 544) 31 = tu → G (B + 544) 32 = s → G (B + 544) 33 = G0 (b + 6) p → G (B + 544) 34 = d0 → G (B + 544) 23 = W + 1 → G (B + 544) 22 = 0 → BS (G0 (tvA B v + 5)) c G B 92 v P → (∀ t, (tgS (G0 (tvA B v + 5)) c P)[0]? = some t → ST5 G B W ib (pc (G0 (b + 1)) (G0 (b + 6)) x) t.1 t.2 1) →
    (nb c (P + w.length) ≤ 40 ∧ ∃ G', ACh G G' B ∧ SL5 G G' B W ∧ G' (B + 544) 34 = d0 + d ∧ G' (B + 544) 23 = W ∧ G' (B + 544) 22 = 0 ∧ BS (G0 (tvA B v + 5)) c G' B 92 v (P + w.length) ∧ BSt T nx R B 92 G G') ∨ (40 < nb c (P + w.length) ∧ ∃ G', ACh G G' B ∧ G' (B + 544) 22 = 1 ∧ (0 ≤ G' (B + 544) 23 ∧ G' (B + 544) 23 < 400) ∧ BSt T nx R B 92 G G') := by
  have tk' := tk
  obtain ⟨tu0, hF, ta, tz, ⟨s01, ua1, uz1⟩, tt, hb, ca, cz, ct, la, lz, _⟩ := tk'
  have kv := ta.2.2.1
  have kT := tt.2.2.2.1
  have kZ := tz.2.2.2.1
  have ttb := TOK_b tt
  have n0 : ∀ f, 0 ≤ f → f < G0 (tvA B v) 1 → 0 ≤ G0 (tvA B v + 5) f := fun f f0 f1 => (IFm_ns hF kv f0 f1).1
  have fp : ∀ x it w, 0 ≤ x → x < G0 b 2 → okc gt it (G0 (b + 1) x) → (x = p) → FW (G0 (tvA B v + 5)) (G0 (uz + 1)) (G0 (uz + 2)) (G0 (b + 1)) (G0 (b + 2)) (hlM (G0 (tvA B v + 5)) (G0 (ua + 1)) (G0 (ua + 2)) (G0 (b + 1)) (G0 (b + 2)) 202 0 x) 202 0 w → PW gt (G0 (tvA B v) 1) (G0 (tvA B v + 5)) (G0 (tvA B v + 6)) 404 it w := fun x it w x0 x1 o fit fl => by
    obtain ⟨h1, h2, h3, h4, h5⟩ := tuw_kk tk fit
    exact FW_pw kZ kT n0 h1 lz h2 202 0 it w (Int.le_refl _) (by have := kZ.1.1; omega) (h4 it o) (h3 it o) fl
  have fnode : ∀ x, (x = p) → 1000 ≤ G0 (b + 1) x := fun x fit => (tuw_fit tk fit).1
  intro k
  induction k with
  | zero => intro x it w d d0 P G W _ _ _ f; exact f.elim
  | succ k ih =>
    intro x it w d d0 P G W x0 x1 ok f hA' W0 Wd pr n40 fr h31 h32 h33 h34 h23 h22 bs hst
    have ex := kT.2.1 x x0 x1
    have n5' : ∀ q : Nat, q < P → 1000 ≤ c q → G0 (tvA B v + 5) (c q - 1000) ≤ 5 := fun q _ h => (n5 q h).2.2
    have room := dd_room n5'
    obtain ⟨⟨tn, ts⟩, ht, hts⟩ := tg_some pr (by omega)
    have s5 : ST5 G B W ib (pc (G0 (b + 1)) (G0 (b + 6)) x) tn ts 1 := hst _ ht
    have ctx := ct x x0 x1
    have tb : -1 ≤ tn ∧ tn < 40 ∧ 0 ≤ ts ∧ ts < 5 := by
      rcases tg_b pr n5' ht with ⟨_, q⟩ | ⟨_, z1, z2, z3, z4⟩
      · injection q with z1 z2
        omega
      · have z1 : 0 ≤ tn := z1
        have z2 : tn < nb c P := z2
        have z3 : 0 ≤ ts := z3
        have z4 : ts < 5 := z4
        omega
    by_cases l : 1000 ≤ G0 (b + 1) x
    · have rp := Tr_n kT x0 x1 l
      have epc : pc (G0 (b + 1)) (G0 (b + 6)) x = 1000 + G0 (b + 6) x := if_pos l
      rw [epc] at s5
      obtain ⟨G1, e1⟩ : ∃ M, M = gs G (B + 544) 23 W := ⟨_, rfl⟩
      have pc1 := pop_ch G B 92 W W
      rw [← e1] at pc1
      have fr1 := ACg_tr fr (ACg_of (ACh_of pc1.1))
      have i1 : ∀ j, ¬ j = 23 → G1 (B + 544) j = G (B + 544) j := fun j q => by rw [e1, gs_eq, fu_ne q]
      have w1 : G1 (B + 544) 23 = W := by rw [e1]; exact gs_same _ _ _ _
      have o1 : ∀ x, ¬ x = B + 544 → G1 x = G x := fun x q => by rw [e1, gs_ne q]
      have bs1 : BS (G0 (tvA B v + 5)) c G1 B 92 v P := BS_congr (fun x a b => o1 x (by omega)) bs
      obtain ⟨G2, r, m1, m2, m3⟩ := c12_fitsHereK (T := T) (nx := nx) (R := R) hM ib0 ib1 tk x0 x1 l fr1 (by rw [i1 _ (by omega)]; exact h31) (by rw [i1 _ (by omega)]; exact h32) (by rw [i1 _ (by omega)]; exact h33)
      have fr2 := ACg_tr fr1 (ACg_of (ACh_m m1))
      have bs2 : BS (G0 (tvA B v + 5)) c G2 B 92 v P := BS_congr (fun x a b => m1.1 x (by omega) (by omega) (by omega) (by omega) (by omega)) bs1
      have i2 : ∀ j, ¬ j = 23 → ¬ j = 114 → G2 (B + 544) j = G (B + 544) j := fun j q q2 => by rw [m1.2 j q2, i1 j q]
      have w2 : G2 (B + 544) 23 = W := by rw [m1.2 _ (by omega)]; exact w1
      have l12 : SL5 G G2 B W := SL5_tr pc1.2 (SL5_of fun x q1 q2 => m1.1 x (by omega) (by omega) (by omega) (by omega) (by omega)) (Int.le_refl _)
      rcases f with ⟨hf, hw, hd⟩ | ⟨hf, l', _⟩ | ⟨hf, _, u, du, hw, hd, hu⟩
      · obtain ⟨rr, _, sgr⟩ := m2.resolve_right (fun z => z.2 hf)
        subst rr
        obtain ⟨h1, h2, h3, h4, h5⟩ := tuw_kk tk hf
        have z00 : (0 : Int) < G0 uz 2 := by have := kZ.1.1; omega
        obtain ⟨G4, a1, a2, a3, a4, a5, a6, a7, a8⟩ := u_fitS (T := T) (nx := nx) (R := R) (i := 92) (tu := tu) (s := s) (d := d0) (pz := pc (G0 (uz + 1)) (G0 (uz + 6)) 0) hM tu0 s01 (by omega) (by omega) W0 (by omega) h23 h22 s5 (by omega) (by rw [← e1]; exact m1) h31 h32 h34 (by rw [← e1]; exact m3) (fun G3 o3 K => c12_rootP (T := T) (nx := nx) (rc := 0) (rs := 0) (R := R) (G := G3) hM (by omega) (by omega) tz (cz 0 (Int.le_refl _) z00) (RowE_trans (fr2.2 _ (by omega)).1 (RowE_of fun x q1 q2 => o3 x (by omega))) K)
        have fr4 := ACg_tr fr (ACg_of a1)
        have sgr4 : SGr G4 B ib (G0 b 2) (pc (G0 (b + 1)) (G0 (b + 6))) (hlM (G0 (tvA B v + 5)) (G0 (ua + 1)) (G0 (ua + 2)) (G0 (b + 1)) (G0 (b + 2)) 202 0 x) := ⟨sgr.1, fun h h0 h1 => by
          rw [a6 _ (by omega) (by omega), a6 (B + 544 + 29) (by omega) (by omega)]
          exact sgr.2 h h0 h1⟩
        rcases b_fill (T := T) (nx := nx) (R := R) (i := 92) (c := c) (S := hlM (G0 (tvA B v + 5)) (G0 (ua + 1)) (G0 (ua + 2)) (G0 (b + 1)) (G0 (b + 2)) 202 0 x) hM (by omega) (by omega) ib0 (by omega) (by omega) (by omega) (by omega) (by omega) hF tt tz ct cz lz h1 (tuw_fit tk hf).2.2.2 h2 n5 202 0 it w P G4 W (Int.le_refl _) z00 (h4 it ok) (h3 it ok) hw hA' W0 Wd pr n40 (SRC_g fr4 (by omega)) (SRC_g fr4 (by omega)) sgr4 a3 a4 (BS_congr (fun x q1 q2 => a6 x (by omega) (by omega)) bs2) (fun t ht' => by
          rw [ht] at ht'
          injection ht' with ht'
          subst ht'
          exact a7) with ⟨v1, G5, v2, v3, v4, v5, v6, v7⟩ | ⟨v1, G5, v2, v3, v4, v5⟩
        · exact Or.inl ⟨v1, G5, ACh_tr a1 (ACh_of v2), SL5_tr a2 v3 (Int.le_refl _), by rw [v2.2.1 _ (by omega) (by omega), a5, hd], v4, v5, v6, BSt_tr a8 v7⟩
        · exact Or.inr ⟨v1, G5, ACh_tr a1 (ACh_of v2), v3, v4, BSt_tr a8 v5⟩
      · exact absurd l l'
      · obtain ⟨rr, _⟩ := m2.resolve_left (fun z => hf z.2.1)
        subst rr
        obtain ⟨F1, cE, cH⟩ := kT.2.2.2.1 x x0 x1 l
        have n1 := IFm_ns hF kv (show 0 ≤ G0 (b + 1) x - 1000 by omega) F1
        subst hw
        obtain ⟨cP, hA'⟩ := hA'
        obtain ⟨N, hN⟩ : ∃ N, N = G0 (tvA B v + 5) (G0 (b + 1) x - 1000) := ⟨_, rfl⟩
        have lP : 1000 ≤ c P := by omega
        have nbs := nb_s c P
        rw [if_pos lP] at nbs
        have ddP := dd_s (G0 (tvA B v + 5)) c P
        rw [if_pos lP, cP, ← hN] at ddP
        rw [← hN] at n1
        rw [List.length_cons, show P + ((cat u (G0 (tvA B v + 5) (G0 (b + 1) x - 1000)).toNat).length + 1) = P + 1 + (cat u (G0 (tvA B v + 5) (G0 (b + 1) x - 1000)).toNat).length by omega]
        have mono := nb_mono c (show P + 1 ≤ P + 1 + (cat u (G0 (tvA B v + 5) (G0 (b + 1) x - 1000)).toNat).length by omega)
        have sr2 : SRC G0 G2 B ib := SRC_g fr2 (by omega)
        by_cases n4 : nb c P < 40
        · obtain ⟨G3, a1, a2, a3, a4, a5, a6, a7⟩ := b_blk (T := T) (nx := nx) (R := R) (m := 1) (it := ib) (b := b) (i := 92) hM (by omega) (by omega) ib0 (by omega) (by omega) hF tt x0 x1 l sr2 pr (by omega) n5 ht bs2 cP n4 W0 (by rw [← hN]; omega) w2
          have stp : BSt T nx R B 92 G G3 := t_nodeS hM (by omega) (by omega) W0 (by omega) h23 h22 s5 e1 (by omega) m3 a7
          rw [← hN] at a3 a6
          have fr3 : ACh G G3 B := ACh_tr (ACh_of pc1.1) (ACh_tr (ACh_m m1) (ACh_of a1))
          have key : ∀ m : Nat, (m : Int) ≤ N → KidW gt (G0 (tvA B v + 5)) (G0 (tvA B v + 6)) c (G0 (b + 1) x) it m P (P + 1 + (cat u m).length) ∧ ((nb c (P + 1 + (cat u m).length) ≤ 40 ∧ ∃ G', ACh G G' B ∧ SL5 G G' B W ∧ (∀ j : Nat, m ≤ j → (j : Int) < N → ST5 G' B (W + (N - 1 - j)) ib (pc (G0 (b + 1)) (G0 (b + 6)) (chI (G0 (b + 2)) x j)) (nb c P) j 1) ∧ G' (B + 544) 34 = d0 + csum du m ∧ G' (B + 544) 23 = W + (N - m) ∧ G' (B + 544) 22 = 0 ∧ BS (G0 (tvA B v + 5)) c G' B 92 v (P + 1 + (cat u m).length) ∧ BSt T nx R B 92 G G') ∨ (40 < nb c (P + 1 + (cat u m).length) ∧ ∃ G', ACh G G' B ∧ G' (B + 544) 22 = 1 ∧ (0 ≤ G' (B + 544) 23 ∧ G' (B + 544) 23 < 400) ∧ BSt T nx R B 92 G G')) := by
            intro m
            induction m with
            | zero =>
              intro _
              refine ⟨Kid0 (by rw [← hN]; exact n1.1) l cP ok pr (by omega), Or.inl ⟨by show nb c (P + 1) ≤ 40; omega, G3, fr3, SL5_tr l12 a2 (Int.le_refl _), fun j _ hj => a6 j hj, ?_, by rw [a3]; omega, by rw [a4, i2 _ (by omega) (by omega)]; exact h22, a5, stp⟩⟩
              have e0 : d0 + csum du 0 = d0 := by show d0 + 0 = d0; omega
              rw [e0, a1.2.1 _ (by omega) (by omega), i2 _ (by omega) (by omega)]
              exact h34
            | succ m ihm =>
              intro hm
              obtain ⟨kw, ihm⟩ := ihm (by omega)
              obtain ⟨rr', hr⟩ := cat_pre u (show m + 1 ≤ (G0 (tvA B v + 5) (G0 (b + 1) x - 1000)).toNat by omega)
              have hA2 := hA'
              rw [hr, At_app, cat_s, At_app] at hA2
              have q1' := cH m (by omega)
              have pw := (TW_pw kT fp k (chI (G0 (b + 2)) x m) _ (u m) (du m) (by omega) q1'.2.1 q1'.2.2.2.2 (hu m (by omega))).1
              have kwd := kw.2.1
              have kt := kw.2.2.1
              rw [← hN] at kwd kt
              have sw := pw_seg n0 _ _ _ _ pw hA2.1.2 kw.1 (by omega)
              have kw' := Kid_s (by omega) kw sw
              rw [cat_s, List.length_append, show P + 1 + ((cat u m).length + (u m).length) = P + 1 + (cat u m).length + (u m).length by omega]
              refine ⟨kw', ?_⟩
              have mo := nb_mono c (show P + 1 + (cat u m).length ≤ P + 1 + (cat u m).length + (u m).length by omega)
              rw [show N.toNat - m = (N.toNat - (m + 1)) + 1 by omega, tgN] at kt
              rcases ihm with ⟨z1, G4, z2, z3, z4, z10, z5, z6, z8, z9⟩ | ⟨z1, z2⟩
              · have j4 : ∀ j, ¬ j = 22 → ¬ j = 23 → ¬ j = 34 → ¬ j = 114 → G4 (B + 544) j = G (B + 544) j := z2.2.1
                rcases ih (chI (G0 (b + 2)) x m) _ (u m) (du m) (d0 + csum du m) _ G4 (W + (N - 1 - m)) (by omega) q1'.2.1 q1'.2.2.2.2 (hu m (by omega)) hA2.1.2 (by omega) (by omega) kw.1 z1 (ACg_tr fr (ACg_of z2)) (by rw [j4 _ (by omega) (by omega) (by omega) (by omega)]; exact h31) (by rw [j4 _ (by omega) (by omega) (by omega) (by omega)]; exact h32) (by rw [j4 _ (by omega) (by omega) (by omega) (by omega)]; exact h33) z10 (by rw [z5]; omega) z6 z8 (fun t' ht' => by
                  rw [kt, List.cons_append, List.getElem?_cons_zero] at ht'
                  injection ht' with ht'
                  subst ht'
                  exact z4 m (Nat.le_refl _) (by omega)) with ⟨t1, G5, t2, t3, t9, t4, t5, t7, t8⟩ | ⟨t1, G5, t2, t3, t4, t5⟩
                · exact Or.inl ⟨t1, G5, ACh_tr z2 t2, SL5_tr z3 t3 (by omega), fun j j0 j1 => ST5_lo t3 (by omega) (z4 j (by omega) j1), by rw [t9, csum_s, Int.add_assoc], by rw [t4]; omega, t5, t7, BSt_tr z9 t8⟩
                · exact Or.inr ⟨t1, G5, ACh_tr z2 t2, t3, t4, BSt_tr z9 t5⟩
              · exact Or.inr ⟨by omega, z2⟩
          obtain ⟨_, kk'⟩ := key N.toNat (by omega)
          rw [hN, ← hd] at kk'
          rcases kk' with ⟨z1, G4, z2, z3, z4, z10, z5, z6, z8, z9⟩ | q
          · exact Or.inl ⟨z1, G4, z2, z3, z10, by rw [z5]; omega, z6, z8, z9⟩
          · exact Or.inr q
        · have nd : G2 (B + 544 + 17) 92 = 40 := by rw [bs2.2.1]; omega
          have cF := b_blkF (T := T) (nx := nx) (R := R) (tn := tn) (ts := ts) (m := 1) (it := ib) (b := b) (i := 92) hM (by omega) (by omega) ib0 (by omega) (by omega) hF tt x0 x1 l sr2 nd
          have j3 : ACh G2 (gs G2 (B + 544) 22 1) B := ⟨fun x _ _ _ q => gs_ne q, fun j q _ _ _ => by rw [gs_eq, fu_ne q], fun j _ => ⟨RowE_of fun x q1 q2 => gs_ne (by omega), fun k _ _ => by rw [gs_ne (by omega)]⟩⟩
          refine Or.inr ⟨by omega, gs G2 (B + 544) 22 1, ACh_tr (ACh_of pc1.1) (ACh_tr (ACh_m m1) j3), gs_same _ _ _ _, by rw [gs_eq, fu_ne (by omega), w2]; omega, t_nodeS hM (by omega) (by omega) W0 (by omega) h23 h22 s5 e1 (by omega) m3 cF⟩
    · rcases f with ⟨hf, _⟩ | ⟨_, _, hw, hd⟩ | ⟨_, l', _⟩
      · exact absurd (fnode x hf) l
      · subst hw
        have epc : pc (G0 (b + 1)) (G0 (b + 6)) x = G0 (b + 1) x := if_neg l
        rw [epc] at s5
        obtain ⟨G', a1, a2, a3, a4, a5, a6⟩ := b_leafS (T := T) (nx := nx) (R := R) (m := 1) (i := 92) hM (by omega) (by omega) pr (by omega) n5 ht bs n40 hA'.1 (by omega) (by omega) (Or.inr (by omega)) (by omega) W0 (by omega) h23 h22 s5
        have nbs := nb_s c P
        rw [hA'.1, if_neg l] at nbs
        exact Or.inl ⟨by show nb c (P + 1) ≤ 40; omega, G', ACh_of a1, a2, by rw [a1.2.1 _ (by omega) (by omega), h34, hd, Int.add_zero], a3, a4, a5, a6⟩
      · exact absurd l' l
end
