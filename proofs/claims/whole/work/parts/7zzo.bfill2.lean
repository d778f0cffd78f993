section
/-! the reference puts in a side with what its holes stand for: piece by piece -/
theorem b_fill {T : Nat → Option q_T} {nx B b z : Nat} {R : Nat → Nat → Option Value} {G0 : Nat → Int → Int} {g gz i it iz v : Int} {S : Int → Int → Prop} (hM : Ly T R (B + 544) (L12 (B + 544))) (i0 : 0 ≤ i) (i1 : i < 100) (it0 : 0 ≤ it) (it1 : it < 100) (iti : ¬ it = i) (iz0 : 0 ≤ iz) (iz1 : iz < 100) (izi : ¬ iz = i) (hF : IFm G0 B) (tk : TOK G0 B g it v b) (tz : TOK G0 B gz iz v z) (cb : ∀ q, 0 ≤ q → q < G0 b 2 → 20 ≤ G0 (b + 1) q ∧ G0 (b + 1) q ≤ 1013) (cz : ∀ q, 0 ≤ q → q < G0 z 2 → 20 ≤ G0 (z + 1) q ∧ G0 (z + 1) q ≤ 1013) (lz : ∀ y, 0 ≤ y → y < G0 z 2 → ¬ 1000 ≤ G0 (z + 1) y → isLf (G0 (z + 1) y)) (sb : ∀ h x, S h x → 0 ≤ x ∧ x < G0 b 2) (con : Con (G0 (b + 1)) (G0 (b + 2)) S) (kk : ∀ y, 0 < y → y < G0 z 2 → isHo (G0 (z + 1) y) → ∀ x, S (G0 (z + 1) y - 200) x → okc g (G0 (tvA B v + 6) (5 * (G0 (z + 1) (G0 (z + 3) y) - 1000) + G0 (z + 4) y)) (G0 (b + 1) x)) {c : Int → Int} (n5 : ∀ q : Nat, 1000 ≤ c q → ns0 (c q) (G0 (tvA B v + 5))) : ∀ (k : Nat) (y it' : Int) (w : List Int) (P : Nat) (G : Nat → Int → Int) (W : Int), 0 ≤ y → y < G0 z 2 → okc gz it' (G0 (z + 1) y) ∨ isHo (G0 (z + 1) y) → (isHo (G0 (z + 1) y) → ∀ x, S (G0 (z + 1) y - 200) x → okc g it' (G0 (b + 1) x)) → FW (G0 (tvA B v + 5)) (G0 (z + 1)) (G0 (z + 2)) (G0 (b + 1)) (G0 (b + 2)) S k y w → At c P w → 0 ≤ W → W + 1 ≤ dd (G0 (tvA B v + 5)) c P → Pre (G0 (tvA B v + 5)) c P → nb c P ≤ 40 → SRC G0 G B it → SRC G0 G B iz → SGr G B it (G0 b 2) (pc (G0 (b + 1)) (G0 (b + 6))) S → G (B + 544) 23 = W + 1 → G (B + 544) 22 = 0 → BS (G0 (tvA B v + 5)) c G B i v P → (∀ t, (tgS (G0 (tvA B v + 5)) c P)[0]? = some t → ST5 G B W iz (pc (G0 (z + 1)) (G0 (z + 6)) y) t.1 t.2 2) →
    (nb c (P + w.length) ≤ 40 ∧ ∃ G', BCh G G' B i ∧ SL5 G G' B W ∧ G' (B + 544) 23 = W ∧ G' (B + 544) 22 = 0 ∧ BS (G0 (tvA B v + 5)) c G' B i v (P + w.length) ∧ BSt T nx R B i G G') ∨ (40 < nb c (P + w.length) ∧ ∃ G', BCh G G' B i ∧ G' (B + 544) 22 = 1 ∧ (0 ≤ G' (B + 544) 23 ∧ G' (B + 544) 23 < 400) ∧ BSt T nx R B i G G') := by
  have tkb := TOK_b tk
  have tzb := TOK_b tz
  have kT := tk.2.2.2.1
  have kZ := tz.2.2.2.1
  have kv := tk.2.2.1
  have hn0 : ∀ f, 0 ≤ f → f < G0 (tvA B v) 1 → 0 ≤ G0 (tvA B v + 5) f := fun f f0 f1 => (IFm_ns hF kv f0 f1).1
  intro k
  induction k with
  | zero => intro y it' w P G W _ _ _ _ f; exact f.elim
  | succ k ih =>
    intro y it' w P G W y0 y1 ok hk f hA' W0 Wd pr n40 srT srZ sgr h23 h22 bs hst
    have ey := kZ.2.1 y y0 y1
    have n5' : ∀ q : Nat, q < P → 1000 ≤ c q → G0 (tvA B v + 5) (c q - 1000) ≤ 5 := fun q _ h => (n5 q h).2.2
    have room := dd_room n5'
    obtain ⟨⟨tn, ts⟩, ht, hts⟩ := tg_some pr (by omega)
    have s5 : ST5 G B W iz (pc (G0 (z + 1)) (G0 (z + 6)) y) tn ts 2 := hst _ ht
    have cbz := cz y y0 y1
    have tb : -1 ≤ tn ∧ tn < 40 ∧ 0 ≤ ts ∧ ts < 5 := by
      rcases tg_b pr n5' ht with ⟨_, q⟩ | ⟨_, z1, z2, z3, z4⟩
      · injection q with z1 z2
        omega
      · have z1 : 0 ≤ tn := z1
        have z2 : tn < nb c P := z2
        have z3 : 0 ≤ ts := z3
        have z4 : ts < 5 := z4
        omega
    rcases f with ⟨hh, x, hx, hw⟩ | ⟨hh, l, hw⟩ | ⟨l, u, hw, hu⟩
    · subst hw
      have l : ¬ 1000 ≤ G0 (z + 1) y := by unfold isHo at hh; omega
      have ll := lz y y0 y1 l
      have hb : 200 ≤ G0 (z + 1) y ∧ G0 (z + 1) y < 216 := by unfold isLf at ll; unfold isHo at hh; omega
      have epc : pc (G0 (z + 1)) (G0 (z + 6)) y = G0 (z + 1) y := if_neg l
      rw [epc] at s5
      obtain ⟨q1, x', q2, q3⟩ := (sgr.2 (G0 (z + 1) y - 200) (by omega) (by omega)).resolve_left (fun w => w.2 x hx)
      have sm := con _ _ _ hx q2
      have bx := sb _ _ hx
      have bx' := sb _ _ q2
      have exx := kT.2.1 x bx.1 bx.2
      have e1 := sm.1
      have ew : sgL (G0 (b + 1)) x (G0 (b + 2) x - x).toNat = sgL (G0 (b + 1)) x' (G0 (b + 2) x' - x').toNat := by
        rw [← e1]
        exact sgL_cong fun z z0 z1 => sm.2 z z0 (by omega)
      rw [ew] at hA' ⊢
      rw [sgL_len]
      obtain ⟨G1, a1, a2, a3, a4, a5, a6, a7⟩ := b_holeS (T := T) (nx := nx) (R := R) (i := i) hM hb.1 hb.2 W0 (by omega) h23 h22 s5 q1 q3
      have ag := At_sg hA'
      have exx' := kT.2.1 x' bx'.1 bx'.2
      rcases b_piece (T := T) (nx := nx) (R := R) (c := c) hM i0 i1 it0 it1 iti hF tk cb n5 (G0 (b + 2) x' - x').toNat x' P (P + (G0 (b + 2) x' - x').toNat) G1 W bx'.1 bx'.2 (by omega) W0 Wd (fun z z0 z1 => ag z z0 (by omega)) (by omega) pr n40 (SRC_tr srT a1 iti) a3 a4 (BS_congr (fun x q1 q2 => a5 x q1 (by omega)) bs) (fun t ht' => by
        rw [ht] at ht'
        injection ht' with ht'
        subst ht'
        exact a6) with ⟨v1, G4, v2, v3, v4, v5, v6, v7⟩ | ⟨v1, G4, v2, v3, v4, v5⟩
      · exact Or.inl ⟨v1, G4, BCh_tr a1 v2, SL5_tr a2 v3 (Int.le_refl _), v4, v5, v6, BSt_tr a7 v7⟩
      · exact Or.inr ⟨v1, G4, BCh_tr a1 v2, v3, v4, BSt_tr a7 v5⟩
    · subst hw
      have epc : pc (G0 (z + 1)) (G0 (z + 6)) y = G0 (z + 1) y := if_neg l
      rw [epc] at s5
      obtain ⟨G', a1, a2, a3, a4, a5, a6⟩ := b_leafS (T := T) (nx := nx) (R := R) (m := 2) hM i0 i1 pr (by omega) n5 ht bs n40 hA'.1 (by omega) (by omega) (Or.inl (by unfold isHo at hh; omega)) (by omega) W0 (by omega) h23 h22 s5
      have nbs := nb_s c P
      rw [hA'.1, if_neg l] at nbs
      exact Or.inl ⟨by show nb c (P + 1) ≤ 40; omega, G', a1, a2, a3, a4, a5, a6⟩
    · have hh : ¬ isHo (G0 (z + 1) y) := by unfold isHo; omega
      obtain ⟨F1, cE, cH⟩ := kZ.2.2.2.1 y y0 y1 l
      have n1 := IFm_ns hF kv (show 0 ≤ G0 (z + 1) y - 1000 by omega) F1
      have ok' : okc g it' (G0 (z + 1) y) := by
        have o := ok.resolve_right hh
        unfold okc at o ⊢
        omega
      subst hw
      obtain ⟨cP, hA'⟩ := hA'
      have rp := Tr_n kZ y0 y1 l
      have epc : pc (G0 (z + 1)) (G0 (z + 6)) y = 1000 + G0 (z + 6) y := if_pos l
      rw [epc] at s5
      obtain ⟨G1, e1⟩ : ∃ M, M = gs G (B + 544) 23 W := ⟨_, rfl⟩
      have pc1 := pop_ch G B i W W
      rw [← e1] at pc1
      have srZ1 := SRC_tr srZ pc1.1 izi
      have w1 : G1 (B + 544) 23 = W := by rw [e1]; exact gs_same _ _ _ _
      have w2 : G1 (B + 544) 22 = 0 := by rw [e1, gs_eq, fu_ne (by omega)]; exact h22
      have o1 : ∀ x, ¬ x = B + 544 → G1 x = G x := fun x q => by rw [e1, gs_ne q]
      have bs1 : BS (G0 (tvA B v + 5)) c G1 B i v P := BS_congr (fun x a b => o1 x (by omega)) bs
      obtain ⟨N, hN⟩ : ∃ N, N = G0 (tvA B v + 5) (G0 (z + 1) y - 1000) := ⟨_, rfl⟩
      have lP : 1000 ≤ c P := by omega
      have nbs := nb_s c P
      rw [if_pos lP] at nbs
      have ddP := dd_s (G0 (tvA B v + 5)) c P
      rw [if_pos lP, cP, ← hN] at ddP
      rw [← hN] at n1
      rw [List.length_cons, show P + ((cat u (G0 (tvA B v + 5) (G0 (z + 1) y - 1000)).toNat).length + 1) = P + 1 + (cat u (G0 (tvA B v + 5) (G0 (z + 1) y - 1000)).toNat).length by omega]
      have mono := nb_mono c (show P + 1 ≤ P + 1 + (cat u (G0 (tvA B v + 5) (G0 (z + 1) y - 1000)).toNat).length by omega)
      by_cases n4 : nb c P < 40
      · obtain ⟨G2, a1, a2, a3, a4, a5, a6, a7⟩ := b_blk (T := T) (nx := nx) (R := R) (m := 2) (it := iz) (b := z) hM i0 i1 iz0 iz1 izi hF tz y0 y1 l srZ1 pr (by omega) n5 ht bs1 cP n4 W0 (by rw [← hN]; omega) w1
        have stp : BSt T nx R B i G G2 := b_nodeT hM (by omega) (by omega) (Or.inr rfl) W0 (by omega) h23 h22 s5 e1 (by omega) a7
        rw [← hN] at a3 a6
        have key : ∀ m : Nat, (m : Int) ≤ N → KidW g (G0 (tvA B v + 5)) (G0 (tvA B v + 6)) c (G0 (z + 1) y) it' m P (P + 1 + (cat u m).length) ∧ ((nb c (P + 1 + (cat u m).length) ≤ 40 ∧ ∃ G', BCh G G' B i ∧ SL5 G G' B W ∧ (∀ j : Nat, m ≤ j → (j : Int) < N → ST5 G' B (W + (N - 1 - j)) iz (pc (G0 (z + 1)) (G0 (z + 6)) (chI (G0 (z + 2)) y j)) (nb c P) j 2) ∧ G' (B + 544) 23 = W + (N - m) ∧ G' (B + 544) 22 = 0 ∧ BS (G0 (tvA B v + 5)) c G' B i v (P + 1 + (cat u m).length) ∧ BSt T nx R B i G G') ∨ (40 < nb c (P + 1 + (cat u m).length) ∧ ∃ G', BCh G G' B i ∧ G' (B + 544) 22 = 1 ∧ (0 ≤ G' (B + 544) 23 ∧ G' (B + 544) 23 < 400) ∧ BSt T nx R B i G G')) := by
          intro m
          induction m with
          | zero =>
            intro _
            refine ⟨Kid0 (by rw [← hN]; exact n1.1) l cP ok' pr (by omega), Or.inl ⟨by show nb c (P + 1) ≤ 40; omega, G2, BCh_tr pc1.1 a1, SL5_tr pc1.2 a2 (Int.le_refl _), fun j _ hj => a6 j hj, by rw [a3]; omega, by rw [a4]; exact w2, a5, stp⟩⟩
          | succ m ihm =>
            intro hm
            obtain ⟨kw, ihm⟩ := ihm (by omega)
            obtain ⟨rr', hr⟩ := cat_pre u (show m + 1 ≤ (G0 (tvA B v + 5) (G0 (z + 1) y - 1000)).toNat by omega)
            have hA2 := hA'
            rw [hr, At_app, cat_s, At_app] at hA2
            have q1' := cH m (by omega)
            have hk1 : isHo (G0 (z + 1) (chI (G0 (z + 2)) y m)) → ∀ x, S (G0 (z + 1) (chI (G0 (z + 2)) y m) - 200) x → okc g (G0 (tvA B v + 6) (5 * (G0 (z + 1) y - 1000) + m)) (G0 (b + 1) x) := fun h x hx => by
              have := kk (chI (G0 (z + 2)) y m) (by omega) q1'.2.1 h x hx
              rw [q1'.2.2.1, q1'.2.2.2.1] at this
              exact this
            have pw := FW_pw kZ kT hn0 sb lz kk k (chI (G0 (z + 2)) y m) _ (u m) (by omega) q1'.2.1 (Or.inl q1'.2.2.2.2) hk1 (hu m (by omega))
            have kwd := kw.2.1
            have kt := kw.2.2.1
            rw [← hN] at kwd kt
            have sw := pw_seg hn0 _ _ _ _ pw hA2.1.2 kw.1 (by omega)
            have kw' := Kid_s (by omega) kw sw
            rw [cat_s, List.length_append, show P + 1 + ((cat u m).length + (u m).length) = P + 1 + (cat u m).length + (u m).length by omega]
            refine ⟨kw', ?_⟩
            have mo := nb_mono c (show P + 1 + (cat u m).length ≤ P + 1 + (cat u m).length + (u m).length by omega)
            rw [show N.toNat - m = (N.toNat - (m + 1)) + 1 by omega, tgN] at kt
            rcases ihm with ⟨z1, G4, z2, z3, z4, z5, z6, z8, z9⟩ | ⟨z1, z2⟩
            · have sgr4 : SGr G4 B it (G0 b 2) (pc (G0 (b + 1)) (G0 (b + 6))) S := ⟨sgr.1, fun h h0 h1 => by
                rw [z2.1 _ (by omega) (by omega), z2.1 (B + 544 + 29) (by omega) (by omega)]
                exact sgr.2 h h0 h1⟩
              rcases ih (chI (G0 (z + 2)) y m) _ (u m) _ G4 (W + (N - 1 - m)) (by omega) q1'.2.1 (Or.inl q1'.2.2.2.2) hk1 (hu m (by omega)) hA2.1.2 (by omega) (by omega) kw.1 z1 (SRC_tr srT z2 iti) (SRC_tr srZ z2 izi) sgr4 (by rw [z5]; omega) z6 z8 (fun t' ht' => by
                rw [kt, List.cons_append, List.getElem?_cons_zero] at ht'
                injection ht' with ht'
                subst ht'
                exact z4 m (Nat.le_refl _) (by omega)) with ⟨t1, G5, t2, t3, t4, t5, t7, t8⟩ | ⟨t1, G5, t2, t3, t4, t5⟩
              · exact Or.inl ⟨t1, G5, BCh_tr z2 t2, SL5_tr z3 t3 (by omega), fun j j0 j1 => ST5_lo t3 (by omega) (z4 j (by omega) j1), by rw [t4]; omega, t5, t7, BSt_tr z9 t8⟩
              · exact Or.inr ⟨t1, G5, BCh_tr z2 t2, t3, t4, BSt_tr z9 t5⟩
            · exact Or.inr ⟨by omega, z2⟩
        obtain ⟨_, kk'⟩ := key N.toNat (by omega)
        rw [hN] at kk'
        rcases kk' with ⟨z1, G4, z2, z3, z4, z5, z6, z8, z9⟩ | q
        · exact Or.inl ⟨z1, G4, z2, z3, by rw [z5]; omega, z6, z8, z9⟩
        · exact Or.inr q
      · have nd : G1 (B + 544 + 17) i = 40 := by rw [bs1.2.1]; omega
        have cF := b_blkF (T := T) (nx := nx) (R := R) (tn := tn) (ts := ts) (m := 2) (it := iz) (b := z) hM i0 i1 iz0 iz1 izi hF tz y0 y1 l srZ1 nd
        refine Or.inr ⟨by omega, gs G1 (B + 544) 22 1, BCh_tr pc1.1 ⟨fun x _ q => gs_ne q, fun j q _ => by rw [gs_eq, fu_ne q], fun j _ => ⟨by rw [gs_ne (by omega)], by rw [gs_ne (by omega)], by rw [gs_ne (by omega)]⟩, fun j _ => ⟨by rw [gs_ne (by omega)], by rw [gs_ne (by omega)], by rw [gs_ne (by omega)]⟩, fun j _ => by rw [gs_ne (by omega)]⟩, gs_same _ _ _ _, by rw [gs_eq, fu_ne (by omega), w1]; omega, b_nodeT hM (by omega) (by omega) (Or.inr rfl) W0 (by omega) h23 h22 s5 e1 (by omega) cF⟩
end
