section
/-! the class joins: piece by piece -/
/-- the class joins three pieces -/
theorem j_cls {T : Nat → Option q_T} {nx a b l r : Nat} {R : Nat → Nat → Option Value} {G0 : Nat → Int → Int} {c ns I : Int → Int} {h F v : Int} (hA : Ly T R a (L9 a)) (hB : Ly T R b (L9 b)) (hL : Ly T R l (L9 l)) (hR : Ly T R r (L9 r)) (hab : a + 10 ≤ b) (hal : a + 10 ≤ l) (har : a + 10 ≤ r) (kB : Tr h F ns I (G0 b 2) (G0 b 3) (G0 b 4) (G0 (b + 1)) (G0 (b + 2)) (G0 (b + 3)) (G0 (b + 4)) (G0 (b + 6)) (G0 (b + 7)) (G0 (b + 8))) (kL : Tr h F ns I (G0 l 2) (G0 l 3) (G0 l 4) (G0 (l + 1)) (G0 (l + 2)) (G0 (l + 3)) (G0 (l + 4)) (G0 (l + 6)) (G0 (l + 7)) (G0 (l + 8))) (kR : Tr h F ns I (G0 r 2) (G0 r 3) (G0 r 4) (G0 (r + 1)) (G0 (r + 2)) (G0 (r + 3)) (G0 (r + 4)) (G0 (r + 6)) (G0 (r + 7)) (G0 (r + 8))) (n0 : ∀ f, 0 ≤ f → f < F → 0 ≤ ns f) (n5 : ∀ q : Nat, 1000 ≤ c q → ns0 (c q) ns) (bB : ∀ q, 0 ≤ q → q < G0 b 2 → 20 ≤ G0 (b + 1) q ∧ G0 (b + 1) q ≤ 1013) (bL : ∀ q, 0 ≤ q → q < G0 l 2 → 20 ≤ G0 (l + 1) q ∧ G0 (l + 1) q ≤ 1013) (bR : ∀ q, 0 ≤ q → q < G0 r 2 → 20 ≤ G0 (r + 1) q ∧ G0 (r + 1) q ≤ 1013) : ∀ (k : Nat) (p q s : Int) (w : List Int) (d d0 x it : Int) (G : Nat → Int → Int) (P : Nat), 0 ≤ p → p < G0 b 2 → 0 ≤ q → q < G0 l 2 → 0 ≤ s → s < G0 r 2 → okc h it (G0 (b + 1) p) → okc h it (G0 (l + 1) q) → okc h it (G0 (r + 1) s) → JW ns (G0 (b + 1)) (G0 (b + 2)) (G0 (l + 1)) (G0 (l + 2)) (G0 (r + 1)) (G0 (r + 2)) k p q s w d → At c P w → CFr G0 G a → CB c G a v P → Pre ns c P → 1 ≤ dd ns c P → nb c P ≤ 40 → 0 ≤ x → x ≤ P →
    (nb c (P + w.length) ≤ 40 ∧ ∃ (x' : Int) (G' : Nat → Int → Int), CFr G0 G' a ∧ CB c G' a v (P + w.length) ∧ 0 ≤ x' ∧ x' ≤ P + w.length ∧ JSt T nx R b l r a d0 p q s x G (d0 + d) (G0 (b + 2) p) (G0 (l + 2) q) (G0 (r + 2) s) x' G') ∨ (40 < nb c (P + w.length) ∧ JFa T nx R b l r a d0 p q s x G) := by
  intro k
  induction k with
  | zero =>
    intro p q s w d d0 x it G P _ _ _ _ _ _ _ _ _ j
    exact j.elim
  | succ k ih =>
    intro p q s w d d0 x it G P p0 p1 q0 q1 s0 s1 ob ol orr j hA' fr cB pr dP n40 x0 xP
    have nB := kB.1.2.1
    have nB1 := kB.1.1
    have fp := kB.2.1 p p0 p1
    have fq := kL.2.1 q q0 q1
    have fs := kR.2.1 s s0 s1
    have room1 := dd_room (ns := ns) (c := c) (P := P) (fun q _ h => (n5 q h).2.2)
    have nL := kL.1.2.1
    have nR := kR.1.2.1
    -- a turn with a whole piece
    have seg : ∀ (w' : Int) (G' : Nat → Int → Int) (m : Nat), 1 ≤ m → CFr G G' a → ((w' = 1 ∧ nb c (P + m) ≤ 40 ∧ CB c G' a v (P + m)) ∨ (w' = 0 ∧ 40 < nb c (P + m))) → (∀ (Kn : List Value → q_M → Prop) (Kr : Option Value → q_M → Prop), q_wh wcX1_merge_0 wsX1_merge_0 [.ref b, .ref l, .ref r, .ref a, .int (zI (d0 + d)), .int (zI (G0 (b + 2) p)), .int (zI (G0 (l + 2) q)), .int (zI (G0 (r + 2) s)), .int (zI w'), .int (zI (x + 1))] (st T nx 0 0 R G') Kn Kr → q_wh wcX1_merge_0 wsX1_merge_0 [.ref b, .ref l, .ref r, .ref a, .int (zI d0), .int (zI p), .int (zI q), .int (zI s), .int (zI 1), .int (zI x)] (st T nx 0 0 R G) Kn Kr) → (nb c (P + m) ≤ 40 ∧ ∃ (x' : Int) (G' : Nat → Int → Int), CFr G0 G' a ∧ CB c G' a v (P + m) ∧ 0 ≤ x' ∧ x' ≤ P + m ∧ JSt T nx R b l r a d0 p q s x G (d0 + d) (G0 (b + 2) p) (G0 (l + 2) q) (G0 (r + 2) s) x' G') ∨ (40 < nb c (P + m) ∧ JFa T nx R b l r a d0 p q s x G) := fun w' G' m m1 f1 f2 f3 => by
      rcases f2 with ⟨z1, z2, z3⟩ | ⟨z1, z2⟩
      · subst z1
        exact Or.inl ⟨z2, x + 1, G', CFr_tr fr f1, z3, by omega, by omega, f3⟩
      · subst z1
        refine Or.inr ⟨z2, _, _, _, _, _, G', f1, fun Kn Kr hh => f3 Kn Kr (j_out hB (by omega) (by omega) ?_ Kn Kr hh)⟩
        rw [(CFr_tr fr f1).1 _ (by omega) (by omega)]
        omega
    rcases j with ⟨g1, hw, hd⟩ | ⟨g1, g2, hw, hd⟩ | ⟨g1, g2, g3, g4, hw, hd⟩ | ⟨g1, g2, g3, g4, u, du, hw, hd, hu⟩
    · subst hw
      obtain ⟨G', w', f1, f2, f3⟩ := c9_addAll (T := T) (nx := nx) (rc := 0) (rs := 0) (R := R) hA hR (Or.inr har) kR n0 n5 bR fr cB s0 s1 hA' orr pr dP n40
      rw [sgL_len]
      exact seg w' G' _ (by omega) f1 f2 (j_turnS (T := T) (nx := nx) (R := R) hA hB hL hR hab hal har kB kL kR n0 n5 bB bL bR p0 p1 q0 q1 s0 s1 x0 (by omega) fr (CFr_tr fr f1) (Or.inl ⟨g1, by omega, f3⟩))
    · subst hw
      obtain ⟨G', w', f1, f2, f3⟩ := c9_addAll (T := T) (nx := nx) (rc := 0) (rs := 0) (R := R) hA hL (Or.inr hal) kL n0 n5 bL fr cB q0 q1 hA' ol pr dP n40
      rw [sgL_len]
      exact seg w' G' _ (by omega) f1 f2 (j_turnS (T := T) (nx := nx) (R := R) hA hB hL hR hab hal har kB kL kR n0 n5 bB bL bR p0 p1 q0 q1 s0 s1 x0 (by omega) fr (CFr_tr fr f1) (Or.inr (Or.inl ⟨g1, g2, by omega, f3⟩)))
    · subst hw
      obtain ⟨G', w', f1, f2, f3⟩ := c9_addAll (T := T) (nx := nx) (rc := 0) (rs := 0) (R := R) hA hB (Or.inr hab) kB n0 n5 bB fr cB p0 p1 hA' ob pr dP n40
      rw [sgL_len]
      exact seg w' G' _ (by omega) f1 f2 (j_turnS (T := T) (nx := nx) (R := R) hA hB hL hR hab hal har kB kL kR n0 n5 bB bL bR p0 p1 q0 q1 s0 s1 x0 (by omega) fr (CFr_tr fr f1) (Or.inr (Or.inr ⟨g1, g2, g3, g4, by omega, f3⟩)))
    · have l' := JW_node kB kL kR n0 p0 p1 q0 q1 (s := s) g1 g4.1
      have FB := kB.2.2.2.1 p p0 p1 l'
      have FL := kL.2.2.2.1 q q0 q1 (by omega)
      have FR' := kR.2.2.2.1 s s0 s1 (by omega)
      rw [← g4.1] at FL
      rw [← g4.2] at FR'
      have n1 := n0 (G0 (b + 1) p - 1000) (by omega) FB.1
      subst hw
      obtain ⟨cP, hA'⟩ := hA'
      have bd := bB p p0 p1
      obtain ⟨G1, w', f1, f2, f3⟩ := c9_add (T := T) (nx := nx) (rc := 0) (rs := 0) (R := R) hA cB cP (by omega) (by omega) n40
      have tn := j_turnN (T := T) (nx := nx) (R := R) (d := d0) (x := x) hA hB hL hR hab hal har kB kL kR n0 n5 bB bL bR p0 p1 q0 q1 s0 s1 x0 (by omega) fr g1 g2 g3 g4 f3
      rw [List.length_cons, show P + ((cat u (ns (G0 (b + 1) p - 1000)).toNat).length + 1) = P + 1 + (cat u (ns (G0 (b + 1) p - 1000)).toNat).length by omega]
      have mono := nb_mono c (show P + 1 ≤ P + 1 + (cat u (ns (G0 (b + 1) p - 1000)).toNat).length by omega)
      rcases f2 with ⟨z1, z2, z3⟩ | ⟨z1, z2⟩
      · subst z1
        have key : ∀ m : Nat, (m : Int) ≤ ns (G0 (b + 1) p - 1000) → KidW h ns I c (G0 (b + 1) p) it m P (P + 1 + (cat u m).length) ∧ ((nb c (P + 1 + (cat u m).length) ≤ 40 ∧ ∃ (x' : Int) (G' : Nat → Int → Int), CFr G0 G' a ∧ CB c G' a v (P + 1 + (cat u m).length) ∧ 0 ≤ x' ∧ x' ≤ (P + 1 + (cat u m).length : Nat) ∧ JSt T nx R b l r a d0 p q s x G (d0 + csum du m) (chI (G0 (b + 2)) p m) (chI (G0 (l + 2)) q m) (chI (G0 (r + 2)) s m) x' G') ∨ (40 < nb c (P + 1 + (cat u m).length) ∧ JFa T nx R b l r a d0 p q s x G)) := by
          intro m
          induction m with
          | zero =>
            intro _
            refine ⟨Kid0 n1 l' cP ob pr dP, Or.inl ⟨z2, x + 1, G1, CFr_tr fr f1, z3, by omega, ?_, ?_⟩⟩
            · show x + 1 ≤ ((P + 1 : Nat) : Int)
              omega
            · have e0 : d0 + csum du 0 = d0 := by show d0 + 0 = d0; omega
              rw [e0]
              exact tn
          | succ m ihm =>
            intro hm
            obtain ⟨kw, ihm⟩ := ihm (by omega)
            obtain ⟨rr, hr⟩ := cat_pre u (show m + 1 ≤ (ns (G0 (b + 1) p - 1000)).toNat by omega)
            have hA2 := hA'
            rw [hr, At_app, cat_s, At_app] at hA2
            have a1 := FB.2.2 m (by omega)
            have a2 := FL.2.2 m (by omega)
            have a3 := FR'.2.2 m (by omega)
            have pw := JW_pw kB kL kR n0 _ _ _ _ _ _ _ (by omega) a1.2.1 (by omega) a2.2.1 (by omega) a3.2.1 a1.2.2.2.2 a2.2.2.2.2 a3.2.2.2.2 (hu m (by omega))
            have kwd := kw.2.1
            have sw := pw_seg n0 _ _ _ _ pw.1 hA2.1.2 kw.1 (by omega)
            have kw' := Kid_s (by omega) kw sw
            rw [cat_s, List.length_append, show P + 1 + ((cat u m).length + (u m).length) = P + 1 + (cat u m).length + (u m).length by omega]
            refine ⟨kw', ?_⟩
            have mo := nb_mono c (show P + 1 + (cat u m).length ≤ P + 1 + (cat u m).length + (u m).length by omega)
            rcases ihm with ⟨y1, x', G2, y2, y3, y4, y5, y6⟩ | ⟨y1, y2⟩
            · rcases ih (chI (G0 (b + 2)) p m) (chI (G0 (l + 2)) q m) (chI (G0 (r + 2)) s m) (u m) (du m) (d0 + csum du m) x' _ G2 _ (by omega) a1.2.1 (by omega) a2.2.1 (by omega) a3.2.1 a1.2.2.2.2 a2.2.2.2.2 a3.2.2.2.2 (hu m (by omega)) hA2.1.2 y2 y3 kw.1 (by omega) y1 y4 y5 with ⟨t1, x2, G3, t2, t3, t4, t5, t6⟩ | ⟨t1, t2⟩
              · refine Or.inl ⟨t1, x2, G3, t2, t3, t4, by omega, ?_⟩
                rw [csum_s, ← Int.add_assoc]
                exact JSt_tr y6 t6
              · refine Or.inr ⟨t1, ?_⟩
                obtain ⟨d', p', q', s', x'', G', k1, k2⟩ := t2
                refine ⟨d', p', q', s', x'', G', ?_, fun Kn Kr z => y6 Kn Kr (k2 Kn Kr z)⟩
                refine ⟨fun y w1 w2 => by rw [k1.1 y w1 w2, y2.1 y w1 w2, fr.1 y w1 w2], fun j w1 w2 w3 => by rw [k1.2 j w1 w2 w3, y2.2 j w1 w2 w3, fr.2 j w1 w2 w3]⟩
            · exact Or.inr ⟨by omega, y2⟩
        obtain ⟨_, kk⟩ := key (ns (G0 (b + 1) p - 1000)).toNat (by omega)
        rw [FB.2.1, FL.2.1, FR'.2.1, ← hd] at kk
        rcases kk with ⟨y1, x', G2, y2, y3, y4, y5, y6⟩ | ⟨y1, y2⟩
        · exact Or.inl ⟨y1, x', G2, y2, y3, y4, by omega, y6⟩
        · exact Or.inr ⟨y1, y2⟩
      · subst z1
        refine Or.inr ⟨by omega, _, _, _, _, _, G1, f1, fun Kn Kr hh => tn Kn Kr (j_out hB (by omega) (by omega) ?_ Kn Kr hh)⟩
        rw [(CFr_tr fr f1).1 _ (by omega) (by omega)]
        omega
end
