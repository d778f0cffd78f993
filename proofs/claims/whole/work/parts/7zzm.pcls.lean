section
/-! the class turns a tree: piece by piece -/
theorem p_cls {T : Nat → Option q_T} {nx B b : Nat} {R : Nat → Nat → Option Value} {G0 : Nat → Int → Int} {tu gt ib v : Int} (oT : Ly T R (B + 59) (L10 (B + 59))) (hA : Ly T R (B + 5) (L9 (B + 5))) (hB : Ly T R b (L9 b)) (o8 : Ly T R (tvA B v) (L8 (tvA B v))) (tk : TUK G0 B tu gt ib v b) {c : Int → Int} (n5 : ∀ q : Nat, 1000 ≤ c q → ns0 (c q) (G0 (tvA B v + 5))) : ∀ (k : Nat) (x it : Int) (w : List Int) (d d0 s : Int) (G : Nat → Int → Int) (P : Nat), 0 ≤ x → x < G0 b 2 → okc gt it (G0 (b + 1) x) → TW (fun x => FitC G0 (tvA B v) (B + 250 + 20 * tu.toNat) b x) (fun x w => FW (G0 (tvA B v + 5)) (G0 (B + 260 + 20 * tu.toNat + 1)) (G0 (B + 260 + 20 * tu.toNat + 2)) (G0 (b + 1)) (G0 (b + 2)) (hlM (G0 (tvA B v + 5)) (G0 (B + 250 + 20 * tu.toNat + 1)) (G0 (B + 250 + 20 * tu.toNat + 2)) (G0 (b + 1)) (G0 (b + 2)) 202 0 x) 202 0 w) (G0 (tvA B v + 5)) (G0 (b + 1)) (G0 (b + 2)) k x w d → At c P w → PFr G0 G B → CB c G (B + 5) v P → Pre (G0 (tvA B v + 5)) c P → 1 ≤ dd (G0 (tvA B v + 5)) c P → nb c P ≤ 40 → 0 ≤ s → s ≤ P →
    (nb c (P + w.length) ≤ 40 ∧ ∃ (s' : Int) (G' : Nat → Int → Int), PFr G0 G' B ∧ CB c G' (B + 5) v (P + w.length) ∧ 0 ≤ s' ∧ s' ≤ P + w.length ∧ PSt T nx R B b tu v d0 x s G (d0 + d) (G0 (b + 2) x) 1 s' G') ∨ (40 < nb c (P + w.length) ∧ ∃ (d' p' s' : Int) (G' : Nat → Int → Int), PFr G0 G' B ∧ (0 ≤ p' ∧ p' < 1000) ∧ (0 ≤ s' ∧ s' < 1000) ∧ PSt T nx R B b tu v d0 x s G d' p' 0 s' G') := by
  have tk' := tk
  obtain ⟨tu0, hF, ta, tz, aN, tt, hb, ca, cz, ct, la, lz, tie⟩ := tk'
  have kv := ta.2.2.1
  have kT := tt.2.2.2.1
  have kZ := tz.2.2.2.1
  have tvb : B + 370 ≤ tvA B v ∧ tvA B v + 14 ≤ B + 398 := by unfold tvA; omega
  have n0 : ∀ f, 0 ≤ f → f < G0 (tvA B v) 1 → 0 ≤ G0 (tvA B v + 5) f := fun f f0 f1 => (IFm_ns hF kv f0 f1).1
  have oz : Ly T R (B + 260 + 20 * tu.toNat) (L9 (B + 260 + 20 * tu.toNat)) := by
    have := o10_5 oT (i := 2 * tu.toNat + 1) (by omega)
    rw [show B + 59 + 191 + 10 * (2 * tu.toNat + 1) = B + 260 + 20 * tu.toNat by omega] at this
    exact this
  have fp : ∀ x it w, 0 ≤ x → x < G0 b 2 → okc gt it (G0 (b + 1) x) → FitC G0 (tvA B v) (B + 250 + 20 * tu.toNat) b x → FW (G0 (tvA B v + 5)) (G0 (B + 260 + 20 * tu.toNat + 1)) (G0 (B + 260 + 20 * tu.toNat + 2)) (G0 (b + 1)) (G0 (b + 2)) (hlM (G0 (tvA B v + 5)) (G0 (B + 250 + 20 * tu.toNat + 1)) (G0 (B + 250 + 20 * tu.toNat + 2)) (G0 (b + 1)) (G0 (b + 2)) 202 0 x) 202 0 w → PW gt (G0 (tvA B v) 1) (G0 (tvA B v + 5)) (G0 (tvA B v + 6)) 404 it w := fun x it w x0 x1 o fit fl => by
    obtain ⟨h1, h2, h3, h4, h5⟩ := tuk_kk tk x0 x1 fit
    exact FW_pw kZ kT n0 h1 lz h2 202 0 it w (Int.le_refl _) (by have := kZ.1.1; omega) (h4 it o) (h3 it o) fl
  intro k
  induction k with
  | zero => intro x it w d d0 s G P _ _ _ f; exact f.elim
  | succ k ih =>
    intro x it w d d0 s G P x0 x1 ok f hA' fr cB pr dP n40 s0 s1
    have ex := kT.2.1 x x0 x1
    have nT := kT.1.2.1
    have room := dd_room (ns := G0 (tvA B v + 5)) (c := c) (P := P) (fun q _ h => (n5 q h).2.2)
    obtain ⟨G1, r, m1, m2, m3⟩ := p_match (T := T) (nx := nx) (R := R) oT hA hB o8 tk x0 x1 fr
    have fr1 : PFr G0 G1 B := ⟨fun y q1 q2 q3 => by rw [m1 y q3, fr.1 y q1 q2 q3], fun j q1 q2 q3 => by rw [m1 _ (by omega), fr.2 j q1 q2 q3]⟩
    have cB1 : CB c G1 (B + 5) v P := by
      unfold CB
      rw [m1 (B + 5) (by omega), m1 (B + 5 + 1) (by omega)]
      exact cB
    have r1 : ∀ y, B + 15 ≤ y → ¬ y = B + 66 → G1 y = G0 y := fun y q1 q2 => fr1.1 y (by omega) (by omega) q2
    have cbx := ct x x0 x1
    rcases f with ⟨hf, hw, hd⟩ | ⟨hf, l, hw, hd⟩ | ⟨hf, l, u, du, hw, hd, hu⟩
    · have m2' := m2.resolve_right (fun z => z.2 hf)
      obtain ⟨rr, _, sg⟩ := m2'
      subst rr
      obtain ⟨h1, h2, h3, h4, h5⟩ := tuk_kk tk x0 x1 hf
      have zr : ∀ j, j < 9 → G1 (B + 260 + 20 * tu.toNat + j) = G0 (B + 260 + 20 * tu.toNat + j) := fun j q => r1 _ (by omega) (by omega)
      have z0 : G1 (B + 260 + 20 * tu.toNat) = G0 (B + 260 + 20 * tu.toNat) := r1 _ (by omega) (by omega)
      have b0 : G1 b = G0 b := r1 _ (by omega) (by omega)
      have b1 : G1 (b + 1) = G0 (b + 1) := r1 _ (by omega) (by omega)
      have b2 : G1 (b + 2) = G0 (b + 2) := r1 _ (by omega) (by omega)
      obtain ⟨G2, y, f1, f2, f3⟩ := c10_addFilled (T := T) (nx := nx) (R := R) (G0 := G1) (o := B + 59) (z := B + 260 + 20 * tu.toNat) (b := b) (a := B + 5) (c := c) (S := hlM (G0 (tvA B v + 5)) (G0 (B + 250 + 20 * tu.toNat + 1)) (G0 (B + 250 + 20 * tu.toNat + 2)) (G0 (b + 1)) (G0 (b + 2)) 202 0 x) (k := 202) (it := it) (w := w) (P := P) (v := v) oT hA hB oz (by omega) (by omega) (by omega) (Tr_eq (G := G0) (fun y q1 q2 => r1 y (by omega) (by omega)) kT) (Tr_eq (G := G0) (fun y q1 q2 => r1 y (by omega) (by omega)) kZ) n0 n5 (by rw [b0, b1]; exact ct) (by rw [z0, zr 1 (by omega)]; exact cz) (by rw [z0, zr 1 (by omega)]; exact lz) (by rw [b0]; exact sg) (by rw [b1, b2]; exact hf.2.2.2) (by rw [z0, zr 1 (by omega), zr 3 (by omega), zr 4 (by omega), b1]; exact h2) (by rw [zr 1 (by omega)]; exact h4 it ok) (by rw [zr 1 (by omega), b1]; exact h3 it ok) (by rw [zr 1 (by omega), zr 2 (by omega), b1, b2]; exact hw) hA' cB1 pr dP n40
      have fr2 := PFr_tr fr1 (PFr_of f1)
      have tn := p_turnF (T := T) (nx := nx) (R := R) (d := d0) (x := s) oT hA hB o8 tk x0 x1 s0 (by omega) fr fr2 m3 f3
      have wl : 1 ≤ w.length := by
        refine Nat.one_le_iff_ne_zero.mpr fun e => ?_
        obtain ⟨x', _, z⟩ := fp x it w x0 x1 ok hf hw
        rcases z with ⟨_, _, z⟩ | ⟨_, _, u, z, _⟩
        · rw [z] at e
          exact absurd e (by simp)
        · rw [z] at e
          exact absurd e (by simp)
      rcases f2 with ⟨q1, q2, q3⟩ | ⟨q1, q2⟩
      · subst q1
        exact Or.inl ⟨q2, s + 1, G2, fr2, q3, by omega, by omega, by rw [hd]; exact tn⟩
      · subst q1
        exact Or.inr ⟨q2, _, _, _, G2, fr2, by omega, by omega, tn⟩
    · subst hw
      obtain ⟨rr, _⟩ := m2.resolve_left (fun z => hf z.2.1)
      subst rr
      have el := (kT.2.2.2.2.1 x x0 x1 l).2
      obtain ⟨G2, y, f1, f2, f3⟩ := c9_add (T := T) (nx := nx) (rc := 0) (rs := 0) (R := R) hA cB1 hA'.1 (by omega) (by omega) n40
      have fr2 := PFr_tr fr1 (PFr_of f1)
      have tn := p_turnN (T := T) (nx := nx) (R := R) (d := d0) (x := s) oT hA hB o8 tk x0 x1 s0 (by omega) fr fr1 m3 f3
      rw [hd, el]
      rcases f2 with ⟨q1, q2, q3⟩ | ⟨q1, q2⟩
      · subst q1
        refine Or.inl ⟨q2, s + 1, G2, fr2, q3, by omega, ?_, ?_⟩
        · show s + 1 ≤ (P : Int) + ((1 : Nat) : Int)
          omega
        · rw [Int.add_zero]
          exact tn
      · subst q1
        exact Or.inr ⟨q2, _, _, _, G2, fr2, by omega, by omega, tn⟩
    · subst hw
      obtain ⟨rr, _⟩ := m2.resolve_left (fun z => hf z.2.1)
      subst rr
      obtain ⟨F1, cE, cH⟩ := kT.2.2.2.1 x x0 x1 l
      have n1 := n0 (G0 (b + 1) x - 1000) (by omega) F1
      obtain ⟨cP, hA'⟩ := hA'
      obtain ⟨G2, y, f1, f2, f3⟩ := c9_add (T := T) (nx := nx) (rc := 0) (rs := 0) (R := R) hA cB1 cP (by omega) (by omega) n40
      have fr2 := PFr_tr fr1 (PFr_of f1)
      have tn := p_turnN (T := T) (nx := nx) (R := R) (d := d0) (x := s) oT hA hB o8 tk x0 x1 s0 (by omega) fr fr1 m3 f3
      rw [List.length_cons, show P + ((cat u (G0 (tvA B v + 5) (G0 (b + 1) x - 1000)).toNat).length + 1) = P + 1 + (cat u (G0 (tvA B v + 5) (G0 (b + 1) x - 1000)).toNat).length by omega]
      have mono := nb_mono c (show P + 1 ≤ P + 1 + (cat u (G0 (tvA B v + 5) (G0 (b + 1) x - 1000)).toNat).length by omega)
      rcases f2 with ⟨q1, q2, q3⟩ | ⟨q1, q2⟩
      · subst q1
        have key : ∀ m : Nat, (m : Int) ≤ G0 (tvA B v + 5) (G0 (b + 1) x - 1000) → KidW gt (G0 (tvA B v + 5)) (G0 (tvA B v + 6)) c (G0 (b + 1) x) it m P (P + 1 + (cat u m).length) ∧ ((nb c (P + 1 + (cat u m).length) ≤ 40 ∧ ∃ (s' : Int) (G' : Nat → Int → Int), PFr G0 G' B ∧ CB c G' (B + 5) v (P + 1 + (cat u m).length) ∧ 0 ≤ s' ∧ s' ≤ (P + 1 + (cat u m).length : Nat) ∧ PSt T nx R B b tu v d0 x s G (d0 + csum du m) (chI (G0 (b + 2)) x m) 1 s' G') ∨ (40 < nb c (P + 1 + (cat u m).length) ∧ ∃ (d' p' s' : Int) (G' : Nat → Int → Int), PFr G0 G' B ∧ (0 ≤ p' ∧ p' < 1000) ∧ (0 ≤ s' ∧ s' < 1000) ∧ PSt T nx R B b tu v d0 x s G d' p' 0 s' G')) := by
          intro m
          induction m with
          | zero =>
            intro _
            refine ⟨Kid0 n1 l cP ok pr dP, Or.inl ⟨q2, s + 1, G2, fr2, q3, by omega, ?_, ?_⟩⟩
            · show s + 1 ≤ ((P + 1 : Nat) : Int)
              omega
            · have e0 : d0 + csum du 0 = d0 := by show d0 + 0 = d0; omega
              rw [e0]
              exact tn
          | succ m ihm =>
            intro hm
            obtain ⟨kw, ihm⟩ := ihm (by omega)
            obtain ⟨rr, hr⟩ := cat_pre u (show m + 1 ≤ (G0 (tvA B v + 5) (G0 (b + 1) x - 1000)).toNat by omega)
            have hA2 := hA'
            rw [hr, At_app, cat_s, At_app] at hA2
            have a1 := cH m (by omega)
            have pw := (TW_pw kT fp k (chI (G0 (b + 2)) x m) _ (u m) (du m) (by omega) a1.2.1 a1.2.2.2.2 (hu m (by omega))).1
            have kwd := kw.2.1
            have sw := pw_seg n0 _ _ _ _ pw hA2.1.2 kw.1 (by omega)
            have kw' := Kid_s (by omega) kw sw
            rw [cat_s, List.length_append, show P + 1 + ((cat u m).length + (u m).length) = P + 1 + (cat u m).length + (u m).length by omega]
            refine ⟨kw', ?_⟩
            have mo := nb_mono c (show P + 1 + (cat u m).length ≤ P + 1 + (cat u m).length + (u m).length by omega)
            rcases ihm with ⟨y1', s', G3, y2, y3, y4, y5, y6⟩ | ⟨y1', y2⟩
            · rcases ih (chI (G0 (b + 2)) x m) _ (u m) (du m) (d0 + csum du m) s' G3 _ (by omega) a1.2.1 a1.2.2.2.2 (hu m (by omega)) hA2.1.2 y2 y3 kw.1 (by omega) y1' y4 y5 with ⟨t1, s2, G4, t2, t3, t4, t5, t6⟩ | ⟨t1, d', p', s2, G4, t2, t3, t4, t5⟩
              · refine Or.inl ⟨t1, s2, G4, t2, t3, t4, by omega, ?_⟩
                rw [csum_s, ← Int.add_assoc]
                exact fun Kn Kr z => y6 Kn Kr (t6 Kn Kr z)
              · exact Or.inr ⟨t1, d', p', s2, G4, t2, t3, t4, fun Kn Kr z => y6 Kn Kr (t5 Kn Kr z)⟩
            · exact Or.inr ⟨by omega, y2⟩
        obtain ⟨_, kk'⟩ := key (G0 (tvA B v + 5) (G0 (b + 1) x - 1000)).toNat (by omega)
        rw [cE, ← hd] at kk'
        rcases kk' with ⟨y1', s', G3, y2, y3, y4, y5, y6⟩ | y
        · exact Or.inl ⟨y1', s', G3, y2, y3, y4, by omega, y6⟩
        · exact Or.inr y
      · subst q1
        exact Or.inr ⟨by omega, _, _, _, G2, fr2, by omega, by omega, tn⟩
theorem c10_putIn {T : Nat → Option q_T} {nx B b : Nat} {R : Nat → Nat → Option Value} {G0 : Nat → Int → Int} {tu gt ib v : Int} (oT : Ly T R (B + 59) (L10 (B + 59))) (hA : Ly T R (B + 5) (L9 (B + 5))) (hB : Ly T R b (L9 b)) (o8 : Ly T R (tvA B v) (L8 (tvA B v))) (tk : TUK G0 B tu gt ib v b) {c : Int → Int} {k : Nat} {w : List Int} {d : Int} (n5 : ∀ q : Nat, 1000 ≤ c q → ns0 (c q) (G0 (tvA B v + 5))) (ok : okc gt 60 (G0 (b + 1) 0)) (hw : TW (fun x => FitC G0 (tvA B v) (B + 250 + 20 * tu.toNat) b x) (fun x w => FW (G0 (tvA B v + 5)) (G0 (B + 260 + 20 * tu.toNat + 1)) (G0 (B + 260 + 20 * tu.toNat + 2)) (G0 (b + 1)) (G0 (b + 2)) (hlM (G0 (tvA B v + 5)) (G0 (B + 250 + 20 * tu.toNat + 1)) (G0 (B + 250 + 20 * tu.toNat + 2)) (G0 (b + 1)) (G0 (b + 2)) 202 0 x) 202 0 w) (G0 (tvA B v + 5)) (G0 (b + 1)) (G0 (b + 2)) k 0 w d) (hAt : At c 0 w) (hv : G0 b 1 = v) (d0 : 0 ≤ d) (d1 : d ≤ 201) (w201 : nb c w.length ≤ 40 → w.length ≤ 201) :
    ∃ G' y, PFr G0 G' B ∧ ((nb c w.length ≤ 40 ∧ CB c G' (B + 5) v w.length ∧ y = d) ∨ (40 < nb c w.length ∧ y = -100006)) ∧ ∀ K : Option Value → q_M → Prop, fX10_putIn [.ref (B + 59), .ref (tvA B v), .int (zI tu), .ref b, .ref (B + 5)] (st T nx 0 0 R G0) K = K (some (.int (zI y))) (st T nx 0 0 R G') := by
  have tk' := tk
  obtain ⟨tu0, hF, ta, tz, aN, tt, hb, ca, cz, ct, la, lz, tie⟩ := tk'
  have kv := ta.2.2.1
  have kT := tt.2.2.2.1
  have nT := kT.1
  obtain ⟨G1, f1, f2, f3⟩ := c9_start (T := T) (nx := nx) (rc := 0) (rs := 0) (R := R) (G := G0) (c := c) (v := v) hA
  have pr0 : Pre (G0 (tvA B v + 5)) c 0 := ⟨fun q hq => absurd hq (by omega), fun q hq => absurd hq (by omega)⟩
  have one : ¬ (1 : Int) = 0 := by omega
  rcases p_cls (T := T) (nx := nx) (R := R) oT hA hB o8 tk n5 k 0 60 w d 0 0 G1 0 (Int.le_refl _) (by have := nT.1; omega) ok hw hAt (PFr_of f1) f2 pr0 (Int.le_refl _) (by show (0 : Int) ≤ 40; omega) (Int.le_refl _) (Int.le_refl _) with ⟨z1, s', G', z2, z3, z4, z5, z6⟩ | ⟨z1, d', p', s', G', z2, z3, z4, z5⟩
  · rw [Nat.zero_add] at z1 z3
    refine ⟨G', d, z2, Or.inl ⟨z1, z3, rfl⟩, fun K => ?_⟩
    have eE := nT.2.2.2.2.2.2.1
    have n1 := nT.1
    have n201 := nT.2.1
    have w2 := w201 z1
    rw [eE] at z6
    have e0 : (0 : Int) + d = d := by omega
    rw [e0] at z6
    have lw : ∀ (Kn : List Value → q_M → Prop) (Kr : Option Value → q_M → Prop), wX10_putIn_0 [.ref (B + 59), .ref (tvA B v), .int (zI tu), .ref b, .ref (B + 5), .int (zI 0), .int (zI 0), .int (zI 1), .int (zI 0)] (st T nx 0 0 R G1) Kn Kr = Kn [.ref (B + 59), .ref (tvA B v), .int (zI tu), .ref b, .ref (B + 5), .int (zI d), .int (zI (G0 b 2)), .int (zI 1), .int (zI s')] (st T nx 0 0 R G') := eX10_putIn_0.eqn (z6 _ _ (p_out hB (by omega) (by omega) (by rw [z2.1 _ (by omega) (by omega) (by omega)]; omega) (Or.inr ⟨rfl, by rw [z2.1 _ (by omega) (by omega) (by omega)]; exact Int.le_refl _⟩) _ _ ⟨rfl, rfl⟩))
    clear n5 hw hAt ok tie ca cz ct la lz ta tz tt hF tk kT nT w201 z3 z6
    simp (disch := omega) only [↓fX10_putIn.eq_1, ↓uX10_putIn, ↓(k_cv1 dX9_start (t9 hB)), ↓k_mk, ↓k_sq, ↓k_sk, ↓k_bk, ↓k_if, ↓k_te, ↓k_cm, ↓k_cz, ↓k_an2, ↓k_or2, ↓k_no, ↓k_ci, ↓k_l0, ↓k_r0, ↓k_se0, ↓k_ic0, ↓k_l1, ↓k_r1, ↓k_se1, ↓k_ic1, ↓k_de1, ↓k_tk1, ↓k_l2, ↓k_r2, ↓k_se2, ↓k_ic2, ↓k_de2, ↓k_tk2, ↓k_l3, ↓k_r3, ↓k_se3, ↓k_ic3, ↓k_de3, ↓k_tk3, ↓k_l4, ↓k_r4, ↓k_se4, ↓k_ic4, ↓k_de4, ↓k_tk4, ↓k_l5, ↓k_r5, ↓k_se5, ↓k_ic5, ↓k_de5, ↓k_tk5, ↓k_l6, ↓k_r6, ↓k_se6, ↓k_ic6, ↓k_de6, ↓k_tk6, ↓k_l7, ↓k_r7, ↓k_se7, ↓k_ic7, ↓k_de7, ↓k_tk7, ↓k_l8, ↓k_r8, ↓k_se8, ↓k_ic8, ↓k_de8, ↓k_tk8, ↓k_l9, ↓k_r9, ↓k_se9, ↓k_ic9, ↓k_de9, ↓k_tk9, ↓k_l10, ↓k_r10, ↓k_se10, ↓k_ic10, ↓k_de10, ↓k_tk10, ↓k_l11, ↓k_r11, ↓k_se11, ↓k_ic11, ↓k_de11, ↓k_tk11, ↓k_l12, ↓k_r12, ↓k_se12, ↓k_ic12, ↓k_de12, ↓k_tk12, ↓k_l13, ↓k_r13, ↓k_se13, ↓k_ic13, ↓k_de13, ↓k_tk13, ↓k_l14, ↓k_r14, ↓k_se14, ↓k_ic14, ↓k_de14, ↓k_tk14, ↓k_l15, ↓k_r15, ↓k_se15, ↓k_ic15, ↓k_de15, ↓k_tk15, ↓k_l16, ↓k_r16, ↓k_se16, ↓k_ic16, ↓k_de16, ↓k_tk16, ↓k_l17, ↓k_r17, ↓k_se17, ↓k_ic17, ↓k_de17, ↓k_tk17, ↓k_l18, ↓k_r18, ↓k_se18, ↓k_ic18, ↓k_de18, ↓k_tk18, ↓k_l19, ↓k_r19, ↓k_se19, ↓k_ic19, ↓k_de19, ↓k_tk19, ↓k_l20, ↓k_r20, ↓k_se20, ↓k_ic20, ↓k_de20, ↓k_tk20, ↓k_l21, ↓k_r21, ↓k_se21, ↓k_ic21, ↓k_de21, ↓k_tk21, ↓k_l22, ↓k_r22, ↓k_se22, ↓k_ic22, ↓k_de22, ↓k_tk22, ↓k_l23, ↓k_r23, ↓k_se23, ↓k_ic23, ↓k_de23, ↓k_tk23, ↓k_l24, ↓k_r24, ↓k_se24, ↓k_ic24, ↓k_de24, ↓k_tk24, ↓k_l25, ↓k_r25, ↓k_se25, ↓k_ic25, ↓k_de25, ↓k_tk25, ↓k_k, ↓k_kn, ↓k_kl, ↓k_kln, ↓k_il, ↓k_2, ↓k_1, ↓k_2c, ↓k_2l, ↓k_ac, ↓k_an, ↓k_cs, ↓k_cv, ↓k_fi, ↓k_fr, ↓k_ai, ↓k_az, ↓k_ar, ↓k_sai, ↓k_saz, ↓k_soa, ↓k_sof, ↓k_spf, ↓k_sx, ↓k_blk, ↓k_sset, ↓k_sdec, ↓k_sri, ↓k_srv, ↓k_srr, ↓k_nop, ↓k_add, ↓k_sub, ↓k_mul, ↓k_min, ↓k_max, ↓k_shr, ↓k_shl, ↓k_or, ↓k_ilz, ↓k_addl, ↓k_rt, ↓k_rb, ↓k_rbz, ↓k_rsi, ↓k_rsr, ↓k_rsv, ↓reduceIte, hv, ↓(k_cv1 dX9_start (t9 hA)), ↓f3, ↓lw, one, eq_self, ↓xi9_1 hB, ↓xp9_1 hB, ↓xb9_1 hB, ↓xf9_1 hB, ↓xg9_1 hB, ↓xh9_1 hB, List.length_cons, List.length_nil, List.forall_mem_cons, List.not_mem_nil, Value.category, true_and, and_true, false_and, and_false, or_true, true_or, or_false, false_or, Nat.zero_le, forall_const, implies_true, false_implies, Nat.zero_add, Nat.reduceAdd, Nat.reduceLT, Nat.reduceLeDiff, Nat.le_refl, not_true_eq_false, not_false_eq_true, r_eq, r_ne, r_lt, r_ge, r_gt, r_le, bz_ne, nn_toNat, cn_of, cn_0, cn_1, i10, Int.reduceLE, Int.reduceLT, Int.reduceEq, bz_T, bz_F, ite_self, mulc, st_bud]
  · rw [Nat.zero_add] at z1
    have n201 := nT.2.1
    have n1 := nT.1
    refine ⟨G', -100006, z2, Or.inr ⟨z1, rfl⟩, fun K => ?_⟩
    have lw : ∀ (Kn : List Value → q_M → Prop) (Kr : Option Value → q_M → Prop), wX10_putIn_0 [.ref (B + 59), .ref (tvA B v), .int (zI tu), .ref b, .ref (B + 5), .int (zI 0), .int (zI 0), .int (zI 1), .int (zI 0)] (st T nx 0 0 R G1) Kn Kr = Kn [.ref (B + 59), .ref (tvA B v), .int (zI tu), .ref b, .ref (B + 5), .int (zI d'), .int (zI p'), .int (zI 0), .int (zI s')] (st T nx 0 0 R G') := eX10_putIn_0.eqn (z5 _ _ (p_out hB z3 z4 (by rw [z2.1 _ (by omega) (by omega) (by omega)]; omega) (Or.inl rfl) _ _ ⟨rfl, rfl⟩))
    clear n5 hw hAt ok tie ca cz ct la lz ta tz tt hF tk kT nT w201 z5
    simp (disch := omega) only [↓fX10_putIn.eq_1, ↓uX10_putIn, ↓(k_cv1 dX9_start (t9 hB)), ↓k_mk, ↓k_sq, ↓k_sk, ↓k_bk, ↓k_if, ↓k_te, ↓k_cm, ↓k_cz, ↓k_an2, ↓k_or2, ↓k_no, ↓k_ci, ↓k_l0, ↓k_r0, ↓k_se0, ↓k_ic0, ↓k_l1, ↓k_r1, ↓k_se1, ↓k_ic1, ↓k_de1, ↓k_tk1, ↓k_l2, ↓k_r2, ↓k_se2, ↓k_ic2, ↓k_de2, ↓k_tk2, ↓k_l3, ↓k_r3, ↓k_se3, ↓k_ic3, ↓k_de3, ↓k_tk3, ↓k_l4, ↓k_r4, ↓k_se4, ↓k_ic4, ↓k_de4, ↓k_tk4, ↓k_l5, ↓k_r5, ↓k_se5, ↓k_ic5, ↓k_de5, ↓k_tk5, ↓k_l6, ↓k_r6, ↓k_se6, ↓k_ic6, ↓k_de6, ↓k_tk6, ↓k_l7, ↓k_r7, ↓k_se7, ↓k_ic7, ↓k_de7, ↓k_tk7, ↓k_l8, ↓k_r8, ↓k_se8, ↓k_ic8, ↓k_de8, ↓k_tk8, ↓k_l9, ↓k_r9, ↓k_se9, ↓k_ic9, ↓k_de9, ↓k_tk9, ↓k_l10, ↓k_r10, ↓k_se10, ↓k_ic10, ↓k_de10, ↓k_tk10, ↓k_l11, ↓k_r11, ↓k_se11, ↓k_ic11, ↓k_de11, ↓k_tk11, ↓k_l12, ↓k_r12, ↓k_se12, ↓k_ic12, ↓k_de12, ↓k_tk12, ↓k_l13, ↓k_r13, ↓k_se13, ↓k_ic13, ↓k_de13, ↓k_tk13, ↓k_l14, ↓k_r14, ↓k_se14, ↓k_ic14, ↓k_de14, ↓k_tk14, ↓k_l15, ↓k_r15, ↓k_se15, ↓k_ic15, ↓k_de15, ↓k_tk15, ↓k_l16, ↓k_r16, ↓k_se16, ↓k_ic16, ↓k_de16, ↓k_tk16, ↓k_l17, ↓k_r17, ↓k_se17, ↓k_ic17, ↓k_de17, ↓k_tk17, ↓k_l18, ↓k_r18, ↓k_se18, ↓k_ic18, ↓k_de18, ↓k_tk18, ↓k_l19, ↓k_r19, ↓k_se19, ↓k_ic19, ↓k_de19, ↓k_tk19, ↓k_l20, ↓k_r20, ↓k_se20, ↓k_ic20, ↓k_de20, ↓k_tk20, ↓k_l21, ↓k_r21, ↓k_se21, ↓k_ic21, ↓k_de21, ↓k_tk21, ↓k_l22, ↓k_r22, ↓k_se22, ↓k_ic22, ↓k_de22, ↓k_tk22, ↓k_l23, ↓k_r23, ↓k_se23, ↓k_ic23, ↓k_de23, ↓k_tk23, ↓k_l24, ↓k_r24, ↓k_se24, ↓k_ic24, ↓k_de24, ↓k_tk24, ↓k_l25, ↓k_r25, ↓k_se25, ↓k_ic25, ↓k_de25, ↓k_tk25, ↓k_k, ↓k_kn, ↓k_kl, ↓k_kln, ↓k_il, ↓k_2, ↓k_1, ↓k_2c, ↓k_2l, ↓k_ac, ↓k_an, ↓k_cs, ↓k_cv, ↓k_fi, ↓k_fr, ↓k_ai, ↓k_az, ↓k_ar, ↓k_sai, ↓k_saz, ↓k_soa, ↓k_sof, ↓k_spf, ↓k_sx, ↓k_blk, ↓k_sset, ↓k_sdec, ↓k_sri, ↓k_srv, ↓k_srr, ↓k_nop, ↓k_add, ↓k_sub, ↓k_mul, ↓k_min, ↓k_max, ↓k_shr, ↓k_shl, ↓k_or, ↓k_ilz, ↓k_addl, ↓k_rt, ↓k_rb, ↓k_rbz, ↓k_rsi, ↓k_rsr, ↓k_rsv, ↓reduceIte, hv, ↓(k_cv1 dX9_start (t9 hA)), ↓f3, ↓lw, eq_self, ↓xi9_1 hB, ↓xp9_1 hB, ↓xb9_1 hB, ↓xf9_1 hB, ↓xg9_1 hB, ↓xh9_1 hB, List.length_cons, List.length_nil, List.forall_mem_cons, List.not_mem_nil, Value.category, true_and, and_true, false_and, and_false, or_true, true_or, or_false, false_or, Nat.zero_le, forall_const, implies_true, false_implies, Nat.zero_add, Nat.reduceAdd, Nat.reduceLT, Nat.reduceLeDiff, Nat.le_refl, not_true_eq_false, not_false_eq_true, r_eq, r_ne, r_lt, r_ge, r_gt, r_le, bz_ne, nn_toNat, cn_of, cn_0, cn_1, i10, Int.reduceLE, Int.reduceLT, Int.reduceEq, bz_T, bz_F, ite_self, mulc, st_bud]
end
