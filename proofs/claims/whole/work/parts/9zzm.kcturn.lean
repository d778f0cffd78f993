section
/-! kept: the class looks whether a side is so, and turns -/
theorem kc_matches {T : Nat → Option q_T} {nx B ua uz : Nat} {R : Nat → Nat → Option Value} {G0 G : Nat → Int → Int} {v ia iz p : Int} {w : List Int} (oT : Ly T R (B + 59) (L10 (B + 59))) (hB : Ly T R (B + 150) (L9 (B + 150))) (hF : IFm G0 B) (kv : 0 ≤ v ∧ v ≤ 1) (wy : WAY G0 B v ia iz ua uz) (hu : B + 250 ≤ ua ∧ ua + 10 ≤ B + 370) (hz : B + 250 ≤ uz ∧ uz + 10 ≤ B + 370) (kc : KC G0 G B) (g : GW1 G0 B v w) (lf : LF (G0 (tvA B v + 5)) G (B + 150) w) (oa : Ly T R ua (L9 ua)) (o8 : Ly T R (tvA B v) (L8 (tvA B v))) (p0 : 0 ≤ p) (p1 : p < (w.length : Int)) :
    ∃ (G' : Nat → Int → Int) (r : Int), (∀ y, ¬ y = B + 66 → G' y = G y) ∧ ((r = 1 ∧ fitW G0 B v ua w p ∧ SG (G' (B + 66)) w.length (hlW G0 B v ua w p) ∧ Con (G (B + 150 + 1)) (G (B + 150 + 2)) (hlW G0 B v ua w p)) ∨ (r = 0 ∧ ¬ fitW G0 B v ua w p)) ∧ ∀ K : Option Value → q_M → Prop, fX10_matches [.ref (B + 59), .ref (tvA B v), .ref ua, .ref (B + 150), .int (zI p)] (st T nx 0 0 R G) K = K (some (.int (zI r))) (st T nx 0 0 R G') := by
  obtain ⟨ta, tz, ca, cz, la, lz, kk⟩ := wy
  have tvb := tv_b (B := B) kv
  obtain ⟨kT, E, naE⟩ := LF_tr hF kv g lf
  have kA := ta.2.2.2.1
  have tW := trW hF kv g
  obtain ⟨_, _, _, _, _, _, hcd, _⟩ := GW_row hF kv g
  have u0 : G ua = G0 ua := kc.1 _ (by omega) (by omega) (by omega)
  have u1 : G (ua + 1) = G0 (ua + 1) := kc.1 _ (by omega) (by omega) (by omega)
  have u2 : G (ua + 2) = G0 (ua + 2) := kc.1 _ (by omega) (by omega) (by omega)
  have u3 : G (ua + 3) = G0 (ua + 3) := kc.1 _ (by omega) (by omega) (by omega)
  have u4 : G (ua + 4) = G0 (ua + 4) := kc.1 _ (by omega) (by omega) (by omega)
  have u6 : G (ua + 6) = G0 (ua + 6) := kc.1 _ (by omega) (by omega) (by omega)
  have u7 : G (ua + 7) = G0 (ua + 7) := kc.1 _ (by omega) (by omega) (by omega)
  have u8 : G (ua + 8) = G0 (ua + 8) := kc.1 _ (by omega) (by omega) (by omega)
  have t2 : G (tvA B v + 2) = G0 (tvA B v + 2) := kc.1 _ (by omega) (by omega) (by omega)
  have t5 : G (tvA B v + 5) = (G0 (tvA B v + 5)) := kc.1 _ (by omega) (by omega) (by omega)
  have hF14 := (hF v kv.1 kv.2).2.2.1
  have b2 := lf.1
  have cdI : ∀ q : Int, 0 ≤ q → q < (w.length : Int) → 20 ≤ G (B + 150 + 1) q ∧ G (B + 150 + 1) q ≤ 1013 := fun q q0 q1 => by
    have := hcd q.toNat (by omega)
    rw [Int.toNat_of_nonneg q0] at this
    rw [(E q q0 q1).1]
    exact ⟨this.1, this.2.1⟩
  obtain ⟨G1, r, m1, m2, m3⟩ := c10_matches (T := T) (nx := nx) (R := R) (G := G) (o := B + 59) (t := tvA B v) (a := ua) (b := B + 150) (x := p) (ha := 1) (Fa := (G0 (tvA B v) 1)) (Ia := (G0 (tvA B v + 6))) (hb := 1) (Fb := (G0 (tvA B v) 1)) (Ib := (G0 (tvA B v + 6))) oT o8 oa hB (by omega) (by omega) (by omega) (by rw [t5, u0, u1, u2, u3, u4, u6, u7, u8]; exact kA) (by rw [t5]; exact kT) (by rw [u0, u1]; exact ca) (by rw [b2]; exact cdI) (by rw [u0, u1]; exact la) (fun f f0 f14 f1 => by
    rw [t2]
    obtain ⟨⟨_, z1, z2⟩, _⟩ := (hF v kv.1 kv.2).2.2.2 f f0 f1
    exact ⟨z1, z2⟩) hF14 p0 (by rw [b2]; exact p1)
  refine ⟨G1, r, fun y q => m1 y q, ?_, m3⟩
  unfold FitC at m2
  rw [t5, t2, u1, u2, b2, (E p p0 p1).1] at m2
  obtain ⟨o1, o2⟩ := ok_cg tW E (c0 := G0 (ua + 1)) (e0 := G0 (ua + 2)) 202 0 p p0 p1
  have hS : okM (G0 (tvA B v + 5)) (G0 (ua + 1)) (G0 (ua + 2)) (wf w) (eE (G0 (tvA B v + 5)) (wf w)) 202 0 p → hlM (G0 (tvA B v + 5)) (G0 (ua + 1)) (G0 (ua + 2)) (G (B + 150 + 1)) (G (B + 150 + 2)) 202 0 p = (hlW G0 B v ua w p) := fun o => by
    funext h x
    exact propext (o2 o h x)
  have bnd : okM (G0 (tvA B v + 5)) (G0 (ua + 1)) (G0 (ua + 2)) (wf w) (eE (G0 (tvA B v + 5)) (wf w)) 202 0 p → ∀ h x, (hlW G0 B v ua w p) h x → 0 ≤ x ∧ x < (w.length : Int) := fun o h x hx => by
    have := hl_kind kA tW 202 0 p h x (Int.le_refl _) (by have := kA.1.1; omega) p0 p1 o hx
    exact ⟨this.1, this.2.1⟩
  rcases m2 with ⟨z, ⟨f1, f2, f3, f4⟩, f5⟩ | ⟨z, f⟩
  · have f3' := o1.mp f3
    rw [hS f3'] at f4 f5
    refine Or.inl ⟨z, ⟨f1, f2, f3', fun h x y hx hy => ?_⟩, f5, f4⟩
    have bx := bnd f3' h x hx
    have by' := bnd f3' h y hy
    exact Seg_cg2 tW E bx.1 bx.2 by'.1 by'.2 (f4 h x y hx hy)
  · refine Or.inr ⟨z, fun ⟨f1, f2, f3, f4⟩ => f ⟨f1, f2, o1.mpr f3, ?_⟩⟩
    rw [hS f3]
    intro h x y hx hy
    have bx := bnd f3 h x hx
    have by' := bnd f3 h y hy
    exact Seg_cg tW E bx.1 bx.2 by'.1 by'.2 (f4 h x y hx hy)
/-- the other side put in -/
theorem c10_turnAt {T : Nat → Option q_T} {nx B ua uz : Nat} {R : Nat → Nat → Option Value} {G0 G : Nat → Int → Int} {v ia iz p : Int} {w : List Int} {w' : List Int} (oT : Ly T R (B + 59) (L10 (B + 59))) (hB : Ly T R (B + 150) (L9 (B + 150))) (hF : IFm G0 B) (kv : 0 ≤ v ∧ v ≤ 1) (wy : WAY G0 B v ia iz ua uz) (hu : B + 250 ≤ ua ∧ ua + 10 ≤ B + 370) (hz : B + 250 ≤ uz ∧ uz + 10 ≤ B + 370) (kc : KC G0 G B) (g : GW1 G0 B v w) (lf : LF (G0 (tvA B v + 5)) G (B + 150) w) (hA : Ly T R (B + 160) (L9 (B + 160))) (oz : Ly T R uz (L9 uz)) (p0 : 0 ≤ p) (p1 : p < (w.length : Int)) (ft : fitW G0 B v ua w p) (sg : SG (G (B + 66)) w.length (hlW G0 B v ua w p)) (con : Con (G (B + 150 + 1)) (G (B + 150 + 2)) (hlW G0 B v ua w p)) (ho : outW G0 B v ua uz w p w') :
    ∃ (G' : Nat → Int → Int) (y : Int), (∀ x, ¬ x = B + 160 → ¬ x = B + 161 → G' x = G x) ∧ ((y = 1 ∧ nb (wf w') w'.length ≤ 40 ∧ G' (B + 160) 2 = (w'.length : Int) ∧ ∀ q : Nat, q < w'.length → G' (B + 161) q = (wf w') q) ∨ (y = 0 ∧ 40 < nb (wf w') w'.length)) ∧ ∀ K : Option Value → q_M → Prop, fX10_turnAt [.ref (B + 59), .int (zI p), .ref uz] (st T nx 0 0 R G) K = K (some (.int (zI y))) (st T nx 0 0 R G') := by
  obtain ⟨k', pw⟩ := (out_ex hF kv wy g p0 p1 ft).2 w' ho
  obtain ⟨ta, tz, ca, cz, la, lz, kk⟩ := wy
  obtain ⟨kk1, kk2, kk3, kk4, kk5⟩ := kk w p g p0 p1 ft
  have tvb := tv_b (B := B) kv
  obtain ⟨kT, E, naE⟩ := LF_tr hF kv g lf
  have kZ := tz.2.2.2.1
  have tW := trW hF kv g
  obtain ⟨n5w, prw, d0w, okw, len1, len201, hcd, _⟩ := GW_row hF kv g
  have e0 := tW.1.2.2.2.2.2.2.1
  have n40 := g.2
  have n0 : ∀ f, 0 ≤ f → f < (G0 (tvA B v) 1) → 0 ≤ (G0 (tvA B v + 5)) f := fun f f0 f1 => (IFm_ns hF kv f0 f1).1
  obtain ⟨d, hw⟩ := ho
  obtain ⟨_, dec⟩ := TW_dec tW 202 0 w' d (Int.le_refl _) (by omega) hw
  rw [e0] at dec
  obtain ⟨ep1, fw, hfw, hw'⟩ := dec p0 p1
  rw [Int.sub_zero] at hw'
  have ep := tW.2.1 p p0 p1
  obtain ⟨ee, hee⟩ : ∃ ee, ee = eE (G0 (tvA B v + 5)) (wf w) p := ⟨_, rfl⟩
  rw [← hee] at ep1 ep hw'
  have n5 : ∀ q : Nat, 1000 ≤ (wf w') q → ns0 ((wf w') q) (G0 (tvA B v + 5)) := fun q l => by
    have hF14 := (hF v kv.1 kv.2).2.2.1
    have tv1 : (G0 (tvA B v) 1) ≤ 14 := hF14
    by_cases hq : q < w'.length
    · have z := (PW_codes pw _ (wf_in hq)).2 l
      have y := IFm_ns hF kv (show 0 ≤ (wf w') q - 1000 by omega) z
      exact ⟨by omega, y.1, y.2⟩
    · have := wf_out (w := w') hq
      omega
  have pr0 : Pre (G0 (tvA B v + 5)) (wf w') 0 := ⟨fun q hq => absurd hq (by omega), fun q hq => absurd hq (by omega)⟩
  obtain ⟨s1, s2, _, _, _⟩ := pw_seg n0 _ 60 w' 0 pw (At_wf w') pr0 (Int.le_refl _)
  rw [Nat.zero_add] at s1 s2
  have s2 : dd (G0 (tvA B v + 5)) (wf w') w'.length = 0 := s2
  have atw := At_wf w'
  rw [hw'] at atw
  obtain ⟨at1, at2⟩ := At_app.mp atw
  obtain ⟨at2, at3⟩ := At_app.mp at2
  rw [sgL_len, ← hw'] at at2 at3
  rw [← hw'] at at1
  have lw : w'.length = p.toNat + (fw.length + ((w.length : Int) - ee).toNat) := by
    have := congrArg List.length hw'
    rw [List.length_append, List.length_append, sgL_len, sgL_len] at this
    exact this
  rw [show 0 + p.toNat = p.toNat by omega] at at2 at3
  obtain ⟨P1, hP1⟩ : ∃ P1, P1 = p.toNat := ⟨_, rfl⟩
  rw [← hP1] at at1 at2 at3 lw
  have pP : (P1 : Int) = p := by omega
  have room : ∀ P : Nat, P ≤ w'.length → nb (wf w') P ≤ 40 → P ≤ 201 := fun P hP hn => by
    have r := dd_room (ns := (G0 (tvA B v + 5))) (c := (wf w')) (P := P) (fun q _ h => (n5 q h).2.2)
    have d0 : 0 ≤ dd (G0 (tvA B v + 5)) (wf w') P := by
      by_cases z : P = w'.length
      · rw [z, s2]; exact Int.le_refl _
      · have := s1.1 P (by omega)
        omega
    omega
  have b2 := lf.1
  obtain ⟨it, oit⟩ : ∃ it, okc 1 it ((wf w) p) := by
    by_cases z : p = 0
    · rw [z]
      exact ⟨60, okw 0 (by omega) 60 rfl⟩
    · have h := okw p.toNat (by omega) _ (tgI_head prw d0w len201 (by omega) p1)
      rw [Int.toNat_of_nonneg p0] at h
      exact ⟨_, h⟩
  have lz0 := kZ.1.1
  have lz1 := kZ.1.2.1
  have lze := kZ.1.2.2.2.2.2.2.1
  have pwf := FW_pw kZ tW n0 kk1 lz kk2 202 0 it fw (Int.le_refl _) (by omega) (kk4 it oit) (kk3 it oit) hfw
  obtain ⟨G1, f1, cb1, cS⟩ := c9_start (T := T) (nx := nx) (rc := 0) (rs := 0) (R := R) (G := G) (c := (wf w')) (v := -1) hA
  have e151 : G1 (B + 150 + 1) = G (B + 150 + 1) := f1.1 _ (by omega) (by omega)
  have cdI : ∀ q : Int, 0 ≤ q → q < (w.length : Int) → 20 ≤ G (B + 150 + 1) q ∧ G (B + 150 + 1) q ≤ 1013 := fun q q0 q1 => by
    have := hcd q.toNat (by omega)
    rw [Int.toNat_of_nonneg q0] at this
    rw [(E q q0 q1).1]
    exact ⟨this.1, this.2.1⟩
  have nb0 : nb (wf w') 0 = 0 := rfl
  obtain ⟨G2, y1, f2, h2, c2⟩ := c9_addRange (T := T) (nx := nx) (rc := 0) (rs := 0) (R := R) (G := G1) (b := B + 150) (x := 0) (E := p) hA hB (by omega) cb1 (Int.le_refl _) p0 (by omega) (fun z z0 z1 => by
    rw [e151, show ((0 : Nat) : Int) + z = 0 + z by omega, show (0 : Int) + z = z by omega, (E z z0 (by omega)).1]
    have := At_sg at1 z z0 (by omega)
    rw [show ((0 : Nat) : Int) + z = z by omega, show (0 : Int) + z = z by omega] at this
    exact this) (fun q q0 q1 => by
    rw [e151]
    have := cdI q q0 (by omega)
    omega) (by omega) (fun z => by omega) (by omega)
  rw [show 0 + (p - 0).toNat = P1 by omega] at h2
  have mono1 := nb_mono (wf w') (show P1 ≤ w'.length by omega)
  have one : ¬ (1 : Int) = 0 := by omega
  rcases h2 with ⟨z1, n1, cb2⟩ | ⟨z1, n1⟩
  · subst z1
    have fr2 := CFr_tr f1 f2
    have q0 : ∀ x, B + 150 ≤ x → x ≤ B + 158 → G2 x = G x := fun x q1 q2 => fr2.1 x (by omega) (by omega)
    have u : ∀ x, B + 250 ≤ x → x < B + 544 → G2 x = G0 x := fun x q1 q2 => by rw [fr2.1 x (by omega) (by omega), kc.1 x (by omega) (by omega) (by omega)]
    have len2 : P1 < w'.length := by
      have fl : fw.length ≠ 0 := fun z => by
        obtain ⟨_, s2', _, _, _⟩ := pw_seg n0 _ it fw 0 pwf (At_wf fw) ⟨fun q hq => absurd hq (by omega), fun q hq => absurd hq (by omega)⟩ (Int.le_refl _)
        rw [z] at s2'
        have s2' : (1 : Int) = 0 := s2'
        omega
      omega
    obtain ⟨G3, y2, f3, h3, c3⟩ := y_c10_addFilled (T := T) (nx := nx) (R := R) (o := B + 59) (z := uz) (b := B + 150) (a := B + 160) (G0 := G2) (c := (wf w')) (ns := (G0 (tvA B v + 5))) (I := (G0 (tvA B v + 6))) (gt := 1) (gz := 1) (F := (G0 (tvA B v) 1)) (v := -1) (S := (hlW G0 B v ua w p)) (k := 202) (it := it) (w := fw) (P := P1) oT hA hB oz (by omega) (by omega) (by omega) (by
      rw [q0 _ (by omega) (by omega), q0 (B + 150 + 1) (by omega) (by omega), q0 (B + 150 + 2) (by omega) (by omega), q0 (B + 150 + 3) (by omega) (by omega), q0 (B + 150 + 4) (by omega) (by omega), q0 (B + 150 + 6) (by omega) (by omega), q0 (B + 150 + 7) (by omega) (by omega), q0 (B + 150 + 8) (by omega) (by omega)]
      exact kT) (by
      rw [u uz (by omega) (by omega), u (uz + 1) (by omega) (by omega), u (uz + 2) (by omega) (by omega), u (uz + 3) (by omega) (by omega), u (uz + 4) (by omega) (by omega), u (uz + 6) (by omega) (by omega), u (uz + 7) (by omega) (by omega), u (uz + 8) (by omega) (by omega)]
      exact kZ) n0 n5 (by
      rw [q0 _ (by omega) (by omega), q0 (B + 150 + 1) (by omega) (by omega), b2]
      exact cdI) (by
      rw [u uz (by omega) (by omega), u (uz + 1) (by omega) (by omega)]
      exact cz) (by
      rw [u uz (by omega) (by omega), u (uz + 1) (by omega) (by omega)]
      exact lz) (by
      rw [fr2.1 (B + 66) (by omega) (by omega), q0 _ (by omega) (by omega), b2]
      exact sg) (by
      rw [q0 (B + 150 + 1) (by omega) (by omega), q0 (B + 150 + 2) (by omega) (by omega)]
      exact con) (by
      rw [u uz (by omega) (by omega), u (uz + 1) (by omega) (by omega), u (uz + 3) (by omega) (by omega), u (uz + 4) (by omega) (by omega), q0 (B + 150 + 1) (by omega) (by omega)]
      intro y y0 y1 hh x hx
      rw [(E x (kk1 _ _ hx).1 (kk1 _ _ hx).2).1]
      exact kk2 y y0 y1 hh x hx) (by
      rw [u (uz + 1) (by omega) (by omega)]
      exact kk4 it oit) (by
      rw [u (uz + 1) (by omega) (by omega), q0 (B + 150 + 1) (by omega) (by omega)]
      intro hh x hx
      rw [(E x (kk1 _ _ hx).1 (kk1 _ _ hx).2).1]
      exact kk3 it oit hh x hx) (by
      rw [u (uz + 1) (by omega) (by omega), u (uz + 2) (by omega) (by omega), q0 (B + 150 + 1) (by omega) (by omega), q0 (B + 150 + 2) (by omega) (by omega)]
      exact FW_cg tW E kk1 (fun h x hx => hx) 202 0 fw hfw) at2 cb2 (Pre_le s1 (by omega)) (s1.1 P1 len2) n1
    have mono2 := nb_mono (wf w') (show P1 + fw.length ≤ w'.length by omega)
    rcases h3 with ⟨z2, n2, cb3⟩ | ⟨z2, n2⟩
    · subst z2
      have fr3 := CFr_tr fr2 f3
      have e151' : G3 (B + 150 + 1) = G (B + 150 + 1) := fr3.1 _ (by omega) (by omega)
      have eE2 : G3 (B + 150 + 2) p = ee := by
        rw [fr3.1 _ (by omega) (by omega), (E p p0 p1).2, hee]
      have eN : G3 (B + 150) 2 = (w.length : Int) := by
        rw [fr3.1 _ (by omega) (by omega)]
        exact b2
      obtain ⟨G4, y3, f4, h4, c4⟩ := c9_addRange (T := T) (nx := nx) (rc := 0) (rs := 0) (R := R) (G := G3) (b := B + 150) (x := ee) (E := (w.length : Int)) hA hB (by omega) cb3 (by omega) (by omega) (by omega) (fun z z0 z1 => by
        rw [e151', (E (ee + z) (by omega) (by omega)).1]
        exact At_sg at3 z z0 (by omega)) (fun q q0 q1 => by
        rw [e151']
        have := cdI q q0 (by omega)
        omega) n2 (fun z => by
        rw [show P1 + fw.length + ((w.length : Int) - ee).toNat = w'.length by omega] at z
        have := room _ (Nat.le_refl _) z
        omega) (room _ (by omega) n2)
      rw [show P1 + fw.length + ((w.length : Int) - ee).toNat = w'.length by omega] at h4
      refine ⟨G4, y3, fun x q1 q2 => (CFr_tr fr3 f4).1 x q1 q2, h4.imp (fun ⟨a, b, d⟩ => ⟨a, b, d.2.1, d.2.2.2⟩) id, fun K => ?_⟩
      have y01 : y3 = 1 ∨ y3 = 0 := by omega
      obtain ⟨L, hL⟩ : ∃ L, L = (w.length : Int) := ⟨_, rfl⟩
      rw [← hL] at eN c4
      clear kk1 kk2 kk3 kk4 kk5 room n5 s1 hw E cdI n5w prw hcd okw h4
      rcases y01 with y01 | y01
      · subst y01
        simp (disch := omega) only [↓fX10_turnAt.eq_1, ↓sX10_turnAt_.eq_1, ↓(k_cv1 dX9_start (t9 hB)), ↓(k_cv3 dX10_addFilled (t10 oT)), ↓(k_cv3 dX9_addRange (t9 hB)), ↓k_mk, ↓k_sq, ↓k_sk, ↓k_bk, ↓k_if, ↓k_te, ↓k_cm, ↓k_cz, ↓k_an2, ↓k_or2, ↓k_no, ↓k_ci, ↓k_l0, ↓k_r0, ↓k_se0, ↓k_ic0, ↓k_l1, ↓k_r1, ↓k_se1, ↓k_ic1, ↓k_de1, ↓k_tk1, ↓k_l2, ↓k_r2, ↓k_se2, ↓k_ic2, ↓k_de2, ↓k_tk2, ↓k_l3, ↓k_r3, ↓k_se3, ↓k_ic3, ↓k_de3, ↓k_tk3, ↓k_l4, ↓k_r4, ↓k_se4, ↓k_ic4, ↓k_de4, ↓k_tk4, ↓k_l5, ↓k_r5, ↓k_se5, ↓k_ic5, ↓k_de5, ↓k_tk5, ↓k_l6, ↓k_r6, ↓k_se6, ↓k_ic6, ↓k_de6, ↓k_tk6, ↓k_l7, ↓k_r7, ↓k_se7, ↓k_ic7, ↓k_de7, ↓k_tk7, ↓k_l8, ↓k_r8, ↓k_se8, ↓k_ic8, ↓k_de8, ↓k_tk8, ↓k_l9, ↓k_r9, ↓k_se9, ↓k_ic9, ↓k_de9, ↓k_tk9, ↓k_l10, ↓k_r10, ↓k_se10, ↓k_ic10, ↓k_de10, ↓k_tk10, ↓k_l11, ↓k_r11, ↓k_se11, ↓k_ic11, ↓k_de11, ↓k_tk11, ↓k_l12, ↓k_r12, ↓k_se12, ↓k_ic12, ↓k_de12, ↓k_tk12, ↓k_l13, ↓k_r13, ↓k_se13, ↓k_ic13, ↓k_de13, ↓k_tk13, ↓k_l14, ↓k_r14, ↓k_se14, ↓k_ic14, ↓k_de14, ↓k_tk14, ↓k_l15, ↓k_r15, ↓k_se15, ↓k_ic15, ↓k_de15, ↓k_tk15, ↓k_l16, ↓k_r16, ↓k_se16, ↓k_ic16, ↓k_de16, ↓k_tk16, ↓k_l17, ↓k_r17, ↓k_se17, ↓k_ic17, ↓k_de17, ↓k_tk17, ↓k_l18, ↓k_r18, ↓k_se18, ↓k_ic18, ↓k_de18, ↓k_tk18, ↓k_l19, ↓k_r19, ↓k_se19, ↓k_ic19, ↓k_de19, ↓k_tk19, ↓k_l20, ↓k_r20, ↓k_se20, ↓k_ic20, ↓k_de20, ↓k_tk20, ↓k_l21, ↓k_r21, ↓k_se21, ↓k_ic21, ↓k_de21, ↓k_tk21, ↓k_l22, ↓k_r22, ↓k_se22, ↓k_ic22, ↓k_de22, ↓k_tk22, ↓k_l23, ↓k_r23, ↓k_se23, ↓k_ic23, ↓k_de23, ↓k_tk23, ↓k_l24, ↓k_r24, ↓k_se24, ↓k_ic24, ↓k_de24, ↓k_tk24, ↓k_l25, ↓k_r25, ↓k_se25, ↓k_ic25, ↓k_de25, ↓k_tk25, ↓k_k, ↓k_kn, ↓k_kl, ↓k_kln, ↓k_il, ↓k_2, ↓k_1, ↓k_2c, ↓k_2l, ↓k_ac, ↓k_an, ↓k_cs, ↓k_cv, ↓k_fi, ↓k_fr, ↓k_ai, ↓k_az, ↓k_ar, ↓k_sai, ↓k_saz, ↓k_soa, ↓k_sof, ↓k_spf, ↓k_sx, ↓k_blk, ↓k_sset, ↓k_sdec, ↓k_sri, ↓k_srv, ↓k_srr, ↓k_nop, ↓k_add, ↓k_sub, ↓k_mul, ↓k_min, ↓k_max, ↓k_shr, ↓k_shl, ↓k_or, ↓k_ilz, ↓k_addl, ↓k_rt, ↓k_rb, ↓k_rbz, ↓k_rsi, ↓k_rsr, ↓k_rsv, ↓reduceIte, one, ↓(k_cv1 dX9_start (t9 hA)), ↓cS, ↓(k_cv3 dX9_addRange (t9 hA)), ↓c2, ↓(k_cv3 dX10_addFilled (t10 oT)), ↓c3, eE2, eN, ↓c4, ↓xr10_16 oT, ↓xr10_17 oT, ↓xi9_2 hB, ↓xp9_2 hB, ↓xb9_2 hB, ↓xf9_2 hB, ↓xg9_2 hB, ↓xh9_2 hB, ↓xr9_6 hB, ↓xa9_6 hB, ↓xs9_6 hB, ↓xo9_6 hB, ↓xc9_6 hB, ↓xd9_6 hB, List.length_cons, List.length_nil, List.forall_mem_cons, List.not_mem_nil, Value.category, true_and, and_true, false_and, and_false, or_true, true_or, or_false, false_or, Nat.zero_le, forall_const, implies_true, false_implies, Nat.zero_add, Nat.reduceAdd, Nat.reduceLT, Nat.reduceLeDiff, Nat.le_refl, not_true_eq_false, not_false_eq_true, r_eq, r_ne, r_lt, r_ge, r_gt, r_le, bz_ne, nn_toNat, cn_of, cn_0, cn_1, i10, Int.reduceLE, Int.reduceLT, Int.reduceEq, bz_T, bz_F, ite_self, mulc, st_bud]
      · subst y01
        simp (disch := omega) only [↓fX10_turnAt.eq_1, ↓sX10_turnAt_.eq_1, ↓(k_cv1 dX9_start (t9 hB)), ↓(k_cv3 dX10_addFilled (t10 oT)), ↓(k_cv3 dX9_addRange (t9 hB)), ↓k_mk, ↓k_sq, ↓k_sk, ↓k_bk, ↓k_if, ↓k_te, ↓k_cm, ↓k_cz, ↓k_an2, ↓k_or2, ↓k_no, ↓k_ci, ↓k_l0, ↓k_r0, ↓k_se0, ↓k_ic0, ↓k_l1, ↓k_r1, ↓k_se1, ↓k_ic1, ↓k_de1, ↓k_tk1, ↓k_l2, ↓k_r2, ↓k_se2, ↓k_ic2, ↓k_de2, ↓k_tk2, ↓k_l3, ↓k_r3, ↓k_se3, ↓k_ic3, ↓k_de3, ↓k_tk3, ↓k_l4, ↓k_r4, ↓k_se4, ↓k_ic4, ↓k_de4, ↓k_tk4, ↓k_l5, ↓k_r5, ↓k_se5, ↓k_ic5, ↓k_de5, ↓k_tk5, ↓k_l6, ↓k_r6, ↓k_se6, ↓k_ic6, ↓k_de6, ↓k_tk6, ↓k_l7, ↓k_r7, ↓k_se7, ↓k_ic7, ↓k_de7, ↓k_tk7, ↓k_l8, ↓k_r8, ↓k_se8, ↓k_ic8, ↓k_de8, ↓k_tk8, ↓k_l9, ↓k_r9, ↓k_se9, ↓k_ic9, ↓k_de9, ↓k_tk9, ↓k_l10, ↓k_r10, ↓k_se10, ↓k_ic10, ↓k_de10, ↓k_tk10, ↓k_l11, ↓k_r11, ↓k_se11, ↓k_ic11, ↓k_de11, ↓k_tk11, ↓k_l12, ↓k_r12, ↓k_se12, ↓k_ic12, ↓k_de12, ↓k_tk12, ↓k_l13, ↓k_r13, ↓k_se13, ↓k_ic13, ↓k_de13, ↓k_tk13, ↓k_l14, ↓k_r14, ↓k_se14, ↓k_ic14, ↓k_de14, ↓k_tk14, ↓k_l15, ↓k_r15, ↓k_se15, ↓k_ic15, ↓k_de15, ↓k_tk15, ↓k_l16, ↓k_r16, ↓k_se16, ↓k_ic16, ↓k_de16, ↓k_tk16, ↓k_l17, ↓k_r17, ↓k_se17, ↓k_ic17, ↓k_de17, ↓k_tk17, ↓k_l18, ↓k_r18, ↓k_se18, ↓k_ic18, ↓k_de18, ↓k_tk18, ↓k_l19, ↓k_r19, ↓k_se19, ↓k_ic19, ↓k_de19, ↓k_tk19, ↓k_l20, ↓k_r20, ↓k_se20, ↓k_ic20, ↓k_de20, ↓k_tk20, ↓k_l21, ↓k_r21, ↓k_se21, ↓k_ic21, ↓k_de21, ↓k_tk21, ↓k_l22, ↓k_r22, ↓k_se22, ↓k_ic22, ↓k_de22, ↓k_tk22, ↓k_l23, ↓k_r23, ↓k_se23, ↓k_ic23, ↓k_de23, ↓k_tk23, ↓k_l24, ↓k_r24, ↓k_se24, ↓k_ic24, ↓k_de24, ↓k_tk24, ↓k_l25, ↓k_r25, ↓k_se25, ↓k_ic25, ↓k_de25, ↓k_tk25, ↓k_k, ↓k_kn, ↓k_kl, ↓k_kln, ↓k_il, ↓k_2, ↓k_1, ↓k_2c, ↓k_2l, ↓k_ac, ↓k_an, ↓k_cs, ↓k_cv, ↓k_fi, ↓k_fr, ↓k_ai, ↓k_az, ↓k_ar, ↓k_sai, ↓k_saz, ↓k_soa, ↓k_sof, ↓k_spf, ↓k_sx, ↓k_blk, ↓k_sset, ↓k_sdec, ↓k_sri, ↓k_srv, ↓k_srr, ↓k_nop, ↓k_add, ↓k_sub, ↓k_mul, ↓k_min, ↓k_max, ↓k_shr, ↓k_shl, ↓k_or, ↓k_ilz, ↓k_addl, ↓k_rt, ↓k_rb, ↓k_rbz, ↓k_rsi, ↓k_rsr, ↓k_rsv, ↓reduceIte, one, ↓(k_cv1 dX9_start (t9 hA)), ↓cS, ↓(k_cv3 dX9_addRange (t9 hA)), ↓c2, ↓(k_cv3 dX10_addFilled (t10 oT)), ↓c3, eE2, eN, ↓c4, ↓xr10_16 oT, ↓xr10_17 oT, ↓xi9_2 hB, ↓xp9_2 hB, ↓xb9_2 hB, ↓xf9_2 hB, ↓xg9_2 hB, ↓xh9_2 hB, ↓xr9_6 hB, ↓xa9_6 hB, ↓xs9_6 hB, ↓xo9_6 hB, ↓xc9_6 hB, ↓xd9_6 hB, List.length_cons, List.length_nil, List.forall_mem_cons, List.not_mem_nil, Value.category, true_and, and_true, false_and, and_false, or_true, true_or, or_false, false_or, Nat.zero_le, forall_const, implies_true, false_implies, Nat.zero_add, Nat.reduceAdd, Nat.reduceLT, Nat.reduceLeDiff, Nat.le_refl, not_true_eq_false, not_false_eq_true, r_eq, r_ne, r_lt, r_ge, r_gt, r_le, bz_ne, nn_toNat, cn_of, cn_0, cn_1, i10, Int.reduceLE, Int.reduceLT, Int.reduceEq, bz_T, bz_F, ite_self, mulc, st_bud]
    · subst z2
      refine ⟨G3, 0, fun x q1 q2 => (CFr_tr fr2 f3).1 x q1 q2, Or.inr ⟨rfl, by omega⟩, fun K => ?_⟩
      clear kk1 kk2 kk3 kk4 kk5 room n5 s1 hw E cdI n5w prw hcd okw
      simp (disch := omega) only [↓fX10_turnAt.eq_1, ↓sX10_turnAt_.eq_1, ↓(k_cv3 dX10_addFilled (t10 oT)), ↓k_mk, ↓k_sq, ↓k_sk, ↓k_bk, ↓k_if, ↓k_te, ↓k_cm, ↓k_cz, ↓k_an2, ↓k_or2, ↓k_no, ↓k_ci, ↓k_l0, ↓k_r0, ↓k_se0, ↓k_ic0, ↓k_l1, ↓k_r1, ↓k_se1, ↓k_ic1, ↓k_de1, ↓k_tk1, ↓k_l2, ↓k_r2, ↓k_se2, ↓k_ic2, ↓k_de2, ↓k_tk2, ↓k_l3, ↓k_r3, ↓k_se3, ↓k_ic3, ↓k_de3, ↓k_tk3, ↓k_l4, ↓k_r4, ↓k_se4, ↓k_ic4, ↓k_de4, ↓k_tk4, ↓k_l5, ↓k_r5, ↓k_se5, ↓k_ic5, ↓k_de5, ↓k_tk5, ↓k_l6, ↓k_r6, ↓k_se6, ↓k_ic6, ↓k_de6, ↓k_tk6, ↓k_l7, ↓k_r7, ↓k_se7, ↓k_ic7, ↓k_de7, ↓k_tk7, ↓k_l8, ↓k_r8, ↓k_se8, ↓k_ic8, ↓k_de8, ↓k_tk8, ↓k_l9, ↓k_r9, ↓k_se9, ↓k_ic9, ↓k_de9, ↓k_tk9, ↓k_l10, ↓k_r10, ↓k_se10, ↓k_ic10, ↓k_de10, ↓k_tk10, ↓k_l11, ↓k_r11, ↓k_se11, ↓k_ic11, ↓k_de11, ↓k_tk11, ↓k_l12, ↓k_r12, ↓k_se12, ↓k_ic12, ↓k_de12, ↓k_tk12, ↓k_l13, ↓k_r13, ↓k_se13, ↓k_ic13, ↓k_de13, ↓k_tk13, ↓k_l14, ↓k_r14, ↓k_se14, ↓k_ic14, ↓k_de14, ↓k_tk14, ↓k_l15, ↓k_r15, ↓k_se15, ↓k_ic15, ↓k_de15, ↓k_tk15, ↓k_l16, ↓k_r16, ↓k_se16, ↓k_ic16, ↓k_de16, ↓k_tk16, ↓k_l17, ↓k_r17, ↓k_se17, ↓k_ic17, ↓k_de17, ↓k_tk17, ↓k_l18, ↓k_r18, ↓k_se18, ↓k_ic18, ↓k_de18, ↓k_tk18, ↓k_l19, ↓k_r19, ↓k_se19, ↓k_ic19, ↓k_de19, ↓k_tk19, ↓k_l20, ↓k_r20, ↓k_se20, ↓k_ic20, ↓k_de20, ↓k_tk20, ↓k_l21, ↓k_r21, ↓k_se21, ↓k_ic21, ↓k_de21, ↓k_tk21, ↓k_l22, ↓k_r22, ↓k_se22, ↓k_ic22, ↓k_de22, ↓k_tk22, ↓k_l23, ↓k_r23, ↓k_se23, ↓k_ic23, ↓k_de23, ↓k_tk23, ↓k_l24, ↓k_r24, ↓k_se24, ↓k_ic24, ↓k_de24, ↓k_tk24, ↓k_l25, ↓k_r25, ↓k_se25, ↓k_ic25, ↓k_de25, ↓k_tk25, ↓k_k, ↓k_kn, ↓k_kl, ↓k_kln, ↓k_il, ↓k_2, ↓k_1, ↓k_2c, ↓k_2l, ↓k_ac, ↓k_an, ↓k_cs, ↓k_cv, ↓k_fi, ↓k_fr, ↓k_ai, ↓k_az, ↓k_ar, ↓k_sai, ↓k_saz, ↓k_soa, ↓k_sof, ↓k_spf, ↓k_sx, ↓k_blk, ↓k_sset, ↓k_sdec, ↓k_sri, ↓k_srv, ↓k_srr, ↓k_nop, ↓k_add, ↓k_sub, ↓k_mul, ↓k_min, ↓k_max, ↓k_shr, ↓k_shl, ↓k_or, ↓k_ilz, ↓k_addl, ↓k_rt, ↓k_rb, ↓k_rbz, ↓k_rsi, ↓k_rsr, ↓k_rsv, ↓reduceIte, one, ↓(k_cv1 dX9_start (t9 hA)), ↓cS, ↓(k_cv3 dX9_addRange (t9 hA)), ↓c2, ↓(k_cv3 dX10_addFilled (t10 oT)), ↓c3, ↓xr10_16 oT, ↓xr10_17 oT, List.length_cons, List.length_nil, List.forall_mem_cons, List.not_mem_nil, Value.category, true_and, and_true, false_and, and_false, or_true, true_or, or_false, false_or, Nat.zero_le, forall_const, implies_true, false_implies, Nat.zero_add, Nat.reduceAdd, Nat.reduceLT, Nat.reduceLeDiff, Nat.le_refl, not_true_eq_false, not_false_eq_true, r_eq, r_ne, r_lt, r_ge, r_gt, r_le, bz_ne, nn_toNat, cn_of, cn_0, cn_1, i10, Int.reduceLE, Int.reduceLT, Int.reduceEq, bz_T, bz_F, ite_self, mulc, st_bud]
  · subst z1
    refine ⟨G2, 0, fun x q1 q2 => (CFr_tr f1 f2).1 x q1 q2, Or.inr ⟨rfl, by omega⟩, fun K => ?_⟩
    clear kk1 kk2 kk3 kk4 kk5 room n5 s1 hw E cdI n5w prw hcd okw
    simp (disch := omega) only [↓fX10_turnAt.eq_1, ↓sX10_turnAt_.eq_1, ↓(k_cv3 dX10_addFilled (t10 oT)), ↓k_mk, ↓k_sq, ↓k_sk, ↓k_bk, ↓k_if, ↓k_te, ↓k_cm, ↓k_cz, ↓k_an2, ↓k_or2, ↓k_no, ↓k_ci, ↓k_l0, ↓k_r0, ↓k_se0, ↓k_ic0, ↓k_l1, ↓k_r1, ↓k_se1, ↓k_ic1, ↓k_de1, ↓k_tk1, ↓k_l2, ↓k_r2, ↓k_se2, ↓k_ic2, ↓k_de2, ↓k_tk2, ↓k_l3, ↓k_r3, ↓k_se3, ↓k_ic3, ↓k_de3, ↓k_tk3, ↓k_l4, ↓k_r4, ↓k_se4, ↓k_ic4, ↓k_de4, ↓k_tk4, ↓k_l5, ↓k_r5, ↓k_se5, ↓k_ic5, ↓k_de5, ↓k_tk5, ↓k_l6, ↓k_r6, ↓k_se6, ↓k_ic6, ↓k_de6, ↓k_tk6, ↓k_l7, ↓k_r7, ↓k_se7, ↓k_ic7, ↓k_de7, ↓k_tk7, ↓k_l8, ↓k_r8, ↓k_se8, ↓k_ic8, ↓k_de8, ↓k_tk8, ↓k_l9, ↓k_r9, ↓k_se9, ↓k_ic9, ↓k_de9, ↓k_tk9, ↓k_l10, ↓k_r10, ↓k_se10, ↓k_ic10, ↓k_de10, ↓k_tk10, ↓k_l11, ↓k_r11, ↓k_se11, ↓k_ic11, ↓k_de11, ↓k_tk11, ↓k_l12, ↓k_r12, ↓k_se12, ↓k_ic12, ↓k_de12, ↓k_tk12, ↓k_l13, ↓k_r13, ↓k_se13, ↓k_ic13, ↓k_de13, ↓k_tk13, ↓k_l14, ↓k_r14, ↓k_se14, ↓k_ic14, ↓k_de14, ↓k_tk14, ↓k_l15, ↓k_r15, ↓k_se15, ↓k_ic15, ↓k_de15, ↓k_tk15, ↓k_l16, ↓k_r16, ↓k_se16, ↓k_ic16, ↓k_de16, ↓k_tk16, ↓k_l17, ↓k_r17, ↓k_se17, ↓k_ic17, ↓k_de17, ↓k_tk17, ↓k_l18, ↓k_r18, ↓k_se18, ↓k_ic18, ↓k_de18, ↓k_tk18, ↓k_l19, ↓k_r19, ↓k_se19, ↓k_ic19, ↓k_de19, ↓k_tk19, ↓k_l20, ↓k_r20, ↓k_se20, ↓k_ic20, ↓k_de20, ↓k_tk20, ↓k_l21, ↓k_r21, ↓k_se21, ↓k_ic21, ↓k_de21, ↓k_tk21, ↓k_l22, ↓k_r22, ↓k_se22, ↓k_ic22, ↓k_de22, ↓k_tk22, ↓k_l23, ↓k_r23, ↓k_se23, ↓k_ic23, ↓k_de23, ↓k_tk23, ↓k_l24, ↓k_r24, ↓k_se24, ↓k_ic24, ↓k_de24, ↓k_tk24, ↓k_l25, ↓k_r25, ↓k_se25, ↓k_ic25, ↓k_de25, ↓k_tk25, ↓k_k, ↓k_kn, ↓k_kl, ↓k_kln, ↓k_il, ↓k_2, ↓k_1, ↓k_2c, ↓k_2l, ↓k_ac, ↓k_an, ↓k_cs, ↓k_cv, ↓k_fi, ↓k_fr, ↓k_ai, ↓k_az, ↓k_ar, ↓k_sai, ↓k_saz, ↓k_soa, ↓k_sof, ↓k_spf, ↓k_sx, ↓k_blk, ↓k_sset, ↓k_sdec, ↓k_sri, ↓k_srv, ↓k_srr, ↓k_nop, ↓k_add, ↓k_sub, ↓k_mul, ↓k_min, ↓k_max, ↓k_shr, ↓k_shl, ↓k_or, ↓k_ilz, ↓k_addl, ↓k_rt, ↓k_rb, ↓k_rbz, ↓k_rsi, ↓k_rsr, ↓k_rsv, ↓reduceIte, one, ↓(k_cv1 dX9_start (t9 hA)), ↓cS, ↓(k_cv3 dX9_addRange (t9 hA)), ↓c2, ↓xr10_16 oT, ↓xr10_17 oT, List.length_cons, List.length_nil, List.forall_mem_cons, List.not_mem_nil, Value.category, true_and, and_true, false_and, and_false, or_true, true_or, or_false, false_or, Nat.zero_le, forall_const, implies_true, false_implies, Nat.zero_add, Nat.reduceAdd, Nat.reduceLT, Nat.reduceLeDiff, Nat.le_refl, not_true_eq_false, not_false_eq_true, r_eq, r_ne, r_lt, r_ge, r_gt, r_le, bz_ne, nn_toNat, cn_of, cn_0, cn_1, i10, Int.reduceLE, Int.reduceLT, Int.reduceEq, bz_T, bz_F, ite_self, mulc, st_bud]
end
