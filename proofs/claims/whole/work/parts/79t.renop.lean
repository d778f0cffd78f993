section
/-! rename: the call -/
theorem hw_name {G : Nat → Int → Int} {B a : Nat} {v k : Int} (h : 0 ≤ HWf G B a v k) : 20 ≤ G (a + 1) (G (a + 8) k) ∧ G (a + 1) (G (a + 8) k) ≤ 35 := by
  by_cases g : 20 ≤ G (a + 1) (G (a + 8) k) ∧ G (a + 1) (G (a + 8) k) ≤ 35
  · exact g
  · unfold HWf hw at h
    rw [if_neg g] at h
    omega
/-- new codes for the leaves that go with l -/
def cdn (P : Int → Int) (cd : Int → Int) (l code j : Int) : Int := if ren P l j then code else cd j
theorem cdn_ok {G : Nat → Int → Int} {B a : Nat} {i v l code : Int} (hF : IFm G B) (tk : TOK G B 0 i v a) (tN : 1 ≤ G a 3) (hl : 0 ≤ HWf G B a v l) (l0 : 0 ≤ l) (c0 : 20 ≤ code) (c1 : code ≤ 35) : ∀ j, 0 ≤ j → j < G a 4 → (20 ≤ cdn (BTf G B a v (fun t => G (a + 1) (G (a + 8) t))) (fun t => G (a + 1) (G (a + 8) t)) l code j ∧ cdn (BTf G B a v (fun t => G (a + 1) (G (a + 8) t))) (fun t => G (a + 1) (G (a + 8) t)) l code j ≤ 1013) ∧ ((20 ≤ cdn (BTf G B a v (fun t => G (a + 1) (G (a + 8) t))) (fun t => G (a + 1) (G (a + 8) t)) l code j ∧ cdn (BTf G B a v (fun t => G (a + 1) (G (a + 8) t))) (fun t => G (a + 1) (G (a + 8) t)) l code j ≤ 35) ↔ (20 ≤ G (a + 1) (G (a + 8) j) ∧ G (a + 1) (G (a + 8) j) ≤ 35)) := by
  intro j j0 j1
  have kT := tk.2.2.2.1
  have kv := tk.2.2.1
  have hF14 := (hF _ kv.1 kv.2).2.2.1
  obtain ⟨_, _, _, p1, _, _⟩ := sx_f hF tk tN j0 j1
  have cb := Tr_cb kT hF14 tN (p := G (a + 8) j) (by omega) p1.2
  unfold cdn
  by_cases g : ren (BTf G B a v (fun t => G (a + 1) (G (a + 8) t))) l j
  · rw [if_pos g]
    have nm : 20 ≤ G (a + 1) (G (a + 8) j) ∧ G (a + 1) (G (a + 8) j) ≤ 35 := by
      rcases g with g | g
      · rw [g]
        exact hw_name hl
      · rcases BTf_b G B a v (fun t => G (a + 1) (G (a + 8) t)) j with w | ⟨w, _⟩
        · omega
        · exact hw_name (show 0 ≤ HWf G B a v j by omega)
    omega
  · rw [if_neg g]
    exact ⟨cb, Iff.rfl⟩
/-- every piece is a node or one of the leaves -/
theorem leaf_of {h F : Int} {ns I : Int → Int} {n N L : Int} {c e u s r na la : Int → Int} (t : Tr h F ns I n N L c e u s r na la) {p : Int} (p0 : 0 ≤ p) (p1 : p < n) (hn : ¬ 1000 ≤ c p) : 0 ≤ r p ∧ r p < L ∧ la (r p) = p := by
  have a := (t.2.2.2.2.2.2.1 p p0 p1).2 hn
  have b := nb_lb c p1 p0 hn
  have d := nb_b c p.toNat
  have e1 := t.2.2.2.2.2.1
  have e2 := t.1.2.2.2.2.2.1
  rw [a.1]
  exact ⟨by omega, by omega, a.2⟩
theorem slot_leaf {G : Nat → Int → Int} {B a : Nat} {h i v j : Int} (hF : IFm G B) (tk : TOK G B h i v a) (tN : 1 ≤ G a 3) (j0 : 0 ≤ j) (j1 : j < G a 4) : G (B + 544 + 21) (sx G a i j) = G (a + 1) (G (a + 8) j) := by
  have kT := tk.2.2.2.1
  obtain ⟨⟨f1, f2⟩, ⟨f3, f4⟩, _, ⟨f5, f6⟩, f7, _⟩ := sx_f hF tk tN j0 j1
  obtain ⟨u1, u2, u3, _, _, u6, u7, u8⟩ := Tr_par kT f5 f6
  obtain ⟨r1, r2, r3, r4⟩ := Tr_n kT u1 (by omega) u3
  have na : G (a + 7) (G (a + 6) (G (a + 3) (G (a + 8) j))) = G (a + 3) (G (a + 8) j) := by rw [r1]; exact r2
  obtain ⟨_, _, w3⟩ := tk.2.2.2.2.2.2 (G (a + 6) (G (a + 3) (G (a + 8) j))) f1 (by omega)
  rw [na] at w3
  have := w3 (G (a + 4) (G (a + 8) j)).toNat (by omega)
  rw [u8, Int.toNat_of_nonneg u6] at this
  unfold sx
  rw [this]
  unfold pc
  rw [if_neg f7]
/-- the reference's part up to the leaf that is caught -/
theorem ref_ren {T : Nat → Option q_T} {nx B a : Nat} {R : Nat → Nat → Option Value} {G Gc : Nat → Int → Int} {i v l to r : Int} (hM : Ly T R (B + 544) (L12 (B + 544))) (i0 : 0 ≤ i) (i1 : i < 100) (hF : IFm G B) (tk : TOK G B 0 i v a) (tN : 1 ≤ G a 3) (fw : FWB G Gc B) (l0 : 0 ≤ l) (l1 : l < G a 4) (hl : 0 < HWf G B a v l) (t0 : 0 ≤ to) (t1 : to ≤ 15)
    (hr : (r = -1 ∧ ∀ k, 0 ≤ k → k < G a 4 → BTf G B a v (cdn (BTf G B a v (fun t => G (a + 1) (G (a + 8) t))) (fun t => G (a + 1) (G (a + 8) t)) l (20 + to)) k = BTf G B a v (fun t => G (a + 1) (G (a + 8) t)) k) ∨ (0 ≤ r ∧ r < G a 4 ∧ ¬ BTf G B a v (cdn (BTf G B a v (fun t => G (a + 1) (G (a + 8) t))) (fun t => G (a + 1) (G (a + 8) t)) l (20 + to)) r = BTf G B a v (fun t => G (a + 1) (G (a + 8) t)) r ∧ ∀ k, 0 ≤ k → k < r → BTf G B a v (cdn (BTf G B a v (fun t => G (a + 1) (G (a + 8) t))) (fun t => G (a + 1) (G (a + 8) t)) l (20 + to)) k = BTf G B a v (fun t => G (a + 1) (G (a + 8) t)) k)) :
    ∃ Gw Gx Gy, CH Gc Gw B 0 0 0 ∧ (∀ x, ¬ x = (B + 544 + 68) → Gx x = Gw x) ∧ Rk G Gx Gy B a i (fun t => G (a + 1) (G (a + 8) t)) (cdn (BTf G B a v (fun t => G (a + 1) (G (a + 8) t))) (fun t => G (a + 1) (G (a + 8) t)) l (20 + to)) (G a 4) ∧ RB G Gw B a i v (fun t => G (a + 1) (G (a + 8) t)) ∧ RB G Gy B a i v (cdk (fun t => G (a + 1) (G (a + 8) t)) (cdn (BTf G B a v (fun t => G (a + 1) (G (a + 8) t))) (fun t => G (a + 1) (G (a + 8) t)) l (20 + to)) (G a 4)) ∧ (∀ k, 0 ≤ k → k < G a 4 → Gy (B + 544 + 68) k = BTf G B a v (fun t => G (a + 1) (G (a + 8) t)) k) ∧
      (∀ K : Option Value → q_M → Prop, fX12_walk [.ref (B + 544), .int (zI i)] (st T nx 0 0 R Gc) K = K none (st T nx 0 0 R Gw)) ∧
      (∀ (Kn : List Value → q_M → Prop) (Kr : Option Value → q_M → Prop), wX12_rename_0 [.ref (B + 544), .int (zI i), .int (zI l), .int (zI to), .int (zI (G (a + 1) (G (a + 8) l))), .int (zI 0)] (st T nx 0 0 R Gw) Kn Kr = Kn [.ref (B + 544), .int (zI i), .int (zI l), .int (zI to), .int (zI (G (a + 1) (G (a + 8) l))), .int (zI (G a 4).toNat)] (st T nx 0 0 R Gx)) ∧
      (∀ (Kn : List Value → q_M → Prop) (Kr : Option Value → q_M → Prop), wX12_rename_1 [.ref (B + 544), .int (zI i), .int (zI l), .int (zI to), .int (zI (G (a + 1) (G (a + 8) l))), .int (zI 0)] (st T nx 0 0 R Gx) Kn Kr = Kn [.ref (B + 544), .int (zI i), .int (zI l), .int (zI to), .int (zI (G (a + 1) (G (a + 8) l))), .int (zI (G a 4).toNat)] (st T nx 0 0 R Gy)) ∧
      (∀ (Kn : List Value → q_M → Prop) (Kr : Option Value → q_M → Prop), wX12_rename_2 [.ref (B + 544), .int (zI i), .int (zI l), .int (zI to), .int (zI (G (a + 1) (G (a + 8) l))), .int (zI (-1)), .int (zI (G a 4 - 1))] (st T nx 0 0 R Gy) Kn Kr = Kn [.ref (B + 544), .int (zI i), .int (zI l), .int (zI to), .int (zI (G (a + 1) (G (a + 8) l))), .int (zI r), .int (zI (-1))] (st T nx 0 0 R Gy)) := by
  have kT := tk.2.2.2.1
  have kv := tk.2.2.1
  have hF14 := (hF _ kv.1 kv.2).2.2.1
  have LN := kT.1.2.2.2.2.2.1
  have n2 := kT.1.2.1
  have N0 := kT.1.2.2.1
  obtain ⟨Gw, b1, _, _, _, b5, b6⟩ := c12_walkG (nx := nx) (rc := 0) (rs := 0) (R := R) (T := T) hM i0 (by omega) hF tk fw
  obtain ⟨b5, b7⟩ := b5 tN
  have rb : RB G Gw B a i v (fun t => G (a + 1) (G (a + 8) t)) := ⟨hF, tk, tN, fun x q1 q2 => by rw [b1.1 x (by omega) (by omega), fw x (by omega) (by omega) (by omega)], b5, fun k k0 k1 => by
    obtain ⟨q1, q2, _⟩ := kT.2.2.2.2.2.2.2.2 k k0 (by omega)
    obtain ⟨y1, y2, y3⟩ := b7 k k0 k1
    exact ⟨y1, y2, y3, Tr_cb kT hF14 tN q1 q2, Iff.rfl⟩⟩
  have slw : ∀ j, 0 ≤ j → j < G a 4 → Gw (B + 544 + 21) (sx G a i j) = G (a + 1) (G (a + 8) j) := fun j j0 j1 => by
    rw [b1.1 _ (by omega) (by omega), fw _ (by omega) (by omega) (by omega)]
    exact slot_leaf hF tk tN j0 j1
  obtain ⟨Gx, x1, x2, x3⟩ := w12_ren0 (T := T) (nx := nx) (rc := 0) (rs := 0) (R := R) (l := l) (x3 := .int (zI to)) (x4 := .int (zI (G (a + 1) (G (a + 8) l)))) hM i0 i1 l0 l1 rb
  have rbx : RB G Gx B a i v (fun t => G (a + 1) (G (a + 8) t)) := RB_congr rb (fun x q1 q2 => x1 x (by omega)) (x1 _ (by omega)) (x1 _ (by omega)) (x1 _ (by omega)) (x1 _ (by omega))
  have ok := cdn_ok hF tk tN (l := l) (by omega) l0 (show 20 ≤ 20 + to by omega) (show 20 + to ≤ 35 by omega)
  have Pb : ∀ k, 0 ≤ k → k < G a 4 → (-1 ≤ BTf G B a v (fun t => G (a + 1) (G (a + 8) t)) k ∧ BTf G B a v (fun t => G (a + 1) (G (a + 8) t)) k < 201) ∧ (BTf G B a v (fun t => G (a + 1) (G (a + 8) t)) k = l → HWf G B a v k = 0) ∧ (¬ HWf G B a v k = 0 → BTf G B a v (fun t => G (a + 1) (G (a + 8) t)) k = -1) := fun k k0 k1 => by
    rcases BTf_b G B a v (fun t => G (a + 1) (G (a + 8) t)) k with w | ⟨w1, w2, w3, _⟩
    · exact ⟨by omega, fun z => by omega, fun _ => w⟩
    · exact ⟨by omega, fun _ => w1, fun z => absurd w1 z⟩
  obtain ⟨Gy, y1, y2⟩ := w12_ren1 (T := T) (nx := nx) (rc := 0) (rs := 0) (R := R) (l := l) (to := to) (code := 20 + to) (x4 := .int (zI (G (a + 1) (G (a + 8) l)))) (cd' := cdn (BTf G B a v (fun t => G (a + 1) (G (a + 8) t))) (fun t => G (a + 1) (G (a + 8) t)) l (20 + to)) (P := BTf G B a v (fun t => G (a + 1) (G (a + 8) t))) hM i0 i1 l0 l1 rbx ok (fun k k0 k1 => ⟨x2 k k0 k1, (Pb k k0 k1).1, (Pb k k0 k1).2.1⟩) (fun j _ _ => rfl) (fun j j0 j1 => by rw [x1 _ (by omega)]; exact slw j j0 j1) rfl
  have rby := Rk_RB rbx y1 ok
  have bw : ∀ k, 0 ≤ k → k < G a 4 → Gy (B + 544 + 68) k = BTf G B a v (fun t => G (a + 1) (G (a + 8) t)) k := fun k k0 k1 => by rw [y1.1 _ (by omega) (by omega)]; exact x2 k k0 k1
  have ec : ∀ k, 0 ≤ k → k < G a 4 → BTf G B a v (cdk (fun t => G (a + 1) (G (a + 8) t)) (cdn (BTf G B a v (fun t => G (a + 1) (G (a + 8) t))) (fun t => G (a + 1) (G (a + 8) t)) l (20 + to)) (G a 4)) k = BTf G B a v (cdn (BTf G B a v (fun t => G (a + 1) (G (a + 8) t))) (fun t => G (a + 1) (G (a + 8) t)) l (20 + to)) k := fun k k0 k1 => BTf_congr (fun t t0 t1 => by unfold cdk; rw [if_pos t1]) k0 k1
  have er := ctc_r (P := BTf G B a v (fun t => G (a + 1) (G (a + 8) t))) (P' := BTf G B a v (cdk (fun t => G (a + 1) (G (a + 8) t)) (cdn (BTf G B a v (fun t => G (a + 1) (G (a + 8) t))) (fun t => G (a + 1) (G (a + 8) t)) l (20 + to)) (G a 4))) (L := G a 4) (r := r) (by omega) (by
    rcases hr with ⟨h1, h2⟩ | ⟨h1, h2, h3, h4⟩
    · exact Or.inl ⟨h1, fun k k0 k1 => by rw [ec k k0 k1]; exact h2 k k0 k1⟩
    · exact Or.inr ⟨h1, h2, by rw [ec r h1 h2]; exact h3, fun k k0 k1 => by rw [ec k k0 (by omega)]; exact h4 k k0 k1⟩)
  have w2 := w12_ren2 (T := T) (nx := nx) (rc := 0) (rs := 0) (R := R) (l := l) (P := BTf G B a v (fun t => G (a + 1) (G (a + 8) t))) (x3 := .int (zI to)) (x4 := .int (zI (G (a + 1) (G (a + 8) l)))) hM i0 i1 l0 l1 rby (fun k k0 k1 => ⟨bw k k0 k1, (Pb k k0 k1).1, (Pb k k0 k1).2.2⟩)
  rw [er] at w2
  exact ⟨Gw, Gx, Gy, b1, x1, y1, rb, rby, bw, b6, x3, y2, w2⟩
/-- the class's part: bound, spread, bound anew -/
theorem cls_ren {T : Nat → Option q_T} {nx B a : Nat} {R : Nat → Nat → Option Value} {G G1 : Nat → Int → Int} {i v l to : Int} (oB : Ly T R (B + 46) (L0 (B + 46))) (h8 : Ly T R (tvA B v) (L8 (tvA B v))) (h9 : Ly T R a (L9 a)) (hF : IFm G B) (tk : TOK G B 0 i v a) (tN : 1 ≤ G a 3) (oa : B + 398 ≤ a ∧ a + 10 ≤ B + 518) (bd : BDo G G1 B a (B + 46) v) (l0 : 0 ≤ l) (l1 : l < G a 4) (hl : 0 < HWf G B a v l) (t0 : 0 ≤ to) (t1 : to ≤ 15) :
    ∃ Gr Gs Gb, (∀ K : Option Value → q_M → Prop, fX0_remember [.ref (B + 46)] (st T nx 0 0 R G1) K = K none (st T nx 0 0 R Gr)) ∧ (∀ K : Option Value → q_M → Prop, fX0_spread [.ref (B + 46), .ref a, .int (zI l), .int (zI (20 + to))] (st T nx 0 0 R Gr) K = K none (st T nx 0 0 R Gs)) ∧ (∀ K : Option Value → q_M → Prop, fX0_bind [.ref (B + 46), .ref (tvA B v), .ref a] (st T nx 0 0 R Gs) K = K none (st T nx 0 0 R Gb)) ∧ Gs a = G a ∧
      (∀ x, ¬ (B + 46 ≤ x ∧ x ≤ B + 50) → ¬ x = a + 1 → Gb x = G x) ∧ (∀ j, ¬ j = 1 → Gb (B + 46) j = G (B + 46) j) ∧ (∀ k, 0 ≤ k → k < G a 4 → Gb (a + 1) (G (a + 8) k) = cdn (BTf G B a v (fun t => G (a + 1) (G (a + 8) t))) (fun t => G (a + 1) (G (a + 8) t)) l (20 + to) k) ∧ (∀ p, (∀ k, 0 ≤ k → k < G a 4 → ¬ p = G (a + 8) k) → Gb (a + 1) p = G (a + 1) p) ∧ Rn (G a 2) (G (a + 1)) (Gb (a + 1)) ∧
      Ro Gb (B + 46) 4 (G a 4) (BTf G B a v (fun t => G (a + 1) (G (a + 8) t))) ∧ Ro Gb (B + 46) 1 (G a 4) (BTf G B a v (cdn (BTf G B a v (fun t => G (a + 1) (G (a + 8) t))) (fun t => G (a + 1) (G (a + 8) t)) l (20 + to))) := by
  have kT := tk.2.2.2.1
  have kv := tk.2.2.1
  have LN := kT.1.2.2.2.2.2.1
  have n2 := kT.1.2.1
  have N0 := kT.1.2.2.1
  have L0' := kT.1.2.2.2.2.1
  have lb : G a 4 ≤ 201 := by omega
  obtain ⟨d1, d2, d3, d4⟩ := bd
  have Pb : ∀ k, (-1 ≤ BTf G B a v (fun t => G (a + 1) (G (a + 8) t)) k ∧ BTf G B a v (fun t => G (a + 1) (G (a + 8) t)) k < 201) := fun k => by
    rcases BTf_b G B a v (fun t => G (a + 1) (G (a + 8) t)) k with w | ⟨w1, w2, w3, _⟩ <;> omega
  obtain ⟨Gr, hGr⟩ : ∃ M, M = cpG G1 (B + 46 + 1) 0 (B + 46 + 4) 0 (G a 4) := ⟨_, rfl⟩
  have r1 : ∀ x, ¬ x = B + 46 + 4 → Gr x = G1 x := fun x q => by rw [hGr, cpG_ne q]
  have r2 : ∀ k, 0 ≤ k → k < G a 4 → Gr (B + 46 + 4) k = BTf G B a v (fun t => G (a + 1) (G (a + 8) t)) k := fun k k0 k1 => by
    rw [hGr, cp_eq, fw_in k0 (by omega)]
    show G1 (B + 46 + 1) (0 + (k - 0)) = _
    rw [show 0 + (k - 0) = k by omega]
    exact (d4 k k0 k1).2.2
  have ro : Ro Gr (B + 46) 4 (G a 4) (BTf G B a v (fun t => G (a + 1) (G (a + 8) t))) := by
    refine ⟨by rw [r1 _ (by omega)]; exact d3, ⟨L0', lb⟩, fun k k0 k1 => ?_⟩
    rw [r1 (B + 46 + 2) (by omega), (d4 k k0 k1).1, r2 k k0 k1]
    refine ⟨hw_b hF tk tN k0 k1, ?_, Pb k⟩
    by_cases g : HWf G B a v k = 0
    · rw [if_pos g]
    · rw [if_neg g]
      unfold BTf
      rw [if_neg g]
  obtain ⟨Gs, s1, s2, s3, s4⟩ := c0_spread (T := T) (nx := nx) (rc := 0) (rs := 0) (R := R) (G := Gr) (P := BTf G B a v (fun t => G (a + 1) (G (a + 8) t))) (la := G (a + 8)) (L := G a 4) (l := l) (code := 20 + to) oB h9 (by omega) ro l0 (by omega) (fun k k0 k1 => by
    obtain ⟨_, _, _, p1, _, _⟩ := sx_f hF tk tN k0 k1
    rw [r1 _ (by omega), d1 _ (by omega)]
    exact ⟨rfl, by omega, by omega⟩) (fun j k j0 j1 k0 k1 w => by
    have q1 := (sx_f hF tk tN j0 j1).2.2.2.2.2
    have q2 := (sx_f hF tk tN k0 k1).2.2.2.2.2
    rw [← q1, ← q2, w])
  have ec : Gr (a + 1) = G (a + 1) := by rw [r1 _ (by omega), d1 _ (by omega)]
  rw [ec] at s2 s3
  have ok := cdn_ok hF tk tN (l := l) (by omega) l0 (show 20 ≤ 20 + to by omega) (show 20 + to ≤ 35 by omega)
  have e1 : ∀ x, ¬ (B + 46 ≤ x ∧ x ≤ B + 50) → ¬ x = a + 1 → Gs x = G x := fun x q1 q2 => by rw [s1 x q2, r1 x (by omega), d1 x (by omega)]
  have rn : Rn (G a 2) (G (a + 1)) (Gs (a + 1)) := fun p p0 p1 => by
    by_cases g : 1000 ≤ G (a + 1) p
    · refine Or.inl (s3 p (fun k k0 k1 w => ?_))
      have := (sx_f hF tk tN k0 k1).2.2.2.2.1
      rw [← w] at this
      exact this g
    · obtain ⟨q1, q2, q3⟩ := leaf_of kT p0 p1 g
      have := s2 _ q1 q2
      rw [q3] at this
      have ok2 := (ok _ q1 q2).2
      unfold cdn at ok2
      rw [q3] at ok2
      by_cases w : ren (BTf G B a v (fun t => G (a + 1) (G (a + 8) t))) l (G (a + 6) p)
      · rw [if_pos w] at this ok2
        have nm := ok2.mp (by omega)
        exact Or.inr ⟨nm, by omega⟩
      · rw [if_neg w] at this
        exact Or.inl this
  have a2 : Gs a = G a := e1 _ (by omega) (by omega)
  have hF2 : IFm Gs B := IFm_congr (fun x q1 q2 _ _ => e1 x (by omega) (by omega)) (fun x q1 q2 => e1 x (by omega) (by omega)) hF
  have tvb : B + 370 ≤ tvA B v ∧ tvA B v + 14 ≤ B + 398 := by unfold tvA; omega
  have f1 : Gs (tvA B v) = G (tvA B v) := e1 _ (by omega) (by omega)
  have f5 : Gs (tvA B v + 5) = G (tvA B v + 5) := e1 _ (by omega) (by omega)
  have f6 : Gs (tvA B v + 6) = G (tvA B v + 6) := e1 _ (by omega) (by omega)
  have f8 : Gs (tvA B v + 8) = G (tvA B v + 8) := e1 _ (by omega) (by omega)
  have f10 : Gs (tvA B v + 10) = G (tvA B v + 10) := e1 _ (by omega) (by omega)
  have g2 : Gs (a + 2) = G (a + 2) := e1 _ (by omega) (by omega)
  have g3 : Gs (a + 3) = G (a + 3) := e1 _ (by omega) (by omega)
  have g4 : Gs (a + 4) = G (a + 4) := e1 _ (by omega) (by omega)
  have g6 : Gs (a + 6) = G (a + 6) := e1 _ (by omega) (by omega)
  have g7 : Gs (a + 7) = G (a + 7) := e1 _ (by omega) (by omega)
  have g8 : Gs (a + 8) = G (a + 8) := e1 _ (by omega) (by omega)
  have ct2 : CT Gs B a v := by
    refine ⟨hF2, kv, by rw [a2]; exact tN, ?_⟩
    unfold TRa
    rw [a2, f1, f5, f6, g2, g3, g4, g6, g7, g8]
    exact Tr_ren kT rn
  obtain ⟨Gb, bd2, w2⟩ := c0_bind (T := T) (nx := nx) (rc := 0) (rs := 0) (R := R) oB h8 h9 ct2 (by omega) (by omega)
  obtain ⟨h1, h2, h3, h4⟩ := bd2
  have cs : ∀ k, 0 ≤ k → k < G a 4 → Gs (a + 1) (G (a + 8) k) = cdn (BTf G B a v (fun t => G (a + 1) (G (a + 8) t))) (fun t => G (a + 1) (G (a + 8) t)) l (20 + to) k := fun k k0 k1 => s2 k k0 k1
  have eH : ∀ k, 0 ≤ k → k < G a 4 → HWf Gs B a v k = HWf G B a v k := fun k k0 k1 => by
    obtain ⟨_, _, _, p1, p2, _⟩ := sx_f hF tk tN k0 k1
    obtain ⟨u1, u2, u3, _⟩ := Tr_par kT p1.1 p1.2
    have q1 := (Rn_n rn (p := G (a + 8) k) (by omega) p1.2).2.2
    have q2 := (Rn_n rn (p := G (a + 3) (G (a + 8) k)) u1 (by omega)).2.1 u3
    unfold HWf hw
    rw [f8, g3, g4, g8, q2]
    by_cases w : 20 ≤ G (a + 1) (G (a + 8) k) ∧ G (a + 1) (G (a + 8) k) ≤ 35
    · rw [if_pos w, if_pos (q1.mpr w)]
    · rw [if_neg w, if_neg (fun z => w (q1.mp z))]
  have eR : ∀ k, 0 ≤ k → k < G a 4 → RCf Gs B a v k = RCf G B a v k := fun k k0 k1 => by
    obtain ⟨_, _, _, p1, p2, _⟩ := sx_f hF tk tN k0 k1
    obtain ⟨u1, u2, u3, _⟩ := Tr_par kT p1.1 p1.2
    unfold RCf rcl
    rw [f10, g3, g8, rch_ren kT rn _ 202 _ (Or.inr ⟨u1, by omega, u3⟩)]
  have row1 : ∀ k, 0 ≤ k → k < G a 4 → Gb (B + 46 + 1) k = BTf G B a v (cdn (BTf G B a v (fun t => G (a + 1) (G (a + 8) t))) (fun t => G (a + 1) (G (a + 8) t)) l (20 + to)) k := fun k k0 k1 => by
    rw [(h4 k k0 (by rw [a2]; exact k1)).2.2, eH k k0 k1, a2, g2, g8]
    rw [bst_congr k0 k1 (fun t t0 t1 => ⟨eH t t0 t1, cs t t0 t1, fun _ => eR t t0 t1⟩) (G a 4).toNat (by omega)]
    rfl
  have Pb2 : ∀ k, (-1 ≤ BTf G B a v (cdn (BTf G B a v (fun t => G (a + 1) (G (a + 8) t))) (fun t => G (a + 1) (G (a + 8) t)) l (20 + to)) k ∧ BTf G B a v (cdn (BTf G B a v (fun t => G (a + 1) (G (a + 8) t))) (fun t => G (a + 1) (G (a + 8) t)) l (20 + to)) k < 201) := fun k => by
    rcases BTf_b G B a v (cdn (BTf G B a v (fun t => G (a + 1) (G (a + 8) t))) (fun t => G (a + 1) (G (a + 8) t)) l (20 + to)) k with w | ⟨w1, w2, w3, _⟩ <;> omega
  have b4 : Gb (a + 1) = Gs (a + 1) := h1 _ (by omega)
  have hB2 : ∀ k, 0 ≤ k → k < G a 4 → Gb (B + 46 + 2) k = HWf G B a v k := fun k k0 k1 => by
    rw [(h4 k k0 (by rw [a2]; exact k1)).1, eH k k0 k1]
  refine ⟨Gr, Gs, Gb, fun K => by rw [hGr]; exact c0_remember oB d3 L0' lb, s4, w2, a2, fun x q1 q2 => by rw [h1 x (by omega), e1 x q1 q2], fun j q => by rw [h2 j q, s1 _ (by omega), r1 _ (by omega), d2 j q], fun k k0 k1 => by rw [b4]; exact cs k k0 k1, fun p hp => by rw [b4]; exact s3 p hp, by rw [b4]; exact rn, ⟨by rw [h3, a2], ⟨L0', lb⟩, fun k k0 k1 => ?_⟩, ⟨by rw [h3, a2], ⟨L0', lb⟩, fun k k0 k1 => ?_⟩⟩
  · have e4 : Gb (B + 46 + 4) k = BTf G B a v (fun t => G (a + 1) (G (a + 8) t)) k := by rw [h1 _ (by omega), s1 _ (by omega)]; exact r2 k k0 k1
    rw [hB2 k k0 k1, e4]
    refine ⟨hw_b hF tk tN k0 k1, ?_, Pb k⟩
    by_cases g : HWf G B a v k = 0
    · rw [if_pos g]
    · rw [if_neg g]
      unfold BTf
      rw [if_neg g]
  · rw [hB2 k k0 k1, row1 k k0 k1]
    refine ⟨hw_b hF tk tN k0 k1, ?_, Pb2 k⟩
    by_cases g : HWf G B a v k = 0
    · rw [if_pos g]
    · rw [if_neg g]
      unfold BTf
      rw [if_neg g]
/-- the renamed tree is one in both -/
theorem TOK_ren {G G' : Nat → Int → Int} {B a : Nat} {h i v : Int} {cd' : Int → Int} (hF : IFm G B) (tk : TOK G B h i v a) (tN : 1 ≤ G a 3) (i0 : 0 ≤ i) (hg : TvE G G' B v) (ha : ∀ x, a ≤ x → x < a + 9 → ¬ x = a + 1 → G' x = G x) (rn : Rn (G a 2) (G (a + 1)) (G' (a + 1))) (hm : ∀ x, B + 544 + 16 ≤ x → x ≤ B + 544 + 20 → G' x = G x) (hl : ∀ k, 0 ≤ k → k < G a 4 → G' (a + 1) (G (a + 8) k) = cd' k ∧ G' (B + 544 + 21) (sx G a i k) = cd' k) (hs : ∀ y, (∀ j, 0 ≤ j → j < G a 4 → ¬ y = sx G a i j) → G' (B + 544 + 21) y = G (B + 544 + 21) y) : TOK G' B h i v a := by
  have kT := tk.2.2.2.1
  have kR := tk.2.2.2.2
  obtain ⟨e1, e5, e6⟩ := hg
  have N1 := kT.1.2.2.2.1
  refine ⟨by rw [ha a (by omega) (by omega) (by omega)]; exact tk.1, by rw [hm _ (by omega) (by omega)]; exact tk.2.1, tk.2.2.1, ?_, ?_⟩
  · unfold TRa
    rw [e1, e5, e6, ha a (by omega) (by omega) (by omega), ha (a + 2) (by omega) (by omega) (by omega), ha (a + 3) (by omega) (by omega) (by omega), ha (a + 4) (by omega) (by omega) (by omega), ha (a + 6) (by omega) (by omega) (by omega), ha (a + 7) (by omega) (by omega) (by omega), ha (a + 8) (by omega) (by omega) (by omega)]
    exact Tr_ren kT rn
  · unfold RLa
    rw [e5, ha a (by omega) (by omega) (by omega), ha (a + 2) (by omega) (by omega) (by omega), ha (a + 3) (by omega) (by omega) (by omega), ha (a + 6) (by omega) (by omega) (by omega), ha (a + 7) (by omega) (by omega) (by omega), hm (B + 544 + 17) (by omega) (by omega), hm (B + 544 + 18) (by omega) (by omega), hm (B + 544 + 19) (by omega) (by omega), hm (B + 544 + 20) (by omega) (by omega)]
    refine ⟨kR.1, fun z => by omega, fun m m0 m1 => ?_⟩
    obtain ⟨a1, a2, a3⟩ := kR.2.2 m m0 m1
    obtain ⟨p0, p1, p2, p3, p4⟩ := Tr_m kT m0 m1
    have ec := (Rn_n rn p0 p1).2.1 p2
    rw [ec]
    refine ⟨a1, a2, fun k hk => ?_⟩
    obtain ⟨_, _, b3⟩ := kT.2.2.2.1 _ p0 p1 p2
    obtain ⟨x1, x2, x3, x4, x5⟩ := b3 k hk
    obtain ⟨x, hx⟩ : ∃ x, x = chI (G (a + 2)) (G (a + 7) m) k := ⟨_, rfl⟩
    have old := a3 k hk
    rw [← hx] at x1 x2 x3 x4 old ⊢
    have es : 5 * (40 * i + m) + (k : Int) = 5 * (40 * i + G (a + 6) (G (a + 3) x)) + G (a + 4) x := by rw [x3, x4, p4]
    have rx := Rn_n rn (p := x) (by omega) x2
    unfold pc at old ⊢
    by_cases g : 1000 ≤ G (a + 1) x
    · rw [if_pos g] at old
      rw [if_pos (rx.1.mpr g), hs _ (fun j j0 j1 w => ?_)]
      · exact old
      · have := sx_inj hF tk tN j0 j1 (by omega) x2 (by rw [← es]; exact w)
        have ne := (sx_f hF tk tN j0 j1).2.2.2.2.1
        rw [← this] at ne
        exact ne g
    · rw [if_neg (fun z => g (rx.1.mp z))]
      obtain ⟨q1, q2, q3⟩ := leaf_of kT (by omega) x2 g
      have w := hl _ q1 q2
      unfold sx at w
      rw [q3] at w
      rw [es, w.2, w.1]
theorem op_39 (x1 : Int32) (x2 : Int32) (x3 : Int32) : OpOK fX11_rename fX12_rename [.int x1, .int x2, .int x3] := by
  obtain ⟨v1, rfl, a1, b1⟩ := zI_ex x1
  obtain ⟨v2, rfl, a2, b2⟩ := zI_ex x2
  obtain ⟨v3, rfl, a3, b3⟩ := zI_ex x3
  intro T nx B R G hI
  have hI0 := hI
  obtain ⟨⟨j1, j2, j3, j4, hL, hM⟩, iLn, iFm, iTx, iWo, iLa, iSh, iMp, iRe⟩ := hI0
  by_cases hv : (0 ≤ v1 ∧ v1 ≤ 11) ∧ G (B + 398 + 10 * v1.toNat) 0 = 1
  · obtain ⟨tk, tN, tp⟩ := ITr_tell1 (iRe.1 v1 hv.1.1 hv.1.2) hv.2
    have tb := TOK_b tk
    have h9 := o11_3 hL (i := v1.toNat) (by omega)
    have oB := o11_14 hL
    obtain ⟨v, hvv⟩ : ∃ v, v = G (B + 398 + 10 * v1.toNat) 1 := ⟨_, rfl⟩
    rw [← hvv] at tk tb
    have vb := tk.2.2.1
    have h8 : Ly T R (tvA B v) (L8 (tvA B v)) := o11_0 hL (i := v.toNat) (by omega)
    refine op_gen fun K hK => ?_
    by_cases hl : 0 ≤ v2 ∧ v2 ≤ G (B + 398 + 10 * v1.toNat) 4 - 1
    · have l1 : v2 < G (B + 398 + 10 * v1.toNat) 4 := by omega
      by_cases ht : 0 ≤ v3 ∧ v3 ≤ 15
      · obtain ⟨G1, G2, bd, b1, rb, s1, s2⟩ := bind_both (T := T) (nx := nx) hL hM iFm h9 tk tN hv.1.1 (by omega) (by omega) (by omega)
        have lo1 := bind_lo bd
        have eT : G1 (B + 544 + 16) = G (B + 544 + 16) := bd.1 _ (by omega)
        obtain ⟨d1, d2, d3⟩ := bd.2.2.2 v2 hl.1 l1
        have hwb := hw_b iFm tk tN hl.1 l1
        obtain ⟨h', hh⟩ : ∃ h', h' = HWf G B (B + 398 + 10 * v1.toNat) v v2 := ⟨_, rfl⟩
        have d1' := d1
        rw [← hh] at d1' hwb
        have cT := fun (K : Option Value → q_M → Prop) => c0_isTell (T := T) (nx := nx) (rc := 0) (rs := 0) (R := R) (G := G1) (l := v2) (K := K) oB hl.1 (by omega) d1' hwb.1 hwb.2
        have A1 : G1 (B + 398 + 10 * v1.toNat) 1 = v := by rw [bd.1 _ (by omega)]; exact tk.1
        by_cases g1 : 0 < h'
        · obtain ⟨Gr, Gs, Gb, c1, c2, c3, as1, n1, n2, n3, n4, rn, ro4, ro1⟩ := cls_ren (T := T) (nx := nx) oB h8 h9 iFm tk tN (by omega) bd hl.1 l1 (by rw [← hh]; exact g1) ht.1 ht.2
          obtain ⟨r, hr, cF⟩ := c0_firstCaught (T := T) (nx := nx) (rc := 0) (rs := 0) (R := R) oB ro4 ro1
          have hl' : 0 < HWf G B (B + 398 + 10 * v1.toNat) v v2 := by rw [← hh]; exact g1
          have x8 : G1 ((B + 398 + 10 * v1.toNat) + 8) v2 = G ((B + 398 + 10 * v1.toNat) + 8) v2 := by rw [bd.1 _ (by omega)]
          obtain ⟨_, _, _, ⟨p0, p1⟩, p2, _⟩ := sx_f iFm tk tN hl.1 l1
          have A1s : Gs (B + 398 + 10 * v1.toNat) 1 = v := by rw [as1]; exact tk.1
          have cb2 : ∀ K : Option Value → q_M → Prop, fX11_bindTree [.ref B, .ref (B + 398 + 10 * v1.toNat)] (st T nx 0 0 R Gs) K = K none (st T nx 0 0 R Gb) := fun K => by
            have c3' : ∀ K : Option Value → q_M → Prop, fX0_bind [.ref (B + 46), .ref (B + 370 + 14 * v.toNat), .ref (B + 398 + 10 * v1.toNat)] (st T nx 0 0 R Gs) K = K none (st T nx 0 0 R Gb) := c3
            simp (disch := omega) only [↓fX11_bindTree.eq_1, ↓sX11_bindTree_.eq_1, ↓(k_cv2 dX0_bind (t0 oB)), ↓k_mk, ↓k_sq, ↓k_sk, ↓k_bk, ↓k_if, ↓k_te, ↓k_cm, ↓k_cz, ↓k_an2, ↓k_or2, ↓k_no, ↓k_ci, ↓k_l0, ↓k_r0, ↓k_se0, ↓k_ic0, ↓k_l1, ↓k_r1, ↓k_se1, ↓k_ic1, ↓k_de1, ↓k_tk1, ↓k_l2, ↓k_r2, ↓k_se2, ↓k_ic2, ↓k_de2, ↓k_tk2, ↓k_l3, ↓k_r3, ↓k_se3, ↓k_ic3, ↓k_de3, ↓k_tk3, ↓k_l4, ↓k_r4, ↓k_se4, ↓k_ic4, ↓k_de4, ↓k_tk4, ↓k_l5, ↓k_r5, ↓k_se5, ↓k_ic5, ↓k_de5, ↓k_tk5, ↓k_l6, ↓k_r6, ↓k_se6, ↓k_ic6, ↓k_de6, ↓k_tk6, ↓k_l7, ↓k_r7, ↓k_se7, ↓k_ic7, ↓k_de7, ↓k_tk7, ↓k_l8, ↓k_r8, ↓k_se8, ↓k_ic8, ↓k_de8, ↓k_tk8, ↓k_l9, ↓k_r9, ↓k_se9, ↓k_ic9, ↓k_de9, ↓k_tk9, ↓k_l10, ↓k_r10, ↓k_se10, ↓k_ic10, ↓k_de10, ↓k_tk10, ↓k_l11, ↓k_r11, ↓k_se11, ↓k_ic11, ↓k_de11, ↓k_tk11, ↓k_l12, ↓k_r12, ↓k_se12, ↓k_ic12, ↓k_de12, ↓k_tk12, ↓k_l13, ↓k_r13, ↓k_se13, ↓k_ic13, ↓k_de13, ↓k_tk13, ↓k_l14, ↓k_r14, ↓k_se14, ↓k_ic14, ↓k_de14, ↓k_tk14, ↓k_l15, ↓k_r15, ↓k_se15, ↓k_ic15, ↓k_de15, ↓k_tk15, ↓k_l16, ↓k_r16, ↓k_se16, ↓k_ic16, ↓k_de16, ↓k_tk16, ↓k_l17, ↓k_r17, ↓k_se17, ↓k_ic17, ↓k_de17, ↓k_tk17, ↓k_l18, ↓k_r18, ↓k_se18, ↓k_ic18, ↓k_de18, ↓k_tk18, ↓k_l19, ↓k_r19, ↓k_se19, ↓k_ic19, ↓k_de19, ↓k_tk19, ↓k_l20, ↓k_r20, ↓k_se20, ↓k_ic20, ↓k_de20, ↓k_tk20, ↓k_l21, ↓k_r21, ↓k_se21, ↓k_ic21, ↓k_de21, ↓k_tk21, ↓k_l22, ↓k_r22, ↓k_se22, ↓k_ic22, ↓k_de22, ↓k_tk22, ↓k_l23, ↓k_r23, ↓k_se23, ↓k_ic23, ↓k_de23, ↓k_tk23, ↓k_l24, ↓k_r24, ↓k_se24, ↓k_ic24, ↓k_de24, ↓k_tk24, ↓k_l25, ↓k_r25, ↓k_se25, ↓k_ic25, ↓k_de25, ↓k_tk25, ↓k_k, ↓k_kn, ↓k_kl, ↓k_kln, ↓k_il, ↓k_2, ↓k_1, ↓k_2c, ↓k_2l, ↓k_ac, ↓k_an, ↓k_cs, ↓k_cv, ↓k_fi, ↓k_fr, ↓k_ai, ↓k_az, ↓k_ar, ↓k_sai, ↓k_saz, ↓k_soa, ↓k_sof, ↓k_spf, ↓k_sx, ↓k_blk, ↓k_sset, ↓k_sdec, ↓k_sri, ↓k_srv, ↓k_srr, ↓k_nop, ↓k_add, ↓k_sub, ↓k_mul, ↓k_min, ↓k_max, ↓k_shr, ↓k_shl, ↓k_or, ↓k_ilz, ↓k_addl, ↓k_rt, ↓k_rb, ↓k_rbz, ↓k_rsi, ↓k_rsr, ↓k_rsv, ↓reduceIte, A1s, ↓c3', ↓xi0_1 oB, ↓xp0_1 oB, ↓xb0_1 oB, ↓xf0_1 oB, ↓xg0_1 oB, ↓xh0_1 oB, ↓xr11_0 hL, ↓xu11_0 hL, ↓xr11_14 hL, ↓xi9_1 h9, ↓xp9_1 h9, ↓xb9_1 h9, ↓xf9_1 h9, ↓xg9_1 h9, ↓xh9_1 h9, List.length_cons, List.length_nil, List.forall_mem_cons, List.not_mem_nil, Value.category, true_and, and_true, false_and, and_false, or_true, true_or, or_false, false_or, Nat.zero_le, forall_const, implies_true, false_implies, Nat.zero_add, Nat.reduceAdd, Nat.reduceLT, Nat.reduceLeDiff, Nat.le_refl, not_true_eq_false, not_false_eq_true, r_eq, r_ne, r_lt, r_ge, r_gt, r_le, bz_ne, nn_toNat, cn_of, cn_0, cn_1, i10, Int.reduceLE, Int.reduceLT, Int.reduceEq, bz_T, bz_F, ite_self, mulc, st_bud]
          have eTb : Gb (B + 544 + 16) = G (B + 544 + 16) := n1 _ (by omega) (by omega)
          have lob : ∀ x, x < B → Gb x = G x := fun x q => n1 x (by omega) (by omega)
          have cb0 : 20 ≤ G ((B + 398 + 10 * v1.toNat) + 1) (G ((B + 398 + 10 * v1.toNat) + 8) v2) ∧ G ((B + 398 + 10 * v1.toNat) + 1) (G ((B + 398 + 10 * v1.toNat) + 8) v2) ≤ 35 := hw_name (B := B) (v := v) (by omega)
          have g2 : ¬ h' < 1 := by omega
          by_cases hn : r = -1
          · have fw : FWB G Gb B := fun x q1 q2 q3 => n1 x (by omega) (by omega)
            obtain ⟨Gw, Gx, Gy, b1, x1, y1, rbw, rby, bw, sw, w0, w1, w2⟩ := ref_ren (T := T) (nx := nx) (R := R) (r := r) hM hv.1.1 (by omega) iFm tk tN fw hl.1 l1 hl' ht.1 ht.2 hr
            have b39 := rbw.2.2.2.2.1
            have b39y := rby.2.2.2.2.1
            have xlc := (rbw.2.2.2.2.2 v2 hl.1 l1).1
            have xlc' : Gw (B + 544 + 33) v2 = G ((B + 398 + 10 * v1.toNat) + 1) (G ((B + 398 + 10 * v1.toNat) + 8) v2) := xlc
            rw [← xlc'] at w0 w1 w2
            rw [← b39y] at w2
            have cH : ∀ K : Option Value → q_M → Prop, fX12_howOf [.ref (B + 544), .int (zI v1), .int (zI v2)] (st T nx 0 0 R Gw) K = K (some (.int (zI h'))) (st T nx 0 0 R Gw) := fun K => by rw [hh]; exact c12_howR hM hv.1.1 (by omega) rbw hl.1 l1
            subst hn
            have w3 := fun (x1 x2 x3 x4 : Value) => w12_ren3n (T := T) (nx := nx) (rc := 0) (rs := 0) (R := R) (x1 := x1) (x2 := x2) (x3 := x3) (x4 := x4) hM b39y (by omega) (by omega)
            have eW : ∀ x, B + 544 < x → ¬ (B + 574 ≤ x ∧ x ≤ B + 582) → Gw x = G x := fun x q1 q2 => by rw [b1.1 x q2 (by omega), n1 x (by omega) (by omega)]
            have eY : ∀ x, ¬ (B + 46 ≤ x ∧ x ≤ B + 50) → ¬ x = (B + 398 + 10 * v1.toNat) + 1 → ¬ (B + 574 ≤ x ∧ x ≤ B + 582) → ¬ x = B + 544 → ¬ x = (B + 544 + 68) → ¬ x = (B + 544 + 21) → Gy x = G x := fun x q1 q2 q3 q4 q5 q6 => by rw [y1.1 x (by omega) q6, x1 x q5, b1.1 x q3 q4, n1 x q1 q2]
            have sY : ∀ y, (∀ j, 0 ≤ j → j < G (B + 398 + 10 * v1.toNat) 4 → ¬ y = sx G (B + 398 + 10 * v1.toNat) v1 j) → Gy (B + 544 + 21) y = G (B + 544 + 21) y := fun y hy => by rw [y1.2.2 y hy, x1 _ (by omega), eW _ (by omega) (by omega)]
            have jY : ∀ j, ¬ j = 35 → ¬ j = 39 → Gy (B + 544) j = G (B + 544) j := fun j q1 q2 => by rw [y1.1 _ (by omega) (by omega), x1 _ (by omega), b1.2.1 j q1 q2, n1 _ (by omega) (by omega)]
            have cY : Gy ((B + 398 + 10 * v1.toNat) + 1) = Gb ((B + 398 + 10 * v1.toNat) + 1) := by rw [y1.1 _ (by omega) (by omega), x1 _ (by omega), b1.1 _ (by omega) (by omega)]
            have aY : Gy (B + 398 + 10 * v1.toNat) = G (B + 398 + 10 * v1.toNat) := eY _ (by omega) (by omega) (by omega) (by omega) (by omega) (by omega)
            have tkY : TOK Gy B 0 v1 v (B + 398 + 10 * v1.toNat) := TOK_ren (cd' := (cdn (BTf G B (B + 398 + 10 * v1.toNat) v (fun t => G ((B + 398 + 10 * v1.toNat) + 1) (G ((B + 398 + 10 * v1.toNat) + 8) t))) (fun t => G ((B + 398 + 10 * v1.toNat) + 1) (G ((B + 398 + 10 * v1.toNat) + 8) t)) v2 (20 + v3))) iFm tk tN hv.1.1 (TvE_of (fun x q1 q2 => eY x (by omega) (by omega) (by omega) (by omega) (by omega) (by omega)) tk.2.2.1.1 tk.2.2.1.2) (fun x q1 q2 q3 => eY x (by omega) q3 (by omega) (by omega) (by omega) (by omega)) (by rw [cY]; exact rn) (fun x q1 q2 => eY x (by omega) (by omega) (by omega) (by omega) (by omega) (by omega)) (fun k k0 k1 => ⟨by rw [cY]; exact n3 k k0 k1, by
              rw [(y1.2.1 k k0 k1).2]
              unfold cdk
              rw [if_pos k1]⟩) sY
            have newY : ITr Gy B v1 (B + 398 + 10 * v1.toNat) := by
              refine ⟨by rw [aY]; exact (iRe.1 v1 hv.1.1 hv.1.2).1, Or.inr ⟨by rw [aY]; exact hv.2, by rw [aY, ← hvv]; exact tkY, by rw [aY]; exact tN, fun m m0 m1 => ?_⟩⟩
              rw [aY] at m1
              rw [eY (B + 544 + 22) (by omega) (by omega) (by omega) (by omega) (by omega) (by omega), eY ((B + 398 + 10 * v1.toNat) + 9) (by omega) (by omega) (by omega) (by omega) (by omega) (by omega)]
              exact tp m m0 m1
            have reY : IRe Gy B := IRe_tree hv.1.1 hv.1.2 iRe iFm (fun x q1 q2 => eY x (by omega) (by omega) (by omega) (by omega) (by omega) (by omega)) (fun i q1 q2 q3 => by
              unfold RowE
              rw [eY (B + 544 + 16) (by omega) (by omega) (by omega) (by omega) (by omega) (by omega), eY (B + 544 + 17) (by omega) (by omega) (by omega) (by omega) (by omega) (by omega), eY (B + 544 + 18) (by omega) (by omega) (by omega) (by omega) (by omega) (by omega), eY (B + 544 + 19) (by omega) (by omega) (by omega) (by omega) (by omega) (by omega), eY (B + 544 + 20) (by omega) (by omega) (by omega) (by omega) (by omega) (by omega)]
              refine ⟨rfl, rfl, rfl, fun m m0 m1 => ⟨rfl, rfl, fun k k0 k1 => sY k (fun j j0 j1 w => ?_)⟩⟩
              have := (sx_f iFm tk tN j0 j1).2.2.1
              omega) (fun i m q1 q2 q3 q4 q5 => by rw [eY (B + 544 + 22) (by omega) (by omega) (by omega) (by omega) (by omega) (by omega)]) (eY _ (by omega) (by omega) (by omega) (by omega) (by omega) (by omega)) (eY _ (by omega) (by omega) (by omega) (by omega) (by omega) (by omega)) (jY 103 (by omega) (by omega)) newY
            have hIY : Inv T R Gy B := Inv_off hI (Or.inl fun x q => eY x (by omega) (by omega) (by omega) (by omega) (by omega) (by omega)) (Or.inl fun x q => eY x (by omega) (by omega) (by omega) (by omega) (by omega) (by omega)) (Or.inl fun x q => eY x (by omega) (by omega) (by omega) (by omega) (by omega) (by omega)) (Or.inl fun x q => eY x (by omega) (by omega) (by omega) (by omega) (by omega) (by omega)) (Or.inl ⟨by rw [eY B (by omega) (by omega) (by omega) (by omega) (by omega) (by omega)], jY 93 (by omega) (by omega)⟩) (Or.inl fun x q => eY x (by omega) (by omega) (by omega) (by omega) (by omega) (by omega)) (Or.inl fun x q => eY x (by omega) (by omega) (by omega) (by omega) (by omega) (by omega)) (Or.inr reY)
            simp (disch := omega) only [↓fX11_rename.eq_1, ↓sX11_rename_.eq_1, ↓(k_cs3 dX11_within), ↓(k_cv0 dX0_firstCaught (t0 oB)), ↓(k_cv0 dX0_remember (t0 oB)), ↓(k_cv1 dX0_isTell (t0 oB)), ↓(k_cv1 dX11_bindTree (t11 hL)), ↓(k_cv2 dX11_isLeaf (t11 hL)), ↓(k_cv3 dX0_spread (t0 oB)), ↓k_mk, ↓k_sq, ↓k_sk, ↓k_bk, ↓k_if, ↓k_te, ↓k_cm, ↓k_cz, ↓k_an2, ↓k_or2, ↓k_no, ↓k_ci, ↓k_l0, ↓k_r0, ↓k_se0, ↓k_ic0, ↓k_l1, ↓k_r1, ↓k_se1, ↓k_ic1, ↓k_de1, ↓k_tk1, ↓k_l2, ↓k_r2, ↓k_se2, ↓k_ic2, ↓k_de2, ↓k_tk2, ↓k_l3, ↓k_r3, ↓k_se3, ↓k_ic3, ↓k_de3, ↓k_tk3, ↓k_l4, ↓k_r4, ↓k_se4, ↓k_ic4, ↓k_de4, ↓k_tk4, ↓k_l5, ↓k_r5, ↓k_se5, ↓k_ic5, ↓k_de5, ↓k_tk5, ↓k_l6, ↓k_r6, ↓k_se6, ↓k_ic6, ↓k_de6, ↓k_tk6, ↓k_l7, ↓k_r7, ↓k_se7, ↓k_ic7, ↓k_de7, ↓k_tk7, ↓k_l8, ↓k_r8, ↓k_se8, ↓k_ic8, ↓k_de8, ↓k_tk8, ↓k_l9, ↓k_r9, ↓k_se9, ↓k_ic9, ↓k_de9, ↓k_tk9, ↓k_l10, ↓k_r10, ↓k_se10, ↓k_ic10, ↓k_de10, ↓k_tk10, ↓k_l11, ↓k_r11, ↓k_se11, ↓k_ic11, ↓k_de11, ↓k_tk11, ↓k_l12, ↓k_r12, ↓k_se12, ↓k_ic12, ↓k_de12, ↓k_tk12, ↓k_l13, ↓k_r13, ↓k_se13, ↓k_ic13, ↓k_de13, ↓k_tk13, ↓k_l14, ↓k_r14, ↓k_se14, ↓k_ic14, ↓k_de14, ↓k_tk14, ↓k_l15, ↓k_r15, ↓k_se15, ↓k_ic15, ↓k_de15, ↓k_tk15, ↓k_l16, ↓k_r16, ↓k_se16, ↓k_ic16, ↓k_de16, ↓k_tk16, ↓k_l17, ↓k_r17, ↓k_se17, ↓k_ic17, ↓k_de17, ↓k_tk17, ↓k_l18, ↓k_r18, ↓k_se18, ↓k_ic18, ↓k_de18, ↓k_tk18, ↓k_l19, ↓k_r19, ↓k_se19, ↓k_ic19, ↓k_de19, ↓k_tk19, ↓k_l20, ↓k_r20, ↓k_se20, ↓k_ic20, ↓k_de20, ↓k_tk20, ↓k_l21, ↓k_r21, ↓k_se21, ↓k_ic21, ↓k_de21, ↓k_tk21, ↓k_l22, ↓k_r22, ↓k_se22, ↓k_ic22, ↓k_de22, ↓k_tk22, ↓k_l23, ↓k_r23, ↓k_se23, ↓k_ic23, ↓k_de23, ↓k_tk23, ↓k_l24, ↓k_r24, ↓k_se24, ↓k_ic24, ↓k_de24, ↓k_tk24, ↓k_l25, ↓k_r25, ↓k_se25, ↓k_ic25, ↓k_de25, ↓k_tk25, ↓k_k, ↓k_kn, ↓k_kl, ↓k_kln, ↓k_il, ↓k_2, ↓k_1, ↓k_2c, ↓k_2l, ↓k_ac, ↓k_an, ↓k_cs, ↓k_cv, ↓k_fi, ↓k_fr, ↓k_ai, ↓k_az, ↓k_ar, ↓k_sai, ↓k_saz, ↓k_soa, ↓k_sof, ↓k_spf, ↓k_sx, ↓k_blk, ↓k_sset, ↓k_sdec, ↓k_sri, ↓k_srv, ↓k_srr, ↓k_nop, ↓k_add, ↓k_sub, ↓k_mul, ↓k_min, ↓k_max, ↓k_shr, ↓k_shl, ↓k_or, ↓k_ilz, ↓k_addl, ↓k_rt, ↓k_rb, ↓k_rbz, ↓k_rsi, ↓k_rsr, ↓k_rsv, ↓reduceIte, t11 hL, ↓(c11_isLeaf hL iRe.1), ↓c11_within, hv, hl, ht, ↓s1, ↓cT, ↓c1, ↓c2, ↓cb2, ↓cF, g1, x8, ↓xr0_0 oB, ↓xa0_0 oB, ↓xs0_0 oB, ↓xo0_0 oB, ↓xc0_0 oB, ↓xd0_0 oB, ↓xr11_3 hL, ↓xu11_3 hL, ↓xr11_14 hL, ↓xr9_5 h9, ↓xa9_5 h9, ↓xs9_5 h9, ↓xo9_5 h9, ↓xc9_5 h9, ↓xd9_5 h9, ↓xr9_12 h9, ↓xa9_12 h9, ↓xs9_12 h9, ↓xo9_12 h9, ↓xc9_12 h9, ↓xd9_12 h9, eq_self, List.length_cons, List.length_nil, List.forall_mem_cons, List.not_mem_nil, Value.category, true_and, and_true, false_and, and_false, or_true, true_or, or_false, false_or, Nat.zero_le, forall_const, implies_true, false_implies, Nat.zero_add, Nat.reduceAdd, Nat.reduceLT, Nat.reduceLeDiff, Nat.le_refl, not_true_eq_false, not_false_eq_true, r_eq, r_ne, r_lt, r_ge, r_gt, r_le, bz_ne, nn_toNat, cn_of, cn_0, cn_1, i10, Int.reduceLE, Int.reduceLT, Int.reduceEq, bz_T, bz_F, ite_self, mulc, st_bud]
            refine hK _ _ ⟨mid_mk (fun x q => ⟨rfl, lob x q⟩), op_gen fun K hK => ?_⟩
            rw [st_bud]
            simp (disch := omega) only [↓fX12_rename.eq_1, ↓uX12_rename, ↓fX12_isLeaf.eq_1, ↓sX12_isLeaf_.eq_1, ↓(k_cs3 dX12_in), ↓(k_cv1 dX12_isTree (t12 hM)), ↓(k_cv1 dX12_walk (t12 hM)), ↓(k_cv2 dX12_howOf (t12 hM)), ↓(k_cv2 dX12_isLeaf (t12 hM)), ↓k_mk, ↓k_sq, ↓k_sk, ↓k_bk, ↓k_if, ↓k_te, ↓k_cm, ↓k_cz, ↓k_an2, ↓k_or2, ↓k_no, ↓k_ci, ↓k_l0, ↓k_r0, ↓k_se0, ↓k_ic0, ↓k_l1, ↓k_r1, ↓k_se1, ↓k_ic1, ↓k_de1, ↓k_tk1, ↓k_l2, ↓k_r2, ↓k_se2, ↓k_ic2, ↓k_de2, ↓k_tk2, ↓k_l3, ↓k_r3, ↓k_se3, ↓k_ic3, ↓k_de3, ↓k_tk3, ↓k_l4, ↓k_r4, ↓k_se4, ↓k_ic4, ↓k_de4, ↓k_tk4, ↓k_l5, ↓k_r5, ↓k_se5, ↓k_ic5, ↓k_de5, ↓k_tk5, ↓k_l6, ↓k_r6, ↓k_se6, ↓k_ic6, ↓k_de6, ↓k_tk6, ↓k_l7, ↓k_r7, ↓k_se7, ↓k_ic7, ↓k_de7, ↓k_tk7, ↓k_l8, ↓k_r8, ↓k_se8, ↓k_ic8, ↓k_de8, ↓k_tk8, ↓k_l9, ↓k_r9, ↓k_se9, ↓k_ic9, ↓k_de9, ↓k_tk9, ↓k_l10, ↓k_r10, ↓k_se10, ↓k_ic10, ↓k_de10, ↓k_tk10, ↓k_l11, ↓k_r11, ↓k_se11, ↓k_ic11, ↓k_de11, ↓k_tk11, ↓k_l12, ↓k_r12, ↓k_se12, ↓k_ic12, ↓k_de12, ↓k_tk12, ↓k_l13, ↓k_r13, ↓k_se13, ↓k_ic13, ↓k_de13, ↓k_tk13, ↓k_l14, ↓k_r14, ↓k_se14, ↓k_ic14, ↓k_de14, ↓k_tk14, ↓k_l15, ↓k_r15, ↓k_se15, ↓k_ic15, ↓k_de15, ↓k_tk15, ↓k_l16, ↓k_r16, ↓k_se16, ↓k_ic16, ↓k_de16, ↓k_tk16, ↓k_l17, ↓k_r17, ↓k_se17, ↓k_ic17, ↓k_de17, ↓k_tk17, ↓k_l18, ↓k_r18, ↓k_se18, ↓k_ic18, ↓k_de18, ↓k_tk18, ↓k_l19, ↓k_r19, ↓k_se19, ↓k_ic19, ↓k_de19, ↓k_tk19, ↓k_l20, ↓k_r20, ↓k_se20, ↓k_ic20, ↓k_de20, ↓k_tk20, ↓k_l21, ↓k_r21, ↓k_se21, ↓k_ic21, ↓k_de21, ↓k_tk21, ↓k_l22, ↓k_r22, ↓k_se22, ↓k_ic22, ↓k_de22, ↓k_tk22, ↓k_l23, ↓k_r23, ↓k_se23, ↓k_ic23, ↓k_de23, ↓k_tk23, ↓k_l24, ↓k_r24, ↓k_se24, ↓k_ic24, ↓k_de24, ↓k_tk24, ↓k_l25, ↓k_r25, ↓k_se25, ↓k_ic25, ↓k_de25, ↓k_tk25, ↓k_k, ↓k_kn, ↓k_kl, ↓k_kln, ↓k_il, ↓k_2, ↓k_1, ↓k_2c, ↓k_2l, ↓k_ac, ↓k_an, ↓k_cs, ↓k_cv, ↓k_fi, ↓k_fr, ↓k_ai, ↓k_az, ↓k_ar, ↓k_sai, ↓k_saz, ↓k_soa, ↓k_sof, ↓k_spf, ↓k_sx, ↓k_blk, ↓k_sset, ↓k_sdec, ↓k_sri, ↓k_srv, ↓k_srr, ↓k_nop, ↓k_add, ↓k_sub, ↓k_mul, ↓k_min, ↓k_max, ↓k_shr, ↓k_shl, ↓k_or, ↓k_ilz, ↓k_addl, ↓k_rt, ↓k_rb, ↓k_rbz, ↓k_rsi, ↓k_rsr, ↓k_rsv, ↓reduceIte, t12 hM, ↓(c12_isTreeX hM iRe.1 eTb), hv, ↓sw, ↓c12_in, zI_long, b39, hl, ht, ↓cH, g2, ↓w0, ↓w1, ↓w2, ↓w3, ↓xi12_39 hM, ↓xp12_39 hM, ↓xb12_39 hM, ↓xf12_39 hM, ↓xg12_39 hM, ↓xh12_39 hM, ↓xr12_40 hM, ↓xa12_40 hM, ↓xs12_40 hM, ↓xo12_40 hM, ↓xc12_40 hM, ↓xd12_40 hM, List.length_cons, List.length_nil, List.forall_mem_cons, List.not_mem_nil, Value.category, true_and, and_true, false_and, and_false, or_true, true_or, or_false, false_or, Nat.zero_le, forall_const, implies_true, false_implies, Nat.zero_add, Nat.reduceAdd, Nat.reduceLT, Nat.reduceLeDiff, Nat.le_refl, not_true_eq_false, not_false_eq_true, r_eq, r_ne, r_lt, r_ge, r_gt, r_le, bz_ne, nn_toNat, cn_of, cn_0, cn_1, i10, Int.reduceLE, Int.reduceLT, Int.reduceEq, bz_T, bz_F, ite_self, mulc, st_bud]
            exact hK _ _ (fin_mk rfl (fun x q => ⟨rfl, eY x (by omega) (by omega) (by omega) (by omega) (by omega) (by omega)⟩) hIY)
          · have rb0 : 0 ≤ r ∧ r < G (B + 398 + 10 * v1.toNat) 4 := by omega
            have Pr : ∀ k, 0 ≤ k → k < G (B + 398 + 10 * v1.toNat) 4 → ren (BTf G B (B + 398 + 10 * v1.toNat) v (fun t => G ((B + 398 + 10 * v1.toNat) + 1) (G ((B + 398 + 10 * v1.toNat) + 8) t))) v2 k → G ((B + 398 + 10 * v1.toNat) + 1) (G ((B + 398 + 10 * v1.toNat) + 8) k) = G ((B + 398 + 10 * v1.toNat) + 1) (G ((B + 398 + 10 * v1.toNat) + 8) v2) := fun k k0 k1 w => by
              rcases w with w | w
              · rw [w]
              · rcases BTf_b G B (B + 398 + 10 * v1.toNat) v (fun t => G ((B + 398 + 10 * v1.toNat) + 1) (G ((B + 398 + 10 * v1.toNat) + 8) t)) k with z | ⟨_, _, _, z⟩
                · omega
                · rw [w] at z
                  exact z.symm
            have xraw : G1 ((B + 398 + 10 * v1.toNat) + 1) (G1 ((B + 398 + 10 * v1.toNat) + 8) v2) = G ((B + 398 + 10 * v1.toNat) + 1) (G ((B + 398 + 10 * v1.toNat) + 8) v2) := by rw [x8, bd.1 _ (by omega)]
            obtain ⟨Gz, z1, z2, z3, c4⟩ := c0_spread (T := T) (nx := nx) (rc := 0) (rs := 0) (R := R) (G := Gb) (P := BTf G B (B + 398 + 10 * v1.toNat) v (fun t => G ((B + 398 + 10 * v1.toNat) + 1) (G ((B + 398 + 10 * v1.toNat) + 8) t))) (la := G ((B + 398 + 10 * v1.toNat) + 8)) (L := G (B + 398 + 10 * v1.toNat) 4) (l := v2) (code := G1 ((B + 398 + 10 * v1.toNat) + 1) (G1 ((B + 398 + 10 * v1.toNat) + 8) v2)) oB h9 (by omega) ro4 hl.1 (by omega) (fun k k0 k1 => by
              obtain ⟨_, _, _, p1, _, _⟩ := sx_f iFm tk tN k0 k1
              rw [n1 _ (by omega) (by omega)]
              exact ⟨rfl, by omega, by omega⟩) (fun j k j0 j1 k0 k1 w => by
              have q1 := (sx_f iFm tk tN j0 j1).2.2.2.2.2
              have q2 := (sx_f iFm tk tN k0 k1).2.2.2.2.2
              rw [← q1, ← q2, w])
            rw [xraw] at z2
            have cZ : Gz ((B + 398 + 10 * v1.toNat) + 1) = G ((B + 398 + 10 * v1.toNat) + 1) := by
              funext p
              by_cases hp : ∃ k, 0 ≤ k ∧ k < G (B + 398 + 10 * v1.toNat) 4 ∧ p = G ((B + 398 + 10 * v1.toNat) + 8) k
              · obtain ⟨k, k0, k1, kp⟩ := hp
                rw [kp, z2 k k0 k1]
                by_cases w : ren (BTf G B (B + 398 + 10 * v1.toNat) v (fun t => G ((B + 398 + 10 * v1.toNat) + 1) (G ((B + 398 + 10 * v1.toNat) + 8) t))) v2 k
                · rw [if_pos w, Pr k k0 k1 w]
                · rw [if_neg w, n3 k k0 k1]
                  unfold cdn
                  rw [if_neg w]
              · have nn : ∀ k, 0 ≤ k → k < G (B + 398 + 10 * v1.toNat) 4 → ¬ p = G ((B + 398 + 10 * v1.toNat) + 8) k := fun k k0 k1 w => hp ⟨k, k0, k1, w⟩
                rw [z3 p nn, n4 p nn]
            have eZ : ∀ x, ¬ (B + 46 ≤ x ∧ x ≤ B + 50) → Gz x = G x := fun x q1 => by
              by_cases w : x = (B + 398 + 10 * v1.toNat) + 1
              · rw [w, cZ]
              · rw [z1 x w, n1 x q1 w]
            have fw : FWB G Gz B := fun x q1 q2 q3 => eZ x (by omega)
            obtain ⟨Gw, Gx, Gy, b1, x1, y1, rbw, rby, bw, sw, w0, w1, w2⟩ := ref_ren (T := T) (nx := nx) (R := R) (r := r) hM hv.1.1 (by omega) iFm tk tN fw hl.1 l1 hl' ht.1 ht.2 hr
            have b39 := rbw.2.2.2.2.1
            have b39y := rby.2.2.2.2.1
            have xlc' : Gw (B + 544 + 33) v2 = G ((B + 398 + 10 * v1.toNat) + 1) (G ((B + 398 + 10 * v1.toNat) + 8) v2) := (rbw.2.2.2.2.2 v2 hl.1 l1).1
            rw [← xlc'] at w0 w1 w2
            rw [← b39y] at w2
            have cH : ∀ K : Option Value → q_M → Prop, fX12_howOf [.ref (B + 544), .int (zI v1), .int (zI v2)] (st T nx 0 0 R Gw) K = K (some (.int (zI h'))) (st T nx 0 0 R Gw) := fun K => by rw [hh]; exact c12_howR hM hv.1.1 (by omega) rbw hl.1 l1
            have cdL : ∀ j, 0 ≤ j → j < G (B + 398 + 10 * v1.toNat) 4 → cdk (fun t => G ((B + 398 + 10 * v1.toNat) + 1) (G ((B + 398 + 10 * v1.toNat) + 8) t)) (cdn (BTf G B (B + 398 + 10 * v1.toNat) v (fun t => G ((B + 398 + 10 * v1.toNat) + 1) (G ((B + 398 + 10 * v1.toNat) + 8) t))) (fun t => G ((B + 398 + 10 * v1.toNat) + 1) (G ((B + 398 + 10 * v1.toNat) + 8) t)) v2 (20 + v3)) (G (B + 398 + 10 * v1.toNat) 4) j = (cdn (BTf G B (B + 398 + 10 * v1.toNat) v (fun t => G ((B + 398 + 10 * v1.toNat) + 1) (G ((B + 398 + 10 * v1.toNat) + 8) t))) (fun t => G ((B + 398 + 10 * v1.toNat) + 1) (G ((B + 398 + 10 * v1.toNat) + 8) t)) v2 (20 + v3)) j := fun j j0 j1 => by unfold cdk; rw [if_pos j1]
            obtain ⟨Gq, k1', w3⟩ := w12_ren3 (T := T) (nx := nx) (rc := 0) (rs := 0) (R := R) (l := v2) (ca := r) (x3 := .int (zI v3)) (code := Gw (B + 544 + 33) v2) (cd' := fun t => G ((B + 398 + 10 * v1.toNat) + 1) (G ((B + 398 + 10 * v1.toNat) + 8) t)) (P := BTf G B (B + 398 + 10 * v1.toNat) v (fun t => G ((B + 398 + 10 * v1.toNat) + 1) (G ((B + 398 + 10 * v1.toNat) + 8) t))) hM hv.1.1 (by omega) hl.1 l1 rby (fun j j0 j1 => by
              obtain ⟨_, _, _, p1, _, _⟩ := sx_f iFm tk tN j0 j1
              exact ⟨Tr_cb tk.2.2.2.1 (iFm _ tk.2.2.1.1 tk.2.2.1.2).2.2.1 tN (by omega) p1.2, Iff.rfl⟩) (fun k k0 k1 => ⟨bw k k0 k1, by rcases BTf_b G B (B + 398 + 10 * v1.toNat) v (fun t => G ((B + 398 + 10 * v1.toNat) + 1) (G ((B + 398 + 10 * v1.toNat) + 8) t)) k with w | ⟨_, w2, w3, _⟩ <;> omega, fun z => by
              rcases BTf_b G B (B + 398 + 10 * v1.toNat) v (fun t => G ((B + 398 + 10 * v1.toNat) + 1) (G ((B + 398 + 10 * v1.toNat) + 8) t)) k with w | ⟨w, _⟩
              · omega
              · exact w⟩) (fun j j0 j1 => by
              show G ((B + 398 + 10 * v1.toNat) + 1) (G ((B + 398 + 10 * v1.toNat) + 8) j) = _
              by_cases w : ren (BTf G B (B + 398 + 10 * v1.toNat) v (fun t => G ((B + 398 + 10 * v1.toNat) + 1) (G ((B + 398 + 10 * v1.toNat) + 8) t))) v2 j
              · rw [if_pos w, xlc', Pr j j0 j1 w]
              · rw [if_neg w, cdL j j0 j1]
                unfold cdn
                rw [if_neg w]) (fun j j0 j1 => (y1.2.1 j j0 j1).2) rb0.1 (by omega)
            have eQ0 : ∀ x, ¬ (B + 46 ≤ x ∧ x ≤ B + 50) → ¬ (B + 574 ≤ x ∧ x ≤ B + 582) → ¬ x = B + 544 → ¬ x = (B + 544 + 68) → ¬ x = (B + 544 + 21) → Gq x = G x := fun x q1 q3 q4 q5 q6 => by rw [k1'.1 x (by omega) q6, y1.1 x (by omega) q6, x1 x q5, b1.1 x q3 q4, eZ x q1]
            have sQ : Gq (B + 544 + 21) = G (B + 544 + 21) := by
              funext y
              by_cases hp : ∃ j, 0 ≤ j ∧ j < G (B + 398 + 10 * v1.toNat) 4 ∧ y = sx G (B + 398 + 10 * v1.toNat) v1 j
              · obtain ⟨j, j0, j1, jy⟩ := hp
                rw [jy, (k1'.2.1 j j0 j1).2, slot_leaf iFm tk tN j0 j1]
                unfold cdk
                rw [if_pos j1]
              · have nn : ∀ j, 0 ≤ j → j < G (B + 398 + 10 * v1.toNat) 4 → ¬ y = sx G (B + 398 + 10 * v1.toNat) v1 j := fun j j0 j1 w => hp ⟨j, j0, j1, w⟩
                rw [k1'.2.2 y nn, y1.2.2 y nn, x1 _ (by omega), b1.1 _ (by omega) (by omega), eZ _ (by omega)]
            have eQ : ∀ x, ¬ (B + 46 ≤ x ∧ x ≤ B + 50) → ¬ (B + 574 ≤ x ∧ x ≤ B + 582) → ¬ x = B + 544 → ¬ x = (B + 544 + 68) → Gq x = G x := fun x q1 q3 q4 q5 => by
              by_cases w : x = (B + 544 + 21)
              · rw [w, sQ]
              · exact eQ0 x q1 q3 q4 q5 w
            have jQ : ∀ j, ¬ j = 35 → ¬ j = 39 → Gq (B + 544) j = G (B + 544) j := fun j q1 q2 => by rw [k1'.1 _ (by omega) (by omega), y1.1 _ (by omega) (by omega), x1 _ (by omega), b1.2.1 j q1 q2, eZ _ (by omega)]
            have hIQ : Inv T R Gq B := Inv_off hI (Or.inl fun x q => eQ x (by omega) (by omega) (by omega) (by omega)) (Or.inl fun x q => eQ x (by omega) (by omega) (by omega) (by omega)) (Or.inl fun x q => eQ x (by omega) (by omega) (by omega) (by omega)) (Or.inl fun x q => eQ x (by omega) (by omega) (by omega) (by omega)) (Or.inl ⟨by rw [eQ B (by omega) (by omega) (by omega) (by omega)], jQ 93 (by omega) (by omega)⟩) (Or.inl fun x q => eQ x (by omega) (by omega) (by omega) (by omega)) (Or.inl fun x q => eQ x (by omega) (by omega) (by omega) (by omega)) (Or.inl ⟨fun x q => eQ x (by unfold FRe at q; omega) (by unfold FRe at q; omega) (by unfold FRe at q; omega) (by unfold FRe at q; omega), jQ 103 (by omega) (by omega)⟩)
            have eTz : Gz (B + 544 + 16) = G (B + 544 + 16) := eZ _ (by omega)
            have rn0 : ¬ r < 0 := by omega
            simp (disch := omega) only [↓fX11_rename.eq_1, ↓sX11_rename_.eq_1, ↓(k_cs3 dX11_within), ↓(k_cv0 dX0_firstCaught (t0 oB)), ↓(k_cv0 dX0_remember (t0 oB)), ↓(k_cv1 dX0_isTell (t0 oB)), ↓(k_cv1 dX11_bindTree (t11 hL)), ↓(k_cv2 dX11_isLeaf (t11 hL)), ↓(k_cv3 dX0_spread (t0 oB)), ↓k_mk, ↓k_sq, ↓k_sk, ↓k_bk, ↓k_if, ↓k_te, ↓k_cm, ↓k_cz, ↓k_an2, ↓k_or2, ↓k_no, ↓k_ci, ↓k_l0, ↓k_r0, ↓k_se0, ↓k_ic0, ↓k_l1, ↓k_r1, ↓k_se1, ↓k_ic1, ↓k_de1, ↓k_tk1, ↓k_l2, ↓k_r2, ↓k_se2, ↓k_ic2, ↓k_de2, ↓k_tk2, ↓k_l3, ↓k_r3, ↓k_se3, ↓k_ic3, ↓k_de3, ↓k_tk3, ↓k_l4, ↓k_r4, ↓k_se4, ↓k_ic4, ↓k_de4, ↓k_tk4, ↓k_l5, ↓k_r5, ↓k_se5, ↓k_ic5, ↓k_de5, ↓k_tk5, ↓k_l6, ↓k_r6, ↓k_se6, ↓k_ic6, ↓k_de6, ↓k_tk6, ↓k_l7, ↓k_r7, ↓k_se7, ↓k_ic7, ↓k_de7, ↓k_tk7, ↓k_l8, ↓k_r8, ↓k_se8, ↓k_ic8, ↓k_de8, ↓k_tk8, ↓k_l9, ↓k_r9, ↓k_se9, ↓k_ic9, ↓k_de9, ↓k_tk9, ↓k_l10, ↓k_r10, ↓k_se10, ↓k_ic10, ↓k_de10, ↓k_tk10, ↓k_l11, ↓k_r11, ↓k_se11, ↓k_ic11, ↓k_de11, ↓k_tk11, ↓k_l12, ↓k_r12, ↓k_se12, ↓k_ic12, ↓k_de12, ↓k_tk12, ↓k_l13, ↓k_r13, ↓k_se13, ↓k_ic13, ↓k_de13, ↓k_tk13, ↓k_l14, ↓k_r14, ↓k_se14, ↓k_ic14, ↓k_de14, ↓k_tk14, ↓k_l15, ↓k_r15, ↓k_se15, ↓k_ic15, ↓k_de15, ↓k_tk15, ↓k_l16, ↓k_r16, ↓k_se16, ↓k_ic16, ↓k_de16, ↓k_tk16, ↓k_l17, ↓k_r17, ↓k_se17, ↓k_ic17, ↓k_de17, ↓k_tk17, ↓k_l18, ↓k_r18, ↓k_se18, ↓k_ic18, ↓k_de18, ↓k_tk18, ↓k_l19, ↓k_r19, ↓k_se19, ↓k_ic19, ↓k_de19, ↓k_tk19, ↓k_l20, ↓k_r20, ↓k_se20, ↓k_ic20, ↓k_de20, ↓k_tk20, ↓k_l21, ↓k_r21, ↓k_se21, ↓k_ic21, ↓k_de21, ↓k_tk21, ↓k_l22, ↓k_r22, ↓k_se22, ↓k_ic22, ↓k_de22, ↓k_tk22, ↓k_l23, ↓k_r23, ↓k_se23, ↓k_ic23, ↓k_de23, ↓k_tk23, ↓k_l24, ↓k_r24, ↓k_se24, ↓k_ic24, ↓k_de24, ↓k_tk24, ↓k_l25, ↓k_r25, ↓k_se25, ↓k_ic25, ↓k_de25, ↓k_tk25, ↓k_k, ↓k_kn, ↓k_kl, ↓k_kln, ↓k_il, ↓k_2, ↓k_1, ↓k_2c, ↓k_2l, ↓k_ac, ↓k_an, ↓k_cs, ↓k_cv, ↓k_fi, ↓k_fr, ↓k_ai, ↓k_az, ↓k_ar, ↓k_sai, ↓k_saz, ↓k_soa, ↓k_sof, ↓k_spf, ↓k_sx, ↓k_blk, ↓k_sset, ↓k_sdec, ↓k_sri, ↓k_srv, ↓k_srr, ↓k_nop, ↓k_add, ↓k_sub, ↓k_mul, ↓k_min, ↓k_max, ↓k_shr, ↓k_shl, ↓k_or, ↓k_ilz, ↓k_addl, ↓k_rt, ↓k_rb, ↓k_rbz, ↓k_rsi, ↓k_rsr, ↓k_rsv, ↓reduceIte, t11 hL, ↓(c11_isLeaf hL iRe.1), ↓c11_within, hv, hl, ht, ↓s1, ↓cT, ↓c1, ↓c2, ↓cb2, ↓cF, g1, x8, ↓xr0_0 oB, ↓xa0_0 oB, ↓xs0_0 oB, ↓xo0_0 oB, ↓xc0_0 oB, ↓xd0_0 oB, ↓xr11_3 hL, ↓xu11_3 hL, ↓xr11_14 hL, ↓xr9_5 h9, ↓xa9_5 h9, ↓xs9_5 h9, ↓xo9_5 h9, ↓xc9_5 h9, ↓xd9_5 h9, ↓xr9_12 h9, ↓xa9_12 h9, ↓xs9_12 h9, ↓xo9_12 h9, ↓xc9_12 h9, ↓xd9_12 h9, hn, ↓c4, List.length_cons, List.length_nil, List.forall_mem_cons, List.not_mem_nil, Value.category, true_and, and_true, false_and, and_false, or_true, true_or, or_false, false_or, Nat.zero_le, forall_const, implies_true, false_implies, Nat.zero_add, Nat.reduceAdd, Nat.reduceLT, Nat.reduceLeDiff, Nat.le_refl, not_true_eq_false, not_false_eq_true, r_eq, r_ne, r_lt, r_ge, r_gt, r_le, bz_ne, nn_toNat, cn_of, cn_0, cn_1, i10, Int.reduceLE, Int.reduceLT, Int.reduceEq, bz_T, bz_F, ite_self, mulc, st_bud]
            refine hK _ _ ⟨mid_mk (fun x q => ⟨rfl, eZ x (by omega)⟩), op_gen fun K hK => ?_⟩
            rw [st_bud]
            simp (disch := omega) only [↓fX12_rename.eq_1, ↓uX12_rename, ↓fX12_isLeaf.eq_1, ↓sX12_isLeaf_.eq_1, ↓(k_cs3 dX12_in), ↓(k_cv1 dX12_isTree (t12 hM)), ↓(k_cv1 dX12_walk (t12 hM)), ↓(k_cv2 dX12_howOf (t12 hM)), ↓(k_cv2 dX12_isLeaf (t12 hM)), ↓k_mk, ↓k_sq, ↓k_sk, ↓k_bk, ↓k_if, ↓k_te, ↓k_cm, ↓k_cz, ↓k_an2, ↓k_or2, ↓k_no, ↓k_ci, ↓k_l0, ↓k_r0, ↓k_se0, ↓k_ic0, ↓k_l1, ↓k_r1, ↓k_se1, ↓k_ic1, ↓k_de1, ↓k_tk1, ↓k_l2, ↓k_r2, ↓k_se2, ↓k_ic2, ↓k_de2, ↓k_tk2, ↓k_l3, ↓k_r3, ↓k_se3, ↓k_ic3, ↓k_de3, ↓k_tk3, ↓k_l4, ↓k_r4, ↓k_se4, ↓k_ic4, ↓k_de4, ↓k_tk4, ↓k_l5, ↓k_r5, ↓k_se5, ↓k_ic5, ↓k_de5, ↓k_tk5, ↓k_l6, ↓k_r6, ↓k_se6, ↓k_ic6, ↓k_de6, ↓k_tk6, ↓k_l7, ↓k_r7, ↓k_se7, ↓k_ic7, ↓k_de7, ↓k_tk7, ↓k_l8, ↓k_r8, ↓k_se8, ↓k_ic8, ↓k_de8, ↓k_tk8, ↓k_l9, ↓k_r9, ↓k_se9, ↓k_ic9, ↓k_de9, ↓k_tk9, ↓k_l10, ↓k_r10, ↓k_se10, ↓k_ic10, ↓k_de10, ↓k_tk10, ↓k_l11, ↓k_r11, ↓k_se11, ↓k_ic11, ↓k_de11, ↓k_tk11, ↓k_l12, ↓k_r12, ↓k_se12, ↓k_ic12, ↓k_de12, ↓k_tk12, ↓k_l13, ↓k_r13, ↓k_se13, ↓k_ic13, ↓k_de13, ↓k_tk13, ↓k_l14, ↓k_r14, ↓k_se14, ↓k_ic14, ↓k_de14, ↓k_tk14, ↓k_l15, ↓k_r15, ↓k_se15, ↓k_ic15, ↓k_de15, ↓k_tk15, ↓k_l16, ↓k_r16, ↓k_se16, ↓k_ic16, ↓k_de16, ↓k_tk16, ↓k_l17, ↓k_r17, ↓k_se17, ↓k_ic17, ↓k_de17, ↓k_tk17, ↓k_l18, ↓k_r18, ↓k_se18, ↓k_ic18, ↓k_de18, ↓k_tk18, ↓k_l19, ↓k_r19, ↓k_se19, ↓k_ic19, ↓k_de19, ↓k_tk19, ↓k_l20, ↓k_r20, ↓k_se20, ↓k_ic20, ↓k_de20, ↓k_tk20, ↓k_l21, ↓k_r21, ↓k_se21, ↓k_ic21, ↓k_de21, ↓k_tk21, ↓k_l22, ↓k_r22, ↓k_se22, ↓k_ic22, ↓k_de22, ↓k_tk22, ↓k_l23, ↓k_r23, ↓k_se23, ↓k_ic23, ↓k_de23, ↓k_tk23, ↓k_l24, ↓k_r24, ↓k_se24, ↓k_ic24, ↓k_de24, ↓k_tk24, ↓k_l25, ↓k_r25, ↓k_se25, ↓k_ic25, ↓k_de25, ↓k_tk25, ↓k_k, ↓k_kn, ↓k_kl, ↓k_kln, ↓k_il, ↓k_2, ↓k_1, ↓k_2c, ↓k_2l, ↓k_ac, ↓k_an, ↓k_cs, ↓k_cv, ↓k_fi, ↓k_fr, ↓k_ai, ↓k_az, ↓k_ar, ↓k_sai, ↓k_saz, ↓k_soa, ↓k_sof, ↓k_spf, ↓k_sx, ↓k_blk, ↓k_sset, ↓k_sdec, ↓k_sri, ↓k_srv, ↓k_srr, ↓k_nop, ↓k_add, ↓k_sub, ↓k_mul, ↓k_min, ↓k_max, ↓k_shr, ↓k_shl, ↓k_or, ↓k_ilz, ↓k_addl, ↓k_rt, ↓k_rb, ↓k_rbz, ↓k_rsi, ↓k_rsr, ↓k_rsv, ↓reduceIte, t12 hM, ↓(c12_isTreeX hM iRe.1 eTz), hv, ↓sw, ↓c12_in, zI_long, b39, hl, ht, ↓cH, g2, ↓w0, ↓w1, ↓w2, ↓w3, rn0, ↓xi12_39 hM, ↓xp12_39 hM, ↓xb12_39 hM, ↓xf12_39 hM, ↓xg12_39 hM, ↓xh12_39 hM, ↓xr12_40 hM, ↓xa12_40 hM, ↓xs12_40 hM, ↓xo12_40 hM, ↓xc12_40 hM, ↓xd12_40 hM, List.length_cons, List.length_nil, List.forall_mem_cons, List.not_mem_nil, Value.category, true_and, and_true, false_and, and_false, or_true, true_or, or_false, false_or, Nat.zero_le, forall_const, implies_true, false_implies, Nat.zero_add, Nat.reduceAdd, Nat.reduceLT, Nat.reduceLeDiff, Nat.le_refl, not_true_eq_false, not_false_eq_true, r_eq, r_ne, r_lt, r_ge, r_gt, r_le, bz_ne, nn_toNat, cn_of, cn_0, cn_1, i10, Int.reduceLE, Int.reduceLT, Int.reduceEq, bz_T, bz_F, ite_self, mulc, st_bud]
            exact hK _ _ (fin_mk rfl (fun x q => ⟨rfl, eQ x (by omega) (by omega) (by omega) (by omega)⟩) hIQ)
        · have g2 : h' < 1 := by omega
          have hI2 := bind_inv hI bd b1
          have lo2 := bind_lo2 bd b1
          have b39 := rb.2.2.2.2.1
          have cH : ∀ K : Option Value → q_M → Prop, fX12_howOf [.ref (B + 544), .int (zI v1), .int (zI v2)] (st T nx 0 0 R G2) K = K (some (.int (zI h'))) (st T nx 0 0 R G2) := fun K => by rw [hh]; exact c12_howR hM hv.1.1 (by omega) rb hl.1 l1
          simp (disch := omega) only [↓fX11_rename.eq_1, ↓sX11_rename_.eq_1, ↓(k_cs3 dX11_within), ↓(k_cv0 dX0_firstCaught (t0 oB)), ↓(k_cv0 dX0_remember (t0 oB)), ↓(k_cv1 dX0_isTell (t0 oB)), ↓(k_cv1 dX11_bindTree (t11 hL)), ↓(k_cv2 dX11_isLeaf (t11 hL)), ↓(k_cv3 dX0_spread (t0 oB)), ↓k_mk, ↓k_sq, ↓k_sk, ↓k_bk, ↓k_if, ↓k_te, ↓k_cm, ↓k_cz, ↓k_an2, ↓k_or2, ↓k_no, ↓k_ci, ↓k_l0, ↓k_r0, ↓k_se0, ↓k_ic0, ↓k_l1, ↓k_r1, ↓k_se1, ↓k_ic1, ↓k_de1, ↓k_tk1, ↓k_l2, ↓k_r2, ↓k_se2, ↓k_ic2, ↓k_de2, ↓k_tk2, ↓k_l3, ↓k_r3, ↓k_se3, ↓k_ic3, ↓k_de3, ↓k_tk3, ↓k_l4, ↓k_r4, ↓k_se4, ↓k_ic4, ↓k_de4, ↓k_tk4, ↓k_l5, ↓k_r5, ↓k_se5, ↓k_ic5, ↓k_de5, ↓k_tk5, ↓k_l6, ↓k_r6, ↓k_se6, ↓k_ic6, ↓k_de6, ↓k_tk6, ↓k_l7, ↓k_r7, ↓k_se7, ↓k_ic7, ↓k_de7, ↓k_tk7, ↓k_l8, ↓k_r8, ↓k_se8, ↓k_ic8, ↓k_de8, ↓k_tk8, ↓k_l9, ↓k_r9, ↓k_se9, ↓k_ic9, ↓k_de9, ↓k_tk9, ↓k_l10, ↓k_r10, ↓k_se10, ↓k_ic10, ↓k_de10, ↓k_tk10, ↓k_l11, ↓k_r11, ↓k_se11, ↓k_ic11, ↓k_de11, ↓k_tk11, ↓k_l12, ↓k_r12, ↓k_se12, ↓k_ic12, ↓k_de12, ↓k_tk12, ↓k_l13, ↓k_r13, ↓k_se13, ↓k_ic13, ↓k_de13, ↓k_tk13, ↓k_l14, ↓k_r14, ↓k_se14, ↓k_ic14, ↓k_de14, ↓k_tk14, ↓k_l15, ↓k_r15, ↓k_se15, ↓k_ic15, ↓k_de15, ↓k_tk15, ↓k_l16, ↓k_r16, ↓k_se16, ↓k_ic16, ↓k_de16, ↓k_tk16, ↓k_l17, ↓k_r17, ↓k_se17, ↓k_ic17, ↓k_de17, ↓k_tk17, ↓k_l18, ↓k_r18, ↓k_se18, ↓k_ic18, ↓k_de18, ↓k_tk18, ↓k_l19, ↓k_r19, ↓k_se19, ↓k_ic19, ↓k_de19, ↓k_tk19, ↓k_l20, ↓k_r20, ↓k_se20, ↓k_ic20, ↓k_de20, ↓k_tk20, ↓k_l21, ↓k_r21, ↓k_se21, ↓k_ic21, ↓k_de21, ↓k_tk21, ↓k_l22, ↓k_r22, ↓k_se22, ↓k_ic22, ↓k_de22, ↓k_tk22, ↓k_l23, ↓k_r23, ↓k_se23, ↓k_ic23, ↓k_de23, ↓k_tk23, ↓k_l24, ↓k_r24, ↓k_se24, ↓k_ic24, ↓k_de24, ↓k_tk24, ↓k_l25, ↓k_r25, ↓k_se25, ↓k_ic25, ↓k_de25, ↓k_tk25, ↓k_k, ↓k_kn, ↓k_kl, ↓k_kln, ↓k_il, ↓k_2, ↓k_1, ↓k_2c, ↓k_2l, ↓k_ac, ↓k_an, ↓k_cs, ↓k_cv, ↓k_fi, ↓k_fr, ↓k_ai, ↓k_az, ↓k_ar, ↓k_sai, ↓k_saz, ↓k_soa, ↓k_sof, ↓k_spf, ↓k_sx, ↓k_blk, ↓k_sset, ↓k_sdec, ↓k_sri, ↓k_srv, ↓k_srr, ↓k_nop, ↓k_add, ↓k_sub, ↓k_mul, ↓k_min, ↓k_max, ↓k_shr, ↓k_shl, ↓k_or, ↓k_ilz, ↓k_addl, ↓k_rt, ↓k_rb, ↓k_rbz, ↓k_rsi, ↓k_rsr, ↓k_rsv, ↓reduceIte, t11 hL, ↓(c11_isLeaf hL iRe.1), ↓c11_within, hv, hl, ht, ↓s1, ↓cT, g1, ↓xr11_3 hL, ↓xu11_3 hL, ↓xr11_14 hL, ↓xr0_0 oB, ↓xa0_0 oB, ↓xs0_0 oB, ↓xo0_0 oB, ↓xc0_0 oB, ↓xd0_0 oB, List.length_cons, List.length_nil, List.forall_mem_cons, List.not_mem_nil, Value.category, true_and, and_true, false_and, and_false, or_true, true_or, or_false, false_or, Nat.zero_le, forall_const, implies_true, false_implies, Nat.zero_add, Nat.reduceAdd, Nat.reduceLT, Nat.reduceLeDiff, Nat.le_refl, not_true_eq_false, not_false_eq_true, r_eq, r_ne, r_lt, r_ge, r_gt, r_le, bz_ne, nn_toNat, cn_of, cn_0, cn_1, i10, Int.reduceLE, Int.reduceLT, Int.reduceEq, bz_T, bz_F, ite_self, mulc, st_bud]
          refine hK _ _ ⟨mid_mk (fun x q => ⟨rfl, lo1 x q⟩), op_gen fun K hK => ?_⟩
          rw [st_bud]
          simp (disch := omega) only [↓fX12_rename.eq_1, ↓uX12_rename, ↓fX12_isLeaf.eq_1, ↓sX12_isLeaf_.eq_1, ↓(k_cs3 dX12_in), ↓(k_cv1 dX12_isTree (t12 hM)), ↓(k_cv1 dX12_walk (t12 hM)), ↓(k_cv2 dX12_howOf (t12 hM)), ↓(k_cv2 dX12_isLeaf (t12 hM)), ↓k_mk, ↓k_sq, ↓k_sk, ↓k_bk, ↓k_if, ↓k_te, ↓k_cm, ↓k_cz, ↓k_an2, ↓k_or2, ↓k_no, ↓k_ci, ↓k_l0, ↓k_r0, ↓k_se0, ↓k_ic0, ↓k_l1, ↓k_r1, ↓k_se1, ↓k_ic1, ↓k_de1, ↓k_tk1, ↓k_l2, ↓k_r2, ↓k_se2, ↓k_ic2, ↓k_de2, ↓k_tk2, ↓k_l3, ↓k_r3, ↓k_se3, ↓k_ic3, ↓k_de3, ↓k_tk3, ↓k_l4, ↓k_r4, ↓k_se4, ↓k_ic4, ↓k_de4, ↓k_tk4, ↓k_l5, ↓k_r5, ↓k_se5, ↓k_ic5, ↓k_de5, ↓k_tk5, ↓k_l6, ↓k_r6, ↓k_se6, ↓k_ic6, ↓k_de6, ↓k_tk6, ↓k_l7, ↓k_r7, ↓k_se7, ↓k_ic7, ↓k_de7, ↓k_tk7, ↓k_l8, ↓k_r8, ↓k_se8, ↓k_ic8, ↓k_de8, ↓k_tk8, ↓k_l9, ↓k_r9, ↓k_se9, ↓k_ic9, ↓k_de9, ↓k_tk9, ↓k_l10, ↓k_r10, ↓k_se10, ↓k_ic10, ↓k_de10, ↓k_tk10, ↓k_l11, ↓k_r11, ↓k_se11, ↓k_ic11, ↓k_de11, ↓k_tk11, ↓k_l12, ↓k_r12, ↓k_se12, ↓k_ic12, ↓k_de12, ↓k_tk12, ↓k_l13, ↓k_r13, ↓k_se13, ↓k_ic13, ↓k_de13, ↓k_tk13, ↓k_l14, ↓k_r14, ↓k_se14, ↓k_ic14, ↓k_de14, ↓k_tk14, ↓k_l15, ↓k_r15, ↓k_se15, ↓k_ic15, ↓k_de15, ↓k_tk15, ↓k_l16, ↓k_r16, ↓k_se16, ↓k_ic16, ↓k_de16, ↓k_tk16, ↓k_l17, ↓k_r17, ↓k_se17, ↓k_ic17, ↓k_de17, ↓k_tk17, ↓k_l18, ↓k_r18, ↓k_se18, ↓k_ic18, ↓k_de18, ↓k_tk18, ↓k_l19, ↓k_r19, ↓k_se19, ↓k_ic19, ↓k_de19, ↓k_tk19, ↓k_l20, ↓k_r20, ↓k_se20, ↓k_ic20, ↓k_de20, ↓k_tk20, ↓k_l21, ↓k_r21, ↓k_se21, ↓k_ic21, ↓k_de21, ↓k_tk21, ↓k_l22, ↓k_r22, ↓k_se22, ↓k_ic22, ↓k_de22, ↓k_tk22, ↓k_l23, ↓k_r23, ↓k_se23, ↓k_ic23, ↓k_de23, ↓k_tk23, ↓k_l24, ↓k_r24, ↓k_se24, ↓k_ic24, ↓k_de24, ↓k_tk24, ↓k_l25, ↓k_r25, ↓k_se25, ↓k_ic25, ↓k_de25, ↓k_tk25, ↓k_k, ↓k_kn, ↓k_kl, ↓k_kln, ↓k_il, ↓k_2, ↓k_1, ↓k_2c, ↓k_2l, ↓k_ac, ↓k_an, ↓k_cs, ↓k_cv, ↓k_fi, ↓k_fr, ↓k_ai, ↓k_az, ↓k_ar, ↓k_sai, ↓k_saz, ↓k_soa, ↓k_sof, ↓k_spf, ↓k_sx, ↓k_blk, ↓k_sset, ↓k_sdec, ↓k_sri, ↓k_srv, ↓k_srr, ↓k_nop, ↓k_add, ↓k_sub, ↓k_mul, ↓k_min, ↓k_max, ↓k_shr, ↓k_shl, ↓k_or, ↓k_ilz, ↓k_addl, ↓k_rt, ↓k_rb, ↓k_rbz, ↓k_rsi, ↓k_rsr, ↓k_rsv, ↓reduceIte, t12 hM, ↓(c12_isTreeX hM iRe.1 eT), hv, ↓s2, ↓c12_in, zI_long, b39, hl, ht, ↓cH, g2, ↓xi12_39 hM, ↓xp12_39 hM, ↓xb12_39 hM, ↓xf12_39 hM, ↓xg12_39 hM, ↓xh12_39 hM, List.length_cons, List.length_nil, List.forall_mem_cons, List.not_mem_nil, Value.category, true_and, and_true, false_and, and_false, or_true, true_or, or_false, false_or, Nat.zero_le, forall_const, implies_true, false_implies, Nat.zero_add, Nat.reduceAdd, Nat.reduceLT, Nat.reduceLeDiff, Nat.le_refl, not_true_eq_false, not_false_eq_true, r_eq, r_ne, r_lt, r_ge, r_gt, r_le, bz_ne, nn_toNat, cn_of, cn_0, cn_1, i10, Int.reduceLE, Int.reduceLT, Int.reduceEq, bz_T, bz_F, ite_self, mulc, st_bud]
          exact hK _ _ (fin_mk rfl (fun x q => ⟨rfl, lo2 x q⟩) hI2)
      · obtain ⟨G2, b1, b2, b3, b4, b5, s2⟩ := c12_walk (nx := nx) (rc := 0) (rs := 0) (R := R) (T := T) hM hv.1.1 (by omega) iFm tk
        obtain ⟨b5, b6⟩ := b5 tN
        have hI2 := walk_inv hI (fun x _ => rfl) b1
        have lo := walk_lo (G := G) (fun x _ => rfl) b1
        simp (disch := omega) only [↓fX11_rename.eq_1, ↓sX11_rename_.eq_1, ↓(k_cs3 dX11_within), ↓(k_cv1 dX11_bindTree (t11 hL)), ↓(k_cv2 dX11_isLeaf (t11 hL)), ↓k_mk, ↓k_sq, ↓k_sk, ↓k_bk, ↓k_if, ↓k_te, ↓k_cm, ↓k_cz, ↓k_an2, ↓k_or2, ↓k_no, ↓k_ci, ↓k_l0, ↓k_r0, ↓k_se0, ↓k_ic0, ↓k_l1, ↓k_r1, ↓k_se1, ↓k_ic1, ↓k_de1, ↓k_tk1, ↓k_l2, ↓k_r2, ↓k_se2, ↓k_ic2, ↓k_de2, ↓k_tk2, ↓k_l3, ↓k_r3, ↓k_se3, ↓k_ic3, ↓k_de3, ↓k_tk3, ↓k_l4, ↓k_r4, ↓k_se4, ↓k_ic4, ↓k_de4, ↓k_tk4, ↓k_l5, ↓k_r5, ↓k_se5, ↓k_ic5, ↓k_de5, ↓k_tk5, ↓k_l6, ↓k_r6, ↓k_se6, ↓k_ic6, ↓k_de6, ↓k_tk6, ↓k_l7, ↓k_r7, ↓k_se7, ↓k_ic7, ↓k_de7, ↓k_tk7, ↓k_l8, ↓k_r8, ↓k_se8, ↓k_ic8, ↓k_de8, ↓k_tk8, ↓k_l9, ↓k_r9, ↓k_se9, ↓k_ic9, ↓k_de9, ↓k_tk9, ↓k_l10, ↓k_r10, ↓k_se10, ↓k_ic10, ↓k_de10, ↓k_tk10, ↓k_l11, ↓k_r11, ↓k_se11, ↓k_ic11, ↓k_de11, ↓k_tk11, ↓k_l12, ↓k_r12, ↓k_se12, ↓k_ic12, ↓k_de12, ↓k_tk12, ↓k_l13, ↓k_r13, ↓k_se13, ↓k_ic13, ↓k_de13, ↓k_tk13, ↓k_l14, ↓k_r14, ↓k_se14, ↓k_ic14, ↓k_de14, ↓k_tk14, ↓k_l15, ↓k_r15, ↓k_se15, ↓k_ic15, ↓k_de15, ↓k_tk15, ↓k_l16, ↓k_r16, ↓k_se16, ↓k_ic16, ↓k_de16, ↓k_tk16, ↓k_l17, ↓k_r17, ↓k_se17, ↓k_ic17, ↓k_de17, ↓k_tk17, ↓k_l18, ↓k_r18, ↓k_se18, ↓k_ic18, ↓k_de18, ↓k_tk18, ↓k_l19, ↓k_r19, ↓k_se19, ↓k_ic19, ↓k_de19, ↓k_tk19, ↓k_l20, ↓k_r20, ↓k_se20, ↓k_ic20, ↓k_de20, ↓k_tk20, ↓k_l21, ↓k_r21, ↓k_se21, ↓k_ic21, ↓k_de21, ↓k_tk21, ↓k_l22, ↓k_r22, ↓k_se22, ↓k_ic22, ↓k_de22, ↓k_tk22, ↓k_l23, ↓k_r23, ↓k_se23, ↓k_ic23, ↓k_de23, ↓k_tk23, ↓k_l24, ↓k_r24, ↓k_se24, ↓k_ic24, ↓k_de24, ↓k_tk24, ↓k_l25, ↓k_r25, ↓k_se25, ↓k_ic25, ↓k_de25, ↓k_tk25, ↓k_k, ↓k_kn, ↓k_kl, ↓k_kln, ↓k_il, ↓k_2, ↓k_1, ↓k_2c, ↓k_2l, ↓k_ac, ↓k_an, ↓k_cs, ↓k_cv, ↓k_fi, ↓k_fr, ↓k_ai, ↓k_az, ↓k_ar, ↓k_sai, ↓k_saz, ↓k_soa, ↓k_sof, ↓k_spf, ↓k_sx, ↓k_blk, ↓k_sset, ↓k_sdec, ↓k_sri, ↓k_srv, ↓k_srr, ↓k_nop, ↓k_add, ↓k_sub, ↓k_mul, ↓k_min, ↓k_max, ↓k_shr, ↓k_shl, ↓k_or, ↓k_ilz, ↓k_addl, ↓k_rt, ↓k_rb, ↓k_rbz, ↓k_rsi, ↓k_rsr, ↓k_rsv, ↓reduceIte, t11 hL, ↓(c11_isLeaf hL iRe.1), ↓c11_within, hv, hl, ht, List.length_cons, List.length_nil, List.forall_mem_cons, List.not_mem_nil, Value.category, true_and, and_true, false_and, and_false, or_true, true_or, or_false, false_or, Nat.zero_le, forall_const, implies_true, false_implies, Nat.zero_add, Nat.reduceAdd, Nat.reduceLT, Nat.reduceLeDiff, Nat.le_refl, not_true_eq_false, not_false_eq_true, r_eq, r_ne, r_lt, r_ge, r_gt, r_le, bz_ne, nn_toNat, cn_of, cn_0, cn_1, i10, Int.reduceLE, Int.reduceLT, Int.reduceEq, bz_T, bz_F, ite_self, mulc, st_bud]
        refine hK _ _ ⟨mid_mk (lo_refl _ _ _), op_gen fun K hK => ?_⟩
        rw [st_bud]
        simp (disch := omega) only [↓fX12_rename.eq_1, ↓uX12_rename, ↓fX12_isLeaf.eq_1, ↓sX12_isLeaf_.eq_1, ↓(k_cs3 dX12_in), ↓(k_cv1 dX12_isTree (t12 hM)), ↓(k_cv1 dX12_walk (t12 hM)), ↓(k_cv2 dX12_howOf (t12 hM)), ↓(k_cv2 dX12_isLeaf (t12 hM)), ↓k_mk, ↓k_sq, ↓k_sk, ↓k_bk, ↓k_if, ↓k_te, ↓k_cm, ↓k_cz, ↓k_an2, ↓k_or2, ↓k_no, ↓k_ci, ↓k_l0, ↓k_r0, ↓k_se0, ↓k_ic0, ↓k_l1, ↓k_r1, ↓k_se1, ↓k_ic1, ↓k_de1, ↓k_tk1, ↓k_l2, ↓k_r2, ↓k_se2, ↓k_ic2, ↓k_de2, ↓k_tk2, ↓k_l3, ↓k_r3, ↓k_se3, ↓k_ic3, ↓k_de3, ↓k_tk3, ↓k_l4, ↓k_r4, ↓k_se4, ↓k_ic4, ↓k_de4, ↓k_tk4, ↓k_l5, ↓k_r5, ↓k_se5, ↓k_ic5, ↓k_de5, ↓k_tk5, ↓k_l6, ↓k_r6, ↓k_se6, ↓k_ic6, ↓k_de6, ↓k_tk6, ↓k_l7, ↓k_r7, ↓k_se7, ↓k_ic7, ↓k_de7, ↓k_tk7, ↓k_l8, ↓k_r8, ↓k_se8, ↓k_ic8, ↓k_de8, ↓k_tk8, ↓k_l9, ↓k_r9, ↓k_se9, ↓k_ic9, ↓k_de9, ↓k_tk9, ↓k_l10, ↓k_r10, ↓k_se10, ↓k_ic10, ↓k_de10, ↓k_tk10, ↓k_l11, ↓k_r11, ↓k_se11, ↓k_ic11, ↓k_de11, ↓k_tk11, ↓k_l12, ↓k_r12, ↓k_se12, ↓k_ic12, ↓k_de12, ↓k_tk12, ↓k_l13, ↓k_r13, ↓k_se13, ↓k_ic13, ↓k_de13, ↓k_tk13, ↓k_l14, ↓k_r14, ↓k_se14, ↓k_ic14, ↓k_de14, ↓k_tk14, ↓k_l15, ↓k_r15, ↓k_se15, ↓k_ic15, ↓k_de15, ↓k_tk15, ↓k_l16, ↓k_r16, ↓k_se16, ↓k_ic16, ↓k_de16, ↓k_tk16, ↓k_l17, ↓k_r17, ↓k_se17, ↓k_ic17, ↓k_de17, ↓k_tk17, ↓k_l18, ↓k_r18, ↓k_se18, ↓k_ic18, ↓k_de18, ↓k_tk18, ↓k_l19, ↓k_r19, ↓k_se19, ↓k_ic19, ↓k_de19, ↓k_tk19, ↓k_l20, ↓k_r20, ↓k_se20, ↓k_ic20, ↓k_de20, ↓k_tk20, ↓k_l21, ↓k_r21, ↓k_se21, ↓k_ic21, ↓k_de21, ↓k_tk21, ↓k_l22, ↓k_r22, ↓k_se22, ↓k_ic22, ↓k_de22, ↓k_tk22, ↓k_l23, ↓k_r23, ↓k_se23, ↓k_ic23, ↓k_de23, ↓k_tk23, ↓k_l24, ↓k_r24, ↓k_se24, ↓k_ic24, ↓k_de24, ↓k_tk24, ↓k_l25, ↓k_r25, ↓k_se25, ↓k_ic25, ↓k_de25, ↓k_tk25, ↓k_k, ↓k_kn, ↓k_kl, ↓k_kln, ↓k_il, ↓k_2, ↓k_1, ↓k_2c, ↓k_2l, ↓k_ac, ↓k_an, ↓k_cs, ↓k_cv, ↓k_fi, ↓k_fr, ↓k_ai, ↓k_az, ↓k_ar, ↓k_sai, ↓k_saz, ↓k_soa, ↓k_sof, ↓k_spf, ↓k_sx, ↓k_blk, ↓k_sset, ↓k_sdec, ↓k_sri, ↓k_srv, ↓k_srr, ↓k_nop, ↓k_add, ↓k_sub, ↓k_mul, ↓k_min, ↓k_max, ↓k_shr, ↓k_shl, ↓k_or, ↓k_ilz, ↓k_addl, ↓k_rt, ↓k_rb, ↓k_rbz, ↓k_rsi, ↓k_rsr, ↓k_rsv, ↓reduceIte, t12 hM, ↓(c12_isTree hM iRe.1), hv, ↓s2, ↓c12_in, zI_long, b5, hl, ht, ↓xi12_39 hM, ↓xp12_39 hM, ↓xb12_39 hM, ↓xf12_39 hM, ↓xg12_39 hM, ↓xh12_39 hM, List.length_cons, List.length_nil, List.forall_mem_cons, List.not_mem_nil, Value.category, true_and, and_true, false_and, and_false, or_true, true_or, or_false, false_or, Nat.zero_le, forall_const, implies_true, false_implies, Nat.zero_add, Nat.reduceAdd, Nat.reduceLT, Nat.reduceLeDiff, Nat.le_refl, not_true_eq_false, not_false_eq_true, r_eq, r_ne, r_lt, r_ge, r_gt, r_le, bz_ne, nn_toNat, cn_of, cn_0, cn_1, i10, Int.reduceLE, Int.reduceLT, Int.reduceEq, bz_T, bz_F, ite_self, mulc, st_bud]
        exact hK _ _ (fin_mk rfl (fun x q => ⟨rfl, lo x q⟩) hI2)
    · obtain ⟨G2, b1, b2, b3, b4, b5, s2⟩ := c12_walk (nx := nx) (rc := 0) (rs := 0) (R := R) (T := T) hM hv.1.1 (by omega) iFm tk
      obtain ⟨b5, b6⟩ := b5 tN
      have hI2 := walk_inv hI (fun x _ => rfl) b1
      have lo := walk_lo (G := G) (fun x _ => rfl) b1
      simp (disch := omega) only [↓fX11_rename.eq_1, ↓sX11_rename_.eq_1, ↓(k_cs3 dX11_within), ↓(k_cv1 dX11_bindTree (t11 hL)), ↓(k_cv2 dX11_isLeaf (t11 hL)), ↓k_mk, ↓k_sq, ↓k_sk, ↓k_bk, ↓k_if, ↓k_te, ↓k_cm, ↓k_cz, ↓k_an2, ↓k_or2, ↓k_no, ↓k_ci, ↓k_l0, ↓k_r0, ↓k_se0, ↓k_ic0, ↓k_l1, ↓k_r1, ↓k_se1, ↓k_ic1, ↓k_de1, ↓k_tk1, ↓k_l2, ↓k_r2, ↓k_se2, ↓k_ic2, ↓k_de2, ↓k_tk2, ↓k_l3, ↓k_r3, ↓k_se3, ↓k_ic3, ↓k_de3, ↓k_tk3, ↓k_l4, ↓k_r4, ↓k_se4, ↓k_ic4, ↓k_de4, ↓k_tk4, ↓k_l5, ↓k_r5, ↓k_se5, ↓k_ic5, ↓k_de5, ↓k_tk5, ↓k_l6, ↓k_r6, ↓k_se6, ↓k_ic6, ↓k_de6, ↓k_tk6, ↓k_l7, ↓k_r7, ↓k_se7, ↓k_ic7, ↓k_de7, ↓k_tk7, ↓k_l8, ↓k_r8, ↓k_se8, ↓k_ic8, ↓k_de8, ↓k_tk8, ↓k_l9, ↓k_r9, ↓k_se9, ↓k_ic9, ↓k_de9, ↓k_tk9, ↓k_l10, ↓k_r10, ↓k_se10, ↓k_ic10, ↓k_de10, ↓k_tk10, ↓k_l11, ↓k_r11, ↓k_se11, ↓k_ic11, ↓k_de11, ↓k_tk11, ↓k_l12, ↓k_r12, ↓k_se12, ↓k_ic12, ↓k_de12, ↓k_tk12, ↓k_l13, ↓k_r13, ↓k_se13, ↓k_ic13, ↓k_de13, ↓k_tk13, ↓k_l14, ↓k_r14, ↓k_se14, ↓k_ic14, ↓k_de14, ↓k_tk14, ↓k_l15, ↓k_r15, ↓k_se15, ↓k_ic15, ↓k_de15, ↓k_tk15, ↓k_l16, ↓k_r16, ↓k_se16, ↓k_ic16, ↓k_de16, ↓k_tk16, ↓k_l17, ↓k_r17, ↓k_se17, ↓k_ic17, ↓k_de17, ↓k_tk17, ↓k_l18, ↓k_r18, ↓k_se18, ↓k_ic18, ↓k_de18, ↓k_tk18, ↓k_l19, ↓k_r19, ↓k_se19, ↓k_ic19, ↓k_de19, ↓k_tk19, ↓k_l20, ↓k_r20, ↓k_se20, ↓k_ic20, ↓k_de20, ↓k_tk20, ↓k_l21, ↓k_r21, ↓k_se21, ↓k_ic21, ↓k_de21, ↓k_tk21, ↓k_l22, ↓k_r22, ↓k_se22, ↓k_ic22, ↓k_de22, ↓k_tk22, ↓k_l23, ↓k_r23, ↓k_se23, ↓k_ic23, ↓k_de23, ↓k_tk23, ↓k_l24, ↓k_r24, ↓k_se24, ↓k_ic24, ↓k_de24, ↓k_tk24, ↓k_l25, ↓k_r25, ↓k_se25, ↓k_ic25, ↓k_de25, ↓k_tk25, ↓k_k, ↓k_kn, ↓k_kl, ↓k_kln, ↓k_il, ↓k_2, ↓k_1, ↓k_2c, ↓k_2l, ↓k_ac, ↓k_an, ↓k_cs, ↓k_cv, ↓k_fi, ↓k_fr, ↓k_ai, ↓k_az, ↓k_ar, ↓k_sai, ↓k_saz, ↓k_soa, ↓k_sof, ↓k_spf, ↓k_sx, ↓k_blk, ↓k_sset, ↓k_sdec, ↓k_sri, ↓k_srv, ↓k_srr, ↓k_nop, ↓k_add, ↓k_sub, ↓k_mul, ↓k_min, ↓k_max, ↓k_shr, ↓k_shl, ↓k_or, ↓k_ilz, ↓k_addl, ↓k_rt, ↓k_rb, ↓k_rbz, ↓k_rsi, ↓k_rsr, ↓k_rsv, ↓reduceIte, t11 hL, ↓(c11_isLeaf hL iRe.1), hv, hl, List.length_cons, List.length_nil, List.forall_mem_cons, List.not_mem_nil, Value.category, true_and, and_true, false_and, and_false, or_true, true_or, or_false, false_or, Nat.zero_le, forall_const, implies_true, false_implies, Nat.zero_add, Nat.reduceAdd, Nat.reduceLT, Nat.reduceLeDiff, Nat.le_refl, not_true_eq_false, not_false_eq_true, r_eq, r_ne, r_lt, r_ge, r_gt, r_le, bz_ne, nn_toNat, cn_of, cn_0, cn_1, i10, Int.reduceLE, Int.reduceLT, Int.reduceEq, bz_T, bz_F, ite_self, mulc, st_bud]
      refine hK _ _ ⟨mid_mk (lo_refl _ _ _), op_gen fun K hK => ?_⟩
      rw [st_bud]
      simp (disch := omega) only [↓fX12_rename.eq_1, ↓uX12_rename, ↓fX12_isLeaf.eq_1, ↓sX12_isLeaf_.eq_1, ↓(k_cs3 dX12_in), ↓(k_cv1 dX12_isTree (t12 hM)), ↓(k_cv1 dX12_walk (t12 hM)), ↓(k_cv2 dX12_howOf (t12 hM)), ↓(k_cv2 dX12_isLeaf (t12 hM)), ↓k_mk, ↓k_sq, ↓k_sk, ↓k_bk, ↓k_if, ↓k_te, ↓k_cm, ↓k_cz, ↓k_an2, ↓k_or2, ↓k_no, ↓k_ci, ↓k_l0, ↓k_r0, ↓k_se0, ↓k_ic0, ↓k_l1, ↓k_r1, ↓k_se1, ↓k_ic1, ↓k_de1, ↓k_tk1, ↓k_l2, ↓k_r2, ↓k_se2, ↓k_ic2, ↓k_de2, ↓k_tk2, ↓k_l3, ↓k_r3, ↓k_se3, ↓k_ic3, ↓k_de3, ↓k_tk3, ↓k_l4, ↓k_r4, ↓k_se4, ↓k_ic4, ↓k_de4, ↓k_tk4, ↓k_l5, ↓k_r5, ↓k_se5, ↓k_ic5, ↓k_de5, ↓k_tk5, ↓k_l6, ↓k_r6, ↓k_se6, ↓k_ic6, ↓k_de6, ↓k_tk6, ↓k_l7, ↓k_r7, ↓k_se7, ↓k_ic7, ↓k_de7, ↓k_tk7, ↓k_l8, ↓k_r8, ↓k_se8, ↓k_ic8, ↓k_de8, ↓k_tk8, ↓k_l9, ↓k_r9, ↓k_se9, ↓k_ic9, ↓k_de9, ↓k_tk9, ↓k_l10, ↓k_r10, ↓k_se10, ↓k_ic10, ↓k_de10, ↓k_tk10, ↓k_l11, ↓k_r11, ↓k_se11, ↓k_ic11, ↓k_de11, ↓k_tk11, ↓k_l12, ↓k_r12, ↓k_se12, ↓k_ic12, ↓k_de12, ↓k_tk12, ↓k_l13, ↓k_r13, ↓k_se13, ↓k_ic13, ↓k_de13, ↓k_tk13, ↓k_l14, ↓k_r14, ↓k_se14, ↓k_ic14, ↓k_de14, ↓k_tk14, ↓k_l15, ↓k_r15, ↓k_se15, ↓k_ic15, ↓k_de15, ↓k_tk15, ↓k_l16, ↓k_r16, ↓k_se16, ↓k_ic16, ↓k_de16, ↓k_tk16, ↓k_l17, ↓k_r17, ↓k_se17, ↓k_ic17, ↓k_de17, ↓k_tk17, ↓k_l18, ↓k_r18, ↓k_se18, ↓k_ic18, ↓k_de18, ↓k_tk18, ↓k_l19, ↓k_r19, ↓k_se19, ↓k_ic19, ↓k_de19, ↓k_tk19, ↓k_l20, ↓k_r20, ↓k_se20, ↓k_ic20, ↓k_de20, ↓k_tk20, ↓k_l21, ↓k_r21, ↓k_se21, ↓k_ic21, ↓k_de21, ↓k_tk21, ↓k_l22, ↓k_r22, ↓k_se22, ↓k_ic22, ↓k_de22, ↓k_tk22, ↓k_l23, ↓k_r23, ↓k_se23, ↓k_ic23, ↓k_de23, ↓k_tk23, ↓k_l24, ↓k_r24, ↓k_se24, ↓k_ic24, ↓k_de24, ↓k_tk24, ↓k_l25, ↓k_r25, ↓k_se25, ↓k_ic25, ↓k_de25, ↓k_tk25, ↓k_k, ↓k_kn, ↓k_kl, ↓k_kln, ↓k_il, ↓k_2, ↓k_1, ↓k_2c, ↓k_2l, ↓k_ac, ↓k_an, ↓k_cs, ↓k_cv, ↓k_fi, ↓k_fr, ↓k_ai, ↓k_az, ↓k_ar, ↓k_sai, ↓k_saz, ↓k_soa, ↓k_sof, ↓k_spf, ↓k_sx, ↓k_blk, ↓k_sset, ↓k_sdec, ↓k_sri, ↓k_srv, ↓k_srr, ↓k_nop, ↓k_add, ↓k_sub, ↓k_mul, ↓k_min, ↓k_max, ↓k_shr, ↓k_shl, ↓k_or, ↓k_ilz, ↓k_addl, ↓k_rt, ↓k_rb, ↓k_rbz, ↓k_rsi, ↓k_rsr, ↓k_rsv, ↓reduceIte, t12 hM, ↓(c12_isTree hM iRe.1), hv, ↓s2, ↓c12_in, zI_long, b5, hl, ↓xi12_39 hM, ↓xp12_39 hM, ↓xb12_39 hM, ↓xf12_39 hM, ↓xg12_39 hM, ↓xh12_39 hM, List.length_cons, List.length_nil, List.forall_mem_cons, List.not_mem_nil, Value.category, true_and, and_true, false_and, and_false, or_true, true_or, or_false, false_or, Nat.zero_le, forall_const, implies_true, false_implies, Nat.zero_add, Nat.reduceAdd, Nat.reduceLT, Nat.reduceLeDiff, Nat.le_refl, not_true_eq_false, not_false_eq_true, r_eq, r_ne, r_lt, r_ge, r_gt, r_le, bz_ne, nn_toNat, cn_of, cn_0, cn_1, i10, Int.reduceLE, Int.reduceLT, Int.reduceEq, bz_T, bz_F, ite_self, mulc, st_bud]
      exact hK _ _ (fin_mk rfl (fun x q => ⟨rfl, lo x q⟩) hI2)
  · refine op_gen fun K hK => ?_
    simp (disch := omega) only [↓fX11_rename.eq_1, ↓sX11_rename_.eq_1, ↓(k_cs3 dX11_within), ↓(k_cv1 dX11_bindTree (t11 hL)), ↓(k_cv2 dX11_isLeaf (t11 hL)), ↓k_mk, ↓k_sq, ↓k_sk, ↓k_bk, ↓k_if, ↓k_te, ↓k_cm, ↓k_cz, ↓k_an2, ↓k_or2, ↓k_no, ↓k_ci, ↓k_l0, ↓k_r0, ↓k_se0, ↓k_ic0, ↓k_l1, ↓k_r1, ↓k_se1, ↓k_ic1, ↓k_de1, ↓k_tk1, ↓k_l2, ↓k_r2, ↓k_se2, ↓k_ic2, ↓k_de2, ↓k_tk2, ↓k_l3, ↓k_r3, ↓k_se3, ↓k_ic3, ↓k_de3, ↓k_tk3, ↓k_l4, ↓k_r4, ↓k_se4, ↓k_ic4, ↓k_de4, ↓k_tk4, ↓k_l5, ↓k_r5, ↓k_se5, ↓k_ic5, ↓k_de5, ↓k_tk5, ↓k_l6, ↓k_r6, ↓k_se6, ↓k_ic6, ↓k_de6, ↓k_tk6, ↓k_l7, ↓k_r7, ↓k_se7, ↓k_ic7, ↓k_de7, ↓k_tk7, ↓k_l8, ↓k_r8, ↓k_se8, ↓k_ic8, ↓k_de8, ↓k_tk8, ↓k_l9, ↓k_r9, ↓k_se9, ↓k_ic9, ↓k_de9, ↓k_tk9, ↓k_l10, ↓k_r10, ↓k_se10, ↓k_ic10, ↓k_de10, ↓k_tk10, ↓k_l11, ↓k_r11, ↓k_se11, ↓k_ic11, ↓k_de11, ↓k_tk11, ↓k_l12, ↓k_r12, ↓k_se12, ↓k_ic12, ↓k_de12, ↓k_tk12, ↓k_l13, ↓k_r13, ↓k_se13, ↓k_ic13, ↓k_de13, ↓k_tk13, ↓k_l14, ↓k_r14, ↓k_se14, ↓k_ic14, ↓k_de14, ↓k_tk14, ↓k_l15, ↓k_r15, ↓k_se15, ↓k_ic15, ↓k_de15, ↓k_tk15, ↓k_l16, ↓k_r16, ↓k_se16, ↓k_ic16, ↓k_de16, ↓k_tk16, ↓k_l17, ↓k_r17, ↓k_se17, ↓k_ic17, ↓k_de17, ↓k_tk17, ↓k_l18, ↓k_r18, ↓k_se18, ↓k_ic18, ↓k_de18, ↓k_tk18, ↓k_l19, ↓k_r19, ↓k_se19, ↓k_ic19, ↓k_de19, ↓k_tk19, ↓k_l20, ↓k_r20, ↓k_se20, ↓k_ic20, ↓k_de20, ↓k_tk20, ↓k_l21, ↓k_r21, ↓k_se21, ↓k_ic21, ↓k_de21, ↓k_tk21, ↓k_l22, ↓k_r22, ↓k_se22, ↓k_ic22, ↓k_de22, ↓k_tk22, ↓k_l23, ↓k_r23, ↓k_se23, ↓k_ic23, ↓k_de23, ↓k_tk23, ↓k_l24, ↓k_r24, ↓k_se24, ↓k_ic24, ↓k_de24, ↓k_tk24, ↓k_l25, ↓k_r25, ↓k_se25, ↓k_ic25, ↓k_de25, ↓k_tk25, ↓k_k, ↓k_kn, ↓k_kl, ↓k_kln, ↓k_il, ↓k_2, ↓k_1, ↓k_2c, ↓k_2l, ↓k_ac, ↓k_an, ↓k_cs, ↓k_cv, ↓k_fi, ↓k_fr, ↓k_ai, ↓k_az, ↓k_ar, ↓k_sai, ↓k_saz, ↓k_soa, ↓k_sof, ↓k_spf, ↓k_sx, ↓k_blk, ↓k_sset, ↓k_sdec, ↓k_sri, ↓k_srv, ↓k_srr, ↓k_nop, ↓k_add, ↓k_sub, ↓k_mul, ↓k_min, ↓k_max, ↓k_shr, ↓k_shl, ↓k_or, ↓k_ilz, ↓k_addl, ↓k_rt, ↓k_rb, ↓k_rbz, ↓k_rsi, ↓k_rsr, ↓k_rsv, ↓reduceIte, t11 hL, t12 hM, ↓(c11_isTree hL iRe.1), ↓(c12_isTree hM iRe.1), ↓(c11_isLeaf hL iRe.1), hv, List.length_cons, List.length_nil, List.forall_mem_cons, List.not_mem_nil, Value.category, true_and, and_true, false_and, and_false, or_true, true_or, or_false, false_or, Nat.zero_le, forall_const, implies_true, false_implies, Nat.zero_add, Nat.reduceAdd, Nat.reduceLT, Nat.reduceLeDiff, Nat.le_refl, not_true_eq_false, not_false_eq_true, r_eq, r_ne, r_lt, r_ge, r_gt, r_le, bz_ne, nn_toNat, cn_of, cn_0, cn_1, i10, Int.reduceLE, Int.reduceLT, Int.reduceEq, bz_T, bz_F, ite_self, mulc, st_bud]
    refine hK _ _ ⟨mid_mk (lo_refl _ _ _), op_gen fun K hK => ?_⟩
    rw [st_bud]
    simp (disch := first | omega | (simp (disch := omega) only [gs_ne, flG_ne, wr_ne, cpG_ne])) only [↓fX12_rename.eq_1, ↓uX12_rename, ↓fX12_isLeaf.eq_1, ↓sX12_isLeaf_.eq_1, ↓(k_cs3 dX12_in), ↓(k_cv1 dX12_isTree (t12 hM)), ↓(k_cv1 dX12_walk (t12 hM)), ↓(k_cv2 dX12_howOf (t12 hM)), ↓(k_cv2 dX12_isLeaf (t12 hM)), ↓k_mk, ↓k_sq, ↓k_sk, ↓k_bk, ↓k_if, ↓k_te, ↓k_cm, ↓k_cz, ↓k_an2, ↓k_or2, ↓k_no, ↓k_ci, ↓k_l0, ↓k_r0, ↓k_se0, ↓k_ic0, ↓k_l1, ↓k_r1, ↓k_se1, ↓k_ic1, ↓k_de1, ↓k_tk1, ↓k_l2, ↓k_r2, ↓k_se2, ↓k_ic2, ↓k_de2, ↓k_tk2, ↓k_l3, ↓k_r3, ↓k_se3, ↓k_ic3, ↓k_de3, ↓k_tk3, ↓k_l4, ↓k_r4, ↓k_se4, ↓k_ic4, ↓k_de4, ↓k_tk4, ↓k_l5, ↓k_r5, ↓k_se5, ↓k_ic5, ↓k_de5, ↓k_tk5, ↓k_l6, ↓k_r6, ↓k_se6, ↓k_ic6, ↓k_de6, ↓k_tk6, ↓k_l7, ↓k_r7, ↓k_se7, ↓k_ic7, ↓k_de7, ↓k_tk7, ↓k_l8, ↓k_r8, ↓k_se8, ↓k_ic8, ↓k_de8, ↓k_tk8, ↓k_l9, ↓k_r9, ↓k_se9, ↓k_ic9, ↓k_de9, ↓k_tk9, ↓k_l10, ↓k_r10, ↓k_se10, ↓k_ic10, ↓k_de10, ↓k_tk10, ↓k_l11, ↓k_r11, ↓k_se11, ↓k_ic11, ↓k_de11, ↓k_tk11, ↓k_l12, ↓k_r12, ↓k_se12, ↓k_ic12, ↓k_de12, ↓k_tk12, ↓k_l13, ↓k_r13, ↓k_se13, ↓k_ic13, ↓k_de13, ↓k_tk13, ↓k_l14, ↓k_r14, ↓k_se14, ↓k_ic14, ↓k_de14, ↓k_tk14, ↓k_l15, ↓k_r15, ↓k_se15, ↓k_ic15, ↓k_de15, ↓k_tk15, ↓k_l16, ↓k_r16, ↓k_se16, ↓k_ic16, ↓k_de16, ↓k_tk16, ↓k_l17, ↓k_r17, ↓k_se17, ↓k_ic17, ↓k_de17, ↓k_tk17, ↓k_l18, ↓k_r18, ↓k_se18, ↓k_ic18, ↓k_de18, ↓k_tk18, ↓k_l19, ↓k_r19, ↓k_se19, ↓k_ic19, ↓k_de19, ↓k_tk19, ↓k_l20, ↓k_r20, ↓k_se20, ↓k_ic20, ↓k_de20, ↓k_tk20, ↓k_l21, ↓k_r21, ↓k_se21, ↓k_ic21, ↓k_de21, ↓k_tk21, ↓k_l22, ↓k_r22, ↓k_se22, ↓k_ic22, ↓k_de22, ↓k_tk22, ↓k_l23, ↓k_r23, ↓k_se23, ↓k_ic23, ↓k_de23, ↓k_tk23, ↓k_l24, ↓k_r24, ↓k_se24, ↓k_ic24, ↓k_de24, ↓k_tk24, ↓k_l25, ↓k_r25, ↓k_se25, ↓k_ic25, ↓k_de25, ↓k_tk25, ↓k_k, ↓k_kn, ↓k_kl, ↓k_kln, ↓k_il, ↓k_2, ↓k_1, ↓k_2c, ↓k_2l, ↓k_ac, ↓k_an, ↓k_cs, ↓k_cv, ↓k_fi, ↓k_fr, ↓k_ai, ↓k_az, ↓k_ar, ↓k_sai, ↓k_saz, ↓k_soa, ↓k_sof, ↓k_spf, ↓k_sx, ↓k_blk, ↓k_sset, ↓k_sdec, ↓k_sri, ↓k_srv, ↓k_srr, ↓k_nop, ↓k_add, ↓k_sub, ↓k_mul, ↓k_min, ↓k_max, ↓k_shr, ↓k_shl, ↓k_or, ↓k_ilz, ↓k_addl, ↓k_rt, ↓k_rb, ↓k_rbz, ↓k_rsi, ↓k_rsr, ↓k_rsv, ↓reduceIte, t11 hL, t12 hM, ↓(c11_isTree hL iRe.1), ↓(c12_isTree hM iRe.1), ↓(c11_isLeaf hL iRe.1), hv, List.length_cons, List.length_nil, List.forall_mem_cons, List.not_mem_nil, Value.category, true_and, and_true, false_and, and_false, or_true, true_or, or_false, false_or, Nat.zero_le, forall_const, implies_true, false_implies, Nat.zero_add, Nat.reduceAdd, Nat.reduceLT, Nat.reduceLeDiff, Nat.le_refl, not_true_eq_false, not_false_eq_true, r_eq, r_ne, r_lt, r_ge, r_gt, r_le, bz_ne, nn_toNat, cn_of, cn_0, cn_1, i10, Int.reduceLE, Int.reduceLT, Int.reduceEq, bz_T, bz_F, ite_self, mulc, st_bud]
    exact hK _ _ (fin_mk rfl (lo_refl _ _ _) hI)
end
