section
/-! hint: both judge what was built -/
def UBf (G : Nat → Int → Int) (B a : Nat) (v l : Int) : Prop := HWf G B a v l = 0 ∧ bst (HWf G B a v) (RCf G B a v) (G (a + 2)) (fun t => G (a + 1) (G (a + 8) t)) (G (a + 8)) l (G a 4).toNat = -1
theorem UB_row {G G' : Nat → Int → Int} {B a : Nat} {v : Int} (kv : 0 ≤ v ∧ v ≤ 1) (ha : a + 10 ≤ B + 544) (h : ∀ x, x < B + 544 → G' x = G x) : UBf G' B a v = UBf G B a v ∧ hlL G' B a v = hlL G B a v := by
  have tvb : B + 370 ≤ tvA B v ∧ tvA B v + 14 ≤ B + 398 := by unfold tvA; omega
  refine ⟨?_, ?_⟩
  · unfold UBf HWf RCf
    simp (disch := omega) only [h]
  · unfold hlL BTf HWf RCf
    simp (disch := omega) only [h]
/-- the class binds what it built, looks for a use that is not bound, and judges -/
theorem hb_cls {T : Nat → Option q_T} {nx B j1 j2 j3 j4 : Nat} {R : Nat → Nat → Option Value} {G : Nat → Int → Int} {v : Int} (hL : Ly T R B (L11x B j1 j2 j3 j4)) (ct : CT G B (B + 5) v) (hv : G (B + 5) 1 = v) :
    ∃ G1 l, FUB (UBf G B (B + 5) v) (G (B + 5) 4) l ∧ (-1 ≤ l ∧ l ≤ 200) ∧ (∀ x, ¬ (B + 46 ≤ x ∧ x ≤ B + 49) → G1 x = G x) ∧ (∀ K : Option Value → q_M → Prop, fX11_bindTree [.ref B, .ref (B + 5)] (st T nx 0 0 R G) K = K none (st T nx 0 0 R G1)) ∧ (∀ K : Option Value → q_M → Prop, fX0_firstUnbound [.ref (B + 46)] (st T nx 0 0 R G1) K = K (some (.int (zI l))) (st T nx 0 0 R G1)) ∧ ∃ G2 Gd b bl, (∀ x, ¬ (B + 46 ≤ x ∧ x ≤ B + 58) → Gd x = G x) ∧ HM G2 (B + 51) (G (B + 5) 2) (hlL G B (B + 5) v).length (fun i => (lg (hlL G B (B + 5) v) i).1) (fun i => (lg (hlL G B (B + 5) v) i).2.1) (fun i => (lg (hlL G B (B + 5) v) i).2.2.1) ∧ BLd G2 Gd (B + 51) (hlL G B (B + 5) v).length (fun i => (lg (hlL G B (B + 5) v) i).1) (fun i => (lg (hlL G B (B + 5) v) i).2.1) (fun i => (lg (hlL G B (B + 5) v) i).2.2.1) b bl ∧ (∀ i, i < (hlL G B (B + 5) v).length → G2 (B + 55) i = (lg (hlL G B (B + 5) v) i).2.2.2) ∧ (∀ K : Option Value → q_M → Prop, fX2_hold [.ref (B + 51), .ref (B + 370 + 14 * v.toNat), .ref (B + 5), .ref (B + 46)] (st T nx 0 0 R G1) K = K none (st T nx 0 0 R G2)) ∧ ∀ K : Option Value → q_M → Prop, fX2_blame [.ref (B + 51)] (st T nx 0 0 R G2) K = K none (st T nx 0 0 R Gd) := by
  have kv := ct.2.1
  have tvb : B + 370 ≤ tvA B v ∧ tvA B v + 14 ≤ B + 398 := by unfold tvA; omega
  have oB := o11_14 hL
  have oJ := o11_15 hL
  have h9 := o11_4 hL
  have h8 : Ly T R (tvA B v) (L8 (tvA B v)) := o11_0 hL (i := v.toNat) (by omega)
  have kT := ct.2.2.2
  have n201 := kT.1.2.1
  have LN := kT.1.2.2.2.2.2.1
  have L00 := kT.1.2.2.2.2.1
  have N0 := kT.1.2.2.1
  obtain ⟨G1, bd, w1⟩ := c0_bind (nx := nx) (rc := 0) (rs := 0) oB h8 h9 ct (by omega) (by omega)
  have e1 : ∀ x, ¬ (B + 46 ≤ x ∧ x ≤ B + 46 + 3) → G1 x = G x := bd.1
  have ct1 : CT G1 B (B + 5) v := CT_row ct (fun x q1 q2 => e1 x (by omega)) (fun x q1 q2 => e1 x (by omega)) (fun x q1 q2 => e1 x (by omega))
  obtain ⟨l, f1, f2⟩ := c0_firstUnbound (T := T) (nx := nx) (R := R) (G := G1) (L := G (B + 5) 4) (U := UBf G B (B + 5) v) oB bd.2.2.1 (by omega) (by omega) (fun k k0 k1 => by
    obtain ⟨d1, d2, d3⟩ := bd.2.2.2 k k0 k1
    have hwb := hwC ct k0 k1
    have bb := bst_b (HWf G B (B + 5) v) (RCf G B (B + 5) v) (G (B + 5 + 2)) (fun t => G (B + 5 + 1) (G (B + 5 + 8) t)) (G (B + 5 + 8)) k (G (B + 5) 4).toNat
    refine ⟨HWf G B (B + 5) v k, _, d1, hwb, d3, ?_, ?_⟩
    · split <;> omega
    · unfold UBf
      by_cases z : HWf G B (B + 5) v k = 0
      · rw [if_pos z]
      · rw [if_neg z]
        exact ⟨fun w => absurd w.1 z, fun w => absurd w.1 z⟩)
  have lb : -1 ≤ l ∧ l ≤ 200 := by
    rcases f1 with ⟨z, _⟩ | ⟨z, _⟩ <;> omega
  have w1' : ∀ K : Option Value → q_M → Prop, fX0_bind [.ref (B + 46), .ref (B + 370 + 14 * v.toNat), .ref (B + 5)] (st T nx 0 0 R G) K = K none (st T nx 0 0 R G1) := w1
  refine ⟨G1, l, f1, lb, fun x q => e1 x (by omega), fun K => ?_, f2, ?_⟩
  · clear f1 f2 bd e1 ct1 w1 kT ct
    simp (disch := omega) only [↓fX11_bindTree.eq_1, ↓sX11_bindTree_.eq_1, ↓(k_cv2 dX0_bind (t0 oB)), ↓k_mk, ↓k_sq, ↓k_sk, ↓k_bk, ↓k_if, ↓k_te, ↓k_cm, ↓k_cz, ↓k_an2, ↓k_or2, ↓k_no, ↓k_ci, ↓k_l0, ↓k_r0, ↓k_se0, ↓k_ic0, ↓k_l1, ↓k_r1, ↓k_se1, ↓k_ic1, ↓k_de1, ↓k_tk1, ↓k_l2, ↓k_r2, ↓k_se2, ↓k_ic2, ↓k_de2, ↓k_tk2, ↓k_l3, ↓k_r3, ↓k_se3, ↓k_ic3, ↓k_de3, ↓k_tk3, ↓k_l4, ↓k_r4, ↓k_se4, ↓k_ic4, ↓k_de4, ↓k_tk4, ↓k_l5, ↓k_r5, ↓k_se5, ↓k_ic5, ↓k_de5, ↓k_tk5, ↓k_l6, ↓k_r6, ↓k_se6, ↓k_ic6, ↓k_de6, ↓k_tk6, ↓k_l7, ↓k_r7, ↓k_se7, ↓k_ic7, ↓k_de7, ↓k_tk7, ↓k_l8, ↓k_r8, ↓k_se8, ↓k_ic8, ↓k_de8, ↓k_tk8, ↓k_l9, ↓k_r9, ↓k_se9, ↓k_ic9, ↓k_de9, ↓k_tk9, ↓k_l10, ↓k_r10, ↓k_se10, ↓k_ic10, ↓k_de10, ↓k_tk10, ↓k_l11, ↓k_r11, ↓k_se11, ↓k_ic11, ↓k_de11, ↓k_tk11, ↓k_l12, ↓k_r12, ↓k_se12, ↓k_ic12, ↓k_de12, ↓k_tk12, ↓k_l13, ↓k_r13, ↓k_se13, ↓k_ic13, ↓k_de13, ↓k_tk13, ↓k_l14, ↓k_r14, ↓k_se14, ↓k_ic14, ↓k_de14, ↓k_tk14, ↓k_l15, ↓k_r15, ↓k_se15, ↓k_ic15, ↓k_de15, ↓k_tk15, ↓k_l16, ↓k_r16, ↓k_se16, ↓k_ic16, ↓k_de16, ↓k_tk16, ↓k_l17, ↓k_r17, ↓k_se17, ↓k_ic17, ↓k_de17, ↓k_tk17, ↓k_l18, ↓k_r18, ↓k_se18, ↓k_ic18, ↓k_de18, ↓k_tk18, ↓k_l19, ↓k_r19, ↓k_se19, ↓k_ic19, ↓k_de19, ↓k_tk19, ↓k_l20, ↓k_r20, ↓k_se20, ↓k_ic20, ↓k_de20, ↓k_tk20, ↓k_l21, ↓k_r21, ↓k_se21, ↓k_ic21, ↓k_de21, ↓k_tk21, ↓k_l22, ↓k_r22, ↓k_se22, ↓k_ic22, ↓k_de22, ↓k_tk22, ↓k_l23, ↓k_r23, ↓k_se23, ↓k_ic23, ↓k_de23, ↓k_tk23, ↓k_l24, ↓k_r24, ↓k_se24, ↓k_ic24, ↓k_de24, ↓k_tk24, ↓k_l25, ↓k_r25, ↓k_se25, ↓k_ic25, ↓k_de25, ↓k_tk25, ↓k_k, ↓k_kn, ↓k_kl, ↓k_kln, ↓k_il, ↓k_2, ↓k_1, ↓k_2c, ↓k_2l, ↓k_ac, ↓k_an, ↓k_cs, ↓k_cv, ↓k_fi, ↓k_fr, ↓k_ai, ↓k_az, ↓k_ar, ↓k_sai, ↓k_saz, ↓k_soa, ↓k_sof, ↓k_spf, ↓k_sx, ↓k_blk, ↓k_sset, ↓k_sdec, ↓k_sri, ↓k_srv, ↓k_srr, ↓k_nop, ↓k_add, ↓k_sub, ↓k_mul, ↓k_min, ↓k_max, ↓k_shr, ↓k_shl, ↓k_or, ↓k_ilz, ↓k_addl, ↓k_rt, ↓k_rb, ↓k_rbz, ↓k_rsi, ↓k_rsr, ↓k_rsv, ↓reduceIte, hv, ↓w1', ↓xi0_1 oB, ↓xp0_1 oB, ↓xb0_1 oB, ↓xf0_1 oB, ↓xg0_1 oB, ↓xh0_1 oB, ↓xr11_0 hL, ↓xu11_0 hL, ↓xr11_14 hL, ↓xi9_1 h9, ↓xp9_1 h9, ↓xb9_1 h9, ↓xf9_1 h9, ↓xg9_1 h9, ↓xh9_1 h9, List.length_cons, List.length_nil, List.forall_mem_cons, List.not_mem_nil, Value.category, true_and, and_true, false_and, and_false, or_true, true_or, or_false, false_or, Nat.zero_le, forall_const, implies_true, false_implies, Nat.zero_add, Nat.reduceAdd, Nat.reduceLT, Nat.reduceLeDiff, Nat.le_refl, not_true_eq_false, not_false_eq_true, r_eq, r_ne, r_lt, r_ge, r_gt, r_le, bz_ne, nn_toNat, cn_of, cn_0, cn_1, i10, Int.reduceLE, Int.reduceLT, Int.reduceEq, bz_T, bz_F, ite_self, mulc, st_bud]
  have bp : BP G1 (B + 46) (G1 (B + 5) 4) (BTf G B (B + 5) v (fun t => G (B + 5 + 1) (G (B + 5 + 8) t))) := by
    intro k k0 k1
    rw [e1 (B + 5) (by omega)] at k1 ⊢
    obtain ⟨d1, d2, d3⟩ := bd.2.2.2 k k0 k1
    have hwb := hwC ct k0 k1
    obtain ⟨y, hy⟩ : ∃ y, y = bst (HWf G B (B + 5) v) (RCf G B (B + 5) v) (G (B + 5 + 2)) (fun t => G (B + 5 + 1) (G (B + 5 + 8) t)) (G (B + 5 + 8)) k (G (B + 5) 4).toNat := ⟨_, rfl⟩
    have bb := bst_b (HWf G B (B + 5) v) (RCf G B (B + 5) v) (G (B + 5 + 2)) (fun t => G (B + 5 + 1) (G (B + 5 + 8) t)) (G (B + 5 + 8)) k (G (B + 5) 4).toNat
    rw [← hy] at bb d3
    refine ⟨HWf G B (B + 5) v k, if HWf G B (B + 5) v k = 0 then y else -1, d1, hwb, d3, ?_, ?_⟩
    · split <;> omega
    · unfold BTf
      rw [← hy]
      split <;> rfl
  obtain ⟨G2, hd, _, w2⟩ := c2_holdC (T := T) (nx := nx) (R := R) oJ h8 h9 oB ct1 (by omega) (by omega) (by omega) bp
  rw [e1 (B + 5) (by omega), e1 (B + 5 + 1) (by omega), e1 (B + 5 + 2) (by omega), e1 (B + 5 + 7) (by omega), e1 (B + 5 + 8) (by omega), e1 (tvA B v + 11) (by omega), e1 (tvA B v + 12) (by omega), e1 (tvA B v + 13) (by omega)] at hd
  have hd : HDo G1 G2 (B + 51) (G (B + 5) 2) (hlL G B (B + 5) v) := hd
  obtain ⟨Gd, b, bl, y, s2⟩ := c2_blame (T := T) (nx := nx) (rc := 0) (rs := 0) (R := R) oJ hd.2.2.1
  exact ⟨G2, Gd, b, bl, fun x q => by rw [y.1 x (by omega) (by omega) (by omega) (by omega), hd.1 x (by omega), e1 x (by omega)], hd.2.2.1, y, hd.2.2.2, w2, s2⟩
theorem RB_f {G0 G G' : Nat → Int → Int} {B a : Nat} {i v : Int} {cd : Int → Int} (h1 : ∀ x, ¬ x = B + 544 → G' x = G x) (h2 : G' (B + 544) 39 = G (B + 544) 39) (r : RB G0 G B a i v cd) : RB G0 G' B a i v cd := by
  obtain ⟨r1, r2, r3, r4, r5, r6⟩ := r
  refine ⟨r1, r2, r3, fun x q1 q2 => by rw [h1 x (by omega)]; exact r4 x q1 q2, by rw [h2]; exact r5, fun l l0 l1 => ?_⟩
  rw [h1 (B + 544 + 33) (by omega), h1 (B + 544 + 34) (by omega), h1 (B + 544 + 35) (by omega)]
  exact r6 l l0 l1
/-- the reference looks for the first use that is not bound -/
theorem rh_loop {T : Nat → Option q_T} {nx B a : Nat} {R : Nat → Nat → Option Value} {G Gw : Nat → Int → Int} {v : Int} {x1 x2 x3 : Value} (hM : Ly T R (B + 544) (L12 (B + 544))) (rb : RB G Gw B a 92 v (fun t => G (a + 1) (G (a + 8) t))) (h1 : Gw (B + 544) 120 = 0) (h2 : Gw (B + 544) 121 = -1) :
    ∃ G' l, FUB (UBf G B a v) (G a 4) l ∧ (∀ x, ¬ x = B + 544 → G' x = Gw x) ∧ (∀ j, ¬ j = 120 → ¬ j = 121 → G' (B + 544) j = Gw (B + 544) j) ∧ G' (B + 544) 120 = (if l = -1 then 0 else 3) ∧ G' (B + 544) 121 = l ∧ ∀ (Kn : List Value → q_M → Prop) (Kr : Option Value → q_M → Prop), wX12_findHint_0 [.ref (B + 544), x1, x2, x3, .int (zI (G a 4 - 1))] (st T nx 0 0 R Gw) Kn Kr = Kn [.ref (B + 544), x1, x2, x3, .int (zI (-1))] (st T nx 0 0 R G') := by
  obtain ⟨L, hL⟩ : ∃ L, L = G a 4 := ⟨_, rfl⟩
  have tk := rb.2.1
  have tN := rb.2.2.1
  have kT := tk.2.2.2.1
  have n201 := kT.1.2.1
  have LN := kT.1.2.2.2.2.2.1
  have L00 := kT.1.2.2.2.2.1
  have N0 := kT.1.2.2.1
  obtain ⟨G', ⟨p1, p2, l, p3, p4, p5⟩, w⟩ := q_forE eX12_findHint_0 (fun _ _ => lX12_findHint_0) (fun k => [.ref (B + 544), x1, x2, x3, .int (zI (L - 1 - k))]) (fun G => st T nx 0 0 R G) (fun k G1 => (∀ x, ¬ x = B + 544 → G1 x = Gw x) ∧ (∀ j, ¬ j = 120 → ¬ j = 121 → G1 (B + 544) j = Gw (B + 544) j) ∧ ∃ l, G1 (B + 544) 120 = (if l = -1 then 0 else 3) ∧ G1 (B + 544) 121 = l ∧ ((l = -1 ∧ ∀ q, L - (k : Int) ≤ q → q < L → ¬ UBf G B a v q) ∨ ((L - (k : Int) ≤ l ∧ l < L) ∧ UBf G B a v l ∧ ∀ q, L - (k : Int) ≤ q → q < l → ¬ UBf G B a v q))) L.toNat Gw ⟨fun _ _ => rfl, fun _ _ _ => rfl, -1, by rw [if_pos rfl]; exact h1, h2, Or.inl ⟨rfl, fun q q1 q2 => by omega⟩⟩ (fun k hk G1 ⟨p1, p2, l, p3, p4, p5⟩ => by
    have rb1 := RB_f p1 (p2 39 (by omega) (by omega)) rb
    obtain ⟨c, hc⟩ : ∃ c, c = L - 1 - (k : Int) := ⟨_, rfl⟩
    have c0 : 0 ≤ c := by omega
    have c1 : c < G a 4 := by omega
    have cH : ∀ K : Option Value → q_M → Prop, fX12_howOf [.ref (B + 544), .int (zI 92), .int (zI c)] (st T nx 0 0 R G1) K = K (some (.int (zI (HWf G B a v c)))) (st T nx 0 0 R G1) := fun K => c12_howR hM (by omega) (by omega) rb1 c0 c1
    have cB := fun K : Option Value → q_M → Prop => c12_boundR (nx := nx) (rc := 0) (rs := 0) (K := K) hM (by omega) (by omega) rb1 c0 c1
    have hwb := hw_b rb.1 tk tN c0 c1
    have bb := bst_b (HWf G B a v) (RCf G B a v) (G (a + 2)) (fun t => G (a + 1) (G (a + 8) t)) (G (a + 8)) c (G a 4).toNat
    have hU : UBf G B a v c ↔ HWf G B a v c = 0 ∧ bst (HWf G B a v) (RCf G B a v) (G (a + 2)) (fun t => G (a + 1) (G (a + 8) t)) (G (a + 8)) c (G a 4).toNat = -1 := Iff.rfl
    obtain ⟨x, hx⟩ : ∃ x, x = HWf G B a v c := ⟨_, rfl⟩
    obtain ⟨y, hy⟩ : ∃ y, y = bst (HWf G B a v) (RCf G B a v) (G (a + 2)) (fun t => G (a + 1) (G (a + 8) t)) (G (a + 8)) c (G a 4).toNat := ⟨_, rfl⟩
    rw [← hx] at cH hwb hU
    rw [← hy] at cB bb hU
    have e7 : L - 1 - ((k + 1 : Nat) : Int) = c + -1 := by omega
    have ec : L - ((k + 1 : Nat) : Int) = c := by omega
    have ec2 : L - (k : Int) = c + 1 := by omega
    rw [ec2] at p5
    rw [← hc, e7, ec]
    have y201 : -1 ≤ y ∧ y < 201 := by omega
    by_cases g : x = 0 ∧ y = -1
    · refine ⟨gs (gs G1 (B + 544) 120 3) (B + 544) 121 c, ⟨fun z q => by rw [gs_ne q, gs_ne q, p1 z q], fun j q1 q2 => by rw [gs_eq, fu_ne q2, gs_eq, fu_ne q1, p2 j q1 q2], c, by rw [gs_eq, fu_ne (by omega), if_neg (by omega)]; exact gs_same _ _ _ _, gs_same _ _ _ _, Or.inr ⟨⟨Int.le_refl _, by omega⟩, hU.mpr g, fun q q1 q2 => by omega⟩⟩, fun Kn Kf h => ?_⟩
      rw [g.1] at cH
      have y0 : y < 0 := by omega
      have yb : y < 201 := by omega
      clear p1 p2 p3 p4 p5 rb rb1 hU hx hy kT tk bb
      simp (disch := omega) only [↓wcX12_findHint_0.eq_1, ↓wsX12_findHint_0.eq_1, ↓(k_cv2 dX12_boundTo (t12 hM)), ↓(k_cv2 dX12_howOf (t12 hM)), ↓k_mk, ↓k_sq, ↓k_sk, ↓k_bk, ↓k_if, ↓k_te, ↓k_cm, ↓k_cz, ↓k_an2, ↓k_or2, ↓k_no, ↓k_ci, ↓k_l0, ↓k_r0, ↓k_se0, ↓k_ic0, ↓k_l1, ↓k_r1, ↓k_se1, ↓k_ic1, ↓k_de1, ↓k_tk1, ↓k_l2, ↓k_r2, ↓k_se2, ↓k_ic2, ↓k_de2, ↓k_tk2, ↓k_l3, ↓k_r3, ↓k_se3, ↓k_ic3, ↓k_de3, ↓k_tk3, ↓k_l4, ↓k_r4, ↓k_se4, ↓k_ic4, ↓k_de4, ↓k_tk4, ↓k_l5, ↓k_r5, ↓k_se5, ↓k_ic5, ↓k_de5, ↓k_tk5, ↓k_l6, ↓k_r6, ↓k_se6, ↓k_ic6, ↓k_de6, ↓k_tk6, ↓k_l7, ↓k_r7, ↓k_se7, ↓k_ic7, ↓k_de7, ↓k_tk7, ↓k_l8, ↓k_r8, ↓k_se8, ↓k_ic8, ↓k_de8, ↓k_tk8, ↓k_l9, ↓k_r9, ↓k_se9, ↓k_ic9, ↓k_de9, ↓k_tk9, ↓k_l10, ↓k_r10, ↓k_se10, ↓k_ic10, ↓k_de10, ↓k_tk10, ↓k_l11, ↓k_r11, ↓k_se11, ↓k_ic11, ↓k_de11, ↓k_tk11, ↓k_l12, ↓k_r12, ↓k_se12, ↓k_ic12, ↓k_de12, ↓k_tk12, ↓k_l13, ↓k_r13, ↓k_se13, ↓k_ic13, ↓k_de13, ↓k_tk13, ↓k_l14, ↓k_r14, ↓k_se14, ↓k_ic14, ↓k_de14, ↓k_tk14, ↓k_l15, ↓k_r15, ↓k_se15, ↓k_ic15, ↓k_de15, ↓k_tk15, ↓k_l16, ↓k_r16, ↓k_se16, ↓k_ic16, ↓k_de16, ↓k_tk16, ↓k_l17, ↓k_r17, ↓k_se17, ↓k_ic17, ↓k_de17, ↓k_tk17, ↓k_l18, ↓k_r18, ↓k_se18, ↓k_ic18, ↓k_de18, ↓k_tk18, ↓k_l19, ↓k_r19, ↓k_se19, ↓k_ic19, ↓k_de19, ↓k_tk19, ↓k_l20, ↓k_r20, ↓k_se20, ↓k_ic20, ↓k_de20, ↓k_tk20, ↓k_l21, ↓k_r21, ↓k_se21, ↓k_ic21, ↓k_de21, ↓k_tk21, ↓k_l22, ↓k_r22, ↓k_se22, ↓k_ic22, ↓k_de22, ↓k_tk22, ↓k_l23, ↓k_r23, ↓k_se23, ↓k_ic23, ↓k_de23, ↓k_tk23, ↓k_l24, ↓k_r24, ↓k_se24, ↓k_ic24, ↓k_de24, ↓k_tk24, ↓k_l25, ↓k_r25, ↓k_se25, ↓k_ic25, ↓k_de25, ↓k_tk25, ↓k_k, ↓k_kn, ↓k_kl, ↓k_kln, ↓k_il, ↓k_2, ↓k_1, ↓k_2c, ↓k_2l, ↓k_ac, ↓k_an, ↓k_cs, ↓k_cv, ↓k_fi, ↓k_fr, ↓k_ai, ↓k_az, ↓k_ar, ↓k_sai, ↓k_saz, ↓k_soa, ↓k_sof, ↓k_spf, ↓k_sx, ↓k_blk, ↓k_sset, ↓k_sdec, ↓k_sri, ↓k_srv, ↓k_srr, ↓k_nop, ↓k_add, ↓k_sub, ↓k_mul, ↓k_min, ↓k_max, ↓k_shr, ↓k_shl, ↓k_or, ↓k_ilz, ↓k_addl, ↓k_rt, ↓k_rb, ↓k_rbz, ↓k_rsi, ↓k_rsr, ↓k_rsv, ↓reduceIte, c0, ↓(k_cv2 dX12_howOf (t12 hM)), ↓cH, ↓(k_cv2 dX12_boundTo (t12 hM)), ↓cB, y0, eq_self, ↓xi12_120 hM, ↓xp12_120 hM, ↓xb12_120 hM, ↓xf12_120 hM, ↓xg12_120 hM, ↓xh12_120 hM, ↓xi12_121 hM, ↓xp12_121 hM, ↓xb12_121 hM, ↓xf12_121 hM, ↓xg12_121 hM, ↓xh12_121 hM, List.length_cons, List.length_nil, List.forall_mem_cons, List.not_mem_nil, Value.category, true_and, and_true, false_and, and_false, or_true, true_or, or_false, false_or, Nat.zero_le, forall_const, implies_true, false_implies, Nat.zero_add, Nat.reduceAdd, Nat.reduceLT, Nat.reduceLeDiff, Nat.le_refl, not_true_eq_false, not_false_eq_true, r_eq, r_ne, r_lt, r_ge, r_gt, r_le, bz_ne, nn_toNat, cn_of, cn_0, cn_1, i10, Int.reduceLE, Int.reduceLT, Int.reduceEq, bz_T, bz_F, ite_self, mulc, st_bud]
      exact h
    · refine ⟨G1, ⟨p1, p2, l, p3, p4, ?_⟩, fun Kn Kf h => ?_⟩
      · have nU : ¬ UBf G B a v c := fun z => g (hU.mp z)
        have nq : ∀ q, c ≤ q → ¬ c + 1 ≤ q → ¬ UBf G B a v q := fun q q1 q2 => by
          rw [show q = c by omega]
          exact nU
        rcases p5 with ⟨z1, z2⟩ | ⟨z1, z2, z3⟩
        · exact Or.inl ⟨z1, fun q q1 q2 => by
            by_cases s : c + 1 ≤ q
            · exact z2 q s q2
            · exact nq q q1 s⟩
        · exact Or.inr ⟨by omega, z2, fun q q1 q2 => by
            by_cases s : c + 1 ≤ q
            · exact z3 q s q2
            · exact nq q q1 s⟩
      · clear p1 p2 p3 p4 p5 rb rb1 hU hx hy kT tk
        by_cases g1 : x = 0
        · have y0 : ¬ y < 0 := by omega
          simp (disch := omega) only [↓wcX12_findHint_0.eq_1, ↓wsX12_findHint_0.eq_1, ↓(k_cv2 dX12_boundTo (t12 hM)), ↓(k_cv2 dX12_howOf (t12 hM)), ↓k_mk, ↓k_sq, ↓k_sk, ↓k_bk, ↓k_if, ↓k_te, ↓k_cm, ↓k_cz, ↓k_an2, ↓k_or2, ↓k_no, ↓k_ci, ↓k_l0, ↓k_r0, ↓k_se0, ↓k_ic0, ↓k_l1, ↓k_r1, ↓k_se1, ↓k_ic1, ↓k_de1, ↓k_tk1, ↓k_l2, ↓k_r2, ↓k_se2, ↓k_ic2, ↓k_de2, ↓k_tk2, ↓k_l3, ↓k_r3, ↓k_se3, ↓k_ic3, ↓k_de3, ↓k_tk3, ↓k_l4, ↓k_r4, ↓k_se4, ↓k_ic4, ↓k_de4, ↓k_tk4, ↓k_l5, ↓k_r5, ↓k_se5, ↓k_ic5, ↓k_de5, ↓k_tk5, ↓k_l6, ↓k_r6, ↓k_se6, ↓k_ic6, ↓k_de6, ↓k_tk6, ↓k_l7, ↓k_r7, ↓k_se7, ↓k_ic7, ↓k_de7, ↓k_tk7, ↓k_l8, ↓k_r8, ↓k_se8, ↓k_ic8, ↓k_de8, ↓k_tk8, ↓k_l9, ↓k_r9, ↓k_se9, ↓k_ic9, ↓k_de9, ↓k_tk9, ↓k_l10, ↓k_r10, ↓k_se10, ↓k_ic10, ↓k_de10, ↓k_tk10, ↓k_l11, ↓k_r11, ↓k_se11, ↓k_ic11, ↓k_de11, ↓k_tk11, ↓k_l12, ↓k_r12, ↓k_se12, ↓k_ic12, ↓k_de12, ↓k_tk12, ↓k_l13, ↓k_r13, ↓k_se13, ↓k_ic13, ↓k_de13, ↓k_tk13, ↓k_l14, ↓k_r14, ↓k_se14, ↓k_ic14, ↓k_de14, ↓k_tk14, ↓k_l15, ↓k_r15, ↓k_se15, ↓k_ic15, ↓k_de15, ↓k_tk15, ↓k_l16, ↓k_r16, ↓k_se16, ↓k_ic16, ↓k_de16, ↓k_tk16, ↓k_l17, ↓k_r17, ↓k_se17, ↓k_ic17, ↓k_de17, ↓k_tk17, ↓k_l18, ↓k_r18, ↓k_se18, ↓k_ic18, ↓k_de18, ↓k_tk18, ↓k_l19, ↓k_r19, ↓k_se19, ↓k_ic19, ↓k_de19, ↓k_tk19, ↓k_l20, ↓k_r20, ↓k_se20, ↓k_ic20, ↓k_de20, ↓k_tk20, ↓k_l21, ↓k_r21, ↓k_se21, ↓k_ic21, ↓k_de21, ↓k_tk21, ↓k_l22, ↓k_r22, ↓k_se22, ↓k_ic22, ↓k_de22, ↓k_tk22, ↓k_l23, ↓k_r23, ↓k_se23, ↓k_ic23, ↓k_de23, ↓k_tk23, ↓k_l24, ↓k_r24, ↓k_se24, ↓k_ic24, ↓k_de24, ↓k_tk24, ↓k_l25, ↓k_r25, ↓k_se25, ↓k_ic25, ↓k_de25, ↓k_tk25, ↓k_k, ↓k_kn, ↓k_kl, ↓k_kln, ↓k_il, ↓k_2, ↓k_1, ↓k_2c, ↓k_2l, ↓k_ac, ↓k_an, ↓k_cs, ↓k_cv, ↓k_fi, ↓k_fr, ↓k_ai, ↓k_az, ↓k_ar, ↓k_sai, ↓k_saz, ↓k_soa, ↓k_sof, ↓k_spf, ↓k_sx, ↓k_blk, ↓k_sset, ↓k_sdec, ↓k_sri, ↓k_srv, ↓k_srr, ↓k_nop, ↓k_add, ↓k_sub, ↓k_mul, ↓k_min, ↓k_max, ↓k_shr, ↓k_shl, ↓k_or, ↓k_ilz, ↓k_addl, ↓k_rt, ↓k_rb, ↓k_rbz, ↓k_rsi, ↓k_rsr, ↓k_rsv, ↓reduceIte, c0, ↓(k_cv2 dX12_howOf (t12 hM)), ↓cH, g1, ↓(k_cv2 dX12_boundTo (t12 hM)), ↓cB, y0, eq_self, ↓xi12_120 hM, ↓xp12_120 hM, ↓xb12_120 hM, ↓xf12_120 hM, ↓xg12_120 hM, ↓xh12_120 hM, ↓xi12_121 hM, ↓xp12_121 hM, ↓xb12_121 hM, ↓xf12_121 hM, ↓xg12_121 hM, ↓xh12_121 hM, List.length_cons, List.length_nil, List.forall_mem_cons, List.not_mem_nil, Value.category, true_and, and_true, false_and, and_false, or_true, true_or, or_false, false_or, Nat.zero_le, forall_const, implies_true, false_implies, Nat.zero_add, Nat.reduceAdd, Nat.reduceLT, Nat.reduceLeDiff, Nat.le_refl, not_true_eq_false, not_false_eq_true, r_eq, r_ne, r_lt, r_ge, r_gt, r_le, bz_ne, nn_toNat, cn_of, cn_0, cn_1, i10, Int.reduceLE, Int.reduceLT, Int.reduceEq, bz_T, bz_F, ite_self, mulc, st_bud]
          exact h
        · simp (disch := omega) only [↓wcX12_findHint_0.eq_1, ↓wsX12_findHint_0.eq_1, ↓(k_cv2 dX12_boundTo (t12 hM)), ↓(k_cv2 dX12_howOf (t12 hM)), ↓k_mk, ↓k_sq, ↓k_sk, ↓k_bk, ↓k_if, ↓k_te, ↓k_cm, ↓k_cz, ↓k_an2, ↓k_or2, ↓k_no, ↓k_ci, ↓k_l0, ↓k_r0, ↓k_se0, ↓k_ic0, ↓k_l1, ↓k_r1, ↓k_se1, ↓k_ic1, ↓k_de1, ↓k_tk1, ↓k_l2, ↓k_r2, ↓k_se2, ↓k_ic2, ↓k_de2, ↓k_tk2, ↓k_l3, ↓k_r3, ↓k_se3, ↓k_ic3, ↓k_de3, ↓k_tk3, ↓k_l4, ↓k_r4, ↓k_se4, ↓k_ic4, ↓k_de4, ↓k_tk4, ↓k_l5, ↓k_r5, ↓k_se5, ↓k_ic5, ↓k_de5, ↓k_tk5, ↓k_l6, ↓k_r6, ↓k_se6, ↓k_ic6, ↓k_de6, ↓k_tk6, ↓k_l7, ↓k_r7, ↓k_se7, ↓k_ic7, ↓k_de7, ↓k_tk7, ↓k_l8, ↓k_r8, ↓k_se8, ↓k_ic8, ↓k_de8, ↓k_tk8, ↓k_l9, ↓k_r9, ↓k_se9, ↓k_ic9, ↓k_de9, ↓k_tk9, ↓k_l10, ↓k_r10, ↓k_se10, ↓k_ic10, ↓k_de10, ↓k_tk10, ↓k_l11, ↓k_r11, ↓k_se11, ↓k_ic11, ↓k_de11, ↓k_tk11, ↓k_l12, ↓k_r12, ↓k_se12, ↓k_ic12, ↓k_de12, ↓k_tk12, ↓k_l13, ↓k_r13, ↓k_se13, ↓k_ic13, ↓k_de13, ↓k_tk13, ↓k_l14, ↓k_r14, ↓k_se14, ↓k_ic14, ↓k_de14, ↓k_tk14, ↓k_l15, ↓k_r15, ↓k_se15, ↓k_ic15, ↓k_de15, ↓k_tk15, ↓k_l16, ↓k_r16, ↓k_se16, ↓k_ic16, ↓k_de16, ↓k_tk16, ↓k_l17, ↓k_r17, ↓k_se17, ↓k_ic17, ↓k_de17, ↓k_tk17, ↓k_l18, ↓k_r18, ↓k_se18, ↓k_ic18, ↓k_de18, ↓k_tk18, ↓k_l19, ↓k_r19, ↓k_se19, ↓k_ic19, ↓k_de19, ↓k_tk19, ↓k_l20, ↓k_r20, ↓k_se20, ↓k_ic20, ↓k_de20, ↓k_tk20, ↓k_l21, ↓k_r21, ↓k_se21, ↓k_ic21, ↓k_de21, ↓k_tk21, ↓k_l22, ↓k_r22, ↓k_se22, ↓k_ic22, ↓k_de22, ↓k_tk22, ↓k_l23, ↓k_r23, ↓k_se23, ↓k_ic23, ↓k_de23, ↓k_tk23, ↓k_l24, ↓k_r24, ↓k_se24, ↓k_ic24, ↓k_de24, ↓k_tk24, ↓k_l25, ↓k_r25, ↓k_se25, ↓k_ic25, ↓k_de25, ↓k_tk25, ↓k_k, ↓k_kn, ↓k_kl, ↓k_kln, ↓k_il, ↓k_2, ↓k_1, ↓k_2c, ↓k_2l, ↓k_ac, ↓k_an, ↓k_cs, ↓k_cv, ↓k_fi, ↓k_fr, ↓k_ai, ↓k_az, ↓k_ar, ↓k_sai, ↓k_saz, ↓k_soa, ↓k_sof, ↓k_spf, ↓k_sx, ↓k_blk, ↓k_sset, ↓k_sdec, ↓k_sri, ↓k_srv, ↓k_srr, ↓k_nop, ↓k_add, ↓k_sub, ↓k_mul, ↓k_min, ↓k_max, ↓k_shr, ↓k_shl, ↓k_or, ↓k_ilz, ↓k_addl, ↓k_rt, ↓k_rb, ↓k_rbz, ↓k_rsi, ↓k_rsr, ↓k_rsv, ↓reduceIte, c0, ↓(k_cv2 dX12_howOf (t12 hM)), ↓cH, g1, ↓xi12_120 hM, ↓xp12_120 hM, ↓xb12_120 hM, ↓xf12_120 hM, ↓xg12_120 hM, ↓xh12_120 hM, ↓xi12_121 hM, ↓xp12_121 hM, ↓xb12_121 hM, ↓xf12_121 hM, ↓xg12_121 hM, ↓xh12_121 hM, List.length_cons, List.length_nil, List.forall_mem_cons, List.not_mem_nil, Value.category, true_and, and_true, false_and, and_false, or_true, true_or, or_false, false_or, Nat.zero_le, forall_const, implies_true, false_implies, Nat.zero_add, Nat.reduceAdd, Nat.reduceLT, Nat.reduceLeDiff, Nat.le_refl, not_true_eq_false, not_false_eq_true, r_eq, r_ne, r_lt, r_ge, r_gt, r_le, bz_ne, nn_toNat, cn_of, cn_0, cn_1, i10, Int.reduceLE, Int.reduceLT, Int.reduceEq, bz_T, bz_F, ite_self, mulc, st_bud]
          exact h) (fun G1 p Kt Kf h => by
    have e : L - 1 - ((L.toNat : Nat) : Int) = -1 := by omega
    rw [e]
    have hz : ¬ (0 : Int) ≤ -1 := by omega
    clear rb kT tk p
    simp (disch := omega) only [↓wcX12_findHint_0.eq_1, ↓k_mk, ↓k_sq, ↓k_sk, ↓k_bk, ↓k_if, ↓k_te, ↓k_cm, ↓k_cz, ↓k_an2, ↓k_or2, ↓k_no, ↓k_ci, ↓k_l0, ↓k_r0, ↓k_se0, ↓k_ic0, ↓k_l1, ↓k_r1, ↓k_se1, ↓k_ic1, ↓k_de1, ↓k_tk1, ↓k_l2, ↓k_r2, ↓k_se2, ↓k_ic2, ↓k_de2, ↓k_tk2, ↓k_l3, ↓k_r3, ↓k_se3, ↓k_ic3, ↓k_de3, ↓k_tk3, ↓k_l4, ↓k_r4, ↓k_se4, ↓k_ic4, ↓k_de4, ↓k_tk4, ↓k_l5, ↓k_r5, ↓k_se5, ↓k_ic5, ↓k_de5, ↓k_tk5, ↓k_l6, ↓k_r6, ↓k_se6, ↓k_ic6, ↓k_de6, ↓k_tk6, ↓k_l7, ↓k_r7, ↓k_se7, ↓k_ic7, ↓k_de7, ↓k_tk7, ↓k_l8, ↓k_r8, ↓k_se8, ↓k_ic8, ↓k_de8, ↓k_tk8, ↓k_l9, ↓k_r9, ↓k_se9, ↓k_ic9, ↓k_de9, ↓k_tk9, ↓k_l10, ↓k_r10, ↓k_se10, ↓k_ic10, ↓k_de10, ↓k_tk10, ↓k_l11, ↓k_r11, ↓k_se11, ↓k_ic11, ↓k_de11, ↓k_tk11, ↓k_l12, ↓k_r12, ↓k_se12, ↓k_ic12, ↓k_de12, ↓k_tk12, ↓k_l13, ↓k_r13, ↓k_se13, ↓k_ic13, ↓k_de13, ↓k_tk13, ↓k_l14, ↓k_r14, ↓k_se14, ↓k_ic14, ↓k_de14, ↓k_tk14, ↓k_l15, ↓k_r15, ↓k_se15, ↓k_ic15, ↓k_de15, ↓k_tk15, ↓k_l16, ↓k_r16, ↓k_se16, ↓k_ic16, ↓k_de16, ↓k_tk16, ↓k_l17, ↓k_r17, ↓k_se17, ↓k_ic17, ↓k_de17, ↓k_tk17, ↓k_l18, ↓k_r18, ↓k_se18, ↓k_ic18, ↓k_de18, ↓k_tk18, ↓k_l19, ↓k_r19, ↓k_se19, ↓k_ic19, ↓k_de19, ↓k_tk19, ↓k_l20, ↓k_r20, ↓k_se20, ↓k_ic20, ↓k_de20, ↓k_tk20, ↓k_l21, ↓k_r21, ↓k_se21, ↓k_ic21, ↓k_de21, ↓k_tk21, ↓k_l22, ↓k_r22, ↓k_se22, ↓k_ic22, ↓k_de22, ↓k_tk22, ↓k_l23, ↓k_r23, ↓k_se23, ↓k_ic23, ↓k_de23, ↓k_tk23, ↓k_l24, ↓k_r24, ↓k_se24, ↓k_ic24, ↓k_de24, ↓k_tk24, ↓k_l25, ↓k_r25, ↓k_se25, ↓k_ic25, ↓k_de25, ↓k_tk25, ↓k_k, ↓k_kn, ↓k_kl, ↓k_kln, ↓k_il, ↓k_2, ↓k_1, ↓k_2c, ↓k_2l, ↓k_ac, ↓k_an, ↓k_cs, ↓k_cv, ↓k_fi, ↓k_fr, ↓k_ai, ↓k_az, ↓k_ar, ↓k_sai, ↓k_saz, ↓k_soa, ↓k_sof, ↓k_spf, ↓k_sx, ↓k_blk, ↓k_sset, ↓k_sdec, ↓k_sri, ↓k_srv, ↓k_srr, ↓k_nop, ↓k_add, ↓k_sub, ↓k_mul, ↓k_min, ↓k_max, ↓k_shr, ↓k_shl, ↓k_or, ↓k_ilz, ↓k_addl, ↓k_rt, ↓k_rb, ↓k_rbz, ↓k_rsi, ↓k_rsr, ↓k_rsv, ↓reduceIte, hz, List.length_cons, List.length_nil, List.forall_mem_cons, List.not_mem_nil, Value.category, true_and, and_true, false_and, and_false, or_true, true_or, or_false, false_or, Nat.zero_le, forall_const, implies_true, false_implies, Nat.zero_add, Nat.reduceAdd, Nat.reduceLT, Nat.reduceLeDiff, Nat.le_refl, not_true_eq_false, not_false_eq_true, r_eq, r_ne, r_lt, r_ge, r_gt, r_le, bz_ne, nn_toNat, cn_of, cn_0, cn_1, i10, Int.reduceLE, Int.reduceLT, Int.reduceEq, bz_T, bz_F, ite_self, mulc, st_bud]
    exact h)
  have eL : L - ((L.toNat : Nat) : Int) = 0 := by omega
  rw [eL] at p5
  refine ⟨G', l, by rw [← hL]; exact p5, p1, p2, p3, p4, fun Kn Kr => ?_⟩
  have w := w Kn Kr
  rw [show L - 1 - ((0 : Nat) : Int) = L - 1 by omega, show L - 1 - ((L.toNat : Nat) : Int) = -1 by omega, hL] at w
  exact w
end
