section
/-! kept: the class's answer -/
theorem c10_seek {T : Nat → Option q_T} {nx B : Nat} {R : Nat → Nat → Option Value} {G0 : Nat → Int → Int} {v tu : Int} {goal w0 : List Int} (oT : Ly T R (B + 59) (L10 (B + 59))) (hA : Ly T R (B + 160) (L9 (B + 160))) (hB : Ly T R (B + 150) (L9 (B + 150))) (oS : ∀ k : Nat, k < 12 → Ly T R (B + 250 + 10 * k) (L9 (B + 250 + 10 * k))) (o8 : Ly T R (tvA B v) (L8 (tvA B v))) (hF : IFm G0 B) (iRe : IRe G0 B) (kv : 0 ≤ v ∧ v ≤ 1) (htu : 0 ≤ tu ∧ tu ≤ 5) (gg : GW1 G0 B v goal) (g1 : G0 (B + 260 + 20 * tu.toNat) 1 = v) (g2 : G0 (B + 260 + 20 * tu.toNat) 2 = (goal.length : Int)) (gc : ∀ q : Nat, q < goal.length → G0 ((B + 260 + 20 * tu.toNat) + 1) q = wf goal q) (g0 : GW1 G0 B v w0) (b2 : G0 (B + 250 + 20 * tu.toNat) 2 = (w0.length : Int)) (bc : ∀ q : Nat, q < w0.length → G0 ((B + 250 + 20 * tu.toNat) + 1) q = wf w0 q) :
    ∃ (G' : Nat → Int → Int) (a : Int), KC G0 G' B ∧ ((w0 = goal ∧ a = 0) ∨ (¬ w0 = goal ∧ a = kAns (runL (kTree G0 B tu v goal) 60 0 [(w0, 0)]))) ∧ ∀ K : Option Value → q_M → Prop, fX10_seek [.ref (B + 59), .ref (tvA B v), .int (zI tu)] (st T nx 0 0 R G0) K = K (some (.int (zI a))) (st T nx 0 0 R G') := by
  have oA : Ly T R (B + 250 + 20 * tu.toNat) (L9 (B + 250 + 20 * tu.toNat)) := by
    have := oS (2 * tu.toNat) (by omega)
    rw [show B + 250 + 10 * (2 * tu.toNat) = (B + 250 + 20 * tu.toNat) by omega] at this
    exact this
  have oZ : Ly T R (B + 260 + 20 * tu.toNat) (L9 (B + 260 + 20 * tu.toNat)) := by
    have := oS (2 * tu.toNat + 1) (by omega)
    rw [show B + 250 + 10 * (2 * tu.toNat + 1) = (B + 260 + 20 * tu.toNat) by omega] at this
    exact this
  obtain ⟨gl, gb⟩ := GW_b hF kv gg
  obtain ⟨wl, wb⟩ := GW_b hF kv g0
  have cS0 := fun (G : Nat → Int → Int) (K : Option Value → q_M → Prop) => c10_side (T := T) (nx := nx) (rc := 0) (rs := 0) (R := R) (G := G) (k := tu) (w := 0) (K := K) oT htu.1 htu.2 (by omega) (by omega)
  have cS1 := fun (G : Nat → Int → Int) (K : Option Value → q_M → Prop) => c10_side (T := T) (nx := nx) (rc := 0) (rs := 0) (R := R) (G := G) (k := tu) (w := 1) (K := K) oT htu.1 htu.2 (by omega) (by omega)
  simp only [show B + 59 + 191 + 10 * (tu * 2 + 0).toNat = (B + 250 + 20 * tu.toNat) by omega] at cS0
  simp only [show B + 59 + 191 + 10 * (tu * 2 + 1).toNat = (B + 260 + 20 * tu.toNat) by omega] at cS1
  obtain ⟨G1, e1⟩ : ∃ M, M = gs G0 (B + 59) 15 0 := ⟨_, rfl⟩
  have n1 : ∀ x, ¬ x = B + 59 → G1 x = G0 x := fun x q => by rw [e1, gs_ne q]
  have f15 : G1 (B + 59) 15 = 0 := by rw [e1]; exact gs_same _ _ _ _
  have f59 : ∀ j, ¬ j = 15 → G1 (B + 59) j = G0 (B + 59) j := fun j q => by rw [e1, gs_eq, fu_ne q]
  have kc1 : KC G0 G1 B := ⟨fun x q1 q2 q3 => n1 x q1, f59⟩
  have s0 : ∀ (Kn : List Value → q_M → Prop) (Kr : Option Value → q_M → Prop), q_spf Value.int (fun _ => True) 10 15 (q_r 0) (q_k 0) [.ref (B + 59), .ref (tvA B v), .int (zI tu)] (st T nx 0 0 R G0) Kn Kr = Kn [.ref (B + 59), .ref (tvA B v), .int (zI tu)] (st T nx 0 0 R G1) := by
    intro Kn Kr
    rw [e1]
    simp (disch := omega) only [↓k_mk, ↓k_sq, ↓k_sk, ↓k_bk, ↓k_if, ↓k_te, ↓k_cm, ↓k_cz, ↓k_an2, ↓k_or2, ↓k_no, ↓k_ci, ↓k_l0, ↓k_r0, ↓k_se0, ↓k_ic0, ↓k_l1, ↓k_r1, ↓k_se1, ↓k_ic1, ↓k_de1, ↓k_tk1, ↓k_l2, ↓k_r2, ↓k_se2, ↓k_ic2, ↓k_de2, ↓k_tk2, ↓k_l3, ↓k_r3, ↓k_se3, ↓k_ic3, ↓k_de3, ↓k_tk3, ↓k_l4, ↓k_r4, ↓k_se4, ↓k_ic4, ↓k_de4, ↓k_tk4, ↓k_l5, ↓k_r5, ↓k_se5, ↓k_ic5, ↓k_de5, ↓k_tk5, ↓k_l6, ↓k_r6, ↓k_se6, ↓k_ic6, ↓k_de6, ↓k_tk6, ↓k_l7, ↓k_r7, ↓k_se7, ↓k_ic7, ↓k_de7, ↓k_tk7, ↓k_l8, ↓k_r8, ↓k_se8, ↓k_ic8, ↓k_de8, ↓k_tk8, ↓k_l9, ↓k_r9, ↓k_se9, ↓k_ic9, ↓k_de9, ↓k_tk9, ↓k_l10, ↓k_r10, ↓k_se10, ↓k_ic10, ↓k_de10, ↓k_tk10, ↓k_l11, ↓k_r11, ↓k_se11, ↓k_ic11, ↓k_de11, ↓k_tk11, ↓k_l12, ↓k_r12, ↓k_se12, ↓k_ic12, ↓k_de12, ↓k_tk12, ↓k_l13, ↓k_r13, ↓k_se13, ↓k_ic13, ↓k_de13, ↓k_tk13, ↓k_l14, ↓k_r14, ↓k_se14, ↓k_ic14, ↓k_de14, ↓k_tk14, ↓k_l15, ↓k_r15, ↓k_se15, ↓k_ic15, ↓k_de15, ↓k_tk15, ↓k_l16, ↓k_r16, ↓k_se16, ↓k_ic16, ↓k_de16, ↓k_tk16, ↓k_l17, ↓k_r17, ↓k_se17, ↓k_ic17, ↓k_de17, ↓k_tk17, ↓k_l18, ↓k_r18, ↓k_se18, ↓k_ic18, ↓k_de18, ↓k_tk18, ↓k_l19, ↓k_r19, ↓k_se19, ↓k_ic19, ↓k_de19, ↓k_tk19, ↓k_l20, ↓k_r20, ↓k_se20, ↓k_ic20, ↓k_de20, ↓k_tk20, ↓k_l21, ↓k_r21, ↓k_se21, ↓k_ic21, ↓k_de21, ↓k_tk21, ↓k_l22, ↓k_r22, ↓k_se22, ↓k_ic22, ↓k_de22, ↓k_tk22, ↓k_l23, ↓k_r23, ↓k_se23, ↓k_ic23, ↓k_de23, ↓k_tk23, ↓k_l24, ↓k_r24, ↓k_se24, ↓k_ic24, ↓k_de24, ↓k_tk24, ↓k_l25, ↓k_r25, ↓k_se25, ↓k_ic25, ↓k_de25, ↓k_tk25, ↓k_k, ↓k_kn, ↓k_kl, ↓k_kln, ↓k_il, ↓k_2, ↓k_1, ↓k_2c, ↓k_2l, ↓k_ac, ↓k_an, ↓k_cs, ↓k_cv, ↓k_fi, ↓k_fr, ↓k_ai, ↓k_az, ↓k_ar, ↓k_sai, ↓k_saz, ↓k_soa, ↓k_sof, ↓k_spf, ↓k_sx, ↓k_blk, ↓k_sset, ↓k_sdec, ↓k_sri, ↓k_srv, ↓k_srr, ↓k_nop, ↓k_add, ↓k_sub, ↓k_mul, ↓k_min, ↓k_max, ↓k_shr, ↓k_shl, ↓k_or, ↓k_ilz, ↓k_addl, ↓k_rt, ↓k_rb, ↓k_rbz, ↓k_rsi, ↓k_rsr, ↓k_rsv, ↓reduceIte, ↓xi10_15 oT, ↓xp10_15 oT, ↓xb10_15 oT, ↓xf10_15 oT, ↓xg10_15 oT, ↓xh10_15 oT, List.length_cons, List.length_nil, List.forall_mem_cons, List.not_mem_nil, Value.category, true_and, and_true, false_and, and_false, or_true, true_or, or_false, false_or, Nat.zero_le, forall_const, implies_true, false_implies, Nat.zero_add, Nat.reduceAdd, Nat.reduceLT, Nat.reduceLeDiff, Nat.le_refl, not_true_eq_false, not_false_eq_true, r_eq, r_ne, r_lt, r_ge, r_gt, r_le, bz_ne, nn_toNat, cn_of, cn_0, cn_1, i10, Int.reduceLE, Int.reduceLT, Int.reduceEq, bz_T, bz_F, ite_self, mulc, st_bud]
  obtain ⟨y, hy, cy⟩ := c10_isRow (T := T) (nx := nx) (R := R) (G := G1) (a := (B + 250 + 20 * tu.toNat)) (r := (B + 260 + 20 * tu.toNat) + 1) (n := (goal.length : Int)) oA (t9_5 oZ) (v9_5 oZ) rfl (by omega) (by rw [n1 _ (by omega), b2]; omega) (fun q q0 q1 q2 => by
    rw [n1 _ (by omega)] at q2 ⊢
    rw [b2] at q2
    have := wb q q0 q2
    rw [Nat_I bc q q0 q2]
    omega) (fun q q0 q1 => by
    rw [n1 _ (by omega)]
    have := gb q q0 q1
    rw [Nat_I gc q q0 q1]
    omega)
  rw [n1 (B + 250 + 20 * tu.toNat) (by omega), n1 ((B + 250 + 20 * tu.toNat) + 1) (by omega), n1 ((B + 260 + 20 * tu.toNat) + 1) (by omega), b2, row_word bc gc] at hy
  have z2 : G1 (B + 260 + 20 * tu.toNat) 2 = (goal.length : Int) := by rw [n1 _ (by omega)]; exact g2
  obtain ⟨gL, hgL⟩ : ∃ gL, gL = (goal.length : Int) := ⟨_, rfl⟩
  rw [← hgL] at z2 cy
  have one : ¬ (1 : Int) = 0 := by omega
  rcases hy with ⟨y1, ye⟩ | ⟨y1, ye⟩
  · subst y1
    refine ⟨G1, 0, kc1, Or.inl ⟨ye, rfl⟩, fun K => ?_⟩
    clear hF iRe gg g0 gc bc gb wb oS
    simp (disch := omega) only [↓fX10_seek.eq_1, ↓uX10_seek, ↓(k_cs3 dX10_isRow), ↓k_mk, ↓k_sq, ↓k_sk, ↓k_bk, ↓k_if, ↓k_te, ↓k_cm, ↓k_cz, ↓k_an2, ↓k_or2, ↓k_no, ↓k_ci, ↓k_l0, ↓k_r0, ↓k_se0, ↓k_ic0, ↓k_l1, ↓k_r1, ↓k_se1, ↓k_ic1, ↓k_de1, ↓k_tk1, ↓k_l2, ↓k_r2, ↓k_se2, ↓k_ic2, ↓k_de2, ↓k_tk2, ↓k_l3, ↓k_r3, ↓k_se3, ↓k_ic3, ↓k_de3, ↓k_tk3, ↓k_l4, ↓k_r4, ↓k_se4, ↓k_ic4, ↓k_de4, ↓k_tk4, ↓k_l5, ↓k_r5, ↓k_se5, ↓k_ic5, ↓k_de5, ↓k_tk5, ↓k_l6, ↓k_r6, ↓k_se6, ↓k_ic6, ↓k_de6, ↓k_tk6, ↓k_l7, ↓k_r7, ↓k_se7, ↓k_ic7, ↓k_de7, ↓k_tk7, ↓k_l8, ↓k_r8, ↓k_se8, ↓k_ic8, ↓k_de8, ↓k_tk8, ↓k_l9, ↓k_r9, ↓k_se9, ↓k_ic9, ↓k_de9, ↓k_tk9, ↓k_l10, ↓k_r10, ↓k_se10, ↓k_ic10, ↓k_de10, ↓k_tk10, ↓k_l11, ↓k_r11, ↓k_se11, ↓k_ic11, ↓k_de11, ↓k_tk11, ↓k_l12, ↓k_r12, ↓k_se12, ↓k_ic12, ↓k_de12, ↓k_tk12, ↓k_l13, ↓k_r13, ↓k_se13, ↓k_ic13, ↓k_de13, ↓k_tk13, ↓k_l14, ↓k_r14, ↓k_se14, ↓k_ic14, ↓k_de14, ↓k_tk14, ↓k_l15, ↓k_r15, ↓k_se15, ↓k_ic15, ↓k_de15, ↓k_tk15, ↓k_l16, ↓k_r16, ↓k_se16, ↓k_ic16, ↓k_de16, ↓k_tk16, ↓k_l17, ↓k_r17, ↓k_se17, ↓k_ic17, ↓k_de17, ↓k_tk17, ↓k_l18, ↓k_r18, ↓k_se18, ↓k_ic18, ↓k_de18, ↓k_tk18, ↓k_l19, ↓k_r19, ↓k_se19, ↓k_ic19, ↓k_de19, ↓k_tk19, ↓k_l20, ↓k_r20, ↓k_se20, ↓k_ic20, ↓k_de20, ↓k_tk20, ↓k_l21, ↓k_r21, ↓k_se21, ↓k_ic21, ↓k_de21, ↓k_tk21, ↓k_l22, ↓k_r22, ↓k_se22, ↓k_ic22, ↓k_de22, ↓k_tk22, ↓k_l23, ↓k_r23, ↓k_se23, ↓k_ic23, ↓k_de23, ↓k_tk23, ↓k_l24, ↓k_r24, ↓k_se24, ↓k_ic24, ↓k_de24, ↓k_tk24, ↓k_l25, ↓k_r25, ↓k_se25, ↓k_ic25, ↓k_de25, ↓k_tk25, ↓k_k, ↓k_kn, ↓k_kl, ↓k_kln, ↓k_il, ↓k_2, ↓k_1, ↓k_2c, ↓k_2l, ↓k_ac, ↓k_an, ↓k_cs, ↓k_cv, ↓k_fi, ↓k_fr, ↓k_ai, ↓k_az, ↓k_ar, ↓k_sai, ↓k_saz, ↓k_soa, ↓k_sof, ↓k_sx, ↓k_blk, ↓k_sset, ↓k_sdec, ↓k_sri, ↓k_srv, ↓k_srr, ↓k_nop, ↓k_add, ↓k_sub, ↓k_mul, ↓k_min, ↓k_max, ↓k_shr, ↓k_shl, ↓k_or, ↓k_ilz, ↓k_addl, ↓k_rt, ↓k_rb, ↓k_rbz, ↓k_rsi, ↓k_rsr, ↓k_rsv, ↓reduceIte, one, ↓s0, ↓(k_cv2 dX10_side (t10 oT)), ↓(cS1 G1), ↓(cS0 G1), z2, ↓(k_cs3 dX10_isRow), ↓cy, ↓xi9_2 oZ, ↓xp9_2 oZ, ↓xb9_2 oZ, ↓xf9_2 oZ, ↓xg9_2 oZ, ↓xh9_2 oZ, ↓xr9_5 oZ, ↓xa9_5 oZ, ↓xs9_5 oZ, ↓xo9_5 oZ, ↓xc9_5 oZ, ↓xd9_5 oZ, List.length_cons, List.length_nil, List.forall_mem_cons, List.not_mem_nil, Value.category, true_and, and_true, false_and, and_false, or_true, true_or, or_false, false_or, Nat.zero_le, forall_const, implies_true, false_implies, Nat.zero_add, Nat.reduceAdd, Nat.reduceLT, Nat.reduceLeDiff, Nat.le_refl, not_true_eq_false, not_false_eq_true, r_eq, r_ne, r_lt, r_ge, r_gt, r_le, bz_ne, nn_toNat, cn_of, cn_0, cn_1, i10, Int.reduceLE, Int.reduceLT, Int.reduceEq, bz_T, bz_F, ite_self, mulc, st_bud]
  · subst y1
    obtain ⟨G2, a1, a2, a3, a4, a5, a6, a7⟩ := c10_addFound (T := T) (nx := nx) (R := R) (G := G1) (o := B + 59) (a := (B + 250 + 20 * tu.toNat)) (z := 0) (L := 0) (n := (w0.length : Int)) oT oA (by omega) f15 (by omega) (by rw [n1 _ (by omega)]; exact b2) (by omega)
    have z0 : (0 : Int).toNat = 0 := rfl
    rw [z0] at a1 a4
    have ki : KI G0 B v goal [(w0, 0)] := ⟨⟨Nat.le_refl _, (by decide : 1 ≤ 60)⟩, fun k hk => by
      have e : k = 0 := by
        have : k < 1 := hk
        omega
      subst e
      exact ⟨g0, ⟨Int.le_refl _, Int.le_refl _⟩, ye⟩⟩
    have cs : CSr G0 G2 B [(w0, 0)] := ⟨⟨fun x q1 q2 q3 => by rw [a1 x (by omega) (by omega) (by omega) (by omega)]; exact n1 x q1, fun j q => by rw [a2 j q]; exact f59 j q⟩, a3, fun k hk => by
      have e : k = 0 := by
        have : k < 1 := hk
        omega
      subst e
      rw [show B + 148 = B + 59 + 89 by omega, show B + 149 = B + 59 + 90 by omega, show B + 88 + 0 = B + 59 + 29 + 0 by omega, a5, a6]
      refine ⟨if_pos rfl, if_pos rfl, fun q hq => ?_⟩
      rw [a4 q (by omega) (by have hq : q < w0.length := hq; omega), n1 _ (by omega)]
      exact bc q hq⟩
    obtain ⟨G3, x, k1, k2⟩ := kc_trees (T := T) (nx := nx) (R := R) (ga := (B + 260 + 20 * tu.toNat)) oT hA hB oZ oS o8 hF iRe kv htu (by omega) gg g1 g2 gc 60 0 [(w0, 0)] G2 rfl ki cs
    refine ⟨G3, _, k1, Or.inr ⟨ye, rfl⟩, fun K => ?_⟩
    obtain ⟨a, ha⟩ : ∃ a, a = kAns (runL (kTree G0 B tu v goal) 60 0 [(w0, 0)]) := ⟨_, rfl⟩
    rw [← ha] at k2 ⊢
    have lw : ∀ (Kn : List Value → q_M → Prop) (Kr : Option Value → q_M → Prop), wX10_seek_0 [.ref (B + 59), .ref (tvA B v), .int (zI tu), .ref ((B + 260 + 20 * tu.toNat)), .int (zI (-1)), .int (zI 0)] (st T nx 0 0 R G2) Kn Kr = Kn [.ref (B + 59), .ref (tvA B v), .int (zI tu), .ref ((B + 260 + 20 * tu.toNat)), .int (zI a), .int (zI x)] (st T nx 0 0 R G3) := eX10_seek_0.eqn (k2 _ _ ⟨rfl, rfl⟩)
    clear hF iRe gg g0 gc bc gb wb oS k2 ki cs ha a4 a5 a6 a2 a1
    simp (disch := omega) only [↓fX10_seek.eq_1, ↓uX10_seek, ↓(k_cs3 dX10_isRow), ↓k_mk, ↓k_sq, ↓k_sk, ↓k_bk, ↓k_if, ↓k_te, ↓k_cm, ↓k_cz, ↓k_an2, ↓k_or2, ↓k_no, ↓k_ci, ↓k_l0, ↓k_r0, ↓k_se0, ↓k_ic0, ↓k_l1, ↓k_r1, ↓k_se1, ↓k_ic1, ↓k_de1, ↓k_tk1, ↓k_l2, ↓k_r2, ↓k_se2, ↓k_ic2, ↓k_de2, ↓k_tk2, ↓k_l3, ↓k_r3, ↓k_se3, ↓k_ic3, ↓k_de3, ↓k_tk3, ↓k_l4, ↓k_r4, ↓k_se4, ↓k_ic4, ↓k_de4, ↓k_tk4, ↓k_l5, ↓k_r5, ↓k_se5, ↓k_ic5, ↓k_de5, ↓k_tk5, ↓k_l6, ↓k_r6, ↓k_se6, ↓k_ic6, ↓k_de6, ↓k_tk6, ↓k_l7, ↓k_r7, ↓k_se7, ↓k_ic7, ↓k_de7, ↓k_tk7, ↓k_l8, ↓k_r8, ↓k_se8, ↓k_ic8, ↓k_de8, ↓k_tk8, ↓k_l9, ↓k_r9, ↓k_se9, ↓k_ic9, ↓k_de9, ↓k_tk9, ↓k_l10, ↓k_r10, ↓k_se10, ↓k_ic10, ↓k_de10, ↓k_tk10, ↓k_l11, ↓k_r11, ↓k_se11, ↓k_ic11, ↓k_de11, ↓k_tk11, ↓k_l12, ↓k_r12, ↓k_se12, ↓k_ic12, ↓k_de12, ↓k_tk12, ↓k_l13, ↓k_r13, ↓k_se13, ↓k_ic13, ↓k_de13, ↓k_tk13, ↓k_l14, ↓k_r14, ↓k_se14, ↓k_ic14, ↓k_de14, ↓k_tk14, ↓k_l15, ↓k_r15, ↓k_se15, ↓k_ic15, ↓k_de15, ↓k_tk15, ↓k_l16, ↓k_r16, ↓k_se16, ↓k_ic16, ↓k_de16, ↓k_tk16, ↓k_l17, ↓k_r17, ↓k_se17, ↓k_ic17, ↓k_de17, ↓k_tk17, ↓k_l18, ↓k_r18, ↓k_se18, ↓k_ic18, ↓k_de18, ↓k_tk18, ↓k_l19, ↓k_r19, ↓k_se19, ↓k_ic19, ↓k_de19, ↓k_tk19, ↓k_l20, ↓k_r20, ↓k_se20, ↓k_ic20, ↓k_de20, ↓k_tk20, ↓k_l21, ↓k_r21, ↓k_se21, ↓k_ic21, ↓k_de21, ↓k_tk21, ↓k_l22, ↓k_r22, ↓k_se22, ↓k_ic22, ↓k_de22, ↓k_tk22, ↓k_l23, ↓k_r23, ↓k_se23, ↓k_ic23, ↓k_de23, ↓k_tk23, ↓k_l24, ↓k_r24, ↓k_se24, ↓k_ic24, ↓k_de24, ↓k_tk24, ↓k_l25, ↓k_r25, ↓k_se25, ↓k_ic25, ↓k_de25, ↓k_tk25, ↓k_k, ↓k_kn, ↓k_kl, ↓k_kln, ↓k_il, ↓k_2, ↓k_1, ↓k_2c, ↓k_2l, ↓k_ac, ↓k_an, ↓k_cs, ↓k_cv, ↓k_fi, ↓k_fr, ↓k_ai, ↓k_az, ↓k_ar, ↓k_sai, ↓k_saz, ↓k_soa, ↓k_sof, ↓k_sx, ↓k_blk, ↓k_sset, ↓k_sdec, ↓k_sri, ↓k_srv, ↓k_srr, ↓k_nop, ↓k_add, ↓k_sub, ↓k_mul, ↓k_min, ↓k_max, ↓k_shr, ↓k_shl, ↓k_or, ↓k_ilz, ↓k_addl, ↓k_rt, ↓k_rb, ↓k_rbz, ↓k_rsi, ↓k_rsr, ↓k_rsv, ↓reduceIte, one, ↓s0, ↓(k_cv2 dX10_side (t10 oT)), ↓(cS1 G1), ↓(cS0 G1), z2, ↓(k_cs3 dX10_isRow), ↓cy, ↓(k_cv2 dX10_addFound (t10 oT)), ↓a7, ↓lw, ↓xi9_2 oZ, ↓xp9_2 oZ, ↓xb9_2 oZ, ↓xf9_2 oZ, ↓xg9_2 oZ, ↓xh9_2 oZ, ↓xr9_5 oZ, ↓xa9_5 oZ, ↓xs9_5 oZ, ↓xo9_5 oZ, ↓xc9_5 oZ, ↓xd9_5 oZ, List.length_cons, List.length_nil, List.forall_mem_cons, List.not_mem_nil, Value.category, true_and, and_true, false_and, and_false, or_true, true_or, or_false, false_or, Nat.zero_le, forall_const, implies_true, false_implies, Nat.zero_add, Nat.reduceAdd, Nat.reduceLT, Nat.reduceLeDiff, Nat.le_refl, not_true_eq_false, not_false_eq_true, r_eq, r_ne, r_lt, r_ge, r_gt, r_le, bz_ne, nn_toNat, cn_of, cn_0, cn_1, i10, Int.reduceLE, Int.reduceLT, Int.reduceEq, bz_T, bz_F, ite_self, mulc, st_bud]
end
