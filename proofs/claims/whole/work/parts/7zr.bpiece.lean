section
/-! the reference builds: a whole piece is put in -/
/-- the turn of a node, where its block is known -/
theorem b_nodeT {T : Nat → Option q_T} {nx B : Nat} {R : Nat → Nat → Option Value} {G G1 G2 : Nat → Int → Int} {i it r tn ts m W : Int} (hM : Ly T R (B + 544) (L12 (B + 544))) (r0 : 0 ≤ r) (r1 : r < 40) (mb : m = 0 ∨ m = 2) (W0 : 0 ≤ W) (W1 : W < 400) (h23 : G (B + 544) 23 = W + 1) (h22 : G (B + 544) 22 = 0) (s5 : ST5 G B W it (1000 + r) tn ts m) (e1 : G1 = gs G (B + 544) 23 W) (tb : -1 ≤ it ∧ it < 100 ∧ -1 ≤ tn ∧ tn < 40 ∧ 0 ≤ ts ∧ ts < 5)
    (cB : ∀ (Kn : List Value → q_M → Prop) (Kr : Option Value → q_M → Prop), q_blk 7 (q_sq (q_sdec Value.int 7 (q_cv q_oi 12 4 0 0 fX12_newNode (q_r 0) (q_ac Value.int (q_l 1) (q_ac Value.int (q_ai (q_fr 12 18 (q_r 0)) (q_2 q_gisub (q_2 q_giadd (q_2 q_gimul (q_k 40) (q_l 2)) (q_l 3)) (q_k 1000))) (q_ac Value.int (q_l 4) (q_ac Value.int (q_l 5) q_an)))))) (q_blk 8 (q_sq (q_sdec Value.int 8 (q_2 q_gisub (q_cv q_oi 12 1 0 0 fX12_slotsOf (q_r 0) (q_ac Value.int (q_cv q_oi 12 2 0 0 fX12_formAt (q_r 0) (q_ac Value.int (q_l 2) (q_ac Value.int (q_2 q_gisub (q_l 3) (q_k 1000)) q_an))) q_an)) (q_k 1))) wX12_build_1))) [.ref (B + 544), .int (zI i), .int (zI it), .int (zI (1000 + r)), .int (zI tn), .int (zI ts), .int (zI m)] (st T nx 0 0 R G1) Kn Kr = Kn [.ref (B + 544), .int (zI i), .int (zI it), .int (zI (1000 + r)), .int (zI tn), .int (zI ts), .int (zI m)] (st T nx 0 0 R G2)) : BSt T nx R B i G G2 := by
  have sP := b_pop (T := T) (nx := nx) (rc := 0) (rs := 0) (R := R) (i := i) hM W0 W1 h23 s5
  rw [← e1] at sP
  have w1 : G1 (B + 544) 23 = W := by rw [e1]; exact gs_same _ _ _ _
  have o1 : ∀ x, ¬ x = B + 544 → G1 x = G x := fun x q => by rw [e1, gs_ne q]
  obtain ⟨z1, z2, z3, z4, z5⟩ := s5
  have y1 : G1 (B + 544 + 23) W = it := by rw [o1 _ (by omega)]; exact z1
  have y2 : G1 (B + 544 + 24) W = 1000 + r := by rw [o1 _ (by omega)]; exact z2
  have y3 : G1 (B + 544 + 25) W = tn := by rw [o1 _ (by omega)]; exact z3
  have y4 : G1 (B + 544 + 26) W = ts := by rw [o1 _ (by omega)]; exact z4
  have y5 : G1 (B + 544 + 27) W = m := by rw [o1 _ (by omega)]; exact z5
  have g0 : 0 < W + 1 := by omega
  obtain ⟨p, hp⟩ : ∃ p, p = 1000 + r := ⟨_, rfl⟩
  rw [← hp] at y2 cB
  have g2 : 200 ≤ p := by omega
  have g3 : ¬ p < 1000 := by omega
  have p2 : p < 2000 := by omega
  have g4 : ¬ m = 1 := by omega
  have m2 : 0 ≤ m ∧ m ≤ 2 := by omega
  refine fun Kn Kr hk => q_backR (fun K Kf hk2 => ?_) hk
  clear o1 e1 z1 z2 z3 z4 z5 hp r0 r1
  have kb : ∀ (s : q_S) (env : List Value) (μ : q_M) (Kn : List Value → q_M → Prop) (Kr : Option Value → q_M → Prop), q_blk 2 s env μ Kn Kr = s env μ (blkK 2 Kn) Kr := fun _ _ _ _ _ => rfl
  simp (disch := omega) only [↓wcX12_build_0.eq_1, ↓wsX12_build_0.eq_1, ↓(k_cv1 dX12_rootPiece (t12 hM)), ↓(k_cv1 dX12_slotsOf (t12 hM)), ↓(k_cv2 dX12_fitsHere (t12 hM)), ↓(k_cv2 dX12_formAt (t12 hM)), ↓(k_cv4 dX12_newNode (t12 hM)), ↓(k_cv4 dX12_putLeaf (t12 hM)), ↓(k_cv5 dX12_await0 (t12 hM)), ↓k_mk, ↓k_sq, ↓k_sk, ↓k_bk, ↓k_if, ↓k_te, ↓k_cm, ↓k_cz, ↓k_an2, ↓k_or2, ↓k_no, ↓k_ci, ↓k_l0, ↓k_r0, ↓k_se0, ↓k_ic0, ↓k_l1, ↓k_r1, ↓k_se1, ↓k_ic1, ↓k_de1, ↓k_tk1, ↓k_l2, ↓k_r2, ↓k_se2, ↓k_ic2, ↓k_de2, ↓k_tk2, ↓k_l3, ↓k_r3, ↓k_se3, ↓k_ic3, ↓k_de3, ↓k_tk3, ↓k_l4, ↓k_r4, ↓k_se4, ↓k_ic4, ↓k_de4, ↓k_tk4, ↓k_l5, ↓k_r5, ↓k_se5, ↓k_ic5, ↓k_de5, ↓k_tk5, ↓k_l6, ↓k_r6, ↓k_se6, ↓k_ic6, ↓k_de6, ↓k_tk6, ↓k_l7, ↓k_r7, ↓k_se7, ↓k_ic7, ↓k_de7, ↓k_tk7, ↓k_l8, ↓k_r8, ↓k_se8, ↓k_ic8, ↓k_de8, ↓k_tk8, ↓k_l9, ↓k_r9, ↓k_se9, ↓k_ic9, ↓k_de9, ↓k_tk9, ↓k_l10, ↓k_r10, ↓k_se10, ↓k_ic10, ↓k_de10, ↓k_tk10, ↓k_l11, ↓k_r11, ↓k_se11, ↓k_ic11, ↓k_de11, ↓k_tk11, ↓k_l12, ↓k_r12, ↓k_se12, ↓k_ic12, ↓k_de12, ↓k_tk12, ↓k_l13, ↓k_r13, ↓k_se13, ↓k_ic13, ↓k_de13, ↓k_tk13, ↓k_l14, ↓k_r14, ↓k_se14, ↓k_ic14, ↓k_de14, ↓k_tk14, ↓k_l15, ↓k_r15, ↓k_se15, ↓k_ic15, ↓k_de15, ↓k_tk15, ↓k_l16, ↓k_r16, ↓k_se16, ↓k_ic16, ↓k_de16, ↓k_tk16, ↓k_l17, ↓k_r17, ↓k_se17, ↓k_ic17, ↓k_de17, ↓k_tk17, ↓k_l18, ↓k_r18, ↓k_se18, ↓k_ic18, ↓k_de18, ↓k_tk18, ↓k_l19, ↓k_r19, ↓k_se19, ↓k_ic19, ↓k_de19, ↓k_tk19, ↓k_l20, ↓k_r20, ↓k_se20, ↓k_ic20, ↓k_de20, ↓k_tk20, ↓k_l21, ↓k_r21, ↓k_se21, ↓k_ic21, ↓k_de21, ↓k_tk21, ↓k_l22, ↓k_r22, ↓k_se22, ↓k_ic22, ↓k_de22, ↓k_tk22, ↓k_l23, ↓k_r23, ↓k_se23, ↓k_ic23, ↓k_de23, ↓k_tk23, ↓k_l24, ↓k_r24, ↓k_se24, ↓k_ic24, ↓k_de24, ↓k_tk24, ↓k_l25, ↓k_r25, ↓k_se25, ↓k_ic25, ↓k_de25, ↓k_tk25, ↓k_k, ↓k_kn, ↓k_kl, ↓k_kln, ↓k_il, ↓k_2, ↓k_1, ↓k_2c, ↓k_2l, ↓k_ac, ↓k_an, ↓k_cs, ↓k_cv, ↓k_fi, ↓k_fr, ↓k_ai, ↓k_az, ↓k_ar, ↓k_sai, ↓k_saz, ↓k_soa, ↓k_spf, ↓k_sx, ↓k_sset, ↓k_sdec, ↓k_sri, ↓k_srv, ↓k_srr, ↓k_nop, ↓k_add, ↓k_sub, ↓k_mul, ↓k_min, ↓k_max, ↓k_shr, ↓k_shl, ↓k_or, ↓k_ilz, ↓k_addl, ↓k_rt, ↓k_rb, ↓k_rbz, ↓k_rsi, ↓k_rsr, ↓k_rsv, ↓reduceIte, ↓kb, h23, h22, g0, eq_self, ↓sP, w1, y1, y2, y3, y4, y5, g2, g3, g4, ↓cB, ↓xi12_22 hM, ↓xp12_22 hM, ↓xb12_22 hM, ↓xf12_22 hM, ↓xg12_22 hM, ↓xh12_22 hM, ↓xi12_23 hM, ↓xp12_23 hM, ↓xb12_23 hM, ↓xf12_23 hM, ↓xg12_23 hM, ↓xh12_23 hM, ↓xr12_24 hM, ↓xa12_24 hM, ↓xs12_24 hM, ↓xo12_24 hM, ↓xc12_24 hM, ↓xd12_24 hM, ↓xr12_25 hM, ↓xa12_25 hM, ↓xs12_25 hM, ↓xo12_25 hM, ↓xc12_25 hM, ↓xd12_25 hM, ↓xr12_26 hM, ↓xa12_26 hM, ↓xs12_26 hM, ↓xo12_26 hM, ↓xc12_26 hM, ↓xd12_26 hM, ↓xr12_27 hM, ↓xa12_27 hM, ↓xs12_27 hM, ↓xo12_27 hM, ↓xc12_27 hM, ↓xd12_27 hM, ↓xr12_28 hM, ↓xa12_28 hM, ↓xs12_28 hM, ↓xo12_28 hM, ↓xc12_28 hM, ↓xd12_28 hM, List.length_cons, List.length_nil, List.forall_mem_cons, List.not_mem_nil, Value.category, true_and, and_true, false_and, and_false, or_true, true_or, or_false, false_or, Nat.zero_le, forall_const, implies_true, false_implies, Nat.zero_add, Nat.reduceAdd, Nat.reduceLT, Nat.reduceLeDiff, Nat.le_refl, not_true_eq_false, not_false_eq_true, r_eq, r_ne, r_lt, r_ge, r_gt, r_le, bz_ne, nn_toNat, cn_of, cn_0, cn_1, i10, Int.reduceLE, Int.reduceLT, Int.reduceEq, bz_T, bz_F, ite_self, mulc, st_bud]
  exact hk2
/-- the loop ends -/
theorem b_out {T : Nat → Option q_T} {nx B : Nat} {R : Nat → Nat → Option Value} {G : Nat → Int → Int} {i W : Int} (hM : Ly T R (B + 544) (L12 (B + 544))) (W0 : 0 ≤ W) (W1 : W < 1000) (h23 : G (B + 544) 23 = W) (h : W = 0 ∧ G (B + 544) 22 = 0 ∨ G (B + 544) 22 = 1) (Kn : List Value → q_M → Prop) (Kr : Option Value → q_M → Prop) (hk : Kn [.ref (B + 544), .int (zI i)] (st T nx 0 0 R G)) : q_wh wcX12_build_0 wsX12_build_0 [.ref (B + 544), .int (zI i)] (st T nx 0 0 R G) Kn Kr := by
  refine q_outR (fun Kt Kf hk2 => ?_) hk
  rcases h with ⟨h, h22⟩ | h22
  · subst h
    have g0 : ¬ (0 : Int) < 0 := by omega
    simp (disch := omega) only [↓wcX12_build_0.eq_1, ↓k_mk, ↓k_sq, ↓k_sk, ↓k_bk, ↓k_if, ↓k_te, ↓k_cm, ↓k_cz, ↓k_an2, ↓k_or2, ↓k_no, ↓k_ci, ↓k_l0, ↓k_r0, ↓k_se0, ↓k_ic0, ↓k_l1, ↓k_r1, ↓k_se1, ↓k_ic1, ↓k_de1, ↓k_tk1, ↓k_l2, ↓k_r2, ↓k_se2, ↓k_ic2, ↓k_de2, ↓k_tk2, ↓k_l3, ↓k_r3, ↓k_se3, ↓k_ic3, ↓k_de3, ↓k_tk3, ↓k_l4, ↓k_r4, ↓k_se4, ↓k_ic4, ↓k_de4, ↓k_tk4, ↓k_l5, ↓k_r5, ↓k_se5, ↓k_ic5, ↓k_de5, ↓k_tk5, ↓k_l6, ↓k_r6, ↓k_se6, ↓k_ic6, ↓k_de6, ↓k_tk6, ↓k_l7, ↓k_r7, ↓k_se7, ↓k_ic7, ↓k_de7, ↓k_tk7, ↓k_l8, ↓k_r8, ↓k_se8, ↓k_ic8, ↓k_de8, ↓k_tk8, ↓k_l9, ↓k_r9, ↓k_se9, ↓k_ic9, ↓k_de9, ↓k_tk9, ↓k_l10, ↓k_r10, ↓k_se10, ↓k_ic10, ↓k_de10, ↓k_tk10, ↓k_l11, ↓k_r11, ↓k_se11, ↓k_ic11, ↓k_de11, ↓k_tk11, ↓k_l12, ↓k_r12, ↓k_se12, ↓k_ic12, ↓k_de12, ↓k_tk12, ↓k_l13, ↓k_r13, ↓k_se13, ↓k_ic13, ↓k_de13, ↓k_tk13, ↓k_l14, ↓k_r14, ↓k_se14, ↓k_ic14, ↓k_de14, ↓k_tk14, ↓k_l15, ↓k_r15, ↓k_se15, ↓k_ic15, ↓k_de15, ↓k_tk15, ↓k_l16, ↓k_r16, ↓k_se16, ↓k_ic16, ↓k_de16, ↓k_tk16, ↓k_l17, ↓k_r17, ↓k_se17, ↓k_ic17, ↓k_de17, ↓k_tk17, ↓k_l18, ↓k_r18, ↓k_se18, ↓k_ic18, ↓k_de18, ↓k_tk18, ↓k_l19, ↓k_r19, ↓k_se19, ↓k_ic19, ↓k_de19, ↓k_tk19, ↓k_l20, ↓k_r20, ↓k_se20, ↓k_ic20, ↓k_de20, ↓k_tk20, ↓k_l21, ↓k_r21, ↓k_se21, ↓k_ic21, ↓k_de21, ↓k_tk21, ↓k_l22, ↓k_r22, ↓k_se22, ↓k_ic22, ↓k_de22, ↓k_tk22, ↓k_l23, ↓k_r23, ↓k_se23, ↓k_ic23, ↓k_de23, ↓k_tk23, ↓k_l24, ↓k_r24, ↓k_se24, ↓k_ic24, ↓k_de24, ↓k_tk24, ↓k_l25, ↓k_r25, ↓k_se25, ↓k_ic25, ↓k_de25, ↓k_tk25, ↓k_k, ↓k_kn, ↓k_kl, ↓k_kln, ↓k_il, ↓k_2, ↓k_1, ↓k_2c, ↓k_2l, ↓k_ac, ↓k_an, ↓k_cs, ↓k_cv, ↓k_fi, ↓k_fr, ↓k_ai, ↓k_az, ↓k_ar, ↓k_sai, ↓k_saz, ↓k_soa, ↓k_sof, ↓k_spf, ↓k_sx, ↓k_blk, ↓k_sset, ↓k_sdec, ↓k_sri, ↓k_srv, ↓k_srr, ↓k_nop, ↓k_add, ↓k_sub, ↓k_mul, ↓k_min, ↓k_max, ↓k_shr, ↓k_shl, ↓k_or, ↓k_ilz, ↓k_addl, ↓k_rt, ↓k_rb, ↓k_rbz, ↓k_rsi, ↓k_rsr, ↓k_rsv, ↓reduceIte, h23, h22, g0, ↓xi12_22 hM, ↓xp12_22 hM, ↓xb12_22 hM, ↓xf12_22 hM, ↓xg12_22 hM, ↓xh12_22 hM, ↓xi12_23 hM, ↓xp12_23 hM, ↓xb12_23 hM, ↓xf12_23 hM, ↓xg12_23 hM, ↓xh12_23 hM, List.length_cons, List.length_nil, List.forall_mem_cons, List.not_mem_nil, Value.category, true_and, and_true, false_and, and_false, or_true, true_or, or_false, false_or, Nat.zero_le, forall_const, implies_true, false_implies, Nat.zero_add, Nat.reduceAdd, Nat.reduceLT, Nat.reduceLeDiff, Nat.le_refl, not_true_eq_false, not_false_eq_true, r_eq, r_ne, r_lt, r_ge, r_gt, r_le, bz_ne, nn_toNat, cn_of, cn_0, cn_1, i10, Int.reduceLE, Int.reduceLT, Int.reduceEq, bz_T, bz_F, ite_self, mulc, st_bud]
    exact hk2
  · have g1 : ¬ (1 : Int) = 0 := by omega
    by_cases g0 : 0 < W
    · simp (disch := omega) only [↓wcX12_build_0.eq_1, ↓k_mk, ↓k_sq, ↓k_sk, ↓k_bk, ↓k_if, ↓k_te, ↓k_cm, ↓k_cz, ↓k_an2, ↓k_or2, ↓k_no, ↓k_ci, ↓k_l0, ↓k_r0, ↓k_se0, ↓k_ic0, ↓k_l1, ↓k_r1, ↓k_se1, ↓k_ic1, ↓k_de1, ↓k_tk1, ↓k_l2, ↓k_r2, ↓k_se2, ↓k_ic2, ↓k_de2, ↓k_tk2, ↓k_l3, ↓k_r3, ↓k_se3, ↓k_ic3, ↓k_de3, ↓k_tk3, ↓k_l4, ↓k_r4, ↓k_se4, ↓k_ic4, ↓k_de4, ↓k_tk4, ↓k_l5, ↓k_r5, ↓k_se5, ↓k_ic5, ↓k_de5, ↓k_tk5, ↓k_l6, ↓k_r6, ↓k_se6, ↓k_ic6, ↓k_de6, ↓k_tk6, ↓k_l7, ↓k_r7, ↓k_se7, ↓k_ic7, ↓k_de7, ↓k_tk7, ↓k_l8, ↓k_r8, ↓k_se8, ↓k_ic8, ↓k_de8, ↓k_tk8, ↓k_l9, ↓k_r9, ↓k_se9, ↓k_ic9, ↓k_de9, ↓k_tk9, ↓k_l10, ↓k_r10, ↓k_se10, ↓k_ic10, ↓k_de10, ↓k_tk10, ↓k_l11, ↓k_r11, ↓k_se11, ↓k_ic11, ↓k_de11, ↓k_tk11, ↓k_l12, ↓k_r12, ↓k_se12, ↓k_ic12, ↓k_de12, ↓k_tk12, ↓k_l13, ↓k_r13, ↓k_se13, ↓k_ic13, ↓k_de13, ↓k_tk13, ↓k_l14, ↓k_r14, ↓k_se14, ↓k_ic14, ↓k_de14, ↓k_tk14, ↓k_l15, ↓k_r15, ↓k_se15, ↓k_ic15, ↓k_de15, ↓k_tk15, ↓k_l16, ↓k_r16, ↓k_se16, ↓k_ic16, ↓k_de16, ↓k_tk16, ↓k_l17, ↓k_r17, ↓k_se17, ↓k_ic17, ↓k_de17, ↓k_tk17, ↓k_l18, ↓k_r18, ↓k_se18, ↓k_ic18, ↓k_de18, ↓k_tk18, ↓k_l19, ↓k_r19, ↓k_se19, ↓k_ic19, ↓k_de19, ↓k_tk19, ↓k_l20, ↓k_r20, ↓k_se20, ↓k_ic20, ↓k_de20, ↓k_tk20, ↓k_l21, ↓k_r21, ↓k_se21, ↓k_ic21, ↓k_de21, ↓k_tk21, ↓k_l22, ↓k_r22, ↓k_se22, ↓k_ic22, ↓k_de22, ↓k_tk22, ↓k_l23, ↓k_r23, ↓k_se23, ↓k_ic23, ↓k_de23, ↓k_tk23, ↓k_l24, ↓k_r24, ↓k_se24, ↓k_ic24, ↓k_de24, ↓k_tk24, ↓k_l25, ↓k_r25, ↓k_se25, ↓k_ic25, ↓k_de25, ↓k_tk25, ↓k_k, ↓k_kn, ↓k_kl, ↓k_kln, ↓k_il, ↓k_2, ↓k_1, ↓k_2c, ↓k_2l, ↓k_ac, ↓k_an, ↓k_cs, ↓k_cv, ↓k_fi, ↓k_fr, ↓k_ai, ↓k_az, ↓k_ar, ↓k_sai, ↓k_saz, ↓k_soa, ↓k_sof, ↓k_spf, ↓k_sx, ↓k_blk, ↓k_sset, ↓k_sdec, ↓k_sri, ↓k_srv, ↓k_srr, ↓k_nop, ↓k_add, ↓k_sub, ↓k_mul, ↓k_min, ↓k_max, ↓k_shr, ↓k_shl, ↓k_or, ↓k_ilz, ↓k_addl, ↓k_rt, ↓k_rb, ↓k_rbz, ↓k_rsi, ↓k_rsr, ↓k_rsv, ↓reduceIte, h23, h22, g0, g1, ↓xi12_22 hM, ↓xp12_22 hM, ↓xb12_22 hM, ↓xf12_22 hM, ↓xg12_22 hM, ↓xh12_22 hM, ↓xi12_23 hM, ↓xp12_23 hM, ↓xb12_23 hM, ↓xf12_23 hM, ↓xg12_23 hM, ↓xh12_23 hM, List.length_cons, List.length_nil, List.forall_mem_cons, List.not_mem_nil, Value.category, true_and, and_true, false_and, and_false, or_true, true_or, or_false, false_or, Nat.zero_le, forall_const, implies_true, false_implies, Nat.zero_add, Nat.reduceAdd, Nat.reduceLT, Nat.reduceLeDiff, Nat.le_refl, not_true_eq_false, not_false_eq_true, r_eq, r_ne, r_lt, r_ge, r_gt, r_le, bz_ne, nn_toNat, cn_of, cn_0, cn_1, i10, Int.reduceLE, Int.reduceLT, Int.reduceEq, bz_T, bz_F, ite_self, mulc, st_bud]
      exact hk2
    · simp (disch := omega) only [↓wcX12_build_0.eq_1, ↓k_mk, ↓k_sq, ↓k_sk, ↓k_bk, ↓k_if, ↓k_te, ↓k_cm, ↓k_cz, ↓k_an2, ↓k_or2, ↓k_no, ↓k_ci, ↓k_l0, ↓k_r0, ↓k_se0, ↓k_ic0, ↓k_l1, ↓k_r1, ↓k_se1, ↓k_ic1, ↓k_de1, ↓k_tk1, ↓k_l2, ↓k_r2, ↓k_se2, ↓k_ic2, ↓k_de2, ↓k_tk2, ↓k_l3, ↓k_r3, ↓k_se3, ↓k_ic3, ↓k_de3, ↓k_tk3, ↓k_l4, ↓k_r4, ↓k_se4, ↓k_ic4, ↓k_de4, ↓k_tk4, ↓k_l5, ↓k_r5, ↓k_se5, ↓k_ic5, ↓k_de5, ↓k_tk5, ↓k_l6, ↓k_r6, ↓k_se6, ↓k_ic6, ↓k_de6, ↓k_tk6, ↓k_l7, ↓k_r7, ↓k_se7, ↓k_ic7, ↓k_de7, ↓k_tk7, ↓k_l8, ↓k_r8, ↓k_se8, ↓k_ic8, ↓k_de8, ↓k_tk8, ↓k_l9, ↓k_r9, ↓k_se9, ↓k_ic9, ↓k_de9, ↓k_tk9, ↓k_l10, ↓k_r10, ↓k_se10, ↓k_ic10, ↓k_de10, ↓k_tk10, ↓k_l11, ↓k_r11, ↓k_se11, ↓k_ic11, ↓k_de11, ↓k_tk11, ↓k_l12, ↓k_r12, ↓k_se12, ↓k_ic12, ↓k_de12, ↓k_tk12, ↓k_l13, ↓k_r13, ↓k_se13, ↓k_ic13, ↓k_de13, ↓k_tk13, ↓k_l14, ↓k_r14, ↓k_se14, ↓k_ic14, ↓k_de14, ↓k_tk14, ↓k_l15, ↓k_r15, ↓k_se15, ↓k_ic15, ↓k_de15, ↓k_tk15, ↓k_l16, ↓k_r16, ↓k_se16, ↓k_ic16, ↓k_de16, ↓k_tk16, ↓k_l17, ↓k_r17, ↓k_se17, ↓k_ic17, ↓k_de17, ↓k_tk17, ↓k_l18, ↓k_r18, ↓k_se18, ↓k_ic18, ↓k_de18, ↓k_tk18, ↓k_l19, ↓k_r19, ↓k_se19, ↓k_ic19, ↓k_de19, ↓k_tk19, ↓k_l20, ↓k_r20, ↓k_se20, ↓k_ic20, ↓k_de20, ↓k_tk20, ↓k_l21, ↓k_r21, ↓k_se21, ↓k_ic21, ↓k_de21, ↓k_tk21, ↓k_l22, ↓k_r22, ↓k_se22, ↓k_ic22, ↓k_de22, ↓k_tk22, ↓k_l23, ↓k_r23, ↓k_se23, ↓k_ic23, ↓k_de23, ↓k_tk23, ↓k_l24, ↓k_r24, ↓k_se24, ↓k_ic24, ↓k_de24, ↓k_tk24, ↓k_l25, ↓k_r25, ↓k_se25, ↓k_ic25, ↓k_de25, ↓k_tk25, ↓k_k, ↓k_kn, ↓k_kl, ↓k_kln, ↓k_il, ↓k_2, ↓k_1, ↓k_2c, ↓k_2l, ↓k_ac, ↓k_an, ↓k_cs, ↓k_cv, ↓k_fi, ↓k_fr, ↓k_ai, ↓k_az, ↓k_ar, ↓k_sai, ↓k_saz, ↓k_soa, ↓k_sof, ↓k_spf, ↓k_sx, ↓k_blk, ↓k_sset, ↓k_sdec, ↓k_sri, ↓k_srv, ↓k_srr, ↓k_nop, ↓k_add, ↓k_sub, ↓k_mul, ↓k_min, ↓k_max, ↓k_shr, ↓k_shl, ↓k_or, ↓k_ilz, ↓k_addl, ↓k_rt, ↓k_rb, ↓k_rbz, ↓k_rsi, ↓k_rsr, ↓k_rsv, ↓reduceIte, h23, h22, g0, g1, ↓xi12_22 hM, ↓xp12_22 hM, ↓xb12_22 hM, ↓xf12_22 hM, ↓xg12_22 hM, ↓xh12_22 hM, ↓xi12_23 hM, ↓xp12_23 hM, ↓xb12_23 hM, ↓xf12_23 hM, ↓xg12_23 hM, ↓xh12_23 hM, List.length_cons, List.length_nil, List.forall_mem_cons, List.not_mem_nil, Value.category, true_and, and_true, false_and, and_false, or_true, true_or, or_false, false_or, Nat.zero_le, forall_const, implies_true, false_implies, Nat.zero_add, Nat.reduceAdd, Nat.reduceLT, Nat.reduceLeDiff, Nat.le_refl, not_true_eq_false, not_false_eq_true, r_eq, r_ne, r_lt, r_ge, r_gt, r_le, bz_ne, nn_toNat, cn_of, cn_0, cn_1, i10, Int.reduceLE, Int.reduceLT, Int.reduceEq, bz_T, bz_F, ite_self, mulc, st_bud]
      exact hk2
theorem IFm_ns {G : Nat → Int → Int} {B : Nat} {v f : Int} (hF : IFm G B) (kv : 0 ≤ v ∧ v ≤ 1) (f0 : 0 ≤ f) (f1 : f < G (tvA B v) 1) : 0 ≤ G (tvA B v + 5) f ∧ G (tvA B v + 5) f ≤ 5 := by
  have frF := (hF v kv.1 kv.2).2.2.2 f f0 f1
  have e : G (tvA B v + 5) f = _ := frF.2.2.1.1
  have e2 := FR_it frF
  have nb5 := nsl_b (fun k => G (tvA B v + 4) (5 * f + k)) (G (tvA B v + 3) f).toNat
  rw [e]
  have i5 := frF.2.1
  exact ⟨(nsl_b _ _).1, by
    have := (nsl_b (fun k => G (B + 370 + 14 * v.toNat + 4) (5 * f + k)) (G (B + 370 + 14 * v.toNat + 3) f).toNat).2
    omega⟩
/-- a piece of a tree that waits is put in, or it is too large -/
theorem b_piece {T : Nat → Option q_T} {nx B b : Nat} {R : Nat → Nat → Option Value} {G0 : Nat → Int → Int} {g i it v : Int} (hM : Ly T R (B + 544) (L12 (B + 544))) (i0 : 0 ≤ i) (i1 : i < 100) (it0 : 0 ≤ it) (it1 : it < 100) (iti : ¬ it = i) (hF : IFm G0 B) (tk : TOK G0 B g it v b) {c : Int → Int} (cb : ∀ q, 0 ≤ q → q < G0 b 2 → 20 ≤ G0 (b + 1) q ∧ G0 (b + 1) q ≤ 1013) (n5 : ∀ q : Nat, 1000 ≤ c q → ns0 (c q) (G0 (tvA B v + 5))) : ∀ (k : Nat) (x : Int) (P Q : Nat) (G : Nat → Int → Int) (W : Int), 0 ≤ x → x < G0 b 2 → G0 (b + 2) x - x ≤ k → 0 ≤ W → W + 1 ≤ dd (G0 (tvA B v + 5)) c P → (∀ z, 0 ≤ z → z < G0 (b + 2) x - x → c (P + z) = G0 (b + 1) (x + z)) → (Q : Int) = P + (G0 (b + 2) x - x) → Pre (G0 (tvA B v + 5)) c P → nb c P ≤ 40 → SRC G0 G B it → G (B + 544) 23 = W + 1 → G (B + 544) 22 = 0 → BS (G0 (tvA B v + 5)) c G B i v P → (∀ t, (tgS (G0 (tvA B v + 5)) c P)[0]? = some t → ST5 G B W it (pc (G0 (b + 1)) (G0 (b + 6)) x) t.1 t.2 0) →
    (nb c Q ≤ 40 ∧ ∃ G', BCh G G' B i ∧ SL5 G G' B W ∧ G' (B + 544) 23 = W ∧ G' (B + 544) 22 = 0 ∧ BS (G0 (tvA B v + 5)) c G' B i v Q ∧ BSt T nx R B i G G') ∨ (40 < nb c Q ∧ ∃ G', BCh G G' B i ∧ G' (B + 544) 22 = 1 ∧ (0 ≤ G' (B + 544) 23 ∧ G' (B + 544) 23 < 400) ∧ BSt T nx R B i G G') := by
  have tkb := TOK_b tk
  have kT := tk.2.2.2.1
  have hn0 : ∀ f, 0 ≤ f → f < G0 (tvA B v) 1 → 0 ≤ G0 (tvA B v + 5) f := fun f f0 f1 => (IFm_ns hF tk.2.2.1 f0 f1).1
  intro k
  induction k with
  | zero =>
    intro x P Q G W x0 x1 hk
    have := kT.2.1 x x0 x1
    omega
  | succ k ih =>
    intro x P Q G W x0 x1 hk W0 Wd hc hQ pr n40 src h23 h22 bs hst
    have ex := kT.2.1 x x0 x1
    have n5' : ∀ q : Nat, q < P → 1000 ≤ c q → G0 (tvA B v + 5) (c q - 1000) ≤ 5 := fun q _ h => (n5 q h).2.2
    have room := dd_room n5'
    have c0 : c P = G0 (b + 1) x := by
      have := hc 0 (by omega) (by omega)
      rw [show (P : Int) + 0 = P by omega, show x + 0 = x by omega] at this
      exact this
    obtain ⟨⟨tn, ts⟩, ht, hts⟩ := tg_some pr (by omega)
    have s5 : ST5 G B W it (pc (G0 (b + 1)) (G0 (b + 6)) x) tn ts 0 := hst _ ht
    have cbx := cb x x0 x1
    by_cases l : 1000 ≤ G0 (b + 1) x
    · obtain ⟨F1, cE, cH⟩ := kT.2.2.2.1 x x0 x1 l
      have rp := Tr_n kT x0 x1 l
      have tb : -1 ≤ tn ∧ tn < 40 ∧ 0 ≤ ts ∧ ts < 5 := by
        rcases tg_b pr n5' ht with ⟨_, z⟩ | ⟨_, z1, z2, z3, z4⟩
        · injection z with z1 z2
          omega
        · have z1 : 0 ≤ tn := z1
          have z2 : tn < nb c P := z2
          have z3 : 0 ≤ ts := z3
          have z4 : ts < 5 := z4
          omega
      have epc : pc (G0 (b + 1)) (G0 (b + 6)) x = 1000 + G0 (b + 6) x := if_pos l
      rw [epc] at s5
      obtain ⟨G1, e1⟩ : ∃ M, M = gs G (B + 544) 23 W := ⟨_, rfl⟩
      have pc1 := pop_ch G B i W W
      rw [← e1] at pc1
      have src1 := SRC_tr src pc1.1 iti
      have w1 : G1 (B + 544) 23 = W := by rw [e1]; exact gs_same _ _ _ _
      have w2 : G1 (B + 544) 22 = 0 := by rw [e1, gs_eq, fu_ne (by omega)]; exact h22
      have o1 : ∀ x, ¬ x = B + 544 → G1 x = G x := fun x q => by rw [e1, gs_ne q]
      have bs1 : BS (G0 (tvA B v + 5)) c G1 B i v P := BS_congr (fun x a b => o1 x (by omega)) bs
      obtain ⟨N, hN⟩ : ∃ N, N = G0 (tvA B v + 5) (G0 (b + 1) x - 1000) := ⟨_, rfl⟩
      have lP : 1000 ≤ c P := by omega
      have nP := n5 P lP
      have nP1 : c P < 1014 := nP.1
      have nP2 : 0 ≤ G0 (tvA B v + 5) (c P - 1000) := nP.2.1
      have nP3 : G0 (tvA B v + 5) (c P - 1000) ≤ 5 := nP.2.2
      rw [c0, ← hN] at nP2 nP3
      have nbs := nb_s c P
      rw [if_pos lP] at nbs
      have ddP := dd_s (G0 (tvA B v + 5)) c P
      rw [if_pos lP, c0, ← hN] at ddP
      have ePQ : P + 1 ≤ Q := by omega
      have mono := nb_mono c ePQ
      by_cases n4 : nb c P < 40
      · obtain ⟨G2, a1, a2, a3, a4, a5, a6, a7⟩ := b_blk (T := T) (nx := nx) (R := R) (m := 0) hM i0 i1 it0 it1 iti hF tk x0 x1 l src1 pr (by omega) n5 ht bs1 c0 n4 W0 (by rw [← hN]; omega) w1
        have stp : BSt T nx R B i G G2 := b_nodeT hM (by omega) (by omega) (Or.inl rfl) W0 (by omega) h23 h22 s5 e1 (by omega) a7
        rw [← hN] at a3 a6
        have key : ∀ m : Nat, (m : Int) ≤ N → ∀ Y : Nat, (Y : Int) = P + (chI (G0 (b + 2)) x m - x) → (nb c Y ≤ 40 ∧ ∃ G', BCh G G' B i ∧ SL5 G G' B W ∧ (∀ j : Nat, m ≤ j → (j : Int) < N → ST5 G' B (W + (N - 1 - j)) it (pc (G0 (b + 1)) (G0 (b + 6)) (chI (G0 (b + 2)) x j)) (nb c P) j 0) ∧ G' (B + 544) 23 = W + (N - m) ∧ G' (B + 544) 22 = 0 ∧ BS (G0 (tvA B v + 5)) c G' B i v Y ∧ BSt T nx R B i G G') ∨ (40 < nb c Y ∧ ∃ G', BCh G G' B i ∧ G' (B + 544) 22 = 1 ∧ (0 ≤ G' (B + 544) 23 ∧ G' (B + 544) 23 < 400) ∧ BSt T nx R B i G G') := by
          intro m
          induction m with
          | zero =>
            intro _ Y hY
            have z : chI (G0 (b + 2)) x 0 = x + 1 := rfl
            rw [z] at hY
            have eY : Y = P + 1 := by omega
            subst eY
            refine Or.inl ⟨by omega, G2, BCh_tr pc1.1 a1, SL5_tr pc1.2 a2 (Int.le_refl _), fun j _ hj => a6 j hj, by rw [a3]; omega, by rw [a4]; exact w2, a5, stp⟩
          | succ m ihm =>
            intro hm Y hY
            obtain ⟨b1, b2, b3, b4, b5⟩ := cH m (by omega)
            have ey := kT.2.1 (chI (G0 (b + 2)) x m) (by omega) b2
            have cs : chI (G0 (b + 2)) x (m + 1) = G0 (b + 2) (chI (G0 (b + 2)) x m) := rfl
            have ce : G0 (b + 2) (chI (G0 (b + 2)) x m) ≤ G0 (b + 2) x := (Tr_che kT x0 x1 l (show m < (G0 (tvA B v + 5) (G0 (b + 1) x - 1000)).toNat by omega)).2
            rw [cs] at hY
            obtain ⟨X, hX⟩ : ∃ X : Nat, (X : Int) = P + (chI (G0 (b + 2)) x m - x) := ⟨(P + (chI (G0 (b + 2)) x m - x)).toNat, by omega⟩
            have mo := nb_mono c (show X ≤ Y by omega)
            rcases ihm (by omega) X hX with ⟨q1, G3, q2, q3, q4, q5, q6, q7, q8⟩ | ⟨q1, G3, q2, q3, q4⟩
            · obtain ⟨p1, p2, p3, _, _⟩ := pc_kids (h := g) (c := c) kT hn0 x0 x1 l hc pr (by omega) m (by omega) X hX
              rw [← hN] at p2 p3
              rw [show N.toNat - m = (N.toNat - (m + 1)) + 1 by omega, tgN] at p3
              have y2 := SRC_tr src q2 iti
              rcases ih (chI (G0 (b + 2)) x m) X Y G3 (W + (N - 1 - m)) (by omega) b2 (by omega) (by omega) (by omega) (fun z z0 z1 => by
                have := hc (chI (G0 (b + 2)) x m - x + z) (by omega) (by omega)
                rw [show (X : Int) + z = P + (chI (G0 (b + 2)) x m - x + z) by omega, this]
                congr 1
                omega) (by omega) p1 q1 y2 (by rw [q5]; omega) q6 q7 (fun t' ht' => by
                rw [p3, List.cons_append, List.getElem?_cons_zero] at ht'
                injection ht' with ht'
                subst ht'
                exact q4 m (Nat.le_refl _) (by omega)) with ⟨v1, G4, v2, v3, v4, v5, v6, v7⟩ | ⟨v1, G4, v2, v3, v4, v5⟩
              · refine Or.inl ⟨v1, G4, BCh_tr q2 v2, SL5_tr q3 v3 (by omega), fun j j0 j1 => ST5_lo v3 (by omega) (q4 j (by omega) j1), by rw [v4]; omega, v5, v6, BSt_tr q8 v7⟩
              · exact Or.inr ⟨v1, G4, BCh_tr q2 v2, v3, v4, BSt_tr q8 v5⟩
            · exact Or.inr ⟨by omega, G3, q2, q3, q4⟩
        rcases key N.toNat (by omega) Q (by rw [hN, cE]; exact hQ) with ⟨q1, G3, q2, q3, q4, q5, q6, q7, q8⟩ | q
        · exact Or.inl ⟨q1, G3, q2, q3, by rw [q5]; omega, q6, q7, q8⟩
        · exact Or.inr q
      · have nd : G1 (B + 544 + 17) i = 40 := by rw [bs1.2.1]; omega
        have cF := b_blkF (T := T) (nx := nx) (R := R) (tn := tn) (ts := ts) (m := 0) hM i0 i1 it0 it1 iti hF tk x0 x1 l src1 nd
        refine Or.inr ⟨by omega, gs G1 (B + 544) 22 1, BCh_tr pc1.1 ⟨fun x _ q => gs_ne q, fun j q _ => by rw [gs_eq, fu_ne q], fun j _ => ⟨by rw [gs_ne (by omega)], by rw [gs_ne (by omega)], by rw [gs_ne (by omega)]⟩, fun j _ => ⟨by rw [gs_ne (by omega)], by rw [gs_ne (by omega)], by rw [gs_ne (by omega)]⟩, fun j _ => by rw [gs_ne (by omega)]⟩, gs_same _ _ _ _, by rw [gs_eq, fu_ne (by omega), w1]; omega, b_nodeT hM (by omega) (by omega) (Or.inl rfl) W0 (by omega) h23 h22 s5 e1 (by omega) cF⟩
    · have el := (kT.2.2.2.2.1 x x0 x1 l).2
      have eQ : Q = P + 1 := by omega
      subst eQ
      have epc : pc (G0 (b + 1)) (G0 (b + 6)) x = G0 (b + 1) x := if_neg l
      rw [epc] at s5
      obtain ⟨G', a1, a2, a3, a4, a5, a6⟩ := b_leafS (T := T) (nx := nx) (R := R) (m := 0) hM i0 i1 pr (by omega) n5 ht bs n40 c0 (by omega) (by omega) (Or.inr (by omega)) (by omega) W0 (by omega) h23 h22 s5
      have nbs := nb_s c P
      rw [if_neg (by omega)] at nbs
      exact Or.inl ⟨by omega, G', a1, a2, a3, a4, a5, a6⟩
end
