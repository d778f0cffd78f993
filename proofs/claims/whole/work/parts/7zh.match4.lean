section
/-! the reference: whether a pattern is so at a node, piece by piece -/
theorem SLo_tr {G G1 G2 : Nat → Int → Int} {B : Nat} {W W' : Int} (h : SLo G G1 B W) (k : SLo G1 G2 B W') (q : W ≤ W') : SLo G G2 B W := fun j hj => by
  obtain ⟨a1, a2⟩ := k j (by omega)
  rw [a1, a2]
  exact h j hj
theorem r_piece {T : Nat → Option q_T} {nx B a b : Nat} {R : Nat → Nat → Option Value} {G0 : Nat → Int → Int} {ga gb ia ib v n0 : Int} (hM : Ly T R (B + 544) (L12 (B + 544))) (ia0 : 0 ≤ ia) (ia1 : ia < 100) (ib0 : 0 ≤ ib) (ib1 : ib < 100) (hF : IFm G0 B) (ta : TOK G0 B ga ia v a) (tb : TOK G0 B gb ib v b) (ca : ∀ q, 0 ≤ q → q < G0 a 2 → 20 ≤ G0 (a + 1) q ∧ G0 (a + 1) q ≤ 1013) (cb : ∀ q, 0 ≤ q → q < G0 b 2 → 20 ≤ G0 (b + 1) q ∧ G0 (b + 1) q ≤ 1013) (la : ∀ q, 0 ≤ q → q < G0 a 2 → ¬ 1000 ≤ G0 (a + 1) q → isLf (G0 (a + 1) q)) (hab : a + 10 ≤ B + 544 ∧ b + 10 ≤ B + 544) : ∀ (k : Nat) (p q : Int) (G : Nat → Int → Int) (S : Int → Int → Prop) (W : Int), 0 ≤ p → p < G0 a 2 → G0 (a + 2) p - p ≤ k → 0 ≤ q → q < G0 b 2 → 0 ≤ W → W + (G0 (a + 2) p - p) ≤ 202 → MCh G0 G B → G (B + 544) 114 = W + 1 → G (B + 544 + 90) W = pc (G0 (a + 1)) (G0 (a + 6)) p → G (B + 544 + 91) W = pc (G0 (b + 1)) (G0 (b + 6)) q → SGr G B ib (G0 b 2) (pc (G0 (b + 1)) (G0 (b + 6))) S → Con (G0 (b + 1)) (G0 (b + 2)) S →
    (okM (G0 (tvA B v + 5)) (G0 (a + 1)) (G0 (a + 2)) (G0 (b + 1)) (G0 (b + 2)) k p q ∧ Con (G0 (b + 1)) (G0 (b + 2)) (SU S (hlM (G0 (tvA B v + 5)) (G0 (a + 1)) (G0 (a + 2)) (G0 (b + 1)) (G0 (b + 2)) k p q)) ∧ ∃ G', MCh G0 G' B ∧ SLo G G' B W ∧ G' (B + 544) 114 = W ∧ SGr G' B ib (G0 b 2) (pc (G0 (b + 1)) (G0 (b + 6))) (SU S (hlM (G0 (tvA B v + 5)) (G0 (a + 1)) (G0 (a + 2)) (G0 (b + 1)) (G0 (b + 2)) k p q)) ∧ RSt T nx R B ia ib n0 G G') ∨ (¬ (okM (G0 (tvA B v + 5)) (G0 (a + 1)) (G0 (a + 2)) (G0 (b + 1)) (G0 (b + 2)) k p q ∧ Con (G0 (b + 1)) (G0 (b + 2)) (SU S (hlM (G0 (tvA B v + 5)) (G0 (a + 1)) (G0 (a + 2)) (G0 (b + 1)) (G0 (b + 2)) k p q))) ∧ RFa T nx R B ia ib n0 G) := by
  have tba := TOK_b ta
  have tbb := TOK_b tb
  have kA := ta.2.2.2.1
  have kB := tb.2.2.2.1
  have kv := ta.2.2.1
  have tvb : B + 370 ≤ tvA B v ∧ tvA B v + 14 ≤ B + 398 := by unfold tvA; omega
  intro k
  induction k with
  | zero =>
    intro p q G S W p0 p1 hk
    have := kA.2.1 p p0 p1
    omega
  | succ k ih =>
    intro p q G S W p0 p1 hk q0 q1 W0 W1 ch h114 hP hQ sg cn
    have pe := kA.2.1 p p0 p1
    have qe := kB.2.1 q q0 q1
    have cpb := ca p p0 p1
    have cqb := cb q q0 q1
    obtain ⟨P, hPP⟩ : ∃ P, P = pc (G0 (a + 1)) (G0 (a + 6)) p := ⟨_, rfl⟩
    obtain ⟨Qc, hQQ⟩ : ∃ Qc, Qc = pc (G0 (b + 1)) (G0 (b + 6)) q := ⟨_, rfl⟩
    rw [← hPP] at hP
    rw [← hQQ] at hQ
    have Pb : 0 ≤ P ∧ P < 2000 := by
      rw [hPP]
      unfold pc
      by_cases l : 1000 ≤ G0 (a + 1) p
      · rw [if_pos l]
        have := Tr_n kA p0 p1 l
        omega
      · rw [if_neg l]
        omega
    have Qb : 0 ≤ Qc ∧ Qc < 2000 := by
      rw [hQQ]
      unfold pc
      by_cases l : 1000 ≤ G0 (b + 1) q
      · rw [if_pos l]
        have := Tr_n kB q0 q1 l
        omega
      · rw [if_neg l]
        omega
    obtain ⟨Ga, ea⟩ : ∃ M, M = gs G (B + 544) 114 W := ⟨_, rfl⟩
    have oa : ∀ x, ¬ x = B + 544 → Ga x = G x := fun x w => by rw [ea, gs_ne w]
    have oj : ∀ j, ¬ j = 114 → Ga (B + 544) j = G (B + 544) j := fun j w => by rw [ea, gs_eq, fu_ne w]
    have a114 : Ga (B + 544) 114 = W := by rw [ea]; exact gs_same _ _ _ _
    have cha : MCh G0 Ga B := MCh_tr ch ⟨fun x _ _ _ _ w => oa x w, oj⟩
    have hPa : Ga (B + 544 + 90) W = P := by rw [oa _ (by omega)]; exact hP
    have hQa : Ga (B + 544 + 91) W = Qc := by rw [oa _ (by omega)]; exact hQ
    have hz : (0 : Int) < W + 1 := by omega
    have Wb : 0 ≤ W ∧ W < 220 := by omega
    have sgA : SGr Ga B ib (G0 b 2) (pc (G0 (b + 1)) (G0 (b + 6))) S := by
      refine ⟨sg.1, fun h h0 h1 => ?_⟩
      rw [oa _ (by omega), oa _ (by omega)]
      exact sg.2 h h0 h1
    have s0 : ∀ (Kn : List Value → q_M → Prop) (Kr : Option Value → q_M → Prop), q_sof 12 114 q_gisub (q_r 0) (q_k 1) [.ref (B + 544), .int (zI ia), .int (zI ib), .int (zI n0)] (st T nx 0 0 R G) Kn Kr = Kn [.ref (B + 544), .int (zI ia), .int (zI ib), .int (zI n0)] (st T nx 0 0 R Ga) := by
      intro Kn Kr
      rw [ea]
      have e1 : W + 1 - 1 = W := by omega
      simp (disch := omega) only [↓k_mk, ↓k_sq, ↓k_sk, ↓k_bk, ↓k_if, ↓k_te, ↓k_cm, ↓k_cz, ↓k_an2, ↓k_or2, ↓k_no, ↓k_ci, ↓k_l0, ↓k_r0, ↓k_se0, ↓k_ic0, ↓k_l1, ↓k_r1, ↓k_se1, ↓k_ic1, ↓k_de1, ↓k_tk1, ↓k_l2, ↓k_r2, ↓k_se2, ↓k_ic2, ↓k_de2, ↓k_tk2, ↓k_l3, ↓k_r3, ↓k_se3, ↓k_ic3, ↓k_de3, ↓k_tk3, ↓k_l4, ↓k_r4, ↓k_se4, ↓k_ic4, ↓k_de4, ↓k_tk4, ↓k_l5, ↓k_r5, ↓k_se5, ↓k_ic5, ↓k_de5, ↓k_tk5, ↓k_l6, ↓k_r6, ↓k_se6, ↓k_ic6, ↓k_de6, ↓k_tk6, ↓k_l7, ↓k_r7, ↓k_se7, ↓k_ic7, ↓k_de7, ↓k_tk7, ↓k_l8, ↓k_r8, ↓k_se8, ↓k_ic8, ↓k_de8, ↓k_tk8, ↓k_l9, ↓k_r9, ↓k_se9, ↓k_ic9, ↓k_de9, ↓k_tk9, ↓k_l10, ↓k_r10, ↓k_se10, ↓k_ic10, ↓k_de10, ↓k_tk10, ↓k_l11, ↓k_r11, ↓k_se11, ↓k_ic11, ↓k_de11, ↓k_tk11, ↓k_l12, ↓k_r12, ↓k_se12, ↓k_ic12, ↓k_de12, ↓k_tk12, ↓k_l13, ↓k_r13, ↓k_se13, ↓k_ic13, ↓k_de13, ↓k_tk13, ↓k_l14, ↓k_r14, ↓k_se14, ↓k_ic14, ↓k_de14, ↓k_tk14, ↓k_l15, ↓k_r15, ↓k_se15, ↓k_ic15, ↓k_de15, ↓k_tk15, ↓k_l16, ↓k_r16, ↓k_se16, ↓k_ic16, ↓k_de16, ↓k_tk16, ↓k_l17, ↓k_r17, ↓k_se17, ↓k_ic17, ↓k_de17, ↓k_tk17, ↓k_l18, ↓k_r18, ↓k_se18, ↓k_ic18, ↓k_de18, ↓k_tk18, ↓k_l19, ↓k_r19, ↓k_se19, ↓k_ic19, ↓k_de19, ↓k_tk19, ↓k_l20, ↓k_r20, ↓k_se20, ↓k_ic20, ↓k_de20, ↓k_tk20, ↓k_l21, ↓k_r21, ↓k_se21, ↓k_ic21, ↓k_de21, ↓k_tk21, ↓k_l22, ↓k_r22, ↓k_se22, ↓k_ic22, ↓k_de22, ↓k_tk22, ↓k_l23, ↓k_r23, ↓k_se23, ↓k_ic23, ↓k_de23, ↓k_tk23, ↓k_l24, ↓k_r24, ↓k_se24, ↓k_ic24, ↓k_de24, ↓k_tk24, ↓k_l25, ↓k_r25, ↓k_se25, ↓k_ic25, ↓k_de25, ↓k_tk25, ↓k_k, ↓k_kn, ↓k_kl, ↓k_kln, ↓k_il, ↓k_2, ↓k_1, ↓k_2c, ↓k_2l, ↓k_ac, ↓k_an, ↓k_cs, ↓k_cv, ↓k_fi, ↓k_fr, ↓k_ai, ↓k_az, ↓k_ar, ↓k_sai, ↓k_saz, ↓k_soa, ↓k_sof, ↓k_spf, ↓k_sx, ↓k_blk, ↓k_sset, ↓k_sdec, ↓k_sri, ↓k_srv, ↓k_srr, ↓k_nop, ↓k_add, ↓k_sub, ↓k_mul, ↓k_min, ↓k_max, ↓k_shr, ↓k_shl, ↓k_or, ↓k_ilz, ↓k_addl, ↓k_rt, ↓k_rb, ↓k_rbz, ↓k_rsi, ↓k_rsr, ↓k_rsv, ↓reduceIte, h114, e1, ↓xi12_114 hM, ↓xp12_114 hM, ↓xb12_114 hM, ↓xf12_114 hM, ↓xg12_114 hM, ↓xh12_114 hM, List.length_cons, List.length_nil, List.forall_mem_cons, List.not_mem_nil, Value.category, true_and, and_true, false_and, and_false, or_true, true_or, or_false, false_or, Nat.zero_le, forall_const, implies_true, false_implies, Nat.zero_add, Nat.reduceAdd, Nat.reduceLT, Nat.reduceLeDiff, Nat.le_refl, not_true_eq_false, not_false_eq_true, r_eq, r_ne, r_lt, r_ge, r_gt, r_le, bz_ne, nn_toNat, cn_of, cn_0, cn_1, i10, Int.reduceLE, Int.reduceLT, Int.reduceEq, bz_T, bz_F, ite_self, mulc, st_bud]
    have s4 : ∀ (Kn : List Value → q_M → Prop) (Kr : Option Value → q_M → Prop), q_sdec Value.int 4 (q_ai (q_fr 12 115 (q_r 0)) (q_fi 12 114 (q_r 0))) [.ref (B + 544), .int (zI ia), .int (zI ib), .int (zI n0)] (st T nx 0 0 R Ga) Kn Kr = Kn [.ref (B + 544), .int (zI ia), .int (zI ib), .int (zI n0), .int (zI P)] (st T nx 0 0 R Ga) := by
      intro Kn Kr
      simp (disch := omega) only [↓k_mk, ↓k_sq, ↓k_sk, ↓k_bk, ↓k_if, ↓k_te, ↓k_cm, ↓k_cz, ↓k_an2, ↓k_or2, ↓k_no, ↓k_ci, ↓k_l0, ↓k_r0, ↓k_se0, ↓k_ic0, ↓k_l1, ↓k_r1, ↓k_se1, ↓k_ic1, ↓k_de1, ↓k_tk1, ↓k_l2, ↓k_r2, ↓k_se2, ↓k_ic2, ↓k_de2, ↓k_tk2, ↓k_l3, ↓k_r3, ↓k_se3, ↓k_ic3, ↓k_de3, ↓k_tk3, ↓k_l4, ↓k_r4, ↓k_se4, ↓k_ic4, ↓k_de4, ↓k_tk4, ↓k_l5, ↓k_r5, ↓k_se5, ↓k_ic5, ↓k_de5, ↓k_tk5, ↓k_l6, ↓k_r6, ↓k_se6, ↓k_ic6, ↓k_de6, ↓k_tk6, ↓k_l7, ↓k_r7, ↓k_se7, ↓k_ic7, ↓k_de7, ↓k_tk7, ↓k_l8, ↓k_r8, ↓k_se8, ↓k_ic8, ↓k_de8, ↓k_tk8, ↓k_l9, ↓k_r9, ↓k_se9, ↓k_ic9, ↓k_de9, ↓k_tk9, ↓k_l10, ↓k_r10, ↓k_se10, ↓k_ic10, ↓k_de10, ↓k_tk10, ↓k_l11, ↓k_r11, ↓k_se11, ↓k_ic11, ↓k_de11, ↓k_tk11, ↓k_l12, ↓k_r12, ↓k_se12, ↓k_ic12, ↓k_de12, ↓k_tk12, ↓k_l13, ↓k_r13, ↓k_se13, ↓k_ic13, ↓k_de13, ↓k_tk13, ↓k_l14, ↓k_r14, ↓k_se14, ↓k_ic14, ↓k_de14, ↓k_tk14, ↓k_l15, ↓k_r15, ↓k_se15, ↓k_ic15, ↓k_de15, ↓k_tk15, ↓k_l16, ↓k_r16, ↓k_se16, ↓k_ic16, ↓k_de16, ↓k_tk16, ↓k_l17, ↓k_r17, ↓k_se17, ↓k_ic17, ↓k_de17, ↓k_tk17, ↓k_l18, ↓k_r18, ↓k_se18, ↓k_ic18, ↓k_de18, ↓k_tk18, ↓k_l19, ↓k_r19, ↓k_se19, ↓k_ic19, ↓k_de19, ↓k_tk19, ↓k_l20, ↓k_r20, ↓k_se20, ↓k_ic20, ↓k_de20, ↓k_tk20, ↓k_l21, ↓k_r21, ↓k_se21, ↓k_ic21, ↓k_de21, ↓k_tk21, ↓k_l22, ↓k_r22, ↓k_se22, ↓k_ic22, ↓k_de22, ↓k_tk22, ↓k_l23, ↓k_r23, ↓k_se23, ↓k_ic23, ↓k_de23, ↓k_tk23, ↓k_l24, ↓k_r24, ↓k_se24, ↓k_ic24, ↓k_de24, ↓k_tk24, ↓k_l25, ↓k_r25, ↓k_se25, ↓k_ic25, ↓k_de25, ↓k_tk25, ↓k_k, ↓k_kn, ↓k_kl, ↓k_kln, ↓k_il, ↓k_2, ↓k_1, ↓k_2c, ↓k_2l, ↓k_ac, ↓k_an, ↓k_cs, ↓k_cv, ↓k_fi, ↓k_fr, ↓k_ai, ↓k_az, ↓k_ar, ↓k_sai, ↓k_saz, ↓k_soa, ↓k_sof, ↓k_spf, ↓k_sx, ↓k_blk, ↓k_sset, ↓k_sdec, ↓k_sri, ↓k_srv, ↓k_srr, ↓k_nop, ↓k_add, ↓k_sub, ↓k_mul, ↓k_min, ↓k_max, ↓k_shr, ↓k_shl, ↓k_or, ↓k_ilz, ↓k_addl, ↓k_rt, ↓k_rb, ↓k_rbz, ↓k_rsi, ↓k_rsr, ↓k_rsv, ↓reduceIte, a114, hPa, ↓xi12_114 hM, ↓xp12_114 hM, ↓xb12_114 hM, ↓xf12_114 hM, ↓xg12_114 hM, ↓xh12_114 hM, ↓xr12_115 hM, ↓xa12_115 hM, ↓xs12_115 hM, ↓xo12_115 hM, ↓xc12_115 hM, ↓xd12_115 hM, List.length_cons, List.length_nil, List.forall_mem_cons, List.not_mem_nil, Value.category, true_and, and_true, false_and, and_false, or_true, true_or, or_false, false_or, Nat.zero_le, forall_const, implies_true, false_implies, Nat.zero_add, Nat.reduceAdd, Nat.reduceLT, Nat.reduceLeDiff, Nat.le_refl, not_true_eq_false, not_false_eq_true, r_eq, r_ne, r_lt, r_ge, r_gt, r_le, bz_ne, nn_toNat, cn_of, cn_0, cn_1, i10, Int.reduceLE, Int.reduceLT, Int.reduceEq, bz_T, bz_F, ite_self, mulc, st_bud]
    have s5 : ∀ (Kn : List Value → q_M → Prop) (Kr : Option Value → q_M → Prop), q_sdec Value.int 5 (q_ai (q_fr 12 116 (q_r 0)) (q_fi 12 114 (q_r 0))) [.ref (B + 544), .int (zI ia), .int (zI ib), .int (zI n0), .int (zI P)] (st T nx 0 0 R Ga) Kn Kr = Kn [.ref (B + 544), .int (zI ia), .int (zI ib), .int (zI n0), .int (zI P), .int (zI Qc)] (st T nx 0 0 R Ga) := by
      intro Kn Kr
      simp (disch := omega) only [↓k_mk, ↓k_sq, ↓k_sk, ↓k_bk, ↓k_if, ↓k_te, ↓k_cm, ↓k_cz, ↓k_an2, ↓k_or2, ↓k_no, ↓k_ci, ↓k_l0, ↓k_r0, ↓k_se0, ↓k_ic0, ↓k_l1, ↓k_r1, ↓k_se1, ↓k_ic1, ↓k_de1, ↓k_tk1, ↓k_l2, ↓k_r2, ↓k_se2, ↓k_ic2, ↓k_de2, ↓k_tk2, ↓k_l3, ↓k_r3, ↓k_se3, ↓k_ic3, ↓k_de3, ↓k_tk3, ↓k_l4, ↓k_r4, ↓k_se4, ↓k_ic4, ↓k_de4, ↓k_tk4, ↓k_l5, ↓k_r5, ↓k_se5, ↓k_ic5, ↓k_de5, ↓k_tk5, ↓k_l6, ↓k_r6, ↓k_se6, ↓k_ic6, ↓k_de6, ↓k_tk6, ↓k_l7, ↓k_r7, ↓k_se7, ↓k_ic7, ↓k_de7, ↓k_tk7, ↓k_l8, ↓k_r8, ↓k_se8, ↓k_ic8, ↓k_de8, ↓k_tk8, ↓k_l9, ↓k_r9, ↓k_se9, ↓k_ic9, ↓k_de9, ↓k_tk9, ↓k_l10, ↓k_r10, ↓k_se10, ↓k_ic10, ↓k_de10, ↓k_tk10, ↓k_l11, ↓k_r11, ↓k_se11, ↓k_ic11, ↓k_de11, ↓k_tk11, ↓k_l12, ↓k_r12, ↓k_se12, ↓k_ic12, ↓k_de12, ↓k_tk12, ↓k_l13, ↓k_r13, ↓k_se13, ↓k_ic13, ↓k_de13, ↓k_tk13, ↓k_l14, ↓k_r14, ↓k_se14, ↓k_ic14, ↓k_de14, ↓k_tk14, ↓k_l15, ↓k_r15, ↓k_se15, ↓k_ic15, ↓k_de15, ↓k_tk15, ↓k_l16, ↓k_r16, ↓k_se16, ↓k_ic16, ↓k_de16, ↓k_tk16, ↓k_l17, ↓k_r17, ↓k_se17, ↓k_ic17, ↓k_de17, ↓k_tk17, ↓k_l18, ↓k_r18, ↓k_se18, ↓k_ic18, ↓k_de18, ↓k_tk18, ↓k_l19, ↓k_r19, ↓k_se19, ↓k_ic19, ↓k_de19, ↓k_tk19, ↓k_l20, ↓k_r20, ↓k_se20, ↓k_ic20, ↓k_de20, ↓k_tk20, ↓k_l21, ↓k_r21, ↓k_se21, ↓k_ic21, ↓k_de21, ↓k_tk21, ↓k_l22, ↓k_r22, ↓k_se22, ↓k_ic22, ↓k_de22, ↓k_tk22, ↓k_l23, ↓k_r23, ↓k_se23, ↓k_ic23, ↓k_de23, ↓k_tk23, ↓k_l24, ↓k_r24, ↓k_se24, ↓k_ic24, ↓k_de24, ↓k_tk24, ↓k_l25, ↓k_r25, ↓k_se25, ↓k_ic25, ↓k_de25, ↓k_tk25, ↓k_k, ↓k_kn, ↓k_kl, ↓k_kln, ↓k_il, ↓k_2, ↓k_1, ↓k_2c, ↓k_2l, ↓k_ac, ↓k_an, ↓k_cs, ↓k_cv, ↓k_fi, ↓k_fr, ↓k_ai, ↓k_az, ↓k_ar, ↓k_sai, ↓k_saz, ↓k_soa, ↓k_sof, ↓k_spf, ↓k_sx, ↓k_blk, ↓k_sset, ↓k_sdec, ↓k_sri, ↓k_srv, ↓k_srr, ↓k_nop, ↓k_add, ↓k_sub, ↓k_mul, ↓k_min, ↓k_max, ↓k_shr, ↓k_shl, ↓k_or, ↓k_ilz, ↓k_addl, ↓k_rt, ↓k_rb, ↓k_rbz, ↓k_rsi, ↓k_rsr, ↓k_rsv, ↓reduceIte, a114, hQa, ↓xi12_114 hM, ↓xp12_114 hM, ↓xb12_114 hM, ↓xf12_114 hM, ↓xg12_114 hM, ↓xh12_114 hM, ↓xr12_116 hM, ↓xa12_116 hM, ↓xs12_116 hM, ↓xo12_116 hM, ↓xc12_116 hM, ↓xd12_116 hM, List.length_cons, List.length_nil, List.forall_mem_cons, List.not_mem_nil, Value.category, true_and, and_true, false_and, and_false, or_true, true_or, or_false, false_or, Nat.zero_le, forall_const, implies_true, false_implies, Nat.zero_add, Nat.reduceAdd, Nat.reduceLT, Nat.reduceLeDiff, Nat.le_refl, not_true_eq_false, not_false_eq_true, r_eq, r_ne, r_lt, r_ge, r_gt, r_le, bz_ne, nn_toNat, cn_of, cn_0, cn_1, i10, Int.reduceLE, Int.reduceLT, Int.reduceEq, bz_T, bz_F, ite_self, mulc, st_bud]
    by_cases ho : isHo (G0 (a + 1) p)
    · have ho2 : 200 ≤ G0 (a + 1) p ∧ G0 (a + 1) p < 1000 := ho
      have lf := la p p0 p1 (by omega)
      have hh : 200 ≤ G0 (a + 1) p ∧ G0 (a + 1) p < 216 := by unfold isLf at lf; omega
      have eP : P = G0 (a + 1) p := by rw [hPP]; exact if_neg (by omega)
      have ok : okM (G0 (tvA B v + 5)) (G0 (a + 1)) (G0 (a + 2)) (G0 (b + 1)) (G0 (b + 2)) (k + 1) p q := Or.inl ho
      obtain ⟨hn, hhn⟩ : ∃ hn, hn = P - 200 := ⟨_, rfl⟩
      have hl : ∀ h x, SU S (hlM (G0 (tvA B v + 5)) (G0 (a + 1)) (G0 (a + 2)) (G0 (b + 1)) (G0 (b + 2)) (k + 1) p q) h x ↔ S1 S hn q h x := fun h x => by
        constructor
        · intro w
          rcases w with w | w | w
          · exact Or.inl w
          · exact Or.inr ⟨by rw [hhn, eP]; exact w.2.1, w.2.2⟩
          · exact absurd ho w.1
        · intro w
          rcases w with w | w
          · exact Or.inl w
          · exact Or.inr (Or.inl ⟨ho, by rw [← eP, ← hhn]; exact w.1, w.2⟩)
      have hb0 : 0 ≤ hn ∧ hn ≤ 15 := by omega
      have c1 : 200 ≤ P := by omega
      have c2 : P < 1000 := by omega
      have s6 : ∀ (Kn : List Value → q_M → Prop) (Kr : Option Value → q_M → Prop), q_sdec Value.int 6 (q_2 q_gisub (q_l 4) (q_k 200)) [.ref (B + 544), .int (zI ia), .int (zI ib), .int (zI n0), .int (zI P), .int (zI Qc)] (st T nx 0 0 R Ga) Kn Kr = Kn [.ref (B + 544), .int (zI ia), .int (zI ib), .int (zI n0), .int (zI P), .int (zI Qc), .int (zI hn)] (st T nx 0 0 R Ga) := by
        intro Kn Kr
        simp (disch := omega) only [↓k_mk, ↓k_sq, ↓k_sk, ↓k_bk, ↓k_if, ↓k_te, ↓k_cm, ↓k_cz, ↓k_an2, ↓k_or2, ↓k_no, ↓k_ci, ↓k_l0, ↓k_r0, ↓k_se0, ↓k_ic0, ↓k_l1, ↓k_r1, ↓k_se1, ↓k_ic1, ↓k_de1, ↓k_tk1, ↓k_l2, ↓k_r2, ↓k_se2, ↓k_ic2, ↓k_de2, ↓k_tk2, ↓k_l3, ↓k_r3, ↓k_se3, ↓k_ic3, ↓k_de3, ↓k_tk3, ↓k_l4, ↓k_r4, ↓k_se4, ↓k_ic4, ↓k_de4, ↓k_tk4, ↓k_l5, ↓k_r5, ↓k_se5, ↓k_ic5, ↓k_de5, ↓k_tk5, ↓k_l6, ↓k_r6, ↓k_se6, ↓k_ic6, ↓k_de6, ↓k_tk6, ↓k_l7, ↓k_r7, ↓k_se7, ↓k_ic7, ↓k_de7, ↓k_tk7, ↓k_l8, ↓k_r8, ↓k_se8, ↓k_ic8, ↓k_de8, ↓k_tk8, ↓k_l9, ↓k_r9, ↓k_se9, ↓k_ic9, ↓k_de9, ↓k_tk9, ↓k_l10, ↓k_r10, ↓k_se10, ↓k_ic10, ↓k_de10, ↓k_tk10, ↓k_l11, ↓k_r11, ↓k_se11, ↓k_ic11, ↓k_de11, ↓k_tk11, ↓k_l12, ↓k_r12, ↓k_se12, ↓k_ic12, ↓k_de12, ↓k_tk12, ↓k_l13, ↓k_r13, ↓k_se13, ↓k_ic13, ↓k_de13, ↓k_tk13, ↓k_l14, ↓k_r14, ↓k_se14, ↓k_ic14, ↓k_de14, ↓k_tk14, ↓k_l15, ↓k_r15, ↓k_se15, ↓k_ic15, ↓k_de15, ↓k_tk15, ↓k_l16, ↓k_r16, ↓k_se16, ↓k_ic16, ↓k_de16, ↓k_tk16, ↓k_l17, ↓k_r17, ↓k_se17, ↓k_ic17, ↓k_de17, ↓k_tk17, ↓k_l18, ↓k_r18, ↓k_se18, ↓k_ic18, ↓k_de18, ↓k_tk18, ↓k_l19, ↓k_r19, ↓k_se19, ↓k_ic19, ↓k_de19, ↓k_tk19, ↓k_l20, ↓k_r20, ↓k_se20, ↓k_ic20, ↓k_de20, ↓k_tk20, ↓k_l21, ↓k_r21, ↓k_se21, ↓k_ic21, ↓k_de21, ↓k_tk21, ↓k_l22, ↓k_r22, ↓k_se22, ↓k_ic22, ↓k_de22, ↓k_tk22, ↓k_l23, ↓k_r23, ↓k_se23, ↓k_ic23, ↓k_de23, ↓k_tk23, ↓k_l24, ↓k_r24, ↓k_se24, ↓k_ic24, ↓k_de24, ↓k_tk24, ↓k_l25, ↓k_r25, ↓k_se25, ↓k_ic25, ↓k_de25, ↓k_tk25, ↓k_k, ↓k_kn, ↓k_kl, ↓k_kln, ↓k_il, ↓k_2, ↓k_1, ↓k_2c, ↓k_2l, ↓k_ac, ↓k_an, ↓k_cs, ↓k_cv, ↓k_fi, ↓k_fr, ↓k_ai, ↓k_az, ↓k_ar, ↓k_sai, ↓k_saz, ↓k_soa, ↓k_sof, ↓k_spf, ↓k_sx, ↓k_blk, ↓k_sset, ↓k_sdec, ↓k_sri, ↓k_srv, ↓k_srr, ↓k_nop, ↓k_add, ↓k_sub, ↓k_mul, ↓k_min, ↓k_max, ↓k_shr, ↓k_shl, ↓k_or, ↓k_ilz, ↓k_addl, ↓k_rt, ↓k_rb, ↓k_rbz, ↓k_rsi, ↓k_rsr, ↓k_rsv, ↓reduceIte, hhn, List.length_cons, List.length_nil, List.forall_mem_cons, List.not_mem_nil, Value.category, true_and, and_true, false_and, and_false, or_true, true_or, or_false, false_or, Nat.zero_le, forall_const, implies_true, false_implies, Nat.zero_add, Nat.reduceAdd, Nat.reduceLT, Nat.reduceLeDiff, Nat.le_refl, not_true_eq_false, not_false_eq_true, r_eq, r_ne, r_lt, r_ge, r_gt, r_le, bz_ne, nn_toNat, cn_of, cn_0, cn_1, i10, Int.reduceLE, Int.reduceLT, Int.reduceEq, bz_T, bz_F, ite_self, mulc, st_bud]
      rcases sgA.2 hn hb0.1 hb0.2 with ⟨z, zz⟩ | ⟨z, y, sy, hy⟩
      · obtain ⟨Gb, eb⟩ : ∃ M, M = gs Ga (B + 544 + 28) hn ib := ⟨_, rfl⟩
        obtain ⟨Gc, ec⟩ : ∃ M, M = gs Gb (B + 544 + 29) hn Qc := ⟨_, rfl⟩
        have oc : ∀ x, ¬ x = (B + 544 + 28) → ¬ x = (B + 544 + 29) → Gc x = Ga x := fun x w1 w2 => by rw [ec, gs_ne w2, eb, gs_ne w1]
        have sA : ∀ (Kn : List Value → q_M → Prop) (Kr : Option Value → q_M → Prop), q_sai (q_fr 12 29 (q_r 0)) (q_l 6) (q_l 2) [.ref (B + 544), .int (zI ia), .int (zI ib), .int (zI n0), .int (zI P), .int (zI Qc), .int (zI hn)] (st T nx 0 0 R Ga) Kn Kr = Kn [.ref (B + 544), .int (zI ia), .int (zI ib), .int (zI n0), .int (zI P), .int (zI Qc), .int (zI hn)] (st T nx 0 0 R Gb) := by
          intro Kn Kr
          rw [eb]
          simp (disch := omega) only [↓k_mk, ↓k_sq, ↓k_sk, ↓k_bk, ↓k_if, ↓k_te, ↓k_cm, ↓k_cz, ↓k_an2, ↓k_or2, ↓k_no, ↓k_ci, ↓k_l0, ↓k_r0, ↓k_se0, ↓k_ic0, ↓k_l1, ↓k_r1, ↓k_se1, ↓k_ic1, ↓k_de1, ↓k_tk1, ↓k_l2, ↓k_r2, ↓k_se2, ↓k_ic2, ↓k_de2, ↓k_tk2, ↓k_l3, ↓k_r3, ↓k_se3, ↓k_ic3, ↓k_de3, ↓k_tk3, ↓k_l4, ↓k_r4, ↓k_se4, ↓k_ic4, ↓k_de4, ↓k_tk4, ↓k_l5, ↓k_r5, ↓k_se5, ↓k_ic5, ↓k_de5, ↓k_tk5, ↓k_l6, ↓k_r6, ↓k_se6, ↓k_ic6, ↓k_de6, ↓k_tk6, ↓k_l7, ↓k_r7, ↓k_se7, ↓k_ic7, ↓k_de7, ↓k_tk7, ↓k_l8, ↓k_r8, ↓k_se8, ↓k_ic8, ↓k_de8, ↓k_tk8, ↓k_l9, ↓k_r9, ↓k_se9, ↓k_ic9, ↓k_de9, ↓k_tk9, ↓k_l10, ↓k_r10, ↓k_se10, ↓k_ic10, ↓k_de10, ↓k_tk10, ↓k_l11, ↓k_r11, ↓k_se11, ↓k_ic11, ↓k_de11, ↓k_tk11, ↓k_l12, ↓k_r12, ↓k_se12, ↓k_ic12, ↓k_de12, ↓k_tk12, ↓k_l13, ↓k_r13, ↓k_se13, ↓k_ic13, ↓k_de13, ↓k_tk13, ↓k_l14, ↓k_r14, ↓k_se14, ↓k_ic14, ↓k_de14, ↓k_tk14, ↓k_l15, ↓k_r15, ↓k_se15, ↓k_ic15, ↓k_de15, ↓k_tk15, ↓k_l16, ↓k_r16, ↓k_se16, ↓k_ic16, ↓k_de16, ↓k_tk16, ↓k_l17, ↓k_r17, ↓k_se17, ↓k_ic17, ↓k_de17, ↓k_tk17, ↓k_l18, ↓k_r18, ↓k_se18, ↓k_ic18, ↓k_de18, ↓k_tk18, ↓k_l19, ↓k_r19, ↓k_se19, ↓k_ic19, ↓k_de19, ↓k_tk19, ↓k_l20, ↓k_r20, ↓k_se20, ↓k_ic20, ↓k_de20, ↓k_tk20, ↓k_l21, ↓k_r21, ↓k_se21, ↓k_ic21, ↓k_de21, ↓k_tk21, ↓k_l22, ↓k_r22, ↓k_se22, ↓k_ic22, ↓k_de22, ↓k_tk22, ↓k_l23, ↓k_r23, ↓k_se23, ↓k_ic23, ↓k_de23, ↓k_tk23, ↓k_l24, ↓k_r24, ↓k_se24, ↓k_ic24, ↓k_de24, ↓k_tk24, ↓k_l25, ↓k_r25, ↓k_se25, ↓k_ic25, ↓k_de25, ↓k_tk25, ↓k_k, ↓k_kn, ↓k_kl, ↓k_kln, ↓k_il, ↓k_2, ↓k_1, ↓k_2c, ↓k_2l, ↓k_ac, ↓k_an, ↓k_cs, ↓k_cv, ↓k_fi, ↓k_fr, ↓k_ai, ↓k_az, ↓k_ar, ↓k_sai, ↓k_saz, ↓k_soa, ↓k_sof, ↓k_spf, ↓k_sx, ↓k_blk, ↓k_sset, ↓k_sdec, ↓k_sri, ↓k_srv, ↓k_srr, ↓k_nop, ↓k_add, ↓k_sub, ↓k_mul, ↓k_min, ↓k_max, ↓k_shr, ↓k_shl, ↓k_or, ↓k_ilz, ↓k_addl, ↓k_rt, ↓k_rb, ↓k_rbz, ↓k_rsi, ↓k_rsr, ↓k_rsv, ↓reduceIte, ↓xr12_29 hM, ↓xa12_29 hM, ↓xs12_29 hM, ↓xo12_29 hM, ↓xc12_29 hM, ↓xd12_29 hM, List.length_cons, List.length_nil, List.forall_mem_cons, List.not_mem_nil, Value.category, true_and, and_true, false_and, and_false, or_true, true_or, or_false, false_or, Nat.zero_le, forall_const, implies_true, false_implies, Nat.zero_add, Nat.reduceAdd, Nat.reduceLT, Nat.reduceLeDiff, Nat.le_refl, not_true_eq_false, not_false_eq_true, r_eq, r_ne, r_lt, r_ge, r_gt, r_le, bz_ne, nn_toNat, cn_of, cn_0, cn_1, i10, Int.reduceLE, Int.reduceLT, Int.reduceEq, bz_T, bz_F, ite_self, mulc, st_bud]
        have sB : ∀ (Kn : List Value → q_M → Prop) (Kr : Option Value → q_M → Prop), q_sai (q_fr 12 30 (q_r 0)) (q_l 6) (q_l 5) [.ref (B + 544), .int (zI ia), .int (zI ib), .int (zI n0), .int (zI P), .int (zI Qc), .int (zI hn)] (st T nx 0 0 R Gb) Kn Kr = Kn [.ref (B + 544), .int (zI ia), .int (zI ib), .int (zI n0), .int (zI P), .int (zI Qc), .int (zI hn)] (st T nx 0 0 R Gc) := by
          intro Kn Kr
          rw [ec]
          simp (disch := omega) only [↓k_mk, ↓k_sq, ↓k_sk, ↓k_bk, ↓k_if, ↓k_te, ↓k_cm, ↓k_cz, ↓k_an2, ↓k_or2, ↓k_no, ↓k_ci, ↓k_l0, ↓k_r0, ↓k_se0, ↓k_ic0, ↓k_l1, ↓k_r1, ↓k_se1, ↓k_ic1, ↓k_de1, ↓k_tk1, ↓k_l2, ↓k_r2, ↓k_se2, ↓k_ic2, ↓k_de2, ↓k_tk2, ↓k_l3, ↓k_r3, ↓k_se3, ↓k_ic3, ↓k_de3, ↓k_tk3, ↓k_l4, ↓k_r4, ↓k_se4, ↓k_ic4, ↓k_de4, ↓k_tk4, ↓k_l5, ↓k_r5, ↓k_se5, ↓k_ic5, ↓k_de5, ↓k_tk5, ↓k_l6, ↓k_r6, ↓k_se6, ↓k_ic6, ↓k_de6, ↓k_tk6, ↓k_l7, ↓k_r7, ↓k_se7, ↓k_ic7, ↓k_de7, ↓k_tk7, ↓k_l8, ↓k_r8, ↓k_se8, ↓k_ic8, ↓k_de8, ↓k_tk8, ↓k_l9, ↓k_r9, ↓k_se9, ↓k_ic9, ↓k_de9, ↓k_tk9, ↓k_l10, ↓k_r10, ↓k_se10, ↓k_ic10, ↓k_de10, ↓k_tk10, ↓k_l11, ↓k_r11, ↓k_se11, ↓k_ic11, ↓k_de11, ↓k_tk11, ↓k_l12, ↓k_r12, ↓k_se12, ↓k_ic12, ↓k_de12, ↓k_tk12, ↓k_l13, ↓k_r13, ↓k_se13, ↓k_ic13, ↓k_de13, ↓k_tk13, ↓k_l14, ↓k_r14, ↓k_se14, ↓k_ic14, ↓k_de14, ↓k_tk14, ↓k_l15, ↓k_r15, ↓k_se15, ↓k_ic15, ↓k_de15, ↓k_tk15, ↓k_l16, ↓k_r16, ↓k_se16, ↓k_ic16, ↓k_de16, ↓k_tk16, ↓k_l17, ↓k_r17, ↓k_se17, ↓k_ic17, ↓k_de17, ↓k_tk17, ↓k_l18, ↓k_r18, ↓k_se18, ↓k_ic18, ↓k_de18, ↓k_tk18, ↓k_l19, ↓k_r19, ↓k_se19, ↓k_ic19, ↓k_de19, ↓k_tk19, ↓k_l20, ↓k_r20, ↓k_se20, ↓k_ic20, ↓k_de20, ↓k_tk20, ↓k_l21, ↓k_r21, ↓k_se21, ↓k_ic21, ↓k_de21, ↓k_tk21, ↓k_l22, ↓k_r22, ↓k_se22, ↓k_ic22, ↓k_de22, ↓k_tk22, ↓k_l23, ↓k_r23, ↓k_se23, ↓k_ic23, ↓k_de23, ↓k_tk23, ↓k_l24, ↓k_r24, ↓k_se24, ↓k_ic24, ↓k_de24, ↓k_tk24, ↓k_l25, ↓k_r25, ↓k_se25, ↓k_ic25, ↓k_de25, ↓k_tk25, ↓k_k, ↓k_kn, ↓k_kl, ↓k_kln, ↓k_il, ↓k_2, ↓k_1, ↓k_2c, ↓k_2l, ↓k_ac, ↓k_an, ↓k_cs, ↓k_cv, ↓k_fi, ↓k_fr, ↓k_ai, ↓k_az, ↓k_ar, ↓k_sai, ↓k_saz, ↓k_soa, ↓k_sof, ↓k_spf, ↓k_sx, ↓k_blk, ↓k_sset, ↓k_sdec, ↓k_sri, ↓k_srv, ↓k_srr, ↓k_nop, ↓k_add, ↓k_sub, ↓k_mul, ↓k_min, ↓k_max, ↓k_shr, ↓k_shl, ↓k_or, ↓k_ilz, ↓k_addl, ↓k_rt, ↓k_rb, ↓k_rbz, ↓k_rsi, ↓k_rsr, ↓k_rsv, ↓reduceIte, ↓xr12_30 hM, ↓xa12_30 hM, ↓xs12_30 hM, ↓xo12_30 hM, ↓xc12_30 hM, ↓xd12_30 hM, List.length_cons, List.length_nil, List.forall_mem_cons, List.not_mem_nil, Value.category, true_and, and_true, false_and, and_false, or_true, true_or, or_false, false_or, Nat.zero_le, forall_const, implies_true, false_implies, Nat.zero_add, Nat.reduceAdd, Nat.reduceLT, Nat.reduceLeDiff, Nat.le_refl, not_true_eq_false, not_false_eq_true, r_eq, r_ne, r_lt, r_ge, r_gt, r_le, bz_ne, nn_toNat, cn_of, cn_0, cn_1, i10, Int.reduceLE, Int.reduceLT, Int.reduceEq, bz_T, bz_F, ite_self, mulc, st_bud]
        have cN : Con (G0 (b + 1)) (G0 (b + 2)) (S1 S hn q) := fun h x y w1 w2 => by
          rcases w1 with w1 | ⟨w1, w1'⟩
          · rcases w2 with w2 | ⟨w2, w2'⟩
            · exact cn h x y w1 w2
            · rw [w2] at w1
              exact absurd w1 (zz x)
          · rcases w2 with w2 | ⟨w2, w2'⟩
            · rw [w1] at w2
              exact absurd w2 (zz y)
            · rw [w1', w2']
              exact Seg_rfl _ _ q
        refine Or.inl ⟨ok, Con_sub (fun h x w => (hl h x).mp w) cN, Gc, MCh_tr cha ⟨fun x w1 w2 _ _ _ => oc x w1 w2, fun j _ => by rw [oc _ (by omega) (by omega)]⟩, fun j _ => by rw [oc _ (by omega) (by omega), oc _ (by omega) (by omega), oa _ (by omega), oa _ (by omega)]; exact ⟨rfl, rfl⟩, by rw [oc _ (by omega) (by omega)]; exact a114, SGr_congr (fun h x => (hl h x).symm) ⟨fun h x w => ?_, fun h h0 h1 => ?_⟩, fun Kn Kr hh2 => q_backR (fun K Kf hk2 => ?_) hh2⟩
        · rcases w with w | ⟨w1, w2⟩
          · exact sg.1 h x w
          · omega
        · have t1 : Gc (B + 544 + 28) h = if h = hn then ib else Ga (B + 544 + 28) h := by rw [ec, gs_ne (by omega), eb, gs_eq, fu_at]
          have t2 : Gc (B + 544 + 29) h = if h = hn then Qc else Ga (B + 544 + 29) h := by rw [ec, gs_eq, fu_at, eb, gs_ne (by omega)]
          rw [t1, t2]
          by_cases e : h = hn
          · rw [if_pos e, if_pos e]
            exact Or.inr ⟨rfl, q, Or.inr ⟨e, rfl⟩, hQQ⟩
          · rw [if_neg e, if_neg e]
            rcases sgA.2 h h0 h1 with ⟨u1, u2⟩ | ⟨u1, x, u2, u3⟩
            · exact Or.inl ⟨u1, fun x w => w.elim (u2 x) (fun w => e w.1)⟩
            · exact Or.inr ⟨u1, x, Or.inl u2, u3⟩
        · have z' : Ga (B + 544 + 28) hn < 0 := by omega
          clear ih sg sgA hl cn cN ca cb la
          simp (disch := omega) only [↓wcX12_fitsAt_1.eq_1, ↓wsX12_fitsAt_1.eq_1, ↓(k_cv2 dX12_formAt (t12 hM)), ↓(k_cv4 dX12_areLike (t12 hM)), ↓k_mk, ↓k_sq, ↓k_sk, ↓k_bk, ↓k_if, ↓k_te, ↓k_cm, ↓k_cz, ↓k_an2, ↓k_or2, ↓k_no, ↓k_ci, ↓k_l0, ↓k_r0, ↓k_se0, ↓k_ic0, ↓k_l1, ↓k_r1, ↓k_se1, ↓k_ic1, ↓k_de1, ↓k_tk1, ↓k_l2, ↓k_r2, ↓k_se2, ↓k_ic2, ↓k_de2, ↓k_tk2, ↓k_l3, ↓k_r3, ↓k_se3, ↓k_ic3, ↓k_de3, ↓k_tk3, ↓k_l4, ↓k_r4, ↓k_se4, ↓k_ic4, ↓k_de4, ↓k_tk4, ↓k_l5, ↓k_r5, ↓k_se5, ↓k_ic5, ↓k_de5, ↓k_tk5, ↓k_l6, ↓k_r6, ↓k_se6, ↓k_ic6, ↓k_de6, ↓k_tk6, ↓k_l7, ↓k_r7, ↓k_se7, ↓k_ic7, ↓k_de7, ↓k_tk7, ↓k_l8, ↓k_r8, ↓k_se8, ↓k_ic8, ↓k_de8, ↓k_tk8, ↓k_l9, ↓k_r9, ↓k_se9, ↓k_ic9, ↓k_de9, ↓k_tk9, ↓k_l10, ↓k_r10, ↓k_se10, ↓k_ic10, ↓k_de10, ↓k_tk10, ↓k_l11, ↓k_r11, ↓k_se11, ↓k_ic11, ↓k_de11, ↓k_tk11, ↓k_l12, ↓k_r12, ↓k_se12, ↓k_ic12, ↓k_de12, ↓k_tk12, ↓k_l13, ↓k_r13, ↓k_se13, ↓k_ic13, ↓k_de13, ↓k_tk13, ↓k_l14, ↓k_r14, ↓k_se14, ↓k_ic14, ↓k_de14, ↓k_tk14, ↓k_l15, ↓k_r15, ↓k_se15, ↓k_ic15, ↓k_de15, ↓k_tk15, ↓k_l16, ↓k_r16, ↓k_se16, ↓k_ic16, ↓k_de16, ↓k_tk16, ↓k_l17, ↓k_r17, ↓k_se17, ↓k_ic17, ↓k_de17, ↓k_tk17, ↓k_l18, ↓k_r18, ↓k_se18, ↓k_ic18, ↓k_de18, ↓k_tk18, ↓k_l19, ↓k_r19, ↓k_se19, ↓k_ic19, ↓k_de19, ↓k_tk19, ↓k_l20, ↓k_r20, ↓k_se20, ↓k_ic20, ↓k_de20, ↓k_tk20, ↓k_l21, ↓k_r21, ↓k_se21, ↓k_ic21, ↓k_de21, ↓k_tk21, ↓k_l22, ↓k_r22, ↓k_se22, ↓k_ic22, ↓k_de22, ↓k_tk22, ↓k_l23, ↓k_r23, ↓k_se23, ↓k_ic23, ↓k_de23, ↓k_tk23, ↓k_l24, ↓k_r24, ↓k_se24, ↓k_ic24, ↓k_de24, ↓k_tk24, ↓k_l25, ↓k_r25, ↓k_se25, ↓k_ic25, ↓k_de25, ↓k_tk25, ↓k_k, ↓k_kn, ↓k_kl, ↓k_kln, ↓k_il, ↓k_2, ↓k_1, ↓k_2c, ↓k_2l, ↓k_ac, ↓k_an, ↓k_cs, ↓k_cv, ↓k_fi, ↓k_fr, ↓k_ai, ↓k_az, ↓k_ar, ↓k_saz, ↓k_soa, ↓k_spf, ↓k_sx, ↓k_blk, ↓k_sset, ↓k_sri, ↓k_srv, ↓k_srr, ↓k_nop, ↓k_add, ↓k_sub, ↓k_mul, ↓k_min, ↓k_max, ↓k_shr, ↓k_shl, ↓k_or, ↓k_ilz, ↓k_addl, ↓k_rt, ↓k_rb, ↓k_rbz, ↓k_rsi, ↓k_rsr, ↓k_rsv, ↓reduceIte, h114, hz, ↓s0, ↓s4, ↓s5, c1, c2, ↓s6, z', ↓sA, ↓sB, ↓xr12_29 hM, ↓xa12_29 hM, ↓xs12_29 hM, ↓xo12_29 hM, ↓xc12_29 hM, ↓xd12_29 hM, ↓xi12_114 hM, ↓xp12_114 hM, ↓xb12_114 hM, ↓xf12_114 hM, ↓xg12_114 hM, ↓xh12_114 hM, List.length_cons, List.length_nil, List.forall_mem_cons, List.not_mem_nil, Value.category, true_and, and_true, false_and, and_false, or_true, true_or, or_false, false_or, Nat.zero_le, forall_const, implies_true, false_implies, Nat.zero_add, Nat.reduceAdd, Nat.reduceLT, Nat.reduceLeDiff, Nat.le_refl, not_true_eq_false, not_false_eq_true, r_eq, r_ne, r_lt, r_ge, r_gt, r_le, bz_ne, nn_toNat, cn_of, cn_0, cn_1, i10, Int.reduceLE, Int.reduceLT, Int.reduceEq, bz_T, bz_F, ite_self, mulc, st_bud]
          exact hk2
      · have yb := (sg.1 hn y sy).2.2
        have iFa : IFm Ga B := IFm_congr (fun x q1 q2 _ _ => cha.1 x (by omega) (by omega) (by omega) (by omega) (by omega)) (fun x q1 q2 => cha.1 x (by omega) (by omega) (by omega) (by omega) (by omega)) hF
        have hb2 : ∀ x, b ≤ x → x < b + 10 → Ga x = G0 x := fun x q1 q2 => cha.1 x (by omega) (by omega) (by omega) (by omega) (by omega)
        have tba' : TOK Ga B gb ib v b := TOK_row hF (fun x q1 q2 => cha.1 x (by omega) (by omega) (by omega) (by omega) (by omega)) (fun x q1 q2 => hb2 x (by omega) (by omega)) (RowE_of fun x q4 q5 => cha.1 x (by omega) (by omega) (by omega) (by omega) (by omega)) tb
        obtain ⟨w, hw, cL⟩ := c12_likeP (T := T) (nx := nx) (rc := 0) (rs := 0) (R := R) (G := Ga) (x := y) (y := q) hM iFa tba' ib0 ib1 yb.1 (by rw [hb2 _ (by omega) (by omega)]; exact yb.2) q0 (by rw [hb2 _ (by omega) (by omega)]; exact q1) (by rw [hb2 _ (by omega) (by omega), hb2 _ (by omega) (by omega)]; exact cb)
        rw [hb2 (b + 1) (by omega) (by omega), hb2 (b + 2) (by omega) (by omega)] at hw
        rw [hb2 (b + 1) (by omega) (by omega), hb2 (b + 6) (by omega) (by omega), ← hQQ] at cL
        have cL' : ∀ K : Option Value → q_M → Prop, fX12_areLike [.ref (B + 544), .int (zI ib), .int (zI (Ga (B + 544 + 29) hn)), .int (zI ib), .int (zI Qc)] (st T nx 0 0 R Ga) K = K (some (.int (zI w))) (st T nx 0 0 R Ga) := by rw [hy]; exact cL
        have co := Con_old (x0 := q) cn sy
        have coe : Con (G0 (b + 1)) (G0 (b + 2)) (SU S (hlM (G0 (tvA B v + 5)) (G0 (a + 1)) (G0 (a + 2)) (G0 (b + 1)) (G0 (b + 2)) (k + 1) p q)) ↔ Seg (G0 (b + 1)) (G0 (b + 2)) (G0 (b + 1)) (G0 (b + 2)) y q := by
          rw [← co]
          exact ⟨Con_sub (fun h x w => (hl h x).mpr w), Con_sub (fun h x w => (hl h x).mp w)⟩
        have z' : ¬ Ga (B + 544 + 28) hn < 0 := by omega
        rcases hw with ⟨r1, sm⟩ | ⟨r1, sm⟩
        · subst r1
          refine Or.inl ⟨ok, coe.mpr sm, Ga, cha, fun j _ => by rw [oa _ (by omega), oa _ (by omega)]; exact ⟨rfl, rfl⟩, a114, SGr_congr (fun h x => (hl h x).symm) ⟨fun h x w => ?_, fun h h0 h1 => ?_⟩, fun Kn Kr hh2 => q_backR (fun K Kf hk2 => ?_) hh2⟩
          · rcases w with w | ⟨w1, w2⟩
            · exact sg.1 h x w
            · omega
          · rcases sgA.2 h h0 h1 with ⟨u1, u2⟩ | ⟨u1, x, u2, u3⟩
            · refine Or.inl ⟨u1, fun x w => ?_⟩
              rcases w with w | ⟨w1, _⟩
              · exact u2 x w
              · rw [w1] at u1
                omega
            · exact Or.inr ⟨u1, x, Or.inl u2, u3⟩
          · clear ih sg sgA hl cn ca cb la co coe tba' iFa
            simp (disch := omega) only [↓wcX12_fitsAt_1.eq_1, ↓wsX12_fitsAt_1.eq_1, ↓(k_cv2 dX12_formAt (t12 hM)), ↓(k_cv4 dX12_areLike (t12 hM)), ↓k_mk, ↓k_sq, ↓k_sk, ↓k_bk, ↓k_if, ↓k_te, ↓k_cm, ↓k_cz, ↓k_an2, ↓k_or2, ↓k_no, ↓k_ci, ↓k_l0, ↓k_r0, ↓k_se0, ↓k_ic0, ↓k_l1, ↓k_r1, ↓k_se1, ↓k_ic1, ↓k_de1, ↓k_tk1, ↓k_l2, ↓k_r2, ↓k_se2, ↓k_ic2, ↓k_de2, ↓k_tk2, ↓k_l3, ↓k_r3, ↓k_se3, ↓k_ic3, ↓k_de3, ↓k_tk3, ↓k_l4, ↓k_r4, ↓k_se4, ↓k_ic4, ↓k_de4, ↓k_tk4, ↓k_l5, ↓k_r5, ↓k_se5, ↓k_ic5, ↓k_de5, ↓k_tk5, ↓k_l6, ↓k_r6, ↓k_se6, ↓k_ic6, ↓k_de6, ↓k_tk6, ↓k_l7, ↓k_r7, ↓k_se7, ↓k_ic7, ↓k_de7, ↓k_tk7, ↓k_l8, ↓k_r8, ↓k_se8, ↓k_ic8, ↓k_de8, ↓k_tk8, ↓k_l9, ↓k_r9, ↓k_se9, ↓k_ic9, ↓k_de9, ↓k_tk9, ↓k_l10, ↓k_r10, ↓k_se10, ↓k_ic10, ↓k_de10, ↓k_tk10, ↓k_l11, ↓k_r11, ↓k_se11, ↓k_ic11, ↓k_de11, ↓k_tk11, ↓k_l12, ↓k_r12, ↓k_se12, ↓k_ic12, ↓k_de12, ↓k_tk12, ↓k_l13, ↓k_r13, ↓k_se13, ↓k_ic13, ↓k_de13, ↓k_tk13, ↓k_l14, ↓k_r14, ↓k_se14, ↓k_ic14, ↓k_de14, ↓k_tk14, ↓k_l15, ↓k_r15, ↓k_se15, ↓k_ic15, ↓k_de15, ↓k_tk15, ↓k_l16, ↓k_r16, ↓k_se16, ↓k_ic16, ↓k_de16, ↓k_tk16, ↓k_l17, ↓k_r17, ↓k_se17, ↓k_ic17, ↓k_de17, ↓k_tk17, ↓k_l18, ↓k_r18, ↓k_se18, ↓k_ic18, ↓k_de18, ↓k_tk18, ↓k_l19, ↓k_r19, ↓k_se19, ↓k_ic19, ↓k_de19, ↓k_tk19, ↓k_l20, ↓k_r20, ↓k_se20, ↓k_ic20, ↓k_de20, ↓k_tk20, ↓k_l21, ↓k_r21, ↓k_se21, ↓k_ic21, ↓k_de21, ↓k_tk21, ↓k_l22, ↓k_r22, ↓k_se22, ↓k_ic22, ↓k_de22, ↓k_tk22, ↓k_l23, ↓k_r23, ↓k_se23, ↓k_ic23, ↓k_de23, ↓k_tk23, ↓k_l24, ↓k_r24, ↓k_se24, ↓k_ic24, ↓k_de24, ↓k_tk24, ↓k_l25, ↓k_r25, ↓k_se25, ↓k_ic25, ↓k_de25, ↓k_tk25, ↓k_k, ↓k_kn, ↓k_kl, ↓k_kln, ↓k_il, ↓k_2, ↓k_1, ↓k_2c, ↓k_2l, ↓k_ac, ↓k_an, ↓k_cs, ↓k_cv, ↓k_fi, ↓k_fr, ↓k_ai, ↓k_az, ↓k_ar, ↓k_sai, ↓k_saz, ↓k_soa, ↓k_spf, ↓k_sx, ↓k_blk, ↓k_sset, ↓k_sri, ↓k_srv, ↓k_srr, ↓k_nop, ↓k_add, ↓k_sub, ↓k_mul, ↓k_min, ↓k_max, ↓k_shr, ↓k_shl, ↓k_or, ↓k_ilz, ↓k_addl, ↓k_rt, ↓k_rb, ↓k_rbz, ↓k_rsi, ↓k_rsr, ↓k_rsv, ↓reduceIte, h114, hz, ↓s0, ↓s4, ↓s5, c1, c2, ↓s6, z', ↓(k_cv4 dX12_areLike (t12 hM)), ↓cL', ↓xr12_29 hM, ↓xa12_29 hM, ↓xs12_29 hM, ↓xo12_29 hM, ↓xc12_29 hM, ↓xd12_29 hM, ↓xr12_30 hM, ↓xa12_30 hM, ↓xs12_30 hM, ↓xo12_30 hM, ↓xc12_30 hM, ↓xd12_30 hM, ↓xi12_114 hM, ↓xp12_114 hM, ↓xb12_114 hM, ↓xf12_114 hM, ↓xg12_114 hM, ↓xh12_114 hM, List.length_cons, List.length_nil, List.forall_mem_cons, List.not_mem_nil, Value.category, true_and, and_true, false_and, and_false, or_true, true_or, or_false, false_or, Nat.zero_le, forall_const, implies_true, false_implies, Nat.zero_add, Nat.reduceAdd, Nat.reduceLT, Nat.reduceLeDiff, Nat.le_refl, not_true_eq_false, not_false_eq_true, r_eq, r_ne, r_lt, r_ge, r_gt, r_le, bz_ne, nn_toNat, cn_of, cn_0, cn_1, i10, Int.reduceLE, Int.reduceLT, Int.reduceEq, bz_T, bz_F, ite_self, mulc, st_bud]
            exact hk2
        · subst r1
          refine Or.inr ⟨fun u => sm (coe.mp u.2), Ga, ⟨fun x _ _ _ _ w => oa x w, oj⟩, fun Kn Kr hh2 => q_rtn1 (fun K Kf => ?_)⟩
          clear ih sg sgA hl cn ca cb la co coe tba' iFa
          simp (disch := omega) only [↓wcX12_fitsAt_1.eq_1, ↓wsX12_fitsAt_1.eq_1, ↓(k_cv2 dX12_formAt (t12 hM)), ↓(k_cv4 dX12_areLike (t12 hM)), ↓k_mk, ↓k_sq, ↓k_sk, ↓k_bk, ↓k_if, ↓k_te, ↓k_cm, ↓k_cz, ↓k_an2, ↓k_or2, ↓k_no, ↓k_ci, ↓k_l0, ↓k_r0, ↓k_se0, ↓k_ic0, ↓k_l1, ↓k_r1, ↓k_se1, ↓k_ic1, ↓k_de1, ↓k_tk1, ↓k_l2, ↓k_r2, ↓k_se2, ↓k_ic2, ↓k_de2, ↓k_tk2, ↓k_l3, ↓k_r3, ↓k_se3, ↓k_ic3, ↓k_de3, ↓k_tk3, ↓k_l4, ↓k_r4, ↓k_se4, ↓k_ic4, ↓k_de4, ↓k_tk4, ↓k_l5, ↓k_r5, ↓k_se5, ↓k_ic5, ↓k_de5, ↓k_tk5, ↓k_l6, ↓k_r6, ↓k_se6, ↓k_ic6, ↓k_de6, ↓k_tk6, ↓k_l7, ↓k_r7, ↓k_se7, ↓k_ic7, ↓k_de7, ↓k_tk7, ↓k_l8, ↓k_r8, ↓k_se8, ↓k_ic8, ↓k_de8, ↓k_tk8, ↓k_l9, ↓k_r9, ↓k_se9, ↓k_ic9, ↓k_de9, ↓k_tk9, ↓k_l10, ↓k_r10, ↓k_se10, ↓k_ic10, ↓k_de10, ↓k_tk10, ↓k_l11, ↓k_r11, ↓k_se11, ↓k_ic11, ↓k_de11, ↓k_tk11, ↓k_l12, ↓k_r12, ↓k_se12, ↓k_ic12, ↓k_de12, ↓k_tk12, ↓k_l13, ↓k_r13, ↓k_se13, ↓k_ic13, ↓k_de13, ↓k_tk13, ↓k_l14, ↓k_r14, ↓k_se14, ↓k_ic14, ↓k_de14, ↓k_tk14, ↓k_l15, ↓k_r15, ↓k_se15, ↓k_ic15, ↓k_de15, ↓k_tk15, ↓k_l16, ↓k_r16, ↓k_se16, ↓k_ic16, ↓k_de16, ↓k_tk16, ↓k_l17, ↓k_r17, ↓k_se17, ↓k_ic17, ↓k_de17, ↓k_tk17, ↓k_l18, ↓k_r18, ↓k_se18, ↓k_ic18, ↓k_de18, ↓k_tk18, ↓k_l19, ↓k_r19, ↓k_se19, ↓k_ic19, ↓k_de19, ↓k_tk19, ↓k_l20, ↓k_r20, ↓k_se20, ↓k_ic20, ↓k_de20, ↓k_tk20, ↓k_l21, ↓k_r21, ↓k_se21, ↓k_ic21, ↓k_de21, ↓k_tk21, ↓k_l22, ↓k_r22, ↓k_se22, ↓k_ic22, ↓k_de22, ↓k_tk22, ↓k_l23, ↓k_r23, ↓k_se23, ↓k_ic23, ↓k_de23, ↓k_tk23, ↓k_l24, ↓k_r24, ↓k_se24, ↓k_ic24, ↓k_de24, ↓k_tk24, ↓k_l25, ↓k_r25, ↓k_se25, ↓k_ic25, ↓k_de25, ↓k_tk25, ↓k_k, ↓k_kn, ↓k_kl, ↓k_kln, ↓k_il, ↓k_2, ↓k_1, ↓k_2c, ↓k_2l, ↓k_ac, ↓k_an, ↓k_cs, ↓k_cv, ↓k_fi, ↓k_fr, ↓k_ai, ↓k_az, ↓k_ar, ↓k_sai, ↓k_saz, ↓k_soa, ↓k_spf, ↓k_sx, ↓k_blk, ↓k_sset, ↓k_sri, ↓k_srv, ↓k_srr, ↓k_nop, ↓k_add, ↓k_sub, ↓k_mul, ↓k_min, ↓k_max, ↓k_shr, ↓k_shl, ↓k_or, ↓k_ilz, ↓k_addl, ↓k_rt, ↓k_rb, ↓k_rbz, ↓k_rsi, ↓k_rsr, ↓k_rsv, ↓reduceIte, h114, hz, ↓s0, ↓s4, ↓s5, c1, c2, ↓s6, z', ↓(k_cv4 dX12_areLike (t12 hM)), ↓cL', ↓xr12_29 hM, ↓xa12_29 hM, ↓xs12_29 hM, ↓xo12_29 hM, ↓xc12_29 hM, ↓xd12_29 hM, ↓xr12_30 hM, ↓xa12_30 hM, ↓xs12_30 hM, ↓xo12_30 hM, ↓xc12_30 hM, ↓xd12_30 hM, ↓xi12_114 hM, ↓xp12_114 hM, ↓xb12_114 hM, ↓xf12_114 hM, ↓xg12_114 hM, ↓xh12_114 hM, List.length_cons, List.length_nil, List.forall_mem_cons, List.not_mem_nil, Value.category, true_and, and_true, false_and, and_false, or_true, true_or, or_false, false_or, Nat.zero_le, forall_const, implies_true, false_implies, Nat.zero_add, Nat.reduceAdd, Nat.reduceLT, Nat.reduceLeDiff, Nat.le_refl, not_true_eq_false, not_false_eq_true, r_eq, r_ne, r_lt, r_ge, r_gt, r_le, bz_ne, nn_toNat, cn_of, cn_0, cn_1, i10, Int.reduceLE, Int.reduceLT, Int.reduceEq, bz_T, bz_F, ite_self, mulc, st_bud]
          exact hh2
    · have nhP : ¬ (200 ≤ P ∧ P < 1000) := by
        rw [hPP]
        unfold pc
        unfold isHo at ho
        by_cases l : 1000 ≤ G0 (a + 1) p
        · rw [if_pos l]
          have := Tr_n kA p0 p1 l
          omega
        · rw [if_neg l]
          exact ho
      by_cases l : 1000 ≤ G0 (a + 1) p
      · have nP := Tr_n kA p0 p1 l
        have eP : P = 1000 + G0 (a + 6) p := by rw [hPP]; exact if_pos l
        by_cases lq : 1000 ≤ G0 (b + 1) q
        · have nQ := Tr_n kB q0 q1 lq
          have eQ : Qc = 1000 + G0 (b + 6) q := by rw [hQQ]; exact if_pos lq
          obtain ⟨f1, N1, ef, f0, f14, eN, N1', N5, rp, hf1, hNn, hC, _, hns, hend, hch⟩ := nodeF hF ta p0 p1 l
          obtain ⟨f2, N2, ef2, f20, f24, _, _, _, rq, hf2, _, _, _, hns2, hend2, hch2⟩ := nodeF hF tb q0 q1 lq
          have nb5 := nsl_b (fun k => G0 (tvA B v + 4) (5 * f1 + k)) N1.toNat
          rw [← hns] at nb5
          have cF1 := fun (K : Option Value → q_M → Prop) => c12_formAtV (T := T) (nx := nx) (rc := 0) (rs := 0) (R := R) (G := Ga) (i := ia) (n := G0 (a + 6) p) (v := v) (f := f1) (K := K) hM ia0 ia1 rp.1 rp.2 (by rw [cha.1 _ (by omega) (by omega) (by omega) (by omega) (by omega)]; exact ta.2.1) (by rw [cha.1 _ (by omega) (by omega) (by omega) (by omega) (by omega)]; exact hf1)
          have cF2 := fun (K : Option Value → q_M → Prop) => c12_formAtV (T := T) (nx := nx) (rc := 0) (rs := 0) (R := R) (G := Ga) (i := ib) (n := G0 (b + 6) q) (v := v) (f := f2) (K := K) hM ib0 (by omega) rq.1 rq.2 (by rw [cha.1 _ (by omega) (by omega) (by omega) (by omega) (by omega)]; exact tb.2.1) (by rw [cha.1 _ (by omega) (by omega) (by omega) (by omega) (by omega)]; exact hf2)
          obtain ⟨x0, hx0⟩ : ∃ x0, x0 = G0 (a + 6) p := ⟨_, rfl⟩
          obtain ⟨y0, hy0⟩ : ∃ y0, y0 = G0 (b + 6) q := ⟨_, rfl⟩
          rw [← hx0] at eP rp
          rw [← hy0] at eQ rq
          simp only [← hx0] at cF1
          simp only [← hy0] at cF2
          have cF1' : ∀ K : Option Value → q_M → Prop, fX12_formAt [.ref (B + 544), .int (zI ia), .int (zI (P - 1000))] (st T nx 0 0 R Ga) K = K (some (.int (zI (14 * v + f1)))) (st T nx 0 0 R Ga) := by rw [show P - 1000 = x0 by omega]; exact cF1
          have cF2' : ∀ K : Option Value → q_M → Prop, fX12_formAt [.ref (B + 544), .int (zI ib), .int (zI (Qc - 1000))] (st T nx 0 0 R Ga) K = K (some (.int (zI (14 * v + f2)))) (st T nx 0 0 R Ga) := by rw [show Qc - 1000 = y0 by omega]; exact cF2
          have c1 : 200 ≤ P := by omega
          have c2 : ¬ P < 1000 := by omega
          have c3 : ¬ Qc < 1000 := by omega
          have s6 : ∀ (Kn : List Value → q_M → Prop) (Kr : Option Value → q_M → Prop), q_sdec Value.int 6 (q_cv q_oi 12 2 0 0 fX12_formAt (q_r 0) (q_ac Value.int (q_l 1) (q_ac Value.int (q_2 q_gisub (q_l 4) (q_k 1000)) q_an))) [.ref (B + 544), .int (zI ia), .int (zI ib), .int (zI n0), .int (zI P), .int (zI Qc)] (st T nx 0 0 R Ga) Kn Kr = Kn [.ref (B + 544), .int (zI ia), .int (zI ib), .int (zI n0), .int (zI P), .int (zI Qc), .int (zI (14 * v + f1))] (st T nx 0 0 R Ga) := by
            intro Kn Kr
            simp (disch := omega) only [↓k_mk, ↓k_sq, ↓k_sk, ↓k_bk, ↓k_if, ↓k_te, ↓k_cm, ↓k_cz, ↓k_an2, ↓k_or2, ↓k_no, ↓k_ci, ↓k_l0, ↓k_r0, ↓k_se0, ↓k_ic0, ↓k_l1, ↓k_r1, ↓k_se1, ↓k_ic1, ↓k_de1, ↓k_tk1, ↓k_l2, ↓k_r2, ↓k_se2, ↓k_ic2, ↓k_de2, ↓k_tk2, ↓k_l3, ↓k_r3, ↓k_se3, ↓k_ic3, ↓k_de3, ↓k_tk3, ↓k_l4, ↓k_r4, ↓k_se4, ↓k_ic4, ↓k_de4, ↓k_tk4, ↓k_l5, ↓k_r5, ↓k_se5, ↓k_ic5, ↓k_de5, ↓k_tk5, ↓k_l6, ↓k_r6, ↓k_se6, ↓k_ic6, ↓k_de6, ↓k_tk6, ↓k_l7, ↓k_r7, ↓k_se7, ↓k_ic7, ↓k_de7, ↓k_tk7, ↓k_l8, ↓k_r8, ↓k_se8, ↓k_ic8, ↓k_de8, ↓k_tk8, ↓k_l9, ↓k_r9, ↓k_se9, ↓k_ic9, ↓k_de9, ↓k_tk9, ↓k_l10, ↓k_r10, ↓k_se10, ↓k_ic10, ↓k_de10, ↓k_tk10, ↓k_l11, ↓k_r11, ↓k_se11, ↓k_ic11, ↓k_de11, ↓k_tk11, ↓k_l12, ↓k_r12, ↓k_se12, ↓k_ic12, ↓k_de12, ↓k_tk12, ↓k_l13, ↓k_r13, ↓k_se13, ↓k_ic13, ↓k_de13, ↓k_tk13, ↓k_l14, ↓k_r14, ↓k_se14, ↓k_ic14, ↓k_de14, ↓k_tk14, ↓k_l15, ↓k_r15, ↓k_se15, ↓k_ic15, ↓k_de15, ↓k_tk15, ↓k_l16, ↓k_r16, ↓k_se16, ↓k_ic16, ↓k_de16, ↓k_tk16, ↓k_l17, ↓k_r17, ↓k_se17, ↓k_ic17, ↓k_de17, ↓k_tk17, ↓k_l18, ↓k_r18, ↓k_se18, ↓k_ic18, ↓k_de18, ↓k_tk18, ↓k_l19, ↓k_r19, ↓k_se19, ↓k_ic19, ↓k_de19, ↓k_tk19, ↓k_l20, ↓k_r20, ↓k_se20, ↓k_ic20, ↓k_de20, ↓k_tk20, ↓k_l21, ↓k_r21, ↓k_se21, ↓k_ic21, ↓k_de21, ↓k_tk21, ↓k_l22, ↓k_r22, ↓k_se22, ↓k_ic22, ↓k_de22, ↓k_tk22, ↓k_l23, ↓k_r23, ↓k_se23, ↓k_ic23, ↓k_de23, ↓k_tk23, ↓k_l24, ↓k_r24, ↓k_se24, ↓k_ic24, ↓k_de24, ↓k_tk24, ↓k_l25, ↓k_r25, ↓k_se25, ↓k_ic25, ↓k_de25, ↓k_tk25, ↓k_k, ↓k_kn, ↓k_kl, ↓k_kln, ↓k_il, ↓k_2, ↓k_1, ↓k_2c, ↓k_2l, ↓k_ac, ↓k_an, ↓k_cs, ↓k_cv, ↓k_fi, ↓k_fr, ↓k_ai, ↓k_az, ↓k_ar, ↓k_sai, ↓k_saz, ↓k_soa, ↓k_sof, ↓k_spf, ↓k_sx, ↓k_blk, ↓k_sset, ↓k_sdec, ↓k_sri, ↓k_srv, ↓k_srr, ↓k_nop, ↓k_add, ↓k_sub, ↓k_mul, ↓k_min, ↓k_max, ↓k_shr, ↓k_shl, ↓k_or, ↓k_ilz, ↓k_addl, ↓k_rt, ↓k_rb, ↓k_rbz, ↓k_rsi, ↓k_rsr, ↓k_rsv, ↓reduceIte, ↓(k_cv2 dX12_formAt (t12 hM)), ↓cF1', List.length_cons, List.length_nil, List.forall_mem_cons, List.not_mem_nil, Value.category, true_and, and_true, false_and, and_false, or_true, true_or, or_false, false_or, Nat.zero_le, forall_const, implies_true, false_implies, Nat.zero_add, Nat.reduceAdd, Nat.reduceLT, Nat.reduceLeDiff, Nat.le_refl, not_true_eq_false, not_false_eq_true, r_eq, r_ne, r_lt, r_ge, r_gt, r_le, bz_ne, nn_toNat, cn_of, cn_0, cn_1, i10, Int.reduceLE, Int.reduceLT, Int.reduceEq, bz_T, bz_F, ite_self, mulc, st_bud]
          by_cases z : f1 = f2
          · have ecq : G0 (b + 1) q = G0 (a + 1) p := by omega
            obtain ⟨N, hN⟩ : ∃ N, N = G0 (tvA B v + 5) f1 := ⟨_, rfl⟩
            rw [← hN] at nb5 hend hch
            rw [← z, ← hN] at hend2 hch2
            obtain ⟨Gb, m1, m2, m3, m4, m5, m6, lw⟩ := r_push (T := T) (nx := nx) (R := R) (n0 := n0) (f := 14 * v + f1) (G := Ga) (W := W) hM ia0 ia1 ib0 ib1 hF ta tb ca cb la hab p0 p1 q0 q1 l ecq (by rw [ef]) N (by rw [hN, ef]) W0 (by omega) cha a114
            have lw' : ∀ (Kn : List Value → q_M → Prop) (Kr : Option Value → q_M → Prop), wX12_fitsAt_2 [.ref (B + 544), .int (zI ia), .int (zI ib), .int (zI n0), .int (zI P), .int (zI Qc), .int (zI (14 * v + f1)), .int (zI 0)] (st T nx 0 0 R Ga) Kn Kr = Kn [.ref (B + 544), .int (zI ia), .int (zI ib), .int (zI n0), .int (zI P), .int (zI Qc), .int (zI (14 * v + f1)), .int (zI N)] (st T nx 0 0 R Gb) := by rw [eP, eQ, hx0, hy0]; exact lw
            have chb := MCh_tr cha m1
            have sgB : SGr Gb B ib (G0 b 2) (pc (G0 (b + 1)) (G0 (b + 6))) S := by
              refine ⟨sg.1, fun h h0 h1 => ?_⟩
              rw [m5, m6]
              exact sgA.2 h h0 h1
            have s7 : ∀ (Kn : List Value → q_M → Prop) (Kr : Option Value → q_M → Prop), q_sdec Value.int 7 (q_k 0) [.ref (B + 544), .int (zI ia), .int (zI ib), .int (zI n0), .int (zI P), .int (zI Qc), .int (zI (14 * v + f1))] (st T nx 0 0 R Ga) Kn Kr = Kn [.ref (B + 544), .int (zI ia), .int (zI ib), .int (zI n0), .int (zI P), .int (zI Qc), .int (zI (14 * v + f1)), .int (zI 0)] (st T nx 0 0 R Ga) := by
              intro Kn Kr
              simp (disch := omega) only [↓k_mk, ↓k_sq, ↓k_sk, ↓k_bk, ↓k_if, ↓k_te, ↓k_cm, ↓k_cz, ↓k_an2, ↓k_or2, ↓k_no, ↓k_ci, ↓k_l0, ↓k_r0, ↓k_se0, ↓k_ic0, ↓k_l1, ↓k_r1, ↓k_se1, ↓k_ic1, ↓k_de1, ↓k_tk1, ↓k_l2, ↓k_r2, ↓k_se2, ↓k_ic2, ↓k_de2, ↓k_tk2, ↓k_l3, ↓k_r3, ↓k_se3, ↓k_ic3, ↓k_de3, ↓k_tk3, ↓k_l4, ↓k_r4, ↓k_se4, ↓k_ic4, ↓k_de4, ↓k_tk4, ↓k_l5, ↓k_r5, ↓k_se5, ↓k_ic5, ↓k_de5, ↓k_tk5, ↓k_l6, ↓k_r6, ↓k_se6, ↓k_ic6, ↓k_de6, ↓k_tk6, ↓k_l7, ↓k_r7, ↓k_se7, ↓k_ic7, ↓k_de7, ↓k_tk7, ↓k_l8, ↓k_r8, ↓k_se8, ↓k_ic8, ↓k_de8, ↓k_tk8, ↓k_l9, ↓k_r9, ↓k_se9, ↓k_ic9, ↓k_de9, ↓k_tk9, ↓k_l10, ↓k_r10, ↓k_se10, ↓k_ic10, ↓k_de10, ↓k_tk10, ↓k_l11, ↓k_r11, ↓k_se11, ↓k_ic11, ↓k_de11, ↓k_tk11, ↓k_l12, ↓k_r12, ↓k_se12, ↓k_ic12, ↓k_de12, ↓k_tk12, ↓k_l13, ↓k_r13, ↓k_se13, ↓k_ic13, ↓k_de13, ↓k_tk13, ↓k_l14, ↓k_r14, ↓k_se14, ↓k_ic14, ↓k_de14, ↓k_tk14, ↓k_l15, ↓k_r15, ↓k_se15, ↓k_ic15, ↓k_de15, ↓k_tk15, ↓k_l16, ↓k_r16, ↓k_se16, ↓k_ic16, ↓k_de16, ↓k_tk16, ↓k_l17, ↓k_r17, ↓k_se17, ↓k_ic17, ↓k_de17, ↓k_tk17, ↓k_l18, ↓k_r18, ↓k_se18, ↓k_ic18, ↓k_de18, ↓k_tk18, ↓k_l19, ↓k_r19, ↓k_se19, ↓k_ic19, ↓k_de19, ↓k_tk19, ↓k_l20, ↓k_r20, ↓k_se20, ↓k_ic20, ↓k_de20, ↓k_tk20, ↓k_l21, ↓k_r21, ↓k_se21, ↓k_ic21, ↓k_de21, ↓k_tk21, ↓k_l22, ↓k_r22, ↓k_se22, ↓k_ic22, ↓k_de22, ↓k_tk22, ↓k_l23, ↓k_r23, ↓k_se23, ↓k_ic23, ↓k_de23, ↓k_tk23, ↓k_l24, ↓k_r24, ↓k_se24, ↓k_ic24, ↓k_de24, ↓k_tk24, ↓k_l25, ↓k_r25, ↓k_se25, ↓k_ic25, ↓k_de25, ↓k_tk25, ↓k_k, ↓k_kn, ↓k_kl, ↓k_kln, ↓k_il, ↓k_2, ↓k_1, ↓k_2c, ↓k_2l, ↓k_ac, ↓k_an, ↓k_cs, ↓k_cv, ↓k_fi, ↓k_fr, ↓k_ai, ↓k_az, ↓k_ar, ↓k_sai, ↓k_saz, ↓k_soa, ↓k_sof, ↓k_spf, ↓k_sx, ↓k_blk, ↓k_sset, ↓k_sdec, ↓k_sri, ↓k_srv, ↓k_srr, ↓k_nop, ↓k_add, ↓k_sub, ↓k_mul, ↓k_min, ↓k_max, ↓k_shr, ↓k_shl, ↓k_or, ↓k_ilz, ↓k_addl, ↓k_rt, ↓k_rb, ↓k_rbz, ↓k_rsi, ↓k_rsr, ↓k_rsv, ↓reduceIte, eq_self, List.length_cons, List.length_nil, List.forall_mem_cons, List.not_mem_nil, Value.category, true_and, and_true, false_and, and_false, or_true, true_or, or_false, false_or, Nat.zero_le, forall_const, implies_true, false_implies, Nat.zero_add, Nat.reduceAdd, Nat.reduceLT, Nat.reduceLeDiff, Nat.le_refl, not_true_eq_false, not_false_eq_true, r_eq, r_ne, r_lt, r_ge, r_gt, r_le, bz_ne, nn_toNat, cn_of, cn_0, cn_1, i10, Int.reduceLE, Int.reduceLT, Int.reduceEq, bz_T, bz_F, ite_self, mulc, st_bud]
            have stp : RSt T nx R B ia ib n0 G Gb := fun Kn Kr hh2 => q_backR (fun K Kf hk2 => by
              have z' : 14 * v + f1 = 14 * v + f2 := by omega
              have fb1 : f1 < 14 := f14
              have cf2 : ∀ K : Option Value → q_M → Prop, fX12_formAt [.ref (B + 544), .int (zI ib), .int (zI (Qc - 1000))] (st T nx 0 0 R Ga) K = K (some (.int (zI (14 * v + f1)))) (st T nx 0 0 R Ga) := by rw [z']; exact cF2'
              clear ih sg sgA sgB cn ca cb la hch hch2 hC cF2' cF2 cF1 cF1' m4 lw
              simp (disch := omega) only [↓wcX12_fitsAt_1.eq_1, ↓wsX12_fitsAt_1.eq_1, ↓(k_cv2 dX12_formAt (t12 hM)), ↓(k_cv4 dX12_areLike (t12 hM)), ↓k_mk, ↓k_sq, ↓k_sk, ↓k_bk, ↓k_if, ↓k_te, ↓k_cm, ↓k_cz, ↓k_an2, ↓k_or2, ↓k_no, ↓k_ci, ↓k_l0, ↓k_r0, ↓k_se0, ↓k_ic0, ↓k_l1, ↓k_r1, ↓k_se1, ↓k_ic1, ↓k_de1, ↓k_tk1, ↓k_l2, ↓k_r2, ↓k_se2, ↓k_ic2, ↓k_de2, ↓k_tk2, ↓k_l3, ↓k_r3, ↓k_se3, ↓k_ic3, ↓k_de3, ↓k_tk3, ↓k_l4, ↓k_r4, ↓k_se4, ↓k_ic4, ↓k_de4, ↓k_tk4, ↓k_l5, ↓k_r5, ↓k_se5, ↓k_ic5, ↓k_de5, ↓k_tk5, ↓k_l6, ↓k_r6, ↓k_se6, ↓k_ic6, ↓k_de6, ↓k_tk6, ↓k_l7, ↓k_r7, ↓k_se7, ↓k_ic7, ↓k_de7, ↓k_tk7, ↓k_l8, ↓k_r8, ↓k_se8, ↓k_ic8, ↓k_de8, ↓k_tk8, ↓k_l9, ↓k_r9, ↓k_se9, ↓k_ic9, ↓k_de9, ↓k_tk9, ↓k_l10, ↓k_r10, ↓k_se10, ↓k_ic10, ↓k_de10, ↓k_tk10, ↓k_l11, ↓k_r11, ↓k_se11, ↓k_ic11, ↓k_de11, ↓k_tk11, ↓k_l12, ↓k_r12, ↓k_se12, ↓k_ic12, ↓k_de12, ↓k_tk12, ↓k_l13, ↓k_r13, ↓k_se13, ↓k_ic13, ↓k_de13, ↓k_tk13, ↓k_l14, ↓k_r14, ↓k_se14, ↓k_ic14, ↓k_de14, ↓k_tk14, ↓k_l15, ↓k_r15, ↓k_se15, ↓k_ic15, ↓k_de15, ↓k_tk15, ↓k_l16, ↓k_r16, ↓k_se16, ↓k_ic16, ↓k_de16, ↓k_tk16, ↓k_l17, ↓k_r17, ↓k_se17, ↓k_ic17, ↓k_de17, ↓k_tk17, ↓k_l18, ↓k_r18, ↓k_se18, ↓k_ic18, ↓k_de18, ↓k_tk18, ↓k_l19, ↓k_r19, ↓k_se19, ↓k_ic19, ↓k_de19, ↓k_tk19, ↓k_l20, ↓k_r20, ↓k_se20, ↓k_ic20, ↓k_de20, ↓k_tk20, ↓k_l21, ↓k_r21, ↓k_se21, ↓k_ic21, ↓k_de21, ↓k_tk21, ↓k_l22, ↓k_r22, ↓k_se22, ↓k_ic22, ↓k_de22, ↓k_tk22, ↓k_l23, ↓k_r23, ↓k_se23, ↓k_ic23, ↓k_de23, ↓k_tk23, ↓k_l24, ↓k_r24, ↓k_se24, ↓k_ic24, ↓k_de24, ↓k_tk24, ↓k_l25, ↓k_r25, ↓k_se25, ↓k_ic25, ↓k_de25, ↓k_tk25, ↓k_k, ↓k_kn, ↓k_kl, ↓k_kln, ↓k_il, ↓k_2, ↓k_1, ↓k_2c, ↓k_2l, ↓k_ac, ↓k_an, ↓k_cs, ↓k_cv, ↓k_fi, ↓k_fr, ↓k_ai, ↓k_az, ↓k_ar, ↓k_sai, ↓k_saz, ↓k_soa, ↓k_spf, ↓k_sx, ↓k_blk, ↓k_sset, ↓k_sri, ↓k_srv, ↓k_srr, ↓k_nop, ↓k_add, ↓k_sub, ↓k_mul, ↓k_min, ↓k_max, ↓k_shr, ↓k_shl, ↓k_or, ↓k_ilz, ↓k_addl, ↓k_rt, ↓k_rb, ↓k_rbz, ↓k_rsi, ↓k_rsr, ↓k_rsv, ↓reduceIte, h114, hz, ↓s0, ↓s4, ↓s5, c1, c2, c3, ↓s6, ↓(k_cv2 dX12_formAt (t12 hM)), ↓cf2, eq_self, ↓s7, ↓lw', ↓xi12_114 hM, ↓xp12_114 hM, ↓xb12_114 hM, ↓xf12_114 hM, ↓xg12_114 hM, ↓xh12_114 hM, List.length_cons, List.length_nil, List.forall_mem_cons, List.not_mem_nil, Value.category, true_and, and_true, false_and, and_false, or_true, true_or, or_false, false_or, Nat.zero_le, forall_const, implies_true, false_implies, Nat.zero_add, Nat.reduceAdd, Nat.reduceLT, Nat.reduceLeDiff, Nat.le_refl, not_true_eq_false, not_false_eq_true, r_eq, r_ne, r_lt, r_ge, r_gt, r_le, bz_ne, nn_toNat, cn_of, cn_0, cn_1, i10, Int.reduceLE, Int.reduceLT, Int.reduceEq, bz_T, bz_F, ite_self, mulc, st_bud]
              exact hk2) hh2
            -- piece by piece, from the last one
            have key : ∀ (m : Nat) (G1 : Nat → Int → Int), (m : Int) ≤ N → MCh G0 G1 B → G1 (B + 544) 114 = W + m → (∀ j : Nat, j < m → G1 (B + 544 + 90) (W + j) = pc (G0 (a + 1)) (G0 (a + 6)) (chI (G0 (a + 2)) p j) ∧ G1 (B + 544 + 91) (W + j) = pc (G0 (b + 1)) (G0 (b + 6)) (chI (G0 (b + 2)) q j)) → SLo G G1 B W → SGr G1 B ib (G0 b 2) (pc (G0 (b + 1)) (G0 (b + 6))) (SU S (fun h x => ∃ j : Nat, m ≤ j ∧ (j : Int) < N ∧ hlM (G0 (tvA B v + 5)) (G0 (a + 1)) (G0 (a + 2)) (G0 (b + 1)) (G0 (b + 2)) k (chI (G0 (a + 2)) p j) (chI (G0 (b + 2)) q j) h x)) → Con (G0 (b + 1)) (G0 (b + 2)) (SU S (fun h x => ∃ j : Nat, m ≤ j ∧ (j : Int) < N ∧ hlM (G0 (tvA B v + 5)) (G0 (a + 1)) (G0 (a + 2)) (G0 (b + 1)) (G0 (b + 2)) k (chI (G0 (a + 2)) p j) (chI (G0 (b + 2)) q j) h x)) → (∀ j : Nat, m ≤ j → (j : Int) < N → okM (G0 (tvA B v + 5)) (G0 (a + 1)) (G0 (a + 2)) (G0 (b + 1)) (G0 (b + 2)) k (chI (G0 (a + 2)) p j) (chI (G0 (b + 2)) q j)) → RSt T nx R B ia ib n0 G G1 →
                (okM (G0 (tvA B v + 5)) (G0 (a + 1)) (G0 (a + 2)) (G0 (b + 1)) (G0 (b + 2)) (k + 1) p q ∧ Con (G0 (b + 1)) (G0 (b + 2)) (SU S (hlM (G0 (tvA B v + 5)) (G0 (a + 1)) (G0 (a + 2)) (G0 (b + 1)) (G0 (b + 2)) (k + 1) p q)) ∧ ∃ G', MCh G0 G' B ∧ SLo G G' B W ∧ G' (B + 544) 114 = W ∧ SGr G' B ib (G0 b 2) (pc (G0 (b + 1)) (G0 (b + 6))) (SU S (hlM (G0 (tvA B v + 5)) (G0 (a + 1)) (G0 (a + 2)) (G0 (b + 1)) (G0 (b + 2)) (k + 1) p q)) ∧ RSt T nx R B ia ib n0 G G') ∨ (¬ (okM (G0 (tvA B v + 5)) (G0 (a + 1)) (G0 (a + 2)) (G0 (b + 1)) (G0 (b + 2)) (k + 1) p q ∧ Con (G0 (b + 1)) (G0 (b + 2)) (SU S (hlM (G0 (tvA B v + 5)) (G0 (a + 1)) (G0 (a + 2)) (G0 (b + 1)) (G0 (b + 2)) (k + 1) p q))) ∧ RFa T nx R B ia ib n0 G) := by
              intro m
              induction m with
              | zero =>
                intro G1 mN ch1 h1 rows lo1 sg1 cn1 ok1 st1
                have eq1 : ∀ h x, SU S (fun h x => ∃ j : Nat, 0 ≤ j ∧ (j : Int) < N ∧ hlM (G0 (tvA B v + 5)) (G0 (a + 1)) (G0 (a + 2)) (G0 (b + 1)) (G0 (b + 2)) k (chI (G0 (a + 2)) p j) (chI (G0 (b + 2)) q j) h x) h x ↔ SU S (hlM (G0 (tvA B v + 5)) (G0 (a + 1)) (G0 (a + 2)) (G0 (b + 1)) (G0 (b + 2)) (k + 1) p q) h x := fun h x => by
                  constructor
                  · intro w
                    rcases w with w | ⟨j, _, j1, w⟩
                    · exact Or.inl w
                    · exact Or.inr (Or.inr ⟨ho, l, j, by rw [← ef, ← hN]; exact j1, w⟩)
                  · intro w
                    rcases w with w | w | ⟨_, _, j, j1, w⟩
                    · exact Or.inl w
                    · exact absurd w.1 ho
                    · exact Or.inr ⟨j, Nat.zero_le _, by rw [← ef, ← hN] at j1; exact j1, w⟩
                exact Or.inl ⟨Or.inr ⟨ho, ecq.symm, fun _ j j1 => ok1 j (Nat.zero_le _) (by rw [← ef, ← hN] at j1; exact j1)⟩, Con_sub (fun h x w => (eq1 h x).mpr w) cn1, G1, ch1, lo1, by rw [h1]; show W + ((0 : Nat) : Int) = W; omega, SGr_congr eq1 sg1, st1⟩
              | succ m ihm =>
                intro G1 mN ch1 h1 rows lo1 sg1 cn1 ok1 st1
                have iN : (m : Int) < N := by omega
                obtain ⟨⟨a1, a2, _⟩, _⟩ := hch m iN
                obtain ⟨⟨b1, b2, _⟩, _⟩ := hch2 m iN
                have che2 := Tr_che kA p0 p1 l (i := m) (by rw [← ef, ← hN]; omega)
                have cmo : chI (G0 (a + 2)) p 0 ≤ chI (G0 (a + 2)) p m := Tr_ch kA p0 p1 l m 0 (Nat.zero_le _) (by rw [← ef, ← hN]; omega)
                have chm : p + 1 + m ≤ chI (G0 (a + 2)) p m := by
                  have : ∀ j : Nat, j ≤ m → p + 1 + (j : Int) ≤ chI (G0 (a + 2)) p j := by
                    intro j
                    induction j with
                    | zero => intro _; show p + 1 + ((0 : Nat) : Int) ≤ p + 1; omega
                    | succ j ihj =>
                      intro hj
                      have u := ihj (by omega)
                      have v' := Tr_che kA p0 p1 l (i := j) (by rw [← ef, ← hN]; omega)
                      have : chI (G0 (a + 2)) p (j + 1) = G0 (a + 2) (chI (G0 (a + 2)) p j) := rfl
                      omega
                  exact this m (Nat.le_refl _)
                obtain ⟨w1, w2⟩ := rows m (by omega)
                rcases ih (chI (G0 (a + 2)) p m) (chI (G0 (b + 2)) q m) G1 _ (W + m) (by omega) a2 (by omega) (by omega) b2 (by omega) (by omega) ch1 (by rw [h1]; omega) w1 w2 sg1 cn1 with ⟨y1, y2, G2, y3, y4, y5, y6, y7⟩ | ⟨y1, G2, y2, y3⟩
                · have eq1 : ∀ h x, SU (SU S (fun h x => ∃ j : Nat, m + 1 ≤ j ∧ (j : Int) < N ∧ hlM (G0 (tvA B v + 5)) (G0 (a + 1)) (G0 (a + 2)) (G0 (b + 1)) (G0 (b + 2)) k (chI (G0 (a + 2)) p j) (chI (G0 (b + 2)) q j) h x)) (hlM (G0 (tvA B v + 5)) (G0 (a + 1)) (G0 (a + 2)) (G0 (b + 1)) (G0 (b + 2)) k (chI (G0 (a + 2)) p m) (chI (G0 (b + 2)) q m)) h x ↔ SU S (fun h x => ∃ j : Nat, m ≤ j ∧ (j : Int) < N ∧ hlM (G0 (tvA B v + 5)) (G0 (a + 1)) (G0 (a + 2)) (G0 (b + 1)) (G0 (b + 2)) k (chI (G0 (a + 2)) p j) (chI (G0 (b + 2)) q j) h x) h x := fun h x => by
                    constructor
                    · intro w
                      rcases w with (w | ⟨j, j0, j1, w⟩) | w
                      · exact Or.inl w
                      · exact Or.inr ⟨j, by omega, j1, w⟩
                      · exact Or.inr ⟨m, Nat.le_refl _, iN, w⟩
                    · intro w
                      rcases w with w | ⟨j, j0, j1, w⟩
                      · exact Or.inl (Or.inl w)
                      · by_cases e : j = m
                        · subst e
                          exact Or.inr w
                        · exact Or.inl (Or.inr ⟨j, by omega, j1, w⟩)
                  exact ihm G2 (by omega) y3 y5 (fun j hj => by
                    obtain ⟨u1, u2⟩ := y4 (W + j) (by omega)
                    rw [u1, u2]
                    exact rows j (by omega)) (SLo_tr lo1 y4 (by omega)) (SGr_congr eq1 y6) (Con_sub (fun h x w => (eq1 h x).mpr w) y2) (fun j j0 j1 => by
                    by_cases e : j = m
                    · subst e
                      exact y1
                    · exact ok1 j (by omega) j1) (fun Kn Kr hh2 => st1 Kn Kr (y7 Kn Kr hh2))
                · refine Or.inr ⟨fun ⟨u1, u2⟩ => y1 ⟨?_, Con_sub (fun h x w => ?_) u2⟩, G2, ?_, fun Kn Kr hh2 => st1 Kn Kr (y3 Kn Kr hh2)⟩
                  · rcases u1 with u1 | ⟨_, _, u1⟩
                    · exact absurd u1 ho
                    · exact u1 l m (by rw [← ef, ← hN]; exact iN)
                  · rcases w with (w | ⟨j, j0, j1, w⟩) | w
                    · exact Or.inl w
                    · exact Or.inr (Or.inr ⟨ho, l, j, by rw [← ef, ← hN]; exact j1, w⟩)
                    · exact Or.inr (Or.inr ⟨ho, l, m, by rw [← ef, ← hN]; exact iN, w⟩)
                  · exact ⟨fun x a1 a2 a3 a4 a5 => by rw [y2.1 x a1 a2 a3 a4 a5, ch1.1 x a1 a2 a3 a4 a5, ch.1 x a1 a2 a3 a4 a5], fun j hj => by rw [y2.2 j hj, ch1.2 j hj, ch.2 j hj]⟩
            have eq0 : ∀ h x, S h x ↔ SU S (fun h x => ∃ j : Nat, N.toNat ≤ j ∧ (j : Int) < N ∧ hlM (G0 (tvA B v + 5)) (G0 (a + 1)) (G0 (a + 2)) (G0 (b + 1)) (G0 (b + 2)) k (chI (G0 (a + 2)) p j) (chI (G0 (b + 2)) q j) h x) h x := fun h x => ⟨Or.inl, fun w => w.elim id (fun ⟨j, j0, j1, _⟩ => absurd j1 (by omega))⟩
            exact key N.toNat Gb (by omega) chb (by rw [m3]; omega) (fun j hj => m4 j (by omega)) (SLo_tr (fun j _ => by rw [oa _ (by omega), oa _ (by omega)]; exact ⟨rfl, rfl⟩) m2 (Int.le_refl _)) (SGr_congr eq0 sgB) (Con_sub (fun h x w => (eq0 h x).mpr w) cn) (fun j j0 j1 => absurd j1 (by omega)) stp
          · refine Or.inr ⟨fun u => ?_, Ga, ⟨fun x _ _ _ _ w => oa x w, oj⟩, fun Kn Kr hh2 => q_rtn1 (fun K Kf => ?_)⟩
            · rcases u.1 with u1 | ⟨_, u1, _⟩
              · exact ho u1
              · omega
            · have z' : ¬ 14 * v + f1 = 14 * v + f2 := by omega
              clear ih sg sgA cn ca cb la hch hch2 hC cF1 cF2
              simp (disch := omega) only [↓wcX12_fitsAt_1.eq_1, ↓wsX12_fitsAt_1.eq_1, ↓(k_cv2 dX12_formAt (t12 hM)), ↓(k_cv4 dX12_areLike (t12 hM)), ↓k_mk, ↓k_sq, ↓k_sk, ↓k_bk, ↓k_if, ↓k_te, ↓k_cm, ↓k_cz, ↓k_an2, ↓k_or2, ↓k_no, ↓k_ci, ↓k_l0, ↓k_r0, ↓k_se0, ↓k_ic0, ↓k_l1, ↓k_r1, ↓k_se1, ↓k_ic1, ↓k_de1, ↓k_tk1, ↓k_l2, ↓k_r2, ↓k_se2, ↓k_ic2, ↓k_de2, ↓k_tk2, ↓k_l3, ↓k_r3, ↓k_se3, ↓k_ic3, ↓k_de3, ↓k_tk3, ↓k_l4, ↓k_r4, ↓k_se4, ↓k_ic4, ↓k_de4, ↓k_tk4, ↓k_l5, ↓k_r5, ↓k_se5, ↓k_ic5, ↓k_de5, ↓k_tk5, ↓k_l6, ↓k_r6, ↓k_se6, ↓k_ic6, ↓k_de6, ↓k_tk6, ↓k_l7, ↓k_r7, ↓k_se7, ↓k_ic7, ↓k_de7, ↓k_tk7, ↓k_l8, ↓k_r8, ↓k_se8, ↓k_ic8, ↓k_de8, ↓k_tk8, ↓k_l9, ↓k_r9, ↓k_se9, ↓k_ic9, ↓k_de9, ↓k_tk9, ↓k_l10, ↓k_r10, ↓k_se10, ↓k_ic10, ↓k_de10, ↓k_tk10, ↓k_l11, ↓k_r11, ↓k_se11, ↓k_ic11, ↓k_de11, ↓k_tk11, ↓k_l12, ↓k_r12, ↓k_se12, ↓k_ic12, ↓k_de12, ↓k_tk12, ↓k_l13, ↓k_r13, ↓k_se13, ↓k_ic13, ↓k_de13, ↓k_tk13, ↓k_l14, ↓k_r14, ↓k_se14, ↓k_ic14, ↓k_de14, ↓k_tk14, ↓k_l15, ↓k_r15, ↓k_se15, ↓k_ic15, ↓k_de15, ↓k_tk15, ↓k_l16, ↓k_r16, ↓k_se16, ↓k_ic16, ↓k_de16, ↓k_tk16, ↓k_l17, ↓k_r17, ↓k_se17, ↓k_ic17, ↓k_de17, ↓k_tk17, ↓k_l18, ↓k_r18, ↓k_se18, ↓k_ic18, ↓k_de18, ↓k_tk18, ↓k_l19, ↓k_r19, ↓k_se19, ↓k_ic19, ↓k_de19, ↓k_tk19, ↓k_l20, ↓k_r20, ↓k_se20, ↓k_ic20, ↓k_de20, ↓k_tk20, ↓k_l21, ↓k_r21, ↓k_se21, ↓k_ic21, ↓k_de21, ↓k_tk21, ↓k_l22, ↓k_r22, ↓k_se22, ↓k_ic22, ↓k_de22, ↓k_tk22, ↓k_l23, ↓k_r23, ↓k_se23, ↓k_ic23, ↓k_de23, ↓k_tk23, ↓k_l24, ↓k_r24, ↓k_se24, ↓k_ic24, ↓k_de24, ↓k_tk24, ↓k_l25, ↓k_r25, ↓k_se25, ↓k_ic25, ↓k_de25, ↓k_tk25, ↓k_k, ↓k_kn, ↓k_kl, ↓k_kln, ↓k_il, ↓k_2, ↓k_1, ↓k_2c, ↓k_2l, ↓k_ac, ↓k_an, ↓k_cs, ↓k_cv, ↓k_fi, ↓k_fr, ↓k_ai, ↓k_az, ↓k_ar, ↓k_sai, ↓k_saz, ↓k_soa, ↓k_spf, ↓k_sx, ↓k_blk, ↓k_sset, ↓k_sri, ↓k_srv, ↓k_srr, ↓k_nop, ↓k_add, ↓k_sub, ↓k_mul, ↓k_min, ↓k_max, ↓k_shr, ↓k_shl, ↓k_or, ↓k_ilz, ↓k_addl, ↓k_rt, ↓k_rb, ↓k_rbz, ↓k_rsi, ↓k_rsr, ↓k_rsv, ↓reduceIte, h114, hz, ↓s0, ↓s4, ↓s5, c1, c2, c3, ↓s6, ↓(k_cv2 dX12_formAt (t12 hM)), ↓cF2', z', ↓xi12_114 hM, ↓xp12_114 hM, ↓xb12_114 hM, ↓xf12_114 hM, ↓xg12_114 hM, ↓xh12_114 hM, List.length_cons, List.length_nil, List.forall_mem_cons, List.not_mem_nil, Value.category, true_and, and_true, false_and, and_false, or_true, true_or, or_false, false_or, Nat.zero_le, forall_const, implies_true, false_implies, Nat.zero_add, Nat.reduceAdd, Nat.reduceLT, Nat.reduceLeDiff, Nat.le_refl, not_true_eq_false, not_false_eq_true, r_eq, r_ne, r_lt, r_ge, r_gt, r_le, bz_ne, nn_toNat, cn_of, cn_0, cn_1, i10, Int.reduceLE, Int.reduceLT, Int.reduceEq, bz_T, bz_F, ite_self, mulc, st_bud]
              exact hh2
        · have eQ : Qc = G0 (b + 1) q := by rw [hQQ]; exact if_neg lq
          have c1 : 200 ≤ P := by omega
          have c2 : ¬ P < 1000 := by omega
          have c3 : Qc < 1000 := by omega
          have c4 : ¬ P = Qc := by omega
          refine Or.inr ⟨fun u => ?_, Ga, ⟨fun x _ _ _ _ w => oa x w, oj⟩, fun Kn Kr hh2 => q_rtn1 (fun K Kf => ?_)⟩
          · rcases u.1 with u1 | ⟨_, u1, _⟩
            · exact ho u1
            · omega
          · clear ih sg sgA cn ca cb la
            simp (disch := omega) only [↓wcX12_fitsAt_1.eq_1, ↓wsX12_fitsAt_1.eq_1, ↓(k_cv2 dX12_formAt (t12 hM)), ↓(k_cv4 dX12_areLike (t12 hM)), ↓k_mk, ↓k_sq, ↓k_sk, ↓k_bk, ↓k_if, ↓k_te, ↓k_cm, ↓k_cz, ↓k_an2, ↓k_or2, ↓k_no, ↓k_ci, ↓k_l0, ↓k_r0, ↓k_se0, ↓k_ic0, ↓k_l1, ↓k_r1, ↓k_se1, ↓k_ic1, ↓k_de1, ↓k_tk1, ↓k_l2, ↓k_r2, ↓k_se2, ↓k_ic2, ↓k_de2, ↓k_tk2, ↓k_l3, ↓k_r3, ↓k_se3, ↓k_ic3, ↓k_de3, ↓k_tk3, ↓k_l4, ↓k_r4, ↓k_se4, ↓k_ic4, ↓k_de4, ↓k_tk4, ↓k_l5, ↓k_r5, ↓k_se5, ↓k_ic5, ↓k_de5, ↓k_tk5, ↓k_l6, ↓k_r6, ↓k_se6, ↓k_ic6, ↓k_de6, ↓k_tk6, ↓k_l7, ↓k_r7, ↓k_se7, ↓k_ic7, ↓k_de7, ↓k_tk7, ↓k_l8, ↓k_r8, ↓k_se8, ↓k_ic8, ↓k_de8, ↓k_tk8, ↓k_l9, ↓k_r9, ↓k_se9, ↓k_ic9, ↓k_de9, ↓k_tk9, ↓k_l10, ↓k_r10, ↓k_se10, ↓k_ic10, ↓k_de10, ↓k_tk10, ↓k_l11, ↓k_r11, ↓k_se11, ↓k_ic11, ↓k_de11, ↓k_tk11, ↓k_l12, ↓k_r12, ↓k_se12, ↓k_ic12, ↓k_de12, ↓k_tk12, ↓k_l13, ↓k_r13, ↓k_se13, ↓k_ic13, ↓k_de13, ↓k_tk13, ↓k_l14, ↓k_r14, ↓k_se14, ↓k_ic14, ↓k_de14, ↓k_tk14, ↓k_l15, ↓k_r15, ↓k_se15, ↓k_ic15, ↓k_de15, ↓k_tk15, ↓k_l16, ↓k_r16, ↓k_se16, ↓k_ic16, ↓k_de16, ↓k_tk16, ↓k_l17, ↓k_r17, ↓k_se17, ↓k_ic17, ↓k_de17, ↓k_tk17, ↓k_l18, ↓k_r18, ↓k_se18, ↓k_ic18, ↓k_de18, ↓k_tk18, ↓k_l19, ↓k_r19, ↓k_se19, ↓k_ic19, ↓k_de19, ↓k_tk19, ↓k_l20, ↓k_r20, ↓k_se20, ↓k_ic20, ↓k_de20, ↓k_tk20, ↓k_l21, ↓k_r21, ↓k_se21, ↓k_ic21, ↓k_de21, ↓k_tk21, ↓k_l22, ↓k_r22, ↓k_se22, ↓k_ic22, ↓k_de22, ↓k_tk22, ↓k_l23, ↓k_r23, ↓k_se23, ↓k_ic23, ↓k_de23, ↓k_tk23, ↓k_l24, ↓k_r24, ↓k_se24, ↓k_ic24, ↓k_de24, ↓k_tk24, ↓k_l25, ↓k_r25, ↓k_se25, ↓k_ic25, ↓k_de25, ↓k_tk25, ↓k_k, ↓k_kn, ↓k_kl, ↓k_kln, ↓k_il, ↓k_2, ↓k_1, ↓k_2c, ↓k_2l, ↓k_ac, ↓k_an, ↓k_cs, ↓k_cv, ↓k_fi, ↓k_fr, ↓k_ai, ↓k_az, ↓k_ar, ↓k_sai, ↓k_saz, ↓k_soa, ↓k_spf, ↓k_sx, ↓k_blk, ↓k_sset, ↓k_sri, ↓k_srv, ↓k_srr, ↓k_nop, ↓k_add, ↓k_sub, ↓k_mul, ↓k_min, ↓k_max, ↓k_shr, ↓k_shl, ↓k_or, ↓k_ilz, ↓k_addl, ↓k_rt, ↓k_rb, ↓k_rbz, ↓k_rsi, ↓k_rsr, ↓k_rsv, ↓reduceIte, h114, hz, ↓s0, ↓s4, ↓s5, c1, c2, c3, c4, ↓xi12_114 hM, ↓xp12_114 hM, ↓xb12_114 hM, ↓xf12_114 hM, ↓xg12_114 hM, ↓xh12_114 hM, List.length_cons, List.length_nil, List.forall_mem_cons, List.not_mem_nil, Value.category, true_and, and_true, false_and, and_false, or_true, true_or, or_false, false_or, Nat.zero_le, forall_const, implies_true, false_implies, Nat.zero_add, Nat.reduceAdd, Nat.reduceLT, Nat.reduceLeDiff, Nat.le_refl, not_true_eq_false, not_false_eq_true, r_eq, r_ne, r_lt, r_ge, r_gt, r_le, bz_ne, nn_toNat, cn_of, cn_0, cn_1, i10, Int.reduceLE, Int.reduceLT, Int.reduceEq, bz_T, bz_F, ite_self, mulc, st_bud]
            exact hh2
      · have eP : P = G0 (a + 1) p := by rw [hPP]; exact if_neg l
        have c2 : P < 1000 := by omega
        have c1 : ¬ 200 ≤ P := by omega
        have key : Qc = P ↔ G0 (b + 1) q = G0 (a + 1) p := by
          rw [hQQ, eP]
          unfold pc
          by_cases lq : 1000 ≤ G0 (b + 1) q
          · rw [if_pos lq]
            have := Tr_n kB q0 q1 lq
            omega
          · rw [if_neg lq]
        by_cases z : P = Qc
        · have ec := key.mp z.symm
          have eq1 : ∀ h x, S h x ↔ SU S (hlM (G0 (tvA B v + 5)) (G0 (a + 1)) (G0 (a + 2)) (G0 (b + 1)) (G0 (b + 2)) (k + 1) p q) h x := fun h x => by
            refine ⟨Or.inl, fun w => ?_⟩
            rcases w with w | w | ⟨_, w, _⟩
            · exact w
            · exact absurd w.1 ho
            · exact absurd w l
          refine Or.inl ⟨Or.inr ⟨ho, ec.symm, fun w => absurd w l⟩, Con_sub (fun h x w => (eq1 h x).mpr w) cn, Ga, cha, fun j _ => by rw [oa _ (by omega), oa _ (by omega)]; exact ⟨rfl, rfl⟩, a114, SGr_congr eq1 sgA, fun Kn Kr hh2 => q_backR (fun K Kf hk2 => ?_) hh2⟩
          clear ih sg sgA cn ca cb la key eq1
          have z' := z.symm
          simp (disch := omega) only [↓wcX12_fitsAt_1.eq_1, ↓wsX12_fitsAt_1.eq_1, ↓(k_cv2 dX12_formAt (t12 hM)), ↓(k_cv4 dX12_areLike (t12 hM)), ↓k_mk, ↓k_sq, ↓k_sk, ↓k_bk, ↓k_if, ↓k_te, ↓k_cm, ↓k_cz, ↓k_an2, ↓k_or2, ↓k_no, ↓k_ci, ↓k_l0, ↓k_r0, ↓k_se0, ↓k_ic0, ↓k_l1, ↓k_r1, ↓k_se1, ↓k_ic1, ↓k_de1, ↓k_tk1, ↓k_l2, ↓k_r2, ↓k_se2, ↓k_ic2, ↓k_de2, ↓k_tk2, ↓k_l3, ↓k_r3, ↓k_se3, ↓k_ic3, ↓k_de3, ↓k_tk3, ↓k_l4, ↓k_r4, ↓k_se4, ↓k_ic4, ↓k_de4, ↓k_tk4, ↓k_l5, ↓k_r5, ↓k_se5, ↓k_ic5, ↓k_de5, ↓k_tk5, ↓k_l6, ↓k_r6, ↓k_se6, ↓k_ic6, ↓k_de6, ↓k_tk6, ↓k_l7, ↓k_r7, ↓k_se7, ↓k_ic7, ↓k_de7, ↓k_tk7, ↓k_l8, ↓k_r8, ↓k_se8, ↓k_ic8, ↓k_de8, ↓k_tk8, ↓k_l9, ↓k_r9, ↓k_se9, ↓k_ic9, ↓k_de9, ↓k_tk9, ↓k_l10, ↓k_r10, ↓k_se10, ↓k_ic10, ↓k_de10, ↓k_tk10, ↓k_l11, ↓k_r11, ↓k_se11, ↓k_ic11, ↓k_de11, ↓k_tk11, ↓k_l12, ↓k_r12, ↓k_se12, ↓k_ic12, ↓k_de12, ↓k_tk12, ↓k_l13, ↓k_r13, ↓k_se13, ↓k_ic13, ↓k_de13, ↓k_tk13, ↓k_l14, ↓k_r14, ↓k_se14, ↓k_ic14, ↓k_de14, ↓k_tk14, ↓k_l15, ↓k_r15, ↓k_se15, ↓k_ic15, ↓k_de15, ↓k_tk15, ↓k_l16, ↓k_r16, ↓k_se16, ↓k_ic16, ↓k_de16, ↓k_tk16, ↓k_l17, ↓k_r17, ↓k_se17, ↓k_ic17, ↓k_de17, ↓k_tk17, ↓k_l18, ↓k_r18, ↓k_se18, ↓k_ic18, ↓k_de18, ↓k_tk18, ↓k_l19, ↓k_r19, ↓k_se19, ↓k_ic19, ↓k_de19, ↓k_tk19, ↓k_l20, ↓k_r20, ↓k_se20, ↓k_ic20, ↓k_de20, ↓k_tk20, ↓k_l21, ↓k_r21, ↓k_se21, ↓k_ic21, ↓k_de21, ↓k_tk21, ↓k_l22, ↓k_r22, ↓k_se22, ↓k_ic22, ↓k_de22, ↓k_tk22, ↓k_l23, ↓k_r23, ↓k_se23, ↓k_ic23, ↓k_de23, ↓k_tk23, ↓k_l24, ↓k_r24, ↓k_se24, ↓k_ic24, ↓k_de24, ↓k_tk24, ↓k_l25, ↓k_r25, ↓k_se25, ↓k_ic25, ↓k_de25, ↓k_tk25, ↓k_k, ↓k_kn, ↓k_kl, ↓k_kln, ↓k_il, ↓k_2, ↓k_1, ↓k_2c, ↓k_2l, ↓k_ac, ↓k_an, ↓k_cs, ↓k_cv, ↓k_fi, ↓k_fr, ↓k_ai, ↓k_az, ↓k_ar, ↓k_sai, ↓k_saz, ↓k_soa, ↓k_spf, ↓k_sx, ↓k_blk, ↓k_sset, ↓k_sri, ↓k_srv, ↓k_srr, ↓k_nop, ↓k_add, ↓k_sub, ↓k_mul, ↓k_min, ↓k_max, ↓k_shr, ↓k_shl, ↓k_or, ↓k_ilz, ↓k_addl, ↓k_rt, ↓k_rb, ↓k_rbz, ↓k_rsi, ↓k_rsr, ↓k_rsv, ↓reduceIte, h114, hz, ↓s0, ↓s4, ↓s5, c1, c2, z', eq_self, ↓xi12_114 hM, ↓xp12_114 hM, ↓xb12_114 hM, ↓xf12_114 hM, ↓xg12_114 hM, ↓xh12_114 hM, List.length_cons, List.length_nil, List.forall_mem_cons, List.not_mem_nil, Value.category, true_and, and_true, false_and, and_false, or_true, true_or, or_false, false_or, Nat.zero_le, forall_const, implies_true, false_implies, Nat.zero_add, Nat.reduceAdd, Nat.reduceLT, Nat.reduceLeDiff, Nat.le_refl, not_true_eq_false, not_false_eq_true, r_eq, r_ne, r_lt, r_ge, r_gt, r_le, bz_ne, nn_toNat, cn_of, cn_0, cn_1, i10, Int.reduceLE, Int.reduceLT, Int.reduceEq, bz_T, bz_F, ite_self, mulc, st_bud]
          exact hk2
        · refine Or.inr ⟨fun u => ?_, Ga, ⟨fun x _ _ _ _ w => oa x w, oj⟩, fun Kn Kr hh2 => q_rtn1 (fun K Kf => ?_)⟩
          · rcases u.1 with u1 | ⟨_, u1, _⟩
            · exact ho u1
            · exact z (key.mpr u1.symm).symm
          · clear ih sg sgA cn ca cb la key
            simp (disch := omega) only [↓wcX12_fitsAt_1.eq_1, ↓wsX12_fitsAt_1.eq_1, ↓(k_cv2 dX12_formAt (t12 hM)), ↓(k_cv4 dX12_areLike (t12 hM)), ↓k_mk, ↓k_sq, ↓k_sk, ↓k_bk, ↓k_if, ↓k_te, ↓k_cm, ↓k_cz, ↓k_an2, ↓k_or2, ↓k_no, ↓k_ci, ↓k_l0, ↓k_r0, ↓k_se0, ↓k_ic0, ↓k_l1, ↓k_r1, ↓k_se1, ↓k_ic1, ↓k_de1, ↓k_tk1, ↓k_l2, ↓k_r2, ↓k_se2, ↓k_ic2, ↓k_de2, ↓k_tk2, ↓k_l3, ↓k_r3, ↓k_se3, ↓k_ic3, ↓k_de3, ↓k_tk3, ↓k_l4, ↓k_r4, ↓k_se4, ↓k_ic4, ↓k_de4, ↓k_tk4, ↓k_l5, ↓k_r5, ↓k_se5, ↓k_ic5, ↓k_de5, ↓k_tk5, ↓k_l6, ↓k_r6, ↓k_se6, ↓k_ic6, ↓k_de6, ↓k_tk6, ↓k_l7, ↓k_r7, ↓k_se7, ↓k_ic7, ↓k_de7, ↓k_tk7, ↓k_l8, ↓k_r8, ↓k_se8, ↓k_ic8, ↓k_de8, ↓k_tk8, ↓k_l9, ↓k_r9, ↓k_se9, ↓k_ic9, ↓k_de9, ↓k_tk9, ↓k_l10, ↓k_r10, ↓k_se10, ↓k_ic10, ↓k_de10, ↓k_tk10, ↓k_l11, ↓k_r11, ↓k_se11, ↓k_ic11, ↓k_de11, ↓k_tk11, ↓k_l12, ↓k_r12, ↓k_se12, ↓k_ic12, ↓k_de12, ↓k_tk12, ↓k_l13, ↓k_r13, ↓k_se13, ↓k_ic13, ↓k_de13, ↓k_tk13, ↓k_l14, ↓k_r14, ↓k_se14, ↓k_ic14, ↓k_de14, ↓k_tk14, ↓k_l15, ↓k_r15, ↓k_se15, ↓k_ic15, ↓k_de15, ↓k_tk15, ↓k_l16, ↓k_r16, ↓k_se16, ↓k_ic16, ↓k_de16, ↓k_tk16, ↓k_l17, ↓k_r17, ↓k_se17, ↓k_ic17, ↓k_de17, ↓k_tk17, ↓k_l18, ↓k_r18, ↓k_se18, ↓k_ic18, ↓k_de18, ↓k_tk18, ↓k_l19, ↓k_r19, ↓k_se19, ↓k_ic19, ↓k_de19, ↓k_tk19, ↓k_l20, ↓k_r20, ↓k_se20, ↓k_ic20, ↓k_de20, ↓k_tk20, ↓k_l21, ↓k_r21, ↓k_se21, ↓k_ic21, ↓k_de21, ↓k_tk21, ↓k_l22, ↓k_r22, ↓k_se22, ↓k_ic22, ↓k_de22, ↓k_tk22, ↓k_l23, ↓k_r23, ↓k_se23, ↓k_ic23, ↓k_de23, ↓k_tk23, ↓k_l24, ↓k_r24, ↓k_se24, ↓k_ic24, ↓k_de24, ↓k_tk24, ↓k_l25, ↓k_r25, ↓k_se25, ↓k_ic25, ↓k_de25, ↓k_tk25, ↓k_k, ↓k_kn, ↓k_kl, ↓k_kln, ↓k_il, ↓k_2, ↓k_1, ↓k_2c, ↓k_2l, ↓k_ac, ↓k_an, ↓k_cs, ↓k_cv, ↓k_fi, ↓k_fr, ↓k_ai, ↓k_az, ↓k_ar, ↓k_sai, ↓k_saz, ↓k_soa, ↓k_spf, ↓k_sx, ↓k_blk, ↓k_sset, ↓k_sri, ↓k_srv, ↓k_srr, ↓k_nop, ↓k_add, ↓k_sub, ↓k_mul, ↓k_min, ↓k_max, ↓k_shr, ↓k_shl, ↓k_or, ↓k_ilz, ↓k_addl, ↓k_rt, ↓k_rb, ↓k_rbz, ↓k_rsi, ↓k_rsr, ↓k_rsv, ↓reduceIte, h114, hz, ↓s0, ↓s4, ↓s5, c1, c2, z, ↓xi12_114 hM, ↓xp12_114 hM, ↓xb12_114 hM, ↓xf12_114 hM, ↓xg12_114 hM, ↓xh12_114 hM, List.length_cons, List.length_nil, List.forall_mem_cons, List.not_mem_nil, Value.category, true_and, and_true, false_and, and_false, or_true, true_or, or_false, false_or, Nat.zero_le, forall_const, implies_true, false_implies, Nat.zero_add, Nat.reduceAdd, Nat.reduceLT, Nat.reduceLeDiff, Nat.le_refl, not_true_eq_false, not_false_eq_true, r_eq, r_ne, r_lt, r_ge, r_gt, r_le, bz_ne, nn_toNat, cn_of, cn_0, cn_1, i10, Int.reduceLE, Int.reduceLT, Int.reduceEq, bz_T, bz_F, ite_self, mulc, st_bud]
            exact hh2
end
