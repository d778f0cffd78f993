section
/-! rows: the reference's next widths, whole (printed by a program) -/
set_option maxHeartbeats 400000 in
theorem sN0 (F : Int → Int) : sumN F 0 0 = 0 := rfl
set_option maxHeartbeats 400000 in
theorem sN1 (F : Int → Int) : sumN F 0 1 = F 0 := by
  rw [sumN_s, sN0, show (0 : Int) + ((0 : Nat) : Int) = 0 from rfl, Int.zero_add]
set_option maxHeartbeats 400000 in
theorem sN2 (F : Int → Int) : sumN F 0 2 = F 0 + F 1 := by
  rw [sumN_s, sN1, show (0 : Int) + ((1 : Nat) : Int) = 1 from rfl]
set_option maxHeartbeats 400000 in
theorem nw_ret {T0 : Nat → Option q_T} {nx B : Nat} {R : Nat → Nat → Option Value} {G : Nat → Int → Int} {m N : Nat} {G1 : Nat → Int → Int} {k : Int} (hk : (N : Int) - 2 = k) (h : ∀ (Kn : List Value → q_M → Prop) (Kr : Option Value → q_M → Prop), Kr (some (.int (zI 1))) (st T0 nx 0 0 R G1) → q_wh wcX12_nextWidths_0 wsX12_nextWidths_0 [.ref (B + 544), .int (zI N), .int (zI m), .int (zI k)] (st T0 nx 0 0 R G) Kn Kr) (K : Option Value → q_M → Prop) : fX12_nextWidths [.ref (B + 544), .int (zI N), .int (zI m)] (st T0 nx 0 0 R G) K = K (some (.int (zI 1))) (st T0 nx 0 0 R G1) := by
  subst hk
  have lw : ∀ (Kn : List Value → q_M → Prop) (Kr : Option Value → q_M → Prop), wX12_nextWidths_0 [.ref (B + 544), .int (zI N), .int (zI m), .int (zI ((N : Int) - 2))] (st T0 nx 0 0 R G) Kn Kr = Kr (some (.int (zI 1))) (st T0 nx 0 0 R G1) := eX12_nextWidths_0.eqr (h _ _ ⟨rfl, rfl⟩)
  clear h
  simp (disch := omega) only [↓fX12_nextWidths.eq_1, ↓uX12_nextWidths, ↓k_mk, ↓k_sq, ↓k_sk, ↓k_bk, ↓k_if, ↓k_te, ↓k_cm, ↓k_cz, ↓k_an2, ↓k_or2, ↓k_no, ↓k_ci, ↓k_l0, ↓k_r0, ↓k_se0, ↓k_ic0, ↓k_l1, ↓k_r1, ↓k_se1, ↓k_ic1, ↓k_de1, ↓k_tk1, ↓k_l2, ↓k_r2, ↓k_se2, ↓k_ic2, ↓k_de2, ↓k_tk2, ↓k_l3, ↓k_r3, ↓k_se3, ↓k_ic3, ↓k_de3, ↓k_tk3, ↓k_l4, ↓k_r4, ↓k_se4, ↓k_ic4, ↓k_de4, ↓k_tk4, ↓k_l5, ↓k_r5, ↓k_se5, ↓k_ic5, ↓k_de5, ↓k_tk5, ↓k_l6, ↓k_r6, ↓k_se6, ↓k_ic6, ↓k_de6, ↓k_tk6, ↓k_l7, ↓k_r7, ↓k_se7, ↓k_ic7, ↓k_de7, ↓k_tk7, ↓k_l8, ↓k_r8, ↓k_se8, ↓k_ic8, ↓k_de8, ↓k_tk8, ↓k_l9, ↓k_r9, ↓k_se9, ↓k_ic9, ↓k_de9, ↓k_tk9, ↓k_l10, ↓k_r10, ↓k_se10, ↓k_ic10, ↓k_de10, ↓k_tk10, ↓k_l11, ↓k_r11, ↓k_se11, ↓k_ic11, ↓k_de11, ↓k_tk11, ↓k_l12, ↓k_r12, ↓k_se12, ↓k_ic12, ↓k_de12, ↓k_tk12, ↓k_l13, ↓k_r13, ↓k_se13, ↓k_ic13, ↓k_de13, ↓k_tk13, ↓k_l14, ↓k_r14, ↓k_se14, ↓k_ic14, ↓k_de14, ↓k_tk14, ↓k_l15, ↓k_r15, ↓k_se15, ↓k_ic15, ↓k_de15, ↓k_tk15, ↓k_l16, ↓k_r16, ↓k_se16, ↓k_ic16, ↓k_de16, ↓k_tk16, ↓k_l17, ↓k_r17, ↓k_se17, ↓k_ic17, ↓k_de17, ↓k_tk17, ↓k_l18, ↓k_r18, ↓k_se18, ↓k_ic18, ↓k_de18, ↓k_tk18, ↓k_l19, ↓k_r19, ↓k_se19, ↓k_ic19, ↓k_de19, ↓k_tk19, ↓k_l20, ↓k_r20, ↓k_se20, ↓k_ic20, ↓k_de20, ↓k_tk20, ↓k_l21, ↓k_r21, ↓k_se21, ↓k_ic21, ↓k_de21, ↓k_tk21, ↓k_l22, ↓k_r22, ↓k_se22, ↓k_ic22, ↓k_de22, ↓k_tk22, ↓k_l23, ↓k_r23, ↓k_se23, ↓k_ic23, ↓k_de23, ↓k_tk23, ↓k_l24, ↓k_r24, ↓k_se24, ↓k_ic24, ↓k_de24, ↓k_tk24, ↓k_l25, ↓k_r25, ↓k_se25, ↓k_ic25, ↓k_de25, ↓k_tk25, ↓k_k, ↓k_kn, ↓k_kl, ↓k_kln, ↓k_il, ↓k_2, ↓k_1, ↓k_2c, ↓k_2l, ↓k_ac, ↓k_an, ↓k_cs, ↓k_cv, ↓k_fi, ↓k_fr, ↓k_ai, ↓k_az, ↓k_ar, ↓k_sai, ↓k_saz, ↓k_soa, ↓k_sof, ↓k_spf, ↓k_sx, ↓k_blk, ↓k_sset, ↓k_sdec, ↓k_sri, ↓k_srv, ↓k_srr, ↓k_nop, ↓k_add, ↓k_sub, ↓k_mul, ↓k_min, ↓k_max, ↓k_shr, ↓k_shl, ↓k_or, ↓k_ilz, ↓k_addl, ↓k_rt, ↓k_rb, ↓k_rbz, ↓k_rsi, ↓k_rsr, ↓k_rsv, ↓reduceIte, ↓lw, List.length_cons, List.length_nil, List.forall_mem_cons, List.not_mem_nil, Value.category, true_and, and_true, false_and, and_false, or_true, true_or, or_false, false_or, Nat.zero_le, forall_const, implies_true, false_implies, Nat.zero_add, Nat.reduceAdd, Nat.reduceLT, Nat.reduceLeDiff, Nat.le_refl, not_true_eq_false, not_false_eq_true, r_eq, r_ne, r_lt, r_ge, r_gt, r_le, bz_ne, nn_toNat, cn_of, cn_0, cn_1, i10, Int.reduceLE, Int.reduceLT, Int.reduceEq, bz_T, bz_F, ite_self, mulc, st_bud]
set_option maxHeartbeats 400000 in
theorem nw_end {T0 : Nat → Option q_T} {nx B : Nat} {R : Nat → Nat → Option Value} {G : Nat → Int → Int} {m N : Nat} {G1 : Nat → Int → Int} {k : Int} (hk : (N : Int) - 2 = k) (h : ∀ (Kn : List Value → q_M → Prop) (Kr : Option Value → q_M → Prop), Kn [.ref (B + 544), .int (zI N), .int (zI m), .int (zI (-1))] (st T0 nx 0 0 R G1) → q_wh wcX12_nextWidths_0 wsX12_nextWidths_0 [.ref (B + 544), .int (zI N), .int (zI m), .int (zI k)] (st T0 nx 0 0 R G) Kn Kr) (K : Option Value → q_M → Prop) : fX12_nextWidths [.ref (B + 544), .int (zI N), .int (zI m)] (st T0 nx 0 0 R G) K = K (some (.int (zI 0))) (st T0 nx 0 0 R G1) := by
  subst hk
  have lw : ∀ (Kn : List Value → q_M → Prop) (Kr : Option Value → q_M → Prop), wX12_nextWidths_0 [.ref (B + 544), .int (zI N), .int (zI m), .int (zI ((N : Int) - 2))] (st T0 nx 0 0 R G) Kn Kr = Kn [.ref (B + 544), .int (zI N), .int (zI m), .int (zI (-1))] (st T0 nx 0 0 R G1) := eX12_nextWidths_0.eqn (h _ _ ⟨rfl, rfl⟩)
  clear h
  simp (disch := omega) only [↓fX12_nextWidths.eq_1, ↓uX12_nextWidths, ↓k_mk, ↓k_sq, ↓k_sk, ↓k_bk, ↓k_if, ↓k_te, ↓k_cm, ↓k_cz, ↓k_an2, ↓k_or2, ↓k_no, ↓k_ci, ↓k_l0, ↓k_r0, ↓k_se0, ↓k_ic0, ↓k_l1, ↓k_r1, ↓k_se1, ↓k_ic1, ↓k_de1, ↓k_tk1, ↓k_l2, ↓k_r2, ↓k_se2, ↓k_ic2, ↓k_de2, ↓k_tk2, ↓k_l3, ↓k_r3, ↓k_se3, ↓k_ic3, ↓k_de3, ↓k_tk3, ↓k_l4, ↓k_r4, ↓k_se4, ↓k_ic4, ↓k_de4, ↓k_tk4, ↓k_l5, ↓k_r5, ↓k_se5, ↓k_ic5, ↓k_de5, ↓k_tk5, ↓k_l6, ↓k_r6, ↓k_se6, ↓k_ic6, ↓k_de6, ↓k_tk6, ↓k_l7, ↓k_r7, ↓k_se7, ↓k_ic7, ↓k_de7, ↓k_tk7, ↓k_l8, ↓k_r8, ↓k_se8, ↓k_ic8, ↓k_de8, ↓k_tk8, ↓k_l9, ↓k_r9, ↓k_se9, ↓k_ic9, ↓k_de9, ↓k_tk9, ↓k_l10, ↓k_r10, ↓k_se10, ↓k_ic10, ↓k_de10, ↓k_tk10, ↓k_l11, ↓k_r11, ↓k_se11, ↓k_ic11, ↓k_de11, ↓k_tk11, ↓k_l12, ↓k_r12, ↓k_se12, ↓k_ic12, ↓k_de12, ↓k_tk12, ↓k_l13, ↓k_r13, ↓k_se13, ↓k_ic13, ↓k_de13, ↓k_tk13, ↓k_l14, ↓k_r14, ↓k_se14, ↓k_ic14, ↓k_de14, ↓k_tk14, ↓k_l15, ↓k_r15, ↓k_se15, ↓k_ic15, ↓k_de15, ↓k_tk15, ↓k_l16, ↓k_r16, ↓k_se16, ↓k_ic16, ↓k_de16, ↓k_tk16, ↓k_l17, ↓k_r17, ↓k_se17, ↓k_ic17, ↓k_de17, ↓k_tk17, ↓k_l18, ↓k_r18, ↓k_se18, ↓k_ic18, ↓k_de18, ↓k_tk18, ↓k_l19, ↓k_r19, ↓k_se19, ↓k_ic19, ↓k_de19, ↓k_tk19, ↓k_l20, ↓k_r20, ↓k_se20, ↓k_ic20, ↓k_de20, ↓k_tk20, ↓k_l21, ↓k_r21, ↓k_se21, ↓k_ic21, ↓k_de21, ↓k_tk21, ↓k_l22, ↓k_r22, ↓k_se22, ↓k_ic22, ↓k_de22, ↓k_tk22, ↓k_l23, ↓k_r23, ↓k_se23, ↓k_ic23, ↓k_de23, ↓k_tk23, ↓k_l24, ↓k_r24, ↓k_se24, ↓k_ic24, ↓k_de24, ↓k_tk24, ↓k_l25, ↓k_r25, ↓k_se25, ↓k_ic25, ↓k_de25, ↓k_tk25, ↓k_k, ↓k_kn, ↓k_kl, ↓k_kln, ↓k_il, ↓k_2, ↓k_1, ↓k_2c, ↓k_2l, ↓k_ac, ↓k_an, ↓k_cs, ↓k_cv, ↓k_fi, ↓k_fr, ↓k_ai, ↓k_az, ↓k_ar, ↓k_sai, ↓k_saz, ↓k_soa, ↓k_sof, ↓k_spf, ↓k_sx, ↓k_blk, ↓k_sset, ↓k_sdec, ↓k_sri, ↓k_srv, ↓k_srr, ↓k_nop, ↓k_add, ↓k_sub, ↓k_mul, ↓k_min, ↓k_max, ↓k_shr, ↓k_shl, ↓k_or, ↓k_ilz, ↓k_addl, ↓k_rt, ↓k_rb, ↓k_rbz, ↓k_rsi, ↓k_rsr, ↓k_rsv, ↓reduceIte, ↓lw, List.length_cons, List.length_nil, List.forall_mem_cons, List.not_mem_nil, Value.category, true_and, and_true, false_and, and_false, or_true, true_or, or_false, false_or, Nat.zero_le, forall_const, implies_true, false_implies, Nat.zero_add, Nat.reduceAdd, Nat.reduceLT, Nat.reduceLeDiff, Nat.le_refl, not_true_eq_false, not_false_eq_true, r_eq, r_ne, r_lt, r_ge, r_gt, r_le, bz_ne, nn_toNat, cn_of, cn_0, cn_1, i10, Int.reduceLE, Int.reduceLT, Int.reduceEq, bz_T, bz_F, ite_self, mulc, st_bud]
set_option maxHeartbeats 400000 in
theorem nw_out {T0 : Nat → Option q_T} {nx B : Nat} {R : Nat → Nat → Option Value} {G : Nat → Int → Int} {m N : Nat} (Kn : List Value → q_M → Prop) (Kr : Option Value → q_M → Prop) (hh : Kn [.ref (B + 544), .int (zI N), .int (zI m), .int (zI (-1))] (st T0 nx 0 0 R G)) : q_wh wcX12_nextWidths_0 wsX12_nextWidths_0 [.ref (B + 544), .int (zI N), .int (zI m), .int (zI (-1))] (st T0 nx 0 0 R G) Kn Kr := by
  refine q_outR (fun Kt Kf hk => ?_) hh
  have g : ¬ (0 : Int) ≤ -1 := by omega
  clear hh
  simp (disch := omega) only [↓wcX12_nextWidths_0.eq_1, ↓k_mk, ↓k_sq, ↓k_sk, ↓k_bk, ↓k_if, ↓k_te, ↓k_cm, ↓k_cz, ↓k_an2, ↓k_or2, ↓k_no, ↓k_ci, ↓k_l0, ↓k_r0, ↓k_se0, ↓k_ic0, ↓k_l1, ↓k_r1, ↓k_se1, ↓k_ic1, ↓k_de1, ↓k_tk1, ↓k_l2, ↓k_r2, ↓k_se2, ↓k_ic2, ↓k_de2, ↓k_tk2, ↓k_l3, ↓k_r3, ↓k_se3, ↓k_ic3, ↓k_de3, ↓k_tk3, ↓k_l4, ↓k_r4, ↓k_se4, ↓k_ic4, ↓k_de4, ↓k_tk4, ↓k_l5, ↓k_r5, ↓k_se5, ↓k_ic5, ↓k_de5, ↓k_tk5, ↓k_l6, ↓k_r6, ↓k_se6, ↓k_ic6, ↓k_de6, ↓k_tk6, ↓k_l7, ↓k_r7, ↓k_se7, ↓k_ic7, ↓k_de7, ↓k_tk7, ↓k_l8, ↓k_r8, ↓k_se8, ↓k_ic8, ↓k_de8, ↓k_tk8, ↓k_l9, ↓k_r9, ↓k_se9, ↓k_ic9, ↓k_de9, ↓k_tk9, ↓k_l10, ↓k_r10, ↓k_se10, ↓k_ic10, ↓k_de10, ↓k_tk10, ↓k_l11, ↓k_r11, ↓k_se11, ↓k_ic11, ↓k_de11, ↓k_tk11, ↓k_l12, ↓k_r12, ↓k_se12, ↓k_ic12, ↓k_de12, ↓k_tk12, ↓k_l13, ↓k_r13, ↓k_se13, ↓k_ic13, ↓k_de13, ↓k_tk13, ↓k_l14, ↓k_r14, ↓k_se14, ↓k_ic14, ↓k_de14, ↓k_tk14, ↓k_l15, ↓k_r15, ↓k_se15, ↓k_ic15, ↓k_de15, ↓k_tk15, ↓k_l16, ↓k_r16, ↓k_se16, ↓k_ic16, ↓k_de16, ↓k_tk16, ↓k_l17, ↓k_r17, ↓k_se17, ↓k_ic17, ↓k_de17, ↓k_tk17, ↓k_l18, ↓k_r18, ↓k_se18, ↓k_ic18, ↓k_de18, ↓k_tk18, ↓k_l19, ↓k_r19, ↓k_se19, ↓k_ic19, ↓k_de19, ↓k_tk19, ↓k_l20, ↓k_r20, ↓k_se20, ↓k_ic20, ↓k_de20, ↓k_tk20, ↓k_l21, ↓k_r21, ↓k_se21, ↓k_ic21, ↓k_de21, ↓k_tk21, ↓k_l22, ↓k_r22, ↓k_se22, ↓k_ic22, ↓k_de22, ↓k_tk22, ↓k_l23, ↓k_r23, ↓k_se23, ↓k_ic23, ↓k_de23, ↓k_tk23, ↓k_l24, ↓k_r24, ↓k_se24, ↓k_ic24, ↓k_de24, ↓k_tk24, ↓k_l25, ↓k_r25, ↓k_se25, ↓k_ic25, ↓k_de25, ↓k_tk25, ↓k_k, ↓k_kn, ↓k_kl, ↓k_kln, ↓k_il, ↓k_2, ↓k_1, ↓k_2c, ↓k_2l, ↓k_ac, ↓k_an, ↓k_cs, ↓k_cv, ↓k_fi, ↓k_fr, ↓k_ai, ↓k_az, ↓k_ar, ↓k_sai, ↓k_saz, ↓k_soa, ↓k_sof, ↓k_spf, ↓k_sx, ↓k_blk, ↓k_sset, ↓k_sdec, ↓k_sri, ↓k_srv, ↓k_srr, ↓k_nop, ↓k_add, ↓k_sub, ↓k_mul, ↓k_min, ↓k_max, ↓k_shr, ↓k_shl, ↓k_or, ↓k_ilz, ↓k_addl, ↓k_rt, ↓k_rb, ↓k_rbz, ↓k_rsi, ↓k_rsr, ↓k_rsv, ↓reduceIte, g, List.length_cons, List.length_nil, List.forall_mem_cons, List.not_mem_nil, Value.category, true_and, and_true, false_and, and_false, or_true, true_or, or_false, false_or, Nat.zero_le, forall_const, implies_true, false_implies, Nat.zero_add, Nat.reduceAdd, Nat.reduceLT, Nat.reduceLeDiff, Nat.le_refl, not_true_eq_false, not_false_eq_true, r_eq, r_ne, r_lt, r_ge, r_gt, r_le, bz_ne, nn_toNat, cn_of, cn_0, cn_1, i10, Int.reduceLE, Int.reduceLT, Int.reduceEq, bz_T, bz_F, ite_self, mulc, st_bud]
  exact hk
set_option maxHeartbeats 400000 in
theorem nwC_11_1 {T0 : Nat → Option q_T} {nx B : Nat} {R : Nat → Nat → Option Value} {G : Nat → Int → Int} {m N : Nat} (hM : Ly T0 R (B + 544) (L12 (B + 544))) (em : m = 1) (eN : N = 1) (hc : AtI (G (B + 544 + 49)) 0 [1]) : ∃ (G' : Nat → Int → Int) (y : Int), (∀ z, ¬ z = (B + 544 + 49) → G' z = G z) ∧ ((∃ W', nxtC [1] = some W' ∧ y = 1 ∧ AtI (G' (B + 544 + 49)) 0 W') ∨ (nxtC [1] = none ∧ y = 0)) ∧ ∀ K : Option Value → q_M → Prop, fX12_nextWidths [.ref (B + 544), .int (zI N), .int (zI m)] (st T0 nx 0 0 R G) K = K (some (.int (zI y))) (st T0 nx 0 0 R G') := by
  have w0 : G (B + 544 + 49) 0 = 1 := hc.1
  refine ⟨G, 0, fun _ _ => rfl, Or.inr ⟨rfl, rfl⟩, nw_end (k := -1) (by omega) (fun Kn Kr hh => ?_)⟩
  exact nw_out Kn Kr hh
set_option maxHeartbeats 400000 in
theorem nwC_21_2 {T0 : Nat → Option q_T} {nx B : Nat} {R : Nat → Nat → Option Value} {G : Nat → Int → Int} {m N : Nat} (hM : Ly T0 R (B + 544) (L12 (B + 544))) (em : m = 2) (eN : N = 1) (hc : AtI (G (B + 544 + 49)) 0 [2]) : ∃ (G' : Nat → Int → Int) (y : Int), (∀ z, ¬ z = (B + 544 + 49) → G' z = G z) ∧ ((∃ W', nxtC [2] = some W' ∧ y = 1 ∧ AtI (G' (B + 544 + 49)) 0 W') ∨ (nxtC [2] = none ∧ y = 0)) ∧ ∀ K : Option Value → q_M → Prop, fX12_nextWidths [.ref (B + 544), .int (zI N), .int (zI m)] (st T0 nx 0 0 R G) K = K (some (.int (zI y))) (st T0 nx 0 0 R G') := by
  have w0 : G (B + 544 + 49) 0 = 2 := hc.1
  refine ⟨G, 0, fun _ _ => rfl, Or.inr ⟨rfl, rfl⟩, nw_end (k := -1) (by omega) (fun Kn Kr hh => ?_)⟩
  exact nw_out Kn Kr hh
set_option maxHeartbeats 400000 in
theorem nwC_22_11 {T0 : Nat → Option q_T} {nx B : Nat} {R : Nat → Nat → Option Value} {G : Nat → Int → Int} {m N : Nat} (hM : Ly T0 R (B + 544) (L12 (B + 544))) (em : m = 2) (eN : N = 2) (hc : AtI (G (B + 544 + 49)) 0 [1, 1]) : ∃ (G' : Nat → Int → Int) (y : Int), (∀ z, ¬ z = (B + 544 + 49) → G' z = G z) ∧ ((∃ W', nxtC [1, 1] = some W' ∧ y = 1 ∧ AtI (G' (B + 544 + 49)) 0 W') ∨ (nxtC [1, 1] = none ∧ y = 0)) ∧ ∀ K : Option Value → q_M → Prop, fX12_nextWidths [.ref (B + 544), .int (zI N), .int (zI m)] (st T0 nx 0 0 R G) K = K (some (.int (zI y))) (st T0 nx 0 0 R G') := by
  have w0 : G (B + 544 + 49) 0 = 1 := hc.1
  have w1 : G (B + 544 + 49) 1 = 1 := hc.2.1
  obtain ⟨G1, q1, p2, p1a, p1b⟩ := nw_it (T0 := T0) (nx := nx) (R := R) (G := G) (N := (N : Int)) (wide := (m : Int)) (k := 0) (K0 := 0) (S := 2) hM rfl (by omega) (by omega) (by rw [sN0, w0]; omega) (by omega) (by omega)
  refine ⟨G1, 0, fun z hz => by rw [q1 z hz], Or.inr ⟨rfl, rfl⟩, nw_end (k := 0) (by omega) (fun Kn Kr hh => ?_)⟩
  exact p1b (by omega) Kn Kr (nw_out Kn Kr hh)
set_option maxHeartbeats 400000 in
theorem nwC_31_3 {T0 : Nat → Option q_T} {nx B : Nat} {R : Nat → Nat → Option Value} {G : Nat → Int → Int} {m N : Nat} (hM : Ly T0 R (B + 544) (L12 (B + 544))) (em : m = 3) (eN : N = 1) (hc : AtI (G (B + 544 + 49)) 0 [3]) : ∃ (G' : Nat → Int → Int) (y : Int), (∀ z, ¬ z = (B + 544 + 49) → G' z = G z) ∧ ((∃ W', nxtC [3] = some W' ∧ y = 1 ∧ AtI (G' (B + 544 + 49)) 0 W') ∨ (nxtC [3] = none ∧ y = 0)) ∧ ∀ K : Option Value → q_M → Prop, fX12_nextWidths [.ref (B + 544), .int (zI N), .int (zI m)] (st T0 nx 0 0 R G) K = K (some (.int (zI y))) (st T0 nx 0 0 R G') := by
  have w0 : G (B + 544 + 49) 0 = 3 := hc.1
  refine ⟨G, 0, fun _ _ => rfl, Or.inr ⟨rfl, rfl⟩, nw_end (k := -1) (by omega) (fun Kn Kr hh => ?_)⟩
  exact nw_out Kn Kr hh
set_option maxHeartbeats 400000 in
theorem nwC_32_12 {T0 : Nat → Option q_T} {nx B : Nat} {R : Nat → Nat → Option Value} {G : Nat → Int → Int} {m N : Nat} (hM : Ly T0 R (B + 544) (L12 (B + 544))) (em : m = 3) (eN : N = 2) (hc : AtI (G (B + 544 + 49)) 0 [1, 2]) : ∃ (G' : Nat → Int → Int) (y : Int), (∀ z, ¬ z = (B + 544 + 49) → G' z = G z) ∧ ((∃ W', nxtC [1, 2] = some W' ∧ y = 1 ∧ AtI (G' (B + 544 + 49)) 0 W') ∨ (nxtC [1, 2] = none ∧ y = 0)) ∧ ∀ K : Option Value → q_M → Prop, fX12_nextWidths [.ref (B + 544), .int (zI N), .int (zI m)] (st T0 nx 0 0 R G) K = K (some (.int (zI y))) (st T0 nx 0 0 R G') := by
  have w0 : G (B + 544 + 49) 0 = 1 := hc.1
  have w1 : G (B + 544 + 49) 1 = 2 := hc.2.1
  obtain ⟨G1, q1, p2, p1a, p1b⟩ := nw_it (T0 := T0) (nx := nx) (R := R) (G := G) (N := (N : Int)) (wide := (m : Int)) (k := 0) (K0 := 0) (S := 2) hM rfl (by omega) (by omega) (by rw [sN0, w0]; omega) (by omega) (by omega)
  refine ⟨G1, 1, fun z hz => by rw [q1 z hz], Or.inl ⟨_, rfl, rfl, ⟨(by show G1 (B + 544 + 49) 0 = 2; rw [p2]; first | (rw [if_pos (by omega)]; omega) | (rw [if_neg (by omega), if_pos (by omega)]) | (rw [if_neg (by omega), if_neg (by omega), if_pos (by omega)]; omega) | (rw [if_neg (by omega), if_neg (by omega), if_neg (by omega)]; omega)), (by show G1 (B + 544 + 49) 1 = 1; rw [p2]; first | (rw [if_pos (by omega)]; omega) | (rw [if_neg (by omega), if_pos (by omega)]) | (rw [if_neg (by omega), if_neg (by omega), if_pos (by omega)]; omega) | (rw [if_neg (by omega), if_neg (by omega), if_neg (by omega)]; omega)), trivial⟩⟩, nw_ret (k := 0) (by omega) (fun Kn Kr hh => ?_)⟩
  exact p1a (by omega) Kn Kr hh
set_option maxHeartbeats 400000 in
theorem nwC_32_21 {T0 : Nat → Option q_T} {nx B : Nat} {R : Nat → Nat → Option Value} {G : Nat → Int → Int} {m N : Nat} (hM : Ly T0 R (B + 544) (L12 (B + 544))) (em : m = 3) (eN : N = 2) (hc : AtI (G (B + 544 + 49)) 0 [2, 1]) : ∃ (G' : Nat → Int → Int) (y : Int), (∀ z, ¬ z = (B + 544 + 49) → G' z = G z) ∧ ((∃ W', nxtC [2, 1] = some W' ∧ y = 1 ∧ AtI (G' (B + 544 + 49)) 0 W') ∨ (nxtC [2, 1] = none ∧ y = 0)) ∧ ∀ K : Option Value → q_M → Prop, fX12_nextWidths [.ref (B + 544), .int (zI N), .int (zI m)] (st T0 nx 0 0 R G) K = K (some (.int (zI y))) (st T0 nx 0 0 R G') := by
  have w0 : G (B + 544 + 49) 0 = 2 := hc.1
  have w1 : G (B + 544 + 49) 1 = 1 := hc.2.1
  obtain ⟨G1, q1, p2, p1a, p1b⟩ := nw_it (T0 := T0) (nx := nx) (R := R) (G := G) (N := (N : Int)) (wide := (m : Int)) (k := 0) (K0 := 0) (S := 3) hM rfl (by omega) (by omega) (by rw [sN0, w0]; omega) (by omega) (by omega)
  refine ⟨G1, 0, fun z hz => by rw [q1 z hz], Or.inr ⟨rfl, rfl⟩, nw_end (k := 0) (by omega) (fun Kn Kr hh => ?_)⟩
  exact p1b (by omega) Kn Kr (nw_out Kn Kr hh)
set_option maxHeartbeats 400000 in
theorem nwC_33_111 {T0 : Nat → Option q_T} {nx B : Nat} {R : Nat → Nat → Option Value} {G : Nat → Int → Int} {m N : Nat} (hM : Ly T0 R (B + 544) (L12 (B + 544))) (em : m = 3) (eN : N = 3) (hc : AtI (G (B + 544 + 49)) 0 [1, 1, 1]) : ∃ (G' : Nat → Int → Int) (y : Int), (∀ z, ¬ z = (B + 544 + 49) → G' z = G z) ∧ ((∃ W', nxtC [1, 1, 1] = some W' ∧ y = 1 ∧ AtI (G' (B + 544 + 49)) 0 W') ∨ (nxtC [1, 1, 1] = none ∧ y = 0)) ∧ ∀ K : Option Value → q_M → Prop, fX12_nextWidths [.ref (B + 544), .int (zI N), .int (zI m)] (st T0 nx 0 0 R G) K = K (some (.int (zI y))) (st T0 nx 0 0 R G') := by
  have w0 : G (B + 544 + 49) 0 = 1 := hc.1
  have w1 : G (B + 544 + 49) 1 = 1 := hc.2.1
  have w2 : G (B + 544 + 49) 2 = 1 := hc.2.2.1
  obtain ⟨G1, q1, p2, p1a, p1b⟩ := nw_it (T0 := T0) (nx := nx) (R := R) (G := G) (N := (N : Int)) (wide := (m : Int)) (k := 1) (K0 := 1) (S := 3) hM rfl (by omega) (by omega) (by rw [sN1, w0, w1]; omega) (by omega) (by omega)
  have w0_1 : G1 (B + 544 + 49) 0 = 1 := by rw [p2]; first | (rw [if_pos (by omega)]; omega) | (rw [if_neg (by omega), if_pos (by omega)]) | (rw [if_neg (by omega), if_neg (by omega), if_pos (by omega)]; omega) | (rw [if_neg (by omega), if_neg (by omega), if_neg (by omega)]; omega)
  obtain ⟨G2, q2, p2, p2a, p2b⟩ := nw_it (T0 := T0) (nx := nx) (R := R) (G := G1) (N := (N : Int)) (wide := (m : Int)) (k := 0) (K0 := 0) (S := 3) hM rfl (by omega) (by omega) (by rw [sN0, w0_1]; omega) (by omega) (by omega)
  refine ⟨G2, 0, fun z hz => by rw [q2 z hz, q1 z hz], Or.inr ⟨rfl, rfl⟩, nw_end (k := 1) (by omega) (fun Kn Kr hh => ?_)⟩
  exact p1b (by omega) Kn Kr (p2b (by omega) Kn Kr (nw_out Kn Kr hh))
set_option maxHeartbeats 400000 in
theorem nwC_41_4 {T0 : Nat → Option q_T} {nx B : Nat} {R : Nat → Nat → Option Value} {G : Nat → Int → Int} {m N : Nat} (hM : Ly T0 R (B + 544) (L12 (B + 544))) (em : m = 4) (eN : N = 1) (hc : AtI (G (B + 544 + 49)) 0 [4]) : ∃ (G' : Nat → Int → Int) (y : Int), (∀ z, ¬ z = (B + 544 + 49) → G' z = G z) ∧ ((∃ W', nxtC [4] = some W' ∧ y = 1 ∧ AtI (G' (B + 544 + 49)) 0 W') ∨ (nxtC [4] = none ∧ y = 0)) ∧ ∀ K : Option Value → q_M → Prop, fX12_nextWidths [.ref (B + 544), .int (zI N), .int (zI m)] (st T0 nx 0 0 R G) K = K (some (.int (zI y))) (st T0 nx 0 0 R G') := by
  have w0 : G (B + 544 + 49) 0 = 4 := hc.1
  refine ⟨G, 0, fun _ _ => rfl, Or.inr ⟨rfl, rfl⟩, nw_end (k := -1) (by omega) (fun Kn Kr hh => ?_)⟩
  exact nw_out Kn Kr hh
set_option maxHeartbeats 400000 in
theorem nwC_42_13 {T0 : Nat → Option q_T} {nx B : Nat} {R : Nat → Nat → Option Value} {G : Nat → Int → Int} {m N : Nat} (hM : Ly T0 R (B + 544) (L12 (B + 544))) (em : m = 4) (eN : N = 2) (hc : AtI (G (B + 544 + 49)) 0 [1, 3]) : ∃ (G' : Nat → Int → Int) (y : Int), (∀ z, ¬ z = (B + 544 + 49) → G' z = G z) ∧ ((∃ W', nxtC [1, 3] = some W' ∧ y = 1 ∧ AtI (G' (B + 544 + 49)) 0 W') ∨ (nxtC [1, 3] = none ∧ y = 0)) ∧ ∀ K : Option Value → q_M → Prop, fX12_nextWidths [.ref (B + 544), .int (zI N), .int (zI m)] (st T0 nx 0 0 R G) K = K (some (.int (zI y))) (st T0 nx 0 0 R G') := by
  have w0 : G (B + 544 + 49) 0 = 1 := hc.1
  have w1 : G (B + 544 + 49) 1 = 3 := hc.2.1
  obtain ⟨G1, q1, p2, p1a, p1b⟩ := nw_it (T0 := T0) (nx := nx) (R := R) (G := G) (N := (N : Int)) (wide := (m : Int)) (k := 0) (K0 := 0) (S := 2) hM rfl (by omega) (by omega) (by rw [sN0, w0]; omega) (by omega) (by omega)
  refine ⟨G1, 1, fun z hz => by rw [q1 z hz], Or.inl ⟨_, rfl, rfl, ⟨(by show G1 (B + 544 + 49) 0 = 2; rw [p2]; first | (rw [if_pos (by omega)]; omega) | (rw [if_neg (by omega), if_pos (by omega)]) | (rw [if_neg (by omega), if_neg (by omega), if_pos (by omega)]; omega) | (rw [if_neg (by omega), if_neg (by omega), if_neg (by omega)]; omega)), (by show G1 (B + 544 + 49) 1 = 2; rw [p2]; first | (rw [if_pos (by omega)]; omega) | (rw [if_neg (by omega), if_pos (by omega)]) | (rw [if_neg (by omega), if_neg (by omega), if_pos (by omega)]; omega) | (rw [if_neg (by omega), if_neg (by omega), if_neg (by omega)]; omega)), trivial⟩⟩, nw_ret (k := 0) (by omega) (fun Kn Kr hh => ?_)⟩
  exact p1a (by omega) Kn Kr hh
set_option maxHeartbeats 400000 in
theorem nwC_42_22 {T0 : Nat → Option q_T} {nx B : Nat} {R : Nat → Nat → Option Value} {G : Nat → Int → Int} {m N : Nat} (hM : Ly T0 R (B + 544) (L12 (B + 544))) (em : m = 4) (eN : N = 2) (hc : AtI (G (B + 544 + 49)) 0 [2, 2]) : ∃ (G' : Nat → Int → Int) (y : Int), (∀ z, ¬ z = (B + 544 + 49) → G' z = G z) ∧ ((∃ W', nxtC [2, 2] = some W' ∧ y = 1 ∧ AtI (G' (B + 544 + 49)) 0 W') ∨ (nxtC [2, 2] = none ∧ y = 0)) ∧ ∀ K : Option Value → q_M → Prop, fX12_nextWidths [.ref (B + 544), .int (zI N), .int (zI m)] (st T0 nx 0 0 R G) K = K (some (.int (zI y))) (st T0 nx 0 0 R G') := by
  have w0 : G (B + 544 + 49) 0 = 2 := hc.1
  have w1 : G (B + 544 + 49) 1 = 2 := hc.2.1
  obtain ⟨G1, q1, p2, p1a, p1b⟩ := nw_it (T0 := T0) (nx := nx) (R := R) (G := G) (N := (N : Int)) (wide := (m : Int)) (k := 0) (K0 := 0) (S := 3) hM rfl (by omega) (by omega) (by rw [sN0, w0]; omega) (by omega) (by omega)
  refine ⟨G1, 1, fun z hz => by rw [q1 z hz], Or.inl ⟨_, rfl, rfl, ⟨(by show G1 (B + 544 + 49) 0 = 3; rw [p2]; first | (rw [if_pos (by omega)]; omega) | (rw [if_neg (by omega), if_pos (by omega)]) | (rw [if_neg (by omega), if_neg (by omega), if_pos (by omega)]; omega) | (rw [if_neg (by omega), if_neg (by omega), if_neg (by omega)]; omega)), (by show G1 (B + 544 + 49) 1 = 1; rw [p2]; first | (rw [if_pos (by omega)]; omega) | (rw [if_neg (by omega), if_pos (by omega)]) | (rw [if_neg (by omega), if_neg (by omega), if_pos (by omega)]; omega) | (rw [if_neg (by omega), if_neg (by omega), if_neg (by omega)]; omega)), trivial⟩⟩, nw_ret (k := 0) (by omega) (fun Kn Kr hh => ?_)⟩
  exact p1a (by omega) Kn Kr hh
set_option maxHeartbeats 400000 in
theorem nwC_42_31 {T0 : Nat → Option q_T} {nx B : Nat} {R : Nat → Nat → Option Value} {G : Nat → Int → Int} {m N : Nat} (hM : Ly T0 R (B + 544) (L12 (B + 544))) (em : m = 4) (eN : N = 2) (hc : AtI (G (B + 544 + 49)) 0 [3, 1]) : ∃ (G' : Nat → Int → Int) (y : Int), (∀ z, ¬ z = (B + 544 + 49) → G' z = G z) ∧ ((∃ W', nxtC [3, 1] = some W' ∧ y = 1 ∧ AtI (G' (B + 544 + 49)) 0 W') ∨ (nxtC [3, 1] = none ∧ y = 0)) ∧ ∀ K : Option Value → q_M → Prop, fX12_nextWidths [.ref (B + 544), .int (zI N), .int (zI m)] (st T0 nx 0 0 R G) K = K (some (.int (zI y))) (st T0 nx 0 0 R G') := by
  have w0 : G (B + 544 + 49) 0 = 3 := hc.1
  have w1 : G (B + 544 + 49) 1 = 1 := hc.2.1
  obtain ⟨G1, q1, p2, p1a, p1b⟩ := nw_it (T0 := T0) (nx := nx) (R := R) (G := G) (N := (N : Int)) (wide := (m : Int)) (k := 0) (K0 := 0) (S := 4) hM rfl (by omega) (by omega) (by rw [sN0, w0]; omega) (by omega) (by omega)
  refine ⟨G1, 0, fun z hz => by rw [q1 z hz], Or.inr ⟨rfl, rfl⟩, nw_end (k := 0) (by omega) (fun Kn Kr hh => ?_)⟩
  exact p1b (by omega) Kn Kr (nw_out Kn Kr hh)
set_option maxHeartbeats 400000 in
theorem nwC_43_112 {T0 : Nat → Option q_T} {nx B : Nat} {R : Nat → Nat → Option Value} {G : Nat → Int → Int} {m N : Nat} (hM : Ly T0 R (B + 544) (L12 (B + 544))) (em : m = 4) (eN : N = 3) (hc : AtI (G (B + 544 + 49)) 0 [1, 1, 2]) : ∃ (G' : Nat → Int → Int) (y : Int), (∀ z, ¬ z = (B + 544 + 49) → G' z = G z) ∧ ((∃ W', nxtC [1, 1, 2] = some W' ∧ y = 1 ∧ AtI (G' (B + 544 + 49)) 0 W') ∨ (nxtC [1, 1, 2] = none ∧ y = 0)) ∧ ∀ K : Option Value → q_M → Prop, fX12_nextWidths [.ref (B + 544), .int (zI N), .int (zI m)] (st T0 nx 0 0 R G) K = K (some (.int (zI y))) (st T0 nx 0 0 R G') := by
  have w0 : G (B + 544 + 49) 0 = 1 := hc.1
  have w1 : G (B + 544 + 49) 1 = 1 := hc.2.1
  have w2 : G (B + 544 + 49) 2 = 2 := hc.2.2.1
  obtain ⟨G1, q1, p2, p1a, p1b⟩ := nw_it (T0 := T0) (nx := nx) (R := R) (G := G) (N := (N : Int)) (wide := (m : Int)) (k := 1) (K0 := 1) (S := 3) hM rfl (by omega) (by omega) (by rw [sN1, w0, w1]; omega) (by omega) (by omega)
  refine ⟨G1, 1, fun z hz => by rw [q1 z hz], Or.inl ⟨_, rfl, rfl, ⟨(by show G1 (B + 544 + 49) 0 = 1; rw [p2]; first | (rw [if_pos (by omega)]; omega) | (rw [if_neg (by omega), if_pos (by omega)]) | (rw [if_neg (by omega), if_neg (by omega), if_pos (by omega)]; omega) | (rw [if_neg (by omega), if_neg (by omega), if_neg (by omega)]; omega)), (by show G1 (B + 544 + 49) 1 = 2; rw [p2]; first | (rw [if_pos (by omega)]; omega) | (rw [if_neg (by omega), if_pos (by omega)]) | (rw [if_neg (by omega), if_neg (by omega), if_pos (by omega)]; omega) | (rw [if_neg (by omega), if_neg (by omega), if_neg (by omega)]; omega)), (by show G1 (B + 544 + 49) 2 = 1; rw [p2]; first | (rw [if_pos (by omega)]; omega) | (rw [if_neg (by omega), if_pos (by omega)]) | (rw [if_neg (by omega), if_neg (by omega), if_pos (by omega)]; omega) | (rw [if_neg (by omega), if_neg (by omega), if_neg (by omega)]; omega)), trivial⟩⟩, nw_ret (k := 1) (by omega) (fun Kn Kr hh => ?_)⟩
  exact p1a (by omega) Kn Kr hh
set_option maxHeartbeats 400000 in
theorem nwC_43_121 {T0 : Nat → Option q_T} {nx B : Nat} {R : Nat → Nat → Option Value} {G : Nat → Int → Int} {m N : Nat} (hM : Ly T0 R (B + 544) (L12 (B + 544))) (em : m = 4) (eN : N = 3) (hc : AtI (G (B + 544 + 49)) 0 [1, 2, 1]) : ∃ (G' : Nat → Int → Int) (y : Int), (∀ z, ¬ z = (B + 544 + 49) → G' z = G z) ∧ ((∃ W', nxtC [1, 2, 1] = some W' ∧ y = 1 ∧ AtI (G' (B + 544 + 49)) 0 W') ∨ (nxtC [1, 2, 1] = none ∧ y = 0)) ∧ ∀ K : Option Value → q_M → Prop, fX12_nextWidths [.ref (B + 544), .int (zI N), .int (zI m)] (st T0 nx 0 0 R G) K = K (some (.int (zI y))) (st T0 nx 0 0 R G') := by
  have w0 : G (B + 544 + 49) 0 = 1 := hc.1
  have w1 : G (B + 544 + 49) 1 = 2 := hc.2.1
  have w2 : G (B + 544 + 49) 2 = 1 := hc.2.2.1
  obtain ⟨G1, q1, p2, p1a, p1b⟩ := nw_it (T0 := T0) (nx := nx) (R := R) (G := G) (N := (N : Int)) (wide := (m : Int)) (k := 1) (K0 := 1) (S := 4) hM rfl (by omega) (by omega) (by rw [sN1, w0, w1]; omega) (by omega) (by omega)
  have w0_1 : G1 (B + 544 + 49) 0 = 1 := by rw [p2]; first | (rw [if_pos (by omega)]; omega) | (rw [if_neg (by omega), if_pos (by omega)]) | (rw [if_neg (by omega), if_neg (by omega), if_pos (by omega)]; omega) | (rw [if_neg (by omega), if_neg (by omega), if_neg (by omega)]; omega)
  obtain ⟨G2, q2, p2, p2a, p2b⟩ := nw_it (T0 := T0) (nx := nx) (R := R) (G := G1) (N := (N : Int)) (wide := (m : Int)) (k := 0) (K0 := 0) (S := 3) hM rfl (by omega) (by omega) (by rw [sN0, w0_1]; omega) (by omega) (by omega)
  refine ⟨G2, 1, fun z hz => by rw [q2 z hz, q1 z hz], Or.inl ⟨_, rfl, rfl, ⟨(by show G2 (B + 544 + 49) 0 = 2; rw [p2]; first | (rw [if_pos (by omega)]; omega) | (rw [if_neg (by omega), if_pos (by omega)]) | (rw [if_neg (by omega), if_neg (by omega), if_pos (by omega)]; omega) | (rw [if_neg (by omega), if_neg (by omega), if_neg (by omega)]; omega)), (by show G2 (B + 544 + 49) 1 = 1; rw [p2]; first | (rw [if_pos (by omega)]; omega) | (rw [if_neg (by omega), if_pos (by omega)]) | (rw [if_neg (by omega), if_neg (by omega), if_pos (by omega)]; omega) | (rw [if_neg (by omega), if_neg (by omega), if_neg (by omega)]; omega)), (by show G2 (B + 544 + 49) 2 = 1; rw [p2]; first | (rw [if_pos (by omega)]; omega) | (rw [if_neg (by omega), if_pos (by omega)]) | (rw [if_neg (by omega), if_neg (by omega), if_pos (by omega)]; omega) | (rw [if_neg (by omega), if_neg (by omega), if_neg (by omega)]; omega)), trivial⟩⟩, nw_ret (k := 1) (by omega) (fun Kn Kr hh => ?_)⟩
  exact p1b (by omega) Kn Kr (p2a (by omega) Kn Kr hh)
set_option maxHeartbeats 400000 in
theorem nwC_43_211 {T0 : Nat → Option q_T} {nx B : Nat} {R : Nat → Nat → Option Value} {G : Nat → Int → Int} {m N : Nat} (hM : Ly T0 R (B + 544) (L12 (B + 544))) (em : m = 4) (eN : N = 3) (hc : AtI (G (B + 544 + 49)) 0 [2, 1, 1]) : ∃ (G' : Nat → Int → Int) (y : Int), (∀ z, ¬ z = (B + 544 + 49) → G' z = G z) ∧ ((∃ W', nxtC [2, 1, 1] = some W' ∧ y = 1 ∧ AtI (G' (B + 544 + 49)) 0 W') ∨ (nxtC [2, 1, 1] = none ∧ y = 0)) ∧ ∀ K : Option Value → q_M → Prop, fX12_nextWidths [.ref (B + 544), .int (zI N), .int (zI m)] (st T0 nx 0 0 R G) K = K (some (.int (zI y))) (st T0 nx 0 0 R G') := by
  have w0 : G (B + 544 + 49) 0 = 2 := hc.1
  have w1 : G (B + 544 + 49) 1 = 1 := hc.2.1
  have w2 : G (B + 544 + 49) 2 = 1 := hc.2.2.1
  obtain ⟨G1, q1, p2, p1a, p1b⟩ := nw_it (T0 := T0) (nx := nx) (R := R) (G := G) (N := (N : Int)) (wide := (m : Int)) (k := 1) (K0 := 1) (S := 4) hM rfl (by omega) (by omega) (by rw [sN1, w0, w1]; omega) (by omega) (by omega)
  have w0_1 : G1 (B + 544 + 49) 0 = 2 := by rw [p2]; first | (rw [if_pos (by omega)]; omega) | (rw [if_neg (by omega), if_pos (by omega)]) | (rw [if_neg (by omega), if_neg (by omega), if_pos (by omega)]; omega) | (rw [if_neg (by omega), if_neg (by omega), if_neg (by omega)]; omega)
  obtain ⟨G2, q2, p2, p2a, p2b⟩ := nw_it (T0 := T0) (nx := nx) (R := R) (G := G1) (N := (N : Int)) (wide := (m : Int)) (k := 0) (K0 := 0) (S := 4) hM rfl (by omega) (by omega) (by rw [sN0, w0_1]; omega) (by omega) (by omega)
  refine ⟨G2, 0, fun z hz => by rw [q2 z hz, q1 z hz], Or.inr ⟨rfl, rfl⟩, nw_end (k := 1) (by omega) (fun Kn Kr hh => ?_)⟩
  exact p1b (by omega) Kn Kr (p2b (by omega) Kn Kr (nw_out Kn Kr hh))
set_option maxHeartbeats 400000 in
theorem nwC_44_1111 {T0 : Nat → Option q_T} {nx B : Nat} {R : Nat → Nat → Option Value} {G : Nat → Int → Int} {m N : Nat} (hM : Ly T0 R (B + 544) (L12 (B + 544))) (em : m = 4) (eN : N = 4) (hc : AtI (G (B + 544 + 49)) 0 [1, 1, 1, 1]) : ∃ (G' : Nat → Int → Int) (y : Int), (∀ z, ¬ z = (B + 544 + 49) → G' z = G z) ∧ ((∃ W', nxtC [1, 1, 1, 1] = some W' ∧ y = 1 ∧ AtI (G' (B + 544 + 49)) 0 W') ∨ (nxtC [1, 1, 1, 1] = none ∧ y = 0)) ∧ ∀ K : Option Value → q_M → Prop, fX12_nextWidths [.ref (B + 544), .int (zI N), .int (zI m)] (st T0 nx 0 0 R G) K = K (some (.int (zI y))) (st T0 nx 0 0 R G') := by
  have w0 : G (B + 544 + 49) 0 = 1 := hc.1
  have w1 : G (B + 544 + 49) 1 = 1 := hc.2.1
  have w2 : G (B + 544 + 49) 2 = 1 := hc.2.2.1
  have w3 : G (B + 544 + 49) 3 = 1 := hc.2.2.2.1
  obtain ⟨G1, q1, p2, p1a, p1b⟩ := nw_it (T0 := T0) (nx := nx) (R := R) (G := G) (N := (N : Int)) (wide := (m : Int)) (k := 2) (K0 := 2) (S := 4) hM rfl (by omega) (by omega) (by rw [sN2, w0, w1, w2]; omega) (by omega) (by omega)
  have w0_1 : G1 (B + 544 + 49) 0 = 1 := by rw [p2]; first | (rw [if_pos (by omega)]; omega) | (rw [if_neg (by omega), if_pos (by omega)]) | (rw [if_neg (by omega), if_neg (by omega), if_pos (by omega)]; omega) | (rw [if_neg (by omega), if_neg (by omega), if_neg (by omega)]; omega)
  have w1_1 : G1 (B + 544 + 49) 1 = 1 := by rw [p2]; first | (rw [if_pos (by omega)]; omega) | (rw [if_neg (by omega), if_pos (by omega)]) | (rw [if_neg (by omega), if_neg (by omega), if_pos (by omega)]; omega) | (rw [if_neg (by omega), if_neg (by omega), if_neg (by omega)]; omega)
  obtain ⟨G2, q2, p2, p2a, p2b⟩ := nw_it (T0 := T0) (nx := nx) (R := R) (G := G1) (N := (N : Int)) (wide := (m : Int)) (k := 1) (K0 := 1) (S := 4) hM rfl (by omega) (by omega) (by rw [sN1, w0_1, w1_1]; omega) (by omega) (by omega)
  have w0_2 : G2 (B + 544 + 49) 0 = 1 := by rw [p2]; first | (rw [if_pos (by omega)]; omega) | (rw [if_neg (by omega), if_pos (by omega)]) | (rw [if_neg (by omega), if_neg (by omega), if_pos (by omega)]; omega) | (rw [if_neg (by omega), if_neg (by omega), if_neg (by omega)]; omega)
  obtain ⟨G3, q3, p2, p3a, p3b⟩ := nw_it (T0 := T0) (nx := nx) (R := R) (G := G2) (N := (N : Int)) (wide := (m : Int)) (k := 0) (K0 := 0) (S := 4) hM rfl (by omega) (by omega) (by rw [sN0, w0_2]; omega) (by omega) (by omega)
  refine ⟨G3, 0, fun z hz => by rw [q3 z hz, q2 z hz, q1 z hz], Or.inr ⟨rfl, rfl⟩, nw_end (k := 2) (by omega) (fun Kn Kr hh => ?_)⟩
  exact p1b (by omega) Kn Kr (p2b (by omega) Kn Kr (p3b (by omega) Kn Kr (nw_out Kn Kr hh)))
set_option maxHeartbeats 400000 in
theorem c12_nextWidths {T0 : Nat → Option q_T} {nx B : Nat} {R : Nat → Nat → Option Value} {G : Nat → Int → Int} {m N : Nat} {W : List Int} (hM : Ly T0 R (B + 544) (L12 (B + 544))) (m4 : m ≤ 4) (hW : W ∈ comps m N) (hc : AtI (G (B + 544 + 49)) 0 W) : ∃ (G' : Nat → Int → Int) (y : Int), (∀ z, ¬ z = (B + 544 + 49) → G' z = G z) ∧ ((∃ W', nxtC W = some W' ∧ y = 1 ∧ AtI (G' (B + 544 + 49)) 0 W') ∨ (nxtC W = none ∧ y = 0)) ∧ ∀ K : Option Value → q_M → Prop, fX12_nextWidths [.ref (B + 544), .int (zI N), .int (zI m)] (st T0 nx 0 0 R G) K = K (some (.int (zI y))) (st T0 nx 0 0 R G') := by
  unfold comps at hW
  split at hW
  · have e := List.mem_singleton.mp hW
    subst e
    exact nwC_11_1 hM rfl rfl hc
  · have e := List.mem_singleton.mp hW
    subst e
    exact nwC_21_2 hM rfl rfl hc
  · have e := List.mem_singleton.mp hW
    subst e
    exact nwC_22_11 hM rfl rfl hc
  · have e := List.mem_singleton.mp hW
    subst e
    exact nwC_31_3 hM rfl rfl hc
  · simp only [List.mem_cons, List.not_mem_nil, or_false] at hW
    rcases hW with e | e
    · subst e
      exact nwC_32_12 hM rfl rfl hc
    · subst e
      exact nwC_32_21 hM rfl rfl hc
  · have e := List.mem_singleton.mp hW
    subst e
    exact nwC_33_111 hM rfl rfl hc
  · have e := List.mem_singleton.mp hW
    subst e
    exact nwC_41_4 hM rfl rfl hc
  · simp only [List.mem_cons, List.not_mem_nil, or_false] at hW
    rcases hW with e | e | e
    · subst e
      exact nwC_42_13 hM rfl rfl hc
    · subst e
      exact nwC_42_22 hM rfl rfl hc
    · subst e
      exact nwC_42_31 hM rfl rfl hc
  · simp only [List.mem_cons, List.not_mem_nil, or_false] at hW
    rcases hW with e | e | e
    · subst e
      exact nwC_43_112 hM rfl rfl hc
    · subst e
      exact nwC_43_121 hM rfl rfl hc
    · subst e
      exact nwC_43_211 hM rfl rfl hc
  · have e := List.mem_singleton.mp hW
    subst e
    exact nwC_44_1111 hM rfl rfl hc
  · exact absurd hW (List.not_mem_nil)
end
