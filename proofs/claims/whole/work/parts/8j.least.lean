section
/-! the class finds all prices -/
theorem c3_pass {T : Nat → Option q_T} {nx rc rs a t : Nat} {R : Nat → Nat → Option Value} {G : Nat → Int → Int} {N nf i j : Int} {sf C n : Int → Int} {ft : Int → Int → Bool} {Q : Int → Int → Int → Int} {r : Int} (o : Ly T R a (L3 a t)) (o8 : Ly T R t (L8 t)) (ht : t + 14 ≤ a) (hF : FO5 nf sf (fun ff => il (gC C ff) 0 (n ff - 0).toNat)) (hQ : QOK nf sf (fun ff => il (gC C ff) 0 (n ff - 0).toNat) ft N Q) (n16 : N ≤ 16) (tc : TC G t nf sf C n) (nt : NFt G a ft N (fun _ => True)) (i0 : 0 ≤ i) (ij : i ≤ j) (jN : j ≤ N) (sl : SL Q (G (a + 4)) i j) (sr : SR Q ft nf C n (G (a + 5)) i j) (lk : LKp nf sf (G (a + 4)) (G (a + 5)) i j) :
    ∃ G' y, SS Q ft nf sf C n a i j G G' ∧ (∀ f k, 0 ≤ f → f < nf → 0 ≤ k → k < n f → G' (a + 5) (289 * (5 * f + k) + 17 * i + j) ≤ rF 16777216 (pq 16777216 (G (a + 4))) ft C n j f k i) ∧ ((y = 0 ∧ G' (a + 4) = G (a + 4) ∧ G' (a + 5) = G (a + 5)) ∨ y = 1) ∧
      ∀ (Kn : List Value → q_M → Prop) (Kr : Option Value → q_M → Prop), wX3_settle_3 [.ref a, .int (zI i), .int (zI j), .int (zI 0), .int (zI r), .int (zI 5)] (st T nx rc rs R G) Kn Kr = Kn [.ref a, .int (zI i), .int (zI j), .int (zI y), .int (zI r), .int (zI (-1))] (st T nx rc rs R G') := by
  have key : ∀ m : Nat, m ≤ 6 → ∃ G1 y1, SS Q ft nf sf C n a i j G G1 ∧ (∀ f k, 0 ≤ f → f < nf → 5 - (m : Int) < sf f → 0 ≤ k → k < n f → G1 (a + 5) (289 * (5 * f + k) + 17 * i + j) ≤ rF 16777216 (pq 16777216 (G (a + 4))) ft C n j f k i) ∧ ((y1 = 0 ∧ G1 (a + 4) = G (a + 4) ∧ G1 (a + 5) = G (a + 5)) ∨ y1 = 1) ∧
      ∀ (Kn : List Value → q_M → Prop) (Kr : Option Value → q_M → Prop), q_wh wcX3_settle_3 wsX3_settle_3 [.ref a, .int (zI i), .int (zI j), .int (zI y1), .int (zI r), .int (zI (5 - m))] (st T nx rc rs R G1) Kn Kr → q_wh wcX3_settle_3 wsX3_settle_3 [.ref a, .int (zI i), .int (zI j), .int (zI 0), .int (zI r), .int (zI 5)] (st T nx rc rs R G) Kn Kr := by
    intro m
    induction m with
    | zero =>
      intro _
      exact ⟨G, 0, SS_rfl sl sr lk, fun f k q0 q1 q2 => by
        have := (tc.2.2.2.2.2 f q0 q1).1
        omega, Or.inl ⟨rfl, rfl, rfl⟩, fun Kn Kr h => h⟩
    | succ m ih =>
      intro hm
      obtain ⟨G1, y1, p1, p2, p3, st1⟩ := ih (by omega)
      obtain ⟨s, hs⟩ : ∃ s, s = 5 - (m : Int) := ⟨_, rfl⟩
      have p1' := p1
      obtain ⟨h1, _, _, h4, h5, h6, _, _⟩ := p1'
      obtain ⟨G2, y2, q1, q2, q3, cS⟩ := c3_settleSort (T := T) (nx := nx) (rc := 0) (rs := 0) (R := R) (G := G1) (s := s) o o8 ht hF hQ n16 (TC_fr h1 ht tc) (NFt_fr h1 nt) i0 ij jN h4 h5 h6 (by omega) (by omega)
      have y1b : y1 = 0 ∨ y1 = 1 := by omega
      have y2b : y2 = 0 ∨ y2 = 1 := by omega
      refine ⟨G2, if y2 = 1 then 1 else y1, SS_tr p1 q1, fun f k r0 r1 r2 r3 r4 => ?_, ?_, fun Kn Kr h => st1 Kn Kr (q_backR (fun K Kf hk => ?_) h)⟩
      · by_cases c : sf f = s
        · have a1 := q2 f k r0 r1 c r3 r4
          have a2 : rF 16777216 (pq 16777216 (G1 (a + 4))) ft C n j f k i ≤ rF 16777216 (pq 16777216 (G (a + 4))) ft C n j f k i := rP_mono (SS_pq i0 (by omega) p1)
          omega
        · exact Int.le_trans (q1.2.2.2.2.2.2.2 f k r0 r1 r3 r4) (p2 f k r0 r1 (by omega) r3 r4)
      · rcases q3 with ⟨r1, r2, r3⟩ | r
        · rw [if_neg (by omega), r2, r3]
          exact p3
        · rw [if_pos r]
          exact Or.inr rfl
      · have hz : 0 ≤ s := by omega
        have e7 : 5 - ((m + 1 : Nat) : Int) = s + -1 := by omega
        rw [e7] at hk
        rw [← hs]
        have one : ¬ (1 : Int) = 0 := by omega
        clear p1 p2 p3 q1 q2 q3 tc nt sl sr hF hQ lk ih st1 h1 h4 h5 h6
        rcases y2b with q | q
        · subst q
          rw [if_neg (by omega)] at hk
          rcases y1b with q' | q'
          · subst q'
            simp (disch := omega) only [↓wcX3_settle_3.eq_1, ↓wsX3_settle_3.eq_1, ↓k_mk, ↓k_sq, ↓k_sk, ↓k_bk, ↓k_if, ↓k_te, ↓k_cm, ↓k_cz, ↓k_an2, ↓k_or2, ↓k_no, ↓k_ci, ↓k_l0, ↓k_r0, ↓k_se0, ↓k_ic0, ↓k_l1, ↓k_r1, ↓k_se1, ↓k_ic1, ↓k_de1, ↓k_tk1, ↓k_l2, ↓k_r2, ↓k_se2, ↓k_ic2, ↓k_de2, ↓k_tk2, ↓k_l3, ↓k_r3, ↓k_se3, ↓k_ic3, ↓k_de3, ↓k_tk3, ↓k_l4, ↓k_r4, ↓k_se4, ↓k_ic4, ↓k_de4, ↓k_tk4, ↓k_l5, ↓k_r5, ↓k_se5, ↓k_ic5, ↓k_de5, ↓k_tk5, ↓k_l6, ↓k_r6, ↓k_se6, ↓k_ic6, ↓k_de6, ↓k_tk6, ↓k_l7, ↓k_r7, ↓k_se7, ↓k_ic7, ↓k_de7, ↓k_tk7, ↓k_l8, ↓k_r8, ↓k_se8, ↓k_ic8, ↓k_de8, ↓k_tk8, ↓k_l9, ↓k_r9, ↓k_se9, ↓k_ic9, ↓k_de9, ↓k_tk9, ↓k_l10, ↓k_r10, ↓k_se10, ↓k_ic10, ↓k_de10, ↓k_tk10, ↓k_l11, ↓k_r11, ↓k_se11, ↓k_ic11, ↓k_de11, ↓k_tk11, ↓k_l12, ↓k_r12, ↓k_se12, ↓k_ic12, ↓k_de12, ↓k_tk12, ↓k_l13, ↓k_r13, ↓k_se13, ↓k_ic13, ↓k_de13, ↓k_tk13, ↓k_l14, ↓k_r14, ↓k_se14, ↓k_ic14, ↓k_de14, ↓k_tk14, ↓k_l15, ↓k_r15, ↓k_se15, ↓k_ic15, ↓k_de15, ↓k_tk15, ↓k_l16, ↓k_r16, ↓k_se16, ↓k_ic16, ↓k_de16, ↓k_tk16, ↓k_l17, ↓k_r17, ↓k_se17, ↓k_ic17, ↓k_de17, ↓k_tk17, ↓k_l18, ↓k_r18, ↓k_se18, ↓k_ic18, ↓k_de18, ↓k_tk18, ↓k_l19, ↓k_r19, ↓k_se19, ↓k_ic19, ↓k_de19, ↓k_tk19, ↓k_l20, ↓k_r20, ↓k_se20, ↓k_ic20, ↓k_de20, ↓k_tk20, ↓k_l21, ↓k_r21, ↓k_se21, ↓k_ic21, ↓k_de21, ↓k_tk21, ↓k_l22, ↓k_r22, ↓k_se22, ↓k_ic22, ↓k_de22, ↓k_tk22, ↓k_l23, ↓k_r23, ↓k_se23, ↓k_ic23, ↓k_de23, ↓k_tk23, ↓k_l24, ↓k_r24, ↓k_se24, ↓k_ic24, ↓k_de24, ↓k_tk24, ↓k_l25, ↓k_r25, ↓k_se25, ↓k_ic25, ↓k_de25, ↓k_tk25, ↓k_k, ↓k_kn, ↓k_kl, ↓k_kln, ↓k_il, ↓k_2, ↓k_1, ↓k_2c, ↓k_2l, ↓k_ac, ↓k_an, ↓k_cs, ↓k_cv, ↓k_fi, ↓k_fr, ↓k_ai, ↓k_az, ↓k_ar, ↓k_sai, ↓k_saz, ↓k_soa, ↓k_sof, ↓k_spf, ↓k_sx, ↓k_blk, ↓k_sset, ↓k_sdec, ↓k_sri, ↓k_srv, ↓k_srr, ↓k_nop, ↓k_add, ↓k_sub, ↓k_mul, ↓k_min, ↓k_max, ↓k_shr, ↓k_shl, ↓k_or, ↓k_ilz, ↓k_addl, ↓k_rt, ↓k_rb, ↓k_rbz, ↓k_rsi, ↓k_rsr, ↓k_rsv, ↓reduceIte, hz, ↓(k_cv3 dX3_settleSort (t3 o)), ↓cS, o_00, List.length_cons, List.length_nil, List.forall_mem_cons, List.not_mem_nil, Value.category, true_and, and_true, false_and, and_false, or_true, true_or, or_false, false_or, Nat.zero_le, forall_const, implies_true, false_implies, Nat.zero_add, Nat.reduceAdd, Nat.reduceLT, Nat.reduceLeDiff, Nat.le_refl, not_true_eq_false, not_false_eq_true, r_eq, r_ne, r_lt, r_ge, r_gt, r_le, bz_ne, nn_toNat, cn_of, cn_0, cn_1, i10, Int.reduceLE, Int.reduceLT, Int.reduceEq, bz_T, bz_F, ite_self, mulc, st_bud]
            exact hk
          · subst q'
            simp (disch := omega) only [↓wcX3_settle_3.eq_1, ↓wsX3_settle_3.eq_1, ↓k_mk, ↓k_sq, ↓k_sk, ↓k_bk, ↓k_if, ↓k_te, ↓k_cm, ↓k_cz, ↓k_an2, ↓k_or2, ↓k_no, ↓k_ci, ↓k_l0, ↓k_r0, ↓k_se0, ↓k_ic0, ↓k_l1, ↓k_r1, ↓k_se1, ↓k_ic1, ↓k_de1, ↓k_tk1, ↓k_l2, ↓k_r2, ↓k_se2, ↓k_ic2, ↓k_de2, ↓k_tk2, ↓k_l3, ↓k_r3, ↓k_se3, ↓k_ic3, ↓k_de3, ↓k_tk3, ↓k_l4, ↓k_r4, ↓k_se4, ↓k_ic4, ↓k_de4, ↓k_tk4, ↓k_l5, ↓k_r5, ↓k_se5, ↓k_ic5, ↓k_de5, ↓k_tk5, ↓k_l6, ↓k_r6, ↓k_se6, ↓k_ic6, ↓k_de6, ↓k_tk6, ↓k_l7, ↓k_r7, ↓k_se7, ↓k_ic7, ↓k_de7, ↓k_tk7, ↓k_l8, ↓k_r8, ↓k_se8, ↓k_ic8, ↓k_de8, ↓k_tk8, ↓k_l9, ↓k_r9, ↓k_se9, ↓k_ic9, ↓k_de9, ↓k_tk9, ↓k_l10, ↓k_r10, ↓k_se10, ↓k_ic10, ↓k_de10, ↓k_tk10, ↓k_l11, ↓k_r11, ↓k_se11, ↓k_ic11, ↓k_de11, ↓k_tk11, ↓k_l12, ↓k_r12, ↓k_se12, ↓k_ic12, ↓k_de12, ↓k_tk12, ↓k_l13, ↓k_r13, ↓k_se13, ↓k_ic13, ↓k_de13, ↓k_tk13, ↓k_l14, ↓k_r14, ↓k_se14, ↓k_ic14, ↓k_de14, ↓k_tk14, ↓k_l15, ↓k_r15, ↓k_se15, ↓k_ic15, ↓k_de15, ↓k_tk15, ↓k_l16, ↓k_r16, ↓k_se16, ↓k_ic16, ↓k_de16, ↓k_tk16, ↓k_l17, ↓k_r17, ↓k_se17, ↓k_ic17, ↓k_de17, ↓k_tk17, ↓k_l18, ↓k_r18, ↓k_se18, ↓k_ic18, ↓k_de18, ↓k_tk18, ↓k_l19, ↓k_r19, ↓k_se19, ↓k_ic19, ↓k_de19, ↓k_tk19, ↓k_l20, ↓k_r20, ↓k_se20, ↓k_ic20, ↓k_de20, ↓k_tk20, ↓k_l21, ↓k_r21, ↓k_se21, ↓k_ic21, ↓k_de21, ↓k_tk21, ↓k_l22, ↓k_r22, ↓k_se22, ↓k_ic22, ↓k_de22, ↓k_tk22, ↓k_l23, ↓k_r23, ↓k_se23, ↓k_ic23, ↓k_de23, ↓k_tk23, ↓k_l24, ↓k_r24, ↓k_se24, ↓k_ic24, ↓k_de24, ↓k_tk24, ↓k_l25, ↓k_r25, ↓k_se25, ↓k_ic25, ↓k_de25, ↓k_tk25, ↓k_k, ↓k_kn, ↓k_kl, ↓k_kln, ↓k_il, ↓k_2, ↓k_1, ↓k_2c, ↓k_2l, ↓k_ac, ↓k_an, ↓k_cs, ↓k_cv, ↓k_fi, ↓k_fr, ↓k_ai, ↓k_az, ↓k_ar, ↓k_sai, ↓k_saz, ↓k_soa, ↓k_sof, ↓k_spf, ↓k_sx, ↓k_blk, ↓k_sset, ↓k_sdec, ↓k_sri, ↓k_srv, ↓k_srr, ↓k_nop, ↓k_add, ↓k_sub, ↓k_mul, ↓k_min, ↓k_max, ↓k_shr, ↓k_shl, ↓k_or, ↓k_ilz, ↓k_addl, ↓k_rt, ↓k_rb, ↓k_rbz, ↓k_rsi, ↓k_rsr, ↓k_rsv, ↓reduceIte, hz, ↓(k_cv3 dX3_settleSort (t3 o)), ↓cS, o_10, List.length_cons, List.length_nil, List.forall_mem_cons, List.not_mem_nil, Value.category, true_and, and_true, false_and, and_false, or_true, true_or, or_false, false_or, Nat.zero_le, forall_const, implies_true, false_implies, Nat.zero_add, Nat.reduceAdd, Nat.reduceLT, Nat.reduceLeDiff, Nat.le_refl, not_true_eq_false, not_false_eq_true, r_eq, r_ne, r_lt, r_ge, r_gt, r_le, bz_ne, nn_toNat, cn_of, cn_0, cn_1, i10, Int.reduceLE, Int.reduceLT, Int.reduceEq, bz_T, bz_F, ite_self, mulc, st_bud]
            exact hk
        · subst q
          rw [if_pos rfl] at hk
          rcases y1b with q' | q'
          · subst q'
            simp (disch := omega) only [↓wcX3_settle_3.eq_1, ↓wsX3_settle_3.eq_1, ↓k_mk, ↓k_sq, ↓k_sk, ↓k_bk, ↓k_if, ↓k_te, ↓k_cm, ↓k_cz, ↓k_an2, ↓k_or2, ↓k_no, ↓k_ci, ↓k_l0, ↓k_r0, ↓k_se0, ↓k_ic0, ↓k_l1, ↓k_r1, ↓k_se1, ↓k_ic1, ↓k_de1, ↓k_tk1, ↓k_l2, ↓k_r2, ↓k_se2, ↓k_ic2, ↓k_de2, ↓k_tk2, ↓k_l3, ↓k_r3, ↓k_se3, ↓k_ic3, ↓k_de3, ↓k_tk3, ↓k_l4, ↓k_r4, ↓k_se4, ↓k_ic4, ↓k_de4, ↓k_tk4, ↓k_l5, ↓k_r5, ↓k_se5, ↓k_ic5, ↓k_de5, ↓k_tk5, ↓k_l6, ↓k_r6, ↓k_se6, ↓k_ic6, ↓k_de6, ↓k_tk6, ↓k_l7, ↓k_r7, ↓k_se7, ↓k_ic7, ↓k_de7, ↓k_tk7, ↓k_l8, ↓k_r8, ↓k_se8, ↓k_ic8, ↓k_de8, ↓k_tk8, ↓k_l9, ↓k_r9, ↓k_se9, ↓k_ic9, ↓k_de9, ↓k_tk9, ↓k_l10, ↓k_r10, ↓k_se10, ↓k_ic10, ↓k_de10, ↓k_tk10, ↓k_l11, ↓k_r11, ↓k_se11, ↓k_ic11, ↓k_de11, ↓k_tk11, ↓k_l12, ↓k_r12, ↓k_se12, ↓k_ic12, ↓k_de12, ↓k_tk12, ↓k_l13, ↓k_r13, ↓k_se13, ↓k_ic13, ↓k_de13, ↓k_tk13, ↓k_l14, ↓k_r14, ↓k_se14, ↓k_ic14, ↓k_de14, ↓k_tk14, ↓k_l15, ↓k_r15, ↓k_se15, ↓k_ic15, ↓k_de15, ↓k_tk15, ↓k_l16, ↓k_r16, ↓k_se16, ↓k_ic16, ↓k_de16, ↓k_tk16, ↓k_l17, ↓k_r17, ↓k_se17, ↓k_ic17, ↓k_de17, ↓k_tk17, ↓k_l18, ↓k_r18, ↓k_se18, ↓k_ic18, ↓k_de18, ↓k_tk18, ↓k_l19, ↓k_r19, ↓k_se19, ↓k_ic19, ↓k_de19, ↓k_tk19, ↓k_l20, ↓k_r20, ↓k_se20, ↓k_ic20, ↓k_de20, ↓k_tk20, ↓k_l21, ↓k_r21, ↓k_se21, ↓k_ic21, ↓k_de21, ↓k_tk21, ↓k_l22, ↓k_r22, ↓k_se22, ↓k_ic22, ↓k_de22, ↓k_tk22, ↓k_l23, ↓k_r23, ↓k_se23, ↓k_ic23, ↓k_de23, ↓k_tk23, ↓k_l24, ↓k_r24, ↓k_se24, ↓k_ic24, ↓k_de24, ↓k_tk24, ↓k_l25, ↓k_r25, ↓k_se25, ↓k_ic25, ↓k_de25, ↓k_tk25, ↓k_k, ↓k_kn, ↓k_kl, ↓k_kln, ↓k_il, ↓k_2, ↓k_1, ↓k_2c, ↓k_2l, ↓k_ac, ↓k_an, ↓k_cs, ↓k_cv, ↓k_fi, ↓k_fr, ↓k_ai, ↓k_az, ↓k_ar, ↓k_sai, ↓k_saz, ↓k_soa, ↓k_sof, ↓k_spf, ↓k_sx, ↓k_blk, ↓k_sset, ↓k_sdec, ↓k_sri, ↓k_srv, ↓k_srr, ↓k_nop, ↓k_add, ↓k_sub, ↓k_mul, ↓k_min, ↓k_max, ↓k_shr, ↓k_shl, ↓k_or, ↓k_ilz, ↓k_addl, ↓k_rt, ↓k_rb, ↓k_rbz, ↓k_rsi, ↓k_rsr, ↓k_rsv, ↓reduceIte, hz, ↓(k_cv3 dX3_settleSort (t3 o)), ↓cS, o_01, List.length_cons, List.length_nil, List.forall_mem_cons, List.not_mem_nil, Value.category, true_and, and_true, false_and, and_false, or_true, true_or, or_false, false_or, Nat.zero_le, forall_const, implies_true, false_implies, Nat.zero_add, Nat.reduceAdd, Nat.reduceLT, Nat.reduceLeDiff, Nat.le_refl, not_true_eq_false, not_false_eq_true, r_eq, r_ne, r_lt, r_ge, r_gt, r_le, bz_ne, nn_toNat, cn_of, cn_0, cn_1, i10, Int.reduceLE, Int.reduceLT, Int.reduceEq, bz_T, bz_F, ite_self, mulc, st_bud]
            exact hk
          · subst q'
            simp (disch := omega) only [↓wcX3_settle_3.eq_1, ↓wsX3_settle_3.eq_1, ↓k_mk, ↓k_sq, ↓k_sk, ↓k_bk, ↓k_if, ↓k_te, ↓k_cm, ↓k_cz, ↓k_an2, ↓k_or2, ↓k_no, ↓k_ci, ↓k_l0, ↓k_r0, ↓k_se0, ↓k_ic0, ↓k_l1, ↓k_r1, ↓k_se1, ↓k_ic1, ↓k_de1, ↓k_tk1, ↓k_l2, ↓k_r2, ↓k_se2, ↓k_ic2, ↓k_de2, ↓k_tk2, ↓k_l3, ↓k_r3, ↓k_se3, ↓k_ic3, ↓k_de3, ↓k_tk3, ↓k_l4, ↓k_r4, ↓k_se4, ↓k_ic4, ↓k_de4, ↓k_tk4, ↓k_l5, ↓k_r5, ↓k_se5, ↓k_ic5, ↓k_de5, ↓k_tk5, ↓k_l6, ↓k_r6, ↓k_se6, ↓k_ic6, ↓k_de6, ↓k_tk6, ↓k_l7, ↓k_r7, ↓k_se7, ↓k_ic7, ↓k_de7, ↓k_tk7, ↓k_l8, ↓k_r8, ↓k_se8, ↓k_ic8, ↓k_de8, ↓k_tk8, ↓k_l9, ↓k_r9, ↓k_se9, ↓k_ic9, ↓k_de9, ↓k_tk9, ↓k_l10, ↓k_r10, ↓k_se10, ↓k_ic10, ↓k_de10, ↓k_tk10, ↓k_l11, ↓k_r11, ↓k_se11, ↓k_ic11, ↓k_de11, ↓k_tk11, ↓k_l12, ↓k_r12, ↓k_se12, ↓k_ic12, ↓k_de12, ↓k_tk12, ↓k_l13, ↓k_r13, ↓k_se13, ↓k_ic13, ↓k_de13, ↓k_tk13, ↓k_l14, ↓k_r14, ↓k_se14, ↓k_ic14, ↓k_de14, ↓k_tk14, ↓k_l15, ↓k_r15, ↓k_se15, ↓k_ic15, ↓k_de15, ↓k_tk15, ↓k_l16, ↓k_r16, ↓k_se16, ↓k_ic16, ↓k_de16, ↓k_tk16, ↓k_l17, ↓k_r17, ↓k_se17, ↓k_ic17, ↓k_de17, ↓k_tk17, ↓k_l18, ↓k_r18, ↓k_se18, ↓k_ic18, ↓k_de18, ↓k_tk18, ↓k_l19, ↓k_r19, ↓k_se19, ↓k_ic19, ↓k_de19, ↓k_tk19, ↓k_l20, ↓k_r20, ↓k_se20, ↓k_ic20, ↓k_de20, ↓k_tk20, ↓k_l21, ↓k_r21, ↓k_se21, ↓k_ic21, ↓k_de21, ↓k_tk21, ↓k_l22, ↓k_r22, ↓k_se22, ↓k_ic22, ↓k_de22, ↓k_tk22, ↓k_l23, ↓k_r23, ↓k_se23, ↓k_ic23, ↓k_de23, ↓k_tk23, ↓k_l24, ↓k_r24, ↓k_se24, ↓k_ic24, ↓k_de24, ↓k_tk24, ↓k_l25, ↓k_r25, ↓k_se25, ↓k_ic25, ↓k_de25, ↓k_tk25, ↓k_k, ↓k_kn, ↓k_kl, ↓k_kln, ↓k_il, ↓k_2, ↓k_1, ↓k_2c, ↓k_2l, ↓k_ac, ↓k_an, ↓k_cs, ↓k_cv, ↓k_fi, ↓k_fr, ↓k_ai, ↓k_az, ↓k_ar, ↓k_sai, ↓k_saz, ↓k_soa, ↓k_sof, ↓k_spf, ↓k_sx, ↓k_blk, ↓k_sset, ↓k_sdec, ↓k_sri, ↓k_srv, ↓k_srr, ↓k_nop, ↓k_add, ↓k_sub, ↓k_mul, ↓k_min, ↓k_max, ↓k_shr, ↓k_shl, ↓k_or, ↓k_ilz, ↓k_addl, ↓k_rt, ↓k_rb, ↓k_rbz, ↓k_rsi, ↓k_rsr, ↓k_rsv, ↓reduceIte, hz, ↓(k_cv3 dX3_settleSort (t3 o)), ↓cS, o_11, List.length_cons, List.length_nil, List.forall_mem_cons, List.not_mem_nil, Value.category, true_and, and_true, false_and, and_false, or_true, true_or, or_false, false_or, Nat.zero_le, forall_const, implies_true, false_implies, Nat.zero_add, Nat.reduceAdd, Nat.reduceLT, Nat.reduceLeDiff, Nat.le_refl, not_true_eq_false, not_false_eq_true, r_eq, r_ne, r_lt, r_ge, r_gt, r_le, bz_ne, nn_toNat, cn_of, cn_0, cn_1, i10, Int.reduceLE, Int.reduceLT, Int.reduceEq, bz_T, bz_F, ite_self, mulc, st_bud]
            exact hk
  obtain ⟨G', y, p1, p2, p3, st1⟩ := key 6 (by omega)
  rw [show (5 : Int) - ((6 : Nat) : Int) = -1 by omega] at st1
  refine ⟨G', y, p1, fun f k q0 q1 q2 q3 => p2 f k q0 q1 (by
    have := (tc.2.2.2.2.2 f q0 q1).1
    omega) q2 q3, p3, eX3_settle_3.eqn (st1 _ _ (q_outR (fun Kt Kf hk => by
    have hz : ¬ (0 : Int) ≤ -1 := by omega
    clear p1 p2 p3 tc nt sl sr hF hQ st1 lk key
    simp (disch := omega) only [↓wcX3_settle_3.eq_1, ↓k_mk, ↓k_sq, ↓k_sk, ↓k_bk, ↓k_if, ↓k_te, ↓k_cm, ↓k_cz, ↓k_an2, ↓k_or2, ↓k_no, ↓k_ci, ↓k_l0, ↓k_r0, ↓k_se0, ↓k_ic0, ↓k_l1, ↓k_r1, ↓k_se1, ↓k_ic1, ↓k_de1, ↓k_tk1, ↓k_l2, ↓k_r2, ↓k_se2, ↓k_ic2, ↓k_de2, ↓k_tk2, ↓k_l3, ↓k_r3, ↓k_se3, ↓k_ic3, ↓k_de3, ↓k_tk3, ↓k_l4, ↓k_r4, ↓k_se4, ↓k_ic4, ↓k_de4, ↓k_tk4, ↓k_l5, ↓k_r5, ↓k_se5, ↓k_ic5, ↓k_de5, ↓k_tk5, ↓k_l6, ↓k_r6, ↓k_se6, ↓k_ic6, ↓k_de6, ↓k_tk6, ↓k_l7, ↓k_r7, ↓k_se7, ↓k_ic7, ↓k_de7, ↓k_tk7, ↓k_l8, ↓k_r8, ↓k_se8, ↓k_ic8, ↓k_de8, ↓k_tk8, ↓k_l9, ↓k_r9, ↓k_se9, ↓k_ic9, ↓k_de9, ↓k_tk9, ↓k_l10, ↓k_r10, ↓k_se10, ↓k_ic10, ↓k_de10, ↓k_tk10, ↓k_l11, ↓k_r11, ↓k_se11, ↓k_ic11, ↓k_de11, ↓k_tk11, ↓k_l12, ↓k_r12, ↓k_se12, ↓k_ic12, ↓k_de12, ↓k_tk12, ↓k_l13, ↓k_r13, ↓k_se13, ↓k_ic13, ↓k_de13, ↓k_tk13, ↓k_l14, ↓k_r14, ↓k_se14, ↓k_ic14, ↓k_de14, ↓k_tk14, ↓k_l15, ↓k_r15, ↓k_se15, ↓k_ic15, ↓k_de15, ↓k_tk15, ↓k_l16, ↓k_r16, ↓k_se16, ↓k_ic16, ↓k_de16, ↓k_tk16, ↓k_l17, ↓k_r17, ↓k_se17, ↓k_ic17, ↓k_de17, ↓k_tk17, ↓k_l18, ↓k_r18, ↓k_se18, ↓k_ic18, ↓k_de18, ↓k_tk18, ↓k_l19, ↓k_r19, ↓k_se19, ↓k_ic19, ↓k_de19, ↓k_tk19, ↓k_l20, ↓k_r20, ↓k_se20, ↓k_ic20, ↓k_de20, ↓k_tk20, ↓k_l21, ↓k_r21, ↓k_se21, ↓k_ic21, ↓k_de21, ↓k_tk21, ↓k_l22, ↓k_r22, ↓k_se22, ↓k_ic22, ↓k_de22, ↓k_tk22, ↓k_l23, ↓k_r23, ↓k_se23, ↓k_ic23, ↓k_de23, ↓k_tk23, ↓k_l24, ↓k_r24, ↓k_se24, ↓k_ic24, ↓k_de24, ↓k_tk24, ↓k_l25, ↓k_r25, ↓k_se25, ↓k_ic25, ↓k_de25, ↓k_tk25, ↓k_k, ↓k_kn, ↓k_kl, ↓k_kln, ↓k_il, ↓k_2, ↓k_1, ↓k_2c, ↓k_2l, ↓k_ac, ↓k_an, ↓k_cs, ↓k_cv, ↓k_fi, ↓k_fr, ↓k_ai, ↓k_az, ↓k_ar, ↓k_sai, ↓k_saz, ↓k_soa, ↓k_sof, ↓k_spf, ↓k_sx, ↓k_blk, ↓k_sset, ↓k_sdec, ↓k_sri, ↓k_srv, ↓k_srr, ↓k_nop, ↓k_add, ↓k_sub, ↓k_mul, ↓k_min, ↓k_max, ↓k_shr, ↓k_shl, ↓k_or, ↓k_ilz, ↓k_addl, ↓k_rt, ↓k_rb, ↓k_rbz, ↓k_rsi, ↓k_rsr, ↓k_rsv, ↓reduceIte, hz, List.length_cons, List.length_nil, List.forall_mem_cons, List.not_mem_nil, Value.category, true_and, and_true, false_and, and_false, or_true, true_or, or_false, false_or, Nat.zero_le, forall_const, implies_true, false_implies, Nat.zero_add, Nat.reduceAdd, Nat.reduceLT, Nat.reduceLeDiff, Nat.le_refl, not_true_eq_false, not_false_eq_true, r_eq, r_ne, r_lt, r_ge, r_gt, r_le, bz_ne, nn_toNat, cn_of, cn_0, cn_1, i10, Int.reduceLE, Int.reduceLT, Int.reduceEq, bz_T, bz_F, ite_self, mulc, st_bud]
    exact hk) ⟨rfl, rfl⟩))⟩
/-- the sorts that stand first are right -/
def EXk (Q : Int → Int → Int → Int) (L : Int → Int) (i j k : Int) : Prop := ∀ s, 0 ≤ s → s ≤ 5 → cn (fun x => Q x i j) s ≤ k → L (289 * s + 17 * i + j) = cl (Q s i j)
def RXk (Q : Int → Int → Int → Int) (ft : Int → Int → Bool) (nf : Int) (C n : Int → Int) (Rr : Int → Int) (i j : Int) : Prop := ∀ f k, 0 ≤ f → f < nf → 0 ≤ k → k < n f → Rr (289 * (5 * f + k) + 17 * i + j) = cl (rF 1000000 Q ft C n j f k i)
theorem round_ex {a : Nat} {G : Nat → Int → Int} {N nf i j : Int} {sf C n : Int → Int} {ft : Int → Int → Bool} {Q : Int → Int → Int → Int} {G' : Nat → Int → Int} {c : Int} (hF : FO5 nf sf (fun ff => il (gC C ff) 0 (n ff - 0).toNat)) (hQ : QOK nf sf (fun ff => il (gC C ff) 0 (n ff - 0).toNat) ft N Q) (n16 : N ≤ 16) (i0 : 0 ≤ i) (ij : i ≤ j) (jN : j ≤ N) (sl : SL Q (G (a + 4)) i j) (ss : SS Q ft nf sf C n a i j G G') (n1 : ∀ f, 0 ≤ f → f < nf → 1 ≤ n f) (ub : ∀ f k, 0 ≤ f → f < nf → 0 ≤ k → k < n f → G' (a + 5) (289 * (5 * f + k) + 17 * i + j) ≤ rF 16777216 (pq 16777216 (G (a + 4))) ft C n j f k i) (ex : EXk Q (G (a + 4)) i j c) : EXk Q (G' (a + 4)) i j (c + 1) := fun s s0 s1 hc => by
  obtain ⟨h1, _, _, h4, h5, h6, _, _⟩ := ss
  have b := h4.2 s s0 s1
  have g := hQ.2 s i j s0 s1 i0 ij jN
  by_cases d : Q s i j < 1000000
  · obtain ⟨f, f0, f1, fs, fe⟩ := g.2.2.2 d
    have e := ex_step (X := pq 16777216 (G (a + 4))) hF hQ i0 ij jN (fun s x y q0 q1 q2 q3 q4 q5 => by rw [pq_in ⟨q0, q1⟩]; exact sl.1 s x y q0 q1 q2 q3 q4 q5) (fun s q0 q1 q2 => by rw [pq_in ⟨q0, q1⟩]; exact ex s q0 q1 q2) f0 f1 fs s0 s1 fe d hc
    have u := ub f 0 f0 f1 (Int.le_refl _) (by have := n1 f f0 f1; omega)
    have u2 : rF 16777216 (pq 16777216 (G (a + 4))) ft C n j f 0 i ≤ Q s i j := e
    have l := h6 f f0 f1
    rw [fs] at l
    have : cl (Q s i j) = Q s i j := if_pos d
    omega
  · have : cl (Q s i j) = 16777216 := if_neg d
    omega
theorem round_rx {a : Nat} {G : Nat → Int → Int} {N nf i j : Int} {sf C n : Int → Int} {ft : Int → Int → Bool} {Q : Int → Int → Int → Int} {G' : Nat → Int → Int} (hF : FO5 nf sf (fun ff => il (gC C ff) 0 (n ff - 0).toNat)) (hQ : QOK nf sf (fun ff => il (gC C ff) 0 (n ff - 0).toNat) ft N Q) (n16 : N ≤ 16) (i0 : 0 ≤ i) (ij : i ≤ j) (jN : j ≤ N) (sl : SL Q (G (a + 4)) i j) (ss : SS Q ft nf sf C n a i j G G') (ub : ∀ f k, 0 ≤ f → f < nf → 0 ≤ k → k < n f → G' (a + 5) (289 * (5 * f + k) + 17 * i + j) ≤ rF 16777216 (pq 16777216 (G (a + 4))) ft C n j f k i) (ex : EXk Q (G (a + 4)) i j 6) : RXk Q ft nf C n (G' (a + 5)) i j := fun f k f0 f1 k0 k1 => by
  obtain ⟨h1, _, _, h4, h5, h6, _, _⟩ := ss
  have u := ub f k f0 f1 k0 k1
  have b := (h5.2 f k f0 f1 k0 k1).1
  have e : rF 16777216 (pq 16777216 (G (a + 4))) ft C n j f k i = cl (rF 1000000 Q ft C n j f k i) := rF_ext hF hQ n16 f0 f1 k0 i0 jN fun s x y q1 q2 q3 => by
    by_cases c : 0 ≤ s ∧ s ≤ 5
    · rw [pq_in c]
      by_cases d : x = i ∧ y = j
      · rw [d.1, d.2]
        exact ex s c.1 c.2 (cn_b _ _).2
      · exact sl.1 s x y c.1 c.2 q1 q2 q3 d
    · rw [pq_out c, hQ.1 s x y c, cl_far]
  omega
theorem c3_rounds {T : Nat → Option q_T} {nx rc rs a t : Nat} {R : Nat → Nat → Option Value} {N nf i j : Int} {sf C n : Int → Int} {ft : Int → Int → Bool} {Q : Int → Int → Int → Int} (o : Ly T R a (L3 a t)) (o8 : Ly T R t (L8 t)) (ht : t + 14 ≤ a) (hF : FO5 nf sf (fun ff => il (gC C ff) 0 (n ff - 0).toNat)) (hQ : QOK nf sf (fun ff => il (gC C ff) 0 (n ff - 0).toNat) ft N Q) (n16 : N ≤ 16) : ∀ (rem : Nat) (G : Nat → Int → Int) (r y : Int) (tc : TC G t nf sf C n) (nt : NFt G a ft N (fun _ => True)) (i0 : 0 ≤ i) (ij : i ≤ j) (jN : j ≤ N) (sl : SL Q (G (a + 4)) i j) (sr : SR Q ft nf C n (G (a + 5)) i j) (lk : LKp nf sf (G (a + 4)) (G (a + 5)) i j), r + rem = 20 → 0 ≤ r → (y = 0 ∨ y = 1) → EXk Q (G (a + 4)) i j r → (7 ≤ r → RXk Q ft nf C n (G (a + 5)) i j) → (y = 0 → EXk Q (G (a + 4)) i j 6 ∧ RXk Q ft nf C n (G (a + 5)) i j) →
    ∃ G' r' y', SS Q ft nf sf C n a i j G G' ∧ EXk Q (G' (a + 4)) i j 6 ∧ RXk Q ft nf C n (G' (a + 5)) i j ∧ ∀ (Kn : List Value → q_M → Prop) (Kr : Option Value → q_M → Prop), Kn [.ref a, .int (zI i), .int (zI j), .int (zI y'), .int (zI r')] (st T nx rc rs R G') → q_wh wcX3_settle_2 wsX3_settle_2 [.ref a, .int (zI i), .int (zI j), .int (zI y), .int (zI r)] (st T nx rc rs R G) Kn Kr := by
  intro rem
  induction rem with
  | zero =>
    intro G r y tc nt i0 ij jN sl sr lk hr r0 yb ex rx z
    refine ⟨G, r, y, SS_rfl sl sr lk, fun s s0 s1 _ => ex s s0 s1 (by have := (cn_b (fun x => Q x i j) s).2; omega), rx (by omega), fun Kn Kr h => q_outR (fun Kt Kf hk => ?_) h⟩
    have e : r = 20 := by omega
    subst e
    have hz : ¬ (20 : Int) < 20 := by omega
    clear tc nt sl sr lk ex rx z hF hQ
    simp (disch := omega) only [↓wcX3_settle_2.eq_1, ↓k_mk, ↓k_sq, ↓k_sk, ↓k_bk, ↓k_if, ↓k_te, ↓k_cm, ↓k_cz, ↓k_an2, ↓k_or2, ↓k_no, ↓k_ci, ↓k_l0, ↓k_r0, ↓k_se0, ↓k_ic0, ↓k_l1, ↓k_r1, ↓k_se1, ↓k_ic1, ↓k_de1, ↓k_tk1, ↓k_l2, ↓k_r2, ↓k_se2, ↓k_ic2, ↓k_de2, ↓k_tk2, ↓k_l3, ↓k_r3, ↓k_se3, ↓k_ic3, ↓k_de3, ↓k_tk3, ↓k_l4, ↓k_r4, ↓k_se4, ↓k_ic4, ↓k_de4, ↓k_tk4, ↓k_l5, ↓k_r5, ↓k_se5, ↓k_ic5, ↓k_de5, ↓k_tk5, ↓k_l6, ↓k_r6, ↓k_se6, ↓k_ic6, ↓k_de6, ↓k_tk6, ↓k_l7, ↓k_r7, ↓k_se7, ↓k_ic7, ↓k_de7, ↓k_tk7, ↓k_l8, ↓k_r8, ↓k_se8, ↓k_ic8, ↓k_de8, ↓k_tk8, ↓k_l9, ↓k_r9, ↓k_se9, ↓k_ic9, ↓k_de9, ↓k_tk9, ↓k_l10, ↓k_r10, ↓k_se10, ↓k_ic10, ↓k_de10, ↓k_tk10, ↓k_l11, ↓k_r11, ↓k_se11, ↓k_ic11, ↓k_de11, ↓k_tk11, ↓k_l12, ↓k_r12, ↓k_se12, ↓k_ic12, ↓k_de12, ↓k_tk12, ↓k_l13, ↓k_r13, ↓k_se13, ↓k_ic13, ↓k_de13, ↓k_tk13, ↓k_l14, ↓k_r14, ↓k_se14, ↓k_ic14, ↓k_de14, ↓k_tk14, ↓k_l15, ↓k_r15, ↓k_se15, ↓k_ic15, ↓k_de15, ↓k_tk15, ↓k_l16, ↓k_r16, ↓k_se16, ↓k_ic16, ↓k_de16, ↓k_tk16, ↓k_l17, ↓k_r17, ↓k_se17, ↓k_ic17, ↓k_de17, ↓k_tk17, ↓k_l18, ↓k_r18, ↓k_se18, ↓k_ic18, ↓k_de18, ↓k_tk18, ↓k_l19, ↓k_r19, ↓k_se19, ↓k_ic19, ↓k_de19, ↓k_tk19, ↓k_l20, ↓k_r20, ↓k_se20, ↓k_ic20, ↓k_de20, ↓k_tk20, ↓k_l21, ↓k_r21, ↓k_se21, ↓k_ic21, ↓k_de21, ↓k_tk21, ↓k_l22, ↓k_r22, ↓k_se22, ↓k_ic22, ↓k_de22, ↓k_tk22, ↓k_l23, ↓k_r23, ↓k_se23, ↓k_ic23, ↓k_de23, ↓k_tk23, ↓k_l24, ↓k_r24, ↓k_se24, ↓k_ic24, ↓k_de24, ↓k_tk24, ↓k_l25, ↓k_r25, ↓k_se25, ↓k_ic25, ↓k_de25, ↓k_tk25, ↓k_k, ↓k_kn, ↓k_kl, ↓k_kln, ↓k_il, ↓k_2, ↓k_1, ↓k_2c, ↓k_2l, ↓k_ac, ↓k_an, ↓k_cs, ↓k_cv, ↓k_fi, ↓k_fr, ↓k_ai, ↓k_az, ↓k_ar, ↓k_sai, ↓k_saz, ↓k_soa, ↓k_sof, ↓k_spf, ↓k_sx, ↓k_blk, ↓k_sset, ↓k_sdec, ↓k_sri, ↓k_srv, ↓k_srr, ↓k_nop, ↓k_add, ↓k_sub, ↓k_mul, ↓k_min, ↓k_max, ↓k_shr, ↓k_shl, ↓k_or, ↓k_ilz, ↓k_addl, ↓k_rt, ↓k_rb, ↓k_rbz, ↓k_rsi, ↓k_rsr, ↓k_rsv, ↓reduceIte, hz, List.length_cons, List.length_nil, List.forall_mem_cons, List.not_mem_nil, Value.category, true_and, and_true, false_and, and_false, or_true, true_or, or_false, false_or, Nat.zero_le, forall_const, implies_true, false_implies, Nat.zero_add, Nat.reduceAdd, Nat.reduceLT, Nat.reduceLeDiff, Nat.le_refl, not_true_eq_false, not_false_eq_true, r_eq, r_ne, r_lt, r_ge, r_gt, r_le, bz_ne, nn_toNat, cn_of, cn_0, cn_1, i10, Int.reduceLE, Int.reduceLT, Int.reduceEq, bz_T, bz_F, ite_self, mulc, st_bud]
    exact hk
  | succ rem ih =>
    intro G r y tc nt i0 ij jN sl sr lk hr r0 yb ex rx z
    have hz : r < 20 := by omega
    rcases yb with q | q
    · subst q
      refine ⟨G, r, 0, SS_rfl sl sr lk, (z rfl).1, (z rfl).2, fun Kn Kr h => q_outR (fun Kt Kf hk => ?_) h⟩
      clear tc nt sl sr lk ex rx z hF hQ ih
      simp (disch := omega) only [↓wcX3_settle_2.eq_1, ↓k_mk, ↓k_sq, ↓k_sk, ↓k_bk, ↓k_if, ↓k_te, ↓k_cm, ↓k_cz, ↓k_an2, ↓k_or2, ↓k_no, ↓k_ci, ↓k_l0, ↓k_r0, ↓k_se0, ↓k_ic0, ↓k_l1, ↓k_r1, ↓k_se1, ↓k_ic1, ↓k_de1, ↓k_tk1, ↓k_l2, ↓k_r2, ↓k_se2, ↓k_ic2, ↓k_de2, ↓k_tk2, ↓k_l3, ↓k_r3, ↓k_se3, ↓k_ic3, ↓k_de3, ↓k_tk3, ↓k_l4, ↓k_r4, ↓k_se4, ↓k_ic4, ↓k_de4, ↓k_tk4, ↓k_l5, ↓k_r5, ↓k_se5, ↓k_ic5, ↓k_de5, ↓k_tk5, ↓k_l6, ↓k_r6, ↓k_se6, ↓k_ic6, ↓k_de6, ↓k_tk6, ↓k_l7, ↓k_r7, ↓k_se7, ↓k_ic7, ↓k_de7, ↓k_tk7, ↓k_l8, ↓k_r8, ↓k_se8, ↓k_ic8, ↓k_de8, ↓k_tk8, ↓k_l9, ↓k_r9, ↓k_se9, ↓k_ic9, ↓k_de9, ↓k_tk9, ↓k_l10, ↓k_r10, ↓k_se10, ↓k_ic10, ↓k_de10, ↓k_tk10, ↓k_l11, ↓k_r11, ↓k_se11, ↓k_ic11, ↓k_de11, ↓k_tk11, ↓k_l12, ↓k_r12, ↓k_se12, ↓k_ic12, ↓k_de12, ↓k_tk12, ↓k_l13, ↓k_r13, ↓k_se13, ↓k_ic13, ↓k_de13, ↓k_tk13, ↓k_l14, ↓k_r14, ↓k_se14, ↓k_ic14, ↓k_de14, ↓k_tk14, ↓k_l15, ↓k_r15, ↓k_se15, ↓k_ic15, ↓k_de15, ↓k_tk15, ↓k_l16, ↓k_r16, ↓k_se16, ↓k_ic16, ↓k_de16, ↓k_tk16, ↓k_l17, ↓k_r17, ↓k_se17, ↓k_ic17, ↓k_de17, ↓k_tk17, ↓k_l18, ↓k_r18, ↓k_se18, ↓k_ic18, ↓k_de18, ↓k_tk18, ↓k_l19, ↓k_r19, ↓k_se19, ↓k_ic19, ↓k_de19, ↓k_tk19, ↓k_l20, ↓k_r20, ↓k_se20, ↓k_ic20, ↓k_de20, ↓k_tk20, ↓k_l21, ↓k_r21, ↓k_se21, ↓k_ic21, ↓k_de21, ↓k_tk21, ↓k_l22, ↓k_r22, ↓k_se22, ↓k_ic22, ↓k_de22, ↓k_tk22, ↓k_l23, ↓k_r23, ↓k_se23, ↓k_ic23, ↓k_de23, ↓k_tk23, ↓k_l24, ↓k_r24, ↓k_se24, ↓k_ic24, ↓k_de24, ↓k_tk24, ↓k_l25, ↓k_r25, ↓k_se25, ↓k_ic25, ↓k_de25, ↓k_tk25, ↓k_k, ↓k_kn, ↓k_kl, ↓k_kln, ↓k_il, ↓k_2, ↓k_1, ↓k_2c, ↓k_2l, ↓k_ac, ↓k_an, ↓k_cs, ↓k_cv, ↓k_fi, ↓k_fr, ↓k_ai, ↓k_az, ↓k_ar, ↓k_sai, ↓k_saz, ↓k_soa, ↓k_sof, ↓k_spf, ↓k_sx, ↓k_blk, ↓k_sset, ↓k_sdec, ↓k_sri, ↓k_srv, ↓k_srr, ↓k_nop, ↓k_add, ↓k_sub, ↓k_mul, ↓k_min, ↓k_max, ↓k_shr, ↓k_shl, ↓k_or, ↓k_ilz, ↓k_addl, ↓k_rt, ↓k_rb, ↓k_rbz, ↓k_rsi, ↓k_rsr, ↓k_rsv, ↓reduceIte, hz, eq_self, List.length_cons, List.length_nil, List.forall_mem_cons, List.not_mem_nil, Value.category, true_and, and_true, false_and, and_false, or_true, true_or, or_false, false_or, Nat.zero_le, forall_const, implies_true, false_implies, Nat.zero_add, Nat.reduceAdd, Nat.reduceLT, Nat.reduceLeDiff, Nat.le_refl, not_true_eq_false, not_false_eq_true, r_eq, r_ne, r_lt, r_ge, r_gt, r_le, bz_ne, nn_toNat, cn_of, cn_0, cn_1, i10, Int.reduceLE, Int.reduceLT, Int.reduceEq, bz_T, bz_F, ite_self, mulc, st_bud]
      exact hk
    · subst q
      obtain ⟨G1, y1, p1, p2, p3, lw⟩ := c3_pass (T := T) (nx := nx) (rc := rc) (rs := rs) (R := R) (r := r) o o8 ht hF hQ n16 tc nt i0 ij jN sl sr lk
      have n1 : ∀ f, 0 ≤ f → f < nf → 1 ≤ n f := fun f f0 f1 => (tc.2.2.2.2.2 f f0 f1).2.1.1
      have st' : ∀ c : Int, EXk Q (G (a + 4)) i j c → EXk Q (G1 (a + 4)) i j (c + 1) := fun c h => round_ex hF hQ n16 i0 ij jN sl p1 n1 p2 h
      have rx' : EXk Q (G (a + 4)) i j 6 → RXk Q ft nf C n (G1 (a + 5)) i j := fun h => round_rx hF hQ n16 i0 ij jN sl p1 p2 h
      have z1 : y1 = 0 → EXk Q (G1 (a + 4)) i j 6 ∧ RXk Q ft nf C n (G1 (a + 5)) i j := fun e => by
        obtain ⟨_, u2, _⟩ := p3.resolve_right (fun q => by omega)
        have up : ∀ m : Nat, EXk Q (G (a + 4)) i j m := by
          intro m
          induction m with
          | zero =>
            intro s s0 s1 hc
            have := cnn_1 (Z := fun x => Q x i j) s0 s1
            omega
          | succ m ihm =>
            have := st' m ihm
            rw [u2] at this
            exact this
        have e6 := up 6
        exact ⟨by rw [u2]; exact e6, rx' e6⟩
      have p1' := p1
      obtain ⟨h1, _, _, h4, h5, h6, _, _⟩ := p1'
      obtain ⟨G', r', y', q1, q2, q3, st2⟩ := ih G1 (r + 1) y1 (TC_fr h1 ht tc) (NFt_fr h1 nt) i0 ij jN h4 h5 h6 (by omega) (by omega) (by omega) (st' r ex) (fun h => rx' fun s s0 s1 _ => ex s s0 s1 (by have := (cn_b (fun x => Q x i j) s).2; omega)) z1
      refine ⟨G', r', y', SS_tr p1 q1, q2, q3, fun Kn Kr h => q_backR (fun K Kf hk => ?_) (st2 Kn Kr h)⟩
      have one : ¬ (1 : Int) = 0 := by omega
      clear tc nt sl sr lk ex rx z hF hQ ih p1 p2 p3 st' rx' z1 h1 h4 h5 h6 q1 q2 q3 st2 n1
      simp (disch := omega) only [↓wcX3_settle_2.eq_1, ↓wsX3_settle_2.eq_1, ↓k_mk, ↓k_sq, ↓k_sk, ↓k_bk, ↓k_if, ↓k_te, ↓k_cm, ↓k_cz, ↓k_an2, ↓k_or2, ↓k_no, ↓k_ci, ↓k_l0, ↓k_r0, ↓k_se0, ↓k_ic0, ↓k_l1, ↓k_r1, ↓k_se1, ↓k_ic1, ↓k_de1, ↓k_tk1, ↓k_l2, ↓k_r2, ↓k_se2, ↓k_ic2, ↓k_de2, ↓k_tk2, ↓k_l3, ↓k_r3, ↓k_se3, ↓k_ic3, ↓k_de3, ↓k_tk3, ↓k_l4, ↓k_r4, ↓k_se4, ↓k_ic4, ↓k_de4, ↓k_tk4, ↓k_l5, ↓k_r5, ↓k_se5, ↓k_ic5, ↓k_de5, ↓k_tk5, ↓k_l6, ↓k_r6, ↓k_se6, ↓k_ic6, ↓k_de6, ↓k_tk6, ↓k_l7, ↓k_r7, ↓k_se7, ↓k_ic7, ↓k_de7, ↓k_tk7, ↓k_l8, ↓k_r8, ↓k_se8, ↓k_ic8, ↓k_de8, ↓k_tk8, ↓k_l9, ↓k_r9, ↓k_se9, ↓k_ic9, ↓k_de9, ↓k_tk9, ↓k_l10, ↓k_r10, ↓k_se10, ↓k_ic10, ↓k_de10, ↓k_tk10, ↓k_l11, ↓k_r11, ↓k_se11, ↓k_ic11, ↓k_de11, ↓k_tk11, ↓k_l12, ↓k_r12, ↓k_se12, ↓k_ic12, ↓k_de12, ↓k_tk12, ↓k_l13, ↓k_r13, ↓k_se13, ↓k_ic13, ↓k_de13, ↓k_tk13, ↓k_l14, ↓k_r14, ↓k_se14, ↓k_ic14, ↓k_de14, ↓k_tk14, ↓k_l15, ↓k_r15, ↓k_se15, ↓k_ic15, ↓k_de15, ↓k_tk15, ↓k_l16, ↓k_r16, ↓k_se16, ↓k_ic16, ↓k_de16, ↓k_tk16, ↓k_l17, ↓k_r17, ↓k_se17, ↓k_ic17, ↓k_de17, ↓k_tk17, ↓k_l18, ↓k_r18, ↓k_se18, ↓k_ic18, ↓k_de18, ↓k_tk18, ↓k_l19, ↓k_r19, ↓k_se19, ↓k_ic19, ↓k_de19, ↓k_tk19, ↓k_l20, ↓k_r20, ↓k_se20, ↓k_ic20, ↓k_de20, ↓k_tk20, ↓k_l21, ↓k_r21, ↓k_se21, ↓k_ic21, ↓k_de21, ↓k_tk21, ↓k_l22, ↓k_r22, ↓k_se22, ↓k_ic22, ↓k_de22, ↓k_tk22, ↓k_l23, ↓k_r23, ↓k_se23, ↓k_ic23, ↓k_de23, ↓k_tk23, ↓k_l24, ↓k_r24, ↓k_se24, ↓k_ic24, ↓k_de24, ↓k_tk24, ↓k_l25, ↓k_r25, ↓k_se25, ↓k_ic25, ↓k_de25, ↓k_tk25, ↓k_k, ↓k_kn, ↓k_kl, ↓k_kln, ↓k_il, ↓k_2, ↓k_1, ↓k_2c, ↓k_2l, ↓k_ac, ↓k_an, ↓k_cs, ↓k_cv, ↓k_fi, ↓k_fr, ↓k_ai, ↓k_az, ↓k_ar, ↓k_sai, ↓k_saz, ↓k_soa, ↓k_sof, ↓k_spf, ↓k_sx, ↓k_blk, ↓k_sset, ↓k_sdec, ↓k_sri, ↓k_srv, ↓k_srr, ↓k_nop, ↓k_add, ↓k_sub, ↓k_mul, ↓k_min, ↓k_max, ↓k_shr, ↓k_shl, ↓k_or, ↓k_ilz, ↓k_addl, ↓k_rt, ↓k_rb, ↓k_rbz, ↓k_rsi, ↓k_rsr, ↓k_rsv, ↓reduceIte, hz, one, ↓lw, List.length_cons, List.length_nil, List.forall_mem_cons, List.not_mem_nil, Value.category, true_and, and_true, false_and, and_false, or_true, true_or, or_false, false_or, Nat.zero_le, forall_const, implies_true, false_implies, Nat.zero_add, Nat.reduceAdd, Nat.reduceLT, Nat.reduceLeDiff, Nat.le_refl, not_true_eq_false, not_false_eq_true, r_eq, r_ne, r_lt, r_ge, r_gt, r_le, bz_ne, nn_toNat, cn_of, cn_0, cn_1, i10, Int.reduceLE, Int.reduceLT, Int.reduceEq, bz_T, bz_F, ite_self, mulc, st_bud]
      exact hk
end
