section
/-! the class settles a sort on one span -/
theorem o_00 : q_gior (zI 0) (zI 0) = zI 0 := by decide +kernel
theorem o_01 : q_gior (zI 0) (zI 1) = zI 1 := by decide +kernel
theorem o_10 : q_gior (zI 1) (zI 0) = zI 1 := by decide +kernel
theorem o_11 : q_gior (zI 1) (zI 1) = zI 1 := by decide +kernel
/-- one form -/
theorem ss_form {T : Nat → Option q_T} {nx rc rs a t : Nat} {R : Nat → Nat → Option Value} {G : Nat → Int → Int} {N nf i j : Int} {sf C n : Int → Int} {ft : Int → Int → Bool} {Q : Int → Int → Int → Int} {f s y p : Int} (o : Ly T R a (L3 a t)) (o8 : Ly T R t (L8 t)) (ht : t + 14 ≤ a) (hF : FO5 nf sf (fun ff => il (gC C ff) 0 (n ff - 0).toNat)) (hQ : QOK nf sf (fun ff => il (gC C ff) 0 (n ff - 0).toNat) ft N Q) (n16 : N ≤ 16) (tc : TC G t nf sf C n) (nt : NFt G a ft N (fun _ => True)) (i0 : 0 ≤ i) (ij : i ≤ j) (jN : j ≤ N) (sl : SL Q (G (a + 4)) i j) (sr : SR Q ft nf C n (G (a + 5)) i j) (f0 : 0 ≤ f) (f1 : f < nf) (fs : sf f = s) (yb : y = 0 ∨ y = 1) :
    ∃ G' y', (∀ x, ¬ x = a + 5 → G' x = G x) ∧ (∀ z, (∀ k, 0 ≤ k → k < n f → ¬ z = (289 * (5 * f + k) + 17 * i + j)) → G' (a + 5) z = G (a + 5) z) ∧ SR Q ft nf C n (G' (a + 5)) i j ∧ (∀ k, 0 ≤ k → k < n f → G' (a + 5) (289 * (5 * f + k) + 17 * i + j) ≤ G (a + 5) (289 * (5 * f + k) + 17 * i + j) ∧ G' (a + 5) (289 * (5 * f + k) + 17 * i + j) ≤ rF 16777216 (pq 16777216 (G (a + 4))) ft C n j f k i) ∧ ((y' = 0 ∧ y = 0 ∧ G' (a + 5) = G (a + 5)) ∨ y' = 1) ∧
      ∀ (Kn : List Value → q_M → Prop) (Kr : Option Value → q_M → Prop), wX3_settleSort_1 [.ref a, .int (zI s), .int (zI i), .int (zI j), .int (zI y), .int (zI p), .int (zI f), .int (zI (n f - 1))] (st T nx rc rs R G) Kn Kr = Kn [.ref a, .int (zI s), .int (zI i), .int (zI j), .int (zI y'), .int (zI p), .int (zI f), .int (zI (-1))] (st T nx rc rs R G') := by
  have tc' := tc
  obtain ⟨c1, c2, c3, c4, c5, c6⟩ := tc'
  obtain ⟨b1, b2, b3⟩ := c6 f f0 f1
  have e2 : G (t + 2) f = s := by rw [c2, fs]
  have key : ∀ m : Nat, (m : Int) ≤ n f → ∃ G1 y1, (∀ x, ¬ x = a + 5 → G1 x = G x) ∧ (∀ z, (∀ k, n f - m ≤ k → k < n f → ¬ z = (289 * (5 * f + k) + 17 * i + j)) → G1 (a + 5) z = G (a + 5) z) ∧ SR Q ft nf C n (G1 (a + 5)) i j ∧ (∀ k, n f - m ≤ k → k < n f → G1 (a + 5) (289 * (5 * f + k) + 17 * i + j) ≤ G (a + 5) (289 * (5 * f + k) + 17 * i + j) ∧ G1 (a + 5) (289 * (5 * f + k) + 17 * i + j) ≤ rF 16777216 (pq 16777216 (G (a + 4))) ft C n j f k i) ∧ ((y1 = 0 ∧ y = 0 ∧ G1 (a + 5) = G (a + 5)) ∨ y1 = 1) ∧
      ∀ (Kn : List Value → q_M → Prop) (Kr : Option Value → q_M → Prop), q_wh wcX3_settleSort_1 wsX3_settleSort_1 [.ref a, .int (zI s), .int (zI i), .int (zI j), .int (zI y1), .int (zI p), .int (zI f), .int (zI (n f - 1 - m))] (st T nx rc rs R G1) Kn Kr → q_wh wcX3_settleSort_1 wsX3_settleSort_1 [.ref a, .int (zI s), .int (zI i), .int (zI j), .int (zI y), .int (zI p), .int (zI f), .int (zI (n f - 1))] (st T nx rc rs R G) Kn Kr := by
    intro m
    induction m with
    | zero =>
      intro _
      exact ⟨G, y, fun _ _ => rfl, fun _ _ => rfl, sr, fun k q0 q1 => by omega, yb.elim (fun z => Or.inl ⟨z, z, rfl⟩) Or.inr, fun Kn Kr h => by
        rw [show n f - 1 - ((0 : Nat) : Int) = n f - 1 by omega] at h
        exact h⟩
    | succ m ih =>
      intro hm
      obtain ⟨G1, y1, p1, p2, p3, p4, p5, st1⟩ := ih (by omega)
      obtain ⟨k, hk⟩ : ∃ k, k = n f - 1 - (m : Int) := ⟨_, rfl⟩
      obtain ⟨it, hit⟩ : ∃ it, it = C (5 * f + k) := ⟨_, rfl⟩
      have fr1 : FrL G G1 a := fun x q1 q2 => p1 x q2
      have tc1 := TC_fr fr1 ht tc
      have nt1 := NFt_fr fr1 nt
      have e4 : G1 (a + 4) = G (a + 4) := p1 _ (by omega)
      have sl1 : SL Q (G1 (a + 4)) i j := by rw [e4]; exact sl
      have k1 : k < n f := by omega
      have k0 : 0 ≤ k := by omega
      have lb := pf_lb hF hQ n16 i0 ij jN f0 f1 k0 k1 hit sl1 p3
      have ub := pf_ub hF hQ n16 i0 ij jN f0 f1 k0 k1 hit sl1 p3 (by
        by_cases c : n f ≤ k + 1
        · exact Or.inl c
        · refine Or.inr ?_
          rw [e4]
          exact (p4 (k + 1) (by omega) (by omega)).2)
      have pb := pf_b hF hQ n16 i0 ij jN f0 f1 k0 k1 hit sl1 p3
      have cP := fun K : Option Value → q_M → Prop => c3_priceFrom (T := T) (nx := nx) (rc := 0) (rs := 0) (R := R) (G := G1) (N := N) (f := f) (k := k) (i := i) (j := j) (it := it) (K := K) o o8 ht tc1 n16 nt1 f0 f1 k0 k1 i0 ij jN hit (fun m' m0 m1 => ⟨itP_b (by omega) m0 (by omega) (X_b hF hQ n16 i0 jN sl1 _ _ _ (Int.le_refl _) m0 m1), be_b hF hQ n16 i0 ij jN f0 f1 k0 k1 hit sl1 p3 m0 m1⟩)
      obtain ⟨v, hv⟩ : ∃ v, v = minN (fun m => itP (pq 16777216 (G1 (a + 4))) ft it i m + beV (G1 (a + 5)) n f (k + 1) m j) i 16777216 (j - i + 1).toNat := ⟨_, rfl⟩
      rw [← hv] at lb ub pb cP
      obtain ⟨w, hw⟩ : ∃ w, w = G1 (a + 5) (289 * (5 * f + k) + 17 * i + j) := ⟨_, rfl⟩
      have ob := p3.2 f k f0 f1 k0 k1
      rw [← hw] at ob
      obtain ⟨w', hw'⟩ : ∃ w', w' = min w v := ⟨_, rfl⟩
      obtain ⟨G2, e⟩ : ∃ M, M = gs G1 (a + 5) (289 * (5 * f + k) + 17 * i + j) w' := ⟨_, rfl⟩
      have n2 : ∀ z, ¬ z = (289 * (5 * f + k) + 17 * i + j) → G2 (a + 5) z = G1 (a + 5) z := fun z q => by rw [e, gs_eq, fu_ne q]
      have o2 : G2 (a + 5) (289 * (5 * f + k) + 17 * i + j) = w' := by rw [e, gs_same]
      have rr0 := rF_nn (I := 1000000) (P := Q) (ft := ft) (C := C) (n := n) (j := j) (f := f) (k := k) (q := i) (by omega) (fun s a b q1 q2 q3 => (Q_nn hQ s (show 0 ≤ a by omega) q2 (by omega)).1)
      have crb := cl_b rr0
      have same : ¬ v < w → G2 (a + 5) = G1 (a + 5) := fun d => by
        funext z
        by_cases q : z = (289 * (5 * f + k) + 17 * i + j)
        · rw [q, o2, hw', hw]
          omega
        · exact n2 z q
      have kb : 0 ≤ f ∧ f < 14 ∧ k < 5 ∧ i ≤ 16 ∧ j ≤ 16 := by omega
      refine ⟨G2, if v < w then 1 else y1, fun x q => by rw [e, gs_ne q, p1 x q], fun z q => ?_, ⟨fun f' k' p' q0 q1 q2 q3 q4 q5 => ?_, fun f' k' q0 q1 q2 q3 => ?_⟩, fun k' q0 q1 => ?_, ?_, fun Kn Kr h => st1 Kn Kr (q_backR (fun K Kf hk2 => ?_) h)⟩
      · rw [n2 z (q k (by omega) k1)]
        exact p2 z fun k' r0 r1 => q k' (by omega) r1
      · have nf5 := (c6 f' q0 q1).2.1
        rw [n2 _ (fun z => by
          have := (ix_inj (by omega) (by omega) (by omega) (by omega) i0 (by omega) (by omega) (by omega) z).2.1
          omega)]
        exact p3.1 f' k' p' q0 q1 q2 q3 q4 q5
      · have nf5 := (c6 f' q0 q1).2.1
        by_cases q : 289 * (5 * f' + k') + 17 * i + j = (289 * (5 * f + k) + 17 * i + j)
        · have ef : f' = f := by omega
          have ek : k' = k := by omega
          rw [ef, ek, o2, hw']
          omega
        · rw [n2 _ q]
          exact p3.2 f' k' q0 q1 q2 q3
      · by_cases q : k' = k
        · have old : w ≤ G (a + 5) (289 * (5 * f + k) + 17 * i + j) := by
            rw [hw, p2 _ (fun k'' r0 r1 => by omega)]
            exact Int.le_refl _
          rw [e4] at ub
          rw [q, o2, hw']
          omega
        · rw [n2 _ (by omega)]
          exact p4 k' (by omega) q1
      · by_cases d : v < w
        · rw [if_pos d]
          exact Or.inr rfl
        · rw [if_neg d, same d]
          exact p5
      · have y1b : y1 = 0 ∨ y1 = 1 := by omega
        have hz : 0 ≤ k := k0
        have e2' : G1 (t + 2) f = s := by rw [p1 _ (by omega)]; exact e2
        have e7 : n f - 1 - ((m + 1 : Nat) : Int) = k + -1 := by omega
        rw [e7, e] at hk2
        rw [← hk]
        have hw := hw.symm
        have wb : 0 ≤ w ∧ w ≤ 16777216 := by omega
        have one : ¬ (1 : Int) = 0 := by omega
        clear lb ub p2 p3 p4 p5 sl1 nt1 tc1 tc nt sl sr hF hQ c6 b3 n2 o2 same ih st1 hv rr0 e crb e2
        by_cases d : v < w
        · have ew : w' = v := by omega
          have mn : min w v = v := by omega
          rw [if_pos d, ew] at hk2
          rcases y1b with q | q
          · subst q
            simp (disch := omega) only [↓wcX3_settleSort_1.eq_1, ↓wsX3_settleSort_1.eq_1, ↓(k_cs3 dX3_spot), ↓(k_cv4 dX3_priceFrom (t3 o)), ↓k_mk, ↓k_sq, ↓k_sk, ↓k_bk, ↓k_if, ↓k_te, ↓k_cm, ↓k_cz, ↓k_an2, ↓k_or2, ↓k_no, ↓k_ci, ↓k_l0, ↓k_r0, ↓k_se0, ↓k_ic0, ↓k_l1, ↓k_r1, ↓k_se1, ↓k_ic1, ↓k_de1, ↓k_tk1, ↓k_l2, ↓k_r2, ↓k_se2, ↓k_ic2, ↓k_de2, ↓k_tk2, ↓k_l3, ↓k_r3, ↓k_se3, ↓k_ic3, ↓k_de3, ↓k_tk3, ↓k_l4, ↓k_r4, ↓k_se4, ↓k_ic4, ↓k_de4, ↓k_tk4, ↓k_l5, ↓k_r5, ↓k_se5, ↓k_ic5, ↓k_de5, ↓k_tk5, ↓k_l6, ↓k_r6, ↓k_se6, ↓k_ic6, ↓k_de6, ↓k_tk6, ↓k_l7, ↓k_r7, ↓k_se7, ↓k_ic7, ↓k_de7, ↓k_tk7, ↓k_l8, ↓k_r8, ↓k_se8, ↓k_ic8, ↓k_de8, ↓k_tk8, ↓k_l9, ↓k_r9, ↓k_se9, ↓k_ic9, ↓k_de9, ↓k_tk9, ↓k_l10, ↓k_r10, ↓k_se10, ↓k_ic10, ↓k_de10, ↓k_tk10, ↓k_l11, ↓k_r11, ↓k_se11, ↓k_ic11, ↓k_de11, ↓k_tk11, ↓k_l12, ↓k_r12, ↓k_se12, ↓k_ic12, ↓k_de12, ↓k_tk12, ↓k_l13, ↓k_r13, ↓k_se13, ↓k_ic13, ↓k_de13, ↓k_tk13, ↓k_l14, ↓k_r14, ↓k_se14, ↓k_ic14, ↓k_de14, ↓k_tk14, ↓k_l15, ↓k_r15, ↓k_se15, ↓k_ic15, ↓k_de15, ↓k_tk15, ↓k_l16, ↓k_r16, ↓k_se16, ↓k_ic16, ↓k_de16, ↓k_tk16, ↓k_l17, ↓k_r17, ↓k_se17, ↓k_ic17, ↓k_de17, ↓k_tk17, ↓k_l18, ↓k_r18, ↓k_se18, ↓k_ic18, ↓k_de18, ↓k_tk18, ↓k_l19, ↓k_r19, ↓k_se19, ↓k_ic19, ↓k_de19, ↓k_tk19, ↓k_l20, ↓k_r20, ↓k_se20, ↓k_ic20, ↓k_de20, ↓k_tk20, ↓k_l21, ↓k_r21, ↓k_se21, ↓k_ic21, ↓k_de21, ↓k_tk21, ↓k_l22, ↓k_r22, ↓k_se22, ↓k_ic22, ↓k_de22, ↓k_tk22, ↓k_l23, ↓k_r23, ↓k_se23, ↓k_ic23, ↓k_de23, ↓k_tk23, ↓k_l24, ↓k_r24, ↓k_se24, ↓k_ic24, ↓k_de24, ↓k_tk24, ↓k_l25, ↓k_r25, ↓k_se25, ↓k_ic25, ↓k_de25, ↓k_tk25, ↓k_k, ↓k_kn, ↓k_kl, ↓k_kln, ↓k_il, ↓k_2, ↓k_1, ↓k_2c, ↓k_2l, ↓k_ac, ↓k_an, ↓k_cs, ↓k_cv, ↓k_fi, ↓k_fr, ↓k_ai, ↓k_az, ↓k_ar, ↓k_sai, ↓k_saz, ↓k_soa, ↓k_sof, ↓k_spf, ↓k_sx, ↓k_blk, ↓k_sset, ↓k_sdec, ↓k_sri, ↓k_srv, ↓k_srr, ↓k_nop, ↓k_add, ↓k_sub, ↓k_mul, ↓k_min, ↓k_max, ↓k_shr, ↓k_shl, ↓k_or, ↓k_ilz, ↓k_addl, ↓k_rt, ↓k_rb, ↓k_rbz, ↓k_rsi, ↓k_rsr, ↓k_rsv, ↓reduceIte, hz, e2', eq_self, ↓(k_cv4 dX3_priceFrom (t3 o)), ↓cP, ↓c3_spot, hw, d, o_01, mn, ↓xr3_1 o, ↓xr3_6 o, ↓xa3_6 o, ↓xs3_6 o, ↓xo3_6 o, ↓xc3_6 o, ↓xd3_6 o, ↓xr8_2 o8, ↓xa8_2 o8, ↓xs8_2 o8, ↓xo8_2 o8, ↓xc8_2 o8, ↓xd8_2 o8, List.length_cons, List.length_nil, List.forall_mem_cons, List.not_mem_nil, Value.category, true_and, and_true, false_and, and_false, or_true, true_or, or_false, false_or, Nat.zero_le, forall_const, implies_true, false_implies, Nat.zero_add, Nat.reduceAdd, Nat.reduceLT, Nat.reduceLeDiff, Nat.le_refl, not_true_eq_false, not_false_eq_true, r_eq, r_ne, r_lt, r_ge, r_gt, r_le, bz_ne, nn_toNat, cn_of, cn_0, cn_1, i10, Int.reduceLE, Int.reduceLT, Int.reduceEq, bz_T, bz_F, ite_self, mulc, st_bud]
            exact hk2
          · subst q
            simp (disch := omega) only [↓wcX3_settleSort_1.eq_1, ↓wsX3_settleSort_1.eq_1, ↓(k_cs3 dX3_spot), ↓(k_cv4 dX3_priceFrom (t3 o)), ↓k_mk, ↓k_sq, ↓k_sk, ↓k_bk, ↓k_if, ↓k_te, ↓k_cm, ↓k_cz, ↓k_an2, ↓k_or2, ↓k_no, ↓k_ci, ↓k_l0, ↓k_r0, ↓k_se0, ↓k_ic0, ↓k_l1, ↓k_r1, ↓k_se1, ↓k_ic1, ↓k_de1, ↓k_tk1, ↓k_l2, ↓k_r2, ↓k_se2, ↓k_ic2, ↓k_de2, ↓k_tk2, ↓k_l3, ↓k_r3, ↓k_se3, ↓k_ic3, ↓k_de3, ↓k_tk3, ↓k_l4, ↓k_r4, ↓k_se4, ↓k_ic4, ↓k_de4, ↓k_tk4, ↓k_l5, ↓k_r5, ↓k_se5, ↓k_ic5, ↓k_de5, ↓k_tk5, ↓k_l6, ↓k_r6, ↓k_se6, ↓k_ic6, ↓k_de6, ↓k_tk6, ↓k_l7, ↓k_r7, ↓k_se7, ↓k_ic7, ↓k_de7, ↓k_tk7, ↓k_l8, ↓k_r8, ↓k_se8, ↓k_ic8, ↓k_de8, ↓k_tk8, ↓k_l9, ↓k_r9, ↓k_se9, ↓k_ic9, ↓k_de9, ↓k_tk9, ↓k_l10, ↓k_r10, ↓k_se10, ↓k_ic10, ↓k_de10, ↓k_tk10, ↓k_l11, ↓k_r11, ↓k_se11, ↓k_ic11, ↓k_de11, ↓k_tk11, ↓k_l12, ↓k_r12, ↓k_se12, ↓k_ic12, ↓k_de12, ↓k_tk12, ↓k_l13, ↓k_r13, ↓k_se13, ↓k_ic13, ↓k_de13, ↓k_tk13, ↓k_l14, ↓k_r14, ↓k_se14, ↓k_ic14, ↓k_de14, ↓k_tk14, ↓k_l15, ↓k_r15, ↓k_se15, ↓k_ic15, ↓k_de15, ↓k_tk15, ↓k_l16, ↓k_r16, ↓k_se16, ↓k_ic16, ↓k_de16, ↓k_tk16, ↓k_l17, ↓k_r17, ↓k_se17, ↓k_ic17, ↓k_de17, ↓k_tk17, ↓k_l18, ↓k_r18, ↓k_se18, ↓k_ic18, ↓k_de18, ↓k_tk18, ↓k_l19, ↓k_r19, ↓k_se19, ↓k_ic19, ↓k_de19, ↓k_tk19, ↓k_l20, ↓k_r20, ↓k_se20, ↓k_ic20, ↓k_de20, ↓k_tk20, ↓k_l21, ↓k_r21, ↓k_se21, ↓k_ic21, ↓k_de21, ↓k_tk21, ↓k_l22, ↓k_r22, ↓k_se22, ↓k_ic22, ↓k_de22, ↓k_tk22, ↓k_l23, ↓k_r23, ↓k_se23, ↓k_ic23, ↓k_de23, ↓k_tk23, ↓k_l24, ↓k_r24, ↓k_se24, ↓k_ic24, ↓k_de24, ↓k_tk24, ↓k_l25, ↓k_r25, ↓k_se25, ↓k_ic25, ↓k_de25, ↓k_tk25, ↓k_k, ↓k_kn, ↓k_kl, ↓k_kln, ↓k_il, ↓k_2, ↓k_1, ↓k_2c, ↓k_2l, ↓k_ac, ↓k_an, ↓k_cs, ↓k_cv, ↓k_fi, ↓k_fr, ↓k_ai, ↓k_az, ↓k_ar, ↓k_sai, ↓k_saz, ↓k_soa, ↓k_sof, ↓k_spf, ↓k_sx, ↓k_blk, ↓k_sset, ↓k_sdec, ↓k_sri, ↓k_srv, ↓k_srr, ↓k_nop, ↓k_add, ↓k_sub, ↓k_mul, ↓k_min, ↓k_max, ↓k_shr, ↓k_shl, ↓k_or, ↓k_ilz, ↓k_addl, ↓k_rt, ↓k_rb, ↓k_rbz, ↓k_rsi, ↓k_rsr, ↓k_rsv, ↓reduceIte, hz, e2', eq_self, ↓(k_cv4 dX3_priceFrom (t3 o)), ↓cP, ↓c3_spot, hw, d, o_11, mn, ↓xr3_1 o, ↓xr3_6 o, ↓xa3_6 o, ↓xs3_6 o, ↓xo3_6 o, ↓xc3_6 o, ↓xd3_6 o, ↓xr8_2 o8, ↓xa8_2 o8, ↓xs8_2 o8, ↓xo8_2 o8, ↓xc8_2 o8, ↓xd8_2 o8, List.length_cons, List.length_nil, List.forall_mem_cons, List.not_mem_nil, Value.category, true_and, and_true, false_and, and_false, or_true, true_or, or_false, false_or, Nat.zero_le, forall_const, implies_true, false_implies, Nat.zero_add, Nat.reduceAdd, Nat.reduceLT, Nat.reduceLeDiff, Nat.le_refl, not_true_eq_false, not_false_eq_true, r_eq, r_ne, r_lt, r_ge, r_gt, r_le, bz_ne, nn_toNat, cn_of, cn_0, cn_1, i10, Int.reduceLE, Int.reduceLT, Int.reduceEq, bz_T, bz_F, ite_self, mulc, st_bud]
            exact hk2
        · have ew : w' = w := by omega
          have mn : min w v = w := by omega
          rw [if_neg d, ew] at hk2
          rcases y1b with q | q
          · subst q
            simp (disch := omega) only [↓wcX3_settleSort_1.eq_1, ↓wsX3_settleSort_1.eq_1, ↓(k_cs3 dX3_spot), ↓(k_cv4 dX3_priceFrom (t3 o)), ↓k_mk, ↓k_sq, ↓k_sk, ↓k_bk, ↓k_if, ↓k_te, ↓k_cm, ↓k_cz, ↓k_an2, ↓k_or2, ↓k_no, ↓k_ci, ↓k_l0, ↓k_r0, ↓k_se0, ↓k_ic0, ↓k_l1, ↓k_r1, ↓k_se1, ↓k_ic1, ↓k_de1, ↓k_tk1, ↓k_l2, ↓k_r2, ↓k_se2, ↓k_ic2, ↓k_de2, ↓k_tk2, ↓k_l3, ↓k_r3, ↓k_se3, ↓k_ic3, ↓k_de3, ↓k_tk3, ↓k_l4, ↓k_r4, ↓k_se4, ↓k_ic4, ↓k_de4, ↓k_tk4, ↓k_l5, ↓k_r5, ↓k_se5, ↓k_ic5, ↓k_de5, ↓k_tk5, ↓k_l6, ↓k_r6, ↓k_se6, ↓k_ic6, ↓k_de6, ↓k_tk6, ↓k_l7, ↓k_r7, ↓k_se7, ↓k_ic7, ↓k_de7, ↓k_tk7, ↓k_l8, ↓k_r8, ↓k_se8, ↓k_ic8, ↓k_de8, ↓k_tk8, ↓k_l9, ↓k_r9, ↓k_se9, ↓k_ic9, ↓k_de9, ↓k_tk9, ↓k_l10, ↓k_r10, ↓k_se10, ↓k_ic10, ↓k_de10, ↓k_tk10, ↓k_l11, ↓k_r11, ↓k_se11, ↓k_ic11, ↓k_de11, ↓k_tk11, ↓k_l12, ↓k_r12, ↓k_se12, ↓k_ic12, ↓k_de12, ↓k_tk12, ↓k_l13, ↓k_r13, ↓k_se13, ↓k_ic13, ↓k_de13, ↓k_tk13, ↓k_l14, ↓k_r14, ↓k_se14, ↓k_ic14, ↓k_de14, ↓k_tk14, ↓k_l15, ↓k_r15, ↓k_se15, ↓k_ic15, ↓k_de15, ↓k_tk15, ↓k_l16, ↓k_r16, ↓k_se16, ↓k_ic16, ↓k_de16, ↓k_tk16, ↓k_l17, ↓k_r17, ↓k_se17, ↓k_ic17, ↓k_de17, ↓k_tk17, ↓k_l18, ↓k_r18, ↓k_se18, ↓k_ic18, ↓k_de18, ↓k_tk18, ↓k_l19, ↓k_r19, ↓k_se19, ↓k_ic19, ↓k_de19, ↓k_tk19, ↓k_l20, ↓k_r20, ↓k_se20, ↓k_ic20, ↓k_de20, ↓k_tk20, ↓k_l21, ↓k_r21, ↓k_se21, ↓k_ic21, ↓k_de21, ↓k_tk21, ↓k_l22, ↓k_r22, ↓k_se22, ↓k_ic22, ↓k_de22, ↓k_tk22, ↓k_l23, ↓k_r23, ↓k_se23, ↓k_ic23, ↓k_de23, ↓k_tk23, ↓k_l24, ↓k_r24, ↓k_se24, ↓k_ic24, ↓k_de24, ↓k_tk24, ↓k_l25, ↓k_r25, ↓k_se25, ↓k_ic25, ↓k_de25, ↓k_tk25, ↓k_k, ↓k_kn, ↓k_kl, ↓k_kln, ↓k_il, ↓k_2, ↓k_1, ↓k_2c, ↓k_2l, ↓k_ac, ↓k_an, ↓k_cs, ↓k_cv, ↓k_fi, ↓k_fr, ↓k_ai, ↓k_az, ↓k_ar, ↓k_sai, ↓k_saz, ↓k_soa, ↓k_sof, ↓k_spf, ↓k_sx, ↓k_blk, ↓k_sset, ↓k_sdec, ↓k_sri, ↓k_srv, ↓k_srr, ↓k_nop, ↓k_add, ↓k_sub, ↓k_mul, ↓k_min, ↓k_max, ↓k_shr, ↓k_shl, ↓k_or, ↓k_ilz, ↓k_addl, ↓k_rt, ↓k_rb, ↓k_rbz, ↓k_rsi, ↓k_rsr, ↓k_rsv, ↓reduceIte, hz, e2', eq_self, ↓(k_cv4 dX3_priceFrom (t3 o)), ↓cP, ↓c3_spot, hw, d, o_00, mn, ↓xr3_1 o, ↓xr3_6 o, ↓xa3_6 o, ↓xs3_6 o, ↓xo3_6 o, ↓xc3_6 o, ↓xd3_6 o, ↓xr8_2 o8, ↓xa8_2 o8, ↓xs8_2 o8, ↓xo8_2 o8, ↓xc8_2 o8, ↓xd8_2 o8, List.length_cons, List.length_nil, List.forall_mem_cons, List.not_mem_nil, Value.category, true_and, and_true, false_and, and_false, or_true, true_or, or_false, false_or, Nat.zero_le, forall_const, implies_true, false_implies, Nat.zero_add, Nat.reduceAdd, Nat.reduceLT, Nat.reduceLeDiff, Nat.le_refl, not_true_eq_false, not_false_eq_true, r_eq, r_ne, r_lt, r_ge, r_gt, r_le, bz_ne, nn_toNat, cn_of, cn_0, cn_1, i10, Int.reduceLE, Int.reduceLT, Int.reduceEq, bz_T, bz_F, ite_self, mulc, st_bud]
            exact hk2
          · subst q
            simp (disch := omega) only [↓wcX3_settleSort_1.eq_1, ↓wsX3_settleSort_1.eq_1, ↓(k_cs3 dX3_spot), ↓(k_cv4 dX3_priceFrom (t3 o)), ↓k_mk, ↓k_sq, ↓k_sk, ↓k_bk, ↓k_if, ↓k_te, ↓k_cm, ↓k_cz, ↓k_an2, ↓k_or2, ↓k_no, ↓k_ci, ↓k_l0, ↓k_r0, ↓k_se0, ↓k_ic0, ↓k_l1, ↓k_r1, ↓k_se1, ↓k_ic1, ↓k_de1, ↓k_tk1, ↓k_l2, ↓k_r2, ↓k_se2, ↓k_ic2, ↓k_de2, ↓k_tk2, ↓k_l3, ↓k_r3, ↓k_se3, ↓k_ic3, ↓k_de3, ↓k_tk3, ↓k_l4, ↓k_r4, ↓k_se4, ↓k_ic4, ↓k_de4, ↓k_tk4, ↓k_l5, ↓k_r5, ↓k_se5, ↓k_ic5, ↓k_de5, ↓k_tk5, ↓k_l6, ↓k_r6, ↓k_se6, ↓k_ic6, ↓k_de6, ↓k_tk6, ↓k_l7, ↓k_r7, ↓k_se7, ↓k_ic7, ↓k_de7, ↓k_tk7, ↓k_l8, ↓k_r8, ↓k_se8, ↓k_ic8, ↓k_de8, ↓k_tk8, ↓k_l9, ↓k_r9, ↓k_se9, ↓k_ic9, ↓k_de9, ↓k_tk9, ↓k_l10, ↓k_r10, ↓k_se10, ↓k_ic10, ↓k_de10, ↓k_tk10, ↓k_l11, ↓k_r11, ↓k_se11, ↓k_ic11, ↓k_de11, ↓k_tk11, ↓k_l12, ↓k_r12, ↓k_se12, ↓k_ic12, ↓k_de12, ↓k_tk12, ↓k_l13, ↓k_r13, ↓k_se13, ↓k_ic13, ↓k_de13, ↓k_tk13, ↓k_l14, ↓k_r14, ↓k_se14, ↓k_ic14, ↓k_de14, ↓k_tk14, ↓k_l15, ↓k_r15, ↓k_se15, ↓k_ic15, ↓k_de15, ↓k_tk15, ↓k_l16, ↓k_r16, ↓k_se16, ↓k_ic16, ↓k_de16, ↓k_tk16, ↓k_l17, ↓k_r17, ↓k_se17, ↓k_ic17, ↓k_de17, ↓k_tk17, ↓k_l18, ↓k_r18, ↓k_se18, ↓k_ic18, ↓k_de18, ↓k_tk18, ↓k_l19, ↓k_r19, ↓k_se19, ↓k_ic19, ↓k_de19, ↓k_tk19, ↓k_l20, ↓k_r20, ↓k_se20, ↓k_ic20, ↓k_de20, ↓k_tk20, ↓k_l21, ↓k_r21, ↓k_se21, ↓k_ic21, ↓k_de21, ↓k_tk21, ↓k_l22, ↓k_r22, ↓k_se22, ↓k_ic22, ↓k_de22, ↓k_tk22, ↓k_l23, ↓k_r23, ↓k_se23, ↓k_ic23, ↓k_de23, ↓k_tk23, ↓k_l24, ↓k_r24, ↓k_se24, ↓k_ic24, ↓k_de24, ↓k_tk24, ↓k_l25, ↓k_r25, ↓k_se25, ↓k_ic25, ↓k_de25, ↓k_tk25, ↓k_k, ↓k_kn, ↓k_kl, ↓k_kln, ↓k_il, ↓k_2, ↓k_1, ↓k_2c, ↓k_2l, ↓k_ac, ↓k_an, ↓k_cs, ↓k_cv, ↓k_fi, ↓k_fr, ↓k_ai, ↓k_az, ↓k_ar, ↓k_sai, ↓k_saz, ↓k_soa, ↓k_sof, ↓k_spf, ↓k_sx, ↓k_blk, ↓k_sset, ↓k_sdec, ↓k_sri, ↓k_srv, ↓k_srr, ↓k_nop, ↓k_add, ↓k_sub, ↓k_mul, ↓k_min, ↓k_max, ↓k_shr, ↓k_shl, ↓k_or, ↓k_ilz, ↓k_addl, ↓k_rt, ↓k_rb, ↓k_rbz, ↓k_rsi, ↓k_rsr, ↓k_rsv, ↓reduceIte, hz, e2', eq_self, ↓(k_cv4 dX3_priceFrom (t3 o)), ↓cP, ↓c3_spot, hw, d, o_10, mn, ↓xr3_1 o, ↓xr3_6 o, ↓xa3_6 o, ↓xs3_6 o, ↓xo3_6 o, ↓xc3_6 o, ↓xd3_6 o, ↓xr8_2 o8, ↓xa8_2 o8, ↓xs8_2 o8, ↓xo8_2 o8, ↓xc8_2 o8, ↓xd8_2 o8, List.length_cons, List.length_nil, List.forall_mem_cons, List.not_mem_nil, Value.category, true_and, and_true, false_and, and_false, or_true, true_or, or_false, false_or, Nat.zero_le, forall_const, implies_true, false_implies, Nat.zero_add, Nat.reduceAdd, Nat.reduceLT, Nat.reduceLeDiff, Nat.le_refl, not_true_eq_false, not_false_eq_true, r_eq, r_ne, r_lt, r_ge, r_gt, r_le, bz_ne, nn_toNat, cn_of, cn_0, cn_1, i10, Int.reduceLE, Int.reduceLT, Int.reduceEq, bz_T, bz_F, ite_self, mulc, st_bud]
            exact hk2
  obtain ⟨G', y', p1, p2, p3, p4, p5, st1⟩ := key (n f).toNat (by omega)
  have en : (((n f).toNat : Nat) : Int) = n f := by omega
  rw [en] at p2 p4 st1
  rw [show n f - 1 - n f = -1 by omega] at st1
  refine ⟨G', y', p1, fun z q => p2 z fun k r0 r1 => q k (by omega) r1, p3, fun k r0 r1 => p4 k (by omega) r1, p5, eX3_settleSort_1.eqn (st1 _ _ (q_outR (fun Kt Kf hk => ?_) ⟨rfl, rfl⟩))⟩
  have hz : ¬ (0 : Int) ≤ -1 := by omega
  clear p2 p3 p4 p5 st1 key tc nt sl sr hF hQ c6 b3
  simp (disch := omega) only [↓wcX3_settleSort_1.eq_1, ↓k_mk, ↓k_sq, ↓k_sk, ↓k_bk, ↓k_if, ↓k_te, ↓k_cm, ↓k_cz, ↓k_an2, ↓k_or2, ↓k_no, ↓k_ci, ↓k_l0, ↓k_r0, ↓k_se0, ↓k_ic0, ↓k_l1, ↓k_r1, ↓k_se1, ↓k_ic1, ↓k_de1, ↓k_tk1, ↓k_l2, ↓k_r2, ↓k_se2, ↓k_ic2, ↓k_de2, ↓k_tk2, ↓k_l3, ↓k_r3, ↓k_se3, ↓k_ic3, ↓k_de3, ↓k_tk3, ↓k_l4, ↓k_r4, ↓k_se4, ↓k_ic4, ↓k_de4, ↓k_tk4, ↓k_l5, ↓k_r5, ↓k_se5, ↓k_ic5, ↓k_de5, ↓k_tk5, ↓k_l6, ↓k_r6, ↓k_se6, ↓k_ic6, ↓k_de6, ↓k_tk6, ↓k_l7, ↓k_r7, ↓k_se7, ↓k_ic7, ↓k_de7, ↓k_tk7, ↓k_l8, ↓k_r8, ↓k_se8, ↓k_ic8, ↓k_de8, ↓k_tk8, ↓k_l9, ↓k_r9, ↓k_se9, ↓k_ic9, ↓k_de9, ↓k_tk9, ↓k_l10, ↓k_r10, ↓k_se10, ↓k_ic10, ↓k_de10, ↓k_tk10, ↓k_l11, ↓k_r11, ↓k_se11, ↓k_ic11, ↓k_de11, ↓k_tk11, ↓k_l12, ↓k_r12, ↓k_se12, ↓k_ic12, ↓k_de12, ↓k_tk12, ↓k_l13, ↓k_r13, ↓k_se13, ↓k_ic13, ↓k_de13, ↓k_tk13, ↓k_l14, ↓k_r14, ↓k_se14, ↓k_ic14, ↓k_de14, ↓k_tk14, ↓k_l15, ↓k_r15, ↓k_se15, ↓k_ic15, ↓k_de15, ↓k_tk15, ↓k_l16, ↓k_r16, ↓k_se16, ↓k_ic16, ↓k_de16, ↓k_tk16, ↓k_l17, ↓k_r17, ↓k_se17, ↓k_ic17, ↓k_de17, ↓k_tk17, ↓k_l18, ↓k_r18, ↓k_se18, ↓k_ic18, ↓k_de18, ↓k_tk18, ↓k_l19, ↓k_r19, ↓k_se19, ↓k_ic19, ↓k_de19, ↓k_tk19, ↓k_l20, ↓k_r20, ↓k_se20, ↓k_ic20, ↓k_de20, ↓k_tk20, ↓k_l21, ↓k_r21, ↓k_se21, ↓k_ic21, ↓k_de21, ↓k_tk21, ↓k_l22, ↓k_r22, ↓k_se22, ↓k_ic22, ↓k_de22, ↓k_tk22, ↓k_l23, ↓k_r23, ↓k_se23, ↓k_ic23, ↓k_de23, ↓k_tk23, ↓k_l24, ↓k_r24, ↓k_se24, ↓k_ic24, ↓k_de24, ↓k_tk24, ↓k_l25, ↓k_r25, ↓k_se25, ↓k_ic25, ↓k_de25, ↓k_tk25, ↓k_k, ↓k_kn, ↓k_kl, ↓k_kln, ↓k_il, ↓k_2, ↓k_1, ↓k_2c, ↓k_2l, ↓k_ac, ↓k_an, ↓k_cs, ↓k_cv, ↓k_fi, ↓k_fr, ↓k_ai, ↓k_az, ↓k_ar, ↓k_sai, ↓k_saz, ↓k_soa, ↓k_sof, ↓k_spf, ↓k_sx, ↓k_blk, ↓k_sset, ↓k_sdec, ↓k_sri, ↓k_srv, ↓k_srr, ↓k_nop, ↓k_add, ↓k_sub, ↓k_mul, ↓k_min, ↓k_max, ↓k_shr, ↓k_shl, ↓k_or, ↓k_ilz, ↓k_addl, ↓k_rt, ↓k_rb, ↓k_rbz, ↓k_rsi, ↓k_rsr, ↓k_rsv, ↓reduceIte, hz, List.length_cons, List.length_nil, List.forall_mem_cons, List.not_mem_nil, Value.category, true_and, and_true, false_and, and_false, or_true, true_or, or_false, false_or, Nat.zero_le, forall_const, implies_true, false_implies, Nat.zero_add, Nat.reduceAdd, Nat.reduceLT, Nat.reduceLeDiff, Nat.le_refl, not_true_eq_false, not_false_eq_true, r_eq, r_ne, r_lt, r_ge, r_gt, r_le, bz_ne, nn_toNat, cn_of, cn_0, cn_1, i10, Int.reduceLE, Int.reduceLT, Int.reduceEq, bz_T, bz_F, ite_self, mulc, st_bud]
  exact hk
end
