section
/-! the reference carries: a node's slots -/
theorem cv_push {T : Nat → Option q_T} {nx B b : Nat} {R : Nat → Nat → Option Value} {G0 : Nat → Int → Int} {ib to : Int} (hM : Ly T R (B + 544) (L12 (B + 544))) (it0 : 0 ≤ ib) (it1 : ib < 92) (hF : IFm G0 B) (tk : TOK G0 B 0 ib 0 b) {x N y tn ts W f : Int} (x0 : 0 ≤ x) (x1 : x < G0 b 2) (l : 1000 ≤ G0 (b + 1) x) (hf : f = G0 (b + 1) x - 1000) (N0 : 0 ≤ N ∧ N ≤ 5) (hs : ∀ i : Nat, (i : Int) < N → 0 ≤ G0 (B + 544 + 94) (5 * f + i) ∧ G0 (B + 544 + 94) (5 * f + i) < G0 (tvA B 0 + 5) f) (y0 : 0 ≤ y) (y1 : y < 40) (W0 : 0 ≤ W) (W1 : W + N ≤ 400) {G : Nat → Int → Int} (src : BCh G0 G B 92) (h23 : G (B + 544) 23 = W) :
    ∃ G', (∀ x, ¬ (B + 567 ≤ x ∧ x ≤ B + 571) → ¬ x = B + 544 → G' x = G x) ∧ (∀ j, ¬ j = 23 → G' (B + 544) j = G (B + 544) j) ∧ G' (B + 544) 23 = W + N ∧ SL5 G G' B W ∧ (∀ j : Nat, (j : Int) < N → ST5 G' B (W + (N - 1 - j)) ib (pc (G0 (b + 1)) (G0 (b + 6)) (chI (G0 (b + 2)) x (G0 (B + 544 + 94) (5 * f + j)).toNat)) y j 0) ∧
      ∀ (Kn : List Value → q_M → Prop) (Kr : Option Value → q_M → Prop), wX12_carry_1 [.ref (B + 544), .int (zI ib), .int (zI to), .int (zI (1000 + G0 (b + 6) x)), .int (zI tn), .int (zI ts), .int (zI f), .int (zI y), .int (zI (N - 1))] (st T nx 0 0 R G) Kn Kr = Kn [.ref (B + 544), .int (zI ib), .int (zI to), .int (zI (1000 + G0 (b + 6) x)), .int (zI tn), .int (zI ts), .int (zI f), .int (zI y), .int (zI (-1))] (st T nx 0 0 R G') := by
  have tkb := TOK_b tk
  obtain ⟨f1, N1, ef, f0, f14, eN, N1', N5, rp, hf1, hNn, hC, _, hns, _, hch⟩ := nodeF hF tk x0 x1 l
  have nb5 := nsl_b (fun k => G0 (tvA B 0 + 4) (5 * f1 + k)) N1.toNat
  have eff : f1 = f := by omega
  rw [eff] at hch nb5 hns
  rw [← hns] at nb5
  obtain ⟨r, hr⟩ : ∃ r, r = G0 (b + 6) x := ⟨_, rfl⟩
  rw [← hr] at rp hch ⊢
  obtain ⟨G', ⟨m1, m2, m3, m4, m5⟩, lw⟩ := q_forE eX12_carry_1 (fun _ _ => lX12_carry_1) (fun k => [.ref (B + 544), .int (zI ib), .int (zI to), .int (zI (1000 + r)), .int (zI tn), .int (zI ts), .int (zI f), .int (zI y), .int (zI (N - 1 - k))]) (fun M => st T nx 0 0 R M) (fun k M => (∀ x, ¬ (B + 567 ≤ x ∧ x ≤ B + 571) → ¬ x = B + 544 → M x = G x) ∧ (∀ j, ¬ j = 23 → M (B + 544) j = G (B + 544) j) ∧ M (B + 544) 23 = W + k ∧ SL5 G M B W ∧ (∀ j : Nat, j < k → ST5 M B (W + j) ib (pc (G0 (b + 1)) (G0 (b + 6)) (chI (G0 (b + 2)) x (G0 (B + 544 + 94) (5 * f + (N - 1 - j))).toNat)) y (N - 1 - j) 0)) N.toNat G ⟨fun _ _ _ => rfl, fun _ _ => rfl, by rw [h23]; show W = W + ((0 : Nat) : Int); omega, SL5_rfl _ _ _, fun j hj => absurd hj (by omega)⟩ (fun k hk M ⟨m1, m2, m3, m4, m5⟩ => by
    have hz : 0 ≤ N - 1 - (k : Int) := by omega
    obtain ⟨d, hd⟩ : ∃ d, d = N - 1 - (k : Int) := ⟨_, rfl⟩
    have hsd := hs d.toNat (by omega)
    rw [show ((d.toNat : Nat) : Int) = d by omega] at hsd
    obtain ⟨s, hsl⟩ : ∃ s, s = G0 (B + 544 + 94) (5 * f + d) := ⟨_, rfl⟩
    rw [← hsl] at hsd
    obtain ⟨_, z1⟩ := hch s.toNat (by omega)
    rw [show ((s.toNat : Nat) : Int) = s by omega] at z1
    obtain ⟨x', hx'⟩ : ∃ x', x' = pc (G0 (b + 1)) (G0 (b + 6)) (chI (G0 (b + 2)) x s.toNat) := ⟨_, rfl⟩
    rw [← hx'] at z1
    have z2 : M (B + 544 + 21) (5 * (40 * ib + r) + s) = x' := by
      rw [m1 _ (by omega) (by omega), ((BCh_row src (show ¬ ib = 92 by omega)).2.2.2 (40 * ib + r) (by omega) (by omega)).2.2 _ (by omega) (by omega)]
      exact z1
    have v1 : M (B + 544 + 94) (5 * f + d) = s := by rw [m1 _ (by omega) (by omega), src.1 _ (by omega) (by omega), hsl]
    have c1 := fun K : Option Value → q_M → Prop => c12_slotAt (T := T) (nx := nx) (rc := 0) (rs := 0) (R := R) (G := M) (v1 := ib) (v2 := r) (v3 := s) (K := K) hM (by omega) (by omega)
    have c1' : ∀ K : Option Value → q_M → Prop, fX12_slotAt [.ref (B + 544), .int (zI ib), .int (zI (1000 + r - 1000)), .int (zI s)] (st T nx 0 0 R M) K = K (some (.int (zI x'))) (st T nx 0 0 R M) := fun K => by rw [show 1000 + r - 1000 = r by omega, c1, z2]
    obtain ⟨M1, a1, a2, a3, a4, a5, a6⟩ := c12_await0 (T := T) (nx := nx) (rc := 0) (rs := 0) (R := R) (G := M) (W := W + k) (t := ib) (p := x') (n := y) (s := d) (m := 0) hM (by omega) (by omega) m3
    refine ⟨M1, ⟨fun z q1 q2 => by rw [a1 z q1 q2, m1 z q1 q2], fun j q => by rw [a2 j q, m2 j q], by rw [a3]; omega, SL5_tr m4 a4 (by omega), fun j hj => ?_⟩, fun Kn Kf hk2 => ?_⟩
    · by_cases e : j = k
      · subst e
        rw [← hd, ← hsl, ← hx']
        exact a5
      · exact ST5_lo a4 (by omega) (m5 j (by omega))
    · have ed : d + -1 = N - 1 - ((k + 1 : Nat) : Int) := by omega
      rw [← ed] at hk2
      rw [← hd] at hz ⊢
      have d5 : d < 5 := by omega
      have fb : 0 ≤ f ∧ f < 14 := by omega
      have s5 : s < 5 := by omega
      clear m1 m2 m4 m5 a1 a2 a4 a5 hch z1 hs src
      simp (disch := omega) only [↓wcX12_carry_1.eq_1, ↓wsX12_carry_1.eq_1, ↓(k_cv3 dX12_slotAt (t12 hM)), ↓(k_cv5 dX12_await0 (t12 hM)), ↓k_mk, ↓k_sq, ↓k_sk, ↓k_bk, ↓k_if, ↓k_te, ↓k_cm, ↓k_cz, ↓k_an2, ↓k_or2, ↓k_no, ↓k_ci, ↓k_l0, ↓k_r0, ↓k_se0, ↓k_ic0, ↓k_l1, ↓k_r1, ↓k_se1, ↓k_ic1, ↓k_de1, ↓k_tk1, ↓k_l2, ↓k_r2, ↓k_se2, ↓k_ic2, ↓k_de2, ↓k_tk2, ↓k_l3, ↓k_r3, ↓k_se3, ↓k_ic3, ↓k_de3, ↓k_tk3, ↓k_l4, ↓k_r4, ↓k_se4, ↓k_ic4, ↓k_de4, ↓k_tk4, ↓k_l5, ↓k_r5, ↓k_se5, ↓k_ic5, ↓k_de5, ↓k_tk5, ↓k_l6, ↓k_r6, ↓k_se6, ↓k_ic6, ↓k_de6, ↓k_tk6, ↓k_l7, ↓k_r7, ↓k_se7, ↓k_ic7, ↓k_de7, ↓k_tk7, ↓k_l8, ↓k_r8, ↓k_se8, ↓k_ic8, ↓k_de8, ↓k_tk8, ↓k_l9, ↓k_r9, ↓k_se9, ↓k_ic9, ↓k_de9, ↓k_tk9, ↓k_l10, ↓k_r10, ↓k_se10, ↓k_ic10, ↓k_de10, ↓k_tk10, ↓k_l11, ↓k_r11, ↓k_se11, ↓k_ic11, ↓k_de11, ↓k_tk11, ↓k_l12, ↓k_r12, ↓k_se12, ↓k_ic12, ↓k_de12, ↓k_tk12, ↓k_l13, ↓k_r13, ↓k_se13, ↓k_ic13, ↓k_de13, ↓k_tk13, ↓k_l14, ↓k_r14, ↓k_se14, ↓k_ic14, ↓k_de14, ↓k_tk14, ↓k_l15, ↓k_r15, ↓k_se15, ↓k_ic15, ↓k_de15, ↓k_tk15, ↓k_l16, ↓k_r16, ↓k_se16, ↓k_ic16, ↓k_de16, ↓k_tk16, ↓k_l17, ↓k_r17, ↓k_se17, ↓k_ic17, ↓k_de17, ↓k_tk17, ↓k_l18, ↓k_r18, ↓k_se18, ↓k_ic18, ↓k_de18, ↓k_tk18, ↓k_l19, ↓k_r19, ↓k_se19, ↓k_ic19, ↓k_de19, ↓k_tk19, ↓k_l20, ↓k_r20, ↓k_se20, ↓k_ic20, ↓k_de20, ↓k_tk20, ↓k_l21, ↓k_r21, ↓k_se21, ↓k_ic21, ↓k_de21, ↓k_tk21, ↓k_l22, ↓k_r22, ↓k_se22, ↓k_ic22, ↓k_de22, ↓k_tk22, ↓k_l23, ↓k_r23, ↓k_se23, ↓k_ic23, ↓k_de23, ↓k_tk23, ↓k_l24, ↓k_r24, ↓k_se24, ↓k_ic24, ↓k_de24, ↓k_tk24, ↓k_l25, ↓k_r25, ↓k_se25, ↓k_ic25, ↓k_de25, ↓k_tk25, ↓k_k, ↓k_kn, ↓k_kl, ↓k_kln, ↓k_il, ↓k_2, ↓k_1, ↓k_2c, ↓k_2l, ↓k_ac, ↓k_an, ↓k_cs, ↓k_cv, ↓k_fi, ↓k_fr, ↓k_ai, ↓k_az, ↓k_ar, ↓k_sai, ↓k_saz, ↓k_soa, ↓k_sof, ↓k_spf, ↓k_sx, ↓k_blk, ↓k_sset, ↓k_sdec, ↓k_sri, ↓k_srv, ↓k_srr, ↓k_nop, ↓k_add, ↓k_sub, ↓k_mul, ↓k_min, ↓k_max, ↓k_shr, ↓k_shl, ↓k_or, ↓k_ilz, ↓k_addl, ↓k_rt, ↓k_rb, ↓k_rbz, ↓k_rsi, ↓k_rsr, ↓k_rsv, ↓reduceIte, hz, v1, ↓(k_cv3 dX12_slotAt (t12 hM)), ↓c1', ↓(k_cv5 dX12_await0 (t12 hM)), ↓a6, ↓xr12_119 hM, ↓xa12_119 hM, ↓xs12_119 hM, ↓xo12_119 hM, ↓xc12_119 hM, ↓xd12_119 hM, List.length_cons, List.length_nil, List.forall_mem_cons, List.not_mem_nil, Value.category, true_and, and_true, false_and, and_false, or_true, true_or, or_false, false_or, Nat.zero_le, forall_const, implies_true, false_implies, Nat.zero_add, Nat.reduceAdd, Nat.reduceLT, Nat.reduceLeDiff, Nat.le_refl, not_true_eq_false, not_false_eq_true, r_eq, r_ne, r_lt, r_ge, r_gt, r_le, bz_ne, nn_toNat, cn_of, cn_0, cn_1, i10, Int.reduceLE, Int.reduceLT, Int.reduceEq, bz_T, bz_F, ite_self, mulc, st_bud]
      exact hk2) (fun M ⟨m1, _⟩ Kt Kf hk2 => by
    have ez : N - 1 - ((N.toNat : Nat) : Int) = -1 := by omega
    rw [ez]
    have hz : ¬ (0 : Int) ≤ -1 := by omega
    clear m1
    simp (disch := omega) only [↓wcX12_carry_1.eq_1, ↓k_mk, ↓k_sq, ↓k_sk, ↓k_bk, ↓k_if, ↓k_te, ↓k_cm, ↓k_cz, ↓k_an2, ↓k_or2, ↓k_no, ↓k_ci, ↓k_l0, ↓k_r0, ↓k_se0, ↓k_ic0, ↓k_l1, ↓k_r1, ↓k_se1, ↓k_ic1, ↓k_de1, ↓k_tk1, ↓k_l2, ↓k_r2, ↓k_se2, ↓k_ic2, ↓k_de2, ↓k_tk2, ↓k_l3, ↓k_r3, ↓k_se3, ↓k_ic3, ↓k_de3, ↓k_tk3, ↓k_l4, ↓k_r4, ↓k_se4, ↓k_ic4, ↓k_de4, ↓k_tk4, ↓k_l5, ↓k_r5, ↓k_se5, ↓k_ic5, ↓k_de5, ↓k_tk5, ↓k_l6, ↓k_r6, ↓k_se6, ↓k_ic6, ↓k_de6, ↓k_tk6, ↓k_l7, ↓k_r7, ↓k_se7, ↓k_ic7, ↓k_de7, ↓k_tk7, ↓k_l8, ↓k_r8, ↓k_se8, ↓k_ic8, ↓k_de8, ↓k_tk8, ↓k_l9, ↓k_r9, ↓k_se9, ↓k_ic9, ↓k_de9, ↓k_tk9, ↓k_l10, ↓k_r10, ↓k_se10, ↓k_ic10, ↓k_de10, ↓k_tk10, ↓k_l11, ↓k_r11, ↓k_se11, ↓k_ic11, ↓k_de11, ↓k_tk11, ↓k_l12, ↓k_r12, ↓k_se12, ↓k_ic12, ↓k_de12, ↓k_tk12, ↓k_l13, ↓k_r13, ↓k_se13, ↓k_ic13, ↓k_de13, ↓k_tk13, ↓k_l14, ↓k_r14, ↓k_se14, ↓k_ic14, ↓k_de14, ↓k_tk14, ↓k_l15, ↓k_r15, ↓k_se15, ↓k_ic15, ↓k_de15, ↓k_tk15, ↓k_l16, ↓k_r16, ↓k_se16, ↓k_ic16, ↓k_de16, ↓k_tk16, ↓k_l17, ↓k_r17, ↓k_se17, ↓k_ic17, ↓k_de17, ↓k_tk17, ↓k_l18, ↓k_r18, ↓k_se18, ↓k_ic18, ↓k_de18, ↓k_tk18, ↓k_l19, ↓k_r19, ↓k_se19, ↓k_ic19, ↓k_de19, ↓k_tk19, ↓k_l20, ↓k_r20, ↓k_se20, ↓k_ic20, ↓k_de20, ↓k_tk20, ↓k_l21, ↓k_r21, ↓k_se21, ↓k_ic21, ↓k_de21, ↓k_tk21, ↓k_l22, ↓k_r22, ↓k_se22, ↓k_ic22, ↓k_de22, ↓k_tk22, ↓k_l23, ↓k_r23, ↓k_se23, ↓k_ic23, ↓k_de23, ↓k_tk23, ↓k_l24, ↓k_r24, ↓k_se24, ↓k_ic24, ↓k_de24, ↓k_tk24, ↓k_l25, ↓k_r25, ↓k_se25, ↓k_ic25, ↓k_de25, ↓k_tk25, ↓k_k, ↓k_kn, ↓k_kl, ↓k_kln, ↓k_il, ↓k_2, ↓k_1, ↓k_2c, ↓k_2l, ↓k_ac, ↓k_an, ↓k_cs, ↓k_cv, ↓k_fi, ↓k_fr, ↓k_ai, ↓k_az, ↓k_ar, ↓k_sai, ↓k_saz, ↓k_soa, ↓k_sof, ↓k_spf, ↓k_sx, ↓k_blk, ↓k_sset, ↓k_sdec, ↓k_sri, ↓k_srv, ↓k_srr, ↓k_nop, ↓k_add, ↓k_sub, ↓k_mul, ↓k_min, ↓k_max, ↓k_shr, ↓k_shl, ↓k_or, ↓k_ilz, ↓k_addl, ↓k_rt, ↓k_rb, ↓k_rbz, ↓k_rsi, ↓k_rsr, ↓k_rsv, ↓reduceIte, hz, List.length_cons, List.length_nil, List.forall_mem_cons, List.not_mem_nil, Value.category, true_and, and_true, false_and, and_false, or_true, true_or, or_false, false_or, Nat.zero_le, forall_const, implies_true, false_implies, Nat.zero_add, Nat.reduceAdd, Nat.reduceLT, Nat.reduceLeDiff, Nat.le_refl, not_true_eq_false, not_false_eq_true, r_eq, r_ne, r_lt, r_ge, r_gt, r_le, bz_ne, nn_toNat, cn_of, cn_0, cn_1, i10, Int.reduceLE, Int.reduceLT, Int.reduceEq, bz_T, bz_F, ite_self, mulc, st_bud]
    exact hk2)
  refine ⟨G', m1, m2, by rw [m3]; omega, m4, fun j hj => ?_, fun Kn Kr => ?_⟩
  · have := m5 (N - 1 - j).toNat (by omega)
    rw [show W + (((N - 1 - (j : Int)).toNat : Nat) : Int) = W + (N - 1 - j) by omega, show (N - 1 - (((N - 1 - (j : Int)).toNat : Nat) : Int)) = j by omega] at this
    exact this
  · have := lw Kn Kr
    rw [show N - 1 - ((0 : Nat) : Int) = N - 1 by omega, show N - 1 - ((N.toNat : Nat) : Int) = -1 by omega] at this
    exact this
end
