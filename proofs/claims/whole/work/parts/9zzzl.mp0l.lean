section
/-! distance: the class measures two pieces: the last row, whole -/
theorem mp_l0 {T : Nat → Option q_T} {nx a : Nat} {R : Nat → Nat → Option Value} {x p q P Q : Int} (h1 : Ly T R a (L1 a)) (P0 : 0 ≤ P) (P1 : P ≤ 201) (q0 : 0 ≤ q) (Q1 : Q ≤ 201) : ∀ (d : Nat) (j : Int) (G : Nat → Int → Int), j = q - 1 + d → j < Q → (∀ y, j < y → y ≤ Q → G (a + 18) (P * 202 + y) = Q - y) →
    ∃ G' : Nat → Int → Int, (∀ x, ¬ x = a + 18 → G' x = G x) ∧ (∀ k, ¬ (P * 202 + q ≤ k ∧ k ≤ P * 202 + j) → G' (a + 18) k = G (a + 18) k) ∧ (∀ y, q ≤ y → y ≤ Q → G' (a + 18) (P * 202 + y) = Q - y) ∧ ∀ (Kn : List Value → q_M → Prop) (Kr : Option Value → q_M → Prop), Kn [.ref a, .int (zI x), .int (zI p), .int (zI q), .int (zI P), .int (zI Q), .int (zI (q - 1))] (st T nx 0 0 R G') → q_wh wcX1_measurePieces_0 wsX1_measurePieces_0 [.ref a, .int (zI x), .int (zI p), .int (zI q), .int (zI P), .int (zI Q), .int (zI j)] (st T nx 0 0 R G) Kn Kr := by
  intro d
  induction d with
  | zero =>
    intro j G e jQ h
    have e : j = q - 1 := by omega
    subst e
    refine ⟨G, fun _ _ => rfl, fun _ _ => rfl, fun y y0 y1 => h y (by omega) y1, fun Kn Kr hh => q_outR (fun Kt Kf hk => ?_) hh⟩
    have g : ¬ q ≤ q - 1 := by omega
    clear h hh
    simp (disch := omega) only [↓wcX1_measurePieces_0.eq_1, ↓k_mk, ↓k_sq, ↓k_sk, ↓k_bk, ↓k_if, ↓k_te, ↓k_cm, ↓k_cz, ↓k_an2, ↓k_or2, ↓k_no, ↓k_ci, ↓k_l0, ↓k_r0, ↓k_se0, ↓k_ic0, ↓k_l1, ↓k_r1, ↓k_se1, ↓k_ic1, ↓k_de1, ↓k_tk1, ↓k_l2, ↓k_r2, ↓k_se2, ↓k_ic2, ↓k_de2, ↓k_tk2, ↓k_l3, ↓k_r3, ↓k_se3, ↓k_ic3, ↓k_de3, ↓k_tk3, ↓k_l4, ↓k_r4, ↓k_se4, ↓k_ic4, ↓k_de4, ↓k_tk4, ↓k_l5, ↓k_r5, ↓k_se5, ↓k_ic5, ↓k_de5, ↓k_tk5, ↓k_l6, ↓k_r6, ↓k_se6, ↓k_ic6, ↓k_de6, ↓k_tk6, ↓k_l7, ↓k_r7, ↓k_se7, ↓k_ic7, ↓k_de7, ↓k_tk7, ↓k_l8, ↓k_r8, ↓k_se8, ↓k_ic8, ↓k_de8, ↓k_tk8, ↓k_l9, ↓k_r9, ↓k_se9, ↓k_ic9, ↓k_de9, ↓k_tk9, ↓k_l10, ↓k_r10, ↓k_se10, ↓k_ic10, ↓k_de10, ↓k_tk10, ↓k_l11, ↓k_r11, ↓k_se11, ↓k_ic11, ↓k_de11, ↓k_tk11, ↓k_l12, ↓k_r12, ↓k_se12, ↓k_ic12, ↓k_de12, ↓k_tk12, ↓k_l13, ↓k_r13, ↓k_se13, ↓k_ic13, ↓k_de13, ↓k_tk13, ↓k_l14, ↓k_r14, ↓k_se14, ↓k_ic14, ↓k_de14, ↓k_tk14, ↓k_l15, ↓k_r15, ↓k_se15, ↓k_ic15, ↓k_de15, ↓k_tk15, ↓k_l16, ↓k_r16, ↓k_se16, ↓k_ic16, ↓k_de16, ↓k_tk16, ↓k_l17, ↓k_r17, ↓k_se17, ↓k_ic17, ↓k_de17, ↓k_tk17, ↓k_l18, ↓k_r18, ↓k_se18, ↓k_ic18, ↓k_de18, ↓k_tk18, ↓k_l19, ↓k_r19, ↓k_se19, ↓k_ic19, ↓k_de19, ↓k_tk19, ↓k_l20, ↓k_r20, ↓k_se20, ↓k_ic20, ↓k_de20, ↓k_tk20, ↓k_l21, ↓k_r21, ↓k_se21, ↓k_ic21, ↓k_de21, ↓k_tk21, ↓k_l22, ↓k_r22, ↓k_se22, ↓k_ic22, ↓k_de22, ↓k_tk22, ↓k_l23, ↓k_r23, ↓k_se23, ↓k_ic23, ↓k_de23, ↓k_tk23, ↓k_l24, ↓k_r24, ↓k_se24, ↓k_ic24, ↓k_de24, ↓k_tk24, ↓k_l25, ↓k_r25, ↓k_se25, ↓k_ic25, ↓k_de25, ↓k_tk25, ↓k_k, ↓k_kn, ↓k_kl, ↓k_kln, ↓k_il, ↓k_2, ↓k_1, ↓k_2c, ↓k_2l, ↓k_ac, ↓k_an, ↓k_cs, ↓k_cv, ↓k_fi, ↓k_fr, ↓k_ai, ↓k_az, ↓k_ar, ↓k_sai, ↓k_saz, ↓k_soa, ↓k_sof, ↓k_spf, ↓k_sx, ↓k_blk, ↓k_sset, ↓k_sdec, ↓k_sri, ↓k_srv, ↓k_srr, ↓k_nop, ↓k_add, ↓k_sub, ↓k_mul, ↓k_min, ↓k_max, ↓k_shr, ↓k_shl, ↓k_or, ↓k_ilz, ↓k_addl, ↓k_rt, ↓k_rb, ↓k_rbz, ↓k_rsi, ↓k_rsr, ↓k_rsv, ↓reduceIte, g, List.length_cons, List.length_nil, List.forall_mem_cons, List.not_mem_nil, Value.category, true_and, and_true, false_and, and_false, or_true, true_or, or_false, false_or, Nat.zero_le, forall_const, implies_true, false_implies, Nat.zero_add, Nat.reduceAdd, Nat.reduceLT, Nat.reduceLeDiff, Nat.le_refl, not_true_eq_false, not_false_eq_true, r_eq, r_ne, r_lt, r_ge, r_gt, r_le, bz_ne, nn_toNat, cn_of, cn_0, cn_1, i10, Int.reduceLE, Int.reduceLT, Int.reduceEq, bz_T, bz_F, ite_self, mulc, st_bud]
    exact hk
  | succ d ih =>
    intro j G e jQ h
    obtain ⟨G1, e1⟩ : ∃ M, M = gs G (a + 18) (P * 202 + j) (G (a + 18) (P * 202 + j + 1) + 1) := ⟨_, rfl⟩
    have v1 : ∀ k, G1 (a + 18) k = if k = P * 202 + j then Q - j else G (a + 18) k := fun k => by
      rw [e1, gs_eq, fu_at]
      have := h (j + 1) (by omega) (by omega)
      rw [show P * 202 + (j + 1) = P * 202 + j + 1 by omega] at this
      split <;> omega
    obtain ⟨G2, a1, a2, a3, a4⟩ := ih (j - 1) G1 (by omega) (by omega) (fun y y0 y1 => by
      rw [v1]
      by_cases g : y = j
      · rw [if_pos (by omega), g]
      · rw [if_neg (by omega)]
        exact h y (by omega) y1)
    refine ⟨G2, fun x q => by rw [a1 x q, e1, gs_ne q], fun k hk => by rw [a2 k (by omega), v1, if_neg (by omega)], a3, fun Kn Kr hh => q_backR (fun K Kf hk => mp_0 h1 P0 P1 q0 (by omega) (by omega) K Kr Kf (by rw [← e1]; exact hk)) (a4 Kn Kr hh)⟩
end
