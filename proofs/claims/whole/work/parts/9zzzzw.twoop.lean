section
/-! call 19: two -/
set_option maxHeartbeats 400000 in
theorem HELr_fw {G G' : Nat → Int → Int} {B : Nat} {T : Int → Int → (Int × (Int → List Int) × (Int → Int))} {s : Int} {m : Nat} (h : HELr G B T s m) (k : FTw G G' B) : HELr G' B T s m := fun s' w b => ⟨HRr_fw (h s' w b).1 k, (h s' w b).2⟩
set_option maxHeartbeats 400000 in
theorem tw_0 {T0 : Nat → Option q_T} {nx B : Nat} {R : Nat → Nat → Option Value} {v n i3 nf : Int} {sf : Int → Int} {fi : Int → List Int} {T : Int → Int → (Int × (Int → List Int) × (Int → Int))} (hM : Ly T0 R (B + 544) (L12 (B + 544))) (v0 : 0 ≤ v) (v1 : v ≤ 1) (hF : FWR nf sf fi) (n4 : n ≤ 4) (hT : CLO T nf sf fi 5 (n + 1).toNat) (b1 : -2147483648 ≤ i3) (b2 : i3 < 2147483648) : ∀ (d : Nat) (m : Int) (G : Nat → Int → Int), 1 ≤ m → m + d = n + 1 → FTr G B v → TLr G B v nf sf fi → HELr G B T 5 (n + 1).toNat →
    ∃ G' : Nat → Int → Int, FTw G G' B ∧ ((twO T d m = none ∧ ∃ x, ∀ (Kn : List Value → q_M → Prop) (Kr : Option Value → q_M → Prop), Kn [.ref (B + 544), .int (zI v), .int (zI n), .int (zI i3), .int (zI x)] (st T0 nx 0 0 R G') → q_wh wcX12_two_0 wsX12_two_0 [.ref (B + 544), .int (zI v), .int (zI n), .int (zI i3), .int (zI m)] (st T0 nx 0 0 R G) Kn Kr) ∨ ∃ m' k, twO T d m = some (m', k) ∧ ∀ (Kn : List Value → q_M → Prop) (Kr : Option Value → q_M → Prop), Kr (some (.int (zI (tans m' ((T 0 m').2.1 k) i3)))) (st T0 nx 0 0 R G') → q_wh wcX12_two_0 wsX12_two_0 [.ref (B + 544), .int (zI v), .int (zI n), .int (zI i3), .int (zI m)] (st T0 nx 0 0 R G) Kn Kr) := by
  intro d
  induction d with
  | zero =>
    intro m G m1 md fr tl he
    refine ⟨G, FTw_rfl _ _, Or.inl ⟨rfl, m, fun Kn Kr hh => q_outR (fun Kt Kf hk => ?_) hh⟩⟩
    have g : ¬ m ≤ n := by omega
    have nb : 0 ≤ n := by omega
    clear hh fr tl he hT hF
    simp (disch := omega) only [↓wcX12_two_0.eq_1, ↓k_mk, ↓k_sq, ↓k_sk, ↓k_bk, ↓k_if, ↓k_te, ↓k_cm, ↓k_cz, ↓k_an2, ↓k_or2, ↓k_no, ↓k_ci, ↓k_l0, ↓k_r0, ↓k_se0, ↓k_ic0, ↓k_l1, ↓k_r1, ↓k_se1, ↓k_ic1, ↓k_de1, ↓k_tk1, ↓k_l2, ↓k_r2, ↓k_se2, ↓k_ic2, ↓k_de2, ↓k_tk2, ↓k_l3, ↓k_r3, ↓k_se3, ↓k_ic3, ↓k_de3, ↓k_tk3, ↓k_l4, ↓k_r4, ↓k_se4, ↓k_ic4, ↓k_de4, ↓k_tk4, ↓k_l5, ↓k_r5, ↓k_se5, ↓k_ic5, ↓k_de5, ↓k_tk5, ↓k_l6, ↓k_r6, ↓k_se6, ↓k_ic6, ↓k_de6, ↓k_tk6, ↓k_l7, ↓k_r7, ↓k_se7, ↓k_ic7, ↓k_de7, ↓k_tk7, ↓k_l8, ↓k_r8, ↓k_se8, ↓k_ic8, ↓k_de8, ↓k_tk8, ↓k_l9, ↓k_r9, ↓k_se9, ↓k_ic9, ↓k_de9, ↓k_tk9, ↓k_l10, ↓k_r10, ↓k_se10, ↓k_ic10, ↓k_de10, ↓k_tk10, ↓k_l11, ↓k_r11, ↓k_se11, ↓k_ic11, ↓k_de11, ↓k_tk11, ↓k_l12, ↓k_r12, ↓k_se12, ↓k_ic12, ↓k_de12, ↓k_tk12, ↓k_l13, ↓k_r13, ↓k_se13, ↓k_ic13, ↓k_de13, ↓k_tk13, ↓k_l14, ↓k_r14, ↓k_se14, ↓k_ic14, ↓k_de14, ↓k_tk14, ↓k_l15, ↓k_r15, ↓k_se15, ↓k_ic15, ↓k_de15, ↓k_tk15, ↓k_l16, ↓k_r16, ↓k_se16, ↓k_ic16, ↓k_de16, ↓k_tk16, ↓k_l17, ↓k_r17, ↓k_se17, ↓k_ic17, ↓k_de17, ↓k_tk17, ↓k_l18, ↓k_r18, ↓k_se18, ↓k_ic18, ↓k_de18, ↓k_tk18, ↓k_l19, ↓k_r19, ↓k_se19, ↓k_ic19, ↓k_de19, ↓k_tk19, ↓k_l20, ↓k_r20, ↓k_se20, ↓k_ic20, ↓k_de20, ↓k_tk20, ↓k_l21, ↓k_r21, ↓k_se21, ↓k_ic21, ↓k_de21, ↓k_tk21, ↓k_l22, ↓k_r22, ↓k_se22, ↓k_ic22, ↓k_de22, ↓k_tk22, ↓k_l23, ↓k_r23, ↓k_se23, ↓k_ic23, ↓k_de23, ↓k_tk23, ↓k_l24, ↓k_r24, ↓k_se24, ↓k_ic24, ↓k_de24, ↓k_tk24, ↓k_l25, ↓k_r25, ↓k_se25, ↓k_ic25, ↓k_de25, ↓k_tk25, ↓k_k, ↓k_kn, ↓k_kl, ↓k_kln, ↓k_il, ↓k_2, ↓k_1, ↓k_2c, ↓k_2l, ↓k_ac, ↓k_an, ↓k_cs, ↓k_cv, ↓k_fi, ↓k_fr, ↓k_ai, ↓k_az, ↓k_ar, ↓k_sai, ↓k_saz, ↓k_soa, ↓k_sof, ↓k_spf, ↓k_sx, ↓k_blk, ↓k_sset, ↓k_sdec, ↓k_sri, ↓k_srv, ↓k_srr, ↓k_nop, ↓k_add, ↓k_sub, ↓k_mul, ↓k_min, ↓k_max, ↓k_shr, ↓k_shl, ↓k_or, ↓k_ilz, ↓k_addl, ↓k_rt, ↓k_rb, ↓k_rbz, ↓k_rsi, ↓k_rsr, ↓k_rsv, ↓reduceIte, g, List.length_cons, List.length_nil, List.forall_mem_cons, List.not_mem_nil, Value.category, true_and, and_true, false_and, and_false, or_true, true_or, or_false, false_or, Nat.zero_le, forall_const, implies_true, false_implies, Nat.zero_add, Nat.reduceAdd, Nat.reduceLT, Nat.reduceLeDiff, Nat.le_refl, not_true_eq_false, not_false_eq_true, r_eq, r_ne, r_lt, r_ge, r_gt, r_le, bz_ne, nn_toNat, cn_of, cn_0, cn_1, i10, Int.reduceLE, Int.reduceLT, Int.reduceEq, bz_T, bz_F, ite_self, mulc, st_bud]
    exact hk
  | succ d ih =>
    intro m G m1 md fr tl he
    have g : m ≤ n := by omega
    have em : ((m.toNat : Nat) : Int) = m := by omega
    obtain ⟨hr, ok⟩ := he 0 m.toNat (by unfold bef; omega)
    rw [em] at hr ok
    have hr' : HRr G B m (T 0 m) := by
      rw [show (5 * 0 + m : Int) = m by omega] at hr
      exact hr
    have b0 := ok.1
    obtain ⟨G1, j1, j2⟩ := tw_1 (T0 := T0) (nx := nx) (R := R) (n := n) (m := m) hM v0 v1 hF m1 (by omega) (fun s' w b => hT s' w (by unfold bef at b ⊢; omega)) b1 b2 ok (T 0 m).1.toNat 0 G (Int.le_refl _) (by omega) fr tl hr'
    rcases j2 with ⟨e, x, q⟩ | ⟨k, e, q⟩
    · have l1 : ∀ (Kn : List Value → q_M → Prop) (Kr : Option Value → q_M → Prop), wX12_two_1 [.ref (B + 544), .int (zI v), .int (zI n), .int (zI i3), .int (zI m), .int (zI 0)] (st T0 nx 0 0 R G) Kn Kr = Kn [.ref (B + 544), .int (zI v), .int (zI n), .int (zI i3), .int (zI m), .int (zI x)] (st T0 nx 0 0 R G1) := eX12_two_1.eqn (q _ _ ⟨rfl, rfl⟩)
      have stp : ∀ (Kr : Option Value → q_M → Prop) (K : List Value → q_M → Prop) (Kf : q_M → Prop), K [.ref (B + 544), .int (zI v), .int (zI n), .int (zI i3), .int (zI (m + 1))] (st T0 nx 0 0 R G1) → wcX12_two_0 [.ref (B + 544), .int (zI v), .int (zI n), .int (zI i3), .int (zI m)] (st T0 nx 0 0 R G) (fun μ' => wsX12_two_0 [.ref (B + 544), .int (zI v), .int (zI n), .int (zI i3), .int (zI m)] μ' K Kr) Kf := fun Kr K Kf hk => by
        clear ih fr tl he hT hF hr hr' ok j1 q e
        simp (disch := omega) only [↓wcX12_two_0.eq_1, ↓wsX12_two_0.eq_1, ↓k_mk, ↓k_sq, ↓k_sk, ↓k_bk, ↓k_if, ↓k_te, ↓k_cm, ↓k_cz, ↓k_an2, ↓k_or2, ↓k_no, ↓k_ci, ↓k_l0, ↓k_r0, ↓k_se0, ↓k_ic0, ↓k_l1, ↓k_r1, ↓k_se1, ↓k_ic1, ↓k_de1, ↓k_tk1, ↓k_l2, ↓k_r2, ↓k_se2, ↓k_ic2, ↓k_de2, ↓k_tk2, ↓k_l3, ↓k_r3, ↓k_se3, ↓k_ic3, ↓k_de3, ↓k_tk3, ↓k_l4, ↓k_r4, ↓k_se4, ↓k_ic4, ↓k_de4, ↓k_tk4, ↓k_l5, ↓k_r5, ↓k_se5, ↓k_ic5, ↓k_de5, ↓k_tk5, ↓k_l6, ↓k_r6, ↓k_se6, ↓k_ic6, ↓k_de6, ↓k_tk6, ↓k_l7, ↓k_r7, ↓k_se7, ↓k_ic7, ↓k_de7, ↓k_tk7, ↓k_l8, ↓k_r8, ↓k_se8, ↓k_ic8, ↓k_de8, ↓k_tk8, ↓k_l9, ↓k_r9, ↓k_se9, ↓k_ic9, ↓k_de9, ↓k_tk9, ↓k_l10, ↓k_r10, ↓k_se10, ↓k_ic10, ↓k_de10, ↓k_tk10, ↓k_l11, ↓k_r11, ↓k_se11, ↓k_ic11, ↓k_de11, ↓k_tk11, ↓k_l12, ↓k_r12, ↓k_se12, ↓k_ic12, ↓k_de12, ↓k_tk12, ↓k_l13, ↓k_r13, ↓k_se13, ↓k_ic13, ↓k_de13, ↓k_tk13, ↓k_l14, ↓k_r14, ↓k_se14, ↓k_ic14, ↓k_de14, ↓k_tk14, ↓k_l15, ↓k_r15, ↓k_se15, ↓k_ic15, ↓k_de15, ↓k_tk15, ↓k_l16, ↓k_r16, ↓k_se16, ↓k_ic16, ↓k_de16, ↓k_tk16, ↓k_l17, ↓k_r17, ↓k_se17, ↓k_ic17, ↓k_de17, ↓k_tk17, ↓k_l18, ↓k_r18, ↓k_se18, ↓k_ic18, ↓k_de18, ↓k_tk18, ↓k_l19, ↓k_r19, ↓k_se19, ↓k_ic19, ↓k_de19, ↓k_tk19, ↓k_l20, ↓k_r20, ↓k_se20, ↓k_ic20, ↓k_de20, ↓k_tk20, ↓k_l21, ↓k_r21, ↓k_se21, ↓k_ic21, ↓k_de21, ↓k_tk21, ↓k_l22, ↓k_r22, ↓k_se22, ↓k_ic22, ↓k_de22, ↓k_tk22, ↓k_l23, ↓k_r23, ↓k_se23, ↓k_ic23, ↓k_de23, ↓k_tk23, ↓k_l24, ↓k_r24, ↓k_se24, ↓k_ic24, ↓k_de24, ↓k_tk24, ↓k_l25, ↓k_r25, ↓k_se25, ↓k_ic25, ↓k_de25, ↓k_tk25, ↓k_k, ↓k_kn, ↓k_kl, ↓k_kln, ↓k_il, ↓k_2, ↓k_1, ↓k_2c, ↓k_2l, ↓k_ac, ↓k_an, ↓k_cs, ↓k_cv, ↓k_fi, ↓k_fr, ↓k_ai, ↓k_az, ↓k_ar, ↓k_sai, ↓k_saz, ↓k_soa, ↓k_sof, ↓k_spf, ↓k_sx, ↓k_blk, ↓k_sset, ↓k_sdec, ↓k_sri, ↓k_srv, ↓k_srr, ↓k_nop, ↓k_add, ↓k_sub, ↓k_mul, ↓k_min, ↓k_max, ↓k_shr, ↓k_shl, ↓k_or, ↓k_ilz, ↓k_addl, ↓k_rt, ↓k_rb, ↓k_rbz, ↓k_rsi, ↓k_rsr, ↓k_rsv, ↓reduceIte, g, ↓l1, List.length_cons, List.length_nil, List.forall_mem_cons, List.not_mem_nil, Value.category, true_and, and_true, false_and, and_false, or_true, true_or, or_false, false_or, Nat.zero_le, forall_const, implies_true, false_implies, Nat.zero_add, Nat.reduceAdd, Nat.reduceLT, Nat.reduceLeDiff, Nat.le_refl, not_true_eq_false, not_false_eq_true, r_eq, r_ne, r_lt, r_ge, r_gt, r_le, bz_ne, nn_toNat, cn_of, cn_0, cn_1, i10, Int.reduceLE, Int.reduceLT, Int.reduceEq, bz_T, bz_F, ite_self, mulc, st_bud]
        exact hk
      obtain ⟨G', q1, q2⟩ := ih (m + 1) G1 (by omega) (by omega) (FTr_fw fr j1) (TLr_fw tl j1) (HELr_fw he j1)
      refine ⟨G', FTw_tr j1 q1, ?_⟩
      rcases q2 with ⟨e2, x2, q3⟩ | ⟨m', k, e2, q3⟩
      · exact Or.inl ⟨by rw [twO, e]; exact e2, x2, fun Kn Kr hh => q_backR (fun K Kf hk => stp Kr K Kf hk) (q3 Kn Kr hh)⟩
      · exact Or.inr ⟨m', k, by rw [twO, e]; exact e2, fun Kn Kr hh => q_backR (fun K Kf hk => stp Kr K Kf hk) (q3 Kn Kr hh)⟩
    · have l1 : ∀ (Kn : List Value → q_M → Prop) (Kr : Option Value → q_M → Prop), wX12_two_1 [.ref (B + 544), .int (zI v), .int (zI n), .int (zI i3), .int (zI m), .int (zI 0)] (st T0 nx 0 0 R G) Kn Kr = Kr (some (.int (zI (tans m ((T 0 m).2.1 k) i3)))) (st T0 nx 0 0 R G1) := eX12_two_1.eqr (q _ _ ⟨rfl, rfl⟩)
      refine ⟨G1, j1, Or.inr ⟨m, k, by rw [twO, e]; rfl, fun Kn Kr hh => q_rtn1 (fun K Kf => ?_)⟩⟩
      clear ih fr tl he hT hF hr hr' ok j1 q e
      simp (disch := omega) only [↓wcX12_two_0.eq_1, ↓wsX12_two_0.eq_1, ↓k_mk, ↓k_sq, ↓k_sk, ↓k_bk, ↓k_if, ↓k_te, ↓k_cm, ↓k_cz, ↓k_an2, ↓k_or2, ↓k_no, ↓k_ci, ↓k_l0, ↓k_r0, ↓k_se0, ↓k_ic0, ↓k_l1, ↓k_r1, ↓k_se1, ↓k_ic1, ↓k_de1, ↓k_tk1, ↓k_l2, ↓k_r2, ↓k_se2, ↓k_ic2, ↓k_de2, ↓k_tk2, ↓k_l3, ↓k_r3, ↓k_se3, ↓k_ic3, ↓k_de3, ↓k_tk3, ↓k_l4, ↓k_r4, ↓k_se4, ↓k_ic4, ↓k_de4, ↓k_tk4, ↓k_l5, ↓k_r5, ↓k_se5, ↓k_ic5, ↓k_de5, ↓k_tk5, ↓k_l6, ↓k_r6, ↓k_se6, ↓k_ic6, ↓k_de6, ↓k_tk6, ↓k_l7, ↓k_r7, ↓k_se7, ↓k_ic7, ↓k_de7, ↓k_tk7, ↓k_l8, ↓k_r8, ↓k_se8, ↓k_ic8, ↓k_de8, ↓k_tk8, ↓k_l9, ↓k_r9, ↓k_se9, ↓k_ic9, ↓k_de9, ↓k_tk9, ↓k_l10, ↓k_r10, ↓k_se10, ↓k_ic10, ↓k_de10, ↓k_tk10, ↓k_l11, ↓k_r11, ↓k_se11, ↓k_ic11, ↓k_de11, ↓k_tk11, ↓k_l12, ↓k_r12, ↓k_se12, ↓k_ic12, ↓k_de12, ↓k_tk12, ↓k_l13, ↓k_r13, ↓k_se13, ↓k_ic13, ↓k_de13, ↓k_tk13, ↓k_l14, ↓k_r14, ↓k_se14, ↓k_ic14, ↓k_de14, ↓k_tk14, ↓k_l15, ↓k_r15, ↓k_se15, ↓k_ic15, ↓k_de15, ↓k_tk15, ↓k_l16, ↓k_r16, ↓k_se16, ↓k_ic16, ↓k_de16, ↓k_tk16, ↓k_l17, ↓k_r17, ↓k_se17, ↓k_ic17, ↓k_de17, ↓k_tk17, ↓k_l18, ↓k_r18, ↓k_se18, ↓k_ic18, ↓k_de18, ↓k_tk18, ↓k_l19, ↓k_r19, ↓k_se19, ↓k_ic19, ↓k_de19, ↓k_tk19, ↓k_l20, ↓k_r20, ↓k_se20, ↓k_ic20, ↓k_de20, ↓k_tk20, ↓k_l21, ↓k_r21, ↓k_se21, ↓k_ic21, ↓k_de21, ↓k_tk21, ↓k_l22, ↓k_r22, ↓k_se22, ↓k_ic22, ↓k_de22, ↓k_tk22, ↓k_l23, ↓k_r23, ↓k_se23, ↓k_ic23, ↓k_de23, ↓k_tk23, ↓k_l24, ↓k_r24, ↓k_se24, ↓k_ic24, ↓k_de24, ↓k_tk24, ↓k_l25, ↓k_r25, ↓k_se25, ↓k_ic25, ↓k_de25, ↓k_tk25, ↓k_k, ↓k_kn, ↓k_kl, ↓k_kln, ↓k_il, ↓k_2, ↓k_1, ↓k_2c, ↓k_2l, ↓k_ac, ↓k_an, ↓k_cs, ↓k_cv, ↓k_fi, ↓k_fr, ↓k_ai, ↓k_az, ↓k_ar, ↓k_sai, ↓k_saz, ↓k_soa, ↓k_sof, ↓k_spf, ↓k_sx, ↓k_blk, ↓k_sset, ↓k_sdec, ↓k_sri, ↓k_srv, ↓k_srr, ↓k_nop, ↓k_add, ↓k_sub, ↓k_mul, ↓k_min, ↓k_max, ↓k_shr, ↓k_shl, ↓k_or, ↓k_ilz, ↓k_addl, ↓k_rt, ↓k_rb, ↓k_rbz, ↓k_rsi, ↓k_rsr, ↓k_rsv, ↓reduceIte, g, ↓l1, List.length_cons, List.length_nil, List.forall_mem_cons, List.not_mem_nil, Value.category, true_and, and_true, false_and, and_false, or_true, true_or, or_false, false_or, Nat.zero_le, forall_const, implies_true, false_implies, Nat.zero_add, Nat.reduceAdd, Nat.reduceLT, Nat.reduceLeDiff, Nat.le_refl, not_true_eq_false, not_false_eq_true, r_eq, r_ne, r_lt, r_ge, r_gt, r_le, bz_ne, nn_toNat, cn_of, cn_0, cn_1, i10, Int.reduceLE, Int.reduceLT, Int.reduceEq, bz_T, bz_F, ite_self, mulc, st_bud]
      exact hh
set_option maxHeartbeats 400000 in
theorem two_rows {T : Nat → Option q_T} {nx B t1 t2 t3 t4 : Nat} {R : Nat → Nat → Option Value} {G : Nat → Int → Int} {v1 n : Int} (hL : Ly T R B (L11x B t1 t2 t3 t4)) (hM : Ly T R (B + 544) (L12 (B + 544))) (iFm : IFm G B) (hv : 0 ≤ v1 ∧ v1 ≤ 1) (hn : 1 ≤ n ∧ n ≤ 4) :
    ∃ (Gc : Nat → Int → Int) (y : Int), CFg G Gc (B + 20) ∧ TLr Gc B v1 (G (B + 370 + 14 * v1.toNat) 1) (G ((B + 370 + 14 * v1.toNat) + 2)) (fiO G (B + 370 + 14 * v1.toNat)) ∧ FWR (G (B + 370 + 14 * v1.toNat) 1) (G ((B + 370 + 14 * v1.toNat) + 2)) (fiO G (B + 370 + 14 * v1.toNat)) ∧
      (∀ K : Option Value → q_M → Prop, fX4_gather [.ref (B + 20), .ref (B + 370 + 14 * v1.toNat), .int (zI n)] (st T nx 0 0 R G) K = K (some (.int (zI y))) (st T nx 0 0 R Gc)) ∧
      ((y = 0 ∧ ∃ Gf : Nat → Int → Int, FRf Gc Gf B ∧ Gf (B + 544) 58 = 1 ∧ ∀ K : Option Value → q_M → Prop, fX12_findRows [.ref (B + 544), .int (zI v1), .int (zI n)] (st T nx 0 0 R Gc) K = K none (st T nx 0 0 R Gf)) ∨
       (y = 1 ∧ ∃ T', CLO T' (G (B + 370 + 14 * v1.toNat) 1) (G ((B + 370 + 14 * v1.toNat) + 2)) (fiO G (B + 370 + 14 * v1.toNat)) 5 (n + 1).toNat ∧ HEL Gc (B + 20) T' 5 (n + 1).toNat ∧ ∀ Gd : Nat → Int → Int, (∀ z, B + 544 ≤ z → Gd z = Gc z) → ∃ Gf : Nat → Int → Int, FRf Gd Gf B ∧ Gf (B + 544) 58 = 0 ∧ HELr Gf B T' 5 (n + 1).toNat ∧ ∀ K : Option Value → q_M → Prop, fX12_findRows [.ref (B + 544), .int (zI v1), .int (zI n)] (st T nx 0 0 R Gd) K = K none (st T nx 0 0 R Gf))) := by
  have o4 := o11_11 hL
  have o8 := o11_0 hL (i := v1.toNat) (by omega)
  have hF := FWR_of iFm hv.1 hv.2
  obtain ⟨Gc, y, a1, a2, a3⟩ := c4_gather (T0 := T) (nx := nx) (R := R) (G := G) (n := n) o4 o8 (by omega) hF hn.1 hn.2 (TLg_of iFm hv.1 hv.2)
  have trG : ∀ Gd : Nat → Int → Int, (∀ z, B + 544 ≤ z → Gd z = G z) → TLr Gd B v1 (G (B + 370 + 14 * v1.toNat) 1) (G ((B + 370 + 14 * v1.toNat) + 2)) (fiO G (B + 370 + 14 * v1.toNat)) := fun Gd fz => by
    obtain ⟨x1, x2⟩ := TLr_of iFm hv.1 hv.2
    refine ⟨by rw [fz _ (by omega)]; exact x1, fun f f0 f1 => ?_⟩
    obtain ⟨y1, y2, y3⟩ := x2 f f0 f1
    refine ⟨by rw [fz _ (by omega)]; exact y1, by rw [fz _ (by omega)]; exact y2, AtI_fr _ 0 (fun j _ _ => ?_) y3⟩
    show Gd (B + 544 + 5) (5 * (14 * v1 + f) + j) = G (B + 544 + 5) (5 * (14 * v1 + f) + j)
    rw [fz _ (by omega)]
  have fc : ∀ z, B + 544 ≤ z → Gc z = G z := fun z hz => a1.1 z (by omega)
  refine ⟨Gc, y, a1, trG Gc fc, hF, a3, ?_⟩
  rcases a2 with ⟨y0, sp⟩ | ⟨y1, T', c1, c2⟩
  · obtain ⟨Gf, b1, b2, b3⟩ := c12_findRows (T0 := T) (nx := nx) (R := R) (G := Gc) (n := n) hM hv.1 hv.2 hF hn.1 hn.2 (trG Gc fc)
    rcases b2 with ⟨sp2, z⟩ | ⟨T2, d1, _, _⟩
    · exact Or.inl ⟨y0, Gf, b1, z, b3⟩
    · exact absurd (SPN_not hF hn.1 hn.2 sp d1) id
  · refine Or.inr ⟨y1, T', c1, c2, fun Gd hd => ?_⟩
    obtain ⟨Gf, b1, b2, b3⟩ := c12_findRows (T0 := T) (nx := nx) (R := R) (G := Gd) (n := n) hM hv.1 hv.2 hF hn.1 hn.2 (trG Gd (fun z hz => by rw [hd z hz, fc z hz]))
    rcases b2 with ⟨sp2, _⟩ | ⟨T2, d1, d2, d3⟩
    · exact absurd (SPN_not hF hn.1 hn.2 sp2 c1) id
    · refine ⟨Gf, b1, d3, fun s' w b => ?_, b3⟩
      have e : T2 s' w = T' s' w := by
        unfold bef at b
        have c1' : CLO T' (G (B + 370 + 14 * v1.toNat) 1) (G ((B + 370 + 14 * v1.toNat) + 2)) (fiO G (B + 370 + 14 * v1.toNat)) s' w := fun s'' w'' b'' => c1 s'' w'' (by unfold bef at b'' ⊢; omega)
        have d1' : CLO T2 (G (B + 370 + 14 * v1.toNat) 1) (G ((B + 370 + 14 * v1.toNat) + 2)) (fiO G (B + 370 + 14 * v1.toNat)) s' w := fun s'' w'' b'' => d1 s'' w'' (by unfold bef at b'' ⊢; omega)
        have x1 := c1 s' w (by unfold bef; omega)
        have x2 := d1 s' w (by unfold bef; omega)
        rw [gF_cg hF (T := T') (T' := T2) (by omega) (fun s'' w'' b'' => by
          have ew : ((w''.toNat : Nat) : Int) = w'' := by unfold bef at b''; omega
          have := CLO_one hF (by omega) c1' d1' (6 * w''.toNat + 6) s'' w''.toNat (by unfold bef at b''; omega) (by rw [ew]; exact b'')
          rw [ew] at this
          exact this) _ (by have := hF.1; omega), x1] at x2
        exact (Option.some.inj x2).symm
      rw [← e]
      exact d2 s' w b
end
