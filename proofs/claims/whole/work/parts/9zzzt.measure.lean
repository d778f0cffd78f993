section
/-! distance: the class measures two trees -/
set_option maxHeartbeats 200000 in
theorem k_mull {u v : Int64} {μ : q_M} {K : Int64 → q_M → Prop} : olK (q_glmul u v) μ K = K (q_glmul u v) μ := rfl
set_option maxHeartbeats 200000 in
theorem Fw_cg {L e L2 e2 : Int → Int} : ∀ (m : Nat) (p : Int), (∀ i, p ≤ i → i < p + m → L2 i = L i ∧ e2 i = e i) → Fw L2 e2 p m = Fw L e p m := by
  intro m
  induction m with
  | zero => exact fun _ _ => rfl
  | succ m ih =>
    intro p h
    have a := h p (Int.le_refl _) (by omega)
    rw [Fw, Fw, a.1, a.2, ih (p + 1) (fun i x y => h i (by omega) (by omega))]
set_option maxHeartbeats 200000 in
theorem EDt_cg {L e L2 e2 L' e' L2' e2' : Int → Int} {n n' : Int} (h : ∀ i, 0 ≤ i → i < n → L2 i = L i ∧ e2 i = e i) (h' : ∀ i, 0 ≤ i → i < n' → L2' i = L' i ∧ e2' i = e' i) : EDt L2 e2 L2' e2' 0 n 0 n' = EDt L e L' e' 0 n 0 n' := by
  unfold EDt
  rw [Fw_cg _ _ (fun i a b => h i a (by omega)), Fw_cg _ _ (fun i a b => h' i a (by omega))]
set_option maxHeartbeats 200000 in
theorem Nst_cg {e e2 : Int → Int} {n : Int} (h : ∀ i, 0 ≤ i → i < n → e2 i = e i) (N : Nst e 0 n) : Nst e2 0 n := by
  refine ⟨fun q q0 q1 => by rw [h q q0 q1]; exact N.1 q q0 q1, fun q x q0 q1 q2 q3 => ?_⟩
  rw [h q q0 (by omega)] at q2 ⊢
  rw [h x (by omega) q3]
  exact N.2 q x q0 q1 q2 q3
set_option maxHeartbeats 200000 in
theorem c1_work {T : Nat → Option q_T} {nx a : Nat} {R : Nat → Nat → Option Value} {G : Nat → Int → Int} {x m n : Int} (h1 : Ly T R a (L1 a)) (x0 : 0 ≤ x) (x3 : x < 4) (n1 : n ≤ 201) (hm : G (a + 16) x = m) (kl : KL (G (a + 7 + x.toNat)) (G (a + 12 + x.toNat)) m n) (N : Nst (G (a + 7 + x.toNat)) 0 n) : ∃ w, 0 ≤ w ∧ w ≤ 40401 ∧ ∀ K : Option Value → q_M → Prop, fX1_work [.ref a, .int (zI x)] (st T nx 0 0 R G) K = K (some (.int (zI w))) (st T nx 0 0 R G) := by
  have mb := kl.1
  have key : ∀ (d : Nat) (k s : Int), 0 ≤ k → k + d = m → 0 ≤ s → s ≤ 201 * k → ∃ w, 0 ≤ w ∧ w ≤ 201 * m ∧ ∀ (Kn : List Value → q_M → Prop) (Kr : Option Value → q_M → Prop), Kn [.ref a, .int (zI x), .int (zI w), .int (zI m)] (st T nx 0 0 R G) → q_wh wcX1_work_0 wsX1_work_0 [.ref a, .int (zI x), .int (zI s), .int (zI k)] (st T nx 0 0 R G) Kn Kr := by
    intro d
    induction d with
    | zero =>
      intro k s k0 km s0 s1
      have e : k = m := by omega
      subst e
      refine ⟨s, s0, s1, fun Kn Kr hh => q_outR (fun Kt Kf hk2 => ?_) hh⟩
      have g : ¬ k < k := by omega
      clear kl N hh
      simp (disch := omega) only [↓wcX1_work_0.eq_1, ↓k_mk, ↓k_sq, ↓k_sk, ↓k_bk, ↓k_if, ↓k_te, ↓k_cm, ↓k_cz, ↓k_an2, ↓k_or2, ↓k_no, ↓k_ci, ↓k_l0, ↓k_r0, ↓k_se0, ↓k_ic0, ↓k_l1, ↓k_r1, ↓k_se1, ↓k_ic1, ↓k_de1, ↓k_tk1, ↓k_l2, ↓k_r2, ↓k_se2, ↓k_ic2, ↓k_de2, ↓k_tk2, ↓k_l3, ↓k_r3, ↓k_se3, ↓k_ic3, ↓k_de3, ↓k_tk3, ↓k_l4, ↓k_r4, ↓k_se4, ↓k_ic4, ↓k_de4, ↓k_tk4, ↓k_l5, ↓k_r5, ↓k_se5, ↓k_ic5, ↓k_de5, ↓k_tk5, ↓k_l6, ↓k_r6, ↓k_se6, ↓k_ic6, ↓k_de6, ↓k_tk6, ↓k_l7, ↓k_r7, ↓k_se7, ↓k_ic7, ↓k_de7, ↓k_tk7, ↓k_l8, ↓k_r8, ↓k_se8, ↓k_ic8, ↓k_de8, ↓k_tk8, ↓k_l9, ↓k_r9, ↓k_se9, ↓k_ic9, ↓k_de9, ↓k_tk9, ↓k_l10, ↓k_r10, ↓k_se10, ↓k_ic10, ↓k_de10, ↓k_tk10, ↓k_l11, ↓k_r11, ↓k_se11, ↓k_ic11, ↓k_de11, ↓k_tk11, ↓k_l12, ↓k_r12, ↓k_se12, ↓k_ic12, ↓k_de12, ↓k_tk12, ↓k_l13, ↓k_r13, ↓k_se13, ↓k_ic13, ↓k_de13, ↓k_tk13, ↓k_l14, ↓k_r14, ↓k_se14, ↓k_ic14, ↓k_de14, ↓k_tk14, ↓k_l15, ↓k_r15, ↓k_se15, ↓k_ic15, ↓k_de15, ↓k_tk15, ↓k_l16, ↓k_r16, ↓k_se16, ↓k_ic16, ↓k_de16, ↓k_tk16, ↓k_l17, ↓k_r17, ↓k_se17, ↓k_ic17, ↓k_de17, ↓k_tk17, ↓k_l18, ↓k_r18, ↓k_se18, ↓k_ic18, ↓k_de18, ↓k_tk18, ↓k_l19, ↓k_r19, ↓k_se19, ↓k_ic19, ↓k_de19, ↓k_tk19, ↓k_l20, ↓k_r20, ↓k_se20, ↓k_ic20, ↓k_de20, ↓k_tk20, ↓k_l21, ↓k_r21, ↓k_se21, ↓k_ic21, ↓k_de21, ↓k_tk21, ↓k_l22, ↓k_r22, ↓k_se22, ↓k_ic22, ↓k_de22, ↓k_tk22, ↓k_l23, ↓k_r23, ↓k_se23, ↓k_ic23, ↓k_de23, ↓k_tk23, ↓k_l24, ↓k_r24, ↓k_se24, ↓k_ic24, ↓k_de24, ↓k_tk24, ↓k_l25, ↓k_r25, ↓k_se25, ↓k_ic25, ↓k_de25, ↓k_tk25, ↓k_k, ↓k_kn, ↓k_kl, ↓k_kln, ↓k_il, ↓k_2, ↓k_1, ↓k_2c, ↓k_2l, ↓k_ac, ↓k_an, ↓k_cs, ↓k_cv, ↓k_fi, ↓k_fr, ↓k_ai, ↓k_az, ↓k_ar, ↓k_sai, ↓k_saz, ↓k_soa, ↓k_sof, ↓k_spf, ↓k_sx, ↓k_blk, ↓k_sset, ↓k_sdec, ↓k_sri, ↓k_srv, ↓k_srr, ↓k_nop, ↓k_add, ↓k_sub, ↓k_mul, ↓k_min, ↓k_max, ↓k_shr, ↓k_shl, ↓k_or, ↓k_ilz, ↓k_addl, ↓k_rt, ↓k_rb, ↓k_rbz, ↓k_rsi, ↓k_rsr, ↓k_rsv, ↓reduceIte, hm, g, ↓xr1_6 h1, ↓xa1_6 h1, ↓xs1_6 h1, ↓xo1_6 h1, ↓xc1_6 h1, ↓xd1_6 h1, List.length_cons, List.length_nil, List.forall_mem_cons, List.not_mem_nil, Value.category, true_and, and_true, false_and, and_false, or_true, true_or, or_false, false_or, Nat.zero_le, forall_const, implies_true, false_implies, Nat.zero_add, Nat.reduceAdd, Nat.reduceLT, Nat.reduceLeDiff, Nat.le_refl, not_true_eq_false, not_false_eq_true, r_eq, r_ne, r_lt, r_ge, r_gt, r_le, bz_ne, nn_toNat, cn_of, cn_0, cn_1, i10, Int.reduceLE, Int.reduceLT, Int.reduceEq, bz_T, bz_F, ite_self, mulc, st_bud]
      exact hk2
    | succ d ih =>
      intro k s k0 km s0 s1
      have kk := (kl.2.1 k k0 (by omega)).1
      have k0' := (kl.2.1 k k0 (by omega)).2.1
      have eb := N.1 _ k0' kk
      obtain ⟨w, w0, w1, w2⟩ := ih (k + 1) (s + (G (a + 7 + x.toNat) (G (a + 12 + x.toNat) k) - G (a + 12 + x.toNat) k)) (by omega) (by omega) (by omega) (by omega)
      refine ⟨w, w0, w1, fun Kn Kr hh => q_backR (fun K Kf hk2 => ?_) (w2 Kn Kr hh)⟩
      have g : k < m := by omega
      have k2 : k < 201 := by omega
      have k3 : G (a + 12 + x.toNat) k < 201 := by omega
      clear kl N hh ih w2
      simp (disch := omega) only [↓wcX1_work_0.eq_1, ↓wsX1_work_0.eq_1, ↓k_mk, ↓k_sq, ↓k_sk, ↓k_bk, ↓k_if, ↓k_te, ↓k_cm, ↓k_cz, ↓k_an2, ↓k_or2, ↓k_no, ↓k_ci, ↓k_l0, ↓k_r0, ↓k_se0, ↓k_ic0, ↓k_l1, ↓k_r1, ↓k_se1, ↓k_ic1, ↓k_de1, ↓k_tk1, ↓k_l2, ↓k_r2, ↓k_se2, ↓k_ic2, ↓k_de2, ↓k_tk2, ↓k_l3, ↓k_r3, ↓k_se3, ↓k_ic3, ↓k_de3, ↓k_tk3, ↓k_l4, ↓k_r4, ↓k_se4, ↓k_ic4, ↓k_de4, ↓k_tk4, ↓k_l5, ↓k_r5, ↓k_se5, ↓k_ic5, ↓k_de5, ↓k_tk5, ↓k_l6, ↓k_r6, ↓k_se6, ↓k_ic6, ↓k_de6, ↓k_tk6, ↓k_l7, ↓k_r7, ↓k_se7, ↓k_ic7, ↓k_de7, ↓k_tk7, ↓k_l8, ↓k_r8, ↓k_se8, ↓k_ic8, ↓k_de8, ↓k_tk8, ↓k_l9, ↓k_r9, ↓k_se9, ↓k_ic9, ↓k_de9, ↓k_tk9, ↓k_l10, ↓k_r10, ↓k_se10, ↓k_ic10, ↓k_de10, ↓k_tk10, ↓k_l11, ↓k_r11, ↓k_se11, ↓k_ic11, ↓k_de11, ↓k_tk11, ↓k_l12, ↓k_r12, ↓k_se12, ↓k_ic12, ↓k_de12, ↓k_tk12, ↓k_l13, ↓k_r13, ↓k_se13, ↓k_ic13, ↓k_de13, ↓k_tk13, ↓k_l14, ↓k_r14, ↓k_se14, ↓k_ic14, ↓k_de14, ↓k_tk14, ↓k_l15, ↓k_r15, ↓k_se15, ↓k_ic15, ↓k_de15, ↓k_tk15, ↓k_l16, ↓k_r16, ↓k_se16, ↓k_ic16, ↓k_de16, ↓k_tk16, ↓k_l17, ↓k_r17, ↓k_se17, ↓k_ic17, ↓k_de17, ↓k_tk17, ↓k_l18, ↓k_r18, ↓k_se18, ↓k_ic18, ↓k_de18, ↓k_tk18, ↓k_l19, ↓k_r19, ↓k_se19, ↓k_ic19, ↓k_de19, ↓k_tk19, ↓k_l20, ↓k_r20, ↓k_se20, ↓k_ic20, ↓k_de20, ↓k_tk20, ↓k_l21, ↓k_r21, ↓k_se21, ↓k_ic21, ↓k_de21, ↓k_tk21, ↓k_l22, ↓k_r22, ↓k_se22, ↓k_ic22, ↓k_de22, ↓k_tk22, ↓k_l23, ↓k_r23, ↓k_se23, ↓k_ic23, ↓k_de23, ↓k_tk23, ↓k_l24, ↓k_r24, ↓k_se24, ↓k_ic24, ↓k_de24, ↓k_tk24, ↓k_l25, ↓k_r25, ↓k_se25, ↓k_ic25, ↓k_de25, ↓k_tk25, ↓k_k, ↓k_kn, ↓k_kl, ↓k_kln, ↓k_il, ↓k_2, ↓k_1, ↓k_2c, ↓k_2l, ↓k_ac, ↓k_an, ↓k_cs, ↓k_cv, ↓k_fi, ↓k_fr, ↓k_ai, ↓k_az, ↓k_ar, ↓k_sai, ↓k_saz, ↓k_soa, ↓k_sof, ↓k_spf, ↓k_sx, ↓k_blk, ↓k_sset, ↓k_sdec, ↓k_sri, ↓k_srv, ↓k_srr, ↓k_nop, ↓k_add, ↓k_sub, ↓k_mul, ↓k_min, ↓k_max, ↓k_shr, ↓k_shl, ↓k_or, ↓k_ilz, ↓k_addl, ↓k_rt, ↓k_rb, ↓k_rbz, ↓k_rsi, ↓k_rsr, ↓k_rsv, ↓reduceIte, hm, g, ↓xr1_4 h1, ↓xu1_4 h1, ↓xea1_4 h1, ↓xes1_4 h1, ↓xr1_5 h1, ↓xu1_5 h1, ↓xea1_5 h1, ↓xes1_5 h1, ↓xr1_6 h1, ↓xa1_6 h1, ↓xs1_6 h1, ↓xo1_6 h1, ↓xc1_6 h1, ↓xd1_6 h1, List.length_cons, List.length_nil, List.forall_mem_cons, List.not_mem_nil, Value.category, true_and, and_true, false_and, and_false, or_true, true_or, or_false, false_or, Nat.zero_le, forall_const, implies_true, false_implies, Nat.zero_add, Nat.reduceAdd, Nat.reduceLT, Nat.reduceLeDiff, Nat.le_refl, not_true_eq_false, not_false_eq_true, r_eq, r_ne, r_lt, r_ge, r_gt, r_le, bz_ne, nn_toNat, cn_of, cn_0, cn_1, i10, Int.reduceLE, Int.reduceLT, Int.reduceEq, bz_T, bz_F, ite_self, mulc, st_bud]
      exact hk2
  obtain ⟨w, w0, w1, w2⟩ := key m.toNat 0 0 (Int.le_refl _) (by omega) (Int.le_refl _) (by omega)
  refine ⟨w, w0, by omega, fun K => ?_⟩
  have lw : ∀ (Kn : List Value → q_M → Prop) (Kr : Option Value → q_M → Prop), wX1_work_0 [.ref a, .int (zI x), .int (zI 0), .int (zI 0)] (st T nx 0 0 R G) Kn Kr = Kn [.ref a, .int (zI x), .int (zI w), .int (zI m)] (st T nx 0 0 R G) := eX1_work_0.eqn (w2 _ _ ⟨rfl, rfl⟩)
  clear w2 key kl N
  simp (disch := omega) only [↓fX1_work.eq_1, ↓uX1_work, ↓k_mk, ↓k_sq, ↓k_sk, ↓k_bk, ↓k_if, ↓k_te, ↓k_cm, ↓k_cz, ↓k_an2, ↓k_or2, ↓k_no, ↓k_ci, ↓k_l0, ↓k_r0, ↓k_se0, ↓k_ic0, ↓k_l1, ↓k_r1, ↓k_se1, ↓k_ic1, ↓k_de1, ↓k_tk1, ↓k_l2, ↓k_r2, ↓k_se2, ↓k_ic2, ↓k_de2, ↓k_tk2, ↓k_l3, ↓k_r3, ↓k_se3, ↓k_ic3, ↓k_de3, ↓k_tk3, ↓k_l4, ↓k_r4, ↓k_se4, ↓k_ic4, ↓k_de4, ↓k_tk4, ↓k_l5, ↓k_r5, ↓k_se5, ↓k_ic5, ↓k_de5, ↓k_tk5, ↓k_l6, ↓k_r6, ↓k_se6, ↓k_ic6, ↓k_de6, ↓k_tk6, ↓k_l7, ↓k_r7, ↓k_se7, ↓k_ic7, ↓k_de7, ↓k_tk7, ↓k_l8, ↓k_r8, ↓k_se8, ↓k_ic8, ↓k_de8, ↓k_tk8, ↓k_l9, ↓k_r9, ↓k_se9, ↓k_ic9, ↓k_de9, ↓k_tk9, ↓k_l10, ↓k_r10, ↓k_se10, ↓k_ic10, ↓k_de10, ↓k_tk10, ↓k_l11, ↓k_r11, ↓k_se11, ↓k_ic11, ↓k_de11, ↓k_tk11, ↓k_l12, ↓k_r12, ↓k_se12, ↓k_ic12, ↓k_de12, ↓k_tk12, ↓k_l13, ↓k_r13, ↓k_se13, ↓k_ic13, ↓k_de13, ↓k_tk13, ↓k_l14, ↓k_r14, ↓k_se14, ↓k_ic14, ↓k_de14, ↓k_tk14, ↓k_l15, ↓k_r15, ↓k_se15, ↓k_ic15, ↓k_de15, ↓k_tk15, ↓k_l16, ↓k_r16, ↓k_se16, ↓k_ic16, ↓k_de16, ↓k_tk16, ↓k_l17, ↓k_r17, ↓k_se17, ↓k_ic17, ↓k_de17, ↓k_tk17, ↓k_l18, ↓k_r18, ↓k_se18, ↓k_ic18, ↓k_de18, ↓k_tk18, ↓k_l19, ↓k_r19, ↓k_se19, ↓k_ic19, ↓k_de19, ↓k_tk19, ↓k_l20, ↓k_r20, ↓k_se20, ↓k_ic20, ↓k_de20, ↓k_tk20, ↓k_l21, ↓k_r21, ↓k_se21, ↓k_ic21, ↓k_de21, ↓k_tk21, ↓k_l22, ↓k_r22, ↓k_se22, ↓k_ic22, ↓k_de22, ↓k_tk22, ↓k_l23, ↓k_r23, ↓k_se23, ↓k_ic23, ↓k_de23, ↓k_tk23, ↓k_l24, ↓k_r24, ↓k_se24, ↓k_ic24, ↓k_de24, ↓k_tk24, ↓k_l25, ↓k_r25, ↓k_se25, ↓k_ic25, ↓k_de25, ↓k_tk25, ↓k_k, ↓k_kn, ↓k_kl, ↓k_kln, ↓k_il, ↓k_2, ↓k_1, ↓k_2c, ↓k_2l, ↓k_ac, ↓k_an, ↓k_cs, ↓k_cv, ↓k_fi, ↓k_fr, ↓k_ai, ↓k_az, ↓k_ar, ↓k_sai, ↓k_saz, ↓k_soa, ↓k_sof, ↓k_spf, ↓k_sx, ↓k_blk, ↓k_sset, ↓k_sdec, ↓k_sri, ↓k_srv, ↓k_srr, ↓k_nop, ↓k_add, ↓k_sub, ↓k_mul, ↓k_min, ↓k_max, ↓k_shr, ↓k_shl, ↓k_or, ↓k_ilz, ↓k_addl, ↓k_rt, ↓k_rb, ↓k_rbz, ↓k_rsi, ↓k_rsr, ↓k_rsv, ↓reduceIte, ↓lw, List.length_cons, List.length_nil, List.forall_mem_cons, List.not_mem_nil, Value.category, true_and, and_true, false_and, and_false, or_true, true_or, or_false, false_or, Nat.zero_le, forall_const, implies_true, false_implies, Nat.zero_add, Nat.reduceAdd, Nat.reduceLT, Nat.reduceLeDiff, Nat.le_refl, not_true_eq_false, not_false_eq_true, r_eq, r_ne, r_lt, r_ge, r_gt, r_le, bz_ne, nn_toNat, cn_of, cn_0, cn_1, i10, Int.reduceLE, Int.reduceLT, Int.reduceEq, bz_T, bz_F, ite_self, mulc, st_bud]
/-- the key that comes next -/
def nxk (kr : Int → Int) (j : Int) : Int := if j < 0 then -1 else kr j
set_option maxHeartbeats 200000 in
theorem nxk_ge {e kr : Int → Int} {m n j l : Int} (kl : KL e kr m n) (j0 : 0 ≤ j) (jm : j < m) (kp : KFi e l l) (ln : l < n) (g : nxk kr (j - 1) < l) : kr j ≤ l := by
  obtain ⟨t, t0, t1, t2⟩ := kl.2.2.2 l ln kp
  by_cases z : j ≤ t
  · by_cases y : j = t
    · rw [y, t2]
      exact Int.le_refl _
    · have := kl.2.2.1 j t j0 (by omega) t1
      omega
  · exfalso
    unfold nxk at g
    rw [if_neg (by omega)] at g
    by_cases y : t = j - 1
    · rw [← y, t2] at g
      omega
    · have := kl.2.2.1 t (j - 1) t0 (by omega) (by omega)
      omega
set_option maxHeartbeats 200000 in
theorem nxk_top {e kr : Int → Int} {m n l : Int} (kl : KL e kr m n) (kp : KFi e l l) (ln : l < n) (g : nxk kr (m - 1) < l) : False := by
  obtain ⟨t, t0, t1, t2⟩ := kl.2.2.2 l ln kp
  unfold nxk at g
  rw [if_neg (by omega)] at g
  by_cases y : t = m - 1
  · rw [← y, t2] at g
    omega
  · have := kl.2.2.1 t (m - 1) t0 (by omega) (by omega)
    omega
set_option maxHeartbeats 200000 in
theorem me_1 {T : Nat → Option q_T} {nx a b b' : Nat} {R : Nat → Nat → Option Value} {G0 : Nat → Int → Int} {x n n' m m' : Int} {L e kr L' e' kr' : Int → Int} {y i : Int} (h1 : Ly T R a (L1 a)) (x0 : 0 ≤ x) (x3 : x < 3) (r1 : G0 (a + 2 + x.toNat) = L) (r2 : G0 (a + 7 + x.toNat) = e) (r3 : G0 (a + 2 + (x + 1).toNat) = L') (r4 : G0 (a + 7 + (x + 1).toNat) = e') (r5 : G0 (a + 12 + x.toNat) = kr) (r6 : G0 (a + 12 + (x + 1).toNat) = kr') (r7 : G0 (a + 16) x = m) (r8 : G0 (a + 16) (x + 1) = m') (N : Nst e 0 n) (N' : Nst e' 0 n') (n1 : n ≤ 201) (n1' : n' ≤ 201) (lb : ∀ z, 0 ≤ z → z < n → 0 ≤ L z ∧ L z ≤ 5000) (lb' : ∀ z, 0 ≤ z → z < n' → 0 ≤ L' z ∧ L' z ≤ 5000) (kl : KL e kr m n) (kl' : KL e' kr' m' n') (i0 : 0 ≤ i) (im : i < m) : ∀ (d : Nat) (j : Int) (G : Nat → Int → Int), j + 1 = d → j < m' → (∀ z, ¬ z = a + 18 → ¬ z = a + 19 → G z = G0 z) → WRt (G (a + 19)) L e L' e' n n' (kr i) (nxk kr' j) →
    ∃ G' : Nat → Int → Int, (∀ z, ¬ z = a + 18 → ¬ z = a + 19 → G' z = G0 z) ∧ WRt (G' (a + 19)) L e L' e' n n' (kr i) (-1) ∧ ∀ (Kn : List Value → q_M → Prop) (Kr : Option Value → q_M → Prop), Kn [.ref a, .ref b, .ref b', .int (zI y), .int (zI x), .int (zI i), .int (zI (-1))] (st T nx 0 0 R G') → q_wh wcX1_measure_1 wsX1_measure_1 [.ref a, .ref b, .ref b', .int (zI y), .int (zI x), .int (zI i), .int (zI j)] (st T nx 0 0 R G) Kn Kr := by
  have ki := kl.2.1 i i0 im
  intro d
  induction d with
  | zero =>
    intro j G jd jm fr w
    have e : j = -1 := by omega
    subst e
    refine ⟨G, fr, by unfold nxk at w; rw [if_pos (by omega)] at w; exact w, fun Kn Kr hh => q_outR (fun Kt Kf hk2 => ?_) hh⟩
    have g : ¬ (0 : Int) ≤ -1 := by omega
    clear hh w kl kl' N N' fr ki
    simp (disch := omega) only [↓wcX1_measure_1.eq_1, ↓k_mk, ↓k_sq, ↓k_sk, ↓k_bk, ↓k_if, ↓k_te, ↓k_cm, ↓k_cz, ↓k_an2, ↓k_or2, ↓k_no, ↓k_ci, ↓k_l0, ↓k_r0, ↓k_se0, ↓k_ic0, ↓k_l1, ↓k_r1, ↓k_se1, ↓k_ic1, ↓k_de1, ↓k_tk1, ↓k_l2, ↓k_r2, ↓k_se2, ↓k_ic2, ↓k_de2, ↓k_tk2, ↓k_l3, ↓k_r3, ↓k_se3, ↓k_ic3, ↓k_de3, ↓k_tk3, ↓k_l4, ↓k_r4, ↓k_se4, ↓k_ic4, ↓k_de4, ↓k_tk4, ↓k_l5, ↓k_r5, ↓k_se5, ↓k_ic5, ↓k_de5, ↓k_tk5, ↓k_l6, ↓k_r6, ↓k_se6, ↓k_ic6, ↓k_de6, ↓k_tk6, ↓k_l7, ↓k_r7, ↓k_se7, ↓k_ic7, ↓k_de7, ↓k_tk7, ↓k_l8, ↓k_r8, ↓k_se8, ↓k_ic8, ↓k_de8, ↓k_tk8, ↓k_l9, ↓k_r9, ↓k_se9, ↓k_ic9, ↓k_de9, ↓k_tk9, ↓k_l10, ↓k_r10, ↓k_se10, ↓k_ic10, ↓k_de10, ↓k_tk10, ↓k_l11, ↓k_r11, ↓k_se11, ↓k_ic11, ↓k_de11, ↓k_tk11, ↓k_l12, ↓k_r12, ↓k_se12, ↓k_ic12, ↓k_de12, ↓k_tk12, ↓k_l13, ↓k_r13, ↓k_se13, ↓k_ic13, ↓k_de13, ↓k_tk13, ↓k_l14, ↓k_r14, ↓k_se14, ↓k_ic14, ↓k_de14, ↓k_tk14, ↓k_l15, ↓k_r15, ↓k_se15, ↓k_ic15, ↓k_de15, ↓k_tk15, ↓k_l16, ↓k_r16, ↓k_se16, ↓k_ic16, ↓k_de16, ↓k_tk16, ↓k_l17, ↓k_r17, ↓k_se17, ↓k_ic17, ↓k_de17, ↓k_tk17, ↓k_l18, ↓k_r18, ↓k_se18, ↓k_ic18, ↓k_de18, ↓k_tk18, ↓k_l19, ↓k_r19, ↓k_se19, ↓k_ic19, ↓k_de19, ↓k_tk19, ↓k_l20, ↓k_r20, ↓k_se20, ↓k_ic20, ↓k_de20, ↓k_tk20, ↓k_l21, ↓k_r21, ↓k_se21, ↓k_ic21, ↓k_de21, ↓k_tk21, ↓k_l22, ↓k_r22, ↓k_se22, ↓k_ic22, ↓k_de22, ↓k_tk22, ↓k_l23, ↓k_r23, ↓k_se23, ↓k_ic23, ↓k_de23, ↓k_tk23, ↓k_l24, ↓k_r24, ↓k_se24, ↓k_ic24, ↓k_de24, ↓k_tk24, ↓k_l25, ↓k_r25, ↓k_se25, ↓k_ic25, ↓k_de25, ↓k_tk25, ↓k_k, ↓k_kn, ↓k_kl, ↓k_kln, ↓k_il, ↓k_2, ↓k_1, ↓k_2c, ↓k_2l, ↓k_ac, ↓k_an, ↓k_cs, ↓k_cv, ↓k_fi, ↓k_fr, ↓k_ai, ↓k_az, ↓k_ar, ↓k_sai, ↓k_saz, ↓k_soa, ↓k_sof, ↓k_spf, ↓k_sx, ↓k_blk, ↓k_sset, ↓k_sdec, ↓k_sri, ↓k_srv, ↓k_srr, ↓k_nop, ↓k_add, ↓k_sub, ↓k_mul, ↓k_min, ↓k_max, ↓k_shr, ↓k_shl, ↓k_or, ↓k_ilz, ↓k_addl, ↓k_rt, ↓k_rb, ↓k_rbz, ↓k_rsi, ↓k_rsr, ↓k_rsv, ↓reduceIte, g, List.length_cons, List.length_nil, List.forall_mem_cons, List.not_mem_nil, Value.category, true_and, and_true, false_and, and_false, or_true, true_or, or_false, false_or, Nat.zero_le, forall_const, implies_true, false_implies, Nat.zero_add, Nat.reduceAdd, Nat.reduceLT, Nat.reduceLeDiff, Nat.le_refl, not_true_eq_false, not_false_eq_true, r_eq, r_ne, r_lt, r_ge, r_gt, r_le, bz_ne, nn_toNat, cn_of, cn_0, cn_1, i10, Int.reduceLE, Int.reduceLT, Int.reduceEq, bz_T, bz_F, ite_self, mulc, st_bud]
    exact hk2
  | succ d ih =>
    intro j G jd jm fr w
    have j0 : 0 ≤ j := by omega
    have kj := kl'.2.1 j j0 jm
    have nj : nxk kr' j = kr' j := by unfold nxk; rw [if_neg (by omega)]
    rw [nj] at w
    have kj0 := kj.2.1
    obtain ⟨G1, q1, q2, q3, q4⟩ := c1_measurePieces (T := T) (nx := nx) (R := R) (G := G) (p := kr i) (q := kr' j) h1 x0 x3 (by rw [fr _ (by omega) (by omega)]; exact r1) (by rw [fr _ (by omega) (by omega)]; exact r2) (by rw [fr _ (by omega) (by omega)]; exact r3) (by rw [fr _ (by omega) (by omega)]; exact r4) N N' n1 n1' lb lb' ki.2 ki.1 kj0 kj.1 w
    have w1 := WRt_step (q' := nxk kr' (j - 1)) w q2 q3 (fun l hl ln g => nxk_ge kl' j0 jm hl ln g)
    obtain ⟨G2, t1, t2, t3⟩ := ih (j - 1) G1 (by omega) (by omega) (fun z z1 z2 => by rw [q1 z z1 z2]; exact fr z z1 z2) w1
    refine ⟨G2, t1, t2, fun Kn Kr hh => q_backR (fun K Kf hk2 => ?_) (t3 Kn Kr hh)⟩
    have f12 : G (a + 12 + x.toNat) i = kr i := by rw [fr _ (by omega) (by omega), r5]
    have f13 : G (a + 12 + (x + 1).toNat) j = kr' j := by rw [fr _ (by omega) (by omega), r6]
    have mb := kl.1
    have mb' := kl'.1
    have cM := q4
    rw [← f12, ← f13] at cM
    have ib : i < 201 := by omega
    have jb : j < 201 := by omega
    have ge : 0 ≤ j := j0
    have mj : j + -1 = j - 1 := by omega
    clear w kl kl' N N' fr ki q1 q2 q3 q4 t1 t2 t3 ih w1 kj mb mb'
    simp (disch := omega) only [↓wcX1_measure_1.eq_1, ↓wsX1_measure_1.eq_1, ↓(k_cv3 dX1_measurePieces (t1 h1)), ↓k_mk, ↓k_sq, ↓k_sk, ↓k_bk, ↓k_if, ↓k_te, ↓k_cm, ↓k_cz, ↓k_an2, ↓k_or2, ↓k_no, ↓k_ci, ↓k_l0, ↓k_r0, ↓k_se0, ↓k_ic0, ↓k_l1, ↓k_r1, ↓k_se1, ↓k_ic1, ↓k_de1, ↓k_tk1, ↓k_l2, ↓k_r2, ↓k_se2, ↓k_ic2, ↓k_de2, ↓k_tk2, ↓k_l3, ↓k_r3, ↓k_se3, ↓k_ic3, ↓k_de3, ↓k_tk3, ↓k_l4, ↓k_r4, ↓k_se4, ↓k_ic4, ↓k_de4, ↓k_tk4, ↓k_l5, ↓k_r5, ↓k_se5, ↓k_ic5, ↓k_de5, ↓k_tk5, ↓k_l6, ↓k_r6, ↓k_se6, ↓k_ic6, ↓k_de6, ↓k_tk6, ↓k_l7, ↓k_r7, ↓k_se7, ↓k_ic7, ↓k_de7, ↓k_tk7, ↓k_l8, ↓k_r8, ↓k_se8, ↓k_ic8, ↓k_de8, ↓k_tk8, ↓k_l9, ↓k_r9, ↓k_se9, ↓k_ic9, ↓k_de9, ↓k_tk9, ↓k_l10, ↓k_r10, ↓k_se10, ↓k_ic10, ↓k_de10, ↓k_tk10, ↓k_l11, ↓k_r11, ↓k_se11, ↓k_ic11, ↓k_de11, ↓k_tk11, ↓k_l12, ↓k_r12, ↓k_se12, ↓k_ic12, ↓k_de12, ↓k_tk12, ↓k_l13, ↓k_r13, ↓k_se13, ↓k_ic13, ↓k_de13, ↓k_tk13, ↓k_l14, ↓k_r14, ↓k_se14, ↓k_ic14, ↓k_de14, ↓k_tk14, ↓k_l15, ↓k_r15, ↓k_se15, ↓k_ic15, ↓k_de15, ↓k_tk15, ↓k_l16, ↓k_r16, ↓k_se16, ↓k_ic16, ↓k_de16, ↓k_tk16, ↓k_l17, ↓k_r17, ↓k_se17, ↓k_ic17, ↓k_de17, ↓k_tk17, ↓k_l18, ↓k_r18, ↓k_se18, ↓k_ic18, ↓k_de18, ↓k_tk18, ↓k_l19, ↓k_r19, ↓k_se19, ↓k_ic19, ↓k_de19, ↓k_tk19, ↓k_l20, ↓k_r20, ↓k_se20, ↓k_ic20, ↓k_de20, ↓k_tk20, ↓k_l21, ↓k_r21, ↓k_se21, ↓k_ic21, ↓k_de21, ↓k_tk21, ↓k_l22, ↓k_r22, ↓k_se22, ↓k_ic22, ↓k_de22, ↓k_tk22, ↓k_l23, ↓k_r23, ↓k_se23, ↓k_ic23, ↓k_de23, ↓k_tk23, ↓k_l24, ↓k_r24, ↓k_se24, ↓k_ic24, ↓k_de24, ↓k_tk24, ↓k_l25, ↓k_r25, ↓k_se25, ↓k_ic25, ↓k_de25, ↓k_tk25, ↓k_k, ↓k_kn, ↓k_kl, ↓k_kln, ↓k_il, ↓k_2, ↓k_1, ↓k_2c, ↓k_2l, ↓k_ac, ↓k_an, ↓k_cs, ↓k_cv, ↓k_fi, ↓k_fr, ↓k_ai, ↓k_az, ↓k_ar, ↓k_sai, ↓k_saz, ↓k_soa, ↓k_sof, ↓k_spf, ↓k_sx, ↓k_blk, ↓k_sset, ↓k_sdec, ↓k_sri, ↓k_srv, ↓k_srr, ↓k_nop, ↓k_add, ↓k_sub, ↓k_mul, ↓k_min, ↓k_max, ↓k_shr, ↓k_shl, ↓k_or, ↓k_ilz, ↓k_addl, ↓k_rt, ↓k_rb, ↓k_rbz, ↓k_rsi, ↓k_rsr, ↓k_rsv, ↓reduceIte, ge, mj, ↓(k_cv3 dX1_measurePieces (t1 h1)), ↓cM, ↓xr1_5 h1, ↓xu1_5 h1, ↓xea1_5 h1, ↓xes1_5 h1, List.length_cons, List.length_nil, List.forall_mem_cons, List.not_mem_nil, Value.category, true_and, and_true, false_and, and_false, or_true, true_or, or_false, false_or, Nat.zero_le, forall_const, implies_true, false_implies, Nat.zero_add, Nat.reduceAdd, Nat.reduceLT, Nat.reduceLeDiff, Nat.le_refl, not_true_eq_false, not_false_eq_true, r_eq, r_ne, r_lt, r_ge, r_gt, r_le, bz_ne, nn_toNat, cn_of, cn_0, cn_1, i10, Int.reduceLE, Int.reduceLT, Int.reduceEq, bz_T, bz_F, ite_self, mulc, st_bud]
    exact hk2
set_option maxHeartbeats 200000 in
theorem me_0 {T : Nat → Option q_T} {nx a b b' : Nat} {R : Nat → Nat → Option Value} {G0 : Nat → Int → Int} {x n n' m m' : Int} {L e kr L' e' kr' : Int → Int} {y : Int} (h1 : Ly T R a (L1 a)) (x0 : 0 ≤ x) (x3 : x < 3) (r1 : G0 (a + 2 + x.toNat) = L) (r2 : G0 (a + 7 + x.toNat) = e) (r3 : G0 (a + 2 + (x + 1).toNat) = L') (r4 : G0 (a + 7 + (x + 1).toNat) = e') (r5 : G0 (a + 12 + x.toNat) = kr) (r6 : G0 (a + 12 + (x + 1).toNat) = kr') (r7 : G0 (a + 16) x = m) (r8 : G0 (a + 16) (x + 1) = m') (N : Nst e 0 n) (N' : Nst e' 0 n') (n1 : n ≤ 201) (n1' : n' ≤ 201) (lb : ∀ z, 0 ≤ z → z < n → 0 ≤ L z ∧ L z ≤ 5000) (lb' : ∀ z, 0 ≤ z → z < n' → 0 ≤ L' z ∧ L' z ≤ 5000) (kl : KL e kr m n) (kl' : KL e' kr' m' n') : ∀ (d : Nat) (i : Int) (G : Nat → Int → Int), i + 1 = d → i < m → (∀ z, ¬ z = a + 18 → ¬ z = a + 19 → G z = G0 z) → WRt (G (a + 19)) L e L' e' n n' (nxk kr i) n' →
    ∃ G' : Nat → Int → Int, (∀ z, ¬ z = a + 18 → ¬ z = a + 19 → G' z = G0 z) ∧ WRt (G' (a + 19)) L e L' e' n n' (-1) n' ∧ ∀ (Kn : List Value → q_M → Prop) (Kr : Option Value → q_M → Prop), Kn [.ref a, .ref b, .ref b', .int (zI y), .int (zI x), .int (zI (-1))] (st T nx 0 0 R G') → q_wh wcX1_measure_0 wsX1_measure_0 [.ref a, .ref b, .ref b', .int (zI y), .int (zI x), .int (zI i)] (st T nx 0 0 R G) Kn Kr := by
  intro d
  induction d with
  | zero =>
    intro i G jd jm fr w
    have e : i = -1 := by omega
    subst e
    refine ⟨G, fr, by unfold nxk at w; rw [if_pos (by omega)] at w; exact w, fun Kn Kr hh => q_outR (fun Kt Kf hk2 => ?_) hh⟩
    have g : ¬ (0 : Int) ≤ -1 := by omega
    clear hh w kl kl' N N' fr
    simp (disch := omega) only [↓wcX1_measure_0.eq_1, ↓k_mk, ↓k_sq, ↓k_sk, ↓k_bk, ↓k_if, ↓k_te, ↓k_cm, ↓k_cz, ↓k_an2, ↓k_or2, ↓k_no, ↓k_ci, ↓k_l0, ↓k_r0, ↓k_se0, ↓k_ic0, ↓k_l1, ↓k_r1, ↓k_se1, ↓k_ic1, ↓k_de1, ↓k_tk1, ↓k_l2, ↓k_r2, ↓k_se2, ↓k_ic2, ↓k_de2, ↓k_tk2, ↓k_l3, ↓k_r3, ↓k_se3, ↓k_ic3, ↓k_de3, ↓k_tk3, ↓k_l4, ↓k_r4, ↓k_se4, ↓k_ic4, ↓k_de4, ↓k_tk4, ↓k_l5, ↓k_r5, ↓k_se5, ↓k_ic5, ↓k_de5, ↓k_tk5, ↓k_l6, ↓k_r6, ↓k_se6, ↓k_ic6, ↓k_de6, ↓k_tk6, ↓k_l7, ↓k_r7, ↓k_se7, ↓k_ic7, ↓k_de7, ↓k_tk7, ↓k_l8, ↓k_r8, ↓k_se8, ↓k_ic8, ↓k_de8, ↓k_tk8, ↓k_l9, ↓k_r9, ↓k_se9, ↓k_ic9, ↓k_de9, ↓k_tk9, ↓k_l10, ↓k_r10, ↓k_se10, ↓k_ic10, ↓k_de10, ↓k_tk10, ↓k_l11, ↓k_r11, ↓k_se11, ↓k_ic11, ↓k_de11, ↓k_tk11, ↓k_l12, ↓k_r12, ↓k_se12, ↓k_ic12, ↓k_de12, ↓k_tk12, ↓k_l13, ↓k_r13, ↓k_se13, ↓k_ic13, ↓k_de13, ↓k_tk13, ↓k_l14, ↓k_r14, ↓k_se14, ↓k_ic14, ↓k_de14, ↓k_tk14, ↓k_l15, ↓k_r15, ↓k_se15, ↓k_ic15, ↓k_de15, ↓k_tk15, ↓k_l16, ↓k_r16, ↓k_se16, ↓k_ic16, ↓k_de16, ↓k_tk16, ↓k_l17, ↓k_r17, ↓k_se17, ↓k_ic17, ↓k_de17, ↓k_tk17, ↓k_l18, ↓k_r18, ↓k_se18, ↓k_ic18, ↓k_de18, ↓k_tk18, ↓k_l19, ↓k_r19, ↓k_se19, ↓k_ic19, ↓k_de19, ↓k_tk19, ↓k_l20, ↓k_r20, ↓k_se20, ↓k_ic20, ↓k_de20, ↓k_tk20, ↓k_l21, ↓k_r21, ↓k_se21, ↓k_ic21, ↓k_de21, ↓k_tk21, ↓k_l22, ↓k_r22, ↓k_se22, ↓k_ic22, ↓k_de22, ↓k_tk22, ↓k_l23, ↓k_r23, ↓k_se23, ↓k_ic23, ↓k_de23, ↓k_tk23, ↓k_l24, ↓k_r24, ↓k_se24, ↓k_ic24, ↓k_de24, ↓k_tk24, ↓k_l25, ↓k_r25, ↓k_se25, ↓k_ic25, ↓k_de25, ↓k_tk25, ↓k_k, ↓k_kn, ↓k_kl, ↓k_kln, ↓k_il, ↓k_2, ↓k_1, ↓k_2c, ↓k_2l, ↓k_ac, ↓k_an, ↓k_cs, ↓k_cv, ↓k_fi, ↓k_fr, ↓k_ai, ↓k_az, ↓k_ar, ↓k_sai, ↓k_saz, ↓k_soa, ↓k_sof, ↓k_spf, ↓k_sx, ↓k_blk, ↓k_sset, ↓k_sdec, ↓k_sri, ↓k_srv, ↓k_srr, ↓k_nop, ↓k_add, ↓k_sub, ↓k_mul, ↓k_min, ↓k_max, ↓k_shr, ↓k_shl, ↓k_or, ↓k_ilz, ↓k_addl, ↓k_rt, ↓k_rb, ↓k_rbz, ↓k_rsi, ↓k_rsr, ↓k_rsv, ↓reduceIte, g, List.length_cons, List.length_nil, List.forall_mem_cons, List.not_mem_nil, Value.category, true_and, and_true, false_and, and_false, or_true, true_or, or_false, false_or, Nat.zero_le, forall_const, implies_true, false_implies, Nat.zero_add, Nat.reduceAdd, Nat.reduceLT, Nat.reduceLeDiff, Nat.le_refl, not_true_eq_false, not_false_eq_true, r_eq, r_ne, r_lt, r_ge, r_gt, r_le, bz_ne, nn_toNat, cn_of, cn_0, cn_1, i10, Int.reduceLE, Int.reduceLT, Int.reduceEq, bz_T, bz_F, ite_self, mulc, st_bud]
    exact hk2
  | succ d ih =>
    intro i G jd im fr w
    have i0 : 0 ≤ i := by omega
    have nj : nxk kr i = kr i := by unfold nxk; rw [if_neg (by omega)]
    rw [nj] at w
    have mb' := kl'.1
    obtain ⟨G1, q1, q2, q3⟩ := me_1 (T := T) (nx := nx) (b := b) (b' := b') (R := R) (G0 := G0) (y := y) h1 x0 x3 r1 r2 r3 r4 r5 r6 r7 r8 N N' n1 n1' lb lb' kl kl' i0 im m'.toNat (m' - 1) G (by omega) (by omega) fr (WRt_mono w (fun k l hk hl kn ln g => by
      rcases g with g | ⟨g1, g2⟩
      · exact Or.inl g
      · exact absurd g2 (fun z => nxk_top kl' hl ln z)))
    obtain ⟨G2, t1, t2, t3⟩ := ih (i - 1) G1 (by omega) (by omega) q1 (WRt_mono q2 (fun k l hk hl kn ln g => by
      have l0 := hl.1
      rcases g with g | ⟨g1, g2⟩
      · have := nxk_ge kl i0 im hk kn g
        by_cases z : kr i < k
        · exact Or.inl z
        · exact Or.inr ⟨by omega, by omega⟩
      · omega))
    refine ⟨G2, t1, t2, fun Kn Kr hh => q_backR (fun K Kf hk2 => ?_) (t3 Kn Kr hh)⟩
    have lw : ∀ (Kn : List Value → q_M → Prop) (Kr : Option Value → q_M → Prop), wX1_measure_1 [.ref a, .ref b, .ref b', .int (zI y), .int (zI x), .int (zI i), .int (zI (m' - 1))] (st T nx 0 0 R G) Kn Kr = Kn [.ref a, .ref b, .ref b', .int (zI y), .int (zI x), .int (zI i), .int (zI (-1))] (st T nx 0 0 R G1) := eX1_measure_1.eqn (q3 _ _ ⟨rfl, rfl⟩)
    have f8 : G (a + 16) (x + 1) = m' := by rw [fr _ (by omega) (by omega), r8]
    have ge : 0 ≤ i := i0
    have iu : i < 201 := by
      have := kl.1
      omega
    have mi : i + -1 = i - 1 := by omega
    rw [← f8] at lw
    clear w kl kl' N N' fr q1 q2 q3 t1 t2 t3 ih mb'
    simp (disch := omega) only [↓wcX1_measure_0.eq_1, ↓wsX1_measure_0.eq_1, ↓k_mk, ↓k_sq, ↓k_sk, ↓k_bk, ↓k_if, ↓k_te, ↓k_cm, ↓k_cz, ↓k_an2, ↓k_or2, ↓k_no, ↓k_ci, ↓k_l0, ↓k_r0, ↓k_se0, ↓k_ic0, ↓k_l1, ↓k_r1, ↓k_se1, ↓k_ic1, ↓k_de1, ↓k_tk1, ↓k_l2, ↓k_r2, ↓k_se2, ↓k_ic2, ↓k_de2, ↓k_tk2, ↓k_l3, ↓k_r3, ↓k_se3, ↓k_ic3, ↓k_de3, ↓k_tk3, ↓k_l4, ↓k_r4, ↓k_se4, ↓k_ic4, ↓k_de4, ↓k_tk4, ↓k_l5, ↓k_r5, ↓k_se5, ↓k_ic5, ↓k_de5, ↓k_tk5, ↓k_l6, ↓k_r6, ↓k_se6, ↓k_ic6, ↓k_de6, ↓k_tk6, ↓k_l7, ↓k_r7, ↓k_se7, ↓k_ic7, ↓k_de7, ↓k_tk7, ↓k_l8, ↓k_r8, ↓k_se8, ↓k_ic8, ↓k_de8, ↓k_tk8, ↓k_l9, ↓k_r9, ↓k_se9, ↓k_ic9, ↓k_de9, ↓k_tk9, ↓k_l10, ↓k_r10, ↓k_se10, ↓k_ic10, ↓k_de10, ↓k_tk10, ↓k_l11, ↓k_r11, ↓k_se11, ↓k_ic11, ↓k_de11, ↓k_tk11, ↓k_l12, ↓k_r12, ↓k_se12, ↓k_ic12, ↓k_de12, ↓k_tk12, ↓k_l13, ↓k_r13, ↓k_se13, ↓k_ic13, ↓k_de13, ↓k_tk13, ↓k_l14, ↓k_r14, ↓k_se14, ↓k_ic14, ↓k_de14, ↓k_tk14, ↓k_l15, ↓k_r15, ↓k_se15, ↓k_ic15, ↓k_de15, ↓k_tk15, ↓k_l16, ↓k_r16, ↓k_se16, ↓k_ic16, ↓k_de16, ↓k_tk16, ↓k_l17, ↓k_r17, ↓k_se17, ↓k_ic17, ↓k_de17, ↓k_tk17, ↓k_l18, ↓k_r18, ↓k_se18, ↓k_ic18, ↓k_de18, ↓k_tk18, ↓k_l19, ↓k_r19, ↓k_se19, ↓k_ic19, ↓k_de19, ↓k_tk19, ↓k_l20, ↓k_r20, ↓k_se20, ↓k_ic20, ↓k_de20, ↓k_tk20, ↓k_l21, ↓k_r21, ↓k_se21, ↓k_ic21, ↓k_de21, ↓k_tk21, ↓k_l22, ↓k_r22, ↓k_se22, ↓k_ic22, ↓k_de22, ↓k_tk22, ↓k_l23, ↓k_r23, ↓k_se23, ↓k_ic23, ↓k_de23, ↓k_tk23, ↓k_l24, ↓k_r24, ↓k_se24, ↓k_ic24, ↓k_de24, ↓k_tk24, ↓k_l25, ↓k_r25, ↓k_se25, ↓k_ic25, ↓k_de25, ↓k_tk25, ↓k_k, ↓k_kn, ↓k_kl, ↓k_kln, ↓k_il, ↓k_2, ↓k_1, ↓k_2c, ↓k_2l, ↓k_ac, ↓k_an, ↓k_cs, ↓k_cv, ↓k_fi, ↓k_fr, ↓k_ai, ↓k_az, ↓k_ar, ↓k_sai, ↓k_saz, ↓k_soa, ↓k_sof, ↓k_spf, ↓k_sx, ↓k_blk, ↓k_sset, ↓k_sdec, ↓k_sri, ↓k_srv, ↓k_srr, ↓k_nop, ↓k_add, ↓k_sub, ↓k_mul, ↓k_min, ↓k_max, ↓k_shr, ↓k_shl, ↓k_or, ↓k_ilz, ↓k_addl, ↓k_rt, ↓k_rb, ↓k_rbz, ↓k_rsi, ↓k_rsr, ↓k_rsv, ↓reduceIte, ge, mi, ↓lw, ↓xr1_6 h1, ↓xa1_6 h1, ↓xs1_6 h1, ↓xo1_6 h1, ↓xc1_6 h1, ↓xd1_6 h1, List.length_cons, List.length_nil, List.forall_mem_cons, List.not_mem_nil, Value.category, true_and, and_true, false_and, and_false, or_true, true_or, or_false, false_or, Nat.zero_le, forall_const, implies_true, false_implies, Nat.zero_add, Nat.reduceAdd, Nat.reduceLT, Nat.reduceLeDiff, Nat.le_refl, not_true_eq_false, not_false_eq_true, r_eq, r_ne, r_lt, r_ge, r_gt, r_le, bz_ne, nn_toNat, cn_of, cn_0, cn_1, i10, Int.reduceLE, Int.reduceLT, Int.reduceEq, bz_T, bz_F, ite_self, mulc, st_bud]
    exact hk2
set_option maxHeartbeats 200000 in
/-- the loops of measure -/
theorem me_w {T : Nat → Option q_T} {nx a b b' : Nat} {R : Nat → Nat → Option Value} {G0 : Nat → Int → Int} {x n n' m m' : Int} {L e kr L' e' kr' : Int → Int} {y : Int} (h1 : Ly T R a (L1 a)) (x0 : 0 ≤ x) (x3 : x < 3) (r1 : G0 (a + 2 + x.toNat) = L) (r2 : G0 (a + 7 + x.toNat) = e) (r3 : G0 (a + 2 + (x + 1).toNat) = L') (r4 : G0 (a + 7 + (x + 1).toNat) = e') (r5 : G0 (a + 12 + x.toNat) = kr) (r6 : G0 (a + 12 + (x + 1).toNat) = kr') (r7 : G0 (a + 16) x = m) (r8 : G0 (a + 16) (x + 1) = m') (N : Nst e 0 n) (N' : Nst e' 0 n') (n1 : n ≤ 201) (n1' : n' ≤ 201) (lb : ∀ z, 0 ≤ z → z < n → 0 ≤ L z ∧ L z ≤ 5000) (lb' : ∀ z, 0 ≤ z → z < n' → 0 ≤ L' z ∧ L' z ≤ 5000) (kl : KL e kr m n) (kl' : KL e' kr' m' n') (n0 : 0 < n) (n0' : 0 < n') (e0 : e 0 = n) (e0' : e' 0 = n') : ∃ G' : Nat → Int → Int, (∀ z, ¬ z = a + 18 → ¬ z = a + 19 → G' z = G0 z) ∧ G' (a + 19) 0 = EDt L e L' e' 0 n 0 n' ∧ ∀ (Kn : List Value → q_M → Prop) (Kr : Option Value → q_M → Prop), wX1_measure_0 [.ref a, .ref b, .ref b', .int (zI y), .int (zI x), .int (zI (m - 1))] (st T nx 0 0 R G0) Kn Kr = Kn [.ref a, .ref b, .ref b', .int (zI y), .int (zI x), .int (zI (-1))] (st T nx 0 0 R G') := by
  have mb := kl.1
  obtain ⟨G', q1, q2, q3⟩ := me_0 (T := T) (nx := nx) (b := b) (b' := b') (R := R) (G0 := G0) (y := y) h1 x0 x3 r1 r2 r3 r4 r5 r6 r7 r8 N N' n1 n1' lb lb' kl kl' m.toNat (m - 1) G0 (by omega) (by omega) (fun _ _ _ => rfl) (WRt_mono WRt_start (fun k l hk hl kn ln g => by
    rcases g with g | ⟨g1, g2⟩
    · exact absurd g (fun z => nxk_top kl hk kn z)
    · omega))
  refine ⟨G', q1, WRt_end (WRt_mono q2 (fun k l hk hl kn ln g => ?_)) n0 n0' e0 e0', eX1_measure_0.eqn (q3 _ _ ⟨rfl, rfl⟩)⟩
  have := hk.1
  omega
end
