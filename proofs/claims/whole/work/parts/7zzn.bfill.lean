section
/-! the reference puts in a side with what its holes stand for -/
/-- memories that differ in the low part alone are one where its cells are given -/
theorem low_sw (T : Nat → Option q_T) (nx rc rs B : Nat) (R : Nat → Nat → Option Value) (Gc : Nat → Int → Int) : ∃ R' : Nat → Nat → Option Value, (∀ a, B + 544 ≤ a → R' a = R a) ∧ ∀ G : Nat → Int → Int, st T nx rc rs R' G = st T nx rc rs R (fun x => if x < B + 544 then Gc x else G x) := by
  refine ⟨fun a k => if a < B + 544 then some ((R a k).getD (.int (zI (Gc a (k : Int))))) else R a k, fun a h => ?_, fun G => ?_⟩
  · funext k
    exact if_neg (by omega)
  · refine Prod.ext rfl ?_
    funext a k
    show ((if a < B + 544 then some ((R a k).getD (.int (zI (Gc a (k : Int))))) else R a k).getD (.int (zI (G a (k : Int))))) = (R a k).getD (.int (zI ((if a < B + 544 then Gc a else G a) (k : Int))))
    by_cases h : a < B + 544
    · rw [if_pos h, if_pos h]
      rfl
    · rw [if_neg h, if_neg h]
theorem low_M {T : Nat → Option q_T} {R R' : Nat → Nat → Option Value} {B : Nat} (h : ∀ a, B + 544 ≤ a → R' a = R a) (hM : Ly T R (B + 544) (L12 (B + 544))) : Ly T R' (B + 544) (L12 (B + 544)) := fun k c hc => by
  obtain ⟨a1, a2⟩ := hM k c hc
  refine ⟨a1, fun j => ?_⟩
  rw [h _ (by omega)]
  exact a2 j
/-- a hole is put off to what it stands for -/
theorem b_holeS {T : Nat → Option q_T} {nx B : Nat} {R : Nat → Nat → Option Value} {G : Nat → Int → Int} {i iz p tn ts W t' p' : Int} (hM : Ly T R (B + 544) (L12 (B + 544))) (p0 : 200 ≤ p) (p1 : p < 216) (W0 : 0 ≤ W) (W1 : W < 400) (h23 : G (B + 544) 23 = W + 1) (h22 : G (B + 544) 22 = 0) (s5 : ST5 G B W iz p tn ts 2) (h1 : G (B + 544 + 28) (p - 200) = t') (h2 : G (B + 544 + 29) (p - 200) = p') :
    ∃ G', BCh G G' B i ∧ SL5 G G' B W ∧ G' (B + 544) 23 = W + 1 ∧ G' (B + 544) 22 = 0 ∧ (∀ x, B + 560 ≤ x → x ≤ B + 566 → G' x = G x) ∧ ST5 G' B W t' p' tn ts 0 ∧ BSt T nx R B i G G' := by
  obtain ⟨G1, e1⟩ : ∃ M, M = gs G (B + 544) 23 W := ⟨_, rfl⟩
  have pc1 := pop_ch G B i W W
  have sP := b_pop (T := T) (nx := nx) (rc := 0) (rs := 0) (R := R) (i := i) hM W0 W1 h23 s5
  rw [← e1] at pc1 sP
  have w1 : G1 (B + 544) 23 = W := by rw [e1]; exact gs_same _ _ _ _
  have w2 : G1 (B + 544) 22 = 0 := by rw [e1, gs_eq, fu_ne (by omega)]; exact h22
  have o1 : ∀ x, ¬ x = B + 544 → G1 x = G x := fun x q => by rw [e1, gs_ne q]
  obtain ⟨G2, a1, a2, a3, a4, a5, a6⟩ := c12_await0 (T := T) (nx := nx) (rc := 0) (rs := 0) (R := R) (G := G1) (W := W) (t := t') (p := p') (n := tn) (s := ts) (m := 0) hM W0 W1 w1
  obtain ⟨z1, z2, z3, z4, z5⟩ := s5
  have y1 : G1 (B + 544 + 23) W = iz := by rw [o1 _ (by omega)]; exact z1
  have y2 : G1 (B + 544 + 24) W = p := by rw [o1 _ (by omega)]; exact z2
  have y3 : G1 (B + 544 + 25) W = tn := by rw [o1 _ (by omega)]; exact z3
  have y4 : G1 (B + 544 + 26) W = ts := by rw [o1 _ (by omega)]; exact z4
  have y5 : G1 (B + 544 + 27) W = 2 := by rw [o1 _ (by omega)]; exact z5
  have k1 : G1 (B + 544 + 28) (p - 200) = t' := by rw [o1 _ (by omega)]; exact h1
  have k2 : G1 (B + 544 + 29) (p - 200) = p' := by rw [o1 _ (by omega)]; exact h2
  refine ⟨G2, BCh_tr pc1.1 (BCh_stk a1 fun j _ q => a2 j q), SL5_tr pc1.2 a4 (Int.le_refl _), a3, by rw [a2 _ (by omega)]; exact w2, fun x q1 q2 => by rw [a1 x (by omega) (by omega), o1 x (by omega)], a5, fun Kn Kr hk => q_backR (fun K Kf hk2 => ?_) hk⟩
  have g0 : 0 < W + 1 := by omega
  have g2 : p < 1000 := by omega
  clear a1 a2 a4 a5 o1 e1 z1 z2 z3 z4 z5
  simp (disch := omega) only [↓wcX12_build_0.eq_1, ↓wsX12_build_0.eq_1, ↓(k_cv1 dX12_rootPiece (t12 hM)), ↓(k_cv1 dX12_slotsOf (t12 hM)), ↓(k_cv2 dX12_fitsHere (t12 hM)), ↓(k_cv2 dX12_formAt (t12 hM)), ↓(k_cv4 dX12_newNode (t12 hM)), ↓(k_cv4 dX12_putLeaf (t12 hM)), ↓(k_cv5 dX12_await0 (t12 hM)), ↓k_mk, ↓k_sq, ↓k_sk, ↓k_bk, ↓k_if, ↓k_te, ↓k_cm, ↓k_cz, ↓k_an2, ↓k_or2, ↓k_no, ↓k_ci, ↓k_l0, ↓k_r0, ↓k_se0, ↓k_ic0, ↓k_l1, ↓k_r1, ↓k_se1, ↓k_ic1, ↓k_de1, ↓k_tk1, ↓k_l2, ↓k_r2, ↓k_se2, ↓k_ic2, ↓k_de2, ↓k_tk2, ↓k_l3, ↓k_r3, ↓k_se3, ↓k_ic3, ↓k_de3, ↓k_tk3, ↓k_l4, ↓k_r4, ↓k_se4, ↓k_ic4, ↓k_de4, ↓k_tk4, ↓k_l5, ↓k_r5, ↓k_se5, ↓k_ic5, ↓k_de5, ↓k_tk5, ↓k_l6, ↓k_r6, ↓k_se6, ↓k_ic6, ↓k_de6, ↓k_tk6, ↓k_l7, ↓k_r7, ↓k_se7, ↓k_ic7, ↓k_de7, ↓k_tk7, ↓k_l8, ↓k_r8, ↓k_se8, ↓k_ic8, ↓k_de8, ↓k_tk8, ↓k_l9, ↓k_r9, ↓k_se9, ↓k_ic9, ↓k_de9, ↓k_tk9, ↓k_l10, ↓k_r10, ↓k_se10, ↓k_ic10, ↓k_de10, ↓k_tk10, ↓k_l11, ↓k_r11, ↓k_se11, ↓k_ic11, ↓k_de11, ↓k_tk11, ↓k_l12, ↓k_r12, ↓k_se12, ↓k_ic12, ↓k_de12, ↓k_tk12, ↓k_l13, ↓k_r13, ↓k_se13, ↓k_ic13, ↓k_de13, ↓k_tk13, ↓k_l14, ↓k_r14, ↓k_se14, ↓k_ic14, ↓k_de14, ↓k_tk14, ↓k_l15, ↓k_r15, ↓k_se15, ↓k_ic15, ↓k_de15, ↓k_tk15, ↓k_l16, ↓k_r16, ↓k_se16, ↓k_ic16, ↓k_de16, ↓k_tk16, ↓k_l17, ↓k_r17, ↓k_se17, ↓k_ic17, ↓k_de17, ↓k_tk17, ↓k_l18, ↓k_r18, ↓k_se18, ↓k_ic18, ↓k_de18, ↓k_tk18, ↓k_l19, ↓k_r19, ↓k_se19, ↓k_ic19, ↓k_de19, ↓k_tk19, ↓k_l20, ↓k_r20, ↓k_se20, ↓k_ic20, ↓k_de20, ↓k_tk20, ↓k_l21, ↓k_r21, ↓k_se21, ↓k_ic21, ↓k_de21, ↓k_tk21, ↓k_l22, ↓k_r22, ↓k_se22, ↓k_ic22, ↓k_de22, ↓k_tk22, ↓k_l23, ↓k_r23, ↓k_se23, ↓k_ic23, ↓k_de23, ↓k_tk23, ↓k_l24, ↓k_r24, ↓k_se24, ↓k_ic24, ↓k_de24, ↓k_tk24, ↓k_l25, ↓k_r25, ↓k_se25, ↓k_ic25, ↓k_de25, ↓k_tk25, ↓k_k, ↓k_kn, ↓k_kl, ↓k_kln, ↓k_il, ↓k_2, ↓k_1, ↓k_2c, ↓k_2l, ↓k_ac, ↓k_an, ↓k_cs, ↓k_cv, ↓k_fi, ↓k_fr, ↓k_ai, ↓k_az, ↓k_ar, ↓k_sai, ↓k_saz, ↓k_soa, ↓k_spf, ↓k_sx, ↓k_blk, ↓k_sset, ↓k_sdec, ↓k_sri, ↓k_srv, ↓k_srr, ↓k_nop, ↓k_add, ↓k_sub, ↓k_mul, ↓k_min, ↓k_max, ↓k_shr, ↓k_shl, ↓k_or, ↓k_ilz, ↓k_addl, ↓k_rt, ↓k_rb, ↓k_rbz, ↓k_rsi, ↓k_rsr, ↓k_rsv, ↓reduceIte, h23, h22, g0, eq_self, ↓sP, w1, y1, y2, y3, y4, y5, p0, g2, k1, k2, ↓(k_cv5 dX12_await0 (t12 hM)), ↓a6, ↓xi12_22 hM, ↓xp12_22 hM, ↓xb12_22 hM, ↓xf12_22 hM, ↓xg12_22 hM, ↓xh12_22 hM, ↓xi12_23 hM, ↓xp12_23 hM, ↓xb12_23 hM, ↓xf12_23 hM, ↓xg12_23 hM, ↓xh12_23 hM, ↓xr12_24 hM, ↓xa12_24 hM, ↓xs12_24 hM, ↓xo12_24 hM, ↓xc12_24 hM, ↓xd12_24 hM, ↓xr12_25 hM, ↓xa12_25 hM, ↓xs12_25 hM, ↓xo12_25 hM, ↓xc12_25 hM, ↓xd12_25 hM, ↓xr12_26 hM, ↓xa12_26 hM, ↓xs12_26 hM, ↓xo12_26 hM, ↓xc12_26 hM, ↓xd12_26 hM, ↓xr12_27 hM, ↓xa12_27 hM, ↓xs12_27 hM, ↓xo12_27 hM, ↓xc12_27 hM, ↓xd12_27 hM, ↓xr12_28 hM, ↓xa12_28 hM, ↓xs12_28 hM, ↓xo12_28 hM, ↓xc12_28 hM, ↓xd12_28 hM, ↓xr12_29 hM, ↓xa12_29 hM, ↓xs12_29 hM, ↓xo12_29 hM, ↓xc12_29 hM, ↓xd12_29 hM, ↓xr12_30 hM, ↓xa12_30 hM, ↓xs12_30 hM, ↓xo12_30 hM, ↓xc12_30 hM, ↓xd12_30 hM, List.length_cons, List.length_nil, List.forall_mem_cons, List.not_mem_nil, Value.category, true_and, and_true, false_and, and_false, or_true, true_or, or_false, false_or, Nat.zero_le, forall_const, implies_true, false_implies, Nat.zero_add, Nat.reduceAdd, Nat.reduceLT, Nat.reduceLeDiff, Nat.le_refl, not_true_eq_false, not_false_eq_true, r_eq, r_ne, r_lt, r_ge, r_gt, r_le, bz_ne, nn_toNat, cn_of, cn_0, cn_1, i10, Int.reduceLE, Int.reduceLT, Int.reduceEq, bz_T, bz_F, ite_self, mulc, st_bud]
  exact hk2
end
