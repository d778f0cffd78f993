section
/-! names in a tree: how a leaf names -/
/-- how the leaf at place p names -/
def hw (g c u s : Int → Int) (p : Int) : Int := if 20 ≤ c p ∧ c p ≤ 35 then g (5 * (c (u p) - 1000) + s p) else -1
theorem leafP {G : Nat → Int → Int} {B a : Nat} {h i v l : Int} (hF : IFm G B) (tk : TOK G B h i v a) (tN : 1 ≤ G a 3) (l0 : 0 ≤ l) (l1 : l < G a 4) :
    ∃ (p q f k : Int), p = G (a + 8) l ∧ 0 < p ∧ p < G a 2 ∧ p ≤ 200 ∧ G (a + 1) p < 1000 ∧ (20 ≤ G (a + 1) p ∧ G (a + 1) p ≤ 1013) ∧ q = G (a + 3) p ∧ 0 ≤ q ∧ q < p ∧ 1000 ≤ G (a + 1) q ∧ f = G (a + 1) q - 1000 ∧ 0 ≤ f ∧ f < 14 ∧ k = G (a + 4) p ∧ 0 ≤ k ∧ k < 5 ∧ (0 ≤ G (a + 6) q ∧ G (a + 6) q < 40) ∧ G (B + 544 + 19) (40 * i + G (a + 6) q) = f ∧ G (B + 544 + 7) (5 * (14 * v + f) + k) = G (tvA B v + 8) (5 * f + k) ∧ (0 ≤ G (tvA B v + 8) (5 * f + k) ∧ G (tvA B v + 8) (5 * f + k) ≤ 2) := by
  have kT := tk.2.2.2.1
  have kv := tk.2.2.1
  have hF14 := (hF _ kv.1 kv.2).2.2.1
  have L0 := kT.1.2.2.2.2.1
  have n201 := kT.1.2.1
  have LN := kT.1.2.2.2.2.2.1
  obtain ⟨p, hp⟩ : ∃ p, p = G (a + 8) l := ⟨_, rfl⟩
  have hp' : G (a + 8) l = p := hp.symm
  obtain ⟨w1, w2, w3, w4⟩ := kT.2.2.2.2.2.2.2.2 l l0 (by omega)
  rw [hp'] at w1 w2 w3
  have rn := Tr_root kT tN
  have pn : ¬ p = 0 := fun z => by rw [z] at w3; exact w3 rn
  obtain ⟨u1, u2, u3, u4, u5, u6, u7, u8⟩ := Tr_par kT (p := p) (by omega) w2
  have cp := Tr_cb kT hF14 tN w1 w2
  obtain ⟨f, N, ef, f0, f1, eN, N1, N5, ⟨r0, r1⟩, hf', hN, hC, hgp, hns, hend, hch⟩ := nodeF hF tk u1 (by omega) u3
  have nb := nsl_b (fun k => G (tvA B v + 4) (5 * f + k)) N.toNat
  obtain ⟨n1, _⟩ := kT.2.2.2.1 _ u1 (by omega) u3
  rw [← ef] at u7 n1
  have u7' : G (a + 4) p < G (tvA B v + 5) f := u7
  obtain ⟨_, _, _, _, ho, _⟩ := (hF v kv.1 kv.2).2.2.2 f f0 n1
  obtain ⟨h1, h2, h3⟩ := ho (G (a + 4) p) u6 (by show _ < G (tvA B v + 3) f; rw [← eN]; omega)
  exact ⟨p, G (a + 3) p, f, G (a + 4) p, hp, by omega, w2, by omega, by omega, cp, rfl, u1, u2, u3, ef, f0, f1, rfl, u6, by omega, ⟨r0, r1⟩, hf', h1, h2, h3⟩
/-- the reference tells how leaf l names -/
theorem c12_howOf {T : Nat → Option q_T} {nx rc rs B a : Nat} {R : Nat → Nat → Option Value} {G : Nat → Int → Int} {i v l : Int} {K : Option Value → q_M → Prop} (hM : Ly T R (B + 544) (L12 (B + 544))) (i0 : 0 ≤ i) (i1 : i < 100) (hF : IFm G B) (tk : TOK G B 0 i v a) (tN : 1 ≤ G a 3) (lv : LV G G B a 0 (G a 4)) (l0 : 0 ≤ l) (l1 : l < G a 4) :
    fX12_howOf [.ref (B + 544), .int (zI i), .int (zI l)] (st T nx rc rs R G) K = K (some (.int (zI (hw (G (tvA B v + 8)) (G (a + 1)) (G (a + 3)) (G (a + 4)) (G (a + 8) l))))) (st T nx rc rs R G) := by
  obtain ⟨x1, x2, x3⟩ := lv l l0 l1
  obtain ⟨p, q, f, k, hp, p0, p1, p2, p3, p4, hq, q0, q1, q2, ef, f0, f1, ek, k0, k1, r0, hf, h1, h2⟩ := leafP hF tk tN l0 l1
  have tb := TOK_b tk
  have kv := tk.2.2.1
  have ht := tb.2.1
  have lb : G a 4 ≤ 201 := by omega
  rw [← hp] at x1 x2 x3
  rw [← hq] at x2
  rw [← ek] at x3
  have cF := fun (K : Option Value → q_M → Prop) => c12_formAtV (T := T) (nx := nx) (rc := 0) (rs := 0) (R := R) (K := K) hM i0 i1 r0.1 r0.2 ht hf
  unfold hw
  rw [← hp, ← hq, ← ek, ← ef]
  by_cases hn : 20 ≤ G (a + 1) p ∧ G (a + 1) p ≤ 35
  · rw [if_pos hn]
    simp (disch := omega) only [↓fX12_howOf.eq_1, ↓sX12_howOf_.eq_1, ↓(k_cs3 dX12_in), ↓(k_cv2 dX12_formAt (t12 hM)), ↓k_mk, ↓k_sq, ↓k_sk, ↓k_bk, ↓k_if, ↓k_te, ↓k_cm, ↓k_cz, ↓k_an2, ↓k_or2, ↓k_no, ↓k_ci, ↓k_l0, ↓k_r0, ↓k_se0, ↓k_ic0, ↓k_l1, ↓k_r1, ↓k_se1, ↓k_ic1, ↓k_de1, ↓k_tk1, ↓k_l2, ↓k_r2, ↓k_se2, ↓k_ic2, ↓k_de2, ↓k_tk2, ↓k_l3, ↓k_r3, ↓k_se3, ↓k_ic3, ↓k_de3, ↓k_tk3, ↓k_l4, ↓k_r4, ↓k_se4, ↓k_ic4, ↓k_de4, ↓k_tk4, ↓k_l5, ↓k_r5, ↓k_se5, ↓k_ic5, ↓k_de5, ↓k_tk5, ↓k_l6, ↓k_r6, ↓k_se6, ↓k_ic6, ↓k_de6, ↓k_tk6, ↓k_l7, ↓k_r7, ↓k_se7, ↓k_ic7, ↓k_de7, ↓k_tk7, ↓k_l8, ↓k_r8, ↓k_se8, ↓k_ic8, ↓k_de8, ↓k_tk8, ↓k_l9, ↓k_r9, ↓k_se9, ↓k_ic9, ↓k_de9, ↓k_tk9, ↓k_l10, ↓k_r10, ↓k_se10, ↓k_ic10, ↓k_de10, ↓k_tk10, ↓k_l11, ↓k_r11, ↓k_se11, ↓k_ic11, ↓k_de11, ↓k_tk11, ↓k_l12, ↓k_r12, ↓k_se12, ↓k_ic12, ↓k_de12, ↓k_tk12, ↓k_l13, ↓k_r13, ↓k_se13, ↓k_ic13, ↓k_de13, ↓k_tk13, ↓k_l14, ↓k_r14, ↓k_se14, ↓k_ic14, ↓k_de14, ↓k_tk14, ↓k_l15, ↓k_r15, ↓k_se15, ↓k_ic15, ↓k_de15, ↓k_tk15, ↓k_l16, ↓k_r16, ↓k_se16, ↓k_ic16, ↓k_de16, ↓k_tk16, ↓k_l17, ↓k_r17, ↓k_se17, ↓k_ic17, ↓k_de17, ↓k_tk17, ↓k_l18, ↓k_r18, ↓k_se18, ↓k_ic18, ↓k_de18, ↓k_tk18, ↓k_l19, ↓k_r19, ↓k_se19, ↓k_ic19, ↓k_de19, ↓k_tk19, ↓k_l20, ↓k_r20, ↓k_se20, ↓k_ic20, ↓k_de20, ↓k_tk20, ↓k_l21, ↓k_r21, ↓k_se21, ↓k_ic21, ↓k_de21, ↓k_tk21, ↓k_l22, ↓k_r22, ↓k_se22, ↓k_ic22, ↓k_de22, ↓k_tk22, ↓k_l23, ↓k_r23, ↓k_se23, ↓k_ic23, ↓k_de23, ↓k_tk23, ↓k_l24, ↓k_r24, ↓k_se24, ↓k_ic24, ↓k_de24, ↓k_tk24, ↓k_l25, ↓k_r25, ↓k_se25, ↓k_ic25, ↓k_de25, ↓k_tk25, ↓k_k, ↓k_kn, ↓k_kl, ↓k_kln, ↓k_il, ↓k_2, ↓k_1, ↓k_2c, ↓k_2l, ↓k_ac, ↓k_an, ↓k_cs, ↓k_cv, ↓k_fi, ↓k_fr, ↓k_ai, ↓k_az, ↓k_ar, ↓k_sai, ↓k_saz, ↓k_soa, ↓k_sof, ↓k_spf, ↓k_sx, ↓k_blk, ↓k_sset, ↓k_sdec, ↓k_sri, ↓k_srv, ↓k_srr, ↓k_nop, ↓k_add, ↓k_sub, ↓k_mul, ↓k_min, ↓k_max, ↓k_shr, ↓k_shl, ↓k_or, ↓k_ilz, ↓k_addl, ↓k_rt, ↓k_rb, ↓k_rbz, ↓k_rsi, ↓k_rsr, ↓k_rsv, ↓reduceIte, ↓c12_in, zI_long, x1, x2, x3, hn, cF, h1, ↓xr12_6 hM, ↓xa12_6 hM, ↓xs12_6 hM, ↓xo12_6 hM, ↓xc12_6 hM, ↓xd12_6 hM, ↓xr12_40 hM, ↓xa12_40 hM, ↓xs12_40 hM, ↓xo12_40 hM, ↓xc12_40 hM, ↓xd12_40 hM, ↓xr12_41 hM, ↓xa12_41 hM, ↓xs12_41 hM, ↓xo12_41 hM, ↓xc12_41 hM, ↓xd12_41 hM, ↓xr12_42 hM, ↓xa12_42 hM, ↓xs12_42 hM, ↓xo12_42 hM, ↓xc12_42 hM, ↓xd12_42 hM, List.length_cons, List.length_nil, List.forall_mem_cons, List.not_mem_nil, Value.category, true_and, and_true, false_and, and_false, or_true, true_or, or_false, false_or, Nat.zero_le, forall_const, implies_true, false_implies, Nat.zero_add, Nat.reduceAdd, Nat.reduceLT, Nat.reduceLeDiff, Nat.le_refl, not_true_eq_false, not_false_eq_true, r_eq, r_ne, r_lt, r_ge, r_gt, r_le, bz_ne, nn_toNat, cn_of, cn_0, cn_1, i10, Int.reduceLE, Int.reduceLT, Int.reduceEq, bz_T, bz_F, ite_self, mulc, st_bud]
  · rw [if_neg hn]
    simp (disch := omega) only [↓fX12_howOf.eq_1, ↓sX12_howOf_.eq_1, ↓(k_cs3 dX12_in), ↓(k_cv2 dX12_formAt (t12 hM)), ↓k_mk, ↓k_sq, ↓k_sk, ↓k_bk, ↓k_if, ↓k_te, ↓k_cm, ↓k_cz, ↓k_an2, ↓k_or2, ↓k_no, ↓k_ci, ↓k_l0, ↓k_r0, ↓k_se0, ↓k_ic0, ↓k_l1, ↓k_r1, ↓k_se1, ↓k_ic1, ↓k_de1, ↓k_tk1, ↓k_l2, ↓k_r2, ↓k_se2, ↓k_ic2, ↓k_de2, ↓k_tk2, ↓k_l3, ↓k_r3, ↓k_se3, ↓k_ic3, ↓k_de3, ↓k_tk3, ↓k_l4, ↓k_r4, ↓k_se4, ↓k_ic4, ↓k_de4, ↓k_tk4, ↓k_l5, ↓k_r5, ↓k_se5, ↓k_ic5, ↓k_de5, ↓k_tk5, ↓k_l6, ↓k_r6, ↓k_se6, ↓k_ic6, ↓k_de6, ↓k_tk6, ↓k_l7, ↓k_r7, ↓k_se7, ↓k_ic7, ↓k_de7, ↓k_tk7, ↓k_l8, ↓k_r8, ↓k_se8, ↓k_ic8, ↓k_de8, ↓k_tk8, ↓k_l9, ↓k_r9, ↓k_se9, ↓k_ic9, ↓k_de9, ↓k_tk9, ↓k_l10, ↓k_r10, ↓k_se10, ↓k_ic10, ↓k_de10, ↓k_tk10, ↓k_l11, ↓k_r11, ↓k_se11, ↓k_ic11, ↓k_de11, ↓k_tk11, ↓k_l12, ↓k_r12, ↓k_se12, ↓k_ic12, ↓k_de12, ↓k_tk12, ↓k_l13, ↓k_r13, ↓k_se13, ↓k_ic13, ↓k_de13, ↓k_tk13, ↓k_l14, ↓k_r14, ↓k_se14, ↓k_ic14, ↓k_de14, ↓k_tk14, ↓k_l15, ↓k_r15, ↓k_se15, ↓k_ic15, ↓k_de15, ↓k_tk15, ↓k_l16, ↓k_r16, ↓k_se16, ↓k_ic16, ↓k_de16, ↓k_tk16, ↓k_l17, ↓k_r17, ↓k_se17, ↓k_ic17, ↓k_de17, ↓k_tk17, ↓k_l18, ↓k_r18, ↓k_se18, ↓k_ic18, ↓k_de18, ↓k_tk18, ↓k_l19, ↓k_r19, ↓k_se19, ↓k_ic19, ↓k_de19, ↓k_tk19, ↓k_l20, ↓k_r20, ↓k_se20, ↓k_ic20, ↓k_de20, ↓k_tk20, ↓k_l21, ↓k_r21, ↓k_se21, ↓k_ic21, ↓k_de21, ↓k_tk21, ↓k_l22, ↓k_r22, ↓k_se22, ↓k_ic22, ↓k_de22, ↓k_tk22, ↓k_l23, ↓k_r23, ↓k_se23, ↓k_ic23, ↓k_de23, ↓k_tk23, ↓k_l24, ↓k_r24, ↓k_se24, ↓k_ic24, ↓k_de24, ↓k_tk24, ↓k_l25, ↓k_r25, ↓k_se25, ↓k_ic25, ↓k_de25, ↓k_tk25, ↓k_k, ↓k_kn, ↓k_kl, ↓k_kln, ↓k_il, ↓k_2, ↓k_1, ↓k_2c, ↓k_2l, ↓k_ac, ↓k_an, ↓k_cs, ↓k_cv, ↓k_fi, ↓k_fr, ↓k_ai, ↓k_az, ↓k_ar, ↓k_sai, ↓k_saz, ↓k_soa, ↓k_sof, ↓k_spf, ↓k_sx, ↓k_blk, ↓k_sset, ↓k_sdec, ↓k_sri, ↓k_srv, ↓k_srr, ↓k_nop, ↓k_add, ↓k_sub, ↓k_mul, ↓k_min, ↓k_max, ↓k_shr, ↓k_shl, ↓k_or, ↓k_ilz, ↓k_addl, ↓k_rt, ↓k_rb, ↓k_rbz, ↓k_rsi, ↓k_rsr, ↓k_rsv, ↓reduceIte, ↓c12_in, zI_long, x1, x2, x3, hn, ↓xr12_40 hM, ↓xa12_40 hM, ↓xs12_40 hM, ↓xo12_40 hM, ↓xc12_40 hM, ↓xd12_40 hM, List.length_cons, List.length_nil, List.forall_mem_cons, List.not_mem_nil, Value.category, true_and, and_true, false_and, and_false, or_true, true_or, or_false, false_or, Nat.zero_le, forall_const, implies_true, false_implies, Nat.zero_add, Nat.reduceAdd, Nat.reduceLT, Nat.reduceLeDiff, Nat.le_refl, not_true_eq_false, not_false_eq_true, r_eq, r_ne, r_lt, r_ge, r_gt, r_le, bz_ne, nn_toNat, cn_of, cn_0, cn_1, i10, Int.reduceLE, Int.reduceLT, Int.reduceEq, bz_T, bz_F, ite_self, mulc, st_bud]
end
