section
/-! kept: the reference's set of holes -/
theorem c12_holesIn {T : Nat → Option q_T} {nx B a : Nat} {R : Nat → Nat → Option Value} {G : Nat → Int → Int} {i v : Int} (hM : Ly T R (B + 544) (L12 (B + 544))) (i0 : 0 ≤ i) (i1 : i < 100) (hF : IFm G B) (tk : TOK G B 1 i v a) (rt : 1000 ≤ G (a + 1) 0 ∨ isLf (G (a + 1) 0)) :
    ∃ (G' : Nat → Int → Int) (S : Nat), CH G G' B 0 0 0 ∧ S < 65536 ∧ (∀ h : Nat, S.testBit h = true ↔ h < 16 ∧ ∃ q, 0 ≤ q ∧ q < G a 2 ∧ G (a + 1) q = 200 + h) ∧ ∀ K : Option Value → q_M → Prop, fX12_holesIn [.ref (B + 544), .int (zI i)] (st T nx 0 0 R G) K = K (some (.int (zI (S : Nat)))) (st T nx 0 0 R G') := by
  obtain ⟨G1, w1, w2, w3, w4, _, w5⟩ := c12_walk (T := T) (nx := nx) (rc := 0) (rs := 0) (R := R) (G := G) hM i0 i1 hF tk
  have kT := tk.2.2.2.1
  have b1 := kT.1.1
  have b2 := kT.1.2.1
  have e0 := kT.1.2.2.2.2.2.2.1
  obtain ⟨h1, h2⟩ := spl_ho hF tk 202 0 (Int.le_refl _) (by omega) (by omega) rt (-1) 0
  rw [e0] at h1 h2
  obtain ⟨sp, hsp⟩ : ∃ sp, sp = spl (G (tvA B v + 3)) (G (tvA B v + 4)) (G (tvA B v + 7)) (G (a + 1)) (G (a + 2)) (G (a + 6)) 202 0 (-1) 0 := ⟨_, rfl⟩
  rw [← hsp] at w2 w3 w4 h1 h2
  obtain ⟨A, hA⟩ : ∃ A, A = G1 (B + 544 + 30) := ⟨_, rfl⟩
  have ev : ∀ k : Nat, k < sp.length → ∃ ev, ev ∈ sp ∧ A k = ev.1 := fun k hk => by
    have := (w2 k _ (List.getElem?_eq_getElem hk)).1
    rw [Int.zero_add, ← hA] at this
    exact ⟨_, List.getElem_mem hk, this⟩
  have cb : ∀ k : Nat, k < sp.length → 0 ≤ A k ∧ A k ≤ 215 := fun k hk => by
    obtain ⟨e, e1, e2⟩ := ev k hk
    rw [e2]
    exact ⟨(h1 e e1).1, (h1 e e1).2.1⟩
  have k35 : G1 (B + 544) 35 = (sp.length : Int) := w3
  refine ⟨G1, hsN A sp.length, w1, hsN_b _ _, fun h => ?_, fun K => ?_⟩
  · rw [hsN_t]
    constructor
    · intro ⟨a1, q, q1, q2⟩
      obtain ⟨e, e1, e2⟩ := ev q q1
      obtain ⟨q', x1, x2, x3⟩ := (h1 e e1).2.2 (by omega)
      exact ⟨a1, q', x1, x2, by rw [x3, ← e2, q2]⟩
    · intro ⟨a1, q, q1, q2, q3⟩
      obtain ⟨e, e1, e2⟩ := h2 q q1 q2 (by rw [q3]; unfold isHo; omega)
      obtain ⟨k, k1, k2⟩ := List.getElem_of_mem e1
      refine ⟨a1, k, k1, ?_⟩
      have := (w2 k _ (List.getElem?_eq_getElem k1)).1
      rw [Int.zero_add, ← hA, k2, e2, q3] at this
      exact this
  · have lw : ∀ (Kn : List Value → q_M → Prop) (Kr : Option Value → q_M → Prop), wX12_holesIn_0 [.ref (B + 544), .int (zI i), .int (zI 0), .int (zI 0)] (st T nx 0 0 R G1) Kn Kr = Kn [.ref (B + 544), .int (zI i), .int (zI (hsN A sp.length : Nat)), .int (zI sp.length)] (st T nx 0 0 R G1) := q_for eX12_holesIn_0 (fun _ _ => lX12_holesIn_0) (fun k => [.ref (B + 544), .int (zI i), .int (zI (hsN A k : Nat)), .int (zI k)]) (fun _ => st T nx 0 0 R G1) sp.length (fun k hk Kn Kf hh => by
      have b := cb k hk
      have hk2 : (k : Int) < sp.length := by omega
      have k201 : (k : Int) < 200 := by omega
      have sb := hsN_b A k
      obtain ⟨S, hS⟩ : ∃ S, S = hsN A k := ⟨_, rfl⟩
      obtain ⟨cc, hcc⟩ : ∃ cc, cc = A k := ⟨_, rfl⟩
      have e : hsN A (k + 1) = S ||| (if 200 ≤ cc ∧ cc < 216 then 2 ^ (cc - 200).toNat else 0) := by rw [hsN, hS, hcc]
      rw [e] at hh
      show wcX12_holesIn_0 [.ref (B + 544), .int (zI i), .int (zI (hsN A k : Nat)), .int (zI k)] (st T nx 0 0 R G1) _ _
      rw [← hS] at sb ⊢
      rw [← hcc] at b
      have hcc' : G1 (B + 544 + 30) k = cc := by rw [← hA, hcc]
      have is : (((k + 1 : Nat)) : Int) = (k : Int) + 1 := by omega
      rw [is] at hh
      obtain ⟨L, hL⟩ : ∃ L, L = (sp.length : Int) := ⟨_, rfl⟩
      rw [← hL] at hk2 k35 w4
      clear e hS hcc cb ev h1 h2 w1 w2 w3 kT tk rt hF hsp hA hL
      by_cases g : 200 ≤ cc
      · rw [if_pos ⟨g, by omega⟩] at hh
        simp (disch := omega) only [↓wcX12_holesIn_0.eq_1, ↓wsX12_holesIn_0.eq_1, ↓k_mk, ↓k_sq, ↓k_sk, ↓k_bk, ↓k_if, ↓k_te, ↓k_cm, ↓k_cz, ↓k_an2, ↓k_or2, ↓k_no, ↓k_ci, ↓k_l0, ↓k_r0, ↓k_se0, ↓k_ic0, ↓k_l1, ↓k_r1, ↓k_se1, ↓k_ic1, ↓k_de1, ↓k_tk1, ↓k_l2, ↓k_r2, ↓k_se2, ↓k_ic2, ↓k_de2, ↓k_tk2, ↓k_l3, ↓k_r3, ↓k_se3, ↓k_ic3, ↓k_de3, ↓k_tk3, ↓k_l4, ↓k_r4, ↓k_se4, ↓k_ic4, ↓k_de4, ↓k_tk4, ↓k_l5, ↓k_r5, ↓k_se5, ↓k_ic5, ↓k_de5, ↓k_tk5, ↓k_l6, ↓k_r6, ↓k_se6, ↓k_ic6, ↓k_de6, ↓k_tk6, ↓k_l7, ↓k_r7, ↓k_se7, ↓k_ic7, ↓k_de7, ↓k_tk7, ↓k_l8, ↓k_r8, ↓k_se8, ↓k_ic8, ↓k_de8, ↓k_tk8, ↓k_l9, ↓k_r9, ↓k_se9, ↓k_ic9, ↓k_de9, ↓k_tk9, ↓k_l10, ↓k_r10, ↓k_se10, ↓k_ic10, ↓k_de10, ↓k_tk10, ↓k_l11, ↓k_r11, ↓k_se11, ↓k_ic11, ↓k_de11, ↓k_tk11, ↓k_l12, ↓k_r12, ↓k_se12, ↓k_ic12, ↓k_de12, ↓k_tk12, ↓k_l13, ↓k_r13, ↓k_se13, ↓k_ic13, ↓k_de13, ↓k_tk13, ↓k_l14, ↓k_r14, ↓k_se14, ↓k_ic14, ↓k_de14, ↓k_tk14, ↓k_l15, ↓k_r15, ↓k_se15, ↓k_ic15, ↓k_de15, ↓k_tk15, ↓k_l16, ↓k_r16, ↓k_se16, ↓k_ic16, ↓k_de16, ↓k_tk16, ↓k_l17, ↓k_r17, ↓k_se17, ↓k_ic17, ↓k_de17, ↓k_tk17, ↓k_l18, ↓k_r18, ↓k_se18, ↓k_ic18, ↓k_de18, ↓k_tk18, ↓k_l19, ↓k_r19, ↓k_se19, ↓k_ic19, ↓k_de19, ↓k_tk19, ↓k_l20, ↓k_r20, ↓k_se20, ↓k_ic20, ↓k_de20, ↓k_tk20, ↓k_l21, ↓k_r21, ↓k_se21, ↓k_ic21, ↓k_de21, ↓k_tk21, ↓k_l22, ↓k_r22, ↓k_se22, ↓k_ic22, ↓k_de22, ↓k_tk22, ↓k_l23, ↓k_r23, ↓k_se23, ↓k_ic23, ↓k_de23, ↓k_tk23, ↓k_l24, ↓k_r24, ↓k_se24, ↓k_ic24, ↓k_de24, ↓k_tk24, ↓k_l25, ↓k_r25, ↓k_se25, ↓k_ic25, ↓k_de25, ↓k_tk25, ↓k_k, ↓k_kn, ↓k_kl, ↓k_kln, ↓k_il, ↓k_2, ↓k_1, ↓k_2c, ↓k_2l, ↓k_ac, ↓k_an, ↓k_cs, ↓k_cv, ↓k_fi, ↓k_fr, ↓k_ai, ↓k_az, ↓k_ar, ↓k_sai, ↓k_saz, ↓k_soa, ↓k_sof, ↓k_spf, ↓k_sx, ↓k_blk, ↓k_sset, ↓k_sdec, ↓k_sri, ↓k_srv, ↓k_srr, ↓k_nop, ↓k_add, ↓k_sub, ↓k_mul, ↓k_min, ↓k_max, ↓k_shr, ↓k_ilz, ↓k_addl, ↓k_rt, ↓k_rb, ↓k_rbz, ↓k_rsi, ↓k_rsr, ↓k_rsv, ↓reduceIte, k35, hk2, hcc', g, ↓k_gshl16, ↓k_gor16, ↓xi12_35 hM, ↓xp12_35 hM, ↓xb12_35 hM, ↓xf12_35 hM, ↓xg12_35 hM, ↓xh12_35 hM, ↓xr12_36 hM, ↓xa12_36 hM, ↓xs12_36 hM, ↓xo12_36 hM, ↓xc12_36 hM, ↓xd12_36 hM, List.length_cons, List.length_nil, List.forall_mem_cons, List.not_mem_nil, Value.category, true_and, and_true, false_and, and_false, or_true, true_or, or_false, false_or, Nat.zero_le, forall_const, implies_true, false_implies, Nat.zero_add, Nat.reduceAdd, Nat.reduceLT, Nat.reduceLeDiff, Nat.le_refl, not_true_eq_false, not_false_eq_true, r_eq, r_ne, r_lt, r_ge, r_gt, r_le, bz_ne, nn_toNat, cn_of, cn_0, cn_1, i10, Int.reduceLE, Int.reduceLT, Int.reduceEq, bz_T, bz_F, ite_self, mulc, st_bud]
        exact hh
      · rw [if_neg (fun z => g z.1), Nat.or_zero] at hh
        simp (disch := omega) only [↓wcX12_holesIn_0.eq_1, ↓wsX12_holesIn_0.eq_1, ↓k_mk, ↓k_sq, ↓k_sk, ↓k_bk, ↓k_if, ↓k_te, ↓k_cm, ↓k_cz, ↓k_an2, ↓k_or2, ↓k_no, ↓k_ci, ↓k_l0, ↓k_r0, ↓k_se0, ↓k_ic0, ↓k_l1, ↓k_r1, ↓k_se1, ↓k_ic1, ↓k_de1, ↓k_tk1, ↓k_l2, ↓k_r2, ↓k_se2, ↓k_ic2, ↓k_de2, ↓k_tk2, ↓k_l3, ↓k_r3, ↓k_se3, ↓k_ic3, ↓k_de3, ↓k_tk3, ↓k_l4, ↓k_r4, ↓k_se4, ↓k_ic4, ↓k_de4, ↓k_tk4, ↓k_l5, ↓k_r5, ↓k_se5, ↓k_ic5, ↓k_de5, ↓k_tk5, ↓k_l6, ↓k_r6, ↓k_se6, ↓k_ic6, ↓k_de6, ↓k_tk6, ↓k_l7, ↓k_r7, ↓k_se7, ↓k_ic7, ↓k_de7, ↓k_tk7, ↓k_l8, ↓k_r8, ↓k_se8, ↓k_ic8, ↓k_de8, ↓k_tk8, ↓k_l9, ↓k_r9, ↓k_se9, ↓k_ic9, ↓k_de9, ↓k_tk9, ↓k_l10, ↓k_r10, ↓k_se10, ↓k_ic10, ↓k_de10, ↓k_tk10, ↓k_l11, ↓k_r11, ↓k_se11, ↓k_ic11, ↓k_de11, ↓k_tk11, ↓k_l12, ↓k_r12, ↓k_se12, ↓k_ic12, ↓k_de12, ↓k_tk12, ↓k_l13, ↓k_r13, ↓k_se13, ↓k_ic13, ↓k_de13, ↓k_tk13, ↓k_l14, ↓k_r14, ↓k_se14, ↓k_ic14, ↓k_de14, ↓k_tk14, ↓k_l15, ↓k_r15, ↓k_se15, ↓k_ic15, ↓k_de15, ↓k_tk15, ↓k_l16, ↓k_r16, ↓k_se16, ↓k_ic16, ↓k_de16, ↓k_tk16, ↓k_l17, ↓k_r17, ↓k_se17, ↓k_ic17, ↓k_de17, ↓k_tk17, ↓k_l18, ↓k_r18, ↓k_se18, ↓k_ic18, ↓k_de18, ↓k_tk18, ↓k_l19, ↓k_r19, ↓k_se19, ↓k_ic19, ↓k_de19, ↓k_tk19, ↓k_l20, ↓k_r20, ↓k_se20, ↓k_ic20, ↓k_de20, ↓k_tk20, ↓k_l21, ↓k_r21, ↓k_se21, ↓k_ic21, ↓k_de21, ↓k_tk21, ↓k_l22, ↓k_r22, ↓k_se22, ↓k_ic22, ↓k_de22, ↓k_tk22, ↓k_l23, ↓k_r23, ↓k_se23, ↓k_ic23, ↓k_de23, ↓k_tk23, ↓k_l24, ↓k_r24, ↓k_se24, ↓k_ic24, ↓k_de24, ↓k_tk24, ↓k_l25, ↓k_r25, ↓k_se25, ↓k_ic25, ↓k_de25, ↓k_tk25, ↓k_k, ↓k_kn, ↓k_kl, ↓k_kln, ↓k_il, ↓k_2, ↓k_1, ↓k_2c, ↓k_2l, ↓k_ac, ↓k_an, ↓k_cs, ↓k_cv, ↓k_fi, ↓k_fr, ↓k_ai, ↓k_az, ↓k_ar, ↓k_sai, ↓k_saz, ↓k_soa, ↓k_sof, ↓k_spf, ↓k_sx, ↓k_blk, ↓k_sset, ↓k_sdec, ↓k_sri, ↓k_srv, ↓k_srr, ↓k_nop, ↓k_add, ↓k_sub, ↓k_mul, ↓k_min, ↓k_max, ↓k_shr, ↓k_ilz, ↓k_addl, ↓k_rt, ↓k_rb, ↓k_rbz, ↓k_rsi, ↓k_rsr, ↓k_rsv, ↓reduceIte, k35, hk2, hcc', g, ↓k_gshl16, ↓k_gor16, ↓k_gor0, ↓xi12_35 hM, ↓xp12_35 hM, ↓xb12_35 hM, ↓xf12_35 hM, ↓xg12_35 hM, ↓xh12_35 hM, ↓xr12_36 hM, ↓xa12_36 hM, ↓xs12_36 hM, ↓xo12_36 hM, ↓xc12_36 hM, ↓xd12_36 hM, List.length_cons, List.length_nil, List.forall_mem_cons, List.not_mem_nil, Value.category, true_and, and_true, false_and, and_false, or_true, true_or, or_false, false_or, Nat.zero_le, forall_const, implies_true, false_implies, Nat.zero_add, Nat.reduceAdd, Nat.reduceLT, Nat.reduceLeDiff, Nat.le_refl, not_true_eq_false, not_false_eq_true, r_eq, r_ne, r_lt, r_ge, r_gt, r_le, bz_ne, nn_toNat, cn_of, cn_0, cn_1, i10, Int.reduceLE, Int.reduceLT, Int.reduceEq, bz_T, bz_F, ite_self, mulc, st_bud]
        exact hh) (fun Kt Kf hh => by
      have hz : ¬ (sp.length : Int) < sp.length := by omega
      have n0 : 0 ≤ (sp.length : Int) ∧ (sp.length : Int) ≤ 201 := by omega
      show wcX12_holesIn_0 [.ref (B + 544), .int (zI i), .int (zI (hsN A sp.length : Nat)), .int (zI sp.length)] (st T nx 0 0 R G1) Kt Kf
      obtain ⟨S, hS⟩ : ∃ S, S = hsN A sp.length := ⟨_, rfl⟩
      obtain ⟨Z, hZ⟩ : ∃ Z, Z = (sp.length : Int) := ⟨_, rfl⟩
      rw [← hZ] at k35 hz n0
      rw [← hS]
      rw [← hZ]
      clear hS hZ cb ev h1 h2 w1 w2 w3 w4 kT tk rt hF hsp hA
      simp (disch := omega) only [↓wcX12_holesIn_0.eq_1, ↓k_mk, ↓k_sq, ↓k_sk, ↓k_bk, ↓k_if, ↓k_te, ↓k_cm, ↓k_cz, ↓k_an2, ↓k_or2, ↓k_no, ↓k_ci, ↓k_l0, ↓k_r0, ↓k_se0, ↓k_ic0, ↓k_l1, ↓k_r1, ↓k_se1, ↓k_ic1, ↓k_de1, ↓k_tk1, ↓k_l2, ↓k_r2, ↓k_se2, ↓k_ic2, ↓k_de2, ↓k_tk2, ↓k_l3, ↓k_r3, ↓k_se3, ↓k_ic3, ↓k_de3, ↓k_tk3, ↓k_l4, ↓k_r4, ↓k_se4, ↓k_ic4, ↓k_de4, ↓k_tk4, ↓k_l5, ↓k_r5, ↓k_se5, ↓k_ic5, ↓k_de5, ↓k_tk5, ↓k_l6, ↓k_r6, ↓k_se6, ↓k_ic6, ↓k_de6, ↓k_tk6, ↓k_l7, ↓k_r7, ↓k_se7, ↓k_ic7, ↓k_de7, ↓k_tk7, ↓k_l8, ↓k_r8, ↓k_se8, ↓k_ic8, ↓k_de8, ↓k_tk8, ↓k_l9, ↓k_r9, ↓k_se9, ↓k_ic9, ↓k_de9, ↓k_tk9, ↓k_l10, ↓k_r10, ↓k_se10, ↓k_ic10, ↓k_de10, ↓k_tk10, ↓k_l11, ↓k_r11, ↓k_se11, ↓k_ic11, ↓k_de11, ↓k_tk11, ↓k_l12, ↓k_r12, ↓k_se12, ↓k_ic12, ↓k_de12, ↓k_tk12, ↓k_l13, ↓k_r13, ↓k_se13, ↓k_ic13, ↓k_de13, ↓k_tk13, ↓k_l14, ↓k_r14, ↓k_se14, ↓k_ic14, ↓k_de14, ↓k_tk14, ↓k_l15, ↓k_r15, ↓k_se15, ↓k_ic15, ↓k_de15, ↓k_tk15, ↓k_l16, ↓k_r16, ↓k_se16, ↓k_ic16, ↓k_de16, ↓k_tk16, ↓k_l17, ↓k_r17, ↓k_se17, ↓k_ic17, ↓k_de17, ↓k_tk17, ↓k_l18, ↓k_r18, ↓k_se18, ↓k_ic18, ↓k_de18, ↓k_tk18, ↓k_l19, ↓k_r19, ↓k_se19, ↓k_ic19, ↓k_de19, ↓k_tk19, ↓k_l20, ↓k_r20, ↓k_se20, ↓k_ic20, ↓k_de20, ↓k_tk20, ↓k_l21, ↓k_r21, ↓k_se21, ↓k_ic21, ↓k_de21, ↓k_tk21, ↓k_l22, ↓k_r22, ↓k_se22, ↓k_ic22, ↓k_de22, ↓k_tk22, ↓k_l23, ↓k_r23, ↓k_se23, ↓k_ic23, ↓k_de23, ↓k_tk23, ↓k_l24, ↓k_r24, ↓k_se24, ↓k_ic24, ↓k_de24, ↓k_tk24, ↓k_l25, ↓k_r25, ↓k_se25, ↓k_ic25, ↓k_de25, ↓k_tk25, ↓k_k, ↓k_kn, ↓k_kl, ↓k_kln, ↓k_il, ↓k_2, ↓k_1, ↓k_2c, ↓k_2l, ↓k_ac, ↓k_an, ↓k_cs, ↓k_cv, ↓k_fi, ↓k_fr, ↓k_ai, ↓k_az, ↓k_ar, ↓k_sai, ↓k_saz, ↓k_soa, ↓k_sof, ↓k_spf, ↓k_sx, ↓k_blk, ↓k_sset, ↓k_sdec, ↓k_sri, ↓k_srv, ↓k_srr, ↓k_nop, ↓k_add, ↓k_sub, ↓k_mul, ↓k_min, ↓k_max, ↓k_shr, ↓k_shl, ↓k_or, ↓k_ilz, ↓k_addl, ↓k_rt, ↓k_rb, ↓k_rbz, ↓k_rsi, ↓k_rsr, ↓k_rsv, ↓reduceIte, k35, hz, ↓xi12_35 hM, ↓xp12_35 hM, ↓xb12_35 hM, ↓xf12_35 hM, ↓xg12_35 hM, ↓xh12_35 hM, List.length_cons, List.length_nil, List.forall_mem_cons, List.not_mem_nil, Value.category, true_and, and_true, false_and, and_false, or_true, true_or, or_false, false_or, Nat.zero_le, forall_const, implies_true, false_implies, Nat.zero_add, Nat.reduceAdd, Nat.reduceLT, Nat.reduceLeDiff, Nat.le_refl, not_true_eq_false, not_false_eq_true, r_eq, r_ne, r_lt, r_ge, r_gt, r_le, bz_ne, nn_toNat, cn_of, cn_0, cn_1, i10, Int.reduceLE, Int.reduceLT, Int.reduceEq, bz_T, bz_F, ite_self, mulc, st_bud]
      exact hh)
    clear cb ev h1 h2 w1 w2 w3 kT tk rt hF
    simp (disch := omega) only [↓fX12_holesIn.eq_1, ↓uX12_holesIn, ↓(k_cv1 dX12_walk (t12 hM)), ↓k_mk, ↓k_sq, ↓k_sk, ↓k_bk, ↓k_if, ↓k_te, ↓k_cm, ↓k_cz, ↓k_an2, ↓k_or2, ↓k_no, ↓k_ci, ↓k_l0, ↓k_r0, ↓k_se0, ↓k_ic0, ↓k_l1, ↓k_r1, ↓k_se1, ↓k_ic1, ↓k_de1, ↓k_tk1, ↓k_l2, ↓k_r2, ↓k_se2, ↓k_ic2, ↓k_de2, ↓k_tk2, ↓k_l3, ↓k_r3, ↓k_se3, ↓k_ic3, ↓k_de3, ↓k_tk3, ↓k_l4, ↓k_r4, ↓k_se4, ↓k_ic4, ↓k_de4, ↓k_tk4, ↓k_l5, ↓k_r5, ↓k_se5, ↓k_ic5, ↓k_de5, ↓k_tk5, ↓k_l6, ↓k_r6, ↓k_se6, ↓k_ic6, ↓k_de6, ↓k_tk6, ↓k_l7, ↓k_r7, ↓k_se7, ↓k_ic7, ↓k_de7, ↓k_tk7, ↓k_l8, ↓k_r8, ↓k_se8, ↓k_ic8, ↓k_de8, ↓k_tk8, ↓k_l9, ↓k_r9, ↓k_se9, ↓k_ic9, ↓k_de9, ↓k_tk9, ↓k_l10, ↓k_r10, ↓k_se10, ↓k_ic10, ↓k_de10, ↓k_tk10, ↓k_l11, ↓k_r11, ↓k_se11, ↓k_ic11, ↓k_de11, ↓k_tk11, ↓k_l12, ↓k_r12, ↓k_se12, ↓k_ic12, ↓k_de12, ↓k_tk12, ↓k_l13, ↓k_r13, ↓k_se13, ↓k_ic13, ↓k_de13, ↓k_tk13, ↓k_l14, ↓k_r14, ↓k_se14, ↓k_ic14, ↓k_de14, ↓k_tk14, ↓k_l15, ↓k_r15, ↓k_se15, ↓k_ic15, ↓k_de15, ↓k_tk15, ↓k_l16, ↓k_r16, ↓k_se16, ↓k_ic16, ↓k_de16, ↓k_tk16, ↓k_l17, ↓k_r17, ↓k_se17, ↓k_ic17, ↓k_de17, ↓k_tk17, ↓k_l18, ↓k_r18, ↓k_se18, ↓k_ic18, ↓k_de18, ↓k_tk18, ↓k_l19, ↓k_r19, ↓k_se19, ↓k_ic19, ↓k_de19, ↓k_tk19, ↓k_l20, ↓k_r20, ↓k_se20, ↓k_ic20, ↓k_de20, ↓k_tk20, ↓k_l21, ↓k_r21, ↓k_se21, ↓k_ic21, ↓k_de21, ↓k_tk21, ↓k_l22, ↓k_r22, ↓k_se22, ↓k_ic22, ↓k_de22, ↓k_tk22, ↓k_l23, ↓k_r23, ↓k_se23, ↓k_ic23, ↓k_de23, ↓k_tk23, ↓k_l24, ↓k_r24, ↓k_se24, ↓k_ic24, ↓k_de24, ↓k_tk24, ↓k_l25, ↓k_r25, ↓k_se25, ↓k_ic25, ↓k_de25, ↓k_tk25, ↓k_k, ↓k_kn, ↓k_kl, ↓k_kln, ↓k_il, ↓k_2, ↓k_1, ↓k_2c, ↓k_2l, ↓k_ac, ↓k_an, ↓k_cs, ↓k_cv, ↓k_fi, ↓k_fr, ↓k_ai, ↓k_az, ↓k_ar, ↓k_sai, ↓k_saz, ↓k_soa, ↓k_sof, ↓k_spf, ↓k_sx, ↓k_blk, ↓k_sset, ↓k_sdec, ↓k_sri, ↓k_srv, ↓k_srr, ↓k_nop, ↓k_add, ↓k_sub, ↓k_mul, ↓k_min, ↓k_max, ↓k_shr, ↓k_shl, ↓k_or, ↓k_ilz, ↓k_addl, ↓k_rt, ↓k_rb, ↓k_rbz, ↓k_rsi, ↓k_rsr, ↓k_rsv, ↓reduceIte, ↓(k_cv1 dX12_walk (t12 hM)), ↓w5, ↓lw, List.length_cons, List.length_nil, List.forall_mem_cons, List.not_mem_nil, Value.category, true_and, and_true, false_and, and_false, or_true, true_or, or_false, false_or, Nat.zero_le, forall_const, implies_true, false_implies, Nat.zero_add, Nat.reduceAdd, Nat.reduceLT, Nat.reduceLeDiff, Nat.le_refl, not_true_eq_false, not_false_eq_true, r_eq, r_ne, r_lt, r_ge, r_gt, r_le, bz_ne, nn_toNat, cn_of, cn_0, cn_1, i10, Int.reduceLE, Int.reduceLT, Int.reduceEq, bz_T, bz_F, ite_self, mulc, st_bud]
theorem gandnot (a m : Nat) (ha : a < 65536) (hm : m < 65536) : q_giand (zI (a : Int)) (q_gixor (zI (m : Int)) (zI (-1))) = zI ((a &&& (a ^^^ (a &&& m)) : Nat) : Int) := by
  have e : q_giand (zI (a : Int)) (q_gixor (zI (m : Int)) (zI (-1))) = (Int32.ofNat a) &&& ((Int32.ofNat m) ^^^ (-1)) := rfl
  rw [e]
  apply Int32.toBitVec_inj.mp
  apply BitVec.eq_of_getLsbD_eq
  intro i hi
  show ((BitVec.ofNat 32 a) &&& ((BitVec.ofNat 32 m) ^^^ (-1#32))).getLsbD i = (BitVec.ofNat 32 (a &&& (a ^^^ (a &&& m)))).getLsbD i
  rw [BitVec.getLsbD_and, BitVec.getLsbD_xor, BitVec.getLsbD_ofNat, BitVec.getLsbD_ofNat, BitVec.getLsbD_ofNat, Nat.testBit_and, Nat.testBit_xor, Nat.testBit_and]
  have n1 : (-1#32).getLsbD i = true := by
    rw [show (-1#32) = BitVec.allOnes 32 from rfl, BitVec.getLsbD_allOnes]
    exact decide_eq_true hi
  rw [n1, decide_eq_true hi]
  cases a.testBit i <;> cases m.testBit i <;> rfl
theorem andnot_0 (a m : Nat) : a &&& (a ^^^ (a &&& m)) = 0 ↔ ∀ h : Nat, a.testBit h = true → m.testBit h = true := by
  constructor
  · intro e h ah
    have := congrArg (fun n => n.testBit h) e
    simp only [Nat.testBit_and, Nat.testBit_xor, Nat.zero_testBit, ah] at this
    cases q : m.testBit h
    · rw [q] at this
      exact absurd this (by decide)
    · rfl
  · intro k
    refine Nat.eq_of_testBit_eq fun h => ?_
    rw [Nat.testBit_and, Nat.testBit_xor, Nat.testBit_and, Nat.zero_testBit]
    have := k h
    cases q : a.testBit h
    · rfl
    · rw [this q]
      rfl
theorem andnot_b (a m : Nat) (ha : a < 65536) : a &&& (a ^^^ (a &&& m)) < 65536 := Nat.lt_of_le_of_lt Nat.and_le_left ha
theorem k_andnot {a m : Nat} {μ : q_M} {K : Int32 → q_M → Prop} (ha : a < 65536) (hm : m < 65536) : opK (q_giand (zI (a : Int)) (q_gixor (zI (m : Int)) (zI (-1)))) μ K = K (zI ((a &&& (a ^^^ (a &&& m)) : Nat) : Int)) μ := by
  rw [gandnot a m ha hm]
  rfl
end
