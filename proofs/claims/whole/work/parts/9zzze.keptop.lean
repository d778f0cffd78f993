section
/-! call 52: kept -/
theorem op_52 (x1 : Int32) : OpOK fX11_kept fX12_kept [.int x1] := by
  obtain ⟨v1, rfl, a1, b1⟩ := zI_ex x1
  intro T nx B R G hI
  have hI0 := hI
  obtain ⟨⟨j1, j2, j3, j4, hL, hM⟩, iLn, iFm, iTx, iWo, iLa, iSh, iMp, iRe⟩ := hI0
  by_cases hv : (0 ≤ v1 ∧ v1 ≤ 5) ∧ G (B + 60) v1 = 1
  · obtain ⟨v, hvv, kv, ta, tb, tN, tt, _, zN, ca, cb, la, lb, tie⟩ := turn_ok iFm iRe hv
    have oT := o11_17 hL
    have o8 : Ly T R (tvA B v) (L8 (tvA B v)) := o11_0 hL (i := v.toNat) (by omega)
    have oS : ∀ k : Nat, k < 12 → Ly T R (B + 250 + 10 * k) (L9 (B + 250 + 10 * k)) := fun k hk => by
      have := o10_5 oT (i := k) hk
      rw [show B + 59 + 191 + 10 * k = B + 250 + 10 * k by omega] at this
      exact this
    have oB : Ly T R (B + 150) (L9 (B + 150)) := by
      have := o10_16 oT
      rw [show B + 59 + 91 = B + 150 by omega] at this
      exact this
    have oN : Ly T R (B + 160) (L9 (B + 160)) := by
      have := o10_17 oT
      rw [show B + 59 + 101 = B + 160 by omega] at this
      exact this
    have o9 : Ly T R (B + 250 + 20 * v1.toNat) (L9 (B + 250 + 20 * v1.toNat)) := by
      have := oS (2 * v1.toNat) (by omega)
      rw [show B + 250 + 10 * (2 * v1.toNat) = (B + 250 + 20 * v1.toNat) by omega] at this
      exact this
    obtain ⟨a1, a2, a3, a4⟩ := TOK_word iFm ta (Or.inl ⟨by omega, Tr_root ta.2.2.2.1 tN⟩)
    obtain ⟨z1, z2, z3, z4⟩ := TOK_word iFm tb (by
      by_cases n0 : G (B + 260 + 20 * v1.toNat) 3 = 0
      · have := zN n0
        exact Or.inr (Or.inr (Or.inr ⟨rfl, this.2.1, this.2.2⟩))
      · have nz := tb.2.2.2.1.1.2.2.1
        exact Or.inl ⟨by omega, Tr_root tb.2.2.2.1 (by omega)⟩)
    obtain ⟨w0, hw0⟩ : ∃ w, w = sgL (G ((B + 250 + 20 * v1.toNat) + 1)) 0 (G (B + 250 + 20 * v1.toNat) 2).toNat := ⟨_, rfl⟩
    obtain ⟨goal, hgo⟩ : ∃ w, w = sgL (G ((B + 260 + 20 * v1.toNat) + 1)) 0 (G (B + 260 + 20 * v1.toNat) 2).toNat := ⟨_, rfl⟩
    rw [← hw0] at a1 a2 a3 a4
    rw [← hgo] at z1 z2 z3 z4
    obtain ⟨Gc, ans, kc, hans, cls⟩ := c10_seek (T := T) (nx := nx) (R := R) (G0 := G) (v := v) (tu := v1) oT oN oB oS o8 iFm iRe kv hv.1 z1 tb.1 z2 z3 a1 a2 a3
    obtain ⟨R', r1, r2⟩ := low_sw T nx 0 0 B R Gc
    obtain ⟨Gf, ans', kr, hans', rf⟩ := c12_kept (T := T) (nx := nx) (R := R') (G0 := G) (v := v) (tu := v1) (goal := goal) (w0 := w0) (low_M r1 hM) iFm iRe kv hv.1 tt ⟨z1, z4⟩ hv ⟨a1, a4⟩
    have ea : ans' = ans := by
      rcases hans with ⟨h1, h2⟩ | ⟨h1, h2⟩
      · rcases hans' with ⟨h3, h4⟩ | ⟨h3, h4⟩
        · rw [h2, h4]
        · exact absurd h1 h3
      · rcases hans' with ⟨h3, h4⟩ | ⟨h3, h4⟩
        · exact absurd h3 h1
        · rw [h2, h4]
    have hG : (fun x => if x < B + 544 then Gc x else G x) = Gc := by
      funext x
      by_cases h : x < B + 544
      · exact if_pos h
      · show (if x < B + 544 then Gc x else G x) = Gc x
        rw [if_neg h]
        exact (kc.1 x (by omega) (by omega) (by omega)).symm
    obtain ⟨Gz, eGz⟩ : ∃ M : Nat → Int → Int, M = fun x => if x < B + 544 then Gc x else Gf x := ⟨_, rfl⟩
    have zl : ∀ x, x < B + 544 → Gz x = Gc x := fun x q => by rw [eGz]; exact if_pos q
    have zh : ∀ x, B + 544 ≤ x → Gz x = Gf x := fun x q => by rw [eGz]; exact if_neg (by omega)
    have off : ∀ x, ¬ x = B + 59 → ¬ x = B + 66 → ¬ (B + 88 ≤ x ∧ x ≤ B + 169) → ¬ (B + 560 ≤ x ∧ x ≤ B + 582) → ¬ x = (B + 544 + 90) → ¬ x = (B + 544 + 91) → ¬ x = (B + 544 + 28) → ¬ x = (B + 544 + 29) → ¬ x = (B + 544 + 92) → ¬ x = B + 544 → Gz x = G x := fun x a b c d e f g h i j => by
      by_cases q : x < B + 544
      · rw [zl x q, kc.1 x a b c]
      · rw [zh x (by omega), kr.1 x d e f g h i j]
    have z59 : ∀ j, ¬ j = 15 → Gz (B + 59) j = G (B + 59) j := fun j q => by rw [zl _ (by omega), kc.2 j q]
    have jz : ∀ j, ¬ j = 22 → ¬ j = 23 → ¬ (31 ≤ j ∧ j ≤ 35) → ¬ j = 39 → ¬ j = 114 → Gz (B + 544) j = G (B + 544) j := fun j a b c d e => by rw [zh _ (by omega), kr.2.1 j a b c d e]
    have rowz : ∀ i, RowE G Gf B i → RowE G Gz B i := fun i r => RowE_trans r (RowE_of fun x q1 q2 => zh x (by omega))
    have inv : IRe Gz B → Inv T R Gz B := fun re => Inv_off hI (Or.inl fun x q => off x (by omega) (by omega) (by omega) (by omega) (by omega) (by omega) (by omega) (by omega) (by omega) (by omega)) (Or.inl fun x q => off x (by omega) (by omega) (by omega) (by omega) (by omega) (by omega) (by omega) (by omega) (by omega) (by omega)) (Or.inl fun x q => off x (by omega) (by omega) (by omega) (by omega) (by omega) (by omega) (by omega) (by omega) (by omega) (by omega)) (Or.inl fun x q => off x (by omega) (by omega) (by omega) (by omega) (by omega) (by omega) (by omega) (by omega) (by omega) (by omega)) (Or.inl ⟨by rw [off B (by omega) (by omega) (by omega) (by omega) (by omega) (by omega) (by omega) (by omega) (by omega) (by omega)], jz 93 (by omega) (by omega) (by omega) (by omega) (by omega)⟩) (Or.inl fun x q => off x (by omega) (by omega) (by omega) (by omega) (by omega) (by omega) (by omega) (by omega) (by omega) (by omega)) (Or.inl fun x q => off x (by omega) (by omega) (by omega) (by omega) (by omega) (by omega) (by omega) (by omega) (by omega) (by omega)) (Or.inr re)
    have re : IRe Gz B := IRe_t0 iRe iFm (fun x q => by rw [zl x (by omega), kc.1 x (by omega) (by omega) (by omega)]) (z59 0 (by omega)) (z59 1 (by omega)) (fun i q1 q2 => rowz i (kr.2.2 i q1 q2).1) (fun i m q1 q2 q3 q4 => by rw [zh _ (by omega)]; exact (kr.2.2 i q1 (by omega)).2 m q3 q4) (off _ (by omega) (by omega) (by omega) (by omega) (by omega) (by omega) (by omega) (by omega) (by omega) (by omega)) (off _ (by omega) (by omega) (by omega) (by omega) (by omega) (by omega) (by omega) (by omega) (by omega) (by omega)) (jz 103 (by omega) (by omega) (by omega) (by omega) (by omega))
    have hI2 := inv re
    have loC : ∀ x, x < B → Gc x = G x := fun x q => kc.1 x (by omega) (by omega) (by omega)
    have loZ : ∀ x, x < B → Gz x = G x := fun x q => by rw [zl x (by omega), loC x q]
    have cls' : ∀ K : Option Value → q_M → Prop, fX10_seek [.ref (B + 59), .ref (B + 370 + 14 * v.toNat), .int (zI v1)] (st T nx 0 0 R G) K = K (some (.int (zI ans))) (st T nx 0 0 R Gc) := fun K => cls K
    have cR' : ∀ K : Option Value → q_M → Prop, fX12_kept [.ref (B + 544), .int (zI v1)] (st T nx 0 0 R Gc) K = K (some (.int (zI ans))) (st T nx 0 0 R Gz) := fun K => by
      have := rf K
      rw [r2 G, r2 Gf, hG, ← eGz, ea] at this
      exact this
    have cS0 := fun K : Option Value → q_M → Prop => c10_side (T := T) (nx := nx) (rc := 0) (rs := 0) (R := R) (G := G) (k := v1) (w := 0) (K := K) oT hv.1.1 hv.1.2 (by omega) (by omega)
    simp only [show B + 59 + 191 + 10 * (v1 * 2 + 0).toNat = (B + 250 + 20 * v1.toNat) by omega] at cS0
    have vb : 0 ≤ G (B + 250 + 20 * v1.toNat) 1 ∧ G (B + 250 + 20 * v1.toNat) 1 ≤ 1 := by rw [hvv]; exact kv
    refine op_gen fun K hK => ?_
    clear inv off rowz zl zh re hans hans' ea rf cls a1 a2 a3 a4 z1 z2 z3 z4 hw0 hgo ca cb la lb tie ta tb kc kr z59 jz oB oN o8 oS zN
    simp (disch := omega) only [↓fX11_kept.eq_1, ↓sX11_kept_.eq_1, ↓(k_cv1 dX11_isTurn (t11 hL)), ↓k_mk, ↓k_sq, ↓k_sk, ↓k_bk, ↓k_if, ↓k_te, ↓k_cm, ↓k_cz, ↓k_an2, ↓k_or2, ↓k_no, ↓k_ci, ↓k_l0, ↓k_r0, ↓k_se0, ↓k_ic0, ↓k_l1, ↓k_r1, ↓k_se1, ↓k_ic1, ↓k_de1, ↓k_tk1, ↓k_l2, ↓k_r2, ↓k_se2, ↓k_ic2, ↓k_de2, ↓k_tk2, ↓k_l3, ↓k_r3, ↓k_se3, ↓k_ic3, ↓k_de3, ↓k_tk3, ↓k_l4, ↓k_r4, ↓k_se4, ↓k_ic4, ↓k_de4, ↓k_tk4, ↓k_l5, ↓k_r5, ↓k_se5, ↓k_ic5, ↓k_de5, ↓k_tk5, ↓k_l6, ↓k_r6, ↓k_se6, ↓k_ic6, ↓k_de6, ↓k_tk6, ↓k_l7, ↓k_r7, ↓k_se7, ↓k_ic7, ↓k_de7, ↓k_tk7, ↓k_l8, ↓k_r8, ↓k_se8, ↓k_ic8, ↓k_de8, ↓k_tk8, ↓k_l9, ↓k_r9, ↓k_se9, ↓k_ic9, ↓k_de9, ↓k_tk9, ↓k_l10, ↓k_r10, ↓k_se10, ↓k_ic10, ↓k_de10, ↓k_tk10, ↓k_l11, ↓k_r11, ↓k_se11, ↓k_ic11, ↓k_de11, ↓k_tk11, ↓k_l12, ↓k_r12, ↓k_se12, ↓k_ic12, ↓k_de12, ↓k_tk12, ↓k_l13, ↓k_r13, ↓k_se13, ↓k_ic13, ↓k_de13, ↓k_tk13, ↓k_l14, ↓k_r14, ↓k_se14, ↓k_ic14, ↓k_de14, ↓k_tk14, ↓k_l15, ↓k_r15, ↓k_se15, ↓k_ic15, ↓k_de15, ↓k_tk15, ↓k_l16, ↓k_r16, ↓k_se16, ↓k_ic16, ↓k_de16, ↓k_tk16, ↓k_l17, ↓k_r17, ↓k_se17, ↓k_ic17, ↓k_de17, ↓k_tk17, ↓k_l18, ↓k_r18, ↓k_se18, ↓k_ic18, ↓k_de18, ↓k_tk18, ↓k_l19, ↓k_r19, ↓k_se19, ↓k_ic19, ↓k_de19, ↓k_tk19, ↓k_l20, ↓k_r20, ↓k_se20, ↓k_ic20, ↓k_de20, ↓k_tk20, ↓k_l21, ↓k_r21, ↓k_se21, ↓k_ic21, ↓k_de21, ↓k_tk21, ↓k_l22, ↓k_r22, ↓k_se22, ↓k_ic22, ↓k_de22, ↓k_tk22, ↓k_l23, ↓k_r23, ↓k_se23, ↓k_ic23, ↓k_de23, ↓k_tk23, ↓k_l24, ↓k_r24, ↓k_se24, ↓k_ic24, ↓k_de24, ↓k_tk24, ↓k_l25, ↓k_r25, ↓k_se25, ↓k_ic25, ↓k_de25, ↓k_tk25, ↓k_k, ↓k_kn, ↓k_kl, ↓k_kln, ↓k_il, ↓k_2, ↓k_1, ↓k_2c, ↓k_2l, ↓k_ac, ↓k_an, ↓k_cs, ↓k_cv, ↓k_fi, ↓k_fr, ↓k_ai, ↓k_az, ↓k_ar, ↓k_sai, ↓k_saz, ↓k_soa, ↓k_sof, ↓k_spf, ↓k_sx, ↓k_blk, ↓k_sset, ↓k_sdec, ↓k_sri, ↓k_srv, ↓k_srr, ↓k_nop, ↓k_add, ↓k_sub, ↓k_mul, ↓k_min, ↓k_max, ↓k_shr, ↓k_shl, ↓k_or, ↓k_ilz, ↓k_addl, ↓k_rt, ↓k_rb, ↓k_rbz, ↓k_rsi, ↓k_rsr, ↓k_rsv, ↓reduceIte, t11 hL, ↓(c11_isTurn hL iRe.2.2), hv, ↓(k_cv2 dX10_side (t10 oT)), ↓cS0, hvv, ↓(k_cv2 dX10_seek (t10 oT)), ↓cls', ↓xr11_0 hL, ↓xu11_0 hL, ↓xr11_17 hL, ↓xi9_1 o9, ↓xp9_1 o9, ↓xb9_1 o9, ↓xf9_1 o9, ↓xg9_1 o9, ↓xh9_1 o9, List.length_cons, List.length_nil, List.forall_mem_cons, List.not_mem_nil, Value.category, true_and, and_true, false_and, and_false, or_true, true_or, or_false, false_or, Nat.zero_le, forall_const, implies_true, false_implies, Nat.zero_add, Nat.reduceAdd, Nat.reduceLT, Nat.reduceLeDiff, Nat.le_refl, not_true_eq_false, not_false_eq_true, r_eq, r_ne, r_lt, r_ge, r_gt, r_le, bz_ne, nn_toNat, cn_of, cn_0, cn_1, i10, Int.reduceLE, Int.reduceLT, Int.reduceEq, bz_T, bz_F, ite_self, mulc, st_bud]
    refine hK _ _ ⟨mid_mk (fun x q => ⟨rfl, loC x q⟩), op_gen fun K hK => ?_⟩
    rw [st_bud, cR']
    exact hK _ _ (fin_mk rfl (fun x q => ⟨rfl, loZ x q⟩) hI2)
  · refine op_gen fun K hK => ?_
    simp (disch := omega) only [↓fX11_kept.eq_1, ↓sX11_kept_.eq_1, ↓(k_cv1 dX11_isTurn (t11 hL)), ↓k_mk, ↓k_sq, ↓k_sk, ↓k_bk, ↓k_if, ↓k_te, ↓k_cm, ↓k_cz, ↓k_an2, ↓k_or2, ↓k_no, ↓k_ci, ↓k_l0, ↓k_r0, ↓k_se0, ↓k_ic0, ↓k_l1, ↓k_r1, ↓k_se1, ↓k_ic1, ↓k_de1, ↓k_tk1, ↓k_l2, ↓k_r2, ↓k_se2, ↓k_ic2, ↓k_de2, ↓k_tk2, ↓k_l3, ↓k_r3, ↓k_se3, ↓k_ic3, ↓k_de3, ↓k_tk3, ↓k_l4, ↓k_r4, ↓k_se4, ↓k_ic4, ↓k_de4, ↓k_tk4, ↓k_l5, ↓k_r5, ↓k_se5, ↓k_ic5, ↓k_de5, ↓k_tk5, ↓k_l6, ↓k_r6, ↓k_se6, ↓k_ic6, ↓k_de6, ↓k_tk6, ↓k_l7, ↓k_r7, ↓k_se7, ↓k_ic7, ↓k_de7, ↓k_tk7, ↓k_l8, ↓k_r8, ↓k_se8, ↓k_ic8, ↓k_de8, ↓k_tk8, ↓k_l9, ↓k_r9, ↓k_se9, ↓k_ic9, ↓k_de9, ↓k_tk9, ↓k_l10, ↓k_r10, ↓k_se10, ↓k_ic10, ↓k_de10, ↓k_tk10, ↓k_l11, ↓k_r11, ↓k_se11, ↓k_ic11, ↓k_de11, ↓k_tk11, ↓k_l12, ↓k_r12, ↓k_se12, ↓k_ic12, ↓k_de12, ↓k_tk12, ↓k_l13, ↓k_r13, ↓k_se13, ↓k_ic13, ↓k_de13, ↓k_tk13, ↓k_l14, ↓k_r14, ↓k_se14, ↓k_ic14, ↓k_de14, ↓k_tk14, ↓k_l15, ↓k_r15, ↓k_se15, ↓k_ic15, ↓k_de15, ↓k_tk15, ↓k_l16, ↓k_r16, ↓k_se16, ↓k_ic16, ↓k_de16, ↓k_tk16, ↓k_l17, ↓k_r17, ↓k_se17, ↓k_ic17, ↓k_de17, ↓k_tk17, ↓k_l18, ↓k_r18, ↓k_se18, ↓k_ic18, ↓k_de18, ↓k_tk18, ↓k_l19, ↓k_r19, ↓k_se19, ↓k_ic19, ↓k_de19, ↓k_tk19, ↓k_l20, ↓k_r20, ↓k_se20, ↓k_ic20, ↓k_de20, ↓k_tk20, ↓k_l21, ↓k_r21, ↓k_se21, ↓k_ic21, ↓k_de21, ↓k_tk21, ↓k_l22, ↓k_r22, ↓k_se22, ↓k_ic22, ↓k_de22, ↓k_tk22, ↓k_l23, ↓k_r23, ↓k_se23, ↓k_ic23, ↓k_de23, ↓k_tk23, ↓k_l24, ↓k_r24, ↓k_se24, ↓k_ic24, ↓k_de24, ↓k_tk24, ↓k_l25, ↓k_r25, ↓k_se25, ↓k_ic25, ↓k_de25, ↓k_tk25, ↓k_k, ↓k_kn, ↓k_kl, ↓k_kln, ↓k_il, ↓k_2, ↓k_1, ↓k_2c, ↓k_2l, ↓k_ac, ↓k_an, ↓k_cs, ↓k_cv, ↓k_fi, ↓k_fr, ↓k_ai, ↓k_az, ↓k_ar, ↓k_sai, ↓k_saz, ↓k_soa, ↓k_sof, ↓k_spf, ↓k_sx, ↓k_blk, ↓k_sset, ↓k_sdec, ↓k_sri, ↓k_srv, ↓k_srr, ↓k_nop, ↓k_add, ↓k_sub, ↓k_mul, ↓k_min, ↓k_max, ↓k_shr, ↓k_shl, ↓k_or, ↓k_ilz, ↓k_addl, ↓k_rt, ↓k_rb, ↓k_rbz, ↓k_rsi, ↓k_rsr, ↓k_rsv, ↓reduceIte, t11 hL, t12 hM, ↓(c11_isTurn hL iRe.2.2), ↓(c12_isTurn hM iRe.2.2), hv, List.length_cons, List.length_nil, List.forall_mem_cons, List.not_mem_nil, Value.category, true_and, and_true, false_and, and_false, or_true, true_or, or_false, false_or, Nat.zero_le, forall_const, implies_true, false_implies, Nat.zero_add, Nat.reduceAdd, Nat.reduceLT, Nat.reduceLeDiff, Nat.le_refl, not_true_eq_false, not_false_eq_true, r_eq, r_ne, r_lt, r_ge, r_gt, r_le, bz_ne, nn_toNat, cn_of, cn_0, cn_1, i10, Int.reduceLE, Int.reduceLT, Int.reduceEq, bz_T, bz_F, ite_self, mulc, st_bud]
    refine hK _ _ ⟨mid_mk (lo_refl _ _ _), op_gen fun K hK => ?_⟩
    rw [st_bud]
    simp (disch := first | omega | (simp (disch := omega) only [gs_ne, flG_ne, wr_ne, cpG_ne])) only [↓fX12_kept.eq_1, ↓uX12_kept, ↓(k_cv1 dX12_isTurn (t12 hM)), ↓(k_cv1 dX12_rootPiece (t12 hM)), ↓(k_cv2 dX12_copyTree (t12 hM)), ↓(k_cv4 dX12_areLike (t12 hM)), ↓k_mk, ↓k_sq, ↓k_sk, ↓k_bk, ↓k_if, ↓k_te, ↓k_cm, ↓k_cz, ↓k_an2, ↓k_or2, ↓k_no, ↓k_ci, ↓k_l0, ↓k_r0, ↓k_se0, ↓k_ic0, ↓k_l1, ↓k_r1, ↓k_se1, ↓k_ic1, ↓k_de1, ↓k_tk1, ↓k_l2, ↓k_r2, ↓k_se2, ↓k_ic2, ↓k_de2, ↓k_tk2, ↓k_l3, ↓k_r3, ↓k_se3, ↓k_ic3, ↓k_de3, ↓k_tk3, ↓k_l4, ↓k_r4, ↓k_se4, ↓k_ic4, ↓k_de4, ↓k_tk4, ↓k_l5, ↓k_r5, ↓k_se5, ↓k_ic5, ↓k_de5, ↓k_tk5, ↓k_l6, ↓k_r6, ↓k_se6, ↓k_ic6, ↓k_de6, ↓k_tk6, ↓k_l7, ↓k_r7, ↓k_se7, ↓k_ic7, ↓k_de7, ↓k_tk7, ↓k_l8, ↓k_r8, ↓k_se8, ↓k_ic8, ↓k_de8, ↓k_tk8, ↓k_l9, ↓k_r9, ↓k_se9, ↓k_ic9, ↓k_de9, ↓k_tk9, ↓k_l10, ↓k_r10, ↓k_se10, ↓k_ic10, ↓k_de10, ↓k_tk10, ↓k_l11, ↓k_r11, ↓k_se11, ↓k_ic11, ↓k_de11, ↓k_tk11, ↓k_l12, ↓k_r12, ↓k_se12, ↓k_ic12, ↓k_de12, ↓k_tk12, ↓k_l13, ↓k_r13, ↓k_se13, ↓k_ic13, ↓k_de13, ↓k_tk13, ↓k_l14, ↓k_r14, ↓k_se14, ↓k_ic14, ↓k_de14, ↓k_tk14, ↓k_l15, ↓k_r15, ↓k_se15, ↓k_ic15, ↓k_de15, ↓k_tk15, ↓k_l16, ↓k_r16, ↓k_se16, ↓k_ic16, ↓k_de16, ↓k_tk16, ↓k_l17, ↓k_r17, ↓k_se17, ↓k_ic17, ↓k_de17, ↓k_tk17, ↓k_l18, ↓k_r18, ↓k_se18, ↓k_ic18, ↓k_de18, ↓k_tk18, ↓k_l19, ↓k_r19, ↓k_se19, ↓k_ic19, ↓k_de19, ↓k_tk19, ↓k_l20, ↓k_r20, ↓k_se20, ↓k_ic20, ↓k_de20, ↓k_tk20, ↓k_l21, ↓k_r21, ↓k_se21, ↓k_ic21, ↓k_de21, ↓k_tk21, ↓k_l22, ↓k_r22, ↓k_se22, ↓k_ic22, ↓k_de22, ↓k_tk22, ↓k_l23, ↓k_r23, ↓k_se23, ↓k_ic23, ↓k_de23, ↓k_tk23, ↓k_l24, ↓k_r24, ↓k_se24, ↓k_ic24, ↓k_de24, ↓k_tk24, ↓k_l25, ↓k_r25, ↓k_se25, ↓k_ic25, ↓k_de25, ↓k_tk25, ↓k_k, ↓k_kn, ↓k_kl, ↓k_kln, ↓k_il, ↓k_2, ↓k_1, ↓k_2c, ↓k_2l, ↓k_ac, ↓k_an, ↓k_cs, ↓k_cv, ↓k_fi, ↓k_fr, ↓k_ai, ↓k_az, ↓k_ar, ↓k_sai, ↓k_saz, ↓k_soa, ↓k_sof, ↓k_spf, ↓k_sx, ↓k_blk, ↓k_sset, ↓k_sdec, ↓k_sri, ↓k_srv, ↓k_srr, ↓k_nop, ↓k_add, ↓k_sub, ↓k_mul, ↓k_min, ↓k_max, ↓k_shr, ↓k_shl, ↓k_or, ↓k_ilz, ↓k_addl, ↓k_rt, ↓k_rb, ↓k_rbz, ↓k_rsi, ↓k_rsr, ↓k_rsv, ↓reduceIte, t11 hL, t12 hM, ↓(c11_isTurn hL iRe.2.2), ↓(c12_isTurn hM iRe.2.2), hv, List.length_cons, List.length_nil, List.forall_mem_cons, List.not_mem_nil, Value.category, true_and, and_true, false_and, and_false, or_true, true_or, or_false, false_or, Nat.zero_le, forall_const, implies_true, false_implies, Nat.zero_add, Nat.reduceAdd, Nat.reduceLT, Nat.reduceLeDiff, Nat.le_refl, not_true_eq_false, not_false_eq_true, r_eq, r_ne, r_lt, r_ge, r_gt, r_le, bz_ne, nn_toNat, cn_of, cn_0, cn_1, i10, Int.reduceLE, Int.reduceLT, Int.reduceEq, bz_T, bz_F, ite_self, mulc, st_bud]
    exact hK _ _ (fin_mk rfl (lo_refl _ _ _) hI)
end
