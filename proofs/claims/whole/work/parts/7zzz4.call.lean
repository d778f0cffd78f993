section
/-! the reference carries: from first to last -/
theorem cv_all {T : Nat → Option q_T} {nx B b : Nat} {R : Nat → Nat → Option Value} {G0 : Nat → Int → Int} {ib to : Int} (hM : Ly T R (B + 544) (L12 (B + 544))) (it0 : 0 ≤ ib) (it1 : ib < 92) (hF : IFm G0 B) (tk : TOK G0 B 0 ib 0 b) {c : Int → Int} {F1 : Int} {k : Nat} {w : List Int} (cb : ∀ q, 0 ≤ q → q < G0 b 2 → 20 ≤ G0 (b + 1) q ∧ G0 (b + 1) q ≤ 1013) (m : MPD F1 (G0 (tvA B 0 + 5)) (G0 (tvA B 1 + 5)) (G0 (tvA B 0 + 6)) (G0 (tvA B 1 + 6)) (G0 (B + 544 + 93)) (G0 (B + 544 + 94)) (G0 (b + 1)) (G0 b 2)) (hF1 : F1 = G0 (tvA B 1) 1) (n5 : ∀ q : Nat, 1000 ≤ c q → ns0 (c q) (G0 (tvA B 1 + 5))) (ok : okc 0 60 (G0 (b + 1) 0)) (hw : CW (G0 (tvA B 1 + 5)) (G0 (B + 544 + 93)) (G0 (B + 544 + 94)) (G0 (b + 1)) (G0 (b + 2)) k 0 w) (hAt : At c 0 w) (n40 : nb c w.length ≤ 40) :
    ∃ Ga Gc Gf, (∀ K : Option Value → q_M → Prop, fX12_begin [.ref (B + 544), .int (zI 92), .int (zI 1)] (st T nx 0 0 R G0) K = K none (st T nx 0 0 R Ga)) ∧ (∀ K : Option Value → q_M → Prop, fX12_await0 [.ref (B + 544), .int (zI ib), .int (zI 1000), .int (zI (-1)), .int (zI 0), .int (zI 0)] (st T nx 0 0 R (gs Ga (B + 544) 23 0)) K = K none (st T nx 0 0 R Gc)) ∧ (∀ (Kn : List Value → q_M → Prop) (Kr : Option Value → q_M → Prop), wX12_carry_0 [.ref (B + 544), .int (zI ib), .int (zI to)] (st T nx 0 0 R Gc) Kn Kr = Kn [.ref (B + 544), .int (zI ib), .int (zI to)] (st T nx 0 0 R Gf)) ∧ BCh G0 Gf B 92 ∧ Gf (B + 544) 22 = 0 ∧ BS (G0 (tvA B 1 + 5)) c Gf B 92 1 w.length := by
  have kT := tk.2.2.2.1
  obtain ⟨Ga, a1, a2, a3, a4⟩ := c12_beginB (T := T) (nx := nx) (rc := 0) (rs := 0) (R := R) (G := G0) (i := 92) (v := 1) (ns := G0 (tvA B 1 + 5)) (c := c) hM (by omega) (by omega)
  obtain ⟨Gb, e5⟩ : ∃ M, M = gs Ga (B + 544) 23 0 := ⟨_, rfl⟩
  have o5 : ∀ x, ¬ x = B + 544 → Gb x = Ga x := fun x q => by rw [e5, gs_ne q]
  obtain ⟨Gc, b1, b2, b3, b4, b5, b6⟩ := c12_await0 (T := T) (nx := nx) (rc := 0) (rs := 0) (R := R) (G := Gb) (W := 0) (t := ib) (p := 1000) (n := -1) (s := 0) (m := 0) hM (Int.le_refl _) (by omega) (by rw [e5]; exact gs_same _ _ _ _)
  have jb : BCh Ga Gb B 92 := by rw [e5]; exact (pop_ch Ga B 92 0 0).1
  have jc : BCh G0 Gc B 92 := BCh_tr (BCh_of a1) (BCh_tr jb (BCh_stk b1 fun j _ q => b2 j q))
  have bs : BS (G0 (tvA B 1 + 5)) c Gc B 92 1 0 := BS_congr (fun x q1 q2 => b1 x (by omega) (by omega)) (BS_congr (fun x q1 q2 => o5 x (by omega)) a3)
  have pr0 : Pre (G0 (tvA B 1 + 5)) c 0 := ⟨fun q hq => absurd hq (by omega), fun q hq => absurd hq (by omega)⟩
  have l0 : 1000 ≤ G0 (b + 1) 0 := by unfold okc at ok; omega
  have z00 : (0 : Int) < G0 b 2 := by have := kT.1.1; omega
  have r0 : pc (G0 (b + 1)) (G0 (b + 6)) 0 = 1000 := by
    have x1 := (Tr_n kT (p := 0) (Int.le_refl _) z00 l0).1
    have z0 : nb (G0 (b + 1)) (0 : Int).toNat = 0 := rfl
    unfold pc
    rw [if_pos l0, x1, z0]
    rfl
  obtain ⟨Gf, z2, _, z3, z4, z5, z6⟩ := cv_ref (T := T) (nx := nx) (R := R) (to := to) hM it0 it1 hF tk cb m hF1 n5 k 0 60 w 0 Gc 0 (Int.le_refl _) z00 ok hw hAt (Int.le_refl _) (Int.le_refl _) pr0 (by rw [Nat.zero_add]; exact n40) jc (by rw [b3]) bs (fun t ht => by
    have ht : some ((-1 : Int), (0 : Int)) = some t := ht
    injection ht with ht
    subst ht
    rw [r0]
    exact b5)
  rw [Nat.zero_add] at z5
  refine ⟨Ga, Gc, Gf, a4, by rw [← e5]; exact b6, eX12_carry_0.eqn (z6 _ _ (q_outR (fun Kt Kf hk => ?_) ⟨rfl, rfl⟩)), BCh_tr jc z2, by rw [z4, b2 _ (by omega), e5, gs_eq, fu_ne (by omega)]; exact a2, z5⟩
  have g0 : ¬ (0 : Int) < 0 := by omega
  clear m cb n5 hw hAt bs jc z2 z5 z6 kT tk hF
  simp (disch := omega) only [↓wcX12_carry_0.eq_1, ↓k_mk, ↓k_sq, ↓k_sk, ↓k_bk, ↓k_if, ↓k_te, ↓k_cm, ↓k_cz, ↓k_an2, ↓k_or2, ↓k_no, ↓k_ci, ↓k_l0, ↓k_r0, ↓k_se0, ↓k_ic0, ↓k_l1, ↓k_r1, ↓k_se1, ↓k_ic1, ↓k_de1, ↓k_tk1, ↓k_l2, ↓k_r2, ↓k_se2, ↓k_ic2, ↓k_de2, ↓k_tk2, ↓k_l3, ↓k_r3, ↓k_se3, ↓k_ic3, ↓k_de3, ↓k_tk3, ↓k_l4, ↓k_r4, ↓k_se4, ↓k_ic4, ↓k_de4, ↓k_tk4, ↓k_l5, ↓k_r5, ↓k_se5, ↓k_ic5, ↓k_de5, ↓k_tk5, ↓k_l6, ↓k_r6, ↓k_se6, ↓k_ic6, ↓k_de6, ↓k_tk6, ↓k_l7, ↓k_r7, ↓k_se7, ↓k_ic7, ↓k_de7, ↓k_tk7, ↓k_l8, ↓k_r8, ↓k_se8, ↓k_ic8, ↓k_de8, ↓k_tk8, ↓k_l9, ↓k_r9, ↓k_se9, ↓k_ic9, ↓k_de9, ↓k_tk9, ↓k_l10, ↓k_r10, ↓k_se10, ↓k_ic10, ↓k_de10, ↓k_tk10, ↓k_l11, ↓k_r11, ↓k_se11, ↓k_ic11, ↓k_de11, ↓k_tk11, ↓k_l12, ↓k_r12, ↓k_se12, ↓k_ic12, ↓k_de12, ↓k_tk12, ↓k_l13, ↓k_r13, ↓k_se13, ↓k_ic13, ↓k_de13, ↓k_tk13, ↓k_l14, ↓k_r14, ↓k_se14, ↓k_ic14, ↓k_de14, ↓k_tk14, ↓k_l15, ↓k_r15, ↓k_se15, ↓k_ic15, ↓k_de15, ↓k_tk15, ↓k_l16, ↓k_r16, ↓k_se16, ↓k_ic16, ↓k_de16, ↓k_tk16, ↓k_l17, ↓k_r17, ↓k_se17, ↓k_ic17, ↓k_de17, ↓k_tk17, ↓k_l18, ↓k_r18, ↓k_se18, ↓k_ic18, ↓k_de18, ↓k_tk18, ↓k_l19, ↓k_r19, ↓k_se19, ↓k_ic19, ↓k_de19, ↓k_tk19, ↓k_l20, ↓k_r20, ↓k_se20, ↓k_ic20, ↓k_de20, ↓k_tk20, ↓k_l21, ↓k_r21, ↓k_se21, ↓k_ic21, ↓k_de21, ↓k_tk21, ↓k_l22, ↓k_r22, ↓k_se22, ↓k_ic22, ↓k_de22, ↓k_tk22, ↓k_l23, ↓k_r23, ↓k_se23, ↓k_ic23, ↓k_de23, ↓k_tk23, ↓k_l24, ↓k_r24, ↓k_se24, ↓k_ic24, ↓k_de24, ↓k_tk24, ↓k_l25, ↓k_r25, ↓k_se25, ↓k_ic25, ↓k_de25, ↓k_tk25, ↓k_k, ↓k_kn, ↓k_kl, ↓k_kln, ↓k_il, ↓k_2, ↓k_1, ↓k_2c, ↓k_2l, ↓k_ac, ↓k_an, ↓k_cs, ↓k_cv, ↓k_fi, ↓k_fr, ↓k_ai, ↓k_az, ↓k_ar, ↓k_sai, ↓k_saz, ↓k_soa, ↓k_sof, ↓k_spf, ↓k_sx, ↓k_blk, ↓k_sset, ↓k_sdec, ↓k_sri, ↓k_srv, ↓k_srr, ↓k_nop, ↓k_add, ↓k_sub, ↓k_mul, ↓k_min, ↓k_max, ↓k_shr, ↓k_shl, ↓k_or, ↓k_ilz, ↓k_addl, ↓k_rt, ↓k_rb, ↓k_rbz, ↓k_rsi, ↓k_rsr, ↓k_rsv, ↓reduceIte, z3, g0, ↓xi12_23 hM, ↓xp12_23 hM, ↓xb12_23 hM, ↓xf12_23 hM, ↓xg12_23 hM, ↓xh12_23 hM, List.length_cons, List.length_nil, List.forall_mem_cons, List.not_mem_nil, Value.category, true_and, and_true, false_and, and_false, or_true, true_or, or_false, false_or, Nat.zero_le, forall_const, implies_true, false_implies, Nat.zero_add, Nat.reduceAdd, Nat.reduceLT, Nat.reduceLeDiff, Nat.le_refl, not_true_eq_false, not_false_eq_true, r_eq, r_ne, r_lt, r_ge, r_gt, r_le, bz_ne, nn_toNat, cn_of, cn_0, cn_1, i10, Int.reduceLE, Int.reduceLT, Int.reduceEq, bz_T, bz_F, ite_self, mulc, st_bud]
  exact hk
end
