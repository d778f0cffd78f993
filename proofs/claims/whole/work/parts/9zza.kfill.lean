section
/-! the class adds a side with what its holes stand for -/
/-- a hole -/
theorem y_f_turnH {T : Nat → Option q_T} {nx o z b a : Nat} {R : Nat → Nat → Option Value} {G0 : Nat → Int → Int} {c ns I : Int → Int} {gt gz F : Int} {S : Int → Int → Prop} (oT : Ly T R o (L10 o)) (hA : Ly T R a (L9 a)) (hB : Ly T R b (L9 b)) (hZ : Ly T R z (L9 z)) (hab : b + 10 ≤ a ∨ a + 10 ≤ b) (haz : z + 10 ≤ a ∨ a + 10 ≤ z) (hao : ¬ o + 7 = a ∧ ¬ o + 7 = a + 1) (kT : Tr gt F ns I (G0 b 2) (G0 b 3) (G0 b 4) (G0 (b + 1)) (G0 (b + 2)) (G0 (b + 3)) (G0 (b + 4)) (G0 (b + 6)) (G0 (b + 7)) (G0 (b + 8))) (kZ : Tr gz F ns I (G0 z 2) (G0 z 3) (G0 z 4) (G0 (z + 1)) (G0 (z + 2)) (G0 (z + 3)) (G0 (z + 4)) (G0 (z + 6)) (G0 (z + 7)) (G0 (z + 8))) (n0 : ∀ f, 0 ≤ f → f < F → 0 ≤ ns f) (n5 : ∀ q : Nat, 1000 ≤ c q → ns0 (c q) ns) (bT : ∀ q, 0 ≤ q → q < G0 b 2 → 20 ≤ G0 (b + 1) q ∧ G0 (b + 1) q ≤ 1013) (bZ : ∀ q, 0 ≤ q → q < G0 z 2 → 20 ≤ G0 (z + 1) q ∧ G0 (z + 1) q ≤ 1013) (lf : ∀ y, 0 ≤ y → y < G0 z 2 → ¬ 1000 ≤ G0 (z + 1) y → isLf (G0 (z + 1) y)) (sg : SG (G0 (o + 7)) (G0 b 2) S) (con : Con (G0 (b + 1)) (G0 (b + 2)) S) (kk : ∀ y, 0 < y → y < G0 z 2 → isHo (G0 (z + 1) y) → ∀ x, S (G0 (z + 1) y - 200) x → okc gt (I (5 * (G0 (z + 1) (G0 (z + 3) y) - 1000) + G0 (z + 4) y)) (G0 (b + 1) x)) {y x w : Int} (y0 : 0 ≤ y) (y1 : y < G0 z 2) {G G' : Nat → Int → Int} (fr : CFr G0 G a) (hh : isHo (G0 (z + 1) y)) (hx : G0 (o + 7) (G0 (z + 1) y - 200) = x) (x0 : 0 ≤ x) (x1 : x < G0 b 2) (wb : w = 0 ∨ w = 1) (cA : ∀ K : Option Value → q_M → Prop, fX9_addRange [.ref a, .ref b, .int (zI x), .int (zI (G0 (b + 2) x))] (st T nx 0 0 R G) K = K (some (.int (zI w))) (st T nx 0 0 R G')) : FSt T nx R o z b a y G w (y + 1) G' := by
  have l : ¬ 1000 ≤ G0 (z + 1) y := by unfold isHo at hh; omega
  have ll := lf y y0 y1 l
  have nZ := kZ.1.2.1
  have nT := kT.1.2.1
  have ex := kT.2.1 x x0 x1
  obtain ⟨n, hn⟩ : ∃ n, n = G0 z 2 := ⟨_, rfl⟩
  have hn' : G z 2 = n := by rw [fr.1 _ (by omega) (by omega), hn]
  obtain ⟨q, hq⟩ : ∃ q, q = G0 (z + 1) y := ⟨_, rfl⟩
  have hq' : G (z + 1) y = q := by rw [fr.1 _ (by omega) (by omega), hq]
  obtain ⟨E, hE⟩ : ∃ E, E = G0 (b + 2) x := ⟨_, rfl⟩
  have hE' : G (b + 2) x = E := by rw [fr.1 _ (by omega) (by omega), hE]
  have hx' : G (o + 7) (q - 200) = x := by rw [fr.1 _ (by omega) (by omega), hq]; exact hx
  rw [← hE] at cA ex
  rw [← hq] at ll hh l
  rw [← hn] at y1 nZ
  have hb : 200 ≤ q ∧ q < 216 := by unfold isLf at ll; unfold isHo at hh; omega
  have nx1 : ¬ x = -1 := by omega
  have one : ¬ (1 : Int) = 0 := by omega
  refine fun Kn Kr hk => q_backR (fun K Kf hk2 => ?_) hk
  clear ll kk con sg lf bT bZ n5 n0 kT kZ hh
  rcases wb with wb | wb
  · subst wb
    simp (disch := omega) only [↓wcX10_addFilled_0.eq_1, ↓wsX10_addFilled_0.eq_1, ↓(k_cs1 dX11_isHole), ↓(k_cv1 dX9_add (t9 hB)), ↓(k_cv1 dX9_add (t9 hZ)), ↓(k_cv3 dX9_addRange (t9 hB)), ↓(k_cv3 dX9_addRange (t9 hZ)), ↓k_mk, ↓k_sq, ↓k_sk, ↓k_bk, ↓k_if, ↓k_te, ↓k_cm, ↓k_cz, ↓k_an2, ↓k_or2, ↓k_no, ↓k_ci, ↓k_l0, ↓k_r0, ↓k_se0, ↓k_ic0, ↓k_l1, ↓k_r1, ↓k_se1, ↓k_ic1, ↓k_de1, ↓k_tk1, ↓k_l2, ↓k_r2, ↓k_se2, ↓k_ic2, ↓k_de2, ↓k_tk2, ↓k_l3, ↓k_r3, ↓k_se3, ↓k_ic3, ↓k_de3, ↓k_tk3, ↓k_l4, ↓k_r4, ↓k_se4, ↓k_ic4, ↓k_de4, ↓k_tk4, ↓k_l5, ↓k_r5, ↓k_se5, ↓k_ic5, ↓k_de5, ↓k_tk5, ↓k_l6, ↓k_r6, ↓k_se6, ↓k_ic6, ↓k_de6, ↓k_tk6, ↓k_l7, ↓k_r7, ↓k_se7, ↓k_ic7, ↓k_de7, ↓k_tk7, ↓k_l8, ↓k_r8, ↓k_se8, ↓k_ic8, ↓k_de8, ↓k_tk8, ↓k_l9, ↓k_r9, ↓k_se9, ↓k_ic9, ↓k_de9, ↓k_tk9, ↓k_l10, ↓k_r10, ↓k_se10, ↓k_ic10, ↓k_de10, ↓k_tk10, ↓k_l11, ↓k_r11, ↓k_se11, ↓k_ic11, ↓k_de11, ↓k_tk11, ↓k_l12, ↓k_r12, ↓k_se12, ↓k_ic12, ↓k_de12, ↓k_tk12, ↓k_l13, ↓k_r13, ↓k_se13, ↓k_ic13, ↓k_de13, ↓k_tk13, ↓k_l14, ↓k_r14, ↓k_se14, ↓k_ic14, ↓k_de14, ↓k_tk14, ↓k_l15, ↓k_r15, ↓k_se15, ↓k_ic15, ↓k_de15, ↓k_tk15, ↓k_l16, ↓k_r16, ↓k_se16, ↓k_ic16, ↓k_de16, ↓k_tk16, ↓k_l17, ↓k_r17, ↓k_se17, ↓k_ic17, ↓k_de17, ↓k_tk17, ↓k_l18, ↓k_r18, ↓k_se18, ↓k_ic18, ↓k_de18, ↓k_tk18, ↓k_l19, ↓k_r19, ↓k_se19, ↓k_ic19, ↓k_de19, ↓k_tk19, ↓k_l20, ↓k_r20, ↓k_se20, ↓k_ic20, ↓k_de20, ↓k_tk20, ↓k_l21, ↓k_r21, ↓k_se21, ↓k_ic21, ↓k_de21, ↓k_tk21, ↓k_l22, ↓k_r22, ↓k_se22, ↓k_ic22, ↓k_de22, ↓k_tk22, ↓k_l23, ↓k_r23, ↓k_se23, ↓k_ic23, ↓k_de23, ↓k_tk23, ↓k_l24, ↓k_r24, ↓k_se24, ↓k_ic24, ↓k_de24, ↓k_tk24, ↓k_l25, ↓k_r25, ↓k_se25, ↓k_ic25, ↓k_de25, ↓k_tk25, ↓k_k, ↓k_kn, ↓k_kl, ↓k_kln, ↓k_il, ↓k_2, ↓k_1, ↓k_2c, ↓k_2l, ↓k_ac, ↓k_an, ↓k_cs, ↓k_cv, ↓k_fi, ↓k_fr, ↓k_ai, ↓k_az, ↓k_ar, ↓k_sai, ↓k_saz, ↓k_soa, ↓k_sof, ↓k_spf, ↓k_sx, ↓k_blk, ↓k_sset, ↓k_sdec, ↓k_sri, ↓k_srv, ↓k_srr, ↓k_nop, ↓k_add, ↓k_sub, ↓k_mul, ↓k_min, ↓k_max, ↓k_shr, ↓k_shl, ↓k_or, ↓k_ilz, ↓k_addl, ↓k_rt, ↓k_rb, ↓k_rbz, ↓k_rsi, ↓k_rsr, ↓k_rsv, ↓reduceIte, hn', y1, one, eq_self, hq', ↓(k_cs1 dX11_isHole), ↓c11_isHole, hb, hx', nx1, hE', ↓(k_cv3 dX9_addRange (t9 hA)), ↓cA, ↓xi9_2 hZ, ↓xp9_2 hZ, ↓xb9_2 hZ, ↓xf9_2 hZ, ↓xg9_2 hZ, ↓xh9_2 hZ, ↓xr9_5 hZ, ↓xa9_5 hZ, ↓xs9_5 hZ, ↓xo9_5 hZ, ↓xc9_5 hZ, ↓xd9_5 hZ, ↓xr9_6 hB, ↓xa9_6 hB, ↓xs9_6 hB, ↓xo9_6 hB, ↓xc9_6 hB, ↓xd9_6 hB, ↓xr10_9 oT, ↓xa10_9 oT, ↓xs10_9 oT, ↓xo10_9 oT, ↓xc10_9 oT, ↓xd10_9 oT, List.length_cons, List.length_nil, List.forall_mem_cons, List.not_mem_nil, Value.category, true_and, and_true, false_and, and_false, or_true, true_or, or_false, false_or, Nat.zero_le, forall_const, implies_true, false_implies, Nat.zero_add, Nat.reduceAdd, Nat.reduceLT, Nat.reduceLeDiff, Nat.le_refl, not_true_eq_false, not_false_eq_true, r_eq, r_ne, r_lt, r_ge, r_gt, r_le, bz_ne, nn_toNat, cn_of, cn_0, cn_1, i10, Int.reduceLE, Int.reduceLT, Int.reduceEq, bz_T, bz_F, ite_self, mulc, st_bud]
    exact hk2
  · subst wb
    simp (disch := omega) only [↓wcX10_addFilled_0.eq_1, ↓wsX10_addFilled_0.eq_1, ↓(k_cs1 dX11_isHole), ↓(k_cv1 dX9_add (t9 hB)), ↓(k_cv1 dX9_add (t9 hZ)), ↓(k_cv3 dX9_addRange (t9 hB)), ↓(k_cv3 dX9_addRange (t9 hZ)), ↓k_mk, ↓k_sq, ↓k_sk, ↓k_bk, ↓k_if, ↓k_te, ↓k_cm, ↓k_cz, ↓k_an2, ↓k_or2, ↓k_no, ↓k_ci, ↓k_l0, ↓k_r0, ↓k_se0, ↓k_ic0, ↓k_l1, ↓k_r1, ↓k_se1, ↓k_ic1, ↓k_de1, ↓k_tk1, ↓k_l2, ↓k_r2, ↓k_se2, ↓k_ic2, ↓k_de2, ↓k_tk2, ↓k_l3, ↓k_r3, ↓k_se3, ↓k_ic3, ↓k_de3, ↓k_tk3, ↓k_l4, ↓k_r4, ↓k_se4, ↓k_ic4, ↓k_de4, ↓k_tk4, ↓k_l5, ↓k_r5, ↓k_se5, ↓k_ic5, ↓k_de5, ↓k_tk5, ↓k_l6, ↓k_r6, ↓k_se6, ↓k_ic6, ↓k_de6, ↓k_tk6, ↓k_l7, ↓k_r7, ↓k_se7, ↓k_ic7, ↓k_de7, ↓k_tk7, ↓k_l8, ↓k_r8, ↓k_se8, ↓k_ic8, ↓k_de8, ↓k_tk8, ↓k_l9, ↓k_r9, ↓k_se9, ↓k_ic9, ↓k_de9, ↓k_tk9, ↓k_l10, ↓k_r10, ↓k_se10, ↓k_ic10, ↓k_de10, ↓k_tk10, ↓k_l11, ↓k_r11, ↓k_se11, ↓k_ic11, ↓k_de11, ↓k_tk11, ↓k_l12, ↓k_r12, ↓k_se12, ↓k_ic12, ↓k_de12, ↓k_tk12, ↓k_l13, ↓k_r13, ↓k_se13, ↓k_ic13, ↓k_de13, ↓k_tk13, ↓k_l14, ↓k_r14, ↓k_se14, ↓k_ic14, ↓k_de14, ↓k_tk14, ↓k_l15, ↓k_r15, ↓k_se15, ↓k_ic15, ↓k_de15, ↓k_tk15, ↓k_l16, ↓k_r16, ↓k_se16, ↓k_ic16, ↓k_de16, ↓k_tk16, ↓k_l17, ↓k_r17, ↓k_se17, ↓k_ic17, ↓k_de17, ↓k_tk17, ↓k_l18, ↓k_r18, ↓k_se18, ↓k_ic18, ↓k_de18, ↓k_tk18, ↓k_l19, ↓k_r19, ↓k_se19, ↓k_ic19, ↓k_de19, ↓k_tk19, ↓k_l20, ↓k_r20, ↓k_se20, ↓k_ic20, ↓k_de20, ↓k_tk20, ↓k_l21, ↓k_r21, ↓k_se21, ↓k_ic21, ↓k_de21, ↓k_tk21, ↓k_l22, ↓k_r22, ↓k_se22, ↓k_ic22, ↓k_de22, ↓k_tk22, ↓k_l23, ↓k_r23, ↓k_se23, ↓k_ic23, ↓k_de23, ↓k_tk23, ↓k_l24, ↓k_r24, ↓k_se24, ↓k_ic24, ↓k_de24, ↓k_tk24, ↓k_l25, ↓k_r25, ↓k_se25, ↓k_ic25, ↓k_de25, ↓k_tk25, ↓k_k, ↓k_kn, ↓k_kl, ↓k_kln, ↓k_il, ↓k_2, ↓k_1, ↓k_2c, ↓k_2l, ↓k_ac, ↓k_an, ↓k_cs, ↓k_cv, ↓k_fi, ↓k_fr, ↓k_ai, ↓k_az, ↓k_ar, ↓k_sai, ↓k_saz, ↓k_soa, ↓k_sof, ↓k_spf, ↓k_sx, ↓k_blk, ↓k_sset, ↓k_sdec, ↓k_sri, ↓k_srv, ↓k_srr, ↓k_nop, ↓k_add, ↓k_sub, ↓k_mul, ↓k_min, ↓k_max, ↓k_shr, ↓k_shl, ↓k_or, ↓k_ilz, ↓k_addl, ↓k_rt, ↓k_rb, ↓k_rbz, ↓k_rsi, ↓k_rsr, ↓k_rsv, ↓reduceIte, hn', y1, one, eq_self, hq', ↓(k_cs1 dX11_isHole), ↓c11_isHole, hb, hx', nx1, hE', ↓(k_cv3 dX9_addRange (t9 hA)), ↓cA, ↓xi9_2 hZ, ↓xp9_2 hZ, ↓xb9_2 hZ, ↓xf9_2 hZ, ↓xg9_2 hZ, ↓xh9_2 hZ, ↓xr9_5 hZ, ↓xa9_5 hZ, ↓xs9_5 hZ, ↓xo9_5 hZ, ↓xc9_5 hZ, ↓xd9_5 hZ, ↓xr9_6 hB, ↓xa9_6 hB, ↓xs9_6 hB, ↓xo9_6 hB, ↓xc9_6 hB, ↓xd9_6 hB, ↓xr10_9 oT, ↓xa10_9 oT, ↓xs10_9 oT, ↓xo10_9 oT, ↓xc10_9 oT, ↓xd10_9 oT, List.length_cons, List.length_nil, List.forall_mem_cons, List.not_mem_nil, Value.category, true_and, and_true, false_and, and_false, or_true, true_or, or_false, false_or, Nat.zero_le, forall_const, implies_true, false_implies, Nat.zero_add, Nat.reduceAdd, Nat.reduceLT, Nat.reduceLeDiff, Nat.le_refl, not_true_eq_false, not_false_eq_true, r_eq, r_ne, r_lt, r_ge, r_gt, r_le, bz_ne, nn_toNat, cn_of, cn_0, cn_1, i10, Int.reduceLE, Int.reduceLT, Int.reduceEq, bz_T, bz_F, ite_self, mulc, st_bud]
    exact hk2
/-- a leaf or a node -/
theorem y_f_turnL {T : Nat → Option q_T} {nx o z b a : Nat} {R : Nat → Nat → Option Value} {G0 : Nat → Int → Int} {c ns I : Int → Int} {gt gz F : Int} {S : Int → Int → Prop} (oT : Ly T R o (L10 o)) (hA : Ly T R a (L9 a)) (hB : Ly T R b (L9 b)) (hZ : Ly T R z (L9 z)) (hab : b + 10 ≤ a ∨ a + 10 ≤ b) (haz : z + 10 ≤ a ∨ a + 10 ≤ z) (hao : ¬ o + 7 = a ∧ ¬ o + 7 = a + 1) (kT : Tr gt F ns I (G0 b 2) (G0 b 3) (G0 b 4) (G0 (b + 1)) (G0 (b + 2)) (G0 (b + 3)) (G0 (b + 4)) (G0 (b + 6)) (G0 (b + 7)) (G0 (b + 8))) (kZ : Tr gz F ns I (G0 z 2) (G0 z 3) (G0 z 4) (G0 (z + 1)) (G0 (z + 2)) (G0 (z + 3)) (G0 (z + 4)) (G0 (z + 6)) (G0 (z + 7)) (G0 (z + 8))) (n0 : ∀ f, 0 ≤ f → f < F → 0 ≤ ns f) (n5 : ∀ q : Nat, 1000 ≤ c q → ns0 (c q) ns) (bT : ∀ q, 0 ≤ q → q < G0 b 2 → 20 ≤ G0 (b + 1) q ∧ G0 (b + 1) q ≤ 1013) (bZ : ∀ q, 0 ≤ q → q < G0 z 2 → 20 ≤ G0 (z + 1) q ∧ G0 (z + 1) q ≤ 1013) (lf : ∀ y, 0 ≤ y → y < G0 z 2 → ¬ 1000 ≤ G0 (z + 1) y → isLf (G0 (z + 1) y)) (sg : SG (G0 (o + 7)) (G0 b 2) S) (con : Con (G0 (b + 1)) (G0 (b + 2)) S) (kk : ∀ y, 0 < y → y < G0 z 2 → isHo (G0 (z + 1) y) → ∀ x, S (G0 (z + 1) y - 200) x → okc gt (I (5 * (G0 (z + 1) (G0 (z + 3) y) - 1000) + G0 (z + 4) y)) (G0 (b + 1) x)) {y w : Int} (y0 : 0 ≤ y) (y1 : y < G0 z 2) {G G' : Nat → Int → Int} (fr : CFr G0 G a) (hh : ¬ isHo (G0 (z + 1) y)) (wb : w = 0 ∨ w = 1) (cA : ∀ K : Option Value → q_M → Prop, fX9_add [.ref a, .int (zI (G0 (z + 1) y))] (st T nx 0 0 R G) K = K (some (.int (zI w))) (st T nx 0 0 R G')) : FSt T nx R o z b a y G w (y + 1) G' := by
  have nZ := kZ.1.2.1
  have bz := bZ y y0 y1
  obtain ⟨n, hn⟩ : ∃ n, n = G0 z 2 := ⟨_, rfl⟩
  have hn' : G z 2 = n := by rw [fr.1 _ (by omega) (by omega), hn]
  obtain ⟨q, hq⟩ : ∃ q, q = G0 (z + 1) y := ⟨_, rfl⟩
  have hq' : G (z + 1) y = q := by rw [fr.1 _ (by omega) (by omega), hq]
  rw [← hq] at cA bz hh
  rw [← hn] at y1 nZ
  have hb : ¬ (200 ≤ q ∧ q < 216) := fun w => hh ⟨w.1, by omega⟩
  have one : ¬ (1 : Int) = 0 := by omega
  refine fun Kn Kr hk => q_backR (fun K Kf hk2 => ?_) hk
  clear kk con sg lf bT bZ n5 n0 kT kZ hh
  simp (disch := omega) only [↓wcX10_addFilled_0.eq_1, ↓wsX10_addFilled_0.eq_1, ↓(k_cs1 dX11_isHole), ↓(k_cv1 dX9_add (t9 hZ)), ↓(k_cv3 dX9_addRange (t9 hZ)), ↓k_mk, ↓k_sq, ↓k_sk, ↓k_bk, ↓k_if, ↓k_te, ↓k_cm, ↓k_cz, ↓k_an2, ↓k_or2, ↓k_no, ↓k_ci, ↓k_l0, ↓k_r0, ↓k_se0, ↓k_ic0, ↓k_l1, ↓k_r1, ↓k_se1, ↓k_ic1, ↓k_de1, ↓k_tk1, ↓k_l2, ↓k_r2, ↓k_se2, ↓k_ic2, ↓k_de2, ↓k_tk2, ↓k_l3, ↓k_r3, ↓k_se3, ↓k_ic3, ↓k_de3, ↓k_tk3, ↓k_l4, ↓k_r4, ↓k_se4, ↓k_ic4, ↓k_de4, ↓k_tk4, ↓k_l5, ↓k_r5, ↓k_se5, ↓k_ic5, ↓k_de5, ↓k_tk5, ↓k_l6, ↓k_r6, ↓k_se6, ↓k_ic6, ↓k_de6, ↓k_tk6, ↓k_l7, ↓k_r7, ↓k_se7, ↓k_ic7, ↓k_de7, ↓k_tk7, ↓k_l8, ↓k_r8, ↓k_se8, ↓k_ic8, ↓k_de8, ↓k_tk8, ↓k_l9, ↓k_r9, ↓k_se9, ↓k_ic9, ↓k_de9, ↓k_tk9, ↓k_l10, ↓k_r10, ↓k_se10, ↓k_ic10, ↓k_de10, ↓k_tk10, ↓k_l11, ↓k_r11, ↓k_se11, ↓k_ic11, ↓k_de11, ↓k_tk11, ↓k_l12, ↓k_r12, ↓k_se12, ↓k_ic12, ↓k_de12, ↓k_tk12, ↓k_l13, ↓k_r13, ↓k_se13, ↓k_ic13, ↓k_de13, ↓k_tk13, ↓k_l14, ↓k_r14, ↓k_se14, ↓k_ic14, ↓k_de14, ↓k_tk14, ↓k_l15, ↓k_r15, ↓k_se15, ↓k_ic15, ↓k_de15, ↓k_tk15, ↓k_l16, ↓k_r16, ↓k_se16, ↓k_ic16, ↓k_de16, ↓k_tk16, ↓k_l17, ↓k_r17, ↓k_se17, ↓k_ic17, ↓k_de17, ↓k_tk17, ↓k_l18, ↓k_r18, ↓k_se18, ↓k_ic18, ↓k_de18, ↓k_tk18, ↓k_l19, ↓k_r19, ↓k_se19, ↓k_ic19, ↓k_de19, ↓k_tk19, ↓k_l20, ↓k_r20, ↓k_se20, ↓k_ic20, ↓k_de20, ↓k_tk20, ↓k_l21, ↓k_r21, ↓k_se21, ↓k_ic21, ↓k_de21, ↓k_tk21, ↓k_l22, ↓k_r22, ↓k_se22, ↓k_ic22, ↓k_de22, ↓k_tk22, ↓k_l23, ↓k_r23, ↓k_se23, ↓k_ic23, ↓k_de23, ↓k_tk23, ↓k_l24, ↓k_r24, ↓k_se24, ↓k_ic24, ↓k_de24, ↓k_tk24, ↓k_l25, ↓k_r25, ↓k_se25, ↓k_ic25, ↓k_de25, ↓k_tk25, ↓k_k, ↓k_kn, ↓k_kl, ↓k_kln, ↓k_il, ↓k_2, ↓k_1, ↓k_2c, ↓k_2l, ↓k_ac, ↓k_an, ↓k_cs, ↓k_cv, ↓k_fi, ↓k_fr, ↓k_ai, ↓k_az, ↓k_ar, ↓k_sai, ↓k_saz, ↓k_soa, ↓k_sof, ↓k_spf, ↓k_sx, ↓k_blk, ↓k_sset, ↓k_sdec, ↓k_sri, ↓k_srv, ↓k_srr, ↓k_nop, ↓k_add, ↓k_sub, ↓k_mul, ↓k_min, ↓k_max, ↓k_shr, ↓k_shl, ↓k_or, ↓k_ilz, ↓k_addl, ↓k_rt, ↓k_rb, ↓k_rbz, ↓k_rsi, ↓k_rsr, ↓k_rsv, ↓reduceIte, hn', y1, one, eq_self, hq', ↓(k_cs1 dX11_isHole), ↓c11_isHole, hb, ↓(k_cv1 dX9_add (t9 hA)), ↓cA, ↓xi9_2 hZ, ↓xp9_2 hZ, ↓xb9_2 hZ, ↓xf9_2 hZ, ↓xg9_2 hZ, ↓xh9_2 hZ, ↓xr9_5 hZ, ↓xa9_5 hZ, ↓xs9_5 hZ, ↓xo9_5 hZ, ↓xc9_5 hZ, ↓xd9_5 hZ, List.length_cons, List.length_nil, List.forall_mem_cons, List.not_mem_nil, Value.category, true_and, and_true, false_and, and_false, or_true, true_or, or_false, false_or, Nat.zero_le, forall_const, implies_true, false_implies, Nat.zero_add, Nat.reduceAdd, Nat.reduceLT, Nat.reduceLeDiff, Nat.le_refl, not_true_eq_false, not_false_eq_true, r_eq, r_ne, r_lt, r_ge, r_gt, r_le, bz_ne, nn_toNat, cn_of, cn_0, cn_1, i10, Int.reduceLE, Int.reduceLT, Int.reduceEq, bz_T, bz_F, ite_self, mulc, st_bud]
  exact hk2
/-- piece by piece -/
theorem y_f_cls {T : Nat → Option q_T} {nx o z b a : Nat} {R : Nat → Nat → Option Value} {G0 : Nat → Int → Int} {c ns I : Int → Int} {gt gz F v : Int} {S : Int → Int → Prop} (oT : Ly T R o (L10 o)) (hA : Ly T R a (L9 a)) (hB : Ly T R b (L9 b)) (hZ : Ly T R z (L9 z)) (hab : b + 10 ≤ a ∨ a + 10 ≤ b) (haz : z + 10 ≤ a ∨ a + 10 ≤ z) (hao : ¬ o + 7 = a ∧ ¬ o + 7 = a + 1) (kT : Tr gt F ns I (G0 b 2) (G0 b 3) (G0 b 4) (G0 (b + 1)) (G0 (b + 2)) (G0 (b + 3)) (G0 (b + 4)) (G0 (b + 6)) (G0 (b + 7)) (G0 (b + 8))) (kZ : Tr gz F ns I (G0 z 2) (G0 z 3) (G0 z 4) (G0 (z + 1)) (G0 (z + 2)) (G0 (z + 3)) (G0 (z + 4)) (G0 (z + 6)) (G0 (z + 7)) (G0 (z + 8))) (n0 : ∀ f, 0 ≤ f → f < F → 0 ≤ ns f) (n5 : ∀ q : Nat, 1000 ≤ c q → ns0 (c q) ns) (bT : ∀ q, 0 ≤ q → q < G0 b 2 → 20 ≤ G0 (b + 1) q ∧ G0 (b + 1) q ≤ 1013) (bZ : ∀ q, 0 ≤ q → q < G0 z 2 → 20 ≤ G0 (z + 1) q ∧ G0 (z + 1) q ≤ 1013) (lf : ∀ y, 0 ≤ y → y < G0 z 2 → ¬ 1000 ≤ G0 (z + 1) y → isLf (G0 (z + 1) y)) (sg : SG (G0 (o + 7)) (G0 b 2) S) (con : Con (G0 (b + 1)) (G0 (b + 2)) S) (kk : ∀ y, 0 < y → y < G0 z 2 → isHo (G0 (z + 1) y) → ∀ x, S (G0 (z + 1) y - 200) x → okc gt (I (5 * (G0 (z + 1) (G0 (z + 3) y) - 1000) + G0 (z + 4) y)) (G0 (b + 1) x)) : ∀ (k : Nat) (y it : Int) (w : List Int) (G : Nat → Int → Int) (P : Nat), 0 ≤ y → y < G0 z 2 → okc gz it (G0 (z + 1) y) ∨ isHo (G0 (z + 1) y) → (isHo (G0 (z + 1) y) → ∀ x, S (G0 (z + 1) y - 200) x → okc gt it (G0 (b + 1) x)) → FW ns (G0 (z + 1)) (G0 (z + 2)) (G0 (b + 1)) (G0 (b + 2)) S k y w → At c P w → CFr G0 G a → CB c G a v P → Pre ns c P → 1 ≤ dd ns c P → nb c P ≤ 40 →
    (nb c (P + w.length) ≤ 40 ∧ ∃ G', CFr G0 G' a ∧ CB c G' a v (P + w.length) ∧ FSt T nx R o z b a y G 1 (G0 (z + 2) y) G') ∨ (40 < nb c (P + w.length) ∧ FFa T nx R o z b a y G) := by
  have sb : ∀ h x, S h x → 0 ≤ x ∧ x < G0 b 2 := fun h x q => ⟨(sg.1 h x q).2.2.1, (sg.1 h x q).2.2.2⟩
  intro k
  induction k with
  | zero => intro y it w G P _ _ _ _ f; exact f.elim
  | succ k ih =>
    intro y it w G P y0 y1 ok hk f hA' fr cB pr dP n40
    have ey := kZ.2.1 y y0 y1
    have nZ := kZ.1.2.1
    have room := dd_room (ns := ns) (c := c) (P := P) (fun q _ h => (n5 q h).2.2)
    have fail : ∀ (G' : Nat → Int → Int), CFr G G' a → FSt T nx R o z b a y G 0 (y + 1) G' → FFa T nx R o z b a y G := fun G' f1 f2 => ⟨y + 1, G', f1, fun Kn Kr hh => f2 Kn Kr (f_out hZ (by omega) (by rw [(CFr_tr fr f1).1 _ (by omega) (by omega)]; omega) (Or.inl rfl) Kn Kr hh)⟩
    rcases f with ⟨hh, x, hx, hw⟩ | ⟨hh, l, hw⟩ | ⟨l, u, hw, hu⟩
    · subst hw
      have l : ¬ 1000 ≤ G0 (z + 1) y := by unfold isHo at hh; omega
      have el := (kZ.2.2.2.2.1 y y0 y1 l).2
      have s1 := sg.1 _ _ hx
      have s2 : S (G0 (z + 1) y - 200) (G0 (o + 7) (G0 (z + 1) y - 200)) := (sg.2 _ s1.1 s1.2.1).resolve_left (fun z => z.2 x hx)
      obtain ⟨x', hx'⟩ : ∃ x', x' = G0 (o + 7) (G0 (z + 1) y - 200) := ⟨_, rfl⟩
      rw [← hx'] at s2
      have sm := con _ _ _ hx s2
      have bx := sb _ _ hx
      have bx' := sb _ _ s2
      have exx := kT.2.1 x bx.1 bx.2
      have e1 := sm.1
      have ew : sgL (G0 (b + 1)) x (G0 (b + 2) x - x).toNat = sgL (G0 (b + 1)) x' (G0 (b + 2) x' - x').toNat := by
        rw [← e1]
        exact sgL_cong fun z z0 z1 => sm.2 z z0 (by omega)
      rw [ew] at hA' ⊢
      obtain ⟨G', w', f1, f2, f3⟩ := c9_addSeg (T := T) (nx := nx) (R := R) hA hB hab kT n0 n5 bT (fr.1 _ (by omega) (by omega)) cB bx'.1 bx'.2 hA' (hk hh x' s2) pr dP n40
      have tn := y_f_turnH (T := T) (nx := nx) (R := R) oT hA hB hZ hab haz hao kT kZ n0 n5 bT bZ lf sg con kk y0 y1 fr hh hx'.symm bx'.1 bx'.2 (by omega) f3
      rw [sgL_len]
      rcases f2 with ⟨z1, z2, z3⟩ | ⟨z1, z2⟩
      · subst z1
        rw [el]
        exact Or.inl ⟨z2, G', CFr_tr fr f1, z3, tn⟩
      · subst z1
        exact Or.inr ⟨z2, fail G' f1 tn⟩
    · subst hw
      have el := (kZ.2.2.2.2.1 y y0 y1 l).2
      have bz := bZ y y0 y1
      obtain ⟨G', w', f1, f2, f3⟩ := c9_add (T := T) (nx := nx) (rc := 0) (rs := 0) (R := R) hA cB hA'.1 (by omega) (by omega) n40
      have tn := y_f_turnL (T := T) (nx := nx) (R := R) oT hA hB hZ hab haz hao kT kZ n0 n5 bT bZ lf sg con kk y0 y1 fr hh (by omega) f3
      rcases f2 with ⟨z1, z2, z3⟩ | ⟨z1, z2⟩
      · subst z1
        rw [el]
        exact Or.inl ⟨z2, G', CFr_tr fr f1, z3, tn⟩
      · subst z1
        exact Or.inr ⟨z2, fail G' f1 tn⟩
    · have hh : ¬ isHo (G0 (z + 1) y) := by unfold isHo; omega
      obtain ⟨F1, cE, cH⟩ := kZ.2.2.2.1 y y0 y1 l
      have n1 := n0 (G0 (z + 1) y - 1000) (by omega) F1
      have ok' : okc gt it (G0 (z + 1) y) := by
        have o := ok.resolve_right hh
        unfold okc at o ⊢
        omega
      subst hw
      obtain ⟨cP, hA'⟩ := hA'
      have bz := bZ y y0 y1
      obtain ⟨G1, w', f1, f2, f3⟩ := c9_add (T := T) (nx := nx) (rc := 0) (rs := 0) (R := R) hA cB cP (by omega) (by omega) n40
      have tn := y_f_turnL (T := T) (nx := nx) (R := R) oT hA hB hZ hab haz hao kT kZ n0 n5 bT bZ lf sg con kk y0 y1 fr hh (by omega) f3
      rw [List.length_cons, show P + ((cat u (ns (G0 (z + 1) y - 1000)).toNat).length + 1) = P + 1 + (cat u (ns (G0 (z + 1) y - 1000)).toNat).length by omega]
      have mono := nb_mono c (show P + 1 ≤ P + 1 + (cat u (ns (G0 (z + 1) y - 1000)).toNat).length by omega)
      rcases f2 with ⟨z1, z2, z3⟩ | ⟨z1, z2⟩
      · subst z1
        have key : ∀ m : Nat, (m : Int) ≤ ns (G0 (z + 1) y - 1000) → KidW gt ns I c (G0 (z + 1) y) it m P (P + 1 + (cat u m).length) ∧ ((nb c (P + 1 + (cat u m).length) ≤ 40 ∧ ∃ G', CFr G0 G' a ∧ CB c G' a v (P + 1 + (cat u m).length) ∧ FSt T nx R o z b a y G 1 (chI (G0 (z + 2)) y m) G') ∨ (40 < nb c (P + 1 + (cat u m).length) ∧ FFa T nx R o z b a y G)) := by
          intro m
          induction m with
          | zero =>
            intro _
            exact ⟨Kid0 n1 l cP ok' pr dP, Or.inl ⟨z2, G1, CFr_tr fr f1, z3, tn⟩⟩
          | succ m ihm =>
            intro hm
            obtain ⟨kw, ihm⟩ := ihm (by omega)
            obtain ⟨rr, hr⟩ := cat_pre u (show m + 1 ≤ (ns (G0 (z + 1) y - 1000)).toNat by omega)
            have hA2 := hA'
            rw [hr, At_app, cat_s, At_app] at hA2
            have a1 := cH m (by omega)
            have hk1 : isHo (G0 (z + 1) (chI (G0 (z + 2)) y m)) → ∀ x, S (G0 (z + 1) (chI (G0 (z + 2)) y m) - 200) x → okc gt (I (5 * (G0 (z + 1) y - 1000) + m)) (G0 (b + 1) x) := fun h x hx => by
              have := kk (chI (G0 (z + 2)) y m) (by omega) a1.2.1 h x hx
              rw [a1.2.2.1, a1.2.2.2.1] at this
              exact this
            have pw := FW_pw kZ kT n0 sb lf kk k (chI (G0 (z + 2)) y m) _ (u m) (by omega) a1.2.1 (Or.inl a1.2.2.2.2) hk1 (hu m (by omega))
            have kwd := kw.2.1
            have sw := pw_seg n0 _ _ _ _ pw hA2.1.2 kw.1 (by omega)
            have kw' := Kid_s (by omega) kw sw
            rw [cat_s, List.length_append, show P + 1 + ((cat u m).length + (u m).length) = P + 1 + (cat u m).length + (u m).length by omega]
            refine ⟨kw', ?_⟩
            have mo := nb_mono c (show P + 1 + (cat u m).length ≤ P + 1 + (cat u m).length + (u m).length by omega)
            rcases ihm with ⟨y1', G2, y2, y3, y6⟩ | ⟨y1', y2⟩
            · rcases ih (chI (G0 (z + 2)) y m) _ (u m) G2 _ (by omega) a1.2.1 (Or.inl a1.2.2.2.2) hk1 (hu m (by omega)) hA2.1.2 y2 y3 kw.1 (by omega) y1' with ⟨t1, G3, t2, t3, t6⟩ | ⟨t1, p', G', k1, k2⟩
              · exact Or.inl ⟨t1, G3, t2, t3, fun Kn Kr z => y6 Kn Kr (t6 Kn Kr z)⟩
              · refine Or.inr ⟨t1, p', G', ⟨fun y w1 w2 => by rw [k1.1 y w1 w2, y2.1 y w1 w2, fr.1 y w1 w2], fun j w1 w2 w3 => by rw [k1.2 j w1 w2 w3, y2.2 j w1 w2 w3, fr.2 j w1 w2 w3]⟩, fun Kn Kr z => y6 Kn Kr (k2 Kn Kr z)⟩
            · exact Or.inr ⟨by omega, y2⟩
        obtain ⟨_, kk'⟩ := key (ns (G0 (z + 1) y - 1000)).toNat (by omega)
        rw [cE] at kk'
        exact kk'
      · subst z1
        exact Or.inr ⟨by omega, fail G1 f1 tn⟩
theorem y_c10_addFilled {T : Nat → Option q_T} {nx o z b a : Nat} {R : Nat → Nat → Option Value} {G0 : Nat → Int → Int} {c ns I : Int → Int} {gt gz F v : Int} {S : Int → Int → Prop} (oT : Ly T R o (L10 o)) (hA : Ly T R a (L9 a)) (hB : Ly T R b (L9 b)) (hZ : Ly T R z (L9 z)) (hab : b + 10 ≤ a ∨ a + 10 ≤ b) (haz : z + 10 ≤ a ∨ a + 10 ≤ z) (hao : ¬ o + 7 = a ∧ ¬ o + 7 = a + 1) (kT : Tr gt F ns I (G0 b 2) (G0 b 3) (G0 b 4) (G0 (b + 1)) (G0 (b + 2)) (G0 (b + 3)) (G0 (b + 4)) (G0 (b + 6)) (G0 (b + 7)) (G0 (b + 8))) (kZ : Tr gz F ns I (G0 z 2) (G0 z 3) (G0 z 4) (G0 (z + 1)) (G0 (z + 2)) (G0 (z + 3)) (G0 (z + 4)) (G0 (z + 6)) (G0 (z + 7)) (G0 (z + 8))) (n0 : ∀ f, 0 ≤ f → f < F → 0 ≤ ns f) (n5 : ∀ q : Nat, 1000 ≤ c q → ns0 (c q) ns) (bT : ∀ q, 0 ≤ q → q < G0 b 2 → 20 ≤ G0 (b + 1) q ∧ G0 (b + 1) q ≤ 1013) (bZ : ∀ q, 0 ≤ q → q < G0 z 2 → 20 ≤ G0 (z + 1) q ∧ G0 (z + 1) q ≤ 1013) (lf : ∀ y, 0 ≤ y → y < G0 z 2 → ¬ 1000 ≤ G0 (z + 1) y → isLf (G0 (z + 1) y)) (sg : SG (G0 (o + 7)) (G0 b 2) S) (con : Con (G0 (b + 1)) (G0 (b + 2)) S) (kk : ∀ y, 0 < y → y < G0 z 2 → isHo (G0 (z + 1) y) → ∀ x, S (G0 (z + 1) y - 200) x → okc gt (I (5 * (G0 (z + 1) (G0 (z + 3) y) - 1000) + G0 (z + 4) y)) (G0 (b + 1) x)) {k : Nat} {it : Int} {w : List Int} {P : Nat} (ok : okc gz it (G0 (z + 1) 0) ∨ isHo (G0 (z + 1) 0)) (hk : isHo (G0 (z + 1) 0) → ∀ x, S (G0 (z + 1) 0 - 200) x → okc gt it (G0 (b + 1) x)) (f : FW ns (G0 (z + 1)) (G0 (z + 2)) (G0 (b + 1)) (G0 (b + 2)) S k 0 w) (hAt : At c P w) (cB : CB c G0 a v P) (pr : Pre ns c P) (dP : 1 ≤ dd ns c P) (n40 : nb c P ≤ 40) :
    ∃ G' y, CFr G0 G' a ∧ ((y = 1 ∧ nb c (P + w.length) ≤ 40 ∧ CB c G' a v (P + w.length)) ∨ (y = 0 ∧ 40 < nb c (P + w.length))) ∧ ∀ K : Option Value → q_M → Prop, fX10_addFilled [.ref o, .ref z, .ref b, .ref a] (st T nx 0 0 R G0) K = K (some (.int (zI y))) (st T nx 0 0 R G') := by
  have nZ := kZ.1
  rcases y_f_cls (T := T) (nx := nx) (R := R) oT hA hB hZ hab haz hao kT kZ n0 n5 bT bZ lf sg con kk k 0 it w G0 P (Int.le_refl _) (by have := nZ.1; omega) ok hk f hAt (CFr_rfl _ _) cB pr dP n40 with ⟨z1, G', z2, z3, z4⟩ | ⟨z1, p', G', z2, z3⟩
  · refine ⟨G', 1, z2, Or.inl ⟨rfl, z1, z3⟩, fun K => ?_⟩
    have eE := nZ.2.2.2.2.2.2.1
    have n1 := nZ.1
    have n201 := nZ.2.1
    rw [eE] at z4
    have lw : ∀ (Kn : List Value → q_M → Prop) (Kr : Option Value → q_M → Prop), wX10_addFilled_0 [.ref o, .ref z, .ref b, .ref a, .int (zI 1), .int (zI 0)] (st T nx 0 0 R G0) Kn Kr = Kn [.ref o, .ref z, .ref b, .ref a, .int (zI 1), .int (zI (G0 z 2))] (st T nx 0 0 R G') := eX10_addFilled_0.eqn (z4 _ _ (f_out hZ (by omega) (by rw [z2.1 _ (by omega) (by omega)]; omega) (Or.inr ⟨rfl, by rw [z2.1 _ (by omega) (by omega)]; exact Int.le_refl _⟩) _ _ ⟨rfl, rfl⟩))
    clear kk con sg lf bT bZ n5 n0 f hAt ok hk
    simp (disch := omega) only [↓fX10_addFilled.eq_1, ↓uX10_addFilled, ↓k_mk, ↓k_sq, ↓k_sk, ↓k_bk, ↓k_if, ↓k_te, ↓k_cm, ↓k_cz, ↓k_an2, ↓k_or2, ↓k_no, ↓k_ci, ↓k_l0, ↓k_r0, ↓k_se0, ↓k_ic0, ↓k_l1, ↓k_r1, ↓k_se1, ↓k_ic1, ↓k_de1, ↓k_tk1, ↓k_l2, ↓k_r2, ↓k_se2, ↓k_ic2, ↓k_de2, ↓k_tk2, ↓k_l3, ↓k_r3, ↓k_se3, ↓k_ic3, ↓k_de3, ↓k_tk3, ↓k_l4, ↓k_r4, ↓k_se4, ↓k_ic4, ↓k_de4, ↓k_tk4, ↓k_l5, ↓k_r5, ↓k_se5, ↓k_ic5, ↓k_de5, ↓k_tk5, ↓k_l6, ↓k_r6, ↓k_se6, ↓k_ic6, ↓k_de6, ↓k_tk6, ↓k_l7, ↓k_r7, ↓k_se7, ↓k_ic7, ↓k_de7, ↓k_tk7, ↓k_l8, ↓k_r8, ↓k_se8, ↓k_ic8, ↓k_de8, ↓k_tk8, ↓k_l9, ↓k_r9, ↓k_se9, ↓k_ic9, ↓k_de9, ↓k_tk9, ↓k_l10, ↓k_r10, ↓k_se10, ↓k_ic10, ↓k_de10, ↓k_tk10, ↓k_l11, ↓k_r11, ↓k_se11, ↓k_ic11, ↓k_de11, ↓k_tk11, ↓k_l12, ↓k_r12, ↓k_se12, ↓k_ic12, ↓k_de12, ↓k_tk12, ↓k_l13, ↓k_r13, ↓k_se13, ↓k_ic13, ↓k_de13, ↓k_tk13, ↓k_l14, ↓k_r14, ↓k_se14, ↓k_ic14, ↓k_de14, ↓k_tk14, ↓k_l15, ↓k_r15, ↓k_se15, ↓k_ic15, ↓k_de15, ↓k_tk15, ↓k_l16, ↓k_r16, ↓k_se16, ↓k_ic16, ↓k_de16, ↓k_tk16, ↓k_l17, ↓k_r17, ↓k_se17, ↓k_ic17, ↓k_de17, ↓k_tk17, ↓k_l18, ↓k_r18, ↓k_se18, ↓k_ic18, ↓k_de18, ↓k_tk18, ↓k_l19, ↓k_r19, ↓k_se19, ↓k_ic19, ↓k_de19, ↓k_tk19, ↓k_l20, ↓k_r20, ↓k_se20, ↓k_ic20, ↓k_de20, ↓k_tk20, ↓k_l21, ↓k_r21, ↓k_se21, ↓k_ic21, ↓k_de21, ↓k_tk21, ↓k_l22, ↓k_r22, ↓k_se22, ↓k_ic22, ↓k_de22, ↓k_tk22, ↓k_l23, ↓k_r23, ↓k_se23, ↓k_ic23, ↓k_de23, ↓k_tk23, ↓k_l24, ↓k_r24, ↓k_se24, ↓k_ic24, ↓k_de24, ↓k_tk24, ↓k_l25, ↓k_r25, ↓k_se25, ↓k_ic25, ↓k_de25, ↓k_tk25, ↓k_k, ↓k_kn, ↓k_kl, ↓k_kln, ↓k_il, ↓k_2, ↓k_1, ↓k_2c, ↓k_2l, ↓k_ac, ↓k_an, ↓k_cs, ↓k_cv, ↓k_fi, ↓k_fr, ↓k_ai, ↓k_az, ↓k_ar, ↓k_sai, ↓k_saz, ↓k_soa, ↓k_sof, ↓k_spf, ↓k_sx, ↓k_blk, ↓k_sset, ↓k_sdec, ↓k_sri, ↓k_srv, ↓k_srr, ↓k_nop, ↓k_add, ↓k_sub, ↓k_mul, ↓k_min, ↓k_max, ↓k_shr, ↓k_shl, ↓k_or, ↓k_ilz, ↓k_addl, ↓k_rt, ↓k_rb, ↓k_rbz, ↓k_rsi, ↓k_rsr, ↓k_rsv, ↓reduceIte, ↓lw, List.length_cons, List.length_nil, List.forall_mem_cons, List.not_mem_nil, Value.category, true_and, and_true, false_and, and_false, or_true, true_or, or_false, false_or, Nat.zero_le, forall_const, implies_true, false_implies, Nat.zero_add, Nat.reduceAdd, Nat.reduceLT, Nat.reduceLeDiff, Nat.le_refl, not_true_eq_false, not_false_eq_true, r_eq, r_ne, r_lt, r_ge, r_gt, r_le, bz_ne, nn_toNat, cn_of, cn_0, cn_1, i10, Int.reduceLE, Int.reduceLT, Int.reduceEq, bz_T, bz_F, ite_self, mulc, st_bud]
  · refine ⟨G', 0, z2, Or.inr ⟨rfl, z1⟩, fun K => ?_⟩
    have lw : ∀ (Kn : List Value → q_M → Prop) (Kr : Option Value → q_M → Prop), wX10_addFilled_0 [.ref o, .ref z, .ref b, .ref a, .int (zI 1), .int (zI 0)] (st T nx 0 0 R G0) Kn Kr = Kn [.ref o, .ref z, .ref b, .ref a, .int (zI 0), .int (zI p')] (st T nx 0 0 R G') := eX10_addFilled_0.eqn (z3 _ _ ⟨rfl, rfl⟩)
    clear kk con sg lf bT bZ n5 n0 f hAt ok hk
    simp (disch := omega) only [↓fX10_addFilled.eq_1, ↓uX10_addFilled, ↓k_mk, ↓k_sq, ↓k_sk, ↓k_bk, ↓k_if, ↓k_te, ↓k_cm, ↓k_cz, ↓k_an2, ↓k_or2, ↓k_no, ↓k_ci, ↓k_l0, ↓k_r0, ↓k_se0, ↓k_ic0, ↓k_l1, ↓k_r1, ↓k_se1, ↓k_ic1, ↓k_de1, ↓k_tk1, ↓k_l2, ↓k_r2, ↓k_se2, ↓k_ic2, ↓k_de2, ↓k_tk2, ↓k_l3, ↓k_r3, ↓k_se3, ↓k_ic3, ↓k_de3, ↓k_tk3, ↓k_l4, ↓k_r4, ↓k_se4, ↓k_ic4, ↓k_de4, ↓k_tk4, ↓k_l5, ↓k_r5, ↓k_se5, ↓k_ic5, ↓k_de5, ↓k_tk5, ↓k_l6, ↓k_r6, ↓k_se6, ↓k_ic6, ↓k_de6, ↓k_tk6, ↓k_l7, ↓k_r7, ↓k_se7, ↓k_ic7, ↓k_de7, ↓k_tk7, ↓k_l8, ↓k_r8, ↓k_se8, ↓k_ic8, ↓k_de8, ↓k_tk8, ↓k_l9, ↓k_r9, ↓k_se9, ↓k_ic9, ↓k_de9, ↓k_tk9, ↓k_l10, ↓k_r10, ↓k_se10, ↓k_ic10, ↓k_de10, ↓k_tk10, ↓k_l11, ↓k_r11, ↓k_se11, ↓k_ic11, ↓k_de11, ↓k_tk11, ↓k_l12, ↓k_r12, ↓k_se12, ↓k_ic12, ↓k_de12, ↓k_tk12, ↓k_l13, ↓k_r13, ↓k_se13, ↓k_ic13, ↓k_de13, ↓k_tk13, ↓k_l14, ↓k_r14, ↓k_se14, ↓k_ic14, ↓k_de14, ↓k_tk14, ↓k_l15, ↓k_r15, ↓k_se15, ↓k_ic15, ↓k_de15, ↓k_tk15, ↓k_l16, ↓k_r16, ↓k_se16, ↓k_ic16, ↓k_de16, ↓k_tk16, ↓k_l17, ↓k_r17, ↓k_se17, ↓k_ic17, ↓k_de17, ↓k_tk17, ↓k_l18, ↓k_r18, ↓k_se18, ↓k_ic18, ↓k_de18, ↓k_tk18, ↓k_l19, ↓k_r19, ↓k_se19, ↓k_ic19, ↓k_de19, ↓k_tk19, ↓k_l20, ↓k_r20, ↓k_se20, ↓k_ic20, ↓k_de20, ↓k_tk20, ↓k_l21, ↓k_r21, ↓k_se21, ↓k_ic21, ↓k_de21, ↓k_tk21, ↓k_l22, ↓k_r22, ↓k_se22, ↓k_ic22, ↓k_de22, ↓k_tk22, ↓k_l23, ↓k_r23, ↓k_se23, ↓k_ic23, ↓k_de23, ↓k_tk23, ↓k_l24, ↓k_r24, ↓k_se24, ↓k_ic24, ↓k_de24, ↓k_tk24, ↓k_l25, ↓k_r25, ↓k_se25, ↓k_ic25, ↓k_de25, ↓k_tk25, ↓k_k, ↓k_kn, ↓k_kl, ↓k_kln, ↓k_il, ↓k_2, ↓k_1, ↓k_2c, ↓k_2l, ↓k_ac, ↓k_an, ↓k_cs, ↓k_cv, ↓k_fi, ↓k_fr, ↓k_ai, ↓k_az, ↓k_ar, ↓k_sai, ↓k_saz, ↓k_soa, ↓k_sof, ↓k_spf, ↓k_sx, ↓k_blk, ↓k_sset, ↓k_sdec, ↓k_sri, ↓k_srv, ↓k_srr, ↓k_nop, ↓k_add, ↓k_sub, ↓k_mul, ↓k_min, ↓k_max, ↓k_shr, ↓k_shl, ↓k_or, ↓k_ilz, ↓k_addl, ↓k_rt, ↓k_rb, ↓k_rbz, ↓k_rsi, ↓k_rsr, ↓k_rsv, ↓reduceIte, ↓lw, List.length_cons, List.length_nil, List.forall_mem_cons, List.not_mem_nil, Value.category, true_and, and_true, false_and, and_false, or_true, true_or, or_false, false_or, Nat.zero_le, forall_const, implies_true, false_implies, Nat.zero_add, Nat.reduceAdd, Nat.reduceLT, Nat.reduceLeDiff, Nat.le_refl, not_true_eq_false, not_false_eq_true, r_eq, r_ne, r_lt, r_ge, r_gt, r_le, bz_ne, nn_toNat, cn_of, cn_0, cn_1, i10, Int.reduceLE, Int.reduceLT, Int.reduceEq, bz_T, bz_F, ite_self, mulc, st_bud]
end
