section
/-! the reference reads: node by node -/
theorem k_p2R {x0 x2 x3 x4 : Value} {v F : Int} {μ : q_M} {K : Int32 → q_M → Prop} : (q_2 q_gisub (q_l 5) (q_2 q_gimul (q_k 14) (q_l 1))) [x0, .int (zI v), x2, x3, x4, .int (zI F)] μ K = K (zI (F - 14 * v)) μ := by
  simp (disch := omega) only [↓k_mk, ↓k_sq, ↓k_sk, ↓k_bk, ↓k_if, ↓k_te, ↓k_cm, ↓k_cz, ↓k_an2, ↓k_or2, ↓k_no, ↓k_ci, ↓k_l0, ↓k_r0, ↓k_se0, ↓k_ic0, ↓k_l1, ↓k_r1, ↓k_se1, ↓k_ic1, ↓k_de1, ↓k_tk1, ↓k_l2, ↓k_r2, ↓k_se2, ↓k_ic2, ↓k_de2, ↓k_tk2, ↓k_l3, ↓k_r3, ↓k_se3, ↓k_ic3, ↓k_de3, ↓k_tk3, ↓k_l4, ↓k_r4, ↓k_se4, ↓k_ic4, ↓k_de4, ↓k_tk4, ↓k_l5, ↓k_r5, ↓k_se5, ↓k_ic5, ↓k_de5, ↓k_tk5, ↓k_l6, ↓k_r6, ↓k_se6, ↓k_ic6, ↓k_de6, ↓k_tk6, ↓k_l7, ↓k_r7, ↓k_se7, ↓k_ic7, ↓k_de7, ↓k_tk7, ↓k_l8, ↓k_r8, ↓k_se8, ↓k_ic8, ↓k_de8, ↓k_tk8, ↓k_l9, ↓k_r9, ↓k_se9, ↓k_ic9, ↓k_de9, ↓k_tk9, ↓k_l10, ↓k_r10, ↓k_se10, ↓k_ic10, ↓k_de10, ↓k_tk10, ↓k_l11, ↓k_r11, ↓k_se11, ↓k_ic11, ↓k_de11, ↓k_tk11, ↓k_l12, ↓k_r12, ↓k_se12, ↓k_ic12, ↓k_de12, ↓k_tk12, ↓k_l13, ↓k_r13, ↓k_se13, ↓k_ic13, ↓k_de13, ↓k_tk13, ↓k_l14, ↓k_r14, ↓k_se14, ↓k_ic14, ↓k_de14, ↓k_tk14, ↓k_l15, ↓k_r15, ↓k_se15, ↓k_ic15, ↓k_de15, ↓k_tk15, ↓k_l16, ↓k_r16, ↓k_se16, ↓k_ic16, ↓k_de16, ↓k_tk16, ↓k_l17, ↓k_r17, ↓k_se17, ↓k_ic17, ↓k_de17, ↓k_tk17, ↓k_l18, ↓k_r18, ↓k_se18, ↓k_ic18, ↓k_de18, ↓k_tk18, ↓k_l19, ↓k_r19, ↓k_se19, ↓k_ic19, ↓k_de19, ↓k_tk19, ↓k_l20, ↓k_r20, ↓k_se20, ↓k_ic20, ↓k_de20, ↓k_tk20, ↓k_l21, ↓k_r21, ↓k_se21, ↓k_ic21, ↓k_de21, ↓k_tk21, ↓k_l22, ↓k_r22, ↓k_se22, ↓k_ic22, ↓k_de22, ↓k_tk22, ↓k_l23, ↓k_r23, ↓k_se23, ↓k_ic23, ↓k_de23, ↓k_tk23, ↓k_l24, ↓k_r24, ↓k_se24, ↓k_ic24, ↓k_de24, ↓k_tk24, ↓k_l25, ↓k_r25, ↓k_se25, ↓k_ic25, ↓k_de25, ↓k_tk25, ↓k_k, ↓k_kn, ↓k_kl, ↓k_kln, ↓k_il, ↓k_2, ↓k_1, ↓k_2c, ↓k_2l, ↓k_ac, ↓k_an, ↓k_cs, ↓k_cv, ↓k_fi, ↓k_fr, ↓k_ai, ↓k_az, ↓k_ar, ↓k_sai, ↓k_saz, ↓k_soa, ↓k_sof, ↓k_spf, ↓k_sx, ↓k_blk, ↓k_sset, ↓k_sdec, ↓k_sri, ↓k_srv, ↓k_srr, ↓k_nop, ↓k_add, ↓k_sub, ↓k_mul, ↓k_min, ↓k_max, ↓k_shr, ↓k_shl, ↓k_or, ↓k_ilz, ↓k_addl, ↓k_rt, ↓k_rb, ↓k_rbz, ↓k_rsi, ↓k_rsr, ↓k_rsv, ↓reduceIte, eq_self, List.length_cons, List.length_nil, List.forall_mem_cons, List.not_mem_nil, Value.category, true_and, and_true, false_and, and_false, or_true, true_or, or_false, false_or, Nat.zero_le, forall_const, implies_true, false_implies, Nat.zero_add, Nat.reduceAdd, Nat.reduceLT, Nat.reduceLeDiff, Nat.le_refl, not_true_eq_false, not_false_eq_true, r_eq, r_ne, r_lt, r_ge, r_gt, r_le, bz_ne, nn_toNat, cn_of, cn_0, cn_1, i10, Int.reduceLE, Int.reduceLT, Int.reduceEq, bz_T, bz_F, ite_self, mulc, st_bud]
theorem k_m50R {T : Nat → Option q_T} {nx B : Nat} {R : Nat → Nat → Option Value} {G : Nat → Int → Int} {W : Int} (hM : Ly T R (B + 544) (L12 (B + 544))) (W0 : 0 ≤ W) (W1 : W < 1000) (h : G (B + 544) 50 = W + 1) {x1 x2 : Value} : ∀ (Kn : List Value → q_M → Prop) (Kr : Option Value → q_M → Prop), q_sof 12 50 q_gisub (q_r 0) (q_k 1) [.ref (B + 544), x1, x2] (st T nx 0 0 R G) Kn Kr = Kn [.ref (B + 544), x1, x2] (st T nx 0 0 R (gs G (B + 544) 50 W)) := by
  intro Kn Kr
  have e : W + 1 - 1 = W := by omega
  simp (disch := omega) only [↓k_mk, ↓k_sq, ↓k_sk, ↓k_bk, ↓k_if, ↓k_te, ↓k_cm, ↓k_cz, ↓k_an2, ↓k_or2, ↓k_no, ↓k_ci, ↓k_l0, ↓k_r0, ↓k_se0, ↓k_ic0, ↓k_l1, ↓k_r1, ↓k_se1, ↓k_ic1, ↓k_de1, ↓k_tk1, ↓k_l2, ↓k_r2, ↓k_se2, ↓k_ic2, ↓k_de2, ↓k_tk2, ↓k_l3, ↓k_r3, ↓k_se3, ↓k_ic3, ↓k_de3, ↓k_tk3, ↓k_l4, ↓k_r4, ↓k_se4, ↓k_ic4, ↓k_de4, ↓k_tk4, ↓k_l5, ↓k_r5, ↓k_se5, ↓k_ic5, ↓k_de5, ↓k_tk5, ↓k_l6, ↓k_r6, ↓k_se6, ↓k_ic6, ↓k_de6, ↓k_tk6, ↓k_l7, ↓k_r7, ↓k_se7, ↓k_ic7, ↓k_de7, ↓k_tk7, ↓k_l8, ↓k_r8, ↓k_se8, ↓k_ic8, ↓k_de8, ↓k_tk8, ↓k_l9, ↓k_r9, ↓k_se9, ↓k_ic9, ↓k_de9, ↓k_tk9, ↓k_l10, ↓k_r10, ↓k_se10, ↓k_ic10, ↓k_de10, ↓k_tk10, ↓k_l11, ↓k_r11, ↓k_se11, ↓k_ic11, ↓k_de11, ↓k_tk11, ↓k_l12, ↓k_r12, ↓k_se12, ↓k_ic12, ↓k_de12, ↓k_tk12, ↓k_l13, ↓k_r13, ↓k_se13, ↓k_ic13, ↓k_de13, ↓k_tk13, ↓k_l14, ↓k_r14, ↓k_se14, ↓k_ic14, ↓k_de14, ↓k_tk14, ↓k_l15, ↓k_r15, ↓k_se15, ↓k_ic15, ↓k_de15, ↓k_tk15, ↓k_l16, ↓k_r16, ↓k_se16, ↓k_ic16, ↓k_de16, ↓k_tk16, ↓k_l17, ↓k_r17, ↓k_se17, ↓k_ic17, ↓k_de17, ↓k_tk17, ↓k_l18, ↓k_r18, ↓k_se18, ↓k_ic18, ↓k_de18, ↓k_tk18, ↓k_l19, ↓k_r19, ↓k_se19, ↓k_ic19, ↓k_de19, ↓k_tk19, ↓k_l20, ↓k_r20, ↓k_se20, ↓k_ic20, ↓k_de20, ↓k_tk20, ↓k_l21, ↓k_r21, ↓k_se21, ↓k_ic21, ↓k_de21, ↓k_tk21, ↓k_l22, ↓k_r22, ↓k_se22, ↓k_ic22, ↓k_de22, ↓k_tk22, ↓k_l23, ↓k_r23, ↓k_se23, ↓k_ic23, ↓k_de23, ↓k_tk23, ↓k_l24, ↓k_r24, ↓k_se24, ↓k_ic24, ↓k_de24, ↓k_tk24, ↓k_l25, ↓k_r25, ↓k_se25, ↓k_ic25, ↓k_de25, ↓k_tk25, ↓k_k, ↓k_kn, ↓k_kl, ↓k_kln, ↓k_il, ↓k_2, ↓k_1, ↓k_2c, ↓k_2l, ↓k_ac, ↓k_an, ↓k_cs, ↓k_cv, ↓k_fi, ↓k_fr, ↓k_ai, ↓k_az, ↓k_ar, ↓k_sai, ↓k_saz, ↓k_soa, ↓k_sof, ↓k_spf, ↓k_sx, ↓k_blk, ↓k_sset, ↓k_sdec, ↓k_sri, ↓k_srv, ↓k_srr, ↓k_nop, ↓k_add, ↓k_sub, ↓k_mul, ↓k_min, ↓k_max, ↓k_shr, ↓k_shl, ↓k_or, ↓k_ilz, ↓k_addl, ↓k_rt, ↓k_rb, ↓k_rbz, ↓k_rsi, ↓k_rsr, ↓k_rsv, ↓reduceIte, h, e, ↓xi12_50 hM, ↓xp12_50 hM, ↓xb12_50 hM, ↓xf12_50 hM, ↓xg12_50 hM, ↓xh12_50 hM, List.length_cons, List.length_nil, List.forall_mem_cons, List.not_mem_nil, Value.category, true_and, and_true, false_and, and_false, or_true, true_or, or_false, false_or, Nat.zero_le, forall_const, implies_true, false_implies, Nat.zero_add, Nat.reduceAdd, Nat.reduceLT, Nat.reduceLeDiff, Nat.le_refl, not_true_eq_false, not_false_eq_true, r_eq, r_ne, r_lt, r_ge, r_gt, r_le, bz_ne, nn_toNat, cn_of, cn_0, cn_1, i10, Int.reduceLE, Int.reduceLT, Int.reduceEq, bz_T, bz_F, ite_self, mulc, st_bud]
/-- one node: it stands, its leaves too, its sorts wait -/
theorem rd_node {T : Nat → Option q_T} {nx B : Nat} {R : Nat → Nat → Option Value} {G0 : Nat → Int → Int} {v nf N : Int} {sf n C X : Int → Int} {ft : Int → Int → Bool} {Q : Int → Int → Int → Int} {ns I c : Int → Int} {kk P L : Nat} {s i j f W : Int} {t : Int × Int} {cc : Nat → Int} {u : Nat → List Int} {G : Nat → Int → Int} (hM : Ly T R (B + 544) (L12 (B + 544))) (trc : TRC G0 B v nf sf n C) (v0 : 0 ≤ v) (v1 : v ≤ 1) (wb : WBr G0 B) (zz : ∀ s x y, 0 ≤ x → x < y → y ≤ N → (Q s x y = 0 ↔ 0 < wyc (G0 (B + 544 + 40)) s x y)) (qn : ∀ s x y, 0 ≤ x → x ≤ y → y ≤ N → 0 ≤ Q s x y ∧ (x = y → 1 ≤ Q s x y)) (hft : ∀ it x, 0 ≤ x → x < N → ft it x = sutB it (X x)) (hX : ∀ x, 0 ≤ x → x < N → G0 (B + 544 + 39) x = X x ∧ -2147483648 ≤ X x ∧ X x < 2147483648) (n16 : N ≤ 16) (hS : ∀ f, 0 ≤ f → f < nf → Fsl n C ns I f) (prL : Pre ns c L) (n5 : ∀ q : Nat, q < L → 1000 ≤ c q → ns (c q - 1000) ≤ 5) (s0 : 0 ≤ s) (s1 : s ≤ 5) (i0 : 0 ≤ i) (ij : i ≤ j) (jN : j ≤ N) (hf : FsF nf sf n C ft Q s i j f) (q0 : Q s i j = 0) (c0 : cc 0 = i) (hcut : ∀ m : Nat, (m : Int) < n f → FsC n C ft Q j f m (cc m) (cc (m + 1))) (hu : ∀ m : Nat, (m : Int) < n f → (C (5 * f + m) ≤ 11 → u m = []) ∧ (11 < C (5 * f + m) → C (5 * f + m) < 60 → u m = [ftc ft X N (C (5 * f + m)) (cc m) (cc (m + 1))]) ∧ (60 ≤ C (5 * f + m) → GW nf sf n C ft Q X N kk (C (5 * f + m) - 60) (cc m) (cc (m + 1)) (u m))) (hA' : At c P ((1000 + f) :: cat u (n f).toNat)) (hPL : P + 1 + (cat u (n f).toNat).length ≤ L)
    (n40 : nb c P ≤ 40) (W0 : 0 ≤ W) (Wd : W + 1 ≤ dd ns c P) (nc : NCr G0 G B) (bs : BS ns c G B 92 v P) (el : EL ns c G B 92 P L (nb c P) 0) (h50 : G (B + 544) 50 = W + 1) (h22 : G (B + 544) 22 = 0) (ht : (tgS ns c P)[0]? = some t) (sp : SP5 G B W s i j t.1 t.2) :
    (nb c P < 40 ∧ ∃ G', NCr G0 G' B ∧ BS ns c G' B 92 v (P + 1) ∧ EL ns c G' B 92 (P + 1) L (nb c (P + 1)) 0 ∧ G' (B + 544) 50 = W + ksl (fun x => C (5 * f + x)) (n f).toNat ∧ G' (B + 544) 22 = 0 ∧ SPl G G' B W ∧ (∀ m : Nat, (m : Int) < n f → 60 ≤ C (5 * f + m) → SP5 G' B (W + (ksl (fun x => C (5 * f + x)) (n f).toNat - 1 - ksl (fun x => C (5 * f + x)) m)) (C (5 * f + m) - 60) (cc m) (cc (m + 1)) (nb c P) (nsl (fun x => C (5 * f + x)) m)) ∧ ∀ (Kn : List Value → q_M → Prop) (Kr : Option Value → q_M → Prop), q_wh wcX12_readInto_0 wsX12_readInto_0 [.ref (B + 544), .int (zI v), .int (zI 92)] (st T nx 0 0 R G') Kn Kr → q_wh wcX12_readInto_0 wsX12_readInto_0 [.ref (B + 544), .int (zI v), .int (zI 92)] (st T nx 0 0 R G) Kn Kr) ∨
    (nb c P = 40 ∧ ∃ G', NCr G0 G' B ∧ G' (B + 544) 22 = 1 ∧ G' (B + 544) 50 = W ∧ ∀ (Kn : List Value → q_M → Prop) (Kr : Option Value → q_M → Prop), q_wh wcX12_readInto_0 wsX12_readInto_0 [.ref (B + 544), .int (zI v), .int (zI 92)] (st T nx 0 0 R G') Kn Kr → q_wh wcX12_readInto_0 wsX12_readInto_0 [.ref (B + 544), .int (zI v), .int (zI 92)] (st T nx 0 0 R G) Kn Kr) := by
  have pr : Pre ns c P := Pre_le prL (by omega)
  have dP : 1 ≤ dd ns c P := by omega
  have room := dd_room (ns := ns) (c := c) (P := P) (fun q hq h => n5 q (by omega) h)
  have hf' := hf
  obtain ⟨⟨f0, f1⟩, _, fe, _⟩ := hf'
  have z0 : rF 1000000 Q ft C n j f 0 i = 0 := by rw [fe]; exact q0
  have trc' := trc
  obtain ⟨t1, t2, t3⟩ := trc'
  obtain ⟨d1, d2, d3, d4, d5⟩ := t3 f f0 f1
  have cP := hA'.1
  have l1 : 1000 ≤ c P := by omega
  have nbP := nb_b c P
  have nbs := nb_s c P
  rw [if_pos l1] at nbs
  have n5P : ∀ q : Nat, q < P → 1000 ≤ c q → ns (c q - 1000) ≤ 5 := fun q hq => n5 q (by omega)
  obtain ⟨z1, z2, z3, z4, z5⟩ := sp
  -- the part is taken
  obtain ⟨G1, e1⟩ : ∃ M, M = gs G (B + 544) 50 W := ⟨_, rfl⟩
  have o1 : ∀ x, ¬ x = B + 544 → G1 x = G x := fun x q => by rw [e1, gs_ne q]
  have j1 : ∀ x, ¬ x = 50 → G1 (B + 544) x = G (B + 544) x := fun x q => by rw [e1, gs_eq, fu_ne q]
  have w1 : G1 (B + 544) 50 = W := by rw [e1]; exact gs_same _ _ _ _
  have nc1 : NCr G G1 B := NCr_of (fun x _ _ q => o1 x q) (fun x _ q => j1 x q)
  have nc01 := NCr_tr nc nc1
  have ms1 := MZr_of nc01
  -- its form
  obtain ⟨G2, a1, a2, a3⟩ := c12_firstForm0 (T := T) (nx := nx) (rc := 0) (rs := 0) (R := R) (G := G1) (Q := Q) (N := N) (X := X) (ft := ft) hM (TRC_fr ms1.1 trc) v0 v1 (by unfold WBr; rw [ms1.2.2]; exact wb) (by rw [ms1.2.2]; exact zz) qn hft (fun x x0 x1 => by rw [ms1.2.1]; exact hX x x0 x1) n16 s0 s1 i0 ij jN hf q0
  have nc2 : NCr G1 G2 B := NCr_of (fun x _ q _ => a1 x q) (fun x _ _ => by rw [a1 _ (by omega)])
  have sPop : ∀ (Kn : List Value → q_M → Prop) (Kr : Option Value → q_M → Prop), q_sof 12 50 q_gisub (q_r 0) (q_k 1) [.ref (B + 544), .int (zI v), .int (zI 92)] (st T nx 0 0 R G) Kn Kr = Kn [.ref (B + 544), .int (zI v), .int (zI 92)] (st T nx 0 0 R G1) := fun Kn Kr => by
    rw [e1]
    exact k_m50R hM W0 (by omega) h50 Kn Kr
  have y1 : G1 (B + 544 + 42) W = s := by rw [o1 _ (by omega)]; exact z1
  have y2 : G1 (B + 544 + 43) W = i := by rw [o1 _ (by omega)]; exact z2
  have y3 : G1 (B + 544 + 44) W = j := by rw [o1 _ (by omega)]; exact z3
  have y4 : G2 (B + 544 + 45) W = t.1 := by rw [a1 _ (by omega), o1 _ (by omega)]; exact z4
  have y5 : G2 (B + 544 + 46) W = t.2 := by rw [a1 _ (by omega), o1 _ (by omega)]; exact z5
  have w2 : G2 (B + 544) 50 = W := by rw [a1 _ (by omega)]; exact w1
  have h22' : G (B + 544) 22 = 0 := h22
  have bs2 : BS ns c G2 B 92 v P := BS_congr (fun x q1 q2 => by rw [a1 x (by omega), o1 x (by omega)]) bs
  have el2 : EL ns c G2 B 92 P L (nb c P) 0 := EL_congr (by rw [a1 _ (by omega), o1 _ (by omega)]) el
  obtain ⟨F, hFf⟩ : ∃ F, F = 14 * v + f := ⟨_, rfl⟩
  rw [← hFf] at a3
  have Fb : 0 ≤ F ∧ F < 28 := by omega
  have eF : F - 14 * v = f := by omega
  have g0 : (0 : Int) < W + 1 := by omega
  have tb : -1 ≤ t.1 ∧ t.1 < 40 ∧ 0 ≤ t.2 ∧ t.2 < 5 := by
    rcases tg_b pr n5P ht with ⟨_, z⟩ | ⟨_, z6, z7, z8, z9⟩
    · rw [z]
      decide
    · omega
  obtain ⟨tn, htn⟩ : ∃ x, x = t.1 := ⟨_, rfl⟩
  obtain ⟨ts, hts⟩ : ∃ x, x = t.2 := ⟨_, rfl⟩
  have sb5 : 0 ≤ s ∧ s ≤ 5 := ⟨s0, s1⟩
  have ijb : 0 ≤ i ∧ i ≤ 16 ∧ 0 ≤ j ∧ j ≤ 16 := by omega
  by_cases hn40 : nb c P < 40
  · obtain ⟨G3, b1, b2, b3, b4, b5⟩ := c12_newNodeR (T := T) (nx := nx) (rc := 0) (rs := 0) (R := R) (G := G2) (i := 92) (v := v) (x := f) hM (by omega) (by omega) pr dP n5P ht bs2 n40 l1 (by omega) (by omega) hn40
    have nc3 : NCr G2 G3 B := NCr_B b1
    have nc03 := NCr_tr nc01 (NCr_tr nc2 nc3)
    have el3 := EL_node prL n5 (by omega) ht b4 el2
    obtain ⟨h, hh⟩ : ∃ h, h = nb c P := ⟨_, rfl⟩
    rw [← hh] at el3 b5
    obtain ⟨Gm, m1, m2, m3, m4, m5, m6, m7, m8, m9⟩ := rd_items (T := T) (nx := nx) (R := R) (G0 := G0) (e := j) (W := W) (F := F) (h := h) (P := P) (L := L) (s := s) (i := i) (j := j) (f := f) hM trc v0 v1 wb zz qn hft hX n16 hS prL n5 i0 ij jN f0 f1 s0 hFf hh (by omega) c0 hcut hu hA' hPL pr dP W0 (by omega) nc03 (by unfold RT; rw [b1.1 (B + 544 + 41) (by omega) (by omega)]; exact a2) z0 b3 el3 (by rw [b2]; exact w2) (by rw [b2, a1 _ (by omega), j1 _ (by omega)]; exact h22) (n f).toNat (by omega)
    have enf : (((n f).toNat : Nat) : Int) = n f := by omega
    rw [enf] at m9
    have kb := ksl_b (fun x => C (5 * f + x)) (n f).toNat
    have sfl := (hS f f0 f1).1
    have nsf : nsl (fun x => C (5 * f + x)) (n f).toNat = ns f := sfl.symm
    have n5f : ns f ≤ 5 := by
      have := n5 P (by omega) l1
      rw [cP, show 1000 + f - 1000 = f by omega] at this
      exact this
    have gn : Gm (B + 544 + 4) F = n f := by rw [(MZr_of m1).1 _ (by omega) (by omega), hFf]; exact d3
    obtain ⟨G4, r1, r2, r3, r4⟩ := c12_turnParts (T := T) (nx := nx) (rc := 0) (rs := 0) (R := R) (G := Gm) (W := W) (S := ksl (fun x => C (5 * f + x)) (n f).toNat) hM W0 kb.1 (by omega) m5
    have nc4 : NCr Gm G4 B := NCr_of (fun x q _ _ => r1 x (by omega)) (fun x _ _ => by rw [r1 _ (by omega)])
    have ell : EL ns c G4 B 92 (P + 1) L (nb c (P + 1)) 0 := by
      refine EL_full prL n5 l1 (EL_congr (r1 _ (by omega)) ?_)
      rw [nsf, hh] at m4
      rw [cP, show 1000 + f - 1000 = f by omega]
      exact m4
    refine Or.inl ⟨hn40, G4, NCr_tr m1 nc4, BS_congr (fun x q1 q2 => r1 x (by omega)) m3, ell, by rw [r1 _ (by omega)]; exact m5, by rw [r1 _ (by omega)]; exact m6, ?_, fun m hm h60 => ?_, fun Kn Kr hk => q_backR (fun K Kf hk2 => ?_) hk⟩
    · have q1 : SPl G G1 B W := SPl_of fun x q1 q2 => o1 x (by omega)
      have q2 : SPl G1 G2 B W := SPl_of fun x q1 q2 => a1 x (by omega)
      have q3 : SPl G2 G3 B W := SPl_of fun x q1 q2 => b1.1 x (by omega) (by omega)
      exact SPl_tr (SPl_tr (SPl_tr (SPl_tr q1 q2 (Int.le_refl _)) q3 (Int.le_refl _)) m7 (Int.le_refl _)) r2 (Int.le_refl _)
    · have km := ksl_b (fun x => C (5 * f + x)) m
      have ks := ksl_s (fun x => C (5 * f + x)) m
      rw [if_pos (by show 60 ≤ C (5 * f + m); exact h60)] at ks
      have kl := ksl_mono (fun x => C (5 * f + x)) (show m + 1 ≤ (n f).toNat by omega)
      have := r3 (ksl (fun x => C (5 * f + x)) m) _ _ _ _ _ km.1 (by omega) (m8 m (by omega) h60)
      rw [hh] at this
      exact this
    · obtain ⟨nff, hnf⟩ : ∃ x, x = n f := ⟨_, rfl⟩
      have nfb : 1 ≤ nff ∧ nff ≤ 5 := by omega
      rw [← hnf] at gn m9
      have lw : ∀ (Kn : List Value → q_M → Prop) (Kr : Option Value → q_M → Prop), wX12_readInto_1 [.ref (B + 544), .int (zI v), .int (zI 92), .int (zI j), .int (zI i), .int (zI F), .int (zI h), .int (zI W), .int (zI 0), .int (zI 0)] (st T nx 0 0 R G3) Kn Kr = Kn [.ref (B + 544), .int (zI v), .int (zI 92), .int (zI j), .int (zI (cc (n f).toNat)), .int (zI F), .int (zI h), .int (zI W), .int (zI (nsl (fun x => C (5 * f + x)) (n f).toNat)), .int (zI nff)] (st T nx 0 0 R Gm) := eX12_readInto_1.eqn (by
        refine m9 _ _ (q_outR (fun Kt Kf hk => ?_) ⟨by rw [hnf], rfl⟩)
        have hz : ¬ nff < nff := by omega
        clear hk2 m9 m1 m2 m3 m4 m5 m6 m7 m8 r1 r2 r3 r4 ell hcut hu hA' hX hft wb zz qn trc t3 d1 d2 d3 d4 d5 hS prL n5 n5P el3 b1 b2 b3 b4 b5 a1 a2 a3 el2 bs2 el bs
        simp (disch := omega) only [↓wcX12_readInto_1.eq_1, ↓k_mk, ↓k_sq, ↓k_sk, ↓k_bk, ↓k_if, ↓k_te, ↓k_cm, ↓k_cz, ↓k_an2, ↓k_or2, ↓k_no, ↓k_ci, ↓k_l0, ↓k_r0, ↓k_se0, ↓k_ic0, ↓k_l1, ↓k_r1, ↓k_se1, ↓k_ic1, ↓k_de1, ↓k_tk1, ↓k_l2, ↓k_r2, ↓k_se2, ↓k_ic2, ↓k_de2, ↓k_tk2, ↓k_l3, ↓k_r3, ↓k_se3, ↓k_ic3, ↓k_de3, ↓k_tk3, ↓k_l4, ↓k_r4, ↓k_se4, ↓k_ic4, ↓k_de4, ↓k_tk4, ↓k_l5, ↓k_r5, ↓k_se5, ↓k_ic5, ↓k_de5, ↓k_tk5, ↓k_l6, ↓k_r6, ↓k_se6, ↓k_ic6, ↓k_de6, ↓k_tk6, ↓k_l7, ↓k_r7, ↓k_se7, ↓k_ic7, ↓k_de7, ↓k_tk7, ↓k_l8, ↓k_r8, ↓k_se8, ↓k_ic8, ↓k_de8, ↓k_tk8, ↓k_l9, ↓k_r9, ↓k_se9, ↓k_ic9, ↓k_de9, ↓k_tk9, ↓k_l10, ↓k_r10, ↓k_se10, ↓k_ic10, ↓k_de10, ↓k_tk10, ↓k_l11, ↓k_r11, ↓k_se11, ↓k_ic11, ↓k_de11, ↓k_tk11, ↓k_l12, ↓k_r12, ↓k_se12, ↓k_ic12, ↓k_de12, ↓k_tk12, ↓k_l13, ↓k_r13, ↓k_se13, ↓k_ic13, ↓k_de13, ↓k_tk13, ↓k_l14, ↓k_r14, ↓k_se14, ↓k_ic14, ↓k_de14, ↓k_tk14, ↓k_l15, ↓k_r15, ↓k_se15, ↓k_ic15, ↓k_de15, ↓k_tk15, ↓k_l16, ↓k_r16, ↓k_se16, ↓k_ic16, ↓k_de16, ↓k_tk16, ↓k_l17, ↓k_r17, ↓k_se17, ↓k_ic17, ↓k_de17, ↓k_tk17, ↓k_l18, ↓k_r18, ↓k_se18, ↓k_ic18, ↓k_de18, ↓k_tk18, ↓k_l19, ↓k_r19, ↓k_se19, ↓k_ic19, ↓k_de19, ↓k_tk19, ↓k_l20, ↓k_r20, ↓k_se20, ↓k_ic20, ↓k_de20, ↓k_tk20, ↓k_l21, ↓k_r21, ↓k_se21, ↓k_ic21, ↓k_de21, ↓k_tk21, ↓k_l22, ↓k_r22, ↓k_se22, ↓k_ic22, ↓k_de22, ↓k_tk22, ↓k_l23, ↓k_r23, ↓k_se23, ↓k_ic23, ↓k_de23, ↓k_tk23, ↓k_l24, ↓k_r24, ↓k_se24, ↓k_ic24, ↓k_de24, ↓k_tk24, ↓k_l25, ↓k_r25, ↓k_se25, ↓k_ic25, ↓k_de25, ↓k_tk25, ↓k_k, ↓k_kn, ↓k_kl, ↓k_kln, ↓k_il, ↓k_2, ↓k_1, ↓k_2c, ↓k_2l, ↓k_ac, ↓k_an, ↓k_cs, ↓k_cv, ↓k_fi, ↓k_fr, ↓k_ai, ↓k_az, ↓k_ar, ↓k_sai, ↓k_saz, ↓k_soa, ↓k_sof, ↓k_spf, ↓k_sx, ↓k_blk, ↓k_sset, ↓k_sdec, ↓k_sri, ↓k_srv, ↓k_srr, ↓k_nop, ↓k_add, ↓k_sub, ↓k_mul, ↓k_min, ↓k_max, ↓k_shr, ↓k_shl, ↓k_or, ↓k_ilz, ↓k_addl, ↓k_rt, ↓k_rb, ↓k_rbz, ↓k_rsi, ↓k_rsr, ↓k_rsv, ↓reduceIte, gn, hz, ↓xr12_3 hM, ↓xa12_3 hM, ↓xs12_3 hM, ↓xo12_3 hM, ↓xc12_3 hM, ↓xd12_3 hM, List.length_cons, List.length_nil, List.forall_mem_cons, List.not_mem_nil, Value.category, true_and, and_true, false_and, and_false, or_true, true_or, or_false, false_or, Nat.zero_le, forall_const, implies_true, false_implies, Nat.zero_add, Nat.reduceAdd, Nat.reduceLT, Nat.reduceLeDiff, Nat.le_refl, not_true_eq_false, not_false_eq_true, r_eq, r_ne, r_lt, r_ge, r_gt, r_le, bz_ne, nn_toNat, cn_of, cn_0, cn_1, i10, Int.reduceLE, Int.reduceLT, Int.reduceEq, bz_T, bz_F, ite_self, mulc, st_bud]
        exact hk)
      have w3 : G3 (B + 544) 50 = W := by rw [b2]; exact w2
      have y4' : G2 (B + 544 + 45) (G2 (B + 544) 50) = t.1 := by rw [w2]; exact y4
      have y5' : G2 (B + 544 + 46) (G2 (B + 544) 50) = t.2 := by rw [w2]; exact y5
      rw [← y4', ← y5'] at b5
      have hb : 0 ≤ h ∧ h < 40 := by omega
      clear m9 m1 m2 m3 m4 m5 m6 m7 m8 r1 r2 r3 ell hcut hu hA' hX hft wb zz qn trc t3 d1 d2 d3 d4 d5 hS prL n5 n5P el3 b1 b2 b3 b4 a1 a2 el2 bs2 el bs nc nc1 nc01 nc2 nc3 nc03 nc4 ms1 hf o1 j1
      simp (disch := omega) only [↓wcX12_readInto_0.eq_1, ↓wsX12_readInto_0.eq_1, ↓(k_cv1 dX12_turnParts (t12 hM)), ↓(k_cv4 dX12_firstForm (t12 hM)), ↓(k_cv4 dX12_newNode (t12 hM)), ↓k_mk, ↓k_sq, ↓k_sk, ↓k_bk, ↓k_if, ↓k_te, ↓k_cm, ↓k_cz, ↓k_an2, ↓k_or2, ↓k_no, ↓k_ci, ↓k_l0, ↓k_r0, ↓k_se0, ↓k_ic0, ↓k_l1, ↓k_r1, ↓k_se1, ↓k_ic1, ↓k_de1, ↓k_tk1, ↓k_l2, ↓k_r2, ↓k_se2, ↓k_ic2, ↓k_de2, ↓k_tk2, ↓k_l3, ↓k_r3, ↓k_se3, ↓k_ic3, ↓k_de3, ↓k_tk3, ↓k_l4, ↓k_r4, ↓k_se4, ↓k_ic4, ↓k_de4, ↓k_tk4, ↓k_l5, ↓k_r5, ↓k_se5, ↓k_ic5, ↓k_de5, ↓k_tk5, ↓k_l6, ↓k_r6, ↓k_se6, ↓k_ic6, ↓k_de6, ↓k_tk6, ↓k_l7, ↓k_r7, ↓k_se7, ↓k_ic7, ↓k_de7, ↓k_tk7, ↓k_l8, ↓k_r8, ↓k_se8, ↓k_ic8, ↓k_de8, ↓k_tk8, ↓k_l9, ↓k_r9, ↓k_se9, ↓k_ic9, ↓k_de9, ↓k_tk9, ↓k_l10, ↓k_r10, ↓k_se10, ↓k_ic10, ↓k_de10, ↓k_tk10, ↓k_l11, ↓k_r11, ↓k_se11, ↓k_ic11, ↓k_de11, ↓k_tk11, ↓k_l12, ↓k_r12, ↓k_se12, ↓k_ic12, ↓k_de12, ↓k_tk12, ↓k_l13, ↓k_r13, ↓k_se13, ↓k_ic13, ↓k_de13, ↓k_tk13, ↓k_l14, ↓k_r14, ↓k_se14, ↓k_ic14, ↓k_de14, ↓k_tk14, ↓k_l15, ↓k_r15, ↓k_se15, ↓k_ic15, ↓k_de15, ↓k_tk15, ↓k_l16, ↓k_r16, ↓k_se16, ↓k_ic16, ↓k_de16, ↓k_tk16, ↓k_l17, ↓k_r17, ↓k_se17, ↓k_ic17, ↓k_de17, ↓k_tk17, ↓k_l18, ↓k_r18, ↓k_se18, ↓k_ic18, ↓k_de18, ↓k_tk18, ↓k_l19, ↓k_r19, ↓k_se19, ↓k_ic19, ↓k_de19, ↓k_tk19, ↓k_l20, ↓k_r20, ↓k_se20, ↓k_ic20, ↓k_de20, ↓k_tk20, ↓k_l21, ↓k_r21, ↓k_se21, ↓k_ic21, ↓k_de21, ↓k_tk21, ↓k_l22, ↓k_r22, ↓k_se22, ↓k_ic22, ↓k_de22, ↓k_tk22, ↓k_l23, ↓k_r23, ↓k_se23, ↓k_ic23, ↓k_de23, ↓k_tk23, ↓k_l24, ↓k_r24, ↓k_se24, ↓k_ic24, ↓k_de24, ↓k_tk24, ↓k_l25, ↓k_r25, ↓k_se25, ↓k_ic25, ↓k_de25, ↓k_tk25, ↓k_k, ↓k_kn, ↓k_kl, ↓k_kln, ↓k_il, ↓k_2, ↓k_1, ↓k_2c, ↓k_2l, ↓k_ac, ↓k_an, ↓k_cs, ↓k_cv, ↓k_fi, ↓k_fr, ↓k_ai, ↓k_az, ↓k_ar, ↓k_sai, ↓k_saz, ↓k_soa, ↓k_spf, ↓k_sx, ↓k_blk, ↓k_sset, ↓k_sdec, ↓k_sri, ↓k_srv, ↓k_srr, ↓k_nop, ↓k_add, ↓k_sub, ↓k_mul, ↓k_min, ↓k_max, ↓k_shr, ↓k_shl, ↓k_or, ↓k_ilz, ↓k_addl, ↓k_rt, ↓k_rb, ↓k_rbz, ↓k_rsi, ↓k_rsr, ↓k_rsv, ↓reduceIte, h50, g0, h22', ↓sPop, w1, y1, y2, y3, ↓(k_cv4 dX12_firstForm (t12 hM)), ↓a3, ↓k_p2R, eF, ↓(k_cv4 dX12_newNode (t12 hM)), ↓b5, w3, ↓lw, ↓(k_cv1 dX12_turnParts (t12 hM)), ↓r4, eq_self, ↓xi12_22 hM, ↓xp12_22 hM, ↓xb12_22 hM, ↓xf12_22 hM, ↓xg12_22 hM, ↓xh12_22 hM, ↓xi12_50 hM, ↓xp12_50 hM, ↓xb12_50 hM, ↓xf12_50 hM, ↓xg12_50 hM, ↓xh12_50 hM, ↓xr12_51 hM, ↓xa12_51 hM, ↓xs12_51 hM, ↓xo12_51 hM, ↓xc12_51 hM, ↓xd12_51 hM, ↓xr12_52 hM, ↓xa12_52 hM, ↓xs12_52 hM, ↓xo12_52 hM, ↓xc12_52 hM, ↓xd12_52 hM, ↓xr12_53 hM, ↓xa12_53 hM, ↓xs12_53 hM, ↓xo12_53 hM, ↓xc12_53 hM, ↓xd12_53 hM, ↓xr12_54 hM, ↓xa12_54 hM, ↓xs12_54 hM, ↓xo12_54 hM, ↓xc12_54 hM, ↓xd12_54 hM, ↓xr12_55 hM, ↓xa12_55 hM, ↓xs12_55 hM, ↓xo12_55 hM, ↓xc12_55 hM, ↓xd12_55 hM, List.length_cons, List.length_nil, List.forall_mem_cons, List.not_mem_nil, Value.category, true_and, and_true, false_and, and_false, or_true, true_or, or_false, false_or, Nat.zero_le, forall_const, implies_true, false_implies, Nat.zero_add, Nat.reduceAdd, Nat.reduceLT, Nat.reduceLeDiff, Nat.le_refl, not_true_eq_false, not_false_eq_true, r_eq, r_ne, r_lt, r_ge, r_gt, r_le, bz_ne, nn_toNat, cn_of, cn_0, cn_1, i10, Int.reduceLE, Int.reduceLT, Int.reduceEq, bz_T, bz_F, ite_self, mulc, st_bud]
      exact hk2
  · have h40 : nb c P = 40 := by omega
    have cN := fun K : Option Value → q_M → Prop => c12_newNodeF (T := T) (nx := nx) (rc := 0) (rs := 0) (R := R) (G := G2) (i := 92) (x := f) (a := t.1) (b := t.2) hM (by omega) (by omega) (by rw [bs2.2.1]; exact h40) K
    obtain ⟨G3, e3⟩ : ∃ M, M = gs G2 (B + 544) 22 1 := ⟨_, rfl⟩
    rw [← e3] at cN
    have w3 : G3 (B + 544) 50 = W := by rw [e3, gs_eq, fu_ne (by omega)]; exact w2
    obtain ⟨G4, r1, r2, r3, r4⟩ := c12_turnParts (T := T) (nx := nx) (rc := 0) (rs := 0) (R := R) (G := G3) (W := W) (S := 0) hM W0 (Int.le_refl _) (by omega) (by rw [w3]; omega)
    have nc3 : NCr G2 G3 B := NCr_of (fun x _ _ q => by rw [e3, gs_ne q]) (fun x q _ => by rw [e3, gs_eq, fu_ne q])
    have nc4 : NCr G3 G4 B := NCr_of (fun x q _ _ => r1 x (by omega)) (fun x _ _ => by rw [r1 _ (by omega)])
    refine Or.inr ⟨h40, G4, NCr_tr nc01 (NCr_tr nc2 (NCr_tr nc3 nc4)), by rw [r1 _ (by omega), e3]; exact gs_same _ _ _ _, by rw [r1 _ (by omega)]; exact w3, fun Kn Kr hk => q_backR (fun K Kf hk2 => ?_) hk⟩
    have gn : G3 (B + 544 + 4) F = n f := by rw [e3, gs_ne (by omega), a1 _ (by omega), ms1.1 _ (by omega) (by omega), hFf]; exact d3
    obtain ⟨nff, hnf⟩ : ∃ x, x = n f := ⟨_, rfl⟩
    have nfb : 1 ≤ nff ∧ nff ≤ 5 := by omega
    rw [← hnf] at gn
    have m1 : ¬ (0 : Int) ≤ -1 := by omega
    have lw : ∀ (Kn : List Value → q_M → Prop) (Kr : Option Value → q_M → Prop), wX12_readInto_1 [.ref (B + 544), .int (zI v), .int (zI 92), .int (zI j), .int (zI i), .int (zI F), .int (zI (-1)), .int (zI W), .int (zI 0), .int (zI 0)] (st T nx 0 0 R G3) Kn Kr = Kn [.ref (B + 544), .int (zI v), .int (zI 92), .int (zI j), .int (zI i), .int (zI F), .int (zI (-1)), .int (zI W), .int (zI 0), .int (zI 0)] (st T nx 0 0 R G3) := eX12_readInto_1.eqn (q_outR (fun Kt Kf hk => by
      have hz : (0 : Int) < nff := by omega
      clear hk2 r1 r2 r3 r4 hcut hu hA' hX hft wb zz qn trc t3 d1 d2 d3 d4 d5 hS prL n5 n5P a1 a2 a3 el2 bs2 el bs
      simp (disch := omega) only [↓wcX12_readInto_1.eq_1, ↓k_mk, ↓k_sq, ↓k_sk, ↓k_bk, ↓k_if, ↓k_te, ↓k_cm, ↓k_cz, ↓k_an2, ↓k_or2, ↓k_no, ↓k_ci, ↓k_l0, ↓k_r0, ↓k_se0, ↓k_ic0, ↓k_l1, ↓k_r1, ↓k_se1, ↓k_ic1, ↓k_de1, ↓k_tk1, ↓k_l2, ↓k_r2, ↓k_se2, ↓k_ic2, ↓k_de2, ↓k_tk2, ↓k_l3, ↓k_r3, ↓k_se3, ↓k_ic3, ↓k_de3, ↓k_tk3, ↓k_l4, ↓k_r4, ↓k_se4, ↓k_ic4, ↓k_de4, ↓k_tk4, ↓k_l5, ↓k_r5, ↓k_se5, ↓k_ic5, ↓k_de5, ↓k_tk5, ↓k_l6, ↓k_r6, ↓k_se6, ↓k_ic6, ↓k_de6, ↓k_tk6, ↓k_l7, ↓k_r7, ↓k_se7, ↓k_ic7, ↓k_de7, ↓k_tk7, ↓k_l8, ↓k_r8, ↓k_se8, ↓k_ic8, ↓k_de8, ↓k_tk8, ↓k_l9, ↓k_r9, ↓k_se9, ↓k_ic9, ↓k_de9, ↓k_tk9, ↓k_l10, ↓k_r10, ↓k_se10, ↓k_ic10, ↓k_de10, ↓k_tk10, ↓k_l11, ↓k_r11, ↓k_se11, ↓k_ic11, ↓k_de11, ↓k_tk11, ↓k_l12, ↓k_r12, ↓k_se12, ↓k_ic12, ↓k_de12, ↓k_tk12, ↓k_l13, ↓k_r13, ↓k_se13, ↓k_ic13, ↓k_de13, ↓k_tk13, ↓k_l14, ↓k_r14, ↓k_se14, ↓k_ic14, ↓k_de14, ↓k_tk14, ↓k_l15, ↓k_r15, ↓k_se15, ↓k_ic15, ↓k_de15, ↓k_tk15, ↓k_l16, ↓k_r16, ↓k_se16, ↓k_ic16, ↓k_de16, ↓k_tk16, ↓k_l17, ↓k_r17, ↓k_se17, ↓k_ic17, ↓k_de17, ↓k_tk17, ↓k_l18, ↓k_r18, ↓k_se18, ↓k_ic18, ↓k_de18, ↓k_tk18, ↓k_l19, ↓k_r19, ↓k_se19, ↓k_ic19, ↓k_de19, ↓k_tk19, ↓k_l20, ↓k_r20, ↓k_se20, ↓k_ic20, ↓k_de20, ↓k_tk20, ↓k_l21, ↓k_r21, ↓k_se21, ↓k_ic21, ↓k_de21, ↓k_tk21, ↓k_l22, ↓k_r22, ↓k_se22, ↓k_ic22, ↓k_de22, ↓k_tk22, ↓k_l23, ↓k_r23, ↓k_se23, ↓k_ic23, ↓k_de23, ↓k_tk23, ↓k_l24, ↓k_r24, ↓k_se24, ↓k_ic24, ↓k_de24, ↓k_tk24, ↓k_l25, ↓k_r25, ↓k_se25, ↓k_ic25, ↓k_de25, ↓k_tk25, ↓k_k, ↓k_kn, ↓k_kl, ↓k_kln, ↓k_il, ↓k_2, ↓k_1, ↓k_2c, ↓k_2l, ↓k_ac, ↓k_an, ↓k_cs, ↓k_cv, ↓k_fi, ↓k_fr, ↓k_ai, ↓k_az, ↓k_ar, ↓k_sai, ↓k_saz, ↓k_soa, ↓k_sof, ↓k_spf, ↓k_sx, ↓k_blk, ↓k_sset, ↓k_sdec, ↓k_sri, ↓k_srv, ↓k_srr, ↓k_nop, ↓k_add, ↓k_sub, ↓k_mul, ↓k_min, ↓k_max, ↓k_shr, ↓k_shl, ↓k_or, ↓k_ilz, ↓k_addl, ↓k_rt, ↓k_rb, ↓k_rbz, ↓k_rsi, ↓k_rsr, ↓k_rsv, ↓reduceIte, gn, hz, m1, ↓xr12_3 hM, ↓xa12_3 hM, ↓xs12_3 hM, ↓xo12_3 hM, ↓xc12_3 hM, ↓xd12_3 hM, List.length_cons, List.length_nil, List.forall_mem_cons, List.not_mem_nil, Value.category, true_and, and_true, false_and, and_false, or_true, true_or, or_false, false_or, Nat.zero_le, forall_const, implies_true, false_implies, Nat.zero_add, Nat.reduceAdd, Nat.reduceLT, Nat.reduceLeDiff, Nat.le_refl, not_true_eq_false, not_false_eq_true, r_eq, r_ne, r_lt, r_ge, r_gt, r_le, bz_ne, nn_toNat, cn_of, cn_0, cn_1, i10, Int.reduceLE, Int.reduceLT, Int.reduceEq, bz_T, bz_F, ite_self, mulc, st_bud]
      exact hk) ⟨rfl, rfl⟩)
    have y4' : G2 (B + 544 + 45) (G2 (B + 544) 50) = t.1 := by rw [w2]; exact y4
    have y5' : G2 (B + 544 + 46) (G2 (B + 544) 50) = t.2 := by rw [w2]; exact y5
    rw [← y4', ← y5'] at cN
    clear r1 r2 r3 hcut hu hA' hX hft wb zz qn trc t3 d1 d2 d3 d4 d5 hS prL n5 n5P a1 a2 el2 bs2 el bs nc nc1 nc01 nc2 nc3 nc4 ms1 hf o1 j1
    simp (disch := omega) only [↓wcX12_readInto_0.eq_1, ↓wsX12_readInto_0.eq_1, ↓(k_cv1 dX12_turnParts (t12 hM)), ↓(k_cv4 dX12_firstForm (t12 hM)), ↓(k_cv4 dX12_newNode (t12 hM)), ↓k_mk, ↓k_sq, ↓k_sk, ↓k_bk, ↓k_if, ↓k_te, ↓k_cm, ↓k_cz, ↓k_an2, ↓k_or2, ↓k_no, ↓k_ci, ↓k_l0, ↓k_r0, ↓k_se0, ↓k_ic0, ↓k_l1, ↓k_r1, ↓k_se1, ↓k_ic1, ↓k_de1, ↓k_tk1, ↓k_l2, ↓k_r2, ↓k_se2, ↓k_ic2, ↓k_de2, ↓k_tk2, ↓k_l3, ↓k_r3, ↓k_se3, ↓k_ic3, ↓k_de3, ↓k_tk3, ↓k_l4, ↓k_r4, ↓k_se4, ↓k_ic4, ↓k_de4, ↓k_tk4, ↓k_l5, ↓k_r5, ↓k_se5, ↓k_ic5, ↓k_de5, ↓k_tk5, ↓k_l6, ↓k_r6, ↓k_se6, ↓k_ic6, ↓k_de6, ↓k_tk6, ↓k_l7, ↓k_r7, ↓k_se7, ↓k_ic7, ↓k_de7, ↓k_tk7, ↓k_l8, ↓k_r8, ↓k_se8, ↓k_ic8, ↓k_de8, ↓k_tk8, ↓k_l9, ↓k_r9, ↓k_se9, ↓k_ic9, ↓k_de9, ↓k_tk9, ↓k_l10, ↓k_r10, ↓k_se10, ↓k_ic10, ↓k_de10, ↓k_tk10, ↓k_l11, ↓k_r11, ↓k_se11, ↓k_ic11, ↓k_de11, ↓k_tk11, ↓k_l12, ↓k_r12, ↓k_se12, ↓k_ic12, ↓k_de12, ↓k_tk12, ↓k_l13, ↓k_r13, ↓k_se13, ↓k_ic13, ↓k_de13, ↓k_tk13, ↓k_l14, ↓k_r14, ↓k_se14, ↓k_ic14, ↓k_de14, ↓k_tk14, ↓k_l15, ↓k_r15, ↓k_se15, ↓k_ic15, ↓k_de15, ↓k_tk15, ↓k_l16, ↓k_r16, ↓k_se16, ↓k_ic16, ↓k_de16, ↓k_tk16, ↓k_l17, ↓k_r17, ↓k_se17, ↓k_ic17, ↓k_de17, ↓k_tk17, ↓k_l18, ↓k_r18, ↓k_se18, ↓k_ic18, ↓k_de18, ↓k_tk18, ↓k_l19, ↓k_r19, ↓k_se19, ↓k_ic19, ↓k_de19, ↓k_tk19, ↓k_l20, ↓k_r20, ↓k_se20, ↓k_ic20, ↓k_de20, ↓k_tk20, ↓k_l21, ↓k_r21, ↓k_se21, ↓k_ic21, ↓k_de21, ↓k_tk21, ↓k_l22, ↓k_r22, ↓k_se22, ↓k_ic22, ↓k_de22, ↓k_tk22, ↓k_l23, ↓k_r23, ↓k_se23, ↓k_ic23, ↓k_de23, ↓k_tk23, ↓k_l24, ↓k_r24, ↓k_se24, ↓k_ic24, ↓k_de24, ↓k_tk24, ↓k_l25, ↓k_r25, ↓k_se25, ↓k_ic25, ↓k_de25, ↓k_tk25, ↓k_k, ↓k_kn, ↓k_kl, ↓k_kln, ↓k_il, ↓k_2, ↓k_1, ↓k_2c, ↓k_2l, ↓k_ac, ↓k_an, ↓k_cs, ↓k_cv, ↓k_fi, ↓k_fr, ↓k_ai, ↓k_az, ↓k_ar, ↓k_sai, ↓k_saz, ↓k_soa, ↓k_spf, ↓k_sx, ↓k_blk, ↓k_sset, ↓k_sdec, ↓k_sri, ↓k_srv, ↓k_srr, ↓k_nop, ↓k_add, ↓k_sub, ↓k_mul, ↓k_min, ↓k_max, ↓k_shr, ↓k_shl, ↓k_or, ↓k_ilz, ↓k_addl, ↓k_rt, ↓k_rb, ↓k_rbz, ↓k_rsi, ↓k_rsr, ↓k_rsv, ↓reduceIte, h50, g0, h22', ↓sPop, w1, y1, y2, y3, ↓(k_cv4 dX12_firstForm (t12 hM)), ↓a3, ↓k_p2R, eF, ↓(k_cv4 dX12_newNode (t12 hM)), ↓cN, w3, ↓lw, ↓(k_cv1 dX12_turnParts (t12 hM)), ↓r4, eq_self, ↓xi12_22 hM, ↓xp12_22 hM, ↓xb12_22 hM, ↓xf12_22 hM, ↓xg12_22 hM, ↓xh12_22 hM, ↓xi12_50 hM, ↓xp12_50 hM, ↓xb12_50 hM, ↓xf12_50 hM, ↓xg12_50 hM, ↓xh12_50 hM, ↓xr12_51 hM, ↓xa12_51 hM, ↓xs12_51 hM, ↓xo12_51 hM, ↓xc12_51 hM, ↓xd12_51 hM, ↓xr12_52 hM, ↓xa12_52 hM, ↓xs12_52 hM, ↓xo12_52 hM, ↓xc12_52 hM, ↓xd12_52 hM, ↓xr12_53 hM, ↓xa12_53 hM, ↓xs12_53 hM, ↓xo12_53 hM, ↓xc12_53 hM, ↓xd12_53 hM, ↓xr12_54 hM, ↓xa12_54 hM, ↓xs12_54 hM, ↓xo12_54 hM, ↓xc12_54 hM, ↓xd12_54 hM, ↓xr12_55 hM, ↓xa12_55 hM, ↓xs12_55 hM, ↓xo12_55 hM, ↓xc12_55 hM, ↓xd12_55 hM, List.length_cons, List.length_nil, List.forall_mem_cons, List.not_mem_nil, Value.category, true_and, and_true, false_and, and_false, or_true, true_or, or_false, false_or, Nat.zero_le, forall_const, implies_true, false_implies, Nat.zero_add, Nat.reduceAdd, Nat.reduceLT, Nat.reduceLeDiff, Nat.le_refl, not_true_eq_false, not_false_eq_true, r_eq, r_ne, r_lt, r_ge, r_gt, r_le, bz_ne, nn_toNat, cn_of, cn_0, cn_1, i10, Int.reduceLE, Int.reduceLT, Int.reduceEq, bz_T, bz_F, ite_self, mulc, st_bud]
    exact hk2
/-- a whole part -/
theorem rd_piece {T : Nat → Option q_T} {nx B : Nat} {R : Nat → Nat → Option Value} {G0 : Nat → Int → Int} {v nf N : Int} {sf n C X : Int → Int} {ft : Int → Int → Bool} {Q : Int → Int → Int → Int} {ns I c : Int → Int} {L : Nat} (hM : Ly T R (B + 544) (L12 (B + 544))) (trc : TRC G0 B v nf sf n C) (v0 : 0 ≤ v) (v1 : v ≤ 1) (wb : WBr G0 B) (zz : ∀ s x y, 0 ≤ x → x < y → y ≤ N → (Q s x y = 0 ↔ 0 < wyc (G0 (B + 544 + 40)) s x y)) (qn : ∀ s x y, 0 ≤ x → x ≤ y → y ≤ N → 0 ≤ Q s x y ∧ (x = y → 1 ≤ Q s x y)) (hft : ∀ it x, 0 ≤ x → x < N → ft it x = sutB it (X x)) (hX : ∀ x, 0 ≤ x → x < N → G0 (B + 544 + 39) x = X x ∧ -2147483648 ≤ X x ∧ X x < 2147483648) (n16 : N ≤ 16) (hS : ∀ f, 0 ≤ f → f < nf → Fsl n C ns I f) (prL : Pre ns c L) (n5 : ∀ q : Nat, q < L → 1000 ≤ c q → ns (c q - 1000) ≤ 5) : ∀ (k : Nat) (s i j : Int) (w : List Int) (P : Nat) (G : Nat → Int → Int) (W : Int), 0 ≤ s → s ≤ 5 → 0 ≤ i → i ≤ j → j ≤ N → GW nf sf n C ft Q X N k s i j w → Q s i j = 0 → At c P w → P + w.length ≤ L → nb c P ≤ 40 → 0 ≤ W → W + 1 ≤ dd ns c P → NCr G0 G B → BS ns c G B 92 v P → EL ns c G B 92 P L (nb c P) 0 → G (B + 544) 50 = W + 1 → G (B + 544) 22 = 0 → (∀ t, (tgS ns c P)[0]? = some t → SP5 G B W s i j t.1 t.2) →
    (nb c (P + w.length) ≤ 40 ∧ ∃ G', NCr G0 G' B ∧ BS ns c G' B 92 v (P + w.length) ∧ EL ns c G' B 92 (P + w.length) L (nb c (P + w.length)) 0 ∧ G' (B + 544) 50 = W ∧ G' (B + 544) 22 = 0 ∧ SPl G G' B W ∧ ∀ (Kn : List Value → q_M → Prop) (Kr : Option Value → q_M → Prop), q_wh wcX12_readInto_0 wsX12_readInto_0 [.ref (B + 544), .int (zI v), .int (zI 92)] (st T nx 0 0 R G') Kn Kr → q_wh wcX12_readInto_0 wsX12_readInto_0 [.ref (B + 544), .int (zI v), .int (zI 92)] (st T nx 0 0 R G) Kn Kr) ∨
    (40 < nb c (P + w.length) ∧ ∃ G', NCr G0 G' B ∧ G' (B + 544) 22 = 1 ∧ (0 ≤ G' (B + 544) 50 ∧ G' (B + 544) 50 < 220) ∧ ∀ (Kn : List Value → q_M → Prop) (Kr : Option Value → q_M → Prop), q_wh wcX12_readInto_0 wsX12_readInto_0 [.ref (B + 544), .int (zI v), .int (zI 92)] (st T nx 0 0 R G') Kn Kr → q_wh wcX12_readInto_0 wsX12_readInto_0 [.ref (B + 544), .int (zI v), .int (zI 92)] (st T nx 0 0 R G) Kn Kr) := by
  intro k
  induction k with
  | zero => intro s i j w P G W _ _ _ _ _ h; exact h.elim
  | succ k ih =>
    intro s i j w P G W s0 s1 i0 ij jN h q0 hA' hPL n40 W0 Wd nc bs el h50 h22 hsp
    have pr : Pre ns c P := Pre_le prL (by omega)
    have dP : 1 ≤ dd ns c P := by omega
    have room := dd_room (ns := ns) (c := c) (P := P) (fun q hq h => n5 q (by omega) h)
    obtain ⟨t, ht, _⟩ := tg_some pr dP
    have sp := hsp t ht
    obtain ⟨f, hf, cc, u, c0, hcut, hw, hu⟩ := h
    subst hw
    have hf' := hf
    obtain ⟨⟨f0, f1⟩, _, fe, _⟩ := hf'
    have z0 : rF 1000000 Q ft C n j f 0 i = 0 := by rw [fe]; exact q0
    have zc := cuts_zero (C := C) (n := n) (f := f) (j := j) qn i0 ij jN c0 hcut z0
    have lenc : ((1000 + f) :: cat u (n f).toNat).length = (cat u (n f).toNat).length + 1 := List.length_cons
    have trc' := trc
    obtain ⟨t1, t2, t3⟩ := trc'
    have hC : ∀ f m, 0 ≤ f → f < nf → 0 ≤ m → m < n f → itR (C (5 * f + m)) := fun f m f0 f1 m0 m1 => ((t3 f f0 f1).2.2.2.2 m m0 m1).2
    have n1 : ∀ f, 0 ≤ f → f < nf → 1 ≤ n f := fun f f0 f1 => (t3 f f0 f1).2.2.2.1.1
    have hn1 := n1 f f0 f1
    have l1 : 1000 ≤ c P := by rw [hA'.1]; omega
    have nbs := nb_s c P
    rw [if_pos l1] at nbs
    have mono0 := nb_mono c (show P + 1 ≤ P + ((1000 + f) :: cat u (n f).toNat).length by omega)
    have kids := gw_kids hft n16 hC hS n1 i0 ij jN f0 f1 s0 c0 hcut hu hA' pr dP
    rcases rd_node (T := T) (nx := nx) (R := R) (G0 := G0) (P := P) (L := L) (G := G) hM trc v0 v1 wb zz qn hft hX n16 hS prL n5 s0 s1 i0 ij jN hf q0 c0 hcut hu hA' (by omega) n40 W0 Wd nc bs el h50 h22 ht sp with ⟨lt, G1, a1, a2, a3, a4, a5, a6, a7, a8⟩ | ⟨e40, G1, a1, a2, a3, a4⟩
    · obtain ⟨S, hS'⟩ : ∃ S, S = ksl (fun x => C (5 * f + x)) (n f).toNat := ⟨_, rfl⟩
      rw [← hS'] at a4 a7
      have sfl := (hS f f0 f1).1
      have hA2 := hA'.2
      have key : ∀ m : Nat, (m : Int) ≤ n f → (nb c (P + 1 + (cat u m).length) ≤ 40 ∧ ∃ Gm, NCr G0 Gm B ∧ BS ns c Gm B 92 v (P + 1 + (cat u m).length) ∧ EL ns c Gm B 92 (P + 1 + (cat u m).length) L (nb c (P + 1 + (cat u m).length)) 0 ∧ Gm (B + 544) 50 = W + (S - ksl (fun x => C (5 * f + x)) m) ∧ Gm (B + 544) 22 = 0 ∧ SPl G1 Gm B (W + (S - ksl (fun x => C (5 * f + x)) m)) ∧ ∀ (Kn : List Value → q_M → Prop) (Kr : Option Value → q_M → Prop), q_wh wcX12_readInto_0 wsX12_readInto_0 [.ref (B + 544), .int (zI v), .int (zI 92)] (st T nx 0 0 R Gm) Kn Kr → q_wh wcX12_readInto_0 wsX12_readInto_0 [.ref (B + 544), .int (zI v), .int (zI 92)] (st T nx 0 0 R G) Kn Kr) ∨
          (40 < nb c (P + ((1000 + f) :: cat u (n f).toNat).length) ∧ ∃ Gm, NCr G0 Gm B ∧ Gm (B + 544) 22 = 1 ∧ (0 ≤ Gm (B + 544) 50 ∧ Gm (B + 544) 50 < 220) ∧ ∀ (Kn : List Value → q_M → Prop) (Kr : Option Value → q_M → Prop), q_wh wcX12_readInto_0 wsX12_readInto_0 [.ref (B + 544), .int (zI v), .int (zI 92)] (st T nx 0 0 R Gm) Kn Kr → q_wh wcX12_readInto_0 wsX12_readInto_0 [.ref (B + 544), .int (zI v), .int (zI 92)] (st T nx 0 0 R G) Kn Kr) := by
        intro m
        induction m with
        | zero =>
          intro _
          have ks0 : ksl (fun x => C (5 * f + x)) 0 = 0 := rfl
          refine Or.inl ⟨by show nb c (P + 1 + 0) ≤ 40; rw [Nat.add_zero]; omega, G1, a1, a2, a3, by rw [ks0, a4]; omega, a5, fun _ _ => ⟨rfl, rfl, rfl, rfl, rfl⟩, a8⟩
        | succ m ihm =>
          intro hm
          rcases ihm (by omega) with ⟨b0, Gm, b1, b2, b3, b4, b5, b6, b7⟩ | z
          · obtain ⟨⟨k1, k2⟩, kw⟩ := kids m (by omega)
            obtain ⟨u1, u2, u3⟩ := hu m (by omega)
            have q1 := (hcut m (by omega)).1
            have ir := hC f m f0 f1 (by omega) (by omega)
            obtain ⟨rr', hr⟩ := cat_pre u (show m + 1 ≤ (n f).toNat by omega)
            have hA3 := hA2
            rw [hr, At_app, cat_s, At_app] at hA3
            have len2 : (cat u (m + 1)).length ≤ (cat u (n f).toNat).length := by rw [hr, List.length_append]; omega
            have len3 : P + 1 + (cat u (m + 1)).length = P + 1 + (cat u m).length + (u m).length := by rw [cat_s, List.length_append]; omega
            have mo3 := nb_mono c (show P + 1 + (cat u (m + 1)).length ≤ P + ((1000 + f) :: cat u (n f).toNat).length by omega)
            have nb5 := nsl_b (fun x => C (5 * f + x)) m
            have kb5 := ksl_b (fun x => C (5 * f + x)) m
            have kle := ksl_mono (fun x => C (5 * f + x)) (show m + 1 ≤ (n f).toNat by omega)
            have ks := ksl_s (fun x => C (5 * f + x)) m
            by_cases hword : C (5 * f + m) ≤ 11
            · have u0 := u1 hword
              rw [if_neg (by show ¬ 60 ≤ C (5 * f + m); omega)] at ks
              rw [ks, cat_s, u0, List.append_nil, Int.add_zero]
              exact Or.inl ⟨b0, Gm, b1, b2, b3, b4, b5, b6, b7⟩
            · have nw' : ¬ (0 ≤ (fun x => C (5 * f + x)) (m : Int) ∧ (fun x => C (5 * f + x)) (m : Int) ≤ 11) := by
                show ¬ (0 ≤ C (5 * f + m) ∧ C (5 * f + m) ≤ 11)
                omega
              have en : nsl (fun x => C (5 * f + x)) (m + 1) = nsl (fun x => C (5 * f + x)) m + 1 := nsl_n _ nw'
              have nmo := nsl_mono (fun x => C (5 * f + x)) (show m + 1 ≤ (n f).toNat by omega)
              have nlt : nsl (fun x => C (5 * f + x)) m < ns f := by
                rw [en] at nmo
                rw [sfl]
                omega
              have hY := gw_head kw nlt
              have kwd := kw.2.1
              rw [show (1000 + f) - 1000 = f by omega] at kwd
              by_cases h60 : 60 ≤ C (5 * f + m)
              · rw [if_pos (by show 60 ≤ C (5 * f + m); omega)] at ks
                have kl2 := ksl_le (fun x => C (5 * f + x)) (show m ≤ (n f).toNat by omega)
                have sfl' : nsl (fun x => C (5 * f + x)) (n f).toNat = ns f := sfl.symm
                have res := ih (C (5 * f + m) - 60) (cc m) (cc (m + 1)) (u m) (P + 1 + (cat u m).length) Gm (W + (S - ksl (fun x => C (5 * f + x)) (m + 1))) (by omega) (by unfold itR at ir; omega) (by omega) q1.1 (by omega) (u3 h60) (by
                  have := (cut_zero qn (by omega) jN (hcut m (by omega)) (zc m (by omega)).1).2.1
                  rw [itP_sort h60] at this
                  exact this) hA3.1.2 (by omega) b0 (by omega) (by omega) b1 b2 b3 (by rw [b4]; omega) b5 (fun t' ht' => by
                  rw [hY] at ht'
                  injection ht' with ht'
                  subst ht'
                  have := SP5_lo b6 (by omega) (a7 m (by omega) h60)
                  rw [show W + (S - 1 - ksl (fun x => C (5 * f + x)) m) = W + (S - ksl (fun x => C (5 * f + x)) (m + 1)) by omega] at this
                  exact this)
                rw [← len3] at res
                rcases res with ⟨r0, G2, r1, r2, r3, r4, r5, r6, r7⟩ | ⟨r0, G2, r1, r2, r3, r4⟩
                · exact Or.inl ⟨r0, G2, r1, r2, r3, r4, r5, fun x hx => by
                    obtain ⟨y1, y2, y3, y4, y5⟩ := r6 x hx
                    rw [y1, y2, y3, y4, y5]
                    exact b6 x (by omega), fun Kn Kr hk => b7 Kn Kr (r7 Kn Kr hk)⟩
                · exact Or.inr ⟨by omega, G2, r1, r2, r3, fun Kn Kr hk => b7 Kn Kr (r4 Kn Kr hk)⟩
              · have um := u2 (by omega) (by omega)
                rw [if_neg (by show ¬ 60 ≤ C (5 * f + m); omega)] at ks
                obtain ⟨o1, o2, o3⟩ := ftc_ok (X := X) (N := N) (it := C (5 * f + m)) (p := cc m) (q := cc (m + 1)) hft (by omega) q1.1 (by omega) n16 (by
                  unfold itR at ir
                  omega)
                have hA4 := hA3.1.2
                rw [um] at hA4
                have cY := hA4.1
                have lenp : (u m).length = 1 := by rw [um]; rfl
                have lf : ¬ 1000 ≤ c ((P + 1 + (cat u m).length : Nat) : Int) := by rw [cY]; omega
                obtain ⟨s2, s3⟩ := BS_pass prL n5 (by omega) (by omega) lf b2 b3
                have nbY := nb_s c (P + 1 + (cat u m).length)
                rw [if_neg lf] at nbY
                rw [len3, lenp, ks, Int.add_zero]
                exact Or.inl ⟨by omega, Gm, b1, s2, s3, b4, b5, b6, b7⟩
          · exact Or.inr z
      rcases key (n f).toNat (by omega) with ⟨b0, Gm, b1, b2, b3, b4, b5, b6, b7⟩ | z
      · have eL : P + 1 + (cat u (n f).toNat).length = P + ((1000 + f) :: cat u (n f).toNat).length := by omega
        rw [eL] at b0 b2 b3
        refine Or.inl ⟨b0, Gm, b1, b2, b3, by rw [b4, hS']; omega, b5, ?_, b7⟩
        rw [hS'] at b6
        rw [show W + (ksl (fun x => C (5 * f + x)) (n f).toNat - ksl (fun x => C (5 * f + x)) (n f).toNat) = W by omega] at b6
        exact SPl_tr a6 b6 (Int.le_refl _)
      · exact Or.inr z
    · exact Or.inr ⟨by omega, G1, a1, a2, ⟨by omega, by omega⟩, a4⟩
end
