section
/-! kind: both sides -/
theorem kind_cls {T : Nat → Option q_T} {nx B a j1 j2 j3 j4 : Nat} {R : Nat → Nat → Option Value} {G : Nat → Int → Int} {i v q : Int} (hL : Ly T R B (L11x B j1 j2 j3 j4)) (iFm : IFm G B) (h9 : Ly T R a (L9 a)) (tk : TOK G B 0 i v a) (tN : 1 ≤ G a 3) (oa : a + 10 ≤ B + 46 ∨ B + 56 ≤ a) (a1 : a + 10 ≤ B + 544) (q0 : 0 ≤ q) (q1 : q < G a 2) :
    ∃ (Gc Gd : Nat → Int → Int) (m : Nat), (∀ x, ¬ (B + 46 ≤ x ∧ x ≤ B + 55) → Gc x = G x) ∧ (∀ x, ¬ (B + 46 ≤ x ∧ x ≤ B + 58) → Gd x = G x) ∧ HM Gd (B + 51) (G a 2) (hlL G B a v).length (fun i => (lg (hlL G B a v) i).1) (fun i => (lg (hlL G B a v) i).2.1) (fun i => (lg (hlL G B a v) i).2.2.1) ∧ m < 64 ∧ (∀ k : Nat, k < 6 → (m.testBit k = true ↔ Kd (hlL G B a v).length (fun i => (lg (hlL G B a v) i).1) (fun i => (lg (hlL G B a v) i).2.1) (fun i => (lg (hlL G B a v) i).2.2.1) (fun _ => True) q k)) ∧ (∀ K : Option Value → q_M → Prop, fX11_holdRules [.ref B, .ref a] (st T nx 0 0 R G) K = K none (st T nx 0 0 R Gc)) ∧ (∀ K : Option Value → q_M → Prop, fX2_holdAll [.ref (B + 51)] (st T nx 0 0 R Gc) K = K none (st T nx 0 0 R Gd)) ∧ ∀ K : Option Value → q_M → Prop, fX2_kindOf [.ref (B + 51), .int (zI q)] (st T nx 0 0 R Gd) K = K (some (.int (zI (if 2 ≤ pop m then 9 else kfn m)))) (st T nx 0 0 R Gd) := by
  have oJ := o11_15 hL
  obtain ⟨Gc, hd, s1⟩ := c11_holdRules (T := T) (nx := nx) hL iFm h9 tk tN oa a1
  obtain ⟨Gd, x1, js, s2⟩ := c2_holdAll (T := T) (nx := nx) (rc := 0) (rs := 0) (R := R) oJ hd.2.1
  have hm := HM_off x1 hd.2.1
  have n201 := tk.2.2.2.1.1.2.1
  obtain ⟨m, m64, mb, s3⟩ := c2_kindOf (T := T) (nx := nx) (rc := 0) (rs := 0) (R := R) oJ (show G a 2 ≤ 201 by omega) js q0 q1
  exact ⟨Gc, Gd, m, hd.1, fun x w => by rw [x1 x (by omega) (by omega), hd.1 x (by omega)], hm, m64, mb, s1, s2, s3⟩
theorem kind_ref {T : Nat → Option q_T} {nx B a m : Nat} {R : Nat → Nat → Option Value} {G Gd Gx : Nat → Int → Int} {i v q : Int} (hM : Ly T R (B + 544) (L12 (B + 544))) (i0 : 0 ≤ i) (i1 : i < 32) (iFm : IFm G B) (tk : TOK G B 0 i v a) (tN : 1 ≤ G a 3) (fw : FWB G Gx B) (q0 : 0 ≤ q) (q1 : q < G a 2) (hm : HM Gd (B + 51) (G a 2) (hlL G B a v).length (fun i => (lg (hlL G B a v) i).1) (fun i => (lg (hlL G B a v) i).2.1) (fun i => (lg (hlL G B a v) i).2.2.1)) (m64 : m < 64) (mb : ∀ k : Nat, k < 6 → (m.testBit k = true ↔ Kd (hlL G B a v).length (fun i => (lg (hlL G B a v) i).1) (fun i => (lg (hlL G B a v) i).2.1) (fun i => (lg (hlL G B a v) i).2.2.1) (fun _ => True) q k)) :
    ∃ (Gf Gi : Nat → Int → Int) (f : Nat) (h : Int), HDr G Gx Gf B a v ∧ OF Gf Gi B ∧ f < 2 ∧ (0 ≤ h ∧ h < 220) ∧ Gi (B + 544 + 75) h = m ∧ (∀ K : Option Value → q_M → Prop, fX12_findHeld [.ref (B + 544), .int (zI i)] (st T nx 0 0 R Gx) K = K none (st T nx 0 0 R Gf)) ∧ (∀ K : Option Value → q_M → Prop, fX12_isFault [.ref (B + 544)] (st T nx 0 0 R Gf) K = K (some (.int (zI f))) (st T nx 0 0 R Gi)) ∧ ∀ K : Option Value → q_M → Prop, fX12_top [.ref (B + 544), .int (zI (pn (G (a + 1)) (G (a + 6)) q))] (st T nx 0 0 R Gi) K = K (some (.int (zI h))) (st T nx 0 0 R Gi) := by
  obtain ⟨Gf, hr, t1⟩ := c12_findHeld (T := T) (nx := nx) (R := R) hM i0 i1 iFm tk tN fw
  have ct := CT_of iFm tk tN
  obtain ⟨rh, lg', _, kds, _⟩ := hl_map ct hm hr.2.2
  obtain ⟨Gi, f, ρ, dp, of, uf, kb, f2, _, t2⟩ := c12_isFault (T := T) (nx := nx) (R := R) hM rh lg'
  have nsb : ∀ f, 0 ≤ f → f < G (tvA B v) 1 → G (tvA B v + 5) f ≤ 5 := fun f f0 f1 => by
    obtain ⟨_, fi, fs, _⟩ := (ct.1 v ct.2.1.1 ct.2.1.2).2.2.2 f f0 f1
    have nb := nsl_b (fun k => G (tvA B v + 4) (5 * f + k)) (G (tvA B v + 3) f).toNat
    have fs1 : G (tvA B v + 5) f = nsl (fun k => G (tvA B v + 4) (5 * f + k)) (G (tvA B v + 3) f).toNat := fs.1
    have f3 : 1 ≤ G (tvA B v + 3) f ∧ G (tvA B v + 3) f ≤ 5 := fi.1.2
    omega
  have pb := pn_b tk.2.2.2.1 nsb q0 q1
  obtain ⟨_, hb, _⟩ := uf _ pb.1 pb.2
  obtain ⟨m', m1, m2, m3⟩ := kb _ pb.1 pb.2
  have em : m' = m := by
    refine Nat.eq_of_testBit_eq fun k => ?_
    by_cases hk : k < 6
    · have := ((m3 k hk).trans (kds (fun _ => True) q k q0 q1).symm).trans (mb k hk).symm
      by_cases z : m.testBit k = true
      · rw [z, this.mpr z]
      · have z2 : ¬ m'.testBit k = true := fun w => z (this.mp w)
        rw [Bool.not_eq_true] at z z2
        rw [z, z2]
    · have p6 : 64 ≤ 2 ^ k := Nat.pow_le_pow_right (n := 2) (by omega) (show 6 ≤ k by omega)
      rw [Nat.testBit_lt_two_pow (by omega), Nat.testBit_lt_two_pow (by omega)]
  exact ⟨Gf, Gi, f, ρ (pn (G (a + 1)) (G (a + 6)) q), hr, of, f2, hb, by rw [m1, em], t1, t2, fun K => c12_top hM uf pb.1 pb.2⟩
/-- what is changed -/
theorem kind_inv {T : Nat → Option q_T} {B a : Nat} {R : Nat → Nat → Option Value} {G Gd Gx Gf Gi : Nat → Int → Int} {v : Int} (hI : Inv T R G B) (h1 : ∀ x, ¬ (B + 46 ≤ x ∧ x ≤ B + 58) → Gd x = G x) (h2 : CH Gd Gx B 0 0 0) (h3 : HDr G Gx Gf B a v) (h4 : OF Gf Gi B) : Inv T R Gi B ∧ ∀ x, x < B → Gi x = G x := by
  have off : ∀ x, ¬ (B + 46 ≤ x ∧ x ≤ B + 58) → ¬ (B + 574 ≤ x ∧ x ≤ B + 582) → ¬ ((B + 544 + 69) ≤ x ∧ x ≤ (B + 544 + 75)) → ¬ x = B + 544 → Gi x = G x := fun x q1 q2 q3 q4 => by rw [h4 x (by omega) (by omega), h3.1 x q2 (by omega) q4, h2.1 x q2 q4, h1 x q1]
  have j : ∀ j, ¬ j = 35 → ¬ j = 39 → ¬ j = 84 → Gi (B + 544) j = G (B + 544) j := fun j q1 q2 q3 => by rw [h4 _ (by omega) (by omega), h3.2.1 j q1 q2 q3, h2.2.1 j q1 q2, h1 _ (by omega)]
  exact ⟨Inv_off hI (Or.inl fun x q => off x (by omega) (by omega) (by omega) (by omega)) (Or.inl fun x q => off x (by omega) (by omega) (by omega) (by omega)) (Or.inl fun x q => off x (by omega) (by omega) (by omega) (by omega)) (Or.inl fun x q => off x (by omega) (by omega) (by omega) (by omega)) (Or.inl ⟨by rw [off B (by omega) (by omega) (by omega) (by omega)], j 93 (by omega) (by omega) (by omega)⟩) (Or.inl fun x q => off x (by omega) (by omega) (by omega) (by omega)) (Or.inl fun x q => off x (by omega) (by omega) (by omega) (by omega)) (Or.inl ⟨fun x q => off x (by unfold FRe at q; omega) (by unfold FRe at q; omega) (by unfold FRe at q; omega) (by unfold FRe at q; omega), j 103 (by omega) (by omega) (by omega)⟩), fun x q => off x (by omega) (by omega) (by omega) (by omega)⟩
theorem op_40 (x1 : Int32) (x2 : Int32) (p3 : Prop) [Decidable p3] : OpOK fX11_kind fX12_kind [.int x1, .int x2, .int (zI (bz p3))] := by
  obtain ⟨v1, rfl, a1, b1⟩ := zI_ex x1
  obtain ⟨v2, rfl, a2, b2⟩ := zI_ex x2
  intro T nx B R G hI
  have hI0 := hI
  obtain ⟨⟨j1, j2, j3, j4, hL, hM⟩, iLn, iFm, iTx, iWo, iLa, iSh, iMp, iRe⟩ := hI0
  by_cases hv : (0 ≤ v1 ∧ v1 ≤ 11) ∧ G (B + 398 + 10 * v1.toNat) 0 = 1
  · obtain ⟨tk, tN, _⟩ := ITr_tell1 (iRe.1 v1 hv.1.1 hv.1.2) hv.2
    have tb := TOK_b tk
    have h9 := o11_3 hL (i := v1.toNat) (by omega)
    have oJ := o11_15 hL
    obtain ⟨v, hvv⟩ : ∃ v, v = G (B + 398 + 10 * v1.toNat) 1 := ⟨_, rfl⟩
    rw [← hvv] at tk tb
    have kT := tk.2.2.2.1
    refine op_gen fun K hK => ?_
    by_cases hp : p3
    · sorry
    · rw [bz_f hp]
      by_cases hl : 0 ≤ v2 ∧ v2 ≤ G (B + 398 + 10 * v1.toNat) 3 - 1
      · have l1 : v2 < G (B + 398 + 10 * v1.toNat) 3 := by omega
        obtain ⟨p0, p1, p2, p3', p4⟩ := Tr_m kT hl.1 l1
        obtain ⟨Gc, Gd, m, g1, g2, hm, m64, mb, s1, s2, s3⟩ := kind_cls (T := T) (nx := nx) hL iFm h9 tk tN (by omega) (by omega) p0 p1
        have fw : FWB G Gd B := fun x q1 q2 q3 => g2 x (by omega)
        obtain ⟨Gf, Gi, f, h, hr, of, f2, hb, xk, t1, t2, t3⟩ := kind_ref (T := T) (nx := nx) (R := R) hM hv.1.1 (by omega) iFm tk tN fw p0 p1 hm m64 mb
        have ep : pn (G ((B + 398 + 10 * v1.toNat) + 1)) (G ((B + 398 + 10 * v1.toNat) + 6)) (G ((B + 398 + 10 * v1.toNat) + 7) v2) = v2 := by
          unfold pn
          rw [if_pos p2]
          exact p4
        rw [ep] at t3
        obtain ⟨hI2, lo2⟩ := kind_inv hI g2 (CH_rfl Gd B 0 0 0) hr of
        have lo1 : ∀ x, x < B → Gd x = G x := fun x q => g2 x (by omega)
        have x7 : Gd ((B + 398 + 10 * v1.toNat) + 7) v2 = G ((B + 398 + 10 * v1.toNat) + 7) v2 := by rw [g2 _ (by omega)]
        obtain ⟨pl, hpl⟩ : ∃ pl, pl = G ((B + 398 + 10 * v1.toNat) + 7) v2 := ⟨_, rfl⟩
        rw [← hpl] at s3 x7
        have s3' : ∀ K : Option Value → q_M → Prop, fX2_kindOf [.ref (B + 51), .int (zI (Gd ((B + 398 + 10 * v1.toNat) + 7) v2))] (st T nx 0 0 R Gd) K = K (some (.int (zI (if 2 ≤ pop m then 9 else kfn m)))) (st T nx 0 0 R Gd) := by rw [x7]; exact s3
        have E := rkl_val ⟨m, m64⟩
        obtain ⟨re, hre⟩ : ∃ re : Int, re = if 2 ≤ pop m then 9 else kfn m := ⟨_, rfl⟩
        rw [← hre] at s3 s3'
        have E : (if m = 0 then -1 else if ¬ tq m = 0 then 9 else rkl m 6) = re := by rw [hre]; exact E
        simp (disch := omega) only [↓fX11_kind.eq_1, ↓sX11_kind_.eq_1, ↓(k_cv1 dX11_holdRules (t11 hL)), ↓(k_cv2 dX11_isLeaf (t11 hL)), ↓(k_cv2 dX11_isNode (t11 hL)), ↓k_mk, ↓k_sq, ↓k_sk, ↓k_bk, ↓k_if, ↓k_te, ↓k_cm, ↓k_cz, ↓k_an2, ↓k_or2, ↓k_no, ↓k_ci, ↓k_l0, ↓k_r0, ↓k_se0, ↓k_ic0, ↓k_l1, ↓k_r1, ↓k_se1, ↓k_ic1, ↓k_de1, ↓k_tk1, ↓k_l2, ↓k_r2, ↓k_se2, ↓k_ic2, ↓k_de2, ↓k_tk2, ↓k_l3, ↓k_r3, ↓k_se3, ↓k_ic3, ↓k_de3, ↓k_tk3, ↓k_l4, ↓k_r4, ↓k_se4, ↓k_ic4, ↓k_de4, ↓k_tk4, ↓k_l5, ↓k_r5, ↓k_se5, ↓k_ic5, ↓k_de5, ↓k_tk5, ↓k_l6, ↓k_r6, ↓k_se6, ↓k_ic6, ↓k_de6, ↓k_tk6, ↓k_l7, ↓k_r7, ↓k_se7, ↓k_ic7, ↓k_de7, ↓k_tk7, ↓k_l8, ↓k_r8, ↓k_se8, ↓k_ic8, ↓k_de8, ↓k_tk8, ↓k_l9, ↓k_r9, ↓k_se9, ↓k_ic9, ↓k_de9, ↓k_tk9, ↓k_l10, ↓k_r10, ↓k_se10, ↓k_ic10, ↓k_de10, ↓k_tk10, ↓k_l11, ↓k_r11, ↓k_se11, ↓k_ic11, ↓k_de11, ↓k_tk11, ↓k_l12, ↓k_r12, ↓k_se12, ↓k_ic12, ↓k_de12, ↓k_tk12, ↓k_l13, ↓k_r13, ↓k_se13, ↓k_ic13, ↓k_de13, ↓k_tk13, ↓k_l14, ↓k_r14, ↓k_se14, ↓k_ic14, ↓k_de14, ↓k_tk14, ↓k_l15, ↓k_r15, ↓k_se15, ↓k_ic15, ↓k_de15, ↓k_tk15, ↓k_l16, ↓k_r16, ↓k_se16, ↓k_ic16, ↓k_de16, ↓k_tk16, ↓k_l17, ↓k_r17, ↓k_se17, ↓k_ic17, ↓k_de17, ↓k_tk17, ↓k_l18, ↓k_r18, ↓k_se18, ↓k_ic18, ↓k_de18, ↓k_tk18, ↓k_l19, ↓k_r19, ↓k_se19, ↓k_ic19, ↓k_de19, ↓k_tk19, ↓k_l20, ↓k_r20, ↓k_se20, ↓k_ic20, ↓k_de20, ↓k_tk20, ↓k_l21, ↓k_r21, ↓k_se21, ↓k_ic21, ↓k_de21, ↓k_tk21, ↓k_l22, ↓k_r22, ↓k_se22, ↓k_ic22, ↓k_de22, ↓k_tk22, ↓k_l23, ↓k_r23, ↓k_se23, ↓k_ic23, ↓k_de23, ↓k_tk23, ↓k_l24, ↓k_r24, ↓k_se24, ↓k_ic24, ↓k_de24, ↓k_tk24, ↓k_l25, ↓k_r25, ↓k_se25, ↓k_ic25, ↓k_de25, ↓k_tk25, ↓k_k, ↓k_kn, ↓k_kl, ↓k_kln, ↓k_il, ↓k_2, ↓k_1, ↓k_2c, ↓k_2l, ↓k_ac, ↓k_an, ↓k_cs, ↓k_cv, ↓k_fi, ↓k_fr, ↓k_ai, ↓k_az, ↓k_ar, ↓k_sai, ↓k_saz, ↓k_soa, ↓k_sof, ↓k_spf, ↓k_sx, ↓k_blk, ↓k_sset, ↓k_sdec, ↓k_sri, ↓k_srv, ↓k_srr, ↓k_nop, ↓k_add, ↓k_sub, ↓k_mul, ↓k_min, ↓k_max, ↓k_shr, ↓k_shl, ↓k_or, ↓k_ilz, ↓k_addl, ↓k_rt, ↓k_rb, ↓k_rbz, ↓k_rsi, ↓k_rsr, ↓k_rsv, ↓reduceIte, t11 hL, ↓(c11_isNode hL iRe.1), hv, hl, ↓s1, ↓(k_cv0 dX2_holdAll (t2 oJ)), ↓s2, ↓(k_cv1 dX2_kindOf (t2 oJ)), ↓s3', ↓s3, x7, ↓xr11_3 hL, ↓xu11_3 hL, ↓xr11_15 hL, ↓xr9_11 h9, ↓xa9_11 h9, ↓xs9_11 h9, ↓xo9_11 h9, ↓xc9_11 h9, ↓xd9_11 h9, List.length_cons, List.length_nil, List.forall_mem_cons, List.not_mem_nil, Value.category, true_and, and_true, false_and, and_false, or_true, true_or, or_false, false_or, Nat.zero_le, forall_const, implies_true, false_implies, Nat.zero_add, Nat.reduceAdd, Nat.reduceLT, Nat.reduceLeDiff, Nat.le_refl, not_true_eq_false, not_false_eq_true, r_eq, r_ne, r_lt, r_ge, r_gt, r_le, bz_ne, nn_toNat, cn_of, cn_0, cn_1, i10, Int.reduceLE, Int.reduceLT, Int.reduceEq, bz_T, bz_F, ite_self, mulc, st_bud]
        sorry
      · sorry
  · refine op_gen fun K hK => ?_
    simp (disch := omega) only [↓fX11_kind.eq_1, ↓sX11_kind_.eq_1, ↓(k_cv1 dX11_holdRules (t11 hL)), ↓(k_cv2 dX11_isLeaf (t11 hL)), ↓(k_cv2 dX11_isNode (t11 hL)), ↓k_mk, ↓k_sq, ↓k_sk, ↓k_bk, ↓k_if, ↓k_te, ↓k_cm, ↓k_cz, ↓k_an2, ↓k_or2, ↓k_no, ↓k_ci, ↓k_l0, ↓k_r0, ↓k_se0, ↓k_ic0, ↓k_l1, ↓k_r1, ↓k_se1, ↓k_ic1, ↓k_de1, ↓k_tk1, ↓k_l2, ↓k_r2, ↓k_se2, ↓k_ic2, ↓k_de2, ↓k_tk2, ↓k_l3, ↓k_r3, ↓k_se3, ↓k_ic3, ↓k_de3, ↓k_tk3, ↓k_l4, ↓k_r4, ↓k_se4, ↓k_ic4, ↓k_de4, ↓k_tk4, ↓k_l5, ↓k_r5, ↓k_se5, ↓k_ic5, ↓k_de5, ↓k_tk5, ↓k_l6, ↓k_r6, ↓k_se6, ↓k_ic6, ↓k_de6, ↓k_tk6, ↓k_l7, ↓k_r7, ↓k_se7, ↓k_ic7, ↓k_de7, ↓k_tk7, ↓k_l8, ↓k_r8, ↓k_se8, ↓k_ic8, ↓k_de8, ↓k_tk8, ↓k_l9, ↓k_r9, ↓k_se9, ↓k_ic9, ↓k_de9, ↓k_tk9, ↓k_l10, ↓k_r10, ↓k_se10, ↓k_ic10, ↓k_de10, ↓k_tk10, ↓k_l11, ↓k_r11, ↓k_se11, ↓k_ic11, ↓k_de11, ↓k_tk11, ↓k_l12, ↓k_r12, ↓k_se12, ↓k_ic12, ↓k_de12, ↓k_tk12, ↓k_l13, ↓k_r13, ↓k_se13, ↓k_ic13, ↓k_de13, ↓k_tk13, ↓k_l14, ↓k_r14, ↓k_se14, ↓k_ic14, ↓k_de14, ↓k_tk14, ↓k_l15, ↓k_r15, ↓k_se15, ↓k_ic15, ↓k_de15, ↓k_tk15, ↓k_l16, ↓k_r16, ↓k_se16, ↓k_ic16, ↓k_de16, ↓k_tk16, ↓k_l17, ↓k_r17, ↓k_se17, ↓k_ic17, ↓k_de17, ↓k_tk17, ↓k_l18, ↓k_r18, ↓k_se18, ↓k_ic18, ↓k_de18, ↓k_tk18, ↓k_l19, ↓k_r19, ↓k_se19, ↓k_ic19, ↓k_de19, ↓k_tk19, ↓k_l20, ↓k_r20, ↓k_se20, ↓k_ic20, ↓k_de20, ↓k_tk20, ↓k_l21, ↓k_r21, ↓k_se21, ↓k_ic21, ↓k_de21, ↓k_tk21, ↓k_l22, ↓k_r22, ↓k_se22, ↓k_ic22, ↓k_de22, ↓k_tk22, ↓k_l23, ↓k_r23, ↓k_se23, ↓k_ic23, ↓k_de23, ↓k_tk23, ↓k_l24, ↓k_r24, ↓k_se24, ↓k_ic24, ↓k_de24, ↓k_tk24, ↓k_l25, ↓k_r25, ↓k_se25, ↓k_ic25, ↓k_de25, ↓k_tk25, ↓k_k, ↓k_kn, ↓k_kl, ↓k_kln, ↓k_il, ↓k_2, ↓k_1, ↓k_2c, ↓k_2l, ↓k_ac, ↓k_an, ↓k_cs, ↓k_cv, ↓k_fi, ↓k_fr, ↓k_ai, ↓k_az, ↓k_ar, ↓k_sai, ↓k_saz, ↓k_soa, ↓k_sof, ↓k_spf, ↓k_sx, ↓k_blk, ↓k_sset, ↓k_sdec, ↓k_sri, ↓k_srv, ↓k_srr, ↓k_nop, ↓k_add, ↓k_sub, ↓k_mul, ↓k_min, ↓k_max, ↓k_shr, ↓k_shl, ↓k_or, ↓k_ilz, ↓k_addl, ↓k_rt, ↓k_rb, ↓k_rbz, ↓k_rsi, ↓k_rsr, ↓k_rsv, ↓reduceIte, t11 hL, t12 hM, ↓(c11_isTree hL iRe.1), ↓(c12_isTree hM iRe.1), ↓(c11_isLeaf hL iRe.1), ↓(c11_isNode hL iRe.1), ↓(c12_isNode hM iRe.1), hv, List.length_cons, List.length_nil, List.forall_mem_cons, List.not_mem_nil, Value.category, true_and, and_true, false_and, and_false, or_true, true_or, or_false, false_or, Nat.zero_le, forall_const, implies_true, false_implies, Nat.zero_add, Nat.reduceAdd, Nat.reduceLT, Nat.reduceLeDiff, Nat.le_refl, not_true_eq_false, not_false_eq_true, r_eq, r_ne, r_lt, r_ge, r_gt, r_le, bz_ne, nn_toNat, cn_of, cn_0, cn_1, i10, Int.reduceLE, Int.reduceLT, Int.reduceEq, bz_T, bz_F, ite_self, mulc, st_bud]
    refine hK _ _ ⟨mid_mk (lo_refl _ _ _), op_gen fun K hK => ?_⟩
    rw [st_bud]
    simp (disch := first | omega | (simp (disch := omega) only [gs_ne, flG_ne, wr_ne, cpG_ne])) only [↓fX12_kind.eq_1, ↓uX12_kind, ↓fX12_isLeaf.eq_1, ↓sX12_isLeaf_.eq_1, ↓(k_cs3 dX12_in), ↓(k_cv0 dX12_isFault (t12 hM)), ↓(k_cv1 dX12_findHeld (t12 hM)), ↓(k_cv1 dX12_isTree (t12 hM)), ↓(k_cv1 dX12_top (t12 hM)), ↓(k_cv1 dX12_walk (t12 hM)), ↓(k_cv2 dX12_isLeaf (t12 hM)), ↓(k_cv2 dX12_isNode (t12 hM)), ↓k_mk, ↓k_sq, ↓k_sk, ↓k_bk, ↓k_if, ↓k_te, ↓k_cm, ↓k_cz, ↓k_an2, ↓k_or2, ↓k_no, ↓k_ci, ↓k_l0, ↓k_r0, ↓k_se0, ↓k_ic0, ↓k_l1, ↓k_r1, ↓k_se1, ↓k_ic1, ↓k_de1, ↓k_tk1, ↓k_l2, ↓k_r2, ↓k_se2, ↓k_ic2, ↓k_de2, ↓k_tk2, ↓k_l3, ↓k_r3, ↓k_se3, ↓k_ic3, ↓k_de3, ↓k_tk3, ↓k_l4, ↓k_r4, ↓k_se4, ↓k_ic4, ↓k_de4, ↓k_tk4, ↓k_l5, ↓k_r5, ↓k_se5, ↓k_ic5, ↓k_de5, ↓k_tk5, ↓k_l6, ↓k_r6, ↓k_se6, ↓k_ic6, ↓k_de6, ↓k_tk6, ↓k_l7, ↓k_r7, ↓k_se7, ↓k_ic7, ↓k_de7, ↓k_tk7, ↓k_l8, ↓k_r8, ↓k_se8, ↓k_ic8, ↓k_de8, ↓k_tk8, ↓k_l9, ↓k_r9, ↓k_se9, ↓k_ic9, ↓k_de9, ↓k_tk9, ↓k_l10, ↓k_r10, ↓k_se10, ↓k_ic10, ↓k_de10, ↓k_tk10, ↓k_l11, ↓k_r11, ↓k_se11, ↓k_ic11, ↓k_de11, ↓k_tk11, ↓k_l12, ↓k_r12, ↓k_se12, ↓k_ic12, ↓k_de12, ↓k_tk12, ↓k_l13, ↓k_r13, ↓k_se13, ↓k_ic13, ↓k_de13, ↓k_tk13, ↓k_l14, ↓k_r14, ↓k_se14, ↓k_ic14, ↓k_de14, ↓k_tk14, ↓k_l15, ↓k_r15, ↓k_se15, ↓k_ic15, ↓k_de15, ↓k_tk15, ↓k_l16, ↓k_r16, ↓k_se16, ↓k_ic16, ↓k_de16, ↓k_tk16, ↓k_l17, ↓k_r17, ↓k_se17, ↓k_ic17, ↓k_de17, ↓k_tk17, ↓k_l18, ↓k_r18, ↓k_se18, ↓k_ic18, ↓k_de18, ↓k_tk18, ↓k_l19, ↓k_r19, ↓k_se19, ↓k_ic19, ↓k_de19, ↓k_tk19, ↓k_l20, ↓k_r20, ↓k_se20, ↓k_ic20, ↓k_de20, ↓k_tk20, ↓k_l21, ↓k_r21, ↓k_se21, ↓k_ic21, ↓k_de21, ↓k_tk21, ↓k_l22, ↓k_r22, ↓k_se22, ↓k_ic22, ↓k_de22, ↓k_tk22, ↓k_l23, ↓k_r23, ↓k_se23, ↓k_ic23, ↓k_de23, ↓k_tk23, ↓k_l24, ↓k_r24, ↓k_se24, ↓k_ic24, ↓k_de24, ↓k_tk24, ↓k_l25, ↓k_r25, ↓k_se25, ↓k_ic25, ↓k_de25, ↓k_tk25, ↓k_k, ↓k_kn, ↓k_kl, ↓k_kln, ↓k_il, ↓k_2, ↓k_1, ↓k_2c, ↓k_2l, ↓k_ac, ↓k_an, ↓k_cs, ↓k_cv, ↓k_fi, ↓k_fr, ↓k_ai, ↓k_az, ↓k_ar, ↓k_sai, ↓k_saz, ↓k_soa, ↓k_sof, ↓k_spf, ↓k_sx, ↓k_blk, ↓k_sset, ↓k_sdec, ↓k_sri, ↓k_srv, ↓k_srr, ↓k_nop, ↓k_add, ↓k_sub, ↓k_mul, ↓k_min, ↓k_max, ↓k_shr, ↓k_shl, ↓k_or, ↓k_ilz, ↓k_addl, ↓k_rt, ↓k_rb, ↓k_rbz, ↓k_rsi, ↓k_rsr, ↓k_rsv, ↓reduceIte, t11 hL, t12 hM, ↓(c11_isTree hL iRe.1), ↓(c12_isTree hM iRe.1), ↓(c11_isLeaf hL iRe.1), ↓(c11_isNode hL iRe.1), ↓(c12_isNode hM iRe.1), hv, List.length_cons, List.length_nil, List.forall_mem_cons, List.not_mem_nil, Value.category, true_and, and_true, false_and, and_false, or_true, true_or, or_false, false_or, Nat.zero_le, forall_const, implies_true, false_implies, Nat.zero_add, Nat.reduceAdd, Nat.reduceLT, Nat.reduceLeDiff, Nat.le_refl, not_true_eq_false, not_false_eq_true, r_eq, r_ne, r_lt, r_ge, r_gt, r_le, bz_ne, nn_toNat, cn_of, cn_0, cn_1, i10, Int.reduceLE, Int.reduceLT, Int.reduceEq, bz_T, bz_F, ite_self, mulc, st_bud]
    exact hK _ _ (fin_mk rfl (lo_refl _ _ _) hI)
end
