section
/-! keep -/
def BecV (G G' : Nat → Int → Int) (a b : Nat) : Prop := (G' a 1 = G b 1 ∧ G' a 2 = G b 2 ∧ G' a 3 = G b 3 ∧ G' a 4 = G b 4) ∧ (∀ p, 0 ≤ p → p < G b 2 → G' (a + 1) p = G (b + 1) p ∧ G' (a + 2) p = G (b + 2) p ∧ G' (a + 3) p = G (b + 3) p ∧ G' (a + 4) p = G (b + 4) p ∧ G' (a + 6) p = G (b + 6) p) ∧ (∀ m, 0 ≤ m → m < G b 3 → G' (a + 7) m = G (b + 7) m) ∧ ∀ l, 0 ≤ l → l < G b 4 → G' (a + 8) l = G (b + 8) l
def CptV (G G' : Nat → Int → Int) (B : Nat) (f t : Int) : Prop := (G' (B + 544 + 16) t = G (B + 544 + 16) f ∧ G' (B + 544 + 17) t = G (B + 544 + 17) f ∧ G' (B + 544 + 18) t = G (B + 544 + 18) f) ∧ (∀ k, 0 ≤ k → k < 40 → G' (B + 544 + 19) (40 * t + k) = G (B + 544 + 19) (40 * f + k) ∧ G' (B + 544 + 20) (40 * t + k) = G (B + 544 + 20) (40 * f + k)) ∧ ∀ k, 0 ≤ k → k < 200 → G' (B + 544 + 21) (200 * t + k) = G (B + 544 + 21) (200 * f + k)
theorem BecV_of {G G0 G1 G2 : Nat → Int → Int} {a b : Nat} (h : Bec G0 G1 a b) (h1 : ∀ x, b ≤ x → x < b + 9 → G0 x = G x) (h2 : ∀ x, a ≤ x → x < a + 9 → G2 x = G1 x) : BecV G G2 a b := by
  obtain ⟨_, b2, b6, b7, b8, _, _⟩ := h
  rw [h1 b (by omega) (by omega)] at b2 b6 b7 b8
  rw [h1 (b + 1) (by omega) (by omega), h1 (b + 2) (by omega) (by omega), h1 (b + 3) (by omega) (by omega), h1 (b + 4) (by omega) (by omega), h1 (b + 6) (by omega) (by omega)] at b6
  rw [h1 (b + 7) (by omega) (by omega)] at b7
  rw [h1 (b + 8) (by omega) (by omega)] at b8
  unfold BecV
  rw [h2 a (by omega) (by omega), h2 (a + 1) (by omega) (by omega), h2 (a + 2) (by omega) (by omega), h2 (a + 3) (by omega) (by omega), h2 (a + 4) (by omega) (by omega), h2 (a + 6) (by omega) (by omega), h2 (a + 7) (by omega) (by omega), h2 (a + 8) (by omega) (by omega)]
  exact ⟨b2, b6, b7, b8⟩
theorem RowE_sl {G G' : Nat → Int → Int} {B : Nat} {i k : Int} (h : RowE G G' B i) (q1 : 0 ≤ k) (q2 : k < 200) : G' (B + 544 + 21) (200 * i + k) = G (B + 544 + 21) (200 * i + k) := (h.2.2.2 (40 * i + k / 5) (by omega) (by omega)).2.2 _ (by omega) (by omega)
theorem CptV_of {G G1 G2 G3 : Nat → Int → Int} {B : Nat} {f t : Int} (h : Cpt G1 G2 B f t) (h1 : RowE G G1 B f) (h2 : RowE G2 G3 B t) : CptV G G3 B f t := by
  obtain ⟨c1, c2, c3, _, _⟩ := h
  refine ⟨⟨?_, ?_, ?_⟩, fun k q1 q2 => ⟨?_, ?_⟩, fun k q1 q2 => ?_⟩
  · rw [h2.1, c1.1, h1.1]
  · rw [h2.2.1, c1.2.1, h1.2.1]
  · rw [h2.2.2.1, c1.2.2, h1.2.2.1]
  · rw [(h2.2.2.2 _ (by omega) (by omega)).1, (c2 k q1 q2).1, (h1.2.2.2 _ (by omega) (by omega)).1]
  · rw [(h2.2.2.2 _ (by omega) (by omega)).2.1, (c2 k q1 q2).2.1, (h1.2.2.2 _ (by omega) (by omega)).2.1]
  · rw [RowE_sl h2 q1 q2, c3 k q1 q2, RowE_sl h1 q1 q2]
theorem RowE_rfl (G : Nat → Int → Int) (B : Nat) (i : Int) : RowE G G B i := ⟨rfl, rfl, rfl, fun _ _ _ => ⟨rfl, rfl, fun _ _ _ => rfl⟩⟩
theorem RowE_trans {G G1 G2 : Nat → Int → Int} {B : Nat} {i : Int} (h : RowE G G1 B i) (h' : RowE G1 G2 B i) : RowE G G2 B i := ⟨h'.1.trans h.1, h'.2.1.trans h.2.1, h'.2.2.1.trans h.2.2.1, fun m q1 q2 => ⟨(h'.2.2.2 m q1 q2).1.trans (h.2.2.2 m q1 q2).1, (h'.2.2.2 m q1 q2).2.1.trans (h.2.2.2 m q1 q2).2.1, fun k q3 q4 => ((h'.2.2.2 m q1 q2).2.2 k q3 q4).trans ((h.2.2.2 m q1 q2).2.2 k q3 q4)⟩⟩
theorem TOK_val {G G2 : Nat → Int → Int} {B a b : Nat} {h f t v : Int} (hF : IFm G B) (tv : ∀ x, B + 370 ≤ x → x < B + 398 → G2 x = G x) (hb : BecV G G2 a b) (hc : CptV G G2 B f t) (k : TOK G B h f v b) : TOK G2 B h t v a := by
  obtain ⟨k1, k2, k3, k4, k5⟩ := k
  obtain ⟨c1, c2, c3⟩ := hc
  obtain ⟨⟨b2, b3, b4, b5⟩, b6, b7, b8⟩ := hb
  have e1 : G2 (tvA B v) = G (tvA B v) := tv _ (by unfold tvA; omega) (by unfold tvA; omega)
  have e5 : G2 (tvA B v + 5) = G (tvA B v + 5) := tv _ (by unfold tvA; omega) (by unfold tvA; omega)
  have e6 : G2 (tvA B v + 6) = G (tvA B v + 6) := tv _ (by unfold tvA; omega) (by unfold tvA; omega)
  have ns5 : ∀ x, 0 ≤ x → x < G (tvA B v) 1 → G (tvA B v + 5) x ≤ 5 := fun x q1 q2 => by
    have fs := FR_sl ((hF v k3.1 k3.2).2.2.2 x q1 q2)
    unfold tvA
    omega
  refine ⟨?_, ?_, k3, ?_, ?_⟩
  · rw [b2]
    exact k1
  · rw [c1.1]
    exact k2
  · unfold TRa
    rw [e1, e5, e6, b3, b4, b5]
    exact Tr_copy k4 b6 b7 b8
  · unfold RLa
    rw [e5, b4]
    exact Rl_copy (la' := G2 (a + 8)) k4 b6 b7 ns5 c1.2.1 c1.2.2 c2 c3 k5
theorem Cpt_lo {G G' : Nat → Int → Int} {B x : Nat} {f t : Int} (h : Cpt G G' B f t) (q : x < B + 560 ∨ B + 567 ≤ x) : G' x = G x := h.2.2.2.2 x (by omega) (by omega) (by omega) (by omega) (by omega) (by omega) (by omega)
theorem TOK_copy {G G1 G2 : Nat → Int → Int} {B a b : Nat} {h f t v : Int} (hF : IFm G B) (ha : B ≤ a ∧ a + 10 ≤ B + 544) (hat : a + 10 ≤ B + 370 ∨ B + 398 ≤ a) (hb : Bec G G1 a b) (hc : Cpt G1 G2 B f t) (k : TOK G B h f v b) : TOK G2 B h t v a := by
  have b10 := hb.2.2.2.2.2.2
  exact TOK_val hF (fun x q1 q2 => by rw [Cpt_lo hc (by omega), b10 x (by omega)]) (BecV_of hb (fun _ _ _ => rfl) (fun x q1 q2 => Cpt_lo hc (by omega))) (CptV_of hc (RowE_of fun x q1 q2 => b10 x (by omega)) (RowE_rfl _ _ _)) k
/-- tree j becomes what lies at b and in row f -/
theorem IRe_keep {G G1 G2 : Nat → Int → Int} {B b : Nat} {f j v : Int} (hI : IRe G B) (hF : IFm G B) (j0 : 0 ≤ j) (j1 : j ≤ 11) (hb : Bec G G1 (B + 398 + 10 * j.toNat) b) (hc : Cpt G1 G2 B f j) (k : TOK G B 0 f v b) (kN : 1 ≤ G b 3) : IRe G2 B := by
  have kk := TOK_copy hF ⟨by omega, by omega⟩ (Or.inr (by omega)) hb hc k
  have k3 := k.2.2.1
  have k0 := k.1
  obtain ⟨c1, c2, c3, c4, c5⟩ := hc
  obtain ⟨b1, ⟨b2, b3, b4, b5⟩, b6, b7, b8, b9, b10⟩ := hb
  have lo : ∀ x, x < B + 544 → G2 x = G1 x := fun x q => c5 x (by omega) (by omega) (by omega) (by omega) (by omega) (by omega) (by omega)
  have hi : ∀ x, B + 544 ≤ x → G1 x = G x := fun x q => b10 x (by omega)
  have e1 : G2 (B + 398 + 10 * j.toNat) 1 = v := by rw [lo _ (by omega), b2]; exact k0
  refine IRe_tree j0 j1 hI hF (fun x q1 q2 => ?_) (fun i q1 q2 q3 => ?_) (fun i m q1 q2 q3 q4 q5 => ?_) ?_ ?_ ?_ ⟨by omega, Or.inr ⟨?_, ?_, ?_, fun m q1 q2 => ?_⟩⟩
  · rw [lo x (by omega), b10 x q2]
  · have r := (c4 i q3).1
    unfold RowE at r ⊢
    rw [hi (B + 544 + 16) (by omega), hi (B + 544 + 17) (by omega), hi (B + 544 + 18) (by omega), hi (B + 544 + 19) (by omega), hi (B + 544 + 20) (by omega), hi (B + 544 + 21) (by omega)] at r
    exact r
  · rw [(c4 i q3).2 m q4 q5, hi _ (by omega)]
  · rw [c5 _ (by omega) (by omega) (by omega) (by omega) (by omega) (by omega) (by omega), hi _ (by omega)]
  · rw [c5 _ (by omega) (by omega) (by omega) (by omega) (by omega) (by omega) (by omega), hi _ (by omega)]
  · rw [c5 _ (by omega) (by omega) (by omega) (by omega) (by omega) (by omega) (by omega), hi _ (by omega)]
  · rw [lo _ (by omega)]
    exact b1
  · rw [e1]
    exact kk
  · rw [lo _ (by omega), b4]
    exact kN
  · have N4 := (TOK_b kk).2.2.2.2.2.2.2.2.1
    have d := (c2 m q1 (by omega)).2.2
    rw [d, lo (B + 398 + 10 * j.toNat + 9) (by omega), b9 m (by omega)]
    omega
theorem op_28 (x1 : Int32) (x2 : Int32) : OpOK fX11_keep fX12_keep [.int x1, .int x2] := by
  obtain ⟨v1, rfl, a1, b1⟩ := zI_ex x1
  obtain ⟨v2, rfl, a2, b2⟩ := zI_ex x2
  intro T nx B R G hI
  have hI0 := hI
  obtain ⟨⟨t1, t2, t3, t4, hL, hM⟩, iLn, iFm, iTx, iWo, iLa, iSh, iMp, iRe⟩ := hI0
  by_cases hv : 0 ≤ v1 ∧ v1 ≤ 11
  · by_cases hw : (0 ≤ v2 ∧ v2 ≤ 11) ∧ G (B + 398 + 10 * v2.toNat) 0 = 1
    · obtain ⟨tk, tN, tp⟩ := ITr_tell1 (iRe.1 v2 hw.1.1 hw.1.2) hw.2
      have tb := TOK_b tk
      have o1 := o11_3 hL (i := v1.toNat) (by omega)
      have o2 := o11_3 hL (i := v2.toNat) (by omega)
      obtain ⟨G1, hb, e1⟩ := c9_become (nx := nx) (rc := 0) (rs := 0) (G := G) o1 o2 (by omega) (by omega) (by omega) (by omega)
      obtain ⟨G2, hc, e2⟩ := c12_copyTree (nx := nx) (rc := 0) (rs := 0) (R := R) (T := T) (G := G1) (f := v2) (t := v1) hM hw.1.1 (by omega) hv.1 (by omega)
      have bx := hb.2.2.2.2.2.2
      have cx := hc.2.2.2.2
      have eT : G1 (B + 544 + 16) = G (B + 544 + 16) := bx _ (by omega)
      have eA : G2 (B + 544 + 17) v1 = G1 (B + 398 + 10 * v1.toNat) 3 := by rw [hc.1.2.1, bx _ (by omega), hb.2.1.2.2.1]; exact tb.2.2.2.2.1
      have x3 := hb.2.1.2.2.1
      refine op_gen fun K hK => ?_
      simp (disch := omega) only [↓fX11_keep.eq_1, ↓sX11_keep_.eq_1, ↓(k_cs1 dX11_isTreeNumber), ↓(k_cv1 dX11_isTree (t11 hL)), ↓(k_cv1 dX9_become (t9 o1)), ↓k_mk, ↓k_sq, ↓k_sk, ↓k_bk, ↓k_if, ↓k_te, ↓k_cm, ↓k_cz, ↓k_an2, ↓k_or2, ↓k_no, ↓k_ci, ↓k_l0, ↓k_r0, ↓k_se0, ↓k_ic0, ↓k_l1, ↓k_r1, ↓k_se1, ↓k_ic1, ↓k_de1, ↓k_tk1, ↓k_l2, ↓k_r2, ↓k_se2, ↓k_ic2, ↓k_de2, ↓k_tk2, ↓k_l3, ↓k_r3, ↓k_se3, ↓k_ic3, ↓k_de3, ↓k_tk3, ↓k_l4, ↓k_r4, ↓k_se4, ↓k_ic4, ↓k_de4, ↓k_tk4, ↓k_l5, ↓k_r5, ↓k_se5, ↓k_ic5, ↓k_de5, ↓k_tk5, ↓k_l6, ↓k_r6, ↓k_se6, ↓k_ic6, ↓k_de6, ↓k_tk6, ↓k_l7, ↓k_r7, ↓k_se7, ↓k_ic7, ↓k_de7, ↓k_tk7, ↓k_l8, ↓k_r8, ↓k_se8, ↓k_ic8, ↓k_de8, ↓k_tk8, ↓k_l9, ↓k_r9, ↓k_se9, ↓k_ic9, ↓k_de9, ↓k_tk9, ↓k_l10, ↓k_r10, ↓k_se10, ↓k_ic10, ↓k_de10, ↓k_tk10, ↓k_l11, ↓k_r11, ↓k_se11, ↓k_ic11, ↓k_de11, ↓k_tk11, ↓k_l12, ↓k_r12, ↓k_se12, ↓k_ic12, ↓k_de12, ↓k_tk12, ↓k_l13, ↓k_r13, ↓k_se13, ↓k_ic13, ↓k_de13, ↓k_tk13, ↓k_l14, ↓k_r14, ↓k_se14, ↓k_ic14, ↓k_de14, ↓k_tk14, ↓k_l15, ↓k_r15, ↓k_se15, ↓k_ic15, ↓k_de15, ↓k_tk15, ↓k_l16, ↓k_r16, ↓k_se16, ↓k_ic16, ↓k_de16, ↓k_tk16, ↓k_l17, ↓k_r17, ↓k_se17, ↓k_ic17, ↓k_de17, ↓k_tk17, ↓k_l18, ↓k_r18, ↓k_se18, ↓k_ic18, ↓k_de18, ↓k_tk18, ↓k_l19, ↓k_r19, ↓k_se19, ↓k_ic19, ↓k_de19, ↓k_tk19, ↓k_l20, ↓k_r20, ↓k_se20, ↓k_ic20, ↓k_de20, ↓k_tk20, ↓k_l21, ↓k_r21, ↓k_se21, ↓k_ic21, ↓k_de21, ↓k_tk21, ↓k_l22, ↓k_r22, ↓k_se22, ↓k_ic22, ↓k_de22, ↓k_tk22, ↓k_l23, ↓k_r23, ↓k_se23, ↓k_ic23, ↓k_de23, ↓k_tk23, ↓k_l24, ↓k_r24, ↓k_se24, ↓k_ic24, ↓k_de24, ↓k_tk24, ↓k_l25, ↓k_r25, ↓k_se25, ↓k_ic25, ↓k_de25, ↓k_tk25, ↓k_k, ↓k_kn, ↓k_kl, ↓k_kln, ↓k_il, ↓k_2, ↓k_1, ↓k_2c, ↓k_2l, ↓k_ac, ↓k_an, ↓k_cs, ↓k_cv, ↓k_fi, ↓k_fr, ↓k_ai, ↓k_az, ↓k_ar, ↓k_sai, ↓k_saz, ↓k_soa, ↓k_sof, ↓k_spf, ↓k_sx, ↓k_blk, ↓k_sset, ↓k_sdec, ↓k_sri, ↓k_srv, ↓k_srr, ↓k_nop, ↓k_add, ↓k_sub, ↓k_mul, ↓k_min, ↓k_max, ↓k_shr, ↓k_shl, ↓k_or, ↓k_ilz, ↓k_addl, ↓k_rt, ↓k_rb, ↓k_rbz, ↓k_rsi, ↓k_rsr, ↓k_rsv, ↓reduceIte, t9 o1, ↓c11_isTreeNumber, ↓(c11_isTree hL iRe.1), hv, hw, ↓e1, ↓xr11_3 hL, ↓xu11_3 hL, ↓xi9_3 o1, ↓xp9_3 o1, ↓xb9_3 o1, ↓xf9_3 o1, ↓xg9_3 o1, ↓xh9_3 o1, List.length_cons, List.length_nil, List.forall_mem_cons, List.not_mem_nil, Value.category, true_and, and_true, false_and, and_false, or_true, true_or, or_false, false_or, Nat.zero_le, forall_const, implies_true, false_implies, Nat.zero_add, Nat.reduceAdd, Nat.reduceLT, Nat.reduceLeDiff, Nat.le_refl, not_true_eq_false, not_false_eq_true, r_eq, r_ne, r_lt, r_ge, r_gt, r_le, bz_ne, nn_toNat, cn_of, cn_0, cn_1, i10, Int.reduceLE, Int.reduceLT, Int.reduceEq, bz_T, bz_F, ite_self, mulc, st_bud]
      refine hK _ _ ⟨mid_mk (fun x hx => ⟨rfl, bx x (by omega)⟩), op_gen fun K hK => ?_⟩
      rw [st_bud]
      simp (disch := omega) only [↓fX12_keep.eq_1, ↓sX12_keep_.eq_1, ↓(k_cs1 dX12_isPlace), ↓(k_cv1 dX12_isTree (t12 hM)), ↓(k_cv2 dX12_copyTree (t12 hM)), ↓k_mk, ↓k_sq, ↓k_sk, ↓k_bk, ↓k_if, ↓k_te, ↓k_cm, ↓k_cz, ↓k_an2, ↓k_or2, ↓k_no, ↓k_ci, ↓k_l0, ↓k_r0, ↓k_se0, ↓k_ic0, ↓k_l1, ↓k_r1, ↓k_se1, ↓k_ic1, ↓k_de1, ↓k_tk1, ↓k_l2, ↓k_r2, ↓k_se2, ↓k_ic2, ↓k_de2, ↓k_tk2, ↓k_l3, ↓k_r3, ↓k_se3, ↓k_ic3, ↓k_de3, ↓k_tk3, ↓k_l4, ↓k_r4, ↓k_se4, ↓k_ic4, ↓k_de4, ↓k_tk4, ↓k_l5, ↓k_r5, ↓k_se5, ↓k_ic5, ↓k_de5, ↓k_tk5, ↓k_l6, ↓k_r6, ↓k_se6, ↓k_ic6, ↓k_de6, ↓k_tk6, ↓k_l7, ↓k_r7, ↓k_se7, ↓k_ic7, ↓k_de7, ↓k_tk7, ↓k_l8, ↓k_r8, ↓k_se8, ↓k_ic8, ↓k_de8, ↓k_tk8, ↓k_l9, ↓k_r9, ↓k_se9, ↓k_ic9, ↓k_de9, ↓k_tk9, ↓k_l10, ↓k_r10, ↓k_se10, ↓k_ic10, ↓k_de10, ↓k_tk10, ↓k_l11, ↓k_r11, ↓k_se11, ↓k_ic11, ↓k_de11, ↓k_tk11, ↓k_l12, ↓k_r12, ↓k_se12, ↓k_ic12, ↓k_de12, ↓k_tk12, ↓k_l13, ↓k_r13, ↓k_se13, ↓k_ic13, ↓k_de13, ↓k_tk13, ↓k_l14, ↓k_r14, ↓k_se14, ↓k_ic14, ↓k_de14, ↓k_tk14, ↓k_l15, ↓k_r15, ↓k_se15, ↓k_ic15, ↓k_de15, ↓k_tk15, ↓k_l16, ↓k_r16, ↓k_se16, ↓k_ic16, ↓k_de16, ↓k_tk16, ↓k_l17, ↓k_r17, ↓k_se17, ↓k_ic17, ↓k_de17, ↓k_tk17, ↓k_l18, ↓k_r18, ↓k_se18, ↓k_ic18, ↓k_de18, ↓k_tk18, ↓k_l19, ↓k_r19, ↓k_se19, ↓k_ic19, ↓k_de19, ↓k_tk19, ↓k_l20, ↓k_r20, ↓k_se20, ↓k_ic20, ↓k_de20, ↓k_tk20, ↓k_l21, ↓k_r21, ↓k_se21, ↓k_ic21, ↓k_de21, ↓k_tk21, ↓k_l22, ↓k_r22, ↓k_se22, ↓k_ic22, ↓k_de22, ↓k_tk22, ↓k_l23, ↓k_r23, ↓k_se23, ↓k_ic23, ↓k_de23, ↓k_tk23, ↓k_l24, ↓k_r24, ↓k_se24, ↓k_ic24, ↓k_de24, ↓k_tk24, ↓k_l25, ↓k_r25, ↓k_se25, ↓k_ic25, ↓k_de25, ↓k_tk25, ↓k_k, ↓k_kn, ↓k_kl, ↓k_kln, ↓k_il, ↓k_2, ↓k_1, ↓k_2c, ↓k_2l, ↓k_ac, ↓k_an, ↓k_cs, ↓k_cv, ↓k_fi, ↓k_fr, ↓k_ai, ↓k_az, ↓k_ar, ↓k_sai, ↓k_saz, ↓k_soa, ↓k_sof, ↓k_spf, ↓k_sx, ↓k_blk, ↓k_sset, ↓k_sdec, ↓k_sri, ↓k_srv, ↓k_srr, ↓k_nop, ↓k_add, ↓k_sub, ↓k_mul, ↓k_min, ↓k_max, ↓k_shr, ↓k_shl, ↓k_or, ↓k_ilz, ↓k_addl, ↓k_rt, ↓k_rb, ↓k_rbz, ↓k_rsi, ↓k_rsr, ↓k_rsv, ↓reduceIte, t12 hM, ↓c12_isPlace, ↓(c12_isTreeX hM iRe.1 eT), hv, hw, ↓e2, ↓xr12_16 hM, ↓xa12_16 hM, ↓xs12_16 hM, ↓xo12_16 hM, ↓xc12_16 hM, ↓xd12_16 hM, List.length_cons, List.length_nil, List.forall_mem_cons, List.not_mem_nil, Value.category, true_and, and_true, false_and, and_false, or_true, true_or, or_false, false_or, Nat.zero_le, forall_const, implies_true, false_implies, Nat.zero_add, Nat.reduceAdd, Nat.reduceLT, Nat.reduceLeDiff, Nat.le_refl, not_true_eq_false, not_false_eq_true, r_eq, r_ne, r_lt, r_ge, r_gt, r_le, bz_ne, nn_toNat, cn_of, cn_0, cn_1, i10, Int.reduceLE, Int.reduceLT, Int.reduceEq, bz_T, bz_F, ite_self, mulc, st_bud]
      refine hK _ _ (fin_mk eA (fun x hx => ⟨rfl, by rw [cx x (by omega) (by omega) (by omega) (by omega) (by omega) (by omega) (by omega), bx x (by omega)]⟩) ?_)
      have off : ∀ x, (¬ (B + 398 + 10 * v1.toNat ≤ x ∧ x < B + 398 + 10 * v1.toNat + 10) ∧ (x < B + 560 ∨ B + 567 ≤ x)) → G2 x = G x := fun x q => by rw [Cpt_lo hc q.2, bx x q.1]
      exact Inv_off hI (Or.inl fun a ha => off a (by omega)) (Or.inl fun a ha => off a (by omega)) (Or.inl fun a ha => off a (by omega)) (Or.inl fun a ha => off a (by omega)) (Or.inl ⟨by rw [off B (by omega)], by rw [off (B + 544) (by omega)]⟩) (Or.inl fun a ha => off a (by omega)) (Or.inl fun a ha => off a (by omega)) (Or.inr (IRe_keep iRe iFm hv.1 hv.2 hb hc tk tN))
    · refine op_gen fun K hK => ?_
      simp (disch := omega) only [↓fX11_keep.eq_1, ↓sX11_keep_.eq_1, ↓(k_cs1 dX11_isTreeNumber), ↓(k_cv1 dX11_isTree (t11 hL)), ↓k_mk, ↓k_sq, ↓k_sk, ↓k_bk, ↓k_if, ↓k_te, ↓k_cm, ↓k_cz, ↓k_an2, ↓k_or2, ↓k_no, ↓k_ci, ↓k_l0, ↓k_r0, ↓k_se0, ↓k_ic0, ↓k_l1, ↓k_r1, ↓k_se1, ↓k_ic1, ↓k_de1, ↓k_tk1, ↓k_l2, ↓k_r2, ↓k_se2, ↓k_ic2, ↓k_de2, ↓k_tk2, ↓k_l3, ↓k_r3, ↓k_se3, ↓k_ic3, ↓k_de3, ↓k_tk3, ↓k_l4, ↓k_r4, ↓k_se4, ↓k_ic4, ↓k_de4, ↓k_tk4, ↓k_l5, ↓k_r5, ↓k_se5, ↓k_ic5, ↓k_de5, ↓k_tk5, ↓k_l6, ↓k_r6, ↓k_se6, ↓k_ic6, ↓k_de6, ↓k_tk6, ↓k_l7, ↓k_r7, ↓k_se7, ↓k_ic7, ↓k_de7, ↓k_tk7, ↓k_l8, ↓k_r8, ↓k_se8, ↓k_ic8, ↓k_de8, ↓k_tk8, ↓k_l9, ↓k_r9, ↓k_se9, ↓k_ic9, ↓k_de9, ↓k_tk9, ↓k_l10, ↓k_r10, ↓k_se10, ↓k_ic10, ↓k_de10, ↓k_tk10, ↓k_l11, ↓k_r11, ↓k_se11, ↓k_ic11, ↓k_de11, ↓k_tk11, ↓k_l12, ↓k_r12, ↓k_se12, ↓k_ic12, ↓k_de12, ↓k_tk12, ↓k_l13, ↓k_r13, ↓k_se13, ↓k_ic13, ↓k_de13, ↓k_tk13, ↓k_l14, ↓k_r14, ↓k_se14, ↓k_ic14, ↓k_de14, ↓k_tk14, ↓k_l15, ↓k_r15, ↓k_se15, ↓k_ic15, ↓k_de15, ↓k_tk15, ↓k_l16, ↓k_r16, ↓k_se16, ↓k_ic16, ↓k_de16, ↓k_tk16, ↓k_l17, ↓k_r17, ↓k_se17, ↓k_ic17, ↓k_de17, ↓k_tk17, ↓k_l18, ↓k_r18, ↓k_se18, ↓k_ic18, ↓k_de18, ↓k_tk18, ↓k_l19, ↓k_r19, ↓k_se19, ↓k_ic19, ↓k_de19, ↓k_tk19, ↓k_l20, ↓k_r20, ↓k_se20, ↓k_ic20, ↓k_de20, ↓k_tk20, ↓k_l21, ↓k_r21, ↓k_se21, ↓k_ic21, ↓k_de21, ↓k_tk21, ↓k_l22, ↓k_r22, ↓k_se22, ↓k_ic22, ↓k_de22, ↓k_tk22, ↓k_l23, ↓k_r23, ↓k_se23, ↓k_ic23, ↓k_de23, ↓k_tk23, ↓k_l24, ↓k_r24, ↓k_se24, ↓k_ic24, ↓k_de24, ↓k_tk24, ↓k_l25, ↓k_r25, ↓k_se25, ↓k_ic25, ↓k_de25, ↓k_tk25, ↓k_k, ↓k_kn, ↓k_kl, ↓k_kln, ↓k_il, ↓k_2, ↓k_1, ↓k_2c, ↓k_2l, ↓k_ac, ↓k_an, ↓k_cs, ↓k_cv, ↓k_fi, ↓k_fr, ↓k_ai, ↓k_az, ↓k_ar, ↓k_sai, ↓k_saz, ↓k_soa, ↓k_sof, ↓k_spf, ↓k_sx, ↓k_blk, ↓k_sset, ↓k_sdec, ↓k_sri, ↓k_srv, ↓k_srr, ↓k_nop, ↓k_add, ↓k_sub, ↓k_mul, ↓k_min, ↓k_max, ↓k_shr, ↓k_shl, ↓k_or, ↓k_ilz, ↓k_addl, ↓k_rt, ↓k_rb, ↓k_rbz, ↓k_rsi, ↓k_rsr, ↓k_rsv, ↓reduceIte, t11 hL, t12 hM, ↓c11_isTreeNumber, ↓c12_isPlace, ↓(c11_isTree hL iRe.1), ↓(c12_isTree hM iRe.1), hv, hw, List.length_cons, List.length_nil, List.forall_mem_cons, List.not_mem_nil, Value.category, true_and, and_true, false_and, and_false, or_true, true_or, or_false, false_or, Nat.zero_le, forall_const, implies_true, false_implies, Nat.zero_add, Nat.reduceAdd, Nat.reduceLT, Nat.reduceLeDiff, Nat.le_refl, not_true_eq_false, not_false_eq_true, r_eq, r_ne, r_lt, r_ge, r_gt, r_le, bz_ne, nn_toNat, cn_of, cn_0, cn_1, i10, Int.reduceLE, Int.reduceLT, Int.reduceEq, bz_T, bz_F, ite_self, mulc, st_bud]
      refine hK _ _ ⟨mid_mk (lo_refl _ _ _), op_gen fun K hK => ?_⟩
      rw [st_bud]
      simp (disch := first | omega | (simp (disch := omega) only [gs_ne, flG_ne, wr_ne, cpG_ne])) only [↓fX12_keep.eq_1, ↓sX12_keep_.eq_1, ↓(k_cs1 dX12_isPlace), ↓(k_cv1 dX12_isTree (t12 hM)), ↓(k_cv2 dX12_copyTree (t12 hM)), ↓k_mk, ↓k_sq, ↓k_sk, ↓k_bk, ↓k_if, ↓k_te, ↓k_cm, ↓k_cz, ↓k_an2, ↓k_or2, ↓k_no, ↓k_ci, ↓k_l0, ↓k_r0, ↓k_se0, ↓k_ic0, ↓k_l1, ↓k_r1, ↓k_se1, ↓k_ic1, ↓k_de1, ↓k_tk1, ↓k_l2, ↓k_r2, ↓k_se2, ↓k_ic2, ↓k_de2, ↓k_tk2, ↓k_l3, ↓k_r3, ↓k_se3, ↓k_ic3, ↓k_de3, ↓k_tk3, ↓k_l4, ↓k_r4, ↓k_se4, ↓k_ic4, ↓k_de4, ↓k_tk4, ↓k_l5, ↓k_r5, ↓k_se5, ↓k_ic5, ↓k_de5, ↓k_tk5, ↓k_l6, ↓k_r6, ↓k_se6, ↓k_ic6, ↓k_de6, ↓k_tk6, ↓k_l7, ↓k_r7, ↓k_se7, ↓k_ic7, ↓k_de7, ↓k_tk7, ↓k_l8, ↓k_r8, ↓k_se8, ↓k_ic8, ↓k_de8, ↓k_tk8, ↓k_l9, ↓k_r9, ↓k_se9, ↓k_ic9, ↓k_de9, ↓k_tk9, ↓k_l10, ↓k_r10, ↓k_se10, ↓k_ic10, ↓k_de10, ↓k_tk10, ↓k_l11, ↓k_r11, ↓k_se11, ↓k_ic11, ↓k_de11, ↓k_tk11, ↓k_l12, ↓k_r12, ↓k_se12, ↓k_ic12, ↓k_de12, ↓k_tk12, ↓k_l13, ↓k_r13, ↓k_se13, ↓k_ic13, ↓k_de13, ↓k_tk13, ↓k_l14, ↓k_r14, ↓k_se14, ↓k_ic14, ↓k_de14, ↓k_tk14, ↓k_l15, ↓k_r15, ↓k_se15, ↓k_ic15, ↓k_de15, ↓k_tk15, ↓k_l16, ↓k_r16, ↓k_se16, ↓k_ic16, ↓k_de16, ↓k_tk16, ↓k_l17, ↓k_r17, ↓k_se17, ↓k_ic17, ↓k_de17, ↓k_tk17, ↓k_l18, ↓k_r18, ↓k_se18, ↓k_ic18, ↓k_de18, ↓k_tk18, ↓k_l19, ↓k_r19, ↓k_se19, ↓k_ic19, ↓k_de19, ↓k_tk19, ↓k_l20, ↓k_r20, ↓k_se20, ↓k_ic20, ↓k_de20, ↓k_tk20, ↓k_l21, ↓k_r21, ↓k_se21, ↓k_ic21, ↓k_de21, ↓k_tk21, ↓k_l22, ↓k_r22, ↓k_se22, ↓k_ic22, ↓k_de22, ↓k_tk22, ↓k_l23, ↓k_r23, ↓k_se23, ↓k_ic23, ↓k_de23, ↓k_tk23, ↓k_l24, ↓k_r24, ↓k_se24, ↓k_ic24, ↓k_de24, ↓k_tk24, ↓k_l25, ↓k_r25, ↓k_se25, ↓k_ic25, ↓k_de25, ↓k_tk25, ↓k_k, ↓k_kn, ↓k_kl, ↓k_kln, ↓k_il, ↓k_2, ↓k_1, ↓k_2c, ↓k_2l, ↓k_ac, ↓k_an, ↓k_cs, ↓k_cv, ↓k_fi, ↓k_fr, ↓k_ai, ↓k_az, ↓k_ar, ↓k_sai, ↓k_saz, ↓k_soa, ↓k_sof, ↓k_spf, ↓k_sx, ↓k_blk, ↓k_sset, ↓k_sdec, ↓k_sri, ↓k_srv, ↓k_srr, ↓k_nop, ↓k_add, ↓k_sub, ↓k_mul, ↓k_min, ↓k_max, ↓k_shr, ↓k_shl, ↓k_or, ↓k_ilz, ↓k_addl, ↓k_rt, ↓k_rb, ↓k_rbz, ↓k_rsi, ↓k_rsr, ↓k_rsv, ↓reduceIte, t11 hL, t12 hM, ↓c11_isTreeNumber, ↓c12_isPlace, ↓(c11_isTree hL iRe.1), ↓(c12_isTree hM iRe.1), hv, hw, List.length_cons, List.length_nil, List.forall_mem_cons, List.not_mem_nil, Value.category, true_and, and_true, false_and, and_false, or_true, true_or, or_false, false_or, Nat.zero_le, forall_const, implies_true, false_implies, Nat.zero_add, Nat.reduceAdd, Nat.reduceLT, Nat.reduceLeDiff, Nat.le_refl, not_true_eq_false, not_false_eq_true, r_eq, r_ne, r_lt, r_ge, r_gt, r_le, bz_ne, nn_toNat, cn_of, cn_0, cn_1, i10, Int.reduceLE, Int.reduceLT, Int.reduceEq, bz_T, bz_F, ite_self, mulc, st_bud]
      exact hK _ _ (fin_mk rfl (lo_refl _ _ _) hI)
  · refine op_gen fun K hK => ?_
    simp (disch := omega) only [↓fX11_keep.eq_1, ↓sX11_keep_.eq_1, ↓(k_cs1 dX11_isTreeNumber), ↓(k_cv1 dX11_isTree (t11 hL)), ↓k_mk, ↓k_sq, ↓k_sk, ↓k_bk, ↓k_if, ↓k_te, ↓k_cm, ↓k_cz, ↓k_an2, ↓k_or2, ↓k_no, ↓k_ci, ↓k_l0, ↓k_r0, ↓k_se0, ↓k_ic0, ↓k_l1, ↓k_r1, ↓k_se1, ↓k_ic1, ↓k_de1, ↓k_tk1, ↓k_l2, ↓k_r2, ↓k_se2, ↓k_ic2, ↓k_de2, ↓k_tk2, ↓k_l3, ↓k_r3, ↓k_se3, ↓k_ic3, ↓k_de3, ↓k_tk3, ↓k_l4, ↓k_r4, ↓k_se4, ↓k_ic4, ↓k_de4, ↓k_tk4, ↓k_l5, ↓k_r5, ↓k_se5, ↓k_ic5, ↓k_de5, ↓k_tk5, ↓k_l6, ↓k_r6, ↓k_se6, ↓k_ic6, ↓k_de6, ↓k_tk6, ↓k_l7, ↓k_r7, ↓k_se7, ↓k_ic7, ↓k_de7, ↓k_tk7, ↓k_l8, ↓k_r8, ↓k_se8, ↓k_ic8, ↓k_de8, ↓k_tk8, ↓k_l9, ↓k_r9, ↓k_se9, ↓k_ic9, ↓k_de9, ↓k_tk9, ↓k_l10, ↓k_r10, ↓k_se10, ↓k_ic10, ↓k_de10, ↓k_tk10, ↓k_l11, ↓k_r11, ↓k_se11, ↓k_ic11, ↓k_de11, ↓k_tk11, ↓k_l12, ↓k_r12, ↓k_se12, ↓k_ic12, ↓k_de12, ↓k_tk12, ↓k_l13, ↓k_r13, ↓k_se13, ↓k_ic13, ↓k_de13, ↓k_tk13, ↓k_l14, ↓k_r14, ↓k_se14, ↓k_ic14, ↓k_de14, ↓k_tk14, ↓k_l15, ↓k_r15, ↓k_se15, ↓k_ic15, ↓k_de15, ↓k_tk15, ↓k_l16, ↓k_r16, ↓k_se16, ↓k_ic16, ↓k_de16, ↓k_tk16, ↓k_l17, ↓k_r17, ↓k_se17, ↓k_ic17, ↓k_de17, ↓k_tk17, ↓k_l18, ↓k_r18, ↓k_se18, ↓k_ic18, ↓k_de18, ↓k_tk18, ↓k_l19, ↓k_r19, ↓k_se19, ↓k_ic19, ↓k_de19, ↓k_tk19, ↓k_l20, ↓k_r20, ↓k_se20, ↓k_ic20, ↓k_de20, ↓k_tk20, ↓k_l21, ↓k_r21, ↓k_se21, ↓k_ic21, ↓k_de21, ↓k_tk21, ↓k_l22, ↓k_r22, ↓k_se22, ↓k_ic22, ↓k_de22, ↓k_tk22, ↓k_l23, ↓k_r23, ↓k_se23, ↓k_ic23, ↓k_de23, ↓k_tk23, ↓k_l24, ↓k_r24, ↓k_se24, ↓k_ic24, ↓k_de24, ↓k_tk24, ↓k_l25, ↓k_r25, ↓k_se25, ↓k_ic25, ↓k_de25, ↓k_tk25, ↓k_k, ↓k_kn, ↓k_kl, ↓k_kln, ↓k_il, ↓k_2, ↓k_1, ↓k_2c, ↓k_2l, ↓k_ac, ↓k_an, ↓k_cs, ↓k_cv, ↓k_fi, ↓k_fr, ↓k_ai, ↓k_az, ↓k_ar, ↓k_sai, ↓k_saz, ↓k_soa, ↓k_sof, ↓k_spf, ↓k_sx, ↓k_blk, ↓k_sset, ↓k_sdec, ↓k_sri, ↓k_srv, ↓k_srr, ↓k_nop, ↓k_add, ↓k_sub, ↓k_mul, ↓k_min, ↓k_max, ↓k_shr, ↓k_shl, ↓k_or, ↓k_ilz, ↓k_addl, ↓k_rt, ↓k_rb, ↓k_rbz, ↓k_rsi, ↓k_rsr, ↓k_rsv, ↓reduceIte, t11 hL, t12 hM, ↓c11_isTreeNumber, ↓c12_isPlace, hv, List.length_cons, List.length_nil, List.forall_mem_cons, List.not_mem_nil, Value.category, true_and, and_true, false_and, and_false, or_true, true_or, or_false, false_or, Nat.zero_le, forall_const, implies_true, false_implies, Nat.zero_add, Nat.reduceAdd, Nat.reduceLT, Nat.reduceLeDiff, Nat.le_refl, not_true_eq_false, not_false_eq_true, r_eq, r_ne, r_lt, r_ge, r_gt, r_le, bz_ne, nn_toNat, cn_of, cn_0, cn_1, i10, Int.reduceLE, Int.reduceLT, Int.reduceEq, bz_T, bz_F, ite_self, mulc, st_bud]
    refine hK _ _ ⟨mid_mk (lo_refl _ _ _), op_gen fun K hK => ?_⟩
    rw [st_bud]
    simp (disch := first | omega | (simp (disch := omega) only [gs_ne, flG_ne, wr_ne, cpG_ne])) only [↓fX12_keep.eq_1, ↓sX12_keep_.eq_1, ↓(k_cs1 dX12_isPlace), ↓(k_cv1 dX12_isTree (t12 hM)), ↓(k_cv2 dX12_copyTree (t12 hM)), ↓k_mk, ↓k_sq, ↓k_sk, ↓k_bk, ↓k_if, ↓k_te, ↓k_cm, ↓k_cz, ↓k_an2, ↓k_or2, ↓k_no, ↓k_ci, ↓k_l0, ↓k_r0, ↓k_se0, ↓k_ic0, ↓k_l1, ↓k_r1, ↓k_se1, ↓k_ic1, ↓k_de1, ↓k_tk1, ↓k_l2, ↓k_r2, ↓k_se2, ↓k_ic2, ↓k_de2, ↓k_tk2, ↓k_l3, ↓k_r3, ↓k_se3, ↓k_ic3, ↓k_de3, ↓k_tk3, ↓k_l4, ↓k_r4, ↓k_se4, ↓k_ic4, ↓k_de4, ↓k_tk4, ↓k_l5, ↓k_r5, ↓k_se5, ↓k_ic5, ↓k_de5, ↓k_tk5, ↓k_l6, ↓k_r6, ↓k_se6, ↓k_ic6, ↓k_de6, ↓k_tk6, ↓k_l7, ↓k_r7, ↓k_se7, ↓k_ic7, ↓k_de7, ↓k_tk7, ↓k_l8, ↓k_r8, ↓k_se8, ↓k_ic8, ↓k_de8, ↓k_tk8, ↓k_l9, ↓k_r9, ↓k_se9, ↓k_ic9, ↓k_de9, ↓k_tk9, ↓k_l10, ↓k_r10, ↓k_se10, ↓k_ic10, ↓k_de10, ↓k_tk10, ↓k_l11, ↓k_r11, ↓k_se11, ↓k_ic11, ↓k_de11, ↓k_tk11, ↓k_l12, ↓k_r12, ↓k_se12, ↓k_ic12, ↓k_de12, ↓k_tk12, ↓k_l13, ↓k_r13, ↓k_se13, ↓k_ic13, ↓k_de13, ↓k_tk13, ↓k_l14, ↓k_r14, ↓k_se14, ↓k_ic14, ↓k_de14, ↓k_tk14, ↓k_l15, ↓k_r15, ↓k_se15, ↓k_ic15, ↓k_de15, ↓k_tk15, ↓k_l16, ↓k_r16, ↓k_se16, ↓k_ic16, ↓k_de16, ↓k_tk16, ↓k_l17, ↓k_r17, ↓k_se17, ↓k_ic17, ↓k_de17, ↓k_tk17, ↓k_l18, ↓k_r18, ↓k_se18, ↓k_ic18, ↓k_de18, ↓k_tk18, ↓k_l19, ↓k_r19, ↓k_se19, ↓k_ic19, ↓k_de19, ↓k_tk19, ↓k_l20, ↓k_r20, ↓k_se20, ↓k_ic20, ↓k_de20, ↓k_tk20, ↓k_l21, ↓k_r21, ↓k_se21, ↓k_ic21, ↓k_de21, ↓k_tk21, ↓k_l22, ↓k_r22, ↓k_se22, ↓k_ic22, ↓k_de22, ↓k_tk22, ↓k_l23, ↓k_r23, ↓k_se23, ↓k_ic23, ↓k_de23, ↓k_tk23, ↓k_l24, ↓k_r24, ↓k_se24, ↓k_ic24, ↓k_de24, ↓k_tk24, ↓k_l25, ↓k_r25, ↓k_se25, ↓k_ic25, ↓k_de25, ↓k_tk25, ↓k_k, ↓k_kn, ↓k_kl, ↓k_kln, ↓k_il, ↓k_2, ↓k_1, ↓k_2c, ↓k_2l, ↓k_ac, ↓k_an, ↓k_cs, ↓k_cv, ↓k_fi, ↓k_fr, ↓k_ai, ↓k_az, ↓k_ar, ↓k_sai, ↓k_saz, ↓k_soa, ↓k_sof, ↓k_spf, ↓k_sx, ↓k_blk, ↓k_sset, ↓k_sdec, ↓k_sri, ↓k_srv, ↓k_srr, ↓k_nop, ↓k_add, ↓k_sub, ↓k_mul, ↓k_min, ↓k_max, ↓k_shr, ↓k_shl, ↓k_or, ↓k_ilz, ↓k_addl, ↓k_rt, ↓k_rb, ↓k_rbz, ↓k_rsi, ↓k_rsr, ↓k_rsv, ↓reduceIte, t11 hL, t12 hM, ↓c11_isTreeNumber, ↓c12_isPlace, hv, List.length_cons, List.length_nil, List.forall_mem_cons, List.not_mem_nil, Value.category, true_and, and_true, false_and, and_false, or_true, true_or, or_false, false_or, Nat.zero_le, forall_const, implies_true, false_implies, Nat.zero_add, Nat.reduceAdd, Nat.reduceLT, Nat.reduceLeDiff, Nat.le_refl, not_true_eq_false, not_false_eq_true, r_eq, r_ne, r_lt, r_ge, r_gt, r_le, bz_ne, nn_toNat, cn_of, cn_0, cn_1, i10, Int.reduceLE, Int.reduceLT, Int.reduceEq, bz_T, bz_F, ite_self, mulc, st_bud]
    exact hK _ _ (fin_mk rfl (lo_refl _ _ _) hI)
end
