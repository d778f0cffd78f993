section
/-! both list what is held of a tree -/
def hlL (G : Nat → Int → Int) (B a : Nat) (v : Int) : List (Int × Int × Int × Int) := hlA (G (tvA B v + 11)) (G (a + 1)) (G (a + 2)) (G (a + 7)) (G (tvA B v + 12)) (G (tvA B v + 13)) (G a 3).toNat ++ hlC (G (a + 8)) (BTf G B a v (fun t => G (a + 1) (G (a + 8) t))) (G a 4).toNat
/-- after the reference's findHeld: what is written, and the list -/
def HDr (G0 G G' : Nat → Int → Int) (B a : Nat) (v : Int) : Prop := (∀ x, ¬ (B + 574 ≤ x ∧ x ≤ B + 582) → ¬ ((B + 544 + 69) ≤ x ∧ x ≤ (B + 544 + 73)) → ¬ x = B + 544 → G' x = G x) ∧ (∀ j, ¬ j = 35 → ¬ j = 39 → ¬ j = 84 → G' (B + 544) j = G (B + 544) j) ∧ HLr G' B ((hlL G0 B a v).map (rmE (G0 (a + 1)) (G0 (a + 6))))
theorem c12_findHeld {T : Nat → Option q_T} {nx B a : Nat} {R : Nat → Nat → Option Value} {G Gc : Nat → Int → Int} {i v : Int} (hM : Ly T R (B + 544) (L12 (B + 544))) (i0 : 0 ≤ i) (i1 : i < 100) (hF : IFm G B) (tk : TOK G B 0 i v a) (tN : 1 ≤ G a 3) (fw : FWB G Gc B) :
    ∃ G', HDr G Gc G' B a v ∧ ∀ K : Option Value → q_M → Prop, fX12_findHeld [.ref (B + 544), .int (zI i)] (st T nx 0 0 R Gc) K = K none (st T nx 0 0 R G') := by
  have kT := tk.2.2.2.1
  have kv := tk.2.2.1
  have hF14 := (hF _ kv.1 kv.2).2.2.1
  have LN := kT.1.2.2.2.2.2.1
  have N0 := kT.1.2.2.1
  obtain ⟨Gw, b1, _, _, _, b5, b6⟩ := c12_walkG (nx := nx) (rc := 0) (rs := 0) (R := R) (T := T) hM i0 (by omega) hF tk fw
  obtain ⟨b5, b7⟩ := b5 tN
  have rb : RB G Gw B a i v (fun t => G (a + 1) (G (a + 8) t)) := ⟨hF, tk, tN, fun x q1 q2 => by rw [b1.1 x (by omega) (by omega), fw x (by omega) (by omega) (by omega)], b5, fun k k0 k1 => by
    obtain ⟨q1, q2, _⟩ := kT.2.2.2.2.2.2.2.2 k k0 (by omega)
    obtain ⟨y1, y2, y3⟩ := b7 k k0 k1
    exact ⟨y1, y2, y3, Tr_cb kT hF14 tN q1 q2, Iff.rfl⟩⟩
  obtain ⟨Gx, eX⟩ : ∃ M, M = gs Gw (B + 544) 84 0 := ⟨_, rfl⟩
  have hx : HOr Gw Gx B := ⟨fun x q1 q2 => by rw [eX, gs_ne q2], fun j q => by rw [eX, gs_eq, fu_ne q]⟩
  have hsl : Gx (B + 544 + 21) = G (B + 544 + 21) := by rw [hx.1 _ (by omega) (by omega), b1.1 _ (by omega) (by omega), fw _ (by omega) (by omega) (by omega)]
  have rbx := RB_hold hx rb
  obtain ⟨Gy, ⟨gy, ly⟩, w1⟩ := w12_nodes (T := T) (nx := nx) (R := R) hM i0 (by omega) rbx hsl (by rw [eX]; exact gs_same _ _ _ _)
  obtain ⟨Gz, ⟨gz, lz⟩, w2⟩ := w12_leaves (T := T) (nx := nx) (R := R) hM i0 i1 (RB_hold gy rbx) ly
  have hh := HOr_tr (HOr_tr hx gy) gz
  refine ⟨Gz, ⟨fun x q1 q2 q3 => by rw [hh.1 x q2 q3, b1.1 x q1 q3], fun j q1 q2 q3 => by rw [hh.2 j q3, b1.2.1 j q1 q2], lz⟩, fun K => ?_⟩
  have s0 : ∀ (Kn : List Value → q_M → Prop) (Kr : Option Value → q_M → Prop), q_spf Value.int (fun _ => True) 12 84 (q_r 0) (q_k 0) [.ref (B + 544), .int (zI i)] (st T nx 0 0 R Gw) Kn Kr = Kn [.ref (B + 544), .int (zI i)] (st T nx 0 0 R Gx) := by
    intro Kn Kr
    rw [eX]
    simp (disch := omega) only [↓k_mk, ↓k_sq, ↓k_sk, ↓k_bk, ↓k_if, ↓k_te, ↓k_cm, ↓k_cz, ↓k_an2, ↓k_or2, ↓k_no, ↓k_ci, ↓k_l0, ↓k_r0, ↓k_se0, ↓k_ic0, ↓k_l1, ↓k_r1, ↓k_se1, ↓k_ic1, ↓k_de1, ↓k_tk1, ↓k_l2, ↓k_r2, ↓k_se2, ↓k_ic2, ↓k_de2, ↓k_tk2, ↓k_l3, ↓k_r3, ↓k_se3, ↓k_ic3, ↓k_de3, ↓k_tk3, ↓k_l4, ↓k_r4, ↓k_se4, ↓k_ic4, ↓k_de4, ↓k_tk4, ↓k_l5, ↓k_r5, ↓k_se5, ↓k_ic5, ↓k_de5, ↓k_tk5, ↓k_l6, ↓k_r6, ↓k_se6, ↓k_ic6, ↓k_de6, ↓k_tk6, ↓k_l7, ↓k_r7, ↓k_se7, ↓k_ic7, ↓k_de7, ↓k_tk7, ↓k_l8, ↓k_r8, ↓k_se8, ↓k_ic8, ↓k_de8, ↓k_tk8, ↓k_l9, ↓k_r9, ↓k_se9, ↓k_ic9, ↓k_de9, ↓k_tk9, ↓k_l10, ↓k_r10, ↓k_se10, ↓k_ic10, ↓k_de10, ↓k_tk10, ↓k_l11, ↓k_r11, ↓k_se11, ↓k_ic11, ↓k_de11, ↓k_tk11, ↓k_l12, ↓k_r12, ↓k_se12, ↓k_ic12, ↓k_de12, ↓k_tk12, ↓k_l13, ↓k_r13, ↓k_se13, ↓k_ic13, ↓k_de13, ↓k_tk13, ↓k_l14, ↓k_r14, ↓k_se14, ↓k_ic14, ↓k_de14, ↓k_tk14, ↓k_l15, ↓k_r15, ↓k_se15, ↓k_ic15, ↓k_de15, ↓k_tk15, ↓k_l16, ↓k_r16, ↓k_se16, ↓k_ic16, ↓k_de16, ↓k_tk16, ↓k_l17, ↓k_r17, ↓k_se17, ↓k_ic17, ↓k_de17, ↓k_tk17, ↓k_l18, ↓k_r18, ↓k_se18, ↓k_ic18, ↓k_de18, ↓k_tk18, ↓k_l19, ↓k_r19, ↓k_se19, ↓k_ic19, ↓k_de19, ↓k_tk19, ↓k_l20, ↓k_r20, ↓k_se20, ↓k_ic20, ↓k_de20, ↓k_tk20, ↓k_l21, ↓k_r21, ↓k_se21, ↓k_ic21, ↓k_de21, ↓k_tk21, ↓k_l22, ↓k_r22, ↓k_se22, ↓k_ic22, ↓k_de22, ↓k_tk22, ↓k_l23, ↓k_r23, ↓k_se23, ↓k_ic23, ↓k_de23, ↓k_tk23, ↓k_l24, ↓k_r24, ↓k_se24, ↓k_ic24, ↓k_de24, ↓k_tk24, ↓k_l25, ↓k_r25, ↓k_se25, ↓k_ic25, ↓k_de25, ↓k_tk25, ↓k_k, ↓k_kn, ↓k_kl, ↓k_kln, ↓k_il, ↓k_2, ↓k_1, ↓k_2c, ↓k_2l, ↓k_ac, ↓k_an, ↓k_cs, ↓k_cv, ↓k_fi, ↓k_fr, ↓k_ai, ↓k_az, ↓k_ar, ↓k_sai, ↓k_saz, ↓k_soa, ↓k_sof, ↓k_spf, ↓k_sx, ↓k_blk, ↓k_sset, ↓k_sdec, ↓k_sri, ↓k_srv, ↓k_srr, ↓k_nop, ↓k_add, ↓k_sub, ↓k_mul, ↓k_min, ↓k_max, ↓k_shr, ↓k_shl, ↓k_or, ↓k_ilz, ↓k_addl, ↓k_rt, ↓k_rb, ↓k_rbz, ↓k_rsi, ↓k_rsr, ↓k_rsv, ↓reduceIte, ↓xi12_84 hM, ↓xp12_84 hM, ↓xb12_84 hM, ↓xf12_84 hM, ↓xg12_84 hM, ↓xh12_84 hM, List.length_cons, List.length_nil, List.forall_mem_cons, List.not_mem_nil, Value.category, true_and, and_true, false_and, and_false, or_true, true_or, or_false, false_or, Nat.zero_le, forall_const, implies_true, false_implies, Nat.zero_add, Nat.reduceAdd, Nat.reduceLT, Nat.reduceLeDiff, Nat.le_refl, not_true_eq_false, not_false_eq_true, r_eq, r_ne, r_lt, r_ge, r_gt, r_le, bz_ne, nn_toNat, cn_of, cn_0, cn_1, i10, Int.reduceLE, Int.reduceLT, Int.reduceEq, bz_T, bz_F, ite_self, mulc, st_bud]
  simp (disch := omega) only [↓fX12_findHeld.eq_1, ↓uX12_findHeld, ↓(k_cv1 dX12_walk (t12 hM)), ↓k_mk, ↓k_sq, ↓k_sk, ↓k_bk, ↓k_if, ↓k_te, ↓k_cm, ↓k_cz, ↓k_an2, ↓k_or2, ↓k_no, ↓k_ci, ↓k_l0, ↓k_r0, ↓k_se0, ↓k_ic0, ↓k_l1, ↓k_r1, ↓k_se1, ↓k_ic1, ↓k_de1, ↓k_tk1, ↓k_l2, ↓k_r2, ↓k_se2, ↓k_ic2, ↓k_de2, ↓k_tk2, ↓k_l3, ↓k_r3, ↓k_se3, ↓k_ic3, ↓k_de3, ↓k_tk3, ↓k_l4, ↓k_r4, ↓k_se4, ↓k_ic4, ↓k_de4, ↓k_tk4, ↓k_l5, ↓k_r5, ↓k_se5, ↓k_ic5, ↓k_de5, ↓k_tk5, ↓k_l6, ↓k_r6, ↓k_se6, ↓k_ic6, ↓k_de6, ↓k_tk6, ↓k_l7, ↓k_r7, ↓k_se7, ↓k_ic7, ↓k_de7, ↓k_tk7, ↓k_l8, ↓k_r8, ↓k_se8, ↓k_ic8, ↓k_de8, ↓k_tk8, ↓k_l9, ↓k_r9, ↓k_se9, ↓k_ic9, ↓k_de9, ↓k_tk9, ↓k_l10, ↓k_r10, ↓k_se10, ↓k_ic10, ↓k_de10, ↓k_tk10, ↓k_l11, ↓k_r11, ↓k_se11, ↓k_ic11, ↓k_de11, ↓k_tk11, ↓k_l12, ↓k_r12, ↓k_se12, ↓k_ic12, ↓k_de12, ↓k_tk12, ↓k_l13, ↓k_r13, ↓k_se13, ↓k_ic13, ↓k_de13, ↓k_tk13, ↓k_l14, ↓k_r14, ↓k_se14, ↓k_ic14, ↓k_de14, ↓k_tk14, ↓k_l15, ↓k_r15, ↓k_se15, ↓k_ic15, ↓k_de15, ↓k_tk15, ↓k_l16, ↓k_r16, ↓k_se16, ↓k_ic16, ↓k_de16, ↓k_tk16, ↓k_l17, ↓k_r17, ↓k_se17, ↓k_ic17, ↓k_de17, ↓k_tk17, ↓k_l18, ↓k_r18, ↓k_se18, ↓k_ic18, ↓k_de18, ↓k_tk18, ↓k_l19, ↓k_r19, ↓k_se19, ↓k_ic19, ↓k_de19, ↓k_tk19, ↓k_l20, ↓k_r20, ↓k_se20, ↓k_ic20, ↓k_de20, ↓k_tk20, ↓k_l21, ↓k_r21, ↓k_se21, ↓k_ic21, ↓k_de21, ↓k_tk21, ↓k_l22, ↓k_r22, ↓k_se22, ↓k_ic22, ↓k_de22, ↓k_tk22, ↓k_l23, ↓k_r23, ↓k_se23, ↓k_ic23, ↓k_de23, ↓k_tk23, ↓k_l24, ↓k_r24, ↓k_se24, ↓k_ic24, ↓k_de24, ↓k_tk24, ↓k_l25, ↓k_r25, ↓k_se25, ↓k_ic25, ↓k_de25, ↓k_tk25, ↓k_k, ↓k_kn, ↓k_kl, ↓k_kln, ↓k_il, ↓k_2, ↓k_1, ↓k_2c, ↓k_2l, ↓k_ac, ↓k_an, ↓k_cs, ↓k_cv, ↓k_fi, ↓k_fr, ↓k_ai, ↓k_az, ↓k_ar, ↓k_sai, ↓k_saz, ↓k_soa, ↓k_sof, ↓k_sx, ↓k_blk, ↓k_sset, ↓k_sdec, ↓k_sri, ↓k_srv, ↓k_srr, ↓k_nop, ↓k_add, ↓k_sub, ↓k_mul, ↓k_min, ↓k_max, ↓k_shr, ↓k_shl, ↓k_or, ↓k_ilz, ↓k_addl, ↓k_rt, ↓k_rb, ↓k_rbz, ↓k_rsi, ↓k_rsr, ↓k_rsv, ↓reduceIte, ↓(k_cv1 dX12_walk (t12 hM)), ↓b6, ↓s0, ↓w1, ↓w2, List.length_cons, List.length_nil, List.forall_mem_cons, List.not_mem_nil, Value.category, true_and, and_true, false_and, and_false, or_true, true_or, or_false, false_or, Nat.zero_le, forall_const, implies_true, false_implies, Nat.zero_add, Nat.reduceAdd, Nat.reduceLT, Nat.reduceLeDiff, Nat.le_refl, not_true_eq_false, not_false_eq_true, r_eq, r_ne, r_lt, r_ge, r_gt, r_le, bz_ne, nn_toNat, cn_of, cn_0, cn_1, i10, Int.reduceLE, Int.reduceLT, Int.reduceEq, bz_T, bz_F, ite_self, mulc, st_bud]
/-- after the class's holdRules -/
def HDc (G G' : Nat → Int → Int) (B a : Nat) (v : Int) : Prop := (∀ x, ¬ (B + 46 ≤ x ∧ x ≤ B + 55) → G' x = G x) ∧ HM G' (B + 51) (G a 2) (hlL G B a v).length (fun i => (lg (hlL G B a v) i).1) (fun i => (lg (hlL G B a v) i).2.1) (fun i => (lg (hlL G B a v) i).2.2.1) ∧ ∀ i, i < (hlL G B a v).length → G' (B + 55) i = (lg (hlL G B a v) i).2.2.2
theorem c11_holdRules {T : Nat → Option q_T} {nx B a j1 j2 j3 j4 : Nat} {R : Nat → Nat → Option Value} {G : Nat → Int → Int} {i v : Int} (hL : Ly T R B (L11x B j1 j2 j3 j4)) (iFm : IFm G B) (h9 : Ly T R a (L9 a)) (tk : TOK G B 0 i v a) (tN : 1 ≤ G a 3) (oa : a + 10 ≤ B + 46 ∨ B + 56 ≤ a) (a1 : a + 10 ≤ B + 544) :
    ∃ G', HDc G G' B a v ∧ ∀ K : Option Value → q_M → Prop, fX11_holdRules [.ref B, .ref a] (st T nx 0 0 R G) K = K none (st T nx 0 0 R G') := by
  have kv := tk.2.2.1
  have tvb : B + 370 ≤ tvA B v ∧ tvA B v + 14 ≤ B + 398 := by unfold tvA; omega
  have ct := CT_of iFm tk tN
  have oB := o11_14 hL
  have oJ := o11_15 hL
  have h8 : Ly T R (tvA B v) (L8 (tvA B v)) := o11_0 hL (i := v.toNat) (by omega)
  obtain ⟨G1, bd, w1⟩ := c0_bind (nx := nx) (rc := 0) (rs := 0) oB h8 h9 ct (by omega) (by omega)
  have e1 : ∀ x, ¬ (B + 46 ≤ x ∧ x ≤ B + 46 + 3) → G1 x = G x := bd.1
  have iFm1 : IFm G1 B := IFm_congr (fun x q1 q2 _ _ => e1 x (by omega)) (fun x q1 q2 => e1 x (by omega)) iFm
  have tk1 : TOK G1 B 0 i v a := TOK_row iFm (fun x q1 q2 => e1 x (by omega)) (fun x q1 q2 => e1 x (by omega)) (RowE_of fun x q4 q5 => e1 x (by omega)) tk
  have kT := tk.2.2.2.1
  have LN := kT.1.2.2.2.2.2.1
  have N0 := kT.1.2.2.1
  have n2 := kT.1.2.1
  have bp : BP G1 (B + 46) (G1 a 4) (BTf G B a v (fun t => G (a + 1) (G (a + 8) t))) := by
    intro k k0 k1
    rw [e1 a (by omega)] at k1 ⊢
    obtain ⟨d1, d2, d3⟩ := bd.2.2.2 k k0 k1
    have hwb := hw_b iFm tk tN k0 k1
    obtain ⟨y, hy⟩ : ∃ y, y = bst (HWf G B a v) (RCf G B a v) (G (a + 2)) (fun t => G (a + 1) (G (a + 8) t)) (G (a + 8)) k (G a 4).toNat := ⟨_, rfl⟩
    have bb := bst_b (HWf G B a v) (RCf G B a v) (G (a + 2)) (fun t => G (a + 1) (G (a + 8) t)) (G (a + 8)) k (G a 4).toNat
    rw [← hy] at bb d3
    refine ⟨HWf G B a v k, if HWf G B a v k = 0 then y else -1, d1, hwb, d3, ?_, ?_⟩
    · split <;> omega
    · unfold BTf
      rw [← hy]
      split <;> rfl
  obtain ⟨G2, hd, _, w2⟩ := c2_hold (T := T) (nx := nx) (R := R) oJ h8 h9 oB iFm1 tk1 (by rw [e1 a (by omega)]; exact tN) (by omega) (by omega) (by omega) bp
  rw [e1 a (by omega), e1 (a + 1) (by omega), e1 (a + 2) (by omega), e1 (a + 7) (by omega), e1 (a + 8) (by omega), e1 (tvA B v + 11) (by omega), e1 (tvA B v + 12) (by omega), e1 (tvA B v + 13) (by omega)] at hd
  have hd : HDo G1 G2 (B + 51) (G a 2) (hlL G B a v) := hd
  refine ⟨G2, ⟨fun x q => by rw [hd.1 x (by omega), e1 x (by omega)], hd.2.2.1, hd.2.2.2⟩, fun K => ?_⟩
  have hv : G a 1 = v := tk.1
  have hv1 : G1 a 1 = v := by rw [e1 a (by omega)]; exact hv
  have w1' : ∀ K : Option Value → q_M → Prop, fX0_bind [.ref (B + 46), .ref (B + 370 + 14 * v.toNat), .ref a] (st T nx 0 0 R G) K = K none (st T nx 0 0 R G1) := w1
  have w2' : ∀ K : Option Value → q_M → Prop, fX2_hold [.ref (B + 51), .ref (B + 370 + 14 * v.toNat), .ref a, .ref (B + 46)] (st T nx 0 0 R G1) K = K none (st T nx 0 0 R G2) := w2
  simp (disch := omega) only [↓fX11_holdRules.eq_1, ↓sX11_holdRules_.eq_1, ↓fX11_bindTree.eq_1, ↓sX11_bindTree_.eq_1, ↓(k_cv1 dX11_bindTree (t11 hL)), ↓(k_cv2 dX0_bind (t0 oB)), ↓k_mk, ↓k_sq, ↓k_sk, ↓k_bk, ↓k_if, ↓k_te, ↓k_cm, ↓k_cz, ↓k_an2, ↓k_or2, ↓k_no, ↓k_ci, ↓k_l0, ↓k_r0, ↓k_se0, ↓k_ic0, ↓k_l1, ↓k_r1, ↓k_se1, ↓k_ic1, ↓k_de1, ↓k_tk1, ↓k_l2, ↓k_r2, ↓k_se2, ↓k_ic2, ↓k_de2, ↓k_tk2, ↓k_l3, ↓k_r3, ↓k_se3, ↓k_ic3, ↓k_de3, ↓k_tk3, ↓k_l4, ↓k_r4, ↓k_se4, ↓k_ic4, ↓k_de4, ↓k_tk4, ↓k_l5, ↓k_r5, ↓k_se5, ↓k_ic5, ↓k_de5, ↓k_tk5, ↓k_l6, ↓k_r6, ↓k_se6, ↓k_ic6, ↓k_de6, ↓k_tk6, ↓k_l7, ↓k_r7, ↓k_se7, ↓k_ic7, ↓k_de7, ↓k_tk7, ↓k_l8, ↓k_r8, ↓k_se8, ↓k_ic8, ↓k_de8, ↓k_tk8, ↓k_l9, ↓k_r9, ↓k_se9, ↓k_ic9, ↓k_de9, ↓k_tk9, ↓k_l10, ↓k_r10, ↓k_se10, ↓k_ic10, ↓k_de10, ↓k_tk10, ↓k_l11, ↓k_r11, ↓k_se11, ↓k_ic11, ↓k_de11, ↓k_tk11, ↓k_l12, ↓k_r12, ↓k_se12, ↓k_ic12, ↓k_de12, ↓k_tk12, ↓k_l13, ↓k_r13, ↓k_se13, ↓k_ic13, ↓k_de13, ↓k_tk13, ↓k_l14, ↓k_r14, ↓k_se14, ↓k_ic14, ↓k_de14, ↓k_tk14, ↓k_l15, ↓k_r15, ↓k_se15, ↓k_ic15, ↓k_de15, ↓k_tk15, ↓k_l16, ↓k_r16, ↓k_se16, ↓k_ic16, ↓k_de16, ↓k_tk16, ↓k_l17, ↓k_r17, ↓k_se17, ↓k_ic17, ↓k_de17, ↓k_tk17, ↓k_l18, ↓k_r18, ↓k_se18, ↓k_ic18, ↓k_de18, ↓k_tk18, ↓k_l19, ↓k_r19, ↓k_se19, ↓k_ic19, ↓k_de19, ↓k_tk19, ↓k_l20, ↓k_r20, ↓k_se20, ↓k_ic20, ↓k_de20, ↓k_tk20, ↓k_l21, ↓k_r21, ↓k_se21, ↓k_ic21, ↓k_de21, ↓k_tk21, ↓k_l22, ↓k_r22, ↓k_se22, ↓k_ic22, ↓k_de22, ↓k_tk22, ↓k_l23, ↓k_r23, ↓k_se23, ↓k_ic23, ↓k_de23, ↓k_tk23, ↓k_l24, ↓k_r24, ↓k_se24, ↓k_ic24, ↓k_de24, ↓k_tk24, ↓k_l25, ↓k_r25, ↓k_se25, ↓k_ic25, ↓k_de25, ↓k_tk25, ↓k_k, ↓k_kn, ↓k_kl, ↓k_kln, ↓k_il, ↓k_2, ↓k_1, ↓k_2c, ↓k_2l, ↓k_ac, ↓k_an, ↓k_cs, ↓k_cv, ↓k_fi, ↓k_fr, ↓k_ai, ↓k_az, ↓k_ar, ↓k_sai, ↓k_saz, ↓k_soa, ↓k_sof, ↓k_spf, ↓k_sx, ↓k_blk, ↓k_sset, ↓k_sdec, ↓k_sri, ↓k_srv, ↓k_srr, ↓k_nop, ↓k_add, ↓k_sub, ↓k_mul, ↓k_min, ↓k_max, ↓k_shr, ↓k_shl, ↓k_or, ↓k_ilz, ↓k_addl, ↓k_rt, ↓k_rb, ↓k_rbz, ↓k_rsi, ↓k_rsr, ↓k_rsv, ↓reduceIte, hv, hv1, t11 hL, ↓w1', ↓w2', ↓(k_cv3 dX2_hold (t2 oJ)), ↓xi0_1 oB, ↓xp0_1 oB, ↓xb0_1 oB, ↓xf0_1 oB, ↓xg0_1 oB, ↓xh0_1 oB, ↓xr11_0 hL, ↓xu11_0 hL, ↓xr11_14 hL, ↓xr11_15 hL, ↓xi9_1 h9, ↓xp9_1 h9, ↓xb9_1 h9, ↓xf9_1 h9, ↓xg9_1 h9, ↓xh9_1 h9, List.length_cons, List.length_nil, List.forall_mem_cons, List.not_mem_nil, Value.category, true_and, and_true, false_and, and_false, or_true, true_or, or_false, false_or, Nat.zero_le, forall_const, implies_true, false_implies, Nat.zero_add, Nat.reduceAdd, Nat.reduceLT, Nat.reduceLeDiff, Nat.le_refl, not_true_eq_false, not_false_eq_true, r_eq, r_ne, r_lt, r_ge, r_gt, r_le, bz_ne, nn_toNat, cn_of, cn_0, cn_1, i10, Int.reduceLE, Int.reduceLT, Int.reduceEq, bz_T, bz_F, ite_self, mulc, st_bud]
end
