section
/-! the class turns a tree -/
theorem c10_addFilled {T : Nat → Option q_T} {nx o z b a : Nat} {R : Nat → Nat → Option Value} {G0 : Nat → Int → Int} {c ns I : Int → Int} {gt gz F v : Int} {S : Int → Int → Prop} (oT : Ly T R o (L10 o)) (hA : Ly T R a (L9 a)) (hB : Ly T R b (L9 b)) (hZ : Ly T R z (L9 z)) (hab : a + 10 ≤ b) (haz : a + 10 ≤ z) (hao : a + 10 ≤ o) (kT : Tr gt F ns I (G0 b 2) (G0 b 3) (G0 b 4) (G0 (b + 1)) (G0 (b + 2)) (G0 (b + 3)) (G0 (b + 4)) (G0 (b + 6)) (G0 (b + 7)) (G0 (b + 8))) (kZ : Tr gz F ns I (G0 z 2) (G0 z 3) (G0 z 4) (G0 (z + 1)) (G0 (z + 2)) (G0 (z + 3)) (G0 (z + 4)) (G0 (z + 6)) (G0 (z + 7)) (G0 (z + 8))) (n0 : ∀ f, 0 ≤ f → f < F → 0 ≤ ns f) (n5 : ∀ q : Nat, 1000 ≤ c q → ns0 (c q) ns) (bT : ∀ q, 0 ≤ q → q < G0 b 2 → 20 ≤ G0 (b + 1) q ∧ G0 (b + 1) q ≤ 1013) (bZ : ∀ q, 0 ≤ q → q < G0 z 2 → 20 ≤ G0 (z + 1) q ∧ G0 (z + 1) q ≤ 1013) (lf : ∀ y, 0 ≤ y → y < G0 z 2 → ¬ 1000 ≤ G0 (z + 1) y → isLf (G0 (z + 1) y)) (sg : SG (G0 (o + 7)) (G0 b 2) S) (con : Con (G0 (b + 1)) (G0 (b + 2)) S) (kk : ∀ y, 0 < y → y < G0 z 2 → isHo (G0 (z + 1) y) → ∀ x, S (G0 (z + 1) y - 200) x → okc gt (I (5 * (G0 (z + 1) (G0 (z + 3) y) - 1000) + G0 (z + 4) y)) (G0 (b + 1) x)) {k : Nat} {it : Int} {w : List Int} {P : Nat} (ok : okc gz it (G0 (z + 1) 0) ∨ isHo (G0 (z + 1) 0)) (hk : isHo (G0 (z + 1) 0) → ∀ x, S (G0 (z + 1) 0 - 200) x → okc gt it (G0 (b + 1) x)) (f : FW ns (G0 (z + 1)) (G0 (z + 2)) (G0 (b + 1)) (G0 (b + 2)) S k 0 w) (hAt : At c P w) (cB : CB c G0 a v P) (pr : Pre ns c P) (dP : 1 ≤ dd ns c P) (n40 : nb c P ≤ 40) :
    ∃ G' y, CFr G0 G' a ∧ ((y = 1 ∧ nb c (P + w.length) ≤ 40 ∧ CB c G' a v (P + w.length)) ∨ (y = 0 ∧ 40 < nb c (P + w.length))) ∧ ∀ K : Option Value → q_M → Prop, fX10_addFilled [.ref o, .ref z, .ref b, .ref a] (st T nx 0 0 R G0) K = K (some (.int (zI y))) (st T nx 0 0 R G') := by
  have nZ := kZ.1
  rcases f_cls (T := T) (nx := nx) (R := R) oT hA hB hZ hab haz hao kT kZ n0 n5 bT bZ lf sg con kk k 0 it w G0 P (Int.le_refl _) (by have := nZ.1; omega) ok hk f hAt (CFr_rfl _ _) cB pr dP n40 with ⟨z1, G', z2, z3, z4⟩ | ⟨z1, p', G', z2, z3⟩
  · refine ⟨G', 1, z2, Or.inl ⟨rfl, z1, z3⟩, fun K => ?_⟩
    have eE := nZ.2.2.2.2.2.2.1
    have n1 := nZ.1
    have n201 := nZ.2.1
    rw [eE] at z4
    have lw : ∀ (Kn : List Value → q_M → Prop) (Kr : Option Value → q_M → Prop), wX10_addFilled_0 [.ref o, .ref z, .ref b, .ref a, .int (zI 1), .int (zI 0)] (st T nx 0 0 R G0) Kn Kr = Kn [.ref o, .ref z, .ref b, .ref a, .int (zI 1), .int (zI (G0 z 2))] (st T nx 0 0 R G') := eX10_addFilled_0.eqn (z4 _ _ (f_out hZ (by omega) (by rw [z2.1 _ (by omega) (by omega)]; omega) (Or.inr ⟨rfl, by rw [z2.1 _ (by omega) (by omega)]; exact Int.le_refl _⟩) _ _ ⟨rfl, rfl⟩))
    clear kk con sg lf bT bZ n5 n0 f hAt ok hk
    simp (disch := omega) only [↓fX10_addFilled.eq_1, ↓uX10_addFilled, ↓k_mk, ↓k_sq, ↓k_sk, ↓k_bk, ↓k_if, ↓k_te, ↓k_cm, ↓k_cz, ↓k_an2, ↓k_or2, ↓k_no, ↓k_ci, ↓k_l0, ↓k_r0, ↓k_se0, ↓k_ic0, ↓k_l1, ↓k_r1, ↓k_se1, ↓k_ic1, ↓k_de1, ↓k_tk1, ↓k_l2, ↓k_r2, ↓k_se2, ↓k_ic2, ↓k_de2, ↓k_tk2, ↓k_l3, ↓k_r3, ↓k_se3, ↓k_ic3, ↓k_de3, ↓k_tk3, ↓k_l4, ↓k_r4, ↓k_se4, ↓k_ic4, ↓k_de4, ↓k_tk4, ↓k_l5, ↓k_r5, ↓k_se5, ↓k_ic5, ↓k_de5, ↓k_tk5, ↓k_l6, ↓k_r6, ↓k_se6, ↓k_ic6, ↓k_de6, ↓k_tk6, ↓k_l7, ↓k_r7, ↓k_se7, ↓k_ic7, ↓k_de7, ↓k_tk7, ↓k_l8, ↓k_r8, ↓k_se8, ↓k_ic8, ↓k_de8, ↓k_tk8, ↓k_l9, ↓k_r9, ↓k_se9, ↓k_ic9, ↓k_de9, ↓k_tk9, ↓k_l10, ↓k_r10, ↓k_se10, ↓k_ic10, ↓k_de10, ↓k_tk10, ↓k_l11, ↓k_r11, ↓k_se11, ↓k_ic11, ↓k_de11, ↓k_tk11, ↓k_l12, ↓k_r12, ↓k_se12, ↓k_ic12, ↓k_de12, ↓k_tk12, ↓k_l13, ↓k_r13, ↓k_se13, ↓k_ic13, ↓k_de13, ↓k_tk13, ↓k_l14, ↓k_r14, ↓k_se14, ↓k_ic14, ↓k_de14, ↓k_tk14, ↓k_l15, ↓k_r15, ↓k_se15, ↓k_ic15, ↓k_de15, ↓k_tk15, ↓k_l16, ↓k_r16, ↓k_se16, ↓k_ic16, ↓k_de16, ↓k_tk16, ↓k_l17, ↓k_r17, ↓k_se17, ↓k_ic17, ↓k_de17, ↓k_tk17, ↓k_l18, ↓k_r18, ↓k_se18, ↓k_ic18, ↓k_de18, ↓k_tk18, ↓k_l19, ↓k_r19, ↓k_se19, ↓k_ic19, ↓k_de19, ↓k_tk19, ↓k_l20, ↓k_r20, ↓k_se20, ↓k_ic20, ↓k_de20, ↓k_tk20, ↓k_l21, ↓k_r21, ↓k_se21, ↓k_ic21, ↓k_de21, ↓k_tk21, ↓k_l22, ↓k_r22, ↓k_se22, ↓k_ic22, ↓k_de22, ↓k_tk22, ↓k_l23, ↓k_r23, ↓k_se23, ↓k_ic23, ↓k_de23, ↓k_tk23, ↓k_l24, ↓k_r24, ↓k_se24, ↓k_ic24, ↓k_de24, ↓k_tk24, ↓k_l25, ↓k_r25, ↓k_se25, ↓k_ic25, ↓k_de25, ↓k_tk25, ↓k_k, ↓k_kn, ↓k_kl, ↓k_kln, ↓k_il, ↓k_2, ↓k_1, ↓k_2c, ↓k_2l, ↓k_ac, ↓k_an, ↓k_cs, ↓k_cv, ↓k_fi, ↓k_fr, ↓k_ai, ↓k_az, ↓k_ar, ↓k_sai, ↓k_saz, ↓k_soa, ↓k_sof, ↓k_spf, ↓k_sx, ↓k_blk, ↓k_sset, ↓k_sdec, ↓k_sri, ↓k_srv, ↓k_srr, ↓k_nop, ↓k_add, ↓k_sub, ↓k_mul, ↓k_min, ↓k_max, ↓k_shr, ↓k_shl, ↓k_or, ↓k_ilz, ↓k_addl, ↓k_rt, ↓k_rb, ↓k_rbz, ↓k_rsi, ↓k_rsr, ↓k_rsv, ↓reduceIte, ↓lw, List.length_cons, List.length_nil, List.forall_mem_cons, List.not_mem_nil, Value.category, true_and, and_true, false_and, and_false, or_true, true_or, or_false, false_or, Nat.zero_le, forall_const, implies_true, false_implies, Nat.zero_add, Nat.reduceAdd, Nat.reduceLT, Nat.reduceLeDiff, Nat.le_refl, not_true_eq_false, not_false_eq_true, r_eq, r_ne, r_lt, r_ge, r_gt, r_le, bz_ne, nn_toNat, cn_of, cn_0, cn_1, i10, Int.reduceLE, Int.reduceLT, Int.reduceEq, bz_T, bz_F, ite_self, mulc, st_bud]
  · refine ⟨G', 0, z2, Or.inr ⟨rfl, z1⟩, fun K => ?_⟩
    have lw : ∀ (Kn : List Value → q_M → Prop) (Kr : Option Value → q_M → Prop), wX10_addFilled_0 [.ref o, .ref z, .ref b, .ref a, .int (zI 1), .int (zI 0)] (st T nx 0 0 R G0) Kn Kr = Kn [.ref o, .ref z, .ref b, .ref a, .int (zI 0), .int (zI p')] (st T nx 0 0 R G') := eX10_addFilled_0.eqn (z3 _ _ ⟨rfl, rfl⟩)
    clear kk con sg lf bT bZ n5 n0 f hAt ok hk
    simp (disch := omega) only [↓fX10_addFilled.eq_1, ↓uX10_addFilled, ↓k_mk, ↓k_sq, ↓k_sk, ↓k_bk, ↓k_if, ↓k_te, ↓k_cm, ↓k_cz, ↓k_an2, ↓k_or2, ↓k_no, ↓k_ci, ↓k_l0, ↓k_r0, ↓k_se0, ↓k_ic0, ↓k_l1, ↓k_r1, ↓k_se1, ↓k_ic1, ↓k_de1, ↓k_tk1, ↓k_l2, ↓k_r2, ↓k_se2, ↓k_ic2, ↓k_de2, ↓k_tk2, ↓k_l3, ↓k_r3, ↓k_se3, ↓k_ic3, ↓k_de3, ↓k_tk3, ↓k_l4, ↓k_r4, ↓k_se4, ↓k_ic4, ↓k_de4, ↓k_tk4, ↓k_l5, ↓k_r5, ↓k_se5, ↓k_ic5, ↓k_de5, ↓k_tk5, ↓k_l6, ↓k_r6, ↓k_se6, ↓k_ic6, ↓k_de6, ↓k_tk6, ↓k_l7, ↓k_r7, ↓k_se7, ↓k_ic7, ↓k_de7, ↓k_tk7, ↓k_l8, ↓k_r8, ↓k_se8, ↓k_ic8, ↓k_de8, ↓k_tk8, ↓k_l9, ↓k_r9, ↓k_se9, ↓k_ic9, ↓k_de9, ↓k_tk9, ↓k_l10, ↓k_r10, ↓k_se10, ↓k_ic10, ↓k_de10, ↓k_tk10, ↓k_l11, ↓k_r11, ↓k_se11, ↓k_ic11, ↓k_de11, ↓k_tk11, ↓k_l12, ↓k_r12, ↓k_se12, ↓k_ic12, ↓k_de12, ↓k_tk12, ↓k_l13, ↓k_r13, ↓k_se13, ↓k_ic13, ↓k_de13, ↓k_tk13, ↓k_l14, ↓k_r14, ↓k_se14, ↓k_ic14, ↓k_de14, ↓k_tk14, ↓k_l15, ↓k_r15, ↓k_se15, ↓k_ic15, ↓k_de15, ↓k_tk15, ↓k_l16, ↓k_r16, ↓k_se16, ↓k_ic16, ↓k_de16, ↓k_tk16, ↓k_l17, ↓k_r17, ↓k_se17, ↓k_ic17, ↓k_de17, ↓k_tk17, ↓k_l18, ↓k_r18, ↓k_se18, ↓k_ic18, ↓k_de18, ↓k_tk18, ↓k_l19, ↓k_r19, ↓k_se19, ↓k_ic19, ↓k_de19, ↓k_tk19, ↓k_l20, ↓k_r20, ↓k_se20, ↓k_ic20, ↓k_de20, ↓k_tk20, ↓k_l21, ↓k_r21, ↓k_se21, ↓k_ic21, ↓k_de21, ↓k_tk21, ↓k_l22, ↓k_r22, ↓k_se22, ↓k_ic22, ↓k_de22, ↓k_tk22, ↓k_l23, ↓k_r23, ↓k_se23, ↓k_ic23, ↓k_de23, ↓k_tk23, ↓k_l24, ↓k_r24, ↓k_se24, ↓k_ic24, ↓k_de24, ↓k_tk24, ↓k_l25, ↓k_r25, ↓k_se25, ↓k_ic25, ↓k_de25, ↓k_tk25, ↓k_k, ↓k_kn, ↓k_kl, ↓k_kln, ↓k_il, ↓k_2, ↓k_1, ↓k_2c, ↓k_2l, ↓k_ac, ↓k_an, ↓k_cs, ↓k_cv, ↓k_fi, ↓k_fr, ↓k_ai, ↓k_az, ↓k_ar, ↓k_sai, ↓k_saz, ↓k_soa, ↓k_sof, ↓k_spf, ↓k_sx, ↓k_blk, ↓k_sset, ↓k_sdec, ↓k_sri, ↓k_srv, ↓k_srr, ↓k_nop, ↓k_add, ↓k_sub, ↓k_mul, ↓k_min, ↓k_max, ↓k_shr, ↓k_shl, ↓k_or, ↓k_ilz, ↓k_addl, ↓k_rt, ↓k_rb, ↓k_rbz, ↓k_rsi, ↓k_rsr, ↓k_rsv, ↓reduceIte, ↓lw, List.length_cons, List.length_nil, List.forall_mem_cons, List.not_mem_nil, Value.category, true_and, and_true, false_and, and_false, or_true, true_or, or_false, false_or, Nat.zero_le, forall_const, implies_true, false_implies, Nat.zero_add, Nat.reduceAdd, Nat.reduceLT, Nat.reduceLeDiff, Nat.le_refl, not_true_eq_false, not_false_eq_true, r_eq, r_ne, r_lt, r_ge, r_gt, r_le, bz_ne, nn_toNat, cn_of, cn_0, cn_1, i10, Int.reduceLE, Int.reduceLT, Int.reduceEq, bz_T, bz_F, ite_self, mulc, st_bud]
def PFr (G G' : Nat → Int → Int) (B : Nat) : Prop := (∀ x, ¬ x = B + 5 → ¬ x = B + 6 → ¬ x = B + 66 → G' x = G x) ∧ ∀ j, ¬ j = 1 → ¬ j = 2 → ¬ j = 3 → G' (B + 5) j = G (B + 5) j
theorem PFr_rfl (G : Nat → Int → Int) (B : Nat) : PFr G G B := ⟨fun _ _ _ _ => rfl, fun _ _ _ _ => rfl⟩
theorem PFr_tr {G G1 G2 : Nat → Int → Int} {B : Nat} (h : PFr G G1 B) (k : PFr G1 G2 B) : PFr G G2 B := ⟨fun x q1 q2 q3 => by rw [k.1 x q1 q2 q3, h.1 x q1 q2 q3], fun j q1 q2 q3 => by rw [k.2 j q1 q2 q3, h.2 j q1 q2 q3]⟩
theorem PFr_of {G G' : Nat → Int → Int} {B : Nat} (h : CFr G G' (B + 5)) : PFr G G' B := ⟨fun x q1 q2 _ => h.1 x q1 q2, h.2⟩
/-- all that is known of a turn and a tree -/
def TUK (G0 : Nat → Int → Int) (B : Nat) (tu gt ib v : Int) (b : Nat) : Prop := (0 ≤ tu ∧ tu ≤ 5) ∧ IFm G0 B ∧ TOK G0 B 1 (20 + 2 * tu) v (B + 250 + 20 * tu.toNat) ∧ TOK G0 B 1 (21 + 2 * tu) v (B + 260 + 20 * tu.toNat) ∧ 1 ≤ G0 (B + 250 + 20 * tu.toNat) 3 ∧ TOK G0 B gt ib v b ∧ (B + 398 ≤ b ∧ b + 10 ≤ B + 544) ∧ (∀ q, 0 ≤ q → q < G0 (B + 250 + 20 * tu.toNat) 2 → 20 ≤ G0 (B + 250 + 20 * tu.toNat + 1) q ∧ G0 (B + 250 + 20 * tu.toNat + 1) q ≤ 1013) ∧ (∀ q, 0 ≤ q → q < G0 (B + 260 + 20 * tu.toNat) 2 → 20 ≤ G0 (B + 260 + 20 * tu.toNat + 1) q ∧ G0 (B + 260 + 20 * tu.toNat + 1) q ≤ 1013) ∧ (∀ q, 0 ≤ q → q < G0 b 2 → 20 ≤ G0 (b + 1) q ∧ G0 (b + 1) q ≤ 1013) ∧ (∀ q, 0 ≤ q → q < G0 (B + 250 + 20 * tu.toNat) 2 → ¬ 1000 ≤ G0 (B + 250 + 20 * tu.toNat + 1) q → isLf (G0 (B + 250 + 20 * tu.toNat + 1) q)) ∧ (∀ q, 0 ≤ q → q < G0 (B + 260 + 20 * tu.toNat) 2 → ¬ 1000 ≤ G0 (B + 260 + 20 * tu.toNat + 1) q → isLf (G0 (B + 260 + 20 * tu.toNat + 1) q)) ∧
  Tie (G0 (tvA B v + 6)) (G0 (B + 250 + 20 * tu.toNat + 1)) (G0 (B + 250 + 20 * tu.toNat + 3)) (G0 (B + 250 + 20 * tu.toNat + 4)) (G0 (B + 260 + 20 * tu.toNat + 1)) (G0 (B + 260 + 20 * tu.toNat + 3)) (G0 (B + 260 + 20 * tu.toNat + 4)) (G0 (B + 250 + 20 * tu.toNat) 2) (G0 (B + 260 + 20 * tu.toNat) 2) (G0 (B + 260 + 20 * tu.toNat) 3)
/-- what the holes stand for suits the other side -/
theorem tuk_kk {G0 : Nat → Int → Int} {B b : Nat} {tu gt ib v x : Int} (tk : TUK G0 B tu gt ib v b) (x0 : 0 ≤ x) (x1 : x < G0 b 2) (fit : FitC G0 (tvA B v) (B + 250 + 20 * tu.toNat) b x) :
    (∀ h y, hlM (G0 (tvA B v + 5)) (G0 (B + 250 + 20 * tu.toNat + 1)) (G0 (B + 250 + 20 * tu.toNat + 2)) (G0 (b + 1)) (G0 (b + 2)) 202 0 x h y → 0 ≤ y ∧ y < G0 b 2) ∧ (∀ y, 0 < y → y < G0 (B + 260 + 20 * tu.toNat) 2 → isHo (G0 (B + 260 + 20 * tu.toNat + 1) y) → ∀ x', hlM (G0 (tvA B v + 5)) (G0 (B + 250 + 20 * tu.toNat + 1)) (G0 (B + 250 + 20 * tu.toNat + 2)) (G0 (b + 1)) (G0 (b + 2)) 202 0 x (G0 (B + 260 + 20 * tu.toNat + 1) y - 200) x' → okc gt (G0 (tvA B v + 6) (5 * (G0 (B + 260 + 20 * tu.toNat + 1) (G0 (B + 260 + 20 * tu.toNat + 3) y) - 1000) + G0 (B + 260 + 20 * tu.toNat + 4) y)) (G0 (b + 1) x')) ∧ (∀ it, okc gt it (G0 (b + 1) x) → isHo (G0 (B + 260 + 20 * tu.toNat + 1) 0) → ∀ x', hlM (G0 (tvA B v + 5)) (G0 (B + 250 + 20 * tu.toNat + 1)) (G0 (B + 250 + 20 * tu.toNat + 2)) (G0 (b + 1)) (G0 (b + 2)) 202 0 x (G0 (B + 260 + 20 * tu.toNat + 1) 0 - 200) x' → okc gt it (G0 (b + 1) x')) ∧ (∀ it, okc gt it (G0 (b + 1) x) → okc 1 it (G0 (B + 260 + 20 * tu.toNat + 1) 0) ∨ isHo (G0 (B + 260 + 20 * tu.toNat + 1) 0)) ∧ ∀ y, 0 ≤ y → y < G0 (B + 260 + 20 * tu.toNat) 2 → isHo (G0 (B + 260 + 20 * tu.toNat + 1) y) → ∃ x', hlM (G0 (tvA B v + 5)) (G0 (B + 250 + 20 * tu.toNat + 1)) (G0 (B + 250 + 20 * tu.toNat + 2)) (G0 (b + 1)) (G0 (b + 2)) 202 0 x (G0 (B + 260 + 20 * tu.toNat + 1) y - 200) x' := by
  obtain ⟨tu0, hF, ta, tz, aN, tt, hb, ca, cz, ct, la, lz, tie⟩ := tk
  have kA := ta.2.2.2.1
  have kZ := tz.2.2.2.1
  have kT := tt.2.2.2.1
  have lA := Tr_root kA (by omega)
  obtain ⟨fx1, fx2, fx3, fx4⟩ := fit
  have root : ∀ h x', hlM (G0 (tvA B v + 5)) (G0 (B + 250 + 20 * tu.toNat + 1)) (G0 (B + 250 + 20 * tu.toNat + 2)) (G0 (b + 1)) (G0 (b + 2)) 202 0 x h x' → 0 ≤ x' ∧ x' < G0 b 2 ∧ ∃ p', 0 < p' ∧ p' < G0 (B + 250 + 20 * tu.toNat) 2 ∧ G0 (B + 250 + 20 * tu.toNat + 1) p' = 200 + h ∧ okc gt (G0 (tvA B v + 6) (5 * (G0 (B + 250 + 20 * tu.toNat + 1) (G0 (B + 250 + 20 * tu.toNat + 3) p') - 1000) + G0 (B + 250 + 20 * tu.toNat + 4) p')) (G0 (b + 1) x') := fun h x' hx => by
    obtain ⟨a1, a2, a3⟩ := hl_kind kA kT 202 0 x h x' (Int.le_refl _) (by have := kA.1.1; omega) x0 x1 fx3 hx
    refine ⟨a1, a2, a3.resolve_left fun z => ?_⟩
    have := z.1
    unfold isHo at this
    omega
  have kind : ∀ i1 i2 cc, ki i1 = ki i2 → okc gt i1 cc → okc gt i2 cc := fun i1 i2 cc e o => by
    unfold ki at e
    unfold okc at o ⊢
    split at e <;> split at e <;> omega
  refine ⟨fun h y hy => ⟨(root h y hy).1, (root h y hy).2.1⟩, fun y y0 y1 hh x' hx => ?_, fun it o hh x' hx => ?_, fun it o => ?_, fun y y0 y1 hh => ?_⟩
  · obtain ⟨_, _, p', p0, p1, p2, p3⟩ := root _ _ hx
    exact kind _ _ _ (tie.2.2 y p' y0 y1 p0 p1 hh.1 hh.2 (by omega)).symm p3
  · obtain ⟨_, _, p', p0, p1, p2, p3⟩ := root _ _ hx
    have N1 : G0 (B + 260 + 20 * tu.toNat) 3 = 0 := by
      refine Classical.byContradiction fun z => ?_
      have := kZ.1.2.2.1
      have := Tr_root kZ (by omega)
      unfold isHo at hh
      omega
    have k60 := (tie.2.1 N1).2.2 p' p0 p1 (by omega)
    have t1 := fx1
    unfold okc at o p3 ⊢
    omega
  · by_cases N1 : G0 (B + 260 + 20 * tu.toNat) 3 = 0
    · have := tie.2.1 N1
      exact Or.inr ⟨this.1, by omega⟩
    · have := kZ.1.2.2.1
      have lz := Tr_root kZ (by omega)
      refine Or.inl ?_
      have t1 := fx1
      unfold okc at o ⊢
      omega
  · obtain ⟨p', p0, p1, p2⟩ := tie.1 y y0 y1 hh.1 hh.2
    have eE := kA.1.2.2.2.2.2.2.1
    have n201 := kA.1.2.1
    have := hl_ex kA (c := G0 (b + 1)) (e := G0 (b + 2)) 202 0 x p' (Int.le_refl _) (by omega) (by omega) p0 (by omega) (by rw [p2]; exact hh)
    rw [p2] at this
    exact this
end
