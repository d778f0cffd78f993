section
/-! the class lists what is held -/
theorem hlA_len {G0 : Nat → Int → Int} {B a : Nat} {v : Int} (ct : CT G0 B a v) : ∀ m : Nat, (m : Int) ≤ G0 a 3 → (hlA (G0 (tvA B v + 11)) (G0 (a + 1)) (G0 (a + 2)) (G0 (a + 7)) (G0 (tvA B v + 12)) (G0 (tvA B v + 13)) m).length ≤ 6 * m := by
  intro m
  induction m with
  | zero => intro _; show (0 : Nat) ≤ 6 * 0; omega
  | succ m ih =>
    intro hm
    have := ih (by omega)
    obtain ⟨p, f, hp, _, _, _, _, hf, _, _, _, ⟨r0, r1⟩, _⟩ := ruleC ct (m := m) (by omega) (by omega)
    rw [hlA, List.length_append, rls_len, ← hp, ← hf]
    omega
theorem w2_rule {T : Nat → Option q_T} {nx rc rs o a ob B : Nat} {R : Nat → Nat → Option Value} {G0 : Nat → Int → Int} {v : Int} (ho : Ly T R o (L2 o)) (h8 : Ly T R (tvA B v) (L8 (tvA B v))) (h9 : Ly T R a (L9 a)) (ct : CT G0 B a v) (oa : a + 10 ≤ o ∨ o + 5 ≤ a) (oB : o + 5 ≤ B + 370) {m i : Nat} {p f : Int} {G : Nat → Int → Int} (go : HO G0 G o) (hm : (m : Int) < G0 a 3) (hp : p = G0 (a + 7) m) (hf : f = G0 (a + 1) p - 1000) (hi : (i : Int) < G0 (tvA B v + 11) f) (hl : HLc G o (hlA (G0 (tvA B v + 11)) (G0 (a + 1)) (G0 (a + 2)) (G0 (a + 7)) (G0 (tvA B v + 12)) (G0 (tvA B v + 13)) m ++ rls (G0 (a + 1)) (G0 (a + 2)) (G0 (a + 7)) (G0 (tvA B v + 12)) (G0 (tvA B v + 13)) m i)) :
    ∃ G', HO G0 G' o ∧ HLc G' o (hlA (G0 (tvA B v + 11)) (G0 (a + 1)) (G0 (a + 2)) (G0 (a + 7)) (G0 (tvA B v + 12)) (G0 (tvA B v + 13)) m ++ rls (G0 (a + 1)) (G0 (a + 2)) (G0 (a + 7)) (G0 (tvA B v + 12)) (G0 (tvA B v + 13)) m (i + 1)) ∧ ∀ (Kn : List Value → q_M → Prop) (Kf : q_M → Prop), Kn [.ref o, .ref (tvA B v), .ref a, .ref ob, .int (zI m), .int (zI p), .int (zI f), .int (zI ((i + 1 : Nat) : Int))] (st T nx rc rs R G') → wcX2_hold_1 [.ref o, .ref (tvA B v), .ref a, .ref ob, .int (zI m), .int (zI p), .int (zI f), .int (zI i)] (st T nx rc rs R G) (fun μ' => wsX2_hold_1 [.ref o, .ref (tvA B v), .ref a, .ref ob, .int (zI m), .int (zI p), .int (zI f), .int (zI i)] μ' Kn (fun _ _ => False)) Kf := by
  have kv := ct.2.1
  have kT := ct.2.2.2
  have tvb : B + 370 ≤ tvA B v ∧ tvA B v + 14 ≤ B + 398 := by unfold tvA; omega
  obtain ⟨p', f', hp', p0, p1, p200, pn, hf', f0, f1, f2, ⟨r0, r1⟩, n5, rr⟩ := ruleC ct (m := m) (by omega) hm
  have e1 : p' = p := by rw [hp', hp]
  have e2 : f' = f := by rw [hf', hf, e1]
  subst e1 e2
  obtain ⟨⟨s0, s1⟩, ww⟩ := rr i (by omega) hi
  have N40 := kT.1.2.2.2.1
  have n201 := kT.1.2.1
  have len := hlA_len ct m (by omega)
  have ch := kT.2.2.2.1 p' p0 p1 pn
  rw [← hf'] at ch
  obtain ⟨c1, c2, c3⟩ := ch
  have chb : ∀ k : Nat, (k : Int) < G0 (tvA B v + 5) f' → 0 ≤ chI (G0 (a + 2)) p' k ∧ chI (G0 (a + 2)) p' k < G0 a 2 := fun k hk => by
    have := c3 k hk
    omega
  have gE : ∀ x, ¬ (o ≤ x ∧ x ≤ o + 4) → G x = G0 x := go.1
  have ge : G (a + 2) = G0 (a + 2) := gE _ (by omega)
  have ga : G a 2 = G0 a 2 := by rw [gE _ (by omega)]
  have gz : G (tvA B v + 11) f' = G0 (tvA B v + 11) f' := by rw [gE _ (by omega)]
  obtain ⟨s, hs⟩ : ∃ s, s = G0 (tvA B v + 12) (6 * f' + i) := ⟨_, rfl⟩
  obtain ⟨w, hw⟩ : ∃ w, w = G0 (tvA B v + 13) (6 * f' + i) := ⟨_, rfl⟩
  have xs : G (tvA B v + 12) (6 * f' + i) = s := by rw [gE _ (by omega)]; exact hs.symm
  have xw : G (tvA B v + 13) (6 * f' + i) = w := by rw [gE _ (by omega)]; exact hw.symm
  have xs' : G (tvA B v + 12) (f' * 6 + i) = s := by rw [Int.mul_comm]; exact xs
  have xw' : G (tvA B v + 13) (f' * 6 + i) = w := by rw [Int.mul_comm]; exact xw
  rw [← hs] at s0 s1
  rw [← hw] at ww
  have wb : 0 ≤ w ∧ w < 10 + G0 (tvA B v + 5) f' := by omega
  have er : rent (G0 (a + 1)) (G0 (a + 2)) (G0 (a + 7)) (G0 (tvA B v + 12)) (G0 (tvA B v + 13)) m i = (if s = -1 then p' else chI (G0 (a + 2)) p' s.toNat, if w < 6 then -1 else chI (G0 (a + 2)) p' (w - 10).toNat, w, 100 * (m : Int) + i) := by
    unfold rent
    rw [← hp', ← hf', ← hs, ← hw]
  obtain ⟨x1, hx1⟩ : ∃ x1, x1 = if s = -1 then p' else chI (G0 (a + 2)) p' s.toNat := ⟨_, rfl⟩
  obtain ⟨x2, hx2⟩ : ∃ x2, x2 = if w < 6 then -1 else chI (G0 (a + 2)) p' (w - 10).toNat := ⟨_, rfl⟩
  rw [← hx1, ← hx2] at er
  obtain ⟨G', a1, a2, a3⟩ := c2_addHeld (T := T) (nx := nx) (rc := 0) (rs := 0) (R := R) (x1 := x1) (x2 := x2) (x3 := w) (x4 := 100 * (m : Int) + i) ho hl (by
    rw [List.length_append, rls_len]
    omega)
  refine ⟨G', HO_tr go a1, ?_, fun Kn Kf h => ?_⟩
  · rw [rls, er, ← List.append_assoc]
    exact a2
  · have hz : (i : Int) < G0 (tvA B v + 11) f' := hi
    have cC1 : ¬ s = -1 → ∀ K : Option Value → q_M → Prop, fX9_child [.ref a, .int (zI p'), .int (zI (G (tvA B v + 12) (f' * 6 + i)))] (st T nx 0 0 R G) K = K (some (.int (zI x1))) (st T nx 0 0 R G) := fun g K => by
      rw [xs', hx1, if_neg g, ← ge]
      exact c9_child h9 p0 (by omega) (by omega) (by omega) (by omega) (by omega) (fun k hk => by rw [ge]; have := chb k (by omega); omega) (fun k hk => by rw [ge, ga]; exact (chb k (by omega)).2)
    have cC2 : ¬ w < 6 → ∀ K : Option Value → q_M → Prop, fX9_child [.ref a, .int (zI p'), .int (zI (G (tvA B v + 13) (f' * 6 + i) - 10))] (st T nx 0 0 R G) K = K (some (.int (zI x2))) (st T nx 0 0 R G) := fun g K => by
      rw [xw', hx2, if_neg g, ← ge]
      exact c9_child h9 p0 (by omega) (by omega) (by omega) (by omega) (by omega) (fun k hk => by rw [ge]; have := chb k (by omega); omega) (fun k hk => by rw [ge, ga]; exact (chb k (by omega)).2)
    have a3' : ∀ (y1 y2 : Int), y1 = x1 → y2 = x2 → ∀ K : Option Value → q_M → Prop, fX2_addHeld [.ref o, .int (zI y1), .int (zI y2), .int (zI (G (tvA B v + 13) (f' * 6 + i))), .int (zI (100 * (m : Int) + i))] (st T nx 0 0 R G) K = K none (st T nx 0 0 R G') := fun y1 y2 q1 q2 => by rw [q1, q2, xw']; exact a3
    clear ww
    by_cases g1 : s = -1
    · rw [if_pos g1] at hx1
      by_cases g2 : w < 6
      · rw [if_pos g2] at hx2
        have a4 := a3' p' (-1) hx1.symm hx2.symm
        simp (disch := omega) only [↓wcX2_hold_1.eq_1, ↓wsX2_hold_1.eq_1, ↓k_mk, ↓k_sq, ↓k_sk, ↓k_bk, ↓k_if, ↓k_te, ↓k_cm, ↓k_cz, ↓k_an2, ↓k_or2, ↓k_no, ↓k_ci, ↓k_l0, ↓k_r0, ↓k_se0, ↓k_ic0, ↓k_l1, ↓k_r1, ↓k_se1, ↓k_ic1, ↓k_de1, ↓k_tk1, ↓k_l2, ↓k_r2, ↓k_se2, ↓k_ic2, ↓k_de2, ↓k_tk2, ↓k_l3, ↓k_r3, ↓k_se3, ↓k_ic3, ↓k_de3, ↓k_tk3, ↓k_l4, ↓k_r4, ↓k_se4, ↓k_ic4, ↓k_de4, ↓k_tk4, ↓k_l5, ↓k_r5, ↓k_se5, ↓k_ic5, ↓k_de5, ↓k_tk5, ↓k_l6, ↓k_r6, ↓k_se6, ↓k_ic6, ↓k_de6, ↓k_tk6, ↓k_l7, ↓k_r7, ↓k_se7, ↓k_ic7, ↓k_de7, ↓k_tk7, ↓k_l8, ↓k_r8, ↓k_se8, ↓k_ic8, ↓k_de8, ↓k_tk8, ↓k_l9, ↓k_r9, ↓k_se9, ↓k_ic9, ↓k_de9, ↓k_tk9, ↓k_l10, ↓k_r10, ↓k_se10, ↓k_ic10, ↓k_de10, ↓k_tk10, ↓k_l11, ↓k_r11, ↓k_se11, ↓k_ic11, ↓k_de11, ↓k_tk11, ↓k_l12, ↓k_r12, ↓k_se12, ↓k_ic12, ↓k_de12, ↓k_tk12, ↓k_l13, ↓k_r13, ↓k_se13, ↓k_ic13, ↓k_de13, ↓k_tk13, ↓k_l14, ↓k_r14, ↓k_se14, ↓k_ic14, ↓k_de14, ↓k_tk14, ↓k_l15, ↓k_r15, ↓k_se15, ↓k_ic15, ↓k_de15, ↓k_tk15, ↓k_l16, ↓k_r16, ↓k_se16, ↓k_ic16, ↓k_de16, ↓k_tk16, ↓k_l17, ↓k_r17, ↓k_se17, ↓k_ic17, ↓k_de17, ↓k_tk17, ↓k_l18, ↓k_r18, ↓k_se18, ↓k_ic18, ↓k_de18, ↓k_tk18, ↓k_l19, ↓k_r19, ↓k_se19, ↓k_ic19, ↓k_de19, ↓k_tk19, ↓k_l20, ↓k_r20, ↓k_se20, ↓k_ic20, ↓k_de20, ↓k_tk20, ↓k_l21, ↓k_r21, ↓k_se21, ↓k_ic21, ↓k_de21, ↓k_tk21, ↓k_l22, ↓k_r22, ↓k_se22, ↓k_ic22, ↓k_de22, ↓k_tk22, ↓k_l23, ↓k_r23, ↓k_se23, ↓k_ic23, ↓k_de23, ↓k_tk23, ↓k_l24, ↓k_r24, ↓k_se24, ↓k_ic24, ↓k_de24, ↓k_tk24, ↓k_l25, ↓k_r25, ↓k_se25, ↓k_ic25, ↓k_de25, ↓k_tk25, ↓k_k, ↓k_kn, ↓k_kl, ↓k_kln, ↓k_il, ↓k_2, ↓k_1, ↓k_2c, ↓k_2l, ↓k_ac, ↓k_an, ↓k_cs, ↓k_cv, ↓k_fi, ↓k_fr, ↓k_ai, ↓k_az, ↓k_ar, ↓k_sai, ↓k_saz, ↓k_soa, ↓k_sof, ↓k_spf, ↓k_sx, ↓k_blk, ↓k_sset, ↓k_sdec, ↓k_sri, ↓k_srv, ↓k_srr, ↓k_nop, ↓k_add, ↓k_sub, ↓k_mul, ↓k_min, ↓k_max, ↓k_shr, ↓k_shl, ↓k_or, ↓k_ilz, ↓k_addl, ↓k_rt, ↓k_rb, ↓k_rbz, ↓k_rsi, ↓k_rsr, ↓k_rsv, ↓reduceIte, hz, gz, xs', xs, g1, xw', xw, g2, ↓(k_cv4 dX2_addHeld (t2 ho)), ↓a4, eq_self, ↓xr8_11 h8, ↓xa8_11 h8, ↓xs8_11 h8, ↓xo8_11 h8, ↓xc8_11 h8, ↓xd8_11 h8, ↓xr8_12 h8, ↓xa8_12 h8, ↓xs8_12 h8, ↓xo8_12 h8, ↓xc8_12 h8, ↓xd8_12 h8, ↓xr8_13 h8, ↓xa8_13 h8, ↓xs8_13 h8, ↓xo8_13 h8, ↓xc8_13 h8, ↓xd8_13 h8, List.length_cons, List.length_nil, List.forall_mem_cons, List.not_mem_nil, Value.category, true_and, and_true, false_and, and_false, or_true, true_or, or_false, false_or, Nat.zero_le, forall_const, implies_true, false_implies, Nat.zero_add, Nat.reduceAdd, Nat.reduceLT, Nat.reduceLeDiff, Nat.le_refl, not_true_eq_false, not_false_eq_true, r_eq, r_ne, r_lt, r_ge, r_gt, r_le, bz_ne, nn_toNat, cn_of, cn_0, cn_1, i10, Int.reduceLE, Int.reduceLT, Int.reduceEq, bz_T, bz_F, ite_self, mulc, st_bud]
        exact h
      · have c2' := cC2 g2
        have a4 := a3' p' x2 hx1.symm rfl
        simp (disch := omega) only [↓wcX2_hold_1.eq_1, ↓wsX2_hold_1.eq_1, ↓k_mk, ↓k_sq, ↓k_sk, ↓k_bk, ↓k_if, ↓k_te, ↓k_cm, ↓k_cz, ↓k_an2, ↓k_or2, ↓k_no, ↓k_ci, ↓k_l0, ↓k_r0, ↓k_se0, ↓k_ic0, ↓k_l1, ↓k_r1, ↓k_se1, ↓k_ic1, ↓k_de1, ↓k_tk1, ↓k_l2, ↓k_r2, ↓k_se2, ↓k_ic2, ↓k_de2, ↓k_tk2, ↓k_l3, ↓k_r3, ↓k_se3, ↓k_ic3, ↓k_de3, ↓k_tk3, ↓k_l4, ↓k_r4, ↓k_se4, ↓k_ic4, ↓k_de4, ↓k_tk4, ↓k_l5, ↓k_r5, ↓k_se5, ↓k_ic5, ↓k_de5, ↓k_tk5, ↓k_l6, ↓k_r6, ↓k_se6, ↓k_ic6, ↓k_de6, ↓k_tk6, ↓k_l7, ↓k_r7, ↓k_se7, ↓k_ic7, ↓k_de7, ↓k_tk7, ↓k_l8, ↓k_r8, ↓k_se8, ↓k_ic8, ↓k_de8, ↓k_tk8, ↓k_l9, ↓k_r9, ↓k_se9, ↓k_ic9, ↓k_de9, ↓k_tk9, ↓k_l10, ↓k_r10, ↓k_se10, ↓k_ic10, ↓k_de10, ↓k_tk10, ↓k_l11, ↓k_r11, ↓k_se11, ↓k_ic11, ↓k_de11, ↓k_tk11, ↓k_l12, ↓k_r12, ↓k_se12, ↓k_ic12, ↓k_de12, ↓k_tk12, ↓k_l13, ↓k_r13, ↓k_se13, ↓k_ic13, ↓k_de13, ↓k_tk13, ↓k_l14, ↓k_r14, ↓k_se14, ↓k_ic14, ↓k_de14, ↓k_tk14, ↓k_l15, ↓k_r15, ↓k_se15, ↓k_ic15, ↓k_de15, ↓k_tk15, ↓k_l16, ↓k_r16, ↓k_se16, ↓k_ic16, ↓k_de16, ↓k_tk16, ↓k_l17, ↓k_r17, ↓k_se17, ↓k_ic17, ↓k_de17, ↓k_tk17, ↓k_l18, ↓k_r18, ↓k_se18, ↓k_ic18, ↓k_de18, ↓k_tk18, ↓k_l19, ↓k_r19, ↓k_se19, ↓k_ic19, ↓k_de19, ↓k_tk19, ↓k_l20, ↓k_r20, ↓k_se20, ↓k_ic20, ↓k_de20, ↓k_tk20, ↓k_l21, ↓k_r21, ↓k_se21, ↓k_ic21, ↓k_de21, ↓k_tk21, ↓k_l22, ↓k_r22, ↓k_se22, ↓k_ic22, ↓k_de22, ↓k_tk22, ↓k_l23, ↓k_r23, ↓k_se23, ↓k_ic23, ↓k_de23, ↓k_tk23, ↓k_l24, ↓k_r24, ↓k_se24, ↓k_ic24, ↓k_de24, ↓k_tk24, ↓k_l25, ↓k_r25, ↓k_se25, ↓k_ic25, ↓k_de25, ↓k_tk25, ↓k_k, ↓k_kn, ↓k_kl, ↓k_kln, ↓k_il, ↓k_2, ↓k_1, ↓k_2c, ↓k_2l, ↓k_ac, ↓k_an, ↓k_cs, ↓k_cv, ↓k_fi, ↓k_fr, ↓k_ai, ↓k_az, ↓k_ar, ↓k_sai, ↓k_saz, ↓k_soa, ↓k_sof, ↓k_spf, ↓k_sx, ↓k_blk, ↓k_sset, ↓k_sdec, ↓k_sri, ↓k_srv, ↓k_srr, ↓k_nop, ↓k_add, ↓k_sub, ↓k_mul, ↓k_min, ↓k_max, ↓k_shr, ↓k_shl, ↓k_or, ↓k_ilz, ↓k_addl, ↓k_rt, ↓k_rb, ↓k_rbz, ↓k_rsi, ↓k_rsr, ↓k_rsv, ↓reduceIte, hz, gz, xs', xs, g1, xw', xw, g2, ↓(k_cv4 dX2_addHeld (t2 ho)), ↓(k_cv2 dX9_child (t9 h9)), ↓c2', ↓a4, eq_self, ↓xr8_11 h8, ↓xa8_11 h8, ↓xs8_11 h8, ↓xo8_11 h8, ↓xc8_11 h8, ↓xd8_11 h8, ↓xr8_12 h8, ↓xa8_12 h8, ↓xs8_12 h8, ↓xo8_12 h8, ↓xc8_12 h8, ↓xd8_12 h8, ↓xr8_13 h8, ↓xa8_13 h8, ↓xs8_13 h8, ↓xo8_13 h8, ↓xc8_13 h8, ↓xd8_13 h8, List.length_cons, List.length_nil, List.forall_mem_cons, List.not_mem_nil, Value.category, true_and, and_true, false_and, and_false, or_true, true_or, or_false, false_or, Nat.zero_le, forall_const, implies_true, false_implies, Nat.zero_add, Nat.reduceAdd, Nat.reduceLT, Nat.reduceLeDiff, Nat.le_refl, not_true_eq_false, not_false_eq_true, r_eq, r_ne, r_lt, r_ge, r_gt, r_le, bz_ne, nn_toNat, cn_of, cn_0, cn_1, i10, Int.reduceLE, Int.reduceLT, Int.reduceEq, bz_T, bz_F, ite_self, mulc, st_bud]
        exact h
    · have c1' := cC1 g1
      by_cases g2 : w < 6
      · rw [if_pos g2] at hx2
        have a4 := a3' x1 (-1) rfl hx2.symm
        simp (disch := omega) only [↓wcX2_hold_1.eq_1, ↓wsX2_hold_1.eq_1, ↓k_mk, ↓k_sq, ↓k_sk, ↓k_bk, ↓k_if, ↓k_te, ↓k_cm, ↓k_cz, ↓k_an2, ↓k_or2, ↓k_no, ↓k_ci, ↓k_l0, ↓k_r0, ↓k_se0, ↓k_ic0, ↓k_l1, ↓k_r1, ↓k_se1, ↓k_ic1, ↓k_de1, ↓k_tk1, ↓k_l2, ↓k_r2, ↓k_se2, ↓k_ic2, ↓k_de2, ↓k_tk2, ↓k_l3, ↓k_r3, ↓k_se3, ↓k_ic3, ↓k_de3, ↓k_tk3, ↓k_l4, ↓k_r4, ↓k_se4, ↓k_ic4, ↓k_de4, ↓k_tk4, ↓k_l5, ↓k_r5, ↓k_se5, ↓k_ic5, ↓k_de5, ↓k_tk5, ↓k_l6, ↓k_r6, ↓k_se6, ↓k_ic6, ↓k_de6, ↓k_tk6, ↓k_l7, ↓k_r7, ↓k_se7, ↓k_ic7, ↓k_de7, ↓k_tk7, ↓k_l8, ↓k_r8, ↓k_se8, ↓k_ic8, ↓k_de8, ↓k_tk8, ↓k_l9, ↓k_r9, ↓k_se9, ↓k_ic9, ↓k_de9, ↓k_tk9, ↓k_l10, ↓k_r10, ↓k_se10, ↓k_ic10, ↓k_de10, ↓k_tk10, ↓k_l11, ↓k_r11, ↓k_se11, ↓k_ic11, ↓k_de11, ↓k_tk11, ↓k_l12, ↓k_r12, ↓k_se12, ↓k_ic12, ↓k_de12, ↓k_tk12, ↓k_l13, ↓k_r13, ↓k_se13, ↓k_ic13, ↓k_de13, ↓k_tk13, ↓k_l14, ↓k_r14, ↓k_se14, ↓k_ic14, ↓k_de14, ↓k_tk14, ↓k_l15, ↓k_r15, ↓k_se15, ↓k_ic15, ↓k_de15, ↓k_tk15, ↓k_l16, ↓k_r16, ↓k_se16, ↓k_ic16, ↓k_de16, ↓k_tk16, ↓k_l17, ↓k_r17, ↓k_se17, ↓k_ic17, ↓k_de17, ↓k_tk17, ↓k_l18, ↓k_r18, ↓k_se18, ↓k_ic18, ↓k_de18, ↓k_tk18, ↓k_l19, ↓k_r19, ↓k_se19, ↓k_ic19, ↓k_de19, ↓k_tk19, ↓k_l20, ↓k_r20, ↓k_se20, ↓k_ic20, ↓k_de20, ↓k_tk20, ↓k_l21, ↓k_r21, ↓k_se21, ↓k_ic21, ↓k_de21, ↓k_tk21, ↓k_l22, ↓k_r22, ↓k_se22, ↓k_ic22, ↓k_de22, ↓k_tk22, ↓k_l23, ↓k_r23, ↓k_se23, ↓k_ic23, ↓k_de23, ↓k_tk23, ↓k_l24, ↓k_r24, ↓k_se24, ↓k_ic24, ↓k_de24, ↓k_tk24, ↓k_l25, ↓k_r25, ↓k_se25, ↓k_ic25, ↓k_de25, ↓k_tk25, ↓k_k, ↓k_kn, ↓k_kl, ↓k_kln, ↓k_il, ↓k_2, ↓k_1, ↓k_2c, ↓k_2l, ↓k_ac, ↓k_an, ↓k_cs, ↓k_cv, ↓k_fi, ↓k_fr, ↓k_ai, ↓k_az, ↓k_ar, ↓k_sai, ↓k_saz, ↓k_soa, ↓k_sof, ↓k_spf, ↓k_sx, ↓k_blk, ↓k_sset, ↓k_sdec, ↓k_sri, ↓k_srv, ↓k_srr, ↓k_nop, ↓k_add, ↓k_sub, ↓k_mul, ↓k_min, ↓k_max, ↓k_shr, ↓k_shl, ↓k_or, ↓k_ilz, ↓k_addl, ↓k_rt, ↓k_rb, ↓k_rbz, ↓k_rsi, ↓k_rsr, ↓k_rsv, ↓reduceIte, hz, gz, xs', xs, g1, xw', xw, g2, ↓(k_cv4 dX2_addHeld (t2 ho)), ↓(k_cv2 dX9_child (t9 h9)), ↓c1', ↓a4, ↓xr8_11 h8, ↓xa8_11 h8, ↓xs8_11 h8, ↓xo8_11 h8, ↓xc8_11 h8, ↓xd8_11 h8, ↓xr8_12 h8, ↓xa8_12 h8, ↓xs8_12 h8, ↓xo8_12 h8, ↓xc8_12 h8, ↓xd8_12 h8, ↓xr8_13 h8, ↓xa8_13 h8, ↓xs8_13 h8, ↓xo8_13 h8, ↓xc8_13 h8, ↓xd8_13 h8, List.length_cons, List.length_nil, List.forall_mem_cons, List.not_mem_nil, Value.category, true_and, and_true, false_and, and_false, or_true, true_or, or_false, false_or, Nat.zero_le, forall_const, implies_true, false_implies, Nat.zero_add, Nat.reduceAdd, Nat.reduceLT, Nat.reduceLeDiff, Nat.le_refl, not_true_eq_false, not_false_eq_true, r_eq, r_ne, r_lt, r_ge, r_gt, r_le, bz_ne, nn_toNat, cn_of, cn_0, cn_1, i10, Int.reduceLE, Int.reduceLT, Int.reduceEq, bz_T, bz_F, ite_self, mulc, st_bud]
        exact h
      · have c2' := cC2 g2
        have a4 := a3' x1 x2 rfl rfl
        simp (disch := omega) only [↓wcX2_hold_1.eq_1, ↓wsX2_hold_1.eq_1, ↓k_mk, ↓k_sq, ↓k_sk, ↓k_bk, ↓k_if, ↓k_te, ↓k_cm, ↓k_cz, ↓k_an2, ↓k_or2, ↓k_no, ↓k_ci, ↓k_l0, ↓k_r0, ↓k_se0, ↓k_ic0, ↓k_l1, ↓k_r1, ↓k_se1, ↓k_ic1, ↓k_de1, ↓k_tk1, ↓k_l2, ↓k_r2, ↓k_se2, ↓k_ic2, ↓k_de2, ↓k_tk2, ↓k_l3, ↓k_r3, ↓k_se3, ↓k_ic3, ↓k_de3, ↓k_tk3, ↓k_l4, ↓k_r4, ↓k_se4, ↓k_ic4, ↓k_de4, ↓k_tk4, ↓k_l5, ↓k_r5, ↓k_se5, ↓k_ic5, ↓k_de5, ↓k_tk5, ↓k_l6, ↓k_r6, ↓k_se6, ↓k_ic6, ↓k_de6, ↓k_tk6, ↓k_l7, ↓k_r7, ↓k_se7, ↓k_ic7, ↓k_de7, ↓k_tk7, ↓k_l8, ↓k_r8, ↓k_se8, ↓k_ic8, ↓k_de8, ↓k_tk8, ↓k_l9, ↓k_r9, ↓k_se9, ↓k_ic9, ↓k_de9, ↓k_tk9, ↓k_l10, ↓k_r10, ↓k_se10, ↓k_ic10, ↓k_de10, ↓k_tk10, ↓k_l11, ↓k_r11, ↓k_se11, ↓k_ic11, ↓k_de11, ↓k_tk11, ↓k_l12, ↓k_r12, ↓k_se12, ↓k_ic12, ↓k_de12, ↓k_tk12, ↓k_l13, ↓k_r13, ↓k_se13, ↓k_ic13, ↓k_de13, ↓k_tk13, ↓k_l14, ↓k_r14, ↓k_se14, ↓k_ic14, ↓k_de14, ↓k_tk14, ↓k_l15, ↓k_r15, ↓k_se15, ↓k_ic15, ↓k_de15, ↓k_tk15, ↓k_l16, ↓k_r16, ↓k_se16, ↓k_ic16, ↓k_de16, ↓k_tk16, ↓k_l17, ↓k_r17, ↓k_se17, ↓k_ic17, ↓k_de17, ↓k_tk17, ↓k_l18, ↓k_r18, ↓k_se18, ↓k_ic18, ↓k_de18, ↓k_tk18, ↓k_l19, ↓k_r19, ↓k_se19, ↓k_ic19, ↓k_de19, ↓k_tk19, ↓k_l20, ↓k_r20, ↓k_se20, ↓k_ic20, ↓k_de20, ↓k_tk20, ↓k_l21, ↓k_r21, ↓k_se21, ↓k_ic21, ↓k_de21, ↓k_tk21, ↓k_l22, ↓k_r22, ↓k_se22, ↓k_ic22, ↓k_de22, ↓k_tk22, ↓k_l23, ↓k_r23, ↓k_se23, ↓k_ic23, ↓k_de23, ↓k_tk23, ↓k_l24, ↓k_r24, ↓k_se24, ↓k_ic24, ↓k_de24, ↓k_tk24, ↓k_l25, ↓k_r25, ↓k_se25, ↓k_ic25, ↓k_de25, ↓k_tk25, ↓k_k, ↓k_kn, ↓k_kl, ↓k_kln, ↓k_il, ↓k_2, ↓k_1, ↓k_2c, ↓k_2l, ↓k_ac, ↓k_an, ↓k_cs, ↓k_cv, ↓k_fi, ↓k_fr, ↓k_ai, ↓k_az, ↓k_ar, ↓k_sai, ↓k_saz, ↓k_soa, ↓k_sof, ↓k_spf, ↓k_sx, ↓k_blk, ↓k_sset, ↓k_sdec, ↓k_sri, ↓k_srv, ↓k_srr, ↓k_nop, ↓k_add, ↓k_sub, ↓k_mul, ↓k_min, ↓k_max, ↓k_shr, ↓k_shl, ↓k_or, ↓k_ilz, ↓k_addl, ↓k_rt, ↓k_rb, ↓k_rbz, ↓k_rsi, ↓k_rsr, ↓k_rsv, ↓reduceIte, hz, gz, xs', xs, g1, xw', xw, g2, ↓(k_cv4 dX2_addHeld (t2 ho)), ↓(k_cv2 dX9_child (t9 h9)), ↓c1', ↓c2', ↓a4, ↓xr8_11 h8, ↓xa8_11 h8, ↓xs8_11 h8, ↓xo8_11 h8, ↓xc8_11 h8, ↓xd8_11 h8, ↓xr8_12 h8, ↓xa8_12 h8, ↓xs8_12 h8, ↓xo8_12 h8, ↓xc8_12 h8, ↓xd8_12 h8, ↓xr8_13 h8, ↓xa8_13 h8, ↓xs8_13 h8, ↓xo8_13 h8, ↓xc8_13 h8, ↓xd8_13 h8, List.length_cons, List.length_nil, List.forall_mem_cons, List.not_mem_nil, Value.category, true_and, and_true, false_and, and_false, or_true, true_or, or_false, false_or, Nat.zero_le, forall_const, implies_true, false_implies, Nat.zero_add, Nat.reduceAdd, Nat.reduceLT, Nat.reduceLeDiff, Nat.le_refl, not_true_eq_false, not_false_eq_true, r_eq, r_ne, r_lt, r_ge, r_gt, r_le, bz_ne, nn_toNat, cn_of, cn_0, cn_1, i10, Int.reduceLE, Int.reduceLT, Int.reduceEq, bz_T, bz_F, ite_self, mulc, st_bud]
        exact h
end
