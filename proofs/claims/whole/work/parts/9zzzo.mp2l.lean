section
/-! distance: the class measures two pieces: one row -/
set_option maxHeartbeats 200000 in
theorem mp_l2 {T : Nat → Option q_T} {nx a : Nat} {R : Nat → Nat → Option Value} {x p q P Q i : Int} {L e L' e' : Int → Int} (h1 : Ly T R a (L1 a)) (x0 : 0 ≤ x) (x3 : x < 3) (i0 : 0 ≤ i) (iP : i < P) (P1 : P ≤ 201) (q0 : 0 ≤ q) (Q1 : Q ≤ 201) (ni : Nst e i P) (nj : Nst e' q Q) (lb : ∀ z, 0 ≤ z → z < P → 0 ≤ L z ∧ L z ≤ 5000) (lb' : ∀ z, 0 ≤ z → z < Q → 0 ≤ L' z ∧ L' z ≤ 5000) : ∀ (d : Nat) (j : Int) (G : Nat → Int → Int), j = q - 1 + d → j < Q → G (a + 2 + x.toNat) = L → G (a + 7 + x.toNat) = e → G (a + 2 + (x + 1).toNat) = L' → G (a + 7 + (x + 1).toNat) = e' →
    (∀ r y, i < r → r ≤ P → q ≤ y → y ≤ Q → G (a + 18) (r * 202 + y) = EDt L e L' e' r P y Q) → (∀ y, j < y → y ≤ Q → G (a + 18) (i * 202 + y) = EDt L e L' e' i P y Q) → (∀ y, q ≤ y → y ≤ j → ¬ (e i = P ∧ e' y = Q) → G (a + 19) (i * 201 + y) = EDt L e L' e' i (e i) y (e' y)) →
    ∃ G' : Nat → Int → Int, (∀ z, ¬ z = a + 18 → ¬ z = a + 19 → G' z = G z) ∧ (∀ k, ¬ (i * 202 + q ≤ k ∧ k ≤ i * 202 + j) → G' (a + 18) k = G (a + 18) k) ∧ (∀ k, ¬ (∃ y, q ≤ y ∧ y ≤ j ∧ e i = P ∧ e' y = Q ∧ k = i * 201 + y) → G' (a + 19) k = G (a + 19) k) ∧ (∀ y, q ≤ y → y ≤ Q → G' (a + 18) (i * 202 + y) = EDt L e L' e' i P y Q) ∧ (∀ y, q ≤ y → y ≤ j → e i = P → e' y = Q → G' (a + 19) (i * 201 + y) = EDt L e L' e' i P y Q) ∧
      ∀ (Kn : List Value → q_M → Prop) (Kr : Option Value → q_M → Prop), Kn [.ref a, .int (zI x), .int (zI p), .int (zI q), .int (zI P), .int (zI Q), .int (zI i), .int (zI (q - 1))] (st T nx 0 0 R G') → q_wh wcX1_measurePieces_2 wsX1_measurePieces_2 [.ref a, .int (zI x), .int (zI p), .int (zI q), .int (zI P), .int (zI Q), .int (zI i), .int (zI j)] (st T nx 0 0 R G) Kn Kr := by
  intro d
  induction d with
  | zero =>
    intro j G ej jQ _ _ _ _ _ h _
    have e : j = q - 1 := by omega
    subst e
    refine ⟨G, fun _ _ _ => rfl, fun _ _ => rfl, fun _ _ => rfl, fun y y0 y1 => h y (by omega) y1, fun y y0 y1 => by omega, fun Kn Kr hh => q_outR (fun Kt Kf hk => ?_) hh⟩
    have g : ¬ q ≤ q - 1 := by omega
    clear h hh ni nj
    simp (disch := omega) only [↓wcX1_measurePieces_2.eq_1, ↓k_mk, ↓k_sq, ↓k_sk, ↓k_bk, ↓k_if, ↓k_te, ↓k_cm, ↓k_cz, ↓k_an2, ↓k_or2, ↓k_no, ↓k_ci, ↓k_l0, ↓k_r0, ↓k_se0, ↓k_ic0, ↓k_l1, ↓k_r1, ↓k_se1, ↓k_ic1, ↓k_de1, ↓k_tk1, ↓k_l2, ↓k_r2, ↓k_se2, ↓k_ic2, ↓k_de2, ↓k_tk2, ↓k_l3, ↓k_r3, ↓k_se3, ↓k_ic3, ↓k_de3, ↓k_tk3, ↓k_l4, ↓k_r4, ↓k_se4, ↓k_ic4, ↓k_de4, ↓k_tk4, ↓k_l5, ↓k_r5, ↓k_se5, ↓k_ic5, ↓k_de5, ↓k_tk5, ↓k_l6, ↓k_r6, ↓k_se6, ↓k_ic6, ↓k_de6, ↓k_tk6, ↓k_l7, ↓k_r7, ↓k_se7, ↓k_ic7, ↓k_de7, ↓k_tk7, ↓k_l8, ↓k_r8, ↓k_se8, ↓k_ic8, ↓k_de8, ↓k_tk8, ↓k_l9, ↓k_r9, ↓k_se9, ↓k_ic9, ↓k_de9, ↓k_tk9, ↓k_l10, ↓k_r10, ↓k_se10, ↓k_ic10, ↓k_de10, ↓k_tk10, ↓k_l11, ↓k_r11, ↓k_se11, ↓k_ic11, ↓k_de11, ↓k_tk11, ↓k_l12, ↓k_r12, ↓k_se12, ↓k_ic12, ↓k_de12, ↓k_tk12, ↓k_l13, ↓k_r13, ↓k_se13, ↓k_ic13, ↓k_de13, ↓k_tk13, ↓k_l14, ↓k_r14, ↓k_se14, ↓k_ic14, ↓k_de14, ↓k_tk14, ↓k_l15, ↓k_r15, ↓k_se15, ↓k_ic15, ↓k_de15, ↓k_tk15, ↓k_l16, ↓k_r16, ↓k_se16, ↓k_ic16, ↓k_de16, ↓k_tk16, ↓k_l17, ↓k_r17, ↓k_se17, ↓k_ic17, ↓k_de17, ↓k_tk17, ↓k_l18, ↓k_r18, ↓k_se18, ↓k_ic18, ↓k_de18, ↓k_tk18, ↓k_l19, ↓k_r19, ↓k_se19, ↓k_ic19, ↓k_de19, ↓k_tk19, ↓k_l20, ↓k_r20, ↓k_se20, ↓k_ic20, ↓k_de20, ↓k_tk20, ↓k_l21, ↓k_r21, ↓k_se21, ↓k_ic21, ↓k_de21, ↓k_tk21, ↓k_l22, ↓k_r22, ↓k_se22, ↓k_ic22, ↓k_de22, ↓k_tk22, ↓k_l23, ↓k_r23, ↓k_se23, ↓k_ic23, ↓k_de23, ↓k_tk23, ↓k_l24, ↓k_r24, ↓k_se24, ↓k_ic24, ↓k_de24, ↓k_tk24, ↓k_l25, ↓k_r25, ↓k_se25, ↓k_ic25, ↓k_de25, ↓k_tk25, ↓k_k, ↓k_kn, ↓k_kl, ↓k_kln, ↓k_il, ↓k_2, ↓k_1, ↓k_2c, ↓k_2l, ↓k_ac, ↓k_an, ↓k_cs, ↓k_cv, ↓k_fi, ↓k_fr, ↓k_ai, ↓k_az, ↓k_ar, ↓k_sai, ↓k_saz, ↓k_soa, ↓k_sof, ↓k_spf, ↓k_sx, ↓k_blk, ↓k_sset, ↓k_sdec, ↓k_sri, ↓k_srv, ↓k_srr, ↓k_nop, ↓k_add, ↓k_sub, ↓k_mul, ↓k_min, ↓k_max, ↓k_shr, ↓k_shl, ↓k_or, ↓k_ilz, ↓k_addl, ↓k_rt, ↓k_rb, ↓k_rbz, ↓k_rsi, ↓k_rsr, ↓k_rsv, ↓reduceIte, g, List.length_cons, List.length_nil, List.forall_mem_cons, List.not_mem_nil, Value.category, true_and, and_true, false_and, and_false, or_true, true_or, or_false, false_or, Nat.zero_le, forall_const, implies_true, false_implies, Nat.zero_add, Nat.reduceAdd, Nat.reduceLT, Nat.reduceLeDiff, Nat.le_refl, not_true_eq_false, not_false_eq_true, r_eq, r_ne, r_lt, r_ge, r_gt, r_le, bz_ne, nn_toNat, cn_of, cn_0, cn_1, i10, Int.reduceLE, Int.reduceLT, Int.reduceEq, bz_T, bz_F, ite_self, mulc, st_bud]
    exact hk
  | succ d ih =>
    intro j G ej jQ r1 r2 r3 r4 pt pi wt
    have qj : q ≤ j := by omega
    have nj' : Nst e' j Q := Nst_out nj qj
    have bi := ni.1 i (Int.le_refl _) iP
    have bj := nj'.1 j (Int.le_refl _) jQ
    obtain ⟨I, hI⟩ : ∃ I, I = i * 202 + j := ⟨_, rfl⟩
    obtain ⟨J, hJ⟩ : ∃ J, J = i * 201 + j := ⟨_, rfl⟩
    have vA : G (a + 18) (I + 202) = EDt L e L' e' (i + 1) P j Q := by
      have := pt (i + 1) j (by omega) (by omega) qj (by omega)
      rw [show (i + 1) * 202 + j = I + 202 by omega] at this
      exact this
    have vB : G (a + 18) (I + 1) = EDt L e L' e' i P (j + 1) Q := by
      have := pi (j + 1) (by omega) (by omega)
      rw [show i * 202 + (j + 1) = I + 1 by omega] at this
      exact this
    have vC : G (a + 18) (I + 203) = EDt L e L' e' (i + 1) P (j + 1) Q := by
      have := pt (i + 1) (j + 1) (by omega) (by omega) (by omega) (by omega)
      rw [show (i + 1) * 202 + (j + 1) = I + 203 by omega] at this
      exact this
    have uA := EDt_u (L := L) (e := e) (L' := L') (e' := e') (i := i + 1) (E := P) (j := j) (E' := Q)
    have uB := EDt_u (L := L) (e := e) (L' := L') (e' := e') (i := i) (E := P) (j := j + 1) (E' := Q)
    have uC := EDt_u (L := L) (e := e) (L' := L') (e' := e') (i := i + 1) (E := P) (j := j + 1) (E' := Q)
    have oA := EDt_b (L := L) (e := e) (L' := L') (e' := e') (i := i + 1) (E := P) (j := j) (E' := Q)
    have oB := EDt_b (L := L) (e := e) (L' := L') (e' := e') (i := i) (E := P) (j := j + 1) (E' := Q)
    have oC := EDt_b (L := L) (e := e) (L' := L') (e' := e') (i := i + 1) (E := P) (j := j + 1) (E' := Q)
    obtain ⟨v, hv⟩ : ∃ v, v = EDt L e L' e' i P j Q := ⟨_, rfl⟩
    have step : ∃ G1 : Nat → Int → Int, (∀ z, ¬ z = a + 18 → ¬ z = a + 19 → G1 z = G z) ∧ (∀ k, ¬ k = I → G1 (a + 18) k = G (a + 18) k) ∧ G1 (a + 18) I = v ∧ (∀ k, ¬ (e i = P ∧ e' j = Q ∧ k = J) → G1 (a + 19) k = G (a + 19) k) ∧ (e i = P → e' j = Q → G1 (a + 19) J = v) ∧
        ∀ (Kr : Option Value → q_M → Prop) (K : List Value → q_M → Prop) (Kf : q_M → Prop), K [.ref a, .int (zI x), .int (zI p), .int (zI q), .int (zI P), .int (zI Q), .int (zI i), .int (zI (j - 1))] (st T nx 0 0 R G1) → wcX1_measurePieces_2 [.ref a, .int (zI x), .int (zI p), .int (zI q), .int (zI P), .int (zI Q), .int (zI i), .int (zI j)] (st T nx 0 0 R G) (fun μ' => wsX1_measurePieces_2 [.ref a, .int (zI x), .int (zI p), .int (zI q), .int (zI P), .int (zI Q), .int (zI i), .int (zI j)] μ' K Kr) Kf := by
      by_cases c : e i = P ∧ e' j = Q
      · have eq := EDt_both (L := L) (e := e) (L' := L') (e' := e') iP jQ c.1 c.2
        obtain ⟨t, ht⟩ : ∃ t : Int, t = if L i = L' j then 0 else 1 := ⟨_, rfl⟩
        rw [← ht, ← hv] at eq
        have tb : 0 ≤ t ∧ t ≤ 1 := by
          rw [ht]
          split <;> omega
        have ve : min (1 + min (G (a + 18) (I + 202)) (G (a + 18) (I + 1))) (G (a + 18) (I + 203) + t) = v := by
          rw [vA, vB, vC, eq]
        refine ⟨gs (gs G (a + 19) J v) (a + 18) I v, fun z z1 z2 => by rw [gs_ne z1, gs_ne z2], fun k hk => by rw [gs_eq, fu_ne hk, gs_ne (by omega)], gs_same _ _ _ _, fun k hk => by rw [gs_ne (by omega), gs_eq, fu_ne (fun z => hk ⟨c.1, c.2, z⟩)], fun _ _ => by rw [gs_ne (by omega), gs_same], fun Kr K Kf hk => ?_⟩
        exact mp_2a (t := t) h1 x0 x3 i0 iP P1 q0 qj jQ Q1 hI hJ (by rw [vA]; omega) (by rw [vB]; omega) (by rw [vC]; omega) (by rw [r2]; exact c.1) (by rw [r4]; exact c.2) (by rw [r1, r3]; exact ⟨lb i i0 iP, lb' j (by omega) jQ⟩) (by rw [r1, r3]; exact ht) K Kr Kf (by rw [ve]; exact hk)
      · have eq := EDt_two (L := L) (e := e) (L' := L') (e' := e') ni nj' iP jQ
        have vD := pt (e i) (e' j) (by omega) (by omega) (by omega) (by omega)
        have vW := wt j qj (Int.le_refl _) c
        rw [← hJ] at vW
        have uD := EDt_u (L := L) (e := e) (L' := L') (e' := e') (i := e i) (E := P) (j := e' j) (E' := Q)
        have uW := EDt_u (L := L) (e := e) (L' := L') (e' := e') (i := i) (E := e i) (j := j) (E' := e' j)
        have oD := EDt_b (L := L) (e := e) (L' := L') (e' := e') (i := e i) (E := P) (j := e' j) (E' := Q)
        have oW := EDt_b (L := L) (e := e) (L' := L') (e' := e') (i := i) (E := e i) (j := j) (E' := e' j)
        obtain ⟨D, hD⟩ : ∃ D, D = e i * 202 + e' j := ⟨_, rfl⟩
        rw [← hD] at vD
        have ve : min (1 + min (G (a + 18) (I + 202)) (G (a + 18) (I + 1))) (G (a + 18) D + G (a + 19) J) = v := by
          rw [vA, vB, vD, vW, hv, eq]
        refine ⟨gs G (a + 18) I v, fun z z1 z2 => by rw [gs_ne z1], fun k hk => by rw [gs_eq, fu_ne hk], gs_same _ _ _ _, fun k hk => by rw [gs_ne (by omega)], fun z1 z2 => absurd ⟨z1, z2⟩ c, fun Kr K Kf hk => ?_⟩
        exact mp_2b h1 x0 x3 i0 iP P1 q0 qj jQ Q1 hI hJ (by rw [vA]; omega) (by rw [vB]; omega) hD (by omega) (by omega) (by rw [r2]) (by rw [r4]) c (by rw [vD]; omega) (by rw [vW]; omega) K Kr Kf (by rw [ve]; exact hk)
    obtain ⟨G1, s1, s2, s3, s4, s5, s6⟩ := step
    have ne18 : ∀ k, k < 18 → ¬ a + k = a + 18 ∧ ¬ a + k = a + 19 := fun k hk => by omega
    have fr : ∀ z, z < a + 18 → G1 z = G z := fun z hz => s1 z (by omega) (by omega)
    obtain ⟨G2, t1, t2, t3, t4, t5, t6⟩ := ih (j - 1) G1 (by omega) (by omega) (by rw [fr _ (by omega)]; exact r1) (by rw [fr _ (by omega)]; exact r2) (by rw [fr _ (by omega)]; exact r3) (by rw [fr _ (by omega)]; exact r4) (fun r y a1 a2 a3 a4 => by rw [s2 _ (by omega)]; exact pt r y a1 a2 a3 a4) (fun y a1 a2 => by
      by_cases g : y = j
      · rw [g, ← hI, s3, hv]
      · rw [s2 _ (by omega)]
        exact pi y (by omega) a2) (fun y a1 a2 a3 => by
      rw [s4 _ (fun z => by omega)]
      exact wt y a1 (by omega) a3)
    refine ⟨G2, fun z z1 z2 => by rw [t1 z z1 z2, s1 z z1 z2], fun k hk => by rw [t2 k (by omega), s2 k (by omega)], fun k hk => ?_, t4, fun y y0 y1 c1 c2 => ?_, fun Kn Kr hh => q_backR (fun K Kf hk => s6 Kr K Kf hk) (t6 Kn Kr hh)⟩
    · rw [t3 k (fun ⟨y, z1, z2, z3, z4, z5⟩ => hk ⟨y, z1, by omega, z3, z4, z5⟩), s4 k (fun ⟨z1, z2, z3⟩ => hk ⟨j, qj, Int.le_refl _, z1, z2, by omega⟩)]
    · by_cases g : y = j
      · rw [g, ← hJ, t3 _ (fun ⟨y', z1, z2, z3, z4, z5⟩ => by omega), ← hv]
        rw [g] at c2
        exact s5 c1 c2
      · exact t5 y y0 (by omega) c1 c2
end
