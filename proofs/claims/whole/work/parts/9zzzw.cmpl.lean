section
/-! distance: the reference compares two pieces: one row, all rows -/
/-- the reference's rows, from their ends -/
def RvR (G : Nat → Int → Int) (B : Nat) (s n : Int) (L e : Int → Int) : Prop := ∀ X, 0 ≤ X → X < n → G (B + 544 + 57) (210 * s + (n - 1 - X)) = L X ∧ G (B + 544 + 58) (210 * s + (n - 1 - X)) = n - e X
set_option maxHeartbeats 1000000 in
theorem RvR_fr {G G' : Nat → Int → Int} {B : Nat} {s n : Int} {L e : Int → Int} (h : RvR G B s n L e) (h1 : G' (B + 544 + 57) = G (B + 544 + 57)) (h2 : G' (B + 544 + 58) = G (B + 544 + 58)) : RvR G' B s n L e := fun X a b => by
  rw [h1, h2]
  exact h X a b
set_option maxHeartbeats 1000000 in
theorem cp_l3 {T : Nat → Option q_T} {nx B : Nat} {R : Nat → Nat → Option Value} {n n' p q P Q X : Int} {L e L' e' : Int → Int} (hM : Ly T R (B + 544) (L12 (B + 544))) (n1 : n ≤ 201) (n1' : n' ≤ 201) (p0 : 0 ≤ p) (Pn : P ≤ n) (q0 : 0 ≤ q) (Qn : Q ≤ n') (lb : ∀ z, 0 ≤ z → z < n → 0 ≤ L z ∧ L z ≤ 5000) (lb' : ∀ z, 0 ≤ z → z < n' → 0 ≤ L' z ∧ L' z ≤ 5000) (pX : p ≤ X) (XP : X < P) (ni : Nst e X P) (nj : Nst e' q Q) : ∀ (d : Nat) (Y : Int) (G : Nat → Int → Int), Y = q - 1 + d → Y < Q → RvR G B 0 n L e → RvR G B 1 n' L' e' →
    (∀ r y, X < r → r ≤ P → q ≤ y → y ≤ Q → G (B + 544 + 62) (211 * (P - r) + (Q - y)) = EDt L e L' e' r P y Q) → (∀ y, Y < y → y ≤ Q → G (B + 544 + 62) (211 * (P - X) + (Q - y)) = EDt L e L' e' X P y Q) → (∀ y, q ≤ y → y ≤ Y → ¬ (e X = P ∧ e' y = Q) → G (B + 544 + 61) (210 * (n - 1 - X) + (n' - 1 - y)) = EDt L e L' e' X (e X) y (e' y)) →
    ∃ G' : Nat → Int → Int, (∀ z, ¬ z = (B + 544 + 62) → ¬ z = (B + 544 + 61) → G' z = G z) ∧ (∀ k, ¬ (∃ y, q ≤ y ∧ y ≤ Y ∧ k = 211 * (P - X) + (Q - y)) → G' (B + 544 + 62) k = G (B + 544 + 62) k) ∧ (∀ k, ¬ (∃ y, q ≤ y ∧ y ≤ Y ∧ e X = P ∧ e' y = Q ∧ k = 210 * (n - 1 - X) + (n' - 1 - y)) → G' (B + 544 + 61) k = G (B + 544 + 61) k) ∧ (∀ y, q ≤ y → y ≤ Q → G' (B + 544 + 62) (211 * (P - X) + (Q - y)) = EDt L e L' e' X P y Q) ∧ (∀ y, q ≤ y → y ≤ Y → e X = P → e' y = Q → G' (B + 544 + 61) (210 * (n - 1 - X) + (n' - 1 - y)) = EDt L e L' e' X P y Q) ∧
      ∀ (Kn : List Value → q_M → Prop) (Kr : Option Value → q_M → Prop), Kn [.ref (B + 544), .int (zI (n - 1 - p)), .int (zI (n' - 1 - q)), .int (zI (n - P)), .int (zI (n' - Q)), .int (zI (n - 1 - X)), .int (zI (n' - q))] (st T nx 0 0 R G') → q_wh wcX12_compareAt_3 wsX12_compareAt_3 [.ref (B + 544), .int (zI (n - 1 - p)), .int (zI (n' - 1 - q)), .int (zI (n - P)), .int (zI (n' - Q)), .int (zI (n - 1 - X)), .int (zI (n' - 1 - Y))] (st T nx 0 0 R G) Kn Kr := by
  intro d
  induction d with
  | zero =>
    intro Y G ej jQ _ _ _ h _
    have e : Y = q - 1 := by omega
    subst e
    refine ⟨G, fun _ _ _ => rfl, fun _ _ => rfl, fun _ _ => rfl, fun y y0 y1 => h y (by omega) y1, fun y y0 y1 => by omega, fun Kn Kr hh => ?_⟩
    rw [show n' - 1 - (q - 1) = n' - q by omega]
    obtain ⟨z, hz⟩ : ∃ z, z = n' - q := ⟨_, rfl⟩
    obtain ⟨w, hw⟩ : ∃ w, w = n' - 1 - q := ⟨_, rfl⟩
    have g : ¬ z ≤ w := by omega
    have zb : -1000 ≤ z ∧ z ≤ 1000 ∧ -1000 ≤ w ∧ w ≤ 1000 := by omega
    rw [← hz, ← hw] at hh ⊢
    refine q_outR (fun Kt Kf hk => ?_) hh
    clear h hh ni nj hz hw
    simp (disch := omega) only [↓wcX12_compareAt_3.eq_1, ↓k_mk, ↓k_sq, ↓k_sk, ↓k_bk, ↓k_if, ↓k_te, ↓k_cm, ↓k_cz, ↓k_an2, ↓k_or2, ↓k_no, ↓k_ci, ↓k_l0, ↓k_r0, ↓k_se0, ↓k_ic0, ↓k_l1, ↓k_r1, ↓k_se1, ↓k_ic1, ↓k_de1, ↓k_tk1, ↓k_l2, ↓k_r2, ↓k_se2, ↓k_ic2, ↓k_de2, ↓k_tk2, ↓k_l3, ↓k_r3, ↓k_se3, ↓k_ic3, ↓k_de3, ↓k_tk3, ↓k_l4, ↓k_r4, ↓k_se4, ↓k_ic4, ↓k_de4, ↓k_tk4, ↓k_l5, ↓k_r5, ↓k_se5, ↓k_ic5, ↓k_de5, ↓k_tk5, ↓k_l6, ↓k_r6, ↓k_se6, ↓k_ic6, ↓k_de6, ↓k_tk6, ↓k_l7, ↓k_r7, ↓k_se7, ↓k_ic7, ↓k_de7, ↓k_tk7, ↓k_l8, ↓k_r8, ↓k_se8, ↓k_ic8, ↓k_de8, ↓k_tk8, ↓k_l9, ↓k_r9, ↓k_se9, ↓k_ic9, ↓k_de9, ↓k_tk9, ↓k_l10, ↓k_r10, ↓k_se10, ↓k_ic10, ↓k_de10, ↓k_tk10, ↓k_l11, ↓k_r11, ↓k_se11, ↓k_ic11, ↓k_de11, ↓k_tk11, ↓k_l12, ↓k_r12, ↓k_se12, ↓k_ic12, ↓k_de12, ↓k_tk12, ↓k_l13, ↓k_r13, ↓k_se13, ↓k_ic13, ↓k_de13, ↓k_tk13, ↓k_l14, ↓k_r14, ↓k_se14, ↓k_ic14, ↓k_de14, ↓k_tk14, ↓k_l15, ↓k_r15, ↓k_se15, ↓k_ic15, ↓k_de15, ↓k_tk15, ↓k_l16, ↓k_r16, ↓k_se16, ↓k_ic16, ↓k_de16, ↓k_tk16, ↓k_l17, ↓k_r17, ↓k_se17, ↓k_ic17, ↓k_de17, ↓k_tk17, ↓k_l18, ↓k_r18, ↓k_se18, ↓k_ic18, ↓k_de18, ↓k_tk18, ↓k_l19, ↓k_r19, ↓k_se19, ↓k_ic19, ↓k_de19, ↓k_tk19, ↓k_l20, ↓k_r20, ↓k_se20, ↓k_ic20, ↓k_de20, ↓k_tk20, ↓k_l21, ↓k_r21, ↓k_se21, ↓k_ic21, ↓k_de21, ↓k_tk21, ↓k_l22, ↓k_r22, ↓k_se22, ↓k_ic22, ↓k_de22, ↓k_tk22, ↓k_l23, ↓k_r23, ↓k_se23, ↓k_ic23, ↓k_de23, ↓k_tk23, ↓k_l24, ↓k_r24, ↓k_se24, ↓k_ic24, ↓k_de24, ↓k_tk24, ↓k_l25, ↓k_r25, ↓k_se25, ↓k_ic25, ↓k_de25, ↓k_tk25, ↓k_k, ↓k_kn, ↓k_kl, ↓k_kln, ↓k_il, ↓k_2, ↓k_1, ↓k_2c, ↓k_2l, ↓k_ac, ↓k_an, ↓k_cs, ↓k_cv, ↓k_fi, ↓k_fr, ↓k_ai, ↓k_az, ↓k_ar, ↓k_sai, ↓k_saz, ↓k_soa, ↓k_sof, ↓k_spf, ↓k_sx, ↓k_blk, ↓k_sset, ↓k_sdec, ↓k_sri, ↓k_srv, ↓k_srr, ↓k_nop, ↓k_add, ↓k_sub, ↓k_mul, ↓k_min, ↓k_max, ↓k_shr, ↓k_shl, ↓k_or, ↓k_ilz, ↓k_addl, ↓k_rt, ↓k_rb, ↓k_rbz, ↓k_rsi, ↓k_rsr, ↓k_rsv, ↓reduceIte, g, List.length_cons, List.length_nil, List.forall_mem_cons, List.not_mem_nil, Value.category, true_and, and_true, false_and, and_false, or_true, true_or, or_false, false_or, Nat.zero_le, forall_const, implies_true, false_implies, Nat.zero_add, Nat.reduceAdd, Nat.reduceLT, Nat.reduceLeDiff, Nat.le_refl, not_true_eq_false, not_false_eq_true, r_eq, r_ne, r_lt, r_ge, r_gt, r_le, bz_ne, nn_toNat, cn_of, cn_0, cn_1, i10, Int.reduceLE, Int.reduceLT, Int.reduceEq, bz_T, bz_F, ite_self, mulc, st_bud]
    exact hk
  | succ d ih =>
    intro Y G ej jQ r1 r2 pt pi wt
    have qY : q ≤ Y := by omega
    have nj' : Nst e' Y Q := Nst_out nj qY
    have bi := ni.1 X (Int.le_refl _) XP
    have bj := nj'.1 Y (Int.le_refl _) jQ
    obtain ⟨l1, f1⟩ := r1 X (by omega) (by omega)
    obtain ⟨l2, f2⟩ := r2 Y (by omega) (by omega)
    rw [show (210 : Int) * 0 + (n - 1 - X) = n - 1 - X by omega] at l1 f1
    rw [show (210 : Int) * 1 + (n' - 1 - Y) = 210 + (n' - 1 - Y) by omega] at l2 f2
    obtain ⟨I, hI⟩ : ∃ I, I = 211 * (P - X) + (Q - Y) := ⟨_, rfl⟩
    obtain ⟨J, hJ⟩ : ∃ J, J = 210 * (n - 1 - X) + (n' - 1 - Y) := ⟨_, rfl⟩
    have vA : G (B + 544 + 62) (I - 211) = EDt L e L' e' (X + 1) P Y Q := by
      have := pt (X + 1) Y (by omega) (by omega) qY (by omega)
      rw [show 211 * (P - (X + 1)) + (Q - Y) = I - 211 by omega] at this
      exact this
    have vB : G (B + 544 + 62) (I - 1) = EDt L e L' e' X P (Y + 1) Q := by
      have := pi (Y + 1) (by omega) (by omega)
      rw [show 211 * (P - X) + (Q - (Y + 1)) = I - 1 by omega] at this
      exact this
    have vC : G (B + 544 + 62) (I - 212) = EDt L e L' e' (X + 1) P (Y + 1) Q := by
      have := pt (X + 1) (Y + 1) (by omega) (by omega) (by omega) (by omega)
      rw [show 211 * (P - (X + 1)) + (Q - (Y + 1)) = I - 212 by omega] at this
      exact this
    have uA := EDt_u (L := L) (e := e) (L' := L') (e' := e') (i := X + 1) (E := P) (j := Y) (E' := Q)
    have uB := EDt_u (L := L) (e := e) (L' := L') (e' := e') (i := X) (E := P) (j := Y + 1) (E' := Q)
    have uC := EDt_u (L := L) (e := e) (L' := L') (e' := e') (i := X + 1) (E := P) (j := Y + 1) (E' := Q)
    have oA := EDt_b (L := L) (e := e) (L' := L') (e' := e') (i := X + 1) (E := P) (j := Y) (E' := Q)
    have oB := EDt_b (L := L) (e := e) (L' := L') (e' := e') (i := X) (E := P) (j := Y + 1) (E' := Q)
    have oC := EDt_b (L := L) (e := e) (L' := L') (e' := e') (i := X + 1) (E := P) (j := Y + 1) (E' := Q)
    have hI2 : I = 211 * (n - 1 - X - (n - P) + 1) + (n' - 1 - Y) - (n' - Q) + 1 := by omega
    obtain ⟨v, hv⟩ : ∃ v, v = EDt L e L' e' X P Y Q := ⟨_, rfl⟩
    have step : ∃ G1 : Nat → Int → Int, (∀ z, ¬ z = (B + 544 + 62) → ¬ z = (B + 544 + 61) → G1 z = G z) ∧ (∀ k, ¬ k = I → G1 (B + 544 + 62) k = G (B + 544 + 62) k) ∧ G1 (B + 544 + 62) I = v ∧ (∀ k, ¬ (e X = P ∧ e' Y = Q ∧ k = J) → G1 (B + 544 + 61) k = G (B + 544 + 61) k) ∧ (e X = P → e' Y = Q → G1 (B + 544 + 61) J = v) ∧
        ∀ (Kr : Option Value → q_M → Prop) (K : List Value → q_M → Prop) (Kf : q_M → Prop), K [.ref (B + 544), .int (zI (n - 1 - p)), .int (zI (n' - 1 - q)), .int (zI (n - P)), .int (zI (n' - Q)), .int (zI (n - 1 - X)), .int (zI (n' - 1 - Y + 1))] (st T nx 0 0 R G1) → wcX12_compareAt_3 [.ref (B + 544), .int (zI (n - 1 - p)), .int (zI (n' - 1 - q)), .int (zI (n - P)), .int (zI (n' - Q)), .int (zI (n - 1 - X)), .int (zI (n' - 1 - Y))] (st T nx 0 0 R G) (fun μ' => wsX12_compareAt_3 [.ref (B + 544), .int (zI (n - 1 - p)), .int (zI (n' - 1 - q)), .int (zI (n - P)), .int (zI (n' - Q)), .int (zI (n - 1 - X)), .int (zI (n' - 1 - Y))] μ' K Kr) Kf := by
      by_cases c : e X = P ∧ e' Y = Q
      · have eq := EDt_both (L := L) (e := e) (L' := L') (e' := e') XP jQ c.1 c.2
        obtain ⟨t, ht⟩ : ∃ t : Int, t = if L X = L' Y then 0 else 1 := ⟨_, rfl⟩
        rw [← ht, ← hv] at eq
        have tb : 0 ≤ t ∧ t ≤ 1 := by
          rw [ht]
          split <;> omega
        have ve : min (min (G (B + 544 + 62) (I - 211)) (G (B + 544 + 62) (I - 1)) + 1) (G (B + 544 + 62) (I - 212) + t) = v := by
          rw [vA, vB, vC, eq]
          omega
        refine ⟨gs (gs G (B + 544 + 61) J v) (B + 544 + 62) I v, fun z z1 z2 => by rw [gs_ne z1, gs_ne z2], fun k hk => by rw [gs_eq, fu_ne hk, gs_ne (by omega)], gs_same _ _ _ _, fun k hk => by rw [gs_ne (by omega), gs_eq, fu_ne (fun z => hk ⟨c.1, c.2, z⟩)], fun _ _ => by rw [gs_ne (by omega), gs_same], fun Kr K Kf hk => ?_⟩
        exact cp_3a (t := t) hM (by omega) (by omega) (by omega) (by omega) (by omega) (by omega) (by omega) (by omega) hI2 hJ (by rw [vA]; omega) (by rw [vB]; omega) (by rw [vC]; omega) (by rw [f1, c.1]) (by rw [f2, c.2]) (by rw [l1, l2]; exact ⟨lb X (by omega) (by omega), lb' Y (by omega) (by omega)⟩) (by rw [l1, l2]; exact ht) K Kr Kf (by rw [ve]; exact hk)
      · have eq := EDt_two (L := L) (e := e) (L' := L') (e' := e') ni nj' XP jQ
        have vD := pt (e X) (e' Y) (by omega) (by omega) (by omega) (by omega)
        have vW := wt Y qY (Int.le_refl _) c
        rw [← hJ] at vW
        have uD := EDt_u (L := L) (e := e) (L' := L') (e' := e') (i := e X) (E := P) (j := e' Y) (E' := Q)
        have uW := EDt_u (L := L) (e := e) (L' := L') (e' := e') (i := X) (E := e X) (j := Y) (E' := e' Y)
        have oD := EDt_b (L := L) (e := e) (L' := L') (e' := e') (i := e X) (E := P) (j := e' Y) (E' := Q)
        have oW := EDt_b (L := L) (e := e) (L' := L') (e' := e') (i := X) (E := e X) (j := Y) (E' := e' Y)
        obtain ⟨D, hD⟩ : ∃ D, D = 211 * (P - e X) + (Q - e' Y) := ⟨_, rfl⟩
        rw [← hD] at vD
        have ve : min (min (G (B + 544 + 62) (I - 211)) (G (B + 544 + 62) (I - 1)) + 1) (G (B + 544 + 62) D + G (B + 544 + 61) J) = v := by
          rw [vA, vB, vD, vW, hv, eq]
          omega
        refine ⟨gs G (B + 544 + 62) I v, fun z z1 z2 => by rw [gs_ne z1], fun k hk => by rw [gs_eq, fu_ne hk], gs_same _ _ _ _, fun k hk => by rw [gs_ne (by omega)], fun z1 z2 => absurd ⟨z1, z2⟩ c, fun Kr K Kf hk => ?_⟩
        exact cp_3b (fx := n - e X) (fy := n' - e' Y) (D := D) hM (by omega) (by omega) (by omega) (by omega) (by omega) (by omega) (by omega) (by omega) hI2 hJ (by rw [vA]; omega) (by rw [vB]; omega) (by omega) (by omega) (by omega) (by omega) f1 f2 (fun z => c (by omega)) (by rw [vD]; omega) (by rw [vW]; omega) K Kr Kf (by rw [ve]; exact hk)
    obtain ⟨G1, s1, s2, s3, s4, s5, s6⟩ := step
    have fr1 := s1 (B + 544 + 57) (by omega) (by omega)
    have fr2 := s1 (B + 544 + 58) (by omega) (by omega)
    obtain ⟨G2, t1, t2, t3, t4, t5, t6⟩ := ih (Y - 1) G1 (by omega) (by omega) (RvR_fr r1 fr1 fr2) (RvR_fr r2 fr1 fr2) (fun r y a1 a2 a3 a4 => by rw [s2 _ (by omega)]; exact pt r y a1 a2 a3 a4) (fun y a1 a2 => by
      by_cases g : y = Y
      · rw [g, ← hI, s3, hv]
      · rw [s2 _ (by omega)]
        exact pi y (by omega) a2) (fun y a1 a2 a3 => by
      rw [s4 _ (fun z => by omega)]
      exact wt y a1 (by omega) a3)
    refine ⟨G2, fun z z1 z2 => by rw [t1 z z1 z2, s1 z z1 z2], fun k hk => ?_, fun k hk => ?_, t4, fun y y0 y1 c1 c2 => ?_, fun Kn Kr hh => q_backR (fun K Kf hk => s6 Kr K Kf hk) (by rw [show n' - 1 - Y + 1 = n' - 1 - (Y - 1) by omega]; exact t6 Kn Kr hh)⟩
    · rw [t2 k (fun ⟨y, z1, z2, z3⟩ => hk ⟨y, z1, by omega, z3⟩), s2 k (fun z => hk ⟨Y, qY, Int.le_refl _, by omega⟩)]
    · rw [t3 k (fun ⟨y, z1, z2, z3, z4, z5⟩ => hk ⟨y, z1, by omega, z3, z4, z5⟩), s4 k (fun ⟨z1, z2, z3⟩ => hk ⟨Y, qY, Int.le_refl _, z1, z2, by omega⟩)]
    · by_cases g : y = Y
      · rw [g, ← hJ, t3 _ (fun ⟨y', z1, z2, z3, z4, z5⟩ => by omega), ← hv]
        rw [g] at c2
        exact s5 c1 c2
      · exact t5 y y0 (by omega) c1 c2
set_option maxHeartbeats 1000000 in
theorem cp_l2 {T : Nat → Option q_T} {nx B : Nat} {R : Nat → Nat → Option Value} {n n' p q P Q X : Int} {L e L' e' : Int → Int} (hM : Ly T R (B + 544) (L12 (B + 544))) (n1 : n ≤ 201) (n1' : n' ≤ 201) (p0 : 0 ≤ p) (Pn : P ≤ n) (q0 : 0 ≤ q) (Qn : Q ≤ n') (lb : ∀ z, 0 ≤ z → z < n → 0 ≤ L z ∧ L z ≤ 5000) (lb' : ∀ z, 0 ≤ z → z < n' → 0 ≤ L' z ∧ L' z ≤ 5000) (pP : p < P) (qQ : q < Q) (np : Nst e p P) (nj : Nst e' q Q) : ∀ (d : Nat) (X : Int) (G : Nat → Int → Int), X = p - 1 + d → X < P → RvR G B 0 n L e → RvR G B 1 n' L' e' →
    (∀ r y, X < r → r ≤ P → q ≤ y → y ≤ Q → G (B + 544 + 62) (211 * (P - r) + (Q - y)) = EDt L e L' e' r P y Q) → (∀ r, p ≤ r → r ≤ X → G (B + 544 + 62) (211 * (P - r)) = P - r) → (∀ r y, p ≤ r → r ≤ X → q ≤ y → y < Q → ¬ (e r = P ∧ e' y = Q) → G (B + 544 + 61) (210 * (n - 1 - r) + (n' - 1 - y)) = EDt L e L' e' r (e r) y (e' y)) →
    ∃ G' : Nat → Int → Int, (∀ z, ¬ z = (B + 544 + 62) → ¬ z = (B + 544 + 61) → G' z = G z) ∧ (∀ k, ¬ (∃ r y, p ≤ r ∧ r ≤ X ∧ q ≤ y ∧ y < Q ∧ e r = P ∧ e' y = Q ∧ k = 210 * (n - 1 - r) + (n' - 1 - y)) → G' (B + 544 + 61) k = G (B + 544 + 61) k) ∧ (∀ r y, p ≤ r → r ≤ X → q ≤ y → y < Q → e r = P → e' y = Q → G' (B + 544 + 61) (210 * (n - 1 - r) + (n' - 1 - y)) = EDt L e L' e' r P y Q) ∧
      ∀ (Kn : List Value → q_M → Prop) (Kr : Option Value → q_M → Prop), Kn [.ref (B + 544), .int (zI (n - 1 - p)), .int (zI (n' - 1 - q)), .int (zI (n - P)), .int (zI (n' - Q)), .int (zI (n - p))] (st T nx 0 0 R G') → q_wh wcX12_compareAt_2 wsX12_compareAt_2 [.ref (B + 544), .int (zI (n - 1 - p)), .int (zI (n' - 1 - q)), .int (zI (n - P)), .int (zI (n' - Q)), .int (zI (n - 1 - X))] (st T nx 0 0 R G) Kn Kr := by
  intro d
  induction d with
  | zero =>
    intro X G ei iP _ _ _ _ _
    have e : X = p - 1 := by omega
    subst e
    refine ⟨G, fun _ _ _ => rfl, fun _ _ => rfl, fun r y y0 y1 => by omega, fun Kn Kr hh => ?_⟩
    rw [show n - 1 - (p - 1) = n - p by omega]
    obtain ⟨z, hz⟩ : ∃ z, z = n - p := ⟨_, rfl⟩
    obtain ⟨w, hw⟩ : ∃ w, w = n - 1 - p := ⟨_, rfl⟩
    have g : ¬ z ≤ w := by omega
    have zb : -1000 ≤ z ∧ z ≤ 1000 ∧ -1000 ≤ w ∧ w ≤ 1000 := by omega
    rw [← hz, ← hw] at hh ⊢
    refine q_outR (fun Kt Kf hk => ?_) hh
    clear hh np nj hz hw
    simp (disch := omega) only [↓wcX12_compareAt_2.eq_1, ↓k_mk, ↓k_sq, ↓k_sk, ↓k_bk, ↓k_if, ↓k_te, ↓k_cm, ↓k_cz, ↓k_an2, ↓k_or2, ↓k_no, ↓k_ci, ↓k_l0, ↓k_r0, ↓k_se0, ↓k_ic0, ↓k_l1, ↓k_r1, ↓k_se1, ↓k_ic1, ↓k_de1, ↓k_tk1, ↓k_l2, ↓k_r2, ↓k_se2, ↓k_ic2, ↓k_de2, ↓k_tk2, ↓k_l3, ↓k_r3, ↓k_se3, ↓k_ic3, ↓k_de3, ↓k_tk3, ↓k_l4, ↓k_r4, ↓k_se4, ↓k_ic4, ↓k_de4, ↓k_tk4, ↓k_l5, ↓k_r5, ↓k_se5, ↓k_ic5, ↓k_de5, ↓k_tk5, ↓k_l6, ↓k_r6, ↓k_se6, ↓k_ic6, ↓k_de6, ↓k_tk6, ↓k_l7, ↓k_r7, ↓k_se7, ↓k_ic7, ↓k_de7, ↓k_tk7, ↓k_l8, ↓k_r8, ↓k_se8, ↓k_ic8, ↓k_de8, ↓k_tk8, ↓k_l9, ↓k_r9, ↓k_se9, ↓k_ic9, ↓k_de9, ↓k_tk9, ↓k_l10, ↓k_r10, ↓k_se10, ↓k_ic10, ↓k_de10, ↓k_tk10, ↓k_l11, ↓k_r11, ↓k_se11, ↓k_ic11, ↓k_de11, ↓k_tk11, ↓k_l12, ↓k_r12, ↓k_se12, ↓k_ic12, ↓k_de12, ↓k_tk12, ↓k_l13, ↓k_r13, ↓k_se13, ↓k_ic13, ↓k_de13, ↓k_tk13, ↓k_l14, ↓k_r14, ↓k_se14, ↓k_ic14, ↓k_de14, ↓k_tk14, ↓k_l15, ↓k_r15, ↓k_se15, ↓k_ic15, ↓k_de15, ↓k_tk15, ↓k_l16, ↓k_r16, ↓k_se16, ↓k_ic16, ↓k_de16, ↓k_tk16, ↓k_l17, ↓k_r17, ↓k_se17, ↓k_ic17, ↓k_de17, ↓k_tk17, ↓k_l18, ↓k_r18, ↓k_se18, ↓k_ic18, ↓k_de18, ↓k_tk18, ↓k_l19, ↓k_r19, ↓k_se19, ↓k_ic19, ↓k_de19, ↓k_tk19, ↓k_l20, ↓k_r20, ↓k_se20, ↓k_ic20, ↓k_de20, ↓k_tk20, ↓k_l21, ↓k_r21, ↓k_se21, ↓k_ic21, ↓k_de21, ↓k_tk21, ↓k_l22, ↓k_r22, ↓k_se22, ↓k_ic22, ↓k_de22, ↓k_tk22, ↓k_l23, ↓k_r23, ↓k_se23, ↓k_ic23, ↓k_de23, ↓k_tk23, ↓k_l24, ↓k_r24, ↓k_se24, ↓k_ic24, ↓k_de24, ↓k_tk24, ↓k_l25, ↓k_r25, ↓k_se25, ↓k_ic25, ↓k_de25, ↓k_tk25, ↓k_k, ↓k_kn, ↓k_kl, ↓k_kln, ↓k_il, ↓k_2, ↓k_1, ↓k_2c, ↓k_2l, ↓k_ac, ↓k_an, ↓k_cs, ↓k_cv, ↓k_fi, ↓k_fr, ↓k_ai, ↓k_az, ↓k_ar, ↓k_sai, ↓k_saz, ↓k_soa, ↓k_sof, ↓k_spf, ↓k_sx, ↓k_blk, ↓k_sset, ↓k_sdec, ↓k_sri, ↓k_srv, ↓k_srr, ↓k_nop, ↓k_add, ↓k_sub, ↓k_mul, ↓k_min, ↓k_max, ↓k_shr, ↓k_shl, ↓k_or, ↓k_ilz, ↓k_addl, ↓k_rt, ↓k_rb, ↓k_rbz, ↓k_rsi, ↓k_rsr, ↓k_rsv, ↓reduceIte, g, List.length_cons, List.length_nil, List.forall_mem_cons, List.not_mem_nil, Value.category, true_and, and_true, false_and, and_false, or_true, true_or, or_false, false_or, Nat.zero_le, forall_const, implies_true, false_implies, Nat.zero_add, Nat.reduceAdd, Nat.reduceLT, Nat.reduceLeDiff, Nat.le_refl, not_true_eq_false, not_false_eq_true, r_eq, r_ne, r_lt, r_ge, r_gt, r_le, bz_ne, nn_toNat, cn_of, cn_0, cn_1, i10, Int.reduceLE, Int.reduceLT, Int.reduceEq, bz_T, bz_F, ite_self, mulc, st_bud]
    exact hk
  | succ d ih =>
    intro X G ei iP r1 r2 pt po wt
    have pX : p ≤ X := by omega
    have ni : Nst e X P := Nst_out np pX
    obtain ⟨G2, t1, t2, t3, t4, t5, t6⟩ := cp_l3 (T := T) (nx := nx) (R := R) (p := p) hM n1 n1' p0 Pn q0 Qn lb lb' pX iP ni nj (Q - q).toNat (Q - 1) G (by omega) (by omega) r1 r2 pt (fun y a1 a2 => by
      have hy : y = Q := by omega
      rw [hy, EDt_r, show 211 * (P - X) + (Q - Q) = 211 * (P - X) by omega, po X pX (Int.le_refl _)]
      omega) (fun y a1 a2 a3 => wt X y pX (Int.le_refl _) a1 (by omega) a3)
    have fr1 := t1 (B + 544 + 57) (by omega) (by omega)
    have fr2 := t1 (B + 544 + 58) (by omega) (by omega)
    obtain ⟨G3, u1, u2, u3, u4⟩ := ih (X - 1) G2 (by omega) (by omega) (RvR_fr r1 fr1 fr2) (RvR_fr r2 fr1 fr2) (fun r y a1 a2 a3 a4 => by
      by_cases g : r = X
      · rw [g]
        exact t4 y a3 a4
      · rw [t2 _ (fun ⟨y', z1, z2, z3⟩ => by omega)]
        exact pt r y (by omega) a2 a3 a4) (fun r a1 a2 => by
      rw [t2 _ (fun ⟨y', z1, z2, z3⟩ => by omega)]
      exact po r a1 (by omega)) (fun r y a1 a2 a3 a4 a5 => by
      rw [t3 _ (fun ⟨y', z1, z2, z3, z4, z5⟩ => by omega)]
      exact wt r y a1 (by omega) a3 a4 a5)
    refine ⟨G3, fun z z1 z2 => by rw [u1 z z1 z2, t1 z z1 z2], fun k hk => ?_, fun r y a1 a2 a3 a4 a5 a6 => ?_, fun Kn Kr hh => q_backR (e2 := [.ref (B + 544), .int (zI (n - 1 - p)), .int (zI (n' - 1 - q)), .int (zI (n - P)), .int (zI (n' - Q)), .int (zI (n - 1 - (X - 1)))]) (μ2 := st T nx 0 0 R G2) (fun K Kf hk => ?_) (u4 Kn Kr hh)⟩
    · rw [u2 k (fun ⟨r, y, z1, z2, z3⟩ => hk ⟨r, y, z1, by omega, z3⟩), t3 k (fun ⟨y, z1, z2, z3, z4, z5⟩ => hk ⟨X, y, pX, Int.le_refl _, z1, by omega, z3, z4, z5⟩)]
    · by_cases g : r = X
      · rw [g] at a5 ⊢
        rw [u2 _ (fun ⟨r', y', z1, z2, z3, z4, z5, z6, z7⟩ => by omega)]
        exact t5 y a3 (by omega) a5 a6
      · exact u3 r y a1 (by omega) a3 a4 a5 a6
    · have lw : ∀ (Kn : List Value → q_M → Prop) (Kr : Option Value → q_M → Prop), wX12_compareAt_3 [.ref (B + 544), .int (zI (n - 1 - p)), .int (zI (n' - 1 - q)), .int (zI (n - P)), .int (zI (n' - Q)), .int (zI (n - 1 - X)), .int (zI (n' - 1 - (Q - 1)))] (st T nx 0 0 R G) Kn Kr = Kn [.ref (B + 544), .int (zI (n - 1 - p)), .int (zI (n' - 1 - q)), .int (zI (n - P)), .int (zI (n' - Q)), .int (zI (n - 1 - X)), .int (zI (n' - q))] (st T nx 0 0 R G2) := eX12_compareAt_3.eqn (t6 _ _ ⟨rfl, rfl⟩)
      rw [show n' - 1 - (Q - 1) = n' - Q by omega] at lw
      rw [show n - 1 - (X - 1) = n - 1 - X + 1 by omega] at hk
      obtain ⟨z, hz⟩ : ∃ z, z = n - 1 - X := ⟨_, rfl⟩
      obtain ⟨w, hw⟩ : ∃ w, w = n - 1 - p := ⟨_, rfl⟩
      have zw : z ≤ w := by omega
      have zb : -1000 ≤ z ∧ z ≤ 1000 ∧ -1000 ≤ w ∧ w ≤ 1000 := by omega
      obtain ⟨bq, hbq⟩ : ∃ b, b = n' - Q := ⟨_, rfl⟩
      rw [← hz, ← hw, ← hbq] at lw hk ⊢
      clear t1 t2 t3 t4 t5 t6 pt po wt u1 u2 u3 u4 ih r1 r2 np nj ni hz hw hbq
      simp (disch := omega) only [↓wcX12_compareAt_2.eq_1, ↓wsX12_compareAt_2.eq_1, ↓k_mk, ↓k_sq, ↓k_sk, ↓k_bk, ↓k_if, ↓k_te, ↓k_cm, ↓k_cz, ↓k_an2, ↓k_or2, ↓k_no, ↓k_ci, ↓k_l0, ↓k_r0, ↓k_se0, ↓k_ic0, ↓k_l1, ↓k_r1, ↓k_se1, ↓k_ic1, ↓k_de1, ↓k_tk1, ↓k_l2, ↓k_r2, ↓k_se2, ↓k_ic2, ↓k_de2, ↓k_tk2, ↓k_l3, ↓k_r3, ↓k_se3, ↓k_ic3, ↓k_de3, ↓k_tk3, ↓k_l4, ↓k_r4, ↓k_se4, ↓k_ic4, ↓k_de4, ↓k_tk4, ↓k_l5, ↓k_r5, ↓k_se5, ↓k_ic5, ↓k_de5, ↓k_tk5, ↓k_l6, ↓k_r6, ↓k_se6, ↓k_ic6, ↓k_de6, ↓k_tk6, ↓k_l7, ↓k_r7, ↓k_se7, ↓k_ic7, ↓k_de7, ↓k_tk7, ↓k_l8, ↓k_r8, ↓k_se8, ↓k_ic8, ↓k_de8, ↓k_tk8, ↓k_l9, ↓k_r9, ↓k_se9, ↓k_ic9, ↓k_de9, ↓k_tk9, ↓k_l10, ↓k_r10, ↓k_se10, ↓k_ic10, ↓k_de10, ↓k_tk10, ↓k_l11, ↓k_r11, ↓k_se11, ↓k_ic11, ↓k_de11, ↓k_tk11, ↓k_l12, ↓k_r12, ↓k_se12, ↓k_ic12, ↓k_de12, ↓k_tk12, ↓k_l13, ↓k_r13, ↓k_se13, ↓k_ic13, ↓k_de13, ↓k_tk13, ↓k_l14, ↓k_r14, ↓k_se14, ↓k_ic14, ↓k_de14, ↓k_tk14, ↓k_l15, ↓k_r15, ↓k_se15, ↓k_ic15, ↓k_de15, ↓k_tk15, ↓k_l16, ↓k_r16, ↓k_se16, ↓k_ic16, ↓k_de16, ↓k_tk16, ↓k_l17, ↓k_r17, ↓k_se17, ↓k_ic17, ↓k_de17, ↓k_tk17, ↓k_l18, ↓k_r18, ↓k_se18, ↓k_ic18, ↓k_de18, ↓k_tk18, ↓k_l19, ↓k_r19, ↓k_se19, ↓k_ic19, ↓k_de19, ↓k_tk19, ↓k_l20, ↓k_r20, ↓k_se20, ↓k_ic20, ↓k_de20, ↓k_tk20, ↓k_l21, ↓k_r21, ↓k_se21, ↓k_ic21, ↓k_de21, ↓k_tk21, ↓k_l22, ↓k_r22, ↓k_se22, ↓k_ic22, ↓k_de22, ↓k_tk22, ↓k_l23, ↓k_r23, ↓k_se23, ↓k_ic23, ↓k_de23, ↓k_tk23, ↓k_l24, ↓k_r24, ↓k_se24, ↓k_ic24, ↓k_de24, ↓k_tk24, ↓k_l25, ↓k_r25, ↓k_se25, ↓k_ic25, ↓k_de25, ↓k_tk25, ↓k_k, ↓k_kn, ↓k_kl, ↓k_kln, ↓k_il, ↓k_2, ↓k_1, ↓k_2c, ↓k_2l, ↓k_ac, ↓k_an, ↓k_cs, ↓k_cv, ↓k_fi, ↓k_fr, ↓k_ai, ↓k_az, ↓k_ar, ↓k_sai, ↓k_saz, ↓k_soa, ↓k_sof, ↓k_spf, ↓k_sx, ↓k_blk, ↓k_sset, ↓k_sdec, ↓k_sri, ↓k_srv, ↓k_srr, ↓k_nop, ↓k_add, ↓k_sub, ↓k_mul, ↓k_min, ↓k_max, ↓k_shr, ↓k_shl, ↓k_or, ↓k_ilz, ↓k_addl, ↓k_rt, ↓k_rb, ↓k_rbz, ↓k_rsi, ↓k_rsr, ↓k_rsv, ↓reduceIte, zw, ↓lw, List.length_cons, List.length_nil, List.forall_mem_cons, List.not_mem_nil, Value.category, true_and, and_true, false_and, and_false, or_true, true_or, or_false, false_or, Nat.zero_le, forall_const, implies_true, false_implies, Nat.zero_add, Nat.reduceAdd, Nat.reduceLT, Nat.reduceLeDiff, Nat.le_refl, not_true_eq_false, not_false_eq_true, r_eq, r_ne, r_lt, r_ge, r_gt, r_le, bz_ne, nn_toNat, cn_of, cn_0, cn_1, i10, Int.reduceLE, Int.reduceLT, Int.reduceEq, bz_T, bz_F, ite_self, mulc, st_bud]
      exact hk
end
