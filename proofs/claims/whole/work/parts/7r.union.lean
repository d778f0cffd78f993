section
/-! the reference's unions -/
/-- one more with a mate: the group of one i goes under that of two i -/
theorem UN_add {n : Int} {h ρ : Int → Int} {dp : Int → Nat} {H : Nat} {one two : Nat → Int} {S : Nat → Prop} {i : Nat} (uf : UF n h ρ dp) (cl : ∀ p q, 0 ≤ p → p < n → 0 ≤ q → q < n → (ρ p = ρ q ↔ Cl H one two S p q)) (hi : i < H) (a0 : 0 ≤ one i) (a1 : one i < n) (g0 : 0 ≤ two i) (b1 : two i < n) :
    ∃ (ρ' : Int → Int) (dp' : Int → Nat), UF n (fu h (ρ (one i)) (ρ (two i))) ρ' dp' ∧ ∀ p q, 0 ≤ p → p < n → 0 ≤ q → q < n → (ρ' p = ρ' q ↔ Cl H one two (fun j => S j ∨ j = i) p q) := by
  obtain ⟨_, ⟨r0, r1⟩, _⟩ := uf (two i) g0 b1
  have rr := (UF_rt uf _ (two i) g0 b1 rfl).2.2
  obtain ⟨_, ⟨q0, q1⟩, _⟩ := uf (one i) a0 a1
  have qq := (UF_rt uf _ (one i) a0 a1 rfl).2.2
  have qh := (UF_rt uf _ (one i) a0 a1 rfl).2.1
  obtain ⟨y, hy⟩ : ∃ y, y = ρ (two i) := ⟨_, rfl⟩
  obtain ⟨x, hx⟩ : ∃ x, x = ρ (one i) := ⟨_, rfl⟩
  rw [← hy] at r0 r1 rr
  rw [← hx] at q0 q1 qq qh
  rw [← hx, ← hy]
  have e0 := Cl_eqv (H := H) (one := one) (two := two) (S := S)
  have k1 : ∀ p, 0 ≤ p → p < n → (ρ p = y ↔ Cl H one two S p (two i)) := fun p p0 p1 => by rw [hy]; exact cl p (two i) p0 p1 g0 b1
  have k2 : ∀ p, 0 ≤ p → p < n → (ρ p = x ↔ Cl H one two S p (one i)) := fun p p0 p1 => by rw [hx]; exact cl p (one i) p0 p1 a0 a1
  by_cases xh : x = y
  · have f6' : fu h x y = h := by
      funext j
      unfold fu
      by_cases z : j = x
      · rw [if_pos z, z, qh, xh]
      · rw [if_neg z]
    refine ⟨ρ, dp, by rw [f6']; exact uf, fun p q p0 p1 q0 q1 => ?_⟩
    rw [cl p q p0 p1 q0 q1, Cl_add hi g0]
    refine ⟨Or.inl, fun z => ?_⟩
    rcases z with z | ⟨z1, z2⟩ | ⟨z1, z2⟩
    · exact z
    · have c1 := (k2 p p0 p1).mpr z1
      have c2 := (k1 q q0 q1).mpr (e0.2.1 _ _ z2)
      exact (cl p q p0 p1 q0 q1).mp (by rw [c1, c2, xh])
    · have c1 := (k1 p p0 p1).mpr z1
      have c2 := (k2 q q0 q1).mpr (e0.2.1 _ _ z2)
      exact (cl p q p0 p1 q0 q1).mp (by rw [c1, c2, xh])
  · refine ⟨fun p => if ρ p = x then y else ρ p, fun p => if ρ p = x then dp p + 1 else dp p, UF_add uf r0 r1 q0 q1 rr qq xh, fun p q p0 p1 q0 q1 => ?_⟩
    show (if ρ p = x then y else ρ p) = (if ρ q = x then y else ρ q) ↔ _
    rw [Cl_add hi g0]
    by_cases z1 : ρ p = x
    · rw [if_pos z1]
      by_cases z2 : ρ q = x
      · rw [if_pos z2]
        exact ⟨fun _ => Or.inl ((cl p q p0 p1 q0 q1).mp (by rw [z1, z2])), fun _ => rfl⟩
      · rw [if_neg z2]
        constructor
        · intro w
          exact Or.inr (Or.inl ⟨(k2 p p0 p1).mp z1, e0.2.1 _ _ ((k1 q q0 q1).mp w.symm)⟩)
        · intro w
          rcases w with w | ⟨w1, w2⟩ | ⟨w1, w2⟩
          · exact absurd (((cl p q p0 p1 q0 q1).mpr w).symm.trans z1) z2
          · exact ((k1 q q0 q1).mpr (e0.2.1 _ _ w2)).symm
          · exact absurd ((k2 q q0 q1).mpr (e0.2.1 _ _ w2)) z2
    · rw [if_neg z1]
      by_cases z2 : ρ q = x
      · rw [if_pos z2]
        constructor
        · intro w
          exact Or.inr (Or.inr ⟨(k1 p p0 p1).mp w, e0.2.1 _ _ ((k2 q q0 q1).mp z2)⟩)
        · intro w
          rcases w with w | ⟨w1, w2⟩ | ⟨w1, w2⟩
          · exact absurd (((cl p q p0 p1 q0 q1).mpr w).trans z2) z1
          · exact absurd ((k2 p p0 p1).mpr w1) z1
          · exact (k1 p p0 p1).mpr w1
      · rw [if_neg z2]
        constructor
        · intro w
          exact Or.inl ((cl p q p0 p1 q0 q1).mp w)
        · intro w
          rcases w with w | ⟨w1, w2⟩ | ⟨w1, w2⟩
          · exact (cl p q p0 p1 q0 q1).mpr w
          · exact absurd ((k2 p p0 p1).mpr w1) z1
          · exact absurd ((k2 q q0 q1).mpr (e0.2.1 _ _ w2)) z2
theorem c12_top {T : Nat → Option q_T} {nx rc rs B : Nat} {R : Nat → Nat → Option Value} {G : Nat → Int → Int} {p : Int} {ρ : Int → Int} {dp : Int → Nat} {K : Option Value → q_M → Prop} (hM : Ly T R (B + 544) (L12 (B + 544))) (u : UF 220 (G (B + 544 + 74)) ρ dp) (p0 : 0 ≤ p) (p1 : p < 220) :
    fX12_top [.ref (B + 544), .int (zI p)] (st T nx rc rs R G) K = K (some (.int (zI (ρ p)))) (st T nx rc rs R G) := by
  have w : ∀ (Kn : List Value → q_M → Prop) (Kr : Option Value → q_M → Prop), wX12_top_0 [.ref (B + 544), .int (zI p), .int (zI p)] (st T nx rc rs R G) Kn Kr = Kn [.ref (B + 544), .int (zI p), .int (zI (ρ p))] (st T nx rc rs R G) := by
    have f := q_for eX12_top_0 (fun _ _ => lX12_top_0) (fun k => [.ref (B + 544), .int (zI p), .int (zI (abv (G (B + 544 + 74)) k p))]) (fun _ => st T nx rc rs R G) (dp p) (fun k hk Kn Kf h => by
      obtain ⟨a1, a2, a3⟩ := UF_abv u p0 p1 k (by omega)
      obtain ⟨b1, _, _, b4⟩ := u _ a1.1 a1.2
      obtain ⟨c1, _⟩ := b4 (by omega)
      have e1 : abv (G (B + 544 + 74)) (k + 1) p = G (B + 544 + 74) (abv (G (B + 544 + 74)) k p) := rfl
      rw [e1] at h
      obtain ⟨x, hx⟩ : ∃ x, x = abv (G (B + 544 + 74)) k p := ⟨_, rfl⟩
      obtain ⟨y, hy⟩ : ∃ y, y = G (B + 544 + 74) x := ⟨_, rfl⟩
      rw [← hx, ← hy] at h b1 c1
      rw [← hx] at a1
      show wcX12_top_0 [.ref (B + 544), .int (zI p), .int (zI (abv (G (B + 544 + 74)) k p))] _ (fun μ' => wsX12_top_0 [.ref (B + 544), .int (zI p), .int (zI (abv (G (B + 544 + 74)) k p))] μ' Kn _) Kf
      rw [← hx]
      have hy' := hy.symm
      simp (disch := omega) only [↓wcX12_top_0.eq_1, ↓wsX12_top_0.eq_1, ↓k_mk, ↓k_sq, ↓k_sk, ↓k_bk, ↓k_if, ↓k_te, ↓k_cm, ↓k_cz, ↓k_an2, ↓k_or2, ↓k_no, ↓k_ci, ↓k_l0, ↓k_r0, ↓k_se0, ↓k_ic0, ↓k_l1, ↓k_r1, ↓k_se1, ↓k_ic1, ↓k_de1, ↓k_tk1, ↓k_l2, ↓k_r2, ↓k_se2, ↓k_ic2, ↓k_de2, ↓k_tk2, ↓k_l3, ↓k_r3, ↓k_se3, ↓k_ic3, ↓k_de3, ↓k_tk3, ↓k_l4, ↓k_r4, ↓k_se4, ↓k_ic4, ↓k_de4, ↓k_tk4, ↓k_l5, ↓k_r5, ↓k_se5, ↓k_ic5, ↓k_de5, ↓k_tk5, ↓k_l6, ↓k_r6, ↓k_se6, ↓k_ic6, ↓k_de6, ↓k_tk6, ↓k_l7, ↓k_r7, ↓k_se7, ↓k_ic7, ↓k_de7, ↓k_tk7, ↓k_l8, ↓k_r8, ↓k_se8, ↓k_ic8, ↓k_de8, ↓k_tk8, ↓k_l9, ↓k_r9, ↓k_se9, ↓k_ic9, ↓k_de9, ↓k_tk9, ↓k_l10, ↓k_r10, ↓k_se10, ↓k_ic10, ↓k_de10, ↓k_tk10, ↓k_l11, ↓k_r11, ↓k_se11, ↓k_ic11, ↓k_de11, ↓k_tk11, ↓k_l12, ↓k_r12, ↓k_se12, ↓k_ic12, ↓k_de12, ↓k_tk12, ↓k_l13, ↓k_r13, ↓k_se13, ↓k_ic13, ↓k_de13, ↓k_tk13, ↓k_l14, ↓k_r14, ↓k_se14, ↓k_ic14, ↓k_de14, ↓k_tk14, ↓k_l15, ↓k_r15, ↓k_se15, ↓k_ic15, ↓k_de15, ↓k_tk15, ↓k_l16, ↓k_r16, ↓k_se16, ↓k_ic16, ↓k_de16, ↓k_tk16, ↓k_l17, ↓k_r17, ↓k_se17, ↓k_ic17, ↓k_de17, ↓k_tk17, ↓k_l18, ↓k_r18, ↓k_se18, ↓k_ic18, ↓k_de18, ↓k_tk18, ↓k_l19, ↓k_r19, ↓k_se19, ↓k_ic19, ↓k_de19, ↓k_tk19, ↓k_l20, ↓k_r20, ↓k_se20, ↓k_ic20, ↓k_de20, ↓k_tk20, ↓k_l21, ↓k_r21, ↓k_se21, ↓k_ic21, ↓k_de21, ↓k_tk21, ↓k_l22, ↓k_r22, ↓k_se22, ↓k_ic22, ↓k_de22, ↓k_tk22, ↓k_l23, ↓k_r23, ↓k_se23, ↓k_ic23, ↓k_de23, ↓k_tk23, ↓k_l24, ↓k_r24, ↓k_se24, ↓k_ic24, ↓k_de24, ↓k_tk24, ↓k_l25, ↓k_r25, ↓k_se25, ↓k_ic25, ↓k_de25, ↓k_tk25, ↓k_k, ↓k_kn, ↓k_kl, ↓k_kln, ↓k_il, ↓k_2, ↓k_1, ↓k_2c, ↓k_2l, ↓k_ac, ↓k_an, ↓k_cs, ↓k_cv, ↓k_fi, ↓k_fr, ↓k_ai, ↓k_az, ↓k_ar, ↓k_sai, ↓k_saz, ↓k_soa, ↓k_sof, ↓k_spf, ↓k_sx, ↓k_blk, ↓k_sset, ↓k_sdec, ↓k_sri, ↓k_srv, ↓k_srr, ↓k_nop, ↓k_add, ↓k_sub, ↓k_mul, ↓k_min, ↓k_max, ↓k_shr, ↓k_shl, ↓k_or, ↓k_ilz, ↓k_addl, ↓k_rt, ↓k_rb, ↓k_rbz, ↓k_rsi, ↓k_rsr, ↓k_rsv, ↓reduceIte, hy', c1, ↓xr12_90 hM, ↓xa12_90 hM, ↓xs12_90 hM, ↓xo12_90 hM, ↓xc12_90 hM, ↓xd12_90 hM, List.length_cons, List.length_nil, List.forall_mem_cons, List.not_mem_nil, Value.category, true_and, and_true, false_and, and_false, or_true, true_or, or_false, false_or, Nat.zero_le, forall_const, implies_true, false_implies, Nat.zero_add, Nat.reduceAdd, Nat.reduceLT, Nat.reduceLeDiff, Nat.le_refl, not_true_eq_false, not_false_eq_true, r_eq, r_ne, r_lt, r_ge, r_gt, r_le, bz_ne, nn_toNat, cn_of, cn_0, cn_1, i10, Int.reduceLE, Int.reduceLT, Int.reduceEq, bz_T, bz_F, ite_self, mulc, st_bud]
      exact h) (fun Kt Kf h => by
      obtain ⟨a1, a2, a3⟩ := UF_abv u p0 p1 (dp p) (Nat.le_refl _)
      obtain ⟨_, _, b3, _⟩ := u _ a1.1 a1.2
      have c1 := (b3 (by omega)).1
      obtain ⟨x, hx⟩ : ∃ x, x = abv (G (B + 544 + 74)) (dp p) p := ⟨_, rfl⟩
      rw [← hx] at c1 a1
      show wcX12_top_0 [.ref (B + 544), .int (zI p), .int (zI (abv (G (B + 544 + 74)) (dp p) p))] _ Kt Kf
      rw [← hx]
      simp (disch := omega) only [↓wcX12_top_0.eq_1, ↓k_mk, ↓k_sq, ↓k_sk, ↓k_bk, ↓k_if, ↓k_te, ↓k_cm, ↓k_cz, ↓k_an2, ↓k_or2, ↓k_no, ↓k_ci, ↓k_l0, ↓k_r0, ↓k_se0, ↓k_ic0, ↓k_l1, ↓k_r1, ↓k_se1, ↓k_ic1, ↓k_de1, ↓k_tk1, ↓k_l2, ↓k_r2, ↓k_se2, ↓k_ic2, ↓k_de2, ↓k_tk2, ↓k_l3, ↓k_r3, ↓k_se3, ↓k_ic3, ↓k_de3, ↓k_tk3, ↓k_l4, ↓k_r4, ↓k_se4, ↓k_ic4, ↓k_de4, ↓k_tk4, ↓k_l5, ↓k_r5, ↓k_se5, ↓k_ic5, ↓k_de5, ↓k_tk5, ↓k_l6, ↓k_r6, ↓k_se6, ↓k_ic6, ↓k_de6, ↓k_tk6, ↓k_l7, ↓k_r7, ↓k_se7, ↓k_ic7, ↓k_de7, ↓k_tk7, ↓k_l8, ↓k_r8, ↓k_se8, ↓k_ic8, ↓k_de8, ↓k_tk8, ↓k_l9, ↓k_r9, ↓k_se9, ↓k_ic9, ↓k_de9, ↓k_tk9, ↓k_l10, ↓k_r10, ↓k_se10, ↓k_ic10, ↓k_de10, ↓k_tk10, ↓k_l11, ↓k_r11, ↓k_se11, ↓k_ic11, ↓k_de11, ↓k_tk11, ↓k_l12, ↓k_r12, ↓k_se12, ↓k_ic12, ↓k_de12, ↓k_tk12, ↓k_l13, ↓k_r13, ↓k_se13, ↓k_ic13, ↓k_de13, ↓k_tk13, ↓k_l14, ↓k_r14, ↓k_se14, ↓k_ic14, ↓k_de14, ↓k_tk14, ↓k_l15, ↓k_r15, ↓k_se15, ↓k_ic15, ↓k_de15, ↓k_tk15, ↓k_l16, ↓k_r16, ↓k_se16, ↓k_ic16, ↓k_de16, ↓k_tk16, ↓k_l17, ↓k_r17, ↓k_se17, ↓k_ic17, ↓k_de17, ↓k_tk17, ↓k_l18, ↓k_r18, ↓k_se18, ↓k_ic18, ↓k_de18, ↓k_tk18, ↓k_l19, ↓k_r19, ↓k_se19, ↓k_ic19, ↓k_de19, ↓k_tk19, ↓k_l20, ↓k_r20, ↓k_se20, ↓k_ic20, ↓k_de20, ↓k_tk20, ↓k_l21, ↓k_r21, ↓k_se21, ↓k_ic21, ↓k_de21, ↓k_tk21, ↓k_l22, ↓k_r22, ↓k_se22, ↓k_ic22, ↓k_de22, ↓k_tk22, ↓k_l23, ↓k_r23, ↓k_se23, ↓k_ic23, ↓k_de23, ↓k_tk23, ↓k_l24, ↓k_r24, ↓k_se24, ↓k_ic24, ↓k_de24, ↓k_tk24, ↓k_l25, ↓k_r25, ↓k_se25, ↓k_ic25, ↓k_de25, ↓k_tk25, ↓k_k, ↓k_kn, ↓k_kl, ↓k_kln, ↓k_il, ↓k_2, ↓k_1, ↓k_2c, ↓k_2l, ↓k_ac, ↓k_an, ↓k_cs, ↓k_cv, ↓k_fi, ↓k_fr, ↓k_ai, ↓k_az, ↓k_ar, ↓k_sai, ↓k_saz, ↓k_soa, ↓k_sof, ↓k_spf, ↓k_sx, ↓k_blk, ↓k_sset, ↓k_sdec, ↓k_sri, ↓k_srv, ↓k_srr, ↓k_nop, ↓k_add, ↓k_sub, ↓k_mul, ↓k_min, ↓k_max, ↓k_shr, ↓k_shl, ↓k_or, ↓k_ilz, ↓k_addl, ↓k_rt, ↓k_rb, ↓k_rbz, ↓k_rsi, ↓k_rsr, ↓k_rsv, ↓reduceIte, c1, eq_self, ↓xr12_90 hM, ↓xa12_90 hM, ↓xs12_90 hM, ↓xo12_90 hM, ↓xc12_90 hM, ↓xd12_90 hM, List.length_cons, List.length_nil, List.forall_mem_cons, List.not_mem_nil, Value.category, true_and, and_true, false_and, and_false, or_true, true_or, or_false, false_or, Nat.zero_le, forall_const, implies_true, false_implies, Nat.zero_add, Nat.reduceAdd, Nat.reduceLT, Nat.reduceLeDiff, Nat.le_refl, not_true_eq_false, not_false_eq_true, r_eq, r_ne, r_lt, r_ge, r_gt, r_le, bz_ne, nn_toNat, cn_of, cn_0, cn_1, i10, Int.reduceLE, Int.reduceLT, Int.reduceEq, bz_T, bz_F, ite_self, mulc, st_bud]
      exact h)
    obtain ⟨a1, a2, a3⟩ := UF_abv u p0 p1 (dp p) (Nat.le_refl _)
    obtain ⟨_, _, b3, _⟩ := u _ a1.1 a1.2
    have c2 := (b3 (by omega)).2
    rw [a3] at c2
    rw [← c2] at f
    exact f
  simp (disch := omega) only [↓fX12_top.eq_1, ↓uX12_top, ↓k_mk, ↓k_sq, ↓k_sk, ↓k_bk, ↓k_if, ↓k_te, ↓k_cm, ↓k_cz, ↓k_an2, ↓k_or2, ↓k_no, ↓k_ci, ↓k_l0, ↓k_r0, ↓k_se0, ↓k_ic0, ↓k_l1, ↓k_r1, ↓k_se1, ↓k_ic1, ↓k_de1, ↓k_tk1, ↓k_l2, ↓k_r2, ↓k_se2, ↓k_ic2, ↓k_de2, ↓k_tk2, ↓k_l3, ↓k_r3, ↓k_se3, ↓k_ic3, ↓k_de3, ↓k_tk3, ↓k_l4, ↓k_r4, ↓k_se4, ↓k_ic4, ↓k_de4, ↓k_tk4, ↓k_l5, ↓k_r5, ↓k_se5, ↓k_ic5, ↓k_de5, ↓k_tk5, ↓k_l6, ↓k_r6, ↓k_se6, ↓k_ic6, ↓k_de6, ↓k_tk6, ↓k_l7, ↓k_r7, ↓k_se7, ↓k_ic7, ↓k_de7, ↓k_tk7, ↓k_l8, ↓k_r8, ↓k_se8, ↓k_ic8, ↓k_de8, ↓k_tk8, ↓k_l9, ↓k_r9, ↓k_se9, ↓k_ic9, ↓k_de9, ↓k_tk9, ↓k_l10, ↓k_r10, ↓k_se10, ↓k_ic10, ↓k_de10, ↓k_tk10, ↓k_l11, ↓k_r11, ↓k_se11, ↓k_ic11, ↓k_de11, ↓k_tk11, ↓k_l12, ↓k_r12, ↓k_se12, ↓k_ic12, ↓k_de12, ↓k_tk12, ↓k_l13, ↓k_r13, ↓k_se13, ↓k_ic13, ↓k_de13, ↓k_tk13, ↓k_l14, ↓k_r14, ↓k_se14, ↓k_ic14, ↓k_de14, ↓k_tk14, ↓k_l15, ↓k_r15, ↓k_se15, ↓k_ic15, ↓k_de15, ↓k_tk15, ↓k_l16, ↓k_r16, ↓k_se16, ↓k_ic16, ↓k_de16, ↓k_tk16, ↓k_l17, ↓k_r17, ↓k_se17, ↓k_ic17, ↓k_de17, ↓k_tk17, ↓k_l18, ↓k_r18, ↓k_se18, ↓k_ic18, ↓k_de18, ↓k_tk18, ↓k_l19, ↓k_r19, ↓k_se19, ↓k_ic19, ↓k_de19, ↓k_tk19, ↓k_l20, ↓k_r20, ↓k_se20, ↓k_ic20, ↓k_de20, ↓k_tk20, ↓k_l21, ↓k_r21, ↓k_se21, ↓k_ic21, ↓k_de21, ↓k_tk21, ↓k_l22, ↓k_r22, ↓k_se22, ↓k_ic22, ↓k_de22, ↓k_tk22, ↓k_l23, ↓k_r23, ↓k_se23, ↓k_ic23, ↓k_de23, ↓k_tk23, ↓k_l24, ↓k_r24, ↓k_se24, ↓k_ic24, ↓k_de24, ↓k_tk24, ↓k_l25, ↓k_r25, ↓k_se25, ↓k_ic25, ↓k_de25, ↓k_tk25, ↓k_k, ↓k_kn, ↓k_kl, ↓k_kln, ↓k_il, ↓k_2, ↓k_1, ↓k_2c, ↓k_2l, ↓k_ac, ↓k_an, ↓k_cs, ↓k_cv, ↓k_fi, ↓k_fr, ↓k_ai, ↓k_az, ↓k_ar, ↓k_sai, ↓k_saz, ↓k_soa, ↓k_sof, ↓k_spf, ↓k_sx, ↓k_blk, ↓k_sset, ↓k_sdec, ↓k_sri, ↓k_srv, ↓k_srr, ↓k_nop, ↓k_add, ↓k_sub, ↓k_mul, ↓k_min, ↓k_max, ↓k_shr, ↓k_shl, ↓k_or, ↓k_ilz, ↓k_addl, ↓k_rt, ↓k_rb, ↓k_rbz, ↓k_rsi, ↓k_rsr, ↓k_rsv, ↓reduceIte, ↓w, List.length_cons, List.length_nil, List.forall_mem_cons, List.not_mem_nil, Value.category, true_and, and_true, false_and, and_false, or_true, true_or, or_false, false_or, Nat.zero_le, forall_const, implies_true, false_implies, Nat.zero_add, Nat.reduceAdd, Nat.reduceLT, Nat.reduceLeDiff, Nat.le_refl, not_true_eq_false, not_false_eq_true, r_eq, r_ne, r_lt, r_ge, r_gt, r_le, bz_ne, nn_toNat, cn_of, cn_0, cn_1, i10, Int.reduceLE, Int.reduceLT, Int.reduceEq, bz_T, bz_F, ite_self, mulc, st_bud]
/-- what the reference holds; which of it stands -/
def RHd (G : Nat → Int → Int) (B H : Nat) (one two kd : Nat → Int) : Prop := G (B + 544) 84 = H ∧ H ≤ 420 ∧ ∀ i : Nat, i < H → (G (B + 544 + 69) i = one i ∧ 0 ≤ one i ∧ one i < 220) ∧ (G (B + 544 + 70) i = two i ∧ -1 ≤ two i ∧ two i < 220) ∧ (two i = -1 → G (B + 544 + 71) i = kd i ∧ 0 ≤ kd i ∧ kd i ≤ 5)
def LGo (G : Nat → Int → Int) (B H : Nat) (S : Nat → Prop) : Prop := ∀ i : Nat, i < H → (G (B + 544 + 73) i = 0 ∧ S i) ∨ (G (B + 544 + 73) i = 1 ∧ ¬ S i)
def JU (G : Nat → Int → Int) (B H : Nat) (one two : Nat → Int) (S : Nat → Prop) : Prop := ∃ (ρ : Int → Int) (dp : Int → Nat), UF 220 (G (B + 544 + 74)) ρ dp ∧ ∀ p q, 0 ≤ p → p < 220 → 0 ≤ q → q < 220 → (ρ p = ρ q ↔ Cl H one two S p q)
/-- what isFault leaves as it is -/
def OF (G G' : Nat → Int → Int) (B : Nat) : Prop := ∀ x, ¬ x = (B + 544 + 74) → ¬ x = (B + 544 + 75) → G' x = G x
theorem RHd_off {G G' : Nat → Int → Int} {B H : Nat} {one two kd : Nat → Int} (h : OF G G' B) (rh : RHd G B H one two kd) : RHd G' B H one two kd := by
  unfold RHd at rh ⊢
  rw [h (B + 544) (by omega) (by omega), h (B + 544 + 69) (by omega) (by omega), h (B + 544 + 70) (by omega) (by omega), h (B + 544 + 71) (by omega) (by omega)]
  exact rh
theorem LGo_off {G G' : Nat → Int → Int} {B H : Nat} {S : Nat → Prop} (h : OF G G' B) (lg : LGo G B H S) : LGo G' B H S := by
  unfold LGo at lg ⊢
  rw [h (B + 544 + 73) (by omega) (by omega)]
  exact lg
theorem JU_congr {G : Nat → Int → Int} {B H : Nat} {one two : Nat → Int} {S S' : Nat → Prop} (h : ∀ i, i < H → (S i ↔ S' i)) (ju : JU G B H one two S) : JU G B H one two S' := by
  obtain ⟨ρ, dp, uf, cl⟩ := ju
  exact ⟨ρ, dp, uf, fun p q p0 p1 q0 q1 => (cl p q p0 p1 q0 q1).trans (Cl_congr h p q)⟩
theorem w12_union {T : Nat → Option q_T} {nx B H k : Nat} {R : Nat → Nat → Option Value} {G : Nat → Int → Int} {one two kd : Nat → Int} {S : Nat → Prop} (hM : Ly T R (B + 544) (L12 (B + 544))) (rh : RHd G B H one two kd) (lg : LGo G B H S) (ju : JU G B H one two (fun j => j < k ∧ S j)) (hk : k < H) :
    ∃ G', (∀ x, ¬ x = (B + 544 + 74) → G' x = G x) ∧ JU G' B H one two (fun j => j < k + 1 ∧ S j) ∧ ∀ (Kn : List Value → q_M → Prop) (Kf : q_M → Prop), Kn [.ref (B + 544), .int (zI ((k + 1 : Nat) : Int))] (st T nx 0 0 R G') → wcX12_isFault_1 [.ref (B + 544), .int (zI k)] (st T nx 0 0 R G) (fun μ' => wsX12_isFault_1 [.ref (B + 544), .int (zI k)] μ' Kn (fun _ _ => False)) Kf := by
  obtain ⟨h84, hH, hr⟩ := rh
  obtain ⟨⟨x1, a0, a1⟩, ⟨x2, b0, b1⟩, _⟩ := hr k hk
  have hz : (k : Int) < H := by omega
  rcases lg k hk with ⟨y1, y2⟩ | ⟨y1, y2⟩
  · by_cases g : 0 ≤ two k
    · obtain ⟨ρ, dp, uf, cl⟩ := ju
      obtain ⟨ρ', dp', u', cl'⟩ := UN_add uf cl hk a0 a1 g b1
      obtain ⟨_, ⟨r0, r1⟩, _⟩ := uf (one k) a0 a1
      obtain ⟨_, ⟨s0, s1⟩, _⟩ := uf (two k) g b1
      have c1 : ∀ K : Option Value → q_M → Prop, fX12_top [.ref (B + 544), .int (zI (G (B + 544 + 69) k))] (st T nx 0 0 R G) K = K (some (.int (zI (ρ (one k))))) (st T nx 0 0 R G) := fun K => by
        rw [x1]
        exact c12_top hM uf a0 a1
      have c2 : ∀ K : Option Value → q_M → Prop, fX12_top [.ref (B + 544), .int (zI (G (B + 544 + 70) k))] (st T nx 0 0 R G) K = K (some (.int (zI (ρ (two k))))) (st T nx 0 0 R G) := fun K => by
        rw [x2]
        exact c12_top hM uf g b1
      obtain ⟨x, hx⟩ : ∃ x, x = ρ (one k) := ⟨_, rfl⟩
      obtain ⟨y, hy⟩ : ∃ y, y = ρ (two k) := ⟨_, rfl⟩
      rw [← hx] at c1 r0 r1 u'
      rw [← hy] at c2 s0 s1 u'
      refine ⟨gs G (B + 544 + 74) x y, fun z q => gs_ne q, JU_congr (fun i hi => ?_) ⟨ρ', dp', by rw [gs_eq]; exact u', cl'⟩, fun Kn Kf h => ?_⟩
      · constructor
        · intro w
          rcases w with w | w
          · exact ⟨by omega, w.2⟩
          · rw [w]
            exact ⟨by omega, y2⟩
        · intro ⟨w1, w2⟩
          by_cases z : i = k
          · exact Or.inr z
          · exact Or.inl ⟨by omega, w2⟩
      · obtain ⟨t2', ht2⟩ : ∃ t2', t2' = two k := ⟨_, rfl⟩
        rw [← ht2] at x2 g b1
        have kb : (k : Int) < 420 := by omega
        simp (disch := omega) only [↓wcX12_isFault_1.eq_1, ↓wsX12_isFault_1.eq_1, ↓(k_cv1 dX12_top (t12 hM)), ↓k_mk, ↓k_sq, ↓k_sk, ↓k_bk, ↓k_if, ↓k_te, ↓k_cm, ↓k_cz, ↓k_an2, ↓k_or2, ↓k_no, ↓k_ci, ↓k_l0, ↓k_r0, ↓k_se0, ↓k_ic0, ↓k_l1, ↓k_r1, ↓k_se1, ↓k_ic1, ↓k_de1, ↓k_tk1, ↓k_l2, ↓k_r2, ↓k_se2, ↓k_ic2, ↓k_de2, ↓k_tk2, ↓k_l3, ↓k_r3, ↓k_se3, ↓k_ic3, ↓k_de3, ↓k_tk3, ↓k_l4, ↓k_r4, ↓k_se4, ↓k_ic4, ↓k_de4, ↓k_tk4, ↓k_l5, ↓k_r5, ↓k_se5, ↓k_ic5, ↓k_de5, ↓k_tk5, ↓k_l6, ↓k_r6, ↓k_se6, ↓k_ic6, ↓k_de6, ↓k_tk6, ↓k_l7, ↓k_r7, ↓k_se7, ↓k_ic7, ↓k_de7, ↓k_tk7, ↓k_l8, ↓k_r8, ↓k_se8, ↓k_ic8, ↓k_de8, ↓k_tk8, ↓k_l9, ↓k_r9, ↓k_se9, ↓k_ic9, ↓k_de9, ↓k_tk9, ↓k_l10, ↓k_r10, ↓k_se10, ↓k_ic10, ↓k_de10, ↓k_tk10, ↓k_l11, ↓k_r11, ↓k_se11, ↓k_ic11, ↓k_de11, ↓k_tk11, ↓k_l12, ↓k_r12, ↓k_se12, ↓k_ic12, ↓k_de12, ↓k_tk12, ↓k_l13, ↓k_r13, ↓k_se13, ↓k_ic13, ↓k_de13, ↓k_tk13, ↓k_l14, ↓k_r14, ↓k_se14, ↓k_ic14, ↓k_de14, ↓k_tk14, ↓k_l15, ↓k_r15, ↓k_se15, ↓k_ic15, ↓k_de15, ↓k_tk15, ↓k_l16, ↓k_r16, ↓k_se16, ↓k_ic16, ↓k_de16, ↓k_tk16, ↓k_l17, ↓k_r17, ↓k_se17, ↓k_ic17, ↓k_de17, ↓k_tk17, ↓k_l18, ↓k_r18, ↓k_se18, ↓k_ic18, ↓k_de18, ↓k_tk18, ↓k_l19, ↓k_r19, ↓k_se19, ↓k_ic19, ↓k_de19, ↓k_tk19, ↓k_l20, ↓k_r20, ↓k_se20, ↓k_ic20, ↓k_de20, ↓k_tk20, ↓k_l21, ↓k_r21, ↓k_se21, ↓k_ic21, ↓k_de21, ↓k_tk21, ↓k_l22, ↓k_r22, ↓k_se22, ↓k_ic22, ↓k_de22, ↓k_tk22, ↓k_l23, ↓k_r23, ↓k_se23, ↓k_ic23, ↓k_de23, ↓k_tk23, ↓k_l24, ↓k_r24, ↓k_se24, ↓k_ic24, ↓k_de24, ↓k_tk24, ↓k_l25, ↓k_r25, ↓k_se25, ↓k_ic25, ↓k_de25, ↓k_tk25, ↓k_k, ↓k_kn, ↓k_kl, ↓k_kln, ↓k_il, ↓k_2, ↓k_1, ↓k_2c, ↓k_2l, ↓k_ac, ↓k_an, ↓k_cs, ↓k_cv, ↓k_fi, ↓k_fr, ↓k_ai, ↓k_az, ↓k_ar, ↓k_sai, ↓k_saz, ↓k_soa, ↓k_sof, ↓k_spf, ↓k_sx, ↓k_blk, ↓k_sset, ↓k_sdec, ↓k_sri, ↓k_srv, ↓k_srr, ↓k_nop, ↓k_add, ↓k_sub, ↓k_mul, ↓k_min, ↓k_max, ↓k_shr, ↓k_shl, ↓k_or, ↓k_ilz, ↓k_addl, ↓k_rt, ↓k_rb, ↓k_rbz, ↓k_rsi, ↓k_rsr, ↓k_rsv, ↓reduceIte, hz, h84, y1, x2, g, ↓(k_cv1 dX12_top (t12 hM)), ↓c1, ↓c2, ↓xi12_84 hM, ↓xp12_84 hM, ↓xb12_84 hM, ↓xf12_84 hM, ↓xg12_84 hM, ↓xh12_84 hM, ↓xr12_85 hM, ↓xa12_85 hM, ↓xs12_85 hM, ↓xo12_85 hM, ↓xc12_85 hM, ↓xd12_85 hM, ↓xr12_86 hM, ↓xa12_86 hM, ↓xs12_86 hM, ↓xo12_86 hM, ↓xc12_86 hM, ↓xd12_86 hM, ↓xr12_89 hM, ↓xa12_89 hM, ↓xs12_89 hM, ↓xr12_90 hM, ↓xa12_90 hM, ↓xs12_90 hM, ↓xo12_90 hM, ↓xc12_90 hM, ↓xd12_90 hM, List.length_cons, List.length_nil, List.forall_mem_cons, List.not_mem_nil, Value.category, true_and, and_true, false_and, and_false, or_true, true_or, or_false, false_or, Nat.zero_le, forall_const, implies_true, false_implies, Nat.zero_add, Nat.reduceAdd, Nat.reduceLT, Nat.reduceLeDiff, Nat.le_refl, not_true_eq_false, not_false_eq_true, r_eq, r_ne, r_lt, r_ge, r_gt, r_le, bz_ne, nn_toNat, cn_of, cn_0, cn_1, i10, Int.reduceLE, Int.reduceLT, Int.reduceEq, bz_T, bz_F, ite_self, mulc, st_bud]
        exact h
    · refine ⟨G, fun _ _ => rfl, ?_, fun Kn Kf h => ?_⟩
      · obtain ⟨ρ, dp, uf, cl⟩ := ju
        refine ⟨ρ, dp, uf, fun p q p0 p1 q0 q1 => (cl p q p0 p1 q0 q1).trans ?_⟩
        rw [← Cl_kind (i := k) (show two k < 0 by omega) p q]
        exact Cl_congr (fun i hi => by
          constructor
          · intro w
            rcases w with w | w
            · exact ⟨by omega, w.2⟩
            · rw [w]
              exact ⟨by omega, y2⟩
          · intro ⟨w1, w2⟩
            by_cases z : i = k
            · exact Or.inr z
            · exact Or.inl ⟨by omega, w2⟩) p q
      · obtain ⟨t2', ht2⟩ : ∃ t2', t2' = two k := ⟨_, rfl⟩
        rw [← ht2] at x2 g b0 b1
        have kb : (k : Int) < 420 := by omega
        simp (disch := omega) only [↓wcX12_isFault_1.eq_1, ↓wsX12_isFault_1.eq_1, ↓(k_cv1 dX12_top (t12 hM)), ↓k_mk, ↓k_sq, ↓k_sk, ↓k_bk, ↓k_if, ↓k_te, ↓k_cm, ↓k_cz, ↓k_an2, ↓k_or2, ↓k_no, ↓k_ci, ↓k_l0, ↓k_r0, ↓k_se0, ↓k_ic0, ↓k_l1, ↓k_r1, ↓k_se1, ↓k_ic1, ↓k_de1, ↓k_tk1, ↓k_l2, ↓k_r2, ↓k_se2, ↓k_ic2, ↓k_de2, ↓k_tk2, ↓k_l3, ↓k_r3, ↓k_se3, ↓k_ic3, ↓k_de3, ↓k_tk3, ↓k_l4, ↓k_r4, ↓k_se4, ↓k_ic4, ↓k_de4, ↓k_tk4, ↓k_l5, ↓k_r5, ↓k_se5, ↓k_ic5, ↓k_de5, ↓k_tk5, ↓k_l6, ↓k_r6, ↓k_se6, ↓k_ic6, ↓k_de6, ↓k_tk6, ↓k_l7, ↓k_r7, ↓k_se7, ↓k_ic7, ↓k_de7, ↓k_tk7, ↓k_l8, ↓k_r8, ↓k_se8, ↓k_ic8, ↓k_de8, ↓k_tk8, ↓k_l9, ↓k_r9, ↓k_se9, ↓k_ic9, ↓k_de9, ↓k_tk9, ↓k_l10, ↓k_r10, ↓k_se10, ↓k_ic10, ↓k_de10, ↓k_tk10, ↓k_l11, ↓k_r11, ↓k_se11, ↓k_ic11, ↓k_de11, ↓k_tk11, ↓k_l12, ↓k_r12, ↓k_se12, ↓k_ic12, ↓k_de12, ↓k_tk12, ↓k_l13, ↓k_r13, ↓k_se13, ↓k_ic13, ↓k_de13, ↓k_tk13, ↓k_l14, ↓k_r14, ↓k_se14, ↓k_ic14, ↓k_de14, ↓k_tk14, ↓k_l15, ↓k_r15, ↓k_se15, ↓k_ic15, ↓k_de15, ↓k_tk15, ↓k_l16, ↓k_r16, ↓k_se16, ↓k_ic16, ↓k_de16, ↓k_tk16, ↓k_l17, ↓k_r17, ↓k_se17, ↓k_ic17, ↓k_de17, ↓k_tk17, ↓k_l18, ↓k_r18, ↓k_se18, ↓k_ic18, ↓k_de18, ↓k_tk18, ↓k_l19, ↓k_r19, ↓k_se19, ↓k_ic19, ↓k_de19, ↓k_tk19, ↓k_l20, ↓k_r20, ↓k_se20, ↓k_ic20, ↓k_de20, ↓k_tk20, ↓k_l21, ↓k_r21, ↓k_se21, ↓k_ic21, ↓k_de21, ↓k_tk21, ↓k_l22, ↓k_r22, ↓k_se22, ↓k_ic22, ↓k_de22, ↓k_tk22, ↓k_l23, ↓k_r23, ↓k_se23, ↓k_ic23, ↓k_de23, ↓k_tk23, ↓k_l24, ↓k_r24, ↓k_se24, ↓k_ic24, ↓k_de24, ↓k_tk24, ↓k_l25, ↓k_r25, ↓k_se25, ↓k_ic25, ↓k_de25, ↓k_tk25, ↓k_k, ↓k_kn, ↓k_kl, ↓k_kln, ↓k_il, ↓k_2, ↓k_1, ↓k_2c, ↓k_2l, ↓k_ac, ↓k_an, ↓k_cs, ↓k_cv, ↓k_fi, ↓k_fr, ↓k_ai, ↓k_az, ↓k_ar, ↓k_sai, ↓k_saz, ↓k_soa, ↓k_sof, ↓k_spf, ↓k_sx, ↓k_blk, ↓k_sset, ↓k_sdec, ↓k_sri, ↓k_srv, ↓k_srr, ↓k_nop, ↓k_add, ↓k_sub, ↓k_mul, ↓k_min, ↓k_max, ↓k_shr, ↓k_shl, ↓k_or, ↓k_ilz, ↓k_addl, ↓k_rt, ↓k_rb, ↓k_rbz, ↓k_rsi, ↓k_rsr, ↓k_rsv, ↓reduceIte, hz, h84, y1, x2, g, ↓xi12_84 hM, ↓xp12_84 hM, ↓xb12_84 hM, ↓xf12_84 hM, ↓xg12_84 hM, ↓xh12_84 hM, ↓xr12_86 hM, ↓xa12_86 hM, ↓xs12_86 hM, ↓xo12_86 hM, ↓xc12_86 hM, ↓xd12_86 hM, ↓xr12_89 hM, ↓xa12_89 hM, ↓xs12_89 hM, List.length_cons, List.length_nil, List.forall_mem_cons, List.not_mem_nil, Value.category, true_and, and_true, false_and, and_false, or_true, true_or, or_false, false_or, Nat.zero_le, forall_const, implies_true, false_implies, Nat.zero_add, Nat.reduceAdd, Nat.reduceLT, Nat.reduceLeDiff, Nat.le_refl, not_true_eq_false, not_false_eq_true, r_eq, r_ne, r_lt, r_ge, r_gt, r_le, bz_ne, nn_toNat, cn_of, cn_0, cn_1, i10, Int.reduceLE, Int.reduceLT, Int.reduceEq, bz_T, bz_F, ite_self, mulc, st_bud]
        exact h
  · refine ⟨G, fun _ _ => rfl, JU_congr (fun i hi => ?_) ju, fun Kn Kf h => ?_⟩
    · constructor
      · intro ⟨w1, w2⟩
        exact ⟨by omega, w2⟩
      · intro ⟨w1, w2⟩
        by_cases z : i = k
        · rw [z] at w2
          exact absurd w2 y2
        · exact ⟨by omega, w2⟩
    · have kb : (k : Int) < 420 := by omega
      simp (disch := omega) only [↓wcX12_isFault_1.eq_1, ↓wsX12_isFault_1.eq_1, ↓(k_cv1 dX12_top (t12 hM)), ↓k_mk, ↓k_sq, ↓k_sk, ↓k_bk, ↓k_if, ↓k_te, ↓k_cm, ↓k_cz, ↓k_an2, ↓k_or2, ↓k_no, ↓k_ci, ↓k_l0, ↓k_r0, ↓k_se0, ↓k_ic0, ↓k_l1, ↓k_r1, ↓k_se1, ↓k_ic1, ↓k_de1, ↓k_tk1, ↓k_l2, ↓k_r2, ↓k_se2, ↓k_ic2, ↓k_de2, ↓k_tk2, ↓k_l3, ↓k_r3, ↓k_se3, ↓k_ic3, ↓k_de3, ↓k_tk3, ↓k_l4, ↓k_r4, ↓k_se4, ↓k_ic4, ↓k_de4, ↓k_tk4, ↓k_l5, ↓k_r5, ↓k_se5, ↓k_ic5, ↓k_de5, ↓k_tk5, ↓k_l6, ↓k_r6, ↓k_se6, ↓k_ic6, ↓k_de6, ↓k_tk6, ↓k_l7, ↓k_r7, ↓k_se7, ↓k_ic7, ↓k_de7, ↓k_tk7, ↓k_l8, ↓k_r8, ↓k_se8, ↓k_ic8, ↓k_de8, ↓k_tk8, ↓k_l9, ↓k_r9, ↓k_se9, ↓k_ic9, ↓k_de9, ↓k_tk9, ↓k_l10, ↓k_r10, ↓k_se10, ↓k_ic10, ↓k_de10, ↓k_tk10, ↓k_l11, ↓k_r11, ↓k_se11, ↓k_ic11, ↓k_de11, ↓k_tk11, ↓k_l12, ↓k_r12, ↓k_se12, ↓k_ic12, ↓k_de12, ↓k_tk12, ↓k_l13, ↓k_r13, ↓k_se13, ↓k_ic13, ↓k_de13, ↓k_tk13, ↓k_l14, ↓k_r14, ↓k_se14, ↓k_ic14, ↓k_de14, ↓k_tk14, ↓k_l15, ↓k_r15, ↓k_se15, ↓k_ic15, ↓k_de15, ↓k_tk15, ↓k_l16, ↓k_r16, ↓k_se16, ↓k_ic16, ↓k_de16, ↓k_tk16, ↓k_l17, ↓k_r17, ↓k_se17, ↓k_ic17, ↓k_de17, ↓k_tk17, ↓k_l18, ↓k_r18, ↓k_se18, ↓k_ic18, ↓k_de18, ↓k_tk18, ↓k_l19, ↓k_r19, ↓k_se19, ↓k_ic19, ↓k_de19, ↓k_tk19, ↓k_l20, ↓k_r20, ↓k_se20, ↓k_ic20, ↓k_de20, ↓k_tk20, ↓k_l21, ↓k_r21, ↓k_se21, ↓k_ic21, ↓k_de21, ↓k_tk21, ↓k_l22, ↓k_r22, ↓k_se22, ↓k_ic22, ↓k_de22, ↓k_tk22, ↓k_l23, ↓k_r23, ↓k_se23, ↓k_ic23, ↓k_de23, ↓k_tk23, ↓k_l24, ↓k_r24, ↓k_se24, ↓k_ic24, ↓k_de24, ↓k_tk24, ↓k_l25, ↓k_r25, ↓k_se25, ↓k_ic25, ↓k_de25, ↓k_tk25, ↓k_k, ↓k_kn, ↓k_kl, ↓k_kln, ↓k_il, ↓k_2, ↓k_1, ↓k_2c, ↓k_2l, ↓k_ac, ↓k_an, ↓k_cs, ↓k_cv, ↓k_fi, ↓k_fr, ↓k_ai, ↓k_az, ↓k_ar, ↓k_sai, ↓k_saz, ↓k_soa, ↓k_sof, ↓k_spf, ↓k_sx, ↓k_blk, ↓k_sset, ↓k_sdec, ↓k_sri, ↓k_srv, ↓k_srr, ↓k_nop, ↓k_add, ↓k_sub, ↓k_mul, ↓k_min, ↓k_max, ↓k_shr, ↓k_shl, ↓k_or, ↓k_ilz, ↓k_addl, ↓k_rt, ↓k_rb, ↓k_rbz, ↓k_rsi, ↓k_rsr, ↓k_rsv, ↓reduceIte, hz, h84, y1, ↓xi12_84 hM, ↓xp12_84 hM, ↓xb12_84 hM, ↓xf12_84 hM, ↓xg12_84 hM, ↓xh12_84 hM, ↓xr12_89 hM, ↓xa12_89 hM, ↓xs12_89 hM, List.length_cons, List.length_nil, List.forall_mem_cons, List.not_mem_nil, Value.category, true_and, and_true, false_and, and_false, or_true, true_or, or_false, false_or, Nat.zero_le, forall_const, implies_true, false_implies, Nat.zero_add, Nat.reduceAdd, Nat.reduceLT, Nat.reduceLeDiff, Nat.le_refl, not_true_eq_false, not_false_eq_true, r_eq, r_ne, r_lt, r_ge, r_gt, r_le, bz_ne, nn_toNat, cn_of, cn_0, cn_1, i10, Int.reduceLE, Int.reduceLT, Int.reduceEq, bz_T, bz_F, ite_self, mulc, st_bud]
      exact h
end
