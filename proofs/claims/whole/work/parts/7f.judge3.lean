section
/-! the class holds one -/
theorem t_kk {T : Nat → Option q_T} {nx rc rs o m k : Nat} {R : Nat → Nat → Option Value} {G : Nat → Int → Int} {i h : Int} (ho : Ly T R o (L2 o)) (i0 : 0 ≤ i) (i1 : i < 441) (h0 : 0 ≤ h) (h1 : h < 201) (hk : G (o + 3) i = k) (k6 : k < 6) (hm : G (o + 7) h = m) (m64 : m < 64) :
    ∀ (Kn : List Value → q_M → Prop) (Kr : Option Value → q_M → Prop), q_soa q_gior (q_fr 2 9 (q_r 0)) (q_l 2) (q_2 q_gishl (q_k 1) (q_ai (q_fr 2 5 (q_r 0)) (q_l 1))) [.ref o, .int (zI i), .int (zI h)] (st T nx rc rs R G) Kn Kr = Kn [.ref o, .int (zI i), .int (zI h)] (st T nx rc rs R (gs G (o + 7) h ((m ||| 2 ^ k : Nat) : Int))) := by
  have p2 : 2 ^ k < 256 := by
    have : 2 ^ k ≤ 2 ^ 6 := Nat.pow_le_pow_right (by omega) (by omega)
    omega
  have e : q_gior (zI (G (o + 7) h)) (q_gishl (zI 1) (zI (G (o + 3) i))) = zI ((m ||| 2 ^ k : Nat) : Int) := by
    rw [hk, hm, gshl ⟨k, by omega⟩, gor (by omega) p2]
  have ka : ∀ (env : List Value) (Kn : List Value → q_M → Prop), ao2K (o + 7) 201 (zI h) (q_gior (zI (G (o + 7) h)) (q_gishl (zI 1) (zI (G (o + 3) i)))) env (st T nx rc rs R G) Kn = Kn env (st T nx rc rs R (gs G (o + 7) h ((m ||| 2 ^ k : Nat) : Int))) := by
    rw [e]
    exact fun env Kn => ao_any (t2_9 ho) (w2_9 ho) (by omega) h0 h1
  intro Kn Kr
  simp (disch := omega) only [↓k_mk, ↓k_sq, ↓k_sk, ↓k_bk, ↓k_if, ↓k_te, ↓k_cm, ↓k_cz, ↓k_an2, ↓k_or2, ↓k_no, ↓k_ci, ↓k_l0, ↓k_r0, ↓k_se0, ↓k_ic0, ↓k_l1, ↓k_r1, ↓k_se1, ↓k_ic1, ↓k_de1, ↓k_tk1, ↓k_l2, ↓k_r2, ↓k_se2, ↓k_ic2, ↓k_de2, ↓k_tk2, ↓k_l3, ↓k_r3, ↓k_se3, ↓k_ic3, ↓k_de3, ↓k_tk3, ↓k_l4, ↓k_r4, ↓k_se4, ↓k_ic4, ↓k_de4, ↓k_tk4, ↓k_l5, ↓k_r5, ↓k_se5, ↓k_ic5, ↓k_de5, ↓k_tk5, ↓k_l6, ↓k_r6, ↓k_se6, ↓k_ic6, ↓k_de6, ↓k_tk6, ↓k_l7, ↓k_r7, ↓k_se7, ↓k_ic7, ↓k_de7, ↓k_tk7, ↓k_l8, ↓k_r8, ↓k_se8, ↓k_ic8, ↓k_de8, ↓k_tk8, ↓k_l9, ↓k_r9, ↓k_se9, ↓k_ic9, ↓k_de9, ↓k_tk9, ↓k_l10, ↓k_r10, ↓k_se10, ↓k_ic10, ↓k_de10, ↓k_tk10, ↓k_l11, ↓k_r11, ↓k_se11, ↓k_ic11, ↓k_de11, ↓k_tk11, ↓k_l12, ↓k_r12, ↓k_se12, ↓k_ic12, ↓k_de12, ↓k_tk12, ↓k_l13, ↓k_r13, ↓k_se13, ↓k_ic13, ↓k_de13, ↓k_tk13, ↓k_l14, ↓k_r14, ↓k_se14, ↓k_ic14, ↓k_de14, ↓k_tk14, ↓k_l15, ↓k_r15, ↓k_se15, ↓k_ic15, ↓k_de15, ↓k_tk15, ↓k_l16, ↓k_r16, ↓k_se16, ↓k_ic16, ↓k_de16, ↓k_tk16, ↓k_l17, ↓k_r17, ↓k_se17, ↓k_ic17, ↓k_de17, ↓k_tk17, ↓k_l18, ↓k_r18, ↓k_se18, ↓k_ic18, ↓k_de18, ↓k_tk18, ↓k_l19, ↓k_r19, ↓k_se19, ↓k_ic19, ↓k_de19, ↓k_tk19, ↓k_l20, ↓k_r20, ↓k_se20, ↓k_ic20, ↓k_de20, ↓k_tk20, ↓k_l21, ↓k_r21, ↓k_se21, ↓k_ic21, ↓k_de21, ↓k_tk21, ↓k_l22, ↓k_r22, ↓k_se22, ↓k_ic22, ↓k_de22, ↓k_tk22, ↓k_l23, ↓k_r23, ↓k_se23, ↓k_ic23, ↓k_de23, ↓k_tk23, ↓k_l24, ↓k_r24, ↓k_se24, ↓k_ic24, ↓k_de24, ↓k_tk24, ↓k_l25, ↓k_r25, ↓k_se25, ↓k_ic25, ↓k_de25, ↓k_tk25, ↓k_k, ↓k_kn, ↓k_kl, ↓k_kln, ↓k_il, ↓k_2, ↓k_1, ↓k_2c, ↓k_2l, ↓k_ac, ↓k_an, ↓k_cs, ↓k_cv, ↓k_fi, ↓k_fr, ↓k_ai, ↓k_az, ↓k_ar, ↓k_sai, ↓k_saz, ↓k_soa, ↓k_sof, ↓k_spf, ↓k_sx, ↓k_blk, ↓k_sset, ↓k_sdec, ↓k_sri, ↓k_srv, ↓k_srr, ↓k_nop, ↓k_add, ↓k_sub, ↓k_mul, ↓k_min, ↓k_max, ↓k_shr, ↓k_shl, ↓k_or, ↓k_ilz, ↓k_addl, ↓k_rt, ↓k_rb, ↓k_rbz, ↓k_rsi, ↓k_rsr, ↓k_rsv, ↓reduceIte, ↓ka, ↓xr2_5 ho, ↓xa2_5 ho, ↓xs2_5 ho, ↓xo2_5 ho, ↓xc2_5 ho, ↓xd2_5 ho, ↓xr2_9 ho, ↓xa2_9 ho, ↓xs2_9 ho, ↓xo2_9 ho, ↓xc2_9 ho, ↓xd2_9 ho, List.length_cons, List.length_nil, List.forall_mem_cons, List.not_mem_nil, Value.category, true_and, and_true, false_and, and_false, or_true, true_or, or_false, false_or, Nat.zero_le, forall_const, implies_true, false_implies, Nat.zero_add, Nat.reduceAdd, Nat.reduceLT, Nat.reduceLeDiff, Nat.le_refl, not_true_eq_false, not_false_eq_true, r_eq, r_ne, r_lt, r_ge, r_gt, r_le, bz_ne, nn_toNat, cn_of, cn_0, cn_1, i10, Int.reduceLE, Int.reduceLT, Int.reduceEq, bz_T, bz_F, ite_self, mulc, st_bud]
theorem t_km {T : Nat → Option q_T} {nx rc rs o m m2 : Nat} {R : Nat → Nat → Option Value} {G : Nat → Int → Int} {i h x : Int} (ho : Ly T R o (L2 o)) (h0 : 0 ≤ h) (h1 : h < 201) (x0 : 0 ≤ x) (x1 : x < 201) (hm : G (o + 7) h = m) (m64 : m < 64) (hm2 : G (o + 7) x = m2) (m264 : m2 < 64) :
    ∀ (Kn : List Value → q_M → Prop) (Kr : Option Value → q_M → Prop), q_soa q_gior (q_fr 2 9 (q_r 0)) (q_l 2) (q_ai (q_fr 2 9 (q_r 0)) (q_l 3)) [.ref o, .int (zI i), .int (zI h), .int (zI x)] (st T nx rc rs R G) Kn Kr = Kn [.ref o, .int (zI i), .int (zI h), .int (zI x)] (st T nx rc rs R (gs G (o + 7) h ((m ||| m2 : Nat) : Int))) := by
  have e : q_gior (zI (G (o + 7) h)) (zI (G (o + 7) x)) = zI ((m ||| m2 : Nat) : Int) := by rw [hm, hm2, gor (by omega) (by omega)]
  have ka : ∀ (env : List Value) (Kn : List Value → q_M → Prop), ao2K (o + 7) 201 (zI h) (q_gior (zI (G (o + 7) h)) (zI (G (o + 7) x))) env (st T nx rc rs R G) Kn = Kn env (st T nx rc rs R (gs G (o + 7) h ((m ||| m2 : Nat) : Int))) := by
    rw [e]
    exact fun env Kn => ao_any (t2_9 ho) (w2_9 ho) (by omega) h0 h1
  intro Kn Kr
  simp (disch := omega) only [↓k_mk, ↓k_sq, ↓k_sk, ↓k_bk, ↓k_if, ↓k_te, ↓k_cm, ↓k_cz, ↓k_an2, ↓k_or2, ↓k_no, ↓k_ci, ↓k_l0, ↓k_r0, ↓k_se0, ↓k_ic0, ↓k_l1, ↓k_r1, ↓k_se1, ↓k_ic1, ↓k_de1, ↓k_tk1, ↓k_l2, ↓k_r2, ↓k_se2, ↓k_ic2, ↓k_de2, ↓k_tk2, ↓k_l3, ↓k_r3, ↓k_se3, ↓k_ic3, ↓k_de3, ↓k_tk3, ↓k_l4, ↓k_r4, ↓k_se4, ↓k_ic4, ↓k_de4, ↓k_tk4, ↓k_l5, ↓k_r5, ↓k_se5, ↓k_ic5, ↓k_de5, ↓k_tk5, ↓k_l6, ↓k_r6, ↓k_se6, ↓k_ic6, ↓k_de6, ↓k_tk6, ↓k_l7, ↓k_r7, ↓k_se7, ↓k_ic7, ↓k_de7, ↓k_tk7, ↓k_l8, ↓k_r8, ↓k_se8, ↓k_ic8, ↓k_de8, ↓k_tk8, ↓k_l9, ↓k_r9, ↓k_se9, ↓k_ic9, ↓k_de9, ↓k_tk9, ↓k_l10, ↓k_r10, ↓k_se10, ↓k_ic10, ↓k_de10, ↓k_tk10, ↓k_l11, ↓k_r11, ↓k_se11, ↓k_ic11, ↓k_de11, ↓k_tk11, ↓k_l12, ↓k_r12, ↓k_se12, ↓k_ic12, ↓k_de12, ↓k_tk12, ↓k_l13, ↓k_r13, ↓k_se13, ↓k_ic13, ↓k_de13, ↓k_tk13, ↓k_l14, ↓k_r14, ↓k_se14, ↓k_ic14, ↓k_de14, ↓k_tk14, ↓k_l15, ↓k_r15, ↓k_se15, ↓k_ic15, ↓k_de15, ↓k_tk15, ↓k_l16, ↓k_r16, ↓k_se16, ↓k_ic16, ↓k_de16, ↓k_tk16, ↓k_l17, ↓k_r17, ↓k_se17, ↓k_ic17, ↓k_de17, ↓k_tk17, ↓k_l18, ↓k_r18, ↓k_se18, ↓k_ic18, ↓k_de18, ↓k_tk18, ↓k_l19, ↓k_r19, ↓k_se19, ↓k_ic19, ↓k_de19, ↓k_tk19, ↓k_l20, ↓k_r20, ↓k_se20, ↓k_ic20, ↓k_de20, ↓k_tk20, ↓k_l21, ↓k_r21, ↓k_se21, ↓k_ic21, ↓k_de21, ↓k_tk21, ↓k_l22, ↓k_r22, ↓k_se22, ↓k_ic22, ↓k_de22, ↓k_tk22, ↓k_l23, ↓k_r23, ↓k_se23, ↓k_ic23, ↓k_de23, ↓k_tk23, ↓k_l24, ↓k_r24, ↓k_se24, ↓k_ic24, ↓k_de24, ↓k_tk24, ↓k_l25, ↓k_r25, ↓k_se25, ↓k_ic25, ↓k_de25, ↓k_tk25, ↓k_k, ↓k_kn, ↓k_kl, ↓k_kln, ↓k_il, ↓k_2, ↓k_1, ↓k_2c, ↓k_2l, ↓k_ac, ↓k_an, ↓k_cs, ↓k_cv, ↓k_fi, ↓k_fr, ↓k_ai, ↓k_az, ↓k_ar, ↓k_sai, ↓k_saz, ↓k_soa, ↓k_sof, ↓k_spf, ↓k_sx, ↓k_blk, ↓k_sset, ↓k_sdec, ↓k_sri, ↓k_srv, ↓k_srr, ↓k_nop, ↓k_add, ↓k_sub, ↓k_mul, ↓k_min, ↓k_max, ↓k_shr, ↓k_shl, ↓k_or, ↓k_ilz, ↓k_addl, ↓k_rt, ↓k_rb, ↓k_rbz, ↓k_rsi, ↓k_rsr, ↓k_rsv, ↓reduceIte, ↓ka, ↓xr2_9 ho, ↓xa2_9 ho, ↓xs2_9 ho, ↓xo2_9 ho, ↓xc2_9 ho, ↓xd2_9 ho, List.length_cons, List.length_nil, List.forall_mem_cons, List.not_mem_nil, Value.category, true_and, and_true, false_and, and_false, or_true, true_or, or_false, false_or, Nat.zero_le, forall_const, implies_true, false_implies, Nat.zero_add, Nat.reduceAdd, Nat.reduceLT, Nat.reduceLeDiff, Nat.le_refl, not_true_eq_false, not_false_eq_true, r_eq, r_ne, r_lt, r_ge, r_gt, r_le, bz_ne, nn_toNat, cn_of, cn_0, cn_1, i10, Int.reduceLE, Int.reduceLT, Int.reduceEq, bz_T, bz_F, ite_self, mulc, st_bud]
theorem Kd_b {T : Nat → Option q_T} {nx rc rs o : Nat} {R : Nat → Nat → Option Value} {G : Nat → Int → Int} {n : Int} {H : Nat} {one two kd : Nat → Int} {S : Nat → Prop} (hk : ∀ i : Nat, i < H → two i < 0 → 0 ≤ kd i ∧ kd i ≤ 5) {p k : Int} (w : Kd H one two kd S p k) : 0 ≤ k ∧ k ≤ 5 := by
  obtain ⟨i, h1, h2, h3, h4, h5⟩ := w
  rw [← h5]
  exact hk i h1 h3
theorem c2_holdOne {T : Nat → Option q_T} {nx rc rs o : Nat} {R : Nat → Nat → Option Value} {G : Nat → Int → Int} {n : Int} {H : Nat} {one two kd : Nat → Int} {S : Nat → Prop} {i : Nat} (ho : Ly T R o (L2 o)) (hm : HM G o n H one two kd) (js : JS G o n H one two kd S) (hi : i < H) :
    ∃ (G' : Nat → Int → Int) (r : Int), (∀ x, ¬ x = o + 6 → ¬ x = o + 7 → G' x = G x) ∧ JS G' o n H one two kd (fun j => S j ∨ j = i) ∧ (r = 0 ∨ r = 1) ∧ (r = 1 ↔ two2 (fun k => Kd H one two kd (fun j => S j ∨ j = i) (one i) k)) ∧ ∀ K : Option Value → q_M → Prop, fX2_holdOne [.ref o, .int (zI i)] (st T nx rc rs R G) K = K (some (.int (zI r))) (st T nx rc rs R G') := by
  obtain ⟨h1, h2, h3, h4, h5⟩ := hm
  obtain ⟨ρ, dp, uf, cl, kb⟩ := js
  obtain ⟨⟨x1, a0, a1⟩, ⟨x2, b0, b1⟩, hk⟩ := h5 i hi
  have kall : ∀ j : Nat, j < H → two j < 0 → 0 ≤ kd j ∧ kd j ≤ 5 := fun j hj w => by
    obtain ⟨_, ⟨_, q1, q2⟩, q3⟩ := h5 j hj
    exact (q3 (by omega)).2
  obtain ⟨_, ⟨r0, r1⟩, _⟩ := uf (one i) a0 a1
  have rr := (UF_rt uf _ (one i) a0 a1 rfl).2.2
  obtain ⟨h, hh⟩ : ∃ h, h = ρ (one i) := ⟨_, rfl⟩
  rw [← hh] at r0 r1 rr
  have cH1 : ∀ K : Option Value → q_M → Prop, fX2_headOf [.ref o, .int (zI (G (o + 1) i))] (st T nx 0 0 R G) K = K (some (.int (zI h))) (st T nx 0 0 R G) := fun K => by
    rw [x1, hh]
    exact c2_headOf ho uf h3.2 a0 a1
  obtain ⟨m, hm1, hm2, hm3⟩ := kb (one i) a0 a1
  rw [← hh] at hm1
  have i0 : (0 : Int) ≤ i := by omega
  have i1 : (i : Int) < 441 := by omega
  by_cases g : two i = -1
  · obtain ⟨x3, k0, k5⟩ := hk g
    obtain ⟨k, hkk⟩ : ∃ k : Nat, kd i = k := ⟨(kd i).toNat, by omega⟩
    have s1 := t_kk (T := T) (nx := nx) (rc := rc) (rs := rs) (R := R) (G := G) ho i0 i1 r0 (by omega) (by rw [x3, hkk]) (show k < 6 by omega) hm1 hm2
    obtain ⟨m', hm'⟩ : ∃ m' : Nat, m' = m ||| 2 ^ k := ⟨_, rfl⟩
    rw [← hm'] at s1
    have m'64 : m' < 64 := by
      rw [hm']
      have : 2 ^ k < 2 ^ 6 := Nat.pow_lt_pow_right (by omega) (by omega)
      exact Nat.or_lt_two_pow (n := 6) hm2 this
    obtain ⟨G', hG'⟩ : ∃ M, M = gs G (o + 7) h (m' : Int) := ⟨_, rfl⟩
    rw [← hG'] at s1
    have x7 : G' (o + 7) h = m' := by rw [hG']; exact gs_same _ _ _ _
    have bits : ∀ j : Nat, j < 6 → (m'.testBit j = true ↔ Kd H one two kd (fun j => S j ∨ j = i) (one i) j) := fun j hj => by
      have t1 := hm3 j hj
      have t2 := Kd_kind (S := S) (one := one) (kd := kd) hi (show two i < 0 by omega) (one i) j
      rw [hm', Nat.testBit_or, Nat.testBit_two_pow, Bool.or_eq_true, decide_eq_true_eq, t1, t2]
      constructor
      · intro w
        rcases w with w | w
        · exact Or.inl w
        · exact Or.inr ⟨Cl_eqv.1 _, by rw [hkk, w]⟩
      · intro w
        rcases w with w | ⟨_, w⟩
        · exact Or.inl w
        · exact Or.inr (by omega)
    have cB : ∀ (μ : q_M) (K : Option Value → q_M → Prop), fJ6_bitCount_0f7a4 [.int (zI (G' (o + 7) h))] μ K = K (some (.int (zI (pop m')))) μ := fun μ K => by rw [x7]; exact cJ_bits (by omega)
    have e2 := KB_2 (P := fun k => Kd H one two kd (fun j => S j ∨ j = i) (one i) k) rfl m'64 bits (fun k w => Kd_b (T := T) (nx := nx) (rc := rc) (rs := rs) (o := o) (R := R) (G := G) (n := n) kall w)
    have js' : JS G' o n H one two kd (fun j => S j ∨ j = i) := by
      refine ⟨ρ, dp, by rw [hG', gs_ne (by omega)]; exact uf, fun p q p0 p1 q0 q1 => by rw [cl p q p0 p1 q0 q1]; exact (Cl_kind (by omega) p q).symm, fun p p0 p1 => ?_⟩
      rw [hG', gs_eq, fu_at]
      by_cases w : ρ p = h
      · rw [if_pos w]
        have lk : Cl H one two (fun j => S j ∨ j = i) p (one i) := (Cl_kind (by omega) _ _).mpr ((cl p (one i) p0 p1 a0 a1).mp (by rw [w, hh]))
        exact ⟨m', rfl, m'64, fun j hj => (bits j hj).trans (Kd_like lk).symm⟩
      · rw [if_neg w]
        obtain ⟨y, y1, y2, y3⟩ := kb p p0 p1
        refine ⟨y, y1, y2, fun j hj => ?_⟩
        refine (y3 j hj).trans ?_
        show Kd H one two kd S p j ↔ Kd H one two kd (fun j => S j ∨ j = i) p j
        rw [Kd_kind hi (show two i < 0 by omega)]
        exact ⟨Or.inl, fun z => z.elim id (fun z => absurd ((cl p (one i) p0 p1 a0 a1).mpr z.1) (by rw [← hh]; exact w))⟩
    have pb : 0 ≤ pop m' ∧ pop m' ≤ 8 := by
      unfold pop
      omega
    by_cases w : 2 ≤ pop m'
    · refine ⟨G', 1, fun x q1 q2 => by rw [hG', gs_ne q2], js', Or.inr rfl, ⟨fun _ => e2.mp w, fun _ => rfl⟩, fun K => ?_⟩
      simp (disch := omega) only [↓fX2_holdOne.eq_1, ↓sX2_holdOne_.eq_1, ↓(k_cs1 dJ6_bitCount_0f7a4), ↓(k_cv1 dX2_headOf (t2 ho)), ↓k_mk, ↓k_sq, ↓k_sk, ↓k_bk, ↓k_if, ↓k_te, ↓k_cm, ↓k_cz, ↓k_an2, ↓k_or2, ↓k_no, ↓k_ci, ↓k_l0, ↓k_r0, ↓k_se0, ↓k_ic0, ↓k_l1, ↓k_r1, ↓k_se1, ↓k_ic1, ↓k_de1, ↓k_tk1, ↓k_l2, ↓k_r2, ↓k_se2, ↓k_ic2, ↓k_de2, ↓k_tk2, ↓k_l3, ↓k_r3, ↓k_se3, ↓k_ic3, ↓k_de3, ↓k_tk3, ↓k_l4, ↓k_r4, ↓k_se4, ↓k_ic4, ↓k_de4, ↓k_tk4, ↓k_l5, ↓k_r5, ↓k_se5, ↓k_ic5, ↓k_de5, ↓k_tk5, ↓k_l6, ↓k_r6, ↓k_se6, ↓k_ic6, ↓k_de6, ↓k_tk6, ↓k_l7, ↓k_r7, ↓k_se7, ↓k_ic7, ↓k_de7, ↓k_tk7, ↓k_l8, ↓k_r8, ↓k_se8, ↓k_ic8, ↓k_de8, ↓k_tk8, ↓k_l9, ↓k_r9, ↓k_se9, ↓k_ic9, ↓k_de9, ↓k_tk9, ↓k_l10, ↓k_r10, ↓k_se10, ↓k_ic10, ↓k_de10, ↓k_tk10, ↓k_l11, ↓k_r11, ↓k_se11, ↓k_ic11, ↓k_de11, ↓k_tk11, ↓k_l12, ↓k_r12, ↓k_se12, ↓k_ic12, ↓k_de12, ↓k_tk12, ↓k_l13, ↓k_r13, ↓k_se13, ↓k_ic13, ↓k_de13, ↓k_tk13, ↓k_l14, ↓k_r14, ↓k_se14, ↓k_ic14, ↓k_de14, ↓k_tk14, ↓k_l15, ↓k_r15, ↓k_se15, ↓k_ic15, ↓k_de15, ↓k_tk15, ↓k_l16, ↓k_r16, ↓k_se16, ↓k_ic16, ↓k_de16, ↓k_tk16, ↓k_l17, ↓k_r17, ↓k_se17, ↓k_ic17, ↓k_de17, ↓k_tk17, ↓k_l18, ↓k_r18, ↓k_se18, ↓k_ic18, ↓k_de18, ↓k_tk18, ↓k_l19, ↓k_r19, ↓k_se19, ↓k_ic19, ↓k_de19, ↓k_tk19, ↓k_l20, ↓k_r20, ↓k_se20, ↓k_ic20, ↓k_de20, ↓k_tk20, ↓k_l21, ↓k_r21, ↓k_se21, ↓k_ic21, ↓k_de21, ↓k_tk21, ↓k_l22, ↓k_r22, ↓k_se22, ↓k_ic22, ↓k_de22, ↓k_tk22, ↓k_l23, ↓k_r23, ↓k_se23, ↓k_ic23, ↓k_de23, ↓k_tk23, ↓k_l24, ↓k_r24, ↓k_se24, ↓k_ic24, ↓k_de24, ↓k_tk24, ↓k_l25, ↓k_r25, ↓k_se25, ↓k_ic25, ↓k_de25, ↓k_tk25, ↓k_k, ↓k_kn, ↓k_kl, ↓k_kln, ↓k_il, ↓k_2, ↓k_1, ↓k_2c, ↓k_2l, ↓k_ac, ↓k_an, ↓k_cs, ↓k_cv, ↓k_fi, ↓k_fr, ↓k_ai, ↓k_az, ↓k_ar, ↓k_sai, ↓k_saz, ↓k_sof, ↓k_spf, ↓k_sx, ↓k_blk, ↓k_sset, ↓k_sdec, ↓k_sri, ↓k_srv, ↓k_srr, ↓k_nop, ↓k_add, ↓k_sub, ↓k_mul, ↓k_min, ↓k_max, ↓k_shr, ↓k_shl, ↓k_or, ↓k_ilz, ↓k_addl, ↓k_rt, ↓k_rb, ↓k_rbz, ↓k_rsi, ↓k_rsr, ↓k_rsv, ↓reduceIte, ↓(k_cv1 dX2_headOf (t2 ho)), ↓cH1, ↓s1, ↓cB, x2, g, w, eq_self, ↓xr2_3 ho, ↓xa2_3 ho, ↓xs2_3 ho, ↓xo2_3 ho, ↓xc2_3 ho, ↓xd2_3 ho, ↓xr2_4 ho, ↓xa2_4 ho, ↓xs2_4 ho, ↓xo2_4 ho, ↓xc2_4 ho, ↓xd2_4 ho, ↓xr2_9 ho, ↓xa2_9 ho, ↓xs2_9 ho, ↓xo2_9 ho, ↓xc2_9 ho, ↓xd2_9 ho, List.length_cons, List.length_nil, List.forall_mem_cons, List.not_mem_nil, Value.category, true_and, and_true, false_and, and_false, or_true, true_or, or_false, false_or, Nat.zero_le, forall_const, implies_true, false_implies, Nat.zero_add, Nat.reduceAdd, Nat.reduceLT, Nat.reduceLeDiff, Nat.le_refl, not_true_eq_false, not_false_eq_true, r_eq, r_ne, r_lt, r_ge, r_gt, r_le, bz_ne, nn_toNat, cn_of, cn_0, cn_1, i10, Int.reduceLE, Int.reduceLT, Int.reduceEq, bz_T, bz_F, ite_self, mulc, st_bud]
    · refine ⟨G', 0, fun x q1 q2 => by rw [hG', gs_ne q2], js', Or.inl rfl, ⟨fun z => absurd z (by omega), fun z => absurd (e2.mpr z) w⟩, fun K => ?_⟩
      simp (disch := omega) only [↓fX2_holdOne.eq_1, ↓sX2_holdOne_.eq_1, ↓(k_cs1 dJ6_bitCount_0f7a4), ↓(k_cv1 dX2_headOf (t2 ho)), ↓k_mk, ↓k_sq, ↓k_sk, ↓k_bk, ↓k_if, ↓k_te, ↓k_cm, ↓k_cz, ↓k_an2, ↓k_or2, ↓k_no, ↓k_ci, ↓k_l0, ↓k_r0, ↓k_se0, ↓k_ic0, ↓k_l1, ↓k_r1, ↓k_se1, ↓k_ic1, ↓k_de1, ↓k_tk1, ↓k_l2, ↓k_r2, ↓k_se2, ↓k_ic2, ↓k_de2, ↓k_tk2, ↓k_l3, ↓k_r3, ↓k_se3, ↓k_ic3, ↓k_de3, ↓k_tk3, ↓k_l4, ↓k_r4, ↓k_se4, ↓k_ic4, ↓k_de4, ↓k_tk4, ↓k_l5, ↓k_r5, ↓k_se5, ↓k_ic5, ↓k_de5, ↓k_tk5, ↓k_l6, ↓k_r6, ↓k_se6, ↓k_ic6, ↓k_de6, ↓k_tk6, ↓k_l7, ↓k_r7, ↓k_se7, ↓k_ic7, ↓k_de7, ↓k_tk7, ↓k_l8, ↓k_r8, ↓k_se8, ↓k_ic8, ↓k_de8, ↓k_tk8, ↓k_l9, ↓k_r9, ↓k_se9, ↓k_ic9, ↓k_de9, ↓k_tk9, ↓k_l10, ↓k_r10, ↓k_se10, ↓k_ic10, ↓k_de10, ↓k_tk10, ↓k_l11, ↓k_r11, ↓k_se11, ↓k_ic11, ↓k_de11, ↓k_tk11, ↓k_l12, ↓k_r12, ↓k_se12, ↓k_ic12, ↓k_de12, ↓k_tk12, ↓k_l13, ↓k_r13, ↓k_se13, ↓k_ic13, ↓k_de13, ↓k_tk13, ↓k_l14, ↓k_r14, ↓k_se14, ↓k_ic14, ↓k_de14, ↓k_tk14, ↓k_l15, ↓k_r15, ↓k_se15, ↓k_ic15, ↓k_de15, ↓k_tk15, ↓k_l16, ↓k_r16, ↓k_se16, ↓k_ic16, ↓k_de16, ↓k_tk16, ↓k_l17, ↓k_r17, ↓k_se17, ↓k_ic17, ↓k_de17, ↓k_tk17, ↓k_l18, ↓k_r18, ↓k_se18, ↓k_ic18, ↓k_de18, ↓k_tk18, ↓k_l19, ↓k_r19, ↓k_se19, ↓k_ic19, ↓k_de19, ↓k_tk19, ↓k_l20, ↓k_r20, ↓k_se20, ↓k_ic20, ↓k_de20, ↓k_tk20, ↓k_l21, ↓k_r21, ↓k_se21, ↓k_ic21, ↓k_de21, ↓k_tk21, ↓k_l22, ↓k_r22, ↓k_se22, ↓k_ic22, ↓k_de22, ↓k_tk22, ↓k_l23, ↓k_r23, ↓k_se23, ↓k_ic23, ↓k_de23, ↓k_tk23, ↓k_l24, ↓k_r24, ↓k_se24, ↓k_ic24, ↓k_de24, ↓k_tk24, ↓k_l25, ↓k_r25, ↓k_se25, ↓k_ic25, ↓k_de25, ↓k_tk25, ↓k_k, ↓k_kn, ↓k_kl, ↓k_kln, ↓k_il, ↓k_2, ↓k_1, ↓k_2c, ↓k_2l, ↓k_ac, ↓k_an, ↓k_cs, ↓k_cv, ↓k_fi, ↓k_fr, ↓k_ai, ↓k_az, ↓k_ar, ↓k_sai, ↓k_saz, ↓k_sof, ↓k_spf, ↓k_sx, ↓k_blk, ↓k_sset, ↓k_sdec, ↓k_sri, ↓k_srv, ↓k_srr, ↓k_nop, ↓k_add, ↓k_sub, ↓k_mul, ↓k_min, ↓k_max, ↓k_shr, ↓k_shl, ↓k_or, ↓k_ilz, ↓k_addl, ↓k_rt, ↓k_rb, ↓k_rbz, ↓k_rsi, ↓k_rsr, ↓k_rsv, ↓reduceIte, ↓(k_cv1 dX2_headOf (t2 ho)), ↓cH1, ↓s1, ↓cB, x2, g, w, eq_self, ↓xr2_3 ho, ↓xa2_3 ho, ↓xs2_3 ho, ↓xo2_3 ho, ↓xc2_3 ho, ↓xd2_3 ho, ↓xr2_4 ho, ↓xa2_4 ho, ↓xs2_4 ho, ↓xo2_4 ho, ↓xc2_4 ho, ↓xd2_4 ho, ↓xr2_9 ho, ↓xa2_9 ho, ↓xs2_9 ho, ↓xo2_9 ho, ↓xc2_9 ho, ↓xd2_9 ho, List.length_cons, List.length_nil, List.forall_mem_cons, List.not_mem_nil, Value.category, true_and, and_true, false_and, and_false, or_true, true_or, or_false, false_or, Nat.zero_le, forall_const, implies_true, false_implies, Nat.zero_add, Nat.reduceAdd, Nat.reduceLT, Nat.reduceLeDiff, Nat.le_refl, not_true_eq_false, not_false_eq_true, r_eq, r_ne, r_lt, r_ge, r_gt, r_le, bz_ne, nn_toNat, cn_of, cn_0, cn_1, i10, Int.reduceLE, Int.reduceLT, Int.reduceEq, bz_T, bz_F, ite_self, mulc, st_bud]
  · have g0 : 0 ≤ two i := by omega
    obtain ⟨_, ⟨q0, q1⟩, _⟩ := uf (two i) g0 b1
    have qq := (UF_rt uf _ (two i) g0 b1 rfl).2.2
    have qh := (UF_rt uf _ (two i) g0 b1 rfl).2.1
    obtain ⟨x, hx⟩ : ∃ x, x = ρ (two i) := ⟨_, rfl⟩
    rw [← hx] at q0 q1 qq qh
    have cH2 : ∀ K : Option Value → q_M → Prop, fX2_headOf [.ref o, .int (zI (G (o + 2) i))] (st T nx 0 0 R G) K = K (some (.int (zI x))) (st T nx 0 0 R G) := fun K => by
      rw [x2, hx]
      exact c2_headOf ho uf h3.2 g0 b1
    obtain ⟨m2, hn1, hn2, hn3⟩ := kb (two i) g0 b1
    rw [← hx] at hn1
    have s1 := t_km (T := T) (nx := nx) (rc := rc) (rs := rs) (R := R) (G := G) (i := i) ho r0 (by omega) q0 (by omega) hm1 hm2 hn1 hn2
    obtain ⟨m', hm'⟩ : ∃ m' : Nat, m' = m ||| m2 := ⟨_, rfl⟩
    rw [← hm'] at s1
    have m'64 : m' < 64 := by
      rw [hm']
      exact Nat.or_lt_two_pow (n := 6) hm2 hn2
    obtain ⟨G1, hG1⟩ : ∃ M, M = gs G (o + 7) h (m' : Int) := ⟨_, rfl⟩
    rw [← hG1] at s1
    obtain ⟨G', hG'⟩ : ∃ M, M = gs G1 (o + 6) x h := ⟨_, rfl⟩
    have s2 : ∀ (Kn : List Value → q_M → Prop) (Kr : Option Value → q_M → Prop), q_sai (q_fr 2 8 (q_r 0)) (q_l 3) (q_l 2) [.ref o, .int (zI i), .int (zI h), .int (zI x)] (st T nx rc rs R G1) Kn Kr = Kn [.ref o, .int (zI i), .int (zI h), .int (zI x)] (st T nx rc rs R G') := by
      intro Kn Kr
      rw [hG']
      simp (disch := omega) only [↓k_mk, ↓k_sq, ↓k_sk, ↓k_bk, ↓k_if, ↓k_te, ↓k_cm, ↓k_cz, ↓k_an2, ↓k_or2, ↓k_no, ↓k_ci, ↓k_l0, ↓k_r0, ↓k_se0, ↓k_ic0, ↓k_l1, ↓k_r1, ↓k_se1, ↓k_ic1, ↓k_de1, ↓k_tk1, ↓k_l2, ↓k_r2, ↓k_se2, ↓k_ic2, ↓k_de2, ↓k_tk2, ↓k_l3, ↓k_r3, ↓k_se3, ↓k_ic3, ↓k_de3, ↓k_tk3, ↓k_l4, ↓k_r4, ↓k_se4, ↓k_ic4, ↓k_de4, ↓k_tk4, ↓k_l5, ↓k_r5, ↓k_se5, ↓k_ic5, ↓k_de5, ↓k_tk5, ↓k_l6, ↓k_r6, ↓k_se6, ↓k_ic6, ↓k_de6, ↓k_tk6, ↓k_l7, ↓k_r7, ↓k_se7, ↓k_ic7, ↓k_de7, ↓k_tk7, ↓k_l8, ↓k_r8, ↓k_se8, ↓k_ic8, ↓k_de8, ↓k_tk8, ↓k_l9, ↓k_r9, ↓k_se9, ↓k_ic9, ↓k_de9, ↓k_tk9, ↓k_l10, ↓k_r10, ↓k_se10, ↓k_ic10, ↓k_de10, ↓k_tk10, ↓k_l11, ↓k_r11, ↓k_se11, ↓k_ic11, ↓k_de11, ↓k_tk11, ↓k_l12, ↓k_r12, ↓k_se12, ↓k_ic12, ↓k_de12, ↓k_tk12, ↓k_l13, ↓k_r13, ↓k_se13, ↓k_ic13, ↓k_de13, ↓k_tk13, ↓k_l14, ↓k_r14, ↓k_se14, ↓k_ic14, ↓k_de14, ↓k_tk14, ↓k_l15, ↓k_r15, ↓k_se15, ↓k_ic15, ↓k_de15, ↓k_tk15, ↓k_l16, ↓k_r16, ↓k_se16, ↓k_ic16, ↓k_de16, ↓k_tk16, ↓k_l17, ↓k_r17, ↓k_se17, ↓k_ic17, ↓k_de17, ↓k_tk17, ↓k_l18, ↓k_r18, ↓k_se18, ↓k_ic18, ↓k_de18, ↓k_tk18, ↓k_l19, ↓k_r19, ↓k_se19, ↓k_ic19, ↓k_de19, ↓k_tk19, ↓k_l20, ↓k_r20, ↓k_se20, ↓k_ic20, ↓k_de20, ↓k_tk20, ↓k_l21, ↓k_r21, ↓k_se21, ↓k_ic21, ↓k_de21, ↓k_tk21, ↓k_l22, ↓k_r22, ↓k_se22, ↓k_ic22, ↓k_de22, ↓k_tk22, ↓k_l23, ↓k_r23, ↓k_se23, ↓k_ic23, ↓k_de23, ↓k_tk23, ↓k_l24, ↓k_r24, ↓k_se24, ↓k_ic24, ↓k_de24, ↓k_tk24, ↓k_l25, ↓k_r25, ↓k_se25, ↓k_ic25, ↓k_de25, ↓k_tk25, ↓k_k, ↓k_kn, ↓k_kl, ↓k_kln, ↓k_il, ↓k_2, ↓k_1, ↓k_2c, ↓k_2l, ↓k_ac, ↓k_an, ↓k_cs, ↓k_cv, ↓k_fi, ↓k_fr, ↓k_ai, ↓k_az, ↓k_ar, ↓k_sai, ↓k_saz, ↓k_soa, ↓k_sof, ↓k_spf, ↓k_sx, ↓k_blk, ↓k_sset, ↓k_sdec, ↓k_sri, ↓k_srv, ↓k_srr, ↓k_nop, ↓k_add, ↓k_sub, ↓k_mul, ↓k_min, ↓k_max, ↓k_shr, ↓k_shl, ↓k_or, ↓k_ilz, ↓k_addl, ↓k_rt, ↓k_rb, ↓k_rbz, ↓k_rsi, ↓k_rsr, ↓k_rsv, ↓reduceIte, ↓xr2_8 ho, ↓xa2_8 ho, ↓xs2_8 ho, ↓xo2_8 ho, ↓xc2_8 ho, ↓xd2_8 ho, List.length_cons, List.length_nil, List.forall_mem_cons, List.not_mem_nil, Value.category, true_and, and_true, false_and, and_false, or_true, true_or, or_false, false_or, Nat.zero_le, forall_const, implies_true, false_implies, Nat.zero_add, Nat.reduceAdd, Nat.reduceLT, Nat.reduceLeDiff, Nat.le_refl, not_true_eq_false, not_false_eq_true, r_eq, r_ne, r_lt, r_ge, r_gt, r_le, bz_ne, nn_toNat, cn_of, cn_0, cn_1, i10, Int.reduceLE, Int.reduceLT, Int.reduceEq, bz_T, bz_F, ite_self, mulc, st_bud]
    have x7 : G' (o + 7) h = m' := by rw [hG', gs_ne (by omega), hG1]; exact gs_same _ _ _ _
    have bits : ∀ j : Nat, j < 6 → (m'.testBit j = true ↔ Kd H one two kd (fun j => S j ∨ j = i) (one i) j) := fun j hj => by
      have t1 := hm3 j hj
      have t2 := hn3 j hj
      have t3 := Kd_mate (S := S) (one := one) (kd := kd) hi g0 (one i) j
      rw [hm', Nat.testBit_or, Bool.or_eq_true, t1, t2, t3]
      constructor
      · intro w
        rcases w with w | w
        · exact Or.inl w
        · exact Or.inr (Or.inl ⟨Cl_eqv.1 _, w⟩)
      · intro w
        rcases w with w | ⟨_, w⟩ | ⟨_, w⟩
        · exact Or.inl w
        · exact Or.inr w
        · exact Or.inl w
    have cB : ∀ (μ : q_M) (K : Option Value → q_M → Prop), fJ6_bitCount_0f7a4 [.int (zI (G' (o + 7) h))] μ K = K (some (.int (zI (pop m')))) μ := fun μ K => by rw [x7]; exact cJ_bits (by omega)
    have e2 := KB_2 (P := fun k => Kd H one two kd (fun j => S j ∨ j = i) (one i) k) rfl m'64 bits (fun k w => Kd_b (T := T) (nx := nx) (rc := rc) (rs := rs) (o := o) (R := R) (G := G) (n := n) kall w)
    have ii : Cl H one two (fun j => S j ∨ j = i) (one i) (two i) := Cl_in hi (Or.inr rfl) g0
    have e' := Cl_eqv (H := H) (one := one) (two := two) (S := fun j => S j ∨ j = i)
    have up : ∀ {p q : Int}, Cl H one two S p q → Cl H one two (fun j => S j ∨ j = i) p q := fun w => Cl_mono (fun _ _ z => Or.inl z) w
    have k1 : ∀ p, 0 ≤ p → p < n → (ρ p = h ↔ Cl H one two S p (one i)) := fun p p0 p1 => by rw [hh]; exact cl p (one i) p0 p1 a0 a1
    have k2 : ∀ p, 0 ≤ p → p < n → (ρ p = x ↔ Cl H one two S p (two i)) := fun p p0 p1 => by rw [hx]; exact cl p (two i) p0 p1 g0 b1
    have e0 := Cl_eqv (H := H) (one := one) (two := two) (S := S)
    have js' : JS G' o n H one two kd (fun j => S j ∨ j = i) := by
      have f6 : G' (o + 6) = fu (G (o + 6)) x h := by rw [hG', gs_eq, hG1, gs_ne (by omega)]
      have f7 : G' (o + 7) = fu (G (o + 7)) h m' := by rw [hG', gs_ne (by omega), hG1, gs_eq]
      -- what the group of one i or two i has
      have grp : ∀ p, 0 ≤ p → p < n → (ρ p = x ∨ ρ p = h) → KB (G' (o + 7) h) (fun k => Kd H one two kd (fun j => S j ∨ j = i) p k) := fun p p0 p1 w => by
        have lk : Cl H one two (fun j => S j ∨ j = i) p (one i) := by
          rcases w with w | w
          · exact e'.2.2 _ _ _ (up ((k2 p p0 p1).mp w)) (e'.2.1 _ _ ii)
          · exact up ((k1 p p0 p1).mp w)
        exact ⟨m', x7, m'64, fun j hj => (bits j hj).trans (Kd_like lk).symm⟩
      have oth : ∀ p, 0 ≤ p → p < n → ¬ ρ p = x → ¬ ρ p = h → KB (G' (o + 7) (ρ p)) (fun k => Kd H one two kd (fun j => S j ∨ j = i) p k) := fun p p0 p1 w1 w2 => by
        rw [f7, fu_ne w2]
        obtain ⟨y, y1, y2, y3⟩ := kb p p0 p1
        refine ⟨y, y1, y2, fun j hj => ?_⟩
        refine (y3 j hj).trans ?_
        show Kd H one two kd S p j ↔ Kd H one two kd (fun j => S j ∨ j = i) p j
        rw [Kd_mate hi g0]
        exact ⟨Or.inl, fun z => z.elim id (fun z => z.elim (fun z => absurd ((k1 p p0 p1).mpr z.1) w2) (fun z => absurd ((k2 p p0 p1).mpr z.1) w1))⟩
      by_cases xh : x = h
      · have f6' : G' (o + 6) = G (o + 6) := by
          rw [f6]
          funext j
          unfold fu
          by_cases z : j = x
          · rw [if_pos z, z, qh, xh]
          · rw [if_neg z]
        refine ⟨ρ, dp, by rw [f6']; exact uf, fun p q p0 p1 q0 q1 => ?_, fun p p0 p1 => ?_⟩
        · rw [cl p q p0 p1 q0 q1, Cl_add hi g0]
          refine ⟨Or.inl, fun z => ?_⟩
          rcases z with z | ⟨z1, z2⟩ | ⟨z1, z2⟩
          · exact z
          · have c1 := (k1 p p0 p1).mpr z1
            have c2 := (k2 q q0 q1).mpr (e0.2.1 _ _ z2)
            exact (cl p q p0 p1 q0 q1).mp (by rw [c1, c2, xh])
          · have c1 := (k2 p p0 p1).mpr z1
            have c2 := (k1 q q0 q1).mpr (e0.2.1 _ _ z2)
            exact (cl p q p0 p1 q0 q1).mp (by rw [c1, c2, xh])
        · by_cases z : ρ p = h
          · have := grp p p0 p1 (Or.inr z)
            rw [z]
            exact this
          · exact oth p p0 p1 (by rw [xh]; exact z) z
      · refine ⟨fun p => if ρ p = x then h else ρ p, fun p => if ρ p = x then dp p + 1 else dp p, by rw [f6]; exact UF_add uf r0 r1 q0 q1 rr qq xh, fun p q p0 p1 q0 q1 => ?_, fun p p0 p1 => ?_⟩
        · show (if ρ p = x then h else ρ p) = (if ρ q = x then h else ρ q) ↔ _
          rw [Cl_add hi g0]
          by_cases z1 : ρ p = x
          · rw [if_pos z1]
            by_cases z2 : ρ q = x
            · rw [if_pos z2]
              exact ⟨fun _ => Or.inl ((cl p q p0 p1 q0 q1).mp (by rw [z1, z2])), fun _ => rfl⟩
            · rw [if_neg z2]
              constructor
              · intro w
                exact Or.inr (Or.inr ⟨(k2 p p0 p1).mp z1, e0.2.1 _ _ ((k1 q q0 q1).mp w.symm)⟩)
              · intro w
                rcases w with w | ⟨w1, w2⟩ | ⟨w1, w2⟩
                · exact absurd (((cl p q p0 p1 q0 q1).mpr w).symm.trans z1) z2
                · exact absurd ((k2 q q0 q1).mpr (e0.2.1 _ _ w2)) z2
                · exact ((k1 q q0 q1).mpr (e0.2.1 _ _ w2)).symm
          · rw [if_neg z1]
            by_cases z2 : ρ q = x
            · rw [if_pos z2]
              constructor
              · intro w
                exact Or.inr (Or.inl ⟨(k1 p p0 p1).mp w, e0.2.1 _ _ ((k2 q q0 q1).mp z2)⟩)
              · intro w
                rcases w with w | ⟨w1, w2⟩ | ⟨w1, w2⟩
                · exact absurd (((cl p q p0 p1 q0 q1).mpr w).trans z2) z1
                · exact (k1 p p0 p1).mpr w1
                · exact absurd ((k2 p p0 p1).mpr w1) z1
            · rw [if_neg z2]
              constructor
              · intro w
                exact Or.inl ((cl p q p0 p1 q0 q1).mp w)
              · intro w
                rcases w with w | ⟨w1, w2⟩ | ⟨w1, w2⟩
                · exact (cl p q p0 p1 q0 q1).mpr w
                · exact absurd ((k2 q q0 q1).mpr (e0.2.1 _ _ w2)) z2
                · exact absurd ((k2 p p0 p1).mpr w1) z1
        · show KB (G' (o + 7) (if ρ p = x then h else ρ p)) _
          by_cases z1 : ρ p = x
          · rw [if_pos z1]
            exact grp p p0 p1 (Or.inl z1)
          · rw [if_neg z1]
            by_cases z2 : ρ p = h
            · rw [z2]
              exact grp p p0 p1 (Or.inr z2)
            · exact oth p p0 p1 z1 z2
    have pb : 0 ≤ pop m' ∧ pop m' ≤ 8 := by
      unfold pop
      omega
    have nG : ∀ y, ¬ y = o + 6 → ¬ y = o + 7 → G' y = G y := fun y q1 q2 => by rw [hG', gs_ne q1, hG1, gs_ne q2]
    by_cases w : 2 ≤ pop m'
    · refine ⟨G', 1, nG, js', Or.inr rfl, ⟨fun _ => e2.mp w, fun _ => rfl⟩, fun K => ?_⟩
      simp (disch := omega) only [↓fX2_holdOne.eq_1, ↓sX2_holdOne_.eq_1, ↓(k_cs1 dJ6_bitCount_0f7a4), ↓(k_cv1 dX2_headOf (t2 ho)), ↓k_mk, ↓k_sq, ↓k_sk, ↓k_bk, ↓k_if, ↓k_te, ↓k_cm, ↓k_cz, ↓k_an2, ↓k_or2, ↓k_no, ↓k_ci, ↓k_l0, ↓k_r0, ↓k_se0, ↓k_ic0, ↓k_l1, ↓k_r1, ↓k_se1, ↓k_ic1, ↓k_de1, ↓k_tk1, ↓k_l2, ↓k_r2, ↓k_se2, ↓k_ic2, ↓k_de2, ↓k_tk2, ↓k_l3, ↓k_r3, ↓k_se3, ↓k_ic3, ↓k_de3, ↓k_tk3, ↓k_l4, ↓k_r4, ↓k_se4, ↓k_ic4, ↓k_de4, ↓k_tk4, ↓k_l5, ↓k_r5, ↓k_se5, ↓k_ic5, ↓k_de5, ↓k_tk5, ↓k_l6, ↓k_r6, ↓k_se6, ↓k_ic6, ↓k_de6, ↓k_tk6, ↓k_l7, ↓k_r7, ↓k_se7, ↓k_ic7, ↓k_de7, ↓k_tk7, ↓k_l8, ↓k_r8, ↓k_se8, ↓k_ic8, ↓k_de8, ↓k_tk8, ↓k_l9, ↓k_r9, ↓k_se9, ↓k_ic9, ↓k_de9, ↓k_tk9, ↓k_l10, ↓k_r10, ↓k_se10, ↓k_ic10, ↓k_de10, ↓k_tk10, ↓k_l11, ↓k_r11, ↓k_se11, ↓k_ic11, ↓k_de11, ↓k_tk11, ↓k_l12, ↓k_r12, ↓k_se12, ↓k_ic12, ↓k_de12, ↓k_tk12, ↓k_l13, ↓k_r13, ↓k_se13, ↓k_ic13, ↓k_de13, ↓k_tk13, ↓k_l14, ↓k_r14, ↓k_se14, ↓k_ic14, ↓k_de14, ↓k_tk14, ↓k_l15, ↓k_r15, ↓k_se15, ↓k_ic15, ↓k_de15, ↓k_tk15, ↓k_l16, ↓k_r16, ↓k_se16, ↓k_ic16, ↓k_de16, ↓k_tk16, ↓k_l17, ↓k_r17, ↓k_se17, ↓k_ic17, ↓k_de17, ↓k_tk17, ↓k_l18, ↓k_r18, ↓k_se18, ↓k_ic18, ↓k_de18, ↓k_tk18, ↓k_l19, ↓k_r19, ↓k_se19, ↓k_ic19, ↓k_de19, ↓k_tk19, ↓k_l20, ↓k_r20, ↓k_se20, ↓k_ic20, ↓k_de20, ↓k_tk20, ↓k_l21, ↓k_r21, ↓k_se21, ↓k_ic21, ↓k_de21, ↓k_tk21, ↓k_l22, ↓k_r22, ↓k_se22, ↓k_ic22, ↓k_de22, ↓k_tk22, ↓k_l23, ↓k_r23, ↓k_se23, ↓k_ic23, ↓k_de23, ↓k_tk23, ↓k_l24, ↓k_r24, ↓k_se24, ↓k_ic24, ↓k_de24, ↓k_tk24, ↓k_l25, ↓k_r25, ↓k_se25, ↓k_ic25, ↓k_de25, ↓k_tk25, ↓k_k, ↓k_kn, ↓k_kl, ↓k_kln, ↓k_il, ↓k_2, ↓k_1, ↓k_2c, ↓k_2l, ↓k_ac, ↓k_an, ↓k_cs, ↓k_cv, ↓k_fi, ↓k_fr, ↓k_ai, ↓k_az, ↓k_ar, ↓k_saz, ↓k_sof, ↓k_spf, ↓k_sx, ↓k_blk, ↓k_sset, ↓k_sdec, ↓k_sri, ↓k_srv, ↓k_srr, ↓k_nop, ↓k_add, ↓k_sub, ↓k_mul, ↓k_min, ↓k_max, ↓k_shr, ↓k_shl, ↓k_or, ↓k_ilz, ↓k_addl, ↓k_rt, ↓k_rb, ↓k_rbz, ↓k_rsi, ↓k_rsr, ↓k_rsv, ↓reduceIte, ↓(k_cv1 dX2_headOf (t2 ho)), ↓cH1, ↓cH2, ↓s1, ↓s2, ↓cB, x2, g, w, ↓xr2_3 ho, ↓xa2_3 ho, ↓xs2_3 ho, ↓xo2_3 ho, ↓xc2_3 ho, ↓xd2_3 ho, ↓xr2_4 ho, ↓xa2_4 ho, ↓xs2_4 ho, ↓xo2_4 ho, ↓xc2_4 ho, ↓xd2_4 ho, ↓xr2_9 ho, ↓xa2_9 ho, ↓xs2_9 ho, ↓xo2_9 ho, ↓xc2_9 ho, ↓xd2_9 ho, List.length_cons, List.length_nil, List.forall_mem_cons, List.not_mem_nil, Value.category, true_and, and_true, false_and, and_false, or_true, true_or, or_false, false_or, Nat.zero_le, forall_const, implies_true, false_implies, Nat.zero_add, Nat.reduceAdd, Nat.reduceLT, Nat.reduceLeDiff, Nat.le_refl, not_true_eq_false, not_false_eq_true, r_eq, r_ne, r_lt, r_ge, r_gt, r_le, bz_ne, nn_toNat, cn_of, cn_0, cn_1, i10, Int.reduceLE, Int.reduceLT, Int.reduceEq, bz_T, bz_F, ite_self, mulc, st_bud]
    · refine ⟨G', 0, nG, js', Or.inl rfl, ⟨fun z => absurd z (by omega), fun z => absurd (e2.mpr z) w⟩, fun K => ?_⟩
      simp (disch := omega) only [↓fX2_holdOne.eq_1, ↓sX2_holdOne_.eq_1, ↓(k_cs1 dJ6_bitCount_0f7a4), ↓(k_cv1 dX2_headOf (t2 ho)), ↓k_mk, ↓k_sq, ↓k_sk, ↓k_bk, ↓k_if, ↓k_te, ↓k_cm, ↓k_cz, ↓k_an2, ↓k_or2, ↓k_no, ↓k_ci, ↓k_l0, ↓k_r0, ↓k_se0, ↓k_ic0, ↓k_l1, ↓k_r1, ↓k_se1, ↓k_ic1, ↓k_de1, ↓k_tk1, ↓k_l2, ↓k_r2, ↓k_se2, ↓k_ic2, ↓k_de2, ↓k_tk2, ↓k_l3, ↓k_r3, ↓k_se3, ↓k_ic3, ↓k_de3, ↓k_tk3, ↓k_l4, ↓k_r4, ↓k_se4, ↓k_ic4, ↓k_de4, ↓k_tk4, ↓k_l5, ↓k_r5, ↓k_se5, ↓k_ic5, ↓k_de5, ↓k_tk5, ↓k_l6, ↓k_r6, ↓k_se6, ↓k_ic6, ↓k_de6, ↓k_tk6, ↓k_l7, ↓k_r7, ↓k_se7, ↓k_ic7, ↓k_de7, ↓k_tk7, ↓k_l8, ↓k_r8, ↓k_se8, ↓k_ic8, ↓k_de8, ↓k_tk8, ↓k_l9, ↓k_r9, ↓k_se9, ↓k_ic9, ↓k_de9, ↓k_tk9, ↓k_l10, ↓k_r10, ↓k_se10, ↓k_ic10, ↓k_de10, ↓k_tk10, ↓k_l11, ↓k_r11, ↓k_se11, ↓k_ic11, ↓k_de11, ↓k_tk11, ↓k_l12, ↓k_r12, ↓k_se12, ↓k_ic12, ↓k_de12, ↓k_tk12, ↓k_l13, ↓k_r13, ↓k_se13, ↓k_ic13, ↓k_de13, ↓k_tk13, ↓k_l14, ↓k_r14, ↓k_se14, ↓k_ic14, ↓k_de14, ↓k_tk14, ↓k_l15, ↓k_r15, ↓k_se15, ↓k_ic15, ↓k_de15, ↓k_tk15, ↓k_l16, ↓k_r16, ↓k_se16, ↓k_ic16, ↓k_de16, ↓k_tk16, ↓k_l17, ↓k_r17, ↓k_se17, ↓k_ic17, ↓k_de17, ↓k_tk17, ↓k_l18, ↓k_r18, ↓k_se18, ↓k_ic18, ↓k_de18, ↓k_tk18, ↓k_l19, ↓k_r19, ↓k_se19, ↓k_ic19, ↓k_de19, ↓k_tk19, ↓k_l20, ↓k_r20, ↓k_se20, ↓k_ic20, ↓k_de20, ↓k_tk20, ↓k_l21, ↓k_r21, ↓k_se21, ↓k_ic21, ↓k_de21, ↓k_tk21, ↓k_l22, ↓k_r22, ↓k_se22, ↓k_ic22, ↓k_de22, ↓k_tk22, ↓k_l23, ↓k_r23, ↓k_se23, ↓k_ic23, ↓k_de23, ↓k_tk23, ↓k_l24, ↓k_r24, ↓k_se24, ↓k_ic24, ↓k_de24, ↓k_tk24, ↓k_l25, ↓k_r25, ↓k_se25, ↓k_ic25, ↓k_de25, ↓k_tk25, ↓k_k, ↓k_kn, ↓k_kl, ↓k_kln, ↓k_il, ↓k_2, ↓k_1, ↓k_2c, ↓k_2l, ↓k_ac, ↓k_an, ↓k_cs, ↓k_cv, ↓k_fi, ↓k_fr, ↓k_ai, ↓k_az, ↓k_ar, ↓k_saz, ↓k_sof, ↓k_spf, ↓k_sx, ↓k_blk, ↓k_sset, ↓k_sdec, ↓k_sri, ↓k_srv, ↓k_srr, ↓k_nop, ↓k_add, ↓k_sub, ↓k_mul, ↓k_min, ↓k_max, ↓k_shr, ↓k_shl, ↓k_or, ↓k_ilz, ↓k_addl, ↓k_rt, ↓k_rb, ↓k_rbz, ↓k_rsi, ↓k_rsr, ↓k_rsv, ↓reduceIte, ↓(k_cv1 dX2_headOf (t2 ho)), ↓cH1, ↓cH2, ↓s1, ↓s2, ↓cB, x2, g, w, ↓xr2_3 ho, ↓xa2_3 ho, ↓xs2_3 ho, ↓xo2_3 ho, ↓xc2_3 ho, ↓xd2_3 ho, ↓xr2_4 ho, ↓xa2_4 ho, ↓xs2_4 ho, ↓xo2_4 ho, ↓xc2_4 ho, ↓xd2_4 ho, ↓xr2_9 ho, ↓xa2_9 ho, ↓xs2_9 ho, ↓xo2_9 ho, ↓xc2_9 ho, ↓xd2_9 ho, List.length_cons, List.length_nil, List.forall_mem_cons, List.not_mem_nil, Value.category, true_and, and_true, false_and, and_false, or_true, true_or, or_false, false_or, Nat.zero_le, forall_const, implies_true, false_implies, Nat.zero_add, Nat.reduceAdd, Nat.reduceLT, Nat.reduceLeDiff, Nat.le_refl, not_true_eq_false, not_false_eq_true, r_eq, r_ne, r_lt, r_ge, r_gt, r_le, bz_ne, nn_toNat, cn_of, cn_0, cn_1, i10, Int.reduceLE, Int.reduceLT, Int.reduceEq, bz_T, bz_F, ite_self, mulc, st_bud]
end
