section
/-! kept: the set of holes -/
theorem gor16 (a b : Nat) : q_gior (zI (a : Int)) (zI (b : Int)) = zI ((a ||| b : Nat) : Int) := by
  show (Int32.ofInt (a : Int)) ||| (Int32.ofInt (b : Int)) = Int32.ofInt ((a ||| b : Nat) : Int)
  rw [show ∀ n : Nat, Int32.ofInt (n : Int) = Int32.ofNat n from fun n => rfl, show ∀ n : Nat, Int32.ofInt (n : Int) = Int32.ofNat n from fun n => rfl, show ∀ n : Nat, Int32.ofInt (n : Int) = Int32.ofNat n from fun n => rfl]
  apply Int32.toBitVec_inj.mp
  rw [Int32.toBitVec_or]
  exact (BitVec.ofNat_or ..).symm
theorem gshl16 : ∀ k : Fin 16, q_gishl (zI 1) (zI (k.val : Int)) = zI ((2 ^ k.val : Nat) : Int) := by decide +kernel
theorem k_gor16 {a b : Nat} {μ : q_M} {K : Int32 → q_M → Prop} : opK (q_gior (zI (a : Int)) (zI (b : Int))) μ K = K (zI ((a ||| b : Nat) : Int)) μ := by
  rw [gor16]
  rfl
theorem k_gor0 {a : Nat} {μ : q_M} {K : Int32 → q_M → Prop} : opK (q_gior (zI (a : Int)) (zI 0)) μ K = K (zI (a : Int)) μ := by
  have := gor16 a 0
  rw [Nat.or_zero] at this
  have e : zI ((0 : Nat) : Int) = zI 0 := rfl
  rw [e] at this
  rw [this]
  rfl
theorem k_gshl16 {x : Int} {μ : q_M} {K : Int32 → q_M → Prop} (h0 : 0 ≤ x) (h1 : x < 16) : opK (q_gishl (zI 1) (zI x)) μ K = K (zI ((2 ^ x.toNat : Nat) : Int)) μ := by
  have := gshl16 ⟨x.toNat, by omega⟩
  have e : x = ((x.toNat : Nat) : Int) := by omega
  show K (q_gishl (zI 1) (zI x)) μ = _
  rw [e, this]
  simp only [Int.toNat_natCast]
/-- the holes of the first P codes, as bits -/
def hsN (c : Int → Int) : Nat → Nat
  | 0 => 0
  | P + 1 => hsN c P ||| (if 200 ≤ c P ∧ c P < 216 then 2 ^ (c P - 200).toNat else 0)
theorem hsN_b (c : Int → Int) : ∀ P : Nat, hsN c P < 65536 := by
  intro P
  induction P with
  | zero => exact (by decide : 0 < 65536)
  | succ P ih =>
    rw [hsN, show 65536 = 2 ^ 16 from rfl]
    refine Nat.or_lt_two_pow ih ?_
    split
    · exact Nat.pow_lt_pow_right (by omega) (by omega)
    · exact Nat.two_pow_pos 16
theorem hsN_t (c : Int → Int) (h : Nat) : ∀ P : Nat, (hsN c P).testBit h = true ↔ h < 16 ∧ ∃ q : Nat, q < P ∧ c q = 200 + h := by
  intro P
  induction P with
  | zero =>
    rw [hsN, Nat.zero_testBit]
    exact ⟨fun z => absurd z (by decide), fun ⟨_, q, z, _⟩ => absurd z (by omega)⟩
  | succ P ih =>
    rw [hsN, Nat.testBit_or, Bool.or_eq_true, ih]
    by_cases g : 200 ≤ c P ∧ c P < 216
    · rw [if_pos g, Nat.testBit_two_pow, decide_eq_true_iff]
      constructor
      · rintro (⟨a, q, b, d⟩ | a)
        · exact ⟨a, q, by omega, d⟩
        · exact ⟨by omega, P, by omega, by omega⟩
      · rintro ⟨a, q, b, d⟩
        by_cases e : q = P
        · subst e
          exact Or.inr (by omega)
        · exact Or.inl ⟨a, q, by omega, d⟩
    · rw [if_neg g, Nat.zero_testBit]
      constructor
      · rintro (⟨a, q, b, d⟩ | a)
        · exact ⟨a, q, by omega, d⟩
        · exact absurd a (by decide)
      · rintro ⟨a, q, b, d⟩
        by_cases e : q = P
        · subst e
          exact absurd (show 200 ≤ c q ∧ c q < 216 by omega) g
        · exact Or.inl ⟨a, q, by omega, d⟩
theorem c10_holesIn {T : Nat → Option q_T} {nx a : Nat} {R : Nat → Nat → Option Value} {G : Nat → Int → Int} {n : Nat} (hA : Ly T R a (L9 a)) (h2 : G a 2 = (n : Int)) (n201 : n ≤ 201) (cb : ∀ q : Int, 0 ≤ q → q < (n : Int) → 20 ≤ G (a + 1) q ∧ G (a + 1) q ≤ 1013) (K : Option Value → q_M → Prop) : fX10_holesIn [.ref a] (st T nx 0 0 R G) K = K (some (.int (zI (hsN (G (a + 1)) n : Nat)))) (st T nx 0 0 R G) := by
  have lw : ∀ (Kn : List Value → q_M → Prop) (Kr : Option Value → q_M → Prop), wX10_holesIn_0 [.ref a, .int (zI 0), .int (zI 0)] (st T nx 0 0 R G) Kn Kr = Kn [.ref a, .int (zI (hsN (G (a + 1)) n : Nat)), .int (zI n)] (st T nx 0 0 R G) := q_for eX10_holesIn_0 (fun _ _ => lX10_holesIn_0) (fun k => [.ref a, .int (zI (hsN (G (a + 1)) k : Nat)), .int (zI k)]) (fun _ => st T nx 0 0 R G) n (fun k hk Kn Kf hh => by
    have b := cb k (by omega) (by omega)
    have hk2 : (k : Int) < n := by omega
    have k201 : (k : Int) < 201 := by omega
    have sb := hsN_b (G (a + 1)) k
    obtain ⟨S, hS⟩ : ∃ S, S = hsN (G (a + 1)) k := ⟨_, rfl⟩
    obtain ⟨cc, hcc⟩ : ∃ cc, cc = G (a + 1) k := ⟨_, rfl⟩
    have e : hsN (G (a + 1)) (k + 1) = S ||| (if 200 ≤ cc ∧ cc < 216 then 2 ^ (cc - 200).toNat else 0) := by rw [hsN, hS, hcc]
    rw [e] at hh
    show wcX10_holesIn_0 [.ref a, .int (zI (hsN (G (a + 1)) k : Nat)), .int (zI k)] (st T nx 0 0 R G) _ _
    rw [← hS] at sb ⊢
    rw [← hcc] at b
    have hcc' := hcc.symm
    have one : ¬ (1 : Int) = 0 := by omega
    have is : (((k + 1 : Nat)) : Int) = (k : Int) + 1 := by omega
    rw [is] at hh
    clear e hS hcc cb
    by_cases g : 200 ≤ cc ∧ cc < 216
    · rw [if_pos g] at hh
      have bzt : bz (200 ≤ cc ∧ cc < 216) = 1 := bz_t g
      obtain ⟨g1, g2⟩ := g
      simp (disch := omega) only [↓wcX10_holesIn_0.eq_1, ↓wsX10_holesIn_0.eq_1, ↓(k_cs1 dX11_isHole), ↓k_mk, ↓k_sq, ↓k_sk, ↓k_bk, ↓k_if, ↓k_te, ↓k_cm, ↓k_cz, ↓k_an2, ↓k_or2, ↓k_no, ↓k_ci, ↓k_l0, ↓k_r0, ↓k_se0, ↓k_ic0, ↓k_l1, ↓k_r1, ↓k_se1, ↓k_ic1, ↓k_de1, ↓k_tk1, ↓k_l2, ↓k_r2, ↓k_se2, ↓k_ic2, ↓k_de2, ↓k_tk2, ↓k_l3, ↓k_r3, ↓k_se3, ↓k_ic3, ↓k_de3, ↓k_tk3, ↓k_l4, ↓k_r4, ↓k_se4, ↓k_ic4, ↓k_de4, ↓k_tk4, ↓k_l5, ↓k_r5, ↓k_se5, ↓k_ic5, ↓k_de5, ↓k_tk5, ↓k_l6, ↓k_r6, ↓k_se6, ↓k_ic6, ↓k_de6, ↓k_tk6, ↓k_l7, ↓k_r7, ↓k_se7, ↓k_ic7, ↓k_de7, ↓k_tk7, ↓k_l8, ↓k_r8, ↓k_se8, ↓k_ic8, ↓k_de8, ↓k_tk8, ↓k_l9, ↓k_r9, ↓k_se9, ↓k_ic9, ↓k_de9, ↓k_tk9, ↓k_l10, ↓k_r10, ↓k_se10, ↓k_ic10, ↓k_de10, ↓k_tk10, ↓k_l11, ↓k_r11, ↓k_se11, ↓k_ic11, ↓k_de11, ↓k_tk11, ↓k_l12, ↓k_r12, ↓k_se12, ↓k_ic12, ↓k_de12, ↓k_tk12, ↓k_l13, ↓k_r13, ↓k_se13, ↓k_ic13, ↓k_de13, ↓k_tk13, ↓k_l14, ↓k_r14, ↓k_se14, ↓k_ic14, ↓k_de14, ↓k_tk14, ↓k_l15, ↓k_r15, ↓k_se15, ↓k_ic15, ↓k_de15, ↓k_tk15, ↓k_l16, ↓k_r16, ↓k_se16, ↓k_ic16, ↓k_de16, ↓k_tk16, ↓k_l17, ↓k_r17, ↓k_se17, ↓k_ic17, ↓k_de17, ↓k_tk17, ↓k_l18, ↓k_r18, ↓k_se18, ↓k_ic18, ↓k_de18, ↓k_tk18, ↓k_l19, ↓k_r19, ↓k_se19, ↓k_ic19, ↓k_de19, ↓k_tk19, ↓k_l20, ↓k_r20, ↓k_se20, ↓k_ic20, ↓k_de20, ↓k_tk20, ↓k_l21, ↓k_r21, ↓k_se21, ↓k_ic21, ↓k_de21, ↓k_tk21, ↓k_l22, ↓k_r22, ↓k_se22, ↓k_ic22, ↓k_de22, ↓k_tk22, ↓k_l23, ↓k_r23, ↓k_se23, ↓k_ic23, ↓k_de23, ↓k_tk23, ↓k_l24, ↓k_r24, ↓k_se24, ↓k_ic24, ↓k_de24, ↓k_tk24, ↓k_l25, ↓k_r25, ↓k_se25, ↓k_ic25, ↓k_de25, ↓k_tk25, ↓k_k, ↓k_kn, ↓k_kl, ↓k_kln, ↓k_il, ↓k_2, ↓k_1, ↓k_2c, ↓k_2l, ↓k_ac, ↓k_an, ↓k_cs, ↓k_cv, ↓k_fi, ↓k_fr, ↓k_ai, ↓k_az, ↓k_ar, ↓k_sai, ↓k_saz, ↓k_soa, ↓k_sof, ↓k_spf, ↓k_sx, ↓k_blk, ↓k_sset, ↓k_sdec, ↓k_sri, ↓k_srv, ↓k_srr, ↓k_nop, ↓k_add, ↓k_sub, ↓k_mul, ↓k_min, ↓k_max, ↓k_shr, ↓k_ilz, ↓k_addl, ↓k_rt, ↓k_rb, ↓k_rbz, ↓k_rsi, ↓k_rsr, ↓k_rsv, ↓reduceIte, h2, hk2, hcc', one, bzt, ↓(k_cs1 dX11_isHole), ↓c11_isHole, ↓k_gshl16, ↓k_gor16, ↓xi9_2 hA, ↓xp9_2 hA, ↓xb9_2 hA, ↓xf9_2 hA, ↓xg9_2 hA, ↓xh9_2 hA, ↓xr9_5 hA, ↓xa9_5 hA, ↓xs9_5 hA, ↓xo9_5 hA, ↓xc9_5 hA, ↓xd9_5 hA, List.length_cons, List.length_nil, List.forall_mem_cons, List.not_mem_nil, Value.category, true_and, and_true, false_and, and_false, or_true, true_or, or_false, false_or, Nat.zero_le, forall_const, implies_true, false_implies, Nat.zero_add, Nat.reduceAdd, Nat.reduceLT, Nat.reduceLeDiff, Nat.le_refl, not_true_eq_false, not_false_eq_true, r_eq, r_ne, r_lt, r_ge, r_gt, r_le, bz_ne, nn_toNat, cn_of, cn_0, cn_1, i10, Int.reduceLE, Int.reduceLT, Int.reduceEq, bz_T, bz_F, ite_self, mulc, st_bud]
      exact hh
    · rw [if_neg g, Nat.or_zero] at hh
      have bzf : bz (200 ≤ cc ∧ cc < 216) = 0 := bz_f g
      simp (disch := omega) only [↓wcX10_holesIn_0.eq_1, ↓wsX10_holesIn_0.eq_1, ↓(k_cs1 dX11_isHole), ↓k_mk, ↓k_sq, ↓k_sk, ↓k_bk, ↓k_if, ↓k_te, ↓k_cm, ↓k_cz, ↓k_an2, ↓k_or2, ↓k_no, ↓k_ci, ↓k_l0, ↓k_r0, ↓k_se0, ↓k_ic0, ↓k_l1, ↓k_r1, ↓k_se1, ↓k_ic1, ↓k_de1, ↓k_tk1, ↓k_l2, ↓k_r2, ↓k_se2, ↓k_ic2, ↓k_de2, ↓k_tk2, ↓k_l3, ↓k_r3, ↓k_se3, ↓k_ic3, ↓k_de3, ↓k_tk3, ↓k_l4, ↓k_r4, ↓k_se4, ↓k_ic4, ↓k_de4, ↓k_tk4, ↓k_l5, ↓k_r5, ↓k_se5, ↓k_ic5, ↓k_de5, ↓k_tk5, ↓k_l6, ↓k_r6, ↓k_se6, ↓k_ic6, ↓k_de6, ↓k_tk6, ↓k_l7, ↓k_r7, ↓k_se7, ↓k_ic7, ↓k_de7, ↓k_tk7, ↓k_l8, ↓k_r8, ↓k_se8, ↓k_ic8, ↓k_de8, ↓k_tk8, ↓k_l9, ↓k_r9, ↓k_se9, ↓k_ic9, ↓k_de9, ↓k_tk9, ↓k_l10, ↓k_r10, ↓k_se10, ↓k_ic10, ↓k_de10, ↓k_tk10, ↓k_l11, ↓k_r11, ↓k_se11, ↓k_ic11, ↓k_de11, ↓k_tk11, ↓k_l12, ↓k_r12, ↓k_se12, ↓k_ic12, ↓k_de12, ↓k_tk12, ↓k_l13, ↓k_r13, ↓k_se13, ↓k_ic13, ↓k_de13, ↓k_tk13, ↓k_l14, ↓k_r14, ↓k_se14, ↓k_ic14, ↓k_de14, ↓k_tk14, ↓k_l15, ↓k_r15, ↓k_se15, ↓k_ic15, ↓k_de15, ↓k_tk15, ↓k_l16, ↓k_r16, ↓k_se16, ↓k_ic16, ↓k_de16, ↓k_tk16, ↓k_l17, ↓k_r17, ↓k_se17, ↓k_ic17, ↓k_de17, ↓k_tk17, ↓k_l18, ↓k_r18, ↓k_se18, ↓k_ic18, ↓k_de18, ↓k_tk18, ↓k_l19, ↓k_r19, ↓k_se19, ↓k_ic19, ↓k_de19, ↓k_tk19, ↓k_l20, ↓k_r20, ↓k_se20, ↓k_ic20, ↓k_de20, ↓k_tk20, ↓k_l21, ↓k_r21, ↓k_se21, ↓k_ic21, ↓k_de21, ↓k_tk21, ↓k_l22, ↓k_r22, ↓k_se22, ↓k_ic22, ↓k_de22, ↓k_tk22, ↓k_l23, ↓k_r23, ↓k_se23, ↓k_ic23, ↓k_de23, ↓k_tk23, ↓k_l24, ↓k_r24, ↓k_se24, ↓k_ic24, ↓k_de24, ↓k_tk24, ↓k_l25, ↓k_r25, ↓k_se25, ↓k_ic25, ↓k_de25, ↓k_tk25, ↓k_k, ↓k_kn, ↓k_kl, ↓k_kln, ↓k_il, ↓k_2, ↓k_1, ↓k_2c, ↓k_2l, ↓k_ac, ↓k_an, ↓k_cs, ↓k_cv, ↓k_fi, ↓k_fr, ↓k_ai, ↓k_az, ↓k_ar, ↓k_sai, ↓k_saz, ↓k_soa, ↓k_sof, ↓k_spf, ↓k_sx, ↓k_blk, ↓k_sset, ↓k_sdec, ↓k_sri, ↓k_srv, ↓k_srr, ↓k_nop, ↓k_add, ↓k_sub, ↓k_mul, ↓k_min, ↓k_max, ↓k_shr, ↓k_ilz, ↓k_addl, ↓k_rt, ↓k_rb, ↓k_rbz, ↓k_rsi, ↓k_rsr, ↓k_rsv, ↓reduceIte, h2, hk2, hcc', bzf, ↓(k_cs1 dX11_isHole), ↓c11_isHole, ↓k_gshl16, ↓k_gor16, ↓k_gor0, ↓xi9_2 hA, ↓xp9_2 hA, ↓xb9_2 hA, ↓xf9_2 hA, ↓xg9_2 hA, ↓xh9_2 hA, ↓xr9_5 hA, ↓xa9_5 hA, ↓xs9_5 hA, ↓xo9_5 hA, ↓xc9_5 hA, ↓xd9_5 hA, List.length_cons, List.length_nil, List.forall_mem_cons, List.not_mem_nil, Value.category, true_and, and_true, false_and, and_false, or_true, true_or, or_false, false_or, Nat.zero_le, forall_const, implies_true, false_implies, Nat.zero_add, Nat.reduceAdd, Nat.reduceLT, Nat.reduceLeDiff, Nat.le_refl, not_true_eq_false, not_false_eq_true, r_eq, r_ne, r_lt, r_ge, r_gt, r_le, bz_ne, nn_toNat, cn_of, cn_0, cn_1, i10, Int.reduceLE, Int.reduceLT, Int.reduceEq, bz_T, bz_F, ite_self, mulc, st_bud]
      exact hh) (fun Kt Kf hh => by
    have hz : ¬ (n : Int) < n := by omega
    have n0 : 0 ≤ (n : Int) ∧ (n : Int) ≤ 201 := by omega
    show wcX10_holesIn_0 [.ref a, .int (zI (hsN (G (a + 1)) n : Nat)), .int (zI n)] (st T nx 0 0 R G) Kt Kf
    obtain ⟨S, hS⟩ : ∃ S, S = hsN (G (a + 1)) n := ⟨_, rfl⟩
    obtain ⟨Z, hZ⟩ : ∃ Z, Z = (n : Int) := ⟨_, rfl⟩
    rw [← hZ] at h2 hz n0
    rw [← hS]
    rw [← hZ]
    clear hS hZ cb
    simp (disch := omega) only [↓wcX10_holesIn_0.eq_1, ↓k_mk, ↓k_sq, ↓k_sk, ↓k_bk, ↓k_if, ↓k_te, ↓k_cm, ↓k_cz, ↓k_an2, ↓k_or2, ↓k_no, ↓k_ci, ↓k_l0, ↓k_r0, ↓k_se0, ↓k_ic0, ↓k_l1, ↓k_r1, ↓k_se1, ↓k_ic1, ↓k_de1, ↓k_tk1, ↓k_l2, ↓k_r2, ↓k_se2, ↓k_ic2, ↓k_de2, ↓k_tk2, ↓k_l3, ↓k_r3, ↓k_se3, ↓k_ic3, ↓k_de3, ↓k_tk3, ↓k_l4, ↓k_r4, ↓k_se4, ↓k_ic4, ↓k_de4, ↓k_tk4, ↓k_l5, ↓k_r5, ↓k_se5, ↓k_ic5, ↓k_de5, ↓k_tk5, ↓k_l6, ↓k_r6, ↓k_se6, ↓k_ic6, ↓k_de6, ↓k_tk6, ↓k_l7, ↓k_r7, ↓k_se7, ↓k_ic7, ↓k_de7, ↓k_tk7, ↓k_l8, ↓k_r8, ↓k_se8, ↓k_ic8, ↓k_de8, ↓k_tk8, ↓k_l9, ↓k_r9, ↓k_se9, ↓k_ic9, ↓k_de9, ↓k_tk9, ↓k_l10, ↓k_r10, ↓k_se10, ↓k_ic10, ↓k_de10, ↓k_tk10, ↓k_l11, ↓k_r11, ↓k_se11, ↓k_ic11, ↓k_de11, ↓k_tk11, ↓k_l12, ↓k_r12, ↓k_se12, ↓k_ic12, ↓k_de12, ↓k_tk12, ↓k_l13, ↓k_r13, ↓k_se13, ↓k_ic13, ↓k_de13, ↓k_tk13, ↓k_l14, ↓k_r14, ↓k_se14, ↓k_ic14, ↓k_de14, ↓k_tk14, ↓k_l15, ↓k_r15, ↓k_se15, ↓k_ic15, ↓k_de15, ↓k_tk15, ↓k_l16, ↓k_r16, ↓k_se16, ↓k_ic16, ↓k_de16, ↓k_tk16, ↓k_l17, ↓k_r17, ↓k_se17, ↓k_ic17, ↓k_de17, ↓k_tk17, ↓k_l18, ↓k_r18, ↓k_se18, ↓k_ic18, ↓k_de18, ↓k_tk18, ↓k_l19, ↓k_r19, ↓k_se19, ↓k_ic19, ↓k_de19, ↓k_tk19, ↓k_l20, ↓k_r20, ↓k_se20, ↓k_ic20, ↓k_de20, ↓k_tk20, ↓k_l21, ↓k_r21, ↓k_se21, ↓k_ic21, ↓k_de21, ↓k_tk21, ↓k_l22, ↓k_r22, ↓k_se22, ↓k_ic22, ↓k_de22, ↓k_tk22, ↓k_l23, ↓k_r23, ↓k_se23, ↓k_ic23, ↓k_de23, ↓k_tk23, ↓k_l24, ↓k_r24, ↓k_se24, ↓k_ic24, ↓k_de24, ↓k_tk24, ↓k_l25, ↓k_r25, ↓k_se25, ↓k_ic25, ↓k_de25, ↓k_tk25, ↓k_k, ↓k_kn, ↓k_kl, ↓k_kln, ↓k_il, ↓k_2, ↓k_1, ↓k_2c, ↓k_2l, ↓k_ac, ↓k_an, ↓k_cs, ↓k_cv, ↓k_fi, ↓k_fr, ↓k_ai, ↓k_az, ↓k_ar, ↓k_sai, ↓k_saz, ↓k_soa, ↓k_sof, ↓k_spf, ↓k_sx, ↓k_blk, ↓k_sset, ↓k_sdec, ↓k_sri, ↓k_srv, ↓k_srr, ↓k_nop, ↓k_add, ↓k_sub, ↓k_mul, ↓k_min, ↓k_max, ↓k_shr, ↓k_shl, ↓k_or, ↓k_ilz, ↓k_addl, ↓k_rt, ↓k_rb, ↓k_rbz, ↓k_rsi, ↓k_rsr, ↓k_rsv, ↓reduceIte, h2, hz, ↓xi9_2 hA, ↓xp9_2 hA, ↓xb9_2 hA, ↓xf9_2 hA, ↓xg9_2 hA, ↓xh9_2 hA, List.length_cons, List.length_nil, List.forall_mem_cons, List.not_mem_nil, Value.category, true_and, and_true, false_and, and_false, or_true, true_or, or_false, false_or, Nat.zero_le, forall_const, implies_true, false_implies, Nat.zero_add, Nat.reduceAdd, Nat.reduceLT, Nat.reduceLeDiff, Nat.le_refl, not_true_eq_false, not_false_eq_true, r_eq, r_ne, r_lt, r_ge, r_gt, r_le, bz_ne, nn_toNat, cn_of, cn_0, cn_1, i10, Int.reduceLE, Int.reduceLT, Int.reduceEq, bz_T, bz_F, ite_self, mulc, st_bud]
    exact hh)
  simp (disch := omega) only [↓fX10_holesIn.eq_1, ↓uX10_holesIn, ↓k_mk, ↓k_sq, ↓k_sk, ↓k_bk, ↓k_if, ↓k_te, ↓k_cm, ↓k_cz, ↓k_an2, ↓k_or2, ↓k_no, ↓k_ci, ↓k_l0, ↓k_r0, ↓k_se0, ↓k_ic0, ↓k_l1, ↓k_r1, ↓k_se1, ↓k_ic1, ↓k_de1, ↓k_tk1, ↓k_l2, ↓k_r2, ↓k_se2, ↓k_ic2, ↓k_de2, ↓k_tk2, ↓k_l3, ↓k_r3, ↓k_se3, ↓k_ic3, ↓k_de3, ↓k_tk3, ↓k_l4, ↓k_r4, ↓k_se4, ↓k_ic4, ↓k_de4, ↓k_tk4, ↓k_l5, ↓k_r5, ↓k_se5, ↓k_ic5, ↓k_de5, ↓k_tk5, ↓k_l6, ↓k_r6, ↓k_se6, ↓k_ic6, ↓k_de6, ↓k_tk6, ↓k_l7, ↓k_r7, ↓k_se7, ↓k_ic7, ↓k_de7, ↓k_tk7, ↓k_l8, ↓k_r8, ↓k_se8, ↓k_ic8, ↓k_de8, ↓k_tk8, ↓k_l9, ↓k_r9, ↓k_se9, ↓k_ic9, ↓k_de9, ↓k_tk9, ↓k_l10, ↓k_r10, ↓k_se10, ↓k_ic10, ↓k_de10, ↓k_tk10, ↓k_l11, ↓k_r11, ↓k_se11, ↓k_ic11, ↓k_de11, ↓k_tk11, ↓k_l12, ↓k_r12, ↓k_se12, ↓k_ic12, ↓k_de12, ↓k_tk12, ↓k_l13, ↓k_r13, ↓k_se13, ↓k_ic13, ↓k_de13, ↓k_tk13, ↓k_l14, ↓k_r14, ↓k_se14, ↓k_ic14, ↓k_de14, ↓k_tk14, ↓k_l15, ↓k_r15, ↓k_se15, ↓k_ic15, ↓k_de15, ↓k_tk15, ↓k_l16, ↓k_r16, ↓k_se16, ↓k_ic16, ↓k_de16, ↓k_tk16, ↓k_l17, ↓k_r17, ↓k_se17, ↓k_ic17, ↓k_de17, ↓k_tk17, ↓k_l18, ↓k_r18, ↓k_se18, ↓k_ic18, ↓k_de18, ↓k_tk18, ↓k_l19, ↓k_r19, ↓k_se19, ↓k_ic19, ↓k_de19, ↓k_tk19, ↓k_l20, ↓k_r20, ↓k_se20, ↓k_ic20, ↓k_de20, ↓k_tk20, ↓k_l21, ↓k_r21, ↓k_se21, ↓k_ic21, ↓k_de21, ↓k_tk21, ↓k_l22, ↓k_r22, ↓k_se22, ↓k_ic22, ↓k_de22, ↓k_tk22, ↓k_l23, ↓k_r23, ↓k_se23, ↓k_ic23, ↓k_de23, ↓k_tk23, ↓k_l24, ↓k_r24, ↓k_se24, ↓k_ic24, ↓k_de24, ↓k_tk24, ↓k_l25, ↓k_r25, ↓k_se25, ↓k_ic25, ↓k_de25, ↓k_tk25, ↓k_k, ↓k_kn, ↓k_kl, ↓k_kln, ↓k_il, ↓k_2, ↓k_1, ↓k_2c, ↓k_2l, ↓k_ac, ↓k_an, ↓k_cs, ↓k_cv, ↓k_fi, ↓k_fr, ↓k_ai, ↓k_az, ↓k_ar, ↓k_sai, ↓k_saz, ↓k_soa, ↓k_sof, ↓k_spf, ↓k_sx, ↓k_blk, ↓k_sset, ↓k_sdec, ↓k_sri, ↓k_srv, ↓k_srr, ↓k_nop, ↓k_add, ↓k_sub, ↓k_mul, ↓k_min, ↓k_max, ↓k_shr, ↓k_shl, ↓k_or, ↓k_ilz, ↓k_addl, ↓k_rt, ↓k_rb, ↓k_rbz, ↓k_rsi, ↓k_rsr, ↓k_rsv, ↓reduceIte, ↓lw, List.length_cons, List.length_nil, List.forall_mem_cons, List.not_mem_nil, Value.category, true_and, and_true, false_and, and_false, or_true, true_or, or_false, false_or, Nat.zero_le, forall_const, implies_true, false_implies, Nat.zero_add, Nat.reduceAdd, Nat.reduceLT, Nat.reduceLeDiff, Nat.le_refl, not_true_eq_false, not_false_eq_true, r_eq, r_ne, r_lt, r_ge, r_gt, r_le, bz_ne, nn_toNat, cn_of, cn_0, cn_1, i10, Int.reduceLE, Int.reduceLT, Int.reduceEq, bz_T, bz_F, ite_self, mulc, st_bud]
end
