section
/-! the i-th that stands -/
theorem Cnt_mono {S : Nat → Prop} {k c : Nat} (h : Cnt S k c) : ∀ (d : Nat) (i : Nat), Cnt S (k + d) i → c ≤ i ∧ (d = 0 → c = i) := by
  intro d
  induction d with
  | zero =>
    intro i w
    have un : ∀ k c i, Cnt S k c → Cnt S k i → c = i := by
      intro k
      induction k with
      | zero => intro c i a b; have a : c = 0 := a; have b : i = 0 := b; omega
      | succ k ih =>
        intro c i a b
        rcases a with ⟨a, c1, e1, a1⟩ | ⟨a, a1⟩
        · rcases b with ⟨b, c2, e2, b1⟩ | ⟨b, b1⟩
          · have := ih c1 c2 a1 b1
            omega
          · exact absurd a b
        · rcases b with ⟨b, c2, e2, b1⟩ | ⟨b, b1⟩
          · exact absurd b a
          · exact ih c i a1 b1
    have := un k c i h w
    exact ⟨by omega, fun _ => this⟩
  | succ d ih =>
    intro i w
    rcases w with ⟨_, c', e, w⟩ | ⟨_, w⟩
    · have := (ih c' w).1
      exact ⟨by omega, fun z => absurd z (by omega)⟩
    · have := (ih i w).1
      exact ⟨by omega, fun z => absurd z (by omega)⟩
theorem bl_lt {bl : Nat → Nat} {b : Nat} (h : ∀ t, t + 1 < b → bl t < bl (t + 1)) : ∀ (d s : Nat), s + d + 1 < b → bl s < bl (s + d + 1) := by
  intro d
  induction d with
  | zero => intro s q; exact h s q
  | succ d ih =>
    intro s q
    have a := ih s (by omega)
    have b := h (s + d + 1) (by omega)
    show bl s < bl (s + d + 1 + 1)
    omega
theorem Cnt_bl {bl : Nat → Nat} {b : Nat} (h : ∀ t, t + 1 < b → bl t < bl (t + 1)) : ∀ k : Nat, ∃ c, Cnt (Bl bl b) k c ∧ c ≤ b ∧ ∀ t, t < b → (bl t < k ↔ t < c) := by
  have lt : ∀ s t, s < t → t < b → bl s < bl t := fun s t q r => by
    have := bl_lt h (t - s - 1) s (by omega)
    rw [show s + (t - s - 1) + 1 = t by omega] at this
    exact this
  intro k
  induction k with
  | zero => exact ⟨0, rfl, by omega, fun t _ => ⟨fun w => by omega, fun w => by omega⟩⟩
  | succ k ih =>
    obtain ⟨c, c1, c2, c3⟩ := ih
    by_cases g : Bl bl b k
    · obtain ⟨t, t1, t2⟩ := g
      have g1 : ¬ t < c := fun w => by have := (c3 t t1).mpr w; omega
      have g2 : ¬ c < t := fun w => by
        have a := lt c t w t1
        have := (c3 c (by omega)).mp (by omega)
        omega
      have e : t = c := by omega
      refine ⟨c + 1, Or.inl ⟨⟨t, t1, t2⟩, c, rfl, c1⟩, by omega, fun s hs => ?_⟩
      have q := c3 s hs
      by_cases z : s = c
      · rw [z, ← e, t2]
        exact ⟨fun _ => by omega, fun _ => by omega⟩
      · by_cases z2 : s < c
        · have := q.mpr z2
          exact ⟨fun _ => by omega, fun _ => by omega⟩
        · have := lt c s (by omega) hs
          rw [← e, t2] at this
          exact ⟨fun _ => by omega, fun _ => by omega⟩
    · refine ⟨c, Or.inr ⟨g, c1⟩, c2, fun s hs => ?_⟩
      have q := c3 s hs
      have ne : ¬ bl s = k := fun z => g ⟨s, hs, z⟩
      exact ⟨fun w => q.mp (by omega), fun w => by have := q.mpr w; omega⟩
theorem c12_blame {T : Nat → Option q_T} {nx B H i j : Nat} {R : Nat → Nat → Option Value} {G : Nat → Int → Int} {S : Nat → Prop} (hM : Ly T R (B + 544) (L12 (B + 544))) (h84 : G (B + 544) 84 = H) (hH : H ≤ 420) (lg : LGo G B H S) (hj : j < H) (sj : S j) (cj : Cnt S j i) (K : Option Value → q_M → Prop) :
    fX12_blame [.ref (B + 544), .int (zI i)] (st T nx 0 0 R G) K = K (some (.int (zI (G (B + 544 + 72) j)))) (st T nx 0 0 R G) := by
  have ij := Cnt_le j i cj
  have key : ∀ d k : Nat, k + d = j → ∀ c : Nat, Cnt S k c → q_wh wcX12_blame_0 wsX12_blame_0 [.ref (B + 544), .int (zI i), .int (zI ((i : Int) - c)), .int (zI k)] (st T nx 0 0 R G) (fun _ _ => False) (fun r m => r = some (.int (zI (G (B + 544 + 72) j))) ∧ m = st T nx 0 0 R G) := by
    intro d
    induction d with
    | zero =>
      intro k hk c cn
      have e : k = j := by omega
      subst e
      have e2 := (Cnt_mono cn 0 i cj).2 rfl
      have e3 : (i : Int) - c = 0 := by omega
      rw [e3]
      have hz : (k : Int) < H := by omega
      have kb : (k : Int) < 420 := by omega
      rcases lg k hj with ⟨q1, _⟩ | ⟨_, q2⟩
      · refine q_rtn1 (fun K Kf => ?_)
        simp (disch := omega) only [↓wcX12_blame_0.eq_1, ↓wsX12_blame_0.eq_1, ↓k_mk, ↓k_sq, ↓k_sk, ↓k_bk, ↓k_if, ↓k_te, ↓k_cm, ↓k_cz, ↓k_an2, ↓k_or2, ↓k_no, ↓k_ci, ↓k_l0, ↓k_r0, ↓k_se0, ↓k_ic0, ↓k_l1, ↓k_r1, ↓k_se1, ↓k_ic1, ↓k_de1, ↓k_tk1, ↓k_l2, ↓k_r2, ↓k_se2, ↓k_ic2, ↓k_de2, ↓k_tk2, ↓k_l3, ↓k_r3, ↓k_se3, ↓k_ic3, ↓k_de3, ↓k_tk3, ↓k_l4, ↓k_r4, ↓k_se4, ↓k_ic4, ↓k_de4, ↓k_tk4, ↓k_l5, ↓k_r5, ↓k_se5, ↓k_ic5, ↓k_de5, ↓k_tk5, ↓k_l6, ↓k_r6, ↓k_se6, ↓k_ic6, ↓k_de6, ↓k_tk6, ↓k_l7, ↓k_r7, ↓k_se7, ↓k_ic7, ↓k_de7, ↓k_tk7, ↓k_l8, ↓k_r8, ↓k_se8, ↓k_ic8, ↓k_de8, ↓k_tk8, ↓k_l9, ↓k_r9, ↓k_se9, ↓k_ic9, ↓k_de9, ↓k_tk9, ↓k_l10, ↓k_r10, ↓k_se10, ↓k_ic10, ↓k_de10, ↓k_tk10, ↓k_l11, ↓k_r11, ↓k_se11, ↓k_ic11, ↓k_de11, ↓k_tk11, ↓k_l12, ↓k_r12, ↓k_se12, ↓k_ic12, ↓k_de12, ↓k_tk12, ↓k_l13, ↓k_r13, ↓k_se13, ↓k_ic13, ↓k_de13, ↓k_tk13, ↓k_l14, ↓k_r14, ↓k_se14, ↓k_ic14, ↓k_de14, ↓k_tk14, ↓k_l15, ↓k_r15, ↓k_se15, ↓k_ic15, ↓k_de15, ↓k_tk15, ↓k_l16, ↓k_r16, ↓k_se16, ↓k_ic16, ↓k_de16, ↓k_tk16, ↓k_l17, ↓k_r17, ↓k_se17, ↓k_ic17, ↓k_de17, ↓k_tk17, ↓k_l18, ↓k_r18, ↓k_se18, ↓k_ic18, ↓k_de18, ↓k_tk18, ↓k_l19, ↓k_r19, ↓k_se19, ↓k_ic19, ↓k_de19, ↓k_tk19, ↓k_l20, ↓k_r20, ↓k_se20, ↓k_ic20, ↓k_de20, ↓k_tk20, ↓k_l21, ↓k_r21, ↓k_se21, ↓k_ic21, ↓k_de21, ↓k_tk21, ↓k_l22, ↓k_r22, ↓k_se22, ↓k_ic22, ↓k_de22, ↓k_tk22, ↓k_l23, ↓k_r23, ↓k_se23, ↓k_ic23, ↓k_de23, ↓k_tk23, ↓k_l24, ↓k_r24, ↓k_se24, ↓k_ic24, ↓k_de24, ↓k_tk24, ↓k_l25, ↓k_r25, ↓k_se25, ↓k_ic25, ↓k_de25, ↓k_tk25, ↓k_k, ↓k_kn, ↓k_kl, ↓k_kln, ↓k_il, ↓k_2, ↓k_1, ↓k_2c, ↓k_2l, ↓k_ac, ↓k_an, ↓k_cs, ↓k_cv, ↓k_fi, ↓k_fr, ↓k_ai, ↓k_az, ↓k_ar, ↓k_sai, ↓k_saz, ↓k_soa, ↓k_sof, ↓k_spf, ↓k_sx, ↓k_blk, ↓k_sset, ↓k_sdec, ↓k_sri, ↓k_srv, ↓k_srr, ↓k_nop, ↓k_add, ↓k_sub, ↓k_mul, ↓k_min, ↓k_max, ↓k_shr, ↓k_shl, ↓k_or, ↓k_ilz, ↓k_addl, ↓k_rt, ↓k_rb, ↓k_rbz, ↓k_rsi, ↓k_rsr, ↓k_rsv, ↓reduceIte, hz, h84, q1, eq_self, ↓xi12_84 hM, ↓xp12_84 hM, ↓xb12_84 hM, ↓xf12_84 hM, ↓xg12_84 hM, ↓xh12_84 hM, ↓xr12_88 hM, ↓xa12_88 hM, ↓xs12_88 hM, ↓xo12_88 hM, ↓xc12_88 hM, ↓xd12_88 hM, ↓xr12_89 hM, ↓xa12_89 hM, ↓xs12_89 hM, List.length_cons, List.length_nil, List.forall_mem_cons, List.not_mem_nil, Value.category, true_and, and_true, false_and, and_false, or_true, true_or, or_false, false_or, Nat.zero_le, forall_const, implies_true, false_implies, Nat.zero_add, Nat.reduceAdd, Nat.reduceLT, Nat.reduceLeDiff, Nat.le_refl, not_true_eq_false, not_false_eq_true, r_eq, r_ne, r_lt, r_ge, r_gt, r_le, bz_ne, nn_toNat, cn_of, cn_0, cn_1, i10, Int.reduceLE, Int.reduceLT, Int.reduceEq, bz_T, bz_F, ite_self, mulc, st_bud]
      · exact absurd sj q2
    | succ d ih =>
      intro k hk c cn
      have hz : (k : Int) < H := by omega
      have kb : (k : Int) < 420 := by omega
      have kc := Cnt_le k c cn
      rcases lg k (by omega) with ⟨q1, q2⟩ | ⟨q1, q2⟩
      · have cn' : Cnt S (k + 1) (c + 1) := Or.inl ⟨q2, c, rfl, cn⟩
        have := (Cnt_mono cn' d i (by rw [show k + 1 + d = j by omega]; exact cj)).1
        have p := ih (k + 1) (by omega) (c + 1) cn'
        obtain ⟨le, hle⟩ : ∃ le, le = (i : Int) - c := ⟨_, rfl⟩
        have el : (i : Int) - ((c + 1 : Nat) : Int) = le + -1 := by omega
        rw [el] at p
        rw [← hle]
        have l0 : ¬ le = 0 := by omega
        refine q_backR (fun K Kf h => ?_) p
        simp (disch := omega) only [↓wcX12_blame_0.eq_1, ↓wsX12_blame_0.eq_1, ↓k_mk, ↓k_sq, ↓k_sk, ↓k_bk, ↓k_if, ↓k_te, ↓k_cm, ↓k_cz, ↓k_an2, ↓k_or2, ↓k_no, ↓k_ci, ↓k_l0, ↓k_r0, ↓k_se0, ↓k_ic0, ↓k_l1, ↓k_r1, ↓k_se1, ↓k_ic1, ↓k_de1, ↓k_tk1, ↓k_l2, ↓k_r2, ↓k_se2, ↓k_ic2, ↓k_de2, ↓k_tk2, ↓k_l3, ↓k_r3, ↓k_se3, ↓k_ic3, ↓k_de3, ↓k_tk3, ↓k_l4, ↓k_r4, ↓k_se4, ↓k_ic4, ↓k_de4, ↓k_tk4, ↓k_l5, ↓k_r5, ↓k_se5, ↓k_ic5, ↓k_de5, ↓k_tk5, ↓k_l6, ↓k_r6, ↓k_se6, ↓k_ic6, ↓k_de6, ↓k_tk6, ↓k_l7, ↓k_r7, ↓k_se7, ↓k_ic7, ↓k_de7, ↓k_tk7, ↓k_l8, ↓k_r8, ↓k_se8, ↓k_ic8, ↓k_de8, ↓k_tk8, ↓k_l9, ↓k_r9, ↓k_se9, ↓k_ic9, ↓k_de9, ↓k_tk9, ↓k_l10, ↓k_r10, ↓k_se10, ↓k_ic10, ↓k_de10, ↓k_tk10, ↓k_l11, ↓k_r11, ↓k_se11, ↓k_ic11, ↓k_de11, ↓k_tk11, ↓k_l12, ↓k_r12, ↓k_se12, ↓k_ic12, ↓k_de12, ↓k_tk12, ↓k_l13, ↓k_r13, ↓k_se13, ↓k_ic13, ↓k_de13, ↓k_tk13, ↓k_l14, ↓k_r14, ↓k_se14, ↓k_ic14, ↓k_de14, ↓k_tk14, ↓k_l15, ↓k_r15, ↓k_se15, ↓k_ic15, ↓k_de15, ↓k_tk15, ↓k_l16, ↓k_r16, ↓k_se16, ↓k_ic16, ↓k_de16, ↓k_tk16, ↓k_l17, ↓k_r17, ↓k_se17, ↓k_ic17, ↓k_de17, ↓k_tk17, ↓k_l18, ↓k_r18, ↓k_se18, ↓k_ic18, ↓k_de18, ↓k_tk18, ↓k_l19, ↓k_r19, ↓k_se19, ↓k_ic19, ↓k_de19, ↓k_tk19, ↓k_l20, ↓k_r20, ↓k_se20, ↓k_ic20, ↓k_de20, ↓k_tk20, ↓k_l21, ↓k_r21, ↓k_se21, ↓k_ic21, ↓k_de21, ↓k_tk21, ↓k_l22, ↓k_r22, ↓k_se22, ↓k_ic22, ↓k_de22, ↓k_tk22, ↓k_l23, ↓k_r23, ↓k_se23, ↓k_ic23, ↓k_de23, ↓k_tk23, ↓k_l24, ↓k_r24, ↓k_se24, ↓k_ic24, ↓k_de24, ↓k_tk24, ↓k_l25, ↓k_r25, ↓k_se25, ↓k_ic25, ↓k_de25, ↓k_tk25, ↓k_k, ↓k_kn, ↓k_kl, ↓k_kln, ↓k_il, ↓k_2, ↓k_1, ↓k_2c, ↓k_2l, ↓k_ac, ↓k_an, ↓k_cs, ↓k_cv, ↓k_fi, ↓k_fr, ↓k_ai, ↓k_az, ↓k_ar, ↓k_sai, ↓k_saz, ↓k_soa, ↓k_sof, ↓k_spf, ↓k_sx, ↓k_blk, ↓k_sset, ↓k_sdec, ↓k_sri, ↓k_srv, ↓k_srr, ↓k_nop, ↓k_add, ↓k_sub, ↓k_mul, ↓k_min, ↓k_max, ↓k_shr, ↓k_shl, ↓k_or, ↓k_ilz, ↓k_addl, ↓k_rt, ↓k_rb, ↓k_rbz, ↓k_rsi, ↓k_rsr, ↓k_rsv, ↓reduceIte, hz, h84, q1, l0, ↓xi12_84 hM, ↓xp12_84 hM, ↓xb12_84 hM, ↓xf12_84 hM, ↓xg12_84 hM, ↓xh12_84 hM, ↓xr12_89 hM, ↓xa12_89 hM, ↓xs12_89 hM, List.length_cons, List.length_nil, List.forall_mem_cons, List.not_mem_nil, Value.category, true_and, and_true, false_and, and_false, or_true, true_or, or_false, false_or, Nat.zero_le, forall_const, implies_true, false_implies, Nat.zero_add, Nat.reduceAdd, Nat.reduceLT, Nat.reduceLeDiff, Nat.le_refl, not_true_eq_false, not_false_eq_true, r_eq, r_ne, r_lt, r_ge, r_gt, r_le, bz_ne, nn_toNat, cn_of, cn_0, cn_1, i10, Int.reduceLE, Int.reduceLT, Int.reduceEq, bz_T, bz_F, ite_self, mulc, st_bud]
        exact h
      · have p := ih (k + 1) (by omega) c (Or.inr ⟨q2, cn⟩)
        have := (Cnt_mono cn (d + 1) i (by rw [show k + (d + 1) = j by omega]; exact cj)).1
        obtain ⟨le, hle⟩ : ∃ le, le = (i : Int) - c := ⟨_, rfl⟩
        rw [← hle] at p ⊢
        refine q_backR (fun K Kf h => ?_) p
        simp (disch := omega) only [↓wcX12_blame_0.eq_1, ↓wsX12_blame_0.eq_1, ↓k_mk, ↓k_sq, ↓k_sk, ↓k_bk, ↓k_if, ↓k_te, ↓k_cm, ↓k_cz, ↓k_an2, ↓k_or2, ↓k_no, ↓k_ci, ↓k_l0, ↓k_r0, ↓k_se0, ↓k_ic0, ↓k_l1, ↓k_r1, ↓k_se1, ↓k_ic1, ↓k_de1, ↓k_tk1, ↓k_l2, ↓k_r2, ↓k_se2, ↓k_ic2, ↓k_de2, ↓k_tk2, ↓k_l3, ↓k_r3, ↓k_se3, ↓k_ic3, ↓k_de3, ↓k_tk3, ↓k_l4, ↓k_r4, ↓k_se4, ↓k_ic4, ↓k_de4, ↓k_tk4, ↓k_l5, ↓k_r5, ↓k_se5, ↓k_ic5, ↓k_de5, ↓k_tk5, ↓k_l6, ↓k_r6, ↓k_se6, ↓k_ic6, ↓k_de6, ↓k_tk6, ↓k_l7, ↓k_r7, ↓k_se7, ↓k_ic7, ↓k_de7, ↓k_tk7, ↓k_l8, ↓k_r8, ↓k_se8, ↓k_ic8, ↓k_de8, ↓k_tk8, ↓k_l9, ↓k_r9, ↓k_se9, ↓k_ic9, ↓k_de9, ↓k_tk9, ↓k_l10, ↓k_r10, ↓k_se10, ↓k_ic10, ↓k_de10, ↓k_tk10, ↓k_l11, ↓k_r11, ↓k_se11, ↓k_ic11, ↓k_de11, ↓k_tk11, ↓k_l12, ↓k_r12, ↓k_se12, ↓k_ic12, ↓k_de12, ↓k_tk12, ↓k_l13, ↓k_r13, ↓k_se13, ↓k_ic13, ↓k_de13, ↓k_tk13, ↓k_l14, ↓k_r14, ↓k_se14, ↓k_ic14, ↓k_de14, ↓k_tk14, ↓k_l15, ↓k_r15, ↓k_se15, ↓k_ic15, ↓k_de15, ↓k_tk15, ↓k_l16, ↓k_r16, ↓k_se16, ↓k_ic16, ↓k_de16, ↓k_tk16, ↓k_l17, ↓k_r17, ↓k_se17, ↓k_ic17, ↓k_de17, ↓k_tk17, ↓k_l18, ↓k_r18, ↓k_se18, ↓k_ic18, ↓k_de18, ↓k_tk18, ↓k_l19, ↓k_r19, ↓k_se19, ↓k_ic19, ↓k_de19, ↓k_tk19, ↓k_l20, ↓k_r20, ↓k_se20, ↓k_ic20, ↓k_de20, ↓k_tk20, ↓k_l21, ↓k_r21, ↓k_se21, ↓k_ic21, ↓k_de21, ↓k_tk21, ↓k_l22, ↓k_r22, ↓k_se22, ↓k_ic22, ↓k_de22, ↓k_tk22, ↓k_l23, ↓k_r23, ↓k_se23, ↓k_ic23, ↓k_de23, ↓k_tk23, ↓k_l24, ↓k_r24, ↓k_se24, ↓k_ic24, ↓k_de24, ↓k_tk24, ↓k_l25, ↓k_r25, ↓k_se25, ↓k_ic25, ↓k_de25, ↓k_tk25, ↓k_k, ↓k_kn, ↓k_kl, ↓k_kln, ↓k_il, ↓k_2, ↓k_1, ↓k_2c, ↓k_2l, ↓k_ac, ↓k_an, ↓k_cs, ↓k_cv, ↓k_fi, ↓k_fr, ↓k_ai, ↓k_az, ↓k_ar, ↓k_sai, ↓k_saz, ↓k_soa, ↓k_sof, ↓k_spf, ↓k_sx, ↓k_blk, ↓k_sset, ↓k_sdec, ↓k_sri, ↓k_srv, ↓k_srr, ↓k_nop, ↓k_add, ↓k_sub, ↓k_mul, ↓k_min, ↓k_max, ↓k_shr, ↓k_shl, ↓k_or, ↓k_ilz, ↓k_addl, ↓k_rt, ↓k_rb, ↓k_rbz, ↓k_rsi, ↓k_rsr, ↓k_rsv, ↓reduceIte, hz, h84, q1, ↓xi12_84 hM, ↓xp12_84 hM, ↓xb12_84 hM, ↓xf12_84 hM, ↓xg12_84 hM, ↓xh12_84 hM, ↓xr12_89 hM, ↓xa12_89 hM, ↓xs12_89 hM, List.length_cons, List.length_nil, List.forall_mem_cons, List.not_mem_nil, Value.category, true_and, and_true, false_and, and_false, or_true, true_or, or_false, false_or, Nat.zero_le, forall_const, implies_true, false_implies, Nat.zero_add, Nat.reduceAdd, Nat.reduceLT, Nat.reduceLeDiff, Nat.le_refl, not_true_eq_false, not_false_eq_true, r_eq, r_ne, r_lt, r_ge, r_gt, r_le, bz_ne, nn_toNat, cn_of, cn_0, cn_1, i10, Int.reduceLE, Int.reduceLT, Int.reduceEq, bz_T, bz_F, ite_self, mulc, st_bud]
        exact h
  have p := key j 0 (by omega) 0 rfl
  have e0 : (i : Int) - ((0 : Nat) : Int) = i := by omega
  rw [e0] at p
  have lw : ∀ (Kn : List Value → q_M → Prop) (Kr : Option Value → q_M → Prop), wX12_blame_0 [.ref (B + 544), .int (zI i), .int (zI i), .int (zI 0)] (st T nx 0 0 R G) Kn Kr = Kr (some (.int (zI (G (B + 544 + 72) j)))) (st T nx 0 0 R G) := eX12_blame_0.eqr p
  simp (disch := omega) only [↓fX12_blame.eq_1, ↓uX12_blame, ↓k_mk, ↓k_sq, ↓k_sk, ↓k_bk, ↓k_if, ↓k_te, ↓k_cm, ↓k_cz, ↓k_an2, ↓k_or2, ↓k_no, ↓k_ci, ↓k_l0, ↓k_r0, ↓k_se0, ↓k_ic0, ↓k_l1, ↓k_r1, ↓k_se1, ↓k_ic1, ↓k_de1, ↓k_tk1, ↓k_l2, ↓k_r2, ↓k_se2, ↓k_ic2, ↓k_de2, ↓k_tk2, ↓k_l3, ↓k_r3, ↓k_se3, ↓k_ic3, ↓k_de3, ↓k_tk3, ↓k_l4, ↓k_r4, ↓k_se4, ↓k_ic4, ↓k_de4, ↓k_tk4, ↓k_l5, ↓k_r5, ↓k_se5, ↓k_ic5, ↓k_de5, ↓k_tk5, ↓k_l6, ↓k_r6, ↓k_se6, ↓k_ic6, ↓k_de6, ↓k_tk6, ↓k_l7, ↓k_r7, ↓k_se7, ↓k_ic7, ↓k_de7, ↓k_tk7, ↓k_l8, ↓k_r8, ↓k_se8, ↓k_ic8, ↓k_de8, ↓k_tk8, ↓k_l9, ↓k_r9, ↓k_se9, ↓k_ic9, ↓k_de9, ↓k_tk9, ↓k_l10, ↓k_r10, ↓k_se10, ↓k_ic10, ↓k_de10, ↓k_tk10, ↓k_l11, ↓k_r11, ↓k_se11, ↓k_ic11, ↓k_de11, ↓k_tk11, ↓k_l12, ↓k_r12, ↓k_se12, ↓k_ic12, ↓k_de12, ↓k_tk12, ↓k_l13, ↓k_r13, ↓k_se13, ↓k_ic13, ↓k_de13, ↓k_tk13, ↓k_l14, ↓k_r14, ↓k_se14, ↓k_ic14, ↓k_de14, ↓k_tk14, ↓k_l15, ↓k_r15, ↓k_se15, ↓k_ic15, ↓k_de15, ↓k_tk15, ↓k_l16, ↓k_r16, ↓k_se16, ↓k_ic16, ↓k_de16, ↓k_tk16, ↓k_l17, ↓k_r17, ↓k_se17, ↓k_ic17, ↓k_de17, ↓k_tk17, ↓k_l18, ↓k_r18, ↓k_se18, ↓k_ic18, ↓k_de18, ↓k_tk18, ↓k_l19, ↓k_r19, ↓k_se19, ↓k_ic19, ↓k_de19, ↓k_tk19, ↓k_l20, ↓k_r20, ↓k_se20, ↓k_ic20, ↓k_de20, ↓k_tk20, ↓k_l21, ↓k_r21, ↓k_se21, ↓k_ic21, ↓k_de21, ↓k_tk21, ↓k_l22, ↓k_r22, ↓k_se22, ↓k_ic22, ↓k_de22, ↓k_tk22, ↓k_l23, ↓k_r23, ↓k_se23, ↓k_ic23, ↓k_de23, ↓k_tk23, ↓k_l24, ↓k_r24, ↓k_se24, ↓k_ic24, ↓k_de24, ↓k_tk24, ↓k_l25, ↓k_r25, ↓k_se25, ↓k_ic25, ↓k_de25, ↓k_tk25, ↓k_k, ↓k_kn, ↓k_kl, ↓k_kln, ↓k_il, ↓k_2, ↓k_1, ↓k_2c, ↓k_2l, ↓k_ac, ↓k_an, ↓k_cs, ↓k_cv, ↓k_fi, ↓k_fr, ↓k_ai, ↓k_az, ↓k_ar, ↓k_sai, ↓k_saz, ↓k_soa, ↓k_sof, ↓k_spf, ↓k_sx, ↓k_blk, ↓k_sset, ↓k_sdec, ↓k_sri, ↓k_srv, ↓k_srr, ↓k_nop, ↓k_add, ↓k_sub, ↓k_mul, ↓k_min, ↓k_max, ↓k_shr, ↓k_shl, ↓k_or, ↓k_ilz, ↓k_addl, ↓k_rt, ↓k_rb, ↓k_rbz, ↓k_rsi, ↓k_rsr, ↓k_rsv, ↓reduceIte, ↓lw, List.length_cons, List.length_nil, List.forall_mem_cons, List.not_mem_nil, Value.category, true_and, and_true, false_and, and_false, or_true, true_or, or_false, false_or, Nat.zero_le, forall_const, implies_true, false_implies, Nat.zero_add, Nat.reduceAdd, Nat.reduceLT, Nat.reduceLeDiff, Nat.le_refl, not_true_eq_false, not_false_eq_true, r_eq, r_ne, r_lt, r_ge, r_gt, r_le, bz_ne, nn_toNat, cn_of, cn_0, cn_1, i10, Int.reduceLE, Int.reduceLT, Int.reduceEq, bz_T, bz_F, ite_self, mulc, st_bud]
end
