section
/-! the class's prices: one form on one span -/
def itR (it : Int) : Prop := ((0 ≤ it ∧ it ≤ 11) ∨ it = 20 ∨ it = 40) ∨ (60 ≤ it ∧ it ≤ 65)
def TC (G : Nat → Int → Int) (t : Nat) (nf : Int) (sf C n : Int → Int) : Prop := G t 1 = nf ∧ G (t + 2) = sf ∧ G (t + 3) = n ∧ G (t + 4) = C ∧ (0 ≤ nf ∧ nf ≤ 14) ∧ ∀ f, 0 ≤ f → f < nf → (0 ≤ sf f ∧ sf f ≤ 5) ∧ (1 ≤ n f ∧ n f ≤ 5) ∧ ∀ k, 0 ≤ k → k < n f → itR (C (5 * f + k))
def FrL (G G' : Nat → Int → Int) (a : Nat) : Prop := ∀ x, ¬ x = a + 4 → ¬ x = a + 5 → G' x = G x
theorem FrL_tr {G G1 G2 : Nat → Int → Int} {a : Nat} (h : FrL G G1 a) (k : FrL G1 G2 a) : FrL G G2 a := fun x p q => by rw [k x p q, h x p q]
theorem TC_fr {G G' : Nat → Int → Int} {a t : Nat} {nf : Int} {sf C n : Int → Int} (h : FrL G G' a) (ht : t + 14 ≤ a) (c : TC G t nf sf C n) : TC G' t nf sf C n := by
  unfold TC at c ⊢
  rw [h t (by omega) (by omega), h (t + 2) (by omega) (by omega), h (t + 3) (by omega) (by omega), h (t + 4) (by omega) (by omega)]
  exact c
theorem NFt_fr {G G' : Nat → Int → Int} {a : Nat} {ft : Int → Int → Bool} {N : Int} {D : Int → Prop} (h : FrL G G' a) (c : NFt G a ft N D) : NFt G' a ft N D := fun r q0 q1 q2 p q3 q4 => by
  rw [h _ (by omega) (by omega)]
  exact c r q0 q1 q2 p q3 q4
/-- what the items from k on take behind a cut -/
def beV (Rr n : Int → Int) (f k m j : Int) : Int := if n f ≤ k then (if m = j then 0 else 16777216) else Rr (289 * (5 * f + k) + 17 * m + j)
theorem c3_priceBehind {T : Nat → Option q_T} {nx rc rs a t : Nat} {R : Nat → Nat → Option Value} {G : Nat → Int → Int} {f k m j nf : Int} {sf C n : Int → Int} {K : Option Value → q_M → Prop} (o : Ly T R a (L3 a t)) (o8 : Ly T R t (L8 t)) (ht : t + 14 ≤ a) (tc : TC G t nf sf C n) (f0 : 0 ≤ f) (f1 : f < nf) (k0 : 0 ≤ k) (k1 : k ≤ 5) (m0 : 0 ≤ m) (mj : m ≤ j) (j1 : j ≤ 16) :
    fX3_priceBehind [.ref a, .int (zI f), .int (zI k), .int (zI m), .int (zI j)] (st T nx rc rs R G) K = K (some (.int (zI (beV (G (a + 5)) n f k m j)))) (st T nx rc rs R G) := by
  obtain ⟨c1, c2, c3, c4, c5, c6⟩ := tc
  obtain ⟨b1, b2, b3⟩ := c6 f f0 f1
  obtain ⟨N, hN⟩ : ∃ N, N = n f := ⟨_, rfl⟩
  have e3 : G (t + 3) f = N := by rw [c3, hN]
  unfold beV
  rw [← hN] at b2 b3 ⊢
  clear c1 c2 c3 c4 c6 b3
  by_cases c : N ≤ k
  · rw [if_pos c]
    by_cases g : m = j
    · rw [if_pos g]
      subst g
      simp (disch := omega) only [↓fX3_priceBehind.eq_1, ↓sX3_priceBehind_.eq_1, ↓(k_cs3 dX3_spot), ↓k_mk, ↓k_sq, ↓k_sk, ↓k_bk, ↓k_if, ↓k_te, ↓k_cm, ↓k_cz, ↓k_an2, ↓k_or2, ↓k_no, ↓k_ci, ↓k_l0, ↓k_r0, ↓k_se0, ↓k_ic0, ↓k_l1, ↓k_r1, ↓k_se1, ↓k_ic1, ↓k_de1, ↓k_tk1, ↓k_l2, ↓k_r2, ↓k_se2, ↓k_ic2, ↓k_de2, ↓k_tk2, ↓k_l3, ↓k_r3, ↓k_se3, ↓k_ic3, ↓k_de3, ↓k_tk3, ↓k_l4, ↓k_r4, ↓k_se4, ↓k_ic4, ↓k_de4, ↓k_tk4, ↓k_l5, ↓k_r5, ↓k_se5, ↓k_ic5, ↓k_de5, ↓k_tk5, ↓k_l6, ↓k_r6, ↓k_se6, ↓k_ic6, ↓k_de6, ↓k_tk6, ↓k_l7, ↓k_r7, ↓k_se7, ↓k_ic7, ↓k_de7, ↓k_tk7, ↓k_l8, ↓k_r8, ↓k_se8, ↓k_ic8, ↓k_de8, ↓k_tk8, ↓k_l9, ↓k_r9, ↓k_se9, ↓k_ic9, ↓k_de9, ↓k_tk9, ↓k_l10, ↓k_r10, ↓k_se10, ↓k_ic10, ↓k_de10, ↓k_tk10, ↓k_l11, ↓k_r11, ↓k_se11, ↓k_ic11, ↓k_de11, ↓k_tk11, ↓k_l12, ↓k_r12, ↓k_se12, ↓k_ic12, ↓k_de12, ↓k_tk12, ↓k_l13, ↓k_r13, ↓k_se13, ↓k_ic13, ↓k_de13, ↓k_tk13, ↓k_l14, ↓k_r14, ↓k_se14, ↓k_ic14, ↓k_de14, ↓k_tk14, ↓k_l15, ↓k_r15, ↓k_se15, ↓k_ic15, ↓k_de15, ↓k_tk15, ↓k_l16, ↓k_r16, ↓k_se16, ↓k_ic16, ↓k_de16, ↓k_tk16, ↓k_l17, ↓k_r17, ↓k_se17, ↓k_ic17, ↓k_de17, ↓k_tk17, ↓k_l18, ↓k_r18, ↓k_se18, ↓k_ic18, ↓k_de18, ↓k_tk18, ↓k_l19, ↓k_r19, ↓k_se19, ↓k_ic19, ↓k_de19, ↓k_tk19, ↓k_l20, ↓k_r20, ↓k_se20, ↓k_ic20, ↓k_de20, ↓k_tk20, ↓k_l21, ↓k_r21, ↓k_se21, ↓k_ic21, ↓k_de21, ↓k_tk21, ↓k_l22, ↓k_r22, ↓k_se22, ↓k_ic22, ↓k_de22, ↓k_tk22, ↓k_l23, ↓k_r23, ↓k_se23, ↓k_ic23, ↓k_de23, ↓k_tk23, ↓k_l24, ↓k_r24, ↓k_se24, ↓k_ic24, ↓k_de24, ↓k_tk24, ↓k_l25, ↓k_r25, ↓k_se25, ↓k_ic25, ↓k_de25, ↓k_tk25, ↓k_k, ↓k_kn, ↓k_kl, ↓k_kln, ↓k_il, ↓k_2, ↓k_1, ↓k_2c, ↓k_2l, ↓k_ac, ↓k_an, ↓k_cs, ↓k_cv, ↓k_fi, ↓k_fr, ↓k_ai, ↓k_az, ↓k_ar, ↓k_sai, ↓k_saz, ↓k_soa, ↓k_sof, ↓k_spf, ↓k_sx, ↓k_blk, ↓k_sset, ↓k_sdec, ↓k_sri, ↓k_srv, ↓k_srr, ↓k_nop, ↓k_add, ↓k_sub, ↓k_mul, ↓k_min, ↓k_max, ↓k_shr, ↓k_shl, ↓k_or, ↓k_ilz, ↓k_addl, ↓k_rt, ↓k_rb, ↓k_rbz, ↓k_rsi, ↓k_rsr, ↓k_rsv, ↓reduceIte, e3, c, eq_self, ↓xr3_1 o, ↓xr3_6 o, ↓xa3_6 o, ↓xs3_6 o, ↓xo3_6 o, ↓xc3_6 o, ↓xd3_6 o, ↓xr8_3 o8, ↓xa8_3 o8, ↓xs8_3 o8, ↓xo8_3 o8, ↓xc8_3 o8, ↓xd8_3 o8, List.length_cons, List.length_nil, List.forall_mem_cons, List.not_mem_nil, Value.category, true_and, and_true, false_and, and_false, or_true, true_or, or_false, false_or, Nat.zero_le, forall_const, implies_true, false_implies, Nat.zero_add, Nat.reduceAdd, Nat.reduceLT, Nat.reduceLeDiff, Nat.le_refl, not_true_eq_false, not_false_eq_true, r_eq, r_ne, r_lt, r_ge, r_gt, r_le, bz_ne, nn_toNat, cn_of, cn_0, cn_1, i10, Int.reduceLE, Int.reduceLT, Int.reduceEq, bz_T, bz_F, ite_self, mulc, st_bud]
    · rw [if_neg g]
      simp (disch := omega) only [↓fX3_priceBehind.eq_1, ↓sX3_priceBehind_.eq_1, ↓(k_cs3 dX3_spot), ↓k_mk, ↓k_sq, ↓k_sk, ↓k_bk, ↓k_if, ↓k_te, ↓k_cm, ↓k_cz, ↓k_an2, ↓k_or2, ↓k_no, ↓k_ci, ↓k_l0, ↓k_r0, ↓k_se0, ↓k_ic0, ↓k_l1, ↓k_r1, ↓k_se1, ↓k_ic1, ↓k_de1, ↓k_tk1, ↓k_l2, ↓k_r2, ↓k_se2, ↓k_ic2, ↓k_de2, ↓k_tk2, ↓k_l3, ↓k_r3, ↓k_se3, ↓k_ic3, ↓k_de3, ↓k_tk3, ↓k_l4, ↓k_r4, ↓k_se4, ↓k_ic4, ↓k_de4, ↓k_tk4, ↓k_l5, ↓k_r5, ↓k_se5, ↓k_ic5, ↓k_de5, ↓k_tk5, ↓k_l6, ↓k_r6, ↓k_se6, ↓k_ic6, ↓k_de6, ↓k_tk6, ↓k_l7, ↓k_r7, ↓k_se7, ↓k_ic7, ↓k_de7, ↓k_tk7, ↓k_l8, ↓k_r8, ↓k_se8, ↓k_ic8, ↓k_de8, ↓k_tk8, ↓k_l9, ↓k_r9, ↓k_se9, ↓k_ic9, ↓k_de9, ↓k_tk9, ↓k_l10, ↓k_r10, ↓k_se10, ↓k_ic10, ↓k_de10, ↓k_tk10, ↓k_l11, ↓k_r11, ↓k_se11, ↓k_ic11, ↓k_de11, ↓k_tk11, ↓k_l12, ↓k_r12, ↓k_se12, ↓k_ic12, ↓k_de12, ↓k_tk12, ↓k_l13, ↓k_r13, ↓k_se13, ↓k_ic13, ↓k_de13, ↓k_tk13, ↓k_l14, ↓k_r14, ↓k_se14, ↓k_ic14, ↓k_de14, ↓k_tk14, ↓k_l15, ↓k_r15, ↓k_se15, ↓k_ic15, ↓k_de15, ↓k_tk15, ↓k_l16, ↓k_r16, ↓k_se16, ↓k_ic16, ↓k_de16, ↓k_tk16, ↓k_l17, ↓k_r17, ↓k_se17, ↓k_ic17, ↓k_de17, ↓k_tk17, ↓k_l18, ↓k_r18, ↓k_se18, ↓k_ic18, ↓k_de18, ↓k_tk18, ↓k_l19, ↓k_r19, ↓k_se19, ↓k_ic19, ↓k_de19, ↓k_tk19, ↓k_l20, ↓k_r20, ↓k_se20, ↓k_ic20, ↓k_de20, ↓k_tk20, ↓k_l21, ↓k_r21, ↓k_se21, ↓k_ic21, ↓k_de21, ↓k_tk21, ↓k_l22, ↓k_r22, ↓k_se22, ↓k_ic22, ↓k_de22, ↓k_tk22, ↓k_l23, ↓k_r23, ↓k_se23, ↓k_ic23, ↓k_de23, ↓k_tk23, ↓k_l24, ↓k_r24, ↓k_se24, ↓k_ic24, ↓k_de24, ↓k_tk24, ↓k_l25, ↓k_r25, ↓k_se25, ↓k_ic25, ↓k_de25, ↓k_tk25, ↓k_k, ↓k_kn, ↓k_kl, ↓k_kln, ↓k_il, ↓k_2, ↓k_1, ↓k_2c, ↓k_2l, ↓k_ac, ↓k_an, ↓k_cs, ↓k_cv, ↓k_fi, ↓k_fr, ↓k_ai, ↓k_az, ↓k_ar, ↓k_sai, ↓k_saz, ↓k_soa, ↓k_sof, ↓k_spf, ↓k_sx, ↓k_blk, ↓k_sset, ↓k_sdec, ↓k_sri, ↓k_srv, ↓k_srr, ↓k_nop, ↓k_add, ↓k_sub, ↓k_mul, ↓k_min, ↓k_max, ↓k_shr, ↓k_shl, ↓k_or, ↓k_ilz, ↓k_addl, ↓k_rt, ↓k_rb, ↓k_rbz, ↓k_rsi, ↓k_rsr, ↓k_rsv, ↓reduceIte, e3, c, g, ↓xr3_1 o, ↓xr3_6 o, ↓xa3_6 o, ↓xs3_6 o, ↓xo3_6 o, ↓xc3_6 o, ↓xd3_6 o, ↓xr8_3 o8, ↓xa8_3 o8, ↓xs8_3 o8, ↓xo8_3 o8, ↓xc8_3 o8, ↓xd8_3 o8, List.length_cons, List.length_nil, List.forall_mem_cons, List.not_mem_nil, Value.category, true_and, and_true, false_and, and_false, or_true, true_or, or_false, false_or, Nat.zero_le, forall_const, implies_true, false_implies, Nat.zero_add, Nat.reduceAdd, Nat.reduceLT, Nat.reduceLeDiff, Nat.le_refl, not_true_eq_false, not_false_eq_true, r_eq, r_ne, r_lt, r_ge, r_gt, r_le, bz_ne, nn_toNat, cn_of, cn_0, cn_1, i10, Int.reduceLE, Int.reduceLT, Int.reduceEq, bz_T, bz_F, ite_self, mulc, st_bud]
  · rw [if_neg c]
    simp (disch := omega) only [↓fX3_priceBehind.eq_1, ↓sX3_priceBehind_.eq_1, ↓(k_cs3 dX3_spot), ↓k_mk, ↓k_sq, ↓k_sk, ↓k_bk, ↓k_if, ↓k_te, ↓k_cm, ↓k_cz, ↓k_an2, ↓k_or2, ↓k_no, ↓k_ci, ↓k_l0, ↓k_r0, ↓k_se0, ↓k_ic0, ↓k_l1, ↓k_r1, ↓k_se1, ↓k_ic1, ↓k_de1, ↓k_tk1, ↓k_l2, ↓k_r2, ↓k_se2, ↓k_ic2, ↓k_de2, ↓k_tk2, ↓k_l3, ↓k_r3, ↓k_se3, ↓k_ic3, ↓k_de3, ↓k_tk3, ↓k_l4, ↓k_r4, ↓k_se4, ↓k_ic4, ↓k_de4, ↓k_tk4, ↓k_l5, ↓k_r5, ↓k_se5, ↓k_ic5, ↓k_de5, ↓k_tk5, ↓k_l6, ↓k_r6, ↓k_se6, ↓k_ic6, ↓k_de6, ↓k_tk6, ↓k_l7, ↓k_r7, ↓k_se7, ↓k_ic7, ↓k_de7, ↓k_tk7, ↓k_l8, ↓k_r8, ↓k_se8, ↓k_ic8, ↓k_de8, ↓k_tk8, ↓k_l9, ↓k_r9, ↓k_se9, ↓k_ic9, ↓k_de9, ↓k_tk9, ↓k_l10, ↓k_r10, ↓k_se10, ↓k_ic10, ↓k_de10, ↓k_tk10, ↓k_l11, ↓k_r11, ↓k_se11, ↓k_ic11, ↓k_de11, ↓k_tk11, ↓k_l12, ↓k_r12, ↓k_se12, ↓k_ic12, ↓k_de12, ↓k_tk12, ↓k_l13, ↓k_r13, ↓k_se13, ↓k_ic13, ↓k_de13, ↓k_tk13, ↓k_l14, ↓k_r14, ↓k_se14, ↓k_ic14, ↓k_de14, ↓k_tk14, ↓k_l15, ↓k_r15, ↓k_se15, ↓k_ic15, ↓k_de15, ↓k_tk15, ↓k_l16, ↓k_r16, ↓k_se16, ↓k_ic16, ↓k_de16, ↓k_tk16, ↓k_l17, ↓k_r17, ↓k_se17, ↓k_ic17, ↓k_de17, ↓k_tk17, ↓k_l18, ↓k_r18, ↓k_se18, ↓k_ic18, ↓k_de18, ↓k_tk18, ↓k_l19, ↓k_r19, ↓k_se19, ↓k_ic19, ↓k_de19, ↓k_tk19, ↓k_l20, ↓k_r20, ↓k_se20, ↓k_ic20, ↓k_de20, ↓k_tk20, ↓k_l21, ↓k_r21, ↓k_se21, ↓k_ic21, ↓k_de21, ↓k_tk21, ↓k_l22, ↓k_r22, ↓k_se22, ↓k_ic22, ↓k_de22, ↓k_tk22, ↓k_l23, ↓k_r23, ↓k_se23, ↓k_ic23, ↓k_de23, ↓k_tk23, ↓k_l24, ↓k_r24, ↓k_se24, ↓k_ic24, ↓k_de24, ↓k_tk24, ↓k_l25, ↓k_r25, ↓k_se25, ↓k_ic25, ↓k_de25, ↓k_tk25, ↓k_k, ↓k_kn, ↓k_kl, ↓k_kln, ↓k_il, ↓k_2, ↓k_1, ↓k_2c, ↓k_2l, ↓k_ac, ↓k_an, ↓k_cs, ↓k_cv, ↓k_fi, ↓k_fr, ↓k_ai, ↓k_az, ↓k_ar, ↓k_sai, ↓k_saz, ↓k_soa, ↓k_sof, ↓k_spf, ↓k_sx, ↓k_blk, ↓k_sset, ↓k_sdec, ↓k_sri, ↓k_srv, ↓k_srr, ↓k_nop, ↓k_add, ↓k_sub, ↓k_mul, ↓k_min, ↓k_max, ↓k_shr, ↓k_shl, ↓k_or, ↓k_ilz, ↓k_addl, ↓k_rt, ↓k_rb, ↓k_rbz, ↓k_rsi, ↓k_rsr, ↓k_rsv, ↓reduceIte, e3, c, ↓c3_spot, ↓xr3_1 o, ↓xr3_6 o, ↓xa3_6 o, ↓xs3_6 o, ↓xo3_6 o, ↓xc3_6 o, ↓xd3_6 o, ↓xr8_3 o8, ↓xa8_3 o8, ↓xs8_3 o8, ↓xo8_3 o8, ↓xc8_3 o8, ↓xd8_3 o8, List.length_cons, List.length_nil, List.forall_mem_cons, List.not_mem_nil, Value.category, true_and, and_true, false_and, and_false, or_true, true_or, or_false, false_or, Nat.zero_le, forall_const, implies_true, false_implies, Nat.zero_add, Nat.reduceAdd, Nat.reduceLT, Nat.reduceLeDiff, Nat.le_refl, not_true_eq_false, not_false_eq_true, r_eq, r_ne, r_lt, r_ge, r_gt, r_le, bz_ne, nn_toNat, cn_of, cn_0, cn_1, i10, Int.reduceLE, Int.reduceLT, Int.reduceEq, bz_T, bz_F, ite_self, mulc, st_bud]
theorem c3_priceFrom {T : Nat → Option q_T} {nx rc rs a t : Nat} {R : Nat → Nat → Option Value} {G : Nat → Int → Int} {N f k i j it nf : Int} {sf C n : Int → Int} {ft : Int → Int → Bool} {K : Option Value → q_M → Prop} (o : Ly T R a (L3 a t)) (o8 : Ly T R t (L8 t)) (ht : t + 14 ≤ a) (tc : TC G t nf sf C n) (n1 : N ≤ 16) (nt : NFt G a ft N (fun _ => True)) (f0 : 0 ≤ f) (f1 : f < nf) (k0 : 0 ≤ k) (k1 : k < n f) (i0 : 0 ≤ i) (ij : i ≤ j) (jN : j ≤ N) (hit : it = C (5 * f + k))
    (hb : ∀ m, i ≤ m → m ≤ j → (0 ≤ itP (pq 16777216 (G (a + 4))) ft it i m ∧ itP (pq 16777216 (G (a + 4))) ft it i m ≤ 16777216) ∧ (0 ≤ beV (G (a + 5)) n f (k + 1) m j ∧ beV (G (a + 5)) n f (k + 1) m j ≤ 16777216)) :
    fX3_priceFrom [.ref a, .int (zI f), .int (zI k), .int (zI i), .int (zI j)] (st T nx rc rs R G) K = K (some (.int (zI (minN (fun m => itP (pq 16777216 (G (a + 4))) ft it i m + beV (G (a + 5)) n f (k + 1) m j) i 16777216 (j - i + 1).toNat)))) (st T nx rc rs R G) := by
  have tc' := tc
  obtain ⟨c1, c2, c3, c4, c5, c6⟩ := tc
  obtain ⟨b1, b2, b3⟩ := c6 f f0 f1
  have ir := b3 k k0 k1
  rw [← hit] at ir
  have e4 : G (t + 4) (5 * f + k) = it := by rw [c4, hit]
  obtain ⟨F, hF⟩ : ∃ F : Int → Int, F = fun m => itP (pq 16777216 (G (a + 4))) ft it i m + beV (G (a + 5)) n f (k + 1) m j := ⟨_, rfl⟩
  obtain ⟨S, hS⟩ : ∃ S : Nat → Int, S = fun m => minN F i 16777216 m := ⟨_, rfl⟩
  have S0 : S 0 = 16777216 := by rw [hS]; rfl
  have Sb : ∀ m : Nat, m ≤ (j - i + 1).toNat → 0 ≤ S m ∧ S m ≤ 16777216 := fun m hm => by
    rw [hS]
    exact ⟨minN_ge (fun x hx => by
      have a1 := hb (i + x) (by omega) (by omega)
      rw [hF]
      show 0 ≤ itP (pq 16777216 (G (a + 4))) ft it i (i + x) + beV (G (a + 5)) n f (k + 1) (i + x) j
      omega) (by omega), minN_cap _⟩
  have Ss : ∀ m : Nat, S (m + 1) = min (S m) (F (i + m)) := fun m => by rw [hS]; rfl
  have SE : S (j - i + 1).toNat = minN (fun m => itP (pq 16777216 (G (a + 4))) ft it i m + beV (G (a + 5)) n f (k + 1) m j) i 16777216 (j - i + 1).toNat := by rw [hS, hF]
  rw [← SE]
  have lw : ∀ (Kn : List Value → q_M → Prop) (Kr : Option Value → q_M → Prop), wX3_priceFrom_0 [.ref a, .int (zI f), .int (zI k), .int (zI i), .int (zI j), .int (zI it), .int (zI 16777216), .int (zI i)] (st T nx rc rs R G) Kn Kr = Kn [.ref a, .int (zI f), .int (zI k), .int (zI i), .int (zI j), .int (zI it), .int (zI (S (j - i + 1).toNat)), .int (zI (i + (j - i + 1).toNat))] (st T nx rc rs R G) := by
    have w := q_for eX3_priceFrom_0 (fun _ _ => lX3_priceFrom_0) (fun m => [.ref a, .int (zI f), .int (zI k), .int (zI i), .int (zI j), .int (zI it), .int (zI (S m)), .int (zI (i + m))]) (fun _ => st T nx rc rs R G) (j - i + 1).toNat (fun m hm Kn Kf h => by
      have hz : i + (m : Int) ≤ j := by omega
      have e7 : i + ((m + 1 : Nat) : Int) = i + m + 1 := by omega
      obtain ⟨q, hq⟩ : ∃ q, q = i + (m : Int) := ⟨_, rfl⟩
      have bb := hb q (by omega) (by omega)
      have sb := Sb m (by omega)
      have ss := Ss m
      rw [hF] at ss
      have ss : S (m + 1) = min (S m) (itP (pq 16777216 (G (a + 4))) ft it i (i + m) + beV (G (a + 5)) n f (k + 1) (i + m) j) := ss
      rw [← hq] at ss
      have cI := fun K : Option Value → q_M → Prop => c3_priceOfItem (T := T) (nx := nx) (rc := 0) (rs := 0) (R := R) (G := G) (it := it) (p := i) (q := q) (K := K) o o8 ht (by omega) n1 nt ir i0 (by omega) (by omega)
      have cB := fun K : Option Value → q_M → Prop => c3_priceBehind (T := T) (nx := nx) (rc := 0) (rs := 0) (R := R) (G := G) (f := f) (k := k + 1) (m := q) (j := j) (K := K) o o8 ht tc' f0 f1 (by omega) (by omega) (by omega) (by omega) (by omega)
      obtain ⟨y, hy⟩ : ∃ y, y = itP (pq 16777216 (G (a + 4))) ft it i q := ⟨_, rfl⟩
      obtain ⟨z, hz'⟩ : ∃ z, z = beV (G (a + 5)) n f (k + 1) q j := ⟨_, rfl⟩
      rw [← hy, ← hz'] at bb ss
      rw [← hy] at cI
      rw [← hz'] at cB
      simp only [e7] at h
      rw [ss] at h
      rw [← hq] at h hz ⊢
      clear hb tc' nt c6 b3 ir Sb Ss SE c1 c2 c3 c4 hF hS
      simp (disch := omega) only [↓wcX3_priceFrom_0.eq_1, ↓wsX3_priceFrom_0.eq_1, ↓k_mk, ↓k_sq, ↓k_sk, ↓k_bk, ↓k_if, ↓k_te, ↓k_cm, ↓k_cz, ↓k_an2, ↓k_or2, ↓k_no, ↓k_ci, ↓k_l0, ↓k_r0, ↓k_se0, ↓k_ic0, ↓k_l1, ↓k_r1, ↓k_se1, ↓k_ic1, ↓k_de1, ↓k_tk1, ↓k_l2, ↓k_r2, ↓k_se2, ↓k_ic2, ↓k_de2, ↓k_tk2, ↓k_l3, ↓k_r3, ↓k_se3, ↓k_ic3, ↓k_de3, ↓k_tk3, ↓k_l4, ↓k_r4, ↓k_se4, ↓k_ic4, ↓k_de4, ↓k_tk4, ↓k_l5, ↓k_r5, ↓k_se5, ↓k_ic5, ↓k_de5, ↓k_tk5, ↓k_l6, ↓k_r6, ↓k_se6, ↓k_ic6, ↓k_de6, ↓k_tk6, ↓k_l7, ↓k_r7, ↓k_se7, ↓k_ic7, ↓k_de7, ↓k_tk7, ↓k_l8, ↓k_r8, ↓k_se8, ↓k_ic8, ↓k_de8, ↓k_tk8, ↓k_l9, ↓k_r9, ↓k_se9, ↓k_ic9, ↓k_de9, ↓k_tk9, ↓k_l10, ↓k_r10, ↓k_se10, ↓k_ic10, ↓k_de10, ↓k_tk10, ↓k_l11, ↓k_r11, ↓k_se11, ↓k_ic11, ↓k_de11, ↓k_tk11, ↓k_l12, ↓k_r12, ↓k_se12, ↓k_ic12, ↓k_de12, ↓k_tk12, ↓k_l13, ↓k_r13, ↓k_se13, ↓k_ic13, ↓k_de13, ↓k_tk13, ↓k_l14, ↓k_r14, ↓k_se14, ↓k_ic14, ↓k_de14, ↓k_tk14, ↓k_l15, ↓k_r15, ↓k_se15, ↓k_ic15, ↓k_de15, ↓k_tk15, ↓k_l16, ↓k_r16, ↓k_se16, ↓k_ic16, ↓k_de16, ↓k_tk16, ↓k_l17, ↓k_r17, ↓k_se17, ↓k_ic17, ↓k_de17, ↓k_tk17, ↓k_l18, ↓k_r18, ↓k_se18, ↓k_ic18, ↓k_de18, ↓k_tk18, ↓k_l19, ↓k_r19, ↓k_se19, ↓k_ic19, ↓k_de19, ↓k_tk19, ↓k_l20, ↓k_r20, ↓k_se20, ↓k_ic20, ↓k_de20, ↓k_tk20, ↓k_l21, ↓k_r21, ↓k_se21, ↓k_ic21, ↓k_de21, ↓k_tk21, ↓k_l22, ↓k_r22, ↓k_se22, ↓k_ic22, ↓k_de22, ↓k_tk22, ↓k_l23, ↓k_r23, ↓k_se23, ↓k_ic23, ↓k_de23, ↓k_tk23, ↓k_l24, ↓k_r24, ↓k_se24, ↓k_ic24, ↓k_de24, ↓k_tk24, ↓k_l25, ↓k_r25, ↓k_se25, ↓k_ic25, ↓k_de25, ↓k_tk25, ↓k_k, ↓k_kn, ↓k_kl, ↓k_kln, ↓k_il, ↓k_2, ↓k_1, ↓k_2c, ↓k_2l, ↓k_ac, ↓k_an, ↓k_cs, ↓k_cv, ↓k_fi, ↓k_fr, ↓k_ai, ↓k_az, ↓k_ar, ↓k_sai, ↓k_saz, ↓k_soa, ↓k_sof, ↓k_spf, ↓k_sx, ↓k_blk, ↓k_sset, ↓k_sdec, ↓k_sri, ↓k_srv, ↓k_srr, ↓k_nop, ↓k_add, ↓k_sub, ↓k_mul, ↓k_min, ↓k_max, ↓k_shr, ↓k_shl, ↓k_or, ↓k_ilz, ↓k_addl, ↓k_rt, ↓k_rb, ↓k_rbz, ↓k_rsi, ↓k_rsr, ↓k_rsv, ↓reduceIte, hz, ↓(k_cv3 dX3_priceOfItem (t3 o)), ↓cI, ↓(k_cv4 dX3_priceBehind (t3 o)), ↓cB, List.length_cons, List.length_nil, List.forall_mem_cons, List.not_mem_nil, Value.category, true_and, and_true, false_and, and_false, or_true, true_or, or_false, false_or, Nat.zero_le, forall_const, implies_true, false_implies, Nat.zero_add, Nat.reduceAdd, Nat.reduceLT, Nat.reduceLeDiff, Nat.le_refl, not_true_eq_false, not_false_eq_true, r_eq, r_ne, r_lt, r_ge, r_gt, r_le, bz_ne, nn_toNat, cn_of, cn_0, cn_1, i10, Int.reduceLE, Int.reduceLT, Int.reduceEq, bz_T, bz_F, ite_self, mulc, st_bud]
      exact h) (fun Kt Kf h => by
      have en : (((j - i + 1).toNat : Nat) : Int) = j - i + 1 := by omega
      rw [en]
      have hz : ¬ i + (j - i + 1) ≤ j := by omega
      simp (disch := omega) only [↓wcX3_priceFrom_0.eq_1, ↓k_mk, ↓k_sq, ↓k_sk, ↓k_bk, ↓k_if, ↓k_te, ↓k_cm, ↓k_cz, ↓k_an2, ↓k_or2, ↓k_no, ↓k_ci, ↓k_l0, ↓k_r0, ↓k_se0, ↓k_ic0, ↓k_l1, ↓k_r1, ↓k_se1, ↓k_ic1, ↓k_de1, ↓k_tk1, ↓k_l2, ↓k_r2, ↓k_se2, ↓k_ic2, ↓k_de2, ↓k_tk2, ↓k_l3, ↓k_r3, ↓k_se3, ↓k_ic3, ↓k_de3, ↓k_tk3, ↓k_l4, ↓k_r4, ↓k_se4, ↓k_ic4, ↓k_de4, ↓k_tk4, ↓k_l5, ↓k_r5, ↓k_se5, ↓k_ic5, ↓k_de5, ↓k_tk5, ↓k_l6, ↓k_r6, ↓k_se6, ↓k_ic6, ↓k_de6, ↓k_tk6, ↓k_l7, ↓k_r7, ↓k_se7, ↓k_ic7, ↓k_de7, ↓k_tk7, ↓k_l8, ↓k_r8, ↓k_se8, ↓k_ic8, ↓k_de8, ↓k_tk8, ↓k_l9, ↓k_r9, ↓k_se9, ↓k_ic9, ↓k_de9, ↓k_tk9, ↓k_l10, ↓k_r10, ↓k_se10, ↓k_ic10, ↓k_de10, ↓k_tk10, ↓k_l11, ↓k_r11, ↓k_se11, ↓k_ic11, ↓k_de11, ↓k_tk11, ↓k_l12, ↓k_r12, ↓k_se12, ↓k_ic12, ↓k_de12, ↓k_tk12, ↓k_l13, ↓k_r13, ↓k_se13, ↓k_ic13, ↓k_de13, ↓k_tk13, ↓k_l14, ↓k_r14, ↓k_se14, ↓k_ic14, ↓k_de14, ↓k_tk14, ↓k_l15, ↓k_r15, ↓k_se15, ↓k_ic15, ↓k_de15, ↓k_tk15, ↓k_l16, ↓k_r16, ↓k_se16, ↓k_ic16, ↓k_de16, ↓k_tk16, ↓k_l17, ↓k_r17, ↓k_se17, ↓k_ic17, ↓k_de17, ↓k_tk17, ↓k_l18, ↓k_r18, ↓k_se18, ↓k_ic18, ↓k_de18, ↓k_tk18, ↓k_l19, ↓k_r19, ↓k_se19, ↓k_ic19, ↓k_de19, ↓k_tk19, ↓k_l20, ↓k_r20, ↓k_se20, ↓k_ic20, ↓k_de20, ↓k_tk20, ↓k_l21, ↓k_r21, ↓k_se21, ↓k_ic21, ↓k_de21, ↓k_tk21, ↓k_l22, ↓k_r22, ↓k_se22, ↓k_ic22, ↓k_de22, ↓k_tk22, ↓k_l23, ↓k_r23, ↓k_se23, ↓k_ic23, ↓k_de23, ↓k_tk23, ↓k_l24, ↓k_r24, ↓k_se24, ↓k_ic24, ↓k_de24, ↓k_tk24, ↓k_l25, ↓k_r25, ↓k_se25, ↓k_ic25, ↓k_de25, ↓k_tk25, ↓k_k, ↓k_kn, ↓k_kl, ↓k_kln, ↓k_il, ↓k_2, ↓k_1, ↓k_2c, ↓k_2l, ↓k_ac, ↓k_an, ↓k_cs, ↓k_cv, ↓k_fi, ↓k_fr, ↓k_ai, ↓k_az, ↓k_ar, ↓k_sai, ↓k_saz, ↓k_soa, ↓k_sof, ↓k_spf, ↓k_sx, ↓k_blk, ↓k_sset, ↓k_sdec, ↓k_sri, ↓k_srv, ↓k_srr, ↓k_nop, ↓k_add, ↓k_sub, ↓k_mul, ↓k_min, ↓k_max, ↓k_shr, ↓k_shl, ↓k_or, ↓k_ilz, ↓k_addl, ↓k_rt, ↓k_rb, ↓k_rbz, ↓k_rsi, ↓k_rsr, ↓k_rsv, ↓reduceIte, hz, List.length_cons, List.length_nil, List.forall_mem_cons, List.not_mem_nil, Value.category, true_and, and_true, false_and, and_false, or_true, true_or, or_false, false_or, Nat.zero_le, forall_const, implies_true, false_implies, Nat.zero_add, Nat.reduceAdd, Nat.reduceLT, Nat.reduceLeDiff, Nat.le_refl, not_true_eq_false, not_false_eq_true, r_eq, r_ne, r_lt, r_ge, r_gt, r_le, bz_ne, nn_toNat, cn_of, cn_0, cn_1, i10, Int.reduceLE, Int.reduceLT, Int.reduceEq, bz_T, bz_F, ite_self, mulc, st_bud]
      exact h)
    intro Kn Kr
    have w := w Kn Kr
    rw [show i + ((0 : Nat) : Int) = i by omega, S0] at w
    exact w
  have n5 : k < 5 := by omega
  have nf14 := c5
  clear hb tc' nt c6 b3 ir Sb Ss SE c1 c2 c3 c4 hF hS
  simp (disch := omega) only [↓fX3_priceFrom.eq_1, ↓uX3_priceFrom, ↓k_mk, ↓k_sq, ↓k_sk, ↓k_bk, ↓k_if, ↓k_te, ↓k_cm, ↓k_cz, ↓k_an2, ↓k_or2, ↓k_no, ↓k_ci, ↓k_l0, ↓k_r0, ↓k_se0, ↓k_ic0, ↓k_l1, ↓k_r1, ↓k_se1, ↓k_ic1, ↓k_de1, ↓k_tk1, ↓k_l2, ↓k_r2, ↓k_se2, ↓k_ic2, ↓k_de2, ↓k_tk2, ↓k_l3, ↓k_r3, ↓k_se3, ↓k_ic3, ↓k_de3, ↓k_tk3, ↓k_l4, ↓k_r4, ↓k_se4, ↓k_ic4, ↓k_de4, ↓k_tk4, ↓k_l5, ↓k_r5, ↓k_se5, ↓k_ic5, ↓k_de5, ↓k_tk5, ↓k_l6, ↓k_r6, ↓k_se6, ↓k_ic6, ↓k_de6, ↓k_tk6, ↓k_l7, ↓k_r7, ↓k_se7, ↓k_ic7, ↓k_de7, ↓k_tk7, ↓k_l8, ↓k_r8, ↓k_se8, ↓k_ic8, ↓k_de8, ↓k_tk8, ↓k_l9, ↓k_r9, ↓k_se9, ↓k_ic9, ↓k_de9, ↓k_tk9, ↓k_l10, ↓k_r10, ↓k_se10, ↓k_ic10, ↓k_de10, ↓k_tk10, ↓k_l11, ↓k_r11, ↓k_se11, ↓k_ic11, ↓k_de11, ↓k_tk11, ↓k_l12, ↓k_r12, ↓k_se12, ↓k_ic12, ↓k_de12, ↓k_tk12, ↓k_l13, ↓k_r13, ↓k_se13, ↓k_ic13, ↓k_de13, ↓k_tk13, ↓k_l14, ↓k_r14, ↓k_se14, ↓k_ic14, ↓k_de14, ↓k_tk14, ↓k_l15, ↓k_r15, ↓k_se15, ↓k_ic15, ↓k_de15, ↓k_tk15, ↓k_l16, ↓k_r16, ↓k_se16, ↓k_ic16, ↓k_de16, ↓k_tk16, ↓k_l17, ↓k_r17, ↓k_se17, ↓k_ic17, ↓k_de17, ↓k_tk17, ↓k_l18, ↓k_r18, ↓k_se18, ↓k_ic18, ↓k_de18, ↓k_tk18, ↓k_l19, ↓k_r19, ↓k_se19, ↓k_ic19, ↓k_de19, ↓k_tk19, ↓k_l20, ↓k_r20, ↓k_se20, ↓k_ic20, ↓k_de20, ↓k_tk20, ↓k_l21, ↓k_r21, ↓k_se21, ↓k_ic21, ↓k_de21, ↓k_tk21, ↓k_l22, ↓k_r22, ↓k_se22, ↓k_ic22, ↓k_de22, ↓k_tk22, ↓k_l23, ↓k_r23, ↓k_se23, ↓k_ic23, ↓k_de23, ↓k_tk23, ↓k_l24, ↓k_r24, ↓k_se24, ↓k_ic24, ↓k_de24, ↓k_tk24, ↓k_l25, ↓k_r25, ↓k_se25, ↓k_ic25, ↓k_de25, ↓k_tk25, ↓k_k, ↓k_kn, ↓k_kl, ↓k_kln, ↓k_il, ↓k_2, ↓k_1, ↓k_2c, ↓k_2l, ↓k_ac, ↓k_an, ↓k_cs, ↓k_cv, ↓k_fi, ↓k_fr, ↓k_ai, ↓k_az, ↓k_ar, ↓k_sai, ↓k_saz, ↓k_soa, ↓k_sof, ↓k_spf, ↓k_sx, ↓k_blk, ↓k_sset, ↓k_sdec, ↓k_sri, ↓k_srv, ↓k_srr, ↓k_nop, ↓k_add, ↓k_sub, ↓k_mul, ↓k_min, ↓k_max, ↓k_shr, ↓k_shl, ↓k_or, ↓k_ilz, ↓k_addl, ↓k_rt, ↓k_rb, ↓k_rbz, ↓k_rsi, ↓k_rsr, ↓k_rsv, ↓reduceIte, e4, ↓lw, ↓xr3_1 o, ↓xr8_4 o8, ↓xa8_4 o8, ↓xs8_4 o8, ↓xo8_4 o8, ↓xc8_4 o8, ↓xd8_4 o8, List.length_cons, List.length_nil, List.forall_mem_cons, List.not_mem_nil, Value.category, true_and, and_true, false_and, and_false, or_true, true_or, or_false, false_or, Nat.zero_le, forall_const, implies_true, false_implies, Nat.zero_add, Nat.reduceAdd, Nat.reduceLT, Nat.reduceLeDiff, Nat.le_refl, not_true_eq_false, not_false_eq_true, r_eq, r_ne, r_lt, r_ge, r_gt, r_le, bz_ne, nn_toNat, cn_of, cn_0, cn_1, i10, Int.reduceLE, Int.reduceLT, Int.reduceEq, bz_T, bz_F, ite_self, mulc, st_bud]
/-- the least prices of a span under way: right inside, and not too low -/
def SL (Q : Int → Int → Int → Int) (L : Int → Int) (i j : Int) : Prop := (∀ s x y, 0 ≤ s → s ≤ 5 → i ≤ x → x ≤ y → y ≤ j → ¬ (x = i ∧ y = j) → L (289 * s + 17 * x + y) = cl (Q s x y)) ∧ ∀ s, 0 ≤ s → s ≤ 5 → cl (Q s i j) ≤ L (289 * s + 17 * i + j) ∧ L (289 * s + 17 * i + j) ≤ 16777216
def SR (Q : Int → Int → Int → Int) (ft : Int → Int → Bool) (nf : Int) (C n : Int → Int) (Rr : Int → Int) (i j : Int) : Prop := (∀ f k p, 0 ≤ f → f < nf → 0 ≤ k → k < n f → i < p → p ≤ j → Rr (289 * (5 * f + k) + 17 * p + j) = cl (rF 1000000 Q ft C n j f k p)) ∧ ∀ f k, 0 ≤ f → f < nf → 0 ≤ k → k < n f → cl (rF 1000000 Q ft C n j f k i) ≤ Rr (289 * (5 * f + k) + 17 * i + j) ∧ Rr (289 * (5 * f + k) + 17 * i + j) ≤ 16777216
theorem cl_b {q : Int} (h : 0 ≤ q) : 0 ≤ cl q ∧ cl q ≤ 16777216 := by
  unfold cl
  split <;> omega
theorem cl_far : cl 1000000 = 16777216 := by
  unfold cl
  rw [if_neg (by omega)]
theorem cl_mono {p q : Int} (h : p ≤ q) (h2 : q ≤ 1000000) : cl p ≤ cl q := by
  unfold cl
  split <;> split <;> omega
/-- forms as they lie in the rows -/
theorem X_at {N nf i j : Int} {sf C n L : Int → Int} {ft : Int → Int → Bool} {Q : Int → Int → Int → Int} (hF : FO5 nf sf (fun ff => il (gC C ff) 0 (n ff - 0).toNat)) (hQ : QOK nf sf (fun ff => il (gC C ff) 0 (n ff - 0).toNat) ft N Q) (n16 : N ≤ 16) (i0 : 0 ≤ i) (jN : j ≤ N) (sl : SL Q L i j) {p : Int} (hp : i < p) : ∀ s a b, p ≤ a → a ≤ b → b ≤ j → pq 16777216 L s a b = cl (Q s a b) := fun s a b q1 q2 q3 => by
  by_cases c : 0 ≤ s ∧ s ≤ 5
  · rw [pq_in c]
    exact sl.1 s a b c.1 c.2 (by omega) q2 q3 (by omega)
  · rw [pq_out c, hQ.1 s a b c, cl_far]
theorem X_low {N nf i j : Int} {sf C n L : Int → Int} {ft : Int → Int → Bool} {Q : Int → Int → Int → Int} (hF : FO5 nf sf (fun ff => il (gC C ff) 0 (n ff - 0).toNat)) (hQ : QOK nf sf (fun ff => il (gC C ff) 0 (n ff - 0).toNat) ft N Q) (n16 : N ≤ 16) (i0 : 0 ≤ i) (jN : j ≤ N) (sl : SL Q L i j) : ∀ s a b, i ≤ a → a ≤ b → b ≤ j → cl (Q s a b) ≤ pq 16777216 L s a b := fun s a b q1 q2 q3 => by
  by_cases c : 0 ≤ s ∧ s ≤ 5
  · rw [pq_in c]
    by_cases d : a = i ∧ b = j
    · rw [d.1, d.2]
      exact (sl.2 s c.1 c.2).1
    · exact Int.le_of_eq (sl.1 s a b c.1 c.2 q1 q2 q3 d).symm
  · rw [pq_out c, hQ.1 s a b c, cl_far]
    exact Int.le_refl _
theorem X_b {N nf i j : Int} {sf C n L : Int → Int} {ft : Int → Int → Bool} {Q : Int → Int → Int → Int} (hF : FO5 nf sf (fun ff => il (gC C ff) 0 (n ff - 0).toNat)) (hQ : QOK nf sf (fun ff => il (gC C ff) 0 (n ff - 0).toNat) ft N Q) (n16 : N ≤ 16) (i0 : 0 ≤ i) (jN : j ≤ N) (sl : SL Q L i j) : ∀ s a b, i ≤ a → a ≤ b → b ≤ j → 0 ≤ pq 16777216 L s a b ∧ pq 16777216 L s a b ≤ 16777216 := fun s a b q1 q2 q3 => by
  have h0 := X_low hF hQ n16 i0 jN sl s a b q1 q2 q3
  have h1 := cl_b (Q_nn hQ s (show 0 ≤ a by omega) q2 (by omega)).1
  refine ⟨by omega, ?_⟩
  by_cases c : 0 ≤ s ∧ s ≤ 5
  · rw [pq_in c]
    by_cases d : a = i ∧ b = j
    · rw [d.1, d.2]
      exact (sl.2 s c.1 c.2).2
    · rw [sl.1 s a b c.1 c.2 q1 q2 q3 d]
      exact h1.2
  · rw [pq_out c]
    exact Int.le_refl _
theorem be_b {N nf i j f k it : Int} {sf C n L Rr : Int → Int} {ft : Int → Int → Bool} {Q : Int → Int → Int → Int} (hF : FO5 nf sf (fun ff => il (gC C ff) 0 (n ff - 0).toNat)) (hQ : QOK nf sf (fun ff => il (gC C ff) 0 (n ff - 0).toNat) ft N Q) (n16 : N ≤ 16) (i0 : 0 ≤ i) (ij : i ≤ j) (jN : j ≤ N) (f0 : 0 ≤ f) (f1 : f < nf) (k0 : 0 ≤ k) (k1 : k < n f) (hit : it = C (5 * f + k)) (sl : SL Q L i j) (sr : SR Q ft nf C n Rr i j) {m : Int} (m0 : i ≤ m) (mj : m ≤ j) : 0 ≤ beV Rr n f (k + 1) m j ∧ beV Rr n f (k + 1) m j ≤ 16777216 := by
  unfold beV
  by_cases c : n f ≤ k + 1
  · rw [if_pos c]
    split <;> omega
  · rw [if_neg c]
    have b := cl_b (show 0 ≤ rF 1000000 Q ft C n j f (k + 1) m from rF_nn (by omega) fun s a b q1 q2 q3 => (Q_nn hQ s (by omega) q2 (by omega)).1)
    by_cases e : m = i
    · rw [e] at b ⊢
      have := sr.2 f (k + 1) f0 f1 (by omega) (by omega)
      omega
    · rw [sr.1 f (k + 1) m f0 f1 (by omega) (by omega) (by omega) mj]
      exact b
theorem il_5 {N nf f k : Int} {sf C n : Int → Int} {ft : Int → Int → Bool} {Q : Int → Int → Int → Int} (hF : FO5 nf sf (fun ff => il (gC C ff) 0 (n ff - 0).toNat)) (hQ : QOK nf sf (fun ff => il (gC C ff) 0 (n ff - 0).toNat) ft N Q) (n16 : N ≤ 16) (f0 : 0 ≤ f) (f1 : f < nf) (k0 : 0 ≤ k) : (il (gC C f) k (n f - k).toNat).length ≤ 5 := by
  have h := hF.2 f f0 f1
  have h : (il (gC C f) 0 (n f - 0).toNat).length ≤ 5 := h
  rw [il_len] at h ⊢
  omega
theorem rF_ext {N nf j f k : Int} {sf C n : Int → Int} {ft : Int → Int → Bool} {Q : Int → Int → Int → Int} {X : Int → Int → Int → Int} (hF : FO5 nf sf (fun ff => il (gC C ff) 0 (n ff - 0).toNat)) (hQ : QOK nf sf (fun ff => il (gC C ff) 0 (n ff - 0).toNat) ft N Q) (n16 : N ≤ 16) (f0 : 0 ≤ f) (f1 : f < nf) (k0 : 0 ≤ k) {p : Int} (p0 : 0 ≤ p) (jN : j ≤ N) (hX : ∀ s a b, p ≤ a → a ≤ b → b ≤ j → X s a b = cl (Q s a b)) : rF 16777216 X ft C n j f k p = cl (rF 1000000 Q ft C n j f k p) := rP_ext hF hQ n16 p0 jN (il_5 hF hQ n16 f0 f1 k0) hX
theorem pf_lb {N nf i j f k it : Int} {sf C n L Rr : Int → Int} {ft : Int → Int → Bool} {Q : Int → Int → Int → Int} (hF : FO5 nf sf (fun ff => il (gC C ff) 0 (n ff - 0).toNat)) (hQ : QOK nf sf (fun ff => il (gC C ff) 0 (n ff - 0).toNat) ft N Q) (n16 : N ≤ 16) (i0 : 0 ≤ i) (ij : i ≤ j) (jN : j ≤ N) (f0 : 0 ≤ f) (f1 : f < nf) (k0 : 0 ≤ k) (k1 : k < n f) (hit : it = C (5 * f + k)) (sl : SL Q L i j) (sr : SR Q ft nf C n Rr i j) : cl (rF 1000000 Q ft C n j f k i) ≤ minN (fun m => itP (pq 16777216 L) ft it i m + beV Rr n f (k + 1) m j) i 16777216 (j - i + 1).toNat := by
  rw [← rF_ext (X := fun s a b => cl (Q s a b)) hF hQ n16 f0 f1 k0 i0 jN (fun _ _ _ _ _ _ => rfl), rF_s k1, ← hit]
  refine minN_mono fun z hz => ?_
  have a1 : itP (fun s a b => cl (Q s a b)) ft it i (i + z) ≤ itP (pq 16777216 L) ft it i (i + z) := itP_mono fun _ => X_low hF hQ n16 i0 jN sl _ _ _ (Int.le_refl _) (by omega) (by omega)
  have a2 : rF 16777216 (fun s a b => cl (Q s a b)) ft C n j f (k + 1) (i + z) ≤ beV Rr n f (k + 1) (i + z) j := by
    unfold beV
    by_cases c : n f ≤ k + 1
    · rw [rF_end c, if_pos c]
      exact Int.le_refl _
    · rw [rF_ext (X := fun s a b => cl (Q s a b)) hF hQ n16 f0 f1 (by omega) (by omega) jN (fun _ _ _ _ _ _ => rfl), if_neg c]
      by_cases e : i + (z : Int) = i
      · rw [e]
        exact (sr.2 f (k + 1) f0 f1 (by omega) (by omega)).1
      · rw [sr.1 f (k + 1) (i + z) f0 f1 (by omega) (by omega) (by omega) (by omega)]
        exact Int.le_refl _
  omega
theorem pf_ub {N nf i j f k it : Int} {sf C n L Rr : Int → Int} {ft : Int → Int → Bool} {Q : Int → Int → Int → Int} (hF : FO5 nf sf (fun ff => il (gC C ff) 0 (n ff - 0).toNat)) (hQ : QOK nf sf (fun ff => il (gC C ff) 0 (n ff - 0).toNat) ft N Q) (n16 : N ≤ 16) (i0 : 0 ≤ i) (ij : i ≤ j) (jN : j ≤ N) (f0 : 0 ≤ f) (f1 : f < nf) (k0 : 0 ≤ k) (k1 : k < n f) (hit : it = C (5 * f + k)) (sl : SL Q L i j) (sr : SR Q ft nf C n Rr i j) (u : n f ≤ k + 1 ∨ Rr (289 * (5 * f + (k + 1)) + 17 * i + j) ≤ rF 16777216 (pq 16777216 L) ft C n j f (k + 1) i) : minN (fun m => itP (pq 16777216 L) ft it i m + beV Rr n f (k + 1) m j) i 16777216 (j - i + 1).toNat ≤ rF 16777216 (pq 16777216 L) ft C n j f k i := by
  rw [rF_s k1, ← hit]
  refine minN_mono fun z hz => ?_
  have a2 : beV Rr n f (k + 1) (i + z) j ≤ rF 16777216 (pq 16777216 L) ft C n j f (k + 1) (i + z) := by
    unfold beV
    by_cases c : n f ≤ k + 1
    · rw [rF_end c, if_pos c]
      exact Int.le_refl _
    · rw [if_neg c]
      by_cases e : i + (z : Int) = i
      · rw [e]
        omega
      · rw [sr.1 f (k + 1) (i + z) f0 f1 (by omega) (by omega) (by omega) (by omega), rF_ext hF hQ n16 f0 f1 (by omega) (by omega) jN (X_at hF hQ n16 i0 jN sl (show i < i + (z : Int) by omega))]
        exact Int.le_refl _
  omega
theorem pf_b {N nf i j f k it : Int} {sf C n L Rr : Int → Int} {ft : Int → Int → Bool} {Q : Int → Int → Int → Int} (hF : FO5 nf sf (fun ff => il (gC C ff) 0 (n ff - 0).toNat)) (hQ : QOK nf sf (fun ff => il (gC C ff) 0 (n ff - 0).toNat) ft N Q) (n16 : N ≤ 16) (i0 : 0 ≤ i) (ij : i ≤ j) (jN : j ≤ N) (f0 : 0 ≤ f) (f1 : f < nf) (k0 : 0 ≤ k) (k1 : k < n f) (hit : it = C (5 * f + k)) (sl : SL Q L i j) (sr : SR Q ft nf C n Rr i j) : 0 ≤ minN (fun m => itP (pq 16777216 L) ft it i m + beV Rr n f (k + 1) m j) i 16777216 (j - i + 1).toNat ∧ minN (fun m => itP (pq 16777216 L) ft it i m + beV Rr n f (k + 1) m j) i 16777216 (j - i + 1).toNat ≤ 16777216 := by
  have a1 := pf_lb hF hQ n16 i0 ij jN f0 f1 k0 k1 hit sl sr
  have b := cl_b (show 0 ≤ rF 1000000 Q ft C n j f k i from rF_nn (by omega) fun s a b q1 q2 q3 => (Q_nn hQ s (by omega) q2 (by omega)).1)
  exact ⟨by omega, minN_cap _⟩
end
