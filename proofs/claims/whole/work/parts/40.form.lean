section
/-! a form added -/
def vv5 (a b c d e k : Int) : Int := if k = 0 then a else if k = 1 then b else if k = 2 then c else if k = 3 then d else e
def g5 (G : Nat → Int → Int) (A : Nat) (a b c d e : Int) : Nat → Int → Int := gs (gs (gs (gs (gs G A 0 a) A 1 b) A 2 c) A 3 d) A 4 e
theorem g5_ne {G : Nat → Int → Int} {A A' : Nat} {a b c d e : Int} (h : ¬ A' = A) : g5 G A a b c d e A' = G A' := by
  unfold g5
  rw [gs_ne h, gs_ne h, gs_ne h, gs_ne h, gs_ne h]
theorem g5_at {G : Nat → Int → Int} {A : Nat} {a b c d e k : Int} (h0 : 0 ≤ k) (h1 : k < 5) : g5 G A a b c d e A k = vv5 a b c d e k := by
  unfold g5 vv5
  rw [gs_at, gs_at, gs_at, gs_at, gs_at]
  have : k = 0 ∨ k = 1 ∨ k = 2 ∨ k = 3 ∨ k = 4 := by omega
  rcases this with rfl | rfl | rfl | rfl | rfl <;> rfl
theorem vv5_b {a b c d e k : Int} (ha : -2147483648 ≤ a ∧ a < 2147483648) (hb : -2147483648 ≤ b ∧ b < 2147483648) (hc : -2147483648 ≤ c ∧ c < 2147483648) (hd : -2147483648 ≤ d ∧ d < 2147483648) (he : -2147483648 ≤ e ∧ e < 2147483648) : -2147483648 ≤ vv5 a b c d e k ∧ vv5 a b c d e k < 2147483648 := by
  unfold vv5
  repeat' split
  all_goals assumption
/-- how many stand before the first -1 -/
def cnt5 (x : Int → Int) : Nat := if x 0 = -1 then 0 else if x 1 = -1 then 1 else if x 2 = -1 then 2 else if x 3 = -1 then 3 else if x 4 = -1 then 4 else 5
theorem cnt5_p (x : Int → Int) : cnt5 x ≤ 5 ∧ (∀ k : Int, 0 ≤ k → k < cnt5 x → ¬ x k = -1) ∧ (cnt5 x < 5 → x (cnt5 x) = -1) := by
  unfold cnt5
  by_cases h0 : x 0 = -1
  · rw [if_pos h0]
    exact ⟨by omega, fun k a b => by omega, fun _ => h0⟩
  rw [if_neg h0]
  by_cases h1 : x 1 = -1
  · rw [if_pos h1]
    refine ⟨by omega, fun k a b => ?_, fun _ => h1⟩
    have : k = 0 := by omega
    subst this
    exact h0
  rw [if_neg h1]
  by_cases h2 : x 2 = -1
  · rw [if_pos h2]
    refine ⟨by omega, fun k a b => ?_, fun _ => h2⟩
    have : k = 0 ∨ k = 1 := by omega
    rcases this with rfl | rfl <;> assumption
  rw [if_neg h2]
  by_cases h3 : x 3 = -1
  · rw [if_pos h3]
    refine ⟨by omega, fun k a b => ?_, fun _ => h3⟩
    have : k = 0 ∨ k = 1 ∨ k = 2 := by omega
    rcases this with rfl | rfl | rfl <;> assumption
  rw [if_neg h3]
  by_cases h4 : x 4 = -1
  · rw [if_pos h4]
    refine ⟨by omega, fun k a b => ?_, fun _ => h4⟩
    have : k = 0 ∨ k = 1 ∨ k = 2 ∨ k = 3 := by omega
    rcases this with rfl | rfl | rfl | rfl <;> assumption
  rw [if_neg h4]
  refine ⟨by omega, fun k a b => ?_, fun q => by omega⟩
  have : k = 0 ∨ k = 1 ∨ k = 2 ∨ k = 3 ∨ k = 4 := by omega
  rcases this with rfl | rfl | rfl | rfl | rfl <;> assumption
theorem c11_listFive {T : Nat → Option q_T} {nx rc rs B t1 t2 t3 t4 : Nat} {R : Nat → Nat → Option Value} {G : Nat → Int → Int} {a b c d e : Int} {K : Option Value → q_M → Prop} (hL : Ly T R B (L11x B t1 t2 t3 t4)) :
    fX11_listFive [.ref B, .int (zI a), .int (zI b), .int (zI c), .int (zI d), .int (zI e)] (st T nx rc rs R G) K = K none (st T nx rc rs R (g5 G (B + 16) a b c d e)) := by
  simp (config := { contextual := true }) (disch := omega) only [fX11_listFive, sX11_listFive_, q_mk, q_sq, q_if, q_te, q_cm, e_cz, q_an2, q_or2, q_no, q_ci, q_l, q_r, e_k, e_kn, e_kl, e_il, q_2, q_2d, q_2c, q_1, q_cs, q_cv, q_ac, q_an, q_sri, q_srv, q_srr, q_nop, q_sset, q_sdec, e_inc, q_spf, q_sof, q_sai, q_saz, q_soa, q_sx, q_blk, q_fi, q_fr, q_ai, q_az, q_ar, List.getElem?_cons_zero, List.getElem?_cons_succ, List.length_cons, List.length_nil, List.set_cons_zero, List.set_cons_succ, List.cons_append, List.nil_append, List.take_succ_cons, List.take_zero, Option.some.injEq, Value.int.injEq, Value.ref.injEq, Value.long.injEq, Sum.inr.injEq, Sum.inl.injEq, Prod.mk.injEq, exists_eq_left, exists_eq_left', and_assoc, exists_and_left, List.forall_mem_cons, List.not_mem_nil, Value.category, true_and, and_true, Nat.zero_le, forall_const, implies_true, Nat.zero_add, Nat.reduceAdd, Nat.reduceLT, Nat.reduceLeDiff, Nat.le_refl, Nat.sub_zero, q_cI, q_cR, q_cV, q_cV2, q_budz, true_implies, false_implies, not_true_eq_false, not_false_eq_true, isref_o, isref_a, q_oi, q_or, q_ov, g_add, g_sub, g_mul, zI_add, r_eq, r_ne, r_lt, r_ge, r_gt, r_le, bz_ne, st_T, st_rc, st_rs, st_M, st_bud, st_set, st_setR, zI_clamp, nn_toNat, zI_inI, cn_of, cn_0, cn_1, Option.getD_none, Option.getD_some, bok_bz, bok_z1, bok_z0, i10, t11 hL, r11_6 hL, t11_6 hL, v11_6 hL, w11_6 hL]
  rfl
theorem c11_countItems {T : Nat → Option q_T} {nx rc rs B t1 t2 t3 t4 : Nat} {R : Nat → Nat → Option Value} {G : Nat → Int → Int} {x : Int → Int} {K : Option Value → q_M → Prop} (hL : Ly T R B (L11x B t1 t2 t3 t4)) (hx : ∀ k : Int, 0 ≤ k → k < 5 → G (B + 16) k = x k ∧ -2147483648 ≤ x k ∧ x k < 2147483648) :
    fX11_countItems [.ref B] (st T nx rc rs R G) K = K (some (.int (zI (cnt5 x)))) (st T nx rc rs R G) := by
  obtain ⟨p1, p2, p3⟩ := cnt5_p x
  refine propext (q_dF.is dX11_countItems ?_ K)
  simp (config := { contextual := true }) (disch := omega) only [fX11_countItems, uX11_countItems, q_mk, q_sq, q_if, q_te, q_cm, e_cz, q_an2, q_or2, q_no, q_ci, q_l, q_r, e_k, e_kn, e_kl, e_il, q_2, q_2d, q_2c, q_1, q_cs, q_cv, q_ac, q_an, q_sri, q_srv, q_srr, q_nop, q_sset, q_sdec, e_inc, q_spf, q_sof, q_sai, q_saz, q_soa, q_sx, q_blk, q_fi, q_fr, q_ai, q_az, q_ar, List.getElem?_cons_zero, List.getElem?_cons_succ, List.length_cons, List.length_nil, List.set_cons_zero, List.set_cons_succ, List.cons_append, List.nil_append, List.take_succ_cons, List.take_zero, Option.some.injEq, Value.int.injEq, Value.ref.injEq, Value.long.injEq, Sum.inr.injEq, Sum.inl.injEq, Prod.mk.injEq, exists_eq_left, exists_eq_left', and_assoc, exists_and_left, List.forall_mem_cons, List.not_mem_nil, Value.category, true_and, and_true, Nat.zero_le, forall_const, implies_true, Nat.zero_add, Nat.reduceAdd, Nat.reduceLT, Nat.reduceLeDiff, Nat.le_refl, Nat.sub_zero, q_cI, q_cR, q_cV, q_cV2, q_budz, true_implies, false_implies, not_true_eq_false, not_false_eq_true, isref_o, isref_a, q_oi, q_or, q_ov, g_add, g_sub, g_mul, zI_add, r_eq, r_ne, r_lt, r_ge, r_gt, r_le, bz_ne, st_T, st_rc, st_rs, st_M, st_bud, st_set, st_setR, zI_clamp, nn_toNat, zI_inI, cn_of, cn_0, cn_1, Option.getD_none, Option.getD_some, bok_bz, bok_z1, bok_z0, i10, t11 hL, r11_6 hL, t11_6 hL, v11_6 hL, w11_6 hL]
  refine lX11_countItems_0 (fun n env μ => ∃ k : Nat, k + n = cnt5 x ∧ env = [.ref B, .int (zI k)] ∧ μ = st T nx rc rs R G) ?_ (cnt5 x) _ _ ⟨0, by omega, rfl, rfl⟩
  intro n env μ ⟨k, hk, he, hm⟩
  subst he hm
  by_cases hlt : k < cnt5 x
  · have g := hx k (by omega) (by omega)
    have g2 := p2 k (by omega) (by omega)
    have g3 : (k : Int) < 5 := by omega
    simp (config := { contextual := true }) (disch := omega) only [q_mk, q_sq, q_if, q_te, q_cm, e_cz, q_an2, q_or2, q_no, q_ci, q_l, q_r, e_k, e_kn, e_kl, e_il, q_2, q_2d, q_2c, q_1, q_cs, q_cv, q_ac, q_an, q_sri, q_srv, q_srr, q_nop, q_sset, q_sdec, e_inc, q_spf, q_sof, q_sai, q_saz, q_soa, q_sx, q_blk, q_fi, q_fr, q_ai, q_az, q_ar, List.getElem?_cons_zero, List.getElem?_cons_succ, List.length_cons, List.length_nil, List.set_cons_zero, List.set_cons_succ, List.cons_append, List.nil_append, List.take_succ_cons, List.take_zero, Option.some.injEq, Value.int.injEq, Value.ref.injEq, Value.long.injEq, Sum.inr.injEq, Sum.inl.injEq, Prod.mk.injEq, exists_eq_left, exists_eq_left', and_assoc, exists_and_left, List.forall_mem_cons, List.not_mem_nil, Value.category, true_and, and_true, Nat.zero_le, forall_const, implies_true, Nat.zero_add, Nat.reduceAdd, Nat.reduceLT, Nat.reduceLeDiff, Nat.le_refl, Nat.sub_zero, q_cI, q_cR, q_cV, q_cV2, q_budz, true_implies, false_implies, not_true_eq_false, not_false_eq_true, isref_o, isref_a, q_oi, q_or, q_ov, g_add, g_sub, g_mul, zI_add, r_eq, r_ne, r_lt, r_ge, r_gt, r_le, bz_ne, st_T, st_rc, st_rs, st_M, st_bud, st_set, st_setR, zI_clamp, nn_toNat, zI_inI, cn_of, cn_0, cn_1, Option.getD_none, Option.getD_some, bok_bz, bok_z1, bok_z0, i10, wcX11_countItems_0, wsX11_countItems_0, g.1, g2, g3, t11 hL, r11_6 hL, t11_6 hL, v11_6 hL, w11_6 hL]
    exact ⟨n - 1, by omega, k + 1, by omega, rfl⟩
  · have e : k = cnt5 x := by omega
    by_cases h5 : k < 5
    · have g := hx k (by omega) (by omega)
      have g3 : (k : Int) < 5 := by omega
      have g2 : x k = -1 := by rw [e]; exact p3 (by omega)
      simp (config := { contextual := true }) (disch := omega) only [q_mk, q_sq, q_if, q_te, q_cm, e_cz, q_an2, q_or2, q_no, q_ci, q_l, q_r, e_k, e_kn, e_kl, e_il, q_2, q_2d, q_2c, q_1, q_cs, q_cv, q_ac, q_an, q_sri, q_srv, q_srr, q_nop, q_sset, q_sdec, e_inc, q_spf, q_sof, q_sai, q_saz, q_soa, q_sx, q_blk, q_fi, q_fr, q_ai, q_az, q_ar, List.getElem?_cons_zero, List.getElem?_cons_succ, List.length_cons, List.length_nil, List.set_cons_zero, List.set_cons_succ, List.cons_append, List.nil_append, List.take_succ_cons, List.take_zero, Option.some.injEq, Value.int.injEq, Value.ref.injEq, Value.long.injEq, Sum.inr.injEq, Sum.inl.injEq, Prod.mk.injEq, exists_eq_left, exists_eq_left', and_assoc, exists_and_left, List.forall_mem_cons, List.not_mem_nil, Value.category, true_and, and_true, Nat.zero_le, forall_const, implies_true, Nat.zero_add, Nat.reduceAdd, Nat.reduceLT, Nat.reduceLeDiff, Nat.le_refl, Nat.sub_zero, q_cI, q_cR, q_cV, q_cV2, q_budz, true_implies, false_implies, not_true_eq_false, not_false_eq_true, isref_o, isref_a, q_oi, q_or, q_ov, g_add, g_sub, g_mul, zI_add, r_eq, r_ne, r_lt, r_ge, r_gt, r_le, bz_ne, st_T, st_rc, st_rs, st_M, st_bud, st_set, st_setR, zI_clamp, nn_toNat, zI_inI, cn_of, cn_0, cn_1, Option.getD_none, Option.getD_some, bok_bz, bok_z1, bok_z0, i10, wcX11_countItems_0, wsX11_countItems_0, g.1, g2, g3, t11 hL, r11_6 hL, t11_6 hL, v11_6 hL, w11_6 hL]
      rw [← e]
    · have g3 : ¬ (k : Int) < 5 := by omega
      simp (config := { contextual := true }) (disch := omega) only [q_mk, q_sq, q_if, q_te, q_cm, e_cz, q_an2, q_or2, q_no, q_ci, q_l, q_r, e_k, e_kn, e_kl, e_il, q_2, q_2d, q_2c, q_1, q_cs, q_cv, q_ac, q_an, q_sri, q_srv, q_srr, q_nop, q_sset, q_sdec, e_inc, q_spf, q_sof, q_sai, q_saz, q_soa, q_sx, q_blk, q_fi, q_fr, q_ai, q_az, q_ar, List.getElem?_cons_zero, List.getElem?_cons_succ, List.length_cons, List.length_nil, List.set_cons_zero, List.set_cons_succ, List.cons_append, List.nil_append, List.take_succ_cons, List.take_zero, Option.some.injEq, Value.int.injEq, Value.ref.injEq, Value.long.injEq, Sum.inr.injEq, Sum.inl.injEq, Prod.mk.injEq, exists_eq_left, exists_eq_left', and_assoc, exists_and_left, List.forall_mem_cons, List.not_mem_nil, Value.category, true_and, and_true, Nat.zero_le, forall_const, implies_true, Nat.zero_add, Nat.reduceAdd, Nat.reduceLT, Nat.reduceLeDiff, Nat.le_refl, Nat.sub_zero, q_cI, q_cR, q_cV, q_cV2, q_budz, true_implies, false_implies, not_true_eq_false, not_false_eq_true, isref_o, isref_a, q_oi, q_or, q_ov, g_add, g_sub, g_mul, zI_add, r_eq, r_ne, r_lt, r_ge, r_gt, r_le, bz_ne, st_T, st_rc, st_rs, st_M, st_bud, st_set, st_setR, zI_clamp, nn_toNat, zI_inI, cn_of, cn_0, cn_1, Option.getD_none, Option.getD_some, bok_bz, bok_z1, bok_z0, i10, wcX11_countItems_0, wsX11_countItems_0, g3, t11 hL, r11_6 hL, t11_6 hL, v11_6 hL, w11_6 hL]
      rw [← e]
/-- all n are items -/
def allI (x : Int → Int) (n : Nat) : Prop := ∀ k : Int, 0 ≤ k → k < n → isIt (x k)
/-- a form can be made of them -/
def goodF (x : Int → Int) (n : Nat) (s : Int) : Prop := ¬ n = 0 ∧ ¬ (n = 1 ∧ (60 ≤ x 0 ∧ x 0 ≤ 65) ∧ x 0 - 60 ≤ s)
theorem c11_areItems {T : Nat → Option q_T} {nx rc rs B t1 t2 t3 t4 n : Nat} {R : Nat → Nat → Option Value} {G : Nat → Int → Int} {x : Int → Int} {s b : Int} {K : Option Value → q_M → Prop} (hL : Ly T R B (L11x B t1 t2 t3 t4)) (hx : ∀ k : Int, 0 ≤ k → k < 5 → G (B + 16) k = x k ∧ -2147483648 ≤ x k ∧ x k < 2147483648) (hn : n ≤ 5) (hs : 0 ≤ s ∧ s ≤ 5)
    (hb : (b = 1 ∧ allI x n ∧ goodF x n s) ∨ (b = 0 ∧ ¬ (allI x n ∧ goodF x n s))) :
    fX11_areItems [.ref B, .int (zI s), .int (zI n)] (st T nx rc rs R G) K = K (some (.int (zI b))) (st T nx rc rs R G) := by
  refine propext (q_dF.is dX11_areItems ?_ K)
  simp (config := { contextual := true }) (disch := omega) only [fX11_areItems, uX11_areItems, q_mk, q_sq, q_if, q_te, q_cm, e_cz, q_an2, q_or2, q_no, q_ci, q_l, q_r, e_k, e_kn, e_kl, e_il, q_2, q_2d, q_2c, q_1, q_cs, q_cv, q_ac, q_an, q_sri, q_srv, q_srr, q_nop, q_sset, q_sdec, e_inc, q_spf, q_sof, q_sai, q_saz, q_soa, q_sx, q_blk, q_fi, q_fr, q_ai, q_az, q_ar, List.getElem?_cons_zero, List.getElem?_cons_succ, List.length_cons, List.length_nil, List.set_cons_zero, List.set_cons_succ, List.cons_append, List.nil_append, List.take_succ_cons, List.take_zero, Option.some.injEq, Value.int.injEq, Value.ref.injEq, Value.long.injEq, Sum.inr.injEq, Sum.inl.injEq, Prod.mk.injEq, exists_eq_left, exists_eq_left', and_assoc, exists_and_left, List.forall_mem_cons, List.not_mem_nil, Value.category, true_and, and_true, Nat.zero_le, forall_const, implies_true, Nat.zero_add, Nat.reduceAdd, Nat.reduceLT, Nat.reduceLeDiff, Nat.le_refl, Nat.sub_zero, q_cI, q_cR, q_cV, q_cV2, q_budz, true_implies, false_implies, not_true_eq_false, not_false_eq_true, isref_o, isref_a, q_oi, q_or, q_ov, g_add, g_sub, g_mul, zI_add, r_eq, r_ne, r_lt, r_ge, r_gt, r_le, bz_ne, st_T, st_rc, st_rs, st_M, st_bud, st_set, st_setR, zI_clamp, nn_toNat, zI_inI, cn_of, cn_0, cn_1, Option.getD_none, Option.getD_some, bok_bz, bok_z1, bok_z0, i10, t11 hL, r11_6 hL, t11_6 hL, v11_6 hL, w11_6 hL]
  refine lX11_areItems_0 (fun m env μ => ∃ k : Nat, k + m = n ∧ (∀ i : Int, 0 ≤ i → i < k → isIt (x i)) ∧ env = [.ref B, .int (zI s), .int (zI n), .int (zI k)] ∧ μ = st T nx rc rs R G) ?_ n _ _ ⟨0, by omega, fun i q1 q2 => by omega, rfl, rfl⟩
  intro m env μ ⟨k, hk, hall, he, hm⟩
  subst he hm
  by_cases hlt : k < n
  · have g := hx k (by omega) (by omega)
    by_cases hi : (((0 ≤ x k ∧ x k ≤ 11) ∨ x k = 20) ∨ x k = 40) ∨ (60 ≤ x k ∧ x k ≤ 65)
    · simp (config := { contextual := true }) (disch := omega) only [q_mk, q_sq, q_if, q_te, q_cm, e_cz, q_an2, q_or2, q_no, q_ci, q_l, q_r, e_k, e_kn, e_kl, e_il, q_2, q_2d, q_2c, q_1, q_cs, q_cv, q_ac, q_an, q_sri, q_srv, q_srr, q_nop, q_sset, q_sdec, e_inc, q_spf, q_sof, q_sai, q_saz, q_soa, q_sx, q_blk, q_fi, q_fr, q_ai, q_az, q_ar, List.getElem?_cons_zero, List.getElem?_cons_succ, List.length_cons, List.length_nil, List.set_cons_zero, List.set_cons_succ, List.cons_append, List.nil_append, List.take_succ_cons, List.take_zero, Option.some.injEq, Value.int.injEq, Value.ref.injEq, Value.long.injEq, Sum.inr.injEq, Sum.inl.injEq, Prod.mk.injEq, exists_eq_left, exists_eq_left', and_assoc, exists_and_left, List.forall_mem_cons, List.not_mem_nil, Value.category, true_and, and_true, Nat.zero_le, forall_const, implies_true, Nat.zero_add, Nat.reduceAdd, Nat.reduceLT, Nat.reduceLeDiff, Nat.le_refl, Nat.sub_zero, q_cI, q_cR, q_cV, q_cV2, q_budz, true_implies, false_implies, not_true_eq_false, not_false_eq_true, isref_o, isref_a, q_oi, q_or, q_ov, g_add, g_sub, g_mul, zI_add, r_eq, r_ne, r_lt, r_ge, r_gt, r_le, bz_ne, st_T, st_rc, st_rs, st_M, st_bud, st_set, st_setR, zI_clamp, nn_toNat, zI_inI, cn_of, cn_0, cn_1, Option.getD_none, Option.getD_some, bok_bz, bok_z1, bok_z0, i10, wcX11_areItems_0, wsX11_areItems_0, c11_isItem, g.1, hi, t11 hL, r11_6 hL, t11_6 hL, v11_6 hL, w11_6 hL]
      refine ⟨m - 1, by omega, k + 1, by omega, fun i q1 q2 => ?_, rfl⟩
      by_cases e : i = k
      · rw [e]
        exact hi
      · exact hall i q1 (by omega)
    · have hb0 : b = 0 := by
        rcases hb with ⟨_, h1, _⟩ | h
        · exact absurd (h1 k (by omega) (by omega)) hi
        · exact h.1
      simp (config := { contextual := true }) (disch := omega) only [q_mk, q_sq, q_if, q_te, q_cm, e_cz, q_an2, q_or2, q_no, q_ci, q_l, q_r, e_k, e_kn, e_kl, e_il, q_2, q_2d, q_2c, q_1, q_cs, q_cv, q_ac, q_an, q_sri, q_srv, q_srr, q_nop, q_sset, q_sdec, e_inc, q_spf, q_sof, q_sai, q_saz, q_soa, q_sx, q_blk, q_fi, q_fr, q_ai, q_az, q_ar, List.getElem?_cons_zero, List.getElem?_cons_succ, List.length_cons, List.length_nil, List.set_cons_zero, List.set_cons_succ, List.cons_append, List.nil_append, List.take_succ_cons, List.take_zero, Option.some.injEq, Value.int.injEq, Value.ref.injEq, Value.long.injEq, Sum.inr.injEq, Sum.inl.injEq, Prod.mk.injEq, exists_eq_left, exists_eq_left', and_assoc, exists_and_left, List.forall_mem_cons, List.not_mem_nil, Value.category, true_and, and_true, Nat.zero_le, forall_const, implies_true, Nat.zero_add, Nat.reduceAdd, Nat.reduceLT, Nat.reduceLeDiff, Nat.le_refl, Nat.sub_zero, q_cI, q_cR, q_cV, q_cV2, q_budz, true_implies, false_implies, not_true_eq_false, not_false_eq_true, isref_o, isref_a, q_oi, q_or, q_ov, g_add, g_sub, g_mul, zI_add, r_eq, r_ne, r_lt, r_ge, r_gt, r_le, bz_ne, st_T, st_rc, st_rs, st_M, st_bud, st_set, st_setR, zI_clamp, nn_toNat, zI_inI, cn_of, cn_0, cn_1, Option.getD_none, Option.getD_some, bok_bz, bok_z1, bok_z0, i10, wcX11_areItems_0, wsX11_areItems_0, c11_isItem, g.1, hi, hb0, t11 hL, r11_6 hL, t11_6 hL, v11_6 hL, w11_6 hL]
  · have e : k = n := by omega
    subst e
    have g := hx 0 (by omega) (by omega)
    have hg : (b = 1 ∧ goodF x k s) ∨ (b = 0 ∧ ¬ goodF x k s) := by
      rcases hb with h | h
      · exact Or.inl ⟨h.1, h.2.2⟩
      · exact Or.inr ⟨h.1, fun q => h.2 ⟨hall, q⟩⟩
    unfold goodF at hg
    by_cases h0 : k = 0
    · have hb0 : b = 0 := by omega
      subst h0
      simp (config := { contextual := true }) (disch := omega) only [q_mk, q_sq, q_if, q_te, q_cm, e_cz, q_an2, q_or2, q_no, q_ci, q_l, q_r, e_k, e_kn, e_kl, e_il, q_2, q_2d, q_2c, q_1, q_cs, q_cv, q_ac, q_an, q_sri, q_srv, q_srr, q_nop, q_sset, q_sdec, e_inc, q_spf, q_sof, q_sai, q_saz, q_soa, q_sx, q_blk, q_fi, q_fr, q_ai, q_az, q_ar, List.getElem?_cons_zero, List.getElem?_cons_succ, List.length_cons, List.length_nil, List.set_cons_zero, List.set_cons_succ, List.cons_append, List.nil_append, List.take_succ_cons, List.take_zero, Option.some.injEq, Value.int.injEq, Value.ref.injEq, Value.long.injEq, Sum.inr.injEq, Sum.inl.injEq, Prod.mk.injEq, exists_eq_left, exists_eq_left', and_assoc, exists_and_left, List.forall_mem_cons, List.not_mem_nil, Value.category, true_and, and_true, Nat.zero_le, forall_const, implies_true, Nat.zero_add, Nat.reduceAdd, Nat.reduceLT, Nat.reduceLeDiff, Nat.le_refl, Nat.sub_zero, q_cI, q_cR, q_cV, q_cV2, q_budz, true_implies, false_implies, not_true_eq_false, not_false_eq_true, isref_o, isref_a, q_oi, q_or, q_ov, g_add, g_sub, g_mul, zI_add, r_eq, r_ne, r_lt, r_ge, r_gt, r_le, bz_ne, st_T, st_rc, st_rs, st_M, st_bud, st_set, st_setR, zI_clamp, nn_toNat, zI_inI, cn_of, cn_0, cn_1, Option.getD_none, Option.getD_some, bok_bz, bok_z1, bok_z0, i10, wcX11_areItems_0, wsX11_areItems_0, c11_isSort, g.1, hb0, i10, t11 hL, r11_6 hL, t11_6 hL, v11_6 hL, w11_6 hL]
    · have h0z : (0 : Int) < k := by omega
      by_cases h1 : k = 1
      · subst h1
        by_cases h2 : 60 ≤ x 0 ∧ x 0 ≤ 65
        · by_cases h3 : x 0 - 60 ≤ s
          · have hb0 : b = 0 := by omega
            simp (config := { contextual := true }) (disch := omega) only [q_mk, q_sq, q_if, q_te, q_cm, e_cz, q_an2, q_or2, q_no, q_ci, q_l, q_r, e_k, e_kn, e_kl, e_il, q_2, q_2d, q_2c, q_1, q_cs, q_cv, q_ac, q_an, q_sri, q_srv, q_srr, q_nop, q_sset, q_sdec, e_inc, q_spf, q_sof, q_sai, q_saz, q_soa, q_sx, q_blk, q_fi, q_fr, q_ai, q_az, q_ar, List.getElem?_cons_zero, List.getElem?_cons_succ, List.length_cons, List.length_nil, List.set_cons_zero, List.set_cons_succ, List.cons_append, List.nil_append, List.take_succ_cons, List.take_zero, Option.some.injEq, Value.int.injEq, Value.ref.injEq, Value.long.injEq, Sum.inr.injEq, Sum.inl.injEq, Prod.mk.injEq, exists_eq_left, exists_eq_left', and_assoc, exists_and_left, List.forall_mem_cons, List.not_mem_nil, Value.category, true_and, and_true, Nat.zero_le, forall_const, implies_true, Nat.zero_add, Nat.reduceAdd, Nat.reduceLT, Nat.reduceLeDiff, Nat.le_refl, Nat.sub_zero, q_cI, q_cR, q_cV, q_cV2, q_budz, true_implies, false_implies, not_true_eq_false, not_false_eq_true, isref_o, isref_a, q_oi, q_or, q_ov, g_add, g_sub, g_mul, zI_add, r_eq, r_ne, r_lt, r_ge, r_gt, r_le, bz_ne, st_T, st_rc, st_rs, st_M, st_bud, st_set, st_setR, zI_clamp, nn_toNat, zI_inI, cn_of, cn_0, cn_1, Option.getD_none, Option.getD_some, bok_bz, bok_z1, bok_z0, i10, wcX11_areItems_0, wsX11_areItems_0, c11_isSort, g.1, hb0, h2, h3, i10, i01, t11 hL, r11_6 hL, t11_6 hL, v11_6 hL, w11_6 hL]
          · have hb0 : b = 1 := by omega
            simp (config := { contextual := true }) (disch := omega) only [q_mk, q_sq, q_if, q_te, q_cm, e_cz, q_an2, q_or2, q_no, q_ci, q_l, q_r, e_k, e_kn, e_kl, e_il, q_2, q_2d, q_2c, q_1, q_cs, q_cv, q_ac, q_an, q_sri, q_srv, q_srr, q_nop, q_sset, q_sdec, e_inc, q_spf, q_sof, q_sai, q_saz, q_soa, q_sx, q_blk, q_fi, q_fr, q_ai, q_az, q_ar, List.getElem?_cons_zero, List.getElem?_cons_succ, List.length_cons, List.length_nil, List.set_cons_zero, List.set_cons_succ, List.cons_append, List.nil_append, List.take_succ_cons, List.take_zero, Option.some.injEq, Value.int.injEq, Value.ref.injEq, Value.long.injEq, Sum.inr.injEq, Sum.inl.injEq, Prod.mk.injEq, exists_eq_left, exists_eq_left', and_assoc, exists_and_left, List.forall_mem_cons, List.not_mem_nil, Value.category, true_and, and_true, Nat.zero_le, forall_const, implies_true, Nat.zero_add, Nat.reduceAdd, Nat.reduceLT, Nat.reduceLeDiff, Nat.le_refl, Nat.sub_zero, q_cI, q_cR, q_cV, q_cV2, q_budz, true_implies, false_implies, not_true_eq_false, not_false_eq_true, isref_o, isref_a, q_oi, q_or, q_ov, g_add, g_sub, g_mul, zI_add, r_eq, r_ne, r_lt, r_ge, r_gt, r_le, bz_ne, st_T, st_rc, st_rs, st_M, st_bud, st_set, st_setR, zI_clamp, nn_toNat, zI_inI, cn_of, cn_0, cn_1, Option.getD_none, Option.getD_some, bok_bz, bok_z1, bok_z0, i10, wcX11_areItems_0, wsX11_areItems_0, c11_isSort, g.1, hb0, h2, h3, i10, i01, t11 hL, r11_6 hL, t11_6 hL, v11_6 hL, w11_6 hL]
        · have hb0 : b = 1 := by omega
          simp (config := { contextual := true }) (disch := omega) only [q_mk, q_sq, q_if, q_te, q_cm, e_cz, q_an2, q_or2, q_no, q_ci, q_l, q_r, e_k, e_kn, e_kl, e_il, q_2, q_2d, q_2c, q_1, q_cs, q_cv, q_ac, q_an, q_sri, q_srv, q_srr, q_nop, q_sset, q_sdec, e_inc, q_spf, q_sof, q_sai, q_saz, q_soa, q_sx, q_blk, q_fi, q_fr, q_ai, q_az, q_ar, List.getElem?_cons_zero, List.getElem?_cons_succ, List.length_cons, List.length_nil, List.set_cons_zero, List.set_cons_succ, List.cons_append, List.nil_append, List.take_succ_cons, List.take_zero, Option.some.injEq, Value.int.injEq, Value.ref.injEq, Value.long.injEq, Sum.inr.injEq, Sum.inl.injEq, Prod.mk.injEq, exists_eq_left, exists_eq_left', and_assoc, exists_and_left, List.forall_mem_cons, List.not_mem_nil, Value.category, true_and, and_true, Nat.zero_le, forall_const, implies_true, Nat.zero_add, Nat.reduceAdd, Nat.reduceLT, Nat.reduceLeDiff, Nat.le_refl, Nat.sub_zero, q_cI, q_cR, q_cV, q_cV2, q_budz, true_implies, false_implies, not_true_eq_false, not_false_eq_true, isref_o, isref_a, q_oi, q_or, q_ov, g_add, g_sub, g_mul, zI_add, r_eq, r_ne, r_lt, r_ge, r_gt, r_le, bz_ne, st_T, st_rc, st_rs, st_M, st_bud, st_set, st_setR, zI_clamp, nn_toNat, zI_inI, cn_of, cn_0, cn_1, Option.getD_none, Option.getD_some, bok_bz, bok_z1, bok_z0, i10, wcX11_areItems_0, wsX11_areItems_0, c11_isSort, g.1, hb0, h2, i10, i01, t11 hL, r11_6 hL, t11_6 hL, v11_6 hL, w11_6 hL]
      · have hb0 : b = 1 := by omega
        have h1z : ¬ (k : Int) = 1 := by omega
        simp (config := { contextual := true }) (disch := omega) only [q_mk, q_sq, q_if, q_te, q_cm, e_cz, q_an2, q_or2, q_no, q_ci, q_l, q_r, e_k, e_kn, e_kl, e_il, q_2, q_2d, q_2c, q_1, q_cs, q_cv, q_ac, q_an, q_sri, q_srv, q_srr, q_nop, q_sset, q_sdec, e_inc, q_spf, q_sof, q_sai, q_saz, q_soa, q_sx, q_blk, q_fi, q_fr, q_ai, q_az, q_ar, List.getElem?_cons_zero, List.getElem?_cons_succ, List.length_cons, List.length_nil, List.set_cons_zero, List.set_cons_succ, List.cons_append, List.nil_append, List.take_succ_cons, List.take_zero, Option.some.injEq, Value.int.injEq, Value.ref.injEq, Value.long.injEq, Sum.inr.injEq, Sum.inl.injEq, Prod.mk.injEq, exists_eq_left, exists_eq_left', and_assoc, exists_and_left, List.forall_mem_cons, List.not_mem_nil, Value.category, true_and, and_true, Nat.zero_le, forall_const, implies_true, Nat.zero_add, Nat.reduceAdd, Nat.reduceLT, Nat.reduceLeDiff, Nat.le_refl, Nat.sub_zero, q_cI, q_cR, q_cV, q_cV2, q_budz, true_implies, false_implies, not_true_eq_false, not_false_eq_true, isref_o, isref_a, q_oi, q_or, q_ov, g_add, g_sub, g_mul, zI_add, r_eq, r_ne, r_lt, r_ge, r_gt, r_le, bz_ne, st_T, st_rc, st_rs, st_M, st_bud, st_set, st_setR, zI_clamp, nn_toNat, zI_inI, cn_of, cn_0, cn_1, Option.getD_none, Option.getD_some, bok_bz, bok_z1, bok_z0, i10, wcX11_areItems_0, wsX11_areItems_0, c11_isSort, g.1, hb0, h0z, h1z, i10, i01, t11 hL, r11_6 hL, t11_6 hL, v11_6 hL, w11_6 hL]
end
section
theorem fw_s {g : Int → Int} {lo hi v : Int} {f : Int → Int} (h : lo ≤ hi) (hv : v = f hi) : fu (fw g lo hi f) hi v = fw g lo (hi + 1) f := by
  funext j
  unfold fu fw
  by_cases e : j = hi
  · rw [if_pos e, if_pos (by omega), hv, e]
  · rw [if_neg e]
    by_cases q : lo ≤ j ∧ j < hi
    · rw [if_pos q, if_pos (by omega)]
    · rw [if_neg q, if_neg (by omega)]
theorem fw_0 (g : Int → Int) (lo : Int) (f : Int → Int) : fw g lo lo f = g := by
  funext j
  unfold fw
  rw [if_neg (by omega)]
theorem fu_fu (g : Int → Int) (j v w : Int) : fu (fu g j v) j w = fu g j w := by
  funext i
  unfold fu
  by_cases e : i = j
  · rw [if_pos e, if_pos e]
  · rw [if_neg e, if_neg e, if_neg e]
/-- what addForm's loop has done after k items -/
def FAk (G G' : Nat → Int → Int) (t : Nat) (f : Int) (x : Int → Int) (k : Nat) : Prop := Off [t + 4, t + 5, t + 6, t + 7, t + 8] G G' ∧ G' (t + 4) = fw (G (t + 4)) (5 * f) (5 * f + k) (fun j => x (j - 5 * f)) ∧ G' (t + 7) = fw (G (t + 7)) (5 * f) (5 * f + k) (fun _ => 1) ∧ G' (t + 8) = fw (G (t + 8)) (5 * f) (5 * f + k) (fun _ => 0) ∧
  G' (t + 5) = fu (G (t + 5)) f (nsl x k) ∧ (∀ j : Int, ¬ (5 * f ≤ j ∧ j < 5 * f + 5) → G' (t + 6) j = G (t + 6) j) ∧ ∀ i : Nat, i < k → ¬ (0 ≤ x i ∧ x i ≤ 11) → G' (t + 6) (5 * f + nsl x i) = x i
/-- the loop -/
theorem w8_addForm {T : Nat → Option q_T} {nx rc rs t A n : Nat} {R : Nat → Nat → Option Value} {G : Nat → Int → Int} {x : Int → Int} {s f : Int} {Kn : List Value → q_M → Prop} {Kr : Option Value → q_M → Prop} (o : Ly T R t (L8 t)) (hTA : T A = some (.inr (.inl (.int, 5)))) (hRA : ∀ j, R A j = none) (hA : A < t)
    (hx : ∀ k : Int, 0 ≤ k → k < 5 → G A k = x k ∧ -2147483648 ≤ x k ∧ x k < 2147483648) (hf0 : 0 ≤ f) (hf1 : f < 14) (hn : n ≤ 5) (h5 : G (t + 5) f = 0)
    (h : ∀ G', FAk G G' t f x n → Kn [.ref t, .int (zI s), .ref A, .int (zI n), .int (zI f), .int (zI n)] (st T nx rc rs R G')) :
    wX8_addForm_0 [.ref t, .int (zI s), .ref A, .int (zI n), .int (zI f), .int (zI 0)] (st T nx rc rs R G) Kn Kr := by
  refine lX8_addForm_0 (fun m env μ => ∃ (k : Nat) (G' : Nat → Int → Int), k + m = n ∧ FAk G G' t f x k ∧ env = [.ref t, .int (zI s), .ref A, .int (zI n), .int (zI f), .int (zI k)] ∧ μ = st T nx rc rs R G') ?_ n _ _ ⟨0, G, by omega, ⟨off_refl _ _, (by rw [show (5 * f + ((0 : Nat) : Int)) = 5 * f by omega, fw_0]), (by rw [show (5 * f + ((0 : Nat) : Int)) = 5 * f by omega, fw_0]), (by rw [show (5 * f + ((0 : Nat) : Int)) = 5 * f by omega, fw_0]), (by funext j; unfold fu; by_cases e : j = f; · rw [if_pos e, e, h5]; rfl; · rw [if_neg e]), fun _ _ => rfl, fun i q => by omega⟩, rfl, rfl⟩
  intro m env μ ⟨k, G', hk, ⟨f1, f2, f3, f4, f5, f6, f7⟩, he, hm⟩
  subst he hm
  by_cases hlt : k < n
  · have g := hx k (by omega) (by omega)
    have gA : G' A = G A := f1 A (by simp only [List.mem_cons, List.not_mem_nil, or_false, not_or]; omega)
    have gb := nsl_b x k
    have g5 : G' (t + 5) f = nsl x k := by rw [f5, fu_eq]
    by_cases hw : 0 ≤ x k ∧ x k ≤ 11
    · simp (config := { contextual := true }) (disch := omega) only [q_mk, q_sq, q_if, q_te, q_cm, e_cz, q_an2, q_or2, q_no, q_ci, q_l, q_r, e_k, e_kn, e_kl, e_il, q_2, q_2d, q_2c, q_1, q_cs, q_cv, q_ac, q_an, q_sri, q_srv, q_srr, q_nop, q_sset, q_sdec, e_inc, q_spf, q_sof, q_sai, q_saz, q_soa, q_sx, q_blk, q_fi, q_fr, q_ai, q_az, q_ar, List.getElem?_cons_zero, List.getElem?_cons_succ, List.length_cons, List.length_nil, List.set_cons_zero, List.set_cons_succ, List.cons_append, List.nil_append, List.take_succ_cons, List.take_zero, Option.some.injEq, Value.int.injEq, Value.ref.injEq, Value.long.injEq, Sum.inr.injEq, Sum.inl.injEq, Prod.mk.injEq, exists_eq_left, exists_eq_left', and_assoc, exists_and_left, List.forall_mem_cons, List.not_mem_nil, Value.category, true_and, and_true, Nat.zero_le, forall_const, implies_true, Nat.zero_add, Nat.reduceAdd, Nat.reduceLT, Nat.reduceLeDiff, Nat.le_refl, Nat.sub_zero, q_cI, q_cR, q_cV, q_cV2, q_budz, true_implies, false_implies, not_true_eq_false, not_false_eq_true, isref_o, isref_a, q_oi, q_or, q_ov, g_add, g_sub, g_mul, zI_add, r_eq, r_ne, r_lt, r_ge, r_gt, r_le, bz_ne, st_T, st_rc, st_rs, st_M, st_bud, st_set, st_setR, zI_clamp, nn_toNat, zI_inI, cn_of, cn_0, cn_1, Option.getD_none, Option.getD_some, bok_bz, bok_z1, bok_z0, i10, wcX8_addForm_0, wsX8_addForm_0, c11_isWord, gA, g.1, g5, hw, hTA, hRA, mulc, gs_ne, t8 o, r8_0 o, t8_0 o, v8_0 o, w8_0 o, r8_2 o, t8_2 o, v8_2 o, w8_2 o, r8_3 o, t8_3 o, v8_3 o, w8_3 o, r8_4 o, t8_4 o, v8_4 o, w8_4 o, r8_5 o, t8_5 o, v8_5 o, w8_5 o, r8_6 o, t8_6 o, v8_6 o, w8_6 o, r8_7 o, t8_7 o, v8_7 o, w8_7 o, r8_8 o, t8_8 o, v8_8 o, w8_8 o, r8_9 o, t8_9 o, v8_9 o, w8_9 o, r8_10 o, t8_10 o, v8_10 o, w8_10 o, r8_11 o, t8_11 o, v8_11 o, w8_11 o, r8_12 o, t8_12 o, v8_12 o, w8_12 o, r8_13 o, t8_13 o, v8_13 o, w8_13 o, r8_1 o, n8_1 o]
      refine ⟨m - 1, by omega, k + 1, _, by omega, ?_, rfl, rfl⟩
      refine ⟨off_gs (off_gs (off_gs f1 (by simp)) (by simp)) (by simp), ?_, ?_, ?_, ?_, ?_, ?_⟩
      · simp (disch := omega) only [gs_ne, gs_eq]
        rw [f2, fw_s (by omega) (by show x k = x (5 * f + k - 5 * f); rw [show 5 * f + (k : Int) - 5 * f = k by omega]), show 5 * f + ((k + 1 : Nat) : Int) = 5 * f + k + 1 by omega]
      · simp (disch := omega) only [gs_ne, gs_eq]
        rw [f3, fw_s (by omega) rfl, show 5 * f + ((k + 1 : Nat) : Int) = 5 * f + k + 1 by omega]
      · simp (disch := omega) only [gs_ne, gs_eq]
        rw [f4, fw_s (by omega) rfl, show 5 * f + ((k + 1 : Nat) : Int) = 5 * f + k + 1 by omega]
      · simp (disch := omega) only [gs_ne, gs_eq]
        rw [f5, nsl_s, if_pos hw, Int.add_zero]
      · simp (disch := omega) only [gs_ne, gs_eq]
        exact f6
      · simp (disch := omega) only [gs_ne, gs_eq]
        intro i q1 q2
        have : ¬ i = k := fun e => q2 (by rw [e]; exact hw)
        exact f7 i (by omega) q2
    · simp (config := { contextual := true }) (disch := omega) only [q_mk, q_sq, q_if, q_te, q_cm, e_cz, q_an2, q_or2, q_no, q_ci, q_l, q_r, e_k, e_kn, e_kl, e_il, q_2, q_2d, q_2c, q_1, q_cs, q_cv, q_ac, q_an, q_sri, q_srv, q_srr, q_nop, q_sset, q_sdec, e_inc, q_spf, q_sof, q_sai, q_saz, q_soa, q_sx, q_blk, q_fi, q_fr, q_ai, q_az, q_ar, List.getElem?_cons_zero, List.getElem?_cons_succ, List.length_cons, List.length_nil, List.set_cons_zero, List.set_cons_succ, List.cons_append, List.nil_append, List.take_succ_cons, List.take_zero, Option.some.injEq, Value.int.injEq, Value.ref.injEq, Value.long.injEq, Sum.inr.injEq, Sum.inl.injEq, Prod.mk.injEq, exists_eq_left, exists_eq_left', and_assoc, exists_and_left, List.forall_mem_cons, List.not_mem_nil, Value.category, true_and, and_true, Nat.zero_le, forall_const, implies_true, Nat.zero_add, Nat.reduceAdd, Nat.reduceLT, Nat.reduceLeDiff, Nat.le_refl, Nat.sub_zero, q_cI, q_cR, q_cV, q_cV2, q_budz, true_implies, false_implies, not_true_eq_false, not_false_eq_true, isref_o, isref_a, q_oi, q_or, q_ov, g_add, g_sub, g_mul, zI_add, r_eq, r_ne, r_lt, r_ge, r_gt, r_le, bz_ne, st_T, st_rc, st_rs, st_M, st_bud, st_set, st_setR, zI_clamp, nn_toNat, zI_inI, cn_of, cn_0, cn_1, Option.getD_none, Option.getD_some, bok_bz, bok_z1, bok_z0, i10, wcX8_addForm_0, wsX8_addForm_0, c11_isWord, gA, g.1, g5, hw, hTA, hRA, mulc, gs_ne, t8 o, r8_0 o, t8_0 o, v8_0 o, w8_0 o, r8_2 o, t8_2 o, v8_2 o, w8_2 o, r8_3 o, t8_3 o, v8_3 o, w8_3 o, r8_4 o, t8_4 o, v8_4 o, w8_4 o, r8_5 o, t8_5 o, v8_5 o, w8_5 o, r8_6 o, t8_6 o, v8_6 o, w8_6 o, r8_7 o, t8_7 o, v8_7 o, w8_7 o, r8_8 o, t8_8 o, v8_8 o, w8_8 o, r8_9 o, t8_9 o, v8_9 o, w8_9 o, r8_10 o, t8_10 o, v8_10 o, w8_10 o, r8_11 o, t8_11 o, v8_11 o, w8_11 o, r8_12 o, t8_12 o, v8_12 o, w8_12 o, r8_13 o, t8_13 o, v8_13 o, w8_13 o, r8_1 o, n8_1 o]
      refine ⟨m - 1, by omega, k + 1, _, by omega, ?_, rfl, rfl⟩
      refine ⟨off_gs (off_gs (off_gs (off_gs (off_gs f1 (by simp)) (by simp)) (by simp)) (by simp)) (by simp), ?_, ?_, ?_, ?_, ?_, ?_⟩
      · simp (disch := omega) only [gs_ne, gs_eq]
        rw [f2, fw_s (by omega) (by show x k = x (5 * f + k - 5 * f); rw [show 5 * f + (k : Int) - 5 * f = k by omega]), show 5 * f + ((k + 1 : Nat) : Int) = 5 * f + k + 1 by omega]
      · simp (disch := omega) only [gs_ne, gs_eq]
        rw [f3, fw_s (by omega) rfl, show 5 * f + ((k + 1 : Nat) : Int) = 5 * f + k + 1 by omega]
      · simp (disch := omega) only [gs_ne, gs_eq]
        rw [f4, fw_s (by omega) rfl, show 5 * f + ((k + 1 : Nat) : Int) = 5 * f + k + 1 by omega]
      · simp (disch := omega) only [gs_ne, gs_eq]
        rw [f5, nsl_s, if_neg hw, fu_fu]
      · simp (disch := omega) only [gs_ne, gs_eq]
        intro j q
        rw [fu_ne (by omega)]
        exact f6 j q
      · simp (disch := omega) only [gs_ne, gs_eq]
        intro i q1 q2
        by_cases e : i = k
        · rw [e, fu_eq]
        · have mo := nsl_mono x (m := i + 1) (n := k) (by omega)
          rw [nsl_s, if_neg q2] at mo
          rw [fu_ne (by omega)]
          exact f7 i (by omega) q2
  · have e : k = n := by omega
    subst e
    simp (config := { contextual := true }) (disch := omega) only [q_mk, q_sq, q_if, q_te, q_cm, e_cz, q_an2, q_or2, q_no, q_ci, q_l, q_r, e_k, e_kn, e_kl, e_il, q_2, q_2d, q_2c, q_1, q_cs, q_cv, q_ac, q_an, q_sri, q_srv, q_srr, q_nop, q_sset, q_sdec, e_inc, q_spf, q_sof, q_sai, q_saz, q_soa, q_sx, q_blk, q_fi, q_fr, q_ai, q_az, q_ar, List.getElem?_cons_zero, List.getElem?_cons_succ, List.length_cons, List.length_nil, List.set_cons_zero, List.set_cons_succ, List.cons_append, List.nil_append, List.take_succ_cons, List.take_zero, Option.some.injEq, Value.int.injEq, Value.ref.injEq, Value.long.injEq, Sum.inr.injEq, Sum.inl.injEq, Prod.mk.injEq, exists_eq_left, exists_eq_left', and_assoc, exists_and_left, List.forall_mem_cons, List.not_mem_nil, Value.category, true_and, and_true, Nat.zero_le, forall_const, implies_true, Nat.zero_add, Nat.reduceAdd, Nat.reduceLT, Nat.reduceLeDiff, Nat.le_refl, Nat.sub_zero, q_cI, q_cR, q_cV, q_cV2, q_budz, true_implies, false_implies, not_true_eq_false, not_false_eq_true, isref_o, isref_a, q_oi, q_or, q_ov, g_add, g_sub, g_mul, zI_add, r_eq, r_ne, r_lt, r_ge, r_gt, r_le, bz_ne, st_T, st_rc, st_rs, st_M, st_bud, st_set, st_setR, zI_clamp, nn_toNat, zI_inI, cn_of, cn_0, cn_1, Option.getD_none, Option.getD_some, bok_bz, bok_z1, bok_z0, i10, wcX8_addForm_0, wsX8_addForm_0, t8 o, r8_0 o, t8_0 o, v8_0 o, w8_0 o, r8_2 o, t8_2 o, v8_2 o, w8_2 o, r8_3 o, t8_3 o, v8_3 o, w8_3 o, r8_4 o, t8_4 o, v8_4 o, w8_4 o, r8_5 o, t8_5 o, v8_5 o, w8_5 o, r8_6 o, t8_6 o, v8_6 o, w8_6 o, r8_7 o, t8_7 o, v8_7 o, w8_7 o, r8_8 o, t8_8 o, v8_8 o, w8_8 o, r8_9 o, t8_9 o, v8_9 o, w8_9 o, r8_10 o, t8_10 o, v8_10 o, w8_10 o, r8_11 o, t8_11 o, v8_11 o, w8_11 o, r8_12 o, t8_12 o, v8_12 o, w8_12 o, r8_13 o, t8_13 o, v8_13 o, w8_13 o, r8_1 o, n8_1 o]
    exact h G' ⟨f1, f2, f3, f4, f5, f6, f7⟩
/-- what addForm has done -/
def FAa (G G' : Nat → Int → Int) (t : Nat) (f n s : Int) (x : Int → Int) : Prop := G' t = fu (G t) 1 (f + 1) ∧ G' (t + 2) = fu (G (t + 2)) f s ∧ G' (t + 3) = fu (G (t + 3)) f n ∧
  G' (t + 4) = fw (G (t + 4)) (5 * f) (5 * f + n) (fun j => x (j - 5 * f)) ∧ G' (t + 5) = fu (G (t + 5)) f (nsl x n.toNat) ∧ G' (t + 7) = fw (G (t + 7)) (5 * f) (5 * f + n) (fun _ => 1) ∧ G' (t + 8) = fw (G (t + 8)) (5 * f) (5 * f + n) (fun _ => 0) ∧
  (∀ j : Int, ¬ (5 * f ≤ j ∧ j < 5 * f + 5) → G' (t + 6) j = G (t + 6) j) ∧ (∀ i : Nat, (i : Int) < n → ¬ (0 ≤ x i ∧ x i ≤ 11) → G' (t + 6) (5 * f + nsl x i) = x i) ∧
  G' (t + 9) = fu (G (t + 9)) f 0 ∧ G' (t + 10) = fu (G (t + 10)) f 0 ∧ G' (t + 11) = fu (G (t + 11)) f 0
def FA (G G' : Nat → Int → Int) (t : Nat) (f n s : Int) (x : Int → Int) : Prop := Off [t, t + 2, t + 3, t + 4, t + 5, t + 6, t + 7, t + 8, t + 9, t + 10, t + 11] G G' ∧ FAa G G' t f n s x
theorem c8_addForm {T : Nat → Option q_T} {nx rc rs t A n : Nat} {R : Nat → Nat → Option Value} {G : Nat → Int → Int} {x : Int → Int} {s f : Int} {K : Option Value → q_M → Prop} (o : Ly T R t (L8 t)) (hTA : T A = some (.inr (.inl (.int, 5)))) (hRA : ∀ j, R A j = none) (hA : A < t)
    (hx : ∀ k : Int, 0 ≤ k → k < 5 → G A k = x k ∧ -2147483648 ≤ x k ∧ x k < 2147483648) (hf0 : 0 ≤ f) (hf1 : f < 14) (hn : n ≤ 5) (hf : G t 1 = f)
    (h : ∀ G', FA G G' t f n s x → K (some (.int (zI f))) (st T nx rc rs R G')) : fX8_addForm [.ref t, .int (zI s), .ref A, .int (zI n)] (st T nx rc rs R G) K := by
  have bk := nar_b (b := 0) (by omega) (by omega)
  simp (config := { contextual := true }) (disch := omega) only [fX8_addForm, uX8_addForm, q_mk, q_sq, q_if, q_te, q_cm, e_cz, q_an2, q_or2, q_no, q_ci, q_l, q_r, e_k, e_kn, e_kl, e_il, q_2, q_2d, q_2c, q_1, q_cs, q_cv, q_ac, q_an, q_sri, q_srv, q_srr, q_nop, q_sset, q_sdec, e_inc, q_spf, q_sof, q_sai, q_saz, q_soa, q_sx, q_blk, q_fi, q_fr, q_ai, q_az, q_ar, List.getElem?_cons_zero, List.getElem?_cons_succ, List.length_cons, List.length_nil, List.set_cons_zero, List.set_cons_succ, List.cons_append, List.nil_append, List.take_succ_cons, List.take_zero, Option.some.injEq, Value.int.injEq, Value.ref.injEq, Value.long.injEq, Sum.inr.injEq, Sum.inl.injEq, Prod.mk.injEq, exists_eq_left, exists_eq_left', and_assoc, exists_and_left, List.forall_mem_cons, List.not_mem_nil, Value.category, true_and, and_true, Nat.zero_le, forall_const, implies_true, Nat.zero_add, Nat.reduceAdd, Nat.reduceLT, Nat.reduceLeDiff, Nat.le_refl, Nat.sub_zero, q_cI, q_cR, q_cV, q_cV2, q_budz, true_implies, false_implies, not_true_eq_false, not_false_eq_true, isref_o, isref_a, q_oi, q_or, q_ov, g_add, g_sub, g_mul, zI_add, r_eq, r_ne, r_lt, r_ge, r_gt, r_le, bz_ne, st_T, st_rc, st_rs, st_M, st_bud, st_set, st_setR, zI_clamp, nn_toNat, zI_inI, cn_of, cn_0, cn_1, Option.getD_none, Option.getD_some, bok_bz, bok_z1, bok_z0, i10, hf, bk, t8 o, r8_0 o, t8_0 o, v8_0 o, w8_0 o, r8_2 o, t8_2 o, v8_2 o, w8_2 o, r8_3 o, t8_3 o, v8_3 o, w8_3 o, r8_4 o, t8_4 o, v8_4 o, w8_4 o, r8_5 o, t8_5 o, v8_5 o, w8_5 o, r8_6 o, t8_6 o, v8_6 o, w8_6 o, r8_7 o, t8_7 o, v8_7 o, w8_7 o, r8_8 o, t8_8 o, v8_8 o, w8_8 o, r8_9 o, t8_9 o, v8_9 o, w8_9 o, r8_10 o, t8_10 o, v8_10 o, w8_10 o, r8_11 o, t8_11 o, v8_11 o, w8_11 o, r8_12 o, t8_12 o, v8_12 o, w8_12 o, r8_13 o, t8_13 o, v8_13 o, w8_13 o, r8_1 o, n8_1 o]
  refine w8_addForm (x := x) o hTA hRA hA (fun k q1 q2 => ?_) hf0 hf1 hn ?_ (fun G' h1 => ?_)
  · simp (disch := omega) only [gs_ne]
    exact hx k q1 q2
  · simp (disch := omega) only [gs_ne, gs_eq, fu_eq]
  · obtain ⟨f1, f2, f3, f4, f5, f6, f7⟩ := h1
    simp (disch := omega) only [gs_ne, gs_eq] at f2 f3 f4 f5 f6
    have e1 : G' t = G t := by rw [f1 t (by simp only [List.mem_cons, List.not_mem_nil, or_false, not_or]; omega)]; simp (disch := omega) only [gs_ne]
    have e1f : G' t 1 = f := by rw [e1, hf]
    simp (config := { contextual := true }) (disch := omega) only [q_mk, q_sq, q_if, q_te, q_cm, e_cz, q_an2, q_or2, q_no, q_ci, q_l, q_r, e_k, e_kn, e_kl, e_il, q_2, q_2d, q_2c, q_1, q_cs, q_cv, q_ac, q_an, q_sri, q_srv, q_srr, q_nop, q_sset, q_sdec, e_inc, q_spf, q_sof, q_sai, q_saz, q_soa, q_sx, q_blk, q_fi, q_fr, q_ai, q_az, q_ar, List.getElem?_cons_zero, List.getElem?_cons_succ, List.length_cons, List.length_nil, List.set_cons_zero, List.set_cons_succ, List.cons_append, List.nil_append, List.take_succ_cons, List.take_zero, Option.some.injEq, Value.int.injEq, Value.ref.injEq, Value.long.injEq, Sum.inr.injEq, Sum.inl.injEq, Prod.mk.injEq, exists_eq_left, exists_eq_left', and_assoc, exists_and_left, List.forall_mem_cons, List.not_mem_nil, Value.category, true_and, and_true, Nat.zero_le, forall_const, implies_true, Nat.zero_add, Nat.reduceAdd, Nat.reduceLT, Nat.reduceLeDiff, Nat.le_refl, Nat.sub_zero, q_cI, q_cR, q_cV, q_cV2, q_budz, true_implies, false_implies, not_true_eq_false, not_false_eq_true, isref_o, isref_a, q_oi, q_or, q_ov, g_add, g_sub, g_mul, zI_add, r_eq, r_ne, r_lt, r_ge, r_gt, r_le, bz_ne, st_T, st_rc, st_rs, st_M, st_bud, st_set, st_setR, zI_clamp, nn_toNat, zI_inI, cn_of, cn_0, cn_1, Option.getD_none, Option.getD_some, bok_bz, bok_z1, bok_z0, i10, e1f, t8 o, r8_0 o, t8_0 o, v8_0 o, w8_0 o, r8_2 o, t8_2 o, v8_2 o, w8_2 o, r8_3 o, t8_3 o, v8_3 o, w8_3 o, r8_4 o, t8_4 o, v8_4 o, w8_4 o, r8_5 o, t8_5 o, v8_5 o, w8_5 o, r8_6 o, t8_6 o, v8_6 o, w8_6 o, r8_7 o, t8_7 o, v8_7 o, w8_7 o, r8_8 o, t8_8 o, v8_8 o, w8_8 o, r8_9 o, t8_9 o, v8_9 o, w8_9 o, r8_10 o, t8_10 o, v8_10 o, w8_10 o, r8_11 o, t8_11 o, v8_11 o, w8_11 o, r8_12 o, t8_12 o, v8_12 o, w8_12 o, r8_13 o, t8_13 o, v8_13 o, w8_13 o, r8_1 o, n8_1 o]
    refine h _ ⟨?_, ?_, ?_, ?_, ?_, ?_, ?_, ?_, ?_, ?_, ?_, ?_, ?_⟩
    · intro a ha
      simp only [List.mem_cons, List.not_mem_nil, or_false, not_or] at ha
      rw [gs_ne (by omega), f1 a (by simp only [List.mem_cons, List.not_mem_nil, or_false, not_or]; omega)]
      simp (disch := omega) only [gs_ne]
    · simp (disch := omega) only [gs_ne, gs_eq]
      rw [e1]
    · simp (disch := omega) only [gs_ne]
      rw [f1 (t + 2) (by simp only [List.mem_cons, List.not_mem_nil, or_false, not_or]; omega)]
      simp (disch := omega) only [gs_ne, gs_eq]
    · simp (disch := omega) only [gs_ne]
      rw [f1 (t + 3) (by simp only [List.mem_cons, List.not_mem_nil, or_false, not_or]; omega)]
      simp (disch := omega) only [gs_ne, gs_eq]
    · simp (disch := omega) only [gs_ne]
      exact f2
    · simp (disch := omega) only [gs_ne]
      rw [f5, fu_fu, Int.toNat_natCast]
    · simp (disch := omega) only [gs_ne]
      exact f3
    · simp (disch := omega) only [gs_ne]
      exact f4
    · simp (disch := omega) only [gs_ne]
      exact f6
    · simp (disch := omega) only [gs_ne]
      exact fun i q1 q2 => f7 i (by omega) q2
    · simp (disch := omega) only [gs_ne]
      rw [f1 (t + 9) (by simp only [List.mem_cons, List.not_mem_nil, or_false, not_or]; omega)]
      simp (disch := omega) only [gs_ne, gs_eq]
    · simp (disch := omega) only [gs_ne]
      rw [f1 (t + 10) (by simp only [List.mem_cons, List.not_mem_nil, or_false, not_or]; omega)]
      simp (disch := omega) only [gs_ne, gs_eq]
    · simp (disch := omega) only [gs_ne]
      rw [f1 (t + 11) (by simp only [List.mem_cons, List.not_mem_nil, or_false, not_or]; omega)]
      simp (disch := omega) only [gs_ne, gs_eq]
end
section
/-! the reference's form -/
theorem w12_form0 {T : Nat → Option q_T} {nx rc rs B : Nat} {R : Nat → Nat → Option Value} {G : Nat → Int → Int} {x : Int → Int} {v s a b c d e : Value} {Kn : List Value → q_M → Prop} {Kr : Option Value → q_M → Prop} (hM : Ly T R (B + 544) (L12 (B + 544))) (hx : ∀ k : Int, 0 ≤ k → k < 5 → G (B + 544 + 13) k = x k ∧ -2147483648 ≤ x k ∧ x k < 2147483648)
    (h1 : allI x (cnt5 x) → Kn [.ref (B + 544), v, s, a, b, c, d, e, .int (zI (cnt5 x))] (st T nx rc rs R G)) (h2 : ¬ allI x (cnt5 x) → Kr (some (.int (zI (-100002)))) (st T nx rc rs R G)) :
    wX12_form_0 [.ref (B + 544), v, s, a, b, c, d, e, .int (zI 0)] (st T nx rc rs R G) Kn Kr := by
  obtain ⟨p1, p2, p3⟩ := cnt5_p x
  refine lX12_form_0 (fun m env μ => ∃ k : Nat, k + m = cnt5 x ∧ (∀ i : Int, 0 ≤ i → i < k → isIt (x i)) ∧ env = [.ref (B + 544), v, s, a, b, c, d, e, .int (zI k)] ∧ μ = st T nx rc rs R G) ?_ (cnt5 x) _ _ ⟨0, by omega, fun i q1 q2 => by omega, rfl, rfl⟩
  intro m env μ ⟨k, hk, hall, he, hm⟩
  subst he hm
  by_cases hlt : k < cnt5 x
  · have g := hx k (by omega) (by omega)
    have g2 := p2 k (by omega) (by omega)
    have g3 : (k : Int) < 5 := by omega
    by_cases hi : (((0 ≤ x k ∧ x k ≤ 11) ∨ x k = 20) ∨ x k = 40) ∨ (60 ≤ x k ∧ x k ≤ 65)
    · simp (config := { contextual := true }) (disch := omega) only [q_mk, q_sq, q_if, q_te, q_cm, e_cz, q_an2, q_or2, q_no, q_ci, q_l, q_r, e_k, e_kn, e_kl, e_il, q_2, q_2d, q_2c, q_1, q_cs, q_cv, q_ac, q_an, q_sri, q_srv, q_srr, q_nop, q_sset, q_sdec, e_inc, q_spf, q_sof, q_sai, q_saz, q_soa, q_sx, q_blk, q_fi, q_fr, q_ai, q_az, q_ar, List.getElem?_cons_zero, List.getElem?_cons_succ, List.length_cons, List.length_nil, List.set_cons_zero, List.set_cons_succ, List.cons_append, List.nil_append, List.take_succ_cons, List.take_zero, Option.some.injEq, Value.int.injEq, Value.ref.injEq, Value.long.injEq, Sum.inr.injEq, Sum.inl.injEq, Prod.mk.injEq, exists_eq_left, exists_eq_left', and_assoc, exists_and_left, List.forall_mem_cons, List.not_mem_nil, Value.category, true_and, and_true, Nat.zero_le, forall_const, implies_true, Nat.zero_add, Nat.reduceAdd, Nat.reduceLT, Nat.reduceLeDiff, Nat.le_refl, Nat.sub_zero, q_cI, q_cR, q_cV, q_cV2, q_budz, true_implies, false_implies, not_true_eq_false, not_false_eq_true, isref_o, isref_a, q_oi, q_or, q_ov, g_add, g_sub, g_mul, zI_add, r_eq, r_ne, r_lt, r_ge, r_gt, r_le, bz_ne, st_T, st_rc, st_rs, st_M, st_bud, st_set, st_setR, zI_clamp, nn_toNat, zI_inI, cn_of, cn_0, cn_1, Option.getD_none, Option.getD_some, bok_bz, bok_z1, bok_z0, i10, wcX12_form_0, wsX12_form_0, c12_isItem, g.1, g2, g3, hi, t12 hM, r12_12 hM, t12_12 hM, v12_12 hM, w12_12 hM]
      refine ⟨m - 1, by omega, k + 1, by omega, fun i q1 q2 => ?_, rfl⟩
      by_cases e : i = k
      · rw [e]
        exact hi
      · exact hall i q1 (by omega)
    · have hno : ¬ allI x (cnt5 x) := fun q => hi (q k (by omega) (by omega))
      simp (config := { contextual := true }) (disch := omega) only [q_mk, q_sq, q_if, q_te, q_cm, e_cz, q_an2, q_or2, q_no, q_ci, q_l, q_r, e_k, e_kn, e_kl, e_il, q_2, q_2d, q_2c, q_1, q_cs, q_cv, q_ac, q_an, q_sri, q_srv, q_srr, q_nop, q_sset, q_sdec, e_inc, q_spf, q_sof, q_sai, q_saz, q_soa, q_sx, q_blk, q_fi, q_fr, q_ai, q_az, q_ar, List.getElem?_cons_zero, List.getElem?_cons_succ, List.length_cons, List.length_nil, List.set_cons_zero, List.set_cons_succ, List.cons_append, List.nil_append, List.take_succ_cons, List.take_zero, Option.some.injEq, Value.int.injEq, Value.ref.injEq, Value.long.injEq, Sum.inr.injEq, Sum.inl.injEq, Prod.mk.injEq, exists_eq_left, exists_eq_left', and_assoc, exists_and_left, List.forall_mem_cons, List.not_mem_nil, Value.category, true_and, and_true, Nat.zero_le, forall_const, implies_true, Nat.zero_add, Nat.reduceAdd, Nat.reduceLT, Nat.reduceLeDiff, Nat.le_refl, Nat.sub_zero, q_cI, q_cR, q_cV, q_cV2, q_budz, true_implies, false_implies, not_true_eq_false, not_false_eq_true, isref_o, isref_a, q_oi, q_or, q_ov, g_add, g_sub, g_mul, zI_add, r_eq, r_ne, r_lt, r_ge, r_gt, r_le, bz_ne, st_T, st_rc, st_rs, st_M, st_bud, st_set, st_setR, zI_clamp, nn_toNat, zI_inI, cn_of, cn_0, cn_1, Option.getD_none, Option.getD_some, bok_bz, bok_z1, bok_z0, i10, wcX12_form_0, wsX12_form_0, c12_isItem, g.1, g2, g3, hi, t12 hM, r12_12 hM, t12_12 hM, v12_12 hM, w12_12 hM]
      exact h2 hno
  · have e : k = cnt5 x := by omega
    have hA : allI x (cnt5 x) := by rw [← e]; exact hall
    by_cases h5 : k < 5
    · have g := hx k (by omega) (by omega)
      have g3 : (k : Int) < 5 := by omega
      have g2 : x k = -1 := by rw [e]; exact p3 (by omega)
      simp (config := { contextual := true }) (disch := omega) only [q_mk, q_sq, q_if, q_te, q_cm, e_cz, q_an2, q_or2, q_no, q_ci, q_l, q_r, e_k, e_kn, e_kl, e_il, q_2, q_2d, q_2c, q_1, q_cs, q_cv, q_ac, q_an, q_sri, q_srv, q_srr, q_nop, q_sset, q_sdec, e_inc, q_spf, q_sof, q_sai, q_saz, q_soa, q_sx, q_blk, q_fi, q_fr, q_ai, q_az, q_ar, List.getElem?_cons_zero, List.getElem?_cons_succ, List.length_cons, List.length_nil, List.set_cons_zero, List.set_cons_succ, List.cons_append, List.nil_append, List.take_succ_cons, List.take_zero, Option.some.injEq, Value.int.injEq, Value.ref.injEq, Value.long.injEq, Sum.inr.injEq, Sum.inl.injEq, Prod.mk.injEq, exists_eq_left, exists_eq_left', and_assoc, exists_and_left, List.forall_mem_cons, List.not_mem_nil, Value.category, true_and, and_true, Nat.zero_le, forall_const, implies_true, Nat.zero_add, Nat.reduceAdd, Nat.reduceLT, Nat.reduceLeDiff, Nat.le_refl, Nat.sub_zero, q_cI, q_cR, q_cV, q_cV2, q_budz, true_implies, false_implies, not_true_eq_false, not_false_eq_true, isref_o, isref_a, q_oi, q_or, q_ov, g_add, g_sub, g_mul, zI_add, r_eq, r_ne, r_lt, r_ge, r_gt, r_le, bz_ne, st_T, st_rc, st_rs, st_M, st_bud, st_set, st_setR, zI_clamp, nn_toNat, zI_inI, cn_of, cn_0, cn_1, Option.getD_none, Option.getD_some, bok_bz, bok_z1, bok_z0, i10, wcX12_form_0, wsX12_form_0, g.1, g2, g3, t12 hM, r12_12 hM, t12_12 hM, v12_12 hM, w12_12 hM]
      rw [e]
      exact h1 hA
    · have g3 : ¬ (k : Int) < 5 := by omega
      simp (config := { contextual := true }) (disch := omega) only [q_mk, q_sq, q_if, q_te, q_cm, e_cz, q_an2, q_or2, q_no, q_ci, q_l, q_r, e_k, e_kn, e_kl, e_il, q_2, q_2d, q_2c, q_1, q_cs, q_cv, q_ac, q_an, q_sri, q_srv, q_srr, q_nop, q_sset, q_sdec, e_inc, q_spf, q_sof, q_sai, q_saz, q_soa, q_sx, q_blk, q_fi, q_fr, q_ai, q_az, q_ar, List.getElem?_cons_zero, List.getElem?_cons_succ, List.length_cons, List.length_nil, List.set_cons_zero, List.set_cons_succ, List.cons_append, List.nil_append, List.take_succ_cons, List.take_zero, Option.some.injEq, Value.int.injEq, Value.ref.injEq, Value.long.injEq, Sum.inr.injEq, Sum.inl.injEq, Prod.mk.injEq, exists_eq_left, exists_eq_left', and_assoc, exists_and_left, List.forall_mem_cons, List.not_mem_nil, Value.category, true_and, and_true, Nat.zero_le, forall_const, implies_true, Nat.zero_add, Nat.reduceAdd, Nat.reduceLT, Nat.reduceLeDiff, Nat.le_refl, Nat.sub_zero, q_cI, q_cR, q_cV, q_cV2, q_budz, true_implies, false_implies, not_true_eq_false, not_false_eq_true, isref_o, isref_a, q_oi, q_or, q_ov, g_add, g_sub, g_mul, zI_add, r_eq, r_ne, r_lt, r_ge, r_gt, r_le, bz_ne, st_T, st_rc, st_rs, st_M, st_bud, st_set, st_setR, zI_clamp, nn_toNat, zI_inI, cn_of, cn_0, cn_1, Option.getD_none, Option.getD_some, bok_bz, bok_z1, bok_z0, i10, wcX12_form_0, wsX12_form_0, g3, t12 hM, r12_12 hM, t12_12 hM, v12_12 hM, w12_12 hM]
      rw [e]
      exact h1 hA
/-- what form's second loop has done after k -/
def FBk (G G' : Nat → Int → Int) (B : Nat) (at' n : Int) (x : Int → Int) (k : Nat) : Prop := Off [(B + 544 + 5), (B + 544 + 6), (B + 544 + 7)] G G' ∧ G' (B + 544 + 5) = fw (G (B + 544 + 5)) (5 * at') (5 * at' + k) (fun j => if j - 5 * at' < n then x (j - 5 * at') else -1) ∧ G' (B + 544 + 6) = fw (G (B + 544 + 6)) (5 * at') (5 * at' + k) (fun _ => 1) ∧ G' (B + 544 + 7) = fw (G (B + 544 + 7)) (5 * at') (5 * at' + k) (fun _ => 0)
theorem w12_form1 {T : Nat → Option q_T} {nx rc rs B : Nat} {R : Nat → Nat → Option Value} {G : Nat → Int → Int} {x : Int → Int} {n at' : Int} {v s a b c d e f' : Value} {Kn : List Value → q_M → Prop} {Kr : Option Value → q_M → Prop} (hM : Ly T R (B + 544) (L12 (B + 544))) (hx : ∀ k : Int, 0 ≤ k → k < 5 → G (B + 544 + 13) k = x k ∧ -2147483648 ≤ x k ∧ x k < 2147483648)
    (ha0 : 0 ≤ at') (ha1 : at' < 28) (hn : 0 ≤ n ∧ n ≤ 5)
    (h : ∀ G', FBk G G' B at' n x 5 → Kn [.ref (B + 544), v, s, a, b, c, d, e, .int (zI n), f', .int (zI at'), .int (zI 5)] (st T nx rc rs R G')) :
    wX12_form_1 [.ref (B + 544), v, s, a, b, c, d, e, .int (zI n), f', .int (zI at'), .int (zI 0)] (st T nx rc rs R G) Kn Kr := by
  refine lX12_form_1 (fun m env μ => ∃ (k : Nat) (G' : Nat → Int → Int), k + m = 5 ∧ FBk G G' B at' n x k ∧ env = [.ref (B + 544), v, s, a, b, c, d, e, .int (zI n), f', .int (zI at'), .int (zI k)] ∧ μ = st T nx rc rs R G') ?_ 5 _ _ ⟨0, G, by omega, ⟨off_refl _ _, (by rw [show (5 * at' + ((0 : Nat) : Int)) = 5 * at' by omega, fw_0]), (by rw [show (5 * at' + ((0 : Nat) : Int)) = 5 * at' by omega, fw_0]), (by rw [show (5 * at' + ((0 : Nat) : Int)) = 5 * at' by omega, fw_0])⟩, rfl, rfl⟩
  intro m env μ ⟨k, G', hk, ⟨f1, f2, f3, f4⟩, he, hm⟩
  subst he hm
  by_cases hlt : k < 5
  · have g := hx k (by omega) (by omega)
    have gA : G' (B + 544 + 13) = G (B + 544 + 13) := f1 (B + 544 + 13) (by simp only [List.mem_cons, List.not_mem_nil, or_false, not_or]; omega)
    by_cases hkn : (k : Int) < n
    · simp (config := { contextual := true }) (disch := omega) only [q_mk, q_sq, q_if, q_te, q_cm, e_cz, q_an2, q_or2, q_no, q_ci, q_l, q_r, e_k, e_kn, e_kl, e_il, q_2, q_2d, q_2c, q_1, q_cs, q_cv, q_ac, q_an, q_sri, q_srv, q_srr, q_nop, q_sset, q_sdec, e_inc, q_spf, q_sof, q_sai, q_saz, q_soa, q_sx, q_blk, q_fi, q_fr, q_ai, q_az, q_ar, List.getElem?_cons_zero, List.getElem?_cons_succ, List.length_cons, List.length_nil, List.set_cons_zero, List.set_cons_succ, List.cons_append, List.nil_append, List.take_succ_cons, List.take_zero, Option.some.injEq, Value.int.injEq, Value.ref.injEq, Value.long.injEq, Sum.inr.injEq, Sum.inl.injEq, Prod.mk.injEq, exists_eq_left, exists_eq_left', and_assoc, exists_and_left, List.forall_mem_cons, List.not_mem_nil, Value.category, true_and, and_true, Nat.zero_le, forall_const, implies_true, Nat.zero_add, Nat.reduceAdd, Nat.reduceLT, Nat.reduceLeDiff, Nat.le_refl, Nat.sub_zero, q_cI, q_cR, q_cV, q_cV2, q_budz, true_implies, false_implies, not_true_eq_false, not_false_eq_true, isref_o, isref_a, q_oi, q_or, q_ov, g_add, g_sub, g_mul, zI_add, r_eq, r_ne, r_lt, r_ge, r_gt, r_le, bz_ne, st_T, st_rc, st_rs, st_M, st_bud, st_set, st_setR, zI_clamp, nn_toNat, zI_inI, cn_of, cn_0, cn_1, Option.getD_none, Option.getD_some, bok_bz, bok_z1, bok_z0, i10, wcX12_form_1, wsX12_form_1, gA, g.1, hkn, mulc, gs_ne, t12 hM, r12_4 hM, t12_4 hM, v12_4 hM, w12_4 hM, r12_5 hM, t12_5 hM, v12_5 hM, w12_5 hM, r12_6 hM, t12_6 hM, v12_6 hM, w12_6 hM, r12_12 hM, t12_12 hM, v12_12 hM, w12_12 hM]
      refine ⟨m - 1, by omega, k + 1, _, by omega, ?_, rfl, rfl⟩
      refine ⟨off_gs (off_gs (off_gs f1 (by simp)) (by simp)) (by simp), ?_, ?_, ?_⟩
      · simp (disch := omega) only [gs_ne, gs_eq]
        rw [f2, fw_s (by omega) (by show x k = if 5 * at' + k - 5 * at' < n then x (5 * at' + k - 5 * at') else -1; rw [show 5 * at' + (k : Int) - 5 * at' = k by omega, if_pos hkn]), show 5 * at' + ((k + 1 : Nat) : Int) = 5 * at' + k + 1 by omega]
      · simp (disch := omega) only [gs_ne, gs_eq]
        rw [f3, fw_s (by omega) rfl, show 5 * at' + ((k + 1 : Nat) : Int) = 5 * at' + k + 1 by omega]
      · simp (disch := omega) only [gs_ne, gs_eq]
        rw [f4, fw_s (by omega) rfl, show 5 * at' + ((k + 1 : Nat) : Int) = 5 * at' + k + 1 by omega]
    · simp (config := { contextual := true }) (disch := omega) only [q_mk, q_sq, q_if, q_te, q_cm, e_cz, q_an2, q_or2, q_no, q_ci, q_l, q_r, e_k, e_kn, e_kl, e_il, q_2, q_2d, q_2c, q_1, q_cs, q_cv, q_ac, q_an, q_sri, q_srv, q_srr, q_nop, q_sset, q_sdec, e_inc, q_spf, q_sof, q_sai, q_saz, q_soa, q_sx, q_blk, q_fi, q_fr, q_ai, q_az, q_ar, List.getElem?_cons_zero, List.getElem?_cons_succ, List.length_cons, List.length_nil, List.set_cons_zero, List.set_cons_succ, List.cons_append, List.nil_append, List.take_succ_cons, List.take_zero, Option.some.injEq, Value.int.injEq, Value.ref.injEq, Value.long.injEq, Sum.inr.injEq, Sum.inl.injEq, Prod.mk.injEq, exists_eq_left, exists_eq_left', and_assoc, exists_and_left, List.forall_mem_cons, List.not_mem_nil, Value.category, true_and, and_true, Nat.zero_le, forall_const, implies_true, Nat.zero_add, Nat.reduceAdd, Nat.reduceLT, Nat.reduceLeDiff, Nat.le_refl, Nat.sub_zero, q_cI, q_cR, q_cV, q_cV2, q_budz, true_implies, false_implies, not_true_eq_false, not_false_eq_true, isref_o, isref_a, q_oi, q_or, q_ov, g_add, g_sub, g_mul, zI_add, r_eq, r_ne, r_lt, r_ge, r_gt, r_le, bz_ne, st_T, st_rc, st_rs, st_M, st_bud, st_set, st_setR, zI_clamp, nn_toNat, zI_inI, cn_of, cn_0, cn_1, Option.getD_none, Option.getD_some, bok_bz, bok_z1, bok_z0, i10, wcX12_form_1, wsX12_form_1, gA, hkn, mulc, gs_ne, t12 hM, r12_4 hM, t12_4 hM, v12_4 hM, w12_4 hM, r12_5 hM, t12_5 hM, v12_5 hM, w12_5 hM, r12_6 hM, t12_6 hM, v12_6 hM, w12_6 hM, r12_12 hM, t12_12 hM, v12_12 hM, w12_12 hM]
      refine ⟨m - 1, by omega, k + 1, _, by omega, ?_, rfl, rfl⟩
      refine ⟨off_gs (off_gs (off_gs f1 (by simp)) (by simp)) (by simp), ?_, ?_, ?_⟩
      · simp (disch := omega) only [gs_ne, gs_eq]
        rw [f2, fw_s (by omega) (by show (-1 : Int) = if 5 * at' + k - 5 * at' < n then x (5 * at' + k - 5 * at') else -1; rw [show 5 * at' + (k : Int) - 5 * at' = k by omega, if_neg hkn]), show 5 * at' + ((k + 1 : Nat) : Int) = 5 * at' + k + 1 by omega]
      · simp (disch := omega) only [gs_ne, gs_eq]
        rw [f3, fw_s (by omega) rfl, show 5 * at' + ((k + 1 : Nat) : Int) = 5 * at' + k + 1 by omega]
      · simp (disch := omega) only [gs_ne, gs_eq]
        rw [f4, fw_s (by omega) rfl, show 5 * at' + ((k + 1 : Nat) : Int) = 5 * at' + k + 1 by omega]
  · have e : k = 5 := by omega
    subst e
    simp (config := { contextual := true }) (disch := omega) only [q_mk, q_sq, q_if, q_te, q_cm, e_cz, q_an2, q_or2, q_no, q_ci, q_l, q_r, e_k, e_kn, e_kl, e_il, q_2, q_2d, q_2c, q_1, q_cs, q_cv, q_ac, q_an, q_sri, q_srv, q_srr, q_nop, q_sset, q_sdec, e_inc, q_spf, q_sof, q_sai, q_saz, q_soa, q_sx, q_blk, q_fi, q_fr, q_ai, q_az, q_ar, List.getElem?_cons_zero, List.getElem?_cons_succ, List.length_cons, List.length_nil, List.set_cons_zero, List.set_cons_succ, List.cons_append, List.nil_append, List.take_succ_cons, List.take_zero, Option.some.injEq, Value.int.injEq, Value.ref.injEq, Value.long.injEq, Sum.inr.injEq, Sum.inl.injEq, Prod.mk.injEq, exists_eq_left, exists_eq_left', and_assoc, exists_and_left, List.forall_mem_cons, List.not_mem_nil, Value.category, true_and, and_true, Nat.zero_le, forall_const, implies_true, Nat.zero_add, Nat.reduceAdd, Nat.reduceLT, Nat.reduceLeDiff, Nat.le_refl, Nat.sub_zero, q_cI, q_cR, q_cV, q_cV2, q_budz, true_implies, false_implies, not_true_eq_false, not_false_eq_true, isref_o, isref_a, q_oi, q_or, q_ov, g_add, g_sub, g_mul, zI_add, r_eq, r_ne, r_lt, r_ge, r_gt, r_le, bz_ne, st_T, st_rc, st_rs, st_M, st_bud, st_set, st_setR, zI_clamp, nn_toNat, zI_inI, cn_of, cn_0, cn_1, Option.getD_none, Option.getD_some, bok_bz, bok_z1, bok_z0, i10, wcX12_form_1, wsX12_form_1, t12 hM, r12_12 hM, t12_12 hM, v12_12 hM, w12_12 hM]
    exact h G' ⟨f1, f2, f3, f4⟩
/-- what form has done in the reference -/
def FBa (G G' : Nat → Int → Int) (B : Nat) (v f n s : Int) (x : Int → Int) : Prop := G' (B + 544 + 2) = fu (G (B + 544 + 2)) v (f + 1) ∧ G' (B + 544 + 3) = fu (G (B + 544 + 3)) (14 * v + f) s ∧ G' (B + 544 + 4) = fu (G (B + 544 + 4)) (14 * v + f) n ∧
  G' (B + 544 + 5) = fw (G (B + 544 + 5)) (5 * (14 * v + f)) (5 * (14 * v + f) + 5) (fun j => if j - 5 * (14 * v + f) < n then x (j - 5 * (14 * v + f)) else -1) ∧ G' (B + 544 + 6) = fw (G (B + 544 + 6)) (5 * (14 * v + f)) (5 * (14 * v + f) + 5) (fun _ => 1) ∧ G' (B + 544 + 7) = fw (G (B + 544 + 7)) (5 * (14 * v + f)) (5 * (14 * v + f) + 5) (fun _ => 0) ∧
  G' (B + 544 + 8) = fu (G (B + 544 + 8)) (14 * v + f) 0 ∧ G' (B + 544 + 9) = fu (G (B + 544 + 9)) (14 * v + f) 0 ∧ G' (B + 544 + 12) = fu (G (B + 544 + 12)) (14 * v + f) 0
def FB (G G' : Nat → Int → Int) (B : Nat) (v f n s : Int) (x : Int → Int) : Prop := Off [(B + 544 + 2), (B + 544 + 3), (B + 544 + 4), (B + 544 + 5), (B + 544 + 6), (B + 544 + 7), (B + 544 + 8), (B + 544 + 9), (B + 544 + 12), (B + 544 + 13)] G G' ∧ FBa G G' B v f n s x
theorem c12_form {T : Nat → Option q_T} {nx rc rs B : Nat} {R : Nat → Nat → Option Value} {G : Nat → Int → Int} {v s f a b c d e : Int} {x : Int → Int} {n : Nat} {K : Option Value → q_M → Prop} (hM : Ly T R (B + 544) (L12 (B + 544))) (hv : 0 ≤ v ∧ v ≤ 1) (hs1 : -2147483648 ≤ s) (hs2 : s < 2147483648)
    (ha : -2147483648 ≤ a ∧ a < 2147483648) (hb : -2147483648 ≤ b ∧ b < 2147483648) (hc : -2147483648 ≤ c ∧ c < 2147483648) (hd : -2147483648 ≤ d ∧ d < 2147483648) (he : -2147483648 ≤ e ∧ e < 2147483648) (hx : x = vv5 a b c d e) (hn : n = cnt5 x) (hf : G (B + 544 + 2) v = f) (hf0 : 0 ≤ f) (hf1 : f ≤ 14)
    (h1 : ¬ (0 ≤ s ∧ s ≤ 5 ∧ allI x n ∧ goodF x n s) → K (some (.int (zI (-100002)))) (st T nx rc rs R (g5 G (B + 544 + 13) a b c d e)))
    (h2 : 0 ≤ s ∧ s ≤ 5 ∧ allI x n ∧ goodF x n s → f = 14 → K (some (.int (zI (-100004)))) (st T nx rc rs R (g5 G (B + 544 + 13) a b c d e)))
    (h3 : 0 ≤ s ∧ s ≤ 5 ∧ allI x n ∧ goodF x n s → ¬ f = 14 → ∀ G', FB G G' B v f n s x → K (some (.int (zI f))) (st T nx rc rs R G')) :
    fX12_form [.ref (B + 544), .int (zI v), .int (zI s), .int (zI a), .int (zI b), .int (zI c), .int (zI d), .int (zI e)] (st T nx rc rs R G) K := by
  simp (config := { contextual := true }) (disch := omega) only [fX12_form, uX12_form, q_mk, q_sq, q_if, q_te, q_cm, e_cz, q_an2, q_or2, q_no, q_ci, q_l, q_r, e_k, e_kn, e_kl, e_il, q_2, q_2d, q_2c, q_1, q_cs, q_cv, q_ac, q_an, q_sri, q_srv, q_srr, q_nop, q_sset, q_sdec, e_inc, q_spf, q_sof, q_sai, q_saz, q_soa, q_sx, q_blk, q_fi, q_fr, q_ai, q_az, q_ar, List.getElem?_cons_zero, List.getElem?_cons_succ, List.length_cons, List.length_nil, List.set_cons_zero, List.set_cons_succ, List.cons_append, List.nil_append, List.take_succ_cons, List.take_zero, Option.some.injEq, Value.int.injEq, Value.ref.injEq, Value.long.injEq, Sum.inr.injEq, Sum.inl.injEq, Prod.mk.injEq, exists_eq_left, exists_eq_left', and_assoc, exists_and_left, List.forall_mem_cons, List.not_mem_nil, Value.category, true_and, and_true, Nat.zero_le, forall_const, implies_true, Nat.zero_add, Nat.reduceAdd, Nat.reduceLT, Nat.reduceLeDiff, Nat.le_refl, Nat.sub_zero, q_cI, q_cR, q_cV, q_cV2, q_budz, true_implies, false_implies, not_true_eq_false, not_false_eq_true, isref_o, isref_a, q_oi, q_or, q_ov, g_add, g_sub, g_mul, zI_add, r_eq, r_ne, r_lt, r_ge, r_gt, r_le, bz_ne, st_T, st_rc, st_rs, st_M, st_bud, st_set, st_setR, zI_clamp, nn_toNat, zI_inI, cn_of, cn_0, cn_1, Option.getD_none, Option.getD_some, bok_bz, bok_z1, bok_z0, i10, c12_isTelling, hv, t12 hM, r12_12 hM, t12_12 hM, v12_12 hM, w12_12 hM]
  refine w12_form0 (x := x) hM (fun k q1 q2 => ?_) (fun hA => ?_) (fun hA => ?_)
  · have := g5_at (G := G) (A := B + 544 + 13) (a := a) (b := b) (c := c) (d := d) (e := e) q1 q2
    rw [hx]
    exact ⟨this, vv5_b ha hb hc hd he⟩
  · rw [← hn] at hA ⊢
    have hn5 := (cnt5_p x).1
    have x0 : x 0 = a := by rw [hx]; rfl
    have fm : g5 G (B + 544 + 13) a b c d e (B + 544 + 2) = G (B + 544 + 2) := g5_ne (by omega)
    have fm2 : gs (gs (gs (gs (gs G (B + 544 + 13) 0 a) (B + 544 + 13) 1 b) (B + 544 + 13) 2 c) (B + 544 + 13) 3 d) (B + 544 + 13) 4 e = g5 G (B + 544 + 13) a b c d e := rfl
    rw [fm2]
    by_cases hs : 0 ≤ s ∧ s ≤ 5
    · by_cases h0 : n = 0
      · have hng : ¬ (0 ≤ s ∧ s ≤ 5 ∧ allI x n ∧ goodF x n s) := fun q => q.2.2.2.1 h0
        have h0z : (n : Int) = 0 := by omega
        simp (config := { contextual := true }) (disch := omega) only [q_mk, q_sq, q_if, q_te, q_cm, e_cz, q_an2, q_or2, q_no, q_ci, q_l, q_r, e_k, e_kn, e_kl, e_il, q_2, q_2d, q_2c, q_1, q_cs, q_cv, q_ac, q_an, q_sri, q_srv, q_srr, q_nop, q_sset, q_sdec, e_inc, q_spf, q_sof, q_sai, q_saz, q_soa, q_sx, q_blk, q_fi, q_fr, q_ai, q_az, q_ar, List.getElem?_cons_zero, List.getElem?_cons_succ, List.length_cons, List.length_nil, List.set_cons_zero, List.set_cons_succ, List.cons_append, List.nil_append, List.take_succ_cons, List.take_zero, Option.some.injEq, Value.int.injEq, Value.ref.injEq, Value.long.injEq, Sum.inr.injEq, Sum.inl.injEq, Prod.mk.injEq, exists_eq_left, exists_eq_left', and_assoc, exists_and_left, List.forall_mem_cons, List.not_mem_nil, Value.category, true_and, and_true, Nat.zero_le, forall_const, implies_true, Nat.zero_add, Nat.reduceAdd, Nat.reduceLT, Nat.reduceLeDiff, Nat.le_refl, Nat.sub_zero, q_cI, q_cR, q_cV, q_cV2, q_budz, true_implies, false_implies, not_true_eq_false, not_false_eq_true, isref_o, isref_a, q_oi, q_or, q_ov, g_add, g_sub, g_mul, zI_add, r_eq, r_ne, r_lt, r_ge, r_gt, r_le, bz_ne, st_T, st_rc, st_rs, st_M, st_bud, st_set, st_setR, zI_clamp, nn_toNat, zI_inI, cn_of, cn_0, cn_1, Option.getD_none, Option.getD_some, bok_bz, bok_z1, bok_z0, i10, c12_in, zI_long, hs, h0z, t12 hM, r12_12 hM, t12_12 hM, v12_12 hM, w12_12 hM]
        exact h1 hng
      · have h0z : ¬ (n : Int) = 0 := by omega
        by_cases hq : n = 1 ∧ (60 ≤ a ∧ a ≤ 65) ∧ a - 60 ≤ s
        · have hng : ¬ (0 ≤ s ∧ s ≤ 5 ∧ allI x n ∧ goodF x n s) := fun q => q.2.2.2.2 (by rw [x0]; exact hq)
          have h1z : (n : Int) = 1 := by omega
          simp (config := { contextual := true }) (disch := omega) only [q_mk, q_sq, q_if, q_te, q_cm, e_cz, q_an2, q_or2, q_no, q_ci, q_l, q_r, e_k, e_kn, e_kl, e_il, q_2, q_2d, q_2c, q_1, q_cs, q_cv, q_ac, q_an, q_sri, q_srv, q_srr, q_nop, q_sset, q_sdec, e_inc, q_spf, q_sof, q_sai, q_saz, q_soa, q_sx, q_blk, q_fi, q_fr, q_ai, q_az, q_ar, List.getElem?_cons_zero, List.getElem?_cons_succ, List.length_cons, List.length_nil, List.set_cons_zero, List.set_cons_succ, List.cons_append, List.nil_append, List.take_succ_cons, List.take_zero, Option.some.injEq, Value.int.injEq, Value.ref.injEq, Value.long.injEq, Sum.inr.injEq, Sum.inl.injEq, Prod.mk.injEq, exists_eq_left, exists_eq_left', and_assoc, exists_and_left, List.forall_mem_cons, List.not_mem_nil, Value.category, true_and, and_true, Nat.zero_le, forall_const, implies_true, Nat.zero_add, Nat.reduceAdd, Nat.reduceLT, Nat.reduceLeDiff, Nat.le_refl, Nat.sub_zero, q_cI, q_cR, q_cV, q_cV2, q_budz, true_implies, false_implies, not_true_eq_false, not_false_eq_true, isref_o, isref_a, q_oi, q_or, q_ov, g_add, g_sub, g_mul, zI_add, r_eq, r_ne, r_lt, r_ge, r_gt, r_le, bz_ne, st_T, st_rc, st_rs, st_M, st_bud, st_set, st_setR, zI_clamp, nn_toNat, zI_inI, cn_of, cn_0, cn_1, Option.getD_none, Option.getD_some, bok_bz, bok_z1, bok_z0, i10, c12_in, c12_isSort, zI_long, hs, h0z, h1z, hq.2.1, hq.2.2, i10, t12 hM, r12_12 hM, t12_12 hM, v12_12 hM, w12_12 hM]
          exact h1 hng
        · have hg : 0 ≤ s ∧ s ≤ 5 ∧ allI x n ∧ goodF x n s := ⟨hs.1, hs.2, hA, h0, by rw [x0]; exact hq⟩
          have key : ∀ (P Q : Prop), (¬ (n : Int) = 1 → P) → ((n : Int) = 1 → ¬ (60 ≤ a ∧ a ≤ 65) → P) → ((n : Int) = 1 → (60 ≤ a ∧ a ≤ 65) → ¬ a - 60 ≤ s → P) → P := by
            intro P Q p1 p2 p3
            by_cases u1 : (n : Int) = 1
            · by_cases u2 : 60 ≤ a ∧ a ≤ 65
              · exact p3 u1 u2 (fun u3 => hq ⟨by omega, u2, u3⟩)
              · exact p2 u1 u2
            · exact p1 u1
          by_cases hfull : f = 14
          · have hfz : G (B + 544 + 2) v = 14 := by omega
            have done := h2 hg hfull
            refine key _ True (fun u1 => ?_) (fun u1 u2 => ?_) (fun u1 u2 u3 => ?_)
            · simp (config := { contextual := true }) (disch := omega) only [q_mk, q_sq, q_if, q_te, q_cm, e_cz, q_an2, q_or2, q_no, q_ci, q_l, q_r, e_k, e_kn, e_kl, e_il, q_2, q_2d, q_2c, q_1, q_cs, q_cv, q_ac, q_an, q_sri, q_srv, q_srr, q_nop, q_sset, q_sdec, e_inc, q_spf, q_sof, q_sai, q_saz, q_soa, q_sx, q_blk, q_fi, q_fr, q_ai, q_az, q_ar, List.getElem?_cons_zero, List.getElem?_cons_succ, List.length_cons, List.length_nil, List.set_cons_zero, List.set_cons_succ, List.cons_append, List.nil_append, List.take_succ_cons, List.take_zero, Option.some.injEq, Value.int.injEq, Value.ref.injEq, Value.long.injEq, Sum.inr.injEq, Sum.inl.injEq, Prod.mk.injEq, exists_eq_left, exists_eq_left', and_assoc, exists_and_left, List.forall_mem_cons, List.not_mem_nil, Value.category, true_and, and_true, Nat.zero_le, forall_const, implies_true, Nat.zero_add, Nat.reduceAdd, Nat.reduceLT, Nat.reduceLeDiff, Nat.le_refl, Nat.sub_zero, q_cI, q_cR, q_cV, q_cV2, q_budz, true_implies, false_implies, not_true_eq_false, not_false_eq_true, isref_o, isref_a, q_oi, q_or, q_ov, g_add, g_sub, g_mul, zI_add, r_eq, r_ne, r_lt, r_ge, r_gt, r_le, bz_ne, st_T, st_rc, st_rs, st_M, st_bud, st_set, st_setR, zI_clamp, nn_toNat, zI_inI, cn_of, cn_0, cn_1, Option.getD_none, Option.getD_some, bok_bz, bok_z1, bok_z0, i10, c12_in, c12_isSort, zI_long, hs, h0z, u1, fm, hfz, t12 hM, r12_1 hM, t12_1 hM, v12_1 hM, w12_1 hM]
              exact done
            · simp (config := { contextual := true }) (disch := omega) only [q_mk, q_sq, q_if, q_te, q_cm, e_cz, q_an2, q_or2, q_no, q_ci, q_l, q_r, e_k, e_kn, e_kl, e_il, q_2, q_2d, q_2c, q_1, q_cs, q_cv, q_ac, q_an, q_sri, q_srv, q_srr, q_nop, q_sset, q_sdec, e_inc, q_spf, q_sof, q_sai, q_saz, q_soa, q_sx, q_blk, q_fi, q_fr, q_ai, q_az, q_ar, List.getElem?_cons_zero, List.getElem?_cons_succ, List.length_cons, List.length_nil, List.set_cons_zero, List.set_cons_succ, List.cons_append, List.nil_append, List.take_succ_cons, List.take_zero, Option.some.injEq, Value.int.injEq, Value.ref.injEq, Value.long.injEq, Sum.inr.injEq, Sum.inl.injEq, Prod.mk.injEq, exists_eq_left, exists_eq_left', and_assoc, exists_and_left, List.forall_mem_cons, List.not_mem_nil, Value.category, true_and, and_true, Nat.zero_le, forall_const, implies_true, Nat.zero_add, Nat.reduceAdd, Nat.reduceLT, Nat.reduceLeDiff, Nat.le_refl, Nat.sub_zero, q_cI, q_cR, q_cV, q_cV2, q_budz, true_implies, false_implies, not_true_eq_false, not_false_eq_true, isref_o, isref_a, q_oi, q_or, q_ov, g_add, g_sub, g_mul, zI_add, r_eq, r_ne, r_lt, r_ge, r_gt, r_le, bz_ne, st_T, st_rc, st_rs, st_M, st_bud, st_set, st_setR, zI_clamp, nn_toNat, zI_inI, cn_of, cn_0, cn_1, Option.getD_none, Option.getD_some, bok_bz, bok_z1, bok_z0, i10, c12_in, c12_isSort, zI_long, hs, h0z, u1, u2, i10, fm, hfz, t12 hM, r12_1 hM, t12_1 hM, v12_1 hM, w12_1 hM]
              exact done
            · simp (config := { contextual := true }) (disch := omega) only [q_mk, q_sq, q_if, q_te, q_cm, e_cz, q_an2, q_or2, q_no, q_ci, q_l, q_r, e_k, e_kn, e_kl, e_il, q_2, q_2d, q_2c, q_1, q_cs, q_cv, q_ac, q_an, q_sri, q_srv, q_srr, q_nop, q_sset, q_sdec, e_inc, q_spf, q_sof, q_sai, q_saz, q_soa, q_sx, q_blk, q_fi, q_fr, q_ai, q_az, q_ar, List.getElem?_cons_zero, List.getElem?_cons_succ, List.length_cons, List.length_nil, List.set_cons_zero, List.set_cons_succ, List.cons_append, List.nil_append, List.take_succ_cons, List.take_zero, Option.some.injEq, Value.int.injEq, Value.ref.injEq, Value.long.injEq, Sum.inr.injEq, Sum.inl.injEq, Prod.mk.injEq, exists_eq_left, exists_eq_left', and_assoc, exists_and_left, List.forall_mem_cons, List.not_mem_nil, Value.category, true_and, and_true, Nat.zero_le, forall_const, implies_true, Nat.zero_add, Nat.reduceAdd, Nat.reduceLT, Nat.reduceLeDiff, Nat.le_refl, Nat.sub_zero, q_cI, q_cR, q_cV, q_cV2, q_budz, true_implies, false_implies, not_true_eq_false, not_false_eq_true, isref_o, isref_a, q_oi, q_or, q_ov, g_add, g_sub, g_mul, zI_add, r_eq, r_ne, r_lt, r_ge, r_gt, r_le, bz_ne, st_T, st_rc, st_rs, st_M, st_bud, st_set, st_setR, zI_clamp, nn_toNat, zI_inI, cn_of, cn_0, cn_1, Option.getD_none, Option.getD_some, bok_bz, bok_z1, bok_z0, i10, c12_in, c12_isSort, zI_long, hs, h0z, u1, u2, u3, i10, fm, hfz, t12 hM, r12_1 hM, t12_1 hM, v12_1 hM, w12_1 hM]
              exact done
          · have done := h3 hg hfull
            have hfz : ¬ f = 14 := hfull
            have bk := nar_b (b := 0) (by omega) (by omega)
            refine key _ True (fun u1 => ?_) (fun u1 u2 => ?_) (fun u1 u2 u3 => ?_)
            · simp (config := { contextual := true }) (disch := omega) only [q_mk, q_sq, q_if, q_te, q_cm, e_cz, q_an2, q_or2, q_no, q_ci, q_l, q_r, e_k, e_kn, e_kl, e_il, q_2, q_2d, q_2c, q_1, q_cs, q_cv, q_ac, q_an, q_sri, q_srv, q_srr, q_nop, q_sset, q_sdec, e_inc, q_spf, q_sof, q_sai, q_saz, q_soa, q_sx, q_blk, q_fi, q_fr, q_ai, q_az, q_ar, List.getElem?_cons_zero, List.getElem?_cons_succ, List.length_cons, List.length_nil, List.set_cons_zero, List.set_cons_succ, List.cons_append, List.nil_append, List.take_succ_cons, List.take_zero, Option.some.injEq, Value.int.injEq, Value.ref.injEq, Value.long.injEq, Sum.inr.injEq, Sum.inl.injEq, Prod.mk.injEq, exists_eq_left, exists_eq_left', and_assoc, exists_and_left, List.forall_mem_cons, List.not_mem_nil, Value.category, true_and, and_true, Nat.zero_le, forall_const, implies_true, Nat.zero_add, Nat.reduceAdd, Nat.reduceLT, Nat.reduceLeDiff, Nat.le_refl, Nat.sub_zero, q_cI, q_cR, q_cV, q_cV2, q_budz, true_implies, false_implies, not_true_eq_false, not_false_eq_true, isref_o, isref_a, q_oi, q_or, q_ov, g_add, g_sub, g_mul, zI_add, r_eq, r_ne, r_lt, r_ge, r_gt, r_le, bz_ne, st_T, st_rc, st_rs, st_M, st_bud, st_set, st_setR, zI_clamp, nn_toNat, zI_inI, cn_of, cn_0, cn_1, Option.getD_none, Option.getD_some, bok_bz, bok_z1, bok_z0, i10, c12_in, c12_isSort, zI_long, hs, h0z, u1, fm, hf, hfz, mulc, gs_ne, t12 hM, r12_1 hM, t12_1 hM, v12_1 hM, w12_1 hM, r12_2 hM, t12_2 hM, v12_2 hM, w12_2 hM, r12_3 hM, t12_3 hM, v12_3 hM, w12_3 hM]
              refine w12_form1 (x := x) hM (fun k q1 q2 => ?_) (by omega) (by omega) (by omega) (fun G' hB => ?_)
              · simp (disch := omega) only [gs_ne]
                rw [hx]
                exact ⟨g5_at q1 q2, vv5_b ha hb hc hd he⟩
              · obtain ⟨p1, p2, p3, p4⟩ := hB
                simp (disch := omega) only [gs_ne, g5_ne] at p2 p3 p4
                have e1 : G' (B + 544 + 2) = G (B + 544 + 2) := by rw [p1 (B + 544 + 2) (by simp only [List.mem_cons, List.not_mem_nil, or_false, not_or]; omega)]; simp (disch := omega) only [gs_ne, g5_ne]
                have e1f : G' (B + 544 + 2) v = f := by rw [e1, hf]
                simp (config := { contextual := true }) (disch := omega) only [q_mk, q_sq, q_if, q_te, q_cm, e_cz, q_an2, q_or2, q_no, q_ci, q_l, q_r, e_k, e_kn, e_kl, e_il, q_2, q_2d, q_2c, q_1, q_cs, q_cv, q_ac, q_an, q_sri, q_srv, q_srr, q_nop, q_sset, q_sdec, e_inc, q_spf, q_sof, q_sai, q_saz, q_soa, q_sx, q_blk, q_fi, q_fr, q_ai, q_az, q_ar, List.getElem?_cons_zero, List.getElem?_cons_succ, List.length_cons, List.length_nil, List.set_cons_zero, List.set_cons_succ, List.cons_append, List.nil_append, List.take_succ_cons, List.take_zero, Option.some.injEq, Value.int.injEq, Value.ref.injEq, Value.long.injEq, Sum.inr.injEq, Sum.inl.injEq, Prod.mk.injEq, exists_eq_left, exists_eq_left', and_assoc, exists_and_left, List.forall_mem_cons, List.not_mem_nil, Value.category, true_and, and_true, Nat.zero_le, forall_const, implies_true, Nat.zero_add, Nat.reduceAdd, Nat.reduceLT, Nat.reduceLeDiff, Nat.le_refl, Nat.sub_zero, q_cI, q_cR, q_cV, q_cV2, q_budz, true_implies, false_implies, not_true_eq_false, not_false_eq_true, isref_o, isref_a, q_oi, q_or, q_ov, g_add, g_sub, g_mul, zI_add, r_eq, r_ne, r_lt, r_ge, r_gt, r_le, bz_ne, st_T, st_rc, st_rs, st_M, st_bud, st_set, st_setR, zI_clamp, nn_toNat, zI_inI, cn_of, cn_0, cn_1, Option.getD_none, Option.getD_some, bok_bz, bok_z1, bok_z0, i10, e1f, bk, mulc, gs_ne, t12 hM, r12_1 hM, t12_1 hM, v12_1 hM, w12_1 hM, r12_7 hM, t12_7 hM, v12_7 hM, w12_7 hM, r12_8 hM, t12_8 hM, v12_8 hM, w12_8 hM, r12_11 hM, t12_11 hM, v12_11 hM, w12_11 hM]
                refine done _ ⟨?_, ?_, ?_, ?_, ?_, ?_, ?_, ?_, ?_, ?_⟩
                · intro q hq2
                  simp only [List.mem_cons, List.not_mem_nil, or_false, not_or] at hq2
                  simp (disch := omega) only [gs_ne]
                  rw [p1 q (by simp only [List.mem_cons, List.not_mem_nil, or_false, not_or]; omega)]
                  simp (disch := omega) only [gs_ne, g5_ne]
                · simp (disch := omega) only [gs_ne, gs_eq]
                  rw [e1]
                · simp (disch := omega) only [gs_ne]
                  rw [p1 (B + 544 + 3) (by simp only [List.mem_cons, List.not_mem_nil, or_false, not_or]; omega)]
                  simp (disch := omega) only [gs_ne, gs_eq, g5_ne]
                · simp (disch := omega) only [gs_ne]
                  rw [p1 (B + 544 + 4) (by simp only [List.mem_cons, List.not_mem_nil, or_false, not_or]; omega)]
                  simp (disch := omega) only [gs_ne, gs_eq, g5_ne]
                · simp (disch := omega) only [gs_ne]
                  exact p2
                · simp (disch := omega) only [gs_ne]
                  exact p3
                · simp (disch := omega) only [gs_ne]
                  exact p4
                · simp (disch := omega) only [gs_ne, gs_eq]
                  rw [p1 (B + 544 + 8) (by simp only [List.mem_cons, List.not_mem_nil, or_false, not_or]; omega)]
                  simp (disch := omega) only [gs_ne, g5_ne]
                · simp (disch := omega) only [gs_ne, gs_eq]
                  rw [p1 (B + 544 + 9) (by simp only [List.mem_cons, List.not_mem_nil, or_false, not_or]; omega)]
                  simp (disch := omega) only [gs_ne, g5_ne]
                · simp (disch := omega) only [gs_ne, gs_eq]
                  rw [p1 (B + 544 + 12) (by simp only [List.mem_cons, List.not_mem_nil, or_false, not_or]; omega)]
                  simp (disch := omega) only [gs_ne, g5_ne]
            · simp (config := { contextual := true }) (disch := omega) only [q_mk, q_sq, q_if, q_te, q_cm, e_cz, q_an2, q_or2, q_no, q_ci, q_l, q_r, e_k, e_kn, e_kl, e_il, q_2, q_2d, q_2c, q_1, q_cs, q_cv, q_ac, q_an, q_sri, q_srv, q_srr, q_nop, q_sset, q_sdec, e_inc, q_spf, q_sof, q_sai, q_saz, q_soa, q_sx, q_blk, q_fi, q_fr, q_ai, q_az, q_ar, List.getElem?_cons_zero, List.getElem?_cons_succ, List.length_cons, List.length_nil, List.set_cons_zero, List.set_cons_succ, List.cons_append, List.nil_append, List.take_succ_cons, List.take_zero, Option.some.injEq, Value.int.injEq, Value.ref.injEq, Value.long.injEq, Sum.inr.injEq, Sum.inl.injEq, Prod.mk.injEq, exists_eq_left, exists_eq_left', and_assoc, exists_and_left, List.forall_mem_cons, List.not_mem_nil, Value.category, true_and, and_true, Nat.zero_le, forall_const, implies_true, Nat.zero_add, Nat.reduceAdd, Nat.reduceLT, Nat.reduceLeDiff, Nat.le_refl, Nat.sub_zero, q_cI, q_cR, q_cV, q_cV2, q_budz, true_implies, false_implies, not_true_eq_false, not_false_eq_true, isref_o, isref_a, q_oi, q_or, q_ov, g_add, g_sub, g_mul, zI_add, r_eq, r_ne, r_lt, r_ge, r_gt, r_le, bz_ne, st_T, st_rc, st_rs, st_M, st_bud, st_set, st_setR, zI_clamp, nn_toNat, zI_inI, cn_of, cn_0, cn_1, Option.getD_none, Option.getD_some, bok_bz, bok_z1, bok_z0, i10, c12_in, c12_isSort, zI_long, hs, h0z, u1, u2, i10, fm, hf, hfz, mulc, gs_ne, t12 hM, r12_1 hM, t12_1 hM, v12_1 hM, w12_1 hM, r12_2 hM, t12_2 hM, v12_2 hM, w12_2 hM, r12_3 hM, t12_3 hM, v12_3 hM, w12_3 hM]
              refine w12_form1 (x := x) hM (fun k q1 q2 => ?_) (by omega) (by omega) (by omega) (fun G' hB => ?_)
              · simp (disch := omega) only [gs_ne]
                rw [hx]
                exact ⟨g5_at q1 q2, vv5_b ha hb hc hd he⟩
              · obtain ⟨p1, p2, p3, p4⟩ := hB
                simp (disch := omega) only [gs_ne, g5_ne] at p2 p3 p4
                have e1 : G' (B + 544 + 2) = G (B + 544 + 2) := by rw [p1 (B + 544 + 2) (by simp only [List.mem_cons, List.not_mem_nil, or_false, not_or]; omega)]; simp (disch := omega) only [gs_ne, g5_ne]
                have e1f : G' (B + 544 + 2) v = f := by rw [e1, hf]
                simp (config := { contextual := true }) (disch := omega) only [q_mk, q_sq, q_if, q_te, q_cm, e_cz, q_an2, q_or2, q_no, q_ci, q_l, q_r, e_k, e_kn, e_kl, e_il, q_2, q_2d, q_2c, q_1, q_cs, q_cv, q_ac, q_an, q_sri, q_srv, q_srr, q_nop, q_sset, q_sdec, e_inc, q_spf, q_sof, q_sai, q_saz, q_soa, q_sx, q_blk, q_fi, q_fr, q_ai, q_az, q_ar, List.getElem?_cons_zero, List.getElem?_cons_succ, List.length_cons, List.length_nil, List.set_cons_zero, List.set_cons_succ, List.cons_append, List.nil_append, List.take_succ_cons, List.take_zero, Option.some.injEq, Value.int.injEq, Value.ref.injEq, Value.long.injEq, Sum.inr.injEq, Sum.inl.injEq, Prod.mk.injEq, exists_eq_left, exists_eq_left', and_assoc, exists_and_left, List.forall_mem_cons, List.not_mem_nil, Value.category, true_and, and_true, Nat.zero_le, forall_const, implies_true, Nat.zero_add, Nat.reduceAdd, Nat.reduceLT, Nat.reduceLeDiff, Nat.le_refl, Nat.sub_zero, q_cI, q_cR, q_cV, q_cV2, q_budz, true_implies, false_implies, not_true_eq_false, not_false_eq_true, isref_o, isref_a, q_oi, q_or, q_ov, g_add, g_sub, g_mul, zI_add, r_eq, r_ne, r_lt, r_ge, r_gt, r_le, bz_ne, st_T, st_rc, st_rs, st_M, st_bud, st_set, st_setR, zI_clamp, nn_toNat, zI_inI, cn_of, cn_0, cn_1, Option.getD_none, Option.getD_some, bok_bz, bok_z1, bok_z0, i10, e1f, bk, mulc, gs_ne, t12 hM, r12_1 hM, t12_1 hM, v12_1 hM, w12_1 hM, r12_7 hM, t12_7 hM, v12_7 hM, w12_7 hM, r12_8 hM, t12_8 hM, v12_8 hM, w12_8 hM, r12_11 hM, t12_11 hM, v12_11 hM, w12_11 hM]
                refine done _ ⟨?_, ?_, ?_, ?_, ?_, ?_, ?_, ?_, ?_, ?_⟩
                · intro q hq2
                  simp only [List.mem_cons, List.not_mem_nil, or_false, not_or] at hq2
                  simp (disch := omega) only [gs_ne]
                  rw [p1 q (by simp only [List.mem_cons, List.not_mem_nil, or_false, not_or]; omega)]
                  simp (disch := omega) only [gs_ne, g5_ne]
                · simp (disch := omega) only [gs_ne, gs_eq]
                  rw [e1]
                · simp (disch := omega) only [gs_ne]
                  rw [p1 (B + 544 + 3) (by simp only [List.mem_cons, List.not_mem_nil, or_false, not_or]; omega)]
                  simp (disch := omega) only [gs_ne, gs_eq, g5_ne]
                · simp (disch := omega) only [gs_ne]
                  rw [p1 (B + 544 + 4) (by simp only [List.mem_cons, List.not_mem_nil, or_false, not_or]; omega)]
                  simp (disch := omega) only [gs_ne, gs_eq, g5_ne]
                · simp (disch := omega) only [gs_ne]
                  exact p2
                · simp (disch := omega) only [gs_ne]
                  exact p3
                · simp (disch := omega) only [gs_ne]
                  exact p4
                · simp (disch := omega) only [gs_ne, gs_eq]
                  rw [p1 (B + 544 + 8) (by simp only [List.mem_cons, List.not_mem_nil, or_false, not_or]; omega)]
                  simp (disch := omega) only [gs_ne, g5_ne]
                · simp (disch := omega) only [gs_ne, gs_eq]
                  rw [p1 (B + 544 + 9) (by simp only [List.mem_cons, List.not_mem_nil, or_false, not_or]; omega)]
                  simp (disch := omega) only [gs_ne, g5_ne]
                · simp (disch := omega) only [gs_ne, gs_eq]
                  rw [p1 (B + 544 + 12) (by simp only [List.mem_cons, List.not_mem_nil, or_false, not_or]; omega)]
                  simp (disch := omega) only [gs_ne, g5_ne]
            · simp (config := { contextual := true }) (disch := omega) only [q_mk, q_sq, q_if, q_te, q_cm, e_cz, q_an2, q_or2, q_no, q_ci, q_l, q_r, e_k, e_kn, e_kl, e_il, q_2, q_2d, q_2c, q_1, q_cs, q_cv, q_ac, q_an, q_sri, q_srv, q_srr, q_nop, q_sset, q_sdec, e_inc, q_spf, q_sof, q_sai, q_saz, q_soa, q_sx, q_blk, q_fi, q_fr, q_ai, q_az, q_ar, List.getElem?_cons_zero, List.getElem?_cons_succ, List.length_cons, List.length_nil, List.set_cons_zero, List.set_cons_succ, List.cons_append, List.nil_append, List.take_succ_cons, List.take_zero, Option.some.injEq, Value.int.injEq, Value.ref.injEq, Value.long.injEq, Sum.inr.injEq, Sum.inl.injEq, Prod.mk.injEq, exists_eq_left, exists_eq_left', and_assoc, exists_and_left, List.forall_mem_cons, List.not_mem_nil, Value.category, true_and, and_true, Nat.zero_le, forall_const, implies_true, Nat.zero_add, Nat.reduceAdd, Nat.reduceLT, Nat.reduceLeDiff, Nat.le_refl, Nat.sub_zero, q_cI, q_cR, q_cV, q_cV2, q_budz, true_implies, false_implies, not_true_eq_false, not_false_eq_true, isref_o, isref_a, q_oi, q_or, q_ov, g_add, g_sub, g_mul, zI_add, r_eq, r_ne, r_lt, r_ge, r_gt, r_le, bz_ne, st_T, st_rc, st_rs, st_M, st_bud, st_set, st_setR, zI_clamp, nn_toNat, zI_inI, cn_of, cn_0, cn_1, Option.getD_none, Option.getD_some, bok_bz, bok_z1, bok_z0, i10, c12_in, c12_isSort, zI_long, hs, h0z, u1, u2, u3, i10, fm, hf, hfz, mulc, gs_ne, t12 hM, r12_1 hM, t12_1 hM, v12_1 hM, w12_1 hM, r12_2 hM, t12_2 hM, v12_2 hM, w12_2 hM, r12_3 hM, t12_3 hM, v12_3 hM, w12_3 hM]
              refine w12_form1 (x := x) hM (fun k q1 q2 => ?_) (by omega) (by omega) (by omega) (fun G' hB => ?_)
              · simp (disch := omega) only [gs_ne]
                rw [hx]
                exact ⟨g5_at q1 q2, vv5_b ha hb hc hd he⟩
              · obtain ⟨p1, p2, p3, p4⟩ := hB
                simp (disch := omega) only [gs_ne, g5_ne] at p2 p3 p4
                have e1 : G' (B + 544 + 2) = G (B + 544 + 2) := by rw [p1 (B + 544 + 2) (by simp only [List.mem_cons, List.not_mem_nil, or_false, not_or]; omega)]; simp (disch := omega) only [gs_ne, g5_ne]
                have e1f : G' (B + 544 + 2) v = f := by rw [e1, hf]
                simp (config := { contextual := true }) (disch := omega) only [q_mk, q_sq, q_if, q_te, q_cm, e_cz, q_an2, q_or2, q_no, q_ci, q_l, q_r, e_k, e_kn, e_kl, e_il, q_2, q_2d, q_2c, q_1, q_cs, q_cv, q_ac, q_an, q_sri, q_srv, q_srr, q_nop, q_sset, q_sdec, e_inc, q_spf, q_sof, q_sai, q_saz, q_soa, q_sx, q_blk, q_fi, q_fr, q_ai, q_az, q_ar, List.getElem?_cons_zero, List.getElem?_cons_succ, List.length_cons, List.length_nil, List.set_cons_zero, List.set_cons_succ, List.cons_append, List.nil_append, List.take_succ_cons, List.take_zero, Option.some.injEq, Value.int.injEq, Value.ref.injEq, Value.long.injEq, Sum.inr.injEq, Sum.inl.injEq, Prod.mk.injEq, exists_eq_left, exists_eq_left', and_assoc, exists_and_left, List.forall_mem_cons, List.not_mem_nil, Value.category, true_and, and_true, Nat.zero_le, forall_const, implies_true, Nat.zero_add, Nat.reduceAdd, Nat.reduceLT, Nat.reduceLeDiff, Nat.le_refl, Nat.sub_zero, q_cI, q_cR, q_cV, q_cV2, q_budz, true_implies, false_implies, not_true_eq_false, not_false_eq_true, isref_o, isref_a, q_oi, q_or, q_ov, g_add, g_sub, g_mul, zI_add, r_eq, r_ne, r_lt, r_ge, r_gt, r_le, bz_ne, st_T, st_rc, st_rs, st_M, st_bud, st_set, st_setR, zI_clamp, nn_toNat, zI_inI, cn_of, cn_0, cn_1, Option.getD_none, Option.getD_some, bok_bz, bok_z1, bok_z0, i10, e1f, bk, mulc, gs_ne, t12 hM, r12_1 hM, t12_1 hM, v12_1 hM, w12_1 hM, r12_7 hM, t12_7 hM, v12_7 hM, w12_7 hM, r12_8 hM, t12_8 hM, v12_8 hM, w12_8 hM, r12_11 hM, t12_11 hM, v12_11 hM, w12_11 hM]
                refine done _ ⟨?_, ?_, ?_, ?_, ?_, ?_, ?_, ?_, ?_, ?_⟩
                · intro q hq2
                  simp only [List.mem_cons, List.not_mem_nil, or_false, not_or] at hq2
                  simp (disch := omega) only [gs_ne]
                  rw [p1 q (by simp only [List.mem_cons, List.not_mem_nil, or_false, not_or]; omega)]
                  simp (disch := omega) only [gs_ne, g5_ne]
                · simp (disch := omega) only [gs_ne, gs_eq]
                  rw [e1]
                · simp (disch := omega) only [gs_ne]
                  rw [p1 (B + 544 + 3) (by simp only [List.mem_cons, List.not_mem_nil, or_false, not_or]; omega)]
                  simp (disch := omega) only [gs_ne, gs_eq, g5_ne]
                · simp (disch := omega) only [gs_ne]
                  rw [p1 (B + 544 + 4) (by simp only [List.mem_cons, List.not_mem_nil, or_false, not_or]; omega)]
                  simp (disch := omega) only [gs_ne, gs_eq, g5_ne]
                · simp (disch := omega) only [gs_ne]
                  exact p2
                · simp (disch := omega) only [gs_ne]
                  exact p3
                · simp (disch := omega) only [gs_ne]
                  exact p4
                · simp (disch := omega) only [gs_ne, gs_eq]
                  rw [p1 (B + 544 + 8) (by simp only [List.mem_cons, List.not_mem_nil, or_false, not_or]; omega)]
                  simp (disch := omega) only [gs_ne, g5_ne]
                · simp (disch := omega) only [gs_ne, gs_eq]
                  rw [p1 (B + 544 + 9) (by simp only [List.mem_cons, List.not_mem_nil, or_false, not_or]; omega)]
                  simp (disch := omega) only [gs_ne, g5_ne]
                · simp (disch := omega) only [gs_ne, gs_eq]
                  rw [p1 (B + 544 + 12) (by simp only [List.mem_cons, List.not_mem_nil, or_false, not_or]; omega)]
                  simp (disch := omega) only [gs_ne, g5_ne]
    · have hng : ¬ (0 ≤ s ∧ s ≤ 5 ∧ allI x n ∧ goodF x n s) := fun q => hs ⟨q.1, q.2.1⟩
      simp (config := { contextual := true }) (disch := omega) only [q_mk, q_sq, q_if, q_te, q_cm, e_cz, q_an2, q_or2, q_no, q_ci, q_l, q_r, e_k, e_kn, e_kl, e_il, q_2, q_2d, q_2c, q_1, q_cs, q_cv, q_ac, q_an, q_sri, q_srv, q_srr, q_nop, q_sset, q_sdec, e_inc, q_spf, q_sof, q_sai, q_saz, q_soa, q_sx, q_blk, q_fi, q_fr, q_ai, q_az, q_ar, List.getElem?_cons_zero, List.getElem?_cons_succ, List.length_cons, List.length_nil, List.set_cons_zero, List.set_cons_succ, List.cons_append, List.nil_append, List.take_succ_cons, List.take_zero, Option.some.injEq, Value.int.injEq, Value.ref.injEq, Value.long.injEq, Sum.inr.injEq, Sum.inl.injEq, Prod.mk.injEq, exists_eq_left, exists_eq_left', and_assoc, exists_and_left, List.forall_mem_cons, List.not_mem_nil, Value.category, true_and, and_true, Nat.zero_le, forall_const, implies_true, Nat.zero_add, Nat.reduceAdd, Nat.reduceLT, Nat.reduceLeDiff, Nat.le_refl, Nat.sub_zero, q_cI, q_cR, q_cV, q_cV2, q_budz, true_implies, false_implies, not_true_eq_false, not_false_eq_true, isref_o, isref_a, q_oi, q_or, q_ov, g_add, g_sub, g_mul, zI_add, r_eq, r_ne, r_lt, r_ge, r_gt, r_le, bz_ne, st_T, st_rc, st_rs, st_M, st_bud, st_set, st_setR, zI_clamp, nn_toNat, zI_inI, cn_of, cn_0, cn_1, Option.getD_none, Option.getD_some, bok_bz, bok_z1, bok_z0, i10, c12_in, zI_long, hs, t12 hM, r12_12 hM, t12_12 hM, v12_12 hM, w12_12 hM]
      exact h1 hng
  · have hng : ¬ (0 ≤ s ∧ s ≤ 5 ∧ allI x n ∧ goodF x n s) := fun q => hA (by rw [← hn]; exact q.2.2.1)
    exact h1 hng
end
section
/-! the two after form -/
theorem Fit_pt {n M c C s n' M' c' C' s' : Int → Int} {v f : Int} (h : Fit n M c C s v f) (e1 : n' f = n f) (e2 : M' (14 * v + f) = M (14 * v + f)) (e3 : ∀ k : Int, 0 ≤ k → k < 5 → c' (5 * f + k) = c (5 * f + k)) (e4 : ∀ k : Int, 0 ≤ k → k < 5 → C' (5 * (14 * v + f) + k) = C (5 * (14 * v + f) + k)) (e5 : s' f = s f) : Fit n' M' c' C' s' v f := by
  obtain ⟨h1, h2, h3, h4⟩ := h
  unfold Fit
  rw [e1, e2, e5]
  have e30 := e3 0 (by omega) (by omega)
  rw [Int.add_zero] at e30
  refine ⟨h1, fun k q1 q2 => ?_, fun k q1 q2 => ?_, fun q1 q2 => ?_⟩
  · rw [e3 k q1 (by omega), e4 k q1 (by omega)]
    exact h2 k q1 q2
  · rw [e4 k (by omega) q2]
    exact h3 k q1 q2
  · rw [e30] at q2 ⊢
    exact h4 q1 q2
theorem Fsl_pt {n c N I n' c' N' I' : Int → Int} {f : Int} (h : Fsl n c N I f) (hn : n f ≤ 5) (e1 : n' f = n f) (e2 : N' f = N f) (e3 : ∀ k : Int, 0 ≤ k → k < 5 → c' (5 * f + k) = c (5 * f + k)) (e4 : ∀ k : Int, 0 ≤ k → k < 5 → I' (5 * f + k) = I (5 * f + k)) : Fsl n' c' N' I' f := by
  obtain ⟨h1, h2⟩ := h
  have ns : ∀ k : Nat, k ≤ 5 → nsl (fun k => c' (5 * f + k)) k = nsl (fun k => c (5 * f + k)) k := fun k hk => nsl_congr fun i hi => e3 i (by omega) (by omega)
  unfold Fsl
  rw [e1, e2, ns _ (by omega)]
  refine ⟨h1, fun k q1 q2 q3 => ?_⟩
  have b := nsl_b (fun k => c (5 * f + k)) k.toNat
  rw [e3 k q1 (by omega)] at q3 ⊢
  rw [ns _ (by omega), e4 _ (by omega) (by omega)]
  exact h2 k q1 q2 q3
theorem Fga_pt {n g H n' g' H' : Int → Int} {v f : Int} (h : Fga n g H v f) (hn : 1 ≤ n f ∧ n f ≤ 5) (e1 : n' f = n f) (e3 : ∀ k : Int, 0 ≤ k → k < 5 → g' (5 * f + k) = g (5 * f + k)) (e4 : ∀ k : Int, 0 ≤ k → k < 5 → H' (5 * (14 * v + f) + k) = H (5 * (14 * v + f) + k)) : Fga n' g' H' v f := by
  obtain ⟨h1, h2⟩ := h
  have e5 := e3 (n f - 1) (by omega) (by omega)
  rw [show 5 * f + (n f - 1) = 5 * f + n f - 1 by omega] at e5
  unfold Fga
  rw [e1, e5]
  refine ⟨fun k q1 q2 => ?_, h2⟩
  rw [e3 k q1 (by omega), e4 k q1 (by omega)]
  exact h1 k q1 q2
theorem Fho_pt {n g H n' g' H' : Int → Int} {v f : Int} (h : Fho n g H v f) (hn : 1 ≤ n f ∧ n f ≤ 5) (e1 : n' f = n f) (e3 : ∀ k : Int, 0 ≤ k → k < 5 → g' (5 * f + k) = g (5 * f + k)) (e4 : ∀ k : Int, 0 ≤ k → k < 5 → H' (5 * (14 * v + f) + k) = H (5 * (14 * v + f) + k)) : Fho n' g' H' v f := by
  intro k q1 q2
  rw [e1] at q2
  rw [e3 k q1 (by omega), e4 k q1 (by omega)]
  exact h k q1 q2
theorem Fru_pt {N m M s S w W N' m' M' : Int → Int} {v f : Int} (h : Fru N m M s S w W v f) (e1 : N' f = N f) (e2 : m' f = m f) (e3 : M' (14 * v + f) = M (14 * v + f)) : Fru N' m' M' s S w W v f := by
  unfold Fru
  rw [e1, e2, e3]
  exact h
theorem IFm_new {G G' : Nat → Int → Int} {B : Nat} {v f n s : Int} {x : Int → Int} (h : IFm G B) (hv : 0 ≤ v ∧ v ≤ 1) (hf : G (B + 370 + 14 * v.toNat) 1 = f) (hf1 : f < 14) (hA : FAa G G' (B + 370 + 14 * v.toNat) f n s x) (hB : FBa G G' B v f n s x)
    (hO : ∀ a : Nat, B + 370 ≤ a → a < B + 398 → ¬ (B + 370 + 14 * v.toNat ≤ a ∧ a < B + 370 + 14 * v.toNat + 14) → G' a = G a) (h12 : G' (B + 370 + 14 * v.toNat + 12) = G (B + 370 + 14 * v.toNat + 12)) (h13 : G' (B + 370 + 14 * v.toNat + 13) = G (B + 370 + 14 * v.toNat + 13)) (m10 : G' (B + 544 + 10) = G (B + 544 + 10)) (m11 : G' (B + 544 + 11) = G (B + 544 + 11))
    (hn : 1 ≤ n ∧ n ≤ 5) (hs : 0 ≤ s ∧ s ≤ 5) (hx : ∀ k : Int, 0 ≤ k → k < n → isIt (x k)) (hg : n = 1 → 60 ≤ x 0 → s < x 0 - 60) : IFm G' B := by
  obtain ⟨a1, a2, a3, a4, a5, a7, a8, a6, a6x, a9, a10, a11⟩ := hA
  obtain ⟨b1, b2, b3, b4, b5, b6, b7, b8, b9⟩ := hB
  intro v' h1 h2
  obtain ⟨k1, k2, k3, k4⟩ := h v' h1 h2
  by_cases e : v' = v
  · subst e
    refine ⟨by rw [a1, b1, fu_eq, fu_eq], by rw [a1, fu_eq]; omega, by rw [a1, fu_eq]; omega, fun f' q1 q2 => ?_⟩
    rw [a1, fu_eq] at q2
    unfold FR
    rw [a2, a3, a4, a5, a7, a8, a9, a10, a11, h12, h13, b2, b3, b4, b5, b6, b7, b8, b9, m10, m11]
    by_cases ef : f' = f
    · subst ef
      have cx : ∀ k : Nat, k < n.toNat → (fun k => fw (G (B + 370 + 14 * v'.toNat + 4)) (5 * f') (5 * f' + n) (fun j => x (j - 5 * f')) (5 * f' + k)) k = x k := by
        intro k hk
        show fw _ _ _ _ _ = _
        rw [fw_in (by omega) (by omega), show 5 * f' + (k : Int) - 5 * f' = k by omega]
      have cxz : ∀ k : Int, 0 ≤ k → k < n → fw (G (B + 370 + 14 * v'.toNat + 4)) (5 * f') (5 * f' + n) (fun j => x (j - 5 * f')) (5 * f' + k) = x k := by
        intro k g1 g2
        rw [fw_in (by omega) (by omega), show 5 * f' + k - 5 * f' = k by omega]
      refine ⟨?_, ⟨?_, ?_, ?_, ?_⟩, ⟨?_, ?_⟩, ⟨?_, ?_⟩, ?_, ?_, ?_, ⟨?_, ?_⟩⟩
      · unfold Fso
        rw [fu_eq, fu_eq]
        omega
      · rw [fu_eq, fu_eq]
        omega
      · rw [fu_eq]
        intro k g1 g2
        rw [cxz k g1 g2, fw_in (by omega) (by omega)]
        refine ⟨?_, hx k g1 g2⟩
        show (if 5 * (14 * v' + f') + k - 5 * (14 * v' + f') < n then x (5 * (14 * v' + f') + k - 5 * (14 * v' + f')) else -1) = _
        rw [if_pos (by omega), show 5 * (14 * v' + f') + k - 5 * (14 * v' + f') = k by omega]
      · rw [fu_eq]
        intro k g1 g2
        rw [fw_in (by omega) (by omega)]
        show (if 5 * (14 * v' + f') + k - 5 * (14 * v' + f') < n then x (5 * (14 * v' + f') + k - 5 * (14 * v' + f')) else -1) = _
        rw [if_neg (by omega)]
      · rw [fu_eq, fu_eq]
        intro g1 g2
        have := cxz 0 (by omega) (by omega)
        rw [Int.add_zero] at this
        rw [this] at g2 ⊢
        exact hg g1 g2
      · rw [fu_eq, fu_eq]
        exact (nsl_congr cx).symm
      · rw [fu_eq]
        intro k g1 g2 g3
        rw [cxz k g1 g2] at g3 ⊢
        have e2 := a6x k.toNat (by omega) (by rw [Int.toNat_of_nonneg g1]; exact g3)
        rw [Int.toNat_of_nonneg g1] at e2
        rw [← e2]
        congr 2
        exact nsl_congr fun i hi => cx i (by omega)
      · rw [fu_eq]
        intro k g1 g2
        rw [fw_in (by omega) (by omega), fw_in (by omega) (by omega)]
        omega
      · rw [fu_eq, fw_in (by omega) (by omega)]
      · intro k g1 g2
        rw [fu_eq] at g2
        rw [fw_in (by omega) (by omega), fw_in (by omega) (by omega)]
        omega
      · unfold Fac
        rw [fu_eq, fu_eq]
        omega
      · unfold Fsc
        rw [fu_eq, fu_eq]
        omega
      · rw [fu_eq, fu_eq]
        omega
      · rw [fu_eq]
        intro k g1 g2
        omega
    · obtain ⟨p1, p2, p3, p4, p5, p6, p7, p8⟩ := k4 f' q1 (by omega)
      have pn := p2.1.2
      refine ⟨?_, Fit_pt p2 (fu_ne ef) (fu_ne (by omega)) (fun k g1 g2 => fw_out (by omega)) (fun k g1 g2 => fw_out (by omega)) (fu_ne ef), Fsl_pt p3 pn.2 (fu_ne ef) (fu_ne ef) (fun k g1 g2 => fw_out (by omega)) (fun k g1 g2 => a6 _ (by omega)), Fga_pt p4 pn (fu_ne ef) (fun k g1 g2 => fw_out (by omega)) (fun k g1 g2 => fw_out (by omega)), Fho_pt p5 pn (fu_ne ef) (fun k g1 g2 => fw_out (by omega)) (fun k g1 g2 => fw_out (by omega)), ?_, ?_, Fru_pt p8 (fu_ne ef) (fu_ne ef) (fu_ne (by omega))⟩
      · unfold Fso
        rw [fu_ne ef, fu_ne (by omega)]
        exact p1
      · unfold Fac
        rw [fu_ne ef, fu_ne (by omega)]
        exact p6
      · unfold Fsc
        rw [fu_ne ef, fu_ne (by omega)]
        exact p7
  · have hc : ∀ i : Nat, i < 14 → G' (B + 370 + 14 * v'.toNat + i) = G (B + 370 + 14 * v'.toNat + i) := fun i hi => hO _ (by omega) (by omega) (by omega)
    have hc0 := hc 0 (by omega)
    rw [Nat.add_zero] at hc0
    refine ⟨by rw [hc0, b1, fu_ne e]; exact k1, by rw [hc0]; exact k2, by rw [hc0]; exact k3, fun f' q1 q2 => ?_⟩
    rw [hc0] at q2
    obtain ⟨p1, p2, p3, p4, p5, p6, p7, p8⟩ := k4 f' q1 q2
    have pn := p2.1.2
    unfold FR
    rw [hc 2 (by omega), hc 3 (by omega), hc 4 (by omega), hc 5 (by omega), hc 6 (by omega), hc 7 (by omega), hc 8 (by omega), hc 9 (by omega), hc 10 (by omega), hc 11 (by omega), hc 12 (by omega), hc 13 (by omega), b2, b3, b4, b5, b6, b7, b8, b9, m10, m11]
    refine ⟨?_, Fit_pt p2 rfl (fu_ne (by omega)) (fun _ _ _ => rfl) (fun k g1 g2 => fw_out (by omega)) rfl, p3, Fga_pt p4 pn rfl (fun _ _ _ => rfl) (fun k g1 g2 => fw_out (by omega)), Fho_pt p5 pn rfl (fun _ _ _ => rfl) (fun k g1 g2 => fw_out (by omega)), ?_, ?_, Fru_pt p8 rfl rfl (fu_ne (by omega))⟩
    · unfold Fso
      rw [fu_ne (by omega)]
      exact p1
    · unfold Fac
      rw [fu_ne (by omega)]
      exact p6
    · unfold Fsc
      rw [fu_ne (by omega)]
      exact p7
/-- maps stay when a form is added -/
theorem IMp_new {G G' : Nat → Int → Int} {B : Nat} {v f n s : Int} {x : Int → Int} (h : IMp G B) (hFm : IFm G B) (hv : 0 ≤ v ∧ v ≤ 1) (hf : G (B + 370 + 14 * v.toNat) 1 = f) (hA : FAa G G' (B + 370 + 14 * v.toNat) f n s x) (hn : n ≤ 5)
    (hO : ∀ a : Nat, B + 370 ≤ a → a < B + 398 → ¬ (B + 370 + 14 * v.toNat ≤ a ∧ a < B + 370 + 14 * v.toNat + 14) → G' a = G a) (c1 : G' (B + 17) = G (B + 17)) (c2 : G' (B + 18) = G (B + 18)) (c3 : G' (B + 544 + 93) = G (B + 544 + 93)) (c4 : G' (B + 544 + 94) = G (B + 544 + 94)) : IMp G' B := by
  obtain ⟨a1, a2, a3, a4, a5, a7, a8, a6, a6x, a9, a10, a11⟩ := hA
  intro g q1 q2
  obtain ⟨k1, k2, k3, k4⟩ := h g q1 q2
  rw [c1, c2, c3, c4]
  refine ⟨k1, k2, k3, fun q3 => ?_⟩
  obtain ⟨k5, k6, k7⟩ := k4 q3
  have hvn : v = 0 ∨ v = 1 := by omega
  rcases hvn with rfl | rfl
  · have z : B + 370 + 14 * (0 : Int).toNat = B + 370 := rfl
    rw [z] at hf a1 a5 a6
    have o1 : G' (B + 384) = G (B + 384) := hO _ (by omega) (by omega) (by omega)
    have o5 : G' (B + 384 + 5) = G (B + 384 + 5) := hO _ (by omega) (by omega) (by omega)
    have o6 : G' (B + 384 + 6) = G (B + 384 + 6) := hO _ (by omega) (by omega) (by omega)
    rw [a1, fu_eq, o1, o5, o6, a5]
    refine ⟨by omega, k6, fun i g1 g2 => ?_⟩
    obtain ⟨m1, m2, m3, m4⟩ := k7 i g1 g2
    have hb := (hFm 0 (by omega) (by omega)).2.2.2 g q1 k5
    have hb2 := FR_sl hb
    have z2 : B + 370 + 14 * (0 : Int).toNat + 5 = B + 370 + 5 := rfl
    have z3 : B + 370 + 14 * (0 : Int).toNat + 3 = B + 370 + 3 := rfl
    rw [z2, z3] at hb2
    rw [fu_ne (by omega), a6 _ (by omega)]
    exact ⟨m1, m2, m3, m4⟩
  · have z : B + 370 + 14 * (1 : Int).toNat = B + 384 := rfl
    rw [z] at hf a1 a5 a6
    have o1 : G' (B + 370) = G (B + 370) := hO _ (by omega) (by omega) (by omega)
    have o5 : G' (B + 370 + 5) = G (B + 370 + 5) := hO _ (by omega) (by omega) (by omega)
    have o6 : G' (B + 370 + 6) = G (B + 370 + 6) := hO _ (by omega) (by omega) (by omega)
    rw [a1, fu_eq, o1, o5, o6, a5]
    refine ⟨k5, by omega, fun i g1 g2 => ?_⟩
    rw [fu_ne (by omega)] at g2
    obtain ⟨m1, m2, m3, m4⟩ := k7 i g1 g2
    have hb := (hFm 1 (by omega) (by omega)).2.2.2 _ q3 k6
    have hb2 := FR_sl hb
    have z2 : B + 370 + 14 * (1 : Int).toNat + 5 = B + 384 + 5 := rfl
    have z3 : B + 370 + 14 * (1 : Int).toNat + 3 = B + 384 + 3 := rfl
    rw [z2, z3] at hb2
    rw [a6 _ (by omega)]
    exact ⟨m1, m2, m3, m4⟩
theorem op_1 (x1 : Int32) (x2 : Int32) (x3 : Int32) (x4 : Int32) (x5 : Int32) (x6 : Int32) (x7 : Int32) : OpOK fX11_form fX12_form [.int x1, .int x2, .int x3, .int x4, .int x5, .int x6, .int x7] := by
  obtain ⟨v1, rfl, a1, b1⟩ := zI_ex x1
  obtain ⟨v2, rfl, a2, b2⟩ := zI_ex x2
  obtain ⟨v3, rfl, a3, b3⟩ := zI_ex x3
  obtain ⟨v4, rfl, a4, b4⟩ := zI_ex x4
  obtain ⟨v5, rfl, a5, b5⟩ := zI_ex x5
  obtain ⟨v6, rfl, a6, b6⟩ := zI_ex x6
  obtain ⟨v7, rfl, a7, b7⟩ := zI_ex x7
  intro T nx B R G hI
  have hI0 := hI
  obtain ⟨⟨t1, t2, t3, t4, hL, hM⟩, iLn, iFm, iTx, iWo, iLa, iSh, iMp, iRe⟩ := hI0
  by_cases hv : 0 ≤ v1 ∧ v1 ≤ 1
  · obtain ⟨fe, f0, f14, fr⟩ := iFm v1 hv.1 hv.2
    have o := o11_0 hL (i := v1.toNat) (by omega)
    have hx1 : ∀ k : Int, 0 ≤ k → k < 5 → g5 G (B + 16) v3 v4 v5 v6 v7 (B + 16) k = vv5 v3 v4 v5 v6 v7 k ∧ -2147483648 ≤ vv5 v3 v4 v5 v6 v7 k ∧ vv5 v3 v4 v5 v6 v7 k < 2147483648 := fun k q1 q2 => ⟨g5_at q1 q2, vv5_b ⟨a3, b3⟩ ⟨a4, b4⟩ ⟨a5, b5⟩ ⟨a6, b6⟩ ⟨a7, b7⟩⟩
    have g1t : g5 G (B + 16) v3 v4 v5 v6 v7 (B + 370 + 14 * v1.toNat) = G (B + 370 + 14 * v1.toNat) := g5_ne (by omega)
    have g1m : g5 G (B + 16) v3 v4 v5 v6 v7 (B + 544 + 2) = G (B + 544 + 2) := g5_ne (by omega)
    have hn5 := (cnt5_p (vv5 v3 v4 v5 v6 v7)).1
    by_cases hs : 0 ≤ v2 ∧ v2 ≤ 5
    · by_cases hA : allI (vv5 v3 v4 v5 v6 v7) (cnt5 (vv5 v3 v4 v5 v6 v7)) ∧ goodF (vv5 v3 v4 v5 v6 v7) (cnt5 (vv5 v3 v4 v5 v6 v7)) v2
      · by_cases hfull : G (B + 370 + 14 * v1.toNat) 1 = 14
        · simp (config := { contextual := true }) (disch := omega) only [fX11_form, sX11_form_, q_mk, q_sq, q_if, q_te, q_cm, e_cz, q_an2, q_or2, q_no, q_ci, q_l, q_r, e_k, e_kn, e_kl, e_il, q_2, q_2d, q_2c, q_1, q_cs, q_cv, q_ac, q_an, q_sri, q_srv, q_srr, q_nop, q_sset, q_sdec, e_inc, q_spf, q_sof, q_sai, q_saz, q_soa, q_sx, q_blk, q_fi, q_fr, q_ai, q_az, q_ar, List.getElem?_cons_zero, List.getElem?_cons_succ, List.length_cons, List.length_nil, List.set_cons_zero, List.set_cons_succ, List.cons_append, List.nil_append, List.take_succ_cons, List.take_zero, Option.some.injEq, Value.int.injEq, Value.ref.injEq, Value.long.injEq, Sum.inr.injEq, Sum.inl.injEq, Prod.mk.injEq, exists_eq_left, exists_eq_left', and_assoc, exists_and_left, List.forall_mem_cons, List.not_mem_nil, Value.category, true_and, and_true, Nat.zero_le, forall_const, implies_true, Nat.zero_add, Nat.reduceAdd, Nat.reduceLT, Nat.reduceLeDiff, Nat.le_refl, Nat.sub_zero, q_cI, q_cR, q_cV, q_cV2, q_budz, true_implies, false_implies, not_true_eq_false, not_false_eq_true, isref_o, isref_a, q_oi, q_or, q_ov, g_add, g_sub, g_mul, zI_add, r_eq, r_ne, r_lt, r_ge, r_gt, r_le, bz_ne, st_T, st_rc, st_rs, st_M, st_bud, st_set, st_setR, zI_clamp, nn_toNat, zI_inI, cn_of, cn_0, cn_1, Option.getD_none, Option.getD_some, bok_bz, bok_z1, bok_z0, i10, c11_isTelling, c11_within, hv, hs, c11_listFive hL, c11_countItems hL hx1, c11_areItems (b := 1) hL hx1 hn5 hs (Or.inl ⟨rfl, hA⟩), g1t, hfull, i10, t11 hL, r11_0 hL, t11_0 hL, u11_0 hL, t8 o, r8_1 o, n8_1 o]
          refine ⟨mid_mk (fun a ha => ⟨rfl, g5_ne (by omega)⟩), c12_form (f := 14) hM hv a2 b2 ⟨a3, b3⟩ ⟨a4, b4⟩ ⟨a5, b5⟩ ⟨a6, b6⟩ ⟨a7, b7⟩ rfl rfl (by rw [g1m, fe, hfull]) (by omega) (by omega) (fun q => absurd ⟨hs.1, hs.2, hA⟩ q) (fun _ _ => ?_) (fun _ q => absurd rfl q)⟩
          unfold g5
          refine ⟨mid_mk (off_lo (l := [B + 16, B + 544 + 13]) (by repeat (first | exact off_refl _ _ | refine off_gs ?_ (by simp only [List.mem_cons, List.not_mem_nil, or_false] <;> omega) | refine off_cp ?_ (by simp only [List.mem_cons, List.not_mem_nil, or_false] <;> omega) | refine off_fl ?_ (by simp only [List.mem_cons, List.not_mem_nil, or_false] <;> omega) | refine off_wr ?_ (by simp only [List.mem_cons, List.not_mem_nil, or_false] <;> omega))) (by intro a ha; simp only [List.mem_cons, List.not_mem_nil, or_false] at ha; omega)), fin_mk (rfl) (off_lo (l := [B + 16, B + 544 + 13]) (by repeat (first | exact off_refl _ _ | refine off_gs ?_ (by simp only [List.mem_cons, List.not_mem_nil, or_false] <;> omega) | refine off_cp ?_ (by simp only [List.mem_cons, List.not_mem_nil, or_false] <;> omega) | refine off_fl ?_ (by simp only [List.mem_cons, List.not_mem_nil, or_false] <;> omega) | refine off_wr ?_ (by simp only [List.mem_cons, List.not_mem_nil, or_false] <;> omega))) (by intro a ha; simp only [List.mem_cons, List.not_mem_nil, or_false] at ha; omega)) (inv_by (l := [B + 16, B + 544 + 13]) hI (by repeat (first | exact off_refl _ _ | refine off_gs ?_ (by simp only [List.mem_cons, List.not_mem_nil, or_false] <;> omega) | refine off_cp ?_ (by simp only [List.mem_cons, List.not_mem_nil, or_false] <;> omega) | refine off_fl ?_ (by simp only [List.mem_cons, List.not_mem_nil, or_false] <;> omega) | refine off_wr ?_ (by simp only [List.mem_cons, List.not_mem_nil, or_false] <;> omega))) (Or.inl fun a ha => by simp only [List.mem_cons, List.not_mem_nil, or_false, not_or]; omega) (Or.inl fun a ha => by simp only [List.mem_cons, List.not_mem_nil, or_false, not_or]; omega) (Or.inl fun a ha => by simp only [List.mem_cons, List.not_mem_nil, or_false, not_or]; omega) (Or.inl fun a ha => by simp only [List.mem_cons, List.not_mem_nil, or_false, not_or]; omega) (Or.inl ⟨(by simp only [List.mem_cons, List.not_mem_nil, or_false, not_or]; omega), (by simp only [List.mem_cons, List.not_mem_nil, or_false, not_or]; omega)⟩) (Or.inl fun a ha => by simp only [List.mem_cons, List.not_mem_nil, or_false, not_or]; omega) (Or.inl fun a ha => by simp only [List.mem_cons, List.not_mem_nil, or_false, not_or]; omega) (Or.inl ⟨fun a ha => by unfold FRe at ha; simp only [List.mem_cons, List.not_mem_nil, or_false, not_or]; omega, (by simp only [List.mem_cons, List.not_mem_nil, or_false, not_or]; omega)⟩))⟩
        · have hfull2 : ¬ 14 ≤ G (B + 370 + 14 * v1.toNat) 1 := by omega
          simp (config := { contextual := true }) (disch := omega) only [fX11_form, sX11_form_, q_mk, q_sq, q_if, q_te, q_cm, e_cz, q_an2, q_or2, q_no, q_ci, q_l, q_r, e_k, e_kn, e_kl, e_il, q_2, q_2d, q_2c, q_1, q_cs, q_cv, q_ac, q_an, q_sri, q_srv, q_srr, q_nop, q_sset, q_sdec, e_inc, q_spf, q_sof, q_sai, q_saz, q_soa, q_sx, q_blk, q_fi, q_fr, q_ai, q_az, q_ar, List.getElem?_cons_zero, List.getElem?_cons_succ, List.length_cons, List.length_nil, List.set_cons_zero, List.set_cons_succ, List.cons_append, List.nil_append, List.take_succ_cons, List.take_zero, Option.some.injEq, Value.int.injEq, Value.ref.injEq, Value.long.injEq, Sum.inr.injEq, Sum.inl.injEq, Prod.mk.injEq, exists_eq_left, exists_eq_left', and_assoc, exists_and_left, List.forall_mem_cons, List.not_mem_nil, Value.category, true_and, and_true, Nat.zero_le, forall_const, implies_true, Nat.zero_add, Nat.reduceAdd, Nat.reduceLT, Nat.reduceLeDiff, Nat.le_refl, Nat.sub_zero, q_cI, q_cR, q_cV, q_cV2, q_budz, true_implies, false_implies, not_true_eq_false, not_false_eq_true, isref_o, isref_a, q_oi, q_or, q_ov, g_add, g_sub, g_mul, zI_add, r_eq, r_ne, r_lt, r_ge, r_gt, r_le, bz_ne, st_T, st_rc, st_rs, st_M, st_bud, st_set, st_setR, zI_clamp, nn_toNat, zI_inI, cn_of, cn_0, cn_1, Option.getD_none, Option.getD_some, bok_bz, bok_z1, bok_z0, i10, c11_isTelling, c11_within, hv, hs, c11_listFive hL, c11_countItems hL hx1, c11_areItems (b := 1) hL hx1 hn5 hs (Or.inl ⟨rfl, hA⟩), g1t, hfull2, i10, t11 hL, r11_0 hL, r11_6 hL, t11_6 hL, v11_6 hL, w11_6 hL, t11_0 hL, u11_0 hL, t8 o, r8_1 o, n8_1 o]
          refine c8_addForm (x := vv5 v3 v4 v5 v6 v7) (f := G (B + 370 + 14 * v1.toNat) 1) o (t11_6 hL) (v11_6 hL) (by omega) hx1 f0 (by omega) hn5 (by rw [g1t]) (fun G2 hA2 => ?_)
          obtain ⟨ho, aa1, aa2, aa3, aa4, aa5, aa7, aa8, aa6, aa6x, aa9, aa10, aa11⟩ := hA2
          have tv := hv
          refine ⟨mid_mk (fun a ha => ⟨rfl, by rw [ho a (by simp only [List.mem_cons, List.not_mem_nil, or_false, not_or]; omega), g5_ne (by omega)]⟩), ?_⟩
          have g2m : G2 (B + 544 + 2) = G (B + 544 + 2) := by rw [ho _ (by simp only [List.mem_cons, List.not_mem_nil, or_false, not_or]; omega), g1m]
          refine c12_form (f := G (B + 370 + 14 * v1.toNat) 1) hM hv a2 b2 ⟨a3, b3⟩ ⟨a4, b4⟩ ⟨a5, b5⟩ ⟨a6, b6⟩ ⟨a7, b7⟩ rfl rfl (by rw [g2m, fe]) f0 f14 (fun q => absurd ⟨hs.1, hs.2, hA⟩ q) (fun _ q => absurd q hfull) (fun _ _ G3 hB3 => ?_)
          obtain ⟨po, pb1, pb2, pb3, pb4, pb5, pb6, pb7, pb8, pb9⟩ := hB3
          have cls : ∀ a : Nat, B + 370 ≤ a → a < B + 398 → G3 a = G2 a := fun a q1 q2 => po a (by simp only [List.mem_cons, List.not_mem_nil, or_false, not_or]; omega)
          have rfe : ∀ a : Nat, B + 544 ≤ a → ¬ a = B + 544 + 13 → G2 a = G a := fun a q1 q2 => by rw [ho a (by simp only [List.mem_cons, List.not_mem_nil, or_false, not_or]; omega), g5_ne (by omega)]
          have HA : FAa G G3 (B + 370 + 14 * v1.toNat) (G (B + 370 + 14 * v1.toNat) 1) (cnt5 (vv5 v3 v4 v5 v6 v7)) v2 (vv5 v3 v4 v5 v6 v7) :=
            ⟨by rw [cls _ (by omega) (by omega), aa1, g5_ne (by omega)], by rw [cls _ (by omega) (by omega), aa2, g5_ne (by omega)], by rw [cls _ (by omega) (by omega), aa3, g5_ne (by omega)], by rw [cls _ (by omega) (by omega), aa4, g5_ne (by omega)], by rw [cls _ (by omega) (by omega), aa5, g5_ne (by omega)],
              by rw [cls _ (by omega) (by omega), aa7, g5_ne (by omega)], by rw [cls _ (by omega) (by omega), aa8, g5_ne (by omega)], fun j q => by rw [cls _ (by omega) (by omega), aa6 j q, g5_ne (by omega)], fun i q1 q2 => by rw [cls _ (by omega) (by omega), aa6x i q1 q2],
              by rw [cls _ (by omega) (by omega), aa9, g5_ne (by omega)], by rw [cls _ (by omega) (by omega), aa10, g5_ne (by omega)], by rw [cls _ (by omega) (by omega), aa11, g5_ne (by omega)]⟩
          have HB : FBa G G3 B v1 (G (B + 370 + 14 * v1.toNat) 1) (cnt5 (vv5 v3 v4 v5 v6 v7)) v2 (vv5 v3 v4 v5 v6 v7) :=
            ⟨by rw [pb1, rfe _ (by omega) (by omega)], by rw [pb2, rfe _ (by omega) (by omega)], by rw [pb3, rfe _ (by omega) (by omega)], by rw [pb4, rfe _ (by omega) (by omega)], by rw [pb5, rfe _ (by omega) (by omega)], by rw [pb6, rfe _ (by omega) (by omega)], by rw [pb7, rfe _ (by omega) (by omega)], by rw [pb8, rfe _ (by omega) (by omega)], by rw [pb9, rfe _ (by omega) (by omega)]⟩
          have hoff : Off [B + 16, B + 370 + 14 * v1.toNat, B + 370 + 14 * v1.toNat + 2, B + 370 + 14 * v1.toNat + 3, B + 370 + 14 * v1.toNat + 4, B + 370 + 14 * v1.toNat + 5, B + 370 + 14 * v1.toNat + 6, B + 370 + 14 * v1.toNat + 7, B + 370 + 14 * v1.toNat + 8, B + 370 + 14 * v1.toNat + 9, B + 370 + 14 * v1.toNat + 10, B + 370 + 14 * v1.toNat + 11, B + 544 + 2, B + 544 + 3, B + 544 + 4, B + 544 + 5, B + 544 + 6, B + 544 + 7, B + 544 + 8, B + 544 + 9, B + 544 + 12, B + 544 + 13] G G3 := by
            intro a ha
            simp only [List.mem_cons, List.not_mem_nil, or_false, not_or] at ha
            rw [po a (by simp only [List.mem_cons, List.not_mem_nil, or_false, not_or]; omega), ho a (by simp only [List.mem_cons, List.not_mem_nil, or_false, not_or]; omega), g5_ne (by omega)]
          have hgood := hA.2
          unfold goodF at hgood
          have hOO : ∀ a : Nat, B + 370 ≤ a → a < B + 398 → ¬ (B + 370 + 14 * v1.toNat ≤ a ∧ a < B + 370 + 14 * v1.toNat + 14) → G3 a = G a := fun a q1 q2 q3 => hoff a (by simp only [List.mem_cons, List.not_mem_nil, or_false, not_or]; omega)
          have nF : IFm G3 B := IFm_new iFm hv rfl (by omega) HA HB hOO (hoff _ (by simp only [List.mem_cons, List.not_mem_nil, or_false, not_or]; omega)) (hoff _ (by simp only [List.mem_cons, List.not_mem_nil, or_false, not_or]; omega)) (hoff _ (by simp only [List.mem_cons, List.not_mem_nil, or_false, not_or]; omega)) (hoff _ (by simp only [List.mem_cons, List.not_mem_nil, or_false, not_or]; omega)) (by omega) hs hA.1 (fun q1 q2 => by
            have := hA.1 0 (by omega) (by omega)
            unfold isIt at this
            omega)
          have nM : IMp G3 B := IMp_new iMp iFm hv rfl HA (by omega) hOO (hoff _ (by simp only [List.mem_cons, List.not_mem_nil, or_false, not_or]; omega)) (hoff _ (by simp only [List.mem_cons, List.not_mem_nil, or_false, not_or]; omega)) (hoff _ (by simp only [List.mem_cons, List.not_mem_nil, or_false, not_or]; omega)) (hoff _ (by simp only [List.mem_cons, List.not_mem_nil, or_false, not_or]; omega))
          exact fin_mk rfl (off_lo hoff (by intro a ha; simp only [List.mem_cons, List.not_mem_nil, or_false] at ha; omega)) (inv_by (l := [B + 16, B + 370 + 14 * v1.toNat, B + 370 + 14 * v1.toNat + 2, B + 370 + 14 * v1.toNat + 3, B + 370 + 14 * v1.toNat + 4, B + 370 + 14 * v1.toNat + 5, B + 370 + 14 * v1.toNat + 6, B + 370 + 14 * v1.toNat + 7, B + 370 + 14 * v1.toNat + 8, B + 370 + 14 * v1.toNat + 9, B + 370 + 14 * v1.toNat + 10, B + 370 + 14 * v1.toNat + 11, B + 544 + 2, B + 544 + 3, B + 544 + 4, B + 544 + 5, B + 544 + 6, B + 544 + 7, B + 544 + 8, B + 544 + 9, B + 544 + 12, B + 544 + 13]) hI (hoff) (Or.inl fun a ha => by simp only [List.mem_cons, List.not_mem_nil, or_false, not_or]; omega) (Or.inr (nF)) (Or.inl fun a ha => by simp only [List.mem_cons, List.not_mem_nil, or_false, not_or]; omega) (Or.inl fun a ha => by simp only [List.mem_cons, List.not_mem_nil, or_false, not_or]; omega) (Or.inl ⟨(by simp only [List.mem_cons, List.not_mem_nil, or_false, not_or]; omega), (by simp only [List.mem_cons, List.not_mem_nil, or_false, not_or]; omega)⟩) (Or.inl fun a ha => by simp only [List.mem_cons, List.not_mem_nil, or_false, not_or]; omega) (Or.inr (nM)) (Or.inr (trivial)))
      · simp (config := { contextual := true }) (disch := omega) only [fX11_form, sX11_form_, q_mk, q_sq, q_if, q_te, q_cm, e_cz, q_an2, q_or2, q_no, q_ci, q_l, q_r, e_k, e_kn, e_kl, e_il, q_2, q_2d, q_2c, q_1, q_cs, q_cv, q_ac, q_an, q_sri, q_srv, q_srr, q_nop, q_sset, q_sdec, e_inc, q_spf, q_sof, q_sai, q_saz, q_soa, q_sx, q_blk, q_fi, q_fr, q_ai, q_az, q_ar, List.getElem?_cons_zero, List.getElem?_cons_succ, List.length_cons, List.length_nil, List.set_cons_zero, List.set_cons_succ, List.cons_append, List.nil_append, List.take_succ_cons, List.take_zero, Option.some.injEq, Value.int.injEq, Value.ref.injEq, Value.long.injEq, Sum.inr.injEq, Sum.inl.injEq, Prod.mk.injEq, exists_eq_left, exists_eq_left', and_assoc, exists_and_left, List.forall_mem_cons, List.not_mem_nil, Value.category, true_and, and_true, Nat.zero_le, forall_const, implies_true, Nat.zero_add, Nat.reduceAdd, Nat.reduceLT, Nat.reduceLeDiff, Nat.le_refl, Nat.sub_zero, q_cI, q_cR, q_cV, q_cV2, q_budz, true_implies, false_implies, not_true_eq_false, not_false_eq_true, isref_o, isref_a, q_oi, q_or, q_ov, g_add, g_sub, g_mul, zI_add, r_eq, r_ne, r_lt, r_ge, r_gt, r_le, bz_ne, st_T, st_rc, st_rs, st_M, st_bud, st_set, st_setR, zI_clamp, nn_toNat, zI_inI, cn_of, cn_0, cn_1, Option.getD_none, Option.getD_some, bok_bz, bok_z1, bok_z0, i10, c11_isTelling, c11_within, hv, hs, c11_listFive hL, c11_countItems hL hx1, c11_areItems (b := 0) hL hx1 hn5 hs (Or.inr ⟨rfl, hA⟩), i10, t11 hL, r11_0 hL, t11_0 hL, u11_0 hL, t8 o, r8_1 o, n8_1 o]
        refine ⟨mid_mk (fun a ha => ⟨rfl, g5_ne (by omega)⟩), c12_form (f := G (B + 370 + 14 * v1.toNat) 1) hM hv a2 b2 ⟨a3, b3⟩ ⟨a4, b4⟩ ⟨a5, b5⟩ ⟨a6, b6⟩ ⟨a7, b7⟩ rfl rfl (by rw [g1m, fe]) f0 f14 (fun _ => ?_) (fun q _ => absurd q.2.2 hA) (fun q _ => absurd q.2.2 hA)⟩
        unfold g5
        refine ⟨mid_mk (off_lo (l := [B + 16, B + 544 + 13]) (by repeat (first | exact off_refl _ _ | refine off_gs ?_ (by simp only [List.mem_cons, List.not_mem_nil, or_false] <;> omega) | refine off_cp ?_ (by simp only [List.mem_cons, List.not_mem_nil, or_false] <;> omega) | refine off_fl ?_ (by simp only [List.mem_cons, List.not_mem_nil, or_false] <;> omega) | refine off_wr ?_ (by simp only [List.mem_cons, List.not_mem_nil, or_false] <;> omega))) (by intro a ha; simp only [List.mem_cons, List.not_mem_nil, or_false] at ha; omega)), fin_mk (rfl) (off_lo (l := [B + 16, B + 544 + 13]) (by repeat (first | exact off_refl _ _ | refine off_gs ?_ (by simp only [List.mem_cons, List.not_mem_nil, or_false] <;> omega) | refine off_cp ?_ (by simp only [List.mem_cons, List.not_mem_nil, or_false] <;> omega) | refine off_fl ?_ (by simp only [List.mem_cons, List.not_mem_nil, or_false] <;> omega) | refine off_wr ?_ (by simp only [List.mem_cons, List.not_mem_nil, or_false] <;> omega))) (by intro a ha; simp only [List.mem_cons, List.not_mem_nil, or_false] at ha; omega)) (inv_by (l := [B + 16, B + 544 + 13]) hI (by repeat (first | exact off_refl _ _ | refine off_gs ?_ (by simp only [List.mem_cons, List.not_mem_nil, or_false] <;> omega) | refine off_cp ?_ (by simp only [List.mem_cons, List.not_mem_nil, or_false] <;> omega) | refine off_fl ?_ (by simp only [List.mem_cons, List.not_mem_nil, or_false] <;> omega) | refine off_wr ?_ (by simp only [List.mem_cons, List.not_mem_nil, or_false] <;> omega))) (Or.inl fun a ha => by simp only [List.mem_cons, List.not_mem_nil, or_false, not_or]; omega) (Or.inl fun a ha => by simp only [List.mem_cons, List.not_mem_nil, or_false, not_or]; omega) (Or.inl fun a ha => by simp only [List.mem_cons, List.not_mem_nil, or_false, not_or]; omega) (Or.inl fun a ha => by simp only [List.mem_cons, List.not_mem_nil, or_false, not_or]; omega) (Or.inl ⟨(by simp only [List.mem_cons, List.not_mem_nil, or_false, not_or]; omega), (by simp only [List.mem_cons, List.not_mem_nil, or_false, not_or]; omega)⟩) (Or.inl fun a ha => by simp only [List.mem_cons, List.not_mem_nil, or_false, not_or]; omega) (Or.inl fun a ha => by simp only [List.mem_cons, List.not_mem_nil, or_false, not_or]; omega) (Or.inl ⟨fun a ha => by unfold FRe at ha; simp only [List.mem_cons, List.not_mem_nil, or_false, not_or]; omega, (by simp only [List.mem_cons, List.not_mem_nil, or_false, not_or]; omega)⟩))⟩
    · simp (config := { contextual := true }) (disch := omega) only [fX11_form, sX11_form_, q_mk, q_sq, q_if, q_te, q_cm, e_cz, q_an2, q_or2, q_no, q_ci, q_l, q_r, e_k, e_kn, e_kl, e_il, q_2, q_2d, q_2c, q_1, q_cs, q_cv, q_ac, q_an, q_sri, q_srv, q_srr, q_nop, q_sset, q_sdec, e_inc, q_spf, q_sof, q_sai, q_saz, q_soa, q_sx, q_blk, q_fi, q_fr, q_ai, q_az, q_ar, List.getElem?_cons_zero, List.getElem?_cons_succ, List.length_cons, List.length_nil, List.set_cons_zero, List.set_cons_succ, List.cons_append, List.nil_append, List.take_succ_cons, List.take_zero, Option.some.injEq, Value.int.injEq, Value.ref.injEq, Value.long.injEq, Sum.inr.injEq, Sum.inl.injEq, Prod.mk.injEq, exists_eq_left, exists_eq_left', and_assoc, exists_and_left, List.forall_mem_cons, List.not_mem_nil, Value.category, true_and, and_true, Nat.zero_le, forall_const, implies_true, Nat.zero_add, Nat.reduceAdd, Nat.reduceLT, Nat.reduceLeDiff, Nat.le_refl, Nat.sub_zero, q_cI, q_cR, q_cV, q_cV2, q_budz, true_implies, false_implies, not_true_eq_false, not_false_eq_true, isref_o, isref_a, q_oi, q_or, q_ov, g_add, g_sub, g_mul, zI_add, r_eq, r_ne, r_lt, r_ge, r_gt, r_le, bz_ne, st_T, st_rc, st_rs, st_M, st_bud, st_set, st_setR, zI_clamp, nn_toNat, zI_inI, cn_of, cn_0, cn_1, Option.getD_none, Option.getD_some, bok_bz, bok_z1, bok_z0, i10, c11_isTelling, c11_within, hv, hs, c11_listFive hL, c11_countItems hL hx1, i10, t11 hL, r11_0 hL, t11_0 hL, u11_0 hL, t8 o, r8_1 o, n8_1 o]
      refine ⟨mid_mk (fun a ha => ⟨rfl, g5_ne (by omega)⟩), c12_form (f := G (B + 370 + 14 * v1.toNat) 1) hM hv a2 b2 ⟨a3, b3⟩ ⟨a4, b4⟩ ⟨a5, b5⟩ ⟨a6, b6⟩ ⟨a7, b7⟩ rfl rfl (by rw [g1m, fe]) f0 f14 (fun _ => ?_) (fun q _ => absurd ⟨q.1, q.2.1⟩ hs) (fun q _ => absurd ⟨q.1, q.2.1⟩ hs)⟩
      unfold g5
      refine ⟨mid_mk (off_lo (l := [B + 16, B + 544 + 13]) (by repeat (first | exact off_refl _ _ | refine off_gs ?_ (by simp only [List.mem_cons, List.not_mem_nil, or_false] <;> omega) | refine off_cp ?_ (by simp only [List.mem_cons, List.not_mem_nil, or_false] <;> omega) | refine off_fl ?_ (by simp only [List.mem_cons, List.not_mem_nil, or_false] <;> omega) | refine off_wr ?_ (by simp only [List.mem_cons, List.not_mem_nil, or_false] <;> omega))) (by intro a ha; simp only [List.mem_cons, List.not_mem_nil, or_false] at ha; omega)), fin_mk (rfl) (off_lo (l := [B + 16, B + 544 + 13]) (by repeat (first | exact off_refl _ _ | refine off_gs ?_ (by simp only [List.mem_cons, List.not_mem_nil, or_false] <;> omega) | refine off_cp ?_ (by simp only [List.mem_cons, List.not_mem_nil, or_false] <;> omega) | refine off_fl ?_ (by simp only [List.mem_cons, List.not_mem_nil, or_false] <;> omega) | refine off_wr ?_ (by simp only [List.mem_cons, List.not_mem_nil, or_false] <;> omega))) (by intro a ha; simp only [List.mem_cons, List.not_mem_nil, or_false] at ha; omega)) (inv_by (l := [B + 16, B + 544 + 13]) hI (by repeat (first | exact off_refl _ _ | refine off_gs ?_ (by simp only [List.mem_cons, List.not_mem_nil, or_false] <;> omega) | refine off_cp ?_ (by simp only [List.mem_cons, List.not_mem_nil, or_false] <;> omega) | refine off_fl ?_ (by simp only [List.mem_cons, List.not_mem_nil, or_false] <;> omega) | refine off_wr ?_ (by simp only [List.mem_cons, List.not_mem_nil, or_false] <;> omega))) (Or.inl fun a ha => by simp only [List.mem_cons, List.not_mem_nil, or_false, not_or]; omega) (Or.inl fun a ha => by simp only [List.mem_cons, List.not_mem_nil, or_false, not_or]; omega) (Or.inl fun a ha => by simp only [List.mem_cons, List.not_mem_nil, or_false, not_or]; omega) (Or.inl fun a ha => by simp only [List.mem_cons, List.not_mem_nil, or_false, not_or]; omega) (Or.inl ⟨(by simp only [List.mem_cons, List.not_mem_nil, or_false, not_or]; omega), (by simp only [List.mem_cons, List.not_mem_nil, or_false, not_or]; omega)⟩) (Or.inl fun a ha => by simp only [List.mem_cons, List.not_mem_nil, or_false, not_or]; omega) (Or.inl fun a ha => by simp only [List.mem_cons, List.not_mem_nil, or_false, not_or]; omega) (Or.inl ⟨fun a ha => by unfold FRe at ha; simp only [List.mem_cons, List.not_mem_nil, or_false, not_or]; omega, (by simp only [List.mem_cons, List.not_mem_nil, or_false, not_or]; omega)⟩))⟩
  · simp (config := { contextual := true }) (disch := omega) only [fX11_form, sX11_form_, fX12_form, uX12_form, q_mk, q_sq, q_if, q_te, q_cm, e_cz, q_an2, q_or2, q_no, q_ci, q_l, q_r, e_k, e_kn, e_kl, e_il, q_2, q_2d, q_2c, q_1, q_cs, q_cv, q_ac, q_an, q_sri, q_srv, q_srr, q_nop, q_sset, q_sdec, e_inc, q_spf, q_sof, q_sai, q_saz, q_soa, q_sx, q_blk, q_fi, q_fr, q_ai, q_az, q_ar, List.getElem?_cons_zero, List.getElem?_cons_succ, List.length_cons, List.length_nil, List.set_cons_zero, List.set_cons_succ, List.cons_append, List.nil_append, List.take_succ_cons, List.take_zero, Option.some.injEq, Value.int.injEq, Value.ref.injEq, Value.long.injEq, Sum.inr.injEq, Sum.inl.injEq, Prod.mk.injEq, exists_eq_left, exists_eq_left', and_assoc, exists_and_left, List.forall_mem_cons, List.not_mem_nil, Value.category, true_and, and_true, Nat.zero_le, forall_const, implies_true, Nat.zero_add, Nat.reduceAdd, Nat.reduceLT, Nat.reduceLeDiff, Nat.le_refl, Nat.sub_zero, q_cI, q_cR, q_cV, q_cV2, q_budz, true_implies, false_implies, not_true_eq_false, not_false_eq_true, isref_o, isref_a, q_oi, q_or, q_ov, g_add, g_sub, g_mul, zI_add, r_eq, r_ne, r_lt, r_ge, r_gt, r_le, bz_ne, st_T, st_rc, st_rs, st_M, st_bud, st_set, st_setR, zI_clamp, nn_toNat, zI_inI, cn_of, cn_0, cn_1, Option.getD_none, Option.getD_some, bok_bz, bok_z1, bok_z0, i10, c11_isTelling, c12_isTelling, hv, mid_0, fin_0 hI]
end
