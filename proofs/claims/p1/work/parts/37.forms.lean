section
theorem nsl_congr {c c' : Int → Int} : ∀ {n : Nat}, (∀ k : Nat, k < n → c' k = c k) → nsl c' n = nsl c n := by
  intro n
  induction n with
  | zero => intro _; rfl
  | succ n ih =>
    intro h
    rw [nsl, nsl, ih (fun k hk => h k (by omega)), h n (by omega)]
theorem nsl_b (c : Int → Int) : ∀ n : Nat, 0 ≤ nsl c n ∧ nsl c n ≤ n := by
  intro n
  induction n with
  | zero => exact ⟨Int.le_refl _, Int.le_refl _⟩
  | succ n ih =>
    rw [nsl]
    split <;> omega
theorem nsl_s (c : Int → Int) (n : Nat) : nsl c (n + 1) = nsl c n + if 0 ≤ c n ∧ c n ≤ 11 then 0 else 1 := rfl
theorem nsl_mono (c : Int → Int) {m : Nat} : ∀ {n : Nat}, m ≤ n → nsl c m ≤ nsl c n := by
  intro n
  induction n with
  | zero => intro h; rw [show m = 0 by omega]; exact Int.le_refl _
  | succ n ih =>
    intro h
    by_cases e : m = n + 1
    · rw [e]; exact Int.le_refl _
    · have := ih (by omega)
      rw [nsl_s]
      split <;> omega
/-- a slot's item -/
theorem nsl_ex (c : Int → Int) : ∀ {n : Nat} {s : Int}, 0 ≤ s → s < nsl c n → ∃ k : Nat, k < n ∧ nsl c k = s ∧ ¬ (0 ≤ c k ∧ c k ≤ 11) := by
  intro n
  induction n with
  | zero => intro s h0 h1; rw [nsl] at h1; omega
  | succ n ih =>
    intro s h0 h1
    rw [nsl_s] at h1
    by_cases e : s < nsl c n
    · obtain ⟨k, h2, h3, h4⟩ := ih h0 e
      exact ⟨k, by omega, h3, h4⟩
    · by_cases w : 0 ≤ c n ∧ c n ≤ 11
      · rw [if_pos w] at h1
        omega
      · rw [if_neg w] at h1
        exact ⟨n, by omega, by omega, w⟩
theorem c11_isForm {T : Nat → Option q_T} {nx rc rs B t1 t2 t3 t4 : Nat} {R : Nat → Nat → Option Value} {G : Nat → Int → Int} {v f : Int} {K : Option Value → q_M → Prop} (hL : Ly T R B (L11x B t1 t2 t3 t4)) (hF : IFm G B) (hv1 : -2147483648 ≤ v) (hv2 : v < 2147483648) (hf1 : -2147483648 ≤ f) (hf2 : f < 2147483648) :
    fX11_isForm [.ref B, .int (zI v), .int (zI f)] (st T nx rc rs R G) K = K (some (.int (zI (bz (0 ≤ v ∧ v ≤ 1 ∧ 0 ≤ f ∧ f ≤ G (B + 370 + 14 * v.toNat) 1 - 1))))) (st T nx rc rs R G) := by
  by_cases hv : 0 ≤ v ∧ v ≤ 1
  · have o := o11_0 hL (i := v.toNat) (by omega)
    obtain ⟨g1, g2, g3, _⟩ := hF v hv.1 hv.2
    by_cases hf : 0 ≤ f ∧ f ≤ G (B + 370 + 14 * v.toNat) 1 - 1
    · rw [bz_t ⟨hv.1, hv.2, hf⟩]
      simp (config := { contextual := true }) (disch := omega) only [fX11_isForm, sX11_isForm_, q_mk, q_sq, q_if, q_te, q_cm, e_cz, q_an2, q_or2, q_no, q_ci, q_l, q_r, e_k, e_kn, e_kl, e_il, q_2, q_2d, q_2c, q_1, q_cs, q_cv, q_ac, q_an, q_sri, q_srv, q_srr, q_nop, q_sset, q_sdec, e_inc, q_spf, q_sof, q_sai, q_saz, q_soa, q_sx, q_blk, q_fi, q_fr, q_ai, q_az, q_ar, List.getElem?_cons_zero, List.getElem?_cons_succ, List.length_cons, List.length_nil, List.set_cons_zero, List.set_cons_succ, List.cons_append, List.nil_append, List.take_succ_cons, List.take_zero, Option.some.injEq, Value.int.injEq, Value.ref.injEq, Value.long.injEq, Sum.inr.injEq, Sum.inl.injEq, Prod.mk.injEq, exists_eq_left, exists_eq_left', and_assoc, exists_and_left, List.forall_mem_cons, List.not_mem_nil, Value.category, true_and, and_true, Nat.zero_le, forall_const, implies_true, Nat.zero_add, Nat.reduceAdd, Nat.reduceLT, Nat.reduceLeDiff, Nat.le_refl, Nat.sub_zero, q_cI, q_cR, q_cV, q_cV2, q_budz, true_implies, false_implies, not_true_eq_false, not_false_eq_true, isref_o, isref_a, q_oi, q_or, q_ov, g_add, g_sub, g_mul, zI_add, r_eq, r_ne, r_lt, r_ge, r_gt, r_le, bz_ne, st_T, st_rc, st_rs, st_M, st_bud, st_set, st_setR, zI_clamp, nn_toNat, zI_inI, cn_of, cn_0, cn_1, Option.getD_none, Option.getD_some, bok_bz, bok_z1, bok_z0, i10, Int.reduceLE, Int.reduceLT, Int.reduceEq, c11_isTelling, c11_within, hv, hf, t11 hL, r11_0 hL, t11_0 hL, u11_0 hL, t8 o, r8_1 o, n8_1 o]
    · rw [bz_f (fun q => hf q.2.2)]
      simp (config := { contextual := true }) (disch := omega) only [fX11_isForm, sX11_isForm_, q_mk, q_sq, q_if, q_te, q_cm, e_cz, q_an2, q_or2, q_no, q_ci, q_l, q_r, e_k, e_kn, e_kl, e_il, q_2, q_2d, q_2c, q_1, q_cs, q_cv, q_ac, q_an, q_sri, q_srv, q_srr, q_nop, q_sset, q_sdec, e_inc, q_spf, q_sof, q_sai, q_saz, q_soa, q_sx, q_blk, q_fi, q_fr, q_ai, q_az, q_ar, List.getElem?_cons_zero, List.getElem?_cons_succ, List.length_cons, List.length_nil, List.set_cons_zero, List.set_cons_succ, List.cons_append, List.nil_append, List.take_succ_cons, List.take_zero, Option.some.injEq, Value.int.injEq, Value.ref.injEq, Value.long.injEq, Sum.inr.injEq, Sum.inl.injEq, Prod.mk.injEq, exists_eq_left, exists_eq_left', and_assoc, exists_and_left, List.forall_mem_cons, List.not_mem_nil, Value.category, true_and, and_true, Nat.zero_le, forall_const, implies_true, Nat.zero_add, Nat.reduceAdd, Nat.reduceLT, Nat.reduceLeDiff, Nat.le_refl, Nat.sub_zero, q_cI, q_cR, q_cV, q_cV2, q_budz, true_implies, false_implies, not_true_eq_false, not_false_eq_true, isref_o, isref_a, q_oi, q_or, q_ov, g_add, g_sub, g_mul, zI_add, r_eq, r_ne, r_lt, r_ge, r_gt, r_le, bz_ne, st_T, st_rc, st_rs, st_M, st_bud, st_set, st_setR, zI_clamp, nn_toNat, zI_inI, cn_of, cn_0, cn_1, Option.getD_none, Option.getD_some, bok_bz, bok_z1, bok_z0, i10, Int.reduceLE, Int.reduceLT, Int.reduceEq, c11_isTelling, c11_within, hv, hf, t11 hL, r11_0 hL, t11_0 hL, u11_0 hL, t8 o, r8_1 o, n8_1 o]
  · rw [bz_f (fun q => hv ⟨q.1, q.2.1⟩)]
    simp (config := { contextual := true }) (disch := omega) only [fX11_isForm, sX11_isForm_, q_mk, q_sq, q_if, q_te, q_cm, e_cz, q_an2, q_or2, q_no, q_ci, q_l, q_r, e_k, e_kn, e_kl, e_il, q_2, q_2d, q_2c, q_1, q_cs, q_cv, q_ac, q_an, q_sri, q_srv, q_srr, q_nop, q_sset, q_sdec, e_inc, q_spf, q_sof, q_sai, q_saz, q_soa, q_sx, q_blk, q_fi, q_fr, q_ai, q_az, q_ar, List.getElem?_cons_zero, List.getElem?_cons_succ, List.length_cons, List.length_nil, List.set_cons_zero, List.set_cons_succ, List.cons_append, List.nil_append, List.take_succ_cons, List.take_zero, Option.some.injEq, Value.int.injEq, Value.ref.injEq, Value.long.injEq, Sum.inr.injEq, Sum.inl.injEq, Prod.mk.injEq, exists_eq_left, exists_eq_left', and_assoc, exists_and_left, List.forall_mem_cons, List.not_mem_nil, Value.category, true_and, and_true, Nat.zero_le, forall_const, implies_true, Nat.zero_add, Nat.reduceAdd, Nat.reduceLT, Nat.reduceLeDiff, Nat.le_refl, Nat.sub_zero, q_cI, q_cR, q_cV, q_cV2, q_budz, true_implies, false_implies, not_true_eq_false, not_false_eq_true, isref_o, isref_a, q_oi, q_or, q_ov, g_add, g_sub, g_mul, zI_add, r_eq, r_ne, r_lt, r_ge, r_gt, r_le, bz_ne, st_T, st_rc, st_rs, st_M, st_bud, st_set, st_setR, zI_clamp, nn_toNat, zI_inI, cn_of, cn_0, cn_1, Option.getD_none, Option.getD_some, bok_bz, bok_z1, bok_z0, i10, Int.reduceLE, Int.reduceLT, Int.reduceEq, c11_isTelling, c11_within, hv, t11 hL, r11_0 hL, t11_0 hL, u11_0 hL]
theorem c12_isForm {T : Nat → Option q_T} {nx rc rs B : Nat} {R : Nat → Nat → Option Value} {G : Nat → Int → Int} {v f : Int} {K : Option Value → q_M → Prop} (hM : Ly T R (B + 544) (L12 (B + 544))) (hF : IFm G B) (hv1 : -2147483648 ≤ v) (hv2 : v < 2147483648) (hf1 : -2147483648 ≤ f) (hf2 : f < 2147483648) :
    fX12_isForm [.ref (B + 544), .int (zI v), .int (zI f)] (st T nx rc rs R G) K = K (some (.int (zI (bz (0 ≤ v ∧ v ≤ 1 ∧ 0 ≤ f ∧ f ≤ G (B + 370 + 14 * v.toNat) 1 - 1))))) (st T nx rc rs R G) := by
  by_cases hv : 0 ≤ v ∧ v ≤ 1
  · obtain ⟨g1, g2, g3, _⟩ := hF v hv.1 hv.2
    by_cases hf : 0 ≤ f ∧ f ≤ G (B + 370 + 14 * v.toNat) 1 - 1
    · rw [bz_t ⟨hv.1, hv.2, hf⟩]
      simp (config := { contextual := true }) (disch := omega) only [fX12_isForm, sX12_isForm_, q_mk, q_sq, q_if, q_te, q_cm, e_cz, q_an2, q_or2, q_no, q_ci, q_l, q_r, e_k, e_kn, e_kl, e_il, q_2, q_2d, q_2c, q_1, q_cs, q_cv, q_ac, q_an, q_sri, q_srv, q_srr, q_nop, q_sset, q_sdec, e_inc, q_spf, q_sof, q_sai, q_saz, q_soa, q_sx, q_blk, q_fi, q_fr, q_ai, q_az, q_ar, List.getElem?_cons_zero, List.getElem?_cons_succ, List.length_cons, List.length_nil, List.set_cons_zero, List.set_cons_succ, List.cons_append, List.nil_append, List.take_succ_cons, List.take_zero, Option.some.injEq, Value.int.injEq, Value.ref.injEq, Value.long.injEq, Sum.inr.injEq, Sum.inl.injEq, Prod.mk.injEq, exists_eq_left, exists_eq_left', and_assoc, exists_and_left, List.forall_mem_cons, List.not_mem_nil, Value.category, true_and, and_true, Nat.zero_le, forall_const, implies_true, Nat.zero_add, Nat.reduceAdd, Nat.reduceLT, Nat.reduceLeDiff, Nat.le_refl, Nat.sub_zero, q_cI, q_cR, q_cV, q_cV2, q_budz, true_implies, false_implies, not_true_eq_false, not_false_eq_true, isref_o, isref_a, q_oi, q_or, q_ov, g_add, g_sub, g_mul, zI_add, r_eq, r_ne, r_lt, r_ge, r_gt, r_le, bz_ne, st_T, st_rc, st_rs, st_M, st_bud, st_set, st_setR, zI_clamp, nn_toNat, zI_inI, cn_of, cn_0, cn_1, Option.getD_none, Option.getD_some, bok_bz, bok_z1, bok_z0, i10, Int.reduceLE, Int.reduceLT, Int.reduceEq, c12_isTelling, c12_in, zI_long, hv, hf, g1, t12 hM, r12_1 hM, t12_1 hM, v12_1 hM, w12_1 hM]
    · rw [bz_f (fun q => hf q.2.2)]
      simp (config := { contextual := true }) (disch := omega) only [fX12_isForm, sX12_isForm_, q_mk, q_sq, q_if, q_te, q_cm, e_cz, q_an2, q_or2, q_no, q_ci, q_l, q_r, e_k, e_kn, e_kl, e_il, q_2, q_2d, q_2c, q_1, q_cs, q_cv, q_ac, q_an, q_sri, q_srv, q_srr, q_nop, q_sset, q_sdec, e_inc, q_spf, q_sof, q_sai, q_saz, q_soa, q_sx, q_blk, q_fi, q_fr, q_ai, q_az, q_ar, List.getElem?_cons_zero, List.getElem?_cons_succ, List.length_cons, List.length_nil, List.set_cons_zero, List.set_cons_succ, List.cons_append, List.nil_append, List.take_succ_cons, List.take_zero, Option.some.injEq, Value.int.injEq, Value.ref.injEq, Value.long.injEq, Sum.inr.injEq, Sum.inl.injEq, Prod.mk.injEq, exists_eq_left, exists_eq_left', and_assoc, exists_and_left, List.forall_mem_cons, List.not_mem_nil, Value.category, true_and, and_true, Nat.zero_le, forall_const, implies_true, Nat.zero_add, Nat.reduceAdd, Nat.reduceLT, Nat.reduceLeDiff, Nat.le_refl, Nat.sub_zero, q_cI, q_cR, q_cV, q_cV2, q_budz, true_implies, false_implies, not_true_eq_false, not_false_eq_true, isref_o, isref_a, q_oi, q_or, q_ov, g_add, g_sub, g_mul, zI_add, r_eq, r_ne, r_lt, r_ge, r_gt, r_le, bz_ne, st_T, st_rc, st_rs, st_M, st_bud, st_set, st_setR, zI_clamp, nn_toNat, zI_inI, cn_of, cn_0, cn_1, Option.getD_none, Option.getD_some, bok_bz, bok_z1, bok_z0, i10, Int.reduceLE, Int.reduceLT, Int.reduceEq, c12_isTelling, c12_in, zI_long, hv, hf, g1, t12 hM, r12_1 hM, t12_1 hM, v12_1 hM, w12_1 hM]
  · rw [bz_f (fun q => hv ⟨q.1, q.2.1⟩)]
    simp (config := { contextual := true }) (disch := omega) only [fX12_isForm, sX12_isForm_, q_mk, q_sq, q_if, q_te, q_cm, e_cz, q_an2, q_or2, q_no, q_ci, q_l, q_r, e_k, e_kn, e_kl, e_il, q_2, q_2d, q_2c, q_1, q_cs, q_cv, q_ac, q_an, q_sri, q_srv, q_srr, q_nop, q_sset, q_sdec, e_inc, q_spf, q_sof, q_sai, q_saz, q_soa, q_sx, q_blk, q_fi, q_fr, q_ai, q_az, q_ar, List.getElem?_cons_zero, List.getElem?_cons_succ, List.length_cons, List.length_nil, List.set_cons_zero, List.set_cons_succ, List.cons_append, List.nil_append, List.take_succ_cons, List.take_zero, Option.some.injEq, Value.int.injEq, Value.ref.injEq, Value.long.injEq, Sum.inr.injEq, Sum.inl.injEq, Prod.mk.injEq, exists_eq_left, exists_eq_left', and_assoc, exists_and_left, List.forall_mem_cons, List.not_mem_nil, Value.category, true_and, and_true, Nat.zero_le, forall_const, implies_true, Nat.zero_add, Nat.reduceAdd, Nat.reduceLT, Nat.reduceLeDiff, Nat.le_refl, Nat.sub_zero, q_cI, q_cR, q_cV, q_cV2, q_budz, true_implies, false_implies, not_true_eq_false, not_false_eq_true, isref_o, isref_a, q_oi, q_or, q_ov, g_add, g_sub, g_mul, zI_add, r_eq, r_ne, r_lt, r_ge, r_gt, r_le, bz_ne, st_T, st_rc, st_rs, st_M, st_bud, st_set, st_setR, zI_clamp, nn_toNat, zI_inI, cn_of, cn_0, cn_1, Option.getD_none, Option.getD_some, bok_bz, bok_z1, bok_z0, i10, Int.reduceLE, Int.reduceLT, Int.reduceEq, c12_isTelling, c12_in, zI_long, hv, t12 hM, r12_1 hM, t12_1 hM, v12_1 hM, w12_1 hM]
theorem c12_slotsOf {T : Nat → Option q_T} {nx rc rs B : Nat} {R : Nat → Nat → Option Value} {G : Nat → Int → Int} {f : Int} {K : Option Value → q_M → Prop} (hM : Ly T R (B + 544) (L12 (B + 544))) (h0 : 0 ≤ f) (h1 : f < 28) (h2 : 0 ≤ G (B + 544 + 4) f) (h3 : G (B + 544 + 4) f ≤ 5)
    (hi : ∀ k : Int, 0 ≤ k → k < G (B + 544 + 4) f → 0 ≤ G (B + 544 + 5) (5 * f + k) ∧ G (B + 544 + 5) (5 * f + k) ≤ 65) :
    fX12_slotsOf [.ref (B + 544), .int (zI f)] (st T nx rc rs R G) K = K (some (.int (zI (nsl (fun k => G (B + 544 + 5) (5 * f + k)) (G (B + 544 + 4) f).toNat)))) (st T nx rc rs R G) := by
  refine propext (q_dF.is dX12_slotsOf ?_ K)
  simp (config := { contextual := true }) (disch := omega) only [fX12_slotsOf, uX12_slotsOf, q_mk, q_sq, q_if, q_te, q_cm, e_cz, q_an2, q_or2, q_no, q_ci, q_l, q_r, e_k, e_kn, e_kl, e_il, q_2, q_2d, q_2c, q_1, q_cs, q_cv, q_ac, q_an, q_sri, q_srv, q_srr, q_nop, q_sset, q_sdec, e_inc, q_spf, q_sof, q_sai, q_saz, q_soa, q_sx, q_blk, q_fi, q_fr, q_ai, q_az, q_ar, List.getElem?_cons_zero, List.getElem?_cons_succ, List.length_cons, List.length_nil, List.set_cons_zero, List.set_cons_succ, List.cons_append, List.nil_append, List.take_succ_cons, List.take_zero, Option.some.injEq, Value.int.injEq, Value.ref.injEq, Value.long.injEq, Sum.inr.injEq, Sum.inl.injEq, Prod.mk.injEq, exists_eq_left, exists_eq_left', and_assoc, exists_and_left, List.forall_mem_cons, List.not_mem_nil, Value.category, true_and, and_true, Nat.zero_le, forall_const, implies_true, Nat.zero_add, Nat.reduceAdd, Nat.reduceLT, Nat.reduceLeDiff, Nat.le_refl, Nat.sub_zero, q_cI, q_cR, q_cV, q_cV2, q_budz, true_implies, false_implies, not_true_eq_false, not_false_eq_true, isref_o, isref_a, q_oi, q_or, q_ov, g_add, g_sub, g_mul, zI_add, r_eq, r_ne, r_lt, r_ge, r_gt, r_le, bz_ne, st_T, st_rc, st_rs, st_M, st_bud, st_set, st_setR, zI_clamp, nn_toNat, zI_inI, cn_of, cn_0, cn_1, Option.getD_none, Option.getD_some, bok_bz, bok_z1, bok_z0, i10, Int.reduceLE, Int.reduceLT, Int.reduceEq, t12 hM, r12_3 hM, t12_3 hM, v12_3 hM, w12_3 hM, r12_4 hM, t12_4 hM, v12_4 hM, w12_4 hM]
  refine lX12_slotsOf_0 (fun n env μ => ∃ k : Nat, k + n = (G (B + 544 + 4) f).toNat ∧ env = [.ref (B + 544), .int (zI f), .int (zI (nsl (fun k => G (B + 544 + 5) (5 * f + k)) k)), .int (zI k)] ∧ μ = st T nx rc rs R G) ?_ (G (B + 544 + 4) f).toNat _ _ ⟨0, by omega, rfl, rfl⟩
  intro n env μ ⟨k, hk, he, hm⟩
  subst he hm
  by_cases hlt : k < (G (B + 544 + 4) f).toNat
  · have hz : (k : Int) < G (B + 544 + 4) f := by omega
    have g := hi k (by omega) (by omega)
    have gb := nsl_b (fun k => G (B + 544 + 5) (5 * f + k)) k
    by_cases hw : 0 ≤ G (B + 544 + 5) (5 * f + k) ∧ G (B + 544 + 5) (5 * f + k) ≤ 11
    · simp (config := { contextual := true }) (disch := omega) only [q_mk, q_sq, q_if, q_te, q_cm, e_cz, q_an2, q_or2, q_no, q_ci, q_l, q_r, e_k, e_kn, e_kl, e_il, q_2, q_2d, q_2c, q_1, q_cs, q_cv, q_ac, q_an, q_sri, q_srv, q_srr, q_nop, q_sset, q_sdec, e_inc, q_spf, q_sof, q_sai, q_saz, q_soa, q_sx, q_blk, q_fi, q_fr, q_ai, q_az, q_ar, List.getElem?_cons_zero, List.getElem?_cons_succ, List.length_cons, List.length_nil, List.set_cons_zero, List.set_cons_succ, List.cons_append, List.nil_append, List.take_succ_cons, List.take_zero, Option.some.injEq, Value.int.injEq, Value.ref.injEq, Value.long.injEq, Sum.inr.injEq, Sum.inl.injEq, Prod.mk.injEq, exists_eq_left, exists_eq_left', and_assoc, exists_and_left, List.forall_mem_cons, List.not_mem_nil, Value.category, true_and, and_true, Nat.zero_le, forall_const, implies_true, Nat.zero_add, Nat.reduceAdd, Nat.reduceLT, Nat.reduceLeDiff, Nat.le_refl, Nat.sub_zero, q_cI, q_cR, q_cV, q_cV2, q_budz, true_implies, false_implies, not_true_eq_false, not_false_eq_true, isref_o, isref_a, q_oi, q_or, q_ov, g_add, g_sub, g_mul, zI_add, r_eq, r_ne, r_lt, r_ge, r_gt, r_le, bz_ne, st_T, st_rc, st_rs, st_M, st_bud, st_set, st_setR, zI_clamp, nn_toNat, zI_inI, cn_of, cn_0, cn_1, Option.getD_none, Option.getD_some, bok_bz, bok_z1, bok_z0, i10, Int.reduceLE, Int.reduceLT, Int.reduceEq, wcX12_slotsOf_0, wsX12_slotsOf_0, c12_isWord, hw, hz, mulc, t12 hM, r12_3 hM, t12_3 hM, v12_3 hM, w12_3 hM, r12_4 hM, t12_4 hM, v12_4 hM, w12_4 hM]
      refine ⟨n - 1, by omega, k + 1, by omega, ?_⟩
      rw [nsl_s, if_pos hw]
      rfl
    · simp (config := { contextual := true }) (disch := omega) only [q_mk, q_sq, q_if, q_te, q_cm, e_cz, q_an2, q_or2, q_no, q_ci, q_l, q_r, e_k, e_kn, e_kl, e_il, q_2, q_2d, q_2c, q_1, q_cs, q_cv, q_ac, q_an, q_sri, q_srv, q_srr, q_nop, q_sset, q_sdec, e_inc, q_spf, q_sof, q_sai, q_saz, q_soa, q_sx, q_blk, q_fi, q_fr, q_ai, q_az, q_ar, List.getElem?_cons_zero, List.getElem?_cons_succ, List.length_cons, List.length_nil, List.set_cons_zero, List.set_cons_succ, List.cons_append, List.nil_append, List.take_succ_cons, List.take_zero, Option.some.injEq, Value.int.injEq, Value.ref.injEq, Value.long.injEq, Sum.inr.injEq, Sum.inl.injEq, Prod.mk.injEq, exists_eq_left, exists_eq_left', and_assoc, exists_and_left, List.forall_mem_cons, List.not_mem_nil, Value.category, true_and, and_true, Nat.zero_le, forall_const, implies_true, Nat.zero_add, Nat.reduceAdd, Nat.reduceLT, Nat.reduceLeDiff, Nat.le_refl, Nat.sub_zero, q_cI, q_cR, q_cV, q_cV2, q_budz, true_implies, false_implies, not_true_eq_false, not_false_eq_true, isref_o, isref_a, q_oi, q_or, q_ov, g_add, g_sub, g_mul, zI_add, r_eq, r_ne, r_lt, r_ge, r_gt, r_le, bz_ne, st_T, st_rc, st_rs, st_M, st_bud, st_set, st_setR, zI_clamp, nn_toNat, zI_inI, cn_of, cn_0, cn_1, Option.getD_none, Option.getD_some, bok_bz, bok_z1, bok_z0, i10, Int.reduceLE, Int.reduceLT, Int.reduceEq, wcX12_slotsOf_0, wsX12_slotsOf_0, c12_isWord, hw, hz, mulc, t12 hM, r12_3 hM, t12_3 hM, v12_3 hM, w12_3 hM, r12_4 hM, t12_4 hM, v12_4 hM, w12_4 hM]
      refine ⟨n - 1, by omega, k + 1, by omega, ?_⟩
      rw [nsl_s, if_neg hw]
      rfl
  · have e : k = (G (B + 544 + 4) f).toNat := by omega
    have hz : ¬ (k : Int) < G (B + 544 + 4) f := by omega
    simp (config := { contextual := true }) (disch := omega) only [q_mk, q_sq, q_if, q_te, q_cm, e_cz, q_an2, q_or2, q_no, q_ci, q_l, q_r, e_k, e_kn, e_kl, e_il, q_2, q_2d, q_2c, q_1, q_cs, q_cv, q_ac, q_an, q_sri, q_srv, q_srr, q_nop, q_sset, q_sdec, e_inc, q_spf, q_sof, q_sai, q_saz, q_soa, q_sx, q_blk, q_fi, q_fr, q_ai, q_az, q_ar, List.getElem?_cons_zero, List.getElem?_cons_succ, List.length_cons, List.length_nil, List.set_cons_zero, List.set_cons_succ, List.cons_append, List.nil_append, List.take_succ_cons, List.take_zero, Option.some.injEq, Value.int.injEq, Value.ref.injEq, Value.long.injEq, Sum.inr.injEq, Sum.inl.injEq, Prod.mk.injEq, exists_eq_left, exists_eq_left', and_assoc, exists_and_left, List.forall_mem_cons, List.not_mem_nil, Value.category, true_and, and_true, Nat.zero_le, forall_const, implies_true, Nat.zero_add, Nat.reduceAdd, Nat.reduceLT, Nat.reduceLeDiff, Nat.le_refl, Nat.sub_zero, q_cI, q_cR, q_cV, q_cV2, q_budz, true_implies, false_implies, not_true_eq_false, not_false_eq_true, isref_o, isref_a, q_oi, q_or, q_ov, g_add, g_sub, g_mul, zI_add, r_eq, r_ne, r_lt, r_ge, r_gt, r_le, bz_ne, st_T, st_rc, st_rs, st_M, st_bud, st_set, st_setR, zI_clamp, nn_toNat, zI_inI, cn_of, cn_0, cn_1, Option.getD_none, Option.getD_some, bok_bz, bok_z1, bok_z0, i10, Int.reduceLE, Int.reduceLT, Int.reduceEq, wcX12_slotsOf_0, wsX12_slotsOf_0, hz, mulc, t12 hM, r12_3 hM, t12_3 hM, v12_3 hM, w12_3 hM, r12_4 hM, t12_4 hM, v12_4 hM, w12_4 hM]
    rw [e]
theorem c12_slotItem {T : Nat → Option q_T} {nx rc rs B : Nat} {R : Nat → Nat → Option Value} {G : Nat → Int → Int} {f s : Int} {K : Option Value → q_M → Prop} {k0 : Nat} (hM : Ly T R (B + 544) (L12 (B + 544))) (h0 : 0 ≤ f) (h1 : f < 28) (h2 : 0 ≤ G (B + 544 + 4) f) (h3 : G (B + 544 + 4) f ≤ 5)
    (hi : ∀ k : Int, 0 ≤ k → k < G (B + 544 + 4) f → 0 ≤ G (B + 544 + 5) (5 * f + k) ∧ G (B + 544 + 5) (5 * f + k) ≤ 65) (hk0 : k0 < (G (B + 544 + 4) f).toNat) (hs : nsl (fun k => G (B + 544 + 5) (5 * f + k)) k0 = s) (hn : ¬ (0 ≤ G (B + 544 + 5) (5 * f + k0) ∧ G (B + 544 + 5) (5 * f + k0) ≤ 11)) :
    fX12_slotItem [.ref (B + 544), .int (zI f), .int (zI s)] (st T nx rc rs R G) K = K (some (.int (zI (G (B + 544 + 5) (5 * f + k0))))) (st T nx rc rs R G) := by
  refine propext (q_dF.is dX12_slotItem ?_ K)
  have gb0 := nsl_b (fun k => G (B + 544 + 5) (5 * f + k)) k0
  simp (config := { contextual := true }) (disch := omega) only [fX12_slotItem, uX12_slotItem, q_mk, q_sq, q_if, q_te, q_cm, e_cz, q_an2, q_or2, q_no, q_ci, q_l, q_r, e_k, e_kn, e_kl, e_il, q_2, q_2d, q_2c, q_1, q_cs, q_cv, q_ac, q_an, q_sri, q_srv, q_srr, q_nop, q_sset, q_sdec, e_inc, q_spf, q_sof, q_sai, q_saz, q_soa, q_sx, q_blk, q_fi, q_fr, q_ai, q_az, q_ar, List.getElem?_cons_zero, List.getElem?_cons_succ, List.length_cons, List.length_nil, List.set_cons_zero, List.set_cons_succ, List.cons_append, List.nil_append, List.take_succ_cons, List.take_zero, Option.some.injEq, Value.int.injEq, Value.ref.injEq, Value.long.injEq, Sum.inr.injEq, Sum.inl.injEq, Prod.mk.injEq, exists_eq_left, exists_eq_left', and_assoc, exists_and_left, List.forall_mem_cons, List.not_mem_nil, Value.category, true_and, and_true, Nat.zero_le, forall_const, implies_true, Nat.zero_add, Nat.reduceAdd, Nat.reduceLT, Nat.reduceLeDiff, Nat.le_refl, Nat.sub_zero, q_cI, q_cR, q_cV, q_cV2, q_budz, true_implies, false_implies, not_true_eq_false, not_false_eq_true, isref_o, isref_a, q_oi, q_or, q_ov, g_add, g_sub, g_mul, zI_add, r_eq, r_ne, r_lt, r_ge, r_gt, r_le, bz_ne, st_T, st_rc, st_rs, st_M, st_bud, st_set, st_setR, zI_clamp, nn_toNat, zI_inI, cn_of, cn_0, cn_1, Option.getD_none, Option.getD_some, bok_bz, bok_z1, bok_z0, i10, Int.reduceLE, Int.reduceLT, Int.reduceEq, t12 hM, r12_3 hM, t12_3 hM, v12_3 hM, w12_3 hM, r12_4 hM, t12_4 hM, v12_4 hM, w12_4 hM]
  refine lX12_slotItem_0 (fun n env μ => ∃ k : Nat, k + n = k0 + 1 ∧ k ≤ k0 ∧ env = [.ref (B + 544), .int (zI f), .int (zI s), .int (zI (s - nsl (fun k => G (B + 544 + 5) (5 * f + k)) k)), .int (zI k)] ∧ μ = st T nx rc rs R G) ?_ (k0 + 1) _ _ ⟨0, by omega, by omega, by rw [show nsl (fun k => G (B + 544 + 5) (5 * f + k)) 0 = 0 from rfl, Int.sub_zero]; rfl, rfl⟩
  intro n env μ ⟨k, hk, hk2, he, hm⟩
  subst he hm
  have g := hi k (by omega) (by omega)
  have hz : (k : Int) < G (B + 544 + 4) f := by omega
  have gb := nsl_b (fun k => G (B + 544 + 5) (5 * f + k)) k
  have mo := nsl_mono (fun k => G (B + 544 + 5) (5 * f + k)) (m := k + 1) (n := k0)
  by_cases e : k = k0
  · subst e
    have e0 : s - nsl (fun k => G (B + 544 + 5) (5 * f + k)) k = 0 := by omega
    simp (config := { contextual := true }) (disch := omega) only [q_mk, q_sq, q_if, q_te, q_cm, e_cz, q_an2, q_or2, q_no, q_ci, q_l, q_r, e_k, e_kn, e_kl, e_il, q_2, q_2d, q_2c, q_1, q_cs, q_cv, q_ac, q_an, q_sri, q_srv, q_srr, q_nop, q_sset, q_sdec, e_inc, q_spf, q_sof, q_sai, q_saz, q_soa, q_sx, q_blk, q_fi, q_fr, q_ai, q_az, q_ar, List.getElem?_cons_zero, List.getElem?_cons_succ, List.length_cons, List.length_nil, List.set_cons_zero, List.set_cons_succ, List.cons_append, List.nil_append, List.take_succ_cons, List.take_zero, Option.some.injEq, Value.int.injEq, Value.ref.injEq, Value.long.injEq, Sum.inr.injEq, Sum.inl.injEq, Prod.mk.injEq, exists_eq_left, exists_eq_left', and_assoc, exists_and_left, List.forall_mem_cons, List.not_mem_nil, Value.category, true_and, and_true, Nat.zero_le, forall_const, implies_true, Nat.zero_add, Nat.reduceAdd, Nat.reduceLT, Nat.reduceLeDiff, Nat.le_refl, Nat.sub_zero, q_cI, q_cR, q_cV, q_cV2, q_budz, true_implies, false_implies, not_true_eq_false, not_false_eq_true, isref_o, isref_a, q_oi, q_or, q_ov, g_add, g_sub, g_mul, zI_add, r_eq, r_ne, r_lt, r_ge, r_gt, r_le, bz_ne, st_T, st_rc, st_rs, st_M, st_bud, st_set, st_setR, zI_clamp, nn_toNat, zI_inI, cn_of, cn_0, cn_1, Option.getD_none, Option.getD_some, bok_bz, bok_z1, bok_z0, i10, Int.reduceLE, Int.reduceLT, Int.reduceEq, wcX12_slotItem_0, wsX12_slotItem_0, c12_isWord, hn, e0, hz, mulc, t12 hM, r12_3 hM, t12_3 hM, v12_3 hM, w12_3 hM, r12_4 hM, t12_4 hM, v12_4 hM, w12_4 hM]
  · have mo2 := mo (by omega)
    rw [nsl_s] at mo2
    by_cases hw : 0 ≤ G (B + 544 + 5) (5 * f + k) ∧ G (B + 544 + 5) (5 * f + k) ≤ 11
    · simp (config := { contextual := true }) (disch := omega) only [q_mk, q_sq, q_if, q_te, q_cm, e_cz, q_an2, q_or2, q_no, q_ci, q_l, q_r, e_k, e_kn, e_kl, e_il, q_2, q_2d, q_2c, q_1, q_cs, q_cv, q_ac, q_an, q_sri, q_srv, q_srr, q_nop, q_sset, q_sdec, e_inc, q_spf, q_sof, q_sai, q_saz, q_soa, q_sx, q_blk, q_fi, q_fr, q_ai, q_az, q_ar, List.getElem?_cons_zero, List.getElem?_cons_succ, List.length_cons, List.length_nil, List.set_cons_zero, List.set_cons_succ, List.cons_append, List.nil_append, List.take_succ_cons, List.take_zero, Option.some.injEq, Value.int.injEq, Value.ref.injEq, Value.long.injEq, Sum.inr.injEq, Sum.inl.injEq, Prod.mk.injEq, exists_eq_left, exists_eq_left', and_assoc, exists_and_left, List.forall_mem_cons, List.not_mem_nil, Value.category, true_and, and_true, Nat.zero_le, forall_const, implies_true, Nat.zero_add, Nat.reduceAdd, Nat.reduceLT, Nat.reduceLeDiff, Nat.le_refl, Nat.sub_zero, q_cI, q_cR, q_cV, q_cV2, q_budz, true_implies, false_implies, not_true_eq_false, not_false_eq_true, isref_o, isref_a, q_oi, q_or, q_ov, g_add, g_sub, g_mul, zI_add, r_eq, r_ne, r_lt, r_ge, r_gt, r_le, bz_ne, st_T, st_rc, st_rs, st_M, st_bud, st_set, st_setR, zI_clamp, nn_toNat, zI_inI, cn_of, cn_0, cn_1, Option.getD_none, Option.getD_some, bok_bz, bok_z1, bok_z0, i10, Int.reduceLE, Int.reduceLT, Int.reduceEq, wcX12_slotItem_0, wsX12_slotItem_0, c12_isWord, hw, hz, mulc, t12 hM, r12_3 hM, t12_3 hM, v12_3 hM, w12_3 hM, r12_4 hM, t12_4 hM, v12_4 hM, w12_4 hM]
      refine ⟨n - 1, by omega, k + 1, by omega, by omega, ?_⟩
      rw [nsl_s, if_pos hw, Int.add_zero]
      rfl
    · rw [if_neg hw] at mo2
      have e0 : ¬ s - nsl (fun k => G (B + 544 + 5) (5 * f + k)) k = 0 := by omega
      simp (config := { contextual := true }) (disch := omega) only [q_mk, q_sq, q_if, q_te, q_cm, e_cz, q_an2, q_or2, q_no, q_ci, q_l, q_r, e_k, e_kn, e_kl, e_il, q_2, q_2d, q_2c, q_1, q_cs, q_cv, q_ac, q_an, q_sri, q_srv, q_srr, q_nop, q_sset, q_sdec, e_inc, q_spf, q_sof, q_sai, q_saz, q_soa, q_sx, q_blk, q_fi, q_fr, q_ai, q_az, q_ar, List.getElem?_cons_zero, List.getElem?_cons_succ, List.length_cons, List.length_nil, List.set_cons_zero, List.set_cons_succ, List.cons_append, List.nil_append, List.take_succ_cons, List.take_zero, Option.some.injEq, Value.int.injEq, Value.ref.injEq, Value.long.injEq, Sum.inr.injEq, Sum.inl.injEq, Prod.mk.injEq, exists_eq_left, exists_eq_left', and_assoc, exists_and_left, List.forall_mem_cons, List.not_mem_nil, Value.category, true_and, and_true, Nat.zero_le, forall_const, implies_true, Nat.zero_add, Nat.reduceAdd, Nat.reduceLT, Nat.reduceLeDiff, Nat.le_refl, Nat.sub_zero, q_cI, q_cR, q_cV, q_cV2, q_budz, true_implies, false_implies, not_true_eq_false, not_false_eq_true, isref_o, isref_a, q_oi, q_or, q_ov, g_add, g_sub, g_mul, zI_add, r_eq, r_ne, r_lt, r_ge, r_gt, r_le, bz_ne, st_T, st_rc, st_rs, st_M, st_bud, st_set, st_setR, zI_clamp, nn_toNat, zI_inI, cn_of, cn_0, cn_1, Option.getD_none, Option.getD_some, bok_bz, bok_z1, bok_z0, i10, Int.reduceLE, Int.reduceLT, Int.reduceEq, wcX12_slotItem_0, wsX12_slotItem_0, c12_isWord, hw, e0, hz, mulc, t12 hM, r12_3 hM, t12_3 hM, v12_3 hM, w12_3 hM, r12_4 hM, t12_4 hM, v12_4 hM, w12_4 hM]
      refine ⟨n - 1, by omega, k + 1, by omega, by omega, ?_⟩
      rw [nsl_s, if_neg hw, show s - nsl (fun k => G (B + 544 + 5) (5 * f + k)) k + -1 = s - (nsl (fun k => G (B + 544 + 5) (5 * f + k)) k + 1) by omega]
      rfl
/-- items of the two are alike -/
theorem FR_it {G : Nat → Int → Int} {B t : Nat} {v f : Int} (h : FR G B t v f) : (G (B + 544 + 4) (14 * v + f) = G (t + 3) f ∧ 1 ≤ G (t + 3) f ∧ G (t + 3) f ≤ 5) ∧ ∀ k : Int, 0 ≤ k → k < G (B + 544 + 4) (14 * v + f) → 0 ≤ G (B + 544 + 5) (5 * (14 * v + f) + k) ∧ G (B + 544 + 5) (5 * (14 * v + f) + k) ≤ 65 := by
  obtain ⟨_, ⟨h1, h2, _, _⟩, _⟩ := h
  refine ⟨h1, fun k h3 h4 => ?_⟩
  obtain ⟨e, g⟩ := h2 k h3 (by omega)
  unfold isIt at g
  omega
theorem FR_nsl {G : Nat → Int → Int} {B t : Nat} {v f : Int} (h : FR G B t v f) {n : Nat} (hn : n ≤ (G (t + 3) f).toNat) : nsl (fun k => G (B + 544 + 5) (5 * (14 * v + f) + k)) n = nsl (fun k => G (t + 4) (5 * f + k)) n := by
  obtain ⟨_, ⟨h1, h2, _, _⟩, _⟩ := h
  refine nsl_congr fun k hk => ?_
  exact (h2 k (by omega) (by omega)).1
theorem FR_sl {G : Nat → Int → Int} {B t : Nat} {v f : Int} (h : FR G B t v f) : 0 ≤ G (t + 5) f ∧ G (t + 5) f ≤ G (t + 3) f ∧ G (t + 3) f ≤ 5 := by
  obtain ⟨_, ⟨h1, h2, _, _⟩, ⟨h3, _⟩, _⟩ := h
  have := nsl_b (fun k => G (t + 4) (5 * f + k)) (G (t + 3) f).toNat
  omega
theorem c12_slotsF {T : Nat → Option q_T} {nx rc rs B t : Nat} {R : Nat → Nat → Option Value} {G : Nat → Int → Int} {v f : Int} {K : Option Value → q_M → Prop} (hM : Ly T R (B + 544) (L12 (B + 544))) (h : FR G B t v f) (hv0 : 0 ≤ v) (hv1 : v ≤ 1) (hf0 : 0 ≤ f) (hf1 : f < 14) :
    fX12_slotsOf [.ref (B + 544), .int (zI (14 * v + f))] (st T nx rc rs R G) K = K (some (.int (zI (G (t + 5) f)))) (st T nx rc rs R G) := by
  obtain ⟨⟨h1, h2, h3⟩, h4⟩ := FR_it h
  rw [c12_slotsOf hM (by omega) (by omega) (by omega) (by omega) h4, h1, FR_nsl h (Nat.le_refl _), ← h.2.2.1.1]
theorem FR_ex {G : Nat → Int → Int} {B t : Nat} {v f s : Int} (h : FR G B t v f) (hs0 : 0 ≤ s) (hs1 : s < G (t + 5) f) : ∃ k : Nat, k < (G (t + 3) f).toNat ∧ nsl (fun k => G (t + 4) (5 * f + k)) k = s ∧ ¬ (0 ≤ G (t + 4) (5 * f + k) ∧ G (t + 4) (5 * f + k) ≤ 11) ∧ G (t + 6) (5 * f + s) = G (t + 4) (5 * f + k) ∧ G (B + 544 + 5) (5 * (14 * v + f) + k) = G (t + 4) (5 * f + k) := by
  have hh := h
  obtain ⟨_, ⟨h1, h2, _, _⟩, ⟨h3, h4⟩, _⟩ := h
  rw [h3] at hs1
  obtain ⟨k, k1, k2, k3⟩ := nsl_ex _ hs0 hs1
  refine ⟨k, k1, k2, k3, ?_, (h2 k (by omega) (by omega)).1⟩
  have := h4 k (by omega) (by omega) k3
  rw [Int.toNat_natCast, k2] at this
  exact this
theorem FR_si {G : Nat → Int → Int} {B t : Nat} {v f s : Int} (h : FR G B t v f) (hs0 : 0 ≤ s) (hs1 : s < G (t + 5) f) : (G (t + 6) (5 * f + s) = 20 ∨ G (t + 6) (5 * f + s) = 40) ∨ (60 ≤ G (t + 6) (5 * f + s) ∧ G (t + 6) (5 * f + s) ≤ 65) := by
  obtain ⟨k, k1, k2, k3, k4, k5⟩ := FR_ex h hs0 hs1
  have h2 := (h.2.1.2.1 k (by omega) (by omega)).2
  rw [k4]
  unfold isIt at h2
  omega
theorem c12_slotItemF {T : Nat → Option q_T} {nx rc rs B t : Nat} {R : Nat → Nat → Option Value} {G : Nat → Int → Int} {v f s : Int} {K : Option Value → q_M → Prop} (hM : Ly T R (B + 544) (L12 (B + 544))) (h : FR G B t v f) (hv0 : 0 ≤ v) (hv1 : v ≤ 1) (hf0 : 0 ≤ f) (hf1 : f < 14) (hs0 : 0 ≤ s) (hs1 : s < G (t + 5) f) :
    fX12_slotItem [.ref (B + 544), .int (zI (14 * v + f)), .int (zI s)] (st T nx rc rs R G) K = K (some (.int (zI (G (t + 6) (5 * f + s))))) (st T nx rc rs R G) := by
  obtain ⟨⟨h1, h2, h3⟩, h4⟩ := FR_it h
  obtain ⟨k, k1, k2, k3, k4, k5⟩ := FR_ex h hs0 hs1
  rw [c12_slotItem (k0 := k) hM (by omega) (by omega) (by omega) (by omega) h4 (by rw [h1]; exact k1) (by rw [FR_nsl h (by omega)]; exact k2) (by rw [k5]; exact k3), k4, k5]
end
section
/-! the same, when other rows were written since -/
theorem c12_isFormX {T : Nat → Option q_T} {nx rc rs B : Nat} {R : Nat → Nat → Option Value} {G G1 : Nat → Int → Int} {v f : Int} {K : Option Value → q_M → Prop} (hM : Ly T R (B + 544) (L12 (B + 544))) (hF : IFm G B) (e : G1 (B + 544 + 2) = G (B + 544 + 2)) (hv1 : -2147483648 ≤ v) (hv2 : v < 2147483648) (hf1 : -2147483648 ≤ f) (hf2 : f < 2147483648) :
    fX12_isForm [.ref (B + 544), .int (zI v), .int (zI f)] (st T nx rc rs R G1) K = K (some (.int (zI (bz (0 ≤ v ∧ v ≤ 1 ∧ 0 ≤ f ∧ f ≤ G (B + 370 + 14 * v.toNat) 1 - 1))))) (st T nx rc rs R G1) := by
  by_cases hv : 0 ≤ v ∧ v ≤ 1
  · obtain ⟨g1, g2, g3, _⟩ := hF v hv.1 hv.2
    by_cases hf : 0 ≤ f ∧ f ≤ G (B + 370 + 14 * v.toNat) 1 - 1
    · rw [bz_t ⟨hv.1, hv.2, hf⟩]
      simp (config := { contextual := true }) (disch := omega) only [fX12_isForm, sX12_isForm_, q_mk, q_sq, q_if, q_te, q_cm, e_cz, q_an2, q_or2, q_no, q_ci, q_l, q_r, e_k, e_kn, e_kl, e_il, q_2, q_2d, q_2c, q_1, q_cs, q_cv, q_ac, q_an, q_sri, q_srv, q_srr, q_nop, q_sset, q_sdec, e_inc, q_spf, q_sof, q_sai, q_saz, q_soa, q_sx, q_blk, q_fi, q_fr, q_ai, q_az, q_ar, List.getElem?_cons_zero, List.getElem?_cons_succ, List.length_cons, List.length_nil, List.set_cons_zero, List.set_cons_succ, List.cons_append, List.nil_append, List.take_succ_cons, List.take_zero, Option.some.injEq, Value.int.injEq, Value.ref.injEq, Value.long.injEq, Sum.inr.injEq, Sum.inl.injEq, Prod.mk.injEq, exists_eq_left, exists_eq_left', and_assoc, exists_and_left, List.forall_mem_cons, List.not_mem_nil, Value.category, true_and, and_true, Nat.zero_le, forall_const, implies_true, Nat.zero_add, Nat.reduceAdd, Nat.reduceLT, Nat.reduceLeDiff, Nat.le_refl, Nat.sub_zero, q_cI, q_cR, q_cV, q_cV2, q_budz, true_implies, false_implies, not_true_eq_false, not_false_eq_true, isref_o, isref_a, q_oi, q_or, q_ov, g_add, g_sub, g_mul, zI_add, r_eq, r_ne, r_lt, r_ge, r_gt, r_le, bz_ne, st_T, st_rc, st_rs, st_M, st_bud, st_set, st_setR, zI_clamp, nn_toNat, zI_inI, cn_of, cn_0, cn_1, Option.getD_none, Option.getD_some, bok_bz, bok_z1, bok_z0, i10, Int.reduceLE, Int.reduceLT, Int.reduceEq, c12_isTelling, c12_in, zI_long, hv, hf, e, g1, t12 hM, r12_1 hM, t12_1 hM, v12_1 hM, w12_1 hM]
    · rw [bz_f (fun q => hf q.2.2)]
      simp (config := { contextual := true }) (disch := omega) only [fX12_isForm, sX12_isForm_, q_mk, q_sq, q_if, q_te, q_cm, e_cz, q_an2, q_or2, q_no, q_ci, q_l, q_r, e_k, e_kn, e_kl, e_il, q_2, q_2d, q_2c, q_1, q_cs, q_cv, q_ac, q_an, q_sri, q_srv, q_srr, q_nop, q_sset, q_sdec, e_inc, q_spf, q_sof, q_sai, q_saz, q_soa, q_sx, q_blk, q_fi, q_fr, q_ai, q_az, q_ar, List.getElem?_cons_zero, List.getElem?_cons_succ, List.length_cons, List.length_nil, List.set_cons_zero, List.set_cons_succ, List.cons_append, List.nil_append, List.take_succ_cons, List.take_zero, Option.some.injEq, Value.int.injEq, Value.ref.injEq, Value.long.injEq, Sum.inr.injEq, Sum.inl.injEq, Prod.mk.injEq, exists_eq_left, exists_eq_left', and_assoc, exists_and_left, List.forall_mem_cons, List.not_mem_nil, Value.category, true_and, and_true, Nat.zero_le, forall_const, implies_true, Nat.zero_add, Nat.reduceAdd, Nat.reduceLT, Nat.reduceLeDiff, Nat.le_refl, Nat.sub_zero, q_cI, q_cR, q_cV, q_cV2, q_budz, true_implies, false_implies, not_true_eq_false, not_false_eq_true, isref_o, isref_a, q_oi, q_or, q_ov, g_add, g_sub, g_mul, zI_add, r_eq, r_ne, r_lt, r_ge, r_gt, r_le, bz_ne, st_T, st_rc, st_rs, st_M, st_bud, st_set, st_setR, zI_clamp, nn_toNat, zI_inI, cn_of, cn_0, cn_1, Option.getD_none, Option.getD_some, bok_bz, bok_z1, bok_z0, i10, Int.reduceLE, Int.reduceLT, Int.reduceEq, c12_isTelling, c12_in, zI_long, hv, hf, e, g1, t12 hM, r12_1 hM, t12_1 hM, v12_1 hM, w12_1 hM]
  · rw [bz_f (fun q => hv ⟨q.1, q.2.1⟩)]
    simp (config := { contextual := true }) (disch := omega) only [fX12_isForm, sX12_isForm_, q_mk, q_sq, q_if, q_te, q_cm, e_cz, q_an2, q_or2, q_no, q_ci, q_l, q_r, e_k, e_kn, e_kl, e_il, q_2, q_2d, q_2c, q_1, q_cs, q_cv, q_ac, q_an, q_sri, q_srv, q_srr, q_nop, q_sset, q_sdec, e_inc, q_spf, q_sof, q_sai, q_saz, q_soa, q_sx, q_blk, q_fi, q_fr, q_ai, q_az, q_ar, List.getElem?_cons_zero, List.getElem?_cons_succ, List.length_cons, List.length_nil, List.set_cons_zero, List.set_cons_succ, List.cons_append, List.nil_append, List.take_succ_cons, List.take_zero, Option.some.injEq, Value.int.injEq, Value.ref.injEq, Value.long.injEq, Sum.inr.injEq, Sum.inl.injEq, Prod.mk.injEq, exists_eq_left, exists_eq_left', and_assoc, exists_and_left, List.forall_mem_cons, List.not_mem_nil, Value.category, true_and, and_true, Nat.zero_le, forall_const, implies_true, Nat.zero_add, Nat.reduceAdd, Nat.reduceLT, Nat.reduceLeDiff, Nat.le_refl, Nat.sub_zero, q_cI, q_cR, q_cV, q_cV2, q_budz, true_implies, false_implies, not_true_eq_false, not_false_eq_true, isref_o, isref_a, q_oi, q_or, q_ov, g_add, g_sub, g_mul, zI_add, r_eq, r_ne, r_lt, r_ge, r_gt, r_le, bz_ne, st_T, st_rc, st_rs, st_M, st_bud, st_set, st_setR, zI_clamp, nn_toNat, zI_inI, cn_of, cn_0, cn_1, Option.getD_none, Option.getD_some, bok_bz, bok_z1, bok_z0, i10, Int.reduceLE, Int.reduceLT, Int.reduceEq, c12_isTelling, c12_in, zI_long, hv, t12 hM, r12_1 hM, t12_1 hM, v12_1 hM, w12_1 hM]
theorem c12_slotsFX {T : Nat → Option q_T} {nx rc rs B t : Nat} {R : Nat → Nat → Option Value} {G G1 : Nat → Int → Int} {v f : Int} {K : Option Value → q_M → Prop} (hM : Ly T R (B + 544) (L12 (B + 544))) (h : FR G B t v f) (e3 : G1 (B + 544 + 4) = G (B + 544 + 4)) (e4 : G1 (B + 544 + 5) = G (B + 544 + 5)) (hv0 : 0 ≤ v) (hv1 : v ≤ 1) (hf0 : 0 ≤ f) (hf1 : f < 14) :
    fX12_slotsOf [.ref (B + 544), .int (zI (14 * v + f))] (st T nx rc rs R G1) K = K (some (.int (zI (G (t + 5) f)))) (st T nx rc rs R G1) := by
  obtain ⟨⟨h1, h2, h3⟩, h4⟩ := FR_it h
  rw [c12_slotsOf hM (by omega) (by omega) (by rw [e3]; omega) (by rw [e3]; omega) (by rw [e3, e4]; exact h4), e3, e4, h1, FR_nsl h (Nat.le_refl _), ← h.2.2.1.1]
theorem c12_slotItemFX {T : Nat → Option q_T} {nx rc rs B t : Nat} {R : Nat → Nat → Option Value} {G G1 : Nat → Int → Int} {v f s : Int} {K : Option Value → q_M → Prop} (hM : Ly T R (B + 544) (L12 (B + 544))) (h : FR G B t v f) (e3 : G1 (B + 544 + 4) = G (B + 544 + 4)) (e4 : G1 (B + 544 + 5) = G (B + 544 + 5)) (hv0 : 0 ≤ v) (hv1 : v ≤ 1) (hf0 : 0 ≤ f) (hf1 : f < 14) (hs0 : 0 ≤ s) (hs1 : s < G (t + 5) f) :
    fX12_slotItem [.ref (B + 544), .int (zI (14 * v + f)), .int (zI s)] (st T nx rc rs R G1) K = K (some (.int (zI (G (t + 6) (5 * f + s))))) (st T nx rc rs R G1) := by
  obtain ⟨⟨h1, h2, h3⟩, h4⟩ := FR_it h
  obtain ⟨k, k1, k2, k3, k4, k5⟩ := FR_ex h hs0 hs1
  rw [c12_slotItem (k0 := k) hM (by omega) (by omega) (by rw [e3]; omega) (by rw [e3]; omega) (by rw [e3, e4]; exact h4) (by rw [e3, h1]; exact k1) (by rw [e4, FR_nsl h (by omega)]; exact k2) (by rw [e4, k5]; exact k3), e4, k4, k5]
end
section
/-! writes keep what stands between the two -/
theorem Fga_upd {n g H : Int → Int} {v f i x f' : Int} (h : Fga n g H v f') (hn : 1 ≤ n f' ∧ n f' ≤ 5) (hi : 0 ≤ i ∧ i < 5) (hi2 : f' = f → i ≤ n f' - 2) (hx : 0 ≤ x ∧ x ≤ 2) : Fga n (fu g (5 * f + i) x) (fu H (5 * (14 * v + f) + i) x) v f' := by
  refine ⟨fun k h1 h2 => ?_, ?_⟩
  · have k3 := h.1 k h1 h2
    by_cases e : 5 * f' + k = 5 * f + i
    · rw [show 5 * (14 * v + f') + k = 5 * (14 * v + f) + i by omega, e, fu_eq, fu_eq]
      omega
    · rw [fu_ne e, fu_ne (by omega)]
      exact k3
  · rw [fu_ne (by omega)]
    exact h.2
theorem Fga_far {n g H : Int → Int} {v f i x v' f' : Int} (h : Fga n g H v' f') (hn : n f' ≤ 5) (hi : 0 ≤ i ∧ i < 5) (hne : ¬ 14 * v' + f' = 14 * v + f) : Fga n g (fu H (5 * (14 * v + f) + i) x) v' f' := by
  refine ⟨fun k h1 h2 => ?_, h.2⟩
  rw [fu_ne (by omega)]
  exact h.1 k h1 h2
theorem Fho_upd {n g H : Int → Int} {v f i x f' : Int} (h : Fho n g H v f') (hn : 1 ≤ n f' ∧ n f' ≤ 5) (hi : 0 ≤ i ∧ i < 5) (hx : 0 ≤ x ∧ x ≤ 2) : Fho n (fu g (5 * f + i) x) (fu H (5 * (14 * v + f) + i) x) v f' := by
  intro k h1 h2
  have k3 := h k h1 h2
  by_cases e : 5 * f' + k = 5 * f + i
  · rw [show 5 * (14 * v + f') + k = 5 * (14 * v + f) + i by omega, e, fu_eq, fu_eq]
    omega
  · rw [fu_ne e, fu_ne (by omega)]
    exact k3
theorem Fho_far {n g H : Int → Int} {v f i x v' f' : Int} (h : Fho n g H v' f') (hn : n f' ≤ 5) (hi : 0 ≤ i ∧ i < 5) (hne : ¬ 14 * v' + f' = 14 * v + f) : Fho n g (fu H (5 * (14 * v + f) + i) x) v' f' := by
  intro k h1 h2
  rw [fu_ne (by omega)]
  exact h k h1 h2
theorem Fac_upd {a A : Int → Int} {v f x f' : Int} (h : Fac a A v f') (hx : 0 ≤ x ∧ x ≤ 7) : Fac (fu a f x) (fu A (14 * v + f) x) v f' := by
  unfold Fac at h ⊢
  by_cases e : f' = f
  · rw [e, fu_eq, fu_eq]
    omega
  · rw [fu_ne e, fu_ne (by omega)]
    exact h
theorem Fac_far {a A : Int → Int} {v f x v' f' : Int} (h : Fac a A v' f') (hne : ¬ 14 * v' + f' = 14 * v + f) : Fac a (fu A (14 * v + f) x) v' f' := by
  unfold Fac at h ⊢
  rw [fu_ne hne]
  exact h
theorem Fsc_upd {a A : Int → Int} {v f x f' : Int} (h : Fsc a A v f') (hx : 0 ≤ x ∧ x ≤ 1) : Fsc (fu a f x) (fu A (14 * v + f) x) v f' := by
  unfold Fsc at h ⊢
  by_cases e : f' = f
  · rw [e, fu_eq, fu_eq]
    omega
  · rw [fu_ne e, fu_ne (by omega)]
    exact h
theorem Fsc_far {a A : Int → Int} {v f x v' f' : Int} (h : Fsc a A v' f') (hne : ¬ 14 * v' + f' = 14 * v + f) : Fsc a (fu A (14 * v + f) x) v' f' := by
  unfold Fsc at h ⊢
  rw [fu_ne hne]
  exact h
/-- no rules -/
theorem Fru_0 {N m M s S w W : Int → Int} {v f f' : Int} (h : Fru N m M s S w W v f') : Fru N (fu m f 0) (fu M (14 * v + f) 0) s S w W v f' := by
  by_cases e : f' = f
  · refine ⟨?_, fun k h1 h2 => ?_⟩
    · rw [e, fu_eq, fu_eq]
      omega
    · rw [e, fu_eq] at h2
      omega
  · refine ⟨?_, fun k h1 h2 => ?_⟩
    · rw [fu_ne e, fu_ne (by omega)]
      exact h.1
    · rw [fu_ne e] at h2
      exact h.2 k h1 h2
theorem Fru_0f {N m M s S w W : Int → Int} {v f v' f' : Int} (h : Fru N m M s S w W v' f') (hne : ¬ 14 * v' + f' = 14 * v + f) : Fru N m (fu M (14 * v + f) 0) s S w W v' f' := by
  refine ⟨?_, h.2⟩
  rw [fu_ne hne]
  exact h.1
/-- one rule more -/
theorem Fru_add {N m M s S w W : Int → Int} {v f f' i x : Int} (h : Fru N m M s S w W v f') (hf : Fru N m M s S w W v f) (hm : m f < 6) (hi : -1 ≤ i ∧ i < N f) (hx : (0 ≤ x ∧ x ≤ 5) ∨ (10 ≤ x ∧ x < 10 + N f)) :
    Fru N (fu m f (m f + 1)) (fu M (14 * v + f) (m f + 1)) (fu s (6 * f + m f) i) (fu S (6 * (14 * v + f) + m f) i) (fu w (6 * f + m f) x) (fu W (6 * (14 * v + f) + m f) x) v f' := by
  have b := hf.1
  by_cases e : f' = f
  · subst e
    refine ⟨?_, fun k h1 h2 => ?_⟩
    · rw [fu_eq, fu_eq]
      omega
    · rw [fu_eq] at h2
      by_cases e2 : k = m f'
      · rw [e2, fu_eq, fu_eq, fu_eq, fu_eq]
        omega
      · rw [fu_ne (by omega), fu_ne (by omega), fu_ne (by omega), fu_ne (by omega)]
        exact h.2 k h1 (by omega)
  · have b2 := h.1
    refine ⟨?_, fun k h1 h2 => ?_⟩
    · rw [fu_ne e, fu_ne (by omega)]
      exact h.1
    · rw [fu_ne e] at h2
      rw [fu_ne (by omega), fu_ne (by omega), fu_ne (by omega), fu_ne (by omega)]
      exact h.2 k h1 h2
theorem Fru_addf {N m M s S w W : Int → Int} {v f v' f' i x c : Int} (h : Fru N m M s S w W v' f') (hc : 0 ≤ c ∧ c < 6) (hne : ¬ 14 * v' + f' = 14 * v + f) :
    Fru N m (fu M (14 * v + f) (c + 1)) s (fu S (6 * (14 * v + f) + c) i) w (fu W (6 * (14 * v + f) + c) x) v' f' := by
  have b2 := h.1
  refine ⟨?_, fun k h1 h2 => ?_⟩
  · rw [fu_ne hne]
    exact h.1
  · rw [fu_ne (by omega), fu_ne (by omega)]
    exact h.2 k h1 h2
theorem IFm_put {G G' : Nat → Int → Int} {B : Nat} {v : Int} (h : IFm G B) (hv : 0 ≤ v ∧ v ≤ 1) (hc : ∀ v' : Int, 0 ≤ v' → v' ≤ 1 → G' (B + 370 + 14 * v'.toNat) = G (B + 370 + 14 * v'.toNat)) (hm : G' (B + 544 + 2) = G (B + 544 + 2))
    (hF : ∀ f' : Int, 0 ≤ f' → f' < G (B + 370 + 14 * v.toNat) 1 → FR G' B (B + 370 + 14 * v.toNat) v f') (hO : ∀ v' f' : Int, 0 ≤ v' → v' ≤ 1 → ¬ v' = v → 0 ≤ f' → f' < G (B + 370 + 14 * v'.toNat) 1 → FR G' B (B + 370 + 14 * v'.toNat) v' f') : IFm G' B := by
  intro v' h1 h2
  obtain ⟨k1, k2, k3, _⟩ := h v' h1 h2
  refine ⟨by rw [hc v' h1 h2, hm]; exact k1, by rw [hc v' h1 h2]; exact k2, by rw [hc v' h1 h2]; exact k3, fun f' q1 q2 => ?_⟩
  rw [hc v' h1 h2] at q2
  by_cases e : v' = v
  · subst e
    exact hF f' q1 q2
  · exact hO v' f' h1 h2 e q1 q2
end
