section
theorem q_callI {z : Int32} {m0 : q_M} {P : Int32 → q_M → Prop} : (∃ K' : Option Value → q_M → Prop, K' (some (.int z)) m0 ∧ ∀ (r : Option Value) (μ' : q_M), K' r μ' → ∃ v, r = q_oi v ∧ P v μ') ↔ P z m0 :=
  ⟨fun ⟨K', h1, h2⟩ => by
    obtain ⟨v, e, hp⟩ := h2 _ _ h1
    cases e
    exact hp, fun h => ⟨fun r m => r = some (.int z) ∧ m = m0, ⟨rfl, rfl⟩, fun r m ⟨e1, e2⟩ => ⟨z, e1, by rw [e2]; exact h⟩⟩⟩
theorem q_callV {m0 : q_M} {P : q_M → Prop} : (∃ K' : Option Value → q_M → Prop, K' none m0 ∧ ∀ (r : Option Value) (μ' : q_M), K' r μ' → ∃ v, r = q_ov v ∧ P μ') ↔ P m0 :=
  ⟨fun ⟨K', h1, h2⟩ => by
    obtain ⟨v, e, hp⟩ := h2 _ _ h1
    exact hp, fun h => ⟨fun r m => r = none ∧ m = m0, ⟨rfl, rfl⟩, fun r m ⟨e1, e2⟩ => ⟨(), e1, by rw [e2]; exact h⟩⟩⟩
theorem q_bud0 (μ : q_M) : q_bud (μ.1.2.2.1 - 0) (μ.1.2.2.2 - 0) (q_bud 0 0 μ) = μ := rfl
theorem q_bok1 : q_bok 1 = True := by simp only [eq_iff_iff, iff_true]; exact ⟨rfl, rfl⟩
theorem q_bok0 : q_bok 0 = True := by simp only [eq_iff_iff, iff_true]; exact ⟨rfl, rfl⟩
def bi (p : Prop) [Decidable p] : Int32 := if p then 1 else 0
theorem h_within {a b c : Int32} {μ : q_M} {K : Option Value → q_M → Prop} : fX11_within [.int a, .int b, .int c] μ K ↔ K (some (.int (if b ≤ a ∧ a ≤ c then 1 else 0))) μ := by
  simp only [fX11_within, sX11_within_, q_mk, q_sq, q_if, q_te, q_cm, q_cz, q_an2, q_or2, q_no, q_ci, q_l, q_r, q_k, q_kl, q_il, q_2, q_2d, q_2c, q_1, q_cs, q_cv, q_ac, q_an, q_sri, q_srv, q_srr, q_nop, q_sset, q_sdec, q_sinc, q_spf, q_sof, q_sai, q_saz, q_soa, q_sx, q_blk, q_fi, q_fr, q_ai, q_az, q_ar, q_Req, q_Rne, q_Rlt, q_Rle, q_Rgt, q_Rge, q_giadd, q_gisub, q_gimul, List.getElem?_cons_zero, List.getElem?_cons_succ, List.length_cons, List.length_nil, List.set_cons_zero, List.set_cons_succ, List.cons_append, List.nil_append, List.take_succ_cons, List.take_zero, Option.some.injEq, Value.int.injEq, Value.ref.injEq, exists_eq_left, exists_eq_left', List.forall_mem_cons, List.not_mem_nil, Value.category, true_and, and_true, Nat.zero_le, forall_const, implies_true, Nat.zero_add, Nat.reduceAdd, Nat.reduceLT, Nat.reduceLeDiff, q_callI, q_callV, q_bud0, q_bok1, q_bok0]
  by_cases h1 : b ≤ a <;> by_cases h2 : a ≤ c <;> simp [h1, h2]
theorem h_isTelling {v : Int32} {μ : q_M} {K : Option Value → q_M → Prop} : fX11_isTelling [.int v] μ K ↔ K (some (.int (if 0 ≤ v ∧ v ≤ 1 then 1 else 0))) μ := by
  simp only [fX11_isTelling, sX11_isTelling_, q_mk, q_sq, q_if, q_te, q_cm, q_cz, q_an2, q_or2, q_no, q_ci, q_l, q_r, q_k, q_kl, q_il, q_2, q_2d, q_2c, q_1, q_cs, q_cv, q_ac, q_an, q_sri, q_srv, q_srr, q_nop, q_sset, q_sdec, q_sinc, q_spf, q_sof, q_sai, q_saz, q_soa, q_sx, q_blk, q_fi, q_fr, q_ai, q_az, q_ar, q_Req, q_Rne, q_Rlt, q_Rle, q_Rgt, q_Rge, q_giadd, q_gisub, q_gimul, List.getElem?_cons_zero, List.getElem?_cons_succ, List.length_cons, List.length_nil, List.set_cons_zero, List.set_cons_succ, List.cons_append, List.nil_append, List.take_succ_cons, List.take_zero, Option.some.injEq, Value.int.injEq, Value.ref.injEq, exists_eq_left, exists_eq_left', List.forall_mem_cons, List.not_mem_nil, Value.category, true_and, and_true, Nat.zero_le, forall_const, implies_true, Nat.zero_add, Nat.reduceAdd, Nat.reduceLT, Nat.reduceLeDiff, q_callI, q_callV, q_bud0, q_bok1, q_bok0, h_within]
  by_cases h1 : 0 ≤ v ∧ v ≤ 1 <;> simp [h1, q_bok1, q_bok0, q_bud0]
end
