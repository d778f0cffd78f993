section
/-! what the class holds and what the reference holds are the same -/
theorem hlL_len {G : Nat → Int → Int} {B a : Nat} {v : Int} (ct : CT G B a v) : (hlL G B a v).length ≤ 420 := by
  have kT := ct.2.2.2
  have n201 := kT.1.2.1
  have N40 := kT.1.2.2.2.1
  have L00 := kT.1.2.2.2.2.1
  have LN := kT.1.2.2.2.2.2.1
  have tN := ct.2.2.1
  unfold hlL
  rw [List.length_append]
  have lA := hlA_len ct (G a 3).toNat (by omega)
  have lC := hlC_len (G (a + 8)) (BTf G B a v (fun t => G (a + 1) (G (a + 8) t))) (G a 4).toNat
  omega
theorem hl_map {Gc G G' : Nat → Int → Int} {B a o : Nat} {v : Int} (ct : CT G B a v) (hm : HM Gc o (G a 2) ((hlL G B a v)).length (fun i => (lg (hlL G B a v) i).1) (fun i => (lg (hlL G B a v) i).2.1) (fun i => (lg (hlL G B a v) i).2.2.1)) (hl : HLr G' B ((hlL G B a v).map (rmE (G (a + 1)) (G (a + 6))))) :
    RHd G' B (hlL G B a v).length (fun i => (rmE (G (a + 1)) (G (a + 6)) (lg (hlL G B a v) i)).1) (fun i => (rmE (G (a + 1)) (G (a + 6)) (lg (hlL G B a v) i)).2.1) (fun i => (rmE (G (a + 1)) (G (a + 6)) (lg (hlL G B a v) i)).2.2.1) ∧ LGo G' B (hlL G B a v).length (fun _ => True) ∧ (∀ S, Flt (hlL G B a v).length (fun i => (lg (hlL G B a v) i).1) (fun i => (lg (hlL G B a v) i).2.1) (fun i => (lg (hlL G B a v) i).2.2.1) S ↔ Flt (hlL G B a v).length (fun i => (rmE (G (a + 1)) (G (a + 6)) (lg (hlL G B a v) i)).1) (fun i => (rmE (G (a + 1)) (G (a + 6)) (lg (hlL G B a v) i)).2.1) (fun i => (rmE (G (a + 1)) (G (a + 6)) (lg (hlL G B a v) i)).2.2.1) S) ∧ (∀ S p k, 0 ≤ p → p < G a 2 → (Kd (hlL G B a v).length (fun i => (lg (hlL G B a v) i).1) (fun i => (lg (hlL G B a v) i).2.1) (fun i => (lg (hlL G B a v) i).2.2.1) S p k ↔ Kd (hlL G B a v).length (fun i => (rmE (G (a + 1)) (G (a + 6)) (lg (hlL G B a v) i)).1) (fun i => (rmE (G (a + 1)) (G (a + 6)) (lg (hlL G B a v) i)).2.1) (fun i => (rmE (G (a + 1)) (G (a + 6)) (lg (hlL G B a v) i)).2.2.1) S (pn (G (a + 1)) (G (a + 6)) p) k)) ∧ ∀ i : Nat, i < (hlL G B a v).length → G' (B + 544 + 72) i = (lg (hlL G B a v) i).2.2.2 := by
  have kT := ct.2.2.2
  have len := hlL_len ct
  obtain ⟨l, el⟩ : ∃ l, l = (hlL G B a v) := ⟨_, rfl⟩
  rw [← el] at hm hl len ⊢
  obtain ⟨_, _, _, _, h5⟩ := hm
  have F14 := (ct.1 v ct.2.1.1 ct.2.1.2).2.2.1
  have nsb : ∀ f, 0 ≤ f → f < G (tvA B v) 1 → G (tvA B v + 5) f ≤ 5 := fun f f0 f1 => by
    obtain ⟨_, fi, fs, _⟩ := (ct.1 v ct.2.1.1 ct.2.1.2).2.2.2 f f0 f1
    have nb := nsl_b (fun k => G (tvA B v + 4) (5 * f + k)) (G (tvA B v + 3) f).toNat
    have fs1 : G (tvA B v + 5) f = nsl (fun k => G (tvA B v + 4) (5 * f + k)) (G (tvA B v + 3) f).toNat := fs.1
    have f3 : 1 ≤ G (tvA B v + 3) f ∧ G (tvA B v + 3) f ≤ 5 := fi.1.2
    omega
  have rg : ∀ i : Nat, i < l.length → (0 ≤ (lg l i).1 ∧ (lg l i).1 < G a 2) ∧ (-1 ≤ (lg l i).2.1 ∧ (lg l i).2.1 < G a 2) ∧ ((lg l i).2.1 = -1 → 0 ≤ (lg l i).2.2.1 ∧ (lg l i).2.2.1 ≤ 5) := fun i hi => by
    obtain ⟨⟨_, x1, x2⟩, ⟨_, y1, y2⟩, z⟩ := h5 i hi
    exact ⟨⟨x1, x2⟩, ⟨y1, y2⟩, fun w => (z w).2⟩
  have two' : ∀ x : Int × Int × Int × Int, x.2.1 = -1 → (rmE (G (a + 1)) (G (a + 6)) x).2.1 = -1 ∧ (rmE (G (a + 1)) (G (a + 6)) x).2.2.1 = x.2.2.1 := fun x hx => ⟨if_pos hx, if_pos hx⟩
  have two2' : ∀ x : Int × Int × Int × Int, ¬ x.2.1 = -1 → (rmE (G (a + 1)) (G (a + 6)) x).2.1 = pn (G (a + 1)) (G (a + 6)) x.2.1 := fun x hx => if_neg hx
  have h1 : ∀ i : Nat, i < l.length → (0 ≤ (lg l i).1 ∧ (lg l i).1 < G a 2) ∧ (rmE (G (a + 1)) (G (a + 6)) (lg l i)).1 = pn (G (a + 1)) (G (a + 6)) (lg l i).1 := fun i hi => ⟨(rg i hi).1, rfl⟩
  have h2 : ∀ i : Nat, i < l.length → (0 ≤ (lg l i).2.1 ↔ 0 ≤ (rmE (G (a + 1)) (G (a + 6)) (lg l i)).2.1) ∧ (0 ≤ (lg l i).2.1 → (0 ≤ (lg l i).2.1 ∧ (lg l i).2.1 < G a 2) ∧ (rmE (G (a + 1)) (G (a + 6)) (lg l i)).2.1 = pn (G (a + 1)) (G (a + 6)) (lg l i).2.1) := fun i hi => by
    obtain ⟨_, ⟨y1, y2⟩, _⟩ := rg i hi
    by_cases w : (lg l i).2.1 = -1
    · rw [(two' _ w).1, w]
      exact ⟨⟨fun z => by omega, fun z => by omega⟩, fun z => by omega⟩
    · have b := pn_b kT nsb (p := (lg l i).2.1) (by omega) y2
      rw [two2' _ w]
      exact ⟨⟨fun _ => b.1, fun _ => by omega⟩, fun z => ⟨⟨z, y2⟩, rfl⟩⟩
  have hk : ∀ i : Nat, i < l.length → (lg l i).2.1 < 0 → (rmE (G (a + 1)) (G (a + 6)) (lg l i)).2.2.1 = (lg l i).2.2.1 := fun i hi w => (two' _ (by have := (rg i hi).2.1; omega)).2
  have inj : ∀ p q, (0 ≤ p ∧ p < G a 2) → (0 ≤ q ∧ q < G a 2) → pn (G (a + 1)) (G (a + 6)) p = pn (G (a + 1)) (G (a + 6)) q → p = q := fun p q hp hq w => pn_inj kT hp hq w
  have rows : ∀ i : Nat, i < l.length → G' (B + 544 + 69) i = (rmE (G (a + 1)) (G (a + 6)) (lg l i)).1 ∧ G' (B + 544 + 70) i = (rmE (G (a + 1)) (G (a + 6)) (lg l i)).2.1 ∧ G' (B + 544 + 71) i = (rmE (G (a + 1)) (G (a + 6)) (lg l i)).2.2.1 ∧ G' (B + 544 + 72) i = (rmE (G (a + 1)) (G (a + 6)) (lg l i)).2.2.2 ∧ G' (B + 544 + 73) i = 0 := fun i hi => hl.2 i _ (by rw [List.getElem?_map, lg_some hi]; rfl)
  refine ⟨⟨by rw [hl.1, List.length_map], len, fun i hi => ?_⟩, fun i hi => Or.inl ⟨(rows i hi).2.2.2.2, trivial⟩, fun S => Flt_map (D := fun p => 0 ≤ p ∧ p < G a 2) h1 h2 hk inj, fun S p k p0 p1 => Kd_map (D := fun p => 0 ≤ p ∧ p < G a 2) h1 h2 hk inj ⟨p0, p1⟩, fun i hi => (rows i hi).2.2.2.1⟩
  obtain ⟨r1, r2, r3, _, _⟩ := rows i hi
  obtain ⟨⟨x1, x2⟩, ⟨y1, y2⟩, z⟩ := rg i hi
  refine ⟨⟨r1, pn_b kT nsb x1 x2⟩, ⟨r2, ?_⟩, fun w => ⟨r3, ?_⟩⟩
  · show -1 ≤ (rmE (G (a + 1)) (G (a + 6)) (lg l i)).2.1 ∧ (rmE (G (a + 1)) (G (a + 6)) (lg l i)).2.1 < 220
    by_cases w : (lg l i).2.1 = -1
    · rw [(two' _ w).1]
      omega
    · have b := pn_b kT nsb (p := (lg l i).2.1) (by omega) y2
      rw [two2' _ w]
      omega
  · have w : (rmE (G (a + 1)) (G (a + 6)) (lg l i)).2.1 = -1 := w
    have w2 : (lg l i).2.1 = -1 := by
      by_cases q : (lg l i).2.1 = -1
      · exact q
      · have b := pn_b kT nsb (p := (lg l i).2.1) (by omega) y2
        rw [two2' _ q] at w
        omega
    show 0 ≤ (rmE (G (a + 1)) (G (a + 6)) (lg l i)).2.2.1 ∧ (rmE (G (a + 1)) (G (a + 6)) (lg l i)).2.2.1 ≤ 5
    rw [(two' _ w2).2]
    exact z w2
/-- the reference's way to read a set of kinds -/
def rkl (m : Nat) : Nat → Int
  | 0 => -1
  | k + 1 => if m / 2 ^ k = 1 then (k : Int) else rkl m k
theorem shr_val : ∀ (m : Fin 64) (k : Fin 6), q_gishr (zI (m.val : Int)) (zI (k.val : Int)) = zI ((m.val / 2 ^ k.val : Nat) : Int) := by decide +kernel
theorem rkl_val : ∀ m : Fin 64, (if m.val = 0 then -1 else if ¬ tq m.val = 0 then 9 else rkl m.val 6) = (if 2 ≤ pop m.val then 9 else kfn m.val) := by decide +kernel
theorem rkl_b (m k : Nat) (hk : k ≤ 6) : -1 ≤ rkl m k ∧ rkl m k < 6 := by
  induction k with
  | zero => exact ⟨Int.le_refl _, by show (-1 : Int) < 6; omega⟩
  | succ k ih =>
    have := ih (by omega)
    rw [rkl]
    split <;> omega
theorem w12_kind {T : Nat → Option q_T} {nx B m : Nat} {R : Nat → Nat → Option Value} {G : Nat → Int → Int} {i k b f : Int} (m64 : m < 64) : ∀ (Kn : List Value → q_M → Prop) (Kr : Option Value → q_M → Prop), wX12_kind_0 [.ref (B + 544), .int (zI i), .int (zI k), .int (zI b), .int (zI f), .int (zI m), .int (zI (-1)), .int (zI 0)] (st T nx 0 0 R G) Kn Kr = Kn [.ref (B + 544), .int (zI i), .int (zI k), .int (zI b), .int (zI f), .int (zI m), .int (zI (rkl m 6)), .int (zI 6)] (st T nx 0 0 R G) := by
  exact q_for eX12_kind_0 (fun _ _ => lX12_kind_0) (fun j => [.ref (B + 544), .int (zI i), .int (zI k), .int (zI b), .int (zI f), .int (zI m), .int (zI (rkl m j)), .int (zI j)]) (fun _ => st T nx 0 0 R G) 6 (fun j hj Kn Kf h => by
    have hz : (j : Int) < 6 := by omega
    have rb := rkl_b m j (by omega)
    have sh := shr_val ⟨m, m64⟩ ⟨j, hj⟩
    obtain ⟨y, hy⟩ : ∃ y, y = m / 2 ^ j := ⟨_, rfl⟩
    have sh : q_gishr (zI (m : Int)) (zI (j : Int)) = zI (y : Int) := by rw [hy]; exact sh
    have yb : y < 64 := by
      rw [hy]
      exact Nat.lt_of_le_of_lt (Nat.div_le_self _ _) m64
    have kk : ∀ (μ : q_M) (K : Int32 → q_M → Prop), opK (q_gishr (zI (m : Int)) (zI (j : Int))) μ K = K (zI y) μ := fun μ K => by
      rw [sh]
      rfl
    by_cases g : y = 1
    · have e2 : rkl m (j + 1) = j := by rw [rkl, ← hy, if_pos g]
      simp only [e2] at h
      have g' : (y : Int) = 1 := by omega
      simp (disch := omega) only [↓wcX12_kind_0.eq_1, ↓wsX12_kind_0.eq_1, ↓k_mk, ↓k_sq, ↓k_sk, ↓k_bk, ↓k_if, ↓k_te, ↓k_cm, ↓k_cz, ↓k_an2, ↓k_or2, ↓k_no, ↓k_ci, ↓k_l0, ↓k_r0, ↓k_se0, ↓k_ic0, ↓k_l1, ↓k_r1, ↓k_se1, ↓k_ic1, ↓k_de1, ↓k_tk1, ↓k_l2, ↓k_r2, ↓k_se2, ↓k_ic2, ↓k_de2, ↓k_tk2, ↓k_l3, ↓k_r3, ↓k_se3, ↓k_ic3, ↓k_de3, ↓k_tk3, ↓k_l4, ↓k_r4, ↓k_se4, ↓k_ic4, ↓k_de4, ↓k_tk4, ↓k_l5, ↓k_r5, ↓k_se5, ↓k_ic5, ↓k_de5, ↓k_tk5, ↓k_l6, ↓k_r6, ↓k_se6, ↓k_ic6, ↓k_de6, ↓k_tk6, ↓k_l7, ↓k_r7, ↓k_se7, ↓k_ic7, ↓k_de7, ↓k_tk7, ↓k_l8, ↓k_r8, ↓k_se8, ↓k_ic8, ↓k_de8, ↓k_tk8, ↓k_l9, ↓k_r9, ↓k_se9, ↓k_ic9, ↓k_de9, ↓k_tk9, ↓k_l10, ↓k_r10, ↓k_se10, ↓k_ic10, ↓k_de10, ↓k_tk10, ↓k_l11, ↓k_r11, ↓k_se11, ↓k_ic11, ↓k_de11, ↓k_tk11, ↓k_l12, ↓k_r12, ↓k_se12, ↓k_ic12, ↓k_de12, ↓k_tk12, ↓k_l13, ↓k_r13, ↓k_se13, ↓k_ic13, ↓k_de13, ↓k_tk13, ↓k_l14, ↓k_r14, ↓k_se14, ↓k_ic14, ↓k_de14, ↓k_tk14, ↓k_l15, ↓k_r15, ↓k_se15, ↓k_ic15, ↓k_de15, ↓k_tk15, ↓k_l16, ↓k_r16, ↓k_se16, ↓k_ic16, ↓k_de16, ↓k_tk16, ↓k_l17, ↓k_r17, ↓k_se17, ↓k_ic17, ↓k_de17, ↓k_tk17, ↓k_l18, ↓k_r18, ↓k_se18, ↓k_ic18, ↓k_de18, ↓k_tk18, ↓k_l19, ↓k_r19, ↓k_se19, ↓k_ic19, ↓k_de19, ↓k_tk19, ↓k_l20, ↓k_r20, ↓k_se20, ↓k_ic20, ↓k_de20, ↓k_tk20, ↓k_l21, ↓k_r21, ↓k_se21, ↓k_ic21, ↓k_de21, ↓k_tk21, ↓k_l22, ↓k_r22, ↓k_se22, ↓k_ic22, ↓k_de22, ↓k_tk22, ↓k_l23, ↓k_r23, ↓k_se23, ↓k_ic23, ↓k_de23, ↓k_tk23, ↓k_l24, ↓k_r24, ↓k_se24, ↓k_ic24, ↓k_de24, ↓k_tk24, ↓k_l25, ↓k_r25, ↓k_se25, ↓k_ic25, ↓k_de25, ↓k_tk25, ↓k_k, ↓k_kn, ↓k_kl, ↓k_kln, ↓k_il, ↓k_2, ↓k_1, ↓k_2c, ↓k_2l, ↓k_ac, ↓k_an, ↓k_cs, ↓k_cv, ↓k_fi, ↓k_fr, ↓k_ai, ↓k_az, ↓k_ar, ↓k_sai, ↓k_saz, ↓k_soa, ↓k_sof, ↓k_spf, ↓k_sx, ↓k_blk, ↓k_sset, ↓k_sdec, ↓k_sri, ↓k_srv, ↓k_srr, ↓k_nop, ↓k_add, ↓k_sub, ↓k_mul, ↓k_min, ↓k_max, ↓k_shr, ↓k_shl, ↓k_or, ↓k_ilz, ↓k_addl, ↓k_rt, ↓k_rb, ↓k_rbz, ↓k_rsi, ↓k_rsr, ↓k_rsv, ↓reduceIte, hz, ↓kk, g', List.length_cons, List.length_nil, List.forall_mem_cons, List.not_mem_nil, Value.category, true_and, and_true, false_and, and_false, or_true, true_or, or_false, false_or, Nat.zero_le, forall_const, implies_true, false_implies, Nat.zero_add, Nat.reduceAdd, Nat.reduceLT, Nat.reduceLeDiff, Nat.le_refl, not_true_eq_false, not_false_eq_true, r_eq, r_ne, r_lt, r_ge, r_gt, r_le, bz_ne, nn_toNat, cn_of, cn_0, cn_1, i10, Int.reduceLE, Int.reduceLT, Int.reduceEq, bz_T, bz_F, ite_self, mulc, st_bud]
      exact h
    · have e2 : rkl m (j + 1) = rkl m j := by rw [rkl, ← hy, if_neg g]
      simp only [e2] at h
      obtain ⟨z, hzz⟩ : ∃ z, z = rkl m j := ⟨_, rfl⟩
      rw [← hzz] at rb h ⊢
      have g' : ¬ (y : Int) = 1 := by omega
      simp (disch := omega) only [↓wcX12_kind_0.eq_1, ↓wsX12_kind_0.eq_1, ↓k_mk, ↓k_sq, ↓k_sk, ↓k_bk, ↓k_if, ↓k_te, ↓k_cm, ↓k_cz, ↓k_an2, ↓k_or2, ↓k_no, ↓k_ci, ↓k_l0, ↓k_r0, ↓k_se0, ↓k_ic0, ↓k_l1, ↓k_r1, ↓k_se1, ↓k_ic1, ↓k_de1, ↓k_tk1, ↓k_l2, ↓k_r2, ↓k_se2, ↓k_ic2, ↓k_de2, ↓k_tk2, ↓k_l3, ↓k_r3, ↓k_se3, ↓k_ic3, ↓k_de3, ↓k_tk3, ↓k_l4, ↓k_r4, ↓k_se4, ↓k_ic4, ↓k_de4, ↓k_tk4, ↓k_l5, ↓k_r5, ↓k_se5, ↓k_ic5, ↓k_de5, ↓k_tk5, ↓k_l6, ↓k_r6, ↓k_se6, ↓k_ic6, ↓k_de6, ↓k_tk6, ↓k_l7, ↓k_r7, ↓k_se7, ↓k_ic7, ↓k_de7, ↓k_tk7, ↓k_l8, ↓k_r8, ↓k_se8, ↓k_ic8, ↓k_de8, ↓k_tk8, ↓k_l9, ↓k_r9, ↓k_se9, ↓k_ic9, ↓k_de9, ↓k_tk9, ↓k_l10, ↓k_r10, ↓k_se10, ↓k_ic10, ↓k_de10, ↓k_tk10, ↓k_l11, ↓k_r11, ↓k_se11, ↓k_ic11, ↓k_de11, ↓k_tk11, ↓k_l12, ↓k_r12, ↓k_se12, ↓k_ic12, ↓k_de12, ↓k_tk12, ↓k_l13, ↓k_r13, ↓k_se13, ↓k_ic13, ↓k_de13, ↓k_tk13, ↓k_l14, ↓k_r14, ↓k_se14, ↓k_ic14, ↓k_de14, ↓k_tk14, ↓k_l15, ↓k_r15, ↓k_se15, ↓k_ic15, ↓k_de15, ↓k_tk15, ↓k_l16, ↓k_r16, ↓k_se16, ↓k_ic16, ↓k_de16, ↓k_tk16, ↓k_l17, ↓k_r17, ↓k_se17, ↓k_ic17, ↓k_de17, ↓k_tk17, ↓k_l18, ↓k_r18, ↓k_se18, ↓k_ic18, ↓k_de18, ↓k_tk18, ↓k_l19, ↓k_r19, ↓k_se19, ↓k_ic19, ↓k_de19, ↓k_tk19, ↓k_l20, ↓k_r20, ↓k_se20, ↓k_ic20, ↓k_de20, ↓k_tk20, ↓k_l21, ↓k_r21, ↓k_se21, ↓k_ic21, ↓k_de21, ↓k_tk21, ↓k_l22, ↓k_r22, ↓k_se22, ↓k_ic22, ↓k_de22, ↓k_tk22, ↓k_l23, ↓k_r23, ↓k_se23, ↓k_ic23, ↓k_de23, ↓k_tk23, ↓k_l24, ↓k_r24, ↓k_se24, ↓k_ic24, ↓k_de24, ↓k_tk24, ↓k_l25, ↓k_r25, ↓k_se25, ↓k_ic25, ↓k_de25, ↓k_tk25, ↓k_k, ↓k_kn, ↓k_kl, ↓k_kln, ↓k_il, ↓k_2, ↓k_1, ↓k_2c, ↓k_2l, ↓k_ac, ↓k_an, ↓k_cs, ↓k_cv, ↓k_fi, ↓k_fr, ↓k_ai, ↓k_az, ↓k_ar, ↓k_sai, ↓k_saz, ↓k_soa, ↓k_sof, ↓k_spf, ↓k_sx, ↓k_blk, ↓k_sset, ↓k_sdec, ↓k_sri, ↓k_srv, ↓k_srr, ↓k_nop, ↓k_add, ↓k_sub, ↓k_mul, ↓k_min, ↓k_max, ↓k_shr, ↓k_shl, ↓k_or, ↓k_ilz, ↓k_addl, ↓k_rt, ↓k_rb, ↓k_rbz, ↓k_rsi, ↓k_rsr, ↓k_rsv, ↓reduceIte, hz, ↓kk, g', List.length_cons, List.length_nil, List.forall_mem_cons, List.not_mem_nil, Value.category, true_and, and_true, false_and, and_false, or_true, true_or, or_false, false_or, Nat.zero_le, forall_const, implies_true, false_implies, Nat.zero_add, Nat.reduceAdd, Nat.reduceLT, Nat.reduceLeDiff, Nat.le_refl, not_true_eq_false, not_false_eq_true, r_eq, r_ne, r_lt, r_ge, r_gt, r_le, bz_ne, nn_toNat, cn_of, cn_0, cn_1, i10, Int.reduceLE, Int.reduceLT, Int.reduceEq, bz_T, bz_F, ite_self, mulc, st_bud]
      exact h) (fun Kt Kf h => by
    have rb := rkl_b m 6 (by omega)
    simp (disch := omega) only [↓wcX12_kind_0.eq_1, ↓k_mk, ↓k_sq, ↓k_sk, ↓k_bk, ↓k_if, ↓k_te, ↓k_cm, ↓k_cz, ↓k_an2, ↓k_or2, ↓k_no, ↓k_ci, ↓k_l0, ↓k_r0, ↓k_se0, ↓k_ic0, ↓k_l1, ↓k_r1, ↓k_se1, ↓k_ic1, ↓k_de1, ↓k_tk1, ↓k_l2, ↓k_r2, ↓k_se2, ↓k_ic2, ↓k_de2, ↓k_tk2, ↓k_l3, ↓k_r3, ↓k_se3, ↓k_ic3, ↓k_de3, ↓k_tk3, ↓k_l4, ↓k_r4, ↓k_se4, ↓k_ic4, ↓k_de4, ↓k_tk4, ↓k_l5, ↓k_r5, ↓k_se5, ↓k_ic5, ↓k_de5, ↓k_tk5, ↓k_l6, ↓k_r6, ↓k_se6, ↓k_ic6, ↓k_de6, ↓k_tk6, ↓k_l7, ↓k_r7, ↓k_se7, ↓k_ic7, ↓k_de7, ↓k_tk7, ↓k_l8, ↓k_r8, ↓k_se8, ↓k_ic8, ↓k_de8, ↓k_tk8, ↓k_l9, ↓k_r9, ↓k_se9, ↓k_ic9, ↓k_de9, ↓k_tk9, ↓k_l10, ↓k_r10, ↓k_se10, ↓k_ic10, ↓k_de10, ↓k_tk10, ↓k_l11, ↓k_r11, ↓k_se11, ↓k_ic11, ↓k_de11, ↓k_tk11, ↓k_l12, ↓k_r12, ↓k_se12, ↓k_ic12, ↓k_de12, ↓k_tk12, ↓k_l13, ↓k_r13, ↓k_se13, ↓k_ic13, ↓k_de13, ↓k_tk13, ↓k_l14, ↓k_r14, ↓k_se14, ↓k_ic14, ↓k_de14, ↓k_tk14, ↓k_l15, ↓k_r15, ↓k_se15, ↓k_ic15, ↓k_de15, ↓k_tk15, ↓k_l16, ↓k_r16, ↓k_se16, ↓k_ic16, ↓k_de16, ↓k_tk16, ↓k_l17, ↓k_r17, ↓k_se17, ↓k_ic17, ↓k_de17, ↓k_tk17, ↓k_l18, ↓k_r18, ↓k_se18, ↓k_ic18, ↓k_de18, ↓k_tk18, ↓k_l19, ↓k_r19, ↓k_se19, ↓k_ic19, ↓k_de19, ↓k_tk19, ↓k_l20, ↓k_r20, ↓k_se20, ↓k_ic20, ↓k_de20, ↓k_tk20, ↓k_l21, ↓k_r21, ↓k_se21, ↓k_ic21, ↓k_de21, ↓k_tk21, ↓k_l22, ↓k_r22, ↓k_se22, ↓k_ic22, ↓k_de22, ↓k_tk22, ↓k_l23, ↓k_r23, ↓k_se23, ↓k_ic23, ↓k_de23, ↓k_tk23, ↓k_l24, ↓k_r24, ↓k_se24, ↓k_ic24, ↓k_de24, ↓k_tk24, ↓k_l25, ↓k_r25, ↓k_se25, ↓k_ic25, ↓k_de25, ↓k_tk25, ↓k_k, ↓k_kn, ↓k_kl, ↓k_kln, ↓k_il, ↓k_2, ↓k_1, ↓k_2c, ↓k_2l, ↓k_ac, ↓k_an, ↓k_cs, ↓k_cv, ↓k_fi, ↓k_fr, ↓k_ai, ↓k_az, ↓k_ar, ↓k_sai, ↓k_saz, ↓k_soa, ↓k_sof, ↓k_spf, ↓k_sx, ↓k_blk, ↓k_sset, ↓k_sdec, ↓k_sri, ↓k_srv, ↓k_srr, ↓k_nop, ↓k_add, ↓k_sub, ↓k_mul, ↓k_min, ↓k_max, ↓k_shr, ↓k_shl, ↓k_or, ↓k_ilz, ↓k_addl, ↓k_rt, ↓k_rb, ↓k_rbz, ↓k_rsi, ↓k_rsr, ↓k_rsv, ↓reduceIte, List.length_cons, List.length_nil, List.forall_mem_cons, List.not_mem_nil, Value.category, true_and, and_true, false_and, and_false, or_true, true_or, or_false, false_or, Nat.zero_le, forall_const, implies_true, false_implies, Nat.zero_add, Nat.reduceAdd, Nat.reduceLT, Nat.reduceLeDiff, Nat.le_refl, not_true_eq_false, not_false_eq_true, r_eq, r_ne, r_lt, r_ge, r_gt, r_le, bz_ne, nn_toNat, cn_of, cn_0, cn_1, i10, Int.reduceLE, Int.reduceLT, Int.reduceEq, bz_T, bz_F, ite_self, mulc, st_bud]
    exact h)
end
