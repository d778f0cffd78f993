section
/-! bits in numbers -/
theorem opK_any (x : Int32) (μ : q_M) (K : Int32 → q_M → Prop) : opK x μ K = K x μ := propext ⟨id, id⟩
def pop (m : Nat) : Int := (if m.testBit 0 then 1 else 0) + (if m.testBit 1 then 1 else 0) + (if m.testBit 2 then 1 else 0) + (if m.testBit 3 then 1 else 0) + (if m.testBit 4 then 1 else 0) + (if m.testBit 5 then 1 else 0) + (if m.testBit 6 then 1 else 0) + (if m.testBit 7 then 1 else 0)
def bc1 (x : Int32) : Int32 := q_gisub x (q_giand (q_giushr x (zI 1)) (zI 1431655765))
def bc2 (x : Int32) : Int32 := q_giadd (q_giand x (zI 858993459)) (q_giand (q_giushr x (zI 2)) (zI 858993459))
def bc3 (x : Int32) : Int32 := q_giand (q_giadd x (q_giushr x (zI 4))) (zI 252645135)
def bc4 (x : Int32) : Int32 := q_giadd x (q_giushr x (zI 8))
def bc5 (x : Int32) : Int32 := q_giadd x (q_giushr x (zI 16))
def bc6 (x : Int32) : Int32 := q_giand x (zI 63)
theorem bs1 (x : Int32) (μ : q_M) (Kn : List Value → q_M → Prop) (Kr : Option Value → q_M → Prop) : q_sset Value.int 0 (q_2 q_gisub (q_l 0) (q_2 q_giand (q_2 q_giushr (q_l 0) (q_k 1)) (q_k 1431655765))) [.int x] μ Kn Kr = Kn [.int (bc1 x)] μ := by
  rw [k_sset]; simp only [k_2, k_l0, k_k, opK_any, k_se0]
  rfl
theorem bs2 (x : Int32) (μ : q_M) (Kn : List Value → q_M → Prop) (Kr : Option Value → q_M → Prop) : q_sset Value.int 0 (q_2 q_giadd (q_2 q_giand (q_l 0) (q_k 858993459)) (q_2 q_giand (q_2 q_giushr (q_l 0) (q_k 2)) (q_k 858993459))) [.int x] μ Kn Kr = Kn [.int (bc2 x)] μ := by
  rw [k_sset]; simp only [k_2, k_l0, k_k, opK_any, k_se0]
  rfl
theorem bs3 (x : Int32) (μ : q_M) (Kn : List Value → q_M → Prop) (Kr : Option Value → q_M → Prop) : q_sset Value.int 0 (q_2 q_giand (q_2 q_giadd (q_l 0) (q_2 q_giushr (q_l 0) (q_k 4))) (q_k 252645135)) [.int x] μ Kn Kr = Kn [.int (bc3 x)] μ := by
  rw [k_sset]; simp only [k_2, k_l0, k_k, opK_any, k_se0]
  rfl
theorem bs4 (x : Int32) (μ : q_M) (Kn : List Value → q_M → Prop) (Kr : Option Value → q_M → Prop) : q_sset Value.int 0 (q_2 q_giadd (q_l 0) (q_2 q_giushr (q_l 0) (q_k 8))) [.int x] μ Kn Kr = Kn [.int (bc4 x)] μ := by
  rw [k_sset]; simp only [k_2, k_l0, k_k, opK_any, k_se0]
  rfl
theorem bs5 (x : Int32) (μ : q_M) (Kn : List Value → q_M → Prop) (Kr : Option Value → q_M → Prop) : q_sset Value.int 0 (q_2 q_giadd (q_l 0) (q_2 q_giushr (q_l 0) (q_k 16))) [.int x] μ Kn Kr = Kn [.int (bc5 x)] μ := by
  rw [k_sset]; simp only [k_2, k_l0, k_k, opK_any, k_se0]
  rfl
theorem bs6 (x : Int32) (μ : q_M) (Kn : List Value → q_M → Prop) (Kr : Option Value → q_M → Prop) : q_sri (fun _ => True) (q_2 q_giand (q_l 0) (q_k 63)) [.int x] μ Kn Kr = Kr (some (.int (bc6 x))) μ := by
  rw [k_sri]
  simp only [k_2, k_l0, k_k, opK_any, k_rt]
  rfl
theorem bc_val : ∀ m : Fin 256, bc6 (bc5 (bc4 (bc3 (bc2 (bc1 (zI (m.val : Int))))))) = zI (pop m.val) := by decide +kernel
theorem cJ_bits {m : Nat} {μ : q_M} {K : Option Value → q_M → Prop} (hm : m < 256) : fJ6_bitCount_0f7a4 [.int (zI (m : Int))] μ K = K (some (.int (zI (pop m)))) μ := by
  rw [← bc_val ⟨m, hm⟩]
  simp only [fJ6_bitCount_0f7a4.eq_1, sJ6_bitCount_0f7a4_.eq_1, k_mk, k_sq, k_sk, bs1, bs2, bs3, bs4, bs5, bs6, List.forall_mem_cons, List.not_mem_nil, Value.category, List.length_cons, List.length_nil, false_implies, implies_true, and_true, true_and, Nat.zero_add, Nat.le_refl, if_true]
theorem pop_2 : ∀ m : Fin 64, (2 ≤ pop m.val ↔ ∃ k k' : Fin 6, ¬ k = k' ∧ m.val.testBit k.val = true ∧ m.val.testBit k'.val = true) := by decide +kernel
theorem gor {a b : Nat} (ha : a < 256) (hb : b < 256) : q_gior (zI (a : Int)) (zI (b : Int)) = zI ((a ||| b : Nat) : Int) := by
  apply Int32.toBitVec_inj.mp
  apply BitVec.eq_of_toNat_eq
  show (BitVec.ofInt 32 (a : Int) ||| BitVec.ofInt 32 (b : Int)).toNat = (BitVec.ofInt 32 ((a ||| b : Nat) : Int)).toNat
  have hab : a ||| b < 2 ^ 8 := Nat.or_lt_two_pow ha hb
  rw [BitVec.toNat_or, BitVec.toNat_ofInt, BitVec.toNat_ofInt, BitVec.toNat_ofInt]
  rw [show (((a : Int)) % ((2 ^ 32 : Nat) : Int)).toNat = a by omega, show (((b : Int)) % ((2 ^ 32 : Nat) : Int)).toNat = b by omega, show ((((a ||| b : Nat) : Int)) % ((2 ^ 32 : Nat) : Int)).toNat = a ||| b by omega]
theorem gshl : ∀ k : Fin 8, q_gishl (zI 1) (zI (k.val : Int)) = zI ((2 ^ k.val : Nat) : Int) := by decide +kernel
theorem ao_any {T : Nat → Option q_T} {nx rc rs : Nat} {R : Nat → Nat → Option Value} {G : Nat → Int → Int} {a : Nat} {env : List Value} {Kn : List Value → q_M → Prop} {n : Nat} {z v : Int} (hT : T a = some (.inr (.inl (.int, n)))) (hw : ∀ j, rN R a j = R) (hn : n ≤ 65536) (h0 : 0 ≤ z) (h1 : z < n) : ao2K a n (zI z) (zI v) env (st T nx rc rs R G) Kn = Kn env (st T nx rc rs R (gs G a z v)) := by
  have hm := st_setz (T := T) (nx := nx) (rc := rc) (rs := rs) (G := G) (z := z) (v := v) hw h0 (by omega)
  refine propext ⟨fun ⟨_, k2⟩ => ?_, fun k2 => ⟨hT, by rw [hm]; exact k2⟩⟩
  rw [hm] at k2
  exact k2
end
section
/-! the class judges: o is the judge -/
/-- a set of kinds as a number -/
def KB (x : Int) (P : Int → Prop) : Prop := ∃ m : Nat, x = m ∧ m < 64 ∧ ∀ k : Nat, k < 6 → (m.testBit k = true ↔ P k)
/-- what is held, told at o -/
def HM (G : Nat → Int → Int) (o : Nat) (n : Int) (H : Nat) (one two kd : Nat → Int) : Prop := G o 1 = H ∧ G o 2 = n ∧ (0 ≤ n ∧ n ≤ 201) ∧ H ≤ 441 ∧ ∀ i : Nat, i < H → (G (o + 1) i = one i ∧ 0 ≤ one i ∧ one i < n) ∧ (G (o + 2) i = two i ∧ -1 ≤ two i ∧ two i < n) ∧ (two i = -1 → G (o + 3) i = kd i ∧ 0 ≤ kd i ∧ kd i ≤ 5)
/-- heads and kinds when those of S are held -/
def JS (G : Nat → Int → Int) (o : Nat) (n : Int) (H : Nat) (one two kd : Nat → Int) (S : Nat → Prop) : Prop := ∃ (ρ : Int → Int) (dp : Int → Nat), UF n (G (o + 6)) ρ dp ∧ (∀ p q, 0 ≤ p → p < n → 0 ≤ q → q < n → (ρ p = ρ q ↔ Cl H one two S p q)) ∧ ∀ p, 0 ≤ p → p < n → KB (G (o + 7) (ρ p)) (fun k => Kd H one two kd S p k)
theorem c2_headOf {T : Nat → Option q_T} {nx rc rs o : Nat} {R : Nat → Nat → Option Value} {G : Nat → Int → Int} {n p : Int} {ρ : Int → Int} {dp : Int → Nat} {K : Option Value → q_M → Prop} (ho : Ly T R o (L2 o)) (u : UF n (G (o + 6)) ρ dp) (n1 : n ≤ 201) (p0 : 0 ≤ p) (p1 : p < n) :
    fX2_headOf [.ref o, .int (zI p)] (st T nx rc rs R G) K = K (some (.int (zI (ρ p)))) (st T nx rc rs R G) := by
  have db := UF_b u p0 p1
  have w : ∀ (Kn : List Value → q_M → Prop) (Kr : Option Value → q_M → Prop), wX2_headOf_0 [.ref o, .int (zI p), .int (zI p), .int (zI 0)] (st T nx rc rs R G) Kn Kr = Kn [.ref o, .int (zI p), .int (zI (ρ p)), .int (zI (dp p))] (st T nx rc rs R G) := by
    have f := q_for eX2_headOf_0 (fun _ _ => lX2_headOf_0) (fun k => [.ref o, .int (zI p), .int (zI (abv (G (o + 6)) k p)), .int (zI k)]) (fun _ => st T nx rc rs R G) (dp p) (fun k hk Kn Kf h => by
      obtain ⟨a1, a2, a3⟩ := UF_abv u p0 p1 k (by omega)
      have hz : (k : Int) < 201 := by omega
      obtain ⟨b1, _, _, b4⟩ := u _ a1.1 a1.2
      obtain ⟨c1, _⟩ := b4 (by omega)
      have e1 : abv (G (o + 6)) (k + 1) p = G (o + 6) (abv (G (o + 6)) k p) := rfl
      rw [e1] at h
      obtain ⟨x, hx⟩ : ∃ x, x = abv (G (o + 6)) k p := ⟨_, rfl⟩
      obtain ⟨y, hy⟩ : ∃ y, y = G (o + 6) x := ⟨_, rfl⟩
      rw [← hx, ← hy] at h b1 c1
      rw [← hx] at a1
      show wcX2_headOf_0 [.ref o, .int (zI p), .int (zI (abv (G (o + 6)) k p)), .int (zI k)] _ (fun μ' => wsX2_headOf_0 [.ref o, .int (zI p), .int (zI (abv (G (o + 6)) k p)), .int (zI k)] μ' Kn _) Kf
      rw [← hx]
      have hy' := hy.symm
      simp (disch := omega) only [↓wcX2_headOf_0.eq_1, ↓wsX2_headOf_0.eq_1, ↓k_mk, ↓k_sq, ↓k_sk, ↓k_bk, ↓k_if, ↓k_te, ↓k_cm, ↓k_cz, ↓k_an2, ↓k_or2, ↓k_no, ↓k_ci, ↓k_l0, ↓k_r0, ↓k_se0, ↓k_ic0, ↓k_l1, ↓k_r1, ↓k_se1, ↓k_ic1, ↓k_de1, ↓k_tk1, ↓k_l2, ↓k_r2, ↓k_se2, ↓k_ic2, ↓k_de2, ↓k_tk2, ↓k_l3, ↓k_r3, ↓k_se3, ↓k_ic3, ↓k_de3, ↓k_tk3, ↓k_l4, ↓k_r4, ↓k_se4, ↓k_ic4, ↓k_de4, ↓k_tk4, ↓k_l5, ↓k_r5, ↓k_se5, ↓k_ic5, ↓k_de5, ↓k_tk5, ↓k_l6, ↓k_r6, ↓k_se6, ↓k_ic6, ↓k_de6, ↓k_tk6, ↓k_l7, ↓k_r7, ↓k_se7, ↓k_ic7, ↓k_de7, ↓k_tk7, ↓k_l8, ↓k_r8, ↓k_se8, ↓k_ic8, ↓k_de8, ↓k_tk8, ↓k_l9, ↓k_r9, ↓k_se9, ↓k_ic9, ↓k_de9, ↓k_tk9, ↓k_l10, ↓k_r10, ↓k_se10, ↓k_ic10, ↓k_de10, ↓k_tk10, ↓k_l11, ↓k_r11, ↓k_se11, ↓k_ic11, ↓k_de11, ↓k_tk11, ↓k_l12, ↓k_r12, ↓k_se12, ↓k_ic12, ↓k_de12, ↓k_tk12, ↓k_l13, ↓k_r13, ↓k_se13, ↓k_ic13, ↓k_de13, ↓k_tk13, ↓k_l14, ↓k_r14, ↓k_se14, ↓k_ic14, ↓k_de14, ↓k_tk14, ↓k_l15, ↓k_r15, ↓k_se15, ↓k_ic15, ↓k_de15, ↓k_tk15, ↓k_l16, ↓k_r16, ↓k_se16, ↓k_ic16, ↓k_de16, ↓k_tk16, ↓k_l17, ↓k_r17, ↓k_se17, ↓k_ic17, ↓k_de17, ↓k_tk17, ↓k_l18, ↓k_r18, ↓k_se18, ↓k_ic18, ↓k_de18, ↓k_tk18, ↓k_l19, ↓k_r19, ↓k_se19, ↓k_ic19, ↓k_de19, ↓k_tk19, ↓k_l20, ↓k_r20, ↓k_se20, ↓k_ic20, ↓k_de20, ↓k_tk20, ↓k_l21, ↓k_r21, ↓k_se21, ↓k_ic21, ↓k_de21, ↓k_tk21, ↓k_l22, ↓k_r22, ↓k_se22, ↓k_ic22, ↓k_de22, ↓k_tk22, ↓k_l23, ↓k_r23, ↓k_se23, ↓k_ic23, ↓k_de23, ↓k_tk23, ↓k_l24, ↓k_r24, ↓k_se24, ↓k_ic24, ↓k_de24, ↓k_tk24, ↓k_l25, ↓k_r25, ↓k_se25, ↓k_ic25, ↓k_de25, ↓k_tk25, ↓k_k, ↓k_kn, ↓k_kl, ↓k_kln, ↓k_il, ↓k_2, ↓k_1, ↓k_2c, ↓k_2l, ↓k_ac, ↓k_an, ↓k_cs, ↓k_cv, ↓k_fi, ↓k_fr, ↓k_ai, ↓k_az, ↓k_ar, ↓k_sai, ↓k_saz, ↓k_soa, ↓k_sof, ↓k_spf, ↓k_sx, ↓k_blk, ↓k_sset, ↓k_sdec, ↓k_sri, ↓k_srv, ↓k_srr, ↓k_nop, ↓k_add, ↓k_sub, ↓k_mul, ↓k_min, ↓k_max, ↓k_shr, ↓k_shl, ↓k_or, ↓k_ilz, ↓k_addl, ↓k_rt, ↓k_rb, ↓k_rbz, ↓k_rsi, ↓k_rsr, ↓k_rsv, ↓reduceIte, hz, hy', c1, ↓xr2_8 ho, ↓xa2_8 ho, ↓xs2_8 ho, ↓xo2_8 ho, ↓xc2_8 ho, ↓xd2_8 ho, List.length_cons, List.length_nil, List.forall_mem_cons, List.not_mem_nil, Value.category, true_and, and_true, false_and, and_false, or_true, true_or, or_false, false_or, Nat.zero_le, forall_const, implies_true, false_implies, Nat.zero_add, Nat.reduceAdd, Nat.reduceLT, Nat.reduceLeDiff, Nat.le_refl, not_true_eq_false, not_false_eq_true, r_eq, r_ne, r_lt, r_ge, r_gt, r_le, bz_ne, nn_toNat, cn_of, cn_0, cn_1, i10, Int.reduceLE, Int.reduceLT, Int.reduceEq, bz_T, bz_F, ite_self, mulc, st_bud]
      exact h) (fun Kt Kf h => by
      obtain ⟨a1, a2, a3⟩ := UF_abv u p0 p1 (dp p) (Nat.le_refl _)
      obtain ⟨_, _, b3, _⟩ := u _ a1.1 a1.2
      have c1 := (b3 (by omega)).1
      have hz : (dp p : Int) < 201 := by omega
      simp (disch := omega) only [↓wcX2_headOf_0.eq_1, ↓k_mk, ↓k_sq, ↓k_sk, ↓k_bk, ↓k_if, ↓k_te, ↓k_cm, ↓k_cz, ↓k_an2, ↓k_or2, ↓k_no, ↓k_ci, ↓k_l0, ↓k_r0, ↓k_se0, ↓k_ic0, ↓k_l1, ↓k_r1, ↓k_se1, ↓k_ic1, ↓k_de1, ↓k_tk1, ↓k_l2, ↓k_r2, ↓k_se2, ↓k_ic2, ↓k_de2, ↓k_tk2, ↓k_l3, ↓k_r3, ↓k_se3, ↓k_ic3, ↓k_de3, ↓k_tk3, ↓k_l4, ↓k_r4, ↓k_se4, ↓k_ic4, ↓k_de4, ↓k_tk4, ↓k_l5, ↓k_r5, ↓k_se5, ↓k_ic5, ↓k_de5, ↓k_tk5, ↓k_l6, ↓k_r6, ↓k_se6, ↓k_ic6, ↓k_de6, ↓k_tk6, ↓k_l7, ↓k_r7, ↓k_se7, ↓k_ic7, ↓k_de7, ↓k_tk7, ↓k_l8, ↓k_r8, ↓k_se8, ↓k_ic8, ↓k_de8, ↓k_tk8, ↓k_l9, ↓k_r9, ↓k_se9, ↓k_ic9, ↓k_de9, ↓k_tk9, ↓k_l10, ↓k_r10, ↓k_se10, ↓k_ic10, ↓k_de10, ↓k_tk10, ↓k_l11, ↓k_r11, ↓k_se11, ↓k_ic11, ↓k_de11, ↓k_tk11, ↓k_l12, ↓k_r12, ↓k_se12, ↓k_ic12, ↓k_de12, ↓k_tk12, ↓k_l13, ↓k_r13, ↓k_se13, ↓k_ic13, ↓k_de13, ↓k_tk13, ↓k_l14, ↓k_r14, ↓k_se14, ↓k_ic14, ↓k_de14, ↓k_tk14, ↓k_l15, ↓k_r15, ↓k_se15, ↓k_ic15, ↓k_de15, ↓k_tk15, ↓k_l16, ↓k_r16, ↓k_se16, ↓k_ic16, ↓k_de16, ↓k_tk16, ↓k_l17, ↓k_r17, ↓k_se17, ↓k_ic17, ↓k_de17, ↓k_tk17, ↓k_l18, ↓k_r18, ↓k_se18, ↓k_ic18, ↓k_de18, ↓k_tk18, ↓k_l19, ↓k_r19, ↓k_se19, ↓k_ic19, ↓k_de19, ↓k_tk19, ↓k_l20, ↓k_r20, ↓k_se20, ↓k_ic20, ↓k_de20, ↓k_tk20, ↓k_l21, ↓k_r21, ↓k_se21, ↓k_ic21, ↓k_de21, ↓k_tk21, ↓k_l22, ↓k_r22, ↓k_se22, ↓k_ic22, ↓k_de22, ↓k_tk22, ↓k_l23, ↓k_r23, ↓k_se23, ↓k_ic23, ↓k_de23, ↓k_tk23, ↓k_l24, ↓k_r24, ↓k_se24, ↓k_ic24, ↓k_de24, ↓k_tk24, ↓k_l25, ↓k_r25, ↓k_se25, ↓k_ic25, ↓k_de25, ↓k_tk25, ↓k_k, ↓k_kn, ↓k_kl, ↓k_kln, ↓k_il, ↓k_2, ↓k_1, ↓k_2c, ↓k_2l, ↓k_ac, ↓k_an, ↓k_cs, ↓k_cv, ↓k_fi, ↓k_fr, ↓k_ai, ↓k_az, ↓k_ar, ↓k_sai, ↓k_saz, ↓k_soa, ↓k_sof, ↓k_spf, ↓k_sx, ↓k_blk, ↓k_sset, ↓k_sdec, ↓k_sri, ↓k_srv, ↓k_srr, ↓k_nop, ↓k_add, ↓k_sub, ↓k_mul, ↓k_min, ↓k_max, ↓k_shr, ↓k_shl, ↓k_or, ↓k_ilz, ↓k_addl, ↓k_rt, ↓k_rb, ↓k_rbz, ↓k_rsi, ↓k_rsr, ↓k_rsv, ↓reduceIte, hz, c1, eq_self, ↓xr2_8 ho, ↓xa2_8 ho, ↓xs2_8 ho, ↓xo2_8 ho, ↓xc2_8 ho, ↓xd2_8 ho, List.length_cons, List.length_nil, List.forall_mem_cons, List.not_mem_nil, Value.category, true_and, and_true, false_and, and_false, or_true, true_or, or_false, false_or, Nat.zero_le, forall_const, implies_true, false_implies, Nat.zero_add, Nat.reduceAdd, Nat.reduceLT, Nat.reduceLeDiff, Nat.le_refl, not_true_eq_false, not_false_eq_true, r_eq, r_ne, r_lt, r_ge, r_gt, r_le, bz_ne, nn_toNat, cn_of, cn_0, cn_1, i10, Int.reduceLE, Int.reduceLT, Int.reduceEq, bz_T, bz_F, ite_self, mulc, st_bud]
      exact h)
    obtain ⟨a1, a2, a3⟩ := UF_abv u p0 p1 (dp p) (Nat.le_refl _)
    obtain ⟨_, _, b3, _⟩ := u _ a1.1 a1.2
    have c2 := (b3 (by omega)).2
    rw [a3] at c2
    rw [← c2] at f
    exact f
  simp (disch := omega) only [↓fX2_headOf.eq_1, ↓uX2_headOf, ↓k_mk, ↓k_sq, ↓k_sk, ↓k_bk, ↓k_if, ↓k_te, ↓k_cm, ↓k_cz, ↓k_an2, ↓k_or2, ↓k_no, ↓k_ci, ↓k_l0, ↓k_r0, ↓k_se0, ↓k_ic0, ↓k_l1, ↓k_r1, ↓k_se1, ↓k_ic1, ↓k_de1, ↓k_tk1, ↓k_l2, ↓k_r2, ↓k_se2, ↓k_ic2, ↓k_de2, ↓k_tk2, ↓k_l3, ↓k_r3, ↓k_se3, ↓k_ic3, ↓k_de3, ↓k_tk3, ↓k_l4, ↓k_r4, ↓k_se4, ↓k_ic4, ↓k_de4, ↓k_tk4, ↓k_l5, ↓k_r5, ↓k_se5, ↓k_ic5, ↓k_de5, ↓k_tk5, ↓k_l6, ↓k_r6, ↓k_se6, ↓k_ic6, ↓k_de6, ↓k_tk6, ↓k_l7, ↓k_r7, ↓k_se7, ↓k_ic7, ↓k_de7, ↓k_tk7, ↓k_l8, ↓k_r8, ↓k_se8, ↓k_ic8, ↓k_de8, ↓k_tk8, ↓k_l9, ↓k_r9, ↓k_se9, ↓k_ic9, ↓k_de9, ↓k_tk9, ↓k_l10, ↓k_r10, ↓k_se10, ↓k_ic10, ↓k_de10, ↓k_tk10, ↓k_l11, ↓k_r11, ↓k_se11, ↓k_ic11, ↓k_de11, ↓k_tk11, ↓k_l12, ↓k_r12, ↓k_se12, ↓k_ic12, ↓k_de12, ↓k_tk12, ↓k_l13, ↓k_r13, ↓k_se13, ↓k_ic13, ↓k_de13, ↓k_tk13, ↓k_l14, ↓k_r14, ↓k_se14, ↓k_ic14, ↓k_de14, ↓k_tk14, ↓k_l15, ↓k_r15, ↓k_se15, ↓k_ic15, ↓k_de15, ↓k_tk15, ↓k_l16, ↓k_r16, ↓k_se16, ↓k_ic16, ↓k_de16, ↓k_tk16, ↓k_l17, ↓k_r17, ↓k_se17, ↓k_ic17, ↓k_de17, ↓k_tk17, ↓k_l18, ↓k_r18, ↓k_se18, ↓k_ic18, ↓k_de18, ↓k_tk18, ↓k_l19, ↓k_r19, ↓k_se19, ↓k_ic19, ↓k_de19, ↓k_tk19, ↓k_l20, ↓k_r20, ↓k_se20, ↓k_ic20, ↓k_de20, ↓k_tk20, ↓k_l21, ↓k_r21, ↓k_se21, ↓k_ic21, ↓k_de21, ↓k_tk21, ↓k_l22, ↓k_r22, ↓k_se22, ↓k_ic22, ↓k_de22, ↓k_tk22, ↓k_l23, ↓k_r23, ↓k_se23, ↓k_ic23, ↓k_de23, ↓k_tk23, ↓k_l24, ↓k_r24, ↓k_se24, ↓k_ic24, ↓k_de24, ↓k_tk24, ↓k_l25, ↓k_r25, ↓k_se25, ↓k_ic25, ↓k_de25, ↓k_tk25, ↓k_k, ↓k_kn, ↓k_kl, ↓k_kln, ↓k_il, ↓k_2, ↓k_1, ↓k_2c, ↓k_2l, ↓k_ac, ↓k_an, ↓k_cs, ↓k_cv, ↓k_fi, ↓k_fr, ↓k_ai, ↓k_az, ↓k_ar, ↓k_sai, ↓k_saz, ↓k_soa, ↓k_sof, ↓k_spf, ↓k_sx, ↓k_blk, ↓k_sset, ↓k_sdec, ↓k_sri, ↓k_srv, ↓k_srr, ↓k_nop, ↓k_add, ↓k_sub, ↓k_mul, ↓k_min, ↓k_max, ↓k_shr, ↓k_shl, ↓k_or, ↓k_ilz, ↓k_addl, ↓k_rt, ↓k_rb, ↓k_rbz, ↓k_rsi, ↓k_rsr, ↓k_rsv, ↓reduceIte, ↓w, List.length_cons, List.length_nil, List.forall_mem_cons, List.not_mem_nil, Value.category, true_and, and_true, false_and, and_false, or_true, true_or, or_false, false_or, Nat.zero_le, forall_const, implies_true, false_implies, Nat.zero_add, Nat.reduceAdd, Nat.reduceLT, Nat.reduceLeDiff, Nat.le_refl, not_true_eq_false, not_false_eq_true, r_eq, r_ne, r_lt, r_ge, r_gt, r_le, bz_ne, nn_toNat, cn_of, cn_0, cn_1, i10, Int.reduceLE, Int.reduceLT, Int.reduceEq, bz_T, bz_F, ite_self, mulc, st_bud]
/-- two kinds at one head -/
def two2 (P : Int → Prop) : Prop := ∃ k k' : Int, ¬ k = k' ∧ P k ∧ P k'
theorem KB_2 {x : Int} {P : Int → Prop} {m : Nat} (hm : x = m) (hlt : m < 64) (hb : ∀ k : Nat, k < 6 → (m.testBit k = true ↔ P k)) (hP : ∀ k, P k → 0 ≤ k ∧ k ≤ 5) : 2 ≤ pop m ↔ two2 P := by
  rw [pop_2 ⟨m, hlt⟩]
  constructor
  · intro ⟨k, k', n, a, b⟩
    refine ⟨k.val, k'.val, fun e => n (Fin.ext (by omega)), (hb k.val k.isLt).mp a, (hb k'.val k'.isLt).mp b⟩
  · intro ⟨k, k', n, a, b⟩
    have a1 := hP k a
    have b1 := hP k' b
    refine ⟨⟨k.toNat, by omega⟩, ⟨k'.toNat, by omega⟩, fun e => n (by have := congrArg Fin.val e; have e2 : k.toNat = k'.toNat := this; omega), ?_, ?_⟩
    · have := hb k.toNat (by omega)
      rw [Int.toNat_of_nonneg a1.1] at this
      exact this.mpr a
    · have := hb k'.toNat (by omega)
      rw [Int.toNat_of_nonneg b1.1] at this
      exact this.mpr b
end
