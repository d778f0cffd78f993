section
/-! two: the reference reads a row -/
set_option maxHeartbeats 400000 in
theorem shrX {W : Int} (h0 : 0 ≤ W) (h1 : W < 16777216) (c : Nat) (hc : c < 32) : (Int32.ofInt W >>> (Int32.ofInt c)) = Int32.ofInt (W / 2 ^ c) := by
  apply Int32.toBitVec_inj.mp
  rw [Int32.toBitVec_shiftRight]
  apply BitVec.eq_of_toInt_eq
  rw [BitVec.toInt_sshiftRight']
  have e1 : (Int32.ofInt W).toBitVec.toInt = W := by
    show (BitVec.ofInt 32 W).toInt = W
    rw [BitVec.toInt_ofInt]
    exact Int.bmod_eq_of_le (by omega) (by omega)
  have d0 : 0 ≤ W / 2 ^ c := Int.ediv_nonneg h0 (by exact Int.le_of_lt (Int.pow_pos (by omega)))
  have d1 : W / 2 ^ c ≤ W := Int.ediv_le_self _ h0
  have e2 : (Int32.ofInt (W / 2 ^ c)).toBitVec.toInt = W / 2 ^ c := by
    show (BitVec.ofInt 32 _).toInt = _
    rw [BitVec.toInt_ofInt]
    exact Int.bmod_eq_of_le (by omega) (by omega)
  have e3 : ((Int32.ofInt c).toBitVec.smod 32).toNat = c := by
    have : ∀ x : Fin 32, ((Int32.ofInt (x.val : Int)).toBitVec.smod 32).toNat = x.val := by decide +kernel
    exact this ⟨c, hc⟩
  rw [e1, e2, e3, Int.shiftRight_eq_div_pow]
  rfl
set_option maxHeartbeats 400000 in
theorem and31 (c : Nat) (hc : c < 32) : (Int32.ofInt (c : Int)) &&& 31 = Int32.ofInt c := by
  have : ∀ x : Fin 32, (Int32.ofInt (x.val : Int)) &&& 31 = Int32.ofInt (x.val : Int) := by decide +kernel
  exact this ⟨c, hc⟩
set_option maxHeartbeats 400000 in
theorem and63 (v : Int) : Int32.ofInt v &&& Int32.ofInt 63 = Int32.ofInt (v % 64) := by
  apply Int32.toBitVec_inj.mp
  apply BitVec.eq_of_toNat_eq
  show (BitVec.ofInt 32 v &&& BitVec.ofInt 32 63).toNat = (BitVec.ofInt 32 (v % 64)).toNat
  rw [BitVec.toNat_and, BitVec.toNat_ofInt, BitVec.toNat_ofInt, BitVec.toNat_ofInt]
  show (v % 4294967296).toNat &&& (2 ^ 6 - 1) = ((v % 64) % 4294967296).toNat
  rw [Nat.and_two_pow_sub_one_eq_mod]
  omega
set_option maxHeartbeats 400000 in
theorem dig64 {W : Int} (h0 : 0 ≤ W) (h1 : W < 16777216) {e : Int} (e0 : 0 ≤ e) (e3 : e ≤ 3) : q_giand (q_gishr (zI W) (zI (6 * e))) (zI 63) = zI (W / 64 ^ e.toNat % 64) := by
  obtain ⟨c, hc⟩ : ∃ c : Nat, c = 6 * e.toNat := ⟨_, rfl⟩
  have ec : 6 * e = (c : Int) := by omega
  have p : (64 : Int) ^ e.toNat = 2 ^ c := by
    rw [hc, Int.pow_mul]
    rfl
  rw [ec, p]
  show Int32.ofInt W >>> (Int32.ofInt (c : Int) &&& 31) &&& Int32.ofInt 63 = Int32.ofInt _
  rw [and31 c (by omega), shrX h0 h1 c (by omega), and63]
set_option maxHeartbeats 400000 in
theorem V64_d {u : List Int} (h : okW u) : ∀ (d k : Nat), k + d + 1 = u.length → V64 u / 64 ^ d % 64 = u.getD k 0 := by
  intro d
  induction d generalizing u with
  | zero =>
    intro k e
    have t := (V64_t h (k := k) (by omega)).2
    rw [List.take_of_length_le (by omega)] at t
    rw [Int.pow_zero, Int.ediv_one]
    exact t
  | succ d ih =>
    intro k e
    obtain ⟨n, hn⟩ : ∃ n, u.length = n + 1 := ⟨u.length - 1, by omega⟩
    have t := (V64_t h (k := n) (by omega)).1
    rw [List.take_of_length_le (by omega)] at t
    have l : (u.take n).length = n := by rw [List.length_take]; omega
    have k2 := ih (okW_t h n) k (by omega)
    rw [← t, Int.ediv_ediv_of_nonneg (by omega), Int.mul_comm, ← Int.pow_succ] at k2
    rw [k2, List.getD_eq_getElem?_getD, List.getD_eq_getElem?_getD, List.getElem?_take_of_lt (by omega)]
def FTw (G G' : Nat → Int → Int) (B : Nat) : Prop := (∀ z, ¬ z = B + 544 → ¬ z = (B + 544 + 39) → ¬ z = (B + 544 + 40) → ¬ z = (B + 544 + 41) → G' z = G z) ∧ ∀ j, ¬ j = 47 → G' (B + 544) j = G (B + 544) j
set_option maxHeartbeats 400000 in
theorem FTw_rfl (G : Nat → Int → Int) (B : Nat) : FTw G G B := ⟨fun _ _ _ _ _ => rfl, fun _ _ => rfl⟩
set_option maxHeartbeats 400000 in
theorem FTw_tr {G G1 G2 : Nat → Int → Int} {B : Nat} (h : FTw G G1 B) (k : FTw G1 G2 B) : FTw G G2 B := ⟨fun z a b c d => by rw [k.1 z a b c d, h.1 z a b c d], fun j q => by rw [k.2 j q, h.2 j q]⟩
set_option maxHeartbeats 400000 in
theorem tw_2 {T0 : Nat → Option q_T} {nx B : Nat} {R : Nat → Nat → Option Value} {v n i3 m i w : Int} {u : List Int} (hM : Ly T0 R (B + 544) (L12 (B + 544))) (ok : okW u) (m1 : 1 ≤ m) (m4 : m ≤ 4) (hm : m = u.length) (hw : w = V64 u) : ∀ (d : Nat) (k : Int) (G : Nat → Int → Int), k + 1 = d → k ≤ m - 1 → (∀ p, k < p → p < m → G (B + 544 + 39) p = u.getD p.toNat 0) →
    ∃ G' : Nat → Int → Int, (∀ z, ¬ z = (B + 544 + 39) → G' z = G z) ∧ (∀ p, 0 ≤ p → p < m → G' (B + 544 + 39) p = u.getD p.toNat 0) ∧ ∀ (Kn : List Value → q_M → Prop) (Kr : Option Value → q_M → Prop), Kn [.ref (B + 544), .int (zI v), .int (zI n), .int (zI i3), .int (zI m), .int (zI i), .int (zI w), .int (zI (-1))] (st T0 nx 0 0 R G') → q_wh wcX12_two_2 wsX12_two_2 [.ref (B + 544), .int (zI v), .int (zI n), .int (zI i3), .int (zI m), .int (zI i), .int (zI w), .int (zI k)] (st T0 nx 0 0 R G) Kn Kr := by
  have wb := V64_b ok rfl (by omega : u.length ≤ 4)
  rw [← hw] at wb
  intro d
  induction d with
  | zero =>
    intro k G kd k1 h
    have e : k = -1 := by omega
    subst e
    refine ⟨G, fun _ _ => rfl, fun p p0 p1 => h p (by omega) p1, fun Kn Kr hh => q_outR (fun Kt Kf hk => ?_) hh⟩
    have g : ¬ (0 : Int) ≤ -1 := by omega
    clear hh h hw hm ok
    simp (disch := omega) only [↓wcX12_two_2.eq_1, ↓k_mk, ↓k_sq, ↓k_sk, ↓k_bk, ↓k_if, ↓k_te, ↓k_cm, ↓k_cz, ↓k_an2, ↓k_or2, ↓k_no, ↓k_ci, ↓k_l0, ↓k_r0, ↓k_se0, ↓k_ic0, ↓k_l1, ↓k_r1, ↓k_se1, ↓k_ic1, ↓k_de1, ↓k_tk1, ↓k_l2, ↓k_r2, ↓k_se2, ↓k_ic2, ↓k_de2, ↓k_tk2, ↓k_l3, ↓k_r3, ↓k_se3, ↓k_ic3, ↓k_de3, ↓k_tk3, ↓k_l4, ↓k_r4, ↓k_se4, ↓k_ic4, ↓k_de4, ↓k_tk4, ↓k_l5, ↓k_r5, ↓k_se5, ↓k_ic5, ↓k_de5, ↓k_tk5, ↓k_l6, ↓k_r6, ↓k_se6, ↓k_ic6, ↓k_de6, ↓k_tk6, ↓k_l7, ↓k_r7, ↓k_se7, ↓k_ic7, ↓k_de7, ↓k_tk7, ↓k_l8, ↓k_r8, ↓k_se8, ↓k_ic8, ↓k_de8, ↓k_tk8, ↓k_l9, ↓k_r9, ↓k_se9, ↓k_ic9, ↓k_de9, ↓k_tk9, ↓k_l10, ↓k_r10, ↓k_se10, ↓k_ic10, ↓k_de10, ↓k_tk10, ↓k_l11, ↓k_r11, ↓k_se11, ↓k_ic11, ↓k_de11, ↓k_tk11, ↓k_l12, ↓k_r12, ↓k_se12, ↓k_ic12, ↓k_de12, ↓k_tk12, ↓k_l13, ↓k_r13, ↓k_se13, ↓k_ic13, ↓k_de13, ↓k_tk13, ↓k_l14, ↓k_r14, ↓k_se14, ↓k_ic14, ↓k_de14, ↓k_tk14, ↓k_l15, ↓k_r15, ↓k_se15, ↓k_ic15, ↓k_de15, ↓k_tk15, ↓k_l16, ↓k_r16, ↓k_se16, ↓k_ic16, ↓k_de16, ↓k_tk16, ↓k_l17, ↓k_r17, ↓k_se17, ↓k_ic17, ↓k_de17, ↓k_tk17, ↓k_l18, ↓k_r18, ↓k_se18, ↓k_ic18, ↓k_de18, ↓k_tk18, ↓k_l19, ↓k_r19, ↓k_se19, ↓k_ic19, ↓k_de19, ↓k_tk19, ↓k_l20, ↓k_r20, ↓k_se20, ↓k_ic20, ↓k_de20, ↓k_tk20, ↓k_l21, ↓k_r21, ↓k_se21, ↓k_ic21, ↓k_de21, ↓k_tk21, ↓k_l22, ↓k_r22, ↓k_se22, ↓k_ic22, ↓k_de22, ↓k_tk22, ↓k_l23, ↓k_r23, ↓k_se23, ↓k_ic23, ↓k_de23, ↓k_tk23, ↓k_l24, ↓k_r24, ↓k_se24, ↓k_ic24, ↓k_de24, ↓k_tk24, ↓k_l25, ↓k_r25, ↓k_se25, ↓k_ic25, ↓k_de25, ↓k_tk25, ↓k_k, ↓k_kn, ↓k_kl, ↓k_kln, ↓k_il, ↓k_2, ↓k_1, ↓k_2c, ↓k_2l, ↓k_ac, ↓k_an, ↓k_cs, ↓k_cv, ↓k_fi, ↓k_fr, ↓k_ai, ↓k_az, ↓k_ar, ↓k_sai, ↓k_saz, ↓k_soa, ↓k_sof, ↓k_spf, ↓k_sx, ↓k_blk, ↓k_sset, ↓k_sdec, ↓k_sri, ↓k_srv, ↓k_srr, ↓k_nop, ↓k_add, ↓k_sub, ↓k_mul, ↓k_min, ↓k_max, ↓k_shr, ↓k_shl, ↓k_or, ↓k_ilz, ↓k_addl, ↓k_rt, ↓k_rb, ↓k_rbz, ↓k_rsi, ↓k_rsr, ↓k_rsv, ↓reduceIte, g, List.length_cons, List.length_nil, List.forall_mem_cons, List.not_mem_nil, Value.category, true_and, and_true, false_and, and_false, or_true, true_or, or_false, false_or, Nat.zero_le, forall_const, implies_true, false_implies, Nat.zero_add, Nat.reduceAdd, Nat.reduceLT, Nat.reduceLeDiff, Nat.le_refl, not_true_eq_false, not_false_eq_true, r_eq, r_ne, r_lt, r_ge, r_gt, r_le, bz_ne, nn_toNat, cn_of, cn_0, cn_1, i10, Int.reduceLE, Int.reduceLT, Int.reduceEq, bz_T, bz_F, ite_self, mulc, st_bud]
    exact hk
  | succ d ih =>
    intro k G kd k1 h
    obtain ⟨y, hy⟩ : ∃ y, y = u.getD k.toNat 0 := ⟨_, rfl⟩
    obtain ⟨G', q1, q2, q3⟩ := ih (k - 1) (gs G (B + 544 + 39) k y) (by omega) (by omega) (fun p p0 p1 => by
      rw [gs_eq, fu_at]
      by_cases z : p = k
      · rw [if_pos z, hy, z]
      · rw [if_neg z]
        exact h p (by omega) p1)
    refine ⟨G', fun z hz => by rw [q1 z hz, gs_ne hz], q2, fun Kn Kr hh => q_backR (fun K Kf hk => ?_) (q3 Kn Kr hh)⟩
    have g : 0 ≤ k := by omega
    have v1 : w / 64 ^ (m - 1 - k).toNat % 64 = y := by
      rw [hw, hy]
      exact V64_d ok _ _ (by omega)
    have dg := dig64 wb.1 wb.2 (e := m - 1 - k) (by omega) (by omega)
    rw [v1] at dg
    have ex : ∀ (K : Int32 → q_M → Prop), (q_2 q_giand (q_2 q_gishr (q_l 6) (q_2 q_gimul (q_k 6) (q_2 q_gisub (q_2 q_gisub (q_l 4) (q_k 1)) (q_l 7)))) (q_k 63)) [.ref (B + 544), .int (zI v), .int (zI n), .int (zI i3), .int (zI m), .int (zI i), .int (zI w), .int (zI k)] (st T0 nx 0 0 R G) K = K (zI y) (st T0 nx 0 0 R G) := fun K => by
      have e6 : ∀ K : Int32 → q_M → Prop, (q_2 q_gimul (q_k 6) (q_2 q_gisub (q_2 q_gisub (q_l 4) (q_k 1)) (q_l 7))) [.ref (B + 544), .int (zI v), .int (zI n), .int (zI i3), .int (zI m), .int (zI i), .int (zI w), .int (zI k)] (st T0 nx 0 0 R G) K = K (zI (6 * (m - 1 - k))) (st T0 nx 0 0 R G) := fun K => by
        clear ih q1 q2 q3 h hk hy hw hm ok dg v1
        simp (disch := omega) only [↓k_mk, ↓k_sq, ↓k_sk, ↓k_bk, ↓k_if, ↓k_te, ↓k_cm, ↓k_cz, ↓k_an2, ↓k_or2, ↓k_no, ↓k_ci, ↓k_l0, ↓k_r0, ↓k_se0, ↓k_ic0, ↓k_l1, ↓k_r1, ↓k_se1, ↓k_ic1, ↓k_de1, ↓k_tk1, ↓k_l2, ↓k_r2, ↓k_se2, ↓k_ic2, ↓k_de2, ↓k_tk2, ↓k_l3, ↓k_r3, ↓k_se3, ↓k_ic3, ↓k_de3, ↓k_tk3, ↓k_l4, ↓k_r4, ↓k_se4, ↓k_ic4, ↓k_de4, ↓k_tk4, ↓k_l5, ↓k_r5, ↓k_se5, ↓k_ic5, ↓k_de5, ↓k_tk5, ↓k_l6, ↓k_r6, ↓k_se6, ↓k_ic6, ↓k_de6, ↓k_tk6, ↓k_l7, ↓k_r7, ↓k_se7, ↓k_ic7, ↓k_de7, ↓k_tk7, ↓k_l8, ↓k_r8, ↓k_se8, ↓k_ic8, ↓k_de8, ↓k_tk8, ↓k_l9, ↓k_r9, ↓k_se9, ↓k_ic9, ↓k_de9, ↓k_tk9, ↓k_l10, ↓k_r10, ↓k_se10, ↓k_ic10, ↓k_de10, ↓k_tk10, ↓k_l11, ↓k_r11, ↓k_se11, ↓k_ic11, ↓k_de11, ↓k_tk11, ↓k_l12, ↓k_r12, ↓k_se12, ↓k_ic12, ↓k_de12, ↓k_tk12, ↓k_l13, ↓k_r13, ↓k_se13, ↓k_ic13, ↓k_de13, ↓k_tk13, ↓k_l14, ↓k_r14, ↓k_se14, ↓k_ic14, ↓k_de14, ↓k_tk14, ↓k_l15, ↓k_r15, ↓k_se15, ↓k_ic15, ↓k_de15, ↓k_tk15, ↓k_l16, ↓k_r16, ↓k_se16, ↓k_ic16, ↓k_de16, ↓k_tk16, ↓k_l17, ↓k_r17, ↓k_se17, ↓k_ic17, ↓k_de17, ↓k_tk17, ↓k_l18, ↓k_r18, ↓k_se18, ↓k_ic18, ↓k_de18, ↓k_tk18, ↓k_l19, ↓k_r19, ↓k_se19, ↓k_ic19, ↓k_de19, ↓k_tk19, ↓k_l20, ↓k_r20, ↓k_se20, ↓k_ic20, ↓k_de20, ↓k_tk20, ↓k_l21, ↓k_r21, ↓k_se21, ↓k_ic21, ↓k_de21, ↓k_tk21, ↓k_l22, ↓k_r22, ↓k_se22, ↓k_ic22, ↓k_de22, ↓k_tk22, ↓k_l23, ↓k_r23, ↓k_se23, ↓k_ic23, ↓k_de23, ↓k_tk23, ↓k_l24, ↓k_r24, ↓k_se24, ↓k_ic24, ↓k_de24, ↓k_tk24, ↓k_l25, ↓k_r25, ↓k_se25, ↓k_ic25, ↓k_de25, ↓k_tk25, ↓k_k, ↓k_kn, ↓k_kl, ↓k_kln, ↓k_il, ↓k_2, ↓k_1, ↓k_2c, ↓k_2l, ↓k_ac, ↓k_an, ↓k_cs, ↓k_cv, ↓k_fi, ↓k_fr, ↓k_ai, ↓k_az, ↓k_ar, ↓k_sai, ↓k_saz, ↓k_soa, ↓k_sof, ↓k_spf, ↓k_sx, ↓k_blk, ↓k_sset, ↓k_sdec, ↓k_sri, ↓k_srv, ↓k_srr, ↓k_nop, ↓k_add, ↓k_sub, ↓k_mul, ↓k_min, ↓k_max, ↓k_shr, ↓k_shl, ↓k_or, ↓k_ilz, ↓k_addl, ↓k_rt, ↓k_rb, ↓k_rbz, ↓k_rsi, ↓k_rsr, ↓k_rsv, ↓reduceIte, eq_self, List.length_cons, List.length_nil, List.forall_mem_cons, List.not_mem_nil, Value.category, true_and, and_true, false_and, and_false, or_true, true_or, or_false, false_or, Nat.zero_le, forall_const, implies_true, false_implies, Nat.zero_add, Nat.reduceAdd, Nat.reduceLT, Nat.reduceLeDiff, Nat.le_refl, not_true_eq_false, not_false_eq_true, r_eq, r_ne, r_lt, r_ge, r_gt, r_le, bz_ne, nn_toNat, cn_of, cn_0, cn_1, i10, Int.reduceLE, Int.reduceLT, Int.reduceEq, bz_T, bz_F, ite_self, mulc, st_bud]
      rw [k_2, k_2, k_l6, e6]
      show q_k 63 [.ref (B + 544), .int (zI v), .int (zI n), .int (zI i3), .int (zI m), .int (zI i), .int (zI w), .int (zI k)] (st T0 nx 0 0 R G) (fun v' m' => opK (q_giand (q_gishr (zI w) (zI (6 * (m - 1 - k)))) v') m' K) = _
      have k63 : ∀ K : Int32 → q_M → Prop, q_k 63 [.ref (B + 544), .int (zI v), .int (zI n), .int (zI i3), .int (zI m), .int (zI i), .int (zI w), .int (zI k)] (st T0 nx 0 0 R G) K = K (zI 63) (st T0 nx 0 0 R G) := fun K => by
        clear ih q1 q2 q3 h hk hy hw hm ok dg v1 e6
        simp (disch := omega) only [↓k_mk, ↓k_sq, ↓k_sk, ↓k_bk, ↓k_if, ↓k_te, ↓k_cm, ↓k_cz, ↓k_an2, ↓k_or2, ↓k_no, ↓k_ci, ↓k_l0, ↓k_r0, ↓k_se0, ↓k_ic0, ↓k_l1, ↓k_r1, ↓k_se1, ↓k_ic1, ↓k_de1, ↓k_tk1, ↓k_l2, ↓k_r2, ↓k_se2, ↓k_ic2, ↓k_de2, ↓k_tk2, ↓k_l3, ↓k_r3, ↓k_se3, ↓k_ic3, ↓k_de3, ↓k_tk3, ↓k_l4, ↓k_r4, ↓k_se4, ↓k_ic4, ↓k_de4, ↓k_tk4, ↓k_l5, ↓k_r5, ↓k_se5, ↓k_ic5, ↓k_de5, ↓k_tk5, ↓k_l6, ↓k_r6, ↓k_se6, ↓k_ic6, ↓k_de6, ↓k_tk6, ↓k_l7, ↓k_r7, ↓k_se7, ↓k_ic7, ↓k_de7, ↓k_tk7, ↓k_l8, ↓k_r8, ↓k_se8, ↓k_ic8, ↓k_de8, ↓k_tk8, ↓k_l9, ↓k_r9, ↓k_se9, ↓k_ic9, ↓k_de9, ↓k_tk9, ↓k_l10, ↓k_r10, ↓k_se10, ↓k_ic10, ↓k_de10, ↓k_tk10, ↓k_l11, ↓k_r11, ↓k_se11, ↓k_ic11, ↓k_de11, ↓k_tk11, ↓k_l12, ↓k_r12, ↓k_se12, ↓k_ic12, ↓k_de12, ↓k_tk12, ↓k_l13, ↓k_r13, ↓k_se13, ↓k_ic13, ↓k_de13, ↓k_tk13, ↓k_l14, ↓k_r14, ↓k_se14, ↓k_ic14, ↓k_de14, ↓k_tk14, ↓k_l15, ↓k_r15, ↓k_se15, ↓k_ic15, ↓k_de15, ↓k_tk15, ↓k_l16, ↓k_r16, ↓k_se16, ↓k_ic16, ↓k_de16, ↓k_tk16, ↓k_l17, ↓k_r17, ↓k_se17, ↓k_ic17, ↓k_de17, ↓k_tk17, ↓k_l18, ↓k_r18, ↓k_se18, ↓k_ic18, ↓k_de18, ↓k_tk18, ↓k_l19, ↓k_r19, ↓k_se19, ↓k_ic19, ↓k_de19, ↓k_tk19, ↓k_l20, ↓k_r20, ↓k_se20, ↓k_ic20, ↓k_de20, ↓k_tk20, ↓k_l21, ↓k_r21, ↓k_se21, ↓k_ic21, ↓k_de21, ↓k_tk21, ↓k_l22, ↓k_r22, ↓k_se22, ↓k_ic22, ↓k_de22, ↓k_tk22, ↓k_l23, ↓k_r23, ↓k_se23, ↓k_ic23, ↓k_de23, ↓k_tk23, ↓k_l24, ↓k_r24, ↓k_se24, ↓k_ic24, ↓k_de24, ↓k_tk24, ↓k_l25, ↓k_r25, ↓k_se25, ↓k_ic25, ↓k_de25, ↓k_tk25, ↓k_k, ↓k_kn, ↓k_kl, ↓k_kln, ↓k_il, ↓k_2, ↓k_1, ↓k_2c, ↓k_2l, ↓k_ac, ↓k_an, ↓k_cs, ↓k_cv, ↓k_fi, ↓k_fr, ↓k_ai, ↓k_az, ↓k_ar, ↓k_sai, ↓k_saz, ↓k_soa, ↓k_sof, ↓k_spf, ↓k_sx, ↓k_blk, ↓k_sset, ↓k_sdec, ↓k_sri, ↓k_srv, ↓k_srr, ↓k_nop, ↓k_add, ↓k_sub, ↓k_mul, ↓k_min, ↓k_max, ↓k_shr, ↓k_shl, ↓k_or, ↓k_ilz, ↓k_addl, ↓k_rt, ↓k_rb, ↓k_rbz, ↓k_rsi, ↓k_rsr, ↓k_rsv, ↓reduceIte, eq_self, List.length_cons, List.length_nil, List.forall_mem_cons, List.not_mem_nil, Value.category, true_and, and_true, false_and, and_false, or_true, true_or, or_false, false_or, Nat.zero_le, forall_const, implies_true, false_implies, Nat.zero_add, Nat.reduceAdd, Nat.reduceLT, Nat.reduceLeDiff, Nat.le_refl, not_true_eq_false, not_false_eq_true, r_eq, r_ne, r_lt, r_ge, r_gt, r_le, bz_ne, nn_toNat, cn_of, cn_0, cn_1, i10, Int.reduceLE, Int.reduceLT, Int.reduceEq, bz_T, bz_F, ite_self, mulc, st_bud]
      rw [k63, dg]
      rfl
    have yb : okC y := by
      rw [hy]
      exact okW_get ok (by omega)
    rw [show k - 1 = k + -1 by omega] at hk
    clear ih q1 q2 q3 h hy hw hm ok dg v1
    simp (disch := omega) only [↓wcX12_two_2.eq_1, ↓wsX12_two_2.eq_1, ↓k_mk, ↓k_sq, ↓k_sk, ↓k_bk, ↓k_if, ↓k_te, ↓k_cm, ↓k_cz, ↓k_an2, ↓k_or2, ↓k_no, ↓k_ci, ↓k_l0, ↓k_r0, ↓k_se0, ↓k_ic0, ↓k_l1, ↓k_r1, ↓k_se1, ↓k_ic1, ↓k_de1, ↓k_tk1, ↓k_l2, ↓k_r2, ↓k_se2, ↓k_ic2, ↓k_de2, ↓k_tk2, ↓k_l3, ↓k_r3, ↓k_se3, ↓k_ic3, ↓k_de3, ↓k_tk3, ↓k_l4, ↓k_r4, ↓k_se4, ↓k_ic4, ↓k_de4, ↓k_tk4, ↓k_l5, ↓k_r5, ↓k_se5, ↓k_ic5, ↓k_de5, ↓k_tk5, ↓k_l6, ↓k_r6, ↓k_se6, ↓k_ic6, ↓k_de6, ↓k_tk6, ↓k_l7, ↓k_r7, ↓k_se7, ↓k_ic7, ↓k_de7, ↓k_tk7, ↓k_l8, ↓k_r8, ↓k_se8, ↓k_ic8, ↓k_de8, ↓k_tk8, ↓k_l9, ↓k_r9, ↓k_se9, ↓k_ic9, ↓k_de9, ↓k_tk9, ↓k_l10, ↓k_r10, ↓k_se10, ↓k_ic10, ↓k_de10, ↓k_tk10, ↓k_l11, ↓k_r11, ↓k_se11, ↓k_ic11, ↓k_de11, ↓k_tk11, ↓k_l12, ↓k_r12, ↓k_se12, ↓k_ic12, ↓k_de12, ↓k_tk12, ↓k_l13, ↓k_r13, ↓k_se13, ↓k_ic13, ↓k_de13, ↓k_tk13, ↓k_l14, ↓k_r14, ↓k_se14, ↓k_ic14, ↓k_de14, ↓k_tk14, ↓k_l15, ↓k_r15, ↓k_se15, ↓k_ic15, ↓k_de15, ↓k_tk15, ↓k_l16, ↓k_r16, ↓k_se16, ↓k_ic16, ↓k_de16, ↓k_tk16, ↓k_l17, ↓k_r17, ↓k_se17, ↓k_ic17, ↓k_de17, ↓k_tk17, ↓k_l18, ↓k_r18, ↓k_se18, ↓k_ic18, ↓k_de18, ↓k_tk18, ↓k_l19, ↓k_r19, ↓k_se19, ↓k_ic19, ↓k_de19, ↓k_tk19, ↓k_l20, ↓k_r20, ↓k_se20, ↓k_ic20, ↓k_de20, ↓k_tk20, ↓k_l21, ↓k_r21, ↓k_se21, ↓k_ic21, ↓k_de21, ↓k_tk21, ↓k_l22, ↓k_r22, ↓k_se22, ↓k_ic22, ↓k_de22, ↓k_tk22, ↓k_l23, ↓k_r23, ↓k_se23, ↓k_ic23, ↓k_de23, ↓k_tk23, ↓k_l24, ↓k_r24, ↓k_se24, ↓k_ic24, ↓k_de24, ↓k_tk24, ↓k_l25, ↓k_r25, ↓k_se25, ↓k_ic25, ↓k_de25, ↓k_tk25, ↓k_k, ↓k_kn, ↓k_kl, ↓k_kln, ↓k_il, ↓k_1, ↓k_2c, ↓k_2l, ↓k_ac, ↓k_an, ↓k_cs, ↓k_cv, ↓k_fi, ↓k_fr, ↓k_ai, ↓k_az, ↓k_ar, ↓k_sai, ↓k_saz, ↓k_soa, ↓k_sof, ↓k_spf, ↓k_sx, ↓k_blk, ↓k_sset, ↓k_sdec, ↓k_sri, ↓k_srv, ↓k_srr, ↓k_nop, ↓k_add, ↓k_sub, ↓k_mul, ↓k_min, ↓k_max, ↓k_shr, ↓k_shl, ↓k_or, ↓k_ilz, ↓k_addl, ↓k_rt, ↓k_rb, ↓k_rbz, ↓k_rsi, ↓k_rsr, ↓k_rsv, ↓reduceIte, g, ↓ex, ↓xr12_46 hM, ↓xa12_46 hM, ↓xs12_46 hM, ↓xo12_46 hM, ↓xc12_46 hM, ↓xd12_46 hM, List.length_cons, List.length_nil, List.forall_mem_cons, List.not_mem_nil, Value.category, true_and, and_true, false_and, and_false, or_true, true_or, or_false, false_or, Nat.zero_le, forall_const, implies_true, false_implies, Nat.zero_add, Nat.reduceAdd, Nat.reduceLT, Nat.reduceLeDiff, Nat.le_refl, not_true_eq_false, not_false_eq_true, r_eq, r_ne, r_lt, r_ge, r_gt, r_le, bz_ne, nn_toNat, cn_of, cn_0, cn_1, i10, Int.reduceLE, Int.reduceLT, Int.reduceEq, bz_T, bz_F, ite_self, mulc, st_bud]
    exact hk
end
