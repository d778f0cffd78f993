section
/-! two: the reference tries the rows -/
set_option maxHeartbeats 400000 in
theorem il_get {g : Int → Int} : ∀ (l : List Int) (k : Int), (∀ j : Nat, j < l.length → g (k + j) = l.getD j 0) → il g k l.length = l := by
  intro l
  induction l with
  | nil => intro k _; rfl
  | cons a r ih =>
    intro k h
    have h0 := h 0 (by rw [List.length_cons]; omega)
    have e0 : g k = a := by
      rw [show k = k + ((0 : Nat) : Int) by omega, h0]
      rfl
    rw [List.length_cons, il, e0, ih (k + 1) (fun j hj => by
      have := h (j + 1) (by rw [List.length_cons]; omega)
      rw [show k + 1 + (j : Int) = k + ((j + 1 : Nat) : Int) by omega, this]
      rfl)]
set_option maxHeartbeats 400000 in
theorem il_AtI {g : Int → Int} : ∀ (l : List Int) (k : Int), AtI g k l → il g k l.length = l := by
  intro l
  induction l with
  | nil => intro k _; rfl
  | cons a r ih =>
    intro k h
    rw [List.length_cons, il, h.1, ih (k + 1) h.2]
set_option maxHeartbeats 400000 in
/-- what the reference counts is what the entry has -/
theorem ways_w {Q : Nat → Int → Int} {B : Nat} {v nf m : Int} {sf : Int → Int} {fi : Int → List Int} {T : Int → Int → (Int × (Int → List Int) × (Int → Int))} {u : List Int} (hF : FWR nf sf fi) (tl : TLr Q B v nf sf fi) (m1 : 1 ≤ m) (m4 : m ≤ 4) (hT : CLO T nf sf fi 5 (m + 1).toNat) (hP : PDr Q B v (fun _ y => y ≤ m)) (hb : WBr Q B) (ok : okW u) (hm : m = u.length) (hr : ∀ p, 0 ≤ p → p < m → Q (B + 544 + 39) p = u.getD p.toNat 0) : c2 (Q (B + 544 + 40) m) = wgt (T 0 m) u := by
  have f14 := hF.1
  have hW : WOk nf sf fi (ftX (Q (B + 544 + 39))) m (wyc (Q (B + 544 + 40))) := fun s i j s0 s1 i0 ij jn => by
    have w := hP i j i0 ij (by omega) jn s s0 s1
    rw [wyc_in ⟨s0, s1⟩, w]
    unfold sVr
    rw [tl.1, sumN_sh]
    congr 1
    refine sumN_congr fun k hk => ?_
    obtain ⟨a1, a2, a3⟩ := tl.2 (0 + k) (by omega) (by omega)
    show (if Q (B + 544 + 3) (14 * v + (0 + k)) = s then _ else _) = _
    rw [a1]
    by_cases c : sf (0 + k) = s
    · rw [if_pos c, if_pos c]
      unfold rV
      have e : il (gC (Q (B + 544 + 5)) (14 * v + (0 + k))) 0 (Q (B + 544 + 4) (14 * v + (0 + k)) - 0).toNat = fi (0 + k) := by
        rw [a2, show (((fi (0 + k)).length : Int) - 0).toNat = (fi (0 + k)).length by omega]
        exact il_AtI _ _ a3
      rw [e]
    · rw [if_neg c, if_neg c]
  have c := cnt_ok hF m1 m4 hT (x := Q (B + 544 + 39)) (fun q q0 q1 => by
    rw [hr q q0 q1]
    exact okW_get ok (by omega)) (fun it q => rfl) (fun s a b a0 ab bn => by
    by_cases g : 0 ≤ s ∧ s ≤ 5
    · rw [wyc_in g]
      exact (hb s a b g.1 g.2 a0 ab (by omega)).1
    · rw [wyc_out g]
      exact Int.le_refl 0) hW (6 * m.toNat + 6) 0 m 0 (Int.le_refl _) (by omega) (Int.le_refl _) (by omega) (Int.le_refl _) (by omega)
  rw [wyc_in ⟨Int.le_refl _, by omega⟩, show (289 * 0 + 17 * 0 + m : Int) = m by omega, show m - 0 = m by omega] at c
  rw [c]
  congr 1
  rw [show m.toNat = u.length by omega]
  exact il_get u 0 (fun j hj => by
    rw [show (0 : Int) + j = j by omega, hr j (by omega) (by omega), Int.toNat_natCast])
set_option maxHeartbeats 400000 in
theorem FTr_fw {G G' : Nat → Int → Int} {B : Nat} {v : Int} (hF : FTr G B v) (h : FTw G G' B) : FTr G' B v := by
  unfold FTr
  rw [h.1 (B + 544 + 2) (by omega) (by omega) (by omega) (by omega), h.1 (B + 544 + 3) (by omega) (by omega) (by omega) (by omega), h.1 (B + 544 + 4) (by omega) (by omega) (by omega) (by omega), h.1 (B + 544 + 5) (by omega) (by omega) (by omega) (by omega)]
  exact hF
set_option maxHeartbeats 400000 in
theorem TLr_fw {G G' : Nat → Int → Int} {B : Nat} {v nf : Int} {sf : Int → Int} {fi : Int → List Int} (hF : TLr G B v nf sf fi) (h : FTw G G' B) : TLr G' B v nf sf fi := by
  unfold TLr
  rw [h.1 (B + 544 + 2) (by omega) (by omega) (by omega) (by omega), h.1 (B + 544 + 3) (by omega) (by omega) (by omega) (by omega), h.1 (B + 544 + 4) (by omega) (by omega) (by omega) (by omega), h.1 (B + 544 + 5) (by omega) (by omega) (by omega) (by omega)]
  exact hF
set_option maxHeartbeats 400000 in
theorem HRr_fw {G G' : Nat → Int → Int} {B : Nat} {o : Int} {E : (Int × (Int → List Int) × (Int → Int))} (hF : HRr G B o E) (h : FTw G G' B) : HRr G' B o E := by
  unfold HRr
  rw [h.1 (B + 544 + 47) (by omega) (by omega) (by omega) (by omega), h.1 (B + 544 + 48) (by omega) (by omega) (by omega) (by omega)]
  exact hF
def tans (m : Int) (u : List Int) (i : Int) : Int := if i = -1 then m else if 0 ≤ i ∧ i ≤ m - 1 then u.getD i.toNat 0 else -1
set_option maxHeartbeats 400000 in
/-- the answer is told -/
theorem tw_r {T0 : Nat → Option q_T} {nx B : Nat} {R : Nat → Nat → Option Value} {v n i3 : Int} {m i w y : Int} {G : Nat → Int → Int} (hM : Ly T0 R (B + 544) (L12 (B + 544))) (m1 : 1 ≤ m) (m4 : m ≤ 4) (b1 : -2147483648 ≤ i3) (b2 : i3 < 2147483648) (hy : 0 ≤ i3 → i3 < m → G (B + 544 + 39) i3 = y) (Kn : List Value → q_M → Prop) (Kr : Option Value → q_M → Prop) : (q_sri (fun _ => True) (q_te (q_cm q_Req (q_l 3) (q_k (-1))) (q_l 4) (q_te (q_cz q_Rne (q_cs q_oi 3 0 0 fX12_in (q_ac Value.long (q_il (q_l 3)) (q_ac Value.long (q_kl 0) (q_ac Value.long (q_il (q_2 q_gisub (q_l 4) (q_k 1))) q_an))))) (q_ai (q_fr 12 46 (q_r 0)) (q_l 3)) (q_k (-1))))) [.ref (B + 544), .int (zI v), .int (zI n), .int (zI i3), .int (zI m), .int (zI i), .int (zI w)] (st T0 nx 0 0 R G) Kn Kr = Kr (some (.int (zI (if i3 = -1 then m else if 0 ≤ i3 ∧ i3 ≤ m - 1 then y else -1)))) (st T0 nx 0 0 R G) := by
  by_cases g : i3 = -1
  · rw [if_pos g]
    simp (disch := omega) only [↓k_mk, ↓k_sq, ↓k_sk, ↓k_bk, ↓k_if, ↓k_te, ↓k_cm, ↓k_cz, ↓k_an2, ↓k_or2, ↓k_no, ↓k_ci, ↓k_l0, ↓k_r0, ↓k_se0, ↓k_ic0, ↓k_l1, ↓k_r1, ↓k_se1, ↓k_ic1, ↓k_de1, ↓k_tk1, ↓k_l2, ↓k_r2, ↓k_se2, ↓k_ic2, ↓k_de2, ↓k_tk2, ↓k_l3, ↓k_r3, ↓k_se3, ↓k_ic3, ↓k_de3, ↓k_tk3, ↓k_l4, ↓k_r4, ↓k_se4, ↓k_ic4, ↓k_de4, ↓k_tk4, ↓k_l5, ↓k_r5, ↓k_se5, ↓k_ic5, ↓k_de5, ↓k_tk5, ↓k_l6, ↓k_r6, ↓k_se6, ↓k_ic6, ↓k_de6, ↓k_tk6, ↓k_l7, ↓k_r7, ↓k_se7, ↓k_ic7, ↓k_de7, ↓k_tk7, ↓k_l8, ↓k_r8, ↓k_se8, ↓k_ic8, ↓k_de8, ↓k_tk8, ↓k_l9, ↓k_r9, ↓k_se9, ↓k_ic9, ↓k_de9, ↓k_tk9, ↓k_l10, ↓k_r10, ↓k_se10, ↓k_ic10, ↓k_de10, ↓k_tk10, ↓k_l11, ↓k_r11, ↓k_se11, ↓k_ic11, ↓k_de11, ↓k_tk11, ↓k_l12, ↓k_r12, ↓k_se12, ↓k_ic12, ↓k_de12, ↓k_tk12, ↓k_l13, ↓k_r13, ↓k_se13, ↓k_ic13, ↓k_de13, ↓k_tk13, ↓k_l14, ↓k_r14, ↓k_se14, ↓k_ic14, ↓k_de14, ↓k_tk14, ↓k_l15, ↓k_r15, ↓k_se15, ↓k_ic15, ↓k_de15, ↓k_tk15, ↓k_l16, ↓k_r16, ↓k_se16, ↓k_ic16, ↓k_de16, ↓k_tk16, ↓k_l17, ↓k_r17, ↓k_se17, ↓k_ic17, ↓k_de17, ↓k_tk17, ↓k_l18, ↓k_r18, ↓k_se18, ↓k_ic18, ↓k_de18, ↓k_tk18, ↓k_l19, ↓k_r19, ↓k_se19, ↓k_ic19, ↓k_de19, ↓k_tk19, ↓k_l20, ↓k_r20, ↓k_se20, ↓k_ic20, ↓k_de20, ↓k_tk20, ↓k_l21, ↓k_r21, ↓k_se21, ↓k_ic21, ↓k_de21, ↓k_tk21, ↓k_l22, ↓k_r22, ↓k_se22, ↓k_ic22, ↓k_de22, ↓k_tk22, ↓k_l23, ↓k_r23, ↓k_se23, ↓k_ic23, ↓k_de23, ↓k_tk23, ↓k_l24, ↓k_r24, ↓k_se24, ↓k_ic24, ↓k_de24, ↓k_tk24, ↓k_l25, ↓k_r25, ↓k_se25, ↓k_ic25, ↓k_de25, ↓k_tk25, ↓k_k, ↓k_kn, ↓k_kl, ↓k_kln, ↓k_il, ↓k_2, ↓k_1, ↓k_2c, ↓k_2l, ↓k_ac, ↓k_an, ↓k_cs, ↓k_cv, ↓k_fi, ↓k_fr, ↓k_ai, ↓k_az, ↓k_ar, ↓k_sai, ↓k_saz, ↓k_soa, ↓k_sof, ↓k_spf, ↓k_sx, ↓k_blk, ↓k_sset, ↓k_sdec, ↓k_sri, ↓k_srv, ↓k_srr, ↓k_nop, ↓k_add, ↓k_sub, ↓k_mul, ↓k_min, ↓k_max, ↓k_shr, ↓k_shl, ↓k_or, ↓k_ilz, ↓k_addl, ↓k_rt, ↓k_rb, ↓k_rbz, ↓k_rsi, ↓k_rsr, ↓k_rsv, ↓reduceIte, g, eq_self, List.length_cons, List.length_nil, List.forall_mem_cons, List.not_mem_nil, Value.category, true_and, and_true, false_and, and_false, or_true, true_or, or_false, false_or, Nat.zero_le, forall_const, implies_true, false_implies, Nat.zero_add, Nat.reduceAdd, Nat.reduceLT, Nat.reduceLeDiff, Nat.le_refl, not_true_eq_false, not_false_eq_true, r_eq, r_ne, r_lt, r_ge, r_gt, r_le, bz_ne, nn_toNat, cn_of, cn_0, cn_1, i10, Int.reduceLE, Int.reduceLT, Int.reduceEq, bz_T, bz_F, ite_self, mulc, st_bud]
  · rw [if_neg g]
    by_cases h : 0 ≤ i3 ∧ i3 ≤ m - 1
    · rw [if_pos h]
      have hy := hy h.1 (by omega)
      have h1 := h.1
      have h2 := h.2
      simp (disch := omega) only [↓k_mk, ↓k_sq, ↓k_sk, ↓k_bk, ↓k_if, ↓k_te, ↓k_cm, ↓k_cz, ↓k_an2, ↓k_or2, ↓k_no, ↓k_ci, ↓k_l0, ↓k_r0, ↓k_se0, ↓k_ic0, ↓k_l1, ↓k_r1, ↓k_se1, ↓k_ic1, ↓k_de1, ↓k_tk1, ↓k_l2, ↓k_r2, ↓k_se2, ↓k_ic2, ↓k_de2, ↓k_tk2, ↓k_l3, ↓k_r3, ↓k_se3, ↓k_ic3, ↓k_de3, ↓k_tk3, ↓k_l4, ↓k_r4, ↓k_se4, ↓k_ic4, ↓k_de4, ↓k_tk4, ↓k_l5, ↓k_r5, ↓k_se5, ↓k_ic5, ↓k_de5, ↓k_tk5, ↓k_l6, ↓k_r6, ↓k_se6, ↓k_ic6, ↓k_de6, ↓k_tk6, ↓k_l7, ↓k_r7, ↓k_se7, ↓k_ic7, ↓k_de7, ↓k_tk7, ↓k_l8, ↓k_r8, ↓k_se8, ↓k_ic8, ↓k_de8, ↓k_tk8, ↓k_l9, ↓k_r9, ↓k_se9, ↓k_ic9, ↓k_de9, ↓k_tk9, ↓k_l10, ↓k_r10, ↓k_se10, ↓k_ic10, ↓k_de10, ↓k_tk10, ↓k_l11, ↓k_r11, ↓k_se11, ↓k_ic11, ↓k_de11, ↓k_tk11, ↓k_l12, ↓k_r12, ↓k_se12, ↓k_ic12, ↓k_de12, ↓k_tk12, ↓k_l13, ↓k_r13, ↓k_se13, ↓k_ic13, ↓k_de13, ↓k_tk13, ↓k_l14, ↓k_r14, ↓k_se14, ↓k_ic14, ↓k_de14, ↓k_tk14, ↓k_l15, ↓k_r15, ↓k_se15, ↓k_ic15, ↓k_de15, ↓k_tk15, ↓k_l16, ↓k_r16, ↓k_se16, ↓k_ic16, ↓k_de16, ↓k_tk16, ↓k_l17, ↓k_r17, ↓k_se17, ↓k_ic17, ↓k_de17, ↓k_tk17, ↓k_l18, ↓k_r18, ↓k_se18, ↓k_ic18, ↓k_de18, ↓k_tk18, ↓k_l19, ↓k_r19, ↓k_se19, ↓k_ic19, ↓k_de19, ↓k_tk19, ↓k_l20, ↓k_r20, ↓k_se20, ↓k_ic20, ↓k_de20, ↓k_tk20, ↓k_l21, ↓k_r21, ↓k_se21, ↓k_ic21, ↓k_de21, ↓k_tk21, ↓k_l22, ↓k_r22, ↓k_se22, ↓k_ic22, ↓k_de22, ↓k_tk22, ↓k_l23, ↓k_r23, ↓k_se23, ↓k_ic23, ↓k_de23, ↓k_tk23, ↓k_l24, ↓k_r24, ↓k_se24, ↓k_ic24, ↓k_de24, ↓k_tk24, ↓k_l25, ↓k_r25, ↓k_se25, ↓k_ic25, ↓k_de25, ↓k_tk25, ↓k_k, ↓k_kn, ↓k_kl, ↓k_kln, ↓k_il, ↓k_2, ↓k_1, ↓k_2c, ↓k_2l, ↓k_ac, ↓k_an, ↓k_cs, ↓k_cv, ↓k_fi, ↓k_fr, ↓k_ai, ↓k_az, ↓k_ar, ↓k_sai, ↓k_saz, ↓k_soa, ↓k_sof, ↓k_spf, ↓k_sx, ↓k_blk, ↓k_sset, ↓k_sdec, ↓k_sri, ↓k_srv, ↓k_srr, ↓k_nop, ↓k_add, ↓k_sub, ↓k_mul, ↓k_min, ↓k_max, ↓k_shr, ↓k_shl, ↓k_or, ↓k_ilz, ↓k_addl, ↓k_rt, ↓k_rb, ↓k_rbz, ↓k_rsi, ↓k_rsr, ↓k_rsv, ↓reduceIte, g, h1, h2, ↓c12_in, zI_long, hy, eq_self, ↓(k_cs3 dX12_in), ↓xr12_46 hM, ↓xa12_46 hM, ↓xs12_46 hM, ↓xo12_46 hM, ↓xc12_46 hM, ↓xd12_46 hM, List.length_cons, List.length_nil, List.forall_mem_cons, List.not_mem_nil, Value.category, true_and, and_true, false_and, and_false, or_true, true_or, or_false, false_or, Nat.zero_le, forall_const, implies_true, false_implies, Nat.zero_add, Nat.reduceAdd, Nat.reduceLT, Nat.reduceLeDiff, Nat.le_refl, not_true_eq_false, not_false_eq_true, r_eq, r_ne, r_lt, r_ge, r_gt, r_le, bz_ne, nn_toNat, cn_of, cn_0, cn_1, i10, Int.reduceLE, Int.reduceLT, Int.reduceEq, bz_T, bz_F, ite_self, mulc, st_bud]
    · rw [if_neg h]
      clear hy
      simp (disch := omega) only [↓k_mk, ↓k_sq, ↓k_sk, ↓k_bk, ↓k_if, ↓k_te, ↓k_cm, ↓k_cz, ↓k_an2, ↓k_or2, ↓k_no, ↓k_ci, ↓k_l0, ↓k_r0, ↓k_se0, ↓k_ic0, ↓k_l1, ↓k_r1, ↓k_se1, ↓k_ic1, ↓k_de1, ↓k_tk1, ↓k_l2, ↓k_r2, ↓k_se2, ↓k_ic2, ↓k_de2, ↓k_tk2, ↓k_l3, ↓k_r3, ↓k_se3, ↓k_ic3, ↓k_de3, ↓k_tk3, ↓k_l4, ↓k_r4, ↓k_se4, ↓k_ic4, ↓k_de4, ↓k_tk4, ↓k_l5, ↓k_r5, ↓k_se5, ↓k_ic5, ↓k_de5, ↓k_tk5, ↓k_l6, ↓k_r6, ↓k_se6, ↓k_ic6, ↓k_de6, ↓k_tk6, ↓k_l7, ↓k_r7, ↓k_se7, ↓k_ic7, ↓k_de7, ↓k_tk7, ↓k_l8, ↓k_r8, ↓k_se8, ↓k_ic8, ↓k_de8, ↓k_tk8, ↓k_l9, ↓k_r9, ↓k_se9, ↓k_ic9, ↓k_de9, ↓k_tk9, ↓k_l10, ↓k_r10, ↓k_se10, ↓k_ic10, ↓k_de10, ↓k_tk10, ↓k_l11, ↓k_r11, ↓k_se11, ↓k_ic11, ↓k_de11, ↓k_tk11, ↓k_l12, ↓k_r12, ↓k_se12, ↓k_ic12, ↓k_de12, ↓k_tk12, ↓k_l13, ↓k_r13, ↓k_se13, ↓k_ic13, ↓k_de13, ↓k_tk13, ↓k_l14, ↓k_r14, ↓k_se14, ↓k_ic14, ↓k_de14, ↓k_tk14, ↓k_l15, ↓k_r15, ↓k_se15, ↓k_ic15, ↓k_de15, ↓k_tk15, ↓k_l16, ↓k_r16, ↓k_se16, ↓k_ic16, ↓k_de16, ↓k_tk16, ↓k_l17, ↓k_r17, ↓k_se17, ↓k_ic17, ↓k_de17, ↓k_tk17, ↓k_l18, ↓k_r18, ↓k_se18, ↓k_ic18, ↓k_de18, ↓k_tk18, ↓k_l19, ↓k_r19, ↓k_se19, ↓k_ic19, ↓k_de19, ↓k_tk19, ↓k_l20, ↓k_r20, ↓k_se20, ↓k_ic20, ↓k_de20, ↓k_tk20, ↓k_l21, ↓k_r21, ↓k_se21, ↓k_ic21, ↓k_de21, ↓k_tk21, ↓k_l22, ↓k_r22, ↓k_se22, ↓k_ic22, ↓k_de22, ↓k_tk22, ↓k_l23, ↓k_r23, ↓k_se23, ↓k_ic23, ↓k_de23, ↓k_tk23, ↓k_l24, ↓k_r24, ↓k_se24, ↓k_ic24, ↓k_de24, ↓k_tk24, ↓k_l25, ↓k_r25, ↓k_se25, ↓k_ic25, ↓k_de25, ↓k_tk25, ↓k_k, ↓k_kn, ↓k_kl, ↓k_kln, ↓k_il, ↓k_2, ↓k_1, ↓k_2c, ↓k_2l, ↓k_ac, ↓k_an, ↓k_cs, ↓k_cv, ↓k_fi, ↓k_fr, ↓k_ai, ↓k_az, ↓k_ar, ↓k_sai, ↓k_saz, ↓k_soa, ↓k_sof, ↓k_spf, ↓k_sx, ↓k_blk, ↓k_sset, ↓k_sdec, ↓k_sri, ↓k_srv, ↓k_srr, ↓k_nop, ↓k_add, ↓k_sub, ↓k_mul, ↓k_min, ↓k_max, ↓k_shr, ↓k_shl, ↓k_or, ↓k_ilz, ↓k_addl, ↓k_rt, ↓k_rb, ↓k_rbz, ↓k_rsi, ↓k_rsr, ↓k_rsv, ↓reduceIte, g, h, ↓c12_in, zI_long, ↓(k_cs3 dX12_in), List.length_cons, List.length_nil, List.forall_mem_cons, List.not_mem_nil, Value.category, true_and, and_true, false_and, and_false, or_true, true_or, or_false, false_or, Nat.zero_le, forall_const, implies_true, false_implies, Nat.zero_add, Nat.reduceAdd, Nat.reduceLT, Nat.reduceLeDiff, Nat.le_refl, not_true_eq_false, not_false_eq_true, r_eq, r_ne, r_lt, r_ge, r_gt, r_le, bz_ne, nn_toNat, cn_of, cn_0, cn_1, i10, Int.reduceLE, Int.reduceLT, Int.reduceEq, bz_T, bz_F, ite_self, mulc, st_bud]
end
