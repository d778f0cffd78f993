section
/-! kept: the reference goes one way -/
theorem rr_nodes {T : Nat → Option q_T} {nx B ua uz : Nat} {R : Nat → Nat → Option Value} {G0 G : Nat → Int → Int} {v tu z : Int} {goal w : List Int} {s : List (List Int × Int)} {i j : Nat} (hM : Ly T R (B + 544) (L12 (B + 544))) (hF : IFm G0 B) (kv : 0 ≤ v ∧ v ≤ 1) (wy : WAY G0 B v (20 + j) (20 + (jxN j : Nat)) ua uz) (hu : B + 250 ≤ ua ∧ ua + 10 ≤ B + 370) (hz : B + 250 ≤ uz ∧ uz + 10 ≤ B + 370) (htu : 0 ≤ tu ∧ tu ≤ 5) (hj : j < 12) (rg : RowR G0 G0 B (21 + 2 * tu) v goal) : ∀ (d m : Nat) (s : List (List Int × Int)) (G : Nat → Int → Int), ((m + d : Nat) : Int) = nb (wf w) w.length → RCr G0 G B v goal w i z s →
    (∃ s' G', runL (kNode G0 B v goal i ua uz) d m s = Sum.inl s' ∧ RCr G0 G' B v goal w i z s' ∧ ∀ (Kn : List Value → q_M → Prop) (Kr : Option Value → q_M → Prop), Kn [.ref (B + 544), .int (zI tu), .int (zI (21 + 2 * tu)), .int (zI s'.length), .int (zI i), .int (zI (32 + i)), .int (zI j), .int (zI (j / 2 : Nat)), .int (zI 1), .int (zI (nb (wf w) w.length))] (st T nx 0 0 R G') → q_wh wcX12_kept_2 wsX12_kept_2 [.ref (B + 544), .int (zI tu), .int (zI (21 + 2 * tu)), .int (zI s.length), .int (zI i), .int (zI (32 + i)), .int (zI j), .int (zI (j / 2 : Nat)), .int (zI 1), .int (zI m)] (st T nx 0 0 R G) Kn Kr) ∨ ∃ a G', runL (kNode G0 B v goal i ua uz) d m s = Sum.inr a ∧ KR G0 G' B ∧ ∀ (Kn : List Value → q_M → Prop) (Kr : Option Value → q_M → Prop), Kr (some (.int (zI a))) (st T nx 0 0 R G') → q_wh wcX12_kept_2 wsX12_kept_2 [.ref (B + 544), .int (zI tu), .int (zI (21 + 2 * tu)), .int (zI s.length), .int (zI i), .int (zI (32 + i)), .int (zI j), .int (zI (j / 2 : Nat)), .int (zI 1), .int (zI m)] (st T nx 0 0 R G) Kn Kr := by
  intro d
  induction d with
  | zero =>
    intro m s G e rl
    refine Or.inl ⟨s, G, rfl, rl, fun Kn Kr hh => ?_⟩
    rw [← e] at hh
    refine q_outR (fun Kt Kf hk => ?_) hh
    obtain ⟨ki, rs, hi, hw, hz1⟩ := rl
    have rw0 := (rs.2 i hi).1
    rw [hw] at rw0
    have bn := (BS_root hF kv rw0).2.1
    have n40 := rw0.1.2
    have l60 := ki.1.2
    rw [← e] at bn n40
    have e0 : m + 0 = m := rfl
    rw [e0] at bn n40
    obtain ⟨N, hN⟩ : ∃ N, N = (m : Int) := ⟨_, rfl⟩
    have N0 : 0 ≤ N ∧ N ≤ 40 := by omega
    rw [← hN] at bn
    have hz : ¬ N < N := by omega
    have iL : 0 ≤ (i : Int) ∧ (i : Int) < 60 := by omega
    rw [← hN]
    clear hN e hh wy ki rs rw0 rg hF
    simp (disch := omega) only [↓wcX12_kept_2.eq_1, ↓k_mk, ↓k_sq, ↓k_sk, ↓k_bk, ↓k_if, ↓k_te, ↓k_cm, ↓k_cz, ↓k_an2, ↓k_or2, ↓k_no, ↓k_ci, ↓k_l0, ↓k_r0, ↓k_se0, ↓k_ic0, ↓k_l1, ↓k_r1, ↓k_se1, ↓k_ic1, ↓k_de1, ↓k_tk1, ↓k_l2, ↓k_r2, ↓k_se2, ↓k_ic2, ↓k_de2, ↓k_tk2, ↓k_l3, ↓k_r3, ↓k_se3, ↓k_ic3, ↓k_de3, ↓k_tk3, ↓k_l4, ↓k_r4, ↓k_se4, ↓k_ic4, ↓k_de4, ↓k_tk4, ↓k_l5, ↓k_r5, ↓k_se5, ↓k_ic5, ↓k_de5, ↓k_tk5, ↓k_l6, ↓k_r6, ↓k_se6, ↓k_ic6, ↓k_de6, ↓k_tk6, ↓k_l7, ↓k_r7, ↓k_se7, ↓k_ic7, ↓k_de7, ↓k_tk7, ↓k_l8, ↓k_r8, ↓k_se8, ↓k_ic8, ↓k_de8, ↓k_tk8, ↓k_l9, ↓k_r9, ↓k_se9, ↓k_ic9, ↓k_de9, ↓k_tk9, ↓k_l10, ↓k_r10, ↓k_se10, ↓k_ic10, ↓k_de10, ↓k_tk10, ↓k_l11, ↓k_r11, ↓k_se11, ↓k_ic11, ↓k_de11, ↓k_tk11, ↓k_l12, ↓k_r12, ↓k_se12, ↓k_ic12, ↓k_de12, ↓k_tk12, ↓k_l13, ↓k_r13, ↓k_se13, ↓k_ic13, ↓k_de13, ↓k_tk13, ↓k_l14, ↓k_r14, ↓k_se14, ↓k_ic14, ↓k_de14, ↓k_tk14, ↓k_l15, ↓k_r15, ↓k_se15, ↓k_ic15, ↓k_de15, ↓k_tk15, ↓k_l16, ↓k_r16, ↓k_se16, ↓k_ic16, ↓k_de16, ↓k_tk16, ↓k_l17, ↓k_r17, ↓k_se17, ↓k_ic17, ↓k_de17, ↓k_tk17, ↓k_l18, ↓k_r18, ↓k_se18, ↓k_ic18, ↓k_de18, ↓k_tk18, ↓k_l19, ↓k_r19, ↓k_se19, ↓k_ic19, ↓k_de19, ↓k_tk19, ↓k_l20, ↓k_r20, ↓k_se20, ↓k_ic20, ↓k_de20, ↓k_tk20, ↓k_l21, ↓k_r21, ↓k_se21, ↓k_ic21, ↓k_de21, ↓k_tk21, ↓k_l22, ↓k_r22, ↓k_se22, ↓k_ic22, ↓k_de22, ↓k_tk22, ↓k_l23, ↓k_r23, ↓k_se23, ↓k_ic23, ↓k_de23, ↓k_tk23, ↓k_l24, ↓k_r24, ↓k_se24, ↓k_ic24, ↓k_de24, ↓k_tk24, ↓k_l25, ↓k_r25, ↓k_se25, ↓k_ic25, ↓k_de25, ↓k_tk25, ↓k_k, ↓k_kn, ↓k_kl, ↓k_kln, ↓k_il, ↓k_2, ↓k_1, ↓k_2c, ↓k_2l, ↓k_ac, ↓k_an, ↓k_cs, ↓k_cv, ↓k_fi, ↓k_fr, ↓k_ai, ↓k_az, ↓k_ar, ↓k_sai, ↓k_saz, ↓k_soa, ↓k_sof, ↓k_spf, ↓k_sx, ↓k_blk, ↓k_sset, ↓k_sdec, ↓k_sri, ↓k_srv, ↓k_srr, ↓k_nop, ↓k_add, ↓k_sub, ↓k_mul, ↓k_min, ↓k_max, ↓k_shr, ↓k_shl, ↓k_or, ↓k_ilz, ↓k_addl, ↓k_rt, ↓k_rb, ↓k_rbz, ↓k_rsi, ↓k_rsr, ↓k_rsv, ↓reduceIte, bn, hz, ↓xr12_16 hM, ↓xa12_16 hM, ↓xs12_16 hM, ↓xo12_16 hM, ↓xc12_16 hM, ↓xd12_16 hM, List.length_cons, List.length_nil, List.forall_mem_cons, List.not_mem_nil, Value.category, true_and, and_true, false_and, and_false, or_true, true_or, or_false, false_or, Nat.zero_le, forall_const, implies_true, false_implies, Nat.zero_add, Nat.reduceAdd, Nat.reduceLT, Nat.reduceLeDiff, Nat.le_refl, not_true_eq_false, not_false_eq_true, r_eq, r_ne, r_lt, r_ge, r_gt, r_le, bz_ne, nn_toNat, cn_of, cn_0, cn_1, i10, Int.reduceLE, Int.reduceLT, Int.reduceEq, bz_T, bz_F, ite_self, mulc, st_bud]
    exact hk
  | succ d ih =>
    intro m s G e rl
    rcases rr_node (T := T) (nx := nx) (R := R) (m := m) hM hF kv wy hu hz htu hj rg rl (by omega) with ⟨s', G', k1, k2, k3⟩ | ⟨a, G', k1, k2, k3⟩
    · have is : (((m + 1 : Nat)) : Int) = (m : Int) + 1 := by omega
      rcases ih (m + 1) s' G' (by omega) k2 with ⟨s2, G2, j1, j2, j3⟩ | ⟨a, G2, j1, j2, j3⟩
      · refine Or.inl ⟨s2, G2, by rw [runL_l k1]; exact j1, j2, fun Kn Kr hh => q_backR (fun K Kf hk => k3 K Kr Kf hk) (by rw [← is]; exact j3 Kn Kr hh)⟩
      · refine Or.inr ⟨a, G2, by rw [runL_l k1]; exact j1, j2, fun Kn Kr hh => q_backR (fun K Kf hk => k3 K Kr Kf hk) (by rw [← is]; exact j3 Kn Kr hh)⟩
    · exact Or.inr ⟨a, G', runL_r k1, k2, fun Kn Kr hh => q_rtn1 fun K Kf => k3 K Kr Kf hh⟩
/-- the loop over the nodes -/
theorem rr_loop {T : Nat → Option q_T} {nx B ua uz : Nat} {R : Nat → Nat → Option Value} {G0 G : Nat → Int → Int} {v tu z : Int} {goal w : List Int} {s : List (List Int × Int)} {i j : Nat} (hM : Ly T R (B + 544) (L12 (B + 544))) (hF : IFm G0 B) (kv : 0 ≤ v ∧ v ≤ 1) (wy : WAY G0 B v (20 + j) (20 + (jxN j : Nat)) ua uz) (hu : B + 250 ≤ ua ∧ ua + 10 ≤ B + 370) (hz : B + 250 ≤ uz ∧ uz + 10 ≤ B + 370) (htu : 0 ≤ tu ∧ tu ≤ 5) (hj : j < 12) (rg : RowR G0 G0 B (21 + 2 * tu) v goal) (rl : RCr G0 G B v goal w i z s) :
    (∃ s' G', runL (kNode G0 B v goal i ua uz) (nb (wf w) w.length).toNat 0 s = Sum.inl s' ∧ RCr G0 G' B v goal w i z s' ∧ ∀ (Kn : List Value → q_M → Prop) (Kr : Option Value → q_M → Prop), wX12_kept_2 [.ref (B + 544), .int (zI tu), .int (zI (21 + 2 * tu)), .int (zI s.length), .int (zI i), .int (zI (32 + i)), .int (zI j), .int (zI (j / 2 : Nat)), .int (zI 1), .int (zI 0)] (st T nx 0 0 R G) Kn Kr = Kn [.ref (B + 544), .int (zI tu), .int (zI (21 + 2 * tu)), .int (zI s'.length), .int (zI i), .int (zI (32 + i)), .int (zI j), .int (zI (j / 2 : Nat)), .int (zI 1), .int (zI (nb (wf w) w.length))] (st T nx 0 0 R G')) ∨ ∃ a G', runL (kNode G0 B v goal i ua uz) (nb (wf w) w.length).toNat 0 s = Sum.inr a ∧ KR G0 G' B ∧ ∀ (Kn : List Value → q_M → Prop) (Kr : Option Value → q_M → Prop), wX12_kept_2 [.ref (B + 544), .int (zI tu), .int (zI (21 + 2 * tu)), .int (zI s.length), .int (zI i), .int (zI (32 + i)), .int (zI j), .int (zI (j / 2 : Nat)), .int (zI 1), .int (zI 0)] (st T nx 0 0 R G) Kn Kr = Kr (some (.int (zI a))) (st T nx 0 0 R G') := by
  have nbb := nb_b (wf w) w.length
  rcases rr_nodes (T := T) (nx := nx) (R := R) (G := G) (s := s) hM hF kv wy hu hz htu hj rg (nb (wf w) w.length).toNat 0 s G (by omega) rl with ⟨s', G', k1, k2, k3⟩ | ⟨a, G', k1, k2, k3⟩
  · exact Or.inl ⟨s', G', k1, k2, eX12_kept_2.eqn (k3 _ _ ⟨rfl, rfl⟩)⟩
  · exact Or.inr ⟨a, G', k1, k2, eX12_kept_2.eqr (k3 _ _ ⟨rfl, rfl⟩)⟩
/-- the holes of a side, while the search goes on -/
theorem r_holes {T : Nat → Option q_T} {nx B a : Nat} {R : Nat → Nat → Option Value} {G0 G : Nat → Int → Int} {x v : Int} {goal w : List Int} {z : Int} {s : List (List Int × Int)} {i : Nat} (hM : Ly T R (B + 544) (L12 (B + 544))) (hF : IFm G0 B) (kv : 0 ≤ v ∧ v ≤ 1) (x0 : 20 ≤ x) (x1 : x ≤ 31) (ha : B + 250 ≤ a ∧ a + 10 ≤ B + 370) (tk : TOK G0 B 1 x v a) (rt : 1000 ≤ G0 (a + 1) 0 ∨ isLf (G0 (a + 1) 0)) (rl : RCr G0 G B v goal w i z s) :
    ∃ (G' : Nat → Int → Int) (S : Nat), RCr G0 G' B v goal w i z s ∧ S < 65536 ∧ (∀ h : Nat, S.testBit h = true ↔ h < 16 ∧ ∃ q, 0 ≤ q ∧ q < G0 a 2 ∧ G0 (a + 1) q = 200 + h) ∧ ∀ K : Option Value → q_M → Prop, fX12_holesIn [.ref (B + 544), .int (zI x)] (st T nx 0 0 R G) K = K (some (.int (zI (S : Nat)))) (st T nx 0 0 R G') := by
  obtain ⟨ki, rs, hi, hw, hz1⟩ := rl
  have kr := rs.1
  have kf := KR_kf kr
  obtain ⟨M, hM0⟩ : ∃ M, M = mixM B G0 G := ⟨_, rfl⟩
  have lo : ∀ y, y < B + 544 → M y = G0 y := fun y q => by rw [hM0]; exact mix_lo q
  have hi' : ∀ y, B + 544 ≤ y → M y = G y := fun y q => by rw [hM0]; exact mix_hi q
  have iF : IFm M B := by rw [hM0]; exact KF_m hF kf
  have row : RowE G0 M B x := RowE_trans (kf.1 x (by omega) (by omega)) (RowE_of fun y q3 q4 => hi' y (by omega))
  have tk' : TOK M B 1 x v a := TOK_row hF (fun y q1 q2 => lo y (by omega)) (fun y q1 q2 => lo y (by omega)) row tk
  obtain ⟨R', s1, s2⟩ := low_sw T nx 0 0 B R G
  obtain ⟨Gx, S, c1, c2, c3, c4⟩ := c12_holesIn (T := T) (nx := nx) (R := R') (low_M s1 hM) (by omega) (by omega) iF tk' (by rw [lo _ (by omega)]; exact rt)
  rw [lo a (by omega), lo (a + 1) (by omega)] at c3
  have u : ∀ y, ¬ (B + 574 ≤ y ∧ y ≤ B + 582) → ¬ y = B + 544 → upM B G Gx y = G y := fun y q1 q2 => by
    by_cases q : y < B + 544
    · exact upM_lo q
    · rw [upM_hi (by omega), c1.1 y q1 q2, hi' y (by omega)]
  have kr' : KR G0 (upM B G Gx) B := ⟨fun y q1 q2 q3 q4 q5 q6 q7 => by rw [u y (by omega) q7]; exact kr.1 y q1 q2 q3 q4 q5 q6 q7, fun j q1 q2 q3 q4 q5 => by rw [upM_hi (by omega), c1.2.1 j (by omega) q4, hi' _ (by omega)]; exact kr.2.1 j q1 q2 q3 q4 q5, fun k q1 q2 => ⟨RowE_trans (kr.2.2 k q1 q2).1 (RowE_of fun y z1 z2 => u y (by omega) (by omega)), fun m m0 m1 => by rw [u _ (by omega) (by omega)]; exact (kr.2.2 k q1 q2).2 m m0 m1⟩⟩
  refine ⟨upM B G Gx, S, ⟨ki, RSr_keep hF kv ki.1.2 kr' (fun k _ => RowE_of fun y z1 z2 => u y (by omega) (by omega)) (u _ (by omega) (by omega)) rs, hi, hw, hz1⟩, c2, c3, fun K => ?_⟩
  have := c4 K
  rw [s2 M, hM0, mix_id (fun y q => mix_hi q), s2 Gx] at this
  exact this
end
