section
/-! call 34: distance -/
set_option maxHeartbeats 400000 in
/-- the reference's rows, seen from their ends, are the mirrored ones -/
theorem RvR_M {G : Nat → Int → Int} {B : Nat} {s n v : Int} {c e u lev : Int → Int} (lv : LEV n e u lev) (h : ∀ q, 0 ≤ q → q < n → PRp G B s v c e lev q) : ∃ Lr er, RvR G B s n Lr er ∧ MRo n (fun p => lbR v (c p)) e lev Lr er := by
  refine ⟨fun X => G (B + 544 + 57) (210 * s + (n - 1 - X)), fun X => n - G (B + 544 + 58) (210 * s + (n - 1 - X)), fun X X0 X1 => ⟨rfl, ?_⟩, fun q q0 q1 => ?_⟩
  · show G (B + 544 + 58) (210 * s + (n - 1 - X)) = n - (n - G (B + 544 + 58) (210 * s + (n - 1 - X)))
    omega
  obtain ⟨h1, h2⟩ := h q q0 q1
  have ei : n - 1 - mpl n e lev q = e q - lev q - 1 := by unfold mpl; omega
  refine ⟨?_, ?_⟩
  · show G (B + 544 + 57) (210 * s + (n - 1 - mpl n e lev q)) = lbR v (c q)
    rw [ei]
    exact h1
  · show n - G (B + 544 + 58) (210 * s + (n - 1 - mpl n e lev q)) = mpl n e lev q + (e q - q)
    rw [ei, h2]
    unfold mpl
    omega
set_option maxHeartbeats 400000 in
theorem lb_EDt {n n' v v' : Int} {c e c' e' : Int → Int} (kv : 0 ≤ v ∧ v ≤ 1) (kv' : 0 ≤ v' ∧ v' ≤ 1) (cb : ∀ p, 0 ≤ p → p < n → 0 ≤ c p ∧ c p ≤ 1013) (cb' : ∀ p, 0 ≤ p → p < n' → 0 ≤ c' p ∧ c' p ≤ 1013) : EDt (fun p => lbR v (c p)) e (fun p => lbR v' (c' p)) e' 0 n 0 n' = EDt (fun p => lab v (c p)) e (fun p => lab v' (c' p)) e' 0 n 0 n' := by
  have key : ∀ w x : Int, 0 ≤ w → w ≤ 1 → 0 ≤ x → x ≤ 1013 → ((lab w x = x ∧ lbR w x = x) ∨ (lab w x = x + 1000 ∧ lbR w x = x + 14 ∧ 1000 ≤ x)) := fun w x w0 w1 x0 x1 => by
    unfold lab lbR
    by_cases g : 1000 ≤ x
    · by_cases z : w = 0
      · rw [if_neg (fun q => q.2 z), if_pos g]
        omega
      · rw [if_pos ⟨g, z⟩, if_pos g]
        omega
    · rw [if_neg (fun q => g q.1), if_neg g]
      exact Or.inl ⟨rfl, rfl⟩
  have phi : ∀ w x : Int, 0 ≤ w → w ≤ 1 → 0 ≤ x → x ≤ 1013 → lbR w x = if 2000 ≤ lab w x then lab w x - 986 else lab w x := fun w x w0 w1 x0 x1 => by
    rcases key w x w0 w1 x0 x1 with h | h
    · rw [if_neg (by omega), h.1, h.2]
    · rw [if_pos (by omega), h.1, h.2.1]
      omega
  refine EDt_map (φ := fun y : Int => if 2000 ≤ y then y - 986 else y) (fun i i0 i1 => phi v (c i) kv.1 kv.2 (cb i i0 i1).1 (cb i i0 i1).2) (fun i i0 i1 => phi v' (c' i) kv'.1 kv'.2 (cb' i i0 i1).1 (cb' i i0 i1).2) (fun i j i0 i1 j0 j1 => ?_)
  rw [← phi v (c i) kv.1 kv.2 (cb i i0 i1).1 (cb i i0 i1).2, ← phi v' (c' j) kv'.1 kv'.2 (cb' j j0 j1).1 (cb' j j0 j1).2]
  have k1 := key v (c i) kv.1 kv.2 (cb i i0 i1).1 (cb i i0 i1).2
  have k2 := key v' (c' j) kv'.1 kv'.2 (cb' j j0 j1).1 (cb' j j0 j1).2
  have b1 := cb i i0 i1
  have b2 := cb' j j0 j1
  show lbR v (c i) = lbR v' (c' j) ↔ lab v (c i) = lab v' (c' j)
  omega
set_option maxHeartbeats 400000 in
theorem lbR_b {v c : Int} (v0 : 0 ≤ v) (v1 : v ≤ 1) (h : 0 ≤ c ∧ c ≤ 1013) : 0 ≤ lbR v c ∧ lbR v c ≤ 5000 := by
  unfold lbR
  split <;> omega
set_option maxHeartbeats 400000 in
/-- the reference's call, from its lines on -/
theorem c12_dist {T : Nat → Option q_T} {nx B : Nat} {R : Nat → Nat → Option Value} {G0 G : Nat → Int → Int} {a b : Nat} {i j v v' : Int} (hM : Ly T R (B + 544) (L12 (B + 544))) (i0 : 0 ≤ i) (i1 : i ≤ 11) (j0 : 0 ≤ j) (j1 : j ≤ 11) (hF : IFm G0 B) (tk : TOK G0 B 0 i v a) (tz : TOK G0 B 0 j v' b) (N1 : 1 ≤ G0 a 3) (N1' : 1 ≤ G0 b 3) (cb : ∀ p, 0 ≤ p → p < G0 a 2 → 0 ≤ G0 (a + 1) p ∧ G0 (a + 1) p ≤ 1013) (cb' : ∀ p, 0 ≤ p → p < G0 b 2 → 0 ≤ G0 (b + 1) p ∧ G0 (b + 1) p ≤ 1013) {lev lev' : Int → Int} (lv : LEV (G0 a 2) (G0 (a + 2)) (G0 (a + 3)) lev) (lv' : LEV (G0 b 2) (G0 (b + 2)) (G0 (b + 3)) lev') (fw : FWL G0 G B)
    (ti : ∀ K : Option Value → q_M → Prop, fX12_isTree [.ref (B + 544), .int (zI i)] (st T nx 0 0 R G) K = K (some (.int (zI 1))) (st T nx 0 0 R G)) (tj : ∀ K : Option Value → q_M → Prop, fX12_isTree [.ref (B + 544), .int (zI j)] (st T nx 0 0 R G) K = K (some (.int (zI 1))) (st T nx 0 0 R G)) :
    ∃ G' : Nat → Int → Int, (∀ x, ¬ (B + 580 ≤ x ∧ x ≤ B + 582) → ¬ (B + 601 ≤ x ∧ x ≤ B + 606) → G' x = G x) ∧ ∀ K : Option Value → q_M → Prop, fX12_distance [.ref (B + 544), .int (zI i), .int (zI j)] (st T nx 0 0 R G) K = K (some (.int (zI (EDt (fun p => lab v (G0 (a + 1) p)) (G0 (a + 2)) (fun p => lab v' (G0 (b + 1) p)) (G0 (b + 2)) 0 (G0 a 2) 0 (G0 b 2))))) (st T nx 0 0 R G') := by
  have tb := TOK_b tk
  have tb' := TOK_b tz
  obtain ⟨n, hn⟩ : ∃ n, n = G0 a 2 := ⟨_, rfl⟩
  obtain ⟨n', hn'⟩ : ∃ n, n = G0 b 2 := ⟨_, rfl⟩
  have n1 : 0 < n ∧ n ≤ 201 := by omega
  have n1' : 0 < n' ∧ n' ≤ 201 := by omega
  obtain ⟨G1, a1, a2, a3, a4⟩ := c12_linePieces (T := T) (nx := nx) (R := R) (s := 0) hM i0 (by omega) (Int.le_refl _) (by omega) hF tk N1 lv fw
  obtain ⟨G2, b1, b2, b3, b4⟩ := c12_linePieces (T := T) (nx := nx) (R := R) (s := 1) hM j0 (by omega) (by omega) (Int.le_refl _) hF tz N1' lv' (FWL_CH fw a1)
  rw [← hn] at a2 a3 lv cb ⊢
  rw [← hn'] at b2 b3 lv' cb' ⊢
  have a2' : ∀ q, 0 ≤ q → q < n → PRp G2 B 0 v (G0 (a + 1)) (G0 (a + 2)) lev q := fun q q0 q1 => by
    have k := b1.2.2.2.1 (210 * 0 + (G0 (a + 2) q - lev q - 1)) (by
      have := lv.1.1 q q0 q1
      have := lev_bb lv q0 q1
      omega)
    have := a2 q q0 q1
    unfold PRp at this ⊢
    rw [k.1, k.2]
    exact this
  have a3' : G2 (B + 544 + 59) 0 = n := by rw [b1.2.2.2.2 0 (by omega)]; exact a3
  obtain ⟨L, e, r1, m1⟩ := RvR_M lv a2'
  obtain ⟨L', e', r2, m2⟩ := RvR_M lv' b2
  have N := MRo_N lv m1
  have N' := MRo_N lv' m2
  have e0 := MRo_0 lv m1
  have e0' := MRo_0 lv' m2
  have eq := MRo_EDt lv lv' m1 m2
  rw [lb_EDt ⟨tb.2.2.1, tb.2.2.2.1⟩ ⟨tb'.2.2.1, tb'.2.2.2.1⟩ cb cb'] at eq
  rw [← eq]
  obtain ⟨G3, c1, c2, c3⟩ := di_0 (T := T) (nx := nx) (R := R) (G0 := G2) (t := i) (t' := j) hM n1.2 n1'.2 n1.1 n1'.1 N N' (MRo_L lv m1 (fun p p0 p1 => lbR_b tb.2.2.1 tb.2.2.2.1 (cb p p0 p1))) (MRo_L lv' m2 (fun p p0 p1 => lbR_b tb'.2.2.1 tb'.2.2.2.1 (cb' p p0 p1))) a3' b3 r1 r2 n.toNat (n - 1) G2 (by omega) (by omega) (fun _ _ _ => rfl) (WRt_mono WRt_start (fun k l hk hl kn ln z => by omega))
  have fin := WRt_end (WRt_mono c2 (p' := 0) (q' := -1) (fun k l hk hl kn ln z => by
    have := hk.1
    omega)) n1.1 n1'.1 e0 e0'
  have w0 := Wrf_at (G := G3) (B := B) (n := n) (n' := n') (i := 0) (j := 0) (Int.le_refl _) (by omega)
  rw [show (201 : Int) * 0 + 0 = 0 by omega, fin] at w0
  refine ⟨G3, fun x z1 z2 => by rw [c1 x (by omega) (by omega), b1.1 x (by omega) (by omega), a1.1 x (by omega) (by omega)], fun K => ?_⟩
  have lw : ∀ (Kn : List Value → q_M → Prop) (Kr : Option Value → q_M → Prop), wX12_distance_0 [.ref (B + 544), .int (zI i), .int (zI j), .int (zI (n - 1 - (n - 1)))] (st T nx 0 0 R G2) Kn Kr = Kn [.ref (B + 544), .int (zI i), .int (zI j), .int (zI n)] (st T nx 0 0 R G3) := eX12_distance_0.eqn (c3 _ _ ⟨rfl, rfl⟩)
  rw [show n - 1 - (n - 1) = 0 by omega] at lw
  obtain ⟨I, hI⟩ : ∃ I, I = 210 * (n - 1 - 0) + (n' - 1 - 0) := ⟨_, rfl⟩
  rw [← hI] at w0
  have g1 : G3 (B + 544 + 59) 0 = n := by rw [c1 _ (by omega) (by omega)]; exact a3'
  have g2 : G3 (B + 544 + 59) 1 = n' := by rw [c1 _ (by omega) (by omega)]; exact b3
  have i1' : ∀ (e : List Value) (K : Int32 → q_M → Prop), (q_2 q_gisub (q_2 q_giadd (q_2 q_gimul (q_k 210) (q_2 q_gisub (q_ai (q_fr 12 73 (q_r 0)) (q_k 0)) (q_k 1))) (q_ai (q_fr 12 73 (q_r 0)) (q_k 1))) (q_k 1)) (.ref (B + 544) :: .int (zI i) :: .int (zI j) :: e) (st T nx 0 0 R G3) K = K (zI I) (st T nx 0 0 R G3) := fun e K => by
    rw [show I = 210 * (n - 1) + n' - 1 by omega, ← g1, ← g2]
    clear lw a1 a2 a3 a4 b1 b2 b3 b4 c1 c2 c3 r1 r2 m1 m2 N N' lv lv' cb cb' tk tz fw hF a2' a3' fin w0 g1 g2 eq hI
    simp (disch := omega) only [↓k_mk, ↓k_sq, ↓k_sk, ↓k_bk, ↓k_if, ↓k_te, ↓k_cm, ↓k_cz, ↓k_an2, ↓k_or2, ↓k_no, ↓k_ci, ↓k_l0, ↓k_r0, ↓k_se0, ↓k_ic0, ↓k_l1, ↓k_r1, ↓k_se1, ↓k_ic1, ↓k_de1, ↓k_tk1, ↓k_l2, ↓k_r2, ↓k_se2, ↓k_ic2, ↓k_de2, ↓k_tk2, ↓k_l3, ↓k_r3, ↓k_se3, ↓k_ic3, ↓k_de3, ↓k_tk3, ↓k_l4, ↓k_r4, ↓k_se4, ↓k_ic4, ↓k_de4, ↓k_tk4, ↓k_l5, ↓k_r5, ↓k_se5, ↓k_ic5, ↓k_de5, ↓k_tk5, ↓k_l6, ↓k_r6, ↓k_se6, ↓k_ic6, ↓k_de6, ↓k_tk6, ↓k_l7, ↓k_r7, ↓k_se7, ↓k_ic7, ↓k_de7, ↓k_tk7, ↓k_l8, ↓k_r8, ↓k_se8, ↓k_ic8, ↓k_de8, ↓k_tk8, ↓k_l9, ↓k_r9, ↓k_se9, ↓k_ic9, ↓k_de9, ↓k_tk9, ↓k_l10, ↓k_r10, ↓k_se10, ↓k_ic10, ↓k_de10, ↓k_tk10, ↓k_l11, ↓k_r11, ↓k_se11, ↓k_ic11, ↓k_de11, ↓k_tk11, ↓k_l12, ↓k_r12, ↓k_se12, ↓k_ic12, ↓k_de12, ↓k_tk12, ↓k_l13, ↓k_r13, ↓k_se13, ↓k_ic13, ↓k_de13, ↓k_tk13, ↓k_l14, ↓k_r14, ↓k_se14, ↓k_ic14, ↓k_de14, ↓k_tk14, ↓k_l15, ↓k_r15, ↓k_se15, ↓k_ic15, ↓k_de15, ↓k_tk15, ↓k_l16, ↓k_r16, ↓k_se16, ↓k_ic16, ↓k_de16, ↓k_tk16, ↓k_l17, ↓k_r17, ↓k_se17, ↓k_ic17, ↓k_de17, ↓k_tk17, ↓k_l18, ↓k_r18, ↓k_se18, ↓k_ic18, ↓k_de18, ↓k_tk18, ↓k_l19, ↓k_r19, ↓k_se19, ↓k_ic19, ↓k_de19, ↓k_tk19, ↓k_l20, ↓k_r20, ↓k_se20, ↓k_ic20, ↓k_de20, ↓k_tk20, ↓k_l21, ↓k_r21, ↓k_se21, ↓k_ic21, ↓k_de21, ↓k_tk21, ↓k_l22, ↓k_r22, ↓k_se22, ↓k_ic22, ↓k_de22, ↓k_tk22, ↓k_l23, ↓k_r23, ↓k_se23, ↓k_ic23, ↓k_de23, ↓k_tk23, ↓k_l24, ↓k_r24, ↓k_se24, ↓k_ic24, ↓k_de24, ↓k_tk24, ↓k_l25, ↓k_r25, ↓k_se25, ↓k_ic25, ↓k_de25, ↓k_tk25, ↓k_k, ↓k_kn, ↓k_kl, ↓k_kln, ↓k_il, ↓k_2, ↓k_1, ↓k_2c, ↓k_2l, ↓k_ac, ↓k_an, ↓k_cs, ↓k_cv, ↓k_fi, ↓k_fr, ↓k_ai, ↓k_az, ↓k_ar, ↓k_sai, ↓k_saz, ↓k_soa, ↓k_sof, ↓k_spf, ↓k_sx, ↓k_blk, ↓k_sset, ↓k_sdec, ↓k_sri, ↓k_srv, ↓k_srr, ↓k_nop, ↓k_add, ↓k_sub, ↓k_mul, ↓k_min, ↓k_max, ↓k_shr, ↓k_shl, ↓k_or, ↓k_ilz, ↓k_addl, ↓k_rt, ↓k_rb, ↓k_rbz, ↓k_rsi, ↓k_rsr, ↓k_rsv, ↓reduceIte, eq_self, ↓xr12_73 hM, ↓xa12_73 hM, ↓xs12_73 hM, ↓xo12_73 hM, ↓xc12_73 hM, ↓xd12_73 hM, List.length_cons, List.length_nil, List.forall_mem_cons, List.not_mem_nil, Value.category, true_and, and_true, false_and, and_false, or_true, true_or, or_false, false_or, Nat.zero_le, forall_const, implies_true, false_implies, Nat.zero_add, Nat.reduceAdd, Nat.reduceLT, Nat.reduceLeDiff, Nat.le_refl, not_true_eq_false, not_false_eq_true, r_eq, r_ne, r_lt, r_ge, r_gt, r_le, bz_ne, nn_toNat, cn_of, cn_0, cn_1, i10, Int.reduceLE, Int.reduceLT, Int.reduceEq, bz_T, bz_F, ite_self, mulc, st_bud]
  obtain ⟨V, hV⟩ : ∃ V, V = EDt L e L' e' 0 n 0 n' := ⟨_, rfl⟩
  rw [← hV] at w0 ⊢
  have Ib : 0 ≤ I ∧ I < 44100 := by omega
  have one : ¬ (1 : Int) = 0 := by omega
  clear a1 a2 a3 b1 b2 b3 c1 c2 c3 r1 r2 m1 m2 N N' lv lv' cb cb' tk tz fw hF a2' a3' fin g1 g2 hI hV eq tb tb'
  simp (disch := omega) only [↓fX12_distance.eq_1, ↓uX12_distance, ↓(k_cv1 dX12_isTree (t12 hM)), ↓(k_cv2 dX12_linePieces (t12 hM)), ↓k_mk, ↓k_sq, ↓k_sk, ↓k_bk, ↓k_if, ↓k_te, ↓k_cm, ↓k_cz, ↓k_an2, ↓k_or2, ↓k_no, ↓k_ci, ↓k_l0, ↓k_r0, ↓k_se0, ↓k_ic0, ↓k_l1, ↓k_r1, ↓k_se1, ↓k_ic1, ↓k_de1, ↓k_tk1, ↓k_l2, ↓k_r2, ↓k_se2, ↓k_ic2, ↓k_de2, ↓k_tk2, ↓k_l3, ↓k_r3, ↓k_se3, ↓k_ic3, ↓k_de3, ↓k_tk3, ↓k_l4, ↓k_r4, ↓k_se4, ↓k_ic4, ↓k_de4, ↓k_tk4, ↓k_l5, ↓k_r5, ↓k_se5, ↓k_ic5, ↓k_de5, ↓k_tk5, ↓k_l6, ↓k_r6, ↓k_se6, ↓k_ic6, ↓k_de6, ↓k_tk6, ↓k_l7, ↓k_r7, ↓k_se7, ↓k_ic7, ↓k_de7, ↓k_tk7, ↓k_l8, ↓k_r8, ↓k_se8, ↓k_ic8, ↓k_de8, ↓k_tk8, ↓k_l9, ↓k_r9, ↓k_se9, ↓k_ic9, ↓k_de9, ↓k_tk9, ↓k_l10, ↓k_r10, ↓k_se10, ↓k_ic10, ↓k_de10, ↓k_tk10, ↓k_l11, ↓k_r11, ↓k_se11, ↓k_ic11, ↓k_de11, ↓k_tk11, ↓k_l12, ↓k_r12, ↓k_se12, ↓k_ic12, ↓k_de12, ↓k_tk12, ↓k_l13, ↓k_r13, ↓k_se13, ↓k_ic13, ↓k_de13, ↓k_tk13, ↓k_l14, ↓k_r14, ↓k_se14, ↓k_ic14, ↓k_de14, ↓k_tk14, ↓k_l15, ↓k_r15, ↓k_se15, ↓k_ic15, ↓k_de15, ↓k_tk15, ↓k_l16, ↓k_r16, ↓k_se16, ↓k_ic16, ↓k_de16, ↓k_tk16, ↓k_l17, ↓k_r17, ↓k_se17, ↓k_ic17, ↓k_de17, ↓k_tk17, ↓k_l18, ↓k_r18, ↓k_se18, ↓k_ic18, ↓k_de18, ↓k_tk18, ↓k_l19, ↓k_r19, ↓k_se19, ↓k_ic19, ↓k_de19, ↓k_tk19, ↓k_l20, ↓k_r20, ↓k_se20, ↓k_ic20, ↓k_de20, ↓k_tk20, ↓k_l21, ↓k_r21, ↓k_se21, ↓k_ic21, ↓k_de21, ↓k_tk21, ↓k_l22, ↓k_r22, ↓k_se22, ↓k_ic22, ↓k_de22, ↓k_tk22, ↓k_l23, ↓k_r23, ↓k_se23, ↓k_ic23, ↓k_de23, ↓k_tk23, ↓k_l24, ↓k_r24, ↓k_se24, ↓k_ic24, ↓k_de24, ↓k_tk24, ↓k_l25, ↓k_r25, ↓k_se25, ↓k_ic25, ↓k_de25, ↓k_tk25, ↓k_k, ↓k_kn, ↓k_kl, ↓k_kln, ↓k_il, ↓k_1, ↓k_2c, ↓k_2l, ↓k_ac, ↓k_an, ↓k_cs, ↓k_cv, ↓k_fi, ↓k_fr, ↓k_ai, ↓k_az, ↓k_ar, ↓k_sai, ↓k_saz, ↓k_soa, ↓k_sof, ↓k_spf, ↓k_sx, ↓k_blk, ↓k_sset, ↓k_sdec, ↓k_sri, ↓k_srv, ↓k_srr, ↓k_nop, ↓k_add, ↓k_sub, ↓k_mul, ↓k_min, ↓k_max, ↓k_shr, ↓k_shl, ↓k_or, ↓k_ilz, ↓k_addl, ↓k_rt, ↓k_rb, ↓k_rbz, ↓k_rsi, ↓k_rsr, ↓k_rsv, ↓reduceIte, one, ↓(k_cv1 dX12_isTree (t12 hM)), ↓ti, ↓tj, ↓(k_cv2 dX12_linePieces (t12 hM)), ↓a4, ↓b4, ↓lw, ↓i1', ← w0, ↓xr12_75 hM, ↓xa12_75 hM, ↓xs12_75 hM, ↓xo12_75 hM, ↓xc12_75 hM, ↓xd12_75 hM, List.length_cons, List.length_nil, List.forall_mem_cons, List.not_mem_nil, Value.category, true_and, and_true, false_and, and_false, or_true, true_or, or_false, false_or, Nat.zero_le, forall_const, implies_true, false_implies, Nat.zero_add, Nat.reduceAdd, Nat.reduceLT, Nat.reduceLeDiff, Nat.le_refl, not_true_eq_false, not_false_eq_true, r_eq, r_ne, r_lt, r_ge, r_gt, r_le, bz_ne, nn_toNat, cn_of, cn_0, cn_1, i10, Int.reduceLE, Int.reduceLT, Int.reduceEq, bz_T, bz_F, ite_self, mulc, st_bud]
end
section
set_option maxHeartbeats 400000 in
theorem op_34 (x1 : Int32) (x2 : Int32) : OpOK fX11_distance fX12_distance [.int x1, .int x2] := by
  obtain ⟨v1, rfl, a1, b1⟩ := zI_ex x1
  obtain ⟨v2, rfl, a2, b2⟩ := zI_ex x2
  intro T nx B R G hI
  have hI0 := hI
  obtain ⟨⟨j1, j2, j3, j4, hL, hM⟩, iLn, iFm, iTx, iWo, iLa, iSh, iMp, iRe⟩ := hI0
  by_cases hv : (0 ≤ v1 ∧ v1 ≤ 11) ∧ G (B + 398 + 10 * v1.toNat) 0 = 1
  · by_cases hw : (0 ≤ v2 ∧ v2 ≤ 11) ∧ G (B + 398 + 10 * v2.toNat) 0 = 1
    · obtain ⟨tk1, tN1, _⟩ := ITr_tell1 (iRe.1 v1 hv.1.1 hv.1.2) hv.2
      obtain ⟨tk2, tN2, _⟩ := ITr_tell1 (iRe.1 v2 hw.1.1 hw.1.2) hw.2
      have tb1 := TOK_b tk1
      have tb2 := TOK_b tk2
      have o1 := o11_3 hL (i := v1.toNat) (by omega)
      have o2 := o11_3 hL (i := v2.toNat) (by omega)
      have oc := o11_13 hL
      have k1 := tk1.2.2.2.1
      have k2 := tk2.2.2.2.1
      have F1 := (iFm _ tk1.2.2.1.1 tk1.2.2.1.2).2.2.1
      have F2 := (iFm _ tk2.2.2.1.1 tk2.2.2.1.2).2.2.1
      have cb1 : ∀ p, 0 ≤ p → p < G (B + 398 + 10 * v1.toNat) 2 → 0 ≤ G ((B + 398 + 10 * v1.toNat) + 1) p ∧ G ((B + 398 + 10 * v1.toNat) + 1) p ≤ 1013 := fun p p0 p1 => by
        have := Tr_cb k1 F1 tN1 p0 p1
        omega
      have cb2 : ∀ p, 0 ≤ p → p < G (B + 398 + 10 * v2.toNat) 2 → 0 ≤ G ((B + 398 + 10 * v2.toNat) + 1) p ∧ G ((B + 398 + 10 * v2.toNat) + 1) p ≤ 1013 := fun p p0 p1 => by
        have := Tr_cb k2 F2 tN2 p0 p1
        omega
      have u1 : G ((B + 398 + 10 * v1.toNat) + 3) 0 = -1 := k1.1.2.2.2.2.2.2.2
      have u2 : G ((B + 398 + 10 * v2.toNat) + 3) 0 = -1 := k2.1.2.2.2.2.2.2.2
      have lv1 := LEV_of (lev := lvO (G ((B + 398 + 10 * v1.toNat) + 3))) k1 (lvO_0 u1) (lvO_1 u1 (fun p p0 p1 => ⟨(Tr_par k1 p0 p1).1, (Tr_par k1 p0 p1).2.1⟩))
      have lv2 := LEV_of (lev := lvO (G ((B + 398 + 10 * v2.toNat) + 3))) k2 (lvO_0 u2) (lvO_1 u2 (fun p p0 p1 => ⟨(Tr_par k2 p0 p1).1, (Tr_par k2 p0 p1).2.1⟩))
      obtain ⟨Gc, q1, q2⟩ := c1_measure (T := T) (nx := nx) (R := R) (G := G) oc o1 (by omega) tb1.2.2.2.2.2.2.1 rfl tk1.2.2.1 rfl rfl rfl rfl cb1 u1 lv1 o2 (by omega) tb2.2.2.2.2.2.2.1 rfl tk2.2.2.1 rfl rfl rfl rfl cb2 u2 lv2
      have eT : Gc (B + 544 + 16) = G (B + 544 + 16) := q1 _ (by omega)
      have ti : ∀ K : Option Value → q_M → Prop, fX12_isTree [.ref (B + 544), .int (zI v1)] (st T nx 0 0 R Gc) K = K (some (.int (zI 1))) (st T nx 0 0 R Gc) := fun K => by
        rw [c12_isTreeX hM iRe.1 eT (by omega) (by omega), bz_t hv]
      have tj : ∀ K : Option Value → q_M → Prop, fX12_isTree [.ref (B + 544), .int (zI v2)] (st T nx 0 0 R Gc) K = K (some (.int (zI 1))) (st T nx 0 0 R Gc) := fun K => by
        rw [c12_isTreeX hM iRe.1 eT (by omega) (by omega), bz_t hw]
      obtain ⟨Gf, r1, r2⟩ := c12_dist (T := T) (nx := nx) (R := R) (G0 := G) (G := Gc) hM hv.1.1 hv.1.2 hw.1.1 hw.1.2 iFm tk1 tk2 tN1 tN2 cb1 cb2 lv1 lv2 (fun x x0 x1 x2 => q1 x (by omega)) ti tj
      have off : ∀ x, ¬ ((B + 28 ≤ x ∧ x < B + 46) ∨ (B + 580 ≤ x ∧ x ≤ B + 582) ∨ (B + 601 ≤ x ∧ x ≤ B + 606)) → Gf x = G x := fun x hx => by rw [r1 x (by omega) (by omega), q1 x (by omega)]
      have hI2 : Inv T R Gf B := Inv_off hI (Or.inl fun a ha => off a (by omega)) (Or.inl fun a ha => off a (by omega)) (Or.inl fun a ha => off a (by omega)) (Or.inl fun a ha => off a (by omega)) (Or.inl ⟨by rw [off B (by omega)], by rw [off (B + 544) (by omega)]⟩) (Or.inl fun a ha => off a (by omega)) (Or.inl fun a ha => off a (by omega)) (Or.inl ⟨fun a ha => off a (by unfold FRe at ha; omega), by rw [off (B + 544) (by omega)]⟩)
      have lo1 : ∀ x, x < B → Gc x = G x := fun x q => q1 x (by omega)
      have lo2 : ∀ x, x < B → Gf x = G x := fun x q => off x (by omega)
      refine op_gen fun K hK => ?_
      clear tk1 tk2 k1 k2 F1 F2 cb1 cb2 lv1 lv2 off r1 q1 ti tj eT
      simp (disch := omega) only [↓fX11_distance.eq_1, ↓sX11_distance_.eq_1, ↓(k_cv1 dX11_isTree (t11 hL)), ↓k_mk, ↓k_sq, ↓k_sk, ↓k_bk, ↓k_if, ↓k_te, ↓k_cm, ↓k_cz, ↓k_an2, ↓k_or2, ↓k_no, ↓k_ci, ↓k_l0, ↓k_r0, ↓k_se0, ↓k_ic0, ↓k_l1, ↓k_r1, ↓k_se1, ↓k_ic1, ↓k_de1, ↓k_tk1, ↓k_l2, ↓k_r2, ↓k_se2, ↓k_ic2, ↓k_de2, ↓k_tk2, ↓k_l3, ↓k_r3, ↓k_se3, ↓k_ic3, ↓k_de3, ↓k_tk3, ↓k_l4, ↓k_r4, ↓k_se4, ↓k_ic4, ↓k_de4, ↓k_tk4, ↓k_l5, ↓k_r5, ↓k_se5, ↓k_ic5, ↓k_de5, ↓k_tk5, ↓k_l6, ↓k_r6, ↓k_se6, ↓k_ic6, ↓k_de6, ↓k_tk6, ↓k_l7, ↓k_r7, ↓k_se7, ↓k_ic7, ↓k_de7, ↓k_tk7, ↓k_l8, ↓k_r8, ↓k_se8, ↓k_ic8, ↓k_de8, ↓k_tk8, ↓k_l9, ↓k_r9, ↓k_se9, ↓k_ic9, ↓k_de9, ↓k_tk9, ↓k_l10, ↓k_r10, ↓k_se10, ↓k_ic10, ↓k_de10, ↓k_tk10, ↓k_l11, ↓k_r11, ↓k_se11, ↓k_ic11, ↓k_de11, ↓k_tk11, ↓k_l12, ↓k_r12, ↓k_se12, ↓k_ic12, ↓k_de12, ↓k_tk12, ↓k_l13, ↓k_r13, ↓k_se13, ↓k_ic13, ↓k_de13, ↓k_tk13, ↓k_l14, ↓k_r14, ↓k_se14, ↓k_ic14, ↓k_de14, ↓k_tk14, ↓k_l15, ↓k_r15, ↓k_se15, ↓k_ic15, ↓k_de15, ↓k_tk15, ↓k_l16, ↓k_r16, ↓k_se16, ↓k_ic16, ↓k_de16, ↓k_tk16, ↓k_l17, ↓k_r17, ↓k_se17, ↓k_ic17, ↓k_de17, ↓k_tk17, ↓k_l18, ↓k_r18, ↓k_se18, ↓k_ic18, ↓k_de18, ↓k_tk18, ↓k_l19, ↓k_r19, ↓k_se19, ↓k_ic19, ↓k_de19, ↓k_tk19, ↓k_l20, ↓k_r20, ↓k_se20, ↓k_ic20, ↓k_de20, ↓k_tk20, ↓k_l21, ↓k_r21, ↓k_se21, ↓k_ic21, ↓k_de21, ↓k_tk21, ↓k_l22, ↓k_r22, ↓k_se22, ↓k_ic22, ↓k_de22, ↓k_tk22, ↓k_l23, ↓k_r23, ↓k_se23, ↓k_ic23, ↓k_de23, ↓k_tk23, ↓k_l24, ↓k_r24, ↓k_se24, ↓k_ic24, ↓k_de24, ↓k_tk24, ↓k_l25, ↓k_r25, ↓k_se25, ↓k_ic25, ↓k_de25, ↓k_tk25, ↓k_k, ↓k_kn, ↓k_kl, ↓k_kln, ↓k_il, ↓k_2, ↓k_1, ↓k_2c, ↓k_2l, ↓k_ac, ↓k_an, ↓k_cs, ↓k_cv, ↓k_fi, ↓k_fr, ↓k_ai, ↓k_az, ↓k_ar, ↓k_sai, ↓k_saz, ↓k_soa, ↓k_sof, ↓k_spf, ↓k_sx, ↓k_blk, ↓k_sset, ↓k_sdec, ↓k_sri, ↓k_srv, ↓k_srr, ↓k_nop, ↓k_add, ↓k_sub, ↓k_mul, ↓k_min, ↓k_max, ↓k_shr, ↓k_shl, ↓k_or, ↓k_ilz, ↓k_addl, ↓k_rt, ↓k_rb, ↓k_rbz, ↓k_rsi, ↓k_rsr, ↓k_rsv, ↓reduceIte, t11 hL, ↓(c11_isTree hL iRe.1), hv, hw, ↓(k_cv2 dX1_measure (t1 oc)), ↓q2, ↓xr11_3 hL, ↓xu11_3 hL, ↓xr11_13 hL, List.length_cons, List.length_nil, List.forall_mem_cons, List.not_mem_nil, Value.category, true_and, and_true, false_and, and_false, or_true, true_or, or_false, false_or, Nat.zero_le, forall_const, implies_true, false_implies, Nat.zero_add, Nat.reduceAdd, Nat.reduceLT, Nat.reduceLeDiff, Nat.le_refl, not_true_eq_false, not_false_eq_true, r_eq, r_ne, r_lt, r_ge, r_gt, r_le, bz_ne, nn_toNat, cn_of, cn_0, cn_1, i10, Int.reduceLE, Int.reduceLT, Int.reduceEq, bz_T, bz_F, ite_self, mulc, st_bud]
      refine hK _ _ ⟨mid_mk (fun x q => ⟨rfl, lo1 x q⟩), op_gen fun K hK => ?_⟩
      rw [st_bud, r2]
      exact hK _ _ (fin_mk rfl (fun x q => ⟨rfl, lo2 x q⟩) hI2)
    · refine op_gen fun K hK => ?_
      simp (disch := omega) only [↓fX11_distance.eq_1, ↓sX11_distance_.eq_1, ↓(k_cv1 dX11_isTree (t11 hL)), ↓k_mk, ↓k_sq, ↓k_sk, ↓k_bk, ↓k_if, ↓k_te, ↓k_cm, ↓k_cz, ↓k_an2, ↓k_or2, ↓k_no, ↓k_ci, ↓k_l0, ↓k_r0, ↓k_se0, ↓k_ic0, ↓k_l1, ↓k_r1, ↓k_se1, ↓k_ic1, ↓k_de1, ↓k_tk1, ↓k_l2, ↓k_r2, ↓k_se2, ↓k_ic2, ↓k_de2, ↓k_tk2, ↓k_l3, ↓k_r3, ↓k_se3, ↓k_ic3, ↓k_de3, ↓k_tk3, ↓k_l4, ↓k_r4, ↓k_se4, ↓k_ic4, ↓k_de4, ↓k_tk4, ↓k_l5, ↓k_r5, ↓k_se5, ↓k_ic5, ↓k_de5, ↓k_tk5, ↓k_l6, ↓k_r6, ↓k_se6, ↓k_ic6, ↓k_de6, ↓k_tk6, ↓k_l7, ↓k_r7, ↓k_se7, ↓k_ic7, ↓k_de7, ↓k_tk7, ↓k_l8, ↓k_r8, ↓k_se8, ↓k_ic8, ↓k_de8, ↓k_tk8, ↓k_l9, ↓k_r9, ↓k_se9, ↓k_ic9, ↓k_de9, ↓k_tk9, ↓k_l10, ↓k_r10, ↓k_se10, ↓k_ic10, ↓k_de10, ↓k_tk10, ↓k_l11, ↓k_r11, ↓k_se11, ↓k_ic11, ↓k_de11, ↓k_tk11, ↓k_l12, ↓k_r12, ↓k_se12, ↓k_ic12, ↓k_de12, ↓k_tk12, ↓k_l13, ↓k_r13, ↓k_se13, ↓k_ic13, ↓k_de13, ↓k_tk13, ↓k_l14, ↓k_r14, ↓k_se14, ↓k_ic14, ↓k_de14, ↓k_tk14, ↓k_l15, ↓k_r15, ↓k_se15, ↓k_ic15, ↓k_de15, ↓k_tk15, ↓k_l16, ↓k_r16, ↓k_se16, ↓k_ic16, ↓k_de16, ↓k_tk16, ↓k_l17, ↓k_r17, ↓k_se17, ↓k_ic17, ↓k_de17, ↓k_tk17, ↓k_l18, ↓k_r18, ↓k_se18, ↓k_ic18, ↓k_de18, ↓k_tk18, ↓k_l19, ↓k_r19, ↓k_se19, ↓k_ic19, ↓k_de19, ↓k_tk19, ↓k_l20, ↓k_r20, ↓k_se20, ↓k_ic20, ↓k_de20, ↓k_tk20, ↓k_l21, ↓k_r21, ↓k_se21, ↓k_ic21, ↓k_de21, ↓k_tk21, ↓k_l22, ↓k_r22, ↓k_se22, ↓k_ic22, ↓k_de22, ↓k_tk22, ↓k_l23, ↓k_r23, ↓k_se23, ↓k_ic23, ↓k_de23, ↓k_tk23, ↓k_l24, ↓k_r24, ↓k_se24, ↓k_ic24, ↓k_de24, ↓k_tk24, ↓k_l25, ↓k_r25, ↓k_se25, ↓k_ic25, ↓k_de25, ↓k_tk25, ↓k_k, ↓k_kn, ↓k_kl, ↓k_kln, ↓k_il, ↓k_2, ↓k_1, ↓k_2c, ↓k_2l, ↓k_ac, ↓k_an, ↓k_cs, ↓k_cv, ↓k_fi, ↓k_fr, ↓k_ai, ↓k_az, ↓k_ar, ↓k_sai, ↓k_saz, ↓k_soa, ↓k_sof, ↓k_spf, ↓k_sx, ↓k_blk, ↓k_sset, ↓k_sdec, ↓k_sri, ↓k_srv, ↓k_srr, ↓k_nop, ↓k_add, ↓k_sub, ↓k_mul, ↓k_min, ↓k_max, ↓k_shr, ↓k_shl, ↓k_or, ↓k_ilz, ↓k_addl, ↓k_rt, ↓k_rb, ↓k_rbz, ↓k_rsi, ↓k_rsr, ↓k_rsv, ↓reduceIte, t11 hL, t12 hM, ↓(c11_isTree hL iRe.1), ↓(c12_isTree hM iRe.1), hv, hw, List.length_cons, List.length_nil, List.forall_mem_cons, List.not_mem_nil, Value.category, true_and, and_true, false_and, and_false, or_true, true_or, or_false, false_or, Nat.zero_le, forall_const, implies_true, false_implies, Nat.zero_add, Nat.reduceAdd, Nat.reduceLT, Nat.reduceLeDiff, Nat.le_refl, not_true_eq_false, not_false_eq_true, r_eq, r_ne, r_lt, r_ge, r_gt, r_le, bz_ne, nn_toNat, cn_of, cn_0, cn_1, i10, Int.reduceLE, Int.reduceLT, Int.reduceEq, bz_T, bz_F, ite_self, mulc, st_bud]
      refine hK _ _ ⟨mid_mk (lo_refl _ _ _), op_gen fun K hK => ?_⟩
      rw [st_bud]
      simp (disch := first | omega | (simp (disch := omega) only [gs_ne, flG_ne, wr_ne, cpG_ne])) only [↓fX12_distance.eq_1, ↓uX12_distance, ↓(k_cv1 dX12_isTree (t12 hM)), ↓(k_cv2 dX12_linePieces (t12 hM)), ↓k_mk, ↓k_sq, ↓k_sk, ↓k_bk, ↓k_if, ↓k_te, ↓k_cm, ↓k_cz, ↓k_an2, ↓k_or2, ↓k_no, ↓k_ci, ↓k_l0, ↓k_r0, ↓k_se0, ↓k_ic0, ↓k_l1, ↓k_r1, ↓k_se1, ↓k_ic1, ↓k_de1, ↓k_tk1, ↓k_l2, ↓k_r2, ↓k_se2, ↓k_ic2, ↓k_de2, ↓k_tk2, ↓k_l3, ↓k_r3, ↓k_se3, ↓k_ic3, ↓k_de3, ↓k_tk3, ↓k_l4, ↓k_r4, ↓k_se4, ↓k_ic4, ↓k_de4, ↓k_tk4, ↓k_l5, ↓k_r5, ↓k_se5, ↓k_ic5, ↓k_de5, ↓k_tk5, ↓k_l6, ↓k_r6, ↓k_se6, ↓k_ic6, ↓k_de6, ↓k_tk6, ↓k_l7, ↓k_r7, ↓k_se7, ↓k_ic7, ↓k_de7, ↓k_tk7, ↓k_l8, ↓k_r8, ↓k_se8, ↓k_ic8, ↓k_de8, ↓k_tk8, ↓k_l9, ↓k_r9, ↓k_se9, ↓k_ic9, ↓k_de9, ↓k_tk9, ↓k_l10, ↓k_r10, ↓k_se10, ↓k_ic10, ↓k_de10, ↓k_tk10, ↓k_l11, ↓k_r11, ↓k_se11, ↓k_ic11, ↓k_de11, ↓k_tk11, ↓k_l12, ↓k_r12, ↓k_se12, ↓k_ic12, ↓k_de12, ↓k_tk12, ↓k_l13, ↓k_r13, ↓k_se13, ↓k_ic13, ↓k_de13, ↓k_tk13, ↓k_l14, ↓k_r14, ↓k_se14, ↓k_ic14, ↓k_de14, ↓k_tk14, ↓k_l15, ↓k_r15, ↓k_se15, ↓k_ic15, ↓k_de15, ↓k_tk15, ↓k_l16, ↓k_r16, ↓k_se16, ↓k_ic16, ↓k_de16, ↓k_tk16, ↓k_l17, ↓k_r17, ↓k_se17, ↓k_ic17, ↓k_de17, ↓k_tk17, ↓k_l18, ↓k_r18, ↓k_se18, ↓k_ic18, ↓k_de18, ↓k_tk18, ↓k_l19, ↓k_r19, ↓k_se19, ↓k_ic19, ↓k_de19, ↓k_tk19, ↓k_l20, ↓k_r20, ↓k_se20, ↓k_ic20, ↓k_de20, ↓k_tk20, ↓k_l21, ↓k_r21, ↓k_se21, ↓k_ic21, ↓k_de21, ↓k_tk21, ↓k_l22, ↓k_r22, ↓k_se22, ↓k_ic22, ↓k_de22, ↓k_tk22, ↓k_l23, ↓k_r23, ↓k_se23, ↓k_ic23, ↓k_de23, ↓k_tk23, ↓k_l24, ↓k_r24, ↓k_se24, ↓k_ic24, ↓k_de24, ↓k_tk24, ↓k_l25, ↓k_r25, ↓k_se25, ↓k_ic25, ↓k_de25, ↓k_tk25, ↓k_k, ↓k_kn, ↓k_kl, ↓k_kln, ↓k_il, ↓k_2, ↓k_1, ↓k_2c, ↓k_2l, ↓k_ac, ↓k_an, ↓k_cs, ↓k_cv, ↓k_fi, ↓k_fr, ↓k_ai, ↓k_az, ↓k_ar, ↓k_sai, ↓k_saz, ↓k_soa, ↓k_sof, ↓k_spf, ↓k_sx, ↓k_blk, ↓k_sset, ↓k_sdec, ↓k_sri, ↓k_srv, ↓k_srr, ↓k_nop, ↓k_add, ↓k_sub, ↓k_mul, ↓k_min, ↓k_max, ↓k_shr, ↓k_shl, ↓k_or, ↓k_ilz, ↓k_addl, ↓k_rt, ↓k_rb, ↓k_rbz, ↓k_rsi, ↓k_rsr, ↓k_rsv, ↓reduceIte, t11 hL, t12 hM, ↓(c11_isTree hL iRe.1), ↓(c12_isTree hM iRe.1), hv, hw, List.length_cons, List.length_nil, List.forall_mem_cons, List.not_mem_nil, Value.category, true_and, and_true, false_and, and_false, or_true, true_or, or_false, false_or, Nat.zero_le, forall_const, implies_true, false_implies, Nat.zero_add, Nat.reduceAdd, Nat.reduceLT, Nat.reduceLeDiff, Nat.le_refl, not_true_eq_false, not_false_eq_true, r_eq, r_ne, r_lt, r_ge, r_gt, r_le, bz_ne, nn_toNat, cn_of, cn_0, cn_1, i10, Int.reduceLE, Int.reduceLT, Int.reduceEq, bz_T, bz_F, ite_self, mulc, st_bud]
      exact hK _ _ (fin_mk rfl (lo_refl _ _ _) hI)
  · refine op_gen fun K hK => ?_
    simp (disch := omega) only [↓fX11_distance.eq_1, ↓sX11_distance_.eq_1, ↓(k_cv1 dX11_isTree (t11 hL)), ↓k_mk, ↓k_sq, ↓k_sk, ↓k_bk, ↓k_if, ↓k_te, ↓k_cm, ↓k_cz, ↓k_an2, ↓k_or2, ↓k_no, ↓k_ci, ↓k_l0, ↓k_r0, ↓k_se0, ↓k_ic0, ↓k_l1, ↓k_r1, ↓k_se1, ↓k_ic1, ↓k_de1, ↓k_tk1, ↓k_l2, ↓k_r2, ↓k_se2, ↓k_ic2, ↓k_de2, ↓k_tk2, ↓k_l3, ↓k_r3, ↓k_se3, ↓k_ic3, ↓k_de3, ↓k_tk3, ↓k_l4, ↓k_r4, ↓k_se4, ↓k_ic4, ↓k_de4, ↓k_tk4, ↓k_l5, ↓k_r5, ↓k_se5, ↓k_ic5, ↓k_de5, ↓k_tk5, ↓k_l6, ↓k_r6, ↓k_se6, ↓k_ic6, ↓k_de6, ↓k_tk6, ↓k_l7, ↓k_r7, ↓k_se7, ↓k_ic7, ↓k_de7, ↓k_tk7, ↓k_l8, ↓k_r8, ↓k_se8, ↓k_ic8, ↓k_de8, ↓k_tk8, ↓k_l9, ↓k_r9, ↓k_se9, ↓k_ic9, ↓k_de9, ↓k_tk9, ↓k_l10, ↓k_r10, ↓k_se10, ↓k_ic10, ↓k_de10, ↓k_tk10, ↓k_l11, ↓k_r11, ↓k_se11, ↓k_ic11, ↓k_de11, ↓k_tk11, ↓k_l12, ↓k_r12, ↓k_se12, ↓k_ic12, ↓k_de12, ↓k_tk12, ↓k_l13, ↓k_r13, ↓k_se13, ↓k_ic13, ↓k_de13, ↓k_tk13, ↓k_l14, ↓k_r14, ↓k_se14, ↓k_ic14, ↓k_de14, ↓k_tk14, ↓k_l15, ↓k_r15, ↓k_se15, ↓k_ic15, ↓k_de15, ↓k_tk15, ↓k_l16, ↓k_r16, ↓k_se16, ↓k_ic16, ↓k_de16, ↓k_tk16, ↓k_l17, ↓k_r17, ↓k_se17, ↓k_ic17, ↓k_de17, ↓k_tk17, ↓k_l18, ↓k_r18, ↓k_se18, ↓k_ic18, ↓k_de18, ↓k_tk18, ↓k_l19, ↓k_r19, ↓k_se19, ↓k_ic19, ↓k_de19, ↓k_tk19, ↓k_l20, ↓k_r20, ↓k_se20, ↓k_ic20, ↓k_de20, ↓k_tk20, ↓k_l21, ↓k_r21, ↓k_se21, ↓k_ic21, ↓k_de21, ↓k_tk21, ↓k_l22, ↓k_r22, ↓k_se22, ↓k_ic22, ↓k_de22, ↓k_tk22, ↓k_l23, ↓k_r23, ↓k_se23, ↓k_ic23, ↓k_de23, ↓k_tk23, ↓k_l24, ↓k_r24, ↓k_se24, ↓k_ic24, ↓k_de24, ↓k_tk24, ↓k_l25, ↓k_r25, ↓k_se25, ↓k_ic25, ↓k_de25, ↓k_tk25, ↓k_k, ↓k_kn, ↓k_kl, ↓k_kln, ↓k_il, ↓k_2, ↓k_1, ↓k_2c, ↓k_2l, ↓k_ac, ↓k_an, ↓k_cs, ↓k_cv, ↓k_fi, ↓k_fr, ↓k_ai, ↓k_az, ↓k_ar, ↓k_sai, ↓k_saz, ↓k_soa, ↓k_sof, ↓k_spf, ↓k_sx, ↓k_blk, ↓k_sset, ↓k_sdec, ↓k_sri, ↓k_srv, ↓k_srr, ↓k_nop, ↓k_add, ↓k_sub, ↓k_mul, ↓k_min, ↓k_max, ↓k_shr, ↓k_shl, ↓k_or, ↓k_ilz, ↓k_addl, ↓k_rt, ↓k_rb, ↓k_rbz, ↓k_rsi, ↓k_rsr, ↓k_rsv, ↓reduceIte, t11 hL, t12 hM, ↓(c11_isTree hL iRe.1), ↓(c12_isTree hM iRe.1), hv, List.length_cons, List.length_nil, List.forall_mem_cons, List.not_mem_nil, Value.category, true_and, and_true, false_and, and_false, or_true, true_or, or_false, false_or, Nat.zero_le, forall_const, implies_true, false_implies, Nat.zero_add, Nat.reduceAdd, Nat.reduceLT, Nat.reduceLeDiff, Nat.le_refl, not_true_eq_false, not_false_eq_true, r_eq, r_ne, r_lt, r_ge, r_gt, r_le, bz_ne, nn_toNat, cn_of, cn_0, cn_1, i10, Int.reduceLE, Int.reduceLT, Int.reduceEq, bz_T, bz_F, ite_self, mulc, st_bud]
    refine hK _ _ ⟨mid_mk (lo_refl _ _ _), op_gen fun K hK => ?_⟩
    rw [st_bud]
    simp (disch := first | omega | (simp (disch := omega) only [gs_ne, flG_ne, wr_ne, cpG_ne])) only [↓fX12_distance.eq_1, ↓uX12_distance, ↓(k_cv1 dX12_isTree (t12 hM)), ↓(k_cv2 dX12_linePieces (t12 hM)), ↓k_mk, ↓k_sq, ↓k_sk, ↓k_bk, ↓k_if, ↓k_te, ↓k_cm, ↓k_cz, ↓k_an2, ↓k_or2, ↓k_no, ↓k_ci, ↓k_l0, ↓k_r0, ↓k_se0, ↓k_ic0, ↓k_l1, ↓k_r1, ↓k_se1, ↓k_ic1, ↓k_de1, ↓k_tk1, ↓k_l2, ↓k_r2, ↓k_se2, ↓k_ic2, ↓k_de2, ↓k_tk2, ↓k_l3, ↓k_r3, ↓k_se3, ↓k_ic3, ↓k_de3, ↓k_tk3, ↓k_l4, ↓k_r4, ↓k_se4, ↓k_ic4, ↓k_de4, ↓k_tk4, ↓k_l5, ↓k_r5, ↓k_se5, ↓k_ic5, ↓k_de5, ↓k_tk5, ↓k_l6, ↓k_r6, ↓k_se6, ↓k_ic6, ↓k_de6, ↓k_tk6, ↓k_l7, ↓k_r7, ↓k_se7, ↓k_ic7, ↓k_de7, ↓k_tk7, ↓k_l8, ↓k_r8, ↓k_se8, ↓k_ic8, ↓k_de8, ↓k_tk8, ↓k_l9, ↓k_r9, ↓k_se9, ↓k_ic9, ↓k_de9, ↓k_tk9, ↓k_l10, ↓k_r10, ↓k_se10, ↓k_ic10, ↓k_de10, ↓k_tk10, ↓k_l11, ↓k_r11, ↓k_se11, ↓k_ic11, ↓k_de11, ↓k_tk11, ↓k_l12, ↓k_r12, ↓k_se12, ↓k_ic12, ↓k_de12, ↓k_tk12, ↓k_l13, ↓k_r13, ↓k_se13, ↓k_ic13, ↓k_de13, ↓k_tk13, ↓k_l14, ↓k_r14, ↓k_se14, ↓k_ic14, ↓k_de14, ↓k_tk14, ↓k_l15, ↓k_r15, ↓k_se15, ↓k_ic15, ↓k_de15, ↓k_tk15, ↓k_l16, ↓k_r16, ↓k_se16, ↓k_ic16, ↓k_de16, ↓k_tk16, ↓k_l17, ↓k_r17, ↓k_se17, ↓k_ic17, ↓k_de17, ↓k_tk17, ↓k_l18, ↓k_r18, ↓k_se18, ↓k_ic18, ↓k_de18, ↓k_tk18, ↓k_l19, ↓k_r19, ↓k_se19, ↓k_ic19, ↓k_de19, ↓k_tk19, ↓k_l20, ↓k_r20, ↓k_se20, ↓k_ic20, ↓k_de20, ↓k_tk20, ↓k_l21, ↓k_r21, ↓k_se21, ↓k_ic21, ↓k_de21, ↓k_tk21, ↓k_l22, ↓k_r22, ↓k_se22, ↓k_ic22, ↓k_de22, ↓k_tk22, ↓k_l23, ↓k_r23, ↓k_se23, ↓k_ic23, ↓k_de23, ↓k_tk23, ↓k_l24, ↓k_r24, ↓k_se24, ↓k_ic24, ↓k_de24, ↓k_tk24, ↓k_l25, ↓k_r25, ↓k_se25, ↓k_ic25, ↓k_de25, ↓k_tk25, ↓k_k, ↓k_kn, ↓k_kl, ↓k_kln, ↓k_il, ↓k_2, ↓k_1, ↓k_2c, ↓k_2l, ↓k_ac, ↓k_an, ↓k_cs, ↓k_cv, ↓k_fi, ↓k_fr, ↓k_ai, ↓k_az, ↓k_ar, ↓k_sai, ↓k_saz, ↓k_soa, ↓k_sof, ↓k_spf, ↓k_sx, ↓k_blk, ↓k_sset, ↓k_sdec, ↓k_sri, ↓k_srv, ↓k_srr, ↓k_nop, ↓k_add, ↓k_sub, ↓k_mul, ↓k_min, ↓k_max, ↓k_shr, ↓k_shl, ↓k_or, ↓k_ilz, ↓k_addl, ↓k_rt, ↓k_rb, ↓k_rbz, ↓k_rsi, ↓k_rsr, ↓k_rsv, ↓reduceIte, t11 hL, t12 hM, ↓(c11_isTree hL iRe.1), ↓(c12_isTree hM iRe.1), hv, List.length_cons, List.length_nil, List.forall_mem_cons, List.not_mem_nil, Value.category, true_and, and_true, false_and, and_false, or_true, true_or, or_false, false_or, Nat.zero_le, forall_const, implies_true, false_implies, Nat.zero_add, Nat.reduceAdd, Nat.reduceLT, Nat.reduceLeDiff, Nat.le_refl, not_true_eq_false, not_false_eq_true, r_eq, r_ne, r_lt, r_ge, r_gt, r_le, bz_ne, nn_toNat, cn_of, cn_0, cn_1, i10, Int.reduceLE, Int.reduceLT, Int.reduceEq, bz_T, bz_F, ite_self, mulc, st_bud]
    exact hK _ _ (fin_mk rfl (lo_refl _ _ _) hI)
end
