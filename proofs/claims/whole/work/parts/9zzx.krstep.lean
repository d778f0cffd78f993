section
/-! kept: the reference goes one way at one node -/
theorem KR_turn {G0 G G' : Nat → Int → Int} {B : Nat} (h : KR G0 G B) (h1 : ∀ x, ¬ (B + 560 ≤ x ∧ x ≤ B + 573) → ¬ x = (B + 544 + 90) → ¬ x = (B + 544 + 91) → ¬ x = B + 544 → G' x = G x) (h2 : ∀ j, ¬ j = 92 → RowE G G' B j ∧ ∀ k, 40 * j ≤ k → k < 40 * j + 40 → G' (B + 544 + 22) k = G (B + 544 + 22) k) (h3 : ∀ j, ¬ j = 22 → ¬ j = 23 → ¬ j = 31 → ¬ j = 32 → ¬ j = 33 → ¬ j = 34 → ¬ j = 114 → G' (B + 544) j = G (B + 544) j) : KR G0 G' B := ⟨fun x q1 q2 q3 q4 q5 q6 q7 => by rw [h1 x (by omega) q2 q3 q7]; exact h.1 x q1 q2 q3 q4 q5 q6 q7, fun j q1 q2 q3 q4 q5 => by rw [h3 j q1 q2 (by omega) (by omega) (by omega) (by omega) q5]; exact h.2.1 j q1 q2 q3 q4 q5, fun i q1 q2 => ⟨RowE_trans (h.2.2 i q1 q2).1 (h2 i (by omega)).1, fun k k0 k1 => by rw [(h2 i (by omega)).2 _ (by omega) (by omega)]; exact (h.2.2 i q1 q2).2 k k0 k1⟩⟩
theorem KR_cpt {G0 G G' : Nat → Int → Int} {B : Nat} {t : Int} (h : KR G0 G B) (t32 : 32 ≤ t) (c : Cpt G G' B 92 t) : KR G0 G' B := ⟨fun x q1 q2 q3 q4 q5 q6 q7 => by rw [c.2.2.2.2 x (by omega) (by omega) (by omega) (by omega) (by omega) (by omega) (by omega)]; exact h.1 x q1 q2 q3 q4 q5 q6 q7, fun j q1 q2 q3 q4 q5 => by rw [c.2.2.2.2 (B + 544) (by omega) (by omega) (by omega) (by omega) (by omega) (by omega) (by omega)]; exact h.2.1 j q1 q2 q3 q4 q5, fun i q1 q2 => ⟨RowE_trans (h.2.2 i q1 q2).1 (c.2.2.2.1 i (by omega)).1, fun k k0 k1 => by rw [(c.2.2.2.1 i (by omega)).2 k k0 k1]; exact (h.2.2 i q1 q2).2 k k0 k1⟩⟩
theorem KR_step {G0 G : Nat → Int → Int} {B : Nat} {L z : Int} (h : KR G0 G B) : KR G0 (gs G (B + 544 + 92) L z) B := ⟨fun x q1 q2 q3 q4 q5 q6 q7 => by rw [gs_ne q6]; exact h.1 x q1 q2 q3 q4 q5 q6 q7, fun j q1 q2 q3 q4 q5 => by rw [gs_ne (by omega)]; exact h.2.1 j q1 q2 q3 q4 q5, fun i q1 q2 => ⟨RowE_trans (h.2.2 i q1 q2).1 (RowE_of fun x z1 z2 => gs_ne (by omega)), fun k k0 k1 => by rw [gs_ne (by omega)]; exact (h.2.2 i q1 q2).2 k k0 k1⟩⟩
theorem RSr_keep {G0 G G' : Nat → Int → Int} {B : Nat} {v : Int} {s : (List (List Int × Int))} (hF : IFm G0 B) (kv : 0 ≤ v ∧ v ≤ 1) (l60 : s.length ≤ 60) (kr : KR G0 G' B) (e : ∀ k : Nat, k < 60 → RowE G G' B (32 + k)) (st : G' (B + 544 + 92) = G (B + 544 + 92)) (h : RSr G0 G B v s) : RSr G0 G' B v s := ⟨kr, fun k hk => ⟨RowR_e hF kv (e k (by omega)) (h.2 k hk).1, by rw [st]; exact (h.2 k hk).2⟩⟩
/-- what stands while one way is gone -/
def RCr (G0 G : Nat → Int → Int) (B : Nat) (v : Int) (goal w : List Int) (i : Nat) (z : Int) (s : (List (List Int × Int))) : Prop := KI G0 B v goal s ∧ RSr G0 G B v s ∧ i < s.length ∧ kW s i = w ∧ kZ s i + 1 = z
theorem rr_node {T : Nat → Option q_T} {nx B ua uz : Nat} {R : Nat → Nat → Option Value} {G0 G : Nat → Int → Int} {v tu z : Int} {goal w : List Int} {s : List (List Int × Int)} {i j m : Nat} (hM : Ly T R (B + 544) (L12 (B + 544))) (hF : IFm G0 B) (kv : 0 ≤ v ∧ v ≤ 1) (wy : WAY G0 B v (20 + j) (20 + (jxN j : Nat)) ua uz) (hu : B + 250 ≤ ua ∧ ua + 10 ≤ B + 370) (hz : B + 250 ≤ uz ∧ uz + 10 ≤ B + 370) (htu : 0 ≤ tu ∧ tu ≤ 5) (hj : j < 12) (rg : RowR G0 G0 B (21 + 2 * tu) v goal) (rl : RCr G0 G B v goal w i z s) (hm : (m : Int) < nb (wf w) w.length) :
    (∃ s' G', kNode G0 B v goal i ua uz m s = Sum.inl s' ∧ RCr G0 G' B v goal w i z s' ∧ ∀ (K : List Value → q_M → Prop) (Kr : Option Value → q_M → Prop) (Kf : q_M → Prop), K [.ref (B + 544), .int (zI tu), .int (zI (21 + 2 * tu)), .int (zI s'.length), .int (zI i), .int (zI (32 + i)), .int (zI j), .int (zI (j / 2 : Nat)), .int (zI 1), .int (zI ((m : Int) + 1))] (st T nx 0 0 R G') → wcX12_kept_2 [.ref (B + 544), .int (zI tu), .int (zI (21 + 2 * tu)), .int (zI s.length), .int (zI i), .int (zI (32 + i)), .int (zI j), .int (zI (j / 2 : Nat)), .int (zI 1), .int (zI m)] (st T nx 0 0 R G) (fun μ' => wsX12_kept_2 [.ref (B + 544), .int (zI tu), .int (zI (21 + 2 * tu)), .int (zI s.length), .int (zI i), .int (zI (32 + i)), .int (zI j), .int (zI (j / 2 : Nat)), .int (zI 1), .int (zI m)] μ' K Kr) Kf) ∨ ∃ a G', kNode G0 B v goal i ua uz m s = Sum.inr a ∧ KR G0 G' B ∧ ∀ (K : List Value → q_M → Prop) (Kr : Option Value → q_M → Prop) (Kf : q_M → Prop), Kr (some (.int (zI a))) (st T nx 0 0 R G') → wcX12_kept_2 [.ref (B + 544), .int (zI tu), .int (zI (21 + 2 * tu)), .int (zI s.length), .int (zI i), .int (zI (32 + i)), .int (zI j), .int (zI (j / 2 : Nat)), .int (zI 1), .int (zI m)] (st T nx 0 0 R G) (fun μ' => wsX12_kept_2 [.ref (B + 544), .int (zI tu), .int (zI (21 + 2 * tu)), .int (zI s.length), .int (zI i), .int (zI (32 + i)), .int (zI j), .int (zI (j / 2 : Nat)), .int (zI 1), .int (zI m)] μ' K Kr) Kf := by
  obtain ⟨ki, rs, hi, hw, hz1⟩ := rl
  have l60 := ki.1.2
  obtain ⟨l, hl⟩ : ∃ l, l = ((j / 2 : Nat) : Int) := ⟨_, rfl⟩
  obtain ⟨r, hrr⟩ : ∃ r, r = ((j % 2 : Nat) : Int) := ⟨_, rfl⟩
  have hr : ∀ (x0 x1 x2 x3 x4 x5 : Value) (e : List Value) (μ : q_M) (K : Int32 → q_M → Prop), q_2d q_girem (q_l 6) (q_k 2) (x0 :: x1 :: x2 :: x3 :: x4 :: x5 :: .int (zI (j : Int)) :: e) μ K = K (zI r) μ := fun _ _ _ _ _ _ e μ K => by rw [hrr]; exact k_rem12 hj rfl
  have jx12 : jxN j < 12 := by unfold jxN; split <;> omega
  have w1 : (20 + (j : Int)) = 20 + 2 * l + r := by omega
  have w2 : (20 + ((jxN j : Nat) : Int)) = 21 + 2 * l - r := by unfold jxN; split <;> omega
  have lb : 0 ≤ l ∧ l ≤ 5 := by omega
  have rb : 0 ≤ r ∧ r ≤ 1 := by omega
  have wy' := wy
  rw [w1, w2] at wy'
  rw [← hl]
  have g : GW1 G0 B v w := by rw [← hw]; exact (ki.2 i hi).1
  have zb : 1 ≤ z ∧ z ≤ s.length := by have := (ki.2 i hi).2.1; omega
  have kr := rs.1
  have kf := KR_kf kr
  have rw0 := (rs.2 i hi).1
  rw [hw] at rw0
  have nb40 := g.2
  have bn := (BS_root hF kv rw0).2.1
  obtain ⟨N, hN⟩ : ∃ N, N = nb (wf w) w.length := ⟨_, rfl⟩
  have hm' := hm
  rw [← hN] at bn hm' nb40
  obtain ⟨p, hp⟩ : ∃ p, p = naW (wf w) w.length m := ⟨_, rfl⟩
  obtain ⟨p0, p1, _, _, _⟩ := Tr_m (trW hF kv g) (show 0 ≤ (m : Int) by omega) hm
  rw [← hp] at p0 p1
  obtain ⟨G1, y, m1, m2, m3⟩ := k_fits (T := T) (nx := nx) (R := R) (i := 32 + (i : Int)) (m := (m : Int)) hM hF kv kf (by omega) (by omega) rw0 wy (by omega) (by omega) (by omega) (by omega) hu hz (by omega) hm
  rw [← hp] at m2
  have kn : kNode G0 B v goal i ua uz m s = @ite ((List (List Int × Int)) ⊕ Int) (fitW G0 B v ua w p) (Classical.propDecidable _) (kNew goal (kOut G0 B v ua uz w p) z s) (Sum.inl s) := by
    unfold kNode
    rw [hw, ← hp, hz1]
  have one : ¬ (1 : Int) = 0 := by omega
  have mI : 0 ≤ (m : Int) := by omega
  have kr1 := KR_mch kr m1
  have rs1 : RSr G0 G1 B v s := RSr_keep hF kv l60 kr1 (fun k _ => RowE_of fun x z1 z2 => m1.1 x (by omega) (by omega) (by omega) (by omega) (by omega)) (m1.1 _ (by omega) (by omega) (by omega) (by omega) (by omega)) rs
  obtain ⟨L, hL⟩ : ∃ L, L = (s.length : Int) := ⟨_, rfl⟩
  have Lb : 1 ≤ L ∧ L ≤ 60 := by have := ki.1.1; omega
  have iL : 0 ≤ (i : Int) ∧ (i : Int) < 60 := by omega
  rcases m2 with ⟨r1, ft⟩ | ⟨r1, ft⟩
  · subst r1
    rw [kn, @if_pos _ (Classical.propDecidable _) ft]
    have oe := out_ex hF kv wy g p0 p1 ft
    have ho := kOut_is oe.1
    obtain ⟨w', hw'⟩ : ∃ w', w' = kOut G0 B v ua uz w p := ⟨_, rfl⟩
    rw [← hw'] at ho ⊢
    have pw := oe.2 w' ho
    have rw1 := (rs1.2 i hi).1
    rw [hw] at rw1
    obtain ⟨G2, t1, t2, t3, t4, t5⟩ := k_turn (T := T) (nx := nx) (R := R) (i := 32 + (i : Int)) (tu := l) (s := r) (m := (m : Int)) (w' := w') hM hF kv (KR_kf kr1) (by omega) (by omega) rw1 lb rb wy' hu hz (by omega) hm hp ft ho
    have kr2 := KR_turn kr1 t1 t2 t3
    have st2 : G2 (B + 544 + 92) = G1 (B + 544 + 92) := t1 _ (by omega) (by omega) (by omega) (by omega)
    have rs2 : RSr G0 G2 B v s := RSr_keep hF kv l60 kr2 (fun k hk => (t2 _ (by omega)).1) st2 rs1
    unfold kNew
    rcases t4 with ⟨n40, f22, bs⟩ | ⟨n40, f22⟩
    · rw [if_pos n40]
      have g' : GW1 G0 B v w' := ⟨pw, n40⟩
      have r92 : RowR G0 G2 B 92 v w' := ⟨g', bs⟩
      have rg2 : RowR G0 G2 B (21 + 2 * tu) v goal := RowR_e hF kv (kr2.2.2 _ (by omega) (by omega)).1 rg
      obtain ⟨u, hu', cu⟩ := r_sought (T := T) (nx := nx) (R := R) (G := G2) hM hF kv l60 rs2 r92
      have cR := k_root (T := T) (nx := nx) (R := R) hM hF kv (by omega) (by omega) r92
      have cG := k_root (T := T) (nx := nx) (R := R) hM hF kv (by omega) (by omega) rg2
      obtain ⟨x, hx, cx⟩ := k_like (T := T) (nx := nx) (R := R) (i := 92) (j := 21 + 2 * tu) hM hF kv (KR_kf kr2) (by omega) (by omega) (by omega) (by omega) r92 rg2
      have rwb : ∀ w : List Int, GW1 G0 B v w → 20 ≤ rootW w ∧ rootW w ≤ 1013 := fun w g => by
        have := (GW_b hF kv g).2 0 (by omega) (by have := (GW_b hF kv g).1; omega)
        unfold rootW
        split <;> omega
      have b1 := rwb w' g'
      have b2 := rwb goal rg.1
      obtain ⟨q1, hq1⟩ : ∃ q, q = rootW w' := ⟨_, rfl⟩
      obtain ⟨q2, hq2⟩ : ∃ q, q = rootW goal := ⟨_, rfl⟩
      rw [← hq1] at cR b1 cx
      rw [← hq2] at cG b2 cx
      rw [← hL] at cu
      have s2 : G2 (B + 544 + 92) i = z - 1 := by rw [(rs2.2 i hi).2]; omega
      rcases hu' with ⟨u0, u1, hu'⟩ | ⟨u1, hu'⟩
      · have ng : ¬ w' = goal := fun e => by
          obtain ⟨k, k1, k2⟩ := kW_mem.mp hu'
          exact (ki.2 k k1).2.2 (by rw [k2, e])
        rw [if_neg ng, if_pos hu']
        refine Or.inl ⟨s, G2, rfl, ⟨ki, rs2, hi, hw, hz1⟩, fun K Kr Kf hk => ?_⟩
        have un : ¬ u < 0 := by omega
        rw [← hL] at hk ⊢
        clear hL hN hl hrr w2 wy wy' ki rs rs1 rs2 kr kr1 kr2 kf rw0 rw1 ft kn g rg hm hp hF m1 t1 t2 t3 ho oe pw
        simp (disch := omega) only [↓wcX12_kept_2.eq_1, ↓wsX12_kept_2.eq_1, ↓(k_cv1 dX12_rootPiece (t12 hM)), ↓(k_cv2 dX12_copyTree (t12 hM)), ↓(k_cv2 dX12_sought (t12 hM)), ↓(k_cv3 dX12_fitsAt (t12 hM)), ↓(k_cv4 dX12_areLike (t12 hM)), ↓(k_cv5 dX12_turnInto (t12 hM)), ↓k_mk, ↓k_sq, ↓k_sk, ↓k_bk, ↓k_if, ↓k_te, ↓k_cm, ↓k_cz, ↓k_an2, ↓k_or2, ↓k_no, ↓k_ci, ↓k_l0, ↓k_r0, ↓k_se0, ↓k_ic0, ↓k_l1, ↓k_r1, ↓k_se1, ↓k_ic1, ↓k_de1, ↓k_tk1, ↓k_l2, ↓k_r2, ↓k_se2, ↓k_ic2, ↓k_de2, ↓k_tk2, ↓k_l3, ↓k_r3, ↓k_se3, ↓k_ic3, ↓k_de3, ↓k_tk3, ↓k_l4, ↓k_r4, ↓k_se4, ↓k_ic4, ↓k_de4, ↓k_tk4, ↓k_l5, ↓k_r5, ↓k_se5, ↓k_ic5, ↓k_de5, ↓k_tk5, ↓k_l6, ↓k_r6, ↓k_se6, ↓k_ic6, ↓k_de6, ↓k_tk6, ↓k_l7, ↓k_r7, ↓k_se7, ↓k_ic7, ↓k_de7, ↓k_tk7, ↓k_l8, ↓k_r8, ↓k_se8, ↓k_ic8, ↓k_de8, ↓k_tk8, ↓k_l9, ↓k_r9, ↓k_se9, ↓k_ic9, ↓k_de9, ↓k_tk9, ↓k_l10, ↓k_r10, ↓k_se10, ↓k_ic10, ↓k_de10, ↓k_tk10, ↓k_l11, ↓k_r11, ↓k_se11, ↓k_ic11, ↓k_de11, ↓k_tk11, ↓k_l12, ↓k_r12, ↓k_se12, ↓k_ic12, ↓k_de12, ↓k_tk12, ↓k_l13, ↓k_r13, ↓k_se13, ↓k_ic13, ↓k_de13, ↓k_tk13, ↓k_l14, ↓k_r14, ↓k_se14, ↓k_ic14, ↓k_de14, ↓k_tk14, ↓k_l15, ↓k_r15, ↓k_se15, ↓k_ic15, ↓k_de15, ↓k_tk15, ↓k_l16, ↓k_r16, ↓k_se16, ↓k_ic16, ↓k_de16, ↓k_tk16, ↓k_l17, ↓k_r17, ↓k_se17, ↓k_ic17, ↓k_de17, ↓k_tk17, ↓k_l18, ↓k_r18, ↓k_se18, ↓k_ic18, ↓k_de18, ↓k_tk18, ↓k_l19, ↓k_r19, ↓k_se19, ↓k_ic19, ↓k_de19, ↓k_tk19, ↓k_l20, ↓k_r20, ↓k_se20, ↓k_ic20, ↓k_de20, ↓k_tk20, ↓k_l21, ↓k_r21, ↓k_se21, ↓k_ic21, ↓k_de21, ↓k_tk21, ↓k_l22, ↓k_r22, ↓k_se22, ↓k_ic22, ↓k_de22, ↓k_tk22, ↓k_l23, ↓k_r23, ↓k_se23, ↓k_ic23, ↓k_de23, ↓k_tk23, ↓k_l24, ↓k_r24, ↓k_se24, ↓k_ic24, ↓k_de24, ↓k_tk24, ↓k_l25, ↓k_r25, ↓k_se25, ↓k_ic25, ↓k_de25, ↓k_tk25, ↓k_k, ↓k_kn, ↓k_kl, ↓k_kln, ↓k_il, ↓k_2, ↓k_1, ↓k_2c, ↓k_2l, ↓k_ac, ↓k_an, ↓k_cs, ↓k_cv, ↓k_fi, ↓k_fr, ↓k_ai, ↓k_az, ↓k_ar, ↓k_sai, ↓k_saz, ↓k_soa, ↓k_sof, ↓k_spf, ↓k_sx, ↓k_blk, ↓k_sset, ↓k_sdec, ↓k_sri, ↓k_srv, ↓k_srr, ↓k_nop, ↓k_add, ↓k_sub, ↓k_mul, ↓k_min, ↓k_max, ↓k_shr, ↓k_shl, ↓k_or, ↓k_ilz, ↓k_addl, ↓k_rt, ↓k_rb, ↓k_rbz, ↓k_rsi, ↓k_rsr, ↓k_rsv, ↓reduceIte, hr, bn, hm', one, zb, ↓(k_cv3 dX12_fitsAt (t12 hM)), ↓m3, ↓(k_cv5 dX12_turnInto (t12 hM)), ↓t5, f22, un, ↓(k_cv2 dX12_sought (t12 hM)), ↓cu, ↓xr12_16 hM, ↓xa12_16 hM, ↓xs12_16 hM, ↓xo12_16 hM, ↓xc12_16 hM, ↓xd12_16 hM, ↓xi12_22 hM, ↓xp12_22 hM, ↓xb12_22 hM, ↓xf12_22 hM, ↓xg12_22 hM, ↓xh12_22 hM, ↓xr12_117 hM, ↓xa12_117 hM, ↓xs12_117 hM, ↓xo12_117 hM, ↓xc12_117 hM, ↓xd12_117 hM, List.length_cons, List.length_nil, List.forall_mem_cons, List.not_mem_nil, Value.category, true_and, and_true, false_and, and_false, or_true, true_or, or_false, false_or, Nat.zero_le, forall_const, implies_true, false_implies, Nat.zero_add, Nat.reduceAdd, Nat.reduceLT, Nat.reduceLeDiff, Nat.le_refl, not_true_eq_false, not_false_eq_true, r_eq, r_ne, r_lt, r_ge, r_gt, r_le, bz_ne, nn_toNat, cn_of, cn_0, cn_1, i10, Int.reduceLE, Int.reduceLT, Int.reduceEq, bz_T, bz_F, ite_self, mulc, st_bud]
        exact hk
      · subst u1
        rcases hx with ⟨x1, hx⟩ | ⟨x1, hx⟩
        · subst x1
          rw [if_pos hx]
          refine Or.inr ⟨z, G2, rfl, kr2, fun K Kr Kf hk => ?_⟩
          have zz : z - 1 + 1 = z := by omega
          rw [← hL]
          clear hL hN hl hrr w2 wy wy' ki rs rs1 rs2 kr kr1 kr2 kf rw0 rw1 ft kn g rg hm hp hF m1 t1 t2 t3 ho oe pw
          simp (disch := omega) only [↓wcX12_kept_2.eq_1, ↓wsX12_kept_2.eq_1, ↓(k_cv1 dX12_rootPiece (t12 hM)), ↓(k_cv2 dX12_copyTree (t12 hM)), ↓(k_cv2 dX12_sought (t12 hM)), ↓(k_cv3 dX12_fitsAt (t12 hM)), ↓(k_cv4 dX12_areLike (t12 hM)), ↓(k_cv5 dX12_turnInto (t12 hM)), ↓k_mk, ↓k_sq, ↓k_sk, ↓k_bk, ↓k_if, ↓k_te, ↓k_cm, ↓k_cz, ↓k_an2, ↓k_or2, ↓k_no, ↓k_ci, ↓k_l0, ↓k_r0, ↓k_se0, ↓k_ic0, ↓k_l1, ↓k_r1, ↓k_se1, ↓k_ic1, ↓k_de1, ↓k_tk1, ↓k_l2, ↓k_r2, ↓k_se2, ↓k_ic2, ↓k_de2, ↓k_tk2, ↓k_l3, ↓k_r3, ↓k_se3, ↓k_ic3, ↓k_de3, ↓k_tk3, ↓k_l4, ↓k_r4, ↓k_se4, ↓k_ic4, ↓k_de4, ↓k_tk4, ↓k_l5, ↓k_r5, ↓k_se5, ↓k_ic5, ↓k_de5, ↓k_tk5, ↓k_l6, ↓k_r6, ↓k_se6, ↓k_ic6, ↓k_de6, ↓k_tk6, ↓k_l7, ↓k_r7, ↓k_se7, ↓k_ic7, ↓k_de7, ↓k_tk7, ↓k_l8, ↓k_r8, ↓k_se8, ↓k_ic8, ↓k_de8, ↓k_tk8, ↓k_l9, ↓k_r9, ↓k_se9, ↓k_ic9, ↓k_de9, ↓k_tk9, ↓k_l10, ↓k_r10, ↓k_se10, ↓k_ic10, ↓k_de10, ↓k_tk10, ↓k_l11, ↓k_r11, ↓k_se11, ↓k_ic11, ↓k_de11, ↓k_tk11, ↓k_l12, ↓k_r12, ↓k_se12, ↓k_ic12, ↓k_de12, ↓k_tk12, ↓k_l13, ↓k_r13, ↓k_se13, ↓k_ic13, ↓k_de13, ↓k_tk13, ↓k_l14, ↓k_r14, ↓k_se14, ↓k_ic14, ↓k_de14, ↓k_tk14, ↓k_l15, ↓k_r15, ↓k_se15, ↓k_ic15, ↓k_de15, ↓k_tk15, ↓k_l16, ↓k_r16, ↓k_se16, ↓k_ic16, ↓k_de16, ↓k_tk16, ↓k_l17, ↓k_r17, ↓k_se17, ↓k_ic17, ↓k_de17, ↓k_tk17, ↓k_l18, ↓k_r18, ↓k_se18, ↓k_ic18, ↓k_de18, ↓k_tk18, ↓k_l19, ↓k_r19, ↓k_se19, ↓k_ic19, ↓k_de19, ↓k_tk19, ↓k_l20, ↓k_r20, ↓k_se20, ↓k_ic20, ↓k_de20, ↓k_tk20, ↓k_l21, ↓k_r21, ↓k_se21, ↓k_ic21, ↓k_de21, ↓k_tk21, ↓k_l22, ↓k_r22, ↓k_se22, ↓k_ic22, ↓k_de22, ↓k_tk22, ↓k_l23, ↓k_r23, ↓k_se23, ↓k_ic23, ↓k_de23, ↓k_tk23, ↓k_l24, ↓k_r24, ↓k_se24, ↓k_ic24, ↓k_de24, ↓k_tk24, ↓k_l25, ↓k_r25, ↓k_se25, ↓k_ic25, ↓k_de25, ↓k_tk25, ↓k_k, ↓k_kn, ↓k_kl, ↓k_kln, ↓k_il, ↓k_2, ↓k_1, ↓k_2c, ↓k_2l, ↓k_ac, ↓k_an, ↓k_cs, ↓k_cv, ↓k_fi, ↓k_fr, ↓k_ai, ↓k_az, ↓k_ar, ↓k_sai, ↓k_saz, ↓k_soa, ↓k_sof, ↓k_spf, ↓k_sx, ↓k_blk, ↓k_sset, ↓k_sdec, ↓k_sri, ↓k_srv, ↓k_srr, ↓k_nop, ↓k_add, ↓k_sub, ↓k_mul, ↓k_min, ↓k_max, ↓k_shr, ↓k_shl, ↓k_or, ↓k_ilz, ↓k_addl, ↓k_rt, ↓k_rb, ↓k_rbz, ↓k_rsi, ↓k_rsr, ↓k_rsv, ↓reduceIte, hr, bn, hm', one, zb, ↓(k_cv3 dX12_fitsAt (t12 hM)), ↓m3, ↓(k_cv5 dX12_turnInto (t12 hM)), ↓t5, f22, zz, s2, ↓(k_cv2 dX12_sought (t12 hM)), ↓cu, ↓(k_cv1 dX12_rootPiece (t12 hM)), ↓cR, ↓cG, ↓(k_cv4 dX12_areLike (t12 hM)), ↓cx, ↓xr12_16 hM, ↓xa12_16 hM, ↓xs12_16 hM, ↓xo12_16 hM, ↓xc12_16 hM, ↓xd12_16 hM, ↓xi12_22 hM, ↓xp12_22 hM, ↓xb12_22 hM, ↓xf12_22 hM, ↓xg12_22 hM, ↓xh12_22 hM, ↓xr12_117 hM, ↓xa12_117 hM, ↓xs12_117 hM, ↓xo12_117 hM, ↓xc12_117 hM, ↓xd12_117 hM, List.length_cons, List.length_nil, List.forall_mem_cons, List.not_mem_nil, Value.category, true_and, and_true, false_and, and_false, or_true, true_or, or_false, false_or, Nat.zero_le, forall_const, implies_true, false_implies, Nat.zero_add, Nat.reduceAdd, Nat.reduceLT, Nat.reduceLeDiff, Nat.le_refl, not_true_eq_false, not_false_eq_true, r_eq, r_ne, r_lt, r_ge, r_gt, r_le, bz_ne, nn_toNat, cn_of, cn_0, cn_1, i10, Int.reduceLE, Int.reduceLT, Int.reduceEq, bz_T, bz_F, ite_self, mulc, st_bud]
          exact hk
        · subst x1
          rw [if_neg hx, if_neg hu']
          by_cases full : 60 ≤ s.length
          · rw [if_pos full]
            refine Or.inr ⟨-100005, G2, rfl, kr2, fun K Kr Kf hk => ?_⟩
            have L6 : L = 60 := by omega
            rw [← hL]
            rw [L6] at cu ⊢
            clear hL hN hl hrr w2 wy wy' ki rs rs1 rs2 kr kr1 kr2 kf rw0 rw1 ft kn g rg hm hp hF m1 t1 t2 t3 ho oe pw
            simp (disch := omega) only [↓wcX12_kept_2.eq_1, ↓wsX12_kept_2.eq_1, ↓(k_cv1 dX12_rootPiece (t12 hM)), ↓(k_cv2 dX12_copyTree (t12 hM)), ↓(k_cv2 dX12_sought (t12 hM)), ↓(k_cv3 dX12_fitsAt (t12 hM)), ↓(k_cv4 dX12_areLike (t12 hM)), ↓(k_cv5 dX12_turnInto (t12 hM)), ↓k_mk, ↓k_sq, ↓k_sk, ↓k_bk, ↓k_if, ↓k_te, ↓k_cm, ↓k_cz, ↓k_an2, ↓k_or2, ↓k_no, ↓k_ci, ↓k_l0, ↓k_r0, ↓k_se0, ↓k_ic0, ↓k_l1, ↓k_r1, ↓k_se1, ↓k_ic1, ↓k_de1, ↓k_tk1, ↓k_l2, ↓k_r2, ↓k_se2, ↓k_ic2, ↓k_de2, ↓k_tk2, ↓k_l3, ↓k_r3, ↓k_se3, ↓k_ic3, ↓k_de3, ↓k_tk3, ↓k_l4, ↓k_r4, ↓k_se4, ↓k_ic4, ↓k_de4, ↓k_tk4, ↓k_l5, ↓k_r5, ↓k_se5, ↓k_ic5, ↓k_de5, ↓k_tk5, ↓k_l6, ↓k_r6, ↓k_se6, ↓k_ic6, ↓k_de6, ↓k_tk6, ↓k_l7, ↓k_r7, ↓k_se7, ↓k_ic7, ↓k_de7, ↓k_tk7, ↓k_l8, ↓k_r8, ↓k_se8, ↓k_ic8, ↓k_de8, ↓k_tk8, ↓k_l9, ↓k_r9, ↓k_se9, ↓k_ic9, ↓k_de9, ↓k_tk9, ↓k_l10, ↓k_r10, ↓k_se10, ↓k_ic10, ↓k_de10, ↓k_tk10, ↓k_l11, ↓k_r11, ↓k_se11, ↓k_ic11, ↓k_de11, ↓k_tk11, ↓k_l12, ↓k_r12, ↓k_se12, ↓k_ic12, ↓k_de12, ↓k_tk12, ↓k_l13, ↓k_r13, ↓k_se13, ↓k_ic13, ↓k_de13, ↓k_tk13, ↓k_l14, ↓k_r14, ↓k_se14, ↓k_ic14, ↓k_de14, ↓k_tk14, ↓k_l15, ↓k_r15, ↓k_se15, ↓k_ic15, ↓k_de15, ↓k_tk15, ↓k_l16, ↓k_r16, ↓k_se16, ↓k_ic16, ↓k_de16, ↓k_tk16, ↓k_l17, ↓k_r17, ↓k_se17, ↓k_ic17, ↓k_de17, ↓k_tk17, ↓k_l18, ↓k_r18, ↓k_se18, ↓k_ic18, ↓k_de18, ↓k_tk18, ↓k_l19, ↓k_r19, ↓k_se19, ↓k_ic19, ↓k_de19, ↓k_tk19, ↓k_l20, ↓k_r20, ↓k_se20, ↓k_ic20, ↓k_de20, ↓k_tk20, ↓k_l21, ↓k_r21, ↓k_se21, ↓k_ic21, ↓k_de21, ↓k_tk21, ↓k_l22, ↓k_r22, ↓k_se22, ↓k_ic22, ↓k_de22, ↓k_tk22, ↓k_l23, ↓k_r23, ↓k_se23, ↓k_ic23, ↓k_de23, ↓k_tk23, ↓k_l24, ↓k_r24, ↓k_se24, ↓k_ic24, ↓k_de24, ↓k_tk24, ↓k_l25, ↓k_r25, ↓k_se25, ↓k_ic25, ↓k_de25, ↓k_tk25, ↓k_k, ↓k_kn, ↓k_kl, ↓k_kln, ↓k_il, ↓k_2, ↓k_1, ↓k_2c, ↓k_2l, ↓k_ac, ↓k_an, ↓k_cs, ↓k_cv, ↓k_fi, ↓k_fr, ↓k_ai, ↓k_az, ↓k_ar, ↓k_sai, ↓k_saz, ↓k_soa, ↓k_sof, ↓k_spf, ↓k_sx, ↓k_blk, ↓k_sset, ↓k_sdec, ↓k_sri, ↓k_srv, ↓k_srr, ↓k_nop, ↓k_add, ↓k_sub, ↓k_mul, ↓k_min, ↓k_max, ↓k_shr, ↓k_shl, ↓k_or, ↓k_ilz, ↓k_addl, ↓k_rt, ↓k_rb, ↓k_rbz, ↓k_rsi, ↓k_rsr, ↓k_rsv, ↓reduceIte, hr, bn, hm', one, zb, ↓(k_cv3 dX12_fitsAt (t12 hM)), ↓m3, ↓(k_cv5 dX12_turnInto (t12 hM)), ↓t5, f22, ↓(k_cv2 dX12_sought (t12 hM)), ↓cu, ↓(k_cv1 dX12_rootPiece (t12 hM)), ↓cR, ↓cG, ↓(k_cv4 dX12_areLike (t12 hM)), ↓cx, ↓xr12_16 hM, ↓xa12_16 hM, ↓xs12_16 hM, ↓xo12_16 hM, ↓xc12_16 hM, ↓xd12_16 hM, ↓xi12_22 hM, ↓xp12_22 hM, ↓xb12_22 hM, ↓xf12_22 hM, ↓xg12_22 hM, ↓xh12_22 hM, ↓xr12_117 hM, ↓xa12_117 hM, ↓xs12_117 hM, ↓xo12_117 hM, ↓xc12_117 hM, ↓xd12_117 hM, List.length_cons, List.length_nil, List.forall_mem_cons, List.not_mem_nil, Value.category, true_and, and_true, false_and, and_false, or_true, true_or, or_false, false_or, Nat.zero_le, forall_const, implies_true, false_implies, Nat.zero_add, Nat.reduceAdd, Nat.reduceLT, Nat.reduceLeDiff, Nat.le_refl, not_true_eq_false, not_false_eq_true, r_eq, r_ne, r_lt, r_ge, r_gt, r_le, bz_ne, nn_toNat, cn_of, cn_0, cn_1, i10, Int.reduceLE, Int.reduceLT, Int.reduceEq, bz_T, bz_F, ite_self, mulc, st_bud]
            exact hk
          · rw [if_neg full]
            obtain ⟨G3, c1, c2⟩ := c12_copyTree (T := T) (nx := nx) (rc := 0) (rs := 0) (R := R) (G := G2) (f := 92) (t := 32 + L) hM (by omega) (by omega) (by omega) (by omega)
            have kr3 := KR_cpt kr2 (by omega) c1
            obtain ⟨G4, e4⟩ : ∃ M, M = gs G3 (B + 544 + 92) L z := ⟨_, rfl⟩
            have kr4 : KR G0 G4 B := by rw [e4]; exact KR_step kr3
            have st3 : G3 (B + 544 + 92) = G2 (B + 544 + 92) := c1.2.2.2.2 _ (by omega) (by omega) (by omega) (by omega) (by omega) (by omega) (by omega)
            have row4 : ∀ i, RowE G3 G4 B i := fun i => RowE_of fun x z1 z2 => by rw [e4, gs_ne (by omega)]
            have s3 : G3 (B + 544 + 92) i = z - 1 := by rw [st3]; exact s2
            have zz : z - 1 + 1 = z := by omega
            have ks := kNew_i (s := s) (s' := s ++ [(w', z)]) (goal := goal) (w' := w') (z := z) ki (fun _ => g') (by omega) (by
              unfold kNew
              rw [if_pos n40, if_neg hx, if_neg hu', if_neg full])
            have len' : (s ++ [(w', z)]).length = s.length + 1 := by rw [List.length_append]; rfl
            have lenI : ((s ++ [(w', z)]).length : Int) = L + 1 := by rw [len']; omega
            obtain ⟨n5', pr', _⟩ := GW_row hF kv g'
            have bs3 := BS_cpt c1 pr' (fun q _ l => (n5' q l).2.2) n40 bs
            refine Or.inl ⟨s ++ [(w', z)], G4, rfl, ⟨ks.1, ⟨kr4, fun k hk => ?_⟩, by omega, by rw [(ks.2.2 i hi).1]; exact hw, by rw [(ks.2.2 i hi).2]; exact hz1⟩, fun K Kr Kf hk => ?_⟩
            · rw [len'] at hk
              by_cases e : k = s.length
              · obtain ⟨d1, d2⟩ := (kW_app (s := s) (w := w') (z := z) (k := k)).2 e
                rw [d1, d2]
                refine ⟨RowR_e hF kv (row4 _) ⟨g', ?_⟩, ?_⟩
                · rw [show (32 + (k : Int)) = 32 + L by omega]
                  exact bs3
                · rw [e4, gs_eq, fu_at, if_pos (by omega)]
              · obtain ⟨d1, d2⟩ := (kW_app (s := s) (w := w') (z := z) (k := k)).1 (by omega)
                rw [d1, d2]
                obtain ⟨o1, o2⟩ := rs2.2 k (by omega)
                refine ⟨RowR_e hF kv (RowE_trans (c1.2.2.2.1 _ (by omega)).1 (row4 _)) o1, ?_⟩
                rw [e4, gs_eq, fu_at, if_neg (by omega), st3]
                exact o2
            · rw [lenI] at hk
              rw [← hL]
              have L6 : ¬ L = 60 := by omega
              rw [e4] at hk
              clear row4 kr3 kr4 ks len' lenI bs3 st3 c1 e4 n5' pr' hL hN hl hrr w2 wy wy' ki rs rs1 rs2 kr kr1 kr2 kf rw0 rw1 ft kn g rg hm hp hF m1 t1 t2 t3 ho oe pw
              simp (disch := omega) only [↓wcX12_kept_2.eq_1, ↓wsX12_kept_2.eq_1, ↓(k_cv1 dX12_rootPiece (t12 hM)), ↓(k_cv2 dX12_copyTree (t12 hM)), ↓(k_cv2 dX12_sought (t12 hM)), ↓(k_cv3 dX12_fitsAt (t12 hM)), ↓(k_cv4 dX12_areLike (t12 hM)), ↓(k_cv5 dX12_turnInto (t12 hM)), ↓k_mk, ↓k_sq, ↓k_sk, ↓k_bk, ↓k_if, ↓k_te, ↓k_cm, ↓k_cz, ↓k_an2, ↓k_or2, ↓k_no, ↓k_ci, ↓k_l0, ↓k_r0, ↓k_se0, ↓k_ic0, ↓k_l1, ↓k_r1, ↓k_se1, ↓k_ic1, ↓k_de1, ↓k_tk1, ↓k_l2, ↓k_r2, ↓k_se2, ↓k_ic2, ↓k_de2, ↓k_tk2, ↓k_l3, ↓k_r3, ↓k_se3, ↓k_ic3, ↓k_de3, ↓k_tk3, ↓k_l4, ↓k_r4, ↓k_se4, ↓k_ic4, ↓k_de4, ↓k_tk4, ↓k_l5, ↓k_r5, ↓k_se5, ↓k_ic5, ↓k_de5, ↓k_tk5, ↓k_l6, ↓k_r6, ↓k_se6, ↓k_ic6, ↓k_de6, ↓k_tk6, ↓k_l7, ↓k_r7, ↓k_se7, ↓k_ic7, ↓k_de7, ↓k_tk7, ↓k_l8, ↓k_r8, ↓k_se8, ↓k_ic8, ↓k_de8, ↓k_tk8, ↓k_l9, ↓k_r9, ↓k_se9, ↓k_ic9, ↓k_de9, ↓k_tk9, ↓k_l10, ↓k_r10, ↓k_se10, ↓k_ic10, ↓k_de10, ↓k_tk10, ↓k_l11, ↓k_r11, ↓k_se11, ↓k_ic11, ↓k_de11, ↓k_tk11, ↓k_l12, ↓k_r12, ↓k_se12, ↓k_ic12, ↓k_de12, ↓k_tk12, ↓k_l13, ↓k_r13, ↓k_se13, ↓k_ic13, ↓k_de13, ↓k_tk13, ↓k_l14, ↓k_r14, ↓k_se14, ↓k_ic14, ↓k_de14, ↓k_tk14, ↓k_l15, ↓k_r15, ↓k_se15, ↓k_ic15, ↓k_de15, ↓k_tk15, ↓k_l16, ↓k_r16, ↓k_se16, ↓k_ic16, ↓k_de16, ↓k_tk16, ↓k_l17, ↓k_r17, ↓k_se17, ↓k_ic17, ↓k_de17, ↓k_tk17, ↓k_l18, ↓k_r18, ↓k_se18, ↓k_ic18, ↓k_de18, ↓k_tk18, ↓k_l19, ↓k_r19, ↓k_se19, ↓k_ic19, ↓k_de19, ↓k_tk19, ↓k_l20, ↓k_r20, ↓k_se20, ↓k_ic20, ↓k_de20, ↓k_tk20, ↓k_l21, ↓k_r21, ↓k_se21, ↓k_ic21, ↓k_de21, ↓k_tk21, ↓k_l22, ↓k_r22, ↓k_se22, ↓k_ic22, ↓k_de22, ↓k_tk22, ↓k_l23, ↓k_r23, ↓k_se23, ↓k_ic23, ↓k_de23, ↓k_tk23, ↓k_l24, ↓k_r24, ↓k_se24, ↓k_ic24, ↓k_de24, ↓k_tk24, ↓k_l25, ↓k_r25, ↓k_se25, ↓k_ic25, ↓k_de25, ↓k_tk25, ↓k_k, ↓k_kn, ↓k_kl, ↓k_kln, ↓k_il, ↓k_2, ↓k_1, ↓k_2c, ↓k_2l, ↓k_ac, ↓k_an, ↓k_cs, ↓k_cv, ↓k_fi, ↓k_fr, ↓k_ai, ↓k_az, ↓k_ar, ↓k_sai, ↓k_saz, ↓k_soa, ↓k_sof, ↓k_spf, ↓k_sx, ↓k_blk, ↓k_sset, ↓k_sdec, ↓k_sri, ↓k_srv, ↓k_srr, ↓k_nop, ↓k_add, ↓k_sub, ↓k_mul, ↓k_min, ↓k_max, ↓k_shr, ↓k_shl, ↓k_or, ↓k_ilz, ↓k_addl, ↓k_rt, ↓k_rb, ↓k_rbz, ↓k_rsi, ↓k_rsr, ↓k_rsv, ↓reduceIte, hr, bn, hm', one, zb, ↓(k_cv3 dX12_fitsAt (t12 hM)), ↓m3, ↓(k_cv5 dX12_turnInto (t12 hM)), ↓t5, f22, L6, s3, zz, ↓(k_cv2 dX12_sought (t12 hM)), ↓cu, ↓(k_cv1 dX12_rootPiece (t12 hM)), ↓cR, ↓cG, ↓(k_cv4 dX12_areLike (t12 hM)), ↓cx, ↓(k_cv2 dX12_copyTree (t12 hM)), ↓c2, ↓xr12_16 hM, ↓xa12_16 hM, ↓xs12_16 hM, ↓xo12_16 hM, ↓xc12_16 hM, ↓xd12_16 hM, ↓xi12_22 hM, ↓xp12_22 hM, ↓xb12_22 hM, ↓xf12_22 hM, ↓xg12_22 hM, ↓xh12_22 hM, ↓xr12_117 hM, ↓xa12_117 hM, ↓xs12_117 hM, ↓xo12_117 hM, ↓xc12_117 hM, ↓xd12_117 hM, List.length_cons, List.length_nil, List.forall_mem_cons, List.not_mem_nil, Value.category, true_and, and_true, false_and, and_false, or_true, true_or, or_false, false_or, Nat.zero_le, forall_const, implies_true, false_implies, Nat.zero_add, Nat.reduceAdd, Nat.reduceLT, Nat.reduceLeDiff, Nat.le_refl, not_true_eq_false, not_false_eq_true, r_eq, r_ne, r_lt, r_ge, r_gt, r_le, bz_ne, nn_toNat, cn_of, cn_0, cn_1, i10, Int.reduceLE, Int.reduceLT, Int.reduceEq, bz_T, bz_F, ite_self, mulc, st_bud]
              exact hk
    · rw [if_neg (by omega)]
      refine Or.inl ⟨s, G2, rfl, ⟨ki, rs2, hi, hw, hz1⟩, fun K Kr Kf hk => ?_⟩
      rw [← hL] at hk ⊢
      clear hL hN hl hrr w2 wy wy' ki rs rs1 rs2 kr kr1 kr2 kf rw0 rw1 ft kn g rg hm hp hF m1 t1 t2 t3 ho oe pw
      simp (disch := omega) only [↓wcX12_kept_2.eq_1, ↓wsX12_kept_2.eq_1, ↓(k_cv1 dX12_rootPiece (t12 hM)), ↓(k_cv2 dX12_copyTree (t12 hM)), ↓(k_cv2 dX12_sought (t12 hM)), ↓(k_cv3 dX12_fitsAt (t12 hM)), ↓(k_cv4 dX12_areLike (t12 hM)), ↓(k_cv5 dX12_turnInto (t12 hM)), ↓k_mk, ↓k_sq, ↓k_sk, ↓k_bk, ↓k_if, ↓k_te, ↓k_cm, ↓k_cz, ↓k_an2, ↓k_or2, ↓k_no, ↓k_ci, ↓k_l0, ↓k_r0, ↓k_se0, ↓k_ic0, ↓k_l1, ↓k_r1, ↓k_se1, ↓k_ic1, ↓k_de1, ↓k_tk1, ↓k_l2, ↓k_r2, ↓k_se2, ↓k_ic2, ↓k_de2, ↓k_tk2, ↓k_l3, ↓k_r3, ↓k_se3, ↓k_ic3, ↓k_de3, ↓k_tk3, ↓k_l4, ↓k_r4, ↓k_se4, ↓k_ic4, ↓k_de4, ↓k_tk4, ↓k_l5, ↓k_r5, ↓k_se5, ↓k_ic5, ↓k_de5, ↓k_tk5, ↓k_l6, ↓k_r6, ↓k_se6, ↓k_ic6, ↓k_de6, ↓k_tk6, ↓k_l7, ↓k_r7, ↓k_se7, ↓k_ic7, ↓k_de7, ↓k_tk7, ↓k_l8, ↓k_r8, ↓k_se8, ↓k_ic8, ↓k_de8, ↓k_tk8, ↓k_l9, ↓k_r9, ↓k_se9, ↓k_ic9, ↓k_de9, ↓k_tk9, ↓k_l10, ↓k_r10, ↓k_se10, ↓k_ic10, ↓k_de10, ↓k_tk10, ↓k_l11, ↓k_r11, ↓k_se11, ↓k_ic11, ↓k_de11, ↓k_tk11, ↓k_l12, ↓k_r12, ↓k_se12, ↓k_ic12, ↓k_de12, ↓k_tk12, ↓k_l13, ↓k_r13, ↓k_se13, ↓k_ic13, ↓k_de13, ↓k_tk13, ↓k_l14, ↓k_r14, ↓k_se14, ↓k_ic14, ↓k_de14, ↓k_tk14, ↓k_l15, ↓k_r15, ↓k_se15, ↓k_ic15, ↓k_de15, ↓k_tk15, ↓k_l16, ↓k_r16, ↓k_se16, ↓k_ic16, ↓k_de16, ↓k_tk16, ↓k_l17, ↓k_r17, ↓k_se17, ↓k_ic17, ↓k_de17, ↓k_tk17, ↓k_l18, ↓k_r18, ↓k_se18, ↓k_ic18, ↓k_de18, ↓k_tk18, ↓k_l19, ↓k_r19, ↓k_se19, ↓k_ic19, ↓k_de19, ↓k_tk19, ↓k_l20, ↓k_r20, ↓k_se20, ↓k_ic20, ↓k_de20, ↓k_tk20, ↓k_l21, ↓k_r21, ↓k_se21, ↓k_ic21, ↓k_de21, ↓k_tk21, ↓k_l22, ↓k_r22, ↓k_se22, ↓k_ic22, ↓k_de22, ↓k_tk22, ↓k_l23, ↓k_r23, ↓k_se23, ↓k_ic23, ↓k_de23, ↓k_tk23, ↓k_l24, ↓k_r24, ↓k_se24, ↓k_ic24, ↓k_de24, ↓k_tk24, ↓k_l25, ↓k_r25, ↓k_se25, ↓k_ic25, ↓k_de25, ↓k_tk25, ↓k_k, ↓k_kn, ↓k_kl, ↓k_kln, ↓k_il, ↓k_2, ↓k_1, ↓k_2c, ↓k_2l, ↓k_ac, ↓k_an, ↓k_cs, ↓k_cv, ↓k_fi, ↓k_fr, ↓k_ai, ↓k_az, ↓k_ar, ↓k_sai, ↓k_saz, ↓k_soa, ↓k_sof, ↓k_spf, ↓k_sx, ↓k_blk, ↓k_sset, ↓k_sdec, ↓k_sri, ↓k_srv, ↓k_srr, ↓k_nop, ↓k_add, ↓k_sub, ↓k_mul, ↓k_min, ↓k_max, ↓k_shr, ↓k_shl, ↓k_or, ↓k_ilz, ↓k_addl, ↓k_rt, ↓k_rb, ↓k_rbz, ↓k_rsi, ↓k_rsr, ↓k_rsv, ↓reduceIte, hr, bn, hm', one, zb, ↓(k_cv3 dX12_fitsAt (t12 hM)), ↓m3, ↓(k_cv5 dX12_turnInto (t12 hM)), ↓t5, f22, ↓xr12_16 hM, ↓xa12_16 hM, ↓xs12_16 hM, ↓xo12_16 hM, ↓xc12_16 hM, ↓xd12_16 hM, ↓xi12_22 hM, ↓xp12_22 hM, ↓xb12_22 hM, ↓xf12_22 hM, ↓xg12_22 hM, ↓xh12_22 hM, ↓xr12_117 hM, ↓xa12_117 hM, ↓xs12_117 hM, ↓xo12_117 hM, ↓xc12_117 hM, ↓xd12_117 hM, List.length_cons, List.length_nil, List.forall_mem_cons, List.not_mem_nil, Value.category, true_and, and_true, false_and, and_false, or_true, true_or, or_false, false_or, Nat.zero_le, forall_const, implies_true, false_implies, Nat.zero_add, Nat.reduceAdd, Nat.reduceLT, Nat.reduceLeDiff, Nat.le_refl, not_true_eq_false, not_false_eq_true, r_eq, r_ne, r_lt, r_ge, r_gt, r_le, bz_ne, nn_toNat, cn_of, cn_0, cn_1, i10, Int.reduceLE, Int.reduceLT, Int.reduceEq, bz_T, bz_F, ite_self, mulc, st_bud]
      exact hk
  · subst r1
    rw [kn, @if_neg _ (Classical.propDecidable _) ft]
    refine Or.inl ⟨s, G1, rfl, ⟨ki, rs1, hi, hw, hz1⟩, fun K Kr Kf hk => ?_⟩
    rw [← hL] at hk ⊢
    clear hL hN hl hrr w2 wy wy' ki rs rs1 kr kr1 kf rw0 ft kn g rg hm hp hF m1
    simp (disch := omega) only [↓wcX12_kept_2.eq_1, ↓wsX12_kept_2.eq_1, ↓(k_cv1 dX12_rootPiece (t12 hM)), ↓(k_cv2 dX12_copyTree (t12 hM)), ↓(k_cv2 dX12_sought (t12 hM)), ↓(k_cv3 dX12_fitsAt (t12 hM)), ↓(k_cv4 dX12_areLike (t12 hM)), ↓(k_cv5 dX12_turnInto (t12 hM)), ↓k_mk, ↓k_sq, ↓k_sk, ↓k_bk, ↓k_if, ↓k_te, ↓k_cm, ↓k_cz, ↓k_an2, ↓k_or2, ↓k_no, ↓k_ci, ↓k_l0, ↓k_r0, ↓k_se0, ↓k_ic0, ↓k_l1, ↓k_r1, ↓k_se1, ↓k_ic1, ↓k_de1, ↓k_tk1, ↓k_l2, ↓k_r2, ↓k_se2, ↓k_ic2, ↓k_de2, ↓k_tk2, ↓k_l3, ↓k_r3, ↓k_se3, ↓k_ic3, ↓k_de3, ↓k_tk3, ↓k_l4, ↓k_r4, ↓k_se4, ↓k_ic4, ↓k_de4, ↓k_tk4, ↓k_l5, ↓k_r5, ↓k_se5, ↓k_ic5, ↓k_de5, ↓k_tk5, ↓k_l6, ↓k_r6, ↓k_se6, ↓k_ic6, ↓k_de6, ↓k_tk6, ↓k_l7, ↓k_r7, ↓k_se7, ↓k_ic7, ↓k_de7, ↓k_tk7, ↓k_l8, ↓k_r8, ↓k_se8, ↓k_ic8, ↓k_de8, ↓k_tk8, ↓k_l9, ↓k_r9, ↓k_se9, ↓k_ic9, ↓k_de9, ↓k_tk9, ↓k_l10, ↓k_r10, ↓k_se10, ↓k_ic10, ↓k_de10, ↓k_tk10, ↓k_l11, ↓k_r11, ↓k_se11, ↓k_ic11, ↓k_de11, ↓k_tk11, ↓k_l12, ↓k_r12, ↓k_se12, ↓k_ic12, ↓k_de12, ↓k_tk12, ↓k_l13, ↓k_r13, ↓k_se13, ↓k_ic13, ↓k_de13, ↓k_tk13, ↓k_l14, ↓k_r14, ↓k_se14, ↓k_ic14, ↓k_de14, ↓k_tk14, ↓k_l15, ↓k_r15, ↓k_se15, ↓k_ic15, ↓k_de15, ↓k_tk15, ↓k_l16, ↓k_r16, ↓k_se16, ↓k_ic16, ↓k_de16, ↓k_tk16, ↓k_l17, ↓k_r17, ↓k_se17, ↓k_ic17, ↓k_de17, ↓k_tk17, ↓k_l18, ↓k_r18, ↓k_se18, ↓k_ic18, ↓k_de18, ↓k_tk18, ↓k_l19, ↓k_r19, ↓k_se19, ↓k_ic19, ↓k_de19, ↓k_tk19, ↓k_l20, ↓k_r20, ↓k_se20, ↓k_ic20, ↓k_de20, ↓k_tk20, ↓k_l21, ↓k_r21, ↓k_se21, ↓k_ic21, ↓k_de21, ↓k_tk21, ↓k_l22, ↓k_r22, ↓k_se22, ↓k_ic22, ↓k_de22, ↓k_tk22, ↓k_l23, ↓k_r23, ↓k_se23, ↓k_ic23, ↓k_de23, ↓k_tk23, ↓k_l24, ↓k_r24, ↓k_se24, ↓k_ic24, ↓k_de24, ↓k_tk24, ↓k_l25, ↓k_r25, ↓k_se25, ↓k_ic25, ↓k_de25, ↓k_tk25, ↓k_k, ↓k_kn, ↓k_kl, ↓k_kln, ↓k_il, ↓k_2, ↓k_1, ↓k_2c, ↓k_2l, ↓k_ac, ↓k_an, ↓k_cs, ↓k_cv, ↓k_fi, ↓k_fr, ↓k_ai, ↓k_az, ↓k_ar, ↓k_sai, ↓k_saz, ↓k_soa, ↓k_sof, ↓k_spf, ↓k_sx, ↓k_blk, ↓k_sset, ↓k_sdec, ↓k_sri, ↓k_srv, ↓k_srr, ↓k_nop, ↓k_add, ↓k_sub, ↓k_mul, ↓k_min, ↓k_max, ↓k_shr, ↓k_shl, ↓k_or, ↓k_ilz, ↓k_addl, ↓k_rt, ↓k_rb, ↓k_rbz, ↓k_rsi, ↓k_rsr, ↓k_rsv, ↓reduceIte, hr, bn, hm', one, zb, ↓(k_cv3 dX12_fitsAt (t12 hM)), ↓m3, ↓xr12_16 hM, ↓xa12_16 hM, ↓xs12_16 hM, ↓xo12_16 hM, ↓xc12_16 hM, ↓xd12_16 hM, List.length_cons, List.length_nil, List.forall_mem_cons, List.not_mem_nil, Value.category, true_and, and_true, false_and, and_false, or_true, true_or, or_false, false_or, Nat.zero_le, forall_const, implies_true, false_implies, Nat.zero_add, Nat.reduceAdd, Nat.reduceLT, Nat.reduceLeDiff, Nat.le_refl, not_true_eq_false, not_false_eq_true, r_eq, r_ne, r_lt, r_ge, r_gt, r_le, bz_ne, nn_toNat, cn_of, cn_0, cn_1, i10, Int.reduceLE, Int.reduceLT, Int.reduceEq, bz_T, bz_F, ite_self, mulc, st_bud]
    exact hk
end
