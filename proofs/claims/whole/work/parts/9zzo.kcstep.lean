section
/-! kept: the class goes one way at one node -/
/-- what stands while one way is gone -/
def KCr (G0 G : Nat → Int → Int) (B : Nat) (v : Int) (goal w : List Int) (i : Nat) (z : Int) (s : (List (List Int × Int))) : Prop := KI G0 B v goal s ∧ CSr G0 G B s ∧ LF (G0 (tvA B v + 5)) G (B + 150) w ∧ i < s.length ∧ kW s i = w ∧ kZ s i + 1 = z
theorem kc_node {T : Nat → Option q_T} {nx B ua uz ga : Nat} {R : Nat → Nat → Option Value} {G0 G : Nat → Int → Int} {v ia iz j jx z : Int} {goal w : List Int} {s : List (List Int × Int)} {i m : Nat} (oT : Ly T R (B + 59) (L10 (B + 59))) (hA : Ly T R (B + 160) (L9 (B + 160))) (hB : Ly T R (B + 150) (L9 (B + 150))) (hG : Ly T R ga (L9 ga)) (oa : Ly T R ua (L9 ua)) (oz : Ly T R uz (L9 uz)) (o8 : Ly T R (tvA B v) (L8 (tvA B v))) (hF : IFm G0 B) (kv : 0 ≤ v ∧ v ≤ 1) (wy : WAY G0 B v ia iz ua uz) (hu : B + 250 ≤ ua ∧ ua + 10 ≤ B + 370) (hz : B + 250 ≤ uz ∧ uz + 10 ≤ B + 370) (hg : B + 250 ≤ ga ∧ ga + 10 ≤ B + 370) (gg : GW1 G0 B v goal) (g2 : G0 ga 2 = (goal.length : Int)) (gc : ∀ q : Nat, q < goal.length → G0 (ga + 1) q = wf goal q) (jb : 0 ≤ j ∧ j < 12) (jxb : 0 ≤ jx ∧ jx < 12) (eua : B + 59 + 191 + 10 * j.toNat = ua) (euz : B + 59 + 191 + 10 * jx.toNat = uz) (ex : ∀ (μ : q_M) (K : Int32 → q_M → Prop), opK (q_gixor (zI j) (zI 1)) μ K = K (zI jx) μ) (rl : KCr G0 G B v goal w i z s) (hm : (m : Int) < nb (wf w) w.length) :
    (∃ s' G', kNode G0 B v goal i ua uz m s = Sum.inl s' ∧ KCr G0 G' B v goal w i z s' ∧ ∀ (K : List Value → q_M → Prop) (Kr : Option Value → q_M → Prop) (Kf : q_M → Prop), K [.ref (B + 59), .ref (tvA B v), .int (zI j), .ref ga, .int (zI z), .int (zI ((m : Int) + 1))] (st T nx 0 0 R G') → wcX10_seekBy_0 [.ref (B + 59), .ref (tvA B v), .int (zI j), .ref ga, .int (zI z), .int (zI m)] (st T nx 0 0 R G) (fun μ' => wsX10_seekBy_0 [.ref (B + 59), .ref (tvA B v), .int (zI j), .ref ga, .int (zI z), .int (zI m)] μ' K Kr) Kf) ∨ ∃ a G', kNode G0 B v goal i ua uz m s = Sum.inr a ∧ KC G0 G' B ∧ ∀ (K : List Value → q_M → Prop) (Kr : Option Value → q_M → Prop) (Kf : q_M → Prop), Kr (some (.int (zI a))) (st T nx 0 0 R G') → wcX10_seekBy_0 [.ref (B + 59), .ref (tvA B v), .int (zI j), .ref ga, .int (zI z), .int (zI m)] (st T nx 0 0 R G) (fun μ' => wsX10_seekBy_0 [.ref (B + 59), .ref (tvA B v), .int (zI j), .ref ga, .int (zI z), .int (zI m)] μ' K Kr) Kf := by
  obtain ⟨ki, cs, lf, hi, hw, hz1⟩ := rl
  have g : GW1 G0 B v w := by rw [← hw]; exact (ki.2 i hi).1
  have zb : 1 ≤ z ∧ z ≤ s.length := by have := (ki.2 i hi).2.1; omega
  have l60 := ki.1.2
  have kc := cs.1
  have kT := (LF_tr hF kv g lf).1
  have naE := (LF_tr hF kv g lf).2.2 m (by omega) hm
  have nb40 := g.2
  obtain ⟨p, hp⟩ : ∃ p, p = naW (wf w) w.length m := ⟨_, rfl⟩
  obtain ⟨p0, p1, _, _, _⟩ := Tr_m (trW hF kv g) (show 0 ≤ (m : Int) by omega) hm
  rw [← hp] at naE p0 p1
  have f3 : G (B + 150) 3 = nb (wf w) w.length := lf.2.1
  have len201 := (GW_b hF kv g).1.2
  obtain ⟨N, hN⟩ : ∃ N, N = nb (wf w) w.length := ⟨_, rfl⟩
  rw [← hN] at f3 hm nb40
  obtain ⟨G1, r, m1, m2, m3⟩ := kc_matches (T := T) (nx := nx) (R := R) oT hB hF kv wy hu hz kc g lf oa o8 p0 p1
  have kn : kNode G0 B v goal i ua uz m s = @ite ((List (List Int × Int)) ⊕ Int) (fitW G0 B v ua w p) (Classical.propDecidable _) (kNew goal (kOut G0 B v ua uz w p) z s) (Sum.inl s) := by
    unfold kNode
    rw [hw, ← hp, hz1]
  have one : ¬ (1 : Int) = 0 := by omega
  have mI : 0 ≤ (m : Int) := by omega
  rcases m2 with ⟨r1, ft, sg, con⟩ | ⟨r1, ft⟩
  · subst r1
    rw [kn, @if_pos _ (Classical.propDecidable _) ft]
    have oe := out_ex hF kv wy g p0 p1 ft
    have ho := kOut_is oe.1
    obtain ⟨w', hw'⟩ : ∃ w', w' = kOut G0 B v ua uz w p := ⟨_, rfl⟩
    rw [← hw'] at ho ⊢
    have pw := oe.2 w' ho
    have e1 : ∀ x, ¬ x = B + 66 → ¬ (B + 150 ≤ x ∧ x ≤ B + 169) → G1 x = G x := fun x q1 q2 => m1 x q1
    have cs1 := CSr_cg l60 e1 cs
    have lf1 : LF (G0 (tvA B v + 5)) G1 (B + 150) w := LF_cg (fun x q1 q2 => m1 x (by omega)) lf
    obtain ⟨G2, y, t1, t2, t3⟩ := c10_turnAt (T := T) (nx := nx) (R := R) (w' := w') oT hB hF kv wy hu hz cs1.1 g lf1 hA oz p0 p1 ft sg (by rw [m1 (B + 150 + 1) (by omega), m1 (B + 150 + 2) (by omega)]; exact con) ho
    have e2 : ∀ x, ¬ x = B + 66 → ¬ (B + 150 ≤ x ∧ x ≤ B + 169) → G2 x = G x := fun x q1 q2 => by rw [t1 x (by omega) (by omega), m1 x q1]
    have cs2 := CSr_cg l60 e2 cs
    have lf2 : LF (G0 (tvA B v + 5)) G2 (B + 150) w := LF_cg (fun x q1 q2 => t1 x (by omega) (by omega)) lf1
    unfold kNew
    rcases t2 with ⟨y1, n40, n2, nc⟩ | ⟨y1, n40⟩
    · subst y1
      rw [if_pos n40]
      have g' : GW1 G0 B v w' := ⟨pw, n40⟩
      have wl' := (GW_b hF kv g').1
      have c1 : G2 ga 2 = (goal.length : Int) := by rw [cs2.1.1 ga (by omega) (by omega) (by omega)]; exact g2
      obtain ⟨x, hx, cx⟩ := c10_rowW (T := T) (nx := nx) (R := R) (G := G2) (r := ga + 1) oT hA hF kv gg g' n2 nc (t9_5 hG) (v9_5 hG) (fun q hq => by rw [cs2.1.1 (ga + 1) (by omega) (by omega) (by omega)]; exact gc q hq)
      obtain ⟨gl, hgl⟩ : ∃ gl, gl = (goal.length : Int) := ⟨_, rfl⟩
      rw [← hgl] at c1 cx
      rcases hx with ⟨x1, hx⟩ | ⟨x1, hx⟩
      · subst x1
        rw [if_pos hx]
        refine Or.inr ⟨z, G2, rfl, cs2.1, fun K Kr Kf hk => ?_⟩
        sorry
      · subst x1
        rw [if_neg hx]
        obtain ⟨u, hu', cu⟩ := c10_isFound (T := T) (nx := nx) (R := R) (G := G2) oT hA hF kv ki cs2 g' n2 nc
        rcases hu' with ⟨u1, hu'⟩ | ⟨u1, hu'⟩
        · subst u1
          rw [if_pos hu']
          refine Or.inl ⟨s, G2, rfl, ⟨ki, cs2, lf2, hi, hw, hz1⟩, fun K Kr Kf hk => ?_⟩
          sorry
        · subst u1
          rw [if_neg hu']
          by_cases full : 60 ≤ s.length
          · rw [if_pos full]
            refine Or.inr ⟨-100005, G2, rfl, cs2.1, fun K Kr Kf hk => ?_⟩
            sorry
          · rw [if_neg full]
            sorry
    · subst y1
      rw [if_neg (by omega)]
      refine Or.inl ⟨s, G2, rfl, ⟨ki, cs2, lf2, hi, hw, hz1⟩, fun K Kr Kf hk => ?_⟩
      clear hu hz wy kT ki cs cs1 cs2 lf lf1 lf2 sg con ho oe pw ft kn e1 e2 g gg gc
      simp (disch := omega) only [↓wcX10_seekBy_0.eq_1, ↓wsX10_seekBy_0.eq_1, ↓(k_cs3 dX10_isRow), ↓(k_cv0 dX10_isFound (t10 oT)), ↓(k_cv2 dX10_addFound (t10 oT)), ↓(k_cv2 dX10_turnAt (t10 oT)), ↓(k_cv4 dX10_matches (t10 oT)), ↓k_mk, ↓k_sq, ↓k_sk, ↓k_bk, ↓k_if, ↓k_te, ↓k_cm, ↓k_cz, ↓k_an2, ↓k_or2, ↓k_no, ↓k_ci, ↓k_l0, ↓k_r0, ↓k_se0, ↓k_ic0, ↓k_l1, ↓k_r1, ↓k_se1, ↓k_ic1, ↓k_de1, ↓k_tk1, ↓k_l2, ↓k_r2, ↓k_se2, ↓k_ic2, ↓k_de2, ↓k_tk2, ↓k_l3, ↓k_r3, ↓k_se3, ↓k_ic3, ↓k_de3, ↓k_tk3, ↓k_l4, ↓k_r4, ↓k_se4, ↓k_ic4, ↓k_de4, ↓k_tk4, ↓k_l5, ↓k_r5, ↓k_se5, ↓k_ic5, ↓k_de5, ↓k_tk5, ↓k_l6, ↓k_r6, ↓k_se6, ↓k_ic6, ↓k_de6, ↓k_tk6, ↓k_l7, ↓k_r7, ↓k_se7, ↓k_ic7, ↓k_de7, ↓k_tk7, ↓k_l8, ↓k_r8, ↓k_se8, ↓k_ic8, ↓k_de8, ↓k_tk8, ↓k_l9, ↓k_r9, ↓k_se9, ↓k_ic9, ↓k_de9, ↓k_tk9, ↓k_l10, ↓k_r10, ↓k_se10, ↓k_ic10, ↓k_de10, ↓k_tk10, ↓k_l11, ↓k_r11, ↓k_se11, ↓k_ic11, ↓k_de11, ↓k_tk11, ↓k_l12, ↓k_r12, ↓k_se12, ↓k_ic12, ↓k_de12, ↓k_tk12, ↓k_l13, ↓k_r13, ↓k_se13, ↓k_ic13, ↓k_de13, ↓k_tk13, ↓k_l14, ↓k_r14, ↓k_se14, ↓k_ic14, ↓k_de14, ↓k_tk14, ↓k_l15, ↓k_r15, ↓k_se15, ↓k_ic15, ↓k_de15, ↓k_tk15, ↓k_l16, ↓k_r16, ↓k_se16, ↓k_ic16, ↓k_de16, ↓k_tk16, ↓k_l17, ↓k_r17, ↓k_se17, ↓k_ic17, ↓k_de17, ↓k_tk17, ↓k_l18, ↓k_r18, ↓k_se18, ↓k_ic18, ↓k_de18, ↓k_tk18, ↓k_l19, ↓k_r19, ↓k_se19, ↓k_ic19, ↓k_de19, ↓k_tk19, ↓k_l20, ↓k_r20, ↓k_se20, ↓k_ic20, ↓k_de20, ↓k_tk20, ↓k_l21, ↓k_r21, ↓k_se21, ↓k_ic21, ↓k_de21, ↓k_tk21, ↓k_l22, ↓k_r22, ↓k_se22, ↓k_ic22, ↓k_de22, ↓k_tk22, ↓k_l23, ↓k_r23, ↓k_se23, ↓k_ic23, ↓k_de23, ↓k_tk23, ↓k_l24, ↓k_r24, ↓k_se24, ↓k_ic24, ↓k_de24, ↓k_tk24, ↓k_l25, ↓k_r25, ↓k_se25, ↓k_ic25, ↓k_de25, ↓k_tk25, ↓k_k, ↓k_kn, ↓k_kl, ↓k_kln, ↓k_il, ↓k_2, ↓k_1, ↓k_2c, ↓k_2l, ↓k_ac, ↓k_an, ↓k_cs, ↓k_cv, ↓k_fi, ↓k_fr, ↓k_ai, ↓k_az, ↓k_ar, ↓k_sai, ↓k_saz, ↓k_soa, ↓k_sof, ↓k_spf, ↓k_sx, ↓k_blk, ↓k_sset, ↓k_sdec, ↓k_sri, ↓k_srv, ↓k_srr, ↓k_nop, ↓k_add, ↓k_sub, ↓k_mul, ↓k_min, ↓k_max, ↓k_shr, ↓k_shl, ↓k_or, ↓k_ilz, ↓k_addl, ↓k_rt, ↓k_rb, ↓k_rbz, ↓k_rsi, ↓k_rsr, ↓k_rsv, ↓reduceIte, f3, hm, naE, eua, euz, one, ↓ex, ↓(k_cv4 dX10_matches (t10 oT)), ↓m3, ↓(k_cv2 dX10_turnAt (t10 oT)), ↓t3, ↓xr10_5 oT, ↓xu10_5 oT, ↓xr10_16 oT, ↓xi9_3 hB, ↓xp9_3 hB, ↓xb9_3 hB, ↓xf9_3 hB, ↓xg9_3 hB, ↓xh9_3 hB, ↓xr9_11 hB, ↓xa9_11 hB, ↓xs9_11 hB, ↓xo9_11 hB, ↓xc9_11 hB, ↓xd9_11 hB, List.length_cons, List.length_nil, List.forall_mem_cons, List.not_mem_nil, Value.category, true_and, and_true, false_and, and_false, or_true, true_or, or_false, false_or, Nat.zero_le, forall_const, implies_true, false_implies, Nat.zero_add, Nat.reduceAdd, Nat.reduceLT, Nat.reduceLeDiff, Nat.le_refl, not_true_eq_false, not_false_eq_true, r_eq, r_ne, r_lt, r_ge, r_gt, r_le, bz_ne, nn_toNat, cn_of, cn_0, cn_1, i10, Int.reduceLE, Int.reduceLT, Int.reduceEq, bz_T, bz_F, ite_self, mulc, st_bud]
      exact hk
  · subst r1
    rw [kn, @if_neg _ (Classical.propDecidable _) ft]
    refine Or.inl ⟨s, G1, rfl, ⟨ki, CSr_cg l60 (fun x q1 q2 => m1 x q1) cs, LF_cg (fun x q1 q2 => m1 x (by omega)) lf, hi, hw, hz1⟩, fun K Kr Kf hk => ?_⟩
    clear hu hz wy kT ki cs lf ft kn g gg gc
    simp (disch := omega) only [↓wcX10_seekBy_0.eq_1, ↓wsX10_seekBy_0.eq_1, ↓(k_cs3 dX10_isRow), ↓(k_cv0 dX10_isFound (t10 oT)), ↓(k_cv2 dX10_addFound (t10 oT)), ↓(k_cv2 dX10_turnAt (t10 oT)), ↓(k_cv4 dX10_matches (t10 oT)), ↓k_mk, ↓k_sq, ↓k_sk, ↓k_bk, ↓k_if, ↓k_te, ↓k_cm, ↓k_cz, ↓k_an2, ↓k_or2, ↓k_no, ↓k_ci, ↓k_l0, ↓k_r0, ↓k_se0, ↓k_ic0, ↓k_l1, ↓k_r1, ↓k_se1, ↓k_ic1, ↓k_de1, ↓k_tk1, ↓k_l2, ↓k_r2, ↓k_se2, ↓k_ic2, ↓k_de2, ↓k_tk2, ↓k_l3, ↓k_r3, ↓k_se3, ↓k_ic3, ↓k_de3, ↓k_tk3, ↓k_l4, ↓k_r4, ↓k_se4, ↓k_ic4, ↓k_de4, ↓k_tk4, ↓k_l5, ↓k_r5, ↓k_se5, ↓k_ic5, ↓k_de5, ↓k_tk5, ↓k_l6, ↓k_r6, ↓k_se6, ↓k_ic6, ↓k_de6, ↓k_tk6, ↓k_l7, ↓k_r7, ↓k_se7, ↓k_ic7, ↓k_de7, ↓k_tk7, ↓k_l8, ↓k_r8, ↓k_se8, ↓k_ic8, ↓k_de8, ↓k_tk8, ↓k_l9, ↓k_r9, ↓k_se9, ↓k_ic9, ↓k_de9, ↓k_tk9, ↓k_l10, ↓k_r10, ↓k_se10, ↓k_ic10, ↓k_de10, ↓k_tk10, ↓k_l11, ↓k_r11, ↓k_se11, ↓k_ic11, ↓k_de11, ↓k_tk11, ↓k_l12, ↓k_r12, ↓k_se12, ↓k_ic12, ↓k_de12, ↓k_tk12, ↓k_l13, ↓k_r13, ↓k_se13, ↓k_ic13, ↓k_de13, ↓k_tk13, ↓k_l14, ↓k_r14, ↓k_se14, ↓k_ic14, ↓k_de14, ↓k_tk14, ↓k_l15, ↓k_r15, ↓k_se15, ↓k_ic15, ↓k_de15, ↓k_tk15, ↓k_l16, ↓k_r16, ↓k_se16, ↓k_ic16, ↓k_de16, ↓k_tk16, ↓k_l17, ↓k_r17, ↓k_se17, ↓k_ic17, ↓k_de17, ↓k_tk17, ↓k_l18, ↓k_r18, ↓k_se18, ↓k_ic18, ↓k_de18, ↓k_tk18, ↓k_l19, ↓k_r19, ↓k_se19, ↓k_ic19, ↓k_de19, ↓k_tk19, ↓k_l20, ↓k_r20, ↓k_se20, ↓k_ic20, ↓k_de20, ↓k_tk20, ↓k_l21, ↓k_r21, ↓k_se21, ↓k_ic21, ↓k_de21, ↓k_tk21, ↓k_l22, ↓k_r22, ↓k_se22, ↓k_ic22, ↓k_de22, ↓k_tk22, ↓k_l23, ↓k_r23, ↓k_se23, ↓k_ic23, ↓k_de23, ↓k_tk23, ↓k_l24, ↓k_r24, ↓k_se24, ↓k_ic24, ↓k_de24, ↓k_tk24, ↓k_l25, ↓k_r25, ↓k_se25, ↓k_ic25, ↓k_de25, ↓k_tk25, ↓k_k, ↓k_kn, ↓k_kl, ↓k_kln, ↓k_il, ↓k_2, ↓k_1, ↓k_2c, ↓k_2l, ↓k_ac, ↓k_an, ↓k_cs, ↓k_cv, ↓k_fi, ↓k_fr, ↓k_ai, ↓k_az, ↓k_ar, ↓k_sai, ↓k_saz, ↓k_soa, ↓k_sof, ↓k_spf, ↓k_sx, ↓k_blk, ↓k_sset, ↓k_sdec, ↓k_sri, ↓k_srv, ↓k_srr, ↓k_nop, ↓k_add, ↓k_sub, ↓k_mul, ↓k_min, ↓k_max, ↓k_shr, ↓k_shl, ↓k_or, ↓k_ilz, ↓k_addl, ↓k_rt, ↓k_rb, ↓k_rbz, ↓k_rsi, ↓k_rsr, ↓k_rsv, ↓reduceIte, f3, hm, naE, eua, one, ↓(k_cv4 dX10_matches (t10 oT)), ↓m3, ↓xr10_5 oT, ↓xu10_5 oT, ↓xr10_16 oT, ↓xi9_3 hB, ↓xp9_3 hB, ↓xb9_3 hB, ↓xf9_3 hB, ↓xg9_3 hB, ↓xh9_3 hB, ↓xr9_11 hB, ↓xa9_11 hB, ↓xs9_11 hB, ↓xo9_11 hB, ↓xc9_11 hB, ↓xd9_11 hB, List.length_cons, List.length_nil, List.forall_mem_cons, List.not_mem_nil, Value.category, true_and, and_true, false_and, and_false, or_true, true_or, or_false, false_or, Nat.zero_le, forall_const, implies_true, false_implies, Nat.zero_add, Nat.reduceAdd, Nat.reduceLT, Nat.reduceLeDiff, Nat.le_refl, not_true_eq_false, not_false_eq_true, r_eq, r_ne, r_lt, r_ge, r_gt, r_le, bz_ne, nn_toNat, cn_of, cn_0, cn_1, i10, Int.reduceLE, Int.reduceLT, Int.reduceEq, bz_T, bz_F, ite_self, mulc, st_bud]
    exact hk
end
