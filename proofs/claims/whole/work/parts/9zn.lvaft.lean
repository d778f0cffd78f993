section
/-! find: the class lays the afters: one step -/
theorem lvA_step {T : Nat → Option q_T} {nx o : Nat} {R : Nat → Nat → Option Value} {G0 : Nat → Int → Int} {K : Nat} {s0 : ((Nat → Int) × Int × (Int → Int))} {F v : Int} {ns I : Int → Int} {N L : Nat → Int} {u sl r na la : Nat → Int → Int} (oT : Ly T R o (L10 o)) (K1 : 1 ≤ K) (K4 : K ≤ 4) (hK : G0 o 0 = K) (T1 : ∀ k : Nat, k < K → Tr 0 F ns I ((fN G0 o 1) k) (N k) (L k) ((fC G0 o 1) k) ((fE G0 o 1) k) (u k) (sl k) (r k) (na k) (la k)) (cb : ∀ k : Nat, k < K → ∀ p, 0 ≤ p → p < (fN G0 o 1) k → 20 ≤ (fC G0 o 1) k p ∧ (fC G0 o 1) k p ≤ 1013) (T2 : ∀ k : Nat, k < K → ∀ p, 0 ≤ p → p < fN G0 o 0 k → p < (fE G0 o 0) k p ∧ (fE G0 o 0) k p ≤ fN G0 o 0 k ∧ fN G0 o 0 k ≤ 201) (cb0 : ∀ k : Nat, k < K → ∀ p, 0 ≤ p → p < fN G0 o 0 k → 20 ≤ (fC G0 o 0) k p ∧ (fC G0 o 0) k p ≤ 1013) {G : Nat → Int → Int} {P : Nat} (li : LI K (fC G0 o 1) (fE G0 o 1) (fC G0 o 0) (fE G0 o 0) s0 F ns I (fN G0 o 1) P) (li2 : LI K (fC G0 o 1) (fE G0 o 1) (fC G0 o 0) (fE G0 o 0) s0 F ns I (fN G0 o 1) (P + 1)) (d1 : 1 ≤ dd ns (lC K (fC G0 o 1) (fE G0 o 1) (fC G0 o 0) (fE G0 o 0) s0) P) (hb : HBd K (fN G0 o 0) (lS K (fC G0 o 1) (fE G0 o 1) (fC G0 o 0) (fE G0 o 0) s0 P)) (lv : LvC G0 G o (o + 18) v K (lS K (fC G0 o 1) (fE G0 o 1) (fC G0 o 0) (fE G0 o 0) s0 P) (lC K (fC G0 o 1) (fE G0 o 1) (fC G0 o 0) (fE G0 o 0) s0) P) (h16 : 0 ≤ (lS K (fC G0 o 1) (fE G0 o 1) (fC G0 o 0) (fE G0 o 0) s0 P).2.1 ∧ (lS K (fC G0 o 1) (fE G0 o 1) (fC G0 o 0) (fE G0 o 0) s0 P).2.1 ≤ 16) :
    (¬ (¬ oneX K (fC G0 o 1) (lS K (fC G0 o 1) (fE G0 o 1) (fC G0 o 0) (fE G0 o 0) s0 P).1 ∧ ¬ 0 ≤ lH K (fC G0 o 1) (fE G0 o 1) (fC G0 o 0) (fE G0 o 0) (lS K (fC G0 o 1) (fE G0 o 1) (fC G0 o 0) (fE G0 o 0) s0 P)) ∧ ∃ G', LvC G0 G' o (o + 18) v K (lS K (fC G0 o 1) (fE G0 o 1) (fC G0 o 0) (fE G0 o 0) s0 (P + 1)) (lC K (fC G0 o 1) (fE G0 o 1) (fC G0 o 0) (fE G0 o 0) s0) (P + 1) ∧ ∀ (Kr : Option Value → q_M → Prop) (K' : List Value → q_M → Prop) (Kf : q_M → Prop), K' [.ref o, .int (zI ((P + 1 : Nat) : Int))] (st T nx 0 0 R G') → wcX10_layAfters_0 [.ref o, .int (zI (P : Int))] (st T nx 0 0 R G) (fun μ' => wsX10_layAfters_0 [.ref o, .int (zI (P : Int))] μ' K' Kr) Kf) ∨
      ((¬ oneX K (fC G0 o 1) (lS K (fC G0 o 1) (fE G0 o 1) (fC G0 o 0) (fE G0 o 0) s0 P).1 ∧ ¬ 0 ≤ lH K (fC G0 o 1) (fE G0 o 1) (fC G0 o 0) (fE G0 o 0) (lS K (fC G0 o 1) (fE G0 o 1) (fC G0 o 0) (fE G0 o 0) s0 P)) ∧ ∀ (Kr : Option Value → q_M → Prop) (K' : List Value → q_M → Prop) (Kf : q_M → Prop), Kr (some (.int (zI 0))) (st T nx 0 0 R G) → wcX10_layAfters_0 [.ref o, .int (zI (P : Int))] (st T nx 0 0 R G) (fun μ' => wsX10_layAfters_0 [.ref o, .int (zI (P : Int))] μ' K' Kr) Kf) := by
  have xb := LI_x li d1
  have ow : Ly T R (o + 18) (L9 (o + 18)) := o10_11 oT
  have oA : Ly T R (o + 111 + 10 * (1 : Int).toNat) (L9 (o + 111 + 10 * (1 : Int).toNat)) := o10_4 oT (i := (1 : Int).toNat) (by omega)
  obtain ⟨S, hS⟩ : ∃ S, S = lS K (fC G0 o 1) (fE G0 o 1) (fC G0 o 0) (fE G0 o 0) s0 P := ⟨_, rfl⟩
  have eN : lS K (fC G0 o 1) (fE G0 o 1) (fC G0 o 0) (fE G0 o 0) s0 (P + 1) = lNx K (fC G0 o 1) (fE G0 o 1) (fC G0 o 0) (fE G0 o 0) S := by rw [hS]; rfl
  have ec : (lC K (fC G0 o 1) (fE G0 o 1) (fC G0 o 0) (fE G0 o 0) s0) P = lCd K (fC G0 o 1) (fE G0 o 1) (fC G0 o 0) (fE G0 o 0) S := by rw [hS]; exact lC_at P
  rw [← hS] at hb lv h16 xb
  rw [← hS, eN]
  obtain ⟨cbP, hx, h8, hh, lf⟩ := lv
  obtain ⟨eC, eE, eNn⟩ := LvF_f (s := 1) lf (by omega)
  obtain ⟨eC0, eE0, _⟩ := LvF_f (s := 0) lf (by omega)
  have p40 := LI_40 T1 K1 li
  have q40 := LI_40 T1 K1 li2
  have hKG : G o 0 = K := by rw [lf.2 0 (by omega)]; exact hK
  have n201 : ∀ k : Nat, k < K → (fN G0 o 1) k ≤ 201 := fun k hk => (T1 k hk).1.2.1
  have ex : ∀ k : Nat, k < K → S.1 k < (fE G0 o 1) k (S.1 k) ∧ (fE G0 o 1) k (S.1 k) ≤ (fN G0 o 1) k := fun k hk => (T1 k hk).2.1 _ (xb k hk).1 (xb k hk).2
  have xr : ∀ k : Nat, k < K → 0 ≤ G (o + 5) k ∧ G (o + 5) k < 201 := fun k hk => by
    have := xb k hk
    have := n201 k hk
    rw [hx k hk]
    omega
  have cx : ∀ k : Nat, k < K → 20 ≤ fC G o 1 k (G (o + 5) k) ∧ fC G o 1 k (G (o + 5) k) ≤ 1013 := fun k hk => by
    rw [eC, hx k hk]
    exact cb k hk _ (xb k hk).1 (xb k hk).2
  obtain ⟨y, hy⟩ : ∃ y, y = G (o + 5) 0 := ⟨_, rfl⟩
  have hx0 : y = S.1 0 := by
    rw [hy]
    exact hx 0 (by omega)
  have y0 : 0 ≤ y ∧ y < 201 := by
    rw [hy]
    exact xr 0 (by omega)
  have cn : G (o + 111 + 10 * (1 : Int).toNat) 2 = (fN G0 o 1) 0 := by
    rw [← eNn]
    rfl
  have hlt : y < G (o + 111 + 10 * (1 : Int).toNat) 2 := by
    rw [hx0, cn]
    exact (xb 0 (by omega)).2
  have nb2 : G (o + 111 + 10 * (1 : Int).toNat) 2 ≤ 201 := by
    rw [cn]
    exact n201 0 (by omega)
  have hP : (P : Int) < 201 := by
    have := li2.2.2.2.1
    have := q40.2.2
    omega
  obtain ⟨w, hw, cOne⟩ := c10_isOne (nx := nx) (rc := 0) (rs := 0) (s := 1) oT K1 K4 (by omega) (by omega) hKG xr cx
  rw [eC, oneX_congr K1 hx] at hw
  have one : ¬ (1 : Int) = 0 := by omega
  have hy' := hy.symm
  rcases hw with ⟨e, o1⟩ | ⟨e, o1⟩
  · subst e
    refine Or.inl ⟨fun z => z.1 o1, ?_⟩
    have cP : (lC K (fC G0 o 1) (fE G0 o 1) (fC G0 o 0) (fE G0 o 0) s0) P = G ((o + 111 + 10 * (1 : Int).toNat) + 1) y := by
      rw [ec, lCd_1 o1, hx0, ← eC]
      rfl
    have cPb : 20 ≤ G ((o + 111 + 10 * (1 : Int).toNat) + 1) y ∧ G ((o + 111 + 10 * (1 : Int).toNat) + 1) y ≤ 1013 := by
      have := cx 0 (by omega)
      rw [show G (o + 5) ((0 : Nat) : Int) = y from hy'] at this
      exact this
    obtain ⟨G1, w1, f1, r1, cAdd⟩ := c9_add (T := T) (nx := nx) (rc := 0) (rs := 0) (R := R) ow cbP cP (by omega) (by omega) (by omega)
    rcases r1 with ⟨e1, _, cb1⟩ | ⟨_, z⟩
    · subst e1
      have g5 : G1 (o + 5) = G (o + 5) := f1.1 _ (by omega) (by omega)
      have g0 : G1 o = G o := f1.1 _ (by omega) (by omega)
      obtain ⟨G2, f2, p2, cGo⟩ := c10_goOn (T := T) (nx := nx) (rc := 0) (rs := 0) (R := R) (G := G1) (s := 1) (i := 1) oT K1 K4 (by omega) (by omega) (by rw [g0]; exact hKG) (Or.inr rfl) (by rw [g5]; exact xr)
      refine ⟨G2, ⟨⟨?_, ?_, ?_, fun q hq => ?_⟩, fun k hk => ?_, ?_, fun h k q0 q1 hk => ?_, fun x q1 q2 q3 q4 q5 => ?_, fun j q => ?_⟩, fun Kr K' Kf hk => ?_⟩
      · rw [f2 _ (by omega)]; exact cb1.1
      · rw [f2 _ (by omega)]; exact cb1.2.1
      · rw [f2 _ (by omega)]; exact cb1.2.2.1
      · rw [f2 _ (by omega)]; exact cb1.2.2.2 q hq
      · rw [p2 k hk, if_pos rfl, g5, hx k hk, lNx_1 o1]
      · rw [f2 _ (by omega), g0, h8, lNx_1 o1]
      · rw [lNx_1 o1] at q1 ⊢
        rw [f2 _ (by omega), f1.1 _ (by omega) (by omega)]
        exact hh h k q0 q1 hk
      · rw [f2 _ q3, f1.1 _ q1 q2]
        exact lf.1 x q1 q2 q3 q4 q5
      · rw [f2 _ (by omega), g0]
        exact lf.2 j q
      · clear hb xb ex xr cx hx hh lf li li2 T1 T2 cb cb0 cbP f1 f2 p2 cb1 cP ec eN
        simp (disch := omega) only [↓wcX10_layAfters_0.eq_1, ↓wsX10_layAfters_0.eq_1, ↓(k_cv1 dX10_holeOf (t10 oT)), ↓(k_cv1 dX10_isOne (t10 oT)), ↓(k_cv1 dX9_add (t9 oA)), ↓(k_cv2 dX10_goOn (t10 oT)), ↓k_mk, ↓k_sq, ↓k_sk, ↓k_bk, ↓k_if, ↓k_te, ↓k_cm, ↓k_cz, ↓k_an2, ↓k_or2, ↓k_no, ↓k_ci, ↓k_l0, ↓k_r0, ↓k_se0, ↓k_ic0, ↓k_l1, ↓k_r1, ↓k_se1, ↓k_ic1, ↓k_de1, ↓k_tk1, ↓k_l2, ↓k_r2, ↓k_se2, ↓k_ic2, ↓k_de2, ↓k_tk2, ↓k_l3, ↓k_r3, ↓k_se3, ↓k_ic3, ↓k_de3, ↓k_tk3, ↓k_l4, ↓k_r4, ↓k_se4, ↓k_ic4, ↓k_de4, ↓k_tk4, ↓k_l5, ↓k_r5, ↓k_se5, ↓k_ic5, ↓k_de5, ↓k_tk5, ↓k_l6, ↓k_r6, ↓k_se6, ↓k_ic6, ↓k_de6, ↓k_tk6, ↓k_l7, ↓k_r7, ↓k_se7, ↓k_ic7, ↓k_de7, ↓k_tk7, ↓k_l8, ↓k_r8, ↓k_se8, ↓k_ic8, ↓k_de8, ↓k_tk8, ↓k_l9, ↓k_r9, ↓k_se9, ↓k_ic9, ↓k_de9, ↓k_tk9, ↓k_l10, ↓k_r10, ↓k_se10, ↓k_ic10, ↓k_de10, ↓k_tk10, ↓k_l11, ↓k_r11, ↓k_se11, ↓k_ic11, ↓k_de11, ↓k_tk11, ↓k_l12, ↓k_r12, ↓k_se12, ↓k_ic12, ↓k_de12, ↓k_tk12, ↓k_l13, ↓k_r13, ↓k_se13, ↓k_ic13, ↓k_de13, ↓k_tk13, ↓k_l14, ↓k_r14, ↓k_se14, ↓k_ic14, ↓k_de14, ↓k_tk14, ↓k_l15, ↓k_r15, ↓k_se15, ↓k_ic15, ↓k_de15, ↓k_tk15, ↓k_l16, ↓k_r16, ↓k_se16, ↓k_ic16, ↓k_de16, ↓k_tk16, ↓k_l17, ↓k_r17, ↓k_se17, ↓k_ic17, ↓k_de17, ↓k_tk17, ↓k_l18, ↓k_r18, ↓k_se18, ↓k_ic18, ↓k_de18, ↓k_tk18, ↓k_l19, ↓k_r19, ↓k_se19, ↓k_ic19, ↓k_de19, ↓k_tk19, ↓k_l20, ↓k_r20, ↓k_se20, ↓k_ic20, ↓k_de20, ↓k_tk20, ↓k_l21, ↓k_r21, ↓k_se21, ↓k_ic21, ↓k_de21, ↓k_tk21, ↓k_l22, ↓k_r22, ↓k_se22, ↓k_ic22, ↓k_de22, ↓k_tk22, ↓k_l23, ↓k_r23, ↓k_se23, ↓k_ic23, ↓k_de23, ↓k_tk23, ↓k_l24, ↓k_r24, ↓k_se24, ↓k_ic24, ↓k_de24, ↓k_tk24, ↓k_l25, ↓k_r25, ↓k_se25, ↓k_ic25, ↓k_de25, ↓k_tk25, ↓k_k, ↓k_kn, ↓k_kl, ↓k_kln, ↓k_il, ↓k_2, ↓k_1, ↓k_2c, ↓k_2l, ↓k_ac, ↓k_an, ↓k_cs, ↓k_cv, ↓k_fi, ↓k_fr, ↓k_ai, ↓k_az, ↓k_ar, ↓k_sai, ↓k_saz, ↓k_soa, ↓k_sof, ↓k_spf, ↓k_sx, ↓k_blk, ↓k_sset, ↓k_sdec, ↓k_sri, ↓k_srv, ↓k_srr, ↓k_nop, ↓k_add, ↓k_sub, ↓k_mul, ↓k_min, ↓k_max, ↓k_shr, ↓k_shl, ↓k_or, ↓k_ilz, ↓k_addl, ↓k_rt, ↓k_rb, ↓k_rbz, ↓k_rsi, ↓k_rsr, ↓k_rsv, ↓reduceIte, hP, hy', hlt, one, ↓cOne, ↓cAdd, ↓cGo, ↓xr10_4 oT, ↓xu10_4 oT, ↓xr10_6 oT, ↓xa10_6 oT, ↓xs10_6 oT, ↓xo10_6 oT, ↓xc10_6 oT, ↓xd10_6 oT, ↓xr10_11 oT, ↓(k_cv1 dX9_add (t9 ow)), ↓xi9_2 oA, ↓xp9_2 oA, ↓xb9_2 oA, ↓xf9_2 oA, ↓xg9_2 oA, ↓xh9_2 oA, ↓xr9_5 oA, ↓xa9_5 oA, ↓xs9_5 oA, ↓xo9_5 oA, ↓xc9_5 oA, ↓xd9_5 oA, List.length_cons, List.length_nil, List.forall_mem_cons, List.not_mem_nil, Value.category, true_and, and_true, false_and, and_false, or_true, true_or, or_false, false_or, Nat.zero_le, forall_const, implies_true, false_implies, Nat.zero_add, Nat.reduceAdd, Nat.reduceLT, Nat.reduceLeDiff, Nat.le_refl, not_true_eq_false, not_false_eq_true, r_eq, r_ne, r_lt, r_ge, r_gt, r_le, bz_ne, nn_toNat, cn_of, cn_0, cn_1, i10, Int.reduceLE, Int.reduceLT, Int.reduceEq, bz_T, bz_F, ite_self, mulc, st_bud]
        exact hk
    · have := q40.1
      omega
  · subst e
    have cH := c10_holeOf (nx := nx) (rc := 0) (rs := 0) (s := 1) (R := R) (G := G) (hn := S.2.1) oT K4 (by omega) (by omega) hKG h8 h16.1 h16.2 (fun k hk => by
      rw [eE, hx k hk]
      have := xb k hk
      have := ex k hk
      have := n201 k hk
      omega) (fun h k q0 q1 hk => by
      rw [eE0, hh h k q0 q1 hk]
      have a := hb h k q0 q1 hk
      have b := T2 k hk _ a.1 a.2
      omega) (fun k hk x x0 x1 => by
      rw [eE, hx k hk] at x1
      rw [eC]
      have := ex k hk
      exact cb k hk x x0 (by omega)) (fun h k q0 q1 hk x x0 x1 => by
      rw [eE0, hh h k q0 q1 hk] at x1
      rw [eC0]
      have a := hb h k q0 q1 hk
      have b := T2 k hk _ a.1 a.2
      exact cb0 k hk x x0 (by omega))
    simp only [eC, eE, eC0, eE0] at cH
    rw [lH_cong hx hh] at cH
    obtain ⟨h, hhd⟩ : ∃ h, h = lH K (fC G0 o 1) (fE G0 o 1) (fC G0 o 0) (fE G0 o 0) S := ⟨_, rfl⟩
    rw [← hhd] at cH ⊢
    have cPe : (lC K (fC G0 o 1) (fE G0 o 1) (fC G0 o 0) (fE G0 o 0) s0) P = 200 + if 0 ≤ h then h else S.2.1 := by
      rw [ec, lCd_0 o1, ← hhd]
    have nx0 : lNx K (fC G0 o 1) (fE G0 o 1) (fC G0 o 0) (fE G0 o 0) S = (fun k => (fE G0 o 1) k (S.1 k), if 0 ≤ h then S.2 else (S.2.1 + 1, fun j => if 4 * S.2.1 ≤ j then S.1 (j - 4 * S.2.1).toNat else S.2.2 j)) := by
      rw [lNx_0 o1, ← hhd]
    by_cases hp : 0 ≤ h
    · have hb2 : h < S.2.1.toNat := by
        have := (lH_b (K := K) (C := (fC G0 o 1)) (E := (fE G0 o 1)) (C0 := (fC G0 o 0)) (E0 := (fE G0 o 0)) (s := S) (by rw [← hhd]; exact hp)).1
        rw [← hhd] at this
        exact this
      have hm : ¬ h = -1 := by omega
      rw [if_pos hp] at cPe nx0
      refine Or.inl ⟨fun z => z.2 hp, ?_⟩
      obtain ⟨G1, w1, f1, r1, cAdd⟩ := c9_add (T := T) (nx := nx) (rc := 0) (rs := 0) (R := R) ow cbP cPe (by omega) (by omega) (by omega)
      rcases r1 with ⟨e1, _, cb1⟩ | ⟨_, z⟩
      · subst e1
        have g5 : G1 (o + 5) = G (o + 5) := f1.1 _ (by omega) (by omega)
        have g0 : G1 o = G o := f1.1 _ (by omega) (by omega)
        have gE : fE G1 o 1 = (fE G0 o 1) := by
          rw [← eE]
          funext k
          unfold fE
          exact f1.1 _ (by omega) (by omega)
        obtain ⟨G2, f2, p2, cGo⟩ := c10_goOn (T := T) (nx := nx) (rc := 0) (rs := 0) (R := R) (G := G1) (s := 1) (i := 0) oT K1 K4 (by omega) (by omega) (by rw [g0]; exact hKG) (Or.inl rfl) (by rw [g5]; exact xr)
        refine ⟨G2, ⟨⟨?_, ?_, ?_, fun q hq => ?_⟩, fun k hk => ?_, ?_, fun h' k q0 q1 hk => ?_, fun x q1 q2 q3 q4 q5 => ?_, fun j q => ?_⟩, fun Kr K' Kf hk => ?_⟩
        · rw [f2 _ (by omega)]; exact cb1.1
        · rw [f2 _ (by omega)]; exact cb1.2.1
        · rw [f2 _ (by omega)]; exact cb1.2.2.1
        · rw [f2 _ (by omega)]; exact cb1.2.2.2 q hq
        · rw [p2 k hk, if_neg (by omega), g5, hx k hk, gE, nx0]
        · rw [f2 _ (by omega), g0, h8, nx0]
        · rw [nx0] at q1 ⊢
          rw [f2 _ (by omega), f1.1 _ (by omega) (by omega)]
          exact hh h' k q0 q1 hk
        · rw [f2 _ q3, f1.1 _ q1 q2]
          exact lf.1 x q1 q2 q3 q4 q5
        · rw [f2 _ (by omega), g0]
          exact lf.2 j q
        · clear hb xb ex xr cx hx hh lf li li2 T1 T2 cb cb0 cbP f1 f2 p2 cb1 cPe ec eN nx0 eC eE eC0 eE0 gE hhd
          simp (disch := omega) only [↓wcX10_layAfters_0.eq_1, ↓wsX10_layAfters_0.eq_1, ↓(k_cv1 dX10_holeOf (t10 oT)), ↓(k_cv1 dX10_isOne (t10 oT)), ↓(k_cv1 dX9_add (t9 oA)), ↓(k_cv2 dX10_goOn (t10 oT)), ↓k_mk, ↓k_sq, ↓k_sk, ↓k_bk, ↓k_if, ↓k_te, ↓k_cm, ↓k_cz, ↓k_an2, ↓k_or2, ↓k_no, ↓k_ci, ↓k_l0, ↓k_r0, ↓k_se0, ↓k_ic0, ↓k_l1, ↓k_r1, ↓k_se1, ↓k_ic1, ↓k_de1, ↓k_tk1, ↓k_l2, ↓k_r2, ↓k_se2, ↓k_ic2, ↓k_de2, ↓k_tk2, ↓k_l3, ↓k_r3, ↓k_se3, ↓k_ic3, ↓k_de3, ↓k_tk3, ↓k_l4, ↓k_r4, ↓k_se4, ↓k_ic4, ↓k_de4, ↓k_tk4, ↓k_l5, ↓k_r5, ↓k_se5, ↓k_ic5, ↓k_de5, ↓k_tk5, ↓k_l6, ↓k_r6, ↓k_se6, ↓k_ic6, ↓k_de6, ↓k_tk6, ↓k_l7, ↓k_r7, ↓k_se7, ↓k_ic7, ↓k_de7, ↓k_tk7, ↓k_l8, ↓k_r8, ↓k_se8, ↓k_ic8, ↓k_de8, ↓k_tk8, ↓k_l9, ↓k_r9, ↓k_se9, ↓k_ic9, ↓k_de9, ↓k_tk9, ↓k_l10, ↓k_r10, ↓k_se10, ↓k_ic10, ↓k_de10, ↓k_tk10, ↓k_l11, ↓k_r11, ↓k_se11, ↓k_ic11, ↓k_de11, ↓k_tk11, ↓k_l12, ↓k_r12, ↓k_se12, ↓k_ic12, ↓k_de12, ↓k_tk12, ↓k_l13, ↓k_r13, ↓k_se13, ↓k_ic13, ↓k_de13, ↓k_tk13, ↓k_l14, ↓k_r14, ↓k_se14, ↓k_ic14, ↓k_de14, ↓k_tk14, ↓k_l15, ↓k_r15, ↓k_se15, ↓k_ic15, ↓k_de15, ↓k_tk15, ↓k_l16, ↓k_r16, ↓k_se16, ↓k_ic16, ↓k_de16, ↓k_tk16, ↓k_l17, ↓k_r17, ↓k_se17, ↓k_ic17, ↓k_de17, ↓k_tk17, ↓k_l18, ↓k_r18, ↓k_se18, ↓k_ic18, ↓k_de18, ↓k_tk18, ↓k_l19, ↓k_r19, ↓k_se19, ↓k_ic19, ↓k_de19, ↓k_tk19, ↓k_l20, ↓k_r20, ↓k_se20, ↓k_ic20, ↓k_de20, ↓k_tk20, ↓k_l21, ↓k_r21, ↓k_se21, ↓k_ic21, ↓k_de21, ↓k_tk21, ↓k_l22, ↓k_r22, ↓k_se22, ↓k_ic22, ↓k_de22, ↓k_tk22, ↓k_l23, ↓k_r23, ↓k_se23, ↓k_ic23, ↓k_de23, ↓k_tk23, ↓k_l24, ↓k_r24, ↓k_se24, ↓k_ic24, ↓k_de24, ↓k_tk24, ↓k_l25, ↓k_r25, ↓k_se25, ↓k_ic25, ↓k_de25, ↓k_tk25, ↓k_k, ↓k_kn, ↓k_kl, ↓k_kln, ↓k_il, ↓k_2, ↓k_1, ↓k_2c, ↓k_2l, ↓k_ac, ↓k_an, ↓k_cs, ↓k_cv, ↓k_fi, ↓k_fr, ↓k_ai, ↓k_az, ↓k_ar, ↓k_sai, ↓k_saz, ↓k_soa, ↓k_sof, ↓k_spf, ↓k_sx, ↓k_blk, ↓k_sset, ↓k_sdec, ↓k_sri, ↓k_srv, ↓k_srr, ↓k_nop, ↓k_add, ↓k_sub, ↓k_mul, ↓k_min, ↓k_max, ↓k_shr, ↓k_shl, ↓k_or, ↓k_ilz, ↓k_addl, ↓k_rt, ↓k_rb, ↓k_rbz, ↓k_rsi, ↓k_rsr, ↓k_rsv, ↓reduceIte, hP, hy', hlt, one, hm, eq_self, ↓cOne, ↓cH, ↓cAdd, ↓cGo, ↓xr10_4 oT, ↓xu10_4 oT, ↓xr10_6 oT, ↓xa10_6 oT, ↓xs10_6 oT, ↓xo10_6 oT, ↓xc10_6 oT, ↓xd10_6 oT, ↓xi10_8 oT, ↓xp10_8 oT, ↓xb10_8 oT, ↓xf10_8 oT, ↓xg10_8 oT, ↓xh10_8 oT, ↓xr10_11 oT, ↓(k_cv1 dX9_add (t9 ow)), ↓xi9_2 oA, ↓xp9_2 oA, ↓xb9_2 oA, ↓xf9_2 oA, ↓xg9_2 oA, ↓xh9_2 oA, ↓xr9_5 oA, ↓xa9_5 oA, ↓xs9_5 oA, ↓xo9_5 oA, ↓xc9_5 oA, ↓xd9_5 oA, List.length_cons, List.length_nil, List.forall_mem_cons, List.not_mem_nil, Value.category, true_and, and_true, false_and, and_false, or_true, true_or, or_false, false_or, Nat.zero_le, forall_const, implies_true, false_implies, Nat.zero_add, Nat.reduceAdd, Nat.reduceLT, Nat.reduceLeDiff, Nat.le_refl, not_true_eq_false, not_false_eq_true, r_eq, r_ne, r_lt, r_ge, r_gt, r_le, bz_ne, nn_toNat, cn_of, cn_0, cn_1, i10, Int.reduceLE, Int.reduceLT, Int.reduceEq, bz_T, bz_F, ite_self, mulc, st_bud]
          exact hk
      · have := q40.1
        omega
    · have hm : h = -1 := by
        rcases lFst_is (sameH K (fC G0 o 1) (fE G0 o 1) (fC G0 o 0) (fE G0 o 0) S.1 S.2.2) S.2.1.toNat with ⟨a, _⟩ | ⟨a, _⟩
        · rw [hhd]
          exact a
        · have : 0 ≤ lH K (fC G0 o 1) (fE G0 o 1) (fC G0 o 0) (fE G0 o 0) S := a
          omega
      subst hm
      refine Or.inr ⟨⟨o1, hp⟩, fun Kr K' Kf hk => ?_⟩
      clear hb xb ex xr cx hx hh lf li li2 T1 T2 cb cb0 cbP cPe ec eN nx0 eC eE eC0 eE0
      simp (disch := omega) only [↓wcX10_layAfters_0.eq_1, ↓wsX10_layAfters_0.eq_1, ↓(k_cv1 dX10_holeOf (t10 oT)), ↓(k_cv1 dX10_isOne (t10 oT)), ↓(k_cv1 dX9_add (t9 oA)), ↓(k_cv2 dX10_goOn (t10 oT)), ↓k_mk, ↓k_sq, ↓k_sk, ↓k_bk, ↓k_if, ↓k_te, ↓k_cm, ↓k_cz, ↓k_an2, ↓k_or2, ↓k_no, ↓k_ci, ↓k_l0, ↓k_r0, ↓k_se0, ↓k_ic0, ↓k_l1, ↓k_r1, ↓k_se1, ↓k_ic1, ↓k_de1, ↓k_tk1, ↓k_l2, ↓k_r2, ↓k_se2, ↓k_ic2, ↓k_de2, ↓k_tk2, ↓k_l3, ↓k_r3, ↓k_se3, ↓k_ic3, ↓k_de3, ↓k_tk3, ↓k_l4, ↓k_r4, ↓k_se4, ↓k_ic4, ↓k_de4, ↓k_tk4, ↓k_l5, ↓k_r5, ↓k_se5, ↓k_ic5, ↓k_de5, ↓k_tk5, ↓k_l6, ↓k_r6, ↓k_se6, ↓k_ic6, ↓k_de6, ↓k_tk6, ↓k_l7, ↓k_r7, ↓k_se7, ↓k_ic7, ↓k_de7, ↓k_tk7, ↓k_l8, ↓k_r8, ↓k_se8, ↓k_ic8, ↓k_de8, ↓k_tk8, ↓k_l9, ↓k_r9, ↓k_se9, ↓k_ic9, ↓k_de9, ↓k_tk9, ↓k_l10, ↓k_r10, ↓k_se10, ↓k_ic10, ↓k_de10, ↓k_tk10, ↓k_l11, ↓k_r11, ↓k_se11, ↓k_ic11, ↓k_de11, ↓k_tk11, ↓k_l12, ↓k_r12, ↓k_se12, ↓k_ic12, ↓k_de12, ↓k_tk12, ↓k_l13, ↓k_r13, ↓k_se13, ↓k_ic13, ↓k_de13, ↓k_tk13, ↓k_l14, ↓k_r14, ↓k_se14, ↓k_ic14, ↓k_de14, ↓k_tk14, ↓k_l15, ↓k_r15, ↓k_se15, ↓k_ic15, ↓k_de15, ↓k_tk15, ↓k_l16, ↓k_r16, ↓k_se16, ↓k_ic16, ↓k_de16, ↓k_tk16, ↓k_l17, ↓k_r17, ↓k_se17, ↓k_ic17, ↓k_de17, ↓k_tk17, ↓k_l18, ↓k_r18, ↓k_se18, ↓k_ic18, ↓k_de18, ↓k_tk18, ↓k_l19, ↓k_r19, ↓k_se19, ↓k_ic19, ↓k_de19, ↓k_tk19, ↓k_l20, ↓k_r20, ↓k_se20, ↓k_ic20, ↓k_de20, ↓k_tk20, ↓k_l21, ↓k_r21, ↓k_se21, ↓k_ic21, ↓k_de21, ↓k_tk21, ↓k_l22, ↓k_r22, ↓k_se22, ↓k_ic22, ↓k_de22, ↓k_tk22, ↓k_l23, ↓k_r23, ↓k_se23, ↓k_ic23, ↓k_de23, ↓k_tk23, ↓k_l24, ↓k_r24, ↓k_se24, ↓k_ic24, ↓k_de24, ↓k_tk24, ↓k_l25, ↓k_r25, ↓k_se25, ↓k_ic25, ↓k_de25, ↓k_tk25, ↓k_k, ↓k_kn, ↓k_kl, ↓k_kln, ↓k_il, ↓k_2, ↓k_1, ↓k_2c, ↓k_2l, ↓k_ac, ↓k_an, ↓k_cs, ↓k_cv, ↓k_fi, ↓k_fr, ↓k_ai, ↓k_az, ↓k_ar, ↓k_sai, ↓k_saz, ↓k_soa, ↓k_sof, ↓k_spf, ↓k_sx, ↓k_blk, ↓k_sset, ↓k_sdec, ↓k_sri, ↓k_srv, ↓k_srr, ↓k_nop, ↓k_add, ↓k_sub, ↓k_mul, ↓k_min, ↓k_max, ↓k_shr, ↓k_shl, ↓k_or, ↓k_ilz, ↓k_addl, ↓k_rt, ↓k_rb, ↓k_rbz, ↓k_rsi, ↓k_rsr, ↓k_rsv, ↓reduceIte, hP, hy', hlt, one, eq_self, ↓cOne, ↓cH, ↓xr10_4 oT, ↓xu10_4 oT, ↓xr10_6 oT, ↓xa10_6 oT, ↓xs10_6 oT, ↓xo10_6 oT, ↓xc10_6 oT, ↓xd10_6 oT, ↓xi10_8 oT, ↓xp10_8 oT, ↓xb10_8 oT, ↓xf10_8 oT, ↓xg10_8 oT, ↓xh10_8 oT, ↓xr10_11 oT, ↓(k_cv1 dX9_add (t9 ow)), ↓xi9_2 oA, ↓xp9_2 oA, ↓xb9_2 oA, ↓xf9_2 oA, ↓xg9_2 oA, ↓xh9_2 oA, ↓xr9_5 oA, ↓xa9_5 oA, ↓xs9_5 oA, ↓xo9_5 oA, ↓xc9_5 oA, ↓xd9_5 oA, List.length_cons, List.length_nil, List.forall_mem_cons, List.not_mem_nil, Value.category, true_and, and_true, false_and, and_false, or_true, true_or, or_false, false_or, Nat.zero_le, forall_const, implies_true, false_implies, Nat.zero_add, Nat.reduceAdd, Nat.reduceLT, Nat.reduceLeDiff, Nat.le_refl, not_true_eq_false, not_false_eq_true, r_eq, r_ne, r_lt, r_ge, r_gt, r_le, bz_ne, nn_toNat, cn_of, cn_0, cn_1, i10, Int.reduceLE, Int.reduceLT, Int.reduceEq, bz_T, bz_F, ite_self, mulc, st_bud]
      exact hk
end
