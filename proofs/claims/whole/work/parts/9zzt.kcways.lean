section
/-! kept: the class goes all ways -/
/-- an open way is one that both sides can go -/
theorem way_of {G0 : Nat → Int → Int} {B j : Nat} {v : Int} (hF : IFm G0 B) (iRe : IRe G0 B) (hj : j < 12) (kv : 0 ≤ v ∧ v ≤ 1) (o : kOpen G0 B v j) : WAY G0 B v (20 + j) (20 + (jxN j : Nat)) (uaJ B j) (uzJ B j) := by
  obtain ⟨⟨th, lw, tl⟩, sub⟩ := o
  obtain ⟨l, hl⟩ : ∃ l, l = j / 2 := ⟨_, rfl⟩
  rw [← hl] at th lw tl sub
  obtain ⟨v', x1, x2, ta, tz, aN, tt, _, zN, ca, cz, la, lz, tie⟩ := turn_ok hF iRe (k := (l : Int)) ⟨⟨by omega, by omega⟩, th⟩
  have e20 : B + 250 + 20 * (l : Int).toNat = B + 250 + 20 * l := by omega
  have e21 : B + 260 + 20 * (l : Int).toNat = B + 260 + 20 * l := by omega
  rw [e20] at x1 ta aN ca la tie
  rw [e21] at tz zN cz lz tie
  have vv : v' = v := by rw [← x1, tl]
  subst vv
  by_cases r : j % 2 = 0
  · have ea : uaJ B j = B + 250 + 20 * l := by unfold uaJ; omega
    have ez : uzJ B j = B + 260 + 20 * l := by unfold uzJ; rw [if_pos r]; omega
    have ej : jxN j = j + 1 := by unfold jxN; rw [if_pos r]
    rw [ea, ez, ej, show (20 + (j : Int)) = 20 + 2 * (l : Int) by omega, show (20 + ((j + 1 : Nat) : Int)) = 21 + 2 * (l : Int) by omega]
    exact ⟨ta, tz, ca, cz, la, lz, kkw0 hF kv ta tz aN tie⟩
  · have ea : uaJ B j = B + 260 + 20 * l := by unfold uaJ; omega
    have ez : uzJ B j = B + 250 + 20 * l := by unfold uzJ; rw [if_neg r]; omega
    have ej : jxN j = j - 1 := by unfold jxN; rw [if_neg r]
    rw [ea, ez, ej, show (20 + (j : Int)) = 21 + 2 * (l : Int) by omega, show (20 + ((j - 1 : Nat) : Int)) = 20 + 2 * (l : Int) by omega]
    have sub := sub.resolve_left r
    refine ⟨tz, ta, cz, ca, lz, la, kkw1 hF kv tz ta aN tie fun y y0 y1 hh => ?_⟩
    have := sub y y0 y1 hh
    exact this
theorem kMay_open {G0 : Nat → Int → Int} {B j : Nat} {tu v : Int} : kMay G0 B tu v j ↔ ¬ ((j / 2 : Nat) : Int) = tu ∧ kOpen G0 B v j := by
  unfold kMay kOpen
  constructor
  · exact fun ⟨a, b, c⟩ => ⟨a, b, c⟩
  · exact fun ⟨a, b, c⟩ => ⟨a, b, c⟩
theorem kc_way {T : Nat → Option q_T} {nx B ga : Nat} {R : Nat → Nat → Option Value} {G0 G : Nat → Int → Int} {v tu z : Int} {goal w : List Int} {s : List (List Int × Int)} {i j : Nat} (oT : Ly T R (B + 59) (L10 (B + 59))) (hA : Ly T R (B + 160) (L9 (B + 160))) (hB : Ly T R (B + 150) (L9 (B + 150))) (hG : Ly T R ga (L9 ga)) (oS : ∀ k : Nat, k < 12 → Ly T R (B + 250 + 10 * k) (L9 (B + 250 + 10 * k))) (o8 : Ly T R (tvA B v) (L8 (tvA B v))) (hF : IFm G0 B) (iRe : IRe G0 B) (kv : 0 ≤ v ∧ v ≤ 1) (htu : 0 ≤ tu ∧ tu ≤ 5) (hg : B + 250 ≤ ga ∧ ga + 10 ≤ B + 370) (gg : GW1 G0 B v goal) (g1 : G0 ga 1 = v) (g2 : G0 ga 2 = (goal.length : Int)) (gc : ∀ q : Nat, q < goal.length → G0 (ga + 1) q = wf goal q) (hj : j < 12) (rl : KCr G0 G B v goal w i z s) :
    (∃ s' G', kWay G0 B tu v goal i j s = Sum.inl s' ∧ KCr G0 G' B v goal w i z s' ∧ ∀ (K : List Value → q_M → Prop) (Kr : Option Value → q_M → Prop) (Kf : q_M → Prop), K [.ref (B + 59), .ref (tvA B v), .int (zI tu), .ref ga, .int (zI (-1)), .int (zI i), .int (zI ((j : Int) + 1))] (st T nx 0 0 R G') → wcX10_seek_1 [.ref (B + 59), .ref (tvA B v), .int (zI tu), .ref ga, .int (zI (-1)), .int (zI i), .int (zI j)] (st T nx 0 0 R G) (fun μ' => wsX10_seek_1 [.ref (B + 59), .ref (tvA B v), .int (zI tu), .ref ga, .int (zI (-1)), .int (zI i), .int (zI j)] μ' K Kr) Kf) ∨ ∃ a G', kWay G0 B tu v goal i j s = Sum.inr a ∧ (KC G0 G' B ∧ (a = z ∨ a = -100005) ∧ (0 ≤ G' (B + 59) 15 ∧ G' (B + 59) 15 ≤ 60)) ∧ ∀ (K : List Value → q_M → Prop) (Kr : Option Value → q_M → Prop) (Kf : q_M → Prop), K [.ref (B + 59), .ref (tvA B v), .int (zI tu), .ref ga, .int (zI a), .int (zI i), .int (zI ((j : Int) + 1))] (st T nx 0 0 R G') → wcX10_seek_1 [.ref (B + 59), .ref (tvA B v), .int (zI tu), .ref ga, .int (zI (-1)), .int (zI i), .int (zI j)] (st T nx 0 0 R G) (fun μ' => wsX10_seek_1 [.ref (B + 59), .ref (tvA B v), .int (zI tu), .ref ga, .int (zI (-1)), .int (zI i), .int (zI j)] μ' K Kr) Kf := by
  have hd : ∀ (x0 x1 x2 x3 x4 x5 : Value) (e : List Value) (μ : q_M) (K : Int32 → q_M → Prop), q_2d q_gidiv (q_l 6) (q_k 2) (x0 :: x1 :: x2 :: x3 :: x4 :: x5 :: .int (zI (j : Int)) :: e) μ K = K (zI ((j / 2 : Nat) : Int)) μ := fun _ _ _ _ _ _ e μ K => k_div12 hj rfl
  have lb : 0 ≤ ((j / 2 : Nat) : Int) ∧ ((j / 2 : Nat) : Int) < 6 := by omega
  have jI : (j : Int) < 12 := by omega
  have one : ¬ (1 : Int) = 0 := by omega
  have kc := rl.2.1.1
  obtain ⟨y, hy, cW⟩ := c10_isWay (T := T) (nx := nx) (R := R) oT oS hF iRe kc hj kv
  have y1 : G ga 1 = v := by rw [kc.1 _ (by omega) (by omega) (by omega)]; exact g1
  obtain ⟨ki, cs, lf, hi, hw, hz1⟩ := rl
  have zb : 1 ≤ z ∧ z ≤ s.length := by have := (ki.2 i hi).2.1; omega
  have l60 := ki.1.2
  have i60 : 0 ≤ (i : Int) ∧ (i : Int) < 60 := by omega
  have kw : kWay G0 B tu v goal i j s = @ite ((List (List Int × Int)) ⊕ Int) (kMay G0 B tu v j) (Classical.propDecidable _) (runL (kNode G0 B v goal i (uaJ B j) (uzJ B j)) (nb (wf w) w.length).toNat 0 s) (Sum.inl s) := by
    unfold kWay
    rw [hw]
  rw [kw]
  obtain ⟨l, hl⟩ : ∃ l, l = ((j / 2 : Nat) : Int) := ⟨_, rfl⟩
  by_cases tl : l = tu
  · rw [@if_neg _ (Classical.propDecidable _) (fun m => (kMay_open.mp m).1 (by rw [← hl]; exact tl))]
    refine Or.inl ⟨s, G, rfl, ⟨ki, cs, lf, hi, hw, hz1⟩, fun K Kr Kf hk => ?_⟩
    rw [← hl] at hd lb
    subst tl
    clear kw ki cs lf hy iRe hF gg gc oS
    simp (disch := omega) only [↓wcX10_seek_1.eq_1, ↓wsX10_seek_1.eq_1, ↓k_mk, ↓k_sq, ↓k_sk, ↓k_bk, ↓k_if, ↓k_te, ↓k_cm, ↓k_cz, ↓k_an2, ↓k_or2, ↓k_no, ↓k_ci, ↓k_l0, ↓k_r0, ↓k_se0, ↓k_ic0, ↓k_l1, ↓k_r1, ↓k_se1, ↓k_ic1, ↓k_de1, ↓k_tk1, ↓k_l2, ↓k_r2, ↓k_se2, ↓k_ic2, ↓k_de2, ↓k_tk2, ↓k_l3, ↓k_r3, ↓k_se3, ↓k_ic3, ↓k_de3, ↓k_tk3, ↓k_l4, ↓k_r4, ↓k_se4, ↓k_ic4, ↓k_de4, ↓k_tk4, ↓k_l5, ↓k_r5, ↓k_se5, ↓k_ic5, ↓k_de5, ↓k_tk5, ↓k_l6, ↓k_r6, ↓k_se6, ↓k_ic6, ↓k_de6, ↓k_tk6, ↓k_l7, ↓k_r7, ↓k_se7, ↓k_ic7, ↓k_de7, ↓k_tk7, ↓k_l8, ↓k_r8, ↓k_se8, ↓k_ic8, ↓k_de8, ↓k_tk8, ↓k_l9, ↓k_r9, ↓k_se9, ↓k_ic9, ↓k_de9, ↓k_tk9, ↓k_l10, ↓k_r10, ↓k_se10, ↓k_ic10, ↓k_de10, ↓k_tk10, ↓k_l11, ↓k_r11, ↓k_se11, ↓k_ic11, ↓k_de11, ↓k_tk11, ↓k_l12, ↓k_r12, ↓k_se12, ↓k_ic12, ↓k_de12, ↓k_tk12, ↓k_l13, ↓k_r13, ↓k_se13, ↓k_ic13, ↓k_de13, ↓k_tk13, ↓k_l14, ↓k_r14, ↓k_se14, ↓k_ic14, ↓k_de14, ↓k_tk14, ↓k_l15, ↓k_r15, ↓k_se15, ↓k_ic15, ↓k_de15, ↓k_tk15, ↓k_l16, ↓k_r16, ↓k_se16, ↓k_ic16, ↓k_de16, ↓k_tk16, ↓k_l17, ↓k_r17, ↓k_se17, ↓k_ic17, ↓k_de17, ↓k_tk17, ↓k_l18, ↓k_r18, ↓k_se18, ↓k_ic18, ↓k_de18, ↓k_tk18, ↓k_l19, ↓k_r19, ↓k_se19, ↓k_ic19, ↓k_de19, ↓k_tk19, ↓k_l20, ↓k_r20, ↓k_se20, ↓k_ic20, ↓k_de20, ↓k_tk20, ↓k_l21, ↓k_r21, ↓k_se21, ↓k_ic21, ↓k_de21, ↓k_tk21, ↓k_l22, ↓k_r22, ↓k_se22, ↓k_ic22, ↓k_de22, ↓k_tk22, ↓k_l23, ↓k_r23, ↓k_se23, ↓k_ic23, ↓k_de23, ↓k_tk23, ↓k_l24, ↓k_r24, ↓k_se24, ↓k_ic24, ↓k_de24, ↓k_tk24, ↓k_l25, ↓k_r25, ↓k_se25, ↓k_ic25, ↓k_de25, ↓k_tk25, ↓k_k, ↓k_kn, ↓k_kl, ↓k_kln, ↓k_il, ↓k_2, ↓k_1, ↓k_2c, ↓k_2l, ↓k_ac, ↓k_an, ↓k_cs, ↓k_cv, ↓k_fi, ↓k_fr, ↓k_ai, ↓k_az, ↓k_ar, ↓k_sai, ↓k_saz, ↓k_soa, ↓k_sof, ↓k_spf, ↓k_sx, ↓k_blk, ↓k_sset, ↓k_sdec, ↓k_sri, ↓k_srv, ↓k_srr, ↓k_nop, ↓k_add, ↓k_sub, ↓k_mul, ↓k_min, ↓k_max, ↓k_shr, ↓k_shl, ↓k_or, ↓k_ilz, ↓k_addl, ↓k_rt, ↓k_rb, ↓k_rbz, ↓k_rsi, ↓k_rsr, ↓k_rsv, ↓reduceIte, hd, jI, one, eq_self, List.length_cons, List.length_nil, List.forall_mem_cons, List.not_mem_nil, Value.category, true_and, and_true, false_and, and_false, or_true, true_or, or_false, false_or, Nat.zero_le, forall_const, implies_true, false_implies, Nat.zero_add, Nat.reduceAdd, Nat.reduceLT, Nat.reduceLeDiff, Nat.le_refl, not_true_eq_false, not_false_eq_true, r_eq, r_ne, r_lt, r_ge, r_gt, r_le, bz_ne, nn_toNat, cn_of, cn_0, cn_1, i10, Int.reduceLE, Int.reduceLT, Int.reduceEq, bz_T, bz_F, ite_self, mulc, st_bud]
    exact hk
  · rw [← hl] at hd lb
    rcases hy with ⟨y1', op⟩ | ⟨y1', op⟩
    · subst y1'
      rw [@if_pos _ (Classical.propDecidable _) (kMay_open.mpr ⟨by rw [← hl]; exact tl, op⟩)]
      have wy := way_of hF iRe hj kv op
      have ju : uaJ B j = B + 250 + 10 * j := rfl
      have jz : uzJ B j = B + 250 + 10 * jxN j := by unfold uzJ jxN; split <;> omega
      have jx12 : jxN j < 12 := by unfold jxN; split <;> omega
      rw [ju, jz] at wy ⊢
      obtain ⟨fs, hfs⟩ : ∃ fs, fs = G (B + 59 + 90) i := ⟨_, rfl⟩
      have f149 : fs + 1 = z := by
        have := (cs.2.2 i hi).2.1
        rw [hfs, ← hz1, ← this]
      rcases c10_seekBy (T := T) (nx := nx) (R := R) (j := (j : Int)) (jx := (jxN j : Nat)) (ga := ga) (z := z) oT hA hB hG (oS j hj) (oS _ jx12) o8 hF kv wy (by omega) (by omega) hg gg g2 gc (by omega) (by omega) (by omega) (by omega) (fun μ K => k_xor12 hj) ⟨ki, cs, lf, hi, hw, hz1⟩ with ⟨s', G', k1, k2, k3⟩ | ⟨a, G', k1, k2, k3⟩
      · refine Or.inl ⟨s', G', k1, k2, fun K Kr Kf hk => ?_⟩
        clear kw ki cs lf op iRe hF gg gc oS wy k2 k1
        have hfs := hfs.symm
        simp (disch := omega) only [↓wcX10_seek_1.eq_1, ↓wsX10_seek_1.eq_1, ↓(k_cv2 dX10_isWay (t10 oT)), ↓(k_cv4 dX10_seekBy (t10 oT)), ↓k_mk, ↓k_sq, ↓k_sk, ↓k_bk, ↓k_if, ↓k_te, ↓k_cm, ↓k_cz, ↓k_an2, ↓k_or2, ↓k_no, ↓k_ci, ↓k_l0, ↓k_r0, ↓k_se0, ↓k_ic0, ↓k_l1, ↓k_r1, ↓k_se1, ↓k_ic1, ↓k_de1, ↓k_tk1, ↓k_l2, ↓k_r2, ↓k_se2, ↓k_ic2, ↓k_de2, ↓k_tk2, ↓k_l3, ↓k_r3, ↓k_se3, ↓k_ic3, ↓k_de3, ↓k_tk3, ↓k_l4, ↓k_r4, ↓k_se4, ↓k_ic4, ↓k_de4, ↓k_tk4, ↓k_l5, ↓k_r5, ↓k_se5, ↓k_ic5, ↓k_de5, ↓k_tk5, ↓k_l6, ↓k_r6, ↓k_se6, ↓k_ic6, ↓k_de6, ↓k_tk6, ↓k_l7, ↓k_r7, ↓k_se7, ↓k_ic7, ↓k_de7, ↓k_tk7, ↓k_l8, ↓k_r8, ↓k_se8, ↓k_ic8, ↓k_de8, ↓k_tk8, ↓k_l9, ↓k_r9, ↓k_se9, ↓k_ic9, ↓k_de9, ↓k_tk9, ↓k_l10, ↓k_r10, ↓k_se10, ↓k_ic10, ↓k_de10, ↓k_tk10, ↓k_l11, ↓k_r11, ↓k_se11, ↓k_ic11, ↓k_de11, ↓k_tk11, ↓k_l12, ↓k_r12, ↓k_se12, ↓k_ic12, ↓k_de12, ↓k_tk12, ↓k_l13, ↓k_r13, ↓k_se13, ↓k_ic13, ↓k_de13, ↓k_tk13, ↓k_l14, ↓k_r14, ↓k_se14, ↓k_ic14, ↓k_de14, ↓k_tk14, ↓k_l15, ↓k_r15, ↓k_se15, ↓k_ic15, ↓k_de15, ↓k_tk15, ↓k_l16, ↓k_r16, ↓k_se16, ↓k_ic16, ↓k_de16, ↓k_tk16, ↓k_l17, ↓k_r17, ↓k_se17, ↓k_ic17, ↓k_de17, ↓k_tk17, ↓k_l18, ↓k_r18, ↓k_se18, ↓k_ic18, ↓k_de18, ↓k_tk18, ↓k_l19, ↓k_r19, ↓k_se19, ↓k_ic19, ↓k_de19, ↓k_tk19, ↓k_l20, ↓k_r20, ↓k_se20, ↓k_ic20, ↓k_de20, ↓k_tk20, ↓k_l21, ↓k_r21, ↓k_se21, ↓k_ic21, ↓k_de21, ↓k_tk21, ↓k_l22, ↓k_r22, ↓k_se22, ↓k_ic22, ↓k_de22, ↓k_tk22, ↓k_l23, ↓k_r23, ↓k_se23, ↓k_ic23, ↓k_de23, ↓k_tk23, ↓k_l24, ↓k_r24, ↓k_se24, ↓k_ic24, ↓k_de24, ↓k_tk24, ↓k_l25, ↓k_r25, ↓k_se25, ↓k_ic25, ↓k_de25, ↓k_tk25, ↓k_k, ↓k_kn, ↓k_kl, ↓k_kln, ↓k_il, ↓k_2, ↓k_1, ↓k_2c, ↓k_2l, ↓k_ac, ↓k_an, ↓k_cs, ↓k_cv, ↓k_fi, ↓k_fr, ↓k_ai, ↓k_az, ↓k_ar, ↓k_sai, ↓k_saz, ↓k_soa, ↓k_sof, ↓k_spf, ↓k_sx, ↓k_blk, ↓k_sset, ↓k_sdec, ↓k_sri, ↓k_srv, ↓k_srr, ↓k_nop, ↓k_add, ↓k_sub, ↓k_mul, ↓k_min, ↓k_max, ↓k_shr, ↓k_shl, ↓k_or, ↓k_ilz, ↓k_addl, ↓k_rt, ↓k_rb, ↓k_rbz, ↓k_rsi, ↓k_rsr, ↓k_rsv, ↓reduceIte, hd, jI, tl, one, y1, hfs, f149, eq_self, ↓(k_cv2 dX10_isWay (t10 oT)), ↓cW, ↓(k_cv4 dX10_seekBy (t10 oT)), ↓k3, ↓xr10_14 oT, ↓xa10_14 oT, ↓xs10_14 oT, ↓xo10_14 oT, ↓xc10_14 oT, ↓xd10_14 oT, ↓xi9_1 hG, ↓xp9_1 hG, ↓xb9_1 hG, ↓xf9_1 hG, ↓xg9_1 hG, ↓xh9_1 hG, List.length_cons, List.length_nil, List.forall_mem_cons, List.not_mem_nil, Value.category, true_and, and_true, false_and, and_false, or_true, true_or, or_false, false_or, Nat.zero_le, forall_const, implies_true, false_implies, Nat.zero_add, Nat.reduceAdd, Nat.reduceLT, Nat.reduceLeDiff, Nat.le_refl, not_true_eq_false, not_false_eq_true, r_eq, r_ne, r_lt, r_ge, r_gt, r_le, bz_ne, nn_toNat, cn_of, cn_0, cn_1, i10, Int.reduceLE, Int.reduceLT, Int.reduceEq, bz_T, bz_F, ite_self, mulc, st_bud]
        exact hk
      · refine Or.inr ⟨a, G', k1, k2, fun K Kr Kf hk => ?_⟩
        clear kw ki cs lf op iRe hF gg gc oS wy k2 k1
        have hfs := hfs.symm
        simp (disch := omega) only [↓wcX10_seek_1.eq_1, ↓wsX10_seek_1.eq_1, ↓(k_cv2 dX10_isWay (t10 oT)), ↓(k_cv4 dX10_seekBy (t10 oT)), ↓k_mk, ↓k_sq, ↓k_sk, ↓k_bk, ↓k_if, ↓k_te, ↓k_cm, ↓k_cz, ↓k_an2, ↓k_or2, ↓k_no, ↓k_ci, ↓k_l0, ↓k_r0, ↓k_se0, ↓k_ic0, ↓k_l1, ↓k_r1, ↓k_se1, ↓k_ic1, ↓k_de1, ↓k_tk1, ↓k_l2, ↓k_r2, ↓k_se2, ↓k_ic2, ↓k_de2, ↓k_tk2, ↓k_l3, ↓k_r3, ↓k_se3, ↓k_ic3, ↓k_de3, ↓k_tk3, ↓k_l4, ↓k_r4, ↓k_se4, ↓k_ic4, ↓k_de4, ↓k_tk4, ↓k_l5, ↓k_r5, ↓k_se5, ↓k_ic5, ↓k_de5, ↓k_tk5, ↓k_l6, ↓k_r6, ↓k_se6, ↓k_ic6, ↓k_de6, ↓k_tk6, ↓k_l7, ↓k_r7, ↓k_se7, ↓k_ic7, ↓k_de7, ↓k_tk7, ↓k_l8, ↓k_r8, ↓k_se8, ↓k_ic8, ↓k_de8, ↓k_tk8, ↓k_l9, ↓k_r9, ↓k_se9, ↓k_ic9, ↓k_de9, ↓k_tk9, ↓k_l10, ↓k_r10, ↓k_se10, ↓k_ic10, ↓k_de10, ↓k_tk10, ↓k_l11, ↓k_r11, ↓k_se11, ↓k_ic11, ↓k_de11, ↓k_tk11, ↓k_l12, ↓k_r12, ↓k_se12, ↓k_ic12, ↓k_de12, ↓k_tk12, ↓k_l13, ↓k_r13, ↓k_se13, ↓k_ic13, ↓k_de13, ↓k_tk13, ↓k_l14, ↓k_r14, ↓k_se14, ↓k_ic14, ↓k_de14, ↓k_tk14, ↓k_l15, ↓k_r15, ↓k_se15, ↓k_ic15, ↓k_de15, ↓k_tk15, ↓k_l16, ↓k_r16, ↓k_se16, ↓k_ic16, ↓k_de16, ↓k_tk16, ↓k_l17, ↓k_r17, ↓k_se17, ↓k_ic17, ↓k_de17, ↓k_tk17, ↓k_l18, ↓k_r18, ↓k_se18, ↓k_ic18, ↓k_de18, ↓k_tk18, ↓k_l19, ↓k_r19, ↓k_se19, ↓k_ic19, ↓k_de19, ↓k_tk19, ↓k_l20, ↓k_r20, ↓k_se20, ↓k_ic20, ↓k_de20, ↓k_tk20, ↓k_l21, ↓k_r21, ↓k_se21, ↓k_ic21, ↓k_de21, ↓k_tk21, ↓k_l22, ↓k_r22, ↓k_se22, ↓k_ic22, ↓k_de22, ↓k_tk22, ↓k_l23, ↓k_r23, ↓k_se23, ↓k_ic23, ↓k_de23, ↓k_tk23, ↓k_l24, ↓k_r24, ↓k_se24, ↓k_ic24, ↓k_de24, ↓k_tk24, ↓k_l25, ↓k_r25, ↓k_se25, ↓k_ic25, ↓k_de25, ↓k_tk25, ↓k_k, ↓k_kn, ↓k_kl, ↓k_kln, ↓k_il, ↓k_2, ↓k_1, ↓k_2c, ↓k_2l, ↓k_ac, ↓k_an, ↓k_cs, ↓k_cv, ↓k_fi, ↓k_fr, ↓k_ai, ↓k_az, ↓k_ar, ↓k_sai, ↓k_saz, ↓k_soa, ↓k_sof, ↓k_spf, ↓k_sx, ↓k_blk, ↓k_sset, ↓k_sdec, ↓k_sri, ↓k_srv, ↓k_srr, ↓k_nop, ↓k_add, ↓k_sub, ↓k_mul, ↓k_min, ↓k_max, ↓k_shr, ↓k_shl, ↓k_or, ↓k_ilz, ↓k_addl, ↓k_rt, ↓k_rb, ↓k_rbz, ↓k_rsi, ↓k_rsr, ↓k_rsv, ↓reduceIte, hd, jI, tl, one, y1, hfs, f149, eq_self, ↓(k_cv2 dX10_isWay (t10 oT)), ↓cW, ↓(k_cv4 dX10_seekBy (t10 oT)), ↓k3, ↓xr10_14 oT, ↓xa10_14 oT, ↓xs10_14 oT, ↓xo10_14 oT, ↓xc10_14 oT, ↓xd10_14 oT, ↓xi9_1 hG, ↓xp9_1 hG, ↓xb9_1 hG, ↓xf9_1 hG, ↓xg9_1 hG, ↓xh9_1 hG, List.length_cons, List.length_nil, List.forall_mem_cons, List.not_mem_nil, Value.category, true_and, and_true, false_and, and_false, or_true, true_or, or_false, false_or, Nat.zero_le, forall_const, implies_true, false_implies, Nat.zero_add, Nat.reduceAdd, Nat.reduceLT, Nat.reduceLeDiff, Nat.le_refl, not_true_eq_false, not_false_eq_true, r_eq, r_ne, r_lt, r_ge, r_gt, r_le, bz_ne, nn_toNat, cn_of, cn_0, cn_1, i10, Int.reduceLE, Int.reduceLT, Int.reduceEq, bz_T, bz_F, ite_self, mulc, st_bud]
        exact hk
    · subst y1'
      rw [@if_neg _ (Classical.propDecidable _) (fun m => op (kMay_open.mp m).2)]
      refine Or.inl ⟨s, G, rfl, ⟨ki, cs, lf, hi, hw, hz1⟩, fun K Kr Kf hk => ?_⟩
      clear kw ki cs lf op iRe hF gg gc oS
      simp (disch := omega) only [↓wcX10_seek_1.eq_1, ↓wsX10_seek_1.eq_1, ↓k_mk, ↓k_sq, ↓k_sk, ↓k_bk, ↓k_if, ↓k_te, ↓k_cm, ↓k_cz, ↓k_an2, ↓k_or2, ↓k_no, ↓k_ci, ↓k_l0, ↓k_r0, ↓k_se0, ↓k_ic0, ↓k_l1, ↓k_r1, ↓k_se1, ↓k_ic1, ↓k_de1, ↓k_tk1, ↓k_l2, ↓k_r2, ↓k_se2, ↓k_ic2, ↓k_de2, ↓k_tk2, ↓k_l3, ↓k_r3, ↓k_se3, ↓k_ic3, ↓k_de3, ↓k_tk3, ↓k_l4, ↓k_r4, ↓k_se4, ↓k_ic4, ↓k_de4, ↓k_tk4, ↓k_l5, ↓k_r5, ↓k_se5, ↓k_ic5, ↓k_de5, ↓k_tk5, ↓k_l6, ↓k_r6, ↓k_se6, ↓k_ic6, ↓k_de6, ↓k_tk6, ↓k_l7, ↓k_r7, ↓k_se7, ↓k_ic7, ↓k_de7, ↓k_tk7, ↓k_l8, ↓k_r8, ↓k_se8, ↓k_ic8, ↓k_de8, ↓k_tk8, ↓k_l9, ↓k_r9, ↓k_se9, ↓k_ic9, ↓k_de9, ↓k_tk9, ↓k_l10, ↓k_r10, ↓k_se10, ↓k_ic10, ↓k_de10, ↓k_tk10, ↓k_l11, ↓k_r11, ↓k_se11, ↓k_ic11, ↓k_de11, ↓k_tk11, ↓k_l12, ↓k_r12, ↓k_se12, ↓k_ic12, ↓k_de12, ↓k_tk12, ↓k_l13, ↓k_r13, ↓k_se13, ↓k_ic13, ↓k_de13, ↓k_tk13, ↓k_l14, ↓k_r14, ↓k_se14, ↓k_ic14, ↓k_de14, ↓k_tk14, ↓k_l15, ↓k_r15, ↓k_se15, ↓k_ic15, ↓k_de15, ↓k_tk15, ↓k_l16, ↓k_r16, ↓k_se16, ↓k_ic16, ↓k_de16, ↓k_tk16, ↓k_l17, ↓k_r17, ↓k_se17, ↓k_ic17, ↓k_de17, ↓k_tk17, ↓k_l18, ↓k_r18, ↓k_se18, ↓k_ic18, ↓k_de18, ↓k_tk18, ↓k_l19, ↓k_r19, ↓k_se19, ↓k_ic19, ↓k_de19, ↓k_tk19, ↓k_l20, ↓k_r20, ↓k_se20, ↓k_ic20, ↓k_de20, ↓k_tk20, ↓k_l21, ↓k_r21, ↓k_se21, ↓k_ic21, ↓k_de21, ↓k_tk21, ↓k_l22, ↓k_r22, ↓k_se22, ↓k_ic22, ↓k_de22, ↓k_tk22, ↓k_l23, ↓k_r23, ↓k_se23, ↓k_ic23, ↓k_de23, ↓k_tk23, ↓k_l24, ↓k_r24, ↓k_se24, ↓k_ic24, ↓k_de24, ↓k_tk24, ↓k_l25, ↓k_r25, ↓k_se25, ↓k_ic25, ↓k_de25, ↓k_tk25, ↓k_k, ↓k_kn, ↓k_kl, ↓k_kln, ↓k_il, ↓k_2, ↓k_1, ↓k_2c, ↓k_2l, ↓k_ac, ↓k_an, ↓k_cs, ↓k_cv, ↓k_fi, ↓k_fr, ↓k_ai, ↓k_az, ↓k_ar, ↓k_sai, ↓k_saz, ↓k_soa, ↓k_sof, ↓k_spf, ↓k_sx, ↓k_blk, ↓k_sset, ↓k_sdec, ↓k_sri, ↓k_srv, ↓k_srr, ↓k_nop, ↓k_add, ↓k_sub, ↓k_mul, ↓k_min, ↓k_max, ↓k_shr, ↓k_shl, ↓k_or, ↓k_ilz, ↓k_addl, ↓k_rt, ↓k_rb, ↓k_rbz, ↓k_rsi, ↓k_rsr, ↓k_rsv, ↓reduceIte, hd, jI, tl, one, y1, eq_self, ↓(k_cv2 dX10_isWay (t10 oT)), ↓cW, ↓xi9_1 hG, ↓xp9_1 hG, ↓xb9_1 hG, ↓xf9_1 hG, ↓xg9_1 hG, ↓xh9_1 hG, List.length_cons, List.length_nil, List.forall_mem_cons, List.not_mem_nil, Value.category, true_and, and_true, false_and, and_false, or_true, true_or, or_false, false_or, Nat.zero_le, forall_const, implies_true, false_implies, Nat.zero_add, Nat.reduceAdd, Nat.reduceLT, Nat.reduceLeDiff, Nat.le_refl, not_true_eq_false, not_false_eq_true, r_eq, r_ne, r_lt, r_ge, r_gt, r_le, bz_ne, nn_toNat, cn_of, cn_0, cn_1, i10, Int.reduceLE, Int.reduceLT, Int.reduceEq, bz_T, bz_F, ite_self, mulc, st_bud]
      exact hk
end
