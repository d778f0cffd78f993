section
/-! lay: both spell a tree with its gaps -/
/-- the setter spells the tree at a -/
theorem c6_spellOut2 {T : Nat → Option q_T} {nx rc rs B a j1 j2 j3 j4 : Nat} {R : Nat → Nat → Option Value} {G : Nat → Int → Int} {h i v : Int} (hL : Ly T R B (L11x B j1 j2 j3 j4)) (o9 : Ly T (rS R (B + 533) 8 (.ref (tvA B v))) a (L9 a)) (hao : a + 10 ≤ B + 533) (hF : IFm G B) (tk : TOK G B h i v a) (cb : ∀ q, 0 ≤ q → q < G a 2 → 20 ≤ G (a + 1) q ∧ G (a + 1) q ≤ 1013) (lb : ((spl (G (tvA B v + 3)) (G (tvA B v + 4)) (G (tvA B v + 7)) (G (a + 1)) (G (a + 2)) (G (a + 6)) 202 0 (-1) 0).length : Int) ≤ 200) (hpn : ∀ m, 0 ≤ m → m < G a 3 → 0 ≤ G (a + 9) m ∧ G (a + 9) m ≤ 2) :
    ∃ G' : Nat → Int → Int, (∀ x, ¬ (B + 533 ≤ x ∧ x ≤ B + 539) → G' x = G x) ∧ G' (B + 533) 1 = (spl (G (tvA B v + 3)) (G (tvA B v + 4)) (G (tvA B v + 7)) (G (a + 1)) (G (a + 2)) (G (a + 6)) 202 0 (-1) 0).length ∧ Wc (G' (B + 534)) 0 (spl (G (tvA B v + 3)) (G (tvA B v + 4)) (G (tvA B v + 7)) (G (a + 1)) (G (a + 2)) (G (a + 6)) 202 0 (-1) 0) ∧ WG (G' (B + 537)) (G' (B + 538)) (G' (B + 539)) ((fun n => softF (G (tvA B v + 7)) (G (a + 1) (G (a + 7) n) - 1000) (G (tvA B v + 3) (G (a + 1) (G (a + 7) n) - 1000) - 1).toNat)) ((fun n => G (a + 6) (G (a + 3) (G (a + 7) n)))) 0 (spl (G (tvA B v + 3)) (G (tvA B v + 4)) (G (tvA B v + 7)) (G (a + 1)) (G (a + 2)) (G (a + 6)) 202 0 (-1) 0) ∧ SFo G' (B + 533) ((fun n => softF (G (tvA B v + 7)) (G (a + 1) (G (a + 7) n) - 1000) (G (tvA B v + 3) (G (a + 1) (G (a + 7) n) - 1000) - 1).toNat)) (G (a + 9)) (G a 3).toNat ∧ ∀ K : Option Value → q_M → Prop, fX6_spellOut [.ref (B + 533), .ref (tvA B v), .ref a] (st T nx rc rs R G) K = K none (st T nx rc rs (rS R (B + 533) 8 (.ref (tvA B v))) G') := by
  have tb := TOK_b tk
  have kT := tk.2.2.2.1
  have kv := tk.2.2.1
  have hL2 := Ly_told6 (r := tvA B v) hL
  have oS := o11_12 hL
  have oS2 := o11_12 hL2
  have o8 : Ly T (rS R (B + 533) 8 (.ref (tvA B v))) (tvA B v) (L8 (tvA B v)) := o11_0 hL2 (i := v.toNat) (by omega)
  have tvb : B + 370 ≤ tvA B v ∧ tvA B v + 14 ≤ B + 398 := by unfold tvA; omega
  obtain ⟨G1, e1⟩ : ∃ M, M = gs (gs (gs (gs (gs (gs (gs G (B + 533) 1 0) (B + 533) 12 0) (B + 533) 13 0) (B + 533) 14 0) (B + 533) 15 1) (B + 533) 16 (-1)) (B + 533) 17 0 := ⟨_, rfl⟩
  have n1 : ∀ x, ¬ x = B + 533 → G1 x = G x := fun x q => by rw [e1, gs_ne q, gs_ne q, gs_ne q, gs_ne q, gs_ne q, gs_ne q, gs_ne q]
  have z1 : G1 (B + 533) 1 = 0 := by rw [e1, gs_eq, fu_ne (by omega), gs_eq, fu_ne (by omega), gs_eq, fu_ne (by omega), gs_eq, fu_ne (by omega), gs_eq, fu_ne (by omega), gs_eq, fu_ne (by omega)]; exact gs_same _ _ _ _
  have z12 : G1 (B + 533) 12 = 0 := by rw [e1, gs_eq, fu_ne (by omega), gs_eq, fu_ne (by omega), gs_eq, fu_ne (by omega), gs_eq, fu_ne (by omega), gs_eq, fu_ne (by omega)]; exact gs_same _ _ _ _
  have e00 := kT.1.2.2.2.2.2.2.1
  have nbn := kT.2.2.2.2.2.1
  have N4 := kT.1.2.2.2.1
  have N0 := kT.1.2.2.1
  have z0 : nb (G (a + 1)) (0 : Int).toNat = 0 := rfl
  have z13 : G1 (B + 533) 13 = 0 := by rw [e1, gs_eq, fu_ne (by omega), gs_eq, fu_ne (by omega), gs_eq, fu_ne (by omega), gs_eq, fu_ne (by omega)]; exact gs_same _ _ _ _
  have z14 : G1 (B + 533) 14 = 0 := by rw [e1, gs_eq, fu_ne (by omega), gs_eq, fu_ne (by omega), gs_eq, fu_ne (by omega)]; exact gs_same _ _ _ _
  obtain ⟨G', p1, _, p2, p3, pw, ps, p4⟩ := emit_piece2 (T := T) (nx := nx) (o := B + 533) oS2 o8 o9 (by omega) (Or.inl hao) hF tk cb (sb := (fun n => softF (G (tvA B v + 7)) (G (a + 1) (G (a + 7) n) - 1000) (G (tvA B v + 3) (G (a + 1) (G (a + 7) n) - 1000) - 1).toNat)) (pn := G (a + 9)) (up := (fun n => G (a + 6) (G (a + 3) (G (a + 7) n)))) (fun p p0 p1 l => by
    obtain ⟨k1, k2, _⟩ := Tr_n kT p0 p1 l
    show softF (G (tvA B v + 7)) (G (a + 1) (G (a + 7) (G (a + 6) p)) - 1000) _ = _
    rw [k1, k2]) (fun m m0 m1 => ⟨rfl, hpn m m0 m1⟩) (fun p p0 p1 l => by
    obtain ⟨k1, k2, _⟩ := Tr_n kT (by omega) p1 l
    show G (a + 6) (G (a + 3) (G (a + 7) (G (a + 6) p))) = _
    rw [k1, k2]) 202 0 (Int.le_refl _) (by omega) (by omega) G1 45 0 0 (-1) 0 0 (fun x z => n1 x (by omega)) z1 (Int.le_refl _) (by omega) ⟨by rw [z12]; rfl, by rw [z13]; rfl, by rw [z14]; rfl⟩ (fun l => by
    have k1 := (Tr_n kT (Int.le_refl _) (by omega) l).1
    rw [k1, z0, if_neg (by omega)]
    rfl) (Or.inl rfl) (Int.le_refl _) (by rw [e00, ← nbn, z0]; omega) (by rw [e00, ← nbn, z0]; omega)
  rw [e00, ← nbn] at ps
  refine ⟨G', fun x z => by rw [p1.1 x z, n1 x (by omega)], by rw [p2]; omega, p3, pw, ps, fun K => ?_⟩
  rw [e1] at p4
  simp (disch := omega) only [↓fX6_spellOut.eq_1, ↓sX6_spellOut_.eq_1, ↓k_mk, ↓k_sq, ↓k_sk, ↓k_bk, ↓k_if, ↓k_te, ↓k_cm, ↓k_cz, ↓k_an2, ↓k_or2, ↓k_no, ↓k_ci, ↓k_l0, ↓k_r0, ↓k_se0, ↓k_ic0, ↓k_l1, ↓k_r1, ↓k_se1, ↓k_ic1, ↓k_de1, ↓k_tk1, ↓k_l2, ↓k_r2, ↓k_se2, ↓k_ic2, ↓k_de2, ↓k_tk2, ↓k_l3, ↓k_r3, ↓k_se3, ↓k_ic3, ↓k_de3, ↓k_tk3, ↓k_l4, ↓k_r4, ↓k_se4, ↓k_ic4, ↓k_de4, ↓k_tk4, ↓k_l5, ↓k_r5, ↓k_se5, ↓k_ic5, ↓k_de5, ↓k_tk5, ↓k_l6, ↓k_r6, ↓k_se6, ↓k_ic6, ↓k_de6, ↓k_tk6, ↓k_l7, ↓k_r7, ↓k_se7, ↓k_ic7, ↓k_de7, ↓k_tk7, ↓k_l8, ↓k_r8, ↓k_se8, ↓k_ic8, ↓k_de8, ↓k_tk8, ↓k_l9, ↓k_r9, ↓k_se9, ↓k_ic9, ↓k_de9, ↓k_tk9, ↓k_l10, ↓k_r10, ↓k_se10, ↓k_ic10, ↓k_de10, ↓k_tk10, ↓k_l11, ↓k_r11, ↓k_se11, ↓k_ic11, ↓k_de11, ↓k_tk11, ↓k_l12, ↓k_r12, ↓k_se12, ↓k_ic12, ↓k_de12, ↓k_tk12, ↓k_l13, ↓k_r13, ↓k_se13, ↓k_ic13, ↓k_de13, ↓k_tk13, ↓k_l14, ↓k_r14, ↓k_se14, ↓k_ic14, ↓k_de14, ↓k_tk14, ↓k_l15, ↓k_r15, ↓k_se15, ↓k_ic15, ↓k_de15, ↓k_tk15, ↓k_l16, ↓k_r16, ↓k_se16, ↓k_ic16, ↓k_de16, ↓k_tk16, ↓k_l17, ↓k_r17, ↓k_se17, ↓k_ic17, ↓k_de17, ↓k_tk17, ↓k_l18, ↓k_r18, ↓k_se18, ↓k_ic18, ↓k_de18, ↓k_tk18, ↓k_l19, ↓k_r19, ↓k_se19, ↓k_ic19, ↓k_de19, ↓k_tk19, ↓k_l20, ↓k_r20, ↓k_se20, ↓k_ic20, ↓k_de20, ↓k_tk20, ↓k_l21, ↓k_r21, ↓k_se21, ↓k_ic21, ↓k_de21, ↓k_tk21, ↓k_l22, ↓k_r22, ↓k_se22, ↓k_ic22, ↓k_de22, ↓k_tk22, ↓k_l23, ↓k_r23, ↓k_se23, ↓k_ic23, ↓k_de23, ↓k_tk23, ↓k_l24, ↓k_r24, ↓k_se24, ↓k_ic24, ↓k_de24, ↓k_tk24, ↓k_l25, ↓k_r25, ↓k_se25, ↓k_ic25, ↓k_de25, ↓k_tk25, ↓k_k, ↓k_kn, ↓k_kl, ↓k_kln, ↓k_il, ↓k_2, ↓k_1, ↓k_2c, ↓k_2l, ↓k_ac, ↓k_an, ↓k_cs, ↓k_cv, ↓k_fi, ↓k_fr, ↓k_ai, ↓k_az, ↓k_ar, ↓k_sai, ↓k_saz, ↓k_soa, ↓k_sof, ↓k_spf, ↓k_sx, ↓k_blk, ↓k_sset, ↓k_sdec, ↓k_sri, ↓k_srv, ↓k_srr, ↓k_nop, ↓k_add, ↓k_sub, ↓k_mul, ↓k_min, ↓k_max, ↓k_shr, ↓k_shl, ↓k_or, ↓k_ilz, ↓k_addl, ↓k_rt, ↓k_rb, ↓k_rbz, ↓k_rsi, ↓k_rsr, ↓k_rsv, ↓reduceIte, ↓(x6_told oS), ↓(k_cv4 (dgr0 45 0) (t6 oS2)), ↓p4, ↓xi6_1 oS2, ↓xp6_1 oS2, ↓xb6_1 oS2, ↓xf6_1 oS2, ↓xg6_1 oS2, ↓xh6_1 oS2, ↓xi6_12 oS2, ↓xp6_12 oS2, ↓xb6_12 oS2, ↓xf6_12 oS2, ↓xg6_12 oS2, ↓xh6_12 oS2, ↓xi6_13 oS2, ↓xp6_13 oS2, ↓xb6_13 oS2, ↓xf6_13 oS2, ↓xg6_13 oS2, ↓xh6_13 oS2, ↓xi6_14 oS2, ↓xp6_14 oS2, ↓xb6_14 oS2, ↓xf6_14 oS2, ↓xg6_14 oS2, ↓xh6_14 oS2, ↓xi6_15 oS2, ↓xp6_15 oS2, ↓xb6_15 oS2, ↓xf6_15 oS2, ↓xg6_15 oS2, ↓xh6_15 oS2, ↓xi6_16 oS2, ↓xp6_16 oS2, ↓xb6_16 oS2, ↓xf6_16 oS2, ↓xg6_16 oS2, ↓xh6_16 oS2, ↓xi6_17 oS2, ↓xp6_17 oS2, ↓xb6_17 oS2, ↓xf6_17 oS2, ↓xg6_17 oS2, ↓xh6_17 oS2, List.length_cons, List.length_nil, List.forall_mem_cons, List.not_mem_nil, Value.category, true_and, and_true, false_and, and_false, or_true, true_or, or_false, false_or, Nat.zero_le, forall_const, implies_true, false_implies, Nat.zero_add, Nat.reduceAdd, Nat.reduceLT, Nat.reduceLeDiff, Nat.le_refl, not_true_eq_false, not_false_eq_true, r_eq, r_ne, r_lt, r_ge, r_gt, r_le, bz_ne, nn_toNat, cn_of, cn_0, cn_1, i10, Int.reduceLE, Int.reduceLT, Int.reduceEq, bz_T, bz_F, ite_self, mulc, st_bud]
end
