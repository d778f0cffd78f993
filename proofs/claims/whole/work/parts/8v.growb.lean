section
/-! the class grows the tree of a row and takes it -/
/-- one word for tables alike -/
theorem GW_q {nf N : Int} {sf n C X : Int → Int} {ft : Int → Int → Bool} {Q Q' : Int → Int → Int → Int} (hq : ∀ s a b, 0 ≤ a → a ≤ b → b ≤ N → Q' s a b = Q s a b) : ∀ (k : Nat) (s a b : Int) (w : List Int), 0 ≤ a → a ≤ b → b ≤ N → GW nf sf n C ft Q X N k s a b w → GW nf sf n C ft Q' X N k s a b w := by
  intro k
  induction k with
  | zero => intro s a b w _ _ _ h; exact h.elim
  | succ k ih =>
    intro s a b w a0 ab bn h
    obtain ⟨f, hf, c, u, c0, hc, hw, hu⟩ := h
    have er : ∀ f k q, a ≤ q → rF 1000000 Q' ft C n b f k q = rF 1000000 Q ft C n b f k q := fun f k q q0 => rP_congr fun s x y q1 q2 q3 => hq s x y (by omega) q2 (by omega)
    have ei : ∀ it p q, a ≤ p → p ≤ q → q ≤ b → itP Q' ft it p q = itP Q ft it p q := fun it p q q1 q2 q3 => by
      unfold itP
      rw [hq _ p q (by omega) q2 (by omega)]
    have low : ∀ m : Nat, (m : Int) ≤ n f → a ≤ c m := by
      intro m
      induction m with
      | zero => intro _; omega
      | succ m ihm =>
        intro hm
        have := ihm (by omega)
        have := (hc m (by omega)).1.1
        omega
    obtain ⟨h1, h2, h3, h4⟩ := hf
    refine ⟨f, ⟨h1, h2, ?_, fun f' q0 q1 q2 => ?_⟩, c, u, c0, fun m hm => ?_, hw, fun m hm => ?_⟩
    · rw [er _ _ _ (Int.le_refl _), hq _ _ _ a0 ab bn]
      exact h3
    · rw [er _ _ _ (Int.le_refl _), hq _ _ _ a0 ab bn]
      exact h4 f' q0 q1 q2
    · obtain ⟨g1, g2, g3⟩ := hc m hm
      have l := low m (by omega)
      refine ⟨g1, ?_, fun x x0 x1 => ?_⟩
      · rw [ei _ _ _ l g1.1 g1.2, er _ _ _ (by omega), er _ _ _ l]
        exact g2
      · rw [ei _ _ _ l x0 (by omega), er _ _ _ (by omega), er _ _ _ l]
        exact g3 x x0 x1
    · obtain ⟨g1, g2, g3⟩ := hu m hm
      have l := low m (by omega)
      have g := (hc m hm).1
      exact ⟨g1, g2, fun h => ih _ _ _ _ (by omega) g.1 (by omega) (g3 h)⟩
theorem EL_0 {ns c : Int → Int} {G : Nat → Int → Int} {B : Nat} {i : Int} {L : Nat} (prL : Pre ns c L) (n5 : ∀ q : Nat, q < L → 1000 ≤ c q → ns (c q - 1000) ≤ 5) : EL ns c G B i 0 L (nb c 0) 0 := fun q q1 q2 q3 t q4 q5 q6 => by
  have pr : Pre ns c q := Pre_le prL (by omega)
  have z : nb c 0 = 0 := rfl
  rcases tg_b pr (fun q' h => n5 q' (by omega)) q4 with ⟨_, h⟩ | ⟨_, h1, h2, h3, h4⟩
  · rw [h] at q5
    exact absurd q5 (by decide)
  · omega
/-- growTree, before the tree is indexed -/
theorem gb_cls {T : Nat → Option q_T} {nx B x1 x2 x3 x4 : Nat} {R : Nat → Nat → Option Value} {G G0 : Nat → Int → Int} {v u n : Int} {c : Int → Int} {w : List Int} {Q : Int → Int → Int → Int} (hL : Ly T R B (L11x B x1 x2 x3 x4)) (o : Ly T R (B + 526) (L3 (B + 526) (B + 370 + 14 * v.toNat))) (iFm : IFm G B) (v0 : 0 ≤ v) (v1 : v ≤ 1) (nb16 : 0 ≤ n ∧ n ≤ 16) (hQ : QOK (G (B + 370 + 14 * v.toNat) 1) (G (B + 370 + 14 * v.toNat + 2)) (fun ff => il (gC (G (B + 370 + 14 * v.toNat + 4)) ff) 0 (G (B + 370 + 14 * v.toNat + 3) ff - 0).toNat) (ftX (fun p => G (B + 2) (16 * u + p))) n Q) (off : ∀ x, ¬ (B + 526 ≤ x ∧ x ≤ B + 532) → G0 x = G x) (hN : G0 (B + 526) 0 = n) (tx : ∀ p, 0 ≤ p → p < n → G0 (B + 527) p = G (B + 2) (16 * u + p) ∧ isCd (G (B + 2) (16 * u + p))) (cd : CDn Q (ftX (fun p => G (B + 2) (16 * u + p))) n (G (B + 370 + 14 * v.toNat) 1) (G (B + 370 + 14 * v.toNat + 4)) (G (B + 370 + 14 * v.toNat + 3)) (G0 (B + 526 + 4)) (G0 (B + 526 + 5)) (fun _ _ => True)) (nt : NFt G0 (B + 526) (ftX (fun p => G (B + 2) (16 * u + p))) n (fun _ => True)) (fin : Q 0 0 n < 1000000) (hw : GW (G (B + 370 + 14 * v.toNat) 1) (G (B + 370 + 14 * v.toNat + 2)) (G (B + 370 + 14 * v.toNat + 3)) (G (B + 370 + 14 * v.toNat + 4)) (ftX (fun p => G (B + 2) (16 * u + p))) Q (fun p => G (B + 2) (16 * u + p)) n 118 0 0 n w) (hA : At c 0 w) (n5 : ∀ q : Nat, 1000 ≤ c q → ns0 (c q) (G (tvA B v + 5))) :
    (nb c w.length ≤ 40 ∧ ∃ Ga, CFr G0 Ga (B + 5) ∧ CB c Ga (B + 5) v w.length ∧ ∀ Gb, (∀ K : Option Value → q_M → Prop, fX9_index [.ref (B + 5), .ref (tvA B v + 5)] (st T nx 0 0 R Ga) K = K none (st T nx 0 0 R Gb)) → ∀ K : Option Value → q_M → Prop, fX3_growTree [.ref (B + 526), .ref (B + 5), .int (zI v)] (st T nx 0 0 R G0) K = K (some (.int (zI 1))) (st T nx 0 0 R Gb)) ∨
    (40 < nb c w.length ∧ ∃ Ga, CFr G0 Ga (B + 5) ∧ ∀ K : Option Value → q_M → Prop, fX3_growTree [.ref (B + 526), .ref (B + 5), .int (zI v)] (st T nx 0 0 R G0) K = K (some (.int (zI 0))) (st T nx 0 0 R Ga)) := by
  have oB := o11_4 hL
  have o8 := o11_0 hL (i := v.toNat) (by omega)
  have lo : ∀ x, x < B + 526 → G0 x = G x := fun x q => off x (by omega)
  obtain ⟨G1, f1, f2, f3⟩ := c9_start (T := T) (nx := nx) (rc := 0) (rs := 0) (R := R) (G := G0) (c := c) (v := v) oB
  have nz : nb c 0 = 0 := rfl
  have tc : TC G0 (B + 370 + 14 * v.toNat) (G (B + 370 + 14 * v.toNat) 1) (G (B + 370 + 14 * v.toNat + 2)) (G (B + 370 + 14 * v.toNat + 4)) (G (B + 370 + 14 * v.toNat + 3)) := by
    have := TC_of iFm v0 v1
    unfold TC at this ⊢
    rw [lo (B + 370 + 14 * v.toNat) (by omega), lo ((B + 370 + 14 * v.toNat) + 2) (by omega), lo ((B + 370 + 14 * v.toNat) + 3) (by omega), lo ((B + 370 + 14 * v.toNat) + 4) (by omega)]
    exact this
  have hS : ∀ f, 0 ≤ f → f < G (B + 370 + 14 * v.toNat) 1 → Fsl (G (B + 370 + 14 * v.toNat + 3)) (G (B + 370 + 14 * v.toNat + 4)) (G0 ((B + 370 + 14 * v.toNat) + 5)) (G0 ((B + 370 + 14 * v.toNat) + 6)) f := fun f f0 f1 => by
    rw [lo ((B + 370 + 14 * v.toNat) + 5) (by omega), lo ((B + 370 + 14 * v.toNat) + 6) (by omega)]
    exact ((iFm v v0 v1).2.2.2 f f0 f1).2.2.1
  have n5' : ∀ q : Nat, 1000 ≤ c q → ns0 (c q) (G0 ((B + 370 + 14 * v.toNat) + 5)) := fun q h => by
    rw [lo ((B + 370 + 14 * v.toNat) + 5) (by omega)]
    exact n5 q h
  have pr0 : Pre (G0 ((B + 370 + 14 * v.toNat) + 5)) c 0 := ⟨fun q hq => absurd hq (by omega), fun q hq => absurd hq (by omega)⟩
  have d0 : dd (G0 ((B + 370 + 14 * v.toNat) + 5)) c 0 = 1 := rfl
  obtain ⟨Ga, y, a1, a2, a3⟩ := gw_cls (T := T) (nx := nx) (R := R) (G0 := G0) (a := B + 526) (t := (B + 370 + 14 * v.toNat)) (b := B + 5) (N := n) (v := v) (Q := Q) (X := (fun p => G (B + 2) (16 * u + p))) (c := c) o o8 (by omega) oB (by omega) (FO5_of iFm v0 v1) hQ nb16.2 tc nt cd (fun it x _ _ => rfl) tx hS n5' 118 90 0 0 n 0 w G1 0 (Int.le_refl _) (by omega) (Int.le_refl _) nb16.1 (Int.le_refl _) fin hw hA f1 f2 pr0 (by omega) (by omega) (Int.le_refl _) (by omega) (by omega)
  rw [Nat.zero_add] at a2
  have s0 : G1 (B + 526) 0 = n := by rw [f1.1 _ (by omega) (by omega)]; exact hN
  have one : ¬ (1 : Int) = 0 := by omega
  clear hS n5' n5 cd nt tx hw hA tc hQ fin off lo iFm
  rcases a2 with ⟨yy, n40, cb⟩ | ⟨yy, n40⟩
  · subst yy
    refine Or.inl ⟨n40, Ga, a1, cb, fun Gb hB K => ?_⟩
    have hB' : ∀ K : Option Value → q_M → Prop, fX9_index [.ref (B + 5), .ref ((B + 370 + 14 * v.toNat) + 5)] (st T nx 0 0 R Ga) K = K none (st T nx 0 0 R Gb) := hB
    clear hB a1 cb f1 f2
    simp (disch := omega) only [↓fX3_growTree.eq_1, ↓sX3_growTree_.eq_1, ↓k_mk, ↓k_sq, ↓k_sk, ↓k_bk, ↓k_if, ↓k_te, ↓k_cm, ↓k_cz, ↓k_an2, ↓k_or2, ↓k_no, ↓k_ci, ↓k_l0, ↓k_r0, ↓k_se0, ↓k_ic0, ↓k_l1, ↓k_r1, ↓k_se1, ↓k_ic1, ↓k_de1, ↓k_tk1, ↓k_l2, ↓k_r2, ↓k_se2, ↓k_ic2, ↓k_de2, ↓k_tk2, ↓k_l3, ↓k_r3, ↓k_se3, ↓k_ic3, ↓k_de3, ↓k_tk3, ↓k_l4, ↓k_r4, ↓k_se4, ↓k_ic4, ↓k_de4, ↓k_tk4, ↓k_l5, ↓k_r5, ↓k_se5, ↓k_ic5, ↓k_de5, ↓k_tk5, ↓k_l6, ↓k_r6, ↓k_se6, ↓k_ic6, ↓k_de6, ↓k_tk6, ↓k_l7, ↓k_r7, ↓k_se7, ↓k_ic7, ↓k_de7, ↓k_tk7, ↓k_l8, ↓k_r8, ↓k_se8, ↓k_ic8, ↓k_de8, ↓k_tk8, ↓k_l9, ↓k_r9, ↓k_se9, ↓k_ic9, ↓k_de9, ↓k_tk9, ↓k_l10, ↓k_r10, ↓k_se10, ↓k_ic10, ↓k_de10, ↓k_tk10, ↓k_l11, ↓k_r11, ↓k_se11, ↓k_ic11, ↓k_de11, ↓k_tk11, ↓k_l12, ↓k_r12, ↓k_se12, ↓k_ic12, ↓k_de12, ↓k_tk12, ↓k_l13, ↓k_r13, ↓k_se13, ↓k_ic13, ↓k_de13, ↓k_tk13, ↓k_l14, ↓k_r14, ↓k_se14, ↓k_ic14, ↓k_de14, ↓k_tk14, ↓k_l15, ↓k_r15, ↓k_se15, ↓k_ic15, ↓k_de15, ↓k_tk15, ↓k_l16, ↓k_r16, ↓k_se16, ↓k_ic16, ↓k_de16, ↓k_tk16, ↓k_l17, ↓k_r17, ↓k_se17, ↓k_ic17, ↓k_de17, ↓k_tk17, ↓k_l18, ↓k_r18, ↓k_se18, ↓k_ic18, ↓k_de18, ↓k_tk18, ↓k_l19, ↓k_r19, ↓k_se19, ↓k_ic19, ↓k_de19, ↓k_tk19, ↓k_l20, ↓k_r20, ↓k_se20, ↓k_ic20, ↓k_de20, ↓k_tk20, ↓k_l21, ↓k_r21, ↓k_se21, ↓k_ic21, ↓k_de21, ↓k_tk21, ↓k_l22, ↓k_r22, ↓k_se22, ↓k_ic22, ↓k_de22, ↓k_tk22, ↓k_l23, ↓k_r23, ↓k_se23, ↓k_ic23, ↓k_de23, ↓k_tk23, ↓k_l24, ↓k_r24, ↓k_se24, ↓k_ic24, ↓k_de24, ↓k_tk24, ↓k_l25, ↓k_r25, ↓k_se25, ↓k_ic25, ↓k_de25, ↓k_tk25, ↓k_k, ↓k_kn, ↓k_kl, ↓k_kln, ↓k_il, ↓k_2, ↓k_1, ↓k_2c, ↓k_2l, ↓k_ac, ↓k_an, ↓k_cs, ↓k_cv, ↓k_fi, ↓k_fr, ↓k_ai, ↓k_az, ↓k_ar, ↓k_sai, ↓k_saz, ↓k_soa, ↓k_sof, ↓k_spf, ↓k_sx, ↓k_blk, ↓k_sset, ↓k_sdec, ↓k_sri, ↓k_srv, ↓k_srr, ↓k_nop, ↓k_add, ↓k_sub, ↓k_mul, ↓k_min, ↓k_max, ↓k_shr, ↓k_shl, ↓k_or, ↓k_ilz, ↓k_addl, ↓k_rt, ↓k_rb, ↓k_rbz, ↓k_rsi, ↓k_rsr, ↓k_rsv, ↓reduceIte, ↓(k_cv1 dX9_start (t9 oB)), ↓f3, s0, ↓(k_cv5 (dgr2 90 0) (t3 o)), ↓a3, one, ↓(k_cv1 dX9_index (t9 oB)), ↓hB', ↓xi3_0 o, ↓xp3_0 o, ↓xb3_0 o, ↓xf3_0 o, ↓xg3_0 o, ↓xh3_0 o, ↓xr3_1 o, ↓xr8_5 o8, ↓xa8_5 o8, ↓xs8_5 o8, ↓xo8_5 o8, ↓xc8_5 o8, ↓xd8_5 o8, List.length_cons, List.length_nil, List.forall_mem_cons, List.not_mem_nil, Value.category, true_and, and_true, false_and, and_false, or_true, true_or, or_false, false_or, Nat.zero_le, forall_const, implies_true, false_implies, Nat.zero_add, Nat.reduceAdd, Nat.reduceLT, Nat.reduceLeDiff, Nat.le_refl, not_true_eq_false, not_false_eq_true, r_eq, r_ne, r_lt, r_ge, r_gt, r_le, bz_ne, nn_toNat, cn_of, cn_0, cn_1, i10, Int.reduceLE, Int.reduceLT, Int.reduceEq, bz_T, bz_F, ite_self, mulc, st_bud]
  · subst yy
    refine Or.inr ⟨n40, Ga, a1, fun K => ?_⟩
    clear a1 f1 f2
    simp (disch := omega) only [↓fX3_growTree.eq_1, ↓sX3_growTree_.eq_1, ↓k_mk, ↓k_sq, ↓k_sk, ↓k_bk, ↓k_if, ↓k_te, ↓k_cm, ↓k_cz, ↓k_an2, ↓k_or2, ↓k_no, ↓k_ci, ↓k_l0, ↓k_r0, ↓k_se0, ↓k_ic0, ↓k_l1, ↓k_r1, ↓k_se1, ↓k_ic1, ↓k_de1, ↓k_tk1, ↓k_l2, ↓k_r2, ↓k_se2, ↓k_ic2, ↓k_de2, ↓k_tk2, ↓k_l3, ↓k_r3, ↓k_se3, ↓k_ic3, ↓k_de3, ↓k_tk3, ↓k_l4, ↓k_r4, ↓k_se4, ↓k_ic4, ↓k_de4, ↓k_tk4, ↓k_l5, ↓k_r5, ↓k_se5, ↓k_ic5, ↓k_de5, ↓k_tk5, ↓k_l6, ↓k_r6, ↓k_se6, ↓k_ic6, ↓k_de6, ↓k_tk6, ↓k_l7, ↓k_r7, ↓k_se7, ↓k_ic7, ↓k_de7, ↓k_tk7, ↓k_l8, ↓k_r8, ↓k_se8, ↓k_ic8, ↓k_de8, ↓k_tk8, ↓k_l9, ↓k_r9, ↓k_se9, ↓k_ic9, ↓k_de9, ↓k_tk9, ↓k_l10, ↓k_r10, ↓k_se10, ↓k_ic10, ↓k_de10, ↓k_tk10, ↓k_l11, ↓k_r11, ↓k_se11, ↓k_ic11, ↓k_de11, ↓k_tk11, ↓k_l12, ↓k_r12, ↓k_se12, ↓k_ic12, ↓k_de12, ↓k_tk12, ↓k_l13, ↓k_r13, ↓k_se13, ↓k_ic13, ↓k_de13, ↓k_tk13, ↓k_l14, ↓k_r14, ↓k_se14, ↓k_ic14, ↓k_de14, ↓k_tk14, ↓k_l15, ↓k_r15, ↓k_se15, ↓k_ic15, ↓k_de15, ↓k_tk15, ↓k_l16, ↓k_r16, ↓k_se16, ↓k_ic16, ↓k_de16, ↓k_tk16, ↓k_l17, ↓k_r17, ↓k_se17, ↓k_ic17, ↓k_de17, ↓k_tk17, ↓k_l18, ↓k_r18, ↓k_se18, ↓k_ic18, ↓k_de18, ↓k_tk18, ↓k_l19, ↓k_r19, ↓k_se19, ↓k_ic19, ↓k_de19, ↓k_tk19, ↓k_l20, ↓k_r20, ↓k_se20, ↓k_ic20, ↓k_de20, ↓k_tk20, ↓k_l21, ↓k_r21, ↓k_se21, ↓k_ic21, ↓k_de21, ↓k_tk21, ↓k_l22, ↓k_r22, ↓k_se22, ↓k_ic22, ↓k_de22, ↓k_tk22, ↓k_l23, ↓k_r23, ↓k_se23, ↓k_ic23, ↓k_de23, ↓k_tk23, ↓k_l24, ↓k_r24, ↓k_se24, ↓k_ic24, ↓k_de24, ↓k_tk24, ↓k_l25, ↓k_r25, ↓k_se25, ↓k_ic25, ↓k_de25, ↓k_tk25, ↓k_k, ↓k_kn, ↓k_kl, ↓k_kln, ↓k_il, ↓k_2, ↓k_1, ↓k_2c, ↓k_2l, ↓k_ac, ↓k_an, ↓k_cs, ↓k_cv, ↓k_fi, ↓k_fr, ↓k_ai, ↓k_az, ↓k_ar, ↓k_sai, ↓k_saz, ↓k_soa, ↓k_sof, ↓k_spf, ↓k_sx, ↓k_blk, ↓k_sset, ↓k_sdec, ↓k_sri, ↓k_srv, ↓k_srr, ↓k_nop, ↓k_add, ↓k_sub, ↓k_mul, ↓k_min, ↓k_max, ↓k_shr, ↓k_shl, ↓k_or, ↓k_ilz, ↓k_addl, ↓k_rt, ↓k_rb, ↓k_rbz, ↓k_rsi, ↓k_rsr, ↓k_rsv, ↓reduceIte, ↓(k_cv1 dX9_start (t9 oB)), ↓f3, s0, ↓(k_cv5 (dgr2 90 0) (t3 o)), ↓a3, eq_self, ↓xi3_0 o, ↓xp3_0 o, ↓xb3_0 o, ↓xf3_0 o, ↓xg3_0 o, ↓xh3_0 o, ↓xr3_1 o, ↓xr8_5 o8, ↓xa8_5 o8, ↓xs8_5 o8, ↓xo8_5 o8, ↓xc8_5 o8, ↓xd8_5 o8, List.length_cons, List.length_nil, List.forall_mem_cons, List.not_mem_nil, Value.category, true_and, and_true, false_and, and_false, or_true, true_or, or_false, false_or, Nat.zero_le, forall_const, implies_true, false_implies, Nat.zero_add, Nat.reduceAdd, Nat.reduceLT, Nat.reduceLeDiff, Nat.le_refl, not_true_eq_false, not_false_eq_true, r_eq, r_ne, r_lt, r_ge, r_gt, r_le, bz_ne, nn_toNat, cn_of, cn_0, cn_1, i10, Int.reduceLE, Int.reduceLT, Int.reduceEq, bz_T, bz_F, ite_self, mulc, st_bud]
end
