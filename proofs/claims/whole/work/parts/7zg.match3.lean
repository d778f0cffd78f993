section
/-! the reference: whether a pattern is so at a node -/
def MCh (G0 G : Nat → Int → Int) (B : Nat) : Prop := (∀ x, ¬ x = (B + 544 + 28) → ¬ x = (B + 544 + 29) → ¬ x = (B + 544 + 90) → ¬ x = (B + 544 + 91) → ¬ x = B + 544 → G x = G0 x) ∧ ∀ j, ¬ j = 114 → G (B + 544) j = G0 (B + 544) j
theorem MCh_rfl (G : Nat → Int → Int) (B : Nat) : MCh G G B := ⟨fun _ _ _ _ _ _ => rfl, fun _ _ => rfl⟩
theorem MCh_tr {G G1 G2 : Nat → Int → Int} {B : Nat} (h : MCh G G1 B) (k : MCh G1 G2 B) : MCh G G2 B := ⟨fun x a1 a2 a3 a4 a5 => by rw [k.1 x a1 a2 a3 a4 a5, h.1 x a1 a2 a3 a4 a5], fun j q => by rw [k.2 j q, h.2 j q]⟩
/-- what stands for the holes, told by the reference -/
def SGr (G : Nat → Int → Int) (B : Nat) (t n : Int) (pcb : Int → Int) (S : Int → Int → Prop) : Prop := (∀ h x, S h x → 0 ≤ h ∧ h ≤ 15 ∧ 0 ≤ x ∧ x < n) ∧ ∀ h, 0 ≤ h → h ≤ 15 → (G (B + 544 + 28) h = -1 ∧ ∀ x, ¬ S h x) ∨ (G (B + 544 + 28) h = t ∧ ∃ x, S h x ∧ G (B + 544 + 29) h = pcb x)
theorem SGr_congr {G : Nat → Int → Int} {B : Nat} {t n : Int} {pcb : Int → Int} {S S' : Int → Int → Prop} (h : ∀ a b, S a b ↔ S' a b) (sg : SGr G B t n pcb S) : SGr G B t n pcb S' := ⟨fun a x w => sg.1 a x ((h a x).mpr w), fun a q0 q1 => (sg.2 a q0 q1).imp (fun z => ⟨z.1, fun x w => z.2 x ((h a x).mpr w)⟩) (fun ⟨z1, x, z2, z3⟩ => ⟨z1, x, (h _ _).mp z2, z3⟩)⟩
/-- pieces of one tree that are like -/
theorem c12_likeP {T : Nat → Option q_T} {nx rc rs B b : Nat} {R : Nat → Nat → Option Value} {G : Nat → Int → Int} {h i v x y : Int} (hM : Ly T R (B + 544) (L12 (B + 544))) (hF : IFm G B) (tk : TOK G B h i v b) (i0 : 0 ≤ i) (i1 : i < 100) (x0 : 0 ≤ x) (x1 : x < G b 2) (y0 : 0 ≤ y) (y1 : y < G b 2) (cb : ∀ q, 0 ≤ q → q < G b 2 → 20 ≤ G (b + 1) q ∧ G (b + 1) q ≤ 1013) :
    ∃ w : Int, ((w = 1 ∧ Seg (G (b + 1)) (G (b + 2)) (G (b + 1)) (G (b + 2)) x y) ∨ (w = 0 ∧ ¬ Seg (G (b + 1)) (G (b + 2)) (G (b + 1)) (G (b + 2)) x y)) ∧ ∀ K : Option Value → q_M → Prop, fX12_areLike [.ref (B + 544), .int (zI i), .int (zI (pc (G (b + 1)) (G (b + 6)) x)), .int (zI i), .int (zI (pc (G (b + 1)) (G (b + 6)) y))] (st T nx rc rs R G) K = K (some (.int (zI w))) (st T nx rc rs R G) := by
  have kT := tk.2.2.2.1
  have tb := TOK_b tk
  have cx := cb x x0 x1
  have cy := cb y y0 y1
  have ex := kT.2.1 x x0 x1
  have ey := kT.2.1 y y0 y1
  by_cases lx : 1000 ≤ G (b + 1) x
  · obtain ⟨rx, nx', rx0, rx1⟩ := Tr_n kT x0 x1 lx
    by_cases ly : 1000 ≤ G (b + 1) y
    · obtain ⟨ry, ny', ry0, ry1⟩ := Tr_n kT y0 y1 ly
      have px : pc (G (b + 1)) (G (b + 6)) x = 1000 + G (b + 6) x := if_pos lx
      have py : pc (G (b + 1)) (G (b + 6)) y = 1000 + G (b + 6) y := if_pos ly
      have := c12_areLike (T := T) (nx := nx) (rc := rc) (rs := rs) (R := R) (p := 1000 + G (b + 6) x) (q := 1000 + G (b + 6) y) hM hF tk tk i0 i1 i0 i1 (by omega) (by omega) (by omega) (by omega)
      rw [show 1000 + G (b + 6) x - 1000 = G (b + 6) x by omega, show 1000 + G (b + 6) y - 1000 = G (b + 6) y by omega, rx, ry, nx', ny'] at this
      rw [px, py, rx, ry]
      exact this
    · have px : pc (G (b + 1)) (G (b + 6)) x = 1000 + G (b + 6) x := if_pos lx
      have py : pc (G (b + 1)) (G (b + 6)) y = G (b + 1) y := if_neg ly
      have el := (kT.2.2.2.2.1 y y0 y1 ly).2
      refine ⟨0, Or.inr ⟨rfl, fun s => ?_⟩, fun K => ?_⟩
      · have := s.2 0 (by omega) (by omega)
        rw [show x + 0 = x by omega, show y + 0 = y by omega] at this
        omega
      · rw [px, py]
        obtain ⟨u, hu⟩ : ∃ u, u = 1000 + G (b + 6) x := ⟨_, rfl⟩
        obtain ⟨w, hw⟩ : ∃ w, w = G (b + 1) y := ⟨_, rfl⟩
        rw [← hu, ← hw]
        have g1 : ¬ u < 1000 := by omega
        have g2 : w < 1000 := by omega
        have g3 : ¬ u = w := by omega
        have ub : u < 2000 := by omega
        have wb : 0 ≤ w := by omega
        clear hu hw
        simp (disch := omega) only [↓fX12_areLike.eq_1, ↓uX12_areLike, ↓k_mk, ↓k_sq, ↓k_sk, ↓k_bk, ↓k_if, ↓k_te, ↓k_cm, ↓k_cz, ↓k_an2, ↓k_or2, ↓k_no, ↓k_ci, ↓k_l0, ↓k_r0, ↓k_se0, ↓k_ic0, ↓k_l1, ↓k_r1, ↓k_se1, ↓k_ic1, ↓k_de1, ↓k_tk1, ↓k_l2, ↓k_r2, ↓k_se2, ↓k_ic2, ↓k_de2, ↓k_tk2, ↓k_l3, ↓k_r3, ↓k_se3, ↓k_ic3, ↓k_de3, ↓k_tk3, ↓k_l4, ↓k_r4, ↓k_se4, ↓k_ic4, ↓k_de4, ↓k_tk4, ↓k_l5, ↓k_r5, ↓k_se5, ↓k_ic5, ↓k_de5, ↓k_tk5, ↓k_l6, ↓k_r6, ↓k_se6, ↓k_ic6, ↓k_de6, ↓k_tk6, ↓k_l7, ↓k_r7, ↓k_se7, ↓k_ic7, ↓k_de7, ↓k_tk7, ↓k_l8, ↓k_r8, ↓k_se8, ↓k_ic8, ↓k_de8, ↓k_tk8, ↓k_l9, ↓k_r9, ↓k_se9, ↓k_ic9, ↓k_de9, ↓k_tk9, ↓k_l10, ↓k_r10, ↓k_se10, ↓k_ic10, ↓k_de10, ↓k_tk10, ↓k_l11, ↓k_r11, ↓k_se11, ↓k_ic11, ↓k_de11, ↓k_tk11, ↓k_l12, ↓k_r12, ↓k_se12, ↓k_ic12, ↓k_de12, ↓k_tk12, ↓k_l13, ↓k_r13, ↓k_se13, ↓k_ic13, ↓k_de13, ↓k_tk13, ↓k_l14, ↓k_r14, ↓k_se14, ↓k_ic14, ↓k_de14, ↓k_tk14, ↓k_l15, ↓k_r15, ↓k_se15, ↓k_ic15, ↓k_de15, ↓k_tk15, ↓k_l16, ↓k_r16, ↓k_se16, ↓k_ic16, ↓k_de16, ↓k_tk16, ↓k_l17, ↓k_r17, ↓k_se17, ↓k_ic17, ↓k_de17, ↓k_tk17, ↓k_l18, ↓k_r18, ↓k_se18, ↓k_ic18, ↓k_de18, ↓k_tk18, ↓k_l19, ↓k_r19, ↓k_se19, ↓k_ic19, ↓k_de19, ↓k_tk19, ↓k_l20, ↓k_r20, ↓k_se20, ↓k_ic20, ↓k_de20, ↓k_tk20, ↓k_l21, ↓k_r21, ↓k_se21, ↓k_ic21, ↓k_de21, ↓k_tk21, ↓k_l22, ↓k_r22, ↓k_se22, ↓k_ic22, ↓k_de22, ↓k_tk22, ↓k_l23, ↓k_r23, ↓k_se23, ↓k_ic23, ↓k_de23, ↓k_tk23, ↓k_l24, ↓k_r24, ↓k_se24, ↓k_ic24, ↓k_de24, ↓k_tk24, ↓k_l25, ↓k_r25, ↓k_se25, ↓k_ic25, ↓k_de25, ↓k_tk25, ↓k_k, ↓k_kn, ↓k_kl, ↓k_kln, ↓k_il, ↓k_2, ↓k_1, ↓k_2c, ↓k_2l, ↓k_ac, ↓k_an, ↓k_cs, ↓k_cv, ↓k_fi, ↓k_fr, ↓k_ai, ↓k_az, ↓k_ar, ↓k_sai, ↓k_saz, ↓k_soa, ↓k_sof, ↓k_spf, ↓k_sx, ↓k_blk, ↓k_sset, ↓k_sdec, ↓k_sri, ↓k_srv, ↓k_srr, ↓k_nop, ↓k_add, ↓k_sub, ↓k_mul, ↓k_min, ↓k_max, ↓k_shr, ↓k_shl, ↓k_or, ↓k_ilz, ↓k_addl, ↓k_rt, ↓k_rb, ↓k_rbz, ↓k_rsi, ↓k_rsr, ↓k_rsv, ↓reduceIte, g1, g2, g3, List.length_cons, List.length_nil, List.forall_mem_cons, List.not_mem_nil, Value.category, true_and, and_true, false_and, and_false, or_true, true_or, or_false, false_or, Nat.zero_le, forall_const, implies_true, false_implies, Nat.zero_add, Nat.reduceAdd, Nat.reduceLT, Nat.reduceLeDiff, Nat.le_refl, not_true_eq_false, not_false_eq_true, r_eq, r_ne, r_lt, r_ge, r_gt, r_le, bz_ne, nn_toNat, cn_of, cn_0, cn_1, i10, Int.reduceLE, Int.reduceLT, Int.reduceEq, bz_T, bz_F, ite_self, mulc, st_bud]
  · have px : pc (G (b + 1)) (G (b + 6)) x = G (b + 1) x := if_neg lx
    have el := (kT.2.2.2.2.1 x x0 x1 lx).2
    obtain ⟨u, hu⟩ : ∃ u, u = G (b + 1) x := ⟨_, rfl⟩
    obtain ⟨w, hw⟩ : ∃ w, w = pc (G (b + 1)) (G (b + 6)) y := ⟨_, rfl⟩
    have g1 : u < 1000 := by omega
    have wb : 0 ≤ w ∧ w < 2000 := by
      rw [hw]
      unfold pc
      by_cases ly : 1000 ≤ G (b + 1) y
      · have := Tr_n kT y0 y1 ly
        rw [if_pos ly]
        omega
      · rw [if_neg ly]
        omega
    have ub : 0 ≤ u := by omega
    rw [px, ← hu, ← hw]
    have key : u = w ↔ Seg (G (b + 1)) (G (b + 2)) (G (b + 1)) (G (b + 2)) x y := by
      constructor
      · intro e
        have ly : ¬ 1000 ≤ G (b + 1) y := fun ly => by
          unfold pc at hw
          rw [if_pos ly] at hw
          have := Tr_n kT y0 y1 ly
          omega
        have el2 := (kT.2.2.2.2.1 y y0 y1 ly).2
        unfold pc at hw
        rw [if_neg ly] at hw
        refine ⟨by omega, fun z z0 z1 => ?_⟩
        rw [show z = 0 by omega, show x + 0 = x by omega, show y + 0 = y by omega, ← hu, ← hw]
        exact e
      · intro s
        have e := s.2 0 (by omega) (by omega)
        rw [show x + 0 = x by omega, show y + 0 = y by omega] at e
        rw [hw, hu, e]
        unfold pc
        rw [if_neg (by omega)]
    by_cases g3 : u = w
    · refine ⟨1, Or.inl ⟨rfl, key.mp g3⟩, fun K => ?_⟩
      clear key hu hw px
      subst g3
      simp (disch := omega) only [↓fX12_areLike.eq_1, ↓uX12_areLike, ↓k_mk, ↓k_sq, ↓k_sk, ↓k_bk, ↓k_if, ↓k_te, ↓k_cm, ↓k_cz, ↓k_an2, ↓k_or2, ↓k_no, ↓k_ci, ↓k_l0, ↓k_r0, ↓k_se0, ↓k_ic0, ↓k_l1, ↓k_r1, ↓k_se1, ↓k_ic1, ↓k_de1, ↓k_tk1, ↓k_l2, ↓k_r2, ↓k_se2, ↓k_ic2, ↓k_de2, ↓k_tk2, ↓k_l3, ↓k_r3, ↓k_se3, ↓k_ic3, ↓k_de3, ↓k_tk3, ↓k_l4, ↓k_r4, ↓k_se4, ↓k_ic4, ↓k_de4, ↓k_tk4, ↓k_l5, ↓k_r5, ↓k_se5, ↓k_ic5, ↓k_de5, ↓k_tk5, ↓k_l6, ↓k_r6, ↓k_se6, ↓k_ic6, ↓k_de6, ↓k_tk6, ↓k_l7, ↓k_r7, ↓k_se7, ↓k_ic7, ↓k_de7, ↓k_tk7, ↓k_l8, ↓k_r8, ↓k_se8, ↓k_ic8, ↓k_de8, ↓k_tk8, ↓k_l9, ↓k_r9, ↓k_se9, ↓k_ic9, ↓k_de9, ↓k_tk9, ↓k_l10, ↓k_r10, ↓k_se10, ↓k_ic10, ↓k_de10, ↓k_tk10, ↓k_l11, ↓k_r11, ↓k_se11, ↓k_ic11, ↓k_de11, ↓k_tk11, ↓k_l12, ↓k_r12, ↓k_se12, ↓k_ic12, ↓k_de12, ↓k_tk12, ↓k_l13, ↓k_r13, ↓k_se13, ↓k_ic13, ↓k_de13, ↓k_tk13, ↓k_l14, ↓k_r14, ↓k_se14, ↓k_ic14, ↓k_de14, ↓k_tk14, ↓k_l15, ↓k_r15, ↓k_se15, ↓k_ic15, ↓k_de15, ↓k_tk15, ↓k_l16, ↓k_r16, ↓k_se16, ↓k_ic16, ↓k_de16, ↓k_tk16, ↓k_l17, ↓k_r17, ↓k_se17, ↓k_ic17, ↓k_de17, ↓k_tk17, ↓k_l18, ↓k_r18, ↓k_se18, ↓k_ic18, ↓k_de18, ↓k_tk18, ↓k_l19, ↓k_r19, ↓k_se19, ↓k_ic19, ↓k_de19, ↓k_tk19, ↓k_l20, ↓k_r20, ↓k_se20, ↓k_ic20, ↓k_de20, ↓k_tk20, ↓k_l21, ↓k_r21, ↓k_se21, ↓k_ic21, ↓k_de21, ↓k_tk21, ↓k_l22, ↓k_r22, ↓k_se22, ↓k_ic22, ↓k_de22, ↓k_tk22, ↓k_l23, ↓k_r23, ↓k_se23, ↓k_ic23, ↓k_de23, ↓k_tk23, ↓k_l24, ↓k_r24, ↓k_se24, ↓k_ic24, ↓k_de24, ↓k_tk24, ↓k_l25, ↓k_r25, ↓k_se25, ↓k_ic25, ↓k_de25, ↓k_tk25, ↓k_k, ↓k_kn, ↓k_kl, ↓k_kln, ↓k_il, ↓k_2, ↓k_1, ↓k_2c, ↓k_2l, ↓k_ac, ↓k_an, ↓k_cs, ↓k_cv, ↓k_fi, ↓k_fr, ↓k_ai, ↓k_az, ↓k_ar, ↓k_sai, ↓k_saz, ↓k_soa, ↓k_sof, ↓k_spf, ↓k_sx, ↓k_blk, ↓k_sset, ↓k_sdec, ↓k_sri, ↓k_srv, ↓k_srr, ↓k_nop, ↓k_add, ↓k_sub, ↓k_mul, ↓k_min, ↓k_max, ↓k_shr, ↓k_shl, ↓k_or, ↓k_ilz, ↓k_addl, ↓k_rt, ↓k_rb, ↓k_rbz, ↓k_rsi, ↓k_rsr, ↓k_rsv, ↓reduceIte, g1, eq_self, List.length_cons, List.length_nil, List.forall_mem_cons, List.not_mem_nil, Value.category, true_and, and_true, false_and, and_false, or_true, true_or, or_false, false_or, Nat.zero_le, forall_const, implies_true, false_implies, Nat.zero_add, Nat.reduceAdd, Nat.reduceLT, Nat.reduceLeDiff, Nat.le_refl, not_true_eq_false, not_false_eq_true, r_eq, r_ne, r_lt, r_ge, r_gt, r_le, bz_ne, nn_toNat, cn_of, cn_0, cn_1, i10, Int.reduceLE, Int.reduceLT, Int.reduceEq, bz_T, bz_F, ite_self, mulc, st_bud]
    · refine ⟨0, Or.inr ⟨rfl, fun z => g3 (key.mpr z)⟩, fun K => ?_⟩
      clear key hu hw px
      simp (disch := omega) only [↓fX12_areLike.eq_1, ↓uX12_areLike, ↓k_mk, ↓k_sq, ↓k_sk, ↓k_bk, ↓k_if, ↓k_te, ↓k_cm, ↓k_cz, ↓k_an2, ↓k_or2, ↓k_no, ↓k_ci, ↓k_l0, ↓k_r0, ↓k_se0, ↓k_ic0, ↓k_l1, ↓k_r1, ↓k_se1, ↓k_ic1, ↓k_de1, ↓k_tk1, ↓k_l2, ↓k_r2, ↓k_se2, ↓k_ic2, ↓k_de2, ↓k_tk2, ↓k_l3, ↓k_r3, ↓k_se3, ↓k_ic3, ↓k_de3, ↓k_tk3, ↓k_l4, ↓k_r4, ↓k_se4, ↓k_ic4, ↓k_de4, ↓k_tk4, ↓k_l5, ↓k_r5, ↓k_se5, ↓k_ic5, ↓k_de5, ↓k_tk5, ↓k_l6, ↓k_r6, ↓k_se6, ↓k_ic6, ↓k_de6, ↓k_tk6, ↓k_l7, ↓k_r7, ↓k_se7, ↓k_ic7, ↓k_de7, ↓k_tk7, ↓k_l8, ↓k_r8, ↓k_se8, ↓k_ic8, ↓k_de8, ↓k_tk8, ↓k_l9, ↓k_r9, ↓k_se9, ↓k_ic9, ↓k_de9, ↓k_tk9, ↓k_l10, ↓k_r10, ↓k_se10, ↓k_ic10, ↓k_de10, ↓k_tk10, ↓k_l11, ↓k_r11, ↓k_se11, ↓k_ic11, ↓k_de11, ↓k_tk11, ↓k_l12, ↓k_r12, ↓k_se12, ↓k_ic12, ↓k_de12, ↓k_tk12, ↓k_l13, ↓k_r13, ↓k_se13, ↓k_ic13, ↓k_de13, ↓k_tk13, ↓k_l14, ↓k_r14, ↓k_se14, ↓k_ic14, ↓k_de14, ↓k_tk14, ↓k_l15, ↓k_r15, ↓k_se15, ↓k_ic15, ↓k_de15, ↓k_tk15, ↓k_l16, ↓k_r16, ↓k_se16, ↓k_ic16, ↓k_de16, ↓k_tk16, ↓k_l17, ↓k_r17, ↓k_se17, ↓k_ic17, ↓k_de17, ↓k_tk17, ↓k_l18, ↓k_r18, ↓k_se18, ↓k_ic18, ↓k_de18, ↓k_tk18, ↓k_l19, ↓k_r19, ↓k_se19, ↓k_ic19, ↓k_de19, ↓k_tk19, ↓k_l20, ↓k_r20, ↓k_se20, ↓k_ic20, ↓k_de20, ↓k_tk20, ↓k_l21, ↓k_r21, ↓k_se21, ↓k_ic21, ↓k_de21, ↓k_tk21, ↓k_l22, ↓k_r22, ↓k_se22, ↓k_ic22, ↓k_de22, ↓k_tk22, ↓k_l23, ↓k_r23, ↓k_se23, ↓k_ic23, ↓k_de23, ↓k_tk23, ↓k_l24, ↓k_r24, ↓k_se24, ↓k_ic24, ↓k_de24, ↓k_tk24, ↓k_l25, ↓k_r25, ↓k_se25, ↓k_ic25, ↓k_de25, ↓k_tk25, ↓k_k, ↓k_kn, ↓k_kl, ↓k_kln, ↓k_il, ↓k_2, ↓k_1, ↓k_2c, ↓k_2l, ↓k_ac, ↓k_an, ↓k_cs, ↓k_cv, ↓k_fi, ↓k_fr, ↓k_ai, ↓k_az, ↓k_ar, ↓k_sai, ↓k_saz, ↓k_soa, ↓k_sof, ↓k_spf, ↓k_sx, ↓k_blk, ↓k_sset, ↓k_sdec, ↓k_sri, ↓k_srv, ↓k_srr, ↓k_nop, ↓k_add, ↓k_sub, ↓k_mul, ↓k_min, ↓k_max, ↓k_shr, ↓k_shl, ↓k_or, ↓k_ilz, ↓k_addl, ↓k_rt, ↓k_rb, ↓k_rbz, ↓k_rsi, ↓k_rsr, ↓k_rsv, ↓reduceIte, g1, g3, List.length_cons, List.length_nil, List.forall_mem_cons, List.not_mem_nil, Value.category, true_and, and_true, false_and, and_false, or_true, true_or, or_false, false_or, Nat.zero_le, forall_const, implies_true, false_implies, Nat.zero_add, Nat.reduceAdd, Nat.reduceLT, Nat.reduceLeDiff, Nat.le_refl, not_true_eq_false, not_false_eq_true, r_eq, r_ne, r_lt, r_ge, r_gt, r_le, bz_ne, nn_toNat, cn_of, cn_0, cn_1, i10, Int.reduceLE, Int.reduceLT, Int.reduceEq, bz_T, bz_F, ite_self, mulc, st_bud]
def RSt (T : Nat → Option q_T) (nx : Nat) (R : Nat → Nat → Option Value) (B : Nat) (ia ib n0 : Int) (G G' : Nat → Int → Int) : Prop := ∀ (Kn : List Value → q_M → Prop) (Kr : Option Value → q_M → Prop), q_wh wcX12_fitsAt_1 wsX12_fitsAt_1 [.ref (B + 544), .int (zI ia), .int (zI ib), .int (zI n0)] (st T nx 0 0 R G') Kn Kr → q_wh wcX12_fitsAt_1 wsX12_fitsAt_1 [.ref (B + 544), .int (zI ia), .int (zI ib), .int (zI n0)] (st T nx 0 0 R G) Kn Kr
def RFa (T : Nat → Option q_T) (nx : Nat) (R : Nat → Nat → Option Value) (B : Nat) (ia ib n0 : Int) (G : Nat → Int → Int) : Prop := ∃ G', MCh G G' B ∧ ∀ (Kn : List Value → q_M → Prop) (Kr : Option Value → q_M → Prop), Kr (some (.int (zI 0))) (st T nx 0 0 R G') → q_wh wcX12_fitsAt_1 wsX12_fitsAt_1 [.ref (B + 544), .int (zI ia), .int (zI ib), .int (zI n0)] (st T nx 0 0 R G) Kn Kr
/-- the pieces below are as they were -/
def SLo (G G' : Nat → Int → Int) (B : Nat) (W : Int) : Prop := ∀ j, j < W → G' (B + 544 + 90) j = G (B + 544 + 90) j ∧ G' (B + 544 + 91) j = G (B + 544 + 91) j
/-- the slots of two nodes are put on the stack -/
theorem r_push {T : Nat → Option q_T} {nx B a b : Nat} {R : Nat → Nat → Option Value} {G0 : Nat → Int → Int} {ga gb ia ib v n0 : Int} {f : Int} (hM : Ly T R (B + 544) (L12 (B + 544))) (ia0 : 0 ≤ ia) (ia1 : ia < 100) (ib0 : 0 ≤ ib) (ib1 : ib < 100) (hF : IFm G0 B) (ta : TOK G0 B ga ia v a) (tb : TOK G0 B gb ib v b) (ca : ∀ q, 0 ≤ q → q < G0 a 2 → 20 ≤ G0 (a + 1) q ∧ G0 (a + 1) q ≤ 1013) (cb : ∀ q, 0 ≤ q → q < G0 b 2 → 20 ≤ G0 (b + 1) q ∧ G0 (b + 1) q ≤ 1013) (la : ∀ q, 0 ≤ q → q < G0 a 2 → ¬ 1000 ≤ G0 (a + 1) q → isLf (G0 (a + 1) q)) (hab : a + 10 ≤ B + 544 ∧ b + 10 ≤ B + 544) {p q : Int} (p0 : 0 ≤ p) (p1 : p < G0 a 2) (q0 : 0 ≤ q) (q1 : q < G0 b 2) (l : 1000 ≤ G0 (a + 1) p) (e : G0 (b + 1) q = G0 (a + 1) p) (hf : f = 14 * v + (G0 (a + 1) p - 1000)) (N : Int) (hN : N = G0 (tvA B v + 5) (G0 (a + 1) p - 1000)) {G : Nat → Int → Int} {W : Int} (W0 : 0 ≤ W) (W1 : W + N ≤ 210) (ch : MCh G0 G B) (h114 : G (B + 544) 114 = W) :
    ∃ G', MCh G G' B ∧ SLo G G' B W ∧ G' (B + 544) 114 = W + N ∧ (∀ j : Nat, (j : Int) < N → G' (B + 544 + 90) (W + j) = pc (G0 (a + 1)) (G0 (a + 6)) (chI (G0 (a + 2)) p j) ∧ G' (B + 544 + 91) (W + j) = pc (G0 (b + 1)) (G0 (b + 6)) (chI (G0 (b + 2)) q j)) ∧ G' (B + 544 + 28) = G (B + 544 + 28) ∧ G' (B + 544 + 29) = G (B + 544 + 29) ∧
      ∀ (Kn : List Value → q_M → Prop) (Kr : Option Value → q_M → Prop), wX12_fitsAt_2 [.ref (B + 544), .int (zI ia), .int (zI ib), .int (zI n0), .int (zI (1000 + G0 (a + 6) p)), .int (zI (1000 + G0 (b + 6) q)), .int (zI f), .int (zI 0)] (st T nx 0 0 R G) Kn Kr = Kn [.ref (B + 544), .int (zI ia), .int (zI ib), .int (zI n0), .int (zI (1000 + G0 (a + 6) p)), .int (zI (1000 + G0 (b + 6) q)), .int (zI f), .int (zI N)] (st T nx 0 0 R G') := by
  have tba := TOK_b ta
  have tbb := TOK_b tb
  have kv := ta.2.2.1
  obtain ⟨f1, N1, ef, f0, f14, eN, N1', N5, rp, hf1, hNn, hC, _, hns, _, hch⟩ := nodeF hF ta p0 p1 l
  obtain ⟨f2, N2, ef2, _, _, _, _, _, rq, hf2, _, _, _, hns2, _, hch2⟩ := nodeF hF tb q0 q1 (by rw [e]; exact l)
  have nb5 := nsl_b (fun k => G0 (tvA B v + 4) (5 * f1 + k)) N1.toNat
  have e12 : f2 = f1 := by rw [ef2, ef, e]
  rw [← ef] at hN hf
  rw [← hns, ← hN] at nb5
  have frF := (hF v kv.1 kv.2).2.2.2 f1 f0 (by
    have := (ta.2.2.2.1.2.2.2.1 p p0 p1 l).1
    rw [ef]
    exact this)
  obtain ⟨P, hP⟩ : ∃ P, P = G0 (a + 6) p := ⟨_, rfl⟩
  obtain ⟨Qr, hQ⟩ : ∃ Qr, Qr = G0 (b + 6) q := ⟨_, rfl⟩
  rw [← hP] at rp hch ⊢
  rw [← hQ] at rq hch2 ⊢
  have inv : ∀ G1 : Nat → Int → Int, MCh G G1 B → (G1 (B + 544 + 21) = G0 (B + 544 + 21) ∧ G1 (B + 544 + 4) = G0 (B + 544 + 4) ∧ G1 (B + 544 + 5) = G0 (B + 544 + 5)) := fun G1 h => ⟨by rw [h.1 _ (by omega) (by omega) (by omega) (by omega) (by omega), ch.1 _ (by omega) (by omega) (by omega) (by omega) (by omega)], by rw [h.1 _ (by omega) (by omega) (by omega) (by omega) (by omega), ch.1 _ (by omega) (by omega) (by omega) (by omega) (by omega)], by rw [h.1 _ (by omega) (by omega) (by omega) (by omega) (by omega), ch.1 _ (by omega) (by omega) (by omega) (by omega) (by omega)]⟩
  have cn : ∀ G1 : Nat → Int → Int, MCh G G1 B → ∀ K : Option Value → q_M → Prop, fX12_slotsOf [.ref (B + 544), .int (zI f)] (st T nx 0 0 R G1) K = K (some (.int (zI N))) (st T nx 0 0 R G1) := fun G1 h K => by
    obtain ⟨_, i2, i3⟩ := inv G1 h
    have := c12_slotsFX (T := T) (nx := nx) (rc := 0) (rs := 0) (R := R) (G := G0) (G1 := G1) (v := v) (f := f1) (K := K) hM frF i2 i3 kv.1 kv.2 f0 f14
    rw [hf, hN]
    exact this
  obtain ⟨G', ⟨m1, m2, m3, m4, m5, m6⟩, lw⟩ := q_forE eX12_fitsAt_2 (fun _ _ => lX12_fitsAt_2) (fun k => [.ref (B + 544), .int (zI ia), .int (zI ib), .int (zI n0), .int (zI (1000 + P)), .int (zI (1000 + Qr)), .int (zI f), .int (zI k)]) (fun M => st T nx 0 0 R M) (fun k M => MCh G M B ∧ SLo G M B W ∧ M (B + 544) 114 = W + k ∧ (∀ j : Nat, j < k → M (B + 544 + 90) (W + j) = pc (G0 (a + 1)) (G0 (a + 6)) (chI (G0 (a + 2)) p j) ∧ M (B + 544 + 91) (W + j) = pc (G0 (b + 1)) (G0 (b + 6)) (chI (G0 (b + 2)) q j)) ∧ M (B + 544 + 28) = G (B + 544 + 28) ∧ M (B + 544 + 29) = G (B + 544 + 29)) N.toNat G ⟨MCh_rfl _ _, fun _ _ => ⟨rfl, rfl⟩, by rw [h114]; show W = W + ((0 : Nat) : Int); omega, fun j hj => absurd hj (by omega), rfl, rfl⟩ (fun k hk M ⟨m1, m2, m3, m4, m5, m6⟩ => by
    have hz : (k : Int) < N := by omega
    have k5 : (k : Int) < 5 := by omega
    obtain ⟨i1, i2, i3⟩ := inv M m1
    obtain ⟨_, z1⟩ := hch k (by rw [← hN]; exact hz)
    obtain ⟨_, z2⟩ := hch2 k (by rw [e12, ← hN]; exact hz)
    obtain ⟨x, hx⟩ : ∃ x, x = pc (G0 (a + 1)) (G0 (a + 6)) (chI (G0 (a + 2)) p k) := ⟨_, rfl⟩
    obtain ⟨y, hy⟩ : ∃ y, y = pc (G0 (b + 1)) (G0 (b + 6)) (chI (G0 (b + 2)) q k) := ⟨_, rfl⟩
    rw [← hx] at z1
    rw [← hy] at z2
    obtain ⟨M1, e1⟩ : ∃ M1, M1 = gs M (B + 544 + 90) (W + k) x := ⟨_, rfl⟩
    obtain ⟨M2, e2⟩ : ∃ M2, M2 = gs M1 (B + 544 + 91) (W + k) y := ⟨_, rfl⟩
    obtain ⟨M3, e3⟩ : ∃ M3, M3 = gs M2 (B + 544) 114 (W + k + 1) := ⟨_, rfl⟩
    have c1 := fun K : Option Value → q_M → Prop => c12_slotAt (T := T) (nx := nx) (rc := 0) (rs := 0) (R := R) (G := M) (v1 := ia) (v2 := P) (v3 := k) (K := K) hM (by omega) (by omega)
    have c1' : ∀ K : Option Value → q_M → Prop, fX12_slotAt [.ref (B + 544), .int (zI ia), .int (zI (1000 + P - 1000)), .int (zI k)] (st T nx 0 0 R M) K = K (some (.int (zI x))) (st T nx 0 0 R M) := fun K => by rw [show 1000 + P - 1000 = P by omega, c1, i1, z1]
    have a1 : M1 (B + 544 + 21) = G0 (B + 544 + 21) := by rw [e1, gs_ne (by omega)]; exact i1
    have c2 := fun K : Option Value → q_M → Prop => c12_slotAt (T := T) (nx := nx) (rc := 0) (rs := 0) (R := R) (G := M1) (v1 := ib) (v2 := Qr) (v3 := k) (K := K) hM (by omega) (by omega)
    have c2' : ∀ K : Option Value → q_M → Prop, fX12_slotAt [.ref (B + 544), .int (zI ib), .int (zI (1000 + Qr - 1000)), .int (zI k)] (st T nx 0 0 R M1) K = K (some (.int (zI y))) (st T nx 0 0 R M1) := fun K => by rw [show 1000 + Qr - 1000 = Qr by omega, c2, a1, z2]
    have h1 : M1 (B + 544) 114 = W + k := by rw [e1, gs_ne (by omega)]; exact m3
    have h2 : M2 (B + 544) 114 = W + k := by rw [e2, gs_ne (by omega)]; exact h1
    have sA : ∀ (Kn : List Value → q_M → Prop) (Kr : Option Value → q_M → Prop), q_sai (q_fr 12 115 (q_r 0)) (q_fi 12 114 (q_r 0)) (q_cv q_oi 12 3 0 0 fX12_slotAt (q_r 0) (q_ac Value.int (q_l 1) (q_ac Value.int (q_2 q_gisub (q_l 4) (q_k 1000)) (q_ac Value.int (q_l 7) q_an)))) [.ref (B + 544), .int (zI ia), .int (zI ib), .int (zI n0), .int (zI (1000 + P)), .int (zI (1000 + Qr)), .int (zI f), .int (zI k)] (st T nx 0 0 R M) Kn Kr = Kn [.ref (B + 544), .int (zI ia), .int (zI ib), .int (zI n0), .int (zI (1000 + P)), .int (zI (1000 + Qr)), .int (zI f), .int (zI k)] (st T nx 0 0 R M1) := by
      intro Kn Kr
      rw [e1]
      simp (disch := omega) only [↓k_mk, ↓k_sq, ↓k_sk, ↓k_bk, ↓k_if, ↓k_te, ↓k_cm, ↓k_cz, ↓k_an2, ↓k_or2, ↓k_no, ↓k_ci, ↓k_l0, ↓k_r0, ↓k_se0, ↓k_ic0, ↓k_l1, ↓k_r1, ↓k_se1, ↓k_ic1, ↓k_de1, ↓k_tk1, ↓k_l2, ↓k_r2, ↓k_se2, ↓k_ic2, ↓k_de2, ↓k_tk2, ↓k_l3, ↓k_r3, ↓k_se3, ↓k_ic3, ↓k_de3, ↓k_tk3, ↓k_l4, ↓k_r4, ↓k_se4, ↓k_ic4, ↓k_de4, ↓k_tk4, ↓k_l5, ↓k_r5, ↓k_se5, ↓k_ic5, ↓k_de5, ↓k_tk5, ↓k_l6, ↓k_r6, ↓k_se6, ↓k_ic6, ↓k_de6, ↓k_tk6, ↓k_l7, ↓k_r7, ↓k_se7, ↓k_ic7, ↓k_de7, ↓k_tk7, ↓k_l8, ↓k_r8, ↓k_se8, ↓k_ic8, ↓k_de8, ↓k_tk8, ↓k_l9, ↓k_r9, ↓k_se9, ↓k_ic9, ↓k_de9, ↓k_tk9, ↓k_l10, ↓k_r10, ↓k_se10, ↓k_ic10, ↓k_de10, ↓k_tk10, ↓k_l11, ↓k_r11, ↓k_se11, ↓k_ic11, ↓k_de11, ↓k_tk11, ↓k_l12, ↓k_r12, ↓k_se12, ↓k_ic12, ↓k_de12, ↓k_tk12, ↓k_l13, ↓k_r13, ↓k_se13, ↓k_ic13, ↓k_de13, ↓k_tk13, ↓k_l14, ↓k_r14, ↓k_se14, ↓k_ic14, ↓k_de14, ↓k_tk14, ↓k_l15, ↓k_r15, ↓k_se15, ↓k_ic15, ↓k_de15, ↓k_tk15, ↓k_l16, ↓k_r16, ↓k_se16, ↓k_ic16, ↓k_de16, ↓k_tk16, ↓k_l17, ↓k_r17, ↓k_se17, ↓k_ic17, ↓k_de17, ↓k_tk17, ↓k_l18, ↓k_r18, ↓k_se18, ↓k_ic18, ↓k_de18, ↓k_tk18, ↓k_l19, ↓k_r19, ↓k_se19, ↓k_ic19, ↓k_de19, ↓k_tk19, ↓k_l20, ↓k_r20, ↓k_se20, ↓k_ic20, ↓k_de20, ↓k_tk20, ↓k_l21, ↓k_r21, ↓k_se21, ↓k_ic21, ↓k_de21, ↓k_tk21, ↓k_l22, ↓k_r22, ↓k_se22, ↓k_ic22, ↓k_de22, ↓k_tk22, ↓k_l23, ↓k_r23, ↓k_se23, ↓k_ic23, ↓k_de23, ↓k_tk23, ↓k_l24, ↓k_r24, ↓k_se24, ↓k_ic24, ↓k_de24, ↓k_tk24, ↓k_l25, ↓k_r25, ↓k_se25, ↓k_ic25, ↓k_de25, ↓k_tk25, ↓k_k, ↓k_kn, ↓k_kl, ↓k_kln, ↓k_il, ↓k_2, ↓k_1, ↓k_2c, ↓k_2l, ↓k_ac, ↓k_an, ↓k_cs, ↓k_cv, ↓k_fi, ↓k_fr, ↓k_ai, ↓k_az, ↓k_ar, ↓k_sai, ↓k_saz, ↓k_soa, ↓k_sof, ↓k_spf, ↓k_sx, ↓k_blk, ↓k_sset, ↓k_sdec, ↓k_sri, ↓k_srv, ↓k_srr, ↓k_nop, ↓k_add, ↓k_sub, ↓k_mul, ↓k_min, ↓k_max, ↓k_shr, ↓k_shl, ↓k_or, ↓k_ilz, ↓k_addl, ↓k_rt, ↓k_rb, ↓k_rbz, ↓k_rsi, ↓k_rsr, ↓k_rsv, ↓reduceIte, m3, ↓(k_cv3 dX12_slotAt (t12 hM)), ↓c1', ↓xi12_114 hM, ↓xp12_114 hM, ↓xb12_114 hM, ↓xf12_114 hM, ↓xg12_114 hM, ↓xh12_114 hM, ↓xr12_115 hM, ↓xa12_115 hM, ↓xs12_115 hM, ↓xo12_115 hM, ↓xc12_115 hM, ↓xd12_115 hM, List.length_cons, List.length_nil, List.forall_mem_cons, List.not_mem_nil, Value.category, true_and, and_true, false_and, and_false, or_true, true_or, or_false, false_or, Nat.zero_le, forall_const, implies_true, false_implies, Nat.zero_add, Nat.reduceAdd, Nat.reduceLT, Nat.reduceLeDiff, Nat.le_refl, not_true_eq_false, not_false_eq_true, r_eq, r_ne, r_lt, r_ge, r_gt, r_le, bz_ne, nn_toNat, cn_of, cn_0, cn_1, i10, Int.reduceLE, Int.reduceLT, Int.reduceEq, bz_T, bz_F, ite_self, mulc, st_bud]
    have sB : ∀ (Kn : List Value → q_M → Prop) (Kr : Option Value → q_M → Prop), q_sai (q_fr 12 116 (q_r 0)) (q_fi 12 114 (q_r 0)) (q_cv q_oi 12 3 0 0 fX12_slotAt (q_r 0) (q_ac Value.int (q_l 2) (q_ac Value.int (q_2 q_gisub (q_l 5) (q_k 1000)) (q_ac Value.int (q_l 7) q_an)))) [.ref (B + 544), .int (zI ia), .int (zI ib), .int (zI n0), .int (zI (1000 + P)), .int (zI (1000 + Qr)), .int (zI f), .int (zI k)] (st T nx 0 0 R M1) Kn Kr = Kn [.ref (B + 544), .int (zI ia), .int (zI ib), .int (zI n0), .int (zI (1000 + P)), .int (zI (1000 + Qr)), .int (zI f), .int (zI k)] (st T nx 0 0 R M2) := by
      intro Kn Kr
      rw [e2]
      simp (disch := omega) only [↓k_mk, ↓k_sq, ↓k_sk, ↓k_bk, ↓k_if, ↓k_te, ↓k_cm, ↓k_cz, ↓k_an2, ↓k_or2, ↓k_no, ↓k_ci, ↓k_l0, ↓k_r0, ↓k_se0, ↓k_ic0, ↓k_l1, ↓k_r1, ↓k_se1, ↓k_ic1, ↓k_de1, ↓k_tk1, ↓k_l2, ↓k_r2, ↓k_se2, ↓k_ic2, ↓k_de2, ↓k_tk2, ↓k_l3, ↓k_r3, ↓k_se3, ↓k_ic3, ↓k_de3, ↓k_tk3, ↓k_l4, ↓k_r4, ↓k_se4, ↓k_ic4, ↓k_de4, ↓k_tk4, ↓k_l5, ↓k_r5, ↓k_se5, ↓k_ic5, ↓k_de5, ↓k_tk5, ↓k_l6, ↓k_r6, ↓k_se6, ↓k_ic6, ↓k_de6, ↓k_tk6, ↓k_l7, ↓k_r7, ↓k_se7, ↓k_ic7, ↓k_de7, ↓k_tk7, ↓k_l8, ↓k_r8, ↓k_se8, ↓k_ic8, ↓k_de8, ↓k_tk8, ↓k_l9, ↓k_r9, ↓k_se9, ↓k_ic9, ↓k_de9, ↓k_tk9, ↓k_l10, ↓k_r10, ↓k_se10, ↓k_ic10, ↓k_de10, ↓k_tk10, ↓k_l11, ↓k_r11, ↓k_se11, ↓k_ic11, ↓k_de11, ↓k_tk11, ↓k_l12, ↓k_r12, ↓k_se12, ↓k_ic12, ↓k_de12, ↓k_tk12, ↓k_l13, ↓k_r13, ↓k_se13, ↓k_ic13, ↓k_de13, ↓k_tk13, ↓k_l14, ↓k_r14, ↓k_se14, ↓k_ic14, ↓k_de14, ↓k_tk14, ↓k_l15, ↓k_r15, ↓k_se15, ↓k_ic15, ↓k_de15, ↓k_tk15, ↓k_l16, ↓k_r16, ↓k_se16, ↓k_ic16, ↓k_de16, ↓k_tk16, ↓k_l17, ↓k_r17, ↓k_se17, ↓k_ic17, ↓k_de17, ↓k_tk17, ↓k_l18, ↓k_r18, ↓k_se18, ↓k_ic18, ↓k_de18, ↓k_tk18, ↓k_l19, ↓k_r19, ↓k_se19, ↓k_ic19, ↓k_de19, ↓k_tk19, ↓k_l20, ↓k_r20, ↓k_se20, ↓k_ic20, ↓k_de20, ↓k_tk20, ↓k_l21, ↓k_r21, ↓k_se21, ↓k_ic21, ↓k_de21, ↓k_tk21, ↓k_l22, ↓k_r22, ↓k_se22, ↓k_ic22, ↓k_de22, ↓k_tk22, ↓k_l23, ↓k_r23, ↓k_se23, ↓k_ic23, ↓k_de23, ↓k_tk23, ↓k_l24, ↓k_r24, ↓k_se24, ↓k_ic24, ↓k_de24, ↓k_tk24, ↓k_l25, ↓k_r25, ↓k_se25, ↓k_ic25, ↓k_de25, ↓k_tk25, ↓k_k, ↓k_kn, ↓k_kl, ↓k_kln, ↓k_il, ↓k_2, ↓k_1, ↓k_2c, ↓k_2l, ↓k_ac, ↓k_an, ↓k_cs, ↓k_cv, ↓k_fi, ↓k_fr, ↓k_ai, ↓k_az, ↓k_ar, ↓k_sai, ↓k_saz, ↓k_soa, ↓k_sof, ↓k_spf, ↓k_sx, ↓k_blk, ↓k_sset, ↓k_sdec, ↓k_sri, ↓k_srv, ↓k_srr, ↓k_nop, ↓k_add, ↓k_sub, ↓k_mul, ↓k_min, ↓k_max, ↓k_shr, ↓k_shl, ↓k_or, ↓k_ilz, ↓k_addl, ↓k_rt, ↓k_rb, ↓k_rbz, ↓k_rsi, ↓k_rsr, ↓k_rsv, ↓reduceIte, h1, ↓(k_cv3 dX12_slotAt (t12 hM)), ↓c2', ↓xi12_114 hM, ↓xp12_114 hM, ↓xb12_114 hM, ↓xf12_114 hM, ↓xg12_114 hM, ↓xh12_114 hM, ↓xr12_116 hM, ↓xa12_116 hM, ↓xs12_116 hM, ↓xo12_116 hM, ↓xc12_116 hM, ↓xd12_116 hM, List.length_cons, List.length_nil, List.forall_mem_cons, List.not_mem_nil, Value.category, true_and, and_true, false_and, and_false, or_true, true_or, or_false, false_or, Nat.zero_le, forall_const, implies_true, false_implies, Nat.zero_add, Nat.reduceAdd, Nat.reduceLT, Nat.reduceLeDiff, Nat.le_refl, not_true_eq_false, not_false_eq_true, r_eq, r_ne, r_lt, r_ge, r_gt, r_le, bz_ne, nn_toNat, cn_of, cn_0, cn_1, i10, Int.reduceLE, Int.reduceLT, Int.reduceEq, bz_T, bz_F, ite_self, mulc, st_bud]
    have sC : ∀ (Kn : List Value → q_M → Prop) (Kr : Option Value → q_M → Prop), q_sof 12 114 q_giadd (q_r 0) (q_k 1) [.ref (B + 544), .int (zI ia), .int (zI ib), .int (zI n0), .int (zI (1000 + P)), .int (zI (1000 + Qr)), .int (zI f), .int (zI k)] (st T nx 0 0 R M2) Kn Kr = Kn [.ref (B + 544), .int (zI ia), .int (zI ib), .int (zI n0), .int (zI (1000 + P)), .int (zI (1000 + Qr)), .int (zI f), .int (zI k)] (st T nx 0 0 R M3) := by
      intro Kn Kr
      rw [e3]
      simp (disch := omega) only [↓k_mk, ↓k_sq, ↓k_sk, ↓k_bk, ↓k_if, ↓k_te, ↓k_cm, ↓k_cz, ↓k_an2, ↓k_or2, ↓k_no, ↓k_ci, ↓k_l0, ↓k_r0, ↓k_se0, ↓k_ic0, ↓k_l1, ↓k_r1, ↓k_se1, ↓k_ic1, ↓k_de1, ↓k_tk1, ↓k_l2, ↓k_r2, ↓k_se2, ↓k_ic2, ↓k_de2, ↓k_tk2, ↓k_l3, ↓k_r3, ↓k_se3, ↓k_ic3, ↓k_de3, ↓k_tk3, ↓k_l4, ↓k_r4, ↓k_se4, ↓k_ic4, ↓k_de4, ↓k_tk4, ↓k_l5, ↓k_r5, ↓k_se5, ↓k_ic5, ↓k_de5, ↓k_tk5, ↓k_l6, ↓k_r6, ↓k_se6, ↓k_ic6, ↓k_de6, ↓k_tk6, ↓k_l7, ↓k_r7, ↓k_se7, ↓k_ic7, ↓k_de7, ↓k_tk7, ↓k_l8, ↓k_r8, ↓k_se8, ↓k_ic8, ↓k_de8, ↓k_tk8, ↓k_l9, ↓k_r9, ↓k_se9, ↓k_ic9, ↓k_de9, ↓k_tk9, ↓k_l10, ↓k_r10, ↓k_se10, ↓k_ic10, ↓k_de10, ↓k_tk10, ↓k_l11, ↓k_r11, ↓k_se11, ↓k_ic11, ↓k_de11, ↓k_tk11, ↓k_l12, ↓k_r12, ↓k_se12, ↓k_ic12, ↓k_de12, ↓k_tk12, ↓k_l13, ↓k_r13, ↓k_se13, ↓k_ic13, ↓k_de13, ↓k_tk13, ↓k_l14, ↓k_r14, ↓k_se14, ↓k_ic14, ↓k_de14, ↓k_tk14, ↓k_l15, ↓k_r15, ↓k_se15, ↓k_ic15, ↓k_de15, ↓k_tk15, ↓k_l16, ↓k_r16, ↓k_se16, ↓k_ic16, ↓k_de16, ↓k_tk16, ↓k_l17, ↓k_r17, ↓k_se17, ↓k_ic17, ↓k_de17, ↓k_tk17, ↓k_l18, ↓k_r18, ↓k_se18, ↓k_ic18, ↓k_de18, ↓k_tk18, ↓k_l19, ↓k_r19, ↓k_se19, ↓k_ic19, ↓k_de19, ↓k_tk19, ↓k_l20, ↓k_r20, ↓k_se20, ↓k_ic20, ↓k_de20, ↓k_tk20, ↓k_l21, ↓k_r21, ↓k_se21, ↓k_ic21, ↓k_de21, ↓k_tk21, ↓k_l22, ↓k_r22, ↓k_se22, ↓k_ic22, ↓k_de22, ↓k_tk22, ↓k_l23, ↓k_r23, ↓k_se23, ↓k_ic23, ↓k_de23, ↓k_tk23, ↓k_l24, ↓k_r24, ↓k_se24, ↓k_ic24, ↓k_de24, ↓k_tk24, ↓k_l25, ↓k_r25, ↓k_se25, ↓k_ic25, ↓k_de25, ↓k_tk25, ↓k_k, ↓k_kn, ↓k_kl, ↓k_kln, ↓k_il, ↓k_2, ↓k_1, ↓k_2c, ↓k_2l, ↓k_ac, ↓k_an, ↓k_cs, ↓k_cv, ↓k_fi, ↓k_fr, ↓k_ai, ↓k_az, ↓k_ar, ↓k_sai, ↓k_saz, ↓k_soa, ↓k_sof, ↓k_spf, ↓k_sx, ↓k_blk, ↓k_sset, ↓k_sdec, ↓k_sri, ↓k_srv, ↓k_srr, ↓k_nop, ↓k_add, ↓k_sub, ↓k_mul, ↓k_min, ↓k_max, ↓k_shr, ↓k_shl, ↓k_or, ↓k_ilz, ↓k_addl, ↓k_rt, ↓k_rb, ↓k_rbz, ↓k_rsi, ↓k_rsr, ↓k_rsv, ↓reduceIte, h2, ↓xi12_114 hM, ↓xp12_114 hM, ↓xb12_114 hM, ↓xf12_114 hM, ↓xg12_114 hM, ↓xh12_114 hM, List.length_cons, List.length_nil, List.forall_mem_cons, List.not_mem_nil, Value.category, true_and, and_true, false_and, and_false, or_true, true_or, or_false, false_or, Nat.zero_le, forall_const, implies_true, false_implies, Nat.zero_add, Nat.reduceAdd, Nat.reduceLT, Nat.reduceLeDiff, Nat.le_refl, not_true_eq_false, not_false_eq_true, r_eq, r_ne, r_lt, r_ge, r_gt, r_le, bz_ne, nn_toNat, cn_of, cn_0, cn_1, i10, Int.reduceLE, Int.reduceLT, Int.reduceEq, bz_T, bz_F, ite_self, mulc, st_bud]
    have ms : ∀ j, M3 (B + 544 + 90) j = if j = W + k then x else M (B + 544 + 90) j := fun j => by rw [e3, gs_ne (by omega), e2, gs_ne (by omega), e1, gs_eq, fu_at]
    have mo : ∀ j, M3 (B + 544 + 91) j = if j = W + k then y else M (B + 544 + 91) j := fun j => by rw [e3, gs_ne (by omega), e2, gs_eq, fu_at, e1, gs_ne (by omega)]
    have om : ∀ z, ¬ z = (B + 544 + 90) → ¬ z = (B + 544 + 91) → ¬ z = B + 544 → M3 z = M z := fun z q1 q2 q3 => by rw [e3, gs_ne q3, e2, gs_ne q2, e1, gs_ne q1]
    refine ⟨M3, ⟨MCh_tr m1 ⟨fun z _ _ q1 q2 q3 => om z q1 q2 q3, fun j q => by rw [e3, gs_eq, fu_ne q, e2, gs_ne (by omega), e1, gs_ne (by omega)]⟩, fun j q => ?_, by rw [e3, gs_same]; omega, fun j q => ?_, by rw [om _ (by omega) (by omega) (by omega)]; exact m5, by rw [om _ (by omega) (by omega) (by omega)]; exact m6⟩, fun Kn Kf hk2 => ?_⟩
    · rw [ms, mo, if_neg (by omega), if_neg (by omega)]
      exact m2 j q
    · rw [ms, mo]
      by_cases z : j = k
      · subst z
        rw [if_pos rfl, if_pos rfl]
        exact ⟨hx, hy⟩
      · rw [if_neg (by omega), if_neg (by omega)]
        exact m4 j (by omega)
    · have cN := cn M m1
      clear inv cn m1 m2 m4
      simp (disch := omega) only [↓wcX12_fitsAt_2.eq_1, ↓wsX12_fitsAt_2.eq_1, ↓(k_cv1 dX12_slotsOf (t12 hM)), ↓(k_cv3 dX12_slotAt (t12 hM)), ↓k_mk, ↓k_sq, ↓k_sk, ↓k_bk, ↓k_if, ↓k_te, ↓k_cm, ↓k_cz, ↓k_an2, ↓k_or2, ↓k_no, ↓k_ci, ↓k_l0, ↓k_r0, ↓k_se0, ↓k_ic0, ↓k_l1, ↓k_r1, ↓k_se1, ↓k_ic1, ↓k_de1, ↓k_tk1, ↓k_l2, ↓k_r2, ↓k_se2, ↓k_ic2, ↓k_de2, ↓k_tk2, ↓k_l3, ↓k_r3, ↓k_se3, ↓k_ic3, ↓k_de3, ↓k_tk3, ↓k_l4, ↓k_r4, ↓k_se4, ↓k_ic4, ↓k_de4, ↓k_tk4, ↓k_l5, ↓k_r5, ↓k_se5, ↓k_ic5, ↓k_de5, ↓k_tk5, ↓k_l6, ↓k_r6, ↓k_se6, ↓k_ic6, ↓k_de6, ↓k_tk6, ↓k_l7, ↓k_r7, ↓k_se7, ↓k_ic7, ↓k_de7, ↓k_tk7, ↓k_l8, ↓k_r8, ↓k_se8, ↓k_ic8, ↓k_de8, ↓k_tk8, ↓k_l9, ↓k_r9, ↓k_se9, ↓k_ic9, ↓k_de9, ↓k_tk9, ↓k_l10, ↓k_r10, ↓k_se10, ↓k_ic10, ↓k_de10, ↓k_tk10, ↓k_l11, ↓k_r11, ↓k_se11, ↓k_ic11, ↓k_de11, ↓k_tk11, ↓k_l12, ↓k_r12, ↓k_se12, ↓k_ic12, ↓k_de12, ↓k_tk12, ↓k_l13, ↓k_r13, ↓k_se13, ↓k_ic13, ↓k_de13, ↓k_tk13, ↓k_l14, ↓k_r14, ↓k_se14, ↓k_ic14, ↓k_de14, ↓k_tk14, ↓k_l15, ↓k_r15, ↓k_se15, ↓k_ic15, ↓k_de15, ↓k_tk15, ↓k_l16, ↓k_r16, ↓k_se16, ↓k_ic16, ↓k_de16, ↓k_tk16, ↓k_l17, ↓k_r17, ↓k_se17, ↓k_ic17, ↓k_de17, ↓k_tk17, ↓k_l18, ↓k_r18, ↓k_se18, ↓k_ic18, ↓k_de18, ↓k_tk18, ↓k_l19, ↓k_r19, ↓k_se19, ↓k_ic19, ↓k_de19, ↓k_tk19, ↓k_l20, ↓k_r20, ↓k_se20, ↓k_ic20, ↓k_de20, ↓k_tk20, ↓k_l21, ↓k_r21, ↓k_se21, ↓k_ic21, ↓k_de21, ↓k_tk21, ↓k_l22, ↓k_r22, ↓k_se22, ↓k_ic22, ↓k_de22, ↓k_tk22, ↓k_l23, ↓k_r23, ↓k_se23, ↓k_ic23, ↓k_de23, ↓k_tk23, ↓k_l24, ↓k_r24, ↓k_se24, ↓k_ic24, ↓k_de24, ↓k_tk24, ↓k_l25, ↓k_r25, ↓k_se25, ↓k_ic25, ↓k_de25, ↓k_tk25, ↓k_k, ↓k_kn, ↓k_kl, ↓k_kln, ↓k_il, ↓k_2, ↓k_1, ↓k_2c, ↓k_2l, ↓k_ac, ↓k_an, ↓k_cs, ↓k_cv, ↓k_fi, ↓k_fr, ↓k_ai, ↓k_az, ↓k_ar, ↓k_saz, ↓k_soa, ↓k_spf, ↓k_sx, ↓k_blk, ↓k_sset, ↓k_sdec, ↓k_sri, ↓k_srv, ↓k_srr, ↓k_nop, ↓k_add, ↓k_sub, ↓k_mul, ↓k_min, ↓k_max, ↓k_shr, ↓k_shl, ↓k_or, ↓k_ilz, ↓k_addl, ↓k_rt, ↓k_rb, ↓k_rbz, ↓k_rsi, ↓k_rsr, ↓k_rsv, ↓reduceIte, ↓(k_cv1 dX12_slotsOf (t12 hM)), ↓cN, hz, ↓sA, ↓sB, ↓sC, List.length_cons, List.length_nil, List.forall_mem_cons, List.not_mem_nil, Value.category, true_and, and_true, false_and, and_false, or_true, true_or, or_false, false_or, Nat.zero_le, forall_const, implies_true, false_implies, Nat.zero_add, Nat.reduceAdd, Nat.reduceLT, Nat.reduceLeDiff, Nat.le_refl, not_true_eq_false, not_false_eq_true, r_eq, r_ne, r_lt, r_ge, r_gt, r_le, bz_ne, nn_toNat, cn_of, cn_0, cn_1, i10, Int.reduceLE, Int.reduceLT, Int.reduceEq, bz_T, bz_F, ite_self, mulc, st_bud]
      exact hk2) (fun M ⟨m1, _⟩ Kt Kf hk2 => by
    have cN := cn M m1
    have hz : ¬ N < N := by omega
    clear inv cn m1
    simp (disch := omega) only [↓wcX12_fitsAt_2.eq_1, ↓(k_cv1 dX12_slotsOf (t12 hM)), ↓k_mk, ↓k_sq, ↓k_sk, ↓k_bk, ↓k_if, ↓k_te, ↓k_cm, ↓k_cz, ↓k_an2, ↓k_or2, ↓k_no, ↓k_ci, ↓k_l0, ↓k_r0, ↓k_se0, ↓k_ic0, ↓k_l1, ↓k_r1, ↓k_se1, ↓k_ic1, ↓k_de1, ↓k_tk1, ↓k_l2, ↓k_r2, ↓k_se2, ↓k_ic2, ↓k_de2, ↓k_tk2, ↓k_l3, ↓k_r3, ↓k_se3, ↓k_ic3, ↓k_de3, ↓k_tk3, ↓k_l4, ↓k_r4, ↓k_se4, ↓k_ic4, ↓k_de4, ↓k_tk4, ↓k_l5, ↓k_r5, ↓k_se5, ↓k_ic5, ↓k_de5, ↓k_tk5, ↓k_l6, ↓k_r6, ↓k_se6, ↓k_ic6, ↓k_de6, ↓k_tk6, ↓k_l7, ↓k_r7, ↓k_se7, ↓k_ic7, ↓k_de7, ↓k_tk7, ↓k_l8, ↓k_r8, ↓k_se8, ↓k_ic8, ↓k_de8, ↓k_tk8, ↓k_l9, ↓k_r9, ↓k_se9, ↓k_ic9, ↓k_de9, ↓k_tk9, ↓k_l10, ↓k_r10, ↓k_se10, ↓k_ic10, ↓k_de10, ↓k_tk10, ↓k_l11, ↓k_r11, ↓k_se11, ↓k_ic11, ↓k_de11, ↓k_tk11, ↓k_l12, ↓k_r12, ↓k_se12, ↓k_ic12, ↓k_de12, ↓k_tk12, ↓k_l13, ↓k_r13, ↓k_se13, ↓k_ic13, ↓k_de13, ↓k_tk13, ↓k_l14, ↓k_r14, ↓k_se14, ↓k_ic14, ↓k_de14, ↓k_tk14, ↓k_l15, ↓k_r15, ↓k_se15, ↓k_ic15, ↓k_de15, ↓k_tk15, ↓k_l16, ↓k_r16, ↓k_se16, ↓k_ic16, ↓k_de16, ↓k_tk16, ↓k_l17, ↓k_r17, ↓k_se17, ↓k_ic17, ↓k_de17, ↓k_tk17, ↓k_l18, ↓k_r18, ↓k_se18, ↓k_ic18, ↓k_de18, ↓k_tk18, ↓k_l19, ↓k_r19, ↓k_se19, ↓k_ic19, ↓k_de19, ↓k_tk19, ↓k_l20, ↓k_r20, ↓k_se20, ↓k_ic20, ↓k_de20, ↓k_tk20, ↓k_l21, ↓k_r21, ↓k_se21, ↓k_ic21, ↓k_de21, ↓k_tk21, ↓k_l22, ↓k_r22, ↓k_se22, ↓k_ic22, ↓k_de22, ↓k_tk22, ↓k_l23, ↓k_r23, ↓k_se23, ↓k_ic23, ↓k_de23, ↓k_tk23, ↓k_l24, ↓k_r24, ↓k_se24, ↓k_ic24, ↓k_de24, ↓k_tk24, ↓k_l25, ↓k_r25, ↓k_se25, ↓k_ic25, ↓k_de25, ↓k_tk25, ↓k_k, ↓k_kn, ↓k_kl, ↓k_kln, ↓k_il, ↓k_2, ↓k_1, ↓k_2c, ↓k_2l, ↓k_ac, ↓k_an, ↓k_cs, ↓k_cv, ↓k_fi, ↓k_fr, ↓k_ai, ↓k_az, ↓k_ar, ↓k_sai, ↓k_saz, ↓k_soa, ↓k_sof, ↓k_spf, ↓k_sx, ↓k_blk, ↓k_sset, ↓k_sdec, ↓k_sri, ↓k_srv, ↓k_srr, ↓k_nop, ↓k_add, ↓k_sub, ↓k_mul, ↓k_min, ↓k_max, ↓k_shr, ↓k_shl, ↓k_or, ↓k_ilz, ↓k_addl, ↓k_rt, ↓k_rb, ↓k_rbz, ↓k_rsi, ↓k_rsr, ↓k_rsv, ↓reduceIte, ↓(k_cv1 dX12_slotsOf (t12 hM)), ↓cN, hz, List.length_cons, List.length_nil, List.forall_mem_cons, List.not_mem_nil, Value.category, true_and, and_true, false_and, and_false, or_true, true_or, or_false, false_or, Nat.zero_le, forall_const, implies_true, false_implies, Nat.zero_add, Nat.reduceAdd, Nat.reduceLT, Nat.reduceLeDiff, Nat.le_refl, not_true_eq_false, not_false_eq_true, r_eq, r_ne, r_lt, r_ge, r_gt, r_le, bz_ne, nn_toNat, cn_of, cn_0, cn_1, i10, Int.reduceLE, Int.reduceLT, Int.reduceEq, bz_T, bz_F, ite_self, mulc, st_bud]
    exact hk2)
  refine ⟨G', m1, m2, by rw [m3]; omega, fun j hj => m4 j (by omega), m5, m6, fun Kn Kr => ?_⟩
  have lw' := lw Kn Kr
  rw [show ((N.toNat : Nat) : Int) = N by omega] at lw'
  exact lw'
end
