section
/-! the reference looks whether a carried row stands -/
theorem c12_stands {T : Nat → Option q_T} {nx B : Nat} {R : Nat → Nat → Option Value} {G : Nat → Int → Int} {c : Int → Int} {n : Nat} (hM : Ly T R (B + 544) (L12 (B + 544))) (rwo : RWO G B c n) (l0 : 1000 ≤ c 0) (ib : ∀ f i, 0 ≤ f → f < G (tvA B 1) 1 → 0 ≤ i → i < G (tvA B 1 + 5) f → 0 ≤ G (tvA B 1 + 6) (5 * f + i) ∧ G (tvA B 1 + 6) (5 * f + i) ≤ 65) :
    ∃ y : Int, ((y = 1 ∧ ∀ q : Nat, q < n → SQ (G (tvA B 1 + 5)) (G (tvA B 1 + 2)) (G (tvA B 1 + 6)) c q) ∨ (y = 0 ∧ ¬ ∀ q : Nat, q < n → SQ (G (tvA B 1 + 5)) (G (tvA B 1 + 2)) (G (tvA B 1 + 6)) c q)) ∧ ∀ K : Option Value → q_M → Prop, fX12_stands [.ref (B + 544), .int (zI 92)] (st T nx 0 0 R G) K = K (some (.int (zI y))) (st T nx 0 0 R G) := by
  have rwo' := rwo
  obtain ⟨hF, pr, d0, n201, bs, N40, hcd⟩ := rwo'
  have wd := Wd_of pr d0 n201
  have n1 := wd.1
  have form : ∀ p : Nat, p < n → 1000 ≤ c p → G (B + 544 + 19) (40 * 92 + nb c p) = c p - 1000 := fun p hp l => by
    obtain ⟨t, ht, _⟩ := tg_some (Pre_le pr (show p ≤ n by omega)) (pr.1 p hp)
    exact ((bs.2.2 p hp t ht).1 l).1
  have fAt : ∀ (p : Nat) (K : Option Value → q_M → Prop), p < n → 1000 ≤ c p → fX12_formAt [.ref (B + 544), .int (zI 92), .int (zI (nb c p))] (st T nx 0 0 R G) K = K (some (.int (zI (14 * 1 + (c p - 1000))))) (st T nx 0 0 R G) := fun p K hp l => by
    have a := nb_b c p
    have b := nb_lt c hp l
    exact c12_formAtV (T := T) (nx := nx) (rc := 0) (rs := 0) (R := R) (G := G) (i := 92) (n := nb c p) (v := 1) (f := c p - 1000) (K := K) hM (by omega) (by omega) a.1 (by omega) bs.1 (form p hp l)
  -- the root
  have z0 : c ((0 : Nat) : Int) = c 0 := rfl
  have hc0 := hcd 0 (by omega)
  rw [z0] at hc0
  obtain ⟨f0, hf0⟩ : ∃ f0, f0 = c 0 - 1000 := ⟨_, rfl⟩
  have fr0 := (hF 1 (by omega) (by omega)).2.2.2 f0 (by omega) (by
    have : f0 < G (tvA B 1) 1 := by rw [hf0]; exact hc0.2.2 l0
    exact this)
  obtain ⟨so, hso⟩ : ∃ so, so = G (tvA B 1 + 2) f0 := ⟨_, rfl⟩
  have sob : 0 ≤ so ∧ so ≤ 5 := by rw [hso]; exact fr0.1.2
  obtain ⟨F0, hF0⟩ : ∃ F0, F0 = 14 * 1 + f0 := ⟨_, rfl⟩
  have es : G (B + 544 + 3) F0 = so := by rw [hF0, hso]; exact fr0.1.1
  have cR : ∀ K : Option Value → q_M → Prop, fX12_formAt [.ref (B + 544), .int (zI 92), .int (zI 0)] (st T nx 0 0 R G) K = K (some (.int (zI F0))) (st T nx 0 0 R G) := fun K => by
    rw [hF0, hf0]
    exact fAt 0 K (by omega) l0
  have sq0 : SQ (G (tvA B 1 + 5)) (G (tvA B 1 + 2)) (G (tvA B 1 + 6)) c 0 ↔ so = 0 := by
    unfold SQ
    rw [z0, ← hf0, ← hso]
    exact ⟨fun z => z l0 60 rfl, fun z _ it hi => by
      have hi : some (60 : Int) = some it := hi
      injection hi with hi
      omega⟩
  have F0b : 14 ≤ F0 ∧ F0 < 28 := by omega
  obtain ⟨N, hN⟩ : ∃ N, N = nb c n := ⟨_, rfl⟩
  have eN : G (B + 544 + 17) 92 = N := by rw [bs.2.1, hN]
  rw [← hN] at N40
  obtain ⟨v0, hv0, hd⟩ : ∃ v0 : Int, ((v0 = 1 ∧ SQ (G (tvA B 1 + 5)) (G (tvA B 1 + 2)) (G (tvA B 1 + 6)) c 0) ∨ (v0 = 0 ∧ ¬ SQ (G (tvA B 1 + 5)) (G (tvA B 1 + 2)) (G (tvA B 1 + 6)) c 0)) ∧ (∀ (Kn : List Value → q_M → Prop) (Kr : Option Value → q_M → Prop), q_sdec Value.int 2 (q_te (q_cz q_Req (q_ai (q_fr 12 2 (q_r 0)) (q_cv q_oi 12 2 0 0 fX12_formAt (q_r 0) (q_ac Value.int (q_l 1) (q_ac Value.int (q_k 0) q_an))))) (q_k 1) (q_k 0)) [.ref (B + 544), .int (zI 92)] (st T nx 0 0 R G) Kn Kr = Kn [.ref (B + 544), .int (zI 92), .int (zI v0)] (st T nx 0 0 R G)) := by
    by_cases s0 : so = 0
    · refine ⟨1, Or.inl ⟨rfl, sq0.mpr s0⟩, fun Kn Kr => ?_⟩
      clear sq0 fAt form wd bs pr hF hcd rwo fr0 hc0
      simp (disch := omega) only [↓k_mk, ↓k_sq, ↓k_sk, ↓k_bk, ↓k_if, ↓k_te, ↓k_cm, ↓k_cz, ↓k_an2, ↓k_or2, ↓k_no, ↓k_ci, ↓k_l0, ↓k_r0, ↓k_se0, ↓k_ic0, ↓k_l1, ↓k_r1, ↓k_se1, ↓k_ic1, ↓k_de1, ↓k_tk1, ↓k_l2, ↓k_r2, ↓k_se2, ↓k_ic2, ↓k_de2, ↓k_tk2, ↓k_l3, ↓k_r3, ↓k_se3, ↓k_ic3, ↓k_de3, ↓k_tk3, ↓k_l4, ↓k_r4, ↓k_se4, ↓k_ic4, ↓k_de4, ↓k_tk4, ↓k_l5, ↓k_r5, ↓k_se5, ↓k_ic5, ↓k_de5, ↓k_tk5, ↓k_l6, ↓k_r6, ↓k_se6, ↓k_ic6, ↓k_de6, ↓k_tk6, ↓k_l7, ↓k_r7, ↓k_se7, ↓k_ic7, ↓k_de7, ↓k_tk7, ↓k_l8, ↓k_r8, ↓k_se8, ↓k_ic8, ↓k_de8, ↓k_tk8, ↓k_l9, ↓k_r9, ↓k_se9, ↓k_ic9, ↓k_de9, ↓k_tk9, ↓k_l10, ↓k_r10, ↓k_se10, ↓k_ic10, ↓k_de10, ↓k_tk10, ↓k_l11, ↓k_r11, ↓k_se11, ↓k_ic11, ↓k_de11, ↓k_tk11, ↓k_l12, ↓k_r12, ↓k_se12, ↓k_ic12, ↓k_de12, ↓k_tk12, ↓k_l13, ↓k_r13, ↓k_se13, ↓k_ic13, ↓k_de13, ↓k_tk13, ↓k_l14, ↓k_r14, ↓k_se14, ↓k_ic14, ↓k_de14, ↓k_tk14, ↓k_l15, ↓k_r15, ↓k_se15, ↓k_ic15, ↓k_de15, ↓k_tk15, ↓k_l16, ↓k_r16, ↓k_se16, ↓k_ic16, ↓k_de16, ↓k_tk16, ↓k_l17, ↓k_r17, ↓k_se17, ↓k_ic17, ↓k_de17, ↓k_tk17, ↓k_l18, ↓k_r18, ↓k_se18, ↓k_ic18, ↓k_de18, ↓k_tk18, ↓k_l19, ↓k_r19, ↓k_se19, ↓k_ic19, ↓k_de19, ↓k_tk19, ↓k_l20, ↓k_r20, ↓k_se20, ↓k_ic20, ↓k_de20, ↓k_tk20, ↓k_l21, ↓k_r21, ↓k_se21, ↓k_ic21, ↓k_de21, ↓k_tk21, ↓k_l22, ↓k_r22, ↓k_se22, ↓k_ic22, ↓k_de22, ↓k_tk22, ↓k_l23, ↓k_r23, ↓k_se23, ↓k_ic23, ↓k_de23, ↓k_tk23, ↓k_l24, ↓k_r24, ↓k_se24, ↓k_ic24, ↓k_de24, ↓k_tk24, ↓k_l25, ↓k_r25, ↓k_se25, ↓k_ic25, ↓k_de25, ↓k_tk25, ↓k_k, ↓k_kn, ↓k_kl, ↓k_kln, ↓k_il, ↓k_2, ↓k_1, ↓k_2c, ↓k_2l, ↓k_ac, ↓k_an, ↓k_cs, ↓k_cv, ↓k_fi, ↓k_fr, ↓k_ai, ↓k_az, ↓k_ar, ↓k_sai, ↓k_saz, ↓k_soa, ↓k_sof, ↓k_spf, ↓k_sx, ↓k_blk, ↓k_sset, ↓k_sdec, ↓k_sri, ↓k_srv, ↓k_srr, ↓k_nop, ↓k_add, ↓k_sub, ↓k_mul, ↓k_min, ↓k_max, ↓k_shr, ↓k_shl, ↓k_or, ↓k_ilz, ↓k_addl, ↓k_rt, ↓k_rb, ↓k_rbz, ↓k_rsi, ↓k_rsr, ↓k_rsv, ↓reduceIte, ↓(k_cv2 dX12_formAt (t12 hM)), ↓cR, es, s0, eq_self, ↓xr12_2 hM, ↓xa12_2 hM, ↓xs12_2 hM, ↓xo12_2 hM, ↓xc12_2 hM, ↓xd12_2 hM, List.length_cons, List.length_nil, List.forall_mem_cons, List.not_mem_nil, Value.category, true_and, and_true, false_and, and_false, or_true, true_or, or_false, false_or, Nat.zero_le, forall_const, implies_true, false_implies, Nat.zero_add, Nat.reduceAdd, Nat.reduceLT, Nat.reduceLeDiff, Nat.le_refl, not_true_eq_false, not_false_eq_true, r_eq, r_ne, r_lt, r_ge, r_gt, r_le, bz_ne, nn_toNat, cn_of, cn_0, cn_1, i10, Int.reduceLE, Int.reduceLT, Int.reduceEq, bz_T, bz_F, ite_self, mulc, st_bud]
    · refine ⟨0, Or.inr ⟨rfl, fun z => s0 (sq0.mp z)⟩, fun Kn Kr => ?_⟩
      clear sq0 fAt form wd bs pr hF hcd rwo fr0 hc0
      simp (disch := omega) only [↓k_mk, ↓k_sq, ↓k_sk, ↓k_bk, ↓k_if, ↓k_te, ↓k_cm, ↓k_cz, ↓k_an2, ↓k_or2, ↓k_no, ↓k_ci, ↓k_l0, ↓k_r0, ↓k_se0, ↓k_ic0, ↓k_l1, ↓k_r1, ↓k_se1, ↓k_ic1, ↓k_de1, ↓k_tk1, ↓k_l2, ↓k_r2, ↓k_se2, ↓k_ic2, ↓k_de2, ↓k_tk2, ↓k_l3, ↓k_r3, ↓k_se3, ↓k_ic3, ↓k_de3, ↓k_tk3, ↓k_l4, ↓k_r4, ↓k_se4, ↓k_ic4, ↓k_de4, ↓k_tk4, ↓k_l5, ↓k_r5, ↓k_se5, ↓k_ic5, ↓k_de5, ↓k_tk5, ↓k_l6, ↓k_r6, ↓k_se6, ↓k_ic6, ↓k_de6, ↓k_tk6, ↓k_l7, ↓k_r7, ↓k_se7, ↓k_ic7, ↓k_de7, ↓k_tk7, ↓k_l8, ↓k_r8, ↓k_se8, ↓k_ic8, ↓k_de8, ↓k_tk8, ↓k_l9, ↓k_r9, ↓k_se9, ↓k_ic9, ↓k_de9, ↓k_tk9, ↓k_l10, ↓k_r10, ↓k_se10, ↓k_ic10, ↓k_de10, ↓k_tk10, ↓k_l11, ↓k_r11, ↓k_se11, ↓k_ic11, ↓k_de11, ↓k_tk11, ↓k_l12, ↓k_r12, ↓k_se12, ↓k_ic12, ↓k_de12, ↓k_tk12, ↓k_l13, ↓k_r13, ↓k_se13, ↓k_ic13, ↓k_de13, ↓k_tk13, ↓k_l14, ↓k_r14, ↓k_se14, ↓k_ic14, ↓k_de14, ↓k_tk14, ↓k_l15, ↓k_r15, ↓k_se15, ↓k_ic15, ↓k_de15, ↓k_tk15, ↓k_l16, ↓k_r16, ↓k_se16, ↓k_ic16, ↓k_de16, ↓k_tk16, ↓k_l17, ↓k_r17, ↓k_se17, ↓k_ic17, ↓k_de17, ↓k_tk17, ↓k_l18, ↓k_r18, ↓k_se18, ↓k_ic18, ↓k_de18, ↓k_tk18, ↓k_l19, ↓k_r19, ↓k_se19, ↓k_ic19, ↓k_de19, ↓k_tk19, ↓k_l20, ↓k_r20, ↓k_se20, ↓k_ic20, ↓k_de20, ↓k_tk20, ↓k_l21, ↓k_r21, ↓k_se21, ↓k_ic21, ↓k_de21, ↓k_tk21, ↓k_l22, ↓k_r22, ↓k_se22, ↓k_ic22, ↓k_de22, ↓k_tk22, ↓k_l23, ↓k_r23, ↓k_se23, ↓k_ic23, ↓k_de23, ↓k_tk23, ↓k_l24, ↓k_r24, ↓k_se24, ↓k_ic24, ↓k_de24, ↓k_tk24, ↓k_l25, ↓k_r25, ↓k_se25, ↓k_ic25, ↓k_de25, ↓k_tk25, ↓k_k, ↓k_kn, ↓k_kl, ↓k_kln, ↓k_il, ↓k_2, ↓k_1, ↓k_2c, ↓k_2l, ↓k_ac, ↓k_an, ↓k_cs, ↓k_cv, ↓k_fi, ↓k_fr, ↓k_ai, ↓k_az, ↓k_ar, ↓k_sai, ↓k_saz, ↓k_soa, ↓k_sof, ↓k_spf, ↓k_sx, ↓k_blk, ↓k_sset, ↓k_sdec, ↓k_sri, ↓k_srv, ↓k_srr, ↓k_nop, ↓k_add, ↓k_sub, ↓k_mul, ↓k_min, ↓k_max, ↓k_shr, ↓k_shl, ↓k_or, ↓k_ilz, ↓k_addl, ↓k_rt, ↓k_rb, ↓k_rbz, ↓k_rsi, ↓k_rsr, ↓k_rsv, ↓reduceIte, ↓(k_cv2 dX12_formAt (t12 hM)), ↓cR, es, s0, ↓xr12_2 hM, ↓xa12_2 hM, ↓xs12_2 hM, ↓xo12_2 hM, ↓xc12_2 hM, ↓xd12_2 hM, List.length_cons, List.length_nil, List.forall_mem_cons, List.not_mem_nil, Value.category, true_and, and_true, false_and, and_false, or_true, true_or, or_false, false_or, Nat.zero_le, forall_const, implies_true, false_implies, Nat.zero_add, Nat.reduceAdd, Nat.reduceLT, Nat.reduceLeDiff, Nat.le_refl, not_true_eq_false, not_false_eq_true, r_eq, r_ne, r_lt, r_ge, r_gt, r_le, bz_ne, nn_toNat, cn_of, cn_0, cn_1, i10, Int.reduceLE, Int.reduceLT, Int.reduceEq, bz_T, bz_F, ite_self, mulc, st_bud]
  have key : ∀ m : Nat, (m : Int) ≤ N → ∃ v : Int, ((v = 1 ∧ SQ (G (tvA B 1 + 5)) (G (tvA B 1 + 2)) (G (tvA B 1 + 6)) c 0 ∧ ∀ q : Nat, 0 < q → q < n → nb c (uU (G (tvA B 1 + 5)) c q).toNat < m → SQ (G (tvA B 1 + 5)) (G (tvA B 1 + 2)) (G (tvA B 1 + 6)) c q) ∨ (v = 0 ∧ ¬ (SQ (G (tvA B 1 + 5)) (G (tvA B 1 + 2)) (G (tvA B 1 + 6)) c 0 ∧ ∀ q : Nat, 0 < q → q < n → nb c (uU (G (tvA B 1 + 5)) c q).toNat < m → SQ (G (tvA B 1 + 5)) (G (tvA B 1 + 2)) (G (tvA B 1 + 6)) c q))) ∧ ∀ (Kn : List Value → q_M → Prop) (Kr : Option Value → q_M → Prop), q_wh wcX12_stands_0 wsX12_stands_0 [.ref (B + 544), .int (zI 92), .int (zI v), .int (zI m)] (st T nx 0 0 R G) Kn Kr → q_wh wcX12_stands_0 wsX12_stands_0 [.ref (B + 544), .int (zI 92), .int (zI v0), .int (zI 0)] (st T nx 0 0 R G) Kn Kr := by
    intro m
    induction m with
    | zero =>
      intro _
      refine ⟨v0, hv0.imp (fun z => ⟨z.1, z.2, fun q q0 q1 q2 => ?_⟩) (fun z => ⟨z.1, fun y => z.2 y.1⟩), fun Kn Kr z => z⟩
      have := nb_b c (uU (G (tvA B 1 + 5)) c q).toNat
      omega
    | succ m ih =>
      intro hm
      obtain ⟨v, hv, st1⟩ := ih (by omega)
      obtain ⟨p, p0, p1, lp, np⟩ := nb_find c n m (by omega) (by omega)
      obtain ⟨v', hv', lw⟩ := st_in (T := T) (nx := nx) (R := R) hM rwo p0 p1 lp ib hv
      have cF := fun K : Option Value → q_M → Prop => fAt p.toNat K (by omega) (by rw [Int.toNat_of_nonneg p0]; exact lp)
      rw [np, Int.toNat_of_nonneg p0] at cF
      rw [np] at lw
      obtain ⟨F, hFF⟩ : ∃ F, F = 14 * 1 + (c p - 1000) := ⟨_, rfl⟩
      obtain ⟨e, he⟩ : ∃ e, e = G (tvA B 1 + 5) (c p - 1000) := ⟨_, rfl⟩
      rw [← hFF] at cF lw
      rw [← he] at lw
      have same : (∀ q : Nat, 0 < q → q < n → nb c (uU (G (tvA B 1 + 5)) c q).toNat < (m + 1 : Nat) → SQ (G (tvA B 1 + 5)) (G (tvA B 1 + 2)) (G (tvA B 1 + 6)) c q) ↔ (∀ q : Nat, 0 < q → q < n → nb c (uU (G (tvA B 1 + 5)) c q).toNat < m → SQ (G (tvA B 1 + 5)) (G (tvA B 1 + 2)) (G (tvA B 1 + 6)) c q) ∧ ∀ q : Nat, 0 < q → q < n → uU (G (tvA B 1 + 5)) c q = p → SQ (G (tvA B 1 + 5)) (G (tvA B 1 + 2)) (G (tvA B 1 + 6)) c q := by
        refine ⟨fun a => ⟨fun q q0 q1 q2 => a q q0 q1 (by omega), fun q q0 q1 q2 => a q q0 q1 (by rw [q2, np]; omega)⟩, fun ⟨a1, a2⟩ q q0 q1 q2 => ?_⟩
        by_cases z : nb c (uU (G (tvA B 1 + 5)) c q).toNat < m
        · exact a1 q q0 q1 z
        · obtain ⟨u0, u1, _, _, u2, _⟩ := uU_f wd (p := q) (by omega) (by omega)
          refine a2 q q0 q1 ?_
          have em : nb c (uU (G (tvA B 1 + 5)) c q).toNat = m := by omega
          by_cases g1 : uU (G (tvA B 1 + 5)) c q < p
          · have := nbi_lt c u0 g1 u2
            omega
          · by_cases g2 : p < uU (G (tvA B 1 + 5)) c q
            · have := nbi_lt c p0 g2 lp
              omega
            · omega
      refine ⟨v', ?_, fun Kn Kr hh => st1 Kn Kr (q_backR (fun K Kf hk2 => ?_) hh)⟩
      · rcases hv' with ⟨z1, ⟨z2, z4⟩, z3⟩ | ⟨z1, z2⟩
        · exact Or.inl ⟨z1, z2, same.mpr ⟨z4, z3⟩⟩
        · exact Or.inr ⟨z1, fun y => z2 ⟨⟨y.1, (same.mp y.2).1⟩, (same.mp y.2).2⟩⟩
      · rw [show ((m + 1 : Nat) : Int) = (m : Int) + 1 by omega] at hk2
        have hz : (m : Int) < N := by omega
        clear same hv hv' st1 ih hv0 hd sq0 fAt form wd bs pr hF hcd rwo fr0 hc0 ib cR es
        simp (disch := omega) only [↓wcX12_stands_0.eq_1, ↓wsX12_stands_0.eq_1, ↓(k_cv2 dX12_formAt (t12 hM)), ↓k_mk, ↓k_sq, ↓k_sk, ↓k_bk, ↓k_if, ↓k_te, ↓k_cm, ↓k_cz, ↓k_an2, ↓k_or2, ↓k_no, ↓k_ci, ↓k_l0, ↓k_r0, ↓k_se0, ↓k_ic0, ↓k_l1, ↓k_r1, ↓k_se1, ↓k_ic1, ↓k_de1, ↓k_tk1, ↓k_l2, ↓k_r2, ↓k_se2, ↓k_ic2, ↓k_de2, ↓k_tk2, ↓k_l3, ↓k_r3, ↓k_se3, ↓k_ic3, ↓k_de3, ↓k_tk3, ↓k_l4, ↓k_r4, ↓k_se4, ↓k_ic4, ↓k_de4, ↓k_tk4, ↓k_l5, ↓k_r5, ↓k_se5, ↓k_ic5, ↓k_de5, ↓k_tk5, ↓k_l6, ↓k_r6, ↓k_se6, ↓k_ic6, ↓k_de6, ↓k_tk6, ↓k_l7, ↓k_r7, ↓k_se7, ↓k_ic7, ↓k_de7, ↓k_tk7, ↓k_l8, ↓k_r8, ↓k_se8, ↓k_ic8, ↓k_de8, ↓k_tk8, ↓k_l9, ↓k_r9, ↓k_se9, ↓k_ic9, ↓k_de9, ↓k_tk9, ↓k_l10, ↓k_r10, ↓k_se10, ↓k_ic10, ↓k_de10, ↓k_tk10, ↓k_l11, ↓k_r11, ↓k_se11, ↓k_ic11, ↓k_de11, ↓k_tk11, ↓k_l12, ↓k_r12, ↓k_se12, ↓k_ic12, ↓k_de12, ↓k_tk12, ↓k_l13, ↓k_r13, ↓k_se13, ↓k_ic13, ↓k_de13, ↓k_tk13, ↓k_l14, ↓k_r14, ↓k_se14, ↓k_ic14, ↓k_de14, ↓k_tk14, ↓k_l15, ↓k_r15, ↓k_se15, ↓k_ic15, ↓k_de15, ↓k_tk15, ↓k_l16, ↓k_r16, ↓k_se16, ↓k_ic16, ↓k_de16, ↓k_tk16, ↓k_l17, ↓k_r17, ↓k_se17, ↓k_ic17, ↓k_de17, ↓k_tk17, ↓k_l18, ↓k_r18, ↓k_se18, ↓k_ic18, ↓k_de18, ↓k_tk18, ↓k_l19, ↓k_r19, ↓k_se19, ↓k_ic19, ↓k_de19, ↓k_tk19, ↓k_l20, ↓k_r20, ↓k_se20, ↓k_ic20, ↓k_de20, ↓k_tk20, ↓k_l21, ↓k_r21, ↓k_se21, ↓k_ic21, ↓k_de21, ↓k_tk21, ↓k_l22, ↓k_r22, ↓k_se22, ↓k_ic22, ↓k_de22, ↓k_tk22, ↓k_l23, ↓k_r23, ↓k_se23, ↓k_ic23, ↓k_de23, ↓k_tk23, ↓k_l24, ↓k_r24, ↓k_se24, ↓k_ic24, ↓k_de24, ↓k_tk24, ↓k_l25, ↓k_r25, ↓k_se25, ↓k_ic25, ↓k_de25, ↓k_tk25, ↓k_k, ↓k_kn, ↓k_kl, ↓k_kln, ↓k_il, ↓k_2, ↓k_1, ↓k_2c, ↓k_2l, ↓k_ac, ↓k_an, ↓k_cs, ↓k_cv, ↓k_fi, ↓k_fr, ↓k_ai, ↓k_az, ↓k_ar, ↓k_sai, ↓k_saz, ↓k_soa, ↓k_sof, ↓k_spf, ↓k_sx, ↓k_blk, ↓k_sset, ↓k_sdec, ↓k_sri, ↓k_srv, ↓k_srr, ↓k_nop, ↓k_add, ↓k_sub, ↓k_mul, ↓k_min, ↓k_max, ↓k_shr, ↓k_shl, ↓k_or, ↓k_ilz, ↓k_addl, ↓k_rt, ↓k_rb, ↓k_rbz, ↓k_rsi, ↓k_rsr, ↓k_rsv, ↓reduceIte, eN, hz, ↓(k_cv2 dX12_formAt (t12 hM)), ↓cF, ↓lw, ↓xr12_16 hM, ↓xa12_16 hM, ↓xs12_16 hM, ↓xo12_16 hM, ↓xc12_16 hM, ↓xd12_16 hM, List.length_cons, List.length_nil, List.forall_mem_cons, List.not_mem_nil, Value.category, true_and, and_true, false_and, and_false, or_true, true_or, or_false, false_or, Nat.zero_le, forall_const, implies_true, false_implies, Nat.zero_add, Nat.reduceAdd, Nat.reduceLT, Nat.reduceLeDiff, Nat.le_refl, not_true_eq_false, not_false_eq_true, r_eq, r_ne, r_lt, r_ge, r_gt, r_le, bz_ne, nn_toNat, cn_of, cn_0, cn_1, i10, Int.reduceLE, Int.reduceLT, Int.reduceEq, bz_T, bz_F, ite_self, mulc, st_bud]
        exact hk2
  obtain ⟨v, hv, st1⟩ := key N.toNat (by omega)
  have all : (SQ (G (tvA B 1 + 5)) (G (tvA B 1 + 2)) (G (tvA B 1 + 6)) c 0 ∧ ∀ q : Nat, 0 < q → q < n → nb c (uU (G (tvA B 1 + 5)) c q).toNat < N.toNat → SQ (G (tvA B 1 + 5)) (G (tvA B 1 + 2)) (G (tvA B 1 + 6)) c q) ↔ ∀ q : Nat, q < n → SQ (G (tvA B 1 + 5)) (G (tvA B 1 + 2)) (G (tvA B 1 + 6)) c q := by
    refine ⟨fun ⟨a1, a2⟩ q hq => ?_, fun a => ⟨a 0 (by omega), fun q _ q1 _ => a q q1⟩⟩
    by_cases e : q = 0
    · subst e
      exact a1
    · obtain ⟨u0, u1, _, _, u2, _⟩ := uU_f wd (p := q) (by omega) (by omega)
      have := nbi_lt c u0 (show uU (G (tvA B 1 + 5)) c q < n by omega) u2
      rw [Int.toNat_natCast] at this
      exact a2 q (by omega) hq (by omega)
  rw [all] at hv
  refine ⟨v, hv, fun K => ?_⟩
  have lw : ∀ (Kn : List Value → q_M → Prop) (Kr : Option Value → q_M → Prop), wX12_stands_0 [.ref (B + 544), .int (zI 92), .int (zI v0), .int (zI 0)] (st T nx 0 0 R G) Kn Kr = Kn [.ref (B + 544), .int (zI 92), .int (zI v), .int (zI (N.toNat : Nat))] (st T nx 0 0 R G) := eX12_stands_0.eqn (st1 _ _ (q_outR (fun Kt Kf hk => by
    have ez : ((N.toNat : Nat) : Int) = N := by omega
    rw [ez]
    have hz : ¬ N < N := by omega
    clear all hv st1 key hv0 hd sq0 fAt form wd bs pr hF hcd rwo fr0 hc0 ib cR es
    simp (disch := omega) only [↓wcX12_stands_0.eq_1, ↓k_mk, ↓k_sq, ↓k_sk, ↓k_bk, ↓k_if, ↓k_te, ↓k_cm, ↓k_cz, ↓k_an2, ↓k_or2, ↓k_no, ↓k_ci, ↓k_l0, ↓k_r0, ↓k_se0, ↓k_ic0, ↓k_l1, ↓k_r1, ↓k_se1, ↓k_ic1, ↓k_de1, ↓k_tk1, ↓k_l2, ↓k_r2, ↓k_se2, ↓k_ic2, ↓k_de2, ↓k_tk2, ↓k_l3, ↓k_r3, ↓k_se3, ↓k_ic3, ↓k_de3, ↓k_tk3, ↓k_l4, ↓k_r4, ↓k_se4, ↓k_ic4, ↓k_de4, ↓k_tk4, ↓k_l5, ↓k_r5, ↓k_se5, ↓k_ic5, ↓k_de5, ↓k_tk5, ↓k_l6, ↓k_r6, ↓k_se6, ↓k_ic6, ↓k_de6, ↓k_tk6, ↓k_l7, ↓k_r7, ↓k_se7, ↓k_ic7, ↓k_de7, ↓k_tk7, ↓k_l8, ↓k_r8, ↓k_se8, ↓k_ic8, ↓k_de8, ↓k_tk8, ↓k_l9, ↓k_r9, ↓k_se9, ↓k_ic9, ↓k_de9, ↓k_tk9, ↓k_l10, ↓k_r10, ↓k_se10, ↓k_ic10, ↓k_de10, ↓k_tk10, ↓k_l11, ↓k_r11, ↓k_se11, ↓k_ic11, ↓k_de11, ↓k_tk11, ↓k_l12, ↓k_r12, ↓k_se12, ↓k_ic12, ↓k_de12, ↓k_tk12, ↓k_l13, ↓k_r13, ↓k_se13, ↓k_ic13, ↓k_de13, ↓k_tk13, ↓k_l14, ↓k_r14, ↓k_se14, ↓k_ic14, ↓k_de14, ↓k_tk14, ↓k_l15, ↓k_r15, ↓k_se15, ↓k_ic15, ↓k_de15, ↓k_tk15, ↓k_l16, ↓k_r16, ↓k_se16, ↓k_ic16, ↓k_de16, ↓k_tk16, ↓k_l17, ↓k_r17, ↓k_se17, ↓k_ic17, ↓k_de17, ↓k_tk17, ↓k_l18, ↓k_r18, ↓k_se18, ↓k_ic18, ↓k_de18, ↓k_tk18, ↓k_l19, ↓k_r19, ↓k_se19, ↓k_ic19, ↓k_de19, ↓k_tk19, ↓k_l20, ↓k_r20, ↓k_se20, ↓k_ic20, ↓k_de20, ↓k_tk20, ↓k_l21, ↓k_r21, ↓k_se21, ↓k_ic21, ↓k_de21, ↓k_tk21, ↓k_l22, ↓k_r22, ↓k_se22, ↓k_ic22, ↓k_de22, ↓k_tk22, ↓k_l23, ↓k_r23, ↓k_se23, ↓k_ic23, ↓k_de23, ↓k_tk23, ↓k_l24, ↓k_r24, ↓k_se24, ↓k_ic24, ↓k_de24, ↓k_tk24, ↓k_l25, ↓k_r25, ↓k_se25, ↓k_ic25, ↓k_de25, ↓k_tk25, ↓k_k, ↓k_kn, ↓k_kl, ↓k_kln, ↓k_il, ↓k_2, ↓k_1, ↓k_2c, ↓k_2l, ↓k_ac, ↓k_an, ↓k_cs, ↓k_cv, ↓k_fi, ↓k_fr, ↓k_ai, ↓k_az, ↓k_ar, ↓k_sai, ↓k_saz, ↓k_soa, ↓k_sof, ↓k_spf, ↓k_sx, ↓k_blk, ↓k_sset, ↓k_sdec, ↓k_sri, ↓k_srv, ↓k_srr, ↓k_nop, ↓k_add, ↓k_sub, ↓k_mul, ↓k_min, ↓k_max, ↓k_shr, ↓k_shl, ↓k_or, ↓k_ilz, ↓k_addl, ↓k_rt, ↓k_rb, ↓k_rbz, ↓k_rsi, ↓k_rsr, ↓k_rsv, ↓reduceIte, eN, hz, ↓xr12_16 hM, ↓xa12_16 hM, ↓xs12_16 hM, ↓xo12_16 hM, ↓xc12_16 hM, ↓xd12_16 hM, List.length_cons, List.length_nil, List.forall_mem_cons, List.not_mem_nil, Value.category, true_and, and_true, false_and, and_false, or_true, true_or, or_false, false_or, Nat.zero_le, forall_const, implies_true, false_implies, Nat.zero_add, Nat.reduceAdd, Nat.reduceLT, Nat.reduceLeDiff, Nat.le_refl, not_true_eq_false, not_false_eq_true, r_eq, r_ne, r_lt, r_ge, r_gt, r_le, bz_ne, nn_toNat, cn_of, cn_0, cn_1, i10, Int.reduceLE, Int.reduceLT, Int.reduceEq, bz_T, bz_F, ite_self, mulc, st_bud]
    exact hk) ⟨rfl, rfl⟩))
  have vb : v = 0 ∨ v = 1 := by omega
  clear all hv st1 key hv0 sq0 fAt form wd bs pr hF hcd rwo fr0 hc0 ib cR es
  rcases vb with z | z
  · subst z
    simp (disch := omega) only [↓fX12_stands.eq_1, ↓uX12_stands, ↓k_mk, ↓k_sq, ↓k_sk, ↓k_bk, ↓k_if, ↓k_te, ↓k_cm, ↓k_cz, ↓k_an2, ↓k_or2, ↓k_no, ↓k_ci, ↓k_l0, ↓k_r0, ↓k_se0, ↓k_ic0, ↓k_l1, ↓k_r1, ↓k_se1, ↓k_ic1, ↓k_de1, ↓k_tk1, ↓k_l2, ↓k_r2, ↓k_se2, ↓k_ic2, ↓k_de2, ↓k_tk2, ↓k_l3, ↓k_r3, ↓k_se3, ↓k_ic3, ↓k_de3, ↓k_tk3, ↓k_l4, ↓k_r4, ↓k_se4, ↓k_ic4, ↓k_de4, ↓k_tk4, ↓k_l5, ↓k_r5, ↓k_se5, ↓k_ic5, ↓k_de5, ↓k_tk5, ↓k_l6, ↓k_r6, ↓k_se6, ↓k_ic6, ↓k_de6, ↓k_tk6, ↓k_l7, ↓k_r7, ↓k_se7, ↓k_ic7, ↓k_de7, ↓k_tk7, ↓k_l8, ↓k_r8, ↓k_se8, ↓k_ic8, ↓k_de8, ↓k_tk8, ↓k_l9, ↓k_r9, ↓k_se9, ↓k_ic9, ↓k_de9, ↓k_tk9, ↓k_l10, ↓k_r10, ↓k_se10, ↓k_ic10, ↓k_de10, ↓k_tk10, ↓k_l11, ↓k_r11, ↓k_se11, ↓k_ic11, ↓k_de11, ↓k_tk11, ↓k_l12, ↓k_r12, ↓k_se12, ↓k_ic12, ↓k_de12, ↓k_tk12, ↓k_l13, ↓k_r13, ↓k_se13, ↓k_ic13, ↓k_de13, ↓k_tk13, ↓k_l14, ↓k_r14, ↓k_se14, ↓k_ic14, ↓k_de14, ↓k_tk14, ↓k_l15, ↓k_r15, ↓k_se15, ↓k_ic15, ↓k_de15, ↓k_tk15, ↓k_l16, ↓k_r16, ↓k_se16, ↓k_ic16, ↓k_de16, ↓k_tk16, ↓k_l17, ↓k_r17, ↓k_se17, ↓k_ic17, ↓k_de17, ↓k_tk17, ↓k_l18, ↓k_r18, ↓k_se18, ↓k_ic18, ↓k_de18, ↓k_tk18, ↓k_l19, ↓k_r19, ↓k_se19, ↓k_ic19, ↓k_de19, ↓k_tk19, ↓k_l20, ↓k_r20, ↓k_se20, ↓k_ic20, ↓k_de20, ↓k_tk20, ↓k_l21, ↓k_r21, ↓k_se21, ↓k_ic21, ↓k_de21, ↓k_tk21, ↓k_l22, ↓k_r22, ↓k_se22, ↓k_ic22, ↓k_de22, ↓k_tk22, ↓k_l23, ↓k_r23, ↓k_se23, ↓k_ic23, ↓k_de23, ↓k_tk23, ↓k_l24, ↓k_r24, ↓k_se24, ↓k_ic24, ↓k_de24, ↓k_tk24, ↓k_l25, ↓k_r25, ↓k_se25, ↓k_ic25, ↓k_de25, ↓k_tk25, ↓k_k, ↓k_kn, ↓k_kl, ↓k_kln, ↓k_il, ↓k_2, ↓k_1, ↓k_2c, ↓k_2l, ↓k_ac, ↓k_an, ↓k_cs, ↓k_cv, ↓k_fi, ↓k_fr, ↓k_ai, ↓k_az, ↓k_ar, ↓k_sai, ↓k_saz, ↓k_soa, ↓k_sof, ↓k_spf, ↓k_sx, ↓k_blk, ↓k_sset, ↓k_sri, ↓k_srv, ↓k_srr, ↓k_nop, ↓k_add, ↓k_sub, ↓k_mul, ↓k_min, ↓k_max, ↓k_shr, ↓k_shl, ↓k_or, ↓k_ilz, ↓k_addl, ↓k_rt, ↓k_rb, ↓k_rbz, ↓k_rsi, ↓k_rsr, ↓k_rsv, ↓reduceIte, ↓hd, ↓(k_sdec Value.int 3), ↓lw, eq_self, List.length_cons, List.length_nil, List.forall_mem_cons, List.not_mem_nil, Value.category, true_and, and_true, false_and, and_false, or_true, true_or, or_false, false_or, Nat.zero_le, forall_const, implies_true, false_implies, Nat.zero_add, Nat.reduceAdd, Nat.reduceLT, Nat.reduceLeDiff, Nat.le_refl, not_true_eq_false, not_false_eq_true, r_eq, r_ne, r_lt, r_ge, r_gt, r_le, bz_ne, nn_toNat, cn_of, cn_0, cn_1, i10, Int.reduceLE, Int.reduceLT, Int.reduceEq, bz_T, bz_F, ite_self, mulc, st_bud]
  · subst z
    simp (disch := omega) only [↓fX12_stands.eq_1, ↓uX12_stands, ↓k_mk, ↓k_sq, ↓k_sk, ↓k_bk, ↓k_if, ↓k_te, ↓k_cm, ↓k_cz, ↓k_an2, ↓k_or2, ↓k_no, ↓k_ci, ↓k_l0, ↓k_r0, ↓k_se0, ↓k_ic0, ↓k_l1, ↓k_r1, ↓k_se1, ↓k_ic1, ↓k_de1, ↓k_tk1, ↓k_l2, ↓k_r2, ↓k_se2, ↓k_ic2, ↓k_de2, ↓k_tk2, ↓k_l3, ↓k_r3, ↓k_se3, ↓k_ic3, ↓k_de3, ↓k_tk3, ↓k_l4, ↓k_r4, ↓k_se4, ↓k_ic4, ↓k_de4, ↓k_tk4, ↓k_l5, ↓k_r5, ↓k_se5, ↓k_ic5, ↓k_de5, ↓k_tk5, ↓k_l6, ↓k_r6, ↓k_se6, ↓k_ic6, ↓k_de6, ↓k_tk6, ↓k_l7, ↓k_r7, ↓k_se7, ↓k_ic7, ↓k_de7, ↓k_tk7, ↓k_l8, ↓k_r8, ↓k_se8, ↓k_ic8, ↓k_de8, ↓k_tk8, ↓k_l9, ↓k_r9, ↓k_se9, ↓k_ic9, ↓k_de9, ↓k_tk9, ↓k_l10, ↓k_r10, ↓k_se10, ↓k_ic10, ↓k_de10, ↓k_tk10, ↓k_l11, ↓k_r11, ↓k_se11, ↓k_ic11, ↓k_de11, ↓k_tk11, ↓k_l12, ↓k_r12, ↓k_se12, ↓k_ic12, ↓k_de12, ↓k_tk12, ↓k_l13, ↓k_r13, ↓k_se13, ↓k_ic13, ↓k_de13, ↓k_tk13, ↓k_l14, ↓k_r14, ↓k_se14, ↓k_ic14, ↓k_de14, ↓k_tk14, ↓k_l15, ↓k_r15, ↓k_se15, ↓k_ic15, ↓k_de15, ↓k_tk15, ↓k_l16, ↓k_r16, ↓k_se16, ↓k_ic16, ↓k_de16, ↓k_tk16, ↓k_l17, ↓k_r17, ↓k_se17, ↓k_ic17, ↓k_de17, ↓k_tk17, ↓k_l18, ↓k_r18, ↓k_se18, ↓k_ic18, ↓k_de18, ↓k_tk18, ↓k_l19, ↓k_r19, ↓k_se19, ↓k_ic19, ↓k_de19, ↓k_tk19, ↓k_l20, ↓k_r20, ↓k_se20, ↓k_ic20, ↓k_de20, ↓k_tk20, ↓k_l21, ↓k_r21, ↓k_se21, ↓k_ic21, ↓k_de21, ↓k_tk21, ↓k_l22, ↓k_r22, ↓k_se22, ↓k_ic22, ↓k_de22, ↓k_tk22, ↓k_l23, ↓k_r23, ↓k_se23, ↓k_ic23, ↓k_de23, ↓k_tk23, ↓k_l24, ↓k_r24, ↓k_se24, ↓k_ic24, ↓k_de24, ↓k_tk24, ↓k_l25, ↓k_r25, ↓k_se25, ↓k_ic25, ↓k_de25, ↓k_tk25, ↓k_k, ↓k_kn, ↓k_kl, ↓k_kln, ↓k_il, ↓k_2, ↓k_1, ↓k_2c, ↓k_2l, ↓k_ac, ↓k_an, ↓k_cs, ↓k_cv, ↓k_fi, ↓k_fr, ↓k_ai, ↓k_az, ↓k_ar, ↓k_sai, ↓k_saz, ↓k_soa, ↓k_sof, ↓k_spf, ↓k_sx, ↓k_blk, ↓k_sset, ↓k_sri, ↓k_srv, ↓k_srr, ↓k_nop, ↓k_add, ↓k_sub, ↓k_mul, ↓k_min, ↓k_max, ↓k_shr, ↓k_shl, ↓k_or, ↓k_ilz, ↓k_addl, ↓k_rt, ↓k_rb, ↓k_rbz, ↓k_rsi, ↓k_rsr, ↓k_rsv, ↓reduceIte, ↓hd, ↓(k_sdec Value.int 3), ↓lw, eq_self, List.length_cons, List.length_nil, List.forall_mem_cons, List.not_mem_nil, Value.category, true_and, and_true, false_and, and_false, or_true, true_or, or_false, false_or, Nat.zero_le, forall_const, implies_true, false_implies, Nat.zero_add, Nat.reduceAdd, Nat.reduceLT, Nat.reduceLeDiff, Nat.le_refl, not_true_eq_false, not_false_eq_true, r_eq, r_ne, r_lt, r_ge, r_gt, r_le, bz_ne, nn_toNat, cn_of, cn_0, cn_1, i10, Int.reduceLE, Int.reduceLT, Int.reduceEq, bz_T, bz_F, ite_self, mulc, st_bud]
end
