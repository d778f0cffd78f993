section
/-! kept: the class asks whether a way is open -/
theorem gdiv12 : ∀ j : Fin 12, q_gidiv (zI (j.val : Int)) 2 = zI ((j.val / 2 : Nat) : Int) ∧ q_girem (zI (j.val : Int)) 2 = zI ((j.val % 2 : Nat) : Int) ∧ q_gixor (zI (j.val : Int)) (zI 1) = zI ((if j.val % 2 = 0 then j.val + 1 else j.val - 1 : Nat) : Int) := by decide +kernel
theorem k_div12 {env : List Value} {μ : q_M} {K : Int32 → q_M → Prop} {i j : Nat} (hj : j < 12) (h : env[i]? = some (.int (zI (j : Int)))) : q_2d q_gidiv (q_l i) (q_k 2) env μ K = K (zI ((j / 2 : Nat) : Int)) μ := by
  have e := (gdiv12 ⟨j, hj⟩).1
  have e : q_gidiv (zI (j : Int)) 2 = zI ((j / 2 : Nat) : Int) := e
  refine propext ⟨fun ⟨x, a, b, d⟩ => ?_, fun k => ⟨_, h, by decide, by rw [e]; exact k⟩⟩
  rw [h] at a
  injection a with a
  injection a with a
  rw [← a, e] at d
  exact d
theorem k_rem12 {env : List Value} {μ : q_M} {K : Int32 → q_M → Prop} {i j : Nat} (hj : j < 12) (h : env[i]? = some (.int (zI (j : Int)))) : q_2d q_girem (q_l i) (q_k 2) env μ K = K (zI ((j % 2 : Nat) : Int)) μ := by
  have e := (gdiv12 ⟨j, hj⟩).2.1
  have e : q_girem (zI (j : Int)) 2 = zI ((j % 2 : Nat) : Int) := e
  refine propext ⟨fun ⟨x, a, b, d⟩ => ?_, fun k => ⟨_, h, by decide, by rw [e]; exact k⟩⟩
  rw [h] at a
  injection a with a
  injection a with a
  rw [← a, e] at d
  exact d
def jxN (j : Nat) : Nat := if j % 2 = 0 then j + 1 else j - 1
theorem k_xor12 {μ : q_M} {K : Int32 → q_M → Prop} {j : Nat} (hj : j < 12) : opK (q_gixor (zI (j : Int)) (zI 1)) μ K = K (zI (jxN j : Nat)) μ := by
  have e := (gdiv12 ⟨j, hj⟩).2.2
  have e : q_gixor (zI (j : Int)) (zI 1) = zI ((jxN j : Nat) : Int) := e
  rw [e]
  rfl
/-- the sets of holes are alike iff none is lost -/
theorem hs_sub {c0 c1 : Int → Int} {n0 n1 : Nat} (tie : ∀ p, 0 ≤ p → p < (n1 : Int) → 200 ≤ c1 p → c1 p < 1000 → ∃ q, 0 ≤ q ∧ q < (n0 : Int) ∧ c0 q = c1 p) (l0 : ∀ q, 0 ≤ q → q < (n0 : Int) → 200 ≤ c0 q → c0 q < 1000 → c0 q ≤ 215) : hsN c0 n0 = hsN c1 n1 ↔ ∀ y, 0 ≤ y → y < (n0 : Int) → isHo (c0 y) → ∃ p', 0 ≤ p' ∧ p' < (n1 : Int) ∧ c1 p' = c0 y := by
  constructor
  · intro e y y0 y1 hh
    have b : (hsN c0 n0).testBit (c0 y - 200).toNat = true := by
      rw [hsN_t]
      unfold isHo at hh
      have := l0 y y0 y1 hh.1 hh.2
      refine ⟨by omega, y.toNat, by omega, ?_⟩
      rw [Int.toNat_of_nonneg y0]
      omega
    rw [e, hsN_t] at b
    obtain ⟨_, q, q1, q2⟩ := b
    refine ⟨q, by omega, by omega, ?_⟩
    rw [q2]
    unfold isHo at hh
    have := l0 y y0 y1 hh.1 hh.2
    omega
  · intro h
    refine Nat.eq_of_testBit_eq fun i => ?_
    rw [Bool.eq_iff_iff, hsN_t, hsN_t]
    constructor
    · intro ⟨a, q, q1, q2⟩
      obtain ⟨p', z0, z1, z2⟩ := h q (by omega) (by omega) (by unfold isHo; omega)
      refine ⟨a, p'.toNat, by omega, ?_⟩
      rw [Int.toNat_of_nonneg z0, z2, q2]
    · intro ⟨a, q, q1, q2⟩
      obtain ⟨p', z0, z1, z2⟩ := tie q (by omega) (by omega) (by omega) (by omega)
      refine ⟨a, p'.toNat, by omega, ?_⟩
      rw [Int.toNat_of_nonneg z0, z2, q2]
def kOpen (G0 : Nat → Int → Int) (B : Nat) (v : Int) (j : Nat) : Prop := (G0 (B + 60) ((j / 2 : Nat) : Int) = 1 ∧ G0 (B + 61) ((j / 2 : Nat) : Int) = 1 ∧ G0 (B + 250 + 20 * (j / 2)) 1 = v) ∧ (j % 2 = 0 ∨ kSub G0 B (j / 2))
theorem c10_isWay {T : Nat → Option q_T} {nx B j : Nat} {R : Nat → Nat → Option Value} {G0 G : Nat → Int → Int} {v : Int} (oT : Ly T R (B + 59) (L10 (B + 59))) (oS : ∀ k : Nat, k < 12 → Ly T R (B + 250 + 10 * k) (L9 (B + 250 + 10 * k))) (hF : IFm G0 B) (iRe : IRe G0 B) (kc : KC G0 G B) (hj : j < 12) (kv : 0 ≤ v ∧ v ≤ 1) :
    ∃ y : Int, ((y = 1 ∧ kOpen G0 B v j) ∨ (y = 0 ∧ ¬ kOpen G0 B v j)) ∧ ∀ K : Option Value → q_M → Prop, fX10_isWay [.ref (B + 59), .int (zI j), .int (zI v)] (st T nx 0 0 R G) K = K (some (.int (zI y))) (st T nx 0 0 R G) := by
  have hd : ∀ (e : List Value) (μ : q_M) (K : Int32 → q_M → Prop), q_2d q_gidiv (q_l 1) (q_k 2) (.ref (B + 59) :: .int (zI (j : Int)) :: e) μ K = K (zI ((j / 2 : Nat) : Int)) μ := fun e μ K => k_div12 hj rfl
  have hr : ∀ (e : List Value) (μ : q_M) (K : Int32 → q_M → Prop), q_2d q_girem (q_l 1) (q_k 2) (.ref (B + 59) :: .int (zI (j : Int)) :: e) μ K = K (zI ((j % 2 : Nat) : Int)) μ := fun e μ K => k_rem12 hj rfl
  unfold kOpen
  obtain ⟨l, hl⟩ : ∃ l, l = j / 2 := ⟨_, rfl⟩
  rw [← hl] at hd ⊢
  have l6 : l < 6 := by omega
  have lI : 0 ≤ (l : Int) ∧ (l : Int) < 6 := by omega
  have e60 : G (B + 60) = G0 (B + 60) := kc.1 _ (by omega) (by omega) (by omega)
  have e61 : G (B + 61) = G0 (B + 61) := kc.1 _ (by omega) (by omega) (by omega)
  have one : ¬ (1 : Int) = 0 := by omega
  have zn := iRe.2.2 l (by omega) (by omega)
  rw [Int.toNat_natCast] at zn
  obtain ⟨t, ht⟩ : ∃ t, t = G0 (B + 60) (l : Int) := ⟨_, rfl⟩
  have g60 : G (B + 60) (l : Int) = t := by rw [e60, ht]
  by_cases th : t = 1
  · obtain ⟨v', x1, x2, ta, tz, aN, tt, ⟨_, law0, law1⟩, _, ca, cz, la, lz, tie⟩ := turn_ok hF iRe (k := (l : Int)) ⟨⟨by omega, by omega⟩, by rw [← ht]; exact th⟩
    have e20 : B + 250 + 20 * (l : Int).toNat = B + 250 + 20 * l := by omega
    have e21 : B + 260 + 20 * (l : Int).toNat = B + 260 + 20 * l := by omega
    rw [e20] at x1 ta aN ca la tie
    rw [e21] at tz cz lz tie
    obtain ⟨w, hw⟩ : ∃ w, w = G0 (B + 61) (l : Int) := ⟨_, rfl⟩
    have g61 : G (B + 61) (l : Int) = w := by rw [e61, hw]
    rw [← hw] at law0 law1 ⊢
    rw [← ht, x1]
    have y1' : G (B + 250 + 20 * l) 1 = v' := by rw [kc.1 _ (by omega) (by omega) (by omega)]; exact x1
    have cS0 := fun (K : Option Value → q_M → Prop) => c10_side (T := T) (nx := nx) (rc := 0) (rs := 0) (R := R) (G := G) (k := (l : Int)) (w := 0) (K := K) oT (by omega) (by omega) (by omega) (by omega)
    have cS1 := fun (K : Option Value → q_M → Prop) => c10_side (T := T) (nx := nx) (rc := 0) (rs := 0) (R := R) (G := G) (k := (l : Int)) (w := 1) (K := K) oT (by omega) (by omega) (by omega) (by omega)
    simp only [show B + 59 + 191 + 10 * ((l : Int) * 2 + 0).toNat = B + 250 + 20 * l by omega] at cS0
    simp only [show B + 59 + 191 + 10 * ((l : Int) * 2 + 1).toNat = B + 260 + 20 * l by omega] at cS1
    have o0 : Ly T R (B + 250 + 20 * l) (L9 (B + 250 + 20 * l)) := by
      have := oS (2 * l) (by omega)
      rw [show B + 250 + 10 * (2 * l) = B + 250 + 20 * l by omega] at this
      exact this
    have o1 : Ly T R (B + 260 + 20 * l) (L9 (B + 260 + 20 * l)) := by
      have := oS (2 * l + 1) (by omega)
      rw [show B + 250 + 10 * (2 * l + 1) = B + 260 + 20 * l by omega] at this
      exact this
    have nA := ta.2.2.2.1.1
    have nZ := tz.2.2.2.1.1
    have f0 : G (B + 250 + 20 * l) = G0 (B + 250 + 20 * l) := kc.1 _ (by omega) (by omega) (by omega)
    have f1 : G (B + 250 + 20 * l + 1) = G0 (B + 250 + 20 * l + 1) := kc.1 _ (by omega) (by omega) (by omega)
    have f2 : G (B + 260 + 20 * l) = G0 (B + 260 + 20 * l) := kc.1 _ (by omega) (by omega) (by omega)
    have f3 : G (B + 260 + 20 * l + 1) = G0 (B + 260 + 20 * l + 1) := kc.1 _ (by omega) (by omega) (by omega)
    obtain ⟨n0, hn0⟩ : ∃ n0 : Nat, G0 (B + 250 + 20 * l) 2 = (n0 : Int) := ⟨(G0 (B + 250 + 20 * l) 2).toNat, by have := nA.1; omega⟩
    obtain ⟨n1, hn1⟩ : ∃ n1 : Nat, G0 (B + 260 + 20 * l) 2 = (n1 : Int) := ⟨(G0 (B + 260 + 20 * l) 2).toNat, by have := nZ.1; omega⟩
    rw [hn0] at nA ca la tie
    rw [hn1] at nZ cz lz tie
    have h0 := fun (K : Option Value → q_M → Prop) => c10_holesIn (T := T) (nx := nx) (R := R) (G := G) (n := n0) o0 (by rw [f0]; exact hn0) (by have := nA.2.1; omega) (by rw [f1]; exact ca) K
    have h1 := fun (K : Option Value → q_M → Prop) => c10_holesIn (T := T) (nx := nx) (R := R) (G := G) (n := n1) o1 (by rw [f2]; exact hn1) (by have := nZ.2.1; omega) (by rw [f3]; exact cz) K
    rw [f1] at h0
    rw [f3] at h1
    have sub := hs_sub (c0 := G0 (B + 250 + 20 * l + 1)) (c1 := G0 (B + 260 + 20 * l + 1)) (n0 := n0) (n1 := n1) tie.1 (fun q q0 q1 q2 q3 => by
      have := la q q0 q1 (by omega)
      unfold isLf at this
      omega)
    have ks : kSub G0 B l ↔ hsN (G0 (B + 250 + 20 * l + 1)) n0 = hsN (G0 (B + 260 + 20 * l + 1)) n1 := by
      unfold kSub
      rw [hn0, hn1]
      exact sub.symm
    rw [ks]
    have b0 := hsN_b (G0 (B + 250 + 20 * l + 1)) n0
    have b1 := hsN_b (G0 (B + 260 + 20 * l + 1)) n1
    obtain ⟨S0, hS0⟩ : ∃ S0, S0 = hsN (G0 (B + 250 + 20 * l + 1)) n0 := ⟨_, rfl⟩
    obtain ⟨S1, hS1⟩ : ∃ S1, S1 = hsN (G0 (B + 260 + 20 * l + 1)) n1 := ⟨_, rfl⟩
    rw [← hS0] at h0 b0 ⊢
    rw [← hS1] at h1 b1 ⊢
    obtain ⟨r, hrr⟩ : ∃ r, r = j % 2 := ⟨_, rfl⟩
    rw [← hrr] at hr ⊢
    have r2 : 0 ≤ (r : Int) ∧ (r : Int) < 2 := by omega
    have t1 := th
    subst t1
    have bI : 0 ≤ (S0 : Int) ∧ (S0 : Int) < 65536 ∧ 0 ≤ (S1 : Int) ∧ (S1 : Int) < 65536 := by omega
    clear sub ks tie ca cz la lz ta tz nA nZ hS0 hS1 hrr hF iRe kc f0 f1 f2 f3 oS
    by_cases w1 : w = 1
    · by_cases vv : v' = v
      · subst vv
        subst w1
        by_cases r0 : (r : Int) = 0
        · refine ⟨1, Or.inl ⟨rfl, ⟨rfl, rfl, rfl⟩, Or.inl (by omega)⟩, fun K => ?_⟩
          simp (disch := omega) only [↓fX10_isWay.eq_1, ↓sX10_isWay_.eq_1, ↓(k_cs1 dX10_holesIn), ↓(k_cv2 dX10_side (t10 oT)), ↓k_mk, ↓k_sq, ↓k_sk, ↓k_bk, ↓k_if, ↓k_te, ↓k_cm, ↓k_cz, ↓k_an2, ↓k_or2, ↓k_no, ↓k_ci, ↓k_l0, ↓k_r0, ↓k_se0, ↓k_ic0, ↓k_l1, ↓k_r1, ↓k_se1, ↓k_ic1, ↓k_de1, ↓k_tk1, ↓k_l2, ↓k_r2, ↓k_se2, ↓k_ic2, ↓k_de2, ↓k_tk2, ↓k_l3, ↓k_r3, ↓k_se3, ↓k_ic3, ↓k_de3, ↓k_tk3, ↓k_l4, ↓k_r4, ↓k_se4, ↓k_ic4, ↓k_de4, ↓k_tk4, ↓k_l5, ↓k_r5, ↓k_se5, ↓k_ic5, ↓k_de5, ↓k_tk5, ↓k_l6, ↓k_r6, ↓k_se6, ↓k_ic6, ↓k_de6, ↓k_tk6, ↓k_l7, ↓k_r7, ↓k_se7, ↓k_ic7, ↓k_de7, ↓k_tk7, ↓k_l8, ↓k_r8, ↓k_se8, ↓k_ic8, ↓k_de8, ↓k_tk8, ↓k_l9, ↓k_r9, ↓k_se9, ↓k_ic9, ↓k_de9, ↓k_tk9, ↓k_l10, ↓k_r10, ↓k_se10, ↓k_ic10, ↓k_de10, ↓k_tk10, ↓k_l11, ↓k_r11, ↓k_se11, ↓k_ic11, ↓k_de11, ↓k_tk11, ↓k_l12, ↓k_r12, ↓k_se12, ↓k_ic12, ↓k_de12, ↓k_tk12, ↓k_l13, ↓k_r13, ↓k_se13, ↓k_ic13, ↓k_de13, ↓k_tk13, ↓k_l14, ↓k_r14, ↓k_se14, ↓k_ic14, ↓k_de14, ↓k_tk14, ↓k_l15, ↓k_r15, ↓k_se15, ↓k_ic15, ↓k_de15, ↓k_tk15, ↓k_l16, ↓k_r16, ↓k_se16, ↓k_ic16, ↓k_de16, ↓k_tk16, ↓k_l17, ↓k_r17, ↓k_se17, ↓k_ic17, ↓k_de17, ↓k_tk17, ↓k_l18, ↓k_r18, ↓k_se18, ↓k_ic18, ↓k_de18, ↓k_tk18, ↓k_l19, ↓k_r19, ↓k_se19, ↓k_ic19, ↓k_de19, ↓k_tk19, ↓k_l20, ↓k_r20, ↓k_se20, ↓k_ic20, ↓k_de20, ↓k_tk20, ↓k_l21, ↓k_r21, ↓k_se21, ↓k_ic21, ↓k_de21, ↓k_tk21, ↓k_l22, ↓k_r22, ↓k_se22, ↓k_ic22, ↓k_de22, ↓k_tk22, ↓k_l23, ↓k_r23, ↓k_se23, ↓k_ic23, ↓k_de23, ↓k_tk23, ↓k_l24, ↓k_r24, ↓k_se24, ↓k_ic24, ↓k_de24, ↓k_tk24, ↓k_l25, ↓k_r25, ↓k_se25, ↓k_ic25, ↓k_de25, ↓k_tk25, ↓k_k, ↓k_kn, ↓k_kl, ↓k_kln, ↓k_il, ↓k_2, ↓k_1, ↓k_2c, ↓k_2l, ↓k_ac, ↓k_an, ↓k_cs, ↓k_cv, ↓k_fi, ↓k_fr, ↓k_ai, ↓k_az, ↓k_ar, ↓k_sai, ↓k_saz, ↓k_soa, ↓k_sof, ↓k_spf, ↓k_sx, ↓k_blk, ↓k_sset, ↓k_sdec, ↓k_sri, ↓k_srv, ↓k_srr, ↓k_nop, ↓k_add, ↓k_sub, ↓k_mul, ↓k_min, ↓k_max, ↓k_shr, ↓k_shl, ↓k_or, ↓k_ilz, ↓k_addl, ↓k_rt, ↓k_rb, ↓k_rbz, ↓k_rsi, ↓k_rsr, ↓k_rsv, ↓reduceIte, hd, hr, g60, g61, y1', one, r0, eq_self, ↓(k_cv2 dX10_side (t10 oT)), ↓cS0, ↓cS1, ↓xr10_2 oT, ↓xa10_2 oT, ↓xs10_2 oT, ↓xr10_3 oT, ↓xa10_3 oT, ↓xs10_3 oT, ↓xi9_1 o0, ↓xp9_1 o0, ↓xb9_1 o0, ↓xf9_1 o0, ↓xg9_1 o0, ↓xh9_1 o0, List.length_cons, List.length_nil, List.forall_mem_cons, List.not_mem_nil, Value.category, true_and, and_true, false_and, and_false, or_true, true_or, or_false, false_or, Nat.zero_le, forall_const, implies_true, false_implies, Nat.zero_add, Nat.reduceAdd, Nat.reduceLT, Nat.reduceLeDiff, Nat.le_refl, not_true_eq_false, not_false_eq_true, r_eq, r_ne, r_lt, r_ge, r_gt, r_le, bz_ne, nn_toNat, cn_of, cn_0, cn_1, i10, Int.reduceLE, Int.reduceLT, Int.reduceEq, bz_T, bz_F, ite_self, mulc, st_bud]
        · by_cases ss : (S0 : Int) = S1
          · refine ⟨1, Or.inl ⟨rfl, ⟨rfl, rfl, rfl⟩, Or.inr (by omega)⟩, fun K => ?_⟩
            simp (disch := omega) only [↓fX10_isWay.eq_1, ↓sX10_isWay_.eq_1, ↓(k_cs1 dX10_holesIn), ↓(k_cv2 dX10_side (t10 oT)), ↓k_mk, ↓k_sq, ↓k_sk, ↓k_bk, ↓k_if, ↓k_te, ↓k_cm, ↓k_cz, ↓k_an2, ↓k_or2, ↓k_no, ↓k_ci, ↓k_l0, ↓k_r0, ↓k_se0, ↓k_ic0, ↓k_l1, ↓k_r1, ↓k_se1, ↓k_ic1, ↓k_de1, ↓k_tk1, ↓k_l2, ↓k_r2, ↓k_se2, ↓k_ic2, ↓k_de2, ↓k_tk2, ↓k_l3, ↓k_r3, ↓k_se3, ↓k_ic3, ↓k_de3, ↓k_tk3, ↓k_l4, ↓k_r4, ↓k_se4, ↓k_ic4, ↓k_de4, ↓k_tk4, ↓k_l5, ↓k_r5, ↓k_se5, ↓k_ic5, ↓k_de5, ↓k_tk5, ↓k_l6, ↓k_r6, ↓k_se6, ↓k_ic6, ↓k_de6, ↓k_tk6, ↓k_l7, ↓k_r7, ↓k_se7, ↓k_ic7, ↓k_de7, ↓k_tk7, ↓k_l8, ↓k_r8, ↓k_se8, ↓k_ic8, ↓k_de8, ↓k_tk8, ↓k_l9, ↓k_r9, ↓k_se9, ↓k_ic9, ↓k_de9, ↓k_tk9, ↓k_l10, ↓k_r10, ↓k_se10, ↓k_ic10, ↓k_de10, ↓k_tk10, ↓k_l11, ↓k_r11, ↓k_se11, ↓k_ic11, ↓k_de11, ↓k_tk11, ↓k_l12, ↓k_r12, ↓k_se12, ↓k_ic12, ↓k_de12, ↓k_tk12, ↓k_l13, ↓k_r13, ↓k_se13, ↓k_ic13, ↓k_de13, ↓k_tk13, ↓k_l14, ↓k_r14, ↓k_se14, ↓k_ic14, ↓k_de14, ↓k_tk14, ↓k_l15, ↓k_r15, ↓k_se15, ↓k_ic15, ↓k_de15, ↓k_tk15, ↓k_l16, ↓k_r16, ↓k_se16, ↓k_ic16, ↓k_de16, ↓k_tk16, ↓k_l17, ↓k_r17, ↓k_se17, ↓k_ic17, ↓k_de17, ↓k_tk17, ↓k_l18, ↓k_r18, ↓k_se18, ↓k_ic18, ↓k_de18, ↓k_tk18, ↓k_l19, ↓k_r19, ↓k_se19, ↓k_ic19, ↓k_de19, ↓k_tk19, ↓k_l20, ↓k_r20, ↓k_se20, ↓k_ic20, ↓k_de20, ↓k_tk20, ↓k_l21, ↓k_r21, ↓k_se21, ↓k_ic21, ↓k_de21, ↓k_tk21, ↓k_l22, ↓k_r22, ↓k_se22, ↓k_ic22, ↓k_de22, ↓k_tk22, ↓k_l23, ↓k_r23, ↓k_se23, ↓k_ic23, ↓k_de23, ↓k_tk23, ↓k_l24, ↓k_r24, ↓k_se24, ↓k_ic24, ↓k_de24, ↓k_tk24, ↓k_l25, ↓k_r25, ↓k_se25, ↓k_ic25, ↓k_de25, ↓k_tk25, ↓k_k, ↓k_kn, ↓k_kl, ↓k_kln, ↓k_il, ↓k_2, ↓k_1, ↓k_2c, ↓k_2l, ↓k_ac, ↓k_an, ↓k_cs, ↓k_cv, ↓k_fi, ↓k_fr, ↓k_ai, ↓k_az, ↓k_ar, ↓k_sai, ↓k_saz, ↓k_soa, ↓k_sof, ↓k_spf, ↓k_sx, ↓k_blk, ↓k_sset, ↓k_sdec, ↓k_sri, ↓k_srv, ↓k_srr, ↓k_nop, ↓k_add, ↓k_sub, ↓k_mul, ↓k_min, ↓k_max, ↓k_shr, ↓k_shl, ↓k_or, ↓k_ilz, ↓k_addl, ↓k_rt, ↓k_rb, ↓k_rbz, ↓k_rsi, ↓k_rsr, ↓k_rsv, ↓reduceIte, hd, hr, g60, g61, y1', one, r0, ss, eq_self, ↓(k_cv2 dX10_side (t10 oT)), ↓cS0, ↓cS1, ↓(k_cs1 dX10_holesIn), ↓h0, ↓h1, ↓xr10_2 oT, ↓xa10_2 oT, ↓xs10_2 oT, ↓xr10_3 oT, ↓xa10_3 oT, ↓xs10_3 oT, ↓xi9_1 o0, ↓xp9_1 o0, ↓xb9_1 o0, ↓xf9_1 o0, ↓xg9_1 o0, ↓xh9_1 o0, List.length_cons, List.length_nil, List.forall_mem_cons, List.not_mem_nil, Value.category, true_and, and_true, false_and, and_false, or_true, true_or, or_false, false_or, Nat.zero_le, forall_const, implies_true, false_implies, Nat.zero_add, Nat.reduceAdd, Nat.reduceLT, Nat.reduceLeDiff, Nat.le_refl, not_true_eq_false, not_false_eq_true, r_eq, r_ne, r_lt, r_ge, r_gt, r_le, bz_ne, nn_toNat, cn_of, cn_0, cn_1, i10, Int.reduceLE, Int.reduceLT, Int.reduceEq, bz_T, bz_F, ite_self, mulc, st_bud]
          · refine ⟨0, Or.inr ⟨rfl, fun ⟨_, z⟩ => by omega⟩, fun K => ?_⟩
            simp (disch := omega) only [↓fX10_isWay.eq_1, ↓sX10_isWay_.eq_1, ↓(k_cs1 dX10_holesIn), ↓(k_cv2 dX10_side (t10 oT)), ↓k_mk, ↓k_sq, ↓k_sk, ↓k_bk, ↓k_if, ↓k_te, ↓k_cm, ↓k_cz, ↓k_an2, ↓k_or2, ↓k_no, ↓k_ci, ↓k_l0, ↓k_r0, ↓k_se0, ↓k_ic0, ↓k_l1, ↓k_r1, ↓k_se1, ↓k_ic1, ↓k_de1, ↓k_tk1, ↓k_l2, ↓k_r2, ↓k_se2, ↓k_ic2, ↓k_de2, ↓k_tk2, ↓k_l3, ↓k_r3, ↓k_se3, ↓k_ic3, ↓k_de3, ↓k_tk3, ↓k_l4, ↓k_r4, ↓k_se4, ↓k_ic4, ↓k_de4, ↓k_tk4, ↓k_l5, ↓k_r5, ↓k_se5, ↓k_ic5, ↓k_de5, ↓k_tk5, ↓k_l6, ↓k_r6, ↓k_se6, ↓k_ic6, ↓k_de6, ↓k_tk6, ↓k_l7, ↓k_r7, ↓k_se7, ↓k_ic7, ↓k_de7, ↓k_tk7, ↓k_l8, ↓k_r8, ↓k_se8, ↓k_ic8, ↓k_de8, ↓k_tk8, ↓k_l9, ↓k_r9, ↓k_se9, ↓k_ic9, ↓k_de9, ↓k_tk9, ↓k_l10, ↓k_r10, ↓k_se10, ↓k_ic10, ↓k_de10, ↓k_tk10, ↓k_l11, ↓k_r11, ↓k_se11, ↓k_ic11, ↓k_de11, ↓k_tk11, ↓k_l12, ↓k_r12, ↓k_se12, ↓k_ic12, ↓k_de12, ↓k_tk12, ↓k_l13, ↓k_r13, ↓k_se13, ↓k_ic13, ↓k_de13, ↓k_tk13, ↓k_l14, ↓k_r14, ↓k_se14, ↓k_ic14, ↓k_de14, ↓k_tk14, ↓k_l15, ↓k_r15, ↓k_se15, ↓k_ic15, ↓k_de15, ↓k_tk15, ↓k_l16, ↓k_r16, ↓k_se16, ↓k_ic16, ↓k_de16, ↓k_tk16, ↓k_l17, ↓k_r17, ↓k_se17, ↓k_ic17, ↓k_de17, ↓k_tk17, ↓k_l18, ↓k_r18, ↓k_se18, ↓k_ic18, ↓k_de18, ↓k_tk18, ↓k_l19, ↓k_r19, ↓k_se19, ↓k_ic19, ↓k_de19, ↓k_tk19, ↓k_l20, ↓k_r20, ↓k_se20, ↓k_ic20, ↓k_de20, ↓k_tk20, ↓k_l21, ↓k_r21, ↓k_se21, ↓k_ic21, ↓k_de21, ↓k_tk21, ↓k_l22, ↓k_r22, ↓k_se22, ↓k_ic22, ↓k_de22, ↓k_tk22, ↓k_l23, ↓k_r23, ↓k_se23, ↓k_ic23, ↓k_de23, ↓k_tk23, ↓k_l24, ↓k_r24, ↓k_se24, ↓k_ic24, ↓k_de24, ↓k_tk24, ↓k_l25, ↓k_r25, ↓k_se25, ↓k_ic25, ↓k_de25, ↓k_tk25, ↓k_k, ↓k_kn, ↓k_kl, ↓k_kln, ↓k_il, ↓k_2, ↓k_1, ↓k_2c, ↓k_2l, ↓k_ac, ↓k_an, ↓k_cs, ↓k_cv, ↓k_fi, ↓k_fr, ↓k_ai, ↓k_az, ↓k_ar, ↓k_sai, ↓k_saz, ↓k_soa, ↓k_sof, ↓k_spf, ↓k_sx, ↓k_blk, ↓k_sset, ↓k_sdec, ↓k_sri, ↓k_srv, ↓k_srr, ↓k_nop, ↓k_add, ↓k_sub, ↓k_mul, ↓k_min, ↓k_max, ↓k_shr, ↓k_shl, ↓k_or, ↓k_ilz, ↓k_addl, ↓k_rt, ↓k_rb, ↓k_rbz, ↓k_rsi, ↓k_rsr, ↓k_rsv, ↓reduceIte, hd, hr, g60, g61, y1', one, r0, ss, eq_self, ↓(k_cv2 dX10_side (t10 oT)), ↓cS0, ↓cS1, ↓(k_cs1 dX10_holesIn), ↓h0, ↓h1, ↓xr10_2 oT, ↓xa10_2 oT, ↓xs10_2 oT, ↓xr10_3 oT, ↓xa10_3 oT, ↓xs10_3 oT, ↓xi9_1 o0, ↓xp9_1 o0, ↓xb9_1 o0, ↓xf9_1 o0, ↓xg9_1 o0, ↓xh9_1 o0, List.length_cons, List.length_nil, List.forall_mem_cons, List.not_mem_nil, Value.category, true_and, and_true, false_and, and_false, or_true, true_or, or_false, false_or, Nat.zero_le, forall_const, implies_true, false_implies, Nat.zero_add, Nat.reduceAdd, Nat.reduceLT, Nat.reduceLeDiff, Nat.le_refl, not_true_eq_false, not_false_eq_true, r_eq, r_ne, r_lt, r_ge, r_gt, r_le, bz_ne, nn_toNat, cn_of, cn_0, cn_1, i10, Int.reduceLE, Int.reduceLT, Int.reduceEq, bz_T, bz_F, ite_self, mulc, st_bud]
      · subst w1
        refine ⟨0, Or.inr ⟨rfl, fun ⟨⟨_, _, z⟩, _⟩ => vv z⟩, fun K => ?_⟩
        simp (disch := omega) only [↓fX10_isWay.eq_1, ↓sX10_isWay_.eq_1, ↓(k_cs1 dX10_holesIn), ↓(k_cv2 dX10_side (t10 oT)), ↓k_mk, ↓k_sq, ↓k_sk, ↓k_bk, ↓k_if, ↓k_te, ↓k_cm, ↓k_cz, ↓k_an2, ↓k_or2, ↓k_no, ↓k_ci, ↓k_l0, ↓k_r0, ↓k_se0, ↓k_ic0, ↓k_l1, ↓k_r1, ↓k_se1, ↓k_ic1, ↓k_de1, ↓k_tk1, ↓k_l2, ↓k_r2, ↓k_se2, ↓k_ic2, ↓k_de2, ↓k_tk2, ↓k_l3, ↓k_r3, ↓k_se3, ↓k_ic3, ↓k_de3, ↓k_tk3, ↓k_l4, ↓k_r4, ↓k_se4, ↓k_ic4, ↓k_de4, ↓k_tk4, ↓k_l5, ↓k_r5, ↓k_se5, ↓k_ic5, ↓k_de5, ↓k_tk5, ↓k_l6, ↓k_r6, ↓k_se6, ↓k_ic6, ↓k_de6, ↓k_tk6, ↓k_l7, ↓k_r7, ↓k_se7, ↓k_ic7, ↓k_de7, ↓k_tk7, ↓k_l8, ↓k_r8, ↓k_se8, ↓k_ic8, ↓k_de8, ↓k_tk8, ↓k_l9, ↓k_r9, ↓k_se9, ↓k_ic9, ↓k_de9, ↓k_tk9, ↓k_l10, ↓k_r10, ↓k_se10, ↓k_ic10, ↓k_de10, ↓k_tk10, ↓k_l11, ↓k_r11, ↓k_se11, ↓k_ic11, ↓k_de11, ↓k_tk11, ↓k_l12, ↓k_r12, ↓k_se12, ↓k_ic12, ↓k_de12, ↓k_tk12, ↓k_l13, ↓k_r13, ↓k_se13, ↓k_ic13, ↓k_de13, ↓k_tk13, ↓k_l14, ↓k_r14, ↓k_se14, ↓k_ic14, ↓k_de14, ↓k_tk14, ↓k_l15, ↓k_r15, ↓k_se15, ↓k_ic15, ↓k_de15, ↓k_tk15, ↓k_l16, ↓k_r16, ↓k_se16, ↓k_ic16, ↓k_de16, ↓k_tk16, ↓k_l17, ↓k_r17, ↓k_se17, ↓k_ic17, ↓k_de17, ↓k_tk17, ↓k_l18, ↓k_r18, ↓k_se18, ↓k_ic18, ↓k_de18, ↓k_tk18, ↓k_l19, ↓k_r19, ↓k_se19, ↓k_ic19, ↓k_de19, ↓k_tk19, ↓k_l20, ↓k_r20, ↓k_se20, ↓k_ic20, ↓k_de20, ↓k_tk20, ↓k_l21, ↓k_r21, ↓k_se21, ↓k_ic21, ↓k_de21, ↓k_tk21, ↓k_l22, ↓k_r22, ↓k_se22, ↓k_ic22, ↓k_de22, ↓k_tk22, ↓k_l23, ↓k_r23, ↓k_se23, ↓k_ic23, ↓k_de23, ↓k_tk23, ↓k_l24, ↓k_r24, ↓k_se24, ↓k_ic24, ↓k_de24, ↓k_tk24, ↓k_l25, ↓k_r25, ↓k_se25, ↓k_ic25, ↓k_de25, ↓k_tk25, ↓k_k, ↓k_kn, ↓k_kl, ↓k_kln, ↓k_il, ↓k_2, ↓k_1, ↓k_2c, ↓k_2l, ↓k_ac, ↓k_an, ↓k_cs, ↓k_cv, ↓k_fi, ↓k_fr, ↓k_ai, ↓k_az, ↓k_ar, ↓k_sai, ↓k_saz, ↓k_soa, ↓k_sof, ↓k_spf, ↓k_sx, ↓k_blk, ↓k_sset, ↓k_sdec, ↓k_sri, ↓k_srv, ↓k_srr, ↓k_nop, ↓k_add, ↓k_sub, ↓k_mul, ↓k_min, ↓k_max, ↓k_shr, ↓k_shl, ↓k_or, ↓k_ilz, ↓k_addl, ↓k_rt, ↓k_rb, ↓k_rbz, ↓k_rsi, ↓k_rsr, ↓k_rsv, ↓reduceIte, hd, hr, g60, g61, y1', vv, one, eq_self, ↓(k_cv2 dX10_side (t10 oT)), ↓cS0, ↓cS1, ↓xr10_2 oT, ↓xa10_2 oT, ↓xs10_2 oT, ↓xr10_3 oT, ↓xa10_3 oT, ↓xs10_3 oT, ↓xi9_1 o0, ↓xp9_1 o0, ↓xb9_1 o0, ↓xf9_1 o0, ↓xg9_1 o0, ↓xh9_1 o0, List.length_cons, List.length_nil, List.forall_mem_cons, List.not_mem_nil, Value.category, true_and, and_true, false_and, and_false, or_true, true_or, or_false, false_or, Nat.zero_le, forall_const, implies_true, false_implies, Nat.zero_add, Nat.reduceAdd, Nat.reduceLT, Nat.reduceLeDiff, Nat.le_refl, not_true_eq_false, not_false_eq_true, r_eq, r_ne, r_lt, r_ge, r_gt, r_le, bz_ne, nn_toNat, cn_of, cn_0, cn_1, i10, Int.reduceLE, Int.reduceLT, Int.reduceEq, bz_T, bz_F, ite_self, mulc, st_bud]
    · have w0 : w = 0 := by omega
      subst w0
      refine ⟨0, Or.inr ⟨rfl, fun ⟨⟨_, z, _⟩, _⟩ => w1 z⟩, fun K => ?_⟩
      simp (disch := omega) only [↓fX10_isWay.eq_1, ↓sX10_isWay_.eq_1, ↓(k_cs1 dX10_holesIn), ↓(k_cv2 dX10_side (t10 oT)), ↓k_mk, ↓k_sq, ↓k_sk, ↓k_bk, ↓k_if, ↓k_te, ↓k_cm, ↓k_cz, ↓k_an2, ↓k_or2, ↓k_no, ↓k_ci, ↓k_l0, ↓k_r0, ↓k_se0, ↓k_ic0, ↓k_l1, ↓k_r1, ↓k_se1, ↓k_ic1, ↓k_de1, ↓k_tk1, ↓k_l2, ↓k_r2, ↓k_se2, ↓k_ic2, ↓k_de2, ↓k_tk2, ↓k_l3, ↓k_r3, ↓k_se3, ↓k_ic3, ↓k_de3, ↓k_tk3, ↓k_l4, ↓k_r4, ↓k_se4, ↓k_ic4, ↓k_de4, ↓k_tk4, ↓k_l5, ↓k_r5, ↓k_se5, ↓k_ic5, ↓k_de5, ↓k_tk5, ↓k_l6, ↓k_r6, ↓k_se6, ↓k_ic6, ↓k_de6, ↓k_tk6, ↓k_l7, ↓k_r7, ↓k_se7, ↓k_ic7, ↓k_de7, ↓k_tk7, ↓k_l8, ↓k_r8, ↓k_se8, ↓k_ic8, ↓k_de8, ↓k_tk8, ↓k_l9, ↓k_r9, ↓k_se9, ↓k_ic9, ↓k_de9, ↓k_tk9, ↓k_l10, ↓k_r10, ↓k_se10, ↓k_ic10, ↓k_de10, ↓k_tk10, ↓k_l11, ↓k_r11, ↓k_se11, ↓k_ic11, ↓k_de11, ↓k_tk11, ↓k_l12, ↓k_r12, ↓k_se12, ↓k_ic12, ↓k_de12, ↓k_tk12, ↓k_l13, ↓k_r13, ↓k_se13, ↓k_ic13, ↓k_de13, ↓k_tk13, ↓k_l14, ↓k_r14, ↓k_se14, ↓k_ic14, ↓k_de14, ↓k_tk14, ↓k_l15, ↓k_r15, ↓k_se15, ↓k_ic15, ↓k_de15, ↓k_tk15, ↓k_l16, ↓k_r16, ↓k_se16, ↓k_ic16, ↓k_de16, ↓k_tk16, ↓k_l17, ↓k_r17, ↓k_se17, ↓k_ic17, ↓k_de17, ↓k_tk17, ↓k_l18, ↓k_r18, ↓k_se18, ↓k_ic18, ↓k_de18, ↓k_tk18, ↓k_l19, ↓k_r19, ↓k_se19, ↓k_ic19, ↓k_de19, ↓k_tk19, ↓k_l20, ↓k_r20, ↓k_se20, ↓k_ic20, ↓k_de20, ↓k_tk20, ↓k_l21, ↓k_r21, ↓k_se21, ↓k_ic21, ↓k_de21, ↓k_tk21, ↓k_l22, ↓k_r22, ↓k_se22, ↓k_ic22, ↓k_de22, ↓k_tk22, ↓k_l23, ↓k_r23, ↓k_se23, ↓k_ic23, ↓k_de23, ↓k_tk23, ↓k_l24, ↓k_r24, ↓k_se24, ↓k_ic24, ↓k_de24, ↓k_tk24, ↓k_l25, ↓k_r25, ↓k_se25, ↓k_ic25, ↓k_de25, ↓k_tk25, ↓k_k, ↓k_kn, ↓k_kl, ↓k_kln, ↓k_il, ↓k_2, ↓k_1, ↓k_2c, ↓k_2l, ↓k_ac, ↓k_an, ↓k_cs, ↓k_cv, ↓k_fi, ↓k_fr, ↓k_ai, ↓k_az, ↓k_ar, ↓k_sai, ↓k_saz, ↓k_soa, ↓k_sof, ↓k_spf, ↓k_sx, ↓k_blk, ↓k_sset, ↓k_sdec, ↓k_sri, ↓k_srv, ↓k_srr, ↓k_nop, ↓k_add, ↓k_sub, ↓k_mul, ↓k_min, ↓k_max, ↓k_shr, ↓k_shl, ↓k_or, ↓k_ilz, ↓k_addl, ↓k_rt, ↓k_rb, ↓k_rbz, ↓k_rsi, ↓k_rsr, ↓k_rsv, ↓reduceIte, hd, g60, g61, one, eq_self, ↓xr10_2 oT, ↓xa10_2 oT, ↓xs10_2 oT, ↓xr10_3 oT, ↓xa10_3 oT, ↓xs10_3 oT, List.length_cons, List.length_nil, List.forall_mem_cons, List.not_mem_nil, Value.category, true_and, and_true, false_and, and_false, or_true, true_or, or_false, false_or, Nat.zero_le, forall_const, implies_true, false_implies, Nat.zero_add, Nat.reduceAdd, Nat.reduceLT, Nat.reduceLeDiff, Nat.le_refl, not_true_eq_false, not_false_eq_true, r_eq, r_ne, r_lt, r_ge, r_gt, r_le, bz_ne, nn_toNat, cn_of, cn_0, cn_1, i10, Int.reduceLE, Int.reduceLT, Int.reduceEq, bz_T, bz_F, ite_self, mulc, st_bud]
  · have t0 : t = 0 := by
      unfold ITu at zn
      rw [← ht] at zn
      rcases zn.2 with z | z
      · exact z.1
      · exact absurd z.1 th
    subst t0
    refine ⟨0, Or.inr ⟨rfl, fun ⟨⟨z, _⟩, _⟩ => by omega⟩, fun K => ?_⟩
    clear zn hF iRe kc oS
    simp (disch := omega) only [↓fX10_isWay.eq_1, ↓sX10_isWay_.eq_1, ↓(k_cs1 dX10_holesIn), ↓(k_cv2 dX10_side (t10 oT)), ↓k_mk, ↓k_sq, ↓k_sk, ↓k_bk, ↓k_if, ↓k_te, ↓k_cm, ↓k_cz, ↓k_an2, ↓k_or2, ↓k_no, ↓k_ci, ↓k_l0, ↓k_r0, ↓k_se0, ↓k_ic0, ↓k_l1, ↓k_r1, ↓k_se1, ↓k_ic1, ↓k_de1, ↓k_tk1, ↓k_l2, ↓k_r2, ↓k_se2, ↓k_ic2, ↓k_de2, ↓k_tk2, ↓k_l3, ↓k_r3, ↓k_se3, ↓k_ic3, ↓k_de3, ↓k_tk3, ↓k_l4, ↓k_r4, ↓k_se4, ↓k_ic4, ↓k_de4, ↓k_tk4, ↓k_l5, ↓k_r5, ↓k_se5, ↓k_ic5, ↓k_de5, ↓k_tk5, ↓k_l6, ↓k_r6, ↓k_se6, ↓k_ic6, ↓k_de6, ↓k_tk6, ↓k_l7, ↓k_r7, ↓k_se7, ↓k_ic7, ↓k_de7, ↓k_tk7, ↓k_l8, ↓k_r8, ↓k_se8, ↓k_ic8, ↓k_de8, ↓k_tk8, ↓k_l9, ↓k_r9, ↓k_se9, ↓k_ic9, ↓k_de9, ↓k_tk9, ↓k_l10, ↓k_r10, ↓k_se10, ↓k_ic10, ↓k_de10, ↓k_tk10, ↓k_l11, ↓k_r11, ↓k_se11, ↓k_ic11, ↓k_de11, ↓k_tk11, ↓k_l12, ↓k_r12, ↓k_se12, ↓k_ic12, ↓k_de12, ↓k_tk12, ↓k_l13, ↓k_r13, ↓k_se13, ↓k_ic13, ↓k_de13, ↓k_tk13, ↓k_l14, ↓k_r14, ↓k_se14, ↓k_ic14, ↓k_de14, ↓k_tk14, ↓k_l15, ↓k_r15, ↓k_se15, ↓k_ic15, ↓k_de15, ↓k_tk15, ↓k_l16, ↓k_r16, ↓k_se16, ↓k_ic16, ↓k_de16, ↓k_tk16, ↓k_l17, ↓k_r17, ↓k_se17, ↓k_ic17, ↓k_de17, ↓k_tk17, ↓k_l18, ↓k_r18, ↓k_se18, ↓k_ic18, ↓k_de18, ↓k_tk18, ↓k_l19, ↓k_r19, ↓k_se19, ↓k_ic19, ↓k_de19, ↓k_tk19, ↓k_l20, ↓k_r20, ↓k_se20, ↓k_ic20, ↓k_de20, ↓k_tk20, ↓k_l21, ↓k_r21, ↓k_se21, ↓k_ic21, ↓k_de21, ↓k_tk21, ↓k_l22, ↓k_r22, ↓k_se22, ↓k_ic22, ↓k_de22, ↓k_tk22, ↓k_l23, ↓k_r23, ↓k_se23, ↓k_ic23, ↓k_de23, ↓k_tk23, ↓k_l24, ↓k_r24, ↓k_se24, ↓k_ic24, ↓k_de24, ↓k_tk24, ↓k_l25, ↓k_r25, ↓k_se25, ↓k_ic25, ↓k_de25, ↓k_tk25, ↓k_k, ↓k_kn, ↓k_kl, ↓k_kln, ↓k_il, ↓k_2, ↓k_1, ↓k_2c, ↓k_2l, ↓k_ac, ↓k_an, ↓k_cs, ↓k_cv, ↓k_fi, ↓k_fr, ↓k_ai, ↓k_az, ↓k_ar, ↓k_sai, ↓k_saz, ↓k_soa, ↓k_sof, ↓k_spf, ↓k_sx, ↓k_blk, ↓k_sset, ↓k_sdec, ↓k_sri, ↓k_srv, ↓k_srr, ↓k_nop, ↓k_add, ↓k_sub, ↓k_mul, ↓k_min, ↓k_max, ↓k_shr, ↓k_shl, ↓k_or, ↓k_ilz, ↓k_addl, ↓k_rt, ↓k_rb, ↓k_rbz, ↓k_rsi, ↓k_rsr, ↓k_rsv, ↓reduceIte, hd, g60, one, eq_self, ↓xr10_2 oT, ↓xa10_2 oT, ↓xs10_2 oT, ↓xr10_3 oT, ↓xa10_3 oT, ↓xs10_3 oT, List.length_cons, List.length_nil, List.forall_mem_cons, List.not_mem_nil, Value.category, true_and, and_true, false_and, and_false, or_true, true_or, or_false, false_or, Nat.zero_le, forall_const, implies_true, false_implies, Nat.zero_add, Nat.reduceAdd, Nat.reduceLT, Nat.reduceLeDiff, Nat.le_refl, not_true_eq_false, not_false_eq_true, r_eq, r_ne, r_lt, r_ge, r_gt, r_le, bz_ne, nn_toNat, cn_of, cn_0, cn_1, i10, Int.reduceLE, Int.reduceLT, Int.reduceEq, bz_T, bz_F, ite_self, mulc, st_bud]
end
