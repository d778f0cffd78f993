section
/-! the reference looks for the first form and the first cut -/
/-- the slots of a grown node -/
theorem gw_kids {nf N : Int} {sf n C X ns I c : Int → Int} {ft : Int → Int → Bool} {Q : Int → Int → Int → Int} (hft : ∀ it x, 0 ≤ x → x < N → ft it x = sutB it (X x)) (n16 : N ≤ 16) (hC : ∀ f m, 0 ≤ f → f < nf → 0 ≤ m → m < n f → itR (C (5 * f + m))) (hS : ∀ f, 0 ≤ f → f < nf → Fsl n C ns I f) (n1 : ∀ f, 0 ≤ f → f < nf → 1 ≤ n f) {k P : Nat} {s i j f : Int} {cc : Nat → Int} {u : Nat → List Int} (i0 : 0 ≤ i) (ij : i ≤ j) (jN : j ≤ N) (f0 : 0 ≤ f) (f1 : f < nf) (s0 : 0 ≤ s) (c0 : cc 0 = i) (hcut : ∀ m : Nat, (m : Int) < n f → FsC n C ft Q j f m (cc m) (cc (m + 1))) (hu : ∀ m : Nat, (m : Int) < n f → (C (5 * f + m) ≤ 11 → u m = []) ∧ (11 < C (5 * f + m) → C (5 * f + m) < 60 → u m = [ftc ft X N (C (5 * f + m)) (cc m) (cc (m + 1))]) ∧ (60 ≤ C (5 * f + m) → GW nf sf n C ft Q X N k (C (5 * f + m) - 60) (cc m) (cc (m + 1)) (u m))) (hA' : At c P ((1000 + f) :: cat u (n f).toNat)) (pr : Pre ns c P) (dP : 1 ≤ dd ns c P) :
    ∀ m : Nat, (m : Int) ≤ n f → (i ≤ cc m ∧ cc m ≤ j) ∧ KidW 0 ns I c (1000 + f) (60 + s) (nsl (fun x => C (5 * f + x)) m).toNat P (P + 1 + (cat u m).length) := by
  have n0 : ∀ f, 0 ≤ f → f < nf → 0 ≤ ns f := fun f f0 f1 => by
    rw [(hS f f0 f1).1]
    exact (nsl_b _ _).1
  have e1h : (1000 + f) - 1000 = f := by omega
  obtain ⟨cP, hA2⟩ := hA'
  intro m
  induction m with
  | zero =>
    intro _
    rw [c0]
    exact ⟨⟨Int.le_refl _, ij⟩, Kid0 (by rw [e1h]; exact n0 f f0 f1) (by omega) cP (by unfold okc; omega) pr dP⟩
  | succ m ihm =>
    intro hm
    obtain ⟨⟨p5, p6⟩, p4⟩ := ihm (by omega)
    have ir := hC f m f0 f1 (by omega) (by omega)
    obtain ⟨h1, h2, h3⟩ := hu m (by omega)
    obtain ⟨⟨q1, q2⟩, _, _⟩ := hcut m (by omega)
    obtain ⟨rr', hr⟩ := cat_pre u (show m + 1 ≤ (n f).toNat by omega)
    have hA3 := hA2
    rw [hr, At_app, cat_s, At_app] at hA3
    refine ⟨⟨by omega, q2⟩, ?_⟩
    have nb5 := nsl_b (fun x => C (5 * f + x)) m
    by_cases hword : C (5 * f + m) ≤ 11
    · have en : nsl (fun x => C (5 * f + x)) (m + 1) = nsl (fun x => C (5 * f + x)) m := nsl_w _ (by
        show 0 ≤ C (5 * f + m) ∧ C (5 * f + m) ≤ 11
        unfold itR at ir
        omega)
      rw [cat_s, h1 hword, List.append_nil, en]
      exact p4
    · have nw' : ¬ (0 ≤ C (5 * f + m) ∧ C (5 * f + m) ≤ 11) := by omega
      have en : nsl (fun x => C (5 * f + x)) (m + 1) = nsl (fun x => C (5 * f + x)) m + 1 := nsl_n _ nw'
      have ntn : (nsl (fun x => C (5 * f + x)) (m + 1)).toNat = (nsl (fun x => C (5 * f + x)) m).toNat + 1 := by omega
      have sfl := (hS f f0 f1).1
      have nlt : nsl (fun x => C (5 * f + x)) m < ns f := by
        have := nsl_mono (fun x => C (5 * f + x)) (show m + 1 ≤ (n f).toNat by omega)
        rw [en] at this
        rw [sfl]
        omega
      have IS := (hS f f0 f1).2 m (by omega) (by omega) nw'
      rw [Int.toNat_natCast] at IS
      have IS : I (5 * f + nsl (fun x => C (5 * f + x)) m) = C (5 * f + m) := IS
      have esl : ((nsl (fun x => C (5 * f + x)) m).toNat : Int) = nsl (fun x => C (5 * f + x)) m := by omega
      have kwd := p4.2.1
      rw [e1h] at kwd
      have pwm : ∃ kk, PW 0 nf ns I kk (C (5 * f + m)) (u m) := by
        by_cases h60 : 60 ≤ C (5 * f + m)
        · have := GW_pw hft n16 hC hS n1 k (C (5 * f + m) - 60) _ _ (u m) (by omega) q1 (by omega) (h3 h60) (by omega)
          rw [show 60 + (C (5 * f + m) - 60) = C (5 * f + m) by omega] at this
          exact ⟨_, this⟩
        · obtain ⟨o1, o2, o3⟩ := ftc_ok (X := X) (N := N) (it := C (5 * f + m)) (p := cc m) (q := cc (m + 1)) hft (by omega) q1 (by omega) n16 (by
            unfold itR at ir
            omega)
          exact ⟨1, _, o1, Or.inl ⟨by omega, o2, h2 (by omega) (by omega)⟩⟩
      obtain ⟨kk, pwm⟩ := pwm
      have sw := pw_seg n0 kk _ _ _ pwm hA3.1.2 p4.1 (by omega)
      rw [ntn, cat_s, List.length_append, show P + 1 + ((cat u m).length + (u m).length) = P + 1 + (cat u m).length + (u m).length by omega]
      refine Kid_s (x := 1000 + f) (m := (nsl (fun x => C (5 * f + x)) m).toNat) (by rw [e1h, esl]; exact nlt) p4 ?_
      rw [e1h, esl, IS]
      exact sw
theorem gw_head {ns I c g : Int → Int} {f it : Int} {m P Y : Nat} (h : KidW 0 ns I c (1000 + f) it (nsl g m).toNat P Y) (l : nsl g m < ns f) : (tgS ns c Y)[0]? = some (nb c P, nsl g m) := by
  have e := h.2.2.1
  have nb5 := nsl_b g m
  rw [show (1000 + f) - 1000 = f by omega, show (ns f).toNat - (nsl g m).toNat = ((ns f).toNat - (nsl g m).toNat - 1) + 1 by omega, tgN, show (((nsl g m).toNat : Nat) : Int) = nsl g m by omega] at e
  rw [e]
  rfl
theorem GW_head {nf N : Int} {sf n C X : Int → Int} {ft : Int → Int → Bool} {Q : Int → Int → Int → Int} {k : Nat} {s a b : Int} {w : List Int} (h : GW nf sf n C ft Q X N k s a b w) : ∃ f r, 0 ≤ f ∧ f < nf ∧ w = (1000 + f) :: r := by
  cases k with
  | zero => exact h.elim
  | succ k =>
    obtain ⟨f, ⟨⟨f0, f1⟩, _⟩, _, u, _, _, hw, _⟩ := h
    exact ⟨f, _, f0, f1, hw⟩
theorem fsN_first {ft : Int → Int → Bool} {it : Int} : ∀ {j m : Nat} {p : Int}, j < m → (∀ k : Nat, k < j → ¬ ft it (p + k) = true) → ft it (p + j) = true → fsN ft it p m = p + j := by
  intro j
  induction j with
  | zero =>
    intro m p hj _ h
    obtain ⟨m, rfl⟩ : ∃ x, m = x + 1 := ⟨m - 1, by omega⟩
    rw [fsN_s]
    rw [show p + ((0 : Nat) : Int) = p by omega] at h ⊢
    exact if_pos h
  | succ j ih =>
    intro m p hj hn h
    obtain ⟨m, rfl⟩ : ∃ x, m = x + 1 := ⟨m - 1, by omega⟩
    have h0 := hn 0 (by omega)
    rw [show p + ((0 : Nat) : Int) = p by omega] at h0
    rw [fsN_s, if_neg h0, ih (p := p + 1) (by omega) (fun k hk => by
      rw [show p + 1 + (k : Int) = p + ((k + 1 : Nat) : Int) by omega]
      exact hn (k + 1) (by omega)) (by
      rw [show p + 1 + (j : Int) = p + ((j + 1 : Nat) : Int) by omega]
      exact h)]
    omega
theorem c12_fitting {T : Nat → Option q_T} {nx rc rs B : Nat} {R : Nat → Nat → Option Value} {G : Nat → Int → Int} {it p q N : Int} {X : Int → Int} {ft : Int → Int → Bool} (K : Option Value → q_M → Prop) (hM : Ly T R (B + 544) (L12 (B + 544))) (hft : ∀ it x, 0 ≤ x → x < N → ft it x = sutB it (X x)) (hX : ∀ x, 0 ≤ x → x < N → G (B + 544 + 39) x = X x ∧ -2147483648 ≤ X x ∧ X x < 2147483648) (n16 : N ≤ 16) (i0 : 0 ≤ it) (i1 : it ≤ 65) (p0 : 0 ≤ p) (pq' : p ≤ q) (q1 : q ≤ N) :
    fX12_fitting [.ref (B + 544), .int (zI it), .int (zI p), .int (zI q)] (st T nx rc rs R G) K = K (some (.int (zI (ftc ft X N it p q)))) (st T nx rc rs R G) := by
  have iff := fsN_iff (ft := ft) (it := it) (m := (N - p).toNat) (p := p) (q := q) pq' (by omega) (by omega)
  have row : ∀ k : Nat, p + (k : Int) < q → G (B + 544 + 39) (p + k) = X (p + k) ∧ -2147483648 ≤ X (p + k) ∧ X (p + k) < 2147483648 := fun k hk => hX (p + k) (by omega) (by omega)
  have body : ∀ k : Nat, p + (k : Int) < q → ¬ ft it (p + k) = true → ∀ (Kn : List Value → q_M → Prop) (Kr : Option Value → q_M → Prop) (Kf : q_M → Prop), Kn [.ref (B + 544), .int (zI it), .int (zI p), .int (zI q), .int (zI (p + ((k + 1 : Nat) : Int)))] (st T nx rc rs R G) → wcX12_fitting_0 [.ref (B + 544), .int (zI it), .int (zI p), .int (zI q), .int (zI (p + k))] (st T nx rc rs R G) (fun μ' => wsX12_fitting_0 [.ref (B + 544), .int (zI it), .int (zI p), .int (zI q), .int (zI (p + k))] μ' Kn Kr) Kf := fun k hz u Kn Kr Kf hh => by
    obtain ⟨r1, r2, r3⟩ := row k hz
    have e7 : p + ((k + 1 : Nat) : Int) = p + k + 1 := by omega
    rw [hft it _ (by omega) (by omega), ← r1] at u
    rw [← r1] at r2 r3
    rw [e7] at hh
    clear row hX hft iff
    simp (disch := omega) only [↓wcX12_fitting_0.eq_1, ↓wsX12_fitting_0.eq_1, ↓(k_cs2 dX12_fitsCell), ↓k_mk, ↓k_sq, ↓k_sk, ↓k_bk, ↓k_if, ↓k_te, ↓k_cm, ↓k_cz, ↓k_an2, ↓k_or2, ↓k_no, ↓k_ci, ↓k_l0, ↓k_r0, ↓k_se0, ↓k_ic0, ↓k_l1, ↓k_r1, ↓k_se1, ↓k_ic1, ↓k_de1, ↓k_tk1, ↓k_l2, ↓k_r2, ↓k_se2, ↓k_ic2, ↓k_de2, ↓k_tk2, ↓k_l3, ↓k_r3, ↓k_se3, ↓k_ic3, ↓k_de3, ↓k_tk3, ↓k_l4, ↓k_r4, ↓k_se4, ↓k_ic4, ↓k_de4, ↓k_tk4, ↓k_l5, ↓k_r5, ↓k_se5, ↓k_ic5, ↓k_de5, ↓k_tk5, ↓k_l6, ↓k_r6, ↓k_se6, ↓k_ic6, ↓k_de6, ↓k_tk6, ↓k_l7, ↓k_r7, ↓k_se7, ↓k_ic7, ↓k_de7, ↓k_tk7, ↓k_l8, ↓k_r8, ↓k_se8, ↓k_ic8, ↓k_de8, ↓k_tk8, ↓k_l9, ↓k_r9, ↓k_se9, ↓k_ic9, ↓k_de9, ↓k_tk9, ↓k_l10, ↓k_r10, ↓k_se10, ↓k_ic10, ↓k_de10, ↓k_tk10, ↓k_l11, ↓k_r11, ↓k_se11, ↓k_ic11, ↓k_de11, ↓k_tk11, ↓k_l12, ↓k_r12, ↓k_se12, ↓k_ic12, ↓k_de12, ↓k_tk12, ↓k_l13, ↓k_r13, ↓k_se13, ↓k_ic13, ↓k_de13, ↓k_tk13, ↓k_l14, ↓k_r14, ↓k_se14, ↓k_ic14, ↓k_de14, ↓k_tk14, ↓k_l15, ↓k_r15, ↓k_se15, ↓k_ic15, ↓k_de15, ↓k_tk15, ↓k_l16, ↓k_r16, ↓k_se16, ↓k_ic16, ↓k_de16, ↓k_tk16, ↓k_l17, ↓k_r17, ↓k_se17, ↓k_ic17, ↓k_de17, ↓k_tk17, ↓k_l18, ↓k_r18, ↓k_se18, ↓k_ic18, ↓k_de18, ↓k_tk18, ↓k_l19, ↓k_r19, ↓k_se19, ↓k_ic19, ↓k_de19, ↓k_tk19, ↓k_l20, ↓k_r20, ↓k_se20, ↓k_ic20, ↓k_de20, ↓k_tk20, ↓k_l21, ↓k_r21, ↓k_se21, ↓k_ic21, ↓k_de21, ↓k_tk21, ↓k_l22, ↓k_r22, ↓k_se22, ↓k_ic22, ↓k_de22, ↓k_tk22, ↓k_l23, ↓k_r23, ↓k_se23, ↓k_ic23, ↓k_de23, ↓k_tk23, ↓k_l24, ↓k_r24, ↓k_se24, ↓k_ic24, ↓k_de24, ↓k_tk24, ↓k_l25, ↓k_r25, ↓k_se25, ↓k_ic25, ↓k_de25, ↓k_tk25, ↓k_k, ↓k_kn, ↓k_kl, ↓k_kln, ↓k_il, ↓k_2, ↓k_1, ↓k_2c, ↓k_2l, ↓k_ac, ↓k_an, ↓k_cs, ↓k_cv, ↓k_fi, ↓k_fr, ↓k_ai, ↓k_az, ↓k_ar, ↓k_sai, ↓k_saz, ↓k_soa, ↓k_sof, ↓k_spf, ↓k_sx, ↓k_blk, ↓k_sset, ↓k_sdec, ↓k_sri, ↓k_srv, ↓k_srr, ↓k_nop, ↓k_add, ↓k_sub, ↓k_mul, ↓k_min, ↓k_max, ↓k_shr, ↓k_shl, ↓k_or, ↓k_ilz, ↓k_addl, ↓k_rt, ↓k_rb, ↓k_rbz, ↓k_rsi, ↓k_rsr, ↓k_rsv, ↓reduceIte, hz, ↓(c12_fitsF u), ↓xr12_46 hM, ↓xa12_46 hM, ↓xs12_46 hM, ↓xo12_46 hM, ↓xc12_46 hM, ↓xd12_46 hM, List.length_cons, List.length_nil, List.forall_mem_cons, List.not_mem_nil, Value.category, true_and, and_true, false_and, and_false, or_true, true_or, or_false, false_or, Nat.zero_le, forall_const, implies_true, false_implies, Nat.zero_add, Nat.reduceAdd, Nat.reduceLT, Nat.reduceLeDiff, Nat.le_refl, not_true_eq_false, not_false_eq_true, r_eq, r_ne, r_lt, r_ge, r_gt, r_le, bz_ne, nn_toNat, cn_of, cn_0, cn_1, i10, Int.reduceLE, Int.reduceLT, Int.reduceEq, bz_T, bz_F, ite_self, mulc, st_bud]
    exact hh
  rcases least_fail (fun k => ¬ ft it (p + k) = true) (q - p).toNat with h | ⟨j, j1, j2, j3⟩
  · have na : ¬ fsN ft it p (N - p).toNat < q := fun z => by
      obtain ⟨k, hk, e⟩ := anF_iff.mp (iff.mp z)
      exact h k hk e
    have lw : ∀ (Kn : List Value → q_M → Prop) (Kr : Option Value → q_M → Prop), wX12_fitting_0 [.ref (B + 544), .int (zI it), .int (zI p), .int (zI q), .int (zI p)] (st T nx rc rs R G) Kn Kr = Kn [.ref (B + 544), .int (zI it), .int (zI p), .int (zI q), .int (zI q)] (st T nx rc rs R G) := fun Kn Kr => by
      have w := q_for eX12_fitting_0 (fun _ _ => lX12_fitting_0) (fun k => [.ref (B + 544), .int (zI it), .int (zI p), .int (zI q), .int (zI (p + k))]) (fun _ => st T nx rc rs R G) (q - p).toNat (fun k hk Kn Kf hh => body k (by omega) (h k hk) Kn _ Kf hh) (fun Kt Kf hh => by
        have e : p + (((q - p).toNat : Nat) : Int) = q := by omega
        have hz : ¬ q < q := by omega
        rw [e]
        simp (disch := omega) only [↓wcX12_fitting_0.eq_1, ↓k_mk, ↓k_sq, ↓k_sk, ↓k_bk, ↓k_if, ↓k_te, ↓k_cm, ↓k_cz, ↓k_an2, ↓k_or2, ↓k_no, ↓k_ci, ↓k_l0, ↓k_r0, ↓k_se0, ↓k_ic0, ↓k_l1, ↓k_r1, ↓k_se1, ↓k_ic1, ↓k_de1, ↓k_tk1, ↓k_l2, ↓k_r2, ↓k_se2, ↓k_ic2, ↓k_de2, ↓k_tk2, ↓k_l3, ↓k_r3, ↓k_se3, ↓k_ic3, ↓k_de3, ↓k_tk3, ↓k_l4, ↓k_r4, ↓k_se4, ↓k_ic4, ↓k_de4, ↓k_tk4, ↓k_l5, ↓k_r5, ↓k_se5, ↓k_ic5, ↓k_de5, ↓k_tk5, ↓k_l6, ↓k_r6, ↓k_se6, ↓k_ic6, ↓k_de6, ↓k_tk6, ↓k_l7, ↓k_r7, ↓k_se7, ↓k_ic7, ↓k_de7, ↓k_tk7, ↓k_l8, ↓k_r8, ↓k_se8, ↓k_ic8, ↓k_de8, ↓k_tk8, ↓k_l9, ↓k_r9, ↓k_se9, ↓k_ic9, ↓k_de9, ↓k_tk9, ↓k_l10, ↓k_r10, ↓k_se10, ↓k_ic10, ↓k_de10, ↓k_tk10, ↓k_l11, ↓k_r11, ↓k_se11, ↓k_ic11, ↓k_de11, ↓k_tk11, ↓k_l12, ↓k_r12, ↓k_se12, ↓k_ic12, ↓k_de12, ↓k_tk12, ↓k_l13, ↓k_r13, ↓k_se13, ↓k_ic13, ↓k_de13, ↓k_tk13, ↓k_l14, ↓k_r14, ↓k_se14, ↓k_ic14, ↓k_de14, ↓k_tk14, ↓k_l15, ↓k_r15, ↓k_se15, ↓k_ic15, ↓k_de15, ↓k_tk15, ↓k_l16, ↓k_r16, ↓k_se16, ↓k_ic16, ↓k_de16, ↓k_tk16, ↓k_l17, ↓k_r17, ↓k_se17, ↓k_ic17, ↓k_de17, ↓k_tk17, ↓k_l18, ↓k_r18, ↓k_se18, ↓k_ic18, ↓k_de18, ↓k_tk18, ↓k_l19, ↓k_r19, ↓k_se19, ↓k_ic19, ↓k_de19, ↓k_tk19, ↓k_l20, ↓k_r20, ↓k_se20, ↓k_ic20, ↓k_de20, ↓k_tk20, ↓k_l21, ↓k_r21, ↓k_se21, ↓k_ic21, ↓k_de21, ↓k_tk21, ↓k_l22, ↓k_r22, ↓k_se22, ↓k_ic22, ↓k_de22, ↓k_tk22, ↓k_l23, ↓k_r23, ↓k_se23, ↓k_ic23, ↓k_de23, ↓k_tk23, ↓k_l24, ↓k_r24, ↓k_se24, ↓k_ic24, ↓k_de24, ↓k_tk24, ↓k_l25, ↓k_r25, ↓k_se25, ↓k_ic25, ↓k_de25, ↓k_tk25, ↓k_k, ↓k_kn, ↓k_kl, ↓k_kln, ↓k_il, ↓k_2, ↓k_1, ↓k_2c, ↓k_2l, ↓k_ac, ↓k_an, ↓k_cs, ↓k_cv, ↓k_fi, ↓k_fr, ↓k_ai, ↓k_az, ↓k_ar, ↓k_sai, ↓k_saz, ↓k_soa, ↓k_sof, ↓k_spf, ↓k_sx, ↓k_blk, ↓k_sset, ↓k_sdec, ↓k_sri, ↓k_srv, ↓k_srr, ↓k_nop, ↓k_add, ↓k_sub, ↓k_mul, ↓k_min, ↓k_max, ↓k_shr, ↓k_shl, ↓k_or, ↓k_ilz, ↓k_addl, ↓k_rt, ↓k_rb, ↓k_rbz, ↓k_rsi, ↓k_rsr, ↓k_rsv, ↓reduceIte, hz, List.length_cons, List.length_nil, List.forall_mem_cons, List.not_mem_nil, Value.category, true_and, and_true, false_and, and_false, or_true, true_or, or_false, false_or, Nat.zero_le, forall_const, implies_true, false_implies, Nat.zero_add, Nat.reduceAdd, Nat.reduceLT, Nat.reduceLeDiff, Nat.le_refl, not_true_eq_false, not_false_eq_true, r_eq, r_ne, r_lt, r_ge, r_gt, r_le, bz_ne, nn_toNat, cn_of, cn_0, cn_1, i10, Int.reduceLE, Int.reduceLT, Int.reduceEq, bz_T, bz_F, ite_self, mulc, st_bud]
        exact hh) Kn Kr
      rw [show p + ((0 : Nat) : Int) = p by omega, show p + (((q - p).toNat : Nat) : Int) = q by omega] at w
      exact w
    have e : ftc ft X N it p q = it := by
      unfold ftc
      exact if_neg na
    rw [e]
    clear row hX hft iff body
    simp (disch := omega) only [↓fX12_fitting.eq_1, ↓uX12_fitting, ↓k_mk, ↓k_sq, ↓k_sk, ↓k_bk, ↓k_if, ↓k_te, ↓k_cm, ↓k_cz, ↓k_an2, ↓k_or2, ↓k_no, ↓k_ci, ↓k_l0, ↓k_r0, ↓k_se0, ↓k_ic0, ↓k_l1, ↓k_r1, ↓k_se1, ↓k_ic1, ↓k_de1, ↓k_tk1, ↓k_l2, ↓k_r2, ↓k_se2, ↓k_ic2, ↓k_de2, ↓k_tk2, ↓k_l3, ↓k_r3, ↓k_se3, ↓k_ic3, ↓k_de3, ↓k_tk3, ↓k_l4, ↓k_r4, ↓k_se4, ↓k_ic4, ↓k_de4, ↓k_tk4, ↓k_l5, ↓k_r5, ↓k_se5, ↓k_ic5, ↓k_de5, ↓k_tk5, ↓k_l6, ↓k_r6, ↓k_se6, ↓k_ic6, ↓k_de6, ↓k_tk6, ↓k_l7, ↓k_r7, ↓k_se7, ↓k_ic7, ↓k_de7, ↓k_tk7, ↓k_l8, ↓k_r8, ↓k_se8, ↓k_ic8, ↓k_de8, ↓k_tk8, ↓k_l9, ↓k_r9, ↓k_se9, ↓k_ic9, ↓k_de9, ↓k_tk9, ↓k_l10, ↓k_r10, ↓k_se10, ↓k_ic10, ↓k_de10, ↓k_tk10, ↓k_l11, ↓k_r11, ↓k_se11, ↓k_ic11, ↓k_de11, ↓k_tk11, ↓k_l12, ↓k_r12, ↓k_se12, ↓k_ic12, ↓k_de12, ↓k_tk12, ↓k_l13, ↓k_r13, ↓k_se13, ↓k_ic13, ↓k_de13, ↓k_tk13, ↓k_l14, ↓k_r14, ↓k_se14, ↓k_ic14, ↓k_de14, ↓k_tk14, ↓k_l15, ↓k_r15, ↓k_se15, ↓k_ic15, ↓k_de15, ↓k_tk15, ↓k_l16, ↓k_r16, ↓k_se16, ↓k_ic16, ↓k_de16, ↓k_tk16, ↓k_l17, ↓k_r17, ↓k_se17, ↓k_ic17, ↓k_de17, ↓k_tk17, ↓k_l18, ↓k_r18, ↓k_se18, ↓k_ic18, ↓k_de18, ↓k_tk18, ↓k_l19, ↓k_r19, ↓k_se19, ↓k_ic19, ↓k_de19, ↓k_tk19, ↓k_l20, ↓k_r20, ↓k_se20, ↓k_ic20, ↓k_de20, ↓k_tk20, ↓k_l21, ↓k_r21, ↓k_se21, ↓k_ic21, ↓k_de21, ↓k_tk21, ↓k_l22, ↓k_r22, ↓k_se22, ↓k_ic22, ↓k_de22, ↓k_tk22, ↓k_l23, ↓k_r23, ↓k_se23, ↓k_ic23, ↓k_de23, ↓k_tk23, ↓k_l24, ↓k_r24, ↓k_se24, ↓k_ic24, ↓k_de24, ↓k_tk24, ↓k_l25, ↓k_r25, ↓k_se25, ↓k_ic25, ↓k_de25, ↓k_tk25, ↓k_k, ↓k_kn, ↓k_kl, ↓k_kln, ↓k_il, ↓k_2, ↓k_1, ↓k_2c, ↓k_2l, ↓k_ac, ↓k_an, ↓k_cs, ↓k_cv, ↓k_fi, ↓k_fr, ↓k_ai, ↓k_az, ↓k_ar, ↓k_sai, ↓k_saz, ↓k_soa, ↓k_sof, ↓k_spf, ↓k_sx, ↓k_blk, ↓k_sset, ↓k_sdec, ↓k_sri, ↓k_srv, ↓k_srr, ↓k_nop, ↓k_add, ↓k_sub, ↓k_mul, ↓k_min, ↓k_max, ↓k_shr, ↓k_shl, ↓k_or, ↓k_ilz, ↓k_addl, ↓k_rt, ↓k_rb, ↓k_rbz, ↓k_rsi, ↓k_rsr, ↓k_rsv, ↓reduceIte, ↓lw, List.length_cons, List.length_nil, List.forall_mem_cons, List.not_mem_nil, Value.category, true_and, and_true, false_and, and_false, or_true, true_or, or_false, false_or, Nat.zero_le, forall_const, implies_true, false_implies, Nat.zero_add, Nat.reduceAdd, Nat.reduceLT, Nat.reduceLeDiff, Nat.le_refl, not_true_eq_false, not_false_eq_true, r_eq, r_ne, r_lt, r_ge, r_gt, r_le, bz_ne, nn_toNat, cn_of, cn_0, cn_1, i10, Int.reduceLE, Int.reduceLT, Int.reduceEq, bz_T, bz_F, ite_self, mulc, st_bud]
  · have u := Classical.byContradiction j2
    have ef := fsN_first (ft := ft) (it := it) (j := j) (m := (N - p).toNat) (p := p) (by omega) j3 u
    have e : ftc ft X N it p q = X (p + j) := by
      unfold ftc
      rw [ef, if_pos (by omega)]
    obtain ⟨r1, r2, r3⟩ := row j (by omega)
    have lw : ∀ (Kn : List Value → q_M → Prop) (Kr : Option Value → q_M → Prop), wX12_fitting_0 [.ref (B + 544), .int (zI it), .int (zI p), .int (zI q), .int (zI p)] (st T nx rc rs R G) Kn Kr = Kr (some (.int (zI (X (p + j))))) (st T nx rc rs R G) := fun Kn Kr => by
      have w := q_forR eX12_fitting_0 (fun _ _ => lX12_fitting_0) (fun k => [.ref (B + 544), .int (zI it), .int (zI p), .int (zI q), .int (zI (p + k))]) (fun _ => st T nx rc rs R G) j (some (.int (zI (X (p + j))))) (st T nx rc rs R G) (fun k hk Kn Kr Kf hh => body k (by omega) (j3 k hk) Kn Kr Kf hh) (fun Kn Kr Kf hh => by
        have hz : p + (j : Int) < q := by omega
        rw [hft it _ (by omega) (by omega), ← r1] at u
        rw [← r1] at r2 r3 hh
        clear row hX hft iff body e
        simp (disch := omega) only [↓wcX12_fitting_0.eq_1, ↓wsX12_fitting_0.eq_1, ↓(k_cs2 dX12_fitsCell), ↓k_mk, ↓k_sq, ↓k_sk, ↓k_bk, ↓k_if, ↓k_te, ↓k_cm, ↓k_cz, ↓k_an2, ↓k_or2, ↓k_no, ↓k_ci, ↓k_l0, ↓k_r0, ↓k_se0, ↓k_ic0, ↓k_l1, ↓k_r1, ↓k_se1, ↓k_ic1, ↓k_de1, ↓k_tk1, ↓k_l2, ↓k_r2, ↓k_se2, ↓k_ic2, ↓k_de2, ↓k_tk2, ↓k_l3, ↓k_r3, ↓k_se3, ↓k_ic3, ↓k_de3, ↓k_tk3, ↓k_l4, ↓k_r4, ↓k_se4, ↓k_ic4, ↓k_de4, ↓k_tk4, ↓k_l5, ↓k_r5, ↓k_se5, ↓k_ic5, ↓k_de5, ↓k_tk5, ↓k_l6, ↓k_r6, ↓k_se6, ↓k_ic6, ↓k_de6, ↓k_tk6, ↓k_l7, ↓k_r7, ↓k_se7, ↓k_ic7, ↓k_de7, ↓k_tk7, ↓k_l8, ↓k_r8, ↓k_se8, ↓k_ic8, ↓k_de8, ↓k_tk8, ↓k_l9, ↓k_r9, ↓k_se9, ↓k_ic9, ↓k_de9, ↓k_tk9, ↓k_l10, ↓k_r10, ↓k_se10, ↓k_ic10, ↓k_de10, ↓k_tk10, ↓k_l11, ↓k_r11, ↓k_se11, ↓k_ic11, ↓k_de11, ↓k_tk11, ↓k_l12, ↓k_r12, ↓k_se12, ↓k_ic12, ↓k_de12, ↓k_tk12, ↓k_l13, ↓k_r13, ↓k_se13, ↓k_ic13, ↓k_de13, ↓k_tk13, ↓k_l14, ↓k_r14, ↓k_se14, ↓k_ic14, ↓k_de14, ↓k_tk14, ↓k_l15, ↓k_r15, ↓k_se15, ↓k_ic15, ↓k_de15, ↓k_tk15, ↓k_l16, ↓k_r16, ↓k_se16, ↓k_ic16, ↓k_de16, ↓k_tk16, ↓k_l17, ↓k_r17, ↓k_se17, ↓k_ic17, ↓k_de17, ↓k_tk17, ↓k_l18, ↓k_r18, ↓k_se18, ↓k_ic18, ↓k_de18, ↓k_tk18, ↓k_l19, ↓k_r19, ↓k_se19, ↓k_ic19, ↓k_de19, ↓k_tk19, ↓k_l20, ↓k_r20, ↓k_se20, ↓k_ic20, ↓k_de20, ↓k_tk20, ↓k_l21, ↓k_r21, ↓k_se21, ↓k_ic21, ↓k_de21, ↓k_tk21, ↓k_l22, ↓k_r22, ↓k_se22, ↓k_ic22, ↓k_de22, ↓k_tk22, ↓k_l23, ↓k_r23, ↓k_se23, ↓k_ic23, ↓k_de23, ↓k_tk23, ↓k_l24, ↓k_r24, ↓k_se24, ↓k_ic24, ↓k_de24, ↓k_tk24, ↓k_l25, ↓k_r25, ↓k_se25, ↓k_ic25, ↓k_de25, ↓k_tk25, ↓k_k, ↓k_kn, ↓k_kl, ↓k_kln, ↓k_il, ↓k_2, ↓k_1, ↓k_2c, ↓k_2l, ↓k_ac, ↓k_an, ↓k_cs, ↓k_cv, ↓k_fi, ↓k_fr, ↓k_ai, ↓k_az, ↓k_ar, ↓k_sai, ↓k_saz, ↓k_soa, ↓k_sof, ↓k_spf, ↓k_sx, ↓k_blk, ↓k_sset, ↓k_sdec, ↓k_sri, ↓k_srv, ↓k_srr, ↓k_nop, ↓k_add, ↓k_sub, ↓k_mul, ↓k_min, ↓k_max, ↓k_shr, ↓k_shl, ↓k_or, ↓k_ilz, ↓k_addl, ↓k_rt, ↓k_rb, ↓k_rbz, ↓k_rsi, ↓k_rsr, ↓k_rsv, ↓reduceIte, hz, ↓(c12_fitsT u), ↓xr12_46 hM, ↓xa12_46 hM, ↓xs12_46 hM, ↓xo12_46 hM, ↓xc12_46 hM, ↓xd12_46 hM, List.length_cons, List.length_nil, List.forall_mem_cons, List.not_mem_nil, Value.category, true_and, and_true, false_and, and_false, or_true, true_or, or_false, false_or, Nat.zero_le, forall_const, implies_true, false_implies, Nat.zero_add, Nat.reduceAdd, Nat.reduceLT, Nat.reduceLeDiff, Nat.le_refl, not_true_eq_false, not_false_eq_true, r_eq, r_ne, r_lt, r_ge, r_gt, r_le, bz_ne, nn_toNat, cn_of, cn_0, cn_1, i10, Int.reduceLE, Int.reduceLT, Int.reduceEq, bz_T, bz_F, ite_self, mulc, st_bud]
        exact hh) Kn Kr
      rw [show p + ((0 : Nat) : Int) = p by omega] at w
      exact w
    rw [e]
    clear row hX hft iff body
    simp (disch := omega) only [↓fX12_fitting.eq_1, ↓uX12_fitting, ↓k_mk, ↓k_sq, ↓k_sk, ↓k_bk, ↓k_if, ↓k_te, ↓k_cm, ↓k_cz, ↓k_an2, ↓k_or2, ↓k_no, ↓k_ci, ↓k_l0, ↓k_r0, ↓k_se0, ↓k_ic0, ↓k_l1, ↓k_r1, ↓k_se1, ↓k_ic1, ↓k_de1, ↓k_tk1, ↓k_l2, ↓k_r2, ↓k_se2, ↓k_ic2, ↓k_de2, ↓k_tk2, ↓k_l3, ↓k_r3, ↓k_se3, ↓k_ic3, ↓k_de3, ↓k_tk3, ↓k_l4, ↓k_r4, ↓k_se4, ↓k_ic4, ↓k_de4, ↓k_tk4, ↓k_l5, ↓k_r5, ↓k_se5, ↓k_ic5, ↓k_de5, ↓k_tk5, ↓k_l6, ↓k_r6, ↓k_se6, ↓k_ic6, ↓k_de6, ↓k_tk6, ↓k_l7, ↓k_r7, ↓k_se7, ↓k_ic7, ↓k_de7, ↓k_tk7, ↓k_l8, ↓k_r8, ↓k_se8, ↓k_ic8, ↓k_de8, ↓k_tk8, ↓k_l9, ↓k_r9, ↓k_se9, ↓k_ic9, ↓k_de9, ↓k_tk9, ↓k_l10, ↓k_r10, ↓k_se10, ↓k_ic10, ↓k_de10, ↓k_tk10, ↓k_l11, ↓k_r11, ↓k_se11, ↓k_ic11, ↓k_de11, ↓k_tk11, ↓k_l12, ↓k_r12, ↓k_se12, ↓k_ic12, ↓k_de12, ↓k_tk12, ↓k_l13, ↓k_r13, ↓k_se13, ↓k_ic13, ↓k_de13, ↓k_tk13, ↓k_l14, ↓k_r14, ↓k_se14, ↓k_ic14, ↓k_de14, ↓k_tk14, ↓k_l15, ↓k_r15, ↓k_se15, ↓k_ic15, ↓k_de15, ↓k_tk15, ↓k_l16, ↓k_r16, ↓k_se16, ↓k_ic16, ↓k_de16, ↓k_tk16, ↓k_l17, ↓k_r17, ↓k_se17, ↓k_ic17, ↓k_de17, ↓k_tk17, ↓k_l18, ↓k_r18, ↓k_se18, ↓k_ic18, ↓k_de18, ↓k_tk18, ↓k_l19, ↓k_r19, ↓k_se19, ↓k_ic19, ↓k_de19, ↓k_tk19, ↓k_l20, ↓k_r20, ↓k_se20, ↓k_ic20, ↓k_de20, ↓k_tk20, ↓k_l21, ↓k_r21, ↓k_se21, ↓k_ic21, ↓k_de21, ↓k_tk21, ↓k_l22, ↓k_r22, ↓k_se22, ↓k_ic22, ↓k_de22, ↓k_tk22, ↓k_l23, ↓k_r23, ↓k_se23, ↓k_ic23, ↓k_de23, ↓k_tk23, ↓k_l24, ↓k_r24, ↓k_se24, ↓k_ic24, ↓k_de24, ↓k_tk24, ↓k_l25, ↓k_r25, ↓k_se25, ↓k_ic25, ↓k_de25, ↓k_tk25, ↓k_k, ↓k_kn, ↓k_kl, ↓k_kln, ↓k_il, ↓k_2, ↓k_1, ↓k_2c, ↓k_2l, ↓k_ac, ↓k_an, ↓k_cs, ↓k_cv, ↓k_fi, ↓k_fr, ↓k_ai, ↓k_az, ↓k_ar, ↓k_sai, ↓k_saz, ↓k_soa, ↓k_sof, ↓k_spf, ↓k_sx, ↓k_blk, ↓k_sset, ↓k_sdec, ↓k_sri, ↓k_srv, ↓k_srr, ↓k_nop, ↓k_add, ↓k_sub, ↓k_mul, ↓k_min, ↓k_max, ↓k_shr, ↓k_shl, ↓k_or, ↓k_ilz, ↓k_addl, ↓k_rt, ↓k_rb, ↓k_rbz, ↓k_rsi, ↓k_rsr, ↓k_rsv, ↓reduceIte, ↓lw, List.length_cons, List.length_nil, List.forall_mem_cons, List.not_mem_nil, Value.category, true_and, and_true, false_and, and_false, or_true, true_or, or_false, false_or, Nat.zero_le, forall_const, implies_true, false_implies, Nat.zero_add, Nat.reduceAdd, Nat.reduceLT, Nat.reduceLeDiff, Nat.le_refl, not_true_eq_false, not_false_eq_true, r_eq, r_ne, r_lt, r_ge, r_gt, r_le, bz_ne, nn_toNat, cn_of, cn_0, cn_1, i10, Int.reduceLE, Int.reduceLT, Int.reduceEq, bz_T, bz_F, ite_self, mulc, st_bud]
/-- the reference's forms -/
def TRC (G : Nat → Int → Int) (B : Nat) (v nf : Int) (sf n C : Int → Int) : Prop := G (B + 544 + 2) v = nf ∧ (0 ≤ nf ∧ nf ≤ 14) ∧ ∀ f, 0 ≤ f → f < nf → G (B + 544 + 3) (14 * v + f) = sf f ∧ (0 ≤ sf f ∧ sf f ≤ 5) ∧ G (B + 544 + 4) (14 * v + f) = n f ∧ (1 ≤ n f ∧ n f ≤ 5) ∧ ∀ k, 0 ≤ k → k < n f → G (B + 544 + 5) (5 * (14 * v + f) + k) = C (5 * f + k) ∧ itR (C (5 * f + k))
theorem TRC_fr {G G' : Nat → Int → Int} {B : Nat} {v nf : Int} {sf n C : Int → Int} (h : ∀ x, B + 544 + 2 ≤ x → x ≤ B + 544 + 5 → G' x = G x) (t : TRC G B v nf sf n C) : TRC G' B v nf sf n C := by
  unfold TRC at t ⊢
  rw [h (B + 544 + 2) (by omega) (by omega), h (B + 544 + 3) (by omega) (by omega), h (B + 544 + 4) (by omega) (by omega), h (B + 544 + 5) (by omega) (by omega)]
  exact t
theorem rFr {I : Int} {P : Int → Int → Int → Int} {ft ft' : Int → Int → Bool} {C n C' n' : Int → Int} {j f f' k q : Int} (hn : n' f' = n f) (hc : ∀ x, 0 ≤ x → x < n f → C' (5 * f' + x) = C (5 * f + x)) (k0 : 0 ≤ k) (hft : ∀ it x, q ≤ x → x < j → ft' it x = ft it x) : rF I P ft' C' n' j f' k q = rF I P ft C n j f k q := by
  unfold rF
  rw [hn, il_congr (g := gC C' f') (g' := gC C f) _ _ fun x x0 x1 => hc x (by omega) (by omega)]
  exact rP_ft hft
theorem k_idxP6 {x0 x1 x5 : Value} {s i j : Int} {μ : q_M} {K : Int32 → q_M → Prop} : (q_2 q_giadd (q_2 q_giadd (q_2 q_gimul (q_k 289) (q_l 2)) (q_2 q_gimul (q_k 17) (q_l 3))) (q_l 4)) [x0, x1, .int (zI s), .int (zI i), .int (zI j), x5] μ K = K (zI (289 * s + 17 * i + j)) μ := by
  simp (disch := omega) only [↓k_mk, ↓k_sq, ↓k_sk, ↓k_bk, ↓k_if, ↓k_te, ↓k_cm, ↓k_cz, ↓k_an2, ↓k_or2, ↓k_no, ↓k_ci, ↓k_l0, ↓k_r0, ↓k_se0, ↓k_ic0, ↓k_l1, ↓k_r1, ↓k_se1, ↓k_ic1, ↓k_de1, ↓k_tk1, ↓k_l2, ↓k_r2, ↓k_se2, ↓k_ic2, ↓k_de2, ↓k_tk2, ↓k_l3, ↓k_r3, ↓k_se3, ↓k_ic3, ↓k_de3, ↓k_tk3, ↓k_l4, ↓k_r4, ↓k_se4, ↓k_ic4, ↓k_de4, ↓k_tk4, ↓k_l5, ↓k_r5, ↓k_se5, ↓k_ic5, ↓k_de5, ↓k_tk5, ↓k_l6, ↓k_r6, ↓k_se6, ↓k_ic6, ↓k_de6, ↓k_tk6, ↓k_l7, ↓k_r7, ↓k_se7, ↓k_ic7, ↓k_de7, ↓k_tk7, ↓k_l8, ↓k_r8, ↓k_se8, ↓k_ic8, ↓k_de8, ↓k_tk8, ↓k_l9, ↓k_r9, ↓k_se9, ↓k_ic9, ↓k_de9, ↓k_tk9, ↓k_l10, ↓k_r10, ↓k_se10, ↓k_ic10, ↓k_de10, ↓k_tk10, ↓k_l11, ↓k_r11, ↓k_se11, ↓k_ic11, ↓k_de11, ↓k_tk11, ↓k_l12, ↓k_r12, ↓k_se12, ↓k_ic12, ↓k_de12, ↓k_tk12, ↓k_l13, ↓k_r13, ↓k_se13, ↓k_ic13, ↓k_de13, ↓k_tk13, ↓k_l14, ↓k_r14, ↓k_se14, ↓k_ic14, ↓k_de14, ↓k_tk14, ↓k_l15, ↓k_r15, ↓k_se15, ↓k_ic15, ↓k_de15, ↓k_tk15, ↓k_l16, ↓k_r16, ↓k_se16, ↓k_ic16, ↓k_de16, ↓k_tk16, ↓k_l17, ↓k_r17, ↓k_se17, ↓k_ic17, ↓k_de17, ↓k_tk17, ↓k_l18, ↓k_r18, ↓k_se18, ↓k_ic18, ↓k_de18, ↓k_tk18, ↓k_l19, ↓k_r19, ↓k_se19, ↓k_ic19, ↓k_de19, ↓k_tk19, ↓k_l20, ↓k_r20, ↓k_se20, ↓k_ic20, ↓k_de20, ↓k_tk20, ↓k_l21, ↓k_r21, ↓k_se21, ↓k_ic21, ↓k_de21, ↓k_tk21, ↓k_l22, ↓k_r22, ↓k_se22, ↓k_ic22, ↓k_de22, ↓k_tk22, ↓k_l23, ↓k_r23, ↓k_se23, ↓k_ic23, ↓k_de23, ↓k_tk23, ↓k_l24, ↓k_r24, ↓k_se24, ↓k_ic24, ↓k_de24, ↓k_tk24, ↓k_l25, ↓k_r25, ↓k_se25, ↓k_ic25, ↓k_de25, ↓k_tk25, ↓k_k, ↓k_kn, ↓k_kl, ↓k_kln, ↓k_il, ↓k_2, ↓k_1, ↓k_2c, ↓k_2l, ↓k_ac, ↓k_an, ↓k_cs, ↓k_cv, ↓k_fi, ↓k_fr, ↓k_ai, ↓k_az, ↓k_ar, ↓k_sai, ↓k_saz, ↓k_soa, ↓k_sof, ↓k_spf, ↓k_sx, ↓k_blk, ↓k_sset, ↓k_sdec, ↓k_sri, ↓k_srv, ↓k_srr, ↓k_nop, ↓k_add, ↓k_sub, ↓k_mul, ↓k_min, ↓k_max, ↓k_shr, ↓k_shl, ↓k_or, ↓k_ilz, ↓k_addl, ↓k_rt, ↓k_rb, ↓k_rbz, ↓k_rsi, ↓k_rsr, ↓k_rsv, ↓reduceIte, eq_self, List.length_cons, List.length_nil, List.forall_mem_cons, List.not_mem_nil, Value.category, true_and, and_true, false_and, and_false, or_true, true_or, or_false, false_or, Nat.zero_le, forall_const, implies_true, false_implies, Nat.zero_add, Nat.reduceAdd, Nat.reduceLT, Nat.reduceLeDiff, Nat.le_refl, not_true_eq_false, not_false_eq_true, r_eq, r_ne, r_lt, r_ge, r_gt, r_le, bz_ne, nn_toNat, cn_of, cn_0, cn_1, i10, Int.reduceLE, Int.reduceLT, Int.reduceEq, bz_T, bz_F, ite_self, mulc, st_bud]
theorem k_14f {T : Nat → Option q_T} {nx rc rs B : Nat} {R : Nat → Nat → Option Value} {G : Nat → Int → Int} {v nf : Int} {x2 x3 x4 x5 : Value} {K : Int32 → q_M → Prop} (hM : Ly T R (B + 544) (L12 (B + 544))) (v0 : 0 ≤ v) (v1 : v ≤ 1) (h : G (B + 544 + 2) v = nf) : (q_2 q_giadd (q_2 q_gimul (q_k 14) (q_l 1)) (q_ai (q_fr 12 1 (q_r 0)) (q_l 1))) [.ref (B + 544), .int (zI v), x2, x3, x4, x5] (st T nx rc rs R G) K = K (zI (14 * v + nf)) (st T nx rc rs R G) := by
  simp (disch := omega) only [↓k_mk, ↓k_sq, ↓k_sk, ↓k_bk, ↓k_if, ↓k_te, ↓k_cm, ↓k_cz, ↓k_an2, ↓k_or2, ↓k_no, ↓k_ci, ↓k_l0, ↓k_r0, ↓k_se0, ↓k_ic0, ↓k_l1, ↓k_r1, ↓k_se1, ↓k_ic1, ↓k_de1, ↓k_tk1, ↓k_l2, ↓k_r2, ↓k_se2, ↓k_ic2, ↓k_de2, ↓k_tk2, ↓k_l3, ↓k_r3, ↓k_se3, ↓k_ic3, ↓k_de3, ↓k_tk3, ↓k_l4, ↓k_r4, ↓k_se4, ↓k_ic4, ↓k_de4, ↓k_tk4, ↓k_l5, ↓k_r5, ↓k_se5, ↓k_ic5, ↓k_de5, ↓k_tk5, ↓k_l6, ↓k_r6, ↓k_se6, ↓k_ic6, ↓k_de6, ↓k_tk6, ↓k_l7, ↓k_r7, ↓k_se7, ↓k_ic7, ↓k_de7, ↓k_tk7, ↓k_l8, ↓k_r8, ↓k_se8, ↓k_ic8, ↓k_de8, ↓k_tk8, ↓k_l9, ↓k_r9, ↓k_se9, ↓k_ic9, ↓k_de9, ↓k_tk9, ↓k_l10, ↓k_r10, ↓k_se10, ↓k_ic10, ↓k_de10, ↓k_tk10, ↓k_l11, ↓k_r11, ↓k_se11, ↓k_ic11, ↓k_de11, ↓k_tk11, ↓k_l12, ↓k_r12, ↓k_se12, ↓k_ic12, ↓k_de12, ↓k_tk12, ↓k_l13, ↓k_r13, ↓k_se13, ↓k_ic13, ↓k_de13, ↓k_tk13, ↓k_l14, ↓k_r14, ↓k_se14, ↓k_ic14, ↓k_de14, ↓k_tk14, ↓k_l15, ↓k_r15, ↓k_se15, ↓k_ic15, ↓k_de15, ↓k_tk15, ↓k_l16, ↓k_r16, ↓k_se16, ↓k_ic16, ↓k_de16, ↓k_tk16, ↓k_l17, ↓k_r17, ↓k_se17, ↓k_ic17, ↓k_de17, ↓k_tk17, ↓k_l18, ↓k_r18, ↓k_se18, ↓k_ic18, ↓k_de18, ↓k_tk18, ↓k_l19, ↓k_r19, ↓k_se19, ↓k_ic19, ↓k_de19, ↓k_tk19, ↓k_l20, ↓k_r20, ↓k_se20, ↓k_ic20, ↓k_de20, ↓k_tk20, ↓k_l21, ↓k_r21, ↓k_se21, ↓k_ic21, ↓k_de21, ↓k_tk21, ↓k_l22, ↓k_r22, ↓k_se22, ↓k_ic22, ↓k_de22, ↓k_tk22, ↓k_l23, ↓k_r23, ↓k_se23, ↓k_ic23, ↓k_de23, ↓k_tk23, ↓k_l24, ↓k_r24, ↓k_se24, ↓k_ic24, ↓k_de24, ↓k_tk24, ↓k_l25, ↓k_r25, ↓k_se25, ↓k_ic25, ↓k_de25, ↓k_tk25, ↓k_k, ↓k_kn, ↓k_kl, ↓k_kln, ↓k_il, ↓k_2, ↓k_1, ↓k_2c, ↓k_2l, ↓k_ac, ↓k_an, ↓k_cs, ↓k_cv, ↓k_fi, ↓k_fr, ↓k_ai, ↓k_az, ↓k_ar, ↓k_sai, ↓k_saz, ↓k_soa, ↓k_sof, ↓k_spf, ↓k_sx, ↓k_blk, ↓k_sset, ↓k_sdec, ↓k_sri, ↓k_srv, ↓k_srr, ↓k_nop, ↓k_add, ↓k_sub, ↓k_mul, ↓k_min, ↓k_max, ↓k_shr, ↓k_shl, ↓k_or, ↓k_ilz, ↓k_addl, ↓k_rt, ↓k_rb, ↓k_rbz, ↓k_rsi, ↓k_rsr, ↓k_rsv, ↓reduceIte, h, ↓xr12_1 hM, ↓xa12_1 hM, ↓xs12_1 hM, ↓xo12_1 hM, ↓xc12_1 hM, ↓xd12_1 hM, List.length_cons, List.length_nil, List.forall_mem_cons, List.not_mem_nil, Value.category, true_and, and_true, false_and, and_false, or_true, true_or, or_false, false_or, Nat.zero_le, forall_const, implies_true, false_implies, Nat.zero_add, Nat.reduceAdd, Nat.reduceLT, Nat.reduceLeDiff, Nat.le_refl, not_true_eq_false, not_false_eq_true, r_eq, r_ne, r_lt, r_ge, r_gt, r_le, bz_ne, nn_toNat, cn_of, cn_0, cn_1, i10, Int.reduceLE, Int.reduceLT, Int.reduceEq, bz_T, bz_F, ite_self, mulc, st_bud]
theorem c12_cheapForm {T : Nat → Option q_T} {nx rc rs B : Nat} {R : Nat → Nat → Option Value} {G : Nat → Int → Int} {v nf N : Int} {sf n C X : Int → Int} {ft : Int → Int → Bool} {Q : Int → Int → Int → Int} {s i j f : Int} (hM : Ly T R (B + 544) (L12 (B + 544))) (trc : TRC G B v nf sf n C) (v0 : 0 ≤ v) (v1 : v ≤ 1) (pb : PBN (G (B + 544 + 50))) (hQt : Q = pq 1000000 (G (B + 544 + 50))) (hft : ∀ it x, 0 ≤ x → x < N → ft it x = sutB it (X x)) (hX : ∀ x, 0 ≤ x → x < N → G (B + 544 + 39) x = X x ∧ -2147483648 ≤ X x ∧ X x < 2147483648) (n16 : N ≤ 16) (s0 : 0 ≤ s) (s1 : s ≤ 5) (i0 : 0 ≤ i) (ij : i ≤ j) (jN : j ≤ N) (hf : FsF nf sf n C ft Q s i j f) :
    ∃ G', (∀ x, ¬ x = (B + 544 + 51) → G' x = G x) ∧ (∀ k p, 0 ≤ k → k ≤ n f → i ≤ p → p ≤ j → G' (B + 544 + 51) (17 * k + p) = rF 1000000 Q ft C n j f k p) ∧ ∀ K : Option Value → q_M → Prop, fX12_cheapForm [.ref (B + 544), .int (zI v), .int (zI s), .int (zI i), .int (zI j)] (st T nx rc rs R G) K = K (some (.int (zI (14 * v + f)))) (st T nx rc rs R G') := by
  obtain ⟨⟨f0, f1⟩, fs, fe, ff⟩ := hf
  have trc' := trc
  obtain ⟨c1, c2, c3⟩ := trc'
  obtain ⟨q, hq⟩ : ∃ q, q = Q s i j := ⟨_, rfl⟩
  have eq : G (B + 544 + 50) (289 * s + 17 * i + j) = q := by rw [hq, hQt, pq_in ⟨s0, s1⟩]
  have qb := pb s i j s0 s1 i0 ij (by omega)
  rw [eq] at qb
  rw [← hq] at fe ff
  -- one form's price, from any memory with other dear rows
  have price : ∀ (M : Nat → Int → Int) (x : Int), (∀ y, ¬ y = (B + 544 + 51) → M y = G y) → 0 ≤ x → x < nf → ∃ M', (∀ y, ¬ y = (B + 544 + 51) → M' y = G y) ∧ (∀ k p, 0 ≤ k → k ≤ n x → i ≤ p → p ≤ j → M' (B + 544 + 51) (17 * k + p) = rF 1000000 Q ft C n j x k p) ∧ ∀ K : Option Value → q_M → Prop, fX12_formPrice [.ref (B + 544), .int (zI (14 * v + x)), .int (zI i), .int (zI j)] (st T nx 0 0 R M) K = K (some (.int (zI (rF 1000000 Q ft C n j x 0 i)))) (st T nx 0 0 R M') := fun M x hM' x0 x1 => by
    obtain ⟨d1, d2, d3, d4, d5⟩ := c3 x x0 x1
    obtain ⟨M', a1, a2, a3⟩ := c12_formPrice (T := T) (nx := nx) (rc := 0) (rs := 0) (R := R) (G := M) (f := 14 * v + x) (i := i) (j := j) hM (by rw [hM' _ (by omega)]; exact pb) (by omega) (by omega) i0 ij (by omega) (by rw [hM' _ (by omega), d3]; exact d4.1) (by rw [hM' _ (by omega), d3]; exact d4.2) (fun k k0 k1 => by
      rw [hM' (B + 544 + 4) (by omega), d3] at k1
      rw [hM' (B + 544 + 5) (by omega), (d5 k k0 k1).1]
      have := (d5 k k0 k1).2
      unfold itR at this
      omega) (fun p q1 q2 => by
      rw [hM' _ (by omega), (hX p (by omega) (by omega)).1]
      exact (hX p (by omega) (by omega)).2)
    have re : ∀ k p, 0 ≤ k → i ≤ p → rF 1000000 (pq 1000000 (M (B + 544 + 50))) (ftX (M (B + 544 + 39))) (M (B + 544 + 5)) (M (B + 544 + 4)) j (14 * v + x) k p = rF 1000000 Q ft C n j x k p := fun k p k0 p0 => by
      rw [hM' (B + 544 + 50) (by omega), hM' (B + 544 + 39) (by omega), hM' (B + 544 + 5) (by omega), hM' (B + 544 + 4) (by omega), ← hQt]
      exact rFr d3 (fun z z0 z1 => (d5 z z0 z1).1) k0 fun it z z0 z1 => by
        show sutB it (G (B + 544 + 39) z) = ft it z
        rw [(hX z (by omega) (by omega)).1, hft it z (by omega) (by omega)]
    refine ⟨M', fun y hy => by rw [a1 y hy, hM' y hy], fun k p k0 k1 p0 p1 => ?_, fun K => ?_⟩
    · rw [a2 k p k0 (by rw [hM' _ (by omega), d3]; exact k1) p0 p1]
      exact re k p k0 p0
    · rw [← re 0 i (Int.le_refl _) (Int.le_refl _)]
      exact a3 K
  have key : ∀ m : Nat, (m : Int) ≤ f → ∃ M, (∀ y, ¬ y = (B + 544 + 51) → M y = G y) ∧ ∀ (Kn : List Value → q_M → Prop) (Kr : Option Value → q_M → Prop), q_wh wcX12_cheapForm_0 wsX12_cheapForm_0 [.ref (B + 544), .int (zI v), .int (zI s), .int (zI i), .int (zI j), .int (zI (14 * v + m))] (st T nx rc rs R M) Kn Kr → q_wh wcX12_cheapForm_0 wsX12_cheapForm_0 [.ref (B + 544), .int (zI v), .int (zI s), .int (zI i), .int (zI j), .int (zI (14 * v))] (st T nx rc rs R G) Kn Kr := by
    intro m
    induction m with
    | zero =>
      intro _
      exact ⟨G, fun _ _ => rfl, fun Kn Kr h => by
        rw [show 14 * v + ((0 : Nat) : Int) = 14 * v by omega] at h
        exact h⟩
    | succ m ih =>
      intro hm
      obtain ⟨M, p1, st1⟩ := ih (by omega)
      obtain ⟨d1, d2, d3, d4, d5⟩ := c3 m (by omega) (by omega)
      have m1 : M (B + 544 + 2) v = nf := by rw [p1 _ (by omega)]; exact c1
      have hz : 14 * v + (m : Int) < 14 * v + nf := by omega
      have e7 : 14 * v + ((m + 1 : Nat) : Int) = 14 * v + m + 1 := by omega
      have e2 : M (B + 544 + 3) (14 * v + m) = sf m := by rw [p1 _ (by omega)]; exact d1
      by_cases c : sf m = s
      · obtain ⟨M', a1, _, a3⟩ := price M m p1 (by omega) (by omega)
        have ne : ¬ rF 1000000 Q ft C n j m 0 i = q := ff m (by omega) (by omega) c
        have e3 : M' (B + 544 + 50) (289 * s + 17 * i + j) = q := by rw [a1 _ (by omega)]; exact eq
        obtain ⟨z, hz'⟩ : ∃ z, z = rF 1000000 Q ft C n j m 0 i := ⟨_, rfl⟩
        have zb : z ≤ 1000000 := by rw [hz']; exact rF_cap (by omega)
        have z0 : 0 ≤ z := by rw [hz', hQt]; exact rF_nn (by omega) fun s x y w1 w2 w3 => (pq_b (by omega) pb s (show 0 ≤ x by omega) w2 (by omega)).1
        rw [← hz'] at ne a3
        rw [c] at e2
        refine ⟨M', a1, fun Kn Kr h => st1 Kn Kr (q_backR (fun K Kf hk => ?_) h)⟩
        rw [e7] at hk
        have vb : 0 ≤ 14 * v + (m : Int) ∧ 14 * v + (m : Int) < 28 := by omega
        clear st1 ih p1 a1 price ff hX hft pb trc c3 d3 d4 d5
        simp (disch := omega) only [↓wcX12_cheapForm_0.eq_1, ↓wsX12_cheapForm_0.eq_1, ↓(k_cv3 dX12_formPrice (t12 hM)), ↓k_mk, ↓k_sq, ↓k_sk, ↓k_bk, ↓k_if, ↓k_te, ↓k_cm, ↓k_cz, ↓k_an2, ↓k_or2, ↓k_no, ↓k_ci, ↓k_l0, ↓k_r0, ↓k_se0, ↓k_ic0, ↓k_l1, ↓k_r1, ↓k_se1, ↓k_ic1, ↓k_de1, ↓k_tk1, ↓k_l2, ↓k_r2, ↓k_se2, ↓k_ic2, ↓k_de2, ↓k_tk2, ↓k_l3, ↓k_r3, ↓k_se3, ↓k_ic3, ↓k_de3, ↓k_tk3, ↓k_l4, ↓k_r4, ↓k_se4, ↓k_ic4, ↓k_de4, ↓k_tk4, ↓k_l5, ↓k_r5, ↓k_se5, ↓k_ic5, ↓k_de5, ↓k_tk5, ↓k_l6, ↓k_r6, ↓k_se6, ↓k_ic6, ↓k_de6, ↓k_tk6, ↓k_l7, ↓k_r7, ↓k_se7, ↓k_ic7, ↓k_de7, ↓k_tk7, ↓k_l8, ↓k_r8, ↓k_se8, ↓k_ic8, ↓k_de8, ↓k_tk8, ↓k_l9, ↓k_r9, ↓k_se9, ↓k_ic9, ↓k_de9, ↓k_tk9, ↓k_l10, ↓k_r10, ↓k_se10, ↓k_ic10, ↓k_de10, ↓k_tk10, ↓k_l11, ↓k_r11, ↓k_se11, ↓k_ic11, ↓k_de11, ↓k_tk11, ↓k_l12, ↓k_r12, ↓k_se12, ↓k_ic12, ↓k_de12, ↓k_tk12, ↓k_l13, ↓k_r13, ↓k_se13, ↓k_ic13, ↓k_de13, ↓k_tk13, ↓k_l14, ↓k_r14, ↓k_se14, ↓k_ic14, ↓k_de14, ↓k_tk14, ↓k_l15, ↓k_r15, ↓k_se15, ↓k_ic15, ↓k_de15, ↓k_tk15, ↓k_l16, ↓k_r16, ↓k_se16, ↓k_ic16, ↓k_de16, ↓k_tk16, ↓k_l17, ↓k_r17, ↓k_se17, ↓k_ic17, ↓k_de17, ↓k_tk17, ↓k_l18, ↓k_r18, ↓k_se18, ↓k_ic18, ↓k_de18, ↓k_tk18, ↓k_l19, ↓k_r19, ↓k_se19, ↓k_ic19, ↓k_de19, ↓k_tk19, ↓k_l20, ↓k_r20, ↓k_se20, ↓k_ic20, ↓k_de20, ↓k_tk20, ↓k_l21, ↓k_r21, ↓k_se21, ↓k_ic21, ↓k_de21, ↓k_tk21, ↓k_l22, ↓k_r22, ↓k_se22, ↓k_ic22, ↓k_de22, ↓k_tk22, ↓k_l23, ↓k_r23, ↓k_se23, ↓k_ic23, ↓k_de23, ↓k_tk23, ↓k_l24, ↓k_r24, ↓k_se24, ↓k_ic24, ↓k_de24, ↓k_tk24, ↓k_l25, ↓k_r25, ↓k_se25, ↓k_ic25, ↓k_de25, ↓k_tk25, ↓k_k, ↓k_kn, ↓k_kl, ↓k_kln, ↓k_il, ↓k_1, ↓k_2c, ↓k_2l, ↓k_ac, ↓k_an, ↓k_cs, ↓k_cv, ↓k_fi, ↓k_fr, ↓k_ai, ↓k_az, ↓k_ar, ↓k_sai, ↓k_saz, ↓k_soa, ↓k_sof, ↓k_spf, ↓k_sx, ↓k_blk, ↓k_sset, ↓k_sdec, ↓k_sri, ↓k_srv, ↓k_srr, ↓k_nop, ↓k_add, ↓k_sub, ↓k_mul, ↓k_min, ↓k_max, ↓k_shr, ↓k_shl, ↓k_or, ↓k_ilz, ↓k_addl, ↓k_rt, ↓k_rb, ↓k_rbz, ↓k_rsi, ↓k_rsr, ↓k_rsv, ↓reduceIte, ↓(k_14f hM v0 v1 m1), ↓k_idxP6, hz, e2, eq_self, ↓(k_cv3 dX12_formPrice (t12 hM)), ↓a3, e3, ne, ↓xr12_1 hM, ↓xa12_1 hM, ↓xs12_1 hM, ↓xo12_1 hM, ↓xc12_1 hM, ↓xd12_1 hM, ↓xr12_2 hM, ↓xa12_2 hM, ↓xs12_2 hM, ↓xo12_2 hM, ↓xc12_2 hM, ↓xd12_2 hM, ↓xr12_60 hM, ↓xa12_60 hM, ↓xs12_60 hM, ↓xo12_60 hM, ↓xc12_60 hM, ↓xd12_60 hM, List.length_cons, List.length_nil, List.forall_mem_cons, List.not_mem_nil, Value.category, true_and, and_true, false_and, and_false, or_true, true_or, or_false, false_or, Nat.zero_le, forall_const, implies_true, false_implies, Nat.zero_add, Nat.reduceAdd, Nat.reduceLT, Nat.reduceLeDiff, Nat.le_refl, not_true_eq_false, not_false_eq_true, r_eq, r_ne, r_lt, r_ge, r_gt, r_le, bz_ne, nn_toNat, cn_of, cn_0, cn_1, i10, Int.reduceLE, Int.reduceLT, Int.reduceEq, bz_T, bz_F, ite_self, mulc, st_bud]
        exact hk
      · refine ⟨M, p1, fun Kn Kr h => st1 Kn Kr (q_backR (fun K Kf hk => ?_) h)⟩
        rw [e7] at hk
        have vb : 0 ≤ 14 * v + (m : Int) ∧ 14 * v + (m : Int) < 28 := by omega
        clear st1 ih p1 price ff hX hft pb trc c3 d3 d4 d5
        simp (disch := omega) only [↓wcX12_cheapForm_0.eq_1, ↓wsX12_cheapForm_0.eq_1, ↓(k_cv3 dX12_formPrice (t12 hM)), ↓k_mk, ↓k_sq, ↓k_sk, ↓k_bk, ↓k_if, ↓k_te, ↓k_cm, ↓k_cz, ↓k_an2, ↓k_or2, ↓k_no, ↓k_ci, ↓k_l0, ↓k_r0, ↓k_se0, ↓k_ic0, ↓k_l1, ↓k_r1, ↓k_se1, ↓k_ic1, ↓k_de1, ↓k_tk1, ↓k_l2, ↓k_r2, ↓k_se2, ↓k_ic2, ↓k_de2, ↓k_tk2, ↓k_l3, ↓k_r3, ↓k_se3, ↓k_ic3, ↓k_de3, ↓k_tk3, ↓k_l4, ↓k_r4, ↓k_se4, ↓k_ic4, ↓k_de4, ↓k_tk4, ↓k_l5, ↓k_r5, ↓k_se5, ↓k_ic5, ↓k_de5, ↓k_tk5, ↓k_l6, ↓k_r6, ↓k_se6, ↓k_ic6, ↓k_de6, ↓k_tk6, ↓k_l7, ↓k_r7, ↓k_se7, ↓k_ic7, ↓k_de7, ↓k_tk7, ↓k_l8, ↓k_r8, ↓k_se8, ↓k_ic8, ↓k_de8, ↓k_tk8, ↓k_l9, ↓k_r9, ↓k_se9, ↓k_ic9, ↓k_de9, ↓k_tk9, ↓k_l10, ↓k_r10, ↓k_se10, ↓k_ic10, ↓k_de10, ↓k_tk10, ↓k_l11, ↓k_r11, ↓k_se11, ↓k_ic11, ↓k_de11, ↓k_tk11, ↓k_l12, ↓k_r12, ↓k_se12, ↓k_ic12, ↓k_de12, ↓k_tk12, ↓k_l13, ↓k_r13, ↓k_se13, ↓k_ic13, ↓k_de13, ↓k_tk13, ↓k_l14, ↓k_r14, ↓k_se14, ↓k_ic14, ↓k_de14, ↓k_tk14, ↓k_l15, ↓k_r15, ↓k_se15, ↓k_ic15, ↓k_de15, ↓k_tk15, ↓k_l16, ↓k_r16, ↓k_se16, ↓k_ic16, ↓k_de16, ↓k_tk16, ↓k_l17, ↓k_r17, ↓k_se17, ↓k_ic17, ↓k_de17, ↓k_tk17, ↓k_l18, ↓k_r18, ↓k_se18, ↓k_ic18, ↓k_de18, ↓k_tk18, ↓k_l19, ↓k_r19, ↓k_se19, ↓k_ic19, ↓k_de19, ↓k_tk19, ↓k_l20, ↓k_r20, ↓k_se20, ↓k_ic20, ↓k_de20, ↓k_tk20, ↓k_l21, ↓k_r21, ↓k_se21, ↓k_ic21, ↓k_de21, ↓k_tk21, ↓k_l22, ↓k_r22, ↓k_se22, ↓k_ic22, ↓k_de22, ↓k_tk22, ↓k_l23, ↓k_r23, ↓k_se23, ↓k_ic23, ↓k_de23, ↓k_tk23, ↓k_l24, ↓k_r24, ↓k_se24, ↓k_ic24, ↓k_de24, ↓k_tk24, ↓k_l25, ↓k_r25, ↓k_se25, ↓k_ic25, ↓k_de25, ↓k_tk25, ↓k_k, ↓k_kn, ↓k_kl, ↓k_kln, ↓k_il, ↓k_1, ↓k_2c, ↓k_2l, ↓k_ac, ↓k_an, ↓k_cs, ↓k_cv, ↓k_fi, ↓k_fr, ↓k_ai, ↓k_az, ↓k_ar, ↓k_sai, ↓k_saz, ↓k_soa, ↓k_sof, ↓k_spf, ↓k_sx, ↓k_blk, ↓k_sset, ↓k_sdec, ↓k_sri, ↓k_srv, ↓k_srr, ↓k_nop, ↓k_add, ↓k_sub, ↓k_mul, ↓k_min, ↓k_max, ↓k_shr, ↓k_shl, ↓k_or, ↓k_ilz, ↓k_addl, ↓k_rt, ↓k_rb, ↓k_rbz, ↓k_rsi, ↓k_rsr, ↓k_rsv, ↓reduceIte, ↓(k_14f hM v0 v1 m1), ↓k_idxP6, hz, e2, c, ↓xr12_1 hM, ↓xa12_1 hM, ↓xs12_1 hM, ↓xo12_1 hM, ↓xc12_1 hM, ↓xd12_1 hM, ↓xr12_2 hM, ↓xa12_2 hM, ↓xs12_2 hM, ↓xo12_2 hM, ↓xc12_2 hM, ↓xd12_2 hM, ↓xr12_60 hM, ↓xa12_60 hM, ↓xs12_60 hM, ↓xo12_60 hM, ↓xc12_60 hM, ↓xd12_60 hM, List.length_cons, List.length_nil, List.forall_mem_cons, List.not_mem_nil, Value.category, true_and, and_true, false_and, and_false, or_true, true_or, or_false, false_or, Nat.zero_le, forall_const, implies_true, false_implies, Nat.zero_add, Nat.reduceAdd, Nat.reduceLT, Nat.reduceLeDiff, Nat.le_refl, not_true_eq_false, not_false_eq_true, r_eq, r_ne, r_lt, r_ge, r_gt, r_le, bz_ne, nn_toNat, cn_of, cn_0, cn_1, i10, Int.reduceLE, Int.reduceLT, Int.reduceEq, bz_T, bz_F, ite_self, mulc, st_bud]
        exact hk
  obtain ⟨M, p1, st1⟩ := key f.toNat (by omega)
  rw [show ((f.toNat : Nat) : Int) = f by omega] at st1
  obtain ⟨M', a1, a2, a3⟩ := price M f p1 f0 f1
  obtain ⟨d1, d2, d3, d4, d5⟩ := c3 f f0 f1
  have m1 : M (B + 544 + 2) v = nf := by rw [p1 _ (by omega)]; exact c1
  have hz : 14 * v + f < 14 * v + nf := by omega
  have e2 : M (B + 544 + 3) (14 * v + f) = s := by rw [p1 _ (by omega), d1, fs]
  have e3 : M' (B + 544 + 50) (289 * s + 17 * i + j) = q := by rw [a1 _ (by omega)]; exact eq
  rw [fe] at a3
  have lw : ∀ (Kn : List Value → q_M → Prop) (Kr : Option Value → q_M → Prop), wX12_cheapForm_0 [.ref (B + 544), .int (zI v), .int (zI s), .int (zI i), .int (zI j), .int (zI (14 * v))] (st T nx rc rs R G) Kn Kr = Kr (some (.int (zI (14 * v + f)))) (st T nx rc rs R M') := eX12_cheapForm_0.eqr (st1 _ _ (q_rtn1 (fun K Kf => by
    have vb : 0 ≤ 14 * v + f ∧ 14 * v + f < 28 := by omega
    clear st1 p1 a1 a2 price ff hX hft pb trc c3 d3 d4 d5 key
    simp (disch := omega) only [↓wcX12_cheapForm_0.eq_1, ↓wsX12_cheapForm_0.eq_1, ↓(k_cv3 dX12_formPrice (t12 hM)), ↓k_mk, ↓k_sq, ↓k_sk, ↓k_bk, ↓k_if, ↓k_te, ↓k_cm, ↓k_cz, ↓k_an2, ↓k_or2, ↓k_no, ↓k_ci, ↓k_l0, ↓k_r0, ↓k_se0, ↓k_ic0, ↓k_l1, ↓k_r1, ↓k_se1, ↓k_ic1, ↓k_de1, ↓k_tk1, ↓k_l2, ↓k_r2, ↓k_se2, ↓k_ic2, ↓k_de2, ↓k_tk2, ↓k_l3, ↓k_r3, ↓k_se3, ↓k_ic3, ↓k_de3, ↓k_tk3, ↓k_l4, ↓k_r4, ↓k_se4, ↓k_ic4, ↓k_de4, ↓k_tk4, ↓k_l5, ↓k_r5, ↓k_se5, ↓k_ic5, ↓k_de5, ↓k_tk5, ↓k_l6, ↓k_r6, ↓k_se6, ↓k_ic6, ↓k_de6, ↓k_tk6, ↓k_l7, ↓k_r7, ↓k_se7, ↓k_ic7, ↓k_de7, ↓k_tk7, ↓k_l8, ↓k_r8, ↓k_se8, ↓k_ic8, ↓k_de8, ↓k_tk8, ↓k_l9, ↓k_r9, ↓k_se9, ↓k_ic9, ↓k_de9, ↓k_tk9, ↓k_l10, ↓k_r10, ↓k_se10, ↓k_ic10, ↓k_de10, ↓k_tk10, ↓k_l11, ↓k_r11, ↓k_se11, ↓k_ic11, ↓k_de11, ↓k_tk11, ↓k_l12, ↓k_r12, ↓k_se12, ↓k_ic12, ↓k_de12, ↓k_tk12, ↓k_l13, ↓k_r13, ↓k_se13, ↓k_ic13, ↓k_de13, ↓k_tk13, ↓k_l14, ↓k_r14, ↓k_se14, ↓k_ic14, ↓k_de14, ↓k_tk14, ↓k_l15, ↓k_r15, ↓k_se15, ↓k_ic15, ↓k_de15, ↓k_tk15, ↓k_l16, ↓k_r16, ↓k_se16, ↓k_ic16, ↓k_de16, ↓k_tk16, ↓k_l17, ↓k_r17, ↓k_se17, ↓k_ic17, ↓k_de17, ↓k_tk17, ↓k_l18, ↓k_r18, ↓k_se18, ↓k_ic18, ↓k_de18, ↓k_tk18, ↓k_l19, ↓k_r19, ↓k_se19, ↓k_ic19, ↓k_de19, ↓k_tk19, ↓k_l20, ↓k_r20, ↓k_se20, ↓k_ic20, ↓k_de20, ↓k_tk20, ↓k_l21, ↓k_r21, ↓k_se21, ↓k_ic21, ↓k_de21, ↓k_tk21, ↓k_l22, ↓k_r22, ↓k_se22, ↓k_ic22, ↓k_de22, ↓k_tk22, ↓k_l23, ↓k_r23, ↓k_se23, ↓k_ic23, ↓k_de23, ↓k_tk23, ↓k_l24, ↓k_r24, ↓k_se24, ↓k_ic24, ↓k_de24, ↓k_tk24, ↓k_l25, ↓k_r25, ↓k_se25, ↓k_ic25, ↓k_de25, ↓k_tk25, ↓k_k, ↓k_kn, ↓k_kl, ↓k_kln, ↓k_il, ↓k_1, ↓k_2c, ↓k_2l, ↓k_ac, ↓k_an, ↓k_cs, ↓k_cv, ↓k_fi, ↓k_fr, ↓k_ai, ↓k_az, ↓k_ar, ↓k_sai, ↓k_saz, ↓k_soa, ↓k_sof, ↓k_spf, ↓k_sx, ↓k_blk, ↓k_sset, ↓k_sdec, ↓k_sri, ↓k_srv, ↓k_srr, ↓k_nop, ↓k_add, ↓k_sub, ↓k_mul, ↓k_min, ↓k_max, ↓k_shr, ↓k_shl, ↓k_or, ↓k_ilz, ↓k_addl, ↓k_rt, ↓k_rb, ↓k_rbz, ↓k_rsi, ↓k_rsr, ↓k_rsv, ↓reduceIte, ↓(k_14f hM v0 v1 m1), ↓k_idxP6, hz, e2, eq_self, ↓(k_cv3 dX12_formPrice (t12 hM)), ↓a3, e3, ↓xr12_1 hM, ↓xa12_1 hM, ↓xs12_1 hM, ↓xo12_1 hM, ↓xc12_1 hM, ↓xd12_1 hM, ↓xr12_2 hM, ↓xa12_2 hM, ↓xs12_2 hM, ↓xo12_2 hM, ↓xc12_2 hM, ↓xd12_2 hM, ↓xr12_60 hM, ↓xa12_60 hM, ↓xs12_60 hM, ↓xo12_60 hM, ↓xc12_60 hM, ↓xd12_60 hM, List.length_cons, List.length_nil, List.forall_mem_cons, List.not_mem_nil, Value.category, true_and, and_true, false_and, and_false, or_true, true_or, or_false, false_or, Nat.zero_le, forall_const, implies_true, false_implies, Nat.zero_add, Nat.reduceAdd, Nat.reduceLT, Nat.reduceLeDiff, Nat.le_refl, not_true_eq_false, not_false_eq_true, r_eq, r_ne, r_lt, r_ge, r_gt, r_le, bz_ne, nn_toNat, cn_of, cn_0, cn_1, i10, Int.reduceLE, Int.reduceLT, Int.reduceEq, bz_T, bz_F, ite_self, mulc, st_bud])))
  refine ⟨M', a1, a2, fun K => ?_⟩
  clear st1 p1 a1 a2 price ff hX hft pb trc c3 d3 d4 d5 key
  simp (disch := omega) only [↓fX12_cheapForm.eq_1, ↓uX12_cheapForm, ↓k_mk, ↓k_sq, ↓k_sk, ↓k_bk, ↓k_if, ↓k_te, ↓k_cm, ↓k_cz, ↓k_an2, ↓k_or2, ↓k_no, ↓k_ci, ↓k_l0, ↓k_r0, ↓k_se0, ↓k_ic0, ↓k_l1, ↓k_r1, ↓k_se1, ↓k_ic1, ↓k_de1, ↓k_tk1, ↓k_l2, ↓k_r2, ↓k_se2, ↓k_ic2, ↓k_de2, ↓k_tk2, ↓k_l3, ↓k_r3, ↓k_se3, ↓k_ic3, ↓k_de3, ↓k_tk3, ↓k_l4, ↓k_r4, ↓k_se4, ↓k_ic4, ↓k_de4, ↓k_tk4, ↓k_l5, ↓k_r5, ↓k_se5, ↓k_ic5, ↓k_de5, ↓k_tk5, ↓k_l6, ↓k_r6, ↓k_se6, ↓k_ic6, ↓k_de6, ↓k_tk6, ↓k_l7, ↓k_r7, ↓k_se7, ↓k_ic7, ↓k_de7, ↓k_tk7, ↓k_l8, ↓k_r8, ↓k_se8, ↓k_ic8, ↓k_de8, ↓k_tk8, ↓k_l9, ↓k_r9, ↓k_se9, ↓k_ic9, ↓k_de9, ↓k_tk9, ↓k_l10, ↓k_r10, ↓k_se10, ↓k_ic10, ↓k_de10, ↓k_tk10, ↓k_l11, ↓k_r11, ↓k_se11, ↓k_ic11, ↓k_de11, ↓k_tk11, ↓k_l12, ↓k_r12, ↓k_se12, ↓k_ic12, ↓k_de12, ↓k_tk12, ↓k_l13, ↓k_r13, ↓k_se13, ↓k_ic13, ↓k_de13, ↓k_tk13, ↓k_l14, ↓k_r14, ↓k_se14, ↓k_ic14, ↓k_de14, ↓k_tk14, ↓k_l15, ↓k_r15, ↓k_se15, ↓k_ic15, ↓k_de15, ↓k_tk15, ↓k_l16, ↓k_r16, ↓k_se16, ↓k_ic16, ↓k_de16, ↓k_tk16, ↓k_l17, ↓k_r17, ↓k_se17, ↓k_ic17, ↓k_de17, ↓k_tk17, ↓k_l18, ↓k_r18, ↓k_se18, ↓k_ic18, ↓k_de18, ↓k_tk18, ↓k_l19, ↓k_r19, ↓k_se19, ↓k_ic19, ↓k_de19, ↓k_tk19, ↓k_l20, ↓k_r20, ↓k_se20, ↓k_ic20, ↓k_de20, ↓k_tk20, ↓k_l21, ↓k_r21, ↓k_se21, ↓k_ic21, ↓k_de21, ↓k_tk21, ↓k_l22, ↓k_r22, ↓k_se22, ↓k_ic22, ↓k_de22, ↓k_tk22, ↓k_l23, ↓k_r23, ↓k_se23, ↓k_ic23, ↓k_de23, ↓k_tk23, ↓k_l24, ↓k_r24, ↓k_se24, ↓k_ic24, ↓k_de24, ↓k_tk24, ↓k_l25, ↓k_r25, ↓k_se25, ↓k_ic25, ↓k_de25, ↓k_tk25, ↓k_k, ↓k_kn, ↓k_kl, ↓k_kln, ↓k_il, ↓k_2, ↓k_1, ↓k_2c, ↓k_2l, ↓k_ac, ↓k_an, ↓k_cs, ↓k_cv, ↓k_fi, ↓k_fr, ↓k_ai, ↓k_az, ↓k_ar, ↓k_sai, ↓k_saz, ↓k_soa, ↓k_sof, ↓k_spf, ↓k_sx, ↓k_blk, ↓k_sset, ↓k_sdec, ↓k_sri, ↓k_srv, ↓k_srr, ↓k_nop, ↓k_add, ↓k_sub, ↓k_mul, ↓k_min, ↓k_max, ↓k_shr, ↓k_shl, ↓k_or, ↓k_ilz, ↓k_addl, ↓k_rt, ↓k_rb, ↓k_rbz, ↓k_rsi, ↓k_rsr, ↓k_rsv, ↓reduceIte, ↓lw, List.length_cons, List.length_nil, List.forall_mem_cons, List.not_mem_nil, Value.category, true_and, and_true, false_and, and_false, or_true, true_or, or_false, false_or, Nat.zero_le, forall_const, implies_true, false_implies, Nat.zero_add, Nat.reduceAdd, Nat.reduceLT, Nat.reduceLeDiff, Nat.le_refl, not_true_eq_false, not_false_eq_true, r_eq, r_ne, r_lt, r_ge, r_gt, r_le, bz_ne, nn_toNat, cn_of, cn_0, cn_1, i10, Int.reduceLE, Int.reduceLT, Int.reduceEq, bz_T, bz_F, ite_self, mulc, st_bud]
end
