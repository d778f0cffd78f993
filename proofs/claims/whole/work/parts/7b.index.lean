section
/-! the class finds how the pieces of a row lie in one another -/
/-- how many slots of node q still wait when the pieces before p are placed -/
def LK (ns c : Int → Int) (p : Int) (lk : Int → Int) : Prop := ∀ q, 0 ≤ q → q < p → 1000 ≤ c q → ∀ i : Nat, (i : Int) ≤ ns (c q - 1000) → (∀ j : Nat, j + 1 = i → chI (eE ns c) q j < p) → p ≤ chI (eE ns c) q i → lk q = ns (c q - 1000) - i
theorem w_nest {ns c : Int → Int} {n : Int} (w : Wd ns c n) {q p : Int} (h0 : 0 ≤ q) (h1 : q < p) (h2 : p < eE ns c q) (h3 : p < n) : q ≤ uU ns c p ∧ eE ns c p ≤ eE ns c q := by
  obtain ⟨a1, a2, a3, a4⟩ := eE_f w h0 (by omega)
  obtain ⟨b1, b2, b3, b4, _⟩ := uU_f w (p := p) (by omega) h3
  obtain ⟨e1, e2, e3, e4⟩ := eE_f w (p := p) (by omega) h3
  have dq := a4 p h1 h2
  constructor
  · refine Int.not_lt.mp fun g => ?_
    have := b4 q g h1
    omega
  · refine Int.not_lt.mp fun g => ?_
    have := e4 _ h2 g
    omega
theorem ch_mono {ns c : Int → Int} {n : Int} (w : Wd ns c n) {q : Int} (h0 : 0 ≤ q) (h1 : q < n) (hn : 1000 ≤ c q) : ∀ j i : Nat, i < j → (j : Int) ≤ ns (c q - 1000) → chI (eE ns c) q i < chI (eE ns c) q j := by
  intro j
  induction j with
  | zero => intro i hi; omega
  | succ j ih =>
    intro i hi hj
    have a := ch_f w h0 h1 hn j (by omega)
    have b := ch_par w h0 h1 hn (i := j) (by omega)
    have d := eE_f w (p := chI (eE ns c) q j) (by omega) b.1
    have e : chI (eE ns c) q (j + 1) = eE ns c (chI (eE ns c) q j) := rfl
    by_cases g : i = j
    · rw [g, e]
      exact d.1
    · have := ih i (by omega) (by omega)
      rw [e]
      omega
/-- placing p: the waiting slots of the others stay, those of the one that p is in are one less -/
theorem LK_step {ns c : Int → Int} {n : Int} (w : Wd ns c n) {p : Int} (h0 : 0 ≤ p) (h1 : p < n) {lk lk' : Int → Int} (hl : LK ns c p lk) (h2 : ∀ q, 0 ≤ q → q < p → lk' q = if q = uU ns c p then lk q - 1 else lk q) (h3 : 1000 ≤ c p → lk' p = ns (c p - 1000)) : LK ns c (p + 1) lk' := by
  intro q q0 q1 qn i hi hj hp
  by_cases e : q = p
  · subst e
    rw [h3 qn]
    cases i with
    | zero => omega
    | succ i =>
      have a := hj i rfl
      have b := (ch_f w q0 h1 qn i (by omega)).1
      omega
  · rw [h2 q q0 (by omega)]
    by_cases u : q = uU ns c p
    · rw [if_pos u]
      have p0 : 0 < p := by omega
      obtain ⟨a1, a2, a3, a4, a5, a6, a7, a8⟩ := uU_f w p0 h1
      have cp := ch_is w p0 h1
      rw [← u] at cp a5 a7
      have k1 := hl q q0 (by omega) qn (sS ns c p).toNat (by omega) (fun j hj' => by
        have := ch_mono w q0 (by omega) qn (sS ns c p).toNat j (by omega) (by omega)
        rw [cp] at this
        exact this) (by rw [cp]; exact Int.le_refl _)
      have ei : i = (sS ns c p).toNat + 1 := by
        by_cases g : i ≤ (sS ns c p).toNat
        · exfalso
          by_cases g2 : i = (sS ns c p).toNat
          · rw [g2, cp] at hp
            omega
          · have := ch_mono w q0 (by omega) qn (sS ns c p).toNat i (by omega) (by omega)
            rw [cp] at this
            omega
        · by_cases g2 : i = (sS ns c p).toNat + 1
          · exact g2
          · exfalso
            have a := hj (i - 1) (by omega)
            have b := ch_mono w q0 (by omega) qn (i - 1) (sS ns c p).toNat (by omega) (by omega)
            rw [cp] at b
            omega
      rw [k1, ei]
      omega
    · rw [if_neg u]
      have ne : ∀ j : Nat, (j : Int) < ns (c q - 1000) → ¬ chI (eE ns c) q j = p := fun j hj' g => u (by
        have := (ch_par w q0 (by omega) qn hj').2.1
        rw [g] at this
        exact this.symm)
      refine hl q q0 (by omega) qn i hi (fun j hj' => ?_) (by omega)
      have a := hj j hj'
      have b := ne j (by omega)
      omega
theorem LK_slot {ns c : Int → Int} {n : Int} (w : Wd ns c n) {p : Int} (h0 : 0 < p) (h1 : p < n) {lk : Int → Int} (hl : LK ns c p lk) : lk (uU ns c p) = ns (c (uU ns c p) - 1000) - sS ns c p := by
  obtain ⟨a1, a2, a3, a4, a5, a6, a7, a8⟩ := uU_f w h0 h1
  have cp := ch_is w h0 h1
  have := hl (uU ns c p) a1 a2 a5 (sS ns c p).toNat (by omega) (fun j hj' => by
    have := ch_mono w a1 (by omega) a5 (sS ns c p).toNat j (by omega) (by omega)
    rw [cp] at this
    exact this) (by rw [cp]; exact Int.le_refl _)
  omega
/-- where the class goes on -/
def opn (ns c : Int → Int) (n p : Int) : Int := if p < n then uU ns c p else -1
/-- from y on up: what ends at p + 1 is closed -/
theorem w9_close {T : Nat → Option q_T} {nx rc rs a : Nat} {R : Nat → Nat → Option Value} {ns c : Int → Int} {n : Int} {o p : Int} (h9 : Ly T R a (L9 a)) (w : Wd ns c n) (n5 : ∀ p, 0 ≤ p → p < n → 1000 ≤ c p → ns (c p - 1000) ≤ 5) (p0 : 0 ≤ p) (p1 : p < n) : ∀ (k : Nat) (G : Nat → Int → Int) (y j : Int), y < k → 0 ≤ j → y + j ≤ 200 → (y = -1 ∧ p + 1 = n ∨ 0 ≤ y ∧ y ≤ p ∧ 1000 ≤ c y ∧ ∃ i : Nat, (i : Int) ≤ ns (c y - 1000) ∧ chI (eE ns c) y i = p + 1 ∧ G (a + 5) y = ns (c y - 1000) - i) →
    (∀ q, 0 ≤ q → q ≤ p → G (a + 3) q = uU ns c q) → LK ns c (p + 1) (G (a + 5)) →
    ∃ G' j', (∀ x, ¬ x = a + 2 → G' x = G x) ∧ (∀ q, 0 ≤ q → q ≤ y → eE ns c q = p + 1 → G' (a + 2) q = p + 1) ∧ (∀ q, ¬ (0 ≤ q ∧ q ≤ y ∧ eE ns c q = p + 1) → G' (a + 2) q = G (a + 2) q) ∧
      q_wh wcX9_closeFull_0 wsX9_closeFull_0 [.ref a, .int (zI o), .int (zI (p + 1)), .int (zI y), .int (zI j)] (st T nx rc rs R G) (fun e μ => e = [.ref a, .int (zI o), .int (zI (p + 1)), .int (zI (opn ns c n (p + 1))), .int (zI j')] ∧ μ = st T nx rc rs R G') (fun _ _ => False) := by
  have n2 := w.2.1
  have out : ∀ (G : Nat → Int → Int) (j : Int), p + 1 = n → 0 ≤ j → j ≤ 201 → q_wh wcX9_closeFull_0 wsX9_closeFull_0 [.ref a, .int (zI o), .int (zI (p + 1)), .int (zI (-1)), .int (zI j)] (st T nx rc rs R G) (fun e μ => e = [.ref a, .int (zI o), .int (zI (p + 1)), .int (zI (opn ns c n (p + 1))), .int (zI j)] ∧ μ = st T nx rc rs R G) (fun _ _ => False) := by
    intro G j pn j0 j1
    refine q_outR (fun Kt Kf h => ?_) ⟨by unfold opn; rw [if_neg (by omega)], rfl⟩
    by_cases jj : j < 201
    · simp (disch := omega) only [↓wcX9_closeFull_0.eq_1, ↓k_mk, ↓k_sq, ↓k_sk, ↓k_bk, ↓k_if, ↓k_te, ↓k_cm, ↓k_cz, ↓k_an2, ↓k_or2, ↓k_no, ↓k_ci, ↓k_l0, ↓k_r0, ↓k_se0, ↓k_ic0, ↓k_l1, ↓k_r1, ↓k_se1, ↓k_ic1, ↓k_de1, ↓k_tk1, ↓k_l2, ↓k_r2, ↓k_se2, ↓k_ic2, ↓k_de2, ↓k_tk2, ↓k_l3, ↓k_r3, ↓k_se3, ↓k_ic3, ↓k_de3, ↓k_tk3, ↓k_l4, ↓k_r4, ↓k_se4, ↓k_ic4, ↓k_de4, ↓k_tk4, ↓k_l5, ↓k_r5, ↓k_se5, ↓k_ic5, ↓k_de5, ↓k_tk5, ↓k_l6, ↓k_r6, ↓k_se6, ↓k_ic6, ↓k_de6, ↓k_tk6, ↓k_l7, ↓k_r7, ↓k_se7, ↓k_ic7, ↓k_de7, ↓k_tk7, ↓k_l8, ↓k_r8, ↓k_se8, ↓k_ic8, ↓k_de8, ↓k_tk8, ↓k_l9, ↓k_r9, ↓k_se9, ↓k_ic9, ↓k_de9, ↓k_tk9, ↓k_l10, ↓k_r10, ↓k_se10, ↓k_ic10, ↓k_de10, ↓k_tk10, ↓k_l11, ↓k_r11, ↓k_se11, ↓k_ic11, ↓k_de11, ↓k_tk11, ↓k_l12, ↓k_r12, ↓k_se12, ↓k_ic12, ↓k_de12, ↓k_tk12, ↓k_l13, ↓k_r13, ↓k_se13, ↓k_ic13, ↓k_de13, ↓k_tk13, ↓k_l14, ↓k_r14, ↓k_se14, ↓k_ic14, ↓k_de14, ↓k_tk14, ↓k_l15, ↓k_r15, ↓k_se15, ↓k_ic15, ↓k_de15, ↓k_tk15, ↓k_l16, ↓k_r16, ↓k_se16, ↓k_ic16, ↓k_de16, ↓k_tk16, ↓k_l17, ↓k_r17, ↓k_se17, ↓k_ic17, ↓k_de17, ↓k_tk17, ↓k_l18, ↓k_r18, ↓k_se18, ↓k_ic18, ↓k_de18, ↓k_tk18, ↓k_l19, ↓k_r19, ↓k_se19, ↓k_ic19, ↓k_de19, ↓k_tk19, ↓k_l20, ↓k_r20, ↓k_se20, ↓k_ic20, ↓k_de20, ↓k_tk20, ↓k_l21, ↓k_r21, ↓k_se21, ↓k_ic21, ↓k_de21, ↓k_tk21, ↓k_l22, ↓k_r22, ↓k_se22, ↓k_ic22, ↓k_de22, ↓k_tk22, ↓k_l23, ↓k_r23, ↓k_se23, ↓k_ic23, ↓k_de23, ↓k_tk23, ↓k_l24, ↓k_r24, ↓k_se24, ↓k_ic24, ↓k_de24, ↓k_tk24, ↓k_l25, ↓k_r25, ↓k_se25, ↓k_ic25, ↓k_de25, ↓k_tk25, ↓k_k, ↓k_kn, ↓k_kl, ↓k_kln, ↓k_il, ↓k_2, ↓k_1, ↓k_2c, ↓k_2l, ↓k_ac, ↓k_an, ↓k_cs, ↓k_cv, ↓k_fi, ↓k_fr, ↓k_ai, ↓k_az, ↓k_ar, ↓k_sai, ↓k_saz, ↓k_soa, ↓k_sof, ↓k_spf, ↓k_sx, ↓k_blk, ↓k_sset, ↓k_sdec, ↓k_sri, ↓k_srv, ↓k_srr, ↓k_nop, ↓k_add, ↓k_sub, ↓k_mul, ↓k_min, ↓k_max, ↓k_shr, ↓k_shl, ↓k_or, ↓k_ilz, ↓k_addl, ↓k_rt, ↓k_rb, ↓k_rbz, ↓k_rsi, ↓k_rsr, ↓k_rsv, ↓reduceIte, jj, List.length_cons, List.length_nil, List.forall_mem_cons, List.not_mem_nil, Value.category, true_and, and_true, false_and, and_false, or_true, true_or, or_false, false_or, Nat.zero_le, forall_const, implies_true, false_implies, Nat.zero_add, Nat.reduceAdd, Nat.reduceLT, Nat.reduceLeDiff, Nat.le_refl, not_true_eq_false, not_false_eq_true, r_eq, r_ne, r_lt, r_ge, r_gt, r_le, bz_ne, nn_toNat, cn_of, cn_0, cn_1, i10, Int.reduceLE, Int.reduceLT, Int.reduceEq, bz_T, bz_F, ite_self, mulc, st_bud]
      exact h
    · simp (disch := omega) only [↓wcX9_closeFull_0.eq_1, ↓k_mk, ↓k_sq, ↓k_sk, ↓k_bk, ↓k_if, ↓k_te, ↓k_cm, ↓k_cz, ↓k_an2, ↓k_or2, ↓k_no, ↓k_ci, ↓k_l0, ↓k_r0, ↓k_se0, ↓k_ic0, ↓k_l1, ↓k_r1, ↓k_se1, ↓k_ic1, ↓k_de1, ↓k_tk1, ↓k_l2, ↓k_r2, ↓k_se2, ↓k_ic2, ↓k_de2, ↓k_tk2, ↓k_l3, ↓k_r3, ↓k_se3, ↓k_ic3, ↓k_de3, ↓k_tk3, ↓k_l4, ↓k_r4, ↓k_se4, ↓k_ic4, ↓k_de4, ↓k_tk4, ↓k_l5, ↓k_r5, ↓k_se5, ↓k_ic5, ↓k_de5, ↓k_tk5, ↓k_l6, ↓k_r6, ↓k_se6, ↓k_ic6, ↓k_de6, ↓k_tk6, ↓k_l7, ↓k_r7, ↓k_se7, ↓k_ic7, ↓k_de7, ↓k_tk7, ↓k_l8, ↓k_r8, ↓k_se8, ↓k_ic8, ↓k_de8, ↓k_tk8, ↓k_l9, ↓k_r9, ↓k_se9, ↓k_ic9, ↓k_de9, ↓k_tk9, ↓k_l10, ↓k_r10, ↓k_se10, ↓k_ic10, ↓k_de10, ↓k_tk10, ↓k_l11, ↓k_r11, ↓k_se11, ↓k_ic11, ↓k_de11, ↓k_tk11, ↓k_l12, ↓k_r12, ↓k_se12, ↓k_ic12, ↓k_de12, ↓k_tk12, ↓k_l13, ↓k_r13, ↓k_se13, ↓k_ic13, ↓k_de13, ↓k_tk13, ↓k_l14, ↓k_r14, ↓k_se14, ↓k_ic14, ↓k_de14, ↓k_tk14, ↓k_l15, ↓k_r15, ↓k_se15, ↓k_ic15, ↓k_de15, ↓k_tk15, ↓k_l16, ↓k_r16, ↓k_se16, ↓k_ic16, ↓k_de16, ↓k_tk16, ↓k_l17, ↓k_r17, ↓k_se17, ↓k_ic17, ↓k_de17, ↓k_tk17, ↓k_l18, ↓k_r18, ↓k_se18, ↓k_ic18, ↓k_de18, ↓k_tk18, ↓k_l19, ↓k_r19, ↓k_se19, ↓k_ic19, ↓k_de19, ↓k_tk19, ↓k_l20, ↓k_r20, ↓k_se20, ↓k_ic20, ↓k_de20, ↓k_tk20, ↓k_l21, ↓k_r21, ↓k_se21, ↓k_ic21, ↓k_de21, ↓k_tk21, ↓k_l22, ↓k_r22, ↓k_se22, ↓k_ic22, ↓k_de22, ↓k_tk22, ↓k_l23, ↓k_r23, ↓k_se23, ↓k_ic23, ↓k_de23, ↓k_tk23, ↓k_l24, ↓k_r24, ↓k_se24, ↓k_ic24, ↓k_de24, ↓k_tk24, ↓k_l25, ↓k_r25, ↓k_se25, ↓k_ic25, ↓k_de25, ↓k_tk25, ↓k_k, ↓k_kn, ↓k_kl, ↓k_kln, ↓k_il, ↓k_2, ↓k_1, ↓k_2c, ↓k_2l, ↓k_ac, ↓k_an, ↓k_cs, ↓k_cv, ↓k_fi, ↓k_fr, ↓k_ai, ↓k_az, ↓k_ar, ↓k_sai, ↓k_saz, ↓k_soa, ↓k_sof, ↓k_spf, ↓k_sx, ↓k_blk, ↓k_sset, ↓k_sdec, ↓k_sri, ↓k_srv, ↓k_srr, ↓k_nop, ↓k_add, ↓k_sub, ↓k_mul, ↓k_min, ↓k_max, ↓k_shr, ↓k_shl, ↓k_or, ↓k_ilz, ↓k_addl, ↓k_rt, ↓k_rb, ↓k_rbz, ↓k_rsi, ↓k_rsr, ↓k_rsv, ↓reduceIte, jj, List.length_cons, List.length_nil, List.forall_mem_cons, List.not_mem_nil, Value.category, true_and, and_true, false_and, and_false, or_true, true_or, or_false, false_or, Nat.zero_le, forall_const, implies_true, false_implies, Nat.zero_add, Nat.reduceAdd, Nat.reduceLT, Nat.reduceLeDiff, Nat.le_refl, not_true_eq_false, not_false_eq_true, r_eq, r_ne, r_lt, r_ge, r_gt, r_le, bz_ne, nn_toNat, cn_of, cn_0, cn_1, i10, Int.reduceLE, Int.reduceLT, Int.reduceEq, bz_T, bz_F, ite_self, mulc, st_bud]
      exact h
  intro k
  induction k with
  | zero =>
    intro G y j yk j0 jy hy hu hl
    have y1 : y = -1 := by omega
    have pn : p + 1 = n := by omega
    subst y1
    exact ⟨G, j, fun x _ => rfl, fun q q0 q1 => by omega, fun q _ => rfl, out G j pn j0 (by omega)⟩
  | succ k ih =>
    intro G y j yk j0 jy hy hu hl
    rcases hy with ⟨y1, pn⟩ | ⟨y0, y1, yn, i, i1, i2, i3⟩
    · subst y1
      exact ⟨G, j, fun x _ => rfl, fun q q0 q1 => by omega, fun q _ => rfl, out G j pn j0 (by omega)⟩
    · have jj : j < 201 := by omega
      have ny : ¬ y = -1 := by omega
      have yn' : y < n := by omega
      have nn := w.2.2.2.2 y y0 yn' yn
      have nn5 := n5 y y0 yn' yn
      obtain ⟨lk, hlk⟩ : ∃ lk, lk = G (a + 5) y := ⟨_, rfl⟩
      have hlk' := hlk.symm
      rw [hlk'] at i3
      by_cases g : (i : Int) = ns (c y - 1000)
      · have ey : eE ns c y = p + 1 := by
          rw [← ch_end w y0 yn' yn, show (ns (c y - 1000)).toNat = i by omega]
          exact i2
        have l0 : lk = 0 := by omega
        rw [l0] at hlk'
        have hux := hu y y0 y1
        obtain ⟨y', hy'⟩ : ∃ y', y' = uU ns c y := ⟨_, rfl⟩
        rw [← hy'] at hux
        have yb : y' < y ∧ -1 ≤ y' := by
          by_cases z : y = 0
          · rw [hy', z]
            unfold uU
            rw [if_pos rfl]
            omega
          · have := uU_f w (p := y) (by omega) yn'
            omega
        have e2 : gs G (a + 2) y (p + 1) (a + 3) y = y' := by rw [gs_ne (by omega)]; exact hux
        have cond : (y' = -1 ∧ p + 1 = n ∨ 0 ≤ y' ∧ y' ≤ p ∧ 1000 ≤ c y' ∧ ∃ i : Nat, (i : Int) ≤ ns (c y' - 1000) ∧ chI (eE ns c) y' i = p + 1 ∧ gs G (a + 2) y (p + 1) (a + 5) y' = ns (c y' - 1000) - i) := by
          by_cases z : y = 0
          · refine Or.inl ⟨by rw [hy', z]; unfold uU; rw [if_pos rfl], ?_⟩
            rw [z] at ey
            obtain ⟨_, _, b3, _⟩ := eE_f w (Int.le_refl 0) (by omega)
            rw [ey, D_0] at b3
            refine Int.le_antisymm (by omega) (Int.not_lt.mp fun q => ?_)
            have := w.2.2.1 (p + 1) (by omega) q
            omega
          · obtain ⟨a1, a2, a3, a4, a5, a6, a7, a8⟩ := uU_f w (p := y) (by omega) yn'
            have cy := ch_is w (p := y) (by omega) yn'
            rw [← hy'] at a1 a2 a5 a7 cy
            have cy2 : chI (eE ns c) y' ((sS ns c y).toNat + 1) = p + 1 := by
              show eE ns c (chI (eE ns c) y' (sS ns c y).toNat) = p + 1
              rw [cy]
              exact ey
            refine Or.inr ⟨a1, by omega, a5, (sS ns c y).toNat + 1, by omega, cy2, ?_⟩
            rw [gs_ne (by omega)]
            refine hl y' a1 (by omega) a5 _ (by omega) (fun jx hjx => ?_) (by rw [cy2]; exact Int.le_refl _)
            rw [show jx = (sS ns c y).toNat by omega, cy]
            omega
        obtain ⟨G', j', q1, q2, q3, q4⟩ := ih (gs G (a + 2) y (p + 1)) y' (j + 1) (by omega) (by omega) (by omega) cond (fun q w0 w1 => by rw [gs_ne (by omega)]; exact hu q w0 w1) (by rw [gs_ne (by omega)]; exact hl)
        refine ⟨G', j', fun x hx => by rw [q1 x hx, gs_ne hx], fun q w0 w1 w2 => ?_, fun q wq => ?_, q_backR (fun K Kf h => ?_) q4⟩
        · by_cases z : q ≤ y'
          · exact q2 q w0 z w2
          · rw [q3 q (fun v => z v.2.1), gs_eq, fu_at]
            by_cases z2 : q = y
            · rw [if_pos z2]
            · exfalso
              have := (w_nest w (q := q) (p := y) w0 (by omega) (by omega) yn').1
              omega
        · rw [q3 q (fun v => wq ⟨v.1, by omega, v.2.2⟩), gs_eq, fu_ne (fun v => wq ⟨by omega, by omega, by rw [v]; exact ey⟩)]
        · simp (disch := omega) only [↓wcX9_closeFull_0.eq_1, ↓wsX9_closeFull_0.eq_1, ↓k_mk, ↓k_sq, ↓k_sk, ↓k_bk, ↓k_if, ↓k_te, ↓k_cm, ↓k_cz, ↓k_an2, ↓k_or2, ↓k_no, ↓k_ci, ↓k_l0, ↓k_r0, ↓k_se0, ↓k_ic0, ↓k_l1, ↓k_r1, ↓k_se1, ↓k_ic1, ↓k_de1, ↓k_tk1, ↓k_l2, ↓k_r2, ↓k_se2, ↓k_ic2, ↓k_de2, ↓k_tk2, ↓k_l3, ↓k_r3, ↓k_se3, ↓k_ic3, ↓k_de3, ↓k_tk3, ↓k_l4, ↓k_r4, ↓k_se4, ↓k_ic4, ↓k_de4, ↓k_tk4, ↓k_l5, ↓k_r5, ↓k_se5, ↓k_ic5, ↓k_de5, ↓k_tk5, ↓k_l6, ↓k_r6, ↓k_se6, ↓k_ic6, ↓k_de6, ↓k_tk6, ↓k_l7, ↓k_r7, ↓k_se7, ↓k_ic7, ↓k_de7, ↓k_tk7, ↓k_l8, ↓k_r8, ↓k_se8, ↓k_ic8, ↓k_de8, ↓k_tk8, ↓k_l9, ↓k_r9, ↓k_se9, ↓k_ic9, ↓k_de9, ↓k_tk9, ↓k_l10, ↓k_r10, ↓k_se10, ↓k_ic10, ↓k_de10, ↓k_tk10, ↓k_l11, ↓k_r11, ↓k_se11, ↓k_ic11, ↓k_de11, ↓k_tk11, ↓k_l12, ↓k_r12, ↓k_se12, ↓k_ic12, ↓k_de12, ↓k_tk12, ↓k_l13, ↓k_r13, ↓k_se13, ↓k_ic13, ↓k_de13, ↓k_tk13, ↓k_l14, ↓k_r14, ↓k_se14, ↓k_ic14, ↓k_de14, ↓k_tk14, ↓k_l15, ↓k_r15, ↓k_se15, ↓k_ic15, ↓k_de15, ↓k_tk15, ↓k_l16, ↓k_r16, ↓k_se16, ↓k_ic16, ↓k_de16, ↓k_tk16, ↓k_l17, ↓k_r17, ↓k_se17, ↓k_ic17, ↓k_de17, ↓k_tk17, ↓k_l18, ↓k_r18, ↓k_se18, ↓k_ic18, ↓k_de18, ↓k_tk18, ↓k_l19, ↓k_r19, ↓k_se19, ↓k_ic19, ↓k_de19, ↓k_tk19, ↓k_l20, ↓k_r20, ↓k_se20, ↓k_ic20, ↓k_de20, ↓k_tk20, ↓k_l21, ↓k_r21, ↓k_se21, ↓k_ic21, ↓k_de21, ↓k_tk21, ↓k_l22, ↓k_r22, ↓k_se22, ↓k_ic22, ↓k_de22, ↓k_tk22, ↓k_l23, ↓k_r23, ↓k_se23, ↓k_ic23, ↓k_de23, ↓k_tk23, ↓k_l24, ↓k_r24, ↓k_se24, ↓k_ic24, ↓k_de24, ↓k_tk24, ↓k_l25, ↓k_r25, ↓k_se25, ↓k_ic25, ↓k_de25, ↓k_tk25, ↓k_k, ↓k_kn, ↓k_kl, ↓k_kln, ↓k_il, ↓k_2, ↓k_1, ↓k_2c, ↓k_2l, ↓k_ac, ↓k_an, ↓k_cs, ↓k_cv, ↓k_fi, ↓k_fr, ↓k_ai, ↓k_az, ↓k_ar, ↓k_sai, ↓k_saz, ↓k_soa, ↓k_sof, ↓k_spf, ↓k_sx, ↓k_blk, ↓k_sset, ↓k_sdec, ↓k_sri, ↓k_srv, ↓k_srr, ↓k_nop, ↓k_add, ↓k_sub, ↓k_mul, ↓k_min, ↓k_max, ↓k_shr, ↓k_shl, ↓k_or, ↓k_ilz, ↓k_addl, ↓k_rt, ↓k_rb, ↓k_rbz, ↓k_rsi, ↓k_rsr, ↓k_rsv, ↓reduceIte, jj, ny, hlk', e2, eq_self, ↓xr9_6 h9, ↓xa9_6 h9, ↓xs9_6 h9, ↓xo9_6 h9, ↓xc9_6 h9, ↓xd9_6 h9, ↓xr9_7 h9, ↓xa9_7 h9, ↓xs9_7 h9, ↓xo9_7 h9, ↓xc9_7 h9, ↓xd9_7 h9, ↓xr9_9 h9, ↓xa9_9 h9, ↓xs9_9 h9, ↓xo9_9 h9, ↓xc9_9 h9, ↓xd9_9 h9, List.length_cons, List.length_nil, List.forall_mem_cons, List.not_mem_nil, Value.category, true_and, and_true, false_and, and_false, or_true, true_or, or_false, false_or, Nat.zero_le, forall_const, implies_true, false_implies, Nat.zero_add, Nat.reduceAdd, Nat.reduceLT, Nat.reduceLeDiff, Nat.le_refl, not_true_eq_false, not_false_eq_true, r_eq, r_ne, r_lt, r_ge, r_gt, r_le, bz_ne, nn_toNat, cn_of, cn_0, cn_1, i10, Int.reduceLE, Int.reduceLT, Int.reduceEq, bz_T, bz_F, ite_self, mulc, st_bud]
          exact h
      · have il : (i : Int) < ns (c y - 1000) := by omega
        obtain ⟨b1, b2, b3⟩ := ch_par w y0 yn' yn il
        rw [i2] at b1 b2
        have nl : ¬ lk = 0 := by omega
        have lkb : 0 < lk ∧ lk ≤ ns (c y - 1000) := by omega
        have ey : p + 1 < eE ns c y := by
          rw [← ch_end w y0 yn' yn]
          have := ch_mono w y0 yn' yn (ns (c y - 1000)).toNat i (by omega) (by omega)
          omega
        have no : ∀ q, 0 ≤ q → q ≤ y → ¬ eE ns c q = p + 1 := fun q w0 w1 w2 => by
          by_cases z : q = y
          · rw [z] at w2
            omega
          · have := (w_nest w (q := q) (p := y) w0 (by omega) (by omega) yn').2
            omega
        refine ⟨G, j, fun x _ => rfl, fun q w0 w1 w2 => absurd w2 (no q w0 w1), fun q _ => rfl, q_outR (fun Kt Kf h => ?_) ⟨by unfold opn; rw [if_pos b1, b2], rfl⟩⟩
        simp (disch := omega) only [↓wcX9_closeFull_0.eq_1, ↓k_mk, ↓k_sq, ↓k_sk, ↓k_bk, ↓k_if, ↓k_te, ↓k_cm, ↓k_cz, ↓k_an2, ↓k_or2, ↓k_no, ↓k_ci, ↓k_l0, ↓k_r0, ↓k_se0, ↓k_ic0, ↓k_l1, ↓k_r1, ↓k_se1, ↓k_ic1, ↓k_de1, ↓k_tk1, ↓k_l2, ↓k_r2, ↓k_se2, ↓k_ic2, ↓k_de2, ↓k_tk2, ↓k_l3, ↓k_r3, ↓k_se3, ↓k_ic3, ↓k_de3, ↓k_tk3, ↓k_l4, ↓k_r4, ↓k_se4, ↓k_ic4, ↓k_de4, ↓k_tk4, ↓k_l5, ↓k_r5, ↓k_se5, ↓k_ic5, ↓k_de5, ↓k_tk5, ↓k_l6, ↓k_r6, ↓k_se6, ↓k_ic6, ↓k_de6, ↓k_tk6, ↓k_l7, ↓k_r7, ↓k_se7, ↓k_ic7, ↓k_de7, ↓k_tk7, ↓k_l8, ↓k_r8, ↓k_se8, ↓k_ic8, ↓k_de8, ↓k_tk8, ↓k_l9, ↓k_r9, ↓k_se9, ↓k_ic9, ↓k_de9, ↓k_tk9, ↓k_l10, ↓k_r10, ↓k_se10, ↓k_ic10, ↓k_de10, ↓k_tk10, ↓k_l11, ↓k_r11, ↓k_se11, ↓k_ic11, ↓k_de11, ↓k_tk11, ↓k_l12, ↓k_r12, ↓k_se12, ↓k_ic12, ↓k_de12, ↓k_tk12, ↓k_l13, ↓k_r13, ↓k_se13, ↓k_ic13, ↓k_de13, ↓k_tk13, ↓k_l14, ↓k_r14, ↓k_se14, ↓k_ic14, ↓k_de14, ↓k_tk14, ↓k_l15, ↓k_r15, ↓k_se15, ↓k_ic15, ↓k_de15, ↓k_tk15, ↓k_l16, ↓k_r16, ↓k_se16, ↓k_ic16, ↓k_de16, ↓k_tk16, ↓k_l17, ↓k_r17, ↓k_se17, ↓k_ic17, ↓k_de17, ↓k_tk17, ↓k_l18, ↓k_r18, ↓k_se18, ↓k_ic18, ↓k_de18, ↓k_tk18, ↓k_l19, ↓k_r19, ↓k_se19, ↓k_ic19, ↓k_de19, ↓k_tk19, ↓k_l20, ↓k_r20, ↓k_se20, ↓k_ic20, ↓k_de20, ↓k_tk20, ↓k_l21, ↓k_r21, ↓k_se21, ↓k_ic21, ↓k_de21, ↓k_tk21, ↓k_l22, ↓k_r22, ↓k_se22, ↓k_ic22, ↓k_de22, ↓k_tk22, ↓k_l23, ↓k_r23, ↓k_se23, ↓k_ic23, ↓k_de23, ↓k_tk23, ↓k_l24, ↓k_r24, ↓k_se24, ↓k_ic24, ↓k_de24, ↓k_tk24, ↓k_l25, ↓k_r25, ↓k_se25, ↓k_ic25, ↓k_de25, ↓k_tk25, ↓k_k, ↓k_kn, ↓k_kl, ↓k_kln, ↓k_il, ↓k_2, ↓k_1, ↓k_2c, ↓k_2l, ↓k_ac, ↓k_an, ↓k_cs, ↓k_cv, ↓k_fi, ↓k_fr, ↓k_ai, ↓k_az, ↓k_ar, ↓k_sai, ↓k_saz, ↓k_soa, ↓k_sof, ↓k_spf, ↓k_sx, ↓k_blk, ↓k_sset, ↓k_sdec, ↓k_sri, ↓k_srv, ↓k_srr, ↓k_nop, ↓k_add, ↓k_sub, ↓k_mul, ↓k_min, ↓k_max, ↓k_shr, ↓k_shl, ↓k_or, ↓k_ilz, ↓k_addl, ↓k_rt, ↓k_rb, ↓k_rbz, ↓k_rsi, ↓k_rsr, ↓k_rsv, ↓reduceIte, jj, ny, hlk', nl, ↓xr9_9 h9, ↓xa9_9 h9, ↓xs9_9 h9, ↓xo9_9 h9, ↓xc9_9 h9, ↓xd9_9 h9, List.length_cons, List.length_nil, List.forall_mem_cons, List.not_mem_nil, Value.category, true_and, and_true, false_and, and_false, or_true, true_or, or_false, false_or, Nat.zero_le, forall_const, implies_true, false_implies, Nat.zero_add, Nat.reduceAdd, Nat.reduceLT, Nat.reduceLeDiff, Nat.le_refl, not_true_eq_false, not_false_eq_true, r_eq, r_ne, r_lt, r_ge, r_gt, r_le, bz_ne, nn_toNat, cn_of, cn_0, cn_1, i10, Int.reduceLE, Int.reduceLT, Int.reduceEq, bz_T, bz_F, ite_self, mulc, st_bud]
        exact h
/-- what holds when the pieces before p are placed -/
def IxP (G G' : Nat → Int → Int) (a : Nat) (ns : Int → Int) (n p : Int) : Prop := (∀ x, ¬ (a + 2 ≤ x ∧ x ≤ a + 8) → ¬ x = a → G' x = G x) ∧ (∀ j, ¬ j = 3 → ¬ j = 4 → G' a j = G a j) ∧ G' a 3 = nb (G (a + 1)) p.toNat ∧ G' a 4 = p - nb (G (a + 1)) p.toNat ∧
  (∀ q, 0 ≤ q → q < p → G' (a + 3) q = uU ns (G (a + 1)) q ∧ G' (a + 4) q = sS ns (G (a + 1)) q ∧ (1000 ≤ G (a + 1) q → G' (a + 6) q = nb (G (a + 1)) q.toNat ∧ G' (a + 7) (nb (G (a + 1)) q.toNat) = q) ∧ (¬ 1000 ≤ G (a + 1) q → G' (a + 6) q = q - nb (G (a + 1)) q.toNat ∧ G' (a + 8) (q - nb (G (a + 1)) q.toNat) = q)) ∧
  (∀ q, 0 ≤ q → q < p → G' (a + 2) q = if eE ns (G (a + 1)) q ≤ p then eE ns (G (a + 1)) q else q + 1) ∧ LK ns (G (a + 1)) p (G' (a + 5))
theorem c9_closeFull {T : Nat → Option q_T} {nx rc rs a : Nat} {R : Nat → Nat → Option Value} {ns c : Int → Int} {n : Int} {o p : Int} (h9 : Ly T R a (L9 a)) (w : Wd ns c n) (n5 : ∀ p, 0 ≤ p → p < n → 1000 ≤ c p → ns (c p - 1000) ≤ 5) (p0 : 0 ≤ p) (p1 : p < n) (G : Nat → Int → Int) (hy : o = -1 ∧ p + 1 = n ∨ 0 ≤ o ∧ o ≤ p ∧ 1000 ≤ c o ∧ ∃ i : Nat, (i : Int) ≤ ns (c o - 1000) ∧ chI (eE ns c) o i = p + 1 ∧ G (a + 5) o = ns (c o - 1000) - i) (hu : ∀ q, 0 ≤ q → q ≤ p → G (a + 3) q = uU ns c q) (hl : LK ns c (p + 1) (G (a + 5))) :
    ∃ G', (∀ x, ¬ x = a + 2 → G' x = G x) ∧ (∀ q, 0 ≤ q → q ≤ o → eE ns c q = p + 1 → G' (a + 2) q = p + 1) ∧ (∀ q, ¬ (0 ≤ q ∧ q ≤ o ∧ eE ns c q = p + 1) → G' (a + 2) q = G (a + 2) q) ∧
      ∀ K : Option Value → q_M → Prop, fX9_closeFull [.ref a, .int (zI o), .int (zI (p + 1))] (st T nx rc rs R G) K = K (some (.int (zI (opn ns c n (p + 1))))) (st T nx rc rs R G') := by
  have n2 := w.2.1
  obtain ⟨G', j', q1, q2, q3, q4⟩ := w9_close (T := T) (nx := nx) (rc := rc) (rs := rs) (R := R) (o := o) h9 w n5 p0 p1 202 G o 0 (by omega) (Int.le_refl _) (by omega) hy hu hl
  refine ⟨G', q1, q2, q3, fun K => ?_⟩
  have lw : ∀ (Kn : List Value → q_M → Prop) (Kr : Option Value → q_M → Prop), wX9_closeFull_0 [.ref a, .int (zI o), .int (zI (p + 1)), .int (zI o), .int (zI 0)] (st T nx rc rs R G) Kn Kr = Kn [.ref a, .int (zI o), .int (zI (p + 1)), .int (zI (opn ns c n (p + 1))), .int (zI j')] (st T nx rc rs R G') := eX9_closeFull_0.eqn q4
  simp (disch := omega) only [↓fX9_closeFull.eq_1, ↓uX9_closeFull, ↓k_mk, ↓k_sq, ↓k_sk, ↓k_bk, ↓k_if, ↓k_te, ↓k_cm, ↓k_cz, ↓k_an2, ↓k_or2, ↓k_no, ↓k_ci, ↓k_l0, ↓k_r0, ↓k_se0, ↓k_ic0, ↓k_l1, ↓k_r1, ↓k_se1, ↓k_ic1, ↓k_de1, ↓k_tk1, ↓k_l2, ↓k_r2, ↓k_se2, ↓k_ic2, ↓k_de2, ↓k_tk2, ↓k_l3, ↓k_r3, ↓k_se3, ↓k_ic3, ↓k_de3, ↓k_tk3, ↓k_l4, ↓k_r4, ↓k_se4, ↓k_ic4, ↓k_de4, ↓k_tk4, ↓k_l5, ↓k_r5, ↓k_se5, ↓k_ic5, ↓k_de5, ↓k_tk5, ↓k_l6, ↓k_r6, ↓k_se6, ↓k_ic6, ↓k_de6, ↓k_tk6, ↓k_l7, ↓k_r7, ↓k_se7, ↓k_ic7, ↓k_de7, ↓k_tk7, ↓k_l8, ↓k_r8, ↓k_se8, ↓k_ic8, ↓k_de8, ↓k_tk8, ↓k_l9, ↓k_r9, ↓k_se9, ↓k_ic9, ↓k_de9, ↓k_tk9, ↓k_l10, ↓k_r10, ↓k_se10, ↓k_ic10, ↓k_de10, ↓k_tk10, ↓k_l11, ↓k_r11, ↓k_se11, ↓k_ic11, ↓k_de11, ↓k_tk11, ↓k_l12, ↓k_r12, ↓k_se12, ↓k_ic12, ↓k_de12, ↓k_tk12, ↓k_l13, ↓k_r13, ↓k_se13, ↓k_ic13, ↓k_de13, ↓k_tk13, ↓k_l14, ↓k_r14, ↓k_se14, ↓k_ic14, ↓k_de14, ↓k_tk14, ↓k_l15, ↓k_r15, ↓k_se15, ↓k_ic15, ↓k_de15, ↓k_tk15, ↓k_l16, ↓k_r16, ↓k_se16, ↓k_ic16, ↓k_de16, ↓k_tk16, ↓k_l17, ↓k_r17, ↓k_se17, ↓k_ic17, ↓k_de17, ↓k_tk17, ↓k_l18, ↓k_r18, ↓k_se18, ↓k_ic18, ↓k_de18, ↓k_tk18, ↓k_l19, ↓k_r19, ↓k_se19, ↓k_ic19, ↓k_de19, ↓k_tk19, ↓k_l20, ↓k_r20, ↓k_se20, ↓k_ic20, ↓k_de20, ↓k_tk20, ↓k_l21, ↓k_r21, ↓k_se21, ↓k_ic21, ↓k_de21, ↓k_tk21, ↓k_l22, ↓k_r22, ↓k_se22, ↓k_ic22, ↓k_de22, ↓k_tk22, ↓k_l23, ↓k_r23, ↓k_se23, ↓k_ic23, ↓k_de23, ↓k_tk23, ↓k_l24, ↓k_r24, ↓k_se24, ↓k_ic24, ↓k_de24, ↓k_tk24, ↓k_l25, ↓k_r25, ↓k_se25, ↓k_ic25, ↓k_de25, ↓k_tk25, ↓k_k, ↓k_kn, ↓k_kl, ↓k_kln, ↓k_il, ↓k_2, ↓k_1, ↓k_2c, ↓k_2l, ↓k_ac, ↓k_an, ↓k_cs, ↓k_cv, ↓k_fi, ↓k_fr, ↓k_ai, ↓k_az, ↓k_ar, ↓k_sai, ↓k_saz, ↓k_soa, ↓k_sof, ↓k_spf, ↓k_sx, ↓k_blk, ↓k_sset, ↓k_sdec, ↓k_sri, ↓k_srv, ↓k_srr, ↓k_nop, ↓k_add, ↓k_sub, ↓k_mul, ↓k_min, ↓k_max, ↓k_shr, ↓k_shl, ↓k_or, ↓k_ilz, ↓k_addl, ↓k_rt, ↓k_rb, ↓k_rbz, ↓k_rsi, ↓k_rsr, ↓k_rsv, ↓reduceIte, ↓lw, List.length_cons, List.length_nil, List.forall_mem_cons, List.not_mem_nil, Value.category, true_and, and_true, false_and, and_false, or_true, true_or, or_false, false_or, Nat.zero_le, forall_const, implies_true, false_implies, Nat.zero_add, Nat.reduceAdd, Nat.reduceLT, Nat.reduceLeDiff, Nat.le_refl, not_true_eq_false, not_false_eq_true, r_eq, r_ne, r_lt, r_ge, r_gt, r_le, bz_ne, nn_toNat, cn_of, cn_0, cn_1, i10, Int.reduceLE, Int.reduceLT, Int.reduceEq, bz_T, bz_F, ite_self, mulc, st_bud]
end
