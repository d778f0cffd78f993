section
/-! lay: sets that keep the pins -/
theorem mo_bit {sb pn : Int → Int} {x : Int} : ∀ (n j : Nat), (moN sb pn x n).testBit j = true ↔ ∃ m : Nat, m < n ∧ ownN sb m = (j : Int) ∧ pn m = x := by
  intro n
  induction n with
  | zero =>
    intro j
    refine ⟨fun h => ?_, fun ⟨m, h, _⟩ => absurd h (by omega)⟩
    have h : (0 : Nat).testBit j = true := h
    rw [Nat.zero_testBit] at h
    exact absurd h (by decide)
  | succ n ih =>
    intro j
    have b := scN_b sb n
    have own : ownN sb n = if sb n = 1 ∧ scN sb n < 8 then scN sb n else -1 := rfl
    rw [moN]
    by_cases c : sb n = 1 ∧ scN sb n < 8 ∧ pn n = x
    · rw [if_pos c, Nat.testBit_or, Bool.or_eq_true, ih j, Nat.testBit_two_pow]
      rw [if_pos ⟨c.1, c.2.1⟩] at own
      refine ⟨fun h => ?_, fun ⟨m, m1, m2, m3⟩ => ?_⟩
      · rcases h with ⟨m, m1, m2, m3⟩ | h
        · exact ⟨m, by omega, m2, m3⟩
        · have e := of_decide_eq_true h
          exact ⟨n, by omega, by omega, c.2.2⟩
      · by_cases z : m = n
        · right
          rw [z] at m2
          exact decide_eq_true (by omega)
        · exact Or.inl ⟨m, by omega, m2, m3⟩
    · rw [if_neg c, ih j]
      refine ⟨fun ⟨m, m1, m2, m3⟩ => ⟨m, by omega, m2, m3⟩, fun ⟨m, m1, m2, m3⟩ => ?_⟩
      by_cases z : m = n
      · rw [z] at m2 m3
        by_cases d : sb n = 1 ∧ scN sb n < 8
        · exact absurd ⟨d.1, d.2, m3⟩ c
        · rw [if_neg d] at own
          omega
      · exact ⟨m, by omega, m2, m3⟩
theorem and_all (S mo : Nat) : S &&& mo = mo ↔ ∀ j, mo.testBit j = true → S.testBit j = true := by
  refine ⟨fun e j h => ?_, fun h => ?_⟩
  · rw [← e, Nat.testBit_and, Bool.and_eq_true] at h
    exact h.1
  · apply Nat.eq_of_testBit_eq
    intro i
    rw [Nat.testBit_and]
    by_cases t : mo.testBit i = true
    · rw [t, h i t]
      rfl
    · rw [Bool.eq_false_iff.mpr t, Bool.and_false]
theorem and_none (S ms : Nat) : S &&& ms = 0 ↔ ∀ j, ms.testBit j = true → ¬ S.testBit j = true := by
  refine ⟨fun e j h t => ?_, fun h => ?_⟩
  · have : (S &&& ms).testBit j = true := by rw [Nat.testBit_and, t, h]; rfl
    rw [e, Nat.zero_testBit] at this
    exact absurd this (by decide)
  · apply Nat.eq_of_testBit_eq
    intro i
    rw [Nat.testBit_and, Nat.zero_testBit]
    by_cases t : ms.testBit i = true
    · rw [Bool.eq_false_iff.mpr (h i t)]
      rfl
    · rw [Bool.eq_false_iff.mpr t, Bool.and_false]
/-- set S keeps pin p of the soft node k -/
def pinK (S : Nat) (p : Int) (k : Nat) : Prop := p = 0 ∨ (p = 1 ∧ S.testBit k = true) ∨ (p = 2 ∧ ¬ S.testBit k = true)
theorem ok_pins {sb pn : Int → Int} {N S : Nat} (hp : ∀ m : Nat, m < N → 0 ≤ pn m ∧ pn m ≤ 2) : okPin (moN sb pn 1 N) (moN sb pn 2 N) S = true ↔ ∀ (m : Nat) (j : Nat), m < N → ownN sb m = (j : Int) → pinK S (pn m) j := by
  unfold okPin
  rw [decide_eq_true_iff, and_all, and_none]
  refine ⟨fun ⟨h1, h2⟩ m j hm hj => ?_, fun h => ⟨fun j hj => ?_, fun j hj => ?_⟩⟩
  · have p := hp m hm
    by_cases c0 : pn m = 0
    · exact Or.inl c0
    · by_cases c1 : pn m = 1
      · exact Or.inr (Or.inl ⟨c1, h1 j ((mo_bit N j).mpr ⟨m, hm, hj, c1⟩)⟩)
      · have c2 : pn m = 2 := by omega
        exact Or.inr (Or.inr ⟨c2, h2 j ((mo_bit N j).mpr ⟨m, hm, hj, c2⟩)⟩)
  · obtain ⟨m, m1, m2, m3⟩ := (mo_bit N j).mp hj
    rcases h m j m1 m2 with w | w | w
    · omega
    · exact w.2
    · omega
  · obtain ⟨m, m1, m2, m3⟩ := (mo_bit N j).mp hj
    rcases h m j m1 m2 with w | w | w
    · omega
    · omega
    · exact w.2
/-- there is a set that keeps all pins -/
theorem ok_one {sb pn : Int → Int} {N : Nat} (hp : ∀ m : Nat, m < N → 0 ≤ pn m ∧ pn m ≤ 2) : okPin (moN sb pn 1 N) (moN sb pn 2 N) (moN sb pn 1 N) = true := by
  rw [ok_pins hp]
  intro m j hm hj
  have p := hp m hm
  by_cases c0 : pn m = 0
  · exact Or.inl c0
  · by_cases c1 : pn m = 1
    · exact Or.inr (Or.inl ⟨c1, (mo_bit N j).mpr ⟨m, hm, hj, c1⟩⟩)
    · refine Or.inr (Or.inr ⟨by omega, fun h => ?_⟩)
      obtain ⟨m', m1, m2, m3⟩ := (mo_bit N j).mp h
      have := own_inj (sb := sb) (m := m) (n := m') (by omega) (by rw [hj, m2])
      rw [this] at c1
      exact c1 m3
theorem mo_lt {sb pn : Int → Int} {x : Int} {N s : Nat} (hs : (s : Int) = min 8 (scN sb N)) : moN sb pn x N < 2 ^ s := by
  refine Nat.lt_pow_two_of_testBit _ fun j hj => ?_
  refine Bool.eq_false_iff.mpr fun h => ?_
  obtain ⟨m, m1, m2, _⟩ := (mo_bit N j).mp h
  obtain ⟨o1, o2, o3⟩ := own_in (sb := sb) (m := m) (by omega)
  have e : scN sb (m + 1) = scN sb m + if sb m = 1 then 1 else 0 := rfl
  rw [if_pos o2] at e
  have mm := scN_mono sb (show m + 1 ≤ N by omega)
  omega
/-- kept so far -/
def kpN (S : Nat) (pk : Nat → Int) : Nat → Int
  | 0 => 1
  | k + 1 => if kpN S pk k = 1 ∧ (pk k = 0 ∨ (pk k = 1 ∧ S.testBit k = true) ∨ (pk k = 2 ∧ S.testBit k = false)) then 1 else 0
theorem kpN_b (S : Nat) (pk : Nat → Int) (k : Nat) : kpN S pk k = 0 ∨ kpN S pk k = 1 := by
  cases k with
  | zero => exact Or.inr rfl
  | succ k =>
    rw [kpN]
    split
    · exact Or.inr rfl
    · exact Or.inl rfl
theorem kpN_iff (S : Nat) (pk : Nat → Int) : ∀ k : Nat, kpN S pk k = 1 ↔ ∀ j : Nat, j < k → pinK S (pk j) j := by
  intro k
  induction k with
  | zero => exact ⟨fun _ j hj => absurd hj (by omega), fun _ => rfl⟩
  | succ k ih =>
    have pe : pinK S (pk k) k ↔ (pk k = 0 ∨ (pk k = 1 ∧ S.testBit k = true) ∨ (pk k = 2 ∧ S.testBit k = false)) := by
      unfold pinK
      rw [Bool.not_eq_true]
    rw [kpN]
    by_cases c : kpN S pk k = 1 ∧ (pk k = 0 ∨ (pk k = 1 ∧ S.testBit k = true) ∨ (pk k = 2 ∧ S.testBit k = false))
    · rw [if_pos c]
      refine ⟨fun _ j hj => ?_, fun _ => rfl⟩
      by_cases z : j = k
      · rw [z]
        exact pe.mpr c.2
      · exact ih.mp c.1 j (by omega)
    · rw [if_neg c]
      refine ⟨fun h => absurd h (by omega), fun h => absurd ⟨ih.mpr fun j hj => h j (by omega), pe.mp (h k (by omega))⟩ c⟩
theorem c12_keepsPins {T : Nat → Option q_T} {nx B : Nat} {R : Nat → Nat → Option Value} {G : Nat → Int → Int} {i : Int} {S N s : Nat} {sb pn : Int → Int} (hM : Ly T R (B + 544) (L12 (B + 544))) (i0 : 0 ≤ i) (i1 : i < 100) (N40 : N ≤ 40) (S256 : S < 256) (h69 : G (B + 544) 69 = s) (hs : (s : Int) = min 8 (scN sb N)) (hsn : SNd G B sb N) (hp : ∀ m : Nat, m < N → G (B + 544 + 22) (40 * i + m) = pn m ∧ 0 ≤ pn m ∧ pn m ≤ 2) :
    ∃ b : Int, (b = 0 ∨ b = 1) ∧ (b = 1 ↔ okPin (moN sb pn 1 N) (moN sb pn 2 N) S = true) ∧ ∀ K : Option Value → q_M → Prop, fX12_keepsPins [.ref (B + 544), .int (zI i), .int (zI (S : Int))] (st T nx 0 0 R G) K = K (some (.int (zI b))) (st T nx 0 0 R G) := by
  have scb := scN_b sb N
  obtain ⟨pk, hpk⟩ : ∃ pk : Nat → Int, pk = fun k : Nat => pn (G (B + 544 + 56) (k : Int)) := ⟨_, rfl⟩
  have ex : ∀ k : Nat, k < s → ∃ m : Nat, m < N ∧ ownN sb m = (k : Int) ∧ G (B + 544 + 56) k = m := fun k hk => by
    obtain ⟨m, m1, m2⟩ := own_ex N (k : Int) (by omega) (by omega : (k : Int) < min 8 (scN sb N))
    have := hsn m m1 (by rw [m2]; omega)
    rw [m2] at this
    exact ⟨m, m1, m2, this⟩
  have w : ∀ (Kn : List Value → q_M → Prop) (Kr : Option Value → q_M → Prop), wX12_keepsPins_0 [.ref (B + 544), .int (zI i), .int (zI (S : Int)), .int (zI 1), .int (zI 0)] (st T nx 0 0 R G) Kn Kr = Kn [.ref (B + 544), .int (zI i), .int (zI (S : Int)), .int (zI (kpN S pk s)), .int (zI s)] (st T nx 0 0 R G) := q_for eX12_keepsPins_0 (fun _ _ => lX12_keepsPins_0) (fun k => [.ref (B + 544), .int (zI i), .int (zI (S : Int)), .int (zI (kpN S pk k)), .int (zI k)]) (fun _ => st T nx 0 0 R G) s (fun k hk Kn Kf h => by
    have hz : (k : Int) < (s : Int) := by omega
    have s8 : (s : Int) ≤ 8 := by omega
    have e7 : ((k + 1 : Nat) : Int) = (k : Int) + 1 := by omega
    obtain ⟨m, m1, m2, m3⟩ := ex k hk
    obtain ⟨p1, p2, p3⟩ := hp m m1
    have m40 : (m : Int) < 40 := by omega
    have ep : pk k = pn m := by rw [hpk]; show pn (G (B + 544 + 56) k) = _; rw [m3]
    have es : kpN S pk (k + 1) = if kpN S pk k = 1 ∧ (pk k = 0 ∨ (pk k = 1 ∧ S.testBit k = true) ∨ (pk k = 2 ∧ S.testBit k = false)) then 1 else 0 := rfl
    rw [es, ep, e7] at h
    have kb := kpN_b S pk k
    obtain ⟨y, hy⟩ : ∃ y, y = kpN S pk k := ⟨_, rfl⟩
    rw [← hy] at kb h ⊢
    obtain ⟨p, hpp⟩ : ∃ p, p = pn m := ⟨_, rfl⟩
    rw [← hpp] at p1 p2 p3 h
    have bv := bit_val ⟨S, S256⟩ ⟨k, by omega⟩
    have bv : q_giand (q_gishr (zI (S : Int)) (zI (k : Int))) (zI 1) = zI (if S.testBit k then 1 else 0) := bv
    have kb1 : ∀ (μ : q_M) (K : Int32 → q_M → Prop), opK (q_gishr (zI (S : Int)) (zI (k : Int))) μ K = K (q_gishr (zI (S : Int)) (zI (k : Int))) μ := fun μ K => rfl
    have one : ¬ (1 : Int) = 0 := by omega
    have two1 : ¬ (2 : Int) = 1 := by omega
    have two0 : ¬ (2 : Int) = 0 := by omega
    have zo : ¬ (0 : Int) = 1 := by omega
    clear hp hsn ex es ep hpk
    rcases kb with e | e
    · rw [if_neg (by omega)] at h
      rw [e]
      simp (disch := omega) only [↓wcX12_keepsPins_0.eq_1, ↓wsX12_keepsPins_0.eq_1, ↓k_mk, ↓k_sq, ↓k_sk, ↓k_bk, ↓k_if, ↓k_te, ↓k_cm, ↓k_cz, ↓k_an2, ↓k_or2, ↓k_no, ↓k_ci, ↓k_l0, ↓k_r0, ↓k_se0, ↓k_ic0, ↓k_l1, ↓k_r1, ↓k_se1, ↓k_ic1, ↓k_de1, ↓k_tk1, ↓k_l2, ↓k_r2, ↓k_se2, ↓k_ic2, ↓k_de2, ↓k_tk2, ↓k_l3, ↓k_r3, ↓k_se3, ↓k_ic3, ↓k_de3, ↓k_tk3, ↓k_l4, ↓k_r4, ↓k_se4, ↓k_ic4, ↓k_de4, ↓k_tk4, ↓k_l5, ↓k_r5, ↓k_se5, ↓k_ic5, ↓k_de5, ↓k_tk5, ↓k_l6, ↓k_r6, ↓k_se6, ↓k_ic6, ↓k_de6, ↓k_tk6, ↓k_l7, ↓k_r7, ↓k_se7, ↓k_ic7, ↓k_de7, ↓k_tk7, ↓k_l8, ↓k_r8, ↓k_se8, ↓k_ic8, ↓k_de8, ↓k_tk8, ↓k_l9, ↓k_r9, ↓k_se9, ↓k_ic9, ↓k_de9, ↓k_tk9, ↓k_l10, ↓k_r10, ↓k_se10, ↓k_ic10, ↓k_de10, ↓k_tk10, ↓k_l11, ↓k_r11, ↓k_se11, ↓k_ic11, ↓k_de11, ↓k_tk11, ↓k_l12, ↓k_r12, ↓k_se12, ↓k_ic12, ↓k_de12, ↓k_tk12, ↓k_l13, ↓k_r13, ↓k_se13, ↓k_ic13, ↓k_de13, ↓k_tk13, ↓k_l14, ↓k_r14, ↓k_se14, ↓k_ic14, ↓k_de14, ↓k_tk14, ↓k_l15, ↓k_r15, ↓k_se15, ↓k_ic15, ↓k_de15, ↓k_tk15, ↓k_l16, ↓k_r16, ↓k_se16, ↓k_ic16, ↓k_de16, ↓k_tk16, ↓k_l17, ↓k_r17, ↓k_se17, ↓k_ic17, ↓k_de17, ↓k_tk17, ↓k_l18, ↓k_r18, ↓k_se18, ↓k_ic18, ↓k_de18, ↓k_tk18, ↓k_l19, ↓k_r19, ↓k_se19, ↓k_ic19, ↓k_de19, ↓k_tk19, ↓k_l20, ↓k_r20, ↓k_se20, ↓k_ic20, ↓k_de20, ↓k_tk20, ↓k_l21, ↓k_r21, ↓k_se21, ↓k_ic21, ↓k_de21, ↓k_tk21, ↓k_l22, ↓k_r22, ↓k_se22, ↓k_ic22, ↓k_de22, ↓k_tk22, ↓k_l23, ↓k_r23, ↓k_se23, ↓k_ic23, ↓k_de23, ↓k_tk23, ↓k_l24, ↓k_r24, ↓k_se24, ↓k_ic24, ↓k_de24, ↓k_tk24, ↓k_l25, ↓k_r25, ↓k_se25, ↓k_ic25, ↓k_de25, ↓k_tk25, ↓k_k, ↓k_kn, ↓k_kl, ↓k_kln, ↓k_il, ↓k_2, ↓k_1, ↓k_2c, ↓k_2l, ↓k_ac, ↓k_an, ↓k_cs, ↓k_cv, ↓k_fi, ↓k_fr, ↓k_ai, ↓k_az, ↓k_ar, ↓k_sai, ↓k_saz, ↓k_soa, ↓k_sof, ↓k_spf, ↓k_sx, ↓k_blk, ↓k_sset, ↓k_sdec, ↓k_sri, ↓k_srv, ↓k_srr, ↓k_nop, ↓k_add, ↓k_sub, ↓k_mul, ↓k_min, ↓k_max, ↓k_shr, ↓k_shl, ↓k_or, ↓k_ilz, ↓k_addl, ↓k_rt, ↓k_rb, ↓k_rbz, ↓k_rsi, ↓k_rsr, ↓k_rsv, ↓reduceIte, h69, hz, m3, p1, eq_self, ↓xr12_21 hM, ↓xa12_21 hM, ↓xs12_21 hM, ↓xo12_21 hM, ↓xc12_21 hM, ↓xd12_21 hM, ↓xi12_69 hM, ↓xp12_69 hM, ↓xb12_69 hM, ↓xf12_69 hM, ↓xg12_69 hM, ↓xh12_69 hM, ↓xr12_70 hM, ↓xa12_70 hM, ↓xs12_70 hM, ↓xo12_70 hM, ↓xc12_70 hM, ↓xd12_70 hM, List.length_cons, List.length_nil, List.forall_mem_cons, List.not_mem_nil, Value.category, true_and, and_true, false_and, and_false, or_true, true_or, or_false, false_or, Nat.zero_le, forall_const, implies_true, false_implies, Nat.zero_add, Nat.reduceAdd, Nat.reduceLT, Nat.reduceLeDiff, Nat.le_refl, not_true_eq_false, not_false_eq_true, r_eq, r_ne, r_lt, r_ge, r_gt, r_le, bz_ne, nn_toNat, cn_of, cn_0, cn_1, i10, Int.reduceLE, Int.reduceLT, Int.reduceEq, bz_T, bz_F, ite_self, mulc, st_bud]
      exact h
    · rw [e] at h ⊢
      have p012 : p = 0 ∨ p = 1 ∨ p = 2 := by omega
      rcases p012 with c | c | c
      · rw [if_pos ⟨rfl, Or.inl c⟩] at h
        rw [c] at p1
        simp (disch := omega) only [↓wcX12_keepsPins_0.eq_1, ↓wsX12_keepsPins_0.eq_1, ↓k_mk, ↓k_sq, ↓k_sk, ↓k_bk, ↓k_if, ↓k_te, ↓k_cm, ↓k_cz, ↓k_an2, ↓k_or2, ↓k_no, ↓k_ci, ↓k_l0, ↓k_r0, ↓k_se0, ↓k_ic0, ↓k_l1, ↓k_r1, ↓k_se1, ↓k_ic1, ↓k_de1, ↓k_tk1, ↓k_l2, ↓k_r2, ↓k_se2, ↓k_ic2, ↓k_de2, ↓k_tk2, ↓k_l3, ↓k_r3, ↓k_se3, ↓k_ic3, ↓k_de3, ↓k_tk3, ↓k_l4, ↓k_r4, ↓k_se4, ↓k_ic4, ↓k_de4, ↓k_tk4, ↓k_l5, ↓k_r5, ↓k_se5, ↓k_ic5, ↓k_de5, ↓k_tk5, ↓k_l6, ↓k_r6, ↓k_se6, ↓k_ic6, ↓k_de6, ↓k_tk6, ↓k_l7, ↓k_r7, ↓k_se7, ↓k_ic7, ↓k_de7, ↓k_tk7, ↓k_l8, ↓k_r8, ↓k_se8, ↓k_ic8, ↓k_de8, ↓k_tk8, ↓k_l9, ↓k_r9, ↓k_se9, ↓k_ic9, ↓k_de9, ↓k_tk9, ↓k_l10, ↓k_r10, ↓k_se10, ↓k_ic10, ↓k_de10, ↓k_tk10, ↓k_l11, ↓k_r11, ↓k_se11, ↓k_ic11, ↓k_de11, ↓k_tk11, ↓k_l12, ↓k_r12, ↓k_se12, ↓k_ic12, ↓k_de12, ↓k_tk12, ↓k_l13, ↓k_r13, ↓k_se13, ↓k_ic13, ↓k_de13, ↓k_tk13, ↓k_l14, ↓k_r14, ↓k_se14, ↓k_ic14, ↓k_de14, ↓k_tk14, ↓k_l15, ↓k_r15, ↓k_se15, ↓k_ic15, ↓k_de15, ↓k_tk15, ↓k_l16, ↓k_r16, ↓k_se16, ↓k_ic16, ↓k_de16, ↓k_tk16, ↓k_l17, ↓k_r17, ↓k_se17, ↓k_ic17, ↓k_de17, ↓k_tk17, ↓k_l18, ↓k_r18, ↓k_se18, ↓k_ic18, ↓k_de18, ↓k_tk18, ↓k_l19, ↓k_r19, ↓k_se19, ↓k_ic19, ↓k_de19, ↓k_tk19, ↓k_l20, ↓k_r20, ↓k_se20, ↓k_ic20, ↓k_de20, ↓k_tk20, ↓k_l21, ↓k_r21, ↓k_se21, ↓k_ic21, ↓k_de21, ↓k_tk21, ↓k_l22, ↓k_r22, ↓k_se22, ↓k_ic22, ↓k_de22, ↓k_tk22, ↓k_l23, ↓k_r23, ↓k_se23, ↓k_ic23, ↓k_de23, ↓k_tk23, ↓k_l24, ↓k_r24, ↓k_se24, ↓k_ic24, ↓k_de24, ↓k_tk24, ↓k_l25, ↓k_r25, ↓k_se25, ↓k_ic25, ↓k_de25, ↓k_tk25, ↓k_k, ↓k_kn, ↓k_kl, ↓k_kln, ↓k_il, ↓k_2, ↓k_1, ↓k_2c, ↓k_2l, ↓k_ac, ↓k_an, ↓k_cs, ↓k_cv, ↓k_fi, ↓k_fr, ↓k_ai, ↓k_az, ↓k_ar, ↓k_sai, ↓k_saz, ↓k_soa, ↓k_sof, ↓k_spf, ↓k_sx, ↓k_blk, ↓k_sset, ↓k_sdec, ↓k_sri, ↓k_srv, ↓k_srr, ↓k_nop, ↓k_add, ↓k_sub, ↓k_mul, ↓k_min, ↓k_max, ↓k_shr, ↓k_shl, ↓k_or, ↓k_ilz, ↓k_addl, ↓k_rt, ↓k_rb, ↓k_rbz, ↓k_rsi, ↓k_rsr, ↓k_rsv, ↓reduceIte, h69, hz, m3, p1, one, eq_self, ↓xr12_21 hM, ↓xa12_21 hM, ↓xs12_21 hM, ↓xo12_21 hM, ↓xc12_21 hM, ↓xd12_21 hM, ↓xi12_69 hM, ↓xp12_69 hM, ↓xb12_69 hM, ↓xf12_69 hM, ↓xg12_69 hM, ↓xh12_69 hM, ↓xr12_70 hM, ↓xa12_70 hM, ↓xs12_70 hM, ↓xo12_70 hM, ↓xc12_70 hM, ↓xd12_70 hM, List.length_cons, List.length_nil, List.forall_mem_cons, List.not_mem_nil, Value.category, true_and, and_true, false_and, and_false, or_true, true_or, or_false, false_or, Nat.zero_le, forall_const, implies_true, false_implies, Nat.zero_add, Nat.reduceAdd, Nat.reduceLT, Nat.reduceLeDiff, Nat.le_refl, not_true_eq_false, not_false_eq_true, r_eq, r_ne, r_lt, r_ge, r_gt, r_le, bz_ne, nn_toNat, cn_of, cn_0, cn_1, i10, Int.reduceLE, Int.reduceLT, Int.reduceEq, bz_T, bz_F, ite_self, mulc, st_bud]
        exact h
      · rw [c] at p1
        by_cases t : S.testBit k = true
        · rw [if_pos ⟨rfl, Or.inr (Or.inl ⟨c, t⟩)⟩] at h
          rw [if_pos t] at bv
          have kb : ∀ (μ : q_M) (K : Int32 → q_M → Prop), opK (q_giand (q_gishr (zI (S : Int)) (zI (k : Int))) (zI 1)) μ K = K (zI 1) μ := fun μ K => by
            rw [bv]
            rfl
          simp (disch := omega) only [↓wcX12_keepsPins_0.eq_1, ↓wsX12_keepsPins_0.eq_1, ↓k_mk, ↓k_sq, ↓k_sk, ↓k_bk, ↓k_if, ↓k_te, ↓k_cm, ↓k_cz, ↓k_an2, ↓k_or2, ↓k_no, ↓k_ci, ↓k_l0, ↓k_r0, ↓k_se0, ↓k_ic0, ↓k_l1, ↓k_r1, ↓k_se1, ↓k_ic1, ↓k_de1, ↓k_tk1, ↓k_l2, ↓k_r2, ↓k_se2, ↓k_ic2, ↓k_de2, ↓k_tk2, ↓k_l3, ↓k_r3, ↓k_se3, ↓k_ic3, ↓k_de3, ↓k_tk3, ↓k_l4, ↓k_r4, ↓k_se4, ↓k_ic4, ↓k_de4, ↓k_tk4, ↓k_l5, ↓k_r5, ↓k_se5, ↓k_ic5, ↓k_de5, ↓k_tk5, ↓k_l6, ↓k_r6, ↓k_se6, ↓k_ic6, ↓k_de6, ↓k_tk6, ↓k_l7, ↓k_r7, ↓k_se7, ↓k_ic7, ↓k_de7, ↓k_tk7, ↓k_l8, ↓k_r8, ↓k_se8, ↓k_ic8, ↓k_de8, ↓k_tk8, ↓k_l9, ↓k_r9, ↓k_se9, ↓k_ic9, ↓k_de9, ↓k_tk9, ↓k_l10, ↓k_r10, ↓k_se10, ↓k_ic10, ↓k_de10, ↓k_tk10, ↓k_l11, ↓k_r11, ↓k_se11, ↓k_ic11, ↓k_de11, ↓k_tk11, ↓k_l12, ↓k_r12, ↓k_se12, ↓k_ic12, ↓k_de12, ↓k_tk12, ↓k_l13, ↓k_r13, ↓k_se13, ↓k_ic13, ↓k_de13, ↓k_tk13, ↓k_l14, ↓k_r14, ↓k_se14, ↓k_ic14, ↓k_de14, ↓k_tk14, ↓k_l15, ↓k_r15, ↓k_se15, ↓k_ic15, ↓k_de15, ↓k_tk15, ↓k_l16, ↓k_r16, ↓k_se16, ↓k_ic16, ↓k_de16, ↓k_tk16, ↓k_l17, ↓k_r17, ↓k_se17, ↓k_ic17, ↓k_de17, ↓k_tk17, ↓k_l18, ↓k_r18, ↓k_se18, ↓k_ic18, ↓k_de18, ↓k_tk18, ↓k_l19, ↓k_r19, ↓k_se19, ↓k_ic19, ↓k_de19, ↓k_tk19, ↓k_l20, ↓k_r20, ↓k_se20, ↓k_ic20, ↓k_de20, ↓k_tk20, ↓k_l21, ↓k_r21, ↓k_se21, ↓k_ic21, ↓k_de21, ↓k_tk21, ↓k_l22, ↓k_r22, ↓k_se22, ↓k_ic22, ↓k_de22, ↓k_tk22, ↓k_l23, ↓k_r23, ↓k_se23, ↓k_ic23, ↓k_de23, ↓k_tk23, ↓k_l24, ↓k_r24, ↓k_se24, ↓k_ic24, ↓k_de24, ↓k_tk24, ↓k_l25, ↓k_r25, ↓k_se25, ↓k_ic25, ↓k_de25, ↓k_tk25, ↓k_k, ↓k_kn, ↓k_kl, ↓k_kln, ↓k_il, ↓k_2, ↓k_1, ↓k_2c, ↓k_2l, ↓k_ac, ↓k_an, ↓k_cs, ↓k_cv, ↓k_fi, ↓k_fr, ↓k_ai, ↓k_az, ↓k_ar, ↓k_sai, ↓k_saz, ↓k_soa, ↓k_sof, ↓k_spf, ↓k_sx, ↓k_blk, ↓k_sset, ↓k_sdec, ↓k_sri, ↓k_srv, ↓k_srr, ↓k_nop, ↓k_add, ↓k_sub, ↓k_mul, ↓k_min, ↓k_max, ↓k_shr, ↓k_shl, ↓k_or, ↓k_ilz, ↓k_addl, ↓k_rt, ↓k_rb, ↓k_rbz, ↓k_rsi, ↓k_rsr, ↓k_rsv, ↓reduceIte, h69, hz, m3, p1, one, ↓kb1, ↓kb, eq_self, ↓xr12_21 hM, ↓xa12_21 hM, ↓xs12_21 hM, ↓xo12_21 hM, ↓xc12_21 hM, ↓xd12_21 hM, ↓xi12_69 hM, ↓xp12_69 hM, ↓xb12_69 hM, ↓xf12_69 hM, ↓xg12_69 hM, ↓xh12_69 hM, ↓xr12_70 hM, ↓xa12_70 hM, ↓xs12_70 hM, ↓xo12_70 hM, ↓xc12_70 hM, ↓xd12_70 hM, List.length_cons, List.length_nil, List.forall_mem_cons, List.not_mem_nil, Value.category, true_and, and_true, false_and, and_false, or_true, true_or, or_false, false_or, Nat.zero_le, forall_const, implies_true, false_implies, Nat.zero_add, Nat.reduceAdd, Nat.reduceLT, Nat.reduceLeDiff, Nat.le_refl, not_true_eq_false, not_false_eq_true, r_eq, r_ne, r_lt, r_ge, r_gt, r_le, bz_ne, nn_toNat, cn_of, cn_0, cn_1, i10, Int.reduceLE, Int.reduceLT, Int.reduceEq, bz_T, bz_F, ite_self, mulc, st_bud]
          exact h
        · rw [if_neg (by rintro ⟨_, w | ⟨_, w⟩ | ⟨w, _⟩⟩; omega; exact t w; omega)] at h
          rw [if_neg t] at bv
          have kb : ∀ (μ : q_M) (K : Int32 → q_M → Prop), opK (q_giand (q_gishr (zI (S : Int)) (zI (k : Int))) (zI 1)) μ K = K (zI 0) μ := fun μ K => by
            rw [bv]
            rfl
          simp (disch := omega) only [↓wcX12_keepsPins_0.eq_1, ↓wsX12_keepsPins_0.eq_1, ↓k_mk, ↓k_sq, ↓k_sk, ↓k_bk, ↓k_if, ↓k_te, ↓k_cm, ↓k_cz, ↓k_an2, ↓k_or2, ↓k_no, ↓k_ci, ↓k_l0, ↓k_r0, ↓k_se0, ↓k_ic0, ↓k_l1, ↓k_r1, ↓k_se1, ↓k_ic1, ↓k_de1, ↓k_tk1, ↓k_l2, ↓k_r2, ↓k_se2, ↓k_ic2, ↓k_de2, ↓k_tk2, ↓k_l3, ↓k_r3, ↓k_se3, ↓k_ic3, ↓k_de3, ↓k_tk3, ↓k_l4, ↓k_r4, ↓k_se4, ↓k_ic4, ↓k_de4, ↓k_tk4, ↓k_l5, ↓k_r5, ↓k_se5, ↓k_ic5, ↓k_de5, ↓k_tk5, ↓k_l6, ↓k_r6, ↓k_se6, ↓k_ic6, ↓k_de6, ↓k_tk6, ↓k_l7, ↓k_r7, ↓k_se7, ↓k_ic7, ↓k_de7, ↓k_tk7, ↓k_l8, ↓k_r8, ↓k_se8, ↓k_ic8, ↓k_de8, ↓k_tk8, ↓k_l9, ↓k_r9, ↓k_se9, ↓k_ic9, ↓k_de9, ↓k_tk9, ↓k_l10, ↓k_r10, ↓k_se10, ↓k_ic10, ↓k_de10, ↓k_tk10, ↓k_l11, ↓k_r11, ↓k_se11, ↓k_ic11, ↓k_de11, ↓k_tk11, ↓k_l12, ↓k_r12, ↓k_se12, ↓k_ic12, ↓k_de12, ↓k_tk12, ↓k_l13, ↓k_r13, ↓k_se13, ↓k_ic13, ↓k_de13, ↓k_tk13, ↓k_l14, ↓k_r14, ↓k_se14, ↓k_ic14, ↓k_de14, ↓k_tk14, ↓k_l15, ↓k_r15, ↓k_se15, ↓k_ic15, ↓k_de15, ↓k_tk15, ↓k_l16, ↓k_r16, ↓k_se16, ↓k_ic16, ↓k_de16, ↓k_tk16, ↓k_l17, ↓k_r17, ↓k_se17, ↓k_ic17, ↓k_de17, ↓k_tk17, ↓k_l18, ↓k_r18, ↓k_se18, ↓k_ic18, ↓k_de18, ↓k_tk18, ↓k_l19, ↓k_r19, ↓k_se19, ↓k_ic19, ↓k_de19, ↓k_tk19, ↓k_l20, ↓k_r20, ↓k_se20, ↓k_ic20, ↓k_de20, ↓k_tk20, ↓k_l21, ↓k_r21, ↓k_se21, ↓k_ic21, ↓k_de21, ↓k_tk21, ↓k_l22, ↓k_r22, ↓k_se22, ↓k_ic22, ↓k_de22, ↓k_tk22, ↓k_l23, ↓k_r23, ↓k_se23, ↓k_ic23, ↓k_de23, ↓k_tk23, ↓k_l24, ↓k_r24, ↓k_se24, ↓k_ic24, ↓k_de24, ↓k_tk24, ↓k_l25, ↓k_r25, ↓k_se25, ↓k_ic25, ↓k_de25, ↓k_tk25, ↓k_k, ↓k_kn, ↓k_kl, ↓k_kln, ↓k_il, ↓k_2, ↓k_1, ↓k_2c, ↓k_2l, ↓k_ac, ↓k_an, ↓k_cs, ↓k_cv, ↓k_fi, ↓k_fr, ↓k_ai, ↓k_az, ↓k_ar, ↓k_sai, ↓k_saz, ↓k_soa, ↓k_sof, ↓k_spf, ↓k_sx, ↓k_blk, ↓k_sset, ↓k_sdec, ↓k_sri, ↓k_srv, ↓k_srr, ↓k_nop, ↓k_add, ↓k_sub, ↓k_mul, ↓k_min, ↓k_max, ↓k_shr, ↓k_shl, ↓k_or, ↓k_ilz, ↓k_addl, ↓k_rt, ↓k_rb, ↓k_rbz, ↓k_rsi, ↓k_rsr, ↓k_rsv, ↓reduceIte, h69, hz, m3, p1, one, zo, ↓kb1, ↓kb, eq_self, ↓xr12_21 hM, ↓xa12_21 hM, ↓xs12_21 hM, ↓xo12_21 hM, ↓xc12_21 hM, ↓xd12_21 hM, ↓xi12_69 hM, ↓xp12_69 hM, ↓xb12_69 hM, ↓xf12_69 hM, ↓xg12_69 hM, ↓xh12_69 hM, ↓xr12_70 hM, ↓xa12_70 hM, ↓xs12_70 hM, ↓xo12_70 hM, ↓xc12_70 hM, ↓xd12_70 hM, List.length_cons, List.length_nil, List.forall_mem_cons, List.not_mem_nil, Value.category, true_and, and_true, false_and, and_false, or_true, true_or, or_false, false_or, Nat.zero_le, forall_const, implies_true, false_implies, Nat.zero_add, Nat.reduceAdd, Nat.reduceLT, Nat.reduceLeDiff, Nat.le_refl, not_true_eq_false, not_false_eq_true, r_eq, r_ne, r_lt, r_ge, r_gt, r_le, bz_ne, nn_toNat, cn_of, cn_0, cn_1, i10, Int.reduceLE, Int.reduceLT, Int.reduceEq, bz_T, bz_F, ite_self, mulc, st_bud]
          exact h
      · rw [c] at p1
        by_cases t : S.testBit k = true
        · rw [if_neg (by rintro ⟨_, w | ⟨w, _⟩ | ⟨_, w⟩⟩; omega; omega; rw [t] at w; exact absurd w (by decide))] at h
          rw [if_pos t] at bv
          have kb : ∀ (μ : q_M) (K : Int32 → q_M → Prop), opK (q_giand (q_gishr (zI (S : Int)) (zI (k : Int))) (zI 1)) μ K = K (zI 1) μ := fun μ K => by
            rw [bv]
            rfl
          simp (disch := omega) only [↓wcX12_keepsPins_0.eq_1, ↓wsX12_keepsPins_0.eq_1, ↓k_mk, ↓k_sq, ↓k_sk, ↓k_bk, ↓k_if, ↓k_te, ↓k_cm, ↓k_cz, ↓k_an2, ↓k_or2, ↓k_no, ↓k_ci, ↓k_l0, ↓k_r0, ↓k_se0, ↓k_ic0, ↓k_l1, ↓k_r1, ↓k_se1, ↓k_ic1, ↓k_de1, ↓k_tk1, ↓k_l2, ↓k_r2, ↓k_se2, ↓k_ic2, ↓k_de2, ↓k_tk2, ↓k_l3, ↓k_r3, ↓k_se3, ↓k_ic3, ↓k_de3, ↓k_tk3, ↓k_l4, ↓k_r4, ↓k_se4, ↓k_ic4, ↓k_de4, ↓k_tk4, ↓k_l5, ↓k_r5, ↓k_se5, ↓k_ic5, ↓k_de5, ↓k_tk5, ↓k_l6, ↓k_r6, ↓k_se6, ↓k_ic6, ↓k_de6, ↓k_tk6, ↓k_l7, ↓k_r7, ↓k_se7, ↓k_ic7, ↓k_de7, ↓k_tk7, ↓k_l8, ↓k_r8, ↓k_se8, ↓k_ic8, ↓k_de8, ↓k_tk8, ↓k_l9, ↓k_r9, ↓k_se9, ↓k_ic9, ↓k_de9, ↓k_tk9, ↓k_l10, ↓k_r10, ↓k_se10, ↓k_ic10, ↓k_de10, ↓k_tk10, ↓k_l11, ↓k_r11, ↓k_se11, ↓k_ic11, ↓k_de11, ↓k_tk11, ↓k_l12, ↓k_r12, ↓k_se12, ↓k_ic12, ↓k_de12, ↓k_tk12, ↓k_l13, ↓k_r13, ↓k_se13, ↓k_ic13, ↓k_de13, ↓k_tk13, ↓k_l14, ↓k_r14, ↓k_se14, ↓k_ic14, ↓k_de14, ↓k_tk14, ↓k_l15, ↓k_r15, ↓k_se15, ↓k_ic15, ↓k_de15, ↓k_tk15, ↓k_l16, ↓k_r16, ↓k_se16, ↓k_ic16, ↓k_de16, ↓k_tk16, ↓k_l17, ↓k_r17, ↓k_se17, ↓k_ic17, ↓k_de17, ↓k_tk17, ↓k_l18, ↓k_r18, ↓k_se18, ↓k_ic18, ↓k_de18, ↓k_tk18, ↓k_l19, ↓k_r19, ↓k_se19, ↓k_ic19, ↓k_de19, ↓k_tk19, ↓k_l20, ↓k_r20, ↓k_se20, ↓k_ic20, ↓k_de20, ↓k_tk20, ↓k_l21, ↓k_r21, ↓k_se21, ↓k_ic21, ↓k_de21, ↓k_tk21, ↓k_l22, ↓k_r22, ↓k_se22, ↓k_ic22, ↓k_de22, ↓k_tk22, ↓k_l23, ↓k_r23, ↓k_se23, ↓k_ic23, ↓k_de23, ↓k_tk23, ↓k_l24, ↓k_r24, ↓k_se24, ↓k_ic24, ↓k_de24, ↓k_tk24, ↓k_l25, ↓k_r25, ↓k_se25, ↓k_ic25, ↓k_de25, ↓k_tk25, ↓k_k, ↓k_kn, ↓k_kl, ↓k_kln, ↓k_il, ↓k_2, ↓k_1, ↓k_2c, ↓k_2l, ↓k_ac, ↓k_an, ↓k_cs, ↓k_cv, ↓k_fi, ↓k_fr, ↓k_ai, ↓k_az, ↓k_ar, ↓k_sai, ↓k_saz, ↓k_soa, ↓k_sof, ↓k_spf, ↓k_sx, ↓k_blk, ↓k_sset, ↓k_sdec, ↓k_sri, ↓k_srv, ↓k_srr, ↓k_nop, ↓k_add, ↓k_sub, ↓k_mul, ↓k_min, ↓k_max, ↓k_shr, ↓k_shl, ↓k_or, ↓k_ilz, ↓k_addl, ↓k_rt, ↓k_rb, ↓k_rbz, ↓k_rsi, ↓k_rsr, ↓k_rsv, ↓reduceIte, h69, hz, m3, p1, one, two1, two0, zo, ↓kb1, ↓kb, eq_self, ↓xr12_21 hM, ↓xa12_21 hM, ↓xs12_21 hM, ↓xo12_21 hM, ↓xc12_21 hM, ↓xd12_21 hM, ↓xi12_69 hM, ↓xp12_69 hM, ↓xb12_69 hM, ↓xf12_69 hM, ↓xg12_69 hM, ↓xh12_69 hM, ↓xr12_70 hM, ↓xa12_70 hM, ↓xs12_70 hM, ↓xo12_70 hM, ↓xc12_70 hM, ↓xd12_70 hM, List.length_cons, List.length_nil, List.forall_mem_cons, List.not_mem_nil, Value.category, true_and, and_true, false_and, and_false, or_true, true_or, or_false, false_or, Nat.zero_le, forall_const, implies_true, false_implies, Nat.zero_add, Nat.reduceAdd, Nat.reduceLT, Nat.reduceLeDiff, Nat.le_refl, not_true_eq_false, not_false_eq_true, r_eq, r_ne, r_lt, r_ge, r_gt, r_le, bz_ne, nn_toNat, cn_of, cn_0, cn_1, i10, Int.reduceLE, Int.reduceLT, Int.reduceEq, bz_T, bz_F, ite_self, mulc, st_bud]
          exact h
        · rw [if_pos ⟨rfl, Or.inr (Or.inr ⟨c, Bool.eq_false_iff.mpr t⟩)⟩] at h
          rw [if_neg t] at bv
          have kb : ∀ (μ : q_M) (K : Int32 → q_M → Prop), opK (q_giand (q_gishr (zI (S : Int)) (zI (k : Int))) (zI 1)) μ K = K (zI 0) μ := fun μ K => by
            rw [bv]
            rfl
          simp (disch := omega) only [↓wcX12_keepsPins_0.eq_1, ↓wsX12_keepsPins_0.eq_1, ↓k_mk, ↓k_sq, ↓k_sk, ↓k_bk, ↓k_if, ↓k_te, ↓k_cm, ↓k_cz, ↓k_an2, ↓k_or2, ↓k_no, ↓k_ci, ↓k_l0, ↓k_r0, ↓k_se0, ↓k_ic0, ↓k_l1, ↓k_r1, ↓k_se1, ↓k_ic1, ↓k_de1, ↓k_tk1, ↓k_l2, ↓k_r2, ↓k_se2, ↓k_ic2, ↓k_de2, ↓k_tk2, ↓k_l3, ↓k_r3, ↓k_se3, ↓k_ic3, ↓k_de3, ↓k_tk3, ↓k_l4, ↓k_r4, ↓k_se4, ↓k_ic4, ↓k_de4, ↓k_tk4, ↓k_l5, ↓k_r5, ↓k_se5, ↓k_ic5, ↓k_de5, ↓k_tk5, ↓k_l6, ↓k_r6, ↓k_se6, ↓k_ic6, ↓k_de6, ↓k_tk6, ↓k_l7, ↓k_r7, ↓k_se7, ↓k_ic7, ↓k_de7, ↓k_tk7, ↓k_l8, ↓k_r8, ↓k_se8, ↓k_ic8, ↓k_de8, ↓k_tk8, ↓k_l9, ↓k_r9, ↓k_se9, ↓k_ic9, ↓k_de9, ↓k_tk9, ↓k_l10, ↓k_r10, ↓k_se10, ↓k_ic10, ↓k_de10, ↓k_tk10, ↓k_l11, ↓k_r11, ↓k_se11, ↓k_ic11, ↓k_de11, ↓k_tk11, ↓k_l12, ↓k_r12, ↓k_se12, ↓k_ic12, ↓k_de12, ↓k_tk12, ↓k_l13, ↓k_r13, ↓k_se13, ↓k_ic13, ↓k_de13, ↓k_tk13, ↓k_l14, ↓k_r14, ↓k_se14, ↓k_ic14, ↓k_de14, ↓k_tk14, ↓k_l15, ↓k_r15, ↓k_se15, ↓k_ic15, ↓k_de15, ↓k_tk15, ↓k_l16, ↓k_r16, ↓k_se16, ↓k_ic16, ↓k_de16, ↓k_tk16, ↓k_l17, ↓k_r17, ↓k_se17, ↓k_ic17, ↓k_de17, ↓k_tk17, ↓k_l18, ↓k_r18, ↓k_se18, ↓k_ic18, ↓k_de18, ↓k_tk18, ↓k_l19, ↓k_r19, ↓k_se19, ↓k_ic19, ↓k_de19, ↓k_tk19, ↓k_l20, ↓k_r20, ↓k_se20, ↓k_ic20, ↓k_de20, ↓k_tk20, ↓k_l21, ↓k_r21, ↓k_se21, ↓k_ic21, ↓k_de21, ↓k_tk21, ↓k_l22, ↓k_r22, ↓k_se22, ↓k_ic22, ↓k_de22, ↓k_tk22, ↓k_l23, ↓k_r23, ↓k_se23, ↓k_ic23, ↓k_de23, ↓k_tk23, ↓k_l24, ↓k_r24, ↓k_se24, ↓k_ic24, ↓k_de24, ↓k_tk24, ↓k_l25, ↓k_r25, ↓k_se25, ↓k_ic25, ↓k_de25, ↓k_tk25, ↓k_k, ↓k_kn, ↓k_kl, ↓k_kln, ↓k_il, ↓k_2, ↓k_1, ↓k_2c, ↓k_2l, ↓k_ac, ↓k_an, ↓k_cs, ↓k_cv, ↓k_fi, ↓k_fr, ↓k_ai, ↓k_az, ↓k_ar, ↓k_sai, ↓k_saz, ↓k_soa, ↓k_sof, ↓k_spf, ↓k_sx, ↓k_blk, ↓k_sset, ↓k_sdec, ↓k_sri, ↓k_srv, ↓k_srr, ↓k_nop, ↓k_add, ↓k_sub, ↓k_mul, ↓k_min, ↓k_max, ↓k_shr, ↓k_shl, ↓k_or, ↓k_ilz, ↓k_addl, ↓k_rt, ↓k_rb, ↓k_rbz, ↓k_rsi, ↓k_rsr, ↓k_rsv, ↓reduceIte, h69, hz, m3, p1, one, two1, two0, zo, ↓kb1, ↓kb, eq_self, ↓xr12_21 hM, ↓xa12_21 hM, ↓xs12_21 hM, ↓xo12_21 hM, ↓xc12_21 hM, ↓xd12_21 hM, ↓xi12_69 hM, ↓xp12_69 hM, ↓xb12_69 hM, ↓xf12_69 hM, ↓xg12_69 hM, ↓xh12_69 hM, ↓xr12_70 hM, ↓xa12_70 hM, ↓xs12_70 hM, ↓xo12_70 hM, ↓xc12_70 hM, ↓xd12_70 hM, List.length_cons, List.length_nil, List.forall_mem_cons, List.not_mem_nil, Value.category, true_and, and_true, false_and, and_false, or_true, true_or, or_false, false_or, Nat.zero_le, forall_const, implies_true, false_implies, Nat.zero_add, Nat.reduceAdd, Nat.reduceLT, Nat.reduceLeDiff, Nat.le_refl, not_true_eq_false, not_false_eq_true, r_eq, r_ne, r_lt, r_ge, r_gt, r_le, bz_ne, nn_toNat, cn_of, cn_0, cn_1, i10, Int.reduceLE, Int.reduceLT, Int.reduceEq, bz_T, bz_F, ite_self, mulc, st_bud]
          exact h) (fun Kt Kf h => by
    have hz : ¬ (s : Int) < (s : Int) := by omega
    have s8 : (s : Int) ≤ 8 := by omega
    clear hp hsn ex
    simp (disch := omega) only [↓wcX12_keepsPins_0.eq_1, ↓k_mk, ↓k_sq, ↓k_sk, ↓k_bk, ↓k_if, ↓k_te, ↓k_cm, ↓k_cz, ↓k_an2, ↓k_or2, ↓k_no, ↓k_ci, ↓k_l0, ↓k_r0, ↓k_se0, ↓k_ic0, ↓k_l1, ↓k_r1, ↓k_se1, ↓k_ic1, ↓k_de1, ↓k_tk1, ↓k_l2, ↓k_r2, ↓k_se2, ↓k_ic2, ↓k_de2, ↓k_tk2, ↓k_l3, ↓k_r3, ↓k_se3, ↓k_ic3, ↓k_de3, ↓k_tk3, ↓k_l4, ↓k_r4, ↓k_se4, ↓k_ic4, ↓k_de4, ↓k_tk4, ↓k_l5, ↓k_r5, ↓k_se5, ↓k_ic5, ↓k_de5, ↓k_tk5, ↓k_l6, ↓k_r6, ↓k_se6, ↓k_ic6, ↓k_de6, ↓k_tk6, ↓k_l7, ↓k_r7, ↓k_se7, ↓k_ic7, ↓k_de7, ↓k_tk7, ↓k_l8, ↓k_r8, ↓k_se8, ↓k_ic8, ↓k_de8, ↓k_tk8, ↓k_l9, ↓k_r9, ↓k_se9, ↓k_ic9, ↓k_de9, ↓k_tk9, ↓k_l10, ↓k_r10, ↓k_se10, ↓k_ic10, ↓k_de10, ↓k_tk10, ↓k_l11, ↓k_r11, ↓k_se11, ↓k_ic11, ↓k_de11, ↓k_tk11, ↓k_l12, ↓k_r12, ↓k_se12, ↓k_ic12, ↓k_de12, ↓k_tk12, ↓k_l13, ↓k_r13, ↓k_se13, ↓k_ic13, ↓k_de13, ↓k_tk13, ↓k_l14, ↓k_r14, ↓k_se14, ↓k_ic14, ↓k_de14, ↓k_tk14, ↓k_l15, ↓k_r15, ↓k_se15, ↓k_ic15, ↓k_de15, ↓k_tk15, ↓k_l16, ↓k_r16, ↓k_se16, ↓k_ic16, ↓k_de16, ↓k_tk16, ↓k_l17, ↓k_r17, ↓k_se17, ↓k_ic17, ↓k_de17, ↓k_tk17, ↓k_l18, ↓k_r18, ↓k_se18, ↓k_ic18, ↓k_de18, ↓k_tk18, ↓k_l19, ↓k_r19, ↓k_se19, ↓k_ic19, ↓k_de19, ↓k_tk19, ↓k_l20, ↓k_r20, ↓k_se20, ↓k_ic20, ↓k_de20, ↓k_tk20, ↓k_l21, ↓k_r21, ↓k_se21, ↓k_ic21, ↓k_de21, ↓k_tk21, ↓k_l22, ↓k_r22, ↓k_se22, ↓k_ic22, ↓k_de22, ↓k_tk22, ↓k_l23, ↓k_r23, ↓k_se23, ↓k_ic23, ↓k_de23, ↓k_tk23, ↓k_l24, ↓k_r24, ↓k_se24, ↓k_ic24, ↓k_de24, ↓k_tk24, ↓k_l25, ↓k_r25, ↓k_se25, ↓k_ic25, ↓k_de25, ↓k_tk25, ↓k_k, ↓k_kn, ↓k_kl, ↓k_kln, ↓k_il, ↓k_2, ↓k_1, ↓k_2c, ↓k_2l, ↓k_ac, ↓k_an, ↓k_cs, ↓k_cv, ↓k_fi, ↓k_fr, ↓k_ai, ↓k_az, ↓k_ar, ↓k_sai, ↓k_saz, ↓k_soa, ↓k_sof, ↓k_spf, ↓k_sx, ↓k_blk, ↓k_sset, ↓k_sdec, ↓k_sri, ↓k_srv, ↓k_srr, ↓k_nop, ↓k_add, ↓k_sub, ↓k_mul, ↓k_min, ↓k_max, ↓k_shr, ↓k_shl, ↓k_or, ↓k_ilz, ↓k_addl, ↓k_rt, ↓k_rb, ↓k_rbz, ↓k_rsi, ↓k_rsr, ↓k_rsv, ↓reduceIte, h69, hz, ↓xi12_69 hM, ↓xp12_69 hM, ↓xb12_69 hM, ↓xf12_69 hM, ↓xg12_69 hM, ↓xh12_69 hM, List.length_cons, List.length_nil, List.forall_mem_cons, List.not_mem_nil, Value.category, true_and, and_true, false_and, and_false, or_true, true_or, or_false, false_or, Nat.zero_le, forall_const, implies_true, false_implies, Nat.zero_add, Nat.reduceAdd, Nat.reduceLT, Nat.reduceLeDiff, Nat.le_refl, not_true_eq_false, not_false_eq_true, r_eq, r_ne, r_lt, r_ge, r_gt, r_le, bz_ne, nn_toNat, cn_of, cn_0, cn_1, i10, Int.reduceLE, Int.reduceLT, Int.reduceEq, bz_T, bz_F, ite_self, mulc, st_bud]
    exact h)
  refine ⟨kpN S pk s, kpN_b S pk s, ?_, fun K => ?_⟩
  · rw [kpN_iff, ok_pins fun m hm => (hp m hm).2]
    refine ⟨fun h m j hm hj => ?_, fun h j hj => ?_⟩
    · obtain ⟨o1, o2, o3⟩ := own_in (sb := sb) (m := m) (by omega)
      have e : scN sb (m + 1) = scN sb m + if sb m = 1 then 1 else 0 := rfl
      rw [if_pos o2] at e
      have mm := scN_mono sb (show m + 1 ≤ N by omega)
      have hjs : j < s := by omega
      obtain ⟨m', m1, m2, m3⟩ := ex j hjs
      have em := own_inj (sb := sb) (m := m) (n := m') (by omega) (by rw [hj, m2])
      have := h j hjs
      rw [hpk] at this
      have this : pinK S (pn (G (B + 544 + 56) j)) j := this
      rw [m3, ← em] at this
      exact this
    · obtain ⟨m, m1, m2, m3⟩ := ex j hj
      rw [hpk]
      show pinK S (pn (G (B + 544 + 56) j)) j
      rw [m3]
      exact h m j m1 m2
  · have kb := kpN_b S pk s
    obtain ⟨y, hy⟩ : ∃ y, y = kpN S pk s := ⟨_, rfl⟩
    rw [← hy] at kb w ⊢
    clear hp hsn ex hy hpk
    rcases kb with e | e
    · rw [e] at w ⊢
      simp (disch := omega) only [↓fX12_keepsPins.eq_1, ↓uX12_keepsPins, ↓k_mk, ↓k_sq, ↓k_sk, ↓k_bk, ↓k_if, ↓k_te, ↓k_cm, ↓k_cz, ↓k_an2, ↓k_or2, ↓k_no, ↓k_ci, ↓k_l0, ↓k_r0, ↓k_se0, ↓k_ic0, ↓k_l1, ↓k_r1, ↓k_se1, ↓k_ic1, ↓k_de1, ↓k_tk1, ↓k_l2, ↓k_r2, ↓k_se2, ↓k_ic2, ↓k_de2, ↓k_tk2, ↓k_l3, ↓k_r3, ↓k_se3, ↓k_ic3, ↓k_de3, ↓k_tk3, ↓k_l4, ↓k_r4, ↓k_se4, ↓k_ic4, ↓k_de4, ↓k_tk4, ↓k_l5, ↓k_r5, ↓k_se5, ↓k_ic5, ↓k_de5, ↓k_tk5, ↓k_l6, ↓k_r6, ↓k_se6, ↓k_ic6, ↓k_de6, ↓k_tk6, ↓k_l7, ↓k_r7, ↓k_se7, ↓k_ic7, ↓k_de7, ↓k_tk7, ↓k_l8, ↓k_r8, ↓k_se8, ↓k_ic8, ↓k_de8, ↓k_tk8, ↓k_l9, ↓k_r9, ↓k_se9, ↓k_ic9, ↓k_de9, ↓k_tk9, ↓k_l10, ↓k_r10, ↓k_se10, ↓k_ic10, ↓k_de10, ↓k_tk10, ↓k_l11, ↓k_r11, ↓k_se11, ↓k_ic11, ↓k_de11, ↓k_tk11, ↓k_l12, ↓k_r12, ↓k_se12, ↓k_ic12, ↓k_de12, ↓k_tk12, ↓k_l13, ↓k_r13, ↓k_se13, ↓k_ic13, ↓k_de13, ↓k_tk13, ↓k_l14, ↓k_r14, ↓k_se14, ↓k_ic14, ↓k_de14, ↓k_tk14, ↓k_l15, ↓k_r15, ↓k_se15, ↓k_ic15, ↓k_de15, ↓k_tk15, ↓k_l16, ↓k_r16, ↓k_se16, ↓k_ic16, ↓k_de16, ↓k_tk16, ↓k_l17, ↓k_r17, ↓k_se17, ↓k_ic17, ↓k_de17, ↓k_tk17, ↓k_l18, ↓k_r18, ↓k_se18, ↓k_ic18, ↓k_de18, ↓k_tk18, ↓k_l19, ↓k_r19, ↓k_se19, ↓k_ic19, ↓k_de19, ↓k_tk19, ↓k_l20, ↓k_r20, ↓k_se20, ↓k_ic20, ↓k_de20, ↓k_tk20, ↓k_l21, ↓k_r21, ↓k_se21, ↓k_ic21, ↓k_de21, ↓k_tk21, ↓k_l22, ↓k_r22, ↓k_se22, ↓k_ic22, ↓k_de22, ↓k_tk22, ↓k_l23, ↓k_r23, ↓k_se23, ↓k_ic23, ↓k_de23, ↓k_tk23, ↓k_l24, ↓k_r24, ↓k_se24, ↓k_ic24, ↓k_de24, ↓k_tk24, ↓k_l25, ↓k_r25, ↓k_se25, ↓k_ic25, ↓k_de25, ↓k_tk25, ↓k_k, ↓k_kn, ↓k_kl, ↓k_kln, ↓k_il, ↓k_2, ↓k_1, ↓k_2c, ↓k_2l, ↓k_ac, ↓k_an, ↓k_cs, ↓k_cv, ↓k_fi, ↓k_fr, ↓k_ai, ↓k_az, ↓k_ar, ↓k_sai, ↓k_saz, ↓k_soa, ↓k_sof, ↓k_spf, ↓k_sx, ↓k_blk, ↓k_sset, ↓k_sdec, ↓k_sri, ↓k_srv, ↓k_srr, ↓k_nop, ↓k_add, ↓k_sub, ↓k_mul, ↓k_min, ↓k_max, ↓k_shr, ↓k_shl, ↓k_or, ↓k_ilz, ↓k_addl, ↓k_rt, ↓k_rb, ↓k_rbz, ↓k_rsi, ↓k_rsr, ↓k_rsv, ↓reduceIte, ↓w, eq_self, List.length_cons, List.length_nil, List.forall_mem_cons, List.not_mem_nil, Value.category, true_and, and_true, false_and, and_false, or_true, true_or, or_false, false_or, Nat.zero_le, forall_const, implies_true, false_implies, Nat.zero_add, Nat.reduceAdd, Nat.reduceLT, Nat.reduceLeDiff, Nat.le_refl, not_true_eq_false, not_false_eq_true, r_eq, r_ne, r_lt, r_ge, r_gt, r_le, bz_ne, nn_toNat, cn_of, cn_0, cn_1, i10, Int.reduceLE, Int.reduceLT, Int.reduceEq, bz_T, bz_F, ite_self, mulc, st_bud]
    · rw [e] at w ⊢
      simp (disch := omega) only [↓fX12_keepsPins.eq_1, ↓uX12_keepsPins, ↓k_mk, ↓k_sq, ↓k_sk, ↓k_bk, ↓k_if, ↓k_te, ↓k_cm, ↓k_cz, ↓k_an2, ↓k_or2, ↓k_no, ↓k_ci, ↓k_l0, ↓k_r0, ↓k_se0, ↓k_ic0, ↓k_l1, ↓k_r1, ↓k_se1, ↓k_ic1, ↓k_de1, ↓k_tk1, ↓k_l2, ↓k_r2, ↓k_se2, ↓k_ic2, ↓k_de2, ↓k_tk2, ↓k_l3, ↓k_r3, ↓k_se3, ↓k_ic3, ↓k_de3, ↓k_tk3, ↓k_l4, ↓k_r4, ↓k_se4, ↓k_ic4, ↓k_de4, ↓k_tk4, ↓k_l5, ↓k_r5, ↓k_se5, ↓k_ic5, ↓k_de5, ↓k_tk5, ↓k_l6, ↓k_r6, ↓k_se6, ↓k_ic6, ↓k_de6, ↓k_tk6, ↓k_l7, ↓k_r7, ↓k_se7, ↓k_ic7, ↓k_de7, ↓k_tk7, ↓k_l8, ↓k_r8, ↓k_se8, ↓k_ic8, ↓k_de8, ↓k_tk8, ↓k_l9, ↓k_r9, ↓k_se9, ↓k_ic9, ↓k_de9, ↓k_tk9, ↓k_l10, ↓k_r10, ↓k_se10, ↓k_ic10, ↓k_de10, ↓k_tk10, ↓k_l11, ↓k_r11, ↓k_se11, ↓k_ic11, ↓k_de11, ↓k_tk11, ↓k_l12, ↓k_r12, ↓k_se12, ↓k_ic12, ↓k_de12, ↓k_tk12, ↓k_l13, ↓k_r13, ↓k_se13, ↓k_ic13, ↓k_de13, ↓k_tk13, ↓k_l14, ↓k_r14, ↓k_se14, ↓k_ic14, ↓k_de14, ↓k_tk14, ↓k_l15, ↓k_r15, ↓k_se15, ↓k_ic15, ↓k_de15, ↓k_tk15, ↓k_l16, ↓k_r16, ↓k_se16, ↓k_ic16, ↓k_de16, ↓k_tk16, ↓k_l17, ↓k_r17, ↓k_se17, ↓k_ic17, ↓k_de17, ↓k_tk17, ↓k_l18, ↓k_r18, ↓k_se18, ↓k_ic18, ↓k_de18, ↓k_tk18, ↓k_l19, ↓k_r19, ↓k_se19, ↓k_ic19, ↓k_de19, ↓k_tk19, ↓k_l20, ↓k_r20, ↓k_se20, ↓k_ic20, ↓k_de20, ↓k_tk20, ↓k_l21, ↓k_r21, ↓k_se21, ↓k_ic21, ↓k_de21, ↓k_tk21, ↓k_l22, ↓k_r22, ↓k_se22, ↓k_ic22, ↓k_de22, ↓k_tk22, ↓k_l23, ↓k_r23, ↓k_se23, ↓k_ic23, ↓k_de23, ↓k_tk23, ↓k_l24, ↓k_r24, ↓k_se24, ↓k_ic24, ↓k_de24, ↓k_tk24, ↓k_l25, ↓k_r25, ↓k_se25, ↓k_ic25, ↓k_de25, ↓k_tk25, ↓k_k, ↓k_kn, ↓k_kl, ↓k_kln, ↓k_il, ↓k_2, ↓k_1, ↓k_2c, ↓k_2l, ↓k_ac, ↓k_an, ↓k_cs, ↓k_cv, ↓k_fi, ↓k_fr, ↓k_ai, ↓k_az, ↓k_ar, ↓k_sai, ↓k_saz, ↓k_soa, ↓k_sof, ↓k_spf, ↓k_sx, ↓k_blk, ↓k_sset, ↓k_sdec, ↓k_sri, ↓k_srv, ↓k_srr, ↓k_nop, ↓k_add, ↓k_sub, ↓k_mul, ↓k_min, ↓k_max, ↓k_shr, ↓k_shl, ↓k_or, ↓k_ilz, ↓k_addl, ↓k_rt, ↓k_rb, ↓k_rbz, ↓k_rsi, ↓k_rsr, ↓k_rsv, ↓reduceIte, ↓w, eq_self, List.length_cons, List.length_nil, List.forall_mem_cons, List.not_mem_nil, Value.category, true_and, and_true, false_and, and_false, or_true, true_or, or_false, false_or, Nat.zero_le, forall_const, implies_true, false_implies, Nat.zero_add, Nat.reduceAdd, Nat.reduceLT, Nat.reduceLeDiff, Nat.le_refl, not_true_eq_false, not_false_eq_true, r_eq, r_ne, r_lt, r_ge, r_gt, r_le, bz_ne, nn_toNat, cn_of, cn_0, cn_1, i10, Int.reduceLE, Int.reduceLT, Int.reduceEq, bz_T, bz_F, ite_self, mulc, st_bud]
end
