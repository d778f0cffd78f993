section
/-! the reference counts: the table -/
theorem rW_long {wy : Int → Int → Int → Int} {ft : Int → Int → Bool} {to : Int} : ∀ (l : List Int) (p : Int), p ≤ to → to - p < l.length → rW wy ft to l p = 0 := by
  intro l
  induction l with
  | nil => intro p h1 h2; exact absurd h2 (by show ¬ to - p < ((0 : Nat) : Int); omega)
  | cons it r ih =>
    intro p h1 h2
    rw [List.length_cons] at h2
    rw [rW]
    by_cases c : 60 ≤ it
    · rw [if_pos c, sumN_zero (fun k hk => by rw [ih (p + 1 + k) (by omega) (by omega), Int.mul_zero])]
      rfl
    · rw [if_neg c]
      by_cases d : p < to ∧ ft it p = true
      · rw [if_pos d]
        exact ih (p + 1) (by omega) (by omega)
      · rw [if_neg d]
theorem rV_long {W X C n : Int → Int} {j f i : Int} (h : i ≤ j) (h2 : j - i < n f) : rV W X C n j f 0 i = 0 := rW_long _ _ h (by rw [il_len]; omega)
def FTr (G : Nat → Int → Int) (B : Nat) (v : Int) : Prop := (0 ≤ G (B + 544 + 2) v ∧ G (B + 544 + 2) v ≤ 14) ∧ ∀ f, 14 * v ≤ f → f < 14 * v + G (B + 544 + 2) v → (0 ≤ G (B + 544 + 3) f ∧ G (B + 544 + 3) f ≤ 5) ∧ (1 ≤ G (B + 544 + 4) f ∧ G (B + 544 + 4) f ≤ 5) ∧ (∀ k, 0 ≤ k → k < G (B + 544 + 4) f → 0 ≤ G (B + 544 + 5) (5 * f + k) ∧ G (B + 544 + 5) (5 * f + k) ≤ 65) ∧ (G (B + 544 + 4) f = 1 → 60 ≤ G (B + 544 + 5) (5 * f + 0) → G (B + 544 + 3) f < G (B + 544 + 5) (5 * f + 0) - 60)
def sVr (G : Nat → Int → Int) (B : Nat) (v s i j : Int) : Int := sumN (fun f => if G (B + 544 + 3) f = s then rV (G (B + 544 + 40)) (G (B + 544 + 39)) (G (B + 544 + 5)) (G (B + 544 + 4)) j f 0 i else 0) (14 * v) (G (B + 544 + 2) v).toNat
def PSr (G : Nat → Int → Int) (B : Nat) (v s i j : Int) : Prop := G (B + 544 + 40) (289 * s + 17 * i + j) = min 1000 (sVr G B v s i j)
def PDr (G : Nat → Int → Int) (B : Nat) (v : Int) (D : Int → Int → Prop) : Prop := ∀ i j, 0 ≤ i → i < j → j ≤ 16 → D i j → ∀ s, 0 ≤ s → s ≤ 5 → PSr G B v s i j
def WBr (G : Nat → Int → Int) (B : Nat) : Prop := ∀ s x y, 0 ≤ s → s ≤ 5 → 0 ≤ x → x < y → y ≤ 16 → 0 ≤ G (B + 544 + 40) (289 * s + 17 * x + y) ∧ G (B + 544 + 40) (289 * s + 17 * x + y) ≤ 1000
def FrW (G G' : Nat → Int → Int) (B : Nat) : Prop := ∀ x, ¬ x = (B + 544 + 40) → ¬ x = (B + 544 + 41) → G' x = G x
theorem FrW_t {G G' : Nat → Int → Int} {B : Nat} (h : FrW G G' B) : G' (B + 544 + 2) = G (B + 544 + 2) ∧ G' (B + 544 + 3) = G (B + 544 + 3) ∧ G' (B + 544 + 4) = G (B + 544 + 4) ∧ G' (B + 544 + 5) = G (B + 544 + 5) ∧ G' (B + 544 + 39) = G (B + 544 + 39) ∧ G' (B + 544) = G (B + 544) := ⟨h _ (by omega) (by omega), h _ (by omega) (by omega), h _ (by omega) (by omega), h _ (by omega) (by omega), h _ (by omega) (by omega), h _ (by omega) (by omega)⟩
theorem FTr_fr {G G' : Nat → Int → Int} {B : Nat} {v : Int} (h : FrW G G' B) (hF : FTr G B v) : FTr G' B v := by
  obtain ⟨e1, e2, e3, e4, e5, e6⟩ := FrW_t h
  unfold FTr
  rw [e1, e2, e3, e4]
  exact hF
theorem sVr_head {G G' : Nat → Int → Int} {B : Nat} {v s i j : Int} (h : FrW G G' B) (hF : FTr G B v) (hw : ∀ s x y, 0 ≤ s → s ≤ 5 → i ≤ x → x < y → y ≤ j → y - x < j - i → G' (B + 544 + 40) (289 * s + 17 * x + y) = G (B + 544 + 40) (289 * s + 17 * x + y)) (h1 : ∀ s', s < s' → s' ≤ 5 → G' (B + 544 + 40) (289 * s' + 17 * i + j) = G (B + 544 + 40) (289 * s' + 17 * i + j)) : sVr G' B v s i j = sVr G B v s i j := by
  obtain ⟨e1, e2, e3, e4, e5, e6⟩ := FrW_t h
  unfold sVr
  rw [e1, e2, e3, e4, e5]
  refine sumN_congr fun m hm => ?_
  by_cases c : G (B + 544 + 3) (14 * v + m) = s
  · rw [if_pos c, if_pos c]
    obtain ⟨q1, q2, q3, q4⟩ := hF.2 (14 * v + m) (by omega) (by omega)
    have q5 := q3 0 (by omega) (by omega)
    exact rV_head q2.1 q5.2 hw fun z1 z2 => h1 _ (by have := q4 z1 z2; omega) (by omega)
  · rw [if_neg c, if_neg c]
theorem PSr_fr {G G' : Nat → Int → Int} {B : Nat} {v s i j : Int} (h : FrW G G' B) (hF : FTr G B v) (hw : ∀ s x y, 0 ≤ s → s ≤ 5 → i ≤ x → x < y → y ≤ j → y - x < j - i → G' (B + 544 + 40) (289 * s + 17 * x + y) = G (B + 544 + 40) (289 * s + 17 * x + y)) (h1 : ∀ s', s ≤ s' → s' ≤ 5 → G' (B + 544 + 40) (289 * s' + 17 * i + j) = G (B + 544 + 40) (289 * s' + 17 * i + j)) (s1 : s ≤ 5) (p : PSr G B v s i j) : PSr G' B v s i j := by
  unfold PSr
  rw [h1 s (Int.le_refl _) s1, sVr_head h hF hw (fun s' z1 z2 => h1 s' (by omega) z2)]
  exact p
theorem sVr_b {G : Nat → Int → Int} {B : Nat} {v s i j : Int} (hb : WBr G B) (i0 : 0 ≤ i) (ij : i ≤ j) (j1 : j ≤ 16) (n : Nat) : 0 ≤ sumN (fun f => if G (B + 544 + 3) f = s then rV (G (B + 544 + 40)) (G (B + 544 + 39)) (G (B + 544 + 5)) (G (B + 544 + 4)) j f 0 i else 0) (14 * v) n := sumN_nn fun m hm => by
  by_cases c : G (B + 544 + 3) (14 * v + m) = s
  · rw [if_pos c]
    exact (rV_b (fun s x y z1 z2 z3 z4 z5 => (hb s x y z1 z2 (by omega) z4 (by omega)).1) ij).1
  · rw [if_neg c]
    exact Int.le_refl _
/-- one sort on one span -/
theorem c12_sumSort {T : Nat → Option q_T} {nx rc rs B : Nat} {R : Nat → Nat → Option Value} {G : Nat → Int → Int} {v w i s : Int} (hM : Ly T R (B + 544) (L12 (B + 544))) (hF : FTr G B v) (hb : WBr G B) (v0 : 0 ≤ v) (v1 : v ≤ 1) (i0 : 0 ≤ i) (w0 : 1 ≤ w) (j1 : i + w ≤ 16) (s0 : 0 ≤ s) (s1 : s ≤ 5) (hx : ∀ p, i ≤ p → p < i + w → -2147483648 ≤ G (B + 544 + 39) p ∧ G (B + 544 + 39) p < 2147483648) :
    ∃ G', (∀ x, ¬ x = (B + 544 + 41) → G' x = G x) ∧ ∀ (Kn : List Value → q_M → Prop) (Kr : Option Value → q_M → Prop), wX12_findWays_4 [.ref (B + 544), .int (zI v), .int (zI w), .int (zI i), .int (zI s), .int (zI 0), .int (zI (14 * v))] (st T nx rc rs R G) Kn Kr = Kn [.ref (B + 544), .int (zI v), .int (zI w), .int (zI i), .int (zI s), .int (zI (min 1000 (sVr G B v s i (i + w)))), .int (zI (14 * v + (G (B + 544 + 2) v).toNat))] (st T nx rc rs R G') := by
  have g1 := hF.1
  obtain ⟨S, hS⟩ : ∃ S : Nat → Int, S = fun m => min 1000 (sumN (fun f => if G (B + 544 + 3) f = s then rV (G (B + 544 + 40)) (G (B + 544 + 39)) (G (B + 544 + 5)) (G (B + 544 + 4)) (i + w) f 0 i else 0) (14 * v) m) := ⟨_, rfl⟩
  have S0 : S 0 = 0 := by rw [hS]; rfl
  have Sn := fun m : Nat => sVr_b (v := v) (s := s) hb i0 (by omega : i ≤ i + w) j1 m
  have Sb : ∀ m : Nat, 0 ≤ S m ∧ S m ≤ 1000 := fun m => by
    have := Sn m
    rw [hS]
    show 0 ≤ min 1000 (sumN _ (14 * v) m) ∧ min 1000 (sumN _ (14 * v) m) ≤ 1000
    omega
  have Vb : ∀ f, 0 ≤ rV (G (B + 544 + 40)) (G (B + 544 + 39)) (G (B + 544 + 5)) (G (B + 544 + 4)) (i + w) f 0 i ∧ rV (G (B + 544 + 40)) (G (B + 544 + 39)) (G (B + 544 + 5)) (G (B + 544 + 4)) (i + w) f 0 i ≤ 1000 := fun f => rV_b (fun s x y z1 z2 z3 z4 z5 => (hb s x y z1 z2 (by omega) z4 (by omega)).1) (by omega)
  have Sy : ∀ m : Nat, G (B + 544 + 3) (14 * v + m) = s → S (m + 1) = min 1000 (S m + rV (G (B + 544 + 40)) (G (B + 544 + 39)) (G (B + 544 + 5)) (G (B + 544 + 4)) (i + w) (14 * v + m) 0 i) := fun m c => by
    have := Sn m
    have := (Vb (14 * v + m)).1
    rw [hS]
    show min 1000 (sumN _ (14 * v) m + if G (B + 544 + 3) (14 * v + m) = s then _ else _) = min 1000 (min 1000 (sumN _ (14 * v) m) + _)
    rw [if_pos c]
    omega
  have Sz : ∀ m : Nat, ¬ G (B + 544 + 3) (14 * v + m) = s → S (m + 1) = S m := fun m c => by
    rw [hS]
    show min 1000 (sumN _ (14 * v) m + if G (B + 544 + 3) (14 * v + m) = s then _ else _) = min 1000 (sumN _ (14 * v) m)
    rw [if_neg c, Int.add_zero]
  have SE : S (G (B + 544 + 2) v).toNat = min 1000 (sVr G B v s i (i + w)) := by rw [hS]; rfl
  obtain ⟨G', p, W⟩ := q_forE eX12_findWays_4 (fun _ _ => lX12_findWays_4) (fun m => [.ref (B + 544), .int (zI v), .int (zI w), .int (zI i), .int (zI s), .int (zI (S m)), .int (zI (14 * v + m))]) (fun G => st T nx rc rs R G) (fun _ G1 => ∀ x, ¬ x = (B + 544 + 41) → G1 x = G x) (G (B + 544 + 2) v).toNat G (fun _ _ => rfl) (fun m hm G1 p1 => by
    have e1 : G1 (B + 544 + 2) v = G (B + 544 + 2) v := by rw [p1 _ (by omega)]
    have e2 : G1 (B + 544 + 3) = G (B + 544 + 3) := p1 _ (by omega)
    have e3 : G1 (B + 544 + 4) = G (B + 544 + 4) := p1 _ (by omega)
    have e4 : G1 (B + 544 + 5) = G (B + 544 + 5) := p1 _ (by omega)
    have e5 : G1 (B + 544 + 39) = G (B + 544 + 39) := p1 _ (by omega)
    have e6 : G1 (B + 544 + 40) = G (B + 544 + 40) := p1 _ (by omega)
    obtain ⟨u1, u2, u3, u4⟩ := hF.2 (14 * v + m) (by omega) (by omega)
    have hz : 14 * v + (m : Int) < 14 * v + G (B + 544 + 2) v := by omega
    have e7 : 14 * v + ((m + 1 : Nat) : Int) = 14 * v + m + 1 := by omega
    have sb := Sb m
    have i1 : G1 (B + 544 + 4) (14 * v + m) = G (B + 544 + 4) (14 * v + m) := by rw [e3]
    have i2 : G1 (B + 544 + 3) (14 * v + m) = G (B + 544 + 3) (14 * v + m) := by rw [e2]
    by_cases c : G (B + 544 + 3) (14 * v + m) = s
    · have sy := Sy m c
      by_cases d : G (B + 544 + 4) (14 * v + m) ≤ w
      · obtain ⟨G2, a1, a2⟩ := c12_formWays (nx := nx) (rc := 0) (rs := 0) (G := G1) (f := 14 * v + m) (i := i) (j := i + w) hM (fun s x y z1 z2 z3 z4 z5 => by rw [e6]; exact hb s x y z1 z2 z3 z4 z5) (by omega) (by omega) i0 (by omega) j1 (by rw [e3]; exact u2.1) (by rw [e3]; exact u2.2) (fun k z1 z2 => by rw [e4]; exact u3 k z1 (by rw [← i1]; exact z2)) (fun p z1 z2 => by rw [e5]; exact hx p z1 z2)
        rw [e3, e4, e5, e6] at a2
        refine ⟨G2, fun x q => by rw [a1 x q, p1 x q], fun Kn Kf h => ?_⟩
        have vb := Vb (14 * v + m)
        obtain ⟨y, hy⟩ : ∃ y, y = rV (G (B + 544 + 40)) (G (B + 544 + 39)) (G (B + 544 + 5)) (G (B + 544 + 4)) (i + w) (14 * v + m) 0 i := ⟨_, rfl⟩
        rw [← hy] at vb sy a2
        have le : (if 1000 < S m + y then (1000 : Int) else S m + y) = min 1000 (S m + y) := by
          by_cases d : 1000 < S m + y
          · rw [if_pos d]; omega
          · rw [if_neg d]; omega
        simp only [e7] at h
        rw [sy] at h
        simp (disch := omega) only [↓wcX12_findWays_4.eq_1, ↓wsX12_findWays_4.eq_1, ↓(k_cs2 dX12_least), ↓(k_cv3 dX12_formWays (t12 hM)), ↓k_mk, ↓k_sq, ↓k_sk, ↓k_bk, ↓k_if, ↓k_te, ↓k_cm, ↓k_cz, ↓k_an2, ↓k_or2, ↓k_no, ↓k_ci, ↓k_l0, ↓k_r0, ↓k_se0, ↓k_ic0, ↓k_l1, ↓k_r1, ↓k_se1, ↓k_ic1, ↓k_de1, ↓k_tk1, ↓k_l2, ↓k_r2, ↓k_se2, ↓k_ic2, ↓k_de2, ↓k_tk2, ↓k_l3, ↓k_r3, ↓k_se3, ↓k_ic3, ↓k_de3, ↓k_tk3, ↓k_l4, ↓k_r4, ↓k_se4, ↓k_ic4, ↓k_de4, ↓k_tk4, ↓k_l5, ↓k_r5, ↓k_se5, ↓k_ic5, ↓k_de5, ↓k_tk5, ↓k_l6, ↓k_r6, ↓k_se6, ↓k_ic6, ↓k_de6, ↓k_tk6, ↓k_l7, ↓k_r7, ↓k_se7, ↓k_ic7, ↓k_de7, ↓k_tk7, ↓k_l8, ↓k_r8, ↓k_se8, ↓k_ic8, ↓k_de8, ↓k_tk8, ↓k_l9, ↓k_r9, ↓k_se9, ↓k_ic9, ↓k_de9, ↓k_tk9, ↓k_l10, ↓k_r10, ↓k_se10, ↓k_ic10, ↓k_de10, ↓k_tk10, ↓k_l11, ↓k_r11, ↓k_se11, ↓k_ic11, ↓k_de11, ↓k_tk11, ↓k_l12, ↓k_r12, ↓k_se12, ↓k_ic12, ↓k_de12, ↓k_tk12, ↓k_l13, ↓k_r13, ↓k_se13, ↓k_ic13, ↓k_de13, ↓k_tk13, ↓k_l14, ↓k_r14, ↓k_se14, ↓k_ic14, ↓k_de14, ↓k_tk14, ↓k_l15, ↓k_r15, ↓k_se15, ↓k_ic15, ↓k_de15, ↓k_tk15, ↓k_l16, ↓k_r16, ↓k_se16, ↓k_ic16, ↓k_de16, ↓k_tk16, ↓k_l17, ↓k_r17, ↓k_se17, ↓k_ic17, ↓k_de17, ↓k_tk17, ↓k_l18, ↓k_r18, ↓k_se18, ↓k_ic18, ↓k_de18, ↓k_tk18, ↓k_l19, ↓k_r19, ↓k_se19, ↓k_ic19, ↓k_de19, ↓k_tk19, ↓k_l20, ↓k_r20, ↓k_se20, ↓k_ic20, ↓k_de20, ↓k_tk20, ↓k_l21, ↓k_r21, ↓k_se21, ↓k_ic21, ↓k_de21, ↓k_tk21, ↓k_l22, ↓k_r22, ↓k_se22, ↓k_ic22, ↓k_de22, ↓k_tk22, ↓k_l23, ↓k_r23, ↓k_se23, ↓k_ic23, ↓k_de23, ↓k_tk23, ↓k_l24, ↓k_r24, ↓k_se24, ↓k_ic24, ↓k_de24, ↓k_tk24, ↓k_l25, ↓k_r25, ↓k_se25, ↓k_ic25, ↓k_de25, ↓k_tk25, ↓k_k, ↓k_kn, ↓k_kl, ↓k_kln, ↓k_il, ↓k_2, ↓k_1, ↓k_2c, ↓k_2l, ↓k_ac, ↓k_an, ↓k_cs, ↓k_cv, ↓k_fi, ↓k_fr, ↓k_ai, ↓k_az, ↓k_ar, ↓k_sai, ↓k_saz, ↓k_soa, ↓k_sof, ↓k_spf, ↓k_sx, ↓k_blk, ↓k_sset, ↓k_sdec, ↓k_sri, ↓k_srv, ↓k_srr, ↓k_nop, ↓k_add, ↓k_sub, ↓k_mul, ↓k_min, ↓k_max, ↓k_shr, ↓k_shl, ↓k_or, ↓k_ilz, ↓k_addl, ↓k_rt, ↓k_rb, ↓k_rbz, ↓k_rsi, ↓k_rsr, ↓k_rsv, ↓reduceIte, e1, hz, i1, i2, c, d, eq_self, ↓a2, ↓c12_least, le, ↓xr12_1 hM, ↓xa12_1 hM, ↓xs12_1 hM, ↓xo12_1 hM, ↓xc12_1 hM, ↓xd12_1 hM, ↓xr12_2 hM, ↓xa12_2 hM, ↓xs12_2 hM, ↓xo12_2 hM, ↓xc12_2 hM, ↓xd12_2 hM, ↓xr12_3 hM, ↓xa12_3 hM, ↓xs12_3 hM, ↓xo12_3 hM, ↓xc12_3 hM, ↓xd12_3 hM, List.length_cons, List.length_nil, List.forall_mem_cons, List.not_mem_nil, Value.category, true_and, and_true, false_and, and_false, or_true, true_or, or_false, false_or, Nat.zero_le, forall_const, implies_true, false_implies, Nat.zero_add, Nat.reduceAdd, Nat.reduceLT, Nat.reduceLeDiff, Nat.le_refl, not_true_eq_false, not_false_eq_true, r_eq, r_ne, r_lt, r_ge, r_gt, r_le, bz_ne, nn_toNat, cn_of, cn_0, cn_1, i10, Int.reduceLE, Int.reduceLT, Int.reduceEq, bz_T, bz_F, ite_self, mulc, st_bud]
        exact h
      · have y0 : rV (G (B + 544 + 40)) (G (B + 544 + 39)) (G (B + 544 + 5)) (G (B + 544 + 4)) (i + w) (14 * v + m) 0 i = 0 := rV_long (by omega) (by omega)
        have s2 : S (m + 1) = S m := by rw [sy, y0, Int.add_zero]; omega
        refine ⟨G1, p1, fun Kn Kf h => ?_⟩
        simp only [e7] at h
        rw [s2] at h
        simp (disch := omega) only [↓wcX12_findWays_4.eq_1, ↓wsX12_findWays_4.eq_1, ↓(k_cs2 dX12_least), ↓(k_cv3 dX12_formWays (t12 hM)), ↓k_mk, ↓k_sq, ↓k_sk, ↓k_bk, ↓k_if, ↓k_te, ↓k_cm, ↓k_cz, ↓k_an2, ↓k_or2, ↓k_no, ↓k_ci, ↓k_l0, ↓k_r0, ↓k_se0, ↓k_ic0, ↓k_l1, ↓k_r1, ↓k_se1, ↓k_ic1, ↓k_de1, ↓k_tk1, ↓k_l2, ↓k_r2, ↓k_se2, ↓k_ic2, ↓k_de2, ↓k_tk2, ↓k_l3, ↓k_r3, ↓k_se3, ↓k_ic3, ↓k_de3, ↓k_tk3, ↓k_l4, ↓k_r4, ↓k_se4, ↓k_ic4, ↓k_de4, ↓k_tk4, ↓k_l5, ↓k_r5, ↓k_se5, ↓k_ic5, ↓k_de5, ↓k_tk5, ↓k_l6, ↓k_r6, ↓k_se6, ↓k_ic6, ↓k_de6, ↓k_tk6, ↓k_l7, ↓k_r7, ↓k_se7, ↓k_ic7, ↓k_de7, ↓k_tk7, ↓k_l8, ↓k_r8, ↓k_se8, ↓k_ic8, ↓k_de8, ↓k_tk8, ↓k_l9, ↓k_r9, ↓k_se9, ↓k_ic9, ↓k_de9, ↓k_tk9, ↓k_l10, ↓k_r10, ↓k_se10, ↓k_ic10, ↓k_de10, ↓k_tk10, ↓k_l11, ↓k_r11, ↓k_se11, ↓k_ic11, ↓k_de11, ↓k_tk11, ↓k_l12, ↓k_r12, ↓k_se12, ↓k_ic12, ↓k_de12, ↓k_tk12, ↓k_l13, ↓k_r13, ↓k_se13, ↓k_ic13, ↓k_de13, ↓k_tk13, ↓k_l14, ↓k_r14, ↓k_se14, ↓k_ic14, ↓k_de14, ↓k_tk14, ↓k_l15, ↓k_r15, ↓k_se15, ↓k_ic15, ↓k_de15, ↓k_tk15, ↓k_l16, ↓k_r16, ↓k_se16, ↓k_ic16, ↓k_de16, ↓k_tk16, ↓k_l17, ↓k_r17, ↓k_se17, ↓k_ic17, ↓k_de17, ↓k_tk17, ↓k_l18, ↓k_r18, ↓k_se18, ↓k_ic18, ↓k_de18, ↓k_tk18, ↓k_l19, ↓k_r19, ↓k_se19, ↓k_ic19, ↓k_de19, ↓k_tk19, ↓k_l20, ↓k_r20, ↓k_se20, ↓k_ic20, ↓k_de20, ↓k_tk20, ↓k_l21, ↓k_r21, ↓k_se21, ↓k_ic21, ↓k_de21, ↓k_tk21, ↓k_l22, ↓k_r22, ↓k_se22, ↓k_ic22, ↓k_de22, ↓k_tk22, ↓k_l23, ↓k_r23, ↓k_se23, ↓k_ic23, ↓k_de23, ↓k_tk23, ↓k_l24, ↓k_r24, ↓k_se24, ↓k_ic24, ↓k_de24, ↓k_tk24, ↓k_l25, ↓k_r25, ↓k_se25, ↓k_ic25, ↓k_de25, ↓k_tk25, ↓k_k, ↓k_kn, ↓k_kl, ↓k_kln, ↓k_il, ↓k_2, ↓k_1, ↓k_2c, ↓k_2l, ↓k_ac, ↓k_an, ↓k_cs, ↓k_cv, ↓k_fi, ↓k_fr, ↓k_ai, ↓k_az, ↓k_ar, ↓k_sai, ↓k_saz, ↓k_soa, ↓k_sof, ↓k_spf, ↓k_sx, ↓k_blk, ↓k_sset, ↓k_sdec, ↓k_sri, ↓k_srv, ↓k_srr, ↓k_nop, ↓k_add, ↓k_sub, ↓k_mul, ↓k_min, ↓k_max, ↓k_shr, ↓k_shl, ↓k_or, ↓k_ilz, ↓k_addl, ↓k_rt, ↓k_rb, ↓k_rbz, ↓k_rsi, ↓k_rsr, ↓k_rsv, ↓reduceIte, e1, hz, i1, i2, c, d, eq_self, ↓xr12_1 hM, ↓xa12_1 hM, ↓xs12_1 hM, ↓xo12_1 hM, ↓xc12_1 hM, ↓xd12_1 hM, ↓xr12_2 hM, ↓xa12_2 hM, ↓xs12_2 hM, ↓xo12_2 hM, ↓xc12_2 hM, ↓xd12_2 hM, ↓xr12_3 hM, ↓xa12_3 hM, ↓xs12_3 hM, ↓xo12_3 hM, ↓xc12_3 hM, ↓xd12_3 hM, List.length_cons, List.length_nil, List.forall_mem_cons, List.not_mem_nil, Value.category, true_and, and_true, false_and, and_false, or_true, true_or, or_false, false_or, Nat.zero_le, forall_const, implies_true, false_implies, Nat.zero_add, Nat.reduceAdd, Nat.reduceLT, Nat.reduceLeDiff, Nat.le_refl, not_true_eq_false, not_false_eq_true, r_eq, r_ne, r_lt, r_ge, r_gt, r_le, bz_ne, nn_toNat, cn_of, cn_0, cn_1, i10, Int.reduceLE, Int.reduceLT, Int.reduceEq, bz_T, bz_F, ite_self, mulc, st_bud]
        exact h
    · have s2 := Sz m c
      refine ⟨G1, p1, fun Kn Kf h => ?_⟩
      simp only [e7] at h
      rw [s2] at h
      simp (disch := omega) only [↓wcX12_findWays_4.eq_1, ↓wsX12_findWays_4.eq_1, ↓(k_cs2 dX12_least), ↓(k_cv3 dX12_formWays (t12 hM)), ↓k_mk, ↓k_sq, ↓k_sk, ↓k_bk, ↓k_if, ↓k_te, ↓k_cm, ↓k_cz, ↓k_an2, ↓k_or2, ↓k_no, ↓k_ci, ↓k_l0, ↓k_r0, ↓k_se0, ↓k_ic0, ↓k_l1, ↓k_r1, ↓k_se1, ↓k_ic1, ↓k_de1, ↓k_tk1, ↓k_l2, ↓k_r2, ↓k_se2, ↓k_ic2, ↓k_de2, ↓k_tk2, ↓k_l3, ↓k_r3, ↓k_se3, ↓k_ic3, ↓k_de3, ↓k_tk3, ↓k_l4, ↓k_r4, ↓k_se4, ↓k_ic4, ↓k_de4, ↓k_tk4, ↓k_l5, ↓k_r5, ↓k_se5, ↓k_ic5, ↓k_de5, ↓k_tk5, ↓k_l6, ↓k_r6, ↓k_se6, ↓k_ic6, ↓k_de6, ↓k_tk6, ↓k_l7, ↓k_r7, ↓k_se7, ↓k_ic7, ↓k_de7, ↓k_tk7, ↓k_l8, ↓k_r8, ↓k_se8, ↓k_ic8, ↓k_de8, ↓k_tk8, ↓k_l9, ↓k_r9, ↓k_se9, ↓k_ic9, ↓k_de9, ↓k_tk9, ↓k_l10, ↓k_r10, ↓k_se10, ↓k_ic10, ↓k_de10, ↓k_tk10, ↓k_l11, ↓k_r11, ↓k_se11, ↓k_ic11, ↓k_de11, ↓k_tk11, ↓k_l12, ↓k_r12, ↓k_se12, ↓k_ic12, ↓k_de12, ↓k_tk12, ↓k_l13, ↓k_r13, ↓k_se13, ↓k_ic13, ↓k_de13, ↓k_tk13, ↓k_l14, ↓k_r14, ↓k_se14, ↓k_ic14, ↓k_de14, ↓k_tk14, ↓k_l15, ↓k_r15, ↓k_se15, ↓k_ic15, ↓k_de15, ↓k_tk15, ↓k_l16, ↓k_r16, ↓k_se16, ↓k_ic16, ↓k_de16, ↓k_tk16, ↓k_l17, ↓k_r17, ↓k_se17, ↓k_ic17, ↓k_de17, ↓k_tk17, ↓k_l18, ↓k_r18, ↓k_se18, ↓k_ic18, ↓k_de18, ↓k_tk18, ↓k_l19, ↓k_r19, ↓k_se19, ↓k_ic19, ↓k_de19, ↓k_tk19, ↓k_l20, ↓k_r20, ↓k_se20, ↓k_ic20, ↓k_de20, ↓k_tk20, ↓k_l21, ↓k_r21, ↓k_se21, ↓k_ic21, ↓k_de21, ↓k_tk21, ↓k_l22, ↓k_r22, ↓k_se22, ↓k_ic22, ↓k_de22, ↓k_tk22, ↓k_l23, ↓k_r23, ↓k_se23, ↓k_ic23, ↓k_de23, ↓k_tk23, ↓k_l24, ↓k_r24, ↓k_se24, ↓k_ic24, ↓k_de24, ↓k_tk24, ↓k_l25, ↓k_r25, ↓k_se25, ↓k_ic25, ↓k_de25, ↓k_tk25, ↓k_k, ↓k_kn, ↓k_kl, ↓k_kln, ↓k_il, ↓k_2, ↓k_1, ↓k_2c, ↓k_2l, ↓k_ac, ↓k_an, ↓k_cs, ↓k_cv, ↓k_fi, ↓k_fr, ↓k_ai, ↓k_az, ↓k_ar, ↓k_sai, ↓k_saz, ↓k_soa, ↓k_sof, ↓k_spf, ↓k_sx, ↓k_blk, ↓k_sset, ↓k_sdec, ↓k_sri, ↓k_srv, ↓k_srr, ↓k_nop, ↓k_add, ↓k_sub, ↓k_mul, ↓k_min, ↓k_max, ↓k_shr, ↓k_shl, ↓k_or, ↓k_ilz, ↓k_addl, ↓k_rt, ↓k_rb, ↓k_rbz, ↓k_rsi, ↓k_rsr, ↓k_rsv, ↓reduceIte, e1, hz, i1, i2, c, ↓xr12_1 hM, ↓xa12_1 hM, ↓xs12_1 hM, ↓xo12_1 hM, ↓xc12_1 hM, ↓xd12_1 hM, ↓xr12_2 hM, ↓xa12_2 hM, ↓xs12_2 hM, ↓xo12_2 hM, ↓xc12_2 hM, ↓xd12_2 hM, ↓xr12_3 hM, ↓xa12_3 hM, ↓xs12_3 hM, ↓xo12_3 hM, ↓xc12_3 hM, ↓xd12_3 hM, List.length_cons, List.length_nil, List.forall_mem_cons, List.not_mem_nil, Value.category, true_and, and_true, false_and, and_false, or_true, true_or, or_false, false_or, Nat.zero_le, forall_const, implies_true, false_implies, Nat.zero_add, Nat.reduceAdd, Nat.reduceLT, Nat.reduceLeDiff, Nat.le_refl, not_true_eq_false, not_false_eq_true, r_eq, r_ne, r_lt, r_ge, r_gt, r_le, bz_ne, nn_toNat, cn_of, cn_0, cn_1, i10, Int.reduceLE, Int.reduceLT, Int.reduceEq, bz_T, bz_F, ite_self, mulc, st_bud]
      exact h) (fun G1 p1 Kt Kf h => by
    have e1 : G1 (B + 544 + 2) v = G (B + 544 + 2) v := by rw [p1 _ (by omega)]
    have hz : ¬ 14 * v + G (B + 544 + 2) v < 14 * v + G (B + 544 + 2) v := by omega
    simp (disch := omega) only [↓wcX12_findWays_4.eq_1, ↓k_mk, ↓k_sq, ↓k_sk, ↓k_bk, ↓k_if, ↓k_te, ↓k_cm, ↓k_cz, ↓k_an2, ↓k_or2, ↓k_no, ↓k_ci, ↓k_l0, ↓k_r0, ↓k_se0, ↓k_ic0, ↓k_l1, ↓k_r1, ↓k_se1, ↓k_ic1, ↓k_de1, ↓k_tk1, ↓k_l2, ↓k_r2, ↓k_se2, ↓k_ic2, ↓k_de2, ↓k_tk2, ↓k_l3, ↓k_r3, ↓k_se3, ↓k_ic3, ↓k_de3, ↓k_tk3, ↓k_l4, ↓k_r4, ↓k_se4, ↓k_ic4, ↓k_de4, ↓k_tk4, ↓k_l5, ↓k_r5, ↓k_se5, ↓k_ic5, ↓k_de5, ↓k_tk5, ↓k_l6, ↓k_r6, ↓k_se6, ↓k_ic6, ↓k_de6, ↓k_tk6, ↓k_l7, ↓k_r7, ↓k_se7, ↓k_ic7, ↓k_de7, ↓k_tk7, ↓k_l8, ↓k_r8, ↓k_se8, ↓k_ic8, ↓k_de8, ↓k_tk8, ↓k_l9, ↓k_r9, ↓k_se9, ↓k_ic9, ↓k_de9, ↓k_tk9, ↓k_l10, ↓k_r10, ↓k_se10, ↓k_ic10, ↓k_de10, ↓k_tk10, ↓k_l11, ↓k_r11, ↓k_se11, ↓k_ic11, ↓k_de11, ↓k_tk11, ↓k_l12, ↓k_r12, ↓k_se12, ↓k_ic12, ↓k_de12, ↓k_tk12, ↓k_l13, ↓k_r13, ↓k_se13, ↓k_ic13, ↓k_de13, ↓k_tk13, ↓k_l14, ↓k_r14, ↓k_se14, ↓k_ic14, ↓k_de14, ↓k_tk14, ↓k_l15, ↓k_r15, ↓k_se15, ↓k_ic15, ↓k_de15, ↓k_tk15, ↓k_l16, ↓k_r16, ↓k_se16, ↓k_ic16, ↓k_de16, ↓k_tk16, ↓k_l17, ↓k_r17, ↓k_se17, ↓k_ic17, ↓k_de17, ↓k_tk17, ↓k_l18, ↓k_r18, ↓k_se18, ↓k_ic18, ↓k_de18, ↓k_tk18, ↓k_l19, ↓k_r19, ↓k_se19, ↓k_ic19, ↓k_de19, ↓k_tk19, ↓k_l20, ↓k_r20, ↓k_se20, ↓k_ic20, ↓k_de20, ↓k_tk20, ↓k_l21, ↓k_r21, ↓k_se21, ↓k_ic21, ↓k_de21, ↓k_tk21, ↓k_l22, ↓k_r22, ↓k_se22, ↓k_ic22, ↓k_de22, ↓k_tk22, ↓k_l23, ↓k_r23, ↓k_se23, ↓k_ic23, ↓k_de23, ↓k_tk23, ↓k_l24, ↓k_r24, ↓k_se24, ↓k_ic24, ↓k_de24, ↓k_tk24, ↓k_l25, ↓k_r25, ↓k_se25, ↓k_ic25, ↓k_de25, ↓k_tk25, ↓k_k, ↓k_kn, ↓k_kl, ↓k_kln, ↓k_il, ↓k_2, ↓k_1, ↓k_2c, ↓k_2l, ↓k_ac, ↓k_an, ↓k_cs, ↓k_cv, ↓k_fi, ↓k_fr, ↓k_ai, ↓k_az, ↓k_ar, ↓k_sai, ↓k_saz, ↓k_soa, ↓k_sof, ↓k_spf, ↓k_sx, ↓k_blk, ↓k_sset, ↓k_sdec, ↓k_sri, ↓k_srv, ↓k_srr, ↓k_nop, ↓k_add, ↓k_sub, ↓k_mul, ↓k_min, ↓k_max, ↓k_shr, ↓k_shl, ↓k_or, ↓k_ilz, ↓k_addl, ↓k_rt, ↓k_rb, ↓k_rbz, ↓k_rsi, ↓k_rsr, ↓k_rsv, ↓reduceIte, e1, hz, ↓xr12_1 hM, ↓xa12_1 hM, ↓xs12_1 hM, ↓xo12_1 hM, ↓xc12_1 hM, ↓xd12_1 hM, List.length_cons, List.length_nil, List.forall_mem_cons, List.not_mem_nil, Value.category, true_and, and_true, false_and, and_false, or_true, true_or, or_false, false_or, Nat.zero_le, forall_const, implies_true, false_implies, Nat.zero_add, Nat.reduceAdd, Nat.reduceLT, Nat.reduceLeDiff, Nat.le_refl, not_true_eq_false, not_false_eq_true, r_eq, r_ne, r_lt, r_ge, r_gt, r_le, bz_ne, nn_toNat, cn_of, cn_0, cn_1, i10, Int.reduceLE, Int.reduceLT, Int.reduceEq, bz_T, bz_F, ite_self, mulc, st_bud]
    exact h)
  refine ⟨G', p, fun Kn Kr => ?_⟩
  have W := W Kn Kr
  rw [S0, SE, show 14 * v + ((0 : Nat) : Int) = 14 * v by omega] at W
  exact W
end
