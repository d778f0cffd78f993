section
/-! rows: the class puts a choice together, whole -/
set_option maxHeartbeats 400000 in
theorem pow14_mono {m n : Nat} (h : m ≤ n) (n4 : n ≤ 4) : (14 : Int) ^ m ≤ 14 ^ n ∧ 1 ≤ (14 : Int) ^ m ∧ (14 : Int) ^ n ≤ 38416 := by
  obtain ⟨p0, p1, p2, p3, p4⟩ := pow14
  have c : n = 0 ∨ n = 1 ∨ n = 2 ∨ n = 3 ∨ n = 4 := by omega
  have d : m = 0 ∨ m = 1 ∨ m = 2 ∨ m = 3 ∨ m = 4 := by omega
  rcases c with c | c | c | c | c <;> rcases d with d | d | d | d | d <;> subst c <;> subst d <;> first | omega | (exfalso; omega)
set_option maxHeartbeats 400000 in
/-- a value grown by c cells stays small -/
theorem acc_b {acc : Int} {c n : Nat} (a0 : 0 ≤ acc) (a1 : acc < 14 ^ (4 - n)) (cn : c ≤ n) (n4 : n ≤ 4) : 0 ≤ acc * 14 ^ c ∧ acc * 14 ^ c < 14 ^ (4 - n + c) ∧ acc * 14 ^ c < 100000 := by
  have p := pow14_mono (m := c) (n := c) (Nat.le_refl _) (by omega)
  have q := pow14_mono (m := 4 - n + c) (n := 4) (by omega) (Nat.le_refl _)
  have k : (acc + 1) * 14 ^ c ≤ 14 ^ (4 - n) * 14 ^ c := Int.mul_le_mul_of_nonneg_right (by omega) (by omega)
  rw [← Int.pow_add, Int.add_mul, Int.one_mul] at k
  have z := Int.mul_nonneg a0 (show 0 ≤ (14 : Int) ^ c by omega)
  omega
set_option maxHeartbeats 400000 in
theorem ac_0 {T0 : Nat → Option q_T} {nx a t : Nat} {R : Nat → Nat → Option Value} {G : Nat → Int → Int} {f o ch : Int} {T : Int → Int → (Int × (Int → List Int) × (Int → Int))} (h : Ly T0 R a (L4 a)) (o8 : Ly T0 R t (L8 t)) (f0 : 0 ≤ f) (f1 : f < 14) {N : Int} (N5 : N ≤ 5) (hN : G (t + 3) f = N) : ∀ (l W : List Int) (k acc rd rest : Int), l.length = W.length → 0 ≤ k → k + l.length = N → AtI (fun k => G (t + 4) (5 * f + k)) k l → AtI (G (a + 4)) k W → AtI (G (a + 5)) k ((partsE T l W).map (fun L : (Int × (Int → List Int) × (Int → Int)) => L.1)) → (∀ it, it ∈ l → okC it ∨ (60 ≤ it ∧ it ≤ 65)) → (∀ w, w ∈ W → 1 ≤ w ∧ w ≤ 4) → HTp G a T l W → sumL (W.map Int.toNat) ≤ 4 → 0 ≤ acc → acc < 14 ^ (4 - sumL (W.map Int.toNat)) → 1 ≤ rd → rd * 2 ^ l.length ≤ 32 → 0 ≤ rest → rest < 1000000 → rest < prE (partsE T l W) →
    ∃ rest', ∀ (Kn : List Value → q_M → Prop) (Kr : Option Value → q_M → Prop), Kn [.ref a, .ref t, .int (zI f), .int (zI o), .int (zI ch), .int (zI (vW 14 rk14 acc (chW (partsE T l W) rest).1)), .int (zI (rd * (chW (partsE T l W) rest).2)), .int (zI rest'), .int (zI N)] (st T0 nx 0 0 R G) → q_wh wcX4_addChoice_0 wsX4_addChoice_0 [.ref a, .ref t, .int (zI f), .int (zI o), .int (zI ch), .int (zI acc), .int (zI rd), .int (zI rest), .int (zI k)] (st T0 nx 0 0 R G) Kn Kr := by
  intro l
  induction l with
  | nil =>
    intro W k acc rd rest hl k0 kN _ _ _ _ _ _ _ a0 a1 _ _ _ _ _
    have e : k = N := by
      simp only [List.length_nil] at kN
      omega
    subst e
    refine ⟨rest, fun Kn Kr hh => ?_⟩
    have hh : Kn [.ref a, .ref t, .int (zI f), .int (zI o), .int (zI ch), .int (zI acc), .int (zI (rd * 1)), .int (zI rest), .int (zI k)] (st T0 nx 0 0 R G) := hh
    rw [Int.mul_one] at hh
    refine q_outR (fun Kt Kf hk => ?_) hh
    have g : ¬ k < k := by omega
    clear hh
    simp (disch := omega) only [↓wcX4_addChoice_0.eq_1, ↓k_mk, ↓k_sq, ↓k_sk, ↓k_bk, ↓k_if, ↓k_te, ↓k_cm, ↓k_cz, ↓k_an2, ↓k_or2, ↓k_no, ↓k_ci, ↓k_l0, ↓k_r0, ↓k_se0, ↓k_ic0, ↓k_l1, ↓k_r1, ↓k_se1, ↓k_ic1, ↓k_de1, ↓k_tk1, ↓k_l2, ↓k_r2, ↓k_se2, ↓k_ic2, ↓k_de2, ↓k_tk2, ↓k_l3, ↓k_r3, ↓k_se3, ↓k_ic3, ↓k_de3, ↓k_tk3, ↓k_l4, ↓k_r4, ↓k_se4, ↓k_ic4, ↓k_de4, ↓k_tk4, ↓k_l5, ↓k_r5, ↓k_se5, ↓k_ic5, ↓k_de5, ↓k_tk5, ↓k_l6, ↓k_r6, ↓k_se6, ↓k_ic6, ↓k_de6, ↓k_tk6, ↓k_l7, ↓k_r7, ↓k_se7, ↓k_ic7, ↓k_de7, ↓k_tk7, ↓k_l8, ↓k_r8, ↓k_se8, ↓k_ic8, ↓k_de8, ↓k_tk8, ↓k_l9, ↓k_r9, ↓k_se9, ↓k_ic9, ↓k_de9, ↓k_tk9, ↓k_l10, ↓k_r10, ↓k_se10, ↓k_ic10, ↓k_de10, ↓k_tk10, ↓k_l11, ↓k_r11, ↓k_se11, ↓k_ic11, ↓k_de11, ↓k_tk11, ↓k_l12, ↓k_r12, ↓k_se12, ↓k_ic12, ↓k_de12, ↓k_tk12, ↓k_l13, ↓k_r13, ↓k_se13, ↓k_ic13, ↓k_de13, ↓k_tk13, ↓k_l14, ↓k_r14, ↓k_se14, ↓k_ic14, ↓k_de14, ↓k_tk14, ↓k_l15, ↓k_r15, ↓k_se15, ↓k_ic15, ↓k_de15, ↓k_tk15, ↓k_l16, ↓k_r16, ↓k_se16, ↓k_ic16, ↓k_de16, ↓k_tk16, ↓k_l17, ↓k_r17, ↓k_se17, ↓k_ic17, ↓k_de17, ↓k_tk17, ↓k_l18, ↓k_r18, ↓k_se18, ↓k_ic18, ↓k_de18, ↓k_tk18, ↓k_l19, ↓k_r19, ↓k_se19, ↓k_ic19, ↓k_de19, ↓k_tk19, ↓k_l20, ↓k_r20, ↓k_se20, ↓k_ic20, ↓k_de20, ↓k_tk20, ↓k_l21, ↓k_r21, ↓k_se21, ↓k_ic21, ↓k_de21, ↓k_tk21, ↓k_l22, ↓k_r22, ↓k_se22, ↓k_ic22, ↓k_de22, ↓k_tk22, ↓k_l23, ↓k_r23, ↓k_se23, ↓k_ic23, ↓k_de23, ↓k_tk23, ↓k_l24, ↓k_r24, ↓k_se24, ↓k_ic24, ↓k_de24, ↓k_tk24, ↓k_l25, ↓k_r25, ↓k_se25, ↓k_ic25, ↓k_de25, ↓k_tk25, ↓k_k, ↓k_kn, ↓k_kl, ↓k_kln, ↓k_il, ↓k_2, ↓k_1, ↓k_2c, ↓k_2l, ↓k_ac, ↓k_an, ↓k_cs, ↓k_cv, ↓k_fi, ↓k_fr, ↓k_ai, ↓k_az, ↓k_ar, ↓k_sai, ↓k_saz, ↓k_soa, ↓k_sof, ↓k_spf, ↓k_sx, ↓k_blk, ↓k_sset, ↓k_sdec, ↓k_sri, ↓k_srv, ↓k_srr, ↓k_nop, ↓k_add, ↓k_sub, ↓k_mul, ↓k_min, ↓k_max, ↓k_shr, ↓k_shl, ↓k_or, ↓k_ilz, ↓k_addl, ↓k_rt, ↓k_rb, ↓k_rbz, ↓k_rsi, ↓k_rsr, ↓k_rsv, ↓reduceIte, hN, g, ↓xr8_3 o8, ↓xa8_3 o8, ↓xs8_3 o8, ↓xo8_3 o8, ↓xc8_3 o8, ↓xd8_3 o8, List.length_cons, List.length_nil, List.forall_mem_cons, List.not_mem_nil, Value.category, true_and, and_true, false_and, and_false, or_true, true_or, or_false, false_or, Nat.zero_le, forall_const, implies_true, false_implies, Nat.zero_add, Nat.reduceAdd, Nat.reduceLT, Nat.reduceLeDiff, Nat.le_refl, not_true_eq_false, not_false_eq_true, r_eq, r_ne, r_lt, r_ge, r_gt, r_le, bz_ne, nn_toNat, cn_of, cn_0, cn_1, i10, Int.reduceLE, Int.reduceLT, Int.reduceEq, bz_T, bz_F, ite_self, mulc, st_bud]
    exact hk
  | cons it l ih =>
    intro W k acc rd rest hl k0 kN hi hc hr iti ww ht s4 a0 a1 rd0 rd1 r0 r1 rp
    cases W with
    | nil => simp at hl
    | cons w W =>
      simp only [List.length_cons, Nat.add_right_cancel_iff] at hl
      rw [List.length_cons] at kN rd1
      have s4 : w.toNat + sumL (W.map Int.toNat) ≤ 4 := s4
      have a1 : acc < 14 ^ (4 - (w.toNat + sumL (W.map Int.toNat))) := a1
      obtain ⟨w1, w4⟩ := ww w List.mem_cons_self
      have it1 := iti it List.mem_cons_self
      obtain ⟨n, hn⟩ : ∃ n, n = (partE T it w).1 := ⟨_, rfl⟩
      have eok : EOk w.toNat (partE T it w) := partE_ok w1 it1 (fun g => (ht it w List.mem_cons_self List.mem_cons_self g).2)
      have pok : POk (partsE T l W) (W.map Int.toNat) := partsE_ok l W hl (fun x hx => iti x (List.mem_cons_of_mem _ hx)) (fun x hx => (ww x (List.mem_cons_of_mem _ hx)).1) (fun x y hx hy g => (ht x y (List.mem_cons_of_mem _ hx) (List.mem_cons_of_mem _ hy) g).2)
      have rp : rest < prE (partE T it w :: partsE T l W) := rp
      obtain ⟨n0, ⟨m0, m1⟩, d0, d1⟩ := chW_t r0 rp eok.1.1 (prE_nn _ _ pok)
      have n100 := eok.1.2
      rw [← hn] at n0 m0 m1 d0 d1 n100
      obtain ⟨j1, j2, j3, j4⟩ := eok.2.1 (rest % n) m0 (by rw [← hn]; exact m1)
      obtain ⟨u, hu⟩ : ∃ u, u = (partE T it w).2.1 (rest % n) := ⟨_, rfl⟩
      obtain ⟨ω, hω⟩ : ∃ ω, ω = (partE T it w).2.2 (rest % n) := ⟨_, rfl⟩
      rw [← hu] at j1 j2
      rw [← hω] at j3 j4
      have vb := vW_b (b := 14) (rk := rk14) (by omega) rk14_b rk14_lt u j1
      rw [j2] at vb
      have ab := acc_b (c := w.toNat) a0 a1 (by omega) s4
      have e1 : (chW (partsE T (it :: l) (w :: W)) rest).1 = u ++ (chW (partsE T l W) (rest / n)).1 := by rw [hu, hn]; rfl
      have e2 : (chW (partsE T (it :: l) (w :: W)) rest).2 = ω * (chW (partsE T l W) (rest / n)).2 := by rw [hω, hn]; rfl
      have pw : (14 : Int) ^ (4 - (w.toNat + sumL (W.map Int.toNat)) + w.toNat) = 14 ^ (4 - sumL (W.map Int.toNat)) := by rw [show 4 - (w.toNat + sumL (W.map Int.toNat)) + w.toNat = 4 - sumL (W.map Int.toNat) by omega]
      have k1 : (acc + 1) * 14 ^ w.toNat ≤ 14 ^ (4 - (w.toNat + sumL (W.map Int.toNat))) * 14 ^ w.toNat := Int.mul_le_mul_of_nonneg_right (by omega) (by omega)
      rw [← Int.pow_add, pw, Int.add_mul, Int.one_mul] at k1
      have dle : rest / n ≤ rest := Int.ediv_le_self n r0
      have p2 : (2 : Int) ^ (l.length + 1) = 2 ^ l.length * 2 := Int.pow_succ 2 l.length
      have p20 : (0 : Int) < 2 ^ l.length := Int.pow_pos (by omega)
      have rdw : 1 ≤ rd * ω ∧ rd * ω * 2 ^ l.length ≤ 32 := by
        have z1 := Int.mul_le_mul rd0 j3 (by omega) (by omega)
        have z2 : rd * ω ≤ rd * 2 := Int.mul_le_mul_of_nonneg_left j4 (by omega)
        have z3 : rd * ω * 2 ^ l.length ≤ rd * 2 * 2 ^ l.length := Int.mul_le_mul_of_nonneg_right z2 (by omega)
        rw [p2, Int.mul_comm (2 ^ l.length) 2, ← Int.mul_assoc] at rd1
        omega
      obtain ⟨rest', hl2⟩ := ih W (k + 1) (acc * 14 ^ w.toNat + vW 14 rk14 0 u) (rd * ω) (rest / n) hl (by omega) (by omega) hi.2 hc.2 hr.2 (fun x hx => iti x (List.mem_cons_of_mem _ hx)) (fun x hx => ww x (List.mem_cons_of_mem _ hx)) (fun x y hx hy g => ht x y (List.mem_cons_of_mem _ hx) (List.mem_cons_of_mem _ hy) g) (by omega) (by omega) (by omega) rdw.1 rdw.2 d0 (by omega) d1
      have v2 : vW 14 rk14 acc u = acc * 14 ^ w.toNat + vW 14 rk14 0 u := by rw [vW_acc, j2]
      rw [← v2, ← vW_app, Int.mul_assoc] at hl2
      rw [e1, e2]
      refine ⟨rest', fun Kn Kr hh => q_backR (e2 := [.ref a, .ref t, .int (zI f), .int (zI o), .int (zI ch), .int (zI (acc * 14 ^ w.toNat + vW 14 rk14 0 u)), .int (zI (rd * ω)), .int (zI (rest / n)), .int (zI (k + 1))]) (μ2 := st T0 nx 0 0 R G) (fun K Kf hk => ?_) (by rw [← v2]; exact hl2 Kn Kr hh)⟩
      refine ac_turn h o8 f0 f1 k0 (by omega) N5 hN hi.1 it1 hc.1 w1 w4 (by rw [hn]; exact hr.1) n0 (by omega) r0 r1 (fun c c0 c1 => ?_) (vW 14 rk14 0 u) (rd * ω) (fun g => ?_) (fun g => ?_) Kr K Kf hk
      · have := acc_b (c := c.toNat) a0 a1 (by omega) s4
        exact ⟨this.1, this.2.2⟩
      · have pe : partE T it w = T (it - 60) w := by unfold partE; rw [if_pos g]
        obtain ⟨x1, x2⟩ := (ht it w List.mem_cons_self List.mem_cons_self g).1.2 (rest % n) m0 (by rw [← pe, ← hn]; exact m1)
        rw [x1, x2, hω, hu, pe]
        exact ⟨rfl, rfl⟩
      · have w1' : w = 1 := Classical.byContradiction fun z => by
          unfold partE at hn
          rw [if_neg g, if_neg z] at hn
          have hn : n = 0 := hn
          omega
        have pe : partE T it w = (1, fun _ => [it], fun _ => 1) := by unfold partE; rw [if_neg g, if_pos w1']
        rw [hω, hu, pe]
        refine ⟨?_, Int.mul_one rd⟩
        show (0 : Int) * 14 + rk14 it = rk14 it
        omega
set_option maxHeartbeats 400000 in
theorem chW_b : ∀ (L : List (Int × (Int → List Int) × (Int → Int))) (ms : List Nat) (t : Int), POk L ms → 0 ≤ t → t < prE L → (chW L t).2 ≤ 2 ^ ms.length := by
  intro L
  induction L with
  | nil =>
    intro ms t h _ _
    cases ms with
    | nil => exact Int.le_refl 1
    | cons m ms => exact absurd h (by simp [POk])
  | cons a r ih =>
    intro ms t h t0 t1
    cases ms with
    | nil => exact absurd h (by simp [POk])
    | cons m ms =>
      have h : EOk m a ∧ POk r ms := h
      obtain ⟨p, ⟨q0, q1⟩, d0, d1⟩ := chW_t t0 t1 h.1.1.1 (prE_nn r ms h.2)
      have i := ih ms (t / a.1) h.2 d0 d1
      obtain ⟨j1, j2, j3, j4⟩ := h.1.2.1 (t % a.1) q0 q1
      have i3 := (chW_ok r ms (t / a.1) h.2 d0 d1).2.2
      show a.2.2 (t % a.1) * (chW r (t / a.1)).2 ≤ 2 ^ (ms.length + 1)
      rw [Int.pow_succ, Int.mul_comm (2 ^ ms.length) 2]
      exact Int.mul_le_mul j4 i (by omega) (by omega)
set_option maxHeartbeats 400000 in
/-- a choice is put in -/
theorem c4_addChoice {T0 : Nat → Option q_T} {nx a t : Nat} {R : Nat → Nat → Option Value} {G : Nat → Int → Int} {f o ch : Int} {T : Int → Int → (Int × (Int → List Int) × (Int → Int))} {E : (Int × (Int → List Int) × (Int → Int))} {m : Nat} {l W : List Int} (h : Ly T0 R a (L4 a)) (o8 : Ly T0 R t (L8 t)) (f0 : 0 ≤ f) (f1 : f < 14) {N : Int} (N5 : N ≤ 5) (hN : G (t + 3) f = N) (o0 : 0 ≤ o) (o1 : o < 24) (m4 : m ≤ 4) (hE : EOk m E) (hH : HRc G a o E) (hl : l.length = W.length) (lN : (l.length : Int) = N) (l4 : l.length ≤ 4) (hi : AtI (fun k => G (t + 4) (5 * f + k)) 0 l) (hc : AtI (G (a + 4)) 0 W) (hr : AtI (G (a + 5)) 0 ((partsE T l W).map (fun L : (Int × (Int → List Int) × (Int → Int)) => L.1))) (iti : ∀ it, it ∈ l → okC it ∨ (60 ≤ it ∧ it ≤ 65)) (ww : ∀ w, w ∈ W → 1 ≤ w ∧ w ≤ 4) (ht : HTp G a T l W) (sm : sumL (W.map Int.toNat) = m) (c0 : 0 ≤ ch) (c1 : ch < 1000) (cp : ch < prE (partsE T l W)) :
    ∃ G', CFw G G' a o ∧ ((insE (chW (partsE T l W) ch).1 (min (chW (partsE T l W) ch).2 2) E = none ∧ G' a 2 = 1) ∨ ∃ E', insE (chW (partsE T l W) ch).1 (min (chW (partsE T l W) ch).2 2) E = some E' ∧ G' a 2 = G a 2 ∧ HRc G' a o E') ∧ ∀ K : Option Value → q_M → Prop, fX4_addChoice [.ref a, .ref t, .int (zI f), .int (zI o), .int (zI ch)] (st T0 nx 0 0 R G) K = K none (st T0 nx 0 0 R G') := by
  have pok : POk (partsE T l W) (W.map Int.toNat) := partsE_ok l W hl iti (fun x hx => (ww x hx).1) (fun x y hx hy g => (ht x y hx hy g).2)
  obtain ⟨q1, q2, q3⟩ := chW_ok _ _ ch pok c0 cp
  rw [sm] at q2
  have p2 : (1 : Int) * 2 ^ l.length ≤ 32 := by
    have c : l.length = 0 ∨ l.length = 1 ∨ l.length = 2 ∨ l.length = 3 ∨ l.length = 4 := by omega
    rcases c with c | c | c | c | c <;> rw [c] <;> decide
  have p14 := pow14_mono (m := 4 - m) (n := 4 - m) (Nat.le_refl _) (by omega)
  obtain ⟨rest', hl2⟩ := ac_0 (T0 := T0) (nx := nx) (a := a) (t := t) (R := R) (G := G) (o := o) (ch := ch) (T := T) h o8 f0 f1 N5 hN l W 0 0 1 ch hl (Int.le_refl _) (by omega) hi hc hr iti ww ht (by omega) (Int.le_refl _) (by rw [sm]; omega) (Int.le_refl _) p2 c0 (by omega) cp
  rw [Int.one_mul] at hl2
  have wb := chW_b (partsE T l W) (W.map Int.toNat) ch pok c0 cp
  obtain ⟨u, hu⟩ : ∃ u, u = (chW (partsE T l W) ch).1 := ⟨_, rfl⟩
  obtain ⟨ω, hω⟩ : ∃ ω, ω = (chW (partsE T l W) ch).2 := ⟨_, rfl⟩
  have ml : (W.map Int.toNat).length ≤ 4 := by rw [List.length_map, ← hl]; exact l4
  have wb2 : ω ≤ 16 := by
    rw [hω]
    have c : (W.map Int.toNat).length = 0 ∨ (W.map Int.toNat).length = 1 ∨ (W.map Int.toNat).length = 2 ∨ (W.map Int.toNat).length = 3 ∨ (W.map Int.toNat).length = 4 := by omega
    rcases c with c | c | c | c | c <;> rw [c] at wb <;> exact Int.le_trans wb (by decide)
  rw [← hu] at q1 q2 hl2 ⊢
  rw [← hω] at q3 hl2 ⊢
  obtain ⟨G', r1, r2, r3⟩ := c4_insert (T := T0) (nx := nx) (R := R) (G := G) (o := o) (ρ := min ω 2) h o0 o1 m4 hE hH q1 q2 (by omega)
  refine ⟨G', r1, r2, fun K => ?_⟩
  have lw : ∀ (Kn : List Value → q_M → Prop) (Kr : Option Value → q_M → Prop), wX4_addChoice_0 [.ref a, .ref t, .int (zI f), .int (zI o), .int (zI ch), .int (zI 0), .int (zI 1), .int (zI ch), .int (zI 0)] (st T0 nx 0 0 R G) Kn Kr = Kn [.ref a, .ref t, .int (zI f), .int (zI o), .int (zI ch), .int (zI (V14 u)), .int (zI ω), .int (zI rest'), .int (zI N)] (st T0 nx 0 0 R G) := eX4_addChoice_0.eqn (hl2 _ _ ⟨rfl, rfl⟩)
  obtain ⟨VV, hV⟩ : ∃ VV, VV = V14 u := ⟨_, rfl⟩
  rw [← hV] at lw r3
  clear hl2 r1 r2 hE hH hi hc hr iti ww ht pok q1 q2 hu hω hV wb ml
  simp (disch := omega) only [↓fX4_addChoice.eq_1, ↓uX4_addChoice, ↓k_mk, ↓k_sq, ↓k_sk, ↓k_bk, ↓k_if, ↓k_te, ↓k_cm, ↓k_cz, ↓k_an2, ↓k_or2, ↓k_no, ↓k_ci, ↓k_l0, ↓k_r0, ↓k_se0, ↓k_ic0, ↓k_l1, ↓k_r1, ↓k_se1, ↓k_ic1, ↓k_de1, ↓k_tk1, ↓k_l2, ↓k_r2, ↓k_se2, ↓k_ic2, ↓k_de2, ↓k_tk2, ↓k_l3, ↓k_r3, ↓k_se3, ↓k_ic3, ↓k_de3, ↓k_tk3, ↓k_l4, ↓k_r4, ↓k_se4, ↓k_ic4, ↓k_de4, ↓k_tk4, ↓k_l5, ↓k_r5, ↓k_se5, ↓k_ic5, ↓k_de5, ↓k_tk5, ↓k_l6, ↓k_r6, ↓k_se6, ↓k_ic6, ↓k_de6, ↓k_tk6, ↓k_l7, ↓k_r7, ↓k_se7, ↓k_ic7, ↓k_de7, ↓k_tk7, ↓k_l8, ↓k_r8, ↓k_se8, ↓k_ic8, ↓k_de8, ↓k_tk8, ↓k_l9, ↓k_r9, ↓k_se9, ↓k_ic9, ↓k_de9, ↓k_tk9, ↓k_l10, ↓k_r10, ↓k_se10, ↓k_ic10, ↓k_de10, ↓k_tk10, ↓k_l11, ↓k_r11, ↓k_se11, ↓k_ic11, ↓k_de11, ↓k_tk11, ↓k_l12, ↓k_r12, ↓k_se12, ↓k_ic12, ↓k_de12, ↓k_tk12, ↓k_l13, ↓k_r13, ↓k_se13, ↓k_ic13, ↓k_de13, ↓k_tk13, ↓k_l14, ↓k_r14, ↓k_se14, ↓k_ic14, ↓k_de14, ↓k_tk14, ↓k_l15, ↓k_r15, ↓k_se15, ↓k_ic15, ↓k_de15, ↓k_tk15, ↓k_l16, ↓k_r16, ↓k_se16, ↓k_ic16, ↓k_de16, ↓k_tk16, ↓k_l17, ↓k_r17, ↓k_se17, ↓k_ic17, ↓k_de17, ↓k_tk17, ↓k_l18, ↓k_r18, ↓k_se18, ↓k_ic18, ↓k_de18, ↓k_tk18, ↓k_l19, ↓k_r19, ↓k_se19, ↓k_ic19, ↓k_de19, ↓k_tk19, ↓k_l20, ↓k_r20, ↓k_se20, ↓k_ic20, ↓k_de20, ↓k_tk20, ↓k_l21, ↓k_r21, ↓k_se21, ↓k_ic21, ↓k_de21, ↓k_tk21, ↓k_l22, ↓k_r22, ↓k_se22, ↓k_ic22, ↓k_de22, ↓k_tk22, ↓k_l23, ↓k_r23, ↓k_se23, ↓k_ic23, ↓k_de23, ↓k_tk23, ↓k_l24, ↓k_r24, ↓k_se24, ↓k_ic24, ↓k_de24, ↓k_tk24, ↓k_l25, ↓k_r25, ↓k_se25, ↓k_ic25, ↓k_de25, ↓k_tk25, ↓k_k, ↓k_kn, ↓k_kl, ↓k_kln, ↓k_il, ↓k_2, ↓k_1, ↓k_2c, ↓k_2l, ↓k_ac, ↓k_an, ↓k_cs, ↓k_cv, ↓k_fi, ↓k_fr, ↓k_ai, ↓k_az, ↓k_ar, ↓k_sai, ↓k_saz, ↓k_soa, ↓k_sof, ↓k_spf, ↓k_sx, ↓k_blk, ↓k_sset, ↓k_sdec, ↓k_sri, ↓k_srv, ↓k_srr, ↓k_nop, ↓k_add, ↓k_sub, ↓k_mul, ↓k_min, ↓k_max, ↓k_shr, ↓k_shl, ↓k_or, ↓k_ilz, ↓k_addl, ↓k_rt, ↓k_rb, ↓k_rbz, ↓k_rsi, ↓k_rsr, ↓k_rsv, ↓reduceIte, ↓lw, ↓(k_cv3 dX4_insert (t4 h)), ↓r3, List.length_cons, List.length_nil, List.forall_mem_cons, List.not_mem_nil, Value.category, true_and, and_true, false_and, and_false, or_true, true_or, or_false, false_or, Nat.zero_le, forall_const, implies_true, false_implies, Nat.zero_add, Nat.reduceAdd, Nat.reduceLT, Nat.reduceLeDiff, Nat.le_refl, not_true_eq_false, not_false_eq_true, r_eq, r_ne, r_lt, r_ge, r_gt, r_le, bz_ne, nn_toNat, cn_of, cn_0, cn_1, i10, Int.reduceLE, Int.reduceLT, Int.reduceEq, bz_T, bz_F, ite_self, mulc, st_bud]
end
