section
/-! the reference betters the prices of one span -/
def TR (G : Nat → Int → Int) (B : Nat) (v nf : Int) (sf : Int → Int) (fi : Int → List Int) (X : Int → Int) : Prop := G (B + 544 + 2) v = nf ∧ (0 ≤ nf ∧ nf ≤ 14) ∧ G (B + 544 + 39) = X ∧ ∀ f, 0 ≤ f → f < nf → G (B + 544 + 3) (14 * v + f) = sf f ∧ (0 ≤ sf f ∧ sf f ≤ 5) ∧ (1 ≤ G (B + 544 + 4) (14 * v + f) ∧ G (B + 544 + 4) (14 * v + f) ≤ 5) ∧ (∀ k, 0 ≤ k → k < G (B + 544 + 4) (14 * v + f) → 0 ≤ G (B + 544 + 5) (5 * (14 * v + f) + k) ∧ G (B + 544 + 5) (5 * (14 * v + f) + k) ≤ 65) ∧ il (gC (G (B + 544 + 5)) (14 * v + f)) 0 (G (B + 544 + 4) (14 * v + f) - 0).toNat = fi f
def FrP (G G' : Nat → Int → Int) (B : Nat) : Prop := ∀ x, ¬ x = (B + 544 + 50) → ¬ x = (B + 544 + 51) → G' x = G x
theorem FrP_tr {G G1 G2 : Nat → Int → Int} {B : Nat} (h : FrP G G1 B) (k : FrP G1 G2 B) : FrP G G2 B := fun x a b => by rw [k x a b, h x a b]
theorem TR_fr {G G' : Nat → Int → Int} {B : Nat} {v nf : Int} {sf : Int → Int} {fi : Int → List Int} {X : Int → Int} (h : FrP G G' B) (t : TR G B v nf sf fi X) : TR G' B v nf sf fi X := by
  unfold TR at t ⊢
  rw [h (B + 544 + 2) (by omega) (by omega), h (B + 544 + 39) (by omega) (by omega), h (B + 544 + 3) (by omega) (by omega), h (B + 544 + 4) (by omega) (by omega), h (B + 544 + 5) (by omega) (by omega)]
  exact t
/-- a span that is done -/
def SpD (nf : Int) (sf : Int → Int) (fi : Int → List Int) (ft : Int → Int → Bool) (Q : Int → Int → Int → Int) (i j : Int) : Prop := ∀ s : Int, 0 ≤ s → s ≤ 5 → (0 ≤ Q s i j ∧ Q s i j ≤ 1000000) ∧ (i = j → 1 ≤ Q s i j) ∧ (∀ f, 0 ≤ f → f < nf → sf f = s → Q s i j ≤ rP 1000000 Q ft j (fi f) i) ∧ (Q s i j < 1000000 → ∃ f, 0 ≤ f ∧ f < nf ∧ sf f = s ∧ Q s i j = rP 1000000 Q ft j (fi f) i)
/-- a span under way -/
def SpG (nf : Int) (sf : Int → Int) (fi : Int → List Int) (ft : Int → Int → Bool) (Q : Int → Int → Int → Int) (i j : Int) : Prop := ∀ s : Int, 0 ≤ s → s ≤ 5 → (0 ≤ Q s i j ∧ Q s i j ≤ 1000000) ∧ (i = j → 1 ≤ Q s i j) ∧ (Q s i j < 1000000 → ∃ f, 0 ≤ f ∧ f < nf ∧ sf f = s ∧ rP 1000000 Q ft j (fi f) i ≤ Q s i j)
theorem SpD_congr {nf : Int} {sf : Int → Int} {fi : Int → List Int} {ft : Int → Int → Bool} {Q : Int → Int → Int → Int} {i j : Int} {Q' : Int → Int → Int → Int} (h : ∀ s x y, i ≤ x → x ≤ y → y ≤ j → Q' s x y = Q s x y) (ij : i ≤ j) (d : SpD nf sf fi ft Q i j) : SpD nf sf fi ft Q' i j := fun s s0 s1 => by
  obtain ⟨d1, d2, d3, d4⟩ := d s s0 s1
  have e : ∀ f, rP 1000000 Q' ft j (fi f) i = rP 1000000 Q ft j (fi f) i := fun f => rP_congr fun s a b q1 q2 q3 => h s a b q1 q2 q3
  rw [h s i j (Int.le_refl _) ij (Int.le_refl _)]
  exact ⟨d1, d2, fun f q1 q2 q3 => by rw [e]; exact d3 f q1 q2 q3, fun z => by
    obtain ⟨f, q1, q2, q3, q4⟩ := d4 z
    exact ⟨f, q1, q2, q3, by rw [e]; exact q4⟩⟩
theorem SpD_of {nf : Int} {sf : Int → Int} {fi : Int → List Int} {ft : Int → Int → Bool} {Q : Int → Int → Int → Int} {i j : Int} (g : SpG nf sf fi ft Q i j) (le : ∀ s f, 0 ≤ s → s ≤ 5 → 0 ≤ f → f < nf → sf f = s → Q s i j ≤ rP 1000000 Q ft j (fi f) i) : SpD nf sf fi ft Q i j := fun s s0 s1 => by
  obtain ⟨d1, d2, d3⟩ := g s s0 s1
  exact ⟨d1, d2, fun f q1 q2 q3 => le s f s0 s1 q1 q2 q3, fun z => by
    obtain ⟨f, q1, q2, q3, q4⟩ := d3 z
    exact ⟨f, q1, q2, q3, Int.le_antisymm (le s f s0 s1 q1 q2 q3) q4⟩⟩
/-- one price lowered to what a form costs -/
theorem SpG_low {nf : Int} {sf : Int → Int} {fi : Int → List Int} {ft : Int → Int → Bool} {Q : Int → Int → Int → Int} {i j : Int} {Q' : Int → Int → Int → Int} {s f : Int} (ij : i ≤ j) (out : ∀ s x y, ¬ (0 ≤ s ∧ s ≤ 5) → Q s x y = 1000000) (nn : ∀ s x y, i ≤ x → x ≤ y → y ≤ j → 0 ≤ Q s x y) (emp : ∀ s, 1 ≤ Q s j j ∨ i < j) (g : SpG nf sf fi ft Q i j) (h : ∀ s' x y, ¬ (s' = s ∧ x = i ∧ y = j) → Q' s' x y = Q s' x y) (s0 : 0 ≤ s) (s1 : s ≤ 5) (f0 : 0 ≤ f) (f1 : f < nf) (fs : sf f = s) (fne : fi f ≠ []) (e : Q' s i j = min (rP 1000000 Q ft j (fi f) i) (Q s i j)) : SpG nf sf fi ft Q' i j := by
  have le : ∀ s' x y, Q' s' x y ≤ Q s' x y := fun s' x y => by
    by_cases c : s' = s ∧ x = i ∧ y = j
    · obtain ⟨rfl, rfl, rfl⟩ := c
      omega
    · rw [h s' x y c]
      exact Int.le_refl _
  have mo : ∀ f, rP 1000000 Q' ft j (fi f) i ≤ rP 1000000 Q ft j (fi f) i := fun f => rP_mono fun s a b _ _ _ => le s a b
  have p0 : 0 ≤ rP 1000000 Q ft j (fi f) i := rP_nn (by omega) nn
  intro s' q0 q1
  obtain ⟨d1, d2, d3⟩ := g s' q0 q1
  by_cases c : s' = s
  · subst c
    refine ⟨by omega, fun eij => ?_, fun z => ?_⟩
    · have := rP_pos (I := 1000000) (P := Q) (ft := ft) (to := j) fne (by omega) (fun s => by
        have := emp s
        omega)
      have d2 := d2 eij
      rw [eij] at e d2 ⊢
      omega
    · by_cases w : rP 1000000 Q ft j (fi f) i ≤ Q s' i j
      · exact ⟨f, f0, f1, fs, by have := mo f; omega⟩
      · obtain ⟨f', q2, q3, q4, q5⟩ := d3 (by omega)
        exact ⟨f', q2, q3, q4, by have := mo f'; omega⟩
  · rw [h s' i j (fun z => c z.1)]
    exact ⟨d1, d2, fun z => by
      obtain ⟨f', q2, q3, q4, q5⟩ := d3 z
      exact ⟨f', q2, q3, q4, by have := mo f'; omega⟩⟩
theorem k_idxP {x0 x1 : Value} {s i j : Int} {μ : q_M} {K : Int32 → q_M → Prop} : (q_2 q_giadd (q_2 q_giadd (q_2 q_gimul (q_k 289) (q_l 2)) (q_2 q_gimul (q_k 17) (q_l 3))) (q_l 4)) [x0, x1, .int (zI s), .int (zI i), .int (zI j)] μ K = K (zI (289 * s + 17 * i + j)) μ := by
  simp (disch := omega) only [↓k_mk, ↓k_sq, ↓k_sk, ↓k_bk, ↓k_if, ↓k_te, ↓k_cm, ↓k_cz, ↓k_an2, ↓k_or2, ↓k_no, ↓k_ci, ↓k_l0, ↓k_r0, ↓k_se0, ↓k_ic0, ↓k_l1, ↓k_r1, ↓k_se1, ↓k_ic1, ↓k_de1, ↓k_tk1, ↓k_l2, ↓k_r2, ↓k_se2, ↓k_ic2, ↓k_de2, ↓k_tk2, ↓k_l3, ↓k_r3, ↓k_se3, ↓k_ic3, ↓k_de3, ↓k_tk3, ↓k_l4, ↓k_r4, ↓k_se4, ↓k_ic4, ↓k_de4, ↓k_tk4, ↓k_l5, ↓k_r5, ↓k_se5, ↓k_ic5, ↓k_de5, ↓k_tk5, ↓k_l6, ↓k_r6, ↓k_se6, ↓k_ic6, ↓k_de6, ↓k_tk6, ↓k_l7, ↓k_r7, ↓k_se7, ↓k_ic7, ↓k_de7, ↓k_tk7, ↓k_l8, ↓k_r8, ↓k_se8, ↓k_ic8, ↓k_de8, ↓k_tk8, ↓k_l9, ↓k_r9, ↓k_se9, ↓k_ic9, ↓k_de9, ↓k_tk9, ↓k_l10, ↓k_r10, ↓k_se10, ↓k_ic10, ↓k_de10, ↓k_tk10, ↓k_l11, ↓k_r11, ↓k_se11, ↓k_ic11, ↓k_de11, ↓k_tk11, ↓k_l12, ↓k_r12, ↓k_se12, ↓k_ic12, ↓k_de12, ↓k_tk12, ↓k_l13, ↓k_r13, ↓k_se13, ↓k_ic13, ↓k_de13, ↓k_tk13, ↓k_l14, ↓k_r14, ↓k_se14, ↓k_ic14, ↓k_de14, ↓k_tk14, ↓k_l15, ↓k_r15, ↓k_se15, ↓k_ic15, ↓k_de15, ↓k_tk15, ↓k_l16, ↓k_r16, ↓k_se16, ↓k_ic16, ↓k_de16, ↓k_tk16, ↓k_l17, ↓k_r17, ↓k_se17, ↓k_ic17, ↓k_de17, ↓k_tk17, ↓k_l18, ↓k_r18, ↓k_se18, ↓k_ic18, ↓k_de18, ↓k_tk18, ↓k_l19, ↓k_r19, ↓k_se19, ↓k_ic19, ↓k_de19, ↓k_tk19, ↓k_l20, ↓k_r20, ↓k_se20, ↓k_ic20, ↓k_de20, ↓k_tk20, ↓k_l21, ↓k_r21, ↓k_se21, ↓k_ic21, ↓k_de21, ↓k_tk21, ↓k_l22, ↓k_r22, ↓k_se22, ↓k_ic22, ↓k_de22, ↓k_tk22, ↓k_l23, ↓k_r23, ↓k_se23, ↓k_ic23, ↓k_de23, ↓k_tk23, ↓k_l24, ↓k_r24, ↓k_se24, ↓k_ic24, ↓k_de24, ↓k_tk24, ↓k_l25, ↓k_r25, ↓k_se25, ↓k_ic25, ↓k_de25, ↓k_tk25, ↓k_k, ↓k_kn, ↓k_kl, ↓k_kln, ↓k_il, ↓k_2, ↓k_1, ↓k_2c, ↓k_2l, ↓k_ac, ↓k_an, ↓k_cs, ↓k_cv, ↓k_fi, ↓k_fr, ↓k_ai, ↓k_az, ↓k_ar, ↓k_sai, ↓k_saz, ↓k_soa, ↓k_sof, ↓k_spf, ↓k_sx, ↓k_blk, ↓k_sset, ↓k_sdec, ↓k_sri, ↓k_srv, ↓k_srr, ↓k_nop, ↓k_add, ↓k_sub, ↓k_mul, ↓k_min, ↓k_max, ↓k_shr, ↓k_shl, ↓k_or, ↓k_ilz, ↓k_addl, ↓k_rt, ↓k_rb, ↓k_rbz, ↓k_rsi, ↓k_rsr, ↓k_rsv, ↓reduceIte, eq_self, List.length_cons, List.length_nil, List.forall_mem_cons, List.not_mem_nil, Value.category, true_and, and_true, false_and, and_false, or_true, true_or, or_false, false_or, Nat.zero_le, forall_const, implies_true, false_implies, Nat.zero_add, Nat.reduceAdd, Nat.reduceLT, Nat.reduceLeDiff, Nat.le_refl, not_true_eq_false, not_false_eq_true, r_eq, r_ne, r_lt, r_ge, r_gt, r_le, bz_ne, nn_toNat, cn_of, cn_0, cn_1, i10, Int.reduceLE, Int.reduceLT, Int.reduceEq, bz_T, bz_F, ite_self, mulc, st_bud]
/-- all bounds of a table -/
def PBN (W : Int → Int) : Prop := ∀ s x y, 0 ≤ s → s ≤ 5 → 0 ≤ x → x ≤ y → y ≤ 16 → 0 ≤ W (289 * s + 17 * x + y) ∧ W (289 * s + 17 * x + y) ≤ 1000000
/-- no more than the prices of one span is changed -/
def OnS (W W' : Int → Int) (i j : Int) : Prop := ∀ s x y, 0 ≤ s → s ≤ 5 → 0 ≤ x → x ≤ 16 → 0 ≤ y → y ≤ 16 → ¬ (x = i ∧ y = j) → W' (289 * s + 17 * x + y) = W (289 * s + 17 * x + y)
theorem gs_self (G : Nat → Int → Int) (a : Nat) (k : Int) : gs G a k (G a k) = G := by
  funext x y
  show (if x = a ∧ y = k then G a k else G x y) = G x y
  by_cases c : x = a ∧ y = k
  · rw [if_pos c, c.1, c.2]
  · rw [if_neg c]
theorem c12_betters {T : Nat → Option q_T} {nx rc rs B : Nat} {R : Nat → Nat → Option Value} {G : Nat → Int → Int} {v s i j nf : Int} {sf : Int → Int} {fi : Int → List Int} {X : Int → Int} (hM : Ly T R (B + 544) (L12 (B + 544))) (tr : TR G B v nf sf fi X) (v0 : 0 ≤ v) (v1 : v ≤ 1) (s0 : 0 ≤ s) (s1 : s ≤ 5) (i0 : 0 ≤ i) (ij : i ≤ j) (j1 : j ≤ 16) (pb : PBN (G (B + 544 + 50))) (em : ∀ s, 0 ≤ s → s ≤ 5 → i = j → 1 ≤ G (B + 544 + 50) (289 * s + 17 * j + j)) (sg : SpG nf sf fi (ftX X) (pq 1000000 (G (B + 544 + 50))) i j) (hx : ∀ p, i ≤ p → p < j → -2147483648 ≤ X p ∧ X p < 2147483648) :
    ∃ G' y, FrP G G' B ∧ PBN (G' (B + 544 + 50)) ∧ SpG nf sf fi (ftX X) (pq 1000000 (G' (B + 544 + 50))) i j ∧ (∀ s' x y', 0 ≤ s' → s' ≤ 5 → 0 ≤ x → x ≤ 16 → 0 ≤ y' → y' ≤ 16 → ¬ (s' = s ∧ x = i ∧ y' = j) → G' (B + 544 + 50) (289 * s' + 17 * x + y') = G (B + 544 + 50) (289 * s' + 17 * x + y')) ∧ ((y = 0 ∧ G' (B + 544 + 50) = G (B + 544 + 50) ∧ ∀ f, 0 ≤ f → f < nf → sf f = s → pq 1000000 (G (B + 544 + 50)) s i j ≤ rP 1000000 (pq 1000000 (G (B + 544 + 50))) (ftX X) j (fi f) i) ∨ (y = 1 ∧ G' (B + 544 + 50) (289 * s + 17 * i + j) < G (B + 544 + 50) (289 * s + 17 * i + j))) ∧
      ∀ K : Option Value → q_M → Prop, fX12_betters [.ref (B + 544), .int (zI v), .int (zI s), .int (zI i), .int (zI j)] (st T nx rc rs R G) K = K (some (.int (zI y))) (st T nx rc rs R G') := by
  obtain ⟨at', hat⟩ : ∃ z, z = 289 * s + 17 * i + j := ⟨_, rfl⟩
  have atb : 0 ≤ at' ∧ at' < 1734 := by omega
  have nf14 := tr.2.1
  have key : ∀ m : Nat, (m : Int) ≤ nf → ∃ G1 y, FrP G G1 B ∧ PBN (G1 (B + 544 + 50)) ∧ SpG nf sf fi (ftX X) (pq 1000000 (G1 (B + 544 + 50))) i j ∧ (∀ s' x y', 0 ≤ s' → s' ≤ 5 → 0 ≤ x → x ≤ 16 → 0 ≤ y' → y' ≤ 16 → ¬ (s' = s ∧ x = i ∧ y' = j) → G1 (B + 544 + 50) (289 * s' + 17 * x + y') = G (B + 544 + 50) (289 * s' + 17 * x + y')) ∧ G1 (B + 544 + 50) at' ≤ G (B + 544 + 50) at' ∧ (∀ s, 0 ≤ s → s ≤ 5 → i = j → 1 ≤ G1 (B + 544 + 50) (289 * s + 17 * j + j)) ∧ ((y = 0 ∧ G1 (B + 544 + 50) = G (B + 544 + 50) ∧ ∀ f : Int, 0 ≤ f → f < (m : Int) → sf f = s → pq 1000000 (G (B + 544 + 50)) s i j ≤ rP 1000000 (pq 1000000 (G (B + 544 + 50))) (ftX X) j (fi f) i) ∨ (y = 1 ∧ G1 (B + 544 + 50) at' < G (B + 544 + 50) at')) ∧
      ∀ (Kn : List Value → q_M → Prop) (Kr : Option Value → q_M → Prop), q_wh wcX12_betters_0 wsX12_betters_0 [.ref (B + 544), .int (zI v), .int (zI s), .int (zI i), .int (zI j), .int (zI at'), .int (zI y), .int (zI (14 * v + m))] (st T nx rc rs R G1) Kn Kr → q_wh wcX12_betters_0 wsX12_betters_0 [.ref (B + 544), .int (zI v), .int (zI s), .int (zI i), .int (zI j), .int (zI at'), .int (zI 0), .int (zI (14 * v))] (st T nx rc rs R G) Kn Kr := by
    intro m
    induction m with
    | zero =>
      intro _
      exact ⟨G, 0, fun _ _ _ => rfl, pb, sg, fun _ _ _ _ _ _ _ _ _ _ => rfl, Int.le_refl _, em, Or.inl ⟨rfl, rfl, fun f q0 q1 => by omega⟩, fun Kn Kr h => by
        rw [show 14 * v + ((0 : Nat) : Int) = 14 * v by omega] at h
        exact h⟩
    | succ m ih =>
      intro hm
      obtain ⟨G1, y, p1, p2, p3, p4, p5, p6, p7, st1⟩ := ih (by omega)
      have tr1 := TR_fr p1 tr
      obtain ⟨r1, _, r3, r4⟩ := tr1
      obtain ⟨u1, u2, u3, u4, u5⟩ := r4 m (by omega) (by omega)
      have p2a := p2 s i j s0 s1 i0 ij j1
      rw [← hat] at p2a
      obtain ⟨w, hw⟩ : ∃ w, w = G1 (B + 544 + 50) at' := ⟨_, rfl⟩
      have hw' := hw.symm
      rw [← hw] at p2a
      have qw : pq 1000000 (G1 (B + 544 + 50)) s i j = w := by rw [pq_in ⟨s0, s1⟩, ← hat, hw']
      have hz : 14 * v + (m : Int) < 14 * v + nf := by omega
      have e7 : 14 * v + ((m + 1 : Nat) : Int) = 14 * v + m + 1 := by omega
      have yb : y = 0 ∨ y = 1 := by omega
      have e1 : G1 (B + 544 + 2) v = nf := r1
      by_cases c : sf m = s
      · have hc : G1 (B + 544 + 3) (14 * v + m) = s := by rw [u1, c]
        obtain ⟨G2, a1, _, a2⟩ := c12_formPrice (T := T) (nx := nx) (rc := 0) (rs := 0) (R := R) (G := G1) (f := 14 * v + m) (i := i) (j := j) hM (fun s x y z1 z2 z3 z4 z5 => p2 s x y z1 z2 z3 z4 z5) (by omega) (by omega) i0 ij j1 u3.1 u3.2 u4 (fun p q1 q2 => by rw [r3]; exact hx p q1 q2)
        have fe : rF 1000000 (pq 1000000 (G1 (B + 544 + 50))) (ftX (G1 (B + 544 + 39))) (G1 (B + 544 + 5)) (G1 (B + 544 + 4)) j (14 * v + m) 0 i = rP 1000000 (pq 1000000 (G1 (B + 544 + 50))) (ftX X) j (fi m) i := by
          unfold rF
          rw [u5, r3]
        rw [fe] at a2
        obtain ⟨z, hz'⟩ : ∃ z, z = rP 1000000 (pq 1000000 (G1 (B + 544 + 50))) (ftX X) j (fi m) i := ⟨_, rfl⟩
        have nn : ∀ s x y, i ≤ x → x ≤ y → y ≤ j → 0 ≤ pq 1000000 (G1 (B + 544 + 50)) s x y := fun s x y q1 q2 q3 => (pq_b (by omega) p2 s (by omega) q2 (by omega)).1
        have zb : 0 ≤ z ∧ z ≤ 1000000 := by rw [hz']; exact ⟨rP_nn (by omega) nn, rP_cap (by omega)⟩
        have fne : fi m ≠ [] := by
          rw [← u5, il_c (by omega)]
          exact List.cons_ne_nil _ _
        rw [← hz'] at a2
        have g2w : G2 (B + 544 + 50) at' = w := by rw [a1 _ (by omega), hw']
        have g2p : G2 (B + 544 + 50) = G1 (B + 544 + 50) := a1 _ (by omega)
        obtain ⟨w', hw2⟩ : ∃ w', w' = min z w := ⟨_, rfl⟩
        obtain ⟨G3, e3⟩ : ∃ M, M = gs G2 (B + 544 + 50) at' w' := ⟨_, rfl⟩
        have n3 : ∀ k, ¬ k = at' → G3 (B + 544 + 50) k = G1 (B + 544 + 50) k := fun k q => by rw [e3, gs_eq, fu_ne q, g2p]
        have o3 : G3 (B + 544 + 50) at' = w' := by rw [e3, gs_same]
        have ne : ∀ s' x y', 0 ≤ s' → s' ≤ 5 → 0 ≤ x → x ≤ 16 → 0 ≤ y' → y' ≤ 16 → ¬ (s' = s ∧ x = i ∧ y' = j) → ¬ 289 * s' + 17 * x + y' = at' := fun s' x y' z1 z2 z3 z4 z5 z6 z7 q => z7 (ix_inj z3 z4 z5 z6 i0 (by omega) (by omega) j1 (by rw [← hat]; exact q))
        have fr3 : FrP G1 G3 B := fun x q1 q2 => by rw [e3, gs_ne q1, a1 x q2]
        have le : (if z < w then z else w) = w' := by
          by_cases d : z < w
          · rw [if_pos d]; omega
          · rw [if_neg d]; omega
        have pb3 : PBN (G3 (B + 544 + 50)) := fun s' x y' z1 z2 z3 z4 z5 => by
          by_cases q : 289 * s' + 17 * x + y' = at'
          · rw [q, o3]
            omega
          · rw [n3 _ q]
            exact p2 s' x y' z1 z2 z3 z4 z5
        have sg3 : SpG nf sf fi (ftX X) (pq 1000000 (G3 (B + 544 + 50))) i j := by
          have base : ∀ s' x y', i ≤ x → x ≤ y' → y' ≤ j → ¬ (s' = s ∧ x = i ∧ y' = j) → pq 1000000 (G3 (B + 544 + 50)) s' x y' = pq 1000000 (G1 (B + 544 + 50)) s' x y' := fun s' x y' z1 z2 z3 q => by
            by_cases d : 0 ≤ s' ∧ s' ≤ 5
            · rw [pq_in d, pq_in d]
              exact n3 _ (ne s' x y' d.1 d.2 (by omega) (by omega) (by omega) (by omega) q)
            · rw [pq_out d, pq_out d]
          -- the table cut to the span
          have cut : ∀ (W W' : Int → Int → Int → Int), (∀ s x y, i ≤ x → x ≤ y → y ≤ j → W' s x y = W s x y) → SpG nf sf fi (ftX X) W i j → SpG nf sf fi (ftX X) W' i j := fun W W' hW g s' q0 q1 => by
            obtain ⟨d1, d2, d3⟩ := g s' q0 q1
            have e : ∀ f, rP 1000000 W' (ftX X) j (fi f) i = rP 1000000 W (ftX X) j (fi f) i := fun f => rP_congr fun s a b z1 z2 z3 => hW s a b z1 z2 z3
            rw [hW s' i j (Int.le_refl _) ij (Int.le_refl _)]
            exact ⟨d1, d2, fun q => by
              obtain ⟨f, q2, q3, q4, q5⟩ := d3 q
              exact ⟨f, q2, q3, q4, by rw [e]; exact q5⟩⟩
          refine cut (fun s' x y' => if s' = s ∧ x = i ∧ y' = j then w' else pq 1000000 (G1 (B + 544 + 50)) s' x y') _ (fun s' x y' z1 z2 z3 => ?_) (SpG_low (Q := pq 1000000 (G1 (B + 544 + 50))) (s := s) (f := m) ij (fun s x y q => pq_out q) nn (fun s' => ?_) p3 (fun s' x y' q => if_neg q) s0 s1 (by omega) (by omega) c fne ?_)
          · show _ = if s' = s ∧ x = i ∧ y' = j then w' else pq 1000000 (G1 (B + 544 + 50)) s' x y'
            by_cases q : s' = s ∧ x = i ∧ y' = j
            · rw [if_pos q, q.1, q.2.1, q.2.2, pq_in ⟨s0, s1⟩, ← hat]
              exact o3
            · rw [if_neg q]
              exact base s' x y' z1 z2 z3 q
          · by_cases eij : i = j
            · refine Or.inl ?_
              by_cases d : 0 ≤ s' ∧ s' ≤ 5
              · rw [pq_in d]
                exact p6 s' d.1 d.2 eij
              · rw [pq_out d]
                omega
            · exact Or.inr (by omega)
          · show (if s = s ∧ i = i ∧ j = j then w' else pq 1000000 (G1 (B + 544 + 50)) s i j) = _
            rw [if_pos ⟨rfl, rfl, rfl⟩, qw, ← hz']
            exact hw2
        have em3 : ∀ s, 0 ≤ s → s ≤ 5 → i = j → 1 ≤ G3 (B + 544 + 50) (289 * s + 17 * j + j) := fun s' q0 q1 eij => by
          have := (sg3 s' q0 q1).2.1 eij
          rw [pq_in ⟨q0, q1⟩, eij] at this
          exact this
        have p5w : w ≤ G (B + 544 + 50) at' := by rw [hw]; exact p5
        by_cases d : z < w
        · refine ⟨G3, 1, FrP_tr p1 fr3, pb3, sg3, fun s' x y' z1 z2 z3 z4 z5 z6 q => by rw [n3 _ (ne s' x y' z1 z2 z3 z4 z5 z6 q)]; exact p4 s' x y' z1 z2 z3 z4 z5 z6 q, by rw [o3]; omega, em3, Or.inr ⟨rfl, by rw [o3]; omega⟩, fun Kn Kr h => st1 Kn Kr (q_backR (fun K Kf hk => ?_) h)⟩
          have ew : w' = z := by omega
          rw [e7, e3, ew] at hk
          have one : ¬ (1 : Int) = 0 := by omega
          clear pb3 sg3 em3 p3 p4 p2 st1 ih fr3 n3 ne nn u4 tr r4
          rcases yb with yy | yy
          · subst yy
            simp (disch := omega) only [↓wcX12_betters_0.eq_1, ↓wsX12_betters_0.eq_1, ↓(k_cs2 dX12_least), ↓(k_cv3 dX12_formPrice (t12 hM)), ↓k_mk, ↓k_sq, ↓k_sk, ↓k_bk, ↓k_if, ↓k_te, ↓k_cm, ↓k_cz, ↓k_an2, ↓k_or2, ↓k_no, ↓k_ci, ↓k_l0, ↓k_r0, ↓k_se0, ↓k_ic0, ↓k_l1, ↓k_r1, ↓k_se1, ↓k_ic1, ↓k_de1, ↓k_tk1, ↓k_l2, ↓k_r2, ↓k_se2, ↓k_ic2, ↓k_de2, ↓k_tk2, ↓k_l3, ↓k_r3, ↓k_se3, ↓k_ic3, ↓k_de3, ↓k_tk3, ↓k_l4, ↓k_r4, ↓k_se4, ↓k_ic4, ↓k_de4, ↓k_tk4, ↓k_l5, ↓k_r5, ↓k_se5, ↓k_ic5, ↓k_de5, ↓k_tk5, ↓k_l6, ↓k_r6, ↓k_se6, ↓k_ic6, ↓k_de6, ↓k_tk6, ↓k_l7, ↓k_r7, ↓k_se7, ↓k_ic7, ↓k_de7, ↓k_tk7, ↓k_l8, ↓k_r8, ↓k_se8, ↓k_ic8, ↓k_de8, ↓k_tk8, ↓k_l9, ↓k_r9, ↓k_se9, ↓k_ic9, ↓k_de9, ↓k_tk9, ↓k_l10, ↓k_r10, ↓k_se10, ↓k_ic10, ↓k_de10, ↓k_tk10, ↓k_l11, ↓k_r11, ↓k_se11, ↓k_ic11, ↓k_de11, ↓k_tk11, ↓k_l12, ↓k_r12, ↓k_se12, ↓k_ic12, ↓k_de12, ↓k_tk12, ↓k_l13, ↓k_r13, ↓k_se13, ↓k_ic13, ↓k_de13, ↓k_tk13, ↓k_l14, ↓k_r14, ↓k_se14, ↓k_ic14, ↓k_de14, ↓k_tk14, ↓k_l15, ↓k_r15, ↓k_se15, ↓k_ic15, ↓k_de15, ↓k_tk15, ↓k_l16, ↓k_r16, ↓k_se16, ↓k_ic16, ↓k_de16, ↓k_tk16, ↓k_l17, ↓k_r17, ↓k_se17, ↓k_ic17, ↓k_de17, ↓k_tk17, ↓k_l18, ↓k_r18, ↓k_se18, ↓k_ic18, ↓k_de18, ↓k_tk18, ↓k_l19, ↓k_r19, ↓k_se19, ↓k_ic19, ↓k_de19, ↓k_tk19, ↓k_l20, ↓k_r20, ↓k_se20, ↓k_ic20, ↓k_de20, ↓k_tk20, ↓k_l21, ↓k_r21, ↓k_se21, ↓k_ic21, ↓k_de21, ↓k_tk21, ↓k_l22, ↓k_r22, ↓k_se22, ↓k_ic22, ↓k_de22, ↓k_tk22, ↓k_l23, ↓k_r23, ↓k_se23, ↓k_ic23, ↓k_de23, ↓k_tk23, ↓k_l24, ↓k_r24, ↓k_se24, ↓k_ic24, ↓k_de24, ↓k_tk24, ↓k_l25, ↓k_r25, ↓k_se25, ↓k_ic25, ↓k_de25, ↓k_tk25, ↓k_k, ↓k_kn, ↓k_kl, ↓k_kln, ↓k_il, ↓k_2, ↓k_1, ↓k_2c, ↓k_2l, ↓k_ac, ↓k_an, ↓k_cs, ↓k_cv, ↓k_fi, ↓k_fr, ↓k_ai, ↓k_az, ↓k_ar, ↓k_sai, ↓k_saz, ↓k_soa, ↓k_sof, ↓k_spf, ↓k_sx, ↓k_blk, ↓k_sset, ↓k_sdec, ↓k_sri, ↓k_srv, ↓k_srr, ↓k_nop, ↓k_add, ↓k_sub, ↓k_mul, ↓k_min, ↓k_max, ↓k_shr, ↓k_shl, ↓k_or, ↓k_ilz, ↓k_addl, ↓k_rt, ↓k_rb, ↓k_rbz, ↓k_rsi, ↓k_rsr, ↓k_rsv, ↓reduceIte, e1, hz, hc, eq_self, ↓(k_cv3 dX12_formPrice (t12 hM)), ↓a2, g2w, d, ↓c12_least, le, ↓xr12_1 hM, ↓xa12_1 hM, ↓xs12_1 hM, ↓xo12_1 hM, ↓xc12_1 hM, ↓xd12_1 hM, ↓xr12_2 hM, ↓xa12_2 hM, ↓xs12_2 hM, ↓xo12_2 hM, ↓xc12_2 hM, ↓xd12_2 hM, ↓xr12_60 hM, ↓xa12_60 hM, ↓xs12_60 hM, ↓xo12_60 hM, ↓xc12_60 hM, ↓xd12_60 hM, List.length_cons, List.length_nil, List.forall_mem_cons, List.not_mem_nil, Value.category, true_and, and_true, false_and, and_false, or_true, true_or, or_false, false_or, Nat.zero_le, forall_const, implies_true, false_implies, Nat.zero_add, Nat.reduceAdd, Nat.reduceLT, Nat.reduceLeDiff, Nat.le_refl, not_true_eq_false, not_false_eq_true, r_eq, r_ne, r_lt, r_ge, r_gt, r_le, bz_ne, nn_toNat, cn_of, cn_0, cn_1, i10, Int.reduceLE, Int.reduceLT, Int.reduceEq, bz_T, bz_F, ite_self, mulc, st_bud]
            exact hk
          · subst yy
            simp (disch := omega) only [↓wcX12_betters_0.eq_1, ↓wsX12_betters_0.eq_1, ↓(k_cs2 dX12_least), ↓(k_cv3 dX12_formPrice (t12 hM)), ↓k_mk, ↓k_sq, ↓k_sk, ↓k_bk, ↓k_if, ↓k_te, ↓k_cm, ↓k_cz, ↓k_an2, ↓k_or2, ↓k_no, ↓k_ci, ↓k_l0, ↓k_r0, ↓k_se0, ↓k_ic0, ↓k_l1, ↓k_r1, ↓k_se1, ↓k_ic1, ↓k_de1, ↓k_tk1, ↓k_l2, ↓k_r2, ↓k_se2, ↓k_ic2, ↓k_de2, ↓k_tk2, ↓k_l3, ↓k_r3, ↓k_se3, ↓k_ic3, ↓k_de3, ↓k_tk3, ↓k_l4, ↓k_r4, ↓k_se4, ↓k_ic4, ↓k_de4, ↓k_tk4, ↓k_l5, ↓k_r5, ↓k_se5, ↓k_ic5, ↓k_de5, ↓k_tk5, ↓k_l6, ↓k_r6, ↓k_se6, ↓k_ic6, ↓k_de6, ↓k_tk6, ↓k_l7, ↓k_r7, ↓k_se7, ↓k_ic7, ↓k_de7, ↓k_tk7, ↓k_l8, ↓k_r8, ↓k_se8, ↓k_ic8, ↓k_de8, ↓k_tk8, ↓k_l9, ↓k_r9, ↓k_se9, ↓k_ic9, ↓k_de9, ↓k_tk9, ↓k_l10, ↓k_r10, ↓k_se10, ↓k_ic10, ↓k_de10, ↓k_tk10, ↓k_l11, ↓k_r11, ↓k_se11, ↓k_ic11, ↓k_de11, ↓k_tk11, ↓k_l12, ↓k_r12, ↓k_se12, ↓k_ic12, ↓k_de12, ↓k_tk12, ↓k_l13, ↓k_r13, ↓k_se13, ↓k_ic13, ↓k_de13, ↓k_tk13, ↓k_l14, ↓k_r14, ↓k_se14, ↓k_ic14, ↓k_de14, ↓k_tk14, ↓k_l15, ↓k_r15, ↓k_se15, ↓k_ic15, ↓k_de15, ↓k_tk15, ↓k_l16, ↓k_r16, ↓k_se16, ↓k_ic16, ↓k_de16, ↓k_tk16, ↓k_l17, ↓k_r17, ↓k_se17, ↓k_ic17, ↓k_de17, ↓k_tk17, ↓k_l18, ↓k_r18, ↓k_se18, ↓k_ic18, ↓k_de18, ↓k_tk18, ↓k_l19, ↓k_r19, ↓k_se19, ↓k_ic19, ↓k_de19, ↓k_tk19, ↓k_l20, ↓k_r20, ↓k_se20, ↓k_ic20, ↓k_de20, ↓k_tk20, ↓k_l21, ↓k_r21, ↓k_se21, ↓k_ic21, ↓k_de21, ↓k_tk21, ↓k_l22, ↓k_r22, ↓k_se22, ↓k_ic22, ↓k_de22, ↓k_tk22, ↓k_l23, ↓k_r23, ↓k_se23, ↓k_ic23, ↓k_de23, ↓k_tk23, ↓k_l24, ↓k_r24, ↓k_se24, ↓k_ic24, ↓k_de24, ↓k_tk24, ↓k_l25, ↓k_r25, ↓k_se25, ↓k_ic25, ↓k_de25, ↓k_tk25, ↓k_k, ↓k_kn, ↓k_kl, ↓k_kln, ↓k_il, ↓k_2, ↓k_1, ↓k_2c, ↓k_2l, ↓k_ac, ↓k_an, ↓k_cs, ↓k_cv, ↓k_fi, ↓k_fr, ↓k_ai, ↓k_az, ↓k_ar, ↓k_sai, ↓k_saz, ↓k_soa, ↓k_sof, ↓k_spf, ↓k_sx, ↓k_blk, ↓k_sset, ↓k_sdec, ↓k_sri, ↓k_srv, ↓k_srr, ↓k_nop, ↓k_add, ↓k_sub, ↓k_mul, ↓k_min, ↓k_max, ↓k_shr, ↓k_shl, ↓k_or, ↓k_ilz, ↓k_addl, ↓k_rt, ↓k_rb, ↓k_rbz, ↓k_rsi, ↓k_rsr, ↓k_rsv, ↓reduceIte, e1, hz, hc, eq_self, ↓(k_cv3 dX12_formPrice (t12 hM)), ↓a2, g2w, d, one, ↓c12_least, le, ↓xr12_1 hM, ↓xa12_1 hM, ↓xs12_1 hM, ↓xo12_1 hM, ↓xc12_1 hM, ↓xd12_1 hM, ↓xr12_2 hM, ↓xa12_2 hM, ↓xs12_2 hM, ↓xo12_2 hM, ↓xc12_2 hM, ↓xd12_2 hM, ↓xr12_60 hM, ↓xa12_60 hM, ↓xs12_60 hM, ↓xo12_60 hM, ↓xc12_60 hM, ↓xd12_60 hM, List.length_cons, List.length_nil, List.forall_mem_cons, List.not_mem_nil, Value.category, true_and, and_true, false_and, and_false, or_true, true_or, or_false, false_or, Nat.zero_le, forall_const, implies_true, false_implies, Nat.zero_add, Nat.reduceAdd, Nat.reduceLT, Nat.reduceLeDiff, Nat.le_refl, not_true_eq_false, not_false_eq_true, r_eq, r_ne, r_lt, r_ge, r_gt, r_le, bz_ne, nn_toNat, cn_of, cn_0, cn_1, i10, Int.reduceLE, Int.reduceLT, Int.reduceEq, bz_T, bz_F, ite_self, mulc, st_bud]
            exact hk
        · have ew : w' = w := by omega
          have same : G3 (B + 544 + 50) = G1 (B + 544 + 50) := by
            funext k
            by_cases q : k = at'
            · rw [q, o3, ew, hw']
            · exact n3 k q
          refine ⟨G3, y, FrP_tr p1 fr3, pb3, sg3, fun s' x y' z1 z2 z3 z4 z5 z6 q => by rw [n3 _ (ne s' x y' z1 z2 z3 z4 z5 z6 q)]; exact p4 s' x y' z1 z2 z3 z4 z5 z6 q, by rw [o3]; omega, em3, ?_, fun Kn Kr h => st1 Kn Kr (q_backR (fun K Kf hk => ?_) h)⟩
          · rcases p7 with ⟨q1, q2, q3⟩ | ⟨q1, q2⟩
            · refine Or.inl ⟨q1, by rw [same]; exact q2, fun f f0 f1 fs => ?_⟩
              by_cases q : f = m
              · subst q
                rw [q2] at qw hz'
                rw [qw, ← hz']
                omega
              · exact q3 f f0 (by omega) fs
            · exact Or.inr ⟨q1, by rw [same]; exact q2⟩
          · rw [e7, e3, ew] at hk
            have one : ¬ (1 : Int) = 0 := by omega
            clear pb3 sg3 em3 p3 p4 p2 st1 ih fr3 n3 ne nn u4 tr r4 p7
            rcases yb with yy | yy
            · subst yy
              simp (disch := omega) only [↓wcX12_betters_0.eq_1, ↓wsX12_betters_0.eq_1, ↓(k_cs2 dX12_least), ↓(k_cv3 dX12_formPrice (t12 hM)), ↓k_mk, ↓k_sq, ↓k_sk, ↓k_bk, ↓k_if, ↓k_te, ↓k_cm, ↓k_cz, ↓k_an2, ↓k_or2, ↓k_no, ↓k_ci, ↓k_l0, ↓k_r0, ↓k_se0, ↓k_ic0, ↓k_l1, ↓k_r1, ↓k_se1, ↓k_ic1, ↓k_de1, ↓k_tk1, ↓k_l2, ↓k_r2, ↓k_se2, ↓k_ic2, ↓k_de2, ↓k_tk2, ↓k_l3, ↓k_r3, ↓k_se3, ↓k_ic3, ↓k_de3, ↓k_tk3, ↓k_l4, ↓k_r4, ↓k_se4, ↓k_ic4, ↓k_de4, ↓k_tk4, ↓k_l5, ↓k_r5, ↓k_se5, ↓k_ic5, ↓k_de5, ↓k_tk5, ↓k_l6, ↓k_r6, ↓k_se6, ↓k_ic6, ↓k_de6, ↓k_tk6, ↓k_l7, ↓k_r7, ↓k_se7, ↓k_ic7, ↓k_de7, ↓k_tk7, ↓k_l8, ↓k_r8, ↓k_se8, ↓k_ic8, ↓k_de8, ↓k_tk8, ↓k_l9, ↓k_r9, ↓k_se9, ↓k_ic9, ↓k_de9, ↓k_tk9, ↓k_l10, ↓k_r10, ↓k_se10, ↓k_ic10, ↓k_de10, ↓k_tk10, ↓k_l11, ↓k_r11, ↓k_se11, ↓k_ic11, ↓k_de11, ↓k_tk11, ↓k_l12, ↓k_r12, ↓k_se12, ↓k_ic12, ↓k_de12, ↓k_tk12, ↓k_l13, ↓k_r13, ↓k_se13, ↓k_ic13, ↓k_de13, ↓k_tk13, ↓k_l14, ↓k_r14, ↓k_se14, ↓k_ic14, ↓k_de14, ↓k_tk14, ↓k_l15, ↓k_r15, ↓k_se15, ↓k_ic15, ↓k_de15, ↓k_tk15, ↓k_l16, ↓k_r16, ↓k_se16, ↓k_ic16, ↓k_de16, ↓k_tk16, ↓k_l17, ↓k_r17, ↓k_se17, ↓k_ic17, ↓k_de17, ↓k_tk17, ↓k_l18, ↓k_r18, ↓k_se18, ↓k_ic18, ↓k_de18, ↓k_tk18, ↓k_l19, ↓k_r19, ↓k_se19, ↓k_ic19, ↓k_de19, ↓k_tk19, ↓k_l20, ↓k_r20, ↓k_se20, ↓k_ic20, ↓k_de20, ↓k_tk20, ↓k_l21, ↓k_r21, ↓k_se21, ↓k_ic21, ↓k_de21, ↓k_tk21, ↓k_l22, ↓k_r22, ↓k_se22, ↓k_ic22, ↓k_de22, ↓k_tk22, ↓k_l23, ↓k_r23, ↓k_se23, ↓k_ic23, ↓k_de23, ↓k_tk23, ↓k_l24, ↓k_r24, ↓k_se24, ↓k_ic24, ↓k_de24, ↓k_tk24, ↓k_l25, ↓k_r25, ↓k_se25, ↓k_ic25, ↓k_de25, ↓k_tk25, ↓k_k, ↓k_kn, ↓k_kl, ↓k_kln, ↓k_il, ↓k_2, ↓k_1, ↓k_2c, ↓k_2l, ↓k_ac, ↓k_an, ↓k_cs, ↓k_cv, ↓k_fi, ↓k_fr, ↓k_ai, ↓k_az, ↓k_ar, ↓k_sai, ↓k_saz, ↓k_soa, ↓k_sof, ↓k_spf, ↓k_sx, ↓k_blk, ↓k_sset, ↓k_sdec, ↓k_sri, ↓k_srv, ↓k_srr, ↓k_nop, ↓k_add, ↓k_sub, ↓k_mul, ↓k_min, ↓k_max, ↓k_shr, ↓k_shl, ↓k_or, ↓k_ilz, ↓k_addl, ↓k_rt, ↓k_rb, ↓k_rbz, ↓k_rsi, ↓k_rsr, ↓k_rsv, ↓reduceIte, e1, hz, hc, eq_self, ↓(k_cv3 dX12_formPrice (t12 hM)), ↓a2, g2w, d, ↓c12_least, le, ↓xr12_1 hM, ↓xa12_1 hM, ↓xs12_1 hM, ↓xo12_1 hM, ↓xc12_1 hM, ↓xd12_1 hM, ↓xr12_2 hM, ↓xa12_2 hM, ↓xs12_2 hM, ↓xo12_2 hM, ↓xc12_2 hM, ↓xd12_2 hM, ↓xr12_60 hM, ↓xa12_60 hM, ↓xs12_60 hM, ↓xo12_60 hM, ↓xc12_60 hM, ↓xd12_60 hM, List.length_cons, List.length_nil, List.forall_mem_cons, List.not_mem_nil, Value.category, true_and, and_true, false_and, and_false, or_true, true_or, or_false, false_or, Nat.zero_le, forall_const, implies_true, false_implies, Nat.zero_add, Nat.reduceAdd, Nat.reduceLT, Nat.reduceLeDiff, Nat.le_refl, not_true_eq_false, not_false_eq_true, r_eq, r_ne, r_lt, r_ge, r_gt, r_le, bz_ne, nn_toNat, cn_of, cn_0, cn_1, i10, Int.reduceLE, Int.reduceLT, Int.reduceEq, bz_T, bz_F, ite_self, mulc, st_bud]
              exact hk
            · subst yy
              simp (disch := omega) only [↓wcX12_betters_0.eq_1, ↓wsX12_betters_0.eq_1, ↓(k_cs2 dX12_least), ↓(k_cv3 dX12_formPrice (t12 hM)), ↓k_mk, ↓k_sq, ↓k_sk, ↓k_bk, ↓k_if, ↓k_te, ↓k_cm, ↓k_cz, ↓k_an2, ↓k_or2, ↓k_no, ↓k_ci, ↓k_l0, ↓k_r0, ↓k_se0, ↓k_ic0, ↓k_l1, ↓k_r1, ↓k_se1, ↓k_ic1, ↓k_de1, ↓k_tk1, ↓k_l2, ↓k_r2, ↓k_se2, ↓k_ic2, ↓k_de2, ↓k_tk2, ↓k_l3, ↓k_r3, ↓k_se3, ↓k_ic3, ↓k_de3, ↓k_tk3, ↓k_l4, ↓k_r4, ↓k_se4, ↓k_ic4, ↓k_de4, ↓k_tk4, ↓k_l5, ↓k_r5, ↓k_se5, ↓k_ic5, ↓k_de5, ↓k_tk5, ↓k_l6, ↓k_r6, ↓k_se6, ↓k_ic6, ↓k_de6, ↓k_tk6, ↓k_l7, ↓k_r7, ↓k_se7, ↓k_ic7, ↓k_de7, ↓k_tk7, ↓k_l8, ↓k_r8, ↓k_se8, ↓k_ic8, ↓k_de8, ↓k_tk8, ↓k_l9, ↓k_r9, ↓k_se9, ↓k_ic9, ↓k_de9, ↓k_tk9, ↓k_l10, ↓k_r10, ↓k_se10, ↓k_ic10, ↓k_de10, ↓k_tk10, ↓k_l11, ↓k_r11, ↓k_se11, ↓k_ic11, ↓k_de11, ↓k_tk11, ↓k_l12, ↓k_r12, ↓k_se12, ↓k_ic12, ↓k_de12, ↓k_tk12, ↓k_l13, ↓k_r13, ↓k_se13, ↓k_ic13, ↓k_de13, ↓k_tk13, ↓k_l14, ↓k_r14, ↓k_se14, ↓k_ic14, ↓k_de14, ↓k_tk14, ↓k_l15, ↓k_r15, ↓k_se15, ↓k_ic15, ↓k_de15, ↓k_tk15, ↓k_l16, ↓k_r16, ↓k_se16, ↓k_ic16, ↓k_de16, ↓k_tk16, ↓k_l17, ↓k_r17, ↓k_se17, ↓k_ic17, ↓k_de17, ↓k_tk17, ↓k_l18, ↓k_r18, ↓k_se18, ↓k_ic18, ↓k_de18, ↓k_tk18, ↓k_l19, ↓k_r19, ↓k_se19, ↓k_ic19, ↓k_de19, ↓k_tk19, ↓k_l20, ↓k_r20, ↓k_se20, ↓k_ic20, ↓k_de20, ↓k_tk20, ↓k_l21, ↓k_r21, ↓k_se21, ↓k_ic21, ↓k_de21, ↓k_tk21, ↓k_l22, ↓k_r22, ↓k_se22, ↓k_ic22, ↓k_de22, ↓k_tk22, ↓k_l23, ↓k_r23, ↓k_se23, ↓k_ic23, ↓k_de23, ↓k_tk23, ↓k_l24, ↓k_r24, ↓k_se24, ↓k_ic24, ↓k_de24, ↓k_tk24, ↓k_l25, ↓k_r25, ↓k_se25, ↓k_ic25, ↓k_de25, ↓k_tk25, ↓k_k, ↓k_kn, ↓k_kl, ↓k_kln, ↓k_il, ↓k_2, ↓k_1, ↓k_2c, ↓k_2l, ↓k_ac, ↓k_an, ↓k_cs, ↓k_cv, ↓k_fi, ↓k_fr, ↓k_ai, ↓k_az, ↓k_ar, ↓k_sai, ↓k_saz, ↓k_soa, ↓k_sof, ↓k_spf, ↓k_sx, ↓k_blk, ↓k_sset, ↓k_sdec, ↓k_sri, ↓k_srv, ↓k_srr, ↓k_nop, ↓k_add, ↓k_sub, ↓k_mul, ↓k_min, ↓k_max, ↓k_shr, ↓k_shl, ↓k_or, ↓k_ilz, ↓k_addl, ↓k_rt, ↓k_rb, ↓k_rbz, ↓k_rsi, ↓k_rsr, ↓k_rsv, ↓reduceIte, e1, hz, hc, eq_self, ↓(k_cv3 dX12_formPrice (t12 hM)), ↓a2, g2w, d, one, ↓c12_least, le, ↓xr12_1 hM, ↓xa12_1 hM, ↓xs12_1 hM, ↓xo12_1 hM, ↓xc12_1 hM, ↓xd12_1 hM, ↓xr12_2 hM, ↓xa12_2 hM, ↓xs12_2 hM, ↓xo12_2 hM, ↓xc12_2 hM, ↓xd12_2 hM, ↓xr12_60 hM, ↓xa12_60 hM, ↓xs12_60 hM, ↓xo12_60 hM, ↓xc12_60 hM, ↓xd12_60 hM, List.length_cons, List.length_nil, List.forall_mem_cons, List.not_mem_nil, Value.category, true_and, and_true, false_and, and_false, or_true, true_or, or_false, false_or, Nat.zero_le, forall_const, implies_true, false_implies, Nat.zero_add, Nat.reduceAdd, Nat.reduceLT, Nat.reduceLeDiff, Nat.le_refl, not_true_eq_false, not_false_eq_true, r_eq, r_ne, r_lt, r_ge, r_gt, r_le, bz_ne, nn_toNat, cn_of, cn_0, cn_1, i10, Int.reduceLE, Int.reduceLT, Int.reduceEq, bz_T, bz_F, ite_self, mulc, st_bud]
              exact hk
      · have hc : ¬ G1 (B + 544 + 3) (14 * v + m) = s := by rw [u1]; exact c
        have d : ¬ (1000000 : Int) < w := by omega
        have sf' : gs G1 (B + 544 + 50) at' w = G1 := by rw [← hw']; exact gs_self _ _ _
        have le : (if (1000000 : Int) < w then (1000000 : Int) else w) = w := if_neg d
        refine ⟨G1, y, p1, p2, p3, p4, p5, p6, ?_, fun Kn Kr h => st1 Kn Kr (q_backR (fun K Kf hk => ?_) h)⟩
        · rcases p7 with ⟨q1, q2, q3⟩ | q
          · refine Or.inl ⟨q1, q2, fun f f0 f1 fs => ?_⟩
            by_cases q : f = m
            · subst q
              exact absurd fs c
            · exact q3 f f0 (by omega) fs
          · exact Or.inr q
        · rw [e7] at hk
          have one : ¬ (1 : Int) = 0 := by omega
          clear p3 p4 p2 st1 ih u4 tr r4 p7
          rcases yb with yy | yy
          · subst yy
            simp (disch := omega) only [↓wcX12_betters_0.eq_1, ↓wsX12_betters_0.eq_1, ↓(k_cs2 dX12_least), ↓(k_cv3 dX12_formPrice (t12 hM)), ↓k_mk, ↓k_sq, ↓k_sk, ↓k_bk, ↓k_if, ↓k_te, ↓k_cm, ↓k_cz, ↓k_an2, ↓k_or2, ↓k_no, ↓k_ci, ↓k_l0, ↓k_r0, ↓k_se0, ↓k_ic0, ↓k_l1, ↓k_r1, ↓k_se1, ↓k_ic1, ↓k_de1, ↓k_tk1, ↓k_l2, ↓k_r2, ↓k_se2, ↓k_ic2, ↓k_de2, ↓k_tk2, ↓k_l3, ↓k_r3, ↓k_se3, ↓k_ic3, ↓k_de3, ↓k_tk3, ↓k_l4, ↓k_r4, ↓k_se4, ↓k_ic4, ↓k_de4, ↓k_tk4, ↓k_l5, ↓k_r5, ↓k_se5, ↓k_ic5, ↓k_de5, ↓k_tk5, ↓k_l6, ↓k_r6, ↓k_se6, ↓k_ic6, ↓k_de6, ↓k_tk6, ↓k_l7, ↓k_r7, ↓k_se7, ↓k_ic7, ↓k_de7, ↓k_tk7, ↓k_l8, ↓k_r8, ↓k_se8, ↓k_ic8, ↓k_de8, ↓k_tk8, ↓k_l9, ↓k_r9, ↓k_se9, ↓k_ic9, ↓k_de9, ↓k_tk9, ↓k_l10, ↓k_r10, ↓k_se10, ↓k_ic10, ↓k_de10, ↓k_tk10, ↓k_l11, ↓k_r11, ↓k_se11, ↓k_ic11, ↓k_de11, ↓k_tk11, ↓k_l12, ↓k_r12, ↓k_se12, ↓k_ic12, ↓k_de12, ↓k_tk12, ↓k_l13, ↓k_r13, ↓k_se13, ↓k_ic13, ↓k_de13, ↓k_tk13, ↓k_l14, ↓k_r14, ↓k_se14, ↓k_ic14, ↓k_de14, ↓k_tk14, ↓k_l15, ↓k_r15, ↓k_se15, ↓k_ic15, ↓k_de15, ↓k_tk15, ↓k_l16, ↓k_r16, ↓k_se16, ↓k_ic16, ↓k_de16, ↓k_tk16, ↓k_l17, ↓k_r17, ↓k_se17, ↓k_ic17, ↓k_de17, ↓k_tk17, ↓k_l18, ↓k_r18, ↓k_se18, ↓k_ic18, ↓k_de18, ↓k_tk18, ↓k_l19, ↓k_r19, ↓k_se19, ↓k_ic19, ↓k_de19, ↓k_tk19, ↓k_l20, ↓k_r20, ↓k_se20, ↓k_ic20, ↓k_de20, ↓k_tk20, ↓k_l21, ↓k_r21, ↓k_se21, ↓k_ic21, ↓k_de21, ↓k_tk21, ↓k_l22, ↓k_r22, ↓k_se22, ↓k_ic22, ↓k_de22, ↓k_tk22, ↓k_l23, ↓k_r23, ↓k_se23, ↓k_ic23, ↓k_de23, ↓k_tk23, ↓k_l24, ↓k_r24, ↓k_se24, ↓k_ic24, ↓k_de24, ↓k_tk24, ↓k_l25, ↓k_r25, ↓k_se25, ↓k_ic25, ↓k_de25, ↓k_tk25, ↓k_k, ↓k_kn, ↓k_kl, ↓k_kln, ↓k_il, ↓k_2, ↓k_1, ↓k_2c, ↓k_2l, ↓k_ac, ↓k_an, ↓k_cs, ↓k_cv, ↓k_fi, ↓k_fr, ↓k_ai, ↓k_az, ↓k_ar, ↓k_sai, ↓k_saz, ↓k_soa, ↓k_sof, ↓k_spf, ↓k_sx, ↓k_blk, ↓k_sset, ↓k_sdec, ↓k_sri, ↓k_srv, ↓k_srr, ↓k_nop, ↓k_add, ↓k_sub, ↓k_mul, ↓k_min, ↓k_max, ↓k_shr, ↓k_shl, ↓k_or, ↓k_ilz, ↓k_addl, ↓k_rt, ↓k_rb, ↓k_rbz, ↓k_rsi, ↓k_rsr, ↓k_rsv, ↓reduceIte, e1, hz, hc, eq_self, hw', d, ↓c12_least, le, sf', ↓xr12_1 hM, ↓xa12_1 hM, ↓xs12_1 hM, ↓xo12_1 hM, ↓xc12_1 hM, ↓xd12_1 hM, ↓xr12_2 hM, ↓xa12_2 hM, ↓xs12_2 hM, ↓xo12_2 hM, ↓xc12_2 hM, ↓xd12_2 hM, ↓xr12_60 hM, ↓xa12_60 hM, ↓xs12_60 hM, ↓xo12_60 hM, ↓xc12_60 hM, ↓xd12_60 hM, List.length_cons, List.length_nil, List.forall_mem_cons, List.not_mem_nil, Value.category, true_and, and_true, false_and, and_false, or_true, true_or, or_false, false_or, Nat.zero_le, forall_const, implies_true, false_implies, Nat.zero_add, Nat.reduceAdd, Nat.reduceLT, Nat.reduceLeDiff, Nat.le_refl, not_true_eq_false, not_false_eq_true, r_eq, r_ne, r_lt, r_ge, r_gt, r_le, bz_ne, nn_toNat, cn_of, cn_0, cn_1, i10, Int.reduceLE, Int.reduceLT, Int.reduceEq, bz_T, bz_F, ite_self, mulc, st_bud]
            exact hk
          · subst yy
            simp (disch := omega) only [↓wcX12_betters_0.eq_1, ↓wsX12_betters_0.eq_1, ↓(k_cs2 dX12_least), ↓(k_cv3 dX12_formPrice (t12 hM)), ↓k_mk, ↓k_sq, ↓k_sk, ↓k_bk, ↓k_if, ↓k_te, ↓k_cm, ↓k_cz, ↓k_an2, ↓k_or2, ↓k_no, ↓k_ci, ↓k_l0, ↓k_r0, ↓k_se0, ↓k_ic0, ↓k_l1, ↓k_r1, ↓k_se1, ↓k_ic1, ↓k_de1, ↓k_tk1, ↓k_l2, ↓k_r2, ↓k_se2, ↓k_ic2, ↓k_de2, ↓k_tk2, ↓k_l3, ↓k_r3, ↓k_se3, ↓k_ic3, ↓k_de3, ↓k_tk3, ↓k_l4, ↓k_r4, ↓k_se4, ↓k_ic4, ↓k_de4, ↓k_tk4, ↓k_l5, ↓k_r5, ↓k_se5, ↓k_ic5, ↓k_de5, ↓k_tk5, ↓k_l6, ↓k_r6, ↓k_se6, ↓k_ic6, ↓k_de6, ↓k_tk6, ↓k_l7, ↓k_r7, ↓k_se7, ↓k_ic7, ↓k_de7, ↓k_tk7, ↓k_l8, ↓k_r8, ↓k_se8, ↓k_ic8, ↓k_de8, ↓k_tk8, ↓k_l9, ↓k_r9, ↓k_se9, ↓k_ic9, ↓k_de9, ↓k_tk9, ↓k_l10, ↓k_r10, ↓k_se10, ↓k_ic10, ↓k_de10, ↓k_tk10, ↓k_l11, ↓k_r11, ↓k_se11, ↓k_ic11, ↓k_de11, ↓k_tk11, ↓k_l12, ↓k_r12, ↓k_se12, ↓k_ic12, ↓k_de12, ↓k_tk12, ↓k_l13, ↓k_r13, ↓k_se13, ↓k_ic13, ↓k_de13, ↓k_tk13, ↓k_l14, ↓k_r14, ↓k_se14, ↓k_ic14, ↓k_de14, ↓k_tk14, ↓k_l15, ↓k_r15, ↓k_se15, ↓k_ic15, ↓k_de15, ↓k_tk15, ↓k_l16, ↓k_r16, ↓k_se16, ↓k_ic16, ↓k_de16, ↓k_tk16, ↓k_l17, ↓k_r17, ↓k_se17, ↓k_ic17, ↓k_de17, ↓k_tk17, ↓k_l18, ↓k_r18, ↓k_se18, ↓k_ic18, ↓k_de18, ↓k_tk18, ↓k_l19, ↓k_r19, ↓k_se19, ↓k_ic19, ↓k_de19, ↓k_tk19, ↓k_l20, ↓k_r20, ↓k_se20, ↓k_ic20, ↓k_de20, ↓k_tk20, ↓k_l21, ↓k_r21, ↓k_se21, ↓k_ic21, ↓k_de21, ↓k_tk21, ↓k_l22, ↓k_r22, ↓k_se22, ↓k_ic22, ↓k_de22, ↓k_tk22, ↓k_l23, ↓k_r23, ↓k_se23, ↓k_ic23, ↓k_de23, ↓k_tk23, ↓k_l24, ↓k_r24, ↓k_se24, ↓k_ic24, ↓k_de24, ↓k_tk24, ↓k_l25, ↓k_r25, ↓k_se25, ↓k_ic25, ↓k_de25, ↓k_tk25, ↓k_k, ↓k_kn, ↓k_kl, ↓k_kln, ↓k_il, ↓k_2, ↓k_1, ↓k_2c, ↓k_2l, ↓k_ac, ↓k_an, ↓k_cs, ↓k_cv, ↓k_fi, ↓k_fr, ↓k_ai, ↓k_az, ↓k_ar, ↓k_sai, ↓k_saz, ↓k_soa, ↓k_sof, ↓k_spf, ↓k_sx, ↓k_blk, ↓k_sset, ↓k_sdec, ↓k_sri, ↓k_srv, ↓k_srr, ↓k_nop, ↓k_add, ↓k_sub, ↓k_mul, ↓k_min, ↓k_max, ↓k_shr, ↓k_shl, ↓k_or, ↓k_ilz, ↓k_addl, ↓k_rt, ↓k_rb, ↓k_rbz, ↓k_rsi, ↓k_rsr, ↓k_rsv, ↓reduceIte, e1, hz, hc, eq_self, hw', d, one, ↓c12_least, le, sf', ↓xr12_1 hM, ↓xa12_1 hM, ↓xs12_1 hM, ↓xo12_1 hM, ↓xc12_1 hM, ↓xd12_1 hM, ↓xr12_2 hM, ↓xa12_2 hM, ↓xs12_2 hM, ↓xo12_2 hM, ↓xc12_2 hM, ↓xd12_2 hM, ↓xr12_60 hM, ↓xa12_60 hM, ↓xs12_60 hM, ↓xo12_60 hM, ↓xc12_60 hM, ↓xd12_60 hM, List.length_cons, List.length_nil, List.forall_mem_cons, List.not_mem_nil, Value.category, true_and, and_true, false_and, and_false, or_true, true_or, or_false, false_or, Nat.zero_le, forall_const, implies_true, false_implies, Nat.zero_add, Nat.reduceAdd, Nat.reduceLT, Nat.reduceLeDiff, Nat.le_refl, not_true_eq_false, not_false_eq_true, r_eq, r_ne, r_lt, r_ge, r_gt, r_le, bz_ne, nn_toNat, cn_of, cn_0, cn_1, i10, Int.reduceLE, Int.reduceLT, Int.reduceEq, bz_T, bz_F, ite_self, mulc, st_bud]
            exact hk
  obtain ⟨G', y, p1, p2, p3, p4, p5, p6, p7, st1⟩ := key nf.toNat (by omega)
  have en : ((nf.toNat : Nat) : Int) = nf := by omega
  rw [en] at p7 st1
  have e1 : G' (B + 544 + 2) v = nf := (TR_fr p1 tr).1
  have lw : ∀ (Kn : List Value → q_M → Prop) (Kr : Option Value → q_M → Prop), wX12_betters_0 [.ref (B + 544), .int (zI v), .int (zI s), .int (zI i), .int (zI j), .int (zI at'), .int (zI 0), .int (zI (14 * v))] (st T nx rc rs R G) Kn Kr = Kn [.ref (B + 544), .int (zI v), .int (zI s), .int (zI i), .int (zI j), .int (zI at'), .int (zI y), .int (zI (14 * v + nf))] (st T nx rc rs R G') := eX12_betters_0.eqn (st1 _ _ (q_outR (fun Kt Kf hk => by
    have hz : ¬ 14 * v + nf < 14 * v + nf := by omega
    clear p2 p3 p4 p7 st1 key sg pb em
    simp (disch := omega) only [↓wcX12_betters_0.eq_1, ↓k_mk, ↓k_sq, ↓k_sk, ↓k_bk, ↓k_if, ↓k_te, ↓k_cm, ↓k_cz, ↓k_an2, ↓k_or2, ↓k_no, ↓k_ci, ↓k_l0, ↓k_r0, ↓k_se0, ↓k_ic0, ↓k_l1, ↓k_r1, ↓k_se1, ↓k_ic1, ↓k_de1, ↓k_tk1, ↓k_l2, ↓k_r2, ↓k_se2, ↓k_ic2, ↓k_de2, ↓k_tk2, ↓k_l3, ↓k_r3, ↓k_se3, ↓k_ic3, ↓k_de3, ↓k_tk3, ↓k_l4, ↓k_r4, ↓k_se4, ↓k_ic4, ↓k_de4, ↓k_tk4, ↓k_l5, ↓k_r5, ↓k_se5, ↓k_ic5, ↓k_de5, ↓k_tk5, ↓k_l6, ↓k_r6, ↓k_se6, ↓k_ic6, ↓k_de6, ↓k_tk6, ↓k_l7, ↓k_r7, ↓k_se7, ↓k_ic7, ↓k_de7, ↓k_tk7, ↓k_l8, ↓k_r8, ↓k_se8, ↓k_ic8, ↓k_de8, ↓k_tk8, ↓k_l9, ↓k_r9, ↓k_se9, ↓k_ic9, ↓k_de9, ↓k_tk9, ↓k_l10, ↓k_r10, ↓k_se10, ↓k_ic10, ↓k_de10, ↓k_tk10, ↓k_l11, ↓k_r11, ↓k_se11, ↓k_ic11, ↓k_de11, ↓k_tk11, ↓k_l12, ↓k_r12, ↓k_se12, ↓k_ic12, ↓k_de12, ↓k_tk12, ↓k_l13, ↓k_r13, ↓k_se13, ↓k_ic13, ↓k_de13, ↓k_tk13, ↓k_l14, ↓k_r14, ↓k_se14, ↓k_ic14, ↓k_de14, ↓k_tk14, ↓k_l15, ↓k_r15, ↓k_se15, ↓k_ic15, ↓k_de15, ↓k_tk15, ↓k_l16, ↓k_r16, ↓k_se16, ↓k_ic16, ↓k_de16, ↓k_tk16, ↓k_l17, ↓k_r17, ↓k_se17, ↓k_ic17, ↓k_de17, ↓k_tk17, ↓k_l18, ↓k_r18, ↓k_se18, ↓k_ic18, ↓k_de18, ↓k_tk18, ↓k_l19, ↓k_r19, ↓k_se19, ↓k_ic19, ↓k_de19, ↓k_tk19, ↓k_l20, ↓k_r20, ↓k_se20, ↓k_ic20, ↓k_de20, ↓k_tk20, ↓k_l21, ↓k_r21, ↓k_se21, ↓k_ic21, ↓k_de21, ↓k_tk21, ↓k_l22, ↓k_r22, ↓k_se22, ↓k_ic22, ↓k_de22, ↓k_tk22, ↓k_l23, ↓k_r23, ↓k_se23, ↓k_ic23, ↓k_de23, ↓k_tk23, ↓k_l24, ↓k_r24, ↓k_se24, ↓k_ic24, ↓k_de24, ↓k_tk24, ↓k_l25, ↓k_r25, ↓k_se25, ↓k_ic25, ↓k_de25, ↓k_tk25, ↓k_k, ↓k_kn, ↓k_kl, ↓k_kln, ↓k_il, ↓k_2, ↓k_1, ↓k_2c, ↓k_2l, ↓k_ac, ↓k_an, ↓k_cs, ↓k_cv, ↓k_fi, ↓k_fr, ↓k_ai, ↓k_az, ↓k_ar, ↓k_sai, ↓k_saz, ↓k_soa, ↓k_sof, ↓k_spf, ↓k_sx, ↓k_blk, ↓k_sset, ↓k_sdec, ↓k_sri, ↓k_srv, ↓k_srr, ↓k_nop, ↓k_add, ↓k_sub, ↓k_mul, ↓k_min, ↓k_max, ↓k_shr, ↓k_shl, ↓k_or, ↓k_ilz, ↓k_addl, ↓k_rt, ↓k_rb, ↓k_rbz, ↓k_rsi, ↓k_rsr, ↓k_rsv, ↓reduceIte, e1, hz, ↓xr12_1 hM, ↓xa12_1 hM, ↓xs12_1 hM, ↓xo12_1 hM, ↓xc12_1 hM, ↓xd12_1 hM, List.length_cons, List.length_nil, List.forall_mem_cons, List.not_mem_nil, Value.category, true_and, and_true, false_and, and_false, or_true, true_or, or_false, false_or, Nat.zero_le, forall_const, implies_true, false_implies, Nat.zero_add, Nat.reduceAdd, Nat.reduceLT, Nat.reduceLeDiff, Nat.le_refl, not_true_eq_false, not_false_eq_true, r_eq, r_ne, r_lt, r_ge, r_gt, r_le, bz_ne, nn_toNat, cn_of, cn_0, cn_1, i10, Int.reduceLE, Int.reduceLT, Int.reduceEq, bz_T, bz_F, ite_self, mulc, st_bud]
    exact hk) ⟨rfl, rfl⟩))
  rw [hat] at p7
  refine ⟨G', y, p1, p2, p3, p4, p7, fun K => ?_⟩
  have yb : y = 0 ∨ y = 1 := by omega
  clear p2 p3 p4 p7 st1 key sg pb em
  have sA : ∀ (Kn : List Value → q_M → Prop) (Kr : Option Value → q_M → Prop), q_sdec Value.int 5 (q_2 q_giadd (q_2 q_giadd (q_2 q_gimul (q_k 289) (q_l 2)) (q_2 q_gimul (q_k 17) (q_l 3))) (q_l 4)) [.ref (B + 544), .int (zI v), .int (zI s), .int (zI i), .int (zI j)] (st T nx rc rs R G) Kn Kr = Kn [.ref (B + 544), .int (zI v), .int (zI s), .int (zI i), .int (zI j), .int (zI at')] (st T nx rc rs R G) := by
    intro Kn Kr
    rw [hat]
    simp (disch := omega) only [↓k_mk, ↓k_sq, ↓k_sk, ↓k_bk, ↓k_if, ↓k_te, ↓k_cm, ↓k_cz, ↓k_an2, ↓k_or2, ↓k_no, ↓k_ci, ↓k_l0, ↓k_r0, ↓k_se0, ↓k_ic0, ↓k_l1, ↓k_r1, ↓k_se1, ↓k_ic1, ↓k_de1, ↓k_tk1, ↓k_l2, ↓k_r2, ↓k_se2, ↓k_ic2, ↓k_de2, ↓k_tk2, ↓k_l3, ↓k_r3, ↓k_se3, ↓k_ic3, ↓k_de3, ↓k_tk3, ↓k_l4, ↓k_r4, ↓k_se4, ↓k_ic4, ↓k_de4, ↓k_tk4, ↓k_l5, ↓k_r5, ↓k_se5, ↓k_ic5, ↓k_de5, ↓k_tk5, ↓k_l6, ↓k_r6, ↓k_se6, ↓k_ic6, ↓k_de6, ↓k_tk6, ↓k_l7, ↓k_r7, ↓k_se7, ↓k_ic7, ↓k_de7, ↓k_tk7, ↓k_l8, ↓k_r8, ↓k_se8, ↓k_ic8, ↓k_de8, ↓k_tk8, ↓k_l9, ↓k_r9, ↓k_se9, ↓k_ic9, ↓k_de9, ↓k_tk9, ↓k_l10, ↓k_r10, ↓k_se10, ↓k_ic10, ↓k_de10, ↓k_tk10, ↓k_l11, ↓k_r11, ↓k_se11, ↓k_ic11, ↓k_de11, ↓k_tk11, ↓k_l12, ↓k_r12, ↓k_se12, ↓k_ic12, ↓k_de12, ↓k_tk12, ↓k_l13, ↓k_r13, ↓k_se13, ↓k_ic13, ↓k_de13, ↓k_tk13, ↓k_l14, ↓k_r14, ↓k_se14, ↓k_ic14, ↓k_de14, ↓k_tk14, ↓k_l15, ↓k_r15, ↓k_se15, ↓k_ic15, ↓k_de15, ↓k_tk15, ↓k_l16, ↓k_r16, ↓k_se16, ↓k_ic16, ↓k_de16, ↓k_tk16, ↓k_l17, ↓k_r17, ↓k_se17, ↓k_ic17, ↓k_de17, ↓k_tk17, ↓k_l18, ↓k_r18, ↓k_se18, ↓k_ic18, ↓k_de18, ↓k_tk18, ↓k_l19, ↓k_r19, ↓k_se19, ↓k_ic19, ↓k_de19, ↓k_tk19, ↓k_l20, ↓k_r20, ↓k_se20, ↓k_ic20, ↓k_de20, ↓k_tk20, ↓k_l21, ↓k_r21, ↓k_se21, ↓k_ic21, ↓k_de21, ↓k_tk21, ↓k_l22, ↓k_r22, ↓k_se22, ↓k_ic22, ↓k_de22, ↓k_tk22, ↓k_l23, ↓k_r23, ↓k_se23, ↓k_ic23, ↓k_de23, ↓k_tk23, ↓k_l24, ↓k_r24, ↓k_se24, ↓k_ic24, ↓k_de24, ↓k_tk24, ↓k_l25, ↓k_r25, ↓k_se25, ↓k_ic25, ↓k_de25, ↓k_tk25, ↓k_k, ↓k_kn, ↓k_kl, ↓k_kln, ↓k_il, ↓k_1, ↓k_2c, ↓k_2l, ↓k_ac, ↓k_an, ↓k_cs, ↓k_cv, ↓k_fi, ↓k_fr, ↓k_ai, ↓k_az, ↓k_ar, ↓k_sai, ↓k_saz, ↓k_soa, ↓k_sof, ↓k_spf, ↓k_sx, ↓k_blk, ↓k_sset, ↓k_sdec, ↓k_sri, ↓k_srv, ↓k_srr, ↓k_nop, ↓k_add, ↓k_sub, ↓k_mul, ↓k_min, ↓k_max, ↓k_shr, ↓k_shl, ↓k_or, ↓k_ilz, ↓k_addl, ↓k_rt, ↓k_rb, ↓k_rbz, ↓k_rsi, ↓k_rsr, ↓k_rsv, ↓reduceIte, ↓k_idxP, List.length_cons, List.length_nil, List.forall_mem_cons, List.not_mem_nil, Value.category, true_and, and_true, false_and, and_false, or_true, true_or, or_false, false_or, Nat.zero_le, forall_const, implies_true, false_implies, Nat.zero_add, Nat.reduceAdd, Nat.reduceLT, Nat.reduceLeDiff, Nat.le_refl, not_true_eq_false, not_false_eq_true, r_eq, r_ne, r_lt, r_ge, r_gt, r_le, bz_ne, nn_toNat, cn_of, cn_0, cn_1, i10, Int.reduceLE, Int.reduceLT, Int.reduceEq, bz_T, bz_F, ite_self, mulc, st_bud]
  rcases yb with yy | yy
  · subst yy
    simp (disch := omega) only [↓fX12_betters.eq_1, ↓uX12_betters, ↓k_mk, ↓k_sq, ↓k_sk, ↓k_bk, ↓k_if, ↓k_te, ↓k_cm, ↓k_cz, ↓k_an2, ↓k_or2, ↓k_no, ↓k_ci, ↓k_l0, ↓k_r0, ↓k_se0, ↓k_ic0, ↓k_l1, ↓k_r1, ↓k_se1, ↓k_ic1, ↓k_de1, ↓k_tk1, ↓k_l2, ↓k_r2, ↓k_se2, ↓k_ic2, ↓k_de2, ↓k_tk2, ↓k_l3, ↓k_r3, ↓k_se3, ↓k_ic3, ↓k_de3, ↓k_tk3, ↓k_l4, ↓k_r4, ↓k_se4, ↓k_ic4, ↓k_de4, ↓k_tk4, ↓k_l5, ↓k_r5, ↓k_se5, ↓k_ic5, ↓k_de5, ↓k_tk5, ↓k_l6, ↓k_r6, ↓k_se6, ↓k_ic6, ↓k_de6, ↓k_tk6, ↓k_l7, ↓k_r7, ↓k_se7, ↓k_ic7, ↓k_de7, ↓k_tk7, ↓k_l8, ↓k_r8, ↓k_se8, ↓k_ic8, ↓k_de8, ↓k_tk8, ↓k_l9, ↓k_r9, ↓k_se9, ↓k_ic9, ↓k_de9, ↓k_tk9, ↓k_l10, ↓k_r10, ↓k_se10, ↓k_ic10, ↓k_de10, ↓k_tk10, ↓k_l11, ↓k_r11, ↓k_se11, ↓k_ic11, ↓k_de11, ↓k_tk11, ↓k_l12, ↓k_r12, ↓k_se12, ↓k_ic12, ↓k_de12, ↓k_tk12, ↓k_l13, ↓k_r13, ↓k_se13, ↓k_ic13, ↓k_de13, ↓k_tk13, ↓k_l14, ↓k_r14, ↓k_se14, ↓k_ic14, ↓k_de14, ↓k_tk14, ↓k_l15, ↓k_r15, ↓k_se15, ↓k_ic15, ↓k_de15, ↓k_tk15, ↓k_l16, ↓k_r16, ↓k_se16, ↓k_ic16, ↓k_de16, ↓k_tk16, ↓k_l17, ↓k_r17, ↓k_se17, ↓k_ic17, ↓k_de17, ↓k_tk17, ↓k_l18, ↓k_r18, ↓k_se18, ↓k_ic18, ↓k_de18, ↓k_tk18, ↓k_l19, ↓k_r19, ↓k_se19, ↓k_ic19, ↓k_de19, ↓k_tk19, ↓k_l20, ↓k_r20, ↓k_se20, ↓k_ic20, ↓k_de20, ↓k_tk20, ↓k_l21, ↓k_r21, ↓k_se21, ↓k_ic21, ↓k_de21, ↓k_tk21, ↓k_l22, ↓k_r22, ↓k_se22, ↓k_ic22, ↓k_de22, ↓k_tk22, ↓k_l23, ↓k_r23, ↓k_se23, ↓k_ic23, ↓k_de23, ↓k_tk23, ↓k_l24, ↓k_r24, ↓k_se24, ↓k_ic24, ↓k_de24, ↓k_tk24, ↓k_l25, ↓k_r25, ↓k_se25, ↓k_ic25, ↓k_de25, ↓k_tk25, ↓k_k, ↓k_kn, ↓k_kl, ↓k_kln, ↓k_il, ↓k_2, ↓k_1, ↓k_2c, ↓k_2l, ↓k_ac, ↓k_an, ↓k_cs, ↓k_cv, ↓k_fi, ↓k_fr, ↓k_ai, ↓k_az, ↓k_ar, ↓k_sai, ↓k_saz, ↓k_soa, ↓k_sof, ↓k_spf, ↓k_sx, ↓k_blk, ↓k_sset, ↓k_sri, ↓k_srv, ↓k_srr, ↓k_nop, ↓k_add, ↓k_sub, ↓k_mul, ↓k_min, ↓k_max, ↓k_shr, ↓k_shl, ↓k_or, ↓k_ilz, ↓k_addl, ↓k_rt, ↓k_rb, ↓k_rbz, ↓k_rsi, ↓k_rsr, ↓k_rsv, ↓reduceIte, ↓sA, ↓(k_sdec Value.int 6), ↓(k_sdec Value.int 7), ↓lw, eq_self, List.length_cons, List.length_nil, List.forall_mem_cons, List.not_mem_nil, Value.category, true_and, and_true, false_and, and_false, or_true, true_or, or_false, false_or, Nat.zero_le, forall_const, implies_true, false_implies, Nat.zero_add, Nat.reduceAdd, Nat.reduceLT, Nat.reduceLeDiff, Nat.le_refl, not_true_eq_false, not_false_eq_true, r_eq, r_ne, r_lt, r_ge, r_gt, r_le, bz_ne, nn_toNat, cn_of, cn_0, cn_1, i10, Int.reduceLE, Int.reduceLT, Int.reduceEq, bz_T, bz_F, ite_self, mulc, st_bud]
  · subst yy
    simp (disch := omega) only [↓fX12_betters.eq_1, ↓uX12_betters, ↓k_mk, ↓k_sq, ↓k_sk, ↓k_bk, ↓k_if, ↓k_te, ↓k_cm, ↓k_cz, ↓k_an2, ↓k_or2, ↓k_no, ↓k_ci, ↓k_l0, ↓k_r0, ↓k_se0, ↓k_ic0, ↓k_l1, ↓k_r1, ↓k_se1, ↓k_ic1, ↓k_de1, ↓k_tk1, ↓k_l2, ↓k_r2, ↓k_se2, ↓k_ic2, ↓k_de2, ↓k_tk2, ↓k_l3, ↓k_r3, ↓k_se3, ↓k_ic3, ↓k_de3, ↓k_tk3, ↓k_l4, ↓k_r4, ↓k_se4, ↓k_ic4, ↓k_de4, ↓k_tk4, ↓k_l5, ↓k_r5, ↓k_se5, ↓k_ic5, ↓k_de5, ↓k_tk5, ↓k_l6, ↓k_r6, ↓k_se6, ↓k_ic6, ↓k_de6, ↓k_tk6, ↓k_l7, ↓k_r7, ↓k_se7, ↓k_ic7, ↓k_de7, ↓k_tk7, ↓k_l8, ↓k_r8, ↓k_se8, ↓k_ic8, ↓k_de8, ↓k_tk8, ↓k_l9, ↓k_r9, ↓k_se9, ↓k_ic9, ↓k_de9, ↓k_tk9, ↓k_l10, ↓k_r10, ↓k_se10, ↓k_ic10, ↓k_de10, ↓k_tk10, ↓k_l11, ↓k_r11, ↓k_se11, ↓k_ic11, ↓k_de11, ↓k_tk11, ↓k_l12, ↓k_r12, ↓k_se12, ↓k_ic12, ↓k_de12, ↓k_tk12, ↓k_l13, ↓k_r13, ↓k_se13, ↓k_ic13, ↓k_de13, ↓k_tk13, ↓k_l14, ↓k_r14, ↓k_se14, ↓k_ic14, ↓k_de14, ↓k_tk14, ↓k_l15, ↓k_r15, ↓k_se15, ↓k_ic15, ↓k_de15, ↓k_tk15, ↓k_l16, ↓k_r16, ↓k_se16, ↓k_ic16, ↓k_de16, ↓k_tk16, ↓k_l17, ↓k_r17, ↓k_se17, ↓k_ic17, ↓k_de17, ↓k_tk17, ↓k_l18, ↓k_r18, ↓k_se18, ↓k_ic18, ↓k_de18, ↓k_tk18, ↓k_l19, ↓k_r19, ↓k_se19, ↓k_ic19, ↓k_de19, ↓k_tk19, ↓k_l20, ↓k_r20, ↓k_se20, ↓k_ic20, ↓k_de20, ↓k_tk20, ↓k_l21, ↓k_r21, ↓k_se21, ↓k_ic21, ↓k_de21, ↓k_tk21, ↓k_l22, ↓k_r22, ↓k_se22, ↓k_ic22, ↓k_de22, ↓k_tk22, ↓k_l23, ↓k_r23, ↓k_se23, ↓k_ic23, ↓k_de23, ↓k_tk23, ↓k_l24, ↓k_r24, ↓k_se24, ↓k_ic24, ↓k_de24, ↓k_tk24, ↓k_l25, ↓k_r25, ↓k_se25, ↓k_ic25, ↓k_de25, ↓k_tk25, ↓k_k, ↓k_kn, ↓k_kl, ↓k_kln, ↓k_il, ↓k_2, ↓k_1, ↓k_2c, ↓k_2l, ↓k_ac, ↓k_an, ↓k_cs, ↓k_cv, ↓k_fi, ↓k_fr, ↓k_ai, ↓k_az, ↓k_ar, ↓k_sai, ↓k_saz, ↓k_soa, ↓k_sof, ↓k_spf, ↓k_sx, ↓k_blk, ↓k_sset, ↓k_sri, ↓k_srv, ↓k_srr, ↓k_nop, ↓k_add, ↓k_sub, ↓k_mul, ↓k_min, ↓k_max, ↓k_shr, ↓k_shl, ↓k_or, ↓k_ilz, ↓k_addl, ↓k_rt, ↓k_rb, ↓k_rbz, ↓k_rsi, ↓k_rsr, ↓k_rsv, ↓reduceIte, ↓sA, ↓(k_sdec Value.int 6), ↓(k_sdec Value.int 7), ↓lw, eq_self, List.length_cons, List.length_nil, List.forall_mem_cons, List.not_mem_nil, Value.category, true_and, and_true, false_and, and_false, or_true, true_or, or_false, false_or, Nat.zero_le, forall_const, implies_true, false_implies, Nat.zero_add, Nat.reduceAdd, Nat.reduceLT, Nat.reduceLeDiff, Nat.le_refl, not_true_eq_false, not_false_eq_true, r_eq, r_ne, r_lt, r_ge, r_gt, r_le, bz_ne, nn_toNat, cn_of, cn_0, cn_1, i10, Int.reduceLE, Int.reduceLT, Int.reduceEq, bz_T, bz_F, ite_self, mulc, st_bud]
end
