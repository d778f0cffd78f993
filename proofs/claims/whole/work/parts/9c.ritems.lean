section
/-! the reference reads: the items of one node -/
theorem k_idxN1 {x0 x1 x2 x3 x4 x5 x6 x7 x8 x10 : Value} {k q : Int} {μ : q_M} {K : Int32 → q_M → Prop} : (q_2 q_giadd (q_2 q_gimul (q_k 17) (q_2 q_giadd (q_l 9) (q_k 1))) (q_l 11)) [x0, x1, x2, x3, x4, x5, x6, x7, x8, .int (zI k), x10, .int (zI q)] μ K = K (zI (17 * (k + 1) + q)) μ := by
  simp (disch := omega) only [↓k_mk, ↓k_sq, ↓k_sk, ↓k_bk, ↓k_if, ↓k_te, ↓k_cm, ↓k_cz, ↓k_an2, ↓k_or2, ↓k_no, ↓k_ci, ↓k_l0, ↓k_r0, ↓k_se0, ↓k_ic0, ↓k_l1, ↓k_r1, ↓k_se1, ↓k_ic1, ↓k_de1, ↓k_tk1, ↓k_l2, ↓k_r2, ↓k_se2, ↓k_ic2, ↓k_de2, ↓k_tk2, ↓k_l3, ↓k_r3, ↓k_se3, ↓k_ic3, ↓k_de3, ↓k_tk3, ↓k_l4, ↓k_r4, ↓k_se4, ↓k_ic4, ↓k_de4, ↓k_tk4, ↓k_l5, ↓k_r5, ↓k_se5, ↓k_ic5, ↓k_de5, ↓k_tk5, ↓k_l6, ↓k_r6, ↓k_se6, ↓k_ic6, ↓k_de6, ↓k_tk6, ↓k_l7, ↓k_r7, ↓k_se7, ↓k_ic7, ↓k_de7, ↓k_tk7, ↓k_l8, ↓k_r8, ↓k_se8, ↓k_ic8, ↓k_de8, ↓k_tk8, ↓k_l9, ↓k_r9, ↓k_se9, ↓k_ic9, ↓k_de9, ↓k_tk9, ↓k_l10, ↓k_r10, ↓k_se10, ↓k_ic10, ↓k_de10, ↓k_tk10, ↓k_l11, ↓k_r11, ↓k_se11, ↓k_ic11, ↓k_de11, ↓k_tk11, ↓k_l12, ↓k_r12, ↓k_se12, ↓k_ic12, ↓k_de12, ↓k_tk12, ↓k_l13, ↓k_r13, ↓k_se13, ↓k_ic13, ↓k_de13, ↓k_tk13, ↓k_l14, ↓k_r14, ↓k_se14, ↓k_ic14, ↓k_de14, ↓k_tk14, ↓k_l15, ↓k_r15, ↓k_se15, ↓k_ic15, ↓k_de15, ↓k_tk15, ↓k_l16, ↓k_r16, ↓k_se16, ↓k_ic16, ↓k_de16, ↓k_tk16, ↓k_l17, ↓k_r17, ↓k_se17, ↓k_ic17, ↓k_de17, ↓k_tk17, ↓k_l18, ↓k_r18, ↓k_se18, ↓k_ic18, ↓k_de18, ↓k_tk18, ↓k_l19, ↓k_r19, ↓k_se19, ↓k_ic19, ↓k_de19, ↓k_tk19, ↓k_l20, ↓k_r20, ↓k_se20, ↓k_ic20, ↓k_de20, ↓k_tk20, ↓k_l21, ↓k_r21, ↓k_se21, ↓k_ic21, ↓k_de21, ↓k_tk21, ↓k_l22, ↓k_r22, ↓k_se22, ↓k_ic22, ↓k_de22, ↓k_tk22, ↓k_l23, ↓k_r23, ↓k_se23, ↓k_ic23, ↓k_de23, ↓k_tk23, ↓k_l24, ↓k_r24, ↓k_se24, ↓k_ic24, ↓k_de24, ↓k_tk24, ↓k_l25, ↓k_r25, ↓k_se25, ↓k_ic25, ↓k_de25, ↓k_tk25, ↓k_k, ↓k_kn, ↓k_kl, ↓k_kln, ↓k_il, ↓k_2, ↓k_1, ↓k_2c, ↓k_2l, ↓k_ac, ↓k_an, ↓k_cs, ↓k_cv, ↓k_fi, ↓k_fr, ↓k_ai, ↓k_az, ↓k_ar, ↓k_sai, ↓k_saz, ↓k_soa, ↓k_sof, ↓k_spf, ↓k_sx, ↓k_blk, ↓k_sset, ↓k_sdec, ↓k_sri, ↓k_srv, ↓k_srr, ↓k_nop, ↓k_add, ↓k_sub, ↓k_mul, ↓k_min, ↓k_max, ↓k_shr, ↓k_shl, ↓k_or, ↓k_ilz, ↓k_addl, ↓k_rt, ↓k_rb, ↓k_rbz, ↓k_rsi, ↓k_rsr, ↓k_rsv, ↓reduceIte, eq_self, List.length_cons, List.length_nil, List.forall_mem_cons, List.not_mem_nil, Value.category, true_and, and_true, false_and, and_false, or_true, true_or, or_false, false_or, Nat.zero_le, forall_const, implies_true, false_implies, Nat.zero_add, Nat.reduceAdd, Nat.reduceLT, Nat.reduceLeDiff, Nat.le_refl, not_true_eq_false, not_false_eq_true, r_eq, r_ne, r_lt, r_ge, r_gt, r_le, bz_ne, nn_toNat, cn_of, cn_0, cn_1, i10, Int.reduceLE, Int.reduceLT, Int.reduceEq, bz_T, bz_F, ite_self, mulc, st_bud]
theorem k_idxN3 {x0 x1 x2 x3 x4 x6 x7 x8 : Value} {F k : Int} {μ : q_M} {K : Int32 → q_M → Prop} : (q_2 q_giadd (q_2 q_gimul (q_k 5) (q_l 5)) (q_l 9)) [x0, x1, x2, x3, x4, .int (zI F), x6, x7, x8, .int (zI k)] μ K = K (zI (5 * F + k)) μ := by
  simp (disch := omega) only [↓k_mk, ↓k_sq, ↓k_sk, ↓k_bk, ↓k_if, ↓k_te, ↓k_cm, ↓k_cz, ↓k_an2, ↓k_or2, ↓k_no, ↓k_ci, ↓k_l0, ↓k_r0, ↓k_se0, ↓k_ic0, ↓k_l1, ↓k_r1, ↓k_se1, ↓k_ic1, ↓k_de1, ↓k_tk1, ↓k_l2, ↓k_r2, ↓k_se2, ↓k_ic2, ↓k_de2, ↓k_tk2, ↓k_l3, ↓k_r3, ↓k_se3, ↓k_ic3, ↓k_de3, ↓k_tk3, ↓k_l4, ↓k_r4, ↓k_se4, ↓k_ic4, ↓k_de4, ↓k_tk4, ↓k_l5, ↓k_r5, ↓k_se5, ↓k_ic5, ↓k_de5, ↓k_tk5, ↓k_l6, ↓k_r6, ↓k_se6, ↓k_ic6, ↓k_de6, ↓k_tk6, ↓k_l7, ↓k_r7, ↓k_se7, ↓k_ic7, ↓k_de7, ↓k_tk7, ↓k_l8, ↓k_r8, ↓k_se8, ↓k_ic8, ↓k_de8, ↓k_tk8, ↓k_l9, ↓k_r9, ↓k_se9, ↓k_ic9, ↓k_de9, ↓k_tk9, ↓k_l10, ↓k_r10, ↓k_se10, ↓k_ic10, ↓k_de10, ↓k_tk10, ↓k_l11, ↓k_r11, ↓k_se11, ↓k_ic11, ↓k_de11, ↓k_tk11, ↓k_l12, ↓k_r12, ↓k_se12, ↓k_ic12, ↓k_de12, ↓k_tk12, ↓k_l13, ↓k_r13, ↓k_se13, ↓k_ic13, ↓k_de13, ↓k_tk13, ↓k_l14, ↓k_r14, ↓k_se14, ↓k_ic14, ↓k_de14, ↓k_tk14, ↓k_l15, ↓k_r15, ↓k_se15, ↓k_ic15, ↓k_de15, ↓k_tk15, ↓k_l16, ↓k_r16, ↓k_se16, ↓k_ic16, ↓k_de16, ↓k_tk16, ↓k_l17, ↓k_r17, ↓k_se17, ↓k_ic17, ↓k_de17, ↓k_tk17, ↓k_l18, ↓k_r18, ↓k_se18, ↓k_ic18, ↓k_de18, ↓k_tk18, ↓k_l19, ↓k_r19, ↓k_se19, ↓k_ic19, ↓k_de19, ↓k_tk19, ↓k_l20, ↓k_r20, ↓k_se20, ↓k_ic20, ↓k_de20, ↓k_tk20, ↓k_l21, ↓k_r21, ↓k_se21, ↓k_ic21, ↓k_de21, ↓k_tk21, ↓k_l22, ↓k_r22, ↓k_se22, ↓k_ic22, ↓k_de22, ↓k_tk22, ↓k_l23, ↓k_r23, ↓k_se23, ↓k_ic23, ↓k_de23, ↓k_tk23, ↓k_l24, ↓k_r24, ↓k_se24, ↓k_ic24, ↓k_de24, ↓k_tk24, ↓k_l25, ↓k_r25, ↓k_se25, ↓k_ic25, ↓k_de25, ↓k_tk25, ↓k_k, ↓k_kn, ↓k_kl, ↓k_kln, ↓k_il, ↓k_2, ↓k_1, ↓k_2c, ↓k_2l, ↓k_ac, ↓k_an, ↓k_cs, ↓k_cv, ↓k_fi, ↓k_fr, ↓k_ai, ↓k_az, ↓k_ar, ↓k_sai, ↓k_saz, ↓k_soa, ↓k_sof, ↓k_spf, ↓k_sx, ↓k_blk, ↓k_sset, ↓k_sdec, ↓k_sri, ↓k_srv, ↓k_srr, ↓k_nop, ↓k_add, ↓k_sub, ↓k_mul, ↓k_min, ↓k_max, ↓k_shr, ↓k_shl, ↓k_or, ↓k_ilz, ↓k_addl, ↓k_rt, ↓k_rb, ↓k_rbz, ↓k_rsi, ↓k_rsr, ↓k_rsv, ↓reduceIte, eq_self, List.length_cons, List.length_nil, List.forall_mem_cons, List.not_mem_nil, Value.category, true_and, and_true, false_and, and_false, or_true, true_or, or_false, false_or, Nat.zero_le, forall_const, implies_true, false_implies, Nat.zero_add, Nat.reduceAdd, Nat.reduceLT, Nat.reduceLeDiff, Nat.le_refl, not_true_eq_false, not_false_eq_true, r_eq, r_ne, r_lt, r_ge, r_gt, r_le, bz_ne, nn_toNat, cn_of, cn_0, cn_1, i10, Int.reduceLE, Int.reduceLT, Int.reduceEq, bz_T, bz_F, ite_self, mulc, st_bud]
def NCr (G G' : Nat → Int → Int) (B : Nat) : Prop := (∀ x, ¬ (B + 560 ≤ x ∧ x ≤ B + 566) → ¬ (B + 585 ≤ x ∧ x ≤ B + 590) → ¬ x = (B + 544 + 41) → ¬ x = B + 544 → G' x = G x) ∧ (∀ j, ¬ j = 22 → ¬ j = 50 → G' (B + 544) j = G (B + 544) j) ∧ (∀ j, ¬ j = 92 → G' (B + 544 + 16) j = G (B + 544 + 16) j ∧ G' (B + 544 + 17) j = G (B + 544 + 17) j ∧ G' (B + 544 + 18) j = G (B + 544 + 18) j) ∧ (∀ k, ¬ (40 * 92 ≤ k ∧ k < 40 * 92 + 40) → G' (B + 544 + 19) k = G (B + 544 + 19) k ∧ G' (B + 544 + 20) k = G (B + 544 + 20) k ∧ G' (B + 544 + 22) k = G (B + 544 + 22) k) ∧ ∀ k, ¬ (200 * 92 ≤ k ∧ k < 200 * 92 + 200) → G' (B + 544 + 21) k = G (B + 544 + 21) k
theorem NCr_rfl (G : Nat → Int → Int) (B : Nat) : NCr G G B := ⟨fun _ _ _ _ _ => rfl, fun _ _ _ => rfl, fun _ _ => ⟨rfl, rfl, rfl⟩, fun _ _ => ⟨rfl, rfl, rfl⟩, fun _ _ => rfl⟩
theorem NCr_tr {G G1 G2 : Nat → Int → Int} {B : Nat} (h : NCr G G1 B) (k : NCr G1 G2 B) : NCr G G2 B := ⟨fun x a b c d => by rw [k.1 x a b c d, h.1 x a b c d], fun j a b => by rw [k.2.1 j a b, h.2.1 j a b], fun j a => by
  obtain ⟨k1, k2, k3⟩ := k.2.2.1 j a
  rw [k1, k2, k3]
  exact h.2.2.1 j a, fun j a => by
  obtain ⟨k1, k2, k3⟩ := k.2.2.2.1 j a
  rw [k1, k2, k3]
  exact h.2.2.2.1 j a, fun j a => by rw [k.2.2.2.2 j a, h.2.2.2.2 j a]⟩
theorem NCr_B {G G' : Nat → Int → Int} {B : Nat} (h : BFr G G' B 92) : NCr G G' B := ⟨fun x a _ _ d => h.1 x a d, fun j a _ => h.2.1 j a, h.2.2.1, h.2.2.2.1, h.2.2.2.2⟩
/-- where no row of a tree is touched -/
theorem NCr_of {G G' : Nat → Int → Int} {B : Nat} (h1 : ∀ x, ¬ (B + 585 ≤ x ∧ x ≤ B + 590) → ¬ x = (B + 544 + 41) → ¬ x = B + 544 → G' x = G x) (h2 : ∀ j, ¬ j = 22 → ¬ j = 50 → G' (B + 544) j = G (B + 544) j) : NCr G G' B := ⟨fun x _ b c d => h1 x b c d, h2, fun j _ => ⟨by rw [h1 _ (by omega) (by omega) (by omega)], by rw [h1 _ (by omega) (by omega) (by omega)], by rw [h1 _ (by omega) (by omega) (by omega)]⟩, fun j _ => ⟨by rw [h1 _ (by omega) (by omega) (by omega)], by rw [h1 _ (by omega) (by omega) (by omega)], by rw [h1 _ (by omega) (by omega) (by omega)]⟩, fun j _ => by rw [h1 _ (by omega) (by omega) (by omega)]⟩
theorem NCr_slot {G : Nat → Int → Int} {B : Nat} {k x : Int} (k0 : 200 * 92 ≤ k) (k1 : k < 200 * 92 + 200) : NCr G (gs G (B + 544 + 21) k x) B := ⟨fun y a b c d => gs_ne (by omega), fun j _ _ => by rw [gs_ne (by omega)], fun j _ => ⟨by rw [gs_ne (by omega)], by rw [gs_ne (by omega)], by rw [gs_ne (by omega)]⟩, fun j _ => ⟨by rw [gs_ne (by omega)], by rw [gs_ne (by omega)], by rw [gs_ne (by omega)]⟩, fun j q => by rw [gs_eq, fu_ne (by omega)]⟩

def MZr (G0 G : Nat → Int → Int) (B : Nat) : Prop := (∀ x, B + 544 + 2 ≤ x → x ≤ B + 544 + 5 → G x = G0 x) ∧ G (B + 544 + 39) = G0 (B + 544 + 39) ∧ G (B + 544 + 40) = G0 (B + 544 + 40)
theorem MZr_of {G0 G : Nat → Int → Int} {B : Nat} (h : NCr G0 G B) : MZr G0 G B := ⟨fun x q1 q2 => h.1 x (by omega) (by omega) (by omega) (by omega), h.1 _ (by omega) (by omega) (by omega) (by omega), h.1 _ (by omega) (by omega) (by omega) (by omega)⟩
theorem itP_qn {N : Int} {ft : Int → Int → Bool} {Q : Int → Int → Int → Int} (qn : ∀ s x y, 0 ≤ x → x ≤ y → y ≤ N → 0 ≤ Q s x y ∧ (x = y → 1 ≤ Q s x y)) {it p q : Int} (p0 : 0 ≤ p) (h : p ≤ q) (q1 : q ≤ N) : 0 ≤ itP Q ft it p q ∧ (p = q → 1 ≤ itP Q ft it p q) := by
  by_cases c : 60 ≤ it
  · rw [itP_sort c]
    exact qn _ p q p0 h q1
  · have := itP_leaf_b (P := Q) (ft := ft) c h
    exact ⟨this.1, fun e => by have := this.2.2 e; omega⟩
/-- the cuts of a form that costs nought -/
theorem cut_zero {N : Int} {n C : Int → Int} {ft : Int → Int → Bool} {Q : Int → Int → Int → Int} (qn : ∀ s x y, 0 ≤ x → x ≤ y → y ≤ N → 0 ≤ Q s x y ∧ (x = y → 1 ≤ Q s x y)) {f j m p q : Int} (p0 : 0 ≤ p) (jN : j ≤ N) (hc : FsC n C ft Q j f m p q) (z : rF 1000000 Q ft C n j f m p = 0) : p < q ∧ itP Q ft (C (5 * f + m)) p q = 0 ∧ rF 1000000 Q ft C n j f (m + 1) q = 0 := by
  obtain ⟨⟨a1, a2⟩, a3, _⟩ := hc
  have b1 := itP_qn (ft := ft) (it := C (5 * f + m)) qn p0 a1 (by omega)
  have b2 : 0 ≤ rF 1000000 Q ft C n j f (m + 1) q := rF_nn (by omega) fun s x y q1 q2 q3 => (qn s x y (by omega) q2 (by omega)).1
  rw [z] at a3
  have e : ¬ p = q := fun e => by
    have := b1.2 e
    omega
  exact ⟨by omega, by omega, by omega⟩
theorem cuts_zero {N : Int} {n C : Int → Int} {ft : Int → Int → Bool} {Q : Int → Int → Int → Int} (qn : ∀ s x y, 0 ≤ x → x ≤ y → y ≤ N → 0 ≤ Q s x y ∧ (x = y → 1 ≤ Q s x y)) {f i j : Int} {cc : Nat → Int} (i0 : 0 ≤ i) (ij : i ≤ j) (jN : j ≤ N) (c0 : cc 0 = i) (hcut : ∀ m : Nat, (m : Int) < n f → FsC n C ft Q j f m (cc m) (cc (m + 1))) (z0 : rF 1000000 Q ft C n j f 0 i = 0) : ∀ m : Nat, (m : Int) ≤ n f → rF 1000000 Q ft C n j f m (cc m) = 0 ∧ i ≤ cc m := by
  intro m
  induction m with
  | zero =>
    intro _
    rw [c0]
    exact ⟨z0, Int.le_refl _⟩
  | succ m ih =>
    intro hm
    obtain ⟨a1, a2⟩ := ih (by omega)
    obtain ⟨b1, b2, b3⟩ := cut_zero qn (by omega) jN (hcut m (by omega)) a1
    exact ⟨by rw [show ((m + 1 : Nat) : Int) = (m : Int) + 1 by omega]; exact b3, by omega⟩
theorem ftc_zero {X : Int → Int} {N it p q : Int} {ft : Int → Int → Bool} {Q : Int → Int → Int → Int} (h : itP Q ft it p q = 0) (c : ¬ 60 ≤ it) (pq' : p ≤ q) (pN : p < N) : ftc ft X N it p q = X p := by
  obtain ⟨z1, z2⟩ := (itP_0 c pq').mp h
  unfold ftc
  have e : fsN ft it p (N - p).toNat = p := by
    have := fsN_first (ft := ft) (it := it) (j := 0) (m := (N - p).toNat) (p := p) (by omega) (fun k hk => absurd hk (by omega)) (by
      rw [show p + ((0 : Nat) : Int) = p by omega]
      exact z2)
    rw [this]
    omega
  rw [e, if_pos (by omega)]
/-- the first cut -/
theorem w_read2 {T : Nat → Option q_T} {nx B : Nat} {R : Nat → Nat → Option Value} {G0 : Nat → Int → Int} {v nf N : Int} {sf n C X : Int → Int} {ft : Int → Int → Bool} {Q : Int → Int → Int → Int} {G : Nat → Int → Int} {rc rs : Nat} {i j e p q F h W sl k f : Int} (hM : Ly T R (B + 544) (L12 (B + 544))) (trc : TRC G0 B v nf sf n C) (v0 : 0 ≤ v) (v1 : v ≤ 1) (wb : WBr G0 B) (zz : ∀ s x y, 0 ≤ x → x < y → y ≤ N → (Q s x y = 0 ↔ 0 < wyc (G0 (B + 544 + 40)) s x y)) (qn : ∀ s x y, 0 ≤ x → x ≤ y → y ≤ N → 0 ≤ Q s x y ∧ (x = y → 1 ≤ Q s x y)) (hft : ∀ it x, 0 ≤ x → x < N → ft it x = sutB it (X x)) (hX : ∀ x, 0 ≤ x → x < N → G0 (B + 544 + 39) x = X x ∧ -2147483648 ≤ X x ∧ X x < 2147483648) (n16 : N ≤ 16) (ms : MZr G0 G B) (f0 : 0 ≤ f) (f1 : f < nf) (k0 : 0 ≤ k) (k1 : k < n f) (i0 : 0 ≤ i) (ip : i ≤ p) (jN : j ≤ N) (hd : RT G B Q ft C n i j f) (z0 : rF 1000000 Q ft C n j f k p = 0) (hc : FsC n C ft Q j f k p q) :
    p < q ∧ itP Q ft (C (5 * f + k)) p q = 0 ∧ ∀ (Kn : List Value → q_M → Prop) (Kr : Option Value → q_M → Prop), wX12_readInto_2 [.ref (B + 544), .int (zI v), .int (zI 92), .int (zI e), .int (zI p), .int (zI F), .int (zI h), .int (zI W), .int (zI sl), .int (zI k), .int (zI (C (5 * f + k))), .int (zI (p + 1))] (st T nx rc rs R G) Kn Kr = Kn [.ref (B + 544), .int (zI v), .int (zI 92), .int (zI e), .int (zI p), .int (zI F), .int (zI h), .int (zI W), .int (zI sl), .int (zI k), .int (zI (C (5 * f + k))), .int (zI q)] (st T nx rc rs R G) := by
  have cz := cut_zero qn (by omega) jN hc z0
  obtain ⟨⟨pq1, qj⟩, he, hne⟩ := hc
  obtain ⟨c1, c2, c3⟩ := trc
  obtain ⟨d1, d2, d3, d4, d5⟩ := c3 f f0 f1
  have ir := (d5 k k0 k1).2
  obtain ⟨it, hit⟩ : ∃ it, it = C (5 * f + k) := ⟨_, rfl⟩
  rw [← hit] at ir he hne cz ⊢
  rw [z0] at he hne
  obtain ⟨z1, z2, z3⟩ := cz
  refine ⟨z1, z2, ?_⟩
  have i65 : 0 ≤ it ∧ it ≤ 65 := by
    unfold itR at ir
    omega
  have one : ∀ x, p < x → x ≤ j → ∃ y z : Int, (0 ≤ y ∧ y ≤ 1000) ∧ (0 ≤ z ∧ z ≤ 1000) ∧ (0 < y ↔ itP Q ft it p x = 0) ∧ (0 < z ↔ rF 1000000 Q ft C n j f (k + 1) x = 0) ∧ G (B + 544 + 41) (17 * (k + 1) + x) = z ∧ ∀ K : Option Value → q_M → Prop, fX12_itemWays [.ref (B + 544), .int (zI it), .int (zI p), .int (zI x)] (st T nx 0 0 R G) K = K (some (.int (zI y))) (st T nx 0 0 R G) := fun x x0 x1 => by
    obtain ⟨r1, r2⟩ := hd (k + 1) x (by omega) (by omega) (by omega) x1
    have iw : (0 ≤ iW (G0 (B + 544 + 40)) (G0 (B + 544 + 39)) it p x ∧ iW (G0 (B + 544 + 40)) (G0 (B + 544 + 39)) it p x ≤ 1000) ∧ (0 < iW (G0 (B + 544 + 40)) (G0 (B + 544 + 39)) it p x ↔ itP Q ft it p x = 0) := by
      unfold iW
      by_cases s : 60 ≤ it
      · rw [if_pos s, itP_sort s, zz _ _ _ (by omega) x0 (by omega), wyc_in (by omega)]
        exact ⟨wb _ _ _ (by omega) (by omega) (by omega) x0 (by omega), Iff.rfl⟩
      · rw [if_neg s, itP_0 s (by omega), (hX p (by omega) (by omega)).1, ← hft it p (by omega) (by omega)]
        by_cases u : x = p + 1 ∧ ft it p = true
        · rw [if_pos u]
          exact ⟨by omega, fun _ => u, fun _ => by omega⟩
        · rw [if_neg u]
          exact ⟨by omega, fun w => by omega, fun w => absurd w u⟩
    refine ⟨_, _, iw.1, r1, iw.2, r2, rfl, fun K => ?_⟩
    rw [← ms.2.1, ← ms.2.2]
    exact c12_itemWays (T := T) (nx := nx) (rc := 0) (rs := 0) (R := R) (G := G) (K := K) hM i65.1 i65.2 (by omega) x0 (by omega) (by
      rw [ms.2.1, (hX p (by omega) (by omega)).1]
      exact (hX p (by omega) (by omega)).2)
  intro Kn Kr
  have kb : k < 5 := by omega
  have w' := q_for eX12_readInto_2 (fun _ _ => lX12_readInto_2) (fun m => [.ref (B + 544), .int (zI v), .int (zI 92), .int (zI e), .int (zI p), .int (zI F), .int (zI h), .int (zI W), .int (zI sl), .int (zI k), .int (zI it), .int (zI (p + 1 + m))]) (fun _ => st T nx rc rs R G) (q - (p + 1)).toNat (fun m hm Kn Kf hh => by
    obtain ⟨y, z, yb, zb, ey, ez, dz, cI⟩ := one (p + 1 + m) (by omega) (by omega)
    have ne := hne (p + 1 + m) (by omega) (by omega)
    have yz : y = 0 ∨ z = 0 := by
      refine Classical.byContradiction fun w => ne ?_
      rw [ey.mp (by omega), ez.mp (by omega)]
      rfl
    have e7 : p + 1 + ((m + 1 : Nat) : Int) = p + 1 + m + 1 := by omega
    simp only [e7] at hh
    obtain ⟨x, hx⟩ : ∃ x, x = p + 1 + (m : Int) := ⟨_, rfl⟩
    have xb : 0 ≤ x ∧ x ≤ 16 := by omega
    rw [← hx] at dz cI hh ⊢
    clear one hd hX hft wb zz qn c3 d1 d2 d3 d4 d5 he hne ey ez ne
    by_cases y0 : y = 0
    · simp (disch := omega) only [↓wcX12_readInto_2.eq_1, ↓wsX12_readInto_2.eq_1, ↓(k_cv3 dX12_itemWays (t12 hM)), ↓k_mk, ↓k_sq, ↓k_sk, ↓k_bk, ↓k_if, ↓k_te, ↓k_cm, ↓k_cz, ↓k_an2, ↓k_or2, ↓k_no, ↓k_ci, ↓k_l0, ↓k_r0, ↓k_se0, ↓k_ic0, ↓k_l1, ↓k_r1, ↓k_se1, ↓k_ic1, ↓k_de1, ↓k_tk1, ↓k_l2, ↓k_r2, ↓k_se2, ↓k_ic2, ↓k_de2, ↓k_tk2, ↓k_l3, ↓k_r3, ↓k_se3, ↓k_ic3, ↓k_de3, ↓k_tk3, ↓k_l4, ↓k_r4, ↓k_se4, ↓k_ic4, ↓k_de4, ↓k_tk4, ↓k_l5, ↓k_r5, ↓k_se5, ↓k_ic5, ↓k_de5, ↓k_tk5, ↓k_l6, ↓k_r6, ↓k_se6, ↓k_ic6, ↓k_de6, ↓k_tk6, ↓k_l7, ↓k_r7, ↓k_se7, ↓k_ic7, ↓k_de7, ↓k_tk7, ↓k_l8, ↓k_r8, ↓k_se8, ↓k_ic8, ↓k_de8, ↓k_tk8, ↓k_l9, ↓k_r9, ↓k_se9, ↓k_ic9, ↓k_de9, ↓k_tk9, ↓k_l10, ↓k_r10, ↓k_se10, ↓k_ic10, ↓k_de10, ↓k_tk10, ↓k_l11, ↓k_r11, ↓k_se11, ↓k_ic11, ↓k_de11, ↓k_tk11, ↓k_l12, ↓k_r12, ↓k_se12, ↓k_ic12, ↓k_de12, ↓k_tk12, ↓k_l13, ↓k_r13, ↓k_se13, ↓k_ic13, ↓k_de13, ↓k_tk13, ↓k_l14, ↓k_r14, ↓k_se14, ↓k_ic14, ↓k_de14, ↓k_tk14, ↓k_l15, ↓k_r15, ↓k_se15, ↓k_ic15, ↓k_de15, ↓k_tk15, ↓k_l16, ↓k_r16, ↓k_se16, ↓k_ic16, ↓k_de16, ↓k_tk16, ↓k_l17, ↓k_r17, ↓k_se17, ↓k_ic17, ↓k_de17, ↓k_tk17, ↓k_l18, ↓k_r18, ↓k_se18, ↓k_ic18, ↓k_de18, ↓k_tk18, ↓k_l19, ↓k_r19, ↓k_se19, ↓k_ic19, ↓k_de19, ↓k_tk19, ↓k_l20, ↓k_r20, ↓k_se20, ↓k_ic20, ↓k_de20, ↓k_tk20, ↓k_l21, ↓k_r21, ↓k_se21, ↓k_ic21, ↓k_de21, ↓k_tk21, ↓k_l22, ↓k_r22, ↓k_se22, ↓k_ic22, ↓k_de22, ↓k_tk22, ↓k_l23, ↓k_r23, ↓k_se23, ↓k_ic23, ↓k_de23, ↓k_tk23, ↓k_l24, ↓k_r24, ↓k_se24, ↓k_ic24, ↓k_de24, ↓k_tk24, ↓k_l25, ↓k_r25, ↓k_se25, ↓k_ic25, ↓k_de25, ↓k_tk25, ↓k_k, ↓k_kn, ↓k_kl, ↓k_kln, ↓k_il, ↓k_1, ↓k_2c, ↓k_2l, ↓k_ac, ↓k_an, ↓k_cs, ↓k_cv, ↓k_fi, ↓k_fr, ↓k_ai, ↓k_az, ↓k_ar, ↓k_sai, ↓k_saz, ↓k_soa, ↓k_sof, ↓k_spf, ↓k_sx, ↓k_blk, ↓k_sset, ↓k_sdec, ↓k_sri, ↓k_srv, ↓k_srr, ↓k_nop, ↓k_add, ↓k_sub, ↓k_mul, ↓k_min, ↓k_max, ↓k_shr, ↓k_shl, ↓k_or, ↓k_ilz, ↓k_addl, ↓k_rt, ↓k_rb, ↓k_rbz, ↓k_rsi, ↓k_rsr, ↓k_rsv, ↓reduceIte, ↓(k_cv3 dX12_itemWays (t12 hM)), ↓cI, y0, eq_self, ↓xr12_49 hM, ↓xa12_49 hM, ↓xs12_49 hM, ↓xo12_49 hM, ↓xc12_49 hM, ↓xd12_49 hM, List.length_cons, List.length_nil, List.forall_mem_cons, List.not_mem_nil, Value.category, true_and, and_true, false_and, and_false, or_true, true_or, or_false, false_or, Nat.zero_le, forall_const, implies_true, false_implies, Nat.zero_add, Nat.reduceAdd, Nat.reduceLT, Nat.reduceLeDiff, Nat.le_refl, not_true_eq_false, not_false_eq_true, r_eq, r_ne, r_lt, r_ge, r_gt, r_le, bz_ne, nn_toNat, cn_of, cn_0, cn_1, i10, Int.reduceLE, Int.reduceLT, Int.reduceEq, bz_T, bz_F, ite_self, mulc, st_bud]
      exact hh
    · have z0 : z = 0 := by omega
      simp (disch := omega) only [↓wcX12_readInto_2.eq_1, ↓wsX12_readInto_2.eq_1, ↓(k_cv3 dX12_itemWays (t12 hM)), ↓k_mk, ↓k_sq, ↓k_sk, ↓k_bk, ↓k_if, ↓k_te, ↓k_cm, ↓k_cz, ↓k_an2, ↓k_or2, ↓k_no, ↓k_ci, ↓k_l0, ↓k_r0, ↓k_se0, ↓k_ic0, ↓k_l1, ↓k_r1, ↓k_se1, ↓k_ic1, ↓k_de1, ↓k_tk1, ↓k_l2, ↓k_r2, ↓k_se2, ↓k_ic2, ↓k_de2, ↓k_tk2, ↓k_l3, ↓k_r3, ↓k_se3, ↓k_ic3, ↓k_de3, ↓k_tk3, ↓k_l4, ↓k_r4, ↓k_se4, ↓k_ic4, ↓k_de4, ↓k_tk4, ↓k_l5, ↓k_r5, ↓k_se5, ↓k_ic5, ↓k_de5, ↓k_tk5, ↓k_l6, ↓k_r6, ↓k_se6, ↓k_ic6, ↓k_de6, ↓k_tk6, ↓k_l7, ↓k_r7, ↓k_se7, ↓k_ic7, ↓k_de7, ↓k_tk7, ↓k_l8, ↓k_r8, ↓k_se8, ↓k_ic8, ↓k_de8, ↓k_tk8, ↓k_l9, ↓k_r9, ↓k_se9, ↓k_ic9, ↓k_de9, ↓k_tk9, ↓k_l10, ↓k_r10, ↓k_se10, ↓k_ic10, ↓k_de10, ↓k_tk10, ↓k_l11, ↓k_r11, ↓k_se11, ↓k_ic11, ↓k_de11, ↓k_tk11, ↓k_l12, ↓k_r12, ↓k_se12, ↓k_ic12, ↓k_de12, ↓k_tk12, ↓k_l13, ↓k_r13, ↓k_se13, ↓k_ic13, ↓k_de13, ↓k_tk13, ↓k_l14, ↓k_r14, ↓k_se14, ↓k_ic14, ↓k_de14, ↓k_tk14, ↓k_l15, ↓k_r15, ↓k_se15, ↓k_ic15, ↓k_de15, ↓k_tk15, ↓k_l16, ↓k_r16, ↓k_se16, ↓k_ic16, ↓k_de16, ↓k_tk16, ↓k_l17, ↓k_r17, ↓k_se17, ↓k_ic17, ↓k_de17, ↓k_tk17, ↓k_l18, ↓k_r18, ↓k_se18, ↓k_ic18, ↓k_de18, ↓k_tk18, ↓k_l19, ↓k_r19, ↓k_se19, ↓k_ic19, ↓k_de19, ↓k_tk19, ↓k_l20, ↓k_r20, ↓k_se20, ↓k_ic20, ↓k_de20, ↓k_tk20, ↓k_l21, ↓k_r21, ↓k_se21, ↓k_ic21, ↓k_de21, ↓k_tk21, ↓k_l22, ↓k_r22, ↓k_se22, ↓k_ic22, ↓k_de22, ↓k_tk22, ↓k_l23, ↓k_r23, ↓k_se23, ↓k_ic23, ↓k_de23, ↓k_tk23, ↓k_l24, ↓k_r24, ↓k_se24, ↓k_ic24, ↓k_de24, ↓k_tk24, ↓k_l25, ↓k_r25, ↓k_se25, ↓k_ic25, ↓k_de25, ↓k_tk25, ↓k_k, ↓k_kn, ↓k_kl, ↓k_kln, ↓k_il, ↓k_1, ↓k_2c, ↓k_2l, ↓k_ac, ↓k_an, ↓k_cs, ↓k_cv, ↓k_fi, ↓k_fr, ↓k_ai, ↓k_az, ↓k_ar, ↓k_sai, ↓k_saz, ↓k_soa, ↓k_sof, ↓k_spf, ↓k_sx, ↓k_blk, ↓k_sset, ↓k_sdec, ↓k_sri, ↓k_srv, ↓k_srr, ↓k_nop, ↓k_add, ↓k_sub, ↓k_mul, ↓k_min, ↓k_max, ↓k_shr, ↓k_shl, ↓k_or, ↓k_ilz, ↓k_addl, ↓k_rt, ↓k_rb, ↓k_rbz, ↓k_rsi, ↓k_rsr, ↓k_rsv, ↓reduceIte, ↓(k_cv3 dX12_itemWays (t12 hM)), ↓cI, y0, ↓k_idxN1, dz, z0, eq_self, ↓xr12_49 hM, ↓xa12_49 hM, ↓xs12_49 hM, ↓xo12_49 hM, ↓xc12_49 hM, ↓xd12_49 hM, List.length_cons, List.length_nil, List.forall_mem_cons, List.not_mem_nil, Value.category, true_and, and_true, false_and, and_false, or_true, true_or, or_false, false_or, Nat.zero_le, forall_const, implies_true, false_implies, Nat.zero_add, Nat.reduceAdd, Nat.reduceLT, Nat.reduceLeDiff, Nat.le_refl, not_true_eq_false, not_false_eq_true, r_eq, r_ne, r_lt, r_ge, r_gt, r_le, bz_ne, nn_toNat, cn_of, cn_0, cn_1, i10, Int.reduceLE, Int.reduceLT, Int.reduceEq, bz_T, bz_F, ite_self, mulc, st_bud]
      exact hh) (fun Kt Kf hh => by
    have en : p + 1 + (((q - (p + 1)).toNat : Nat) : Int) = q := by omega
    rw [en]
    obtain ⟨y, z, yb, zb, ey, ez, dz, cI⟩ := one q z1 qj
    have y0 : ¬ y = 0 := by
      have := ey.mpr z2
      omega
    have z0 : ¬ z = 0 := by
      have := ez.mpr z3
      omega
    have xb : 0 ≤ q ∧ q ≤ 16 := by omega
    clear one hd hX hft wb zz qn c3 d1 d2 d3 d4 d5 he hne ey ez
    simp (disch := omega) only [↓wcX12_readInto_2.eq_1, ↓(k_cv3 dX12_itemWays (t12 hM)), ↓k_mk, ↓k_sq, ↓k_sk, ↓k_bk, ↓k_if, ↓k_te, ↓k_cm, ↓k_cz, ↓k_an2, ↓k_or2, ↓k_no, ↓k_ci, ↓k_l0, ↓k_r0, ↓k_se0, ↓k_ic0, ↓k_l1, ↓k_r1, ↓k_se1, ↓k_ic1, ↓k_de1, ↓k_tk1, ↓k_l2, ↓k_r2, ↓k_se2, ↓k_ic2, ↓k_de2, ↓k_tk2, ↓k_l3, ↓k_r3, ↓k_se3, ↓k_ic3, ↓k_de3, ↓k_tk3, ↓k_l4, ↓k_r4, ↓k_se4, ↓k_ic4, ↓k_de4, ↓k_tk4, ↓k_l5, ↓k_r5, ↓k_se5, ↓k_ic5, ↓k_de5, ↓k_tk5, ↓k_l6, ↓k_r6, ↓k_se6, ↓k_ic6, ↓k_de6, ↓k_tk6, ↓k_l7, ↓k_r7, ↓k_se7, ↓k_ic7, ↓k_de7, ↓k_tk7, ↓k_l8, ↓k_r8, ↓k_se8, ↓k_ic8, ↓k_de8, ↓k_tk8, ↓k_l9, ↓k_r9, ↓k_se9, ↓k_ic9, ↓k_de9, ↓k_tk9, ↓k_l10, ↓k_r10, ↓k_se10, ↓k_ic10, ↓k_de10, ↓k_tk10, ↓k_l11, ↓k_r11, ↓k_se11, ↓k_ic11, ↓k_de11, ↓k_tk11, ↓k_l12, ↓k_r12, ↓k_se12, ↓k_ic12, ↓k_de12, ↓k_tk12, ↓k_l13, ↓k_r13, ↓k_se13, ↓k_ic13, ↓k_de13, ↓k_tk13, ↓k_l14, ↓k_r14, ↓k_se14, ↓k_ic14, ↓k_de14, ↓k_tk14, ↓k_l15, ↓k_r15, ↓k_se15, ↓k_ic15, ↓k_de15, ↓k_tk15, ↓k_l16, ↓k_r16, ↓k_se16, ↓k_ic16, ↓k_de16, ↓k_tk16, ↓k_l17, ↓k_r17, ↓k_se17, ↓k_ic17, ↓k_de17, ↓k_tk17, ↓k_l18, ↓k_r18, ↓k_se18, ↓k_ic18, ↓k_de18, ↓k_tk18, ↓k_l19, ↓k_r19, ↓k_se19, ↓k_ic19, ↓k_de19, ↓k_tk19, ↓k_l20, ↓k_r20, ↓k_se20, ↓k_ic20, ↓k_de20, ↓k_tk20, ↓k_l21, ↓k_r21, ↓k_se21, ↓k_ic21, ↓k_de21, ↓k_tk21, ↓k_l22, ↓k_r22, ↓k_se22, ↓k_ic22, ↓k_de22, ↓k_tk22, ↓k_l23, ↓k_r23, ↓k_se23, ↓k_ic23, ↓k_de23, ↓k_tk23, ↓k_l24, ↓k_r24, ↓k_se24, ↓k_ic24, ↓k_de24, ↓k_tk24, ↓k_l25, ↓k_r25, ↓k_se25, ↓k_ic25, ↓k_de25, ↓k_tk25, ↓k_k, ↓k_kn, ↓k_kl, ↓k_kln, ↓k_il, ↓k_1, ↓k_2c, ↓k_2l, ↓k_ac, ↓k_an, ↓k_cs, ↓k_cv, ↓k_fi, ↓k_fr, ↓k_ai, ↓k_az, ↓k_ar, ↓k_sai, ↓k_saz, ↓k_soa, ↓k_sof, ↓k_spf, ↓k_sx, ↓k_blk, ↓k_sset, ↓k_sdec, ↓k_sri, ↓k_srv, ↓k_srr, ↓k_nop, ↓k_add, ↓k_sub, ↓k_mul, ↓k_min, ↓k_max, ↓k_shr, ↓k_shl, ↓k_or, ↓k_ilz, ↓k_addl, ↓k_rt, ↓k_rb, ↓k_rbz, ↓k_rsi, ↓k_rsr, ↓k_rsv, ↓reduceIte, ↓(k_cv3 dX12_itemWays (t12 hM)), ↓cI, y0, ↓k_idxN1, dz, z0, ↓xr12_49 hM, ↓xa12_49 hM, ↓xs12_49 hM, ↓xo12_49 hM, ↓xc12_49 hM, ↓xd12_49 hM, List.length_cons, List.length_nil, List.forall_mem_cons, List.not_mem_nil, Value.category, true_and, and_true, false_and, and_false, or_true, true_or, or_false, false_or, Nat.zero_le, forall_const, implies_true, false_implies, Nat.zero_add, Nat.reduceAdd, Nat.reduceLT, Nat.reduceLeDiff, Nat.le_refl, not_true_eq_false, not_false_eq_true, r_eq, r_ne, r_lt, r_ge, r_gt, r_le, bz_ne, nn_toNat, cn_of, cn_0, cn_1, i10, Int.reduceLE, Int.reduceLT, Int.reduceEq, bz_T, bz_F, ite_self, mulc, st_bud]
    exact hh) Kn Kr
  rw [show p + 1 + ((0 : Nat) : Int) = p + 1 by omega, show p + 1 + (((q - (p + 1)).toNat : Nat) : Int) = q by omega] at w'
  exact w'
/-- the items of a node: leaves are put, sorts wait -/
theorem rd_items {T : Nat → Option q_T} {nx B : Nat} {R : Nat → Nat → Option Value} {G0 : Nat → Int → Int} {v nf N : Int} {sf n C X : Int → Int} {ft : Int → Int → Bool} {Q : Int → Int → Int → Int} {ns I c : Int → Int} {kk P L : Nat} {s i j e f W F h : Int} {cc : Nat → Int} {u : Nat → List Int} (hM : Ly T R (B + 544) (L12 (B + 544))) (trc : TRC G0 B v nf sf n C) (v0 : 0 ≤ v) (v1 : v ≤ 1) (wb : WBr G0 B) (zz : ∀ s x y, 0 ≤ x → x < y → y ≤ N → (Q s x y = 0 ↔ 0 < wyc (G0 (B + 544 + 40)) s x y)) (qn : ∀ s x y, 0 ≤ x → x ≤ y → y ≤ N → 0 ≤ Q s x y ∧ (x = y → 1 ≤ Q s x y)) (hft : ∀ it x, 0 ≤ x → x < N → ft it x = sutB it (X x)) (hX : ∀ x, 0 ≤ x → x < N → G0 (B + 544 + 39) x = X x ∧ -2147483648 ≤ X x ∧ X x < 2147483648) (n16 : N ≤ 16) (hS : ∀ f, 0 ≤ f → f < nf → Fsl n C ns I f) (prL : Pre ns c L) (n5 : ∀ q : Nat, q < L → 1000 ≤ c q → ns (c q - 1000) ≤ 5) (i0 : 0 ≤ i) (ij : i ≤ j) (jN : j ≤ N) (f0 : 0 ≤ f) (f1 : f < nf) (s0 : 0 ≤ s) (hFf : F = 14 * v + f) (hh : h = nb c P) (h40 : h < 40) (c0 : cc 0 = i) (hcut : ∀ m : Nat, (m : Int) < n f → FsC n C ft Q j f m (cc m) (cc (m + 1))) (hu : ∀ m : Nat, (m : Int) < n f → (C (5 * f + m) ≤ 11 → u m = []) ∧ (11 < C (5 * f + m) → C (5 * f + m) < 60 → u m = [ftc ft X N (C (5 * f + m)) (cc m) (cc (m + 1))]) ∧ (60 ≤ C (5 * f + m) → GW nf sf n C ft Q X N kk (C (5 * f + m) - 60) (cc m) (cc (m + 1)) (u m))) (hA' : At c P ((1000 + f) :: cat u (n f).toNat)) (hPL : P + 1 + (cat u (n f).toNat).length ≤ L)
    (pr : Pre ns c P) (dP : 1 ≤ dd ns c P) (W0 : 0 ≤ W) (W1 : W + 5 < 220) {G1 : Nat → Int → Int} (nc1 : NCr G0 G1 B) (hd : RT G1 B Q ft C n i j f) (z0 : rF 1000000 Q ft C n j f 0 i = 0) (bs1 : BS ns c G1 B 92 v (P + 1)) (el1 : EL ns c G1 B 92 (P + 1) L h 0) (p1 : G1 (B + 544) 50 = W) (l1 : G1 (B + 544) 22 = 0) :
    ∀ m : Nat, (m : Int) ≤ n f → ∃ Gm, NCr G0 Gm B ∧ Gm (B + 544 + 41) = G1 (B + 544 + 41) ∧ BS ns c Gm B 92 v (P + 1) ∧ EL ns c Gm B 92 (P + 1) L h (nsl (fun x => C (5 * f + x)) m) ∧ Gm (B + 544) 50 = W + ksl (fun x => C (5 * f + x)) m ∧ Gm (B + 544) 22 = 0 ∧ SPl G1 Gm B W ∧ (∀ m' : Nat, m' < m → 60 ≤ C (5 * f + m') → SP5 Gm B (W + ksl (fun x => C (5 * f + x)) m') (C (5 * f + m') - 60) (cc m') (cc (m' + 1)) h (nsl (fun x => C (5 * f + x)) m')) ∧
      ∀ (Kn : List Value → q_M → Prop) (Kr : Option Value → q_M → Prop), q_wh wcX12_readInto_1 wsX12_readInto_1 [.ref (B + 544), .int (zI v), .int (zI 92), .int (zI e), .int (zI (cc m)), .int (zI F), .int (zI h), .int (zI W), .int (zI (nsl (fun x => C (5 * f + x)) m)), .int (zI m)] (st T nx 0 0 R Gm) Kn Kr → q_wh wcX12_readInto_1 wsX12_readInto_1 [.ref (B + 544), .int (zI v), .int (zI 92), .int (zI e), .int (zI i), .int (zI F), .int (zI h), .int (zI W), .int (zI 0), .int (zI 0)] (st T nx 0 0 R G1) Kn Kr := by
  have trc' := trc
  obtain ⟨t1, t2, t3⟩ := trc'
  obtain ⟨d1, d2, d3, d4, d5⟩ := t3 f f0 f1
  have hC : ∀ f m, 0 ≤ f → f < nf → 0 ≤ m → m < n f → itR (C (5 * f + m)) := fun f m f0 f1 m0 m1 => ((t3 f f0 f1).2.2.2.2 m m0 m1).2
  have n1 : ∀ f, 0 ≤ f → f < nf → 1 ≤ n f := fun f f0 f1 => (t3 f f0 f1).2.2.2.1.1
  have kids := gw_kids hft n16 hC hS n1 i0 ij jN f0 f1 s0 c0 hcut hu hA' pr dP
  have h0 : 0 ≤ h := by rw [hh]; exact (nb_b c P).1
  have sfl := (hS f f0 f1).1
  have hA2 := hA'.2
  have n5' : ns f ≤ 5 := by
    have := n5 P (by omega) (by rw [hA'.1]; omega)
    rw [hA'.1, show 1000 + f - 1000 = f by omega] at this
    exact this
  have zc := cuts_zero (C := C) (n := n) (f := f) (j := j) qn i0 ij jN c0 hcut z0
  intro m
  induction m with
  | zero =>
    intro _
    refine ⟨G1, nc1, rfl, bs1, el1, by rw [p1]; show W = W + 0; omega, l1, fun _ _ => ⟨rfl, rfl, rfl, rfl, rfl⟩, fun m' hm' => absurd hm' (by omega), fun Kn Kr hq => ?_⟩
    rw [c0] at hq
    exact hq
  | succ m ih =>
    intro hm
    obtain ⟨Gm, a1, a2, a3, a4, a5, a6, a7, a8, st1⟩ := ih (by omega)
    obtain ⟨⟨k1, k2⟩, kw⟩ := kids m (by omega)
    obtain ⟨u1, u2, u3⟩ := hu m (by omega)
    have hc' := hcut m (by omega)
    obtain ⟨q1, q2⟩ := hc'.1
    obtain ⟨it, hit⟩ : ∃ it, it = C (5 * f + m) := ⟨_, rfl⟩
    have ir := hC f m f0 f1 (by omega) (by omega)
    have lw := w_read2 (T := T) (nx := nx) (rc := 0) (rs := 0) (R := R) (G := Gm) (e := e) (F := F) (h := h) (W := W) (sl := nsl (fun x => C (5 * f + x)) m) (k := (m : Int)) (f := f) (i := i) hM trc v0 v1 wb zz qn hft hX n16 (MZr_of a1) f0 f1 (by omega) (by omega) i0 k1 jN (by unfold RT at hd ⊢; rw [a2]; exact hd) (zc m (by omega)).1 hc'
    obtain ⟨lp, lz, lw⟩ := lw
    obtain ⟨p, hp⟩ : ∃ p, p = cc m := ⟨_, rfl⟩
    obtain ⟨q, hq⟩ : ∃ q, q = cc (m + 1) := ⟨_, rfl⟩
    rw [← hp, ← hq] at u2 u3 lw q1 lp lz
    rw [← hp] at k1 k2 st1
    rw [← hq] at q2
    rw [← hit] at ir u1 u2 u3 lw lz
    have i65 : 0 ≤ it ∧ it ≤ 65 := by
      unfold itR at ir
      omega
    obtain ⟨rr', hr⟩ := cat_pre u (show m + 1 ≤ (n f).toNat by omega)
    have hA3 := hA2
    rw [hr, At_app, cat_s, At_app] at hA3
    have len2 : (cat u (m + 1)).length ≤ (cat u (n f).toNat).length := by rw [hr, List.length_append]; omega
    rw [cat_s, List.length_append] at len2
    have nb5 := nsl_b (fun x => C (5 * f + x)) m
    have kb5 := ksl_b (fun x => C (5 * f + x)) m
    have gi : Gm (B + 544 + 5) (5 * F + m) = it := by rw [(MZr_of a1).1 _ (by omega) (by omega), hFf, (d5 m (by omega) (by omega)).1, hit]
    have gn : Gm (B + 544 + 4) F = n f := by rw [(MZr_of a1).1 _ (by omega) (by omega), hFf]; exact d3
    have Fb : 0 ≤ F ∧ F < 28 := by omega
    have mb : (m : Int) < n f ∧ (m : Int) < 5 := by omega
    have em1 : ((m + 1 : Nat) : Int) = (m : Int) + 1 := by omega
    obtain ⟨sl, hsl⟩ : ∃ sl, sl = nsl (fun x => C (5 * f + x)) m := ⟨_, rfl⟩
    obtain ⟨nff, hnf⟩ : ∃ x, x = n f := ⟨_, rfl⟩
    have nfb : 1 ≤ nff ∧ nff ≤ 5 := by omega
    by_cases hword : it ≤ 11
    · have u0 := u1 hword
      have wd : 0 ≤ (fun x => C (5 * f + x)) (m : Int) ∧ (fun x => C (5 * f + x)) (m : Int) ≤ 11 := by
        show 0 ≤ C (5 * f + m) ∧ C (5 * f + m) ≤ 11
        omega
      have en : nsl (fun x => C (5 * f + x)) (m + 1) = nsl (fun x => C (5 * f + x)) m := nsl_w _ wd
      have ek : ksl (fun x => C (5 * f + x)) (m + 1) = ksl (fun x => C (5 * f + x)) m := by
        rw [ksl_s, if_neg (by omega)]
        omega
      rw [en, ek]
      refine ⟨Gm, a1, a2, a3, a4, a5, a6, a7, fun m' hm' h60 => ?_, fun Kn Kr hk => st1 Kn Kr (q_backR (fun K Kf hk2 => ?_) hk)⟩
      · by_cases z : m' = m
        · subst z
          omega
        · exact a8 m' (by omega) h60
      · rw [em1, ← hq, ← hsl] at hk2
        rw [← hsl] at lw ⊢
        have w1 : 0 ≤ it ∧ it ≤ 11 := by omega
        have w2 : ¬ (60 ≤ it ∧ it ≤ 65) := by omega
        have slb : 0 ≤ sl ∧ sl ≤ 5 := by omega
        rw [← hnf] at gn mb
        clear ih st1 a1 a2 a3 a4 a5 a6 a7 a8 kids kw hcut hu hA' hA2 hA3 hX hft wb zz qn trc t3 d1 d2 d3 d4 d5 hC n1 hS prL n5 hd bs1 el1 nc1 hc' u0 u1 u2 u3
        simp (disch := omega) only [↓wcX12_readInto_1.eq_1, ↓wsX12_readInto_1.eq_1, ↓(k_cs1 dX12_isSort), ↓(k_cs1 dX12_isWord), ↓(k_cv4 dX12_putLeaf (t12 hM)), ↓(k_cv5 dX12_awaitPart (t12 hM)), ↓k_mk, ↓k_sq, ↓k_sk, ↓k_bk, ↓k_if, ↓k_te, ↓k_cm, ↓k_cz, ↓k_an2, ↓k_or2, ↓k_no, ↓k_ci, ↓k_l0, ↓k_r0, ↓k_se0, ↓k_ic0, ↓k_l1, ↓k_r1, ↓k_se1, ↓k_ic1, ↓k_de1, ↓k_tk1, ↓k_l2, ↓k_r2, ↓k_se2, ↓k_ic2, ↓k_de2, ↓k_tk2, ↓k_l3, ↓k_r3, ↓k_se3, ↓k_ic3, ↓k_de3, ↓k_tk3, ↓k_l4, ↓k_r4, ↓k_se4, ↓k_ic4, ↓k_de4, ↓k_tk4, ↓k_l5, ↓k_r5, ↓k_se5, ↓k_ic5, ↓k_de5, ↓k_tk5, ↓k_l6, ↓k_r6, ↓k_se6, ↓k_ic6, ↓k_de6, ↓k_tk6, ↓k_l7, ↓k_r7, ↓k_se7, ↓k_ic7, ↓k_de7, ↓k_tk7, ↓k_l8, ↓k_r8, ↓k_se8, ↓k_ic8, ↓k_de8, ↓k_tk8, ↓k_l9, ↓k_r9, ↓k_se9, ↓k_ic9, ↓k_de9, ↓k_tk9, ↓k_l10, ↓k_r10, ↓k_se10, ↓k_ic10, ↓k_de10, ↓k_tk10, ↓k_l11, ↓k_r11, ↓k_se11, ↓k_ic11, ↓k_de11, ↓k_tk11, ↓k_l12, ↓k_r12, ↓k_se12, ↓k_ic12, ↓k_de12, ↓k_tk12, ↓k_l13, ↓k_r13, ↓k_se13, ↓k_ic13, ↓k_de13, ↓k_tk13, ↓k_l14, ↓k_r14, ↓k_se14, ↓k_ic14, ↓k_de14, ↓k_tk14, ↓k_l15, ↓k_r15, ↓k_se15, ↓k_ic15, ↓k_de15, ↓k_tk15, ↓k_l16, ↓k_r16, ↓k_se16, ↓k_ic16, ↓k_de16, ↓k_tk16, ↓k_l17, ↓k_r17, ↓k_se17, ↓k_ic17, ↓k_de17, ↓k_tk17, ↓k_l18, ↓k_r18, ↓k_se18, ↓k_ic18, ↓k_de18, ↓k_tk18, ↓k_l19, ↓k_r19, ↓k_se19, ↓k_ic19, ↓k_de19, ↓k_tk19, ↓k_l20, ↓k_r20, ↓k_se20, ↓k_ic20, ↓k_de20, ↓k_tk20, ↓k_l21, ↓k_r21, ↓k_se21, ↓k_ic21, ↓k_de21, ↓k_tk21, ↓k_l22, ↓k_r22, ↓k_se22, ↓k_ic22, ↓k_de22, ↓k_tk22, ↓k_l23, ↓k_r23, ↓k_se23, ↓k_ic23, ↓k_de23, ↓k_tk23, ↓k_l24, ↓k_r24, ↓k_se24, ↓k_ic24, ↓k_de24, ↓k_tk24, ↓k_l25, ↓k_r25, ↓k_se25, ↓k_ic25, ↓k_de25, ↓k_tk25, ↓k_k, ↓k_kn, ↓k_kl, ↓k_kln, ↓k_il, ↓k_1, ↓k_2c, ↓k_2l, ↓k_ac, ↓k_an, ↓k_cs, ↓k_cv, ↓k_fi, ↓k_fr, ↓k_ai, ↓k_az, ↓k_ar, ↓k_sai, ↓k_saz, ↓k_soa, ↓k_sof, ↓k_spf, ↓k_sx, ↓k_blk, ↓k_sset, ↓k_sdec, ↓k_sri, ↓k_srv, ↓k_srr, ↓k_nop, ↓k_add, ↓k_sub, ↓k_mul, ↓k_min, ↓k_max, ↓k_shr, ↓k_shl, ↓k_or, ↓k_ilz, ↓k_addl, ↓k_rt, ↓k_rb, ↓k_rbz, ↓k_rsi, ↓k_rsr, ↓k_rsv, ↓reduceIte, gn, mb, h0, ↓k_idxN3, gi, ↓lw, ↓c12_isSort, ↓c12_isWord, w1, w2, ↓(k_2 q_giadd (q_l 4)), ↓(k_2 q_giadd (q_l 8)), Int.add_zero, eq_self, ↓xr12_3 hM, ↓xa12_3 hM, ↓xs12_3 hM, ↓xo12_3 hM, ↓xc12_3 hM, ↓xd12_3 hM, ↓xr12_4 hM, ↓xa12_4 hM, ↓xs12_4 hM, ↓xo12_4 hM, ↓xc12_4 hM, ↓xd12_4 hM, List.length_cons, List.length_nil, List.forall_mem_cons, List.not_mem_nil, Value.category, true_and, and_true, false_and, and_false, or_true, true_or, or_false, false_or, Nat.zero_le, forall_const, implies_true, false_implies, Nat.zero_add, Nat.reduceAdd, Nat.reduceLT, Nat.reduceLeDiff, Nat.le_refl, not_true_eq_false, not_false_eq_true, r_eq, r_ne, r_lt, r_ge, r_gt, r_le, bz_ne, nn_toNat, cn_of, cn_0, cn_1, i10, Int.reduceLE, Int.reduceLT, Int.reduceEq, bz_T, bz_F, ite_self, mulc, st_bud]
        exact hk2
    · have nw' : ¬ (0 ≤ (fun x => C (5 * f + x)) (m : Int) ∧ (fun x => C (5 * f + x)) (m : Int) ≤ 11) := by
        show ¬ (0 ≤ C (5 * f + m) ∧ C (5 * f + m) ≤ 11)
        omega
      have en : nsl (fun x => C (5 * f + x)) (m + 1) = nsl (fun x => C (5 * f + x)) m + 1 := nsl_n _ nw'
      have nlt : nsl (fun x => C (5 * f + x)) m < ns f := by
        have := nsl_mono (fun x => C (5 * f + x)) (show m + 1 ≤ (n f).toNat by omega)
        rw [en] at this
        rw [sfl]
        omega
      have hY := gw_head kw nlt
      by_cases h60 : 60 ≤ it
      · have ek : ksl (fun x => C (5 * f + x)) (m + 1) = ksl (fun x => C (5 * f + x)) m + 1 := by
          rw [ksl_s, if_pos (by show 60 ≤ C (5 * f + m); omega)]
        obtain ⟨f', r', fb0, fb1, hw⟩ := GW_head (u3 h60)
        have hA4 := hA3.1.2
        rw [hw] at hA4
        have cY := hA4.1
        have lenp : 1 ≤ (u m).length := by rw [hw, List.length_cons]; omega
        have kle := ksl_mono (fun x => C (5 * f + x)) (show m + 1 ≤ (n f).toNat by omega)
        have kb' := ksl_b (fun x => C (5 * f + x)) (n f).toNat
        obtain ⟨Ga, g1, g2, g3, g4, g5, g6⟩ := c12_awaitPart (T := T) (nx := nx) (rc := 0) (rs := 0) (R := R) (G := Gm) (W := W + ksl (fun x => C (5 * f + x)) m) (s := it - 60) (p := p) (e := q) (n := h) (t := nsl (fun x => C (5 * f + x)) m) hM (by omega) (by omega) a5
        have ncg : NCr Gm Ga B := NCr_of (fun x w1 w2 w3 => g1 x (by omega) w3) (fun j w1 w2 => g2 j w2)
        rw [en, ek]
        refine ⟨Ga, NCr_tr a1 ncg, by rw [g1 _ (by omega) (by omega)]; exact a2, BS_congr (fun x w1 w2 => g1 x (by omega) (by omega)) a3, EL_congr (g1 _ (by omega) (by omega)) (EL_sort prL n5 (Y := P + 1 + (cat u m).length) (by omega) (by rw [hh]; exact hY) (by rw [cY]; omega) a4), by rw [g3]; omega, by rw [g2 _ (by omega)]; exact a6, SPl_tr a7 g4 (by omega), fun m' hm' h60' => ?_, fun Kn Kr hk => st1 Kn Kr (q_backR (fun K Kf hk2 => ?_) hk)⟩
        · by_cases z : m' = m
          · subst z
            rw [← hit, ← hp, ← hq]
            exact g5
          · have km := ksl_mono (fun x => C (5 * f + x)) (show m' + 1 ≤ m by omega)
            have ks := ksl_s (fun x => C (5 * f + x)) m'
            rw [if_pos (by show 60 ≤ C (5 * f + m'); exact h60')] at ks
            exact SP5_lo g4 (by omega) (a8 m' (by omega) h60')
        · rw [em1, ← hq, ← hsl] at hk2
          rw [← hsl] at lw g6 ⊢
          have w1 : ¬ (0 ≤ it ∧ it ≤ 11) := by omega
          have w2 : 60 ≤ it ∧ it ≤ 65 := by omega
          have slb : 0 ≤ sl ∧ sl ≤ 5 := by omega
          have ks : ∀ (μ : q_M) (K : Int32 → q_M → Prop), (q_2 q_gisub (q_l 10) (q_k 60)) [.ref (B + 544), .int (zI v), .int (zI 92), .int (zI e), .int (zI p), .int (zI F), .int (zI h), .int (zI W), .int (zI sl), .int (zI m), .int (zI it), .int (zI q)] μ K = K (zI (it - 60)) μ := fun μ K => by
            simp (disch := omega) only [↓k_mk, ↓k_sq, ↓k_sk, ↓k_bk, ↓k_if, ↓k_te, ↓k_cm, ↓k_cz, ↓k_an2, ↓k_or2, ↓k_no, ↓k_ci, ↓k_l0, ↓k_r0, ↓k_se0, ↓k_ic0, ↓k_l1, ↓k_r1, ↓k_se1, ↓k_ic1, ↓k_de1, ↓k_tk1, ↓k_l2, ↓k_r2, ↓k_se2, ↓k_ic2, ↓k_de2, ↓k_tk2, ↓k_l3, ↓k_r3, ↓k_se3, ↓k_ic3, ↓k_de3, ↓k_tk3, ↓k_l4, ↓k_r4, ↓k_se4, ↓k_ic4, ↓k_de4, ↓k_tk4, ↓k_l5, ↓k_r5, ↓k_se5, ↓k_ic5, ↓k_de5, ↓k_tk5, ↓k_l6, ↓k_r6, ↓k_se6, ↓k_ic6, ↓k_de6, ↓k_tk6, ↓k_l7, ↓k_r7, ↓k_se7, ↓k_ic7, ↓k_de7, ↓k_tk7, ↓k_l8, ↓k_r8, ↓k_se8, ↓k_ic8, ↓k_de8, ↓k_tk8, ↓k_l9, ↓k_r9, ↓k_se9, ↓k_ic9, ↓k_de9, ↓k_tk9, ↓k_l10, ↓k_r10, ↓k_se10, ↓k_ic10, ↓k_de10, ↓k_tk10, ↓k_l11, ↓k_r11, ↓k_se11, ↓k_ic11, ↓k_de11, ↓k_tk11, ↓k_l12, ↓k_r12, ↓k_se12, ↓k_ic12, ↓k_de12, ↓k_tk12, ↓k_l13, ↓k_r13, ↓k_se13, ↓k_ic13, ↓k_de13, ↓k_tk13, ↓k_l14, ↓k_r14, ↓k_se14, ↓k_ic14, ↓k_de14, ↓k_tk14, ↓k_l15, ↓k_r15, ↓k_se15, ↓k_ic15, ↓k_de15, ↓k_tk15, ↓k_l16, ↓k_r16, ↓k_se16, ↓k_ic16, ↓k_de16, ↓k_tk16, ↓k_l17, ↓k_r17, ↓k_se17, ↓k_ic17, ↓k_de17, ↓k_tk17, ↓k_l18, ↓k_r18, ↓k_se18, ↓k_ic18, ↓k_de18, ↓k_tk18, ↓k_l19, ↓k_r19, ↓k_se19, ↓k_ic19, ↓k_de19, ↓k_tk19, ↓k_l20, ↓k_r20, ↓k_se20, ↓k_ic20, ↓k_de20, ↓k_tk20, ↓k_l21, ↓k_r21, ↓k_se21, ↓k_ic21, ↓k_de21, ↓k_tk21, ↓k_l22, ↓k_r22, ↓k_se22, ↓k_ic22, ↓k_de22, ↓k_tk22, ↓k_l23, ↓k_r23, ↓k_se23, ↓k_ic23, ↓k_de23, ↓k_tk23, ↓k_l24, ↓k_r24, ↓k_se24, ↓k_ic24, ↓k_de24, ↓k_tk24, ↓k_l25, ↓k_r25, ↓k_se25, ↓k_ic25, ↓k_de25, ↓k_tk25, ↓k_k, ↓k_kn, ↓k_kl, ↓k_kln, ↓k_il, ↓k_2, ↓k_1, ↓k_2c, ↓k_2l, ↓k_ac, ↓k_an, ↓k_cs, ↓k_cv, ↓k_fi, ↓k_fr, ↓k_ai, ↓k_az, ↓k_ar, ↓k_sai, ↓k_saz, ↓k_soa, ↓k_sof, ↓k_spf, ↓k_sx, ↓k_blk, ↓k_sset, ↓k_sdec, ↓k_sri, ↓k_srv, ↓k_srr, ↓k_nop, ↓k_add, ↓k_sub, ↓k_mul, ↓k_min, ↓k_max, ↓k_shr, ↓k_shl, ↓k_or, ↓k_ilz, ↓k_addl, ↓k_rt, ↓k_rb, ↓k_rbz, ↓k_rsi, ↓k_rsr, ↓k_rsv, ↓reduceIte, eq_self, List.length_cons, List.length_nil, List.forall_mem_cons, List.not_mem_nil, Value.category, true_and, and_true, false_and, and_false, or_true, true_or, or_false, false_or, Nat.zero_le, forall_const, implies_true, false_implies, Nat.zero_add, Nat.reduceAdd, Nat.reduceLT, Nat.reduceLeDiff, Nat.le_refl, not_true_eq_false, not_false_eq_true, r_eq, r_ne, r_lt, r_ge, r_gt, r_le, bz_ne, nn_toNat, cn_of, cn_0, cn_1, i10, Int.reduceLE, Int.reduceLT, Int.reduceEq, bz_T, bz_F, ite_self, mulc, st_bud]
          rw [← hnf] at gn mb
          clear ih st1 a1 a2 a3 a4 a5 a6 a7 a8 kids kw hcut hu hA' hA2 hA3 hX hft wb zz qn trc t3 d1 d2 d3 d4 d5 hC n1 hS prL n5 hd bs1 el1 nc1 hc' u1 u2 u3 hA4 g1 g2 g3 g4 g5 ncg
          simp (disch := omega) only [↓wcX12_readInto_1.eq_1, ↓wsX12_readInto_1.eq_1, ↓(k_cs1 dX12_isSort), ↓(k_cs1 dX12_isWord), ↓(k_cv4 dX12_putLeaf (t12 hM)), ↓(k_cv5 dX12_awaitPart (t12 hM)), ↓k_mk, ↓k_sq, ↓k_sk, ↓k_bk, ↓k_if, ↓k_te, ↓k_cm, ↓k_cz, ↓k_an2, ↓k_or2, ↓k_no, ↓k_ci, ↓k_l0, ↓k_r0, ↓k_se0, ↓k_ic0, ↓k_l1, ↓k_r1, ↓k_se1, ↓k_ic1, ↓k_de1, ↓k_tk1, ↓k_l2, ↓k_r2, ↓k_se2, ↓k_ic2, ↓k_de2, ↓k_tk2, ↓k_l3, ↓k_r3, ↓k_se3, ↓k_ic3, ↓k_de3, ↓k_tk3, ↓k_l4, ↓k_r4, ↓k_se4, ↓k_ic4, ↓k_de4, ↓k_tk4, ↓k_l5, ↓k_r5, ↓k_se5, ↓k_ic5, ↓k_de5, ↓k_tk5, ↓k_l6, ↓k_r6, ↓k_se6, ↓k_ic6, ↓k_de6, ↓k_tk6, ↓k_l7, ↓k_r7, ↓k_se7, ↓k_ic7, ↓k_de7, ↓k_tk7, ↓k_l8, ↓k_r8, ↓k_se8, ↓k_ic8, ↓k_de8, ↓k_tk8, ↓k_l9, ↓k_r9, ↓k_se9, ↓k_ic9, ↓k_de9, ↓k_tk9, ↓k_l10, ↓k_r10, ↓k_se10, ↓k_ic10, ↓k_de10, ↓k_tk10, ↓k_l11, ↓k_r11, ↓k_se11, ↓k_ic11, ↓k_de11, ↓k_tk11, ↓k_l12, ↓k_r12, ↓k_se12, ↓k_ic12, ↓k_de12, ↓k_tk12, ↓k_l13, ↓k_r13, ↓k_se13, ↓k_ic13, ↓k_de13, ↓k_tk13, ↓k_l14, ↓k_r14, ↓k_se14, ↓k_ic14, ↓k_de14, ↓k_tk14, ↓k_l15, ↓k_r15, ↓k_se15, ↓k_ic15, ↓k_de15, ↓k_tk15, ↓k_l16, ↓k_r16, ↓k_se16, ↓k_ic16, ↓k_de16, ↓k_tk16, ↓k_l17, ↓k_r17, ↓k_se17, ↓k_ic17, ↓k_de17, ↓k_tk17, ↓k_l18, ↓k_r18, ↓k_se18, ↓k_ic18, ↓k_de18, ↓k_tk18, ↓k_l19, ↓k_r19, ↓k_se19, ↓k_ic19, ↓k_de19, ↓k_tk19, ↓k_l20, ↓k_r20, ↓k_se20, ↓k_ic20, ↓k_de20, ↓k_tk20, ↓k_l21, ↓k_r21, ↓k_se21, ↓k_ic21, ↓k_de21, ↓k_tk21, ↓k_l22, ↓k_r22, ↓k_se22, ↓k_ic22, ↓k_de22, ↓k_tk22, ↓k_l23, ↓k_r23, ↓k_se23, ↓k_ic23, ↓k_de23, ↓k_tk23, ↓k_l24, ↓k_r24, ↓k_se24, ↓k_ic24, ↓k_de24, ↓k_tk24, ↓k_l25, ↓k_r25, ↓k_se25, ↓k_ic25, ↓k_de25, ↓k_tk25, ↓k_k, ↓k_kn, ↓k_kl, ↓k_kln, ↓k_il, ↓k_1, ↓k_2c, ↓k_2l, ↓k_ac, ↓k_an, ↓k_cs, ↓k_cv, ↓k_fi, ↓k_fr, ↓k_ai, ↓k_az, ↓k_ar, ↓k_sai, ↓k_saz, ↓k_soa, ↓k_sof, ↓k_spf, ↓k_sx, ↓k_blk, ↓k_sset, ↓k_sdec, ↓k_sri, ↓k_srv, ↓k_srr, ↓k_nop, ↓k_add, ↓k_sub, ↓k_mul, ↓k_min, ↓k_max, ↓k_shr, ↓k_shl, ↓k_or, ↓k_ilz, ↓k_addl, ↓k_rt, ↓k_rb, ↓k_rbz, ↓k_rsi, ↓k_rsr, ↓k_rsv, ↓reduceIte, gn, mb, h0, ↓k_idxN3, gi, ↓lw, ↓c12_isSort, ↓c12_isWord, w1, w2, ↓ks, ↓(k_cv5 dX12_awaitPart (t12 hM)), ↓g6, ↓(k_2 q_giadd (q_l 4)), ↓(k_2 q_giadd (q_l 8)), Int.add_zero, eq_self, ↓xr12_3 hM, ↓xa12_3 hM, ↓xs12_3 hM, ↓xo12_3 hM, ↓xc12_3 hM, ↓xd12_3 hM, ↓xr12_4 hM, ↓xa12_4 hM, ↓xs12_4 hM, ↓xo12_4 hM, ↓xc12_4 hM, ↓xd12_4 hM, List.length_cons, List.length_nil, List.forall_mem_cons, List.not_mem_nil, Value.category, true_and, and_true, false_and, and_false, or_true, true_or, or_false, false_or, Nat.zero_le, forall_const, implies_true, false_implies, Nat.zero_add, Nat.reduceAdd, Nat.reduceLT, Nat.reduceLeDiff, Nat.le_refl, not_true_eq_false, not_false_eq_true, r_eq, r_ne, r_lt, r_ge, r_gt, r_le, bz_ne, nn_toNat, cn_of, cn_0, cn_1, i10, Int.reduceLE, Int.reduceLT, Int.reduceEq, bz_T, bz_F, ite_self, mulc, st_bud]
          exact hk2
      · have ek : ksl (fun x => C (5 * f + x)) (m + 1) = ksl (fun x => C (5 * f + x)) m := by
          rw [ksl_s, if_neg (by show ¬ 60 ≤ C (5 * f + m); omega)]
          omega
        have um := u2 (by omega) (by omega)
        obtain ⟨x, hx⟩ : ∃ x, x = ftc ft X N it p q := ⟨_, rfl⟩
        have pN : p < N := by omega
        have gx : Gm (B + 544 + 39) p = x := by rw [(MZr_of a1).2.1, (hX p (by omega) pN).1, hx, (ftc_zero lz (by omega) (by omega) (by omega))]
        have pb16 : 0 ≤ p ∧ p < 16 := by omega
        rw [← hx] at um
        have hA4 := hA3.1.2
        rw [um] at hA4
        have cY := hA4.1
        have lenp : (u m).length = 1 := by rw [um]; rfl
        obtain ⟨Ga, e1⟩ : ∃ M, M = gs Gm (B + 544 + 21) (5 * (40 * 92 + h) + nsl (fun x => C (5 * f + x)) m) x := ⟨_, rfl⟩
        have o1 : ∀ y, ¬ y = (B + 544 + 21) → Ga y = Gm y := fun y w => by rw [e1, gs_ne w]
        have ncg : NCr Gm Ga B := by
          rw [e1]
          exact NCr_slot (by omega) (by omega)
        have cL := fun K : Option Value → q_M → Prop => c12_putLeafN (T := T) (nx := nx) (rc := 0) (rs := 0) (R := R) (G := Gm) (i := 92) (a := h) (b := nsl (fun x => C (5 * f + x)) m) (x := x) hM (by omega) (by omega) h0 h40 (by omega) (by omega) K
        rw [← e1] at cL
        rw [en, ek]
        refine ⟨Ga, NCr_tr a1 ncg, by rw [o1 _ (by omega)]; exact a2, by rw [e1, hh]; exact BS_put (Pre_le prL (by omega)) (fun q hq => n5 q (by omega)) (by omega) (by omega) a3, EL_leaf prL n5 (Y := P + 1 + (cat u m).length) (by omega) (by omega) (by rw [hh]; exact hY) cY.symm (by omega) (by omega) h0 e1 a4, by rw [o1 _ (by omega)]; exact a5, by rw [o1 _ (by omega)]; exact a6, SPl_tr a7 (SPl_of fun y w1 w2 => o1 y (by omega)) (Int.le_refl _), fun m' hm' h60' => ?_, fun Kn Kr hk => st1 Kn Kr (q_backR (fun K Kf hk2 => ?_) hk)⟩
        · by_cases z : m' = m
          · subst z
            omega
          · exact SP5_of (fun y w1 w2 => o1 y (by omega)) (a8 m' (by omega) h60')
        · rw [em1, ← hq, ← hsl] at hk2
          rw [← hsl] at lw cL ⊢
          have w1 : ¬ (0 ≤ it ∧ it ≤ 11) := by omega
          have w2 : ¬ (60 ≤ it ∧ it ≤ 65) := by omega
          have slb : 0 ≤ sl ∧ sl ≤ 5 := by omega
          rw [← hnf] at gn mb
          clear ih st1 a1 a2 a3 a4 a5 a6 a7 a8 kids kw hcut hu hA' hA2 hA3 hX hft wb zz qn trc t3 d1 d2 d3 d4 d5 hC n1 hS prL n5 hd bs1 el1 nc1 hc' u1 u2 u3 hA4 o1 e1 ncg
          simp (disch := omega) only [↓wcX12_readInto_1.eq_1, ↓wsX12_readInto_1.eq_1, ↓(k_cs1 dX12_isSort), ↓(k_cs1 dX12_isWord), ↓(k_cv4 dX12_putLeaf (t12 hM)), ↓(k_cv5 dX12_awaitPart (t12 hM)), ↓k_mk, ↓k_sq, ↓k_sk, ↓k_bk, ↓k_if, ↓k_te, ↓k_cm, ↓k_cz, ↓k_an2, ↓k_or2, ↓k_no, ↓k_ci, ↓k_l0, ↓k_r0, ↓k_se0, ↓k_ic0, ↓k_l1, ↓k_r1, ↓k_se1, ↓k_ic1, ↓k_de1, ↓k_tk1, ↓k_l2, ↓k_r2, ↓k_se2, ↓k_ic2, ↓k_de2, ↓k_tk2, ↓k_l3, ↓k_r3, ↓k_se3, ↓k_ic3, ↓k_de3, ↓k_tk3, ↓k_l4, ↓k_r4, ↓k_se4, ↓k_ic4, ↓k_de4, ↓k_tk4, ↓k_l5, ↓k_r5, ↓k_se5, ↓k_ic5, ↓k_de5, ↓k_tk5, ↓k_l6, ↓k_r6, ↓k_se6, ↓k_ic6, ↓k_de6, ↓k_tk6, ↓k_l7, ↓k_r7, ↓k_se7, ↓k_ic7, ↓k_de7, ↓k_tk7, ↓k_l8, ↓k_r8, ↓k_se8, ↓k_ic8, ↓k_de8, ↓k_tk8, ↓k_l9, ↓k_r9, ↓k_se9, ↓k_ic9, ↓k_de9, ↓k_tk9, ↓k_l10, ↓k_r10, ↓k_se10, ↓k_ic10, ↓k_de10, ↓k_tk10, ↓k_l11, ↓k_r11, ↓k_se11, ↓k_ic11, ↓k_de11, ↓k_tk11, ↓k_l12, ↓k_r12, ↓k_se12, ↓k_ic12, ↓k_de12, ↓k_tk12, ↓k_l13, ↓k_r13, ↓k_se13, ↓k_ic13, ↓k_de13, ↓k_tk13, ↓k_l14, ↓k_r14, ↓k_se14, ↓k_ic14, ↓k_de14, ↓k_tk14, ↓k_l15, ↓k_r15, ↓k_se15, ↓k_ic15, ↓k_de15, ↓k_tk15, ↓k_l16, ↓k_r16, ↓k_se16, ↓k_ic16, ↓k_de16, ↓k_tk16, ↓k_l17, ↓k_r17, ↓k_se17, ↓k_ic17, ↓k_de17, ↓k_tk17, ↓k_l18, ↓k_r18, ↓k_se18, ↓k_ic18, ↓k_de18, ↓k_tk18, ↓k_l19, ↓k_r19, ↓k_se19, ↓k_ic19, ↓k_de19, ↓k_tk19, ↓k_l20, ↓k_r20, ↓k_se20, ↓k_ic20, ↓k_de20, ↓k_tk20, ↓k_l21, ↓k_r21, ↓k_se21, ↓k_ic21, ↓k_de21, ↓k_tk21, ↓k_l22, ↓k_r22, ↓k_se22, ↓k_ic22, ↓k_de22, ↓k_tk22, ↓k_l23, ↓k_r23, ↓k_se23, ↓k_ic23, ↓k_de23, ↓k_tk23, ↓k_l24, ↓k_r24, ↓k_se24, ↓k_ic24, ↓k_de24, ↓k_tk24, ↓k_l25, ↓k_r25, ↓k_se25, ↓k_ic25, ↓k_de25, ↓k_tk25, ↓k_k, ↓k_kn, ↓k_kl, ↓k_kln, ↓k_il, ↓k_1, ↓k_2c, ↓k_2l, ↓k_ac, ↓k_an, ↓k_cs, ↓k_cv, ↓k_fi, ↓k_fr, ↓k_ai, ↓k_az, ↓k_ar, ↓k_sai, ↓k_saz, ↓k_soa, ↓k_sof, ↓k_spf, ↓k_sx, ↓k_blk, ↓k_sset, ↓k_sdec, ↓k_sri, ↓k_srv, ↓k_srr, ↓k_nop, ↓k_add, ↓k_sub, ↓k_mul, ↓k_min, ↓k_max, ↓k_shr, ↓k_shl, ↓k_or, ↓k_ilz, ↓k_addl, ↓k_rt, ↓k_rb, ↓k_rbz, ↓k_rsi, ↓k_rsr, ↓k_rsv, ↓reduceIte, gn, mb, h0, ↓k_idxN3, gi, ↓lw, ↓c12_isSort, ↓c12_isWord, w1, w2, gx, ↓(k_cv4 dX12_putLeaf (t12 hM)), ↓cL, ↓(k_2 q_giadd (q_l 4)), ↓(k_2 q_giadd (q_l 8)), Int.add_zero, eq_self, ↓xr12_3 hM, ↓xa12_3 hM, ↓xs12_3 hM, ↓xo12_3 hM, ↓xc12_3 hM, ↓xd12_3 hM, ↓xr12_4 hM, ↓xa12_4 hM, ↓xs12_4 hM, ↓xo12_4 hM, ↓xc12_4 hM, ↓xd12_4 hM, ↓xr12_46 hM, ↓xa12_46 hM, ↓xs12_46 hM, ↓xo12_46 hM, ↓xc12_46 hM, ↓xd12_46 hM, List.length_cons, List.length_nil, List.forall_mem_cons, List.not_mem_nil, Value.category, true_and, and_true, false_and, and_false, or_true, true_or, or_false, false_or, Nat.zero_le, forall_const, implies_true, false_implies, Nat.zero_add, Nat.reduceAdd, Nat.reduceLT, Nat.reduceLeDiff, Nat.le_refl, not_true_eq_false, not_false_eq_true, r_eq, r_ne, r_lt, r_ge, r_gt, r_le, bz_ne, nn_toNat, cn_of, cn_0, cn_1, i10, Int.reduceLE, Int.reduceLT, Int.reduceEq, bz_T, bz_F, ite_self, mulc, st_bud]
          exact hk2
end
