section
/-! names in a tree: how far a tell reaches -/
/-- the first scope from p up, -1 for none -/
def rch (z c u : Int → Int) : Nat → Int → Int
  | 0, _ => -1
  | k + 1, p => if p = -1 then -1 else if z (c p - 1000) = 0 then rch z c u k (u p) else p
/-- the reference's number of a place -/
def rkn (r : Int → Int) (p : Int) : Int := if p = -1 then -1 else r p
/-- the class's reach: the root for none -/
def rcl (z c u : Int → Int) (p : Int) : Int := if rch z c u 202 p = -1 then 0 else rch z c u 202 p
/-- the reference's number of the class's reach -/
def phi (z c r : Int → Int) (q : Int) : Int := if q = 0 then (if z (c 0 - 1000) = 0 then -1 else 0) else r q
theorem rch_m (z c u : Int → Int) (k : Nat) : rch z c u k (-1) = -1 := by
  cases k with
  | zero => rfl
  | succ k => rw [rch, if_pos rfl]
theorem rch_f {h F : Int} {ns I : Int → Int} {n N L : Int} {c e u s r na la : Int → Int} (t : Tr h F ns I n N L c e u s r na la) (z : Int → Int) : ∀ (k : Nat) (p : Int), 0 ≤ p → p < n → 1000 ≤ c p → p < k → (rch z c u k p = -1 ∧ z (c 0 - 1000) = 0) ∨ (0 ≤ rch z c u k p ∧ rch z c u k p ≤ p ∧ 1000 ≤ c (rch z c u k p) ∧ ¬ z (c (rch z c u k p) - 1000) = 0) := by
  intro k
  induction k with
  | zero => intro p h0 _ _ h; omega
  | succ k ih =>
    intro p h0 h1 h2 h3
    rw [rch, if_neg (by omega)]
    by_cases g : z (c p - 1000) = 0
    · rw [if_pos g]
      by_cases e0 : p = 0
      · subst e0
        rw [t.1.2.2.2.2.2.2.2, rch_m]
        exact Or.inl ⟨rfl, g⟩
      · obtain ⟨a1, a2, a3, _⟩ := Tr_par t (p := p) (by omega) h1
        rcases ih (u p) a1 (by omega) a3 (by omega) with w | ⟨w1, w2, w3, w4⟩
        · exact Or.inl w
        · exact Or.inr ⟨w1, by omega, w3, w4⟩
    · rw [if_neg g]
      exact Or.inr ⟨h0, Int.le_refl _, h2, g⟩
theorem rcl_f {h F : Int} {ns I : Int → Int} {n N L : Int} {c e u s r na la : Int → Int} (t : Tr h F ns I n N L c e u s r na la) (z : Int → Int) {p : Int} (h0 : 0 ≤ p) (h1 : p < n) (h2 : 1000 ≤ c p) : 0 ≤ rcl z c u p ∧ rcl z c u p ≤ p ∧ 1000 ≤ c (rcl z c u p) ∧ rkn r (rch z c u 202 p) = phi z c r (rcl z c u p) := by
  have hN := (Tr_n t h0 h1 h2).2.2
  have n1 := t.1.2.1
  have rn := Tr_root t (by omega)
  unfold rcl rkn phi
  rcases rch_f t z 202 p h0 h1 h2 (by omega) with ⟨w, w2⟩ | ⟨w1, w2, w3, w4⟩
  · rw [w, if_pos rfl, if_pos rfl, if_pos rfl, if_pos w2]
    exact ⟨Int.le_refl _, h0, rn, rfl⟩
  · rw [if_neg (by omega), if_neg (by omega)]
    refine ⟨w1, w2, w3, ?_⟩
    by_cases e0 : rch z c u 202 p = 0
    · rw [if_pos e0]
      rw [e0] at w4
      rw [if_neg w4, e0]
      exact (Tr_n t (Int.le_refl _) (by omega) rn).1
    · rw [if_neg e0]
theorem phi_lt {h F : Int} {ns I : Int → Int} {n N L : Int} {c e u s r na la : Int → Int} (t : Tr h F ns I n N L c e u s r na la) (z : Int → Int) {p q : Int} (h0 : 0 ≤ p) (h1 : p < q) (h2 : q < n) (h3 : 1000 ≤ c p) (h4 : 1000 ≤ c q) : phi z c r p < phi z c r q := by
  have a := Tr_n t h0 (by omega) h3
  have b := Tr_n t (p := q) (by omega) h2 h4
  have d := nbi_lt c h0 h1 h3
  unfold phi
  rw [if_neg (show ¬ q = 0 by omega)]
  by_cases e0 : p = 0
  · rw [if_pos e0]
    have := (nb_b c p.toNat).1
    split <;> omega
  · rw [if_neg e0]
    omega
theorem phi_b {h F : Int} {ns I : Int → Int} {n N L : Int} {c e u s r na la : Int → Int} (t : Tr h F ns I n N L c e u s r na la) (z : Int → Int) {p : Int} (h0 : 0 ≤ p) (h2 : p < n) (h3 : 1000 ≤ c p) : -1 ≤ phi z c r p ∧ phi z c r p < 40 := by
  have a := Tr_n t h0 h2 h3
  have b := t.1.2.2.2.1
  unfold phi
  split
  · split <;> omega
  · omega
/-- a leaf lies in a node, told by ranks -/
theorem in_rank {h F : Int} {ns I : Int → Int} {n N L : Int} {c e u s r na la : Int → Int} (t : Tr h F ns I n N L c e u s r na la) {p q : Int} (h0 : 0 ≤ q) (h1 : q < n) (h2 : 1000 ≤ c q) (h3 : 0 < p) (h4 : p < n) (h5 : ¬ 1000 ≤ c p) : (r q ≤ r (u p) ∧ r (u p) < nb c (e q).toNat) ↔ (q ≤ p ∧ p < e q) := by
  obtain ⟨a1, a2, a3, a4, a5, _⟩ := Tr_par t h3 h4
  have r1 := Tr_n t h0 h1 h2
  have r2 := Tr_n t a1 (by omega) a3
  have E := t.2.1 q h0 h1
  constructor
  · intro ⟨g1, g2⟩
    have k1 : q ≤ u p := by
      refine Int.not_lt.mp fun w => ?_
      have := nbi_lt c a1 w a3
      omega
    have k2 : u p < e q := by
      refine Int.not_le.mp fun w => ?_
      have := nbi_mono c w
      omega
    have := (Tr_nest t h0 k1 k2 (by omega)).1
    omega
  · intro ⟨g1, g2⟩
    have k0 : q < p := by
      refine Int.not_le.mp fun w => ?_
      have : p = q := by omega
      subst this
      exact h5 h2
    have k1 := (Tr_nest t h0 g1 g2 h4).2 k0
    have := nbi_mono c k1
    have := nbi_lt c a1 (show u p < e q by omega) a3
    omega
end
section
/-! the reference's names: G0 is the memory whose tree is told, G the memory now -/
/-- the reference's rows of leaves, their codes as cd tells -/
def RB (G0 G : Nat → Int → Int) (B a : Nat) (i v : Int) (cd : Int → Int) : Prop := IFm G0 B ∧ TOK G0 B 0 i v a ∧ 1 ≤ G0 a 3 ∧ (∀ x, B + 544 + 3 ≤ x → x ≤ B + 544 + 20 → G x = G0 x) ∧ G (B + 544) 39 = G0 a 4 ∧
  ∀ l, 0 ≤ l → l < G0 a 4 → G (B + 544 + 33) l = cd l ∧ G (B + 544 + 34) l = G0 (a + 6) (G0 (a + 3) (G0 (a + 8) l)) ∧ G (B + 544 + 35) l = G0 (a + 4) (G0 (a + 8) l) ∧ (20 ≤ cd l ∧ cd l ≤ 1013) ∧ ((20 ≤ cd l ∧ cd l ≤ 35) ↔ (20 ≤ G0 (a + 1) (G0 (a + 8) l) ∧ G0 (a + 1) (G0 (a + 8) l) ≤ 35))
theorem c12_howR {T : Nat → Option q_T} {nx rc rs B a : Nat} {R : Nat → Nat → Option Value} {G0 G : Nat → Int → Int} {i v : Int} {cd : Int → Int} {l : Int} {K : Option Value → q_M → Prop} (hM : Ly T R (B + 544) (L12 (B + 544))) (i0 : 0 ≤ i) (i1 : i < 100) (hR : RB G0 G B a i v cd) (l0 : 0 ≤ l) (l1 : l < G0 a 4) :
    fX12_howOf [.ref (B + 544), .int (zI i), .int (zI l)] (st T nx rc rs R G) K = K (some (.int (zI (hw (G0 (tvA B v + 8)) (G0 (a + 1)) (G0 (a + 3)) (G0 (a + 4)) (G0 (a + 8) l))))) (st T nx rc rs R G) := by
  obtain ⟨hF, tk, tN, hE, h39, lv⟩ := hR
  obtain ⟨x1, x2, x3, x4, x5⟩ := lv l l0 l1
  obtain ⟨p, q, f, k, hp, p0, p1, p2, p3, p4, hq, q0, q1, q2, ef, f0, f1, ek, k0, k1, r0, hf, h1, h2⟩ := leafP hF tk tN l0 l1
  have tb := TOK_b tk
  have kv := tk.2.2.1
  have ht : G (B + 544 + 16) i = v := by rw [hE _ (by omega) (by omega)]; exact tb.2.1
  have hf' : G (B + 544 + 19) (40 * i + G0 (a + 6) q) = f := by rw [hE _ (by omega) (by omega)]; exact hf
  have h1' : G (B + 544 + 7) (5 * (14 * v + f) + k) = G0 (tvA B v + 8) (5 * f + k) := by rw [hE _ (by omega) (by omega)]; exact h1
  have lb : G0 a 4 ≤ 201 := by omega
  rw [← hp] at x2 x3 x5
  rw [← hq] at x2
  rw [← ek] at x3
  have cF := fun (K : Option Value → q_M → Prop) => c12_formAtV (T := T) (nx := nx) (rc := 0) (rs := 0) (R := R) (K := K) hM i0 (by omega) r0.1 r0.2 ht hf'
  unfold hw
  rw [← hp, ← hq, ← ek, ← ef]
  by_cases hn : 20 ≤ G0 (a + 1) p ∧ G0 (a + 1) p ≤ 35
  · rw [if_pos hn]
    have hn2 := x5.mpr hn
    simp (disch := omega) only [↓fX12_howOf.eq_1, ↓sX12_howOf_.eq_1, ↓(k_cs3 dX12_in), ↓(k_cv2 dX12_formAt (t12 hM)), ↓k_mk, ↓k_sq, ↓k_sk, ↓k_bk, ↓k_if, ↓k_te, ↓k_cm, ↓k_cz, ↓k_an2, ↓k_or2, ↓k_no, ↓k_ci, ↓k_l0, ↓k_r0, ↓k_se0, ↓k_ic0, ↓k_l1, ↓k_r1, ↓k_se1, ↓k_ic1, ↓k_de1, ↓k_tk1, ↓k_l2, ↓k_r2, ↓k_se2, ↓k_ic2, ↓k_de2, ↓k_tk2, ↓k_l3, ↓k_r3, ↓k_se3, ↓k_ic3, ↓k_de3, ↓k_tk3, ↓k_l4, ↓k_r4, ↓k_se4, ↓k_ic4, ↓k_de4, ↓k_tk4, ↓k_l5, ↓k_r5, ↓k_se5, ↓k_ic5, ↓k_de5, ↓k_tk5, ↓k_l6, ↓k_r6, ↓k_se6, ↓k_ic6, ↓k_de6, ↓k_tk6, ↓k_l7, ↓k_r7, ↓k_se7, ↓k_ic7, ↓k_de7, ↓k_tk7, ↓k_l8, ↓k_r8, ↓k_se8, ↓k_ic8, ↓k_de8, ↓k_tk8, ↓k_l9, ↓k_r9, ↓k_se9, ↓k_ic9, ↓k_de9, ↓k_tk9, ↓k_l10, ↓k_r10, ↓k_se10, ↓k_ic10, ↓k_de10, ↓k_tk10, ↓k_l11, ↓k_r11, ↓k_se11, ↓k_ic11, ↓k_de11, ↓k_tk11, ↓k_l12, ↓k_r12, ↓k_se12, ↓k_ic12, ↓k_de12, ↓k_tk12, ↓k_l13, ↓k_r13, ↓k_se13, ↓k_ic13, ↓k_de13, ↓k_tk13, ↓k_l14, ↓k_r14, ↓k_se14, ↓k_ic14, ↓k_de14, ↓k_tk14, ↓k_l15, ↓k_r15, ↓k_se15, ↓k_ic15, ↓k_de15, ↓k_tk15, ↓k_l16, ↓k_r16, ↓k_se16, ↓k_ic16, ↓k_de16, ↓k_tk16, ↓k_l17, ↓k_r17, ↓k_se17, ↓k_ic17, ↓k_de17, ↓k_tk17, ↓k_l18, ↓k_r18, ↓k_se18, ↓k_ic18, ↓k_de18, ↓k_tk18, ↓k_l19, ↓k_r19, ↓k_se19, ↓k_ic19, ↓k_de19, ↓k_tk19, ↓k_l20, ↓k_r20, ↓k_se20, ↓k_ic20, ↓k_de20, ↓k_tk20, ↓k_l21, ↓k_r21, ↓k_se21, ↓k_ic21, ↓k_de21, ↓k_tk21, ↓k_l22, ↓k_r22, ↓k_se22, ↓k_ic22, ↓k_de22, ↓k_tk22, ↓k_l23, ↓k_r23, ↓k_se23, ↓k_ic23, ↓k_de23, ↓k_tk23, ↓k_l24, ↓k_r24, ↓k_se24, ↓k_ic24, ↓k_de24, ↓k_tk24, ↓k_l25, ↓k_r25, ↓k_se25, ↓k_ic25, ↓k_de25, ↓k_tk25, ↓k_k, ↓k_kn, ↓k_kl, ↓k_kln, ↓k_il, ↓k_2, ↓k_1, ↓k_2c, ↓k_2l, ↓k_ac, ↓k_an, ↓k_cs, ↓k_cv, ↓k_fi, ↓k_fr, ↓k_ai, ↓k_az, ↓k_ar, ↓k_sai, ↓k_saz, ↓k_soa, ↓k_sof, ↓k_spf, ↓k_sx, ↓k_blk, ↓k_sset, ↓k_sdec, ↓k_sri, ↓k_srv, ↓k_srr, ↓k_nop, ↓k_add, ↓k_sub, ↓k_mul, ↓k_min, ↓k_max, ↓k_shr, ↓k_shl, ↓k_or, ↓k_ilz, ↓k_addl, ↓k_rt, ↓k_rb, ↓k_rbz, ↓k_rsi, ↓k_rsr, ↓k_rsv, ↓reduceIte, ↓c12_in, zI_long, x1, x2, x3, hn2, cF, h1', ↓xr12_6 hM, ↓xa12_6 hM, ↓xs12_6 hM, ↓xo12_6 hM, ↓xc12_6 hM, ↓xd12_6 hM, ↓xr12_40 hM, ↓xa12_40 hM, ↓xs12_40 hM, ↓xo12_40 hM, ↓xc12_40 hM, ↓xd12_40 hM, ↓xr12_41 hM, ↓xa12_41 hM, ↓xs12_41 hM, ↓xo12_41 hM, ↓xc12_41 hM, ↓xd12_41 hM, ↓xr12_42 hM, ↓xa12_42 hM, ↓xs12_42 hM, ↓xo12_42 hM, ↓xc12_42 hM, ↓xd12_42 hM, List.length_cons, List.length_nil, List.forall_mem_cons, List.not_mem_nil, Value.category, true_and, and_true, false_and, and_false, or_true, true_or, or_false, false_or, Nat.zero_le, forall_const, implies_true, false_implies, Nat.zero_add, Nat.reduceAdd, Nat.reduceLT, Nat.reduceLeDiff, Nat.le_refl, not_true_eq_false, not_false_eq_true, r_eq, r_ne, r_lt, r_ge, r_gt, r_le, bz_ne, nn_toNat, cn_of, cn_0, cn_1, i10, Int.reduceLE, Int.reduceLT, Int.reduceEq, bz_T, bz_F, ite_self, mulc, st_bud]
  · rw [if_neg hn]
    have hn2 : ¬ (20 ≤ cd l ∧ cd l ≤ 35) := fun w => hn (x5.mp w)
    simp (disch := omega) only [↓fX12_howOf.eq_1, ↓sX12_howOf_.eq_1, ↓(k_cs3 dX12_in), ↓(k_cv2 dX12_formAt (t12 hM)), ↓k_mk, ↓k_sq, ↓k_sk, ↓k_bk, ↓k_if, ↓k_te, ↓k_cm, ↓k_cz, ↓k_an2, ↓k_or2, ↓k_no, ↓k_ci, ↓k_l0, ↓k_r0, ↓k_se0, ↓k_ic0, ↓k_l1, ↓k_r1, ↓k_se1, ↓k_ic1, ↓k_de1, ↓k_tk1, ↓k_l2, ↓k_r2, ↓k_se2, ↓k_ic2, ↓k_de2, ↓k_tk2, ↓k_l3, ↓k_r3, ↓k_se3, ↓k_ic3, ↓k_de3, ↓k_tk3, ↓k_l4, ↓k_r4, ↓k_se4, ↓k_ic4, ↓k_de4, ↓k_tk4, ↓k_l5, ↓k_r5, ↓k_se5, ↓k_ic5, ↓k_de5, ↓k_tk5, ↓k_l6, ↓k_r6, ↓k_se6, ↓k_ic6, ↓k_de6, ↓k_tk6, ↓k_l7, ↓k_r7, ↓k_se7, ↓k_ic7, ↓k_de7, ↓k_tk7, ↓k_l8, ↓k_r8, ↓k_se8, ↓k_ic8, ↓k_de8, ↓k_tk8, ↓k_l9, ↓k_r9, ↓k_se9, ↓k_ic9, ↓k_de9, ↓k_tk9, ↓k_l10, ↓k_r10, ↓k_se10, ↓k_ic10, ↓k_de10, ↓k_tk10, ↓k_l11, ↓k_r11, ↓k_se11, ↓k_ic11, ↓k_de11, ↓k_tk11, ↓k_l12, ↓k_r12, ↓k_se12, ↓k_ic12, ↓k_de12, ↓k_tk12, ↓k_l13, ↓k_r13, ↓k_se13, ↓k_ic13, ↓k_de13, ↓k_tk13, ↓k_l14, ↓k_r14, ↓k_se14, ↓k_ic14, ↓k_de14, ↓k_tk14, ↓k_l15, ↓k_r15, ↓k_se15, ↓k_ic15, ↓k_de15, ↓k_tk15, ↓k_l16, ↓k_r16, ↓k_se16, ↓k_ic16, ↓k_de16, ↓k_tk16, ↓k_l17, ↓k_r17, ↓k_se17, ↓k_ic17, ↓k_de17, ↓k_tk17, ↓k_l18, ↓k_r18, ↓k_se18, ↓k_ic18, ↓k_de18, ↓k_tk18, ↓k_l19, ↓k_r19, ↓k_se19, ↓k_ic19, ↓k_de19, ↓k_tk19, ↓k_l20, ↓k_r20, ↓k_se20, ↓k_ic20, ↓k_de20, ↓k_tk20, ↓k_l21, ↓k_r21, ↓k_se21, ↓k_ic21, ↓k_de21, ↓k_tk21, ↓k_l22, ↓k_r22, ↓k_se22, ↓k_ic22, ↓k_de22, ↓k_tk22, ↓k_l23, ↓k_r23, ↓k_se23, ↓k_ic23, ↓k_de23, ↓k_tk23, ↓k_l24, ↓k_r24, ↓k_se24, ↓k_ic24, ↓k_de24, ↓k_tk24, ↓k_l25, ↓k_r25, ↓k_se25, ↓k_ic25, ↓k_de25, ↓k_tk25, ↓k_k, ↓k_kn, ↓k_kl, ↓k_kln, ↓k_il, ↓k_2, ↓k_1, ↓k_2c, ↓k_2l, ↓k_ac, ↓k_an, ↓k_cs, ↓k_cv, ↓k_fi, ↓k_fr, ↓k_ai, ↓k_az, ↓k_ar, ↓k_sai, ↓k_saz, ↓k_soa, ↓k_sof, ↓k_spf, ↓k_sx, ↓k_blk, ↓k_sset, ↓k_sdec, ↓k_sri, ↓k_srv, ↓k_srr, ↓k_nop, ↓k_add, ↓k_sub, ↓k_mul, ↓k_min, ↓k_max, ↓k_shr, ↓k_shl, ↓k_or, ↓k_ilz, ↓k_addl, ↓k_rt, ↓k_rb, ↓k_rbz, ↓k_rsi, ↓k_rsr, ↓k_rsv, ↓reduceIte, ↓c12_in, zI_long, x1, x2, x3, hn2, ↓xr12_40 hM, ↓xa12_40 hM, ↓xs12_40 hM, ↓xo12_40 hM, ↓xc12_40 hM, ↓xd12_40 hM, List.length_cons, List.length_nil, List.forall_mem_cons, List.not_mem_nil, Value.category, true_and, and_true, false_and, and_false, or_true, true_or, or_false, false_or, Nat.zero_le, forall_const, implies_true, false_implies, Nat.zero_add, Nat.reduceAdd, Nat.reduceLT, Nat.reduceLeDiff, Nat.le_refl, not_true_eq_false, not_false_eq_true, r_eq, r_ne, r_lt, r_ge, r_gt, r_le, bz_ne, nn_toNat, cn_of, cn_0, cn_1, i10, Int.reduceLE, Int.reduceLT, Int.reduceEq, bz_T, bz_F, ite_self, mulc, st_bud]
theorem scF {B a : Nat} {G0 : Nat → Int → Int} {h i v p : Int} (hF : IFm G0 B) (tk : TOK G0 B h i v a) (p0 : 0 ≤ p) (p1 : p < G0 a 2) (hn : 1000 ≤ G0 (a + 1) p) :
    ∃ f : Int, f = G0 (a + 1) p - 1000 ∧ 0 ≤ f ∧ f < 14 ∧ (0 ≤ G0 (a + 6) p ∧ G0 (a + 6) p < 40) ∧ G0 (B + 544 + 19) (40 * i + G0 (a + 6) p) = f ∧ G0 (B + 544 + 8) (14 * v + f) = G0 (tvA B v + 10) f ∧ (0 ≤ G0 (tvA B v + 10) f ∧ G0 (tvA B v + 10) f ≤ 1) ∧ G0 (B + 544 + 20) (40 * i + G0 (a + 6) p) = rkn (G0 (a + 6)) (G0 (a + 3) p) ∧ (G0 (a + 3) p = -1 ∨ (0 ≤ G0 (a + 3) p ∧ 1000 ≤ G0 (a + 1) (G0 (a + 3) p))) ∧ G0 (a + 3) p < p := by
  have kT := tk.2.2.2.1
  have kv := tk.2.2.1
  have kR := tk.2.2.2.2
  obtain ⟨f, N, ef, f0, f1, eN, N1, N5, ⟨r0, r1⟩, hf', _⟩ := nodeF hF tk p0 p1 hn
  obtain ⟨n1, _⟩ := kT.2.2.2.1 p p0 p1 hn
  rw [← ef] at n1
  obtain ⟨_, _, _, _, _, _, sc, _⟩ := (hF v kv.1 kv.2).2.2.2 f f0 n1
  obtain ⟨x1, x2, x3, x4⟩ := Tr_n kT p0 p1 hn
  obtain ⟨_, q2, _⟩ := kR.2.2 (G0 (a + 6) p) (by omega) (by omega)
  have na : G0 (a + 7) (G0 (a + 6) p) = p := by rw [x1]; exact x2
  rw [na] at q2
  refine ⟨f, ef, f0, f1, ⟨r0, r1⟩, hf', sc.1, sc.2, q2, ?_, ?_⟩
  · by_cases e0 : p = 0
    · exact Or.inl (by rw [e0]; exact kT.1.2.2.2.2.2.2.2)
    · obtain ⟨u1, u2, u3, _⟩ := Tr_par kT (p := p) (by omega) p1
      exact Or.inr ⟨u1, u3⟩
  · by_cases e0 : p = 0
    · have w : G0 (a + 3) 0 = -1 := kT.1.2.2.2.2.2.2.2
      rw [e0, w]
      omega
    · obtain ⟨u1, u2, u3, _⟩ := Tr_par kT (p := p) (by omega) p1
      exact u2
theorem w12_reachOf {T : Nat → Option q_T} {nx rc rs B a : Nat} {R : Nat → Nat → Option Value} {G0 G : Nat → Int → Int} {i v : Int} {cd : Int → Int} {l p : Int} {Kn : List Value → q_M → Prop} {Kr : Option Value → q_M → Prop} (hM : Ly T R (B + 544) (L12 (B + 544))) (i0 : 0 ≤ i) (i1 : i < 100) (hR : RB G0 G B a i v cd) (fuel : Nat) (hp : p = -1 ∨ (0 ≤ p ∧ 1000 ≤ G0 (a + 1) p)) (p1 : p < G0 a 2) (pf : p < fuel) :
    wX12_reachOf_0 [.ref (B + 544), .int (zI i), .int (zI l), .int (zI (rkn (G0 (a + 6)) p))] (st T nx rc rs R G) Kn Kr = Kn [.ref (B + 544), .int (zI i), .int (zI l), .int (zI (rkn (G0 (a + 6)) (rch (G0 (tvA B v + 10)) (G0 (a + 1)) (G0 (a + 3)) fuel p)))] (st T nx rc rs R G) := by
  obtain ⟨hF, tk, tN, hE, h39, lv⟩ := hR
  refine eX12_reachOf_0.eqn ?_ Kn Kr
  refine lX12_reachOf_0 (fun n env μ => ∃ q : Int, (q = -1 ∨ (0 ≤ q ∧ 1000 ≤ G0 (a + 1) q)) ∧ q < G0 a 2 ∧ q < n ∧ rch (G0 (tvA B v + 10)) (G0 (a + 1)) (G0 (a + 3)) n q = rch (G0 (tvA B v + 10)) (G0 (a + 1)) (G0 (a + 3)) fuel p ∧ env = [.ref (B + 544), .int (zI i), .int (zI l), .int (zI (rkn (G0 (a + 6)) q))] ∧ μ = st T nx rc rs R G) ?_ fuel _ _ ⟨p, hp, p1, pf, rfl, rfl, rfl⟩
  intro n env μ ⟨q, hq, q1, qn, hr, he, hm⟩
  subst he hm
  have tb := TOK_b tk
  by_cases e0 : q = -1
  · have e2 : rch (G0 (tvA B v + 10)) (G0 (a + 1)) (G0 (a + 3)) n q = -1 := by rw [e0]; exact rch_m _ _ _ _
    have e3 : rkn (G0 (a + 6)) q = -1 := by rw [rkn, if_pos e0]
    have e4 : rkn (G0 (a + 6)) (-1) = -1 := by rw [rkn, if_pos rfl]
    have hz : ¬ (0 : Int) ≤ -1 := by omega
    rw [← hr, e2, e3, e4]
    simp (disch := omega) only [↓wcX12_reachOf_0.eq_1, ↓wsX12_reachOf_0.eq_1, ↓k_mk, ↓k_sq, ↓k_sk, ↓k_bk, ↓k_if, ↓k_te, ↓k_cm, ↓k_cz, ↓k_an2, ↓k_or2, ↓k_no, ↓k_ci, ↓k_l0, ↓k_r0, ↓k_se0, ↓k_ic0, ↓k_l1, ↓k_r1, ↓k_se1, ↓k_ic1, ↓k_de1, ↓k_tk1, ↓k_l2, ↓k_r2, ↓k_se2, ↓k_ic2, ↓k_de2, ↓k_tk2, ↓k_l3, ↓k_r3, ↓k_se3, ↓k_ic3, ↓k_de3, ↓k_tk3, ↓k_l4, ↓k_r4, ↓k_se4, ↓k_ic4, ↓k_de4, ↓k_tk4, ↓k_l5, ↓k_r5, ↓k_se5, ↓k_ic5, ↓k_de5, ↓k_tk5, ↓k_l6, ↓k_r6, ↓k_se6, ↓k_ic6, ↓k_de6, ↓k_tk6, ↓k_l7, ↓k_r7, ↓k_se7, ↓k_ic7, ↓k_de7, ↓k_tk7, ↓k_l8, ↓k_r8, ↓k_se8, ↓k_ic8, ↓k_de8, ↓k_tk8, ↓k_l9, ↓k_r9, ↓k_se9, ↓k_ic9, ↓k_de9, ↓k_tk9, ↓k_l10, ↓k_r10, ↓k_se10, ↓k_ic10, ↓k_de10, ↓k_tk10, ↓k_l11, ↓k_r11, ↓k_se11, ↓k_ic11, ↓k_de11, ↓k_tk11, ↓k_l12, ↓k_r12, ↓k_se12, ↓k_ic12, ↓k_de12, ↓k_tk12, ↓k_l13, ↓k_r13, ↓k_se13, ↓k_ic13, ↓k_de13, ↓k_tk13, ↓k_l14, ↓k_r14, ↓k_se14, ↓k_ic14, ↓k_de14, ↓k_tk14, ↓k_l15, ↓k_r15, ↓k_se15, ↓k_ic15, ↓k_de15, ↓k_tk15, ↓k_l16, ↓k_r16, ↓k_se16, ↓k_ic16, ↓k_de16, ↓k_tk16, ↓k_l17, ↓k_r17, ↓k_se17, ↓k_ic17, ↓k_de17, ↓k_tk17, ↓k_l18, ↓k_r18, ↓k_se18, ↓k_ic18, ↓k_de18, ↓k_tk18, ↓k_l19, ↓k_r19, ↓k_se19, ↓k_ic19, ↓k_de19, ↓k_tk19, ↓k_l20, ↓k_r20, ↓k_se20, ↓k_ic20, ↓k_de20, ↓k_tk20, ↓k_l21, ↓k_r21, ↓k_se21, ↓k_ic21, ↓k_de21, ↓k_tk21, ↓k_l22, ↓k_r22, ↓k_se22, ↓k_ic22, ↓k_de22, ↓k_tk22, ↓k_l23, ↓k_r23, ↓k_se23, ↓k_ic23, ↓k_de23, ↓k_tk23, ↓k_l24, ↓k_r24, ↓k_se24, ↓k_ic24, ↓k_de24, ↓k_tk24, ↓k_l25, ↓k_r25, ↓k_se25, ↓k_ic25, ↓k_de25, ↓k_tk25, ↓k_k, ↓k_kn, ↓k_kl, ↓k_kln, ↓k_il, ↓k_2, ↓k_1, ↓k_2c, ↓k_2l, ↓k_ac, ↓k_an, ↓k_cs, ↓k_cv, ↓k_fi, ↓k_fr, ↓k_ai, ↓k_az, ↓k_ar, ↓k_sai, ↓k_saz, ↓k_soa, ↓k_sof, ↓k_spf, ↓k_sx, ↓k_blk, ↓k_sset, ↓k_sdec, ↓k_sri, ↓k_srv, ↓k_srr, ↓k_nop, ↓k_add, ↓k_sub, ↓k_mul, ↓k_min, ↓k_max, ↓k_shr, ↓k_shl, ↓k_or, ↓k_ilz, ↓k_addl, ↓k_rt, ↓k_rb, ↓k_rbz, ↓k_rsi, ↓k_rsr, ↓k_rsv, ↓reduceIte, hz, List.length_cons, List.length_nil, List.forall_mem_cons, List.not_mem_nil, Value.category, true_and, and_true, false_and, and_false, or_true, true_or, or_false, false_or, Nat.zero_le, forall_const, implies_true, false_implies, Nat.zero_add, Nat.reduceAdd, Nat.reduceLT, Nat.reduceLeDiff, Nat.le_refl, not_true_eq_false, not_false_eq_true, r_eq, r_ne, r_lt, r_ge, r_gt, r_le, bz_ne, nn_toNat, cn_of, cn_0, cn_1, i10, Int.reduceLE, Int.reduceLT, Int.reduceEq, bz_T, bz_F, ite_self, mulc, st_bud]
    all_goals first | exact ⟨rfl, rfl⟩ | rfl | trivial
  · obtain ⟨f, ef, f0, f1, r0, hf, sc, z0, up, hu, ul⟩ := scF hF tk (p := q) (by omega) q1 (by omega)
    obtain ⟨n, rfl⟩ : ∃ k, n = k + 1 := ⟨n - 1, by omega⟩
    have e3 : rkn (G0 (a + 6)) q = G0 (a + 6) q := by rw [rkn, if_neg e0]
    have ht : G (B + 544 + 16) i = v := by rw [hE _ (by omega) (by omega)]; exact tb.2.1
    have hf' : G (B + 544 + 19) (40 * i + G0 (a + 6) q) = f := by rw [hE _ (by omega) (by omega)]; exact hf
    have cF := fun (K : Option Value → q_M → Prop) => c12_formAtV (T := T) (nx := nx) (rc := 0) (rs := 0) (R := R) (K := K) hM i0 (by omega) r0.1 r0.2 ht hf'
    have v0 := tb.2.2.1
    have v1 := tb.2.2.2.1
    have rl : 0 ≤ G0 (a + 6) q := r0.1
    rw [rch, if_neg e0, ← ef] at hr
    by_cases hz : G0 (tvA B v + 10) f = 0
    · rw [if_pos hz] at hr
      have s0 : G (B + 544 + 8) (14 * v + f) = 0 := by rw [hE _ (by omega) (by omega), sc]; exact hz
      have up' : G (B + 544 + 20) (40 * i + G0 (a + 6) q) = rkn (G0 (a + 6)) (G0 (a + 3) q) := by rw [hE _ (by omega) (by omega)]; exact up
      rw [e3]
      simp (disch := omega) only [↓wcX12_reachOf_0.eq_1, ↓wsX12_reachOf_0.eq_1, ↓(k_cv2 dX12_formAt (t12 hM)), ↓k_mk, ↓k_sq, ↓k_sk, ↓k_bk, ↓k_if, ↓k_te, ↓k_cm, ↓k_cz, ↓k_an2, ↓k_or2, ↓k_no, ↓k_ci, ↓k_l0, ↓k_r0, ↓k_se0, ↓k_ic0, ↓k_l1, ↓k_r1, ↓k_se1, ↓k_ic1, ↓k_de1, ↓k_tk1, ↓k_l2, ↓k_r2, ↓k_se2, ↓k_ic2, ↓k_de2, ↓k_tk2, ↓k_l3, ↓k_r3, ↓k_se3, ↓k_ic3, ↓k_de3, ↓k_tk3, ↓k_l4, ↓k_r4, ↓k_se4, ↓k_ic4, ↓k_de4, ↓k_tk4, ↓k_l5, ↓k_r5, ↓k_se5, ↓k_ic5, ↓k_de5, ↓k_tk5, ↓k_l6, ↓k_r6, ↓k_se6, ↓k_ic6, ↓k_de6, ↓k_tk6, ↓k_l7, ↓k_r7, ↓k_se7, ↓k_ic7, ↓k_de7, ↓k_tk7, ↓k_l8, ↓k_r8, ↓k_se8, ↓k_ic8, ↓k_de8, ↓k_tk8, ↓k_l9, ↓k_r9, ↓k_se9, ↓k_ic9, ↓k_de9, ↓k_tk9, ↓k_l10, ↓k_r10, ↓k_se10, ↓k_ic10, ↓k_de10, ↓k_tk10, ↓k_l11, ↓k_r11, ↓k_se11, ↓k_ic11, ↓k_de11, ↓k_tk11, ↓k_l12, ↓k_r12, ↓k_se12, ↓k_ic12, ↓k_de12, ↓k_tk12, ↓k_l13, ↓k_r13, ↓k_se13, ↓k_ic13, ↓k_de13, ↓k_tk13, ↓k_l14, ↓k_r14, ↓k_se14, ↓k_ic14, ↓k_de14, ↓k_tk14, ↓k_l15, ↓k_r15, ↓k_se15, ↓k_ic15, ↓k_de15, ↓k_tk15, ↓k_l16, ↓k_r16, ↓k_se16, ↓k_ic16, ↓k_de16, ↓k_tk16, ↓k_l17, ↓k_r17, ↓k_se17, ↓k_ic17, ↓k_de17, ↓k_tk17, ↓k_l18, ↓k_r18, ↓k_se18, ↓k_ic18, ↓k_de18, ↓k_tk18, ↓k_l19, ↓k_r19, ↓k_se19, ↓k_ic19, ↓k_de19, ↓k_tk19, ↓k_l20, ↓k_r20, ↓k_se20, ↓k_ic20, ↓k_de20, ↓k_tk20, ↓k_l21, ↓k_r21, ↓k_se21, ↓k_ic21, ↓k_de21, ↓k_tk21, ↓k_l22, ↓k_r22, ↓k_se22, ↓k_ic22, ↓k_de22, ↓k_tk22, ↓k_l23, ↓k_r23, ↓k_se23, ↓k_ic23, ↓k_de23, ↓k_tk23, ↓k_l24, ↓k_r24, ↓k_se24, ↓k_ic24, ↓k_de24, ↓k_tk24, ↓k_l25, ↓k_r25, ↓k_se25, ↓k_ic25, ↓k_de25, ↓k_tk25, ↓k_k, ↓k_kn, ↓k_kl, ↓k_kln, ↓k_il, ↓k_2, ↓k_1, ↓k_2c, ↓k_2l, ↓k_ac, ↓k_an, ↓k_cs, ↓k_cv, ↓k_fi, ↓k_fr, ↓k_ai, ↓k_az, ↓k_ar, ↓k_sai, ↓k_saz, ↓k_soa, ↓k_sof, ↓k_spf, ↓k_sx, ↓k_blk, ↓k_sset, ↓k_sdec, ↓k_sri, ↓k_srv, ↓k_srr, ↓k_nop, ↓k_add, ↓k_sub, ↓k_mul, ↓k_min, ↓k_max, ↓k_shr, ↓k_shl, ↓k_or, ↓k_ilz, ↓k_addl, ↓k_rt, ↓k_rb, ↓k_rbz, ↓k_rsi, ↓k_rsr, ↓k_rsv, ↓reduceIte, rl, cF, s0, up', ↓xr12_7 hM, ↓xa12_7 hM, ↓xs12_7 hM, ↓xr12_19 hM, ↓xa12_19 hM, ↓xs12_19 hM, ↓xo12_19 hM, ↓xc12_19 hM, ↓xd12_19 hM, List.length_cons, List.length_nil, List.forall_mem_cons, List.not_mem_nil, Value.category, true_and, and_true, false_and, and_false, or_true, true_or, or_false, false_or, Nat.zero_le, forall_const, implies_true, false_implies, Nat.zero_add, Nat.reduceAdd, Nat.reduceLT, Nat.reduceLeDiff, Nat.le_refl, not_true_eq_false, not_false_eq_true, r_eq, r_ne, r_lt, r_ge, r_gt, r_le, bz_ne, nn_toNat, cn_of, cn_0, cn_1, i10, Int.reduceLE, Int.reduceLT, Int.reduceEq, bz_T, bz_F, ite_self, mulc, st_bud]
      all_goals first | exact ⟨n, by omega, G0 (a + 3) q, hu, by omega, by omega, hr, rfl⟩ | exact ⟨n, by omega, G0 (a + 3) q, hu, by omega, by omega, hr, rfl, rfl⟩
    · rw [if_neg hz] at hr
      have s1 : G (B + 544 + 8) (14 * v + f) = 1 := by rw [hE _ (by omega) (by omega), sc]; omega
      rw [← hr, e3]
      simp (disch := omega) only [↓wcX12_reachOf_0.eq_1, ↓wsX12_reachOf_0.eq_1, ↓(k_cv2 dX12_formAt (t12 hM)), ↓k_mk, ↓k_sq, ↓k_sk, ↓k_bk, ↓k_if, ↓k_te, ↓k_cm, ↓k_cz, ↓k_an2, ↓k_or2, ↓k_no, ↓k_ci, ↓k_l0, ↓k_r0, ↓k_se0, ↓k_ic0, ↓k_l1, ↓k_r1, ↓k_se1, ↓k_ic1, ↓k_de1, ↓k_tk1, ↓k_l2, ↓k_r2, ↓k_se2, ↓k_ic2, ↓k_de2, ↓k_tk2, ↓k_l3, ↓k_r3, ↓k_se3, ↓k_ic3, ↓k_de3, ↓k_tk3, ↓k_l4, ↓k_r4, ↓k_se4, ↓k_ic4, ↓k_de4, ↓k_tk4, ↓k_l5, ↓k_r5, ↓k_se5, ↓k_ic5, ↓k_de5, ↓k_tk5, ↓k_l6, ↓k_r6, ↓k_se6, ↓k_ic6, ↓k_de6, ↓k_tk6, ↓k_l7, ↓k_r7, ↓k_se7, ↓k_ic7, ↓k_de7, ↓k_tk7, ↓k_l8, ↓k_r8, ↓k_se8, ↓k_ic8, ↓k_de8, ↓k_tk8, ↓k_l9, ↓k_r9, ↓k_se9, ↓k_ic9, ↓k_de9, ↓k_tk9, ↓k_l10, ↓k_r10, ↓k_se10, ↓k_ic10, ↓k_de10, ↓k_tk10, ↓k_l11, ↓k_r11, ↓k_se11, ↓k_ic11, ↓k_de11, ↓k_tk11, ↓k_l12, ↓k_r12, ↓k_se12, ↓k_ic12, ↓k_de12, ↓k_tk12, ↓k_l13, ↓k_r13, ↓k_se13, ↓k_ic13, ↓k_de13, ↓k_tk13, ↓k_l14, ↓k_r14, ↓k_se14, ↓k_ic14, ↓k_de14, ↓k_tk14, ↓k_l15, ↓k_r15, ↓k_se15, ↓k_ic15, ↓k_de15, ↓k_tk15, ↓k_l16, ↓k_r16, ↓k_se16, ↓k_ic16, ↓k_de16, ↓k_tk16, ↓k_l17, ↓k_r17, ↓k_se17, ↓k_ic17, ↓k_de17, ↓k_tk17, ↓k_l18, ↓k_r18, ↓k_se18, ↓k_ic18, ↓k_de18, ↓k_tk18, ↓k_l19, ↓k_r19, ↓k_se19, ↓k_ic19, ↓k_de19, ↓k_tk19, ↓k_l20, ↓k_r20, ↓k_se20, ↓k_ic20, ↓k_de20, ↓k_tk20, ↓k_l21, ↓k_r21, ↓k_se21, ↓k_ic21, ↓k_de21, ↓k_tk21, ↓k_l22, ↓k_r22, ↓k_se22, ↓k_ic22, ↓k_de22, ↓k_tk22, ↓k_l23, ↓k_r23, ↓k_se23, ↓k_ic23, ↓k_de23, ↓k_tk23, ↓k_l24, ↓k_r24, ↓k_se24, ↓k_ic24, ↓k_de24, ↓k_tk24, ↓k_l25, ↓k_r25, ↓k_se25, ↓k_ic25, ↓k_de25, ↓k_tk25, ↓k_k, ↓k_kn, ↓k_kl, ↓k_kln, ↓k_il, ↓k_2, ↓k_1, ↓k_2c, ↓k_2l, ↓k_ac, ↓k_an, ↓k_cs, ↓k_cv, ↓k_fi, ↓k_fr, ↓k_ai, ↓k_az, ↓k_ar, ↓k_sai, ↓k_saz, ↓k_soa, ↓k_sof, ↓k_spf, ↓k_sx, ↓k_blk, ↓k_sset, ↓k_sdec, ↓k_sri, ↓k_srv, ↓k_srr, ↓k_nop, ↓k_add, ↓k_sub, ↓k_mul, ↓k_min, ↓k_max, ↓k_shr, ↓k_shl, ↓k_or, ↓k_ilz, ↓k_addl, ↓k_rt, ↓k_rb, ↓k_rbz, ↓k_rsi, ↓k_rsr, ↓k_rsv, ↓reduceIte, rl, cF, s1, ↓xr12_7 hM, ↓xa12_7 hM, ↓xs12_7 hM, List.length_cons, List.length_nil, List.forall_mem_cons, List.not_mem_nil, Value.category, true_and, and_true, false_and, and_false, or_true, true_or, or_false, false_or, Nat.zero_le, forall_const, implies_true, false_implies, Nat.zero_add, Nat.reduceAdd, Nat.reduceLT, Nat.reduceLeDiff, Nat.le_refl, not_true_eq_false, not_false_eq_true, r_eq, r_ne, r_lt, r_ge, r_gt, r_le, bz_ne, nn_toNat, cn_of, cn_0, cn_1, i10, Int.reduceLE, Int.reduceLT, Int.reduceEq, bz_T, bz_F, ite_self, mulc, st_bud]
      all_goals first | exact ⟨rfl, rfl⟩ | rfl | trivial
/-- how far the tell reaches, for the reference -/
theorem c12_reachR {T : Nat → Option q_T} {nx rc rs B a : Nat} {R : Nat → Nat → Option Value} {G0 G : Nat → Int → Int} {i v : Int} {cd : Int → Int} {l : Int} {K : Option Value → q_M → Prop} (hM : Ly T R (B + 544) (L12 (B + 544))) (i0 : 0 ≤ i) (i1 : i < 100) (hR : RB G0 G B a i v cd) (l0 : 0 ≤ l) (l1 : l < G0 a 4) :
    fX12_reachOf [.ref (B + 544), .int (zI i), .int (zI l)] (st T nx rc rs R G) K = K (some (.int (zI (phi (G0 (tvA B v + 10)) (G0 (a + 1)) (G0 (a + 6)) (rcl (G0 (tvA B v + 10)) (G0 (a + 1)) (G0 (a + 3)) (G0 (a + 3) (G0 (a + 8) l))))))) (st T nx rc rs R G) := by
  have hR0 := hR
  obtain ⟨hF, tk, tN, hE, h39, lv⟩ := hR
  obtain ⟨x1, x2, x3, x4, x5⟩ := lv l l0 l1
  obtain ⟨p, q, f, k, hp, p0, p1, p2, p3, p4, hq, q0, q1, q2, _⟩ := leafP hF tk tN l0 l1
  have tb := TOK_b tk
  have lb : G0 a 4 ≤ 201 := by omega
  rw [← hp, ← hq] at x2
  rw [← hp, ← hq, ← (rcl_f tk.2.2.2.1 (G0 (tvA B v + 10)) q0 (by omega) q2).2.2.2]
  have e3 : rkn (G0 (a + 6)) q = G0 (a + 6) q := by rw [rkn, if_neg (by omega)]
  have w := fun (Kn : List Value → q_M → Prop) (Kr : Option Value → q_M → Prop) => w12_reachOf (nx := nx) (rc := rc) (rs := rs) (l := l) (p := q) (Kn := Kn) (Kr := Kr) hM i0 i1 hR0 202 (Or.inr ⟨q0, q2⟩) (by omega) (by omega)
  rw [e3] at w
  simp (disch := omega) only [↓fX12_reachOf.eq_1, ↓uX12_reachOf, ↓k_mk, ↓k_sq, ↓k_sk, ↓k_bk, ↓k_if, ↓k_te, ↓k_cm, ↓k_cz, ↓k_an2, ↓k_or2, ↓k_no, ↓k_ci, ↓k_l0, ↓k_r0, ↓k_se0, ↓k_ic0, ↓k_l1, ↓k_r1, ↓k_se1, ↓k_ic1, ↓k_de1, ↓k_tk1, ↓k_l2, ↓k_r2, ↓k_se2, ↓k_ic2, ↓k_de2, ↓k_tk2, ↓k_l3, ↓k_r3, ↓k_se3, ↓k_ic3, ↓k_de3, ↓k_tk3, ↓k_l4, ↓k_r4, ↓k_se4, ↓k_ic4, ↓k_de4, ↓k_tk4, ↓k_l5, ↓k_r5, ↓k_se5, ↓k_ic5, ↓k_de5, ↓k_tk5, ↓k_l6, ↓k_r6, ↓k_se6, ↓k_ic6, ↓k_de6, ↓k_tk6, ↓k_l7, ↓k_r7, ↓k_se7, ↓k_ic7, ↓k_de7, ↓k_tk7, ↓k_l8, ↓k_r8, ↓k_se8, ↓k_ic8, ↓k_de8, ↓k_tk8, ↓k_l9, ↓k_r9, ↓k_se9, ↓k_ic9, ↓k_de9, ↓k_tk9, ↓k_l10, ↓k_r10, ↓k_se10, ↓k_ic10, ↓k_de10, ↓k_tk10, ↓k_l11, ↓k_r11, ↓k_se11, ↓k_ic11, ↓k_de11, ↓k_tk11, ↓k_l12, ↓k_r12, ↓k_se12, ↓k_ic12, ↓k_de12, ↓k_tk12, ↓k_l13, ↓k_r13, ↓k_se13, ↓k_ic13, ↓k_de13, ↓k_tk13, ↓k_l14, ↓k_r14, ↓k_se14, ↓k_ic14, ↓k_de14, ↓k_tk14, ↓k_l15, ↓k_r15, ↓k_se15, ↓k_ic15, ↓k_de15, ↓k_tk15, ↓k_l16, ↓k_r16, ↓k_se16, ↓k_ic16, ↓k_de16, ↓k_tk16, ↓k_l17, ↓k_r17, ↓k_se17, ↓k_ic17, ↓k_de17, ↓k_tk17, ↓k_l18, ↓k_r18, ↓k_se18, ↓k_ic18, ↓k_de18, ↓k_tk18, ↓k_l19, ↓k_r19, ↓k_se19, ↓k_ic19, ↓k_de19, ↓k_tk19, ↓k_l20, ↓k_r20, ↓k_se20, ↓k_ic20, ↓k_de20, ↓k_tk20, ↓k_l21, ↓k_r21, ↓k_se21, ↓k_ic21, ↓k_de21, ↓k_tk21, ↓k_l22, ↓k_r22, ↓k_se22, ↓k_ic22, ↓k_de22, ↓k_tk22, ↓k_l23, ↓k_r23, ↓k_se23, ↓k_ic23, ↓k_de23, ↓k_tk23, ↓k_l24, ↓k_r24, ↓k_se24, ↓k_ic24, ↓k_de24, ↓k_tk24, ↓k_l25, ↓k_r25, ↓k_se25, ↓k_ic25, ↓k_de25, ↓k_tk25, ↓k_k, ↓k_kn, ↓k_kl, ↓k_kln, ↓k_il, ↓k_2, ↓k_1, ↓k_2c, ↓k_2l, ↓k_ac, ↓k_an, ↓k_cs, ↓k_cv, ↓k_fi, ↓k_fr, ↓k_ai, ↓k_az, ↓k_ar, ↓k_sai, ↓k_saz, ↓k_soa, ↓k_sof, ↓k_spf, ↓k_sx, ↓k_blk, ↓k_sset, ↓k_sdec, ↓k_sri, ↓k_srv, ↓k_srr, ↓k_nop, ↓k_add, ↓k_sub, ↓k_mul, ↓k_min, ↓k_max, ↓k_shr, ↓k_shl, ↓k_or, ↓k_ilz, ↓k_addl, ↓k_rt, ↓k_rb, ↓k_rbz, ↓k_rsi, ↓k_rsr, ↓k_rsv, ↓reduceIte, ↓w, x2, ↓xr12_41 hM, ↓xa12_41 hM, ↓xs12_41 hM, ↓xo12_41 hM, ↓xc12_41 hM, ↓xd12_41 hM, List.length_cons, List.length_nil, List.forall_mem_cons, List.not_mem_nil, Value.category, true_and, and_true, false_and, and_false, or_true, true_or, or_false, false_or, Nat.zero_le, forall_const, implies_true, false_implies, Nat.zero_add, Nat.reduceAdd, Nat.reduceLT, Nat.reduceLeDiff, Nat.le_refl, not_true_eq_false, not_false_eq_true, r_eq, r_ne, r_lt, r_ge, r_gt, r_le, bz_ne, nn_toNat, cn_of, cn_0, cn_1, i10, Int.reduceLE, Int.reduceLT, Int.reduceEq, bz_T, bz_F, ite_self, mulc, st_bud]
end
