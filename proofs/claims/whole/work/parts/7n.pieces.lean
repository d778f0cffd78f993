section
/-! the reference's names of pieces: nodes by rank, leaves from 40 on -/
theorem Tr_5 {h F : Int} {ns I : Int → Int} {n N L : Int} {c e u s r na la : Int → Int} (t : Tr h F ns I n N L c e u s r na la) (hF : ∀ f, 0 ≤ f → f < F → ns f ≤ 5) : n ≤ 5 * N + 1 := by
  by_cases g : n < 2
  · have := t.1.2.2.1
    omega
  · have key : ∀ k : Nat, k ≤ (n - 2).toNat → 0 ≤ u (k + 1) ∧ r (u (k + 1)) < N ∧ 0 ≤ r (u (k + 1)) ∧ 0 ≤ s (k + 1) ∧ s (k + 1) < 5 ∧ na (r (u (k + 1))) = u (k + 1) ∧ chI e (u (k + 1)) (s (k + 1)).toNat = k + 1 := fun k hk => by
      obtain ⟨u1, u2, u3, _, _, u6, u7, u8⟩ := Tr_par t (p := (k : Int) + 1) (by omega) (by omega)
      obtain ⟨r1, r2, r3, r4⟩ := Tr_n t u1 (by omega) u3
      have f1 := (t.2.2.2.1 (u (k + 1)) u1 (by omega) u3).1
      have := hF _ (by omega) f1
      rw [← r1] at r2 r3 r4
      exact ⟨u1, r4, r3, u6, by omega, r2, u8⟩
    have := pig (5 * N).toNat (n - 2).toNat (fun k => 5 * r (u (k + 1)) + s (k + 1)) (fun k hk => by
      obtain ⟨a1, a2, a3, a4, a5, _⟩ := key k hk
      show 0 ≤ 5 * r (u (k + 1)) + s (k + 1) ∧ 5 * r (u (k + 1)) + s (k + 1) < ((5 * N).toNat : Int)
      omega) (fun j k hj hk q => by
      have q : 5 * r (u (j + 1)) + s (j + 1) = 5 * r (u (k + 1)) + s (k + 1) := q
      obtain ⟨a1, a2, a3, a4, a5, a6, a7⟩ := key j hj
      obtain ⟨b1, b2, b3, b4, b5, b6, b7⟩ := key k hk
      have e1 : r (u (j + 1)) = r (u (k + 1)) := by omega
      have e2 : s (j + 1) = s (k + 1) := by omega
      have e3 : u (j + 1) = u (k + 1) := by rw [← a6, ← b6, e1]
      rw [e2, e3, b7] at a7
      omega)
    omega
def pn (c r : Int → Int) (p : Int) : Int := if 1000 ≤ c p then r p else 40 + r p
theorem pn_b {h F : Int} {ns I : Int → Int} {n N L : Int} {c e u s r na la : Int → Int} (t : Tr h F ns I n N L c e u s r na la) (hF : ∀ f, 0 ≤ f → f < F → ns f ≤ 5) {p : Int} (p0 : 0 ≤ p) (p1 : p < n) : 0 ≤ pn c r p ∧ pn c r p < 220 := by
  have t5 := Tr_5 t hF
  have t1 := t.1
  obtain ⟨_, n2, N0, N1, L0, NL, _⟩ := t1
  unfold pn
  by_cases g : 1000 ≤ c p
  · obtain ⟨r1, r2, r3, r4⟩ := Tr_n t p0 p1 g
    rw [if_pos g]
    omega
  · obtain ⟨l1, l2, l3⟩ := leaf_of t p0 p1 g
    rw [if_neg g]
    omega
theorem pn_inj {h F : Int} {ns I : Int → Int} {n N L : Int} {c e u s r na la : Int → Int} (t : Tr h F ns I n N L c e u s r na la) {p q : Int} (hp : 0 ≤ p ∧ p < n) (hq : 0 ≤ q ∧ q < n) (h : pn c r p = pn c r q) : p = q := by
  have N1 := t.1.2.2.2.1
  unfold pn at h
  by_cases g : 1000 ≤ c p
  · obtain ⟨r1, r2, r3, r4⟩ := Tr_n t hp.1 hp.2 g
    rw [if_pos g] at h
    by_cases g2 : 1000 ≤ c q
    · obtain ⟨s1, s2, s3, s4⟩ := Tr_n t hq.1 hq.2 g2
      rw [if_pos g2] at h
      rw [← r2, ← s2, ← r1, ← s1, h]
    · obtain ⟨l1, l2, l3⟩ := leaf_of t hq.1 hq.2 g2
      rw [if_neg g2] at h
      omega
  · obtain ⟨l1, l2, l3⟩ := leaf_of t hp.1 hp.2 g
    rw [if_neg g] at h
    by_cases g2 : 1000 ≤ c q
    · obtain ⟨s1, s2, s3, s4⟩ := Tr_n t hq.1 hq.2 g2
      rw [if_pos g2] at h
      omega
    · obtain ⟨k1, k2, k3⟩ := leaf_of t hq.1 hq.2 g2
      rw [if_neg g2] at h
      have e : r p = r q := by omega
      rw [← l3, ← k3, e]
/-- the leaf in the slot -/
theorem leaf_at {h F : Int} {ns I : Int → Int} {n N L : Int} {c e u s r na la : Int → Int} (t : Tr h F ns I n N L c e u s r na la) {m l : Int} {k : Nat} (m0 : 0 ≤ m) (m1 : m < N) (hk : (k : Int) < ns (c (na m) - 1000)) (hc : ¬ 1000 ≤ c (chI e (na m) k)) (l0 : 0 ≤ l) (l1 : l < L) : (r (u (la l)) = m ∧ s (la l) = k) ↔ l = r (chI e (na m) k) := by
  obtain ⟨p0, p1, p2, p3, p4⟩ := Tr_m t m0 m1
  obtain ⟨c1, c2, c3⟩ := t.2.2.2.1 _ p0 p1 p2
  obtain ⟨d1, d2, d3, d4, _⟩ := c3 k hk
  obtain ⟨k1, k2, k3⟩ := leaf_of t (by omega) d2 hc
  obtain ⟨q1, q2, q3, q4⟩ := t.2.2.2.2.2.2.2.2 l l0 l1
  constructor
  · intro ⟨x, y⟩
    by_cases z : la l = 0
    · have un := t.1.2.2.2.2.2.2.2
      by_cases nn : 1000 ≤ c 0
      · rw [z] at q3
        exact absurd nn q3
      · have := (t.2.2.2.2.1 0 (by omega) (by omega) nn).2
        have e0 := t.1.2.2.2.2.2.2.1
        omega
    · obtain ⟨u1, u2, u3, _, _, u6, u7, u8⟩ := Tr_par t (p := la l) (by omega) q2
      obtain ⟨r1, r2, r3, r4⟩ := Tr_n t u1 (by omega) u3
      rw [← r1, x] at r2
      rw [← r2, y, Int.toNat_natCast] at u8
      obtain ⟨_, w2, w3⟩ := leaf_of t q1 q2 q3
      have w := ((t.2.2.2.2.2.2.1 (la l) q1 q2).2 q3).1
      rw [u8, w, q4]
  · intro q
    rw [q, k3, d3, p4]
    exact ⟨rfl, d4⟩
end
section
/-- the reference's piece in the k-th slot of the m-th node -/
theorem c12_pieceIn {T : Nat → Option q_T} {nx rc rs B a : Nat} {R : Nat → Nat → Option Value} {G0 G : Nat → Int → Int} {i v m k : Int} {cd : Int → Int} {K : Option Value → q_M → Prop} (hM : Ly T R (B + 544) (L12 (B + 544))) (i0 : 0 ≤ i) (i1 : i < 100) (hR : RB G0 G B a i v cd) (hsl : G (B + 544 + 21) = G0 (B + 544 + 21)) (m0 : 0 ≤ m) (m1 : m < G0 a 3) (k0 : -1 ≤ k) (k1 : k < G0 (tvA B v + 5) (G0 (a + 1) (G0 (a + 7) m) - 1000)) :
    fX12_pieceIn [.ref (B + 544), .int (zI i), .int (zI m), .int (zI k)] (st T nx rc rs R G) K = K (some (.int (zI (pn (G0 (a + 1)) (G0 (a + 6)) (if k = -1 then G0 (a + 7) m else chI (G0 (a + 2)) (G0 (a + 7) m) k.toNat))))) (st T nx rc rs R G) := by
  obtain ⟨hF, tk, tN, hE, h39, lv⟩ := hR
  have ct := CT_of hF tk tN
  have kT := tk.2.2.2.1
  have N40 := kT.1.2.2.2.1
  have n201 := kT.1.2.1
  have L00 := kT.1.2.2.2.2.1
  have LN := kT.1.2.2.2.2.2.1
  obtain ⟨p0, p1, p2, p3, p4⟩ := Tr_m kT m0 m1
  obtain ⟨f0, f1, _, f5, _⟩ := nodeC ct p0 p1 p2
  by_cases g : k = -1
  · rw [if_pos g]
    have e1 : pn (G0 (a + 1)) (G0 (a + 6)) (G0 (a + 7) m) = m := by
      unfold pn
      rw [if_pos p2]
      exact p4
    rw [e1]
    have kn : k < 0 := by omega
    simp (disch := omega) only [↓fX12_pieceIn.eq_1, ↓uX12_pieceIn, ↓k_mk, ↓k_sq, ↓k_sk, ↓k_bk, ↓k_if, ↓k_te, ↓k_cm, ↓k_cz, ↓k_an2, ↓k_or2, ↓k_no, ↓k_ci, ↓k_l0, ↓k_r0, ↓k_se0, ↓k_ic0, ↓k_l1, ↓k_r1, ↓k_se1, ↓k_ic1, ↓k_de1, ↓k_tk1, ↓k_l2, ↓k_r2, ↓k_se2, ↓k_ic2, ↓k_de2, ↓k_tk2, ↓k_l3, ↓k_r3, ↓k_se3, ↓k_ic3, ↓k_de3, ↓k_tk3, ↓k_l4, ↓k_r4, ↓k_se4, ↓k_ic4, ↓k_de4, ↓k_tk4, ↓k_l5, ↓k_r5, ↓k_se5, ↓k_ic5, ↓k_de5, ↓k_tk5, ↓k_l6, ↓k_r6, ↓k_se6, ↓k_ic6, ↓k_de6, ↓k_tk6, ↓k_l7, ↓k_r7, ↓k_se7, ↓k_ic7, ↓k_de7, ↓k_tk7, ↓k_l8, ↓k_r8, ↓k_se8, ↓k_ic8, ↓k_de8, ↓k_tk8, ↓k_l9, ↓k_r9, ↓k_se9, ↓k_ic9, ↓k_de9, ↓k_tk9, ↓k_l10, ↓k_r10, ↓k_se10, ↓k_ic10, ↓k_de10, ↓k_tk10, ↓k_l11, ↓k_r11, ↓k_se11, ↓k_ic11, ↓k_de11, ↓k_tk11, ↓k_l12, ↓k_r12, ↓k_se12, ↓k_ic12, ↓k_de12, ↓k_tk12, ↓k_l13, ↓k_r13, ↓k_se13, ↓k_ic13, ↓k_de13, ↓k_tk13, ↓k_l14, ↓k_r14, ↓k_se14, ↓k_ic14, ↓k_de14, ↓k_tk14, ↓k_l15, ↓k_r15, ↓k_se15, ↓k_ic15, ↓k_de15, ↓k_tk15, ↓k_l16, ↓k_r16, ↓k_se16, ↓k_ic16, ↓k_de16, ↓k_tk16, ↓k_l17, ↓k_r17, ↓k_se17, ↓k_ic17, ↓k_de17, ↓k_tk17, ↓k_l18, ↓k_r18, ↓k_se18, ↓k_ic18, ↓k_de18, ↓k_tk18, ↓k_l19, ↓k_r19, ↓k_se19, ↓k_ic19, ↓k_de19, ↓k_tk19, ↓k_l20, ↓k_r20, ↓k_se20, ↓k_ic20, ↓k_de20, ↓k_tk20, ↓k_l21, ↓k_r21, ↓k_se21, ↓k_ic21, ↓k_de21, ↓k_tk21, ↓k_l22, ↓k_r22, ↓k_se22, ↓k_ic22, ↓k_de22, ↓k_tk22, ↓k_l23, ↓k_r23, ↓k_se23, ↓k_ic23, ↓k_de23, ↓k_tk23, ↓k_l24, ↓k_r24, ↓k_se24, ↓k_ic24, ↓k_de24, ↓k_tk24, ↓k_l25, ↓k_r25, ↓k_se25, ↓k_ic25, ↓k_de25, ↓k_tk25, ↓k_k, ↓k_kn, ↓k_kl, ↓k_kln, ↓k_il, ↓k_2, ↓k_1, ↓k_2c, ↓k_2l, ↓k_ac, ↓k_an, ↓k_cs, ↓k_cv, ↓k_fi, ↓k_fr, ↓k_ai, ↓k_az, ↓k_ar, ↓k_sai, ↓k_saz, ↓k_soa, ↓k_sof, ↓k_spf, ↓k_sx, ↓k_blk, ↓k_sset, ↓k_sdec, ↓k_sri, ↓k_srv, ↓k_srr, ↓k_nop, ↓k_add, ↓k_sub, ↓k_mul, ↓k_min, ↓k_max, ↓k_shr, ↓k_shl, ↓k_or, ↓k_ilz, ↓k_addl, ↓k_rt, ↓k_rb, ↓k_rbz, ↓k_rsi, ↓k_rsr, ↓k_rsv, ↓reduceIte, kn, List.length_cons, List.length_nil, List.forall_mem_cons, List.not_mem_nil, Value.category, true_and, and_true, false_and, and_false, or_true, true_or, or_false, false_or, Nat.zero_le, forall_const, implies_true, false_implies, Nat.zero_add, Nat.reduceAdd, Nat.reduceLT, Nat.reduceLeDiff, Nat.le_refl, not_true_eq_false, not_false_eq_true, r_eq, r_ne, r_lt, r_ge, r_gt, r_le, bz_ne, nn_toNat, cn_of, cn_0, cn_1, i10, Int.reduceLE, Int.reduceLT, Int.reduceEq, bz_T, bz_F, ite_self, mulc, st_bud]
  · rw [if_neg g]
    have kz : 0 ≤ k := by omega
    obtain ⟨_, _, w3⟩ := tk.2.2.2.2.2.2 m m0 m1
    have w := w3 k.toNat (by omega)
    have ek : ((k.toNat : Nat) : Int) = k := by omega
    rw [ek] at w
    obtain ⟨ch, hch⟩ : ∃ ch, ch = chI (G0 (a + 2)) (G0 (a + 7) m) k.toNat := ⟨_, rfl⟩
    obtain ⟨_, _, c3⟩ := kT.2.2.2.1 _ p0 p1 p2
    have d := c3 k.toNat (by omega)
    rw [← hch] at w d ⊢
    have hs : G (B + 544 + 21) (5 * (40 * i + m) + k) = pc (G0 (a + 1)) (G0 (a + 6)) ch := by rw [hsl]; exact w
    have cS := fun (K : Option Value → q_M → Prop) => c12_slotAt (T := T) (nx := nx) (rc := 0) (rs := 0) (R := R) (G := G) (v1 := i) (v2 := m) (v3 := k) (K := K) hM (by omega) (by omega)
    rw [hs] at cS
    have kn : ¬ k < 0 := by omega
    by_cases gn : 1000 ≤ G0 (a + 1) ch
    · obtain ⟨r1, r2, r3, r4⟩ := Tr_n kT (by omega) d.2.1 gn
      obtain ⟨x, hx⟩ : ∃ x, x = G0 (a + 6) ch := ⟨_, rfl⟩
      unfold pc at cS
      unfold pn
      rw [if_pos gn, ← hx] at cS ⊢
      have x0 : 0 ≤ x := by omega
      have xg : 1000 ≤ 1000 + x := by omega
      have xe : 1000 + x - 1000 = x := by omega
      simp (disch := omega) only [↓fX12_pieceIn.eq_1, ↓uX12_pieceIn, ↓(k_cv3 dX12_slotAt (t12 hM)), ↓k_mk, ↓k_sq, ↓k_sk, ↓k_bk, ↓k_if, ↓k_te, ↓k_cm, ↓k_cz, ↓k_an2, ↓k_or2, ↓k_no, ↓k_ci, ↓k_l0, ↓k_r0, ↓k_se0, ↓k_ic0, ↓k_l1, ↓k_r1, ↓k_se1, ↓k_ic1, ↓k_de1, ↓k_tk1, ↓k_l2, ↓k_r2, ↓k_se2, ↓k_ic2, ↓k_de2, ↓k_tk2, ↓k_l3, ↓k_r3, ↓k_se3, ↓k_ic3, ↓k_de3, ↓k_tk3, ↓k_l4, ↓k_r4, ↓k_se4, ↓k_ic4, ↓k_de4, ↓k_tk4, ↓k_l5, ↓k_r5, ↓k_se5, ↓k_ic5, ↓k_de5, ↓k_tk5, ↓k_l6, ↓k_r6, ↓k_se6, ↓k_ic6, ↓k_de6, ↓k_tk6, ↓k_l7, ↓k_r7, ↓k_se7, ↓k_ic7, ↓k_de7, ↓k_tk7, ↓k_l8, ↓k_r8, ↓k_se8, ↓k_ic8, ↓k_de8, ↓k_tk8, ↓k_l9, ↓k_r9, ↓k_se9, ↓k_ic9, ↓k_de9, ↓k_tk9, ↓k_l10, ↓k_r10, ↓k_se10, ↓k_ic10, ↓k_de10, ↓k_tk10, ↓k_l11, ↓k_r11, ↓k_se11, ↓k_ic11, ↓k_de11, ↓k_tk11, ↓k_l12, ↓k_r12, ↓k_se12, ↓k_ic12, ↓k_de12, ↓k_tk12, ↓k_l13, ↓k_r13, ↓k_se13, ↓k_ic13, ↓k_de13, ↓k_tk13, ↓k_l14, ↓k_r14, ↓k_se14, ↓k_ic14, ↓k_de14, ↓k_tk14, ↓k_l15, ↓k_r15, ↓k_se15, ↓k_ic15, ↓k_de15, ↓k_tk15, ↓k_l16, ↓k_r16, ↓k_se16, ↓k_ic16, ↓k_de16, ↓k_tk16, ↓k_l17, ↓k_r17, ↓k_se17, ↓k_ic17, ↓k_de17, ↓k_tk17, ↓k_l18, ↓k_r18, ↓k_se18, ↓k_ic18, ↓k_de18, ↓k_tk18, ↓k_l19, ↓k_r19, ↓k_se19, ↓k_ic19, ↓k_de19, ↓k_tk19, ↓k_l20, ↓k_r20, ↓k_se20, ↓k_ic20, ↓k_de20, ↓k_tk20, ↓k_l21, ↓k_r21, ↓k_se21, ↓k_ic21, ↓k_de21, ↓k_tk21, ↓k_l22, ↓k_r22, ↓k_se22, ↓k_ic22, ↓k_de22, ↓k_tk22, ↓k_l23, ↓k_r23, ↓k_se23, ↓k_ic23, ↓k_de23, ↓k_tk23, ↓k_l24, ↓k_r24, ↓k_se24, ↓k_ic24, ↓k_de24, ↓k_tk24, ↓k_l25, ↓k_r25, ↓k_se25, ↓k_ic25, ↓k_de25, ↓k_tk25, ↓k_k, ↓k_kn, ↓k_kl, ↓k_kln, ↓k_il, ↓k_2, ↓k_1, ↓k_2c, ↓k_2l, ↓k_ac, ↓k_an, ↓k_cs, ↓k_cv, ↓k_fi, ↓k_fr, ↓k_ai, ↓k_az, ↓k_ar, ↓k_sai, ↓k_saz, ↓k_soa, ↓k_sof, ↓k_spf, ↓k_sx, ↓k_blk, ↓k_sset, ↓k_sdec, ↓k_sri, ↓k_srv, ↓k_srr, ↓k_nop, ↓k_add, ↓k_sub, ↓k_mul, ↓k_min, ↓k_max, ↓k_shr, ↓k_shl, ↓k_or, ↓k_ilz, ↓k_addl, ↓k_rt, ↓k_rb, ↓k_rbz, ↓k_rsi, ↓k_rsr, ↓k_rsv, ↓reduceIte, kn, ↓(k_cv3 dX12_slotAt (t12 hM)), ↓cS, xg, xe, List.length_cons, List.length_nil, List.forall_mem_cons, List.not_mem_nil, Value.category, true_and, and_true, false_and, and_false, or_true, true_or, or_false, false_or, Nat.zero_le, forall_const, implies_true, false_implies, Nat.zero_add, Nat.reduceAdd, Nat.reduceLT, Nat.reduceLeDiff, Nat.le_refl, not_true_eq_false, not_false_eq_true, r_eq, r_ne, r_lt, r_ge, r_gt, r_le, bz_ne, nn_toNat, cn_of, cn_0, cn_1, i10, Int.reduceLE, Int.reduceLT, Int.reduceEq, bz_T, bz_F, ite_self, mulc, st_bud]
    · obtain ⟨l1, l2, l3⟩ := leaf_of kT (by omega) d.2.1 gn
      obtain ⟨x, hx⟩ : ∃ x, x = G0 (a + 6) ch := ⟨_, rfl⟩
      unfold pc at cS
      unfold pn
      rw [if_neg gn] at cS ⊢
      rw [← hx] at l1 l2 ⊢
      obtain ⟨cc, hcc⟩ : ∃ cc, cc = G0 (a + 1) ch := ⟨_, rfl⟩
      have cb := Tr_cb kT (hF _ tk.2.2.1.1 tk.2.2.1.2).2.2.1 tN (p := ch) (by omega) d.2.1
      rw [← hcc] at cS gn cb
      have wl : ∀ (Kn : List Value → q_M → Prop) (Kr : Option Value → q_M → Prop), wX12_pieceIn_0 [.ref (B + 544), .int (zI i), .int (zI m), .int (zI k), .int (zI cc), .int (zI (-1)), .int (zI 0)] (st T nx rc rs R G) Kn Kr = Kn [.ref (B + 544), .int (zI i), .int (zI m), .int (zI k), .int (zI cc), .int (zI x), .int (zI (G0 a 4).toNat)] (st T nx rc rs R G) := by
        have f := q_for eX12_pieceIn_0 (fun _ _ => lX12_pieceIn_0) (fun j => [.ref (B + 544), .int (zI i), .int (zI m), .int (zI k), .int (zI cc), .int (zI (if x < j then x else -1)), .int (zI j)]) (fun _ => st T nx rc rs R G) (G0 a 4).toNat (fun j hj Kn Kf h => by
          have hz : (j : Int) < G0 a 4 := by omega
          obtain ⟨_, y2, y3, _⟩ := lv j (by omega) hz
          have la0 := leaf_at kT (k := k.toNat) m0 m1 (by omega) (by rw [← hch, ← hcc]; exact gn) (l := j) (by omega) hz
          rw [← hch, ← hx, ek] at la0
          obtain ⟨y, hy⟩ : ∃ y, y = G0 (a + 6) (G0 (a + 3) (G0 (a + 8) j)) := ⟨_, rfl⟩
          obtain ⟨y', hy'⟩ : ∃ y', y' = G0 (a + 4) (G0 (a + 8) j) := ⟨_, rfl⟩
          rw [← hy] at y2 la0
          rw [← hy'] at y3 la0
          obtain ⟨_, q, kk, hp, _, _, _, _, _, hq, q0, q1, q2, hk', kk0, kk1, _⟩ := leafC ct (l := j) (by omega) hz
          obtain ⟨r1, _, r3, r4⟩ := Tr_n kT q0 (by omega) q2
          have yb : 0 ≤ y ∧ y < 40 := by rw [hy, ← hp, ← hq, r1]; omega
          have yb' : 0 ≤ y' ∧ y' < 5 := by rw [hy', ← hp, ← hk']; omega
          clear hp hq hk' hy hy'
          obtain ⟨fo, hfo⟩ : ∃ fo : Int, fo = if x < j then x else -1 := ⟨_, rfl⟩
          have fb : -1 ≤ fo ∧ fo < 201 := by rw [hfo]; split <;> omega
          have jb : (j : Int) < 201 := by omega
          rw [← hfo]
          by_cases g1 : y = m
          · by_cases g2 : y' = k
            · have ex := la0.mp ⟨g1, g2⟩
              have e2 : (if x < ((j + 1 : Nat) : Int) then x else -1) = j := by rw [if_pos (by omega)]; exact ex.symm
              simp only [e2] at h
              simp (disch := omega) only [↓wcX12_pieceIn_0.eq_1, ↓wsX12_pieceIn_0.eq_1, ↓k_mk, ↓k_sq, ↓k_sk, ↓k_bk, ↓k_if, ↓k_te, ↓k_cm, ↓k_cz, ↓k_an2, ↓k_or2, ↓k_no, ↓k_ci, ↓k_l0, ↓k_r0, ↓k_se0, ↓k_ic0, ↓k_l1, ↓k_r1, ↓k_se1, ↓k_ic1, ↓k_de1, ↓k_tk1, ↓k_l2, ↓k_r2, ↓k_se2, ↓k_ic2, ↓k_de2, ↓k_tk2, ↓k_l3, ↓k_r3, ↓k_se3, ↓k_ic3, ↓k_de3, ↓k_tk3, ↓k_l4, ↓k_r4, ↓k_se4, ↓k_ic4, ↓k_de4, ↓k_tk4, ↓k_l5, ↓k_r5, ↓k_se5, ↓k_ic5, ↓k_de5, ↓k_tk5, ↓k_l6, ↓k_r6, ↓k_se6, ↓k_ic6, ↓k_de6, ↓k_tk6, ↓k_l7, ↓k_r7, ↓k_se7, ↓k_ic7, ↓k_de7, ↓k_tk7, ↓k_l8, ↓k_r8, ↓k_se8, ↓k_ic8, ↓k_de8, ↓k_tk8, ↓k_l9, ↓k_r9, ↓k_se9, ↓k_ic9, ↓k_de9, ↓k_tk9, ↓k_l10, ↓k_r10, ↓k_se10, ↓k_ic10, ↓k_de10, ↓k_tk10, ↓k_l11, ↓k_r11, ↓k_se11, ↓k_ic11, ↓k_de11, ↓k_tk11, ↓k_l12, ↓k_r12, ↓k_se12, ↓k_ic12, ↓k_de12, ↓k_tk12, ↓k_l13, ↓k_r13, ↓k_se13, ↓k_ic13, ↓k_de13, ↓k_tk13, ↓k_l14, ↓k_r14, ↓k_se14, ↓k_ic14, ↓k_de14, ↓k_tk14, ↓k_l15, ↓k_r15, ↓k_se15, ↓k_ic15, ↓k_de15, ↓k_tk15, ↓k_l16, ↓k_r16, ↓k_se16, ↓k_ic16, ↓k_de16, ↓k_tk16, ↓k_l17, ↓k_r17, ↓k_se17, ↓k_ic17, ↓k_de17, ↓k_tk17, ↓k_l18, ↓k_r18, ↓k_se18, ↓k_ic18, ↓k_de18, ↓k_tk18, ↓k_l19, ↓k_r19, ↓k_se19, ↓k_ic19, ↓k_de19, ↓k_tk19, ↓k_l20, ↓k_r20, ↓k_se20, ↓k_ic20, ↓k_de20, ↓k_tk20, ↓k_l21, ↓k_r21, ↓k_se21, ↓k_ic21, ↓k_de21, ↓k_tk21, ↓k_l22, ↓k_r22, ↓k_se22, ↓k_ic22, ↓k_de22, ↓k_tk22, ↓k_l23, ↓k_r23, ↓k_se23, ↓k_ic23, ↓k_de23, ↓k_tk23, ↓k_l24, ↓k_r24, ↓k_se24, ↓k_ic24, ↓k_de24, ↓k_tk24, ↓k_l25, ↓k_r25, ↓k_se25, ↓k_ic25, ↓k_de25, ↓k_tk25, ↓k_k, ↓k_kn, ↓k_kl, ↓k_kln, ↓k_il, ↓k_2, ↓k_1, ↓k_2c, ↓k_2l, ↓k_ac, ↓k_an, ↓k_cs, ↓k_cv, ↓k_fi, ↓k_fr, ↓k_ai, ↓k_az, ↓k_ar, ↓k_sai, ↓k_saz, ↓k_soa, ↓k_sof, ↓k_spf, ↓k_sx, ↓k_blk, ↓k_sset, ↓k_sdec, ↓k_sri, ↓k_srv, ↓k_srr, ↓k_nop, ↓k_add, ↓k_sub, ↓k_mul, ↓k_min, ↓k_max, ↓k_shr, ↓k_shl, ↓k_or, ↓k_ilz, ↓k_addl, ↓k_rt, ↓k_rb, ↓k_rbz, ↓k_rsi, ↓k_rsr, ↓k_rsv, ↓reduceIte, hz, h39, y2, y3, g1, g2, eq_self, ↓xi12_39 hM, ↓xp12_39 hM, ↓xb12_39 hM, ↓xf12_39 hM, ↓xg12_39 hM, ↓xh12_39 hM, ↓xr12_41 hM, ↓xa12_41 hM, ↓xs12_41 hM, ↓xo12_41 hM, ↓xc12_41 hM, ↓xd12_41 hM, ↓xr12_42 hM, ↓xa12_42 hM, ↓xs12_42 hM, ↓xo12_42 hM, ↓xc12_42 hM, ↓xd12_42 hM, List.length_cons, List.length_nil, List.forall_mem_cons, List.not_mem_nil, Value.category, true_and, and_true, false_and, and_false, or_true, true_or, or_false, false_or, Nat.zero_le, forall_const, implies_true, false_implies, Nat.zero_add, Nat.reduceAdd, Nat.reduceLT, Nat.reduceLeDiff, Nat.le_refl, not_true_eq_false, not_false_eq_true, r_eq, r_ne, r_lt, r_ge, r_gt, r_le, bz_ne, nn_toNat, cn_of, cn_0, cn_1, i10, Int.reduceLE, Int.reduceLT, Int.reduceEq, bz_T, bz_F, ite_self, mulc, st_bud]
              exact h
            · have ne : ¬ (j : Int) = x := fun q => g2 (la0.mpr q).2
              have e2 : (if x < ((j + 1 : Nat) : Int) then x else -1) = fo := by
                rw [hfo]
                by_cases w : x < (j : Int)
                · rw [if_pos w, if_pos (by omega)]
                · rw [if_neg w, if_neg (by omega)]
              simp only [e2] at h
              simp (disch := omega) only [↓wcX12_pieceIn_0.eq_1, ↓wsX12_pieceIn_0.eq_1, ↓k_mk, ↓k_sq, ↓k_sk, ↓k_bk, ↓k_if, ↓k_te, ↓k_cm, ↓k_cz, ↓k_an2, ↓k_or2, ↓k_no, ↓k_ci, ↓k_l0, ↓k_r0, ↓k_se0, ↓k_ic0, ↓k_l1, ↓k_r1, ↓k_se1, ↓k_ic1, ↓k_de1, ↓k_tk1, ↓k_l2, ↓k_r2, ↓k_se2, ↓k_ic2, ↓k_de2, ↓k_tk2, ↓k_l3, ↓k_r3, ↓k_se3, ↓k_ic3, ↓k_de3, ↓k_tk3, ↓k_l4, ↓k_r4, ↓k_se4, ↓k_ic4, ↓k_de4, ↓k_tk4, ↓k_l5, ↓k_r5, ↓k_se5, ↓k_ic5, ↓k_de5, ↓k_tk5, ↓k_l6, ↓k_r6, ↓k_se6, ↓k_ic6, ↓k_de6, ↓k_tk6, ↓k_l7, ↓k_r7, ↓k_se7, ↓k_ic7, ↓k_de7, ↓k_tk7, ↓k_l8, ↓k_r8, ↓k_se8, ↓k_ic8, ↓k_de8, ↓k_tk8, ↓k_l9, ↓k_r9, ↓k_se9, ↓k_ic9, ↓k_de9, ↓k_tk9, ↓k_l10, ↓k_r10, ↓k_se10, ↓k_ic10, ↓k_de10, ↓k_tk10, ↓k_l11, ↓k_r11, ↓k_se11, ↓k_ic11, ↓k_de11, ↓k_tk11, ↓k_l12, ↓k_r12, ↓k_se12, ↓k_ic12, ↓k_de12, ↓k_tk12, ↓k_l13, ↓k_r13, ↓k_se13, ↓k_ic13, ↓k_de13, ↓k_tk13, ↓k_l14, ↓k_r14, ↓k_se14, ↓k_ic14, ↓k_de14, ↓k_tk14, ↓k_l15, ↓k_r15, ↓k_se15, ↓k_ic15, ↓k_de15, ↓k_tk15, ↓k_l16, ↓k_r16, ↓k_se16, ↓k_ic16, ↓k_de16, ↓k_tk16, ↓k_l17, ↓k_r17, ↓k_se17, ↓k_ic17, ↓k_de17, ↓k_tk17, ↓k_l18, ↓k_r18, ↓k_se18, ↓k_ic18, ↓k_de18, ↓k_tk18, ↓k_l19, ↓k_r19, ↓k_se19, ↓k_ic19, ↓k_de19, ↓k_tk19, ↓k_l20, ↓k_r20, ↓k_se20, ↓k_ic20, ↓k_de20, ↓k_tk20, ↓k_l21, ↓k_r21, ↓k_se21, ↓k_ic21, ↓k_de21, ↓k_tk21, ↓k_l22, ↓k_r22, ↓k_se22, ↓k_ic22, ↓k_de22, ↓k_tk22, ↓k_l23, ↓k_r23, ↓k_se23, ↓k_ic23, ↓k_de23, ↓k_tk23, ↓k_l24, ↓k_r24, ↓k_se24, ↓k_ic24, ↓k_de24, ↓k_tk24, ↓k_l25, ↓k_r25, ↓k_se25, ↓k_ic25, ↓k_de25, ↓k_tk25, ↓k_k, ↓k_kn, ↓k_kl, ↓k_kln, ↓k_il, ↓k_2, ↓k_1, ↓k_2c, ↓k_2l, ↓k_ac, ↓k_an, ↓k_cs, ↓k_cv, ↓k_fi, ↓k_fr, ↓k_ai, ↓k_az, ↓k_ar, ↓k_sai, ↓k_saz, ↓k_soa, ↓k_sof, ↓k_spf, ↓k_sx, ↓k_blk, ↓k_sset, ↓k_sdec, ↓k_sri, ↓k_srv, ↓k_srr, ↓k_nop, ↓k_add, ↓k_sub, ↓k_mul, ↓k_min, ↓k_max, ↓k_shr, ↓k_shl, ↓k_or, ↓k_ilz, ↓k_addl, ↓k_rt, ↓k_rb, ↓k_rbz, ↓k_rsi, ↓k_rsr, ↓k_rsv, ↓reduceIte, hz, h39, y2, y3, g1, g2, eq_self, ↓xi12_39 hM, ↓xp12_39 hM, ↓xb12_39 hM, ↓xf12_39 hM, ↓xg12_39 hM, ↓xh12_39 hM, ↓xr12_41 hM, ↓xa12_41 hM, ↓xs12_41 hM, ↓xo12_41 hM, ↓xc12_41 hM, ↓xd12_41 hM, ↓xr12_42 hM, ↓xa12_42 hM, ↓xs12_42 hM, ↓xo12_42 hM, ↓xc12_42 hM, ↓xd12_42 hM, List.length_cons, List.length_nil, List.forall_mem_cons, List.not_mem_nil, Value.category, true_and, and_true, false_and, and_false, or_true, true_or, or_false, false_or, Nat.zero_le, forall_const, implies_true, false_implies, Nat.zero_add, Nat.reduceAdd, Nat.reduceLT, Nat.reduceLeDiff, Nat.le_refl, not_true_eq_false, not_false_eq_true, r_eq, r_ne, r_lt, r_ge, r_gt, r_le, bz_ne, nn_toNat, cn_of, cn_0, cn_1, i10, Int.reduceLE, Int.reduceLT, Int.reduceEq, bz_T, bz_F, ite_self, mulc, st_bud]
              exact h
          · have ne : ¬ (j : Int) = x := fun q => g1 (la0.mpr q).1
            have e2 : (if x < ((j + 1 : Nat) : Int) then x else -1) = fo := by
              rw [hfo]
              by_cases w : x < (j : Int)
              · rw [if_pos w, if_pos (by omega)]
              · rw [if_neg w, if_neg (by omega)]
            simp only [e2] at h
            simp (disch := omega) only [↓wcX12_pieceIn_0.eq_1, ↓wsX12_pieceIn_0.eq_1, ↓k_mk, ↓k_sq, ↓k_sk, ↓k_bk, ↓k_if, ↓k_te, ↓k_cm, ↓k_cz, ↓k_an2, ↓k_or2, ↓k_no, ↓k_ci, ↓k_l0, ↓k_r0, ↓k_se0, ↓k_ic0, ↓k_l1, ↓k_r1, ↓k_se1, ↓k_ic1, ↓k_de1, ↓k_tk1, ↓k_l2, ↓k_r2, ↓k_se2, ↓k_ic2, ↓k_de2, ↓k_tk2, ↓k_l3, ↓k_r3, ↓k_se3, ↓k_ic3, ↓k_de3, ↓k_tk3, ↓k_l4, ↓k_r4, ↓k_se4, ↓k_ic4, ↓k_de4, ↓k_tk4, ↓k_l5, ↓k_r5, ↓k_se5, ↓k_ic5, ↓k_de5, ↓k_tk5, ↓k_l6, ↓k_r6, ↓k_se6, ↓k_ic6, ↓k_de6, ↓k_tk6, ↓k_l7, ↓k_r7, ↓k_se7, ↓k_ic7, ↓k_de7, ↓k_tk7, ↓k_l8, ↓k_r8, ↓k_se8, ↓k_ic8, ↓k_de8, ↓k_tk8, ↓k_l9, ↓k_r9, ↓k_se9, ↓k_ic9, ↓k_de9, ↓k_tk9, ↓k_l10, ↓k_r10, ↓k_se10, ↓k_ic10, ↓k_de10, ↓k_tk10, ↓k_l11, ↓k_r11, ↓k_se11, ↓k_ic11, ↓k_de11, ↓k_tk11, ↓k_l12, ↓k_r12, ↓k_se12, ↓k_ic12, ↓k_de12, ↓k_tk12, ↓k_l13, ↓k_r13, ↓k_se13, ↓k_ic13, ↓k_de13, ↓k_tk13, ↓k_l14, ↓k_r14, ↓k_se14, ↓k_ic14, ↓k_de14, ↓k_tk14, ↓k_l15, ↓k_r15, ↓k_se15, ↓k_ic15, ↓k_de15, ↓k_tk15, ↓k_l16, ↓k_r16, ↓k_se16, ↓k_ic16, ↓k_de16, ↓k_tk16, ↓k_l17, ↓k_r17, ↓k_se17, ↓k_ic17, ↓k_de17, ↓k_tk17, ↓k_l18, ↓k_r18, ↓k_se18, ↓k_ic18, ↓k_de18, ↓k_tk18, ↓k_l19, ↓k_r19, ↓k_se19, ↓k_ic19, ↓k_de19, ↓k_tk19, ↓k_l20, ↓k_r20, ↓k_se20, ↓k_ic20, ↓k_de20, ↓k_tk20, ↓k_l21, ↓k_r21, ↓k_se21, ↓k_ic21, ↓k_de21, ↓k_tk21, ↓k_l22, ↓k_r22, ↓k_se22, ↓k_ic22, ↓k_de22, ↓k_tk22, ↓k_l23, ↓k_r23, ↓k_se23, ↓k_ic23, ↓k_de23, ↓k_tk23, ↓k_l24, ↓k_r24, ↓k_se24, ↓k_ic24, ↓k_de24, ↓k_tk24, ↓k_l25, ↓k_r25, ↓k_se25, ↓k_ic25, ↓k_de25, ↓k_tk25, ↓k_k, ↓k_kn, ↓k_kl, ↓k_kln, ↓k_il, ↓k_2, ↓k_1, ↓k_2c, ↓k_2l, ↓k_ac, ↓k_an, ↓k_cs, ↓k_cv, ↓k_fi, ↓k_fr, ↓k_ai, ↓k_az, ↓k_ar, ↓k_sai, ↓k_saz, ↓k_soa, ↓k_sof, ↓k_spf, ↓k_sx, ↓k_blk, ↓k_sset, ↓k_sdec, ↓k_sri, ↓k_srv, ↓k_srr, ↓k_nop, ↓k_add, ↓k_sub, ↓k_mul, ↓k_min, ↓k_max, ↓k_shr, ↓k_shl, ↓k_or, ↓k_ilz, ↓k_addl, ↓k_rt, ↓k_rb, ↓k_rbz, ↓k_rsi, ↓k_rsr, ↓k_rsv, ↓reduceIte, hz, h39, y2, g1, ↓xi12_39 hM, ↓xp12_39 hM, ↓xb12_39 hM, ↓xf12_39 hM, ↓xg12_39 hM, ↓xh12_39 hM, ↓xr12_41 hM, ↓xa12_41 hM, ↓xs12_41 hM, ↓xo12_41 hM, ↓xc12_41 hM, ↓xd12_41 hM, List.length_cons, List.length_nil, List.forall_mem_cons, List.not_mem_nil, Value.category, true_and, and_true, false_and, and_false, or_true, true_or, or_false, false_or, Nat.zero_le, forall_const, implies_true, false_implies, Nat.zero_add, Nat.reduceAdd, Nat.reduceLT, Nat.reduceLeDiff, Nat.le_refl, not_true_eq_false, not_false_eq_true, r_eq, r_ne, r_lt, r_ge, r_gt, r_le, bz_ne, nn_toNat, cn_of, cn_0, cn_1, i10, Int.reduceLE, Int.reduceLT, Int.reduceEq, bz_T, bz_F, ite_self, mulc, st_bud]
            exact h) (fun Kt Kf h => by
          have hz : ¬ (G0 a 4 < G0 a 4) := by omega
          simp (disch := omega) only [↓wcX12_pieceIn_0.eq_1, ↓k_mk, ↓k_sq, ↓k_sk, ↓k_bk, ↓k_if, ↓k_te, ↓k_cm, ↓k_cz, ↓k_an2, ↓k_or2, ↓k_no, ↓k_ci, ↓k_l0, ↓k_r0, ↓k_se0, ↓k_ic0, ↓k_l1, ↓k_r1, ↓k_se1, ↓k_ic1, ↓k_de1, ↓k_tk1, ↓k_l2, ↓k_r2, ↓k_se2, ↓k_ic2, ↓k_de2, ↓k_tk2, ↓k_l3, ↓k_r3, ↓k_se3, ↓k_ic3, ↓k_de3, ↓k_tk3, ↓k_l4, ↓k_r4, ↓k_se4, ↓k_ic4, ↓k_de4, ↓k_tk4, ↓k_l5, ↓k_r5, ↓k_se5, ↓k_ic5, ↓k_de5, ↓k_tk5, ↓k_l6, ↓k_r6, ↓k_se6, ↓k_ic6, ↓k_de6, ↓k_tk6, ↓k_l7, ↓k_r7, ↓k_se7, ↓k_ic7, ↓k_de7, ↓k_tk7, ↓k_l8, ↓k_r8, ↓k_se8, ↓k_ic8, ↓k_de8, ↓k_tk8, ↓k_l9, ↓k_r9, ↓k_se9, ↓k_ic9, ↓k_de9, ↓k_tk9, ↓k_l10, ↓k_r10, ↓k_se10, ↓k_ic10, ↓k_de10, ↓k_tk10, ↓k_l11, ↓k_r11, ↓k_se11, ↓k_ic11, ↓k_de11, ↓k_tk11, ↓k_l12, ↓k_r12, ↓k_se12, ↓k_ic12, ↓k_de12, ↓k_tk12, ↓k_l13, ↓k_r13, ↓k_se13, ↓k_ic13, ↓k_de13, ↓k_tk13, ↓k_l14, ↓k_r14, ↓k_se14, ↓k_ic14, ↓k_de14, ↓k_tk14, ↓k_l15, ↓k_r15, ↓k_se15, ↓k_ic15, ↓k_de15, ↓k_tk15, ↓k_l16, ↓k_r16, ↓k_se16, ↓k_ic16, ↓k_de16, ↓k_tk16, ↓k_l17, ↓k_r17, ↓k_se17, ↓k_ic17, ↓k_de17, ↓k_tk17, ↓k_l18, ↓k_r18, ↓k_se18, ↓k_ic18, ↓k_de18, ↓k_tk18, ↓k_l19, ↓k_r19, ↓k_se19, ↓k_ic19, ↓k_de19, ↓k_tk19, ↓k_l20, ↓k_r20, ↓k_se20, ↓k_ic20, ↓k_de20, ↓k_tk20, ↓k_l21, ↓k_r21, ↓k_se21, ↓k_ic21, ↓k_de21, ↓k_tk21, ↓k_l22, ↓k_r22, ↓k_se22, ↓k_ic22, ↓k_de22, ↓k_tk22, ↓k_l23, ↓k_r23, ↓k_se23, ↓k_ic23, ↓k_de23, ↓k_tk23, ↓k_l24, ↓k_r24, ↓k_se24, ↓k_ic24, ↓k_de24, ↓k_tk24, ↓k_l25, ↓k_r25, ↓k_se25, ↓k_ic25, ↓k_de25, ↓k_tk25, ↓k_k, ↓k_kn, ↓k_kl, ↓k_kln, ↓k_il, ↓k_2, ↓k_1, ↓k_2c, ↓k_2l, ↓k_ac, ↓k_an, ↓k_cs, ↓k_cv, ↓k_fi, ↓k_fr, ↓k_ai, ↓k_az, ↓k_ar, ↓k_sai, ↓k_saz, ↓k_soa, ↓k_sof, ↓k_spf, ↓k_sx, ↓k_blk, ↓k_sset, ↓k_sdec, ↓k_sri, ↓k_srv, ↓k_srr, ↓k_nop, ↓k_add, ↓k_sub, ↓k_mul, ↓k_min, ↓k_max, ↓k_shr, ↓k_shl, ↓k_or, ↓k_ilz, ↓k_addl, ↓k_rt, ↓k_rb, ↓k_rbz, ↓k_rsi, ↓k_rsr, ↓k_rsv, ↓reduceIte, hz, h39, ↓xi12_39 hM, ↓xp12_39 hM, ↓xb12_39 hM, ↓xf12_39 hM, ↓xg12_39 hM, ↓xh12_39 hM, List.length_cons, List.length_nil, List.forall_mem_cons, List.not_mem_nil, Value.category, true_and, and_true, false_and, and_false, or_true, true_or, or_false, false_or, Nat.zero_le, forall_const, implies_true, false_implies, Nat.zero_add, Nat.reduceAdd, Nat.reduceLT, Nat.reduceLeDiff, Nat.le_refl, not_true_eq_false, not_false_eq_true, r_eq, r_ne, r_lt, r_ge, r_gt, r_le, bz_ne, nn_toNat, cn_of, cn_0, cn_1, i10, Int.reduceLE, Int.reduceLT, Int.reduceEq, bz_T, bz_F, ite_self, mulc, st_bud]
          exact h)
        intro Kn Kr
        have f2 := f Kn Kr
        rw [if_neg (by omega), if_pos (by omega)] at f2
        exact f2
      simp (disch := omega) only [↓fX12_pieceIn.eq_1, ↓uX12_pieceIn, ↓(k_cv3 dX12_slotAt (t12 hM)), ↓k_mk, ↓k_sq, ↓k_sk, ↓k_bk, ↓k_if, ↓k_te, ↓k_cm, ↓k_cz, ↓k_an2, ↓k_or2, ↓k_no, ↓k_ci, ↓k_l0, ↓k_r0, ↓k_se0, ↓k_ic0, ↓k_l1, ↓k_r1, ↓k_se1, ↓k_ic1, ↓k_de1, ↓k_tk1, ↓k_l2, ↓k_r2, ↓k_se2, ↓k_ic2, ↓k_de2, ↓k_tk2, ↓k_l3, ↓k_r3, ↓k_se3, ↓k_ic3, ↓k_de3, ↓k_tk3, ↓k_l4, ↓k_r4, ↓k_se4, ↓k_ic4, ↓k_de4, ↓k_tk4, ↓k_l5, ↓k_r5, ↓k_se5, ↓k_ic5, ↓k_de5, ↓k_tk5, ↓k_l6, ↓k_r6, ↓k_se6, ↓k_ic6, ↓k_de6, ↓k_tk6, ↓k_l7, ↓k_r7, ↓k_se7, ↓k_ic7, ↓k_de7, ↓k_tk7, ↓k_l8, ↓k_r8, ↓k_se8, ↓k_ic8, ↓k_de8, ↓k_tk8, ↓k_l9, ↓k_r9, ↓k_se9, ↓k_ic9, ↓k_de9, ↓k_tk9, ↓k_l10, ↓k_r10, ↓k_se10, ↓k_ic10, ↓k_de10, ↓k_tk10, ↓k_l11, ↓k_r11, ↓k_se11, ↓k_ic11, ↓k_de11, ↓k_tk11, ↓k_l12, ↓k_r12, ↓k_se12, ↓k_ic12, ↓k_de12, ↓k_tk12, ↓k_l13, ↓k_r13, ↓k_se13, ↓k_ic13, ↓k_de13, ↓k_tk13, ↓k_l14, ↓k_r14, ↓k_se14, ↓k_ic14, ↓k_de14, ↓k_tk14, ↓k_l15, ↓k_r15, ↓k_se15, ↓k_ic15, ↓k_de15, ↓k_tk15, ↓k_l16, ↓k_r16, ↓k_se16, ↓k_ic16, ↓k_de16, ↓k_tk16, ↓k_l17, ↓k_r17, ↓k_se17, ↓k_ic17, ↓k_de17, ↓k_tk17, ↓k_l18, ↓k_r18, ↓k_se18, ↓k_ic18, ↓k_de18, ↓k_tk18, ↓k_l19, ↓k_r19, ↓k_se19, ↓k_ic19, ↓k_de19, ↓k_tk19, ↓k_l20, ↓k_r20, ↓k_se20, ↓k_ic20, ↓k_de20, ↓k_tk20, ↓k_l21, ↓k_r21, ↓k_se21, ↓k_ic21, ↓k_de21, ↓k_tk21, ↓k_l22, ↓k_r22, ↓k_se22, ↓k_ic22, ↓k_de22, ↓k_tk22, ↓k_l23, ↓k_r23, ↓k_se23, ↓k_ic23, ↓k_de23, ↓k_tk23, ↓k_l24, ↓k_r24, ↓k_se24, ↓k_ic24, ↓k_de24, ↓k_tk24, ↓k_l25, ↓k_r25, ↓k_se25, ↓k_ic25, ↓k_de25, ↓k_tk25, ↓k_k, ↓k_kn, ↓k_kl, ↓k_kln, ↓k_il, ↓k_2, ↓k_1, ↓k_2c, ↓k_2l, ↓k_ac, ↓k_an, ↓k_cs, ↓k_cv, ↓k_fi, ↓k_fr, ↓k_ai, ↓k_az, ↓k_ar, ↓k_sai, ↓k_saz, ↓k_soa, ↓k_sof, ↓k_spf, ↓k_sx, ↓k_blk, ↓k_sset, ↓k_sdec, ↓k_sri, ↓k_srv, ↓k_srr, ↓k_nop, ↓k_add, ↓k_sub, ↓k_mul, ↓k_min, ↓k_max, ↓k_shr, ↓k_shl, ↓k_or, ↓k_ilz, ↓k_addl, ↓k_rt, ↓k_rb, ↓k_rbz, ↓k_rsi, ↓k_rsr, ↓k_rsv, ↓reduceIte, kn, ↓(k_cv3 dX12_slotAt (t12 hM)), ↓cS, gn, ↓wl, List.length_cons, List.length_nil, List.forall_mem_cons, List.not_mem_nil, Value.category, true_and, and_true, false_and, and_false, or_true, true_or, or_false, false_or, Nat.zero_le, forall_const, implies_true, false_implies, Nat.zero_add, Nat.reduceAdd, Nat.reduceLT, Nat.reduceLeDiff, Nat.le_refl, not_true_eq_false, not_false_eq_true, r_eq, r_ne, r_lt, r_ge, r_gt, r_le, bz_ne, nn_toNat, cn_of, cn_0, cn_1, i10, Int.reduceLE, Int.reduceLT, Int.reduceEq, bz_T, bz_F, ite_self, mulc, st_bud]
end
