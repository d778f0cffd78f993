section
/-! the reference asks for a fault -/
def tq (m : Nat) : Nat := m &&& (m - 1)
theorem tq_val : ∀ m : Fin 64, q_giand (zI (m.val : Int)) (zI ((m.val : Int) - 1)) = zI ((tq m.val : Nat) : Int) := by decide +kernel
theorem tq_0 : ∀ m : Fin 64, (tq m.val = 0 ↔ ¬ 2 ≤ pop m.val) ∧ tq m.val < 64 := by decide +kernel
/-- of kind κ by the first k of those that stand -/
def Kq (H : Nat) (one two kd : Nat → Int) (S : Nat → Prop) (k : Nat) (p κ : Int) : Prop := ∃ i, i < k ∧ S i ∧ two i < 0 ∧ Cl H one two S p (one i) ∧ kd i = κ
def Fq (H : Nat) (one two kd : Nat → Int) (S : Nat → Prop) (k : Nat) : Prop := ∃ p, two2 (fun κ => Kq H one two kd S k p κ)
theorem Kq_s {H : Nat} {one two kd : Nat → Int} {S : Nat → Prop} (k : Nat) (p κ : Int) : Kq H one two kd S (k + 1) p κ ↔ (Kq H one two kd S k p κ ∨ (S k ∧ two k < 0 ∧ Cl H one two S p (one k) ∧ kd k = κ)) := by
  constructor
  · intro ⟨i, i1, i2, i3, i4, i5⟩
    by_cases z : i = k
    · rw [z] at i2 i3 i4 i5
      exact Or.inr ⟨i2, i3, i4, i5⟩
    · exact Or.inl ⟨i, by omega, i2, i3, i4, i5⟩
  · intro w
    rcases w with ⟨i, i1, i2, i3, i4, i5⟩ | ⟨i2, i3, i4, i5⟩
    · exact ⟨i, by omega, i2, i3, i4, i5⟩
    · exact ⟨k, by omega, i2, i3, i4, i5⟩
theorem Kq_no {H : Nat} {one two kd : Nat → Int} {S : Nat → Prop} {k : Nat} (h : ¬ (S k ∧ two k < 0)) (p κ : Int) : Kq H one two kd S (k + 1) p κ ↔ Kq H one two kd S k p κ := by
  rw [Kq_s]
  exact ⟨fun w => w.elim id (fun w => absurd ⟨w.1, w.2.1⟩ h), Or.inl⟩
theorem Fq_no {H : Nat} {one two kd : Nat → Int} {S : Nat → Prop} {k : Nat} (h : ¬ (S k ∧ two k < 0)) : Fq H one two kd S (k + 1) ↔ Fq H one two kd S k := by
  unfold Fq two2
  constructor
  · intro ⟨p, x, y, n, a, b⟩
    exact ⟨p, x, y, n, (Kq_no h p x).mp a, (Kq_no h p y).mp b⟩
  · intro ⟨p, x, y, n, a, b⟩
    exact ⟨p, x, y, n, (Kq_no h p x).mpr a, (Kq_no h p y).mpr b⟩
theorem Kq_like {H : Nat} {one two kd : Nat → Int} {S : Nat → Prop} {k : Nat} {p q κ : Int} (w : Cl H one two S p q) : Kq H one two kd S k p κ ↔ Kq H one two kd S k q κ := by
  have e := Cl_eqv (H := H) (one := one) (two := two) (S := S)
  constructor
  · intro ⟨i, h1, h2, h3, h4, h5⟩
    exact ⟨i, h1, h2, h3, e.2.2 _ _ _ (e.2.1 _ _ w) h4, h5⟩
  · intro ⟨i, h1, h2, h3, h4, h5⟩
    exact ⟨i, h1, h2, h3, e.2.2 _ _ _ w h4, h5⟩
theorem Fq_s {H : Nat} {one two kd : Nat → Int} {S : Nat → Prop} {k : Nat} : Fq H one two kd S (k + 1) ↔ (Fq H one two kd S k ∨ two2 (fun κ => Kq H one two kd S (k + 1) (one k) κ)) := by
  have e := Cl_eqv (H := H) (one := one) (two := two) (S := S)
  constructor
  · intro ⟨p, x, y, n, a, b⟩
    rcases (Kq_s k p x).mp a with a' | ⟨_, _, a3, _⟩
    · rcases (Kq_s k p y).mp b with b' | ⟨_, _, b3, _⟩
      · exact Or.inl ⟨p, x, y, n, a', b'⟩
      · exact Or.inr ⟨x, y, n, (Kq_like b3).mp a, (Kq_like b3).mp b⟩
    · exact Or.inr ⟨x, y, n, (Kq_like a3).mp a, (Kq_like a3).mp b⟩
  · intro w
    rcases w with ⟨p, x, y, n, a, b⟩ | ⟨x, y, n, a, b⟩
    · exact ⟨p, x, y, n, (Kq_s k p x).mpr (Or.inl a), (Kq_s k p y).mpr (Or.inl b)⟩
    · exact ⟨one k, x, y, n, a, b⟩
theorem t12_kk {T : Nat → Option q_T} {nx rc rs B m k : Nat} {R : Nat → Nat → Option Value} {G : Nat → Int → Int} {f i h : Int} (hM : Ly T R (B + 544) (L12 (B + 544))) (i0 : 0 ≤ i) (i1 : i < 420) (h0 : 0 ≤ h) (h1 : h < 220) (hk : G (B + 544 + 71) i = k) (k6 : k < 6) (hm : G (B + 544 + 75) h = m) (m64 : m < 64) :
    ∀ (Kn : List Value → q_M → Prop) (Kr : Option Value → q_M → Prop), q_soa q_gior (q_fr 12 91 (q_r 0)) (q_l 3) (q_2 q_gishl (q_k 1) (q_ai (q_fr 12 87 (q_r 0)) (q_l 2))) [.ref (B + 544), .int (zI f), .int (zI i), .int (zI h)] (st T nx rc rs R G) Kn Kr = Kn [.ref (B + 544), .int (zI f), .int (zI i), .int (zI h)] (st T nx rc rs R (gs G (B + 544 + 75) h ((m ||| 2 ^ k : Nat) : Int))) := by
  have p2 : 2 ^ k < 256 := by
    have : 2 ^ k ≤ 2 ^ 6 := Nat.pow_le_pow_right (by omega) (by omega)
    omega
  have e : q_gior (zI (G (B + 544 + 75) h)) (q_gishl (zI 1) (zI (G (B + 544 + 71) i))) = zI ((m ||| 2 ^ k : Nat) : Int) := by
    rw [hk, hm, gshl ⟨k, by omega⟩, gor (by omega) p2]
  have ka : ∀ (env : List Value) (Kn : List Value → q_M → Prop), ao2K (B + 544 + 75) 220 (zI h) (q_gior (zI (G (B + 544 + 75) h)) (q_gishl (zI 1) (zI (G (B + 544 + 71) i)))) env (st T nx rc rs R G) Kn = Kn env (st T nx rc rs R (gs G (B + 544 + 75) h ((m ||| 2 ^ k : Nat) : Int))) := by
    rw [e]
    exact fun env Kn => ao_any (t12_91 hM) (w12_91 hM) (by omega) h0 h1
  intro Kn Kr
  simp (disch := omega) only [↓k_mk, ↓k_sq, ↓k_sk, ↓k_bk, ↓k_if, ↓k_te, ↓k_cm, ↓k_cz, ↓k_an2, ↓k_or2, ↓k_no, ↓k_ci, ↓k_l0, ↓k_r0, ↓k_se0, ↓k_ic0, ↓k_l1, ↓k_r1, ↓k_se1, ↓k_ic1, ↓k_de1, ↓k_tk1, ↓k_l2, ↓k_r2, ↓k_se2, ↓k_ic2, ↓k_de2, ↓k_tk2, ↓k_l3, ↓k_r3, ↓k_se3, ↓k_ic3, ↓k_de3, ↓k_tk3, ↓k_l4, ↓k_r4, ↓k_se4, ↓k_ic4, ↓k_de4, ↓k_tk4, ↓k_l5, ↓k_r5, ↓k_se5, ↓k_ic5, ↓k_de5, ↓k_tk5, ↓k_l6, ↓k_r6, ↓k_se6, ↓k_ic6, ↓k_de6, ↓k_tk6, ↓k_l7, ↓k_r7, ↓k_se7, ↓k_ic7, ↓k_de7, ↓k_tk7, ↓k_l8, ↓k_r8, ↓k_se8, ↓k_ic8, ↓k_de8, ↓k_tk8, ↓k_l9, ↓k_r9, ↓k_se9, ↓k_ic9, ↓k_de9, ↓k_tk9, ↓k_l10, ↓k_r10, ↓k_se10, ↓k_ic10, ↓k_de10, ↓k_tk10, ↓k_l11, ↓k_r11, ↓k_se11, ↓k_ic11, ↓k_de11, ↓k_tk11, ↓k_l12, ↓k_r12, ↓k_se12, ↓k_ic12, ↓k_de12, ↓k_tk12, ↓k_l13, ↓k_r13, ↓k_se13, ↓k_ic13, ↓k_de13, ↓k_tk13, ↓k_l14, ↓k_r14, ↓k_se14, ↓k_ic14, ↓k_de14, ↓k_tk14, ↓k_l15, ↓k_r15, ↓k_se15, ↓k_ic15, ↓k_de15, ↓k_tk15, ↓k_l16, ↓k_r16, ↓k_se16, ↓k_ic16, ↓k_de16, ↓k_tk16, ↓k_l17, ↓k_r17, ↓k_se17, ↓k_ic17, ↓k_de17, ↓k_tk17, ↓k_l18, ↓k_r18, ↓k_se18, ↓k_ic18, ↓k_de18, ↓k_tk18, ↓k_l19, ↓k_r19, ↓k_se19, ↓k_ic19, ↓k_de19, ↓k_tk19, ↓k_l20, ↓k_r20, ↓k_se20, ↓k_ic20, ↓k_de20, ↓k_tk20, ↓k_l21, ↓k_r21, ↓k_se21, ↓k_ic21, ↓k_de21, ↓k_tk21, ↓k_l22, ↓k_r22, ↓k_se22, ↓k_ic22, ↓k_de22, ↓k_tk22, ↓k_l23, ↓k_r23, ↓k_se23, ↓k_ic23, ↓k_de23, ↓k_tk23, ↓k_l24, ↓k_r24, ↓k_se24, ↓k_ic24, ↓k_de24, ↓k_tk24, ↓k_l25, ↓k_r25, ↓k_se25, ↓k_ic25, ↓k_de25, ↓k_tk25, ↓k_k, ↓k_kn, ↓k_kl, ↓k_kln, ↓k_il, ↓k_2, ↓k_1, ↓k_2c, ↓k_2l, ↓k_ac, ↓k_an, ↓k_cs, ↓k_cv, ↓k_fi, ↓k_fr, ↓k_ai, ↓k_az, ↓k_ar, ↓k_sai, ↓k_saz, ↓k_soa, ↓k_sof, ↓k_spf, ↓k_sx, ↓k_blk, ↓k_sset, ↓k_sdec, ↓k_sri, ↓k_srv, ↓k_srr, ↓k_nop, ↓k_add, ↓k_sub, ↓k_mul, ↓k_min, ↓k_max, ↓k_shr, ↓k_shl, ↓k_or, ↓k_ilz, ↓k_addl, ↓k_rt, ↓k_rb, ↓k_rbz, ↓k_rsi, ↓k_rsr, ↓k_rsv, ↓reduceIte, ↓ka, ↓xr12_87 hM, ↓xa12_87 hM, ↓xs12_87 hM, ↓xo12_87 hM, ↓xc12_87 hM, ↓xd12_87 hM, ↓xr12_91 hM, ↓xa12_91 hM, ↓xs12_91 hM, ↓xo12_91 hM, ↓xc12_91 hM, ↓xd12_91 hM, List.length_cons, List.length_nil, List.forall_mem_cons, List.not_mem_nil, Value.category, true_and, and_true, false_and, and_false, or_true, true_or, or_false, false_or, Nat.zero_le, forall_const, implies_true, false_implies, Nat.zero_add, Nat.reduceAdd, Nat.reduceLT, Nat.reduceLeDiff, Nat.le_refl, not_true_eq_false, not_false_eq_true, r_eq, r_ne, r_lt, r_ge, r_gt, r_le, bz_ne, nn_toNat, cn_of, cn_0, cn_1, i10, Int.reduceLE, Int.reduceLT, Int.reduceEq, bz_T, bz_F, ite_self, mulc, st_bud]
/-- the kinds so far -/
def JQ (G : Nat → Int → Int) (B H : Nat) (one two kd : Nat → Int) (S : Nat → Prop) (k : Nat) (ρ : Int → Int) : Prop := ∀ p, 0 ≤ p → p < 220 → KB (G (B + 544 + 75) (ρ p)) (fun κ => Kq H one two kd S k p κ)
theorem w12_kinds {T : Nat → Option q_T} {nx B H : Nat} {R : Nat → Nat → Option Value} {G : Nat → Int → Int} {one two kd : Nat → Int} {S : Nat → Prop} {ρ : Int → Int} {dp : Int → Nat} (hM : Ly T R (B + 544) (L12 (B + 544))) (rh : RHd G B H one two kd) (lg : LGo G B H S) (uf : UF 220 (G (B + 544 + 74)) ρ dp) (cl : ∀ p q, 0 ≤ p → p < 220 → 0 ≤ q → q < 220 → (ρ p = ρ q ↔ Cl H one two S p q)) :
    ∀ d k : Nat, k + d = H → ∀ (G2 : Nat → Int → Int) (f : Nat), (∀ x, ¬ x = (B + 544 + 75) → G2 x = G x) → JQ G2 B H one two kd S k ρ → f < 2 → (f = 1 ↔ Fq H one two kd S k) → ∃ (G' : Nat → Int → Int) (f' : Nat), (∀ x, ¬ x = (B + 544 + 75) → G' x = G x) ∧ JQ G' B H one two kd S H ρ ∧ f' < 2 ∧ (f' = 1 ↔ Fq H one two kd S H) ∧ q_wh wcX12_isFault_2 wsX12_isFault_2 [.ref (B + 544), .int (zI f), .int (zI k)] (st T nx 0 0 R G2) (fun e μ => e = [.ref (B + 544), .int (zI f'), .int (zI H)] ∧ μ = st T nx 0 0 R G') (fun _ _ => False) := by
  obtain ⟨h84, hH, hr⟩ := rh
  intro d
  induction d with
  | zero =>
    intro k hk G2 f x1 x2 f2 ff
    have e : k = H := by omega
    subst e
    have e0 : G2 (B + 544) 84 = k := by rw [x1 _ (by omega)]; exact h84
    refine ⟨G2, f, x1, x2, f2, ff, q_outR (fun Kt Kf h => ?_) ⟨rfl, rfl⟩⟩
    have hz : ¬ ((k : Int) < k) := by omega
    simp (disch := omega) only [↓wcX12_isFault_2.eq_1, ↓k_mk, ↓k_sq, ↓k_sk, ↓k_bk, ↓k_if, ↓k_te, ↓k_cm, ↓k_cz, ↓k_an2, ↓k_or2, ↓k_no, ↓k_ci, ↓k_l0, ↓k_r0, ↓k_se0, ↓k_ic0, ↓k_l1, ↓k_r1, ↓k_se1, ↓k_ic1, ↓k_de1, ↓k_tk1, ↓k_l2, ↓k_r2, ↓k_se2, ↓k_ic2, ↓k_de2, ↓k_tk2, ↓k_l3, ↓k_r3, ↓k_se3, ↓k_ic3, ↓k_de3, ↓k_tk3, ↓k_l4, ↓k_r4, ↓k_se4, ↓k_ic4, ↓k_de4, ↓k_tk4, ↓k_l5, ↓k_r5, ↓k_se5, ↓k_ic5, ↓k_de5, ↓k_tk5, ↓k_l6, ↓k_r6, ↓k_se6, ↓k_ic6, ↓k_de6, ↓k_tk6, ↓k_l7, ↓k_r7, ↓k_se7, ↓k_ic7, ↓k_de7, ↓k_tk7, ↓k_l8, ↓k_r8, ↓k_se8, ↓k_ic8, ↓k_de8, ↓k_tk8, ↓k_l9, ↓k_r9, ↓k_se9, ↓k_ic9, ↓k_de9, ↓k_tk9, ↓k_l10, ↓k_r10, ↓k_se10, ↓k_ic10, ↓k_de10, ↓k_tk10, ↓k_l11, ↓k_r11, ↓k_se11, ↓k_ic11, ↓k_de11, ↓k_tk11, ↓k_l12, ↓k_r12, ↓k_se12, ↓k_ic12, ↓k_de12, ↓k_tk12, ↓k_l13, ↓k_r13, ↓k_se13, ↓k_ic13, ↓k_de13, ↓k_tk13, ↓k_l14, ↓k_r14, ↓k_se14, ↓k_ic14, ↓k_de14, ↓k_tk14, ↓k_l15, ↓k_r15, ↓k_se15, ↓k_ic15, ↓k_de15, ↓k_tk15, ↓k_l16, ↓k_r16, ↓k_se16, ↓k_ic16, ↓k_de16, ↓k_tk16, ↓k_l17, ↓k_r17, ↓k_se17, ↓k_ic17, ↓k_de17, ↓k_tk17, ↓k_l18, ↓k_r18, ↓k_se18, ↓k_ic18, ↓k_de18, ↓k_tk18, ↓k_l19, ↓k_r19, ↓k_se19, ↓k_ic19, ↓k_de19, ↓k_tk19, ↓k_l20, ↓k_r20, ↓k_se20, ↓k_ic20, ↓k_de20, ↓k_tk20, ↓k_l21, ↓k_r21, ↓k_se21, ↓k_ic21, ↓k_de21, ↓k_tk21, ↓k_l22, ↓k_r22, ↓k_se22, ↓k_ic22, ↓k_de22, ↓k_tk22, ↓k_l23, ↓k_r23, ↓k_se23, ↓k_ic23, ↓k_de23, ↓k_tk23, ↓k_l24, ↓k_r24, ↓k_se24, ↓k_ic24, ↓k_de24, ↓k_tk24, ↓k_l25, ↓k_r25, ↓k_se25, ↓k_ic25, ↓k_de25, ↓k_tk25, ↓k_k, ↓k_kn, ↓k_kl, ↓k_kln, ↓k_il, ↓k_2, ↓k_1, ↓k_2c, ↓k_2l, ↓k_ac, ↓k_an, ↓k_cs, ↓k_cv, ↓k_fi, ↓k_fr, ↓k_ai, ↓k_az, ↓k_ar, ↓k_sai, ↓k_saz, ↓k_soa, ↓k_sof, ↓k_spf, ↓k_sx, ↓k_blk, ↓k_sset, ↓k_sdec, ↓k_sri, ↓k_srv, ↓k_srr, ↓k_nop, ↓k_add, ↓k_sub, ↓k_mul, ↓k_min, ↓k_max, ↓k_shr, ↓k_shl, ↓k_or, ↓k_ilz, ↓k_addl, ↓k_rt, ↓k_rb, ↓k_rbz, ↓k_rsi, ↓k_rsr, ↓k_rsv, ↓reduceIte, hz, e0, ↓xi12_84 hM, ↓xp12_84 hM, ↓xb12_84 hM, ↓xf12_84 hM, ↓xg12_84 hM, ↓xh12_84 hM, List.length_cons, List.length_nil, List.forall_mem_cons, List.not_mem_nil, Value.category, true_and, and_true, false_and, and_false, or_true, true_or, or_false, false_or, Nat.zero_le, forall_const, implies_true, false_implies, Nat.zero_add, Nat.reduceAdd, Nat.reduceLT, Nat.reduceLeDiff, Nat.le_refl, not_true_eq_false, not_false_eq_true, r_eq, r_ne, r_lt, r_ge, r_gt, r_le, bz_ne, nn_toNat, cn_of, cn_0, cn_1, i10, Int.reduceLE, Int.reduceLT, Int.reduceEq, bz_T, bz_F, ite_self, mulc, st_bud]
    exact h
  | succ d ih =>
    intro k hk G2 f x1 x2 f2 ff
    have hk' : k < H := by omega
    have hz : (k : Int) < H := by omega
    have kb : (k : Int) < 420 := by omega
    have e0 : G2 (B + 544) 84 = H := by rw [x1 _ (by omega)]; exact h84
    obtain ⟨⟨y1, a0, a1⟩, ⟨y2, b0, b1⟩, y3⟩ := hr k hk'
    have z1 : G2 (B + 544 + 69) k = one k := by rw [x1 _ (by omega)]; exact y1
    have z2 : G2 (B + 544 + 70) k = two k := by rw [x1 _ (by omega)]; exact y2
    have fb : (f : Int) < 2 := by omega
    -- nothing is done
    have skip : ¬ (S k ∧ two k < 0) → (∀ (K : List Value → q_M → Prop) (Kf : q_M → Prop), K [.ref (B + 544), .int (zI f), .int (zI ((k + 1 : Nat) : Int))] (st T nx 0 0 R G2) → wcX12_isFault_2 [.ref (B + 544), .int (zI f), .int (zI k)] (st T nx 0 0 R G2) (fun μ' => wsX12_isFault_2 [.ref (B + 544), .int (zI f), .int (zI k)] μ' K (fun _ _ => False)) Kf) → ∃ (G' : Nat → Int → Int) (f' : Nat), (∀ x, ¬ x = (B + 544 + 75) → G' x = G x) ∧ JQ G' B H one two kd S H ρ ∧ f' < 2 ∧ (f' = 1 ↔ Fq H one two kd S H) ∧ q_wh wcX12_isFault_2 wsX12_isFault_2 [.ref (B + 544), .int (zI f), .int (zI k)] (st T nx 0 0 R G2) (fun e μ => e = [.ref (B + 544), .int (zI f'), .int (zI H)] ∧ μ = st T nx 0 0 R G') (fun _ _ => False) := fun hn step => by
      obtain ⟨G', f', p1, p2, p3, p4, p5⟩ := ih (k + 1) (by omega) G2 f x1 (fun p p0 p1 => by
        obtain ⟨m, m1, m2, m3⟩ := x2 p p0 p1
        exact ⟨m, m1, m2, fun j hj => (m3 j hj).trans (Kq_no hn p j).symm⟩) f2 (ff.trans (Fq_no hn).symm)
      exact ⟨G', f', p1, p2, p3, p4, q_backR step p5⟩
    rcases lg k hk' with ⟨g1, gS⟩ | ⟨g1, gS⟩
    · have g1' : G2 (B + 544 + 73) k = 0 := by rw [x1 _ (by omega)]; exact g1
      obtain ⟨w2, hw2⟩ : ∃ w2, w2 = two k := ⟨_, rfl⟩
      by_cases g : two k < 0
      · obtain ⟨y3, k0, k5⟩ := y3 (by omega)
        obtain ⟨κ, hκ⟩ : ∃ κ : Nat, kd k = κ := ⟨(kd k).toNat, by omega⟩
        have z3 : G2 (B + 544 + 71) k = κ := by rw [x1 _ (by omega), y3, hκ]
        have uf2 : UF 220 (G2 (B + 544 + 74)) ρ dp := by rw [x1 _ (by omega)]; exact uf
        obtain ⟨_, ⟨r0, r1⟩, _⟩ := uf (one k) a0 a1
        have c1 : ∀ K : Option Value → q_M → Prop, fX12_top [.ref (B + 544), .int (zI (G2 (B + 544 + 69) k))] (st T nx 0 0 R G2) K = K (some (.int (zI (ρ (one k))))) (st T nx 0 0 R G2) := fun K => by
          rw [z1]
          exact c12_top hM uf2 a0 a1
        obtain ⟨m, m1, m2, m3⟩ := x2 (one k) a0 a1
        obtain ⟨h, hh⟩ : ∃ h, h = ρ (one k) := ⟨_, rfl⟩
        rw [← hh] at c1 r0 r1 m1
        have s1 := t12_kk (T := T) (nx := nx) (rc := 0) (rs := 0) (R := R) (G := G2) (f := f) (i := k) hM (by omega) kb r0 r1 z3 (show κ < 6 by omega) m1 m2
        obtain ⟨m', hm'⟩ : ∃ m' : Nat, m' = m ||| 2 ^ κ := ⟨_, rfl⟩
        rw [← hm'] at s1
        have m'64 : m' < 64 := by
          rw [hm']
          have : 2 ^ κ < 2 ^ 6 := Nat.pow_lt_pow_right (by omega) (by omega)
          exact Nat.or_lt_two_pow (n := 6) m2 this
        obtain ⟨G3, hG3⟩ : ∃ M, M = gs G2 (B + 544 + 75) h (m' : Int) := ⟨_, rfl⟩
        rw [← hG3] at s1
        have x7 : G3 (B + 544 + 75) h = m' := by rw [hG3]; exact gs_same _ _ _ _
        have bits : ∀ j : Nat, j < 6 → (m'.testBit j = true ↔ Kq H one two kd S (k + 1) (one k) j) := fun j hj => by
          have t1 := m3 j hj
          rw [hm', Nat.testBit_or, Nat.testBit_two_pow, Bool.or_eq_true, decide_eq_true_eq, t1, Kq_s]
          constructor
          · intro w
            rcases w with w | w
            · exact Or.inl w
            · exact Or.inr ⟨gS, g, Cl_eqv.1 _, by rw [hκ, w]⟩
          · intro w
            rcases w with w | ⟨_, _, _, w⟩
            · exact Or.inl w
            · exact Or.inr (by omega)
        have e2 := KB_2 (P := fun κ => Kq H one two kd S (k + 1) (one k) κ) rfl m'64 bits (fun κ w => by
          obtain ⟨i, i1, i2, i3, i4, i5⟩ := w
          obtain ⟨_, ⟨_, q1, q2⟩, q3⟩ := hr i (by omega)
          rw [← i5]
          exact (q3 (by omega)).2)
        have jq : JQ G3 B H one two kd S (k + 1) ρ := fun p p0 p1 => by
          rw [hG3, gs_eq, fu_at]
          by_cases w : ρ p = h
          · rw [if_pos w]
            have lk : Cl H one two S p (one k) := (cl p (one k) p0 p1 a0 a1).mp (by rw [w, hh])
            exact ⟨m', rfl, m'64, fun j hj => (bits j hj).trans (Kq_like lk).symm⟩
          · rw [if_neg w]
            obtain ⟨y, y1, y2, y3⟩ := x2 p p0 p1
            refine ⟨y, y1, y2, fun j hj => (y3 j hj).trans ?_⟩
            show Kq H one two kd S k p j ↔ Kq H one two kd S (k + 1) p j
            rw [Kq_s]
            exact ⟨Or.inl, fun z => z.elim id (fun z => absurd ((cl p (one k) p0 p1 a0 a1).mpr z.2.2.1) (by rw [← hh]; exact w))⟩
        obtain ⟨t0, t1⟩ := tq_0 ⟨m', m'64⟩
        have tv := tq_val ⟨m', m'64⟩
        obtain ⟨t, ht⟩ : ∃ t, t = tq m' := ⟨_, rfl⟩
        have t0 : t = 0 ↔ ¬ 2 ≤ pop m' := by rw [ht]; exact t0
        have t1 : t < 64 := by rw [ht]; exact t1
        have tv : q_giand (zI (m' : Int)) (zI ((m' : Int) - 1)) = zI (t : Int) := by rw [ht]; exact tv
        have kk : ∀ (x : Int) (μ : q_M) (K : Int32 → q_M → Prop), x = m' → opK (q_giand (zI x) (zI (x - 1))) μ K = K (zI t) μ := fun x μ K q => by
          rw [q, tv]
          rfl
        have kr := fun (μ : q_M) (K : Int32 → q_M → Prop) => kk (G3 (B + 544 + 75) h) μ K x7
        have km := fun (μ : q_M) (K : Int32 → q_M → Prop) => kk m' μ K rfl
        have f'1 : (if f = 1 ∨ ¬ t = 0 then 1 else 0) = 1 ↔ Fq H one two kd S (k + 1) := by
          rw [Fq_s, ← ff, ← e2]
          by_cases q : f = 1 ∨ ¬ t = 0
          · rw [if_pos q]
            exact ⟨fun _ => q.imp id (fun z => by omega), fun _ => rfl⟩
          · rw [if_neg q]
            exact ⟨fun z => absurd z (by omega), fun z => absurd (z.imp id (fun z => by omega)) q⟩
        obtain ⟨G', f', p1, p2, p3, p4, p5⟩ := ih (k + 1) (by omega) G3 (if f = 1 ∨ ¬ t = 0 then 1 else 0) (fun x w => by rw [hG3, gs_ne w, x1 x w]) jq (by split <;> omega) f'1
        refine ⟨G', f', p1, p2, p3, p4, q_backR (fun K Kf hh' => ?_) p5⟩
        rw [← hw2] at z2 g b0 b1
        clear f'1 p5 t0 e2 ff
        by_cases q1 : f = 1
        · rw [if_pos (Or.inl q1)] at hh'
          subst q1
          simp (disch := omega) only [↓wcX12_isFault_2.eq_1, ↓wsX12_isFault_2.eq_1, ↓(k_cv1 dX12_top (t12 hM)), ↓k_mk, ↓k_sq, ↓k_sk, ↓k_bk, ↓k_if, ↓k_te, ↓k_cm, ↓k_cz, ↓k_an2, ↓k_or2, ↓k_no, ↓k_ci, ↓k_l0, ↓k_r0, ↓k_se0, ↓k_ic0, ↓k_l1, ↓k_r1, ↓k_se1, ↓k_ic1, ↓k_de1, ↓k_tk1, ↓k_l2, ↓k_r2, ↓k_se2, ↓k_ic2, ↓k_de2, ↓k_tk2, ↓k_l3, ↓k_r3, ↓k_se3, ↓k_ic3, ↓k_de3, ↓k_tk3, ↓k_l4, ↓k_r4, ↓k_se4, ↓k_ic4, ↓k_de4, ↓k_tk4, ↓k_l5, ↓k_r5, ↓k_se5, ↓k_ic5, ↓k_de5, ↓k_tk5, ↓k_l6, ↓k_r6, ↓k_se6, ↓k_ic6, ↓k_de6, ↓k_tk6, ↓k_l7, ↓k_r7, ↓k_se7, ↓k_ic7, ↓k_de7, ↓k_tk7, ↓k_l8, ↓k_r8, ↓k_se8, ↓k_ic8, ↓k_de8, ↓k_tk8, ↓k_l9, ↓k_r9, ↓k_se9, ↓k_ic9, ↓k_de9, ↓k_tk9, ↓k_l10, ↓k_r10, ↓k_se10, ↓k_ic10, ↓k_de10, ↓k_tk10, ↓k_l11, ↓k_r11, ↓k_se11, ↓k_ic11, ↓k_de11, ↓k_tk11, ↓k_l12, ↓k_r12, ↓k_se12, ↓k_ic12, ↓k_de12, ↓k_tk12, ↓k_l13, ↓k_r13, ↓k_se13, ↓k_ic13, ↓k_de13, ↓k_tk13, ↓k_l14, ↓k_r14, ↓k_se14, ↓k_ic14, ↓k_de14, ↓k_tk14, ↓k_l15, ↓k_r15, ↓k_se15, ↓k_ic15, ↓k_de15, ↓k_tk15, ↓k_l16, ↓k_r16, ↓k_se16, ↓k_ic16, ↓k_de16, ↓k_tk16, ↓k_l17, ↓k_r17, ↓k_se17, ↓k_ic17, ↓k_de17, ↓k_tk17, ↓k_l18, ↓k_r18, ↓k_se18, ↓k_ic18, ↓k_de18, ↓k_tk18, ↓k_l19, ↓k_r19, ↓k_se19, ↓k_ic19, ↓k_de19, ↓k_tk19, ↓k_l20, ↓k_r20, ↓k_se20, ↓k_ic20, ↓k_de20, ↓k_tk20, ↓k_l21, ↓k_r21, ↓k_se21, ↓k_ic21, ↓k_de21, ↓k_tk21, ↓k_l22, ↓k_r22, ↓k_se22, ↓k_ic22, ↓k_de22, ↓k_tk22, ↓k_l23, ↓k_r23, ↓k_se23, ↓k_ic23, ↓k_de23, ↓k_tk23, ↓k_l24, ↓k_r24, ↓k_se24, ↓k_ic24, ↓k_de24, ↓k_tk24, ↓k_l25, ↓k_r25, ↓k_se25, ↓k_ic25, ↓k_de25, ↓k_tk25, ↓k_k, ↓k_kn, ↓k_kl, ↓k_kln, ↓k_il, ↓k_2, ↓k_1, ↓k_2c, ↓k_2l, ↓k_ac, ↓k_an, ↓k_cs, ↓k_cv, ↓k_fi, ↓k_fr, ↓k_ai, ↓k_az, ↓k_ar, ↓k_sai, ↓k_saz, ↓k_sof, ↓k_spf, ↓k_sx, ↓k_blk, ↓k_sset, ↓k_sdec, ↓k_sri, ↓k_srv, ↓k_srr, ↓k_nop, ↓k_add, ↓k_sub, ↓k_mul, ↓k_min, ↓k_max, ↓k_shr, ↓k_shl, ↓k_or, ↓k_ilz, ↓k_addl, ↓k_rt, ↓k_rb, ↓k_rbz, ↓k_rsi, ↓k_rsr, ↓k_rsv, ↓reduceIte, hz, e0, g1', z2, g, ↓(k_cv1 dX12_top (t12 hM)), ↓c1, ↓s1, ↓xi12_84 hM, ↓xp12_84 hM, ↓xb12_84 hM, ↓xf12_84 hM, ↓xg12_84 hM, ↓xh12_84 hM, ↓xr12_85 hM, ↓xa12_85 hM, ↓xs12_85 hM, ↓xo12_85 hM, ↓xc12_85 hM, ↓xd12_85 hM, ↓xr12_86 hM, ↓xa12_86 hM, ↓xs12_86 hM, ↓xo12_86 hM, ↓xc12_86 hM, ↓xd12_86 hM, ↓xr12_89 hM, ↓xa12_89 hM, ↓xs12_89 hM, ↓xr12_91 hM, ↓xa12_91 hM, ↓xs12_91 hM, ↓xo12_91 hM, ↓xc12_91 hM, ↓xd12_91 hM, List.length_cons, List.length_nil, List.forall_mem_cons, List.not_mem_nil, Value.category, true_and, and_true, false_and, and_false, or_true, true_or, or_false, false_or, Nat.zero_le, forall_const, implies_true, false_implies, Nat.zero_add, Nat.reduceAdd, Nat.reduceLT, Nat.reduceLeDiff, Nat.le_refl, not_true_eq_false, not_false_eq_true, r_eq, r_ne, r_lt, r_ge, r_gt, r_le, bz_ne, nn_toNat, cn_of, cn_0, cn_1, i10, Int.reduceLE, Int.reduceLT, Int.reduceEq, bz_T, bz_F, ite_self, mulc, st_bud]
          exact hh'
        · have q0 : f = 0 := by omega
          subst q0
          by_cases q2 : t = 0
          · rw [if_neg (fun z => z.elim q1 (fun z => z q2))] at hh'
            subst q2
            simp (disch := omega) only [↓wcX12_isFault_2.eq_1, ↓wsX12_isFault_2.eq_1, ↓(k_cv1 dX12_top (t12 hM)), ↓k_mk, ↓k_sq, ↓k_sk, ↓k_bk, ↓k_if, ↓k_te, ↓k_cm, ↓k_cz, ↓k_an2, ↓k_or2, ↓k_no, ↓k_ci, ↓k_l0, ↓k_r0, ↓k_se0, ↓k_ic0, ↓k_l1, ↓k_r1, ↓k_se1, ↓k_ic1, ↓k_de1, ↓k_tk1, ↓k_l2, ↓k_r2, ↓k_se2, ↓k_ic2, ↓k_de2, ↓k_tk2, ↓k_l3, ↓k_r3, ↓k_se3, ↓k_ic3, ↓k_de3, ↓k_tk3, ↓k_l4, ↓k_r4, ↓k_se4, ↓k_ic4, ↓k_de4, ↓k_tk4, ↓k_l5, ↓k_r5, ↓k_se5, ↓k_ic5, ↓k_de5, ↓k_tk5, ↓k_l6, ↓k_r6, ↓k_se6, ↓k_ic6, ↓k_de6, ↓k_tk6, ↓k_l7, ↓k_r7, ↓k_se7, ↓k_ic7, ↓k_de7, ↓k_tk7, ↓k_l8, ↓k_r8, ↓k_se8, ↓k_ic8, ↓k_de8, ↓k_tk8, ↓k_l9, ↓k_r9, ↓k_se9, ↓k_ic9, ↓k_de9, ↓k_tk9, ↓k_l10, ↓k_r10, ↓k_se10, ↓k_ic10, ↓k_de10, ↓k_tk10, ↓k_l11, ↓k_r11, ↓k_se11, ↓k_ic11, ↓k_de11, ↓k_tk11, ↓k_l12, ↓k_r12, ↓k_se12, ↓k_ic12, ↓k_de12, ↓k_tk12, ↓k_l13, ↓k_r13, ↓k_se13, ↓k_ic13, ↓k_de13, ↓k_tk13, ↓k_l14, ↓k_r14, ↓k_se14, ↓k_ic14, ↓k_de14, ↓k_tk14, ↓k_l15, ↓k_r15, ↓k_se15, ↓k_ic15, ↓k_de15, ↓k_tk15, ↓k_l16, ↓k_r16, ↓k_se16, ↓k_ic16, ↓k_de16, ↓k_tk16, ↓k_l17, ↓k_r17, ↓k_se17, ↓k_ic17, ↓k_de17, ↓k_tk17, ↓k_l18, ↓k_r18, ↓k_se18, ↓k_ic18, ↓k_de18, ↓k_tk18, ↓k_l19, ↓k_r19, ↓k_se19, ↓k_ic19, ↓k_de19, ↓k_tk19, ↓k_l20, ↓k_r20, ↓k_se20, ↓k_ic20, ↓k_de20, ↓k_tk20, ↓k_l21, ↓k_r21, ↓k_se21, ↓k_ic21, ↓k_de21, ↓k_tk21, ↓k_l22, ↓k_r22, ↓k_se22, ↓k_ic22, ↓k_de22, ↓k_tk22, ↓k_l23, ↓k_r23, ↓k_se23, ↓k_ic23, ↓k_de23, ↓k_tk23, ↓k_l24, ↓k_r24, ↓k_se24, ↓k_ic24, ↓k_de24, ↓k_tk24, ↓k_l25, ↓k_r25, ↓k_se25, ↓k_ic25, ↓k_de25, ↓k_tk25, ↓k_k, ↓k_kn, ↓k_kl, ↓k_kln, ↓k_il, ↓k_2, ↓k_1, ↓k_2c, ↓k_2l, ↓k_ac, ↓k_an, ↓k_cs, ↓k_cv, ↓k_fi, ↓k_fr, ↓k_ai, ↓k_az, ↓k_ar, ↓k_sai, ↓k_saz, ↓k_sof, ↓k_spf, ↓k_sx, ↓k_blk, ↓k_sset, ↓k_sdec, ↓k_sri, ↓k_srv, ↓k_srr, ↓k_nop, ↓k_add, ↓k_sub, ↓k_mul, ↓k_min, ↓k_max, ↓k_shr, ↓k_shl, ↓k_or, ↓k_ilz, ↓k_addl, ↓k_rt, ↓k_rb, ↓k_rbz, ↓k_rsi, ↓k_rsr, ↓k_rsv, ↓reduceIte, hz, e0, g1', z2, g, ↓(k_cv1 dX12_top (t12 hM)), ↓c1, ↓s1, ↓kr, ↓km, x7, ↓xi12_84 hM, ↓xp12_84 hM, ↓xb12_84 hM, ↓xf12_84 hM, ↓xg12_84 hM, ↓xh12_84 hM, ↓xr12_85 hM, ↓xa12_85 hM, ↓xs12_85 hM, ↓xo12_85 hM, ↓xc12_85 hM, ↓xd12_85 hM, ↓xr12_86 hM, ↓xa12_86 hM, ↓xs12_86 hM, ↓xo12_86 hM, ↓xc12_86 hM, ↓xd12_86 hM, ↓xr12_89 hM, ↓xa12_89 hM, ↓xs12_89 hM, ↓xr12_91 hM, ↓xa12_91 hM, ↓xs12_91 hM, ↓xo12_91 hM, ↓xc12_91 hM, ↓xd12_91 hM, List.length_cons, List.length_nil, List.forall_mem_cons, List.not_mem_nil, Value.category, true_and, and_true, false_and, and_false, or_true, true_or, or_false, false_or, Nat.zero_le, forall_const, implies_true, false_implies, Nat.zero_add, Nat.reduceAdd, Nat.reduceLT, Nat.reduceLeDiff, Nat.le_refl, not_true_eq_false, not_false_eq_true, r_eq, r_ne, r_lt, r_ge, r_gt, r_le, bz_ne, nn_toNat, cn_of, cn_0, cn_1, i10, Int.reduceLE, Int.reduceLT, Int.reduceEq, bz_T, bz_F, ite_self, mulc, st_bud]
            exact hh'
          · rw [if_pos (Or.inr q2)] at hh'
            have q3 : ¬ (t : Int) = 0 := by omega
            simp (disch := omega) only [↓wcX12_isFault_2.eq_1, ↓wsX12_isFault_2.eq_1, ↓(k_cv1 dX12_top (t12 hM)), ↓k_mk, ↓k_sq, ↓k_sk, ↓k_bk, ↓k_if, ↓k_te, ↓k_cm, ↓k_cz, ↓k_an2, ↓k_or2, ↓k_no, ↓k_ci, ↓k_l0, ↓k_r0, ↓k_se0, ↓k_ic0, ↓k_l1, ↓k_r1, ↓k_se1, ↓k_ic1, ↓k_de1, ↓k_tk1, ↓k_l2, ↓k_r2, ↓k_se2, ↓k_ic2, ↓k_de2, ↓k_tk2, ↓k_l3, ↓k_r3, ↓k_se3, ↓k_ic3, ↓k_de3, ↓k_tk3, ↓k_l4, ↓k_r4, ↓k_se4, ↓k_ic4, ↓k_de4, ↓k_tk4, ↓k_l5, ↓k_r5, ↓k_se5, ↓k_ic5, ↓k_de5, ↓k_tk5, ↓k_l6, ↓k_r6, ↓k_se6, ↓k_ic6, ↓k_de6, ↓k_tk6, ↓k_l7, ↓k_r7, ↓k_se7, ↓k_ic7, ↓k_de7, ↓k_tk7, ↓k_l8, ↓k_r8, ↓k_se8, ↓k_ic8, ↓k_de8, ↓k_tk8, ↓k_l9, ↓k_r9, ↓k_se9, ↓k_ic9, ↓k_de9, ↓k_tk9, ↓k_l10, ↓k_r10, ↓k_se10, ↓k_ic10, ↓k_de10, ↓k_tk10, ↓k_l11, ↓k_r11, ↓k_se11, ↓k_ic11, ↓k_de11, ↓k_tk11, ↓k_l12, ↓k_r12, ↓k_se12, ↓k_ic12, ↓k_de12, ↓k_tk12, ↓k_l13, ↓k_r13, ↓k_se13, ↓k_ic13, ↓k_de13, ↓k_tk13, ↓k_l14, ↓k_r14, ↓k_se14, ↓k_ic14, ↓k_de14, ↓k_tk14, ↓k_l15, ↓k_r15, ↓k_se15, ↓k_ic15, ↓k_de15, ↓k_tk15, ↓k_l16, ↓k_r16, ↓k_se16, ↓k_ic16, ↓k_de16, ↓k_tk16, ↓k_l17, ↓k_r17, ↓k_se17, ↓k_ic17, ↓k_de17, ↓k_tk17, ↓k_l18, ↓k_r18, ↓k_se18, ↓k_ic18, ↓k_de18, ↓k_tk18, ↓k_l19, ↓k_r19, ↓k_se19, ↓k_ic19, ↓k_de19, ↓k_tk19, ↓k_l20, ↓k_r20, ↓k_se20, ↓k_ic20, ↓k_de20, ↓k_tk20, ↓k_l21, ↓k_r21, ↓k_se21, ↓k_ic21, ↓k_de21, ↓k_tk21, ↓k_l22, ↓k_r22, ↓k_se22, ↓k_ic22, ↓k_de22, ↓k_tk22, ↓k_l23, ↓k_r23, ↓k_se23, ↓k_ic23, ↓k_de23, ↓k_tk23, ↓k_l24, ↓k_r24, ↓k_se24, ↓k_ic24, ↓k_de24, ↓k_tk24, ↓k_l25, ↓k_r25, ↓k_se25, ↓k_ic25, ↓k_de25, ↓k_tk25, ↓k_k, ↓k_kn, ↓k_kl, ↓k_kln, ↓k_il, ↓k_2, ↓k_1, ↓k_2c, ↓k_2l, ↓k_ac, ↓k_an, ↓k_cs, ↓k_cv, ↓k_fi, ↓k_fr, ↓k_ai, ↓k_az, ↓k_ar, ↓k_sai, ↓k_saz, ↓k_sof, ↓k_spf, ↓k_sx, ↓k_blk, ↓k_sset, ↓k_sdec, ↓k_sri, ↓k_srv, ↓k_srr, ↓k_nop, ↓k_add, ↓k_sub, ↓k_mul, ↓k_min, ↓k_max, ↓k_shr, ↓k_shl, ↓k_or, ↓k_ilz, ↓k_addl, ↓k_rt, ↓k_rb, ↓k_rbz, ↓k_rsi, ↓k_rsr, ↓k_rsv, ↓reduceIte, hz, e0, g1', z2, g, ↓(k_cv1 dX12_top (t12 hM)), ↓c1, ↓s1, ↓kr, ↓km, x7, q3, ↓xi12_84 hM, ↓xp12_84 hM, ↓xb12_84 hM, ↓xf12_84 hM, ↓xg12_84 hM, ↓xh12_84 hM, ↓xr12_85 hM, ↓xa12_85 hM, ↓xs12_85 hM, ↓xo12_85 hM, ↓xc12_85 hM, ↓xd12_85 hM, ↓xr12_86 hM, ↓xa12_86 hM, ↓xs12_86 hM, ↓xo12_86 hM, ↓xc12_86 hM, ↓xd12_86 hM, ↓xr12_89 hM, ↓xa12_89 hM, ↓xs12_89 hM, ↓xr12_91 hM, ↓xa12_91 hM, ↓xs12_91 hM, ↓xo12_91 hM, ↓xc12_91 hM, ↓xd12_91 hM, List.length_cons, List.length_nil, List.forall_mem_cons, List.not_mem_nil, Value.category, true_and, and_true, false_and, and_false, or_true, true_or, or_false, false_or, Nat.zero_le, forall_const, implies_true, false_implies, Nat.zero_add, Nat.reduceAdd, Nat.reduceLT, Nat.reduceLeDiff, Nat.le_refl, not_true_eq_false, not_false_eq_true, r_eq, r_ne, r_lt, r_ge, r_gt, r_le, bz_ne, nn_toNat, cn_of, cn_0, cn_1, i10, Int.reduceLE, Int.reduceLT, Int.reduceEq, bz_T, bz_F, ite_self, mulc, st_bud]
            exact hh'
      · refine skip (fun w => g w.2) (fun K Kf h => ?_)
        rw [← hw2] at z2 g b1
        simp (disch := omega) only [↓wcX12_isFault_2.eq_1, ↓wsX12_isFault_2.eq_1, ↓(k_cv1 dX12_top (t12 hM)), ↓k_mk, ↓k_sq, ↓k_sk, ↓k_bk, ↓k_if, ↓k_te, ↓k_cm, ↓k_cz, ↓k_an2, ↓k_or2, ↓k_no, ↓k_ci, ↓k_l0, ↓k_r0, ↓k_se0, ↓k_ic0, ↓k_l1, ↓k_r1, ↓k_se1, ↓k_ic1, ↓k_de1, ↓k_tk1, ↓k_l2, ↓k_r2, ↓k_se2, ↓k_ic2, ↓k_de2, ↓k_tk2, ↓k_l3, ↓k_r3, ↓k_se3, ↓k_ic3, ↓k_de3, ↓k_tk3, ↓k_l4, ↓k_r4, ↓k_se4, ↓k_ic4, ↓k_de4, ↓k_tk4, ↓k_l5, ↓k_r5, ↓k_se5, ↓k_ic5, ↓k_de5, ↓k_tk5, ↓k_l6, ↓k_r6, ↓k_se6, ↓k_ic6, ↓k_de6, ↓k_tk6, ↓k_l7, ↓k_r7, ↓k_se7, ↓k_ic7, ↓k_de7, ↓k_tk7, ↓k_l8, ↓k_r8, ↓k_se8, ↓k_ic8, ↓k_de8, ↓k_tk8, ↓k_l9, ↓k_r9, ↓k_se9, ↓k_ic9, ↓k_de9, ↓k_tk9, ↓k_l10, ↓k_r10, ↓k_se10, ↓k_ic10, ↓k_de10, ↓k_tk10, ↓k_l11, ↓k_r11, ↓k_se11, ↓k_ic11, ↓k_de11, ↓k_tk11, ↓k_l12, ↓k_r12, ↓k_se12, ↓k_ic12, ↓k_de12, ↓k_tk12, ↓k_l13, ↓k_r13, ↓k_se13, ↓k_ic13, ↓k_de13, ↓k_tk13, ↓k_l14, ↓k_r14, ↓k_se14, ↓k_ic14, ↓k_de14, ↓k_tk14, ↓k_l15, ↓k_r15, ↓k_se15, ↓k_ic15, ↓k_de15, ↓k_tk15, ↓k_l16, ↓k_r16, ↓k_se16, ↓k_ic16, ↓k_de16, ↓k_tk16, ↓k_l17, ↓k_r17, ↓k_se17, ↓k_ic17, ↓k_de17, ↓k_tk17, ↓k_l18, ↓k_r18, ↓k_se18, ↓k_ic18, ↓k_de18, ↓k_tk18, ↓k_l19, ↓k_r19, ↓k_se19, ↓k_ic19, ↓k_de19, ↓k_tk19, ↓k_l20, ↓k_r20, ↓k_se20, ↓k_ic20, ↓k_de20, ↓k_tk20, ↓k_l21, ↓k_r21, ↓k_se21, ↓k_ic21, ↓k_de21, ↓k_tk21, ↓k_l22, ↓k_r22, ↓k_se22, ↓k_ic22, ↓k_de22, ↓k_tk22, ↓k_l23, ↓k_r23, ↓k_se23, ↓k_ic23, ↓k_de23, ↓k_tk23, ↓k_l24, ↓k_r24, ↓k_se24, ↓k_ic24, ↓k_de24, ↓k_tk24, ↓k_l25, ↓k_r25, ↓k_se25, ↓k_ic25, ↓k_de25, ↓k_tk25, ↓k_k, ↓k_kn, ↓k_kl, ↓k_kln, ↓k_il, ↓k_2, ↓k_1, ↓k_2c, ↓k_2l, ↓k_ac, ↓k_an, ↓k_cs, ↓k_cv, ↓k_fi, ↓k_fr, ↓k_ai, ↓k_az, ↓k_ar, ↓k_sai, ↓k_saz, ↓k_soa, ↓k_sof, ↓k_spf, ↓k_sx, ↓k_blk, ↓k_sset, ↓k_sdec, ↓k_sri, ↓k_srv, ↓k_srr, ↓k_nop, ↓k_add, ↓k_sub, ↓k_mul, ↓k_min, ↓k_max, ↓k_shr, ↓k_shl, ↓k_or, ↓k_ilz, ↓k_addl, ↓k_rt, ↓k_rb, ↓k_rbz, ↓k_rsi, ↓k_rsr, ↓k_rsv, ↓reduceIte, hz, e0, g1', z2, g, ↓xi12_84 hM, ↓xp12_84 hM, ↓xb12_84 hM, ↓xf12_84 hM, ↓xg12_84 hM, ↓xh12_84 hM, ↓xr12_86 hM, ↓xa12_86 hM, ↓xs12_86 hM, ↓xo12_86 hM, ↓xc12_86 hM, ↓xd12_86 hM, ↓xr12_89 hM, ↓xa12_89 hM, ↓xs12_89 hM, List.length_cons, List.length_nil, List.forall_mem_cons, List.not_mem_nil, Value.category, true_and, and_true, false_and, and_false, or_true, true_or, or_false, false_or, Nat.zero_le, forall_const, implies_true, false_implies, Nat.zero_add, Nat.reduceAdd, Nat.reduceLT, Nat.reduceLeDiff, Nat.le_refl, not_true_eq_false, not_false_eq_true, r_eq, r_ne, r_lt, r_ge, r_gt, r_le, bz_ne, nn_toNat, cn_of, cn_0, cn_1, i10, Int.reduceLE, Int.reduceLT, Int.reduceEq, bz_T, bz_F, ite_self, mulc, st_bud]
        exact h
    · have g1' : G2 (B + 544 + 73) k = 1 := by rw [x1 _ (by omega)]; exact g1
      refine skip (fun w => gS w.1) (fun K Kf h => ?_)
      simp (disch := omega) only [↓wcX12_isFault_2.eq_1, ↓wsX12_isFault_2.eq_1, ↓(k_cv1 dX12_top (t12 hM)), ↓k_mk, ↓k_sq, ↓k_sk, ↓k_bk, ↓k_if, ↓k_te, ↓k_cm, ↓k_cz, ↓k_an2, ↓k_or2, ↓k_no, ↓k_ci, ↓k_l0, ↓k_r0, ↓k_se0, ↓k_ic0, ↓k_l1, ↓k_r1, ↓k_se1, ↓k_ic1, ↓k_de1, ↓k_tk1, ↓k_l2, ↓k_r2, ↓k_se2, ↓k_ic2, ↓k_de2, ↓k_tk2, ↓k_l3, ↓k_r3, ↓k_se3, ↓k_ic3, ↓k_de3, ↓k_tk3, ↓k_l4, ↓k_r4, ↓k_se4, ↓k_ic4, ↓k_de4, ↓k_tk4, ↓k_l5, ↓k_r5, ↓k_se5, ↓k_ic5, ↓k_de5, ↓k_tk5, ↓k_l6, ↓k_r6, ↓k_se6, ↓k_ic6, ↓k_de6, ↓k_tk6, ↓k_l7, ↓k_r7, ↓k_se7, ↓k_ic7, ↓k_de7, ↓k_tk7, ↓k_l8, ↓k_r8, ↓k_se8, ↓k_ic8, ↓k_de8, ↓k_tk8, ↓k_l9, ↓k_r9, ↓k_se9, ↓k_ic9, ↓k_de9, ↓k_tk9, ↓k_l10, ↓k_r10, ↓k_se10, ↓k_ic10, ↓k_de10, ↓k_tk10, ↓k_l11, ↓k_r11, ↓k_se11, ↓k_ic11, ↓k_de11, ↓k_tk11, ↓k_l12, ↓k_r12, ↓k_se12, ↓k_ic12, ↓k_de12, ↓k_tk12, ↓k_l13, ↓k_r13, ↓k_se13, ↓k_ic13, ↓k_de13, ↓k_tk13, ↓k_l14, ↓k_r14, ↓k_se14, ↓k_ic14, ↓k_de14, ↓k_tk14, ↓k_l15, ↓k_r15, ↓k_se15, ↓k_ic15, ↓k_de15, ↓k_tk15, ↓k_l16, ↓k_r16, ↓k_se16, ↓k_ic16, ↓k_de16, ↓k_tk16, ↓k_l17, ↓k_r17, ↓k_se17, ↓k_ic17, ↓k_de17, ↓k_tk17, ↓k_l18, ↓k_r18, ↓k_se18, ↓k_ic18, ↓k_de18, ↓k_tk18, ↓k_l19, ↓k_r19, ↓k_se19, ↓k_ic19, ↓k_de19, ↓k_tk19, ↓k_l20, ↓k_r20, ↓k_se20, ↓k_ic20, ↓k_de20, ↓k_tk20, ↓k_l21, ↓k_r21, ↓k_se21, ↓k_ic21, ↓k_de21, ↓k_tk21, ↓k_l22, ↓k_r22, ↓k_se22, ↓k_ic22, ↓k_de22, ↓k_tk22, ↓k_l23, ↓k_r23, ↓k_se23, ↓k_ic23, ↓k_de23, ↓k_tk23, ↓k_l24, ↓k_r24, ↓k_se24, ↓k_ic24, ↓k_de24, ↓k_tk24, ↓k_l25, ↓k_r25, ↓k_se25, ↓k_ic25, ↓k_de25, ↓k_tk25, ↓k_k, ↓k_kn, ↓k_kl, ↓k_kln, ↓k_il, ↓k_2, ↓k_1, ↓k_2c, ↓k_2l, ↓k_ac, ↓k_an, ↓k_cs, ↓k_cv, ↓k_fi, ↓k_fr, ↓k_ai, ↓k_az, ↓k_ar, ↓k_sai, ↓k_saz, ↓k_soa, ↓k_sof, ↓k_spf, ↓k_sx, ↓k_blk, ↓k_sset, ↓k_sdec, ↓k_sri, ↓k_srv, ↓k_srr, ↓k_nop, ↓k_add, ↓k_sub, ↓k_mul, ↓k_min, ↓k_max, ↓k_shr, ↓k_shl, ↓k_or, ↓k_ilz, ↓k_addl, ↓k_rt, ↓k_rb, ↓k_rbz, ↓k_rsi, ↓k_rsr, ↓k_rsv, ↓reduceIte, hz, e0, g1', ↓xi12_84 hM, ↓xp12_84 hM, ↓xb12_84 hM, ↓xf12_84 hM, ↓xg12_84 hM, ↓xh12_84 hM, ↓xr12_89 hM, ↓xa12_89 hM, ↓xs12_89 hM, List.length_cons, List.length_nil, List.forall_mem_cons, List.not_mem_nil, Value.category, true_and, and_true, false_and, and_false, or_true, true_or, or_false, false_or, Nat.zero_le, forall_const, implies_true, false_implies, Nat.zero_add, Nat.reduceAdd, Nat.reduceLT, Nat.reduceLeDiff, Nat.le_refl, not_true_eq_false, not_false_eq_true, r_eq, r_ne, r_lt, r_ge, r_gt, r_le, bz_ne, nn_toNat, cn_of, cn_0, cn_1, i10, Int.reduceLE, Int.reduceLT, Int.reduceEq, bz_T, bz_F, ite_self, mulc, st_bud]
      exact h
end
