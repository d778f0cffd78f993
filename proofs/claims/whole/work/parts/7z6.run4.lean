section
/-! values: the class's calls -/
theorem x5_told {T : Nat → Option q_T} {R : Nat → Nat → Option Value} {a t b r : Nat} {nx rc rs : Nat} {G : Nat → Int → Int} (h : Ly T R a (L5 a t b)) {env : List Value} {Kn : List Value → q_M → Prop} : spK Value.ref (fun _ => True) 5 2 a r env (st T nx rc rs R G) Kn = Kn env (st T nx rc rs (rS R a 2 (.ref r)) G) := by
  refine propext ⟨fun k => ?_, fun k => ⟨t5 h, trivial, ?_⟩⟩
  · have := k.2.2
    rw [st_setR] at this
    exact this
  · rw [st_setR]
    exact k
theorem x5_tree {T : Nat → Option q_T} {R : Nat → Nat → Option Value} {a t b r : Nat} {nx rc rs : Nat} {G : Nat → Int → Int} (h : Ly T R a (L5 a t b)) {env : List Value} {Kn : List Value → q_M → Prop} : spK Value.ref (fun _ => True) 5 3 a r env (st T nx rc rs R G) Kn = Kn env (st T nx rc rs (rS R a 3 (.ref r)) G) := by
  refine propext ⟨fun k => ?_, fun k => ⟨t5 h, trivial, ?_⟩⟩
  · have := k.2.2
    rw [st_setR] at this
    exact this
  · rw [st_setR]
    exact k
theorem L11x_5 (a a1 a2 a3 a4 : Nat) : L11x a a1 a2 a3 a4 = ((.inl 11, F11_22 a) :: (C11_19 a ++ L3 (a + 526) a1 ++ L6 (a + 533) a2)) ++ ((.inl 5, F5_5 (a + 540) a3 a4) :: C5_5 (a + 540) a3 a4) := by
  simp only [L11x, lC11_19, L5, List.cons_append, List.append_assoc, Nat.add_assoc, Nat.reduceAdd]
theorem Ly_told5 {T : Nat → Option q_T} {R : Nat → Nat → Option Value} {a a1 a2 a3 a4 r : Nat} (h : Ly T R a (L11x a a1 a2 a3 a4)) : Ly T (rS R (a + 540) 2 (.ref r)) a (L11x a a1 a2 r a4) := by
  rw [L11x_5] at h ⊢
  refine Ly_set h (by rw [List.length_cons, List.length_append, List.length_append, lC11_19, lL3, lL6]) (fun j => ?_)
  show (if j = 3 then Value.ref a4 else if j = 2 then Value.ref r else F5_3 (a + 540) a3 a4 j) = (if j = 2 then Value.ref r else (if j = 3 then Value.ref a4 else if j = 2 then Value.ref a3 else F5_3 (a + 540) a3 a4 j))
  by_cases e : j = 2
  · rw [if_neg (by omega), if_pos e, if_pos e]
  · rw [if_neg e, if_neg e, if_neg e]
theorem Ly_tree5 {T : Nat → Option q_T} {R : Nat → Nat → Option Value} {a a1 a2 a3 a4 r : Nat} (h : Ly T R a (L11x a a1 a2 a3 a4)) : Ly T (rS R (a + 540) 3 (.ref r)) a (L11x a a1 a2 a3 r) := by
  rw [L11x_5] at h ⊢
  refine Ly_set h (by rw [List.length_cons, List.length_append, List.length_append, lC11_19, lL3, lL6]) (fun j => ?_)
  show (if j = 3 then Value.ref r else if j = 2 then Value.ref a3 else F5_3 (a + 540) a3 r j) = (if j = 3 then Value.ref r else (if j = 3 then Value.ref a4 else if j = 2 then Value.ref a3 else F5_3 (a + 540) a3 a4 j))
  by_cases e : j = 3
  · rw [if_pos e, if_pos e]
  · rw [if_neg e, if_neg e, if_neg e]
    first | done | rfl
theorem M_rS5 {T : Nat → Option q_T} {R : Nat → Nat → Option Value} {B f : Nat} {v : Value} (h : Ly T R (B + 544) (L12 (B + 544))) : Ly T (rS R (B + 540) f v) (B + 544) (L12 (B + 544)) := Ly_rS h (fun k hk => by omega)
/-- what the runner is told -/
def R5 (R : Nat → Nat → Option Value) (B t a : Nat) : Nat → Nat → Option Value := rS (rS R (B + 540) 2 (.ref t)) (B + 540) 3 (.ref a)
theorem Ly_R5 {T : Nat → Option q_T} {R : Nat → Nat → Option Value} {B j1 j2 j3 j4 t a : Nat} (h : Ly T R B (L11x B j1 j2 j3 j4)) : Ly T (R5 R B t a) B (L11x B j1 j2 t a) := Ly_tree5 (Ly_told5 h)
theorem M_R5 {T : Nat → Option q_T} {R : Nat → Nat → Option Value} {B t a : Nat} (h : Ly T R (B + 544) (L12 (B + 544))) : Ly T (R5 R B t a) (B + 544) (L12 (B + 544)) := M_rS5 (M_rS5 h)
theorem lo_R5 {B t a : Nat} {R : Nat → Nat → Option Value} {G G' : Nat → Int → Int} (h : ∀ a : Nat, a < B → G' a = G a) : Lo B R (R5 R B t a) G G' := fun x hx => ⟨funext fun j => by unfold R5 rS; rw [if_neg (fun q => by have := q.1; omega), if_neg (fun q => by have := q.1; omega)], h x hx⟩
theorem c5_enter {T : Nat → Option q_T} {nx rc rs B j1 j2 j3 j4 : Nat} {R : Nat → Nat → Option Value} {G : Nat → Int → Int} {w : Int} (hL : Ly T R B (L11x B j1 j2 j3 j4)) (w0 : 0 ≤ w) (w3 : w ≤ 3) (K : Option Value → q_M → Prop) :
    fX5_enter [.ref (B + 540), .ref (B + 15), .int (zI w)] (st T nx rc rs R G) K = K none (st T nx rc rs R (cpG G (B + 15) (16 * w) (B + 541) 0 16)) := by
  have o5 := o11_16 hL
  simp (disch := omega) only [↓fX5_enter.eq_1, ↓sX5_enter_.eq_1, ↓k_mk, ↓k_sq, ↓k_sk, ↓k_bk, ↓k_if, ↓k_te, ↓k_cm, ↓k_cz, ↓k_an2, ↓k_or2, ↓k_no, ↓k_ci, ↓k_l0, ↓k_r0, ↓k_se0, ↓k_ic0, ↓k_l1, ↓k_r1, ↓k_se1, ↓k_ic1, ↓k_de1, ↓k_tk1, ↓k_l2, ↓k_r2, ↓k_se2, ↓k_ic2, ↓k_de2, ↓k_tk2, ↓k_l3, ↓k_r3, ↓k_se3, ↓k_ic3, ↓k_de3, ↓k_tk3, ↓k_l4, ↓k_r4, ↓k_se4, ↓k_ic4, ↓k_de4, ↓k_tk4, ↓k_l5, ↓k_r5, ↓k_se5, ↓k_ic5, ↓k_de5, ↓k_tk5, ↓k_l6, ↓k_r6, ↓k_se6, ↓k_ic6, ↓k_de6, ↓k_tk6, ↓k_l7, ↓k_r7, ↓k_se7, ↓k_ic7, ↓k_de7, ↓k_tk7, ↓k_l8, ↓k_r8, ↓k_se8, ↓k_ic8, ↓k_de8, ↓k_tk8, ↓k_l9, ↓k_r9, ↓k_se9, ↓k_ic9, ↓k_de9, ↓k_tk9, ↓k_l10, ↓k_r10, ↓k_se10, ↓k_ic10, ↓k_de10, ↓k_tk10, ↓k_l11, ↓k_r11, ↓k_se11, ↓k_ic11, ↓k_de11, ↓k_tk11, ↓k_l12, ↓k_r12, ↓k_se12, ↓k_ic12, ↓k_de12, ↓k_tk12, ↓k_l13, ↓k_r13, ↓k_se13, ↓k_ic13, ↓k_de13, ↓k_tk13, ↓k_l14, ↓k_r14, ↓k_se14, ↓k_ic14, ↓k_de14, ↓k_tk14, ↓k_l15, ↓k_r15, ↓k_se15, ↓k_ic15, ↓k_de15, ↓k_tk15, ↓k_l16, ↓k_r16, ↓k_se16, ↓k_ic16, ↓k_de16, ↓k_tk16, ↓k_l17, ↓k_r17, ↓k_se17, ↓k_ic17, ↓k_de17, ↓k_tk17, ↓k_l18, ↓k_r18, ↓k_se18, ↓k_ic18, ↓k_de18, ↓k_tk18, ↓k_l19, ↓k_r19, ↓k_se19, ↓k_ic19, ↓k_de19, ↓k_tk19, ↓k_l20, ↓k_r20, ↓k_se20, ↓k_ic20, ↓k_de20, ↓k_tk20, ↓k_l21, ↓k_r21, ↓k_se21, ↓k_ic21, ↓k_de21, ↓k_tk21, ↓k_l22, ↓k_r22, ↓k_se22, ↓k_ic22, ↓k_de22, ↓k_tk22, ↓k_l23, ↓k_r23, ↓k_se23, ↓k_ic23, ↓k_de23, ↓k_tk23, ↓k_l24, ↓k_r24, ↓k_se24, ↓k_ic24, ↓k_de24, ↓k_tk24, ↓k_l25, ↓k_r25, ↓k_se25, ↓k_ic25, ↓k_de25, ↓k_tk25, ↓k_k, ↓k_kn, ↓k_kl, ↓k_kln, ↓k_il, ↓k_2, ↓k_1, ↓k_2c, ↓k_2l, ↓k_ac, ↓k_an, ↓k_cs, ↓k_cv, ↓k_fi, ↓k_fr, ↓k_ai, ↓k_az, ↓k_ar, ↓k_sai, ↓k_saz, ↓k_soa, ↓k_sof, ↓k_spf, ↓k_sx, ↓k_blk, ↓k_sset, ↓k_sdec, ↓k_sri, ↓k_srv, ↓k_srr, ↓k_nop, ↓k_add, ↓k_sub, ↓k_mul, ↓k_min, ↓k_max, ↓k_shr, ↓k_shl, ↓k_or, ↓k_ilz, ↓k_addl, ↓k_rt, ↓k_rb, ↓k_rbz, ↓k_rsi, ↓k_rsr, ↓k_rsv, ↓reduceIte, ↓e_cpy, ↓(cp_mk (t11_5 hL) (t5_5 o5) (v11_5 hL) (v5_5 o5)), ↓xr5_5 o5, ↓xa5_5 o5, ↓xs5_5 o5, ↓xo5_5 o5, ↓xc5_5 o5, ↓xd5_5 o5, List.length_cons, List.length_nil, List.forall_mem_cons, List.not_mem_nil, Value.category, true_and, and_true, false_and, and_false, or_true, true_or, or_false, false_or, Nat.zero_le, forall_const, implies_true, false_implies, Nat.zero_add, Nat.reduceAdd, Nat.reduceLT, Nat.reduceLeDiff, Nat.le_refl, not_true_eq_false, not_false_eq_true, r_eq, r_ne, r_lt, r_ge, r_gt, r_le, bz_ne, nn_toNat, cn_of, cn_0, cn_1, i10, Int.reduceLE, Int.reduceLT, Int.reduceEq, bz_T, bz_F, ite_self, mulc, st_bud]
theorem c5_work {T : Nat → Option q_T} {nx rc rs B a j1 j2 j3 j4 : Nat} {R : Nat → Nat → Option Value} {G : Nat → Int → Int} {h i v F : Int} {W : Int → Int} (hL : Ly T R B (L11x B j1 j2 j3 j4)) (o9 : Ly T (R5 R B (tvA B v) a) a (L9 a)) (hao : a + 10 ≤ (B + 540)) (hF : IFm G B) (tk : TOK G B h i v a) (cl : ∀ q, 0 ≤ q → q < G a 2 → ¬ 1000 ≤ G (a + 1) q → isLf (G (a + 1) q)) (cb : ∀ q, 0 ≤ q → q < G a 2 → 20 ≤ G (a + 1) q ∧ G (a + 1) q ≤ 1013) (F0 : 1 ≤ F) (F1 : F ≤ 1000) (hW : ∀ j, 0 ≤ j → j < 16 → zI (G (B + 541) j) = zI (W j)) :
    ∃ (G' : Nat → Int → Int) (x : Int), (∀ y, ¬ ((B + 540) ≤ y ∧ y ≤ (B + 540) + 3) → G' y = G y) ∧ G' (B + 541) = G (B + 541) ∧ ((G' (B + 540) 1 = 0 ∧ (0 ≤ G' (B + 540) 0 ∧ G' (B + 540) 0 ≤ F) ∧ evP (G (tvA B v + 5)) (G (tvA B v + 9)) (G (a + 1)) (G (a + 2)) W F 202 0 [] 0 = some (x, G' (B + 540) 0)) ∨ (G' (B + 540) 1 = 1 ∧ evP (G (tvA B v + 5)) (G (tvA B v + 9)) (G (a + 1)) (G (a + 2)) W F 202 0 [] 0 = none)) ∧
      ∀ K : Option Value → q_M → Prop, fX5_work [.ref (B + 540), .ref (tvA B v), .ref a, .int (zI F)] (st T nx rc rs R G) K = K (some (.int (zI x))) (st T nx rc rs (R5 R B (tvA B v) a) G') := by
  have tb := TOK_b tk
  have kT := tk.2.2.2.1
  have kv := tk.2.2.1
  have tvb : B + 370 ≤ tvA B v ∧ tvA B v + 14 ≤ B + 398 := by unfold tvA; omega
  have hL2 : Ly T (R5 R B (tvA B v) a) B (L11x B j1 j2 (tvA B v) a) := Ly_R5 hL
  have hL1 : Ly T (rS R (B + 540) 2 (.ref (tvA B v))) B (L11x B j1 j2 (tvA B v) j4) := Ly_told5 hL
  have o5 := o11_16 hL
  have o51 := o11_16 hL1
  have o52 := o11_16 hL2
  have o8 : Ly T (R5 R B (tvA B v) a) (tvA B v) (L8 (tvA B v)) := o11_0 hL2 (i := v.toNat) (by omega)
  obtain ⟨G1, e1⟩ : ∃ M, M = gs (gs (gs G (B + 540) 4 F) (B + 540) 0 0) (B + 540) 1 0 := ⟨_, rfl⟩
  have n1 : ∀ x, ¬ x = (B + 540) → G1 x = G x := fun x q => by rw [e1, gs_ne q, gs_ne q, gs_ne q]
  have q4 : G1 (B + 540) 4 = F := by rw [e1, gs_eq, fu_ne (by omega), gs_eq, fu_ne (by omega)]; exact gs_same _ _ _ _
  have q0 : G1 (B + 540) 0 = 0 := by rw [e1, gs_eq, fu_ne (by omega)]; exact gs_same _ _ _ _
  have q1 : G1 (B + 540) 1 = 0 := by rw [e1]; exact gs_same _ _ _ _
  obtain ⟨G2, ⟨x1, x2⟩, lw⟩ := q_forE eX5_work_0 (fun _ _ => lX5_work_0) (fun k => [.ref (B + 540), .ref (tvA B v), .ref a, .int (zI F), .int (zI k)]) (fun M => st T nx rc rs (R5 R B (tvA B v) a) M) (fun k M => (∀ x, ¬ x = (B + 540) + 3 → M x = G1 x) ∧ ∀ j : Int, 0 ≤ j → j < k → M ((B + 540) + 3) j = 0) 16 G1 ⟨fun _ _ => rfl, fun j j0 j1 => by omega⟩ (fun k hk M ⟨y1, y2⟩ => by
    refine ⟨gs M ((B + 540) + 3) k 0, ⟨fun x q => by rw [gs_ne q, y1 x q], fun j j0 j1 => ?_⟩, fun Kn Kf hh => ?_⟩
    · rw [gs_eq, fu_at]
      by_cases z : j = k
      · rw [if_pos z]
      · rw [if_neg z]
        exact y2 j j0 (by omega)
    · have hz : (k : Int) < 16 := by omega
      simp (disch := omega) only [↓wcX5_work_0.eq_1, ↓wsX5_work_0.eq_1, ↓k_mk, ↓k_sq, ↓k_sk, ↓k_bk, ↓k_if, ↓k_te, ↓k_cm, ↓k_cz, ↓k_an2, ↓k_or2, ↓k_no, ↓k_ci, ↓k_l0, ↓k_r0, ↓k_se0, ↓k_ic0, ↓k_l1, ↓k_r1, ↓k_se1, ↓k_ic1, ↓k_de1, ↓k_tk1, ↓k_l2, ↓k_r2, ↓k_se2, ↓k_ic2, ↓k_de2, ↓k_tk2, ↓k_l3, ↓k_r3, ↓k_se3, ↓k_ic3, ↓k_de3, ↓k_tk3, ↓k_l4, ↓k_r4, ↓k_se4, ↓k_ic4, ↓k_de4, ↓k_tk4, ↓k_l5, ↓k_r5, ↓k_se5, ↓k_ic5, ↓k_de5, ↓k_tk5, ↓k_l6, ↓k_r6, ↓k_se6, ↓k_ic6, ↓k_de6, ↓k_tk6, ↓k_l7, ↓k_r7, ↓k_se7, ↓k_ic7, ↓k_de7, ↓k_tk7, ↓k_l8, ↓k_r8, ↓k_se8, ↓k_ic8, ↓k_de8, ↓k_tk8, ↓k_l9, ↓k_r9, ↓k_se9, ↓k_ic9, ↓k_de9, ↓k_tk9, ↓k_l10, ↓k_r10, ↓k_se10, ↓k_ic10, ↓k_de10, ↓k_tk10, ↓k_l11, ↓k_r11, ↓k_se11, ↓k_ic11, ↓k_de11, ↓k_tk11, ↓k_l12, ↓k_r12, ↓k_se12, ↓k_ic12, ↓k_de12, ↓k_tk12, ↓k_l13, ↓k_r13, ↓k_se13, ↓k_ic13, ↓k_de13, ↓k_tk13, ↓k_l14, ↓k_r14, ↓k_se14, ↓k_ic14, ↓k_de14, ↓k_tk14, ↓k_l15, ↓k_r15, ↓k_se15, ↓k_ic15, ↓k_de15, ↓k_tk15, ↓k_l16, ↓k_r16, ↓k_se16, ↓k_ic16, ↓k_de16, ↓k_tk16, ↓k_l17, ↓k_r17, ↓k_se17, ↓k_ic17, ↓k_de17, ↓k_tk17, ↓k_l18, ↓k_r18, ↓k_se18, ↓k_ic18, ↓k_de18, ↓k_tk18, ↓k_l19, ↓k_r19, ↓k_se19, ↓k_ic19, ↓k_de19, ↓k_tk19, ↓k_l20, ↓k_r20, ↓k_se20, ↓k_ic20, ↓k_de20, ↓k_tk20, ↓k_l21, ↓k_r21, ↓k_se21, ↓k_ic21, ↓k_de21, ↓k_tk21, ↓k_l22, ↓k_r22, ↓k_se22, ↓k_ic22, ↓k_de22, ↓k_tk22, ↓k_l23, ↓k_r23, ↓k_se23, ↓k_ic23, ↓k_de23, ↓k_tk23, ↓k_l24, ↓k_r24, ↓k_se24, ↓k_ic24, ↓k_de24, ↓k_tk24, ↓k_l25, ↓k_r25, ↓k_se25, ↓k_ic25, ↓k_de25, ↓k_tk25, ↓k_k, ↓k_kn, ↓k_kl, ↓k_kln, ↓k_il, ↓k_2, ↓k_1, ↓k_2c, ↓k_2l, ↓k_ac, ↓k_an, ↓k_cs, ↓k_cv, ↓k_fi, ↓k_fr, ↓k_ai, ↓k_az, ↓k_ar, ↓k_sai, ↓k_saz, ↓k_soa, ↓k_sof, ↓k_spf, ↓k_sx, ↓k_blk, ↓k_sset, ↓k_sdec, ↓k_sri, ↓k_srv, ↓k_srr, ↓k_nop, ↓k_add, ↓k_sub, ↓k_mul, ↓k_min, ↓k_max, ↓k_shr, ↓k_shl, ↓k_or, ↓k_ilz, ↓k_addl, ↓k_rt, ↓k_rb, ↓k_rbz, ↓k_rsi, ↓k_rsr, ↓k_rsv, ↓reduceIte, hz, ↓xr5_7 o52, ↓xa5_7 o52, ↓xs5_7 o52, List.length_cons, List.length_nil, List.forall_mem_cons, List.not_mem_nil, Value.category, true_and, and_true, false_and, and_false, or_true, true_or, or_false, false_or, Nat.zero_le, forall_const, implies_true, false_implies, Nat.zero_add, Nat.reduceAdd, Nat.reduceLT, Nat.reduceLeDiff, Nat.le_refl, not_true_eq_false, not_false_eq_true, r_eq, r_ne, r_lt, r_ge, r_gt, r_le, bz_ne, nn_toNat, cn_of, cn_0, cn_1, i10, Int.reduceLE, Int.reduceLT, Int.reduceEq, bz_T, bz_F, ite_self, mulc, st_bud]
      exact hh) (fun M _ Kt Kf hh => by
    simp (disch := omega) only [↓wcX5_work_0.eq_1, ↓k_mk, ↓k_sq, ↓k_sk, ↓k_bk, ↓k_if, ↓k_te, ↓k_cm, ↓k_cz, ↓k_an2, ↓k_or2, ↓k_no, ↓k_ci, ↓k_l0, ↓k_r0, ↓k_se0, ↓k_ic0, ↓k_l1, ↓k_r1, ↓k_se1, ↓k_ic1, ↓k_de1, ↓k_tk1, ↓k_l2, ↓k_r2, ↓k_se2, ↓k_ic2, ↓k_de2, ↓k_tk2, ↓k_l3, ↓k_r3, ↓k_se3, ↓k_ic3, ↓k_de3, ↓k_tk3, ↓k_l4, ↓k_r4, ↓k_se4, ↓k_ic4, ↓k_de4, ↓k_tk4, ↓k_l5, ↓k_r5, ↓k_se5, ↓k_ic5, ↓k_de5, ↓k_tk5, ↓k_l6, ↓k_r6, ↓k_se6, ↓k_ic6, ↓k_de6, ↓k_tk6, ↓k_l7, ↓k_r7, ↓k_se7, ↓k_ic7, ↓k_de7, ↓k_tk7, ↓k_l8, ↓k_r8, ↓k_se8, ↓k_ic8, ↓k_de8, ↓k_tk8, ↓k_l9, ↓k_r9, ↓k_se9, ↓k_ic9, ↓k_de9, ↓k_tk9, ↓k_l10, ↓k_r10, ↓k_se10, ↓k_ic10, ↓k_de10, ↓k_tk10, ↓k_l11, ↓k_r11, ↓k_se11, ↓k_ic11, ↓k_de11, ↓k_tk11, ↓k_l12, ↓k_r12, ↓k_se12, ↓k_ic12, ↓k_de12, ↓k_tk12, ↓k_l13, ↓k_r13, ↓k_se13, ↓k_ic13, ↓k_de13, ↓k_tk13, ↓k_l14, ↓k_r14, ↓k_se14, ↓k_ic14, ↓k_de14, ↓k_tk14, ↓k_l15, ↓k_r15, ↓k_se15, ↓k_ic15, ↓k_de15, ↓k_tk15, ↓k_l16, ↓k_r16, ↓k_se16, ↓k_ic16, ↓k_de16, ↓k_tk16, ↓k_l17, ↓k_r17, ↓k_se17, ↓k_ic17, ↓k_de17, ↓k_tk17, ↓k_l18, ↓k_r18, ↓k_se18, ↓k_ic18, ↓k_de18, ↓k_tk18, ↓k_l19, ↓k_r19, ↓k_se19, ↓k_ic19, ↓k_de19, ↓k_tk19, ↓k_l20, ↓k_r20, ↓k_se20, ↓k_ic20, ↓k_de20, ↓k_tk20, ↓k_l21, ↓k_r21, ↓k_se21, ↓k_ic21, ↓k_de21, ↓k_tk21, ↓k_l22, ↓k_r22, ↓k_se22, ↓k_ic22, ↓k_de22, ↓k_tk22, ↓k_l23, ↓k_r23, ↓k_se23, ↓k_ic23, ↓k_de23, ↓k_tk23, ↓k_l24, ↓k_r24, ↓k_se24, ↓k_ic24, ↓k_de24, ↓k_tk24, ↓k_l25, ↓k_r25, ↓k_se25, ↓k_ic25, ↓k_de25, ↓k_tk25, ↓k_k, ↓k_kn, ↓k_kl, ↓k_kln, ↓k_il, ↓k_2, ↓k_1, ↓k_2c, ↓k_2l, ↓k_ac, ↓k_an, ↓k_cs, ↓k_cv, ↓k_fi, ↓k_fr, ↓k_ai, ↓k_az, ↓k_ar, ↓k_sai, ↓k_saz, ↓k_soa, ↓k_sof, ↓k_spf, ↓k_sx, ↓k_blk, ↓k_sset, ↓k_sdec, ↓k_sri, ↓k_srv, ↓k_srr, ↓k_nop, ↓k_add, ↓k_sub, ↓k_mul, ↓k_min, ↓k_max, ↓k_shr, ↓k_shl, ↓k_or, ↓k_ilz, ↓k_addl, ↓k_rt, ↓k_rb, ↓k_rbz, ↓k_rsi, ↓k_rsr, ↓k_rsv, ↓reduceIte, Int.reduceLT, List.length_cons, List.length_nil, List.forall_mem_cons, List.not_mem_nil, Value.category, true_and, and_true, false_and, and_false, or_true, true_or, or_false, false_or, Nat.zero_le, forall_const, implies_true, false_implies, Nat.zero_add, Nat.reduceAdd, Nat.reduceLT, Nat.reduceLeDiff, Nat.le_refl, not_true_eq_false, not_false_eq_true, r_eq, r_ne, r_lt, r_ge, r_gt, r_le, bz_ne, nn_toNat, cn_of, cn_0, cn_1, i10, Int.reduceLE, Int.reduceLT, Int.reduceEq, bz_T, bz_F, ite_self, mulc, st_bud]
    exact hh)
  have n2 : ∀ x, ¬ ((B + 540) ≤ x ∧ x ≤ (B + 540) + 3) → G2 x = G x := fun x q => by rw [x1 x (by omega), n1 x (by omega)]
  have rk : RK G G2 (B + 540) F W [] := by
    refine ⟨n2, by rw [x1 _ (by omega)]; exact q4, fun j j0 j1 => ?_, fun j j0 j1 => Or.inl ⟨rfl, x2 j j0 (by omega)⟩⟩
    rw [x1 _ (by omega), n1 _ (by omega)]
    exact hW j j0 j1
  have e00 := kT.1.2.2.2.2.2.2.1
  have nbn := kT.2.2.2.2.2.1
  have z0 : nb (G (a + 1)) (0 : Int).toNat = 0 := rfl
  have m0 : G2 (B + 540) 0 = 0 := by rw [x1 _ (by omega)]; exact q0
  have m1 : G2 (B + 540) 1 = 0 := by rw [x1 _ (by omega)]; exact q1
  obtain ⟨G3, x, ⟨r1, r2⟩, r3⟩ := c5_all (T := T) (nx := nx) (R := R5 R B (tvA B v) a) (o := (B + 540)) (F := F) (W := W) o52 o8 o9 hao (by omega) hF tk cl cb F1 202 0 (Int.le_refl _) (by omega) (by omega) G2 130 0 [] rk m1 (by omega) (by omega) (Int.le_refl _) (by rw [e00, ← nbn, z0]; omega) (by rw [e00, ← nbn, z0]; omega)
  rw [m0] at r2
  refine ⟨G3, x, fun y q => by rw [r1.1 y (by omega), n2 y q], by rw [r1.1 _ (by omega), x1 _ (by omega), n1 _ (by omega)], r2, fun K => ?_⟩
  have lw' : ∀ (Kn : List Value → q_M → Prop) (Kr : Option Value → q_M → Prop), wX5_work_0 [.ref (B + 540), .ref (tvA B v), .ref a, .int (zI F), .int (zI 0)] (st T nx rc rs (R5 R B (tvA B v) a) G1) Kn Kr = Kn [.ref (B + 540), .ref (tvA B v), .ref a, .int (zI F), .int (zI 16)] (st T nx rc rs (R5 R B (tvA B v) a) G2) := lw
  rw [e1] at lw'
  have k1 : ∀ (e : List Value) (Kn : List Value → q_M → Prop), spK Value.ref (fun _ => True) 5 3 (B + 540) a e (st T nx rc rs (rS R (B + 540) 2 (.ref (tvA B v))) G) Kn = Kn e (st T nx rc rs (R5 R B (tvA B v) a) G) := fun e Kn => x5_tree o51
  simp (disch := omega) only [↓fX5_work.eq_1, ↓uX5_work, ↓k_mk, ↓k_sq, ↓k_sk, ↓k_bk, ↓k_if, ↓k_te, ↓k_cm, ↓k_cz, ↓k_an2, ↓k_or2, ↓k_no, ↓k_ci, ↓k_l0, ↓k_r0, ↓k_se0, ↓k_ic0, ↓k_l1, ↓k_r1, ↓k_se1, ↓k_ic1, ↓k_de1, ↓k_tk1, ↓k_l2, ↓k_r2, ↓k_se2, ↓k_ic2, ↓k_de2, ↓k_tk2, ↓k_l3, ↓k_r3, ↓k_se3, ↓k_ic3, ↓k_de3, ↓k_tk3, ↓k_l4, ↓k_r4, ↓k_se4, ↓k_ic4, ↓k_de4, ↓k_tk4, ↓k_l5, ↓k_r5, ↓k_se5, ↓k_ic5, ↓k_de5, ↓k_tk5, ↓k_l6, ↓k_r6, ↓k_se6, ↓k_ic6, ↓k_de6, ↓k_tk6, ↓k_l7, ↓k_r7, ↓k_se7, ↓k_ic7, ↓k_de7, ↓k_tk7, ↓k_l8, ↓k_r8, ↓k_se8, ↓k_ic8, ↓k_de8, ↓k_tk8, ↓k_l9, ↓k_r9, ↓k_se9, ↓k_ic9, ↓k_de9, ↓k_tk9, ↓k_l10, ↓k_r10, ↓k_se10, ↓k_ic10, ↓k_de10, ↓k_tk10, ↓k_l11, ↓k_r11, ↓k_se11, ↓k_ic11, ↓k_de11, ↓k_tk11, ↓k_l12, ↓k_r12, ↓k_se12, ↓k_ic12, ↓k_de12, ↓k_tk12, ↓k_l13, ↓k_r13, ↓k_se13, ↓k_ic13, ↓k_de13, ↓k_tk13, ↓k_l14, ↓k_r14, ↓k_se14, ↓k_ic14, ↓k_de14, ↓k_tk14, ↓k_l15, ↓k_r15, ↓k_se15, ↓k_ic15, ↓k_de15, ↓k_tk15, ↓k_l16, ↓k_r16, ↓k_se16, ↓k_ic16, ↓k_de16, ↓k_tk16, ↓k_l17, ↓k_r17, ↓k_se17, ↓k_ic17, ↓k_de17, ↓k_tk17, ↓k_l18, ↓k_r18, ↓k_se18, ↓k_ic18, ↓k_de18, ↓k_tk18, ↓k_l19, ↓k_r19, ↓k_se19, ↓k_ic19, ↓k_de19, ↓k_tk19, ↓k_l20, ↓k_r20, ↓k_se20, ↓k_ic20, ↓k_de20, ↓k_tk20, ↓k_l21, ↓k_r21, ↓k_se21, ↓k_ic21, ↓k_de21, ↓k_tk21, ↓k_l22, ↓k_r22, ↓k_se22, ↓k_ic22, ↓k_de22, ↓k_tk22, ↓k_l23, ↓k_r23, ↓k_se23, ↓k_ic23, ↓k_de23, ↓k_tk23, ↓k_l24, ↓k_r24, ↓k_se24, ↓k_ic24, ↓k_de24, ↓k_tk24, ↓k_l25, ↓k_r25, ↓k_se25, ↓k_ic25, ↓k_de25, ↓k_tk25, ↓k_k, ↓k_kn, ↓k_kl, ↓k_kln, ↓k_il, ↓k_2, ↓k_1, ↓k_2c, ↓k_2l, ↓k_ac, ↓k_an, ↓k_cs, ↓k_cv, ↓k_fi, ↓k_fr, ↓k_ai, ↓k_az, ↓k_ar, ↓k_sai, ↓k_saz, ↓k_soa, ↓k_sof, ↓k_spf, ↓k_sx, ↓k_blk, ↓k_sset, ↓k_sdec, ↓k_sri, ↓k_srv, ↓k_srr, ↓k_nop, ↓k_add, ↓k_sub, ↓k_mul, ↓k_min, ↓k_max, ↓k_shr, ↓k_shl, ↓k_or, ↓k_ilz, ↓k_addl, ↓k_rt, ↓k_rb, ↓k_rbz, ↓k_rsi, ↓k_rsr, ↓k_rsv, ↓reduceIte, ↓(x5_told o5), ↓k1, ↓lw', ↓(k_cv2 (dgr3 130 0) (t5 o52)), ↓r3, ↓xi5_0 o52, ↓xp5_0 o52, ↓xb5_0 o52, ↓xf5_0 o52, ↓xg5_0 o52, ↓xh5_0 o52, ↓xi5_1 o52, ↓xp5_1 o52, ↓xb5_1 o52, ↓xf5_1 o52, ↓xg5_1 o52, ↓xh5_1 o52, ↓xi5_4 o52, ↓xp5_4 o52, ↓xb5_4 o52, ↓xf5_4 o52, ↓xg5_4 o52, ↓xh5_4 o52, List.length_cons, List.length_nil, List.forall_mem_cons, List.not_mem_nil, Value.category, true_and, and_true, false_and, and_false, or_true, true_or, or_false, false_or, Nat.zero_le, forall_const, implies_true, false_implies, Nat.zero_add, Nat.reduceAdd, Nat.reduceLT, Nat.reduceLeDiff, Nat.le_refl, not_true_eq_false, not_false_eq_true, r_eq, r_ne, r_lt, r_ge, r_gt, r_le, bz_ne, nn_toNat, cn_of, cn_0, cn_1, i10, Int.reduceLE, Int.reduceLT, Int.reduceEq, bz_T, bz_F, ite_self, mulc, st_bud]
end
