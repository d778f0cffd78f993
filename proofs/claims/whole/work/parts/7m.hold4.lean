section
/-! the class's judge: hold, blameCode, holdRules -/
/-- an entry of what is held in a tree of n pieces -/
def OKe (n : Int) (x : Int × Int × Int × Int) : Prop := (0 ≤ x.1 ∧ x.1 < n) ∧ (-1 ≤ x.2.1 ∧ x.2.1 < n) ∧ (x.2.1 = -1 → 0 ≤ x.2.2.1 ∧ x.2.2.1 ≤ 5)
theorem rent_ok {G0 : Nat → Int → Int} {B a : Nat} {v m : Int} (ct : CT G0 B a v) (m0 : 0 ≤ m) (m1 : m < G0 a 3) {i : Nat} (hi : (i : Int) < G0 (tvA B v + 11) (G0 (a + 1) (G0 (a + 7) m) - 1000)) : OKe (G0 a 2) (rent (G0 (a + 1)) (G0 (a + 2)) (G0 (a + 7)) (G0 (tvA B v + 12)) (G0 (tvA B v + 13)) m i) := by
  obtain ⟨p', f', hp', p0, p1, p200, pn, hf', f0, f1, f2, ⟨r0, r1⟩, n5, rr⟩ := ruleC ct m0 m1
  rw [← hp', ← hf'] at hi
  obtain ⟨⟨s0, s1⟩, ww⟩ := rr i (by omega) hi
  have kT := ct.2.2.2
  have ch := kT.2.2.2.1 p' p0 p1 pn
  rw [← hf'] at ch
  obtain ⟨c1, c2, c3⟩ := ch
  have chb : ∀ k : Nat, (k : Int) < G0 (tvA B v + 5) f' → 0 ≤ chI (G0 (a + 2)) p' k ∧ chI (G0 (a + 2)) p' k < G0 a 2 := fun k hk => by
    have := c3 k hk
    omega
  unfold rent OKe
  rw [← hp', ← hf']
  obtain ⟨s, hs⟩ : ∃ s, s = G0 (tvA B v + 12) (6 * f' + i) := ⟨_, rfl⟩
  obtain ⟨w, hw⟩ : ∃ w, w = G0 (tvA B v + 13) (6 * f' + i) := ⟨_, rfl⟩
  rw [← hs] at s0 s1
  rw [← hw] at ww
  rw [← hs, ← hw]
  refine ⟨?_, ?_, ?_⟩
  · show 0 ≤ (if s = -1 then p' else chI (G0 (a + 2)) p' s.toNat) ∧ (if s = -1 then p' else chI (G0 (a + 2)) p' s.toNat) < G0 a 2
    by_cases g : s = -1
    · rw [if_pos g]
      omega
    · rw [if_neg g]
      exact chb s.toNat (by omega)
  · show -1 ≤ (if w < 6 then -1 else chI (G0 (a + 2)) p' (w - 10).toNat) ∧ (if w < 6 then -1 else chI (G0 (a + 2)) p' (w - 10).toNat) < G0 a 2
    by_cases g : w < 6
    · rw [if_pos g]
      omega
    · rw [if_neg g]
      have := chb (w - 10).toNat (by omega)
      omega
  · show (if w < 6 then -1 else chI (G0 (a + 2)) p' (w - 10).toNat) = -1 → 0 ≤ w ∧ w ≤ 5
    by_cases g : w < 6
    · intro _
      omega
    · rw [if_neg g]
      have := chb (w - 10).toNat (by omega)
      omega
theorem rls_ok {G0 : Nat → Int → Int} {B a : Nat} {v m : Int} (ct : CT G0 B a v) (m0 : 0 ≤ m) (m1 : m < G0 a 3) : ∀ i : Nat, (i : Int) ≤ G0 (tvA B v + 11) (G0 (a + 1) (G0 (a + 7) m) - 1000) → ∀ x, x ∈ rls (G0 (a + 1)) (G0 (a + 2)) (G0 (a + 7)) (G0 (tvA B v + 12)) (G0 (tvA B v + 13)) m i → OKe (G0 a 2) x := by
  intro i
  induction i with
  | zero => intro _ x hx; cases hx
  | succ i ih =>
    intro hi x hx
    rw [rls] at hx
    rcases List.mem_append.mp hx with q | q
    · exact ih (by omega) x q
    · rw [List.mem_singleton.mp q]
      exact rent_ok ct m0 m1 (by omega)
theorem hlA_ok {G0 : Nat → Int → Int} {B a : Nat} {v : Int} (ct : CT G0 B a v) : ∀ m : Nat, (m : Int) ≤ G0 a 3 → ∀ x, x ∈ hlA (G0 (tvA B v + 11)) (G0 (a + 1)) (G0 (a + 2)) (G0 (a + 7)) (G0 (tvA B v + 12)) (G0 (tvA B v + 13)) m → OKe (G0 a 2) x := by
  intro m
  induction m with
  | zero => intro _ x hx; cases hx
  | succ m ih =>
    intro hm x hx
    obtain ⟨p', f', hp', _, _, _, _, hf', _, _, _, ⟨r0, _⟩, _⟩ := ruleC ct (m := m) (by omega) (by omega)
    rw [hlA] at hx
    rcases List.mem_append.mp hx with q | q
    · exact ih (by omega) x q
    · exact rls_ok ct (by omega) (by omega) _ (by rw [← hp', ← hf']; omega) x q
theorem hlC_ok {G0 : Nat → Int → Int} {B a : Nat} {v : Int} {P : Int → Int} (ct : CT G0 B a v) (hP : ∀ k, 0 ≤ k → k < G0 a 4 → -1 ≤ P k ∧ P k < G0 a 4) : ∀ k : Nat, (k : Int) ≤ G0 a 4 → ∀ x, x ∈ hlC (G0 (a + 8)) P k → OKe (G0 a 2) x := by
  intro k
  induction k with
  | zero => intro _ x hx; cases hx
  | succ k ih =>
    intro hk x hx
    rw [hlC] at hx
    rcases List.mem_append.mp hx with q | q
    · exact ih (by omega) x q
    · have pb := hP k (by omega) (by omega)
      by_cases g : P k = -1
      · rw [if_pos g] at q
        cases q
      · rw [if_neg g] at q
        rw [List.mem_singleton.mp q]
        obtain ⟨p, _, _, hp, p0, p1, _⟩ := leafC ct (l := k) (by omega) (by omega)
        obtain ⟨r, _, _, hr, r0, r1, _⟩ := leafC ct (l := P k) (by omega) pb.2
        unfold OKe
        refine ⟨?_, ?_, ?_⟩
        · show 0 ≤ G0 (a + 8) k ∧ G0 (a + 8) k < G0 a 2
          omega
        · show -1 ≤ G0 (a + 8) (P k) ∧ G0 (a + 8) (P k) < G0 a 2
          omega
        · intro w
          have w : G0 (a + 8) (P k) = -1 := w
          omega
/-- the i-th of what is held -/
def lg (l : List (Int × Int × Int × Int)) (i : Nat) : Int × Int × Int × Int := l.getD i (0, 0, 0, 0)
theorem lg_some {l : List (Int × Int × Int × Int)} {i : Nat} (h : i < l.length) : l[i]? = some (lg l i) := by
  unfold lg
  rw [List.getD_eq_getElem?_getD, List.getElem?_eq_getElem h]
  rfl
theorem lg_mem {l : List (Int × Int × Int × Int)} {i : Nat} (h : i < l.length) : lg l i ∈ l := List.mem_of_getElem? (lg_some h)
/-- after hold: the list l stands -/
def HDo (G0 G' : Nat → Int → Int) (o : Nat) (n : Int) (l : List (Int × Int × Int × Int)) : Prop := (∀ x, ¬ (o ≤ x ∧ x ≤ o + 4) → G' x = G0 x) ∧ (∀ j, ¬ j = 1 → ¬ j = 2 → G' o j = G0 o j) ∧ HM G' o n l.length (fun i => (lg l i).1) (fun i => (lg l i).2.1) (fun i => (lg l i).2.2.1) ∧ ∀ i, i < l.length → G' (o + 4) i = (lg l i).2.2.2
theorem c2_hold {T : Nat → Option q_T} {nx o a ob B : Nat} {R : Nat → Nat → Option Value} {G0 : Nat → Int → Int} {v i : Int} {P : Int → Int} (ho : Ly T R o (L2 o)) (h8 : Ly T R (tvA B v) (L8 (tvA B v))) (h9 : Ly T R a (L9 a)) (hb : Ly T R ob (L0 ob)) (iFm : IFm G0 B) (tk : TOK G0 B 0 i v a) (tN : 1 ≤ G0 a 3) (oa : a + 10 ≤ o ∨ o + 5 ≤ a) (oB : o + 5 ≤ B + 370) (bo : ob + 4 ≤ o ∨ o + 5 ≤ ob) (bp : BP G0 ob (G0 a 4) P) :
    ∃ G', HDo G0 G' o (G0 a 2) (hlA (G0 (tvA B v + 11)) (G0 (a + 1)) (G0 (a + 2)) (G0 (a + 7)) (G0 (tvA B v + 12)) (G0 (tvA B v + 13)) (G0 a 3).toNat ++ hlC (G0 (a + 8)) P (G0 a 4).toNat) ∧ (hlA (G0 (tvA B v + 11)) (G0 (a + 1)) (G0 (a + 2)) (G0 (a + 7)) (G0 (tvA B v + 12)) (G0 (tvA B v + 13)) (G0 a 3).toNat ++ hlC (G0 (a + 8)) P (G0 a 4).toNat).length ≤ 441 ∧ ∀ K : Option Value → q_M → Prop, fX2_hold [.ref o, .ref (tvA B v), .ref a, .ref ob] (st T nx 0 0 R G0) K = K none (st T nx 0 0 R G') := by
  have kv := tk.2.2.1
  have tvb : B + 370 ≤ tvA B v ∧ tvA B v + 14 ≤ B + 398 := by unfold tvA; omega
  have ct := CT_of iFm tk tN
  have kT := ct.2.2.2
  have n201 := kT.1.2.1
  have n0 := kT.1.1
  have N40 := kT.1.2.2.2.1
  have L00 := kT.1.2.2.2.2.1
  have LN := kT.1.2.2.2.2.2.1
  obtain ⟨G1, hG1⟩ : ∃ M, M = gs (gs G0 o 1 0) o 2 (G0 a 2) := ⟨_, rfl⟩
  have e1 : ∀ x, ¬ x = o → G1 x = G0 x := fun x q => by rw [hG1, gs_ne q, gs_ne q]
  have iFm1 : IFm G1 B := IFm_congr (fun x q1 q2 _ _ => e1 x (by omega)) (fun x q1 q2 => e1 x (by omega)) iFm
  have tk1 : TOK G1 B 0 i v a := TOK_row iFm (fun x q1 q2 => e1 x (by omega)) (fun x q1 q2 => e1 x (by omega)) (RowE_of fun x q4 q5 => e1 x (by omega)) tk
  have ct1 : CT G1 B a v := CT_of iFm1 tk1 (by rw [e1 a (by omega)]; exact tN)
  have f1 : G1 o 1 = 0 := by rw [hG1, gs_eq, fu_ne (by omega), gs_same]
  have bp1 : BP G1 ob (G1 a 4) P := by
    intro k k0 k1
    rw [e1 a (by omega)] at k1 ⊢
    rw [e1 _ (by omega), e1 _ (by omega)]
    exact bp k k0 k1
  obtain ⟨G2, ⟨g2, l2⟩, w2⟩ := w2_nodes (T := T) (nx := nx) (R := R) (ob := ob) ho h8 h9 ct1 oa oB f1
  obtain ⟨G3, ⟨g3, l3⟩, w3⟩ := w2_leaves (T := T) (nx := nx) (R := R) ho h8 h9 ct1 oa oB hb bo bp1 g2 l2
  have q4 : G2 a 4 = G0 a 4 := by rw [g2.1 _ (by omega), e1 _ (by omega)]
  rw [e1 a (by omega), e1 (a + 1) (by omega), e1 (a + 2) (by omega), e1 (a + 7) (by omega), e1 (a + 8) (by omega), e1 (tvA B v + 11) (by omega), e1 (tvA B v + 12) (by omega), e1 (tvA B v + 13) (by omega)] at l3
  rw [e1 a (by omega)] at w2 w3
  have lA := hlA_len ct (G0 a 3).toNat (by omega)
  have lC := hlC_len (G0 (a + 8)) P (G0 a 4).toNat
  have hP : ∀ k, 0 ≤ k → k < G0 a 4 → -1 ≤ P k ∧ P k < G0 a 4 := fun k k0 k1 => by
    obtain ⟨x, y, _, _, _, yb, hP⟩ := bp k k0 k1
    rw [hP]
    split <;> omega
  obtain ⟨l, hl⟩ : ∃ l, l = hlA (G0 (tvA B v + 11)) (G0 (a + 1)) (G0 (a + 2)) (G0 (a + 7)) (G0 (tvA B v + 12)) (G0 (tvA B v + 13)) (G0 a 3).toNat ++ hlC (G0 (a + 8)) P (G0 a 4).toNat := ⟨_, rfl⟩
  have len : l.length ≤ 441 := by rw [hl, List.length_append]; omega
  have ok : ∀ x, x ∈ l → OKe (G0 a 2) x := fun x hx => by
    rw [hl] at hx
    rcases List.mem_append.mp hx with q | q
    · exact hlA_ok ct _ (by omega) x q
    · exact hlC_ok ct hP _ (by omega) x q
  rw [← hl] at l3 ⊢
  have f2 : G3 o 2 = G0 a 2 := by rw [g3.2 _ (by omega), hG1]; exact gs_same _ _ _ _
  refine ⟨G3, ⟨fun x q => by rw [g3.1 x q, e1 x (by omega)], fun j q1 q2 => by rw [g3.2 j q1, hG1, gs_eq, fu_ne q2, gs_eq, fu_ne q1], ⟨l3.1, f2, by omega, len, fun j hj => ?_⟩, fun j hj => (l3.2 j _ (lg_some hj)).2.2.2⟩, len, fun K => ?_⟩
  · obtain ⟨y1, y2, y3, y4⟩ := l3.2 j _ (lg_some hj)
    obtain ⟨z1, z2, z3⟩ := ok _ (lg_mem hj)
    exact ⟨⟨y1, z1⟩, ⟨y2, z2⟩, fun w => ⟨y3, z3 w⟩⟩
  · have s0 : ∀ (Kn : List Value → q_M → Prop) (Kr : Option Value → q_M → Prop), q_spf Value.int (fun _ => True) 2 1 (q_r 0) (q_k 0) [.ref o, .ref (tvA B v), .ref a, .ref ob] (st T nx 0 0 R G0) Kn Kr = Kn [.ref o, .ref (tvA B v), .ref a, .ref ob] (st T nx 0 0 R (gs G0 o 1 0)) := by
      intro Kn Kr
      simp (disch := omega) only [↓k_mk, ↓k_sq, ↓k_sk, ↓k_bk, ↓k_if, ↓k_te, ↓k_cm, ↓k_cz, ↓k_an2, ↓k_or2, ↓k_no, ↓k_ci, ↓k_l0, ↓k_r0, ↓k_se0, ↓k_ic0, ↓k_l1, ↓k_r1, ↓k_se1, ↓k_ic1, ↓k_de1, ↓k_tk1, ↓k_l2, ↓k_r2, ↓k_se2, ↓k_ic2, ↓k_de2, ↓k_tk2, ↓k_l3, ↓k_r3, ↓k_se3, ↓k_ic3, ↓k_de3, ↓k_tk3, ↓k_l4, ↓k_r4, ↓k_se4, ↓k_ic4, ↓k_de4, ↓k_tk4, ↓k_l5, ↓k_r5, ↓k_se5, ↓k_ic5, ↓k_de5, ↓k_tk5, ↓k_l6, ↓k_r6, ↓k_se6, ↓k_ic6, ↓k_de6, ↓k_tk6, ↓k_l7, ↓k_r7, ↓k_se7, ↓k_ic7, ↓k_de7, ↓k_tk7, ↓k_l8, ↓k_r8, ↓k_se8, ↓k_ic8, ↓k_de8, ↓k_tk8, ↓k_l9, ↓k_r9, ↓k_se9, ↓k_ic9, ↓k_de9, ↓k_tk9, ↓k_l10, ↓k_r10, ↓k_se10, ↓k_ic10, ↓k_de10, ↓k_tk10, ↓k_l11, ↓k_r11, ↓k_se11, ↓k_ic11, ↓k_de11, ↓k_tk11, ↓k_l12, ↓k_r12, ↓k_se12, ↓k_ic12, ↓k_de12, ↓k_tk12, ↓k_l13, ↓k_r13, ↓k_se13, ↓k_ic13, ↓k_de13, ↓k_tk13, ↓k_l14, ↓k_r14, ↓k_se14, ↓k_ic14, ↓k_de14, ↓k_tk14, ↓k_l15, ↓k_r15, ↓k_se15, ↓k_ic15, ↓k_de15, ↓k_tk15, ↓k_l16, ↓k_r16, ↓k_se16, ↓k_ic16, ↓k_de16, ↓k_tk16, ↓k_l17, ↓k_r17, ↓k_se17, ↓k_ic17, ↓k_de17, ↓k_tk17, ↓k_l18, ↓k_r18, ↓k_se18, ↓k_ic18, ↓k_de18, ↓k_tk18, ↓k_l19, ↓k_r19, ↓k_se19, ↓k_ic19, ↓k_de19, ↓k_tk19, ↓k_l20, ↓k_r20, ↓k_se20, ↓k_ic20, ↓k_de20, ↓k_tk20, ↓k_l21, ↓k_r21, ↓k_se21, ↓k_ic21, ↓k_de21, ↓k_tk21, ↓k_l22, ↓k_r22, ↓k_se22, ↓k_ic22, ↓k_de22, ↓k_tk22, ↓k_l23, ↓k_r23, ↓k_se23, ↓k_ic23, ↓k_de23, ↓k_tk23, ↓k_l24, ↓k_r24, ↓k_se24, ↓k_ic24, ↓k_de24, ↓k_tk24, ↓k_l25, ↓k_r25, ↓k_se25, ↓k_ic25, ↓k_de25, ↓k_tk25, ↓k_k, ↓k_kn, ↓k_kl, ↓k_kln, ↓k_il, ↓k_2, ↓k_1, ↓k_2c, ↓k_2l, ↓k_ac, ↓k_an, ↓k_cs, ↓k_cv, ↓k_fi, ↓k_fr, ↓k_ai, ↓k_az, ↓k_ar, ↓k_sai, ↓k_saz, ↓k_soa, ↓k_sof, ↓k_spf, ↓k_sx, ↓k_blk, ↓k_sset, ↓k_sdec, ↓k_sri, ↓k_srv, ↓k_srr, ↓k_nop, ↓k_add, ↓k_sub, ↓k_mul, ↓k_min, ↓k_max, ↓k_shr, ↓k_shl, ↓k_or, ↓k_ilz, ↓k_addl, ↓k_rt, ↓k_rb, ↓k_rbz, ↓k_rsi, ↓k_rsr, ↓k_rsv, ↓reduceIte, ↓xi2_1 ho, ↓xp2_1 ho, ↓xb2_1 ho, ↓xf2_1 ho, ↓xg2_1 ho, ↓xh2_1 ho, List.length_cons, List.length_nil, List.forall_mem_cons, List.not_mem_nil, Value.category, true_and, and_true, false_and, and_false, or_true, true_or, or_false, false_or, Nat.zero_le, forall_const, implies_true, false_implies, Nat.zero_add, Nat.reduceAdd, Nat.reduceLT, Nat.reduceLeDiff, Nat.le_refl, not_true_eq_false, not_false_eq_true, r_eq, r_ne, r_lt, r_ge, r_gt, r_le, bz_ne, nn_toNat, cn_of, cn_0, cn_1, i10, Int.reduceLE, Int.reduceLT, Int.reduceEq, bz_T, bz_F, ite_self, mulc, st_bud]
    have e2 : gs G0 o 1 0 a 2 = G0 a 2 := by rw [gs_ne (by omega)]
    have s1 : ∀ (Kn : List Value → q_M → Prop) (Kr : Option Value → q_M → Prop), q_spf Value.int (fun _ => True) 2 2 (q_r 0) (q_fi 9 2 (q_r 2)) [.ref o, .ref (tvA B v), .ref a, .ref ob] (st T nx 0 0 R (gs G0 o 1 0)) Kn Kr = Kn [.ref o, .ref (tvA B v), .ref a, .ref ob] (st T nx 0 0 R G1) := by
      intro Kn Kr
      rw [hG1]
      simp (disch := omega) only [↓k_mk, ↓k_sq, ↓k_sk, ↓k_bk, ↓k_if, ↓k_te, ↓k_cm, ↓k_cz, ↓k_an2, ↓k_or2, ↓k_no, ↓k_ci, ↓k_l0, ↓k_r0, ↓k_se0, ↓k_ic0, ↓k_l1, ↓k_r1, ↓k_se1, ↓k_ic1, ↓k_de1, ↓k_tk1, ↓k_l2, ↓k_r2, ↓k_se2, ↓k_ic2, ↓k_de2, ↓k_tk2, ↓k_l3, ↓k_r3, ↓k_se3, ↓k_ic3, ↓k_de3, ↓k_tk3, ↓k_l4, ↓k_r4, ↓k_se4, ↓k_ic4, ↓k_de4, ↓k_tk4, ↓k_l5, ↓k_r5, ↓k_se5, ↓k_ic5, ↓k_de5, ↓k_tk5, ↓k_l6, ↓k_r6, ↓k_se6, ↓k_ic6, ↓k_de6, ↓k_tk6, ↓k_l7, ↓k_r7, ↓k_se7, ↓k_ic7, ↓k_de7, ↓k_tk7, ↓k_l8, ↓k_r8, ↓k_se8, ↓k_ic8, ↓k_de8, ↓k_tk8, ↓k_l9, ↓k_r9, ↓k_se9, ↓k_ic9, ↓k_de9, ↓k_tk9, ↓k_l10, ↓k_r10, ↓k_se10, ↓k_ic10, ↓k_de10, ↓k_tk10, ↓k_l11, ↓k_r11, ↓k_se11, ↓k_ic11, ↓k_de11, ↓k_tk11, ↓k_l12, ↓k_r12, ↓k_se12, ↓k_ic12, ↓k_de12, ↓k_tk12, ↓k_l13, ↓k_r13, ↓k_se13, ↓k_ic13, ↓k_de13, ↓k_tk13, ↓k_l14, ↓k_r14, ↓k_se14, ↓k_ic14, ↓k_de14, ↓k_tk14, ↓k_l15, ↓k_r15, ↓k_se15, ↓k_ic15, ↓k_de15, ↓k_tk15, ↓k_l16, ↓k_r16, ↓k_se16, ↓k_ic16, ↓k_de16, ↓k_tk16, ↓k_l17, ↓k_r17, ↓k_se17, ↓k_ic17, ↓k_de17, ↓k_tk17, ↓k_l18, ↓k_r18, ↓k_se18, ↓k_ic18, ↓k_de18, ↓k_tk18, ↓k_l19, ↓k_r19, ↓k_se19, ↓k_ic19, ↓k_de19, ↓k_tk19, ↓k_l20, ↓k_r20, ↓k_se20, ↓k_ic20, ↓k_de20, ↓k_tk20, ↓k_l21, ↓k_r21, ↓k_se21, ↓k_ic21, ↓k_de21, ↓k_tk21, ↓k_l22, ↓k_r22, ↓k_se22, ↓k_ic22, ↓k_de22, ↓k_tk22, ↓k_l23, ↓k_r23, ↓k_se23, ↓k_ic23, ↓k_de23, ↓k_tk23, ↓k_l24, ↓k_r24, ↓k_se24, ↓k_ic24, ↓k_de24, ↓k_tk24, ↓k_l25, ↓k_r25, ↓k_se25, ↓k_ic25, ↓k_de25, ↓k_tk25, ↓k_k, ↓k_kn, ↓k_kl, ↓k_kln, ↓k_il, ↓k_2, ↓k_1, ↓k_2c, ↓k_2l, ↓k_ac, ↓k_an, ↓k_cs, ↓k_cv, ↓k_fi, ↓k_fr, ↓k_ai, ↓k_az, ↓k_ar, ↓k_sai, ↓k_saz, ↓k_soa, ↓k_sof, ↓k_spf, ↓k_sx, ↓k_blk, ↓k_sset, ↓k_sdec, ↓k_sri, ↓k_srv, ↓k_srr, ↓k_nop, ↓k_add, ↓k_sub, ↓k_mul, ↓k_min, ↓k_max, ↓k_shr, ↓k_shl, ↓k_or, ↓k_ilz, ↓k_addl, ↓k_rt, ↓k_rb, ↓k_rbz, ↓k_rsi, ↓k_rsr, ↓k_rsv, ↓reduceIte, e2, ↓xi2_2 ho, ↓xp2_2 ho, ↓xb2_2 ho, ↓xf2_2 ho, ↓xg2_2 ho, ↓xh2_2 ho, ↓xi9_2 h9, ↓xp9_2 h9, ↓xb9_2 h9, ↓xf9_2 h9, ↓xg9_2 h9, ↓xh9_2 h9, List.length_cons, List.length_nil, List.forall_mem_cons, List.not_mem_nil, Value.category, true_and, and_true, false_and, and_false, or_true, true_or, or_false, false_or, Nat.zero_le, forall_const, implies_true, false_implies, Nat.zero_add, Nat.reduceAdd, Nat.reduceLT, Nat.reduceLeDiff, Nat.le_refl, not_true_eq_false, not_false_eq_true, r_eq, r_ne, r_lt, r_ge, r_gt, r_le, bz_ne, nn_toNat, cn_of, cn_0, cn_1, i10, Int.reduceLE, Int.reduceLT, Int.reduceEq, bz_T, bz_F, ite_self, mulc, st_bud]
    simp (disch := omega) only [↓fX2_hold.eq_1, ↓uX2_hold, ↓k_mk, ↓k_sq, ↓k_sk, ↓k_bk, ↓k_if, ↓k_te, ↓k_cm, ↓k_cz, ↓k_an2, ↓k_or2, ↓k_no, ↓k_ci, ↓k_l0, ↓k_r0, ↓k_se0, ↓k_ic0, ↓k_l1, ↓k_r1, ↓k_se1, ↓k_ic1, ↓k_de1, ↓k_tk1, ↓k_l2, ↓k_r2, ↓k_se2, ↓k_ic2, ↓k_de2, ↓k_tk2, ↓k_l3, ↓k_r3, ↓k_se3, ↓k_ic3, ↓k_de3, ↓k_tk3, ↓k_l4, ↓k_r4, ↓k_se4, ↓k_ic4, ↓k_de4, ↓k_tk4, ↓k_l5, ↓k_r5, ↓k_se5, ↓k_ic5, ↓k_de5, ↓k_tk5, ↓k_l6, ↓k_r6, ↓k_se6, ↓k_ic6, ↓k_de6, ↓k_tk6, ↓k_l7, ↓k_r7, ↓k_se7, ↓k_ic7, ↓k_de7, ↓k_tk7, ↓k_l8, ↓k_r8, ↓k_se8, ↓k_ic8, ↓k_de8, ↓k_tk8, ↓k_l9, ↓k_r9, ↓k_se9, ↓k_ic9, ↓k_de9, ↓k_tk9, ↓k_l10, ↓k_r10, ↓k_se10, ↓k_ic10, ↓k_de10, ↓k_tk10, ↓k_l11, ↓k_r11, ↓k_se11, ↓k_ic11, ↓k_de11, ↓k_tk11, ↓k_l12, ↓k_r12, ↓k_se12, ↓k_ic12, ↓k_de12, ↓k_tk12, ↓k_l13, ↓k_r13, ↓k_se13, ↓k_ic13, ↓k_de13, ↓k_tk13, ↓k_l14, ↓k_r14, ↓k_se14, ↓k_ic14, ↓k_de14, ↓k_tk14, ↓k_l15, ↓k_r15, ↓k_se15, ↓k_ic15, ↓k_de15, ↓k_tk15, ↓k_l16, ↓k_r16, ↓k_se16, ↓k_ic16, ↓k_de16, ↓k_tk16, ↓k_l17, ↓k_r17, ↓k_se17, ↓k_ic17, ↓k_de17, ↓k_tk17, ↓k_l18, ↓k_r18, ↓k_se18, ↓k_ic18, ↓k_de18, ↓k_tk18, ↓k_l19, ↓k_r19, ↓k_se19, ↓k_ic19, ↓k_de19, ↓k_tk19, ↓k_l20, ↓k_r20, ↓k_se20, ↓k_ic20, ↓k_de20, ↓k_tk20, ↓k_l21, ↓k_r21, ↓k_se21, ↓k_ic21, ↓k_de21, ↓k_tk21, ↓k_l22, ↓k_r22, ↓k_se22, ↓k_ic22, ↓k_de22, ↓k_tk22, ↓k_l23, ↓k_r23, ↓k_se23, ↓k_ic23, ↓k_de23, ↓k_tk23, ↓k_l24, ↓k_r24, ↓k_se24, ↓k_ic24, ↓k_de24, ↓k_tk24, ↓k_l25, ↓k_r25, ↓k_se25, ↓k_ic25, ↓k_de25, ↓k_tk25, ↓k_k, ↓k_kn, ↓k_kl, ↓k_kln, ↓k_il, ↓k_2, ↓k_1, ↓k_2c, ↓k_2l, ↓k_ac, ↓k_an, ↓k_cs, ↓k_cv, ↓k_fi, ↓k_fr, ↓k_ai, ↓k_az, ↓k_ar, ↓k_sai, ↓k_saz, ↓k_soa, ↓k_sof, ↓k_sx, ↓k_blk, ↓k_sset, ↓k_sdec, ↓k_sri, ↓k_srv, ↓k_srr, ↓k_nop, ↓k_add, ↓k_sub, ↓k_mul, ↓k_min, ↓k_max, ↓k_shr, ↓k_shl, ↓k_or, ↓k_ilz, ↓k_addl, ↓k_rt, ↓k_rb, ↓k_rbz, ↓k_rsi, ↓k_rsr, ↓k_rsv, ↓reduceIte, ↓s0, ↓s1, ↓w2, ↓w3, List.length_cons, List.length_nil, List.forall_mem_cons, List.not_mem_nil, Value.category, true_and, and_true, false_and, and_false, or_true, true_or, or_false, false_or, Nat.zero_le, forall_const, implies_true, false_implies, Nat.zero_add, Nat.reduceAdd, Nat.reduceLT, Nat.reduceLeDiff, Nat.le_refl, not_true_eq_false, not_false_eq_true, r_eq, r_ne, r_lt, r_ge, r_gt, r_le, bz_ne, nn_toNat, cn_of, cn_0, cn_1, i10, Int.reduceLE, Int.reduceLT, Int.reduceEq, bz_T, bz_F, ite_self, mulc, st_bud]
theorem c2_blameCode {T : Nat → Option q_T} {nx rc rs o b : Nat} {R : Nat → Nat → Option Value} {G : Nat → Int → Int} {i : Int} {bl : Nat → Nat} {cd : Nat → Int} {K : Option Value → q_M → Prop} (ho : Ly T R o (L2 o)) (i0 : -2147483648 ≤ i) (i1 : i < 2147483648) (hb : G o 0 = b) (b1 : b ≤ 441) (hbl : ∀ t, t < b → G (o + 5) t = bl t ∧ bl t < 441 ∧ G (o + 4) (bl t) = cd (bl t)) :
    fX2_blameCode [.ref o, .int (zI i)] (st T nx rc rs R G) K = K (some (.int (zI (if 0 ≤ i ∧ i < b then cd (bl i.toNat) else -1)))) (st T nx rc rs R G) := by
  have cW := fun (K : Option Value → q_M → Prop) => c11_within (a := i) (b := 0) (c := (b : Int) - 1) (μ := st T nx 0 0 R G) (K := K) i0 i1 (by omega) (by omega) (by omega) (by omega)
  by_cases g : 0 ≤ i ∧ i < b
  · have g' : 0 ≤ i ∧ i ≤ (b : Int) - 1 := by omega
    obtain ⟨h1, h2, h3⟩ := hbl i.toNat (by omega)
    have ei : ((i.toNat : Nat) : Int) = i := by omega
    rw [ei] at h1
    rw [bz_t g'] at cW
    rw [if_pos g]
    have i4 : 0 ≤ i := g.1
    have i5 : i < 441 := by omega
    simp (disch := omega) only [↓fX2_blameCode.eq_1, ↓sX2_blameCode_.eq_1, ↓(k_cs3 dX11_within), ↓k_mk, ↓k_sq, ↓k_sk, ↓k_bk, ↓k_if, ↓k_te, ↓k_cm, ↓k_cz, ↓k_an2, ↓k_or2, ↓k_no, ↓k_ci, ↓k_l0, ↓k_r0, ↓k_se0, ↓k_ic0, ↓k_l1, ↓k_r1, ↓k_se1, ↓k_ic1, ↓k_de1, ↓k_tk1, ↓k_l2, ↓k_r2, ↓k_se2, ↓k_ic2, ↓k_de2, ↓k_tk2, ↓k_l3, ↓k_r3, ↓k_se3, ↓k_ic3, ↓k_de3, ↓k_tk3, ↓k_l4, ↓k_r4, ↓k_se4, ↓k_ic4, ↓k_de4, ↓k_tk4, ↓k_l5, ↓k_r5, ↓k_se5, ↓k_ic5, ↓k_de5, ↓k_tk5, ↓k_l6, ↓k_r6, ↓k_se6, ↓k_ic6, ↓k_de6, ↓k_tk6, ↓k_l7, ↓k_r7, ↓k_se7, ↓k_ic7, ↓k_de7, ↓k_tk7, ↓k_l8, ↓k_r8, ↓k_se8, ↓k_ic8, ↓k_de8, ↓k_tk8, ↓k_l9, ↓k_r9, ↓k_se9, ↓k_ic9, ↓k_de9, ↓k_tk9, ↓k_l10, ↓k_r10, ↓k_se10, ↓k_ic10, ↓k_de10, ↓k_tk10, ↓k_l11, ↓k_r11, ↓k_se11, ↓k_ic11, ↓k_de11, ↓k_tk11, ↓k_l12, ↓k_r12, ↓k_se12, ↓k_ic12, ↓k_de12, ↓k_tk12, ↓k_l13, ↓k_r13, ↓k_se13, ↓k_ic13, ↓k_de13, ↓k_tk13, ↓k_l14, ↓k_r14, ↓k_se14, ↓k_ic14, ↓k_de14, ↓k_tk14, ↓k_l15, ↓k_r15, ↓k_se15, ↓k_ic15, ↓k_de15, ↓k_tk15, ↓k_l16, ↓k_r16, ↓k_se16, ↓k_ic16, ↓k_de16, ↓k_tk16, ↓k_l17, ↓k_r17, ↓k_se17, ↓k_ic17, ↓k_de17, ↓k_tk17, ↓k_l18, ↓k_r18, ↓k_se18, ↓k_ic18, ↓k_de18, ↓k_tk18, ↓k_l19, ↓k_r19, ↓k_se19, ↓k_ic19, ↓k_de19, ↓k_tk19, ↓k_l20, ↓k_r20, ↓k_se20, ↓k_ic20, ↓k_de20, ↓k_tk20, ↓k_l21, ↓k_r21, ↓k_se21, ↓k_ic21, ↓k_de21, ↓k_tk21, ↓k_l22, ↓k_r22, ↓k_se22, ↓k_ic22, ↓k_de22, ↓k_tk22, ↓k_l23, ↓k_r23, ↓k_se23, ↓k_ic23, ↓k_de23, ↓k_tk23, ↓k_l24, ↓k_r24, ↓k_se24, ↓k_ic24, ↓k_de24, ↓k_tk24, ↓k_l25, ↓k_r25, ↓k_se25, ↓k_ic25, ↓k_de25, ↓k_tk25, ↓k_k, ↓k_kn, ↓k_kl, ↓k_kln, ↓k_il, ↓k_2, ↓k_1, ↓k_2c, ↓k_2l, ↓k_ac, ↓k_an, ↓k_cs, ↓k_cv, ↓k_fi, ↓k_fr, ↓k_ai, ↓k_az, ↓k_ar, ↓k_sai, ↓k_saz, ↓k_soa, ↓k_sof, ↓k_spf, ↓k_sx, ↓k_blk, ↓k_sset, ↓k_sdec, ↓k_sri, ↓k_srv, ↓k_srr, ↓k_nop, ↓k_add, ↓k_sub, ↓k_mul, ↓k_min, ↓k_max, ↓k_shr, ↓k_shl, ↓k_or, ↓k_ilz, ↓k_addl, ↓k_rt, ↓k_rb, ↓k_rbz, ↓k_rsi, ↓k_rsr, ↓k_rsv, ↓reduceIte, ↓cW, hb, h1, h2, h3, ↓xi2_0 ho, ↓xp2_0 ho, ↓xb2_0 ho, ↓xf2_0 ho, ↓xg2_0 ho, ↓xh2_0 ho, ↓xr2_6 ho, ↓xa2_6 ho, ↓xs2_6 ho, ↓xo2_6 ho, ↓xc2_6 ho, ↓xd2_6 ho, ↓xr2_7 ho, ↓xa2_7 ho, ↓xs2_7 ho, ↓xo2_7 ho, ↓xc2_7 ho, ↓xd2_7 ho, List.length_cons, List.length_nil, List.forall_mem_cons, List.not_mem_nil, Value.category, true_and, and_true, false_and, and_false, or_true, true_or, or_false, false_or, Nat.zero_le, forall_const, implies_true, false_implies, Nat.zero_add, Nat.reduceAdd, Nat.reduceLT, Nat.reduceLeDiff, Nat.le_refl, not_true_eq_false, not_false_eq_true, r_eq, r_ne, r_lt, r_ge, r_gt, r_le, bz_ne, nn_toNat, cn_of, cn_0, cn_1, i10, Int.reduceLE, Int.reduceLT, Int.reduceEq, bz_T, bz_F, ite_self, mulc, st_bud]
  · have g' : ¬ (0 ≤ i ∧ i ≤ (b : Int) - 1) := by omega
    rw [bz_f g'] at cW
    rw [if_neg g]
    simp (disch := omega) only [↓fX2_blameCode.eq_1, ↓sX2_blameCode_.eq_1, ↓(k_cs3 dX11_within), ↓k_mk, ↓k_sq, ↓k_sk, ↓k_bk, ↓k_if, ↓k_te, ↓k_cm, ↓k_cz, ↓k_an2, ↓k_or2, ↓k_no, ↓k_ci, ↓k_l0, ↓k_r0, ↓k_se0, ↓k_ic0, ↓k_l1, ↓k_r1, ↓k_se1, ↓k_ic1, ↓k_de1, ↓k_tk1, ↓k_l2, ↓k_r2, ↓k_se2, ↓k_ic2, ↓k_de2, ↓k_tk2, ↓k_l3, ↓k_r3, ↓k_se3, ↓k_ic3, ↓k_de3, ↓k_tk3, ↓k_l4, ↓k_r4, ↓k_se4, ↓k_ic4, ↓k_de4, ↓k_tk4, ↓k_l5, ↓k_r5, ↓k_se5, ↓k_ic5, ↓k_de5, ↓k_tk5, ↓k_l6, ↓k_r6, ↓k_se6, ↓k_ic6, ↓k_de6, ↓k_tk6, ↓k_l7, ↓k_r7, ↓k_se7, ↓k_ic7, ↓k_de7, ↓k_tk7, ↓k_l8, ↓k_r8, ↓k_se8, ↓k_ic8, ↓k_de8, ↓k_tk8, ↓k_l9, ↓k_r9, ↓k_se9, ↓k_ic9, ↓k_de9, ↓k_tk9, ↓k_l10, ↓k_r10, ↓k_se10, ↓k_ic10, ↓k_de10, ↓k_tk10, ↓k_l11, ↓k_r11, ↓k_se11, ↓k_ic11, ↓k_de11, ↓k_tk11, ↓k_l12, ↓k_r12, ↓k_se12, ↓k_ic12, ↓k_de12, ↓k_tk12, ↓k_l13, ↓k_r13, ↓k_se13, ↓k_ic13, ↓k_de13, ↓k_tk13, ↓k_l14, ↓k_r14, ↓k_se14, ↓k_ic14, ↓k_de14, ↓k_tk14, ↓k_l15, ↓k_r15, ↓k_se15, ↓k_ic15, ↓k_de15, ↓k_tk15, ↓k_l16, ↓k_r16, ↓k_se16, ↓k_ic16, ↓k_de16, ↓k_tk16, ↓k_l17, ↓k_r17, ↓k_se17, ↓k_ic17, ↓k_de17, ↓k_tk17, ↓k_l18, ↓k_r18, ↓k_se18, ↓k_ic18, ↓k_de18, ↓k_tk18, ↓k_l19, ↓k_r19, ↓k_se19, ↓k_ic19, ↓k_de19, ↓k_tk19, ↓k_l20, ↓k_r20, ↓k_se20, ↓k_ic20, ↓k_de20, ↓k_tk20, ↓k_l21, ↓k_r21, ↓k_se21, ↓k_ic21, ↓k_de21, ↓k_tk21, ↓k_l22, ↓k_r22, ↓k_se22, ↓k_ic22, ↓k_de22, ↓k_tk22, ↓k_l23, ↓k_r23, ↓k_se23, ↓k_ic23, ↓k_de23, ↓k_tk23, ↓k_l24, ↓k_r24, ↓k_se24, ↓k_ic24, ↓k_de24, ↓k_tk24, ↓k_l25, ↓k_r25, ↓k_se25, ↓k_ic25, ↓k_de25, ↓k_tk25, ↓k_k, ↓k_kn, ↓k_kl, ↓k_kln, ↓k_il, ↓k_2, ↓k_1, ↓k_2c, ↓k_2l, ↓k_ac, ↓k_an, ↓k_cs, ↓k_cv, ↓k_fi, ↓k_fr, ↓k_ai, ↓k_az, ↓k_ar, ↓k_sai, ↓k_saz, ↓k_soa, ↓k_sof, ↓k_spf, ↓k_sx, ↓k_blk, ↓k_sset, ↓k_sdec, ↓k_sri, ↓k_srv, ↓k_srr, ↓k_nop, ↓k_add, ↓k_sub, ↓k_mul, ↓k_min, ↓k_max, ↓k_shr, ↓k_shl, ↓k_or, ↓k_ilz, ↓k_addl, ↓k_rt, ↓k_rb, ↓k_rbz, ↓k_rsi, ↓k_rsr, ↓k_rsv, ↓reduceIte, ↓cW, hb, ↓xi2_0 ho, ↓xp2_0 ho, ↓xb2_0 ho, ↓xf2_0 ho, ↓xg2_0 ho, ↓xh2_0 ho, List.length_cons, List.length_nil, List.forall_mem_cons, List.not_mem_nil, Value.category, true_and, and_true, false_and, and_false, or_true, true_or, or_false, false_or, Nat.zero_le, forall_const, implies_true, false_implies, Nat.zero_add, Nat.reduceAdd, Nat.reduceLT, Nat.reduceLeDiff, Nat.le_refl, not_true_eq_false, not_false_eq_true, r_eq, r_ne, r_lt, r_ge, r_gt, r_le, bz_ne, nn_toNat, cn_of, cn_0, cn_1, i10, Int.reduceLE, Int.reduceLT, Int.reduceEq, bz_T, bz_F, ite_self, mulc, st_bud]
end
