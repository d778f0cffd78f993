section
/-! a pattern over a piece: c0, e0 the pattern's codes and ends, c, e the tree's -/
def isHo (c : Int) : Prop := 200 ≤ c ∧ c < 1000
/-- the pattern's piece p is so at q -/
def okM (ns c0 e0 c e : Int → Int) : Nat → Int → Int → Prop
  | 0, _, _ => False
  | k + 1, p, q => isHo (c0 p) ∨ (¬ isHo (c0 p) ∧ c0 p = c q ∧ (1000 ≤ c0 p → ∀ i : Nat, (i : Int) < ns (c0 p - 1000) → okM ns c0 e0 c e k (chI e0 p i) (chI e q i)))
/-- what its holes stand for -/
def hlM (ns c0 e0 c e : Int → Int) : Nat → Int → Int → Int → Int → Prop
  | 0, _, _, _, _ => False
  | k + 1, p, q, h, x => (isHo (c0 p) ∧ h = c0 p - 200 ∧ x = q) ∨ (¬ isHo (c0 p) ∧ 1000 ≤ c0 p ∧ ∃ i : Nat, (i : Int) < ns (c0 p - 1000) ∧ hlM ns c0 e0 c e k (chI e0 p i) (chI e q i) h x)
/-- like holes stand for like pieces -/
def Con (c e : Int → Int) (S : Int → Int → Prop) : Prop := ∀ h x y, S h x → S h y → Seg c e c e x y
theorem Seg_rfl (c e : Int → Int) (x : Int) : Seg c e c e x x := ⟨rfl, fun _ _ _ => rfl⟩
theorem Seg_sym {c e : Int → Int} {x y : Int} (h : Seg c e c e x y) : Seg c e c e y x := ⟨h.1.symm, fun z z0 z1 => (h.2 z z0 (by rw [h.1]; exact z1)).symm⟩
theorem Seg_tr {c e : Int → Int} {x y z : Int} (h : Seg c e c e x y) (k : Seg c e c e y z) : Seg c e c e x z := ⟨h.1.trans k.1, fun w w0 w1 => (h.2 w w0 w1).trans (k.2 w w0 (by rw [← h.1]; exact w1))⟩
theorem Con_sub {c e : Int → Int} {S S' : Int → Int → Prop} (h : ∀ a b, S' a b → S a b) (k : Con c e S) : Con c e S' := fun a x y h1 h2 => k a x y (h a x h1) (h a y h2)
/-- what is seen so far, and the row that stands for it: one piece for each hole -/
def SG (g : Int → Int) (n : Int) (S : Int → Int → Prop) : Prop := (∀ h x, S h x → 0 ≤ h ∧ h ≤ 15 ∧ 0 ≤ x ∧ x < n) ∧ ∀ h, 0 ≤ h → h ≤ 15 → (g h = -1 ∧ ∀ x, ¬ S h x) ∨ S h (g h)
/-- one more -/
def S1 (S : Int → Int → Prop) (h0 x0 : Int) : Int → Int → Prop := fun h x => S h x ∨ (h = h0 ∧ x = x0)
theorem SG_new {g : Int → Int} {n : Int} {S : Int → Int → Prop} {h0 x0 : Int} (sg : SG g n S) (b0 : 0 ≤ h0) (b1 : h0 ≤ 15) (x0' : 0 ≤ x0) (x1 : x0 < n) (hg : g h0 = -1) : SG (fu g h0 x0) n (S1 S h0 x0) := by
  refine ⟨fun h x w => ?_, fun h q0 q1 => ?_⟩
  · rcases w with w | ⟨w1, w2⟩
    · exact sg.1 h x w
    · omega
  · rw [fu_at]
    by_cases e : h = h0
    · rw [if_pos e]
      exact Or.inr (Or.inr ⟨e, rfl⟩)
    · rw [if_neg e]
      rcases sg.2 h q0 q1 with ⟨a, b⟩ | a
      · exact Or.inl ⟨a, fun x w => w.elim (b x) (fun w => e w.1)⟩
      · exact Or.inr (Or.inl a)
theorem Con_new {c e g : Int → Int} {n : Int} {S : Int → Int → Prop} {h0 x0 : Int} (sg : SG g n S) (cn : Con c e S) (b0 : 0 ≤ h0) (b1 : h0 ≤ 15) (hg : g h0 = -1) : Con c e (S1 S h0 x0) := by
  have no : ∀ x, ¬ S h0 x := by
    rcases sg.2 h0 b0 b1 with ⟨_, b⟩ | a
    · exact b
    · have := (sg.1 h0 _ a).2.2.1
      omega
  intro h x y w1 w2
  rcases w1 with w1 | ⟨w1, w1'⟩
  · rcases w2 with w2 | ⟨w2, w2'⟩
    · exact cn h x y w1 w2
    · rw [w2] at w1
      exact absurd w1 (no x)
  · rcases w2 with w2 | ⟨w2, w2'⟩
    · rw [w1] at w2
      exact absurd w2 (no y)
    · rw [w1', w2']
      exact Seg_rfl c e x0
theorem SG_old {g : Int → Int} {n : Int} {S : Int → Int → Prop} {h0 x0 : Int} (sg : SG g n S) (b0 : 0 ≤ h0) (b1 : h0 ≤ 15) (x0' : 0 ≤ x0) (x1 : x0 < n) (hg : ¬ g h0 = -1) : S h0 (g h0) ∧ SG g n (S1 S h0 x0) := by
  have s0 : S h0 (g h0) := by
    rcases sg.2 h0 b0 b1 with ⟨a, _⟩ | a
    · exact absurd a hg
    · exact a
  refine ⟨s0, fun h x w => ?_, fun h q0 q1 => ?_⟩
  · rcases w with w | ⟨w1, w2⟩
    · exact sg.1 h x w
    · omega
  · rcases sg.2 h q0 q1 with ⟨a, b⟩ | a
    · refine Or.inl ⟨a, fun x w => ?_⟩
      rcases w with w | ⟨w1, _⟩
      · exact b x w
      · rw [w1] at a
        exact hg a
    · exact Or.inr (Or.inl a)
theorem Con_old {c e : Int → Int} {S : Int → Int → Prop} {h0 x0 y0 : Int} (cn : Con c e S) (s0 : S h0 y0) : Con c e (S1 S h0 x0) ↔ Seg c e c e y0 x0 := by
  constructor
  · intro h
    exact h h0 y0 x0 (Or.inl s0) (Or.inr ⟨rfl, rfl⟩)
  · intro sg h x y w1 w2
    rcases w1 with w1 | ⟨w1, w1'⟩
    · rcases w2 with w2 | ⟨w2, w2'⟩
      · exact cn h x y w1 w2
      · rw [w2] at w1
        rw [w2']
        exact Seg_tr (cn h0 x y0 w1 s0) sg
    · rcases w2 with w2 | ⟨w2, w2'⟩
      · rw [w1] at w2
        rw [w1']
        exact Seg_tr (Seg_sym sg) (cn h0 y0 y s0 w2)
      · rw [w1', w2']
        exact Seg_rfl c e x0
theorem SG_congr {g : Int → Int} {n : Int} {S S' : Int → Int → Prop} (h : ∀ a b, S a b ↔ S' a b) (sg : SG g n S) : SG g n S' := ⟨fun a x w => sg.1 a x ((h a x).mpr w), fun a q0 q1 => (sg.2 a q0 q1).imp (fun z => ⟨z.1, fun x w => z.2 x ((h a x).mpr w)⟩) (fun z => (h _ _).mp z)⟩
/-- S and what the pieces from i on of p hold -/
def SU (S T : Int → Int → Prop) : Int → Int → Prop := fun h x => S h x ∨ T h x
end
section
/-! the class: whether a pattern is so at a piece -/
def MSt (T : Nat → Option q_T) (nx : Nat) (R : Nat → Nat → Option Value) (o t a b : Nat) (at0 p q : Int) (G : Nat → Int → Int) (p' q' : Int) (G' : Nat → Int → Int) : Prop := ∀ (Kn : List Value → q_M → Prop) (Kr : Option Value → q_M → Prop), q_wh wcX10_matches_0 wsX10_matches_0 [.ref o, .ref t, .ref a, .ref b, .int (zI at0), .int (zI q'), .int (zI 1), .int (zI p')] (st T nx 0 0 R G') Kn Kr → q_wh wcX10_matches_0 wsX10_matches_0 [.ref o, .ref t, .ref a, .ref b, .int (zI at0), .int (zI q), .int (zI 1), .int (zI p)] (st T nx 0 0 R G) Kn Kr
def MFa (T : Nat → Option q_T) (nx : Nat) (R : Nat → Nat → Option Value) (o t a b : Nat) (at0 p q : Int) (G : Nat → Int → Int) : Prop := ∃ (p' q' : Int) (G' : Nat → Int → Int), (∀ x, ¬ x = o + 7 → G' x = G x) ∧ ∀ (Kn : List Value → q_M → Prop) (Kr : Option Value → q_M → Prop), Kn [.ref o, .ref t, .ref a, .ref b, .int (zI at0), .int (zI q'), .int (zI 0), .int (zI p')] (st T nx 0 0 R G') → q_wh wcX10_matches_0 wsX10_matches_0 [.ref o, .ref t, .ref a, .ref b, .int (zI at0), .int (zI q), .int (zI 1), .int (zI p)] (st T nx 0 0 R G) Kn Kr
/-- once it isn't fine, the loop ends -/
theorem m_out {T : Nat → Option q_T} {nx o t a b : Nat} {R : Nat → Nat → Option Value} {at0 : Int} {G : Nat → Int → Int} {p q : Int} (oa : Ly T R a (L9 a)) (hp : -2147483648 ≤ p ∧ p < 2147483648) (hn : 0 ≤ G a 2 ∧ G a 2 ≤ 201) (Kn : List Value → q_M → Prop) (Kr : Option Value → q_M → Prop) (h : Kn [.ref o, .ref t, .ref a, .ref b, .int (zI at0), .int (zI q), .int (zI 0), .int (zI p)] (st T nx 0 0 R G)) : q_wh wcX10_matches_0 wsX10_matches_0 [.ref o, .ref t, .ref a, .ref b, .int (zI at0), .int (zI q), .int (zI 0), .int (zI p)] (st T nx 0 0 R G) Kn Kr := by
  refine q_outR (fun Kt Kf hk => ?_) h
  by_cases g : p < G a 2
  · simp (disch := omega) only [↓wcX10_matches_0.eq_1, ↓k_mk, ↓k_sq, ↓k_sk, ↓k_bk, ↓k_if, ↓k_te, ↓k_cm, ↓k_cz, ↓k_an2, ↓k_or2, ↓k_no, ↓k_ci, ↓k_l0, ↓k_r0, ↓k_se0, ↓k_ic0, ↓k_l1, ↓k_r1, ↓k_se1, ↓k_ic1, ↓k_de1, ↓k_tk1, ↓k_l2, ↓k_r2, ↓k_se2, ↓k_ic2, ↓k_de2, ↓k_tk2, ↓k_l3, ↓k_r3, ↓k_se3, ↓k_ic3, ↓k_de3, ↓k_tk3, ↓k_l4, ↓k_r4, ↓k_se4, ↓k_ic4, ↓k_de4, ↓k_tk4, ↓k_l5, ↓k_r5, ↓k_se5, ↓k_ic5, ↓k_de5, ↓k_tk5, ↓k_l6, ↓k_r6, ↓k_se6, ↓k_ic6, ↓k_de6, ↓k_tk6, ↓k_l7, ↓k_r7, ↓k_se7, ↓k_ic7, ↓k_de7, ↓k_tk7, ↓k_l8, ↓k_r8, ↓k_se8, ↓k_ic8, ↓k_de8, ↓k_tk8, ↓k_l9, ↓k_r9, ↓k_se9, ↓k_ic9, ↓k_de9, ↓k_tk9, ↓k_l10, ↓k_r10, ↓k_se10, ↓k_ic10, ↓k_de10, ↓k_tk10, ↓k_l11, ↓k_r11, ↓k_se11, ↓k_ic11, ↓k_de11, ↓k_tk11, ↓k_l12, ↓k_r12, ↓k_se12, ↓k_ic12, ↓k_de12, ↓k_tk12, ↓k_l13, ↓k_r13, ↓k_se13, ↓k_ic13, ↓k_de13, ↓k_tk13, ↓k_l14, ↓k_r14, ↓k_se14, ↓k_ic14, ↓k_de14, ↓k_tk14, ↓k_l15, ↓k_r15, ↓k_se15, ↓k_ic15, ↓k_de15, ↓k_tk15, ↓k_l16, ↓k_r16, ↓k_se16, ↓k_ic16, ↓k_de16, ↓k_tk16, ↓k_l17, ↓k_r17, ↓k_se17, ↓k_ic17, ↓k_de17, ↓k_tk17, ↓k_l18, ↓k_r18, ↓k_se18, ↓k_ic18, ↓k_de18, ↓k_tk18, ↓k_l19, ↓k_r19, ↓k_se19, ↓k_ic19, ↓k_de19, ↓k_tk19, ↓k_l20, ↓k_r20, ↓k_se20, ↓k_ic20, ↓k_de20, ↓k_tk20, ↓k_l21, ↓k_r21, ↓k_se21, ↓k_ic21, ↓k_de21, ↓k_tk21, ↓k_l22, ↓k_r22, ↓k_se22, ↓k_ic22, ↓k_de22, ↓k_tk22, ↓k_l23, ↓k_r23, ↓k_se23, ↓k_ic23, ↓k_de23, ↓k_tk23, ↓k_l24, ↓k_r24, ↓k_se24, ↓k_ic24, ↓k_de24, ↓k_tk24, ↓k_l25, ↓k_r25, ↓k_se25, ↓k_ic25, ↓k_de25, ↓k_tk25, ↓k_k, ↓k_kn, ↓k_kl, ↓k_kln, ↓k_il, ↓k_2, ↓k_1, ↓k_2c, ↓k_2l, ↓k_ac, ↓k_an, ↓k_cs, ↓k_cv, ↓k_fi, ↓k_fr, ↓k_ai, ↓k_az, ↓k_ar, ↓k_sai, ↓k_saz, ↓k_soa, ↓k_sof, ↓k_spf, ↓k_sx, ↓k_blk, ↓k_sset, ↓k_sdec, ↓k_sri, ↓k_srv, ↓k_srr, ↓k_nop, ↓k_add, ↓k_sub, ↓k_mul, ↓k_min, ↓k_max, ↓k_shr, ↓k_shl, ↓k_or, ↓k_ilz, ↓k_addl, ↓k_rt, ↓k_rb, ↓k_rbz, ↓k_rsi, ↓k_rsr, ↓k_rsv, ↓reduceIte, g, ↓xi9_2 oa, ↓xp9_2 oa, ↓xb9_2 oa, ↓xf9_2 oa, ↓xg9_2 oa, ↓xh9_2 oa, List.length_cons, List.length_nil, List.forall_mem_cons, List.not_mem_nil, Value.category, true_and, and_true, false_and, and_false, or_true, true_or, or_false, false_or, Nat.zero_le, forall_const, implies_true, false_implies, Nat.zero_add, Nat.reduceAdd, Nat.reduceLT, Nat.reduceLeDiff, Nat.le_refl, not_true_eq_false, not_false_eq_true, r_eq, r_ne, r_lt, r_ge, r_gt, r_le, bz_ne, nn_toNat, cn_of, cn_0, cn_1, i10, Int.reduceLE, Int.reduceLT, Int.reduceEq, bz_T, bz_F, ite_self, mulc, st_bud]
    exact hk
  · simp (disch := omega) only [↓wcX10_matches_0.eq_1, ↓k_mk, ↓k_sq, ↓k_sk, ↓k_bk, ↓k_if, ↓k_te, ↓k_cm, ↓k_cz, ↓k_an2, ↓k_or2, ↓k_no, ↓k_ci, ↓k_l0, ↓k_r0, ↓k_se0, ↓k_ic0, ↓k_l1, ↓k_r1, ↓k_se1, ↓k_ic1, ↓k_de1, ↓k_tk1, ↓k_l2, ↓k_r2, ↓k_se2, ↓k_ic2, ↓k_de2, ↓k_tk2, ↓k_l3, ↓k_r3, ↓k_se3, ↓k_ic3, ↓k_de3, ↓k_tk3, ↓k_l4, ↓k_r4, ↓k_se4, ↓k_ic4, ↓k_de4, ↓k_tk4, ↓k_l5, ↓k_r5, ↓k_se5, ↓k_ic5, ↓k_de5, ↓k_tk5, ↓k_l6, ↓k_r6, ↓k_se6, ↓k_ic6, ↓k_de6, ↓k_tk6, ↓k_l7, ↓k_r7, ↓k_se7, ↓k_ic7, ↓k_de7, ↓k_tk7, ↓k_l8, ↓k_r8, ↓k_se8, ↓k_ic8, ↓k_de8, ↓k_tk8, ↓k_l9, ↓k_r9, ↓k_se9, ↓k_ic9, ↓k_de9, ↓k_tk9, ↓k_l10, ↓k_r10, ↓k_se10, ↓k_ic10, ↓k_de10, ↓k_tk10, ↓k_l11, ↓k_r11, ↓k_se11, ↓k_ic11, ↓k_de11, ↓k_tk11, ↓k_l12, ↓k_r12, ↓k_se12, ↓k_ic12, ↓k_de12, ↓k_tk12, ↓k_l13, ↓k_r13, ↓k_se13, ↓k_ic13, ↓k_de13, ↓k_tk13, ↓k_l14, ↓k_r14, ↓k_se14, ↓k_ic14, ↓k_de14, ↓k_tk14, ↓k_l15, ↓k_r15, ↓k_se15, ↓k_ic15, ↓k_de15, ↓k_tk15, ↓k_l16, ↓k_r16, ↓k_se16, ↓k_ic16, ↓k_de16, ↓k_tk16, ↓k_l17, ↓k_r17, ↓k_se17, ↓k_ic17, ↓k_de17, ↓k_tk17, ↓k_l18, ↓k_r18, ↓k_se18, ↓k_ic18, ↓k_de18, ↓k_tk18, ↓k_l19, ↓k_r19, ↓k_se19, ↓k_ic19, ↓k_de19, ↓k_tk19, ↓k_l20, ↓k_r20, ↓k_se20, ↓k_ic20, ↓k_de20, ↓k_tk20, ↓k_l21, ↓k_r21, ↓k_se21, ↓k_ic21, ↓k_de21, ↓k_tk21, ↓k_l22, ↓k_r22, ↓k_se22, ↓k_ic22, ↓k_de22, ↓k_tk22, ↓k_l23, ↓k_r23, ↓k_se23, ↓k_ic23, ↓k_de23, ↓k_tk23, ↓k_l24, ↓k_r24, ↓k_se24, ↓k_ic24, ↓k_de24, ↓k_tk24, ↓k_l25, ↓k_r25, ↓k_se25, ↓k_ic25, ↓k_de25, ↓k_tk25, ↓k_k, ↓k_kn, ↓k_kl, ↓k_kln, ↓k_il, ↓k_2, ↓k_1, ↓k_2c, ↓k_2l, ↓k_ac, ↓k_an, ↓k_cs, ↓k_cv, ↓k_fi, ↓k_fr, ↓k_ai, ↓k_az, ↓k_ar, ↓k_sai, ↓k_saz, ↓k_soa, ↓k_sof, ↓k_spf, ↓k_sx, ↓k_blk, ↓k_sset, ↓k_sdec, ↓k_sri, ↓k_srv, ↓k_srr, ↓k_nop, ↓k_add, ↓k_sub, ↓k_mul, ↓k_min, ↓k_max, ↓k_shr, ↓k_shl, ↓k_or, ↓k_ilz, ↓k_addl, ↓k_rt, ↓k_rb, ↓k_rbz, ↓k_rsi, ↓k_rsr, ↓k_rsv, ↓reduceIte, g, ↓xi9_2 oa, ↓xp9_2 oa, ↓xb9_2 oa, ↓xf9_2 oa, ↓xg9_2 oa, ↓xh9_2 oa, List.length_cons, List.length_nil, List.forall_mem_cons, List.not_mem_nil, Value.category, true_and, and_true, false_and, and_false, or_true, true_or, or_false, false_or, Nat.zero_le, forall_const, implies_true, false_implies, Nat.zero_add, Nat.reduceAdd, Nat.reduceLT, Nat.reduceLeDiff, Nat.le_refl, not_true_eq_false, not_false_eq_true, r_eq, r_ne, r_lt, r_ge, r_gt, r_le, bz_ne, nn_toNat, cn_of, cn_0, cn_1, i10, Int.reduceLE, Int.reduceLT, Int.reduceEq, bz_T, bz_F, ite_self, mulc, st_bud]
    exact hk
theorem m_piece {T : Nat → Option q_T} {nx o t a b : Nat} {R : Nat → Nat → Option Value} {G0 : Nat → Int → Int} {ha hb Fa Fb at0 : Int} {Ia Ib : Int → Int} (oT : Ly T R o (L10 o)) (o8 : Ly T R t (L8 t)) (oa : Ly T R a (L9 a)) (ob : Ly T R b (L9 b)) (hoa : ¬ (a ≤ o + 7 ∧ o + 7 < a + 10)) (hob : ¬ (b ≤ o + 7 ∧ o + 7 < b + 10)) (hot : ¬ (t ≤ o + 7 ∧ o + 7 < t + 14)) (kA : Tr ha Fa (G0 (t + 5)) Ia (G0 a 2) (G0 a 3) (G0 a 4) (G0 (a + 1)) (G0 (a + 2)) (G0 (a + 3)) (G0 (a + 4)) (G0 (a + 6)) (G0 (a + 7)) (G0 (a + 8))) (kB : Tr hb Fb (G0 (t + 5)) Ib (G0 b 2) (G0 b 3) (G0 b 4) (G0 (b + 1)) (G0 (b + 2)) (G0 (b + 3)) (G0 (b + 4)) (G0 (b + 6)) (G0 (b + 7)) (G0 (b + 8))) (ca : ∀ q, 0 ≤ q → q < G0 a 2 → 20 ≤ G0 (a + 1) q ∧ G0 (a + 1) q ≤ 1013) (cb : ∀ q, 0 ≤ q → q < G0 b 2 → 20 ≤ G0 (b + 1) q ∧ G0 (b + 1) q ≤ 1013) (la : ∀ q, 0 ≤ q → q < G0 a 2 → ¬ 1000 ≤ G0 (a + 1) q → isLf (G0 (a + 1) q)) : ∀ (k : Nat) (p q : Int) (G : Nat → Int → Int) (S : Int → Int → Prop), 0 ≤ p → p < G0 a 2 → G0 (a + 2) p - p ≤ k → 0 ≤ q → q < G0 b 2 → (∀ x, ¬ x = o + 7 → G x = G0 x) → SG (G (o + 7)) (G0 b 2) S → Con (G0 (b + 1)) (G0 (b + 2)) S →
    (okM (G0 (t + 5)) (G0 (a + 1)) (G0 (a + 2)) (G0 (b + 1)) (G0 (b + 2)) k p q ∧ Con (G0 (b + 1)) (G0 (b + 2)) (SU S (hlM (G0 (t + 5)) (G0 (a + 1)) (G0 (a + 2)) (G0 (b + 1)) (G0 (b + 2)) k p q)) ∧ ∃ G', (∀ x, ¬ x = o + 7 → G' x = G0 x) ∧ SG (G' (o + 7)) (G0 b 2) (SU S (hlM (G0 (t + 5)) (G0 (a + 1)) (G0 (a + 2)) (G0 (b + 1)) (G0 (b + 2)) k p q)) ∧ MSt T nx R o t a b at0 p q G (G0 (a + 2) p) (G0 (b + 2) q) G') ∨ (¬ (okM (G0 (t + 5)) (G0 (a + 1)) (G0 (a + 2)) (G0 (b + 1)) (G0 (b + 2)) k p q ∧ Con (G0 (b + 1)) (G0 (b + 2)) (SU S (hlM (G0 (t + 5)) (G0 (a + 1)) (G0 (a + 2)) (G0 (b + 1)) (G0 (b + 2)) k p q))) ∧ MFa T nx R o t a b at0 p q G) := by
  intro k
  induction k with
  | zero =>
    intro p q G S p0 p1 hk
    have := kA.2.1 p p0 p1
    omega
  | succ k ih =>
    intro p q G S p0 p1 hk q0 q1 fr sg cn
    have pe := kA.2.1 p p0 p1
    have qe := kB.2.1 q q0 q1
    have na := kA.1.2.1
    have nb' := kB.1.2.1
    obtain ⟨cp, hcp⟩ : ∃ cp, cp = G0 (a + 1) p := ⟨_, rfl⟩
    obtain ⟨cq, hcq⟩ : ∃ cq, cq = G0 (b + 1) q := ⟨_, rfl⟩
    have cpb := ca p p0 p1
    have cqb := cb q q0 q1
    rw [← hcp] at cpb
    rw [← hcq] at cqb
    have fa : ∀ x, a ≤ x → x < a + 10 → G x = G0 x := fun x z1 z2 => fr x (by omega)
    have fb : ∀ x, b ≤ x → x < b + 10 → G x = G0 x := fun x z1 z2 => fr x (by omega)
    have g1 : G (a + 1) p = cp := by rw [fa _ (by omega) (by omega)]; exact hcp.symm
    have g2 : G (b + 1) q = cq := by rw [fb _ (by omega) (by omega)]; exact hcq.symm
    have g3 : G a 2 = G0 a 2 := by rw [fa _ (by omega) (by omega)]
    have hp : p < G a 2 := by rw [g3]; exact p1
    have hpn : G a 2 ≤ 201 := by rw [g3]; exact na
    have g4 : G (b + 2) q = G0 (b + 2) q := by rw [fb _ (by omega) (by omega)]
    by_cases ho : 200 ≤ cp ∧ cp < 1000
    · -- a hole
      have lf : isLf cp := by rw [hcp]; exact la p p0 p1 (by omega)
      have hh : 200 ≤ cp ∧ cp < 216 := by unfold isLf at lf; omega
      have el := (kA.2.2.2.2.1 p p0 p1 (by omega)).2
      have ok : okM (G0 (t + 5)) (G0 (a + 1)) (G0 (a + 2)) (G0 (b + 1)) (G0 (b + 2)) (k + 1) p q := Or.inl (by unfold isHo; rw [← hcp]; exact ho)
      have hl : ∀ h x, SU S (hlM (G0 (t + 5)) (G0 (a + 1)) (G0 (a + 2)) (G0 (b + 1)) (G0 (b + 2)) (k + 1) p q) h x ↔ S1 S (cp - 200) q h x := fun h x => by
        constructor
        · intro w
          rcases w with w | w | w
          · exact Or.inl w
          · exact Or.inr ⟨by rw [hcp]; exact w.2.1, w.2.2⟩
          · exact absurd (by unfold isHo; rw [← hcp]; exact ho) w.1
        · intro w
          rcases w with w | w
          · exact Or.inl w
          · exact Or.inr (Or.inl ⟨by unfold isHo; rw [← hcp]; exact ho, by rw [← hcp]; exact w.1, w.2⟩)
      obtain ⟨hn, hhn⟩ : ∃ hn, hn = cp - 200 := ⟨_, rfl⟩
      rw [← hhn] at hl
      have hb0 : 0 ≤ hn ∧ hn ≤ 15 := by omega
      have sB : G (o + 7) hn = -1 ∨ (0 ≤ G (o + 7) hn ∧ G (o + 7) hn < G0 b 2) := by
        rcases sg.2 hn hb0.1 hb0.2 with ⟨z, _⟩ | z
        · exact Or.inl z
        · exact Or.inr (sg.1 _ _ z).2.2
      have s9 : ∀ (f : Int), ∀ (Kn : List Value → q_M → Prop) (Kr : Option Value → q_M → Prop), q_sdec Value.int 9 (q_2 q_gisub (q_l 8) (q_k 200)) [.ref o, .ref t, .ref a, .ref b, .int (zI at0), .int (zI q), .int (zI f), .int (zI p), .int (zI cp)] (st T nx 0 0 R G) Kn Kr = Kn [.ref o, .ref t, .ref a, .ref b, .int (zI at0), .int (zI q), .int (zI f), .int (zI p), .int (zI cp), .int (zI hn)] (st T nx 0 0 R G) := by
        intro f Kn Kr
        simp (disch := omega) only [↓k_mk, ↓k_sq, ↓k_sk, ↓k_bk, ↓k_if, ↓k_te, ↓k_cm, ↓k_cz, ↓k_an2, ↓k_or2, ↓k_no, ↓k_ci, ↓k_l0, ↓k_r0, ↓k_se0, ↓k_ic0, ↓k_l1, ↓k_r1, ↓k_se1, ↓k_ic1, ↓k_de1, ↓k_tk1, ↓k_l2, ↓k_r2, ↓k_se2, ↓k_ic2, ↓k_de2, ↓k_tk2, ↓k_l3, ↓k_r3, ↓k_se3, ↓k_ic3, ↓k_de3, ↓k_tk3, ↓k_l4, ↓k_r4, ↓k_se4, ↓k_ic4, ↓k_de4, ↓k_tk4, ↓k_l5, ↓k_r5, ↓k_se5, ↓k_ic5, ↓k_de5, ↓k_tk5, ↓k_l6, ↓k_r6, ↓k_se6, ↓k_ic6, ↓k_de6, ↓k_tk6, ↓k_l7, ↓k_r7, ↓k_se7, ↓k_ic7, ↓k_de7, ↓k_tk7, ↓k_l8, ↓k_r8, ↓k_se8, ↓k_ic8, ↓k_de8, ↓k_tk8, ↓k_l9, ↓k_r9, ↓k_se9, ↓k_ic9, ↓k_de9, ↓k_tk9, ↓k_l10, ↓k_r10, ↓k_se10, ↓k_ic10, ↓k_de10, ↓k_tk10, ↓k_l11, ↓k_r11, ↓k_se11, ↓k_ic11, ↓k_de11, ↓k_tk11, ↓k_l12, ↓k_r12, ↓k_se12, ↓k_ic12, ↓k_de12, ↓k_tk12, ↓k_l13, ↓k_r13, ↓k_se13, ↓k_ic13, ↓k_de13, ↓k_tk13, ↓k_l14, ↓k_r14, ↓k_se14, ↓k_ic14, ↓k_de14, ↓k_tk14, ↓k_l15, ↓k_r15, ↓k_se15, ↓k_ic15, ↓k_de15, ↓k_tk15, ↓k_l16, ↓k_r16, ↓k_se16, ↓k_ic16, ↓k_de16, ↓k_tk16, ↓k_l17, ↓k_r17, ↓k_se17, ↓k_ic17, ↓k_de17, ↓k_tk17, ↓k_l18, ↓k_r18, ↓k_se18, ↓k_ic18, ↓k_de18, ↓k_tk18, ↓k_l19, ↓k_r19, ↓k_se19, ↓k_ic19, ↓k_de19, ↓k_tk19, ↓k_l20, ↓k_r20, ↓k_se20, ↓k_ic20, ↓k_de20, ↓k_tk20, ↓k_l21, ↓k_r21, ↓k_se21, ↓k_ic21, ↓k_de21, ↓k_tk21, ↓k_l22, ↓k_r22, ↓k_se22, ↓k_ic22, ↓k_de22, ↓k_tk22, ↓k_l23, ↓k_r23, ↓k_se23, ↓k_ic23, ↓k_de23, ↓k_tk23, ↓k_l24, ↓k_r24, ↓k_se24, ↓k_ic24, ↓k_de24, ↓k_tk24, ↓k_l25, ↓k_r25, ↓k_se25, ↓k_ic25, ↓k_de25, ↓k_tk25, ↓k_k, ↓k_kn, ↓k_kl, ↓k_kln, ↓k_il, ↓k_2, ↓k_1, ↓k_2c, ↓k_2l, ↓k_ac, ↓k_an, ↓k_cs, ↓k_cv, ↓k_fi, ↓k_fr, ↓k_ai, ↓k_az, ↓k_ar, ↓k_sai, ↓k_saz, ↓k_soa, ↓k_sof, ↓k_spf, ↓k_sx, ↓k_blk, ↓k_sset, ↓k_sdec, ↓k_sri, ↓k_srv, ↓k_srr, ↓k_nop, ↓k_add, ↓k_sub, ↓k_mul, ↓k_min, ↓k_max, ↓k_shr, ↓k_shl, ↓k_or, ↓k_ilz, ↓k_addl, ↓k_rt, ↓k_rb, ↓k_rbz, ↓k_rsi, ↓k_rsr, ↓k_rsv, ↓reduceIte, hhn, List.length_cons, List.length_nil, List.forall_mem_cons, List.not_mem_nil, Value.category, true_and, and_true, false_and, and_false, or_true, true_or, or_false, false_or, Nat.zero_le, forall_const, implies_true, false_implies, Nat.zero_add, Nat.reduceAdd, Nat.reduceLT, Nat.reduceLeDiff, Nat.le_refl, not_true_eq_false, not_false_eq_true, r_eq, r_ne, r_lt, r_ge, r_gt, r_le, bz_ne, nn_toNat, cn_of, cn_0, cn_1, i10, Int.reduceLE, Int.reduceLT, Int.reduceEq, bz_T, bz_F, ite_self, mulc, st_bud]
      have s8 : ∀ (Kn : List Value → q_M → Prop) (Kr : Option Value → q_M → Prop), q_sdec Value.int 8 (q_ai (q_fr 9 5 (q_r 2)) (q_l 7)) [.ref o, .ref t, .ref a, .ref b, .int (zI at0), .int (zI q), .int (zI 1), .int (zI p)] (st T nx 0 0 R G) Kn Kr = Kn [.ref o, .ref t, .ref a, .ref b, .int (zI at0), .int (zI q), .int (zI 1), .int (zI p), .int (zI cp)] (st T nx 0 0 R G) := by
        intro Kn Kr
        simp (disch := omega) only [↓k_mk, ↓k_sq, ↓k_sk, ↓k_bk, ↓k_if, ↓k_te, ↓k_cm, ↓k_cz, ↓k_an2, ↓k_or2, ↓k_no, ↓k_ci, ↓k_l0, ↓k_r0, ↓k_se0, ↓k_ic0, ↓k_l1, ↓k_r1, ↓k_se1, ↓k_ic1, ↓k_de1, ↓k_tk1, ↓k_l2, ↓k_r2, ↓k_se2, ↓k_ic2, ↓k_de2, ↓k_tk2, ↓k_l3, ↓k_r3, ↓k_se3, ↓k_ic3, ↓k_de3, ↓k_tk3, ↓k_l4, ↓k_r4, ↓k_se4, ↓k_ic4, ↓k_de4, ↓k_tk4, ↓k_l5, ↓k_r5, ↓k_se5, ↓k_ic5, ↓k_de5, ↓k_tk5, ↓k_l6, ↓k_r6, ↓k_se6, ↓k_ic6, ↓k_de6, ↓k_tk6, ↓k_l7, ↓k_r7, ↓k_se7, ↓k_ic7, ↓k_de7, ↓k_tk7, ↓k_l8, ↓k_r8, ↓k_se8, ↓k_ic8, ↓k_de8, ↓k_tk8, ↓k_l9, ↓k_r9, ↓k_se9, ↓k_ic9, ↓k_de9, ↓k_tk9, ↓k_l10, ↓k_r10, ↓k_se10, ↓k_ic10, ↓k_de10, ↓k_tk10, ↓k_l11, ↓k_r11, ↓k_se11, ↓k_ic11, ↓k_de11, ↓k_tk11, ↓k_l12, ↓k_r12, ↓k_se12, ↓k_ic12, ↓k_de12, ↓k_tk12, ↓k_l13, ↓k_r13, ↓k_se13, ↓k_ic13, ↓k_de13, ↓k_tk13, ↓k_l14, ↓k_r14, ↓k_se14, ↓k_ic14, ↓k_de14, ↓k_tk14, ↓k_l15, ↓k_r15, ↓k_se15, ↓k_ic15, ↓k_de15, ↓k_tk15, ↓k_l16, ↓k_r16, ↓k_se16, ↓k_ic16, ↓k_de16, ↓k_tk16, ↓k_l17, ↓k_r17, ↓k_se17, ↓k_ic17, ↓k_de17, ↓k_tk17, ↓k_l18, ↓k_r18, ↓k_se18, ↓k_ic18, ↓k_de18, ↓k_tk18, ↓k_l19, ↓k_r19, ↓k_se19, ↓k_ic19, ↓k_de19, ↓k_tk19, ↓k_l20, ↓k_r20, ↓k_se20, ↓k_ic20, ↓k_de20, ↓k_tk20, ↓k_l21, ↓k_r21, ↓k_se21, ↓k_ic21, ↓k_de21, ↓k_tk21, ↓k_l22, ↓k_r22, ↓k_se22, ↓k_ic22, ↓k_de22, ↓k_tk22, ↓k_l23, ↓k_r23, ↓k_se23, ↓k_ic23, ↓k_de23, ↓k_tk23, ↓k_l24, ↓k_r24, ↓k_se24, ↓k_ic24, ↓k_de24, ↓k_tk24, ↓k_l25, ↓k_r25, ↓k_se25, ↓k_ic25, ↓k_de25, ↓k_tk25, ↓k_k, ↓k_kn, ↓k_kl, ↓k_kln, ↓k_il, ↓k_2, ↓k_1, ↓k_2c, ↓k_2l, ↓k_ac, ↓k_an, ↓k_cs, ↓k_cv, ↓k_fi, ↓k_fr, ↓k_ai, ↓k_az, ↓k_ar, ↓k_sai, ↓k_saz, ↓k_soa, ↓k_sof, ↓k_spf, ↓k_sx, ↓k_blk, ↓k_sset, ↓k_sdec, ↓k_sri, ↓k_srv, ↓k_srr, ↓k_nop, ↓k_add, ↓k_sub, ↓k_mul, ↓k_min, ↓k_max, ↓k_shr, ↓k_shl, ↓k_or, ↓k_ilz, ↓k_addl, ↓k_rt, ↓k_rb, ↓k_rbz, ↓k_rsi, ↓k_rsr, ↓k_rsv, ↓reduceIte, g1, ↓xr9_5 oa, ↓xa9_5 oa, ↓xs9_5 oa, ↓xo9_5 oa, ↓xc9_5 oa, ↓xd9_5 oa, List.length_cons, List.length_nil, List.forall_mem_cons, List.not_mem_nil, Value.category, true_and, and_true, false_and, and_false, or_true, true_or, or_false, false_or, Nat.zero_le, forall_const, implies_true, false_implies, Nat.zero_add, Nat.reduceAdd, Nat.reduceLT, Nat.reduceLeDiff, Nat.le_refl, not_true_eq_false, not_false_eq_true, r_eq, r_ne, r_lt, r_ge, r_gt, r_le, bz_ne, nn_toNat, cn_of, cn_0, cn_1, i10, Int.reduceLE, Int.reduceLT, Int.reduceEq, bz_T, bz_F, ite_self, mulc, st_bud]
      by_cases z : G (o + 7) hn = -1
      · refine Or.inl ⟨ok, Con_sub (fun h x w => (hl h x).mp w) (Con_new sg cn hb0.1 hb0.2 z), gs G (o + 7) hn q, fun x w => by rw [gs_ne w, fr x w], ?_, fun Kn Kr h => q_backR (fun K Kf hk2 => ?_) h⟩
        · rw [gs_eq]
          exact SG_congr (fun h x => (hl h x).symm) (SG_new sg hb0.1 hb0.2 q0 q1 z)
        · rw [el] at hk2
          have g5 : gs G (o + 7) hn q (b + 2) q = G0 (b + 2) q := by rw [gs_ne (by omega)]; exact g4
          simp (disch := omega) only [↓wcX10_matches_0.eq_1, ↓wsX10_matches_0.eq_1, ↓(k_cs1 dX11_isHole), ↓(k_cs4 dX9_alike), ↓k_mk, ↓k_sq, ↓k_sk, ↓k_bk, ↓k_if, ↓k_te, ↓k_cm, ↓k_cz, ↓k_an2, ↓k_or2, ↓k_no, ↓k_ci, ↓k_l0, ↓k_r0, ↓k_se0, ↓k_ic0, ↓k_l1, ↓k_r1, ↓k_se1, ↓k_ic1, ↓k_de1, ↓k_tk1, ↓k_l2, ↓k_r2, ↓k_se2, ↓k_ic2, ↓k_de2, ↓k_tk2, ↓k_l3, ↓k_r3, ↓k_se3, ↓k_ic3, ↓k_de3, ↓k_tk3, ↓k_l4, ↓k_r4, ↓k_se4, ↓k_ic4, ↓k_de4, ↓k_tk4, ↓k_l5, ↓k_r5, ↓k_se5, ↓k_ic5, ↓k_de5, ↓k_tk5, ↓k_l6, ↓k_r6, ↓k_se6, ↓k_ic6, ↓k_de6, ↓k_tk6, ↓k_l7, ↓k_r7, ↓k_se7, ↓k_ic7, ↓k_de7, ↓k_tk7, ↓k_l8, ↓k_r8, ↓k_se8, ↓k_ic8, ↓k_de8, ↓k_tk8, ↓k_l9, ↓k_r9, ↓k_se9, ↓k_ic9, ↓k_de9, ↓k_tk9, ↓k_l10, ↓k_r10, ↓k_se10, ↓k_ic10, ↓k_de10, ↓k_tk10, ↓k_l11, ↓k_r11, ↓k_se11, ↓k_ic11, ↓k_de11, ↓k_tk11, ↓k_l12, ↓k_r12, ↓k_se12, ↓k_ic12, ↓k_de12, ↓k_tk12, ↓k_l13, ↓k_r13, ↓k_se13, ↓k_ic13, ↓k_de13, ↓k_tk13, ↓k_l14, ↓k_r14, ↓k_se14, ↓k_ic14, ↓k_de14, ↓k_tk14, ↓k_l15, ↓k_r15, ↓k_se15, ↓k_ic15, ↓k_de15, ↓k_tk15, ↓k_l16, ↓k_r16, ↓k_se16, ↓k_ic16, ↓k_de16, ↓k_tk16, ↓k_l17, ↓k_r17, ↓k_se17, ↓k_ic17, ↓k_de17, ↓k_tk17, ↓k_l18, ↓k_r18, ↓k_se18, ↓k_ic18, ↓k_de18, ↓k_tk18, ↓k_l19, ↓k_r19, ↓k_se19, ↓k_ic19, ↓k_de19, ↓k_tk19, ↓k_l20, ↓k_r20, ↓k_se20, ↓k_ic20, ↓k_de20, ↓k_tk20, ↓k_l21, ↓k_r21, ↓k_se21, ↓k_ic21, ↓k_de21, ↓k_tk21, ↓k_l22, ↓k_r22, ↓k_se22, ↓k_ic22, ↓k_de22, ↓k_tk22, ↓k_l23, ↓k_r23, ↓k_se23, ↓k_ic23, ↓k_de23, ↓k_tk23, ↓k_l24, ↓k_r24, ↓k_se24, ↓k_ic24, ↓k_de24, ↓k_tk24, ↓k_l25, ↓k_r25, ↓k_se25, ↓k_ic25, ↓k_de25, ↓k_tk25, ↓k_k, ↓k_kn, ↓k_kl, ↓k_kln, ↓k_il, ↓k_2, ↓k_1, ↓k_2c, ↓k_2l, ↓k_ac, ↓k_an, ↓k_cs, ↓k_cv, ↓k_fi, ↓k_fr, ↓k_ai, ↓k_az, ↓k_ar, ↓k_sai, ↓k_saz, ↓k_soa, ↓k_sof, ↓k_spf, ↓k_sx, ↓k_blk, ↓k_sset, ↓k_sri, ↓k_srv, ↓k_srr, ↓k_nop, ↓k_add, ↓k_sub, ↓k_mul, ↓k_min, ↓k_max, ↓k_shr, ↓k_shl, ↓k_or, ↓k_ilz, ↓k_addl, ↓k_rt, ↓k_rb, ↓k_rbz, ↓k_rsi, ↓k_rsr, ↓k_rsv, ↓reduceIte, hp, ↓s8, ↓(k_cs1 dX11_isHole), ↓c11_isHole, hh, ↓s9, z, eq_self, g5, ↓xi9_2 oa, ↓xp9_2 oa, ↓xb9_2 oa, ↓xf9_2 oa, ↓xg9_2 oa, ↓xh9_2 oa, ↓xr9_6 ob, ↓xa9_6 ob, ↓xs9_6 ob, ↓xo9_6 ob, ↓xc9_6 ob, ↓xd9_6 ob, ↓xr10_9 oT, ↓xa10_9 oT, ↓xs10_9 oT, ↓xo10_9 oT, ↓xc10_9 oT, ↓xd10_9 oT, List.length_cons, List.length_nil, List.forall_mem_cons, List.not_mem_nil, Value.category, true_and, and_true, false_and, and_false, or_true, true_or, or_false, false_or, Nat.zero_le, forall_const, implies_true, false_implies, Nat.zero_add, Nat.reduceAdd, Nat.reduceLT, Nat.reduceLeDiff, Nat.le_refl, not_true_eq_false, not_false_eq_true, r_eq, r_ne, r_lt, r_ge, r_gt, r_le, bz_ne, nn_toNat, cn_of, cn_0, cn_1, i10, Int.reduceLE, Int.reduceLT, Int.reduceEq, bz_T, bz_F, ite_self, mulc, st_bud]
          exact hk2
      · obtain ⟨s0, sg'⟩ := SG_old (x0 := q) sg hb0.1 hb0.2 q0 q1 z
        have sx := sB.resolve_left z
        obtain ⟨y, hy⟩ : ∃ y, y = G (o + 7) hn := ⟨_, rfl⟩
        have hy' := hy.symm
        rw [← hy] at s0 sx z
        have ye := kB.2.1 y sx.1 sx.2
        have e2 : G (b + 2) = G0 (b + 2) := fb _ (by omega) (by omega)
        have e1 : G (b + 1) = G0 (b + 1) := fb _ (by omega) (by omega)
        obtain ⟨r, hr, cA⟩ := c9_alike (T := T) (nx := nx) (rc := 0) (rs := 0) (R := R) (G := G) (a := b) (b := b) (p := y) (q := q) ob ob sx.1 (by rw [e2]; omega) (by rw [e2]; omega) q0 (by rw [e2]; omega) (by rw [e2]; omega) (fun x x0 x1 x2 => by rw [e2] at x2; rw [e1]; exact cb x x0 (by omega)) (fun x x0 x1 x2 => by rw [e2] at x2; rw [e1]; exact cb x x0 (by omega))
        rw [e1, e2] at hr
        have co := Con_old (x0 := q) cn s0
        have coe : Con (G0 (b + 1)) (G0 (b + 2)) (SU S (hlM (G0 (t + 5)) (G0 (a + 1)) (G0 (a + 2)) (G0 (b + 1)) (G0 (b + 2)) (k + 1) p q)) ↔ Seg (G0 (b + 1)) (G0 (b + 2)) (G0 (b + 1)) (G0 (b + 2)) y q := by
          rw [← co]
          exact ⟨Con_sub (fun h x w => (hl h x).mpr w), Con_sub (fun h x w => (hl h x).mp w)⟩
        have cA' : ∀ K : Option Value → q_M → Prop, fX9_alike [.ref b, .int (zI (G (o + 7) hn)), .ref b, .int (zI q)] (st T nx 0 0 R G) K = K (some (.int (zI r))) (st T nx 0 0 R G) := by rw [hy']; exact cA
        have gid : gs G (o + 7) hn y = G := gs_id hy'
        rcases hr with ⟨r1, sgm⟩ | ⟨r1, sgm⟩
        · subst r1
          refine Or.inl ⟨ok, coe.mpr sgm, G, fr, SG_congr (fun h x => (hl h x).symm) sg', fun Kn Kr h => q_backR (fun K Kf hk2 => ?_) h⟩
          rw [el] at hk2
          simp (disch := omega) only [↓wcX10_matches_0.eq_1, ↓wsX10_matches_0.eq_1, ↓(k_cs1 dX11_isHole), ↓(k_cs4 dX9_alike), ↓k_mk, ↓k_sq, ↓k_sk, ↓k_bk, ↓k_if, ↓k_te, ↓k_cm, ↓k_cz, ↓k_an2, ↓k_or2, ↓k_no, ↓k_ci, ↓k_l0, ↓k_r0, ↓k_se0, ↓k_ic0, ↓k_l1, ↓k_r1, ↓k_se1, ↓k_ic1, ↓k_de1, ↓k_tk1, ↓k_l2, ↓k_r2, ↓k_se2, ↓k_ic2, ↓k_de2, ↓k_tk2, ↓k_l3, ↓k_r3, ↓k_se3, ↓k_ic3, ↓k_de3, ↓k_tk3, ↓k_l4, ↓k_r4, ↓k_se4, ↓k_ic4, ↓k_de4, ↓k_tk4, ↓k_l5, ↓k_r5, ↓k_se5, ↓k_ic5, ↓k_de5, ↓k_tk5, ↓k_l6, ↓k_r6, ↓k_se6, ↓k_ic6, ↓k_de6, ↓k_tk6, ↓k_l7, ↓k_r7, ↓k_se7, ↓k_ic7, ↓k_de7, ↓k_tk7, ↓k_l8, ↓k_r8, ↓k_se8, ↓k_ic8, ↓k_de8, ↓k_tk8, ↓k_l9, ↓k_r9, ↓k_se9, ↓k_ic9, ↓k_de9, ↓k_tk9, ↓k_l10, ↓k_r10, ↓k_se10, ↓k_ic10, ↓k_de10, ↓k_tk10, ↓k_l11, ↓k_r11, ↓k_se11, ↓k_ic11, ↓k_de11, ↓k_tk11, ↓k_l12, ↓k_r12, ↓k_se12, ↓k_ic12, ↓k_de12, ↓k_tk12, ↓k_l13, ↓k_r13, ↓k_se13, ↓k_ic13, ↓k_de13, ↓k_tk13, ↓k_l14, ↓k_r14, ↓k_se14, ↓k_ic14, ↓k_de14, ↓k_tk14, ↓k_l15, ↓k_r15, ↓k_se15, ↓k_ic15, ↓k_de15, ↓k_tk15, ↓k_l16, ↓k_r16, ↓k_se16, ↓k_ic16, ↓k_de16, ↓k_tk16, ↓k_l17, ↓k_r17, ↓k_se17, ↓k_ic17, ↓k_de17, ↓k_tk17, ↓k_l18, ↓k_r18, ↓k_se18, ↓k_ic18, ↓k_de18, ↓k_tk18, ↓k_l19, ↓k_r19, ↓k_se19, ↓k_ic19, ↓k_de19, ↓k_tk19, ↓k_l20, ↓k_r20, ↓k_se20, ↓k_ic20, ↓k_de20, ↓k_tk20, ↓k_l21, ↓k_r21, ↓k_se21, ↓k_ic21, ↓k_de21, ↓k_tk21, ↓k_l22, ↓k_r22, ↓k_se22, ↓k_ic22, ↓k_de22, ↓k_tk22, ↓k_l23, ↓k_r23, ↓k_se23, ↓k_ic23, ↓k_de23, ↓k_tk23, ↓k_l24, ↓k_r24, ↓k_se24, ↓k_ic24, ↓k_de24, ↓k_tk24, ↓k_l25, ↓k_r25, ↓k_se25, ↓k_ic25, ↓k_de25, ↓k_tk25, ↓k_k, ↓k_kn, ↓k_kl, ↓k_kln, ↓k_il, ↓k_2, ↓k_1, ↓k_2c, ↓k_2l, ↓k_ac, ↓k_an, ↓k_cs, ↓k_cv, ↓k_fi, ↓k_fr, ↓k_ai, ↓k_az, ↓k_ar, ↓k_sai, ↓k_saz, ↓k_soa, ↓k_sof, ↓k_spf, ↓k_sx, ↓k_blk, ↓k_sset, ↓k_sri, ↓k_srv, ↓k_srr, ↓k_nop, ↓k_add, ↓k_sub, ↓k_mul, ↓k_min, ↓k_max, ↓k_shr, ↓k_shl, ↓k_or, ↓k_ilz, ↓k_addl, ↓k_rt, ↓k_rb, ↓k_rbz, ↓k_rsi, ↓k_rsr, ↓k_rsv, ↓reduceIte, hp, ↓s8, ↓(k_cs1 dX11_isHole), ↓c11_isHole, hh, ↓s9, hy', z, ↓(k_cs4 dX9_alike), ↓cA', ↓cA, eq_self, gid, g4, ↓xi9_2 oa, ↓xp9_2 oa, ↓xb9_2 oa, ↓xf9_2 oa, ↓xg9_2 oa, ↓xh9_2 oa, ↓xr9_6 ob, ↓xa9_6 ob, ↓xs9_6 ob, ↓xo9_6 ob, ↓xc9_6 ob, ↓xd9_6 ob, ↓xr10_9 oT, ↓xa10_9 oT, ↓xs10_9 oT, ↓xo10_9 oT, ↓xc10_9 oT, ↓xd10_9 oT, List.length_cons, List.length_nil, List.forall_mem_cons, List.not_mem_nil, Value.category, true_and, and_true, false_and, and_false, or_true, true_or, or_false, false_or, Nat.zero_le, forall_const, implies_true, false_implies, Nat.zero_add, Nat.reduceAdd, Nat.reduceLT, Nat.reduceLeDiff, Nat.le_refl, not_true_eq_false, not_false_eq_true, r_eq, r_ne, r_lt, r_ge, r_gt, r_le, bz_ne, nn_toNat, cn_of, cn_0, cn_1, i10, Int.reduceLE, Int.reduceLT, Int.reduceEq, bz_T, bz_F, ite_self, mulc, st_bud]
          exact hk2
        · subst r1
          refine Or.inr ⟨fun w => sgm (coe.mp w.2), p + 1, G0 (b + 2) q, G, fun _ _ => rfl, fun Kn Kr h => q_backR (e2 := [.ref o, .ref t, .ref a, .ref b, .int (zI at0), .int (zI (G0 (b + 2) q)), .int (zI 0), .int (zI (p + 1))]) (μ2 := (st T nx 0 0 R G)) (fun K Kf hk2 => ?_) (m_out oa (by omega) (by omega) Kn Kr h)⟩
          simp (disch := omega) only [↓wcX10_matches_0.eq_1, ↓wsX10_matches_0.eq_1, ↓(k_cs1 dX11_isHole), ↓(k_cs4 dX9_alike), ↓k_mk, ↓k_sq, ↓k_sk, ↓k_bk, ↓k_if, ↓k_te, ↓k_cm, ↓k_cz, ↓k_an2, ↓k_or2, ↓k_no, ↓k_ci, ↓k_l0, ↓k_r0, ↓k_se0, ↓k_ic0, ↓k_l1, ↓k_r1, ↓k_se1, ↓k_ic1, ↓k_de1, ↓k_tk1, ↓k_l2, ↓k_r2, ↓k_se2, ↓k_ic2, ↓k_de2, ↓k_tk2, ↓k_l3, ↓k_r3, ↓k_se3, ↓k_ic3, ↓k_de3, ↓k_tk3, ↓k_l4, ↓k_r4, ↓k_se4, ↓k_ic4, ↓k_de4, ↓k_tk4, ↓k_l5, ↓k_r5, ↓k_se5, ↓k_ic5, ↓k_de5, ↓k_tk5, ↓k_l6, ↓k_r6, ↓k_se6, ↓k_ic6, ↓k_de6, ↓k_tk6, ↓k_l7, ↓k_r7, ↓k_se7, ↓k_ic7, ↓k_de7, ↓k_tk7, ↓k_l8, ↓k_r8, ↓k_se8, ↓k_ic8, ↓k_de8, ↓k_tk8, ↓k_l9, ↓k_r9, ↓k_se9, ↓k_ic9, ↓k_de9, ↓k_tk9, ↓k_l10, ↓k_r10, ↓k_se10, ↓k_ic10, ↓k_de10, ↓k_tk10, ↓k_l11, ↓k_r11, ↓k_se11, ↓k_ic11, ↓k_de11, ↓k_tk11, ↓k_l12, ↓k_r12, ↓k_se12, ↓k_ic12, ↓k_de12, ↓k_tk12, ↓k_l13, ↓k_r13, ↓k_se13, ↓k_ic13, ↓k_de13, ↓k_tk13, ↓k_l14, ↓k_r14, ↓k_se14, ↓k_ic14, ↓k_de14, ↓k_tk14, ↓k_l15, ↓k_r15, ↓k_se15, ↓k_ic15, ↓k_de15, ↓k_tk15, ↓k_l16, ↓k_r16, ↓k_se16, ↓k_ic16, ↓k_de16, ↓k_tk16, ↓k_l17, ↓k_r17, ↓k_se17, ↓k_ic17, ↓k_de17, ↓k_tk17, ↓k_l18, ↓k_r18, ↓k_se18, ↓k_ic18, ↓k_de18, ↓k_tk18, ↓k_l19, ↓k_r19, ↓k_se19, ↓k_ic19, ↓k_de19, ↓k_tk19, ↓k_l20, ↓k_r20, ↓k_se20, ↓k_ic20, ↓k_de20, ↓k_tk20, ↓k_l21, ↓k_r21, ↓k_se21, ↓k_ic21, ↓k_de21, ↓k_tk21, ↓k_l22, ↓k_r22, ↓k_se22, ↓k_ic22, ↓k_de22, ↓k_tk22, ↓k_l23, ↓k_r23, ↓k_se23, ↓k_ic23, ↓k_de23, ↓k_tk23, ↓k_l24, ↓k_r24, ↓k_se24, ↓k_ic24, ↓k_de24, ↓k_tk24, ↓k_l25, ↓k_r25, ↓k_se25, ↓k_ic25, ↓k_de25, ↓k_tk25, ↓k_k, ↓k_kn, ↓k_kl, ↓k_kln, ↓k_il, ↓k_2, ↓k_1, ↓k_2c, ↓k_2l, ↓k_ac, ↓k_an, ↓k_cs, ↓k_cv, ↓k_fi, ↓k_fr, ↓k_ai, ↓k_az, ↓k_ar, ↓k_sai, ↓k_saz, ↓k_soa, ↓k_sof, ↓k_spf, ↓k_sx, ↓k_blk, ↓k_sset, ↓k_sri, ↓k_srv, ↓k_srr, ↓k_nop, ↓k_add, ↓k_sub, ↓k_mul, ↓k_min, ↓k_max, ↓k_shr, ↓k_shl, ↓k_or, ↓k_ilz, ↓k_addl, ↓k_rt, ↓k_rb, ↓k_rbz, ↓k_rsi, ↓k_rsr, ↓k_rsv, ↓reduceIte, hp, ↓s8, ↓(k_cs1 dX11_isHole), ↓c11_isHole, hh, ↓s9, hy', z, ↓(k_cs4 dX9_alike), ↓cA', ↓cA, eq_self, gid, g4, ↓xi9_2 oa, ↓xp9_2 oa, ↓xb9_2 oa, ↓xf9_2 oa, ↓xg9_2 oa, ↓xh9_2 oa, ↓xr9_6 ob, ↓xa9_6 ob, ↓xs9_6 ob, ↓xo9_6 ob, ↓xc9_6 ob, ↓xd9_6 ob, ↓xr10_9 oT, ↓xa10_9 oT, ↓xs10_9 oT, ↓xo10_9 oT, ↓xc10_9 oT, ↓xd10_9 oT, List.length_cons, List.length_nil, List.forall_mem_cons, List.not_mem_nil, Value.category, true_and, and_true, false_and, and_false, or_true, true_or, or_false, false_or, Nat.zero_le, forall_const, implies_true, false_implies, Nat.zero_add, Nat.reduceAdd, Nat.reduceLT, Nat.reduceLeDiff, Nat.le_refl, not_true_eq_false, not_false_eq_true, r_eq, r_ne, r_lt, r_ge, r_gt, r_le, bz_ne, nn_toNat, cn_of, cn_0, cn_1, i10, Int.reduceLE, Int.reduceLT, Int.reduceEq, bz_T, bz_F, ite_self, mulc, st_bud]
          exact hk2
    · -- no hole
      have nho : ¬ isHo (G0 (a + 1) p) := by unfold isHo; rw [← hcp]; exact ho
      have hh : ¬ (200 ≤ cp ∧ cp < 216) := by omega
      by_cases z : cq = cp
      · -- the first step
        have stp : MSt T nx R o t a b at0 p q G (p + 1) (q + 1) G := fun Kn Kr h => q_backR (fun K Kf hk2 => by
          simp (disch := omega) only [↓wcX10_matches_0.eq_1, ↓wsX10_matches_0.eq_1, ↓(k_cs1 dX11_isHole), ↓(k_cs4 dX9_alike), ↓k_mk, ↓k_sq, ↓k_sk, ↓k_bk, ↓k_if, ↓k_te, ↓k_cm, ↓k_cz, ↓k_an2, ↓k_or2, ↓k_no, ↓k_ci, ↓k_l0, ↓k_r0, ↓k_se0, ↓k_ic0, ↓k_l1, ↓k_r1, ↓k_se1, ↓k_ic1, ↓k_de1, ↓k_tk1, ↓k_l2, ↓k_r2, ↓k_se2, ↓k_ic2, ↓k_de2, ↓k_tk2, ↓k_l3, ↓k_r3, ↓k_se3, ↓k_ic3, ↓k_de3, ↓k_tk3, ↓k_l4, ↓k_r4, ↓k_se4, ↓k_ic4, ↓k_de4, ↓k_tk4, ↓k_l5, ↓k_r5, ↓k_se5, ↓k_ic5, ↓k_de5, ↓k_tk5, ↓k_l6, ↓k_r6, ↓k_se6, ↓k_ic6, ↓k_de6, ↓k_tk6, ↓k_l7, ↓k_r7, ↓k_se7, ↓k_ic7, ↓k_de7, ↓k_tk7, ↓k_l8, ↓k_r8, ↓k_se8, ↓k_ic8, ↓k_de8, ↓k_tk8, ↓k_l9, ↓k_r9, ↓k_se9, ↓k_ic9, ↓k_de9, ↓k_tk9, ↓k_l10, ↓k_r10, ↓k_se10, ↓k_ic10, ↓k_de10, ↓k_tk10, ↓k_l11, ↓k_r11, ↓k_se11, ↓k_ic11, ↓k_de11, ↓k_tk11, ↓k_l12, ↓k_r12, ↓k_se12, ↓k_ic12, ↓k_de12, ↓k_tk12, ↓k_l13, ↓k_r13, ↓k_se13, ↓k_ic13, ↓k_de13, ↓k_tk13, ↓k_l14, ↓k_r14, ↓k_se14, ↓k_ic14, ↓k_de14, ↓k_tk14, ↓k_l15, ↓k_r15, ↓k_se15, ↓k_ic15, ↓k_de15, ↓k_tk15, ↓k_l16, ↓k_r16, ↓k_se16, ↓k_ic16, ↓k_de16, ↓k_tk16, ↓k_l17, ↓k_r17, ↓k_se17, ↓k_ic17, ↓k_de17, ↓k_tk17, ↓k_l18, ↓k_r18, ↓k_se18, ↓k_ic18, ↓k_de18, ↓k_tk18, ↓k_l19, ↓k_r19, ↓k_se19, ↓k_ic19, ↓k_de19, ↓k_tk19, ↓k_l20, ↓k_r20, ↓k_se20, ↓k_ic20, ↓k_de20, ↓k_tk20, ↓k_l21, ↓k_r21, ↓k_se21, ↓k_ic21, ↓k_de21, ↓k_tk21, ↓k_l22, ↓k_r22, ↓k_se22, ↓k_ic22, ↓k_de22, ↓k_tk22, ↓k_l23, ↓k_r23, ↓k_se23, ↓k_ic23, ↓k_de23, ↓k_tk23, ↓k_l24, ↓k_r24, ↓k_se24, ↓k_ic24, ↓k_de24, ↓k_tk24, ↓k_l25, ↓k_r25, ↓k_se25, ↓k_ic25, ↓k_de25, ↓k_tk25, ↓k_k, ↓k_kn, ↓k_kl, ↓k_kln, ↓k_il, ↓k_2, ↓k_1, ↓k_2c, ↓k_2l, ↓k_ac, ↓k_an, ↓k_cs, ↓k_cv, ↓k_fi, ↓k_fr, ↓k_ai, ↓k_az, ↓k_ar, ↓k_sai, ↓k_saz, ↓k_soa, ↓k_sof, ↓k_spf, ↓k_sx, ↓k_blk, ↓k_sset, ↓k_sdec, ↓k_sri, ↓k_srv, ↓k_srr, ↓k_nop, ↓k_add, ↓k_sub, ↓k_mul, ↓k_min, ↓k_max, ↓k_shr, ↓k_shl, ↓k_or, ↓k_ilz, ↓k_addl, ↓k_rt, ↓k_rb, ↓k_rbz, ↓k_rsi, ↓k_rsr, ↓k_rsv, ↓reduceIte, hp, g1, ↓(k_cs1 dX11_isHole), ↓c11_isHole, hh, g2, z, eq_self, ↓xi9_2 oa, ↓xp9_2 oa, ↓xb9_2 oa, ↓xf9_2 oa, ↓xg9_2 oa, ↓xh9_2 oa, ↓xr9_5 oa, ↓xa9_5 oa, ↓xs9_5 oa, ↓xo9_5 oa, ↓xc9_5 oa, ↓xd9_5 oa, ↓xr9_5 ob, ↓xa9_5 ob, ↓xs9_5 ob, ↓xo9_5 ob, ↓xc9_5 ob, ↓xd9_5 ob, List.length_cons, List.length_nil, List.forall_mem_cons, List.not_mem_nil, Value.category, true_and, and_true, false_and, and_false, or_true, true_or, or_false, false_or, Nat.zero_le, forall_const, implies_true, false_implies, Nat.zero_add, Nat.reduceAdd, Nat.reduceLT, Nat.reduceLeDiff, Nat.le_refl, not_true_eq_false, not_false_eq_true, r_eq, r_ne, r_lt, r_ge, r_gt, r_le, bz_ne, nn_toNat, cn_of, cn_0, cn_1, i10, Int.reduceLE, Int.reduceLT, Int.reduceEq, bz_T, bz_F, ite_self, mulc, st_bud]
          exact hk2) h
        by_cases l : 1000 ≤ cp
        · obtain ⟨Fl, che, chi⟩ := kA.2.2.2.1 p p0 p1 (by rw [← hcp]; exact l)
          obtain ⟨_, chf, chj⟩ := kB.2.2.2.1 q q0 q1 (by rw [← hcq, z]; exact l)
          obtain ⟨N, hN⟩ : ∃ N, N = G0 (t + 5) (cp - 1000) := ⟨_, rfl⟩
          rw [← hcp, ← hN] at che chi
          rw [← hcq, z, ← hN] at chf chj
          -- piece by piece
          have key : ∀ (m : Nat) (i : Nat) (G1 : Nat → Int → Int), i + m = N.toNat → (∀ x, ¬ x = o + 7 → G1 x = G0 x) → SG (G1 (o + 7)) (G0 b 2) (SU S (fun h x => ∃ j : Nat, j < i ∧ hlM (G0 (t + 5)) (G0 (a + 1)) (G0 (a + 2)) (G0 (b + 1)) (G0 (b + 2)) k (chI (G0 (a + 2)) p j) (chI (G0 (b + 2)) q j) h x)) → Con (G0 (b + 1)) (G0 (b + 2)) (SU S (fun h x => ∃ j : Nat, j < i ∧ hlM (G0 (t + 5)) (G0 (a + 1)) (G0 (a + 2)) (G0 (b + 1)) (G0 (b + 2)) k (chI (G0 (a + 2)) p j) (chI (G0 (b + 2)) q j) h x)) → (∀ j : Nat, j < i → okM (G0 (t + 5)) (G0 (a + 1)) (G0 (a + 2)) (G0 (b + 1)) (G0 (b + 2)) k (chI (G0 (a + 2)) p j) (chI (G0 (b + 2)) q j)) → MSt T nx R o t a b at0 p q G (chI (G0 (a + 2)) p i) (chI (G0 (b + 2)) q i) G1 →
              (okM (G0 (t + 5)) (G0 (a + 1)) (G0 (a + 2)) (G0 (b + 1)) (G0 (b + 2)) (k + 1) p q ∧ Con (G0 (b + 1)) (G0 (b + 2)) (SU S (hlM (G0 (t + 5)) (G0 (a + 1)) (G0 (a + 2)) (G0 (b + 1)) (G0 (b + 2)) (k + 1) p q)) ∧ ∃ G', (∀ x, ¬ x = o + 7 → G' x = G0 x) ∧ SG (G' (o + 7)) (G0 b 2) (SU S (hlM (G0 (t + 5)) (G0 (a + 1)) (G0 (a + 2)) (G0 (b + 1)) (G0 (b + 2)) (k + 1) p q)) ∧ MSt T nx R o t a b at0 p q G (G0 (a + 2) p) (G0 (b + 2) q) G') ∨ (¬ (okM (G0 (t + 5)) (G0 (a + 1)) (G0 (a + 2)) (G0 (b + 1)) (G0 (b + 2)) (k + 1) p q ∧ Con (G0 (b + 1)) (G0 (b + 2)) (SU S (hlM (G0 (t + 5)) (G0 (a + 1)) (G0 (a + 2)) (G0 (b + 1)) (G0 (b + 2)) (k + 1) p q))) ∧ MFa T nx R o t a b at0 p q G) := by
            intro m
            induction m with
            | zero =>
              intro i G1 hi fr1 sg1 cn1 ok1 st1
              have ei : i = N.toNat := by omega
              subst ei
              rw [che, chf] at st1
              have eq1 : ∀ h x, SU S (fun h x => ∃ j : Nat, j < N.toNat ∧ hlM (G0 (t + 5)) (G0 (a + 1)) (G0 (a + 2)) (G0 (b + 1)) (G0 (b + 2)) k (chI (G0 (a + 2)) p j) (chI (G0 (b + 2)) q j) h x) h x ↔ SU S (hlM (G0 (t + 5)) (G0 (a + 1)) (G0 (a + 2)) (G0 (b + 1)) (G0 (b + 2)) (k + 1) p q) h x := fun h x => by
                constructor
                · intro w
                  rcases w with w | ⟨j, j1, w⟩
                  · exact Or.inl w
                  · exact Or.inr (Or.inr ⟨nho, by rw [← hcp]; exact l, j, by rw [← hcp, ← hN]; omega, w⟩)
                · intro w
                  rcases w with w | w | ⟨_, _, j, j1, w⟩
                  · exact Or.inl w
                  · exact absurd w.1 nho
                  · exact Or.inr ⟨j, by rw [← hcp, ← hN] at j1; omega, w⟩
              exact Or.inl ⟨Or.inr ⟨nho, by rw [← hcp, ← hcq]; exact z.symm, fun _ j j1 => ok1 j (by rw [← hcp, ← hN] at j1; omega)⟩, Con_sub (fun h x w => (eq1 h x).mpr w) cn1, G1, fr1, SG_congr eq1 sg1, st1⟩
            | succ m ihm =>
              intro i G1 hi fr1 sg1 cn1 ok1 st1
              have iN : (i : Int) < N := by omega
              obtain ⟨a1, a2, a3, a4, _⟩ := chi i iN
              obtain ⟨b1, b2, b3, b4, _⟩ := chj i iN
              have che2 := Tr_che kA p0 p1 (by rw [← hcp]; exact l) (i := i) (by rw [← hcp, ← hN]; omega)
              rcases ih (chI (G0 (a + 2)) p i) (chI (G0 (b + 2)) q i) G1 _ (by omega) a2 (by omega) (by omega) b2 fr1 sg1 cn1 with ⟨w1, w2, G2, w3, w4, w5⟩ | ⟨w1, p', q', G2, w3, w4⟩
              · have eq1 : ∀ h x, SU (SU S (fun h x => ∃ j : Nat, j < i ∧ hlM (G0 (t + 5)) (G0 (a + 1)) (G0 (a + 2)) (G0 (b + 1)) (G0 (b + 2)) k (chI (G0 (a + 2)) p j) (chI (G0 (b + 2)) q j) h x)) (hlM (G0 (t + 5)) (G0 (a + 1)) (G0 (a + 2)) (G0 (b + 1)) (G0 (b + 2)) k (chI (G0 (a + 2)) p i) (chI (G0 (b + 2)) q i)) h x ↔ SU S (fun h x => ∃ j : Nat, j < i + 1 ∧ hlM (G0 (t + 5)) (G0 (a + 1)) (G0 (a + 2)) (G0 (b + 1)) (G0 (b + 2)) k (chI (G0 (a + 2)) p j) (chI (G0 (b + 2)) q j) h x) h x := fun h x => by
                  constructor
                  · intro w
                    rcases w with (w | ⟨j, j1, w⟩) | w
                    · exact Or.inl w
                    · exact Or.inr ⟨j, by omega, w⟩
                    · exact Or.inr ⟨i, by omega, w⟩
                  · intro w
                    rcases w with w | ⟨j, j1, w⟩
                    · exact Or.inl (Or.inl w)
                    · by_cases e : j = i
                      · subst e
                        exact Or.inr w
                      · exact Or.inl (Or.inr ⟨j, by omega, w⟩)
                exact ihm (i + 1) G2 (by omega) w3 (SG_congr eq1 w4) (Con_sub (fun h x w => (eq1 h x).mpr w) w2) (fun j j1 => by
                  by_cases e : j = i
                  · subst e
                    exact w1
                  · exact ok1 j (by omega)) (fun Kn Kr h => st1 Kn Kr (w5 Kn Kr h))
              · refine Or.inr ⟨fun ⟨y1, y2⟩ => w1 ⟨?_, Con_sub (fun h x w => ?_) y2⟩, p', q', G2, fun x hx => by rw [w3 x hx, fr1 x hx, fr x hx], fun Kn Kr h => st1 Kn Kr (w4 Kn Kr h)⟩
                · rcases y1 with y1 | ⟨_, _, y1⟩
                  · exact absurd y1 nho
                  · exact y1 (by rw [← hcp]; exact l) i (by rw [← hcp, ← hN]; exact iN)
                · rcases w with (w | ⟨j, j1, w⟩) | w
                  · exact Or.inl w
                  · exact Or.inr (Or.inr ⟨nho, by rw [← hcp]; exact l, j, by rw [← hcp, ← hN]; omega, w⟩)
                  · exact Or.inr (Or.inr ⟨nho, by rw [← hcp]; exact l, i, by rw [← hcp, ← hN]; exact iN, w⟩)
          have eq0 : ∀ h x, S h x ↔ SU S (fun h x => ∃ j : Nat, j < 0 ∧ hlM (G0 (t + 5)) (G0 (a + 1)) (G0 (a + 2)) (G0 (b + 1)) (G0 (b + 2)) k (chI (G0 (a + 2)) p j) (chI (G0 (b + 2)) q j) h x) h x := fun h x => ⟨Or.inl, fun w => w.elim id (fun ⟨j, j1, _⟩ => absurd j1 (by omega))⟩
          exact key N.toNat 0 G (by omega) fr (SG_congr eq0 sg) (Con_sub (fun h x w => (eq0 h x).mpr w) cn) (fun j j1 => absurd j1 (by omega)) stp
        · have el := (kA.2.2.2.2.1 p p0 p1 (by rw [← hcp]; exact l)).2
          have el2 := (kB.2.2.2.2.1 q q0 q1 (by rw [← hcq, z]; exact l)).2
          have eq1 : ∀ h x, S h x ↔ SU S (hlM (G0 (t + 5)) (G0 (a + 1)) (G0 (a + 2)) (G0 (b + 1)) (G0 (b + 2)) (k + 1) p q) h x := fun h x => by
            refine ⟨Or.inl, fun w => ?_⟩
            rcases w with w | w | ⟨_, w, _⟩
            · exact w
            · exact absurd w.1 nho
            · exact absurd (by rw [hcp]; exact w) l
          refine Or.inl ⟨Or.inr ⟨nho, by rw [← hcp, ← hcq]; exact z.symm, fun w => absurd (by rw [hcp]; exact w) l⟩, Con_sub (fun h x w => (eq1 h x).mpr w) cn, G, fr, SG_congr eq1 sg, ?_⟩
          rw [el, el2]
          exact stp
      · refine Or.inr ⟨fun w => ?_, p + 1, q + 1, G, fun _ _ => rfl, fun Kn Kr h => q_backR (e2 := [.ref o, .ref t, .ref a, .ref b, .int (zI at0), .int (zI (q + 1)), .int (zI 0), .int (zI (p + 1))]) (μ2 := (st T nx 0 0 R G)) (fun K Kf hk2 => ?_) (m_out oa (by omega) (by omega) Kn Kr h)⟩
        · rcases w.1 with w | ⟨_, w, _⟩
          · exact nho w
          · rw [← hcp, ← hcq] at w
            exact z w.symm
        · simp (disch := omega) only [↓wcX10_matches_0.eq_1, ↓wsX10_matches_0.eq_1, ↓(k_cs1 dX11_isHole), ↓(k_cs4 dX9_alike), ↓k_mk, ↓k_sq, ↓k_sk, ↓k_bk, ↓k_if, ↓k_te, ↓k_cm, ↓k_cz, ↓k_an2, ↓k_or2, ↓k_no, ↓k_ci, ↓k_l0, ↓k_r0, ↓k_se0, ↓k_ic0, ↓k_l1, ↓k_r1, ↓k_se1, ↓k_ic1, ↓k_de1, ↓k_tk1, ↓k_l2, ↓k_r2, ↓k_se2, ↓k_ic2, ↓k_de2, ↓k_tk2, ↓k_l3, ↓k_r3, ↓k_se3, ↓k_ic3, ↓k_de3, ↓k_tk3, ↓k_l4, ↓k_r4, ↓k_se4, ↓k_ic4, ↓k_de4, ↓k_tk4, ↓k_l5, ↓k_r5, ↓k_se5, ↓k_ic5, ↓k_de5, ↓k_tk5, ↓k_l6, ↓k_r6, ↓k_se6, ↓k_ic6, ↓k_de6, ↓k_tk6, ↓k_l7, ↓k_r7, ↓k_se7, ↓k_ic7, ↓k_de7, ↓k_tk7, ↓k_l8, ↓k_r8, ↓k_se8, ↓k_ic8, ↓k_de8, ↓k_tk8, ↓k_l9, ↓k_r9, ↓k_se9, ↓k_ic9, ↓k_de9, ↓k_tk9, ↓k_l10, ↓k_r10, ↓k_se10, ↓k_ic10, ↓k_de10, ↓k_tk10, ↓k_l11, ↓k_r11, ↓k_se11, ↓k_ic11, ↓k_de11, ↓k_tk11, ↓k_l12, ↓k_r12, ↓k_se12, ↓k_ic12, ↓k_de12, ↓k_tk12, ↓k_l13, ↓k_r13, ↓k_se13, ↓k_ic13, ↓k_de13, ↓k_tk13, ↓k_l14, ↓k_r14, ↓k_se14, ↓k_ic14, ↓k_de14, ↓k_tk14, ↓k_l15, ↓k_r15, ↓k_se15, ↓k_ic15, ↓k_de15, ↓k_tk15, ↓k_l16, ↓k_r16, ↓k_se16, ↓k_ic16, ↓k_de16, ↓k_tk16, ↓k_l17, ↓k_r17, ↓k_se17, ↓k_ic17, ↓k_de17, ↓k_tk17, ↓k_l18, ↓k_r18, ↓k_se18, ↓k_ic18, ↓k_de18, ↓k_tk18, ↓k_l19, ↓k_r19, ↓k_se19, ↓k_ic19, ↓k_de19, ↓k_tk19, ↓k_l20, ↓k_r20, ↓k_se20, ↓k_ic20, ↓k_de20, ↓k_tk20, ↓k_l21, ↓k_r21, ↓k_se21, ↓k_ic21, ↓k_de21, ↓k_tk21, ↓k_l22, ↓k_r22, ↓k_se22, ↓k_ic22, ↓k_de22, ↓k_tk22, ↓k_l23, ↓k_r23, ↓k_se23, ↓k_ic23, ↓k_de23, ↓k_tk23, ↓k_l24, ↓k_r24, ↓k_se24, ↓k_ic24, ↓k_de24, ↓k_tk24, ↓k_l25, ↓k_r25, ↓k_se25, ↓k_ic25, ↓k_de25, ↓k_tk25, ↓k_k, ↓k_kn, ↓k_kl, ↓k_kln, ↓k_il, ↓k_2, ↓k_1, ↓k_2c, ↓k_2l, ↓k_ac, ↓k_an, ↓k_cs, ↓k_cv, ↓k_fi, ↓k_fr, ↓k_ai, ↓k_az, ↓k_ar, ↓k_sai, ↓k_saz, ↓k_soa, ↓k_sof, ↓k_spf, ↓k_sx, ↓k_blk, ↓k_sset, ↓k_sdec, ↓k_sri, ↓k_srv, ↓k_srr, ↓k_nop, ↓k_add, ↓k_sub, ↓k_mul, ↓k_min, ↓k_max, ↓k_shr, ↓k_shl, ↓k_or, ↓k_ilz, ↓k_addl, ↓k_rt, ↓k_rb, ↓k_rbz, ↓k_rsi, ↓k_rsr, ↓k_rsv, ↓reduceIte, hp, g1, ↓(k_cs1 dX11_isHole), ↓c11_isHole, hh, g2, z, ↓xi9_2 oa, ↓xp9_2 oa, ↓xb9_2 oa, ↓xf9_2 oa, ↓xg9_2 oa, ↓xh9_2 oa, ↓xr9_5 oa, ↓xa9_5 oa, ↓xs9_5 oa, ↓xo9_5 oa, ↓xc9_5 oa, ↓xd9_5 oa, ↓xr9_5 ob, ↓xa9_5 ob, ↓xs9_5 ob, ↓xo9_5 ob, ↓xc9_5 ob, ↓xd9_5 ob, List.length_cons, List.length_nil, List.forall_mem_cons, List.not_mem_nil, Value.category, true_and, and_true, false_and, and_false, or_true, true_or, or_false, false_or, Nat.zero_le, forall_const, implies_true, false_implies, Nat.zero_add, Nat.reduceAdd, Nat.reduceLT, Nat.reduceLeDiff, Nat.le_refl, not_true_eq_false, not_false_eq_true, r_eq, r_ne, r_lt, r_ge, r_gt, r_le, bz_ne, nn_toNat, cn_of, cn_0, cn_1, i10, Int.reduceLE, Int.reduceLT, Int.reduceEq, bz_T, bz_F, ite_self, mulc, st_bud]
          exact hk2
end
