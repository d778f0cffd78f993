section
/-! kept: the class loads a row -/
/-- the tree w stands at b, with its ends and all else -/
def LF (ns : Int → Int) (G : Nat → Int → Int) (b : Nat) (w : List Int) : Prop := G b 2 = (w.length : Int) ∧ G b 3 = nb (wf w) w.length ∧ G b 4 = (w.length : Int) - nb (wf w) w.length ∧ (∀ q : Nat, q < w.length → G (b + 1) q = (wf w) q) ∧ Ix ns (G (b + 1)) w.length (G (b + 2)) (G (b + 3)) (G (b + 4)) (G (b + 6)) (G (b + 7)) (G (b + 8))
theorem LF_cg {ns : Int → Int} {G G' : Nat → Int → Int} {b : Nat} {w : List Int} (e : ∀ x, b ≤ x → x ≤ b + 8 → G' x = G x) (h : LF ns G b w) : LF ns G' b w := by
  unfold LF
  rw [e b (by omega) (by omega), e (b + 1) (by omega) (by omega), e (b + 2) (by omega) (by omega), e (b + 3) (by omega) (by omega), e (b + 4) (by omega) (by omega), e (b + 6) (by omega) (by omega), e (b + 7) (by omega) (by omega), e (b + 8) (by omega) (by omega)]
  exact h
theorem LF_tr {G0 G : Nat → Int → Int} {B b : Nat} {v : Int} {w : List Int} (hF : IFm G0 B) (kv : 0 ≤ v ∧ v ≤ 1) (g : GW1 G0 B v w) (lf : LF (G0 (tvA B v + 5)) G b w) : Tr 1 (G0 (tvA B v) 1) (G0 (tvA B v + 5)) (G0 (tvA B v + 6)) (G b 2) (G b 3) (G b 4) (G (b + 1)) (G (b + 2)) (G (b + 3)) (G (b + 4)) (G (b + 6)) (G (b + 7)) (G (b + 8)) ∧ (∀ p, 0 ≤ p → p < (w.length : Int) → G (b + 1) p = (wf w) p ∧ G (b + 2) p = eE (G0 (tvA B v + 5)) (wf w) p) ∧ ∀ m, 0 ≤ m → m < nb (wf w) w.length → G (b + 7) m = naW (wf w) w.length m := by
  obtain ⟨f1, f2, f3, f4, f5⟩ := lf
  obtain ⟨n5, pr, d0, ok, len1, len201, hcd, lfl⟩ := GW_row hF kv g
  have tr0 := trW hF kv g
  have wd0 := Wd_of pr d0 len201
  have pr' := Pre_cong (c' := G (b + 1)) f4 pr
  have d0' : dd (G0 (tvA B v + 5)) (G (b + 1)) w.length = 0 := by rw [dd_cong f4]; exact d0
  have wd := Wd_of pr' d0' len201
  have ok' := OKW_cong (c' := G (b + 1)) f4 ok
  have en : ((w.length : Nat) : Int).toNat = w.length := Int.toNat_natCast _
  have fI : ∀ p : Int, 0 ≤ p → p < (w.length : Int) → G (b + 1) p = (wf w) p := fun p p0 p1 => by
    have := f4 p.toNat (by omega)
    rw [Int.toNat_of_nonneg p0] at this
    exact this
  have hcdI : ∀ p : Int, 0 ≤ p → p < (w.length : Int) → 20 ≤ (wf w) p ∧ (1000 ≤ (wf w) p → (wf w) p - 1000 < (G0 (tvA B v) 1)) := fun p p0 p1 => by
    have := hcd p.toNat (by omega)
    rw [Int.toNat_of_nonneg p0] at this
    exact ⟨this.1, this.2.2⟩
  rw [f1, f2, f3]
  refine ⟨Tr_words wd (fun p p0 p1 l => by rw [fI p p0 p1] at l ⊢; exact (hcdI p p0 p1).2 l) (fun p p0 p1 _ => by rw [fI p p0 p1]; exact (hcdI p p0 p1).1) (fun p p0 p1 => ?_) f5 (by rw [en, nb_cong f4]) g.2 rfl, fun p p0 p1 => ⟨fI p p0 p1, ?_⟩, fun m m0 m1 => ?_⟩
  · have h := ok' p.toNat (by omega) _ (tgI_head pr' d0' len201 p0 p1)
    rw [Int.toNat_of_nonneg (by omega)] at h
    exact h
  · rw [(f5 p p0 p1).1]
    exact eE_cg wd0 f4 p0 p1
  · obtain ⟨q1, q2, q3, q4, q5⟩ := Tr_m tr0 m0 m1
    have z := (f5 _ q1 q2).2.2.2.1 (by rw [fI _ q1 q2]; exact q3)
    have nbe : nb (G (b + 1)) (naW (wf w) w.length m).toNat = nb (wf w) (naW (wf w) w.length m).toNat := nb_cong fun q hq => f4 q (by omega)
    rw [nbe, q4] at z
    exact z.2
/-- what the class's search leaves as it was -/
def KC (G0 G : Nat → Int → Int) (B : Nat) : Prop := (∀ x, ¬ x = B + 59 → ¬ x = B + 66 → ¬ (B + 88 ≤ x ∧ x ≤ B + 169) → G x = G0 x) ∧ ∀ j, ¬ j = 15 → G (B + 59) j = G0 (B + 59) j
/-- the class's rows are the words -/
def CSr (G0 G : Nat → Int → Int) (B : Nat) (s : (List (List Int × Int))) : Prop := KC G0 G B ∧ G (B + 59) 15 = (s.length : Int) ∧ ∀ k : Nat, k < s.length → G (B + 148) k = ((kW s k).length : Int) ∧ G (B + 149) k = kZ s k ∧ ∀ q : Nat, q < (kW s k).length → G (B + 88 + k) q = wf (kW s k) q
theorem CSr_cg {G0 G G' : Nat → Int → Int} {B : Nat} {s : (List (List Int × Int))} (hl : s.length ≤ 60) (e1 : ∀ x, ¬ x = B + 66 → ¬ (B + 150 ≤ x ∧ x ≤ B + 169) → G' x = G x) (h : CSr G0 G B s) : CSr G0 G' B s := by
  obtain ⟨⟨k1, k2⟩, h1, h2⟩ := h
  have e59 : G' (B + 59) = G (B + 59) := e1 _ (by omega) (by omega)
  refine ⟨⟨fun x q1 q2 q3 => by rw [e1 x (by omega) (by omega)]; exact k1 x q1 q2 q3, by rw [e59]; exact k2⟩, by rw [e59]; exact h1, fun k hk => ?_⟩
  rw [e1 (B + 148) (by omega) (by omega), e1 (B + 149) (by omega) (by omega), e1 (B + 88 + k) (by omega) (by omega)]
  exact h2 k hk
theorem c10_loadFound {T : Nat → Option q_T} {nx B : Nat} {R : Nat → Nat → Option Value} {G0 G : Nat → Int → Int} {v : Int} {s : (List (List Int × Int))} {goal : List Int} {k : Nat} (oT : Ly T R (B + 59) (L10 (B + 59))) (hA : Ly T R (B + 150) (L9 (B + 150))) (o8 : Ly T R (tvA B v) (L8 (tvA B v))) (hF : IFm G0 B) (kv : 0 ≤ v ∧ v ≤ 1) (ki : KI G0 B v goal s) (cs : CSr G0 G B s) (hk : k < s.length) :
    ∃ G', (∀ x, ¬ (B + 150 ≤ x ∧ x ≤ B + 158) → G' x = G x) ∧ LF (G0 (tvA B v + 5)) G' (B + 150) (kW s k) ∧ ∀ K : Option Value → q_M → Prop, fX10_loadFound [.ref (B + 59), .ref (tvA B v), .int (zI k)] (st T nx 0 0 R G) K = K none (st T nx 0 0 R G') := by
  obtain ⟨⟨l1, l60⟩, kia⟩ := ki
  obtain ⟨⟨kc1, kc2⟩, h15, rows⟩ := cs
  obtain ⟨g, _, _⟩ := kia k hk
  obtain ⟨w, hw⟩ : ∃ w, w = kW s k := ⟨_, rfl⟩
  obtain ⟨r1, r2, r3⟩ := rows k hk
  rw [← hw] at g r1 r3 ⊢
  obtain ⟨n5, pr, d0, ok, len1, len201, hcd, lfl⟩ := GW_row hF kv g
  have n40 := g.2
  have tvb := tv_b (B := B) kv
  obtain ⟨G1, f1, cb1, cS⟩ := c9_start (T := T) (nx := nx) (rc := 0) (rs := 0) (R := R) (G := G) (c := (wf w)) (v := -1) hA
  have fr := e10_12 oT (i := k) (by omega)
  have key : ∀ (m P : Nat) (G2 : Nat → Int → Int), m + P = w.length → CFr G G2 (B + 150) → CB (wf w) G2 (B + 150) (-1) P → ∃ G3, CFr G G3 (B + 150) ∧ CB (wf w) G3 (B + 150) (-1) w.length ∧ ∀ (Kn : List Value → q_M → Prop) (Kr : Option Value → q_M → Prop), Kn [.ref (B + 59), .ref (tvA B v), .int (zI k), .int (zI w.length)] (st T nx 0 0 R G3) → q_wh wcX10_loadFound_0 wsX10_loadFound_0 [.ref (B + 59), .ref (tvA B v), .int (zI k), .int (zI P)] (st T nx 0 0 R G2) Kn Kr := by
    intro m
    induction m with
    | zero =>
      intro P G2 e fr2 cb
      have e : P = w.length := by omega
      subst e
      refine ⟨G2, fr2, cb, fun Kn Kr hh => q_outR (fun Kt Kf hk2 => ?_) hh⟩
      have r1' : G2 (B + 148) k = (w.length : Int) := by rw [fr2.1 _ (by omega) (by omega)]; exact r1
      have hz : ¬ (w.length : Int) < (w.length : Int) := by omega
      obtain ⟨L, hL⟩ : ∃ L, L = (w.length : Int) := ⟨_, rfl⟩
      have L1 : 1 ≤ L ∧ L ≤ 201 := by omega
      rw [← hL] at r1' hz ⊢
      clear hL
      simp (disch := omega) only [↓wcX10_loadFound_0.eq_1, ↓k_mk, ↓k_sq, ↓k_sk, ↓k_bk, ↓k_if, ↓k_te, ↓k_cm, ↓k_cz, ↓k_an2, ↓k_or2, ↓k_no, ↓k_ci, ↓k_l0, ↓k_r0, ↓k_se0, ↓k_ic0, ↓k_l1, ↓k_r1, ↓k_se1, ↓k_ic1, ↓k_de1, ↓k_tk1, ↓k_l2, ↓k_r2, ↓k_se2, ↓k_ic2, ↓k_de2, ↓k_tk2, ↓k_l3, ↓k_r3, ↓k_se3, ↓k_ic3, ↓k_de3, ↓k_tk3, ↓k_l4, ↓k_r4, ↓k_se4, ↓k_ic4, ↓k_de4, ↓k_tk4, ↓k_l5, ↓k_r5, ↓k_se5, ↓k_ic5, ↓k_de5, ↓k_tk5, ↓k_l6, ↓k_r6, ↓k_se6, ↓k_ic6, ↓k_de6, ↓k_tk6, ↓k_l7, ↓k_r7, ↓k_se7, ↓k_ic7, ↓k_de7, ↓k_tk7, ↓k_l8, ↓k_r8, ↓k_se8, ↓k_ic8, ↓k_de8, ↓k_tk8, ↓k_l9, ↓k_r9, ↓k_se9, ↓k_ic9, ↓k_de9, ↓k_tk9, ↓k_l10, ↓k_r10, ↓k_se10, ↓k_ic10, ↓k_de10, ↓k_tk10, ↓k_l11, ↓k_r11, ↓k_se11, ↓k_ic11, ↓k_de11, ↓k_tk11, ↓k_l12, ↓k_r12, ↓k_se12, ↓k_ic12, ↓k_de12, ↓k_tk12, ↓k_l13, ↓k_r13, ↓k_se13, ↓k_ic13, ↓k_de13, ↓k_tk13, ↓k_l14, ↓k_r14, ↓k_se14, ↓k_ic14, ↓k_de14, ↓k_tk14, ↓k_l15, ↓k_r15, ↓k_se15, ↓k_ic15, ↓k_de15, ↓k_tk15, ↓k_l16, ↓k_r16, ↓k_se16, ↓k_ic16, ↓k_de16, ↓k_tk16, ↓k_l17, ↓k_r17, ↓k_se17, ↓k_ic17, ↓k_de17, ↓k_tk17, ↓k_l18, ↓k_r18, ↓k_se18, ↓k_ic18, ↓k_de18, ↓k_tk18, ↓k_l19, ↓k_r19, ↓k_se19, ↓k_ic19, ↓k_de19, ↓k_tk19, ↓k_l20, ↓k_r20, ↓k_se20, ↓k_ic20, ↓k_de20, ↓k_tk20, ↓k_l21, ↓k_r21, ↓k_se21, ↓k_ic21, ↓k_de21, ↓k_tk21, ↓k_l22, ↓k_r22, ↓k_se22, ↓k_ic22, ↓k_de22, ↓k_tk22, ↓k_l23, ↓k_r23, ↓k_se23, ↓k_ic23, ↓k_de23, ↓k_tk23, ↓k_l24, ↓k_r24, ↓k_se24, ↓k_ic24, ↓k_de24, ↓k_tk24, ↓k_l25, ↓k_r25, ↓k_se25, ↓k_ic25, ↓k_de25, ↓k_tk25, ↓k_k, ↓k_kn, ↓k_kl, ↓k_kln, ↓k_il, ↓k_2, ↓k_1, ↓k_2c, ↓k_2l, ↓k_ac, ↓k_an, ↓k_cs, ↓k_cv, ↓k_fi, ↓k_fr, ↓k_ai, ↓k_az, ↓k_ar, ↓k_sai, ↓k_saz, ↓k_soa, ↓k_sof, ↓k_spf, ↓k_sx, ↓k_blk, ↓k_sset, ↓k_sdec, ↓k_sri, ↓k_srv, ↓k_srr, ↓k_nop, ↓k_add, ↓k_sub, ↓k_mul, ↓k_min, ↓k_max, ↓k_shr, ↓k_shl, ↓k_or, ↓k_ilz, ↓k_addl, ↓k_rt, ↓k_rb, ↓k_rbz, ↓k_rsi, ↓k_rsr, ↓k_rsv, ↓reduceIte, r1', hz, ↓xr10_13 oT, ↓xa10_13 oT, ↓xs10_13 oT, ↓xo10_13 oT, ↓xc10_13 oT, ↓xd10_13 oT, List.length_cons, List.length_nil, List.forall_mem_cons, List.not_mem_nil, Value.category, true_and, and_true, false_and, and_false, or_true, true_or, or_false, false_or, Nat.zero_le, forall_const, implies_true, false_implies, Nat.zero_add, Nat.reduceAdd, Nat.reduceLT, Nat.reduceLeDiff, Nat.le_refl, not_true_eq_false, not_false_eq_true, r_eq, r_ne, r_lt, r_ge, r_gt, r_le, bz_ne, nn_toNat, cn_of, cn_0, cn_1, i10, Int.reduceLE, Int.reduceLT, Int.reduceEq, bz_T, bz_F, ite_self, mulc, st_bud]
      exact hk2
    | succ m ih =>
      intro P G2 e fr2 cb
      have hc := hcd P (by omega)
      have mono := nb_mono (wf w) (show P + 1 ≤ w.length by omega)
      have mono0 := nb_mono (wf w) (show P ≤ w.length by omega)
      obtain ⟨x, hx⟩ : ∃ x, x = (wf w) P := ⟨_, rfl⟩
      rw [← hx] at hc
      obtain ⟨G3, y, f3, y3, c3⟩ := c9_add (T := T) (nx := nx) (rc := 0) (rs := 0) (R := R) (G := G2) hA cb hx.symm (by omega) (by omega) (by omega)
      rcases y3 with ⟨y1, y2, cb3⟩ | ⟨_, y2⟩
      · obtain ⟨G4, f4, cb4, c4⟩ := ih (P + 1) G3 (by omega) (CFr_tr fr2 f3) cb3
        refine ⟨G4, f4, cb4, fun Kn Kr hh => q_backR (fun K Kf hk2 => ?_) (c4 Kn Kr hh)⟩
        subst y1
        have r1' : G2 (B + 148) k = (w.length : Int) := by rw [fr2.1 _ (by omega) (by omega)]; exact r1
        have r3' : G2 (B + 88 + k) P = x := by rw [fr2.1 _ (by omega) (by omega), r3 P (by omega), hx]
        have hz : (P : Int) < (w.length : Int) := by omega
        obtain ⟨L, hL⟩ : ∃ L, L = (w.length : Int) := ⟨_, rfl⟩
        have L1 : 1 ≤ L ∧ L ≤ 201 := by omega
        have ps : (((P + 1 : Nat)) : Int) = (P : Int) + 1 := by omega
        have r3' : G2 (B + 59 + 29 + (k : Int).toNat) P = x := by rw [Int.toNat_natCast, show B + 59 + 29 + k = B + 88 + k by omega]; exact r3'
        rw [← hL] at r1' hz
        rw [ps] at hk2
        have hk60 : (k : Int) < 60 := by omega
        have hP : (P : Int) < 201 := by omega
        clear hL ih kia rows r1 r3 ok hcd lfl n5 pr d0 c4
        simp (disch := omega) only [↓wcX10_loadFound_0.eq_1, ↓wsX10_loadFound_0.eq_1, ↓k_mk, ↓k_sq, ↓k_sk, ↓k_bk, ↓k_if, ↓k_te, ↓k_cm, ↓k_cz, ↓k_an2, ↓k_or2, ↓k_no, ↓k_ci, ↓k_l0, ↓k_r0, ↓k_se0, ↓k_ic0, ↓k_l1, ↓k_r1, ↓k_se1, ↓k_ic1, ↓k_de1, ↓k_tk1, ↓k_l2, ↓k_r2, ↓k_se2, ↓k_ic2, ↓k_de2, ↓k_tk2, ↓k_l3, ↓k_r3, ↓k_se3, ↓k_ic3, ↓k_de3, ↓k_tk3, ↓k_l4, ↓k_r4, ↓k_se4, ↓k_ic4, ↓k_de4, ↓k_tk4, ↓k_l5, ↓k_r5, ↓k_se5, ↓k_ic5, ↓k_de5, ↓k_tk5, ↓k_l6, ↓k_r6, ↓k_se6, ↓k_ic6, ↓k_de6, ↓k_tk6, ↓k_l7, ↓k_r7, ↓k_se7, ↓k_ic7, ↓k_de7, ↓k_tk7, ↓k_l8, ↓k_r8, ↓k_se8, ↓k_ic8, ↓k_de8, ↓k_tk8, ↓k_l9, ↓k_r9, ↓k_se9, ↓k_ic9, ↓k_de9, ↓k_tk9, ↓k_l10, ↓k_r10, ↓k_se10, ↓k_ic10, ↓k_de10, ↓k_tk10, ↓k_l11, ↓k_r11, ↓k_se11, ↓k_ic11, ↓k_de11, ↓k_tk11, ↓k_l12, ↓k_r12, ↓k_se12, ↓k_ic12, ↓k_de12, ↓k_tk12, ↓k_l13, ↓k_r13, ↓k_se13, ↓k_ic13, ↓k_de13, ↓k_tk13, ↓k_l14, ↓k_r14, ↓k_se14, ↓k_ic14, ↓k_de14, ↓k_tk14, ↓k_l15, ↓k_r15, ↓k_se15, ↓k_ic15, ↓k_de15, ↓k_tk15, ↓k_l16, ↓k_r16, ↓k_se16, ↓k_ic16, ↓k_de16, ↓k_tk16, ↓k_l17, ↓k_r17, ↓k_se17, ↓k_ic17, ↓k_de17, ↓k_tk17, ↓k_l18, ↓k_r18, ↓k_se18, ↓k_ic18, ↓k_de18, ↓k_tk18, ↓k_l19, ↓k_r19, ↓k_se19, ↓k_ic19, ↓k_de19, ↓k_tk19, ↓k_l20, ↓k_r20, ↓k_se20, ↓k_ic20, ↓k_de20, ↓k_tk20, ↓k_l21, ↓k_r21, ↓k_se21, ↓k_ic21, ↓k_de21, ↓k_tk21, ↓k_l22, ↓k_r22, ↓k_se22, ↓k_ic22, ↓k_de22, ↓k_tk22, ↓k_l23, ↓k_r23, ↓k_se23, ↓k_ic23, ↓k_de23, ↓k_tk23, ↓k_l24, ↓k_r24, ↓k_se24, ↓k_ic24, ↓k_de24, ↓k_tk24, ↓k_l25, ↓k_r25, ↓k_se25, ↓k_ic25, ↓k_de25, ↓k_tk25, ↓k_k, ↓k_kn, ↓k_kl, ↓k_kln, ↓k_il, ↓k_2, ↓k_1, ↓k_2c, ↓k_2l, ↓k_ac, ↓k_an, ↓k_cs, ↓k_cv, ↓k_fi, ↓k_fr, ↓k_ai, ↓k_az, ↓k_ar, ↓k_sai, ↓k_saz, ↓k_soa, ↓k_sof, ↓k_spf, ↓k_sx, ↓k_blk, ↓k_sset, ↓k_sdec, ↓k_sri, ↓k_srv, ↓k_srr, ↓k_nop, ↓k_add, ↓k_sub, ↓k_mul, ↓k_min, ↓k_max, ↓k_shr, ↓k_shl, ↓k_or, ↓k_ilz, ↓k_addl, ↓k_rt, ↓k_rb, ↓k_rbz, ↓k_rsi, ↓k_rsr, ↓k_rsv, ↓reduceIte, r1', r3', hz, ↓(k_cv1 dX9_add (t9 hA)), ↓c3, ↓xr10_12 oT, ↓xu10_12 oT, ↓xea10_12 oT, ↓xes10_12 oT, ↓xr10_13 oT, ↓xa10_13 oT, ↓xs10_13 oT, ↓xo10_13 oT, ↓xc10_13 oT, ↓xd10_13 oT, ↓xr10_16 oT, List.length_cons, List.length_nil, List.forall_mem_cons, List.not_mem_nil, Value.category, true_and, and_true, false_and, and_false, or_true, true_or, or_false, false_or, Nat.zero_le, forall_const, implies_true, false_implies, Nat.zero_add, Nat.reduceAdd, Nat.reduceLT, Nat.reduceLeDiff, Nat.le_refl, not_true_eq_false, not_false_eq_true, r_eq, r_ne, r_lt, r_ge, r_gt, r_le, bz_ne, nn_toNat, cn_of, cn_0, cn_1, i10, Int.reduceLE, Int.reduceLT, Int.reduceEq, bz_T, bz_F, ite_self, mulc, st_bud]
        exact hk2
      · omega
  obtain ⟨G2, f2, cb2, c2⟩ := key w.length 0 G1 (by omega) f1 cb1
  have hn : ∀ q : Nat, q < w.length → G2 (B + 151) q = (wf w) q := cb2.2.2.2
  have hnI : ∀ p : Int, 0 ≤ p → p < (w.length : Int) → G2 (B + 150 + 1) p = (wf w) p := fun p p0 p1 => by
    have := hn p.toNat (by omega)
    rw [Int.toNat_of_nonneg p0] at this
    exact this
  have hns : G2 (tvA B v + 5) = (G0 (tvA B v + 5)) := by rw [f2.1 _ (by omega) (by omega), kc1 _ (by omega) (by omega) (by omega)]
  have nbe : nb (G2 (B + 150 + 1)) (w.length : Int).toNat = nb (wf w) w.length := by rw [Int.toNat_natCast, nb_cong hn]
  obtain ⟨G3, p1, p2, p3, p4, p5, p6⟩ := c9_index (T := T) (nx := nx) (rc := 0) (rs := 0) (R := R) (ns := (G0 (tvA B v + 5))) (n := (w.length : Int)) hA o8 (Or.inl (by omega)) cb2.2.1 (Wd_of (Pre_cong (c' := G2 (B + 150 + 1)) hn pr) (by rw [dd_cong hn]; exact d0) len201) (fun p q1 q2 q3 => by
    rw [hnI p q1 q2] at q3 ⊢
    have := hcd p.toNat (by omega)
    rw [Int.toNat_of_nonneg q1] at this
    have h5 := IFm_ns hF kv (show 0 ≤ (wf w) p - 1000 by omega) (this.2.2 q3)
    have hF14 := (hF v kv.1 kv.2).2.2.1
    exact ⟨by omega, by rw [hns], h5.2⟩) (by rw [nbe]; exact n40) (fun p q1 q2 => by
    rw [hnI p q1 q2]
    have := hcd p.toNat (by omega)
    rw [Int.toNat_of_nonneg q1] at this
    exact ⟨this.1, this.2.1⟩)
  rw [nbe] at p3 p4
  have a1 : G3 (B + 150 + 1) = G2 (B + 150 + 1) := p1 _ (by omega) (by omega)
  refine ⟨G3, fun x q => by rw [p1 x (by omega) (by omega), f2.1 x (by omega) (by omega)], ⟨by rw [p2 _ (by omega) (by omega)]; exact cb2.2.1, p3, p4, by rw [a1]; exact hn, by rw [a1]; exact p5⟩, fun K => ?_⟩
  have lw : ∀ (Kn : List Value → q_M → Prop) (Kr : Option Value → q_M → Prop), wX10_loadFound_0 [.ref (B + 59), .ref (tvA B v), .int (zI k), .int (zI 0)] (st T nx 0 0 R G1) Kn Kr = Kn [.ref (B + 59), .ref (tvA B v), .int (zI k), .int (zI w.length)] (st T nx 0 0 R G2) := eX10_loadFound_0.eqn (c2 _ _ ⟨rfl, rfl⟩)
  clear key kia rows r1 r3 ok hcd lfl n5 pr d0 c2 hnI hn
  simp (disch := omega) only [↓fX10_loadFound.eq_1, ↓uX10_loadFound, ↓k_mk, ↓k_sq, ↓k_sk, ↓k_bk, ↓k_if, ↓k_te, ↓k_cm, ↓k_cz, ↓k_an2, ↓k_or2, ↓k_no, ↓k_ci, ↓k_l0, ↓k_r0, ↓k_se0, ↓k_ic0, ↓k_l1, ↓k_r1, ↓k_se1, ↓k_ic1, ↓k_de1, ↓k_tk1, ↓k_l2, ↓k_r2, ↓k_se2, ↓k_ic2, ↓k_de2, ↓k_tk2, ↓k_l3, ↓k_r3, ↓k_se3, ↓k_ic3, ↓k_de3, ↓k_tk3, ↓k_l4, ↓k_r4, ↓k_se4, ↓k_ic4, ↓k_de4, ↓k_tk4, ↓k_l5, ↓k_r5, ↓k_se5, ↓k_ic5, ↓k_de5, ↓k_tk5, ↓k_l6, ↓k_r6, ↓k_se6, ↓k_ic6, ↓k_de6, ↓k_tk6, ↓k_l7, ↓k_r7, ↓k_se7, ↓k_ic7, ↓k_de7, ↓k_tk7, ↓k_l8, ↓k_r8, ↓k_se8, ↓k_ic8, ↓k_de8, ↓k_tk8, ↓k_l9, ↓k_r9, ↓k_se9, ↓k_ic9, ↓k_de9, ↓k_tk9, ↓k_l10, ↓k_r10, ↓k_se10, ↓k_ic10, ↓k_de10, ↓k_tk10, ↓k_l11, ↓k_r11, ↓k_se11, ↓k_ic11, ↓k_de11, ↓k_tk11, ↓k_l12, ↓k_r12, ↓k_se12, ↓k_ic12, ↓k_de12, ↓k_tk12, ↓k_l13, ↓k_r13, ↓k_se13, ↓k_ic13, ↓k_de13, ↓k_tk13, ↓k_l14, ↓k_r14, ↓k_se14, ↓k_ic14, ↓k_de14, ↓k_tk14, ↓k_l15, ↓k_r15, ↓k_se15, ↓k_ic15, ↓k_de15, ↓k_tk15, ↓k_l16, ↓k_r16, ↓k_se16, ↓k_ic16, ↓k_de16, ↓k_tk16, ↓k_l17, ↓k_r17, ↓k_se17, ↓k_ic17, ↓k_de17, ↓k_tk17, ↓k_l18, ↓k_r18, ↓k_se18, ↓k_ic18, ↓k_de18, ↓k_tk18, ↓k_l19, ↓k_r19, ↓k_se19, ↓k_ic19, ↓k_de19, ↓k_tk19, ↓k_l20, ↓k_r20, ↓k_se20, ↓k_ic20, ↓k_de20, ↓k_tk20, ↓k_l21, ↓k_r21, ↓k_se21, ↓k_ic21, ↓k_de21, ↓k_tk21, ↓k_l22, ↓k_r22, ↓k_se22, ↓k_ic22, ↓k_de22, ↓k_tk22, ↓k_l23, ↓k_r23, ↓k_se23, ↓k_ic23, ↓k_de23, ↓k_tk23, ↓k_l24, ↓k_r24, ↓k_se24, ↓k_ic24, ↓k_de24, ↓k_tk24, ↓k_l25, ↓k_r25, ↓k_se25, ↓k_ic25, ↓k_de25, ↓k_tk25, ↓k_k, ↓k_kn, ↓k_kl, ↓k_kln, ↓k_il, ↓k_2, ↓k_1, ↓k_2c, ↓k_2l, ↓k_ac, ↓k_an, ↓k_cs, ↓k_cv, ↓k_fi, ↓k_fr, ↓k_ai, ↓k_az, ↓k_ar, ↓k_sai, ↓k_saz, ↓k_soa, ↓k_sof, ↓k_spf, ↓k_sx, ↓k_blk, ↓k_sset, ↓k_sdec, ↓k_sri, ↓k_srv, ↓k_srr, ↓k_nop, ↓k_add, ↓k_sub, ↓k_mul, ↓k_min, ↓k_max, ↓k_shr, ↓k_shl, ↓k_or, ↓k_ilz, ↓k_addl, ↓k_rt, ↓k_rb, ↓k_rbz, ↓k_rsi, ↓k_rsr, ↓k_rsv, ↓reduceIte, ↓(k_cv1 dX9_start (t9 hA)), ↓cS, ↓lw, ↓(k_cv1 dX9_index (t9 hA)), ↓p6, ↓xr10_16 oT, ↓xr8_5 o8, ↓xa8_5 o8, ↓xs8_5 o8, ↓xo8_5 o8, ↓xc8_5 o8, ↓xd8_5 o8, List.length_cons, List.length_nil, List.forall_mem_cons, List.not_mem_nil, Value.category, true_and, and_true, false_and, and_false, or_true, true_or, or_false, false_or, Nat.zero_le, forall_const, implies_true, false_implies, Nat.zero_add, Nat.reduceAdd, Nat.reduceLT, Nat.reduceLeDiff, Nat.le_refl, not_true_eq_false, not_false_eq_true, r_eq, r_ne, r_lt, r_ge, r_gt, r_le, bz_ne, nn_toNat, cn_of, cn_0, cn_1, i10, Int.reduceLE, Int.reduceLT, Int.reduceEq, bz_T, bz_F, ite_self, mulc, st_bud]
end
