section
/-! kept: the reference's trees, told by words -/
/-- low cells of one memory, high ones of another -/
def mixM (B : Nat) (G0 Gr : Nat → Int → Int) : Nat → Int → Int := fun x => if x < B + 544 then G0 x else Gr x
theorem mix_lo {B x : Nat} {G0 Gr : Nat → Int → Int} (h : x < B + 544) : mixM B G0 Gr x = G0 x := if_pos h
theorem mix_hi {B x : Nat} {G0 Gr : Nat → Int → Int} (h : B + 544 ≤ x) : mixM B G0 Gr x = Gr x := if_neg (by omega)
theorem mix_id {B : Nat} {G X : Nat → Int → Int} (h : ∀ x, B + 544 ≤ x → X x = G x) : (fun x => if x < B + 544 then G x else X x) = G := by
  funext x
  by_cases q : x < B + 544
  · exact if_pos q
  · show (if x < B + 544 then G x else X x) = G x
    rw [if_neg q]
    exact h x (by omega)
/-- row i of the reference holds w (tellings as in G0) -/
def RowR (G0 Gr : Nat → Int → Int) (B : Nat) (i v : Int) (w : List Int) : Prop := GW1 G0 B v w ∧ BS (G0 (tvA B v + 5)) (wf w) Gr B i v w.length
/-- what the reference's search leaves of the first memory -/
def KF (G0 Gr : Nat → Int → Int) (B : Nat) : Prop := (∀ i, 0 ≤ i → i ≤ 31 → RowE G0 Gr B i) ∧ (∀ x, B + 544 + 2 ≤ x → x ≤ B + 544 + 12 → Gr x = G0 x)
theorem KF_m {G0 Gr : Nat → Int → Int} {B : Nat} (iFm : IFm G0 B) (kf : KF G0 Gr B) : IFm (mixM B G0 Gr) B := IFm_congr (fun x q1 q2 _ _ => mix_lo (by omega)) (fun x q1 q2 => by rw [mix_hi (by omega)]; exact kf.2 x q1 q2) iFm
theorem RowR_m {G0 Gr : Nat → Int → Int} {B : Nat} {i v : Int} {w : List Int} (kv : 0 ≤ v ∧ v ≤ 1) (r : RowR G0 Gr B i v w) : RowW (mixM B G0 Gr) B i v w := by
  have tvb : B + 370 ≤ tvA B v ∧ tvA B v + 14 ≤ B + 398 := by unfold tvA; omega
  have e0 : mixM B G0 Gr (tvA B v) = G0 (tvA B v) := mix_lo (by omega)
  have e5 : mixM B G0 Gr (tvA B v + 5) = G0 (tvA B v + 5) := mix_lo (by omega)
  have e6 : mixM B G0 Gr (tvA B v + 6) = G0 (tvA B v + 6) := mix_lo (by omega)
  obtain ⟨⟨k, pw⟩, bs⟩ := r
  refine ⟨⟨k.elim fun k h => ⟨k, by rw [e0, e5, e6]; exact h⟩, pw⟩, ?_⟩
  rw [e5]
  exact BS_congr (fun x q1 q2 => mix_hi (by omega)) bs
/-- the root's name -/
def rootW (w : List Int) : Int := if 1000 ≤ wf w 0 then 1000 else wf w 0
theorem BS_root {G0 Gr : Nat → Int → Int} {B : Nat} {i v : Int} {w : List Int} (iFm : IFm G0 B) (kv : 0 ≤ v ∧ v ≤ 1) (r : RowR G0 Gr B i v w) : Gr (B + 544 + 16) i = v ∧ Gr (B + 544 + 17) i = nb (wf w) w.length ∧ (1000 ≤ wf w 0 → 1 ≤ nb (wf w) w.length) ∧ (¬ 1000 ≤ wf w 0 → nb (wf w) w.length = 0 ∧ Gr (B + 544 + 18) i = wf w 0) := by
  obtain ⟨g, b1, b2, b3⟩ := r
  obtain ⟨n5, pr, d0, ok, len1, len201, hcd, lf⟩ := GW_row iFm kv g
  refine ⟨b1, b2, fun l => ?_, fun l => ?_⟩
  · have := nb_lt (wf w) (show 0 < w.length by omega) l
    have := nb_b (wf w) 0
    omega
  · have l' : ¬ 1000 ≤ wf w ((0 : Nat) : Int) := l
    have e := dd_s (G0 (tvA B v + 5)) (wf w) 0
    rw [if_neg l'] at e
    have z0 : dd (G0 (tvA B v + 5)) (wf w) 0 = 1 := rfl
    have l1 : w.length = 1 := by
      refine Decidable.byContradiction fun q => ?_
      have a : 1 ≤ dd (G0 (tvA B v + 5)) (wf w) (0 + 1) := pr.1 1 (by omega)
      omega
    refine ⟨by rw [l1, nb_s, if_neg l']; rfl, ?_⟩
    exact ((b3 0 (by omega) (-1, 0) rfl).2 l').1 (by show (-1 : Int) < 0; omega)
theorem k_root {T : Nat → Option q_T} {nx B : Nat} {R : Nat → Nat → Option Value} {G0 Gr : Nat → Int → Int} {i v : Int} {w : List Int} (hM : Ly T R (B + 544) (L12 (B + 544))) (iFm : IFm G0 B) (kv : 0 ≤ v ∧ v ≤ 1) (i0 : 0 ≤ i) (i1 : i < 100) (r : RowR G0 Gr B i v w) (K : Option Value → q_M → Prop) : fX12_rootPiece [.ref (B + 544), .int (zI i)] (st T nx 0 0 R Gr) K = K (some (.int (zI (rootW w)))) (st T nx 0 0 R Gr) := by
  obtain ⟨b1, b2, b3, b4⟩ := BS_root iFm kv r
  obtain ⟨n5, pr, d0, ok, len1, len201, hcd, lf⟩ := GW_row iFm kv r.1
  have n40 := r.1.2
  obtain ⟨N, hN⟩ : ∃ N, N = nb (wf w) w.length := ⟨_, rfl⟩
  have h0 := hcd 0 (by omega)
  rw [show (((0 : Nat) : Int)) = 0 from rfl] at h0
  rw [← hN] at b2 b3 b4 n40
  unfold rootW
  by_cases l : 1000 ≤ wf w 0
  · rw [if_pos l]
    have g : 0 < N := by
      have := b3 l
      omega
    clear b3 b4 r ok hcd lf n5 pr
    simp (disch := omega) only [↓fX12_rootPiece.eq_1, ↓sX12_rootPiece_.eq_1, ↓k_mk, ↓k_sq, ↓k_sk, ↓k_bk, ↓k_if, ↓k_te, ↓k_cm, ↓k_cz, ↓k_an2, ↓k_or2, ↓k_no, ↓k_ci, ↓k_l0, ↓k_r0, ↓k_se0, ↓k_ic0, ↓k_l1, ↓k_r1, ↓k_se1, ↓k_ic1, ↓k_de1, ↓k_tk1, ↓k_l2, ↓k_r2, ↓k_se2, ↓k_ic2, ↓k_de2, ↓k_tk2, ↓k_l3, ↓k_r3, ↓k_se3, ↓k_ic3, ↓k_de3, ↓k_tk3, ↓k_l4, ↓k_r4, ↓k_se4, ↓k_ic4, ↓k_de4, ↓k_tk4, ↓k_l5, ↓k_r5, ↓k_se5, ↓k_ic5, ↓k_de5, ↓k_tk5, ↓k_l6, ↓k_r6, ↓k_se6, ↓k_ic6, ↓k_de6, ↓k_tk6, ↓k_l7, ↓k_r7, ↓k_se7, ↓k_ic7, ↓k_de7, ↓k_tk7, ↓k_l8, ↓k_r8, ↓k_se8, ↓k_ic8, ↓k_de8, ↓k_tk8, ↓k_l9, ↓k_r9, ↓k_se9, ↓k_ic9, ↓k_de9, ↓k_tk9, ↓k_l10, ↓k_r10, ↓k_se10, ↓k_ic10, ↓k_de10, ↓k_tk10, ↓k_l11, ↓k_r11, ↓k_se11, ↓k_ic11, ↓k_de11, ↓k_tk11, ↓k_l12, ↓k_r12, ↓k_se12, ↓k_ic12, ↓k_de12, ↓k_tk12, ↓k_l13, ↓k_r13, ↓k_se13, ↓k_ic13, ↓k_de13, ↓k_tk13, ↓k_l14, ↓k_r14, ↓k_se14, ↓k_ic14, ↓k_de14, ↓k_tk14, ↓k_l15, ↓k_r15, ↓k_se15, ↓k_ic15, ↓k_de15, ↓k_tk15, ↓k_l16, ↓k_r16, ↓k_se16, ↓k_ic16, ↓k_de16, ↓k_tk16, ↓k_l17, ↓k_r17, ↓k_se17, ↓k_ic17, ↓k_de17, ↓k_tk17, ↓k_l18, ↓k_r18, ↓k_se18, ↓k_ic18, ↓k_de18, ↓k_tk18, ↓k_l19, ↓k_r19, ↓k_se19, ↓k_ic19, ↓k_de19, ↓k_tk19, ↓k_l20, ↓k_r20, ↓k_se20, ↓k_ic20, ↓k_de20, ↓k_tk20, ↓k_l21, ↓k_r21, ↓k_se21, ↓k_ic21, ↓k_de21, ↓k_tk21, ↓k_l22, ↓k_r22, ↓k_se22, ↓k_ic22, ↓k_de22, ↓k_tk22, ↓k_l23, ↓k_r23, ↓k_se23, ↓k_ic23, ↓k_de23, ↓k_tk23, ↓k_l24, ↓k_r24, ↓k_se24, ↓k_ic24, ↓k_de24, ↓k_tk24, ↓k_l25, ↓k_r25, ↓k_se25, ↓k_ic25, ↓k_de25, ↓k_tk25, ↓k_k, ↓k_kn, ↓k_kl, ↓k_kln, ↓k_il, ↓k_2, ↓k_1, ↓k_2c, ↓k_2l, ↓k_ac, ↓k_an, ↓k_cs, ↓k_cv, ↓k_fi, ↓k_fr, ↓k_ai, ↓k_az, ↓k_ar, ↓k_sai, ↓k_saz, ↓k_soa, ↓k_sof, ↓k_spf, ↓k_sx, ↓k_blk, ↓k_sset, ↓k_sdec, ↓k_sri, ↓k_srv, ↓k_srr, ↓k_nop, ↓k_add, ↓k_sub, ↓k_mul, ↓k_min, ↓k_max, ↓k_shr, ↓k_shl, ↓k_or, ↓k_ilz, ↓k_addl, ↓k_rt, ↓k_rb, ↓k_rbz, ↓k_rsi, ↓k_rsr, ↓k_rsv, ↓reduceIte, b2, g, ↓xr12_16 hM, ↓xa12_16 hM, ↓xs12_16 hM, ↓xo12_16 hM, ↓xc12_16 hM, ↓xd12_16 hM, ↓xr12_17 hM, ↓xa12_17 hM, ↓xs12_17 hM, ↓xo12_17 hM, ↓xc12_17 hM, ↓xd12_17 hM, List.length_cons, List.length_nil, List.forall_mem_cons, List.not_mem_nil, Value.category, true_and, and_true, false_and, and_false, or_true, true_or, or_false, false_or, Nat.zero_le, forall_const, implies_true, false_implies, Nat.zero_add, Nat.reduceAdd, Nat.reduceLT, Nat.reduceLeDiff, Nat.le_refl, not_true_eq_false, not_false_eq_true, r_eq, r_ne, r_lt, r_ge, r_gt, r_le, bz_ne, nn_toNat, cn_of, cn_0, cn_1, i10, Int.reduceLE, Int.reduceLT, Int.reduceEq, bz_T, bz_F, ite_self, mulc, st_bud]
  · rw [if_neg l]
    obtain ⟨e, e2⟩ := b4 l
    rw [e] at b2
    obtain ⟨y, hy⟩ : ∃ y, y = wf w 0 := ⟨_, rfl⟩
    rw [← hy] at e2 h0 ⊢
    clear b3 b4 r ok hcd lf n5 pr hN
    simp (disch := omega) only [↓fX12_rootPiece.eq_1, ↓sX12_rootPiece_.eq_1, ↓k_mk, ↓k_sq, ↓k_sk, ↓k_bk, ↓k_if, ↓k_te, ↓k_cm, ↓k_cz, ↓k_an2, ↓k_or2, ↓k_no, ↓k_ci, ↓k_l0, ↓k_r0, ↓k_se0, ↓k_ic0, ↓k_l1, ↓k_r1, ↓k_se1, ↓k_ic1, ↓k_de1, ↓k_tk1, ↓k_l2, ↓k_r2, ↓k_se2, ↓k_ic2, ↓k_de2, ↓k_tk2, ↓k_l3, ↓k_r3, ↓k_se3, ↓k_ic3, ↓k_de3, ↓k_tk3, ↓k_l4, ↓k_r4, ↓k_se4, ↓k_ic4, ↓k_de4, ↓k_tk4, ↓k_l5, ↓k_r5, ↓k_se5, ↓k_ic5, ↓k_de5, ↓k_tk5, ↓k_l6, ↓k_r6, ↓k_se6, ↓k_ic6, ↓k_de6, ↓k_tk6, ↓k_l7, ↓k_r7, ↓k_se7, ↓k_ic7, ↓k_de7, ↓k_tk7, ↓k_l8, ↓k_r8, ↓k_se8, ↓k_ic8, ↓k_de8, ↓k_tk8, ↓k_l9, ↓k_r9, ↓k_se9, ↓k_ic9, ↓k_de9, ↓k_tk9, ↓k_l10, ↓k_r10, ↓k_se10, ↓k_ic10, ↓k_de10, ↓k_tk10, ↓k_l11, ↓k_r11, ↓k_se11, ↓k_ic11, ↓k_de11, ↓k_tk11, ↓k_l12, ↓k_r12, ↓k_se12, ↓k_ic12, ↓k_de12, ↓k_tk12, ↓k_l13, ↓k_r13, ↓k_se13, ↓k_ic13, ↓k_de13, ↓k_tk13, ↓k_l14, ↓k_r14, ↓k_se14, ↓k_ic14, ↓k_de14, ↓k_tk14, ↓k_l15, ↓k_r15, ↓k_se15, ↓k_ic15, ↓k_de15, ↓k_tk15, ↓k_l16, ↓k_r16, ↓k_se16, ↓k_ic16, ↓k_de16, ↓k_tk16, ↓k_l17, ↓k_r17, ↓k_se17, ↓k_ic17, ↓k_de17, ↓k_tk17, ↓k_l18, ↓k_r18, ↓k_se18, ↓k_ic18, ↓k_de18, ↓k_tk18, ↓k_l19, ↓k_r19, ↓k_se19, ↓k_ic19, ↓k_de19, ↓k_tk19, ↓k_l20, ↓k_r20, ↓k_se20, ↓k_ic20, ↓k_de20, ↓k_tk20, ↓k_l21, ↓k_r21, ↓k_se21, ↓k_ic21, ↓k_de21, ↓k_tk21, ↓k_l22, ↓k_r22, ↓k_se22, ↓k_ic22, ↓k_de22, ↓k_tk22, ↓k_l23, ↓k_r23, ↓k_se23, ↓k_ic23, ↓k_de23, ↓k_tk23, ↓k_l24, ↓k_r24, ↓k_se24, ↓k_ic24, ↓k_de24, ↓k_tk24, ↓k_l25, ↓k_r25, ↓k_se25, ↓k_ic25, ↓k_de25, ↓k_tk25, ↓k_k, ↓k_kn, ↓k_kl, ↓k_kln, ↓k_il, ↓k_2, ↓k_1, ↓k_2c, ↓k_2l, ↓k_ac, ↓k_an, ↓k_cs, ↓k_cv, ↓k_fi, ↓k_fr, ↓k_ai, ↓k_az, ↓k_ar, ↓k_sai, ↓k_saz, ↓k_soa, ↓k_sof, ↓k_spf, ↓k_sx, ↓k_blk, ↓k_sset, ↓k_sdec, ↓k_sri, ↓k_srv, ↓k_srr, ↓k_nop, ↓k_add, ↓k_sub, ↓k_mul, ↓k_min, ↓k_max, ↓k_shr, ↓k_shl, ↓k_or, ↓k_ilz, ↓k_addl, ↓k_rt, ↓k_rb, ↓k_rbz, ↓k_rsi, ↓k_rsr, ↓k_rsv, ↓reduceIte, b2, e2, ↓xr12_16 hM, ↓xa12_16 hM, ↓xs12_16 hM, ↓xo12_16 hM, ↓xc12_16 hM, ↓xd12_16 hM, ↓xr12_17 hM, ↓xa12_17 hM, ↓xs12_17 hM, ↓xo12_17 hM, ↓xc12_17 hM, ↓xd12_17 hM, List.length_cons, List.length_nil, List.forall_mem_cons, List.not_mem_nil, Value.category, true_and, and_true, false_and, and_false, or_true, true_or, or_false, false_or, Nat.zero_le, forall_const, implies_true, false_implies, Nat.zero_add, Nat.reduceAdd, Nat.reduceLT, Nat.reduceLeDiff, Nat.le_refl, not_true_eq_false, not_false_eq_true, r_eq, r_ne, r_lt, r_ge, r_gt, r_le, bz_ne, nn_toNat, cn_of, cn_0, cn_1, i10, Int.reduceLE, Int.reduceLT, Int.reduceEq, bz_T, bz_F, ite_self, mulc, st_bud]
theorem tv_b {B : Nat} {v : Int} (kv : 0 ≤ v ∧ v ≤ 1) : B + 370 ≤ tvA B v ∧ tvA B v + 14 ≤ B + 398 := by unfold tvA; omega
theorem k_like {T : Nat → Option q_T} {nx B : Nat} {R : Nat → Nat → Option Value} {G0 Gr : Nat → Int → Int} {i j v : Int} {w w' : List Int} (hM : Ly T R (B + 544) (L12 (B + 544))) (iFm : IFm G0 B) (kv : 0 ≤ v ∧ v ≤ 1) (kf : KF G0 Gr B) (i0 : 0 ≤ i) (i1 : i < 100) (j0 : 0 ≤ j) (j1 : j < 100) (r1 : RowR G0 Gr B i v w) (r2 : RowR G0 Gr B j v w') :
    ∃ r : Int, ((r = 1 ∧ w = w') ∨ (r = 0 ∧ ¬ w = w')) ∧ ∀ K : Option Value → q_M → Prop, fX12_areLike [.ref (B + 544), .int (zI i), .int (zI (rootW w)), .int (zI j), .int (zI (rootW w'))] (st T nx 0 0 R Gr) K = K (some (.int (zI r))) (st T nx 0 0 R Gr) := by
  have tvb := tv_b (B := B) kv
  obtain ⟨M0, e0⟩ : ∃ M, M = mixM B G0 Gr := ⟨_, rfl⟩
  have iF0 : IFm M0 B := by rw [e0]; exact KF_m iFm kf
  have n5e : M0 (tvA B v + 5) = (G0 (tvA B v + 5)) := by rw [e0]; exact mix_lo (by omega)
  have w0 : RowW M0 B i v w := by rw [e0]; exact RowR_m kv r1
  have w0' : RowW M0 B j v w' := by rw [e0]; exact RowR_m kv r2
  obtain ⟨M1, e1⟩ : ∃ M, M = fab M0 (B + 398) v (M0 (tvA B v + 5)) w := ⟨_, rfl⟩
  obtain ⟨t1, iF1⟩ := fab_tok (a := B + 398) iF0 kv (Or.inr (by omega)) w0
  rw [← e1] at t1 iF1
  have ne1 : ∀ x, ¬ (B + 398 ≤ x ∧ x ≤ B + 398 + 8) → M1 x = M0 x := fun x q => by rw [e1]; exact fab_ne q
  have x50 : M1 (tvA B v) = M0 (tvA B v) := ne1 _ (by omega)
  have x55 : M1 (tvA B v + 5) = M0 (tvA B v + 5) := ne1 _ (by omega)
  have x56 : M1 (tvA B v + 6) = M0 (tvA B v + 6) := ne1 _ (by omega)
  have w1' : RowW M1 B j v w' := by
    obtain ⟨⟨k, h40⟩, bs⟩ := w0'
    refine ⟨⟨k.elim fun k h => ⟨k, by rw [x50, x55, x56]; exact h⟩, h40⟩, ?_⟩
    rw [x55]
    exact BS_congr (fun x q1 q2 => ne1 x (by omega)) bs
  obtain ⟨M2, e2⟩ : ∃ M, M = fab M1 (B + 408) v (M1 (tvA B v + 5)) w' := ⟨_, rfl⟩
  obtain ⟨t2, iF2⟩ := fab_tok (a := B + 408) iF1 kv (Or.inr (by omega)) w1'
  rw [← e2] at t2 iF2
  have ne2 : ∀ x, ¬ (B + 408 ≤ x ∧ x ≤ B + 408 + 8) → M2 x = M1 x := fun x q => by rw [e2]; exact fab_ne q
  have t1' : TOK M2 B 1 i v (B + 398) := TOK_row iF1 (fun x q1 q2 => ne2 x (by omega)) (fun x q1 q2 => ne2 x (by omega)) (RowE_of fun x q1 q2 => ne2 x (by omega)) t1
  obtain ⟨⟨_, f2, _, _⟩, g1, g2, _, _, g6, _, _⟩ := fab_is (G := M0) (a := B + 398) (v := v) (ns := M0 (tvA B v + 5)) (w := w)
  obtain ⟨⟨_, k2, _, _⟩, h1, h2, _, _, h6, _, _⟩ := fab_is (G := M1) (a := B + 408) (v := v) (ns := M1 (tvA B v + 5)) (w := w')
  rw [← e1] at f2 g1 g2 g6
  rw [← e2] at k2 h1 h2 h6
  have f2 : M2 (B + 398) 2 = (w.length : Int) := by rw [ne2 _ (by omega)]; exact f2
  have g1 : M2 (B + 398 + 1) = wf w := by rw [ne2 _ (by omega)]; exact g1
  have g2 : M2 (B + 398 + 2) = eE (M0 (tvA B v + 5)) (wf w) := by rw [ne2 _ (by omega)]; exact g2
  have g6 : M2 (B + 398 + 6) = (fun p => if 1000 ≤ wf w p then nb (wf w) p.toNat else p - nb (wf w) p.toNat) := by rw [ne2 _ (by omega)]; exact g6
  obtain ⟨_, _, _, _, len1, len201, hcd, _⟩ := GW_row iFm kv r1.1
  obtain ⟨_, _, _, _, len1', len201', hcd', _⟩ := GW_row iFm kv r2.1
  have cdI : ∀ q : Int, 0 ≤ q → q < (w.length : Int) → 20 ≤ wf w q ∧ wf w q ≤ 1013 := fun q q0 q1 => by
    have := hcd q.toNat (by omega)
    rw [Int.toNat_of_nonneg q0] at this
    exact ⟨this.1, this.2.1⟩
  have cdI' : ∀ q : Int, 0 ≤ q → q < (w'.length : Int) → 20 ≤ wf w' q ∧ wf w' q ≤ 1013 := fun q q0 q1 => by
    have := hcd' q.toNat (by omega)
    rw [Int.toNat_of_nonneg q0] at this
    exact ⟨this.1, this.2.1⟩
  obtain ⟨R', s1, s2⟩ := low_sw T nx 0 0 B R Gr
  obtain ⟨y, hy, cL⟩ := c12_like2 (T := T) (nx := nx) (rc := 0) (rs := 0) (R := R') (G := M2) (Gc := M2) (x := 0) (y := 0) (low_M s1 hM) iF2 t1' t2 i0 i1 j0 j1 (Int.le_refl _) (by rw [f2]; omega) (Int.le_refl _) (by rw [k2]; omega) (by rw [f2, g1]; exact cdI) (by rw [k2, h1]; exact cdI') (RowE_rfl _ _ _) (RowE_rfl _ _ _) rfl rfl
  have hhi : ∀ x, B + 544 ≤ x → M2 x = Gr x := fun x q => by rw [ne2 x (by omega), ne1 x (by omega), e0]; exact mix_hi q
  have pcr : ∀ u : List Int, pc (wf u) (fun p => if 1000 ≤ wf u p then nb (wf u) p.toNat else p - nb (wf u) p.toNat) 0 = rootW u := fun u => by
    unfold pc rootW
    by_cases l : 1000 ≤ wf u 0
    · rw [if_pos l, if_pos l]
      show 1000 + (if 1000 ≤ wf u 0 then nb (wf u) (0 : Int).toNat else 0 - nb (wf u) (0 : Int).toNat) = 1000
      rw [if_pos l]
      rfl
    · rw [if_neg l, if_neg l]
  have eL : M2 (B + 398 + 2) 0 = (w.length : Int) := by
    have := t1'.2.2.2.1.1.2.2.2.2.2.2.1
    rw [f2] at this
    exact this
  have eL' : M2 (B + 408 + 2) 0 = (w'.length : Int) := by
    have := t2.2.2.2.1.1.2.2.2.2.2.2.1
    rw [k2] at this
    exact this
  have key : Seg (M2 (B + 398 + 1)) (M2 (B + 398 + 2)) (M2 (B + 408 + 1)) (M2 (B + 408 + 2)) 0 0 ↔ w = w' := by
    unfold Seg
    rw [eL, eL', g1, h1]
    refine ⟨fun ⟨a, b⟩ => wf_ext (by omega) fun q hq => ?_, fun a => ?_⟩
    · have := b q (by omega) (by omega)
      rw [show (0 : Int) + (q : Int) = q by omega] at this
      exact this
    · subst a
      exact ⟨rfl, fun _ _ _ => rfl⟩
  rw [key] at hy
  refine ⟨y, hy, fun K => ?_⟩
  have := cL K
  rw [g1, g6, h1, h6, pcr, pcr, s2 M2, mix_id hhi] at this
  exact this
end
