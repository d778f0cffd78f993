section
/-! find: the reference, one step -/
def RvC (Gs G0 G : Nat → Int → Int) (B : Nat) (i v : Int) (K : Nat) (s : Int) (S : ((Nat → Int) × Int × (Int → Int))) (c : Int → Int) (P : Nat) : Prop := BS (G0 (tvA B v + 5)) c G B i v P ∧ G (B + 544) 107 = dd (G0 (tvA B v + 5)) c P ∧ (∀ (j : Nat) (t : Int × Int), (tgS (G0 (tvA B v + 5)) c P)[j]? = some t → G (B + 544 + 86) (dd (G0 (tvA B v + 5)) c P - 1 - j) = t.1 ∧ G (B + 544 + 87) (dd (G0 (tvA B v + 5)) c P - 1 - j) = t.2 ∧ ∀ k : Nat, k < K → G (B + 544 + 85) (4 * (dd (G0 (tvA B v + 5)) c P - 1 - j) + k) = pc ((fC G0 (B + 59) s) k) (fR G0 (B + 59) s k) (itE ((fE G0 (B + 59) s) k) j (S.1 k))) ∧ G (B + 544) 111 = S.2.1 ∧ (∀ (h : Int) (k : Nat), 0 ≤ h → h < S.2.1 → k < K → G (B + 544 + 88) (4 * h + k) = pc ((fC G0 (B + 59) 0) k) (fR G0 (B + 59) 0 k) (S.2.2 (4 * h + k))) ∧ RvF Gs G B i ∧ Gho G0 G B
theorem sw_T {G0 : Nat → Int → Int} {B : Nat} {K k : Nat} {s v : Int} (sw : SWT G0 B v K) (s0 : 0 ≤ s) (s1 : s ≤ 1) (hk : k < K) : Tr 0 (G0 (tvA B v) 1) (G0 (tvA B v + 5)) (G0 (tvA B v + 6)) ((fN G0 (B + 59) s) k) (G0 ((B + 59) + 111 + 10 * (2 * (k : Int) + s).toNat) 3) (G0 ((B + 59) + 111 + 10 * (2 * (k : Int) + s).toNat) 4) ((fC G0 (B + 59) s) k) ((fE G0 (B + 59) s) k) (G0 ((B + 59) + 111 + 10 * (2 * (k : Int) + s).toNat + 3)) (G0 ((B + 59) + 111 + 10 * (2 * (k : Int) + s).toNat + 4)) (fR G0 (B + 59) s k) (G0 ((B + 59) + 111 + 10 * (2 * (k : Int) + s).toNat + 7)) (G0 ((B + 59) + 111 + 10 * (2 * (k : Int) + s).toNat + 8)) := (sw k s hk s0 s1).1.2.2.2.1
theorem lvR_step {T : Nat → Option q_T} {nx B : Nat} {R : Nat → Nat → Option Value} {Gs G0 : Nat → Int → Int} {K : Nat} {i s v : Int} {z0 : ((Nat → Int) × Int × (Int → Int))} (hM : Ly T R (B + 544) (L12 (B + 544))) (iFm : IFm G0 B) (sw : SWT G0 B v K) (i31 : 31 < i) (i1 : i < 100) (hK : G0 (B + 544) 103 = K) (K1 : 1 ≤ K) (K4 : K ≤ 4) (s0 : 0 ≤ s) (s1 : s ≤ 1) {G : Nat → Int → Int} {P : Nat} (li : LI K (fC G0 (B + 59) s) (fE G0 (B + 59) s) (fC G0 (B + 59) 0) (fE G0 (B + 59) 0) z0 (G0 (tvA B v) 1) (G0 (tvA B v + 5)) (G0 (tvA B v + 6)) (fN G0 (B + 59) s) P) (li2 : LI K (fC G0 (B + 59) s) (fE G0 (B + 59) s) (fC G0 (B + 59) 0) (fE G0 (B + 59) 0) z0 (G0 (tvA B v) 1) (G0 (tvA B v + 5)) (G0 (tvA B v + 6)) (fN G0 (B + 59) s) (P + 1)) (d1 : 1 ≤ dd (G0 (tvA B v + 5)) (lC K (fC G0 (B + 59) s) (fE G0 (B + 59) s) (fC G0 (B + 59) 0) (fE G0 (B + 59) 0) z0) P) (hb : HBd K (fN G0 (B + 59) 0) (lS K (fC G0 (B + 59) s) (fE G0 (B + 59) s) (fC G0 (B + 59) 0) (fE G0 (B + 59) 0) z0 P)) (h0 : 0 ≤ (lS K (fC G0 (B + 59) s) (fE G0 (B + 59) s) (fC G0 (B + 59) 0) (fE G0 (B + 59) 0) z0 P).2.1 ∧ (lS K (fC G0 (B + 59) s) (fE G0 (B + 59) s) (fC G0 (B + 59) 0) (fE G0 (B + 59) 0) z0 P).2.1 ≤ 199) (rv : RvC Gs G0 G B i v K s (lS K (fC G0 (B + 59) s) (fE G0 (B + 59) s) (fC G0 (B + 59) 0) (fE G0 (B + 59) 0) z0 P) (lC K (fC G0 (B + 59) s) (fE G0 (B + 59) s) (fC G0 (B + 59) 0) (fE G0 (B + 59) 0) z0) P) :
    (¬ (s = 1 ∧ ¬ oneX K (fC G0 (B + 59) s) (lS K (fC G0 (B + 59) s) (fE G0 (B + 59) s) (fC G0 (B + 59) 0) (fE G0 (B + 59) 0) z0 P).1 ∧ ¬ 0 ≤ lH K (fC G0 (B + 59) s) (fE G0 (B + 59) s) (fC G0 (B + 59) 0) (fE G0 (B + 59) 0) (lS K (fC G0 (B + 59) s) (fE G0 (B + 59) s) (fC G0 (B + 59) 0) (fE G0 (B + 59) 0) z0 P)) ∧ ∃ G', RvC Gs G0 G' B i v K s (lS K (fC G0 (B + 59) s) (fE G0 (B + 59) s) (fC G0 (B + 59) 0) (fE G0 (B + 59) 0) z0 (P + 1)) (lC K (fC G0 (B + 59) s) (fE G0 (B + 59) s) (fC G0 (B + 59) 0) (fE G0 (B + 59) 0) z0) (P + 1) ∧ ∀ (Kr : Option Value → q_M → Prop) (K' : List Value → q_M → Prop) (Kf : q_M → Prop), K' [.ref (B + 544), .int (zI s), .int (zI i)] (st T nx 0 0 R G') → wcX12_layOver_1 [.ref (B + 544), .int (zI s), .int (zI i)] (st T nx 0 0 R G) (fun μ' => wsX12_layOver_1 [.ref (B + 544), .int (zI s), .int (zI i)] μ' K' Kr) Kf) ∨
      ((s = 1 ∧ ¬ oneX K (fC G0 (B + 59) s) (lS K (fC G0 (B + 59) s) (fE G0 (B + 59) s) (fC G0 (B + 59) 0) (fE G0 (B + 59) 0) z0 P).1 ∧ ¬ 0 ≤ lH K (fC G0 (B + 59) s) (fE G0 (B + 59) s) (fC G0 (B + 59) 0) (fE G0 (B + 59) 0) (lS K (fC G0 (B + 59) s) (fE G0 (B + 59) s) (fC G0 (B + 59) 0) (fE G0 (B + 59) 0) z0 P)) ∧ ∃ G', RvF Gs G' B i ∧ ∀ (Kr : Option Value → q_M → Prop) (K' : List Value → q_M → Prop) (Kf : q_M → Prop), Kr (some (.int (zI 0))) (st T nx 0 0 R G') → wcX12_layOver_1 [.ref (B + 544), .int (zI s), .int (zI i)] (st T nx 0 0 R G) (fun μ' => wsX12_layOver_1 [.ref (B + 544), .int (zI s), .int (zI i)] μ' K' Kr) Kf) := by
  have xb := LI_x li d1
  have p40 : nb (lC K (fC G0 (B + 59) s) (fE G0 (B + 59) s) (fC G0 (B + 59) 0) (fE G0 (B + 59) 0) z0) P ≤ 40 ∧ P ≤ 201 := by
    have := LI_40 (fun k hk => sw_T sw s0 s1 hk) K1 li
    exact ⟨Int.le_trans this.1 this.2.1, this.2.2⟩
  have q40 : nb (lC K (fC G0 (B + 59) s) (fE G0 (B + 59) s) (fC G0 (B + 59) 0) (fE G0 (B + 59) 0) z0) (P + 1) ≤ 40 ∧ P + 1 ≤ 201 := by
    have := LI_40 (fun k hk => sw_T sw s0 s1 hk) K1 li2
    exact ⟨Int.le_trans this.1 this.2.1, this.2.2⟩
  have kv := (sw 0 s (by omega) s0 s1).1.2.2.1
  have F14 := (iFm v kv.1 kv.2).2.2.1
  have eF : G0 (B + 370 + 14 * v.toNat) 1 = (G0 (tvA B v) 1) := rfl
  rw [eF] at F14
  have n5 : ∀ q : Nat, q < P + 1 → 1000 ≤ (lC K (fC G0 (B + 59) s) (fE G0 (B + 59) s) (fC G0 (B + 59) 0) (fE G0 (B + 59) 0) z0) q → (G0 (tvA B v + 5)) ((lC K (fC G0 (B + 59) s) (fE G0 (B + 59) s) (fC G0 (B + 59) 0) (fE G0 (B + 59) 0) z0) q - 1000) ≤ 5 := fun q hq l => (IFm_ns iFm kv (show 0 ≤ (lC K (fC G0 (B + 59) s) (fE G0 (B + 59) s) (fC G0 (B + 59) 0) (fE G0 (B + 59) 0) z0) q - 1000 by omega) ((li2.2.2.2.2.2.2.1 q hq).2 l)).2
  have pr := li.1
  obtain ⟨bs, g107, stv, g111, hls, fr, gh⟩ := rv
  obtain ⟨S, hS⟩ : ∃ S, S = lS K (fC G0 (B + 59) s) (fE G0 (B + 59) s) (fC G0 (B + 59) 0) (fE G0 (B + 59) 0) z0 P := ⟨_, rfl⟩
  have eN : lS K (fC G0 (B + 59) s) (fE G0 (B + 59) s) (fC G0 (B + 59) 0) (fE G0 (B + 59) 0) z0 (P + 1) = lNx K (fC G0 (B + 59) s) (fE G0 (B + 59) s) (fC G0 (B + 59) 0) (fE G0 (B + 59) 0) S := by rw [hS]; rfl
  have ec : (lC K (fC G0 (B + 59) s) (fE G0 (B + 59) s) (fC G0 (B + 59) 0) (fE G0 (B + 59) 0) z0) P = lCd K (fC G0 (B + 59) s) (fE G0 (B + 59) s) (fC G0 (B + 59) 0) (fE G0 (B + 59) 0) S := by rw [hS]; exact lC_at P
  rw [← hS] at hb h0 xb stv g111 hls
  rw [← hS, eN]
  have cPb := li2.2.2.2.2.2.2.1 P (by omega)
  have room := dd_room (ns := (G0 (tvA B v + 5))) (c := (lC K (fC G0 (B + 59) s) (fE G0 (B + 59) s) (fC G0 (B + 59) 0) (fE G0 (B + 59) 0) z0)) (P := P) (fun q hq l => n5 q (by omega) l)
  have room2 := dd_room (ns := (G0 (tvA B v + 5))) (c := (lC K (fC G0 (B + 59) s) (fE G0 (B + 59) s) (fC G0 (B + 59) 0) (fE G0 (B + 59) 0) z0)) (P := P + 1) n5
  have dds := dd_s (G0 (tvA B v + 5)) (lC K (fC G0 (B + 59) s) (fE G0 (B + 59) s) (fC G0 (B + 59) 0) (fE G0 (B + 59) 0) z0) P
  obtain ⟨t, ht, htl⟩ := tg_some pr d1
  obtain ⟨W, hW⟩ : ∃ W, W = dd (G0 (tvA B v + 5)) (lC K (fC G0 (B + 59) s) (fE G0 (B + 59) s) (fC G0 (B + 59) 0) (fE G0 (B + 59) 0) z0) P - 1 := ⟨_, rfl⟩
  obtain ⟨a, ha⟩ : ∃ a, a = t.1 := ⟨_, rfl⟩
  obtain ⟨b, hbb⟩ : ∃ b, b = t.2 := ⟨_, rfl⟩
  have top := stv 0 t ht
  rw [← hW, ← ha, ← hbb, show W - ((0 : Nat) : Int) = W by omega] at top
  obtain ⟨z1, z2, z3⟩ := top
  have hn40 : nb (lC K (fC G0 (B + 59) s) (fE G0 (B + 59) s) (fC G0 (B + 59) 0) (fE G0 (B + 59) 0) z0) P ≤ 40 := by omega
  have Wb : 0 ≤ W ∧ W < 220 := by omega
  obtain ⟨G1, e1⟩ : ∃ M, M = gs G (B + 544) 107 W := ⟨_, rfl⟩
  have f1 : ∀ x, ¬ x = B + 544 → G1 x = G x := fun x q => by rw [e1, gs_ne q]
  have j1 : ∀ j, ¬ j = 107 → G1 (B + 544) j = G (B + 544) j := fun j q => by rw [e1, gs_eq, fu_ne q]
  have w1 : G1 (B + 544) 107 = W := by rw [e1]; exact gs_same _ _ _ _
  have g103 : G (B + 544) 103 = K := by rw [gh.2.2.2, hK]
  have y1 : G1 (B + 544 + 86) W = a := by rw [f1 _ (by omega)]; exact z1
  have y2 : G1 (B + 544 + 87) W = b := by rw [f1 _ (by omega)]; exact z2
  obtain ⟨G2, o1, o2, sO⟩ := lv_own (T := T) (nx := nx) (R := R) (G := G1) (s := s) (i := i) (a := a) (b := b) hM (by rw [j1 _ (by omega)]; exact g103) K4 w1 Wb.1 Wb.2
  have gh2 : Gho G0 G2 B := Gho_s gh (fun x q1 q2 => by rw [o1 x (by omega), f1 x (by omega)]) (by rw [o1 _ (by omega), j1 103 (by omega)])
  have fr2 : RvF Gs G2 B i := RvF_s fr (fun x q1 q2 q3 q4 q5 q6 => by rw [o1 x q6, f1 x q1]) (fun j q1 q2 => by rw [o1 _ (by omega), j1 j q1])
  have ow : ∀ k : Nat, k < K → G2 (B + 544 + 89) k = pc ((fC G0 (B + 59) s) k) (fR G0 (B + 59) s k) (S.1 k) := fun k hk => by
    rw [o2 k hk, f1 _ (by omega)]
    exact z3 k hk
  have bs2 : BS (G0 (tvA B v + 5)) (lC K (fC G0 (B + 59) s) (fE G0 (B + 59) s) (fC G0 (B + 59) 0) (fE G0 (B + 59) 0) z0) G2 B i v P := BS_congr (fun x q1 q2 => by rw [o1 x (by omega), f1 x (by omega)]) bs
  have w2 : G2 (B + 544) 107 = W := by rw [o1 _ (by omega)]; exact w1
  have w111 : G2 (B + 544) 111 = S.2.1 := by rw [o1 _ (by omega), j1 _ (by omega)]; exact g111
  have lN : G2 (B + 544 + 86) = G (B + 544 + 86) := by rw [o1 _ (by omega), f1 _ (by omega)]
  have lT : G2 (B + 544 + 87) = G (B + 544 + 87) := by rw [o1 _ (by omega), f1 _ (by omega)]
  have lP : G2 (B + 544 + 85) = G (B + 544 + 85) := by rw [o1 _ (by omega), f1 _ (by omega)]
  have hR2 : G2 (B + 544 + 88) = G (B + 544 + 88) := by rw [o1 _ (by omega), f1 _ (by omega)]
  obtain ⟨wF, hwF, cF⟩ := c12_isOneForm (nx := nx) hM iFm sw gh2 hK K1 K4 s0 s1 xb ow
  obtain ⟨wL, hwL, cL⟩ := c12_isOneLeaf (nx := nx) hM iFm sw gh2 hK K1 K4 s0 s1 xb ow
  have hg : 0 < dd (G0 (tvA B v + 5)) (lC K (fC G0 (B + 59) s) (fE G0 (B + 59) s) (fC G0 (B + 59) 0) (fE G0 (B + 59) 0) z0) P := by omega
  have sP : ∀ (Kn : List Value → q_M → Prop) (Kr : Option Value → q_M → Prop), q_sof 12 107 q_gisub (q_r 0) (q_k 1) [.ref (B + 544), .int (zI s), .int (zI i)] (st T nx 0 0 R G) Kn Kr = Kn [.ref (B + 544), .int (zI s), .int (zI i)] (st T nx 0 0 R G1) := by
    intro Kn Kr
    have g107' : G (B + 544) 107 = W + 1 := by rw [g107]; omega
    have e5 : W + 1 - 1 = W := by omega
    rw [e1]
    simp (disch := omega) only [↓k_mk, ↓k_sq, ↓k_sk, ↓k_bk, ↓k_if, ↓k_te, ↓k_cm, ↓k_cz, ↓k_an2, ↓k_or2, ↓k_no, ↓k_ci, ↓k_l0, ↓k_r0, ↓k_se0, ↓k_ic0, ↓k_l1, ↓k_r1, ↓k_se1, ↓k_ic1, ↓k_de1, ↓k_tk1, ↓k_l2, ↓k_r2, ↓k_se2, ↓k_ic2, ↓k_de2, ↓k_tk2, ↓k_l3, ↓k_r3, ↓k_se3, ↓k_ic3, ↓k_de3, ↓k_tk3, ↓k_l4, ↓k_r4, ↓k_se4, ↓k_ic4, ↓k_de4, ↓k_tk4, ↓k_l5, ↓k_r5, ↓k_se5, ↓k_ic5, ↓k_de5, ↓k_tk5, ↓k_l6, ↓k_r6, ↓k_se6, ↓k_ic6, ↓k_de6, ↓k_tk6, ↓k_l7, ↓k_r7, ↓k_se7, ↓k_ic7, ↓k_de7, ↓k_tk7, ↓k_l8, ↓k_r8, ↓k_se8, ↓k_ic8, ↓k_de8, ↓k_tk8, ↓k_l9, ↓k_r9, ↓k_se9, ↓k_ic9, ↓k_de9, ↓k_tk9, ↓k_l10, ↓k_r10, ↓k_se10, ↓k_ic10, ↓k_de10, ↓k_tk10, ↓k_l11, ↓k_r11, ↓k_se11, ↓k_ic11, ↓k_de11, ↓k_tk11, ↓k_l12, ↓k_r12, ↓k_se12, ↓k_ic12, ↓k_de12, ↓k_tk12, ↓k_l13, ↓k_r13, ↓k_se13, ↓k_ic13, ↓k_de13, ↓k_tk13, ↓k_l14, ↓k_r14, ↓k_se14, ↓k_ic14, ↓k_de14, ↓k_tk14, ↓k_l15, ↓k_r15, ↓k_se15, ↓k_ic15, ↓k_de15, ↓k_tk15, ↓k_l16, ↓k_r16, ↓k_se16, ↓k_ic16, ↓k_de16, ↓k_tk16, ↓k_l17, ↓k_r17, ↓k_se17, ↓k_ic17, ↓k_de17, ↓k_tk17, ↓k_l18, ↓k_r18, ↓k_se18, ↓k_ic18, ↓k_de18, ↓k_tk18, ↓k_l19, ↓k_r19, ↓k_se19, ↓k_ic19, ↓k_de19, ↓k_tk19, ↓k_l20, ↓k_r20, ↓k_se20, ↓k_ic20, ↓k_de20, ↓k_tk20, ↓k_l21, ↓k_r21, ↓k_se21, ↓k_ic21, ↓k_de21, ↓k_tk21, ↓k_l22, ↓k_r22, ↓k_se22, ↓k_ic22, ↓k_de22, ↓k_tk22, ↓k_l23, ↓k_r23, ↓k_se23, ↓k_ic23, ↓k_de23, ↓k_tk23, ↓k_l24, ↓k_r24, ↓k_se24, ↓k_ic24, ↓k_de24, ↓k_tk24, ↓k_l25, ↓k_r25, ↓k_se25, ↓k_ic25, ↓k_de25, ↓k_tk25, ↓k_k, ↓k_kn, ↓k_kl, ↓k_kln, ↓k_il, ↓k_2, ↓k_1, ↓k_2c, ↓k_2l, ↓k_ac, ↓k_an, ↓k_cs, ↓k_cv, ↓k_fi, ↓k_fr, ↓k_ai, ↓k_az, ↓k_ar, ↓k_sai, ↓k_saz, ↓k_soa, ↓k_sof, ↓k_spf, ↓k_sx, ↓k_blk, ↓k_sset, ↓k_sdec, ↓k_sri, ↓k_srv, ↓k_srr, ↓k_nop, ↓k_add, ↓k_sub, ↓k_mul, ↓k_min, ↓k_max, ↓k_shr, ↓k_shl, ↓k_or, ↓k_ilz, ↓k_addl, ↓k_rt, ↓k_rb, ↓k_rbz, ↓k_rsi, ↓k_rsr, ↓k_rsv, ↓reduceIte, g107', e5, ↓xi12_107 hM, ↓xp12_107 hM, ↓xb12_107 hM, ↓xf12_107 hM, ↓xg12_107 hM, ↓xh12_107 hM, List.length_cons, List.length_nil, List.forall_mem_cons, List.not_mem_nil, Value.category, true_and, and_true, false_and, and_false, or_true, true_or, or_false, false_or, Nat.zero_le, forall_const, implies_true, false_implies, Nat.zero_add, Nat.reduceAdd, Nat.reduceLT, Nat.reduceLeDiff, Nat.le_refl, not_true_eq_false, not_false_eq_true, r_eq, r_ne, r_lt, r_ge, r_gt, r_le, bz_ne, nn_toNat, cn_of, cn_0, cn_1, i10, Int.reduceLE, Int.reduceLT, Int.reduceEq, bz_T, bz_F, ite_self, mulc, st_bud]
  have sD3 : ∀ (Kn : List Value → q_M → Prop) (Kr : Option Value → q_M → Prop), q_sdec Value.int 3 (q_ai (q_fr 12 109 (q_r 0)) (q_fi 12 107 (q_r 0))) [.ref (B + 544), .int (zI s), .int (zI i)] (st T nx 0 0 R G1) Kn Kr = Kn [.ref (B + 544), .int (zI s), .int (zI i), .int (zI a)] (st T nx 0 0 R G1) := by
    intro Kn Kr
    simp (disch := omega) only [↓k_mk, ↓k_sq, ↓k_sk, ↓k_bk, ↓k_if, ↓k_te, ↓k_cm, ↓k_cz, ↓k_an2, ↓k_or2, ↓k_no, ↓k_ci, ↓k_l0, ↓k_r0, ↓k_se0, ↓k_ic0, ↓k_l1, ↓k_r1, ↓k_se1, ↓k_ic1, ↓k_de1, ↓k_tk1, ↓k_l2, ↓k_r2, ↓k_se2, ↓k_ic2, ↓k_de2, ↓k_tk2, ↓k_l3, ↓k_r3, ↓k_se3, ↓k_ic3, ↓k_de3, ↓k_tk3, ↓k_l4, ↓k_r4, ↓k_se4, ↓k_ic4, ↓k_de4, ↓k_tk4, ↓k_l5, ↓k_r5, ↓k_se5, ↓k_ic5, ↓k_de5, ↓k_tk5, ↓k_l6, ↓k_r6, ↓k_se6, ↓k_ic6, ↓k_de6, ↓k_tk6, ↓k_l7, ↓k_r7, ↓k_se7, ↓k_ic7, ↓k_de7, ↓k_tk7, ↓k_l8, ↓k_r8, ↓k_se8, ↓k_ic8, ↓k_de8, ↓k_tk8, ↓k_l9, ↓k_r9, ↓k_se9, ↓k_ic9, ↓k_de9, ↓k_tk9, ↓k_l10, ↓k_r10, ↓k_se10, ↓k_ic10, ↓k_de10, ↓k_tk10, ↓k_l11, ↓k_r11, ↓k_se11, ↓k_ic11, ↓k_de11, ↓k_tk11, ↓k_l12, ↓k_r12, ↓k_se12, ↓k_ic12, ↓k_de12, ↓k_tk12, ↓k_l13, ↓k_r13, ↓k_se13, ↓k_ic13, ↓k_de13, ↓k_tk13, ↓k_l14, ↓k_r14, ↓k_se14, ↓k_ic14, ↓k_de14, ↓k_tk14, ↓k_l15, ↓k_r15, ↓k_se15, ↓k_ic15, ↓k_de15, ↓k_tk15, ↓k_l16, ↓k_r16, ↓k_se16, ↓k_ic16, ↓k_de16, ↓k_tk16, ↓k_l17, ↓k_r17, ↓k_se17, ↓k_ic17, ↓k_de17, ↓k_tk17, ↓k_l18, ↓k_r18, ↓k_se18, ↓k_ic18, ↓k_de18, ↓k_tk18, ↓k_l19, ↓k_r19, ↓k_se19, ↓k_ic19, ↓k_de19, ↓k_tk19, ↓k_l20, ↓k_r20, ↓k_se20, ↓k_ic20, ↓k_de20, ↓k_tk20, ↓k_l21, ↓k_r21, ↓k_se21, ↓k_ic21, ↓k_de21, ↓k_tk21, ↓k_l22, ↓k_r22, ↓k_se22, ↓k_ic22, ↓k_de22, ↓k_tk22, ↓k_l23, ↓k_r23, ↓k_se23, ↓k_ic23, ↓k_de23, ↓k_tk23, ↓k_l24, ↓k_r24, ↓k_se24, ↓k_ic24, ↓k_de24, ↓k_tk24, ↓k_l25, ↓k_r25, ↓k_se25, ↓k_ic25, ↓k_de25, ↓k_tk25, ↓k_k, ↓k_kn, ↓k_kl, ↓k_kln, ↓k_il, ↓k_2, ↓k_1, ↓k_2c, ↓k_2l, ↓k_ac, ↓k_an, ↓k_cs, ↓k_cv, ↓k_fi, ↓k_fr, ↓k_ai, ↓k_az, ↓k_ar, ↓k_sai, ↓k_saz, ↓k_soa, ↓k_sof, ↓k_spf, ↓k_sx, ↓k_blk, ↓k_sset, ↓k_sdec, ↓k_sri, ↓k_srv, ↓k_srr, ↓k_nop, ↓k_add, ↓k_sub, ↓k_mul, ↓k_min, ↓k_max, ↓k_shr, ↓k_shl, ↓k_or, ↓k_ilz, ↓k_addl, ↓k_rt, ↓k_rb, ↓k_rbz, ↓k_rsi, ↓k_rsr, ↓k_rsv, ↓reduceIte, w1, y1, ↓xi12_107 hM, ↓xp12_107 hM, ↓xb12_107 hM, ↓xf12_107 hM, ↓xg12_107 hM, ↓xh12_107 hM, ↓xr12_109 hM, ↓xa12_109 hM, ↓xs12_109 hM, ↓xo12_109 hM, ↓xc12_109 hM, ↓xd12_109 hM, List.length_cons, List.length_nil, List.forall_mem_cons, List.not_mem_nil, Value.category, true_and, and_true, false_and, and_false, or_true, true_or, or_false, false_or, Nat.zero_le, forall_const, implies_true, false_implies, Nat.zero_add, Nat.reduceAdd, Nat.reduceLT, Nat.reduceLeDiff, Nat.le_refl, not_true_eq_false, not_false_eq_true, r_eq, r_ne, r_lt, r_ge, r_gt, r_le, bz_ne, nn_toNat, cn_of, cn_0, cn_1, i10, Int.reduceLE, Int.reduceLT, Int.reduceEq, bz_T, bz_F, ite_self, mulc, st_bud]
  have sD4 : ∀ (Kn : List Value → q_M → Prop) (Kr : Option Value → q_M → Prop), q_sdec Value.int 4 (q_ai (q_fr 12 110 (q_r 0)) (q_fi 12 107 (q_r 0))) [.ref (B + 544), .int (zI s), .int (zI i), .int (zI a)] (st T nx 0 0 R G1) Kn Kr = Kn [.ref (B + 544), .int (zI s), .int (zI i), .int (zI a), .int (zI b)] (st T nx 0 0 R G1) := by
    intro Kn Kr
    simp (disch := omega) only [↓k_mk, ↓k_sq, ↓k_sk, ↓k_bk, ↓k_if, ↓k_te, ↓k_cm, ↓k_cz, ↓k_an2, ↓k_or2, ↓k_no, ↓k_ci, ↓k_l0, ↓k_r0, ↓k_se0, ↓k_ic0, ↓k_l1, ↓k_r1, ↓k_se1, ↓k_ic1, ↓k_de1, ↓k_tk1, ↓k_l2, ↓k_r2, ↓k_se2, ↓k_ic2, ↓k_de2, ↓k_tk2, ↓k_l3, ↓k_r3, ↓k_se3, ↓k_ic3, ↓k_de3, ↓k_tk3, ↓k_l4, ↓k_r4, ↓k_se4, ↓k_ic4, ↓k_de4, ↓k_tk4, ↓k_l5, ↓k_r5, ↓k_se5, ↓k_ic5, ↓k_de5, ↓k_tk5, ↓k_l6, ↓k_r6, ↓k_se6, ↓k_ic6, ↓k_de6, ↓k_tk6, ↓k_l7, ↓k_r7, ↓k_se7, ↓k_ic7, ↓k_de7, ↓k_tk7, ↓k_l8, ↓k_r8, ↓k_se8, ↓k_ic8, ↓k_de8, ↓k_tk8, ↓k_l9, ↓k_r9, ↓k_se9, ↓k_ic9, ↓k_de9, ↓k_tk9, ↓k_l10, ↓k_r10, ↓k_se10, ↓k_ic10, ↓k_de10, ↓k_tk10, ↓k_l11, ↓k_r11, ↓k_se11, ↓k_ic11, ↓k_de11, ↓k_tk11, ↓k_l12, ↓k_r12, ↓k_se12, ↓k_ic12, ↓k_de12, ↓k_tk12, ↓k_l13, ↓k_r13, ↓k_se13, ↓k_ic13, ↓k_de13, ↓k_tk13, ↓k_l14, ↓k_r14, ↓k_se14, ↓k_ic14, ↓k_de14, ↓k_tk14, ↓k_l15, ↓k_r15, ↓k_se15, ↓k_ic15, ↓k_de15, ↓k_tk15, ↓k_l16, ↓k_r16, ↓k_se16, ↓k_ic16, ↓k_de16, ↓k_tk16, ↓k_l17, ↓k_r17, ↓k_se17, ↓k_ic17, ↓k_de17, ↓k_tk17, ↓k_l18, ↓k_r18, ↓k_se18, ↓k_ic18, ↓k_de18, ↓k_tk18, ↓k_l19, ↓k_r19, ↓k_se19, ↓k_ic19, ↓k_de19, ↓k_tk19, ↓k_l20, ↓k_r20, ↓k_se20, ↓k_ic20, ↓k_de20, ↓k_tk20, ↓k_l21, ↓k_r21, ↓k_se21, ↓k_ic21, ↓k_de21, ↓k_tk21, ↓k_l22, ↓k_r22, ↓k_se22, ↓k_ic22, ↓k_de22, ↓k_tk22, ↓k_l23, ↓k_r23, ↓k_se23, ↓k_ic23, ↓k_de23, ↓k_tk23, ↓k_l24, ↓k_r24, ↓k_se24, ↓k_ic24, ↓k_de24, ↓k_tk24, ↓k_l25, ↓k_r25, ↓k_se25, ↓k_ic25, ↓k_de25, ↓k_tk25, ↓k_k, ↓k_kn, ↓k_kl, ↓k_kln, ↓k_il, ↓k_2, ↓k_1, ↓k_2c, ↓k_2l, ↓k_ac, ↓k_an, ↓k_cs, ↓k_cv, ↓k_fi, ↓k_fr, ↓k_ai, ↓k_az, ↓k_ar, ↓k_sai, ↓k_saz, ↓k_soa, ↓k_sof, ↓k_spf, ↓k_sx, ↓k_blk, ↓k_sset, ↓k_sdec, ↓k_sri, ↓k_srv, ↓k_srr, ↓k_nop, ↓k_add, ↓k_sub, ↓k_mul, ↓k_min, ↓k_max, ↓k_shr, ↓k_shl, ↓k_or, ↓k_ilz, ↓k_addl, ↓k_rt, ↓k_rb, ↓k_rbz, ↓k_rsi, ↓k_rsr, ↓k_rsv, ↓reduceIte, w1, y2, ↓xi12_107 hM, ↓xp12_107 hM, ↓xb12_107 hM, ↓xf12_107 hM, ↓xg12_107 hM, ↓xh12_107 hM, ↓xr12_110 hM, ↓xa12_110 hM, ↓xs12_110 hM, ↓xo12_110 hM, ↓xc12_110 hM, ↓xd12_110 hM, List.length_cons, List.length_nil, List.forall_mem_cons, List.not_mem_nil, Value.category, true_and, and_true, false_and, and_false, or_true, true_or, or_false, false_or, Nat.zero_le, forall_const, implies_true, false_implies, Nat.zero_add, Nat.reduceAdd, Nat.reduceLT, Nat.reduceLeDiff, Nat.le_refl, not_true_eq_false, not_false_eq_true, r_eq, r_ne, r_lt, r_ge, r_gt, r_le, bz_ne, nn_toNat, cn_of, cn_0, cn_1, i10, Int.reduceLE, Int.reduceLT, Int.reduceEq, bz_T, bz_F, ite_self, mulc, st_bud]
  have one : ¬ (1 : Int) = 0 := by omega
  -- what a leaf leaves of the stack
  have tail : ∀ (M : Nat → Int → Int) (x' : Nat → Int), ¬ 1000 ≤ (lC K (fC G0 (B + 59) s) (fE G0 (B + 59) s) (fC G0 (B + 59) 0) (fE G0 (B + 59) 0) z0) P → M (B + 544 + 86) = G (B + 544 + 86) → M (B + 544 + 87) = G (B + 544 + 87) → M (B + 544 + 85) = G (B + 544 + 85) → (∀ k : Nat, k < K → x' k = (fE G0 (B + 59) s) k (S.1 k)) → ∀ (j : Nat) (t : Int × Int), (tgS (G0 (tvA B v + 5)) (lC K (fC G0 (B + 59) s) (fE G0 (B + 59) s) (fC G0 (B + 59) 0) (fE G0 (B + 59) 0) z0) (P + 1))[j]? = some t → M (B + 544 + 86) (dd (G0 (tvA B v + 5)) (lC K (fC G0 (B + 59) s) (fE G0 (B + 59) s) (fC G0 (B + 59) 0) (fE G0 (B + 59) 0) z0) (P + 1) - 1 - j) = t.1 ∧ M (B + 544 + 87) (dd (G0 (tvA B v + 5)) (lC K (fC G0 (B + 59) s) (fE G0 (B + 59) s) (fC G0 (B + 59) 0) (fE G0 (B + 59) 0) z0) (P + 1) - 1 - j) = t.2 ∧ ∀ k : Nat, k < K → M (B + 544 + 85) (4 * (dd (G0 (tvA B v + 5)) (lC K (fC G0 (B + 59) s) (fE G0 (B + 59) s) (fC G0 (B + 59) 0) (fE G0 (B + 59) 0) z0) (P + 1) - 1 - j) + k) = pc ((fC G0 (B + 59) s) k) (fR G0 (B + 59) s k) (itE ((fE G0 (B + 59) s) k) j (x' k)) := fun M x' l m1 m2 m3 hx j t hj => by
    rw [tgS_s, if_neg l, List.getElem?_tail] at hj
    rw [if_neg l] at dds
    have old := stv (j + 1) t hj
    rw [m1, m2, m3, show dd (G0 (tvA B v + 5)) (lC K (fC G0 (B + 59) s) (fE G0 (B + 59) s) (fC G0 (B + 59) 0) (fE G0 (B + 59) 0) z0) (P + 1) - 1 - (j : Int) = dd (G0 (tvA B v + 5)) (lC K (fC G0 (B + 59) s) (fE G0 (B + 59) s) (fC G0 (B + 59) 0) (fE G0 (B + 59) 0) z0) P - 1 - ((j + 1 : Nat) : Int) by omega]
    refine ⟨old.1, old.2.1, fun k hk => ?_⟩
    rw [hx k hk]
    exact old.2.2 k hk
  have rowB : ∀ (M M' : Nat → Int → Int) (y : Nat), BFr M M' B i → B + 567 ≤ y → M' y = M y := fun M M' y h q => h.1 y (by omega) (by omega)
  rcases hwF with ⟨eF1, l, o1X⟩ | ⟨eF1, noF⟩
  · subst eF1
    refine Or.inl ⟨fun z => z.2.1 o1X, ?_⟩
    have cP : (lC K (fC G0 (B + 59) s) (fE G0 (B + 59) s) (fC G0 (B + 59) 0) (fE G0 (B + 59) 0) z0) P = (fC G0 (B + 59) s) 0 (S.1 0) := by rw [ec]; exact lCd_1 o1X
    have lc : 1000 ≤ (lC K (fC G0 (B + 59) s) (fE G0 (B + 59) s) (fC G0 (B + 59) 0) (fE G0 (B + 59) 0) z0) P := by rw [cP]; exact l
    have nbs := nb_s (lC K (fC G0 (B + 59) s) (fE G0 (B + 59) s) (fC G0 (B + 59) 0) (fE G0 (B + 59) 0) z0) P
    rw [if_pos lc] at nbs dds
    have cF1 := cPb.2 lc
    obtain ⟨f, hf⟩ : ∃ f, f = (lC K (fC G0 (B + 59) s) (fE G0 (B + 59) s) (fC G0 (B + 59) 0) (fE G0 (B + 59) 0) z0) P - 1000 := ⟨_, rfl⟩
    rw [← hf] at dds cF1
    have fb : 0 ≤ f ∧ f < 14 := by omega
    have fmR := (iFm v kv.1 kv.2).2.2.2 f fb.1 cF1
    have nsb := IFm_ns iFm kv fb.1 cF1
    obtain ⟨N, hN⟩ : ∃ N, N = (G0 (tvA B v + 5)) f := ⟨_, rfl⟩
    have x00 := xb 0 (by omega)
    have ck : ∀ k : Nat, k < K → (fC G0 (B + 59) s) k (S.1 k) = (lC K (fC G0 (B + 59) s) (fE G0 (B + 59) s) (fC G0 (B + 59) 0) (fE G0 (B + 59) 0) z0) P := fun k hk => by rw [cP]; exact o1X k hk
    have r0 := (sw_pc iFm sw (show 0 < K by omega) s0 s1 x00.1 x00.2).2.1 l
    have ow0 := ow 0 (by omega)
    rw [show ((0 : Nat) : Int) = 0 from rfl, r0.2.2] at ow0
    have cA := sw_form (nx := nx) (G := G2) (t := 12 + s) (a := G2 (B + 544 + 89) 0 - 1000) hM iFm sw gh2 (show 0 < K by omega) K4 s0 s1 x00.1 x00.2 l (by omega) (by omega)
    rw [← cP, ← hf] at cA
    have tb : G2 (B + 544 + 16) i = v := bs2.1
    obtain ⟨G3, b3, b3o, bs3, cN⟩ := c12_newNodeB (T := T) (nx := nx) (rc := 0) (rs := 0) (R := R) (G := G2) (x := 14 * v + f - 14 * G2 (B + 544 + 16) i) hM (by omega) i1 pr d1 (fun q hq => n5 q (by omega)) ht bs2 hn40 lc (by omega) (by rw [tb, hf]; omega) (by omega)
    rw [← ha, ← hbb] at cN
    obtain ⟨m, hm⟩ : ∃ m, m = nb (lC K (fC G0 (B + 59) s) (fE G0 (B + 59) s) (fC G0 (B + 59) 0) (fE G0 (B + 59) 0) z0) P := ⟨_, rfl⟩
    rw [← hm] at cN
    have gh3 : Gho G0 G3 B := Gho_b gh2 b3 i31
    have fr3 : RvF Gs G3 B i := RvF_b fr2 b3
    have cSl := fun K : Option Value → q_M → Prop => c12_slotsFX (T := T) (nx := nx) (rc := 0) (rs := 0) (R := R) (G1 := G3) (K := K) hM fmR gh3.2.1 gh3.2.2.1 kv.1 kv.2 fb.1 fb.2
    have cSl' : ∀ K : Option Value → q_M → Prop, fX12_slotsOf [.ref (B + 544), .int (zI (14 * v + f))] (st T nx 0 0 R G3) K = K (some (.int (zI N))) (st T nx 0 0 R G3) := fun K => by
      rw [cSl K, hN]
      rfl
    rw [← hN] at dds nsb
    have ow3 : G3 (B + 544 + 89) = G2 (B + 544 + 89) := rowB _ _ _ b3 (by omega)
    obtain ⟨G4, p1, p2, p3, p4, p5, p6, sT⟩ := lv_push3 (nx := nx) (i := i) (a := a) (b := b) (f := 14 * v + f) (g := m) (N := N) (W := W) hM iFm sw gh3 hK K1 K4 s0 s1 xb (fun k hk => by rw [ow3]; exact ow k hk) (fun k hk => by rw [ck k hk, ← hf]; exact ⟨lc, hN.symm⟩) nsb.1 (by rw [b3o]; exact w2) Wb.1 (by omega)
    have fr4 : RvF Gs G4 B i := RvF_s fr3 (fun x q1 q2 q3 q4 q5 q6 => p1 x q2 q3 q4 q1) (fun j q1 _ => p2 j q1)
    have gh4 : Gho G0 G4 B := Gho_s gh3 (fun y q1 q2 => p1 y (by omega) (by omega) (by omega) (by omega)) (p2 103 (by omega))
    have nd := fun (k : Nat) (hk : k < K) => (sw_T sw s0 s1 hk).2.2.2.1 (S.1 k) (xb k hk).1 (xb k hk).2 (by rw [ck k hk]; exact lc)
    refine ⟨G4, ⟨BS_congr (fun x q1 q2 => p1 x (by omega) (by omega) (by omega) (by omega)) bs3, by rw [p3]; omega, fun j t' hj => ?_, by rw [p2 _ (by omega), b3o, w111, lNx_1 o1X], fun h k q0 q1 hk => ?_, fr4, gh4⟩, fun Kr K' Kf hk2 => ?_⟩
    · rw [tgS_s, if_pos lc, ← hf, ← hN] at hj
      rw [lNx_1 o1X]
      show G4 (B + 544 + 86) (dd (G0 (tvA B v + 5)) (lC K (fC G0 (B + 59) s) (fE G0 (B + 59) s) (fC G0 (B + 59) 0) (fE G0 (B + 59) 0) z0) (P + 1) - 1 - j) = t'.1 ∧ G4 (B + 544 + 87) (dd (G0 (tvA B v + 5)) (lC K (fC G0 (B + 59) s) (fE G0 (B + 59) s) (fC G0 (B + 59) 0) (fE G0 (B + 59) 0) z0) (P + 1) - 1 - j) = t'.2 ∧ ∀ k : Nat, k < K → G4 (B + 544 + 85) (4 * (dd (G0 (tvA B v + 5)) (lC K (fC G0 (B + 59) s) (fE G0 (B + 59) s) (fC G0 (B + 59) 0) (fE G0 (B + 59) 0) z0) (P + 1) - 1 - j) + k) = pc ((fC G0 (B + 59) s) k) (fR G0 (B + 59) s k) (itE ((fE G0 (B + 59) s) k) j (S.1 k + 1))
      by_cases g : j < N.toNat
      · rw [List.getElem?_append_left (by rw [tgN_len]; exact g), tgN_get _ _ _ _ g] at hj
        injection hj with hj
        obtain ⟨y3, y4, y5⟩ := p6 j (by omega)
        rw [show dd (G0 (tvA B v + 5)) (lC K (fC G0 (B + 59) s) (fE G0 (B + 59) s) (fC G0 (B + 59) 0) (fE G0 (B + 59) 0) z0) (P + 1) - 1 - (j : Int) = W + (N - 1 - j) by omega, ← hj]
        refine ⟨by rw [y3, hm], by rw [y4]; show (j : Int) = 0 + (j : Int); omega, fun k hk => ?_⟩
        rw [y5 k hk, itE_ch]
      · rw [List.getElem?_append_right (by rw [tgN_len]; omega), tgN_len, List.getElem?_tail] at hj
        have old := stv (j - N.toNat + 1) t' hj
        rw [show dd (G0 (tvA B v + 5)) (lC K (fC G0 (B + 59) s) (fE G0 (B + 59) s) (fC G0 (B + 59) 0) (fE G0 (B + 59) 0) z0) (P + 1) - 1 - (j : Int) = dd (G0 (tvA B v + 5)) (lC K (fC G0 (B + 59) s) (fE G0 (B + 59) s) (fC G0 (B + 59) 0) (fE G0 (B + 59) 0) z0) P - 1 - ((j - N.toNat + 1 : Nat) : Int) by omega, (p4 _ (by omega)).1, (p4 _ (by omega)).2, rowB _ _ (B + 544 + 86) b3 (by omega), rowB _ _ (B + 544 + 87) b3 (by omega), lN, lT]
        refine ⟨old.1, old.2.1, fun k hk => ?_⟩
        have e2 : itE ((fE G0 (B + 59) s) k) j (S.1 k + 1) = itE ((fE G0 (B + 59) s) k) (j - N.toNat + 1) (S.1 k) := by
          have en := (nd k hk).2.1
          rw [ck k hk, ← hf, ← hN, itE_ch] at en
          rw [show j = N.toNat + (j - N.toNat) by omega, itE_add, en, show N.toNat + (j - N.toNat) - N.toNat + 1 = (j - N.toNat) + 1 by omega]
          rfl
        rw [p5 _ (by omega), rowB _ _ (B + 544 + 85) b3 (by omega), lP, e2]
        exact old.2.2 k hk
    · rw [lNx_1 o1X] at q1 ⊢
      rw [p1 _ (by omega) (by omega) (by omega) (by omega), rowB _ _ (B + 544 + 88) b3 (by omega), hR2]
      exact hls h k q0 q1 hk
    · have tb2 : 0 ≤ 14 * v + f ∧ 14 * v + f < 28 := by omega
      clear hb xb stv hls li li2 n5 pr bs bs2 bs3 tail rowB ow z3 p1 p2 p3 p4 p5 p6 fr fr2 fr3 fr4 b3 b3o o1 o2 f1 j1 e1 nd ck cSl fmR hwL cL ec eN htl ht room room2 dds cP iFm sw hf hN
      simp (disch := omega) only [↓wcX12_layOver_1.eq_1, ↓wsX12_layOver_1.eq_1, ↓(k_cv0 dX12_isOneLeaf (t12 hM)), ↓(k_cv0 dX12_newHole (t12 hM)), ↓(k_cv1 dX12_holeFor (t12 hM)), ↓(k_cv1 dX12_isOneForm (t12 hM)), ↓(k_cv1 dX12_slotsOf (t12 hM)), ↓(k_cv2 dX12_formAt (t12 hM)), ↓(k_cv4 dX12_newNode (t12 hM)), ↓(k_cv4 dX12_putLeaf (t12 hM)), ↓k_mk, ↓k_sq, ↓k_sk, ↓k_bk, ↓k_if, ↓k_te, ↓k_cm, ↓k_cz, ↓k_an2, ↓k_or2, ↓k_no, ↓k_ci, ↓k_l0, ↓k_r0, ↓k_se0, ↓k_ic0, ↓k_l1, ↓k_r1, ↓k_se1, ↓k_ic1, ↓k_de1, ↓k_tk1, ↓k_l2, ↓k_r2, ↓k_se2, ↓k_ic2, ↓k_de2, ↓k_tk2, ↓k_l3, ↓k_r3, ↓k_se3, ↓k_ic3, ↓k_de3, ↓k_tk3, ↓k_l4, ↓k_r4, ↓k_se4, ↓k_ic4, ↓k_de4, ↓k_tk4, ↓k_l5, ↓k_r5, ↓k_se5, ↓k_ic5, ↓k_de5, ↓k_tk5, ↓k_l6, ↓k_r6, ↓k_se6, ↓k_ic6, ↓k_de6, ↓k_tk6, ↓k_l7, ↓k_r7, ↓k_se7, ↓k_ic7, ↓k_de7, ↓k_tk7, ↓k_l8, ↓k_r8, ↓k_se8, ↓k_ic8, ↓k_de8, ↓k_tk8, ↓k_l9, ↓k_r9, ↓k_se9, ↓k_ic9, ↓k_de9, ↓k_tk9, ↓k_l10, ↓k_r10, ↓k_se10, ↓k_ic10, ↓k_de10, ↓k_tk10, ↓k_l11, ↓k_r11, ↓k_se11, ↓k_ic11, ↓k_de11, ↓k_tk11, ↓k_l12, ↓k_r12, ↓k_se12, ↓k_ic12, ↓k_de12, ↓k_tk12, ↓k_l13, ↓k_r13, ↓k_se13, ↓k_ic13, ↓k_de13, ↓k_tk13, ↓k_l14, ↓k_r14, ↓k_se14, ↓k_ic14, ↓k_de14, ↓k_tk14, ↓k_l15, ↓k_r15, ↓k_se15, ↓k_ic15, ↓k_de15, ↓k_tk15, ↓k_l16, ↓k_r16, ↓k_se16, ↓k_ic16, ↓k_de16, ↓k_tk16, ↓k_l17, ↓k_r17, ↓k_se17, ↓k_ic17, ↓k_de17, ↓k_tk17, ↓k_l18, ↓k_r18, ↓k_se18, ↓k_ic18, ↓k_de18, ↓k_tk18, ↓k_l19, ↓k_r19, ↓k_se19, ↓k_ic19, ↓k_de19, ↓k_tk19, ↓k_l20, ↓k_r20, ↓k_se20, ↓k_ic20, ↓k_de20, ↓k_tk20, ↓k_l21, ↓k_r21, ↓k_se21, ↓k_ic21, ↓k_de21, ↓k_tk21, ↓k_l22, ↓k_r22, ↓k_se22, ↓k_ic22, ↓k_de22, ↓k_tk22, ↓k_l23, ↓k_r23, ↓k_se23, ↓k_ic23, ↓k_de23, ↓k_tk23, ↓k_l24, ↓k_r24, ↓k_se24, ↓k_ic24, ↓k_de24, ↓k_tk24, ↓k_l25, ↓k_r25, ↓k_se25, ↓k_ic25, ↓k_de25, ↓k_tk25, ↓k_k, ↓k_kn, ↓k_kl, ↓k_kln, ↓k_il, ↓k_2, ↓k_1, ↓k_2c, ↓k_2l, ↓k_ac, ↓k_an, ↓k_cs, ↓k_cv, ↓k_fi, ↓k_fr, ↓k_ai, ↓k_az, ↓k_ar, ↓k_sai, ↓k_saz, ↓k_soa, ↓k_spf, ↓k_sx, ↓k_blk, ↓k_sset, ↓k_sri, ↓k_srv, ↓k_srr, ↓k_nop, ↓k_add, ↓k_sub, ↓k_mul, ↓k_min, ↓k_max, ↓k_shr, ↓k_shl, ↓k_or, ↓k_ilz, ↓k_addl, ↓k_rt, ↓k_rb, ↓k_rbz, ↓k_rsi, ↓k_rsr, ↓k_rsv, ↓reduceIte, ↓(k_sdec Value.int 5), ↓(k_sdec Value.int 6), ↓(k_sdec Value.int 7), hg, g107, one, eq_self, ↓sP, ↓sD3, ↓sD4, ↓sO, ↓cF, ↓(k_cv2 dX12_formAt (t12 hM)), ↓cA, ↓(k_cv4 dX12_newNode (t12 hM)), ↓cN, ↓(k_cv1 dX12_slotsOf (t12 hM)), ↓cSl', ↓sT, ↓xr12_15 hM, ↓xa12_15 hM, ↓xs12_15 hM, ↓xo12_15 hM, ↓xc12_15 hM, ↓xd12_15 hM, ↓xi12_107 hM, ↓xp12_107 hM, ↓xb12_107 hM, ↓xf12_107 hM, ↓xg12_107 hM, ↓xh12_107 hM, ↓xr12_113 hM, ↓xa12_113 hM, ↓xs12_113 hM, ↓xo12_113 hM, ↓xc12_113 hM, ↓xd12_113 hM, List.length_cons, List.length_nil, List.forall_mem_cons, List.not_mem_nil, Value.category, true_and, and_true, false_and, and_false, or_true, true_or, or_false, false_or, Nat.zero_le, forall_const, implies_true, false_implies, Nat.zero_add, Nat.reduceAdd, Nat.reduceLT, Nat.reduceLeDiff, Nat.le_refl, not_true_eq_false, not_false_eq_true, r_eq, r_ne, r_lt, r_ge, r_gt, r_le, bz_ne, nn_toNat, cn_of, cn_0, cn_1, i10, Int.reduceLE, Int.reduceLT, Int.reduceEq, bz_T, bz_F, ite_self, mulc, st_bud]
      exact hk2
  · subst eF1
    rcases hwL with ⟨eL1, l, o1X⟩ | ⟨eL1, noL⟩
    · subst eL1
      refine Or.inl ⟨fun z => z.2.1 o1X, ?_⟩
      have cP : (lC K (fC G0 (B + 59) s) (fE G0 (B + 59) s) (fC G0 (B + 59) 0) (fE G0 (B + 59) 0) z0) P = (fC G0 (B + 59) s) 0 (S.1 0) := by rw [ec]; exact lCd_1 o1X
      have lc : ¬ 1000 ≤ (lC K (fC G0 (B + 59) s) (fE G0 (B + 59) s) (fC G0 (B + 59) 0) (fE G0 (B + 59) 0) z0) P := by rw [cP]; exact l
      have x00 := xb 0 (by omega)
      have ck : ∀ k : Nat, k < K → (fC G0 (B + 59) s) k (S.1 k) = (lC K (fC G0 (B + 59) s) (fE G0 (B + 59) s) (fC G0 (B + 59) 0) (fE G0 (B + 59) 0) z0) P := fun k hk => by rw [cP]; exact o1X k hk
      have r0 := (sw_pc iFm sw (show 0 < K by omega) s0 s1 x00.1 x00.2).2.2.1 l
      have ow0 := ow 0 (by omega)
      rw [show ((0 : Nat) : Int) = 0 from rfl, r0.1, ← cP] at ow0
      obtain ⟨G3, b3, b3o, bs3, cN⟩ := c12_putLeafB (T := T) (nx := nx) (rc := 0) (rs := 0) (R := R) (G := G2) (x := G2 (B + 544 + 89) 0) hM (by omega) i1 pr d1 (fun q hq => n5 q (by omega)) ht bs2 hn40 lc (by omega) ow0
      rw [← ha, ← hbb] at cN
      have fr3 : RvF Gs G3 B i := RvF_b fr2 b3
      have gh3 : Gho G0 G3 B := Gho_b gh2 b3 i31
      have lf := fun (k : Nat) (hk : k < K) => (sw_T sw s0 s1 hk).2.2.2.2.1 (S.1 k) (xb k hk).1 (xb k hk).2 (by rw [ck k hk]; exact lc)
      have dP : dd (G0 (tvA B v + 5)) (lC K (fC G0 (B + 59) s) (fE G0 (B + 59) s) (fC G0 (B + 59) 0) (fE G0 (B + 59) 0) z0) (P + 1) = W := by
        rw [if_neg lc] at dds
        omega
      refine ⟨G3, ⟨bs3, by rw [b3o, w2, dP], ?_, by rw [b3o, w111, lNx_1 o1X], fun h k q0 q1 hk => ?_, fr3, gh3⟩, fun Kr K' Kf hk2 => ?_⟩
      · rw [lNx_1 o1X]
        exact tail G3 (fun k => S.1 k + 1) lc (by rw [rowB _ _ _ b3 (by omega)]; exact lN) (by rw [rowB _ _ _ b3 (by omega)]; exact lT) (by rw [rowB _ _ _ b3 (by omega)]; exact lP) (fun k hk => (lf k hk).2.symm)
      · rw [lNx_1 o1X] at q1 ⊢
        rw [rowB _ _ (B + 544 + 88) b3 (by omega), hR2]
        exact hls h k q0 q1 hk
      · clear hb xb stv hls li li2 n5 pr bs bs2 bs3 tail rowB ow z3 fr fr2 fr3 b3 b3o o1 o2 f1 j1 e1 lf ck ec eN htl ht room room2 dds cP iFm sw r0
        simp (disch := omega) only [↓wcX12_layOver_1.eq_1, ↓wsX12_layOver_1.eq_1, ↓(k_cv0 dX12_isOneLeaf (t12 hM)), ↓(k_cv0 dX12_newHole (t12 hM)), ↓(k_cv1 dX12_holeFor (t12 hM)), ↓(k_cv1 dX12_isOneForm (t12 hM)), ↓(k_cv1 dX12_slotsOf (t12 hM)), ↓(k_cv2 dX12_formAt (t12 hM)), ↓(k_cv4 dX12_newNode (t12 hM)), ↓(k_cv4 dX12_putLeaf (t12 hM)), ↓k_mk, ↓k_sq, ↓k_sk, ↓k_bk, ↓k_if, ↓k_te, ↓k_cm, ↓k_cz, ↓k_an2, ↓k_or2, ↓k_no, ↓k_ci, ↓k_l0, ↓k_r0, ↓k_se0, ↓k_ic0, ↓k_l1, ↓k_r1, ↓k_se1, ↓k_ic1, ↓k_de1, ↓k_tk1, ↓k_l2, ↓k_r2, ↓k_se2, ↓k_ic2, ↓k_de2, ↓k_tk2, ↓k_l3, ↓k_r3, ↓k_se3, ↓k_ic3, ↓k_de3, ↓k_tk3, ↓k_l4, ↓k_r4, ↓k_se4, ↓k_ic4, ↓k_de4, ↓k_tk4, ↓k_l5, ↓k_r5, ↓k_se5, ↓k_ic5, ↓k_de5, ↓k_tk5, ↓k_l6, ↓k_r6, ↓k_se6, ↓k_ic6, ↓k_de6, ↓k_tk6, ↓k_l7, ↓k_r7, ↓k_se7, ↓k_ic7, ↓k_de7, ↓k_tk7, ↓k_l8, ↓k_r8, ↓k_se8, ↓k_ic8, ↓k_de8, ↓k_tk8, ↓k_l9, ↓k_r9, ↓k_se9, ↓k_ic9, ↓k_de9, ↓k_tk9, ↓k_l10, ↓k_r10, ↓k_se10, ↓k_ic10, ↓k_de10, ↓k_tk10, ↓k_l11, ↓k_r11, ↓k_se11, ↓k_ic11, ↓k_de11, ↓k_tk11, ↓k_l12, ↓k_r12, ↓k_se12, ↓k_ic12, ↓k_de12, ↓k_tk12, ↓k_l13, ↓k_r13, ↓k_se13, ↓k_ic13, ↓k_de13, ↓k_tk13, ↓k_l14, ↓k_r14, ↓k_se14, ↓k_ic14, ↓k_de14, ↓k_tk14, ↓k_l15, ↓k_r15, ↓k_se15, ↓k_ic15, ↓k_de15, ↓k_tk15, ↓k_l16, ↓k_r16, ↓k_se16, ↓k_ic16, ↓k_de16, ↓k_tk16, ↓k_l17, ↓k_r17, ↓k_se17, ↓k_ic17, ↓k_de17, ↓k_tk17, ↓k_l18, ↓k_r18, ↓k_se18, ↓k_ic18, ↓k_de18, ↓k_tk18, ↓k_l19, ↓k_r19, ↓k_se19, ↓k_ic19, ↓k_de19, ↓k_tk19, ↓k_l20, ↓k_r20, ↓k_se20, ↓k_ic20, ↓k_de20, ↓k_tk20, ↓k_l21, ↓k_r21, ↓k_se21, ↓k_ic21, ↓k_de21, ↓k_tk21, ↓k_l22, ↓k_r22, ↓k_se22, ↓k_ic22, ↓k_de22, ↓k_tk22, ↓k_l23, ↓k_r23, ↓k_se23, ↓k_ic23, ↓k_de23, ↓k_tk23, ↓k_l24, ↓k_r24, ↓k_se24, ↓k_ic24, ↓k_de24, ↓k_tk24, ↓k_l25, ↓k_r25, ↓k_se25, ↓k_ic25, ↓k_de25, ↓k_tk25, ↓k_k, ↓k_kn, ↓k_kl, ↓k_kln, ↓k_il, ↓k_2, ↓k_1, ↓k_2c, ↓k_2l, ↓k_ac, ↓k_an, ↓k_cs, ↓k_cv, ↓k_fi, ↓k_fr, ↓k_ai, ↓k_az, ↓k_ar, ↓k_sai, ↓k_saz, ↓k_soa, ↓k_spf, ↓k_sx, ↓k_blk, ↓k_sset, ↓k_sri, ↓k_srv, ↓k_srr, ↓k_nop, ↓k_add, ↓k_sub, ↓k_mul, ↓k_min, ↓k_max, ↓k_shr, ↓k_shl, ↓k_or, ↓k_ilz, ↓k_addl, ↓k_rt, ↓k_rb, ↓k_rbz, ↓k_rsi, ↓k_rsr, ↓k_rsv, ↓reduceIte, ↓(k_sdec Value.int 5), hg, g107, one, eq_self, ↓sP, ↓sD3, ↓sD4, ↓sO, ↓cF, ↓cL, ↓(k_cv4 dX12_putLeaf (t12 hM)), ↓cN, ↓xi12_107 hM, ↓xp12_107 hM, ↓xb12_107 hM, ↓xf12_107 hM, ↓xg12_107 hM, ↓xh12_107 hM, ↓xr12_113 hM, ↓xa12_113 hM, ↓xs12_113 hM, ↓xo12_113 hM, ↓xc12_113 hM, ↓xd12_113 hM, List.length_cons, List.length_nil, List.forall_mem_cons, List.not_mem_nil, Value.category, true_and, and_true, false_and, and_false, or_true, true_or, or_false, false_or, Nat.zero_le, forall_const, implies_true, false_implies, Nat.zero_add, Nat.reduceAdd, Nat.reduceLT, Nat.reduceLeDiff, Nat.le_refl, not_true_eq_false, not_false_eq_true, r_eq, r_ne, r_lt, r_ge, r_gt, r_le, bz_ne, nn_toNat, cn_of, cn_0, cn_1, i10, Int.reduceLE, Int.reduceLT, Int.reduceEq, bz_T, bz_F, ite_self, mulc, st_bud]
        exact hk2
    · subst eL1
      have o1X : ¬ oneX K (fC G0 (B + 59) s) S.1 := fun z => by
        by_cases l : 1000 ≤ (fC G0 (B + 59) s) 0 (S.1 0)
        · exact noF ⟨l, z⟩
        · exact noL ⟨l, z⟩
      have hrow : ∀ (h : Int) (k : Nat), 0 ≤ h → h < S.2.1 → k < K → (0 ≤ S.2.2 (4 * h + k) ∧ S.2.2 (4 * h + k) < fN G0 (B + 59) 0 k) ∧ G2 (B + 544 + 88) (4 * h + k) = pc ((fC G0 (B + 59) 0) k) (fR G0 (B + 59) 0 k) (S.2.2 (4 * h + k)) := fun h k q0 q1 hk => ⟨hb h k q0 q1 hk, by rw [hR2]; exact hls h k q0 q1 hk⟩
      have cH := c12_holeFor (nx := nx) hM iFm sw gh2 hK K1 K4 s0 s1 xb ow w111 h0.1 (by omega) hrow
      obtain ⟨h, hhd⟩ : ∃ h, h = lH K (fC G0 (B + 59) s) (fE G0 (B + 59) s) (fC G0 (B + 59) 0) (fE G0 (B + 59) 0) S := ⟨_, rfl⟩
      have cH' : ∀ K' : Option Value → q_M → Prop, fX12_holeFor [.ref (B + 544), .int (zI s)] (st T nx 0 0 R G2) K' = K' (some (.int (zI h))) (st T nx 0 0 R G2) := by
        rw [hhd]
        exact cH
      rw [← hhd]
      have cPe : (lC K (fC G0 (B + 59) s) (fE G0 (B + 59) s) (fC G0 (B + 59) 0) (fE G0 (B + 59) 0) z0) P = 200 + if 0 ≤ h then h else S.2.1 := by
        rw [ec, lCd_0 o1X, ← hhd]
      have nx0 : lNx K (fC G0 (B + 59) s) (fE G0 (B + 59) s) (fC G0 (B + 59) 0) (fE G0 (B + 59) 0) S = (fun k => (fE G0 (B + 59) s) k (S.1 k), if 0 ≤ h then S.2 else (S.2.1 + 1, fun j => if 4 * S.2.1 ≤ j then S.1 (j - 4 * S.2.1).toNat else S.2.2 j)) := by
        rw [lNx_0 o1X, ← hhd]
      by_cases hp : 0 ≤ h
      · refine Or.inl ⟨fun z => z.2.2 hp, ?_⟩
        have hb2 : h < S.2.1.toNat := by
          have := (lH_b (K := K) (C := (fC G0 (B + 59) s)) (E := (fE G0 (B + 59) s)) (C0 := (fC G0 (B + 59) 0)) (E0 := (fE G0 (B + 59) 0)) (s := S) (by rw [← hhd]; exact hp)).1
          rw [← hhd] at this
          exact this
        rw [if_pos hp] at cPe nx0
        have lc : ¬ 1000 ≤ (lC K (fC G0 (B + 59) s) (fE G0 (B + 59) s) (fC G0 (B + 59) 0) (fE G0 (B + 59) 0) z0) P := by omega
        obtain ⟨G3, b3, b3o, bs3, cN⟩ := c12_putLeafB (T := T) (nx := nx) (rc := 0) (rs := 0) (R := R) (G := G2) (x := 200 + h) hM (by omega) i1 pr d1 (fun q hq => n5 q (by omega)) ht bs2 hn40 lc (by omega) cPe.symm
        rw [← ha, ← hbb] at cN
        have fr3 : RvF Gs G3 B i := RvF_b fr2 b3
        have gh3 : Gho G0 G3 B := Gho_b gh2 b3 i31
        have dP : dd (G0 (tvA B v + 5)) (lC K (fC G0 (B + 59) s) (fE G0 (B + 59) s) (fC G0 (B + 59) 0) (fE G0 (B + 59) 0) z0) (P + 1) = W := by
          rw [if_neg lc] at dds
          omega
        refine ⟨G3, ⟨bs3, by rw [b3o, w2, dP], ?_, by rw [b3o, w111, nx0], fun h' k q0 q1 hk => ?_, fr3, gh3⟩, fun Kr K' Kf hk2 => ?_⟩
        · rw [nx0]
          exact tail G3 (fun k => (fE G0 (B + 59) s) k (S.1 k)) lc (by rw [rowB _ _ _ b3 (by omega)]; exact lN) (by rw [rowB _ _ _ b3 (by omega)]; exact lT) (by rw [rowB _ _ _ b3 (by omega)]; exact lP) (fun k hk => rfl)
        · rw [nx0] at q1 ⊢
          rw [rowB _ _ (B + 544 + 88) b3 (by omega), hR2]
          exact hls h' k q0 q1 hk
        · have hlt : ¬ h < 0 := by omega
          clear hb xb stv hls li li2 n5 pr bs bs2 bs3 tail rowB ow z3 fr fr2 fr3 b3 b3o o1 o2 f1 j1 e1 ec eN htl ht room room2 dds iFm sw cPe nx0 cH hrow hhd
          simp (disch := omega) only [↓wcX12_layOver_1.eq_1, ↓wsX12_layOver_1.eq_1, ↓(k_cv0 dX12_isOneLeaf (t12 hM)), ↓(k_cv0 dX12_newHole (t12 hM)), ↓(k_cv1 dX12_holeFor (t12 hM)), ↓(k_cv1 dX12_isOneForm (t12 hM)), ↓(k_cv1 dX12_slotsOf (t12 hM)), ↓(k_cv2 dX12_formAt (t12 hM)), ↓(k_cv4 dX12_newNode (t12 hM)), ↓(k_cv4 dX12_putLeaf (t12 hM)), ↓k_mk, ↓k_sq, ↓k_sk, ↓k_bk, ↓k_if, ↓k_te, ↓k_cm, ↓k_cz, ↓k_an2, ↓k_or2, ↓k_no, ↓k_ci, ↓k_l0, ↓k_r0, ↓k_se0, ↓k_ic0, ↓k_l1, ↓k_r1, ↓k_se1, ↓k_ic1, ↓k_de1, ↓k_tk1, ↓k_l2, ↓k_r2, ↓k_se2, ↓k_ic2, ↓k_de2, ↓k_tk2, ↓k_l3, ↓k_r3, ↓k_se3, ↓k_ic3, ↓k_de3, ↓k_tk3, ↓k_l4, ↓k_r4, ↓k_se4, ↓k_ic4, ↓k_de4, ↓k_tk4, ↓k_l5, ↓k_r5, ↓k_se5, ↓k_ic5, ↓k_de5, ↓k_tk5, ↓k_l6, ↓k_r6, ↓k_se6, ↓k_ic6, ↓k_de6, ↓k_tk6, ↓k_l7, ↓k_r7, ↓k_se7, ↓k_ic7, ↓k_de7, ↓k_tk7, ↓k_l8, ↓k_r8, ↓k_se8, ↓k_ic8, ↓k_de8, ↓k_tk8, ↓k_l9, ↓k_r9, ↓k_se9, ↓k_ic9, ↓k_de9, ↓k_tk9, ↓k_l10, ↓k_r10, ↓k_se10, ↓k_ic10, ↓k_de10, ↓k_tk10, ↓k_l11, ↓k_r11, ↓k_se11, ↓k_ic11, ↓k_de11, ↓k_tk11, ↓k_l12, ↓k_r12, ↓k_se12, ↓k_ic12, ↓k_de12, ↓k_tk12, ↓k_l13, ↓k_r13, ↓k_se13, ↓k_ic13, ↓k_de13, ↓k_tk13, ↓k_l14, ↓k_r14, ↓k_se14, ↓k_ic14, ↓k_de14, ↓k_tk14, ↓k_l15, ↓k_r15, ↓k_se15, ↓k_ic15, ↓k_de15, ↓k_tk15, ↓k_l16, ↓k_r16, ↓k_se16, ↓k_ic16, ↓k_de16, ↓k_tk16, ↓k_l17, ↓k_r17, ↓k_se17, ↓k_ic17, ↓k_de17, ↓k_tk17, ↓k_l18, ↓k_r18, ↓k_se18, ↓k_ic18, ↓k_de18, ↓k_tk18, ↓k_l19, ↓k_r19, ↓k_se19, ↓k_ic19, ↓k_de19, ↓k_tk19, ↓k_l20, ↓k_r20, ↓k_se20, ↓k_ic20, ↓k_de20, ↓k_tk20, ↓k_l21, ↓k_r21, ↓k_se21, ↓k_ic21, ↓k_de21, ↓k_tk21, ↓k_l22, ↓k_r22, ↓k_se22, ↓k_ic22, ↓k_de22, ↓k_tk22, ↓k_l23, ↓k_r23, ↓k_se23, ↓k_ic23, ↓k_de23, ↓k_tk23, ↓k_l24, ↓k_r24, ↓k_se24, ↓k_ic24, ↓k_de24, ↓k_tk24, ↓k_l25, ↓k_r25, ↓k_se25, ↓k_ic25, ↓k_de25, ↓k_tk25, ↓k_k, ↓k_kn, ↓k_kl, ↓k_kln, ↓k_il, ↓k_2, ↓k_1, ↓k_2c, ↓k_2l, ↓k_ac, ↓k_an, ↓k_cs, ↓k_cv, ↓k_fi, ↓k_fr, ↓k_ai, ↓k_az, ↓k_ar, ↓k_sai, ↓k_saz, ↓k_soa, ↓k_spf, ↓k_sx, ↓k_blk, ↓k_sset, ↓k_sri, ↓k_srv, ↓k_srr, ↓k_nop, ↓k_add, ↓k_sub, ↓k_mul, ↓k_min, ↓k_max, ↓k_shr, ↓k_shl, ↓k_or, ↓k_ilz, ↓k_addl, ↓k_rt, ↓k_rb, ↓k_rbz, ↓k_rsi, ↓k_rsr, ↓k_rsv, ↓reduceIte, ↓(k_sdec Value.int 5), hg, g107, hlt, eq_self, ↓sP, ↓sD3, ↓sD4, ↓sO, ↓cF, ↓cL, ↓(k_cv1 dX12_holeFor (t12 hM)), ↓cH', ↓(k_cv4 dX12_putLeaf (t12 hM)), ↓cN, ↓xi12_107 hM, ↓xp12_107 hM, ↓xb12_107 hM, ↓xf12_107 hM, ↓xg12_107 hM, ↓xh12_107 hM, ↓xi12_111 hM, ↓xp12_111 hM, ↓xb12_111 hM, ↓xf12_111 hM, ↓xg12_111 hM, ↓xh12_111 hM, ↓xr12_113 hM, ↓xa12_113 hM, ↓xs12_113 hM, ↓xo12_113 hM, ↓xc12_113 hM, ↓xd12_113 hM, List.length_cons, List.length_nil, List.forall_mem_cons, List.not_mem_nil, Value.category, true_and, and_true, false_and, and_false, or_true, true_or, or_false, false_or, Nat.zero_le, forall_const, implies_true, false_implies, Nat.zero_add, Nat.reduceAdd, Nat.reduceLT, Nat.reduceLeDiff, Nat.le_refl, not_true_eq_false, not_false_eq_true, r_eq, r_ne, r_lt, r_ge, r_gt, r_le, bz_ne, nn_toNat, cn_of, cn_0, cn_1, i10, Int.reduceLE, Int.reduceLT, Int.reduceEq, bz_T, bz_F, ite_self, mulc, st_bud]
          exact hk2
      · have hm : h = -1 := by
          rcases lFst_is (sameH K (fC G0 (B + 59) s) (fE G0 (B + 59) s) (fC G0 (B + 59) 0) (fE G0 (B + 59) 0) S.1 S.2.2) S.2.1.toNat with ⟨q, _⟩ | ⟨q, _⟩
          · rw [hhd]
            exact q
          · have : 0 ≤ lH K (fC G0 (B + 59) s) (fE G0 (B + 59) s) (fC G0 (B + 59) 0) (fE G0 (B + 59) 0) S := q
            omega
        by_cases hs : s = 1
        · subst hs
          refine Or.inr ⟨⟨rfl, o1X, hp⟩, G2, fr2, fun Kr K' Kf hk2 => ?_⟩
          clear hb xb stv hls li li2 n5 pr bs bs2 tail rowB ow z3 fr fr2 o1 o2 f1 j1 e1 ec eN htl ht room room2 dds iFm sw cPe nx0 cH hrow hhd
          have hlt : (-1 : Int) < 0 := by omega
          subst hm
          simp (disch := omega) only [↓wcX12_layOver_1.eq_1, ↓wsX12_layOver_1.eq_1, ↓(k_cv0 dX12_isOneLeaf (t12 hM)), ↓(k_cv0 dX12_newHole (t12 hM)), ↓(k_cv1 dX12_holeFor (t12 hM)), ↓(k_cv1 dX12_isOneForm (t12 hM)), ↓(k_cv1 dX12_slotsOf (t12 hM)), ↓(k_cv2 dX12_formAt (t12 hM)), ↓(k_cv4 dX12_newNode (t12 hM)), ↓(k_cv4 dX12_putLeaf (t12 hM)), ↓k_mk, ↓k_sq, ↓k_sk, ↓k_bk, ↓k_if, ↓k_te, ↓k_cm, ↓k_cz, ↓k_an2, ↓k_or2, ↓k_no, ↓k_ci, ↓k_l0, ↓k_r0, ↓k_se0, ↓k_ic0, ↓k_l1, ↓k_r1, ↓k_se1, ↓k_ic1, ↓k_de1, ↓k_tk1, ↓k_l2, ↓k_r2, ↓k_se2, ↓k_ic2, ↓k_de2, ↓k_tk2, ↓k_l3, ↓k_r3, ↓k_se3, ↓k_ic3, ↓k_de3, ↓k_tk3, ↓k_l4, ↓k_r4, ↓k_se4, ↓k_ic4, ↓k_de4, ↓k_tk4, ↓k_l5, ↓k_r5, ↓k_se5, ↓k_ic5, ↓k_de5, ↓k_tk5, ↓k_l6, ↓k_r6, ↓k_se6, ↓k_ic6, ↓k_de6, ↓k_tk6, ↓k_l7, ↓k_r7, ↓k_se7, ↓k_ic7, ↓k_de7, ↓k_tk7, ↓k_l8, ↓k_r8, ↓k_se8, ↓k_ic8, ↓k_de8, ↓k_tk8, ↓k_l9, ↓k_r9, ↓k_se9, ↓k_ic9, ↓k_de9, ↓k_tk9, ↓k_l10, ↓k_r10, ↓k_se10, ↓k_ic10, ↓k_de10, ↓k_tk10, ↓k_l11, ↓k_r11, ↓k_se11, ↓k_ic11, ↓k_de11, ↓k_tk11, ↓k_l12, ↓k_r12, ↓k_se12, ↓k_ic12, ↓k_de12, ↓k_tk12, ↓k_l13, ↓k_r13, ↓k_se13, ↓k_ic13, ↓k_de13, ↓k_tk13, ↓k_l14, ↓k_r14, ↓k_se14, ↓k_ic14, ↓k_de14, ↓k_tk14, ↓k_l15, ↓k_r15, ↓k_se15, ↓k_ic15, ↓k_de15, ↓k_tk15, ↓k_l16, ↓k_r16, ↓k_se16, ↓k_ic16, ↓k_de16, ↓k_tk16, ↓k_l17, ↓k_r17, ↓k_se17, ↓k_ic17, ↓k_de17, ↓k_tk17, ↓k_l18, ↓k_r18, ↓k_se18, ↓k_ic18, ↓k_de18, ↓k_tk18, ↓k_l19, ↓k_r19, ↓k_se19, ↓k_ic19, ↓k_de19, ↓k_tk19, ↓k_l20, ↓k_r20, ↓k_se20, ↓k_ic20, ↓k_de20, ↓k_tk20, ↓k_l21, ↓k_r21, ↓k_se21, ↓k_ic21, ↓k_de21, ↓k_tk21, ↓k_l22, ↓k_r22, ↓k_se22, ↓k_ic22, ↓k_de22, ↓k_tk22, ↓k_l23, ↓k_r23, ↓k_se23, ↓k_ic23, ↓k_de23, ↓k_tk23, ↓k_l24, ↓k_r24, ↓k_se24, ↓k_ic24, ↓k_de24, ↓k_tk24, ↓k_l25, ↓k_r25, ↓k_se25, ↓k_ic25, ↓k_de25, ↓k_tk25, ↓k_k, ↓k_kn, ↓k_kl, ↓k_kln, ↓k_il, ↓k_2, ↓k_1, ↓k_2c, ↓k_2l, ↓k_ac, ↓k_an, ↓k_cs, ↓k_cv, ↓k_fi, ↓k_fr, ↓k_ai, ↓k_az, ↓k_ar, ↓k_sai, ↓k_saz, ↓k_soa, ↓k_spf, ↓k_sx, ↓k_blk, ↓k_sset, ↓k_sri, ↓k_srv, ↓k_srr, ↓k_nop, ↓k_add, ↓k_sub, ↓k_mul, ↓k_min, ↓k_max, ↓k_shr, ↓k_shl, ↓k_or, ↓k_ilz, ↓k_addl, ↓k_rt, ↓k_rb, ↓k_rbz, ↓k_rsi, ↓k_rsr, ↓k_rsv, ↓reduceIte, ↓(k_sdec Value.int 5), hg, g107, hlt, eq_self, ↓sP, ↓sD3, ↓sD4, ↓sO, ↓cF, ↓cL, ↓(k_cv1 dX12_holeFor (t12 hM)), ↓cH', ↓xi12_107 hM, ↓xp12_107 hM, ↓xb12_107 hM, ↓xf12_107 hM, ↓xg12_107 hM, ↓xh12_107 hM, ↓xi12_111 hM, ↓xp12_111 hM, ↓xb12_111 hM, ↓xf12_111 hM, ↓xg12_111 hM, ↓xh12_111 hM, ↓xr12_113 hM, ↓xa12_113 hM, ↓xs12_113 hM, ↓xo12_113 hM, ↓xc12_113 hM, ↓xd12_113 hM, List.length_cons, List.length_nil, List.forall_mem_cons, List.not_mem_nil, Value.category, true_and, and_true, false_and, and_false, or_true, true_or, or_false, false_or, Nat.zero_le, forall_const, implies_true, false_implies, Nat.zero_add, Nat.reduceAdd, Nat.reduceLT, Nat.reduceLeDiff, Nat.le_refl, not_true_eq_false, not_false_eq_true, r_eq, r_ne, r_lt, r_ge, r_gt, r_le, bz_ne, nn_toNat, cn_of, cn_0, cn_1, i10, Int.reduceLE, Int.reduceLT, Int.reduceEq, bz_T, bz_F, ite_self, mulc, st_bud]
          exact hk2
        · refine Or.inl ⟨fun z => hs z.1, ?_⟩
          rw [if_neg hp] at cPe nx0
          obtain ⟨hn, hhn⟩ : ∃ hn, hn = S.2.1 := ⟨_, rfl⟩
          rw [← hhn] at cPe w111 h0
          obtain ⟨G3, q1, q2, q3, q4, q5, cW⟩ := c12_newHole (T := T) (nx := nx) (R := R) (G := G2) (K := K) hM (by rw [gh2.2.2.2, hK]) K4 w111 h0.1 (by omega)
          have lc : ¬ 1000 ≤ (lC K (fC G0 (B + 59) s) (fE G0 (B + 59) s) (fC G0 (B + 59) 0) (fE G0 (B + 59) 0) z0) P := by omega
          have bs3 : BS (G0 (tvA B v + 5)) (lC K (fC G0 (B + 59) s) (fE G0 (B + 59) s) (fC G0 (B + 59) 0) (fE G0 (B + 59) 0) z0) G3 B i v P := BS_congr (fun x r1 r2 => q1 x (by omega) (by omega)) bs2
          have fr3 : RvF Gs G3 B i := RvF_s fr2 (fun x r1 r2 r3 r4 r5 r6 => q1 x r5 r1) (fun j r1 r2 => q2 j r2)
          have gh3 : Gho G0 G3 B := Gho_s gh2 (fun x r1 r2 => q1 x (by omega) (by omega)) (q2 103 (by omega))
          obtain ⟨G4, b4, b4o, bs4, cN⟩ := c12_putLeafB (T := T) (nx := nx) (rc := 0) (rs := 0) (R := R) (G := G3) (x := 200 + hn) hM (by omega) i1 pr d1 (fun q hq => n5 q (by omega)) ht bs3 hn40 lc (by omega) cPe.symm
          rw [← ha, ← hbb] at cN
          have fr4 : RvF Gs G4 B i := RvF_b fr3 b4
          have gh4 : Gho G0 G4 B := Gho_b gh3 b4 i31
          have dP : dd (G0 (tvA B v + 5)) (lC K (fC G0 (B + 59) s) (fE G0 (B + 59) s) (fC G0 (B + 59) 0) (fE G0 (B + 59) 0) z0) (P + 1) = W := by
            rw [if_neg lc] at dds
            omega
          refine ⟨G4, ⟨bs4, by rw [b4o, q2 _ (by omega), w2, dP], ?_, by rw [b4o, q3, nx0, hhn], fun h' k r0 r1 hk => ?_, fr4, gh4⟩, fun Kr K' Kf hk2 => ?_⟩
          · rw [nx0]
            exact tail G4 (fun k => (fE G0 (B + 59) s) k (S.1 k)) lc (by rw [rowB _ _ _ b4 (by omega), q1 _ (by omega) (by omega)]; exact lN) (by rw [rowB _ _ _ b4 (by omega), q1 _ (by omega) (by omega)]; exact lT) (by rw [rowB _ _ _ b4 (by omega), q1 _ (by omega) (by omega)]; exact lP) (fun k hk => rfl)
          · rw [nx0] at r1 ⊢
            have r1 : h' < S.2.1 + 1 := r1
            rw [rowB _ _ (B + 544 + 88) b4 (by omega)]
            show G3 (B + 544 + 88) (4 * h' + (k : Int)) = pc ((fC G0 (B + 59) 0) k) (fR G0 (B + 59) 0 k) (if 4 * S.2.1 ≤ 4 * h' + (k : Int) then S.1 (4 * h' + (k : Int) - 4 * S.2.1).toNat else S.2.2 (4 * h' + (k : Int)))
            by_cases e : h' = S.2.1
            · have s00 : s = 0 := by omega
              subst s00
              rw [if_pos (by omega), show (4 * h' + (k : Int) - 4 * S.2.1).toNat = k by omega, show 4 * h' + (k : Int) = 4 * hn + k by omega, q5 k hk]
              exact ow k hk
            · rw [if_neg (by omega), q4 _ (by omega), hR2]
              exact hls h' k r0 (by omega) hk
          · have hlt : (-1 : Int) < 0 := by omega
            have hne : ¬ hn = 200 := by omega
            subst hm
            clear hb xb stv hls li li2 n5 pr bs bs2 bs3 bs4 tail rowB ow z3 fr fr2 fr3 fr4 b4 b4o o1 o2 f1 j1 e1 ec eN htl ht room room2 dds iFm sw cPe nx0 cH hrow hhd q1 q2 q3 q4 q5 hhn
            simp (disch := omega) only [↓wcX12_layOver_1.eq_1, ↓wsX12_layOver_1.eq_1, ↓(k_cv0 dX12_isOneLeaf (t12 hM)), ↓(k_cv0 dX12_newHole (t12 hM)), ↓(k_cv1 dX12_holeFor (t12 hM)), ↓(k_cv1 dX12_isOneForm (t12 hM)), ↓(k_cv1 dX12_slotsOf (t12 hM)), ↓(k_cv2 dX12_formAt (t12 hM)), ↓(k_cv4 dX12_newNode (t12 hM)), ↓(k_cv4 dX12_putLeaf (t12 hM)), ↓k_mk, ↓k_sq, ↓k_sk, ↓k_bk, ↓k_if, ↓k_te, ↓k_cm, ↓k_cz, ↓k_an2, ↓k_or2, ↓k_no, ↓k_ci, ↓k_l0, ↓k_r0, ↓k_se0, ↓k_ic0, ↓k_l1, ↓k_r1, ↓k_se1, ↓k_ic1, ↓k_de1, ↓k_tk1, ↓k_l2, ↓k_r2, ↓k_se2, ↓k_ic2, ↓k_de2, ↓k_tk2, ↓k_l3, ↓k_r3, ↓k_se3, ↓k_ic3, ↓k_de3, ↓k_tk3, ↓k_l4, ↓k_r4, ↓k_se4, ↓k_ic4, ↓k_de4, ↓k_tk4, ↓k_l5, ↓k_r5, ↓k_se5, ↓k_ic5, ↓k_de5, ↓k_tk5, ↓k_l6, ↓k_r6, ↓k_se6, ↓k_ic6, ↓k_de6, ↓k_tk6, ↓k_l7, ↓k_r7, ↓k_se7, ↓k_ic7, ↓k_de7, ↓k_tk7, ↓k_l8, ↓k_r8, ↓k_se8, ↓k_ic8, ↓k_de8, ↓k_tk8, ↓k_l9, ↓k_r9, ↓k_se9, ↓k_ic9, ↓k_de9, ↓k_tk9, ↓k_l10, ↓k_r10, ↓k_se10, ↓k_ic10, ↓k_de10, ↓k_tk10, ↓k_l11, ↓k_r11, ↓k_se11, ↓k_ic11, ↓k_de11, ↓k_tk11, ↓k_l12, ↓k_r12, ↓k_se12, ↓k_ic12, ↓k_de12, ↓k_tk12, ↓k_l13, ↓k_r13, ↓k_se13, ↓k_ic13, ↓k_de13, ↓k_tk13, ↓k_l14, ↓k_r14, ↓k_se14, ↓k_ic14, ↓k_de14, ↓k_tk14, ↓k_l15, ↓k_r15, ↓k_se15, ↓k_ic15, ↓k_de15, ↓k_tk15, ↓k_l16, ↓k_r16, ↓k_se16, ↓k_ic16, ↓k_de16, ↓k_tk16, ↓k_l17, ↓k_r17, ↓k_se17, ↓k_ic17, ↓k_de17, ↓k_tk17, ↓k_l18, ↓k_r18, ↓k_se18, ↓k_ic18, ↓k_de18, ↓k_tk18, ↓k_l19, ↓k_r19, ↓k_se19, ↓k_ic19, ↓k_de19, ↓k_tk19, ↓k_l20, ↓k_r20, ↓k_se20, ↓k_ic20, ↓k_de20, ↓k_tk20, ↓k_l21, ↓k_r21, ↓k_se21, ↓k_ic21, ↓k_de21, ↓k_tk21, ↓k_l22, ↓k_r22, ↓k_se22, ↓k_ic22, ↓k_de22, ↓k_tk22, ↓k_l23, ↓k_r23, ↓k_se23, ↓k_ic23, ↓k_de23, ↓k_tk23, ↓k_l24, ↓k_r24, ↓k_se24, ↓k_ic24, ↓k_de24, ↓k_tk24, ↓k_l25, ↓k_r25, ↓k_se25, ↓k_ic25, ↓k_de25, ↓k_tk25, ↓k_k, ↓k_kn, ↓k_kl, ↓k_kln, ↓k_il, ↓k_2, ↓k_1, ↓k_2c, ↓k_2l, ↓k_ac, ↓k_an, ↓k_cs, ↓k_cv, ↓k_fi, ↓k_fr, ↓k_ai, ↓k_az, ↓k_ar, ↓k_sai, ↓k_saz, ↓k_soa, ↓k_spf, ↓k_sx, ↓k_blk, ↓k_sset, ↓k_sri, ↓k_srv, ↓k_srr, ↓k_nop, ↓k_add, ↓k_sub, ↓k_mul, ↓k_min, ↓k_max, ↓k_shr, ↓k_shl, ↓k_or, ↓k_ilz, ↓k_addl, ↓k_rt, ↓k_rb, ↓k_rbz, ↓k_rsi, ↓k_rsr, ↓k_rsv, ↓reduceIte, ↓(k_sdec Value.int 5), hg, g107, hlt, hs, hne, w111, eq_self, ↓sP, ↓sD3, ↓sD4, ↓sO, ↓cF, ↓cL, ↓(k_cv1 dX12_holeFor (t12 hM)), ↓cH', ↓(k_cv0 dX12_newHole (t12 hM)), ↓cW, ↓(k_cv4 dX12_putLeaf (t12 hM)), ↓cN, ↓xi12_107 hM, ↓xp12_107 hM, ↓xb12_107 hM, ↓xf12_107 hM, ↓xg12_107 hM, ↓xh12_107 hM, ↓xi12_111 hM, ↓xp12_111 hM, ↓xb12_111 hM, ↓xf12_111 hM, ↓xg12_111 hM, ↓xh12_111 hM, ↓xr12_113 hM, ↓xa12_113 hM, ↓xs12_113 hM, ↓xo12_113 hM, ↓xc12_113 hM, ↓xd12_113 hM, List.length_cons, List.length_nil, List.forall_mem_cons, List.not_mem_nil, Value.category, true_and, and_true, false_and, and_false, or_true, true_or, or_false, false_or, Nat.zero_le, forall_const, implies_true, false_implies, Nat.zero_add, Nat.reduceAdd, Nat.reduceLT, Nat.reduceLeDiff, Nat.le_refl, not_true_eq_false, not_false_eq_true, r_eq, r_ne, r_lt, r_ge, r_gt, r_le, bz_ne, nn_toNat, cn_of, cn_0, cn_1, i10, Int.reduceLE, Int.reduceLT, Int.reduceEq, bz_T, bz_F, ite_self, mulc, st_bud]
            exact hk2
end
