section
/-! rows: the reference finds all rows -/
/-- the telling as lists, in the reference -/
def TLr (G : Nat → Int → Int) (B : Nat) (v nf : Int) (sf : Int → Int) (fi : Int → List Int) : Prop := G (B + 544 + 2) v = nf ∧ ∀ f, 0 ≤ f → f < nf → G (B + 544 + 3) (14 * v + f) = sf f ∧ G (B + 544 + 4) (14 * v + f) = (fi f).length ∧ AtI (fun k => G (B + 544 + 5) (5 * (14 * v + f) + k)) 0 (fi f)
def FRf (G G' : Nat → Int → Int) (B : Nat) : Prop := (∀ z, ¬ z = B + 544 → ¬ z = (B + 544 + 47) → ¬ z = (B + 544 + 48) → ¬ z = (B + 544 + 49) → G' z = G z) ∧ ∀ j, ¬ j = 58 → G' (B + 544) j = G (B + 544) j
set_option maxHeartbeats 400000 in
theorem FRf_rfl (G : Nat → Int → Int) (B : Nat) : FRf G G B := ⟨fun _ _ _ _ _ => rfl, fun _ _ => rfl⟩
set_option maxHeartbeats 400000 in
theorem FRf_tr {G G1 G2 : Nat → Int → Int} {B : Nat} (h : FRf G G1 B) (k : FRf G1 G2 B) : FRf G G2 B := ⟨fun z a b c d => by rw [k.1 z a b c d, h.1 z a b c d], fun j q => by rw [k.2 j q, h.2 j q]⟩
/-- what one sort's finding leaves -/
def FRo (G G' : Nat → Int → Int) (B : Nat) (o : Int) : Prop := (∀ z, ¬ z = B + 544 → ¬ z = (B + 544 + 47) → ¬ z = (B + 544 + 48) → ¬ z = (B + 544 + 49) → G' z = G z) ∧ (∀ j, ¬ j = 58 → G' (B + 544) j = G (B + 544) j) ∧ (∀ j, ¬ (101 * o ≤ j ∧ j < 101 * o + 101) → G' (B + 544 + 48) j = G (B + 544 + 48) j) ∧ ∀ j, ¬ j = o → G' (B + 544 + 47) j = G (B + 544 + 47) j
set_option maxHeartbeats 400000 in
theorem FRo_rfl (G : Nat → Int → Int) (B : Nat) (o : Int) : FRo G G B o := ⟨fun _ _ _ _ _ => rfl, fun _ _ => rfl, fun _ _ => rfl, fun _ _ => rfl⟩
set_option maxHeartbeats 400000 in
theorem FRo_tr {G G1 G2 : Nat → Int → Int} {B : Nat} {o : Int} (h : FRo G G1 B o) (k : FRo G1 G2 B o) : FRo G G2 B o := ⟨fun z a b c d => by rw [k.1 z a b c d, h.1 z a b c d], fun j q => by rw [k.2.1 j q, h.2.1 j q], fun j q => by rw [k.2.2.1 j q, h.2.2.1 j q], fun j q => by rw [k.2.2.2 j q, h.2.2.2 j q]⟩
set_option maxHeartbeats 400000 in
theorem FRo_c {G G' : Nat → Int → Int} {B : Nat} {o : Int} (k : CRr G G' B o) : FRo G G' B o := ⟨fun z a b c _ => k.1 z a b c, k.2.1, k.2.2.1, k.2.2.2⟩
set_option maxHeartbeats 400000 in
theorem FRo_w {G G' : Nat → Int → Int} {B : Nat} {o : Int} (k : ∀ z, ¬ z = (B + 544 + 49) → G' z = G z) : FRo G G' B o := ⟨fun z _ _ _ d => k z d, fun j _ => by rw [k _ (by omega)], fun j _ => by rw [k _ (by omega)], fun j _ => by rw [k _ (by omega)]⟩
set_option maxHeartbeats 400000 in
theorem FRo_f {G G' : Nat → Int → Int} {B : Nat} {o : Int} (k : FRo G G' B o) : FRf G G' B := ⟨k.1, k.2.1⟩
set_option maxHeartbeats 400000 in
theorem TLr_fr {G G' : Nat → Int → Int} {B : Nat} {v nf : Int} {sf : Int → Int} {fi : Int → List Int} (h : TLr G B v nf sf fi) (k : FRf G G' B) : TLr G' B v nf sf fi := by
  refine ⟨by rw [k.1 _ (by omega) (by omega) (by omega) (by omega)]; exact h.1, fun f f0 f1 => ?_⟩
  obtain ⟨x1, x2, x3⟩ := h.2 f f0 f1
  refine ⟨by rw [k.1 _ (by omega) (by omega) (by omega) (by omega)]; exact x1, by rw [k.1 _ (by omega) (by omega) (by omega) (by omega)]; exact x2, AtI_fr _ 0 (fun j _ _ => ?_) x3⟩
  show G' (B + 544 + 5) (5 * (14 * v + f) + j) = G (B + 544 + 5) (5 * (14 * v + f) + j)
  rw [k.1 _ (by omega) (by omega) (by omega) (by omega)]
def HELr (G : Nat → Int → Int) (B : Nat) (T : Int → Int → (Int × (Int → List Int) × (Int → Int))) (s : Int) (m : Nat) : Prop := ∀ s' (w : Nat), bef s m s' w → HRr G B (5 * s' + w) (T s' w) ∧ EOk w (T s' w)
set_option maxHeartbeats 400000 in
theorem HRr_fo {G G' : Nat → Int → Int} {B : Nat} {o o' : Int} {E : (Int × (Int → List Int) × (Int → Int))} (h : HRr G B o' E) (k : FRo G G' B o) (ne : ¬ o' = o) (e100 : E.1 ≤ 100) : HRr G' B o' E := by
  refine ⟨by rw [k.2.2.2 o' ne]; exact h.1, fun x x0 x1 => ?_⟩
  rw [k.2.2.1 (101 * o' + x) (by omega)]
  exact h.2 x x0 x1
set_option maxHeartbeats 400000 in
theorem HELr_fr {G G' : Nat → Int → Int} {B : Nat} {T : Int → Int → (Int × (Int → List Int) × (Int → Int))} {s : Int} {m : Nat} (m4 : m ≤ 4) (s0 : 0 ≤ s) (h : HELr G B T s m) (k : FRo G G' B (5 * s + m)) : HELr G' B T s m := fun s' w b => by
  obtain ⟨z1, z2⟩ := h s' w b
  exact ⟨HRr_fo z1 k (by unfold bef at b; omega) z2.1.2, z2⟩
set_option maxHeartbeats 400000 in
theorem RSo_w {G G' : Nat → Int → Int} {B m : Nat} {o : Int} {oE : Option (Int × (Int → List Int) × (Int → Int))} (h : RSo G B m o oE) (k : ∀ z, ¬ z = (B + 544 + 49) → G' z = G z) : RSo G' B m o oE := by
  cases oE with
  | none =>
    have h : G (B + 544) 58 = 1 := h
    show G' (B + 544) 58 = 1
    rw [k _ (by omega)]
    exact h
  | some E =>
    obtain ⟨h1, h2, h3⟩ := h
    exact ⟨by rw [k _ (by omega)]; exact h1, ⟨by rw [k _ (by omega)]; exact h2.1, fun x x0 x1 => by rw [k _ (by omega)]; exact h2.2 x x0 x1⟩, h3⟩
set_option maxHeartbeats 400000 in
theorem CNT_w {G G' : Nat → Int → Int} {B : Nat} (h : CNT G B) (k : ∀ z, ¬ z = (B + 544 + 49) → G' z = G z) : CNT G' B := fun j a b => by
  rw [k _ (by omega)]
  exact h j a b
def endsB : Nat → List Int → Bool
  | 0, _ => false
  | d + 1, W => match nxtC W with | some W' => endsB d W' | none => true
set_option maxHeartbeats 400000 in
theorem chn_e : ∀ m : Fin 5, ∀ N : Fin 5, 1 ≤ N.val → N.val ≤ m.val → endsB 4 (fstW m.val N.val) = true := by decide +kernel
set_option maxHeartbeats 400000 in
theorem fr_5 {T0 : Nat → Option q_T} {nx B : Nat} {R : Nat → Nat → Option Value} {v nf s n : Int} {sf : Int → Int} {fi : Int → List Int} {m : Nat} {T : Int → Int → (Int × (Int → List Int) × (Int → Int))} {f : Int} (hM : Ly T0 R (B + 544) (L12 (B + 544))) (v0 : 0 ≤ v) (v1 : v ≤ 1) (hF : FWR nf sf fi) (m1 : 1 ≤ m) (m4 : m ≤ 4) (s0 : 0 ≤ s) (s5 : s ≤ 5) (f0 : 0 ≤ f) (f1 : f < nf) (fs : sf f = s) (lm : (fi f).length ≤ m) : ∀ (d : Nat) (W : List Int) (oE : Option (Int × (Int → List Int) × (Int → Int))) (G : Nat → Int → Int), endsB d W = true → (∀ X, X ∈ chn d W → X ∈ comps m (fi f).length) → AtI (G (B + 544 + 49)) 0 W → TLr G B v nf sf fi → ((∃ E, oE = some E) → HELr G B T s m) → CNT G B → RSo G B m (5 * s + m) oE →
    ∃ G' : Nat → Int → Int, FRo G G' B (5 * s + m) ∧ CNT G' B ∧ RSo G' B m (5 * s + m) (oE.bind (gW T (fi f) (chn d W))) ∧ ∀ (Kn : List Value → q_M → Prop) (Kr : Option Value → q_M → Prop), Kn [.ref (B + 544), .int (zI v), .int (zI n), .int (zI m), .int (zI s), .int (zI (14 * v + f)), .int (zI 0)] (st T0 nx 0 0 R G') → q_wh wcX12_findRows_5 wsX12_findRows_5 [.ref (B + 544), .int (zI v), .int (zI n), .int (zI m), .int (zI s), .int (zI (14 * v + f)), .int (zI 1)] (st T0 nx 0 0 R G) Kn Kr := by
  have one : ¬ (1 : Int) = 0 := by omega
  have f14 : nf ≤ 14 := hF.1.2
  obtain ⟨a1, a2, a3, a4⟩ := hF.2 f f0 f1
  intro d
  induction d with
  | zero =>
    intro W oE G e
    exact absurd e (by simp [endsB])
  | succ d ih =>
    intro W oE G e hin hc tl he cn rs
    have hW : W ∈ comps m (fi f).length := hin W List.mem_cons_self
    obtain ⟨c1, c2, c3⟩ := comps_ok m4 a2.2 hW
    have bf := fun (it w : Int) (hi : it ∈ fi f) (hw : w ∈ W) (g : 60 ≤ it) => FWR_bef hF f0 f1 m4 hW hi hw g
    rw [fs] at bf
    obtain ⟨x1, x2, x3⟩ := tl.2 f f0 f1
    obtain ⟨G1, j1, j2, j3, j4⟩ := c12_addRows (T0 := T0) (nx := nx) (R := R) (G := G) (T := T) (f := 14 * v + f) (l := fi f) (W := W) (oE := oE) hM (by omega) (by omega) m1 m4 s0 s5 c1.symm a2.1 (by omega) a3 (fun w hw => by have := c2 w hw; omega) c3 (fun it w hi hw g => by have := bf it w hi hw g; unfold bef at this; omega) (by rw [x1]; exact fs) x2 x3 hc (fun hs it w hi hw g => by
      have b := bf it w hi hw g
      have ew : ((w.toNat : Nat) : Int) = w := by unfold bef at b; omega
      have := he hs (it - 60) w.toNat (by rw [ew]; exact b)
      rw [ew] at this
      exact this) cn rs
    obtain ⟨G2, y, k1, k2, k3⟩ := c12_nextWidths (T0 := T0) (nx := nx) (R := R) (G := G1) hM m4 hW (AtI_fr W 0 (fun j _ _ => by rw [j1.1 _ (by omega) (by omega) (by omega)]) hc)
    have fo : FRo G G2 B (5 * s + m) := FRo_tr (FRo_c j1) (FRo_w k1)
    have hN1 : G1 (B + 544 + 4) (14 * v + f) = (fi f).length := by rw [j1.1 _ (by omega) (by omega) (by omega)]; exact x2
    have stp : ∀ (Kr : Option Value → q_M → Prop) (K : List Value → q_M → Prop) (Kf : q_M → Prop), K [.ref (B + 544), .int (zI v), .int (zI n), .int (zI m), .int (zI s), .int (zI (14 * v + f)), .int (zI y)] (st T0 nx 0 0 R G2) → wcX12_findRows_5 [.ref (B + 544), .int (zI v), .int (zI n), .int (zI m), .int (zI s), .int (zI (14 * v + f)), .int (zI 1)] (st T0 nx 0 0 R G) (fun μ' => wsX12_findRows_5 [.ref (B + 544), .int (zI v), .int (zI n), .int (zI m), .int (zI s), .int (zI (14 * v + f)), .int (zI 1)] μ' K Kr) Kf := fun Kr K Kf hk => by
      obtain ⟨F, hFF⟩ : ∃ F, F = 14 * v + f := ⟨_, rfl⟩
      rw [← hFF] at j4 hN1 hk ⊢
      have Fb : 0 ≤ F ∧ F < 28 := by omega
      rw [← hN1] at k3
      clear hin hc tl he cn rs ih hW c1 c2 c3 bf x1 x2 x3 j1 j2 j3 k1 k2 fo a3 a4 hF hFF hN1
      simp (disch := omega) only [↓wcX12_findRows_5.eq_1, ↓wsX12_findRows_5.eq_1, ↓(k_cv2 dX12_addRows (t12 hM)), ↓(k_cv2 dX12_nextWidths (t12 hM)), ↓k_mk, ↓k_sq, ↓k_sk, ↓k_bk, ↓k_if, ↓k_te, ↓k_cm, ↓k_cz, ↓k_an2, ↓k_or2, ↓k_no, ↓k_ci, ↓k_l0, ↓k_r0, ↓k_se0, ↓k_ic0, ↓k_l1, ↓k_r1, ↓k_se1, ↓k_ic1, ↓k_de1, ↓k_tk1, ↓k_l2, ↓k_r2, ↓k_se2, ↓k_ic2, ↓k_de2, ↓k_tk2, ↓k_l3, ↓k_r3, ↓k_se3, ↓k_ic3, ↓k_de3, ↓k_tk3, ↓k_l4, ↓k_r4, ↓k_se4, ↓k_ic4, ↓k_de4, ↓k_tk4, ↓k_l5, ↓k_r5, ↓k_se5, ↓k_ic5, ↓k_de5, ↓k_tk5, ↓k_l6, ↓k_r6, ↓k_se6, ↓k_ic6, ↓k_de6, ↓k_tk6, ↓k_l7, ↓k_r7, ↓k_se7, ↓k_ic7, ↓k_de7, ↓k_tk7, ↓k_l8, ↓k_r8, ↓k_se8, ↓k_ic8, ↓k_de8, ↓k_tk8, ↓k_l9, ↓k_r9, ↓k_se9, ↓k_ic9, ↓k_de9, ↓k_tk9, ↓k_l10, ↓k_r10, ↓k_se10, ↓k_ic10, ↓k_de10, ↓k_tk10, ↓k_l11, ↓k_r11, ↓k_se11, ↓k_ic11, ↓k_de11, ↓k_tk11, ↓k_l12, ↓k_r12, ↓k_se12, ↓k_ic12, ↓k_de12, ↓k_tk12, ↓k_l13, ↓k_r13, ↓k_se13, ↓k_ic13, ↓k_de13, ↓k_tk13, ↓k_l14, ↓k_r14, ↓k_se14, ↓k_ic14, ↓k_de14, ↓k_tk14, ↓k_l15, ↓k_r15, ↓k_se15, ↓k_ic15, ↓k_de15, ↓k_tk15, ↓k_l16, ↓k_r16, ↓k_se16, ↓k_ic16, ↓k_de16, ↓k_tk16, ↓k_l17, ↓k_r17, ↓k_se17, ↓k_ic17, ↓k_de17, ↓k_tk17, ↓k_l18, ↓k_r18, ↓k_se18, ↓k_ic18, ↓k_de18, ↓k_tk18, ↓k_l19, ↓k_r19, ↓k_se19, ↓k_ic19, ↓k_de19, ↓k_tk19, ↓k_l20, ↓k_r20, ↓k_se20, ↓k_ic20, ↓k_de20, ↓k_tk20, ↓k_l21, ↓k_r21, ↓k_se21, ↓k_ic21, ↓k_de21, ↓k_tk21, ↓k_l22, ↓k_r22, ↓k_se22, ↓k_ic22, ↓k_de22, ↓k_tk22, ↓k_l23, ↓k_r23, ↓k_se23, ↓k_ic23, ↓k_de23, ↓k_tk23, ↓k_l24, ↓k_r24, ↓k_se24, ↓k_ic24, ↓k_de24, ↓k_tk24, ↓k_l25, ↓k_r25, ↓k_se25, ↓k_ic25, ↓k_de25, ↓k_tk25, ↓k_k, ↓k_kn, ↓k_kl, ↓k_kln, ↓k_il, ↓k_2, ↓k_1, ↓k_2c, ↓k_2l, ↓k_ac, ↓k_an, ↓k_cs, ↓k_cv, ↓k_fi, ↓k_fr, ↓k_ai, ↓k_az, ↓k_ar, ↓k_sai, ↓k_saz, ↓k_soa, ↓k_sof, ↓k_spf, ↓k_sx, ↓k_blk, ↓k_sset, ↓k_sdec, ↓k_sri, ↓k_srv, ↓k_srr, ↓k_nop, ↓k_add, ↓k_sub, ↓k_mul, ↓k_min, ↓k_max, ↓k_shr, ↓k_shl, ↓k_or, ↓k_ilz, ↓k_addl, ↓k_rt, ↓k_rb, ↓k_rbz, ↓k_rsi, ↓k_rsr, ↓k_rsv, ↓reduceIte, one, ↓(k_cv2 dX12_addRows (t12 hM)), ↓(k_cv2 dX12_nextWidths (t12 hM)), ↓j4, ↓k3, ↓xr12_3 hM, ↓xa12_3 hM, ↓xs12_3 hM, ↓xo12_3 hM, ↓xc12_3 hM, ↓xd12_3 hM, List.length_cons, List.length_nil, List.forall_mem_cons, List.not_mem_nil, Value.category, true_and, and_true, false_and, and_false, or_true, true_or, or_false, false_or, Nat.zero_le, forall_const, implies_true, false_implies, Nat.zero_add, Nat.reduceAdd, Nat.reduceLT, Nat.reduceLeDiff, Nat.le_refl, not_true_eq_false, not_false_eq_true, r_eq, r_ne, r_lt, r_ge, r_gt, r_le, bz_ne, nn_toNat, cn_of, cn_0, cn_1, i10, Int.reduceLE, Int.reduceLT, Int.reduceEq, bz_T, bz_F, ite_self, mulc, st_bud]
      exact hk
    have rs2 := RSo_w j3 k1
    have cn2 := CNT_w j2 k1
    have eW : ∀ oE : Option (Int × (Int → List Int) × (Int → Int)), (oE.bind (stF (partsE T (fi f) W))).bind (gW T (fi f) (match nxtC W with | some W' => chn d W' | none => [])) = oE.bind (gW T (fi f) (chn (d + 1) W)) := fun oE => by
      cases oE with
      | none => rfl
      | some E => rfl
    have he2 : (∃ E, oE.bind (stF (partsE T (fi f) W)) = some E) → HELr G2 B T s m := fun ⟨E, hE⟩ => by
      refine HELr_fr m4 s0 (he ?_) fo
      cases oE with
      | none => exact absurd hE (by simp)
      | some E1 => exact ⟨E1, rfl⟩
    rcases k2 with ⟨W', n1, n2, n3⟩ | ⟨n1, n2⟩
    · subst n2
      have e2 : endsB d W' = true := by
        rw [endsB, n1] at e
        exact e
      have ec : chn (d + 1) W = W :: chn d W' := by rw [chn, n1]
      obtain ⟨G', q1, q2, q3, q4⟩ := ih W' (oE.bind (stF (partsE T (fi f) W))) G2 e2 (fun X hX => hin X (by rw [ec]; exact List.mem_cons_of_mem _ hX)) n3 (TLr_fr tl (FRo_f fo)) he2 cn2 rs2
      have ew := eW oE
      rw [n1] at ew
      refine ⟨G', FRo_tr fo q1, q2, by rw [← ew]; exact q3, fun Kn Kr hh => q_backR (fun K Kf hk => stp Kr K Kf hk) (q4 Kn Kr hh)⟩
    · subst n2
      have ew := eW oE
      rw [n1] at ew
      have z : (oE.bind (stF (partsE T (fi f) W))).bind (gW T (fi f) []) = oE.bind (stF (partsE T (fi f) W)) := by
        cases oE.bind (stF (partsE T (fi f) W)) with
        | none => rfl
        | some E => rfl
      refine ⟨G2, fo, cn2, by rw [← ew, z]; exact rs2, fun Kn Kr hh => q_backR (fun K Kf hk => stp Kr K Kf hk) (q_outR (fun Kt Kf hk => ?_) hh)⟩
      clear hin hc tl he cn rs ih hW c1 c2 c3 bf x1 x2 x3 j1 j2 j3 k1 fo a3 a4 hF stp hh eW ew he2 rs2 cn2 z
      simp (disch := omega) only [↓wcX12_findRows_5.eq_1, ↓k_mk, ↓k_sq, ↓k_sk, ↓k_bk, ↓k_if, ↓k_te, ↓k_cm, ↓k_cz, ↓k_an2, ↓k_or2, ↓k_no, ↓k_ci, ↓k_l0, ↓k_r0, ↓k_se0, ↓k_ic0, ↓k_l1, ↓k_r1, ↓k_se1, ↓k_ic1, ↓k_de1, ↓k_tk1, ↓k_l2, ↓k_r2, ↓k_se2, ↓k_ic2, ↓k_de2, ↓k_tk2, ↓k_l3, ↓k_r3, ↓k_se3, ↓k_ic3, ↓k_de3, ↓k_tk3, ↓k_l4, ↓k_r4, ↓k_se4, ↓k_ic4, ↓k_de4, ↓k_tk4, ↓k_l5, ↓k_r5, ↓k_se5, ↓k_ic5, ↓k_de5, ↓k_tk5, ↓k_l6, ↓k_r6, ↓k_se6, ↓k_ic6, ↓k_de6, ↓k_tk6, ↓k_l7, ↓k_r7, ↓k_se7, ↓k_ic7, ↓k_de7, ↓k_tk7, ↓k_l8, ↓k_r8, ↓k_se8, ↓k_ic8, ↓k_de8, ↓k_tk8, ↓k_l9, ↓k_r9, ↓k_se9, ↓k_ic9, ↓k_de9, ↓k_tk9, ↓k_l10, ↓k_r10, ↓k_se10, ↓k_ic10, ↓k_de10, ↓k_tk10, ↓k_l11, ↓k_r11, ↓k_se11, ↓k_ic11, ↓k_de11, ↓k_tk11, ↓k_l12, ↓k_r12, ↓k_se12, ↓k_ic12, ↓k_de12, ↓k_tk12, ↓k_l13, ↓k_r13, ↓k_se13, ↓k_ic13, ↓k_de13, ↓k_tk13, ↓k_l14, ↓k_r14, ↓k_se14, ↓k_ic14, ↓k_de14, ↓k_tk14, ↓k_l15, ↓k_r15, ↓k_se15, ↓k_ic15, ↓k_de15, ↓k_tk15, ↓k_l16, ↓k_r16, ↓k_se16, ↓k_ic16, ↓k_de16, ↓k_tk16, ↓k_l17, ↓k_r17, ↓k_se17, ↓k_ic17, ↓k_de17, ↓k_tk17, ↓k_l18, ↓k_r18, ↓k_se18, ↓k_ic18, ↓k_de18, ↓k_tk18, ↓k_l19, ↓k_r19, ↓k_se19, ↓k_ic19, ↓k_de19, ↓k_tk19, ↓k_l20, ↓k_r20, ↓k_se20, ↓k_ic20, ↓k_de20, ↓k_tk20, ↓k_l21, ↓k_r21, ↓k_se21, ↓k_ic21, ↓k_de21, ↓k_tk21, ↓k_l22, ↓k_r22, ↓k_se22, ↓k_ic22, ↓k_de22, ↓k_tk22, ↓k_l23, ↓k_r23, ↓k_se23, ↓k_ic23, ↓k_de23, ↓k_tk23, ↓k_l24, ↓k_r24, ↓k_se24, ↓k_ic24, ↓k_de24, ↓k_tk24, ↓k_l25, ↓k_r25, ↓k_se25, ↓k_ic25, ↓k_de25, ↓k_tk25, ↓k_k, ↓k_kn, ↓k_kl, ↓k_kln, ↓k_il, ↓k_2, ↓k_1, ↓k_2c, ↓k_2l, ↓k_ac, ↓k_an, ↓k_cs, ↓k_cv, ↓k_fi, ↓k_fr, ↓k_ai, ↓k_az, ↓k_ar, ↓k_sai, ↓k_saz, ↓k_soa, ↓k_sof, ↓k_spf, ↓k_sx, ↓k_blk, ↓k_sset, ↓k_sdec, ↓k_sri, ↓k_srv, ↓k_srr, ↓k_nop, ↓k_add, ↓k_sub, ↓k_mul, ↓k_min, ↓k_max, ↓k_shr, ↓k_shl, ↓k_or, ↓k_ilz, ↓k_addl, ↓k_rt, ↓k_rb, ↓k_rbz, ↓k_rsi, ↓k_rsr, ↓k_rsv, ↓reduceIte, eq_self, List.length_cons, List.length_nil, List.forall_mem_cons, List.not_mem_nil, Value.category, true_and, and_true, false_and, and_false, or_true, true_or, or_false, false_or, Nat.zero_le, forall_const, implies_true, false_implies, Nat.zero_add, Nat.reduceAdd, Nat.reduceLT, Nat.reduceLeDiff, Nat.le_refl, not_true_eq_false, not_false_eq_true, r_eq, r_ne, r_lt, r_ge, r_gt, r_le, bz_ne, nn_toNat, cn_of, cn_0, cn_1, i10, Int.reduceLE, Int.reduceLT, Int.reduceEq, bz_T, bz_F, ite_self, mulc, st_bud]
      exact hk
/-- the state behind the forms from k on -/
def gFx (T : Int → Int → (Int × (Int → List Int) × (Int → Int))) (sf : Int → Int) (fi : Int → List Int) (s : Int) (m : Nat) : Nat → Nat → Option (Int × (Int → List Int) × (Int → Int)) → Option (Int × (Int → List Int) × (Int → Int))
  | 0, _, oE => oE
  | d + 1, k, oE => gFx T sf fi s m d (k + 1) (oE.bind fun E => if sf k = s then gW T (fi k) (comps m (fi k).length) E else some E)
set_option maxHeartbeats 400000 in
theorem gFx_gF {T : Int → Int → (Int × (Int → List Int) × (Int → Int))} {sf : Int → Int} {fi : Int → List Int} {s : Int} {m : Nat} : ∀ (d k : Nat), gFx T sf fi s m d k (gF T sf fi s m k) = gF T sf fi s m (k + d) := by
  intro d
  induction d with
  | zero => intro k; rfl
  | succ d ih =>
    intro k
    show gFx T sf fi s m d (k + 1) ((gF T sf fi s m k).bind _) = _
    have := ih (k + 1)
    rw [show k + (d + 1) = k + 1 + d by omega, ← this]
    rfl
set_option maxHeartbeats 400000 in
theorem gFx_none {T : Int → Int → (Int × (Int → List Int) × (Int → Int))} {sf : Int → Int} {fi : Int → List Int} {s : Int} {m : Nat} : ∀ (d k : Nat), gFx T sf fi s m d k none = none := by
  intro d
  induction d with
  | zero => intro k; rfl
  | succ d ih => intro k; exact ih (k + 1)
set_option maxHeartbeats 400000 in
/-- five ones -/
theorem fr_4 {T0 : Nat → Option q_T} {nx B : Nat} {R : Nat → Nat → Option Value} {v s n : Int} {m : Nat} {f : Int} (hM : Ly T0 R (B + 544) (L12 (B + 544))) : ∀ (d : Nat) (k : Int) (G : Nat → Int → Int), 0 ≤ k → k + d = 5 →
    ∃ G' : Nat → Int → Int, (∀ z, ¬ z = (B + 544 + 49) → G' z = G z) ∧ (∀ j, G' (B + 544 + 49) j = if k ≤ j ∧ j < 5 then 1 else G (B + 544 + 49) j) ∧ ∀ (Kn : List Value → q_M → Prop) (Kr : Option Value → q_M → Prop), Kn [.ref (B + 544), .int (zI v), .int (zI n), .int (zI m), .int (zI s), .int (zI (14 * v + f)), .int (zI 5)] (st T0 nx 0 0 R G') → q_wh wcX12_findRows_4 wsX12_findRows_4 [.ref (B + 544), .int (zI v), .int (zI n), .int (zI m), .int (zI s), .int (zI (14 * v + f)), .int (zI k)] (st T0 nx 0 0 R G) Kn Kr := by
  intro d
  induction d with
  | zero =>
    intro k G k0 e
    have e : k = 5 := by omega
    subst e
    refine ⟨G, fun _ _ => rfl, fun j => by rw [if_neg (by omega)], fun Kn Kr hh => q_outR (fun Kt Kf hk => ?_) hh⟩
    have g : ¬ (5 : Int) < 5 := by omega
    clear hh
    simp (disch := omega) only [↓wcX12_findRows_4.eq_1, ↓k_mk, ↓k_sq, ↓k_sk, ↓k_bk, ↓k_if, ↓k_te, ↓k_cm, ↓k_cz, ↓k_an2, ↓k_or2, ↓k_no, ↓k_ci, ↓k_l0, ↓k_r0, ↓k_se0, ↓k_ic0, ↓k_l1, ↓k_r1, ↓k_se1, ↓k_ic1, ↓k_de1, ↓k_tk1, ↓k_l2, ↓k_r2, ↓k_se2, ↓k_ic2, ↓k_de2, ↓k_tk2, ↓k_l3, ↓k_r3, ↓k_se3, ↓k_ic3, ↓k_de3, ↓k_tk3, ↓k_l4, ↓k_r4, ↓k_se4, ↓k_ic4, ↓k_de4, ↓k_tk4, ↓k_l5, ↓k_r5, ↓k_se5, ↓k_ic5, ↓k_de5, ↓k_tk5, ↓k_l6, ↓k_r6, ↓k_se6, ↓k_ic6, ↓k_de6, ↓k_tk6, ↓k_l7, ↓k_r7, ↓k_se7, ↓k_ic7, ↓k_de7, ↓k_tk7, ↓k_l8, ↓k_r8, ↓k_se8, ↓k_ic8, ↓k_de8, ↓k_tk8, ↓k_l9, ↓k_r9, ↓k_se9, ↓k_ic9, ↓k_de9, ↓k_tk9, ↓k_l10, ↓k_r10, ↓k_se10, ↓k_ic10, ↓k_de10, ↓k_tk10, ↓k_l11, ↓k_r11, ↓k_se11, ↓k_ic11, ↓k_de11, ↓k_tk11, ↓k_l12, ↓k_r12, ↓k_se12, ↓k_ic12, ↓k_de12, ↓k_tk12, ↓k_l13, ↓k_r13, ↓k_se13, ↓k_ic13, ↓k_de13, ↓k_tk13, ↓k_l14, ↓k_r14, ↓k_se14, ↓k_ic14, ↓k_de14, ↓k_tk14, ↓k_l15, ↓k_r15, ↓k_se15, ↓k_ic15, ↓k_de15, ↓k_tk15, ↓k_l16, ↓k_r16, ↓k_se16, ↓k_ic16, ↓k_de16, ↓k_tk16, ↓k_l17, ↓k_r17, ↓k_se17, ↓k_ic17, ↓k_de17, ↓k_tk17, ↓k_l18, ↓k_r18, ↓k_se18, ↓k_ic18, ↓k_de18, ↓k_tk18, ↓k_l19, ↓k_r19, ↓k_se19, ↓k_ic19, ↓k_de19, ↓k_tk19, ↓k_l20, ↓k_r20, ↓k_se20, ↓k_ic20, ↓k_de20, ↓k_tk20, ↓k_l21, ↓k_r21, ↓k_se21, ↓k_ic21, ↓k_de21, ↓k_tk21, ↓k_l22, ↓k_r22, ↓k_se22, ↓k_ic22, ↓k_de22, ↓k_tk22, ↓k_l23, ↓k_r23, ↓k_se23, ↓k_ic23, ↓k_de23, ↓k_tk23, ↓k_l24, ↓k_r24, ↓k_se24, ↓k_ic24, ↓k_de24, ↓k_tk24, ↓k_l25, ↓k_r25, ↓k_se25, ↓k_ic25, ↓k_de25, ↓k_tk25, ↓k_k, ↓k_kn, ↓k_kl, ↓k_kln, ↓k_il, ↓k_2, ↓k_1, ↓k_2c, ↓k_2l, ↓k_ac, ↓k_an, ↓k_cs, ↓k_cv, ↓k_fi, ↓k_fr, ↓k_ai, ↓k_az, ↓k_ar, ↓k_sai, ↓k_saz, ↓k_soa, ↓k_sof, ↓k_spf, ↓k_sx, ↓k_blk, ↓k_sset, ↓k_sdec, ↓k_sri, ↓k_srv, ↓k_srr, ↓k_nop, ↓k_add, ↓k_sub, ↓k_mul, ↓k_min, ↓k_max, ↓k_shr, ↓k_shl, ↓k_or, ↓k_ilz, ↓k_addl, ↓k_rt, ↓k_rb, ↓k_rbz, ↓k_rsi, ↓k_rsr, ↓k_rsv, ↓reduceIte, g, List.length_cons, List.length_nil, List.forall_mem_cons, List.not_mem_nil, Value.category, true_and, and_true, false_and, and_false, or_true, true_or, or_false, false_or, Nat.zero_le, forall_const, implies_true, false_implies, Nat.zero_add, Nat.reduceAdd, Nat.reduceLT, Nat.reduceLeDiff, Nat.le_refl, not_true_eq_false, not_false_eq_true, r_eq, r_ne, r_lt, r_ge, r_gt, r_le, bz_ne, nn_toNat, cn_of, cn_0, cn_1, i10, Int.reduceLE, Int.reduceLT, Int.reduceEq, bz_T, bz_F, ite_self, mulc, st_bud]
    exact hk
  | succ d ih =>
    intro k G k0 e
    obtain ⟨G', q1, q2, q3⟩ := ih (k + 1) (gs G (B + 544 + 49) k 1) (by omega) (by omega)
    refine ⟨G', fun z hz => by rw [q1 z hz, gs_ne hz], fun j => ?_, fun Kn Kr hh => q_backR (fun K Kf hk => ?_) (q3 Kn Kr hh)⟩
    · rw [q2 j, gs_eq, fu_at]
      by_cases z : k + 1 ≤ j ∧ j < 5
      · rw [if_pos z, if_pos (by omega)]
      · rw [if_neg z]
        by_cases y : j = k
        · rw [if_pos y, if_pos (by omega)]
        · rw [if_neg y, if_neg (by omega)]
    · have g : k < 5 := by omega
      clear ih q1 q2 q3
      simp (disch := omega) only [↓wcX12_findRows_4.eq_1, ↓wsX12_findRows_4.eq_1, ↓k_mk, ↓k_sq, ↓k_sk, ↓k_bk, ↓k_if, ↓k_te, ↓k_cm, ↓k_cz, ↓k_an2, ↓k_or2, ↓k_no, ↓k_ci, ↓k_l0, ↓k_r0, ↓k_se0, ↓k_ic0, ↓k_l1, ↓k_r1, ↓k_se1, ↓k_ic1, ↓k_de1, ↓k_tk1, ↓k_l2, ↓k_r2, ↓k_se2, ↓k_ic2, ↓k_de2, ↓k_tk2, ↓k_l3, ↓k_r3, ↓k_se3, ↓k_ic3, ↓k_de3, ↓k_tk3, ↓k_l4, ↓k_r4, ↓k_se4, ↓k_ic4, ↓k_de4, ↓k_tk4, ↓k_l5, ↓k_r5, ↓k_se5, ↓k_ic5, ↓k_de5, ↓k_tk5, ↓k_l6, ↓k_r6, ↓k_se6, ↓k_ic6, ↓k_de6, ↓k_tk6, ↓k_l7, ↓k_r7, ↓k_se7, ↓k_ic7, ↓k_de7, ↓k_tk7, ↓k_l8, ↓k_r8, ↓k_se8, ↓k_ic8, ↓k_de8, ↓k_tk8, ↓k_l9, ↓k_r9, ↓k_se9, ↓k_ic9, ↓k_de9, ↓k_tk9, ↓k_l10, ↓k_r10, ↓k_se10, ↓k_ic10, ↓k_de10, ↓k_tk10, ↓k_l11, ↓k_r11, ↓k_se11, ↓k_ic11, ↓k_de11, ↓k_tk11, ↓k_l12, ↓k_r12, ↓k_se12, ↓k_ic12, ↓k_de12, ↓k_tk12, ↓k_l13, ↓k_r13, ↓k_se13, ↓k_ic13, ↓k_de13, ↓k_tk13, ↓k_l14, ↓k_r14, ↓k_se14, ↓k_ic14, ↓k_de14, ↓k_tk14, ↓k_l15, ↓k_r15, ↓k_se15, ↓k_ic15, ↓k_de15, ↓k_tk15, ↓k_l16, ↓k_r16, ↓k_se16, ↓k_ic16, ↓k_de16, ↓k_tk16, ↓k_l17, ↓k_r17, ↓k_se17, ↓k_ic17, ↓k_de17, ↓k_tk17, ↓k_l18, ↓k_r18, ↓k_se18, ↓k_ic18, ↓k_de18, ↓k_tk18, ↓k_l19, ↓k_r19, ↓k_se19, ↓k_ic19, ↓k_de19, ↓k_tk19, ↓k_l20, ↓k_r20, ↓k_se20, ↓k_ic20, ↓k_de20, ↓k_tk20, ↓k_l21, ↓k_r21, ↓k_se21, ↓k_ic21, ↓k_de21, ↓k_tk21, ↓k_l22, ↓k_r22, ↓k_se22, ↓k_ic22, ↓k_de22, ↓k_tk22, ↓k_l23, ↓k_r23, ↓k_se23, ↓k_ic23, ↓k_de23, ↓k_tk23, ↓k_l24, ↓k_r24, ↓k_se24, ↓k_ic24, ↓k_de24, ↓k_tk24, ↓k_l25, ↓k_r25, ↓k_se25, ↓k_ic25, ↓k_de25, ↓k_tk25, ↓k_k, ↓k_kn, ↓k_kl, ↓k_kln, ↓k_il, ↓k_2, ↓k_1, ↓k_2c, ↓k_2l, ↓k_ac, ↓k_an, ↓k_cs, ↓k_cv, ↓k_fi, ↓k_fr, ↓k_ai, ↓k_az, ↓k_ar, ↓k_sai, ↓k_saz, ↓k_soa, ↓k_sof, ↓k_spf, ↓k_sx, ↓k_blk, ↓k_sset, ↓k_sdec, ↓k_sri, ↓k_srv, ↓k_srr, ↓k_nop, ↓k_add, ↓k_sub, ↓k_mul, ↓k_min, ↓k_max, ↓k_shr, ↓k_shl, ↓k_or, ↓k_ilz, ↓k_addl, ↓k_rt, ↓k_rb, ↓k_rbz, ↓k_rsi, ↓k_rsr, ↓k_rsv, ↓reduceIte, g, ↓xr12_59 hM, ↓xa12_59 hM, ↓xs12_59 hM, ↓xo12_59 hM, ↓xc12_59 hM, ↓xd12_59 hM, List.length_cons, List.length_nil, List.forall_mem_cons, List.not_mem_nil, Value.category, true_and, and_true, false_and, and_false, or_true, true_or, or_false, false_or, Nat.zero_le, forall_const, implies_true, false_implies, Nat.zero_add, Nat.reduceAdd, Nat.reduceLT, Nat.reduceLeDiff, Nat.le_refl, not_true_eq_false, not_false_eq_true, r_eq, r_ne, r_lt, r_ge, r_gt, r_le, bz_ne, nn_toNat, cn_of, cn_0, cn_1, i10, Int.reduceLE, Int.reduceLT, Int.reduceEq, bz_T, bz_F, ite_self, mulc, st_bud]
      exact hk
set_option maxHeartbeats 400000 in
theorem AtI_app {g : Int → Int} : ∀ (a b : List Int) (k : Int), AtI g k a → AtI g (k + a.length) b → AtI g k (a ++ b) := by
  intro a
  induction a with
  | nil =>
    intro b k _ h
    rw [show k + (([] : List Int).length : Int) = k by simp] at h
    exact h
  | cons x a ih =>
    intro b k h1 h2
    rw [List.length_cons] at h2
    exact ⟨h1.1, ih b (k + 1) h1.2 (by rw [show k + 1 + (a.length : Int) = k + ((a.length + 1 : Nat) : Int) by omega]; exact h2)⟩
set_option maxHeartbeats 400000 in
theorem AtI_rep {g : Int → Int} : ∀ (n : Nat) (k : Int), (∀ j, k ≤ j → j < k + n → g j = 1) → AtI g k (List.replicate n 1) := by
  intro n
  induction n with
  | zero => intro k _; exact trivial
  | succ n ih =>
    intro k h
    exact ⟨h k (Int.le_refl _) (by omega), ih (k + 1) (fun j a b => h j (by omega) (by omega))⟩
end
