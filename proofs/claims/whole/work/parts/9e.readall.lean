section
/-! the reference reads a text -/
/-- the reference's ways are right ones -/
theorem WOk_ref {M : Nat → Int → Int} {B : Nat} {v n nf : Int} {sf C nn : Int → Int} {ft : Int → Int → Bool} (trc : TRC M B v nf sf nn C) (n16 : n ≤ 16) (hQ : PDr M B v (fun _ y => y ≤ n)) (hft : ∀ it x, 0 ≤ x → x < n → ft it x = sutB it (M (B + 544 + 39) x)) : WOk nf sf (fun ff => il (gC C ff) 0 (nn ff - 0).toNat) ft n (wyc (M (B + 544 + 40))) := fun s i j s0 s1 i0 ij jn => by
  obtain ⟨t1, t2, t3⟩ := trc
  have w := hQ i j i0 ij (by omega) jn s s0 s1
  rw [wyc_in ⟨s0, s1⟩, w]
  unfold sVr
  rw [t1, sumN_sh]
  congr 1
  refine sumN_congr fun m hm => ?_
  obtain ⟨a1, a2, a3, a4, a5⟩ := t3 (0 + m) (by omega) (by omega)
  show (if M (B + 544 + 3) (14 * v + (0 + m)) = s then _ else _) = _
  rw [a1]
  by_cases c : sf (0 + m) = s
  · rw [if_pos c, if_pos c]
    unfold rV
    rw [a3, il_congr (g := gC (M (B + 544 + 5)) (14 * v + (0 + m))) (g' := gC C (0 + m)) _ 0 (fun x x1 x2 => (a5 x x1 (by omega)).1)]
    exact rW_ft _ _ fun it q q1 q2 => by
      show sutB it (M (B + 544 + 39) q) = ft it q
      rw [hft it q (by omega) (by omega)]
  · rw [if_neg c, if_neg c]
/-- what a reading changes of the reference -/
def XCr (G G' : Nat → Int → Int) (B : Nat) : Prop := (∀ x, B + 544 ≤ x → ¬ (B + 560 ≤ x ∧ x ≤ B + 566) → ¬ (B + 585 ≤ x ∧ x ≤ B + 590) → ¬ ((B + 544 + 39) ≤ x ∧ x ≤ (B + 544 + 41)) → ¬ x = B + 544 → G' x = G x) ∧ (∀ j, ¬ j = 22 → ¬ j = 47 → ¬ j = 50 → G' (B + 544) j = G (B + 544) j) ∧ (∀ i, 0 ≤ i → i ≤ 31 → RowE G G' B i) ∧ ∀ i m, 0 ≤ i → i ≤ 11 → 0 ≤ m → m < 40 → G' (B + 544 + 22) (40 * i + m) = G (B + 544 + 22) (40 * i + m)
theorem NCr_row {G G' : Nat → Int → Int} {B : Nat} (h : NCr G G' B) : (∀ i, 0 ≤ i → i ≤ 31 → RowE G G' B i) ∧ ∀ i m, 0 ≤ i → i ≤ 11 → 0 ≤ m → m < 40 → G' (B + 544 + 22) (40 * i + m) = G (B + 544 + 22) (40 * i + m) := by
  refine ⟨fun i q0 q1 => ?_, fun i m q0 q1 q2 q3 => (h.2.2.2.1 _ (by omega)).2.2⟩
  obtain ⟨a1, a2, a3⟩ := h.2.2.1 i (by omega)
  refine ⟨a1, a2, a3, fun m m0 m1 => ?_⟩
  obtain ⟨b1, b2, _⟩ := h.2.2.2.1 m (by omega)
  exact ⟨b1, b2, fun k k0 k1 => h.2.2.2.2 k (by omega)⟩
/-- it takes a text and finds the ways -/
theorem rr_ref {T : Nat → Option q_T} {nx B : Nat} {R : Nat → Nat → Option Value} {G Gc : Nat → Int → Int} {v u n : Int} {Q : Int → Int → Int → Int} (hM : Ly T R (B + 544) (L12 (B + 544))) (iFm : IFm G B) (iTx : ITx G B) (v0 : 0 ≤ v) (v1 : v ≤ 1) (u0 : 0 ≤ u) (u1 : u ≤ 7) (hn : n = G (B + 3) u) (up : ∀ x, B + 544 ≤ x → Gc x = G x) (hQ : QOK (G (B + 370 + 14 * v.toNat) 1) (G (B + 370 + 14 * v.toNat + 2)) (fun ff => il (gC (G (B + 370 + 14 * v.toNat + 4)) ff) 0 (G (B + 370 + 14 * v.toNat + 3) ff - 0).toNat) (ftX (fun p => G (B + 2) (16 * u + p))) n Q) :
    ∃ G3 G4, (∀ x, ¬ x = B + 544 → ¬ ((B + 544 + 39) ≤ x ∧ x ≤ (B + 544 + 41)) → G4 x = Gc x) ∧ (∀ j, ¬ j = 47 → G4 (B + 544) j = G (B + 544) j) ∧ G4 (B + 544) 47 = n ∧ (∀ p, 0 ≤ p → p < n → G4 (B + 544 + 39) p = G (B + 2) (16 * u + p)) ∧ WBr G4 B ∧ (∀ s x y, 0 ≤ x → x < y → y ≤ n → (Q s x y = 0 ↔ 0 < wyc (G4 (B + 544 + 40)) s x y)) ∧ TRC G4 B v (G (B + 370 + 14 * v.toNat) 1) (G (B + 370 + 14 * v.toNat + 2)) (G (B + 370 + 14 * v.toNat + 3)) (G (B + 370 + 14 * v.toNat + 4)) ∧ (∀ K : Option Value → q_M → Prop, fX12_takeText [.ref (B + 544), .int (zI u)] (st T nx 0 0 R Gc) K = K none (st T nx 0 0 R G3)) ∧ ∀ K : Option Value → q_M → Prop, fX12_findWays [.ref (B + 544), .int (zI v)] (st T nx 0 0 R G3) K = K none (st T nx 0 0 R G4) := by
  obtain ⟨x1, x2, x3, x4⟩ := iTx u u0 u1
  rw [← hn] at x1 x2 x3 x4
  obtain ⟨G3, b1, b2, b3, b4, b5⟩ := c12_takeText (T := T) (nx := nx) (rc := 0) (rs := 0) (R := R) (G := Gc) hM u0 u1 (by rw [up _ (by omega)]; exact x1) x2 x3
  have cd : ∀ p, 0 ≤ p → p < n → -2147483648 ≤ G (B + 2) (16 * u + p) ∧ G (B + 2) (16 * u + p) < 2147483648 := fun p q1 q2 => by
    have := (x4 p q1 q2).2
    unfold isCd at this
    omega
  have r3 : ∀ p, 0 ≤ p → p < n → G3 (B + 544 + 39) p = G (B + 2) (16 * u + p) := fun p q1 q2 => by rw [b4 p q1 q2, up _ (by omega)]; exact (x4 p q1 q2).1
  have o3 : ∀ x, B + 544 + 2 ≤ x → x ≤ B + 544 + 5 → G3 x = G x := fun x q1 q2 => by rw [b1 x (by omega) (by omega), up x (by omega)]
  have o3' : ∀ x, B + 544 + 1 ≤ x → x ≤ B + 544 + 5 → G3 x = G x := fun x q1 q2 => by rw [b1 x (by omega) (by omega), up x (by omega)]
  have hR3 : FTr G3 B v := by
    have := FTr_of iFm v0 v1
    unfold FTr at this ⊢
    rw [o3' (B + 544 + 2) (by omega) (by omega), o3' (B + 544 + 3) (by omega) (by omega), o3' (B + 544 + 4) (by omega) (by omega), o3' (B + 544 + 5) (by omega) (by omega)]
    exact this
  obtain ⟨G4, d1, d2, d3, d4⟩ := c12_findWays (T := T) (nx := nx) (rc := 0) (rs := 0) (R := R) (G := G3) (v := v) (n := n) hM hR3 v0 v1 x2 x3 b3 (fun p q1 q2 => by rw [r3 p q1 q2]; exact cd p q1 q2)
  have e4 : G4 (B + 544 + 39) = G3 (B + 544 + 39) := d1 _ (by omega) (by omega)
  have trc : TRC G4 B v (G (B + 370 + 14 * v.toNat) 1) (G (B + 370 + 14 * v.toNat + 2)) (G (B + 370 + 14 * v.toNat + 3)) (G (B + 370 + 14 * v.toNat + 4)) := TRC_fr (fun x q1 q2 => by rw [d1 x (by omega) (by omega), o3 x q1 q2]) (TRC_of iFm v0 v1)
  have wk := WOk_ref (M := G4) (ft := (ftX (fun p => G (B + 2) (16 * u + p)))) trc x3 d3 (fun it x q1 q2 => by
    show sutB it (G (B + 2) (16 * u + x)) = sutB it (G4 (B + 544 + 39) x)
    rw [e4, r3 x q1 q2])
  have za := Z_all (W := G4 (B + 544 + 40)) (FO5_of iFm v0 v1) hQ (fun s x y s0 s1 q1 q2 q3 => (d2 s x y s0 s1 q1 q2 (by omega)).1) wk
  exact ⟨G3, G4, fun x q1 q2 => by rw [d1 x (by omega) (by omega), b1 x q1 (by omega)], fun j q => by rw [d1 _ (by omega) (by omega), b2 j q, up _ (by omega)], by rw [d1 _ (by omega) (by omega)]; exact b3, fun p q1 q2 => by rw [e4]; exact r3 p q1 q2, d2, fun s x y q1 q2 q3 => za (y - x).toNat x y q1 q2 q3 (by omega) s, trc, b5, d4⟩
/-- it reads what has a reading -/
theorem rd_into {T : Nat → Option q_T} {nx B : Nat} {R : Nat → Nat → Option Value} {G G4 : Nat → Int → Int} {v u n : Int} {c : Int → Int} {w : List Int} {Q : Int → Int → Int → Int} (hM : Ly T R (B + 544) (L12 (B + 544))) (iFm : IFm G B) (iTx : ITx G B) (v0 : 0 ≤ v) (v1 : v ≤ 1) (u0 : 0 ≤ u) (u1 : u ≤ 7) (hn : n = G (B + 3) u) (hQ : QOK (G (B + 370 + 14 * v.toNat) 1) (G (B + 370 + 14 * v.toNat + 2)) (fun ff => il (gC (G (B + 370 + 14 * v.toNat + 4)) ff) 0 (G (B + 370 + 14 * v.toNat + 3) ff - 0).toNat) (ftX (fun p => G (B + 2) (16 * u + p))) n Q) (p3 : G4 (B + 544) 47 = n) (p4 : ∀ p, 0 ≤ p → p < n → G4 (B + 544 + 39) p = G (B + 2) (16 * u + p)) (wb : WBr G4 B) (zz : ∀ s x y, 0 ≤ x → x < y → y ≤ n → (Q s x y = 0 ↔ 0 < wyc (G4 (B + 544 + 40)) s x y)) (trc : TRC G4 B v (G (B + 370 + 14 * v.toNat) 1) (G (B + 370 + 14 * v.toNat + 2)) (G (B + 370 + 14 * v.toNat + 3)) (G (B + 370 + 14 * v.toNat + 4))) (hw : GW (G (B + 370 + 14 * v.toNat) 1) (G (B + 370 + 14 * v.toNat + 2)) (G (B + 370 + 14 * v.toNat + 3)) (G (B + 370 + 14 * v.toNat + 4)) (ftX (fun p => G (B + 2) (16 * u + p))) Q (fun p => G (B + 2) (16 * u + p)) n 118 0 0 n w) (q0 : Q 0 0 n = 0) (hA : At c 0 w) (s1 : Pre (G (tvA B v + 5)) c w.length) (n5 : ∀ q : Nat, 1000 ≤ c q → ns0 (c q) (G (tvA B v + 5))) :
    ∃ G8, NCr G4 G8 B ∧ ((nb c w.length ≤ 40 ∧ G8 (B + 544) 22 = 0 ∧ BS (G (tvA B v + 5)) c G8 B 92 v w.length) ∨ (40 < nb c w.length ∧ G8 (B + 544) 22 = 1)) ∧ ∀ K : Option Value → q_M → Prop, fX12_readInto [.ref (B + 544), .int (zI v), .int (zI 92)] (st T nx 0 0 R G4) K = K none (st T nx 0 0 R G8) := by
  obtain ⟨x1, x2, x3, x4⟩ := iTx u u0 u1
  rw [← hn] at x1 x2 x3 x4
  have hX : ∀ x, 0 ≤ x → x < n → -2147483648 ≤ G (B + 2) (16 * u + x) ∧ G (B + 2) (16 * u + x) < 2147483648 := fun p q1 q2 => by
    have := (x4 p q1 q2).2
    unfold isCd at this
    omega
  obtain ⟨G5, b1, b2, b3, b4⟩ := c12_beginB (T := T) (nx := nx) (rc := 0) (rs := 0) (R := R) (G := G4) (i := 92) (v := v) (ns := G (tvA B v + 5)) (c := c) hM (by omega) (by omega)
  obtain ⟨G6, e6⟩ : ∃ M, M = gs G5 (B + 544) 50 0 := ⟨_, rfl⟩
  have o6 : ∀ x, ¬ x = B + 544 → G6 x = G5 x := fun x q => by rw [e6, gs_ne q]
  have j6 : ∀ j, ¬ j = 50 → G6 (B + 544) j = G5 (B + 544) j := fun j q => by rw [e6, gs_eq, fu_ne q]
  obtain ⟨G7, d1, d2, d3, d4, d5, d6⟩ := c12_awaitPart (T := T) (nx := nx) (rc := 0) (rs := 0) (R := R) (G := G6) (W := 0) (s := 0) (p := 0) (e := n) (n := -1) (t := 0) hM (Int.le_refl _) (by omega) (by rw [e6]; exact gs_same _ _ _ _)
  have nc7 : NCr G5 G7 B := NCr_of (fun x q1 q2 q3 => by rw [d1 x (by omega) q3, o6 x q3]) (fun j q1 q2 => by rw [d2 j q2, j6 j q2])
  have nc := NCr_tr (NCr_B b1) nc7
  have n5' : ∀ q : Nat, q < w.length → 1000 ≤ c q → G (tvA B v + 5) (c q - 1000) ≤ 5 := fun q _ h => (n5 q h).2.2
  have nz : nb c 0 = 0 := rfl
  have dz : dd (G (tvA B v + 5)) c 0 = 1 := rfl
  have pr0 : Pre (G (tvA B v + 5)) c 0 := Pre_le s1 (by omega)
  have res := rd_piece (T := T) (nx := nx) (R := R) (G0 := G4) (N := n) (X := (fun p => G (B + 2) (16 * u + p))) (ft := (ftX (fun p => G (B + 2) (16 * u + p)))) (Q := Q) (ns := G (tvA B v + 5)) (I := G (tvA B v + 6)) (c := c) (L := w.length) hM trc v0 v1 wb zz (fun s x y q1 q2 q3 => by
    have := Q_nn hQ s q1 q2 q3
    exact ⟨this.1, this.2.2⟩) (fun it x _ _ => rfl) (fun x q0 q1 => ⟨p4 x q0 q1, hX x q0 q1⟩) x3 (fun f f0 f1 => ((iFm v v0 v1).2.2.2 f f0 f1).2.2.1) s1 n5' 118 0 0 n w 0 G7 0 (Int.le_refl _) (by omega) (Int.le_refl _) x2 (Int.le_refl _) hw q0 hA (by omega) (by omega) (Int.le_refl _) (by omega) nc (BS_congr (fun x q1 q2 => by rw [d1 x (by omega) (by omega), o6 x (by omega)]) b3) (EL_0 s1 n5') (by rw [d3]) (by rw [d2 _ (by omega), j6 _ (by omega)]; exact b2) (fun t ht => by
    rcases tg_b pr0 (fun q hq => absurd hq (by omega)) ht with ⟨_, z⟩ | ⟨z, _⟩
    · rw [z]
      exact d5
    · omega)
  rw [Nat.zero_add] at res
  have f47 : gs G5 (B + 544) 50 0 (B + 544) 47 = n := by rw [gs_eq, fu_ne (by omega), b1.2.1 _ (by omega)]; exact p3
  rw [e6] at d6
  have fin : ∀ G8, (∀ (Kn : List Value → q_M → Prop) (Kr : Option Value → q_M → Prop), wX12_readInto_0 [.ref (B + 544), .int (zI v), .int (zI 92)] (st T nx 0 0 R G7) Kn Kr = Kn [.ref (B + 544), .int (zI v), .int (zI 92)] (st T nx 0 0 R G8)) → ∀ K : Option Value → q_M → Prop, fX12_readInto [.ref (B + 544), .int (zI v), .int (zI 92)] (st T nx 0 0 R G4) K = K none (st T nx 0 0 R G8) := fun G8 lw K => by
    clear res nc nc7 trc hw s1 n5 n5' hX x4 hQ iFm iTx p4 wb zz d5 d4 d3 d2 d1 b3 b2 b1 o6 j6
    simp (disch := omega) only [↓fX12_readInto.eq_1, ↓uX12_readInto, ↓(k_cv2 dX12_begin (t12 hM)), ↓(k_cv5 dX12_awaitPart (t12 hM)), ↓k_mk, ↓k_sq, ↓k_sk, ↓k_bk, ↓k_if, ↓k_te, ↓k_cm, ↓k_cz, ↓k_an2, ↓k_or2, ↓k_no, ↓k_ci, ↓k_l0, ↓k_r0, ↓k_se0, ↓k_ic0, ↓k_l1, ↓k_r1, ↓k_se1, ↓k_ic1, ↓k_de1, ↓k_tk1, ↓k_l2, ↓k_r2, ↓k_se2, ↓k_ic2, ↓k_de2, ↓k_tk2, ↓k_l3, ↓k_r3, ↓k_se3, ↓k_ic3, ↓k_de3, ↓k_tk3, ↓k_l4, ↓k_r4, ↓k_se4, ↓k_ic4, ↓k_de4, ↓k_tk4, ↓k_l5, ↓k_r5, ↓k_se5, ↓k_ic5, ↓k_de5, ↓k_tk5, ↓k_l6, ↓k_r6, ↓k_se6, ↓k_ic6, ↓k_de6, ↓k_tk6, ↓k_l7, ↓k_r7, ↓k_se7, ↓k_ic7, ↓k_de7, ↓k_tk7, ↓k_l8, ↓k_r8, ↓k_se8, ↓k_ic8, ↓k_de8, ↓k_tk8, ↓k_l9, ↓k_r9, ↓k_se9, ↓k_ic9, ↓k_de9, ↓k_tk9, ↓k_l10, ↓k_r10, ↓k_se10, ↓k_ic10, ↓k_de10, ↓k_tk10, ↓k_l11, ↓k_r11, ↓k_se11, ↓k_ic11, ↓k_de11, ↓k_tk11, ↓k_l12, ↓k_r12, ↓k_se12, ↓k_ic12, ↓k_de12, ↓k_tk12, ↓k_l13, ↓k_r13, ↓k_se13, ↓k_ic13, ↓k_de13, ↓k_tk13, ↓k_l14, ↓k_r14, ↓k_se14, ↓k_ic14, ↓k_de14, ↓k_tk14, ↓k_l15, ↓k_r15, ↓k_se15, ↓k_ic15, ↓k_de15, ↓k_tk15, ↓k_l16, ↓k_r16, ↓k_se16, ↓k_ic16, ↓k_de16, ↓k_tk16, ↓k_l17, ↓k_r17, ↓k_se17, ↓k_ic17, ↓k_de17, ↓k_tk17, ↓k_l18, ↓k_r18, ↓k_se18, ↓k_ic18, ↓k_de18, ↓k_tk18, ↓k_l19, ↓k_r19, ↓k_se19, ↓k_ic19, ↓k_de19, ↓k_tk19, ↓k_l20, ↓k_r20, ↓k_se20, ↓k_ic20, ↓k_de20, ↓k_tk20, ↓k_l21, ↓k_r21, ↓k_se21, ↓k_ic21, ↓k_de21, ↓k_tk21, ↓k_l22, ↓k_r22, ↓k_se22, ↓k_ic22, ↓k_de22, ↓k_tk22, ↓k_l23, ↓k_r23, ↓k_se23, ↓k_ic23, ↓k_de23, ↓k_tk23, ↓k_l24, ↓k_r24, ↓k_se24, ↓k_ic24, ↓k_de24, ↓k_tk24, ↓k_l25, ↓k_r25, ↓k_se25, ↓k_ic25, ↓k_de25, ↓k_tk25, ↓k_k, ↓k_kn, ↓k_kl, ↓k_kln, ↓k_il, ↓k_2, ↓k_1, ↓k_2c, ↓k_2l, ↓k_ac, ↓k_an, ↓k_cs, ↓k_cv, ↓k_fi, ↓k_fr, ↓k_ai, ↓k_az, ↓k_ar, ↓k_sai, ↓k_saz, ↓k_soa, ↓k_sof, ↓k_spf, ↓k_sx, ↓k_blk, ↓k_sset, ↓k_sdec, ↓k_sri, ↓k_srv, ↓k_srr, ↓k_nop, ↓k_add, ↓k_sub, ↓k_mul, ↓k_min, ↓k_max, ↓k_shr, ↓k_shl, ↓k_or, ↓k_ilz, ↓k_addl, ↓k_rt, ↓k_rb, ↓k_rbz, ↓k_rsi, ↓k_rsr, ↓k_rsv, ↓reduceIte, ↓(k_cv2 dX12_begin (t12 hM)), ↓b4, f47, ↓(k_cv5 dX12_awaitPart (t12 hM)), ↓d6, ↓lw, ↓xi12_47 hM, ↓xp12_47 hM, ↓xb12_47 hM, ↓xf12_47 hM, ↓xg12_47 hM, ↓xh12_47 hM, ↓xi12_50 hM, ↓xp12_50 hM, ↓xb12_50 hM, ↓xf12_50 hM, ↓xg12_50 hM, ↓xh12_50 hM, List.length_cons, List.length_nil, List.forall_mem_cons, List.not_mem_nil, Value.category, true_and, and_true, false_and, and_false, or_true, true_or, or_false, false_or, Nat.zero_le, forall_const, implies_true, false_implies, Nat.zero_add, Nat.reduceAdd, Nat.reduceLT, Nat.reduceLeDiff, Nat.le_refl, not_true_eq_false, not_false_eq_true, r_eq, r_ne, r_lt, r_ge, r_gt, r_le, bz_ne, nn_toNat, cn_of, cn_0, cn_1, i10, Int.reduceLE, Int.reduceLT, Int.reduceEq, bz_T, bz_F, ite_self, mulc, st_bud]
  rcases res with ⟨n40, G8, r1, r2, r3, r4, r5, r6, r7⟩ | ⟨n40, G8, r1, r2, r3, r4⟩
  · refine ⟨G8, r1, Or.inl ⟨n40, r5, r2⟩, fin G8 ?_⟩
    have z : ¬ (0 : Int) < 0 := by omega
    refine eX12_readInto_0.eqn (r7 _ _ (q_outR (fun Kt Kf hk => ?_) ⟨rfl, rfl⟩))
    clear r7 r1 r2 r3 r6 nc nc7 fin trc hw s1 n5 n5' hX x4 hQ iFm iTx p4 wb zz
    simp (disch := omega) only [↓wcX12_readInto_0.eq_1, ↓k_mk, ↓k_sq, ↓k_sk, ↓k_bk, ↓k_if, ↓k_te, ↓k_cm, ↓k_cz, ↓k_an2, ↓k_or2, ↓k_no, ↓k_ci, ↓k_l0, ↓k_r0, ↓k_se0, ↓k_ic0, ↓k_l1, ↓k_r1, ↓k_se1, ↓k_ic1, ↓k_de1, ↓k_tk1, ↓k_l2, ↓k_r2, ↓k_se2, ↓k_ic2, ↓k_de2, ↓k_tk2, ↓k_l3, ↓k_r3, ↓k_se3, ↓k_ic3, ↓k_de3, ↓k_tk3, ↓k_l4, ↓k_r4, ↓k_se4, ↓k_ic4, ↓k_de4, ↓k_tk4, ↓k_l5, ↓k_r5, ↓k_se5, ↓k_ic5, ↓k_de5, ↓k_tk5, ↓k_l6, ↓k_r6, ↓k_se6, ↓k_ic6, ↓k_de6, ↓k_tk6, ↓k_l7, ↓k_r7, ↓k_se7, ↓k_ic7, ↓k_de7, ↓k_tk7, ↓k_l8, ↓k_r8, ↓k_se8, ↓k_ic8, ↓k_de8, ↓k_tk8, ↓k_l9, ↓k_r9, ↓k_se9, ↓k_ic9, ↓k_de9, ↓k_tk9, ↓k_l10, ↓k_r10, ↓k_se10, ↓k_ic10, ↓k_de10, ↓k_tk10, ↓k_l11, ↓k_r11, ↓k_se11, ↓k_ic11, ↓k_de11, ↓k_tk11, ↓k_l12, ↓k_r12, ↓k_se12, ↓k_ic12, ↓k_de12, ↓k_tk12, ↓k_l13, ↓k_r13, ↓k_se13, ↓k_ic13, ↓k_de13, ↓k_tk13, ↓k_l14, ↓k_r14, ↓k_se14, ↓k_ic14, ↓k_de14, ↓k_tk14, ↓k_l15, ↓k_r15, ↓k_se15, ↓k_ic15, ↓k_de15, ↓k_tk15, ↓k_l16, ↓k_r16, ↓k_se16, ↓k_ic16, ↓k_de16, ↓k_tk16, ↓k_l17, ↓k_r17, ↓k_se17, ↓k_ic17, ↓k_de17, ↓k_tk17, ↓k_l18, ↓k_r18, ↓k_se18, ↓k_ic18, ↓k_de18, ↓k_tk18, ↓k_l19, ↓k_r19, ↓k_se19, ↓k_ic19, ↓k_de19, ↓k_tk19, ↓k_l20, ↓k_r20, ↓k_se20, ↓k_ic20, ↓k_de20, ↓k_tk20, ↓k_l21, ↓k_r21, ↓k_se21, ↓k_ic21, ↓k_de21, ↓k_tk21, ↓k_l22, ↓k_r22, ↓k_se22, ↓k_ic22, ↓k_de22, ↓k_tk22, ↓k_l23, ↓k_r23, ↓k_se23, ↓k_ic23, ↓k_de23, ↓k_tk23, ↓k_l24, ↓k_r24, ↓k_se24, ↓k_ic24, ↓k_de24, ↓k_tk24, ↓k_l25, ↓k_r25, ↓k_se25, ↓k_ic25, ↓k_de25, ↓k_tk25, ↓k_k, ↓k_kn, ↓k_kl, ↓k_kln, ↓k_il, ↓k_2, ↓k_1, ↓k_2c, ↓k_2l, ↓k_ac, ↓k_an, ↓k_cs, ↓k_cv, ↓k_fi, ↓k_fr, ↓k_ai, ↓k_az, ↓k_ar, ↓k_sai, ↓k_saz, ↓k_soa, ↓k_sof, ↓k_spf, ↓k_sx, ↓k_blk, ↓k_sset, ↓k_sdec, ↓k_sri, ↓k_srv, ↓k_srr, ↓k_nop, ↓k_add, ↓k_sub, ↓k_mul, ↓k_min, ↓k_max, ↓k_shr, ↓k_shl, ↓k_or, ↓k_ilz, ↓k_addl, ↓k_rt, ↓k_rb, ↓k_rbz, ↓k_rsi, ↓k_rsr, ↓k_rsv, ↓reduceIte, r4, z, ↓xi12_50 hM, ↓xp12_50 hM, ↓xb12_50 hM, ↓xf12_50 hM, ↓xg12_50 hM, ↓xh12_50 hM, List.length_cons, List.length_nil, List.forall_mem_cons, List.not_mem_nil, Value.category, true_and, and_true, false_and, and_false, or_true, true_or, or_false, false_or, Nat.zero_le, forall_const, implies_true, false_implies, Nat.zero_add, Nat.reduceAdd, Nat.reduceLT, Nat.reduceLeDiff, Nat.le_refl, not_true_eq_false, not_false_eq_true, r_eq, r_ne, r_lt, r_ge, r_gt, r_le, bz_ne, nn_toNat, cn_of, cn_0, cn_1, i10, Int.reduceLE, Int.reduceLT, Int.reduceEq, bz_T, bz_F, ite_self, mulc, st_bud]
    exact hk
  · refine ⟨G8, r1, Or.inr ⟨n40, r2⟩, fin G8 ?_⟩
    refine eX12_readInto_0.eqn (r4 _ _ (q_outR (fun Kt Kf hk => ?_) ⟨rfl, rfl⟩))
    obtain ⟨W, hW⟩ : ∃ W, W = G8 (B + 544) 50 := ⟨_, rfl⟩
    have hW' : G8 (B + 544) 50 = W := hW.symm
    have one : ¬ (1 : Int) = 0 := by omega
    rw [← hW] at r3
    clear r4 r1 nc nc7 fin trc hw s1 n5 n5' hX x4 hQ iFm iTx p4 wb zz
    by_cases z : 0 < W
    · simp (disch := omega) only [↓wcX12_readInto_0.eq_1, ↓k_mk, ↓k_sq, ↓k_sk, ↓k_bk, ↓k_if, ↓k_te, ↓k_cm, ↓k_cz, ↓k_an2, ↓k_or2, ↓k_no, ↓k_ci, ↓k_l0, ↓k_r0, ↓k_se0, ↓k_ic0, ↓k_l1, ↓k_r1, ↓k_se1, ↓k_ic1, ↓k_de1, ↓k_tk1, ↓k_l2, ↓k_r2, ↓k_se2, ↓k_ic2, ↓k_de2, ↓k_tk2, ↓k_l3, ↓k_r3, ↓k_se3, ↓k_ic3, ↓k_de3, ↓k_tk3, ↓k_l4, ↓k_r4, ↓k_se4, ↓k_ic4, ↓k_de4, ↓k_tk4, ↓k_l5, ↓k_r5, ↓k_se5, ↓k_ic5, ↓k_de5, ↓k_tk5, ↓k_l6, ↓k_r6, ↓k_se6, ↓k_ic6, ↓k_de6, ↓k_tk6, ↓k_l7, ↓k_r7, ↓k_se7, ↓k_ic7, ↓k_de7, ↓k_tk7, ↓k_l8, ↓k_r8, ↓k_se8, ↓k_ic8, ↓k_de8, ↓k_tk8, ↓k_l9, ↓k_r9, ↓k_se9, ↓k_ic9, ↓k_de9, ↓k_tk9, ↓k_l10, ↓k_r10, ↓k_se10, ↓k_ic10, ↓k_de10, ↓k_tk10, ↓k_l11, ↓k_r11, ↓k_se11, ↓k_ic11, ↓k_de11, ↓k_tk11, ↓k_l12, ↓k_r12, ↓k_se12, ↓k_ic12, ↓k_de12, ↓k_tk12, ↓k_l13, ↓k_r13, ↓k_se13, ↓k_ic13, ↓k_de13, ↓k_tk13, ↓k_l14, ↓k_r14, ↓k_se14, ↓k_ic14, ↓k_de14, ↓k_tk14, ↓k_l15, ↓k_r15, ↓k_se15, ↓k_ic15, ↓k_de15, ↓k_tk15, ↓k_l16, ↓k_r16, ↓k_se16, ↓k_ic16, ↓k_de16, ↓k_tk16, ↓k_l17, ↓k_r17, ↓k_se17, ↓k_ic17, ↓k_de17, ↓k_tk17, ↓k_l18, ↓k_r18, ↓k_se18, ↓k_ic18, ↓k_de18, ↓k_tk18, ↓k_l19, ↓k_r19, ↓k_se19, ↓k_ic19, ↓k_de19, ↓k_tk19, ↓k_l20, ↓k_r20, ↓k_se20, ↓k_ic20, ↓k_de20, ↓k_tk20, ↓k_l21, ↓k_r21, ↓k_se21, ↓k_ic21, ↓k_de21, ↓k_tk21, ↓k_l22, ↓k_r22, ↓k_se22, ↓k_ic22, ↓k_de22, ↓k_tk22, ↓k_l23, ↓k_r23, ↓k_se23, ↓k_ic23, ↓k_de23, ↓k_tk23, ↓k_l24, ↓k_r24, ↓k_se24, ↓k_ic24, ↓k_de24, ↓k_tk24, ↓k_l25, ↓k_r25, ↓k_se25, ↓k_ic25, ↓k_de25, ↓k_tk25, ↓k_k, ↓k_kn, ↓k_kl, ↓k_kln, ↓k_il, ↓k_2, ↓k_1, ↓k_2c, ↓k_2l, ↓k_ac, ↓k_an, ↓k_cs, ↓k_cv, ↓k_fi, ↓k_fr, ↓k_ai, ↓k_az, ↓k_ar, ↓k_sai, ↓k_saz, ↓k_soa, ↓k_sof, ↓k_spf, ↓k_sx, ↓k_blk, ↓k_sset, ↓k_sdec, ↓k_sri, ↓k_srv, ↓k_srr, ↓k_nop, ↓k_add, ↓k_sub, ↓k_mul, ↓k_min, ↓k_max, ↓k_shr, ↓k_shl, ↓k_or, ↓k_ilz, ↓k_addl, ↓k_rt, ↓k_rb, ↓k_rbz, ↓k_rsi, ↓k_rsr, ↓k_rsv, ↓reduceIte, hW', z, r2, one, ↓xi12_22 hM, ↓xp12_22 hM, ↓xb12_22 hM, ↓xf12_22 hM, ↓xg12_22 hM, ↓xh12_22 hM, ↓xi12_50 hM, ↓xp12_50 hM, ↓xb12_50 hM, ↓xf12_50 hM, ↓xg12_50 hM, ↓xh12_50 hM, List.length_cons, List.length_nil, List.forall_mem_cons, List.not_mem_nil, Value.category, true_and, and_true, false_and, and_false, or_true, true_or, or_false, false_or, Nat.zero_le, forall_const, implies_true, false_implies, Nat.zero_add, Nat.reduceAdd, Nat.reduceLT, Nat.reduceLeDiff, Nat.le_refl, not_true_eq_false, not_false_eq_true, r_eq, r_ne, r_lt, r_ge, r_gt, r_le, bz_ne, nn_toNat, cn_of, cn_0, cn_1, i10, Int.reduceLE, Int.reduceLT, Int.reduceEq, bz_T, bz_F, ite_self, mulc, st_bud]
      exact hk
    · simp (disch := omega) only [↓wcX12_readInto_0.eq_1, ↓k_mk, ↓k_sq, ↓k_sk, ↓k_bk, ↓k_if, ↓k_te, ↓k_cm, ↓k_cz, ↓k_an2, ↓k_or2, ↓k_no, ↓k_ci, ↓k_l0, ↓k_r0, ↓k_se0, ↓k_ic0, ↓k_l1, ↓k_r1, ↓k_se1, ↓k_ic1, ↓k_de1, ↓k_tk1, ↓k_l2, ↓k_r2, ↓k_se2, ↓k_ic2, ↓k_de2, ↓k_tk2, ↓k_l3, ↓k_r3, ↓k_se3, ↓k_ic3, ↓k_de3, ↓k_tk3, ↓k_l4, ↓k_r4, ↓k_se4, ↓k_ic4, ↓k_de4, ↓k_tk4, ↓k_l5, ↓k_r5, ↓k_se5, ↓k_ic5, ↓k_de5, ↓k_tk5, ↓k_l6, ↓k_r6, ↓k_se6, ↓k_ic6, ↓k_de6, ↓k_tk6, ↓k_l7, ↓k_r7, ↓k_se7, ↓k_ic7, ↓k_de7, ↓k_tk7, ↓k_l8, ↓k_r8, ↓k_se8, ↓k_ic8, ↓k_de8, ↓k_tk8, ↓k_l9, ↓k_r9, ↓k_se9, ↓k_ic9, ↓k_de9, ↓k_tk9, ↓k_l10, ↓k_r10, ↓k_se10, ↓k_ic10, ↓k_de10, ↓k_tk10, ↓k_l11, ↓k_r11, ↓k_se11, ↓k_ic11, ↓k_de11, ↓k_tk11, ↓k_l12, ↓k_r12, ↓k_se12, ↓k_ic12, ↓k_de12, ↓k_tk12, ↓k_l13, ↓k_r13, ↓k_se13, ↓k_ic13, ↓k_de13, ↓k_tk13, ↓k_l14, ↓k_r14, ↓k_se14, ↓k_ic14, ↓k_de14, ↓k_tk14, ↓k_l15, ↓k_r15, ↓k_se15, ↓k_ic15, ↓k_de15, ↓k_tk15, ↓k_l16, ↓k_r16, ↓k_se16, ↓k_ic16, ↓k_de16, ↓k_tk16, ↓k_l17, ↓k_r17, ↓k_se17, ↓k_ic17, ↓k_de17, ↓k_tk17, ↓k_l18, ↓k_r18, ↓k_se18, ↓k_ic18, ↓k_de18, ↓k_tk18, ↓k_l19, ↓k_r19, ↓k_se19, ↓k_ic19, ↓k_de19, ↓k_tk19, ↓k_l20, ↓k_r20, ↓k_se20, ↓k_ic20, ↓k_de20, ↓k_tk20, ↓k_l21, ↓k_r21, ↓k_se21, ↓k_ic21, ↓k_de21, ↓k_tk21, ↓k_l22, ↓k_r22, ↓k_se22, ↓k_ic22, ↓k_de22, ↓k_tk22, ↓k_l23, ↓k_r23, ↓k_se23, ↓k_ic23, ↓k_de23, ↓k_tk23, ↓k_l24, ↓k_r24, ↓k_se24, ↓k_ic24, ↓k_de24, ↓k_tk24, ↓k_l25, ↓k_r25, ↓k_se25, ↓k_ic25, ↓k_de25, ↓k_tk25, ↓k_k, ↓k_kn, ↓k_kl, ↓k_kln, ↓k_il, ↓k_2, ↓k_1, ↓k_2c, ↓k_2l, ↓k_ac, ↓k_an, ↓k_cs, ↓k_cv, ↓k_fi, ↓k_fr, ↓k_ai, ↓k_az, ↓k_ar, ↓k_sai, ↓k_saz, ↓k_soa, ↓k_sof, ↓k_spf, ↓k_sx, ↓k_blk, ↓k_sset, ↓k_sdec, ↓k_sri, ↓k_srv, ↓k_srr, ↓k_nop, ↓k_add, ↓k_sub, ↓k_mul, ↓k_min, ↓k_max, ↓k_shr, ↓k_shl, ↓k_or, ↓k_ilz, ↓k_addl, ↓k_rt, ↓k_rb, ↓k_rbz, ↓k_rsi, ↓k_rsr, ↓k_rsv, ↓reduceIte, hW', z, ↓xi12_22 hM, ↓xp12_22 hM, ↓xb12_22 hM, ↓xf12_22 hM, ↓xg12_22 hM, ↓xh12_22 hM, ↓xi12_50 hM, ↓xp12_50 hM, ↓xb12_50 hM, ↓xf12_50 hM, ↓xg12_50 hM, ↓xh12_50 hM, List.length_cons, List.length_nil, List.forall_mem_cons, List.not_mem_nil, Value.category, true_and, and_true, false_and, and_false, or_true, true_or, or_false, false_or, Nat.zero_le, forall_const, implies_true, false_implies, Nat.zero_add, Nat.reduceAdd, Nat.reduceLT, Nat.reduceLeDiff, Nat.le_refl, not_true_eq_false, not_false_eq_true, r_eq, r_ne, r_lt, r_ge, r_gt, r_le, bz_ne, nn_toNat, cn_of, cn_0, cn_1, i10, Int.reduceLE, Int.reduceLT, Int.reduceEq, bz_T, bz_F, ite_self, mulc, st_bud]
      exact hk
end
