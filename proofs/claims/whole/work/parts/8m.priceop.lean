section
/-! price -/
theorem TC_of {G : Nat → Int → Int} {B : Nat} {v : Int} (h : IFm G B) (v0 : 0 ≤ v) (v1 : v ≤ 1) : TC G (B + 370 + 14 * v.toNat) (G (B + 370 + 14 * v.toNat) 1) (G (B + 370 + 14 * v.toNat + 2)) (G (B + 370 + 14 * v.toNat + 4)) (G (B + 370 + 14 * v.toNat + 3)) := by
  obtain ⟨f1, f2, f3, f4⟩ := h v v0 v1
  refine ⟨rfl, rfl, rfl, rfl, ⟨f2, f3⟩, fun f q1 q2 => ?_⟩
  obtain ⟨so, ⟨⟨s1, s2, s3⟩, it, iu, i1⟩, _⟩ := f4 f q1 q2
  refine ⟨so.2, ⟨s2, s3⟩, fun k k0 k1 => ?_⟩
  have := (it k k0 k1).2
  unfold isIt at this
  unfold itR
  omega
theorem FO5_of {G : Nat → Int → Int} {B : Nat} {v : Int} (h : IFm G B) (v0 : 0 ≤ v) (v1 : v ≤ 1) : FO5 (G (B + 370 + 14 * v.toNat) 1) (G (B + 370 + 14 * v.toNat + 2)) (fun ff => il (gC (G (B + 370 + 14 * v.toNat + 4)) ff) 0 (G (B + 370 + 14 * v.toNat + 3) ff - 0).toNat) := by
  obtain ⟨g1, g2⟩ := FT_of h v0 v1
  refine ⟨fun f q1 q2 => ?_, fun f q1 q2 => ?_⟩
  · obtain ⟨u1, u2, u3, u4⟩ := g2 f q1 q2
    have e : il (gC (G (B + 370 + 14 * v.toNat + 4)) f) 0 (G (B + 370 + 14 * v.toNat + 3) f - 0).toNat = G (B + 370 + 14 * v.toNat + 4) (5 * f + 0) :: il (gC (G (B + 370 + 14 * v.toNat + 4)) f) (0 + 1) (G (B + 370 + 14 * v.toNat + 3) f - (0 + 1)).toNat := il_c (by omega)
    refine ⟨by show il _ _ _ ≠ []; rw [e]; exact List.cons_ne_nil _ _, fun it q3 => ?_, fun it q3 q4 => ?_⟩
    · obtain ⟨x, x1, x2, x3⟩ := il_mem _ _ _ q3
      have := u3 x x1 (by omega)
      rw [x3]
      exact this.2
    · have q3 : il (gC (G (B + 370 + 14 * v.toNat + 4)) f) 0 (G (B + 370 + 14 * v.toNat + 3) f - 0).toNat = [it] := q3
      have l1 : (G (B + 370 + 14 * v.toNat + 3) f - 0).toNat = 1 := by
        rw [← il_len (gC (G (B + 370 + 14 * v.toNat + 4)) f) (G (B + 370 + 14 * v.toNat + 3) f - 0).toNat 0, q3]
        rfl
      rw [e] at q3
      have a1 : G (B + 370 + 14 * v.toNat + 4) (5 * f + 0) = it := (List.cons.inj q3).1
      rw [← a1]
      exact u4 (by omega) (by rw [a1]; exact q4)
  · have := (g2 f q1 q2).2.1
    show (il (gC (G (B + 370 + 14 * v.toNat + 4)) f) 0 (G (B + 370 + 14 * v.toNat + 3) f - 0).toNat).length ≤ 5
    rw [il_len]
    omega
theorem TR_of {G G1 : Nat → Int → Int} {B : Nat} {v : Int} (h : IFm G B) (v0 : 0 ≤ v) (v1 : v ≤ 1) (hG : ∀ x, B + 544 + 2 ≤ x → x ≤ B + 544 + 5 → G1 x = G x) : TR G1 B v (G (B + 370 + 14 * v.toNat) 1) (G (B + 370 + 14 * v.toNat + 2)) (fun ff => il (gC (G (B + 370 + 14 * v.toNat + 4)) ff) 0 (G (B + 370 + 14 * v.toNat + 3) ff - 0).toNat) (G1 (B + 544 + 39)) := by
  obtain ⟨e1, e2⟩ := FR_eq h v0 v1
  obtain ⟨g1, g2⟩ := FT_of h v0 v1
  unfold TR
  rw [hG (B + 544 + 2) (by omega) (by omega), hG (B + 544 + 3) (by omega) (by omega), hG (B + 544 + 4) (by omega) (by omega), hG (B + 544 + 5) (by omega) (by omega)]
  refine ⟨e1, g1, rfl, fun f f0 f1 => ?_⟩
  obtain ⟨a1, a2, a3⟩ := e2 f f0 f1
  obtain ⟨b1, b2, b3, _⟩ := g2 f f0 f1
  rw [a2]
  refine ⟨a1, b1, b2, fun k k0 k1 => by rw [a3 k k0 k1]; exact b3 k k0 k1, il_congr _ _ fun x x0 x1 => ?_⟩
  exact a3 x x0 (by omega)
/-- the reference takes a text and finds its prices -/
theorem pr_ref {T : Nat → Option q_T} {nx B : Nat} {R : Nat → Nat → Option Value} {G Gc : Nat → Int → Int} {v u n : Int} (hM : Ly T R (B + 544) (L12 (B + 544))) (iFm : IFm G B) (iTx : ITx G B) (v0 : 0 ≤ v) (v1 : v ≤ 1) (u0 : 0 ≤ u) (u1 : u ≤ 7) (hn : n = G (B + 3) u) (up : ∀ x, B + 544 ≤ x → Gc x = G x) :
    ∃ G3 G4, (∀ x, ¬ x = B + 544 → ¬ x = (B + 544 + 39) → ¬ x = (B + 544 + 50) → ¬ x = (B + 544 + 51) → G4 x = Gc x) ∧ (∀ j, ¬ j = 47 → G4 (B + 544) j = G (B + 544) j) ∧ G4 (B + 544) 47 = n ∧ (∀ p, 0 ≤ p → p < n → G4 (B + 544 + 39) p = G (B + 2) (16 * u + p)) ∧ PBN (G4 (B + 544 + 50)) ∧ QOK (G (B + 370 + 14 * v.toNat) 1) (G (B + 370 + 14 * v.toNat + 2)) (fun ff => il (gC (G (B + 370 + 14 * v.toNat + 4)) ff) 0 (G (B + 370 + 14 * v.toNat + 3) ff - 0).toNat) (ftX (fun p => G (B + 2) (16 * u + p))) n (pq 1000000 (G4 (B + 544 + 50))) ∧ (∀ K : Option Value → q_M → Prop, fX12_takeText [.ref (B + 544), .int (zI u)] (st T nx 0 0 R Gc) K = K none (st T nx 0 0 R G3)) ∧ ∀ K : Option Value → q_M → Prop, fX12_findPrices [.ref (B + 544), .int (zI v)] (st T nx 0 0 R G3) K = K none (st T nx 0 0 R G4) := by
  obtain ⟨x1, x2, x3, x4⟩ := iTx u u0 u1
  rw [← hn] at x1 x2 x3 x4
  obtain ⟨G3, b1, b2, b3, b4, b5⟩ := c12_takeText (T := T) (nx := nx) (rc := 0) (rs := 0) (R := R) (G := Gc) hM u0 u1 (by rw [up _ (by omega)]; exact x1) x2 x3
  have cd : ∀ p, 0 ≤ p → p < n → -2147483648 ≤ G (B + 2) (16 * u + p) ∧ G (B + 2) (16 * u + p) < 2147483648 := fun p q1 q2 => by
    have := (x4 p q1 q2).2
    unfold isCd at this
    omega
  have r3 : ∀ p, 0 ≤ p → p < n → G3 (B + 544 + 39) p = G (B + 2) (16 * u + p) := fun p q1 q2 => by rw [b4 p q1 q2, up _ (by omega)]; exact (x4 p q1 q2).1
  have tr : TR G3 B v (G (B + 370 + 14 * v.toNat) 1) (G (B + 370 + 14 * v.toNat + 2)) (fun ff => il (gC (G (B + 370 + 14 * v.toNat + 4)) ff) 0 (G (B + 370 + 14 * v.toNat + 3) ff - 0).toNat) (G3 (B + 544 + 39)) := TR_of iFm v0 v1 fun x q1 q2 => by rw [b1 x (by omega) (by omega), up x (by omega)]
  obtain ⟨G4, d1, d2, d3, d4⟩ := c12_findPrices (T := T) (nx := nx) (rc := 0) (rs := 0) (R := R) (G := G3) (v := v) (n := n) hM tr v0 v1 x2 x3 b3 (fun p q1 q2 => by rw [r3 p q1 q2]; exact cd p q1 q2)
  have e4 : G4 (B + 544 + 39) = G3 (B + 544 + 39) := d1 _ (by omega) (by omega)
  refine ⟨G3, G4, fun x q1 q2 q3 q4 => by rw [d1 x q3 q4, b1 x q1 q2], fun j q => by rw [d1 _ (by omega) (by omega), b2 j q, up _ (by omega)], by rw [d1 _ (by omega) (by omega)]; exact b3, fun p q1 q2 => by rw [e4]; exact r3 p q1 q2, d2, QOK_ft (fun it x q1 q2 => ?_) d3, b5, d4⟩
  show sutB it (G3 (B + 544 + 39) x) = sutB it (G (B + 2) (16 * u + x))
  rw [r3 x q1 q2]
/-- the class opens a text and finds its prices -/
theorem pr_cls {T : Nat → Option q_T} {nx B x1 x2 x3 x4 : Nat} {R : Nat → Nat → Option Value} {G : Nat → Int → Int} {v u n : Int} (hL : Ly T R B (L11x B x1 x2 x3 x4)) (hM : Ly T R (B + 544) (L12 (B + 544))) (iFm : IFm G B) (iTx : ITx G B) (v0 : 0 ≤ v) (v1 : v ≤ 1) (u0 : 0 ≤ u) (u1 : u ≤ 7) (hn : n = G (B + 3) u) :
    ∃ G1 G2 Q, (0 ≤ n ∧ n ≤ 16) ∧ QOK (G (B + 370 + 14 * v.toNat) 1) (G (B + 370 + 14 * v.toNat + 2)) (fun ff => il (gC (G (B + 370 + 14 * v.toNat + 4)) ff) 0 (G (B + 370 + 14 * v.toNat + 3) ff - 0).toNat) (ftX (fun p => G (B + 2) (16 * u + p))) n Q ∧ (∀ x, ¬ (B + 526 ≤ x ∧ x ≤ B + 532) → G2 x = G x) ∧ G2 (B + 526) 0 = n ∧ (∀ p, 0 ≤ p → p < n → G2 (B + 527) p = G (B + 2) (16 * u + p)) ∧ CDn Q (ftX (fun p => G (B + 2) (16 * u + p))) n (G (B + 370 + 14 * v.toNat) 1) (G (B + 370 + 14 * v.toNat + 4)) (G (B + 370 + 14 * v.toNat + 3)) (G2 (B + 526 + 4)) (G2 (B + 526 + 5)) (fun _ _ => True) ∧ NFt G2 (B + 526) (ftX (fun p => G (B + 2) (16 * u + p))) n (fun _ => True) ∧ (∀ K : Option Value → q_M → Prop, fX3_open [.ref (B + 526), .ref (B + 370 + 14 * v.toNat), .ref (B + 2), .int (zI (u * 16)), .int (zI n)] (st T nx 0 0 R G) K = K none (st T nx 0 0 (rS R (B + 526) 1 (.ref (B + 370 + 14 * v.toNat))) G1)) ∧ ∀ K : Option Value → q_M → Prop, fX3_leastPrice [.ref (B + 526)] (st T nx 0 0 (rS R (B + 526) 1 (.ref (B + 370 + 14 * v.toNat))) G1) K = K (some (.int (zI (cl (Q 0 0 n))))) (st T nx 0 0 (rS R (B + 526) 1 (.ref (B + 370 + 14 * v.toNat))) G2) := by
  obtain ⟨y1, y2, y3, y4⟩ := iTx u u0 u1
  rw [← hn] at y1 y2 y3 y4
  obtain ⟨_, Gq, _, _, _, _, _, hQ, _⟩ := pr_ref (T := T) (nx := nx) (R := R) (G := G) (Gc := G) hM iFm iTx v0 v1 u0 u1 hn (fun _ _ => rfl)
  have hL2 := Ly_told (r := (B + 370 + 14 * v.toNat)) hL
  have o2 := o11_10 hL2
  have o8 := o11_0 hL2 (i := v.toNat) (by omega)
  obtain ⟨G1, e1⟩ : ∃ M, M = cpG (gs G (B + 526) 0 n) (B + 2) (u * 16) (B + 527) 0 n := ⟨_, rfl⟩
  have n1 : ∀ x, ¬ x = B + 526 → ¬ x = B + 527 → G1 x = G x := fun x q1 q2 => by rw [e1, cpG_ne q2, gs_ne q1]
  have s1 : G1 (B + 526) 0 = n := by rw [e1, cpG_ne (by omega)]; exact gs_same _ _ _ _
  have t1 : ∀ p, 0 ≤ p → p < n → G1 (B + 527) p = G (B + 2) (16 * u + p) := fun p q1 q2 => by
    rw [e1, cp_in q1 (by omega), gs_ne (by omega)]
    congr 1
    omega
  have cO : ∀ K : Option Value → q_M → Prop, fX3_open [.ref (B + 526), .ref (B + 370 + 14 * v.toNat), .ref (B + 2), .int (zI (u * 16)), .int (zI n)] (st T nx 0 0 R G) K = K none (st T nx 0 0 (rS R (B + 526) 1 (.ref (B + 370 + 14 * v.toNat))) G1) := fun K => by
    rw [e1]
    exact c3_open hL y2 y3 (by omega) (by omega)
  have tc1 : TC G1 (B + 370 + 14 * v.toNat) (G (B + 370 + 14 * v.toNat) 1) (G (B + 370 + 14 * v.toNat + 2)) (G (B + 370 + 14 * v.toNat + 4)) (G (B + 370 + 14 * v.toNat + 3)) := by
    have := TC_of iFm v0 v1
    unfold TC at this ⊢
    rw [n1 (B + 370 + 14 * v.toNat) (by omega) (by omega), n1 ((B + 370 + 14 * v.toNat) + 2) (by omega) (by omega), n1 ((B + 370 + 14 * v.toNat) + 3) (by omega) (by omega), n1 ((B + 370 + 14 * v.toNat) + 4) (by omega) (by omega)]
    exact this
  have cd : ∀ p, 0 ≤ p → p < n → -2147483648 ≤ G (B + 2) (16 * u + p) ∧ G (B + 2) (16 * u + p) < 2147483648 := fun p q1 q2 => by
    have := (y4 p q1 q2).2
    unfold isCd at this
    omega
  obtain ⟨G2, a1, a2, a3, a4⟩ := c3_leastPrice (T := T) (nx := nx) (rc := 0) (rs := 0) (G := G1) (a := B + 526) (t := (B + 370 + 14 * v.toNat)) (N := n) (ft := (ftX (fun p => G (B + 2) (16 * u + p)))) (Q := pq 1000000 (Gq (B + 544 + 50))) o2 o8 (by omega) (FO5_of iFm v0 v1) hQ y3 y2 s1 tc1 (fun it p q1 q2 => by
    rw [t1 p q1 q2]
    rfl) (fun p q1 q2 => by rw [t1 p q1 q2]; exact cd p q1 q2)
  exact ⟨G1, G2, _, ⟨y2, y3⟩, hQ, fun x q => by rw [a1 x (by omega), n1 x (by omega) (by omega)], by rw [a1 _ (by omega)]; exact s1, fun p q1 q2 => by rw [a1 _ (by omega)]; exact t1 p q1 q2, a2, a3, cO, a4⟩
theorem op_20 (x1 : Int32) (x2 : Int32) : OpOK fX11_price fX12_price [.int x1, .int x2] := by
  obtain ⟨v1, rfl, a1, b1⟩ := zI_ex x1
  obtain ⟨v2, rfl, a2, b2⟩ := zI_ex x2
  intro T nx B R G hI
  have hI0 := hI
  obtain ⟨⟨j1, j2, j3, j4, hL, hM⟩, iLn, iFm, iTx, iWo, iLa, iSh, iMp, iRe⟩ := hI0
  by_cases hv : 0 ≤ v1 ∧ v1 ≤ 1
  · by_cases ht : 0 ≤ v2 ∧ v2 ≤ 7
    · obtain ⟨n, hn⟩ : ∃ n, n = G (B + 3) v2 := ⟨_, rfl⟩
      have hn' : G (B + 3) v2 = n := hn.symm
      obtain ⟨G1, G2, Qt, nb, hQ, off, s0, tx, cd, nt, cO, cP⟩ := pr_cls (T := T) (nx := nx) (R := R) hL hM iFm iTx hv.1 hv.2 ht.1 ht.2 hn
      have hL2 := Ly_told (r := B + 370 + 14 * v1.toNat) hL
      have hM2 := M_rS (f := 1) (v := .ref (B + 370 + 14 * v1.toNat)) hM
      have o := o11_10 hL
      have o2 := o11_10 hL2
      obtain ⟨G3, G4, p1, p2, p3, p4, p5, hQ2, cT, cF⟩ := pr_ref (T := T) (nx := nx) (R := rS R (B + 526) 1 (.ref (B + 370 + 14 * v1.toNat))) (G := G) (Gc := G2) hM2 iFm iTx hv.1 hv.2 ht.1 ht.2 hn (fun x q => off x (by omega))
      have cO' : ∀ K : Option Value → q_M → Prop, fX3_open [.ref (B + 526), .ref (B + 370 + 14 * v1.toNat), .ref (B + 2), .int (zI (v2 * 16)), .int (zI (G (B + 3) v2))] (st T nx 0 0 R G) K = K none (st T nx 0 0 (rS R (B + 526) 1 (.ref (B + 370 + 14 * v1.toNat))) G1) := fun K => by
        rw [hn']
        exact cO K
      have hF := FO5_of iFm hv.1 hv.2
      have uq := Q_uniq hF hQ2 hQ n.toNat 0 n (Int.le_refl _) nb.1 (Int.le_refl _) (by omega) 0
      have hFI := FI_of iFm hv.1 hv.2
      have mi := made_iff hF hQ2 hFI (fun f k _ _ _ _ => rfl) nb.1 nb.2 (s := 0) (Int.le_refl _) (by omega)
      have ab := ables_b (n := nNf (G (B + 370 + 14 * v1.toNat + 3)) (fun f k => G (B + 370 + 14 * v1.toNat + 4) (5 * f + k))) (FI_s hFI) 6
      have cM := fun K : Option Value → q_M → Prop => c12_madeSorts (T := T) (nx := nx) (rc := 0) (rs := 0) (R := rS R (B + 526) 1 (.ref (B + 370 + 14 * v1.toNat))) (G := G2) (K := K) hM2 hv.1 hv.2 hFI (by
        have := FIr_of iFm hv.1 hv.2
        unfold FIr at this ⊢
        rw [off (B + 544 + 2) (by omega), off (B + 544 + 3) (by omega), off (B + 544 + 4) (by omega), off (B + 544 + 5) (by omega)]
        exact this)
      obtain ⟨A, hA⟩ : ∃ A, A = ables (sNf (G (B + 370 + 14 * v1.toNat + 2))) (nNf (G (B + 370 + 14 * v1.toNat + 3)) (fun f k => G (B + 370 + 14 * v1.toNat + 4) (5 * f + k))) (G (B + 370 + 14 * v1.toNat) 1).toNat := ⟨_, rfl⟩
      rw [← hA] at mi cM
      have ab : A < 64 := by rw [hA]; exact ab
      have tb := tb0 ⟨A, ab⟩
      have tb : q_giand (zI (A : Int)) (zI 1) = zI (if A.testBit 0 then 1 else 0) := tb
      obtain ⟨q, hq⟩ : ∃ q, q = pq 1000000 (G4 (B + 544 + 50)) 0 0 n := ⟨_, rfl⟩
      rw [uq, ← hq] at cP
      rw [← hq] at mi
      have qb := (hQ2.2 0 0 n (Int.le_refl _) (by omega) (Int.le_refl _) nb.1 (Int.le_refl _)).1
      rw [← hq] at qb
      have hq4 : G4 (B + 544 + 50) n = q := by
        rw [hq, pq_in (by omega)]
        congr 1
        omega
      obtain ⟨w, hw⟩ : ∃ w, w = if q < 1000000 then q else -100003 := ⟨_, rfl⟩
      have W1 : ∀ K : Option Value → q_M → Prop, fX11_price [.ref B, .int (zI v1), .int (zI v2)] (st T nx 0 0 R G) K = K (some (.int (zI w))) (st T nx 0 0 (rS R (B + 526) 1 (.ref (B + 370 + 14 * v1.toNat))) G2) := by
        intro K
        by_cases c : q < 1000000
        · have ec : cl q = q := if_pos c
          have c2 : q < 16777216 := by omega
          rw [if_pos c] at hw
          rw [hw]
          rw [ec] at cP
          clear hQ hQ2 cd nt off p1 mi hF
          simp (disch := omega) only [↓fX11_price.eq_1, ↓sX11_price_.eq_1, ↓(k_cs1 dX11_isTelling), ↓(k_cs1 dX11_isText), ↓(k_cv0 dX3_leastPrice (t3 o)), ↓(k_cv0 dX3_leastPrice (t3 o2)), ↓(k_cv4 dX3_open (t3 o)), ↓(k_cv4 dX3_open (t3 o2)), ↓k_mk, ↓k_sq, ↓k_sk, ↓k_bk, ↓k_if, ↓k_te, ↓k_cm, ↓k_cz, ↓k_an2, ↓k_or2, ↓k_no, ↓k_ci, ↓k_l0, ↓k_r0, ↓k_se0, ↓k_ic0, ↓k_l1, ↓k_r1, ↓k_se1, ↓k_ic1, ↓k_de1, ↓k_tk1, ↓k_l2, ↓k_r2, ↓k_se2, ↓k_ic2, ↓k_de2, ↓k_tk2, ↓k_l3, ↓k_r3, ↓k_se3, ↓k_ic3, ↓k_de3, ↓k_tk3, ↓k_l4, ↓k_r4, ↓k_se4, ↓k_ic4, ↓k_de4, ↓k_tk4, ↓k_l5, ↓k_r5, ↓k_se5, ↓k_ic5, ↓k_de5, ↓k_tk5, ↓k_l6, ↓k_r6, ↓k_se6, ↓k_ic6, ↓k_de6, ↓k_tk6, ↓k_l7, ↓k_r7, ↓k_se7, ↓k_ic7, ↓k_de7, ↓k_tk7, ↓k_l8, ↓k_r8, ↓k_se8, ↓k_ic8, ↓k_de8, ↓k_tk8, ↓k_l9, ↓k_r9, ↓k_se9, ↓k_ic9, ↓k_de9, ↓k_tk9, ↓k_l10, ↓k_r10, ↓k_se10, ↓k_ic10, ↓k_de10, ↓k_tk10, ↓k_l11, ↓k_r11, ↓k_se11, ↓k_ic11, ↓k_de11, ↓k_tk11, ↓k_l12, ↓k_r12, ↓k_se12, ↓k_ic12, ↓k_de12, ↓k_tk12, ↓k_l13, ↓k_r13, ↓k_se13, ↓k_ic13, ↓k_de13, ↓k_tk13, ↓k_l14, ↓k_r14, ↓k_se14, ↓k_ic14, ↓k_de14, ↓k_tk14, ↓k_l15, ↓k_r15, ↓k_se15, ↓k_ic15, ↓k_de15, ↓k_tk15, ↓k_l16, ↓k_r16, ↓k_se16, ↓k_ic16, ↓k_de16, ↓k_tk16, ↓k_l17, ↓k_r17, ↓k_se17, ↓k_ic17, ↓k_de17, ↓k_tk17, ↓k_l18, ↓k_r18, ↓k_se18, ↓k_ic18, ↓k_de18, ↓k_tk18, ↓k_l19, ↓k_r19, ↓k_se19, ↓k_ic19, ↓k_de19, ↓k_tk19, ↓k_l20, ↓k_r20, ↓k_se20, ↓k_ic20, ↓k_de20, ↓k_tk20, ↓k_l21, ↓k_r21, ↓k_se21, ↓k_ic21, ↓k_de21, ↓k_tk21, ↓k_l22, ↓k_r22, ↓k_se22, ↓k_ic22, ↓k_de22, ↓k_tk22, ↓k_l23, ↓k_r23, ↓k_se23, ↓k_ic23, ↓k_de23, ↓k_tk23, ↓k_l24, ↓k_r24, ↓k_se24, ↓k_ic24, ↓k_de24, ↓k_tk24, ↓k_l25, ↓k_r25, ↓k_se25, ↓k_ic25, ↓k_de25, ↓k_tk25, ↓k_k, ↓k_kn, ↓k_kl, ↓k_kln, ↓k_il, ↓k_2, ↓k_1, ↓k_2c, ↓k_2l, ↓k_ac, ↓k_an, ↓k_cs, ↓k_cv, ↓k_fi, ↓k_fr, ↓k_ai, ↓k_az, ↓k_ar, ↓k_sai, ↓k_saz, ↓k_soa, ↓k_sof, ↓k_spf, ↓k_sx, ↓k_blk, ↓k_sset, ↓k_sdec, ↓k_sri, ↓k_srv, ↓k_srr, ↓k_nop, ↓k_add, ↓k_sub, ↓k_mul, ↓k_min, ↓k_max, ↓k_shr, ↓k_shl, ↓k_or, ↓k_ilz, ↓k_addl, ↓k_rt, ↓k_rb, ↓k_rbz, ↓k_rsi, ↓k_rsr, ↓k_rsv, ↓reduceIte, ↓c11_isTelling, ↓c11_isText, hv, ht, hn', ↓cO', ↓cP, c2, t11 hL, t11 hL2, ↓xr11_0 hL, ↓xu11_0 hL, ↓xr11_1 hL, ↓xa11_1 hL, ↓xs11_1 hL, ↓xo11_1 hL, ↓xc11_1 hL, ↓xd11_1 hL, ↓xr11_2 hL, ↓xa11_2 hL, ↓xs11_2 hL, ↓xo11_2 hL, ↓xc11_2 hL, ↓xd11_2 hL, ↓xr11_10 hL, ↓xr11_10 hL2, ↓xi3_0 o, ↓xp3_0 o, ↓xb3_0 o, ↓xf3_0 o, ↓xg3_0 o, ↓xh3_0 o, ↓xi3_0 o2, ↓xp3_0 o2, ↓xb3_0 o2, ↓xf3_0 o2, ↓xg3_0 o2, ↓xh3_0 o2, List.length_cons, List.length_nil, List.forall_mem_cons, List.not_mem_nil, Value.category, true_and, and_true, false_and, and_false, or_true, true_or, or_false, false_or, Nat.zero_le, forall_const, implies_true, false_implies, Nat.zero_add, Nat.reduceAdd, Nat.reduceLT, Nat.reduceLeDiff, Nat.le_refl, not_true_eq_false, not_false_eq_true, r_eq, r_ne, r_lt, r_ge, r_gt, r_le, bz_ne, nn_toNat, cn_of, cn_0, cn_1, i10, Int.reduceLE, Int.reduceLT, Int.reduceEq, bz_T, bz_F, ite_self, mulc, st_bud]
        · have ec : cl q = 16777216 := if_neg c
          rw [if_neg c] at hw
          rw [hw]
          rw [ec] at cP
          clear hQ hQ2 cd nt off p1 mi hF
          simp (disch := omega) only [↓fX11_price.eq_1, ↓sX11_price_.eq_1, ↓(k_cs1 dX11_isTelling), ↓(k_cs1 dX11_isText), ↓(k_cv0 dX3_leastPrice (t3 o)), ↓(k_cv0 dX3_leastPrice (t3 o2)), ↓(k_cv4 dX3_open (t3 o)), ↓(k_cv4 dX3_open (t3 o2)), ↓k_mk, ↓k_sq, ↓k_sk, ↓k_bk, ↓k_if, ↓k_te, ↓k_cm, ↓k_cz, ↓k_an2, ↓k_or2, ↓k_no, ↓k_ci, ↓k_l0, ↓k_r0, ↓k_se0, ↓k_ic0, ↓k_l1, ↓k_r1, ↓k_se1, ↓k_ic1, ↓k_de1, ↓k_tk1, ↓k_l2, ↓k_r2, ↓k_se2, ↓k_ic2, ↓k_de2, ↓k_tk2, ↓k_l3, ↓k_r3, ↓k_se3, ↓k_ic3, ↓k_de3, ↓k_tk3, ↓k_l4, ↓k_r4, ↓k_se4, ↓k_ic4, ↓k_de4, ↓k_tk4, ↓k_l5, ↓k_r5, ↓k_se5, ↓k_ic5, ↓k_de5, ↓k_tk5, ↓k_l6, ↓k_r6, ↓k_se6, ↓k_ic6, ↓k_de6, ↓k_tk6, ↓k_l7, ↓k_r7, ↓k_se7, ↓k_ic7, ↓k_de7, ↓k_tk7, ↓k_l8, ↓k_r8, ↓k_se8, ↓k_ic8, ↓k_de8, ↓k_tk8, ↓k_l9, ↓k_r9, ↓k_se9, ↓k_ic9, ↓k_de9, ↓k_tk9, ↓k_l10, ↓k_r10, ↓k_se10, ↓k_ic10, ↓k_de10, ↓k_tk10, ↓k_l11, ↓k_r11, ↓k_se11, ↓k_ic11, ↓k_de11, ↓k_tk11, ↓k_l12, ↓k_r12, ↓k_se12, ↓k_ic12, ↓k_de12, ↓k_tk12, ↓k_l13, ↓k_r13, ↓k_se13, ↓k_ic13, ↓k_de13, ↓k_tk13, ↓k_l14, ↓k_r14, ↓k_se14, ↓k_ic14, ↓k_de14, ↓k_tk14, ↓k_l15, ↓k_r15, ↓k_se15, ↓k_ic15, ↓k_de15, ↓k_tk15, ↓k_l16, ↓k_r16, ↓k_se16, ↓k_ic16, ↓k_de16, ↓k_tk16, ↓k_l17, ↓k_r17, ↓k_se17, ↓k_ic17, ↓k_de17, ↓k_tk17, ↓k_l18, ↓k_r18, ↓k_se18, ↓k_ic18, ↓k_de18, ↓k_tk18, ↓k_l19, ↓k_r19, ↓k_se19, ↓k_ic19, ↓k_de19, ↓k_tk19, ↓k_l20, ↓k_r20, ↓k_se20, ↓k_ic20, ↓k_de20, ↓k_tk20, ↓k_l21, ↓k_r21, ↓k_se21, ↓k_ic21, ↓k_de21, ↓k_tk21, ↓k_l22, ↓k_r22, ↓k_se22, ↓k_ic22, ↓k_de22, ↓k_tk22, ↓k_l23, ↓k_r23, ↓k_se23, ↓k_ic23, ↓k_de23, ↓k_tk23, ↓k_l24, ↓k_r24, ↓k_se24, ↓k_ic24, ↓k_de24, ↓k_tk24, ↓k_l25, ↓k_r25, ↓k_se25, ↓k_ic25, ↓k_de25, ↓k_tk25, ↓k_k, ↓k_kn, ↓k_kl, ↓k_kln, ↓k_il, ↓k_2, ↓k_1, ↓k_2c, ↓k_2l, ↓k_ac, ↓k_an, ↓k_cs, ↓k_cv, ↓k_fi, ↓k_fr, ↓k_ai, ↓k_az, ↓k_ar, ↓k_sai, ↓k_saz, ↓k_soa, ↓k_sof, ↓k_spf, ↓k_sx, ↓k_blk, ↓k_sset, ↓k_sdec, ↓k_sri, ↓k_srv, ↓k_srr, ↓k_nop, ↓k_add, ↓k_sub, ↓k_mul, ↓k_min, ↓k_max, ↓k_shr, ↓k_shl, ↓k_or, ↓k_ilz, ↓k_addl, ↓k_rt, ↓k_rb, ↓k_rbz, ↓k_rsi, ↓k_rsr, ↓k_rsv, ↓reduceIte, ↓c11_isTelling, ↓c11_isText, hv, ht, hn', ↓cO', ↓cP, t11 hL, t11 hL2, ↓xr11_0 hL, ↓xu11_0 hL, ↓xr11_1 hL, ↓xa11_1 hL, ↓xs11_1 hL, ↓xo11_1 hL, ↓xc11_1 hL, ↓xd11_1 hL, ↓xr11_2 hL, ↓xa11_2 hL, ↓xs11_2 hL, ↓xo11_2 hL, ↓xc11_2 hL, ↓xd11_2 hL, ↓xr11_10 hL, ↓xr11_10 hL2, ↓xi3_0 o, ↓xp3_0 o, ↓xb3_0 o, ↓xf3_0 o, ↓xg3_0 o, ↓xh3_0 o, ↓xi3_0 o2, ↓xp3_0 o2, ↓xb3_0 o2, ↓xf3_0 o2, ↓xg3_0 o2, ↓xh3_0 o2, List.length_cons, List.length_nil, List.forall_mem_cons, List.not_mem_nil, Value.category, true_and, and_true, false_and, and_false, or_true, true_or, or_false, false_or, Nat.zero_le, forall_const, implies_true, false_implies, Nat.zero_add, Nat.reduceAdd, Nat.reduceLT, Nat.reduceLeDiff, Nat.le_refl, not_true_eq_false, not_false_eq_true, r_eq, r_ne, r_lt, r_ge, r_gt, r_le, bz_ne, nn_toNat, cn_of, cn_0, cn_1, i10, Int.reduceLE, Int.reduceLT, Int.reduceEq, bz_T, bz_F, ite_self, mulc, st_bud]
      have off4 : ∀ x, ¬ (B + 526 ≤ x ∧ x ≤ B + 532) → ¬ x = B + 544 → ¬ x = (B + 544 + 39) → ¬ x = (B + 544 + 50) → ¬ x = (B + 544 + 51) → G4 x = G x := fun x q1 q2 q3 q4 q5 => by rw [p1 x q2 q3 q4 q5, off x q1]
      have inv : ∀ Gz : Nat → Int → Int, (∀ x, ¬ (B + 526 ≤ x ∧ x ≤ B + 532) → ¬ x = B + 544 → ¬ x = (B + 544 + 39) → ¬ x = (B + 544 + 50) → ¬ x = (B + 544 + 51) → Gz x = G x) → (∀ j, ¬ j = 47 → Gz (B + 544) j = G (B + 544) j) → Inv T R Gz B := fun Gz oz jz => Inv_off hI (Or.inl fun x q => oz x (by omega) (by omega) (by omega) (by omega) (by omega)) (Or.inl fun x q => oz x (by omega) (by omega) (by omega) (by omega) (by omega)) (Or.inl fun x q => oz x (by omega) (by omega) (by omega) (by omega) (by omega)) (Or.inl fun x q => oz x (by omega) (by omega) (by omega) (by omega) (by omega)) (Or.inl ⟨by rw [oz B (by omega) (by omega) (by omega) (by omega) (by omega)], jz 93 (by omega)⟩) (Or.inl fun x q => oz x (by omega) (by omega) (by omega) (by omega) (by omega)) (Or.inl fun x q => oz x (by omega) (by omega) (by omega) (by omega) (by omega)) (Or.inl ⟨fun x q => oz x (by unfold FRe at q; omega) (by unfold FRe at q; omega) (by unfold FRe at q; omega) (by unfold FRe at q; omega) (by unfold FRe at q; omega), jz 103 (by omega)⟩)
      refine op_gen fun K hK => ?_
      rw [W1]
      refine hK _ _ ⟨mid_mk (lo_told fun x hx => off x (by omega)), op_gen fun K hK => ?_⟩
      rw [st_bud]
      by_cases c : q < 1000000
      · have tbt : A.testBit 0 = true := mi.mpr c
        rw [if_pos tbt] at tb
        rw [if_pos c] at hw
        have one : ¬ (1 : Int) = 0 := by omega
        have W2 : ∀ K : Option Value → q_M → Prop, fX12_price [.ref (B + 544), .int (zI v1), .int (zI v2)] (st T nx 0 0 (rS R (B + 526) 1 (.ref (B + 370 + 14 * v1.toNat))) G2) K = K (some (.int (zI w))) (st T nx 0 0 (rS R (B + 526) 1 (.ref (B + 370 + 14 * v1.toNat))) G4) := by
          intro K
          rw [hw]
          have ka : ∀ (μ : q_M) (K : Int32 → q_M → Prop), opK (q_giand (zI (A : Int)) (zI 1)) μ K = K (zI 1) μ := fun μ K => by
            rw [tb]
            rfl
          clear hQ hQ2 cd nt off p1 mi hF inv off4 p2 p4 p5 hK cP W1 hA
          simp (disch := omega) only [↓fX12_price.eq_1, ↓sX12_price_.eq_1, ↓(k_cs1 dX12_isTelling), ↓(k_cs1 dX12_isText), ↓(k_cv1 dX12_findPrices (t12 hM2)), ↓(k_cv1 dX12_madeSorts (t12 hM2)), ↓(k_cv1 dX12_takeText (t12 hM2)), ↓k_mk, ↓k_sq, ↓k_sk, ↓k_bk, ↓k_if, ↓k_te, ↓k_cm, ↓k_cz, ↓k_an2, ↓k_or2, ↓k_no, ↓k_ci, ↓k_l0, ↓k_r0, ↓k_se0, ↓k_ic0, ↓k_l1, ↓k_r1, ↓k_se1, ↓k_ic1, ↓k_de1, ↓k_tk1, ↓k_l2, ↓k_r2, ↓k_se2, ↓k_ic2, ↓k_de2, ↓k_tk2, ↓k_l3, ↓k_r3, ↓k_se3, ↓k_ic3, ↓k_de3, ↓k_tk3, ↓k_l4, ↓k_r4, ↓k_se4, ↓k_ic4, ↓k_de4, ↓k_tk4, ↓k_l5, ↓k_r5, ↓k_se5, ↓k_ic5, ↓k_de5, ↓k_tk5, ↓k_l6, ↓k_r6, ↓k_se6, ↓k_ic6, ↓k_de6, ↓k_tk6, ↓k_l7, ↓k_r7, ↓k_se7, ↓k_ic7, ↓k_de7, ↓k_tk7, ↓k_l8, ↓k_r8, ↓k_se8, ↓k_ic8, ↓k_de8, ↓k_tk8, ↓k_l9, ↓k_r9, ↓k_se9, ↓k_ic9, ↓k_de9, ↓k_tk9, ↓k_l10, ↓k_r10, ↓k_se10, ↓k_ic10, ↓k_de10, ↓k_tk10, ↓k_l11, ↓k_r11, ↓k_se11, ↓k_ic11, ↓k_de11, ↓k_tk11, ↓k_l12, ↓k_r12, ↓k_se12, ↓k_ic12, ↓k_de12, ↓k_tk12, ↓k_l13, ↓k_r13, ↓k_se13, ↓k_ic13, ↓k_de13, ↓k_tk13, ↓k_l14, ↓k_r14, ↓k_se14, ↓k_ic14, ↓k_de14, ↓k_tk14, ↓k_l15, ↓k_r15, ↓k_se15, ↓k_ic15, ↓k_de15, ↓k_tk15, ↓k_l16, ↓k_r16, ↓k_se16, ↓k_ic16, ↓k_de16, ↓k_tk16, ↓k_l17, ↓k_r17, ↓k_se17, ↓k_ic17, ↓k_de17, ↓k_tk17, ↓k_l18, ↓k_r18, ↓k_se18, ↓k_ic18, ↓k_de18, ↓k_tk18, ↓k_l19, ↓k_r19, ↓k_se19, ↓k_ic19, ↓k_de19, ↓k_tk19, ↓k_l20, ↓k_r20, ↓k_se20, ↓k_ic20, ↓k_de20, ↓k_tk20, ↓k_l21, ↓k_r21, ↓k_se21, ↓k_ic21, ↓k_de21, ↓k_tk21, ↓k_l22, ↓k_r22, ↓k_se22, ↓k_ic22, ↓k_de22, ↓k_tk22, ↓k_l23, ↓k_r23, ↓k_se23, ↓k_ic23, ↓k_de23, ↓k_tk23, ↓k_l24, ↓k_r24, ↓k_se24, ↓k_ic24, ↓k_de24, ↓k_tk24, ↓k_l25, ↓k_r25, ↓k_se25, ↓k_ic25, ↓k_de25, ↓k_tk25, ↓k_k, ↓k_kn, ↓k_kl, ↓k_kln, ↓k_il, ↓k_2, ↓k_1, ↓k_2c, ↓k_2l, ↓k_ac, ↓k_an, ↓k_cs, ↓k_cv, ↓k_fi, ↓k_fr, ↓k_ai, ↓k_az, ↓k_ar, ↓k_sai, ↓k_saz, ↓k_soa, ↓k_sof, ↓k_spf, ↓k_sx, ↓k_blk, ↓k_sset, ↓k_sdec, ↓k_sri, ↓k_srv, ↓k_srr, ↓k_nop, ↓k_add, ↓k_sub, ↓k_mul, ↓k_min, ↓k_max, ↓k_shr, ↓k_shl, ↓k_or, ↓k_ilz, ↓k_addl, ↓k_rt, ↓k_rb, ↓k_rbz, ↓k_rsi, ↓k_rsr, ↓k_rsv, ↓reduceIte, ↓c12_isTelling, ↓c12_isText, hv, ht, ↓(k_cv1 dX12_madeSorts (t12 hM2)), ↓cM, ↓ka, one, ↓(k_cv1 dX12_takeText (t12 hM2)), ↓cT, ↓(k_cv1 dX12_findPrices (t12 hM2)), ↓cF, p3, hq4, t12 hM2, ↓xi12_47 hM2, ↓xp12_47 hM2, ↓xb12_47 hM2, ↓xf12_47 hM2, ↓xg12_47 hM2, ↓xh12_47 hM2, ↓xr12_60 hM2, ↓xa12_60 hM2, ↓xs12_60 hM2, ↓xo12_60 hM2, ↓xc12_60 hM2, ↓xd12_60 hM2, List.length_cons, List.length_nil, List.forall_mem_cons, List.not_mem_nil, Value.category, true_and, and_true, false_and, and_false, or_true, true_or, or_false, false_or, Nat.zero_le, forall_const, implies_true, false_implies, Nat.zero_add, Nat.reduceAdd, Nat.reduceLT, Nat.reduceLeDiff, Nat.le_refl, not_true_eq_false, not_false_eq_true, r_eq, r_ne, r_lt, r_ge, r_gt, r_le, bz_ne, nn_toNat, cn_of, cn_0, cn_1, i10, Int.reduceLE, Int.reduceLT, Int.reduceEq, bz_T, bz_F, ite_self, mulc, st_bud]
        rw [W2]
        exact hK _ _ (fin_mk rfl (lo_told fun x hx => off4 x (by omega) (by omega) (by omega) (by omega) (by omega)) ⟨⟨_, _, _, _, hL2, hM2⟩, (inv G4 off4 p2).2⟩)
      · have tbt : ¬ A.testBit 0 = true := fun z => c (mi.mp z)
        rw [if_neg tbt] at tb
        rw [if_neg c] at hw
        have W2 : ∀ K : Option Value → q_M → Prop, fX12_price [.ref (B + 544), .int (zI v1), .int (zI v2)] (st T nx 0 0 (rS R (B + 526) 1 (.ref (B + 370 + 14 * v1.toNat))) G2) K = K (some (.int (zI w))) (st T nx 0 0 (rS R (B + 526) 1 (.ref (B + 370 + 14 * v1.toNat))) G2) := by
          intro K
          rw [hw]
          have ka : ∀ (μ : q_M) (K : Int32 → q_M → Prop), opK (q_giand (zI (A : Int)) (zI 1)) μ K = K (zI 0) μ := fun μ K => by
            rw [tb]
            rfl
          clear hQ hQ2 cd nt off p1 mi hF inv off4 p2 p4 p5 hK cP W1 hA
          simp (disch := omega) only [↓fX12_price.eq_1, ↓sX12_price_.eq_1, ↓(k_cs1 dX12_isTelling), ↓(k_cs1 dX12_isText), ↓(k_cv1 dX12_findPrices (t12 hM2)), ↓(k_cv1 dX12_madeSorts (t12 hM2)), ↓(k_cv1 dX12_takeText (t12 hM2)), ↓k_mk, ↓k_sq, ↓k_sk, ↓k_bk, ↓k_if, ↓k_te, ↓k_cm, ↓k_cz, ↓k_an2, ↓k_or2, ↓k_no, ↓k_ci, ↓k_l0, ↓k_r0, ↓k_se0, ↓k_ic0, ↓k_l1, ↓k_r1, ↓k_se1, ↓k_ic1, ↓k_de1, ↓k_tk1, ↓k_l2, ↓k_r2, ↓k_se2, ↓k_ic2, ↓k_de2, ↓k_tk2, ↓k_l3, ↓k_r3, ↓k_se3, ↓k_ic3, ↓k_de3, ↓k_tk3, ↓k_l4, ↓k_r4, ↓k_se4, ↓k_ic4, ↓k_de4, ↓k_tk4, ↓k_l5, ↓k_r5, ↓k_se5, ↓k_ic5, ↓k_de5, ↓k_tk5, ↓k_l6, ↓k_r6, ↓k_se6, ↓k_ic6, ↓k_de6, ↓k_tk6, ↓k_l7, ↓k_r7, ↓k_se7, ↓k_ic7, ↓k_de7, ↓k_tk7, ↓k_l8, ↓k_r8, ↓k_se8, ↓k_ic8, ↓k_de8, ↓k_tk8, ↓k_l9, ↓k_r9, ↓k_se9, ↓k_ic9, ↓k_de9, ↓k_tk9, ↓k_l10, ↓k_r10, ↓k_se10, ↓k_ic10, ↓k_de10, ↓k_tk10, ↓k_l11, ↓k_r11, ↓k_se11, ↓k_ic11, ↓k_de11, ↓k_tk11, ↓k_l12, ↓k_r12, ↓k_se12, ↓k_ic12, ↓k_de12, ↓k_tk12, ↓k_l13, ↓k_r13, ↓k_se13, ↓k_ic13, ↓k_de13, ↓k_tk13, ↓k_l14, ↓k_r14, ↓k_se14, ↓k_ic14, ↓k_de14, ↓k_tk14, ↓k_l15, ↓k_r15, ↓k_se15, ↓k_ic15, ↓k_de15, ↓k_tk15, ↓k_l16, ↓k_r16, ↓k_se16, ↓k_ic16, ↓k_de16, ↓k_tk16, ↓k_l17, ↓k_r17, ↓k_se17, ↓k_ic17, ↓k_de17, ↓k_tk17, ↓k_l18, ↓k_r18, ↓k_se18, ↓k_ic18, ↓k_de18, ↓k_tk18, ↓k_l19, ↓k_r19, ↓k_se19, ↓k_ic19, ↓k_de19, ↓k_tk19, ↓k_l20, ↓k_r20, ↓k_se20, ↓k_ic20, ↓k_de20, ↓k_tk20, ↓k_l21, ↓k_r21, ↓k_se21, ↓k_ic21, ↓k_de21, ↓k_tk21, ↓k_l22, ↓k_r22, ↓k_se22, ↓k_ic22, ↓k_de22, ↓k_tk22, ↓k_l23, ↓k_r23, ↓k_se23, ↓k_ic23, ↓k_de23, ↓k_tk23, ↓k_l24, ↓k_r24, ↓k_se24, ↓k_ic24, ↓k_de24, ↓k_tk24, ↓k_l25, ↓k_r25, ↓k_se25, ↓k_ic25, ↓k_de25, ↓k_tk25, ↓k_k, ↓k_kn, ↓k_kl, ↓k_kln, ↓k_il, ↓k_2, ↓k_1, ↓k_2c, ↓k_2l, ↓k_ac, ↓k_an, ↓k_cs, ↓k_cv, ↓k_fi, ↓k_fr, ↓k_ai, ↓k_az, ↓k_ar, ↓k_sai, ↓k_saz, ↓k_soa, ↓k_sof, ↓k_spf, ↓k_sx, ↓k_blk, ↓k_sset, ↓k_sdec, ↓k_sri, ↓k_srv, ↓k_srr, ↓k_nop, ↓k_add, ↓k_sub, ↓k_mul, ↓k_min, ↓k_max, ↓k_shr, ↓k_shl, ↓k_or, ↓k_ilz, ↓k_addl, ↓k_rt, ↓k_rb, ↓k_rbz, ↓k_rsi, ↓k_rsr, ↓k_rsv, ↓reduceIte, ↓c12_isTelling, ↓c12_isText, hv, ht, ↓(k_cv1 dX12_madeSorts (t12 hM2)), ↓cM, ↓ka, eq_self, t12 hM2, ↓xi12_47 hM2, ↓xp12_47 hM2, ↓xb12_47 hM2, ↓xf12_47 hM2, ↓xg12_47 hM2, ↓xh12_47 hM2, List.length_cons, List.length_nil, List.forall_mem_cons, List.not_mem_nil, Value.category, true_and, and_true, false_and, and_false, or_true, true_or, or_false, false_or, Nat.zero_le, forall_const, implies_true, false_implies, Nat.zero_add, Nat.reduceAdd, Nat.reduceLT, Nat.reduceLeDiff, Nat.le_refl, not_true_eq_false, not_false_eq_true, r_eq, r_ne, r_lt, r_ge, r_gt, r_le, bz_ne, nn_toNat, cn_of, cn_0, cn_1, i10, Int.reduceLE, Int.reduceLT, Int.reduceEq, bz_T, bz_F, ite_self, mulc, st_bud]
        rw [W2]
        exact hK _ _ (fin_mk rfl (lo_told fun x hx => off x (by omega)) ⟨⟨_, _, _, _, hL2, hM2⟩, (inv G2 (fun x q1 _ _ _ _ => off x q1) (fun j _ => by rw [off _ (by omega)])).2⟩)
    · refine op_gen fun K hK => ?_
      simp (disch := omega) only [↓fX11_price.eq_1, ↓sX11_price_.eq_1, ↓(k_cs1 dX11_isTelling), ↓(k_cs1 dX11_isText), ↓k_mk, ↓k_sq, ↓k_sk, ↓k_bk, ↓k_if, ↓k_te, ↓k_cm, ↓k_cz, ↓k_an2, ↓k_or2, ↓k_no, ↓k_ci, ↓k_l0, ↓k_r0, ↓k_se0, ↓k_ic0, ↓k_l1, ↓k_r1, ↓k_se1, ↓k_ic1, ↓k_de1, ↓k_tk1, ↓k_l2, ↓k_r2, ↓k_se2, ↓k_ic2, ↓k_de2, ↓k_tk2, ↓k_l3, ↓k_r3, ↓k_se3, ↓k_ic3, ↓k_de3, ↓k_tk3, ↓k_l4, ↓k_r4, ↓k_se4, ↓k_ic4, ↓k_de4, ↓k_tk4, ↓k_l5, ↓k_r5, ↓k_se5, ↓k_ic5, ↓k_de5, ↓k_tk5, ↓k_l6, ↓k_r6, ↓k_se6, ↓k_ic6, ↓k_de6, ↓k_tk6, ↓k_l7, ↓k_r7, ↓k_se7, ↓k_ic7, ↓k_de7, ↓k_tk7, ↓k_l8, ↓k_r8, ↓k_se8, ↓k_ic8, ↓k_de8, ↓k_tk8, ↓k_l9, ↓k_r9, ↓k_se9, ↓k_ic9, ↓k_de9, ↓k_tk9, ↓k_l10, ↓k_r10, ↓k_se10, ↓k_ic10, ↓k_de10, ↓k_tk10, ↓k_l11, ↓k_r11, ↓k_se11, ↓k_ic11, ↓k_de11, ↓k_tk11, ↓k_l12, ↓k_r12, ↓k_se12, ↓k_ic12, ↓k_de12, ↓k_tk12, ↓k_l13, ↓k_r13, ↓k_se13, ↓k_ic13, ↓k_de13, ↓k_tk13, ↓k_l14, ↓k_r14, ↓k_se14, ↓k_ic14, ↓k_de14, ↓k_tk14, ↓k_l15, ↓k_r15, ↓k_se15, ↓k_ic15, ↓k_de15, ↓k_tk15, ↓k_l16, ↓k_r16, ↓k_se16, ↓k_ic16, ↓k_de16, ↓k_tk16, ↓k_l17, ↓k_r17, ↓k_se17, ↓k_ic17, ↓k_de17, ↓k_tk17, ↓k_l18, ↓k_r18, ↓k_se18, ↓k_ic18, ↓k_de18, ↓k_tk18, ↓k_l19, ↓k_r19, ↓k_se19, ↓k_ic19, ↓k_de19, ↓k_tk19, ↓k_l20, ↓k_r20, ↓k_se20, ↓k_ic20, ↓k_de20, ↓k_tk20, ↓k_l21, ↓k_r21, ↓k_se21, ↓k_ic21, ↓k_de21, ↓k_tk21, ↓k_l22, ↓k_r22, ↓k_se22, ↓k_ic22, ↓k_de22, ↓k_tk22, ↓k_l23, ↓k_r23, ↓k_se23, ↓k_ic23, ↓k_de23, ↓k_tk23, ↓k_l24, ↓k_r24, ↓k_se24, ↓k_ic24, ↓k_de24, ↓k_tk24, ↓k_l25, ↓k_r25, ↓k_se25, ↓k_ic25, ↓k_de25, ↓k_tk25, ↓k_k, ↓k_kn, ↓k_kl, ↓k_kln, ↓k_il, ↓k_2, ↓k_1, ↓k_2c, ↓k_2l, ↓k_ac, ↓k_an, ↓k_cs, ↓k_cv, ↓k_fi, ↓k_fr, ↓k_ai, ↓k_az, ↓k_ar, ↓k_sai, ↓k_saz, ↓k_soa, ↓k_sof, ↓k_spf, ↓k_sx, ↓k_blk, ↓k_sset, ↓k_sdec, ↓k_sri, ↓k_srv, ↓k_srr, ↓k_nop, ↓k_add, ↓k_sub, ↓k_mul, ↓k_min, ↓k_max, ↓k_shr, ↓k_shl, ↓k_or, ↓k_ilz, ↓k_addl, ↓k_rt, ↓k_rb, ↓k_rbz, ↓k_rsi, ↓k_rsr, ↓k_rsv, ↓reduceIte, ↓c11_isTelling, ↓c12_isTelling, ↓c11_isText, ↓c12_isText, hv, ht, List.length_cons, List.length_nil, List.forall_mem_cons, List.not_mem_nil, Value.category, true_and, and_true, false_and, and_false, or_true, true_or, or_false, false_or, Nat.zero_le, forall_const, implies_true, false_implies, Nat.zero_add, Nat.reduceAdd, Nat.reduceLT, Nat.reduceLeDiff, Nat.le_refl, not_true_eq_false, not_false_eq_true, r_eq, r_ne, r_lt, r_ge, r_gt, r_le, bz_ne, nn_toNat, cn_of, cn_0, cn_1, i10, Int.reduceLE, Int.reduceLT, Int.reduceEq, bz_T, bz_F, ite_self, mulc, st_bud]
      refine hK _ _ ⟨mid_mk (lo_refl _ _ _), op_gen fun K hK => ?_⟩
      rw [st_bud]
      simp (disch := first | omega | (simp (disch := omega) only [gs_ne, flG_ne, wr_ne, cpG_ne])) only [↓fX12_price.eq_1, ↓sX12_price_.eq_1, ↓(k_cs1 dX12_isTelling), ↓(k_cs1 dX12_isText), ↓k_mk, ↓k_sq, ↓k_sk, ↓k_bk, ↓k_if, ↓k_te, ↓k_cm, ↓k_cz, ↓k_an2, ↓k_or2, ↓k_no, ↓k_ci, ↓k_l0, ↓k_r0, ↓k_se0, ↓k_ic0, ↓k_l1, ↓k_r1, ↓k_se1, ↓k_ic1, ↓k_de1, ↓k_tk1, ↓k_l2, ↓k_r2, ↓k_se2, ↓k_ic2, ↓k_de2, ↓k_tk2, ↓k_l3, ↓k_r3, ↓k_se3, ↓k_ic3, ↓k_de3, ↓k_tk3, ↓k_l4, ↓k_r4, ↓k_se4, ↓k_ic4, ↓k_de4, ↓k_tk4, ↓k_l5, ↓k_r5, ↓k_se5, ↓k_ic5, ↓k_de5, ↓k_tk5, ↓k_l6, ↓k_r6, ↓k_se6, ↓k_ic6, ↓k_de6, ↓k_tk6, ↓k_l7, ↓k_r7, ↓k_se7, ↓k_ic7, ↓k_de7, ↓k_tk7, ↓k_l8, ↓k_r8, ↓k_se8, ↓k_ic8, ↓k_de8, ↓k_tk8, ↓k_l9, ↓k_r9, ↓k_se9, ↓k_ic9, ↓k_de9, ↓k_tk9, ↓k_l10, ↓k_r10, ↓k_se10, ↓k_ic10, ↓k_de10, ↓k_tk10, ↓k_l11, ↓k_r11, ↓k_se11, ↓k_ic11, ↓k_de11, ↓k_tk11, ↓k_l12, ↓k_r12, ↓k_se12, ↓k_ic12, ↓k_de12, ↓k_tk12, ↓k_l13, ↓k_r13, ↓k_se13, ↓k_ic13, ↓k_de13, ↓k_tk13, ↓k_l14, ↓k_r14, ↓k_se14, ↓k_ic14, ↓k_de14, ↓k_tk14, ↓k_l15, ↓k_r15, ↓k_se15, ↓k_ic15, ↓k_de15, ↓k_tk15, ↓k_l16, ↓k_r16, ↓k_se16, ↓k_ic16, ↓k_de16, ↓k_tk16, ↓k_l17, ↓k_r17, ↓k_se17, ↓k_ic17, ↓k_de17, ↓k_tk17, ↓k_l18, ↓k_r18, ↓k_se18, ↓k_ic18, ↓k_de18, ↓k_tk18, ↓k_l19, ↓k_r19, ↓k_se19, ↓k_ic19, ↓k_de19, ↓k_tk19, ↓k_l20, ↓k_r20, ↓k_se20, ↓k_ic20, ↓k_de20, ↓k_tk20, ↓k_l21, ↓k_r21, ↓k_se21, ↓k_ic21, ↓k_de21, ↓k_tk21, ↓k_l22, ↓k_r22, ↓k_se22, ↓k_ic22, ↓k_de22, ↓k_tk22, ↓k_l23, ↓k_r23, ↓k_se23, ↓k_ic23, ↓k_de23, ↓k_tk23, ↓k_l24, ↓k_r24, ↓k_se24, ↓k_ic24, ↓k_de24, ↓k_tk24, ↓k_l25, ↓k_r25, ↓k_se25, ↓k_ic25, ↓k_de25, ↓k_tk25, ↓k_k, ↓k_kn, ↓k_kl, ↓k_kln, ↓k_il, ↓k_2, ↓k_1, ↓k_2c, ↓k_2l, ↓k_ac, ↓k_an, ↓k_cs, ↓k_cv, ↓k_fi, ↓k_fr, ↓k_ai, ↓k_az, ↓k_ar, ↓k_sai, ↓k_saz, ↓k_soa, ↓k_sof, ↓k_spf, ↓k_sx, ↓k_blk, ↓k_sset, ↓k_sdec, ↓k_sri, ↓k_srv, ↓k_srr, ↓k_nop, ↓k_add, ↓k_sub, ↓k_mul, ↓k_min, ↓k_max, ↓k_shr, ↓k_shl, ↓k_or, ↓k_ilz, ↓k_addl, ↓k_rt, ↓k_rb, ↓k_rbz, ↓k_rsi, ↓k_rsr, ↓k_rsv, ↓reduceIte, ↓c11_isTelling, ↓c12_isTelling, ↓c11_isText, ↓c12_isText, hv, ht, List.length_cons, List.length_nil, List.forall_mem_cons, List.not_mem_nil, Value.category, true_and, and_true, false_and, and_false, or_true, true_or, or_false, false_or, Nat.zero_le, forall_const, implies_true, false_implies, Nat.zero_add, Nat.reduceAdd, Nat.reduceLT, Nat.reduceLeDiff, Nat.le_refl, not_true_eq_false, not_false_eq_true, r_eq, r_ne, r_lt, r_ge, r_gt, r_le, bz_ne, nn_toNat, cn_of, cn_0, cn_1, i10, Int.reduceLE, Int.reduceLT, Int.reduceEq, bz_T, bz_F, ite_self, mulc, st_bud]
      exact hK _ _ (fin_mk rfl (lo_refl _ _ _) hI)
  · refine op_gen fun K hK => ?_
    simp (disch := omega) only [↓fX11_price.eq_1, ↓sX11_price_.eq_1, ↓(k_cs1 dX11_isTelling), ↓(k_cs1 dX11_isText), ↓k_mk, ↓k_sq, ↓k_sk, ↓k_bk, ↓k_if, ↓k_te, ↓k_cm, ↓k_cz, ↓k_an2, ↓k_or2, ↓k_no, ↓k_ci, ↓k_l0, ↓k_r0, ↓k_se0, ↓k_ic0, ↓k_l1, ↓k_r1, ↓k_se1, ↓k_ic1, ↓k_de1, ↓k_tk1, ↓k_l2, ↓k_r2, ↓k_se2, ↓k_ic2, ↓k_de2, ↓k_tk2, ↓k_l3, ↓k_r3, ↓k_se3, ↓k_ic3, ↓k_de3, ↓k_tk3, ↓k_l4, ↓k_r4, ↓k_se4, ↓k_ic4, ↓k_de4, ↓k_tk4, ↓k_l5, ↓k_r5, ↓k_se5, ↓k_ic5, ↓k_de5, ↓k_tk5, ↓k_l6, ↓k_r6, ↓k_se6, ↓k_ic6, ↓k_de6, ↓k_tk6, ↓k_l7, ↓k_r7, ↓k_se7, ↓k_ic7, ↓k_de7, ↓k_tk7, ↓k_l8, ↓k_r8, ↓k_se8, ↓k_ic8, ↓k_de8, ↓k_tk8, ↓k_l9, ↓k_r9, ↓k_se9, ↓k_ic9, ↓k_de9, ↓k_tk9, ↓k_l10, ↓k_r10, ↓k_se10, ↓k_ic10, ↓k_de10, ↓k_tk10, ↓k_l11, ↓k_r11, ↓k_se11, ↓k_ic11, ↓k_de11, ↓k_tk11, ↓k_l12, ↓k_r12, ↓k_se12, ↓k_ic12, ↓k_de12, ↓k_tk12, ↓k_l13, ↓k_r13, ↓k_se13, ↓k_ic13, ↓k_de13, ↓k_tk13, ↓k_l14, ↓k_r14, ↓k_se14, ↓k_ic14, ↓k_de14, ↓k_tk14, ↓k_l15, ↓k_r15, ↓k_se15, ↓k_ic15, ↓k_de15, ↓k_tk15, ↓k_l16, ↓k_r16, ↓k_se16, ↓k_ic16, ↓k_de16, ↓k_tk16, ↓k_l17, ↓k_r17, ↓k_se17, ↓k_ic17, ↓k_de17, ↓k_tk17, ↓k_l18, ↓k_r18, ↓k_se18, ↓k_ic18, ↓k_de18, ↓k_tk18, ↓k_l19, ↓k_r19, ↓k_se19, ↓k_ic19, ↓k_de19, ↓k_tk19, ↓k_l20, ↓k_r20, ↓k_se20, ↓k_ic20, ↓k_de20, ↓k_tk20, ↓k_l21, ↓k_r21, ↓k_se21, ↓k_ic21, ↓k_de21, ↓k_tk21, ↓k_l22, ↓k_r22, ↓k_se22, ↓k_ic22, ↓k_de22, ↓k_tk22, ↓k_l23, ↓k_r23, ↓k_se23, ↓k_ic23, ↓k_de23, ↓k_tk23, ↓k_l24, ↓k_r24, ↓k_se24, ↓k_ic24, ↓k_de24, ↓k_tk24, ↓k_l25, ↓k_r25, ↓k_se25, ↓k_ic25, ↓k_de25, ↓k_tk25, ↓k_k, ↓k_kn, ↓k_kl, ↓k_kln, ↓k_il, ↓k_2, ↓k_1, ↓k_2c, ↓k_2l, ↓k_ac, ↓k_an, ↓k_cs, ↓k_cv, ↓k_fi, ↓k_fr, ↓k_ai, ↓k_az, ↓k_ar, ↓k_sai, ↓k_saz, ↓k_soa, ↓k_sof, ↓k_spf, ↓k_sx, ↓k_blk, ↓k_sset, ↓k_sdec, ↓k_sri, ↓k_srv, ↓k_srr, ↓k_nop, ↓k_add, ↓k_sub, ↓k_mul, ↓k_min, ↓k_max, ↓k_shr, ↓k_shl, ↓k_or, ↓k_ilz, ↓k_addl, ↓k_rt, ↓k_rb, ↓k_rbz, ↓k_rsi, ↓k_rsr, ↓k_rsv, ↓reduceIte, ↓c11_isTelling, ↓c12_isTelling, hv, List.length_cons, List.length_nil, List.forall_mem_cons, List.not_mem_nil, Value.category, true_and, and_true, false_and, and_false, or_true, true_or, or_false, false_or, Nat.zero_le, forall_const, implies_true, false_implies, Nat.zero_add, Nat.reduceAdd, Nat.reduceLT, Nat.reduceLeDiff, Nat.le_refl, not_true_eq_false, not_false_eq_true, r_eq, r_ne, r_lt, r_ge, r_gt, r_le, bz_ne, nn_toNat, cn_of, cn_0, cn_1, i10, Int.reduceLE, Int.reduceLT, Int.reduceEq, bz_T, bz_F, ite_self, mulc, st_bud]
    refine hK _ _ ⟨mid_mk (lo_refl _ _ _), op_gen fun K hK => ?_⟩
    rw [st_bud]
    simp (disch := first | omega | (simp (disch := omega) only [gs_ne, flG_ne, wr_ne, cpG_ne])) only [↓fX12_price.eq_1, ↓sX12_price_.eq_1, ↓(k_cs1 dX12_isTelling), ↓(k_cs1 dX12_isText), ↓k_mk, ↓k_sq, ↓k_sk, ↓k_bk, ↓k_if, ↓k_te, ↓k_cm, ↓k_cz, ↓k_an2, ↓k_or2, ↓k_no, ↓k_ci, ↓k_l0, ↓k_r0, ↓k_se0, ↓k_ic0, ↓k_l1, ↓k_r1, ↓k_se1, ↓k_ic1, ↓k_de1, ↓k_tk1, ↓k_l2, ↓k_r2, ↓k_se2, ↓k_ic2, ↓k_de2, ↓k_tk2, ↓k_l3, ↓k_r3, ↓k_se3, ↓k_ic3, ↓k_de3, ↓k_tk3, ↓k_l4, ↓k_r4, ↓k_se4, ↓k_ic4, ↓k_de4, ↓k_tk4, ↓k_l5, ↓k_r5, ↓k_se5, ↓k_ic5, ↓k_de5, ↓k_tk5, ↓k_l6, ↓k_r6, ↓k_se6, ↓k_ic6, ↓k_de6, ↓k_tk6, ↓k_l7, ↓k_r7, ↓k_se7, ↓k_ic7, ↓k_de7, ↓k_tk7, ↓k_l8, ↓k_r8, ↓k_se8, ↓k_ic8, ↓k_de8, ↓k_tk8, ↓k_l9, ↓k_r9, ↓k_se9, ↓k_ic9, ↓k_de9, ↓k_tk9, ↓k_l10, ↓k_r10, ↓k_se10, ↓k_ic10, ↓k_de10, ↓k_tk10, ↓k_l11, ↓k_r11, ↓k_se11, ↓k_ic11, ↓k_de11, ↓k_tk11, ↓k_l12, ↓k_r12, ↓k_se12, ↓k_ic12, ↓k_de12, ↓k_tk12, ↓k_l13, ↓k_r13, ↓k_se13, ↓k_ic13, ↓k_de13, ↓k_tk13, ↓k_l14, ↓k_r14, ↓k_se14, ↓k_ic14, ↓k_de14, ↓k_tk14, ↓k_l15, ↓k_r15, ↓k_se15, ↓k_ic15, ↓k_de15, ↓k_tk15, ↓k_l16, ↓k_r16, ↓k_se16, ↓k_ic16, ↓k_de16, ↓k_tk16, ↓k_l17, ↓k_r17, ↓k_se17, ↓k_ic17, ↓k_de17, ↓k_tk17, ↓k_l18, ↓k_r18, ↓k_se18, ↓k_ic18, ↓k_de18, ↓k_tk18, ↓k_l19, ↓k_r19, ↓k_se19, ↓k_ic19, ↓k_de19, ↓k_tk19, ↓k_l20, ↓k_r20, ↓k_se20, ↓k_ic20, ↓k_de20, ↓k_tk20, ↓k_l21, ↓k_r21, ↓k_se21, ↓k_ic21, ↓k_de21, ↓k_tk21, ↓k_l22, ↓k_r22, ↓k_se22, ↓k_ic22, ↓k_de22, ↓k_tk22, ↓k_l23, ↓k_r23, ↓k_se23, ↓k_ic23, ↓k_de23, ↓k_tk23, ↓k_l24, ↓k_r24, ↓k_se24, ↓k_ic24, ↓k_de24, ↓k_tk24, ↓k_l25, ↓k_r25, ↓k_se25, ↓k_ic25, ↓k_de25, ↓k_tk25, ↓k_k, ↓k_kn, ↓k_kl, ↓k_kln, ↓k_il, ↓k_2, ↓k_1, ↓k_2c, ↓k_2l, ↓k_ac, ↓k_an, ↓k_cs, ↓k_cv, ↓k_fi, ↓k_fr, ↓k_ai, ↓k_az, ↓k_ar, ↓k_sai, ↓k_saz, ↓k_soa, ↓k_sof, ↓k_spf, ↓k_sx, ↓k_blk, ↓k_sset, ↓k_sdec, ↓k_sri, ↓k_srv, ↓k_srr, ↓k_nop, ↓k_add, ↓k_sub, ↓k_mul, ↓k_min, ↓k_max, ↓k_shr, ↓k_shl, ↓k_or, ↓k_ilz, ↓k_addl, ↓k_rt, ↓k_rb, ↓k_rbz, ↓k_rsi, ↓k_rsr, ↓k_rsv, ↓reduceIte, ↓c11_isTelling, ↓c12_isTelling, hv, List.length_cons, List.length_nil, List.forall_mem_cons, List.not_mem_nil, Value.category, true_and, and_true, false_and, and_false, or_true, true_or, or_false, false_or, Nat.zero_le, forall_const, implies_true, false_implies, Nat.zero_add, Nat.reduceAdd, Nat.reduceLT, Nat.reduceLeDiff, Nat.le_refl, not_true_eq_false, not_false_eq_true, r_eq, r_ne, r_lt, r_ge, r_gt, r_le, bz_ne, nn_toNat, cn_of, cn_0, cn_1, i10, Int.reduceLE, Int.reduceLT, Int.reduceEq, bz_T, bz_F, ite_self, mulc, st_bud]
    exact hK _ _ (fin_mk rfl (lo_refl _ _ _) hI)
end
