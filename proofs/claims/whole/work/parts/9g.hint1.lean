section
/-! hint: the class opens, counts and finds its prices -/
/-- it takes a text and finds the ways -/
theorem rr_ref2 {T : Nat → Option q_T} {nx B : Nat} {R : Nat → Nat → Option Value} {G Gc : Nat → Int → Int} {v u n : Int} {Q : Int → Int → Int → Int} (hM : Ly T R (B + 544) (L12 (B + 544))) (iFm : IFm G B) (iTx : ITx G B) (v0 : 0 ≤ v) (v1 : v ≤ 1) (u0 : 0 ≤ u) (u1 : u ≤ 7) (hn : n = G (B + 3) u) (up : ∀ x, B + 545 ≤ x → Gc x = G x) (hQ : QOK (G (B + 370 + 14 * v.toNat) 1) (G (B + 370 + 14 * v.toNat + 2)) (fun ff => il (gC (G (B + 370 + 14 * v.toNat + 4)) ff) 0 (G (B + 370 + 14 * v.toNat + 3) ff - 0).toNat) (ftX (fun p => G (B + 2) (16 * u + p))) n Q) :
    ∃ G3 G4, (∀ x, ¬ x = B + 544 → ¬ ((B + 544 + 39) ≤ x ∧ x ≤ (B + 544 + 41)) → G4 x = Gc x) ∧ (∀ j, ¬ j = 47 → G4 (B + 544) j = Gc (B + 544) j) ∧ G4 (B + 544) 47 = n ∧ (∀ p, 0 ≤ p → p < n → G4 (B + 544 + 39) p = G (B + 2) (16 * u + p)) ∧ WBr G4 B ∧ (∀ s x y, 0 ≤ x → x < y → y ≤ n → (Q s x y = 0 ↔ 0 < wyc (G4 (B + 544 + 40)) s x y)) ∧ TRC G4 B v (G (B + 370 + 14 * v.toNat) 1) (G (B + 370 + 14 * v.toNat + 2)) (G (B + 370 + 14 * v.toNat + 3)) (G (B + 370 + 14 * v.toNat + 4)) ∧ WOk (G (B + 370 + 14 * v.toNat) 1) (G (B + 370 + 14 * v.toNat + 2)) (fun ff => il (gC (G (B + 370 + 14 * v.toNat + 4)) ff) 0 (G (B + 370 + 14 * v.toNat + 3) ff - 0).toNat) (ftX (fun p => G (B + 2) (16 * u + p))) n (wyc (G4 (B + 544 + 40))) ∧ (∀ K : Option Value → q_M → Prop, fX12_takeText [.ref (B + 544), .int (zI u)] (st T nx 0 0 R Gc) K = K none (st T nx 0 0 R G3)) ∧ ∀ K : Option Value → q_M → Prop, fX12_findWays [.ref (B + 544), .int (zI v)] (st T nx 0 0 R G3) K = K none (st T nx 0 0 R G4) := by
  obtain ⟨x1, x2, x3, x4⟩ := iTx u u0 u1
  rw [← hn] at x1 x2 x3 x4
  obtain ⟨G3, b1, b2, b3, b4, b5⟩ := c12_takeText (T := T) (nx := nx) (rc := 0) (rs := 0) (R := R) (G := Gc) hM u0 u1 (by rw [up _ (by omega)]; exact x1) x2 x3
  have cd : ∀ p, 0 ≤ p → p < n → -2147483648 ≤ G (B + 2) (16 * u + p) ∧ G (B + 2) (16 * u + p) < 2147483648 := fun p q1 q2 => by
    have := (x4 p q1 q2).2
    unfold isCd at this
    omega
  have r3 : ∀ p, 0 ≤ p → p < n → G3 (B + 544 + 39) p = G (B + 2) (16 * u + p) := fun p q1 q2 => by rw [b4 p q1 q2, up _ (by omega)]; exact (x4 p q1 q2).1
  have o3 : ∀ x, B + 544 + 2 ≤ x → x ≤ B + 544 + 5 → G3 x = G x := fun x q1 q2 => by rw [b1 x (by omega) (by omega), up x (by omega)]
  have o3' : ∀ x, B + 544 + 1 ≤ x → x ≤ B + 544 + 5 → G3 x = G x := fun x q1 q2 => by rw [b1 x (by omega) (by omega), up x (by omega)]
  have hR3 : FTr G3 B v := by
    have := FTr_of iFm v0 v1
    unfold FTr at this ⊢
    rw [o3' (B + 544 + 2) (by omega) (by omega), o3' (B + 544 + 3) (by omega) (by omega), o3' (B + 544 + 4) (by omega) (by omega), o3' (B + 544 + 5) (by omega) (by omega)]
    exact this
  obtain ⟨G4, d1, d2, d3, d4⟩ := c12_findWays (T := T) (nx := nx) (rc := 0) (rs := 0) (R := R) (G := G3) (v := v) (n := n) hM hR3 v0 v1 x2 x3 b3 (fun p q1 q2 => by rw [r3 p q1 q2]; exact cd p q1 q2)
  have e4 : G4 (B + 544 + 39) = G3 (B + 544 + 39) := d1 _ (by omega) (by omega)
  have trc : TRC G4 B v (G (B + 370 + 14 * v.toNat) 1) (G (B + 370 + 14 * v.toNat + 2)) (G (B + 370 + 14 * v.toNat + 3)) (G (B + 370 + 14 * v.toNat + 4)) := TRC_fr (fun x q1 q2 => by rw [d1 x (by omega) (by omega), o3 x q1 q2]) (TRC_of iFm v0 v1)
  have wk := WOk_ref (M := G4) (ft := (ftX (fun p => G (B + 2) (16 * u + p)))) trc x3 d3 (fun it x q1 q2 => by
    show sutB it (G (B + 2) (16 * u + x)) = sutB it (G4 (B + 544 + 39) x)
    rw [e4, r3 x q1 q2])
  have za := Z_all (W := G4 (B + 544 + 40)) (FO5_of iFm v0 v1) hQ (fun s x y s0 s1 q1 q2 q3 => (d2 s x y s0 s1 q1 q2 (by omega)).1) wk
  exact ⟨G3, G4, fun x q1 q2 => by rw [d1 x (by omega) (by omega), b1 x q1 (by omega)], fun j q => by rw [d1 _ (by omega) (by omega), b2 j q], by rw [d1 _ (by omega) (by omega)]; exact b3, fun p q1 q2 => by rw [e4]; exact r3 p q1 q2, d2, fun s x y q1 q2 q3 => za (y - x).toNat x y q1 q2 q3 (by omega) s, trc, wk, b5, d4⟩
/-- the class opens a text, counts its readings and finds its prices -/
theorem pr_cls2 {T : Nat → Option q_T} {nx B x1 x2 x3 x4 : Nat} {R : Nat → Nat → Option Value} {G : Nat → Int → Int} {v u n : Int} (hL : Ly T R B (L11x B x1 x2 x3 x4)) (hM : Ly T R (B + 544) (L12 (B + 544))) (iFm : IFm G B) (iTx : ITx G B) (v0 : 0 ≤ v) (v1 : v ≤ 1) (u0 : 0 ≤ u) (u1 : u ≤ 7) (hn : n = G (B + 3) u) :
    ∃ G1 G2 G3 r Q, (0 ≤ n ∧ n ≤ 16) ∧ (0 ≤ r ∧ r ≤ 1000) ∧ QOK (G (B + 370 + 14 * v.toNat) 1) (G (B + 370 + 14 * v.toNat + 2)) (fun ff => il (gC (G (B + 370 + 14 * v.toNat + 4)) ff) 0 (G (B + 370 + 14 * v.toNat + 3) ff - 0).toNat) (ftX (fun p => G (B + 2) (16 * u + p))) n Q ∧ (∀ W, WOk (G (B + 370 + 14 * v.toNat) 1) (G (B + 370 + 14 * v.toNat + 2)) (fun ff => il (gC (G (B + 370 + 14 * v.toNat + 4)) ff) 0 (G (B + 370 + 14 * v.toNat + 3) ff - 0).toNat) (ftX (fun p => G (B + 2) (16 * u + p))) n (wyc W) → r = if n = 0 then 0 else W n) ∧ (0 < r → Q 0 0 n = 0) ∧ (∀ x, ¬ (B + 526 ≤ x ∧ x ≤ B + 532) → G2 x = G x) ∧ (∀ x, ¬ (B + 526 ≤ x ∧ x ≤ B + 532) → G3 x = G x) ∧ G3 (B + 526) 0 = n ∧ (∀ p, 0 ≤ p → p < n → G3 (B + 527) p = G (B + 2) (16 * u + p)) ∧ CDn Q (ftX (fun p => G (B + 2) (16 * u + p))) n (G (B + 370 + 14 * v.toNat) 1) (G (B + 370 + 14 * v.toNat + 4)) (G (B + 370 + 14 * v.toNat + 3)) (G3 (B + 526 + 4)) (G3 (B + 526 + 5)) (fun _ _ => True) ∧ NFt G3 (B + 526) (ftX (fun p => G (B + 2) (16 * u + p))) n (fun _ => True) ∧ (∀ K : Option Value → q_M → Prop, fX3_open [.ref (B + 526), .ref (B + 370 + 14 * v.toNat), .ref (B + 2), .int (zI (u * 16)), .int (zI n)] (st T nx 0 0 R G) K = K none (st T nx 0 0 (rS R (B + 526) 1 (.ref (B + 370 + 14 * v.toNat))) G1)) ∧ (∀ K : Option Value → q_M → Prop, fX3_countReadings [.ref (B + 526)] (st T nx 0 0 (rS R (B + 526) 1 (.ref (B + 370 + 14 * v.toNat))) G1) K = K (some (.int (zI r))) (st T nx 0 0 (rS R (B + 526) 1 (.ref (B + 370 + 14 * v.toNat))) G2)) ∧ ∀ K : Option Value → q_M → Prop, fX3_leastPrice [.ref (B + 526)] (st T nx 0 0 (rS R (B + 526) 1 (.ref (B + 370 + 14 * v.toNat))) G2) K = K (some (.int (zI (cl (Q 0 0 n))))) (st T nx 0 0 (rS R (B + 526) 1 (.ref (B + 370 + 14 * v.toNat))) G3) := by
  obtain ⟨y1, y2, y3, y4⟩ := iTx u u0 u1
  rw [← hn] at y1 y2 y3 y4
  obtain ⟨_, Gq, _, _, _, _, _, hQ, _⟩ := pr_ref (T := T) (nx := nx) (R := R) (G := G) (Gc := G) hM iFm iTx v0 v1 u0 u1 hn (fun _ _ => rfl)
  have hL2 := Ly_told (r := (B + 370 + 14 * v.toNat)) hL
  have o2 := o11_10 hL2
  have o8 := o11_0 hL2 (i := v.toNat) (by omega)
  obtain ⟨G1, e1⟩ : ∃ M, M = cpG (gs G (B + 526) 0 n) (B + 2) (u * 16) (B + 527) 0 n := ⟨_, rfl⟩
  have n1 : ∀ x, ¬ x = B + 526 → ¬ x = B + 527 → G1 x = G x := fun x q1 q2 => by rw [e1, cpG_ne q2, gs_ne q1]
  have s1 : G1 (B + 526) 0 = n := by rw [e1, cpG_ne (by omega)]; exact gs_same _ _ _ _
  have t1 : ∀ p, 0 ≤ p → p < n → G1 (B + 527) p = G (B + 2) (16 * u + p) := fun p q1 q2 => by
    rw [e1, cp_in q1 (by omega), gs_ne (by omega)]
    congr 1
    omega
  have cO : ∀ K : Option Value → q_M → Prop, fX3_open [.ref (B + 526), .ref (B + 370 + 14 * v.toNat), .ref (B + 2), .int (zI (u * 16)), .int (zI n)] (st T nx 0 0 R G) K = K none (st T nx 0 0 (rS R (B + 526) 1 (.ref (B + 370 + 14 * v.toNat))) G1) := fun K => by
    rw [e1]
    exact c3_open hL y2 y3 (by omega) (by omega)
  have cd : ∀ p, 0 ≤ p → p < n → -2147483648 ≤ G (B + 2) (16 * u + p) ∧ G (B + 2) (16 * u + p) < 2147483648 := fun p q1 q2 => by
    have := (y4 p q1 q2).2
    unfold isCd at this
    omega
  have hF1 : FT G1 (B + 370 + 14 * v.toNat) := by
    have := FT_of iFm v0 v1
    unfold FT at this ⊢
    rw [n1 (B + 370 + 14 * v.toNat) (by omega) (by omega), n1 ((B + 370 + 14 * v.toNat) + 2) (by omega) (by omega), n1 ((B + 370 + 14 * v.toNat) + 3) (by omega) (by omega), n1 ((B + 370 + 14 * v.toNat) + 4) (by omega) (by omega)]
    exact this
  obtain ⟨G2, a1, a2, a3⟩ := c3_countReadings (nx := nx) (rc := 0) (rs := 0) (G := G1) (a := B + 526) (t := (B + 370 + 14 * v.toNat)) o2 o8 (by omega) hF1 (by omega) (by omega) (fun p q1 q2 => by rw [s1] at q2; rw [t1 p q1 q2]; exact cd p q1 q2)
  rw [s1] at a2 a3
  have l2 : ∀ x, ¬ (B + 526 ≤ x ∧ x ≤ B + 529) → G2 x = G x := fun x q => by rw [a1 x (by omega) (by omega), n1 x (by omega) (by omega)]
  have s2 : G2 (B + 526) 0 = n := by rw [a1 _ (by omega) (by omega)]; exact s1
  have t2 : ∀ p, 0 ≤ p → p < n → G2 (B + 527) p = G (B + 2) (16 * u + p) := fun p q1 q2 => by rw [a1 _ (by omega) (by omega)]; exact t1 p q1 q2
  have tc2 : TC G2 (B + 370 + 14 * v.toNat) (G (B + 370 + 14 * v.toNat) 1) (G (B + 370 + 14 * v.toNat + 2)) (G (B + 370 + 14 * v.toNat + 4)) (G (B + 370 + 14 * v.toNat + 3)) := by
    have := TC_of iFm v0 v1
    unfold TC at this ⊢
    rw [l2 (B + 370 + 14 * v.toNat) (by omega), l2 ((B + 370 + 14 * v.toNat) + 2) (by omega), l2 ((B + 370 + 14 * v.toNat) + 3) (by omega), l2 ((B + 370 + 14 * v.toNat) + 4) (by omega)]
    exact this
  have hF := FO5_of iFm v0 v1
  obtain ⟨G3, d1, d2, d3, d4⟩ := c3_leastPrice (T := T) (nx := nx) (rc := 0) (rs := 0) (G := G2) (a := B + 526) (t := (B + 370 + 14 * v.toNat)) (N := n) (ft := (ftX (fun p => G (B + 2) (16 * u + p)))) (Q := pq 1000000 (Gq (B + 544 + 50))) o2 o8 (by omega) hF hQ y3 y2 s2 tc2 (fun it p q1 q2 => by
    rw [t2 p q1 q2]
    rfl) (fun p q1 q2 => by rw [t2 p q1 q2]; exact cd p q1 q2)
  have pb : ∀ s x y, 0 ≤ s → s ≤ 5 → 0 ≤ x → x < y → y ≤ n → 0 ≤ G2 (B + 528) (289 * s + 17 * x + y) ∧ G2 (B + 528) (289 * s + 17 * x + y) ≤ 1000 := fun s x y q1 q2 q3 q4 q5 => ((a2 x y q3 q4 (by omega) (by omega)).1 s q1 q2).1
  have wk : WOk (G (B + 370 + 14 * v.toNat) 1) (G (B + 370 + 14 * v.toNat + 2)) (fun ff => il (gC (G (B + 370 + 14 * v.toNat + 4)) ff) 0 (G (B + 370 + 14 * v.toNat + 3) ff - 0).toNat) (ftX (fun p => G (B + 2) (16 * u + p))) n (wyc (G2 (B + 528))) := fun s i j q0 q1 i0 ij jn => by
    rw [wyc_in ⟨q0, q1⟩]
    have w := ((a2 i j i0 ij (by omega) (by omega)).1 s q0 q1).2
    rw [w]
    unfold sV
    rw [l2 (B + 370 + 14 * v.toNat) (by omega), l2 ((B + 370 + 14 * v.toNat) + 2) (by omega), l2 ((B + 370 + 14 * v.toNat) + 3) (by omega), l2 ((B + 370 + 14 * v.toNat) + 4) (by omega)]
    congr 1
    refine sumN_congr fun m hm => ?_
    show (if G (B + 370 + 14 * v.toNat + 2) (0 + m) = s then _ else _) = _
    by_cases c : G (B + 370 + 14 * v.toNat + 2) (0 + m) = s
    · rw [if_pos c, if_pos c]
      exact rW_ft _ _ fun it q z1 z2 => by
        show sutB it (G2 (B + 527) q) = sutB it (G (B + 2) (16 * u + q))
        rw [t2 q (by omega) (by omega)]
    · rw [if_neg c, if_neg c]
  have ez : 289 * (0 : Int) + 17 * 0 + n = n := by omega
  have eR : ∀ W, 0 < n → wyc W 0 0 n = W n := fun W h => by rw [wyc_in (by omega), ez]
  have rb : 0 ≤ (if n = 0 then 0 else G2 (B + 526 + 2) n) ∧ (if n = 0 then 0 else G2 (B + 526 + 2) n) ≤ 1000 := by
    by_cases c : n = 0
    · rw [if_pos c]
      omega
    · rw [if_neg c]
      have := pb 0 0 n (Int.le_refl _) (by omega) (Int.le_refl _) (by omega) (Int.le_refl _)
      rw [ez] at this
      exact this
  refine ⟨G1, G2, G3, _, _, ⟨y2, y3⟩, rb, hQ, fun W hW => ?_, fun h => ?_, fun x q => l2 x (by omega), fun x q => by rw [d1 x (by omega), l2 x (by omega)], by rw [d1 _ (by omega)]; exact s2, fun p q1 q2 => by rw [d1 _ (by omega)]; exact t2 p q1 q2, d2, d3, cO, a3, d4⟩
  · by_cases c : n = 0
    · rw [if_pos c, if_pos c]
    · rw [if_neg c, if_neg c]
      have w := W_one hF.1 wk hW (fun s x y q => by rw [wyc_out q, wyc_out q]) (n - 0).toNat 0 n 0 (Int.le_refl _) (by omega) (Int.le_refl _) (Nat.le_refl _)
      rw [eR _ (by omega), eR _ (by omega)] at w
      exact w
  · by_cases c : n = 0
    · rw [if_pos c] at h
      omega
    · rw [if_neg c] at h
      have za := Z_all (W := G2 (B + 528)) hF hQ (fun s x y q1 q2 q3 q4 q5 => (pb s x y q1 q2 q3 q4 q5).1) wk n.toNat 0 n (Int.le_refl _) (by omega) (Int.le_refl _) (by omega) 0
      rw [eR _ (by omega)] at za
      exact za.mpr h
end
