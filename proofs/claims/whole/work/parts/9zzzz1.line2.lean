section
/-! distance: the reference lines a tree's pieces -/
def lbR (v c : Int) : Int := if 1000 ≤ c then c + 14 * v else c
def FWL (G0 G : Nat → Int → Int) (B : Nat) : Prop := ∀ x, B + 544 ≤ x → ¬ (B + 580 ≤ x ∧ x ≤ B + 582) → ¬ (B + 601 ≤ x ∧ x ≤ B + 604) → G x = G0 x
set_option maxHeartbeats 400000 in
theorem FWL_CH {G0 G G' : Nat → Int → Int} {B : Nat} {d s m : Int} (h : FWL G0 G B) (k : CHL G G' B d s m) : FWL G0 G' B := fun x z0 z1 z2 => by rw [k.1 x z1 z2, h x z0 z1 z2]
/-- the piece q stands in row s -/
def PRp (G : Nat → Int → Int) (B : Nat) (s v : Int) (c e lev : Int → Int) (q : Int) : Prop := G (B + 544 + 57) (210 * s + (e q - lev q - 1)) = lbR v (c q) ∧ G (B + 544 + 58) (210 * s + (e q - lev q - 1)) = q - lev q
set_option maxHeartbeats 400000 in
theorem PRp_ch {G G' : Nat → Int → Int} {B : Nat} {s v d m q : Int} {c e lev : Int → Int} (h : PRp G B s v c e lev q) (k : CHL G G' B d s m) (g : e q - lev q - 1 < m) : PRp G' B s v c e lev q := by
  obtain ⟨k1, k2⟩ := k.2.2.2.1 (210 * s + (e q - lev q - 1)) (by omega)
  unfold PRp
  rw [k1, k2]
  exact h
/-- the node p is gone through -/
def WPL (T : Nat → Option q_T) (nx : Nat) (R : Nat → Nat → Option Value) (G0 : Nat → Int → Int) (B a : Nat) (i v s : Int) (lev : Int → Int) (p : Int) : Prop := ∀ (G : Nat → Int → Int) (d : Int), FWL G0 G B → G (B + 544 + 36) d = G0 (a + 6) p → G (B + 544 + 38) d = 0 → G (B + 544 + 60) d = -1 → G (B + 544 + 59) s = p - lev p → 0 ≤ d → d + (nb (G0 (a + 1)) (G0 (a + 2) p).toNat - nb (G0 (a + 1)) p.toNat) ≤ 41 → (1 ≤ d → -1 ≤ G (B + 544 + 60) (d - 1) ∧ G (B + 544 + 60) (d - 1) ≤ 201) →
  ∃ G' : Nat → Int → Int, CHL G G' B d s (p - lev p) ∧ (∀ q, p ≤ q → q < G0 (a + 2) p → PRp G' B s v (G0 (a + 1)) (G0 (a + 2)) lev q) ∧ G' (B + 544 + 59) s = G0 (a + 2) p - lev p ∧ (1 ≤ d → G' (B + 544 + 60) (d - 1) = if G (B + 544 + 60) (d - 1) < 0 then p - lev p else G (B + 544 + 60) (d - 1)) ∧ ∀ K : List Value → q_M → Prop, q_wh wcX12_linePieces_0 wsX12_linePieces_0 [.ref (B + 544), .int (zI i), .int (zI s), .int (zI (d - 1))] (st T nx 0 0 R G') K (fun _ _ => False) → q_wh wcX12_linePieces_0 wsX12_linePieces_0 [.ref (B + 544), .int (zI i), .int (zI s), .int (zI d)] (st T nx 0 0 R G) K (fun _ _ => False)
set_option maxHeartbeats 400000 in
theorem lp_slots {T : Nat → Option q_T} {nx B a : Nat} {R : Nat → Nat → Option Value} {G0 : Nat → Int → Int} {h i v s p f : Int} {lev : Int → Int} (hM : Ly T R (B + 544) (L12 (B + 544))) (i0 : 0 ≤ i) (i1 : i < 100) (s0 : 0 ≤ s) (s1 : s ≤ 1) (hF : IFm G0 B) (tk : TOK G0 B h i v a) (lv : LEV (G0 a 2) (G0 (a + 2)) (G0 (a + 3)) lev) (p0 : 0 ≤ p) (p1 : p < G0 a 2) (hn : 1000 ≤ G0 (a + 1) p) (ef : f = G0 (a + 1) p - 1000) (IH : ∀ q, p < q → q < G0 (a + 2) p → 1000 ≤ G0 (a + 1) q → WPL T nx R G0 B a i v s lev q) :
    ∀ (mm : Nat) (k q : Int) (G : Nat → Int → Int) (d : Int), 0 ≤ k → k + mm = G0 (tvA B v + 5) f → q = chI (G0 (a + 2)) p k.toNat → FWL G0 G B → G (B + 544 + 36) d = G0 (a + 6) p → G (B + 544 + 38) d = k → (G (B + 544 + 60) d = if k = 0 then -1 else p - lev p) → G (B + 544 + 59) s = q - 1 - lev p → 0 ≤ d → d + 1 + (nb (G0 (a + 1)) (G0 (a + 2) p).toNat - nb (G0 (a + 1)) q.toNat) ≤ 41 → (1 ≤ d → -1 ≤ G (B + 544 + 60) (d - 1) ∧ G (B + 544 + 60) (d - 1) ≤ 201) →
    ∃ G' : Nat → Int → Int, CHL G G' B d s (q - 1 - lev p) ∧ (∀ x, q ≤ x → x < G0 (a + 2) p → PRp G' B s v (G0 (a + 1)) (G0 (a + 2)) lev x) ∧ PRp G' B s v (G0 (a + 1)) (G0 (a + 2)) lev p ∧ G' (B + 544 + 59) s = G0 (a + 2) p - lev p ∧ (1 ≤ d → G' (B + 544 + 60) (d - 1) = if G (B + 544 + 60) (d - 1) < 0 then p - lev p else G (B + 544 + 60) (d - 1)) ∧ ∀ K : List Value → q_M → Prop, q_wh wcX12_linePieces_0 wsX12_linePieces_0 [.ref (B + 544), .int (zI i), .int (zI s), .int (zI (d - 1))] (st T nx 0 0 R G') K (fun _ _ => False) → q_wh wcX12_linePieces_0 wsX12_linePieces_0 [.ref (B + 544), .int (zI i), .int (zI s), .int (zI d)] (st T nx 0 0 R G) K (fun _ _ => False) := by
  obtain ⟨f', N', ef', f0, f1, eN', N1, N5, ⟨r0, r1⟩, hf, hN, hC, hg, hns, hend, hch⟩ := nodeF hF tk p0 p1 hn
  have e1 : f' = f := by rw [ef', ef]
  subst e1
  have tb := TOK_b tk
  have kT := tk.2.2.2.1
  have kv := tk.2.2.1
  have n201 := kT.1.2.1
  have lbp := lev_bb lv p0 p1
  have bp := lv.1.1 p p0 p1
  have nsb := nsl_b (fun k => G0 (tvA B v + 4) (5 * f' + k)) N'.toNat
  have fm : G0 (B + 544 + 19) (40 * i + G0 (a + 6) p) = f' := hf
  have inner : ∀ x, p < x → x < G0 (a + 2) p → G0 (a + 2) x - lev x ≤ G0 (a + 2) p - lev p - 1 := fun x x0 x1 => by
    have := lev_i lv p0 x0 x1 (by omega)
    have := lv.1.2 p x p0 x0 x1 (by omega)
    omega
  intro mm
  induction mm with
  | zero =>
    intro k q G d k0 km hq fw gn gk gf gm d0 db fp
    have kN : k = G0 (tvA B v + 5) f' := by omega
    have qe : q = G0 (a + 2) p := by rw [hq, kN]; exact hend
    have nqe : nb (G0 (a + 1)) q.toNat = nb (G0 (a + 1)) (G0 (a + 2) p).toNat := by rw [qe]
    have cS : ∀ K : Option Value → q_M → Prop, fX12_slotsOf [.ref (B + 544), .int (zI (14 * v + f'))] (st T nx 0 0 R G) K = K (some (.int (zI (G0 (tvA B v + 5) f')))) (st T nx 0 0 R G) := fun K => by
      have im : G (B + 544 + 4) (14 * v + f') = N' := by rw [fw _ (by omega) (by omega) (by omega)]; exact hN
      have ii : ∀ k, 0 ≤ k → k < N' → G (B + 544 + 5) (5 * (14 * v + f') + k) = G0 (tvA B v + 4) (5 * f' + k) := fun k a b => by rw [fw _ (by omega) (by omega) (by omega)]; exact (hC k a b).1
      rw [c12_slotsOf hM (by omega) (by omega) (by omega) (by omega) (fun k a b => by rw [ii k a (by omega)]; exact (hC k a (by omega)).2), im, hns, nsl_congr (c := fun k => G0 (tvA B v + 4) (5 * f' + k)) (fun k hk => ii k (by omega) (by omega))]
    obtain ⟨fi, hfi⟩ : ∃ fi, G (B + 544 + 60) d = fi := ⟨_, rfl⟩
    rw [hfi] at gf
    have own : (fi < 0 ∧ p - lev p = q - 1 - lev p) ∨ (0 ≤ fi ∧ p - lev p = fi) := by
      by_cases z : k = 0
      · rw [if_pos z] at gf
        refine Or.inl ⟨by omega, ?_⟩
        rw [hq, z]
        show p - lev p = p + 1 - 1 - lev p
        omega
      · rw [if_neg z] at gf
        exact Or.inr ⟨by omega, gf.symm⟩
    obtain ⟨G', c1, c2, c3, c4, c5, c6⟩ := lp_end (T := T) (nx := nx) (R := R) (i := i) (v := v) (own := p - lev p) hM i0 i1 s0 s1 d0 (by omega) gn r0 r1 (by rw [fw _ (by omega) (by omega) (by omega)]; exact tb.2.1) kv.1 kv.2 (by rw [fw _ (by omega) (by omega) (by omega)]; exact fm) f0 f1 cS gk k0 (by omega) (by omega) gm (by omega) (by omega) hfi (by omega) kN own (by omega) fp
    refine ⟨G', c1, fun x x0 x1 => by omega, ⟨?_, ?_⟩, by rw [c4]; omega, c5, fun K hK => q_back c6 hK⟩
    · rw [show G0 (a + 2) p - lev p - 1 = q - 1 - lev p by omega, c2]
      unfold lbR
      rw [if_pos hn]
      omega
    · rw [show G0 (a + 2) p - lev p - 1 = q - 1 - lev p by omega, c3]
  | succ mm ih =>
    intro k q G d k0 km hq fw gn gk gf gm d0 db fp
    have tl : G (B + 544 + 16) i = v := by rw [fw _ (by omega) (by omega) (by omega)]; exact tb.2.1
    have cS : ∀ K : Option Value → q_M → Prop, fX12_slotsOf [.ref (B + 544), .int (zI (14 * v + f'))] (st T nx 0 0 R G) K = K (some (.int (zI (G0 (tvA B v + 5) f')))) (st T nx 0 0 R G) := fun K => by
      have im : G (B + 544 + 4) (14 * v + f') = N' := by rw [fw _ (by omega) (by omega) (by omega)]; exact hN
      have ii : ∀ k, 0 ≤ k → k < N' → G (B + 544 + 5) (5 * (14 * v + f') + k) = G0 (tvA B v + 4) (5 * f' + k) := fun k a b => by rw [fw _ (by omega) (by omega) (by omega)]; exact (hC k a b).1
      rw [c12_slotsOf hM (by omega) (by omega) (by omega) (by omega) (fun k a b => by rw [ii k a (by omega)]; exact (hC k a (by omega)).2), im, hns, nsl_congr (c := fun k => G0 (tvA B v + 4) (5 * f' + k)) (fun k hk => ii k (by omega) (by omega))]
    have kk : (k.toNat : Int) = k := by omega
    have kt : (k + 1).toNat = k.toNat + 1 := by omega
    obtain ⟨⟨y1, y2, y3, y4⟩, y5⟩ := hch k.toNat (by omega)
    rw [← hq] at y1 y2 y3 y4 y5
    rw [kk] at y4 y5
    have qn : G0 (a + 2) q = chI (G0 (a + 2)) p (k + 1).toNat := by
      rw [kt, hq]
      rfl
    have che := Tr_che kT p0 p1 hn (i := k.toNat) (by rw [← ef']; show k.toNat < (G0 (tvA B v + 5) f').toNat; omega)
    rw [← hq] at che
    have lq : lev q = lev p + 1 := by
      have := (lv.2.2.1 q (by omega) y2).2.2.2
      rw [y3] at this
      exact this
    have q1n : p + 1 = q ∨ ¬ k = 0 := by
      by_cases z : k = 0
      · left
        rw [hq, z]
        rfl
      · exact Or.inr z
    have pq : G (B + 544 + 21) (5 * (40 * i + G0 (a + 6) p) + k) = pc (G0 (a + 1)) (G0 (a + 6)) q := by rw [fw _ (by omega) (by omega) (by omega)]; exact y5
    obtain ⟨fi, hfi⟩ : ∃ fi, G (B + 544 + 60) d = fi := ⟨_, rfl⟩
    rw [hfi] at gf
    have fib : -1 ≤ fi ∧ fi ≤ 201 := by
      rw [gf]
      split <;> omega
    have fiv : (if fi < 0 then q - 1 - lev p else fi) = p - lev p := by
      rw [gf]
      by_cases z : k = 0
      · rw [if_pos z, if_pos (by omega)]
        omega
      · rw [if_neg z, if_neg (by omega)]
    have k10 : ¬ k + 1 = 0 := by omega
    have nbqe := nbi_mono (G0 (a + 1)) (show q ≤ G0 (a + 2) q by omega)
    have nbe := nbi_mono (G0 (a + 1)) che.2
    obtain ⟨Gs, es⟩ : ∃ M, M = gs G (B + 544 + 38) d (k + 1) := ⟨_, rfl⟩
    have o1 : ∀ z, ¬ z = (B + 544 + 38) → Gs z = G z := fun z hz => by rw [es, gs_ne hz]
    have cs : CHL G Gs B d s (q - 1 - lev p) := ⟨fun x z1 z2 => o1 x (by omega), fun j z => ⟨by rw [o1 _ (by omega)], by rw [es, gs_eq, fu_ne (by omega)]⟩, fun j z => by rw [o1 _ (by omega)], fun j z => by rw [o1 _ (by omega), o1 _ (by omega)]; exact ⟨rfl, rfl⟩, fun j z => by rw [o1 _ (by omega)]⟩
    have hs := fun (K : List Value → q_M → Prop) (Kf : q_M → Prop) => lp_slot (T := T) (nx := nx) (R := R) (c := pc (G0 (a + 1)) (G0 (a + 6)) q) (K := K) (Kf := Kf) hM i0 i1 s0 s1 d0 (by omega) gn r0 r1 tl kv.1 kv.2 (by rw [fw _ (by omega) (by omega) (by omega)]; exact fm) f0 f1 cS gk k0 (by omega) (by omega) gm (by omega) (by omega) hfi fib (by omega) pq
    rw [← es] at hs
    by_cases l : 1000 ≤ G0 (a + 1) q
    · have tn := Tr_n kT (by omega) y2 l
      have N4 := kT.1.2.2.2.1
      have pv : pc (G0 (a + 1)) (G0 (a + 6)) q = 1000 + G0 (a + 6) q := by unfold pc; rw [if_pos l]
      rw [pv] at hs
      have nbl := nbi_lt (G0 (a + 1)) (p := q) (q := G0 (a + 2) q) (by omega) (by omega) l
      obtain ⟨Gn, en⟩ : ∃ M, M = gs (gs (gs Gs (B + 544 + 36) (d + 1) (1000 + G0 (a + 6) q - 1000)) (B + 544 + 38) (d + 1) 0) (B + 544 + 60) (d + 1) (-1) := ⟨_, rfl⟩
      have o2 : ∀ z, ¬ z = (B + 544 + 36) → ¬ z = (B + 544 + 38) → ¬ z = (B + 544 + 60) → Gn z = Gs z := fun z z1 z2 z3 => by rw [en, gs_ne z3, gs_ne z2, gs_ne z1]
      have n1 : ∀ j, Gn (B + 544 + 36) j = if j = d + 1 then G0 (a + 6) q else Gs (B + 544 + 36) j := fun j => by
        rw [en, gs_ne (by omega), gs_ne (by omega), gs_eq, fu_at, show 1000 + G0 (a + 6) q - 1000 = G0 (a + 6) q by omega]
      have n2 : ∀ j, Gn (B + 544 + 38) j = if j = d + 1 then 0 else Gs (B + 544 + 38) j := fun j => by rw [en, gs_ne (by omega), gs_eq, fu_at, gs_ne (by omega)]
      have n3 : ∀ j, Gn (B + 544 + 60) j = if j = d + 1 then -1 else Gs (B + 544 + 60) j := fun j => by rw [en, gs_eq, fu_at, gs_ne (by omega), gs_ne (by omega)]
      have cn : CHL Gs Gn B (d + 1) s (q - lev q) := ⟨fun x z1 z2 => o2 x (by omega) (by omega) (by omega), fun j z => ⟨by rw [n1, if_neg (by omega)], by rw [n2, if_neg (by omega)]⟩, fun j z => by rw [n3, if_neg (by omega)], fun j z => by rw [o2 _ (by omega) (by omega) (by omega), o2 _ (by omega) (by omega) (by omega)]; exact ⟨rfl, rfl⟩, fun j z => by rw [o2 _ (by omega) (by omega) (by omega)]⟩
      have csn : CHL G Gn B d s (q - 1 - lev p) := CHL_tr cs cn (by omega) (by omega)
      have fd : Gn (B + 544 + 60) (d + 1 - 1) = fi := by rw [show d + 1 - 1 = d by omega, n3, if_neg (by omega), o1 _ (by omega)]; exact hfi
      obtain ⟨Gp, w1, w2, w3, w4, w5⟩ := IH q y1 (by omega) l Gn (d + 1) (FWL_CH fw csn) (by rw [n1, if_pos rfl]) (by rw [n2, if_pos rfl]) (by rw [n3, if_pos rfl]) (by rw [o2 _ (by omega) (by omega) (by omega), o1 _ (by omega), gm]; omega) (by omega) (by omega) (fun _ => by rw [fd]; exact fib)
      have csp : CHL G Gp B d s (q - 1 - lev p) := CHL_tr csn w1 (by omega) (by omega)
      obtain ⟨x1, x2⟩ := w1.2.1 d (by omega)
      have w4' := w4 (by omega)
      rw [fd, show d + 1 - 1 = d by omega, show q - lev q = q - 1 - lev p by omega, fiv] at w4'
      have gd : Gp (B + 544 + 60) (d - 1) = G (B + 544 + 60) (d - 1) := by rw [w1.2.2.1 (d - 1) (by omega), n3, if_neg (by omega), o1 _ (by omega)]
      obtain ⟨G', c1, c2, c3, c4, c5, c6⟩ := ih (k + 1) (G0 (a + 2) q) Gp d (by omega) (by omega) qn (FWL_CH fw csp) (by rw [x1, n1, if_neg (by omega), o1 _ (by omega)]; exact gn) (by rw [x2, n2, if_neg (by omega), es, gs_same]) (by rw [if_neg k10]; exact w4') (by rw [w3]; omega) d0 (by omega) (fun z => by rw [gd]; exact fp z)
      refine ⟨G', CHL_tr csp c1 (Int.le_refl _) (by omega), fun x x0 x1 => ?_, c3, c4, fun z => by rw [c5 z, gd], fun K hK => ?_⟩
      · by_cases z : x < G0 (a + 2) q
        · refine PRp_ch (w2 x x0 z) c1 ?_
          by_cases zz : x = q
          · rw [zz]
            omega
          · have a1 := lev_i lv (show 0 ≤ q by omega) (show q < x by omega) z (by omega)
            have a2 := lv.1.2 q x (by omega) (by omega) z (by omega)
            omega
        · exact c2 x (by omega) x1
      · refine q_back (e2 := [.ref (B + 544), .int (zI i), .int (zI s), .int (zI (d + 1))]) (μ2 := st T nx 0 0 R Gn) (fun K Kf hh => hs K Kf (lp_node hM d0 (by omega) (by omega) (by omega) _ ?_)) (w5 K ?_)
        · rw [← en]
          exact hh
        · rw [show d + 1 - 1 = d by omega]
          exact c6 K hK
    · obtain ⟨le1, le2⟩ := kT.2.2.2.2.1 q (by omega) y2 l
      have pv : pc (G0 (a + 1)) (G0 (a + 6)) q = G0 (a + 1) q := by unfold pc; rw [if_neg l]
      rw [pv] at hs
      have gms : Gs (B + 544 + 59) s = q - 1 - lev p := by rw [o1 _ (by omega)]; exact gm
      have gfs : Gs (B + 544 + 60) d = fi := by rw [o1 _ (by omega)]; exact hfi
      obtain ⟨Gf, ef2⟩ : ∃ M, M = gs Gs (B + 544 + 60) d (if fi < 0 then q - 1 - lev p else fi) := ⟨_, rfl⟩
      obtain ⟨Gp, ep⟩ : ∃ M, M = apG Gf B s (q - 1 - lev p) (G0 (a + 1) q) (q - 1 - lev p) := ⟨_, rfl⟩
      have o2 : ∀ z, ¬ z = (B + 544 + 60) → Gf z = Gs z := fun z hz => by rw [ef2, gs_ne hz]
      have o3 : ∀ z, ¬ z = (B + 544 + 57) → ¬ z = (B + 544 + 58) → ¬ z = (B + 544 + 59) → Gp z = Gf z := fun z z1 z2 z3 => by rw [ep, ap_ne z1 z2 z3]
      have g3 : ∀ j, Gp (B + 544 + 60) j = if j = d then p - lev p else G (B + 544 + 60) j := fun j => by
        rw [o3 _ (by omega) (by omega) (by omega), ef2, gs_eq, fu_at, fiv, o1 _ (by omega)]
      have csp : CHL G Gp B d s (q - 1 - lev p) := ⟨fun x z1 z2 => by rw [o3 x (by omega) (by omega) (by omega), o2 x (by omega), cs.1 x z1 z2], fun j z => by rw [o3 _ (by omega) (by omega) (by omega), o3 _ (by omega) (by omega) (by omega), o2 _ (by omega), o2 _ (by omega)]; exact cs.2.1 j z, fun j z => by rw [g3, if_neg (by omega)], fun j z => by rw [ep, ap_L, ap_F, if_neg (by omega), if_neg (by omega), o2 _ (by omega), o2 _ (by omega)]; exact cs.2.2.2.1 j z, fun j z => by rw [ep, ap_M, if_neg z, o2 _ (by omega)]; exact cs.2.2.2.2 j z⟩
      have nbn : nb (G0 (a + 1)) (G0 (a + 2) q).toNat = nb (G0 (a + 1)) q.toNat := by
        have := nbi_s (G0 (a + 1)) (q := q) (by omega)
        rw [if_neg l] at this
        rw [le2]
        omega
      have gd : 1 ≤ d → Gp (B + 544 + 60) (d - 1) = G (B + 544 + 60) (d - 1) := fun z => by rw [g3, if_neg (by omega)]
      obtain ⟨G', c1, c2, c3, c4, c5, c6⟩ := ih (k + 1) (G0 (a + 2) q) Gp d (by omega) (by omega) qn (FWL_CH fw csp) (by rw [o3 _ (by omega) (by omega) (by omega), o2 _ (by omega), o1 _ (by omega)]; exact gn) (by rw [o3 _ (by omega) (by omega) (by omega), o2 _ (by omega), es, gs_same]) (by rw [g3, if_pos rfl, if_neg k10]) (by rw [ep, ap_M, if_pos rfl, le2]; omega) d0 (by omega) (fun z => by rw [gd z]; exact fp z)
      have me : PRp Gp B s v (G0 (a + 1)) (G0 (a + 2)) lev q := by
        unfold PRp
        rw [show G0 (a + 2) q - lev q - 1 = q - 1 - lev p by omega, ep, ap_L, ap_F, if_pos rfl, if_pos rfl]
        unfold lbR
        rw [if_neg l]
        exact ⟨rfl, by omega⟩
      refine ⟨G', CHL_tr csp c1 (Int.le_refl _) (by omega), fun x x0 x1 => ?_, c3, c4, fun z => by rw [c5 z, gd z], fun K hK => ?_⟩
      · by_cases z : x < G0 (a + 2) q
        · have zz : x = q := by omega
          rw [zz]
          exact PRp_ch me c1 (by omega)
        · exact c2 x (by omega) x1
      · refine q_back (fun K Kf hh => hs K Kf (lp_leaf hM s0 s1 d0 (by omega) (by omega) (by omega) gms (by omega) (by omega) gfs fib _ ?_)) (c6 K hK)
        rw [← ef2, ← ep]
        exact hh
set_option maxHeartbeats 400000 in
theorem lp_piece {T : Nat → Option q_T} {nx B a : Nat} {R : Nat → Nat → Option Value} {G0 : Nat → Int → Int} {h i v s : Int} {lev : Int → Int} (hM : Ly T R (B + 544) (L12 (B + 544))) (i0 : 0 ≤ i) (i1 : i < 100) (s0 : 0 ≤ s) (s1 : s ≤ 1) (hF : IFm G0 B) (tk : TOK G0 B h i v a) (lv : LEV (G0 a 2) (G0 (a + 2)) (G0 (a + 3)) lev) : ∀ (fuel : Nat) (p : Int), 0 ≤ p → p < G0 a 2 → 1000 ≤ G0 (a + 1) p → G0 (a + 2) p - p ≤ fuel → WPL T nx R G0 B a i v s lev p := by
  have kT := tk.2.2.2.1
  intro fuel
  induction fuel with
  | zero =>
    intro p p0 p1 hn hf
    have := kT.2.1 p p0 p1
    omega
  | succ fuel ih =>
    intro p p0 p1 hn hf G d fw gn gs' gf gm d0 db fp
    obtain ⟨f', N', ef', f0, f1, eN', N1, N5, ⟨r0, r1⟩, hf', hN, hC, hg, hns, hend, hch⟩ := nodeF hF tk p0 p1 hn
    have nsb := nsl_b (fun k => G0 (tvA B v + 4) (5 * f' + k)) N'.toNat
    have nbn : nb (G0 (a + 1)) (p + 1).toNat = nb (G0 (a + 1)) p.toNat + 1 := by
      have := nbi_s (G0 (a + 1)) (q := p) p0
      rw [if_pos hn] at this
      exact this
    have IH : ∀ q, p < q → q < G0 (a + 2) p → 1000 ≤ G0 (a + 1) q → WPL T nx R G0 B a i v s lev q := fun q z1 z2 z3 => by
      have bp := kT.2.1 p p0 p1
      have ne := (Tr_nest kT p0 (Int.le_of_lt z1) z2 (by omega)).1
      exact ih q (by omega) (by omega) z3 (by omega)
    obtain ⟨G', b1, b2, b3, b4, b5, b6⟩ := lp_slots (nx := nx) hM i0 i1 s0 s1 hF tk lv p0 p1 hn ef' IH (G0 (tvA B v + 5) f').toNat 0 (p + 1) G d (Int.le_refl _) (by omega) rfl fw gn gs' (by rw [if_pos rfl]; exact gf) (by rw [gm]; omega) d0 (by rw [nbn]; omega) fp
    rw [show p + 1 - 1 - lev p = p - lev p by omega] at b1
    refine ⟨G', b1, fun q q0 q1 => ?_, b4, b5, b6⟩
    by_cases z : q = p
    · rw [z]
      exact b3
    · exact b2 q (by omega) q1
set_option maxHeartbeats 400000 in
/-- the call -/
theorem c12_linePieces {T : Nat → Option q_T} {nx B a : Nat} {R : Nat → Nat → Option Value} {G0 G : Nat → Int → Int} {h i v s : Int} {lev : Int → Int} (hM : Ly T R (B + 544) (L12 (B + 544))) (i0 : 0 ≤ i) (i1 : i < 100) (s0 : 0 ≤ s) (s1 : s ≤ 1) (hF : IFm G0 B) (tk : TOK G0 B h i v a) (N1 : 1 ≤ G0 a 3) (lv : LEV (G0 a 2) (G0 (a + 2)) (G0 (a + 3)) lev) (fw : FWL G0 G B) :
    ∃ G' : Nat → Int → Int, CHL G G' B 0 s 0 ∧ (∀ q, 0 ≤ q → q < G0 a 2 → PRp G' B s v (G0 (a + 1)) (G0 (a + 2)) lev q) ∧ G' (B + 544 + 59) s = G0 a 2 ∧ ∀ K : Option Value → q_M → Prop, fX12_linePieces [.ref (B + 544), .int (zI i), .int (zI s)] (st T nx 0 0 R G) K = K none (st T nx 0 0 R G') := by
  have tb := TOK_b tk
  have kT := tk.2.2.2.1
  have rt := Tr_root kT N1
  have n0 := lv.2.1
  obtain ⟨G1, e1⟩ : ∃ M, M = gs (gs (gs (gs G (B + 544 + 59) s 0) (B + 544 + 36) 0 0) (B + 544 + 38) 0 0) (B + 544 + 60) 0 (-1) := ⟨_, rfl⟩
  have c0 : CHL G G1 B 0 s 0 := ⟨fun x z1 z2 => by rw [e1, gs_ne (by omega), gs_ne (by omega), gs_ne (by omega), gs_ne (by omega)], fun j z => ⟨by rw [e1, gs_ne (by omega), gs_ne (by omega), gs_eq, fu_ne (by omega), gs_ne (by omega)], by rw [e1, gs_ne (by omega), gs_eq, fu_ne (by omega), gs_ne (by omega), gs_ne (by omega)]⟩, fun j z => by rw [e1, gs_eq, fu_ne (by omega), gs_ne (by omega), gs_ne (by omega), gs_ne (by omega)], fun j z => by rw [e1, gs_ne (by omega), gs_ne (by omega), gs_ne (by omega), gs_ne (by omega), gs_ne (by omega), gs_ne (by omega), gs_ne (by omega), gs_ne (by omega)]; exact ⟨rfl, rfl⟩, fun j z => by rw [e1, gs_ne (by omega), gs_ne (by omega), gs_ne (by omega), gs_eq, fu_ne z]⟩
  have r0 : G0 (a + 6) 0 = 0 := (Tr_n kT (Int.le_refl _) n0.1 rt).1
  have nbl := nb_b (G0 (a + 1)) (G0 (a + 2) 0).toNat
  have nbN : nb (G0 (a + 1)) (G0 (a + 2) 0).toNat = G0 a 3 := by
    rw [n0.2.1]
    exact kT.2.2.2.2.2.1.symm
  have nb0 : nb (G0 (a + 1)) (0 : Int).toNat = 0 := rfl
  obtain ⟨G', b1, b2, b3, b4, b5⟩ := lp_piece (T := T) (nx := nx) (R := R) hM i0 i1 s0 s1 hF tk lv (G0 a 2).toNat 0 (Int.le_refl _) n0.1 rt (by rw [n0.2.1]; omega) G1 0 (FWL_CH fw c0) (by rw [r0, e1, gs_ne (by omega), gs_ne (by omega), gs_same]) (by rw [e1, gs_ne (by omega), gs_same]) (by rw [e1, gs_same]) (by rw [n0.2.2, e1, gs_ne (by omega), gs_ne (by omega), gs_ne (by omega), gs_same]; omega) (Int.le_refl _) (by rw [nbN, nb0]; omega) (fun z => by omega)
  rw [n0.2.1] at b2 b3
  rw [n0.2.2] at b1 b3
  refine ⟨G', CHL_tr c0 b1 (Int.le_refl _) (by omega), b2, by rw [b3]; omega, fun K => ?_⟩
  have lw : ∀ (Kn : List Value → q_M → Prop) (Kr : Option Value → q_M → Prop), wX12_linePieces_0 [.ref (B + 544), .int (zI i), .int (zI s), .int (zI 0)] (st T nx 0 0 R G1) Kn Kr = Kn [.ref (B + 544), .int (zI i), .int (zI s), .int (zI (-1))] (st T nx 0 0 R G') := eX12_linePieces_0.eqn (b5 _ (q_outR (fun Kt Kf hk => by
    have g : ¬ (0 : Int) ≤ -1 := by omega
    rw [show (0 : Int) - 1 = -1 by omega]
    clear b1 b2 b3 b4 b5 c0 e1 lv tk fw hF kT
    simp (disch := omega) only [↓wcX12_linePieces_0.eq_1, ↓k_mk, ↓k_sq, ↓k_sk, ↓k_bk, ↓k_if, ↓k_te, ↓k_cm, ↓k_cz, ↓k_an2, ↓k_or2, ↓k_no, ↓k_ci, ↓k_l0, ↓k_r0, ↓k_se0, ↓k_ic0, ↓k_l1, ↓k_r1, ↓k_se1, ↓k_ic1, ↓k_de1, ↓k_tk1, ↓k_l2, ↓k_r2, ↓k_se2, ↓k_ic2, ↓k_de2, ↓k_tk2, ↓k_l3, ↓k_r3, ↓k_se3, ↓k_ic3, ↓k_de3, ↓k_tk3, ↓k_l4, ↓k_r4, ↓k_se4, ↓k_ic4, ↓k_de4, ↓k_tk4, ↓k_l5, ↓k_r5, ↓k_se5, ↓k_ic5, ↓k_de5, ↓k_tk5, ↓k_l6, ↓k_r6, ↓k_se6, ↓k_ic6, ↓k_de6, ↓k_tk6, ↓k_l7, ↓k_r7, ↓k_se7, ↓k_ic7, ↓k_de7, ↓k_tk7, ↓k_l8, ↓k_r8, ↓k_se8, ↓k_ic8, ↓k_de8, ↓k_tk8, ↓k_l9, ↓k_r9, ↓k_se9, ↓k_ic9, ↓k_de9, ↓k_tk9, ↓k_l10, ↓k_r10, ↓k_se10, ↓k_ic10, ↓k_de10, ↓k_tk10, ↓k_l11, ↓k_r11, ↓k_se11, ↓k_ic11, ↓k_de11, ↓k_tk11, ↓k_l12, ↓k_r12, ↓k_se12, ↓k_ic12, ↓k_de12, ↓k_tk12, ↓k_l13, ↓k_r13, ↓k_se13, ↓k_ic13, ↓k_de13, ↓k_tk13, ↓k_l14, ↓k_r14, ↓k_se14, ↓k_ic14, ↓k_de14, ↓k_tk14, ↓k_l15, ↓k_r15, ↓k_se15, ↓k_ic15, ↓k_de15, ↓k_tk15, ↓k_l16, ↓k_r16, ↓k_se16, ↓k_ic16, ↓k_de16, ↓k_tk16, ↓k_l17, ↓k_r17, ↓k_se17, ↓k_ic17, ↓k_de17, ↓k_tk17, ↓k_l18, ↓k_r18, ↓k_se18, ↓k_ic18, ↓k_de18, ↓k_tk18, ↓k_l19, ↓k_r19, ↓k_se19, ↓k_ic19, ↓k_de19, ↓k_tk19, ↓k_l20, ↓k_r20, ↓k_se20, ↓k_ic20, ↓k_de20, ↓k_tk20, ↓k_l21, ↓k_r21, ↓k_se21, ↓k_ic21, ↓k_de21, ↓k_tk21, ↓k_l22, ↓k_r22, ↓k_se22, ↓k_ic22, ↓k_de22, ↓k_tk22, ↓k_l23, ↓k_r23, ↓k_se23, ↓k_ic23, ↓k_de23, ↓k_tk23, ↓k_l24, ↓k_r24, ↓k_se24, ↓k_ic24, ↓k_de24, ↓k_tk24, ↓k_l25, ↓k_r25, ↓k_se25, ↓k_ic25, ↓k_de25, ↓k_tk25, ↓k_k, ↓k_kn, ↓k_kl, ↓k_kln, ↓k_il, ↓k_2, ↓k_1, ↓k_2c, ↓k_2l, ↓k_ac, ↓k_an, ↓k_cs, ↓k_cv, ↓k_fi, ↓k_fr, ↓k_ai, ↓k_az, ↓k_ar, ↓k_sai, ↓k_saz, ↓k_soa, ↓k_sof, ↓k_spf, ↓k_sx, ↓k_blk, ↓k_sset, ↓k_sdec, ↓k_sri, ↓k_srv, ↓k_srr, ↓k_nop, ↓k_add, ↓k_sub, ↓k_mul, ↓k_min, ↓k_max, ↓k_shr, ↓k_shl, ↓k_or, ↓k_ilz, ↓k_addl, ↓k_rt, ↓k_rb, ↓k_rbz, ↓k_rsi, ↓k_rsr, ↓k_rsv, ↓reduceIte, g, List.length_cons, List.length_nil, List.forall_mem_cons, List.not_mem_nil, Value.category, true_and, and_true, false_and, and_false, or_true, true_or, or_false, false_or, Nat.zero_le, forall_const, implies_true, false_implies, Nat.zero_add, Nat.reduceAdd, Nat.reduceLT, Nat.reduceLeDiff, Nat.le_refl, not_true_eq_false, not_false_eq_true, r_eq, r_ne, r_lt, r_ge, r_gt, r_le, bz_ne, nn_toNat, cn_of, cn_0, cn_1, i10, Int.reduceLE, Int.reduceLT, Int.reduceEq, bz_T, bz_F, ite_self, mulc, st_bud]
    exact hk) ⟨rfl, rfl⟩))
  rw [e1] at lw
  clear b1 b2 b3 b4 b5 c0 e1 lv tk fw hF kT nbl nbN nb0 r0 n0 rt tb
  simp (disch := omega) only [↓fX12_linePieces.eq_1, ↓uX12_linePieces, ↓k_mk, ↓k_sq, ↓k_sk, ↓k_bk, ↓k_if, ↓k_te, ↓k_cm, ↓k_cz, ↓k_an2, ↓k_or2, ↓k_no, ↓k_ci, ↓k_l0, ↓k_r0, ↓k_se0, ↓k_ic0, ↓k_l1, ↓k_r1, ↓k_se1, ↓k_ic1, ↓k_de1, ↓k_tk1, ↓k_l2, ↓k_r2, ↓k_se2, ↓k_ic2, ↓k_de2, ↓k_tk2, ↓k_l3, ↓k_r3, ↓k_se3, ↓k_ic3, ↓k_de3, ↓k_tk3, ↓k_l4, ↓k_r4, ↓k_se4, ↓k_ic4, ↓k_de4, ↓k_tk4, ↓k_l5, ↓k_r5, ↓k_se5, ↓k_ic5, ↓k_de5, ↓k_tk5, ↓k_l6, ↓k_r6, ↓k_se6, ↓k_ic6, ↓k_de6, ↓k_tk6, ↓k_l7, ↓k_r7, ↓k_se7, ↓k_ic7, ↓k_de7, ↓k_tk7, ↓k_l8, ↓k_r8, ↓k_se8, ↓k_ic8, ↓k_de8, ↓k_tk8, ↓k_l9, ↓k_r9, ↓k_se9, ↓k_ic9, ↓k_de9, ↓k_tk9, ↓k_l10, ↓k_r10, ↓k_se10, ↓k_ic10, ↓k_de10, ↓k_tk10, ↓k_l11, ↓k_r11, ↓k_se11, ↓k_ic11, ↓k_de11, ↓k_tk11, ↓k_l12, ↓k_r12, ↓k_se12, ↓k_ic12, ↓k_de12, ↓k_tk12, ↓k_l13, ↓k_r13, ↓k_se13, ↓k_ic13, ↓k_de13, ↓k_tk13, ↓k_l14, ↓k_r14, ↓k_se14, ↓k_ic14, ↓k_de14, ↓k_tk14, ↓k_l15, ↓k_r15, ↓k_se15, ↓k_ic15, ↓k_de15, ↓k_tk15, ↓k_l16, ↓k_r16, ↓k_se16, ↓k_ic16, ↓k_de16, ↓k_tk16, ↓k_l17, ↓k_r17, ↓k_se17, ↓k_ic17, ↓k_de17, ↓k_tk17, ↓k_l18, ↓k_r18, ↓k_se18, ↓k_ic18, ↓k_de18, ↓k_tk18, ↓k_l19, ↓k_r19, ↓k_se19, ↓k_ic19, ↓k_de19, ↓k_tk19, ↓k_l20, ↓k_r20, ↓k_se20, ↓k_ic20, ↓k_de20, ↓k_tk20, ↓k_l21, ↓k_r21, ↓k_se21, ↓k_ic21, ↓k_de21, ↓k_tk21, ↓k_l22, ↓k_r22, ↓k_se22, ↓k_ic22, ↓k_de22, ↓k_tk22, ↓k_l23, ↓k_r23, ↓k_se23, ↓k_ic23, ↓k_de23, ↓k_tk23, ↓k_l24, ↓k_r24, ↓k_se24, ↓k_ic24, ↓k_de24, ↓k_tk24, ↓k_l25, ↓k_r25, ↓k_se25, ↓k_ic25, ↓k_de25, ↓k_tk25, ↓k_k, ↓k_kn, ↓k_kl, ↓k_kln, ↓k_il, ↓k_2, ↓k_1, ↓k_2c, ↓k_2l, ↓k_ac, ↓k_an, ↓k_cs, ↓k_cv, ↓k_fi, ↓k_fr, ↓k_ai, ↓k_az, ↓k_ar, ↓k_sai, ↓k_saz, ↓k_soa, ↓k_sof, ↓k_spf, ↓k_sx, ↓k_blk, ↓k_sset, ↓k_sdec, ↓k_sri, ↓k_srv, ↓k_srr, ↓k_nop, ↓k_add, ↓k_sub, ↓k_mul, ↓k_min, ↓k_max, ↓k_shr, ↓k_shl, ↓k_or, ↓k_ilz, ↓k_addl, ↓k_rt, ↓k_rb, ↓k_rbz, ↓k_rsi, ↓k_rsr, ↓k_rsv, ↓reduceIte, ↓lw, ↓xr12_43 hM, ↓xa12_43 hM, ↓xs12_43 hM, ↓xo12_43 hM, ↓xc12_43 hM, ↓xd12_43 hM, ↓xr12_45 hM, ↓xa12_45 hM, ↓xs12_45 hM, ↓xo12_45 hM, ↓xc12_45 hM, ↓xd12_45 hM, ↓xr12_73 hM, ↓xa12_73 hM, ↓xs12_73 hM, ↓xo12_73 hM, ↓xc12_73 hM, ↓xd12_73 hM, ↓xr12_74 hM, ↓xa12_74 hM, ↓xs12_74 hM, ↓xo12_74 hM, ↓xc12_74 hM, ↓xd12_74 hM, List.length_cons, List.length_nil, List.forall_mem_cons, List.not_mem_nil, Value.category, true_and, and_true, false_and, and_false, or_true, true_or, or_false, false_or, Nat.zero_le, forall_const, implies_true, false_implies, Nat.zero_add, Nat.reduceAdd, Nat.reduceLT, Nat.reduceLeDiff, Nat.le_refl, not_true_eq_false, not_false_eq_true, r_eq, r_ne, r_lt, r_ge, r_gt, r_le, bz_ne, nn_toNat, cn_of, cn_0, cn_1, i10, Int.reduceLE, Int.reduceLT, Int.reduceEq, bz_T, bz_F, ite_self, mulc, st_bud]
end
