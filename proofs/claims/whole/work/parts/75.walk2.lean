section
/-! the reference walks a whole tree -/
def FWB (G0 G : Nat → Int → Int) (B : Nat) : Prop := ∀ x, B + 544 ≤ x → ¬ (B + 574 ≤ x ∧ x ≤ B + 582) → ¬ x = B + 544 → G x = G0 x
theorem FWB_CH {G0 G G' : Nat → Int → Int} {B : Nat} {d m lm : Int} (h : FWB G0 G B) (k : CH G G' B d m lm) : FWB G0 G' B := fun x z0 z1 z2 => by rw [k.1 x z1 z2, h x z0 z1 z2]
def LV (G0 G : Nat → Int → Int) (B a : Nat) (x y : Int) : Prop := ∀ j, x ≤ j → j < y → G (B + 544 + 33) j = G0 (a + 1) (G0 (a + 8) j) ∧ G (B + 544 + 34) j = G0 (a + 6) (G0 (a + 3) (G0 (a + 8) j)) ∧ G (B + 544 + 35) j = G0 (a + 4) (G0 (a + 8) j)
/-- what is known of the node at p -/
theorem nodeF {G0 : Nat → Int → Int} {B a : Nat} {h i v p : Int} (hF : IFm G0 B) (tk : TOK G0 B h i v a) (p0 : 0 ≤ p) (p1 : p < G0 a 2) (hn : 1000 ≤ G0 (a + 1) p) :
    ∃ f N : Int, f = G0 (a + 1) p - 1000 ∧ 0 ≤ f ∧ f < 14 ∧ N = G0 (tvA B v + 3) f ∧ 1 ≤ N ∧ N ≤ 5 ∧ (0 ≤ G0 (a + 6) p ∧ G0 (a + 6) p < 40) ∧ G0 (B + 544 + 19) (40 * i + G0 (a + 6) p) = f ∧ G0 (B + 544 + 4) (14 * v + f) = N ∧ (∀ k, 0 ≤ k → k < N → G0 (B + 544 + 5) (5 * (14 * v + f) + k) = G0 (tvA B v + 4) (5 * f + k) ∧ 0 ≤ G0 (tvA B v + 4) (5 * f + k) ∧ G0 (tvA B v + 4) (5 * f + k) ≤ 65) ∧ (∀ k, 0 ≤ k → k < N → G0 (B + 544 + 6) (5 * (14 * v + f) + k) = G0 (tvA B v + 7) (5 * f + k)) ∧
      G0 (tvA B v + 5) f = nsl (fun k => G0 (tvA B v + 4) (5 * f + k)) N.toNat ∧ chI (G0 (a + 2)) p (G0 (tvA B v + 5) f).toNat = G0 (a + 2) p ∧ ∀ k : Nat, (k : Int) < G0 (tvA B v + 5) f → (p < chI (G0 (a + 2)) p k ∧ chI (G0 (a + 2)) p k < G0 a 2 ∧ G0 (a + 3) (chI (G0 (a + 2)) p k) = p ∧ G0 (a + 4) (chI (G0 (a + 2)) p k) = k) ∧ G0 (B + 544 + 21) (5 * (40 * i + G0 (a + 6) p) + k) = pc (G0 (a + 1)) (G0 (a + 6)) (chI (G0 (a + 2)) p k) := by
  have tb := TOK_b tk
  obtain ⟨k1, k2, kv, kT, kR⟩ := tk
  obtain ⟨n1, n2, n3⟩ := kT.2.2.2.1 p p0 p1 hn
  have hF14 := (hF v kv.1 kv.2).2.2.1
  obtain ⟨x1, x2, x3, x4⟩ := Tr_n kT p0 p1 hn
  have N4 := kT.1.2.2.2.1
  obtain ⟨so, ⟨⟨m1, m2, m3⟩, it, iu, i1⟩, ⟨sl1, sl2⟩, ⟨ga, gl⟩, _⟩ := (hF v kv.1 kv.2).2.2.2 (G0 (a + 1) p - 1000) (by omega) n1
  obtain ⟨r1, _, r3⟩ := kR.2.2 (G0 (a + 6) p) (by omega) (by omega)
  have na : G0 (a + 7) (G0 (a + 6) p) = p := by rw [x1]; exact x2
  rw [na] at r1 r3
  have n1' : G0 (a + 1) p - 1000 < G0 (B + 370 + 14 * v.toNat) 1 := n1
  refine ⟨G0 (a + 1) p - 1000, G0 (tvA B v + 3) (G0 (a + 1) p - 1000), rfl, by omega, by omega, rfl, m2, m3, by omega, r1, m1, fun k k0 k1 => ?_, fun k k0 k1 => (ga k k0 k1).1, sl1, n2, fun k hk => ?_⟩
  · obtain ⟨z1, z2⟩ := it k k0 k1
    unfold isIt at z2
    exact ⟨z1, by unfold tvA; omega, by unfold tvA; omega⟩
  · obtain ⟨y1, y2, y3, y4, _⟩ := n3 k hk
    exact ⟨⟨y1, y2, y3, y4⟩, r3 k hk⟩
def WP (T : Nat → Option q_T) (nx rc rs : Nat) (R : Nat → Nat → Option Value) (G0 : Nat → Int → Int) (B a : Nat) (i v : Int) (fuel : Nat) (p : Int) : Prop := ∀ (G : Nat → Int → Int) (d ah hw m : Int), FWB G0 G B → G (B + 544 + 36) d = G0 (a + 6) p → G (B + 544 + 37) d = 0 → G (B + 544 + 38) d = 0 → G (B + 544) 35 = m → G (B + 544) 39 = lv (G0 (a + 1)) p → 0 ≤ m → m + 5 * (nb (G0 (a + 1)) (G0 (a + 2) p).toNat - nb (G0 (a + 1)) p.toNat) ≤ 220 → 0 ≤ d → d + (nb (G0 (a + 1)) (G0 (a + 2) p).toNat - nb (G0 (a + 1)) p.toNat) ≤ 40 →
  ∃ (G' : Nat → Int → Int) (a' h' : Int), CH G G' B d m (lv (G0 (a + 1)) p) ∧ Wl (G' (B + 544 + 30)) (G' (B + 544 + 31)) (G' (B + 544 + 32)) m (spl (G0 (tvA B v + 3)) (G0 (tvA B v + 4)) (G0 (tvA B v + 7)) (G0 (a + 1)) (G0 (a + 2)) (G0 (a + 6)) fuel p ah hw) ∧ G' (B + 544) 35 = m + (spl (G0 (tvA B v + 3)) (G0 (tvA B v + 4)) (G0 (tvA B v + 7)) (G0 (a + 1)) (G0 (a + 2)) (G0 (a + 6)) fuel p ah hw).length ∧ ((spl (G0 (tvA B v + 3)) (G0 (tvA B v + 4)) (G0 (tvA B v + 7)) (G0 (a + 1)) (G0 (a + 2)) (G0 (a + 6)) fuel p ah hw).length : Int) ≤ 5 * (nb (G0 (a + 1)) (G0 (a + 2) p).toNat - nb (G0 (a + 1)) p.toNat) ∧ G' (B + 544) 39 = lv (G0 (a + 1)) (G0 (a + 2) p) ∧ LV G0 G' B a (lv (G0 (a + 1)) p) (lv (G0 (a + 1)) (G0 (a + 2) p)) ∧ ∀ K : List Value → q_M → Prop, wX12_walk_0 [.ref (B + 544), .int (zI i), .int (zI (d + -1)), .int (zI a'), .int (zI h')] (st T nx rc rs R G') K (fun _ _ => False) → wX12_walk_0 [.ref (B + 544), .int (zI i), .int (zI d), .int (zI ah), .int (zI hw)] (st T nx rc rs R G) K (fun _ _ => False)
theorem walk_items {T : Nat → Option q_T} {nx rc rs B a : Nat} {R : Nat → Nat → Option Value} {G0 : Nat → Int → Int} {h i v p f N : Int} {fuel : Nat} (hM : Ly T R (B + 544) (L12 (B + 544))) (i0 : 0 ≤ i) (i1 : i < 100) (hF : IFm G0 B) (tk : TOK G0 B h i v a) (p0 : 0 ≤ p) (p1 : p < G0 a 2) (hn : 1000 ≤ G0 (a + 1) p) (ef : f = G0 (a + 1) p - 1000) (eN : N = G0 (tvA B v + 3) f) (fu1 : G0 (a + 2) p - p ≤ fuel + 1) (IH : ∀ q, p < q → q < G0 (a + 2) p → 1000 ≤ G0 (a + 1) q → WP T nx rc rs R G0 B a i v fuel q) :
    ∀ (mm : Nat) (k q : Int) (G : Nat → Int → Int) (d ah hw A Hh m : Int), 0 ≤ k → k + mm = N → q = chI (G0 (a + 2)) p (nsl (fun k => G0 (tvA B v + 4) (5 * f + k)) k.toNat).toNat → FWB G0 G B → G (B + 544 + 36) d = G0 (a + 6) p → G (B + 544 + 37) d = k → G (B + 544 + 38) d = nsl (fun k => G0 (tvA B v + 4) (5 * f + k)) k.toNat → ((k = 0 ∧ A = ah ∧ Hh = hw) ∨ (0 < k ∧ A = G0 (a + 6) p ∧ Hh = G0 (tvA B v + 7) (5 * f + (k - 1)))) → G (B + 544) 35 = m → G (B + 544) 39 = lv (G0 (a + 1)) q → 0 ≤ m → m + mm + 5 * (nb (G0 (a + 1)) (G0 (a + 2) p).toNat - nb (G0 (a + 1)) q.toNat) ≤ 220 → 0 ≤ d → d + 1 + (nb (G0 (a + 1)) (G0 (a + 2) p).toNat - nb (G0 (a + 1)) q.toNat) ≤ 40 →
    ∃ (G' : Nat → Int → Int) (a' h' : Int), CH G G' B d m (lv (G0 (a + 1)) q) ∧ Wl (G' (B + 544 + 30)) (G' (B + 544 + 31)) (G' (B + 544 + 32)) m (spi (spl (G0 (tvA B v + 3)) (G0 (tvA B v + 4)) (G0 (tvA B v + 7)) (G0 (a + 1)) (G0 (a + 2)) (G0 (a + 6)) fuel) (G0 (tvA B v + 4)) (G0 (tvA B v + 7)) (G0 (a + 2)) f (G0 (a + 6) p) mm k q A Hh) ∧ G' (B + 544) 35 = m + (spi (spl (G0 (tvA B v + 3)) (G0 (tvA B v + 4)) (G0 (tvA B v + 7)) (G0 (a + 1)) (G0 (a + 2)) (G0 (a + 6)) fuel) (G0 (tvA B v + 4)) (G0 (tvA B v + 7)) (G0 (a + 2)) f (G0 (a + 6) p) mm k q A Hh).length ∧ ((spi (spl (G0 (tvA B v + 3)) (G0 (tvA B v + 4)) (G0 (tvA B v + 7)) (G0 (a + 1)) (G0 (a + 2)) (G0 (a + 6)) fuel) (G0 (tvA B v + 4)) (G0 (tvA B v + 7)) (G0 (a + 2)) f (G0 (a + 6) p) mm k q A Hh).length : Int) ≤ mm + 5 * (nb (G0 (a + 1)) (G0 (a + 2) p).toNat - nb (G0 (a + 1)) q.toNat) ∧ G' (B + 544) 39 = lv (G0 (a + 1)) (G0 (a + 2) p) ∧ LV G0 G' B a (lv (G0 (a + 1)) q) (lv (G0 (a + 1)) (G0 (a + 2) p)) ∧ ∀ K : List Value → q_M → Prop, wX12_walk_0 [.ref (B + 544), .int (zI i), .int (zI (d + -1)), .int (zI a'), .int (zI h')] (st T nx rc rs R G') K (fun _ _ => False) → wX12_walk_0 [.ref (B + 544), .int (zI i), .int (zI d), .int (zI ah), .int (zI hw)] (st T nx rc rs R G) K (fun _ _ => False) := by
  obtain ⟨f', N', ef', f0, f1, eN', N1, N5, ⟨r0, r1⟩, hf, hN, hC, hg, hns, hend, hch⟩ := nodeF hF tk p0 p1 hn
  have e1 : f' = f := by rw [ef', ef]
  subst e1
  have e2 : N' = N := by rw [eN', eN]
  subst e2
  have tb := TOK_b tk
  have kT := tk.2.2.2.1
  have kv := tk.2.2.1
  have n201 := kT.1.2.1
  have ns5 := nsl_b (fun k => G0 (tvA B v + 4) (5 * f' + k)) N'.toNat
  intro mm
  induction mm with
  | zero =>
    intro k q G d ah hw A Hh m k0 km hq fb gn gi gs' hA hm hl m0 mb d0 db
    have ek : k = N' := by omega
    subst ek
    have eq : q = G0 (a + 2) p := by rw [hq, ← hns]; exact hend
    rw [eq] at hl db mb ⊢
    refine ⟨G, ah, hw, CH_rfl _ _ _ _ _, Wl_nil, by rw [hm]; show m = m + ((0 : Nat) : Int); omega, by show ((0 : Nat) : Int) ≤ _; omega, hl, fun j z1 z2 => absurd z1 (by omega), fun K hK => ?_⟩
    have tl : G (B + 544 + 16) i = v := by rw [fb _ (by omega) (by omega) (by omega)]; exact tb.2.1
    exact q_back (fun K Kf hh => it_end (n := G0 (a + 6) p) (v := v) (f := f') (k := k) (N := k) hM i0 i1 d0 (by omega) gn r0 r1 tl kv.1 kv.2 (by rw [fb _ (by omega) (by omega) (by omega)]; exact hf) f0 f1 gi (by omega) (by rw [fb _ (by omega) (by omega) (by omega)]; exact hN) N5 rfl K Kf hh) hK
  | succ mm ih =>
    intro k q G d ah hw A Hh m k0 km hq fb gn gi gs' hA hm hl m0 mb d0 db
    have tl : G (B + 544 + 16) i = v := by rw [fb _ (by omega) (by omega) (by omega)]; exact tb.2.1
    have fm : G (B + 544 + 19) (40 * i + G0 (a + 6) p) = f' := by rw [fb _ (by omega) (by omega) (by omega)]; exact hf
    have im : G (B + 544 + 4) (14 * v + f') = N' := by rw [fb _ (by omega) (by omega) (by omega)]; exact hN
    obtain ⟨c1, c2, c3⟩ := hC k k0 (by omega)
    have it : G (B + 544 + 5) (5 * (14 * v + f') + k) = G0 (tvA B v + 4) (5 * f' + k) := by rw [fb _ (by omega) (by omega) (by omega)]; exact c1
    have hA' : (k = 0 ∧ A = ah ∧ Hh = hw) ∨ (0 < k ∧ A = G0 (a + 6) p ∧ Hh = G (B + 544 + 6) (5 * (14 * v + f') + k - 1)) := by
      rcases hA with h1 | ⟨h1, h2, h3⟩
      · exact Or.inl h1
      · refine Or.inr ⟨h1, h2, ?_⟩
        rw [fb _ (by omega) (by omega) (by omega), show 5 * (14 * v + f') + k - 1 = 5 * (14 * v + f') + (k - 1) by omega, hg (k - 1) (by omega) (by omega)]
        exact h3
    have kk : (k.toNat : Int) = k := by omega
    have kt : (k + 1).toNat = k.toNat + 1 := by omega
    have gnx : G0 (tvA B v + 7) (5 * f' + k) = G0 (tvA B v + 7) (5 * f' + (k + 1 - 1)) := by rw [show k + 1 - 1 = k by omega]
    have slb0 := nsl_b (fun k => G0 (tvA B v + 4) (5 * f' + k)) k.toNat
    have slm0 := nsl_mono (fun k => G0 (tvA B v + 4) (5 * f' + k)) (m := k.toNat) (n := N'.toNat) (by omega)
    have qe : q ≤ G0 (a + 2) p := by
      rw [hq, ← hend]
      exact Tr_ch kT p0 p1 hn (G0 (tvA B v + 5) f').toNat _ (by rw [hns]; omega) (by rw [← ef']; exact Nat.le_refl _)
    have nbqe := nbi_mono (G0 (a + 1)) qe
    by_cases w : 0 ≤ G0 (tvA B v + 4) (5 * f' + k) ∧ G0 (tvA B v + 4) (5 * f' + k) ≤ 11
    · have esl : nsl (fun k => G0 (tvA B v + 4) (5 * f' + k)) (k + 1).toNat = nsl (fun k => G0 (tvA B v + 4) (5 * f' + k)) k.toNat := by
        rw [kt]
        exact nsl_w _ (by rw [kk]; exact w)
      obtain ⟨G1, h1, h2, h3, h4, h5, h6, h7, h8, h9, h10⟩ := it_word (nx := nx) (rc := rc) (rs := rs) (R := R) (T := T) (ah := ah) (hw := hw) hM i0 i1 d0 (by omega) gn r0 r1 tl kv.1 kv.2 fm f0 f1 gi k0 im N5 (by omega) it w hA' hm m0 (by omega)
      obtain ⟨G', a', h', b1, b2, b3, b4, b5, b6, b7⟩ := ih (k + 1) q G1 d A Hh (G0 (a + 6) p) (G0 (tvA B v + 7) (5 * f' + k)) (m + 1) (by omega) (by omega) (by rw [esl]; exact hq) (FWB_CH fb h1) h4 h5 (by rw [h6, esl]; exact gs') (Or.inr ⟨by omega, rfl, gnx⟩) h2 (by rw [h3]; exact hl) (by omega) (by omega) d0 db
      have es : spi (spl (G0 (tvA B v + 3)) (G0 (tvA B v + 4)) (G0 (tvA B v + 7)) (G0 (a + 1)) (G0 (a + 2)) (G0 (a + 6)) fuel) (G0 (tvA B v + 4)) (G0 (tvA B v + 7)) (G0 (a + 2)) f' (G0 (a + 6) p) (mm + 1) k q A Hh = (G0 (tvA B v + 4) (5 * f' + k), A, Hh) :: spi (spl (G0 (tvA B v + 3)) (G0 (tvA B v + 4)) (G0 (tvA B v + 7)) (G0 (a + 1)) (G0 (a + 2)) (G0 (a + 6)) fuel) (G0 (tvA B v + 4)) (G0 (tvA B v + 7)) (G0 (a + 2)) f' (G0 (a + 6) p) mm (k + 1) q (G0 (a + 6) p) (G0 (tvA B v + 7) (5 * f' + k)) := by
        rw [spi, if_pos w]
      rw [hl] at h1
      refine ⟨G', a', h', CH_tr h1 b1 (Int.le_refl _) (by omega) (Int.le_refl _), ?_, ?_, ?_, b5, b6, fun K hK => q_back h10 (b7 K hK)⟩
      · rw [es]
        have o := b1.2.2.1 m (by omega)
        exact Wl_app (l := [(G0 (tvA B v + 4) (5 * f' + k), A, Hh)]) (Wl_one (by rw [o.1]; exact h7) (by rw [o.2.1]; exact h8) (by rw [o.2.2]; exact h9)) b2
      · rw [es, List.length_cons, b3]
        omega
      · rw [es, List.length_cons]
        omega
    · have esl : nsl (fun k => G0 (tvA B v + 4) (5 * f' + k)) (k + 1).toNat = nsl (fun k => G0 (tvA B v + 4) (5 * f' + k)) k.toNat + 1 := by
        rw [kt]
        exact nsl_n _ (by rw [kk]; exact w)
      have slb := nsl_b (fun k => G0 (tvA B v + 4) (5 * f' + k)) k.toNat
      have slm := nsl_mono (fun k => G0 (tvA B v + 4) (5 * f' + k)) (m := (k + 1).toNat) (n := N'.toNat) (by omega)
      obtain ⟨sN, hsN⟩ : ∃ sN, sN = nsl (fun k => G0 (tvA B v + 4) (5 * f' + k)) k.toNat := ⟨_, rfl⟩
      rw [← hsN] at hq gs' esl slb
      obtain ⟨⟨y1, y2, y3, y4⟩, y5⟩ := hch sN.toNat (by rw [hns]; omega)
      rw [← hq] at y1 y2 y3 y4 y5
      rw [Int.toNat_of_nonneg slb.1] at y4 y5
      have che := Tr_che kT p0 p1 hn (i := sN.toNat) (by rw [← ef']; show sN.toNat < (G0 (tvA B v + 5) f').toNat; rw [hns]; omega)
      rw [← hq] at che
      have pq : G (B + 544 + 21) (5 * (40 * i + G0 (a + 6) p) + sN) = pc (G0 (a + 1)) (G0 (a + 6)) q := by rw [fb _ (by omega) (by omega) (by omega)]; exact y5
      have qn : G0 (a + 2) q = chI (G0 (a + 2)) p (nsl (fun k => G0 (tvA B v + 4) (5 * f' + k)) (k + 1).toNat).toNat := by
        rw [esl, show (sN + 1).toNat = sN.toNat + 1 by omega, hq]
        rfl
      have lvq := nb_b (G0 (a + 1)) q.toNat
      have nbq := nbi_mono (G0 (a + 1)) (show q ≤ G0 (a + 2) q by omega)
      have nbe := nbi_mono (G0 (a + 1)) che.2
      have es : spi (spl (G0 (tvA B v + 3)) (G0 (tvA B v + 4)) (G0 (tvA B v + 7)) (G0 (a + 1)) (G0 (a + 2)) (G0 (a + 6)) fuel) (G0 (tvA B v + 4)) (G0 (tvA B v + 7)) (G0 (a + 2)) f' (G0 (a + 6) p) (mm + 1) k q A Hh = spl (G0 (tvA B v + 3)) (G0 (tvA B v + 4)) (G0 (tvA B v + 7)) (G0 (a + 1)) (G0 (a + 2)) (G0 (a + 6)) fuel q A Hh ++ spi (spl (G0 (tvA B v + 3)) (G0 (tvA B v + 4)) (G0 (tvA B v + 7)) (G0 (a + 1)) (G0 (a + 2)) (G0 (a + 6)) fuel) (G0 (tvA B v + 4)) (G0 (tvA B v + 7)) (G0 (a + 2)) f' (G0 (a + 6) p) mm (k + 1) (G0 (a + 2) q) (G0 (a + 6) p) (G0 (tvA B v + 7) (5 * f' + k)) := by
        rw [spi, if_neg w]
      by_cases l : 1000 ≤ G0 (a + 1) q
      · have tn := Tr_n kT (by omega) y2 l
        have pv : pc (G0 (a + 1)) (G0 (a + 6)) q = 1000 + G0 (a + 6) q := by unfold pc; rw [if_pos l]
        rw [pv] at pq
        have N4 := kT.1.2.2.2.1
        obtain ⟨G1, h1, h2, h3, h4, h5, h6, h7⟩ := it_slot (nx := nx) (rc := rc) (rs := rs) (R := R) (T := T) (ah := ah) (hw := hw) hM i0 i1 d0 (by omega) gn r0 r1 tl kv.1 kv.2 fm f0 f1 gi k0 im N5 (by omega) it (by omega) hA' gs' slb.1 (by omega) pq hm m0 (by omega) hl (by unfold lv; omega) (by unfold lv; omega)
        obtain ⟨G2, g1, g2, g3, g4, g5, g6, g7⟩ := nd_turn (nx := nx) (rc := rc) (rs := rs) (R := R) (T := T) (G := G1) (i := i) (d := d) (n := G0 (a + 6) p) (v := v) (f := f') (k := k) (s := sN) (pc' := 1000 + G0 (a + 6) q) (a' := A) (h' := Hh) hM h2 h3 d0 (by omega) (by omega) (by omega)
        have o2 := g1.2.2.2.2 d (by omega)
        obtain ⟨G3, a3, h3', p1', p2', p3', p4', p5', p6', p7'⟩ := IH q y1 (by omega) l G2 (d + 1) A Hh m (FWB_CH (FWB_CH fb h1) g1) (by rw [g4]; omega) g5 g6 g2 (by rw [g3]) m0 (by omega) (by omega) (by omega)
        have o3 := p1'.2.2.2.2 d (by omega)
        obtain ⟨G', a', h', b1, b2, b3, b4, b5, b6, b7⟩ := ih (k + 1) (G0 (a + 2) q) G3 d a3 h3' (G0 (a + 6) p) (G0 (tvA B v + 7) (5 * f' + k)) (m + (spl (G0 (tvA B v + 3)) (G0 (tvA B v + 4)) (G0 (tvA B v + 7)) (G0 (a + 1)) (G0 (a + 2)) (G0 (a + 6)) fuel q A Hh).length) (by omega) (by omega) qn (FWB_CH (FWB_CH (FWB_CH fb h1) g1) p1') (by rw [o3.1, o2.1]; exact h4) (by rw [o3.2.1, o2.2.1]; exact h5) (by rw [o3.2.2, o2.2.2, esl]; exact h6) (Or.inr ⟨by omega, rfl, gnx⟩) p3' p5' (by omega) (by omega) d0 (by omega)
        have lve := lv_mono (G0 (a + 1)) (show 0 ≤ q by omega) (show q ≤ G0 (a + 2) q by omega)
        refine ⟨G', a', h', CH_tr (CH_tr (CH_tr h1 g1 (by omega) (Int.le_refl _) (by omega)) p1' (by omega) (Int.le_refl _) (Int.le_refl _)) b1 (Int.le_refl _) (by omega) (by omega), ?_, ?_, ?_, b5, fun j z1 z2 => ?_, fun K hK => ?_⟩
        · rw [es]
          refine Wl_app (Wl_congr (fun j z1 z2 => b1.2.2.1 j z2) p2') b2
        · rw [es, List.length_append, b3]
          omega
        · rw [es, List.length_append]
          omega
        · by_cases x : j < lv (G0 (a + 1)) (G0 (a + 2) q)
          · have o := b1.2.2.2.1 j x
            rw [o.1, o.2.1, o.2.2]
            exact p6' j z1 x
          · exact b6 j (by omega) z2
        · refine q_back (fun K Kf hh => h7 K Kf (g7 _ ?_)) (p7' K ?_)
          · exact hh
          · rw [show d + 1 + -1 = d by omega]
            exact b7 K hK
      · have pv : pc (G0 (a + 1)) (G0 (a + 6)) q = G0 (a + 1) q := by unfold pc; rw [if_neg l]
        rw [pv] at pq
        obtain ⟨le1, le2⟩ := kT.2.2.2.2.1 q (by omega) y2 l
        have tr := (kT.2.2.2.2.2.2.1 q (by omega) y2).2 l
        obtain ⟨G1, h1, h2, h3, h4, h5, h6, h7⟩ := it_slot (nx := nx) (rc := rc) (rs := rs) (R := R) (T := T) (ah := ah) (hw := hw) hM i0 i1 d0 (by omega) gn r0 r1 tl kv.1 kv.2 fm f0 f1 gi k0 im N5 (by omega) it (by omega) hA' gs' slb.1 (by omega) pq hm m0 (by omega) hl (by unfold lv; omega) (by unfold lv; omega)
        obtain ⟨G2, g1, g2, g3, g4, g5, g6, g7, g8, g9, g10, g11⟩ := lf_turn (nx := nx) (rc := rc) (rs := rs) (R := R) (T := T) (G := G1) (i := i) (d := d) (n := G0 (a + 6) p) (v := v) (f := f') (k := k) (s := sN) (pc' := G0 (a + 1) q) (a' := A) (h' := Hh) hM h2 m0 (by omega) h3 (by unfold lv; omega) (by unfold lv; omega) (by omega) (by omega)
        have o2 := g1.2.2.2.2 d (by omega)
        have lvn : lv (G0 (a + 1)) (q + 1) = lv (G0 (a + 1)) q + 1 := by
          have := nbi_s (G0 (a + 1)) (q := q) (by omega)
          rw [if_neg l] at this
          unfold lv
          omega
        have nbn : nb (G0 (a + 1)) (q + 1).toNat = nb (G0 (a + 1)) q.toNat := by
          have := nbi_s (G0 (a + 1)) (q := q) (by omega)
          rw [if_neg l] at this
          omega
        have sp1 : spl (G0 (tvA B v + 3)) (G0 (tvA B v + 4)) (G0 (tvA B v + 7)) (G0 (a + 1)) (G0 (a + 2)) (G0 (a + 6)) fuel q A Hh = [(G0 (a + 1) q, A, Hh)] := by
          obtain ⟨x, hx⟩ : ∃ x, fuel = x + 1 := ⟨fuel - 1, by omega⟩
          rw [hx, spl, if_neg l]
        rw [le2] at qn
        obtain ⟨G', a', h', b1, b2, b3, b4, b5, b6, b7⟩ := ih (k + 1) (q + 1) G2 d A Hh (G0 (a + 6) p) (G0 (tvA B v + 7) (5 * f' + k)) (m + 1) (by omega) (by omega) qn (FWB_CH (FWB_CH fb h1) g1) (by rw [o2.1]; exact h4) (by rw [o2.2.1]; exact h5) (by rw [o2.2.2, esl]; exact h6) (Or.inr ⟨by omega, rfl, gnx⟩) g2 (by rw [g3, lvn]) (by omega) (by omega) d0 (by omega)
        rw [le2] at es
        rw [sp1] at es
        refine ⟨G', a', h', CH_tr (CH_tr h1 g1 (by omega) (Int.le_refl _) (by omega)) b1 (Int.le_refl _) (by omega) (by omega), ?_, ?_, ?_, b5, fun j z1 z2 => ?_, fun K hK => ?_⟩
        · rw [es]
          have o := b1.2.2.1 m (by omega)
          exact Wl_app (Wl_one (by rw [o.1]; exact g4) (by rw [o.2.1]; exact g5) (by rw [o.2.2]; exact g6)) b2
        · rw [es, List.length_append, List.length_singleton, b3]
          omega
        · rw [es, List.length_append, List.length_singleton]
          omega
        · by_cases x : j < lv (G0 (a + 1)) (q + 1)
          · have jq : j = lv (G0 (a + 1)) q := by omega
            have o := b1.2.2.2.1 j x
            rw [o.1, o.2.1, o.2.2, jq, g7, g8, g9]
            have el : G0 (a + 8) (lv (G0 (a + 1)) q) = q := tr.2
            rw [el, y3, y4]
            exact ⟨rfl, rfl, rfl⟩
          · exact b6 j (by omega) z2
        · refine q_back (fun K Kf hh => h7 K Kf (g11 _ ?_)) (b7 K hK)
          exact hh
theorem walk_piece {T : Nat → Option q_T} {nx rc rs B a : Nat} {R : Nat → Nat → Option Value} {G0 : Nat → Int → Int} {h i v : Int} (hM : Ly T R (B + 544) (L12 (B + 544))) (i0 : 0 ≤ i) (i1 : i < 100) (hF : IFm G0 B) (tk : TOK G0 B h i v a) : ∀ (fuel : Nat) (p : Int), 0 ≤ p → p < G0 a 2 → 1000 ≤ G0 (a + 1) p → G0 (a + 2) p - p ≤ fuel → WP T nx rc rs R G0 B a i v fuel p := by
  have kT := tk.2.2.2.1
  intro fuel
  induction fuel with
  | zero =>
    intro p p0 p1 hn hf
    have := kT.2.1 p p0 p1
    omega
  | succ fuel ih =>
    intro p p0 p1 hn hf G d ah hw m fb gn gi gs' hm hl m0 mb d0 db
    obtain ⟨f', N', ef', f0, f1, eN', N1, N5, ⟨r0, r1⟩, hf', hN, hC, hg, hns, hend, hch⟩ := nodeF hF tk p0 p1 hn
    have pe := kT.2.1 p p0 p1
    have lvn : lv (G0 (a + 1)) (p + 1) = lv (G0 (a + 1)) p := by
      have := nbi_s (G0 (a + 1)) (q := p) p0
      rw [if_pos hn] at this
      unfold lv
      omega
    have nbn : nb (G0 (a + 1)) (p + 1).toNat = nb (G0 (a + 1)) p.toNat + 1 := by
      have := nbi_s (G0 (a + 1)) (q := p) p0
      rw [if_pos hn] at this
      exact this
    have es : spl (G0 (tvA B v + 3)) (G0 (tvA B v + 4)) (G0 (tvA B v + 7)) (G0 (a + 1)) (G0 (a + 2)) (G0 (a + 6)) (fuel + 1) p ah hw = spi (spl (G0 (tvA B v + 3)) (G0 (tvA B v + 4)) (G0 (tvA B v + 7)) (G0 (a + 1)) (G0 (a + 2)) (G0 (a + 6)) fuel) (G0 (tvA B v + 4)) (G0 (tvA B v + 7)) (G0 (a + 2)) f' (G0 (a + 6) p) N'.toNat 0 (p + 1) ah hw := by
      rw [spl, if_pos hn, ← ef', ← eN']
    have IH : ∀ q, p < q → q < G0 (a + 2) p → 1000 ≤ G0 (a + 1) q → WP T nx rc rs R G0 B a i v fuel q := fun q z1 z2 z3 => by
      have ne := (Tr_nest kT p0 (Int.le_of_lt z1) z2 (by omega)).1
      exact ih q (by omega) (by omega) z3 (by omega)
    have nsb := nsl_b (fun k => G0 (tvA B v + 4) (5 * f' + k)) N'.toNat
    obtain ⟨G', a', h', b1, b2, b3, b4, b5, b6, b7⟩ := walk_items (nx := nx) (rc := rc) (rs := rs) (fuel := fuel) (T := T) (R := R) hM i0 i1 hF tk p0 p1 hn ef' eN' (by omega) IH N'.toNat 0 (p + 1) G d ah hw ah hw m (Int.le_refl _) (by omega) rfl fb gn gi gs' (Or.inl ⟨rfl, rfl, rfl⟩) hm (by rw [hl, lvn]) m0 (by rw [nbn]; omega) d0 (by rw [nbn]; omega)
    rw [← es] at b2 b3 b4
    rw [lvn] at b1 b6
    rw [nbn] at b4
    exact ⟨G', a', h', b1, b2, b3, by omega, b5, b6, b7⟩
end
