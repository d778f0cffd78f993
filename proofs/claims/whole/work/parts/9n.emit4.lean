section
/-! lay: the class spells a tree with its gaps -/
/-- the gap that comes next -/
def GAP (G : Nat → Int → Int) (o : Nat) (sb up : Int → Int) (ah hw : Int) : Prop := G o 15 = hw ∧ G o 16 = (if hw = 2 then ownN sb ah else -1) ∧ G o 17 = (inN sb up 41 ah : Nat)
/-- the gaps of the list stand in three rows from m on; the first of all may be any -/
def WG (K N I : Int → Int) (sb up : Int → Int) (m : Int) (l : List (Int × Int × Int)) : Prop := ∀ (x : Nat) (ev : Int × Int × Int), l[x]? = some ev → m + x = 0 ∨ (K (m + x) = ev.2.2 ∧ N (m + x) = (if ev.2.2 = 2 then ownN sb ev.2.1 else -1) ∧ I (m + x) = (inN sb up 41 ev.2.1 : Nat))
theorem WG_nil {K N I sb up : Int → Int} {m : Int} : WG K N I sb up m [] := fun x ev h => absurd h (by simp)
theorem WG_one {K N I sb up : Int → Int} {m : Int} {ev : Int × Int × Int} (h : m = 0 ∨ (K m = ev.2.2 ∧ N m = (if ev.2.2 = 2 then ownN sb ev.2.1 else -1) ∧ I m = (inN sb up 41 ev.2.1 : Nat))) : WG K N I sb up m [ev] := by
  intro x e hx
  cases x with
  | zero =>
    have : ev = e := Option.some.inj hx
    rw [← this, show m + ((0 : Nat) : Int) = m by omega]
    exact h
  | succ x => exact absurd hx (by simp)
theorem WG_app {K N I sb up : Int → Int} {m : Int} {l l2 : List (Int × Int × Int)} (h1 : WG K N I sb up m l) (h2 : WG K N I sb up (m + l.length) l2) : WG K N I sb up m (l ++ l2) := by
  intro x ev h
  by_cases c : x < l.length
  · rw [List.getElem?_append_left c] at h
    exact h1 x ev h
  · rw [List.getElem?_append_right (by omega)] at h
    have w := h2 (x - l.length) ev h
    rw [show m + (l.length : Int) + ((x - l.length : Nat) : Int) = m + x by omega] at w
    exact w
/-- the gaps before m are as they were -/
def CG (G G' : Nat → Int → Int) (o : Nat) (m : Int) : Prop := ∀ j, j < m → G' (o + 4) j = G (o + 4) j ∧ G' (o + 5) j = G (o + 5) j ∧ G' (o + 6) j = G (o + 6) j
theorem CG_tr {G G1 G2 : Nat → Int → Int} {o : Nat} {m m' : Int} (h : CG G G1 o m) (k : CG G1 G2 o m') (q : m ≤ m') : CG G G2 o m := fun j z => by
  obtain ⟨a1, a2, a3⟩ := k j (by omega)
  rw [a1, a2, a3]
  exact h j z
theorem WG_CG {G G' : Nat → Int → Int} {o : Nat} {sb up : Int → Int} {m m' : Int} {l : List (Int × Int × Int)} (h : CG G G' o m') (q : m + l.length ≤ m') (w : WG (G (o + 4)) (G (o + 5)) (G (o + 6)) sb up m l) : WG (G' (o + 4)) (G' (o + 5)) (G' (o + 6)) sb up m l := fun x ev hx => by
  have lx := (List.getElem?_eq_some_iff.mp hx).1
  obtain ⟨a1, a2, a3⟩ := h (m + x) (by omega)
  rw [a1, a2, a3]
  exact w x ev hx
theorem inN_fuel {sb up : Int → Int} {N : Int} (hu : ∀ x, 0 < x → x < N → 0 ≤ up x ∧ up x < x) : ∀ (k : Nat) (n : Int), 0 ≤ n → n < k → n < N → inN sb up k n = inN sb up (k + 1) n := by
  intro k
  induction k with
  | zero => intro n _ h; omega
  | succ k ih =>
    intro n n0 nk nN
    have e : inN sb up (k + 1 + 1) n = (if 0 < n then inN sb up (k + 1) (up n) else 0) ||| (if ownN sb n = -1 then 0 else 2 ^ (ownN sb n).toNat) := rfl
    rw [e, inN]
    by_cases z : 0 < n
    · have := hu n z nN
      rw [if_pos z, if_pos z, ih (up n) this.1 (by omega) (by omega)]
    · rw [if_neg z, if_neg z]
theorem SFo_congr {G G' : Nat → Int → Int} {o : Nat} {sb pn : Int → Int} {n : Nat} (h : ∀ j, j = 12 ∨ j = 13 ∨ j = 14 → G' o j = G o j) (s : SFo G o sb pn n) : SFo G' o sb pn n := by
  unfold SFo at s ⊢
  rw [h 12 (by omega), h 13 (by omega), h 14 (by omega)]
  exact s
theorem SFo_b {G : Nat → Int → Int} {o : Nat} {sb pn : Int → Int} {n : Nat} (s : SFo G o sb pn n) : 0 ≤ G o 12 ∧ G o 12 ≤ 8 := by
  have := scN_b sb n
  have := s.1
  omega
def ES2 (T : Nat → Option q_T) (nx : Nat) (R : Nat → Nat → Option Value) (G0 : Nat → Int → Int) (B o a : Nat) (v : Int) (sb pn up : Int → Int) (fuel : Nat) (p : Int) : Prop := ∀ (G : Nat → Int → Int) (gf : Nat) (yv depth ah hw m : Int), (∀ x, ¬ (o ≤ x ∧ x ≤ o + 6) → G x = G0 x) → G o 1 = m → 0 ≤ m → m + (spl (G0 (tvA B v + 3)) (G0 (tvA B v + 4)) (G0 (tvA B v + 7)) (G0 (a + 1)) (G0 (a + 2)) (G0 (a + 6)) fuel p ah hw).length ≤ 201 → SFo G o sb pn (nb (G0 (a + 1)) p.toNat).toNat → (1000 ≤ G0 (a + 1) p → yv = ((if 0 < G0 (a + 6) p then inN sb up 41 (up (G0 (a + 6) p)) else 0 : Nat) : Int)) → (m = 0 ∨ GAP G o sb up ah hw) → 0 ≤ depth → depth + (nb (G0 (a + 1)) (G0 (a + 2) p).toNat - nb (G0 (a + 1)) p.toNat) ≤ 40 → nb (G0 (a + 1)) (G0 (a + 2) p).toNat - nb (G0 (a + 1)) p.toNat < gf →
  ∃ G' : Nat → Int → Int, CS G G' o m ∧ CG G G' o m ∧ G' o 1 = m + (spl (G0 (tvA B v + 3)) (G0 (tvA B v + 4)) (G0 (tvA B v + 7)) (G0 (a + 1)) (G0 (a + 2)) (G0 (a + 6)) fuel p ah hw).length ∧ Wc (G' (o + 1)) m (spl (G0 (tvA B v + 3)) (G0 (tvA B v + 4)) (G0 (tvA B v + 7)) (G0 (a + 1)) (G0 (a + 2)) (G0 (a + 6)) fuel p ah hw) ∧ WG (G' (o + 4)) (G' (o + 5)) (G' (o + 6)) sb up m (spl (G0 (tvA B v + 3)) (G0 (tvA B v + 4)) (G0 (tvA B v + 7)) (G0 (a + 1)) (G0 (a + 2)) (G0 (a + 6)) fuel p ah hw) ∧ SFo G' o sb pn (nb (G0 (a + 1)) (G0 (a + 2) p).toNat).toNat ∧ ∀ K : Option Value → q_M → Prop, gr0 gf 0 [.ref o, .ref a, .int (zI p), .int (zI yv), .int (zI depth)] (st T nx 0 0 R G) K = K none (st T nx 0 0 R G')
theorem emit_piece2 {T : Nat → Option q_T} {nx B o a : Nat} {R : Nat → Nat → Option Value} {G0 : Nat → Int → Int} {h i v : Int} (oS : Ly T R o (L6 o (tvA B v))) (o8 : Ly T R (tvA B v) (L8 (tvA B v))) (o9 : Ly T R a (L9 a)) (hto : tvA B v + 14 ≤ o) (hao : a + 10 ≤ o ∨ o + 7 ≤ a) (hF : IFm G0 B) (tk : TOK G0 B h i v a) (cb : ∀ q, 0 ≤ q → q < G0 a 2 → 20 ≤ G0 (a + 1) q ∧ G0 (a + 1) q ≤ 1013) {sb pn up : Int → Int} (hsb : ∀ p, 0 ≤ p → p < G0 a 2 → 1000 ≤ G0 (a + 1) p → sb (G0 (a + 6) p) = softF (G0 (tvA B v + 7)) (G0 (a + 1) p - 1000) (G0 (tvA B v + 3) (G0 (a + 1) p - 1000) - 1).toNat) (hpn : ∀ m, 0 ≤ m → m < G0 a 3 → G0 (a + 9) m = pn m ∧ 0 ≤ pn m ∧ pn m ≤ 2) (hup : ∀ p, 0 < p → p < G0 a 2 → 1000 ≤ G0 (a + 1) p → up (G0 (a + 6) p) = G0 (a + 6) (G0 (a + 3) p)) : ∀ (fuel : Nat) (p : Int), 0 ≤ p → p < G0 a 2 → G0 (a + 2) p - p ≤ fuel → ES2 T nx R G0 B o a v sb pn up fuel p := by
  have tb := TOK_b tk
  have kT := tk.2.2.2.1
  have kv := tk.2.2.1
  have hux : ∀ x, 0 < x → x < G0 a 3 → 0 ≤ up x ∧ up x < x := fun x x0 x1 => by
    obtain ⟨w1, w2, w3, w4, w5⟩ := Tr_m kT (Int.le_of_lt x0) x1
    have z : ¬ G0 (a + 7) x = 0 := fun z => by
      rw [z] at w4
      have : nb (G0 (a + 1)) (0 : Int).toNat = 0 := rfl
      omega
    have e := hup _ (by omega) w2 w3
    rw [w5] at e
    obtain ⟨u1, u2, u3, _⟩ := kT.2.2.1 _ (by omega) w2
    have n1 := (Tr_n kT u1 (by omega) u3).1
    have n2 := nbi_lt (G0 (a + 1)) u1 u2 u3
    have n3 := (nb_b (G0 (a + 1)) (G0 (a + 3) (G0 (a + 7) x)).toNat).1
    rw [e, n1]
    omega
  intro fuel
  induction fuel with
  | zero =>
    intro p p0 p1 hf
    have := kT.2.1 p p0 p1
    omega
  | succ fuel ih =>
    intro p p0 p1 hf G gf yv depth ah hw m fr hm m0 ml sfo hyv gap0 d0 d1 hg
    have pe := kT.2.1 p p0 p1
    have nbp := nbi_mono (G0 (a + 1)) (show p ≤ G0 (a + 2) p by omega)
    obtain ⟨gf', hgf⟩ : ∃ x, gf = x + 1 := ⟨gf - 1, by omega⟩
    subst hgf
    have ga : ∀ x, a ≤ x → x < a + 10 → G x = G0 x := fun x z1 z2 => fr x (by omega)
    have gt : ∀ x, tvA B v ≤ x → x < tvA B v + 14 → G x = G0 x := fun x z1 z2 => fr x (by omega)
    have cp := cb p p0 p1
    have gc : G (a + 1) p = G0 (a + 1) p := by rw [ga _ (by omega) (by omega)]
    have cI := fun (K : Option Value → q_M → Prop) => c9_isNodeAt (nx := nx) (rc := 0) (rs := 0) (G := G) (p := p) (K := K) o9 p0 (by omega) (by omega) (by omega)
    by_cases l : 1000 ≤ G0 (a + 1) p
    · obtain ⟨f, N, ef, f0, f1, eN, N1, N5, ⟨r0, r1⟩, hf', hN, hC, hgp, hns, hend, hch⟩ := nodeF hF tk p0 p1 l
      have kvF := (hF v kv.1 kv.2).2.2.2 f f0 (by
        have := (kT.2.2.2.1 p p0 p1 l).1
        rw [ef]
        exact this)
      obtain ⟨_, _, _, ⟨gaF, _⟩, _⟩ := kvF
      have g2 : ∀ k, 0 ≤ k → k < N → 0 ≤ G0 (tvA B v + 7) (5 * f + k) ∧ G0 (tvA B v + 7) (5 * f + k) ≤ 2 := fun k z1 z2 => by
        have := (gaF k z1 (by rw [eN] at z2; exact z2)).2
        exact this
      have es : spl (G0 (tvA B v + 3)) (G0 (tvA B v + 4)) (G0 (tvA B v + 7)) (G0 (a + 1)) (G0 (a + 2)) (G0 (a + 6)) (fuel + 1) p ah hw = spi (spl (G0 (tvA B v + 3)) (G0 (tvA B v + 4)) (G0 (tvA B v + 7)) (G0 (a + 1)) (G0 (a + 2)) (G0 (a + 6)) fuel) (G0 (tvA B v + 4)) (G0 (tvA B v + 7)) (G0 (a + 2)) f (G0 (a + 6) p) N.toNat 0 (p + 1) ah hw := by rw [spl, if_pos l, ← ef, ← eN]
      rw [es] at ml
      have gf3 : G (tvA B v + 3) f = N := by rw [gt _ (by omega) (by omega)]; exact eN.symm
      have gcf : G (a + 1) p - 1000 = f := by rw [gc]; exact ef.symm
      have rp := (Tr_n kT p0 p1 l).1
      have nbN := nbi_lt (G0 (a + 1)) p0 p1 l
      have N3 : G0 (a + 6) p < G0 a 3 := by
        rw [rp, kT.2.2.2.2.2.1]
        exact nbN
      obtain ⟨n, hn⟩ : ∃ n : Nat, n = (nb (G0 (a + 1)) p.toNat).toNat := ⟨_, rfl⟩
      have nb0 := (nb_b (G0 (a + 1)) p.toNat).1
      have en : (n : Int) = G0 (a + 6) p := by omega
      rw [← hn] at sfo
      obtain ⟨pq1, pq2, pq3⟩ := hpn (G0 (a + 6) p) r0 N3
      obtain ⟨G1, cs1, cs1x, cs1j, sf1, cS⟩ := c6_countSoft2 (nx := nx) (rc := 0) (rs := 0) (G := G) (a := a) (n := n) (p := p) (m := m) (f := f) (sb := sb) (pn := pn) oS o8 o9 p0 (by omega) gcf f0 f1 (by rw [ga _ (by omega) (by omega), en]) (by omega) (by rw [gf3]; exact N1) (by rw [gf3]; exact N5) (fun k z1 z2 => by rw [gf3] at z2; rw [gt _ (by omega) (by omega)]; exact g2 k z1 z2) (by rw [en, hsb p p0 p1 l, ← ef, gf3, gt _ (by omega) (by omega), eN]) (by rw [en, ga _ (by omega) (by omega)]; exact pq1) (by rw [en]; exact ⟨pq2, pq3⟩) sfo
      rw [en] at cS
      have o11 : G1 o 1 = G o 1 := cs1j 1 (by omega) (by omega) (by omega)
      obtain ⟨own, hown⟩ : ∃ own, own = ownN sb (G0 (a + 6) p) := ⟨_, rfl⟩
      rw [← hown] at cS
      obtain ⟨w0, w1⟩ := ownN_b sb (G0 (a + 6) p)
      rw [← hown] at w0 w1
      have yv' := hyv l
      obtain ⟨iv, hivE⟩ : ∃ iv : Int, iv = (inN sb up 41 (G0 (a + 6) p) : Nat) := ⟨_, rfl⟩
      have einN : inN sb up 41 (G0 (a + 6) p) = (if 0 < G0 (a + 6) p then inN sb up 41 (up (G0 (a + 6) p)) else 0) ||| (if own = -1 then 0 else 2 ^ own.toNat) := by
        rw [hown]
        have e : inN sb up 41 (G0 (a + 6) p) = (if 0 < G0 (a + 6) p then inN sb up 40 (up (G0 (a + 6) p)) else 0) ||| (if ownN sb (G0 (a + 6) p) = -1 then 0 else 2 ^ (ownN sb (G0 (a + 6) p)).toNat) := rfl
        rw [e]
        by_cases z : 0 < G0 (a + 6) p
        · have := hux _ z N3
          rw [if_pos z, if_pos z, inN_fuel hux 40 _ this.1 (by omega) (by omega)]
        · rw [if_neg z, if_neg z]
      have yv256 : (if 0 < G0 (a + 6) p then inN sb up 41 (up (G0 (a + 6) p)) else 0) < 256 := by
        split
        · exact inN_b _ _ _ _
        · omega
      have hiv : (if own = -1 then zI yv else q_gior (zI yv) (q_gishl (zI 1) (zI own))) = zI iv := by
        rw [hivE, einN, yv']
        by_cases z : own = -1
        · rw [if_pos z, if_pos z, Nat.or_zero]
        · rw [if_neg z, if_neg z]
          have ev := or_val ⟨_, yv256⟩ ⟨own.toNat, by omega⟩
          have eo : ((own.toNat : Nat) : Int) = own := by omega
          have ev : q_gior (zI ((if 0 < G0 (a + 6) p then inN sb up 41 (up (G0 (a + 6) p)) else 0 : Nat) : Int)) (q_gishl (zI 1) (zI ((own.toNat : Nat) : Int))) = _ := ev
          rw [eo] at ev
          exact ev
      have fr1 : ∀ x, ¬ (o ≤ x ∧ x ≤ o + 6) → G1 x = G0 x := fun x z => by rw [cs1.1 x z, fr x z]
      obtain ⟨G2, ⟨cs2, pre, hL, hm2, hw2, cg2, wg2, sf2, _⟩, w⟩ := q_forE (eX6_emit_0 (dgr0 gf')) (fun _ _ => lX6_emit_0 (dgr0 gf')) (fun k => [.ref o, .ref a, .int (zI p), .int (zI yv), .int (zI depth), .int (zI f), .int (zI own), .int (zI iv), .int (zI (chI (G0 (a + 2)) p (nsl (fun k => G0 (tvA B v + 4) (5 * f + k)) k).toNat)), .int (zI k)]) (fun G => st T nx 0 0 R G) (fun k G2 => CS G1 G2 o m ∧ ∃ pre : List (Int × Int × Int), spi (spl (G0 (tvA B v + 3)) (G0 (tvA B v + 4)) (G0 (tvA B v + 7)) (G0 (a + 1)) (G0 (a + 2)) (G0 (a + 6)) fuel) (G0 (tvA B v + 4)) (G0 (tvA B v + 7)) (G0 (a + 2)) f (G0 (a + 6) p) N.toNat 0 (p + 1) ah hw = pre ++ spi (spl (G0 (tvA B v + 3)) (G0 (tvA B v + 4)) (G0 (tvA B v + 7)) (G0 (a + 1)) (G0 (a + 2)) (G0 (a + 6)) fuel) (G0 (tvA B v + 4)) (G0 (tvA B v + 7)) (G0 (a + 2)) f (G0 (a + 6) p) (N.toNat - k) k (chI (G0 (a + 2)) p (nsl (fun k => G0 (tvA B v + 4) (5 * f + k)) k).toNat) (if k = 0 then ah else G0 (a + 6) p) (if k = 0 then hw else G0 (tvA B v + 7) (5 * f + (k - 1))) ∧ G2 o 1 = m + pre.length ∧ Wc (G2 (o + 1)) m pre ∧ CG G1 G2 o m ∧ WG (G2 (o + 4)) (G2 (o + 5)) (G2 (o + 6)) sb up m pre ∧ SFo G2 o sb pn (nb (G0 (a + 1)) (chI (G0 (a + 2)) p (nsl (fun k => G0 (tvA B v + 4) (5 * f + k)) k).toNat).toNat).toNat ∧ (m + pre.length = 0 ∨ GAP G2 o sb up (if k = 0 then ah else G0 (a + 6) p) (if k = 0 then hw else G0 (tvA B v + 7) (5 * f + (k - 1))))) N.toNat G1 ⟨⟨fun _ _ => rfl, fun _ _ => rfl, cs1.2.2⟩, [], by rw [List.nil_append, Nat.sub_zero]; rfl, by rw [o11, hm]; show m = m + ((0 : Nat) : Int); omega, Wc_nil, fun _ _ => ⟨rfl, rfl, rfl⟩, WG_nil, by
        have e1 : nb (G0 (a + 1)) (p + 1).toNat = nb (G0 (a + 1)) p.toNat + 1 := by rw [nbi_s (G0 (a + 1)) p0, if_pos l]
        show SFo G1 o sb pn (nb (G0 (a + 1)) (p + 1).toNat).toNat
        rw [e1, show (nb (G0 (a + 1)) p.toNat + 1).toNat = n + 1 by omega]
        exact sf1, by
        rw [if_pos rfl, if_pos rfl]
        rcases gap0 with z | ⟨z1, z2, z3⟩
        · exact Or.inl (by show m + ((0 : Nat) : Int) = 0; omega)
        · exact Or.inr ⟨by rw [cs1j _ (by omega) (by omega) (by omega)]; exact z1, by rw [cs1j _ (by omega) (by omega) (by omega)]; exact z2, by rw [cs1j _ (by omega) (by omega) (by omega)]; exact z3⟩⟩ (fun k hk G2 ⟨cs2, pre, hL, hm2, hw2, cg2, wg2, sf2, gp2⟩ => by
        have fr2 : ∀ x, ¬ (o ≤ x ∧ x ≤ o + 6) → G2 x = G0 x := fun x z => by rw [cs2.1 x z, fr1 x z]
        have k1 : (k : Int) < N := by omega
        obtain ⟨c1, c2, c3⟩ := hC k (by omega) k1
        have gb := g2 k (by omega) k1
        have it : G2 (tvA B v + 4) (5 * f + k) = G0 (tvA B v + 4) (5 * f + k) := by rw [fr2 _ (by omega)]
        have g3 : G2 (tvA B v + 3) f = N := by rw [fr2 _ (by omega)]; exact eN.symm
        have hz : (k : Int) < N := k1
        obtain ⟨A, hA⟩ : ∃ A : Int, A = if k = 0 then ah else G0 (a + 6) p := ⟨_, rfl⟩
        obtain ⟨Hh, hH⟩ : ∃ H : Int, H = if k = 0 then hw else G0 (tvA B v + 7) (5 * f + ((k : Int) - 1)) := ⟨_, rfl⟩
        have hL : spi (spl (G0 (tvA B v + 3)) (G0 (tvA B v + 4)) (G0 (tvA B v + 7)) (G0 (a + 1)) (G0 (a + 2)) (G0 (a + 6)) fuel) (G0 (tvA B v + 4)) (G0 (tvA B v + 7)) (G0 (a + 2)) f (G0 (a + 6) p) N.toNat 0 (p + 1) ah hw = pre ++ spi (spl (G0 (tvA B v + 3)) (G0 (tvA B v + 4)) (G0 (tvA B v + 7)) (G0 (a + 1)) (G0 (a + 2)) (G0 (a + 6)) fuel) (G0 (tvA B v + 4)) (G0 (tvA B v + 7)) (G0 (a + 2)) f (G0 (a + 6) p) (N.toNat - k) k (chI (G0 (a + 2)) p (nsl (fun k => G0 (tvA B v + 4) (5 * f + k)) k).toNat) A Hh := by rw [hA, hH]; exact hL
        rw [← hA, ← hH] at gp2
        have sfb := SFo_b sf2
        rw [show N.toNat - k = (N.toNat - (k + 1)) + 1 by omega] at hL
        have A1 : (if k + 1 = 0 then ah else G0 (a + 6) p) = G0 (a + 6) p := if_neg (by omega)
        have H1 : (if k + 1 = 0 then hw else G0 (tvA B v + 7) (5 * f + (((k + 1 : Nat) : Int) - 1))) = G0 (tvA B v + 7) (5 * f + k) := by rw [if_neg (by omega), show ((k + 1 : Nat) : Int) - 1 = k by omega]
        by_cases w : 0 ≤ G0 (tvA B v + 4) (5 * f + k) ∧ G0 (tvA B v + 4) (5 * f + k) ≤ 11
        · have esl : nsl (fun k => G0 (tvA B v + 4) (5 * f + k)) (k + 1) = nsl (fun k => G0 (tvA B v + 4) (5 * f + k)) k := nsl_w _ w
          rw [spi, if_pos w] at hL
          have len : (spi (spl (G0 (tvA B v + 3)) (G0 (tvA B v + 4)) (G0 (tvA B v + 7)) (G0 (a + 1)) (G0 (a + 2)) (G0 (a + 6)) fuel) (G0 (tvA B v + 4)) (G0 (tvA B v + 7)) (G0 (a + 2)) f (G0 (a + 6) p) N.toNat 0 (p + 1) ah hw).length = pre.length + 1 + (spi (spl (G0 (tvA B v + 3)) (G0 (tvA B v + 4)) (G0 (tvA B v + 7)) (G0 (a + 1)) (G0 (a + 2)) (G0 (a + 6)) fuel) (G0 (tvA B v + 4)) (G0 (tvA B v + 7)) (G0 (a + 2)) f (G0 (a + 6) p) (N.toNat - (k + 1)) (k + 1) (chI (G0 (a + 2)) p (nsl (fun k => G0 (tvA B v + 4) (5 * f + k)) k).toNat) (G0 (a + 6) p) (G0 (tvA B v + 7) (5 * f + k))).length := by
            rw [hL, List.length_append, List.length_cons]
            omega
          obtain ⟨G3, x1, x2, x3, xj, xk4, xk5, xk6, x4⟩ := c6_emitCode2 (nx := nx) (rc := 0) (rs := 0) (G := G2) (code := G0 (tvA B v + 4) (5 * f + k)) (m := m + pre.length) oS hm2 (by omega) (by omega) cs2.2.2.1 cs2.2.2.2
          have fr3 : ∀ x, ¬ (o ≤ x ∧ x ≤ o + 6) → G3 x = G0 x := fun x z => by rw [x1.1 x z, fr2 x z]
          obtain ⟨G4, y1, yj, y15, y16, y17, y4⟩ := gap_tail2 (nx := nx) (rc := 0) (rs := 0) (G := G3) (x1 := .ref a) (x2 := .int (zI p)) (x3 := .int (zI yv)) (x4 := .int (zI depth)) (x8 := .int (zI (chI (G0 (a + 2)) p (nsl (fun k => G0 (tvA B v + 4) (5 * f + k)) k).toNat))) (x10 := .int (zI (G0 (tvA B v + 4) (5 * f + k)))) (f := f) (own := own) (iv := iv) (k := k) (gp := G0 (tvA B v + 7) (5 * f + k)) oS o8 hto f0 f1 (by omega) (by omega) (by rw [fr3 _ (by omega)]) gb.1 gb.2 x1.2.2.1 x1.2.2.2
          have y5 : ∀ (t : q_S) (Kn : List Value → q_M → Prop) (Kr : Option Value → q_M → Prop), True := fun _ _ _ => trivial
          refine ⟨G4, ⟨⟨fun x z => by rw [y1 x (by omega), x1.1 x z, cs2.1 x z], fun j z => by rw [y1 _ (by omega), x1.2.1 j (by omega), cs2.2.1 j z], by rw [yj _ (by omega) (by omega) (by omega)]; exact x1.2.2.1, by rw [yj _ (by omega) (by omega) (by omega)]; exact x1.2.2.2⟩, pre ++ [(G0 (tvA B v + 4) (5 * f + k), A, Hh)], ?_, ?_, ?_, ?_, ?_, ?_, ?_⟩, fun Kn Kf hh => ?_⟩
          · rw [A1, H1, esl, List.append_assoc]
            exact hL
          · rw [yj _ (by omega) (by omega) (by omega), x2, List.length_append, List.length_singleton]
            omega
          · rw [y1 _ (by omega)]
            exact Wc_app (Wc_congr (fun j z => x1.2.1 j z) hw2) (Wc_one x3)
          · refine CG_tr cg2 (m' := m + pre.length) (fun j z => ?_) (by omega)
            rw [y1 _ (by omega), y1 _ (by omega), y1 _ (by omega), xk4, xk5, xk6, fu_ne (by omega), fu_ne (by omega), fu_ne (by omega)]
            exact ⟨rfl, rfl, rfl⟩
          · rw [y1 (o + 4) (by omega), y1 (o + 5) (by omega), y1 (o + 6) (by omega)]
            refine WG_app (WG_CG (G := G2) (m' := m + pre.length) (fun j z => ?_) (Int.le_refl _) wg2) (WG_one ?_)
            · rw [xk4, xk5, xk6, fu_ne (by omega), fu_ne (by omega), fu_ne (by omega)]
              exact ⟨rfl, rfl, rfl⟩
            · rw [xk4, xk5, xk6, fu_eq, fu_eq, fu_eq]
              exact gp2
          · rw [esl]
            exact SFo_congr (fun j z => by rw [yj j (by omega) (by omega) (by omega), xj j (by omega)]) sf2
          · refine Or.inr ?_
            rw [A1, H1]
            exact ⟨y15, by rw [y16, hown], by rw [y17, hivE]⟩
          · have tl : ∀ (Kn : List Value → q_M → Prop) (Kr : Option Value → q_M → Prop), q_spf Value.int (fun _ => True) 6 15 (q_r 0) (q_ai (q_fr 8 7 (q_fr 6 8 (q_r 0))) (q_2 q_giadd (q_2 q_gimul (q_l 5) (q_k 5)) (q_l 9))) [.ref o, .ref a, .int (zI p), .int (zI yv), .int (zI depth), .int (zI f), .int (zI own), .int (zI iv), .int (zI (chI (G0 (a + 2)) p (nsl (fun k => G0 (tvA B v + 4) (5 * f + k)) k).toNat)), .int (zI k), .int (zI (G0 (tvA B v + 4) (5 * f + k)))] (st T nx 0 0 R G3) (seqK (q_sq (q_spf Value.int (fun _ => True) 6 16 (q_r 0) (q_te (q_cm q_Req (q_fi 6 15 (q_r 0)) (q_k 2)) (q_l 6) (q_k (-1)))) (q_spf Value.int (fun _ => True) 6 17 (q_r 0) (q_l 7))) Kn Kr) Kr = Kn [.ref o, .ref a, .int (zI p), .int (zI yv), .int (zI depth), .int (zI f), .int (zI own), .int (zI iv), .int (zI (chI (G0 (a + 2)) p (nsl (fun k => G0 (tvA B v + 4) (5 * f + k)) k).toNat)), .int (zI k), .int (zI (G0 (tvA B v + 4) (5 * f + k)))] (st T nx 0 0 R G4) := y4
            rw [esl] at hh
            have sd : ∀ (Kn : List Value → q_M → Prop) (Kr : Option Value → q_M → Prop), q_sdec Value.int 10 (q_ai (q_fr 8 4 (q_fr 6 8 (q_r 0))) (q_2 q_giadd (q_2 q_gimul (q_l 5) (q_k 5)) (q_l 9))) [.ref o, .ref a, .int (zI p), .int (zI yv), .int (zI depth), .int (zI f), .int (zI own), .int (zI iv), .int (zI (chI (G0 (a + 2)) p (nsl (fun k => G0 (tvA B v + 4) (5 * f + k)) k).toNat)), .int (zI k)] (st T nx 0 0 R G2) Kn Kr = Kn [.ref o, .ref a, .int (zI p), .int (zI yv), .int (zI depth), .int (zI f), .int (zI own), .int (zI iv), .int (zI (chI (G0 (a + 2)) p (nsl (fun k => G0 (tvA B v + 4) (5 * f + k)) k).toNat)), .int (zI k), .int (zI (G0 (tvA B v + 4) (5 * f + k)))] (st T nx 0 0 R G2) := by
              intro Kn Kr
              simp (disch := omega) only [↓k_mk, ↓k_sq, ↓k_sk, ↓k_bk, ↓k_if, ↓k_te, ↓k_cm, ↓k_cz, ↓k_an2, ↓k_or2, ↓k_no, ↓k_ci, ↓k_l0, ↓k_r0, ↓k_se0, ↓k_ic0, ↓k_l1, ↓k_r1, ↓k_se1, ↓k_ic1, ↓k_de1, ↓k_tk1, ↓k_l2, ↓k_r2, ↓k_se2, ↓k_ic2, ↓k_de2, ↓k_tk2, ↓k_l3, ↓k_r3, ↓k_se3, ↓k_ic3, ↓k_de3, ↓k_tk3, ↓k_l4, ↓k_r4, ↓k_se4, ↓k_ic4, ↓k_de4, ↓k_tk4, ↓k_l5, ↓k_r5, ↓k_se5, ↓k_ic5, ↓k_de5, ↓k_tk5, ↓k_l6, ↓k_r6, ↓k_se6, ↓k_ic6, ↓k_de6, ↓k_tk6, ↓k_l7, ↓k_r7, ↓k_se7, ↓k_ic7, ↓k_de7, ↓k_tk7, ↓k_l8, ↓k_r8, ↓k_se8, ↓k_ic8, ↓k_de8, ↓k_tk8, ↓k_l9, ↓k_r9, ↓k_se9, ↓k_ic9, ↓k_de9, ↓k_tk9, ↓k_l10, ↓k_r10, ↓k_se10, ↓k_ic10, ↓k_de10, ↓k_tk10, ↓k_l11, ↓k_r11, ↓k_se11, ↓k_ic11, ↓k_de11, ↓k_tk11, ↓k_l12, ↓k_r12, ↓k_se12, ↓k_ic12, ↓k_de12, ↓k_tk12, ↓k_l13, ↓k_r13, ↓k_se13, ↓k_ic13, ↓k_de13, ↓k_tk13, ↓k_l14, ↓k_r14, ↓k_se14, ↓k_ic14, ↓k_de14, ↓k_tk14, ↓k_l15, ↓k_r15, ↓k_se15, ↓k_ic15, ↓k_de15, ↓k_tk15, ↓k_l16, ↓k_r16, ↓k_se16, ↓k_ic16, ↓k_de16, ↓k_tk16, ↓k_l17, ↓k_r17, ↓k_se17, ↓k_ic17, ↓k_de17, ↓k_tk17, ↓k_l18, ↓k_r18, ↓k_se18, ↓k_ic18, ↓k_de18, ↓k_tk18, ↓k_l19, ↓k_r19, ↓k_se19, ↓k_ic19, ↓k_de19, ↓k_tk19, ↓k_l20, ↓k_r20, ↓k_se20, ↓k_ic20, ↓k_de20, ↓k_tk20, ↓k_l21, ↓k_r21, ↓k_se21, ↓k_ic21, ↓k_de21, ↓k_tk21, ↓k_l22, ↓k_r22, ↓k_se22, ↓k_ic22, ↓k_de22, ↓k_tk22, ↓k_l23, ↓k_r23, ↓k_se23, ↓k_ic23, ↓k_de23, ↓k_tk23, ↓k_l24, ↓k_r24, ↓k_se24, ↓k_ic24, ↓k_de24, ↓k_tk24, ↓k_l25, ↓k_r25, ↓k_se25, ↓k_ic25, ↓k_de25, ↓k_tk25, ↓k_k, ↓k_kn, ↓k_kl, ↓k_kln, ↓k_il, ↓k_2, ↓k_1, ↓k_2c, ↓k_2l, ↓k_ac, ↓k_an, ↓k_cs, ↓k_cv, ↓k_fi, ↓k_fr, ↓k_ai, ↓k_az, ↓k_ar, ↓k_sai, ↓k_saz, ↓k_soa, ↓k_sof, ↓k_spf, ↓k_sx, ↓k_blk, ↓k_sset, ↓k_sdec, ↓k_sri, ↓k_srv, ↓k_srr, ↓k_nop, ↓k_add, ↓k_sub, ↓k_mul, ↓k_min, ↓k_max, ↓k_shr, ↓k_shl, ↓k_or, ↓k_ilz, ↓k_addl, ↓k_rt, ↓k_rb, ↓k_rbz, ↓k_rsi, ↓k_rsr, ↓k_rsv, ↓reduceIte, it, ↓xr6_8 oS, ↓xr8_4 o8, ↓xa8_4 o8, ↓xs8_4 o8, ↓xo8_4 o8, ↓xc8_4 o8, ↓xd8_4 o8, List.length_cons, List.length_nil, List.forall_mem_cons, List.not_mem_nil, Value.category, true_and, and_true, false_and, and_false, or_true, true_or, or_false, false_or, Nat.zero_le, forall_const, implies_true, false_implies, Nat.zero_add, Nat.reduceAdd, Nat.reduceLT, Nat.reduceLeDiff, Nat.le_refl, not_true_eq_false, not_false_eq_true, r_eq, r_ne, r_lt, r_ge, r_gt, r_le, bz_ne, nn_toNat, cn_of, cn_0, cn_1, i10, Int.reduceLE, Int.reduceLT, Int.reduceEq, bz_T, bz_F, ite_self, mulc, st_bud]
            simp (disch := omega) only [↓k_mk, ↓k_sq, ↓k_sk, ↓k_bk, ↓k_if, ↓k_te, ↓k_cm, ↓k_cz, ↓k_an2, ↓k_or2, ↓k_no, ↓k_ci, ↓k_l0, ↓k_r0, ↓k_se0, ↓k_ic0, ↓k_l1, ↓k_r1, ↓k_se1, ↓k_ic1, ↓k_de1, ↓k_tk1, ↓k_l2, ↓k_r2, ↓k_se2, ↓k_ic2, ↓k_de2, ↓k_tk2, ↓k_l3, ↓k_r3, ↓k_se3, ↓k_ic3, ↓k_de3, ↓k_tk3, ↓k_l4, ↓k_r4, ↓k_se4, ↓k_ic4, ↓k_de4, ↓k_tk4, ↓k_l5, ↓k_r5, ↓k_se5, ↓k_ic5, ↓k_de5, ↓k_tk5, ↓k_l6, ↓k_r6, ↓k_se6, ↓k_ic6, ↓k_de6, ↓k_tk6, ↓k_l7, ↓k_r7, ↓k_se7, ↓k_ic7, ↓k_de7, ↓k_tk7, ↓k_l8, ↓k_r8, ↓k_se8, ↓k_ic8, ↓k_de8, ↓k_tk8, ↓k_l9, ↓k_r9, ↓k_se9, ↓k_ic9, ↓k_de9, ↓k_tk9, ↓k_l10, ↓k_r10, ↓k_se10, ↓k_ic10, ↓k_de10, ↓k_tk10, ↓k_l11, ↓k_r11, ↓k_se11, ↓k_ic11, ↓k_de11, ↓k_tk11, ↓k_l12, ↓k_r12, ↓k_se12, ↓k_ic12, ↓k_de12, ↓k_tk12, ↓k_l13, ↓k_r13, ↓k_se13, ↓k_ic13, ↓k_de13, ↓k_tk13, ↓k_l14, ↓k_r14, ↓k_se14, ↓k_ic14, ↓k_de14, ↓k_tk14, ↓k_l15, ↓k_r15, ↓k_se15, ↓k_ic15, ↓k_de15, ↓k_tk15, ↓k_l16, ↓k_r16, ↓k_se16, ↓k_ic16, ↓k_de16, ↓k_tk16, ↓k_l17, ↓k_r17, ↓k_se17, ↓k_ic17, ↓k_de17, ↓k_tk17, ↓k_l18, ↓k_r18, ↓k_se18, ↓k_ic18, ↓k_de18, ↓k_tk18, ↓k_l19, ↓k_r19, ↓k_se19, ↓k_ic19, ↓k_de19, ↓k_tk19, ↓k_l20, ↓k_r20, ↓k_se20, ↓k_ic20, ↓k_de20, ↓k_tk20, ↓k_l21, ↓k_r21, ↓k_se21, ↓k_ic21, ↓k_de21, ↓k_tk21, ↓k_l22, ↓k_r22, ↓k_se22, ↓k_ic22, ↓k_de22, ↓k_tk22, ↓k_l23, ↓k_r23, ↓k_se23, ↓k_ic23, ↓k_de23, ↓k_tk23, ↓k_l24, ↓k_r24, ↓k_se24, ↓k_ic24, ↓k_de24, ↓k_tk24, ↓k_l25, ↓k_r25, ↓k_se25, ↓k_ic25, ↓k_de25, ↓k_tk25, ↓k_k, ↓k_kn, ↓k_kl, ↓k_kln, ↓k_il, ↓k_2, ↓k_1, ↓k_2c, ↓k_2l, ↓k_ac, ↓k_an, ↓k_cs, ↓k_cv, ↓k_fi, ↓k_fr, ↓k_ai, ↓k_az, ↓k_ar, ↓k_sai, ↓k_saz, ↓k_soa, ↓k_sof, ↓k_sx, ↓k_blk, ↓k_sset, ↓k_sri, ↓k_srv, ↓k_srr, ↓k_nop, ↓k_add, ↓k_sub, ↓k_mul, ↓k_min, ↓k_max, ↓k_shr, ↓k_shl, ↓k_or, ↓k_ilz, ↓k_addl, ↓k_rt, ↓k_rb, ↓k_rbz, ↓k_rsi, ↓k_rsr, ↓k_rsv, ↓reduceIte, ↓wcX6_emit_0.eq_1, ↓wsX6_emit_0.eq_1, g3, hz, ↓sd, ↓(k_cs1 dX11_isWord), ↓c11_isWord, w, ↓(k_cv1 dX6_emitCode (t6 oS)), ↓x4, ↓tl, ↓xr6_8 oS, ↓xr8_3 o8, ↓xa8_3 o8, ↓xs8_3 o8, ↓xo8_3 o8, ↓xc8_3 o8, ↓xd8_3 o8, List.length_cons, List.length_nil, List.forall_mem_cons, List.not_mem_nil, Value.category, true_and, and_true, false_and, and_false, or_true, true_or, or_false, false_or, Nat.zero_le, forall_const, implies_true, false_implies, Nat.zero_add, Nat.reduceAdd, Nat.reduceLT, Nat.reduceLeDiff, Nat.le_refl, not_true_eq_false, not_false_eq_true, r_eq, r_ne, r_lt, r_ge, r_gt, r_le, bz_ne, nn_toNat, cn_of, cn_0, cn_1, i10, Int.reduceLE, Int.reduceLT, Int.reduceEq, bz_T, bz_F, ite_self, mulc, st_bud]
            exact hh
        · have esl : nsl (fun k => G0 (tvA B v + 4) (5 * f + k)) (k + 1) = nsl (fun k => G0 (tvA B v + 4) (5 * f + k)) k + 1 := nsl_n _ w
          have slb := nsl_b (fun k => G0 (tvA B v + 4) (5 * f + k)) k
          have slm := nsl_mono (fun k => G0 (tvA B v + 4) (5 * f + k)) (m := k + 1) (n := N.toNat) (by omega)
          obtain ⟨sN, hsN⟩ : ∃ sN, sN = nsl (fun k => G0 (tvA B v + 4) (5 * f + k)) k := ⟨_, rfl⟩
          rw [← hsN] at esl slb hL
          obtain ⟨q, hq⟩ : ∃ q, q = chI (G0 (a + 2)) p sN.toNat := ⟨_, rfl⟩
          rw [← hq] at hL
          obtain ⟨⟨z1, z2, z3, z4⟩, _⟩ := hch sN.toNat (by rw [hns]; omega)
          rw [← hq] at z1 z2 z3 z4
          have che := Tr_che kT p0 p1 l (i := sN.toNat) (by rw [← ef]; show sN.toNat < (G0 (tvA B v + 5) f).toNat; rw [hns]; omega)
          rw [← hq] at che
          have qn : G0 (a + 2) q = chI (G0 (a + 2)) p (nsl (fun k => G0 (tvA B v + 4) (5 * f + k)) (k + 1)).toNat := by
            rw [esl, show (sN + 1).toNat = sN.toNat + 1 by omega, hq]
            rfl
          rw [spi, if_neg w] at hL
          have len : (spi (spl (G0 (tvA B v + 3)) (G0 (tvA B v + 4)) (G0 (tvA B v + 7)) (G0 (a + 1)) (G0 (a + 2)) (G0 (a + 6)) fuel) (G0 (tvA B v + 4)) (G0 (tvA B v + 7)) (G0 (a + 2)) f (G0 (a + 6) p) N.toNat 0 (p + 1) ah hw).length = pre.length + (spl (G0 (tvA B v + 3)) (G0 (tvA B v + 4)) (G0 (tvA B v + 7)) (G0 (a + 1)) (G0 (a + 2)) (G0 (a + 6)) fuel q A Hh).length + (spi (spl (G0 (tvA B v + 3)) (G0 (tvA B v + 4)) (G0 (tvA B v + 7)) (G0 (a + 1)) (G0 (a + 2)) (G0 (a + 6)) fuel) (G0 (tvA B v + 4)) (G0 (tvA B v + 7)) (G0 (a + 2)) f (G0 (a + 6) p) (N.toNat - (k + 1)) (k + 1) (G0 (a + 2) q) (G0 (a + 6) p) (G0 (tvA B v + 7) (5 * f + k))).length := by
            rw [hL, List.length_append, List.length_append]
            omega
          have nbq := nbi_mono (G0 (a + 1)) che.2
          have nbp1 := nbi_lt (G0 (a + 1)) p0 z1 l
          obtain ⟨G3, x1, xcg, x2, x3, xwg, xsf, x4⟩ := ih q (by omega) z2 (by omega) G2 gf' iv (depth + 1) A Hh (m + pre.length) fr2 hm2 (by omega) (by omega) (by rw [← hsN, ← hq] at sf2; exact sf2) (fun lq => by
            have rq := (Tr_n kT (by omega) z2 lq).1
            have eu := hup q (by omega) z2 lq
            rw [z3] at eu
            have nb2 := nbi_mono (G0 (a + 1)) (show p + 1 ≤ q by omega)
            have e1 : nb (G0 (a + 1)) (p + 1).toNat = nb (G0 (a + 1)) p.toNat + 1 := by rw [nbi_s (G0 (a + 1)) p0, if_pos l]
            rw [eu, if_pos (by omega), hivE]) gp2 (by omega) (by omega) (by omega)
          have fr3 : ∀ x, ¬ (o ≤ x ∧ x ≤ o + 6) → G3 x = G0 x := fun x z => by rw [x1.1 x z, fr2 x z]
          obtain ⟨G4, y1, yj, y15, y16, y17, y4⟩ := gap_tail2 (nx := nx) (rc := 0) (rs := 0) (G := G3) (x1 := .ref a) (x2 := .int (zI p)) (x3 := .int (zI yv)) (x4 := .int (zI depth)) (x8 := .int (zI (G0 (a + 2) q))) (x10 := .int (zI (G0 (tvA B v + 4) (5 * f + k)))) (f := f) (own := own) (iv := iv) (k := k) (gp := G0 (tvA B v + 7) (5 * f + k)) oS o8 hto f0 f1 (by omega) (by omega) (by rw [fr3 _ (by omega)]) gb.1 gb.2 x1.2.2.1 x1.2.2.2
          refine ⟨G4, ⟨⟨fun x z => by rw [y1 x (by omega), x1.1 x z, cs2.1 x z], fun j z => by rw [y1 _ (by omega), x1.2.1 j (by omega), cs2.2.1 j z], by rw [yj _ (by omega) (by omega) (by omega)]; exact x1.2.2.1, by rw [yj _ (by omega) (by omega) (by omega)]; exact x1.2.2.2⟩, pre ++ spl (G0 (tvA B v + 3)) (G0 (tvA B v + 4)) (G0 (tvA B v + 7)) (G0 (a + 1)) (G0 (a + 2)) (G0 (a + 6)) fuel q A Hh, ?_, ?_, ?_, ?_, ?_, ?_, ?_⟩, fun Kn Kf hh => ?_⟩
          · rw [A1, H1, ← qn, List.append_assoc]
            exact hL
          · rw [yj _ (by omega) (by omega) (by omega), x2, List.length_append]
            omega
          · rw [y1 _ (by omega)]
            exact Wc_app (Wc_congr (fun j z => x1.2.1 j z) hw2) x3
          · refine CG_tr (CG_tr cg2 xcg (by omega)) (m' := m) (fun j z => ?_) (Int.le_refl _)
            rw [y1 _ (by omega), y1 _ (by omega), y1 _ (by omega)]
            exact ⟨rfl, rfl, rfl⟩
          · rw [y1 (o + 4) (by omega), y1 (o + 5) (by omega), y1 (o + 6) (by omega)]
            exact WG_app (WG_CG xcg (Int.le_refl _) wg2) xwg
          · rw [← qn]
            exact SFo_congr (fun j z => yj j (by omega) (by omega) (by omega)) xsf
          · refine Or.inr ?_
            rw [A1, H1]
            exact ⟨y15, by rw [y16, hown], by rw [y17, hivE]⟩
          · have tl : ∀ (Kn : List Value → q_M → Prop) (Kr : Option Value → q_M → Prop), q_spf Value.int (fun _ => True) 6 15 (q_r 0) (q_ai (q_fr 8 7 (q_fr 6 8 (q_r 0))) (q_2 q_giadd (q_2 q_gimul (q_l 5) (q_k 5)) (q_l 9))) [.ref o, .ref a, .int (zI p), .int (zI yv), .int (zI depth), .int (zI f), .int (zI own), .int (zI iv), .int (zI (G0 (a + 2) q)), .int (zI k), .int (zI (G0 (tvA B v + 4) (5 * f + k)))] (st T nx 0 0 R G3) (seqK (q_sq (q_spf Value.int (fun _ => True) 6 16 (q_r 0) (q_te (q_cm q_Req (q_fi 6 15 (q_r 0)) (q_k 2)) (q_l 6) (q_k (-1)))) (q_spf Value.int (fun _ => True) 6 17 (q_r 0) (q_l 7))) Kn Kr) Kr = Kn [.ref o, .ref a, .int (zI p), .int (zI yv), .int (zI depth), .int (zI f), .int (zI own), .int (zI iv), .int (zI (G0 (a + 2) q)), .int (zI k), .int (zI (G0 (tvA B v + 4) (5 * f + k)))] (st T nx 0 0 R G4) := y4
            rw [← qn] at hh
            have eq3 : G3 (a + 2) q = G0 (a + 2) q := by rw [fr3 _ (by omega)]
            show wcX6_emit_0 (gr0 gf') [.ref o, .ref a, .int (zI p), .int (zI yv), .int (zI depth), .int (zI f), .int (zI own), .int (zI iv), .int (zI (chI (G0 (a + 2)) p (nsl (fun k => G0 (tvA B v + 4) (5 * f + k)) k).toNat)), .int (zI k)] (st T nx 0 0 R G2) (fun μ' => wsX6_emit_0 (gr0 gf') [.ref o, .ref a, .int (zI p), .int (zI yv), .int (zI depth), .int (zI f), .int (zI own), .int (zI iv), .int (zI (chI (G0 (a + 2)) p (nsl (fun k => G0 (tvA B v + 4) (5 * f + k)) k).toNat)), .int (zI k)] μ' Kn _) Kf
            rw [← hsN, ← hq]
            have sd : ∀ (Kn : List Value → q_M → Prop) (Kr : Option Value → q_M → Prop), q_sdec Value.int 10 (q_ai (q_fr 8 4 (q_fr 6 8 (q_r 0))) (q_2 q_giadd (q_2 q_gimul (q_l 5) (q_k 5)) (q_l 9))) [.ref o, .ref a, .int (zI p), .int (zI yv), .int (zI depth), .int (zI f), .int (zI own), .int (zI iv), .int (zI q), .int (zI k)] (st T nx 0 0 R G2) Kn Kr = Kn [.ref o, .ref a, .int (zI p), .int (zI yv), .int (zI depth), .int (zI f), .int (zI own), .int (zI iv), .int (zI q), .int (zI k), .int (zI (G0 (tvA B v + 4) (5 * f + k)))] (st T nx 0 0 R G2) := by
              intro Kn Kr
              simp (disch := omega) only [↓k_mk, ↓k_sq, ↓k_sk, ↓k_bk, ↓k_if, ↓k_te, ↓k_cm, ↓k_cz, ↓k_an2, ↓k_or2, ↓k_no, ↓k_ci, ↓k_l0, ↓k_r0, ↓k_se0, ↓k_ic0, ↓k_l1, ↓k_r1, ↓k_se1, ↓k_ic1, ↓k_de1, ↓k_tk1, ↓k_l2, ↓k_r2, ↓k_se2, ↓k_ic2, ↓k_de2, ↓k_tk2, ↓k_l3, ↓k_r3, ↓k_se3, ↓k_ic3, ↓k_de3, ↓k_tk3, ↓k_l4, ↓k_r4, ↓k_se4, ↓k_ic4, ↓k_de4, ↓k_tk4, ↓k_l5, ↓k_r5, ↓k_se5, ↓k_ic5, ↓k_de5, ↓k_tk5, ↓k_l6, ↓k_r6, ↓k_se6, ↓k_ic6, ↓k_de6, ↓k_tk6, ↓k_l7, ↓k_r7, ↓k_se7, ↓k_ic7, ↓k_de7, ↓k_tk7, ↓k_l8, ↓k_r8, ↓k_se8, ↓k_ic8, ↓k_de8, ↓k_tk8, ↓k_l9, ↓k_r9, ↓k_se9, ↓k_ic9, ↓k_de9, ↓k_tk9, ↓k_l10, ↓k_r10, ↓k_se10, ↓k_ic10, ↓k_de10, ↓k_tk10, ↓k_l11, ↓k_r11, ↓k_se11, ↓k_ic11, ↓k_de11, ↓k_tk11, ↓k_l12, ↓k_r12, ↓k_se12, ↓k_ic12, ↓k_de12, ↓k_tk12, ↓k_l13, ↓k_r13, ↓k_se13, ↓k_ic13, ↓k_de13, ↓k_tk13, ↓k_l14, ↓k_r14, ↓k_se14, ↓k_ic14, ↓k_de14, ↓k_tk14, ↓k_l15, ↓k_r15, ↓k_se15, ↓k_ic15, ↓k_de15, ↓k_tk15, ↓k_l16, ↓k_r16, ↓k_se16, ↓k_ic16, ↓k_de16, ↓k_tk16, ↓k_l17, ↓k_r17, ↓k_se17, ↓k_ic17, ↓k_de17, ↓k_tk17, ↓k_l18, ↓k_r18, ↓k_se18, ↓k_ic18, ↓k_de18, ↓k_tk18, ↓k_l19, ↓k_r19, ↓k_se19, ↓k_ic19, ↓k_de19, ↓k_tk19, ↓k_l20, ↓k_r20, ↓k_se20, ↓k_ic20, ↓k_de20, ↓k_tk20, ↓k_l21, ↓k_r21, ↓k_se21, ↓k_ic21, ↓k_de21, ↓k_tk21, ↓k_l22, ↓k_r22, ↓k_se22, ↓k_ic22, ↓k_de22, ↓k_tk22, ↓k_l23, ↓k_r23, ↓k_se23, ↓k_ic23, ↓k_de23, ↓k_tk23, ↓k_l24, ↓k_r24, ↓k_se24, ↓k_ic24, ↓k_de24, ↓k_tk24, ↓k_l25, ↓k_r25, ↓k_se25, ↓k_ic25, ↓k_de25, ↓k_tk25, ↓k_k, ↓k_kn, ↓k_kl, ↓k_kln, ↓k_il, ↓k_2, ↓k_1, ↓k_2c, ↓k_2l, ↓k_ac, ↓k_an, ↓k_cs, ↓k_cv, ↓k_fi, ↓k_fr, ↓k_ai, ↓k_az, ↓k_ar, ↓k_sai, ↓k_saz, ↓k_soa, ↓k_sof, ↓k_spf, ↓k_sx, ↓k_blk, ↓k_sset, ↓k_sdec, ↓k_sri, ↓k_srv, ↓k_srr, ↓k_nop, ↓k_add, ↓k_sub, ↓k_mul, ↓k_min, ↓k_max, ↓k_shr, ↓k_shl, ↓k_or, ↓k_ilz, ↓k_addl, ↓k_rt, ↓k_rb, ↓k_rbz, ↓k_rsi, ↓k_rsr, ↓k_rsv, ↓reduceIte, it, ↓xr6_8 oS, ↓xr8_4 o8, ↓xa8_4 o8, ↓xs8_4 o8, ↓xo8_4 o8, ↓xc8_4 o8, ↓xd8_4 o8, List.length_cons, List.length_nil, List.forall_mem_cons, List.not_mem_nil, Value.category, true_and, and_true, false_and, and_false, or_true, true_or, or_false, false_or, Nat.zero_le, forall_const, implies_true, false_implies, Nat.zero_add, Nat.reduceAdd, Nat.reduceLT, Nat.reduceLeDiff, Nat.le_refl, not_true_eq_false, not_false_eq_true, r_eq, r_ne, r_lt, r_ge, r_gt, r_le, bz_ne, nn_toNat, cn_of, cn_0, cn_1, i10, Int.reduceLE, Int.reduceLT, Int.reduceEq, bz_T, bz_F, ite_self, mulc, st_bud]
            simp (disch := omega) only [↓k_mk, ↓k_sq, ↓k_sk, ↓k_bk, ↓k_if, ↓k_te, ↓k_cm, ↓k_cz, ↓k_an2, ↓k_or2, ↓k_no, ↓k_ci, ↓k_l0, ↓k_r0, ↓k_se0, ↓k_ic0, ↓k_l1, ↓k_r1, ↓k_se1, ↓k_ic1, ↓k_de1, ↓k_tk1, ↓k_l2, ↓k_r2, ↓k_se2, ↓k_ic2, ↓k_de2, ↓k_tk2, ↓k_l3, ↓k_r3, ↓k_se3, ↓k_ic3, ↓k_de3, ↓k_tk3, ↓k_l4, ↓k_r4, ↓k_se4, ↓k_ic4, ↓k_de4, ↓k_tk4, ↓k_l5, ↓k_r5, ↓k_se5, ↓k_ic5, ↓k_de5, ↓k_tk5, ↓k_l6, ↓k_r6, ↓k_se6, ↓k_ic6, ↓k_de6, ↓k_tk6, ↓k_l7, ↓k_r7, ↓k_se7, ↓k_ic7, ↓k_de7, ↓k_tk7, ↓k_l8, ↓k_r8, ↓k_se8, ↓k_ic8, ↓k_de8, ↓k_tk8, ↓k_l9, ↓k_r9, ↓k_se9, ↓k_ic9, ↓k_de9, ↓k_tk9, ↓k_l10, ↓k_r10, ↓k_se10, ↓k_ic10, ↓k_de10, ↓k_tk10, ↓k_l11, ↓k_r11, ↓k_se11, ↓k_ic11, ↓k_de11, ↓k_tk11, ↓k_l12, ↓k_r12, ↓k_se12, ↓k_ic12, ↓k_de12, ↓k_tk12, ↓k_l13, ↓k_r13, ↓k_se13, ↓k_ic13, ↓k_de13, ↓k_tk13, ↓k_l14, ↓k_r14, ↓k_se14, ↓k_ic14, ↓k_de14, ↓k_tk14, ↓k_l15, ↓k_r15, ↓k_se15, ↓k_ic15, ↓k_de15, ↓k_tk15, ↓k_l16, ↓k_r16, ↓k_se16, ↓k_ic16, ↓k_de16, ↓k_tk16, ↓k_l17, ↓k_r17, ↓k_se17, ↓k_ic17, ↓k_de17, ↓k_tk17, ↓k_l18, ↓k_r18, ↓k_se18, ↓k_ic18, ↓k_de18, ↓k_tk18, ↓k_l19, ↓k_r19, ↓k_se19, ↓k_ic19, ↓k_de19, ↓k_tk19, ↓k_l20, ↓k_r20, ↓k_se20, ↓k_ic20, ↓k_de20, ↓k_tk20, ↓k_l21, ↓k_r21, ↓k_se21, ↓k_ic21, ↓k_de21, ↓k_tk21, ↓k_l22, ↓k_r22, ↓k_se22, ↓k_ic22, ↓k_de22, ↓k_tk22, ↓k_l23, ↓k_r23, ↓k_se23, ↓k_ic23, ↓k_de23, ↓k_tk23, ↓k_l24, ↓k_r24, ↓k_se24, ↓k_ic24, ↓k_de24, ↓k_tk24, ↓k_l25, ↓k_r25, ↓k_se25, ↓k_ic25, ↓k_de25, ↓k_tk25, ↓k_k, ↓k_kn, ↓k_kl, ↓k_kln, ↓k_il, ↓k_2, ↓k_1, ↓k_2c, ↓k_2l, ↓k_ac, ↓k_an, ↓k_cs, ↓k_cv, ↓k_fi, ↓k_fr, ↓k_ai, ↓k_az, ↓k_ar, ↓k_sai, ↓k_saz, ↓k_soa, ↓k_sof, ↓k_sx, ↓k_blk, ↓k_sset, ↓k_sri, ↓k_srv, ↓k_srr, ↓k_nop, ↓k_add, ↓k_sub, ↓k_mul, ↓k_min, ↓k_max, ↓k_shr, ↓k_shl, ↓k_or, ↓k_ilz, ↓k_addl, ↓k_rt, ↓k_rb, ↓k_rbz, ↓k_rsi, ↓k_rsr, ↓k_rsv, ↓reduceIte, ↓wcX6_emit_0.eq_1, ↓wsX6_emit_0.eq_1, g3, hz, ↓sd, ↓(k_cs1 dX11_isWord), ↓c11_isWord, w, ↓(k_cv4 (dgr0 gf' 0) (t6 oS)), ↓x4, eq3, ↓tl, ↓xr6_8 oS, ↓xr8_3 o8, ↓xa8_3 o8, ↓xs8_3 o8, ↓xo8_3 o8, ↓xc8_3 o8, ↓xd8_3 o8, ↓xr9_6 o9, ↓xa9_6 o9, ↓xs9_6 o9, ↓xo9_6 o9, ↓xc9_6 o9, ↓xd9_6 o9, List.length_cons, List.length_nil, List.forall_mem_cons, List.not_mem_nil, Value.category, true_and, and_true, false_and, and_false, or_true, true_or, or_false, false_or, Nat.zero_le, forall_const, implies_true, false_implies, Nat.zero_add, Nat.reduceAdd, Nat.reduceLT, Nat.reduceLeDiff, Nat.le_refl, not_true_eq_false, not_false_eq_true, r_eq, r_ne, r_lt, r_ge, r_gt, r_le, bz_ne, nn_toNat, cn_of, cn_0, cn_1, i10, Int.reduceLE, Int.reduceLT, Int.reduceEq, bz_T, bz_F, ite_self, mulc, st_bud]
            exact hh) (fun G2 ⟨cs2, _⟩ Kt Kf hh => by
        have g3 : G2 (tvA B v + 3) f = N := by rw [cs2.1 _ (by omega), fr1 _ (by omega)]; exact eN.symm
        have hz : ¬ N < N := by omega
        simp (disch := omega) only [↓k_mk, ↓k_sq, ↓k_sk, ↓k_bk, ↓k_if, ↓k_te, ↓k_cm, ↓k_cz, ↓k_an2, ↓k_or2, ↓k_no, ↓k_ci, ↓k_l0, ↓k_r0, ↓k_se0, ↓k_ic0, ↓k_l1, ↓k_r1, ↓k_se1, ↓k_ic1, ↓k_de1, ↓k_tk1, ↓k_l2, ↓k_r2, ↓k_se2, ↓k_ic2, ↓k_de2, ↓k_tk2, ↓k_l3, ↓k_r3, ↓k_se3, ↓k_ic3, ↓k_de3, ↓k_tk3, ↓k_l4, ↓k_r4, ↓k_se4, ↓k_ic4, ↓k_de4, ↓k_tk4, ↓k_l5, ↓k_r5, ↓k_se5, ↓k_ic5, ↓k_de5, ↓k_tk5, ↓k_l6, ↓k_r6, ↓k_se6, ↓k_ic6, ↓k_de6, ↓k_tk6, ↓k_l7, ↓k_r7, ↓k_se7, ↓k_ic7, ↓k_de7, ↓k_tk7, ↓k_l8, ↓k_r8, ↓k_se8, ↓k_ic8, ↓k_de8, ↓k_tk8, ↓k_l9, ↓k_r9, ↓k_se9, ↓k_ic9, ↓k_de9, ↓k_tk9, ↓k_l10, ↓k_r10, ↓k_se10, ↓k_ic10, ↓k_de10, ↓k_tk10, ↓k_l11, ↓k_r11, ↓k_se11, ↓k_ic11, ↓k_de11, ↓k_tk11, ↓k_l12, ↓k_r12, ↓k_se12, ↓k_ic12, ↓k_de12, ↓k_tk12, ↓k_l13, ↓k_r13, ↓k_se13, ↓k_ic13, ↓k_de13, ↓k_tk13, ↓k_l14, ↓k_r14, ↓k_se14, ↓k_ic14, ↓k_de14, ↓k_tk14, ↓k_l15, ↓k_r15, ↓k_se15, ↓k_ic15, ↓k_de15, ↓k_tk15, ↓k_l16, ↓k_r16, ↓k_se16, ↓k_ic16, ↓k_de16, ↓k_tk16, ↓k_l17, ↓k_r17, ↓k_se17, ↓k_ic17, ↓k_de17, ↓k_tk17, ↓k_l18, ↓k_r18, ↓k_se18, ↓k_ic18, ↓k_de18, ↓k_tk18, ↓k_l19, ↓k_r19, ↓k_se19, ↓k_ic19, ↓k_de19, ↓k_tk19, ↓k_l20, ↓k_r20, ↓k_se20, ↓k_ic20, ↓k_de20, ↓k_tk20, ↓k_l21, ↓k_r21, ↓k_se21, ↓k_ic21, ↓k_de21, ↓k_tk21, ↓k_l22, ↓k_r22, ↓k_se22, ↓k_ic22, ↓k_de22, ↓k_tk22, ↓k_l23, ↓k_r23, ↓k_se23, ↓k_ic23, ↓k_de23, ↓k_tk23, ↓k_l24, ↓k_r24, ↓k_se24, ↓k_ic24, ↓k_de24, ↓k_tk24, ↓k_l25, ↓k_r25, ↓k_se25, ↓k_ic25, ↓k_de25, ↓k_tk25, ↓k_k, ↓k_kn, ↓k_kl, ↓k_kln, ↓k_il, ↓k_2, ↓k_1, ↓k_2c, ↓k_2l, ↓k_ac, ↓k_an, ↓k_cs, ↓k_cv, ↓k_fi, ↓k_fr, ↓k_ai, ↓k_az, ↓k_ar, ↓k_sai, ↓k_saz, ↓k_soa, ↓k_sof, ↓k_spf, ↓k_sx, ↓k_blk, ↓k_sset, ↓k_sdec, ↓k_sri, ↓k_srv, ↓k_srr, ↓k_nop, ↓k_add, ↓k_sub, ↓k_mul, ↓k_min, ↓k_max, ↓k_shr, ↓k_shl, ↓k_or, ↓k_ilz, ↓k_addl, ↓k_rt, ↓k_rb, ↓k_rbz, ↓k_rsi, ↓k_rsr, ↓k_rsv, ↓reduceIte, ↓wcX6_emit_0.eq_1, g3, hz, ↓xr6_8 oS, ↓xr8_3 o8, ↓xa8_3 o8, ↓xs8_3 o8, ↓xo8_3 o8, ↓xc8_3 o8, ↓xd8_3 o8, List.length_cons, List.length_nil, List.forall_mem_cons, List.not_mem_nil, Value.category, true_and, and_true, false_and, and_false, or_true, true_or, or_false, false_or, Nat.zero_le, forall_const, implies_true, false_implies, Nat.zero_add, Nat.reduceAdd, Nat.reduceLT, Nat.reduceLeDiff, Nat.le_refl, not_true_eq_false, not_false_eq_true, r_eq, r_ne, r_lt, r_ge, r_gt, r_le, bz_ne, nn_toNat, cn_of, cn_0, cn_1, i10, Int.reduceLE, Int.reduceLT, Int.reduceEq, bz_T, bz_F, ite_self, mulc, st_bud]
        exact hh)
      rw [show N.toNat - N.toNat = 0 by omega] at hL
      have hL2 : spi (spl (G0 (tvA B v + 3)) (G0 (tvA B v + 4)) (G0 (tvA B v + 7)) (G0 (a + 1)) (G0 (a + 2)) (G0 (a + 6)) fuel) (G0 (tvA B v + 4)) (G0 (tvA B v + 7)) (G0 (a + 2)) f (G0 (a + 6) p) N.toNat 0 (p + 1) ah hw = pre := by
        rw [hL]
        exact List.append_nil pre
      have chN : chI (G0 (a + 2)) p (nsl (fun k => G0 (tvA B v + 4) (5 * f + k)) N.toNat).toNat = G0 (a + 2) p := by
        rw [← hns]
        exact hend
      rw [chN] at sf2
      refine ⟨G2, CS_tr cs1 cs2 (Int.le_refl _), CG_tr (m' := m) (fun j z => by rw [cs1x _ (by omega), cs1x _ (by omega), cs1x _ (by omega)]; exact ⟨rfl, rfl, rfl⟩) cg2 (Int.le_refl _), by rw [es, hL2]; exact hm2, by rw [es, hL2]; exact hw2, by rw [es, hL2]; exact wg2, sf2, fun K => ?_⟩
      have d40 : ¬ 40 < depth := by
        have := nbi_lt (G0 (a + 1)) p0 (show p < G0 (a + 2) p by omega) l
        omega
      have l' : 1000 ≤ G (a + 1) p := by rw [gc]; exact l
      have s5 : ∀ (Kn : List Value → q_M → Prop) (Kr : Option Value → q_M → Prop), q_sdec Value.int 5 (q_2 q_gisub (q_ai (q_fr 9 5 (q_r 1)) (q_l 2)) (q_k 1000)) [.ref o, .ref a, .int (zI p), .int (zI yv), .int (zI depth)] (st T nx 0 0 R G) Kn Kr = Kn [.ref o, .ref a, .int (zI p), .int (zI yv), .int (zI depth), .int (zI f)] (st T nx 0 0 R G) := by
        intro Kn Kr
        simp (disch := omega) only [↓k_mk, ↓k_sq, ↓k_sk, ↓k_bk, ↓k_if, ↓k_te, ↓k_cm, ↓k_cz, ↓k_an2, ↓k_or2, ↓k_no, ↓k_ci, ↓k_l0, ↓k_r0, ↓k_se0, ↓k_ic0, ↓k_l1, ↓k_r1, ↓k_se1, ↓k_ic1, ↓k_de1, ↓k_tk1, ↓k_l2, ↓k_r2, ↓k_se2, ↓k_ic2, ↓k_de2, ↓k_tk2, ↓k_l3, ↓k_r3, ↓k_se3, ↓k_ic3, ↓k_de3, ↓k_tk3, ↓k_l4, ↓k_r4, ↓k_se4, ↓k_ic4, ↓k_de4, ↓k_tk4, ↓k_l5, ↓k_r5, ↓k_se5, ↓k_ic5, ↓k_de5, ↓k_tk5, ↓k_l6, ↓k_r6, ↓k_se6, ↓k_ic6, ↓k_de6, ↓k_tk6, ↓k_l7, ↓k_r7, ↓k_se7, ↓k_ic7, ↓k_de7, ↓k_tk7, ↓k_l8, ↓k_r8, ↓k_se8, ↓k_ic8, ↓k_de8, ↓k_tk8, ↓k_l9, ↓k_r9, ↓k_se9, ↓k_ic9, ↓k_de9, ↓k_tk9, ↓k_l10, ↓k_r10, ↓k_se10, ↓k_ic10, ↓k_de10, ↓k_tk10, ↓k_l11, ↓k_r11, ↓k_se11, ↓k_ic11, ↓k_de11, ↓k_tk11, ↓k_l12, ↓k_r12, ↓k_se12, ↓k_ic12, ↓k_de12, ↓k_tk12, ↓k_l13, ↓k_r13, ↓k_se13, ↓k_ic13, ↓k_de13, ↓k_tk13, ↓k_l14, ↓k_r14, ↓k_se14, ↓k_ic14, ↓k_de14, ↓k_tk14, ↓k_l15, ↓k_r15, ↓k_se15, ↓k_ic15, ↓k_de15, ↓k_tk15, ↓k_l16, ↓k_r16, ↓k_se16, ↓k_ic16, ↓k_de16, ↓k_tk16, ↓k_l17, ↓k_r17, ↓k_se17, ↓k_ic17, ↓k_de17, ↓k_tk17, ↓k_l18, ↓k_r18, ↓k_se18, ↓k_ic18, ↓k_de18, ↓k_tk18, ↓k_l19, ↓k_r19, ↓k_se19, ↓k_ic19, ↓k_de19, ↓k_tk19, ↓k_l20, ↓k_r20, ↓k_se20, ↓k_ic20, ↓k_de20, ↓k_tk20, ↓k_l21, ↓k_r21, ↓k_se21, ↓k_ic21, ↓k_de21, ↓k_tk21, ↓k_l22, ↓k_r22, ↓k_se22, ↓k_ic22, ↓k_de22, ↓k_tk22, ↓k_l23, ↓k_r23, ↓k_se23, ↓k_ic23, ↓k_de23, ↓k_tk23, ↓k_l24, ↓k_r24, ↓k_se24, ↓k_ic24, ↓k_de24, ↓k_tk24, ↓k_l25, ↓k_r25, ↓k_se25, ↓k_ic25, ↓k_de25, ↓k_tk25, ↓k_k, ↓k_kn, ↓k_kl, ↓k_kln, ↓k_il, ↓k_2, ↓k_1, ↓k_2c, ↓k_2l, ↓k_ac, ↓k_an, ↓k_cs, ↓k_cv, ↓k_fi, ↓k_fr, ↓k_ai, ↓k_az, ↓k_ar, ↓k_sai, ↓k_saz, ↓k_soa, ↓k_sof, ↓k_spf, ↓k_sx, ↓k_blk, ↓k_sset, ↓k_sdec, ↓k_sri, ↓k_srv, ↓k_srr, ↓k_nop, ↓k_add, ↓k_sub, ↓k_mul, ↓k_min, ↓k_max, ↓k_shr, ↓k_shl, ↓k_or, ↓k_ilz, ↓k_addl, ↓k_rt, ↓k_rb, ↓k_rbz, ↓k_rsi, ↓k_rsr, ↓k_rsv, ↓reduceIte, gcf, ↓xr9_5 o9, ↓xa9_5 o9, ↓xs9_5 o9, ↓xo9_5 o9, ↓xc9_5 o9, ↓xd9_5 o9, List.length_cons, List.length_nil, List.forall_mem_cons, List.not_mem_nil, Value.category, true_and, and_true, false_and, and_false, or_true, true_or, or_false, false_or, Nat.zero_le, forall_const, implies_true, false_implies, Nat.zero_add, Nat.reduceAdd, Nat.reduceLT, Nat.reduceLeDiff, Nat.le_refl, not_true_eq_false, not_false_eq_true, r_eq, r_ne, r_lt, r_ge, r_gt, r_le, bz_ne, nn_toNat, cn_of, cn_0, cn_1, i10, Int.reduceLE, Int.reduceLT, Int.reduceEq, bz_T, bz_F, ite_self, mulc, st_bud]
      have s6 : ∀ (Kn : List Value → q_M → Prop) (Kr : Option Value → q_M → Prop), q_sdec Value.int 6 (q_cv q_oi 6 2 0 0 fX6_countSoft (q_r 0) (q_ac Value.ref (q_r 1) (q_ac Value.int (q_l 2) q_an))) [.ref o, .ref a, .int (zI p), .int (zI yv), .int (zI depth), .int (zI f)] (st T nx 0 0 R G) Kn Kr = Kn [.ref o, .ref a, .int (zI p), .int (zI yv), .int (zI depth), .int (zI f), .int (zI own)] (st T nx 0 0 R G1) := by
        intro Kn Kr
        simp (disch := omega) only [↓k_mk, ↓k_sq, ↓k_sk, ↓k_bk, ↓k_if, ↓k_te, ↓k_cm, ↓k_cz, ↓k_an2, ↓k_or2, ↓k_no, ↓k_ci, ↓k_l0, ↓k_r0, ↓k_se0, ↓k_ic0, ↓k_l1, ↓k_r1, ↓k_se1, ↓k_ic1, ↓k_de1, ↓k_tk1, ↓k_l2, ↓k_r2, ↓k_se2, ↓k_ic2, ↓k_de2, ↓k_tk2, ↓k_l3, ↓k_r3, ↓k_se3, ↓k_ic3, ↓k_de3, ↓k_tk3, ↓k_l4, ↓k_r4, ↓k_se4, ↓k_ic4, ↓k_de4, ↓k_tk4, ↓k_l5, ↓k_r5, ↓k_se5, ↓k_ic5, ↓k_de5, ↓k_tk5, ↓k_l6, ↓k_r6, ↓k_se6, ↓k_ic6, ↓k_de6, ↓k_tk6, ↓k_l7, ↓k_r7, ↓k_se7, ↓k_ic7, ↓k_de7, ↓k_tk7, ↓k_l8, ↓k_r8, ↓k_se8, ↓k_ic8, ↓k_de8, ↓k_tk8, ↓k_l9, ↓k_r9, ↓k_se9, ↓k_ic9, ↓k_de9, ↓k_tk9, ↓k_l10, ↓k_r10, ↓k_se10, ↓k_ic10, ↓k_de10, ↓k_tk10, ↓k_l11, ↓k_r11, ↓k_se11, ↓k_ic11, ↓k_de11, ↓k_tk11, ↓k_l12, ↓k_r12, ↓k_se12, ↓k_ic12, ↓k_de12, ↓k_tk12, ↓k_l13, ↓k_r13, ↓k_se13, ↓k_ic13, ↓k_de13, ↓k_tk13, ↓k_l14, ↓k_r14, ↓k_se14, ↓k_ic14, ↓k_de14, ↓k_tk14, ↓k_l15, ↓k_r15, ↓k_se15, ↓k_ic15, ↓k_de15, ↓k_tk15, ↓k_l16, ↓k_r16, ↓k_se16, ↓k_ic16, ↓k_de16, ↓k_tk16, ↓k_l17, ↓k_r17, ↓k_se17, ↓k_ic17, ↓k_de17, ↓k_tk17, ↓k_l18, ↓k_r18, ↓k_se18, ↓k_ic18, ↓k_de18, ↓k_tk18, ↓k_l19, ↓k_r19, ↓k_se19, ↓k_ic19, ↓k_de19, ↓k_tk19, ↓k_l20, ↓k_r20, ↓k_se20, ↓k_ic20, ↓k_de20, ↓k_tk20, ↓k_l21, ↓k_r21, ↓k_se21, ↓k_ic21, ↓k_de21, ↓k_tk21, ↓k_l22, ↓k_r22, ↓k_se22, ↓k_ic22, ↓k_de22, ↓k_tk22, ↓k_l23, ↓k_r23, ↓k_se23, ↓k_ic23, ↓k_de23, ↓k_tk23, ↓k_l24, ↓k_r24, ↓k_se24, ↓k_ic24, ↓k_de24, ↓k_tk24, ↓k_l25, ↓k_r25, ↓k_se25, ↓k_ic25, ↓k_de25, ↓k_tk25, ↓k_k, ↓k_kn, ↓k_kl, ↓k_kln, ↓k_il, ↓k_2, ↓k_1, ↓k_2c, ↓k_2l, ↓k_ac, ↓k_an, ↓k_cs, ↓k_cv, ↓k_fi, ↓k_fr, ↓k_ai, ↓k_az, ↓k_ar, ↓k_sai, ↓k_saz, ↓k_soa, ↓k_sof, ↓k_spf, ↓k_sx, ↓k_blk, ↓k_sset, ↓k_sdec, ↓k_sri, ↓k_srv, ↓k_srr, ↓k_nop, ↓k_add, ↓k_sub, ↓k_mul, ↓k_min, ↓k_max, ↓k_shr, ↓k_shl, ↓k_or, ↓k_ilz, ↓k_addl, ↓k_rt, ↓k_rb, ↓k_rbz, ↓k_rsi, ↓k_rsr, ↓k_rsv, ↓reduceIte, ↓(k_cv2 dX6_countSoft (t6 oS)), ↓cS, List.length_cons, List.length_nil, List.forall_mem_cons, List.not_mem_nil, Value.category, true_and, and_true, false_and, and_false, or_true, true_or, or_false, false_or, Nat.zero_le, forall_const, implies_true, false_implies, Nat.zero_add, Nat.reduceAdd, Nat.reduceLT, Nat.reduceLeDiff, Nat.le_refl, not_true_eq_false, not_false_eq_true, r_eq, r_ne, r_lt, r_ge, r_gt, r_le, bz_ne, nn_toNat, cn_of, cn_0, cn_1, i10, Int.reduceLE, Int.reduceLT, Int.reduceEq, bz_T, bz_F, ite_self, mulc, st_bud]
      have s7 : ∀ (Kn : List Value → q_M → Prop) (Kr : Option Value → q_M → Prop), q_sdec Value.int 7 (q_te (q_cm q_Req (q_l 6) (q_k (-1))) (q_l 3) (q_2 q_gior (q_l 3) (q_2 q_gishl (q_k 1) (q_l 6)))) [.ref o, .ref a, .int (zI p), .int (zI yv), .int (zI depth), .int (zI f), .int (zI own)] (st T nx 0 0 R G1) Kn Kr = Kn [.ref o, .ref a, .int (zI p), .int (zI yv), .int (zI depth), .int (zI f), .int (zI own), .int (zI iv)] (st T nx 0 0 R G1) := by
        intro Kn Kr
        rw [← hiv]
        by_cases x : own = -1
        · rw [if_pos x]
          simp (disch := omega) only [↓k_mk, ↓k_sq, ↓k_sk, ↓k_bk, ↓k_if, ↓k_te, ↓k_cm, ↓k_cz, ↓k_an2, ↓k_or2, ↓k_no, ↓k_ci, ↓k_l0, ↓k_r0, ↓k_se0, ↓k_ic0, ↓k_l1, ↓k_r1, ↓k_se1, ↓k_ic1, ↓k_de1, ↓k_tk1, ↓k_l2, ↓k_r2, ↓k_se2, ↓k_ic2, ↓k_de2, ↓k_tk2, ↓k_l3, ↓k_r3, ↓k_se3, ↓k_ic3, ↓k_de3, ↓k_tk3, ↓k_l4, ↓k_r4, ↓k_se4, ↓k_ic4, ↓k_de4, ↓k_tk4, ↓k_l5, ↓k_r5, ↓k_se5, ↓k_ic5, ↓k_de5, ↓k_tk5, ↓k_l6, ↓k_r6, ↓k_se6, ↓k_ic6, ↓k_de6, ↓k_tk6, ↓k_l7, ↓k_r7, ↓k_se7, ↓k_ic7, ↓k_de7, ↓k_tk7, ↓k_l8, ↓k_r8, ↓k_se8, ↓k_ic8, ↓k_de8, ↓k_tk8, ↓k_l9, ↓k_r9, ↓k_se9, ↓k_ic9, ↓k_de9, ↓k_tk9, ↓k_l10, ↓k_r10, ↓k_se10, ↓k_ic10, ↓k_de10, ↓k_tk10, ↓k_l11, ↓k_r11, ↓k_se11, ↓k_ic11, ↓k_de11, ↓k_tk11, ↓k_l12, ↓k_r12, ↓k_se12, ↓k_ic12, ↓k_de12, ↓k_tk12, ↓k_l13, ↓k_r13, ↓k_se13, ↓k_ic13, ↓k_de13, ↓k_tk13, ↓k_l14, ↓k_r14, ↓k_se14, ↓k_ic14, ↓k_de14, ↓k_tk14, ↓k_l15, ↓k_r15, ↓k_se15, ↓k_ic15, ↓k_de15, ↓k_tk15, ↓k_l16, ↓k_r16, ↓k_se16, ↓k_ic16, ↓k_de16, ↓k_tk16, ↓k_l17, ↓k_r17, ↓k_se17, ↓k_ic17, ↓k_de17, ↓k_tk17, ↓k_l18, ↓k_r18, ↓k_se18, ↓k_ic18, ↓k_de18, ↓k_tk18, ↓k_l19, ↓k_r19, ↓k_se19, ↓k_ic19, ↓k_de19, ↓k_tk19, ↓k_l20, ↓k_r20, ↓k_se20, ↓k_ic20, ↓k_de20, ↓k_tk20, ↓k_l21, ↓k_r21, ↓k_se21, ↓k_ic21, ↓k_de21, ↓k_tk21, ↓k_l22, ↓k_r22, ↓k_se22, ↓k_ic22, ↓k_de22, ↓k_tk22, ↓k_l23, ↓k_r23, ↓k_se23, ↓k_ic23, ↓k_de23, ↓k_tk23, ↓k_l24, ↓k_r24, ↓k_se24, ↓k_ic24, ↓k_de24, ↓k_tk24, ↓k_l25, ↓k_r25, ↓k_se25, ↓k_ic25, ↓k_de25, ↓k_tk25, ↓k_k, ↓k_kn, ↓k_kl, ↓k_kln, ↓k_il, ↓k_2, ↓k_1, ↓k_2c, ↓k_2l, ↓k_ac, ↓k_an, ↓k_cs, ↓k_cv, ↓k_fi, ↓k_fr, ↓k_ai, ↓k_az, ↓k_ar, ↓k_sai, ↓k_saz, ↓k_soa, ↓k_sof, ↓k_spf, ↓k_sx, ↓k_blk, ↓k_sset, ↓k_sdec, ↓k_sri, ↓k_srv, ↓k_srr, ↓k_nop, ↓k_add, ↓k_sub, ↓k_mul, ↓k_min, ↓k_max, ↓k_shr, ↓k_shl, ↓k_or, ↓k_ilz, ↓k_addl, ↓k_rt, ↓k_rb, ↓k_rbz, ↓k_rsi, ↓k_rsr, ↓k_rsv, ↓reduceIte, x, eq_self, List.length_cons, List.length_nil, List.forall_mem_cons, List.not_mem_nil, Value.category, true_and, and_true, false_and, and_false, or_true, true_or, or_false, false_or, Nat.zero_le, forall_const, implies_true, false_implies, Nat.zero_add, Nat.reduceAdd, Nat.reduceLT, Nat.reduceLeDiff, Nat.le_refl, not_true_eq_false, not_false_eq_true, r_eq, r_ne, r_lt, r_ge, r_gt, r_le, bz_ne, nn_toNat, cn_of, cn_0, cn_1, i10, Int.reduceLE, Int.reduceLT, Int.reduceEq, bz_T, bz_F, ite_self, mulc, st_bud]
        · rw [if_neg x]
          simp (disch := omega) only [↓k_mk, ↓k_sq, ↓k_sk, ↓k_bk, ↓k_if, ↓k_te, ↓k_cm, ↓k_cz, ↓k_an2, ↓k_or2, ↓k_no, ↓k_ci, ↓k_l0, ↓k_r0, ↓k_se0, ↓k_ic0, ↓k_l1, ↓k_r1, ↓k_se1, ↓k_ic1, ↓k_de1, ↓k_tk1, ↓k_l2, ↓k_r2, ↓k_se2, ↓k_ic2, ↓k_de2, ↓k_tk2, ↓k_l3, ↓k_r3, ↓k_se3, ↓k_ic3, ↓k_de3, ↓k_tk3, ↓k_l4, ↓k_r4, ↓k_se4, ↓k_ic4, ↓k_de4, ↓k_tk4, ↓k_l5, ↓k_r5, ↓k_se5, ↓k_ic5, ↓k_de5, ↓k_tk5, ↓k_l6, ↓k_r6, ↓k_se6, ↓k_ic6, ↓k_de6, ↓k_tk6, ↓k_l7, ↓k_r7, ↓k_se7, ↓k_ic7, ↓k_de7, ↓k_tk7, ↓k_l8, ↓k_r8, ↓k_se8, ↓k_ic8, ↓k_de8, ↓k_tk8, ↓k_l9, ↓k_r9, ↓k_se9, ↓k_ic9, ↓k_de9, ↓k_tk9, ↓k_l10, ↓k_r10, ↓k_se10, ↓k_ic10, ↓k_de10, ↓k_tk10, ↓k_l11, ↓k_r11, ↓k_se11, ↓k_ic11, ↓k_de11, ↓k_tk11, ↓k_l12, ↓k_r12, ↓k_se12, ↓k_ic12, ↓k_de12, ↓k_tk12, ↓k_l13, ↓k_r13, ↓k_se13, ↓k_ic13, ↓k_de13, ↓k_tk13, ↓k_l14, ↓k_r14, ↓k_se14, ↓k_ic14, ↓k_de14, ↓k_tk14, ↓k_l15, ↓k_r15, ↓k_se15, ↓k_ic15, ↓k_de15, ↓k_tk15, ↓k_l16, ↓k_r16, ↓k_se16, ↓k_ic16, ↓k_de16, ↓k_tk16, ↓k_l17, ↓k_r17, ↓k_se17, ↓k_ic17, ↓k_de17, ↓k_tk17, ↓k_l18, ↓k_r18, ↓k_se18, ↓k_ic18, ↓k_de18, ↓k_tk18, ↓k_l19, ↓k_r19, ↓k_se19, ↓k_ic19, ↓k_de19, ↓k_tk19, ↓k_l20, ↓k_r20, ↓k_se20, ↓k_ic20, ↓k_de20, ↓k_tk20, ↓k_l21, ↓k_r21, ↓k_se21, ↓k_ic21, ↓k_de21, ↓k_tk21, ↓k_l22, ↓k_r22, ↓k_se22, ↓k_ic22, ↓k_de22, ↓k_tk22, ↓k_l23, ↓k_r23, ↓k_se23, ↓k_ic23, ↓k_de23, ↓k_tk23, ↓k_l24, ↓k_r24, ↓k_se24, ↓k_ic24, ↓k_de24, ↓k_tk24, ↓k_l25, ↓k_r25, ↓k_se25, ↓k_ic25, ↓k_de25, ↓k_tk25, ↓k_k, ↓k_kn, ↓k_kl, ↓k_kln, ↓k_il, ↓k_2, ↓k_1, ↓k_2c, ↓k_2l, ↓k_ac, ↓k_an, ↓k_cs, ↓k_cv, ↓k_fi, ↓k_fr, ↓k_ai, ↓k_az, ↓k_ar, ↓k_sai, ↓k_saz, ↓k_soa, ↓k_sof, ↓k_spf, ↓k_sx, ↓k_blk, ↓k_sset, ↓k_sdec, ↓k_sri, ↓k_srv, ↓k_srr, ↓k_nop, ↓k_add, ↓k_sub, ↓k_mul, ↓k_min, ↓k_max, ↓k_shr, ↓k_shl, ↓k_or, ↓k_ilz, ↓k_addl, ↓k_rt, ↓k_rb, ↓k_rbz, ↓k_rsi, ↓k_rsr, ↓k_rsv, ↓reduceIte, x, List.length_cons, List.length_nil, List.forall_mem_cons, List.not_mem_nil, Value.category, true_and, and_true, false_and, and_false, or_true, true_or, or_false, false_or, Nat.zero_le, forall_const, implies_true, false_implies, Nat.zero_add, Nat.reduceAdd, Nat.reduceLT, Nat.reduceLeDiff, Nat.le_refl, not_true_eq_false, not_false_eq_true, r_eq, r_ne, r_lt, r_ge, r_gt, r_le, bz_ne, nn_toNat, cn_of, cn_0, cn_1, i10, Int.reduceLE, Int.reduceLT, Int.reduceEq, bz_T, bz_F, ite_self, mulc, st_bud]
      have s8 : ∀ (Kn : List Value → q_M → Prop) (Kr : Option Value → q_M → Prop), q_sdec Value.int 8 (q_2 q_giadd (q_l 2) (q_k 1)) [.ref o, .ref a, .int (zI p), .int (zI yv), .int (zI depth), .int (zI f), .int (zI own), .int (zI iv)] (st T nx 0 0 R G1) Kn Kr = Kn [.ref o, .ref a, .int (zI p), .int (zI yv), .int (zI depth), .int (zI f), .int (zI own), .int (zI iv), .int (zI (p + 1))] (st T nx 0 0 R G1) := by
        intro Kn Kr
        simp (disch := omega) only [↓k_mk, ↓k_sq, ↓k_sk, ↓k_bk, ↓k_if, ↓k_te, ↓k_cm, ↓k_cz, ↓k_an2, ↓k_or2, ↓k_no, ↓k_ci, ↓k_l0, ↓k_r0, ↓k_se0, ↓k_ic0, ↓k_l1, ↓k_r1, ↓k_se1, ↓k_ic1, ↓k_de1, ↓k_tk1, ↓k_l2, ↓k_r2, ↓k_se2, ↓k_ic2, ↓k_de2, ↓k_tk2, ↓k_l3, ↓k_r3, ↓k_se3, ↓k_ic3, ↓k_de3, ↓k_tk3, ↓k_l4, ↓k_r4, ↓k_se4, ↓k_ic4, ↓k_de4, ↓k_tk4, ↓k_l5, ↓k_r5, ↓k_se5, ↓k_ic5, ↓k_de5, ↓k_tk5, ↓k_l6, ↓k_r6, ↓k_se6, ↓k_ic6, ↓k_de6, ↓k_tk6, ↓k_l7, ↓k_r7, ↓k_se7, ↓k_ic7, ↓k_de7, ↓k_tk7, ↓k_l8, ↓k_r8, ↓k_se8, ↓k_ic8, ↓k_de8, ↓k_tk8, ↓k_l9, ↓k_r9, ↓k_se9, ↓k_ic9, ↓k_de9, ↓k_tk9, ↓k_l10, ↓k_r10, ↓k_se10, ↓k_ic10, ↓k_de10, ↓k_tk10, ↓k_l11, ↓k_r11, ↓k_se11, ↓k_ic11, ↓k_de11, ↓k_tk11, ↓k_l12, ↓k_r12, ↓k_se12, ↓k_ic12, ↓k_de12, ↓k_tk12, ↓k_l13, ↓k_r13, ↓k_se13, ↓k_ic13, ↓k_de13, ↓k_tk13, ↓k_l14, ↓k_r14, ↓k_se14, ↓k_ic14, ↓k_de14, ↓k_tk14, ↓k_l15, ↓k_r15, ↓k_se15, ↓k_ic15, ↓k_de15, ↓k_tk15, ↓k_l16, ↓k_r16, ↓k_se16, ↓k_ic16, ↓k_de16, ↓k_tk16, ↓k_l17, ↓k_r17, ↓k_se17, ↓k_ic17, ↓k_de17, ↓k_tk17, ↓k_l18, ↓k_r18, ↓k_se18, ↓k_ic18, ↓k_de18, ↓k_tk18, ↓k_l19, ↓k_r19, ↓k_se19, ↓k_ic19, ↓k_de19, ↓k_tk19, ↓k_l20, ↓k_r20, ↓k_se20, ↓k_ic20, ↓k_de20, ↓k_tk20, ↓k_l21, ↓k_r21, ↓k_se21, ↓k_ic21, ↓k_de21, ↓k_tk21, ↓k_l22, ↓k_r22, ↓k_se22, ↓k_ic22, ↓k_de22, ↓k_tk22, ↓k_l23, ↓k_r23, ↓k_se23, ↓k_ic23, ↓k_de23, ↓k_tk23, ↓k_l24, ↓k_r24, ↓k_se24, ↓k_ic24, ↓k_de24, ↓k_tk24, ↓k_l25, ↓k_r25, ↓k_se25, ↓k_ic25, ↓k_de25, ↓k_tk25, ↓k_k, ↓k_kn, ↓k_kl, ↓k_kln, ↓k_il, ↓k_2, ↓k_1, ↓k_2c, ↓k_2l, ↓k_ac, ↓k_an, ↓k_cs, ↓k_cv, ↓k_fi, ↓k_fr, ↓k_ai, ↓k_az, ↓k_ar, ↓k_sai, ↓k_saz, ↓k_soa, ↓k_sof, ↓k_spf, ↓k_sx, ↓k_blk, ↓k_sset, ↓k_sdec, ↓k_sri, ↓k_srv, ↓k_srr, ↓k_nop, ↓k_add, ↓k_sub, ↓k_mul, ↓k_min, ↓k_max, ↓k_shr, ↓k_shl, ↓k_or, ↓k_ilz, ↓k_addl, ↓k_rt, ↓k_rb, ↓k_rbz, ↓k_rsi, ↓k_rsr, ↓k_rsv, ↓reduceIte, eq_self, List.length_cons, List.length_nil, List.forall_mem_cons, List.not_mem_nil, Value.category, true_and, and_true, false_and, and_false, or_true, true_or, or_false, false_or, Nat.zero_le, forall_const, implies_true, false_implies, Nat.zero_add, Nat.reduceAdd, Nat.reduceLT, Nat.reduceLeDiff, Nat.le_refl, not_true_eq_false, not_false_eq_true, r_eq, r_ne, r_lt, r_ge, r_gt, r_le, bz_ne, nn_toNat, cn_of, cn_0, cn_1, i10, Int.reduceLE, Int.reduceLT, Int.reduceEq, bz_T, bz_F, ite_self, mulc, st_bud]
      have s9 : ∀ (Kn : List Value → q_M → Prop) (Kr : Option Value → q_M → Prop), q_sdec Value.int 9 (q_k 0) [.ref o, .ref a, .int (zI p), .int (zI yv), .int (zI depth), .int (zI f), .int (zI own), .int (zI iv), .int (zI (p + 1))] (st T nx 0 0 R G1) Kn Kr = Kn [.ref o, .ref a, .int (zI p), .int (zI yv), .int (zI depth), .int (zI f), .int (zI own), .int (zI iv), .int (zI (p + 1)), .int (zI 0)] (st T nx 0 0 R G1) := by
        intro Kn Kr
        simp (disch := omega) only [↓k_mk, ↓k_sq, ↓k_sk, ↓k_bk, ↓k_if, ↓k_te, ↓k_cm, ↓k_cz, ↓k_an2, ↓k_or2, ↓k_no, ↓k_ci, ↓k_l0, ↓k_r0, ↓k_se0, ↓k_ic0, ↓k_l1, ↓k_r1, ↓k_se1, ↓k_ic1, ↓k_de1, ↓k_tk1, ↓k_l2, ↓k_r2, ↓k_se2, ↓k_ic2, ↓k_de2, ↓k_tk2, ↓k_l3, ↓k_r3, ↓k_se3, ↓k_ic3, ↓k_de3, ↓k_tk3, ↓k_l4, ↓k_r4, ↓k_se4, ↓k_ic4, ↓k_de4, ↓k_tk4, ↓k_l5, ↓k_r5, ↓k_se5, ↓k_ic5, ↓k_de5, ↓k_tk5, ↓k_l6, ↓k_r6, ↓k_se6, ↓k_ic6, ↓k_de6, ↓k_tk6, ↓k_l7, ↓k_r7, ↓k_se7, ↓k_ic7, ↓k_de7, ↓k_tk7, ↓k_l8, ↓k_r8, ↓k_se8, ↓k_ic8, ↓k_de8, ↓k_tk8, ↓k_l9, ↓k_r9, ↓k_se9, ↓k_ic9, ↓k_de9, ↓k_tk9, ↓k_l10, ↓k_r10, ↓k_se10, ↓k_ic10, ↓k_de10, ↓k_tk10, ↓k_l11, ↓k_r11, ↓k_se11, ↓k_ic11, ↓k_de11, ↓k_tk11, ↓k_l12, ↓k_r12, ↓k_se12, ↓k_ic12, ↓k_de12, ↓k_tk12, ↓k_l13, ↓k_r13, ↓k_se13, ↓k_ic13, ↓k_de13, ↓k_tk13, ↓k_l14, ↓k_r14, ↓k_se14, ↓k_ic14, ↓k_de14, ↓k_tk14, ↓k_l15, ↓k_r15, ↓k_se15, ↓k_ic15, ↓k_de15, ↓k_tk15, ↓k_l16, ↓k_r16, ↓k_se16, ↓k_ic16, ↓k_de16, ↓k_tk16, ↓k_l17, ↓k_r17, ↓k_se17, ↓k_ic17, ↓k_de17, ↓k_tk17, ↓k_l18, ↓k_r18, ↓k_se18, ↓k_ic18, ↓k_de18, ↓k_tk18, ↓k_l19, ↓k_r19, ↓k_se19, ↓k_ic19, ↓k_de19, ↓k_tk19, ↓k_l20, ↓k_r20, ↓k_se20, ↓k_ic20, ↓k_de20, ↓k_tk20, ↓k_l21, ↓k_r21, ↓k_se21, ↓k_ic21, ↓k_de21, ↓k_tk21, ↓k_l22, ↓k_r22, ↓k_se22, ↓k_ic22, ↓k_de22, ↓k_tk22, ↓k_l23, ↓k_r23, ↓k_se23, ↓k_ic23, ↓k_de23, ↓k_tk23, ↓k_l24, ↓k_r24, ↓k_se24, ↓k_ic24, ↓k_de24, ↓k_tk24, ↓k_l25, ↓k_r25, ↓k_se25, ↓k_ic25, ↓k_de25, ↓k_tk25, ↓k_k, ↓k_kn, ↓k_kl, ↓k_kln, ↓k_il, ↓k_2, ↓k_1, ↓k_2c, ↓k_2l, ↓k_ac, ↓k_an, ↓k_cs, ↓k_cv, ↓k_fi, ↓k_fr, ↓k_ai, ↓k_az, ↓k_ar, ↓k_sai, ↓k_saz, ↓k_soa, ↓k_sof, ↓k_spf, ↓k_sx, ↓k_blk, ↓k_sset, ↓k_sdec, ↓k_sri, ↓k_srv, ↓k_srr, ↓k_nop, ↓k_add, ↓k_sub, ↓k_mul, ↓k_min, ↓k_max, ↓k_shr, ↓k_shl, ↓k_or, ↓k_ilz, ↓k_addl, ↓k_rt, ↓k_rb, ↓k_rbz, ↓k_rsi, ↓k_rsr, ↓k_rsv, ↓reduceIte, eq_self, List.length_cons, List.length_nil, List.forall_mem_cons, List.not_mem_nil, Value.category, true_and, and_true, false_and, and_false, or_true, true_or, or_false, false_or, Nat.zero_le, forall_const, implies_true, false_implies, Nat.zero_add, Nat.reduceAdd, Nat.reduceLT, Nat.reduceLeDiff, Nat.le_refl, not_true_eq_false, not_false_eq_true, r_eq, r_ne, r_lt, r_ge, r_gt, r_le, bz_ne, nn_toNat, cn_of, cn_0, cn_1, i10, Int.reduceLE, Int.reduceLT, Int.reduceEq, bz_T, bz_F, ite_self, mulc, st_bud]
      have w' : ∀ (Kn : List Value → q_M → Prop) (Kr : Option Value → q_M → Prop), wX6_emit_0 (gr0 gf') [.ref o, .ref a, .int (zI p), .int (zI yv), .int (zI depth), .int (zI f), .int (zI own), .int (zI iv), .int (zI (p + 1)), .int (zI 0)] (st T nx 0 0 R G1) Kn Kr = Kn [.ref o, .ref a, .int (zI p), .int (zI yv), .int (zI depth), .int (zI f), .int (zI own), .int (zI iv), .int (zI (chI (G0 (a + 2)) p (nsl (fun k => G0 (tvA B v + 4) (5 * f + k)) N.toNat).toNat)), .int (zI N.toNat)] (st T nx 0 0 R G2) := w
      show fX6_emit_b (gr0 gf') _ _ _ = _
      simp (disch := omega) only [↓k_mk, ↓k_sq, ↓k_sk, ↓k_bk, ↓k_if, ↓k_te, ↓k_cm, ↓k_cz, ↓k_an2, ↓k_or2, ↓k_no, ↓k_ci, ↓k_l0, ↓k_r0, ↓k_se0, ↓k_ic0, ↓k_l1, ↓k_r1, ↓k_se1, ↓k_ic1, ↓k_de1, ↓k_tk1, ↓k_l2, ↓k_r2, ↓k_se2, ↓k_ic2, ↓k_de2, ↓k_tk2, ↓k_l3, ↓k_r3, ↓k_se3, ↓k_ic3, ↓k_de3, ↓k_tk3, ↓k_l4, ↓k_r4, ↓k_se4, ↓k_ic4, ↓k_de4, ↓k_tk4, ↓k_l5, ↓k_r5, ↓k_se5, ↓k_ic5, ↓k_de5, ↓k_tk5, ↓k_l6, ↓k_r6, ↓k_se6, ↓k_ic6, ↓k_de6, ↓k_tk6, ↓k_l7, ↓k_r7, ↓k_se7, ↓k_ic7, ↓k_de7, ↓k_tk7, ↓k_l8, ↓k_r8, ↓k_se8, ↓k_ic8, ↓k_de8, ↓k_tk8, ↓k_l9, ↓k_r9, ↓k_se9, ↓k_ic9, ↓k_de9, ↓k_tk9, ↓k_l10, ↓k_r10, ↓k_se10, ↓k_ic10, ↓k_de10, ↓k_tk10, ↓k_l11, ↓k_r11, ↓k_se11, ↓k_ic11, ↓k_de11, ↓k_tk11, ↓k_l12, ↓k_r12, ↓k_se12, ↓k_ic12, ↓k_de12, ↓k_tk12, ↓k_l13, ↓k_r13, ↓k_se13, ↓k_ic13, ↓k_de13, ↓k_tk13, ↓k_l14, ↓k_r14, ↓k_se14, ↓k_ic14, ↓k_de14, ↓k_tk14, ↓k_l15, ↓k_r15, ↓k_se15, ↓k_ic15, ↓k_de15, ↓k_tk15, ↓k_l16, ↓k_r16, ↓k_se16, ↓k_ic16, ↓k_de16, ↓k_tk16, ↓k_l17, ↓k_r17, ↓k_se17, ↓k_ic17, ↓k_de17, ↓k_tk17, ↓k_l18, ↓k_r18, ↓k_se18, ↓k_ic18, ↓k_de18, ↓k_tk18, ↓k_l19, ↓k_r19, ↓k_se19, ↓k_ic19, ↓k_de19, ↓k_tk19, ↓k_l20, ↓k_r20, ↓k_se20, ↓k_ic20, ↓k_de20, ↓k_tk20, ↓k_l21, ↓k_r21, ↓k_se21, ↓k_ic21, ↓k_de21, ↓k_tk21, ↓k_l22, ↓k_r22, ↓k_se22, ↓k_ic22, ↓k_de22, ↓k_tk22, ↓k_l23, ↓k_r23, ↓k_se23, ↓k_ic23, ↓k_de23, ↓k_tk23, ↓k_l24, ↓k_r24, ↓k_se24, ↓k_ic24, ↓k_de24, ↓k_tk24, ↓k_l25, ↓k_r25, ↓k_se25, ↓k_ic25, ↓k_de25, ↓k_tk25, ↓k_k, ↓k_kn, ↓k_kl, ↓k_kln, ↓k_il, ↓k_2, ↓k_1, ↓k_2c, ↓k_2l, ↓k_ac, ↓k_an, ↓k_cs, ↓k_cv, ↓k_fi, ↓k_fr, ↓k_ai, ↓k_az, ↓k_ar, ↓k_sai, ↓k_saz, ↓k_soa, ↓k_sof, ↓k_spf, ↓k_sx, ↓k_blk, ↓k_sset, ↓k_sri, ↓k_srv, ↓k_srr, ↓k_nop, ↓k_add, ↓k_sub, ↓k_mul, ↓k_min, ↓k_max, ↓k_shr, ↓k_shl, ↓k_or, ↓k_ilz, ↓k_addl, ↓k_rt, ↓k_rb, ↓k_rbz, ↓k_rsi, ↓k_rsr, ↓k_rsv, ↓reduceIte, ↓fX6_emit_b.eq_1, ↓uX6_emit, ↓(k_cv1 dX9_isNodeAt (t9 o9)), ↓cI, l', d40, ↓s5, ↓s6, ↓s7, ↓s8, ↓s9, ↓w', List.length_cons, List.length_nil, List.forall_mem_cons, List.not_mem_nil, Value.category, true_and, and_true, false_and, and_false, or_true, true_or, or_false, false_or, Nat.zero_le, forall_const, implies_true, false_implies, Nat.zero_add, Nat.reduceAdd, Nat.reduceLT, Nat.reduceLeDiff, Nat.le_refl, not_true_eq_false, not_false_eq_true, r_eq, r_ne, r_lt, r_ge, r_gt, r_le, bz_ne, nn_toNat, cn_of, cn_0, cn_1, i10, Int.reduceLE, Int.reduceLT, Int.reduceEq, bz_T, bz_F, ite_self, mulc, st_bud]
    · have sp : spl (G0 (tvA B v + 3)) (G0 (tvA B v + 4)) (G0 (tvA B v + 7)) (G0 (a + 1)) (G0 (a + 2)) (G0 (a + 6)) (fuel + 1) p ah hw = [(G0 (a + 1) p, ah, hw)] := by rw [spl, if_neg l]
      have l' : ¬ 1000 ≤ G (a + 1) p := by rw [gc]; exact l
      rw [sp, List.length_singleton] at ml
      have sfb := SFo_b sfo
      obtain ⟨G', x1, x2, x3, xj, xk4, xk5, xk6, x4⟩ := c6_emitCode2 (nx := nx) (rc := 0) (rs := 0) (G := G) (code := G (a + 1) p) (m := m) oS hm m0 (by omega) sfb.1 sfb.2
      refine ⟨G', x1, fun j z => ?_, by rw [sp, List.length_singleton]; exact x2, by rw [sp]; exact Wc_one (by rw [x3]; exact gc), by
        rw [sp]
        refine WG_one ?_
        rw [xk4, xk5, xk6, fu_eq, fu_eq, fu_eq]
        exact gap0, ?_, fun K => ?_⟩
      · rw [xk4, xk5, xk6, fu_ne (by omega), fu_ne (by omega), fu_ne (by omega)]
        exact ⟨rfl, rfl, rfl⟩
      · have ep := (kT.2.2.2.2.1 p p0 p1 l).2
        rw [ep, nbi_s (G0 (a + 1)) p0, if_neg l, Int.add_zero]
        exact SFo_congr (fun j z => xj j (by omega)) sfo
      show fX6_emit_b (gr0 gf') _ _ _ = _
      simp (disch := omega) only [↓k_mk, ↓k_sq, ↓k_sk, ↓k_bk, ↓k_if, ↓k_te, ↓k_cm, ↓k_cz, ↓k_an2, ↓k_or2, ↓k_no, ↓k_ci, ↓k_l0, ↓k_r0, ↓k_se0, ↓k_ic0, ↓k_l1, ↓k_r1, ↓k_se1, ↓k_ic1, ↓k_de1, ↓k_tk1, ↓k_l2, ↓k_r2, ↓k_se2, ↓k_ic2, ↓k_de2, ↓k_tk2, ↓k_l3, ↓k_r3, ↓k_se3, ↓k_ic3, ↓k_de3, ↓k_tk3, ↓k_l4, ↓k_r4, ↓k_se4, ↓k_ic4, ↓k_de4, ↓k_tk4, ↓k_l5, ↓k_r5, ↓k_se5, ↓k_ic5, ↓k_de5, ↓k_tk5, ↓k_l6, ↓k_r6, ↓k_se6, ↓k_ic6, ↓k_de6, ↓k_tk6, ↓k_l7, ↓k_r7, ↓k_se7, ↓k_ic7, ↓k_de7, ↓k_tk7, ↓k_l8, ↓k_r8, ↓k_se8, ↓k_ic8, ↓k_de8, ↓k_tk8, ↓k_l9, ↓k_r9, ↓k_se9, ↓k_ic9, ↓k_de9, ↓k_tk9, ↓k_l10, ↓k_r10, ↓k_se10, ↓k_ic10, ↓k_de10, ↓k_tk10, ↓k_l11, ↓k_r11, ↓k_se11, ↓k_ic11, ↓k_de11, ↓k_tk11, ↓k_l12, ↓k_r12, ↓k_se12, ↓k_ic12, ↓k_de12, ↓k_tk12, ↓k_l13, ↓k_r13, ↓k_se13, ↓k_ic13, ↓k_de13, ↓k_tk13, ↓k_l14, ↓k_r14, ↓k_se14, ↓k_ic14, ↓k_de14, ↓k_tk14, ↓k_l15, ↓k_r15, ↓k_se15, ↓k_ic15, ↓k_de15, ↓k_tk15, ↓k_l16, ↓k_r16, ↓k_se16, ↓k_ic16, ↓k_de16, ↓k_tk16, ↓k_l17, ↓k_r17, ↓k_se17, ↓k_ic17, ↓k_de17, ↓k_tk17, ↓k_l18, ↓k_r18, ↓k_se18, ↓k_ic18, ↓k_de18, ↓k_tk18, ↓k_l19, ↓k_r19, ↓k_se19, ↓k_ic19, ↓k_de19, ↓k_tk19, ↓k_l20, ↓k_r20, ↓k_se20, ↓k_ic20, ↓k_de20, ↓k_tk20, ↓k_l21, ↓k_r21, ↓k_se21, ↓k_ic21, ↓k_de21, ↓k_tk21, ↓k_l22, ↓k_r22, ↓k_se22, ↓k_ic22, ↓k_de22, ↓k_tk22, ↓k_l23, ↓k_r23, ↓k_se23, ↓k_ic23, ↓k_de23, ↓k_tk23, ↓k_l24, ↓k_r24, ↓k_se24, ↓k_ic24, ↓k_de24, ↓k_tk24, ↓k_l25, ↓k_r25, ↓k_se25, ↓k_ic25, ↓k_de25, ↓k_tk25, ↓k_k, ↓k_kn, ↓k_kl, ↓k_kln, ↓k_il, ↓k_2, ↓k_1, ↓k_2c, ↓k_2l, ↓k_ac, ↓k_an, ↓k_cs, ↓k_cv, ↓k_fi, ↓k_fr, ↓k_ai, ↓k_az, ↓k_ar, ↓k_sai, ↓k_saz, ↓k_soa, ↓k_sof, ↓k_spf, ↓k_sx, ↓k_blk, ↓k_sset, ↓k_sdec, ↓k_sri, ↓k_srv, ↓k_srr, ↓k_nop, ↓k_add, ↓k_sub, ↓k_mul, ↓k_min, ↓k_max, ↓k_shr, ↓k_shl, ↓k_or, ↓k_ilz, ↓k_addl, ↓k_rt, ↓k_rb, ↓k_rbz, ↓k_rsi, ↓k_rsr, ↓k_rsv, ↓reduceIte, ↓fX6_emit_b.eq_1, ↓uX6_emit, ↓(k_cv1 dX9_isNodeAt (t9 o9)), ↓cI, l', ↓(k_cv1 dX6_emitCode (t6 oS)), ↓x4, ↓xr9_5 o9, ↓xa9_5 o9, ↓xs9_5 o9, ↓xo9_5 o9, ↓xc9_5 o9, ↓xd9_5 o9, List.length_cons, List.length_nil, List.forall_mem_cons, List.not_mem_nil, Value.category, true_and, and_true, false_and, and_false, or_true, true_or, or_false, false_or, Nat.zero_le, forall_const, implies_true, false_implies, Nat.zero_add, Nat.reduceAdd, Nat.reduceLT, Nat.reduceLeDiff, Nat.le_refl, not_true_eq_false, not_false_eq_true, r_eq, r_ne, r_lt, r_ge, r_gt, r_le, bz_ne, nn_toNat, cn_of, cn_0, cn_1, i10, Int.reduceLE, Int.reduceLT, Int.reduceEq, bz_T, bz_F, ite_self, mulc, st_bud]
end
