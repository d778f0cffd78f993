section
/-! find: a turn is another one -/
theorem IRe_t0 {G G' : Nat → Int → Int} {B : Nat} (hI : IRe G B) (hF : IFm G B) (hC : ∀ x, (B + 170 ≤ x ∧ x < B + 518) ∨ (B + 60 ≤ x ∧ x ≤ B + 61) → G' x = G x) (h0 : G' (B + 59) 0 = G (B + 59) 0) (h1 : G' (B + 59) 1 = G (B + 59) 1) (hr : ∀ i, 0 ≤ i → i ≤ 31 → RowE G G' B i) (hp : ∀ i m, 0 ≤ i → i ≤ 11 → 0 ≤ m → m < 40 → G' (B + 544 + 22) (40 * i + m) = G (B + 544 + 22) (40 * i + m)) (g1 : G' (B + 544 + 82) = G (B + 544 + 82)) (g2 : G' (B + 544 + 84) = G (B + 544 + 84)) (g3 : G' (B + 544) 103 = G (B + 544) 103) : IRe G' B := by
  obtain ⟨i1, i2, i3⟩ := hI
  have hg : ∀ x, B + 370 ≤ x → x < B + 398 → G' x = G x := fun x q1 q2 => hC x (by omega)
  refine ⟨fun i q1 q2 => ?_, ISw_row hF hg g3 h0 h1 (fun x q1 q2 => hC x (by omega)) (fun i q1 q2 => hr i (by omega) (by omega)) i2, fun k q1 q2 => ?_⟩
  · exact ITr_row hF hg (fun x q3 q4 => hC x (by omega)) (hr i q1 (by omega)) (fun m q3 q4 => hp i m q1 q2 q3 q4) (i1 i q1 q2)
  · exact ITu_row hF hg (by rw [hC _ (by omega)]) (by rw [hC _ (by omega)]) (by rw [g1]) (by rw [g2]) (fun x q3 q4 => hC x (by omega)) (fun x q3 q4 => hC x (by omega)) (hr _ (by omega) (by omega)) (hr _ (by omega) (by omega)) (i3 k q1 q2)
theorem IRe_turn {G G' : Nat → Int → Int} {B : Nat} {k : Int} (k0 : 0 ≤ k) (k5 : k ≤ 5) (hI : IRe G B) (hF : IFm G B) (hC : ∀ x, B + 170 ≤ x → x < B + 518 → ¬ (B + 250 + 20 * k.toNat ≤ x ∧ x < B + 270 + 20 * k.toNat) → G' x = G x) (h0 : G' (B + 59) 0 = G (B + 59) 0) (h1 : G' (B + 59) 1 = G (B + 59) 1) (hr : ∀ i, 0 ≤ i → i ≤ 31 → ¬ i = 20 + 2 * k → ¬ i = 21 + 2 * k → RowE G G' B i) (hp : ∀ i m, 0 ≤ i → i ≤ 11 → 0 ≤ m → m < 40 → G' (B + 544 + 22) (40 * i + m) = G (B + 544 + 22) (40 * i + m)) (g0 : ∀ j, ¬ j = k → G' (B + 60) j = G (B + 60) j ∧ G' (B + 61) j = G (B + 61) j ∧ G' (B + 544 + 82) j = G (B + 544 + 82) j ∧ G' (B + 544 + 84) j = G (B + 544 + 84) j) (g3 : G' (B + 544) 103 = G (B + 544) 103) (new : ITu G' B k (B + 250 + 20 * k.toNat) (B + 260 + 20 * k.toNat)) : IRe G' B := by
  obtain ⟨i1, i2, i3⟩ := hI
  have hg : ∀ x, B + 370 ≤ x → x < B + 398 → G' x = G x := fun x q1 q2 => hC x (by omega) (by omega) (by omega)
  refine ⟨fun i q1 q2 => ?_, ISw_row hF hg g3 h0 h1 (fun x q1 q2 => hC x (by omega) (by omega) (by omega)) (fun i q1 q2 => hr i (by omega) (by omega) (by omega) (by omega)) i2, fun j q1 q2 => ?_⟩
  · exact ITr_row hF hg (fun x q3 q4 => hC x (by omega) (by omega) (by omega)) (hr i q1 (by omega) (by omega) (by omega)) (fun m q3 q4 => hp i m q1 q2 q3 q4) (i1 i q1 q2)
  · by_cases e : j = k
    · rw [e]
      exact new
    · obtain ⟨a1, a2, a3, a4⟩ := g0 j e
      exact ITu_row hF hg a1 a2 a3 a4 (fun x q3 q4 => hC x (by omega) (by omega) (by omega)) (fun x q3 q4 => hC x (by omega) (by omega) (by omega)) (hr _ (by omega) (by omega) (by omega) (by omega)) (hr _ (by omega) (by omega) (by omega) (by omega)) (i3 j q1 q2)
/-- a row that is not written stands -/
theorem BS_rowE {ns c : Int → Int} {G G' : Nat → Int → Int} {B : Nat} {i v : Int} {n : Nat} (r : RowE G G' B i) (pr : Pre ns c n) (h5 : ∀ q' : Nat, q' < n → 1000 ≤ c q' → ns (c q' - 1000) ≤ 5) (N40 : nb c n ≤ 40) (s : BS ns c G B i v n) : BS ns c G' B i v n := by
  obtain ⟨s1, s2, s3⟩ := s
  refine ⟨by rw [r.1]; exact s1, by rw [r.2.1]; exact s2, fun q hq t ht => ?_⟩
  have old := s3 q hq t ht
  have pre : Pre ns c q := Pre_le pr (by omega)
  have nbq := nb_b c q
  have mono := nb_mono c (show q ≤ n by omega)
  have tb : t.1 = -1 ∨ (0 ≤ t.1 ∧ t.1 < 40 ∧ 0 ≤ t.2 ∧ t.2 < 5) := by
    rcases tg_b pre (fun x hx => h5 x (by omega)) ht with ⟨_, z⟩ | ⟨_, z1, z2, z3, z4⟩
    · exact Or.inl (by rw [z])
    · exact Or.inr (by omega)
  have f40 : 1000 ≤ c q → nb c q < 40 := fun l => by
    have := nb_lt c (show q < n by omega) l
    omega
  have sl : 0 ≤ t.1 → G' (B + 544 + 21) (5 * (40 * i + t.1) + t.2) = G (B + 544 + 21) (5 * (40 * i + t.1) + t.2) := fun z => (r.2.2.2 (40 * i + t.1) (by omega) (by omega)).2.2 _ (by omega) (by omega)
  refine ⟨fun l => ?_, fun l => ⟨fun z => by rw [r.2.2.1]; exact (old.2 l).1 z, fun z => by rw [sl z]; exact (old.2 l).2 z⟩⟩
  have := f40 l
  rw [(r.2.2.2 (40 * i + nb c q) (by omega) (by omega)).1, (r.2.2.2 (40 * i + nb c q) (by omega) (by omega)).2.1]
  exact ⟨(old.1 l).1, (old.1 l).2.1, fun z => by rw [sl z]; exact (old.1 l).2.2 z⟩
/-- what was laid stands as a side of the turn -/
theorem side_end {G : Nat → Int → Int} {B a j n : Nat} {f t v : Int} {c : Int → Int} (iF : IFm G B) (v0 : 0 ≤ v ∧ v ≤ 1) (g1 : G a 1 = v) (g2 : G a 2 = (n : Int)) (g3 : G a 3 = nb c n) (g4 : G a 4 = (n : Int) - nb c n) (cq : ∀ q : Nat, q < n → G (a + 1) q = c q) (ix : Ix (G (tvA B v + 5)) (G (a + 1)) n (G (a + 2)) (G (a + 3)) (G (a + 4)) (G (a + 6)) (G (a + 7)) (G (a + 8))) (pr : Pre (G (tvA B v + 5)) c n) (d0 : dd (G (tvA B v + 5)) c n = 0) (n201 : n ≤ 201) (N40 : nb c n ≤ 40) (hcd : ∀ q : Nat, q < n → 20 ≤ c q ∧ c q ≤ 1013 ∧ (1000 ≤ c q → c q - 1000 < G (tvA B v) 1)) (ok : OKW 1 (G (tvA B v + 5)) (G (tvA B v + 6)) c n) (bs : BS (G (tvA B v + 5)) c G B f v n) (bv : BecV G G j a) (cv : CptV G G B f t) : TOK G B 1 t v j := by
  have en : ((n : Int)).toNat = n := Int.toNat_natCast n
  have nbe : nb (G (a + 1)) (n : Int).toNat = nb c n := by rw [en, nb_cong cq]
  have cqI : ∀ p : Int, 0 ≤ p → p < n → G (a + 1) p = c p := fun p p0 p1 => by
    have := cq p.toNat (by omega)
    rw [Int.toNat_of_nonneg p0] at this
    exact this
  have kk : TOK G B 1 f v a := BS_TOK (n := (n : Int)) v0 g1 g2 (by rw [en]; exact Pre_cong cq pr) (by rw [en, dd_cong cq]; exact d0) (by omega) (by rw [en]; exact BS_cong cq bs) (by rw [nbe]; exact N40) ix (by rw [nbe]; exact g3) (by rw [nbe]; exact g4) (fun p p0 p1 l => by
    rw [cqI p p0 p1] at l ⊢
    have := (hcd p.toNat (by omega)).2.2
    rw [Int.toNat_of_nonneg p0] at this
    exact this l) (fun p p0 p1 l => by
    rw [cqI p p0 p1]
    have := (hcd p.toNat (by omega)).1
    rw [Int.toNat_of_nonneg p0] at this
    exact this) (by rw [en]; exact OKW_cong cq ok)
  exact TOK_val iF (fun _ _ _ => rfl) bv cv kk
/-- two items that a piece suits are of one kind -/
theorem ki_of {it it' z : Int} (h : okc 0 it z) (h' : okc 0 it' z) : ki it = ki it' := by
  unfold okc at h h'
  unfold ki
  by_cases g : 60 ≤ it
  · rw [if_pos g]
    by_cases g' : 60 ≤ it'
    · rw [if_pos g']
    · omega
  · rw [if_neg g]
    by_cases g' : 60 ≤ it'
    · omega
    · rw [if_neg g']
      omega
/-- what ties the two sides; hd h: the first code that hole h stands for -/
theorem Tie_of {ns I c0 d0 u0 s0 C0 c1 d1 u1 s1 C1 hd : Int → Int} {n0 n1 : Nat} {N1 : Int} (b0 : ∀ p : Int, 0 ≤ p → p < (n0 : Int) → C0 p = d0 p ∧ u0 p = uU ns d0 p ∧ s0 p = sS ns d0 p) (b1 : ∀ p : Int, 0 ≤ p → p < (n1 : Int) → C1 p = d1 p ∧ u1 p = uU ns d1 p ∧ s1 p = sS ns d1 p) (q0 : ∀ q : Nat, q < n0 → d0 q = c0 q) (q1 : ∀ q : Nat, q < n1 → d1 q = c1 q) (p0 : Pre ns c0 n0) (z0 : dd ns c0 n0 = 0) (m0 : n0 ≤ 201) (p1 : Pre ns c1 n1) (z1 : dd ns c1 n1 = 0) (m1 : n1 ≤ 201)
    (hN1 : N1 = nb c1 n1) (lf1 : ∀ q : Nat, q < n1 → ¬ 1000 ≤ c1 q → c1 q < 1000 ∧ (200 ≤ c1 q → c1 q ≤ 215)) (root1 : 1000 ≤ c1 0 ∨ 200 ≤ c1 0)
    (ex : ∀ q : Nat, q < n1 → 200 ≤ c1 q → c1 q < 1000 → ∃ p : Nat, p < n0 ∧ c0 p = c1 q) (h0 : ∀ q : Nat, q < n0 → 200 ≤ c0 q → c0 q < 1000 → ∀ it, (tgI ns I c0 q)[0]? = some it → okc 0 it (hd (c0 q))) (h1 : ∀ q : Nat, q < n1 → 200 ≤ c1 q → c1 q < 1000 → ∀ it, (tgI ns I c1 q)[0]? = some it → okc 0 it (hd (c1 q))) : Tie I C0 u0 s0 C1 u1 s1 n0 n1 N1 := by
  have i0 : ∀ p : Int, 0 < p → p < (n0 : Int) → C0 p = c0 p ∧ (tgI ns I c0 p.toNat)[0]? = some (I (5 * (C0 (u0 p) - 1000) + s0 p)) := fun p a b => by
    obtain ⟨w1, w2, w3⟩ := b0 p (by omega) b
    have hh := tgI_head (I := I) (Pre_cong (c' := d0) q0 p0) (by rw [dd_cong q0]; exact z0) m0 a b
    rw [tgI_cong fun q hq => q0 q (by omega)] at hh
    obtain ⟨y0, y1, _⟩ := uU_f (Wd_of (Pre_cong (c' := d0) q0 p0) (by rw [dd_cong q0]; exact z0) m0) a b
    have e := q0 p.toNat (by omega)
    rw [Int.toNat_of_nonneg (by omega)] at e
    rw [w2, w3, (b0 _ y0 (by omega)).1]
    exact ⟨by rw [w1, e], hh⟩
  have i1 : ∀ p : Int, 0 < p → p < (n1 : Int) → C1 p = c1 p ∧ (tgI ns I c1 p.toNat)[0]? = some (I (5 * (C1 (u1 p) - 1000) + s1 p)) := fun p a b => by
    obtain ⟨w1, w2, w3⟩ := b1 p (by omega) b
    have hh := tgI_head (I := I) (Pre_cong (c' := d1) q1 p1) (by rw [dd_cong q1]; exact z1) m1 a b
    rw [tgI_cong fun q hq => q1 q (by omega)] at hh
    obtain ⟨y0, y1, _⟩ := uU_f (Wd_of (Pre_cong (c' := d1) q1 p1) (by rw [dd_cong q1]; exact z1) m1) a b
    have e := q1 p.toNat (by omega)
    rw [Int.toNat_of_nonneg (by omega)] at e
    rw [w2, w3, (b1 _ y0 (by omega)).1]
    exact ⟨by rw [w1, e], hh⟩
  have j0 : ∀ p : Int, 0 ≤ p → p < (n0 : Int) → C0 p = c0 p := fun p a b => by
    have e := q0 p.toNat (by omega)
    rw [Int.toNat_of_nonneg a] at e
    rw [(b0 p a b).1, e]
  have j1 : ∀ p : Int, 0 ≤ p → p < (n1 : Int) → C1 p = c1 p := fun p a b => by
    have e := q1 p.toNat (by omega)
    rw [Int.toNat_of_nonneg a] at e
    rw [(b1 p a b).1, e]
  have n1p : 1 ≤ n1 := by
    have := (Wd_of p1 z1 m1).1
    omega
  refine ⟨fun p a b g1 g2 => ?_, fun z => ?_, fun p q a b a' b' g1 g2 g3 => ?_⟩
  · rw [j1 p a b] at g1 g2 ⊢
    have := ex p.toNat (by omega)
    rw [Int.toNat_of_nonneg a] at this
    obtain ⟨q, hq, e⟩ := this g1 g2
    exact ⟨q, by omega, by omega, by rw [j0 q (by omega) (by omega)]; exact e⟩
  · have l0 : ¬ 1000 ≤ c1 ((0 : Nat) : Int) := fun l => by
      have := nb_lt c1 (show 0 < n1 by omega) l
      have := nb_b c1 0
      omega
    have g1 : 200 ≤ c1 ((0 : Nat) : Int) := root1.elim (fun w => absurd w l0) id
    obtain ⟨g2, g3⟩ := lf1 0 (by omega) l0
    have e0 : C1 0 = c1 ((0 : Nat) : Int) := j1 0 (Int.le_refl _) (by omega)
    rw [e0]
    refine ⟨g1, g3 g1, fun q a b e => ?_⟩
    obtain ⟨f1, f2⟩ := i0 q a b
    rw [f1] at e
    have k0 := h0 q.toNat (by omega)
    rw [Int.toNat_of_nonneg (by omega)] at k0
    have k1 := k0 (by omega) (by omega) _ f2
    have k2 := h1 0 (by omega) g1 g2 60 rfl
    rw [e] at k1
    unfold okc at k1 k2
    omega
  · obtain ⟨f1, f2⟩ := i1 p a b
    obtain ⟨f3, f4⟩ := i0 q a' b'
    rw [f1] at g1 g2 g3
    rw [f3] at g3
    have k0 := h0 q.toNat (by omega)
    rw [Int.toNat_of_nonneg (by omega)] at k0
    have k1 := h1 p.toNat (by omega)
    rw [Int.toNat_of_nonneg (by omega)] at k1
    have w1 := k1 g1 g2 _ f2
    have w0 := k0 (by omega) (by omega) _ f4
    rw [g3] at w0
    exact ki_of w1 w0
end
