section
/-! a row that is whole: the two built trees are one -/
theorem BS_cong {ns c c' : Int → Int} {G : Nat → Int → Int} {B : Nat} {i v : Int} {P : Nat} (h : ∀ q : Nat, q < P → c' q = c q) (s : BS ns c G B i v P) : BS ns c' G B i v P := by
  obtain ⟨s1, s2, s3⟩ := s
  refine ⟨s1, by rw [nb_cong h]; exact s2, fun q hq t ht => ?_⟩
  have hq' : ∀ x : Nat, x < q → c' x = c x := fun x hx => h x (by omega)
  rw [tgS_cong hq'] at ht
  rw [h q hq, nb_cong hq']
  exact s3 q hq t ht
theorem BS_TOK {G : Nat → Int → Int} {B a : Nat} {h i v n : Int} (v0 : 0 ≤ v ∧ v ≤ 1) (g1 : G a 1 = v) (g2 : G a 2 = n) (pr : Pre (G (tvA B v + 5)) (G (a + 1)) n.toNat) (d0 : dd (G (tvA B v + 5)) (G (a + 1)) n.toNat = 0) (n201 : n ≤ 201) (bs : BS (G (tvA B v + 5)) (G (a + 1)) G B i v n.toNat) (N40 : nb (G (a + 1)) n.toNat ≤ 40) (ix : Ix (G (tvA B v + 5)) (G (a + 1)) n (G (a + 2)) (G (a + 3)) (G (a + 4)) (G (a + 6)) (G (a + 7)) (G (a + 8))) (g3 : G a 3 = nb (G (a + 1)) n.toNat) (g4 : G a 4 = n - nb (G (a + 1)) n.toNat)
    (hF : ∀ p, 0 ≤ p → p < n → 1000 ≤ G (a + 1) p → G (a + 1) p - 1000 < G (tvA B v) 1) (hl : ∀ p, 0 ≤ p → p < n → ¬ 1000 ≤ G (a + 1) p → 20 ≤ G (a + 1) p) (ok : OKW h (G (tvA B v + 5)) (G (tvA B v + 6)) (G (a + 1)) n.toNat) : TOK G B h i v a := by
  have wd := Wd_of pr d0 (by omega)
  have n1 := wd.1
  rw [show ((n.toNat : Nat) : Int) = n by
    by_cases z : 0 ≤ n
    · omega
    · rw [show n.toNat = 0 by omega] at n1
      omega] at wd n1
  have dq : ∀ q : Nat, (q : Int) < n → ∃ t, (tgS (G (tvA B v + 5)) (G (a + 1)) q)[0]? = some t := fun q hq => by
    obtain ⟨t, t1, _⟩ := tg_some (Pre_le pr (show q ≤ n.toNat by omega)) (pr.1 q (by omega))
    exact ⟨t, t1⟩
  have hd : ∀ p, 0 < p → p < n → (tgS (G (tvA B v + 5)) (G (a + 1)) p.toNat)[0]? = some (nb (G (a + 1)) (uU (G (tvA B v + 5)) (G (a + 1)) p).toNat, sS (G (tvA B v + 5)) (G (a + 1)) p) := fun p p0 p1 => by
    obtain ⟨t, ht⟩ := dq p.toNat (by omega)
    rw [ht, tg_head wd p0 p1 ht]
  have kT : Tr h (G (tvA B v) 1) (G (tvA B v + 5)) (G (tvA B v + 6)) n (nb (G (a + 1)) n.toNat) (n - nb (G (a + 1)) n.toNat) (G (a + 1)) (G (a + 2)) (G (a + 3)) (G (a + 4)) (G (a + 6)) (G (a + 7)) (G (a + 8)) := by
    refine Tr_words wd hF hl (fun p p0 p1 => ?_) ix rfl N40 rfl
    have h1 := hd p p0 p1
    obtain ⟨u0, u1, _, _, u2, _⟩ := uU_f wd p0 p1
    rcases tgI_get (I := G (tvA B v + 6)) p.toNat 0 _ h1 with ⟨z, _⟩ | ⟨u, q1, q2, q3, q4⟩
    · have := nb_b (G (a + 1)) (uU (G (tvA B v + 5)) (G (a + 1)) p).toNat
      injection z with z1 z2
      omega
    · have eu : (u : Int) = uU (G (tvA B v + 5)) (G (a + 1)) p := by
        have q3 : nb (G (a + 1)) (uU (G (tvA B v + 5)) (G (a + 1)) p).toNat = nb (G (a + 1)) u := q3
        by_cases z : (u : Int) < uU (G (tvA B v + 5)) (G (a + 1)) p
        · have := nb_lt (G (a + 1)) (show u < (uU (G (tvA B v + 5)) (G (a + 1)) p).toNat by omega) q2
          omega
        · by_cases z2 : uU (G (tvA B v + 5)) (G (a + 1)) p < u
          · have := nb_lt (G (a + 1)) (show (uU (G (tvA B v + 5)) (G (a + 1)) p).toNat < u by omega) (by rw [Int.toNat_of_nonneg u0]; exact u2)
            omega
          · omega
      have := ok p.toNat (by omega) _ q4
      rw [eu, Int.toNat_of_nonneg (by omega : 0 ≤ p)] at this
      exact this
  obtain ⟨b1, b2, b3⟩ := bs
  refine ⟨g1, b1, v0, ?_, ?_⟩
  · unfold TRa
    rw [g2, g3, g4]
    exact kT
  · unfold RLa
    rw [g3]
    have r00 := nb_b (G (a + 1)) n.toNat
    refine ⟨b2, fun z => ?_, fun m m0 m1 => ?_⟩
    · have l0 : ¬ 1000 ≤ G (a + 1) 0 := fun q => by
        have := nbi_lt (G (a + 1)) (p := 0) (q := n) (Int.le_refl _) (by omega) q
        have z0 : nb (G (a + 1)) (0 : Int).toNat = 0 := rfl
        omega
      exact ((b3 0 (by omega) (-1, 0) rfl).2 l0).1 (by decide)
    · obtain ⟨a1, a2, a3, a4, a5⟩ := Tr_m kT m0 m1
      obtain ⟨p, hp⟩ : ∃ p, p = G (a + 7) m := ⟨_, rfl⟩
      rw [← hp] at a1 a2 a3 a4 a5 ⊢
      have xp := ix p a1 a2
      have ep : ((p.toNat : Nat) : Int) = p := Int.toNat_of_nonneg a1
      have frm : ∀ t, (tgS (G (tvA B v + 5)) (G (a + 1)) p.toNat)[0]? = some t → G (B + 544 + 19) (40 * i + m) = G (a + 1) p - 1000 ∧ G (B + 544 + 20) (40 * i + m) = t.1 := fun t ht => by
        have := (b3 p.toNat (by omega) t ht).1 (by rw [ep]; exact a3)
        rw [ep, a4] at this
        exact ⟨this.1, this.2.1⟩
      refine ⟨?_, ?_, fun k hk => ?_⟩
      · obtain ⟨t, ht⟩ := dq p.toNat (by omega)
        exact (frm t ht).1
      · by_cases p0 : p = 0
        · have z : G (a + 3) p = -1 := by rw [p0]; exact kT.1.2.2.2.2.2.2.2
          rw [if_pos z]
          exact (frm (-1, 0) (by rw [p0]; rfl)).2
        · have h1 := hd p (by omega) a2
          obtain ⟨u0, u1, _, _, u2, _⟩ := uU_f wd (show 0 < p by omega) a2
          rw [if_neg (by rw [xp.2.1]; omega), xp.2.1, ((ix _ u0 (by omega)).2.2.2.1 u2).1]
          exact (frm _ h1).2
      · obtain ⟨h1, h2, h3, h4, h5⟩ := (kT.2.2.2.1 p a1 a2 a3).2.2 k hk
        obtain ⟨q, hq⟩ : ∃ q, q = chI (G (a + 2)) p k := ⟨_, rfl⟩
        rw [← hq] at h1 h2 h3 h4 h5 ⊢
        have xq := ix q (by omega) h2
        have eq : ((q.toNat : Nat) : Int) = q := Int.toNat_of_nonneg (by omega)
        have hh := hd q (by omega) h2
        rw [← xq.2.1, ← xq.2.2.1, h3, h4, a4] at hh
        obtain ⟨w1, w2⟩ := b3 q.toNat (by omega) _ hh
        rw [eq] at w1 w2
        unfold pc
        by_cases l : 1000 ≤ G (a + 1) q
        · rw [if_pos l, (xq.2.2.2.1 l).1]
          exact (w1 l).2.2 m0
        · rw [if_neg l]
          exact (w2 l).2 m0
end
