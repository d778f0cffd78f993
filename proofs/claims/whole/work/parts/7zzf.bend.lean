section
/-! what was built stands at the end -/
theorem built_end {G Gb Gc Ge Gf : Nat → Int → Int} {B : Nat} {j v : Int} {n : Nat} {c : Int → Int} (hI : IRe G B) (hF : IFm G B) (j0 : 0 ≤ j) (j1 : j ≤ 11) (v0 : 0 ≤ v ∧ v ≤ 1)
    (lo1 : ∀ x, (B + 170 ≤ x ∧ x < B + 518) ∨ (B + 59 ≤ x ∧ x ≤ B + 61) → Gb x = G x) (hb : Bec Gb Gc (B + 398 + 10 * j.toNat) (B + 5)) (lo2 : ∀ x, x < B + 544 → Ge x = Gc x) (hr : ∀ i, 0 ≤ i → i ≤ 31 → RowE G Ge B i) (hp : ∀ i m, 0 ≤ i → i ≤ 11 → 0 ≤ m → m < 40 → Ge (B + 544 + 22) (40 * i + m) = G (B + 544 + 22) (40 * i + m)) (h1 : Ge (B + 544 + 82) = G (B + 544 + 82)) (h2 : Ge (B + 544 + 84) = G (B + 544 + 84)) (h3 : Ge (B + 544) 103 = G (B + 544) 103) (hi : ∀ x, B + 544 + 2 ≤ x → x ≤ B + 544 + 12 → Ge x = G x) (hc : Cpt Ge Gf B 92 j)
    (b1 : Gb (B + 5) 1 = v) (b2 : Gb (B + 5) 2 = (n : Int)) (b3 : Gb (B + 5) 3 = nb c n) (b4 : Gb (B + 5) 4 = (n : Int) - nb c n) (b5 : ∀ q : Nat, q < n → Gb (B + 6) q = c q) (ix : Ix (G (tvA B v + 5)) (Gb (B + 6)) n (Gb (B + 7)) (Gb (B + 8)) (Gb (B + 9)) (Gb (B + 11)) (Gb (B + 12)) (Gb (B + 13)))
    (pr : Pre (G (tvA B v + 5)) c n) (d0 : dd (G (tvA B v + 5)) c n = 0) (n201 : n ≤ 201) (N40 : nb c n ≤ 40) (N1 : 1 ≤ nb c n) (hcd : ∀ q : Nat, q < n → 20 ≤ c q ∧ c q ≤ 1013 ∧ (1000 ≤ c q → c q - 1000 < G (tvA B v) 1)) (ok : OKW 0 (G (tvA B v + 5)) (G (tvA B v + 6)) c n) (bs : BS (G (tvA B v + 5)) c Ge B 92 v n) : IRe Gf B := by
  have b10 := hb.2.2.2.2.2.2
  have cx := fun x (q : x < B + 560 ∨ B + 567 ≤ x) => Cpt_lo hc q
  have jb : B + 398 ≤ B + 398 + 10 * j.toNat ∧ B + 398 + 10 * j.toNat + 10 ≤ B + 518 := by omega
  -- the low memory at the end
  have low : ∀ x, x < B + 544 → ¬ (B + 398 + 10 * j.toNat ≤ x ∧ x < B + 398 + 10 * j.toNat + 10) → Gf x = Gb x := fun x q1 q2 => by rw [cx x (by omega), lo2 x q1, b10 x q2]
  have tv : ∀ x, B + 370 ≤ x → x < B + 398 → Gf x = G x := fun x q1 q2 => by rw [low x (by omega) (by omega), lo1 x (by omega)]
  have tvb : B + 370 ≤ tvA B v ∧ tvA B v + 14 ≤ B + 398 := by unfold tvA; omega
  have iF : IFm Gf B := IFm_congr (fun x q1 q2 _ _ => tv x q1 q2) (fun x q1 q2 => by rw [cx x (by omega), hi x q1 q2]) hF
  have e0 : Gf (tvA B v) = G (tvA B v) := tv _ (by omega) (by omega)
  have e5 : Gf (tvA B v + 5) = G (tvA B v + 5) := tv _ (by omega) (by omega)
  have e6 : Gf (tvA B v + 6) = G (tvA B v + 6) := tv _ (by omega) (by omega)
  have g0 : Gf (B + 5) = Gb (B + 5) := low _ (by omega) (by omega)
  have g1 : Gf (B + 5 + 1) = Gb (B + 6) := low _ (by omega) (by omega)
  have cq : ∀ q : Nat, q < n → Gf (B + 5 + 1) q = c q := fun q hq => by rw [g1]; exact b5 q hq
  have cqI : ∀ p : Int, 0 ≤ p → p < n → Gf (B + 5 + 1) p = c p := fun p p0 p1 => by
    have := cq p.toNat (by omega)
    rw [Int.toNat_of_nonneg p0] at this
    exact this
  have nbe : nb (Gf (B + 5 + 1)) (n : Int).toNat = nb c n := by rw [Int.toNat_natCast, nb_cong cq]
  have en : ((n : Int)).toNat = n := Int.toNat_natCast n
  have row92 : RowE Ge Gf B 92 := (hc.2.2.2.1 92 (by omega)).1
  have bsf : BS (Gf (tvA B v + 5)) (Gf (B + 5 + 1)) Gf B 92 v n := by
    rw [e5]
    refine BS_cong cq ?_
    obtain ⟨s1, s2, s3⟩ := bs
    refine ⟨by rw [row92.1]; exact s1, by rw [row92.2.1]; exact s2, fun q hq t ht => ?_⟩
    have old := s3 q hq t ht
    have pre : Pre (G (tvA B v + 5)) c q := Pre_le pr (by omega)
    have h5 : ∀ q' : Nat, q' < n → 1000 ≤ c q' → G (tvA B v + 5) (c q' - 1000) ≤ 5 := fun q' hq' l => (IFm_ns hF v0 (show 0 ≤ c q' - 1000 by omega) ((hcd q' hq').2.2 l)).2
    have nbq := nb_b c q
    have mono := nb_mono c (show q ≤ n by omega)
    have tb : t.1 = -1 ∨ (0 ≤ t.1 ∧ t.1 < 40 ∧ 0 ≤ t.2 ∧ t.2 < 5) := by
      rcases tg_b pre (fun x hx => h5 x (by omega)) ht with ⟨_, z⟩ | ⟨_, z1, z2, z3, z4⟩
      · exact Or.inl (by rw [z])
      · exact Or.inr (by omega)
    have f40 : 1000 ≤ c q → nb c q < 40 := fun l => by
      have := nb_lt c (show q < n by omega) l
      omega
    have sl : 0 ≤ t.1 → Gf (B + 544 + 21) (5 * (40 * 92 + t.1) + t.2) = Ge (B + 544 + 21) (5 * (40 * 92 + t.1) + t.2) := fun z => (row92.2.2.2 (40 * 92 + t.1) (by omega) (by omega)).2.2 _ (by omega) (by omega)
    refine ⟨fun l => ?_, fun l => ⟨fun z => by rw [row92.2.2.1]; exact (old.2 l).1 z, fun z => by rw [sl z]; exact (old.2 l).2 z⟩⟩
    have := f40 l
    rw [(row92.2.2.2 (40 * 92 + nb c q) (by omega) (by omega)).1, (row92.2.2.2 (40 * 92 + nb c q) (by omega) (by omega)).2.1]
    exact ⟨(old.1 l).1, (old.1 l).2.1, fun z => by rw [sl z]; exact (old.1 l).2.2 z⟩
  have kk : TOK Gf B 0 92 v (B + 5) := BS_TOK (n := (n : Int)) v0 (by rw [g0]; exact b1) (by rw [g0]; exact b2) (by rw [en, e5]; exact Pre_cong cq pr) (by rw [en, e5, dd_cong cq]; exact d0) (by omega) (by rw [en]; exact bsf) (by rw [nbe]; exact N40) (by
    rw [e5, g1, low (B + 5 + 2) (by omega) (by omega), low (B + 5 + 3) (by omega) (by omega), low (B + 5 + 4) (by omega) (by omega), low (B + 5 + 6) (by omega) (by omega), low (B + 5 + 7) (by omega) (by omega), low (B + 5 + 8) (by omega) (by omega)]
    exact ix) (by rw [g0, nbe]; exact b3) (by rw [g0, nbe]; exact b4) (fun p p0 p1 l => by
    rw [cqI p p0 p1] at l ⊢
    have := (hcd p.toNat (by omega)).2.2
    rw [Int.toNat_of_nonneg p0] at this
    rw [e0]
    exact this l) (fun p p0 p1 l => by
    rw [cqI p p0 p1]
    have := (hcd p.toNat (by omega)).1
    rw [Int.toNat_of_nonneg p0] at this
    exact this) (by rw [en, e5, e6]; exact OKW_cong cq ok)
  have bv : BecV Gf Gf (B + 398 + 10 * j.toNat) (B + 5) := BecV_of hb (fun x q1 q2 => (low x (by omega) (by omega)).symm) (fun x q1 q2 => by rw [cx x (by omega), lo2 x (by omega)])
  have cv : CptV Gf Gf B 92 j := by
    obtain ⟨c1, c2, c3, _, _⟩ := hc
    obtain ⟨r1, r2, r3, r4⟩ := row92
    refine ⟨⟨by rw [c1.1, r1], by rw [c1.2.1, r2], by rw [c1.2.2, r3]⟩, fun k q1 q2 => ⟨by rw [(c2 k q1 q2).1, (r4 _ (by omega) (by omega)).1], by rw [(c2 k q1 q2).2.1, (r4 _ (by omega) (by omega)).2.1]⟩, fun k q1 q2 => ?_⟩
    rw [c3 k q1 q2]
    exact ((r4 (40 * 92 + k / 5) (by omega) (by omega)).2.2 _ (by omega) (by omega)).symm
  have tok : TOK Gf B 0 j v (B + 398 + 10 * j.toNat) := TOK_val iF (fun _ _ _ => rfl) bv cv kk
  have z1 : Gf (B + 398 + 10 * j.toNat) 1 = v := tok.1
  refine IRe_tree j0 j1 hI hF (fun x q1 q2 => ?_) (fun i q1 q2 q3 => ?_) (fun i m q1 q2 q3 q4 q5 => ?_) ?_ ?_ ?_ ⟨by omega, Or.inr ⟨?_, ?_, ?_, fun m q1 q2 => ?_⟩⟩
  · rw [low x (by omega) q2, lo1 x (by omega)]
  · exact RowE_trans (hr i q1 q2) ((hc.2.2.2.1 i q3).1)
  · rw [(hc.2.2.2.1 i q3).2 m q4 q5]
    exact hp i m q1 q2 q4 q5
  · rw [cx _ (by omega)]
    exact h1
  · rw [cx _ (by omega)]
    exact h2
  · rw [cx _ (by omega)]
    exact h3
  · rw [cx _ (by omega), lo2 _ (by omega)]
    exact hb.1
  · rw [z1]
    exact tok
  · rw [bv.1.2.2.1, g0, b3]
    exact N1
  · have N4 := (TOK_b tok).2.2.2.2.2.2.2.2.1
    have d := (hc.2.1 m q1 (by omega)).2.2
    rw [d, cx (B + 398 + 10 * j.toNat + 9) (by omega), lo2 _ (by omega), hb.2.2.2.2.2.1 m (by omega)]
    omega
end
