section
/-! one tree changes, the others stay -/
/-- the reference's row of tree i stays -/
def RowE (G G' : Nat → Int → Int) (B : Nat) (i : Int) : Prop := G' (B + 544 + 16) i = G (B + 544 + 16) i ∧ G' (B + 544 + 17) i = G (B + 544 + 17) i ∧ G' (B + 544 + 18) i = G (B + 544 + 18) i ∧ ∀ m, 40 * i ≤ m → m < 40 * i + 40 → G' (B + 544 + 19) m = G (B + 544 + 19) m ∧ G' (B + 544 + 20) m = G (B + 544 + 20) m ∧ ∀ k, 5 * m ≤ k → k < 5 * m + 5 → G' (B + 544 + 21) k = G (B + 544 + 21) k
theorem RowE_of {G G' : Nat → Int → Int} {B : Nat} {i : Int} (h : ∀ x, B + 544 + 16 ≤ x → x ≤ B + 544 + 21 → G' x = G x) : RowE G G' B i := by
  unfold RowE
  rw [h (B + 544 + 16) (by omega) (by omega), h (B + 544 + 17) (by omega) (by omega), h (B + 544 + 18) (by omega) (by omega), h (B + 544 + 19) (by omega) (by omega), h (B + 544 + 20) (by omega) (by omega), h (B + 544 + 21) (by omega) (by omega)]
  exact ⟨rfl, rfl, rfl, fun m _ _ => ⟨rfl, rfl, fun k _ _ => rfl⟩⟩
/-- telling v stays, as far as its trees go -/
def TvE (G G' : Nat → Int → Int) (B : Nat) (v : Int) : Prop := G' (tvA B v) 1 = G (tvA B v) 1 ∧ G' (tvA B v + 5) = G (tvA B v + 5) ∧ G' (tvA B v + 6) = G (tvA B v + 6)
theorem TvE_of {G G' : Nat → Int → Int} {B : Nat} {v : Int} (hg : ∀ x, B + 370 ≤ x → x < B + 398 → G' x = G x) (v0 : 0 ≤ v) (v1 : v ≤ 1) : TvE G G' B v := by
  unfold TvE tvA
  rw [hg _ (by omega) (by omega), hg _ (by omega) (by omega), hg _ (by omega) (by omega)]
  exact ⟨rfl, rfl, rfl⟩
theorem TOK_rowT {G G' : Nat → Int → Int} {B : Nat} {h i v : Int} {a : Nat} (hF : IFm G B) (hg : TvE G G' B v) (ha : ∀ x, a ≤ x → x < a + 9 → G' x = G x) (hr : RowE G G' B i) (t : TOK G B h i v a) : TOK G' B h i v a := by
  obtain ⟨t1, t2, t3, t4, t5⟩ := t
  obtain ⟨r1, r2, r3, r4⟩ := hr
  obtain ⟨e1, e5, e6⟩ := hg
  refine ⟨by rw [ha a (by omega) (by omega)]; exact t1, by rw [r1]; exact t2, t3, ?_, ?_⟩
  · unfold TRa
    rw [e1, e5, e6, ha a (by omega) (by omega), ha (a + 1) (by omega) (by omega), ha (a + 2) (by omega) (by omega), ha (a + 3) (by omega) (by omega), ha (a + 4) (by omega) (by omega), ha (a + 6) (by omega) (by omega), ha (a + 7) (by omega) (by omega), ha (a + 8) (by omega) (by omega)]
    exact t4
  · unfold RLa
    rw [e5, ha a (by omega) (by omega), ha (a + 1) (by omega) (by omega), ha (a + 2) (by omega) (by omega), ha (a + 3) (by omega) (by omega), ha (a + 6) (by omega) (by omega), ha (a + 7) (by omega) (by omega)]
    have N40 := t4.1.2.2.2.1
    refine ⟨by rw [r2]; exact t5.1, fun z => by rw [r3]; exact t5.2.1 z, fun m q1 q2 => ?_⟩
    obtain ⟨a1, a2, a3⟩ := t5.2.2 m q1 q2
    obtain ⟨b1, b2, b3⟩ := r4 (40 * i + m) (by omega) (by omega)
    refine ⟨by rw [b1]; exact a1, by rw [b2]; exact a2, fun k qk => ?_⟩
    obtain ⟨c1, c2, c3, _⟩ := t4.2.2.2.2.2.2.2.1 m q1 q2
    have hf := (t4.2.2.2.1 _ c1 c2 c3).1
    have fs := FR_sl ((hF v t3.1 t3.2).2.2.2 (G (a + 1) (G (a + 7) m) - 1000) (by omega) hf)
    unfold tvA at qk
    rw [b3 _ (by omega) (by omega)]
    exact a3 k qk
theorem TOK_row {G G' : Nat → Int → Int} {B : Nat} {h i v : Int} {a : Nat} (hF : IFm G B) (hg : ∀ x, B + 370 ≤ x → x < B + 398 → G' x = G x) (ha : ∀ x, a ≤ x → x < a + 9 → G' x = G x) (hr : RowE G G' B i) (t : TOK G B h i v a) : TOK G' B h i v a := TOK_rowT hF (TvE_of hg t.2.2.1.1 t.2.2.1.2) ha hr t
theorem ITr_row {G G' : Nat → Int → Int} {B : Nat} {i : Int} {a : Nat} (hF : IFm G B) (hg : ∀ x, B + 370 ≤ x → x < B + 398 → G' x = G x) (ha : ∀ x, a ≤ x → x < a + 10 → G' x = G x) (hr : RowE G G' B i) (hp : ∀ m, 0 ≤ m → m < 40 → G' (B + 544 + 22) (40 * i + m) = G (B + 544 + 22) (40 * i + m)) (t : ITr G B i a) : ITr G' B i a := by
  obtain ⟨t0, t⟩ := t
  unfold ITr PIN
  rw [ha a (by omega) (by omega), ha (a + 9) (by omega) (by omega), hr.1]
  refine ⟨t0, t.imp id fun ⟨t1, t2, t3, t4⟩ => ⟨t1, TOK_row hF hg (fun x q1 q2 => ha x q1 (by omega)) hr t2, t3, fun m q1 q2 => ?_⟩⟩
  have := (TOK_b t2).2.2.2.2.2.2.2.2.1
  rw [hp m q1 (by omega)]
  exact t4 m q1 q2
theorem ISw_row {G G' : Nat → Int → Int} {B : Nat} (hF : IFm G B) (hg : ∀ x, B + 370 ≤ x → x < B + 398 → G' x = G x) (h0 : G' (B + 544) 103 = G (B + 544) 103) (h1 : G' (B + 59) 0 = G (B + 59) 0) (h2 : G' (B + 59) 1 = G (B + 59) 1) (ha : ∀ x, B + 170 ≤ x → x < B + 250 → G' x = G x) (hr : ∀ i, 12 ≤ i → i ≤ 19 → RowE G G' B i) (t : ISw G B) : ISw G' B := by
  obtain ⟨t0, t1, t2, t3⟩ := t
  unfold ISw
  rw [h0, h1, h2]
  refine ⟨t0, t1, t2, fun k q1 q2 => ?_⟩
  rw [ha (B + 170 + 10 * k.toNat) (by omega) (by omega)]
  exact ⟨TOK_row hF hg (fun x q3 q4 => ha x (by omega) (by omega)) (hr _ (by omega) (by omega)) (t3 k q1 q2).1, (t3 k q1 q2).2⟩
theorem ITu_row {G G' : Nat → Int → Int} {B : Nat} {k : Int} {a b : Nat} (hF : IFm G B) (hg : ∀ x, B + 370 ≤ x → x < B + 398 → G' x = G x) (h0 : G' (B + 60) k = G (B + 60) k) (h1 : G' (B + 61) k = G (B + 61) k) (h2 : G' (B + 544 + 82) k = G (B + 544 + 82) k) (h3 : G' (B + 544 + 84) k = G (B + 544 + 84) k) (ha : ∀ x, a ≤ x → x < a + 10 → G' x = G x) (hb : ∀ x, b ≤ x → x < b + 10 → G' x = G x)
    (hr : RowE G G' B (20 + 2 * k)) (hs : RowE G G' B (21 + 2 * k)) (t : ITu G B k a b) : ITu G' B k a b := by
  obtain ⟨t0, t⟩ := t
  unfold ITu
  rw [h0, h1, h2, h3, ha a (by omega) (by omega), hb b (by omega) (by omega), ha (a + 1) (by omega) (by omega), ha (a + 3) (by omega) (by omega), ha (a + 4) (by omega) (by omega), hb (b + 1) (by omega) (by omega), hb (b + 3) (by omega) (by omega), hb (b + 4) (by omega) (by omega)]
  refine ⟨t0, t.imp id fun ⟨t1, t2, t3, t4, t5, t6, t7⟩ => ⟨t1, t2, TOK_row hF hg (fun x q1 q2 => ha x q1 (by omega)) hr t3, TOK_row hF hg (fun x q1 q2 => hb x q1 (by omega)) hs t4, t5, t6, ?_⟩⟩
  have kv := t3.2.2.1
  rw [hg (tvA B (G a 1) + 6) (by unfold tvA; omega) (by unfold tvA; omega)]
  exact t7
/-- tree j is another one -/
theorem IRe_tree {G G' : Nat → Int → Int} {B : Nat} {j : Int} (j0 : 0 ≤ j) (j1 : j ≤ 11) (hI : IRe G B) (hF : IFm G B) (hC : ∀ x, (B + 170 ≤ x ∧ x < B + 518) ∨ (B + 59 ≤ x ∧ x ≤ B + 61) → ¬ (B + 398 + 10 * j.toNat ≤ x ∧ x < B + 398 + 10 * j.toNat + 10) → G' x = G x)
    (hr : ∀ i, 0 ≤ i → i ≤ 31 → ¬ i = j → RowE G G' B i) (hp : ∀ i m, 0 ≤ i → i ≤ 11 → ¬ i = j → 0 ≤ m → m < 40 → G' (B + 544 + 22) (40 * i + m) = G (B + 544 + 22) (40 * i + m)) (h1 : G' (B + 544 + 82) = G (B + 544 + 82)) (h2 : G' (B + 544 + 84) = G (B + 544 + 84)) (h3 : G' (B + 544) 103 = G (B + 544) 103) (new : ITr G' B j (B + 398 + 10 * j.toNat)) : IRe G' B := by
  obtain ⟨i1, i2, i3⟩ := hI
  have hg : ∀ x, B + 370 ≤ x → x < B + 398 → G' x = G x := fun x q1 q2 => hC x (by omega) (by omega)
  refine ⟨fun i q1 q2 => ?_, ISw_row hF hg h3 (by rw [hC _ (by omega) (by omega)]) (by rw [hC _ (by omega) (by omega)]) (fun x q1 q2 => hC x (by omega) (by omega)) (fun i q1 q2 => hr i (by omega) (by omega) (by omega)) i2, fun k q1 q2 => ?_⟩
  · by_cases e : i = j
    · rw [e]
      exact new
    · exact ITr_row hF hg (fun x q3 q4 => hC x (by omega) (by omega)) (hr i q1 (by omega) e) (fun m q3 q4 => hp i m q1 q2 e q3 q4) (i1 i q1 q2)
  · exact ITu_row hF hg (by rw [hC _ (by omega) (by omega)]) (by rw [hC _ (by omega) (by omega)]) (by rw [h1]) (by rw [h2]) (fun x q3 q4 => hC x (by omega) (by omega)) (fun x q3 q4 => hC x (by omega) (by omega)) (hr _ (by omega) (by omega) (by omega)) (hr _ (by omega) (by omega) (by omega)) (i3 k q1 q2)
end
