section
/-! ways: values of forms, from an item on -/
def wyc (W : Int → Int) (s i j : Int) : Int := if 0 ≤ s ∧ s ≤ 5 then W (289 * s + 17 * i + j) else 0
theorem wyc_in {W : Int → Int} {s i j : Int} (h : 0 ≤ s ∧ s ≤ 5) : wyc W s i j = W (289 * s + 17 * i + j) := if_pos h
theorem wyc_out {W : Int → Int} {s i j : Int} (h : ¬ (0 ≤ s ∧ s ≤ 5)) : wyc W s i j = 0 := if_neg h
def gC (C : Int → Int) (f : Int) : Int → Int := fun k => C (5 * f + k)
def ftX (X : Int → Int) : Int → Int → Bool := fun it p => sutB it (X p)
/-- items from the k-th on of form f, on the cells from q to j - 1 -/
def rV (W X C n : Int → Int) (j f k q : Int) : Int := rW (wyc W) (ftX X) j (il (gC C f) k (n f - k).toNat) q
theorem rV_end {W X C n : Int → Int} {j f k q : Int} (h : n f ≤ k) : rV W X C n j f k q = if q = j then 1 else 0 := by
  unfold rV
  rw [il_e h]
  rfl
theorem rV_to {W X C n : Int → Int} {j f k : Int} (h : k < n f) : rV W X C n j f k j = 0 := by
  unfold rV
  rw [il_c h]
  exact rW_end
theorem rV_s {W X C n : Int → Int} {j f k q : Int} (h : k < n f) (hq : q < j) (hc : C (5 * f + k) ≤ 65) : rV W X C n j f k q = if 60 ≤ C (5 * f + k) then min 1000 (sumN (fun m => W (289 * (C (5 * f + k) - 60) + 17 * q + m) * rV W X C n j f (k + 1) m) (q + 1) (j - q).toNat) else if sutB (C (5 * f + k)) (X q) = true then rV W X C n j f (k + 1) (q + 1) else 0 := by
  unfold rV
  rw [il_c h, rW]
  show (if 60 ≤ C (5 * f + k) then _ else _) = _
  by_cases c : 60 ≤ C (5 * f + k)
  · rw [if_pos c, if_pos c]
    congr 1
    refine sumN_congr fun m hm => ?_
    show wyc W (C (5 * f + k) - 60) q (q + 1 + m) * _ = _
    rw [wyc_in (by omega)]
  · rw [if_neg c, if_neg c]
    by_cases u : sutB (C (5 * f + k)) (X q) = true
    · rw [if_pos u]
      exact if_pos ⟨hq, u⟩
    · rw [if_neg u]
      exact if_neg (fun z => u z.2)
theorem rV_b {W X C n : Int → Int} {j f k q : Int} (hw : ∀ s x y, 0 ≤ s → s ≤ 5 → q ≤ x → x < y → y ≤ j → 0 ≤ W (289 * s + 17 * x + y)) (hq : q ≤ j) : 0 ≤ rV W X C n j f k q ∧ rV W X C n j f k q ≤ 1000 := by
  refine rW_b (fun s x y h1 h2 h3 => ?_) hq
  by_cases c : 0 ≤ s ∧ s ≤ 5
  · rw [wyc_in c]
    exact hw s x y c.1 c.2 h1 h2 h3
  · rw [wyc_out c]
    exact Int.le_refl _
theorem rV_congr {W W' X C n : Int → Int} {j f k q : Int} (hw : ∀ s x y, 0 ≤ s → s ≤ 5 → q ≤ x → x < y → y ≤ j → W (289 * s + 17 * x + y) = W' (289 * s + 17 * x + y)) : rV W X C n j f k q = rV W' X C n j f k q := by
  refine rW_congr fun s x y h1 h2 h3 => ?_
  by_cases c : 0 ≤ s ∧ s ≤ 5
  · rw [wyc_in c, wyc_in c]
    exact hw s x y c.1 c.2 h1 h2 h3
  · rw [wyc_out c, wyc_out c]
theorem il_len (g : Int → Int) : ∀ (m : Nat) (k : Int), (il g k m).length = m := by
  intro m
  induction m with
  | zero => intro k; rfl
  | succ m ih => intro k; rw [il, List.length_cons, ih]
/-- at the head: the whole span is asked of one sort alone, where the form is that sort alone -/
theorem rV_head {W W' X C n : Int → Int} {j f i : Int} (hn : 1 ≤ n f) (hc : C (5 * f + 0) ≤ 65) (hw : ∀ s x y, 0 ≤ s → s ≤ 5 → i ≤ x → x < y → y ≤ j → y - x < j - i → W (289 * s + 17 * x + y) = W' (289 * s + 17 * x + y))
    (h1 : n f = 1 → 60 ≤ C (5 * f + 0) → W (289 * (C (5 * f + 0) - 60) + 17 * i + j) = W' (289 * (C (5 * f + 0) - 60) + 17 * i + j)) : rV W X C n j f 0 i = rV W' X C n j f 0 i := by
  have e : il (gC C f) 0 (n f - 0).toNat = C (5 * f + 0) :: il (gC C f) (0 + 1) (n f - (0 + 1)).toNat := il_c (by omega)
  unfold rV
  rw [e]
  refine rW_head (List.cons_ne_nil _ _) (fun s x y q1 q2 q3 q4 => ?_) fun it q1 q2 => ?_
  · by_cases c : 0 ≤ s ∧ s ≤ 5
    · rw [wyc_in c, wyc_in c]
      exact hw s x y c.1 c.2 q1 q2 q3 q4
    · rw [wyc_out c, wyc_out c]
  · have a1 : C (5 * f + 0) = it := (List.cons.inj q1).1
    have a2 : il (gC C f) (0 + 1) (n f - (0 + 1)).toNat = [] := (List.cons.inj q1).2
    have a3 : (n f - (0 + 1)).toNat = 0 := by
      rw [← il_len (gC C f) (n f - (0 + 1)).toNat (0 + 1), a2]
      rfl
    rw [wyc_in (by omega), wyc_in (by omega), ← a1]
    exact h1 (by omega) (by omega)
end
section
/-! the class counts: what its tables hold -/
/-- forms as they stand in the telling at t -/
def FT (G : Nat → Int → Int) (t : Nat) : Prop := (0 ≤ G t 1 ∧ G t 1 ≤ 14) ∧ ∀ f, 0 ≤ f → f < G t 1 → (0 ≤ G (t + 2) f ∧ G (t + 2) f ≤ 5) ∧ (1 ≤ G (t + 3) f ∧ G (t + 3) f ≤ 5) ∧ (∀ k, 0 ≤ k → k < G (t + 3) f → 0 ≤ G (t + 4) (5 * f + k) ∧ G (t + 4) (5 * f + k) ≤ 65) ∧ (G (t + 3) f = 1 → 60 ≤ G (t + 4) (5 * f + 0) → G (t + 2) f < G (t + 4) (5 * f + 0) - 60)
/-- in how many ways sort s reads, by the forms -/
def sV (G : Nat → Int → Int) (a t : Nat) (s i j : Int) : Int := sumN (fun f => if G (t + 2) f = s then rV (G (a + 2)) (G (a + 1)) (G (t + 4)) (G (t + 3)) j f 0 i else 0) 0 (G t 1).toNat
def PS (G : Nat → Int → Int) (a t : Nat) (s i j : Int) : Prop := (0 ≤ G (a + 2) (289 * s + 17 * i + j) ∧ G (a + 2) (289 * s + 17 * i + j) ≤ 1000) ∧ G (a + 2) (289 * s + 17 * i + j) = min 1000 (sV G a t s i j)
def PR (G : Nat → Int → Int) (a t : Nat) (i j : Int) : Prop := ∀ f k, 0 ≤ f → f < G t 1 → 1 ≤ k → k < G (t + 3) f → G (a + 3) (289 * (5 * f + k) + 17 * i + j) = rV (G (a + 2)) (G (a + 1)) (G (t + 4)) (G (t + 3)) j f k i
def PD (G : Nat → Int → Int) (a t : Nat) (D : Int → Int → Prop) : Prop := ∀ i j, 0 ≤ i → i < j → j ≤ 16 → D i j → (∀ s, 0 ≤ s → s ≤ 5 → PS G a t s i j) ∧ PR G a t i j
/-- all but the two tables is as it was -/
def FrR (G G' : Nat → Int → Int) (a : Nat) : Prop := ∀ x, ¬ x = a + 2 → ¬ x = a + 3 → G' x = G x
theorem FrR_t {G G' : Nat → Int → Int} {a t : Nat} (h : FrR G G' a) (ht : t + 14 ≤ a) : G' t = G t ∧ G' (t + 2) = G (t + 2) ∧ G' (t + 3) = G (t + 3) ∧ G' (t + 4) = G (t + 4) ∧ G' (a + 1) = G (a + 1) ∧ G' a = G a := ⟨h _ (by omega) (by omega), h _ (by omega) (by omega), h _ (by omega) (by omega), h _ (by omega) (by omega), h _ (by omega) (by omega), h _ (by omega) (by omega)⟩
theorem FT_fr {G G' : Nat → Int → Int} {a t : Nat} (h : FrR G G' a) (ht : t + 14 ≤ a) (hF : FT G t) : FT G' t := by
  obtain ⟨e1, e2, e3, e4, e5, e6⟩ := FrR_t h ht
  unfold FT
  rw [e1, e2, e3, e4]
  exact hF
theorem sV_head {G G' : Nat → Int → Int} {a t : Nat} {s i j : Int} (h : FrR G G' a) (ht : t + 14 ≤ a) (hF : FT G t) (hw : ∀ s x y, 0 ≤ s → s ≤ 5 → i ≤ x → x < y → y ≤ j → y - x < j - i → G' (a + 2) (289 * s + 17 * x + y) = G (a + 2) (289 * s + 17 * x + y)) (h1 : ∀ s', s < s' → s' ≤ 5 → G' (a + 2) (289 * s' + 17 * i + j) = G (a + 2) (289 * s' + 17 * i + j)) : sV G' a t s i j = sV G a t s i j := by
  obtain ⟨e1, e2, e3, e4, e5, e6⟩ := FrR_t h ht
  unfold sV
  rw [e1, e2, e3, e4, e5]
  refine sumN_congr fun m hm => ?_
  by_cases c : G (t + 2) (0 + m) = s
  · rw [if_pos c, if_pos c]
    obtain ⟨q1, q2, q3, q4⟩ := hF.2 (0 + m) (by omega) (by omega)
    have q5 := q3 0 (by omega) (by omega)
    exact rV_head q2.1 q5.2 hw fun z1 z2 => h1 _ (by have := q4 z1 z2; omega) (by omega)
  · rw [if_neg c, if_neg c]
/-- a span that is no part of a done one is written -/
theorem PD_up {G G' : Nat → Int → Int} {a t : Nat} {D : Int → Int → Prop} {i0 j0 : Int} (h : FrR G G' a) (ht : t + 14 ≤ a) (i00 : 0 ≤ i0) (i01 : i0 ≤ 16) (j00 : 0 ≤ j0) (j01 : j0 ≤ 16) (hw : ∀ s x y, 0 ≤ s → s ≤ 5 → 0 ≤ x → x ≤ 16 → 0 ≤ y → y ≤ 16 → ¬ (x = i0 ∧ y = j0) → G' (a + 2) (289 * s + 17 * x + y) = G (a + 2) (289 * s + 17 * x + y))
    (hr : ∀ m x y, 0 ≤ m → m < 70 → 0 ≤ x → x ≤ 16 → 0 ≤ y → y ≤ 16 → ¬ (x = i0 ∧ y = j0) → G' (a + 3) (289 * m + 17 * x + y) = G (a + 3) (289 * m + 17 * x + y)) (hD : ∀ i j, D i j → ¬ (i ≤ i0 ∧ j0 ≤ j)) (hF : FT G t) (hP : PD G a t D) : PD G' a t D := by
  obtain ⟨e1, e2, e3, e4, e5, e6⟩ := FrR_t h ht
  intro i j q1 q2 q3 q4
  obtain ⟨p1, p2⟩ := hP i j q1 q2 q3 q4
  have nd := hD i j q4
  have ww : ∀ s x y, 0 ≤ s → s ≤ 5 → i ≤ x → x < y → y ≤ j → G' (a + 2) (289 * s + 17 * x + y) = G (a + 2) (289 * s + 17 * x + y) := fun s x y z1 z2 z3 z4 z5 => hw s x y z1 z2 (by omega) (by omega) (by omega) (by omega) (by omega)
  refine ⟨fun s s0 s1 => ?_, fun f k f0 f1 k0 k1 => ?_⟩
  · unfold PS
    rw [ww s i j s0 s1 (Int.le_refl _) q2 (Int.le_refl _), sV_head h ht hF (fun s x y z1 z2 z3 z4 z5 z6 => ww s x y z1 z2 z3 z4 z5) (fun s' z1 z2 => ww s' i j (by omega) z2 (Int.le_refl _) q2 (Int.le_refl _))]
    exact p1 s s0 s1
  · rw [e1] at f1
    rw [e3] at k1
    obtain ⟨u1, u2, u3, u4⟩ := hF.2 f f0 f1
    have g1 := hF.1
    rw [hr (5 * f + k) i j (by omega) (by omega) q1 (by omega) (by omega) q3 (by omega), e3, e4, e5, p2 f k f0 f1 k0 k1]
    exact rV_congr fun s x y z1 z2 z3 z4 z5 => (ww s x y z1 z2 z3 z4 z5).symm
end
