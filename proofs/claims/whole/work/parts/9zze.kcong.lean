section
/-! kept: arrays that agree within a tree tell the same -/
theorem ch_cg {h F : Int} {ns I : Int → Int} {n N L : Int} {c e u s r na la c' e' : Int → Int} (t : Tr h F ns I n N L c e u s r na la) (E : ∀ p, 0 ≤ p → p < n → c' p = c p ∧ e' p = e p) {q : Int} (q0 : 0 ≤ q) (q1 : q < n) (l : 1000 ≤ c q) {i : Nat} (hi : i ≤ (ns (c q - 1000)).toNat) : chI e' q i = chI e q i := chI_eqv fun k hk => (E _ (by have := (t.2.2.2.1 q q0 q1 l).2.2 k (by omega); omega) (by have := (t.2.2.2.1 q q0 q1 l).2.2 k (by omega); omega)).2
theorem ok_cg {h F : Int} {ns I : Int → Int} {n N L : Int} {c e u s r na la c' e' : Int → Int} (t : Tr h F ns I n N L c e u s r na la) (E : ∀ p, 0 ≤ p → p < n → c' p = c p ∧ e' p = e p) {c0 e0 : Int → Int} : ∀ (k : Nat) (p q : Int), 0 ≤ q → q < n → (okM ns c0 e0 c' e' k p q ↔ okM ns c0 e0 c e k p q) ∧ (okM ns c0 e0 c e k p q → ∀ h x, hlM ns c0 e0 c' e' k p q h x ↔ hlM ns c0 e0 c e k p q h x) := by
  intro k
  induction k with
  | zero => exact fun p q q0 q1 => ⟨Iff.rfl, fun o => o.elim⟩
  | succ k ih =>
    intro p q q0 q1
    have eq := (E q q0 q1).1
    have ch : c0 p = c q → 1000 ≤ c0 p → ∀ i : Nat, (i : Int) < ns (c0 p - 1000) → chI e' q i = chI e q i ∧ 0 ≤ chI e q i ∧ chI e q i < n := fun z l i hi => by
      rw [z] at l hi
      have := (t.2.2.2.1 q q0 q1 l).2.2 i hi
      exact ⟨ch_cg t E q0 q1 l (by omega), by omega, by omega⟩
    refine ⟨⟨fun o => ?_, fun o => ?_⟩, fun o hh x => ⟨fun w => ?_, fun w => ?_⟩⟩
    · rcases o with a | ⟨a, b, d⟩
      · exact Or.inl a
      · refine Or.inr ⟨a, by rw [← eq]; exact b, fun l i hi => ?_⟩
        obtain ⟨y1, y2, y3⟩ := ch (by rw [← eq]; exact b) l i hi
        have := d l i hi
        rw [y1] at this
        exact (ih _ _ y2 y3).1.mp this
    · rcases o with a | ⟨a, b, d⟩
      · exact Or.inl a
      · refine Or.inr ⟨a, by rw [eq]; exact b, fun l i hi => ?_⟩
        obtain ⟨y1, y2, y3⟩ := ch b l i hi
        rw [y1]
        exact (ih _ _ y2 y3).1.mpr (d l i hi)
    · rcases w with a | ⟨a, l, i, hi, w⟩
      · exact Or.inl a
      · rcases o with o | ⟨_, b, d⟩
        · exact absurd o a
        · obtain ⟨y1, y2, y3⟩ := ch b l i hi
          rw [y1] at w
          exact Or.inr ⟨a, l, i, hi, ((ih _ _ y2 y3).2 (d l i hi) hh x).mp w⟩
    · rcases w with a | ⟨a, l, i, hi, w⟩
      · exact Or.inl a
      · rcases o with o | ⟨_, b, d⟩
        · exact absurd o a
        · obtain ⟨y1, y2, y3⟩ := ch b l i hi
          refine Or.inr ⟨a, l, i, hi, ?_⟩
          rw [y1]
          exact ((ih _ _ y2 y3).2 (d l i hi) hh x).mpr w
theorem Seg_cg {h F : Int} {ns I : Int → Int} {n N L : Int} {c e u s r na la c' e' : Int → Int} (t : Tr h F ns I n N L c e u s r na la) (E : ∀ p, 0 ≤ p → p < n → c' p = c p ∧ e' p = e p) {x y : Int} (x0 : 0 ≤ x) (x1 : x < n) (y0 : 0 ≤ y) (y1 : y < n) (sg : Seg c e c e x y) : Seg c' e' c' e' x y := by
  obtain ⟨a, b⟩ := sg
  have ex := t.2.1 x x0 x1
  have ey := t.2.1 y y0 y1
  refine ⟨by rw [(E x x0 x1).2, (E y y0 y1).2]; exact a, fun z z0 z1 => ?_⟩
  rw [(E x x0 x1).2] at z1
  rw [(E (x + z) (by omega) (by omega)).1, (E (y + z) (by omega) (by omega)).1]
  exact b z z0 z1
theorem Seg_cg2 {h F : Int} {ns I : Int → Int} {n N L : Int} {c e u s r na la c' e' : Int → Int} (t : Tr h F ns I n N L c e u s r na la) (E : ∀ p, 0 ≤ p → p < n → c' p = c p ∧ e' p = e p) {x y : Int} (x0 : 0 ≤ x) (x1 : x < n) (y0 : 0 ≤ y) (y1 : y < n) (sg : Seg c' e' c' e' x y) : Seg c e c e x y := by
  obtain ⟨a, b⟩ := sg
  have ex := t.2.1 x x0 x1
  have ey := t.2.1 y y0 y1
  rw [(E x x0 x1).2, (E y y0 y1).2] at a
  refine ⟨a, fun z z0 z1 => ?_⟩
  have := b z z0 (by rw [(E x x0 x1).2]; exact z1)
  rw [(E (x + z) (by omega) (by omega)).1, (E (y + z) (by omega) (by omega)).1] at this
  exact this
theorem FW_cg {h F : Int} {ns I : Int → Int} {n N L : Int} {c e u s r na la c' e' : Int → Int} (t : Tr h F ns I n N L c e u s r na la) (E : ∀ p, 0 ≤ p → p < n → c' p = c p ∧ e' p = e p) {cZ eZ : Int → Int} {S S' : Int → Int → Prop} (sb : ∀ h x, S h x → 0 ≤ x ∧ x < n) (hS : ∀ h x, S h x → S' h x) : ∀ (k : Nat) (y : Int) (w : List Int), FW ns cZ eZ c e S k y w → FW ns cZ eZ c' e' S' k y w := by
  intro k
  induction k with
  | zero => exact fun y w f => f.elim
  | succ k ih =>
    intro y w f
    rcases f with ⟨a, x, b, d⟩ | a | ⟨l, v, a, b⟩
    · obtain ⟨x0, x1⟩ := sb _ x b
      have ex := t.2.1 x x0 x1
      refine Or.inl ⟨a, x, hS _ _ b, ?_⟩
      rw [d, (E x x0 x1).2]
      exact (sgL_cong fun z z0 z1 => (E (x + z) (by omega) (by omega)).1).symm
    · exact Or.inr (Or.inl a)
    · exact Or.inr (Or.inr ⟨l, v, a, fun i hi => ih _ _ (b i hi)⟩)
/-- the word of a tree with one piece exchanged, cut in three -/
theorem TW_dec {h F : Int} {ns I : Int → Int} {n N L : Int} {c e u s r na la : Int → Int} (t : Tr h F ns I n N L c e u s r na la) {p : Int} {Fl : Int → List Int → Prop} : ∀ (k : Nat) (y : Int) (w : List Int) (d : Int), 0 ≤ y → y < n → TW (fun x => x = p) Fl ns c e k y w d → (p < y ∨ e y ≤ p → w = sgL c y (e y - y).toNat) ∧ (y ≤ p → p < e y → e p ≤ e y ∧ ∃ fw, Fl p fw ∧ w = sgL c y (p - y).toNat ++ (fw ++ sgL c (e p) (e y - e p).toNat)) := by
  intro k
  induction k with
  | zero => exact fun y w d _ _ f => f.elim
  | succ k ih =>
    intro y w d y0 y1 f
    have ey := t.2.1 y y0 y1
    rcases f with ⟨a, b, _⟩ | ⟨a, l, b, _⟩ | ⟨a, l, v, dv, b, _, hv⟩
    · subst a
      refine ⟨fun z => by omega, fun _ _ => ⟨Int.le_refl _, w, b, ?_⟩⟩
      rw [Int.sub_self, Int.sub_self]
      show w = [] ++ (w ++ [])
      rw [List.nil_append, List.append_nil]
    · have el := (t.2.2.2.2.1 y y0 y1 l).2
      refine ⟨fun _ => ?_, fun z1 z2 => absurd (show y = p by omega) a⟩
      rw [b, el, show (y + 1 - y).toNat = 1 by omega]
      rfl
    · obtain ⟨F1, cE, cH⟩ := t.2.2.2.1 y y0 y1 l
      have key : ∀ m : Nat, m ≤ (ns (c y - 1000)).toNat → y + 1 ≤ chI e y m ∧ (p < y + 1 ∨ chI e y m ≤ p → c y :: cat v m = sgL c y (chI e y m - y).toNat) ∧ (y + 1 ≤ p → p < chI e y m → e p ≤ chI e y m ∧ ∃ fw, Fl p fw ∧ c y :: cat v m = sgL c y (p - y).toNat ++ (fw ++ sgL c (e p) (chI e y m - e p).toNat)) := by
        intro m
        induction m with
        | zero =>
          intro _
          have z : chI e y 0 = y + 1 := rfl
          rw [z]
          refine ⟨Int.le_refl _, fun _ => ?_, fun z1 z2 => by omega⟩
          rw [show (y + 1 - y).toNat = 1 by omega]
          rfl
        | succ m ihm =>
          intro hm
          obtain ⟨g1, g2, g3⟩ := ihm (by omega)
          obtain ⟨b1, b2, _⟩ := cH m (by omega)
          have eq := t.2.1 (chI e y m) (by omega) b2
          have cs : chI e y (m + 1) = e (chI e y m) := rfl
          obtain ⟨i1, i2⟩ := ih (chI e y m) (v m) (dv m) (by omega) b2 (hv m (by omega))
          rw [cs, cat_s]
          refine ⟨by omega, fun z => ?_, fun z1 z2 => ?_⟩
          · rw [← List.cons_append, g2 (by omega), i1 (by omega), show (e (chI e y m) - y).toNat = (chI e y m - y).toNat + (e (chI e y m) - chI e y m).toNat by omega, sgL_app, show y + (((chI e y m - y).toNat : Nat) : Int) = chI e y m by omega]
          · by_cases z : p < chI e y m
            · obtain ⟨j1, fw, j2, j3⟩ := g3 z1 z
              have ep := t.2.1 p (by omega) (by omega)
              refine ⟨by omega, fw, j2, ?_⟩
              rw [← List.cons_append, j3, i1 (Or.inl z), show (e (chI e y m) - e p).toNat = (chI e y m - e p).toNat + (e (chI e y m) - chI e y m).toNat by omega, sgL_app, show e p + (((chI e y m - e p).toNat : Nat) : Int) = chI e y m by omega, List.append_assoc, List.append_assoc]
            · obtain ⟨j1, fw, j2, j3⟩ := i2 (by omega) z2
              refine ⟨j1, fw, j2, ?_⟩
              rw [← List.cons_append, g2 (by omega), j3, show (p - y).toNat = (chI e y m - y).toNat + (p - chI e y m).toNat by omega, sgL_app, show y + (((chI e y m - y).toNat : Nat) : Int) = chI e y m by omega, List.append_assoc]
      obtain ⟨g1, g2, g3⟩ := key _ (Nat.le_refl _)
      rw [cE, ← b] at g2 g3
      refine ⟨fun z => g2 (by omega), fun z1 z2 => ?_⟩
      have : ¬ y = p := fun z => a z
      exact g3 (by omega) z2
end
