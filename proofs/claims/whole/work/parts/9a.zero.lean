section
/-! price nought is a reading -/
theorem minN_zero {F : Int → Int} {lo cap : Int} (hc : 1 ≤ cap) {m : Nat} (h : ∀ k : Nat, k < m → 0 ≤ F (lo + k)) : minN F lo cap m = 0 ↔ ∃ k : Nat, k < m ∧ F (lo + k) = 0 := by
  refine ⟨fun e => ?_, fun ⟨k, k1, k2⟩ => ?_⟩
  · obtain ⟨k, k1, k2⟩ := minN_ex (F := F) (lo := lo) (cap := cap) (n := m) (by omega)
    exact ⟨k, k1, by omega⟩
  · have a1 := minN_le (F := F) (lo := lo) (cap := cap) k1
    have a2 := minN_ge (F := F) (lo := lo) (cap := cap) (x := 0) h (by omega)
    omega
theorem itP_0 {P : Int → Int → Int → Int} {ft : Int → Int → Bool} {it p q : Int} (c : ¬ 60 ≤ it) (h : p ≤ q) : itP P ft it p q = 0 ↔ q = p + 1 ∧ ft it p = true := by
  unfold itP
  rw [if_neg c]
  by_cases e : anF ft it p (q - p).toNat = true
  · rw [if_pos e]
    obtain ⟨k, k1, k2⟩ := anF_iff.mp e
    refine ⟨fun z => ⟨by omega, ?_⟩, fun z => by omega⟩
    rw [show p = p + (k : Int) by omega]
    exact k2
  · rw [if_neg e]
    refine ⟨fun z => by omega, fun ⟨z1, z2⟩ => ?_⟩
    refine absurd (anF_iff.mpr ⟨0, by omega, ?_⟩) e
    rw [show p + ((0 : Nat) : Int) = p by omega]
    exact z2
theorem Z_row {I : Int} (hI : 1 ≤ I) {P wy : Int → Int → Int → Int} {ft : Int → Int → Bool} {to : Int} : ∀ (l : List Int) (p : Int), p ≤ to → (∀ s x y, p ≤ x → x ≤ y → y ≤ to → 0 ≤ P s x y) → (∀ s x, p ≤ x → x ≤ to → 1 ≤ P s x x) → (∀ s x y, p ≤ x → x < y → y ≤ to → 0 ≤ wy s x y) → (∀ s x y, p ≤ x → x < y → y ≤ to → (P s x y = 0 ↔ 0 < wy s x y)) → (rP I P ft to l p = 0 ↔ 0 < rW wy ft to l p) := by
  intro l
  induction l with
  | nil =>
    intro p hp _ _ _ _
    rw [rP, rW]
    by_cases c : p = to
    · rw [if_pos c, if_pos c]
      omega
    · rw [if_neg c, if_neg c]
      omega
  | cons it r ih =>
    intro p hp h1 h2 h3 h4
    have ihq : ∀ q, p ≤ q → q ≤ to → (rP I P ft to r q = 0 ↔ 0 < rW wy ft to r q) := fun q q0 q1 => ih q q1 (fun s x y z1 z2 z3 => h1 s x y (by omega) z2 z3) (fun s x z1 z2 => h2 s x (by omega) z2) (fun s x y z1 z2 z3 => h3 s x y (by omega) z2 z3) fun s x y z1 z2 z3 => h4 s x y (by omega) z2 z3
    have rn : ∀ q, p ≤ q → 0 ≤ rP I P ft to r q := fun q q0 => rP_nn (by omega) fun s x y z1 z2 z3 => h1 s x y (by omega) z2 z3
    have wn : ∀ q, p ≤ q → q ≤ to → 0 ≤ rW wy ft to r q := fun q q0 q1 => (rW_b (fun s x y z1 z2 z3 => h3 s x y (by omega) z2 z3) q1).1
    have inn : ∀ q, p ≤ q → q ≤ to → 0 ≤ itP P ft it p q := fun q q0 q1 => by
      by_cases c : 60 ≤ it
      · rw [itP_sort c]
        exact h1 _ _ _ (Int.le_refl _) q0 q1
      · exact (itP_leaf_b c q0).1
    rw [rP_c, minN_zero hI (fun k hk => by
      have := inn (p + k) (by omega) (by omega)
      have := rn (p + k) (by omega)
      show 0 ≤ itP P ft it p (p + k) + rP I P ft to r (p + k)
      omega), rW]
    by_cases c : 60 ≤ it
    · rw [if_pos c]
      have sp := sumN_pos (F := fun m => wy (it - 60) p m * rW wy ft to r m) (lo := p + 1) (n := (to - p).toNat) (fun k hk => Int.mul_nonneg (h3 _ _ _ (Int.le_refl _) (by omega) (by omega)) (wn _ (by omega) (by omega)))
      refine ⟨fun ⟨k, k1, k2⟩ => ?_, fun z => ?_⟩
      · have a1 := inn (p + k) (by omega) (by omega)
        have a2 := rn (p + k) (by omega)
        have k2 : itP P ft it p (p + k) + rP I P ft to r (p + k) = 0 := k2
        have a3 : itP P ft it p (p + k) = 0 := by omega
        rw [itP_sort c] at a3
        by_cases k0 : k = 0
        · subst k0
          rw [show p + ((0 : Nat) : Int) = p by omega] at a3
          have := h2 (it - 60) p (Int.le_refl _) hp
          omega
        · have b1 := (h4 (it - 60) p (p + k) (Int.le_refl _) (by omega) (by omega)).mp a3
          have b2 := (ihq (p + k) (by omega) (by omega)).mp (by omega)
          have := sp.mpr ⟨k - 1, by omega, by
            rw [show p + 1 + ((k - 1 : Nat) : Int) = p + k by omega]
            exact Int.mul_pos b1 b2⟩
          omega
      · obtain ⟨k, k1, k2⟩ := sp.mp (by omega)
        have k2 : 0 < wy (it - 60) p (p + 1 + k) * rW wy ft to r (p + 1 + k) := k2
        have b1 := h3 (it - 60) p (p + 1 + k) (Int.le_refl _) (by omega) (by omega)
        have b2 := wn (p + 1 + k) (by omega) (by omega)
        have n1 : ¬ wy (it - 60) p (p + 1 + k) = 0 := fun e => by
          rw [e, Int.zero_mul] at k2
          omega
        have n2 : ¬ rW wy ft to r (p + 1 + k) = 0 := fun e => by
          rw [e, Int.mul_zero] at k2
          omega
        have c1 := (h4 (it - 60) p (p + 1 + k) (Int.le_refl _) (by omega) (by omega)).mpr (by omega)
        have c2 := (ihq (p + 1 + k) (by omega) (by omega)).mpr (by omega)
        refine ⟨k + 1, by omega, ?_⟩
        rw [show p + ((k + 1 : Nat) : Int) = p + 1 + k by omega]
        show itP P ft it p (p + 1 + k) + rP I P ft to r (p + 1 + k) = 0
        rw [itP_sort c, c1, c2]
        rfl
    · rw [if_neg c]
      by_cases d : p < to ∧ ft it p = true
      · rw [if_pos d, ← ihq (p + 1) (by omega) (by omega)]
        refine ⟨fun ⟨k, k1, k2⟩ => ?_, fun z => ⟨1, by omega, ?_⟩⟩
        · have a1 := inn (p + k) (by omega) (by omega)
          have a2 := rn (p + k) (by omega)
          have k2 : itP P ft it p (p + k) + rP I P ft to r (p + k) = 0 := k2
          have a3 := ((itP_0 c (by omega)).mp (show itP P ft it p (p + k) = 0 by omega)).1
          rw [a3] at k2 a1
          have := rn (p + 1) (by omega)
          omega
        · rw [show p + ((1 : Nat) : Int) = p + 1 by omega]
          show itP P ft it p (p + 1) + rP I P ft to r (p + 1) = 0
          rw [(itP_0 c (by omega)).mpr ⟨rfl, d.2⟩, z]
          rfl
      · rw [if_neg d]
        refine ⟨fun ⟨k, k1, k2⟩ => ?_, fun z => by omega⟩
        have a1 := inn (p + k) (by omega) (by omega)
        have a2 := rn (p + k) (by omega)
        have k2 : itP P ft it p (p + k) + rP I P ft to r (p + k) = 0 := k2
        have a3 := (itP_0 c (by omega)).mp (show itP P ft it p (p + k) = 0 by omega)
        exact absurd ⟨by omega, a3.2⟩ d
/-- the two tables tell the same spans -/
theorem Z_all {nf N : Int} {sf : Int → Int} {fi : Int → List Int} {ft : Int → Int → Bool} {Q : Int → Int → Int → Int} {W : Int → Int} (hF : FO5 nf sf fi) (hQ : QOK nf sf fi ft N Q) (wb : ∀ s x y, 0 ≤ s → s ≤ 5 → 0 ≤ x → x < y → y ≤ N → 0 ≤ W (289 * s + 17 * x + y)) (hW : WOk nf sf fi ft N (wyc W)) : ∀ (d : Nat) (a b : Int), 0 ≤ a → a < b → b ≤ N → b - a ≤ d → ∀ s, Q s a b = 0 ↔ 0 < wyc W s a b := by
  have wn : ∀ s x y, 0 ≤ x → x < y → y ≤ N → 0 ≤ wyc W s x y := fun s x y q1 q2 q3 => by
    by_cases c : 0 ≤ s ∧ s ≤ 5
    · rw [wyc_in c]
      exact wb s x y c.1 c.2 q1 q2 q3
    · rw [wyc_out c]
      exact Int.le_refl _
  have out : ∀ s a b, ¬ (0 ≤ s ∧ s ≤ 5) → (Q s a b = 0 ↔ 0 < wyc W s a b) := fun s a b c => by
    rw [wyc_out c, hQ.1 s a b c]
    decide
  intro d
  induction d with
  | zero => intro a b _ _ _ h; omega
  | succ d ih =>
    intro a b a0 ab bn hd
    have inner : ∀ (k : Nat) (s : Int), 0 ≤ s → s ≤ 5 → 5 - s < k → (Q s a b = 0 ↔ 0 < wyc W s a b) := by
      intro k
      induction k with
      | zero => intro s _ _ h; omega
      | succ k ihk =>
        intro s s0 s1 hk
        obtain ⟨g1, g2, g3, g4⟩ := hQ.2 s a b s0 s1 a0 (by omega) bn
        obtain ⟨wy, hwy⟩ : ∃ wy : Int → Int → Int → Int, wy = fun s' x y => if x = a ∧ y = b ∧ ¬ s < s' then (if Q s' x y = 0 then 1 else 0) else wyc W s' x y := ⟨_, rfl⟩
        have wyn : ∀ s' x y, a ≤ x → x < y → y ≤ b → 0 ≤ wy s' x y := fun s' x y q1 q2 q3 => by
          rw [hwy]
          show 0 ≤ if x = a ∧ y = b ∧ ¬ s < s' then (if Q s' x y = 0 then (1 : Int) else 0) else wyc W s' x y
          split
          · split <;> omega
          · exact wn s' x y (by omega) q2 (by omega)
        have zz : ∀ s' x y, a ≤ x → x < y → y ≤ b → (Q s' x y = 0 ↔ 0 < wy s' x y) := fun s' x y q1 q2 q3 => by
          rw [hwy]
          show Q s' x y = 0 ↔ 0 < if x = a ∧ y = b ∧ ¬ s < s' then (if Q s' x y = 0 then (1 : Int) else 0) else wyc W s' x y
          by_cases c : x = a ∧ y = b ∧ ¬ s < s'
          · rw [if_pos c]
            by_cases e : Q s' x y = 0
            · rw [if_pos e]
              exact ⟨fun _ => by omega, fun _ => e⟩
            · rw [if_neg e]
              exact ⟨fun z => absurd z e, fun z => by omega⟩
          · rw [if_neg c]
            by_cases r : 0 ≤ s' ∧ s' ≤ 5
            · by_cases w : x = a ∧ y = b
              · rw [w.1, w.2]
                exact ihk s' r.1 r.2 (by omega)
              · exact ih x y (by omega) q2 (by omega) (by omega) s'
            · exact out s' x y r
        have form : ∀ f, 0 ≤ f → f < nf → sf f = s → (rP 1000000 Q ft b (fi f) a = 0 ↔ 0 < rW (wyc W) ft b (fi f) a) := fun f f0 f1 fs => by
          obtain ⟨k1, k2, k3⟩ := hF.1 f f0 f1
          have z := Z_row (I := 1000000) (by omega) (P := Q) (wy := wy) (ft := ft) (to := b) (fi f) a (by omega) (fun s' x y q1 q2 q3 => (Q_nn hQ s' (by omega) q2 (by omega)).1) (fun s' x q1 q2 => (Q_nn hQ s' (by omega) (Int.le_refl _) (by omega)).2.2 rfl) wyn zz
          rw [z, rW_head (wy := wy) (wy' := wyc W) k1 (fun s' x y q1 q2 q3 q4 => by
            rw [hwy]
            exact if_neg (by omega)) (fun it e c => by
            rw [hwy]
            have := k3 it e c
            exact if_neg (by omega))]
        have hw := hW s a b s0 s1 a0 ab bn
        have sp := sumN_pos (F := fun f => if sf f = s then rW (wyc W) ft b (fi f) a else 0) (lo := 0) (n := nf.toNat) (fun k hk => by
          show 0 ≤ if sf (0 + k) = s then rW (wyc W) ft b (fi (0 + k)) a else 0
          split
          · exact (rW_b (fun s' x y q1 q2 q3 => wn s' x y (by omega) q2 (by omega)) (by omega)).1
          · exact Int.le_refl _)
        refine ⟨fun e => ?_, fun e => ?_⟩
        · obtain ⟨f, f0, f1, fs, fe⟩ := g4 (by omega)
          have := (form f f0 f1 fs).mp (by omega)
          have := sp.mpr ⟨f.toNat, by omega, by
            show 0 < if sf (0 + (f.toNat : Int)) = s then rW (wyc W) ft b (fi (0 + (f.toNat : Int))) a else 0
            rw [show 0 + (f.toNat : Int) = f by omega, if_pos fs]
            exact this⟩
          rw [hw]
          omega
        · rw [hw] at e
          obtain ⟨k', k1, k2⟩ := sp.mp (by omega)
          have k2 : 0 < if sf (0 + k') = s then rW (wyc W) ft b (fi (0 + k')) a else 0 := k2
          by_cases fs : sf (0 + k') = s
          · rw [if_pos fs] at k2
            have := (form (0 + k') (by omega) (by omega) fs).mpr k2
            have := g3 (0 + k') (by omega) (by omega) fs
            omega
          · rw [if_neg fs] at k2
            omega
    intro s
    by_cases c : 0 ≤ s ∧ s ≤ 5
    · exact inner 6 s c.1 c.2 (by omega)
    · exact out s a b c
end
