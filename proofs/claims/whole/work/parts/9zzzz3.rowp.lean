section
/-! rows: words, their order and their values (pure) -/
def ltW : List Int → List Int → Bool
  | x :: a, y :: b => decide (x < y) || (decide (x = y) && ltW a b)
  | _, _ => false
/-- a code of a row -/
def okC (x : Int) : Prop := ((0 ≤ x ∧ x ≤ 11) ∨ x = 20) ∨ x = 40
def okW (u : List Int) : Prop := ∀ x, x ∈ u → okC x
set_option maxHeartbeats 400000 in
theorem ltW_cc (x y : Int) (a b : List Int) : ltW (x :: a) (y :: b) = true ↔ x < y ∨ (x = y ∧ ltW a b = true) := by
  rw [ltW, Bool.or_eq_true, Bool.and_eq_true, decide_eq_true_iff, decide_eq_true_iff]
set_option maxHeartbeats 400000 in
theorem ltW_irr : ∀ u : List Int, ¬ ltW u u = true := by
  intro u
  induction u with
  | nil => intro h; exact absurd h (by decide)
  | cons x u ih =>
    rw [ltW_cc]
    intro h
    rcases h with h | h
    · omega
    · exact ih h.2
set_option maxHeartbeats 400000 in
theorem ltW_tr : ∀ u v w : List Int, ltW u v = true → ltW v w = true → ltW u w = true := by
  intro u
  induction u with
  | nil => intro v w h; exact absurd h (by simp [ltW])
  | cons x u ih =>
    intro v w h k
    cases v with
    | nil => exact absurd h (by simp [ltW])
    | cons y v =>
      cases w with
      | nil => exact absurd k (by simp [ltW])
      | cons z w =>
        rw [ltW_cc] at h k ⊢
        rcases h with h | h
        · rcases k with k | k <;> exact Or.inl (by omega)
        · rcases k with k | k
          · exact Or.inl (by omega)
          · exact Or.inr ⟨by omega, ih v w h.2 k.2⟩
set_option maxHeartbeats 400000 in
theorem ltW_tri : ∀ u v : List Int, u.length = v.length → u = v ∨ ltW u v = true ∨ ltW v u = true := by
  intro u
  induction u with
  | nil =>
    intro v h
    cases v with
    | nil => exact Or.inl rfl
    | cons y v => simp at h
  | cons x u ih =>
    intro v h
    cases v with
    | nil => simp at h
    | cons y v =>
      simp only [List.length_cons, Nat.add_right_cancel_iff] at h
      rw [ltW_cc, ltW_cc]
      by_cases a : x < y
      · exact Or.inr (Or.inl (Or.inl a))
      · by_cases b : y < x
        · exact Or.inr (Or.inr (Or.inl b))
        · have e : x = y := by omega
          subst e
          rcases ih v h with k | k | k
          · exact Or.inl (by rw [k])
          · exact Or.inr (Or.inl (Or.inr ⟨rfl, k⟩))
          · exact Or.inr (Or.inr (Or.inr ⟨rfl, k⟩))
/-- the value of a word, behind acc -/
def vW (b : Int) (rk : Int → Int) : Int → List Int → Int
  | acc, [] => acc
  | acc, x :: u => vW b rk (acc * b + rk x) u
set_option maxHeartbeats 400000 in
theorem vW_app (b : Int) (rk : Int → Int) : ∀ (u w : List Int) (acc : Int), vW b rk acc (u ++ w) = vW b rk (vW b rk acc u) w := by
  intro u
  induction u with
  | nil => exact fun _ _ => rfl
  | cons x u ih =>
    intro w acc
    rw [List.cons_append, vW, vW, ih]
set_option maxHeartbeats 400000 in
theorem vW_acc (b : Int) (rk : Int → Int) : ∀ (u : List Int) (acc : Int), vW b rk acc u = acc * b ^ u.length + vW b rk 0 u := by
  intro u
  induction u with
  | nil =>
    intro acc
    show acc = acc * b ^ 0 + 0
    rw [Int.pow_zero, Int.mul_one, Int.add_zero]
  | cons x u ih =>
    intro acc
    rw [vW, vW, ih (acc * b + rk x), ih (0 * b + rk x), List.length_cons, Int.pow_succ]
    rw [Int.zero_mul, Int.zero_add, Int.add_mul, Int.mul_assoc, Int.mul_comm b (b ^ u.length), Int.add_assoc]
set_option maxHeartbeats 400000 in
theorem vW_b {b : Int} {rk : Int → Int} (b0 : 0 < b) (r0 : ∀ x, okC x → 0 ≤ rk x ∧ rk x < b) (r1 : ∀ x y, okC x → okC y → x < y → rk x < rk y) : ∀ u : List Int, okW u → 0 ≤ vW b rk 0 u ∧ vW b rk 0 u < b ^ u.length := by
  intro u
  induction u with
  | nil =>
    intro _
    show (0 : Int) ≤ 0 ∧ 0 < b ^ 0
    rw [Int.pow_zero]
    omega
  | cons x u ih =>
    intro h
    have k := ih fun y hy => h y (List.mem_cons_of_mem _ hy)
    have rx := r0 x (h x List.mem_cons_self)
    rw [vW, vW_acc, List.length_cons, Int.pow_succ, Int.zero_mul, Int.zero_add]
    have p0 : 0 < b ^ u.length := by omega
    have a1 : 0 ≤ rk x * b ^ u.length := Int.mul_nonneg rx.1 (by omega)
    have a2 : (rk x + 1) * b ^ u.length ≤ b * b ^ u.length := Int.mul_le_mul_of_nonneg_right (by omega) (by omega)
    rw [Int.add_mul, Int.one_mul] at a2
    rw [Int.mul_comm (b ^ u.length) b]
    omega
set_option maxHeartbeats 400000 in
theorem vW_lt {b : Int} {rk : Int → Int} (b0 : 0 < b) (r0 : ∀ x, okC x → 0 ≤ rk x ∧ rk x < b) (r1 : ∀ x y, okC x → okC y → x < y → rk x < rk y) : ∀ u w : List Int, okW u → okW w → u.length = w.length → ltW u w = true → vW b rk 0 u < vW b rk 0 w := by
  intro u
  induction u with
  | nil =>
    intro w _ _ hl h
    exact absurd h (by cases w <;> simp [ltW])
  | cons x u ih =>
    intro w hu hw hl h
    cases w with
    | nil => simp at hl
    | cons y w =>
      simp only [List.length_cons, Nat.add_right_cancel_iff] at hl
      have ou : okW u := fun z hz => hu z (List.mem_cons_of_mem _ hz)
      have ow : okW w := fun z hz => hw z (List.mem_cons_of_mem _ hz)
      have bu := vW_b b0 r0 r1 u ou
      have bw := vW_b b0 r0 r1 w ow
      rw [ltW_cc] at h
      rw [vW, vW, vW_acc b rk u, vW_acc b rk w, Int.zero_mul, Int.zero_add, Int.zero_add, ← hl]
      rw [← hl] at bw
      rcases h with h | h
      · have l := r1 x y (hu x List.mem_cons_self) (hw y List.mem_cons_self) h
        have a2 : (rk x + 1) * b ^ u.length ≤ rk y * b ^ u.length := Int.mul_le_mul_of_nonneg_right (by omega) (by omega)
        rw [Int.add_mul, Int.one_mul] at a2
        omega
      · have := ih w ou ow hl h.2
        rw [h.1]
        omega
set_option maxHeartbeats 400000 in
/-- values are in the words' order -/
theorem vW_iff {b : Int} {rk : Int → Int} (b0 : 0 < b) (r0 : ∀ x, okC x → 0 ≤ rk x ∧ rk x < b) (r1 : ∀ x y, okC x → okC y → x < y → rk x < rk y) {u w : List Int} (hu : okW u) (hw : okW w) (hl : u.length = w.length) : (vW b rk 0 u < vW b rk 0 w ↔ ltW u w = true) ∧ (vW b rk 0 u = vW b rk 0 w ↔ u = w) := by
  rcases ltW_tri u w hl with h | h | h
  · subst h
    exact ⟨⟨fun q => absurd q (by omega), fun q => absurd q (ltW_irr u)⟩, ⟨fun _ => rfl, fun _ => rfl⟩⟩
  · have k := vW_lt b0 r0 r1 u w hu hw hl h
    exact ⟨⟨fun _ => h, fun _ => k⟩, ⟨fun q => absurd q (by omega), fun q => by rw [q]⟩⟩
  · have k := vW_lt b0 r0 r1 w u hw hu hl.symm h
    refine ⟨⟨fun q => absurd q (by omega), fun q => absurd (ltW_tr _ _ _ h q) (ltW_irr w)⟩, ⟨fun q => absurd q (by omega), fun q => by rw [q]⟩⟩
/-- the ranks of the class and the codes of the reference -/
def rk14 (x : Int) : Int := if x = 20 then 12 else if x = 40 then 13 else x
set_option maxHeartbeats 400000 in
theorem rk14_b (x : Int) (h : okC x) : 0 ≤ rk14 x ∧ rk14 x < 14 := by
  unfold rk14
  unfold okC at h
  split <;> (try split) <;> omega
set_option maxHeartbeats 400000 in
theorem rk14_lt (x y : Int) (hx : okC x) (hy : okC y) (h : x < y) : rk14 x < rk14 y := by
  unfold rk14
  unfold okC at hx hy
  split <;> split <;> (try split) <;> (try split) <;> omega
set_option maxHeartbeats 400000 in
theorem rk64_b (x : Int) (h : okC x) : 0 ≤ (fun z : Int => z) x ∧ (fun z : Int => z) x < 64 := by
  show 0 ≤ x ∧ x < 64
  unfold okC at h
  omega
def V14 (u : List Int) : Int := vW 14 rk14 0 u
def V64 (u : List Int) : Int := vW 64 (fun z => z) 0 u
set_option maxHeartbeats 400000 in
theorem V14_iff {u w : List Int} (hu : okW u) (hw : okW w) (hl : u.length = w.length) : (V14 u < V14 w ↔ ltW u w = true) ∧ (V14 u = V14 w ↔ u = w) := vW_iff (by omega) rk14_b rk14_lt hu hw hl
set_option maxHeartbeats 400000 in
theorem V64_iff {u w : List Int} (hu : okW u) (hw : okW w) (hl : u.length = w.length) : (V64 u < V64 w ↔ ltW u w = true) ∧ (V64 u = V64 w ↔ u = w) := vW_iff (by omega) rk64_b (fun _ _ _ _ h => h) hu hw hl
end
