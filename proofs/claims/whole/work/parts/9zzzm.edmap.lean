section
/-! distance: bounds, other labels, any order of keys (pure) -/
theorem ed_le : ∀ (f g : List (Int × Nat)), Ed f g ≤ f.length + g.length := by
  intro f
  induction f with
  | nil =>
    intro g
    rw [ed_nl]
    exact Nat.le_add_left _ _
  | cons a r ih =>
    intro g
    obtain ⟨x, s⟩ := a
    have h1 := ed_del x s r g
    have h2 := ih g
    rw [List.length_cons]
    omega
theorem EDt_u {L e L' e' : Int → Int} {i E j E' : Int} : EDt L e L' e' i E j E' ≤ (E - i).toNat + (E' - j).toNat := by
  unfold EDt
  have h := ed_le (Fw L e i (E - i).toNat) (Fw L' e' j (E' - j).toNat)
  rw [Fw_len, Fw_len] at h
  omega
/-- the same with other names of labels -/
def rlb (φ : Int → Int) (f : List (Int × Nat)) : List (Int × Nat) := f.map fun a => (φ a.1, a.2)
theorem ed_map {φ : Int → Int} : ∀ (n : Nat) (f g : List (Int × Nat)), f.length + g.length ≤ n → (∀ a, a ∈ f → ∀ b, b ∈ g → (φ a.1 = φ b.1 ↔ a.1 = b.1)) → Ed (rlb φ f) (rlb φ g) = Ed f g := by
  intro n
  induction n with
  | zero =>
    intro f g h _
    cases f with
    | nil =>
      rw [show rlb φ ([] : List (Int × Nat)) = [] from rfl, ed_nl, ed_nl]
      exact List.length_map ..
    | cons a r => simp at h
  | succ n ih =>
    intro f g h k
    cases f with
    | nil =>
      rw [show rlb φ ([] : List (Int × Nat)) = [] from rfl, ed_nl, ed_nl]
      exact List.length_map ..
    | cons a r =>
      cases g with
      | nil =>
        rw [show rlb φ ([] : List (Int × Nat)) = [] from rfl, ed_nr, ed_nr]
        exact List.length_map ..
      | cons b q =>
        obtain ⟨x, s⟩ := a
        obtain ⟨y, t⟩ := b
        simp only [List.length_cons] at h
        have hr : ∀ z, z ∈ r → z ∈ (x, s) :: r := fun z m => List.mem_cons_of_mem _ m
        have hq : ∀ z, z ∈ q → z ∈ (y, t) :: q := fun z m => List.mem_cons_of_mem _ m
        have e1 := ih r ((y, t) :: q) (by simp only [List.length_cons]; omega) (fun a ha b hb => k a (hr a ha) b hb)
        have e2 := ih ((x, s) :: r) q (by simp only [List.length_cons]; omega) (fun a ha b hb => k a ha b (hq b hb))
        have e3 := ih (r.take s) (q.take t) (by simp only [List.length_take]; omega) (fun a ha b hb => k a (hr a (List.mem_of_mem_take ha)) b (hq b (List.mem_of_mem_take hb)))
        have e4 := ih (r.drop s) (q.drop t) (by simp only [List.length_drop]; omega) (fun a ha b hb => k a (hr a (List.mem_of_mem_drop ha)) b (hq b (List.mem_of_mem_drop hb)))
        have kk := k (x, s) List.mem_cons_self (y, t) List.mem_cons_self
        have c1 : rlb φ ((x, s) :: r) = (φ x, s) :: rlb φ r := rfl
        have c2 : rlb φ ((y, t) :: q) = (φ y, t) :: rlb φ q := rfl
        have t1 : rlb φ (r.take s) = (rlb φ r).take s := List.map_take
        have t2 : rlb φ (q.take t) = (rlb φ q).take t := List.map_take
        have t3 : rlb φ (r.drop s) = (rlb φ r).drop s := List.map_drop
        have t4 : rlb φ (q.drop t) = (rlb φ q).drop t := List.map_drop
        rw [c2] at e1
        rw [c1] at e2
        rw [t1, t2] at e3
        rw [t3, t4] at e4
        rw [c1, c2, ed_cc, ed_cc, e1, e2, e3, e4]
        by_cases c : x = y
        · rw [if_pos c, if_pos (kk.mpr c)]
        · rw [if_neg c, if_neg (fun z => c (kk.mp z))]
theorem Fw_map {φ : Int → Int} {L L2 e : Int → Int} : ∀ (m : Nat) (p : Int), (∀ i, p ≤ i → i < p + m → L2 i = φ (L i)) → Fw L2 e p m = rlb φ (Fw L e p m) := by
  intro m
  induction m with
  | zero => exact fun _ _ => rfl
  | succ m ih =>
    intro p h
    rw [Fw, Fw, ih (p + 1) (fun i a b => h i (by omega) (by omega)), h p (Int.le_refl _) (by omega)]
    rfl
theorem Fw_mem {L e : Int → Int} : ∀ (m : Nat) (p : Int) (a : Int × Nat), a ∈ Fw L e p m → ∃ i, p ≤ i ∧ i < p + m ∧ a.1 = L i := by
  intro m
  induction m with
  | zero =>
    intro p a h
    exact absurd h (List.not_mem_nil)
  | succ m ih =>
    intro p a h
    rw [Fw] at h
    rcases List.mem_cons.mp h with h | h
    · exact ⟨p, Int.le_refl _, by omega, by rw [h]⟩
    · obtain ⟨i, i1, i2, i3⟩ := ih (p + 1) a h
      exact ⟨i, by omega, by omega, i3⟩
theorem EDt_map {φ : Int → Int} {L e L' e' L2 L2' : Int → Int} {n n' : Int} (h : ∀ i, 0 ≤ i → i < n → L2 i = φ (L i)) (h' : ∀ i, 0 ≤ i → i < n' → L2' i = φ (L' i)) (k : ∀ i j, 0 ≤ i → i < n → 0 ≤ j → j < n' → (φ (L i) = φ (L' j) ↔ L i = L' j)) : EDt L2 e L2' e' 0 n 0 n' = EDt L e L' e' 0 n 0 n' := by
  unfold EDt
  rw [Fw_map (φ := φ) (L := L) (L2 := L2) _ _ (fun i a b => h i a (by omega)), Fw_map (φ := φ) (L := L') (L2 := L2') _ _ (fun i a b => h' i a (by omega)), ed_map _ _ _ (Nat.le_refl _) (fun a ha b hb => by
    obtain ⟨i, i1, i2, i3⟩ := Fw_mem _ _ _ ha
    obtain ⟨j, j1, j2, j3⟩ := Fw_mem _ _ _ hb
    rw [i3, j3]
    exact k i j i1 (by omega) j1 (by omega))]
theorem WRt_mono {W L e L' e' : Int → Int} {n n' p q p' q' : Int} (w : WRt W L e L' e' n n' p q) (h : ∀ k l, KFi e k k → KFi e' l l → k < n → l < n' → (p' < k ∨ (k = p' ∧ q' < l)) → p < k ∨ (k = p ∧ q < l)) : WRt W L e L' e' n n' p' q' := fun i j k l i0 i1 j0 j1 hk hl z => w i j k l i0 i1 j0 j1 hk hl (h k l (KFi_self hk) (KFi_self hl) (by have := hk.2.1; omega) (by have := hl.2.1; omega) z)
/-- what is measured in the end -/
theorem WRt_end {W L e L' e' : Int → Int} {n n' : Int} (w : WRt W L e L' e' n n' 0 (-1)) (n0 : 0 < n) (n0' : 0 < n') (e0 : e 0 = n) (e0' : e' 0 = n') : W 0 = EDt L e L' e' 0 n 0 n' := by
  have k := w 0 0 0 0 (Int.le_refl _) n0 (Int.le_refl _) n0' ⟨Int.le_refl _, Int.le_refl _, rfl, fun x a b => by omega⟩ ⟨Int.le_refl _, Int.le_refl _, rfl, fun x a b => by omega⟩ (Or.inr ⟨rfl, by omega⟩)
  rw [e0, e0', show (201 : Int) * 0 + 0 = 0 by omega] at k
  exact k
end
