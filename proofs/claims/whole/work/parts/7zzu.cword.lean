section
/-! a tree carried to the other telling, as a word -/
def smN (a : Nat → Int) : Nat → Int
  | 0 => 0
  | m + 1 => smN a m + a m
theorem smN_s (a : Nat → Int) (m : Nat) : smN a (m + 1) = smN a m + a m := rfl
theorem smN_cong {a b : Nat → Int} {m : Nat} (h : ∀ i, i < m → b i = a i) : smN b m = smN a m := by
  induction m with
  | zero => rfl
  | succ m ih => rw [smN_s, smN_s, ih (fun i hi => h i (by omega)), h m (by omega)]
theorem smN_le {a b : Nat → Int} {m : Nat} (h : ∀ i, i < m → b i ≤ a i) : smN b m ≤ smN a m := by
  induction m with
  | zero => exact Int.le_refl _
  | succ m ih =>
    have := ih (fun i hi => h i (by omega))
    have := h m (by omega)
    rw [smN_s, smN_s]
    omega
/-- one taken out -/
theorem smN_out (a : Nat → Int) (s : Nat) : ∀ n : Nat, s < n → smN (fun j => if j = s then 0 else a j) n = smN a n - a s := by
  intro n
  induction n with
  | zero => intro h; omega
  | succ n ih =>
    intro h
    rw [smN_s, smN_s]
    by_cases e : s = n
    · subst e
      have : smN (fun j => if j = s then 0 else a j) s = smN a s := smN_cong fun i hi => if_neg (by omega)
      rw [this]
      show smN a s + (if s = s then 0 else a s) = _
      rw [if_pos rfl]
      omega
    · rw [ih (by omega)]
      show smN a n - a s + (if n = s then 0 else a n) = _
      rw [if_neg (by omega)]
      omega
/-- distinct ones among all -/
theorem smN_inj : ∀ (m n : Nat) (a : Nat → Int) (σ : Nat → Nat), (∀ j, j < n → 0 ≤ a j) → (∀ i, i < m → σ i < n) → (∀ i i', i < m → i' < i → ¬ σ i' = σ i) → smN (fun i => a (σ i)) m ≤ smN a n := by
  intro m
  induction m with
  | zero =>
    intro n a σ h0 _ _
    have : ∀ k : Nat, k ≤ n → 0 ≤ smN a k := by
      intro k
      induction k with
      | zero => intro _; exact Int.le_refl _
      | succ k ihk =>
        intro hk
        have := ihk (by omega)
        have := h0 k (by omega)
        rw [smN_s]
        omega
    exact this n (Nat.le_refl _)
  | succ m ih =>
    intro n a σ h0 h1 h2
    have st := h1 m (by omega)
    have l := ih n (fun j => if j = σ m then 0 else a j) σ (fun j hj => by
      show 0 ≤ (if j = σ m then 0 else a j)
      split
      · exact Int.le_refl _
      · exact h0 j hj) (fun i hi => h1 i (by omega)) (fun i i' hi hi' => h2 i i' (by omega) hi')
    have e : smN (fun i => (fun j => if j = σ m then 0 else a j) (σ i)) m = smN (fun i => a (σ i)) m := smN_cong fun i hi => if_neg (h2 m i (by omega) hi)
    rw [e, smN_out a (σ m) n st] at l
    rw [smN_s]
    show smN (fun i => a (σ i)) m + a (σ m) ≤ _
    omega
/-- how many nodes a word has -/
def nw : List Int → Int
  | [] => 0
  | a :: w => (if 1000 ≤ a then 1 else 0) + nw w
theorem nw_app : ∀ (w w' : List Int), nw (w ++ w') = nw w + nw w' := by
  intro w
  induction w with
  | nil => intro w'; show nw w' = 0 + nw w'; omega
  | cons a w ih =>
    intro w'
    show (if 1000 ≤ a then 1 else 0) + nw (w ++ w') = (if 1000 ≤ a then 1 else 0) + nw w + nw w'
    rw [ih]
    omega
theorem nw_nb {c : Int → Int} : ∀ (w : List Int) (P : Nat), At c P w → nb c (P + w.length) = nb c P + nw w := by
  intro w
  induction w with
  | nil => intro P _; show nb c P = nb c P + 0; omega
  | cons a w ih =>
    intro P h
    have := ih (P + 1) h.2
    rw [List.length_cons, show P + (w.length + 1) = P + 1 + w.length by omega, this, nb_s, h.1]
    show nb c P + (if 1000 ≤ a then 1 else 0) + nw w = nb c P + ((if 1000 ≤ a then 1 else 0) + nw w)
    omega
theorem nw_cat (u : Nat → List Int) : ∀ m : Nat, nw (cat u m) = smN (fun i => nw (u i)) m := by
  intro m
  induction m with
  | zero => rfl
  | succ m ih => rw [cat_s, nw_app, ih, smN_s]
def CW (ns1 mt ms cT eT : Int → Int) : Nat → Int → List Int → Prop
  | 0, _, _ => False
  | k + 1, x, w => (¬ 1000 ≤ cT x ∧ w = [cT x]) ∨ (1000 ≤ cT x ∧ ∃ u : Nat → List Int, w = (1000 + mt (cT x - 1000)) :: cat u (ns1 (mt (cT x - 1000))).toNat ∧ ∀ i : Nat, (i : Int) < ns1 (mt (cT x - 1000)) → CW ns1 mt ms cT eT k (chI eT x (ms (5 * (cT x - 1000) + i)).toNat) (u i))
/-- the forms of the tree are mapped -/
def MPD (F1 : Int) (ns0 ns1 I0 I1 mt ms cT : Int → Int) (n : Int) : Prop := ∀ x, 0 ≤ x → x < n → 1000 ≤ cT x → 0 ≤ mt (cT x - 1000) ∧ mt (cT x - 1000) < F1 ∧ ∀ i : Nat, (i : Int) < ns1 (mt (cT x - 1000)) → 0 ≤ ms (5 * (cT x - 1000) + i) ∧ ms (5 * (cT x - 1000) + i) < ns0 (cT x - 1000) ∧ ki (I0 (5 * (cT x - 1000) + ms (5 * (cT x - 1000) + i))) = ki (I1 (5 * mt (cT x - 1000) + i)) ∧ ∀ i' : Nat, i' < i → ¬ ms (5 * (cT x - 1000) + i') = ms (5 * (cT x - 1000) + i)
theorem CW_ex {F F1 : Int} {ns0 ns1 I0 I1 mt ms : Int → Int} {n N L : Int} {cT eT u s r na la : Int → Int} (t : Tr 0 F ns0 I0 n N L cT eT u s r na la) (m : MPD F1 ns0 ns1 I0 I1 mt ms cT n) : ∀ (k : Nat) (x : Int), 0 ≤ x → x < n → eT x - x ≤ k → ∃ w, CW ns1 mt ms cT eT k x w := by
  intro k
  induction k with
  | zero =>
    intro x x0 x1 hk
    have := t.2.1 x x0 x1
    omega
  | succ k ih =>
    intro x x0 x1 hk
    by_cases l : 1000 ≤ cT x
    · obtain ⟨m1, m2, m3⟩ := m x x0 x1 l
      obtain ⟨F1', cE, cH⟩ := t.2.2.2.1 x x0 x1 l
      have all : ∀ i : Nat, ∃ w : List Int, (i : Int) < ns1 (mt (cT x - 1000)) → CW ns1 mt ms cT eT k (chI eT x (ms (5 * (cT x - 1000) + i)).toNat) w := fun i => by
        by_cases hi : (i : Int) < ns1 (mt (cT x - 1000))
        · obtain ⟨a1, a2, a3, a4⟩ := m3 i hi
          have b := cH (ms (5 * (cT x - 1000) + i)).toNat (by omega)
          have ce := (Tr_che t x0 x1 l (show (ms (5 * (cT x - 1000) + i)).toNat < (ns0 (cT x - 1000)).toNat by omega)).2
          obtain ⟨w, hw⟩ := ih _ (by omega) b.2.1 (by omega)
          exact ⟨w, fun _ => hw⟩
        · exact ⟨[], fun w => absurd w hi⟩
      exact ⟨_, Or.inr ⟨l, fun i => Classical.choose (all i), rfl, fun i hi => Classical.choose_spec (all i) hi⟩⟩
    · exact ⟨_, Or.inl ⟨l, rfl⟩⟩
theorem ki_okc {h i1 i2 c : Int} (e : ki i1 = ki i2) (o : okc h i1 c) : okc h i2 c := by
  unfold ki at e
  unfold okc at o ⊢
  split at e <;> split at e <;> omega
theorem CW_pw {F F1 : Int} {ns0 ns1 I0 I1 mt ms : Int → Int} {n N L : Int} {cT eT u s r na la : Int → Int} (t : Tr 0 F ns0 I0 n N L cT eT u s r na la) (m : MPD F1 ns0 ns1 I0 I1 mt ms cT n) : ∀ (k : Nat) (x it : Int) (w : List Int), 0 ≤ x → x < n → okc 0 it (cT x) → CW ns1 mt ms cT eT k x w → PW 0 F1 ns1 I1 k it w ∧ nw w ≤ nb cT (eT x).toNat - nb cT x.toNat := by
  intro k
  induction k with
  | zero => intro x it w _ _ _ f; exact f.elim
  | succ k ih =>
    intro x it w x0 x1 ok f
    have ex := t.2.1 x x0 x1
    rcases f with ⟨l, hw⟩ | ⟨l, u', hw, hu⟩
    · subst hw
      have c20 := (t.2.2.2.2.1 x x0 x1 l).1
      refine ⟨⟨cT x, ok, Or.inl ⟨l, c20, rfl⟩⟩, ?_⟩
      have := nbi_mono cT (show x ≤ eT x by omega)
      show (if 1000 ≤ cT x then 1 else 0) + (0 : Int) ≤ _
      rw [if_neg l]
      omega
    · subst hw
      obtain ⟨m1, m2, m3⟩ := m x x0 x1 l
      obtain ⟨F1', cE, cH⟩ := t.2.2.2.1 x x0 x1 l
      have kid : ∀ i : Nat, (i : Int) < ns1 (mt (cT x - 1000)) → PW 0 F1 ns1 I1 k (I1 (5 * mt (cT x - 1000) + i)) (u' i) ∧ nw (u' i) ≤ nb cT (eT (chI eT x (ms (5 * (cT x - 1000) + i)).toNat)).toNat - nb cT (chI eT x (ms (5 * (cT x - 1000) + i)).toNat).toNat := fun i hi => by
        obtain ⟨a1, a2, a3, a4⟩ := m3 i hi
        have b := cH (ms (5 * (cT x - 1000) + i)).toNat (by omega)
        have ob := b.2.2.2.2
        rw [Int.toNat_of_nonneg a1] at ob
        exact ih _ _ _ (by omega) b.2.1 (ki_okc a3 ob) (hu i hi)
      have e1 : (1000 + mt (cT x - 1000)) - 1000 = mt (cT x - 1000) := by omega
      refine ⟨⟨1000 + mt (cT x - 1000), ?_, Or.inr ⟨by omega, by omega, u', by rw [e1], fun i hi => ?_⟩⟩, ?_⟩
      · unfold okc at ok ⊢
        omega
      · rw [e1] at hi ⊢
        exact (kid i hi).1
      · show (if 1000 ≤ 1000 + mt (cT x - 1000) then 1 else 0) + nw (cat u' (ns1 (mt (cT x - 1000))).toNat) ≤ _
        rw [if_pos (by omega), nw_cat]
        -- all slots of the tree's node
        have tot : ∀ j : Nat, (j : Int) ≤ ns0 (cT x - 1000) → x + 1 ≤ chI eT x j ∧ smN (fun j => nb cT (eT (chI eT x j)).toNat - nb cT (chI eT x j).toNat) j = nb cT (chI eT x j).toNat - nb cT (x + 1).toNat := by
          intro j
          induction j with
          | zero =>
            intro _
            have z : chI eT x 0 = x + 1 := rfl
            rw [z]
            exact ⟨Int.le_refl _, by show (0 : Int) = _; omega⟩
          | succ j ihj =>
            intro hj
            obtain ⟨q1, q2⟩ := ihj (by omega)
            have b := cH j (by omega)
            have eb := t.2.1 (chI eT x j) (by omega) b.2.1
            have cs : chI eT x (j + 1) = eT (chI eT x j) := rfl
            rw [smN_s, q2, cs]
            exact ⟨by omega, by omega⟩
        have n1 : nb cT (x + 1).toNat = nb cT x.toNat + 1 := by
          rw [show (x + 1).toNat = x.toNat + 1 by omega, nb_s, Int.toNat_of_nonneg x0, if_pos l]
        by_cases z : 0 ≤ ns0 (cT x - 1000)
        · obtain ⟨_, q2⟩ := tot (ns0 (cT x - 1000)).toNat (by omega)
          rw [cE] at q2
          have le1 : smN (fun i => nw (u' i)) (ns1 (mt (cT x - 1000))).toNat ≤ smN (fun i => (fun j => nb cT (eT (chI eT x j)).toNat - nb cT (chI eT x j).toNat) ((fun i : Nat => (ms (5 * (cT x - 1000) + i)).toNat) i)) (ns1 (mt (cT x - 1000))).toNat := smN_le fun i hi => (kid i (by omega)).2
          have le2 := smN_inj (ns1 (mt (cT x - 1000))).toNat (ns0 (cT x - 1000)).toNat (fun j => nb cT (eT (chI eT x j)).toNat - nb cT (chI eT x j).toNat) (fun i : Nat => (ms (5 * (cT x - 1000) + i)).toNat) (fun j hj => by
            have b := cH j (by omega)
            have eb := t.2.1 (chI eT x j) (by omega) b.2.1
            have := nbi_mono cT (show chI eT x j ≤ eT (chI eT x j) by omega)
            show 0 ≤ nb cT (eT (chI eT x j)).toNat - nb cT (chI eT x j).toNat
            omega) (fun i hi => by
            obtain ⟨a1, a2, _⟩ := m3 i (by omega)
            show (ms (5 * (cT x - 1000) + i)).toNat < _
            omega) (fun i i' hi hi' => by
            obtain ⟨a1, a2, a3, a4⟩ := m3 i (by omega)
            obtain ⟨b1, b2, _⟩ := m3 i' (by omega)
            have := a4 i' hi'
            show ¬ (ms (5 * (cT x - 1000) + i')).toNat = (ms (5 * (cT x - 1000) + i)).toNat
            omega)
          have le3 := Int.le_trans le1 le2
          omega
        · have : (ns1 (mt (cT x - 1000))).toNat = 0 := by
            refine Classical.byContradiction fun q => ?_
            obtain ⟨a1, a2, _⟩ := m3 0 (by omega)
            omega
          rw [this]
          have mo := nbi_mono cT (show x + 1 ≤ eT x by omega)
          show 1 + (0 : Int) ≤ _
          omega
end
