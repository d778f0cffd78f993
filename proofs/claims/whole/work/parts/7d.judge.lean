section
/-! what is let go one after the other, and the same found from behind -/
/-- of n that are held, those that stand after k have been asked: S is what stands -/
def lgo (F : (Nat → Prop) → Prop) : Nat → (Nat → Prop)
  | 0 => fun _ => True
  | k + 1 => fun i => lgo F k i ∧ ¬ (i = k ∧ F (fun j => lgo F k j ∧ ¬ j = k))
theorem lgo_keep {F : (Nat → Prop) → Prop} {k : Nat} (h : ¬ F (fun j => lgo F k j ∧ ¬ j = k)) : lgo F (k + 1) = lgo F k := by
  funext i
  refine propext ⟨fun q => q.1, fun q => ⟨q, fun w => h w.2⟩⟩
theorem lgo_drop {F : (Nat → Prop) → Prop} {k : Nat} (h : F (fun j => lgo F k j ∧ ¬ j = k)) : lgo F (k + 1) = fun j => lgo F k j ∧ ¬ j = k := by
  funext i
  refine propext ⟨fun q => ⟨q.1, fun w => q.2 ⟨w, h⟩⟩, fun q => ⟨q.1, fun w => q.2 w.1⟩⟩
/-- F asks of the first n alone, and more is worse -/
def Mono (n : Nat) (F : (Nat → Prop) → Prop) : Prop := ∀ S S' : Nat → Prop, (∀ i, i < n → S i → S' i) → F S → F S'
/-- between last and i all are let go, i stays -/
theorem lgo_skip {n : Nat} {F : (Nat → Prop) → Prop} (hF : Mono n F) {b : Nat → Prop} {m i : Nat} (hb : ∀ j, b j → j < m) (hi : i ≤ n) (hS : ∀ j, j < n → (lgo F m j ↔ b j ∨ m ≤ j)) (hf : F (fun j => b j ∨ i ≤ j)) (hmi : m ≤ i) :
    ∀ d k, k = m + d → k ≤ i → ∀ j, j < n → (lgo F k j ↔ b j ∨ k ≤ j) := by
  intro d
  induction d with
  | zero =>
    intro k hk _
    have e : k = m := by omega
    subst e
    exact hS
  | succ d ih =>
    intro k hk hki j hj
    have h1 := ih (m + d) rfl (by omega)
    have e : k = m + d + 1 := by omega
    subst e
    have h2 : F (fun j => lgo F (m + d) j ∧ ¬ j = m + d) := by
      refine hF _ _ (fun j hj hq => ?_) hf
      rcases hq with q | q
      · exact ⟨(h1 j hj).mpr (Or.inl q), fun e => by have := hb j q; omega⟩
      · exact ⟨(h1 j hj).mpr (Or.inr (by omega)), by omega⟩
    rw [lgo_drop h2]
    constructor
    · intro ⟨q1, q2⟩
      rcases (h1 j hj).mp q1 with q | q
      · exact Or.inl q
      · exact Or.inr (by omega)
    · intro q
      rcases q with q | q
      · exact ⟨(h1 j hj).mpr (Or.inl q), fun e => by have := hb j q; omega⟩
      · exact ⟨(h1 j hj).mpr (Or.inr (by omega)), by omega⟩
/-- i is the last one without which there is no fault: it stays, and what is behind it is asked next -/
theorem lgo_stay {n : Nat} {F : (Nat → Prop) → Prop} (hF : Mono n F) {b : Nat → Prop} {m i : Nat} (hb : ∀ j, b j → j < m) (hi : i < n) (hS : ∀ j, j < n → (lgo F m j ↔ b j ∨ m ≤ j)) (hf : F (fun j => b j ∨ i ≤ j)) (hn : ¬ F (fun j => b j ∨ i + 1 ≤ j)) (hmi : m ≤ i) :
    ∀ j, j < n → (lgo F (i + 1) j ↔ (b j ∨ j = i) ∨ i + 1 ≤ j) := by
  have h1 := lgo_skip hF hb (by omega) hS hf hmi (i - m) i (by omega) (Nat.le_refl _)
  have h2 : ¬ F (fun j => lgo F i j ∧ ¬ j = i) := by
    intro q
    refine hn (hF _ _ (fun j hj w => ?_) q)
    rcases (h1 j hj).mp w.1 with e | e
    · exact Or.inl e
    · exact Or.inr (by have := w.2; omega)
  intro j hj
  rw [lgo_keep h2, h1 j hj]
  constructor
  · intro q
    rcases q with q | q
    · exact Or.inl (Or.inl q)
    · by_cases e : j = i
      · exact Or.inl (Or.inr e)
      · exact Or.inr (by omega)
  · intro q
    rcases q with (q | q) | q
    · exact Or.inl q
    · exact Or.inr (by omega)
    · exact Or.inr (by omega)
/-- what stays is a fault by itself: all the others are let go -/
theorem lgo_end {n : Nat} {F : (Nat → Prop) → Prop} (hF : Mono n F) {b : Nat → Prop} {m : Nat} (hb : ∀ j, b j → j < m) (hm : m ≤ n) (hS : ∀ j, j < n → (lgo F m j ↔ b j ∨ m ≤ j)) (hf : F b) : ∀ j, j < n → (lgo F n j ↔ b j) := by
  have h1 := lgo_skip hF hb (Nat.le_refl n) hS (hF _ _ (fun j _ q => Or.inl q) hf) hm (n - m) n (by omega) (Nat.le_refl _)
  intro j hj
  rw [h1 j hj]
  exact ⟨fun q => q.elim id (fun w => by omega), fun q => Or.inl q⟩
end
section
/-! what is held: the least likeness, the kinds, the fault -/
def Eqv (E : Int → Int → Prop) : Prop := (∀ p, E p p) ∧ (∀ p q, E p q → E q p) ∧ ∀ p q r, E p q → E q r → E p r
/-- p and q are alike by those of S: one i and two i are (two i below 0: no mate) -/
def Cl (H : Nat) (one two : Nat → Int) (S : Nat → Prop) (p q : Int) : Prop := ∀ E : Int → Int → Prop, Eqv E → (∀ i, i < H → S i → 0 ≤ two i → E (one i) (two i)) → E p q
theorem Cl_eqv {H : Nat} {one two : Nat → Int} {S : Nat → Prop} : Eqv (Cl H one two S) := ⟨fun p E h _ => h.1 p, fun p q w E h k => h.2.1 _ _ (w E h k), fun p q r w z E h k => h.2.2 _ _ _ (w E h k) (z E h k)⟩
theorem Cl_in {H : Nat} {one two : Nat → Int} {S : Nat → Prop} {i : Nat} (hi : i < H) (hS : S i) (h2 : 0 ≤ two i) : Cl H one two S (one i) (two i) := fun E _ k => k i hi hS h2
theorem Cl_mono {H : Nat} {one two : Nat → Int} {S : Nat → Prop} {S' : Nat → Prop} (h : ∀ i, i < H → S i → S' i) {p q : Int} (w : Cl H one two S p q) : Cl H one two S' p q := fun E e k => w E e (fun i hi hs h2 => k i hi (h i hi hs) h2)
theorem Cl_congr {H : Nat} {one two : Nat → Int} {S : Nat → Prop} {S' : Nat → Prop} (h : ∀ i, i < H → (S i ↔ S' i)) (p q : Int) : Cl H one two S p q ↔ Cl H one two S' p q := ⟨Cl_mono fun i hi => (h i hi).mp, Cl_mono fun i hi => (h i hi).mpr⟩
theorem Cl_0 {H : Nat} {one two : Nat → Int} {S : Nat → Prop} (h : ∀ i, i < H → S i → two i < 0) (p q : Int) : Cl H one two S p q ↔ p = q := ⟨fun w => w (fun a b => a = b) ⟨fun _ => rfl, fun _ _ e => e.symm, fun _ _ _ e f => e.trans f⟩ (fun i hi hs h2 => by have := h i hi hs; omega), fun e => by rw [e]; exact Cl_eqv.1 q⟩
/-- one more, with a mate -/
theorem Cl_add {H : Nat} {one two : Nat → Int} {S : Nat → Prop} {i : Nat} (hi : i < H) (h2 : 0 ≤ two i) (p q : Int) : Cl H one two (fun j => S j ∨ j = i) p q ↔ (Cl H one two S p q ∨ (Cl H one two S p (one i) ∧ Cl H one two S (two i) q) ∨ (Cl H one two S p (two i) ∧ Cl H one two S (one i) q)) := by
  have e := Cl_eqv (H := H) (one := one) (two := two) (S := S)
  have e' := Cl_eqv (H := H) (one := one) (two := two) (S := fun j => S j ∨ j = i)
  have m : ∀ {p q : Int}, Cl H one two S p q → Cl H one two (fun j => S j ∨ j = i) p q := fun w => Cl_mono (fun _ _ h => Or.inl h) w
  have ii : Cl H one two (fun j => S j ∨ j = i) (one i) (two i) := Cl_in hi (Or.inr rfl) h2
  constructor
  · intro w
    refine w (fun p q => Cl H one two S p q ∨ (Cl H one two S p (one i) ∧ Cl H one two S (two i) q) ∨ (Cl H one two S p (two i) ∧ Cl H one two S (one i) q)) ⟨fun p => Or.inl (e.1 p), fun p q h => ?_, fun p q r h k => ?_⟩ (fun j hj hs hj2 => ?_)
    · rcases h with h | ⟨h1, h3⟩ | ⟨h1, h3⟩
      · exact Or.inl (e.2.1 _ _ h)
      · exact Or.inr (Or.inr ⟨e.2.1 _ _ h3, e.2.1 _ _ h1⟩)
      · exact Or.inr (Or.inl ⟨e.2.1 _ _ h3, e.2.1 _ _ h1⟩)
    · rcases h with h | ⟨h1, h3⟩ | ⟨h1, h3⟩
      · rcases k with k | ⟨k1, k3⟩ | ⟨k1, k3⟩
        · exact Or.inl (e.2.2 _ _ _ h k)
        · exact Or.inr (Or.inl ⟨e.2.2 _ _ _ h k1, k3⟩)
        · exact Or.inr (Or.inr ⟨e.2.2 _ _ _ h k1, k3⟩)
      · rcases k with k | ⟨k1, k3⟩ | ⟨k1, k3⟩
        · exact Or.inr (Or.inl ⟨h1, e.2.2 _ _ _ h3 k⟩)
        · exact Or.inr (Or.inl ⟨h1, k3⟩)
        · exact Or.inl (e.2.2 _ _ _ h1 k3)
      · rcases k with k | ⟨k1, k3⟩ | ⟨k1, k3⟩
        · exact Or.inr (Or.inr ⟨h1, e.2.2 _ _ _ h3 k⟩)
        · exact Or.inl (e.2.2 _ _ _ h1 k3)
        · exact Or.inr (Or.inr ⟨h1, k3⟩)
    · rcases hs with hs | hs
      · exact Or.inl (Cl_in hj hs hj2)
      · rw [hs]
        exact Or.inr (Or.inl ⟨e.1 _, e.1 _⟩)
  · intro w
    rcases w with w | ⟨w1, w3⟩ | ⟨w1, w3⟩
    · exact m w
    · exact e'.2.2 _ _ _ (e'.2.2 _ _ _ (m w1) ii) (m w3)
    · exact e'.2.2 _ _ _ (e'.2.2 _ _ _ (m w1) (e'.2.1 _ _ ii)) (m w3)
/-- one more, without a mate -/
theorem Cl_kind {H : Nat} {one two : Nat → Int} {S : Nat → Prop} {i : Nat} (h2 : two i < 0) (p q : Int) : Cl H one two (fun j => S j ∨ j = i) p q ↔ Cl H one two S p q := by
  constructor
  · intro w E e k
    exact w E e (fun j hj hs hj2 => hs.elim (fun h => k j hj h hj2) (fun h => by rw [h] at hj2; omega))
  · exact Cl_mono fun _ _ h => Or.inl h
/-- p is of kind k -/
def Kd (H : Nat) (one two kd : Nat → Int) (S : Nat → Prop) (p k : Int) : Prop := ∃ i, i < H ∧ S i ∧ two i < 0 ∧ Cl H one two S p (one i) ∧ kd i = k
def Flt (H : Nat) (one two kd : Nat → Int) (S : Nat → Prop) : Prop := ∃ p k k', ¬ k = k' ∧ Kd H one two kd S p k ∧ Kd H one two kd S p k'
theorem Kd_mono {H : Nat} {one two : Nat → Int} {S : Nat → Prop} {kd : Nat → Int} {S' : Nat → Prop} (h : ∀ i, i < H → S i → S' i) {p k : Int} (w : Kd H one two kd S p k) : Kd H one two kd S' p k := by
  obtain ⟨i, h1, h2, h3, h4, h5⟩ := w
  exact ⟨i, h1, h i h1 h2, h3, Cl_mono h h4, h5⟩
theorem Kd_congr {H : Nat} {one two : Nat → Int} {S : Nat → Prop} {kd : Nat → Int} {S' : Nat → Prop} (h : ∀ i, i < H → (S i ↔ S' i)) (p k : Int) : Kd H one two kd S p k ↔ Kd H one two kd S' p k := ⟨Kd_mono fun i hi => (h i hi).mp, Kd_mono fun i hi => (h i hi).mpr⟩
theorem Flt_mono {H : Nat} {one two kd : Nat → Int} : Mono H (Flt H one two kd) := fun S S' h ⟨p, k, k', n, a, b⟩ => ⟨p, k, k', n, Kd_mono h a, Kd_mono h b⟩
theorem Flt_congr {H : Nat} {one two : Nat → Int} {S : Nat → Prop} {kd : Nat → Int} {S' : Nat → Prop} (h : ∀ i, i < H → (S i ↔ S' i)) : Flt H one two kd S ↔ Flt H one two kd S' := ⟨Flt_mono S S' fun i hi => (h i hi).mp, Flt_mono S' S fun i hi => (h i hi).mpr⟩
theorem Kd_like {H : Nat} {one two : Nat → Int} {S : Nat → Prop} {kd : Nat → Int} {p q k : Int} (w : Cl H one two S p q) : Kd H one two kd S p k ↔ Kd H one two kd S q k := by
  have e := Cl_eqv (H := H) (one := one) (two := two) (S := S)
  constructor
  · intro ⟨i, h1, h2, h3, h4, h5⟩
    exact ⟨i, h1, h2, h3, e.2.2 _ _ _ (e.2.1 _ _ w) h4, h5⟩
  · intro ⟨i, h1, h2, h3, h4, h5⟩
    exact ⟨i, h1, h2, h3, e.2.2 _ _ _ w h4, h5⟩
/-- one more of a kind -/
theorem Kd_kind {H : Nat} {one two : Nat → Int} {S : Nat → Prop} {kd : Nat → Int} {i : Nat} (hi : i < H) (h2 : two i < 0) (p k : Int) : Kd H one two kd (fun j => S j ∨ j = i) p k ↔ Kd H one two kd S p k ∨ (Cl H one two S p (one i) ∧ kd i = k) := by
  constructor
  · intro ⟨j, h1, hs, h3, h4, h5⟩
    have h4 := (Cl_kind h2 _ _).mp h4
    rcases hs with hs | hs
    · exact Or.inl ⟨j, h1, hs, h3, h4, h5⟩
    · rw [hs] at h4 h5
      exact Or.inr ⟨h4, h5⟩
  · intro w
    rcases w with w | ⟨w1, w3⟩
    · exact Kd_mono (fun _ _ h => Or.inl h) w
    · exact ⟨i, hi, Or.inr rfl, h2, (Cl_kind h2 _ _).mpr w1, w3⟩
/-- one more with a mate -/
theorem Kd_mate {H : Nat} {one two : Nat → Int} {S : Nat → Prop} {kd : Nat → Int} {i : Nat} (hi : i < H) (h2 : 0 ≤ two i) (p k : Int) : Kd H one two kd (fun j => S j ∨ j = i) p k ↔ Kd H one two kd S p k ∨ (Cl H one two S p (one i) ∧ Kd H one two kd S (two i) k) ∨ (Cl H one two S p (two i) ∧ Kd H one two kd S (one i) k) := by
  constructor
  · intro ⟨j, h1, hs, h3, h4, h5⟩
    have hs : S j := hs.elim id (fun e => by rw [e] at h3; omega)
    rcases (Cl_add hi h2 _ _).mp h4 with w | ⟨w1, w3⟩ | ⟨w1, w3⟩
    · exact Or.inl ⟨j, h1, hs, h3, w, h5⟩
    · exact Or.inr (Or.inl ⟨w1, j, h1, hs, h3, w3, h5⟩)
    · exact Or.inr (Or.inr ⟨w1, j, h1, hs, h3, w3, h5⟩)
  · intro w
    rcases w with w | ⟨w1, j, h1, hs, h3, w3, h5⟩ | ⟨w1, j, h1, hs, h3, w3, h5⟩
    · exact Kd_mono (fun _ _ h => Or.inl h) w
    · exact ⟨j, h1, Or.inl hs, h3, (Cl_add hi h2 _ _).mpr (Or.inr (Or.inl ⟨w1, w3⟩)), h5⟩
    · exact ⟨j, h1, Or.inl hs, h3, (Cl_add hi h2 _ _).mpr (Or.inr (Or.inr ⟨w1, w3⟩)), h5⟩
/-- the same by other names of the pieces -/
theorem Cl_map {H : Nat} {one two one' two' : Nat → Int} {S : Nat → Prop} {π : Int → Int} {D : Int → Prop} (h1 : ∀ i, i < H → D (one i) ∧ one' i = π (one i)) (h2 : ∀ i, i < H → (0 ≤ two i ↔ 0 ≤ two' i) ∧ (0 ≤ two i → D (two i) ∧ two' i = π (two i))) (inj : ∀ p q, D p → D q → π p = π q → p = q) {p q : Int} (hp : D p) (hq : D q) : Cl H one two S p q ↔ Cl H one' two' S (π p) (π q) := by
  have e := Cl_eqv (H := H) (one := one) (two := two) (S := S)
  have e' := Cl_eqv (H := H) (one := one') (two := two') (S := S)
  constructor
  · intro w
    refine w (fun p q => Cl H one' two' S (π p) (π q)) ⟨fun p => e'.1 _, fun p q k => e'.2.1 _ _ k, fun p q r k l => e'.2.2 _ _ _ k l⟩ (fun i hi hs h => ?_)
    have := Cl_in (one := one') (two := two') hi hs ((h2 i hi).1.mp h)
    rw [(h1 i hi).2, ((h2 i hi).2 h).2] at this
    exact this
  · intro w
    have := w (fun x y => x = y ∨ ∃ p q, D p ∧ D q ∧ x = π p ∧ y = π q ∧ Cl H one two S p q) ⟨fun p => Or.inl rfl, fun x y k => ?_, fun x y z k l => ?_⟩ (fun i hi hs h => ?_)
    · rcases this with k | ⟨p', q', a1, a2, a3, a4, a5⟩
      · rw [inj p q hp hq k]
        exact e.1 q
      · rw [inj p p' hp a1 a3, inj q q' hq a2 a4]
        exact a5
    · rcases k with k | ⟨p', q', a1, a2, a3, a4, a5⟩
      · exact Or.inl k.symm
      · exact Or.inr ⟨q', p', a2, a1, a4, a3, e.2.1 _ _ a5⟩
    · rcases k with k | ⟨p', q', a1, a2, a3, a4, a5⟩
      · rw [k]
        exact l
      · rcases l with l | ⟨p2, q2, b1, b2, b3, b4, b5⟩
        · rw [← l]
          exact Or.inr ⟨p', q', a1, a2, a3, a4, a5⟩
        · have := inj q' p2 a2 b1 (by rw [← a4, b3])
          rw [← this] at b5
          exact Or.inr ⟨p', q2, a1, b2, a3, b4, e.2.2 _ _ _ a5 b5⟩
    · have h0 := (h2 i hi).1.mpr h
      exact Or.inr ⟨one i, two i, (h1 i hi).1, ((h2 i hi).2 h0).1, (h1 i hi).2, ((h2 i hi).2 h0).2, Cl_in hi hs h0⟩
theorem Kd_map {H : Nat} {one two one' two' kd kd' : Nat → Int} {S : Nat → Prop} {π : Int → Int} {D : Int → Prop} (h1 : ∀ i, i < H → D (one i) ∧ one' i = π (one i)) (h2 : ∀ i, i < H → (0 ≤ two i ↔ 0 ≤ two' i) ∧ (0 ≤ two i → D (two i) ∧ two' i = π (two i))) (hk : ∀ i, i < H → two i < 0 → kd' i = kd i) (inj : ∀ p q, D p → D q → π p = π q → p = q) {p k : Int} (hp : D p) : Kd H one two kd S p k ↔ Kd H one' two' kd' S (π p) k := by
  constructor
  · intro ⟨i, a1, a2, a3, a4, a5⟩
    refine ⟨i, a1, a2, ?_, ?_, by rw [hk i a1 a3]; exact a5⟩
    · have := (h2 i a1).1
      omega
    · rw [(h1 i a1).2]
      exact (Cl_map h1 h2 inj hp (h1 i a1).1).mp a4
  · intro ⟨i, a1, a2, a3, a4, a5⟩
    have a3' : two i < 0 := by
      have := (h2 i a1).1
      omega
    refine ⟨i, a1, a2, a3', ?_, by rw [hk i a1 a3'] at a5; exact a5⟩
    rw [(h1 i a1).2] at a4
    exact (Cl_map h1 h2 inj hp (h1 i a1).1).mpr a4
/-- a fault shows at what is held -/
theorem Flt_one {H : Nat} {one two : Nat → Int} {S : Nat → Prop} {kd : Nat → Int} : Flt H one two kd S ↔ ∃ i k k', i < H ∧ S i ∧ two i < 0 ∧ ¬ k = k' ∧ Kd H one two kd S (one i) k ∧ Kd H one two kd S (one i) k' := by
  constructor
  · intro ⟨p, k, k', n, a, b⟩
    obtain ⟨i, a1, a2, a3, a4, a5⟩ := a
    refine ⟨i, k, k', a1, a2, a3, n, ?_, (Kd_like a4).mp b⟩
    exact (Kd_like a4).mp ⟨i, a1, a2, a3, a4, a5⟩
  · intro ⟨i, k, k', _, _, _, n, a, b⟩
    exact ⟨one i, k, k', n, a, b⟩
theorem Flt_map {H : Nat} {one two one' two' kd kd' : Nat → Int} {S : Nat → Prop} {π : Int → Int} {D : Int → Prop} (h1 : ∀ i, i < H → D (one i) ∧ one' i = π (one i)) (h2 : ∀ i, i < H → (0 ≤ two i ↔ 0 ≤ two' i) ∧ (0 ≤ two i → D (two i) ∧ two' i = π (two i))) (hk : ∀ i, i < H → two i < 0 → kd' i = kd i) (inj : ∀ p q, D p → D q → π p = π q → p = q) : Flt H one two kd S ↔ Flt H one' two' kd' S := by
  rw [Flt_one, Flt_one]
  constructor
  · intro ⟨i, k, k', a1, a2, a3, n, a, b⟩
    have a3' : two' i < 0 := by
      have := (h2 i a1).1
      omega
    refine ⟨i, k, k', a1, a2, a3', n, ?_, ?_⟩
    · rw [(h1 i a1).2]
      exact (Kd_map h1 h2 hk inj (h1 i a1).1).mp a
    · rw [(h1 i a1).2]
      exact (Kd_map h1 h2 hk inj (h1 i a1).1).mp b
  · intro ⟨i, k, k', a1, a2, a3, n, a, b⟩
    have a3' : two i < 0 := by
      have := (h2 i a1).1
      omega
    rw [(h1 i a1).2] at a b
    exact ⟨i, k, k', a1, a2, a3', n, (Kd_map h1 h2 hk inj (h1 i a1).1).mpr a, (Kd_map h1 h2 hk inj (h1 i a1).1).mpr b⟩
/-- no more places than there are -/
theorem pig : ∀ (n d : Nat) (f : Nat → Int), (∀ k, k ≤ d → 0 ≤ f k ∧ f k < n) → (∀ j k, j ≤ d → k ≤ d → f j = f k → j = k) → d < n := by
  intro n
  induction n with
  | zero =>
    intro d f h _
    have := h 0 (by omega)
    omega
  | succ n ih =>
    intro d f h inj
    by_cases g : ∃ k, k ≤ d ∧ f k = n
    · obtain ⟨k, k1, k2⟩ := g
      cases d with
      | zero => omega
      | succ d =>
        have := ih d (fun j => if j < k then f j else f (j + 1)) (fun j hj => ?_) (fun i j hi hj e => ?_)
        · omega
        · show 0 ≤ (if j < k then f j else f (j + 1)) ∧ (if j < k then f j else f (j + 1)) < n
          by_cases w : j < k
          · rw [if_pos w]
            have a := h j (by omega)
            have b : ¬ f j = n := fun e => by
              have := inj j k (by omega) k1 (by rw [e, k2])
              omega
            omega
          · rw [if_neg w]
            have a := h (j + 1) (by omega)
            have b : ¬ f (j + 1) = n := fun e => by
              have := inj (j + 1) k (by omega) k1 (by rw [e, k2])
              omega
            omega
        · have e : (if i < k then f i else f (i + 1)) = (if j < k then f j else f (j + 1)) := e
          by_cases w : i < k
          · rw [if_pos w] at e
            by_cases z : j < k
            · rw [if_pos z] at e
              exact inj i j (by omega) (by omega) e
            · rw [if_neg z] at e
              have := inj i (j + 1) (by omega) (by omega) e
              omega
          · rw [if_neg w] at e
            by_cases z : j < k
            · rw [if_pos z] at e
              have := inj (i + 1) j (by omega) (by omega) e
              omega
            · rw [if_neg z] at e
              have := inj (i + 1) (j + 1) (by omega) (by omega) e
              omega
    · have := ih d f (fun k hk => by
        have a := h k hk
        have b : ¬ f k = n := fun e => g ⟨k, hk, e⟩
        omega) inj
      omega
/-! heads: h the one above, ρ the uppermost, dp how far it is -/
def UF (n : Int) (h ρ : Int → Int) (dp : Int → Nat) : Prop := ∀ p, 0 ≤ p → p < n → (0 ≤ h p ∧ h p < n) ∧ (0 ≤ ρ p ∧ ρ p < n) ∧ (dp p = 0 → h p = p ∧ ρ p = p) ∧ (0 < dp p → ¬ h p = p ∧ dp (h p) + 1 = dp p ∧ ρ (h p) = ρ p)
theorem UF_rt {n : Int} {h ρ : Int → Int} {dp : Int → Nat} (u : UF n h ρ dp) : ∀ (k : Nat) (p : Int), 0 ≤ p → p < n → dp p = k → dp (ρ p) = 0 ∧ h (ρ p) = ρ p ∧ ρ (ρ p) = ρ p := by
  intro k
  induction k with
  | zero =>
    intro p p0 p1 e
    obtain ⟨a1, a2, a3, a4⟩ := u p p0 p1
    obtain ⟨b1, b2⟩ := a3 e
    rw [b2]
    exact ⟨e, b1, b2⟩
  | succ k ih =>
    intro p p0 p1 e
    obtain ⟨a1, a2, a3, a4⟩ := u p p0 p1
    obtain ⟨b1, b2, b3⟩ := a4 (by omega)
    have := ih (h p) a1.1 a1.2 (by omega)
    rw [b3] at this
    exact this
/-- the k-th above -/
def abv (h : Int → Int) : Nat → Int → Int
  | 0, p => p
  | k + 1, p => h (abv h k p)
theorem UF_abv {n : Int} {h ρ : Int → Int} {dp : Int → Nat} (u : UF n h ρ dp) {p : Int} (p0 : 0 ≤ p) (p1 : p < n) : ∀ k : Nat, k ≤ dp p → (0 ≤ abv h k p ∧ abv h k p < n) ∧ dp (abv h k p) + k = dp p ∧ ρ (abv h k p) = ρ p := by
  intro k
  induction k with
  | zero => intro _; exact ⟨⟨p0, p1⟩, rfl, rfl⟩
  | succ k ih =>
    intro hk
    obtain ⟨a1, a2, a3⟩ := ih (by omega)
    obtain ⟨b1, b2, b3, b4⟩ := u _ a1.1 a1.2
    obtain ⟨c1, c2, c3⟩ := b4 (by omega)
    exact ⟨b1, by show dp (h (abv h k p)) + (k + 1) = dp p; omega, by show ρ (h (abv h k p)) = ρ p; rw [c3, a3]⟩
theorem UF_b {n : Int} {h ρ : Int → Int} {dp : Int → Nat} (u : UF n h ρ dp) {p : Int} (p0 : 0 ≤ p) (p1 : p < n) : (dp p : Int) < n := by
  have := pig n.toNat (dp p) (fun k => abv h k p) (fun k hk => by
    have := (UF_abv u p0 p1 k hk).1
    show 0 ≤ abv h k p ∧ abv h k p < (n.toNat : Int)
    omega) (fun j k hj hk e => by
    have a := (UF_abv u p0 p1 j hj).2.1
    have b := (UF_abv u p0 p1 k hk).2.1
    have e : abv h j p = abv h k p := e
    rw [e] at a
    omega)
  omega
/-- x's group goes under r -/
theorem UF_add {n : Int} {h ρ : Int → Int} {dp : Int → Nat} (u : UF n h ρ dp) {r x : Int} (r0 : 0 ≤ r) (r1 : r < n) (x0 : 0 ≤ x) (x1 : x < n) (hr : ρ r = r) (hx : ρ x = x) (hne : ¬ x = r) : UF n (fun p => if p = x then r else h p) (fun p => if ρ p = x then r else ρ p) (fun p => if ρ p = x then dp p + 1 else dp p) := by
  have dr : ∀ y, 0 ≤ y → y < n → ρ y = y → dp y = 0 := fun y y0 y1 hy => by
    have := (UF_rt u (dp y) y y0 y1 rfl).1
    rw [hy] at this
    exact this
  have dx := dr x x0 x1 hx
  have drr := dr r r0 r1 hr
  intro p p0 p1
  obtain ⟨a1, a2, a3, a4⟩ := u p p0 p1
  show (0 ≤ (if p = x then r else h p) ∧ (if p = x then r else h p) < n) ∧ (0 ≤ (if ρ p = x then r else ρ p) ∧ (if ρ p = x then r else ρ p) < n) ∧ ((if ρ p = x then dp p + 1 else dp p) = 0 → (if p = x then r else h p) = p ∧ (if ρ p = x then r else ρ p) = p) ∧ (0 < (if ρ p = x then dp p + 1 else dp p) → ¬ (if p = x then r else h p) = p ∧ (if ρ (if p = x then r else h p) = x then dp (if p = x then r else h p) + 1 else dp (if p = x then r else h p)) + 1 = (if ρ p = x then dp p + 1 else dp p) ∧ (if ρ (if p = x then r else h p) = x then r else ρ (if p = x then r else h p)) = (if ρ p = x then r else ρ p))
  by_cases e : p = x
  · subst e
    rw [if_pos rfl, if_pos hx, if_pos hx, hr, if_neg (fun w => hne w.symm), if_neg (fun w => hne w.symm)]
    exact ⟨⟨r0, r1⟩, ⟨r0, r1⟩, fun w => absurd w (by omega), fun _ => ⟨fun w => hne w.symm, by omega, rfl⟩⟩
  · rw [if_neg e]
    by_cases g : ρ p = x
    · rw [if_pos g, if_pos g]
      have dpp : 0 < dp p := by
        by_cases z : dp p = 0
        · have := (a3 z).2
          rw [g] at this
          exact absurd this.symm e
        · omega
      obtain ⟨c1, c2, c3⟩ := a4 dpp
      rw [c3, if_pos g, if_pos g]
      exact ⟨a1, ⟨r0, r1⟩, fun w => absurd w (by omega), fun _ => ⟨c1, by omega, rfl⟩⟩
    · rw [if_neg g, if_neg g]
      refine ⟨a1, a2, a3, fun w => ?_⟩
      obtain ⟨c1, c2, c3⟩ := a4 w
      rw [c3, if_neg g, if_neg g]
      exact ⟨c1, c2, rfl⟩
end
