section
/-! what joining gives, as a row of codes -/
def csum (d : Nat → Int) : Nat → Int
  | 0 => 0
  | m + 1 => csum d m + d m
theorem csum_s (d : Nat → Int) (m : Nat) : csum d (m + 1) = csum d m + d m := rfl
def JW (ns cb eb cl el cr er : Int → Int) : Nat → Int → Int → Int → List Int → Int → Prop
  | 0, _, _, _, _, _ => False
  | k + 1, p, q, s, w, d => (Seg cl el cb eb q p ∧ w = sgL cr s (er s - s).toNat ∧ d = 0) ∨ (¬ Seg cl el cb eb q p ∧ (Seg cr er cb eb s p ∨ Seg cl el cr er q s) ∧ w = sgL cl q (el q - q).toNat ∧ d = 0) ∨ (¬ Seg cl el cb eb q p ∧ ¬ Seg cr er cb eb s p ∧ ¬ Seg cl el cr er q s ∧ ¬ (cb p = cl q ∧ cb p = cr s) ∧ w = sgL cb p (eb p - p).toNat ∧ d = 1) ∨
      (¬ Seg cl el cb eb q p ∧ ¬ Seg cr er cb eb s p ∧ ¬ Seg cl el cr er q s ∧ (cb p = cl q ∧ cb p = cr s) ∧ ∃ (u : Nat → List Int) (dd : Nat → Int), w = cb p :: cat u (ns (cb p - 1000)).toNat ∧ d = csum dd (ns (cb p - 1000)).toNat ∧ ∀ i : Nat, (i : Int) < ns (cb p - 1000) → JW ns cb eb cl el cr er k (chI eb p i) (chI el q i) (chI er s i) (u i) (dd i))
/-- where nothing is like, and the codes are, there is a node -/
theorem JW_node {h F : Int} {ns I : Int → Int} {nb' Nb Lb nl Nl Ll nr Nr Lr : Int} {cb eb ub sb rb nab lab cl el ul sl rl nal lal cr er ur sr rr nar lar : Int → Int} (tb : Tr h F ns I nb' Nb Lb cb eb ub sb rb nab lab) (tl : Tr h F ns I nl Nl Ll cl el ul sl rl nal lal) (tr : Tr h F ns I nr Nr Lr cr er ur sr rr nar lar) (n0 : ∀ f, 0 ≤ f → f < F → 0 ≤ ns f) {p q s : Int} (p0 : 0 ≤ p) (p1 : p < nb') (q0 : 0 ≤ q) (q1 : q < nl) (h : ¬ Seg cl el cb eb q p) (o : cb p = cl q) : 1000 ≤ cb p := by
  by_cases l : 1000 ≤ cb p
  · exact l
  · exfalso
    have e1 := (tb.2.2.2.2.1 p p0 p1 l).2
    have e2 := (tl.2.2.2.2.1 q q0 q1 (by omega)).2
    refine h ⟨by omega, fun z z0 z1 => ?_⟩
    rw [show z = 0 by omega, show q + 0 = q by omega, show p + 0 = p by omega, o]
theorem JW_ex {h F : Int} {ns I : Int → Int} {nb' Nb Lb nl Nl Ll nr Nr Lr : Int} {cb eb ub sb rb nab lab cl el ul sl rl nal lal cr er ur sr rr nar lar : Int → Int} (tb : Tr h F ns I nb' Nb Lb cb eb ub sb rb nab lab) (tl : Tr h F ns I nl Nl Ll cl el ul sl rl nal lal) (tr : Tr h F ns I nr Nr Lr cr er ur sr rr nar lar) (n0 : ∀ f, 0 ≤ f → f < F → 0 ≤ ns f) : ∀ (k : Nat) (p q s : Int), 0 ≤ p → p < nb' → 0 ≤ q → q < nl → 0 ≤ s → s < nr → eb p - p ≤ k → ∃ w d, JW ns cb eb cl el cr er k p q s w d := by
  intro k
  induction k with
  | zero =>
    intro p q s p0 p1 _ _ _ _ hk
    have := tb.2.1 p p0 p1
    omega
  | succ k ih =>
    intro p q s p0 p1 q0 q1 s0 s1 hk
    by_cases h1 : Seg cl el cb eb q p
    · exact ⟨_, _, Or.inl ⟨h1, rfl, rfl⟩⟩
    · by_cases h2 : Seg cr er cb eb s p
      · exact ⟨_, _, Or.inr (Or.inl ⟨h1, Or.inl h2, rfl, rfl⟩)⟩
      · by_cases h3 : Seg cl el cr er q s
        · exact ⟨_, _, Or.inr (Or.inl ⟨h1, Or.inr h3, rfl, rfl⟩)⟩
        · by_cases h4 : (cb p = cl q ∧ cb p = cr s)
          · have l := JW_node tb tl tr n0 p0 p1 q0 q1 (s := s) h1 h4.1
            have fB := tb.2.2.2.1 p p0 p1 l
            have fL := tl.2.2.2.1 q q0 q1 (by omega)
            have fR := tr.2.2.2.1 s s0 s1 (by omega)
            rw [← h4.1] at fL
            rw [← h4.2] at fR
            have all : ∀ i : Nat, ∃ wd : List Int × Int, (i : Int) < ns (cb p - 1000) → JW ns cb eb cl el cr er k (chI eb p i) (chI el q i) (chI er s i) wd.1 wd.2 := fun i => by
              by_cases hi : (i : Int) < ns (cb p - 1000)
              · have a := fB.2.2 i hi
                have b := fL.2.2 i hi
                have c := fR.2.2 i hi
                have ce := (Tr_che tb p0 p1 l (show i < (ns (cb p - 1000)).toNat by omega)).2
                obtain ⟨w, d, hw⟩ := ih (chI eb p i) (chI el q i) (chI er s i) (by omega) a.2.1 (by omega) b.2.1 (by omega) c.2.1 (by omega)
                exact ⟨(w, d), fun _ => hw⟩
              · exact ⟨([], 0), fun w => absurd w hi⟩
            refine ⟨_, _, Or.inr (Or.inr (Or.inr ⟨h1, h2, h3, h4, fun i => (Classical.choose (all i)).1, fun i => (Classical.choose (all i)).2, rfl, rfl, fun i hi => Classical.choose_spec (all i) hi⟩))⟩
          · exact ⟨_, _, Or.inr (Or.inr (Or.inl ⟨h1, h2, h3, h4, rfl, rfl⟩))⟩
theorem JW_pw {h F : Int} {ns I : Int → Int} {nb' Nb Lb nl Nl Ll nr Nr Lr : Int} {cb eb ub sb rb nab lab cl el ul sl rl nal lal cr er ur sr rr nar lar : Int → Int} (tb : Tr h F ns I nb' Nb Lb cb eb ub sb rb nab lab) (tl : Tr h F ns I nl Nl Ll cl el ul sl rl nal lal) (tr : Tr h F ns I nr Nr Lr cr er ur sr rr nar lar) (n0 : ∀ f, 0 ≤ f → f < F → 0 ≤ ns f) : ∀ (k : Nat) (p q s it : Int) (w : List Int) (d : Int), 0 ≤ p → p < nb' → 0 ≤ q → q < nl → 0 ≤ s → s < nr → okc h it (cb p) → okc h it (cl q) → okc h it (cr s) → JW ns cb eb cl el cr er k p q s w d → PW h F ns I (k + 202) it w ∧ 0 ≤ d ∧ d ≤ w.length := by
  intro k
  induction k with
  | zero =>
    intro p q s it w d _ _ _ _ _ _ _ _ _ j
    exact j.elim
  | succ k ih =>
    intro p q s it w d p0 p1 q0 q1 s0 s1 ob ol orr j
    have ep := tb.2.1 p p0 p1
    have eq := tl.2.1 q q0 q1
    have es := tr.2.1 s s0 s1
    have w1 := tb.1.2.1
    have w2 := tl.1.2.1
    have w3 := tr.1.2.1
    rcases j with ⟨_, hw, hd⟩ | ⟨_, _, hw, hd⟩ | ⟨_, _, _, _, hw, hd⟩ | ⟨h1, h2, h3, h4, u, dd, hw, hd, hu⟩
    · subst hw hd
      exact ⟨PW_mono (by omega) (PW_sg tr n0 (er s - s).toNat s it s0 s1 (by omega) orr), by omega, by omega⟩
    · subst hw hd
      exact ⟨PW_mono (by omega) (PW_sg tl n0 (el q - q).toNat q it q0 q1 (by omega) ol), by omega, by omega⟩
    · subst hw hd
      exact ⟨PW_mono (by omega) (PW_sg tb n0 (eb p - p).toNat p it p0 p1 (by omega) ob), by omega, by rw [sgL_len]; omega⟩
    · subst hw hd
      have l := JW_node tb tl tr n0 p0 p1 q0 q1 (s := s) h1 h4.1
      have fB := tb.2.2.2.1 p p0 p1 l
      have fL := tl.2.2.2.1 q q0 q1 (by omega)
      have fR := tr.2.2.2.1 s s0 s1 (by omega)
      rw [← h4.1] at fL
      rw [← h4.2] at fR
      have kid : ∀ i : Nat, (i : Int) < ns (cb p - 1000) → PW h F ns I (k + 202) (I (5 * (cb p - 1000) + i)) (u i) ∧ 0 ≤ dd i ∧ dd i ≤ (u i).length := fun i hi => by
        have a := fB.2.2 i hi
        have b := fL.2.2 i hi
        have c := fR.2.2 i hi
        exact ih (chI eb p i) (chI el q i) (chI er s i) _ _ _ (by omega) a.2.1 (by omega) b.2.1 (by omega) c.2.1 a.2.2.2.2 b.2.2.2.2 c.2.2.2.2 (hu i hi)
      have n1 := n0 (cb p - 1000) (by omega) fB.1
      have sum : ∀ m : Nat, (m : Int) ≤ ns (cb p - 1000) → 0 ≤ csum dd m ∧ csum dd m ≤ (cat u m).length := by
        intro m
        induction m with
        | zero => intro _; exact ⟨Int.le_refl _, by show (0 : Int) ≤ ((0 : Nat) : Int); omega⟩
        | succ m ihm =>
          intro hm
          have a := ihm (by omega)
          have b := kid m (by omega)
          rw [csum_s, cat_s, List.length_append]
          omega
      have := sum (ns (cb p - 1000)).toNat (by omega)
      refine ⟨⟨cb p, ob, Or.inr ⟨l, fB.1, u, rfl, fun i hi => (kid i hi).1⟩⟩, this.1, by rw [List.length_cons]; omega⟩
end
