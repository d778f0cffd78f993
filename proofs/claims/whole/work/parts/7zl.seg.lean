section
/-! a piece of a tree is put behind a row: what then waits -/
/-- the items that wait, the next one first -/
def tgJ (I : Int → Int) (f : Int) : Int → Nat → List Int
  | _, 0 => []
  | j, m + 1 => I (5 * f + j) :: tgJ I f (j + 1) m
def tgI (ns I c : Int → Int) : Nat → List Int
  | 0 => [60]
  | P + 1 => if 1000 ≤ c P then tgJ I (c P - 1000) 0 (ns (c P - 1000)).toNat ++ (tgI ns I c P).tail else (tgI ns I c P).tail
theorem tgI_s (ns I c : Int → Int) (P : Nat) : tgI ns I c (P + 1) = if 1000 ≤ c P then tgJ I (c P - 1000) 0 (ns (c P - 1000)).toNat ++ (tgI ns I c P).tail else (tgI ns I c P).tail := by rw [tgI]
theorem tgJ_len (I : Int → Int) (f : Int) : ∀ (m : Nat) (j : Int), (tgJ I f j m).length = m := by
  intro m
  induction m with
  | zero => intro j; rfl
  | succ m ih => intro j; rw [tgJ, List.length_cons, ih]
theorem tgJ_get (I : Int → Int) (f : Int) : ∀ (m : Nat) (j : Int) (i : Nat), i < m → (tgJ I f j m)[i]? = some (I (5 * f + (j + i))) := by
  intro m
  induction m with
  | zero => intro j i h; omega
  | succ m ih =>
    intro j i h
    rw [tgJ]
    cases i with
    | zero => rw [List.getElem?_cons_zero, show j + ((0 : Nat) : Int) = j by omega]
    | succ i =>
      rw [List.getElem?_cons_succ, ih (j + 1) i (by omega), show j + 1 + (i : Int) = j + ((i + 1 : Nat) : Int) by omega]
theorem tgI_cong {ns I c c' : Int → Int} : ∀ {P : Nat}, (∀ q : Nat, q < P → c' q = c q) → tgI ns I c' P = tgI ns I c P := by
  intro P
  induction P with
  | zero => intro _; rfl
  | succ P ih =>
    intro h
    rw [tgI_s, tgI_s, ih (fun q hq => h q (by omega)), h P (by omega)]
/-- the items are those of the slots that wait -/
theorem tgI_get {ns I c : Int → Int} : ∀ (P j : Nat) (t : Int × Int), (tgS ns c P)[j]? = some t → (t = (-1, 0) ∧ (tgI ns I c P)[j]? = some 60) ∨ ∃ u : Nat, u < P ∧ 1000 ≤ c u ∧ t.1 = nb c u ∧ (tgI ns I c P)[j]? = some (I (5 * (c u - 1000) + t.2)) := by
  intro P
  induction P with
  | zero =>
    intro j t h
    have h : [((-1 : Int), (0 : Int))][j]? = some t := h
    cases j with
    | zero =>
      rw [List.getElem?_cons_zero] at h
      injection h with h
      exact Or.inl ⟨h.symm, rfl⟩
    | succ j =>
      rw [List.getElem?_cons_succ, List.getElem?_nil] at h
      exact absurd h (by simp)
  | succ P ih =>
    intro j t h
    rw [tgS_s] at h
    rw [tgI_s]
    have old : ∀ j' : Nat, (tgS ns c P).tail[j']? = some t → (t = (-1, 0) ∧ (tgI ns I c P).tail[j']? = some 60) ∨ ∃ u : Nat, u < P + 1 ∧ 1000 ≤ c u ∧ t.1 = nb c u ∧ (tgI ns I c P).tail[j']? = some (I (5 * (c u - 1000) + t.2)) := fun j' hj => by
      rw [List.getElem?_tail] at hj ⊢
      rcases ih _ _ hj with z | ⟨u, u1, u2, u3, u4⟩
      · exact Or.inl z
      · exact Or.inr ⟨u, by omega, u2, u3, u4⟩
    by_cases g : 1000 ≤ c P
    · rw [if_pos g] at h ⊢
      by_cases z : j < (ns (c P - 1000)).toNat
      · rw [List.getElem?_append_left (by rw [tgN_len]; exact z), tgN_get _ _ _ _ z] at h
        rw [List.getElem?_append_left (by rw [tgJ_len]; exact z), tgJ_get _ _ _ _ _ z]
        injection h with h
        subst h
        exact Or.inr ⟨P, by omega, g, rfl, rfl⟩
      · rw [List.getElem?_append_right (by rw [tgN_len]; omega), tgN_len] at h
        rw [List.getElem?_append_right (by rw [tgJ_len]; omega), tgJ_len]
        exact old _ h
    · rw [if_neg g] at h ⊢
      exact old _ h
/-- every piece so far is one that its item asks for -/
def OKW (h : Int) (ns I c : Int → Int) (P : Nat) : Prop := ∀ q : Nat, q < P → ∀ it, (tgI ns I c q)[0]? = some it → okc h it (c q)
theorem OKW_s {h : Int} {ns I c : Int → Int} {P : Nat} (o : OKW h ns I c P) (n : ∀ it, (tgI ns I c P)[0]? = some it → okc h it (c P)) : OKW h ns I c (P + 1) := fun q hq it hi => by
  by_cases e : q = P
  · subst e
    exact n it hi
  · exact o q (by omega) it hi
theorem OKW_cong {h : Int} {ns I c c' : Int → Int} {P : Nat} (e : ∀ q : Nat, q < P → c' q = c q) (o : OKW h ns I c P) : OKW h ns I c' P := fun q hq it hi => by
  rw [tgI_cong (fun x hx => e x (by omega))] at hi
  rw [e q hq]
  exact o q hq it hi
theorem Pre_s {ns c : Int → Int} {P : Nat} (p : Pre ns c P) (d : 1 ≤ dd ns c P) (n : 1000 ≤ c P → 0 ≤ ns (c P - 1000)) : Pre ns c (P + 1) := ⟨fun q hq => by
  by_cases e : q = P
  · subst e
    exact d
  · exact p.1 q (by omega), fun q hq => by
  by_cases e : q = P
  · subst e
    exact n
  · exact p.2 q (by omega)⟩
theorem Pre_cong {ns c c' : Int → Int} {P : Nat} (e : ∀ q : Nat, q < P → c' q = c q) (p : Pre ns c P) : Pre ns c' P := ⟨fun q hq => by
  rw [dd_cong (fun x hx => e x (by omega))]
  exact p.1 q hq, fun q hq => by
  rw [e q hq]
  exact p.2 q hq⟩
/-- a row with one whole piece more -/
def SegP (h : Int) (ns I c : Int → Int) (cx : Int) (P Q : Nat) : Prop := Pre ns c Q ∧ dd ns c Q = dd ns c P - 1 ∧ tgS ns c Q = (tgS ns c P).tail ∧ tgI ns I c Q = (tgI ns I c P).tail ∧ (OKW h ns I c P → (∀ it, (tgI ns I c P)[0]? = some it → okc h it cx) → OKW h ns I c Q)
theorem pc_leaf {h : Int} {ns I c : Int → Int} {P : Nat} (p : Pre ns c P) (d : 1 ≤ dd ns c P) (l : ¬ 1000 ≤ c P) : SegP h ns I c (c P) P (P + 1) :=
  ⟨Pre_s p d (fun z => absurd z l), by rw [dd_s, if_neg l]; omega, by rw [tgS_s, if_neg l], by rw [tgI_s, if_neg l], fun o n => OKW_s o n⟩
theorem pc_seg {h F : Int} {ns I : Int → Int} {n N L : Int} {cT e u s r na la c : Int → Int} (t : Tr h F ns I n N L cT e u s r na la) (n0 : ∀ f, 0 ≤ f → f < F → 0 ≤ ns f) : ∀ (k : Nat) (x : Int) (P Q : Nat), 0 ≤ x → x < n → e x - x ≤ k → (∀ z, 0 ≤ z → z < e x - x → c (P + z) = cT (x + z)) → (Q : Int) = P + (e x - x) → Pre ns c P → 1 ≤ dd ns c P → SegP h ns I c (cT x) P Q := by
  intro k
  induction k with
  | zero =>
    intro x P Q x0 x1 hk
    have := t.2.1 x x0 x1
    omega
  | succ k ih =>
    intro x P Q x0 x1 hk hc hQ pr d
    have ex := t.2.1 x x0 x1
    have c0 : c P = cT x := by
      have := hc 0 (by omega) (by omega)
      rw [show (P : Int) + 0 = P by omega, show x + 0 = x by omega] at this
      exact this
    by_cases l : 1000 ≤ cT x
    · obtain ⟨F1, cE, cH⟩ := t.2.2.2.1 x x0 x1 l
      have n1 := n0 (cT x - 1000) (by omega) F1
      have lP : 1000 ≤ c P := by omega
      have key : ∀ m : Nat, (m : Int) ≤ ns (cT x - 1000) → x + 1 ≤ chI e x m ∧ ∀ Y : Nat, (Y : Int) = P + (chI e x m - x) → Pre ns c Y ∧ dd ns c Y = dd ns c P - 1 + (ns (cT x - 1000) - m) ∧ tgS ns c Y = tgN (nb c P) m ((ns (cT x - 1000)).toNat - m) ++ (tgS ns c P).tail ∧ tgI ns I c Y = tgJ I (cT x - 1000) m ((ns (cT x - 1000)).toNat - m) ++ (tgI ns I c P).tail ∧ (OKW h ns I c P → (∀ it, (tgI ns I c P)[0]? = some it → okc h it (cT x)) → OKW h ns I c Y) := by
        intro m
        induction m with
        | zero =>
          intro _
          have z : chI e x 0 = x + 1 := rfl
          rw [z]
          refine ⟨Int.le_refl _, fun Y hY => ?_⟩
          have eY : Y = P + 1 := by omega
          subst eY
          refine ⟨Pre_s pr d (fun _ => by rw [c0]; exact n1), by rw [dd_s, if_pos lP, c0]; omega, ?_, ?_, fun o nx => OKW_s o (fun it hi => by rw [c0]; exact nx it hi)⟩
          · rw [tgS_s, if_pos lP, c0]
            rfl
          · rw [tgI_s, if_pos lP, c0]
            rfl
        | succ m ihm =>
          intro hm
          obtain ⟨a1, a2⟩ := ihm (by omega)
          obtain ⟨b1, b2, b3, b4, b5⟩ := cH m (by omega)
          have ey := t.2.1 (chI e x m) (by omega) b2
          have cs : chI e x (m + 1) = e (chI e x m) := rfl
          have ce : e (chI e x m) ≤ e x := (Tr_che t x0 x1 l (show m < (ns (cT x - 1000)).toNat by omega)).2
          rw [cs]
          refine ⟨by omega, fun Y hY => ?_⟩
          obtain ⟨X, hX⟩ : ∃ X : Nat, (X : Int) = P + (chI e x m - x) := ⟨(P + (chI e x m - x)).toNat, by omega⟩
          obtain ⟨p1, p2, p3, p4, p5⟩ := a2 X hX
          obtain ⟨s1, s2, s3, s4, s5⟩ := ih (chI e x m) X Y (by omega) b2 (by omega) (fun z z0 z1 => by
            have := hc (chI e x m - x + z) (by omega) (by omega)
            rw [show (X : Int) + z = P + (chI e x m - x + z) by omega, this]
            congr 1
            omega) (by omega) p1 (by omega)
          have em : (ns (cT x - 1000)).toNat - m = ((ns (cT x - 1000)).toNat - (m + 1)) + 1 := by omega
          rw [em] at p3 p4
          rw [tgN] at p3
          rw [tgJ] at p4
          refine ⟨s1, by omega, ?_, ?_, fun o nx => s5 (p5 o nx) (fun it hi => ?_)⟩
          · rw [s3, p3]
            rfl
          · rw [s4, p4]
            rfl
          · rw [p4, List.cons_append, List.getElem?_cons_zero] at hi
            injection hi with hi
            rw [← hi]
            exact b5
      obtain ⟨q1, q2⟩ := key (ns (cT x - 1000)).toNat (by omega)
      rw [cE] at q2
      obtain ⟨p1, p2, p3, p4, p5⟩ := q2 Q hQ
      rw [Nat.sub_self] at p3 p4
      exact ⟨p1, by omega, p3, p4, p5⟩
    · have el := (t.2.2.2.2.1 x x0 x1 l).2
      have eQ : Q = P + 1 := by omega
      subst eQ
      have := pc_leaf (h := h) (I := I) pr d (by rw [c0]; exact l)
      rw [c0] at this
      exact this
/-- the same, in front of the slot m of a node -/
theorem pc_kids {h F : Int} {ns I : Int → Int} {n N L : Int} {cT e u s r na la c : Int → Int} (t : Tr h F ns I n N L cT e u s r na la) (n0 : ∀ f, 0 ≤ f → f < F → 0 ≤ ns f) {x : Int} {P : Nat} (x0 : 0 ≤ x) (x1 : x < n) (l : 1000 ≤ cT x) (hc : ∀ z, 0 ≤ z → z < e x - x → c (P + z) = cT (x + z)) (pr : Pre ns c P) (d : 1 ≤ dd ns c P) : ∀ m : Nat, (m : Int) ≤ ns (cT x - 1000) → ∀ Y : Nat, (Y : Int) = P + (chI e x m - x) → Pre ns c Y ∧ dd ns c Y = dd ns c P - 1 + (ns (cT x - 1000) - m) ∧ tgS ns c Y = tgN (nb c P) m ((ns (cT x - 1000)).toNat - m) ++ (tgS ns c P).tail ∧ tgI ns I c Y = tgJ I (cT x - 1000) m ((ns (cT x - 1000)).toNat - m) ++ (tgI ns I c P).tail ∧ (OKW h ns I c P → (∀ it, (tgI ns I c P)[0]? = some it → okc h it (cT x)) → OKW h ns I c Y) := by
  have ex := t.2.1 x x0 x1
  have c0 : c P = cT x := by
    have := hc 0 (by omega) (by omega)
    rw [show (P : Int) + 0 = P by omega, show x + 0 = x by omega] at this
    exact this
  obtain ⟨F1, cE, cH⟩ := t.2.2.2.1 x x0 x1 l
  have n1 := n0 (cT x - 1000) (by omega) F1
  have lP : 1000 ≤ c P := by omega
  intro m
  induction m with
  | zero =>
    intro _ Y hY
    have z : chI e x 0 = x + 1 := rfl
    rw [z] at hY
    have eY : Y = P + 1 := by omega
    subst eY
    refine ⟨Pre_s pr d (fun _ => by rw [c0]; exact n1), by rw [dd_s, if_pos lP, c0]; omega, ?_, ?_, fun o nx => OKW_s o (fun it hi => by rw [c0]; exact nx it hi)⟩
    · rw [tgS_s, if_pos lP, c0]
      rfl
    · rw [tgI_s, if_pos lP, c0]
      rfl
  | succ m ihm =>
    intro hm Y hY
    obtain ⟨b1, b2, b3, b4, b5⟩ := cH m (by omega)
    have ey := t.2.1 (chI e x m) (by omega) b2
    have cs : chI e x (m + 1) = e (chI e x m) := rfl
    have ce : e (chI e x m) ≤ e x := (Tr_che t x0 x1 l (show m < (ns (cT x - 1000)).toNat by omega)).2
    rw [cs] at hY
    obtain ⟨X, hX⟩ : ∃ X : Nat, (X : Int) = P + (chI e x m - x) := ⟨(P + (chI e x m - x)).toNat, by omega⟩
    obtain ⟨p1, p2, p3, p4, p5⟩ := ihm (by omega) X hX
    obtain ⟨s1, s2, s3, s4, s5⟩ := pc_seg (h := h) (c := c) t n0 (e (chI e x m) - chI e x m).toNat (chI e x m) X Y (by omega) b2 (by omega) (fun z z0 z1 => by
      have := hc (chI e x m - x + z) (by omega) (by omega)
      rw [show (X : Int) + z = P + (chI e x m - x + z) by omega, this]
      congr 1
      omega) (by omega) p1 (by omega)
    have em : (ns (cT x - 1000)).toNat - m = ((ns (cT x - 1000)).toNat - (m + 1)) + 1 := by omega
    rw [em] at p3 p4
    rw [tgN] at p3
    rw [tgJ] at p4
    refine ⟨s1, by omega, ?_, ?_, fun o nx => s5 (p5 o nx) (fun it hi => ?_)⟩
    · rw [s3, p3]
      rfl
    · rw [s4, p4]
      rfl
    · rw [p4, List.cons_append, List.getElem?_cons_zero] at hi
      injection hi with hi
      rw [← hi]
      exact b5
end
