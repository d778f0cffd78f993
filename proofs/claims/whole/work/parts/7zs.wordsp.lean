section
/-! rows of codes that are one piece -/
def cat (u : Nat → List Int) : Nat → List Int
  | 0 => []
  | m + 1 => cat u m ++ u m
theorem cat_s (u : Nat → List Int) (m : Nat) : cat u (m + 1) = cat u m ++ u m := rfl
theorem cat_pre (u : Nat → List Int) {m n : Nat} (h : m ≤ n) : ∃ r, cat u n = cat u m ++ r := by
  induction n with
  | zero =>
    have e : m = 0 := by omega
    subst e
    exact ⟨[], rfl⟩
  | succ n ih =>
    by_cases e : m = n + 1
    · subst e
      exact ⟨[], (List.append_nil _).symm⟩
    · obtain ⟨r, hr⟩ := ih (by omega)
      exact ⟨r ++ u n, by rw [cat_s, hr, List.append_assoc]⟩
theorem cat_cong {u u' : Nat → List Int} {m : Nat} (h : ∀ i, i < m → u' i = u i) : cat u' m = cat u m := by
  induction m with
  | zero => rfl
  | succ m ih => rw [cat_s, cat_s, ih (fun i hi => h i (by omega)), h m (by omega)]
/-- the row c has the word w at P -/
def At (c : Int → Int) : Nat → List Int → Prop
  | _, [] => True
  | P, a :: w => c P = a ∧ At c (P + 1) w
theorem At_app {c : Int → Int} : ∀ {w1 : List Int} {P : Nat} {w2 : List Int}, At c P (w1 ++ w2) ↔ At c P w1 ∧ At c (P + w1.length) w2 := by
  intro w1
  induction w1 with
  | nil =>
    intro P w2
    exact ⟨fun h => ⟨trivial, h⟩, fun h => h.2⟩
  | cons a w ih =>
    intro P w2
    rw [List.cons_append, At, At, ih, List.length_cons, show P + (w.length + 1) = P + 1 + w.length by omega]
    exact ⟨fun h => ⟨⟨h.1, h.2.1⟩, h.2.2⟩, fun h => ⟨h.1.1, h.1.2, h.2⟩⟩
theorem At_self : ∀ (w : List Int) (P : Nat) (c : Int → Int), (∀ z : Nat, z < w.length → c (P + z) = w.getD z 0) → At c P w := by
  intro w
  induction w with
  | nil => intro P c _; trivial
  | cons a w ih =>
    intro P c h
    refine ⟨?_, ih (P + 1) c fun z hz => ?_⟩
    · have := h 0 (by rw [List.length_cons]; omega)
      rw [show (P : Int) + ((0 : Nat) : Int) = P by omega] at this
      exact this
    · have := h (z + 1) (by rw [List.length_cons]; omega)
      rw [show ((P + 1 : Nat) : Int) + z = P + ((z + 1 : Nat) : Int) by omega, this]
      rfl
theorem At_get {c : Int → Int} : ∀ {w : List Int} {P : Nat}, At c P w → ∀ z : Nat, z < w.length → c (P + z) = w.getD z 0 := by
  intro w
  induction w with
  | nil => intro P _ z hz; exact absurd hz (by rw [List.length_nil]; omega)
  | cons a w ih =>
    intro P h z hz
    cases z with
    | zero =>
      rw [show (P : Int) + ((0 : Nat) : Int) = P by omega, h.1]
      rfl
    | succ z =>
      rw [List.length_cons] at hz
      have := ih h.2 z (by omega)
      rw [show (P : Int) + ((z + 1 : Nat) : Int) = ((P + 1 : Nat) : Int) + z by omega, this]
      rfl
/-- a stretch of a row -/
def sgL (c : Int → Int) : Int → Nat → List Int
  | _, 0 => []
  | x, m + 1 => c x :: sgL c (x + 1) m
theorem sgL_len (c : Int → Int) : ∀ (m : Nat) (x : Int), (sgL c x m).length = m := by
  intro m
  induction m with
  | zero => intro x; rfl
  | succ m ih => intro x; rw [sgL, List.length_cons, ih]
theorem sgL_app (c : Int → Int) : ∀ (m n : Nat) (x : Int), sgL c x (m + n) = sgL c x m ++ sgL c (x + m) n := by
  intro m
  induction m with
  | zero =>
    intro n x
    rw [Nat.zero_add, show x + ((0 : Nat) : Int) = x by omega]
    rfl
  | succ m ih =>
    intro n x
    rw [show m + 1 + n = (m + n) + 1 by omega, sgL, ih, sgL, List.cons_append, show x + 1 + (m : Int) = x + ((m + 1 : Nat) : Int) by omega]
theorem At_sg {c cT : Int → Int} : ∀ {m : Nat} {x : Int} {P : Nat}, At c P (sgL cT x m) → ∀ z : Int, 0 ≤ z → z < m → c (P + z) = cT (x + z) := by
  intro m
  induction m with
  | zero => intro x P _ z z0 z1; omega
  | succ m ih =>
    intro x P h z z0 z1
    by_cases e : z = 0
    · rw [e, show (P : Int) + 0 = P by omega, show x + 0 = x by omega]
      exact h.1
    · have := ih h.2 (z - 1) (by omega) (by omega)
      rw [show ((P + 1 : Nat) : Int) + (z - 1) = P + z by omega, show x + 1 + (z - 1) = x + z by omega] at this
      exact this
theorem sgL_cong {c c' : Int → Int} : ∀ {m : Nat} {x y : Int}, (∀ z : Int, 0 ≤ z → z < m → c' (y + z) = c (x + z)) → sgL c' y m = sgL c x m := by
  intro m
  induction m with
  | zero => intro x y _; rfl
  | succ m ih =>
    intro x y h
    rw [sgL, sgL]
    have a := h 0 (by omega) (by omega)
    rw [show y + 0 = y by omega, show x + 0 = x by omega] at a
    rw [a, ih (x := x + 1) fun z z0 z1 => by
      rw [show y + 1 + z = y + (z + 1) by omega, show x + 1 + z = x + (z + 1) by omega]
      exact h (z + 1) (by omega) (by omega)]
/-- a word that is one piece, in the place of an item -/
def PW (h F : Int) (ns I : Int → Int) : Nat → Int → List Int → Prop
  | 0, _, _ => False
  | k + 1, it, w => ∃ x, okc h it x ∧ ((¬ 1000 ≤ x ∧ 20 ≤ x ∧ w = [x]) ∨ (1000 ≤ x ∧ x - 1000 < F ∧ ∃ u : Nat → List Int, w = x :: cat u (ns (x - 1000)).toNat ∧ ∀ i : Nat, (i : Int) < ns (x - 1000) → PW h F ns I k (I (5 * (x - 1000) + i)) (u i)))
theorem PW_mono {h F : Int} {ns I : Int → Int} : ∀ {k k' : Nat} {it : Int} {w : List Int}, k ≤ k' → PW h F ns I k it w → PW h F ns I k' it w := by
  intro k
  induction k with
  | zero => intro k' it w _ p; exact p.elim
  | succ k ih =>
    intro k' it w hk p
    obtain ⟨x, x1, x2⟩ := p
    obtain ⟨j, rfl⟩ : ∃ j, k' = j + 1 := ⟨k' - 1, by omega⟩
    refine ⟨x, x1, x2.imp id fun ⟨a1, a2, u, a3, a4⟩ => ⟨a1, a2, u, a3, fun i hi => ih (by omega) (a4 i hi)⟩⟩
/-- what a row is with one piece more -/
def SegW (h : Int) (ns I c : Int → Int) (it : Int) (P Q : Nat) : Prop := Pre ns c Q ∧ dd ns c Q = dd ns c P - 1 ∧ tgS ns c Q = (tgS ns c P).tail ∧ tgI ns I c Q = (tgI ns I c P).tail ∧ (OKW h ns I c P → (tgI ns I c P)[0]? = some it → OKW h ns I c Q)
/-- in front of the slot m of a node -/
def KidW (h : Int) (ns I c : Int → Int) (x it : Int) (m P Y : Nat) : Prop := Pre ns c Y ∧ dd ns c Y = dd ns c P - 1 + (ns (x - 1000) - m) ∧ tgS ns c Y = tgN (nb c P) m ((ns (x - 1000)).toNat - m) ++ (tgS ns c P).tail ∧ tgI ns I c Y = tgJ I (x - 1000) m ((ns (x - 1000)).toNat - m) ++ (tgI ns I c P).tail ∧ (OKW h ns I c P → (tgI ns I c P)[0]? = some it → OKW h ns I c Y)
theorem Kid0 {h : Int} {ns I c : Int → Int} {x it : Int} {P : Nat} (n0 : 0 ≤ ns (x - 1000)) (l : 1000 ≤ x) (cx : c P = x) (ok : okc h it x) (pr : Pre ns c P) (d : 1 ≤ dd ns c P) : KidW h ns I c x it 0 P (P + 1) := by
  have lP : 1000 ≤ c P := by omega
  refine ⟨Pre_s pr d (fun _ => by rw [cx]; exact n0), by rw [dd_s, if_pos lP, cx]; omega, ?_, ?_, fun o nx => OKW_s o (fun it' hi => by
    rw [nx] at hi
    injection hi with hi
    rw [cx, ← hi]
    exact ok)⟩
  · rw [tgS_s, if_pos lP, cx]
    rfl
  · rw [tgI_s, if_pos lP, cx]
    rfl
theorem Kid_s {h : Int} {ns I c : Int → Int} {x it : Int} {m P Y Z : Nat} (hm : (m : Int) < ns (x - 1000)) (k : KidW h ns I c x it m P Y) (s : SegW h ns I c (I (5 * (x - 1000) + m)) Y Z) : KidW h ns I c x it (m + 1) P Z := by
  obtain ⟨p1, p2, p3, p4, p5⟩ := k
  obtain ⟨s1, s2, s3, s4, s5⟩ := s
  rw [show (ns (x - 1000)).toNat - m = ((ns (x - 1000)).toNat - (m + 1)) + 1 by omega] at p3 p4
  rw [tgN] at p3
  rw [tgJ] at p4
  refine ⟨s1, by omega, ?_, ?_, fun o nx => s5 (p5 o nx) ?_⟩
  · rw [s3, p3]
    rfl
  · rw [s4, p4]
    rfl
  · rw [p4, List.cons_append, List.getElem?_cons_zero]
theorem Kid_e {h : Int} {ns I c : Int → Int} {x it : Int} {m P Y : Nat} (hm : (m : Int) = ns (x - 1000)) (k : KidW h ns I c x it m P Y) : SegW h ns I c it P Y := by
  obtain ⟨p1, p2, p3, p4, p5⟩ := k
  rw [show (ns (x - 1000)).toNat - m = 0 by omega] at p3 p4
  exact ⟨p1, by omega, p3, p4, p5⟩
theorem pw_seg {h F : Int} {ns I c : Int → Int} (n0 : ∀ f, 0 ≤ f → f < F → 0 ≤ ns f) : ∀ (k : Nat) (it : Int) (w : List Int) (P : Nat), PW h F ns I k it w → At c P w → Pre ns c P → 1 ≤ dd ns c P → SegW h ns I c it P (P + w.length) := by
  intro k
  induction k with
  | zero => intro it w P p; exact p.elim
  | succ k ih =>
    intro it w P p hA pr d
    obtain ⟨x, x1, x2⟩ := p
    rcases x2 with ⟨l, _, hw⟩ | ⟨l, xF, u, hw, hu⟩
    · subst hw
      have cx : c P = x := hA.1
      obtain ⟨a1, a2, a3, a4, a5⟩ := pc_leaf (h := h) (I := I) pr d (by rw [cx]; exact l)
      refine ⟨a1, a2, a3, a4, fun o nx => a5 o fun it' hi => ?_⟩
      rw [nx] at hi
      injection hi with hi
      rw [cx, ← hi]
      exact x1
    · subst hw
      obtain ⟨cx, hA⟩ := hA
      have n1 := n0 (x - 1000) (by omega) xF
      have key : ∀ m : Nat, (m : Int) ≤ ns (x - 1000) → KidW h ns I c x it m P (P + 1 + (cat u m).length) := by
        intro m
        induction m with
        | zero =>
          intro _
          exact Kid0 n1 l cx x1 pr d
        | succ m ihm =>
          intro hm
          have k1 := ihm (by omega)
          obtain ⟨r, hr⟩ := cat_pre u (show m + 1 ≤ (ns (x - 1000)).toNat by omega)
          rw [hr, At_app, cat_s, At_app] at hA
          have s := ih _ (u m) _ (hu m (by omega)) hA.1.2 k1.1 (by have := k1.2.1; omega)
          rw [cat_s, List.length_append, show P + 1 + ((cat u m).length + (u m).length) = P + 1 + (cat u m).length + (u m).length by omega]
          exact Kid_s (by omega) k1 s
      have := Kid_e (m := (ns (x - 1000)).toNat) (by omega) (key _ (by omega))
      rw [List.length_cons, show P + ((cat u (ns (x - 1000)).toNat).length + 1) = P + 1 + (cat u (ns (x - 1000)).toNat).length by omega]
      exact this
/-- the codes of a word -/
theorem PW_codes {h F : Int} {ns I : Int → Int} : ∀ {k : Nat} {it : Int} {w : List Int}, PW h F ns I k it w → ∀ a, a ∈ w → 20 ≤ a ∧ (1000 ≤ a → a - 1000 < F) := by
  intro k
  induction k with
  | zero => intro it w p; exact p.elim
  | succ k ih =>
    intro it w p a ha
    obtain ⟨x, x1, x2⟩ := p
    rcases x2 with ⟨l, x20, hw⟩ | ⟨l, xF, u, hw, hu⟩
    · subst hw
      rw [List.mem_singleton] at ha
      subst ha
      exact ⟨x20, fun z => absurd z l⟩
    · subst hw
      rcases List.mem_cons.mp ha with e | ha
      · subst e
        exact ⟨by omega, fun _ => xF⟩
      · have key : ∀ m : Nat, (m : Int) ≤ ns (x - 1000) → a ∈ cat u m → 20 ≤ a ∧ (1000 ≤ a → a - 1000 < F) := by
          intro m
          induction m with
          | zero => intro _ q; exact absurd q (List.not_mem_nil)
          | succ m ihm =>
            intro hm q
            rw [cat_s] at q
            rcases List.mem_append.mp q with q | q
            · exact ihm (by omega) q
            · exact ih (hu m (by omega)) a q
        by_cases z : 0 ≤ ns (x - 1000)
        · exact key _ (by omega) ha
        · rw [show (ns (x - 1000)).toNat = 0 by omega] at ha
          exact absurd ha (List.not_mem_nil)
/-- a piece of a tree is such a word -/
theorem PW_sg {h F : Int} {ns I : Int → Int} {n N L : Int} {cT e u s r na la : Int → Int} (t : Tr h F ns I n N L cT e u s r na la) (n0 : ∀ f, 0 ≤ f → f < F → 0 ≤ ns f) : ∀ (k : Nat) (x it : Int), 0 ≤ x → x < n → e x - x ≤ k → okc h it (cT x) → PW h F ns I k it (sgL cT x (e x - x).toNat) := by
  intro k
  induction k with
  | zero =>
    intro x it x0 x1 hk
    have := t.2.1 x x0 x1
    omega
  | succ k ih =>
    intro x it x0 x1 hk ok
    have ex := t.2.1 x x0 x1
    refine ⟨cT x, ok, ?_⟩
    by_cases l : 1000 ≤ cT x
    · obtain ⟨F1, cE, cH⟩ := t.2.2.2.1 x x0 x1 l
      have n1 := n0 (cT x - 1000) (by omega) F1
      have key : ∀ m : Nat, (m : Int) ≤ ns (cT x - 1000) → x + 1 ≤ chI e x m ∧ sgL cT (x + 1) (chI e x m - (x + 1)).toNat = cat (fun i => sgL cT (chI e x i) (e (chI e x i) - chI e x i).toNat) m := by
        intro m
        induction m with
        | zero =>
          intro _
          have z : chI e x 0 = x + 1 := rfl
          rw [z, show (x + 1 - (x + 1)).toNat = 0 by omega]
          exact ⟨Int.le_refl _, rfl⟩
        | succ m ihm =>
          intro hm
          obtain ⟨a1, a2⟩ := ihm (by omega)
          obtain ⟨b1, b2, _⟩ := cH m (by omega)
          have ey := t.2.1 (chI e x m) (by omega) b2
          have cs : chI e x (m + 1) = e (chI e x m) := rfl
          rw [cs, cat_s, ← a2]
          refine ⟨by omega, ?_⟩
          rw [show (e (chI e x m) - (x + 1)).toNat = (chI e x m - (x + 1)).toNat + (e (chI e x m) - chI e x m).toNat by omega, sgL_app, show x + 1 + (((chI e x m - (x + 1)).toNat : Nat) : Int) = chI e x m by omega]
      obtain ⟨a1, a2⟩ := key (ns (cT x - 1000)).toNat (by omega)
      rw [cE] at a2
      refine Or.inr ⟨l, F1, fun i => sgL cT (chI e x i) (e (chI e x i) - chI e x i).toNat, ?_, fun i hi => ?_⟩
      · rw [show (e x - x).toNat = (e x - (x + 1)).toNat + 1 by omega, sgL, a2]
      · obtain ⟨b1, b2, b3, b4, b5⟩ := cH i hi
        have ce : e (chI e x i) ≤ e x := (Tr_che t x0 x1 l (show i < (ns (cT x - 1000)).toNat by omega)).2
        exact ih _ _ (by omega) b2 (by omega) b5
    · obtain ⟨c20, el⟩ := t.2.2.2.2.1 x x0 x1 l
      refine Or.inl ⟨l, c20, ?_⟩
      rw [el, show (x + 1 - x).toNat = 1 by omega]
      rfl
end
