section
/-! a table of prices that is right, and what that says of it -/
def QOK (nf : Int) (sf : Int → Int) (fi : Int → List Int) (ft : Int → Int → Bool) (n : Int) (Q : Int → Int → Int → Int) : Prop :=
  (∀ s a b : Int, ¬ (0 ≤ s ∧ s ≤ 5) → Q s a b = 1000000) ∧ ∀ s a b : Int, 0 ≤ s → s ≤ 5 → 0 ≤ a → a ≤ b → b ≤ n → (0 ≤ Q s a b ∧ Q s a b ≤ 1000000) ∧ (a = b → 1 ≤ Q s a b) ∧ (∀ f, 0 ≤ f → f < nf → sf f = s → Q s a b ≤ rP 1000000 Q ft b (fi f) a) ∧ (Q s a b < 1000000 → ∃ f, 0 ≤ f ∧ f < nf ∧ sf f = s ∧ Q s a b = rP 1000000 Q ft b (fi f) a)
/-- forms as they may be, of five items at most -/
def FO5 (nf : Int) (sf : Int → Int) (fi : Int → List Int) : Prop := FOk nf sf fi ∧ ∀ f : Int, 0 ≤ f → f < nf → (fi f).length ≤ 5
theorem Q_nn {nf n : Int} {sf : Int → Int} {fi : Int → List Int} {ft : Int → Int → Bool} {Q : Int → Int → Int → Int} (hQ : QOK nf sf fi ft n Q) (s : Int) {a b : Int} (a0 : 0 ≤ a) (ab : a ≤ b) (bn : b ≤ n) : 0 ≤ Q s a b ∧ Q s a b ≤ 1000000 ∧ (a = b → 1 ≤ Q s a b) := by
  by_cases h : 0 ≤ s ∧ s ≤ 5
  · obtain ⟨q1, q2, _⟩ := hQ.2 s a b h.1 h.2 a0 ab bn
    exact ⟨q1.1, q1.2, q2⟩
  · rw [hQ.1 s a b h]
    omega
/-- the parts of a form's price: a sort on the whole span is dearer by none but by a greater sort -/
theorem dec_top {nf n : Int} {sf : Int → Int} {fi : Int → List Int} {ft : Int → Int → Bool} {Q : Int → Int → Int → Int} (hF : FO5 nf sf fi) (hQ : QOK nf sf fi ft n Q) {f a b : Int} (f0 : 0 ≤ f) (f1 : f < nf) (a0 : 0 ≤ a) (ab : a ≤ b) (bn : b ≤ n) {V : Int} (hV : rP 1000000 Q ft b (fi f) a = V) (hf : V < 1000000) :
    Dec Q ft b (fun it x y => it ∈ fi f ∧ a ≤ x ∧ x ≤ y ∧ y ≤ b ∧ itP Q ft it x y ≤ V ∧ (60 ≤ it → ¬ (x = a ∧ y = b) ∨ Q (it - 60) a b < V ∨ (Q (it - 60) a b = V ∧ sf f < it - 60))) (fi f) a V := by
  obtain ⟨g1, g2, g3⟩ := hF.1 f f0 f1
  have nn : ∀ s x y, a ≤ x → x ≤ y → y ≤ b → 0 ≤ Q s x y := fun s x y q1 q2 q3 => (Q_nn hQ s (by omega) q2 (by omega)).1
  cases hl : fi f with
  | nil => exact absurd hl g1
  | cons it r =>
    rw [hl] at hV g3
    have hlt : rP 1000000 Q ft b (it :: r) a < 1000000 := by rw [hV]; exact hf
    obtain ⟨q, q1, q2, e⟩ := rP_ex hlt
    rw [hV] at e
    have i0 := itP_nn (ft := ft) (it := it) q1 (nn (it - 60) a q (Int.le_refl _) q1 q2)
    have r0 : 0 ≤ rP 1000000 Q ft b r q := rP_nn (by omega) fun s x y w1 w2 w3 => nn s x y (by omega) w2 w3
    have d := rP_dec (ft := ft) (b := b) (show (0 : Int) ≤ 1000000 by omega) r q (fun s x y w1 w2 w3 => nn s x y (by omega) w2 w3) (by omega)
    refine ⟨q, _, q1, q2, ⟨List.mem_cons_self, Int.le_refl _, q1, q2, by omega, fun hs => ?_⟩, e, Dec_mono (fun it' x y ⟨w1, w2, w3, w4, w5⟩ => ⟨List.mem_cons_of_mem _ w1, by omega, w3, w4, by omega, fun hs => ?_⟩) d⟩
    · by_cases c : q = b
      · subst c
        rw [itP_sort hs] at e
        cases r with
        | nil =>
          rw [rP, if_pos rfl] at e
          exact Or.inr (Or.inr ⟨by omega, g3 it rfl hs⟩)
        | cons it2 r2 =>
          have := rP_pos (I := 1000000) (P := Q) (ft := ft) (to := q) (l := it2 :: r2) (List.cons_ne_nil _ _) (by omega) (fun s => (Q_nn hQ s (by omega) (Int.le_refl _) bn).2.2 rfl)
          exact Or.inr (Or.inl (by omega))
      · exact Or.inl fun z => c z.2
    · by_cases c : x = a ∧ y = b
      · have eq : q = a := by omega
        subst eq
        have i1 : 1 ≤ itP Q ft it q q := by
          by_cases hi : 60 ≤ it
          · rw [itP_sort hi]
            exact (Q_nn hQ _ a0 (Int.le_refl _) (by omega)).2.2 rfl
          · have := (itP_leaf_b (P := Q) (ft := ft) (p := q) (q := q) hi (Int.le_refl _)).2.2 rfl
            omega
        rw [itP_sort hs, c.1, c.2] at w5
        exact Or.inr (Or.inl (by omega))
      · exact Or.inl c
/-- how many sorts stand before one, itself too: by price, of like price the greater first -/
def cnN (Z : Int → Int) (s : Int) : Nat → Int := fun x => if Z x < Z s ∨ (Z x = Z s ∧ s ≤ x) then 1 else 0
def cn (Z : Int → Int) (s : Int) : Int := smN (cnN Z s) 6
theorem smN_lt {a b : Nat → Int} {j : Nat} : ∀ {m : Nat}, (∀ i, i < m → b i ≤ a i) → j < m → b j + 1 ≤ a j → smN b m + 1 ≤ smN a m := by
  intro m
  induction m with
  | zero => intro _ h; omega
  | succ m ih =>
    intro h hj hs
    rw [smN_s, smN_s]
    by_cases e : j = m
    · subst e
      have := smN_le (fun i hi => h i (by omega) : ∀ i, i < j → b i ≤ a i)
      omega
    · have := ih (fun i hi => h i (by omega)) (by omega) hs
      have := h m (by omega)
      omega
theorem smN_bd {a : Nat → Int} : ∀ {m : Nat}, (∀ i, i < m → 0 ≤ a i ∧ a i ≤ 1) → 0 ≤ smN a m ∧ smN a m ≤ m := by
  intro m
  induction m with
  | zero => intro _; exact ⟨Int.le_refl _, Int.le_refl _⟩
  | succ m ih =>
    intro h
    have := ih (fun i hi => h i (by omega))
    have := h m (by omega)
    rw [smN_s]
    omega
theorem cn_b (Z : Int → Int) (s : Int) : 0 ≤ cn Z s ∧ cn Z s ≤ 6 := by
  refine smN_bd fun i _ => ?_
  unfold cnN
  split <;> omega
theorem cn_lt {Z : Int → Int} {s s' : Int} (s0 : 0 ≤ s) (s1 : s ≤ 5) (h : Z s' < Z s ∨ (Z s' = Z s ∧ s < s')) : cn Z s' + 1 ≤ cn Z s := by
  refine smN_lt (j := s.toNat) (fun i _ => ?_) (by omega) ?_
  · unfold cnN
    by_cases c : Z i < Z s' ∨ (Z i = Z s' ∧ s' ≤ i)
    · rw [if_pos c, if_pos (by omega)]
      exact Int.le_refl _
    · rw [if_neg c]
      split <;> omega
  · unfold cnN
    rw [Int.toNat_of_nonneg s0, if_neg (by omega), if_pos (Or.inr ⟨rfl, Int.le_refl _⟩)]
    omega
theorem cnn_1 {Z : Int → Int} {s : Int} (s0 : 0 ≤ s) (s1 : s ≤ 5) : 1 ≤ cn Z s := by
  have h : smN (fun _ => 0) 6 + 1 ≤ smN (cnN Z s) 6 := smN_lt (j := s.toNat) (fun i _ => by
    unfold cnN
    split <;> omega) (by omega) (by
    unfold cnN
    rw [Int.toNat_of_nonneg s0, if_pos (Or.inr ⟨rfl, Int.le_refl _⟩)]
    omega)
  exact h
/-- a sort that ends costs little where there is no cell -/
theorem Q_emp {nf n : Int} {sf : Int → Int} {fi : Int → List Int} {ft : Int → Int → Bool} {Q : Int → Int → Int → Int} (hF : FO5 nf sf fi) (hQ : QOK nf sf fi ft n Q) {e : Int} (e0 : 0 ≤ e) (en : e ≤ n) : ∀ (k : Nat) (s : Int), 0 ≤ s → s ≤ 5 → cn (fun x => Q x e e) s ≤ k → Q s e e < 1000000 → Q s e e ≤ 5 ^ k := by
  intro k
  induction k with
  | zero =>
    intro s s0 s1 hk _
    have := cnn_1 (Z := fun x => Q x e e) s0 s1
    omega
  | succ k ih =>
    intro s s0 s1 hk hf
    obtain ⟨_, _, _, h4⟩ := hQ.2 s e e s0 s1 e0 (Int.le_refl _) en
    obtain ⟨f, f0, f1, fs, fe⟩ := h4 hf
    have d := dec_top hF hQ f0 f1 e0 (Int.le_refl _) en fe.symm hf
    have p5 : (1 : Int) ≤ 5 ^ k := Int.pow_pos (by omega)
    have l := Dec_len (m := 5 ^ k) (fun it x y ⟨w1, w2, w3, w4, w5, w6⟩ => by
      have ex : x = e := by omega
      have ey : y = e := by omega
      subst ex
      subst ey
      by_cases hs : 60 ≤ it
      · rw [itP_sort hs] at w5 ⊢
        have i5 := (hF.1 f f0 f1).2.1 it w1
        rcases w6 hs with z | z
        · exact absurd ⟨rfl, rfl⟩ z
        · have c := cn_lt (Z := fun x => Q x y y) s0 s1 (s' := it - 60) (by
            show Q (it - 60) y y < Q s y y ∨ (Q (it - 60) y y = Q s y y ∧ s < it - 60)
            omega)
          exact ih _ (by omega) (by omega) (by omega) (by omega)
      · have := (itP_leaf_b (P := Q) (ft := ft) (p := y) (q := y) hs (Int.le_refl _)).2.2 rfl
        omega) d
    have l5 := hF.2 f f0 f1
    have : (5 : Int) ^ k * ((fi f).length : Int) ≤ 5 ^ k * 5 := Int.mul_le_mul_of_nonneg_left (by omega) (by omega)
    rw [Int.pow_succ]
    omega
theorem Q_emp6 {nf n : Int} {sf : Int → Int} {fi : Int → List Int} {ft : Int → Int → Bool} {Q : Int → Int → Int → Int} (hF : FO5 nf sf fi) (hQ : QOK nf sf fi ft n Q) {e : Int} (e0 : 0 ≤ e) (en : e ≤ n) {s : Int} (hf : Q s e e < 1000000) : Q s e e ≤ 15625 := by
  by_cases hs : 0 ≤ s ∧ s ≤ 5
  · exact Q_emp hF hQ e0 en 6 s hs.1 hs.2 (cn_b _ _).2 hf
  · have := hQ.1 s e e hs
    omega
/-- the sum where all cells go to the first item -/
theorem emp_mv {ft : Int → Int → Bool} {Q : Int → Int → Int → Int} {e b : Int} {Pd : Int → Int → Int → Prop} (hP : ∀ it x y, Pd it x y → x = e → y = e → itP Q ft it b b ≤ itP Q ft it e e) : ∀ {l : List Int} {V : Int}, Dec Q ft e Pd l e V → rP 1000000 Q ft b l b ≤ V := by
  intro l
  induction l with
  | nil =>
    intro V d
    rw [rP, if_pos rfl, d.2]
    exact Int.le_refl _
  | cons it r ih =>
    intro V d
    obtain ⟨q, V', d1, d2, d3, d4, d5⟩ := d
    have eq : q = e := by omega
    subst eq
    have a := rP_le (I := 1000000) (P := Q) (ft := ft) (to := b) (it := it) (r := r) (Int.le_refl b) (Int.le_refl b)
    have b := ih d5
    have c := hP _ _ _ d3 rfl rfl
    omega
theorem Q_span {nf n : Int} {sf : Int → Int} {fi : Int → List Int} {ft : Int → Int → Bool} {Q : Int → Int → Int → Int} (hF : FO5 nf sf fi) (hQ : QOK nf sf fi ft n Q) {e : Int} (e0 : 0 ≤ e) (en : e ≤ n) : ∀ (k : Nat) (s : Int), 0 ≤ s → s ≤ 5 → cn (fun x => Q x e e) s ≤ k → Q s e e < 1000000 → ∀ a b, 0 ≤ a → a ≤ b → b ≤ n → Q s a b ≤ Q s e e + (b - a) := by
  intro k
  induction k with
  | zero =>
    intro s s0 s1 hk _
    have := cnn_1 (Z := fun x => Q x e e) s0 s1
    omega
  | succ k ih =>
    intro s s0 s1 hk hf a b a0 ab bn
    obtain ⟨_, _, _, h4⟩ := hQ.2 s e e s0 s1 e0 (Int.le_refl _) en
    obtain ⟨f, f0, f1, fs, fe⟩ := h4 hf
    obtain ⟨_, _, h3, _⟩ := hQ.2 s a b s0 s1 a0 ab bn
    have up := h3 f f0 f1 fs
    have d := dec_top hF hQ f0 f1 e0 (Int.le_refl _) en fe.symm hf
    have one : ∀ it, it ∈ fi f → (60 ≤ it → ¬ (e = e ∧ e = e) ∨ Q (it - 60) e e < Q s e e ∨ (Q (it - 60) e e = Q s e e ∧ sf f < it - 60)) → itP Q ft it e e ≤ Q s e e → ∀ x y, 0 ≤ x → x ≤ y → y ≤ n → itP Q ft it x y ≤ itP Q ft it e e + (y - x) := fun it w1 w6 w5 x y x0 xy yn => by
      by_cases hs : 60 ≤ it
      · rw [itP_sort hs] at w5
        rw [itP_sort hs, itP_sort hs]
        have i5 := (hF.1 f f0 f1).2.1 it w1
        rcases w6 hs with z | z
        · exact absurd ⟨rfl, rfl⟩ z
        · have c := cn_lt (Z := fun x => Q x e e) s0 s1 (s' := it - 60) (by
            show Q (it - 60) e e < Q s e e ∨ (Q (it - 60) e e = Q s e e ∧ s < it - 60)
            omega)
          exact ih _ (by omega) (by omega) (by omega) (by omega) x y x0 xy yn
      · have := (itP_leaf_b (P := Q) (ft := ft) (p := e) (q := e) hs (Int.le_refl _)).2.2 rfl
        have := (itP_leaf_b (P := Q) (ft := ft) (p := x) (q := y) hs xy).2.1
        omega
    cases hl : fi f with
    | nil => exact absurd hl (hF.1 f f0 f1).1
    | cons it r =>
      rw [hl] at d up
      obtain ⟨q, V', d1, d2, d3, d4, d5⟩ := d
      have eq : q = e := by omega
      subst eq
      have l1 := rP_le (I := 1000000) (P := Q) (ft := ft) (to := b) (it := it) (r := r) ab (Int.le_refl b)
      have l2 := emp_mv (b := b) (fun it' x y ⟨w1, w2, w3, w4, w5, w6⟩ ex ey => by
        subst ex
        subst ey
        have := one it' (by rw [hl]; exact w1) w6 w5 b b (by omega) (Int.le_refl _) bn
        omega) d5
      have l3 := one it (by rw [hl]; exact d3.1) d3.2.2.2.2.2 d3.2.2.2.2.1 a b a0 ab bn
      omega
/-- a sort that has a price somewhere ends -/
theorem Q_end {nf n : Int} {sf : Int → Int} {fi : Int → List Int} {ft : Int → Int → Bool} {Q : Int → Int → Int → Int} (hF : FO5 nf sf fi) (hQ : QOK nf sf fi ft n Q) {e : Int} (e0 : 0 ≤ e) (en : e ≤ n) : ∀ (d k : Nat) (s a b : Int), 0 ≤ a → a ≤ b → b ≤ n → b - a ≤ d → 0 ≤ s → s ≤ 5 → cn (fun x => Q x a b) s ≤ k → Q s a b < 1000000 → Q s e e < 1000000 := by
  intro d
  induction d with
  | zero =>
    intro k
    induction k with
    | zero =>
      intro s a b _ _ _ _ s0 s1 hk _
      have := cnn_1 (Z := fun x => Q x a b) s0 s1
      omega
    | succ k ihk =>
      intro s a b a0 ab bn hd s0 s1 hk hf
      obtain ⟨_, _, _, h4⟩ := hQ.2 s a b s0 s1 a0 ab bn
      obtain ⟨f, f0, f1, fs, fe⟩ := h4 hf
      have d := dec_top hF hQ f0 f1 a0 ab bn fe.symm hf
      have all := Dec_all d
      have l5 := hF.2 f f0 f1
      have lw : ∀ l : List Int, (∀ it, it ∈ l → it ∈ fi f) → rP 1000000 Q ft e l e ≤ 15625 * l.length := by
        intro l
        induction l with
        | nil => intro _; rw [rP, if_pos rfl, List.length_nil]; omega
        | cons it r ihl =>
          intro hm
          have a1 := ihl (fun it' h => hm it' (List.mem_cons_of_mem _ h))
          have a2 := rP_le (I := 1000000) (P := Q) (ft := ft) (to := e) (it := it) (r := r) (Int.le_refl e) (Int.le_refl e)
          obtain ⟨x, y, w1, w2, w3, w4, w5, w6⟩ := all it (hm it List.mem_cons_self)
          have i5 := (hF.1 f f0 f1).2.1 it w1
          have a3 : itP Q ft it e e ≤ 15625 := by
            by_cases hs : 60 ≤ it
            · rw [itP_sort hs] at w5 ⊢
              have ex : x = a := by omega
              have ey : y = b := by omega
              rcases w6 hs with z | z
              · exact absurd ⟨ex, ey⟩ z
              · have c := cn_lt (Z := fun x => Q x a b) s0 s1 (s' := it - 60) (by
                  show Q (it - 60) a b < Q s a b ∨ (Q (it - 60) a b = Q s a b ∧ s < it - 60)
                  omega)
                rw [ex, ey] at w5
                exact Q_emp6 hF hQ e0 en (ihk _ a b a0 ab bn hd (by omega) (by omega) (by omega) (by omega))
            · have := (itP_leaf_b (P := Q) (ft := ft) (p := e) (q := e) hs (Int.le_refl _)).2.2 rfl
              omega
          rw [List.length_cons]
          omega
      have b1 := lw (fi f) (fun _ h => h)
      have b2 := (hQ.2 s e e s0 s1 e0 (Int.le_refl _) en).2.2.1 f f0 f1 fs
      omega
  | succ d ihd =>
    intro k
    induction k with
    | zero =>
      intro s a b _ _ _ _ s0 s1 hk _
      have := cnn_1 (Z := fun x => Q x a b) s0 s1
      omega
    | succ k ihk =>
      intro s a b a0 ab bn hd s0 s1 hk hf
      obtain ⟨_, _, _, h4⟩ := hQ.2 s a b s0 s1 a0 ab bn
      obtain ⟨f, f0, f1, fs, fe⟩ := h4 hf
      have d := dec_top hF hQ f0 f1 a0 ab bn fe.symm hf
      have all := Dec_all d
      have l5 := hF.2 f f0 f1
      have lw : ∀ l : List Int, (∀ it, it ∈ l → it ∈ fi f) → rP 1000000 Q ft e l e ≤ 15625 * l.length := by
        intro l
        induction l with
        | nil => intro _; rw [rP, if_pos rfl, List.length_nil]; omega
        | cons it r ihl =>
          intro hm
          have a1 := ihl (fun it' h => hm it' (List.mem_cons_of_mem _ h))
          have a2 := rP_le (I := 1000000) (P := Q) (ft := ft) (to := e) (it := it) (r := r) (Int.le_refl e) (Int.le_refl e)
          obtain ⟨x, y, w1, w2, w3, w4, w5, w6⟩ := all it (hm it List.mem_cons_self)
          have i5 := (hF.1 f f0 f1).2.1 it w1
          have a3 : itP Q ft it e e ≤ 15625 := by
            by_cases hs : 60 ≤ it
            · rw [itP_sort hs] at w5 ⊢
              by_cases c : x = a ∧ y = b
              · rcases w6 hs with z | z
                · exact absurd c z
                · have c2 := cn_lt (Z := fun x => Q x a b) s0 s1 (s' := it - 60) (by
                    show Q (it - 60) a b < Q s a b ∨ (Q (it - 60) a b = Q s a b ∧ s < it - 60)
                    omega)
                  rw [c.1, c.2] at w5
                  exact Q_emp6 hF hQ e0 en (ihk _ a b a0 ab bn hd (by omega) (by omega) (by omega) (by omega))
              · exact Q_emp6 hF hQ e0 en (ihd 6 _ x y (by omega) w3 (by omega) (by omega) (by omega) (by omega) (cn_b _ _).2 (by omega))
            · have := (itP_leaf_b (P := Q) (ft := ft) (p := e) (q := e) hs (Int.le_refl _)).2.2 rfl
              omega
          rw [List.length_cons]
          omega
      have b1 := lw (fi f) (fun _ h => h)
      have b2 := (hQ.2 s e e s0 s1 e0 (Int.le_refl _) en).2.2.1 f f0 f1 fs
      omega
/-- a price is small, or there is none -/
theorem Q_small {nf n : Int} {sf : Int → Int} {fi : Int → List Int} {ft : Int → Int → Bool} {Q : Int → Int → Int → Int} (hF : FO5 nf sf fi) (hQ : QOK nf sf fi ft n Q) (n16 : n ≤ 16) {s a b : Int} (a0 : 0 ≤ a) (ab : a ≤ b) (bn : b ≤ n) : (0 ≤ Q s a b ∧ Q s a b < 16000) ∨ Q s a b = 1000000 := by
  by_cases hs : 0 ≤ s ∧ s ≤ 5
  · obtain ⟨q1, q2, _⟩ := hQ.2 s a b hs.1 hs.2 a0 ab bn
    by_cases c : Q s a b < 1000000
    · have e1 := Q_end hF hQ (Int.le_refl 0) (by omega) (b - a).toNat 6 s a b a0 ab bn (by omega) hs.1 hs.2 (cn_b _ _).2 c
      have e2 := Q_emp6 hF hQ (Int.le_refl 0) (by omega) e1
      have e3 := Q_span hF hQ (Int.le_refl 0) (by omega) 6 s hs.1 hs.2 (cn_b _ _).2 e1 a b a0 ab bn
      omega
    · omega
  · exact Or.inr (hQ.1 s a b hs)
/-- the price by the class's ceiling -/
def cl (q : Int) : Int := if q < 1000000 then q else 16777216
theorem cl_rel {nf n : Int} {sf : Int → Int} {fi : Int → List Int} {ft : Int → Int → Bool} {Q : Int → Int → Int → Int} (hF : FO5 nf sf fi) (hQ : QOK nf sf fi ft n Q) (n16 : n ≤ 16) {s a b : Int} (a0 : 0 ≤ a) (ab : a ≤ b) (bn : b ≤ n) : Rel 20000 16777216 1000000 (cl (Q s a b)) (Q s a b) := by
  unfold cl Rel
  rcases Q_small hF hQ n16 (s := s) a0 ab bn with h | h
  · rw [if_pos (by omega)]
    omega
  · rw [if_neg (by omega)]
    omega
theorem rP_ext {nf n : Int} {sf : Int → Int} {fi : Int → List Int} {ft : Int → Int → Bool} {Q : Int → Int → Int → Int} {X : Int → Int → Int → Int} (hF : FO5 nf sf fi) (hQ : QOK nf sf fi ft n Q) (n16 : n ≤ 16) {p to : Int} {l : List Int} (p0 : 0 ≤ p) (tn : to ≤ n) (h5 : l.length ≤ 5) (hX : ∀ s a b, p ≤ a → a ≤ b → b ≤ to → X s a b = cl (Q s a b)) : rP 16777216 X ft to l p = cl (rP 1000000 Q ft to l p) := by
  have h := rP_rel (b := 20000) (I1 := 16777216) (I2 := 1000000) (P := X) (Q := Q) (ft := ft) (to := to) (by omega) (l := l) (p := p) (by omega) (by omega) (by omega) (by omega) (by omega) (fun s a c q1 q2 q3 => by
    rw [hX s a c q1 q2 q3]
    exact cl_rel hF hQ n16 (by omega) q2 (by omega))
  unfold Rel at h
  unfold cl
  rcases h with h | h
  · rw [if_pos (by omega)]
    exact h.1
  · rw [if_neg (by omega)]
    exact h.1
theorem rP_low {nf n : Int} {sf : Int → Int} {fi : Int → List Int} {ft : Int → Int → Bool} {Q : Int → Int → Int → Int} {X : Int → Int → Int → Int} (hF : FO5 nf sf fi) (hQ : QOK nf sf fi ft n Q) (n16 : n ≤ 16) {p to : Int} {l : List Int} (p0 : 0 ≤ p) (tn : to ≤ n) (h5 : l.length ≤ 5) (hX : ∀ s a b, p ≤ a → a ≤ b → b ≤ to → cl (Q s a b) ≤ X s a b) : cl (rP 1000000 Q ft to l p) ≤ rP 16777216 X ft to l p := by
  rw [← rP_ext (X := fun s a b => cl (Q s a b)) hF hQ n16 p0 tn h5 (fun _ _ _ _ _ _ => rfl)]
  exact rP_mono hX
/-- a round more: one sort more is right -/
theorem ex_step {nf n : Int} {sf : Int → Int} {fi : Int → List Int} {ft : Int → Int → Bool} {Q : Int → Int → Int → Int} {X : Int → Int → Int → Int} (hF : FO5 nf sf fi) (hQ : QOK nf sf fi ft n Q) {a b j : Int} (a0 : 0 ≤ a) (ab : a ≤ b) (bn : b ≤ n) (hs : ∀ s x y, 0 ≤ s → s ≤ 5 → a ≤ x → x ≤ y → y ≤ b → ¬ (x = a ∧ y = b) → X s x y = cl (Q s x y)) (hj : ∀ s, 0 ≤ s → s ≤ 5 → cn (fun x => Q x a b) s ≤ j → X s a b = cl (Q s a b)) {f s : Int} (f0 : 0 ≤ f) (f1 : f < nf) (fs : sf f = s) (s0 : 0 ≤ s) (s1 : s ≤ 5) (fe : Q s a b = rP 1000000 Q ft b (fi f) a) (hf : Q s a b < 1000000) (hc : cn (fun x => Q x a b) s ≤ j + 1) : rP 16777216 X ft b (fi f) a ≤ Q s a b := by
  have d := dec_top hF hQ f0 f1 a0 ab bn fe.symm hf
  refine Dec_ub (fun it x y ⟨w1, w2, w3, w4, w5, w6⟩ => itP_mono fun hi => ?_) d
  rw [itP_sort hi] at w5
  have i5 := (hF.1 f f0 f1).2.1 it w1
  have e : X (it - 60) x y = cl (Q (it - 60) x y) := by
    by_cases c : x = a ∧ y = b
    · rcases w6 hi with z | z
      · exact absurd c z
      · have c2 := cn_lt (Z := fun x => Q x a b) s0 s1 (s' := it - 60) (by
          show Q (it - 60) a b < Q s a b ∨ (Q (it - 60) a b = Q s a b ∧ s < it - 60)
          omega)
        rw [c.1, c.2]
        exact hj _ (by omega) (by omega) (by omega)
    · exact hs _ x y (by omega) (by omega) w2 w3 w4 c
  rw [e]
  unfold cl
  rw [if_pos (by omega)]
  exact Int.le_refl _
end
