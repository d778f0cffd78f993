section
/-! rows: entries of the table: words put in (pure) -/
def posW (w : Int → List Int) (u : List Int) : Nat → Int → Int
  | 0, i => i
  | d + 1, i => if ltW (w i) u = true then posW w u d (i + 1) else i
set_option maxHeartbeats 400000 in
theorem posW_p {w : Int → List Int} {u : List Int} : ∀ (d : Nat) (i : Int), (i ≤ posW w u d i ∧ posW w u d i ≤ i + d) ∧ (∀ k, i ≤ k → k < posW w u d i → ltW (w k) u = true) ∧ (posW w u d i < i + d → ¬ ltW (w (posW w u d i)) u = true) := by
  intro d
  induction d with
  | zero =>
    intro i
    rw [posW]
    exact ⟨by omega, fun k a b => by omega, fun a => by omega⟩
  | succ d ih =>
    intro i
    rw [posW]
    by_cases g : ltW (w i) u = true
    · rw [if_pos g]
      obtain ⟨a, b, c⟩ := ih (i + 1)
      refine ⟨by omega, fun k k0 k1 => ?_, fun q => c (by omega)⟩
      by_cases z : k = i
      · rw [z]; exact g
      · exact b k (by omega) k1
    · rw [if_neg g]
      exact ⟨by omega, fun k a b => by omega, fun _ => g⟩
/-- an entry: how many words, the words in order, their weights -/
def EOk (m : Nat) (E : (Int × (Int → List Int) × (Int → Int))) : Prop := (0 ≤ E.1 ∧ E.1 ≤ 100) ∧ (∀ k, 0 ≤ k → k < E.1 → okW (E.2.1 k) ∧ (E.2.1 k).length = m ∧ 1 ≤ E.2.2 k ∧ E.2.2 k ≤ 2) ∧ ∀ i j, 0 ≤ i → i < j → j < E.1 → ltW (E.2.1 i) (E.2.1 j) = true
def inE (E : (Int × (Int → List Int) × (Int → Int))) (v : List Int) : Prop := ∃ k, 0 ≤ k ∧ k < E.1 ∧ E.2.1 k = v
def psE (u : List Int) (E : (Int × (Int → List Int) × (Int → Int))) : Int := posW E.2.1 u E.1.toNat 0
def putE (u : List Int) (ρ i : Int) (E : (Int × (Int → List Int) × (Int → Int))) : (Int × (Int → List Int) × (Int → Int)) := (E.1 + 1, (fun k => if k < i then E.2.1 k else if k = i then u else E.2.1 (k - 1)), fun k => if k < i then E.2.2 k else if k = i then ρ else E.2.2 (k - 1))
def insE (u : List Int) (ρ : Int) (E : (Int × (Int → List Int) × (Int → Int))) : Option (Int × (Int → List Int) × (Int → Int)) :=
  if psE u E < E.1 ∧ E.2.1 (psE u E) = u then some (E.1, E.2.1, fun k => if k = psE u E then 2 else E.2.2 k)
  else if 100 ≤ E.1 then none else some (putE u ρ (psE u E) E)
set_option maxHeartbeats 400000 in
theorem psE_b {u : List Int} {m : Nat} {E : (Int × (Int → List Int) × (Int → Int))} (h : EOk m E) : 0 ≤ psE u E ∧ psE u E ≤ E.1 ∧ (∀ k, 0 ≤ k → k < psE u E → ltW (E.2.1 k) u = true) ∧ (psE u E < E.1 → ¬ ltW (E.2.1 (psE u E)) u = true) := by
  obtain ⟨a, b, c⟩ := posW_p (w := E.2.1) (u := u) E.1.toNat 0
  have := h.1
  exact ⟨a.1, by unfold psE; omega, b, fun q => c (by unfold psE at q; omega)⟩
set_option maxHeartbeats 400000 in
theorem inE_one {m : Nat} {E : (Int × (Int → List Int) × (Int → Int))} (h : EOk m E) {i j : Int} (i0 : 0 ≤ i) (i1 : i < E.1) (j0 : 0 ≤ j) (j1 : j < E.1) (g : E.2.1 i = E.2.1 j) : i = j := by
  by_cases a : i < j
  · have := h.2.2 i j i0 a j1
    rw [g] at this
    exact absurd this (ltW_irr _)
  · by_cases b : j < i
    · have := h.2.2 j i j0 b i1
      rw [g] at this
      exact absurd this (ltW_irr _)
    · omega
set_option maxHeartbeats 400000 in
/-- the word is there just where it would be put -/
theorem psE_in {u : List Int} {m : Nat} {E : (Int × (Int → List Int) × (Int → Int))} (h : EOk m E) : inE E u ↔ psE u E < E.1 ∧ E.2.1 (psE u E) = u := by
  obtain ⟨p0, p1, p2, p3⟩ := psE_b (u := u) h
  constructor
  · intro ⟨k, k0, k1, k2⟩
    have a : ¬ k < psE u E := fun z => by
      have := p2 k k0 z
      rw [k2] at this
      exact ltW_irr _ this
    by_cases b : k = psE u E
    · rw [← b]
      exact ⟨k1, k2⟩
    · exfalso
      have l := h.2.2 (psE u E) k p0 (by omega) k1
      rw [k2] at l
      exact p3 (by omega) l
  · intro ⟨a, b⟩
    exact ⟨psE u E, p0, a, b⟩
set_option maxHeartbeats 400000 in
theorem psE_gt {u : List Int} {m : Nat} {E : (Int × (Int → List Int) × (Int → Int))} (h : EOk m E) (hl : u.length = m) (ne : ¬ inE E u) {k : Int} (k0 : psE u E ≤ k) (k1 : k < E.1) : ltW u (E.2.1 k) = true := by
  obtain ⟨p0, p1, p2, p3⟩ := psE_b (u := u) h
  have t := ltW_tri (E.2.1 k) u (by rw [(h.2.1 k (by omega) k1).2.1, hl])
  rcases t with t | t | t
  · exact absurd ⟨k, by omega, k1, t⟩ ne
  · exfalso
    by_cases z : k = psE u E
    · rw [z] at t
      exact p3 (by omega) t
    · exact p3 (by omega) (ltW_tr _ _ _ (h.2.2 (psE u E) k p0 (by omega) k1) t)
  · exact t
set_option maxHeartbeats 400000 in
theorem insE_ok {u : List Int} {m : Nat} {ρ : Int} {E E' : (Int × (Int → List Int) × (Int → Int))} (h : EOk m E) (hu : okW u) (hl : u.length = m) (r0 : 1 ≤ ρ ∧ ρ ≤ 2) (e : insE u ρ E = some E') : EOk m E' ∧ ∀ v, inE E' v ↔ v = u ∨ inE E v := by
  obtain ⟨p0, p1, p2, p3⟩ := psE_b (u := u) h
  unfold insE at e
  by_cases g : psE u E < E.1 ∧ E.2.1 (psE u E) = u
  · rw [if_pos g] at e
    have e := Option.some.inj e
    subst e
    refine ⟨⟨h.1, fun k k0 k1 => ?_, h.2.2⟩, fun v => ⟨fun q => Or.inr q, fun q => ?_⟩⟩
    · have := h.2.1 k k0 k1
      refine ⟨this.1, this.2.1, ?_⟩
      show 1 ≤ (if k = psE u E then 2 else E.2.2 k) ∧ (if k = psE u E then 2 else E.2.2 k) ≤ 2
      split
      · omega
      · exact this.2.2
    · rcases q with q | q
      · rw [q]
        exact ⟨psE u E, p0, g.1, g.2⟩
      · exact q
  · rw [if_neg g] at e
    have ne : ¬ inE E u := fun z => g ((psE_in h).mp z)
    have gt := fun (k : Int) (k0 : psE u E ≤ k) (k1 : k < E.1) => psE_gt h hl ne k0 k1
    by_cases c : 100 ≤ E.1
    · rw [if_pos c] at e
      exact absurd e (by simp)
    · rw [if_neg c] at e
      have e := Option.some.inj e
      subst e
      obtain ⟨i, hi⟩ : ∃ i, i = psE u E := ⟨_, rfl⟩
      rw [← hi] at p0 p1 p2 gt ⊢
      have h1 := h.1
      refine ⟨⟨by show 0 ≤ E.1 + 1 ∧ E.1 + 1 ≤ 100; omega, fun k k0 k1 => ?_, fun a b a0 ab b1 => ?_⟩, fun v => ⟨fun ⟨k, k0, k1, k2⟩ => ?_, fun q => ?_⟩⟩
      · have k1 : k < E.1 + 1 := k1
        show okW (if k < i then E.2.1 k else if k = i then u else E.2.1 (k - 1)) ∧ (if k < i then E.2.1 k else if k = i then u else E.2.1 (k - 1)).length = m ∧ 1 ≤ (if k < i then E.2.2 k else if k = i then ρ else E.2.2 (k - 1)) ∧ (if k < i then E.2.2 k else if k = i then ρ else E.2.2 (k - 1)) ≤ 2
        by_cases z : k < i
        · rw [if_pos z, if_pos z]
          exact h.2.1 k k0 (by omega)
        · rw [if_neg z, if_neg z]
          by_cases y : k = i
          · rw [if_pos y, if_pos y]
            exact ⟨hu, hl, r0⟩
          · rw [if_neg y, if_neg y]
            exact h.2.1 (k - 1) (by omega) (by omega)
      · have b1 : b < E.1 + 1 := b1
        show ltW (if a < i then E.2.1 a else if a = i then u else E.2.1 (a - 1)) (if b < i then E.2.1 b else if b = i then u else E.2.1 (b - 1)) = true
        by_cases z : b < i
        · rw [if_pos z, if_pos (by omega)]
          exact h.2.2 a b a0 ab (by omega)
        · rw [if_neg z]
          by_cases y : b = i
          · rw [if_pos y, if_pos (by omega)]
            exact p2 a a0 (by omega)
          · rw [if_neg y]
            by_cases x : a < i
            · rw [if_pos x]
              by_cases w : a = b - 1
              · omega
              · exact h.2.2 a (b - 1) a0 (by omega) (by omega)
            · rw [if_neg x]
              by_cases w : a = i
              · rw [if_pos w]
                exact gt (b - 1) (by omega) (by omega)
              · rw [if_neg w]
                exact h.2.2 (a - 1) (b - 1) (by omega) (by omega) (by omega)
      · have k1 : k < E.1 + 1 := k1
        have k2 : (if k < i then E.2.1 k else if k = i then u else E.2.1 (k - 1)) = v := k2
        by_cases z : k < i
        · rw [if_pos z] at k2
          exact Or.inr ⟨k, k0, by omega, k2⟩
        · rw [if_neg z] at k2
          by_cases y : k = i
          · rw [if_pos y] at k2
            exact Or.inl k2.symm
          · rw [if_neg y] at k2
            exact Or.inr ⟨k - 1, by omega, by omega, k2⟩
      · rcases q with q | ⟨k, k0, k1, k2⟩
        · refine ⟨i, p0, by show i < E.1 + 1; omega, ?_⟩
          show (if i < i then E.2.1 i else if i = i then u else E.2.1 (i - 1)) = v
          rw [if_neg (by omega), if_pos rfl, q]
        · by_cases z : k < i
          · refine ⟨k, k0, by show k < E.1 + 1; omega, ?_⟩
            show (if k < i then E.2.1 k else if k = i then u else E.2.1 (k - 1)) = v
            rw [if_pos z]
            exact k2
          · refine ⟨k + 1, by omega, by show k + 1 < E.1 + 1; omega, ?_⟩
            show (if k + 1 < i then E.2.1 (k + 1) else if k + 1 = i then u else E.2.1 (k + 1 - 1)) = v
            rw [if_neg (by omega), if_neg (by omega), show k + 1 - 1 = k by omega]
            exact k2
/-- the word of a choice, and its readings -/
def chW : List (Int × (Int → List Int) × (Int → Int)) → Int → List Int × Int
  | [], _ => ([], 1)
  | L :: r, t => (L.2.1 (t % L.1) ++ (chW r (t / L.1)).1, L.2.2 (t % L.1) * (chW r (t / L.1)).2)
def prE : List (Int × (Int → List Int) × (Int → Int)) → Int
  | [] => 1
  | L :: r => L.1 * prE r
def runE (L : List (Int × (Int → List Int) × (Int → Int))) : Nat → Int → (Int × (Int → List Int) × (Int → Int)) → Option (Int × (Int → List Int) × (Int → Int))
  | 0, _, E => some E
  | d + 1, t, E => (insE (chW L t).1 (min (chW L t).2 2) E).bind (runE L d (t + 1))
def stF (L : List (Int × (Int → List Int) × (Int → Int))) (E : (Int × (Int → List Int) × (Int → Int))) : Option (Int × (Int → List Int) × (Int → Int)) := if 100 < prE L then none else runE L (prE L).toNat 0 E
/-- parts and their lengths -/
def POk : List (Int × (Int → List Int) × (Int → Int)) → List Nat → Prop
  | [], [] => True
  | L :: r, m :: ms => EOk m L ∧ POk r ms
  | _, _ => False
def sumL : List Nat → Nat
  | [] => 0
  | m :: r => m + sumL r
set_option maxHeartbeats 400000 in
theorem prE_nn : ∀ (L : List (Int × (Int → List Int) × (Int → Int))) (ms : List Nat), POk L ms → 0 ≤ prE L := by
  intro L
  induction L with
  | nil => intro ms _; show (0 : Int) ≤ 1; omega
  | cons a r ih =>
    intro ms h
    cases ms with
    | nil => exact absurd h (by simp [POk])
    | cons m ms =>
      have h : EOk m a ∧ POk r ms := h
      exact Int.mul_nonneg h.1.1.1 (ih ms h.2)
set_option maxHeartbeats 400000 in
theorem chW_t {a : (Int × (Int → List Int) × (Int → Int))} {r : List (Int × (Int → List Int) × (Int → Int))} {t : Int} (t0 : 0 ≤ t) (t1 : t < prE (a :: r)) (a0 : 0 ≤ a.1) (p0 : 0 ≤ prE r) : 0 < a.1 ∧ (0 ≤ t % a.1 ∧ t % a.1 < a.1) ∧ 0 ≤ t / a.1 ∧ t / a.1 < prE r := by
  have t1 : t < a.1 * prE r := t1
  have p : 0 < a.1 := by
    by_cases z : a.1 = 0
    · rw [z, Int.zero_mul] at t1
      omega
    · omega
  refine ⟨p, ⟨Int.emod_nonneg _ (by omega), Int.emod_lt_of_pos _ p⟩, Int.ediv_nonneg t0 (by omega), ?_⟩
  rw [Int.mul_comm] at t1
  exact Int.ediv_lt_of_lt_mul p t1
set_option maxHeartbeats 400000 in
theorem chW_ok : ∀ (L : List (Int × (Int → List Int) × (Int → Int))) (ms : List Nat) (t : Int), POk L ms → 0 ≤ t → t < prE L → okW (chW L t).1 ∧ (chW L t).1.length = sumL ms ∧ 1 ≤ (chW L t).2 := by
  intro L
  induction L with
  | nil =>
    intro ms t h _ _
    cases ms with
    | nil => exact ⟨fun x hx => absurd hx (List.not_mem_nil), rfl, Int.le_refl 1⟩
    | cons m ms => exact absurd h (by simp [POk])
  | cons a r ih =>
    intro ms t h t0 t1
    cases ms with
    | nil => exact absurd h (by simp [POk])
    | cons m ms =>
      have h : EOk m a ∧ POk r ms := h
      obtain ⟨p, ⟨q0, q1⟩, d0, d1⟩ := chW_t t0 t1 h.1.1.1 (prE_nn r ms h.2)
      obtain ⟨i1, i2, i3⟩ := ih ms (t / a.1) h.2 d0 d1
      obtain ⟨j1, j2, j3, j4⟩ := h.1.2.1 (t % a.1) q0 q1
      refine ⟨fun x hx => ?_, ?_, ?_⟩
      · rcases List.mem_append.mp hx with hx | hx
        · exact j1 x hx
        · exact i1 x hx
      · show (a.2.1 (t % a.1) ++ (chW r (t / a.1)).1).length = m + sumL ms
        rw [List.length_append, j2, i2]
      · show 1 ≤ a.2.2 (t % a.1) * (chW r (t / a.1)).2
        have := Int.mul_le_mul j3 i3 (by omega) (by omega)
        omega
set_option maxHeartbeats 400000 in
theorem chW_inj : ∀ (L : List (Int × (Int → List Int) × (Int → Int))) (ms : List Nat) (t t' : Int), POk L ms → 0 ≤ t → t < prE L → 0 ≤ t' → t' < prE L → (chW L t).1 = (chW L t').1 → t = t' := by
  intro L
  induction L with
  | nil =>
    intro ms t t' _ t0 t1 t0' t1' _
    have t1 : t < 1 := t1
    have t1' : t' < 1 := t1'
    omega
  | cons a r ih =>
    intro ms t t' h t0 t1 t0' t1' e
    cases ms with
    | nil => exact absurd h (by simp [POk])
    | cons m ms =>
      have h : EOk m a ∧ POk r ms := h
      obtain ⟨p, ⟨q0, q1⟩, d0, d1⟩ := chW_t t0 t1 h.1.1.1 (prE_nn r ms h.2)
      obtain ⟨p', ⟨q0', q1'⟩, d0', d1'⟩ := chW_t t0' t1' h.1.1.1 (prE_nn r ms h.2)
      have e : a.2.1 (t % a.1) ++ (chW r (t / a.1)).1 = a.2.1 (t' % a.1) ++ (chW r (t' / a.1)).1 := e
      have k := List.append_inj e (by rw [(h.1.2.1 _ q0 q1).2.1, (h.1.2.1 _ q0' q1').2.1])
      have k1 := inE_one h.1 q0 q1 q0' q1' k.1
      have k2 := ih ms (t / a.1) (t' / a.1) h.2 d0 d1 d0' d1' k.2
      have m1 := Int.emod_add_mul_ediv t a.1
      have m2 := Int.emod_add_mul_ediv t' a.1
      rw [← m1, ← m2, k1, k2]
set_option maxHeartbeats 400000 in
theorem runE_ok {m : Nat} {L : List (Int × (Int → List Int) × (Int → Int))} {ms : List Nat} (hL : POk L ms) (hm : sumL ms = m) : ∀ (d : Nat) (t : Int) (E E' : (Int × (Int → List Int) × (Int → Int))), 0 ≤ t → t + d ≤ prE L → EOk m E → runE L d t E = some E' → EOk m E' ∧ (∀ v, inE E v → inE E' v) ∧ (∀ x, t ≤ x → x < t + d → inE E' (chW L x).1) ∧ ∀ v, inE E' v → inE E v ∨ ∃ x, t ≤ x ∧ x < t + d ∧ v = (chW L x).1 := by
  intro d
  induction d with
  | zero =>
    intro t E E' t0 td h e
    have e := Option.some.inj e
    subst e
    exact ⟨h, fun v q => q, fun x a b => by omega, fun v q => Or.inl q⟩
  | succ d ih =>
    intro t E E' t0 td h e
    obtain ⟨c1, c2, c3⟩ := chW_ok L ms t hL t0 (by omega)
    have e : (insE (chW L t).1 (min (chW L t).2 2) E).bind (runE L d (t + 1)) = some E' := e
    obtain ⟨E1, e1⟩ : ∃ E1, insE (chW L t).1 (min (chW L t).2 2) E = E1 := ⟨_, rfl⟩
    rw [e1] at e
    cases E1 with
    | none => exact absurd e (by simp)
    | some E1 =>
      obtain ⟨k1, k2⟩ := insE_ok h c1 (by rw [c2, hm]) (by omega) e1
      obtain ⟨j1, j2, j3, j4⟩ := ih (t + 1) E1 E' (by omega) (by omega) k1 e
      refine ⟨j1, fun v q => j2 v ((k2 v).mpr (Or.inr q)), fun x a b => ?_, fun v q => ?_⟩
      · by_cases z : x = t
        · rw [z]
          exact j2 _ ((k2 _).mpr (Or.inl rfl))
        · exact j3 x (by omega) (by omega)
      · rcases j4 v q with z | ⟨x, x0, x1, x2⟩
        · rcases (k2 v).mp z with y | y
          · exact Or.inr ⟨t, Int.le_refl _, by omega, y⟩
          · exact Or.inl y
        · exact Or.inr ⟨x, by omega, by omega, x2⟩
set_option maxHeartbeats 400000 in
/-- more than 100 choices are more than 100 words -/
theorem runE_none {m : Nat} {L : List (Int × (Int → List Int) × (Int → Int))} {ms : List Nat} (hL : POk L ms) (hm : sumL ms = m) {E : (Int × (Int → List Int) × (Int → Int))} (h : EOk m E) (g : 100 < prE L) : runE L (prE L).toNat 0 E = none := by
  obtain ⟨r, hr⟩ : ∃ r, runE L (prE L).toNat 0 E = r := ⟨_, rfl⟩
  rw [hr]
  cases r with
  | none => rfl
  | some E' =>
    exfalso
    obtain ⟨j1, j2, j3, j4⟩ := runE_ok hL hm (prE L).toNat 0 E E' (Int.le_refl _) (by omega) h hr
    have key : ∀ k : Nat, k ≤ 100 → ∃ i, 0 ≤ i ∧ i < E'.1 ∧ E'.2.1 i = (chW L k).1 := fun k hk => j3 k (by omega) (by omega)
    have p := pig E'.1.toNat 100 (fun k => if hk : k ≤ 100 then Classical.choose (key k hk) else 0) (fun k hk => by
      have := Classical.choose_spec (key k hk)
      show 0 ≤ (if hk : k ≤ 100 then Classical.choose (key k hk) else 0) ∧ (if hk : k ≤ 100 then Classical.choose (key k hk) else 0) < _
      rw [dif_pos hk]
      omega) (fun j k hj hk q => by
      have a := Classical.choose_spec (key j hj)
      have b := Classical.choose_spec (key k hk)
      have q : (if hk : j ≤ 100 then Classical.choose (key j hk) else 0) = (if hk : k ≤ 100 then Classical.choose (key k hk) else 0) := q
      rw [dif_pos hj, dif_pos hk] at q
      rw [q] at a
      have w := chW_inj L ms j k hL (by omega) (by omega) (by omega) (by omega) (a.2.2.symm.trans b.2.2)
      omega)
    have := j1.1
    omega
set_option maxHeartbeats 400000 in
/-- both sides' way with one form cut in one way -/
theorem stF_run {m : Nat} {L : List (Int × (Int → List Int) × (Int → Int))} {ms : List Nat} (hL : POk L ms) (hm : sumL ms = m) {E : (Int × (Int → List Int) × (Int → Int))} (h : EOk m E) : stF L E = runE L (prE L).toNat 0 E := by
  unfold stF
  by_cases g : 100 < prE L
  · rw [if_pos g, runE_none hL hm h g]
  · rw [if_neg g]
end
