section
/-! two: a word's weight in an entry (pure) -/
def c2 (x : Int) : Int := min x 2
set_option maxHeartbeats 400000 in
theorem c2_mul {a b : Int} (a0 : 0 ≤ a) (b0 : 0 ≤ b) : c2 (c2 a * b) = c2 (a * b) := by
  by_cases g : a ≤ 2
  · rw [show c2 a = a by unfold c2; omega]
  · rw [show c2 a = 2 by unfold c2; omega]
    by_cases z : b = 0
    · rw [z, Int.mul_zero, Int.mul_zero]
    · have := Int.mul_le_mul_of_nonneg_right (show (2 : Int) ≤ a by omega) b0
      unfold c2
      omega
set_option maxHeartbeats 400000 in
theorem c2_mm {a b a' b' : Int} (a0 : 0 ≤ a) (b0 : 0 ≤ b) (a0' : 0 ≤ a') (b0' : 0 ≤ b') (ea : c2 a = c2 a') (eb : c2 b = c2 b') : c2 (a * b) = c2 (a' * b') := by
  have n1 : 0 ≤ c2 a' := by unfold c2; omega
  rw [← c2_mul a0 b0, ea, Int.mul_comm, ← c2_mul b0 n1, eb, c2_mul b0' n1, Int.mul_comm, c2_mul a0' b0']
def wgt (E : (Int × (Int → List Int) × (Int → Int))) (v : List Int) : Int := if psE v E < E.1 ∧ E.2.1 (psE v E) = v then E.2.2 (psE v E) else 0
set_option maxHeartbeats 400000 in
theorem wgt_at {m : Nat} {E : (Int × (Int → List Int) × (Int → Int))} (h : EOk m E) {k : Int} (k0 : 0 ≤ k) (k1 : k < E.1) : wgt E (E.2.1 k) = E.2.2 k := by
  have i := (psE_in (u := E.2.1 k) h).mp ⟨k, k0, k1, rfl⟩
  have p := psE_b (u := E.2.1 k) h
  have e := inE_one h p.1 i.1 k0 k1 i.2
  unfold wgt
  rw [if_pos i, e]
set_option maxHeartbeats 400000 in
theorem wgt_no {m : Nat} {E : (Int × (Int → List Int) × (Int → Int))} (h : EOk m E) {v : List Int} (n : ¬ inE E v) : wgt E v = 0 := by
  unfold wgt
  exact if_neg (fun q => n ((psE_in h).mpr q))
set_option maxHeartbeats 400000 in
theorem wgt_b {m : Nat} {E : (Int × (Int → List Int) × (Int → Int))} (h : EOk m E) (v : List Int) : 0 ≤ wgt E v ∧ wgt E v ≤ 2 ∧ (inE E v → 1 ≤ wgt E v) := by
  by_cases g : inE E v
  · obtain ⟨k, k0, k1, k2⟩ := g
    have := (h.2.1 k k0 k1).2.2
    rw [← k2, wgt_at h k0 k1]
    exact ⟨by omega, by omega, fun _ => by omega⟩
  · rw [wgt_no h g]
    exact ⟨by omega, by omega, fun q => absurd q g⟩
set_option maxHeartbeats 400000 in
theorem insE_wg {u v : List Int} {m : Nat} {ρ : Int} {E E' : (Int × (Int → List Int) × (Int → Int))} (h : EOk m E) (hu : okW u) (hl : u.length = m) (r0 : 1 ≤ ρ ∧ ρ ≤ 2) (e : insE u ρ E = some E') : wgt E' v = c2 (wgt E v + if u = v then ρ else 0) := by
  obtain ⟨o1, o2⟩ := insE_ok h hu hl r0 e
  have wb := wgt_b h v
  have ee := e
  unfold insE at e
  by_cases g : psE u E < E.1 ∧ E.2.1 (psE u E) = u
  · rw [if_pos g] at e
    have e := Option.some.inj e
    have e1 : E'.1 = E.1 := by rw [← e]
    have e2 : E'.2.1 = E.2.1 := by rw [← e]
    have e3 : ∀ k, E'.2.2 k = if k = psE u E then 2 else E.2.2 k := fun k => by rw [← e]
    have pu := psE_b (u := u) h
    by_cases z : u = v
    · rw [if_pos z]
      have w1 := wb.2.2 (by rw [← z]; exact ⟨psE u E, pu.1, g.1, g.2⟩)
      have k := wgt_at o1 pu.1 (by rw [e1]; exact g.1)
      rw [e2, g.2, e3, if_pos rfl, z] at k
      rw [k]
      unfold c2
      omega
    · rw [if_neg z]
      by_cases y : inE E v
      · obtain ⟨k, k0, k1, k2⟩ := y
        have a1 := wgt_at o1 k0 (by rw [e1]; exact k1)
        have a2 := wgt_at h k0 k1
        rw [e2, k2, e3, if_neg (fun q => z (by rw [← g.2, ← q, k2]))] at a1
        rw [k2] at a2
        rw [a1, ← a2]
        unfold c2
        omega
      · rw [wgt_no h y, wgt_no o1 (fun q => by
          rcases (o2 v).mp q with q | q
          · exact z q.symm
          · exact y q)]
        rfl
  · rw [if_neg g] at e
    have ne : ¬ inE E u := fun z => g ((psE_in h).mp z)
    by_cases c : 100 ≤ E.1
    · rw [if_pos c] at e
      exact absurd e (by simp)
    · rw [if_neg c] at e
      have e := Option.some.inj e
      obtain ⟨p0, p1, p2, p3⟩ := psE_b (u := u) h
      obtain ⟨i, hi⟩ : ∃ i, i = psE u E := ⟨_, rfl⟩
      rw [← hi] at e p0 p1
      have e1 : E'.1 = E.1 + 1 := by rw [← e]; rfl
      have e2 : ∀ k, E'.2.1 k = if k < i then E.2.1 k else if k = i then u else E.2.1 (k - 1) := fun k => by rw [← e]; rfl
      have e3 : ∀ k, E'.2.2 k = if k < i then E.2.2 k else if k = i then ρ else E.2.2 (k - 1) := fun k => by rw [← e]; rfl
      by_cases z : u = v
      · rw [if_pos z]
        have k := wgt_at o1 p0 (by rw [e1]; omega)
        rw [e2, if_neg (by omega), if_pos rfl, e3, if_neg (by omega), if_pos rfl, z] at k
        rw [k, wgt_no h (by rw [← z]; exact ne)]
        unfold c2
        omega
      · rw [if_neg z]
        by_cases y : inE E v
        · obtain ⟨k, k0, k1, k2⟩ := y
          have a2 := wgt_at h k0 k1
          rw [k2] at a2
          by_cases w : k < i
          · have a1 := wgt_at o1 k0 (by rw [e1]; omega)
            rw [e2, if_pos w, e3, if_pos w, k2] at a1
            rw [a1, ← a2]
            unfold c2
            omega
          · have a1 := wgt_at o1 (show 0 ≤ k + 1 by omega) (by rw [e1]; omega)
            rw [e2, if_neg (by omega), if_neg (by omega), e3, if_neg (by omega), if_neg (by omega), show k + 1 - 1 = k by omega, k2] at a1
            rw [a1, ← a2]
            unfold c2
            omega
        · rw [wgt_no h y, wgt_no o1 (fun q => by
            rcases (o2 v).mp q with q | q
            · exact z q.symm
            · exact y q)]
          rfl
def hitV (L : List (Int × (Int → List Int) × (Int → Int))) (v : List Int) : Nat → Int → Int
  | 0, _ => 0
  | d + 1, t => (if (chW L t).1 = v then min (chW L t).2 2 else 0) + hitV L v d (t + 1)
set_option maxHeartbeats 400000 in
theorem hit_no {L : List (Int × (Int → List Int) × (Int → Int))} {v : List Int} : ∀ (d : Nat) (t : Int), (∀ x, t ≤ x → x < t + d → ¬ (chW L x).1 = v) → hitV L v d t = 0 := by
  intro d
  induction d with
  | zero => intro t _; rfl
  | succ d ih =>
    intro t h
    rw [hitV, if_neg (h t (Int.le_refl _) (by omega)), ih (t + 1) (fun x a b => h x (by omega) (by omega))]
    rfl
set_option maxHeartbeats 400000 in
theorem hit_one {L : List (Int × (Int → List Int) × (Int → Int))} {ms : List Nat} (hL : POk L ms) {v : List Int} {x : Int} (hx : (chW L x).1 = v) : ∀ (d : Nat) (t : Int), 0 ≤ t → t + d ≤ prE L → t ≤ x → x < t + d → hitV L v d t = min (chW L x).2 2 := by
  intro d
  induction d with
  | zero => intro t _ _ _ _; omega
  | succ d ih =>
    intro t t0 td x0 x1
    rw [hitV]
    by_cases z : t = x
    · rw [z, if_pos hx, hit_no d (x + 1) (fun y a b q => by
        have := chW_inj L ms y x hL (by omega) (by omega) (by omega) (by omega) (q.trans hx.symm)
        omega)]
      omega
    · rw [if_neg (fun q => z (chW_inj L ms t x hL (by omega) (by omega) (by omega) (by omega) (q.trans hx.symm))), ih (t + 1) (by omega) (by omega) (by omega) (by omega)]
      omega
set_option maxHeartbeats 400000 in
theorem runE_wg {m : Nat} {L : List (Int × (Int → List Int) × (Int → Int))} {ms : List Nat} (hL : POk L ms) (hm : sumL ms = m) {v : List Int} : ∀ (d : Nat) (t : Int) (E E' : (Int × (Int → List Int) × (Int → Int))), 0 ≤ t → t + d ≤ prE L → EOk m E → runE L d t E = some E' → wgt E' v = c2 (wgt E v + hitV L v d t) ∧ 0 ≤ hitV L v d t := by
  intro d
  induction d with
  | zero =>
    intro t E E' t0 td h e
    have e := Option.some.inj e
    have wb := wgt_b h v
    rw [← e, hitV]
    unfold c2
    omega
  | succ d ih =>
    intro t E E' t0 td h e
    obtain ⟨x1, x2, x3⟩ := chW_ok L ms t hL t0 (by omega)
    have e : (insE (chW L t).1 (min (chW L t).2 2) E).bind (runE L d (t + 1)) = some E' := e
    obtain ⟨E1, e1⟩ : ∃ E1, insE (chW L t).1 (min (chW L t).2 2) E = E1 := ⟨_, rfl⟩
    rw [e1] at e
    cases E1 with
    | none => exact absurd e (by simp)
    | some E1 =>
      obtain ⟨k1, k2⟩ := insE_ok h x1 (by rw [x2, hm]) (by omega) e1
      have k3 := insE_wg (v := v) h x1 (by rw [x2, hm]) (by omega) e1
      obtain ⟨j1, j2⟩ := ih (t + 1) E1 E' (by omega) (by omega) k1 e
      have wb := wgt_b h v
      rw [j1, k3, hitV]
      obtain ⟨y, hy⟩ : ∃ y, y = (if (chW L t).1 = v then min (chW L t).2 2 else 0) := ⟨_, rfl⟩
      have yb : 0 ≤ y := by
        rw [hy]
        split <;> omega
      rw [← hy]
      unfold c2
      omega
def pwW : List (Int × (Int → List Int) × (Int → Int)) → List Nat → List Int → Int
  | L :: r, m :: ms, v => wgt L (v.take m) * pwW r ms (v.drop m)
  | [], [], v => if v = [] then 1 else 0
  | _, _, _ => 0
set_option maxHeartbeats 400000 in
theorem pw_nn : ∀ (L : List (Int × (Int → List Int) × (Int → Int))) (ms : List Nat) (v : List Int), POk L ms → 0 ≤ pwW L ms v := by
  intro L
  induction L with
  | nil =>
    intro ms v h
    cases ms with
    | nil =>
      rw [pwW]
      split <;> omega
    | cons m ms => exact absurd h (by simp [POk])
  | cons a r ih =>
    intro ms v h
    cases ms with
    | nil => exact absurd h (by simp [POk])
    | cons m ms =>
      have h : EOk m a ∧ POk r ms := h
      exact Int.mul_nonneg (wgt_b h.1 _).1 (ih ms _ h.2)
set_option maxHeartbeats 400000 in
theorem pw_at : ∀ (L : List (Int × (Int → List Int) × (Int → Int))) (ms : List Nat) (t : Int), POk L ms → 0 ≤ t → t < prE L → pwW L ms (chW L t).1 = (chW L t).2 := by
  intro L
  induction L with
  | nil =>
    intro ms t h _ _
    cases ms with
    | nil => rfl
    | cons m ms => exact absurd h (by simp [POk])
  | cons a r ih =>
    intro ms t h t0 t1
    cases ms with
    | nil => exact absurd h (by simp [POk])
    | cons m ms =>
      have h : EOk m a ∧ POk r ms := h
      obtain ⟨p, ⟨q0, q1⟩, d0, d1⟩ := chW_t t0 t1 h.1.1.1 (prE_nn r ms h.2)
      have l := (h.1.2.1 _ q0 q1).2.1
      show wgt a ((a.2.1 (t % a.1) ++ (chW r (t / a.1)).1).take m) * pwW r ms ((a.2.1 (t % a.1) ++ (chW r (t / a.1)).1).drop m) = a.2.2 (t % a.1) * (chW r (t / a.1)).2
      rw [List.take_left' l, List.drop_left' l, wgt_at h.1 q0 q1, ih ms _ h.2 d0 d1]
set_option maxHeartbeats 400000 in
theorem pw_ex : ∀ (L : List (Int × (Int → List Int) × (Int → Int))) (ms : List Nat) (v : List Int), POk L ms → ¬ pwW L ms v = 0 → ∃ t, 0 ≤ t ∧ t < prE L ∧ (chW L t).1 = v := by
  intro L
  induction L with
  | nil =>
    intro ms v h n
    cases ms with
    | nil =>
      refine ⟨0, Int.le_refl _, by show (0 : Int) < 1; omega, ?_⟩
      by_cases z : v = []
      · rw [z]; rfl
      · exact absurd (by rw [pwW, if_neg z]) n
    | cons m ms => exact absurd h (by simp [POk])
  | cons a r ih =>
    intro ms v h n
    cases ms with
    | nil => exact absurd h (by simp [POk])
    | cons m ms =>
      have h : EOk m a ∧ POk r ms := h
      have n : ¬ wgt a (v.take m) * pwW r ms (v.drop m) = 0 := n
      obtain ⟨t', a0, a1, a2⟩ := ih ms (v.drop m) h.2 (fun z => n (by rw [z, Int.mul_zero]))
      have i : inE a (v.take m) := Classical.byContradiction fun z => n (by rw [wgt_no h.1 z, Int.zero_mul])
      obtain ⟨k, k0, k1, k2⟩ := i
      have e1 : (k + a.1 * t') % a.1 = k := by
        rw [Int.add_mul_emod_self_left]
        exact Int.emod_eq_of_lt k0 k1
      have e2 : (k + a.1 * t') / a.1 = t' := by
        rw [Int.add_mul_ediv_left _ _ (by omega), Int.ediv_eq_zero_of_lt k0 k1, Int.zero_add]
      have n1 : 0 ≤ a.1 * t' := Int.mul_nonneg (by omega) a0
      have n2 : a.1 * (t' + 1) ≤ a.1 * prE r := Int.mul_le_mul_of_nonneg_left (by omega) (by omega)
      rw [Int.mul_add, Int.mul_one] at n2
      refine ⟨k + a.1 * t', by omega, by show k + a.1 * t' < a.1 * prE r; omega, ?_⟩
      show a.2.1 ((k + a.1 * t') % a.1) ++ (chW r ((k + a.1 * t') / a.1)).1 = v
      rw [e1, e2, k2, a2]
      exact List.take_append_drop m v
set_option maxHeartbeats 400000 in
theorem stF_wg {m : Nat} {L : List (Int × (Int → List Int) × (Int → Int))} {ms : List Nat} (hL : POk L ms) (hm : sumL ms = m) {E E' : (Int × (Int → List Int) × (Int → Int))} (h : EOk m E) {v : List Int} (e : stF L E = some E') : wgt E' v = c2 (wgt E v + pwW L ms v) := by
  rw [stF_run hL hm h] at e
  have nn := prE_nn L ms hL
  obtain ⟨k1, k2⟩ := runE_wg hL hm (v := v) (prE L).toNat 0 E E' (Int.le_refl _) (by omega) h e
  have wb := wgt_b h v
  have pn := pw_nn L ms v hL
  rw [k1]
  by_cases z : pwW L ms v = 0
  · rw [z, hit_no _ 0 (fun x a b q => by
      have p := pw_at L ms x hL (by omega) (by omega)
      have o := chW_ok L ms x hL (by omega) (by omega)
      rw [q, z] at p
      omega)]
  · obtain ⟨x, x0, x1, x2⟩ := pw_ex L ms v hL z
    have p := pw_at L ms x hL x0 x1
    rw [x2] at p
    rw [hit_one hL x2 _ 0 (Int.le_refl _) (by omega) x0 (by omega), p]
    unfold c2
    omega
end
