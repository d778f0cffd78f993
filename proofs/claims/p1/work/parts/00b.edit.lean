section
/-! forests as rows (a piece: its label, and how many pieces are in it, which come next), and the least cost of changes; mirrored it is the same -/
abbrev Fo : Type := List (Int × Nat)
def Fok (f : Fo) : Prop := match f with
  | [] => True
  | (_, s) :: r => s ≤ r.length ∧ Fok (r.take s) ∧ Fok (r.drop s)
termination_by f.length
decreasing_by
  · simp only [List.length_take, List.length_cons]; omega
  · simp only [List.length_drop, List.length_cons]; omega
def Ed (f g : Fo) : Nat := match f, g with
  | [], g => g.length
  | a :: r, [] => (a :: r).length
  | (x, s) :: r, (y, t) :: q => min (min (1 + Ed r ((y, t) :: q)) (1 + Ed ((x, s) :: r) q)) (Ed (r.take s) (q.take t) + Ed (r.drop s) (q.drop t) + if x = y then 0 else 1)
termination_by f.length + g.length
decreasing_by
  all_goals simp only [List.length_take, List.length_drop, List.length_cons]; omega
theorem fok_nil : Fok [] := by rw [Fok]; trivial
theorem fok_cons {x : Int} {s : Nat} {r : Fo} : Fok ((x, s) :: r) ↔ s ≤ r.length ∧ Fok (r.take s) ∧ Fok (r.drop s) := by rw [Fok]
theorem ed_nl (g : Fo) : Ed [] g = g.length := by rw [Ed]
theorem ed_nr (f : Fo) : Ed f [] = f.length := by
  cases f with
  | nil => rw [Ed]
  | cons a r => rw [Ed]
theorem ed_cc (x y : Int) (s t : Nat) (r q : Fo) : Ed ((x, s) :: r) ((y, t) :: q) = min (min (1 + Ed r ((y, t) :: q)) (1 + Ed ((x, s) :: r) q)) (Ed (r.take s) (q.take t) + Ed (r.drop s) (q.drop t) + if x = y then 0 else 1) := by rw [Ed]
theorem ed_del (x : Int) (s : Nat) (r g : Fo) : Ed ((x, s) :: r) g ≤ 1 + Ed r g := by
  cases g with
  | nil => rw [ed_nr, ed_nr, List.length_cons]; omega
  | cons b q =>
    obtain ⟨y, t⟩ := b
    rw [ed_cc]
    omega
theorem ed_comm : ∀ (n : Nat) (f g : Fo), f.length + g.length ≤ n → Ed f g = Ed g f := by
  intro n
  induction n with
  | zero =>
    intro f g h
    cases f with
    | nil => rw [ed_nl, ed_nr]
    | cons a r => simp at h
  | succ n ih =>
    intro f g h
    cases f with
    | nil => rw [ed_nl, ed_nr]
    | cons a r =>
      cases g with
      | nil => rw [ed_nl, ed_nr]
      | cons b q =>
        obtain ⟨x, s⟩ := a
        obtain ⟨y, t⟩ := b
        simp only [List.length_cons] at h
        rw [ed_cc, ed_cc, ih r ((y, t) :: q) (by simp only [List.length_cons]; omega), ih ((x, s) :: r) q (by simp only [List.length_cons]; omega), ih (r.take s) (q.take t) (by simp only [List.length_take]; omega), ih (r.drop s) (q.drop t) (by simp only [List.length_drop]; omega)]
        by_cases e : x = y
        · rw [if_pos e, if_pos e.symm]; omega
        · rw [if_neg e, if_neg (fun q => e q.symm)]; omega
theorem ed_c (f g : Fo) : Ed f g = Ed g f := ed_comm _ f g (Nat.le_refl _)
theorem ed_ins (y : Int) (t : Nat) (f q : Fo) : Ed f ((y, t) :: q) ≤ 1 + Ed f q := by
  rw [ed_c, ed_c f q]
  exact ed_del y t q f
theorem ed_mat (x y : Int) (s t : Nat) (r q : Fo) : Ed ((x, s) :: r) ((y, t) :: q) ≤ Ed (r.take s) (q.take t) + Ed (r.drop s) (q.drop t) + if x = y then 0 else 1 := by
  rw [ed_cc]
  omega
theorem ed_case (x y : Int) (s t : Nat) (r q : Fo) : Ed ((x, s) :: r) ((y, t) :: q) = 1 + Ed r ((y, t) :: q) ∨ Ed ((x, s) :: r) ((y, t) :: q) = 1 + Ed ((x, s) :: r) q ∨ Ed ((x, s) :: r) ((y, t) :: q) = Ed (r.take s) (q.take t) + Ed (r.drop s) (q.drop t) + if x = y then 0 else 1 := by
  rw [ed_cc]
  omega
theorem fok_app : ∀ (n : Nat) (a b : Fo), a.length ≤ n → Fok a → Fok b → Fok (a ++ b) := by
  intro n
  induction n with
  | zero =>
    intro a b h _ hb
    cases a with
    | nil => exact hb
    | cons => simp at h
  | succ n ih =>
    intro a b h ha hb
    cases a with
    | nil => exact hb
    | cons c r =>
      obtain ⟨x, s⟩ := c
      rw [fok_cons] at ha
      simp only [List.length_cons] at h
      rw [List.cons_append, fok_cons, List.take_append_of_le_length ha.1, List.drop_append_of_le_length ha.1]
      exact ⟨by rw [List.length_append]; omega, ha.2.1, ih _ _ (by rw [List.length_drop]; omega) ha.2.2 hb⟩
theorem fok_tail {x : Int} {s : Nat} {r : Fo} (h : Fok ((x, s) :: r)) : Fok r := by
  rw [fok_cons] at h
  have := fok_app _ (r.take s) (r.drop s) (Nat.le_refl _) h.2.1 h.2.2
  rw [List.take_append_drop] at this
  exact this
theorem ed_app : ∀ (n : Nat) (f1 g1 f2 g2 : Fo), f1.length + g1.length ≤ n → Fok f1 → Fok g1 → Ed (f1 ++ f2) (g1 ++ g2) ≤ Ed f1 g1 + Ed f2 g2 := by
  intro n
  induction n with
  | zero =>
    intro f1 g1 f2 g2 h _ _
    have h1 : f1 = [] := List.eq_nil_of_length_eq_zero (by omega)
    have h2 : g1 = [] := List.eq_nil_of_length_eq_zero (by omega)
    subst h1 h2
    simp
  | succ n ih =>
    intro f1 g1 f2 g2 h hf hg
    cases f1 with
    | nil =>
      cases g1 with
      | nil => simp
      | cons b q =>
        obtain ⟨y, t⟩ := b
        simp only [List.length_cons, List.length_nil] at h
        have h1 := ed_ins y t f2 (q ++ g2)
        have h2 := ih [] q f2 g2 (by simp only [List.length_nil]; omega) fok_nil (fok_tail hg)
        rw [ed_nl] at h2 ⊢
        simp only [List.nil_append, List.cons_append, List.length_cons] at h1 h2 ⊢
        omega
    | cons a r =>
      obtain ⟨x, s⟩ := a
      cases g1 with
      | nil =>
        simp only [List.length_cons, List.length_nil] at h
        have h1 := ed_del x s (r ++ f2) g2
        have h2 := ih r [] f2 g2 (by simp only [List.length_nil]; omega) (fok_tail hf) fok_nil
        rw [ed_nr] at h2 ⊢
        simp only [List.nil_append, List.cons_append, List.length_cons] at h1 h2 ⊢
        omega
      | cons b q =>
        obtain ⟨y, t⟩ := b
        simp only [List.length_cons] at h
        rcases ed_case x y s t r q with e | e | e
        · have h1 := ed_del x s (r ++ f2) ((y, t) :: (q ++ g2))
          have h2 := ih r ((y, t) :: q) f2 g2 (by simp only [List.length_cons]; omega) (fok_tail hf) hg
          simp only [List.cons_append] at h1 h2 ⊢
          omega
        · have h1 := ed_ins y t ((x, s) :: (r ++ f2)) (q ++ g2)
          have h2 := ih ((x, s) :: r) q f2 g2 (by simp only [List.length_cons]; omega) hf (fok_tail hg)
          simp only [List.cons_append] at h1 h2 ⊢
          omega
        · rw [fok_cons] at hf hg
          have h1 := ed_mat x y s t (r ++ f2) (q ++ g2)
          rw [List.take_append_of_le_length hf.1, List.drop_append_of_le_length hf.1, List.take_append_of_le_length hg.1, List.drop_append_of_le_length hg.1] at h1
          have h2 := ih (r.drop s) (q.drop t) f2 g2 (by simp only [List.length_drop]; omega) hf.2.2 hg.2.2
          simp only [List.cons_append] at h1 h2 ⊢
          omega
theorem ed_rdel : ∀ (n : Nat) (a g : Fo) (x : Int) (s : Nat) (c : Fo), a.length + g.length ≤ n → Fok a → c.length = s → Ed (a ++ (x, s) :: c) g ≤ 1 + Ed (a ++ c) g := by
  intro n
  induction n with
  | zero =>
    intro a g x s c h _ _
    have h1 : a = [] := List.eq_nil_of_length_eq_zero (by omega)
    subst h1
    exact ed_del x s c g
  | succ n ih =>
    intro a g x s c h ha hc
    cases a with
    | nil => exact ed_del x s c g
    | cons z w =>
      obtain ⟨z, r⟩ := z
      cases g with
      | nil =>
        rw [ed_nr, ed_nr]
        simp only [List.length_append, List.length_cons]
        omega
      | cons b q =>
        obtain ⟨y, t⟩ := b
        simp only [List.length_cons] at h
        simp only [List.cons_append]
        rcases ed_case z y r t (w ++ c) q with e | e | e
        · have h1 := ed_del z r (w ++ (x, s) :: c) ((y, t) :: q)
          have h2 := ih w ((y, t) :: q) x s c (by simp only [List.length_cons]; omega) (fok_tail ha) hc
          omega
        · have h1 := ed_ins y t ((z, r) :: (w ++ (x, s) :: c)) q
          have h2 := ih ((z, r) :: w) q x s c (by simp only [List.length_cons]; omega) ha hc
          simp only [List.cons_append] at h2
          omega
        · rw [fok_cons] at ha
          have h1 := ed_mat z y r t (w ++ (x, s) :: c) q
          rw [List.take_append_of_le_length ha.1, List.drop_append_of_le_length ha.1] at h1 e
          have h2 := ih (w.drop r) (q.drop t) x s c (by simp only [List.length_drop]; omega) ha.2.2 hc
          omega
theorem ed_rmat (x y : Int) (s t : Nat) (a b c e : Fo) (ha : Fok a) (hb : Fok b) (hc : c.length = s) (he : e.length = t) : Ed (a ++ (x, s) :: c) (b ++ (y, t) :: e) ≤ Ed a b + Ed c e + if x = y then 0 else 1 := by
  have h1 := ed_app _ a b ((x, s) :: c) ((y, t) :: e) (Nat.le_refl _) ha hb
  have h2 := ed_mat x y s t c e
  rw [List.take_of_length_le (by omega), List.take_of_length_le (by omega), List.drop_of_length_le (by omega), List.drop_of_length_le (by omega), ed_nl, List.length_nil] at h2
  omega
def mir (f : Fo) : Fo := match f with
  | [] => []
  | (x, s) :: r => mir (r.drop s) ++ (x, s) :: mir (r.take s)
termination_by f.length
decreasing_by
  · simp only [List.length_drop, List.length_cons]; omega
  · simp only [List.length_take, List.length_cons]; omega
theorem mir_nil : mir [] = [] := by rw [mir]
theorem mir_cons (x : Int) (s : Nat) (r : Fo) : mir ((x, s) :: r) = mir (r.drop s) ++ (x, s) :: mir (r.take s) := by rw [mir]
theorem mir_len : ∀ (n : Nat) (f : Fo), f.length ≤ n → (mir f).length = f.length := by
  intro n
  induction n with
  | zero =>
    intro f h
    have h1 : f = [] := List.eq_nil_of_length_eq_zero (by omega)
    subst h1
    rw [mir_nil]
  | succ n ih =>
    intro f h
    cases f with
    | nil => rw [mir_nil]
    | cons a r =>
      obtain ⟨x, s⟩ := a
      simp only [List.length_cons] at h
      rw [mir_cons, List.length_append, List.length_cons, ih _ (by rw [List.length_drop]; omega), ih _ (by rw [List.length_take]; omega), List.length_drop, List.length_take, List.length_cons]
      omega
theorem mir_l (f : Fo) : (mir f).length = f.length := mir_len _ f (Nat.le_refl _)
theorem mir_app : ∀ (n : Nat) (a b : Fo), a.length ≤ n → Fok a → mir (a ++ b) = mir b ++ mir a := by
  intro n
  induction n with
  | zero =>
    intro a b h _
    have h1 : a = [] := List.eq_nil_of_length_eq_zero (by omega)
    subst h1
    rw [mir_nil, List.append_nil, List.nil_append]
  | succ n ih =>
    intro a b h ha
    cases a with
    | nil => rw [mir_nil, List.append_nil, List.nil_append]
    | cons c r =>
      obtain ⟨x, s⟩ := c
      rw [fok_cons] at ha
      simp only [List.length_cons] at h
      rw [List.cons_append, mir_cons, mir_cons, List.take_append_of_le_length ha.1, List.drop_append_of_le_length ha.1, ih _ _ (by rw [List.length_drop]; omega) ha.2.2, List.append_assoc]
theorem fok_one {x : Int} {s : Nat} {c : Fo} (hc : c.length = s) (h : Fok c) : Fok ((x, s) :: c) := by
  rw [fok_cons, List.take_of_length_le (by omega), List.drop_of_length_le (by omega)]
  exact ⟨by omega, h, fok_nil⟩
theorem mir_one {x : Int} {s : Nat} {c : Fo} (hc : c.length = s) : mir ((x, s) :: c) = (x, s) :: mir c := by
  rw [mir_cons, List.take_of_length_le (by omega), List.drop_of_length_le (by omega), mir_nil, List.nil_append]
theorem fok_mir : ∀ (n : Nat) (f : Fo), f.length ≤ n → Fok f → Fok (mir f) ∧ mir (mir f) = f := by
  intro n
  induction n with
  | zero =>
    intro f h _
    have h1 : f = [] := List.eq_nil_of_length_eq_zero (by omega)
    subst h1
    rw [mir_nil, mir_nil]
    exact ⟨fok_nil, rfl⟩
  | succ n ih =>
    intro f h hf
    cases f with
    | nil => rw [mir_nil, mir_nil]; exact ⟨fok_nil, rfl⟩
    | cons a r =>
      obtain ⟨x, s⟩ := a
      rw [fok_cons] at hf
      simp only [List.length_cons] at h
      have h1 := ih (r.drop s) (by rw [List.length_drop]; omega) hf.2.2
      have h2 := ih (r.take s) (by rw [List.length_take]; omega) hf.2.1
      have hl : (mir (r.take s)).length = s := by rw [mir_l, List.length_take]; omega
      rw [mir_cons]
      refine ⟨fok_app _ _ _ (Nat.le_refl _) h1.1 (fok_one hl h2.1), ?_⟩
      rw [mir_app _ _ _ (Nat.le_refl _) h1.1, mir_one hl, h1.2, h2.2, List.cons_append, List.take_append_drop]
/-- a forest that isn't empty has a last tree -/
theorem fok_last : ∀ (n : Nat) (f : Fo), f.length ≤ n → Fok f → f ≠ [] → ∃ (a c : Fo) (x : Int) (s : Nat), f = a ++ (x, s) :: c ∧ Fok a ∧ Fok c ∧ c.length = s := by
  intro n
  induction n with
  | zero =>
    intro f h _ h0
    exact absurd (List.eq_nil_of_length_eq_zero (by omega)) h0
  | succ n ih =>
    intro f h hf h0
    cases f with
    | nil => exact absurd rfl h0
    | cons b r =>
      obtain ⟨z, k⟩ := b
      have hf0 := hf
      rw [fok_cons] at hf
      simp only [List.length_cons] at h
      by_cases e : r.drop k = []
      · have hl : r.length = k := by
          have := congrArg List.length e
          rw [List.length_drop, List.length_nil] at this
          omega
        refine ⟨[], r, z, k, rfl, fok_nil, fok_tail hf0, hl⟩
      · obtain ⟨a, c, x, s, h1, h2, h3, h4⟩ := ih (r.drop k) (by rw [List.length_drop]; omega) hf.2.2 e
        refine ⟨(z, k) :: r.take k ++ a, c, x, s, ?_, ?_, h3, h4⟩
        · rw [List.append_assoc, ← h1, List.cons_append, List.take_append_drop]
        · exact fok_app _ _ _ (Nat.le_refl _) (fok_one (by rw [List.length_take]; omega) hf.2.1) h2
theorem ed_mir_le : ∀ (n : Nat) (f g : Fo), f.length + g.length ≤ n → Fok f → Fok g → Ed f g ≤ Ed (mir f) (mir g) := by
  intro n
  induction n with
  | zero =>
    intro f g h _ _
    have h1 : f = [] := List.eq_nil_of_length_eq_zero (by omega)
    have h2 : g = [] := List.eq_nil_of_length_eq_zero (by omega)
    subst h1 h2
    rw [mir_nil]
    exact Nat.le_refl _
  | succ n ih =>
    intro f g h hf hg
    by_cases e1 : f = []
    · subst e1
      rw [mir_nil, ed_nl, ed_nl, mir_l]
      exact Nat.le_refl _
    by_cases e2 : g = []
    · subst e2
      rw [mir_nil, ed_nr, ed_nr, mir_l]
      exact Nat.le_refl _
    obtain ⟨a, c, x, s, h1, h2, h3, h4⟩ := fok_last _ f (Nat.le_refl _) hf e1
    obtain ⟨b, e, y, t, g1, g2, g3, g4⟩ := fok_last _ g (Nat.le_refl _) hg e2
    have m1 : mir f = (x, s) :: (mir c ++ mir a) := by rw [h1, mir_app _ _ _ (Nat.le_refl _) h2, mir_one h4, List.cons_append]
    have m2 : mir g = (y, t) :: (mir e ++ mir b) := by rw [g1, mir_app _ _ _ (Nat.le_refl _) g2, mir_one g4, List.cons_append]
    have l1 : f.length = a.length + c.length + 1 := by rw [h1, List.length_append, List.length_cons]; omega
    have l2 : g.length = b.length + e.length + 1 := by rw [g1, List.length_append, List.length_cons]; omega
    have hac : Fok (a ++ c) := fok_app _ _ _ (Nat.le_refl _) h2 h3
    have hbe : Fok (b ++ e) := fok_app _ _ _ (Nat.le_refl _) g2 g3
    have mac : mir (a ++ c) = mir c ++ mir a := mir_app _ _ _ (Nat.le_refl _) h2
    have mbe : mir (b ++ e) = mir e ++ mir b := mir_app _ _ _ (Nat.le_refl _) g2
    have k := ed_case x y s t (mir c ++ mir a) (mir e ++ mir b)
    rw [← m1, ← m2] at k
    rcases k with k | k | k
    · have k1 := ih (a ++ c) g (by rw [List.length_append]; omega) hac hg
      have k2 := ed_rdel _ a g x s c (Nat.le_refl _) h2 h4
      rw [← h1] at k2
      rw [mac] at k1
      omega
    · have k1 := ih f (b ++ e) (by rw [List.length_append]; omega) hf hbe
      have k2 := ed_rdel _ b f y t e (Nat.le_refl _) g2 g4
      rw [← g1, ed_c g f, ed_c (b ++ e) f] at k2
      rw [mbe] at k1
      omega
    · have e3 : (mir c).length = s := by rw [mir_l, h4]
      have e4 : (mir e).length = t := by rw [mir_l, g4]
      rw [List.take_append_of_le_length (by omega), List.take_of_length_le (by omega), List.take_append_of_le_length (by omega), List.take_of_length_le (by omega), List.drop_append_of_le_length (by omega), List.drop_of_length_le (by omega), List.drop_append_of_le_length (by omega), List.drop_of_length_le (by omega), List.nil_append, List.nil_append] at k
      have k1 := ih c e (by omega) h3 g3
      have k2 := ih a b (by omega) h2 g2
      have k3 := ed_rmat x y s t a b c e h2 g2 h4 g4
      rw [← h1, ← g1] at k3
      omega
/-- from the left or from the right: the same least cost -/
theorem ed_mir (f g : Fo) (hf : Fok f) (hg : Fok g) : Ed (mir f) (mir g) = Ed f g := by
  have h1 := fok_mir _ f (Nat.le_refl _) hf
  have h2 := fok_mir _ g (Nat.le_refl _) hg
  have k1 := ed_mir_le _ f g (Nat.le_refl _) hf hg
  have k2 := ed_mir_le _ (mir f) (mir g) (Nat.le_refl _) h1.1 h2.1
  rw [h1.2, h2.2] at k2
  omega
end
