section
/-! the tree of the least price, as a word -/
/-- the first form that has a span's price -/
def FsF (nf : Int) (sf n C : Int → Int) (ft : Int → Int → Bool) (Q : Int → Int → Int → Int) (s a b f : Int) : Prop := (0 ≤ f ∧ f < nf) ∧ sf f = s ∧ rF 1000000 Q ft C n b f 0 a = Q s a b ∧ ∀ f', 0 ≤ f' → f' < f → sf f' = s → ¬ rF 1000000 Q ft C n b f' 0 a = Q s a b
/-- the first cut behind item m -/
def FsC (n C : Int → Int) (ft : Int → Int → Bool) (Q : Int → Int → Int → Int) (b f m p q : Int) : Prop := (p ≤ q ∧ q ≤ b) ∧ itP Q ft (C (5 * f + m)) p q + rF 1000000 Q ft C n b f (m + 1) q = rF 1000000 Q ft C n b f m p ∧ ∀ x, p ≤ x → x < q → ¬ itP Q ft (C (5 * f + m)) p x + rF 1000000 Q ft C n b f (m + 1) x = rF 1000000 Q ft C n b f m p
/-- the first cell that fits, or the item -/
def ftc (ft : Int → Int → Bool) (X : Int → Int) (N it p q : Int) : Int := if fsN ft it p (N - p).toNat < q then X (fsN ft it p (N - p).toNat) else it
def GW (nf : Int) (sf n C : Int → Int) (ft : Int → Int → Bool) (Q : Int → Int → Int → Int) (X : Int → Int) (N : Int) : Nat → Int → Int → Int → List Int → Prop
  | 0, _, _, _, _ => False
  | k + 1, s, a, b, w => ∃ f, FsF nf sf n C ft Q s a b f ∧ ∃ (c : Nat → Int) (u : Nat → List Int), c 0 = a ∧ (∀ m : Nat, (m : Int) < n f → FsC n C ft Q b f m (c m) (c (m + 1))) ∧ w = (1000 + f) :: cat u (n f).toNat ∧ ∀ m : Nat, (m : Int) < n f → (C (5 * f + m) ≤ 11 → u m = []) ∧ (11 < C (5 * f + m) → C (5 * f + m) < 60 → u m = [ftc ft X N (C (5 * f + m)) (c m) (c (m + 1))]) ∧ (60 ≤ C (5 * f + m) → GW nf sf n C ft Q X N k (C (5 * f + m) - 60) (c m) (c (m + 1)) (u m))
theorem first_q (F : Int → Prop) {p b : Int} (h : ∃ q, p ≤ q ∧ q ≤ b ∧ F q) : ∃ q, (p ≤ q ∧ q ≤ b) ∧ F q ∧ ∀ x, p ≤ x → x < q → ¬ F x := by
  obtain ⟨q, q1, q2, q3⟩ := h
  rcases least_fail (fun k => ¬ F (p + k)) ((q - p).toNat + 1) with h | ⟨j, j1, j2, j3⟩
  · refine absurd ?_ (h (q - p).toNat (by omega))
    rw [show p + (((q - p).toNat : Nat) : Int) = q by omega]
    exact q3
  · refine ⟨p + j, by omega, Classical.byContradiction j2, fun x x0 x1 => ?_⟩
    have := j3 (x - p).toNat (by omega)
    rw [show p + (((x - p).toNat : Nat) : Int) = x by omega] at this
    exact this
/-- the cuts of a form on a span -/
theorem cuts_ex {nf N : Int} {sf n C : Int → Int} {ft : Int → Int → Bool} {Q : Int → Int → Int → Int} (hF : FO5 nf sf (fun ff => il (gC C ff) 0 (n ff - 0).toNat)) (hQ : QOK nf sf (fun ff => il (gC C ff) 0 (n ff - 0).toNat) ft N Q) {f a b : Int} (f0 : 0 ≤ f) (f1 : f < nf) (n1 : 1 ≤ n f) (a0 : 0 ≤ a) (ab : a ≤ b) (bn : b ≤ N) (hf : rF 1000000 Q ft C n b f 0 a < 1000000) :
    ∃ c : Nat → Int, c 0 = a ∧ (∀ m : Nat, (m : Int) < n f → FsC n C ft Q b f m (c m) (c (m + 1))) ∧ ∀ m : Nat, (m : Int) < n f → (a ≤ c m ∧ c m ≤ c (m + 1) ∧ c (m + 1) ≤ b) ∧ itP Q ft (C (5 * f + m)) (c m) (c (m + 1)) ≤ rF 1000000 Q ft C n b f 0 a ∧ (60 ≤ C (5 * f + m) → c m = a → c (m + 1) = b → Q (C (5 * f + m) - 60) a b < rF 1000000 Q ft C n b f 0 a ∨ (Q (C (5 * f + m) - 60) a b = rF 1000000 Q ft C n b f 0 a ∧ sf f < C (5 * f + m) - 60)) := by
  obtain ⟨V, hV⟩ : ∃ V, V = rF 1000000 Q ft C n b f 0 a := ⟨_, rfl⟩
  rw [← hV] at hf
  have nn : ∀ m q, a ≤ q → 0 ≤ rF 1000000 Q ft C n b f m q := fun m q q0 => rF_nn (by omega) fun s x y q1 q2 q3 => (Q_nn hQ s (by omega) q2 (by omega)).1
  have inn : ∀ it p q, a ≤ p → p ≤ q → q ≤ b → 0 ≤ itP Q ft it p q ∧ (p = q → 1 ≤ itP Q ft it p q) := fun it p q q1 q2 q3 => by
    by_cases h : 60 ≤ it
    · rw [itP_sort h]
      have := Q_nn hQ (it - 60) (show 0 ≤ p by omega) q2 (by omega)
      exact ⟨this.1, this.2.2⟩
    · have := itP_leaf_b (P := Q) (ft := ft) (p := p) (q := q) h q2
      exact ⟨this.1, fun e => by have := this.2.2 e; omega⟩
  obtain ⟨c, c0, cP, cS⟩ := seq_ex (fun (m : Nat) (x : Int) => (a ≤ x ∧ x ≤ b) ∧ rF 1000000 Q ft C n b f m x ≤ V ∧ (1 ≤ m → x = a → rF 1000000 Q ft C n b f m x ≤ V - 1)) (fun (m : Nat) (x y : Int) => FsC n C ft Q b f m x y) a (n f).toNat ⟨⟨Int.le_refl _, ab⟩, by show rF 1000000 Q ft C n b f ((0 : Nat) : Int) a ≤ V; rw [hV]; exact Int.le_refl _, fun h => absurd h (by omega)⟩ (fun m hm x ⟨x1, x2, x3⟩ => by
    have lt : rF 1000000 Q ft C n b f m x < 1000000 := by omega
    have e := rF_s (I := 1000000) (P := Q) (ft := ft) (C := C) (n := n) (j := b) (f := f) (k := m) (q := x) (show (m : Int) < n f by omega)
    have ex : ∃ q, x ≤ q ∧ q ≤ b ∧ itP Q ft (C (5 * f + m)) x q + rF 1000000 Q ft C n b f (m + 1) q = rF 1000000 Q ft C n b f m x := by
      rw [e] at lt
      obtain ⟨k, hk, h⟩ := minN_ex lt
      exact ⟨x + k, by omega, by omega, by rw [e, h]⟩
    obtain ⟨q, q1, q2, q3⟩ := first_q (fun q => itP Q ft (C (5 * f + m)) x q + rF 1000000 Q ft C n b f (m + 1) q = rF 1000000 Q ft C n b f m x) ex
    have i1 := inn (C (5 * f + m)) x q x1.1 q1.1 q1.2
    have em : (((m + 1 : Nat)) : Int) = (m : Int) + 1 := by omega
    refine ⟨q, ⟨⟨by omega, q1.2⟩, ?_, fun _ ea => ?_⟩, q1, q2, q3⟩
    · show rF 1000000 Q ft C n b f ((m + 1 : Nat) : Int) q ≤ V
      rw [em]
      omega
    · show rF 1000000 Q ft C n b f ((m + 1 : Nat) : Int) q ≤ V - 1
      rw [em]
      have := i1.2 (by omega)
      omega)
  refine ⟨c, c0, fun m hm => cS m (by omega), fun m hm => ?_⟩
  obtain ⟨x1, x2, x3⟩ := cP m (by omega)
  obtain ⟨y1, y2, y3⟩ := cP (m + 1) (by omega)
  obtain ⟨s1, s2, s3⟩ := cS m (by omega)
  have r0 := nn (m + 1) (c (m + 1)) y1.1
  have i0 := (inn (C (5 * f + m)) (c m) (c (m + 1)) x1.1 s1.1 s1.2).1
  rw [← hV]
  refine ⟨⟨x1.1, s1.1, s1.2⟩, by omega, fun h60 ea eb => ?_⟩
  rw [ea, eb, itP_sort h60] at s2
  rw [ea] at x2 x3
  by_cases l : (m : Int) + 1 < n f
  · have p1 : 1 ≤ rF 1000000 Q ft C n b f (m + 1) b := by
      unfold rF
      refine rP_pos ?_ (by omega) fun s => (Q_nn hQ s (show 0 ≤ b by omega) (Int.le_refl _) bn).2.2 rfl
      rw [il_c l]
      exact List.cons_ne_nil _ _
    exact Or.inl (by omega)
  · have z : rF 1000000 Q ft C n b f (m + 1) b = 0 := by
      rw [rF_end (by omega), if_pos rfl]
    by_cases m0 : m = 0
    · subst m0
      refine Or.inr ⟨?_, ?_⟩
      · have e0 : rF 1000000 Q ft C n b f ((0 : Nat) : Int) a = V := hV.symm
        omega
      · have one : n f = 1 := by omega
        have e : il (gC C f) 0 (n f - 0).toNat = [C (5 * f + ((0 : Nat) : Int))] := by
          rw [il_c (by omega), il_e (by omega)]
          rfl
        exact (hF.1 f f0 f1).2.2 _ e h60
    · have := x3 (by omega) rfl
      exact Or.inl (by omega)
theorem GW_ex {nf N : Int} {sf n C X : Int → Int} {ft : Int → Int → Bool} {Q : Int → Int → Int → Int} (hF : FO5 nf sf (fun ff => il (gC C ff) 0 (n ff - 0).toNat)) (hQ : QOK nf sf (fun ff => il (gC C ff) 0 (n ff - 0).toNat) ft N Q) (n1 : ∀ f, 0 ≤ f → f < nf → 1 ≤ n f) : ∀ (K : Nat) (s a b : Int), 0 ≤ s → s ≤ 5 → 0 ≤ a → a ≤ b → b ≤ N → (b - a) * 7 + cn (fun x => Q x a b) s ≤ K → Q s a b < 1000000 → ∃ w, GW nf sf n C ft Q X N K s a b w := by
  intro K
  induction K with
  | zero =>
    intro s a b s0 s1 a0 ab bn hk _
    have := cnn_1 (Z := fun x => Q x a b) s0 s1
    omega
  | succ K ih =>
    intro s a b s0 s1 a0 ab bn hk hf
    obtain ⟨_, _, _, h4⟩ := hQ.2 s a b s0 s1 a0 ab bn
    have ex : ∃ f, (0 ≤ f ∧ f ≤ nf - 1) ∧ (sf f = s ∧ rF 1000000 Q ft C n b f 0 a = Q s a b) ∧ ∀ x, 0 ≤ x → x < f → ¬ (sf x = s ∧ rF 1000000 Q ft C n b x 0 a = Q s a b) := by
      obtain ⟨f, f0, f1, fs, fe⟩ := h4 hf
      exact first_q (fun f => sf f = s ∧ rF 1000000 Q ft C n b f 0 a = Q s a b) ⟨f, f0, by omega, fs, fe.symm⟩
    obtain ⟨f, f01, ⟨fs, fe⟩, ff⟩ := ex
    obtain ⟨c, c0, c1, c2⟩ := cuts_ex hF hQ (f := f) (a := a) (b := b) f01.1 (by omega) (n1 f f01.1 (by omega)) a0 ab bn (by rw [fe]; exact hf)
    rw [fe] at c2
    have all : ∀ m : Nat, ∃ u : List Int, (m : Int) < n f → (C (5 * f + m) ≤ 11 → u = []) ∧ (11 < C (5 * f + m) → C (5 * f + m) < 60 → u = [ftc ft X N (C (5 * f + m)) (c m) (c (m + 1))]) ∧ (60 ≤ C (5 * f + m) → GW nf sf n C ft Q X N K (C (5 * f + m) - 60) (c m) (c (m + 1)) u) := fun m => by
      by_cases hm : (m : Int) < n f
      · by_cases h1 : C (5 * f + m) ≤ 11
        · exact ⟨[], fun _ => ⟨fun _ => rfl, fun z => absurd z (by omega), fun z => absurd z (by omega)⟩⟩
        · by_cases h2 : C (5 * f + m) < 60
          · exact ⟨_, fun _ => ⟨fun z => absurd z h1, fun _ _ => rfl, fun z => absurd z (by omega)⟩⟩
          · obtain ⟨d1, d2, d3⟩ := c2 m hm
            have im : C (5 * f + m) ∈ il (gC C f) 0 (n f - 0).toNat := by
              have := il_has (g := gC C f) (m := (n f - 0).toNat) (k := 0) (x := m) (by omega) (by omega)
              exact this
            have i5 := (hF.1 f f01.1 (by omega)).2.1 _ im
            rw [itP_sort (by omega)] at d2
            obtain ⟨u, hu⟩ := ih (C (5 * f + m) - 60) (c m) (c (m + 1)) (by omega) (by omega) (by omega) d1.2.1 (by omega) (by
              by_cases e : c m = a ∧ c (m + 1) = b
              · have c3 := cn_lt (Z := fun x => Q x a b) s0 s1 (s' := C (5 * f + m) - 60) (by
                  show Q (C (5 * f + m) - 60) a b < Q s a b ∨ (Q (C (5 * f + m) - 60) a b = Q s a b ∧ s < C (5 * f + m) - 60)
                  rcases d3 (by omega) e.1 e.2 with z | z
                  · exact Or.inl z
                  · exact Or.inr ⟨z.1, by omega⟩)
                rw [e.1, e.2]
                omega
              · have := cn_b (fun x => Q x (c m) (c (m + 1))) (C (5 * f + m) - 60)
                have := cnn_1 (Z := fun x => Q x a b) s0 s1
                omega) (by omega)
            exact ⟨u, fun _ => ⟨fun z => absurd z h1, fun _ z => absurd z h2, fun _ => hu⟩⟩
      · exact ⟨[], fun z => absurd z hm⟩
    exact ⟨_, f, ⟨⟨f01.1, by omega⟩, fs, fe, fun f' q0 q1 q2 q3 => ff f' q0 q1 ⟨q2, q3⟩⟩, c, fun m => Classical.choose (all m), c0, c1, rfl, fun m hm => Classical.choose_spec (all m) hm⟩
/-- words of items and words of slots -/
theorem cat_nsl {g : Int → Int} {u : Nat → List Int} : ∀ m : Nat, (∀ k : Nat, k < m → (0 ≤ g k ∧ g k ≤ 11) → u k = []) → ∃ u' : Nat → List Int, (∀ k : Nat, k ≤ m → cat u k = cat u' (nsl g k).toNat) ∧ ∀ k : Nat, k < m → ¬ (0 ≤ g k ∧ g k ≤ 11) → u' (nsl g k).toNat = u k := by
  intro m
  induction m with
  | zero => intro _; exact ⟨fun _ => [], fun k hk => by rw [show k = 0 by omega]; rfl, fun k hk => absurd hk (by omega)⟩
  | succ m ih =>
    intro h
    obtain ⟨u', h1, h2⟩ := ih (fun k hk => h k (by omega))
    have nb' := nsl_b g m
    by_cases c : 0 ≤ g m ∧ g m ≤ 11
    · refine ⟨u', fun k hk => ?_, fun k hk hg => ?_⟩
      · by_cases e : k = m + 1
        · rw [e, cat_s, h m (by omega) c, List.append_nil, nsl_w _ c]
          exact h1 m (Nat.le_refl _)
        · exact h1 k (by omega)
      · by_cases e : k = m
        · rw [e] at hg
          exact absurd c hg
        · exact h2 k (by omega) hg
    · have key : ∀ k : Nat, k ≤ m → (nsl g k).toNat ≤ (nsl g m).toNat := fun k hk => by
        have := nsl_mono g hk
        omega
      refine ⟨fun i => if i = (nsl g m).toNat then u m else u' i, fun k hk => ?_, fun k hk hg => ?_⟩
      · have old : ∀ k : Nat, k ≤ m → cat (fun i => if i = (nsl g m).toNat then u m else u' i) (nsl g k).toNat = cat u' (nsl g k).toNat := fun k hk => cat_cong fun i hi => if_neg (by have := key k hk; omega)
        by_cases e : k = m + 1
        · rw [e, cat_s, nsl_n _ c, show (nsl g m + 1).toNat = (nsl g m).toNat + 1 by omega, cat_s, old m (Nat.le_refl _), ← h1 m (Nat.le_refl _)]
          show cat u m ++ u m = cat u m ++ (if (nsl g m).toNat = (nsl g m).toNat then u m else u' _)
          rw [if_pos rfl]
        · rw [old k (by omega)]
          exact h1 k (by omega)
      · by_cases e : k = m
        · rw [e]
          exact if_pos rfl
        · show (if (nsl g k).toNat = (nsl g m).toNat then u m else u' (nsl g k).toNat) = u k
          have l := nsl_mono g (show k + 1 ≤ m by omega)
          rw [nsl_n _ hg] at l
          have := nsl_b g k
          rw [if_neg (by omega)]
          exact h2 k (by omega) hg
/-- a cell that fits is one that its item asks for -/
theorem ftc_ok {X : Int → Int} {N it p q : Int} {ft : Int → Int → Bool} (hft : ∀ it x, 0 ≤ x → x < N → ft it x = sutB it (X x)) (p0 : 0 ≤ p) (pq' : p ≤ q) (q1 : q ≤ N) (n16 : N ≤ 16) (hi : it = 20 ∨ it = 40) : okc 0 it (ftc ft X N it p q) ∧ 20 ≤ ftc ft X N it p q ∧ ftc ft X N it p q < 1000 := by
  unfold ftc
  by_cases c : fsN ft it p (N - p).toNat < q
  · rw [if_pos c]
    have fit : ∀ (m : Nat) (p : Int), p + m ≤ 16 → fsN ft it p m < p + m → ft it (fsN ft it p m) = true := by
      intro m
      induction m with
      | zero =>
        intro p h z
        have z : (16 : Int) < p + ((0 : Nat) : Int) := z
        omega
      | succ m ih =>
        intro p h z
        rw [fsN_s] at z ⊢
        by_cases d : ft it p = true
        · rw [if_pos d]
          exact d
        · rw [if_neg d] at z ⊢
          exact ih (p + 1) (by omega) (by omega)
    have b := fsN_b (ft := ft) (it := it) (m := (N - p).toNat) (p := p) (by omega)
    have h := fit (N - p).toNat p (by omega) (by omega)
    rw [hft it _ (by omega) (by omega)] at h
    unfold sutB at h
    unfold okc
    rcases hi with e | e
    · subst e
      rw [if_pos rfl] at h
      have := of_decide_eq_true h
      omega
    · subst e
      rw [if_neg (by omega), if_pos rfl] at h
      have := of_decide_eq_true h
      omega
  · rw [if_neg c]
    unfold okc
    omega
theorem GW_pw {nf N : Int} {sf n C X : Int → Int} {ft : Int → Int → Bool} {Q : Int → Int → Int → Int} {ns I : Int → Int} (hft : ∀ it x, 0 ≤ x → x < N → ft it x = sutB it (X x)) (n16 : N ≤ 16) (hC : ∀ f m, 0 ≤ f → f < nf → 0 ≤ m → m < n f → itR (C (5 * f + m))) (hS : ∀ f, 0 ≤ f → f < nf → Fsl n C ns I f) (n1 : ∀ f, 0 ≤ f → f < nf → 1 ≤ n f) : ∀ (k : Nat) (s a b : Int) (w : List Int), 0 ≤ a → a ≤ b → b ≤ N → GW nf sf n C ft Q X N k s a b w → 0 ≤ s → PW 0 nf ns I (k + 1) (60 + s) w := by
  intro k
  induction k with
  | zero => intro s a b w _ _ _ h; exact h.elim
  | succ k ih =>
    intro s a b w a0 ab bn h s0
    obtain ⟨f, ⟨⟨f0, f1⟩, _⟩, c, u, c0, c1, hw, hu⟩ := h
    obtain ⟨u', h1, h2⟩ := cat_nsl (g := fun m => C (5 * f + m)) (u := u) (n f).toNat (fun m hm z => (hu m (by omega)).1 z.2)
    have e1 : (1000 + f) - 1000 = f := by omega
    have nf1 := n1 f f0 f1
    obtain ⟨z1, z2⟩ := hS f f0 f1
    have mono : ∀ m : Nat, (m : Int) ≤ n f → a ≤ c m ∧ c m ≤ b := by
      intro m
      induction m with
      | zero => intro _; rw [c0]; exact ⟨Int.le_refl _, ab⟩
      | succ m ihm =>
        intro hm
        have := ihm (by omega)
        have := (c1 m (by omega)).1
        omega
    refine ⟨1000 + f, by unfold okc; omega, Or.inr ⟨by omega, by omega, u', ?_, fun i hi => ?_⟩⟩
    · rw [hw, e1, z1, h1 (n f).toNat (Nat.le_refl _)]
    · rw [e1] at hi ⊢
      rw [z1] at hi
      obtain ⟨m, m1, m2, m3⟩ := nsl_ex (fun m => C (5 * f + m)) (show (0 : Int) ≤ i by omega) hi
      have m3 : ¬ (0 ≤ C (5 * f + m) ∧ C (5 * f + m) ≤ 11) := m3
      have hm : (m : Int) < n f := by omega
      have ir := hC f m f0 f1 (by omega) hm
      have I1 := z2 m (by omega) hm m3
      have e2 := h2 m m1 m3
      rw [Int.toNat_natCast, m2] at I1
      rw [m2, Int.toNat_natCast] at e2
      rw [I1, e2]
      obtain ⟨y1, y2, y3⟩ := hu m hm
      have ca := mono m (by omega)
      have cb := (c1 m hm).1
      unfold itR at ir
      by_cases h60 : 60 ≤ C (5 * f + m)
      · have := ih (C (5 * f + m) - 60) (c m) (c (m + 1)) (u m) (by omega) cb.1 (by omega) (y3 h60) (by omega)
        rw [show 60 + (C (5 * f + m) - 60) = C (5 * f + m) by omega] at this
        exact this
      · rw [y2 (by omega) (by omega)]
        obtain ⟨o1, o2, o3⟩ := ftc_ok (X := X) (N := N) (it := C (5 * f + m)) (p := c m) (q := c (m + 1)) hft (by omega) cb.1 (by omega) n16 (by omega)
        exact ⟨_, o1, Or.inl ⟨by omega, o2, rfl⟩⟩
end
