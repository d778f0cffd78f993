section
/-! one table of prices; the sorts that end -/
theorem Q_le {nf n : Int} {sf : Int → Int} {fi : Int → List Int} {ft : Int → Int → Bool} {Q Q' : Int → Int → Int → Int} (hF : FO5 nf sf fi) (hQ : QOK nf sf fi ft n Q) (hQ' : QOK nf sf fi ft n Q') {a b : Int} (a0 : 0 ≤ a) (ab : a ≤ b) (bn : b ≤ n) (hs : ∀ s x y, a ≤ x → x ≤ y → y ≤ b → ¬ (x = a ∧ y = b) → Q' s x y ≤ Q s x y) : ∀ (k : Nat) (s : Int), 0 ≤ s → s ≤ 5 → cn (fun x => Q x a b) s ≤ k → Q' s a b ≤ Q s a b := by
  intro k
  induction k with
  | zero =>
    intro s s0 s1 hk
    have := cnn_1 (Z := fun x => Q x a b) s0 s1
    omega
  | succ k ih =>
    intro s s0 s1 hk
    obtain ⟨h1, _, _, h4⟩ := hQ.2 s a b s0 s1 a0 ab bn
    obtain ⟨g1, _, g3, _⟩ := hQ'.2 s a b s0 s1 a0 ab bn
    by_cases c : Q s a b < 1000000
    · obtain ⟨f, f0, f1, fs, fe⟩ := h4 c
      have d := dec_top hF hQ f0 f1 a0 ab bn fe.symm c
      have u := g3 f f0 f1 fs
      have := Dec_ub (I := 1000000) (X := Q') (fun it x y ⟨w1, w2, w3, w4, w5, w6⟩ => itP_mono fun hi => by
        have i5 := (hF.1 f f0 f1).2.1 it w1
        by_cases e : x = a ∧ y = b
        · rcases w6 hi with z | z
          · exact absurd e z
          · have c2 := cn_lt (Z := fun x => Q x a b) s0 s1 (s' := it - 60) (by
              show Q (it - 60) a b < Q s a b ∨ (Q (it - 60) a b = Q s a b ∧ s < it - 60)
              omega)
            rw [e.1, e.2]
            exact ih _ (by omega) (by omega) (by omega)
        · exact hs _ x y w2 w3 w4 e) d
      omega
    · omega
theorem Q_uniq {nf n : Int} {sf : Int → Int} {fi : Int → List Int} {ft : Int → Int → Bool} {Q Q' : Int → Int → Int → Int} (hF : FO5 nf sf fi) (hQ : QOK nf sf fi ft n Q) (hQ' : QOK nf sf fi ft n Q') : ∀ (d : Nat) (a b : Int), 0 ≤ a → a ≤ b → b ≤ n → b - a ≤ d → ∀ s, Q' s a b = Q s a b := by
  intro d
  induction d with
  | zero =>
    intro a b a0 ab bn hd s
    by_cases c : 0 ≤ s ∧ s ≤ 5
    · exact Int.le_antisymm (Q_le hF hQ hQ' a0 ab bn (fun s x y q1 q2 q3 q4 => absurd q4 (by omega)) 6 s c.1 c.2 (cn_b _ _).2) (Q_le hF hQ' hQ a0 ab bn (fun s x y q1 q2 q3 q4 => absurd q4 (by omega)) 6 s c.1 c.2 (cn_b _ _).2)
    · rw [hQ.1 s a b c, hQ'.1 s a b c]
  | succ d ih =>
    intro a b a0 ab bn hd s
    by_cases c : 0 ≤ s ∧ s ≤ 5
    · exact Int.le_antisymm (Q_le hF hQ hQ' a0 ab bn (fun s x y q1 q2 q3 q4 => Int.le_of_eq (ih x y (by omega) q2 (by omega) (by omega) s)) 6 s c.1 c.2 (cn_b _ _).2) (Q_le hF hQ' hQ a0 ab bn (fun s x y q1 q2 q3 q4 => Int.le_of_eq (ih x y (by omega) q2 (by omega) (by omega) s).symm) 6 s c.1 c.2 (cn_b _ _).2)
    · rw [hQ.1 s a b c, hQ'.1 s a b c]
theorem anF_ft {ft ft' : Int → Int → Bool} {it p : Int} : ∀ {m : Nat}, (∀ k : Nat, k < m → ft it (p + k) = ft' it (p + k)) → anF ft it p m = anF ft' it p m := by
  intro m
  induction m with
  | zero => intro _; rfl
  | succ m ih =>
    intro h
    rw [anF, anF, ih (fun k hk => h k (by omega)), h m (by omega)]
theorem itP_ft {P : Int → Int → Int → Int} {ft ft' : Int → Int → Bool} {it p q : Int} (h : ∀ x, p ≤ x → x < q → ft it x = ft' it x) : itP P ft it p q = itP P ft' it p q := by
  unfold itP
  rw [anF_ft (ft := ft) (ft' := ft') fun k hk => h (p + k) (by omega) (by omega)]
theorem rP_ft {I : Int} {P : Int → Int → Int → Int} {ft ft' : Int → Int → Bool} {to : Int} : ∀ {l : List Int} {p : Int}, (∀ it x, p ≤ x → x < to → ft it x = ft' it x) → rP I P ft to l p = rP I P ft' to l p := by
  intro l
  induction l with
  | nil => intro p _; rfl
  | cons it r ih =>
    intro p h
    rw [rP, rP]
    refine minN_congr fun k hk => ?_
    rw [ih (p := p + k) (fun it x q1 q2 => h it x (by omega) q2), itP_ft (ft := ft) (ft' := ft') fun x q1 q2 => h it x q1 (by omega)]
theorem QOK_ft {nf n : Int} {sf : Int → Int} {fi : Int → List Int} {ft ft' : Int → Int → Bool} {Q : Int → Int → Int → Int} (h : ∀ it x, 0 ≤ x → x < n → ft it x = ft' it x) (q : QOK nf sf fi ft n Q) : QOK nf sf fi ft' n Q := ⟨q.1, fun s a b s0 s1 a0 ab bn => by
  obtain ⟨h1, h2, h3, h4⟩ := q.2 s a b s0 s1 a0 ab bn
  have e : ∀ f, rP 1000000 Q ft b (fi f) a = rP 1000000 Q ft' b (fi f) a := fun f => rP_ft fun it x q1 q2 => h it x (by omega) (by omega)
  exact ⟨h1, h2, fun f f0 f1 fs => by rw [← e]; exact h3 f f0 f1 fs, fun z => by
    obtain ⟨f, f0, f1, fs, fe⟩ := h4 z
    exact ⟨f, f0, f1, fs, by rw [← e]; exact fe⟩⟩⟩
theorem il_has {g : Int → Int} : ∀ {m : Nat} {k x : Int}, k ≤ x → x < k + m → g x ∈ il g k m := by
  intro m
  induction m with
  | zero => intro k x h1 h2; omega
  | succ m ih =>
    intro k x h1 h2
    by_cases e : x = k
    · rw [e]
      exact List.mem_cons_self
    · exact List.mem_cons_of_mem _ (ih (k := k + 1) (by omega) (by omega))
-- the sorts that end
theorem neN_tb {c : Int → Int} {j : Nat} : ∀ {m : Nat}, (neN c m).testBit j = true ↔ ∃ k : Nat, k < m ∧ 60 ≤ c k ∧ (c k - 60).toNat = j := by
  intro m
  induction m with
  | zero => exact ⟨fun h => absurd h (by show ¬ (0 : Nat).testBit j = true; rw [Nat.zero_testBit]; exact Bool.false_ne_true), fun ⟨k, hk, _⟩ => absurd hk (by omega)⟩
  | succ m ih =>
    rw [neN_s, Nat.testBit_or, Bool.or_eq_true, ih]
    constructor
    · rintro (⟨k, hk, h⟩ | h)
      · exact ⟨k, by omega, h⟩
      · by_cases c60 : 60 ≤ c m
        · rw [if_pos c60, Nat.testBit_two_pow] at h
          exact ⟨m, by omega, c60, of_decide_eq_true h⟩
        · rw [if_neg c60, Nat.zero_testBit] at h
          exact absurd h Bool.false_ne_true
    · rintro ⟨k, hk, h1, h2⟩
      by_cases e : k = m
      · subst e
        refine Or.inr ?_
        rw [if_pos h1, Nat.testBit_two_pow]
        exact decide_eq_true h2
      · exact Or.inl ⟨k, by omega, h1, h2⟩
theorem sub_tb {a b : Nat} (h : ∀ j, a.testBit j = true → b.testBit j = true) : a ||| b = b := by
  refine Nat.eq_of_testBit_eq fun j => ?_
  rw [Nat.testBit_or]
  by_cases c : a.testBit j = true
  · rw [c, h j c]
    rfl
  · rw [Bool.not_eq_true] at c
    rw [c, Bool.false_or]
theorem made_iff {nf n : Int} {sf nI C : Int → Int} {cI : Int → Int → Int} {ft : Int → Int → Bool} {Q : Int → Int → Int → Int} (hF : FO5 nf sf (fun ff => il (gC C ff) 0 (nI ff - 0).toNat)) (hQ : QOK nf sf (fun ff => il (gC C ff) 0 (nI ff - 0).toNat) ft n Q) (fi : FI nf sf nI cI) (hc : ∀ f k, 0 ≤ f → f < nf → 0 ≤ k → k < nI f → cI f k = C (5 * f + k)) (n0 : 0 ≤ n) (n16 : n ≤ 16) {s : Int} (s0 : 0 ≤ s) (s1 : s ≤ 5) : (ables (sNf sf) (nNf nI cI) nf.toNat).testBit s.toNat = true ↔ Q s 0 n < 1000000 := by
  have hs := FI_s fi
  -- items of a form
  have mem : ∀ (f : Nat) (it : Int), (f : Int) < nf → it ∈ il (gC C f) 0 (nI f - 0).toNat → ∃ k : Nat, k < (nI f).toNat ∧ it = cI f k := fun f it hf h => by
    obtain ⟨x, x0, x1, x2⟩ := il_mem _ _ _ h
    refine ⟨x.toNat, by omega, ?_⟩
    rw [Int.toNat_of_nonneg x0, hc f x (by omega) hf x0 (by omega), x2]
    rfl
  have e00 : ∀ s, Q s 0 0 < 1000000 → Q s 0 0 ≤ 15625 := fun s h => Q_emp6 hF hQ (Int.le_refl 0) n0 h
  -- a form of sorts that end
  have fin : ∀ (f : Nat) (m : Nat), (f : Int) < nf → (∀ j : Nat, m.testBit j = true → Q j 0 0 < 1000000) → nNf nI cI f ||| m = m → Q (sf f) 0 0 < 1000000 := fun f m hf hm hn => by
    have l5 := hF.2 f (by omega) hf
    have lw : ∀ l : List Int, (∀ it, it ∈ l → it ∈ il (gC C f) 0 (nI f - 0).toNat) → rP 1000000 Q ft 0 l 0 ≤ 15625 * l.length := by
      intro l
      induction l with
      | nil => intro _; rw [rP, if_pos rfl, List.length_nil]; omega
      | cons it r ihl =>
        intro hm2
        have a1 := ihl (fun it' h => hm2 it' (List.mem_cons_of_mem _ h))
        have a2 := rP_le (I := 1000000) (P := Q) (ft := ft) (to := 0) (it := it) (r := r) (Int.le_refl 0) (Int.le_refl 0)
        have a3 : itP Q ft it 0 0 ≤ 15625 := by
          by_cases h : 60 ≤ it
          · rw [itP_sort h]
            obtain ⟨k, hk, e⟩ := mem f it hf (hm2 it List.mem_cons_self)
            have tb : (nNf nI cI f).testBit (it - 60).toNat = true := neN_tb.mpr ⟨k, hk, by rw [← e]; exact h, by rw [← e]⟩
            have := hm _ (tb_or _ hn tb)
            rw [show (((it - 60).toNat : Nat) : Int) = it - 60 by omega] at this
            exact e00 _ this
          · have := (itP_leaf_b (P := Q) (ft := ft) (p := 0) (q := 0) h (Int.le_refl _)).2.2 rfl
            omega
        rw [List.length_cons]
        omega
    have b1 := lw _ (fun _ h => h)
    have sb := (fi.2 f (by omega) hf).1
    have b2 := (hQ.2 (sf f) 0 0 sb.1 sb.2 (Int.le_refl 0) (Int.le_refl 0) n0).2.2.1 f (by omega) hf rfl
    have l5 : (il (gC C f) 0 (nI f - 0).toNat).length ≤ 5 := l5
    have b2 : Q (sf f) 0 0 ≤ rP 1000000 Q ft 0 (il (gC C f) 0 (nI f - 0).toNat) 0 := b2
    omega
  have low : ∀ k : Nat, ∀ j : Nat, (itn (fun m => abF (sNf sf) (nNf nI cI) m nf.toNat) 0 k).testBit j = true → Q j 0 0 < 1000000 := by
    intro k
    induction k with
    | zero => intro j h; exact absurd h (by show ¬ (0 : Nat).testBit j = true; rw [Nat.zero_testBit]; exact Bool.false_ne_true)
    | succ k ih =>
      intro j
      rw [itn_s]
      have : ∀ F : Nat, F ≤ nf.toNat → ∀ j : Nat, (abF (sNf sf) (nNf nI cI) (itn (fun m => abF (sNf sf) (nNf nI cI) m nf.toNat) 0 k) F).testBit j = true → Q j 0 0 < 1000000 := by
        intro F
        induction F with
        | zero => intro _ j h; exact ih j h
        | succ F ihF =>
          intro hF' j h
          have old := ihF (by omega)
          rw [abF_s, Nat.testBit_or, Bool.or_eq_true] at h
          rcases h with h | h
          · exact old j h
          · by_cases c : nNf nI cI F ||| abF (sNf sf) (nNf nI cI) (itn (fun m => abF (sNf sf) (nNf nI cI) m nf.toNat) 0 k) F = abF (sNf sf) (nNf nI cI) (itn (fun m => abF (sNf sf) (nNf nI cI) m nf.toNat) 0 k) F
            · rw [if_pos c, Nat.testBit_two_pow] at h
              have e : sNf sf F = j := of_decide_eq_true h
              have sb := (fi.2 F (by omega) (by omega)).1
              have := fin F _ (by omega) old c
              rw [← e]
              unfold sNf
              rw [Int.toNat_of_nonneg sb.1]
              exact this
            · rw [if_neg c, Nat.zero_testBit] at h
              exact absurd h Bool.false_ne_true
      exact this _ (Nat.le_refl _) j
  have up : ∀ (k : Nat) (s : Int), 0 ≤ s → s ≤ 5 → cn (fun x => Q x 0 0) s ≤ k → Q s 0 0 < 1000000 → (ables (sNf sf) (nNf nI cI) nf.toNat).testBit s.toNat = true := by
    intro k
    induction k with
    | zero =>
      intro s s0 s1 hk _
      have := cnn_1 (Z := fun x => Q x 0 0) s0 s1
      omega
    | succ k ih =>
      intro s s0 s1 hk hf
      obtain ⟨_, _, _, h4⟩ := hQ.2 s 0 0 s0 s1 (Int.le_refl 0) (Int.le_refl 0) n0
      obtain ⟨f, f0, f1, fs, fe⟩ := h4 hf
      have all := Dec_all (dec_top hF hQ f0 f1 (Int.le_refl 0) (Int.le_refl 0) n0 fe.symm hf)
      have key := ables_in (n := nNf nI cI) (f := f.toNat) hs (by omega) (sub_tb fun j hj => by
        obtain ⟨x, hx, h60, hj'⟩ := neN_tb.mp hj
        rw [Int.toNat_of_nonneg f0] at hx h60 hj'
        have cx := hc f x f0 f1 (by omega) (by omega)
        have im : C (5 * f + x) ∈ il (gC C f) 0 (nI f - 0).toNat := by
          have := il_has (g := gC C f) (m := (nI f - 0).toNat) (k := 0) (x := x) (by omega) (by omega)
          exact this
        obtain ⟨p, q, w1, w2, w3, w4, w5, w6⟩ := all _ im
        rw [cx] at h60 hj'
        rw [itP_sort h60] at w5
        have ep : p = 0 := by omega
        have eq : q = 0 := by omega
        rw [ep, eq] at w5
        have i5 := (hF.1 f f0 f1).2.1 _ im
        rcases w6 h60 with z | z
        · exact absurd ⟨ep, eq⟩ z
        · have c2 := cn_lt (Z := fun x => Q x 0 0) s0 s1 (s' := C (5 * f + x) - 60) (by
            show Q (C (5 * f + x) - 60) 0 0 < Q s 0 0 ∨ (Q (C (5 * f + x) - 60) 0 0 = Q s 0 0 ∧ s < C (5 * f + x) - 60)
            omega)
          rw [← hj']
          exact ih _ (by omega) (by omega) (by omega) (by omega))
      have e : sNf sf f.toNat = s.toNat := by
        unfold sNf
        rw [Int.toNat_of_nonneg f0, fs]
      rw [← e]
      exact key
  refine ⟨fun h => ?_, fun h => ?_⟩
  · have a1 := low 6 _ h
    rw [Int.toNat_of_nonneg s0] at a1
    have a2 := e00 s a1
    have a3 := Q_span hF hQ (Int.le_refl 0) n0 6 s s0 s1 (cn_b _ _).2 a1 0 n (Int.le_refl 0) n0 (Int.le_refl _)
    omega
  · exact up 6 s s0 s1 (cn_b _ _).2 (Q_end hF hQ (Int.le_refl 0) n0 (n - 0).toNat 6 s 0 n (Int.le_refl 0) n0 (Int.le_refl _) (by omega) s0 s1 (cn_b _ _).2 h)
end
