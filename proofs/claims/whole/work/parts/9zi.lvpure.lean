section
/-! find: trees laid over one another (pure) -/
/-- an end after another -/
def itE (e : Int → Int) : Nat → Int → Int
  | 0, x => x
  | j + 1, x => itE e j (e x)
theorem itE_s (e : Int → Int) : ∀ (j : Nat) (x : Int), itE e (j + 1) x = e (itE e j x) := by
  intro j
  induction j with
  | zero => intro x; rfl
  | succ j ih => intro x; exact ih (e x)
theorem itE_add (e : Int → Int) (j : Nat) : ∀ (m : Nat) (x : Int), itE e (m + j) x = itE e j (itE e m x) := by
  intro m
  induction m with
  | zero => intro x; rw [Nat.zero_add]; rfl
  | succ m ih =>
    intro x
    rw [show m + 1 + j = (m + j) + 1 by omega]
    exact ih (e x)
theorem itE_ch (e : Int → Int) (p : Int) : ∀ i : Nat, chI e p i = itE e i (p + 1) := by
  intro i
  induction i with
  | zero => rfl
  | succ i ih =>
    rw [itE_s, ← ih]
    rfl
/-- d pieces wait from x on to the end -/
def Lch (e : Int → Int) (n : Int) (d : Nat) (x : Int) : Prop := (∀ j : Nat, j < d → 0 ≤ itE e j x ∧ itE e j x < n) ∧ itE e d x = n
theorem Lch_out {e : Int → Int} {n x : Int} {d : Nat} (h : Lch e n (d + 1) x) : Lch e n d (e x) := ⟨fun j hj => h.1 (j + 1) (by omega), h.2⟩
theorem Lch_in {e : Int → Int} {n x : Int} {d m : Nat} (h : Lch e n (d + 1) x) (hm : itE e m (x + 1) = e x) (hr : ∀ j : Nat, j < m → 0 ≤ itE e j (x + 1) ∧ itE e j (x + 1) < n) : Lch e n (m + d) (x + 1) := by
  refine ⟨fun j hj => ?_, ?_⟩
  · by_cases g : j < m
    · exact hr j g
    · have e1 : itE e j (x + 1) = itE e (j - m + 1) x := by
        rw [show j = m + (j - m) by omega, itE_add, hm, show m + (j - m) - m + 1 = (j - m) + 1 by omega]
        rfl
      rw [e1]
      exact h.1 _ (by omega)
  · rw [itE_add, hm]
    exact h.2
/-- the first h below n of which p says so -/
noncomputable def lFst (p : Int → Prop) : Nat → Int
  | 0 => -1
  | n + 1 => if 0 ≤ lFst p n then lFst p n else @ite Int (p n) (Classical.propDecidable (p n)) n (-1)
theorem lFst_is (p : Int → Prop) : ∀ n : Nat, (lFst p n = -1 ∧ ∀ k : Int, 0 ≤ k → k < n → ¬ p k) ∨ (0 ≤ lFst p n ∧ lFst p n < n ∧ p (lFst p n) ∧ ∀ k : Int, 0 ≤ k → k < lFst p n → ¬ p k) := by
  intro n
  induction n with
  | zero => exact Or.inl ⟨rfl, fun k k0 k1 => by omega⟩
  | succ n ih =>
    rcases ih with ⟨a, b⟩ | ⟨a, b, c, d⟩
    · by_cases z : p n
      · have e : lFst p (n + 1) = n := by
          rw [lFst, if_neg (by omega), if_pos z]
        rw [e]
        exact Or.inr ⟨by omega, by omega, z, b⟩
      · have e : lFst p (n + 1) = -1 := by
          rw [lFst, if_neg (by omega), if_neg z]
        refine Or.inl ⟨e, fun k k0 k1 => ?_⟩
        by_cases h : k = n
        · rw [h]; exact z
        · exact b k k0 (by omega)
    · have e : lFst p (n + 1) = lFst p n := by
        rw [lFst, if_pos a]
      rw [e]
      exact Or.inr ⟨a, by omega, c, d⟩
theorem lFst_eq {p : Int → Prop} {n : Nat} {h : Int} (h0 : 0 ≤ h) (h1 : h < n) (h2 : p h) (h3 : ∀ k : Int, 0 ≤ k → k < h → ¬ p k) : lFst p n = h := by
  rcases lFst_is p n with ⟨a, b⟩ | ⟨a, b, c, d⟩
  · exact absurd h2 (b h h0 h1)
  · by_cases g : lFst p n < h
    · exact absurd c (h3 _ a g)
    · by_cases g2 : h < lFst p n
      · exact absurd h2 (d h h0 g2)
      · omega
theorem lFst_no {p : Int → Prop} {n : Nat} (h : ∀ k : Int, 0 ≤ k → k < n → ¬ p k) : lFst p n = -1 := by
  rcases lFst_is p n with ⟨a, b⟩ | ⟨a, b, c, d⟩
  · exact a
  · exact absurd c (h _ a b)
/-- the pieces over one another are one code -/
def oneX (K : Nat) (C : Nat → Int → Int) (x : Nat → Int) : Prop := ∀ k : Nat, k < K → C k (x k) = C 0 (x 0)
/-- hole h stands for just these pieces -/
def sameH (K : Nat) (C E C0 E0 : Nat → Int → Int) (x : Nat → Int) (hp : Int → Int) (h : Int) : Prop := ∀ k : Nat, k < K → Seg (C k) (E k) (C0 k) (E0 k) (x k) (hp (4 * h + k))
noncomputable def lH (K : Nat) (C E C0 E0 : Nat → Int → Int) (s : ((Nat → Int) × Int × (Int → Int))) : Int := lFst (sameH K C E C0 E0 s.1 s.2.2) s.2.1.toNat
noncomputable def lNx (K : Nat) (C E C0 E0 : Nat → Int → Int) (s : ((Nat → Int) × Int × (Int → Int))) : ((Nat → Int) × Int × (Int → Int)) := @ite ((Nat → Int) × Int × (Int → Int)) (oneX K C s.1) (Classical.propDecidable _) (fun k => s.1 k + 1, s.2) (fun k => E k (s.1 k), if 0 ≤ lH K C E C0 E0 s then s.2 else (s.2.1 + 1, fun j => if 4 * s.2.1 ≤ j then s.1 (j - 4 * s.2.1).toNat else s.2.2 j))
noncomputable def lCd (K : Nat) (C E C0 E0 : Nat → Int → Int) (s : ((Nat → Int) × Int × (Int → Int))) : Int := @ite Int (oneX K C s.1) (Classical.propDecidable _) (C 0 (s.1 0)) (200 + if 0 ≤ lH K C E C0 E0 s then lH K C E C0 E0 s else s.2.1)
/-- after P steps; the code that step p puts down -/
noncomputable def lS (K : Nat) (C E C0 E0 : Nat → Int → Int) (s : ((Nat → Int) × Int × (Int → Int))) : Nat → ((Nat → Int) × Int × (Int → Int))
  | 0 => s
  | P + 1 => lNx K C E C0 E0 (lS K C E C0 E0 s P)
noncomputable def lC (K : Nat) (C E C0 E0 : Nat → Int → Int) (s : ((Nat → Int) × Int × (Int → Int))) (p : Int) : Int := lCd K C E C0 E0 (lS K C E C0 E0 s p.toNat)
theorem lNx_1 {K : Nat} {C E C0 E0 : Nat → Int → Int} {s : ((Nat → Int) × Int × (Int → Int))} (h : oneX K C s.1) : lNx K C E C0 E0 s = (fun k => s.1 k + 1, s.2) := by unfold lNx; exact if_pos h
theorem lNx_0 {K : Nat} {C E C0 E0 : Nat → Int → Int} {s : ((Nat → Int) × Int × (Int → Int))} (h : ¬ oneX K C s.1) : lNx K C E C0 E0 s = (fun k => E k (s.1 k), if 0 ≤ lH K C E C0 E0 s then s.2 else (s.2.1 + 1, fun j => if 4 * s.2.1 ≤ j then s.1 (j - 4 * s.2.1).toNat else s.2.2 j)) := by unfold lNx; exact if_neg h
theorem lCd_1 {K : Nat} {C E C0 E0 : Nat → Int → Int} {s : ((Nat → Int) × Int × (Int → Int))} (h : oneX K C s.1) : lCd K C E C0 E0 s = C 0 (s.1 0) := by unfold lCd; exact if_pos h
theorem lCd_0 {K : Nat} {C E C0 E0 : Nat → Int → Int} {s : ((Nat → Int) × Int × (Int → Int))} (h : ¬ oneX K C s.1) : lCd K C E C0 E0 s = 200 + if 0 ≤ lH K C E C0 E0 s then lH K C E C0 E0 s else s.2.1 := by unfold lCd; exact if_neg h
theorem lC_at {K : Nat} {C E C0 E0 : Nat → Int → Int} {s : ((Nat → Int) × Int × (Int → Int))} (P : Nat) : lC K C E C0 E0 s P = lCd K C E C0 E0 (lS K C E C0 E0 s P) := by
  unfold lC
  rw [Int.toNat_natCast]
theorem lH_b {K : Nat} {C E C0 E0 : Nat → Int → Int} {s : ((Nat → Int) × Int × (Int → Int))} (h : 0 ≤ lH K C E C0 E0 s) : lH K C E C0 E0 s < s.2.1.toNat ∧ sameH K C E C0 E0 s.1 s.2.2 (lH K C E C0 E0 s) := by
  rcases lFst_is (sameH K C E C0 E0 s.1 s.2.2) s.2.1.toNat with ⟨a, _⟩ | ⟨_, b, c, _⟩
  · have : lH K C E C0 E0 s = -1 := a
    omega
  · exact ⟨b, c⟩
/-- what stands after P steps -/
def LI (K : Nat) (C E C0 E0 : Nat → Int → Int) (s0 : ((Nat → Int) × Int × (Int → Int))) (F : Int) (ns I : Int → Int) (n : Nat → Int) (P : Nat) : Prop := Pre ns (lC K C E C0 E0 s0) P ∧ (∀ k : Nat, k < K → Lch (E k) (n k) (dd ns (lC K C E C0 E0 s0) P).toNat ((lS K C E C0 E0 s0 P).1 k)) ∧ nb (lC K C E C0 E0 s0) P ≤ nb (C 0) ((lS K C E C0 E0 s0 P).1 0).toNat ∧ (P : Int) ≤ (lS K C E C0 E0 s0 P).1 0 ∧ (∀ (j : Nat) (it : Int), (tgI ns I (lC K C E C0 E0 s0) P)[j]? = some it → ∀ k : Nat, k < K → okc 0 it (C k (itE (E k) j ((lS K C E C0 E0 s0 P).1 k)))) ∧ (s0.2.1 ≤ (lS K C E C0 E0 s0 P).2.1 ∧ (lS K C E C0 E0 s0 P).2.1 + nb (lC K C E C0 E0 s0) P ≤ s0.2.1 + P) ∧ (∀ q : Nat, q < P → 20 ≤ (lC K C E C0 E0 s0) q ∧ (1000 ≤ (lC K C E C0 E0 s0) q → (lC K C E C0 E0 s0) q - 1000 < F)) ∧ 0 ≤ dd ns (lC K C E C0 E0 s0) P
theorem LI_0 {K : Nat} {C E C0 E0 : Nat → Int → Int} {s0 : ((Nat → Int) × Int × (Int → Int))} {F : Int} {ns I : Int → Int} {n N L : Nat → Int} {u sl r na la : Nat → Int → Int} (T : ∀ k : Nat, k < K → Tr 0 F ns I (n k) (N k) (L k) (C k) (E k) (u k) (sl k) (r k) (na k) (la k)) (n0 : ∀ f, 0 ≤ f → f < F → 0 ≤ ns f) (K1 : 1 ≤ K) (rt : ∀ k : Nat, k < K → 1000 ≤ C k 0) (hx : ∀ k, s0.1 k = 0) : LI K C E C0 E0 s0 F ns I n 0 := by
  have T0 := T 0 (by omega)
  refine ⟨⟨fun q hq => absurd hq (by omega), fun q hq => absurd hq (by omega)⟩, fun k hk => ?_, ?_, ?_, fun j it hj k hk => ?_, ⟨Int.le_refl _, ?_⟩, fun q hq => absurd hq (by omega), by show (0 : Int) ≤ 1; omega⟩
  · have Tk := T k hk
    obtain ⟨a1, a2, a3, a4, a5, a6, a7, a8⟩ := Tk.1
    show Lch (E k) (n k) 1 (s0.1 k)
    rw [hx k]
    refine ⟨fun j hj => ?_, a7⟩
    have : j = 0 := by omega
    subst this
    show (0 : Int) ≤ 0 ∧ (0 : Int) < n k
    omega
  · show nb _ 0 ≤ _
    have := nb_b (C 0) (s0.1 0).toNat
    exact this.1
  · show ((0 : Nat) : Int) ≤ s0.1 0
    rw [hx 0]
    exact Int.le_refl _
  · have hj : [(60 : Int)][j]? = some it := hj
    cases j with
    | zero =>
      rw [List.getElem?_cons_zero] at hj
      injection hj with hj
      subst hj
      show okc 0 60 (C k (s0.1 k))
      rw [hx k]
      exact Or.inl ⟨by omega, rt k hk⟩
    | succ j =>
      rw [List.getElem?_cons_succ, List.getElem?_nil] at hj
      exact absurd hj (by simp)
  · show s0.2.1 + 0 ≤ s0.2.1 + ((0 : Nat) : Int)
    omega
theorem LI_s {K : Nat} {C E C0 E0 : Nat → Int → Int} {s0 : ((Nat → Int) × Int × (Int → Int))} {F : Int} {ns I : Int → Int} {n N L : Nat → Int} {u sl r na la : Nat → Int → Int} (T : ∀ k : Nat, k < K → Tr 0 F ns I (n k) (N k) (L k) (C k) (E k) (u k) (sl k) (r k) (na k) (la k)) (n0 : ∀ f, 0 ≤ f → f < F → 0 ≤ ns f) (K1 : 1 ≤ K) (rt : ∀ k : Nat, k < K → 1000 ≤ C k 0) (h0 : 0 ≤ s0.2.1 ∧ s0.2.1 ≤ 300) {P : Nat} (li : LI K C E C0 E0 s0 F ns I n P) (d1 : 1 ≤ dd ns (lC K C E C0 E0 s0) P) : LI K C E C0 E0 s0 F ns I n (P + 1) := by
  obtain ⟨pr, ch, nbx, px, its, ⟨hn0, hn1⟩, cds, _⟩ := li
  obtain ⟨s, hs⟩ : ∃ s, s = lS K C E C0 E0 s0 P := ⟨_, rfl⟩
  have eN : lS K C E C0 E0 s0 (P + 1) = lNx K C E C0 E0 s := by rw [hs]; rfl
  have ec : (lC K C E C0 E0 s0) P = lCd K C E C0 E0 s := by rw [hs]; exact lC_at P
  rw [← hs] at ch nbx px its hn0 hn1
  obtain ⟨d, hd⟩ : ∃ d : Nat, (dd ns (lC K C E C0 E0 s0) P).toNat = d + 1 := ⟨(dd ns (lC K C E C0 E0 s0) P).toNat - 1, by omega⟩
  rw [hd] at ch
  have T0 := T 0 (by omega)
  have xb : ∀ k : Nat, k < K → 0 ≤ s.1 k ∧ s.1 k < n k := fun k hk => (ch k hk).1 0 (by omega)
  have x0 := xb 0 (by omega)
  have n201 := T0.1.2.1
  have nbs := nb_s (lC K C E C0 E0 s0) P
  have nbb := nb_b (lC K C E C0 E0 s0) P
  have dds := dd_s ns (lC K C E C0 E0 s0) P
  unfold LI
  rw [eN]
  by_cases one : oneX K C s.1
  · have cP : (lC K C E C0 E0 s0) P = C 0 (s.1 0) := by rw [ec]; exact lCd_1 one
    have ck : ∀ k : Nat, k < K → C k (s.1 k) = (lC K C E C0 E0 s0) P := fun k hk => by rw [cP]; exact one k hk
    rw [lNx_1 one]
    by_cases l : 1000 ≤ (lC K C E C0 E0 s0) P
    · rw [if_pos l] at nbs dds
      have nd := fun (k : Nat) (hk : k < K) => (T k hk).2.2.2.1 (s.1 k) (xb k hk).1 (xb k hk).2 (by rw [ck k hk]; exact l)
      have nf := n0 ((lC K C E C0 E0 s0) P - 1000) (by omega) (by
        have := (nd 0 (by omega)).1
        rw [ck 0 (by omega)] at this
        exact this)
      obtain ⟨m, hm⟩ : ∃ m : Nat, m = (ns ((lC K C E C0 E0 s0) P - 1000)).toNat := ⟨_, rfl⟩
      have dP : (dd ns (lC K C E C0 E0 s0) (P + 1)).toNat = m + d := by omega
      have e1 : ∀ k : Nat, k < K → itE (E k) m (s.1 k + 1) = E k (s.1 k) := fun k hk => by
        have := (nd k hk).2.1
        rw [ck k hk, ← hm, itE_ch] at this
        exact this
      refine ⟨Pre_s pr d1 (fun _ => nf), fun k hk => ?_, ?_, ?_, fun j it hj k hk => ?_, ⟨hn0, ?_⟩, fun q hq => ?_, by omega⟩
      · rw [dP]
        refine Lch_in (ch k hk) (e1 k hk) fun j hj => ?_
        have := (nd k hk).2.2 j (by rw [ck k hk]; omega)
        rw [itE_ch] at this
        have xk := xb k hk
        omega
      · show _ ≤ nb (C 0) (s.1 0 + 1).toNat
        have e := nb_s (C 0) (s.1 0).toNat
        rw [Int.toNat_of_nonneg x0.1, ← cP, if_pos l] at e
        rw [show (s.1 0 + 1).toNat = (s.1 0).toNat + 1 by omega, e, nbs]
        omega
      · show ((P + 1 : Nat) : Int) ≤ s.1 0 + 1
        omega
      · rw [tgI_s, if_pos l, ← hm] at hj
        show okc 0 it (C k (itE (E k) j (s.1 k + 1)))
        by_cases g : j < m
        · rw [List.getElem?_append_left (by rw [tgJ_len]; exact g), tgJ_get _ _ _ _ _ g] at hj
          injection hj with hj
          have := ((nd k hk).2.2 j (by rw [ck k hk]; omega)).2.2.2.2
          rw [ck k hk, itE_ch] at this
          rw [← hj, show (0 : Int) + (j : Int) = j by omega]
          exact this
        · rw [List.getElem?_append_right (by rw [tgJ_len]; omega), tgJ_len, List.getElem?_tail] at hj
          have := its _ it hj k hk
          have e2 : itE (E k) j (s.1 k + 1) = itE (E k) (j - m + 1) (s.1 k) := by
            rw [show j = m + (j - m) by omega, itE_add, e1 k hk, show m + (j - m) - m + 1 = (j - m) + 1 by omega]
            rfl
          rw [e2]
          exact this
      · show s.2.1 + nb _ _ ≤ _
        rw [nbs]
        omega
      · by_cases e : q = P
        · subst e
          have := (nd 0 (by omega)).1
          rw [ck 0 (by omega)] at this
          exact ⟨by omega, fun _ => this⟩
        · exact cds q (by omega)
    · rw [if_neg l] at nbs dds
      have lf := fun (k : Nat) (hk : k < K) => (T k hk).2.2.2.2.1 (s.1 k) (xb k hk).1 (xb k hk).2 (by rw [ck k hk]; exact l)
      have dP : (dd ns (lC K C E C0 E0 s0) (P + 1)).toNat = d := by omega
      refine ⟨Pre_s pr d1 (fun z => absurd z l), fun k hk => ?_, ?_, ?_, fun j it hj k hk => ?_, ⟨hn0, ?_⟩, fun q hq => ?_, by omega⟩
      · rw [dP]
        show Lch (E k) (n k) d (s.1 k + 1)
        rw [← (lf k hk).2]
        exact Lch_out (ch k hk)
      · show _ ≤ nb (C 0) (s.1 0 + 1).toNat
        rw [nbs]
        have := nbi_mono (C 0) (show s.1 0 ≤ s.1 0 + 1 by omega)
        omega
      · show ((P + 1 : Nat) : Int) ≤ s.1 0 + 1
        omega
      · rw [tgI_s, if_neg l, List.getElem?_tail] at hj
        show okc 0 it (C k (itE (E k) j (s.1 k + 1)))
        rw [← (lf k hk).2]
        exact its _ it hj k hk
      · show s.2.1 + nb _ _ ≤ _
        rw [nbs]
        omega
      · by_cases e : q = P
        · subst e
          have := (lf 0 (by omega)).1
          rw [ck 0 (by omega)] at this
          exact ⟨this, fun z => absurd z l⟩
        · exact cds q (by omega)
  · have cP := ec
    rw [lCd_0 one] at cP
    have hb : 200 ≤ (lC K C E C0 E0 s0) P ∧ (lC K C E C0 E0 s0) P ≤ 200 + s.2.1 := by
      by_cases g : 0 ≤ lH K C E C0 E0 s
      · rw [if_pos g] at cP
        have := (lH_b g).1
        omega
      · rw [if_neg g] at cP
        omega
    have l : ¬ 1000 ≤ (lC K C E C0 E0 s0) P := by omega
    rw [if_neg l] at nbs dds
    have dP : (dd ns (lC K C E C0 E0 s0) (P + 1)).toNat = d := by omega
    rw [lNx_0 one]
    have hx : s0.2.1 ≤ (if 0 ≤ lH K C E C0 E0 s then s.2 else (s.2.1 + 1, fun j => if 4 * s.2.1 ≤ j then s.1 (j - 4 * s.2.1).toNat else s.2.2 j)).1 ∧ (if 0 ≤ lH K C E C0 E0 s then s.2 else (s.2.1 + 1, fun j => if 4 * s.2.1 ≤ j then s.1 (j - 4 * s.2.1).toNat else s.2.2 j)).1 ≤ s.2.1 + 1 := by
      by_cases g : 0 ≤ lH K C E C0 E0 s
      · rw [if_pos g]
        omega
      · rw [if_neg g]
        show s0.2.1 ≤ s.2.1 + 1 ∧ s.2.1 + 1 ≤ s.2.1 + 1
        omega
    have ex := (T0.2.1 (s.1 0) x0.1 x0.2)
    refine ⟨Pre_s pr d1 (fun z => absurd z l), fun k hk => ?_, ?_, ?_, fun j it hj k hk => ?_, ⟨hx.1, ?_⟩, fun q hq => ?_, by omega⟩
    · rw [dP]
      exact Lch_out (ch k hk)
    · show _ ≤ nb (C 0) (E 0 (s.1 0)).toNat
      rw [nbs]
      have := nbi_mono (C 0) (show s.1 0 ≤ E 0 (s.1 0) by omega)
      omega
    · show ((P + 1 : Nat) : Int) ≤ E 0 (s.1 0)
      omega
    · rw [tgI_s, if_neg l, List.getElem?_tail] at hj
      exact its _ it hj k hk
    · have h2 := hx.2
      rw [nbs]
      show (if 0 ≤ lH K C E C0 E0 s then s.2 else (s.2.1 + 1, fun j => if 4 * s.2.1 ≤ j then s.1 (j - 4 * s.2.1).toNat else s.2.2 j)).1 + _ ≤ _
      omega
    · by_cases e : q = P
      · subst e
        exact ⟨by omega, fun z => absurd z l⟩
      · exact cds q (by omega)
end
