section
/-! memory as it is built: rows of cells side by side -/
abbrev q_L : Type := List (q_T × (Nat → Value))
/-- from a on the cells of l lie -/
def q_lay (μ : q_M) (a : Nat) (l : q_L) : Prop := ∀ (k : Nat) (c : q_T × (Nat → Value)), l[k]? = some c → μ.1.1 (a + k) = some c.1 ∧ μ.2 (a + k) = c.2
/-- below a all is as before -/
def q_same (μ μ0 : q_M) (a : Nat) : Prop := ∀ q : Nat, q < a → μ.1.1 q = μ0.1.1 q ∧ μ.2 q = μ0.2 q
theorem q_lay_app {μ : q_M} {a : Nat} {l1 l2 : q_L} (h1 : q_lay μ a l1) (h2 : q_lay μ (a + l1.length) l2) : q_lay μ a (l1 ++ l2) := by
  intro k c hc
  by_cases h : k < l1.length
  · rw [List.getElem?_append_left h] at hc
    exact h1 k c hc
  · rw [List.getElem?_append_right (by omega)] at hc
    have := h2 _ c hc
    rw [show a + l1.length + (k - l1.length) = a + k by omega] at this
    exact this
theorem q_lay_same {μ μ0 : q_M} {a b : Nat} {l : q_L} (h : q_lay μ0 a l) (hs : q_same μ μ0 b) (hb : a + l.length ≤ b) : q_lay μ a l := by
  intro k c hc
  have hk : k < l.length := (List.getElem?_eq_some_iff.mp hc).1
  have := hs (a + k) (by omega)
  rw [this.1, this.2]
  exact h k c hc
theorem q_same_trans {μ μ1 μ0 : q_M} {a b : Nat} (h1 : q_same μ μ1 b) (h2 : q_same μ1 μ0 a) (hab : a ≤ b) : q_same μ μ0 a := fun q hq => ⟨(h1 q (by omega)).1.trans (h2 q hq).1, (h1 q (by omega)).2.trans (h2 q hq).2⟩
/-- an object of class ci under construction at a: its fields so far F, the cells made so far l -/
def q_bld (μ μ0 : q_M) (a ci : Nat) (F : Nat → Value) (l : q_L) (rc rs : Nat) : Prop :=
  μ.1.1 a = some (.inl ci) ∧ μ.2 a = F ∧ μ.1.2.1 = a + 1 + l.length ∧ q_lay μ (a + 1) l ∧ q_same μ μ0 a ∧ μ.1.2.2.1 = rc ∧ μ.1.2.2.2 = rs
def q_fset (F : Nat → Value) (k : Nat) (v : Value) : Nat → Value := fun j => if j = k then v else F j
theorem q_bld_al {μ μ0 : q_M} {a ci : Nat} {F : Nat → Value} {l : q_L} {rc rs n k : Nat} {t : q_T} {f : Nat → Value} (h : q_bld μ μ0 a ci F l rc rs) : q_bld (q_set (q_al1 μ t n f) a k (.ref μ.1.2.1)) μ0 a ci (q_fset F k (.ref (a + 1 + l.length))) (l ++ [(t, f)]) (rc - 1) (rs - n) := by
  obtain ⟨h1, h2, h3, h4, h5, h6, h7⟩ := h
  have hne : ¬ a = μ.1.2.1 := by omega
  refine ⟨?_, ?_, ?_, ?_, ?_, ?_, ?_⟩
  · show (if a = μ.1.2.1 then some t else μ.1.1 a) = _
    rw [if_neg hne]
    exact h1
  · funext j
    show (if a = a ∧ j = k then Value.ref μ.1.2.1 else (if a = μ.1.2.1 then f else μ.2 a) j) = _
    rw [if_neg hne, h2, h3]
    simp [q_fset]
  · show μ.1.2.1 + 1 = _
    rw [h3]
    simp
    omega
  · refine q_lay_app ?_ ?_
    · intro k' c hc
      have hk : k' < l.length := (List.getElem?_eq_some_iff.mp hc).1
      have h8 := h4 k' c hc
      have e1 : ¬ a + 1 + k' = μ.1.2.1 := by omega
      refine ⟨?_, ?_⟩
      · show (if a + 1 + k' = μ.1.2.1 then some t else μ.1.1 (a + 1 + k')) = _
        rw [if_neg e1]
        exact h8.1
      · funext j
        show (if a + 1 + k' = a ∧ j = k then Value.ref μ.1.2.1 else (if a + 1 + k' = μ.1.2.1 then f else μ.2 (a + 1 + k')) j) = _
        rw [if_neg e1, if_neg (by omega), h8.2]
    · intro k' c hc
      have hk : k' < 1 := (List.getElem?_eq_some_iff.mp hc).1
      have hk0 : k' = 0 := by omega
      subst hk0
      cases hc
      have e1 : a + 1 + l.length + 0 = μ.1.2.1 := by omega
      refine ⟨?_, ?_⟩
      · show (if a + 1 + l.length + 0 = μ.1.2.1 then some t else _) = _
        rw [if_pos e1]
      · funext j
        show (if a + 1 + l.length + 0 = a ∧ j = k then Value.ref μ.1.2.1 else (if a + 1 + l.length + 0 = μ.1.2.1 then f else μ.2 (a + 1 + l.length + 0)) j) = _
        rw [if_pos e1, if_neg (by omega)]
  · intro q hq
    have e1 : ¬ q = μ.1.2.1 := by omega
    have h8 := h5 q hq
    refine ⟨?_, ?_⟩
    · show (if q = μ.1.2.1 then some t else μ.1.1 q) = _
      rw [if_neg e1]
      exact h8.1
    · funext j
      show (if q = a ∧ j = k then Value.ref μ.1.2.1 else (if q = μ.1.2.1 then f else μ.2 q) j) = _
      rw [if_neg e1, if_neg (by omega), h8.2]
  · show μ.1.2.2.1 - 1 = _
    rw [h6]
  · show μ.1.2.2.2 - n = _
    rw [h7]
/-- this.f = new int[n] -/
theorem q_st_na {μ μ0 : q_M} {a ci : Nat} {F : Nat → Value} {l : q_L} {rc rs n k : Nat} {ty : FieldType} {v : Int32} {env : List Value} {Kn : List Value → q_M → Prop} {Kr : Option Value → q_M → Prop} (h : q_bld μ μ0 a ci F l rc rs) (he : env[0]? = some (.ref a)) (hv : v.toNatClampNeg = n) (h0 : ¬ v < 0) (h1 : n ≤ 65536) (h2 : 1 ≤ rc) (h3 : n ≤ rs)
    (kk : ∀ μ', q_bld μ' μ0 a ci (q_fset F k (.ref (a + 1 + l.length))) (l ++ [(.inr (.inl (ty, n)), fun _ => defaultValue ty)]) (rc - 1) (rs - n) → Kn env μ') : q_spf Value.ref (fun _ => True) ci k (q_r 0) (q_na ty (q_k v)) env μ Kn Kr := by
  refine ⟨a, he, h0, by omega, by have := h.2.2.2.2.2.1; omega, by have := h.2.2.2.2.2.2; omega, ?_, trivial, ?_⟩
  · show (if a = μ.1.2.1 then some (.inr (.inl (ty, v.toNatClampNeg))) else μ.1.1 a) = _
    rw [if_neg (by have := h.2.2.1; omega)]
    exact h.1
  · have h5 := q_bld_al (t := .inr (.inl (ty, n))) (n := n) (k := k) (f := fun _ => defaultValue ty) h
    rw [hv]
    exact kk _ h5
/-- the start of a constructor: super() -/
theorem q_st_sp {a : Nat} {env : List Value} {μ : q_M} {Kn : List Value → q_M → Prop} {Kr : Option Value → q_M → Prop} (he : env[0]? = some (.ref a)) (kk : Kn env μ) : q_spr 0 env μ Kn Kr := ⟨a, he, kk⟩
/-- what a constructor without arguments does: it lays L at b -/
def q_mkc (f : q_F) (ci : Nat) (ty : Nat → FieldType) (mc ms : Nat) (L : Nat → q_L) : Prop := ∀ (μ : q_M) (b : Nat) (K : Option Value → q_M → Prop), μ.1.1 b = some (.inl ci) → μ.2 b = q_df ty → μ.1.2.1 = b + 1 → μ.1.2.2.1 = mc → μ.1.2.2.2 = ms →
  (∀ μ', q_lay μ' b (L b) → μ'.1.2.1 = b + (L b).length → q_same μ' μ b → K none μ') → f [.ref b] μ K
theorem q_bld0 {μ : q_M} {b ci : Nat} {ty : Nat → FieldType} {mc ms : Nat} (h1 : μ.1.1 b = some (.inl ci)) (h2 : μ.2 b = q_df ty) (h3 : μ.1.2.1 = b + 1) (h4 : μ.1.2.2.1 = mc) (h5 : μ.1.2.2.2 = ms) : q_bld μ μ b ci (q_df ty) [] mc ms :=
  ⟨h1, h2, h3, by intro k c hc; simp at hc, by intro q _; exact ⟨rfl, rfl⟩, h4, h5⟩
theorem q_bldE {μ μ0 : q_M} {a ci : Nat} {F : Nat → Value} {l : q_L} {rc rs : Nat} (h : q_bld μ μ0 a ci F l rc rs) : q_lay μ a ((.inl ci, F) :: l) ∧ μ.1.2.1 = a + ((.inl ci, F) :: l : q_L).length ∧ q_same μ μ0 a := by
  obtain ⟨h1, h2, h3, h4, h5, h6, h7⟩ := h
  refine ⟨fun k c hc => ?_, by rw [h3]; simp; omega, h5⟩
  cases k with
  | zero =>
    cases hc
    exact ⟨h1, h2⟩
  | succ k =>
    have := h4 k c hc
    rw [show a + 1 + k = a + (k + 1) by omega] at this
    exact this
-- a sheet
def L7 (b : Nat) : q_L := [(.inl 7, q_fset (q_df tyX7) 3 (.ref (b + 1))), (.inr (.inl (.int, 40)), fun _ => .int 0)]
theorem k7 : q_mkc fX7_init 7 tyX7 1 40 L7 := by
  intro μ b K h1 h2 h3 h4 h5 hk
  simp only [fX7_init, sX7_init_, q_mk, q_sq]
  refine ⟨by simp [Value.category], by simp, ?_⟩
  refine q_st_sp (a := b) rfl ?_
  refine q_st_na (a := b) (n := 40) (q_bld0 h1 h2 h3 h4 h5) rfl (by decide) (by decide) (by decide) (by decide) (by decide) fun μ1 g1 => ?_
  have g := q_bldE g1
  exact hk μ1 g.1 g.2.1 g.2.2
end
