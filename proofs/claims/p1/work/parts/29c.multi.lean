section
theorem q_bld_al2 {μ μ0 : q_M} {a ci : Nat} {F : Nat → Value} {l : q_L} {rc rs N K k : Nat} (h : q_bld μ μ0 a ci F l rc rs) : q_bld (q_set (q_al2 μ N K) a k (.ref μ.1.2.1)) μ0 a ci (q_fset F k (.ref (a + 1 + l.length))) (l ++ ((.inr (.inl (.array .int, N)), fun j => if j < N then .ref (a + 1 + l.length + 1 + j) else .null) :: List.replicate N (.inr (.inl (.int, K)), fun _ => .int 0))) (rc - (1 + N)) (rs - (N + N * K)) := by
  obtain ⟨h1, h2, h3, h4, h5, h6, h7⟩ := h
  have hT : ∀ q, (q_set (q_al2 μ N K) a k (.ref μ.1.2.1)).1.1 q = if q = μ.1.2.1 then some (.inr (.inl (.array .int, N))) else if μ.1.2.1 < q ∧ q ≤ μ.1.2.1 + N then some (.inr (.inl (.int, K))) else μ.1.1 q := fun q => rfl
  have hM : ∀ q, q ≠ a → (q_set (q_al2 μ N K) a k (.ref μ.1.2.1)).2 q = if q = μ.1.2.1 then (fun j => if j < N then .ref (μ.1.2.1 + 1 + j) else .null) else if μ.1.2.1 < q ∧ q ≤ μ.1.2.1 + N then (fun _ => .int 0) else μ.2 q := by
    intro q hq
    funext j
    show (if q = a ∧ j = k then Value.ref μ.1.2.1 else (if q = μ.1.2.1 then (fun j => if j < N then Value.ref (μ.1.2.1 + 1 + j) else .null) else if μ.1.2.1 < q ∧ q ≤ μ.1.2.1 + N then (fun _ => .int 0) else μ.2 q) j) = _
    rw [if_neg (fun e => hq e.1)]
  refine ⟨?_, ?_, ?_, ?_, ?_, ?_, ?_⟩
  · rw [hT, if_neg (by omega), if_neg (by omega)]
    exact h1
  · funext j
    show (if a = a ∧ j = k then Value.ref μ.1.2.1 else (if a = μ.1.2.1 then (fun j => if j < N then Value.ref (μ.1.2.1 + 1 + j) else .null) else if μ.1.2.1 < a ∧ a ≤ μ.1.2.1 + N then (fun _ => .int 0) else μ.2 a) j) = _
    rw [if_neg (show ¬ a = μ.1.2.1 by omega), if_neg (show ¬ (μ.1.2.1 < a ∧ a ≤ μ.1.2.1 + N) by omega), h2, h3]
    simp [q_fset]
  · show μ.1.2.1 + 1 + N = _
    rw [h3]
    simp
    omega
  · refine q_lay_app ?_ ?_
    · intro k' c hc
      have hk : k' < l.length := (List.getElem?_eq_some_iff.mp hc).1
      have h8 := h4 k' c hc
      rw [hT, hM _ (by omega), if_neg (by omega), if_neg (by omega), if_neg (by omega), if_neg (by omega)]
      exact h8
    · intro k' c hc
      cases k' with
      | zero =>
        cases hc
        have e1 : a + 1 + l.length + 0 = μ.1.2.1 := by omega
        rw [hT, hM _ (by omega), if_pos e1, if_pos e1]
        refine ⟨rfl, ?_⟩
        funext j
        simp only [h3]
      | succ k' =>
        have hk : k' < N := by
          have := (List.getElem?_eq_some_iff.mp hc).1
          simp at this
          exact this
        have hc2 : c = (.inr (.inl (.int, K)), fun _ => .int 0) := by
          rw [List.getElem?_cons_succ, List.getElem?_replicate, if_pos hk] at hc
          exact (Option.some.inj hc).symm
        subst hc2
        rw [hT, hM _ (by omega), if_neg (by omega), if_pos (by omega), if_neg (by omega), if_pos (by omega)]
        exact ⟨rfl, rfl⟩
  · intro q hq
    have h8 := h5 q hq
    rw [hT, hM _ (by omega), if_neg (by omega), if_neg (by omega), if_neg (by omega), if_neg (by omega)]
    exact h8
  · show μ.1.2.2.1 - (1 + N) = _
    rw [h6]
  · show μ.1.2.2.2 - (N + N * K) = _
    rw [h7]
/-- this.f = new int[N][K] -/
theorem q_st_mu {μ μ0 : q_M} {a ci : Nat} {F : Nat → Value} {l : q_L} {rc rs N K k : Nat} {v w : Int32} {env : List Value} {Kn : List Value → q_M → Prop} {Kr : Option Value → q_M → Prop} (h : q_bld μ μ0 a ci F l rc rs) (he : env[0]? = some (.ref a)) (hv : v.toNatClampNeg = N) (hw : w.toNatClampNeg = K) (h0 : ¬ v < 0) (h00 : ¬ w < 0) (h1 : N ≤ 65536) (h11 : K ≤ 65536) (h2 : 1 + N ≤ rc) (h3 : N + N * K ≤ rs)
    (kk : ∀ μ', q_bld μ' μ0 a ci (q_fset F k (.ref (a + 1 + l.length))) (l ++ ((.inr (.inl (.array .int, N)), fun j => if j < N then .ref (a + 1 + l.length + 1 + j) else .null) :: List.replicate N (.inr (.inl (.int, K)), fun _ => .int 0))) (rc - (1 + N)) (rs - (N + N * K)) → Kn env μ') : q_spf Value.ref (fun _ => True) ci k (q_r 0) (q_mu (q_k v) (q_k w)) env μ Kn Kr := by
  subst hv
  subst hw
  refine ⟨a, he, h0, h00, h1, h11, by have := h.2.2.2.2.2.1; omega, by have := h.2.2.2.2.2.2; omega, ?_, trivial, ?_⟩
  · show (if a = μ.1.2.1 then some (.inr (.inl (.array .int, v.toNatClampNeg))) else if μ.1.2.1 < a ∧ a ≤ μ.1.2.1 + v.toNatClampNeg then some (.inr (.inl (.int, w.toNatClampNeg))) else μ.1.1 a) = _
    rw [if_neg (by have := h.2.2.1; omega), if_neg (by have := h.2.2.1; omega)]
    exact h.1
  · exact kk _ (q_bld_al2 h)
end
