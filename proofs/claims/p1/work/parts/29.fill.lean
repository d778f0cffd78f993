section
theorem q_bld_set {μ μ0 : q_M} {a ci rc rs j : Nat} {F : Nat → Value} {l : q_L} {t : q_T} {f f' : Nat → Value} (h : q_bld μ μ0 a ci F l rc rs) (hj : l[j]? = some (t, f)) {M : Nat → Nat → Value} (h1 : M (a + 1 + j) = f') (h2 : ∀ q, q ≠ a + 1 + j → M q = μ.2 q) : q_bld (μ.1, M) μ0 a ci F (l.set j (t, f')) rc rs := by
  obtain ⟨g1, g2, g3, g4, g5, g6, g7⟩ := h
  refine ⟨g1, ?_, ?_, ?_, ?_, g6, g7⟩
  · show M a = F
    rw [h2 a (by omega), g2]
  · rw [List.length_set]
    exact g3
  · intro k c hc
    by_cases e : k = j
    · subst e
      have hk : k < l.length := (List.getElem?_eq_some_iff.mp hj).1
      rw [List.getElem?_set_self hk] at hc
      cases hc
      exact ⟨(g4 k (t, f) hj).1, h1⟩
    · rw [List.getElem?_set_ne (fun q => e q.symm)] at hc
      refine ⟨(g4 k c hc).1, ?_⟩
      show M (a + 1 + k) = _
      rw [h2 _ (by omega)]
      exact (g4 k c hc).2
  · intro q hq
    refine ⟨(g5 q hq).1, ?_⟩
    show M q = _
    rw [h2 q (by omega)]
    exact (g5 q hq).2
/-- Arrays.fill(this.f, v): f's row is the j-th cell made -/
theorem q_st_fill {μ μ0 : q_M} {a ci rc rs j k n : Nat} {F : Nat → Value} {l : q_L} {f : Nat → Value} {v : Int32} {env : List Value} {Kn : List Value → q_M → Prop} {Kr : Option Value → q_M → Prop} (h : q_bld μ μ0 a ci F l rc rs) (he : env[0]? = some (.ref a)) (hF : F k = .ref (a + 1 + j)) (hj : l[j]? = some (.inr (.inl (.int, n)), f)) (hn : n < 2 ^ 31)
    (kk : ∀ μ', q_bld μ' μ0 a ci F (l.set j (.inr (.inl (.int, n)), fun i => if i < n then .int v else f i)) rc rs → Kn env μ') : q_sx (q_cs q_ov 2 0 0 fJ7_fill_53178 (q_ac Value.ref (q_fr ci k (q_r 0)) (q_ac Value.int (q_k v) q_an))) env μ Kn Kr := by
  have hl := h.2.2.2.1 j _ hj
  refine ⟨a, he, h.1, a + 1 + j, by rw [h.2.1]; exact hF, rfl, Nat.zero_le _, Nat.zero_le _, (fun r m => r = none ∧ m = q_bud 0 0 (μ.1, q_fillm μ.2 (a + 1 + j) n (.int v))), h_fill (n := n) hl.1 hn ⟨rfl, rfl⟩, fun r m ⟨e1, e2⟩ => ⟨(), e1, ?_⟩⟩
  rw [e2]
  refine kk (μ.1, q_fillm μ.2 (a + 1 + j) n (.int v)) (q_bld_set h hj ?_ ?_)
  · funext i
    unfold q_fillm
    rw [hl.2]
    simp
  · intro q hq
    funext i
    simp [q_fillm, hq]
end
