section
theorem q_dC.mono {c : q_C} (h : q_dC c) {env : List Value} {μ : q_M} {T F T' F' : q_M → Prop} (hc : c env μ T F) (hT : ∀ m, T m → T' m) (hF : ∀ m, F m → F' m) : c env μ T' F' := by
  rcases h env μ with ⟨m, h1⟩ | ⟨m, h1⟩ | h1
  · exact (h1 _ _).mpr (hT _ ((h1 _ _).mp hc))
  · exact (h1 _ _).mpr (hF _ ((h1 _ _).mp hc))
  · exact absurd hc (h1 _ _)
theorem q_dS.mono {s : q_S} (h : q_dS s) {env : List Value} {μ : q_M} {Kn Kn' : List Value → q_M → Prop} {Kr Kr' : Option Value → q_M → Prop} (hs : s env μ Kn Kr) (hn : ∀ e m, Kn e m → Kn' e m) (hr : ∀ r m, Kr r m → Kr' r m) : s env μ Kn' Kr' := by
  rcases h env μ with ⟨e, m, h1⟩ | ⟨r, m, h1⟩ | h1
  · exact (h1 _ _).mpr (hn _ _ ((h1 _ _).mp hs))
  · exact (h1 _ _).mpr (hr _ _ ((h1 _ _).mp hs))
  · exact absurd hs (h1 _ _)
/-- a loop, by an invariant and a measure that falls -/
theorem q_loop {c : q_C} {s : q_S} (hc : q_dC c) (hs : q_dS s) {Kn : List Value → q_M → Prop} {Kr : Option Value → q_M → Prop} (I : Nat → List Value → q_M → Prop)
    (step : ∀ n env μ, I n env μ → c env μ (fun μ' => s env μ' (fun e m => ∃ k, k < n ∧ I k e m) Kr) (fun μ' => Kn env μ')) : ∀ n env μ, I n env μ → q_wh c s env μ Kn Kr := by
  have key : ∀ N n env μ, n ≤ N → I n env μ → ∃ k, q_it c s Kn Kr k env μ := by
    intro N
    induction N with
    | zero =>
      intro n env μ hn hI
      have h0 := step n env μ hI
      refine ⟨1, hc.mono h0 (fun m h1 => hs.mono h1 (fun e m2 ⟨k, hk, _⟩ => absurd hk (by omega)) (fun _ _ h => h)) (fun _ h => h)⟩
    | succ N ih =>
      intro n env μ hn hI
      have h0 := step n env μ hI
      rcases hc env μ with ⟨m, h1⟩ | ⟨m, h1⟩ | h1
      · have h2 := (h1 _ _).mp h0
        rcases hs env m with ⟨e, m2, h3⟩ | ⟨r, m2, h3⟩ | h3
        · obtain ⟨k, hk, hI2⟩ := (h3 _ _).mp h2
          obtain ⟨j, hj⟩ := ih k e m2 (by omega) hI2
          exact ⟨j + 1, (h1 _ _).mpr ((h3 _ _).mpr hj)⟩
        · exact ⟨1, (h1 _ _).mpr ((h3 _ _).mpr ((h3 _ _).mp h2))⟩
        · exact absurd h2 (h3 _ _)
      · exact ⟨1, (h1 _ _).mpr ((h1 _ _).mp h0)⟩
      · exact absurd h0 (h1 _ _)
  intro n env μ hI
  exact key n n env μ (Nat.le_refl _) hI
/-- a for-loop over an int local i that goes up by one from lo to hi: I k holds with k in the local -/
def q_fillm (M : Nat → Nat → Value) (a i : Nat) (v : Value) : Nat → Nat → Value := fun q j => if q = a ∧ j < i then v else M q j
theorem h_fill {a n : Nat} {v : Int32} {μ : q_M} {K : Option Value → q_M → Prop} (ht : μ.1.1 a = some (.inr (.inl (.int, n)))) (hn : n < 2 ^ 31) (hk : K none (μ.1, q_fillm μ.2 a n (.int v))) : fJ7_fill_53178 [.ref a, .int v] μ K := by
  simp only [fJ7_fill_53178, sJ7_fill_53178_, q_mk, q_sq, q_blk, q_sdec, q_k, q_al, q_r, List.getElem?_cons_zero, List.getElem?_cons_succ, List.length_cons, List.length_nil, List.set_cons_zero, List.set_cons_succ, List.cons_append, List.nil_append, List.take_succ_cons, List.take_zero, Option.some.injEq, Value.int.injEq, Value.ref.injEq, exists_eq_left, exists_eq_left', List.forall_mem_cons, List.not_mem_nil, Value.category, true_and, and_true, Nat.zero_le, forall_const, implies_true, Nat.zero_add, Nat.reduceAdd, Nat.reduceLT, Nat.reduceLeDiff, q_callI, q_callV, q_bud0, q_bok1, q_bok0]
  refine ⟨by simp [Value.category], FieldType.int, n, ht, ?_⟩
  refine q_loop (d_cm (d_l _) (d_l _)) (d_sq (d_sai (d_r _) (d_l _) (d_l _)) d_sinc) (fun k env m => ∃ i, i + k = n ∧ env = [.ref a, .int v, .int (nI i), .int (nI n)] ∧ m = (μ.1, q_fillm μ.2 a i (.int v))) ?_ n _ _ ⟨0, by omega, rfl, ?_⟩
  · intro k env m ⟨i, hi, he, hm⟩
    subst he hm
    simp only [q_cm, q_l, q_sq, q_sai, q_r, q_sinc, q_Rlt, List.getElem?_cons_zero, List.getElem?_cons_succ, List.length_cons, List.length_nil, List.set_cons_zero, List.set_cons_succ, List.cons_append, List.nil_append, List.take_succ_cons, List.take_zero, Option.some.injEq, Value.int.injEq, Value.ref.injEq, exists_eq_left, exists_eq_left', List.forall_mem_cons, List.not_mem_nil, Value.category, true_and, and_true, Nat.zero_le, forall_const, implies_true, Nat.zero_add, Nat.reduceAdd, Nat.reduceLT, Nat.reduceLeDiff, q_callI, q_callV, q_bud0, q_bok1, q_bok0]
    refine ⟨fun h => ?_, fun h => ?_⟩
    · have hlt : i < n := (nI_ltI (by omega) hn).mp h
      refine ⟨n, ht, vp_in_nI hlt hn, k - 1, by omega, i + 1, by omega, ?_, ?_⟩
      · show [Value.ref a, .int v, .int (nI i + Int32.ofInt 1), .int (nI n)] = _
        rw [show nI i + Int32.ofInt 1 = nI (i + 1) from nI_1 i]
      · rw [nI_clamp (by omega)]
        refine Prod.ext rfl ?_
        funext q j
        show (if q = a ∧ j = i then Value.int v else q_fillm μ.2 a i (.int v) q j) = q_fillm μ.2 a (i + 1) (.int v) q j
        unfold q_fillm
        by_cases h1 : q = a
        · by_cases h2 : j = i
          · simp [h1, h2]
          · by_cases h3 : j < i
            · simp [h1, h2, h3, Nat.lt_succ_of_lt h3]
            · simp [h1, h2, h3, show ¬ j < i + 1 by omega]
        · simp [h1]
    · have hge : i = n := by
        have h2 : ¬ i < n := fun h3 => h ((nI_ltI (by omega) hn).mpr h3)
        omega
      subst hge
      exact hk
  · refine Prod.ext rfl ?_
    funext q j
    simp [q_fillm]
end
