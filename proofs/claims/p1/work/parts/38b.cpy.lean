section
/-! arraycopy as a step of its own -/
def cpK (A : Nat) (S : Int32) (Bq : Nat) (D N : Int32) (μ : q_M) (K : q_M → Prop) : Prop := ∃ n0 n1 : Nat, μ.1.1 A = some (.inr (.inl (.int, n0))) ∧ μ.1.1 Bq = some (.inr (.inl (.int, n1))) ∧
  ¬ S < 0 ∧ ¬ D < 0 ∧ ¬ N < 0 ∧ S.toNatClampNeg + N.toNatClampNeg ≤ n0 ∧ D.toNatClampNeg + N.toNatClampNeg ≤ n1 ∧ (∀ i, i < N.toNatClampNeg → ∃ z, μ.2 A (S.toNatClampNeg + i) = .int z) ∧
  K (μ.1, q_cpm μ.2 A S.toNatClampNeg Bq D.toNatClampNeg N.toNatClampNeg)
theorem cpK_eq (A : Nat) (S : Int32) (Bq : Nat) (D N : Int32) (μ : q_M) (K : Unit → q_M → Prop) : (∃ (a b : Nat) (sp dp n : Int32) (n0 n1 : Nat), ([.ref A, .int S, .ref Bq, .int D, .int N] : List Value) = [.ref a, .int sp, .ref b, .int dp, .int n] ∧ μ.1.1 a = some (.inr (.inl (.int, n0))) ∧ μ.1.1 b = some (.inr (.inl (.int, n1))) ∧
  ¬ sp < 0 ∧ ¬ dp < 0 ∧ ¬ n < 0 ∧ sp.toNatClampNeg + n.toNatClampNeg ≤ n0 ∧ dp.toNatClampNeg + n.toNatClampNeg ≤ n1 ∧ (∀ i, i < n.toNatClampNeg → ∃ z, μ.2 a (sp.toNatClampNeg + i) = .int z) ∧
  K () (μ.1, q_cpm μ.2 a sp.toNatClampNeg b dp.toNatClampNeg n.toNatClampNeg)) = cpK A S Bq D N μ (K ()) := by
  refine propext ⟨fun ⟨a, b, sp, dp, n, n0, n1, e, h⟩ => ?_, fun ⟨n0, n1, h⟩ => ⟨A, Bq, S, D, N, n0, n1, rfl, h⟩⟩
  simp only [List.cons.injEq, Value.ref.injEq, Value.int.injEq, and_true] at e
  obtain ⟨rfl, rfl, rfl, rfl, rfl⟩ := e
  exact ⟨n0, n1, h⟩
theorem e_cpy (ra : q_E Nat) (ea : q_E Int32) (rb : q_E Nat) (eb en : q_E Int32) : q_cpy (q_ac Value.ref ra (q_ac Value.int ea (q_ac Value.ref rb (q_ac Value.int eb (q_ac Value.int en q_an))))) = fun env μ K => ra env μ fun A μ => ea env μ fun S μ => rb env μ fun Bq μ => eb env μ fun D μ => en env μ fun N μ => cpK A S Bq D N μ (K ()) := by
  funext env μ K
  unfold q_cpy
  simp only [q_ac, q_an, cpK_eq]
theorem cp_mk {T : Nat → Option q_T} {nx rc rs A Bq m0 m1 : Nat} {R : Nat → Nat → Option Value} {G : Nat → Int → Int} {S D N : Int} {K : q_M → Prop} (hTa : T A = some (.inr (.inl (.int, m0)))) (hTb : T Bq = some (.inr (.inl (.int, m1)))) (ha : ∀ k, R A k = none) (hb : ∀ k, R Bq k = none)
    (hs : 0 ≤ S) (hd : 0 ≤ D) (hn : 0 ≤ N) (h1 : S + N ≤ m0) (h2 : D + N ≤ m1) (hm0 : m0 ≤ 65536) (hm1 : m1 ≤ 65536) :
    cpK A (zI S) Bq (zI D) (zI N) (st T nx rc rs R G) K = K (st T nx rc rs R (cpG G A S Bq D N)) :=
  (cpK_eq A (zI S) Bq (zI D) (zI N) (st T nx rc rs R G) (fun _ => K)).symm.trans (cpy_mk (K := fun _ => K) hTa hTb ha hb hs hd hn h1 h2 hm0 hm1)
end
section
/-! switch -/
noncomputable def swK (df : q_S) (v : Int32) (env : List Value) (μ : q_M) (Kn : List Value → q_M → Prop) (Kr : Option Value → q_M → Prop) : List q_S → Int → Prop
  | [], _ => df env μ Kn Kr
  | s :: r, lo => @ite Prop (v.toInt = lo) (Classical.propDecidable _) (s env μ Kn Kr) (swK df v env μ Kn Kr r (lo + 1))
theorem swK_eq (df : q_S) (v : Int32) (env : List Value) (μ : q_M) (Kn : List Value → q_M → Prop) (Kr : Option Value → q_M → Prop) : ∀ (cs : List q_S) (lo : Int), lo ≤ v.toInt → ((q_cas env μ Kn Kr v cs lo ∧ (lo + (cs.length : Int) ≤ v.toInt → df env μ Kn Kr)) ↔ swK df v env μ Kn Kr cs lo) := by
  intro cs
  induction cs with
  | nil =>
    intro lo h
    constructor
    · intro q
      exact q.2 (by simp only [List.length_nil]; omega)
    · intro q
      exact ⟨trivial, fun _ => q⟩
  | cons s r ih =>
    intro lo h
    show (((v.toInt = lo → s env μ Kn Kr) ∧ q_cas env μ Kn Kr v r (lo + 1)) ∧ _) ↔ @ite Prop (v.toInt = lo) (Classical.propDecidable _) (s env μ Kn Kr) (swK df v env μ Kn Kr r (lo + 1))
    by_cases e : v.toInt = lo
    · rw [if_pos e]
      constructor
      · intro q
        exact q.1.1 e
      · intro q
        refine ⟨⟨fun _ => q, ?_⟩, fun w => by rw [List.length_cons] at w; omega⟩
        have none : ∀ (cs : List q_S) (l2 : Int), v.toInt < l2 → q_cas env μ Kn Kr v cs l2 := by
          intro cs
          induction cs with
          | nil => intro l2 _; trivial
          | cons s2 r2 ih2 => intro l2 w; exact ⟨fun w2 => by omega, ih2 (l2 + 1) (by omega)⟩
        exact none r (lo + 1) (by omega)
    · rw [if_neg e, ← ih (lo + 1) (by omega)]
      constructor
      · intro q
        exact ⟨q.1.2, fun w => q.2 (by rw [List.length_cons]; omega)⟩
      · intro q
        exact ⟨⟨fun w => absurd w e, q.1⟩, fun w => q.2 (by rw [List.length_cons] at w; omega)⟩
/-- of a value that is not below the first case -/
def swL (lo : Int) (cs : List q_S) (df : q_S) (v : Int32) (env : List Value) (μ : q_M) (Kn : List Value → q_M → Prop) (Kr : Option Value → q_M → Prop) : Prop := q_cas env μ Kn Kr v cs lo ∧ ((v.toInt < lo ∨ lo + (cs.length : Int) ≤ v.toInt) → df env μ Kn Kr)
theorem k_sw (lo : Int) (cs : List q_S) (df : q_S) (e : q_E Int32) (env : List Value) (μ : q_M) (Kn : List Value → q_M → Prop) (Kr : Option Value → q_M → Prop) : q_sw lo cs df e env μ Kn Kr = e env μ fun v m => swL lo cs df v env m Kn Kr := rfl
theorem k_sw1 {lo z : Int} {cs : List q_S} {df : q_S} {env : List Value} {μ : q_M} {Kn : List Value → q_M → Prop} {Kr : Option Value → q_M → Prop} (h : lo ≤ z) (h1 : -2147483648 ≤ z) (h2 : z < 2147483648) : swL lo cs df (zI z) env μ Kn Kr = swK df (zI z) env μ Kn Kr cs lo := by
  have hz := zI_toInt h1 h2
  rw [← propext (swK_eq df (zI z) env μ Kn Kr cs lo (by omega))]
  refine propext ⟨fun q => ⟨q.1, fun w => q.2 (Or.inr w)⟩, fun q => ⟨q.1, fun w => q.2 (by omega)⟩⟩
theorem k_sw2 {lo z : Int} {cs : List q_S} {df : q_S} {env : List Value} {μ : q_M} {Kn : List Value → q_M → Prop} {Kr : Option Value → q_M → Prop} (h : z < lo) (h1 : -2147483648 ≤ z) (h2 : z < 2147483648) : swL lo cs df (zI z) env μ Kn Kr = df env μ Kn Kr := by
  have hz := zI_toInt h1 h2
  have none : ∀ (cs : List q_S) (l2 : Int), (zI z).toInt < l2 → q_cas env μ Kn Kr (zI z) cs l2 := by
    intro cs
    induction cs with
    | nil => intro l2 _; trivial
    | cons s2 r2 ih2 => intro l2 w; exact ⟨fun w2 => by omega, ih2 (l2 + 1) (by omega)⟩
  refine propext ⟨fun q => q.2 (by omega), fun q => ⟨none cs lo (by omega), fun _ => q⟩⟩
theorem k_sw3 (df s : q_S) (r : List q_S) (lo z : Int) (env : List Value) (μ : q_M) (Kn : List Value → q_M → Prop) (Kr : Option Value → q_M → Prop) (h1 : -2147483648 ≤ z) (h2 : z < 2147483648) : swK df (zI z) env μ Kn Kr (s :: r) lo = @ite Prop (z = lo) (Classical.propDecidable _) (s env μ Kn Kr) (swK df (zI z) env μ Kn Kr r (lo + 1)) := by
  show @ite Prop ((zI z).toInt = lo) (Classical.propDecidable _) (s env μ Kn Kr) (swK df (zI z) env μ Kn Kr r (lo + 1)) = _
  rw [zI_toInt h1 h2]
theorem k_sw4 (df : q_S) (v : Int32) (lo : Int) (env : List Value) (μ : q_M) (Kn : List Value → q_M → Prop) (Kr : Option Value → q_M → Prop) : swK df v env μ Kn Kr [] lo = df env μ Kn Kr := rfl
end
