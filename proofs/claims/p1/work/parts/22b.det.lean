section
/-! each doing has one outcome, or none: so it is told by 'it is K of this answer and this memory' -/
def q_dE {V : Type} (f : q_E V) : Prop := ∀ env μ, (∃ v μ', ∀ K, f env μ K ↔ K v μ') ∨ ∀ K, ¬ f env μ K
def q_dC (c : q_C) : Prop := ∀ env μ, (∃ μ', ∀ T F, c env μ T F ↔ T μ') ∨ (∃ μ', ∀ T F, c env μ T F ↔ F μ') ∨ ∀ T F, ¬ c env μ T F
def q_dS (s : q_S) : Prop := ∀ env μ, (∃ e' μ', ∀ Kn Kr, s env μ Kn Kr ↔ Kn e' μ') ∨ (∃ r μ', ∀ Kn Kr, s env μ Kn Kr ↔ Kr r μ') ∨ ∀ Kn Kr, ¬ s env μ Kn Kr
def q_dF (f : q_F) : Prop := ∀ vs μ, (∃ r μ', ∀ K, f vs μ K ↔ K r μ') ∨ ∀ K, ¬ f vs μ K
/-- what is computed is the one outcome -/
theorem q_dF.is {f : q_F} (h : q_dF f) {vs : List Value} {μ μ' : q_M} {r : Option Value} (hc : f vs μ (fun r' m' => r' = r ∧ m' = μ')) (K : Option Value → q_M → Prop) : f vs μ K ↔ K r μ' := by
  rcases h vs μ with ⟨r1, μ1, h1⟩ | h1
  · have h2 := (h1 _).mp hc
    rw [h1 K, h2.1, h2.2]
  · exact absurd hc (h1 _)
theorem q_dF.mono {f : q_F} (h : q_dF f) {vs : List Value} {μ : q_M} {K K' : Option Value → q_M → Prop} (hc : f vs μ K) (hk : ∀ r m, K r m → K' r m) : f vs μ K' := by
  rcases h vs μ with ⟨r1, μ1, h1⟩ | h1
  · exact (h1 _).mpr (hk _ _ ((h1 _).mp hc))
  · exact absurd hc (h1 _)
theorem q_dE.bind {V : Type} {f : q_E V} (h : q_dE f) (env : List Value) (μ : q_M) {P : (V → q_M → Prop) → Prop} (h1 : ∀ v μ', (∀ K, f env μ K ↔ K v μ') → P (fun a b => a = v ∧ b = μ')) : True := trivial
-- expressions
theorem d_pure {V : Type} (v : V) : q_dE (fun _ μ K => K v μ) := fun _ μ => Or.inl ⟨v, μ, fun _ => Iff.rfl⟩
theorem d_k (v : Int32) : q_dE (q_k v) := d_pure v
theorem d_kl (v : Int64) : q_dE (q_kl v) := d_pure v
theorem d_an : q_dE q_an := d_pure []
theorem d_bind {V U : Type} {f : q_E V} (h : q_dE f) {g : List Value → V → q_M → (U → q_M → Prop) → Prop} (hg : ∀ env v μ, (∃ u μ', ∀ K, g env v μ K ↔ K u μ') ∨ ∀ K, ¬ g env v μ K) : q_dE (fun env μ K => f env μ fun v μ => g env v μ K) := by
  intro env μ
  rcases h env μ with ⟨v, μ1, h1⟩ | h1
  · rcases hg env v μ1 with ⟨u, μ2, h2⟩ | h2
    · exact Or.inl ⟨u, μ2, fun K => (h1 _).trans (h2 K)⟩
    · exact Or.inr fun K h3 => h2 K ((h1 _).mp h3)
  · exact Or.inr fun K => h1 _
theorem d_if {V : Type} {P : Prop} {v : V} {μ : q_M} : (∃ u μ', ∀ K : V → q_M → Prop, (P ∧ K v μ) ↔ K u μ') ∨ ∀ K : V → q_M → Prop, ¬ (P ∧ K v μ) := by
  by_cases h : P
  · exact Or.inl ⟨v, μ, fun K => ⟨fun q => q.2, fun q => ⟨h, q⟩⟩⟩
  · exact Or.inr fun K q => h q.1
theorem d_ex {V A : Type} {P : A → Prop} {w : A → V} {m : A → q_M} (hu : ∀ x y, P x → P y → w x = w y ∧ m x = m y) : (∃ u μ', ∀ K : V → q_M → Prop, (∃ x, P x ∧ K (w x) (m x)) ↔ K u μ') ∨ ∀ K : V → q_M → Prop, ¬ ∃ x, P x ∧ K (w x) (m x) := by
  by_cases h : ∃ x, P x
  · obtain ⟨x, hx⟩ := h
    refine Or.inl ⟨w x, m x, fun K => ⟨fun ⟨y, hy, hk⟩ => ?_, fun hk => ⟨x, hx, hk⟩⟩⟩
    have := hu x y hx hy
    rw [this.1, this.2]
    exact hk
  · exact Or.inr fun K ⟨x, hx, _⟩ => h ⟨x, hx⟩
theorem d_l (i : Nat) : q_dE (q_l i) := fun env μ => d_ex (w := fun v => v) (m := fun _ => μ) fun x y hx hy => ⟨by rw [hx] at hy; cases hy; rfl, rfl⟩
theorem d_r (i : Nat) : q_dE (q_r i) := fun env μ => d_ex (w := fun v => v) (m := fun _ => μ) fun x y hx hy => ⟨by rw [hx] at hy; cases hy; rfl, rfl⟩
theorem d_2 {g : Int32 → Int32 → Int32} {a b : q_E Int32} (ha : q_dE a) (hb : q_dE b) : q_dE (q_2 g a b) := by
  intro env μ
  rcases ha env μ with ⟨v, μ1, h1⟩ | h1
  · rcases hb env μ1 with ⟨u, μ2, h2⟩ | h2
    · exact Or.inl ⟨g v u, μ2, fun K => (h1 _).trans (h2 _)⟩
    · exact Or.inr fun K h3 => h2 _ ((h1 _).mp h3)
  · exact Or.inr fun K => h1 _
theorem d_2l {g : Int64 → Int64 → Int64} {a b : q_E Int64} (ha : q_dE a) (hb : q_dE b) : q_dE (q_2l g a b) := by
  intro env μ
  rcases ha env μ with ⟨v, μ1, h1⟩ | h1
  · rcases hb env μ1 with ⟨u, μ2, h2⟩ | h2
    · exact Or.inl ⟨g v u, μ2, fun K => (h1 _).trans (h2 _)⟩
    · exact Or.inr fun K h3 => h2 _ ((h1 _).mp h3)
  · exact Or.inr fun K => h1 _
theorem d_2c {a b : q_E Int64} (ha : q_dE a) (hb : q_dE b) : q_dE (q_2c a b) := by
  intro env μ
  rcases ha env μ with ⟨v, μ1, h1⟩ | h1
  · rcases hb env μ1 with ⟨u, μ2, h2⟩ | h2
    · exact Or.inl ⟨lg_cmp v u, μ2, fun K => (h1 _).trans (h2 _)⟩
    · exact Or.inr fun K h3 => h2 _ ((h1 _).mp h3)
  · exact Or.inr fun K => h1 _
theorem d_2d {g : Int32 → Int32 → Int32} {a b : q_E Int32} (ha : q_dE a) (hb : q_dE b) : q_dE (q_2d g a b) := by
  intro env μ
  rcases ha env μ with ⟨v, μ1, h1⟩ | h1
  · rcases hb env μ1 with ⟨u, μ2, h2⟩ | h2
    · by_cases e : u = 0
      · exact Or.inr fun K h3 => ((h2 _).mp ((h1 _).mp h3)).1 e
      · exact Or.inl ⟨g v u, μ2, fun K => ((h1 _).trans (h2 _)).trans ⟨fun q => q.2, fun q => ⟨e, q⟩⟩⟩
    · exact Or.inr fun K h3 => h2 _ ((h1 _).mp h3)
  · exact Or.inr fun K => h1 _
theorem d_1 {g : Int32 → Int32} {a : q_E Int32} (ha : q_dE a) : q_dE (q_1 g a) := d_bind ha fun _ v μ => Or.inl ⟨g v, μ, fun _ => Iff.rfl⟩
theorem d_il {a : q_E Int32} (ha : q_dE a) : q_dE (q_il a) := d_bind ha fun _ v μ => Or.inl ⟨v.toInt64, μ, fun _ => Iff.rfl⟩
theorem d_fi {ci k : Nat} {r : q_E Nat} (hr : q_dE r) : q_dE (q_fi ci k r) := d_bind hr fun _ a μ => by
  by_cases h : μ.1.1 a = some (.inl ci)
  · rcases d_ex (V := Int32) (P := fun v => μ.2 a k = .int v) (w := fun v => v) (m := fun _ => μ) (fun x y hx hy => ⟨by rw [hx] at hy; cases hy; rfl, rfl⟩) with ⟨u, m, h1⟩ | h1
    · exact Or.inl ⟨u, m, fun K => ⟨fun q => (h1 K).mp q.2, fun q => ⟨h, (h1 K).mpr q⟩⟩⟩
    · exact Or.inr fun K q => h1 K q.2
  · exact Or.inr fun K q => h q.1
theorem d_fr {ci k : Nat} {r : q_E Nat} (hr : q_dE r) : q_dE (q_fr ci k r) := d_bind hr fun _ a μ => by
  by_cases h : μ.1.1 a = some (.inl ci)
  · rcases d_ex (V := Nat) (P := fun v => μ.2 a k = .ref v) (w := fun v => v) (m := fun _ => μ) (fun x y hx hy => ⟨by rw [hx] at hy; cases hy; rfl, rfl⟩) with ⟨u, m, h1⟩ | h1
    · exact Or.inl ⟨u, m, fun K => ⟨fun q => (h1 K).mp q.2, fun q => ⟨h, (h1 K).mpr q⟩⟩⟩
    · exact Or.inr fun K q => h1 K q.2
  · exact Or.inr fun K q => h q.1
theorem d_arr {V : Type} {u : V → Value} (hu : ∀ x y, u x = u y → x = y) {r : q_E Nat} {i : q_E Int32} {P : q_M → Nat → Nat → Prop} (hP : ∀ μ a m n, P μ a m → P μ a n → m = n) (hr : q_dE r) (hi : q_dE i) :
    q_dE (fun env μ (K : V → q_M → Prop) => r env μ fun a μ => i env μ fun j μ => ∃ n, P μ a n ∧ vp_in j n ∧ ∃ v, μ.2 a j.toNatClampNeg = u v ∧ K v μ) := by
  refine d_bind hr fun env a μ => ?_
  rcases hi env μ with ⟨j, μ1, h1⟩ | h1
  · by_cases h : ∃ n, P μ1 a n ∧ vp_in j n
    · obtain ⟨n, g1, g2⟩ := h
      by_cases h3 : ∃ v, μ1.2 a j.toNatClampNeg = u v
      · obtain ⟨v, hv⟩ := h3
        refine Or.inl ⟨v, μ1, fun K => (h1 _).trans ⟨fun ⟨n', _, _, v', e, hk⟩ => ?_, fun hk => ⟨n, g1, g2, v, hv, hk⟩⟩⟩
        rw [hu v v' (hv.symm.trans e)]
        exact hk
      · exact Or.inr fun K hk => h3 (by obtain ⟨_, _, _, v, e, _⟩ := (h1 _).mp hk; exact ⟨v, e⟩)
    · exact Or.inr fun K hk => h (by obtain ⟨n, e1, e2, _⟩ := (h1 _).mp hk; exact ⟨n, e1, e2⟩)
  · exact Or.inr fun K => h1 _
theorem d_ai {r : q_E Nat} {i : q_E Int32} (hr : q_dE r) (hi : q_dE i) : q_dE (q_ai r i) := d_arr (u := Value.int) (fun _ _ h => by cases h; rfl) (P := fun μ a n => μ.1.1 a = some (.inr (.inl (.int, n)))) (fun μ a m n h1 h2 => by rw [h1] at h2; cases h2; rfl) hr hi
theorem d_az {r : q_E Nat} {i : q_E Int32} (hr : q_dE r) (hi : q_dE i) : q_dE (q_az r i) := d_arr (u := Value.int) (fun _ _ h => by cases h; rfl) (P := fun μ a n => μ.1.1 a = some (.inr (.inl (.boolean, n)))) (fun μ a m n h1 h2 => by rw [h1] at h2; cases h2; rfl) hr hi
theorem d_si {r : q_E Nat} {i : q_E Int32} (hr : q_dE r) (hi : q_dE i) : q_dE (q_si r i) := d_arr (u := Value.int) (fun _ _ h => by cases h; rfl) (P := fun μ a n => μ.1.1 a = some (.inr (.inr n))) (fun μ a m n h1 h2 => by rw [h1] at h2; cases h2; rfl) hr hi
theorem d_ar {r : q_E Nat} {i : q_E Int32} (hr : q_dE r) (hi : q_dE i) : q_dE (q_ar r i) := by
  have h := d_arr (u := Value.ref) (fun _ _ h => by cases h; rfl) (P := fun μ a n => ∃ ty, μ.1.1 a = some (.inr (.inl (ty, n))) ∧ ty.isReference = true) (fun μ a m n h1 h2 => by
    obtain ⟨t1, e1, _⟩ := h1
    obtain ⟨t2, e2, _⟩ := h2
    rw [e1] at e2; cases e2; rfl) hr hi
  intro env μ
  have e : ∀ K, q_ar r i env μ K ↔ (r env μ fun a μ => i env μ fun j μ => ∃ n, (∃ ty, μ.1.1 a = some (.inr (.inl (ty, n))) ∧ ty.isReference = true) ∧ vp_in j n ∧ ∃ v, μ.2 a j.toNatClampNeg = .ref v ∧ K v μ) := by
    intro K
    unfold q_ar
    have hc : (fun (a : Nat) (μ : q_M) => i env μ fun j μ => ∃ ty n, μ.1.1 a = some (.inr (.inl (ty, n))) ∧ ty.isReference = true ∧ vp_in j n ∧ ∃ v, μ.2 a j.toNatClampNeg = .ref v ∧ K v μ) = (fun (a : Nat) (μ : q_M) => i env μ fun j μ => ∃ n, (∃ ty, μ.1.1 a = some (.inr (.inl (ty, n))) ∧ ty.isReference = true) ∧ vp_in j n ∧ ∃ v, μ.2 a j.toNatClampNeg = .ref v ∧ K v μ) := by
      funext a μ
      congr 1
      funext j μ
      apply propext
      constructor
      · rintro ⟨ty, n, h1, h2, h3, h4⟩
        exact ⟨n, ⟨ty, h1, h2⟩, h3, h4⟩
      · rintro ⟨n, ⟨ty, h1, h2⟩, h3, h4⟩
        exact ⟨ty, n, h1, h2, h3, h4⟩
    rw [hc]
  rcases h env μ with ⟨v, μ1, h1⟩ | h1
  · exact Or.inl ⟨v, μ1, fun K => (e K).trans (h1 K)⟩
  · exact Or.inr fun K hk => h1 K ((e K).mp hk)
theorem d_sl {r : q_E Nat} (hr : q_dE r) : q_dE (q_sl r) := d_bind hr fun _ a μ => d_ex (w := fun n => nI n) (m := fun _ => μ) fun x y hx hy => ⟨by rw [hx] at hy; cases hy; rfl, rfl⟩
theorem d_al {r : q_E Nat} (hr : q_dE r) : q_dE (q_al r) := d_bind hr fun _ a μ => by
  rcases d_ex (V := Int32) (A := FieldType × Nat) (P := fun p => μ.1.1 a = some (.inr (.inl (p.1, p.2)))) (w := fun p => nI p.2) (m := fun _ => μ) (fun x y hx hy => by
    have h9 := hx.symm.trans hy
    simp only [Option.some.injEq, Sum.inr.injEq, Sum.inl.injEq, Prod.mk.injEq] at h9
    exact ⟨by rw [h9.2], rfl⟩) with ⟨u, m, h1⟩ | h1
  · exact Or.inl ⟨u, m, fun K => ⟨fun ⟨ty, n, e, k⟩ => (h1 K).mp ⟨(ty, n), e, k⟩, fun q => by obtain ⟨p, e, k⟩ := (h1 K).mpr q; exact ⟨p.1, p.2, e, k⟩⟩⟩
  · exact Or.inr fun K ⟨ty, n, e, k⟩ => h1 K ⟨(ty, n), e, k⟩
theorem d_te {V : Type} {c : q_C} {a b : q_E V} (hc : q_dC c) (ha : q_dE a) (hb : q_dE b) : q_dE (q_te c a b) := by
  intro env μ
  rcases hc env μ with ⟨μ1, h1⟩ | ⟨μ1, h1⟩ | h1
  · rcases ha env μ1 with ⟨u, μ2, h2⟩ | h2
    · exact Or.inl ⟨u, μ2, fun K => (h1 _ _).trans (h2 K)⟩
    · exact Or.inr fun K h3 => h2 K ((h1 _ _).mp h3)
  · rcases hb env μ1 with ⟨u, μ2, h2⟩ | h2
    · exact Or.inl ⟨u, μ2, fun K => (h1 _ _).trans (h2 K)⟩
    · exact Or.inr fun K h3 => h2 K ((h1 _ _).mp h3)
  · exact Or.inr fun K => h1 _ _
theorem d_ac {V : Type} {u : V → Value} {e : q_E V} {r : q_E (List Value)} (he : q_dE e) (hr : q_dE r) : q_dE (q_ac u e r) := by
  intro env μ
  rcases he env μ with ⟨v, μ1, h1⟩ | h1
  · rcases hr env μ1 with ⟨vs, μ2, h2⟩ | h2
    · exact Or.inl ⟨u v :: vs, μ2, fun K => (h1 _).trans (h2 _)⟩
    · exact Or.inr fun K h3 => h2 _ ((h1 _).mp h3)
  · exact Or.inr fun K => h1 _
theorem d_ret {V : Type} {res : V → Option Value} (hi : ∀ x y, res x = res y → x = y) {f : q_F} (hf : q_dF f) (P : Prop) (vs : List Value) (m : q_M) (g : q_M → q_M) :
    (∃ u μ', ∀ K : V → q_M → Prop, (P ∧ ∃ K' : Option Value → q_M → Prop, f vs m K' ∧ ∀ (r : Option Value) (μ' : q_M), K' r μ' → ∃ v, r = res v ∧ K v (g μ')) ↔ K u μ') ∨ ∀ K : V → q_M → Prop, ¬ (P ∧ ∃ K' : Option Value → q_M → Prop, f vs m K' ∧ ∀ (r : Option Value) (μ' : q_M), K' r μ' → ∃ v, r = res v ∧ K v (g μ')) := by
  by_cases hp : P
  · rcases hf vs m with ⟨r, μ1, h1⟩ | h1
    · by_cases h2 : ∃ v, r = res v
      · obtain ⟨v, rfl⟩ := h2
        refine Or.inl ⟨v, g μ1, fun K => ⟨fun ⟨_, K', hk, hr⟩ => ?_, fun hk => ⟨hp, (fun r' m' => r' = res v ∧ m' = μ1), (h1 _).mpr ⟨rfl, rfl⟩, fun r' m' ⟨e1, e2⟩ => ⟨v, e1, by rw [e2]; exact hk⟩⟩⟩⟩
        obtain ⟨v', e, hk'⟩ := hr _ _ ((h1 _).mp hk)
        rw [hi v v' e]
        exact hk'
      · exact Or.inr fun K ⟨_, K', hk, hr⟩ => h2 (by obtain ⟨v, e, _⟩ := hr _ _ ((h1 _).mp hk); exact ⟨v, e⟩)
    · exact Or.inr fun K ⟨_, K', hk, _⟩ => h1 _ hk
  · exact Or.inr fun K h => hp h.1
theorem q_inji : ∀ x y, q_oi x = q_oi y → x = y := fun _ _ h => by cases h; rfl
theorem q_injr : ∀ x y, q_or x = q_or y → x = y := fun _ _ h => by cases h; rfl
theorem q_injv : ∀ x y, q_ov x = q_ov y → x = y := fun _ _ _ => rfl
theorem d_cs {V : Type} {res : V → Option Value} (hi : ∀ x y, res x = res y → x = y) {n mc ms : Nat} {f : q_F} {a : q_E (List Value)} (hf : q_dF f) (ha : q_dE a) : q_dE (q_cs res n mc ms f a) := d_bind ha fun _ vs μ => by
  rcases d_ret (V := V) hi hf (vs.length = n ∧ mc ≤ μ.1.2.2.1 ∧ ms ≤ μ.1.2.2.2) vs (q_bud mc ms μ) (fun μ' => q_bud (μ.1.2.2.1 - mc) (μ.1.2.2.2 - ms) μ') with ⟨u, m, h⟩ | h
  · exact Or.inl ⟨u, m, fun K => ⟨fun ⟨a1, a2, a3, a4⟩ => (h K).mp ⟨⟨a1, a2, a3⟩, a4⟩, fun q => by obtain ⟨⟨a1, a2, a3⟩, a4⟩ := (h K).mpr q; exact ⟨a1, a2, a3, a4⟩⟩⟩
  · exact Or.inr fun K ⟨a1, a2, a3, a4⟩ => h K ⟨⟨a1, a2, a3⟩, a4⟩
theorem d_cv {V : Type} {res : V → Option Value} (hi : ∀ x y, res x = res y → x = y) {ci n mc ms : Nat} {f : q_F} {r : q_E Nat} {a : q_E (List Value)} (hf : q_dF f) (hr : q_dE r) (ha : q_dE a) : q_dE (q_cv res ci n mc ms f r a) := by
  refine d_bind hr fun env b μ0 => ?_
  rcases ha env μ0 with ⟨vs, μ, h1⟩ | h1
  · rcases d_ret (V := V) hi hf (vs.length = n ∧ μ.1.1 b = some (.inl ci) ∧ mc ≤ μ.1.2.2.1 ∧ ms ≤ μ.1.2.2.2) (.ref b :: vs) (q_bud mc ms μ) (fun μ' => q_bud (μ.1.2.2.1 - mc) (μ.1.2.2.2 - ms) μ') with ⟨u, m, h⟩ | h
    · exact Or.inl ⟨u, m, fun K => (h1 _).trans ⟨fun ⟨a1, a2, a3, a4, a5⟩ => (h K).mp ⟨⟨a1, a2, a3, a4⟩, a5⟩, fun q => by obtain ⟨⟨a1, a2, a3, a4⟩, a5⟩ := (h K).mpr q; exact ⟨a1, a2, a3, a4, a5⟩⟩⟩
    · exact Or.inr fun K hk => by
        obtain ⟨a1, a2, a3, a4, a5⟩ := (h1 _).mp hk
        exact h K ⟨⟨a1, a2, a3, a4⟩, a5⟩
  · exact Or.inr fun K => h1 _
theorem d_cpy {e : q_E (List Value)} (he : q_dE e) : q_dE (q_cpy e) := d_bind he fun _ vs μ => by
  by_cases h : ∃ (a b : Nat) (sp dp n : Int32) (n0 n1 : Nat), vs = [.ref a, .int sp, .ref b, .int dp, .int n] ∧ μ.1.1 a = some (.inr (.inl (.int, n0))) ∧ μ.1.1 b = some (.inr (.inl (.int, n1))) ∧ ¬ sp < 0 ∧ ¬ dp < 0 ∧ ¬ n < 0 ∧ sp.toNatClampNeg + n.toNatClampNeg ≤ n0 ∧ dp.toNatClampNeg + n.toNatClampNeg ≤ n1 ∧ (∀ i, i < n.toNatClampNeg → ∃ z, μ.2 a (sp.toNatClampNeg + i) = .int z)
  · obtain ⟨a, b, sp, dp, n, n0, n1, e1, e2, e3, e4, e5, e6, e7, e8, e9⟩ := h
    refine Or.inl ⟨(), _, fun K => ⟨fun ⟨a', b', sp', dp', n', n0', n1', f1, f2, f3, f4, f5, f6, f7, f8, f9, hk⟩ => ?_, fun hk => ⟨a, b, sp, dp, n, n0, n1, e1, e2, e3, e4, e5, e6, e7, e8, e9, hk⟩⟩⟩
    rw [e1] at f1
    cases f1
    exact hk
  · exact Or.inr fun K ⟨a', b', sp', dp', n', n0', n1', f1, f2, f3, f4, f5, f6, f7, f8, f9, _⟩ => h ⟨a', b', sp', dp', n', n0', n1', f1, f2, f3, f4, f5, f6, f7, f8, f9⟩
-- conditions
theorem d_cm {R : Int32 → Int32 → Prop} {a b : q_E Int32} (ha : q_dE a) (hb : q_dE b) : q_dC (q_cm R a b) := by
  intro env μ
  rcases ha env μ with ⟨v, μ1, h1⟩ | h1
  · rcases hb env μ1 with ⟨u, μ2, h2⟩ | h2
    · by_cases e : R v u
      · exact Or.inl ⟨μ2, fun T F => ((h1 _).trans (h2 _)).trans ⟨fun q => q.1 e, fun q => ⟨fun _ => q, fun k => absurd e k⟩⟩⟩
      · exact Or.inr (Or.inl ⟨μ2, fun T F => ((h1 _).trans (h2 _)).trans ⟨fun q => q.2 e, fun q => ⟨fun k => absurd k e, fun _ => q⟩⟩⟩)
    · exact Or.inr (Or.inr fun T F h3 => h2 _ ((h1 _).mp h3))
  · exact Or.inr (Or.inr fun T F => h1 _)
theorem d_cz {R : Int32 → Int32 → Prop} {a : q_E Int32} (ha : q_dE a) : q_dC (q_cz R a) := by
  intro env μ
  rcases ha env μ with ⟨v, μ1, h1⟩ | h1
  · by_cases e : R v 0
    · exact Or.inl ⟨μ1, fun T F => (h1 _).trans ⟨fun q => q.1 e, fun q => ⟨fun _ => q, fun k => absurd e k⟩⟩⟩
    · exact Or.inr (Or.inl ⟨μ1, fun T F => (h1 _).trans ⟨fun q => q.2 e, fun q => ⟨fun k => absurd k e, fun _ => q⟩⟩⟩)
  · exact Or.inr (Or.inr fun T F => h1 _)
theorem d_no {c : q_C} (hc : q_dC c) : q_dC (q_no c) := by
  intro env μ
  rcases hc env μ with ⟨μ1, h1⟩ | ⟨μ1, h1⟩ | h1
  · exact Or.inr (Or.inl ⟨μ1, fun T F => h1 F T⟩)
  · exact Or.inl ⟨μ1, fun T F => h1 F T⟩
  · exact Or.inr (Or.inr fun T F => h1 F T)
theorem d_ci {c d e : q_C} (hc : q_dC c) (hd : q_dC d) (he : q_dC e) : q_dC (q_ci c d e) := by
  intro env μ
  rcases hc env μ with ⟨μ1, h1⟩ | ⟨μ1, h1⟩ | h1
  · rcases hd env μ1 with ⟨μ2, h2⟩ | ⟨μ2, h2⟩ | h2
    · exact Or.inl ⟨μ2, fun T F => (h1 _ _).trans (h2 T F)⟩
    · exact Or.inr (Or.inl ⟨μ2, fun T F => (h1 _ _).trans (h2 T F)⟩)
    · exact Or.inr (Or.inr fun T F h3 => h2 T F ((h1 _ _).mp h3))
  · rcases he env μ1 with ⟨μ2, h2⟩ | ⟨μ2, h2⟩ | h2
    · exact Or.inl ⟨μ2, fun T F => (h1 _ _).trans (h2 T F)⟩
    · exact Or.inr (Or.inl ⟨μ2, fun T F => (h1 _ _).trans (h2 T F)⟩)
    · exact Or.inr (Or.inr fun T F h3 => h2 T F ((h1 _ _).mp h3))
  · exact Or.inr (Or.inr fun T F => h1 _ _)
theorem d_cT : q_dC (fun _ μ T _ => T μ) := fun _ μ => Or.inl ⟨μ, fun _ _ => Iff.rfl⟩
theorem d_cF : q_dC (fun _ μ _ F => F μ) := fun _ μ => Or.inr (Or.inl ⟨μ, fun _ _ => Iff.rfl⟩)
theorem d_an2 {c d : q_C} (hc : q_dC c) (hd : q_dC d) : q_dC (q_an2 c d) := d_ci hc hd d_cF
theorem d_or2 {c d : q_C} (hc : q_dC c) (hd : q_dC d) : q_dC (q_or2 c d) := d_ci hc d_cT hd
-- statements
theorem d_sbind {V : Type} {f : q_E V} (h : q_dE f) {P : List Value → V → q_M → Prop} {e' : List Value → V → q_M → List Value} {m' : List Value → V → q_M → q_M} : q_dS (fun env μ Kn _ => f env μ fun v μ => P env v μ ∧ Kn (e' env v μ) (m' env v μ)) := by
  intro env μ
  rcases h env μ with ⟨v, μ1, h1⟩ | h1
  · by_cases hp : P env v μ1
    · exact Or.inl ⟨_, _, fun Kn Kr => (h1 _).trans ⟨fun q => q.2, fun q => ⟨hp, q⟩⟩⟩
    · exact Or.inr (Or.inr fun Kn Kr q => hp ((h1 _).mp q).1)
  · exact Or.inr (Or.inr fun Kn Kr => h1 _)
theorem d_sset {V : Type} {u : V → Value} {i : Nat} {e : q_E V} (he : q_dE e) : q_dS (q_sset u i e) := d_sbind (P := fun env _ _ => i < env.length) (e' := fun env v _ => env.set i (u v)) (m' := fun _ _ μ => μ) he
theorem d_sdec {V : Type} {u : V → Value} {i : Nat} {e : q_E V} (he : q_dE e) : q_dS (q_sdec u i e) := d_sbind (P := fun env _ _ => env.length = i) (e' := fun env v _ => env ++ [u v]) (m' := fun _ _ μ => μ) he
theorem d_sinc {i : Nat} {n : Int} : q_dS (q_sinc i n) := by
  intro env μ
  by_cases h : ∃ v, env[i]? = some (.int v)
  · obtain ⟨v, hv⟩ := h
    refine Or.inl ⟨_, μ, fun Kn Kr => ⟨fun ⟨v', e, hk⟩ => ?_, fun hk => ⟨v, hv, hk⟩⟩⟩
    rw [hv] at e
    cases e
    exact hk
  · exact Or.inr (Or.inr fun Kn Kr ⟨v, e, _⟩ => h ⟨v, e⟩)
theorem d_spf {V : Type} {u : V → Value} {ok : V → Prop} {ci k : Nat} {r : q_E Nat} {e : q_E V} (hr : q_dE r) (he : q_dE e) : q_dS (q_spf u ok ci k r e) := by
  intro env μ
  rcases hr env μ with ⟨a, μ1, h1⟩ | h1
  · rcases he env μ1 with ⟨v, μ2, h2⟩ | h2
    · by_cases hp : μ2.1.1 a = some (.inl ci) ∧ ok v
      · exact Or.inl ⟨_, _, fun Kn Kr => ((h1 _).trans (h2 _)).trans ⟨fun q => q.2.2, fun q => ⟨hp.1, hp.2, q⟩⟩⟩
      · exact Or.inr (Or.inr fun Kn Kr q => hp (by have := (h2 _).mp ((h1 _).mp q); exact ⟨this.1, this.2.1⟩))
    · exact Or.inr (Or.inr fun Kn Kr q => h2 _ ((h1 _).mp q))
  · exact Or.inr (Or.inr fun Kn Kr => h1 _)
theorem d_sof {ci k : Nat} {g : Int32 → Int32 → Int32} {r : q_E Nat} {e : q_E Int32} (hr : q_dE r) (he : q_dE e) : q_dS (q_sof ci k g r e) := by
  intro env μ
  rcases hr env μ with ⟨a, μ1, h1⟩ | h1
  · by_cases hp : μ1.1.1 a = some (.inl ci) ∧ ∃ w, μ1.2 a k = .int w
    · obtain ⟨hp1, w, hw⟩ := hp
      rcases he env μ1 with ⟨v, μ2, h2⟩ | h2
      · by_cases hq : μ2.1.1 a = some (.inl ci)
        · refine Or.inl ⟨env, q_set μ2 a k (.int (g w v)), fun Kn Kr => (h1 _).trans ⟨fun ⟨_, w', e1, hk⟩ => ?_, fun q => ⟨hp1, w, hw, (h2 _).mpr ⟨hq, q⟩⟩⟩⟩
          rw [hw] at e1
          cases e1
          exact ((h2 _).mp hk).2
        · exact Or.inr (Or.inr fun Kn Kr q => by
            obtain ⟨_, w', e1, hk⟩ := (h1 _).mp q
            exact hq ((h2 _).mp hk).1)
      · exact Or.inr (Or.inr fun Kn Kr q => by
          obtain ⟨_, w', e1, hk⟩ := (h1 _).mp q
          exact h2 _ hk)
    · exact Or.inr (Or.inr fun Kn Kr q => by
        obtain ⟨e0, w', e1, hk⟩ := (h1 _).mp q
        exact hp ⟨e0, w', e1⟩)
  · exact Or.inr (Or.inr fun Kn Kr => h1 _)
theorem d_sai {r : q_E Nat} {i e : q_E Int32} (hr : q_dE r) (hi : q_dE i) (he : q_dE e) : q_dS (q_sai r i e) := by
  intro env μ
  rcases hr env μ with ⟨a, μ1, h1⟩ | h1
  · rcases hi env μ1 with ⟨j, μ2, h2⟩ | h2
    · rcases he env μ2 with ⟨v, μ3, h3⟩ | h3
      · by_cases hp : ∃ n, μ3.1.1 a = some (.inr (.inl (.int, n))) ∧ vp_in j n
        · obtain ⟨n, g1, g2⟩ := hp
          exact Or.inl ⟨_, _, fun Kn Kr => (((h1 _).trans (h2 _)).trans (h3 _)).trans ⟨fun ⟨_, _, _, q⟩ => q, fun q => ⟨n, g1, g2, q⟩⟩⟩
        · exact Or.inr (Or.inr fun Kn Kr q => hp (by obtain ⟨n, g1, g2, _⟩ := (h3 _).mp ((h2 _).mp ((h1 _).mp q)); exact ⟨n, g1, g2⟩))
      · exact Or.inr (Or.inr fun Kn Kr q => h3 _ ((h2 _).mp ((h1 _).mp q)))
    · exact Or.inr (Or.inr fun Kn Kr q => h2 _ ((h1 _).mp q))
  · exact Or.inr (Or.inr fun Kn Kr => h1 _)
theorem d_saz {r : q_E Nat} {i e : q_E Int32} (hr : q_dE r) (hi : q_dE i) (he : q_dE e) : q_dS (q_saz r i e) := by
  intro env μ
  rcases hr env μ with ⟨a, μ1, h1⟩ | h1
  · rcases hi env μ1 with ⟨j, μ2, h2⟩ | h2
    · rcases he env μ2 with ⟨v, μ3, h3⟩ | h3
      · by_cases hp : ∃ n, μ3.1.1 a = some (.inr (.inl (.boolean, n))) ∧ vp_in j n ∧ narrow .boolean (.int v) = .int v
        · obtain ⟨n, g1, g2, g3⟩ := hp
          exact Or.inl ⟨_, _, fun Kn Kr => (((h1 _).trans (h2 _)).trans (h3 _)).trans ⟨fun ⟨_, _, _, _, q⟩ => q, fun q => ⟨n, g1, g2, g3, q⟩⟩⟩
        · exact Or.inr (Or.inr fun Kn Kr q => hp (by obtain ⟨n, g1, g2, g3, _⟩ := (h3 _).mp ((h2 _).mp ((h1 _).mp q)); exact ⟨n, g1, g2, g3⟩))
      · exact Or.inr (Or.inr fun Kn Kr q => h3 _ ((h2 _).mp ((h1 _).mp q)))
    · exact Or.inr (Or.inr fun Kn Kr q => h2 _ ((h1 _).mp q))
  · exact Or.inr (Or.inr fun Kn Kr => h1 _)
theorem d_soa {g : Int32 → Int32 → Int32} {r : q_E Nat} {i e : q_E Int32} (hr : q_dE r) (hi : q_dE i) (he : q_dE e) : q_dS (q_soa g r i e) := by
  intro env μ
  rcases hr env μ with ⟨a, μ1, h1⟩ | h1
  · rcases hi env μ1 with ⟨j, μ2, h2⟩ | h2
    · by_cases hp : ∃ n, μ2.1.1 a = some (.inr (.inl (.int, n))) ∧ vp_in j n ∧ ∃ w, μ2.2 a j.toNatClampNeg = .int w
      · obtain ⟨n, g1, g2, w, hw⟩ := hp
        rcases he env μ2 with ⟨v, μ3, h3⟩ | h3
        · by_cases hq : μ3.1.1 a = some (.inr (.inl (.int, n)))
          · refine Or.inl ⟨env, q_set μ3 a j.toNatClampNeg (.int (g w v)), fun Kn Kr => ((h1 _).trans (h2 _)).trans ⟨fun ⟨n', e0, _, w', e1, hk⟩ => ?_, fun q => ⟨n, g1, g2, w, hw, (h3 _).mpr ⟨hq, q⟩⟩⟩⟩
            rw [hw] at e1
            cases e1
            exact ((h3 _).mp hk).2
          · exact Or.inr (Or.inr fun Kn Kr q => by
              obtain ⟨n', e0, _, w', e1, hk⟩ := (h2 _).mp ((h1 _).mp q)
              rw [g1] at e0
              cases e0
              exact hq ((h3 _).mp hk).1)
        · exact Or.inr (Or.inr fun Kn Kr q => by
            obtain ⟨n', e0, _, w', e1, hk⟩ := (h2 _).mp ((h1 _).mp q)
            exact h3 _ hk)
      · exact Or.inr (Or.inr fun Kn Kr q => by
          obtain ⟨n', e0, e2, w', e1, hk⟩ := (h2 _).mp ((h1 _).mp q)
          exact hp ⟨n', e0, e2, w', e1⟩)
    · exact Or.inr (Or.inr fun Kn Kr q => h2 _ ((h1 _).mp q))
  · exact Or.inr (Or.inr fun Kn Kr => h1 _)
theorem d_sx {V : Type} {e : q_E V} (he : q_dE e) : q_dS (q_sx e) := by
  intro env μ
  rcases he env μ with ⟨v, μ1, h1⟩ | h1
  · exact Or.inl ⟨env, μ1, fun Kn Kr => h1 _⟩
  · exact Or.inr (Or.inr fun Kn Kr => h1 _)
theorem d_srv : q_dS q_srv := fun _ μ => Or.inr (Or.inl ⟨none, μ, fun _ _ => Iff.rfl⟩)
theorem d_sri {ok : Int32 → Prop} {e : q_E Int32} (he : q_dE e) : q_dS (q_sri ok e) := by
  intro env μ
  rcases he env μ with ⟨v, μ1, h1⟩ | h1
  · by_cases hp : ok v
    · exact Or.inr (Or.inl ⟨some (.int v), μ1, fun Kn Kr => (h1 _).trans ⟨fun q => q.2, fun q => ⟨hp, q⟩⟩⟩)
    · exact Or.inr (Or.inr fun Kn Kr q => hp ((h1 _).mp q).1)
  · exact Or.inr (Or.inr fun Kn Kr => h1 _)
theorem d_srr {e : q_E Nat} (he : q_dE e) : q_dS (q_srr e) := by
  intro env μ
  rcases he env μ with ⟨v, μ1, h1⟩ | h1
  · exact Or.inr (Or.inl ⟨some (.ref v), μ1, fun Kn Kr => h1 _⟩)
  · exact Or.inr (Or.inr fun Kn Kr => h1 _)
theorem d_nop : q_dS q_nop := fun env μ => Or.inl ⟨env, μ, fun _ _ => Iff.rfl⟩
theorem d_sq {s t : q_S} (hs : q_dS s) (ht : q_dS t) : q_dS (q_sq s t) := by
  intro env μ
  rcases hs env μ with ⟨e1, μ1, h1⟩ | ⟨r, μ1, h1⟩ | h1
  · rcases ht e1 μ1 with ⟨e2, μ2, h2⟩ | ⟨r, μ2, h2⟩ | h2
    · exact Or.inl ⟨e2, μ2, fun Kn Kr => (h1 _ _).trans (h2 Kn Kr)⟩
    · exact Or.inr (Or.inl ⟨r, μ2, fun Kn Kr => (h1 _ _).trans (h2 Kn Kr)⟩)
    · exact Or.inr (Or.inr fun Kn Kr q => h2 Kn Kr ((h1 _ _).mp q))
  · exact Or.inr (Or.inl ⟨r, μ1, fun Kn Kr => h1 _ Kr⟩)
  · exact Or.inr (Or.inr fun Kn Kr => h1 _ _)
theorem d_blk {n : Nat} {s : q_S} (hs : q_dS s) : q_dS (q_blk n s) := by
  intro env μ
  rcases hs env μ with ⟨e1, μ1, h1⟩ | ⟨r, μ1, h1⟩ | h1
  · exact Or.inl ⟨e1.take n, μ1, fun Kn Kr => h1 _ _⟩
  · exact Or.inr (Or.inl ⟨r, μ1, fun Kn Kr => h1 _ Kr⟩)
  · exact Or.inr (Or.inr fun Kn Kr => h1 _ _)
theorem d_sif {c : q_C} {s t : q_S} (hc : q_dC c) (hs : q_dS s) (ht : q_dS t) : q_dS (q_if c s t) := by
  intro env μ
  rcases hc env μ with ⟨μ1, h1⟩ | ⟨μ1, h1⟩ | h1
  · rcases hs env μ1 with ⟨e2, μ2, h2⟩ | ⟨r, μ2, h2⟩ | h2
    · exact Or.inl ⟨e2, μ2, fun Kn Kr => (h1 _ _).trans (h2 Kn Kr)⟩
    · exact Or.inr (Or.inl ⟨r, μ2, fun Kn Kr => (h1 _ _).trans (h2 Kn Kr)⟩)
    · exact Or.inr (Or.inr fun Kn Kr q => h2 Kn Kr ((h1 _ _).mp q))
  · rcases ht env μ1 with ⟨e2, μ2, h2⟩ | ⟨r, μ2, h2⟩ | h2
    · exact Or.inl ⟨e2, μ2, fun Kn Kr => (h1 _ _).trans (h2 Kn Kr)⟩
    · exact Or.inr (Or.inl ⟨r, μ2, fun Kn Kr => (h1 _ _).trans (h2 Kn Kr)⟩)
    · exact Or.inr (Or.inr fun Kn Kr q => h2 Kn Kr ((h1 _ _).mp q))
  · exact Or.inr (Or.inr fun Kn Kr => h1 _ _)
theorem d_it {c : q_C} {s : q_S} (hc : q_dC c) (hs : q_dS s) : ∀ n env μ, (∃ e' μ', (∀ Kn Kr, q_it c s Kn Kr n env μ ↔ Kn e' μ') ∧ ∀ Kn Kr, (∃ k, q_it c s Kn Kr k env μ) ↔ Kn e' μ') ∨ (∃ r μ', (∀ Kn Kr, q_it c s Kn Kr n env μ ↔ Kr r μ') ∧ ∀ Kn Kr, (∃ k, q_it c s Kn Kr k env μ) ↔ Kr r μ') ∨ ∀ Kn Kr, ¬ q_it c s Kn Kr n env μ := by
  intro n
  induction n with
  | zero => exact fun env μ => Or.inr (Or.inr fun _ _ h => h)
  | succ n ih =>
    intro env μ
    rcases hc env μ with ⟨μ1, h1⟩ | ⟨μ1, h1⟩ | h1
    · rcases hs env μ1 with ⟨e2, μ2, h2⟩ | ⟨r, μ2, h2⟩ | h2
      · have hstep : ∀ Kn Kr k, q_it c s Kn Kr (k + 1) env μ ↔ q_it c s Kn Kr k e2 μ2 := fun Kn Kr k => (h1 _ _).trans (h2 _ _)
        have hex : ∀ Kn Kr, (∃ k, q_it c s Kn Kr k env μ) ↔ ∃ k, q_it c s Kn Kr k e2 μ2 := fun Kn Kr => ⟨fun ⟨k, hk⟩ => by
          cases k with
          | zero => exact absurd hk id
          | succ k => exact ⟨k, (hstep Kn Kr k).mp hk⟩, fun ⟨k, hk⟩ => ⟨k + 1, (hstep Kn Kr k).mpr hk⟩⟩
        rcases ih e2 μ2 with ⟨e3, μ3, h3, h4⟩ | ⟨r, μ3, h3, h4⟩ | h3
        · exact Or.inl ⟨e3, μ3, fun Kn Kr => (hstep Kn Kr n).trans (h3 Kn Kr), fun Kn Kr => (hex Kn Kr).trans (h4 Kn Kr)⟩
        · exact Or.inr (Or.inl ⟨r, μ3, fun Kn Kr => (hstep Kn Kr n).trans (h3 Kn Kr), fun Kn Kr => (hex Kn Kr).trans (h4 Kn Kr)⟩)
        · exact Or.inr (Or.inr fun Kn Kr q => h3 Kn Kr ((hstep Kn Kr n).mp q))
      · have hstep : ∀ Kn Kr k, q_it c s Kn Kr (k + 1) env μ ↔ Kr r μ2 := fun Kn Kr k => (h1 _ _).trans (h2 _ _)
        exact Or.inr (Or.inl ⟨r, μ2, fun Kn Kr => hstep Kn Kr n, fun Kn Kr => ⟨fun ⟨k, hk⟩ => by
          cases k with
          | zero => exact absurd hk id
          | succ k => exact (hstep Kn Kr k).mp hk, fun q => ⟨1, (hstep Kn Kr 0).mpr q⟩⟩⟩)
      · exact Or.inr (Or.inr fun Kn Kr q => h2 _ _ ((h1 _ _).mp q))
    · have hstep : ∀ Kn Kr k, q_it c s Kn Kr (k + 1) env μ ↔ Kn env μ1 := fun Kn Kr k => h1 _ _
      exact Or.inl ⟨env, μ1, fun Kn Kr => hstep Kn Kr n, fun Kn Kr => ⟨fun ⟨k, hk⟩ => by
        cases k with
        | zero => exact absurd hk id
        | succ k => exact (hstep Kn Kr k).mp hk, fun q => ⟨1, (hstep Kn Kr 0).mpr q⟩⟩⟩
    · exact Or.inr (Or.inr fun Kn Kr => h1 _ _)
theorem d_wh {c : q_C} {s : q_S} (hc : q_dC c) (hs : q_dS s) : q_dS (q_wh c s) := by
  intro env μ
  by_cases h : ∃ n, ¬ ∀ Kn Kr, ¬ q_it c s Kn Kr n env μ
  · obtain ⟨n, hn⟩ := h
    rcases d_it hc hs n env μ with ⟨e1, μ1, -, h2⟩ | ⟨r, μ1, -, h2⟩ | h1
    · exact Or.inl ⟨e1, μ1, h2⟩
    · exact Or.inr (Or.inl ⟨r, μ1, h2⟩)
    · exact absurd h1 hn
  · exact Or.inr (Or.inr fun Kn Kr ⟨n, hk⟩ => h ⟨n, fun q => q Kn Kr hk⟩)
def q_dL : List q_S → Prop
  | [] => True
  | s :: r => q_dS s ∧ q_dL r
theorem d_cas {v : Int32} : ∀ (cs : List q_S) (lo : Int), q_dL cs → ∀ env μ, (v.toInt < lo ∨ lo + (cs.length : Int) ≤ v.toInt → ∀ Kn Kr, q_cas env μ Kn Kr v cs lo) ∧ (¬ (v.toInt < lo ∨ lo + (cs.length : Int) ≤ v.toInt) → (∃ s, q_dS s ∧ ∀ Kn Kr, q_cas env μ Kn Kr v cs lo ↔ s env μ Kn Kr)) := by
  intro cs
  induction cs with
  | nil => exact fun lo _ env μ => ⟨fun _ _ _ => trivial, fun h => absurd (by simp at h ⊢; omega) h⟩
  | cons s r ih =>
    intro lo hd env μ
    obtain ⟨i1, i2⟩ := ih (lo + 1) hd.2 env μ
    refine ⟨fun h Kn Kr => ⟨fun e => absurd h (by simp; omega), i1 (by simp at h; omega) Kn Kr⟩, fun h => ?_⟩
    by_cases e : v.toInt = lo
    · refine ⟨s, hd.1, fun Kn Kr => ⟨fun q => q.1 e, fun q => ⟨fun _ => q, i1 (by omega) Kn Kr⟩⟩⟩
    · obtain ⟨s2, d2, h2⟩ := i2 (by simp at h; omega)
      exact ⟨s2, d2, fun Kn Kr => ⟨fun q => (h2 Kn Kr).mp q.2, fun q => ⟨fun k => absurd k e, (h2 Kn Kr).mpr q⟩⟩⟩
theorem d_sw {lo : Int} {cs : List q_S} {df : q_S} {e : q_E Int32} (hcs : q_dL cs) (hdf : q_dS df) (he : q_dE e) : q_dS (q_sw lo cs df e) := by
  intro env μ
  rcases he env μ with ⟨v, μ1, h1⟩ | h1
  · obtain ⟨i1, i2⟩ := d_cas (v := v) cs lo hcs env μ1
    by_cases h : v.toInt < lo ∨ lo + (cs.length : Int) ≤ v.toInt
    · have hh : ∀ Kn Kr, q_sw lo cs df e env μ Kn Kr ↔ df env μ1 Kn Kr := fun Kn Kr => (h1 _).trans ⟨fun q => q.2 h, fun q => ⟨i1 h Kn Kr, fun _ => q⟩⟩
      rcases hdf env μ1 with ⟨e2, μ2, h2⟩ | ⟨r, μ2, h2⟩ | h2
      · exact Or.inl ⟨e2, μ2, fun Kn Kr => (hh Kn Kr).trans (h2 Kn Kr)⟩
      · exact Or.inr (Or.inl ⟨r, μ2, fun Kn Kr => (hh Kn Kr).trans (h2 Kn Kr)⟩)
      · exact Or.inr (Or.inr fun Kn Kr q => h2 Kn Kr ((hh Kn Kr).mp q))
    · obtain ⟨s, ds, hs⟩ := i2 h
      have hh : ∀ Kn Kr, q_sw lo cs df e env μ Kn Kr ↔ s env μ1 Kn Kr := fun Kn Kr => (h1 _).trans ⟨fun q => (hs Kn Kr).mp q.1, fun q => ⟨(hs Kn Kr).mpr q, fun k => absurd k h⟩⟩
      rcases ds env μ1 with ⟨e2, μ2, h2⟩ | ⟨r, μ2, h2⟩ | h2
      · exact Or.inl ⟨e2, μ2, fun Kn Kr => (hh Kn Kr).trans (h2 Kn Kr)⟩
      · exact Or.inr (Or.inl ⟨r, μ2, fun Kn Kr => (hh Kn Kr).trans (h2 Kn Kr)⟩)
      · exact Or.inr (Or.inr fun Kn Kr q => h2 Kn Kr ((hh Kn Kr).mp q))
  · exact Or.inr (Or.inr fun Kn Kr => h1 _)
theorem d_mk {maxL : Nat} {s : q_S} (hs : q_dS s) : q_dF (q_mk maxL s) := by
  intro vs μ
  by_cases hp : (∀ v ∈ vs, v.category = 1) ∧ vs.length ≤ maxL
  · rcases hs vs μ with ⟨e2, μ2, h2⟩ | ⟨r, μ2, h2⟩ | h2
    · exact Or.inr fun K q => (h2 _ _).mp q.2.2
    · exact Or.inl ⟨r, μ2, fun K => ⟨fun q => (h2 _ _).mp q.2.2, fun q => ⟨hp.1, hp.2, (h2 _ _).mpr q⟩⟩⟩
    · exact Or.inr fun K q => h2 _ _ q.2.2
  · exact Or.inr fun K q => hp ⟨q.1, q.2.1⟩
theorem d_never : q_dF (fun _ _ _ => False) := fun _ _ => Or.inr fun _ => id
theorem dX12_in : q_dF fX12_in := by
  intro vs μ
  by_cases h : ∃ a b c : Int64, vs = [.long a, .long b, .long c]
  · obtain ⟨a, b, c, rfl⟩ := h
    refine Or.inl ⟨some (.int (if b ≤ a ∧ a ≤ c then 1 else 0)), μ, fun K => ⟨fun ⟨a', b', c', e, hk⟩ => ?_, fun hk => ⟨a, b, c, rfl, hk⟩⟩⟩
    cases e
    exact hk
  · exact Or.inr fun K ⟨a, b, c, e, _⟩ => h ⟨a, b, c, e⟩
end
