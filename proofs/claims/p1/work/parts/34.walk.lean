section
/-! walking a doing from its head on: what comes after is not looked at before it is reached. Each rule is used with ↓. -/
theorem iteK_eq (p A B : Prop) : @ite Prop (p) (Classical.propDecidable _) (A) (B) = ((p → A) ∧ (¬ p → B)) := by
  by_cases h : p
  · rw [if_pos h]
    exact propext ⟨fun a => ⟨fun _ => a, fun n => absurd h n⟩, fun a => a.1 h⟩
  · rw [if_neg h]
    exact propext ⟨fun a => ⟨fun q => absurd q h, fun _ => a⟩, fun a => a.2 h⟩
def opK (x : Int32) (μ : q_M) (K : Int32 → q_M → Prop) : Prop := K x μ
def ilK (u : Int32) (μ : q_M) (K : Int64 → q_M → Prop) : Prop := K u.toInt64 μ
def olK (u : Int64) (μ : q_M) (K : Int64 → q_M → Prop) : Prop := K u μ
def fiK (ci k a : Nat) (μ : q_M) (K : Int32 → q_M → Prop) : Prop := μ.1.1 a = some (.inl ci) ∧ ∃ v, μ.2 a k = .int v ∧ K v μ
def frK (ci k a : Nat) (μ : q_M) (K : Nat → q_M → Prop) : Prop := μ.1.1 a = some (.inl ci) ∧ ∃ v, μ.2 a k = .ref v ∧ K v μ
def aiK (a : Nat) (j : Int32) (μ : q_M) (K : Int32 → q_M → Prop) : Prop := ∃ n, μ.1.1 a = some (.inr (.inl (.int, n))) ∧ vp_in j n ∧ ∃ v, μ.2 a j.toNatClampNeg = .int v ∧ K v μ
def azK (a : Nat) (j : Int32) (μ : q_M) (K : Int32 → q_M → Prop) : Prop := ∃ n, μ.1.1 a = some (.inr (.inl (.boolean, n))) ∧ vp_in j n ∧ ∃ v, μ.2 a j.toNatClampNeg = .int v ∧ K v μ
def arK (a : Nat) (j : Int32) (μ : q_M) (K : Nat → q_M → Prop) : Prop := ∃ ty n, μ.1.1 a = some (.inr (.inl (ty, n))) ∧ ty.isReference = true ∧ vp_in j n ∧ ∃ v, μ.2 a j.toNatClampNeg = .ref v ∧ K v μ
def saK (a : Nat) (j v : Int32) (env : List Value) (μ : q_M) (Kn : List Value → q_M → Prop) : Prop := ∃ n, μ.1.1 a = some (.inr (.inl (.int, n))) ∧ vp_in j n ∧ Kn env (q_set μ a j.toNatClampNeg (.int v))
def szK (a : Nat) (j v : Int32) (env : List Value) (μ : q_M) (Kn : List Value → q_M → Prop) : Prop := ∃ n, μ.1.1 a = some (.inr (.inl (.boolean, n))) ∧ vp_in j n ∧ narrow .boolean (.int v) = .int v ∧ Kn env (q_set μ a j.toNatClampNeg (.int v))
def soK (g : Int32 → Int32 → Int32) (a : Nat) (j : Int32) (e : q_E Int32) (env : List Value) (μ : q_M) (Kn : List Value → q_M → Prop) : Prop := ∃ n, μ.1.1 a = some (.inr (.inl (.int, n))) ∧ vp_in j n ∧ ∃ w, μ.2 a j.toNatClampNeg = .int w ∧ e env μ fun v μ => μ.1.1 a = some (.inr (.inl (.int, n))) ∧ Kn env (q_set μ a j.toNatClampNeg (.int (g w v)))
def ao2K (a n : Nat) (j x : Int32) (env : List Value) (μ : q_M) (Kn : List Value → q_M → Prop) : Prop := μ.1.1 a = some (.inr (.inl (.int, n))) ∧ Kn env (q_set μ a j.toNatClampNeg (.int x))
def sfK (ci k : Nat) (g : Int32 → Int32 → Int32) (a : Nat) (e : q_E Int32) (env : List Value) (μ : q_M) (Kn : List Value → q_M → Prop) : Prop := μ.1.1 a = some (.inl ci) ∧ ∃ w, μ.2 a k = .int w ∧ e env μ fun v μ => μ.1.1 a = some (.inl ci) ∧ Kn env (q_set μ a k (.int (g w v)))
def fo2K (ci k a : Nat) (x : Int32) (env : List Value) (μ : q_M) (Kn : List Value → q_M → Prop) : Prop := μ.1.1 a = some (.inl ci) ∧ Kn env (q_set μ a k (.int x))
def spK {V : Type} (u : V → Value) (ok : V → Prop) (ci k a : Nat) (v : V) (env : List Value) (μ : q_M) (Kn : List Value → q_M → Prop) : Prop := μ.1.1 a = some (.inl ci) ∧ ok v ∧ Kn env (q_set μ a k (u v))
def tkK (n : Nat) (env : List Value) (μ : q_M) (Kn : List Value → q_M → Prop) : Prop := Kn (env.take n) μ
def seK (i : Nat) (v : Value) (env : List Value) (μ : q_M) (Kn : List Value → q_M → Prop) : Prop := i < env.length ∧ Kn (env.set i v) μ
def deK (i : Nat) (v : Value) (env : List Value) (μ : q_M) (Kn : List Value → q_M → Prop) : Prop := env.length = i ∧ Kn (env ++ [v]) μ
def rtK (ok : Int32 → Prop) (v : Int32) (μ : q_M) (Kr : Option Value → q_M → Prop) : Prop := ok v ∧ Kr (some (.int v)) μ
def csK {V : Type} (res : V → Option Value) (n mc ms : Nat) (f : q_F) (vs : List Value) (μ : q_M) (K : V → q_M → Prop) : Prop := vs.length = n ∧ mc ≤ μ.1.2.2.1 ∧ ms ≤ μ.1.2.2.2 ∧ ∃ K' : Option Value → q_M → Prop, f vs (q_bud mc ms μ) K' ∧ ∀ (r : Option Value) (μ' : q_M), K' r μ' → ∃ v, r = res v ∧ K v (q_bud (μ.1.2.2.1 - mc) (μ.1.2.2.2 - ms) μ')
def cvK {V : Type} (res : V → Option Value) (ci n mc ms : Nat) (f : q_F) (b : Nat) (vs : List Value) (μ : q_M) (K : V → q_M → Prop) : Prop := vs.length = n ∧ μ.1.1 b = some (.inl ci) ∧ mc ≤ μ.1.2.2.1 ∧ ms ≤ μ.1.2.2.2 ∧ ∃ K' : Option Value → q_M → Prop, f (.ref b :: vs) (q_bud mc ms μ) K' ∧ ∀ (r : Option Value) (μ' : q_M), K' r μ' → ∃ v, r = res v ∧ K v (q_bud (μ.1.2.2.1 - mc) (μ.1.2.2.2 - ms) μ')
def rsK {V : Type} (res : V → Option Value) (rc rs : Nat) (r : Option Value) (μ : q_M) (K : V → q_M → Prop) : Prop := ∃ v, r = res v ∧ K v (q_bud rc rs μ)
theorem k_mk (maxL : Nat) (f : q_S) (vs : List Value) (μ : q_M) (K : Option Value → q_M → Prop) : q_mk maxL f vs μ K = @ite Prop ((∀ v ∈ vs, v.category = 1) ∧ vs.length ≤ maxL) (Classical.propDecidable _) (f vs μ (fun _ _ => False) K) (False) := by
  rw [iteK_eq]
  exact propext ⟨fun h => ⟨fun _ => h.2.2, fun n => n ⟨h.1, h.2.1⟩⟩, fun h => by
    by_cases q : (∀ v ∈ vs, v.category = 1) ∧ vs.length ≤ maxL
    · exact ⟨q.1, q.2, h.1 q⟩
    · exact (h.2 q).elim⟩
def seqK (t : q_S) (Kn : List Value → q_M → Prop) (Kr : Option Value → q_M → Prop) (e : List Value) (m : q_M) : Prop := t e m Kn Kr
def blkK (n : Nat) (Kn : List Value → q_M → Prop) (e : List Value) (m : q_M) : Prop := tkK n e m Kn
theorem k_sq (s t : q_S) (env : List Value) (μ : q_M) (Kn : List Value → q_M → Prop) (Kr : Option Value → q_M → Prop) : q_sq s t env μ Kn Kr = s env μ (seqK t Kn Kr) Kr := rfl
theorem k_sk (t : q_S) (env : List Value) (μ : q_M) (Kn : List Value → q_M → Prop) (Kr : Option Value → q_M → Prop) : seqK t Kn Kr env μ = t env μ Kn Kr := rfl
theorem k_bk (n : Nat) (env : List Value) (μ : q_M) (Kn : List Value → q_M → Prop) : blkK n Kn env μ = tkK n env μ Kn := rfl
theorem k_if (c : q_C) (s t : q_S) (env : List Value) (μ : q_M) (Kn : List Value → q_M → Prop) (Kr : Option Value → q_M → Prop) : q_if c s t env μ Kn Kr = c env μ (fun m => s env m Kn Kr) (fun m => t env m Kn Kr) := rfl
theorem k_te {V : Type} (c : q_C) (a b : q_E V) (env : List Value) (μ : q_M) (K : V → q_M → Prop) : q_te c a b env μ K = c env μ (fun m => a env m K) (fun m => b env m K) := rfl
theorem k_cm (R : Int32 → Int32 → Prop) (a b : q_E Int32) (env : List Value) (μ : q_M) (T F : q_M → Prop) : q_cm R a b env μ T F = a env μ fun u m => b env m fun v m2 => @ite Prop (R u v) (Classical.propDecidable _) (T m2) (F m2) := by
  simp only [iteK_eq]
  rfl
theorem k_cz (R : Int32 → Int32 → Prop) (a : q_E Int32) (env : List Value) (μ : q_M) (T F : q_M → Prop) : q_cz R a env μ T F = a env μ fun u m => @ite Prop (R u (zI 0)) (Classical.propDecidable _) (T m) (F m) := by
  simp only [iteK_eq]
  rfl
theorem k_an2 (c d : q_C) (env : List Value) (μ : q_M) (T F : q_M → Prop) : q_an2 c d env μ T F = c env μ (fun m => d env m T F) F := rfl
theorem k_or2 (c d : q_C) (env : List Value) (μ : q_M) (T F : q_M → Prop) : q_or2 c d env μ T F = c env μ T (fun m => d env m T F) := rfl
theorem k_no (c : q_C) (env : List Value) (μ : q_M) (T F : q_M → Prop) : q_no c env μ T F = c env μ F T := rfl
theorem k_ci (c d e : q_C) (env : List Value) (μ : q_M) (T F : q_M → Prop) : q_ci c d e env μ T F = c env μ (fun m => d env m T F) (fun m => e env m T F) := rfl
theorem kl {i : Nat} {env : List Value} {v : Int32} {μ : q_M} {K : Int32 → q_M → Prop} (h : env[i]? = some (.int v)) : q_l i env μ K = K v μ := propext ⟨fun ⟨w, h2, k⟩ => by
  rw [h] at h2
  cases h2
  exact k, fun k => ⟨v, h, k⟩⟩
theorem kr {i : Nat} {env : List Value} {v : Nat} {μ : q_M} {K : Nat → q_M → Prop} (h : env[i]? = some (.ref v)) : q_r i env μ K = K v μ := propext ⟨fun ⟨w, h2, k⟩ => by
  rw [h] at h2
  cases h2
  exact k, fun k => ⟨v, h, k⟩⟩
theorem k_l0 {e : List Value} {v : Int32} {μ : q_M} {K : Int32 → q_M → Prop} : q_l 0 (.int v :: e) μ K = K v μ := kl rfl
theorem k_r0 {e : List Value} {v : Nat} {μ : q_M} {K : Nat → q_M → Prop} : q_r 0 (.ref v :: e) μ K = K v μ := kr rfl
theorem k_se0 {x v : Value} {e : List Value} {μ : q_M} {Kn : List Value → q_M → Prop} : seK 0 v (x :: e) μ Kn = Kn (v :: e) μ := propext ⟨fun h => h.2, fun h => ⟨by simp only [List.length_cons]; omega, h⟩⟩
theorem k_ic0 {n v : Int} {e : List Value} {μ : q_M} {Kn : List Value → q_M → Prop} {Kr : Option Value → q_M → Prop} : q_sinc 0 n (.int (zI v) :: e) μ Kn Kr = Kn (.int (zI (v + n)) :: e) μ := propext ⟨fun ⟨w, h, k⟩ => by
  have h2 : w = zI v := by injection h with h; injection h with h; exact h.symm
  subst h2
  rw [show zI v + Int32.ofInt n = zI (v + n) from zI_add v n] at k
  exact k, fun k => ⟨zI v, rfl, by
  rw [show zI v + Int32.ofInt n = zI (v + n) from zI_add v n]
  exact k⟩⟩
theorem k_cs0 {V : Type} {res : V → Option Value} {f : q_F} {T : Nat → Option q_T} {nx rc rs : Nat} {R : Nat → Nat → Option Value} {G : Nat → Int → Int} {K : V → q_M → Prop} (hf : q_dF f) : csK res 0 0 0 f [] (st T nx rc rs R G) K = f [] (st T nx 0 0 R G) (fun r m => rsK res rc rs r m K) := propext ⟨fun ⟨_, _, _, K', h1, h2⟩ => hf.mono h1 h2, fun h => ⟨rfl, Nat.zero_le _, Nat.zero_le _, _, h, fun r m q => q⟩⟩
theorem k_cv0 {V : Type} {res : V → Option Value} {ci a : Nat} {f : q_F} {T : Nat → Option q_T} {nx rc rs : Nat} {R : Nat → Nat → Option Value} {G : Nat → Int → Int} {K : V → q_M → Prop} (hf : q_dF f) (hT : T a = some (.inl ci)) : cvK res ci 0 0 0 f a [] (st T nx rc rs R G) K = f (.ref a :: []) (st T nx 0 0 R G) (fun r m => rsK res rc rs r m K) := propext ⟨fun ⟨_, _, _, _, K', h1, h2⟩ => hf.mono h1 h2, fun h => ⟨rfl, hT, Nat.zero_le _, Nat.zero_le _, _, h, fun r m q => q⟩⟩
theorem k_l1 {x0 : Value} {e : List Value} {v : Int32} {μ : q_M} {K : Int32 → q_M → Prop} : q_l 1 (x0 :: .int v :: e) μ K = K v μ := kl rfl
theorem k_r1 {x0 : Value} {e : List Value} {v : Nat} {μ : q_M} {K : Nat → q_M → Prop} : q_r 1 (x0 :: .ref v :: e) μ K = K v μ := kr rfl
theorem k_se1 {x0 : Value} {x v : Value} {e : List Value} {μ : q_M} {Kn : List Value → q_M → Prop} : seK 1 v (x0 :: x :: e) μ Kn = Kn (x0 :: v :: e) μ := propext ⟨fun h => h.2, fun h => ⟨by simp only [List.length_cons]; omega, h⟩⟩
theorem k_ic1 {x0 : Value} {n v : Int} {e : List Value} {μ : q_M} {Kn : List Value → q_M → Prop} {Kr : Option Value → q_M → Prop} : q_sinc 1 n (x0 :: .int (zI v) :: e) μ Kn Kr = Kn (x0 :: .int (zI (v + n)) :: e) μ := propext ⟨fun ⟨w, h, k⟩ => by
  have h2 : w = zI v := by injection h with h; injection h with h; exact h.symm
  subst h2
  rw [show zI v + Int32.ofInt n = zI (v + n) from zI_add v n] at k
  exact k, fun k => ⟨zI v, rfl, by
  rw [show zI v + Int32.ofInt n = zI (v + n) from zI_add v n]
  exact k⟩⟩
theorem k_de1 {x0 : Value} {v : Value} {μ : q_M} {Kn : List Value → q_M → Prop} : deK 1 v [x0] μ Kn = Kn (x0 :: [v]) μ := propext ⟨fun h => h.2, fun h => ⟨rfl, h⟩⟩
theorem k_tk1 {x0 : Value} {e : List Value} {μ : q_M} {Kn : List Value → q_M → Prop} : tkK 1 (x0 :: e) μ Kn = Kn [x0] μ := rfl
theorem k_cs1 {x0 : Value} {V : Type} {res : V → Option Value} {f : q_F} {T : Nat → Option q_T} {nx rc rs : Nat} {R : Nat → Nat → Option Value} {G : Nat → Int → Int} {K : V → q_M → Prop} (hf : q_dF f) : csK res 1 0 0 f [x0] (st T nx rc rs R G) K = f [x0] (st T nx 0 0 R G) (fun r m => rsK res rc rs r m K) := propext ⟨fun ⟨_, _, _, K', h1, h2⟩ => hf.mono h1 h2, fun h => ⟨rfl, Nat.zero_le _, Nat.zero_le _, _, h, fun r m q => q⟩⟩
theorem k_cv1 {x0 : Value} {V : Type} {res : V → Option Value} {ci a : Nat} {f : q_F} {T : Nat → Option q_T} {nx rc rs : Nat} {R : Nat → Nat → Option Value} {G : Nat → Int → Int} {K : V → q_M → Prop} (hf : q_dF f) (hT : T a = some (.inl ci)) : cvK res ci 1 0 0 f a [x0] (st T nx rc rs R G) K = f (.ref a :: [x0]) (st T nx 0 0 R G) (fun r m => rsK res rc rs r m K) := propext ⟨fun ⟨_, _, _, _, K', h1, h2⟩ => hf.mono h1 h2, fun h => ⟨rfl, hT, Nat.zero_le _, Nat.zero_le _, _, h, fun r m q => q⟩⟩
theorem k_l2 {x0 x1 : Value} {e : List Value} {v : Int32} {μ : q_M} {K : Int32 → q_M → Prop} : q_l 2 (x0 :: x1 :: .int v :: e) μ K = K v μ := kl rfl
theorem k_r2 {x0 x1 : Value} {e : List Value} {v : Nat} {μ : q_M} {K : Nat → q_M → Prop} : q_r 2 (x0 :: x1 :: .ref v :: e) μ K = K v μ := kr rfl
theorem k_se2 {x0 x1 : Value} {x v : Value} {e : List Value} {μ : q_M} {Kn : List Value → q_M → Prop} : seK 2 v (x0 :: x1 :: x :: e) μ Kn = Kn (x0 :: x1 :: v :: e) μ := propext ⟨fun h => h.2, fun h => ⟨by simp only [List.length_cons]; omega, h⟩⟩
theorem k_ic2 {x0 x1 : Value} {n v : Int} {e : List Value} {μ : q_M} {Kn : List Value → q_M → Prop} {Kr : Option Value → q_M → Prop} : q_sinc 2 n (x0 :: x1 :: .int (zI v) :: e) μ Kn Kr = Kn (x0 :: x1 :: .int (zI (v + n)) :: e) μ := propext ⟨fun ⟨w, h, k⟩ => by
  have h2 : w = zI v := by injection h with h; injection h with h; exact h.symm
  subst h2
  rw [show zI v + Int32.ofInt n = zI (v + n) from zI_add v n] at k
  exact k, fun k => ⟨zI v, rfl, by
  rw [show zI v + Int32.ofInt n = zI (v + n) from zI_add v n]
  exact k⟩⟩
theorem k_de2 {x0 x1 : Value} {v : Value} {μ : q_M} {Kn : List Value → q_M → Prop} : deK 2 v [x0, x1] μ Kn = Kn (x0 :: x1 :: [v]) μ := propext ⟨fun h => h.2, fun h => ⟨rfl, h⟩⟩
theorem k_tk2 {x0 x1 : Value} {e : List Value} {μ : q_M} {Kn : List Value → q_M → Prop} : tkK 2 (x0 :: x1 :: e) μ Kn = Kn [x0, x1] μ := rfl
theorem k_cs2 {x0 x1 : Value} {V : Type} {res : V → Option Value} {f : q_F} {T : Nat → Option q_T} {nx rc rs : Nat} {R : Nat → Nat → Option Value} {G : Nat → Int → Int} {K : V → q_M → Prop} (hf : q_dF f) : csK res 2 0 0 f [x0, x1] (st T nx rc rs R G) K = f [x0, x1] (st T nx 0 0 R G) (fun r m => rsK res rc rs r m K) := propext ⟨fun ⟨_, _, _, K', h1, h2⟩ => hf.mono h1 h2, fun h => ⟨rfl, Nat.zero_le _, Nat.zero_le _, _, h, fun r m q => q⟩⟩
theorem k_cv2 {x0 x1 : Value} {V : Type} {res : V → Option Value} {ci a : Nat} {f : q_F} {T : Nat → Option q_T} {nx rc rs : Nat} {R : Nat → Nat → Option Value} {G : Nat → Int → Int} {K : V → q_M → Prop} (hf : q_dF f) (hT : T a = some (.inl ci)) : cvK res ci 2 0 0 f a [x0, x1] (st T nx rc rs R G) K = f (.ref a :: [x0, x1]) (st T nx 0 0 R G) (fun r m => rsK res rc rs r m K) := propext ⟨fun ⟨_, _, _, _, K', h1, h2⟩ => hf.mono h1 h2, fun h => ⟨rfl, hT, Nat.zero_le _, Nat.zero_le _, _, h, fun r m q => q⟩⟩
theorem k_l3 {x0 x1 x2 : Value} {e : List Value} {v : Int32} {μ : q_M} {K : Int32 → q_M → Prop} : q_l 3 (x0 :: x1 :: x2 :: .int v :: e) μ K = K v μ := kl rfl
theorem k_r3 {x0 x1 x2 : Value} {e : List Value} {v : Nat} {μ : q_M} {K : Nat → q_M → Prop} : q_r 3 (x0 :: x1 :: x2 :: .ref v :: e) μ K = K v μ := kr rfl
theorem k_se3 {x0 x1 x2 : Value} {x v : Value} {e : List Value} {μ : q_M} {Kn : List Value → q_M → Prop} : seK 3 v (x0 :: x1 :: x2 :: x :: e) μ Kn = Kn (x0 :: x1 :: x2 :: v :: e) μ := propext ⟨fun h => h.2, fun h => ⟨by simp only [List.length_cons]; omega, h⟩⟩
theorem k_ic3 {x0 x1 x2 : Value} {n v : Int} {e : List Value} {μ : q_M} {Kn : List Value → q_M → Prop} {Kr : Option Value → q_M → Prop} : q_sinc 3 n (x0 :: x1 :: x2 :: .int (zI v) :: e) μ Kn Kr = Kn (x0 :: x1 :: x2 :: .int (zI (v + n)) :: e) μ := propext ⟨fun ⟨w, h, k⟩ => by
  have h2 : w = zI v := by injection h with h; injection h with h; exact h.symm
  subst h2
  rw [show zI v + Int32.ofInt n = zI (v + n) from zI_add v n] at k
  exact k, fun k => ⟨zI v, rfl, by
  rw [show zI v + Int32.ofInt n = zI (v + n) from zI_add v n]
  exact k⟩⟩
theorem k_de3 {x0 x1 x2 : Value} {v : Value} {μ : q_M} {Kn : List Value → q_M → Prop} : deK 3 v [x0, x1, x2] μ Kn = Kn (x0 :: x1 :: x2 :: [v]) μ := propext ⟨fun h => h.2, fun h => ⟨rfl, h⟩⟩
theorem k_tk3 {x0 x1 x2 : Value} {e : List Value} {μ : q_M} {Kn : List Value → q_M → Prop} : tkK 3 (x0 :: x1 :: x2 :: e) μ Kn = Kn [x0, x1, x2] μ := rfl
theorem k_cs3 {x0 x1 x2 : Value} {V : Type} {res : V → Option Value} {f : q_F} {T : Nat → Option q_T} {nx rc rs : Nat} {R : Nat → Nat → Option Value} {G : Nat → Int → Int} {K : V → q_M → Prop} (hf : q_dF f) : csK res 3 0 0 f [x0, x1, x2] (st T nx rc rs R G) K = f [x0, x1, x2] (st T nx 0 0 R G) (fun r m => rsK res rc rs r m K) := propext ⟨fun ⟨_, _, _, K', h1, h2⟩ => hf.mono h1 h2, fun h => ⟨rfl, Nat.zero_le _, Nat.zero_le _, _, h, fun r m q => q⟩⟩
theorem k_cv3 {x0 x1 x2 : Value} {V : Type} {res : V → Option Value} {ci a : Nat} {f : q_F} {T : Nat → Option q_T} {nx rc rs : Nat} {R : Nat → Nat → Option Value} {G : Nat → Int → Int} {K : V → q_M → Prop} (hf : q_dF f) (hT : T a = some (.inl ci)) : cvK res ci 3 0 0 f a [x0, x1, x2] (st T nx rc rs R G) K = f (.ref a :: [x0, x1, x2]) (st T nx 0 0 R G) (fun r m => rsK res rc rs r m K) := propext ⟨fun ⟨_, _, _, _, K', h1, h2⟩ => hf.mono h1 h2, fun h => ⟨rfl, hT, Nat.zero_le _, Nat.zero_le _, _, h, fun r m q => q⟩⟩
theorem k_l4 {x0 x1 x2 x3 : Value} {e : List Value} {v : Int32} {μ : q_M} {K : Int32 → q_M → Prop} : q_l 4 (x0 :: x1 :: x2 :: x3 :: .int v :: e) μ K = K v μ := kl rfl
theorem k_r4 {x0 x1 x2 x3 : Value} {e : List Value} {v : Nat} {μ : q_M} {K : Nat → q_M → Prop} : q_r 4 (x0 :: x1 :: x2 :: x3 :: .ref v :: e) μ K = K v μ := kr rfl
theorem k_se4 {x0 x1 x2 x3 : Value} {x v : Value} {e : List Value} {μ : q_M} {Kn : List Value → q_M → Prop} : seK 4 v (x0 :: x1 :: x2 :: x3 :: x :: e) μ Kn = Kn (x0 :: x1 :: x2 :: x3 :: v :: e) μ := propext ⟨fun h => h.2, fun h => ⟨by simp only [List.length_cons]; omega, h⟩⟩
theorem k_ic4 {x0 x1 x2 x3 : Value} {n v : Int} {e : List Value} {μ : q_M} {Kn : List Value → q_M → Prop} {Kr : Option Value → q_M → Prop} : q_sinc 4 n (x0 :: x1 :: x2 :: x3 :: .int (zI v) :: e) μ Kn Kr = Kn (x0 :: x1 :: x2 :: x3 :: .int (zI (v + n)) :: e) μ := propext ⟨fun ⟨w, h, k⟩ => by
  have h2 : w = zI v := by injection h with h; injection h with h; exact h.symm
  subst h2
  rw [show zI v + Int32.ofInt n = zI (v + n) from zI_add v n] at k
  exact k, fun k => ⟨zI v, rfl, by
  rw [show zI v + Int32.ofInt n = zI (v + n) from zI_add v n]
  exact k⟩⟩
theorem k_de4 {x0 x1 x2 x3 : Value} {v : Value} {μ : q_M} {Kn : List Value → q_M → Prop} : deK 4 v [x0, x1, x2, x3] μ Kn = Kn (x0 :: x1 :: x2 :: x3 :: [v]) μ := propext ⟨fun h => h.2, fun h => ⟨rfl, h⟩⟩
theorem k_tk4 {x0 x1 x2 x3 : Value} {e : List Value} {μ : q_M} {Kn : List Value → q_M → Prop} : tkK 4 (x0 :: x1 :: x2 :: x3 :: e) μ Kn = Kn [x0, x1, x2, x3] μ := rfl
theorem k_cs4 {x0 x1 x2 x3 : Value} {V : Type} {res : V → Option Value} {f : q_F} {T : Nat → Option q_T} {nx rc rs : Nat} {R : Nat → Nat → Option Value} {G : Nat → Int → Int} {K : V → q_M → Prop} (hf : q_dF f) : csK res 4 0 0 f [x0, x1, x2, x3] (st T nx rc rs R G) K = f [x0, x1, x2, x3] (st T nx 0 0 R G) (fun r m => rsK res rc rs r m K) := propext ⟨fun ⟨_, _, _, K', h1, h2⟩ => hf.mono h1 h2, fun h => ⟨rfl, Nat.zero_le _, Nat.zero_le _, _, h, fun r m q => q⟩⟩
theorem k_cv4 {x0 x1 x2 x3 : Value} {V : Type} {res : V → Option Value} {ci a : Nat} {f : q_F} {T : Nat → Option q_T} {nx rc rs : Nat} {R : Nat → Nat → Option Value} {G : Nat → Int → Int} {K : V → q_M → Prop} (hf : q_dF f) (hT : T a = some (.inl ci)) : cvK res ci 4 0 0 f a [x0, x1, x2, x3] (st T nx rc rs R G) K = f (.ref a :: [x0, x1, x2, x3]) (st T nx 0 0 R G) (fun r m => rsK res rc rs r m K) := propext ⟨fun ⟨_, _, _, _, K', h1, h2⟩ => hf.mono h1 h2, fun h => ⟨rfl, hT, Nat.zero_le _, Nat.zero_le _, _, h, fun r m q => q⟩⟩
theorem k_l5 {x0 x1 x2 x3 x4 : Value} {e : List Value} {v : Int32} {μ : q_M} {K : Int32 → q_M → Prop} : q_l 5 (x0 :: x1 :: x2 :: x3 :: x4 :: .int v :: e) μ K = K v μ := kl rfl
theorem k_r5 {x0 x1 x2 x3 x4 : Value} {e : List Value} {v : Nat} {μ : q_M} {K : Nat → q_M → Prop} : q_r 5 (x0 :: x1 :: x2 :: x3 :: x4 :: .ref v :: e) μ K = K v μ := kr rfl
theorem k_se5 {x0 x1 x2 x3 x4 : Value} {x v : Value} {e : List Value} {μ : q_M} {Kn : List Value → q_M → Prop} : seK 5 v (x0 :: x1 :: x2 :: x3 :: x4 :: x :: e) μ Kn = Kn (x0 :: x1 :: x2 :: x3 :: x4 :: v :: e) μ := propext ⟨fun h => h.2, fun h => ⟨by simp only [List.length_cons]; omega, h⟩⟩
theorem k_ic5 {x0 x1 x2 x3 x4 : Value} {n v : Int} {e : List Value} {μ : q_M} {Kn : List Value → q_M → Prop} {Kr : Option Value → q_M → Prop} : q_sinc 5 n (x0 :: x1 :: x2 :: x3 :: x4 :: .int (zI v) :: e) μ Kn Kr = Kn (x0 :: x1 :: x2 :: x3 :: x4 :: .int (zI (v + n)) :: e) μ := propext ⟨fun ⟨w, h, k⟩ => by
  have h2 : w = zI v := by injection h with h; injection h with h; exact h.symm
  subst h2
  rw [show zI v + Int32.ofInt n = zI (v + n) from zI_add v n] at k
  exact k, fun k => ⟨zI v, rfl, by
  rw [show zI v + Int32.ofInt n = zI (v + n) from zI_add v n]
  exact k⟩⟩
theorem k_de5 {x0 x1 x2 x3 x4 : Value} {v : Value} {μ : q_M} {Kn : List Value → q_M → Prop} : deK 5 v [x0, x1, x2, x3, x4] μ Kn = Kn (x0 :: x1 :: x2 :: x3 :: x4 :: [v]) μ := propext ⟨fun h => h.2, fun h => ⟨rfl, h⟩⟩
theorem k_tk5 {x0 x1 x2 x3 x4 : Value} {e : List Value} {μ : q_M} {Kn : List Value → q_M → Prop} : tkK 5 (x0 :: x1 :: x2 :: x3 :: x4 :: e) μ Kn = Kn [x0, x1, x2, x3, x4] μ := rfl
theorem k_cs5 {x0 x1 x2 x3 x4 : Value} {V : Type} {res : V → Option Value} {f : q_F} {T : Nat → Option q_T} {nx rc rs : Nat} {R : Nat → Nat → Option Value} {G : Nat → Int → Int} {K : V → q_M → Prop} (hf : q_dF f) : csK res 5 0 0 f [x0, x1, x2, x3, x4] (st T nx rc rs R G) K = f [x0, x1, x2, x3, x4] (st T nx 0 0 R G) (fun r m => rsK res rc rs r m K) := propext ⟨fun ⟨_, _, _, K', h1, h2⟩ => hf.mono h1 h2, fun h => ⟨rfl, Nat.zero_le _, Nat.zero_le _, _, h, fun r m q => q⟩⟩
theorem k_cv5 {x0 x1 x2 x3 x4 : Value} {V : Type} {res : V → Option Value} {ci a : Nat} {f : q_F} {T : Nat → Option q_T} {nx rc rs : Nat} {R : Nat → Nat → Option Value} {G : Nat → Int → Int} {K : V → q_M → Prop} (hf : q_dF f) (hT : T a = some (.inl ci)) : cvK res ci 5 0 0 f a [x0, x1, x2, x3, x4] (st T nx rc rs R G) K = f (.ref a :: [x0, x1, x2, x3, x4]) (st T nx 0 0 R G) (fun r m => rsK res rc rs r m K) := propext ⟨fun ⟨_, _, _, _, K', h1, h2⟩ => hf.mono h1 h2, fun h => ⟨rfl, hT, Nat.zero_le _, Nat.zero_le _, _, h, fun r m q => q⟩⟩
theorem k_l6 {x0 x1 x2 x3 x4 x5 : Value} {e : List Value} {v : Int32} {μ : q_M} {K : Int32 → q_M → Prop} : q_l 6 (x0 :: x1 :: x2 :: x3 :: x4 :: x5 :: .int v :: e) μ K = K v μ := kl rfl
theorem k_r6 {x0 x1 x2 x3 x4 x5 : Value} {e : List Value} {v : Nat} {μ : q_M} {K : Nat → q_M → Prop} : q_r 6 (x0 :: x1 :: x2 :: x3 :: x4 :: x5 :: .ref v :: e) μ K = K v μ := kr rfl
theorem k_se6 {x0 x1 x2 x3 x4 x5 : Value} {x v : Value} {e : List Value} {μ : q_M} {Kn : List Value → q_M → Prop} : seK 6 v (x0 :: x1 :: x2 :: x3 :: x4 :: x5 :: x :: e) μ Kn = Kn (x0 :: x1 :: x2 :: x3 :: x4 :: x5 :: v :: e) μ := propext ⟨fun h => h.2, fun h => ⟨by simp only [List.length_cons]; omega, h⟩⟩
theorem k_ic6 {x0 x1 x2 x3 x4 x5 : Value} {n v : Int} {e : List Value} {μ : q_M} {Kn : List Value → q_M → Prop} {Kr : Option Value → q_M → Prop} : q_sinc 6 n (x0 :: x1 :: x2 :: x3 :: x4 :: x5 :: .int (zI v) :: e) μ Kn Kr = Kn (x0 :: x1 :: x2 :: x3 :: x4 :: x5 :: .int (zI (v + n)) :: e) μ := propext ⟨fun ⟨w, h, k⟩ => by
  have h2 : w = zI v := by injection h with h; injection h with h; exact h.symm
  subst h2
  rw [show zI v + Int32.ofInt n = zI (v + n) from zI_add v n] at k
  exact k, fun k => ⟨zI v, rfl, by
  rw [show zI v + Int32.ofInt n = zI (v + n) from zI_add v n]
  exact k⟩⟩
theorem k_de6 {x0 x1 x2 x3 x4 x5 : Value} {v : Value} {μ : q_M} {Kn : List Value → q_M → Prop} : deK 6 v [x0, x1, x2, x3, x4, x5] μ Kn = Kn (x0 :: x1 :: x2 :: x3 :: x4 :: x5 :: [v]) μ := propext ⟨fun h => h.2, fun h => ⟨rfl, h⟩⟩
theorem k_tk6 {x0 x1 x2 x3 x4 x5 : Value} {e : List Value} {μ : q_M} {Kn : List Value → q_M → Prop} : tkK 6 (x0 :: x1 :: x2 :: x3 :: x4 :: x5 :: e) μ Kn = Kn [x0, x1, x2, x3, x4, x5] μ := rfl
theorem k_cs6 {x0 x1 x2 x3 x4 x5 : Value} {V : Type} {res : V → Option Value} {f : q_F} {T : Nat → Option q_T} {nx rc rs : Nat} {R : Nat → Nat → Option Value} {G : Nat → Int → Int} {K : V → q_M → Prop} (hf : q_dF f) : csK res 6 0 0 f [x0, x1, x2, x3, x4, x5] (st T nx rc rs R G) K = f [x0, x1, x2, x3, x4, x5] (st T nx 0 0 R G) (fun r m => rsK res rc rs r m K) := propext ⟨fun ⟨_, _, _, K', h1, h2⟩ => hf.mono h1 h2, fun h => ⟨rfl, Nat.zero_le _, Nat.zero_le _, _, h, fun r m q => q⟩⟩
theorem k_cv6 {x0 x1 x2 x3 x4 x5 : Value} {V : Type} {res : V → Option Value} {ci a : Nat} {f : q_F} {T : Nat → Option q_T} {nx rc rs : Nat} {R : Nat → Nat → Option Value} {G : Nat → Int → Int} {K : V → q_M → Prop} (hf : q_dF f) (hT : T a = some (.inl ci)) : cvK res ci 6 0 0 f a [x0, x1, x2, x3, x4, x5] (st T nx rc rs R G) K = f (.ref a :: [x0, x1, x2, x3, x4, x5]) (st T nx 0 0 R G) (fun r m => rsK res rc rs r m K) := propext ⟨fun ⟨_, _, _, _, K', h1, h2⟩ => hf.mono h1 h2, fun h => ⟨rfl, hT, Nat.zero_le _, Nat.zero_le _, _, h, fun r m q => q⟩⟩
theorem k_l7 {x0 x1 x2 x3 x4 x5 x6 : Value} {e : List Value} {v : Int32} {μ : q_M} {K : Int32 → q_M → Prop} : q_l 7 (x0 :: x1 :: x2 :: x3 :: x4 :: x5 :: x6 :: .int v :: e) μ K = K v μ := kl rfl
theorem k_r7 {x0 x1 x2 x3 x4 x5 x6 : Value} {e : List Value} {v : Nat} {μ : q_M} {K : Nat → q_M → Prop} : q_r 7 (x0 :: x1 :: x2 :: x3 :: x4 :: x5 :: x6 :: .ref v :: e) μ K = K v μ := kr rfl
theorem k_se7 {x0 x1 x2 x3 x4 x5 x6 : Value} {x v : Value} {e : List Value} {μ : q_M} {Kn : List Value → q_M → Prop} : seK 7 v (x0 :: x1 :: x2 :: x3 :: x4 :: x5 :: x6 :: x :: e) μ Kn = Kn (x0 :: x1 :: x2 :: x3 :: x4 :: x5 :: x6 :: v :: e) μ := propext ⟨fun h => h.2, fun h => ⟨by simp only [List.length_cons]; omega, h⟩⟩
theorem k_ic7 {x0 x1 x2 x3 x4 x5 x6 : Value} {n v : Int} {e : List Value} {μ : q_M} {Kn : List Value → q_M → Prop} {Kr : Option Value → q_M → Prop} : q_sinc 7 n (x0 :: x1 :: x2 :: x3 :: x4 :: x5 :: x6 :: .int (zI v) :: e) μ Kn Kr = Kn (x0 :: x1 :: x2 :: x3 :: x4 :: x5 :: x6 :: .int (zI (v + n)) :: e) μ := propext ⟨fun ⟨w, h, k⟩ => by
  have h2 : w = zI v := by injection h with h; injection h with h; exact h.symm
  subst h2
  rw [show zI v + Int32.ofInt n = zI (v + n) from zI_add v n] at k
  exact k, fun k => ⟨zI v, rfl, by
  rw [show zI v + Int32.ofInt n = zI (v + n) from zI_add v n]
  exact k⟩⟩
theorem k_de7 {x0 x1 x2 x3 x4 x5 x6 : Value} {v : Value} {μ : q_M} {Kn : List Value → q_M → Prop} : deK 7 v [x0, x1, x2, x3, x4, x5, x6] μ Kn = Kn (x0 :: x1 :: x2 :: x3 :: x4 :: x5 :: x6 :: [v]) μ := propext ⟨fun h => h.2, fun h => ⟨rfl, h⟩⟩
theorem k_tk7 {x0 x1 x2 x3 x4 x5 x6 : Value} {e : List Value} {μ : q_M} {Kn : List Value → q_M → Prop} : tkK 7 (x0 :: x1 :: x2 :: x3 :: x4 :: x5 :: x6 :: e) μ Kn = Kn [x0, x1, x2, x3, x4, x5, x6] μ := rfl
theorem k_cs7 {x0 x1 x2 x3 x4 x5 x6 : Value} {V : Type} {res : V → Option Value} {f : q_F} {T : Nat → Option q_T} {nx rc rs : Nat} {R : Nat → Nat → Option Value} {G : Nat → Int → Int} {K : V → q_M → Prop} (hf : q_dF f) : csK res 7 0 0 f [x0, x1, x2, x3, x4, x5, x6] (st T nx rc rs R G) K = f [x0, x1, x2, x3, x4, x5, x6] (st T nx 0 0 R G) (fun r m => rsK res rc rs r m K) := propext ⟨fun ⟨_, _, _, K', h1, h2⟩ => hf.mono h1 h2, fun h => ⟨rfl, Nat.zero_le _, Nat.zero_le _, _, h, fun r m q => q⟩⟩
theorem k_cv7 {x0 x1 x2 x3 x4 x5 x6 : Value} {V : Type} {res : V → Option Value} {ci a : Nat} {f : q_F} {T : Nat → Option q_T} {nx rc rs : Nat} {R : Nat → Nat → Option Value} {G : Nat → Int → Int} {K : V → q_M → Prop} (hf : q_dF f) (hT : T a = some (.inl ci)) : cvK res ci 7 0 0 f a [x0, x1, x2, x3, x4, x5, x6] (st T nx rc rs R G) K = f (.ref a :: [x0, x1, x2, x3, x4, x5, x6]) (st T nx 0 0 R G) (fun r m => rsK res rc rs r m K) := propext ⟨fun ⟨_, _, _, _, K', h1, h2⟩ => hf.mono h1 h2, fun h => ⟨rfl, hT, Nat.zero_le _, Nat.zero_le _, _, h, fun r m q => q⟩⟩
theorem k_l8 {x0 x1 x2 x3 x4 x5 x6 x7 : Value} {e : List Value} {v : Int32} {μ : q_M} {K : Int32 → q_M → Prop} : q_l 8 (x0 :: x1 :: x2 :: x3 :: x4 :: x5 :: x6 :: x7 :: .int v :: e) μ K = K v μ := kl rfl
theorem k_r8 {x0 x1 x2 x3 x4 x5 x6 x7 : Value} {e : List Value} {v : Nat} {μ : q_M} {K : Nat → q_M → Prop} : q_r 8 (x0 :: x1 :: x2 :: x3 :: x4 :: x5 :: x6 :: x7 :: .ref v :: e) μ K = K v μ := kr rfl
theorem k_se8 {x0 x1 x2 x3 x4 x5 x6 x7 : Value} {x v : Value} {e : List Value} {μ : q_M} {Kn : List Value → q_M → Prop} : seK 8 v (x0 :: x1 :: x2 :: x3 :: x4 :: x5 :: x6 :: x7 :: x :: e) μ Kn = Kn (x0 :: x1 :: x2 :: x3 :: x4 :: x5 :: x6 :: x7 :: v :: e) μ := propext ⟨fun h => h.2, fun h => ⟨by simp only [List.length_cons]; omega, h⟩⟩
theorem k_ic8 {x0 x1 x2 x3 x4 x5 x6 x7 : Value} {n v : Int} {e : List Value} {μ : q_M} {Kn : List Value → q_M → Prop} {Kr : Option Value → q_M → Prop} : q_sinc 8 n (x0 :: x1 :: x2 :: x3 :: x4 :: x5 :: x6 :: x7 :: .int (zI v) :: e) μ Kn Kr = Kn (x0 :: x1 :: x2 :: x3 :: x4 :: x5 :: x6 :: x7 :: .int (zI (v + n)) :: e) μ := propext ⟨fun ⟨w, h, k⟩ => by
  have h2 : w = zI v := by injection h with h; injection h with h; exact h.symm
  subst h2
  rw [show zI v + Int32.ofInt n = zI (v + n) from zI_add v n] at k
  exact k, fun k => ⟨zI v, rfl, by
  rw [show zI v + Int32.ofInt n = zI (v + n) from zI_add v n]
  exact k⟩⟩
theorem k_de8 {x0 x1 x2 x3 x4 x5 x6 x7 : Value} {v : Value} {μ : q_M} {Kn : List Value → q_M → Prop} : deK 8 v [x0, x1, x2, x3, x4, x5, x6, x7] μ Kn = Kn (x0 :: x1 :: x2 :: x3 :: x4 :: x5 :: x6 :: x7 :: [v]) μ := propext ⟨fun h => h.2, fun h => ⟨rfl, h⟩⟩
theorem k_tk8 {x0 x1 x2 x3 x4 x5 x6 x7 : Value} {e : List Value} {μ : q_M} {Kn : List Value → q_M → Prop} : tkK 8 (x0 :: x1 :: x2 :: x3 :: x4 :: x5 :: x6 :: x7 :: e) μ Kn = Kn [x0, x1, x2, x3, x4, x5, x6, x7] μ := rfl
theorem k_cs8 {x0 x1 x2 x3 x4 x5 x6 x7 : Value} {V : Type} {res : V → Option Value} {f : q_F} {T : Nat → Option q_T} {nx rc rs : Nat} {R : Nat → Nat → Option Value} {G : Nat → Int → Int} {K : V → q_M → Prop} (hf : q_dF f) : csK res 8 0 0 f [x0, x1, x2, x3, x4, x5, x6, x7] (st T nx rc rs R G) K = f [x0, x1, x2, x3, x4, x5, x6, x7] (st T nx 0 0 R G) (fun r m => rsK res rc rs r m K) := propext ⟨fun ⟨_, _, _, K', h1, h2⟩ => hf.mono h1 h2, fun h => ⟨rfl, Nat.zero_le _, Nat.zero_le _, _, h, fun r m q => q⟩⟩
theorem k_cv8 {x0 x1 x2 x3 x4 x5 x6 x7 : Value} {V : Type} {res : V → Option Value} {ci a : Nat} {f : q_F} {T : Nat → Option q_T} {nx rc rs : Nat} {R : Nat → Nat → Option Value} {G : Nat → Int → Int} {K : V → q_M → Prop} (hf : q_dF f) (hT : T a = some (.inl ci)) : cvK res ci 8 0 0 f a [x0, x1, x2, x3, x4, x5, x6, x7] (st T nx rc rs R G) K = f (.ref a :: [x0, x1, x2, x3, x4, x5, x6, x7]) (st T nx 0 0 R G) (fun r m => rsK res rc rs r m K) := propext ⟨fun ⟨_, _, _, _, K', h1, h2⟩ => hf.mono h1 h2, fun h => ⟨rfl, hT, Nat.zero_le _, Nat.zero_le _, _, h, fun r m q => q⟩⟩
theorem k_l9 {x0 x1 x2 x3 x4 x5 x6 x7 x8 : Value} {e : List Value} {v : Int32} {μ : q_M} {K : Int32 → q_M → Prop} : q_l 9 (x0 :: x1 :: x2 :: x3 :: x4 :: x5 :: x6 :: x7 :: x8 :: .int v :: e) μ K = K v μ := kl rfl
theorem k_r9 {x0 x1 x2 x3 x4 x5 x6 x7 x8 : Value} {e : List Value} {v : Nat} {μ : q_M} {K : Nat → q_M → Prop} : q_r 9 (x0 :: x1 :: x2 :: x3 :: x4 :: x5 :: x6 :: x7 :: x8 :: .ref v :: e) μ K = K v μ := kr rfl
theorem k_se9 {x0 x1 x2 x3 x4 x5 x6 x7 x8 : Value} {x v : Value} {e : List Value} {μ : q_M} {Kn : List Value → q_M → Prop} : seK 9 v (x0 :: x1 :: x2 :: x3 :: x4 :: x5 :: x6 :: x7 :: x8 :: x :: e) μ Kn = Kn (x0 :: x1 :: x2 :: x3 :: x4 :: x5 :: x6 :: x7 :: x8 :: v :: e) μ := propext ⟨fun h => h.2, fun h => ⟨by simp only [List.length_cons]; omega, h⟩⟩
theorem k_ic9 {x0 x1 x2 x3 x4 x5 x6 x7 x8 : Value} {n v : Int} {e : List Value} {μ : q_M} {Kn : List Value → q_M → Prop} {Kr : Option Value → q_M → Prop} : q_sinc 9 n (x0 :: x1 :: x2 :: x3 :: x4 :: x5 :: x6 :: x7 :: x8 :: .int (zI v) :: e) μ Kn Kr = Kn (x0 :: x1 :: x2 :: x3 :: x4 :: x5 :: x6 :: x7 :: x8 :: .int (zI (v + n)) :: e) μ := propext ⟨fun ⟨w, h, k⟩ => by
  have h2 : w = zI v := by injection h with h; injection h with h; exact h.symm
  subst h2
  rw [show zI v + Int32.ofInt n = zI (v + n) from zI_add v n] at k
  exact k, fun k => ⟨zI v, rfl, by
  rw [show zI v + Int32.ofInt n = zI (v + n) from zI_add v n]
  exact k⟩⟩
theorem k_de9 {x0 x1 x2 x3 x4 x5 x6 x7 x8 : Value} {v : Value} {μ : q_M} {Kn : List Value → q_M → Prop} : deK 9 v [x0, x1, x2, x3, x4, x5, x6, x7, x8] μ Kn = Kn (x0 :: x1 :: x2 :: x3 :: x4 :: x5 :: x6 :: x7 :: x8 :: [v]) μ := propext ⟨fun h => h.2, fun h => ⟨rfl, h⟩⟩
theorem k_tk9 {x0 x1 x2 x3 x4 x5 x6 x7 x8 : Value} {e : List Value} {μ : q_M} {Kn : List Value → q_M → Prop} : tkK 9 (x0 :: x1 :: x2 :: x3 :: x4 :: x5 :: x6 :: x7 :: x8 :: e) μ Kn = Kn [x0, x1, x2, x3, x4, x5, x6, x7, x8] μ := rfl
theorem k_cs9 {x0 x1 x2 x3 x4 x5 x6 x7 x8 : Value} {V : Type} {res : V → Option Value} {f : q_F} {T : Nat → Option q_T} {nx rc rs : Nat} {R : Nat → Nat → Option Value} {G : Nat → Int → Int} {K : V → q_M → Prop} (hf : q_dF f) : csK res 9 0 0 f [x0, x1, x2, x3, x4, x5, x6, x7, x8] (st T nx rc rs R G) K = f [x0, x1, x2, x3, x4, x5, x6, x7, x8] (st T nx 0 0 R G) (fun r m => rsK res rc rs r m K) := propext ⟨fun ⟨_, _, _, K', h1, h2⟩ => hf.mono h1 h2, fun h => ⟨rfl, Nat.zero_le _, Nat.zero_le _, _, h, fun r m q => q⟩⟩
theorem k_cv9 {x0 x1 x2 x3 x4 x5 x6 x7 x8 : Value} {V : Type} {res : V → Option Value} {ci a : Nat} {f : q_F} {T : Nat → Option q_T} {nx rc rs : Nat} {R : Nat → Nat → Option Value} {G : Nat → Int → Int} {K : V → q_M → Prop} (hf : q_dF f) (hT : T a = some (.inl ci)) : cvK res ci 9 0 0 f a [x0, x1, x2, x3, x4, x5, x6, x7, x8] (st T nx rc rs R G) K = f (.ref a :: [x0, x1, x2, x3, x4, x5, x6, x7, x8]) (st T nx 0 0 R G) (fun r m => rsK res rc rs r m K) := propext ⟨fun ⟨_, _, _, _, K', h1, h2⟩ => hf.mono h1 h2, fun h => ⟨rfl, hT, Nat.zero_le _, Nat.zero_le _, _, h, fun r m q => q⟩⟩
theorem k_l10 {x0 x1 x2 x3 x4 x5 x6 x7 x8 x9 : Value} {e : List Value} {v : Int32} {μ : q_M} {K : Int32 → q_M → Prop} : q_l 10 (x0 :: x1 :: x2 :: x3 :: x4 :: x5 :: x6 :: x7 :: x8 :: x9 :: .int v :: e) μ K = K v μ := kl rfl
theorem k_r10 {x0 x1 x2 x3 x4 x5 x6 x7 x8 x9 : Value} {e : List Value} {v : Nat} {μ : q_M} {K : Nat → q_M → Prop} : q_r 10 (x0 :: x1 :: x2 :: x3 :: x4 :: x5 :: x6 :: x7 :: x8 :: x9 :: .ref v :: e) μ K = K v μ := kr rfl
theorem k_se10 {x0 x1 x2 x3 x4 x5 x6 x7 x8 x9 : Value} {x v : Value} {e : List Value} {μ : q_M} {Kn : List Value → q_M → Prop} : seK 10 v (x0 :: x1 :: x2 :: x3 :: x4 :: x5 :: x6 :: x7 :: x8 :: x9 :: x :: e) μ Kn = Kn (x0 :: x1 :: x2 :: x3 :: x4 :: x5 :: x6 :: x7 :: x8 :: x9 :: v :: e) μ := propext ⟨fun h => h.2, fun h => ⟨by simp only [List.length_cons]; omega, h⟩⟩
theorem k_ic10 {x0 x1 x2 x3 x4 x5 x6 x7 x8 x9 : Value} {n v : Int} {e : List Value} {μ : q_M} {Kn : List Value → q_M → Prop} {Kr : Option Value → q_M → Prop} : q_sinc 10 n (x0 :: x1 :: x2 :: x3 :: x4 :: x5 :: x6 :: x7 :: x8 :: x9 :: .int (zI v) :: e) μ Kn Kr = Kn (x0 :: x1 :: x2 :: x3 :: x4 :: x5 :: x6 :: x7 :: x8 :: x9 :: .int (zI (v + n)) :: e) μ := propext ⟨fun ⟨w, h, k⟩ => by
  have h2 : w = zI v := by injection h with h; injection h with h; exact h.symm
  subst h2
  rw [show zI v + Int32.ofInt n = zI (v + n) from zI_add v n] at k
  exact k, fun k => ⟨zI v, rfl, by
  rw [show zI v + Int32.ofInt n = zI (v + n) from zI_add v n]
  exact k⟩⟩
theorem k_de10 {x0 x1 x2 x3 x4 x5 x6 x7 x8 x9 : Value} {v : Value} {μ : q_M} {Kn : List Value → q_M → Prop} : deK 10 v [x0, x1, x2, x3, x4, x5, x6, x7, x8, x9] μ Kn = Kn (x0 :: x1 :: x2 :: x3 :: x4 :: x5 :: x6 :: x7 :: x8 :: x9 :: [v]) μ := propext ⟨fun h => h.2, fun h => ⟨rfl, h⟩⟩
theorem k_tk10 {x0 x1 x2 x3 x4 x5 x6 x7 x8 x9 : Value} {e : List Value} {μ : q_M} {Kn : List Value → q_M → Prop} : tkK 10 (x0 :: x1 :: x2 :: x3 :: x4 :: x5 :: x6 :: x7 :: x8 :: x9 :: e) μ Kn = Kn [x0, x1, x2, x3, x4, x5, x6, x7, x8, x9] μ := rfl
theorem k_l11 {x0 x1 x2 x3 x4 x5 x6 x7 x8 x9 x10 : Value} {e : List Value} {v : Int32} {μ : q_M} {K : Int32 → q_M → Prop} : q_l 11 (x0 :: x1 :: x2 :: x3 :: x4 :: x5 :: x6 :: x7 :: x8 :: x9 :: x10 :: .int v :: e) μ K = K v μ := kl rfl
theorem k_r11 {x0 x1 x2 x3 x4 x5 x6 x7 x8 x9 x10 : Value} {e : List Value} {v : Nat} {μ : q_M} {K : Nat → q_M → Prop} : q_r 11 (x0 :: x1 :: x2 :: x3 :: x4 :: x5 :: x6 :: x7 :: x8 :: x9 :: x10 :: .ref v :: e) μ K = K v μ := kr rfl
theorem k_se11 {x0 x1 x2 x3 x4 x5 x6 x7 x8 x9 x10 : Value} {x v : Value} {e : List Value} {μ : q_M} {Kn : List Value → q_M → Prop} : seK 11 v (x0 :: x1 :: x2 :: x3 :: x4 :: x5 :: x6 :: x7 :: x8 :: x9 :: x10 :: x :: e) μ Kn = Kn (x0 :: x1 :: x2 :: x3 :: x4 :: x5 :: x6 :: x7 :: x8 :: x9 :: x10 :: v :: e) μ := propext ⟨fun h => h.2, fun h => ⟨by simp only [List.length_cons]; omega, h⟩⟩
theorem k_ic11 {x0 x1 x2 x3 x4 x5 x6 x7 x8 x9 x10 : Value} {n v : Int} {e : List Value} {μ : q_M} {Kn : List Value → q_M → Prop} {Kr : Option Value → q_M → Prop} : q_sinc 11 n (x0 :: x1 :: x2 :: x3 :: x4 :: x5 :: x6 :: x7 :: x8 :: x9 :: x10 :: .int (zI v) :: e) μ Kn Kr = Kn (x0 :: x1 :: x2 :: x3 :: x4 :: x5 :: x6 :: x7 :: x8 :: x9 :: x10 :: .int (zI (v + n)) :: e) μ := propext ⟨fun ⟨w, h, k⟩ => by
  have h2 : w = zI v := by injection h with h; injection h with h; exact h.symm
  subst h2
  rw [show zI v + Int32.ofInt n = zI (v + n) from zI_add v n] at k
  exact k, fun k => ⟨zI v, rfl, by
  rw [show zI v + Int32.ofInt n = zI (v + n) from zI_add v n]
  exact k⟩⟩
theorem k_de11 {x0 x1 x2 x3 x4 x5 x6 x7 x8 x9 x10 : Value} {v : Value} {μ : q_M} {Kn : List Value → q_M → Prop} : deK 11 v [x0, x1, x2, x3, x4, x5, x6, x7, x8, x9, x10] μ Kn = Kn (x0 :: x1 :: x2 :: x3 :: x4 :: x5 :: x6 :: x7 :: x8 :: x9 :: x10 :: [v]) μ := propext ⟨fun h => h.2, fun h => ⟨rfl, h⟩⟩
theorem k_tk11 {x0 x1 x2 x3 x4 x5 x6 x7 x8 x9 x10 : Value} {e : List Value} {μ : q_M} {Kn : List Value → q_M → Prop} : tkK 11 (x0 :: x1 :: x2 :: x3 :: x4 :: x5 :: x6 :: x7 :: x8 :: x9 :: x10 :: e) μ Kn = Kn [x0, x1, x2, x3, x4, x5, x6, x7, x8, x9, x10] μ := rfl
theorem k_l12 {x0 x1 x2 x3 x4 x5 x6 x7 x8 x9 x10 x11 : Value} {e : List Value} {v : Int32} {μ : q_M} {K : Int32 → q_M → Prop} : q_l 12 (x0 :: x1 :: x2 :: x3 :: x4 :: x5 :: x6 :: x7 :: x8 :: x9 :: x10 :: x11 :: .int v :: e) μ K = K v μ := kl rfl
theorem k_r12 {x0 x1 x2 x3 x4 x5 x6 x7 x8 x9 x10 x11 : Value} {e : List Value} {v : Nat} {μ : q_M} {K : Nat → q_M → Prop} : q_r 12 (x0 :: x1 :: x2 :: x3 :: x4 :: x5 :: x6 :: x7 :: x8 :: x9 :: x10 :: x11 :: .ref v :: e) μ K = K v μ := kr rfl
theorem k_se12 {x0 x1 x2 x3 x4 x5 x6 x7 x8 x9 x10 x11 : Value} {x v : Value} {e : List Value} {μ : q_M} {Kn : List Value → q_M → Prop} : seK 12 v (x0 :: x1 :: x2 :: x3 :: x4 :: x5 :: x6 :: x7 :: x8 :: x9 :: x10 :: x11 :: x :: e) μ Kn = Kn (x0 :: x1 :: x2 :: x3 :: x4 :: x5 :: x6 :: x7 :: x8 :: x9 :: x10 :: x11 :: v :: e) μ := propext ⟨fun h => h.2, fun h => ⟨by simp only [List.length_cons]; omega, h⟩⟩
theorem k_ic12 {x0 x1 x2 x3 x4 x5 x6 x7 x8 x9 x10 x11 : Value} {n v : Int} {e : List Value} {μ : q_M} {Kn : List Value → q_M → Prop} {Kr : Option Value → q_M → Prop} : q_sinc 12 n (x0 :: x1 :: x2 :: x3 :: x4 :: x5 :: x6 :: x7 :: x8 :: x9 :: x10 :: x11 :: .int (zI v) :: e) μ Kn Kr = Kn (x0 :: x1 :: x2 :: x3 :: x4 :: x5 :: x6 :: x7 :: x8 :: x9 :: x10 :: x11 :: .int (zI (v + n)) :: e) μ := propext ⟨fun ⟨w, h, k⟩ => by
  have h2 : w = zI v := by injection h with h; injection h with h; exact h.symm
  subst h2
  rw [show zI v + Int32.ofInt n = zI (v + n) from zI_add v n] at k
  exact k, fun k => ⟨zI v, rfl, by
  rw [show zI v + Int32.ofInt n = zI (v + n) from zI_add v n]
  exact k⟩⟩
theorem k_de12 {x0 x1 x2 x3 x4 x5 x6 x7 x8 x9 x10 x11 : Value} {v : Value} {μ : q_M} {Kn : List Value → q_M → Prop} : deK 12 v [x0, x1, x2, x3, x4, x5, x6, x7, x8, x9, x10, x11] μ Kn = Kn (x0 :: x1 :: x2 :: x3 :: x4 :: x5 :: x6 :: x7 :: x8 :: x9 :: x10 :: x11 :: [v]) μ := propext ⟨fun h => h.2, fun h => ⟨rfl, h⟩⟩
theorem k_tk12 {x0 x1 x2 x3 x4 x5 x6 x7 x8 x9 x10 x11 : Value} {e : List Value} {μ : q_M} {Kn : List Value → q_M → Prop} : tkK 12 (x0 :: x1 :: x2 :: x3 :: x4 :: x5 :: x6 :: x7 :: x8 :: x9 :: x10 :: x11 :: e) μ Kn = Kn [x0, x1, x2, x3, x4, x5, x6, x7, x8, x9, x10, x11] μ := rfl
theorem k_l13 {x0 x1 x2 x3 x4 x5 x6 x7 x8 x9 x10 x11 x12 : Value} {e : List Value} {v : Int32} {μ : q_M} {K : Int32 → q_M → Prop} : q_l 13 (x0 :: x1 :: x2 :: x3 :: x4 :: x5 :: x6 :: x7 :: x8 :: x9 :: x10 :: x11 :: x12 :: .int v :: e) μ K = K v μ := kl rfl
theorem k_r13 {x0 x1 x2 x3 x4 x5 x6 x7 x8 x9 x10 x11 x12 : Value} {e : List Value} {v : Nat} {μ : q_M} {K : Nat → q_M → Prop} : q_r 13 (x0 :: x1 :: x2 :: x3 :: x4 :: x5 :: x6 :: x7 :: x8 :: x9 :: x10 :: x11 :: x12 :: .ref v :: e) μ K = K v μ := kr rfl
theorem k_se13 {x0 x1 x2 x3 x4 x5 x6 x7 x8 x9 x10 x11 x12 : Value} {x v : Value} {e : List Value} {μ : q_M} {Kn : List Value → q_M → Prop} : seK 13 v (x0 :: x1 :: x2 :: x3 :: x4 :: x5 :: x6 :: x7 :: x8 :: x9 :: x10 :: x11 :: x12 :: x :: e) μ Kn = Kn (x0 :: x1 :: x2 :: x3 :: x4 :: x5 :: x6 :: x7 :: x8 :: x9 :: x10 :: x11 :: x12 :: v :: e) μ := propext ⟨fun h => h.2, fun h => ⟨by simp only [List.length_cons]; omega, h⟩⟩
theorem k_ic13 {x0 x1 x2 x3 x4 x5 x6 x7 x8 x9 x10 x11 x12 : Value} {n v : Int} {e : List Value} {μ : q_M} {Kn : List Value → q_M → Prop} {Kr : Option Value → q_M → Prop} : q_sinc 13 n (x0 :: x1 :: x2 :: x3 :: x4 :: x5 :: x6 :: x7 :: x8 :: x9 :: x10 :: x11 :: x12 :: .int (zI v) :: e) μ Kn Kr = Kn (x0 :: x1 :: x2 :: x3 :: x4 :: x5 :: x6 :: x7 :: x8 :: x9 :: x10 :: x11 :: x12 :: .int (zI (v + n)) :: e) μ := propext ⟨fun ⟨w, h, k⟩ => by
  have h2 : w = zI v := by injection h with h; injection h with h; exact h.symm
  subst h2
  rw [show zI v + Int32.ofInt n = zI (v + n) from zI_add v n] at k
  exact k, fun k => ⟨zI v, rfl, by
  rw [show zI v + Int32.ofInt n = zI (v + n) from zI_add v n]
  exact k⟩⟩
theorem k_de13 {x0 x1 x2 x3 x4 x5 x6 x7 x8 x9 x10 x11 x12 : Value} {v : Value} {μ : q_M} {Kn : List Value → q_M → Prop} : deK 13 v [x0, x1, x2, x3, x4, x5, x6, x7, x8, x9, x10, x11, x12] μ Kn = Kn (x0 :: x1 :: x2 :: x3 :: x4 :: x5 :: x6 :: x7 :: x8 :: x9 :: x10 :: x11 :: x12 :: [v]) μ := propext ⟨fun h => h.2, fun h => ⟨rfl, h⟩⟩
theorem k_tk13 {x0 x1 x2 x3 x4 x5 x6 x7 x8 x9 x10 x11 x12 : Value} {e : List Value} {μ : q_M} {Kn : List Value → q_M → Prop} : tkK 13 (x0 :: x1 :: x2 :: x3 :: x4 :: x5 :: x6 :: x7 :: x8 :: x9 :: x10 :: x11 :: x12 :: e) μ Kn = Kn [x0, x1, x2, x3, x4, x5, x6, x7, x8, x9, x10, x11, x12] μ := rfl
theorem k_l14 {x0 x1 x2 x3 x4 x5 x6 x7 x8 x9 x10 x11 x12 x13 : Value} {e : List Value} {v : Int32} {μ : q_M} {K : Int32 → q_M → Prop} : q_l 14 (x0 :: x1 :: x2 :: x3 :: x4 :: x5 :: x6 :: x7 :: x8 :: x9 :: x10 :: x11 :: x12 :: x13 :: .int v :: e) μ K = K v μ := kl rfl
theorem k_r14 {x0 x1 x2 x3 x4 x5 x6 x7 x8 x9 x10 x11 x12 x13 : Value} {e : List Value} {v : Nat} {μ : q_M} {K : Nat → q_M → Prop} : q_r 14 (x0 :: x1 :: x2 :: x3 :: x4 :: x5 :: x6 :: x7 :: x8 :: x9 :: x10 :: x11 :: x12 :: x13 :: .ref v :: e) μ K = K v μ := kr rfl
theorem k_se14 {x0 x1 x2 x3 x4 x5 x6 x7 x8 x9 x10 x11 x12 x13 : Value} {x v : Value} {e : List Value} {μ : q_M} {Kn : List Value → q_M → Prop} : seK 14 v (x0 :: x1 :: x2 :: x3 :: x4 :: x5 :: x6 :: x7 :: x8 :: x9 :: x10 :: x11 :: x12 :: x13 :: x :: e) μ Kn = Kn (x0 :: x1 :: x2 :: x3 :: x4 :: x5 :: x6 :: x7 :: x8 :: x9 :: x10 :: x11 :: x12 :: x13 :: v :: e) μ := propext ⟨fun h => h.2, fun h => ⟨by simp only [List.length_cons]; omega, h⟩⟩
theorem k_ic14 {x0 x1 x2 x3 x4 x5 x6 x7 x8 x9 x10 x11 x12 x13 : Value} {n v : Int} {e : List Value} {μ : q_M} {Kn : List Value → q_M → Prop} {Kr : Option Value → q_M → Prop} : q_sinc 14 n (x0 :: x1 :: x2 :: x3 :: x4 :: x5 :: x6 :: x7 :: x8 :: x9 :: x10 :: x11 :: x12 :: x13 :: .int (zI v) :: e) μ Kn Kr = Kn (x0 :: x1 :: x2 :: x3 :: x4 :: x5 :: x6 :: x7 :: x8 :: x9 :: x10 :: x11 :: x12 :: x13 :: .int (zI (v + n)) :: e) μ := propext ⟨fun ⟨w, h, k⟩ => by
  have h2 : w = zI v := by injection h with h; injection h with h; exact h.symm
  subst h2
  rw [show zI v + Int32.ofInt n = zI (v + n) from zI_add v n] at k
  exact k, fun k => ⟨zI v, rfl, by
  rw [show zI v + Int32.ofInt n = zI (v + n) from zI_add v n]
  exact k⟩⟩
theorem k_de14 {x0 x1 x2 x3 x4 x5 x6 x7 x8 x9 x10 x11 x12 x13 : Value} {v : Value} {μ : q_M} {Kn : List Value → q_M → Prop} : deK 14 v [x0, x1, x2, x3, x4, x5, x6, x7, x8, x9, x10, x11, x12, x13] μ Kn = Kn (x0 :: x1 :: x2 :: x3 :: x4 :: x5 :: x6 :: x7 :: x8 :: x9 :: x10 :: x11 :: x12 :: x13 :: [v]) μ := propext ⟨fun h => h.2, fun h => ⟨rfl, h⟩⟩
theorem k_tk14 {x0 x1 x2 x3 x4 x5 x6 x7 x8 x9 x10 x11 x12 x13 : Value} {e : List Value} {μ : q_M} {Kn : List Value → q_M → Prop} : tkK 14 (x0 :: x1 :: x2 :: x3 :: x4 :: x5 :: x6 :: x7 :: x8 :: x9 :: x10 :: x11 :: x12 :: x13 :: e) μ Kn = Kn [x0, x1, x2, x3, x4, x5, x6, x7, x8, x9, x10, x11, x12, x13] μ := rfl
theorem k_l15 {x0 x1 x2 x3 x4 x5 x6 x7 x8 x9 x10 x11 x12 x13 x14 : Value} {e : List Value} {v : Int32} {μ : q_M} {K : Int32 → q_M → Prop} : q_l 15 (x0 :: x1 :: x2 :: x3 :: x4 :: x5 :: x6 :: x7 :: x8 :: x9 :: x10 :: x11 :: x12 :: x13 :: x14 :: .int v :: e) μ K = K v μ := kl rfl
theorem k_r15 {x0 x1 x2 x3 x4 x5 x6 x7 x8 x9 x10 x11 x12 x13 x14 : Value} {e : List Value} {v : Nat} {μ : q_M} {K : Nat → q_M → Prop} : q_r 15 (x0 :: x1 :: x2 :: x3 :: x4 :: x5 :: x6 :: x7 :: x8 :: x9 :: x10 :: x11 :: x12 :: x13 :: x14 :: .ref v :: e) μ K = K v μ := kr rfl
theorem k_se15 {x0 x1 x2 x3 x4 x5 x6 x7 x8 x9 x10 x11 x12 x13 x14 : Value} {x v : Value} {e : List Value} {μ : q_M} {Kn : List Value → q_M → Prop} : seK 15 v (x0 :: x1 :: x2 :: x3 :: x4 :: x5 :: x6 :: x7 :: x8 :: x9 :: x10 :: x11 :: x12 :: x13 :: x14 :: x :: e) μ Kn = Kn (x0 :: x1 :: x2 :: x3 :: x4 :: x5 :: x6 :: x7 :: x8 :: x9 :: x10 :: x11 :: x12 :: x13 :: x14 :: v :: e) μ := propext ⟨fun h => h.2, fun h => ⟨by simp only [List.length_cons]; omega, h⟩⟩
theorem k_ic15 {x0 x1 x2 x3 x4 x5 x6 x7 x8 x9 x10 x11 x12 x13 x14 : Value} {n v : Int} {e : List Value} {μ : q_M} {Kn : List Value → q_M → Prop} {Kr : Option Value → q_M → Prop} : q_sinc 15 n (x0 :: x1 :: x2 :: x3 :: x4 :: x5 :: x6 :: x7 :: x8 :: x9 :: x10 :: x11 :: x12 :: x13 :: x14 :: .int (zI v) :: e) μ Kn Kr = Kn (x0 :: x1 :: x2 :: x3 :: x4 :: x5 :: x6 :: x7 :: x8 :: x9 :: x10 :: x11 :: x12 :: x13 :: x14 :: .int (zI (v + n)) :: e) μ := propext ⟨fun ⟨w, h, k⟩ => by
  have h2 : w = zI v := by injection h with h; injection h with h; exact h.symm
  subst h2
  rw [show zI v + Int32.ofInt n = zI (v + n) from zI_add v n] at k
  exact k, fun k => ⟨zI v, rfl, by
  rw [show zI v + Int32.ofInt n = zI (v + n) from zI_add v n]
  exact k⟩⟩
theorem k_de15 {x0 x1 x2 x3 x4 x5 x6 x7 x8 x9 x10 x11 x12 x13 x14 : Value} {v : Value} {μ : q_M} {Kn : List Value → q_M → Prop} : deK 15 v [x0, x1, x2, x3, x4, x5, x6, x7, x8, x9, x10, x11, x12, x13, x14] μ Kn = Kn (x0 :: x1 :: x2 :: x3 :: x4 :: x5 :: x6 :: x7 :: x8 :: x9 :: x10 :: x11 :: x12 :: x13 :: x14 :: [v]) μ := propext ⟨fun h => h.2, fun h => ⟨rfl, h⟩⟩
theorem k_tk15 {x0 x1 x2 x3 x4 x5 x6 x7 x8 x9 x10 x11 x12 x13 x14 : Value} {e : List Value} {μ : q_M} {Kn : List Value → q_M → Prop} : tkK 15 (x0 :: x1 :: x2 :: x3 :: x4 :: x5 :: x6 :: x7 :: x8 :: x9 :: x10 :: x11 :: x12 :: x13 :: x14 :: e) μ Kn = Kn [x0, x1, x2, x3, x4, x5, x6, x7, x8, x9, x10, x11, x12, x13, x14] μ := rfl
theorem k_l16 {x0 x1 x2 x3 x4 x5 x6 x7 x8 x9 x10 x11 x12 x13 x14 x15 : Value} {e : List Value} {v : Int32} {μ : q_M} {K : Int32 → q_M → Prop} : q_l 16 (x0 :: x1 :: x2 :: x3 :: x4 :: x5 :: x6 :: x7 :: x8 :: x9 :: x10 :: x11 :: x12 :: x13 :: x14 :: x15 :: .int v :: e) μ K = K v μ := kl rfl
theorem k_r16 {x0 x1 x2 x3 x4 x5 x6 x7 x8 x9 x10 x11 x12 x13 x14 x15 : Value} {e : List Value} {v : Nat} {μ : q_M} {K : Nat → q_M → Prop} : q_r 16 (x0 :: x1 :: x2 :: x3 :: x4 :: x5 :: x6 :: x7 :: x8 :: x9 :: x10 :: x11 :: x12 :: x13 :: x14 :: x15 :: .ref v :: e) μ K = K v μ := kr rfl
theorem k_se16 {x0 x1 x2 x3 x4 x5 x6 x7 x8 x9 x10 x11 x12 x13 x14 x15 : Value} {x v : Value} {e : List Value} {μ : q_M} {Kn : List Value → q_M → Prop} : seK 16 v (x0 :: x1 :: x2 :: x3 :: x4 :: x5 :: x6 :: x7 :: x8 :: x9 :: x10 :: x11 :: x12 :: x13 :: x14 :: x15 :: x :: e) μ Kn = Kn (x0 :: x1 :: x2 :: x3 :: x4 :: x5 :: x6 :: x7 :: x8 :: x9 :: x10 :: x11 :: x12 :: x13 :: x14 :: x15 :: v :: e) μ := propext ⟨fun h => h.2, fun h => ⟨by simp only [List.length_cons]; omega, h⟩⟩
theorem k_ic16 {x0 x1 x2 x3 x4 x5 x6 x7 x8 x9 x10 x11 x12 x13 x14 x15 : Value} {n v : Int} {e : List Value} {μ : q_M} {Kn : List Value → q_M → Prop} {Kr : Option Value → q_M → Prop} : q_sinc 16 n (x0 :: x1 :: x2 :: x3 :: x4 :: x5 :: x6 :: x7 :: x8 :: x9 :: x10 :: x11 :: x12 :: x13 :: x14 :: x15 :: .int (zI v) :: e) μ Kn Kr = Kn (x0 :: x1 :: x2 :: x3 :: x4 :: x5 :: x6 :: x7 :: x8 :: x9 :: x10 :: x11 :: x12 :: x13 :: x14 :: x15 :: .int (zI (v + n)) :: e) μ := propext ⟨fun ⟨w, h, k⟩ => by
  have h2 : w = zI v := by injection h with h; injection h with h; exact h.symm
  subst h2
  rw [show zI v + Int32.ofInt n = zI (v + n) from zI_add v n] at k
  exact k, fun k => ⟨zI v, rfl, by
  rw [show zI v + Int32.ofInt n = zI (v + n) from zI_add v n]
  exact k⟩⟩
theorem k_de16 {x0 x1 x2 x3 x4 x5 x6 x7 x8 x9 x10 x11 x12 x13 x14 x15 : Value} {v : Value} {μ : q_M} {Kn : List Value → q_M → Prop} : deK 16 v [x0, x1, x2, x3, x4, x5, x6, x7, x8, x9, x10, x11, x12, x13, x14, x15] μ Kn = Kn (x0 :: x1 :: x2 :: x3 :: x4 :: x5 :: x6 :: x7 :: x8 :: x9 :: x10 :: x11 :: x12 :: x13 :: x14 :: x15 :: [v]) μ := propext ⟨fun h => h.2, fun h => ⟨rfl, h⟩⟩
theorem k_tk16 {x0 x1 x2 x3 x4 x5 x6 x7 x8 x9 x10 x11 x12 x13 x14 x15 : Value} {e : List Value} {μ : q_M} {Kn : List Value → q_M → Prop} : tkK 16 (x0 :: x1 :: x2 :: x3 :: x4 :: x5 :: x6 :: x7 :: x8 :: x9 :: x10 :: x11 :: x12 :: x13 :: x14 :: x15 :: e) μ Kn = Kn [x0, x1, x2, x3, x4, x5, x6, x7, x8, x9, x10, x11, x12, x13, x14, x15] μ := rfl
theorem k_l17 {x0 x1 x2 x3 x4 x5 x6 x7 x8 x9 x10 x11 x12 x13 x14 x15 x16 : Value} {e : List Value} {v : Int32} {μ : q_M} {K : Int32 → q_M → Prop} : q_l 17 (x0 :: x1 :: x2 :: x3 :: x4 :: x5 :: x6 :: x7 :: x8 :: x9 :: x10 :: x11 :: x12 :: x13 :: x14 :: x15 :: x16 :: .int v :: e) μ K = K v μ := kl rfl
theorem k_r17 {x0 x1 x2 x3 x4 x5 x6 x7 x8 x9 x10 x11 x12 x13 x14 x15 x16 : Value} {e : List Value} {v : Nat} {μ : q_M} {K : Nat → q_M → Prop} : q_r 17 (x0 :: x1 :: x2 :: x3 :: x4 :: x5 :: x6 :: x7 :: x8 :: x9 :: x10 :: x11 :: x12 :: x13 :: x14 :: x15 :: x16 :: .ref v :: e) μ K = K v μ := kr rfl
theorem k_se17 {x0 x1 x2 x3 x4 x5 x6 x7 x8 x9 x10 x11 x12 x13 x14 x15 x16 : Value} {x v : Value} {e : List Value} {μ : q_M} {Kn : List Value → q_M → Prop} : seK 17 v (x0 :: x1 :: x2 :: x3 :: x4 :: x5 :: x6 :: x7 :: x8 :: x9 :: x10 :: x11 :: x12 :: x13 :: x14 :: x15 :: x16 :: x :: e) μ Kn = Kn (x0 :: x1 :: x2 :: x3 :: x4 :: x5 :: x6 :: x7 :: x8 :: x9 :: x10 :: x11 :: x12 :: x13 :: x14 :: x15 :: x16 :: v :: e) μ := propext ⟨fun h => h.2, fun h => ⟨by simp only [List.length_cons]; omega, h⟩⟩
theorem k_ic17 {x0 x1 x2 x3 x4 x5 x6 x7 x8 x9 x10 x11 x12 x13 x14 x15 x16 : Value} {n v : Int} {e : List Value} {μ : q_M} {Kn : List Value → q_M → Prop} {Kr : Option Value → q_M → Prop} : q_sinc 17 n (x0 :: x1 :: x2 :: x3 :: x4 :: x5 :: x6 :: x7 :: x8 :: x9 :: x10 :: x11 :: x12 :: x13 :: x14 :: x15 :: x16 :: .int (zI v) :: e) μ Kn Kr = Kn (x0 :: x1 :: x2 :: x3 :: x4 :: x5 :: x6 :: x7 :: x8 :: x9 :: x10 :: x11 :: x12 :: x13 :: x14 :: x15 :: x16 :: .int (zI (v + n)) :: e) μ := propext ⟨fun ⟨w, h, k⟩ => by
  have h2 : w = zI v := by injection h with h; injection h with h; exact h.symm
  subst h2
  rw [show zI v + Int32.ofInt n = zI (v + n) from zI_add v n] at k
  exact k, fun k => ⟨zI v, rfl, by
  rw [show zI v + Int32.ofInt n = zI (v + n) from zI_add v n]
  exact k⟩⟩
theorem k_de17 {x0 x1 x2 x3 x4 x5 x6 x7 x8 x9 x10 x11 x12 x13 x14 x15 x16 : Value} {v : Value} {μ : q_M} {Kn : List Value → q_M → Prop} : deK 17 v [x0, x1, x2, x3, x4, x5, x6, x7, x8, x9, x10, x11, x12, x13, x14, x15, x16] μ Kn = Kn (x0 :: x1 :: x2 :: x3 :: x4 :: x5 :: x6 :: x7 :: x8 :: x9 :: x10 :: x11 :: x12 :: x13 :: x14 :: x15 :: x16 :: [v]) μ := propext ⟨fun h => h.2, fun h => ⟨rfl, h⟩⟩
theorem k_tk17 {x0 x1 x2 x3 x4 x5 x6 x7 x8 x9 x10 x11 x12 x13 x14 x15 x16 : Value} {e : List Value} {μ : q_M} {Kn : List Value → q_M → Prop} : tkK 17 (x0 :: x1 :: x2 :: x3 :: x4 :: x5 :: x6 :: x7 :: x8 :: x9 :: x10 :: x11 :: x12 :: x13 :: x14 :: x15 :: x16 :: e) μ Kn = Kn [x0, x1, x2, x3, x4, x5, x6, x7, x8, x9, x10, x11, x12, x13, x14, x15, x16] μ := rfl
theorem k_l18 {x0 x1 x2 x3 x4 x5 x6 x7 x8 x9 x10 x11 x12 x13 x14 x15 x16 x17 : Value} {e : List Value} {v : Int32} {μ : q_M} {K : Int32 → q_M → Prop} : q_l 18 (x0 :: x1 :: x2 :: x3 :: x4 :: x5 :: x6 :: x7 :: x8 :: x9 :: x10 :: x11 :: x12 :: x13 :: x14 :: x15 :: x16 :: x17 :: .int v :: e) μ K = K v μ := kl rfl
theorem k_r18 {x0 x1 x2 x3 x4 x5 x6 x7 x8 x9 x10 x11 x12 x13 x14 x15 x16 x17 : Value} {e : List Value} {v : Nat} {μ : q_M} {K : Nat → q_M → Prop} : q_r 18 (x0 :: x1 :: x2 :: x3 :: x4 :: x5 :: x6 :: x7 :: x8 :: x9 :: x10 :: x11 :: x12 :: x13 :: x14 :: x15 :: x16 :: x17 :: .ref v :: e) μ K = K v μ := kr rfl
theorem k_se18 {x0 x1 x2 x3 x4 x5 x6 x7 x8 x9 x10 x11 x12 x13 x14 x15 x16 x17 : Value} {x v : Value} {e : List Value} {μ : q_M} {Kn : List Value → q_M → Prop} : seK 18 v (x0 :: x1 :: x2 :: x3 :: x4 :: x5 :: x6 :: x7 :: x8 :: x9 :: x10 :: x11 :: x12 :: x13 :: x14 :: x15 :: x16 :: x17 :: x :: e) μ Kn = Kn (x0 :: x1 :: x2 :: x3 :: x4 :: x5 :: x6 :: x7 :: x8 :: x9 :: x10 :: x11 :: x12 :: x13 :: x14 :: x15 :: x16 :: x17 :: v :: e) μ := propext ⟨fun h => h.2, fun h => ⟨by simp only [List.length_cons]; omega, h⟩⟩
theorem k_ic18 {x0 x1 x2 x3 x4 x5 x6 x7 x8 x9 x10 x11 x12 x13 x14 x15 x16 x17 : Value} {n v : Int} {e : List Value} {μ : q_M} {Kn : List Value → q_M → Prop} {Kr : Option Value → q_M → Prop} : q_sinc 18 n (x0 :: x1 :: x2 :: x3 :: x4 :: x5 :: x6 :: x7 :: x8 :: x9 :: x10 :: x11 :: x12 :: x13 :: x14 :: x15 :: x16 :: x17 :: .int (zI v) :: e) μ Kn Kr = Kn (x0 :: x1 :: x2 :: x3 :: x4 :: x5 :: x6 :: x7 :: x8 :: x9 :: x10 :: x11 :: x12 :: x13 :: x14 :: x15 :: x16 :: x17 :: .int (zI (v + n)) :: e) μ := propext ⟨fun ⟨w, h, k⟩ => by
  have h2 : w = zI v := by injection h with h; injection h with h; exact h.symm
  subst h2
  rw [show zI v + Int32.ofInt n = zI (v + n) from zI_add v n] at k
  exact k, fun k => ⟨zI v, rfl, by
  rw [show zI v + Int32.ofInt n = zI (v + n) from zI_add v n]
  exact k⟩⟩
theorem k_de18 {x0 x1 x2 x3 x4 x5 x6 x7 x8 x9 x10 x11 x12 x13 x14 x15 x16 x17 : Value} {v : Value} {μ : q_M} {Kn : List Value → q_M → Prop} : deK 18 v [x0, x1, x2, x3, x4, x5, x6, x7, x8, x9, x10, x11, x12, x13, x14, x15, x16, x17] μ Kn = Kn (x0 :: x1 :: x2 :: x3 :: x4 :: x5 :: x6 :: x7 :: x8 :: x9 :: x10 :: x11 :: x12 :: x13 :: x14 :: x15 :: x16 :: x17 :: [v]) μ := propext ⟨fun h => h.2, fun h => ⟨rfl, h⟩⟩
theorem k_tk18 {x0 x1 x2 x3 x4 x5 x6 x7 x8 x9 x10 x11 x12 x13 x14 x15 x16 x17 : Value} {e : List Value} {μ : q_M} {Kn : List Value → q_M → Prop} : tkK 18 (x0 :: x1 :: x2 :: x3 :: x4 :: x5 :: x6 :: x7 :: x8 :: x9 :: x10 :: x11 :: x12 :: x13 :: x14 :: x15 :: x16 :: x17 :: e) μ Kn = Kn [x0, x1, x2, x3, x4, x5, x6, x7, x8, x9, x10, x11, x12, x13, x14, x15, x16, x17] μ := rfl
theorem k_l19 {x0 x1 x2 x3 x4 x5 x6 x7 x8 x9 x10 x11 x12 x13 x14 x15 x16 x17 x18 : Value} {e : List Value} {v : Int32} {μ : q_M} {K : Int32 → q_M → Prop} : q_l 19 (x0 :: x1 :: x2 :: x3 :: x4 :: x5 :: x6 :: x7 :: x8 :: x9 :: x10 :: x11 :: x12 :: x13 :: x14 :: x15 :: x16 :: x17 :: x18 :: .int v :: e) μ K = K v μ := kl rfl
theorem k_r19 {x0 x1 x2 x3 x4 x5 x6 x7 x8 x9 x10 x11 x12 x13 x14 x15 x16 x17 x18 : Value} {e : List Value} {v : Nat} {μ : q_M} {K : Nat → q_M → Prop} : q_r 19 (x0 :: x1 :: x2 :: x3 :: x4 :: x5 :: x6 :: x7 :: x8 :: x9 :: x10 :: x11 :: x12 :: x13 :: x14 :: x15 :: x16 :: x17 :: x18 :: .ref v :: e) μ K = K v μ := kr rfl
theorem k_se19 {x0 x1 x2 x3 x4 x5 x6 x7 x8 x9 x10 x11 x12 x13 x14 x15 x16 x17 x18 : Value} {x v : Value} {e : List Value} {μ : q_M} {Kn : List Value → q_M → Prop} : seK 19 v (x0 :: x1 :: x2 :: x3 :: x4 :: x5 :: x6 :: x7 :: x8 :: x9 :: x10 :: x11 :: x12 :: x13 :: x14 :: x15 :: x16 :: x17 :: x18 :: x :: e) μ Kn = Kn (x0 :: x1 :: x2 :: x3 :: x4 :: x5 :: x6 :: x7 :: x8 :: x9 :: x10 :: x11 :: x12 :: x13 :: x14 :: x15 :: x16 :: x17 :: x18 :: v :: e) μ := propext ⟨fun h => h.2, fun h => ⟨by simp only [List.length_cons]; omega, h⟩⟩
theorem k_ic19 {x0 x1 x2 x3 x4 x5 x6 x7 x8 x9 x10 x11 x12 x13 x14 x15 x16 x17 x18 : Value} {n v : Int} {e : List Value} {μ : q_M} {Kn : List Value → q_M → Prop} {Kr : Option Value → q_M → Prop} : q_sinc 19 n (x0 :: x1 :: x2 :: x3 :: x4 :: x5 :: x6 :: x7 :: x8 :: x9 :: x10 :: x11 :: x12 :: x13 :: x14 :: x15 :: x16 :: x17 :: x18 :: .int (zI v) :: e) μ Kn Kr = Kn (x0 :: x1 :: x2 :: x3 :: x4 :: x5 :: x6 :: x7 :: x8 :: x9 :: x10 :: x11 :: x12 :: x13 :: x14 :: x15 :: x16 :: x17 :: x18 :: .int (zI (v + n)) :: e) μ := propext ⟨fun ⟨w, h, k⟩ => by
  have h2 : w = zI v := by injection h with h; injection h with h; exact h.symm
  subst h2
  rw [show zI v + Int32.ofInt n = zI (v + n) from zI_add v n] at k
  exact k, fun k => ⟨zI v, rfl, by
  rw [show zI v + Int32.ofInt n = zI (v + n) from zI_add v n]
  exact k⟩⟩
theorem k_de19 {x0 x1 x2 x3 x4 x5 x6 x7 x8 x9 x10 x11 x12 x13 x14 x15 x16 x17 x18 : Value} {v : Value} {μ : q_M} {Kn : List Value → q_M → Prop} : deK 19 v [x0, x1, x2, x3, x4, x5, x6, x7, x8, x9, x10, x11, x12, x13, x14, x15, x16, x17, x18] μ Kn = Kn (x0 :: x1 :: x2 :: x3 :: x4 :: x5 :: x6 :: x7 :: x8 :: x9 :: x10 :: x11 :: x12 :: x13 :: x14 :: x15 :: x16 :: x17 :: x18 :: [v]) μ := propext ⟨fun h => h.2, fun h => ⟨rfl, h⟩⟩
theorem k_tk19 {x0 x1 x2 x3 x4 x5 x6 x7 x8 x9 x10 x11 x12 x13 x14 x15 x16 x17 x18 : Value} {e : List Value} {μ : q_M} {Kn : List Value → q_M → Prop} : tkK 19 (x0 :: x1 :: x2 :: x3 :: x4 :: x5 :: x6 :: x7 :: x8 :: x9 :: x10 :: x11 :: x12 :: x13 :: x14 :: x15 :: x16 :: x17 :: x18 :: e) μ Kn = Kn [x0, x1, x2, x3, x4, x5, x6, x7, x8, x9, x10, x11, x12, x13, x14, x15, x16, x17, x18] μ := rfl
theorem k_l20 {x0 x1 x2 x3 x4 x5 x6 x7 x8 x9 x10 x11 x12 x13 x14 x15 x16 x17 x18 x19 : Value} {e : List Value} {v : Int32} {μ : q_M} {K : Int32 → q_M → Prop} : q_l 20 (x0 :: x1 :: x2 :: x3 :: x4 :: x5 :: x6 :: x7 :: x8 :: x9 :: x10 :: x11 :: x12 :: x13 :: x14 :: x15 :: x16 :: x17 :: x18 :: x19 :: .int v :: e) μ K = K v μ := kl rfl
theorem k_r20 {x0 x1 x2 x3 x4 x5 x6 x7 x8 x9 x10 x11 x12 x13 x14 x15 x16 x17 x18 x19 : Value} {e : List Value} {v : Nat} {μ : q_M} {K : Nat → q_M → Prop} : q_r 20 (x0 :: x1 :: x2 :: x3 :: x4 :: x5 :: x6 :: x7 :: x8 :: x9 :: x10 :: x11 :: x12 :: x13 :: x14 :: x15 :: x16 :: x17 :: x18 :: x19 :: .ref v :: e) μ K = K v μ := kr rfl
theorem k_se20 {x0 x1 x2 x3 x4 x5 x6 x7 x8 x9 x10 x11 x12 x13 x14 x15 x16 x17 x18 x19 : Value} {x v : Value} {e : List Value} {μ : q_M} {Kn : List Value → q_M → Prop} : seK 20 v (x0 :: x1 :: x2 :: x3 :: x4 :: x5 :: x6 :: x7 :: x8 :: x9 :: x10 :: x11 :: x12 :: x13 :: x14 :: x15 :: x16 :: x17 :: x18 :: x19 :: x :: e) μ Kn = Kn (x0 :: x1 :: x2 :: x3 :: x4 :: x5 :: x6 :: x7 :: x8 :: x9 :: x10 :: x11 :: x12 :: x13 :: x14 :: x15 :: x16 :: x17 :: x18 :: x19 :: v :: e) μ := propext ⟨fun h => h.2, fun h => ⟨by simp only [List.length_cons]; omega, h⟩⟩
theorem k_ic20 {x0 x1 x2 x3 x4 x5 x6 x7 x8 x9 x10 x11 x12 x13 x14 x15 x16 x17 x18 x19 : Value} {n v : Int} {e : List Value} {μ : q_M} {Kn : List Value → q_M → Prop} {Kr : Option Value → q_M → Prop} : q_sinc 20 n (x0 :: x1 :: x2 :: x3 :: x4 :: x5 :: x6 :: x7 :: x8 :: x9 :: x10 :: x11 :: x12 :: x13 :: x14 :: x15 :: x16 :: x17 :: x18 :: x19 :: .int (zI v) :: e) μ Kn Kr = Kn (x0 :: x1 :: x2 :: x3 :: x4 :: x5 :: x6 :: x7 :: x8 :: x9 :: x10 :: x11 :: x12 :: x13 :: x14 :: x15 :: x16 :: x17 :: x18 :: x19 :: .int (zI (v + n)) :: e) μ := propext ⟨fun ⟨w, h, k⟩ => by
  have h2 : w = zI v := by injection h with h; injection h with h; exact h.symm
  subst h2
  rw [show zI v + Int32.ofInt n = zI (v + n) from zI_add v n] at k
  exact k, fun k => ⟨zI v, rfl, by
  rw [show zI v + Int32.ofInt n = zI (v + n) from zI_add v n]
  exact k⟩⟩
theorem k_de20 {x0 x1 x2 x3 x4 x5 x6 x7 x8 x9 x10 x11 x12 x13 x14 x15 x16 x17 x18 x19 : Value} {v : Value} {μ : q_M} {Kn : List Value → q_M → Prop} : deK 20 v [x0, x1, x2, x3, x4, x5, x6, x7, x8, x9, x10, x11, x12, x13, x14, x15, x16, x17, x18, x19] μ Kn = Kn (x0 :: x1 :: x2 :: x3 :: x4 :: x5 :: x6 :: x7 :: x8 :: x9 :: x10 :: x11 :: x12 :: x13 :: x14 :: x15 :: x16 :: x17 :: x18 :: x19 :: [v]) μ := propext ⟨fun h => h.2, fun h => ⟨rfl, h⟩⟩
theorem k_tk20 {x0 x1 x2 x3 x4 x5 x6 x7 x8 x9 x10 x11 x12 x13 x14 x15 x16 x17 x18 x19 : Value} {e : List Value} {μ : q_M} {Kn : List Value → q_M → Prop} : tkK 20 (x0 :: x1 :: x2 :: x3 :: x4 :: x5 :: x6 :: x7 :: x8 :: x9 :: x10 :: x11 :: x12 :: x13 :: x14 :: x15 :: x16 :: x17 :: x18 :: x19 :: e) μ Kn = Kn [x0, x1, x2, x3, x4, x5, x6, x7, x8, x9, x10, x11, x12, x13, x14, x15, x16, x17, x18, x19] μ := rfl
theorem k_l21 {x0 x1 x2 x3 x4 x5 x6 x7 x8 x9 x10 x11 x12 x13 x14 x15 x16 x17 x18 x19 x20 : Value} {e : List Value} {v : Int32} {μ : q_M} {K : Int32 → q_M → Prop} : q_l 21 (x0 :: x1 :: x2 :: x3 :: x4 :: x5 :: x6 :: x7 :: x8 :: x9 :: x10 :: x11 :: x12 :: x13 :: x14 :: x15 :: x16 :: x17 :: x18 :: x19 :: x20 :: .int v :: e) μ K = K v μ := kl rfl
theorem k_r21 {x0 x1 x2 x3 x4 x5 x6 x7 x8 x9 x10 x11 x12 x13 x14 x15 x16 x17 x18 x19 x20 : Value} {e : List Value} {v : Nat} {μ : q_M} {K : Nat → q_M → Prop} : q_r 21 (x0 :: x1 :: x2 :: x3 :: x4 :: x5 :: x6 :: x7 :: x8 :: x9 :: x10 :: x11 :: x12 :: x13 :: x14 :: x15 :: x16 :: x17 :: x18 :: x19 :: x20 :: .ref v :: e) μ K = K v μ := kr rfl
theorem k_se21 {x0 x1 x2 x3 x4 x5 x6 x7 x8 x9 x10 x11 x12 x13 x14 x15 x16 x17 x18 x19 x20 : Value} {x v : Value} {e : List Value} {μ : q_M} {Kn : List Value → q_M → Prop} : seK 21 v (x0 :: x1 :: x2 :: x3 :: x4 :: x5 :: x6 :: x7 :: x8 :: x9 :: x10 :: x11 :: x12 :: x13 :: x14 :: x15 :: x16 :: x17 :: x18 :: x19 :: x20 :: x :: e) μ Kn = Kn (x0 :: x1 :: x2 :: x3 :: x4 :: x5 :: x6 :: x7 :: x8 :: x9 :: x10 :: x11 :: x12 :: x13 :: x14 :: x15 :: x16 :: x17 :: x18 :: x19 :: x20 :: v :: e) μ := propext ⟨fun h => h.2, fun h => ⟨by simp only [List.length_cons]; omega, h⟩⟩
theorem k_ic21 {x0 x1 x2 x3 x4 x5 x6 x7 x8 x9 x10 x11 x12 x13 x14 x15 x16 x17 x18 x19 x20 : Value} {n v : Int} {e : List Value} {μ : q_M} {Kn : List Value → q_M → Prop} {Kr : Option Value → q_M → Prop} : q_sinc 21 n (x0 :: x1 :: x2 :: x3 :: x4 :: x5 :: x6 :: x7 :: x8 :: x9 :: x10 :: x11 :: x12 :: x13 :: x14 :: x15 :: x16 :: x17 :: x18 :: x19 :: x20 :: .int (zI v) :: e) μ Kn Kr = Kn (x0 :: x1 :: x2 :: x3 :: x4 :: x5 :: x6 :: x7 :: x8 :: x9 :: x10 :: x11 :: x12 :: x13 :: x14 :: x15 :: x16 :: x17 :: x18 :: x19 :: x20 :: .int (zI (v + n)) :: e) μ := propext ⟨fun ⟨w, h, k⟩ => by
  have h2 : w = zI v := by injection h with h; injection h with h; exact h.symm
  subst h2
  rw [show zI v + Int32.ofInt n = zI (v + n) from zI_add v n] at k
  exact k, fun k => ⟨zI v, rfl, by
  rw [show zI v + Int32.ofInt n = zI (v + n) from zI_add v n]
  exact k⟩⟩
theorem k_de21 {x0 x1 x2 x3 x4 x5 x6 x7 x8 x9 x10 x11 x12 x13 x14 x15 x16 x17 x18 x19 x20 : Value} {v : Value} {μ : q_M} {Kn : List Value → q_M → Prop} : deK 21 v [x0, x1, x2, x3, x4, x5, x6, x7, x8, x9, x10, x11, x12, x13, x14, x15, x16, x17, x18, x19, x20] μ Kn = Kn (x0 :: x1 :: x2 :: x3 :: x4 :: x5 :: x6 :: x7 :: x8 :: x9 :: x10 :: x11 :: x12 :: x13 :: x14 :: x15 :: x16 :: x17 :: x18 :: x19 :: x20 :: [v]) μ := propext ⟨fun h => h.2, fun h => ⟨rfl, h⟩⟩
theorem k_tk21 {x0 x1 x2 x3 x4 x5 x6 x7 x8 x9 x10 x11 x12 x13 x14 x15 x16 x17 x18 x19 x20 : Value} {e : List Value} {μ : q_M} {Kn : List Value → q_M → Prop} : tkK 21 (x0 :: x1 :: x2 :: x3 :: x4 :: x5 :: x6 :: x7 :: x8 :: x9 :: x10 :: x11 :: x12 :: x13 :: x14 :: x15 :: x16 :: x17 :: x18 :: x19 :: x20 :: e) μ Kn = Kn [x0, x1, x2, x3, x4, x5, x6, x7, x8, x9, x10, x11, x12, x13, x14, x15, x16, x17, x18, x19, x20] μ := rfl
theorem k_l22 {x0 x1 x2 x3 x4 x5 x6 x7 x8 x9 x10 x11 x12 x13 x14 x15 x16 x17 x18 x19 x20 x21 : Value} {e : List Value} {v : Int32} {μ : q_M} {K : Int32 → q_M → Prop} : q_l 22 (x0 :: x1 :: x2 :: x3 :: x4 :: x5 :: x6 :: x7 :: x8 :: x9 :: x10 :: x11 :: x12 :: x13 :: x14 :: x15 :: x16 :: x17 :: x18 :: x19 :: x20 :: x21 :: .int v :: e) μ K = K v μ := kl rfl
theorem k_r22 {x0 x1 x2 x3 x4 x5 x6 x7 x8 x9 x10 x11 x12 x13 x14 x15 x16 x17 x18 x19 x20 x21 : Value} {e : List Value} {v : Nat} {μ : q_M} {K : Nat → q_M → Prop} : q_r 22 (x0 :: x1 :: x2 :: x3 :: x4 :: x5 :: x6 :: x7 :: x8 :: x9 :: x10 :: x11 :: x12 :: x13 :: x14 :: x15 :: x16 :: x17 :: x18 :: x19 :: x20 :: x21 :: .ref v :: e) μ K = K v μ := kr rfl
theorem k_se22 {x0 x1 x2 x3 x4 x5 x6 x7 x8 x9 x10 x11 x12 x13 x14 x15 x16 x17 x18 x19 x20 x21 : Value} {x v : Value} {e : List Value} {μ : q_M} {Kn : List Value → q_M → Prop} : seK 22 v (x0 :: x1 :: x2 :: x3 :: x4 :: x5 :: x6 :: x7 :: x8 :: x9 :: x10 :: x11 :: x12 :: x13 :: x14 :: x15 :: x16 :: x17 :: x18 :: x19 :: x20 :: x21 :: x :: e) μ Kn = Kn (x0 :: x1 :: x2 :: x3 :: x4 :: x5 :: x6 :: x7 :: x8 :: x9 :: x10 :: x11 :: x12 :: x13 :: x14 :: x15 :: x16 :: x17 :: x18 :: x19 :: x20 :: x21 :: v :: e) μ := propext ⟨fun h => h.2, fun h => ⟨by simp only [List.length_cons]; omega, h⟩⟩
theorem k_ic22 {x0 x1 x2 x3 x4 x5 x6 x7 x8 x9 x10 x11 x12 x13 x14 x15 x16 x17 x18 x19 x20 x21 : Value} {n v : Int} {e : List Value} {μ : q_M} {Kn : List Value → q_M → Prop} {Kr : Option Value → q_M → Prop} : q_sinc 22 n (x0 :: x1 :: x2 :: x3 :: x4 :: x5 :: x6 :: x7 :: x8 :: x9 :: x10 :: x11 :: x12 :: x13 :: x14 :: x15 :: x16 :: x17 :: x18 :: x19 :: x20 :: x21 :: .int (zI v) :: e) μ Kn Kr = Kn (x0 :: x1 :: x2 :: x3 :: x4 :: x5 :: x6 :: x7 :: x8 :: x9 :: x10 :: x11 :: x12 :: x13 :: x14 :: x15 :: x16 :: x17 :: x18 :: x19 :: x20 :: x21 :: .int (zI (v + n)) :: e) μ := propext ⟨fun ⟨w, h, k⟩ => by
  have h2 : w = zI v := by injection h with h; injection h with h; exact h.symm
  subst h2
  rw [show zI v + Int32.ofInt n = zI (v + n) from zI_add v n] at k
  exact k, fun k => ⟨zI v, rfl, by
  rw [show zI v + Int32.ofInt n = zI (v + n) from zI_add v n]
  exact k⟩⟩
theorem k_de22 {x0 x1 x2 x3 x4 x5 x6 x7 x8 x9 x10 x11 x12 x13 x14 x15 x16 x17 x18 x19 x20 x21 : Value} {v : Value} {μ : q_M} {Kn : List Value → q_M → Prop} : deK 22 v [x0, x1, x2, x3, x4, x5, x6, x7, x8, x9, x10, x11, x12, x13, x14, x15, x16, x17, x18, x19, x20, x21] μ Kn = Kn (x0 :: x1 :: x2 :: x3 :: x4 :: x5 :: x6 :: x7 :: x8 :: x9 :: x10 :: x11 :: x12 :: x13 :: x14 :: x15 :: x16 :: x17 :: x18 :: x19 :: x20 :: x21 :: [v]) μ := propext ⟨fun h => h.2, fun h => ⟨rfl, h⟩⟩
theorem k_tk22 {x0 x1 x2 x3 x4 x5 x6 x7 x8 x9 x10 x11 x12 x13 x14 x15 x16 x17 x18 x19 x20 x21 : Value} {e : List Value} {μ : q_M} {Kn : List Value → q_M → Prop} : tkK 22 (x0 :: x1 :: x2 :: x3 :: x4 :: x5 :: x6 :: x7 :: x8 :: x9 :: x10 :: x11 :: x12 :: x13 :: x14 :: x15 :: x16 :: x17 :: x18 :: x19 :: x20 :: x21 :: e) μ Kn = Kn [x0, x1, x2, x3, x4, x5, x6, x7, x8, x9, x10, x11, x12, x13, x14, x15, x16, x17, x18, x19, x20, x21] μ := rfl
theorem k_l23 {x0 x1 x2 x3 x4 x5 x6 x7 x8 x9 x10 x11 x12 x13 x14 x15 x16 x17 x18 x19 x20 x21 x22 : Value} {e : List Value} {v : Int32} {μ : q_M} {K : Int32 → q_M → Prop} : q_l 23 (x0 :: x1 :: x2 :: x3 :: x4 :: x5 :: x6 :: x7 :: x8 :: x9 :: x10 :: x11 :: x12 :: x13 :: x14 :: x15 :: x16 :: x17 :: x18 :: x19 :: x20 :: x21 :: x22 :: .int v :: e) μ K = K v μ := kl rfl
theorem k_r23 {x0 x1 x2 x3 x4 x5 x6 x7 x8 x9 x10 x11 x12 x13 x14 x15 x16 x17 x18 x19 x20 x21 x22 : Value} {e : List Value} {v : Nat} {μ : q_M} {K : Nat → q_M → Prop} : q_r 23 (x0 :: x1 :: x2 :: x3 :: x4 :: x5 :: x6 :: x7 :: x8 :: x9 :: x10 :: x11 :: x12 :: x13 :: x14 :: x15 :: x16 :: x17 :: x18 :: x19 :: x20 :: x21 :: x22 :: .ref v :: e) μ K = K v μ := kr rfl
theorem k_se23 {x0 x1 x2 x3 x4 x5 x6 x7 x8 x9 x10 x11 x12 x13 x14 x15 x16 x17 x18 x19 x20 x21 x22 : Value} {x v : Value} {e : List Value} {μ : q_M} {Kn : List Value → q_M → Prop} : seK 23 v (x0 :: x1 :: x2 :: x3 :: x4 :: x5 :: x6 :: x7 :: x8 :: x9 :: x10 :: x11 :: x12 :: x13 :: x14 :: x15 :: x16 :: x17 :: x18 :: x19 :: x20 :: x21 :: x22 :: x :: e) μ Kn = Kn (x0 :: x1 :: x2 :: x3 :: x4 :: x5 :: x6 :: x7 :: x8 :: x9 :: x10 :: x11 :: x12 :: x13 :: x14 :: x15 :: x16 :: x17 :: x18 :: x19 :: x20 :: x21 :: x22 :: v :: e) μ := propext ⟨fun h => h.2, fun h => ⟨by simp only [List.length_cons]; omega, h⟩⟩
theorem k_ic23 {x0 x1 x2 x3 x4 x5 x6 x7 x8 x9 x10 x11 x12 x13 x14 x15 x16 x17 x18 x19 x20 x21 x22 : Value} {n v : Int} {e : List Value} {μ : q_M} {Kn : List Value → q_M → Prop} {Kr : Option Value → q_M → Prop} : q_sinc 23 n (x0 :: x1 :: x2 :: x3 :: x4 :: x5 :: x6 :: x7 :: x8 :: x9 :: x10 :: x11 :: x12 :: x13 :: x14 :: x15 :: x16 :: x17 :: x18 :: x19 :: x20 :: x21 :: x22 :: .int (zI v) :: e) μ Kn Kr = Kn (x0 :: x1 :: x2 :: x3 :: x4 :: x5 :: x6 :: x7 :: x8 :: x9 :: x10 :: x11 :: x12 :: x13 :: x14 :: x15 :: x16 :: x17 :: x18 :: x19 :: x20 :: x21 :: x22 :: .int (zI (v + n)) :: e) μ := propext ⟨fun ⟨w, h, k⟩ => by
  have h2 : w = zI v := by injection h with h; injection h with h; exact h.symm
  subst h2
  rw [show zI v + Int32.ofInt n = zI (v + n) from zI_add v n] at k
  exact k, fun k => ⟨zI v, rfl, by
  rw [show zI v + Int32.ofInt n = zI (v + n) from zI_add v n]
  exact k⟩⟩
theorem k_de23 {x0 x1 x2 x3 x4 x5 x6 x7 x8 x9 x10 x11 x12 x13 x14 x15 x16 x17 x18 x19 x20 x21 x22 : Value} {v : Value} {μ : q_M} {Kn : List Value → q_M → Prop} : deK 23 v [x0, x1, x2, x3, x4, x5, x6, x7, x8, x9, x10, x11, x12, x13, x14, x15, x16, x17, x18, x19, x20, x21, x22] μ Kn = Kn (x0 :: x1 :: x2 :: x3 :: x4 :: x5 :: x6 :: x7 :: x8 :: x9 :: x10 :: x11 :: x12 :: x13 :: x14 :: x15 :: x16 :: x17 :: x18 :: x19 :: x20 :: x21 :: x22 :: [v]) μ := propext ⟨fun h => h.2, fun h => ⟨rfl, h⟩⟩
theorem k_tk23 {x0 x1 x2 x3 x4 x5 x6 x7 x8 x9 x10 x11 x12 x13 x14 x15 x16 x17 x18 x19 x20 x21 x22 : Value} {e : List Value} {μ : q_M} {Kn : List Value → q_M → Prop} : tkK 23 (x0 :: x1 :: x2 :: x3 :: x4 :: x5 :: x6 :: x7 :: x8 :: x9 :: x10 :: x11 :: x12 :: x13 :: x14 :: x15 :: x16 :: x17 :: x18 :: x19 :: x20 :: x21 :: x22 :: e) μ Kn = Kn [x0, x1, x2, x3, x4, x5, x6, x7, x8, x9, x10, x11, x12, x13, x14, x15, x16, x17, x18, x19, x20, x21, x22] μ := rfl
theorem k_l24 {x0 x1 x2 x3 x4 x5 x6 x7 x8 x9 x10 x11 x12 x13 x14 x15 x16 x17 x18 x19 x20 x21 x22 x23 : Value} {e : List Value} {v : Int32} {μ : q_M} {K : Int32 → q_M → Prop} : q_l 24 (x0 :: x1 :: x2 :: x3 :: x4 :: x5 :: x6 :: x7 :: x8 :: x9 :: x10 :: x11 :: x12 :: x13 :: x14 :: x15 :: x16 :: x17 :: x18 :: x19 :: x20 :: x21 :: x22 :: x23 :: .int v :: e) μ K = K v μ := kl rfl
theorem k_r24 {x0 x1 x2 x3 x4 x5 x6 x7 x8 x9 x10 x11 x12 x13 x14 x15 x16 x17 x18 x19 x20 x21 x22 x23 : Value} {e : List Value} {v : Nat} {μ : q_M} {K : Nat → q_M → Prop} : q_r 24 (x0 :: x1 :: x2 :: x3 :: x4 :: x5 :: x6 :: x7 :: x8 :: x9 :: x10 :: x11 :: x12 :: x13 :: x14 :: x15 :: x16 :: x17 :: x18 :: x19 :: x20 :: x21 :: x22 :: x23 :: .ref v :: e) μ K = K v μ := kr rfl
theorem k_se24 {x0 x1 x2 x3 x4 x5 x6 x7 x8 x9 x10 x11 x12 x13 x14 x15 x16 x17 x18 x19 x20 x21 x22 x23 : Value} {x v : Value} {e : List Value} {μ : q_M} {Kn : List Value → q_M → Prop} : seK 24 v (x0 :: x1 :: x2 :: x3 :: x4 :: x5 :: x6 :: x7 :: x8 :: x9 :: x10 :: x11 :: x12 :: x13 :: x14 :: x15 :: x16 :: x17 :: x18 :: x19 :: x20 :: x21 :: x22 :: x23 :: x :: e) μ Kn = Kn (x0 :: x1 :: x2 :: x3 :: x4 :: x5 :: x6 :: x7 :: x8 :: x9 :: x10 :: x11 :: x12 :: x13 :: x14 :: x15 :: x16 :: x17 :: x18 :: x19 :: x20 :: x21 :: x22 :: x23 :: v :: e) μ := propext ⟨fun h => h.2, fun h => ⟨by simp only [List.length_cons]; omega, h⟩⟩
theorem k_ic24 {x0 x1 x2 x3 x4 x5 x6 x7 x8 x9 x10 x11 x12 x13 x14 x15 x16 x17 x18 x19 x20 x21 x22 x23 : Value} {n v : Int} {e : List Value} {μ : q_M} {Kn : List Value → q_M → Prop} {Kr : Option Value → q_M → Prop} : q_sinc 24 n (x0 :: x1 :: x2 :: x3 :: x4 :: x5 :: x6 :: x7 :: x8 :: x9 :: x10 :: x11 :: x12 :: x13 :: x14 :: x15 :: x16 :: x17 :: x18 :: x19 :: x20 :: x21 :: x22 :: x23 :: .int (zI v) :: e) μ Kn Kr = Kn (x0 :: x1 :: x2 :: x3 :: x4 :: x5 :: x6 :: x7 :: x8 :: x9 :: x10 :: x11 :: x12 :: x13 :: x14 :: x15 :: x16 :: x17 :: x18 :: x19 :: x20 :: x21 :: x22 :: x23 :: .int (zI (v + n)) :: e) μ := propext ⟨fun ⟨w, h, k⟩ => by
  have h2 : w = zI v := by injection h with h; injection h with h; exact h.symm
  subst h2
  rw [show zI v + Int32.ofInt n = zI (v + n) from zI_add v n] at k
  exact k, fun k => ⟨zI v, rfl, by
  rw [show zI v + Int32.ofInt n = zI (v + n) from zI_add v n]
  exact k⟩⟩
theorem k_de24 {x0 x1 x2 x3 x4 x5 x6 x7 x8 x9 x10 x11 x12 x13 x14 x15 x16 x17 x18 x19 x20 x21 x22 x23 : Value} {v : Value} {μ : q_M} {Kn : List Value → q_M → Prop} : deK 24 v [x0, x1, x2, x3, x4, x5, x6, x7, x8, x9, x10, x11, x12, x13, x14, x15, x16, x17, x18, x19, x20, x21, x22, x23] μ Kn = Kn (x0 :: x1 :: x2 :: x3 :: x4 :: x5 :: x6 :: x7 :: x8 :: x9 :: x10 :: x11 :: x12 :: x13 :: x14 :: x15 :: x16 :: x17 :: x18 :: x19 :: x20 :: x21 :: x22 :: x23 :: [v]) μ := propext ⟨fun h => h.2, fun h => ⟨rfl, h⟩⟩
theorem k_tk24 {x0 x1 x2 x3 x4 x5 x6 x7 x8 x9 x10 x11 x12 x13 x14 x15 x16 x17 x18 x19 x20 x21 x22 x23 : Value} {e : List Value} {μ : q_M} {Kn : List Value → q_M → Prop} : tkK 24 (x0 :: x1 :: x2 :: x3 :: x4 :: x5 :: x6 :: x7 :: x8 :: x9 :: x10 :: x11 :: x12 :: x13 :: x14 :: x15 :: x16 :: x17 :: x18 :: x19 :: x20 :: x21 :: x22 :: x23 :: e) μ Kn = Kn [x0, x1, x2, x3, x4, x5, x6, x7, x8, x9, x10, x11, x12, x13, x14, x15, x16, x17, x18, x19, x20, x21, x22, x23] μ := rfl
theorem k_l25 {x0 x1 x2 x3 x4 x5 x6 x7 x8 x9 x10 x11 x12 x13 x14 x15 x16 x17 x18 x19 x20 x21 x22 x23 x24 : Value} {e : List Value} {v : Int32} {μ : q_M} {K : Int32 → q_M → Prop} : q_l 25 (x0 :: x1 :: x2 :: x3 :: x4 :: x5 :: x6 :: x7 :: x8 :: x9 :: x10 :: x11 :: x12 :: x13 :: x14 :: x15 :: x16 :: x17 :: x18 :: x19 :: x20 :: x21 :: x22 :: x23 :: x24 :: .int v :: e) μ K = K v μ := kl rfl
theorem k_r25 {x0 x1 x2 x3 x4 x5 x6 x7 x8 x9 x10 x11 x12 x13 x14 x15 x16 x17 x18 x19 x20 x21 x22 x23 x24 : Value} {e : List Value} {v : Nat} {μ : q_M} {K : Nat → q_M → Prop} : q_r 25 (x0 :: x1 :: x2 :: x3 :: x4 :: x5 :: x6 :: x7 :: x8 :: x9 :: x10 :: x11 :: x12 :: x13 :: x14 :: x15 :: x16 :: x17 :: x18 :: x19 :: x20 :: x21 :: x22 :: x23 :: x24 :: .ref v :: e) μ K = K v μ := kr rfl
theorem k_se25 {x0 x1 x2 x3 x4 x5 x6 x7 x8 x9 x10 x11 x12 x13 x14 x15 x16 x17 x18 x19 x20 x21 x22 x23 x24 : Value} {x v : Value} {e : List Value} {μ : q_M} {Kn : List Value → q_M → Prop} : seK 25 v (x0 :: x1 :: x2 :: x3 :: x4 :: x5 :: x6 :: x7 :: x8 :: x9 :: x10 :: x11 :: x12 :: x13 :: x14 :: x15 :: x16 :: x17 :: x18 :: x19 :: x20 :: x21 :: x22 :: x23 :: x24 :: x :: e) μ Kn = Kn (x0 :: x1 :: x2 :: x3 :: x4 :: x5 :: x6 :: x7 :: x8 :: x9 :: x10 :: x11 :: x12 :: x13 :: x14 :: x15 :: x16 :: x17 :: x18 :: x19 :: x20 :: x21 :: x22 :: x23 :: x24 :: v :: e) μ := propext ⟨fun h => h.2, fun h => ⟨by simp only [List.length_cons]; omega, h⟩⟩
theorem k_ic25 {x0 x1 x2 x3 x4 x5 x6 x7 x8 x9 x10 x11 x12 x13 x14 x15 x16 x17 x18 x19 x20 x21 x22 x23 x24 : Value} {n v : Int} {e : List Value} {μ : q_M} {Kn : List Value → q_M → Prop} {Kr : Option Value → q_M → Prop} : q_sinc 25 n (x0 :: x1 :: x2 :: x3 :: x4 :: x5 :: x6 :: x7 :: x8 :: x9 :: x10 :: x11 :: x12 :: x13 :: x14 :: x15 :: x16 :: x17 :: x18 :: x19 :: x20 :: x21 :: x22 :: x23 :: x24 :: .int (zI v) :: e) μ Kn Kr = Kn (x0 :: x1 :: x2 :: x3 :: x4 :: x5 :: x6 :: x7 :: x8 :: x9 :: x10 :: x11 :: x12 :: x13 :: x14 :: x15 :: x16 :: x17 :: x18 :: x19 :: x20 :: x21 :: x22 :: x23 :: x24 :: .int (zI (v + n)) :: e) μ := propext ⟨fun ⟨w, h, k⟩ => by
  have h2 : w = zI v := by injection h with h; injection h with h; exact h.symm
  subst h2
  rw [show zI v + Int32.ofInt n = zI (v + n) from zI_add v n] at k
  exact k, fun k => ⟨zI v, rfl, by
  rw [show zI v + Int32.ofInt n = zI (v + n) from zI_add v n]
  exact k⟩⟩
theorem k_de25 {x0 x1 x2 x3 x4 x5 x6 x7 x8 x9 x10 x11 x12 x13 x14 x15 x16 x17 x18 x19 x20 x21 x22 x23 x24 : Value} {v : Value} {μ : q_M} {Kn : List Value → q_M → Prop} : deK 25 v [x0, x1, x2, x3, x4, x5, x6, x7, x8, x9, x10, x11, x12, x13, x14, x15, x16, x17, x18, x19, x20, x21, x22, x23, x24] μ Kn = Kn (x0 :: x1 :: x2 :: x3 :: x4 :: x5 :: x6 :: x7 :: x8 :: x9 :: x10 :: x11 :: x12 :: x13 :: x14 :: x15 :: x16 :: x17 :: x18 :: x19 :: x20 :: x21 :: x22 :: x23 :: x24 :: [v]) μ := propext ⟨fun h => h.2, fun h => ⟨rfl, h⟩⟩
theorem k_tk25 {x0 x1 x2 x3 x4 x5 x6 x7 x8 x9 x10 x11 x12 x13 x14 x15 x16 x17 x18 x19 x20 x21 x22 x23 x24 : Value} {e : List Value} {μ : q_M} {Kn : List Value → q_M → Prop} : tkK 25 (x0 :: x1 :: x2 :: x3 :: x4 :: x5 :: x6 :: x7 :: x8 :: x9 :: x10 :: x11 :: x12 :: x13 :: x14 :: x15 :: x16 :: x17 :: x18 :: x19 :: x20 :: x21 :: x22 :: x23 :: x24 :: e) μ Kn = Kn [x0, x1, x2, x3, x4, x5, x6, x7, x8, x9, x10, x11, x12, x13, x14, x15, x16, x17, x18, x19, x20, x21, x22, x23, x24] μ := rfl
theorem k_k (n : Nat) (env : List Value) (μ : q_M) (K : Int32 → q_M → Prop) : q_k (no_index (OfNat.ofNat n)) env μ K = K (zI (OfNat.ofNat n)) μ := e_k n env μ K
theorem k_kn (n : Nat) (env : List Value) (μ : q_M) (K : Int32 → q_M → Prop) : q_k (-(no_index (OfNat.ofNat n))) env μ K = K (zI (-(OfNat.ofNat n))) μ := e_kn n env μ K
theorem k_kl (n : Nat) (env : List Value) (μ : q_M) (K : Int64 → q_M → Prop) : q_kl (no_index (OfNat.ofNat n)) env μ K = K (zL (OfNat.ofNat n)) μ := e_kl n env μ K
theorem k_kln (n : Nat) (env : List Value) (μ : q_M) (K : Int64 → q_M → Prop) : q_kl (-(no_index (OfNat.ofNat n))) env μ K = K (zL (-(OfNat.ofNat n))) μ := by
  rw [show (zL (-(OfNat.ofNat n : Int)) : Int64) = -(OfNat.ofNat n : Int64) by rw [zL_n]; exact Int64.ofInt_neg _]
  rfl
theorem k_il (a : q_E Int32) (env : List Value) (μ : q_M) (K : Int64 → q_M → Prop) : q_il a env μ K = a env μ fun u m => ilK u m K := rfl
theorem k_2 (g : Int32 → Int32 → Int32) (a b : q_E Int32) (env : List Value) (μ : q_M) (K : Int32 → q_M → Prop) : q_2 g a b env μ K = a env μ fun u m => b env m fun v m2 => opK (g u v) m2 K := rfl
theorem k_1 (g : Int32 → Int32) (a : q_E Int32) (env : List Value) (μ : q_M) (K : Int32 → q_M → Prop) : q_1 g a env μ K = a env μ fun u m => opK (g u) m K := rfl
theorem k_2c (a b : q_E Int64) (env : List Value) (μ : q_M) (K : Int32 → q_M → Prop) : q_2c a b env μ K = a env μ fun u m => b env m fun v m2 => K (lg_cmp u v) m2 := rfl
theorem k_2l (g : Int64 → Int64 → Int64) (a b : q_E Int64) (env : List Value) (μ : q_M) (K : Int64 → q_M → Prop) : q_2l g a b env μ K = a env μ fun u m => b env m fun v m2 => olK (g u v) m2 K := rfl
theorem k_ac {V : Type} (u : V → Value) (e : q_E V) (r : q_E (List Value)) (env : List Value) (μ : q_M) (K : List Value → q_M → Prop) : q_ac u e r env μ K = e env μ fun v m => r env m fun vs m2 => K (u v :: vs) m2 := rfl
theorem k_an (env : List Value) (μ : q_M) (K : List Value → q_M → Prop) : q_an env μ K = K [] μ := rfl
theorem k_cs {V : Type} (res : V → Option Value) (n mc ms : Nat) (f : q_F) (a : q_E (List Value)) (env : List Value) (μ : q_M) (K : V → q_M → Prop) : q_cs res n mc ms f a env μ K = a env μ fun vs m => csK res n mc ms f vs m K := rfl
theorem k_cv {V : Type} (res : V → Option Value) (ci n mc ms : Nat) (f : q_F) (r : q_E Nat) (a : q_E (List Value)) (env : List Value) (μ : q_M) (K : V → q_M → Prop) : q_cv res ci n mc ms f r a env μ K = r env μ fun b m => a env m fun vs m2 => cvK res ci n mc ms f b vs m2 K := rfl
theorem k_fi (ci k : Nat) (r : q_E Nat) (env : List Value) (μ : q_M) (K : Int32 → q_M → Prop) : q_fi ci k r env μ K = r env μ fun a m => fiK ci k a m K := rfl
theorem k_fr (ci k : Nat) (r : q_E Nat) (env : List Value) (μ : q_M) (K : Nat → q_M → Prop) : q_fr ci k r env μ K = r env μ fun a m => frK ci k a m K := rfl
theorem k_ai (r : q_E Nat) (i : q_E Int32) (env : List Value) (μ : q_M) (K : Int32 → q_M → Prop) : q_ai r i env μ K = r env μ fun a m => i env m fun j m2 => aiK a j m2 K := rfl
theorem k_az (r : q_E Nat) (i : q_E Int32) (env : List Value) (μ : q_M) (K : Int32 → q_M → Prop) : q_az r i env μ K = r env μ fun a m => i env m fun j m2 => azK a j m2 K := rfl
theorem k_ar (r : q_E Nat) (i : q_E Int32) (env : List Value) (μ : q_M) (K : Nat → q_M → Prop) : q_ar r i env μ K = r env μ fun a m => i env m fun j m2 => arK a j m2 K := rfl
theorem k_sai (r : q_E Nat) (i e : q_E Int32) (env : List Value) (μ : q_M) (Kn : List Value → q_M → Prop) (Kr : Option Value → q_M → Prop) : q_sai r i e env μ Kn Kr = r env μ fun a m => i env m fun j m2 => e env m2 fun v m3 => saK a j v env m3 Kn := rfl
theorem k_saz (r : q_E Nat) (i e : q_E Int32) (env : List Value) (μ : q_M) (Kn : List Value → q_M → Prop) (Kr : Option Value → q_M → Prop) : q_saz r i e env μ Kn Kr = r env μ fun a m => i env m fun j m2 => e env m2 fun v m3 => szK a j v env m3 Kn := rfl
theorem k_soa (g : Int32 → Int32 → Int32) (r : q_E Nat) (i e : q_E Int32) (env : List Value) (μ : q_M) (Kn : List Value → q_M → Prop) (Kr : Option Value → q_M → Prop) : q_soa g r i e env μ Kn Kr = r env μ fun a m => i env m fun j m2 => soK g a j e env m2 Kn := rfl
theorem k_sof (ci k : Nat) (g : Int32 → Int32 → Int32) (r : q_E Nat) (e : q_E Int32) (env : List Value) (μ : q_M) (Kn : List Value → q_M → Prop) (Kr : Option Value → q_M → Prop) : q_sof ci k g r e env μ Kn Kr = r env μ fun a m => sfK ci k g a e env m Kn := rfl
theorem k_spf {V : Type} (u : V → Value) (ok : V → Prop) (ci k : Nat) (r : q_E Nat) (e : q_E V) (env : List Value) (μ : q_M) (Kn : List Value → q_M → Prop) (Kr : Option Value → q_M → Prop) : q_spf u ok ci k r e env μ Kn Kr = r env μ fun a m => e env m fun v m2 => spK u ok ci k a v env m2 Kn := rfl
theorem k_sx {V : Type} (e : q_E V) (env : List Value) (μ : q_M) (Kn : List Value → q_M → Prop) (Kr : Option Value → q_M → Prop) : q_sx e env μ Kn Kr = e env μ fun _ m => Kn env m := rfl
theorem k_blk (n : Nat) (s : q_S) (env : List Value) (μ : q_M) (Kn : List Value → q_M → Prop) (Kr : Option Value → q_M → Prop) : q_blk n s env μ Kn Kr = s env μ (blkK n Kn) Kr := rfl
theorem k_sset {V : Type} (u : V → Value) (i : Nat) (e : q_E V) (env : List Value) (μ : q_M) (Kn : List Value → q_M → Prop) (Kr : Option Value → q_M → Prop) : q_sset u i e env μ Kn Kr = e env μ fun v m => seK i (u v) env m Kn := rfl
theorem k_sdec {V : Type} (u : V → Value) (i : Nat) (e : q_E V) (env : List Value) (μ : q_M) (Kn : List Value → q_M → Prop) (Kr : Option Value → q_M → Prop) : q_sdec u i e env μ Kn Kr = e env μ fun v m => deK i (u v) env m Kn := rfl
theorem k_sri (ok : Int32 → Prop) (e : q_E Int32) (env : List Value) (μ : q_M) (Kn : List Value → q_M → Prop) (Kr : Option Value → q_M → Prop) : q_sri ok e env μ Kn Kr = e env μ fun v m => rtK ok v m Kr := rfl
theorem k_srv (env : List Value) (μ : q_M) (Kn : List Value → q_M → Prop) (Kr : Option Value → q_M → Prop) : q_srv env μ Kn Kr = Kr none μ := rfl
theorem k_srr (e : q_E Nat) (env : List Value) (μ : q_M) (Kn : List Value → q_M → Prop) (Kr : Option Value → q_M → Prop) : q_srr e env μ Kn Kr = e env μ fun v m => Kr (some (.ref v)) m := rfl
theorem k_nop (env : List Value) (μ : q_M) (Kn : List Value → q_M → Prop) (Kr : Option Value → q_M → Prop) : q_nop env μ Kn Kr = Kn env μ := rfl
theorem k_add {a b : Int} {μ : q_M} {K : Int32 → q_M → Prop} : opK (q_giadd (zI a) (zI b)) μ K = K (zI (a + b)) μ := by
  rw [g_add]
  rfl
theorem k_sub {a b : Int} {μ : q_M} {K : Int32 → q_M → Prop} : opK (q_gisub (zI a) (zI b)) μ K = K (zI (a - b)) μ := by
  rw [g_sub]
  rfl
theorem k_mul {a b : Int} {μ : q_M} {K : Int32 → q_M → Prop} : opK (q_gimul (zI a) (zI b)) μ K = K (zI (a * b)) μ := by
  rw [g_mul]
  rfl
theorem k_min {a b : Int} {μ : q_M} {K : Int32 → q_M → Prop} (h1 : -2147483648 ≤ a) (h2 : a < 2147483648) (h3 : -2147483648 ≤ b) (h4 : b < 2147483648) : opK (q_gmmin (zI a) (zI b)) μ K = K (zI (min a b)) μ := by
  rw [g_min h1 h2 h3 h4]
  rfl
theorem k_max {a b : Int} {μ : q_M} {K : Int32 → q_M → Prop} (h1 : -2147483648 ≤ a) (h2 : a < 2147483648) (h3 : -2147483648 ≤ b) (h4 : b < 2147483648) : opK (q_gmmax (zI a) (zI b)) μ K = K (zI (max a b)) μ := by
  rw [g_max h1 h2 h3 h4]
  rfl
theorem k_shr {u v : Int32} {μ : q_M} {K : Int32 → q_M → Prop} : opK (q_gishr u v) μ K = K (q_gishr u v) μ := rfl
theorem k_shl {u v : Int32} {μ : q_M} {K : Int32 → q_M → Prop} : opK (q_gishl u v) μ K = K (q_gishl u v) μ := rfl
theorem k_or {u v : Int32} {μ : q_M} {K : Int32 → q_M → Prop} : opK (q_gior u v) μ K = K (q_gior u v) μ := rfl
theorem k_ilz {a : Int} {μ : q_M} {K : Int64 → q_M → Prop} (h1 : -2147483648 ≤ a) (h2 : a < 2147483648) : ilK (zI a) μ K = K (zL a) μ := by
  unfold ilK
  rw [zI_long h1 h2]
theorem k_addl {a b : Int} {μ : q_M} {K : Int64 → q_M → Prop} : olK (q_gladd (zL a) (zL b)) μ K = K (zL (a + b)) μ := by
  rw [zL_add]
  rfl
theorem k_rt {v : Int32} {μ : q_M} {Kr : Option Value → q_M → Prop} : rtK (fun _ => True) v μ Kr = Kr (some (.int v)) μ := propext ⟨fun h => h.2, fun h => ⟨trivial, h⟩⟩
theorem k_rb {v : Int} {μ : q_M} {Kr : Option Value → q_M → Prop} (h0 : 0 ≤ v) (h1 : v ≤ 1) : rtK q_bok (zI v) μ Kr = Kr (some (.int (zI v))) μ := propext ⟨fun h => h.2, fun h => ⟨of_eq_true (bok_b h0 h1), h⟩⟩
theorem k_rbz {p : Prop} [Decidable p] {μ : q_M} {Kr : Option Value → q_M → Prop} : rtK q_bok (zI (bz p)) μ Kr = Kr (some (.int (zI (bz p)))) μ := propext ⟨fun h => h.2, fun h => ⟨of_eq_true bok_bz, h⟩⟩
theorem k_rsi {T : Nat → Option q_T} {nx rc rs a b : Nat} {R : Nat → Nat → Option Value} {G : Nat → Int → Int} {z : Int32} {K : Int32 → q_M → Prop} : rsK q_oi rc rs (some (.int z)) (st T nx a b R G) K = K z (st T nx rc rs R G) := propext ⟨fun ⟨v, h, k⟩ => by
  cases h
  exact k, fun k => ⟨z, rfl, k⟩⟩
theorem k_rsr {T : Nat → Option q_T} {nx rc rs a b : Nat} {R : Nat → Nat → Option Value} {G : Nat → Int → Int} {z : Nat} {K : Nat → q_M → Prop} : rsK q_or rc rs (some (.ref z)) (st T nx a b R G) K = K z (st T nx rc rs R G) := propext ⟨fun ⟨v, h, k⟩ => by
  cases h
  exact k, fun k => ⟨z, rfl, k⟩⟩
theorem k_rsv {T : Nat → Option q_T} {nx rc rs a b : Nat} {R : Nat → Nat → Option Value} {G : Nat → Int → Int} {K : Unit → q_M → Prop} : rsK q_ov rc rs none (st T nx a b R G) K = K () (st T nx rc rs R G) := propext ⟨fun ⟨v, h, k⟩ => k, fun k => ⟨(), rfl, k⟩⟩
theorem fi_of {T : Nat → Option q_T} {nx rc rs : Nat} {R : Nat → Nat → Option Value} {G : Nat → Int → Int} {a : Nat} {ci k : Nat} {z : Int} {K : Int32 → q_M → Prop} (hT : T a = some (.inl ci)) (hR : R a k = none) (hz : (k : Int) = z) : fiK ci k a (st T nx rc rs R G) K = K (zI (G a z)) (st T nx rc rs R G) := by
  subst hz
  refine propext ⟨fun ⟨_, v, h, k2⟩ => ?_, fun k2 => ⟨hT, _, by rw [st_M, hR]; rfl, k2⟩⟩
  rw [st_M, hR] at h
  cases h
  exact k2
theorem fr_of {T : Nat → Option q_T} {nx rc rs : Nat} {R : Nat → Nat → Option Value} {G : Nat → Int → Int} {a : Nat} {ci k v : Nat} {K : Nat → q_M → Prop} (hT : T a = some (.inl ci)) (hR : R a k = some (.ref v)) : frK ci k a (st T nx rc rs R G) K = K v (st T nx rc rs R G) := by
  refine propext ⟨fun ⟨_, w, h, k2⟩ => ?_, fun k2 => ⟨hT, _, by rw [st_M, hR]; rfl, k2⟩⟩
  rw [st_M, hR] at h
  cases h
  exact k2
theorem ai_of {T : Nat → Option q_T} {nx rc rs : Nat} {R : Nat → Nat → Option Value} {G : Nat → Int → Int} {a : Nat} {n : Nat} {z : Int} {K : Int32 → q_M → Prop} (hT : T a = some (.inr (.inl (.int, n)))) (hR : ∀ j, R a j = none) (hn : n ≤ 65536) (h0 : 0 ≤ z) (h1 : z < n) : aiK a (zI z) (st T nx rc rs R G) K = K (zI (G a z)) (st T nx rc rs R G) := by
  have hc := zI_clamp (a := z) (by omega) (by omega)
  have hm : (st T nx rc rs R G).2 a (zI z).toNatClampNeg = .int (zI (G a z)) := by
    rw [st_M, hR, hc, Int.toNat_of_nonneg h0]
    rfl
  refine propext ⟨fun ⟨_, _, _, w, h, k2⟩ => ?_, fun k2 => ⟨n, hT, of_eq_true (zI_inI h0 h1 hn), _, hm, k2⟩⟩
  rw [hm] at h
  cases h
  exact k2
theorem az_of {T : Nat → Option q_T} {nx rc rs : Nat} {R : Nat → Nat → Option Value} {G : Nat → Int → Int} {a : Nat} {n : Nat} {z : Int} {K : Int32 → q_M → Prop} (hT : T a = some (.inr (.inl (.boolean, n)))) (hR : ∀ j, R a j = none) (hn : n ≤ 65536) (h0 : 0 ≤ z) (h1 : z < n) : azK a (zI z) (st T nx rc rs R G) K = K (zI (G a z)) (st T nx rc rs R G) := by
  have hc := zI_clamp (a := z) (by omega) (by omega)
  have hm : (st T nx rc rs R G).2 a (zI z).toNatClampNeg = .int (zI (G a z)) := by
    rw [st_M, hR, hc, Int.toNat_of_nonneg h0]
    rfl
  refine propext ⟨fun ⟨_, _, _, w, h, k2⟩ => ?_, fun k2 => ⟨n, hT, of_eq_true (zI_inI h0 h1 hn), _, hm, k2⟩⟩
  rw [hm] at h
  cases h
  exact k2
theorem ar_of {T : Nat → Option q_T} {nx rc rs : Nat} {R : Nat → Nat → Option Value} {G : Nat → Int → Int} {a : Nat} {n v : Nat} {ty : FieldType} {z : Int} {K : Nat → q_M → Prop} (hT : T a = some (.inr (.inl (ty, n)))) (hty : ty.isReference = true) (hR : R a z.toNat = some (.ref v)) (hn : n ≤ 65536) (h0 : 0 ≤ z) (h1 : z < n) : arK a (zI z) (st T nx rc rs R G) K = K v (st T nx rc rs R G) := by
  have hc := zI_clamp (a := z) (by omega) (by omega)
  have hm : (st T nx rc rs R G).2 a (zI z).toNatClampNeg = .ref v := by
    rw [st_M, hc, hR]
    rfl
  refine propext ⟨fun ⟨_, _, _, _, _, w, h, k2⟩ => ?_, fun k2 => ⟨ty, n, hT, hty, of_eq_true (zI_inI h0 h1 hn), _, hm, k2⟩⟩
  rw [hm] at h
  cases h
  exact k2
theorem st_setz {T : Nat → Option q_T} {nx rc rs a : Nat} {R : Nat → Nat → Option Value} {G : Nat → Int → Int} {z v : Int} (hw : ∀ j, rN R a j = R) (h0 : 0 ≤ z) (h1 : z < 65536) : q_set (st T nx rc rs R G) a (zI z).toNatClampNeg (.int (zI v)) = st T nx rc rs R (gs G a z v) := by
  rw [zI_clamp (by omega) (by omega), st_set, hw, Int.toNat_of_nonneg h0]
theorem sa_of {T : Nat → Option q_T} {nx rc rs : Nat} {R : Nat → Nat → Option Value} {G : Nat → Int → Int} {a : Nat} {env : List Value} {Kn : List Value → q_M → Prop} {n : Nat} {z v : Int} (hT : T a = some (.inr (.inl (.int, n)))) (hw : ∀ j, rN R a j = R) (hn : n ≤ 65536) (h0 : 0 ≤ z) (h1 : z < n) : saK a (zI z) (zI v) env (st T nx rc rs R G) Kn = Kn env (st T nx rc rs R (gs G a z v)) := by
  have hm := st_setz (T := T) (nx := nx) (rc := rc) (rs := rs) (G := G) (z := z) (v := v) hw h0 (by omega)
  refine propext ⟨fun ⟨_, _, _, k2⟩ => ?_, fun k2 => ⟨n, hT, of_eq_true (zI_inI h0 h1 hn), by rw [hm]; exact k2⟩⟩
  rw [hm] at k2
  exact k2
theorem sz_of {T : Nat → Option q_T} {nx rc rs : Nat} {R : Nat → Nat → Option Value} {G : Nat → Int → Int} {a : Nat} {env : List Value} {Kn : List Value → q_M → Prop} {n : Nat} {z v : Int} (hT : T a = some (.inr (.inl (.boolean, n)))) (hw : ∀ j, rN R a j = R) (hn : n ≤ 65536) (h0 : 0 ≤ z) (h1 : z < n) (v0 : 0 ≤ v) (v1 : v ≤ 1) : szK a (zI z) (zI v) env (st T nx rc rs R G) Kn = Kn env (st T nx rc rs R (gs G a z v)) := by
  have hm := st_setz (T := T) (nx := nx) (rc := rc) (rs := rs) (G := G) (z := z) (v := v) hw h0 (by omega)
  refine propext ⟨fun ⟨_, _, _, _, k2⟩ => ?_, fun k2 => ⟨n, hT, of_eq_true (zI_inI h0 h1 hn), of_eq_true (nar_b v0 v1), by rw [hm]; exact k2⟩⟩
  rw [hm] at k2
  exact k2
theorem so_of {T : Nat → Option q_T} {nx rc rs : Nat} {R : Nat → Nat → Option Value} {G : Nat → Int → Int} {a : Nat} {env : List Value} {Kn : List Value → q_M → Prop} {n : Nat} {g : Int32 → Int32 → Int32} {e : q_E Int32} {z : Int} (hT : T a = some (.inr (.inl (.int, n)))) (hR : ∀ j, R a j = none) (hn : n ≤ 65536) (h0 : 0 ≤ z) (h1 : z < n) : soK g a (zI z) e env (st T nx rc rs R G) Kn = e env (st T nx rc rs R G) fun v m => ao2K a n (zI z) (g (zI (G a z)) v) env m Kn := by
  have hc := zI_clamp (a := z) (by omega) (by omega)
  have hm : (st T nx rc rs R G).2 a (zI z).toNatClampNeg = .int (zI (G a z)) := by
    rw [st_M, hR, hc, Int.toNat_of_nonneg h0]
    rfl
  refine propext ⟨fun ⟨n2, hT2, _, w, h, k2⟩ => ?_, fun k2 => ⟨n, hT, of_eq_true (zI_inI h0 h1 hn), _, hm, k2⟩⟩
  rw [hm] at h
  cases h
  have e1 : n2 = n := by
    have : some (Sum.inr (Sum.inl (FieldType.int, n2))) = some (Sum.inr (Sum.inl (FieldType.int, n))) := hT2.symm.trans hT
    injection this with this
    injection this with this
    injection this with this
    injection this
  subst e1
  exact k2
theorem ao_add {T : Nat → Option q_T} {nx rc rs : Nat} {R : Nat → Nat → Option Value} {G : Nat → Int → Int} {a : Nat} {env : List Value} {Kn : List Value → q_M → Prop} {n : Nat} {z w v : Int} (hT : T a = some (.inr (.inl (.int, n)))) (hw : ∀ j, rN R a j = R) (hn : n ≤ 65536) (h0 : 0 ≤ z) (h1 : z < n) : ao2K a n (zI z) (q_giadd (zI w) (zI v)) env (st T nx rc rs R G) Kn = Kn env (st T nx rc rs R (gs G a z (w + v))) := by
  have hm := st_setz (T := T) (nx := nx) (rc := rc) (rs := rs) (G := G) (z := z) (v := w + v) hw h0 (by omega)
  rw [g_add]
  refine propext ⟨fun ⟨_, k2⟩ => ?_, fun k2 => ⟨hT, by rw [hm]; exact k2⟩⟩
  rw [hm] at k2
  exact k2
theorem fo_add {T : Nat → Option q_T} {nx rc rs : Nat} {R : Nat → Nat → Option Value} {G : Nat → Int → Int} {a : Nat} {env : List Value} {Kn : List Value → q_M → Prop} {ci k : Nat} {z w v : Int} (hT : T a = some (.inl ci)) (hn : rN R a k = R) (hz : (k : Int) = z) : fo2K ci k a (q_giadd (zI w) (zI v)) env (st T nx rc rs R G) Kn = Kn env (st T nx rc rs R (gs G a z (w + v))) := by
  subst hz
  rw [g_add]
  refine propext ⟨fun ⟨_, k2⟩ => ?_, fun k2 => ⟨hT, by rw [st_set, hn]; exact k2⟩⟩
  rw [st_set, hn] at k2
  exact k2
theorem ao_sub {T : Nat → Option q_T} {nx rc rs : Nat} {R : Nat → Nat → Option Value} {G : Nat → Int → Int} {a : Nat} {env : List Value} {Kn : List Value → q_M → Prop} {n : Nat} {z w v : Int} (hT : T a = some (.inr (.inl (.int, n)))) (hw : ∀ j, rN R a j = R) (hn : n ≤ 65536) (h0 : 0 ≤ z) (h1 : z < n) : ao2K a n (zI z) (q_gisub (zI w) (zI v)) env (st T nx rc rs R G) Kn = Kn env (st T nx rc rs R (gs G a z (w - v))) := by
  have hm := st_setz (T := T) (nx := nx) (rc := rc) (rs := rs) (G := G) (z := z) (v := w - v) hw h0 (by omega)
  rw [g_sub]
  refine propext ⟨fun ⟨_, k2⟩ => ?_, fun k2 => ⟨hT, by rw [hm]; exact k2⟩⟩
  rw [hm] at k2
  exact k2
theorem fo_sub {T : Nat → Option q_T} {nx rc rs : Nat} {R : Nat → Nat → Option Value} {G : Nat → Int → Int} {a : Nat} {env : List Value} {Kn : List Value → q_M → Prop} {ci k : Nat} {z w v : Int} (hT : T a = some (.inl ci)) (hn : rN R a k = R) (hz : (k : Int) = z) : fo2K ci k a (q_gisub (zI w) (zI v)) env (st T nx rc rs R G) Kn = Kn env (st T nx rc rs R (gs G a z (w - v))) := by
  subst hz
  rw [g_sub]
  refine propext ⟨fun ⟨_, k2⟩ => ?_, fun k2 => ⟨hT, by rw [st_set, hn]; exact k2⟩⟩
  rw [st_set, hn] at k2
  exact k2
theorem sf_of {T : Nat → Option q_T} {nx rc rs : Nat} {R : Nat → Nat → Option Value} {G : Nat → Int → Int} {a : Nat} {env : List Value} {Kn : List Value → q_M → Prop} {ci k : Nat} {g : Int32 → Int32 → Int32} {e : q_E Int32} {z : Int} (hT : T a = some (.inl ci)) (hR : R a k = none) (hz : (k : Int) = z) : sfK ci k g a e env (st T nx rc rs R G) Kn = e env (st T nx rc rs R G) fun v m => fo2K ci k a (g (zI (G a z)) v) env m Kn := by
  subst hz
  have hm : (st T nx rc rs R G).2 a k = .int (zI (G a (k : Int))) := by
    rw [st_M, hR]
    rfl
  refine propext ⟨fun ⟨_, w, h, k2⟩ => ?_, fun k2 => ⟨hT, _, hm, k2⟩⟩
  rw [hm] at h
  cases h
  exact k2
theorem sp_of {T : Nat → Option q_T} {nx rc rs : Nat} {R : Nat → Nat → Option Value} {G : Nat → Int → Int} {a : Nat} {env : List Value} {Kn : List Value → q_M → Prop} {ci k : Nat} {z v : Int} (hT : T a = some (.inl ci)) (hn : rN R a k = R) (hz : (k : Int) = z) : spK Value.int (fun _ => True) ci k a (zI v) env (st T nx rc rs R G) Kn = Kn env (st T nx rc rs R (gs G a z v)) := by
  subst hz
  refine propext ⟨fun ⟨_, _, k2⟩ => ?_, fun k2 => ⟨hT, trivial, by rw [st_set, hn]; exact k2⟩⟩
  rw [st_set, hn] at k2
  exact k2
theorem sb_of {T : Nat → Option q_T} {nx rc rs : Nat} {R : Nat → Nat → Option Value} {G : Nat → Int → Int} {a : Nat} {env : List Value} {Kn : List Value → q_M → Prop} {ci k : Nat} {z v : Int} (hT : T a = some (.inl ci)) (hn : rN R a k = R) (hz : (k : Int) = z) (v0 : 0 ≤ v) (v1 : v ≤ 1) : spK Value.int q_bok ci k a (zI v) env (st T nx rc rs R G) Kn = Kn env (st T nx rc rs R (gs G a z v)) := by
  subst hz
  refine propext ⟨fun ⟨_, _, k2⟩ => ?_, fun k2 => ⟨hT, of_eq_true (bok_b v0 v1), by rw [st_set, hn]; exact k2⟩⟩
  rw [st_set, hn] at k2
  exact k2
theorem sr_of {T : Nat → Option q_T} {nx rc rs : Nat} {R : Nat → Nat → Option Value} {G : Nat → Int → Int} {a : Nat} {env : List Value} {Kn : List Value → q_M → Prop} {ci k v : Nat} (hT : T a = some (.inl ci)) : spK Value.ref (fun _ => True) ci k a v env (st T nx rc rs R G) Kn = Kn env (st T nx rc rs (rS R a k (.ref v)) G) := by
  refine propext ⟨fun ⟨_, _, k2⟩ => ?_, fun k2 => ⟨hT, trivial, by rw [st_setR]; exact k2⟩⟩
  rw [st_setR] at k2
  exact k2
theorem bz_T {i : Decidable True} : @bz True i = 1 := if_pos trivial
theorem bz_F {i : Decidable False} : @bz False i = 0 := if_neg (fun h => h)
end
