section
/-- memory as the law begins: the script of L ints xs at b -/
def q_m0 (b L nx : Nat) (xs : Nat → Int32) : q_M := (((fun a => if a = b then some (.inr (.inr L)) else none), nx, 600000, 7302249), fun _ j => .int (xs j))
/-- the law's state between two calls: the script at b, the class at B, the reference behind it, all as it should be -/
def LawS (b B nx rc rs : Nat) (T : Nat → Option q_T) (xs : Nat → Int32) (μ : q_M) : Prop := ∃ R G, μ = st T nx rc rs R G ∧ Inv T R G B ∧ ∀ j, (st T nx rc rs R G).2 b j = .int (xs j)
theorem law_si {b L i k : Nat} {c d : Value} {v : Int32} {xs : Nat → Int32} {μ : q_M} {K : Int32 → q_M → Prop} (hT : μ.1.1 b = some (.inr (.inr L))) (hx : ∀ j, μ.2 b j = .int (xs j)) (hi : i + k < L) (hL : L ≤ 4096) (hv : v = nI k) (h : K (xs (i + k)) μ) : q_si (q_r 0) (q_2 q_giadd (q_l 3) (q_k v)) [.ref b, c, d, .int (nI i)] μ K := by
  subst hv
  have e : q_giadd (nI i) (nI k) = nI (i + k) := nI_add i k
  refine ⟨b, rfl, nI i, rfl, ?_⟩
  show ∃ n, μ.1.1 b = some (.inr (.inr n)) ∧ vp_in (q_giadd (nI i) (nI k)) n ∧ ∃ v, μ.2 b (q_giadd (nI i) (nI k)).toNatClampNeg = .int v ∧ K v μ
  rw [e, nI_clamp (by omega)]
  exact ⟨L, hT, vp_in_nI hi (by omega), xs (i + k), hx _, h⟩
theorem law_bi {b L i k : Nat} {c d : Value} {v : Int32} {xs : Nat → Int32} {μ : q_M} {K : Int32 → q_M → Prop} (hT : μ.1.1 b = some (.inr (.inr L))) (hx : ∀ j, μ.2 b j = .int (xs j)) (hi : i + k < L) (hL : L ≤ 4096) (hv : v = nI k) (h : K (zI (bz (¬ xs (i + k) = 0))) μ) : q_te (q_cz q_Rne (q_si (q_r 0) (q_2 q_giadd (q_l 3) (q_k v)))) (q_k 1) (q_k 0) [.ref b, c, d, .int (nI i)] μ K := by
  refine law_si hT hx hi hL hv ⟨fun h1 => ?_, fun h1 => ?_⟩
  · have h2 : ¬ xs (i + k) = 0 := h1
    rw [bz_t h2] at h
    exact h
  · have h2 : ¬ ¬ xs (i + k) = 0 := h1
    rw [bz_f h2] at h
    exact h
theorem law_case {b B L nx rc rs n : Nat} {T : Nat → Option q_T} {xs : Nat → Int32} {i : Value} {fC fM : q_F} {A : q_E (List Value)} {vs : List Value} {μ : q_M} {Kn : List Value → q_M → Prop} {Kr : Option Value → q_M → Prop} (hn : vs.length = n) (hO : OpOK fC fM vs) (hb : b < B) (hTb : T b = some (.inr (.inr L))) (hS : LawS b B nx rc rs T xs μ)
    (hA : ∀ μ' : q_M, μ'.1.1 b = some (.inr (.inr L)) → (∀ j, μ'.2 b j = .int (xs j)) → ∀ K : List Value → q_M → Prop, K vs μ' → A [.ref b, .ref B, .ref (B + 544), i] μ' K)
    (kk : ∀ μ', LawS b B nx rc rs T xs μ' → Kn [.ref b, .ref B, .ref (B + 544), i] μ') : (q_if (q_cm q_Rne (q_cv q_oi 11 n 0 0 fC (q_r 1) A) (q_cv q_oi 12 n 0 0 fM (q_r 2) A)) (q_sri q_bok (q_k 0)) q_nop) [.ref b, .ref B, .ref (B + 544), i] μ Kn Kr := by
  obtain ⟨R, G, rfl, hI, hx⟩ := hS
  have hop := hO T nx B R G hI
  obtain ⟨t1, t2, t3, t4, hLC, hLM⟩ := hI.1
  refine ⟨B, rfl, hA _ hTb hx _ ⟨hn, t11 hLC, Nat.zero_le _, Nat.zero_le _, _, hop, ?_⟩⟩
  intro r μ1 ⟨⟨⟨z, hz⟩, R1, G1, hm, hlo⟩, hM⟩
  subst hz hm
  have hx1 : ∀ j, (st T nx rc rs R1 G1).2 b j = .int (xs j) := by
    intro j
    have := hx j
    rw [st_M] at this ⊢
    rw [(hlo b hb).1, (hlo b hb).2]
    exact this
  refine ⟨z, rfl, B + 544, rfl, hA (st T nx rc rs R1 G1) hTb hx1 _ ⟨hn, t12 hLM, Nat.zero_le _, Nat.zero_le _, _, hM, ?_⟩⟩
  intro r2 μ2 ⟨e1, _, R2, G2, hm2, hlo2, hI2⟩
  subst e1 hm2
  refine ⟨z, rfl, fun h => absurd rfl h, fun _ => kk (st T nx rc rs R2 G2) ⟨R2, G2, rfl, hI2, ?_⟩⟩
  intro j
  have := hx j
  rw [st_M] at this ⊢
  rw [(hlo2 b hb).1, (hlo2 b hb).2]
  exact this
theorem law_0 {b L B nx rc rs i : Nat} {T : Nat → Option q_T} {xs : Nat → Int32} {μ : q_M} {Kn : List Value → q_M → Prop} {Kr : Option Value → q_M → Prop} (hL : L ≤ 4096) (hi : i + 7 < L) (hb : b < B) (hTb : T b = some (.inr (.inr L))) (hS : LawS b B nx rc rs T xs μ) (kk : ∀ μ', LawS b B nx rc rs T xs μ' → Kn [.ref b, .ref B, .ref (B + 544), .int (nI i)] μ') : sLAW_0 [.ref b, .ref B, .ref (B + 544), .int (nI i)] μ Kn Kr :=
  law_case (L := L) (vs := [.int (xs (i + 1)), .int (xs (i + 2)), .int (xs (i + 3))]) rfl (op_0 (xs (i + 1)) (xs (i + 2)) (xs (i + 3))) hb hTb hS (fun μ hT hx K h => law_si hT hx (k := 1) (by omega) hL rfl (law_si hT hx (k := 2) (by omega) hL rfl (law_si hT hx (k := 3) (by omega) hL rfl (h)))) kk
theorem law_1 {b L B nx rc rs i : Nat} {T : Nat → Option q_T} {xs : Nat → Int32} {μ : q_M} {Kn : List Value → q_M → Prop} {Kr : Option Value → q_M → Prop} (hL : L ≤ 4096) (hi : i + 7 < L) (hb : b < B) (hTb : T b = some (.inr (.inr L))) (hS : LawS b B nx rc rs T xs μ) (kk : ∀ μ', LawS b B nx rc rs T xs μ' → Kn [.ref b, .ref B, .ref (B + 544), .int (nI i)] μ') : sLAW_1 [.ref b, .ref B, .ref (B + 544), .int (nI i)] μ Kn Kr :=
  law_case (L := L) (vs := [.int (xs (i + 1)), .int (xs (i + 2)), .int (xs (i + 3)), .int (xs (i + 4)), .int (xs (i + 5)), .int (xs (i + 6)), .int (xs (i + 7))]) rfl (op_1 (xs (i + 1)) (xs (i + 2)) (xs (i + 3)) (xs (i + 4)) (xs (i + 5)) (xs (i + 6)) (xs (i + 7))) hb hTb hS (fun μ hT hx K h => law_si hT hx (k := 1) (by omega) hL rfl (law_si hT hx (k := 2) (by omega) hL rfl (law_si hT hx (k := 3) (by omega) hL rfl (law_si hT hx (k := 4) (by omega) hL rfl (law_si hT hx (k := 5) (by omega) hL rfl (law_si hT hx (k := 6) (by omega) hL rfl (law_si hT hx (k := 7) (by omega) hL rfl (h)))))))) kk
theorem law_2 {b L B nx rc rs i : Nat} {T : Nat → Option q_T} {xs : Nat → Int32} {μ : q_M} {Kn : List Value → q_M → Prop} {Kr : Option Value → q_M → Prop} (hL : L ≤ 4096) (hi : i + 7 < L) (hb : b < B) (hTb : T b = some (.inr (.inr L))) (hS : LawS b B nx rc rs T xs μ) (kk : ∀ μ', LawS b B nx rc rs T xs μ' → Kn [.ref b, .ref B, .ref (B + 544), .int (nI i)] μ') : sLAW_2 [.ref b, .ref B, .ref (B + 544), .int (nI i)] μ Kn Kr :=
  law_case (L := L) (vs := [.int (xs (i + 1))]) rfl (op_2 (xs (i + 1))) hb hTb hS (fun μ hT hx K h => law_si hT hx (k := 1) (by omega) hL rfl (h)) kk
theorem law_3 {b L B nx rc rs i : Nat} {T : Nat → Option q_T} {xs : Nat → Int32} {μ : q_M} {Kn : List Value → q_M → Prop} {Kr : Option Value → q_M → Prop} (hL : L ≤ 4096) (hi : i + 7 < L) (hb : b < B) (hTb : T b = some (.inr (.inr L))) (hS : LawS b B nx rc rs T xs μ) (kk : ∀ μ', LawS b B nx rc rs T xs μ' → Kn [.ref b, .ref B, .ref (B + 544), .int (nI i)] μ') : sLAW_3 [.ref b, .ref B, .ref (B + 544), .int (nI i)] μ Kn Kr :=
  law_case (L := L) (vs := [.int (xs (i + 1)), .int (xs (i + 2)), .int (xs (i + 3))]) rfl (op_3 (xs (i + 1)) (xs (i + 2)) (xs (i + 3))) hb hTb hS (fun μ hT hx K h => law_si hT hx (k := 1) (by omega) hL rfl (law_si hT hx (k := 2) (by omega) hL rfl (law_si hT hx (k := 3) (by omega) hL rfl (h)))) kk
theorem law_4 {b L B nx rc rs i : Nat} {T : Nat → Option q_T} {xs : Nat → Int32} {μ : q_M} {Kn : List Value → q_M → Prop} {Kr : Option Value → q_M → Prop} (hL : L ≤ 4096) (hi : i + 7 < L) (hb : b < B) (hTb : T b = some (.inr (.inr L))) (hS : LawS b B nx rc rs T xs μ) (kk : ∀ μ', LawS b B nx rc rs T xs μ' → Kn [.ref b, .ref B, .ref (B + 544), .int (nI i)] μ') : sLAW_4 [.ref b, .ref B, .ref (B + 544), .int (nI i)] μ Kn Kr :=
  law_case (L := L) (vs := [.int (xs (i + 1)), .int (xs (i + 2)), .int (xs (i + 3)), .int (xs (i + 4))]) rfl (op_4 (xs (i + 1)) (xs (i + 2)) (xs (i + 3)) (xs (i + 4))) hb hTb hS (fun μ hT hx K h => law_si hT hx (k := 1) (by omega) hL rfl (law_si hT hx (k := 2) (by omega) hL rfl (law_si hT hx (k := 3) (by omega) hL rfl (law_si hT hx (k := 4) (by omega) hL rfl (h))))) kk
theorem law_5 {b L B nx rc rs i : Nat} {T : Nat → Option q_T} {xs : Nat → Int32} {μ : q_M} {Kn : List Value → q_M → Prop} {Kr : Option Value → q_M → Prop} (hL : L ≤ 4096) (hi : i + 7 < L) (hb : b < B) (hTb : T b = some (.inr (.inr L))) (hS : LawS b B nx rc rs T xs μ) (kk : ∀ μ', LawS b B nx rc rs T xs μ' → Kn [.ref b, .ref B, .ref (B + 544), .int (nI i)] μ') : sLAW_5 [.ref b, .ref B, .ref (B + 544), .int (nI i)] μ Kn Kr :=
  law_case (L := L) (vs := [.int (xs (i + 1)), .int (xs (i + 2)), .int (xs (i + 3)), .int (xs (i + 4))]) rfl (op_5 (xs (i + 1)) (xs (i + 2)) (xs (i + 3)) (xs (i + 4))) hb hTb hS (fun μ hT hx K h => law_si hT hx (k := 1) (by omega) hL rfl (law_si hT hx (k := 2) (by omega) hL rfl (law_si hT hx (k := 3) (by omega) hL rfl (law_si hT hx (k := 4) (by omega) hL rfl (h))))) kk
theorem law_6 {b L B nx rc rs i : Nat} {T : Nat → Option q_T} {xs : Nat → Int32} {μ : q_M} {Kn : List Value → q_M → Prop} {Kr : Option Value → q_M → Prop} (hL : L ≤ 4096) (hi : i + 7 < L) (hb : b < B) (hTb : T b = some (.inr (.inr L))) (hS : LawS b B nx rc rs T xs μ) (kk : ∀ μ', LawS b B nx rc rs T xs μ' → Kn [.ref b, .ref B, .ref (B + 544), .int (nI i)] μ') : sLAW_6 [.ref b, .ref B, .ref (B + 544), .int (nI i)] μ Kn Kr :=
  law_case (L := L) (vs := [.int (xs (i + 1)), .int (xs (i + 2)), .int (zI (bz (¬ xs (i + 3) = 0)))]) rfl (op_6 (xs (i + 1)) (xs (i + 2)) (¬ xs (i + 3) = 0)) hb hTb hS (fun μ hT hx K h => law_si hT hx (k := 1) (by omega) hL rfl (law_si hT hx (k := 2) (by omega) hL rfl (law_bi hT hx (k := 3) (by omega) hL rfl (h)))) kk
theorem law_7 {b L B nx rc rs i : Nat} {T : Nat → Option q_T} {xs : Nat → Int32} {μ : q_M} {Kn : List Value → q_M → Prop} {Kr : Option Value → q_M → Prop} (hL : L ≤ 4096) (hi : i + 7 < L) (hb : b < B) (hTb : T b = some (.inr (.inr L))) (hS : LawS b B nx rc rs T xs μ) (kk : ∀ μ', LawS b B nx rc rs T xs μ' → Kn [.ref b, .ref B, .ref (B + 544), .int (nI i)] μ') : sLAW_7 [.ref b, .ref B, .ref (B + 544), .int (nI i)] μ Kn Kr :=
  law_case (L := L) (vs := [.int (xs (i + 1)), .int (xs (i + 2)), .int (xs (i + 3)), .int (xs (i + 4))]) rfl (op_7 (xs (i + 1)) (xs (i + 2)) (xs (i + 3)) (xs (i + 4))) hb hTb hS (fun μ hT hx K h => law_si hT hx (k := 1) (by omega) hL rfl (law_si hT hx (k := 2) (by omega) hL rfl (law_si hT hx (k := 3) (by omega) hL rfl (law_si hT hx (k := 4) (by omega) hL rfl (h))))) kk
theorem law_8 {b L B nx rc rs i : Nat} {T : Nat → Option q_T} {xs : Nat → Int32} {μ : q_M} {Kn : List Value → q_M → Prop} {Kr : Option Value → q_M → Prop} (hL : L ≤ 4096) (hi : i + 7 < L) (hb : b < B) (hTb : T b = some (.inr (.inr L))) (hS : LawS b B nx rc rs T xs μ) (kk : ∀ μ', LawS b B nx rc rs T xs μ' → Kn [.ref b, .ref B, .ref (B + 544), .int (nI i)] μ') : sLAW_8 [.ref b, .ref B, .ref (B + 544), .int (nI i)] μ Kn Kr :=
  law_case (L := L) (vs := [.int (xs (i + 1)), .int (xs (i + 2))]) rfl (op_8 (xs (i + 1)) (xs (i + 2))) hb hTb hS (fun μ hT hx K h => law_si hT hx (k := 1) (by omega) hL rfl (law_si hT hx (k := 2) (by omega) hL rfl (h))) kk
theorem law_9 {b L B nx rc rs i : Nat} {T : Nat → Option q_T} {xs : Nat → Int32} {μ : q_M} {Kn : List Value → q_M → Prop} {Kr : Option Value → q_M → Prop} (hL : L ≤ 4096) (hi : i + 7 < L) (hb : b < B) (hTb : T b = some (.inr (.inr L))) (hS : LawS b B nx rc rs T xs μ) (kk : ∀ μ', LawS b B nx rc rs T xs μ' → Kn [.ref b, .ref B, .ref (B + 544), .int (nI i)] μ') : sLAW_9 [.ref b, .ref B, .ref (B + 544), .int (nI i)] μ Kn Kr :=
  law_case (L := L) (vs := [.int (xs (i + 1)), .int (xs (i + 2)), .int (xs (i + 3))]) rfl (op_9 (xs (i + 1)) (xs (i + 2)) (xs (i + 3))) hb hTb hS (fun μ hT hx K h => law_si hT hx (k := 1) (by omega) hL rfl (law_si hT hx (k := 2) (by omega) hL rfl (law_si hT hx (k := 3) (by omega) hL rfl (h)))) kk
theorem law_10 {b L B nx rc rs i : Nat} {T : Nat → Option q_T} {xs : Nat → Int32} {μ : q_M} {Kn : List Value → q_M → Prop} {Kr : Option Value → q_M → Prop} (hL : L ≤ 4096) (hi : i + 7 < L) (hb : b < B) (hTb : T b = some (.inr (.inr L))) (hS : LawS b B nx rc rs T xs μ) (kk : ∀ μ', LawS b B nx rc rs T xs μ' → Kn [.ref b, .ref B, .ref (B + 544), .int (nI i)] μ') : sLAW_10 [.ref b, .ref B, .ref (B + 544), .int (nI i)] μ Kn Kr :=
  law_case (L := L) (vs := [.int (xs (i + 1))]) rfl (op_10 (xs (i + 1))) hb hTb hS (fun μ hT hx K h => law_si hT hx (k := 1) (by omega) hL rfl (h)) kk
theorem law_11 {b L B nx rc rs i : Nat} {T : Nat → Option q_T} {xs : Nat → Int32} {μ : q_M} {Kn : List Value → q_M → Prop} {Kr : Option Value → q_M → Prop} (hL : L ≤ 4096) (hi : i + 7 < L) (hb : b < B) (hTb : T b = some (.inr (.inr L))) (hS : LawS b B nx rc rs T xs μ) (kk : ∀ μ', LawS b B nx rc rs T xs μ' → Kn [.ref b, .ref B, .ref (B + 544), .int (nI i)] μ') : sLAW_11 [.ref b, .ref B, .ref (B + 544), .int (nI i)] μ Kn Kr :=
  law_case (L := L) (vs := [.int (xs (i + 1)), .int (xs (i + 2))]) rfl (op_11 (xs (i + 1)) (xs (i + 2))) hb hTb hS (fun μ hT hx K h => law_si hT hx (k := 1) (by omega) hL rfl (law_si hT hx (k := 2) (by omega) hL rfl (h))) kk
theorem law_12 {b L B nx rc rs i : Nat} {T : Nat → Option q_T} {xs : Nat → Int32} {μ : q_M} {Kn : List Value → q_M → Prop} {Kr : Option Value → q_M → Prop} (hL : L ≤ 4096) (hi : i + 7 < L) (hb : b < B) (hTb : T b = some (.inr (.inr L))) (hS : LawS b B nx rc rs T xs μ) (kk : ∀ μ', LawS b B nx rc rs T xs μ' → Kn [.ref b, .ref B, .ref (B + 544), .int (nI i)] μ') : sLAW_12 [.ref b, .ref B, .ref (B + 544), .int (nI i)] μ Kn Kr :=
  law_case (L := L) (vs := [.int (xs (i + 1)), .int (xs (i + 2)), .int (xs (i + 3))]) rfl (op_12 (xs (i + 1)) (xs (i + 2)) (xs (i + 3))) hb hTb hS (fun μ hT hx K h => law_si hT hx (k := 1) (by omega) hL rfl (law_si hT hx (k := 2) (by omega) hL rfl (law_si hT hx (k := 3) (by omega) hL rfl (h)))) kk
theorem law_13 {b L B nx rc rs i : Nat} {T : Nat → Option q_T} {xs : Nat → Int32} {μ : q_M} {Kn : List Value → q_M → Prop} {Kr : Option Value → q_M → Prop} (hL : L ≤ 4096) (hi : i + 7 < L) (hb : b < B) (hTb : T b = some (.inr (.inr L))) (hS : LawS b B nx rc rs T xs μ) (kk : ∀ μ', LawS b B nx rc rs T xs μ' → Kn [.ref b, .ref B, .ref (B + 544), .int (nI i)] μ') : sLAW_13 [.ref b, .ref B, .ref (B + 544), .int (nI i)] μ Kn Kr :=
  law_case (L := L) (vs := [.int (xs (i + 1))]) rfl (op_13 (xs (i + 1))) hb hTb hS (fun μ hT hx K h => law_si hT hx (k := 1) (by omega) hL rfl (h)) kk
theorem law_14 {b L B nx rc rs i : Nat} {T : Nat → Option q_T} {xs : Nat → Int32} {μ : q_M} {Kn : List Value → q_M → Prop} {Kr : Option Value → q_M → Prop} (hL : L ≤ 4096) (hi : i + 7 < L) (hb : b < B) (hTb : T b = some (.inr (.inr L))) (hS : LawS b B nx rc rs T xs μ) (kk : ∀ μ', LawS b B nx rc rs T xs μ' → Kn [.ref b, .ref B, .ref (B + 544), .int (nI i)] μ') : sLAW_14 [.ref b, .ref B, .ref (B + 544), .int (nI i)] μ Kn Kr :=
  law_case (L := L) (vs := [.int (xs (i + 1)), .int (xs (i + 2))]) rfl (op_14 (xs (i + 1)) (xs (i + 2))) hb hTb hS (fun μ hT hx K h => law_si hT hx (k := 1) (by omega) hL rfl (law_si hT hx (k := 2) (by omega) hL rfl (h))) kk
theorem law_15 {b L B nx rc rs i : Nat} {T : Nat → Option q_T} {xs : Nat → Int32} {μ : q_M} {Kn : List Value → q_M → Prop} {Kr : Option Value → q_M → Prop} (hL : L ≤ 4096) (hi : i + 7 < L) (hb : b < B) (hTb : T b = some (.inr (.inr L))) (hS : LawS b B nx rc rs T xs μ) (kk : ∀ μ', LawS b B nx rc rs T xs μ' → Kn [.ref b, .ref B, .ref (B + 544), .int (nI i)] μ') : sLAW_15 [.ref b, .ref B, .ref (B + 544), .int (nI i)] μ Kn Kr :=
  law_case (L := L) (vs := [.int (xs (i + 1)), .int (xs (i + 2))]) rfl (op_15 (xs (i + 1)) (xs (i + 2))) hb hTb hS (fun μ hT hx K h => law_si hT hx (k := 1) (by omega) hL rfl (law_si hT hx (k := 2) (by omega) hL rfl (h))) kk
theorem law_16 {b L B nx rc rs i : Nat} {T : Nat → Option q_T} {xs : Nat → Int32} {μ : q_M} {Kn : List Value → q_M → Prop} {Kr : Option Value → q_M → Prop} (hL : L ≤ 4096) (hi : i + 7 < L) (hb : b < B) (hTb : T b = some (.inr (.inr L))) (hS : LawS b B nx rc rs T xs μ) (kk : ∀ μ', LawS b B nx rc rs T xs μ' → Kn [.ref b, .ref B, .ref (B + 544), .int (nI i)] μ') : sLAW_16 [.ref b, .ref B, .ref (B + 544), .int (nI i)] μ Kn Kr :=
  law_case (L := L) (vs := [.int (xs (i + 1)), .int (xs (i + 2)), .int (xs (i + 3))]) rfl (op_16 (xs (i + 1)) (xs (i + 2)) (xs (i + 3))) hb hTb hS (fun μ hT hx K h => law_si hT hx (k := 1) (by omega) hL rfl (law_si hT hx (k := 2) (by omega) hL rfl (law_si hT hx (k := 3) (by omega) hL rfl (h)))) kk
theorem law_17 {b L B nx rc rs i : Nat} {T : Nat → Option q_T} {xs : Nat → Int32} {μ : q_M} {Kn : List Value → q_M → Prop} {Kr : Option Value → q_M → Prop} (hL : L ≤ 4096) (hi : i + 7 < L) (hb : b < B) (hTb : T b = some (.inr (.inr L))) (hS : LawS b B nx rc rs T xs μ) (kk : ∀ μ', LawS b B nx rc rs T xs μ' → Kn [.ref b, .ref B, .ref (B + 544), .int (nI i)] μ') : sLAW_17 [.ref b, .ref B, .ref (B + 544), .int (nI i)] μ Kn Kr :=
  law_case (L := L) (vs := [.int (xs (i + 1))]) rfl (op_17 (xs (i + 1))) hb hTb hS (fun μ hT hx K h => law_si hT hx (k := 1) (by omega) hL rfl (h)) kk
theorem law_18 {b L B nx rc rs i : Nat} {T : Nat → Option q_T} {xs : Nat → Int32} {μ : q_M} {Kn : List Value → q_M → Prop} {Kr : Option Value → q_M → Prop} (hL : L ≤ 4096) (hi : i + 7 < L) (hb : b < B) (hTb : T b = some (.inr (.inr L))) (hS : LawS b B nx rc rs T xs μ) (kk : ∀ μ', LawS b B nx rc rs T xs μ' → Kn [.ref b, .ref B, .ref (B + 544), .int (nI i)] μ') : sLAW_18 [.ref b, .ref B, .ref (B + 544), .int (nI i)] μ Kn Kr :=
  law_case (L := L) (vs := [.int (xs (i + 1)), .int (xs (i + 2)), .int (xs (i + 3))]) rfl (op_18 (xs (i + 1)) (xs (i + 2)) (xs (i + 3))) hb hTb hS (fun μ hT hx K h => law_si hT hx (k := 1) (by omega) hL rfl (law_si hT hx (k := 2) (by omega) hL rfl (law_si hT hx (k := 3) (by omega) hL rfl (h)))) kk
theorem law_19 {b L B nx rc rs i : Nat} {T : Nat → Option q_T} {xs : Nat → Int32} {μ : q_M} {Kn : List Value → q_M → Prop} {Kr : Option Value → q_M → Prop} (hL : L ≤ 4096) (hi : i + 7 < L) (hb : b < B) (hTb : T b = some (.inr (.inr L))) (hS : LawS b B nx rc rs T xs μ) (kk : ∀ μ', LawS b B nx rc rs T xs μ' → Kn [.ref b, .ref B, .ref (B + 544), .int (nI i)] μ') : sLAW_19 [.ref b, .ref B, .ref (B + 544), .int (nI i)] μ Kn Kr :=
  law_case (L := L) (vs := [.int (xs (i + 1)), .int (xs (i + 2)), .int (xs (i + 3))]) rfl (op_19 (xs (i + 1)) (xs (i + 2)) (xs (i + 3))) hb hTb hS (fun μ hT hx K h => law_si hT hx (k := 1) (by omega) hL rfl (law_si hT hx (k := 2) (by omega) hL rfl (law_si hT hx (k := 3) (by omega) hL rfl (h)))) kk
theorem law_20 {b L B nx rc rs i : Nat} {T : Nat → Option q_T} {xs : Nat → Int32} {μ : q_M} {Kn : List Value → q_M → Prop} {Kr : Option Value → q_M → Prop} (hL : L ≤ 4096) (hi : i + 7 < L) (hb : b < B) (hTb : T b = some (.inr (.inr L))) (hS : LawS b B nx rc rs T xs μ) (kk : ∀ μ', LawS b B nx rc rs T xs μ' → Kn [.ref b, .ref B, .ref (B + 544), .int (nI i)] μ') : sLAW_20 [.ref b, .ref B, .ref (B + 544), .int (nI i)] μ Kn Kr :=
  law_case (L := L) (vs := [.int (xs (i + 1)), .int (xs (i + 2))]) rfl (op_20 (xs (i + 1)) (xs (i + 2))) hb hTb hS (fun μ hT hx K h => law_si hT hx (k := 1) (by omega) hL rfl (law_si hT hx (k := 2) (by omega) hL rfl (h))) kk
theorem law_21 {b L B nx rc rs i : Nat} {T : Nat → Option q_T} {xs : Nat → Int32} {μ : q_M} {Kn : List Value → q_M → Prop} {Kr : Option Value → q_M → Prop} (hL : L ≤ 4096) (hi : i + 7 < L) (hb : b < B) (hTb : T b = some (.inr (.inr L))) (hS : LawS b B nx rc rs T xs μ) (kk : ∀ μ', LawS b B nx rc rs T xs μ' → Kn [.ref b, .ref B, .ref (B + 544), .int (nI i)] μ') : sLAW_21 [.ref b, .ref B, .ref (B + 544), .int (nI i)] μ Kn Kr :=
  law_case (L := L) (vs := [.int (xs (i + 1)), .int (xs (i + 2)), .int (xs (i + 3))]) rfl (op_21 (xs (i + 1)) (xs (i + 2)) (xs (i + 3))) hb hTb hS (fun μ hT hx K h => law_si hT hx (k := 1) (by omega) hL rfl (law_si hT hx (k := 2) (by omega) hL rfl (law_si hT hx (k := 3) (by omega) hL rfl (h)))) kk
theorem law_22 {b L B nx rc rs i : Nat} {T : Nat → Option q_T} {xs : Nat → Int32} {μ : q_M} {Kn : List Value → q_M → Prop} {Kr : Option Value → q_M → Prop} (hL : L ≤ 4096) (hi : i + 7 < L) (hb : b < B) (hTb : T b = some (.inr (.inr L))) (hS : LawS b B nx rc rs T xs μ) (kk : ∀ μ', LawS b B nx rc rs T xs μ' → Kn [.ref b, .ref B, .ref (B + 544), .int (nI i)] μ') : sLAW_22 [.ref b, .ref B, .ref (B + 544), .int (nI i)] μ Kn Kr :=
  law_case (L := L) (vs := [.int (xs (i + 1)), .int (xs (i + 2))]) rfl (op_22 (xs (i + 1)) (xs (i + 2))) hb hTb hS (fun μ hT hx K h => law_si hT hx (k := 1) (by omega) hL rfl (law_si hT hx (k := 2) (by omega) hL rfl (h))) kk
theorem law_23 {b L B nx rc rs i : Nat} {T : Nat → Option q_T} {xs : Nat → Int32} {μ : q_M} {Kn : List Value → q_M → Prop} {Kr : Option Value → q_M → Prop} (hL : L ≤ 4096) (hi : i + 7 < L) (hb : b < B) (hTb : T b = some (.inr (.inr L))) (hS : LawS b B nx rc rs T xs μ) (kk : ∀ μ', LawS b B nx rc rs T xs μ' → Kn [.ref b, .ref B, .ref (B + 544), .int (nI i)] μ') : sLAW_23 [.ref b, .ref B, .ref (B + 544), .int (nI i)] μ Kn Kr :=
  law_case (L := L) (vs := [.int (xs (i + 1)), .int (xs (i + 2)), .int (xs (i + 3))]) rfl (op_23 (xs (i + 1)) (xs (i + 2)) (xs (i + 3))) hb hTb hS (fun μ hT hx K h => law_si hT hx (k := 1) (by omega) hL rfl (law_si hT hx (k := 2) (by omega) hL rfl (law_si hT hx (k := 3) (by omega) hL rfl (h)))) kk
theorem law_24 {b L B nx rc rs i : Nat} {T : Nat → Option q_T} {xs : Nat → Int32} {μ : q_M} {Kn : List Value → q_M → Prop} {Kr : Option Value → q_M → Prop} (hL : L ≤ 4096) (hi : i + 7 < L) (hb : b < B) (hTb : T b = some (.inr (.inr L))) (hS : LawS b B nx rc rs T xs μ) (kk : ∀ μ', LawS b B nx rc rs T xs μ' → Kn [.ref b, .ref B, .ref (B + 544), .int (nI i)] μ') : sLAW_24 [.ref b, .ref B, .ref (B + 544), .int (nI i)] μ Kn Kr :=
  law_case (L := L) (vs := [.int (xs (i + 1)), .int (xs (i + 2)), .int (xs (i + 3))]) rfl (op_24 (xs (i + 1)) (xs (i + 2)) (xs (i + 3))) hb hTb hS (fun μ hT hx K h => law_si hT hx (k := 1) (by omega) hL rfl (law_si hT hx (k := 2) (by omega) hL rfl (law_si hT hx (k := 3) (by omega) hL rfl (h)))) kk
theorem law_25 {b L B nx rc rs i : Nat} {T : Nat → Option q_T} {xs : Nat → Int32} {μ : q_M} {Kn : List Value → q_M → Prop} {Kr : Option Value → q_M → Prop} (hL : L ≤ 4096) (hi : i + 7 < L) (hb : b < B) (hTb : T b = some (.inr (.inr L))) (hS : LawS b B nx rc rs T xs μ) (kk : ∀ μ', LawS b B nx rc rs T xs μ' → Kn [.ref b, .ref B, .ref (B + 544), .int (nI i)] μ') : sLAW_25 [.ref b, .ref B, .ref (B + 544), .int (nI i)] μ Kn Kr :=
  law_case (L := L) (vs := [.int (xs (i + 1)), .int (xs (i + 2)), .int (xs (i + 3))]) rfl (op_25 (xs (i + 1)) (xs (i + 2)) (xs (i + 3))) hb hTb hS (fun μ hT hx K h => law_si hT hx (k := 1) (by omega) hL rfl (law_si hT hx (k := 2) (by omega) hL rfl (law_si hT hx (k := 3) (by omega) hL rfl (h)))) kk
theorem law_26 {b L B nx rc rs i : Nat} {T : Nat → Option q_T} {xs : Nat → Int32} {μ : q_M} {Kn : List Value → q_M → Prop} {Kr : Option Value → q_M → Prop} (hL : L ≤ 4096) (hi : i + 7 < L) (hb : b < B) (hTb : T b = some (.inr (.inr L))) (hS : LawS b B nx rc rs T xs μ) (kk : ∀ μ', LawS b B nx rc rs T xs μ' → Kn [.ref b, .ref B, .ref (B + 544), .int (nI i)] μ') : sLAW_26 [.ref b, .ref B, .ref (B + 544), .int (nI i)] μ Kn Kr :=
  law_case (L := L) (vs := [.int (xs (i + 1)), .int (xs (i + 2))]) rfl (op_26 (xs (i + 1)) (xs (i + 2))) hb hTb hS (fun μ hT hx K h => law_si hT hx (k := 1) (by omega) hL rfl (law_si hT hx (k := 2) (by omega) hL rfl (h))) kk
theorem law_27 {b L B nx rc rs i : Nat} {T : Nat → Option q_T} {xs : Nat → Int32} {μ : q_M} {Kn : List Value → q_M → Prop} {Kr : Option Value → q_M → Prop} (hL : L ≤ 4096) (hi : i + 7 < L) (hb : b < B) (hTb : T b = some (.inr (.inr L))) (hS : LawS b B nx rc rs T xs μ) (kk : ∀ μ', LawS b B nx rc rs T xs μ' → Kn [.ref b, .ref B, .ref (B + 544), .int (nI i)] μ') : sLAW_27 [.ref b, .ref B, .ref (B + 544), .int (nI i)] μ Kn Kr :=
  law_case (L := L) (vs := [.int (xs (i + 1)), .int (xs (i + 2))]) rfl (op_27 (xs (i + 1)) (xs (i + 2))) hb hTb hS (fun μ hT hx K h => law_si hT hx (k := 1) (by omega) hL rfl (law_si hT hx (k := 2) (by omega) hL rfl (h))) kk
theorem law_28 {b L B nx rc rs i : Nat} {T : Nat → Option q_T} {xs : Nat → Int32} {μ : q_M} {Kn : List Value → q_M → Prop} {Kr : Option Value → q_M → Prop} (hL : L ≤ 4096) (hi : i + 7 < L) (hb : b < B) (hTb : T b = some (.inr (.inr L))) (hS : LawS b B nx rc rs T xs μ) (kk : ∀ μ', LawS b B nx rc rs T xs μ' → Kn [.ref b, .ref B, .ref (B + 544), .int (nI i)] μ') : sLAW_28 [.ref b, .ref B, .ref (B + 544), .int (nI i)] μ Kn Kr :=
  law_case (L := L) (vs := [.int (xs (i + 1)), .int (xs (i + 2))]) rfl (op_28 (xs (i + 1)) (xs (i + 2))) hb hTb hS (fun μ hT hx K h => law_si hT hx (k := 1) (by omega) hL rfl (law_si hT hx (k := 2) (by omega) hL rfl (h))) kk
theorem law_29 {b L B nx rc rs i : Nat} {T : Nat → Option q_T} {xs : Nat → Int32} {μ : q_M} {Kn : List Value → q_M → Prop} {Kr : Option Value → q_M → Prop} (hL : L ≤ 4096) (hi : i + 7 < L) (hb : b < B) (hTb : T b = some (.inr (.inr L))) (hS : LawS b B nx rc rs T xs μ) (kk : ∀ μ', LawS b B nx rc rs T xs μ' → Kn [.ref b, .ref B, .ref (B + 544), .int (nI i)] μ') : sLAW_29 [.ref b, .ref B, .ref (B + 544), .int (nI i)] μ Kn Kr :=
  law_case (L := L) (vs := [.int (xs (i + 1))]) rfl (op_29 (xs (i + 1))) hb hTb hS (fun μ hT hx K h => law_si hT hx (k := 1) (by omega) hL rfl (h)) kk
theorem law_30 {b L B nx rc rs i : Nat} {T : Nat → Option q_T} {xs : Nat → Int32} {μ : q_M} {Kn : List Value → q_M → Prop} {Kr : Option Value → q_M → Prop} (hL : L ≤ 4096) (hi : i + 7 < L) (hb : b < B) (hTb : T b = some (.inr (.inr L))) (hS : LawS b B nx rc rs T xs μ) (kk : ∀ μ', LawS b B nx rc rs T xs μ' → Kn [.ref b, .ref B, .ref (B + 544), .int (nI i)] μ') : sLAW_30 [.ref b, .ref B, .ref (B + 544), .int (nI i)] μ Kn Kr :=
  law_case (L := L) (vs := [.int (xs (i + 1)), .int (xs (i + 2)), .int (xs (i + 3)), .int (xs (i + 4))]) rfl (op_30 (xs (i + 1)) (xs (i + 2)) (xs (i + 3)) (xs (i + 4))) hb hTb hS (fun μ hT hx K h => law_si hT hx (k := 1) (by omega) hL rfl (law_si hT hx (k := 2) (by omega) hL rfl (law_si hT hx (k := 3) (by omega) hL rfl (law_si hT hx (k := 4) (by omega) hL rfl (h))))) kk
theorem law_31 {b L B nx rc rs i : Nat} {T : Nat → Option q_T} {xs : Nat → Int32} {μ : q_M} {Kn : List Value → q_M → Prop} {Kr : Option Value → q_M → Prop} (hL : L ≤ 4096) (hi : i + 7 < L) (hb : b < B) (hTb : T b = some (.inr (.inr L))) (hS : LawS b B nx rc rs T xs μ) (kk : ∀ μ', LawS b B nx rc rs T xs μ' → Kn [.ref b, .ref B, .ref (B + 544), .int (nI i)] μ') : sLAW_31 [.ref b, .ref B, .ref (B + 544), .int (nI i)] μ Kn Kr :=
  law_case (L := L) (vs := [.int (xs (i + 1)), .int (xs (i + 2)), .int (xs (i + 3))]) rfl (op_31 (xs (i + 1)) (xs (i + 2)) (xs (i + 3))) hb hTb hS (fun μ hT hx K h => law_si hT hx (k := 1) (by omega) hL rfl (law_si hT hx (k := 2) (by omega) hL rfl (law_si hT hx (k := 3) (by omega) hL rfl (h)))) kk
theorem law_32 {b L B nx rc rs i : Nat} {T : Nat → Option q_T} {xs : Nat → Int32} {μ : q_M} {Kn : List Value → q_M → Prop} {Kr : Option Value → q_M → Prop} (hL : L ≤ 4096) (hi : i + 7 < L) (hb : b < B) (hTb : T b = some (.inr (.inr L))) (hS : LawS b B nx rc rs T xs μ) (kk : ∀ μ', LawS b B nx rc rs T xs μ' → Kn [.ref b, .ref B, .ref (B + 544), .int (nI i)] μ') : sLAW_32 [.ref b, .ref B, .ref (B + 544), .int (nI i)] μ Kn Kr :=
  law_case (L := L) (vs := [.int (xs (i + 1)), .int (xs (i + 2)), .int (xs (i + 3))]) rfl (op_32 (xs (i + 1)) (xs (i + 2)) (xs (i + 3))) hb hTb hS (fun μ hT hx K h => law_si hT hx (k := 1) (by omega) hL rfl (law_si hT hx (k := 2) (by omega) hL rfl (law_si hT hx (k := 3) (by omega) hL rfl (h)))) kk
theorem law_33 {b L B nx rc rs i : Nat} {T : Nat → Option q_T} {xs : Nat → Int32} {μ : q_M} {Kn : List Value → q_M → Prop} {Kr : Option Value → q_M → Prop} (hL : L ≤ 4096) (hi : i + 7 < L) (hb : b < B) (hTb : T b = some (.inr (.inr L))) (hS : LawS b B nx rc rs T xs μ) (kk : ∀ μ', LawS b B nx rc rs T xs μ' → Kn [.ref b, .ref B, .ref (B + 544), .int (nI i)] μ') : sLAW_33 [.ref b, .ref B, .ref (B + 544), .int (nI i)] μ Kn Kr :=
  law_case (L := L) (vs := [.int (xs (i + 1)), .int (xs (i + 2)), .int (xs (i + 3)), .int (xs (i + 4))]) rfl (op_33 (xs (i + 1)) (xs (i + 2)) (xs (i + 3)) (xs (i + 4))) hb hTb hS (fun μ hT hx K h => law_si hT hx (k := 1) (by omega) hL rfl (law_si hT hx (k := 2) (by omega) hL rfl (law_si hT hx (k := 3) (by omega) hL rfl (law_si hT hx (k := 4) (by omega) hL rfl (h))))) kk
theorem law_34 {b L B nx rc rs i : Nat} {T : Nat → Option q_T} {xs : Nat → Int32} {μ : q_M} {Kn : List Value → q_M → Prop} {Kr : Option Value → q_M → Prop} (hL : L ≤ 4096) (hi : i + 7 < L) (hb : b < B) (hTb : T b = some (.inr (.inr L))) (hS : LawS b B nx rc rs T xs μ) (kk : ∀ μ', LawS b B nx rc rs T xs μ' → Kn [.ref b, .ref B, .ref (B + 544), .int (nI i)] μ') : sLAW_34 [.ref b, .ref B, .ref (B + 544), .int (nI i)] μ Kn Kr :=
  law_case (L := L) (vs := [.int (xs (i + 1)), .int (xs (i + 2))]) rfl (op_34 (xs (i + 1)) (xs (i + 2))) hb hTb hS (fun μ hT hx K h => law_si hT hx (k := 1) (by omega) hL rfl (law_si hT hx (k := 2) (by omega) hL rfl (h))) kk
theorem law_35 {b L B nx rc rs i : Nat} {T : Nat → Option q_T} {xs : Nat → Int32} {μ : q_M} {Kn : List Value → q_M → Prop} {Kr : Option Value → q_M → Prop} (hL : L ≤ 4096) (hi : i + 7 < L) (hb : b < B) (hTb : T b = some (.inr (.inr L))) (hS : LawS b B nx rc rs T xs μ) (kk : ∀ μ', LawS b B nx rc rs T xs μ' → Kn [.ref b, .ref B, .ref (B + 544), .int (nI i)] μ') : sLAW_35 [.ref b, .ref B, .ref (B + 544), .int (nI i)] μ Kn Kr :=
  law_case (L := L) (vs := [.int (xs (i + 1)), .int (xs (i + 2)), .int (xs (i + 3))]) rfl (op_35 (xs (i + 1)) (xs (i + 2)) (xs (i + 3))) hb hTb hS (fun μ hT hx K h => law_si hT hx (k := 1) (by omega) hL rfl (law_si hT hx (k := 2) (by omega) hL rfl (law_si hT hx (k := 3) (by omega) hL rfl (h)))) kk
theorem law_36 {b L B nx rc rs i : Nat} {T : Nat → Option q_T} {xs : Nat → Int32} {μ : q_M} {Kn : List Value → q_M → Prop} {Kr : Option Value → q_M → Prop} (hL : L ≤ 4096) (hi : i + 7 < L) (hb : b < B) (hTb : T b = some (.inr (.inr L))) (hS : LawS b B nx rc rs T xs μ) (kk : ∀ μ', LawS b B nx rc rs T xs μ' → Kn [.ref b, .ref B, .ref (B + 544), .int (nI i)] μ') : sLAW_36 [.ref b, .ref B, .ref (B + 544), .int (nI i)] μ Kn Kr :=
  law_case (L := L) (vs := [.int (xs (i + 1)), .int (xs (i + 2)), .int (xs (i + 3)), .int (xs (i + 4))]) rfl (op_36 (xs (i + 1)) (xs (i + 2)) (xs (i + 3)) (xs (i + 4))) hb hTb hS (fun μ hT hx K h => law_si hT hx (k := 1) (by omega) hL rfl (law_si hT hx (k := 2) (by omega) hL rfl (law_si hT hx (k := 3) (by omega) hL rfl (law_si hT hx (k := 4) (by omega) hL rfl (h))))) kk
theorem law_37 {b L B nx rc rs i : Nat} {T : Nat → Option q_T} {xs : Nat → Int32} {μ : q_M} {Kn : List Value → q_M → Prop} {Kr : Option Value → q_M → Prop} (hL : L ≤ 4096) (hi : i + 7 < L) (hb : b < B) (hTb : T b = some (.inr (.inr L))) (hS : LawS b B nx rc rs T xs μ) (kk : ∀ μ', LawS b B nx rc rs T xs μ' → Kn [.ref b, .ref B, .ref (B + 544), .int (nI i)] μ') : sLAW_37 [.ref b, .ref B, .ref (B + 544), .int (nI i)] μ Kn Kr :=
  law_case (L := L) (vs := [.int (xs (i + 1)), .int (xs (i + 2))]) rfl (op_37 (xs (i + 1)) (xs (i + 2))) hb hTb hS (fun μ hT hx K h => law_si hT hx (k := 1) (by omega) hL rfl (law_si hT hx (k := 2) (by omega) hL rfl (h))) kk
theorem law_38 {b L B nx rc rs i : Nat} {T : Nat → Option q_T} {xs : Nat → Int32} {μ : q_M} {Kn : List Value → q_M → Prop} {Kr : Option Value → q_M → Prop} (hL : L ≤ 4096) (hi : i + 7 < L) (hb : b < B) (hTb : T b = some (.inr (.inr L))) (hS : LawS b B nx rc rs T xs μ) (kk : ∀ μ', LawS b B nx rc rs T xs μ' → Kn [.ref b, .ref B, .ref (B + 544), .int (nI i)] μ') : sLAW_38 [.ref b, .ref B, .ref (B + 544), .int (nI i)] μ Kn Kr :=
  law_case (L := L) (vs := [.int (xs (i + 1)), .int (xs (i + 2))]) rfl (op_38 (xs (i + 1)) (xs (i + 2))) hb hTb hS (fun μ hT hx K h => law_si hT hx (k := 1) (by omega) hL rfl (law_si hT hx (k := 2) (by omega) hL rfl (h))) kk
theorem law_39 {b L B nx rc rs i : Nat} {T : Nat → Option q_T} {xs : Nat → Int32} {μ : q_M} {Kn : List Value → q_M → Prop} {Kr : Option Value → q_M → Prop} (hL : L ≤ 4096) (hi : i + 7 < L) (hb : b < B) (hTb : T b = some (.inr (.inr L))) (hS : LawS b B nx rc rs T xs μ) (kk : ∀ μ', LawS b B nx rc rs T xs μ' → Kn [.ref b, .ref B, .ref (B + 544), .int (nI i)] μ') : sLAW_39 [.ref b, .ref B, .ref (B + 544), .int (nI i)] μ Kn Kr :=
  law_case (L := L) (vs := [.int (xs (i + 1)), .int (xs (i + 2)), .int (xs (i + 3))]) rfl (op_39 (xs (i + 1)) (xs (i + 2)) (xs (i + 3))) hb hTb hS (fun μ hT hx K h => law_si hT hx (k := 1) (by omega) hL rfl (law_si hT hx (k := 2) (by omega) hL rfl (law_si hT hx (k := 3) (by omega) hL rfl (h)))) kk
theorem law_40 {b L B nx rc rs i : Nat} {T : Nat → Option q_T} {xs : Nat → Int32} {μ : q_M} {Kn : List Value → q_M → Prop} {Kr : Option Value → q_M → Prop} (hL : L ≤ 4096) (hi : i + 7 < L) (hb : b < B) (hTb : T b = some (.inr (.inr L))) (hS : LawS b B nx rc rs T xs μ) (kk : ∀ μ', LawS b B nx rc rs T xs μ' → Kn [.ref b, .ref B, .ref (B + 544), .int (nI i)] μ') : sLAW_40 [.ref b, .ref B, .ref (B + 544), .int (nI i)] μ Kn Kr :=
  law_case (L := L) (vs := [.int (xs (i + 1)), .int (xs (i + 2)), .int (zI (bz (¬ xs (i + 3) = 0)))]) rfl (op_40 (xs (i + 1)) (xs (i + 2)) (¬ xs (i + 3) = 0)) hb hTb hS (fun μ hT hx K h => law_si hT hx (k := 1) (by omega) hL rfl (law_si hT hx (k := 2) (by omega) hL rfl (law_bi hT hx (k := 3) (by omega) hL rfl (h)))) kk
theorem law_41 {b L B nx rc rs i : Nat} {T : Nat → Option q_T} {xs : Nat → Int32} {μ : q_M} {Kn : List Value → q_M → Prop} {Kr : Option Value → q_M → Prop} (hL : L ≤ 4096) (hi : i + 7 < L) (hb : b < B) (hTb : T b = some (.inr (.inr L))) (hS : LawS b B nx rc rs T xs μ) (kk : ∀ μ', LawS b B nx rc rs T xs μ' → Kn [.ref b, .ref B, .ref (B + 544), .int (nI i)] μ') : sLAW_41 [.ref b, .ref B, .ref (B + 544), .int (nI i)] μ Kn Kr :=
  law_case (L := L) (vs := [.int (xs (i + 1)), .int (xs (i + 2))]) rfl (op_41 (xs (i + 1)) (xs (i + 2))) hb hTb hS (fun μ hT hx K h => law_si hT hx (k := 1) (by omega) hL rfl (law_si hT hx (k := 2) (by omega) hL rfl (h))) kk
theorem law_42 {b L B nx rc rs i : Nat} {T : Nat → Option q_T} {xs : Nat → Int32} {μ : q_M} {Kn : List Value → q_M → Prop} {Kr : Option Value → q_M → Prop} (hL : L ≤ 4096) (hi : i + 7 < L) (hb : b < B) (hTb : T b = some (.inr (.inr L))) (hS : LawS b B nx rc rs T xs μ) (kk : ∀ μ', LawS b B nx rc rs T xs μ' → Kn [.ref b, .ref B, .ref (B + 544), .int (nI i)] μ') : sLAW_42 [.ref b, .ref B, .ref (B + 544), .int (nI i)] μ Kn Kr :=
  law_case (L := L) (vs := [.int (xs (i + 1)), .int (xs (i + 2)), .int (xs (i + 3))]) rfl (op_42 (xs (i + 1)) (xs (i + 2)) (xs (i + 3))) hb hTb hS (fun μ hT hx K h => law_si hT hx (k := 1) (by omega) hL rfl (law_si hT hx (k := 2) (by omega) hL rfl (law_si hT hx (k := 3) (by omega) hL rfl (h)))) kk
theorem law_43 {b L B nx rc rs i : Nat} {T : Nat → Option q_T} {xs : Nat → Int32} {μ : q_M} {Kn : List Value → q_M → Prop} {Kr : Option Value → q_M → Prop} (hL : L ≤ 4096) (hi : i + 7 < L) (hb : b < B) (hTb : T b = some (.inr (.inr L))) (hS : LawS b B nx rc rs T xs μ) (kk : ∀ μ', LawS b B nx rc rs T xs μ' → Kn [.ref b, .ref B, .ref (B + 544), .int (nI i)] μ') : sLAW_43 [.ref b, .ref B, .ref (B + 544), .int (nI i)] μ Kn Kr :=
  law_case (L := L) (vs := [.int (xs (i + 1)), .int (xs (i + 2)), .int (xs (i + 3))]) rfl (op_43 (xs (i + 1)) (xs (i + 2)) (xs (i + 3))) hb hTb hS (fun μ hT hx K h => law_si hT hx (k := 1) (by omega) hL rfl (law_si hT hx (k := 2) (by omega) hL rfl (law_si hT hx (k := 3) (by omega) hL rfl (h)))) kk
theorem law_44 {b L B nx rc rs i : Nat} {T : Nat → Option q_T} {xs : Nat → Int32} {μ : q_M} {Kn : List Value → q_M → Prop} {Kr : Option Value → q_M → Prop} (hL : L ≤ 4096) (hi : i + 7 < L) (hb : b < B) (hTb : T b = some (.inr (.inr L))) (hS : LawS b B nx rc rs T xs μ) (kk : ∀ μ', LawS b B nx rc rs T xs μ' → Kn [.ref b, .ref B, .ref (B + 544), .int (nI i)] μ') : sLAW_44 [.ref b, .ref B, .ref (B + 544), .int (nI i)] μ Kn Kr :=
  law_case (L := L) (vs := []) rfl (op_44 ) hb hTb hS (fun μ hT hx K h => h) kk
theorem law_45 {b L B nx rc rs i : Nat} {T : Nat → Option q_T} {xs : Nat → Int32} {μ : q_M} {Kn : List Value → q_M → Prop} {Kr : Option Value → q_M → Prop} (hL : L ≤ 4096) (hi : i + 7 < L) (hb : b < B) (hTb : T b = some (.inr (.inr L))) (hS : LawS b B nx rc rs T xs μ) (kk : ∀ μ', LawS b B nx rc rs T xs μ' → Kn [.ref b, .ref B, .ref (B + 544), .int (nI i)] μ') : sLAW_45 [.ref b, .ref B, .ref (B + 544), .int (nI i)] μ Kn Kr :=
  law_case (L := L) (vs := [.int (xs (i + 1)), .int (xs (i + 2))]) rfl (op_45 (xs (i + 1)) (xs (i + 2))) hb hTb hS (fun μ hT hx K h => law_si hT hx (k := 1) (by omega) hL rfl (law_si hT hx (k := 2) (by omega) hL rfl (h))) kk
theorem law_46 {b L B nx rc rs i : Nat} {T : Nat → Option q_T} {xs : Nat → Int32} {μ : q_M} {Kn : List Value → q_M → Prop} {Kr : Option Value → q_M → Prop} (hL : L ≤ 4096) (hi : i + 7 < L) (hb : b < B) (hTb : T b = some (.inr (.inr L))) (hS : LawS b B nx rc rs T xs μ) (kk : ∀ μ', LawS b B nx rc rs T xs μ' → Kn [.ref b, .ref B, .ref (B + 544), .int (nI i)] μ') : sLAW_46 [.ref b, .ref B, .ref (B + 544), .int (nI i)] μ Kn Kr :=
  law_case (L := L) (vs := []) rfl (op_46 ) hb hTb hS (fun μ hT hx K h => h) kk
theorem law_47 {b L B nx rc rs i : Nat} {T : Nat → Option q_T} {xs : Nat → Int32} {μ : q_M} {Kn : List Value → q_M → Prop} {Kr : Option Value → q_M → Prop} (hL : L ≤ 4096) (hi : i + 7 < L) (hb : b < B) (hTb : T b = some (.inr (.inr L))) (hS : LawS b B nx rc rs T xs μ) (kk : ∀ μ', LawS b B nx rc rs T xs μ' → Kn [.ref b, .ref B, .ref (B + 544), .int (nI i)] μ') : sLAW_47 [.ref b, .ref B, .ref (B + 544), .int (nI i)] μ Kn Kr :=
  law_case (L := L) (vs := [.int (xs (i + 1))]) rfl (op_47 (xs (i + 1))) hb hTb hS (fun μ hT hx K h => law_si hT hx (k := 1) (by omega) hL rfl (h)) kk
theorem law_48 {b L B nx rc rs i : Nat} {T : Nat → Option q_T} {xs : Nat → Int32} {μ : q_M} {Kn : List Value → q_M → Prop} {Kr : Option Value → q_M → Prop} (hL : L ≤ 4096) (hi : i + 7 < L) (hb : b < B) (hTb : T b = some (.inr (.inr L))) (hS : LawS b B nx rc rs T xs μ) (kk : ∀ μ', LawS b B nx rc rs T xs μ' → Kn [.ref b, .ref B, .ref (B + 544), .int (nI i)] μ') : sLAW_48 [.ref b, .ref B, .ref (B + 544), .int (nI i)] μ Kn Kr :=
  law_case (L := L) (vs := [.int (xs (i + 1)), .int (xs (i + 2)), .int (xs (i + 3))]) rfl (op_48 (xs (i + 1)) (xs (i + 2)) (xs (i + 3))) hb hTb hS (fun μ hT hx K h => law_si hT hx (k := 1) (by omega) hL rfl (law_si hT hx (k := 2) (by omega) hL rfl (law_si hT hx (k := 3) (by omega) hL rfl (h)))) kk
theorem law_49 {b L B nx rc rs i : Nat} {T : Nat → Option q_T} {xs : Nat → Int32} {μ : q_M} {Kn : List Value → q_M → Prop} {Kr : Option Value → q_M → Prop} (hL : L ≤ 4096) (hi : i + 7 < L) (hb : b < B) (hTb : T b = some (.inr (.inr L))) (hS : LawS b B nx rc rs T xs μ) (kk : ∀ μ', LawS b B nx rc rs T xs μ' → Kn [.ref b, .ref B, .ref (B + 544), .int (nI i)] μ') : sLAW_49 [.ref b, .ref B, .ref (B + 544), .int (nI i)] μ Kn Kr :=
  law_case (L := L) (vs := [.int (xs (i + 1)), .int (xs (i + 2))]) rfl (op_49 (xs (i + 1)) (xs (i + 2))) hb hTb hS (fun μ hT hx K h => law_si hT hx (k := 1) (by omega) hL rfl (law_si hT hx (k := 2) (by omega) hL rfl (h))) kk
theorem law_50 {b L B nx rc rs i : Nat} {T : Nat → Option q_T} {xs : Nat → Int32} {μ : q_M} {Kn : List Value → q_M → Prop} {Kr : Option Value → q_M → Prop} (hL : L ≤ 4096) (hi : i + 7 < L) (hb : b < B) (hTb : T b = some (.inr (.inr L))) (hS : LawS b B nx rc rs T xs μ) (kk : ∀ μ', LawS b B nx rc rs T xs μ' → Kn [.ref b, .ref B, .ref (B + 544), .int (nI i)] μ') : sLAW_50 [.ref b, .ref B, .ref (B + 544), .int (nI i)] μ Kn Kr :=
  law_case (L := L) (vs := [.int (xs (i + 1)), .int (xs (i + 2)), .int (xs (i + 3))]) rfl (op_50 (xs (i + 1)) (xs (i + 2)) (xs (i + 3))) hb hTb hS (fun μ hT hx K h => law_si hT hx (k := 1) (by omega) hL rfl (law_si hT hx (k := 2) (by omega) hL rfl (law_si hT hx (k := 3) (by omega) hL rfl (h)))) kk
theorem law_51 {b L B nx rc rs i : Nat} {T : Nat → Option q_T} {xs : Nat → Int32} {μ : q_M} {Kn : List Value → q_M → Prop} {Kr : Option Value → q_M → Prop} (hL : L ≤ 4096) (hi : i + 7 < L) (hb : b < B) (hTb : T b = some (.inr (.inr L))) (hS : LawS b B nx rc rs T xs μ) (kk : ∀ μ', LawS b B nx rc rs T xs μ' → Kn [.ref b, .ref B, .ref (B + 544), .int (nI i)] μ') : sLAW_51 [.ref b, .ref B, .ref (B + 544), .int (nI i)] μ Kn Kr :=
  law_case (L := L) (vs := [.int (xs (i + 1)), .int (zI (bz (¬ xs (i + 2) = 0)))]) rfl (op_51 (xs (i + 1)) (¬ xs (i + 2) = 0)) hb hTb hS (fun μ hT hx K h => law_si hT hx (k := 1) (by omega) hL rfl (law_bi hT hx (k := 2) (by omega) hL rfl (h))) kk
theorem law_52 {b L B nx rc rs i : Nat} {T : Nat → Option q_T} {xs : Nat → Int32} {μ : q_M} {Kn : List Value → q_M → Prop} {Kr : Option Value → q_M → Prop} (hL : L ≤ 4096) (hi : i + 7 < L) (hb : b < B) (hTb : T b = some (.inr (.inr L))) (hS : LawS b B nx rc rs T xs μ) (kk : ∀ μ', LawS b B nx rc rs T xs μ' → Kn [.ref b, .ref B, .ref (B + 544), .int (nI i)] μ') : sLAW_52 [.ref b, .ref B, .ref (B + 544), .int (nI i)] μ Kn Kr :=
  law_case (L := L) (vs := [.int (xs (i + 1))]) rfl (op_52 (xs (i + 1))) hb hTb hS (fun μ hT hx K h => law_si hT hx (k := 1) (by omega) hL rfl (h)) kk
theorem law_53 {b L B nx rc rs i : Nat} {T : Nat → Option q_T} {xs : Nat → Int32} {μ : q_M} {Kn : List Value → q_M → Prop} {Kr : Option Value → q_M → Prop} (hL : L ≤ 4096) (hi : i + 7 < L) (hb : b < B) (hTb : T b = some (.inr (.inr L))) (hS : LawS b B nx rc rs T xs μ) (kk : ∀ μ', LawS b B nx rc rs T xs μ' → Kn [.ref b, .ref B, .ref (B + 544), .int (nI i)] μ') : sLAW_53 [.ref b, .ref B, .ref (B + 544), .int (nI i)] μ Kn Kr :=
  law_case (L := L) (vs := [.int (xs (i + 1))]) rfl (op_53 (xs (i + 1))) hb hTb hS (fun μ hT hx K h => law_si hT hx (k := 1) (by omega) hL rfl (h)) kk
theorem law_54 {b L B nx rc rs i : Nat} {T : Nat → Option q_T} {xs : Nat → Int32} {μ : q_M} {Kn : List Value → q_M → Prop} {Kr : Option Value → q_M → Prop} (hL : L ≤ 4096) (hi : i + 7 < L) (hb : b < B) (hTb : T b = some (.inr (.inr L))) (hS : LawS b B nx rc rs T xs μ) (kk : ∀ μ', LawS b B nx rc rs T xs μ' → Kn [.ref b, .ref B, .ref (B + 544), .int (nI i)] μ') : sLAW_54 [.ref b, .ref B, .ref (B + 544), .int (nI i)] μ Kn Kr :=
  law_case (L := L) (vs := [.int (xs (i + 1)), .int (xs (i + 2)), .int (xs (i + 3)), .int (xs (i + 4)), .int (xs (i + 5)), .int (xs (i + 6)), .int (xs (i + 7))]) rfl (op_54 (xs (i + 1)) (xs (i + 2)) (xs (i + 3)) (xs (i + 4)) (xs (i + 5)) (xs (i + 6)) (xs (i + 7))) hb hTb hS (fun μ hT hx K h => law_si hT hx (k := 1) (by omega) hL rfl (law_si hT hx (k := 2) (by omega) hL rfl (law_si hT hx (k := 3) (by omega) hL rfl (law_si hT hx (k := 4) (by omega) hL rfl (law_si hT hx (k := 5) (by omega) hL rfl (law_si hT hx (k := 6) (by omega) hL rfl (law_si hT hx (k := 7) (by omega) hL rfl (h)))))))) kk
theorem law_55 {b L B nx rc rs i : Nat} {T : Nat → Option q_T} {xs : Nat → Int32} {μ : q_M} {Kn : List Value → q_M → Prop} {Kr : Option Value → q_M → Prop} (hL : L ≤ 4096) (hi : i + 7 < L) (hb : b < B) (hTb : T b = some (.inr (.inr L))) (hS : LawS b B nx rc rs T xs μ) (kk : ∀ μ', LawS b B nx rc rs T xs μ' → Kn [.ref b, .ref B, .ref (B + 544), .int (nI i)] μ') : sLAW_55 [.ref b, .ref B, .ref (B + 544), .int (nI i)] μ Kn Kr :=
  law_case (L := L) (vs := [.int (xs (i + 1))]) rfl (op_55 (xs (i + 1))) hb hTb hS (fun μ hT hx K h => law_si hT hx (k := 1) (by omega) hL rfl (h)) kk
theorem law_56 {b L B nx rc rs i : Nat} {T : Nat → Option q_T} {xs : Nat → Int32} {μ : q_M} {Kn : List Value → q_M → Prop} {Kr : Option Value → q_M → Prop} (hL : L ≤ 4096) (hi : i + 7 < L) (hb : b < B) (hTb : T b = some (.inr (.inr L))) (hS : LawS b B nx rc rs T xs μ) (kk : ∀ μ', LawS b B nx rc rs T xs μ' → Kn [.ref b, .ref B, .ref (B + 544), .int (nI i)] μ') : sLAW_56 [.ref b, .ref B, .ref (B + 544), .int (nI i)] μ Kn Kr :=
  law_case (L := L) (vs := [.int (xs (i + 1)), .int (xs (i + 2))]) rfl (op_56 (xs (i + 1)) (xs (i + 2))) hb hTb hS (fun μ hT hx K h => law_si hT hx (k := 1) (by omega) hL rfl (law_si hT hx (k := 2) (by omega) hL rfl (h))) kk
theorem law_57 {b L B nx rc rs i : Nat} {T : Nat → Option q_T} {xs : Nat → Int32} {μ : q_M} {Kn : List Value → q_M → Prop} {Kr : Option Value → q_M → Prop} (hL : L ≤ 4096) (hi : i + 7 < L) (hb : b < B) (hTb : T b = some (.inr (.inr L))) (hS : LawS b B nx rc rs T xs μ) (kk : ∀ μ', LawS b B nx rc rs T xs μ' → Kn [.ref b, .ref B, .ref (B + 544), .int (nI i)] μ') : sLAW_57 [.ref b, .ref B, .ref (B + 544), .int (nI i)] μ Kn Kr :=
  law_case (L := L) (vs := [.int (xs (i + 1))]) rfl (op_57 (xs (i + 1))) hb hTb hS (fun μ hT hx K h => law_si hT hx (k := 1) (by omega) hL rfl (h)) kk
theorem law_58 {b L B nx rc rs i : Nat} {T : Nat → Option q_T} {xs : Nat → Int32} {μ : q_M} {Kn : List Value → q_M → Prop} {Kr : Option Value → q_M → Prop} (hL : L ≤ 4096) (hi : i + 7 < L) (hb : b < B) (hTb : T b = some (.inr (.inr L))) (hS : LawS b B nx rc rs T xs μ) (kk : ∀ μ', LawS b B nx rc rs T xs μ' → Kn [.ref b, .ref B, .ref (B + 544), .int (nI i)] μ') : sLAW_58 [.ref b, .ref B, .ref (B + 544), .int (nI i)] μ Kn Kr :=
  law_case (L := L) (vs := [.int (xs (i + 1)), .int (xs (i + 2)), .int (xs (i + 3))]) rfl (op_58 (xs (i + 1)) (xs (i + 2)) (xs (i + 3))) hb hTb hS (fun μ hT hx K h => law_si hT hx (k := 1) (by omega) hL rfl (law_si hT hx (k := 2) (by omega) hL rfl (law_si hT hx (k := 3) (by omega) hL rfl (h)))) kk
theorem law_59 {b L B nx rc rs i : Nat} {T : Nat → Option q_T} {xs : Nat → Int32} {μ : q_M} {Kn : List Value → q_M → Prop} {Kr : Option Value → q_M → Prop} (hL : L ≤ 4096) (hi : i + 7 < L) (hb : b < B) (hTb : T b = some (.inr (.inr L))) (hS : LawS b B nx rc rs T xs μ) (kk : ∀ μ', LawS b B nx rc rs T xs μ' → Kn [.ref b, .ref B, .ref (B + 544), .int (nI i)] μ') : sLAW_59 [.ref b, .ref B, .ref (B + 544), .int (nI i)] μ Kn Kr :=
  law_case (L := L) (vs := [.int (xs (i + 1)), .int (xs (i + 2)), .int (xs (i + 3))]) rfl (op_59 (xs (i + 1)) (xs (i + 2)) (xs (i + 3))) hb hTb hS (fun μ hT hx K h => law_si hT hx (k := 1) (by omega) hL rfl (law_si hT hx (k := 2) (by omega) hL rfl (law_si hT hx (k := 3) (by omega) hL rfl (h)))) kk
theorem law_60 {b L B nx rc rs i : Nat} {T : Nat → Option q_T} {xs : Nat → Int32} {μ : q_M} {Kn : List Value → q_M → Prop} {Kr : Option Value → q_M → Prop} (hL : L ≤ 4096) (hi : i + 7 < L) (hb : b < B) (hTb : T b = some (.inr (.inr L))) (hS : LawS b B nx rc rs T xs μ) (kk : ∀ μ', LawS b B nx rc rs T xs μ' → Kn [.ref b, .ref B, .ref (B + 544), .int (nI i)] μ') : sLAW_60 [.ref b, .ref B, .ref (B + 544), .int (nI i)] μ Kn Kr :=
  law_case (L := L) (vs := [.int (xs (i + 1)), .int (xs (i + 2)), .int (xs (i + 3))]) rfl (op_60 (xs (i + 1)) (xs (i + 2)) (xs (i + 3))) hb hTb hS (fun μ hT hx K h => law_si hT hx (k := 1) (by omega) hL rfl (law_si hT hx (k := 2) (by omega) hL rfl (law_si hT hx (k := 3) (by omega) hL rfl (h)))) kk
theorem law_61 {b L B nx rc rs i : Nat} {T : Nat → Option q_T} {xs : Nat → Int32} {μ : q_M} {Kn : List Value → q_M → Prop} {Kr : Option Value → q_M → Prop} (hL : L ≤ 4096) (hi : i + 7 < L) (hb : b < B) (hTb : T b = some (.inr (.inr L))) (hS : LawS b B nx rc rs T xs μ) (kk : ∀ μ', LawS b B nx rc rs T xs μ' → Kn [.ref b, .ref B, .ref (B + 544), .int (nI i)] μ') : sLAW_61 [.ref b, .ref B, .ref (B + 544), .int (nI i)] μ Kn Kr :=
  law_case (L := L) (vs := [.int (xs (i + 1)), .int (xs (i + 2))]) rfl (op_61 (xs (i + 1)) (xs (i + 2))) hb hTb hS (fun μ hT hx K h => law_si hT hx (k := 1) (by omega) hL rfl (law_si hT hx (k := 2) (by omega) hL rfl (h))) kk
theorem law_62 {b L B nx rc rs i : Nat} {T : Nat → Option q_T} {xs : Nat → Int32} {μ : q_M} {Kn : List Value → q_M → Prop} {Kr : Option Value → q_M → Prop} (hL : L ≤ 4096) (hi : i + 7 < L) (hb : b < B) (hTb : T b = some (.inr (.inr L))) (hS : LawS b B nx rc rs T xs μ) (kk : ∀ μ', LawS b B nx rc rs T xs μ' → Kn [.ref b, .ref B, .ref (B + 544), .int (nI i)] μ') : sLAW_62 [.ref b, .ref B, .ref (B + 544), .int (nI i)] μ Kn Kr :=
  law_case (L := L) (vs := [.int (xs (i + 1)), .int (xs (i + 2)), .int (xs (i + 3)), .int (xs (i + 4)), .int (xs (i + 5))]) rfl (op_62 (xs (i + 1)) (xs (i + 2)) (xs (i + 3)) (xs (i + 4)) (xs (i + 5))) hb hTb hS (fun μ hT hx K h => law_si hT hx (k := 1) (by omega) hL rfl (law_si hT hx (k := 2) (by omega) hL rfl (law_si hT hx (k := 3) (by omega) hL rfl (law_si hT hx (k := 4) (by omega) hL rfl (law_si hT hx (k := 5) (by omega) hL rfl (h)))))) kk
theorem law_63 {b L B nx rc rs i : Nat} {T : Nat → Option q_T} {xs : Nat → Int32} {μ : q_M} {Kn : List Value → q_M → Prop} {Kr : Option Value → q_M → Prop} (hL : L ≤ 4096) (hi : i + 7 < L) (hb : b < B) (hTb : T b = some (.inr (.inr L))) (hS : LawS b B nx rc rs T xs μ) (kk : ∀ μ', LawS b B nx rc rs T xs μ' → Kn [.ref b, .ref B, .ref (B + 544), .int (nI i)] μ') : sLAW_63 [.ref b, .ref B, .ref (B + 544), .int (nI i)] μ Kn Kr :=
  law_case (L := L) (vs := [.int (xs (i + 1)), .int (xs (i + 2))]) rfl (op_63 (xs (i + 1)) (xs (i + 2))) hb hTb hS (fun μ hT hx K h => law_si hT hx (k := 1) (by omega) hL rfl (law_si hT hx (k := 2) (by omega) hL rfl (h))) kk
/-- the loop of the law -/
theorem law_loop {b L B nx rc rs : Nat} {T : Nat → Option q_T} {xs : Nat → Int32} (hL : L ≤ 4096) (hb : b < B) (hTb : T b = some (.inr (.inr L))) {Kr : Option Value → q_M → Prop} (hK : ∀ env μ, Kr (some (.int 1)) μ) {Kn : List Value → q_M → Prop} (hKn : ∀ (v : Int32) (μ : q_M), Kn [.ref b, .ref B, .ref (B + 544), .int v] μ) :
    ∀ (m i : Nat) (μ : q_M), i ≤ L + 8 → L + 8 ≤ i + m → LawS b B nx rc rs T xs μ → q_it (q_cm q_Rle (q_l 3) (q_2 q_gisub (q_sl (q_r 0)) (q_k 8))) (q_sq (q_sw 0 [sLAW_0, sLAW_1, sLAW_2, sLAW_3, sLAW_4, sLAW_5, sLAW_6, sLAW_7, sLAW_8, sLAW_9, sLAW_10, sLAW_11, sLAW_12, sLAW_13, sLAW_14, sLAW_15, sLAW_16, sLAW_17, sLAW_18, sLAW_19, sLAW_20, sLAW_21, sLAW_22, sLAW_23, sLAW_24, sLAW_25, sLAW_26, sLAW_27, sLAW_28, sLAW_29, sLAW_30, sLAW_31, sLAW_32, sLAW_33, sLAW_34, sLAW_35, sLAW_36, sLAW_37, sLAW_38, sLAW_39, sLAW_40, sLAW_41, sLAW_42, sLAW_43, sLAW_44, sLAW_45, sLAW_46, sLAW_47, sLAW_48, sLAW_49, sLAW_50, sLAW_51, sLAW_52, sLAW_53, sLAW_54, sLAW_55, sLAW_56, sLAW_57, sLAW_58, sLAW_59, sLAW_60, sLAW_61, sLAW_62, sLAW_63] q_nop (q_2 q_giand (q_si (q_r 0) (q_l 3)) (q_k 63))) (q_sinc 3 8)) Kn Kr (m + 1) [.ref b, .ref B, .ref (B + 544), .int (nI i)] μ := by
  intro m
  induction m with
  | zero =>
    intro i μ h1 h2 hS
    obtain ⟨R, G, rfl, hI, hx⟩ := hS
    refine ⟨nI i, rfl, b, rfl, L, hTb, fun h => absurd h ?_, fun _ => hKn _ _⟩
    rw [show nI i = zI (i : Int) from (Int32.ofInt_eq_ofNat (n := i)).symm, show q_gisub (nI L) 8 = zI ((L : Int) - 8) by rw [show nI L = zI (L : Int) from (Int32.ofInt_eq_ofNat (n := L)).symm]; exact zI_sub _ 8, r_le (by omega) (by omega) (by omega) (by omega)]
    omega
  | succ m ih =>
    intro i μ h1 h2 hS
    have hS0 := hS
    obtain ⟨R, G, rfl, hI, hx⟩ := hS
    have e1 : q_Rle (nI i) (q_gisub (nI L) 8) = ((i : Int) ≤ (L : Int) - 8) := by
      rw [show nI i = zI (i : Int) from (Int32.ofInt_eq_ofNat (n := i)).symm, show q_gisub (nI L) 8 = zI ((L : Int) - 8) by rw [show nI L = zI (L : Int) from (Int32.ofInt_eq_ofNat (n := L)).symm]; exact zI_sub _ 8, r_le (by omega) (by omega) (by omega) (by omega)]
    refine ⟨nI i, rfl, b, rfl, L, hTb, fun h => ?_, fun _ => hKn _ _⟩
    have h : q_Rle (nI i) (q_gisub (nI L) 8) := h
    rw [e1] at h
    have hi : i + 7 < L := by omega
    have hx0 : (st T nx rc rs R G).2 b (nI i).toNatClampNeg = .int (xs i) := by rw [nI_clamp (by omega)]; exact hx i
    have kk : ∀ μ', LawS b B nx rc rs T xs μ' → q_sinc 3 8 [.ref b, .ref B, .ref (B + 544), .int (nI i)] μ' (q_it (q_cm q_Rle (q_l 3) (q_2 q_gisub (q_sl (q_r 0)) (q_k 8))) (q_sq (q_sw 0 [sLAW_0, sLAW_1, sLAW_2, sLAW_3, sLAW_4, sLAW_5, sLAW_6, sLAW_7, sLAW_8, sLAW_9, sLAW_10, sLAW_11, sLAW_12, sLAW_13, sLAW_14, sLAW_15, sLAW_16, sLAW_17, sLAW_18, sLAW_19, sLAW_20, sLAW_21, sLAW_22, sLAW_23, sLAW_24, sLAW_25, sLAW_26, sLAW_27, sLAW_28, sLAW_29, sLAW_30, sLAW_31, sLAW_32, sLAW_33, sLAW_34, sLAW_35, sLAW_36, sLAW_37, sLAW_38, sLAW_39, sLAW_40, sLAW_41, sLAW_42, sLAW_43, sLAW_44, sLAW_45, sLAW_46, sLAW_47, sLAW_48, sLAW_49, sLAW_50, sLAW_51, sLAW_52, sLAW_53, sLAW_54, sLAW_55, sLAW_56, sLAW_57, sLAW_58, sLAW_59, sLAW_60, sLAW_61, sLAW_62, sLAW_63] q_nop (q_2 q_giand (q_si (q_r 0) (q_l 3)) (q_k 63))) (q_sinc 3 8)) Kn Kr (m + 1)) Kr := by
      intro μ' hS'
      refine ⟨nI i, rfl, ?_⟩
      have := ih (i + 8) μ' (by omega) (by omega) hS'
      have e2 : nI i + Int32.ofInt 8 = nI (i + 8) := by
        rw [show Int32.ofInt 8 = nI 8 from rfl, nI_add]
      show q_it _ _ Kn Kr (m + 1) [.ref b, .ref B, .ref (B + 544), .int (nI i + Int32.ofInt 8)] μ'
      rw [e2]
      exact this
    refine ⟨b, rfl, nI i, rfl, L, hTb, vp_in_nI (by omega) (by omega), xs i, hx0, ?_, fun _ => kk _ hS0⟩
    have hS := hS0
    exact ⟨fun _ => law_0 hL (by omega) hb hTb hS kk, fun _ => law_1 hL (by omega) hb hTb hS kk, fun _ => law_2 hL (by omega) hb hTb hS kk, fun _ => law_3 hL (by omega) hb hTb hS kk, fun _ => law_4 hL (by omega) hb hTb hS kk, fun _ => law_5 hL (by omega) hb hTb hS kk, fun _ => law_6 hL (by omega) hb hTb hS kk, fun _ => law_7 hL (by omega) hb hTb hS kk, fun _ => law_8 hL (by omega) hb hTb hS kk, fun _ => law_9 hL (by omega) hb hTb hS kk, fun _ => law_10 hL (by omega) hb hTb hS kk, fun _ => law_11 hL (by omega) hb hTb hS kk, fun _ => law_12 hL (by omega) hb hTb hS kk, fun _ => law_13 hL (by omega) hb hTb hS kk, fun _ => law_14 hL (by omega) hb hTb hS kk, fun _ => law_15 hL (by omega) hb hTb hS kk, fun _ => law_16 hL (by omega) hb hTb hS kk, fun _ => law_17 hL (by omega) hb hTb hS kk, fun _ => law_18 hL (by omega) hb hTb hS kk, fun _ => law_19 hL (by omega) hb hTb hS kk, fun _ => law_20 hL (by omega) hb hTb hS kk, fun _ => law_21 hL (by omega) hb hTb hS kk, fun _ => law_22 hL (by omega) hb hTb hS kk, fun _ => law_23 hL (by omega) hb hTb hS kk, fun _ => law_24 hL (by omega) hb hTb hS kk, fun _ => law_25 hL (by omega) hb hTb hS kk, fun _ => law_26 hL (by omega) hb hTb hS kk, fun _ => law_27 hL (by omega) hb hTb hS kk, fun _ => law_28 hL (by omega) hb hTb hS kk, fun _ => law_29 hL (by omega) hb hTb hS kk, fun _ => law_30 hL (by omega) hb hTb hS kk, fun _ => law_31 hL (by omega) hb hTb hS kk, fun _ => law_32 hL (by omega) hb hTb hS kk, fun _ => law_33 hL (by omega) hb hTb hS kk, fun _ => law_34 hL (by omega) hb hTb hS kk, fun _ => law_35 hL (by omega) hb hTb hS kk, fun _ => law_36 hL (by omega) hb hTb hS kk, fun _ => law_37 hL (by omega) hb hTb hS kk, fun _ => law_38 hL (by omega) hb hTb hS kk, fun _ => law_39 hL (by omega) hb hTb hS kk, fun _ => law_40 hL (by omega) hb hTb hS kk, fun _ => law_41 hL (by omega) hb hTb hS kk, fun _ => law_42 hL (by omega) hb hTb hS kk, fun _ => law_43 hL (by omega) hb hTb hS kk, fun _ => law_44 hL (by omega) hb hTb hS kk, fun _ => law_45 hL (by omega) hb hTb hS kk, fun _ => law_46 hL (by omega) hb hTb hS kk, fun _ => law_47 hL (by omega) hb hTb hS kk, fun _ => law_48 hL (by omega) hb hTb hS kk, fun _ => law_49 hL (by omega) hb hTb hS kk, fun _ => law_50 hL (by omega) hb hTb hS kk, fun _ => law_51 hL (by omega) hb hTb hS kk, fun _ => law_52 hL (by omega) hb hTb hS kk, fun _ => law_53 hL (by omega) hb hTb hS kk, fun _ => law_54 hL (by omega) hb hTb hS kk, fun _ => law_55 hL (by omega) hb hTb hS kk, fun _ => law_56 hL (by omega) hb hTb hS kk, fun _ => law_57 hL (by omega) hb hTb hS kk, fun _ => law_58 hL (by omega) hb hTb hS kk, fun _ => law_59 hL (by omega) hb hTb hS kk, fun _ => law_60 hL (by omega) hb hTb hS kk, fun _ => law_61 hL (by omega) hb hTb hS kk, fun _ => law_62 hL (by omega) hb hTb hS kk, fun _ => law_63 hL (by omega) hb hTb hS kk, trivial⟩
theorem q_nw_top {μ : q_M} {ci N mc ms rc rs : Nat} {ty : Nat → FieldType} {f : q_F} {L : Nat → q_L} {env : List Value} {K : Nat → q_M → Prop} (hc : q_mkca f ci ty mc ms [] L) (h1 : μ.1.2.2.1 = rc) (h2 : μ.1.2.2.2 = rs) (r1 : 1 + mc ≤ rc) (r2 : N + ms ≤ rs)
    (kk : ∀ μ', q_lay μ' μ.1.2.1 (L μ.1.2.1) → μ'.1.2.1 = μ.1.2.1 + (L μ.1.2.1).length → q_same μ' μ μ.1.2.1 → μ'.1.2.2.1 = rc - 1 - mc → μ'.1.2.2.2 = rs - N - ms → K μ.1.2.1 μ') : q_nw ci N ty 0 mc ms f q_an env μ K := by
  refine ⟨by omega, by omega, rfl, ?_, ?_, ?_⟩
  · show mc ≤ μ.1.2.2.1 - 1
    omega
  · show ms ≤ μ.1.2.2.2 - N
    omega
  · refine ⟨fun r m => r = none ∧ q_lay m μ.1.2.1 (L μ.1.2.1) ∧ m.1.2.1 = μ.1.2.1 + (L μ.1.2.1).length ∧ q_same m (q_al1 μ (.inl ci) N (q_df ty)) μ.1.2.1, ?_, ?_⟩
    · refine hc (q_bud mc ms (q_al1 μ (.inl ci) N (q_df ty))) μ.1.2.1 _ ?_ ?_ rfl rfl rfl fun μ' g1 g2 g3 => ⟨rfl, g1, g2, g3⟩
      · show (if μ.1.2.1 = μ.1.2.1 then some (Sum.inl ci) else _) = _
        rw [if_pos rfl]
      · show (if μ.1.2.1 = μ.1.2.1 then q_df ty else _) = _
        rw [if_pos rfl]
    · intro r m ⟨e1, g1, g2, g3⟩
      refine ⟨e1, kk _ g1 g2 ?_ ?_ ?_⟩
      · intro q hq
        have g := g3 q hq
        have e1 : ¬ q = μ.1.2.1 := by omega
        refine ⟨g.1.trans ?_, g.2.trans ?_⟩
        · show (if q = μ.1.2.1 then some (Sum.inl ci) else μ.1.1 q) = _
          rw [if_neg e1]
        · show (if q = μ.1.2.1 then q_df ty else μ.2 q) = _
          rw [if_neg e1]
      · show μ.1.2.2.1 - 1 - mc = _
        rw [h1]
      · show μ.1.2.2.2 - N - ms = _
        rw [h2]
theorem gG_at {M : Nat → Nat → Value} {q : Nat} {f : Nat → Value} {j : Int} {v : Int32} (h : M q = f) (hv : f j.toNat = .int v) : gG M q j = v.toInt := by
  unfold gG
  rw [h, hv]
theorem gG_f {M : Nat → Nat → Value} {q : Nat} {f : Nat → Value} (h : M q = f) : gG M q = fun j => match f j.toNat with
  | .int v => v.toInt
  | _ => 0 := by
  funext j
  unfold gG
  rw [h]
/-- at first all stands as it should -/
theorem inv_0 {μ : q_M} {B : Nat} (h1 : q_lay μ B (L11 B)) (h2 : q_lay μ (B + 544) (L12 (B + 544))) : Inv μ.1.1 (gR μ.2) (gG μ.2) B := by
  have c := fun k x hx => (h1 k x hx).2
  have d := fun k x hx => (h2 k x hx).2
  refine ⟨⟨B + 370, B + 370, B + 370, B + 398, L11x_of B ▸ ly_of h1, ly_of h2⟩, ?_, ?_, ?_, ?_, ?_, ?_, ?_, trivial⟩
  · intro v w h3 h4 h5 h6
    have e1 : gG μ.2 (B + 544 + 1) (12 * v + w) = 3 := by
      have hq : 12 * v + w < 24 := by omega
      rw [gG_at (v := 3) (d 1 _ rfl) (if_pos (by omega))]
      rfl
    have e2 : gG μ.2 (B + 370 + 14 * v.toNat + 1) w = 3 := by
      have hv : v = 0 ∨ v = 1 := by omega
      rcases hv with rfl | rfl
      · rw [show B + 370 + 14 * (0 : Int).toNat + 1 = B + 371 from rfl, gG_at (v := 3) (c 371 _ rfl) (if_pos (by omega))]
        rfl
      · rw [show B + 370 + 14 * (1 : Int).toNat + 1 = B + 385 from rfl, gG_at (v := 3) (c 385 _ rfl) (if_pos (by omega))]
        rfl
    rw [e1, e2]
    omega
  · intro v h3 h4
    have e1 : gG μ.2 (B + 370 + 14 * v.toNat) 1 = 0 := by
      have hv : v = 0 ∨ v = 1 := by omega
      rcases hv with rfl | rfl
      · rw [show B + 370 + 14 * (0 : Int).toNat = B + 370 from rfl, gG_at (v := 0) (c 370 _ rfl) rfl]
        rfl
      · rw [show B + 370 + 14 * (1 : Int).toNat = B + 384 from rfl, gG_at (v := 0) (c 384 _ rfl) rfl]
        rfl
    have e2 : gG μ.2 (B + 544 + 2) v = 0 := by
      rw [gG_at (v := 0) (d 2 _ rfl) rfl]
      rfl
    refine ⟨by rw [e1, e2], by omega, by omega, fun f h5 h6 => ?_⟩
    omega
  · intro t h3 h4
    have e1 : gG μ.2 (B + 3) t = 0 := by
      rw [gG_at (v := 0) (c 3 _ rfl) rfl]
      rfl
    have e2 : gG μ.2 (B + 544 + 15) t = 0 := by
      rw [gG_at (v := 0) (d 15 _ rfl) rfl]
      rfl
    refine ⟨by rw [e1, e2], by omega, by omega, fun i h5 h6 => ?_⟩
    omega
  · intro i h3 h4
    have e1 : gG μ.2 (B + 15) i = 0 := by
      rw [gG_at (v := 0) (c 15 _ rfl) rfl]
      rfl
    have e2 : gG μ.2 (B + 544 + 76) i = 0 := by
      rw [gG_at (v := 0) (d 76 _ rfl) rfl]
      rfl
    rw [e1, e2]
  · have e1 : gG μ.2 B 18 = 0 := by
      rw [gG_at (q := B) (v := 0) (c 0 _ rfl) rfl]
      rfl
    have e2 : gG μ.2 (B + 544) 93 = 0 := by
      rw [gG_at (q := B + 544) (v := 0) (d 0 _ rfl) rfl]
      rfl
    show zI _ = zI _
    rw [e1, e2]
  · intro s h3 h4
    refine Or.inl ⟨?_, ?_⟩
    · have hv : s = 0 ∨ s = 1 ∨ s = 2 ∨ s = 3 := by omega
      rcases hv with rfl | rfl | rfl | rfl
      · rw [show B + 518 + 2 * (0 : Int).toNat = B + 518 from rfl, gG_at (v := 0) (c 518 _ rfl) rfl]
        rfl
      · rw [show B + 518 + 2 * (1 : Int).toNat = B + 520 from rfl, gG_at (v := 0) (c 520 _ rfl) rfl]
        rfl
      · rw [show B + 518 + 2 * (2 : Int).toNat = B + 522 from rfl, gG_at (v := 0) (c 522 _ rfl) rfl]
        rfl
      · rw [show B + 518 + 2 * (3 : Int).toNat = B + 524 from rfl, gG_at (v := 0) (c 524 _ rfl) rfl]
        rfl
    · rw [gG_at (v := -1) (d 95 _ rfl) (if_pos (by omega))]
      rfl
  · intro f h3 h4
    have e1 : gG μ.2 (B + 17) f = -1 := by
      rw [gG_at (v := -1) (c 17 _ rfl) (if_pos (by omega))]
      rfl
    have e2 : gG μ.2 (B + 544 + 93) f = -1 := by
      rw [gG_at (v := -1) (d 93 _ rfl) (if_pos (by omega))]
      rfl
    refine ⟨by rw [e1, e2], by omega, by omega, fun h => ?_⟩
    omega
theorem q_sem1 {b L nx : Nat} {xs : Nat → Int32} (hL : L ≤ 4096) (hb : b < nx) : sLAW_ [.ref b] (q_m0 b L nx xs) (fun _ _ => False) (fun r _ => r = some (.int 1)) := by
  unfold sLAW_
  rw [k_sq, k_sdec]
  refine q_nw_top (rc := 600000) (rs := 7302249) k11 rfl rfl (by decide) (by decide) fun μ1 g1 g2 g3 g4 g5 => ⟨rfl, ?_⟩
  rw [k_sk, k_sq, k_sdec]
  refine q_nw_top (rc := 599456) (rs := 7095138) k12 g4 g5 (by decide) (by decide) fun μ2 l1 l2 l3 l4 l5 => ⟨rfl, ?_⟩
  have g1 : q_lay μ1 nx (L11 nx) := g1
  have g2 : μ1.1.2.1 = nx + 544 := by
    have := g2
    rw [lL11] at this
    exact this
  rw [g2] at l1 l2 l3 ⊢
  have hB : q_lay μ2 nx (L11 nx) := q_lay_same g1 l3 (by rw [lL11]; exact Nat.le_refl _)
  have hI := inv_0 hB l1
  have hb2 := l3 b (by omega)
  have hb1 := g3 b hb
  have hm : μ2 = st μ2.1.1 μ2.1.2.1 μ2.1.2.2.1 μ2.1.2.2.2 (gR μ2.2) (gG μ2.2) := by
    refine Prod.ext rfl ?_
    exact (mm_of μ2.2).symm
  have hTb : μ2.1.1 b = some (.inr (.inr L)) := by
    rw [hb2.1, hb1.1]
    show (if b = b then some (Sum.inr (Sum.inr L)) else none) = _
    rw [if_pos rfl]
  have hS : LawS b nx μ2.1.2.1 μ2.1.2.2.1 μ2.1.2.2.2 μ2.1.1 xs μ2 := by
    refine ⟨gR μ2.2, gG μ2.2, hm, hI, fun j => ?_⟩
    rw [← hm, hb2.2, hb1.2]
    rfl
  refine ⟨rfl, L + 8 + 1, ?_⟩
  refine law_loop (L := L) (nx := μ2.1.2.1) (rc := μ2.1.2.2.1) (rs := μ2.1.2.2.2) (T := μ2.1.1) (xs := xs) hL hb hTb (fun _ _ => rfl) (fun v μ => ?_) (L + 8) 0 μ2 (by omega) (by omega) hS
  exact ⟨of_eq_true q_bok1, rfl⟩

end
