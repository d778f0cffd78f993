section
/-! what stands between the class's numbers and the reference's, in eight parts; B: the class's first cell, B + 544 the reference's -/
/-- how many of the first n items are no words -/
def nsl (c : Int → Int) : Nat → Int
  | 0 => 0
  | n + 1 => nsl c n + if 0 ≤ c n ∧ c n ≤ 11 then 0 else 1
def isIt (c : Int) : Prop := (((0 ≤ c ∧ c ≤ 11) ∨ c = 20) ∨ c = 40) ∨ (60 ≤ c ∧ c ≤ 65)
/-- form f of telling v, by the arrays of the class and of the reference: its sort -/
def Fso (S s : Int → Int) (v f : Int) : Prop := S (14 * v + f) = s f ∧ 0 ≤ s f ∧ s f ≤ 5
/-- its items -/
def Fit (n M c C s : Int → Int) (v f : Int) : Prop := (M (14 * v + f) = n f ∧ 1 ≤ n f ∧ n f ≤ 5) ∧ (∀ k : Int, 0 ≤ k → k < n f → C (5 * (14 * v + f) + k) = c (5 * f + k) ∧ isIt (c (5 * f + k))) ∧ (∀ k : Int, n f ≤ k → k < 5 → C (5 * (14 * v + f) + k) = -1) ∧ (n f = 1 → 60 ≤ c (5 * f) → s f < c (5 * f) - 60)
/-- its slots -/
def Fsl (n c N I : Int → Int) (f : Int) : Prop := N f = nsl (fun k => c (5 * f + k)) (n f).toNat ∧ ∀ k : Int, 0 ≤ k → k < n f → ¬ (0 ≤ c (5 * f + k) ∧ c (5 * f + k) ≤ 11) → I (5 * f + nsl (fun k => c (5 * f + k)) k.toNat) = c (5 * f + k)
/-- its gaps; and how its slots name -/
def Fga (n g H : Int → Int) (v f : Int) : Prop := (∀ k : Int, 0 ≤ k → k < n f → H (5 * (14 * v + f) + k) = g (5 * f + k) ∧ 0 ≤ g (5 * f + k) ∧ g (5 * f + k) ≤ 2) ∧ g (5 * f + n f - 1) = 1
def Fho (n g H : Int → Int) (v f : Int) : Prop := ∀ k : Int, 0 ≤ k → k < n f → H (5 * (14 * v + f) + k) = g (5 * f + k) ∧ 0 ≤ g (5 * f + k) ∧ g (5 * f + k) ≤ 2
def Fac (a A : Int → Int) (v f : Int) : Prop := A (14 * v + f) = a f ∧ 0 ≤ a f ∧ a f ≤ 7
def Fsc (a A : Int → Int) (v f : Int) : Prop := A (14 * v + f) = a f ∧ 0 ≤ a f ∧ a f ≤ 1
/-- its rules -/
def Fru (N m M s S w W : Int → Int) (v f : Int) : Prop := (M (14 * v + f) = m f ∧ 0 ≤ m f ∧ m f ≤ 6) ∧ ∀ k : Int, 0 ≤ k → k < m f → S (6 * (14 * v + f) + k) = s (6 * f + k) ∧ -1 ≤ s (6 * f + k) ∧ s (6 * f + k) < N f ∧ W (6 * (14 * v + f) + k) = w (6 * f + k) ∧ ((0 ≤ w (6 * f + k) ∧ w (6 * f + k) ≤ 5) ∨ (10 ≤ w (6 * f + k) ∧ w (6 * f + k) < 10 + N f))
/-- form f of telling v, whose class object is at t -/
def FR (G : Nat → Int → Int) (B t : Nat) (v f : Int) : Prop := Fso (G (B + 544 + 3)) (G (t + 2)) v f ∧ Fit (G (t + 3)) (G (B + 544 + 4)) (G (t + 4)) (G (B + 544 + 5)) (G (t + 2)) v f ∧ Fsl (G (t + 3)) (G (t + 4)) (G (t + 5)) (G (t + 6)) f ∧ Fga (G (t + 3)) (G (t + 7)) (G (B + 544 + 6)) v f ∧ Fho (G (t + 3)) (G (t + 8)) (G (B + 544 + 7)) v f ∧
  Fac (G (t + 9)) (G (B + 544 + 12)) v f ∧ Fsc (G (t + 10)) (G (B + 544 + 8)) v f ∧ Fru (G (t + 5)) (G (t + 11)) (G (B + 544 + 9)) (G (t + 12)) (G (B + 544 + 10)) (G (t + 13)) (G (B + 544 + 11)) v f
def ITe (G : Nat → Int → Int) (B t : Nat) (v : Int) : Prop := G (B + 544 + 2) v = G t 1 ∧ 0 ≤ G t 1 ∧ G t 1 ≤ 14 ∧ ∀ f : Int, 0 ≤ f → f < G t 1 → FR G B t v f
def IFm (G : Nat → Int → Int) (B : Nat) : Prop := ∀ v : Int, 0 ≤ v → v ≤ 1 → ITe G B (B + 370 + 14 * v.toNat) v
def ILn (G : Nat → Int → Int) (B : Nat) : Prop := ∀ v w : Int, 0 ≤ v → v ≤ 1 → 0 ≤ w → w ≤ 11 → G (B + 544 + 1) (12 * v + w) = G (B + 370 + 14 * v.toNat + 1) w ∧ 1 ≤ G (B + 370 + 14 * v.toNat + 1) w ∧ G (B + 370 + 14 * v.toNat + 1) w ≤ 9
/-- texts -/
def ITx (G : Nat → Int → Int) (B : Nat) : Prop := ∀ t : Int, 0 ≤ t → t ≤ 7 → G (B + 544 + 15) t = G (B + 3) t ∧ 0 ≤ G (B + 3) t ∧ G (B + 3) t ≤ 16 ∧ ∀ i : Int, 0 ≤ i → i < G (B + 3) t → G (B + 544 + 14) (16 * t + i) = G (B + 2) (16 * t + i) ∧ isCd (G (B + 2) (16 * t + i))
/-- worlds -/
def IWo (G : Nat → Int → Int) (B : Nat) : Prop := ∀ i : Int, 0 ≤ i → i < 64 → zI (G (B + 544 + 76) i) = zI (G (B + 15) i)
/-- the latest value -/
def ILa (G : Nat → Int → Int) (B : Nat) : Prop := zI (G (B + 544) 93) = zI (G B 18)
/-- sheets -/
def ISh (G : Nat → Int → Int) (B : Nat) : Prop := ∀ s : Int, 0 ≤ s → s ≤ 3 →
  ((G (B + 518 + 2 * s.toNat) 0 = 0 ∧ G (B + 544 + 95) s = -1) ∨ (G (B + 518 + 2 * s.toNat) 0 = 1 ∧ G (B + 544 + 95) s = G (B + 518 + 2 * s.toNat) 1 ∧ 0 ≤ G (B + 518 + 2 * s.toNat) 1 ∧ G (B + 518 + 2 * s.toNat) 1 ≤ 3 ∧ G (B + 544 + 96) s = G (B + 518 + 2 * s.toNat) 2 ∧ 0 ≤ G (B + 518 + 2 * s.toNat) 2 ∧ G (B + 518 + 2 * s.toNat) 2 ≤ 40 ∧
    ∀ i : Int, 0 ≤ i → i < G (B + 518 + 2 * s.toNat) 2 → G (B + 544 + 97) (40 * s + i) = G (B + 518 + 2 * s.toNat + 1) i ∧ -2147483648 ≤ G (B + 518 + 2 * s.toNat + 1) i ∧ G (B + 518 + 2 * s.toNat + 1) i < 2147483648))
/-- maps -/
def IMp (G : Nat → Int → Int) (B : Nat) : Prop := ∀ f : Int, 0 ≤ f → f ≤ 13 → G (B + 544 + 93) f = G (B + 17) f ∧ -1 ≤ G (B + 17) f ∧ G (B + 17) f ≤ 13 ∧ (0 ≤ G (B + 17) f → f < G (B + 370) 1 ∧ G (B + 17) f < G (B + 384) 1 ∧
  ∀ i : Int, 0 ≤ i → i < G (B + 384 + 5) (G (B + 17) f) → G (B + 544 + 94) (5 * f + i) = G (B + 18) (5 * f + i) ∧ 0 ≤ G (B + 18) (5 * f + i) ∧ G (B + 18) (5 * f + i) < G (B + 370 + 5) f ∧
    (G (B + 370 + 6) (5 * f + G (B + 18) (5 * f + i)) = G (B + 384 + 6) (5 * G (B + 17) f + i) ∨ (60 ≤ G (B + 370 + 6) (5 * f + G (B + 18) (5 * f + i)) ∧ 60 ≤ G (B + 384 + 6) (5 * G (B + 17) f + i))) ∧ ∀ i' : Int, 0 ≤ i' → i' < i → ¬ G (B + 18) (5 * f + i') = G (B + 18) (5 * f + i))
/-- the cells and the references in them -/
def Sta (T : Nat → Option q_T) (R : Nat → Nat → Option Value) (B : Nat) : Prop := ∃ t1 t2 t3 t4 : Nat, Ly T R B (L11x B t1 t2 t3 t4) ∧ Ly T R (B + 544) (L12 (B + 544))
def Inv (T : Nat → Option q_T) (R : Nat → Nat → Option Value) (G : Nat → Int → Int) (B : Nat) : Prop := Sta T R B ∧ ILn G B ∧ IFm G B ∧ ITx G B ∧ IWo G B ∧ ILa G B ∧ ISh G B ∧ IMp G B ∧ IRe G B
/-- below B (the script) nothing changes -/
def Lo (B : Nat) (R R' : Nat → Nat → Option Value) (G G' : Nat → Int → Int) : Prop := ∀ a : Nat, a < B → R' a = R a ∧ G' a = G a
def Mid (B : Nat) (T : Nat → Option q_T) (nx : Nat) (R : Nat → Nat → Option Value) (G : Nat → Int → Int) (r : Option Value) (μ : q_M) : Prop := (∃ z, r = some (.int z)) ∧ ∃ R' G', μ = st T nx 0 0 R' G' ∧ Lo B R R' G G'
def Fin0 (B : Nat) (T : Nat → Option q_T) (nx : Nat) (R : Nat → Nat → Option Value) (G : Nat → Int → Int) (r r2 : Option Value) (μ : q_M) : Prop := r2 = r ∧ (∃ z, r = some (.int z)) ∧ ∃ R' G', μ = st T nx 0 0 R' G' ∧ Lo B R R' G G' ∧ Inv T R' G' B
/-- a call of the class and the same call of the reference: like answers, and all stands as it should -/
def OpOK (fC fM : q_F) (vs : List Value) : Prop := ∀ (T : Nat → Option q_T) (nx B : Nat) (R : Nat → Nat → Option Value) (G : Nat → Int → Int), Inv T R G B →
  fC (.ref B :: vs) (st T nx 0 0 R G) (fun r μ1 => Mid B T nx R G r μ1 ∧ fM (.ref (B + 544) :: vs) (q_bud 0 0 μ1) (fun r2 μ2 => Fin0 B T nx R G r r2 μ2))
theorem lo_refl (B : Nat) (R : Nat → Nat → Option Value) (G : Nat → Int → Int) : Lo B R R G G := fun _ _ => ⟨rfl, rfl⟩
theorem mid_mk {B nx : Nat} {T : Nat → Option q_T} {R R' : Nat → Nat → Option Value} {G G' : Nat → Int → Int} {a : Int32} (h : Lo B R R' G G') : Mid B T nx R G (some (.int a)) (st T nx 0 0 R' G') := ⟨⟨_, rfl⟩, R', G', rfl, h⟩
theorem mid_0 {B nx : Nat} {T : Nat → Option q_T} {R : Nat → Nat → Option Value} {G : Nat → Int → Int} {a : Int32} : Mid B T nx R G (some (.int a)) (st T nx 0 0 R G) = True := eq_true ⟨⟨_, rfl⟩, R, G, rfl, lo_refl B R G⟩
theorem fin_mk {B nx : Nat} {T : Nat → Option q_T} {R R' : Nat → Nat → Option Value} {G G' : Nat → Int → Int} {a b : Int} (e : b = a) (h : Lo B R R' G G') (hI : Inv T R' G' B) : Fin0 B T nx R G (some (.int (zI a))) (some (.int (zI b))) (st T nx 0 0 R' G') := ⟨by rw [e], ⟨_, rfl⟩, R', G', rfl, h, hI⟩
theorem fin_z {B nx : Nat} {T : Nat → Option q_T} {R R' : Nat → Nat → Option Value} {G G' : Nat → Int → Int} {a b : Int} (e : zI b = zI a) (h : Lo B R R' G G') (hI : Inv T R' G' B) : Fin0 B T nx R G (some (.int (zI a))) (some (.int (zI b))) (st T nx 0 0 R' G') := ⟨by rw [e], ⟨_, rfl⟩, R', G', rfl, h, hI⟩
/-- nothing changed -/
theorem fin_0 {B nx : Nat} {T : Nat → Option q_T} {R : Nat → Nat → Option Value} {G : Nat → Int → Int} {a : Int} (hI : Inv T R G B) : Fin0 B T nx R G (some (.int (zI a))) (some (.int (zI a))) (st T nx 0 0 R G) = True := eq_true (fin_mk rfl (lo_refl B R G) hI)
/-- one number of a row written -/
def fu (g : Int → Int) (j v : Int) : Int → Int := fun j' => if j' = j then v else g j'
theorem gs_eq (G : Nat → Int → Int) (a : Nat) (j v : Int) : gs G a j v a = fu (G a) j v := funext fun j' => gs_at G a j v j'
theorem fu_eq (g : Int → Int) (j v : Int) : fu g j v j = v := if_pos rfl
theorem fu_ne {g : Int → Int} {j v j' : Int} (h : ¬ j' = j) : fu g j v j' = g j' := if_neg h
theorem fu_at (g : Int → Int) (j v j' : Int) : fu g j v j' = if j' = j then v else g j' := rfl
/-- outside of these addresses all is as it was -/
def Off (l : List Nat) (G G' : Nat → Int → Int) : Prop := ∀ a : Nat, a ∉ l → G' a = G a
theorem off_refl (l : List Nat) (G : Nat → Int → Int) : Off l G G := fun _ _ => rfl
theorem off_gs {l : List Nat} {G G' : Nat → Int → Int} {a : Nat} {j v : Int} (h : Off l G G') (ha : a ∈ l) : Off l G (gs G' a j v) := by
  intro b hb
  have hne : ¬ b = a := fun e => hb (by rw [e]; exact ha)
  rw [gs_ne hne, h b hb]
theorem off_cp {l : List Nat} {G G' : Nat → Int → Int} {a b : Nat} {s d n : Int} (h : Off l G G') (hb : b ∈ l) : Off l G (cpG G' a s b d n) := by
  intro c hc
  have hne : ¬ c = b := fun e => hc (by rw [e]; exact hb)
  rw [cpG_ne hne, h c hc]
theorem off_fl {l : List Nat} {G G' : Nat → Int → Int} {a : Nat} {n v : Int} (h : Off l G G') (ha : a ∈ l) : Off l G (flG G' a n v) := by
  intro c hc
  have hne : ¬ c = a := fun e => hc (by rw [e]; exact ha)
  rw [flG_ne hne, h c hc]
theorem off_lo {l : List Nat} {B : Nat} {R : Nat → Nat → Option Value} {G G' : Nat → Int → Int} (h : Off l G G') (hl : ∀ a ∈ l, B ≤ a) : Lo B R R G G' := fun a ha => ⟨rfl, h a (fun hm => by have := hl a hm; omega)⟩
-- each part reads its own cells alone
theorem FR_congr {G G' : Nat → Int → Int} {B t : Nat} {v f : Int} (h1 : ∀ a, t + 2 ≤ a → a ≤ t + 13 → G' a = G a) (h2 : ∀ a, B + 544 + 3 ≤ a → a ≤ B + 544 + 12 → G' a = G a) (h : FR G B t v f) : FR G' B t v f := by
  unfold FR at h ⊢
  simp only [h1 (t + 2) (by omega) (by omega), h1 (t + 3) (by omega) (by omega), h1 (t + 4) (by omega) (by omega), h1 (t + 5) (by omega) (by omega), h1 (t + 6) (by omega) (by omega), h1 (t + 7) (by omega) (by omega), h1 (t + 8) (by omega) (by omega), h1 (t + 9) (by omega) (by omega), h1 (t + 10) (by omega) (by omega), h1 (t + 11) (by omega) (by omega), h1 (t + 12) (by omega) (by omega), h1 (t + 13) (by omega) (by omega),
    h2 (B + 544 + 3) (by omega) (by omega), h2 (B + 544 + 4) (by omega) (by omega), h2 (B + 544 + 5) (by omega) (by omega), h2 (B + 544 + 6) (by omega) (by omega), h2 (B + 544 + 7) (by omega) (by omega), h2 (B + 544 + 8) (by omega) (by omega), h2 (B + 544 + 9) (by omega) (by omega), h2 (B + 544 + 10) (by omega) (by omega), h2 (B + 544 + 11) (by omega) (by omega), h2 (B + 544 + 12) (by omega) (by omega)]
  exact h
theorem ILn_congr {G G' : Nat → Int → Int} {B : Nat} (h1 : G' (B + 370 + 1) = G (B + 370 + 1)) (h2 : G' (B + 384 + 1) = G (B + 384 + 1)) (h3 : G' (B + 544 + 1) = G (B + 544 + 1)) (h : ILn G B) : ILn G' B := by
  intro v w h4 h5 h6 h7
  have hv : v = 0 ∨ v = 1 := by omega
  have := h v w h4 h5 h6 h7
  rcases hv with rfl | rfl
  · rw [h3, show B + 370 + 14 * (0 : Int).toNat + 1 = B + 370 + 1 from rfl, h1]
    exact this
  · rw [h3, show B + 370 + 14 * (1 : Int).toNat + 1 = B + 384 + 1 from rfl, h2]
    exact this
theorem IFm_congr {G G' : Nat → Int → Int} {B : Nat} (h1 : ∀ a, B + 370 ≤ a → a < B + 398 → ¬ a = B + 370 + 1 → ¬ a = B + 384 + 1 → G' a = G a) (h2 : ∀ a, B + 544 + 2 ≤ a → a ≤ B + 544 + 12 → G' a = G a) (h : IFm G B) : IFm G' B := by
  intro v h3 h4
  have hv : v.toNat = 0 ∨ v.toNat = 1 := by omega
  obtain ⟨g1, g2, g3, g4⟩ := h v h3 h4
  have e1 : G' (B + 370 + 14 * v.toNat) = G (B + 370 + 14 * v.toNat) := h1 _ (by omega) (by omega) (by omega) (by omega)
  have e2 : G' (B + 544 + 2) = G (B + 544 + 2) := h2 _ (by omega) (by omega)
  refine ⟨by rw [e1, e2]; exact g1, by rw [e1]; exact g2, by rw [e1]; exact g3, fun f h5 h6 => ?_⟩
  rw [e1] at h6
  exact FR_congr (fun a q1 q2 => h1 a (by omega) (by omega) (by omega) (by omega)) (fun a q1 q2 => h2 a (by omega) (by omega)) (g4 f h5 h6)
theorem ITx_congr {G G' : Nat → Int → Int} {B : Nat} (h1 : G' (B + 2) = G (B + 2)) (h2 : G' (B + 3) = G (B + 3)) (h3 : G' (B + 544 + 14) = G (B + 544 + 14)) (h4 : G' (B + 544 + 15) = G (B + 544 + 15)) (h : ITx G B) : ITx G' B := by
  unfold ITx at h ⊢
  simp only [h1, h2, h3, h4]
  exact h
theorem IWo_congr {G G' : Nat → Int → Int} {B : Nat} (h1 : G' (B + 15) = G (B + 15)) (h2 : G' (B + 544 + 76) = G (B + 544 + 76)) (h : IWo G B) : IWo G' B := by
  unfold IWo at h ⊢
  simp only [h1, h2]
  exact h
theorem ILa_congr {G G' : Nat → Int → Int} {B : Nat} (h1 : G' B 18 = G B 18) (h2 : G' (B + 544) 93 = G (B + 544) 93) (h : ILa G B) : ILa G' B := by
  unfold ILa at h ⊢
  rw [h1, h2]
  exact h
theorem ISh_congr {G G' : Nat → Int → Int} {B : Nat} (h1 : ∀ a, B + 518 ≤ a → a < B + 526 → G' a = G a) (h2 : ∀ a, B + 544 + 95 ≤ a → a ≤ B + 544 + 97 → G' a = G a) (h : ISh G B) : ISh G' B := by
  intro s h3 h4
  have hs : s.toNat ≤ 3 := by omega
  have := h s h3 h4
  rw [h1 (B + 518 + 2 * s.toNat) (by omega) (by omega), h1 (B + 518 + 2 * s.toNat + 1) (by omega) (by omega), h2 (B + 544 + 95) (by omega) (by omega), h2 (B + 544 + 96) (by omega) (by omega), h2 (B + 544 + 97) (by omega) (by omega)]
  exact this
theorem IMp_congr {G G' : Nat → Int → Int} {B : Nat} (h1 : G' (B + 17) = G (B + 17)) (h2 : G' (B + 18) = G (B + 18)) (h3 : G' (B + 544 + 93) = G (B + 544 + 93)) (h4 : G' (B + 544 + 94) = G (B + 544 + 94)) (h5 : G' (B + 370) = G (B + 370)) (h6 : G' (B + 384) = G (B + 384)) (h7 : G' (B + 370 + 5) = G (B + 370 + 5)) (h8 : G' (B + 384 + 5) = G (B + 384 + 5)) (h9 : G' (B + 370 + 6) = G (B + 370 + 6)) (h10 : G' (B + 384 + 6) = G (B + 384 + 6)) (h : IMp G B) : IMp G' B := by
  unfold IMp at h ⊢
  simp only [h1, h2, h3, h4, h5, h6, h7, h8, h9, h10]
  exact h
/-- the cells that trees and turns rest on -/
def FRe (B a : Nat) : Prop := (B + 59 ≤ a ∧ a ≤ B + 61) ∨ (B + 170 ≤ a ∧ a ≤ B + 370) ∨ (B + 372 ≤ a ∧ a ≤ B + 376) ∨ (B + 384 ≤ a ∧ a ≤ B + 384) ∨ (B + 386 ≤ a ∧ a ≤ B + 390) ∨ (B + 398 ≤ a ∧ a < B + 518) ∨ (B + 544 + 2 ≤ a ∧ a ≤ B + 544 + 5) ∨ (B + 544 + 16 ≤ a ∧ a ≤ B + 544 + 22) ∨ (B + 544 + 82 ≤ a ∧ a ≤ B + 544 + 84)
theorem IRe_congr {G G' : Nat → Int → Int} {B : Nat} (h1 : ∀ a, FRe B a → G' a = G a) (h2 : G' (B + 544) 103 = G (B + 544) 103) (h : IRe G B) : IRe G' B := by
  refine IRe_gro (fun v q1 q2 => ?_) (fun a q => h1 a (by unfold FRe; omega)) h2 h
  have e : ∀ a, a = tvA B v ∨ a = tvA B v + 5 ∨ a = tvA B v + 6 → G' a = G a := fun a q => h1 a (by unfold FRe; unfold tvA at q; omega)
  rw [e _ (Or.inl rfl), e _ (Or.inr (Or.inl rfl)), e _ (Or.inr (Or.inr rfl))]
  exact ⟨Int.le_refl _, fun f _ _ => ⟨rfl, fun k _ _ => rfl⟩⟩
/-- of a part that is not touched -/
theorem Inv_off {T : Nat → Option q_T} {R : Nat → Nat → Option Value} {G G' : Nat → Int → Int} {B : Nat} (hI : Inv T R G B)
    (hLn : (∀ a, a = B + 371 ∨ a = B + 385 ∨ a = B + 544 + 1 → G' a = G a) ∨ ILn G' B)
    (hFm : (∀ a, (B + 370 ≤ a ∧ a < B + 398 ∧ ¬ a = B + 371 ∧ ¬ a = B + 385) ∨ (B + 544 + 2 ≤ a ∧ a ≤ B + 544 + 12) → G' a = G a) ∨ IFm G' B)
    (hTx : (∀ a, a = B + 2 ∨ a = B + 3 ∨ a = B + 544 + 14 ∨ a = B + 544 + 15 → G' a = G a) ∨ ITx G' B)
    (hWo : (∀ a, a = B + 15 ∨ a = B + 544 + 76 → G' a = G a) ∨ IWo G' B)
    (hLa : (G' B 18 = G B 18 ∧ G' (B + 544) 93 = G (B + 544) 93) ∨ ILa G' B)
    (hSh : (∀ a, (B + 518 ≤ a ∧ a < B + 526) ∨ (B + 544 + 95 ≤ a ∧ a ≤ B + 544 + 97) → G' a = G a) ∨ ISh G' B)
    (hMp : (∀ a, a = B + 17 ∨ a = B + 18 ∨ a = B + 544 + 93 ∨ a = B + 544 + 94 ∨ a = B + 370 ∨ a = B + 384 ∨ a = B + 375 ∨ a = B + 389 ∨ a = B + 376 ∨ a = B + 390 → G' a = G a) ∨ IMp G' B)
    (hRe : ((∀ a, FRe B a → G' a = G a) ∧ G' (B + 544) 103 = G (B + 544) 103) ∨ IRe G' B) : Inv T R G' B := by
  obtain ⟨i1, i2, i3, i4, i5, i6, i7, i8, i9⟩ := hI
  refine ⟨i1, ?_, ?_, ?_, ?_, ?_, ?_, ?_, ?_⟩
  · exact hLn.elim (fun h => ILn_congr (h _ (by omega)) (h _ (by omega)) (h _ (by omega)) i2) id
  · exact hFm.elim (fun h => IFm_congr (fun a q1 q2 q3 q4 => h a (by omega)) (fun a q1 q2 => h a (by omega)) i3) id
  · exact hTx.elim (fun h => ITx_congr (h _ (by omega)) (h _ (by omega)) (h _ (by omega)) (h _ (by omega)) i4) id
  · exact hWo.elim (fun h => IWo_congr (h _ (by omega)) (h _ (by omega)) i5) id
  · exact hLa.elim (fun h => ILa_congr h.1 h.2 i6) id
  · exact hSh.elim (fun h => ISh_congr (fun a q1 q2 => h a (by omega)) (fun a q1 q2 => h a (by omega)) i7) id
  · exact hMp.elim (fun h => IMp_congr (h _ (by omega)) (h _ (by omega)) (h _ (by omega)) (h _ (by omega)) (h _ (by omega)) (h _ (by omega)) (h _ (by omega)) (h _ (by omega)) (h _ (by omega)) (h _ (by omega)) i8) id
  · exact hRe.elim (fun h => IRe_congr h.1 h.2 i9) id
theorem off_wr {l : List Nat} {G G' : Nat → Int → Int} {a : Nat} {lo hi : Int} {f : Int → Int} (h : Off l G G') (ha : a ∈ l) : Off l G (wr G' a lo hi f) := by
  intro c hc
  have hne : ¬ c = a := fun e => hc (by rw [e]; exact ha)
  rw [wr_ne hne, h c hc]
/-- what a call has written lies in l -/
theorem inv_by {l : List Nat} {T : Nat → Option q_T} {R : Nat → Nat → Option Value} {G G' : Nat → Int → Int} {B : Nat} (hI : Inv T R G B) (hoff : Off l G G')
    (hLn : (∀ a, a = B + 371 ∨ a = B + 385 ∨ a = B + 544 + 1 → a ∉ l) ∨ ILn G' B)
    (hFm : (∀ a, (B + 370 ≤ a ∧ a < B + 398 ∧ ¬ a = B + 371 ∧ ¬ a = B + 385) ∨ (B + 544 + 2 ≤ a ∧ a ≤ B + 544 + 12) → a ∉ l) ∨ IFm G' B)
    (hTx : (∀ a, a = B + 2 ∨ a = B + 3 ∨ a = B + 544 + 14 ∨ a = B + 544 + 15 → a ∉ l) ∨ ITx G' B)
    (hWo : (∀ a, a = B + 15 ∨ a = B + 544 + 76 → a ∉ l) ∨ IWo G' B)
    (hLa : (B ∉ l ∧ B + 544 ∉ l) ∨ ILa G' B)
    (hSh : (∀ a, (B + 518 ≤ a ∧ a < B + 526) ∨ (B + 544 + 95 ≤ a ∧ a ≤ B + 544 + 97) → a ∉ l) ∨ ISh G' B)
    (hMp : (∀ a, a = B + 17 ∨ a = B + 18 ∨ a = B + 544 + 93 ∨ a = B + 544 + 94 ∨ a = B + 370 ∨ a = B + 384 ∨ a = B + 375 ∨ a = B + 389 ∨ a = B + 376 ∨ a = B + 390 → a ∉ l) ∨ IMp G' B)
    (hRe : ((∀ a, FRe B a → a ∉ l) ∧ B + 544 ∉ l) ∨ IRe G' B) : Inv T R G' B :=
  Inv_off hI (hLn.elim (fun h => Or.inl fun a ha => hoff a (h a ha)) Or.inr) (hFm.elim (fun h => Or.inl fun a ha => hoff a (h a ha)) Or.inr) (hTx.elim (fun h => Or.inl fun a ha => hoff a (h a ha)) Or.inr) (hWo.elim (fun h => Or.inl fun a ha => hoff a (h a ha)) Or.inr)
    (hLa.elim (fun h => Or.inl ⟨by rw [hoff _ h.1], by rw [hoff _ h.2]⟩) Or.inr) (hSh.elim (fun h => Or.inl fun a ha => hoff a (h a ha)) Or.inr) (hMp.elim (fun h => Or.inl fun a ha => hoff a (h a ha)) Or.inr) (hRe.elim (fun h => Or.inl ⟨fun a ha => hoff a (h.1 a ha), by rw [hoff _ h.2]⟩) Or.inr)
/-- what comes after a call is left untold while the call is walked -/
theorem op_gen {f : q_F} {vs : List Value} {μ : q_M} {K0 : Option Value → q_M → Prop} (h : ∀ K : Option Value → q_M → Prop, (∀ r m, K0 r m → K r m) → f vs μ K) : f vs μ K0 := h K0 fun _ _ q => q
end
