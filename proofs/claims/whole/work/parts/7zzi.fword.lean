section
/-! a side with what its holes stand for, as a word -/
def FW (ns cZ eZ cT eT : Int → Int) (S : Int → Int → Prop) : Nat → Int → List Int → Prop
  | 0, _, _ => False
  | k + 1, y, w => (isHo (cZ y) ∧ ∃ x, S (cZ y - 200) x ∧ w = sgL cT x (eT x - x).toNat) ∨ (¬ isHo (cZ y) ∧ ¬ 1000 ≤ cZ y ∧ w = [cZ y]) ∨ (1000 ≤ cZ y ∧ ∃ u : Nat → List Int, w = cZ y :: cat u (ns (cZ y - 1000)).toNat ∧ ∀ i : Nat, (i : Int) < ns (cZ y - 1000) → FW ns cZ eZ cT eT S k (chI eZ y i) (u i))
/-- every hole of the pattern stands for something -/
theorem hl_ex {ga F : Int} {ns I : Int → Int} {na Na La : Int} {c0 e0 u0 s0 r0 ua va : Int → Int} (ta : Tr ga F ns I na Na La c0 e0 u0 s0 r0 ua va) {c e : Int → Int} : ∀ (k : Nat) (p q p' : Int), 0 ≤ p → p < na → e0 p - p ≤ k → p ≤ p' → p' < e0 p → isHo (c0 p') → ∃ x, hlM ns c0 e0 c e k p q (c0 p' - 200) x := by
  intro k
  induction k with
  | zero =>
    intro p q p' p0 p1 hk
    have := ta.2.1 p p0 p1
    omega
  | succ k ih =>
    intro p q p' p0 p1 hk a1 a2 hh
    by_cases hp : isHo (c0 p)
    · have l : ¬ 1000 ≤ c0 p := by unfold isHo at hp; omega
      have := (ta.2.2.2.2.1 p p0 p1 l).2
      have ep : p' = p := by omega
      subst ep
      exact ⟨q, Or.inl ⟨hp, rfl, rfl⟩⟩
    · by_cases l : 1000 ≤ c0 p
      · obtain ⟨F1, cE, cH⟩ := ta.2.2.2.1 p p0 p1 l
        by_cases ep : p' = p
        · subst ep
          exact absurd hh hp
        · obtain ⟨j, j1, j2, j3⟩ := ch_find e0 (show p + 1 ≤ p' by omega) (ns (c0 p - 1000)).toNat (by rw [cE]; exact a2)
          have a := cH j (by omega)
          have ce := (Tr_che ta p0 p1 l j1).2
          have s3 : p' < e0 (chI e0 p j) := j3
          obtain ⟨x, hx⟩ := ih (chI e0 p j) (chI e q j) p' (by omega) a.2.1 (by omega) j2 s3 hh
          exact ⟨x, Or.inr ⟨hp, l, j, by omega, hx⟩⟩
      · have := (ta.2.2.2.2.1 p p0 p1 l).2
        have ep : p' = p := by omega
        subst ep
        exact absurd hh hp
/-- and stands for what the hole's item asks for -/
theorem hl_kind {ga gt F : Int} {ns I : Int → Int} {na Na La nt Nt Lt : Int} {c0 e0 u0 s0 r0 ua va c e u s r ut vt : Int → Int} (ta : Tr ga F ns I na Na La c0 e0 u0 s0 r0 ua va) (tt : Tr gt F ns I nt Nt Lt c e u s r ut vt) : ∀ (k : Nat) (p q h x : Int), 0 ≤ p → p < na → 0 ≤ q → q < nt → okM ns c0 e0 c e k p q → hlM ns c0 e0 c e k p q h x → 0 ≤ x ∧ x < nt ∧ ((isHo (c0 p) ∧ h = c0 p - 200 ∧ x = q) ∨ ∃ p', 0 < p' ∧ p' < na ∧ c0 p' = 200 + h ∧ okc gt (I (5 * (c0 (u0 p') - 1000) + s0 p')) (c x)) := by
  intro k
  induction k with
  | zero => intro p q h x _ _ _ _ o; exact o.elim
  | succ k ih =>
    intro p q h x p0 p1 q0 q1 o hl
    rcases hl with ⟨a1, a2, a3⟩ | ⟨a1, l, i, hi, hx⟩
    · exact ⟨by omega, by omega, Or.inl ⟨a1, a2, a3⟩⟩
    · rcases o with o | ⟨_, o1, o2⟩
      · exact absurd o a1
      · have oi := o2 l i hi
        obtain ⟨F1, cE, cH⟩ := ta.2.2.2.1 p p0 p1 l
        have FT := tt.2.2.2.1 q q0 q1 (by omega)
        rw [← o1] at FT
        have b := cH i hi
        have d := FT.2.2 i hi
        obtain ⟨x0, x1, hz⟩ := ih (chI e0 p i) (chI e q i) h x (by omega) b.2.1 (by omega) d.2.1 oi hx
        refine ⟨x0, x1, Or.inr ?_⟩
        rcases hz with ⟨z1, z2, z3⟩ | z
        · refine ⟨chI e0 p i, by omega, b.2.1, by omega, ?_⟩
          rw [b.2.2.1, b.2.2.2.1, z3]
          exact d.2.2.2.2
        · exact z
theorem FW_ex {gz F : Int} {ns I : Int → Int} {nz Nz Lz : Int} {cZ eZ uZ sZ rZ uz vz : Int → Int} (tz : Tr gz F ns I nz Nz Lz cZ eZ uZ sZ rZ uz vz) {cT eT : Int → Int} {S : Int → Int → Prop} : ∀ (k : Nat) (y : Int), 0 ≤ y → y < nz → eZ y - y ≤ k → (∀ y', y ≤ y' → y' < eZ y → isHo (cZ y') → ∃ x, S (cZ y' - 200) x) → ∃ w, FW ns cZ eZ cT eT S k y w := by
  intro k
  induction k with
  | zero =>
    intro y y0 y1 hk
    have := tz.2.1 y y0 y1
    omega
  | succ k ih =>
    intro y y0 y1 hk hs
    have ey := tz.2.1 y y0 y1
    by_cases hh : isHo (cZ y)
    · obtain ⟨x, hx⟩ := hs y (Int.le_refl _) (by omega) hh
      exact ⟨_, Or.inl ⟨hh, x, hx, rfl⟩⟩
    · by_cases l : 1000 ≤ cZ y
      · obtain ⟨F1, cE, cH⟩ := tz.2.2.2.1 y y0 y1 l
        have all : ∀ i : Nat, ∃ w : List Int, (i : Int) < ns (cZ y - 1000) → FW ns cZ eZ cT eT S k (chI eZ y i) w := fun i => by
          by_cases hi : (i : Int) < ns (cZ y - 1000)
          · have a := cH i hi
            have ce := (Tr_che tz y0 y1 l (show i < (ns (cZ y - 1000)).toNat by omega)).2
            obtain ⟨w, hw⟩ := ih (chI eZ y i) (by omega) a.2.1 (by omega) (fun y' z1 z2 z3 => hs y' (by omega) (by omega) z3)
            exact ⟨w, fun _ => hw⟩
          · exact ⟨[], fun w => absurd w hi⟩
        exact ⟨_, Or.inr (Or.inr ⟨l, fun i => Classical.choose (all i), rfl, fun i hi => Classical.choose_spec (all i) hi⟩)⟩
      · exact ⟨_, Or.inr (Or.inl ⟨hh, l, rfl⟩)⟩
theorem FW_pw {gz gt F : Int} {ns I : Int → Int} {nz Nz Lz nt Nt Lt : Int} {cZ eZ uZ sZ rZ uz vz cT eT uT sT rT ut vt : Int → Int} (tz : Tr gz F ns I nz Nz Lz cZ eZ uZ sZ rZ uz vz) (tt : Tr gt F ns I nt Nt Lt cT eT uT sT rT ut vt) (n0 : ∀ f, 0 ≤ f → f < F → 0 ≤ ns f) {S : Int → Int → Prop} (sb : ∀ h x, S h x → 0 ≤ x ∧ x < nt) (lf : ∀ y, 0 ≤ y → y < nz → ¬ 1000 ≤ cZ y → isLf (cZ y)) (kk : ∀ y, 0 < y → y < nz → isHo (cZ y) → ∀ x, S (cZ y - 200) x → okc gt (I (5 * (cZ (uZ y) - 1000) + sZ y)) (cT x)) : ∀ (k : Nat) (y it : Int) (w : List Int), 0 ≤ y → y < nz → okc gz it (cZ y) ∨ isHo (cZ y) → (isHo (cZ y) → ∀ x, S (cZ y - 200) x → okc gt it (cT x)) → FW ns cZ eZ cT eT S k y w → PW gt F ns I (k + 202) it w := by
  have nt201 := tt.1.2.1
  intro k
  induction k with
  | zero => intro y it w _ _ _ _ f; exact f.elim
  | succ k ih =>
    intro y it w y0 y1 ok hk f
    rcases f with ⟨hh, x, hx, hw⟩ | ⟨hh, l, hw⟩ | ⟨l, u, hw, hu⟩
    · subst hw
      obtain ⟨x0, x1⟩ := sb _ _ hx
      have ex := tt.2.1 x x0 x1
      exact PW_mono (by omega) (PW_sg tt n0 (eT x - x).toNat x it x0 x1 (by omega) (hk hh x hx))
    · subst hw
      have ll := lf y y0 y1 l
      have o := ok.resolve_right hh
      unfold isLf at ll
      unfold isHo at hh
      refine ⟨cZ y, ?_, Or.inl ⟨l, by omega, rfl⟩⟩
      unfold okc at o ⊢
      omega
    · subst hw
      obtain ⟨F1, cE, cH⟩ := tz.2.2.2.1 y y0 y1 l
      have nh : ¬ isHo (cZ y) := by unfold isHo; omega
      have o := ok.resolve_right nh
      refine ⟨cZ y, ?_, Or.inr ⟨l, F1, u, rfl, fun i hi => ?_⟩⟩
      · unfold okc at o ⊢
        omega
      · have a := cH i hi
        exact ih (chI eZ y i) _ (u i) (by omega) a.2.1 (Or.inl a.2.2.2.2) (fun h x hx => by
          have := kk (chI eZ y i) (by omega) a.2.1 h x hx
          rw [a.2.2.1, a.2.2.2.1] at this
          exact this) (hu i hi)
/-- a tree with what was turned in it -/
def TW (Fit : Int → Prop) (Fl : Int → List Int → Prop) (ns cT eT : Int → Int) : Nat → Int → List Int → Int → Prop
  | 0, _, _, _ => False
  | k + 1, x, w, d => (Fit x ∧ Fl x w ∧ d = 1) ∨ (¬ Fit x ∧ ¬ 1000 ≤ cT x ∧ w = [cT x] ∧ d = 0) ∨ (¬ Fit x ∧ 1000 ≤ cT x ∧ ∃ (u : Nat → List Int) (du : Nat → Int), w = cT x :: cat u (ns (cT x - 1000)).toNat ∧ d = csum du (ns (cT x - 1000)).toNat ∧ ∀ i : Nat, (i : Int) < ns (cT x - 1000) → TW Fit Fl ns cT eT k (chI eT x i) (u i) (du i))
theorem TW_ex {gz F : Int} {ns I : Int → Int} {nz Nz Lz : Int} {cZ eZ uZ sZ rZ uz vz : Int → Int} (tz : Tr gz F ns I nz Nz Lz cZ eZ uZ sZ rZ uz vz) {Fit : Int → Prop} {Fl : Int → List Int → Prop} (fe : ∀ x, 0 ≤ x → x < nz → Fit x → ∃ w, Fl x w) : ∀ (k : Nat) (y : Int), 0 ≤ y → y < nz → eZ y - y ≤ k → ∃ w d, TW Fit Fl ns cZ eZ k y w d := by
  intro k
  induction k with
  | zero =>
    intro y y0 y1 hk
    have := tz.2.1 y y0 y1
    omega
  | succ k ih =>
    intro y y0 y1 hk
    have ey := tz.2.1 y y0 y1
    by_cases hf : Fit y
    · obtain ⟨w, hw⟩ := fe y y0 y1 hf
      exact ⟨w, 1, Or.inl ⟨hf, hw, rfl⟩⟩
    · by_cases l : 1000 ≤ cZ y
      · obtain ⟨F1, cE, cH⟩ := tz.2.2.2.1 y y0 y1 l
        have all : ∀ i : Nat, ∃ wd : List Int × Int, (i : Int) < ns (cZ y - 1000) → TW Fit Fl ns cZ eZ k (chI eZ y i) wd.1 wd.2 := fun i => by
          by_cases hi : (i : Int) < ns (cZ y - 1000)
          · have a := cH i hi
            have ce := (Tr_che tz y0 y1 l (show i < (ns (cZ y - 1000)).toNat by omega)).2
            obtain ⟨w, d, hw⟩ := ih (chI eZ y i) (by omega) a.2.1 (by omega)
            exact ⟨(w, d), fun _ => hw⟩
          · exact ⟨([], 0), fun w => absurd w hi⟩
        exact ⟨_, _, Or.inr (Or.inr ⟨hf, l, fun i => (Classical.choose (all i)).1, fun i => (Classical.choose (all i)).2, rfl, rfl, fun i hi => Classical.choose_spec (all i) hi⟩)⟩
      · exact ⟨_, _, Or.inr (Or.inl ⟨hf, l, rfl, rfl⟩)⟩
theorem TW_pw {gz F : Int} {ns I : Int → Int} {nz Nz Lz : Int} {cZ eZ uZ sZ rZ uz vz : Int → Int} (tz : Tr gz F ns I nz Nz Lz cZ eZ uZ sZ rZ uz vz) {Fit : Int → Prop} {Fl : Int → List Int → Prop} {j : Nat} (fp : ∀ x it w, 0 ≤ x → x < nz → okc gz it (cZ x) → Fit x → Fl x w → PW gz F ns I j it w) : ∀ (k : Nat) (y it : Int) (w : List Int) (d : Int), 0 ≤ y → y < nz → okc gz it (cZ y) → TW Fit Fl ns cZ eZ k y w d → PW gz F ns I (k + j) it w ∧ 0 ≤ d ∧ d ≤ eZ y - y := by
  intro k
  induction k with
  | zero => intro y it w d _ _ _ f; exact f.elim
  | succ k ih =>
    intro y it w d y0 y1 ok f
    have ey := tz.2.1 y y0 y1
    rcases f with ⟨hf, hw, hd⟩ | ⟨hf, l, hw, hd⟩ | ⟨hf, l, u, du, hw, hd, hu⟩
    · exact ⟨PW_mono (by omega) (fp y it w y0 y1 ok hf hw), by omega, by omega⟩
    · subst hw
      have c20 := (tz.2.2.2.2.1 y y0 y1 l).1
      refine ⟨?_, by omega, by omega⟩
      rw [show k + 1 + j = k + j + 1 by omega]
      exact ⟨cZ y, ok, Or.inl ⟨l, c20, rfl⟩⟩
    · subst hw
      obtain ⟨F1, cE, cH⟩ := tz.2.2.2.1 y y0 y1 l
      have kid : ∀ i : Nat, (i : Int) < ns (cZ y - 1000) → PW gz F ns I (k + j) (I (5 * (cZ y - 1000) + i)) (u i) ∧ 0 ≤ du i ∧ du i ≤ eZ (chI eZ y i) - chI eZ y i := fun i hi => by
        have a := cH i hi
        exact ih (chI eZ y i) _ _ _ (by omega) a.2.1 a.2.2.2.2 (hu i hi)
      have sum : ∀ m : Nat, (m : Int) ≤ ns (cZ y - 1000) → 0 ≤ csum du m ∧ csum du m ≤ chI eZ y m - (y + 1) := by
        intro m
        induction m with
        | zero =>
          intro _
          have z : chI eZ y 0 = y + 1 := rfl
          rw [z]
          exact ⟨Int.le_refl _, by show (0 : Int) ≤ _; omega⟩
        | succ m ihm =>
          intro hm
          have a := ihm (by omega)
          have b := kid m (by omega)
          have cs : chI eZ y (m + 1) = eZ (chI eZ y m) := rfl
          rw [csum_s, cs]
          omega
      refine ⟨?_, ?_⟩
      · rw [show k + 1 + j = k + j + 1 by omega]
        exact ⟨cZ y, ok, Or.inr ⟨l, F1, u, rfl, fun i hi => (kid i hi).1⟩⟩
      · by_cases z : 0 ≤ ns (cZ y - 1000)
        · have := sum (ns (cZ y - 1000)).toNat (by omega)
          rw [cE] at this
          omega
        · rw [hd, show (ns (cZ y - 1000)).toNat = 0 by omega]
          have z0 : csum du 0 = 0 := rfl
          omega
end
