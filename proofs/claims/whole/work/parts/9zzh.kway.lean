section
/-! kept: a turn gone one way -/
theorem trW {G0 : Nat → Int → Int} {B : Nat} {v : Int} {w : List Int} (hF : IFm G0 B) (kv : 0 ≤ v ∧ v ≤ 1) (g : GW1 G0 B v w) : Tr 1 (G0 (tvA B v) 1) (G0 (tvA B v + 5)) (G0 (tvA B v + 6)) w.length (nb (wf w) w.length) ((w.length : Int) - nb (wf w) w.length) (wf w) (eE (G0 (tvA B v + 5)) (wf w)) (uU (G0 (tvA B v + 5)) (wf w)) (sS (G0 (tvA B v + 5)) (wf w)) (fun p => if 1000 ≤ (wf w) p then nb (wf w) p.toNat else p - nb (wf w) p.toNat) (naW (wf w) w.length) (laW (wf w) w.length) := by
  obtain ⟨n5, pr, d0, ok, len1, len201, hcd, lf⟩ := GW_row hF kv g
  have wd := Wd_of pr d0 len201
  have en : ((w.length : Nat) : Int).toNat = w.length := Int.toNat_natCast _
  have hcdI : ∀ p : Int, 0 ≤ p → p < (w.length : Int) → 20 ≤ (wf w) p ∧ (1000 ≤ (wf w) p → (wf w) p - 1000 < (G0 (tvA B v) 1)) := fun p p0 p1 => by
    have := hcd p.toNat (by omega)
    rw [Int.toNat_of_nonneg p0] at this
    exact ⟨this.1, this.2.2⟩
  refine Tr_words wd (fun p p0 p1 l => (hcdI p p0 p1).2 l) (fun p p0 p1 _ => (hcdI p p0 p1).1) (fun p p0 p1 => ?_) ix_fab (by rw [en]) g.2 rfl
  have h := ok p.toNat (by omega) _ (tgI_head pr d0 len201 p0 p1)
  rw [Int.toNat_of_nonneg (by omega)] at h
  exact h
def hlW (G0 : Nat → Int → Int) (B : Nat) (v : Int) (ua : Nat) (w : List Int) (p : Int) : Int → Int → Prop := hlM (G0 (tvA B v + 5)) (G0 (ua + 1)) (G0 (ua + 2)) (wf w) (eE (G0 (tvA B v + 5)) (wf w)) 202 0 p
def fitW (G0 : Nat → Int → Int) (B : Nat) (v : Int) (ua : Nat) (w : List Int) (p : Int) : Prop := 1000 ≤ (wf w) p ∧ G0 (tvA B v + 2) ((wf w) p - 1000) = 0 ∧ okM (G0 (tvA B v + 5)) (G0 (ua + 1)) (G0 (ua + 2)) (wf w) (eE (G0 (tvA B v + 5)) (wf w)) 202 0 p ∧ Con (wf w) (eE (G0 (tvA B v + 5)) (wf w)) (hlW G0 B v ua w p)
def outW (G0 : Nat → Int → Int) (B : Nat) (v : Int) (ua uz : Nat) (w : List Int) (p : Int) (w' : List Int) : Prop := ∃ d, TW (fun x => x = p) (fun x u => FW (G0 (tvA B v + 5)) (G0 (uz + 1)) (G0 (uz + 2)) (wf w) (eE (G0 (tvA B v + 5)) (wf w)) (hlW G0 B v ua w x) 202 0 u) (G0 (tvA B v + 5)) (wf w) (eE (G0 (tvA B v + 5)) (wf w)) 202 0 w' d
/-- what the holes stand for suits the other side -/
def KKW (G0 : Nat → Int → Int) (B : Nat) (v : Int) (ua uz : Nat) : Prop := ∀ (w : List Int) (p : Int), GW1 G0 B v w → 0 ≤ p → p < (w.length : Int) → fitW G0 B v ua w p → (∀ h y, hlW G0 B v ua w p h y → 0 ≤ y ∧ y < (w.length : Int)) ∧ (∀ y, 0 < y → y < G0 uz 2 → isHo (G0 (uz + 1) y) → ∀ x', hlW G0 B v ua w p (G0 (uz + 1) y - 200) x' → okc 1 ((G0 (tvA B v + 6)) (5 * (G0 (uz + 1) (G0 (uz + 3) y) - 1000) + G0 (uz + 4) y)) ((wf w) x')) ∧ (∀ it, okc 1 it ((wf w) p) → isHo (G0 (uz + 1) 0) → ∀ x', hlW G0 B v ua w p (G0 (uz + 1) 0 - 200) x' → okc 1 it ((wf w) x')) ∧ (∀ it, okc 1 it ((wf w) p) → okc 1 it (G0 (uz + 1) 0) ∨ isHo (G0 (uz + 1) 0)) ∧ ∀ y, 0 ≤ y → y < G0 uz 2 → isHo (G0 (uz + 1) y) → ∃ x', hlW G0 B v ua w p (G0 (uz + 1) y - 200) x'
theorem okc_ki {g i1 i2 cc : Int} (e : ki i1 = ki i2) (o : okc g i1 cc) : okc g i2 cc := by
  unfold ki at e
  unfold okc at o ⊢
  split at e <;> split at e <;> omega
/-- from the before to the after -/
theorem kkw0 {G0 : Nat → Int → Int} {B ua uz : Nat} {v ia iz : Int} (hF : IFm G0 B) (kv : 0 ≤ v ∧ v ≤ 1) (ta : TOK G0 B 1 ia v ua) (tz : TOK G0 B 1 iz v uz) (aN : 1 ≤ G0 ua 3) (tie : Tie (G0 (tvA B v + 6)) (G0 (ua + 1)) (G0 (ua + 3)) (G0 (ua + 4)) (G0 (uz + 1)) (G0 (uz + 3)) (G0 (uz + 4)) (G0 ua 2) (G0 uz 2) (G0 uz 3)) : KKW G0 B v ua uz := by
  intro w p g p0 p1 ft
  have kT := trW hF kv g
  have kA := ta.2.2.2.1
  have kZ := tz.2.2.2.1
  have lA := Tr_root kA aN
  obtain ⟨fx1, fx2, fx3, fx4⟩ := ft
  have root : ∀ h x', hlW G0 B v ua w p h x' → 0 ≤ x' ∧ x' < (w.length : Int) ∧ ∃ p', 0 < p' ∧ p' < G0 ua 2 ∧ G0 (ua + 1) p' = 200 + h ∧ okc 1 ((G0 (tvA B v + 6)) (5 * (G0 (ua + 1) (G0 (ua + 3) p') - 1000) + G0 (ua + 4) p')) ((wf w) x') := fun h x' hx => by
    obtain ⟨a1, a2, a3⟩ := hl_kind kA kT 202 0 p h x' (Int.le_refl _) (by have := kA.1.1; omega) p0 p1 fx3 hx
    refine ⟨a1, a2, a3.resolve_left fun z => ?_⟩
    have := z.1
    unfold isHo at this
    omega
  refine ⟨fun h y hy => ⟨(root h y hy).1, (root h y hy).2.1⟩, fun y y0 y1 hh x' hx => ?_, fun it o hh x' hx => ?_, fun it o => ?_, fun y y0 y1 hh => ?_⟩
  · obtain ⟨_, _, p', q0, q1, q2, q3⟩ := root _ _ hx
    exact okc_ki (tie.2.2 y p' y0 y1 q0 q1 hh.1 hh.2 (by omega)).symm q3
  · obtain ⟨_, _, p', q0, q1, q2, q3⟩ := root _ _ hx
    have N1 : G0 uz 3 = 0 := by
      refine Classical.byContradiction fun z => ?_
      have := kZ.1.2.2.1
      have := Tr_root kZ (by omega)
      unfold isHo at hh
      omega
    have k60 := (tie.2.1 N1).2.2 p' q0 q1 (by omega)
    unfold okc at o q3 ⊢
    omega
  · by_cases N1 : G0 uz 3 = 0
    · have := tie.2.1 N1
      exact Or.inr ⟨this.1, by omega⟩
    · have := kZ.1.2.2.1
      have lz := Tr_root kZ (by omega)
      refine Or.inl ?_
      unfold okc at o ⊢
      omega
  · obtain ⟨p', q0, q1, q2⟩ := tie.1 y y0 y1 hh.1 hh.2
    have eEnd := kA.1.2.2.2.2.2.2.1
    have n201 := kA.1.2.1
    have := hl_ex kA (c := (wf w)) (e := (eE (G0 (tvA B v + 5)) (wf w))) 202 0 p p' (Int.le_refl _) (by omega) (by omega) q0 (by omega) (by rw [q2]; exact hh)
    rw [q2] at this
    exact this
/-- and back, where no hole is lost -/
theorem kkw1 {G0 : Nat → Int → Int} {B ua uz : Nat} {v ia iz : Int} (hF : IFm G0 B) (kv : 0 ≤ v ∧ v ≤ 1) (ta : TOK G0 B 1 ia v ua) (tz : TOK G0 B 1 iz v uz) (zN : 1 ≤ G0 uz 3) (tie : Tie (G0 (tvA B v + 6)) (G0 (uz + 1)) (G0 (uz + 3)) (G0 (uz + 4)) (G0 (ua + 1)) (G0 (ua + 3)) (G0 (ua + 4)) (G0 uz 2) (G0 ua 2) (G0 ua 3)) (sub : ∀ y, 0 ≤ y → y < G0 uz 2 → isHo (G0 (uz + 1) y) → ∃ p', 0 ≤ p' ∧ p' < G0 ua 2 ∧ G0 (ua + 1) p' = G0 (uz + 1) y) : KKW G0 B v ua uz := by
  intro w p g p0 p1 ft
  have kT := trW hF kv g
  have kA := ta.2.2.2.1
  have kZ := tz.2.2.2.1
  have lZ := Tr_root kZ zN
  have nA := kA.1.1
  obtain ⟨fx1, fx2, fx3, fx4⟩ := ft
  have hk := fun h x' (hx : hlW G0 B v ua w p h x') => hl_kind kA kT 202 0 p h x' (Int.le_refl _) (by omega) p0 p1 fx3 hx
  refine ⟨fun h y hy => ⟨(hk h y hy).1, (hk h y hy).2.1⟩, fun y y0 y1 hh x' hx => ?_, fun it o hh x' hx => ?_, fun it o => ?_, fun y y0 y1 hh => ?_⟩
  · rcases (hk _ _ hx).2.2 with ⟨z1, z2, z3⟩ | ⟨p', q0, q1, q2, q3⟩
    · have N1 : G0 ua 3 = 0 := by
        refine Classical.byContradiction fun z => ?_
        have := kA.1.2.2.1
        have := Tr_root kA (by omega)
        unfold isHo at z1
        omega
      have k60 := (tie.2.1 N1).2.2 y y0 y1 (by omega)
      rw [z3]
      unfold okc
      omega
    · exact okc_ki (tie.2.2 p' y q0 q1 y0 y1 (by unfold isHo at hh; omega) (by unfold isHo at hh; omega) (by omega)) q3
  · unfold isHo at hh
    omega
  · refine Or.inl ?_
    unfold okc at o ⊢
    omega
  · obtain ⟨p', q0, q1, q2⟩ := sub y y0 y1 hh
    have eEnd := kA.1.2.2.2.2.2.2.1
    have n201 := kA.1.2.1
    have := hl_ex kA (c := (wf w)) (e := (eE (G0 (tvA B v + 5)) (wf w))) 202 0 p p' (Int.le_refl _) (by omega) (by omega) q0 (by omega) (by rw [q2]; exact hh)
    rw [q2] at this
    exact this
/-- what a way is known by -/
def WAY (G0 : Nat → Int → Int) (B : Nat) (v ia iz : Int) (ua uz : Nat) : Prop := TOK G0 B 1 ia v ua ∧ TOK G0 B 1 iz v uz ∧ (∀ q, 0 ≤ q → q < G0 ua 2 → 20 ≤ G0 (ua + 1) q ∧ G0 (ua + 1) q ≤ 1013) ∧ (∀ q, 0 ≤ q → q < G0 uz 2 → 20 ≤ G0 (uz + 1) q ∧ G0 (uz + 1) q ≤ 1013) ∧ (∀ q, 0 ≤ q → q < G0 ua 2 → ¬ 1000 ≤ G0 (ua + 1) q → isLf (G0 (ua + 1) q)) ∧ (∀ q, 0 ≤ q → q < G0 uz 2 → ¬ 1000 ≤ G0 (uz + 1) q → isLf (G0 (uz + 1) q)) ∧ KKW G0 B v ua uz
/-- the outcome is there, and is a tree -/
theorem out_ex {G0 : Nat → Int → Int} {B ua uz : Nat} {v ia iz p : Int} {w : List Int} (hF : IFm G0 B) (kv : 0 ≤ v ∧ v ≤ 1) (wy : WAY G0 B v ia iz ua uz) (g : GW1 G0 B v w) (p0 : 0 ≤ p) (p1 : p < (w.length : Int)) (ft : fitW G0 B v ua w p) : (∃ w', outW G0 B v ua uz w p w') ∧ ∀ w', outW G0 B v ua uz w p w' → ∃ k, PW 1 (G0 (tvA B v) 1) (G0 (tvA B v + 5)) (G0 (tvA B v + 6)) k 60 w' := by
  obtain ⟨ta, tz, ca, cz, la, lz, kk⟩ := wy
  obtain ⟨h1, h2, h3, h4, h5⟩ := kk w p g p0 p1 ft
  have kT := trW hF kv g
  have kZ := tz.2.2.2.1
  have n201 := (GW_row hF kv g).2.2.2.2.2.1
  have nZ := kZ.1.1
  have nZ2 := kZ.1.2.1
  have eZ := kZ.1.2.2.2.2.2.2.1
  have eT := kT.1.2.2.2.2.2.2.1
  have n0 : ∀ f, 0 ≤ f → f < (G0 (tvA B v) 1) → 0 ≤ (G0 (tvA B v + 5)) f := fun f f0 f1 => (IFm_ns hF kv f0 f1).1
  refine ⟨?_, fun w' ⟨d, hw⟩ => ?_⟩
  · obtain ⟨w', d, hw⟩ := TW_ex kT (Fit := fun x => x = p) (Fl := fun x u => FW (G0 (tvA B v + 5)) (G0 (uz + 1)) (G0 (uz + 2)) (wf w) (eE (G0 (tvA B v + 5)) (wf w)) (hlW G0 B v ua w x) 202 0 u) (fun x x0 x1 hx => by
      subst hx
      exact FW_ex kZ 202 0 (Int.le_refl _) (by omega) (by omega) (fun y' z1 z2 z3 => h5 y' z1 (by omega) z3)) 202 0 (Int.le_refl _) (by have := kT.1.1; omega) (by omega)
    exact ⟨w', d, hw⟩
  · obtain ⟨pw, _⟩ := TW_pw (j := 404) kT (fun x it u x0 x1 o hx fl => by
      subst hx
      exact FW_pw kZ kT n0 h1 lz h2 202 0 it u (Int.le_refl _) (by omega) (h4 it o) (h3 it o) fl) 202 0 60 w' d (Int.le_refl _) (by have := kT.1.1; omega) (by
      obtain ⟨_, _, _, ok, len1, _⟩ := GW_row hF kv g
      have := ok 0 (by omega) 60 rfl
      exact this) hw
    exact ⟨_, pw⟩
end
