section
/-! the sorts suit: told of the row -/
def SQ (ns so1 I1 c : Int → Int) (q : Nat) : Prop := 1000 ≤ c q → ∀ it, (tgI ns I1 c q)[0]? = some it → so1 (c q - 1000) = it - 60
theorem so_sq {F F1 : Int} {ns0 ns1 I0 I1 mt ms so1 c : Int → Int} {n N L : Int} {cT eT u s r na la : Int → Int} (t : Tr 0 F ns0 I0 n N L cT eT u s r na la) (m : MPD F1 ns0 ns1 I0 I1 mt ms cT n) (n0 : ∀ f, 0 ≤ f → f < F1 → 0 ≤ ns1 f) : ∀ (k : Nat) (x it : Int) (w : List Int) (P : Nat), 0 ≤ x → x < n → okc 0 it (cT x) → CW ns1 mt ms cT eT k x w → At c P w → Pre ns1 c P → 1 ≤ dd ns1 c P → (tgI ns1 I1 c P)[0]? = some it → (SO ns1 so1 I1 mt ms cT eT k x it ↔ ∀ q : Nat, P ≤ q → q < P + w.length → SQ ns1 so1 I1 c q) := by
  intro k
  induction k with
  | zero => intro x it w P _ _ _ f; exact f.elim
  | succ k ih =>
    intro x it w P x0 x1 ok f hA' pr dP hit
    rcases f with ⟨l, hw⟩ | ⟨l, u', hw, hu⟩
    · subst hw
      refine ⟨fun _ q q1 q2 l2 => ?_, fun _ => Or.inl l⟩
      have q2 : q < P + 1 := q2
      have e : q = P := by omega
      subst e
      rw [hA'.1] at l2
      exact absurd l2 l
    · subst hw
      obtain ⟨m1, m2, m3⟩ := m x x0 x1 l
      obtain ⟨F0, cE, cH⟩ := t.2.2.2.1 x x0 x1 l
      obtain ⟨cP, hA'⟩ := hA'
      obtain ⟨f, hf⟩ : ∃ f, f = cT x - 1000 := ⟨_, rfl⟩
      rw [← hf] at m1 m2 m3 cP hA' hu
      obtain ⟨h, hh⟩ : ∃ h, h = mt f := ⟨_, rfl⟩
      rw [← hh] at m1 m2 m3 cP hA' hu
      have nn1 := n0 h m1 m2
      have e1h : (1000 + h) - 1000 = h := by omega
      have okh : okc 0 it (1000 + h) := by
        unfold okc at ok ⊢
        omega
      have key : ∀ mm : Nat, (mm : Int) ≤ ns1 h → KidW 0 ns1 I1 c (1000 + h) it mm P (P + 1 + (cat u' mm).length) ∧ ((∀ i : Nat, i < mm → SO ns1 so1 I1 mt ms cT eT k (chI eT x (ms (5 * f + i)).toNat) (I1 (5 * h + i))) ↔ ∀ q : Nat, P + 1 ≤ q → q < P + 1 + (cat u' mm).length → SQ ns1 so1 I1 c q) := by
        intro mm
        induction mm with
        | zero =>
          intro _
          exact ⟨Kid0 (by rw [e1h]; exact nn1) (by omega) cP okh pr dP, ⟨fun _ q q1 q2 => by
            have q2 : q < P + 1 + 0 := q2
            omega, fun _ i hi => absurd hi (by omega)⟩⟩
        | succ mm ihm =>
          intro hm
          obtain ⟨kw, iff1⟩ := ihm (by omega)
          obtain ⟨rr', hr⟩ := cat_pre u' (show mm + 1 ≤ (ns1 h).toNat by omega)
          have hA2 := hA'
          rw [hr, At_app, cat_s, At_app] at hA2
          obtain ⟨a1, a2, a3, _⟩ := m3 mm (by omega)
          have uu := hu mm (by omega)
          obtain ⟨sl, hsl⟩ : ∃ sl, sl = ms (5 * f + mm) := ⟨_, rfl⟩
          rw [← hsl] at a1 a2 a3 uu
          have bq := cH sl.toNat (by rw [← hf]; omega)
          have ob := bq.2.2.2.2
          rw [Int.toNat_of_nonneg a1, ← hf] at ob
          have okk := ki_okc a3 ob
          have pw := (CW_pw t m k (chI eT x sl.toNat) _ (u' mm) (by omega) bq.2.1 okk uu).1
          have kwd := kw.2.1
          rw [e1h] at kwd
          have ktI := kw.2.2.2.1
          rw [e1h, show (ns1 h).toNat - mm = ((ns1 h).toNat - (mm + 1)) + 1 by omega, tgJ] at ktI
          have hd : (tgI ns1 I1 c (P + 1 + (cat u' mm).length))[0]? = some (I1 (5 * h + mm)) := by rw [ktI, List.cons_append, List.getElem?_cons_zero]
          have sw := pw_seg n0 _ _ _ _ pw hA2.1.2 kw.1 (by omega)
          have kw' := Kid_s (x := 1000 + h) (m := mm) (by rw [e1h]; omega) kw (by rw [e1h]; exact sw)
          have one := ih (chI eT x sl.toNat) _ (u' mm) _ (by omega) bq.2.1 okk uu hA2.1.2 kw.1 (by omega) hd
          rw [cat_s, List.length_append, show P + 1 + ((cat u' mm).length + (u' mm).length) = P + 1 + (cat u' mm).length + (u' mm).length by omega]
          refine ⟨kw', fun a q q1 q2 => ?_, fun a i hi => ?_⟩
          · by_cases z : q < P + 1 + (cat u' mm).length
            · exact iff1.mp (fun i hi => a i (by omega)) q q1 z
            · exact one.mp (by rw [hsl]; exact a mm (by omega)) q (by omega) q2
          · by_cases e : i = mm
            · subst e
              rw [← hsl]
              exact one.mpr fun q q1 q2 => a q (by omega) q2
            · exact iff1.mpr (fun q q1 q2 => a q q1 (by omega)) i (by omega)
      obtain ⟨_, iff2⟩ := key (ns1 h).toNat (by omega)
      have sqP : SQ ns1 so1 I1 c P ↔ so1 h = it - 60 := by
        unfold SQ
        rw [cP, e1h]
        exact ⟨fun z => z (by omega) it hit, fun z _ it' hi => by
          rw [hit] at hi
          injection hi with hi
          rw [← hi]
          exact z⟩
      have sod : SO ns1 so1 I1 mt ms cT eT (k + 1) x it ↔ so1 h = it - 60 ∧ ∀ i : Nat, (i : Int) < ns1 h → SO ns1 so1 I1 mt ms cT eT k (chI eT x (ms (5 * f + i)).toNat) (I1 (5 * h + i)) := by
        rw [hh, hf]
        exact ⟨fun z => z.elim (fun q => absurd l q) (fun q => q.2), fun z => Or.inr ⟨l, z⟩⟩
      rw [sod, List.length_cons, ← hf, ← hh]
      refine ⟨fun ⟨z1, z2⟩ q q1 q2 => ?_, fun a => ⟨sqP.mp (a P (by omega) (by omega)), fun i hi => iff2.mpr (fun q q1 q2 => a q (by omega) (by omega)) i (by omega)⟩⟩
      by_cases e : q = P
      · subst e
        exact sqP.mpr z1
      · exact iff2.mp (fun i hi => z2 i (by omega)) q (by omega) (by omega)
end
