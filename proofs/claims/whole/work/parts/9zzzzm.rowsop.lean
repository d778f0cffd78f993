section
/-! call 18: rows -/
def fiO (G : Nat → Int → Int) (t : Nat) (f : Int) : List Int := il (fun k => G (t + 4) (5 * f + k)) 0 (G (t + 3) f).toNat
set_option maxHeartbeats 400000 in
theorem AtI_il {g h : Int → Int} : ∀ (n : Nat) (k : Int), (∀ j, k ≤ j → j < k + n → g j = h j) → AtI g k (il h k n) := by
  intro n
  induction n with
  | zero => intro k _; exact trivial
  | succ n ih =>
    intro k e
    exact ⟨e k (Int.le_refl _) (by omega), ih (k + 1) (fun j a b => e j (by omega) (by omega))⟩
set_option maxHeartbeats 400000 in
theorem FWR_of {G : Nat → Int → Int} {B : Nat} {v : Int} (h : IFm G B) (v0 : 0 ≤ v) (v1 : v ≤ 1) : FWR (G (B + 370 + 14 * v.toNat) 1) (G (B + 370 + 14 * v.toNat + 2)) (fiO G (B + 370 + 14 * v.toNat)) := by
  obtain ⟨f1, f2, f3, f4⟩ := h v v0 v1
  refine ⟨⟨f2, f3⟩, fun f q1 q2 => ?_⟩
  obtain ⟨so, ⟨⟨s1, s2, s3⟩, it, iu, i1⟩, _⟩ := f4 f q1 q2
  unfold fiO
  refine ⟨⟨so.2.1, so.2.2⟩, by rw [il_len]; omega, fun x hx => ?_, fun x hx g => ?_⟩
  · obtain ⟨k, k0, k1, k2⟩ := il_mem _ _ _ hx
    have := (it k k0 (by omega)).2
    rw [k2]
    exact this
  · have l1 : (G (B + 370 + 14 * v.toNat + 3) f).toNat = 1 := by
      rw [← il_len (fun k => G (B + 370 + 14 * v.toNat + 4) (5 * f + k)) (G (B + 370 + 14 * v.toNat + 3) f).toNat 0, hx]
      rfl
    rw [l1] at hx
    have e : G (B + 370 + 14 * v.toNat + 4) (5 * f + 0) = x := (List.cons.inj hx).1
    rw [show 5 * f + 0 = 5 * f by omega] at e
    rw [← e] at g ⊢
    exact i1 (by omega) g
set_option maxHeartbeats 400000 in
theorem TLg_of {G : Nat → Int → Int} {B : Nat} {v : Int} (h : IFm G B) (v0 : 0 ≤ v) (v1 : v ≤ 1) : TLg G (B + 370 + 14 * v.toNat) (G (B + 370 + 14 * v.toNat) 1) (G (B + 370 + 14 * v.toNat + 2)) (fiO G (B + 370 + 14 * v.toNat)) := by
  obtain ⟨f1, f2, f3, f4⟩ := h v v0 v1
  refine ⟨rfl, fun f q1 q2 => ?_⟩
  obtain ⟨so, ⟨⟨s1, s2, s3⟩, it, iu, i1⟩, _⟩ := f4 f q1 q2
  exact ⟨rfl, by unfold fiO; rw [il_len]; omega, AtI_il _ 0 (fun j _ _ => rfl)⟩
set_option maxHeartbeats 400000 in
theorem TLr_of {G : Nat → Int → Int} {B : Nat} {v : Int} (h : IFm G B) (v0 : 0 ≤ v) (v1 : v ≤ 1) : TLr G B v (G (B + 370 + 14 * v.toNat) 1) (G (B + 370 + 14 * v.toNat + 2)) (fiO G (B + 370 + 14 * v.toNat)) := by
  obtain ⟨e1, e2⟩ := FR_eq h v0 v1
  obtain ⟨g1, g2⟩ := FT_of h v0 v1
  refine ⟨e1, fun f q1 q2 => ?_⟩
  obtain ⟨a1, a2, a3⟩ := e2 f q1 q2
  obtain ⟨b1, b2, b3, b4⟩ := g2 f q1 q2
  exact ⟨a1, by rw [a2]; unfold fiO; rw [il_len]; omega, AtI_il _ 0 (fun j j0 j1 => a3 j j0 (by omega))⟩
set_option maxHeartbeats 400000 in
/-- both sides find the rows -/
theorem rows_both {T : Nat → Option q_T} {nx B t1 t2 t3 t4 : Nat} {R : Nat → Nat → Option Value} {G : Nat → Int → Int} {v1 n : Int} (hL : Ly T R B (L11x B t1 t2 t3 t4)) (hM : Ly T R (B + 544) (L12 (B + 544))) (iFm : IFm G B) (hv : 0 ≤ v1 ∧ v1 ≤ 1) (hn : 1 ≤ n ∧ n ≤ 4) :
    ∃ (Gc Gf : Nat → Int → Int) (y : Int), CFg G Gc (B + 20) ∧ FRf Gc Gf B ∧ ((y = 0 ∧ Gf (B + 544) 58 = 1) ∨ (y = 1 ∧ Gf (B + 544) 58 = 0 ∧ ∃ T', CLO T' (G (B + 370 + 14 * v1.toNat) 1) (G ((B + 370 + 14 * v1.toNat) + 2)) (fiO G (B + 370 + 14 * v1.toNat)) 5 (n + 1).toNat ∧ HEL Gc (B + 20) T' 5 (n + 1).toNat ∧ HELr Gf B T' 5 (n + 1).toNat)) ∧
      (∀ K : Option Value → q_M → Prop, fX4_gather [.ref (B + 20), .ref (B + 370 + 14 * v1.toNat), .int (zI n)] (st T nx 0 0 R G) K = K (some (.int (zI y))) (st T nx 0 0 R Gc)) ∧
      ∀ K : Option Value → q_M → Prop, fX12_findRows [.ref (B + 544), .int (zI v1), .int (zI n)] (st T nx 0 0 R Gc) K = K none (st T nx 0 0 R Gf) := by
  have o4 := o11_11 hL
  have o8 := o11_0 hL (i := v1.toNat) (by omega)
  have hF := FWR_of iFm hv.1 hv.2
  obtain ⟨Gc, y, a1, a2, a3⟩ := c4_gather (T0 := T) (nx := nx) (R := R) (G := G) (n := n) o4 o8 (by omega) hF hn.1 hn.2 (TLg_of iFm hv.1 hv.2)
  have tr : TLr Gc B v1 (G (B + 370 + 14 * v1.toNat) 1) (G ((B + 370 + 14 * v1.toNat) + 2)) (fiO G (B + 370 + 14 * v1.toNat)) := by
    obtain ⟨x1, x2⟩ := TLr_of iFm hv.1 hv.2
    have fz : ∀ z, B + 544 ≤ z → Gc z = G z := fun z hz => a1.1 z (by omega)
    refine ⟨by rw [fz _ (by omega)]; exact x1, fun f f0 f1 => ?_⟩
    obtain ⟨y1, y2, y3⟩ := x2 f f0 f1
    refine ⟨by rw [fz _ (by omega)]; exact y1, by rw [fz _ (by omega)]; exact y2, AtI_fr _ 0 (fun j _ _ => ?_) y3⟩
    show Gc (B + 544 + 5) (5 * (14 * v1 + f) + j) = G (B + 544 + 5) (5 * (14 * v1 + f) + j)
    rw [fz _ (by omega)]
  obtain ⟨Gf, b1, b2, b3⟩ := c12_findRows (T0 := T) (nx := nx) (R := R) (G := Gc) (n := n) hM hv.1 hv.2 hF hn.1 hn.2 tr
  refine ⟨Gc, Gf, y, a1, b1, ?_, a3, b3⟩
  rcases a2 with ⟨y0, sp⟩ | ⟨y1, T', c1, c2⟩
  · rcases b2 with ⟨sp2, z⟩ | ⟨T2, d1, _, _⟩
    · exact Or.inl ⟨y0, z⟩
    · exact absurd (SPN_not hF hn.1 hn.2 sp d1) id
  · rcases b2 with ⟨sp2, _⟩ | ⟨T2, d1, d2, d3⟩
    · exact absurd (SPN_not hF hn.1 hn.2 sp2 c1) id
    · refine Or.inr ⟨y1, d3, T', c1, c2, fun s' w b => ?_⟩
      have e : T2 s' w = T' s' w := by
        unfold bef at b
        have c1' : CLO T' (G (B + 370 + 14 * v1.toNat) 1) (G ((B + 370 + 14 * v1.toNat) + 2)) (fiO G (B + 370 + 14 * v1.toNat)) s' w := fun s'' w'' b'' => c1 s'' w'' (by unfold bef at b'' ⊢; omega)
        have d1' : CLO T2 (G (B + 370 + 14 * v1.toNat) 1) (G ((B + 370 + 14 * v1.toNat) + 2)) (fiO G (B + 370 + 14 * v1.toNat)) s' w := fun s'' w'' b'' => d1 s'' w'' (by unfold bef at b'' ⊢; omega)
        have x1 := c1 s' w (by unfold bef; omega)
        have x2 := d1 s' w (by unfold bef; omega)
        rw [gF_cg hF (T := T') (T' := T2) (by omega) (fun s'' w'' b'' => by
          have ew : ((w''.toNat : Nat) : Int) = w'' := by unfold bef at b''; omega
          have := CLO_one hF (by omega) c1' d1' (6 * w''.toNat + 6) s'' w''.toNat (by unfold bef at b''; omega) (by rw [ew]; exact b'')
          rw [ew] at this
          exact this) _ (by have := hF.1; omega), x1] at x2
        exact (Option.some.inj x2).symm
      rw [← e]
      exact d2 s' w b
end
