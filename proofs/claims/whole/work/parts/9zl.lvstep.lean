section
/-! find: what the class has done after P steps -/
def HBd (K : Nat) (n : Nat → Int) (S : ((Nat → Int) × Int × (Int → Int))) : Prop := ∀ (h : Int) (k : Nat), 0 ≤ h → h < S.2.1 → k < K → 0 ≤ S.2.2 (4 * h + k) ∧ S.2.2 (4 * h + k) < n k
theorem HBd_s {K : Nat} {C E C0 E0 : Nat → Int → Int} {n : Nat → Int} {S : ((Nat → Int) × Int × (Int → Int))} (K4 : K ≤ 4) (xb : ∀ k : Nat, k < K → 0 ≤ S.1 k ∧ S.1 k < n k) (hb : HBd K n S) : HBd K n (lNx K C E C0 E0 S) := by
  by_cases one : oneX K C S.1
  · rw [lNx_1 one]
    exact hb
  · rw [lNx_0 one]
    by_cases g : 0 ≤ lH K C E C0 E0 S
    · rw [if_pos g]
      exact hb
    · rw [if_neg g]
      intro h k q0 q1 hk
      have q1 : h < S.2.1 + 1 := q1
      show 0 ≤ (if 4 * S.2.1 ≤ 4 * h + (k : Int) then S.1 (4 * h + (k : Int) - 4 * S.2.1).toNat else S.2.2 (4 * h + k)) ∧ (if 4 * S.2.1 ≤ 4 * h + (k : Int) then S.1 (4 * h + (k : Int) - 4 * S.2.1).toNat else S.2.2 (4 * h + k)) < n k
      by_cases e : h = S.2.1
      · rw [if_pos (by omega), show (4 * h + (k : Int) - 4 * S.2.1).toNat = k by omega]
        exact xb k hk
      · rw [if_neg (by omega)]
        exact hb h k q0 (by omega) hk
theorem oneX_congr {K : Nat} {C : Nat → Int → Int} {x y : Nat → Int} (K1 : 1 ≤ K) (h : ∀ k : Nat, k < K → x k = y k) : oneX K C x ↔ oneX K C y := by
  have key : ∀ {x y : Nat → Int}, (∀ k : Nat, k < K → x k = y k) → oneX K C x → oneX K C y := fun {x y} h o k hk => by
    have := o k hk
    rw [h k hk, h 0 (by omega)] at this
    exact this
  exact ⟨key h, key fun k hk => (h k hk).symm⟩
theorem lFst_cong {p q : Int → Prop} {n : Nat} (h : ∀ k : Int, 0 ≤ k → k < n → (p k ↔ q k)) : lFst p n = lFst q n := by
  rcases lFst_is q n with ⟨a, b⟩ | ⟨a, b, c, d⟩
  · rw [a]
    exact lFst_no fun k k0 k1 z => b k k0 k1 ((h k k0 k1).mp z)
  · exact lFst_eq a b ((h _ a b).mpr c) fun k k0 k1 z => d k k0 k1 ((h k k0 (by omega)).mp z)
theorem lH_cong {K : Nat} {C E C0 E0 : Nat → Int → Int} {S : ((Nat → Int) × Int × (Int → Int))} {x : Nat → Int} {hp : Int → Int} (hx : ∀ k : Nat, k < K → x k = S.1 k) (hh : ∀ (h : Int) (k : Nat), 0 ≤ h → h < S.2.1 → k < K → hp (4 * h + k) = S.2.2 (4 * h + k)) : lFst (sameH K C E C0 E0 x hp) S.2.1.toNat = lH K C E C0 E0 S := by
  unfold lH
  refine lFst_cong fun h h0 h1 => ⟨fun w k hk => ?_, fun w k hk => ?_⟩
  · have := w k hk
    rw [hx k hk, hh h k h0 (by omega) hk] at this
    exact this
  · have := w k hk
    rw [← hx k hk, ← hh h k h0 (by omega) hk] at this
    exact this
/-- all else is as it was -/
def LvF (G0 G : Nat → Int → Int) (o w : Nat) : Prop := (∀ x, ¬ x = w → ¬ x = w + 1 → ¬ x = o + 5 → ¬ x = o + 6 → ¬ x = o → G x = G0 x) ∧ ∀ j, ¬ j = 8 → G o j = G0 o j
def LvC (G0 G : Nat → Int → Int) (o w : Nat) (v : Int) (K : Nat) (S : ((Nat → Int) × Int × (Int → Int))) (c : Int → Int) (P : Nat) : Prop := CB c G w v P ∧ (∀ k : Nat, k < K → G (o + 5) k = S.1 k) ∧ G o 8 = S.2.1 ∧ (∀ (h : Int) (k : Nat), 0 ≤ h → h < S.2.1 → k < K → G (o + 6) (4 * h + k) = S.2.2 (4 * h + k)) ∧ LvF G0 G o w
def fN (G : Nat → Int → Int) (o : Nat) (s : Int) (k : Nat) : Int := G (o + 111 + 10 * (2 * (k : Int) + s).toNat) 2
theorem LvF_f {G0 G : Nat → Int → Int} {o w : Nat} {s : Int} (f : LvF G0 G o w) (hw : w = o + 8 ∨ w = o + 18) : fC G o s = fC G0 o s ∧ fE G o s = fE G0 o s ∧ fN G o s = fN G0 o s := by
  refine ⟨funext fun k => ?_, funext fun k => ?_, funext fun k => ?_⟩
  · unfold fC
    exact f.1 _ (by omega) (by omega) (by omega) (by omega) (by omega)
  · unfold fE
    exact f.1 _ (by omega) (by omega) (by omega) (by omega) (by omega)
  · unfold fN
    rw [f.1 _ (by omega) (by omega) (by omega) (by omega) (by omega)]
theorem LI_x {K : Nat} {C E C0 E0 : Nat → Int → Int} {s0 : ((Nat → Int) × Int × (Int → Int))} {F : Int} {ns I : Int → Int} {n : Nat → Int} {P : Nat} (li : LI K C E C0 E0 s0 F ns I n P) (d1 : 1 ≤ dd ns (lC K C E C0 E0 s0) P) : ∀ k : Nat, k < K → 0 ≤ (lS K C E C0 E0 s0 P).1 k ∧ (lS K C E C0 E0 s0 P).1 k < n k := fun k hk => (li.2.1 k hk).1 0 (by omega)
theorem LI_40 {K : Nat} {C E C0 E0 : Nat → Int → Int} {s0 : ((Nat → Int) × Int × (Int → Int))} {F : Int} {ns I : Int → Int} {n N L : Nat → Int} {u sl r na la : Nat → Int → Int} (T : ∀ k : Nat, k < K → Tr 0 F ns I (n k) (N k) (L k) (C k) (E k) (u k) (sl k) (r k) (na k) (la k)) (K1 : 1 ≤ K) {P : Nat} (li : LI K C E C0 E0 s0 F ns I n P) : nb (lC K C E C0 E0 s0) P ≤ N 0 ∧ N 0 ≤ 40 ∧ P ≤ 201 := by
  have T0 := T 0 (by omega)
  obtain ⟨_, n201, _, N40, _⟩ := T0.1
  have xn : (lS K C E C0 E0 s0 P).1 0 ≤ n 0 := by
    have ch := li.2.1 0 (by omega)
    by_cases g : (dd ns (lC K C E C0 E0 s0) P).toNat = 0
    · rw [g] at ch
      have e : (lS K C E C0 E0 s0 P).1 0 = n 0 := ch.2
      omega
    · have a : (lS K C E C0 E0 s0 P).1 0 < n 0 := (ch.1 0 (by omega)).2
      omega
  have m := nbi_mono (C 0) xn
  have e := T0.2.2.2.2.2.1
  have a := li.2.2.1
  have b := li.2.2.2.1
  omega
/-- from the start to the end -/
theorem LI_end {K : Nat} {C E C0 E0 : Nat → Int → Int} {s0 : ((Nat → Int) × Int × (Int → Int))} {F : Int} {ns I : Int → Int} {n N L : Nat → Int} {u sl r na la : Nat → Int → Int} (T : ∀ k : Nat, k < K → Tr 0 F ns I (n k) (N k) (L k) (C k) (E k) (u k) (sl k) (r k) (na k) (la k)) (K1 : 1 ≤ K) (n0 : ∀ f, 0 ≤ f → f < F → 0 ≤ ns f) (rt : ∀ k : Nat, k < K → 1000 ≤ C k 0) (h0 : 0 ≤ s0.2.1 ∧ s0.2.1 ≤ 300) (hx : ∀ k, s0.1 k = 0) : ∃ m : Nat, m ≤ 201 ∧ 1 ≤ m ∧ dd ns (lC K C E C0 E0 s0) m = 0 ∧ ∀ P : Nat, P ≤ m → LI K C E C0 E0 s0 F ns I n P := by
  have key : ∀ f P : Nat, 202 - P ≤ f → (∀ Q : Nat, Q ≤ P → LI K C E C0 E0 s0 F ns I n Q) → ∃ m : Nat, m ≤ 201 ∧ P ≤ m ∧ dd ns (lC K C E C0 E0 s0) m = 0 ∧ ∀ Q : Nat, Q ≤ m → LI K C E C0 E0 s0 F ns I n Q := by
    intro f
    induction f with
    | zero =>
      intro P hf h
      have := (LI_40 T K1 (h P (Nat.le_refl _))).2.2
      omega
    | succ f ih =>
      intro P hf h
      have hP := h P (Nat.le_refl _)
      have p201 := (LI_40 T K1 hP).2.2
      by_cases d : 1 ≤ dd ns (lC K C E C0 E0 s0) P
      · obtain ⟨m, m1, m2, m3, m4⟩ := ih (P + 1) (by omega) fun Q hQ => by
          by_cases e : Q = P + 1
          · rw [e]
            exact LI_s T n0 K1 rt h0 hP d
          · exact h Q (by omega)
        exact ⟨m, m1, by omega, m3, m4⟩
      · have := hP.2.2.2.2.2.2.2
        exact ⟨P, p201, Nat.le_refl _, by omega, h⟩
  obtain ⟨m, m1, m2, m3, m4⟩ := key 202 0 (by omega) fun Q hQ => by
    have e : Q = 0 := by omega
    rw [e]
    exact LI_0 T n0 K1 rt hx
  refine ⟨m, m1, ?_, m3, m4⟩
  refine Nat.one_le_iff_ne_zero.mpr fun e => ?_
  rw [e] at m3
  have m3 : (1 : Int) = 0 := m3
  omega
end
