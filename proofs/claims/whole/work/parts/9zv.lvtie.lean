section
/-! find: what the laid trees are (pure) -/
theorem tgI_head {ns I c : Int → Int} {P : Nat} (pr : Pre ns c P) (d0 : dd ns c P = 0) (P1 : P ≤ 201) {p : Int} (p0 : 0 < p) (p1 : p < P) : (tgI ns I c p.toNat)[0]? = some (I (5 * (c (uU ns c p) - 1000) + sS ns c p)) := by
  have wd := Wd_of pr d0 P1
  have hd : (tgS ns c p.toNat)[0]? = some (nb c (uU ns c p).toNat, sS ns c p) := by
    obtain ⟨t, t1, _⟩ := tg_some (Pre_le pr (show p.toNat ≤ P by omega)) (pr.1 p.toNat (by omega))
    rw [t1, tg_head wd p0 p1 t1]
  obtain ⟨u0, u1, _, _, u2, _⟩ := uU_f wd p0 p1
  rcases tgI_get (I := I) p.toNat 0 _ hd with ⟨z, _⟩ | ⟨u, q1, q2, q3, q4⟩
  · have := nb_b c (uU ns c p).toNat
    injection z with z1 z2
    omega
  · have eu : (u : Int) = uU ns c p := by
      have q3 : nb c (uU ns c p).toNat = nb c u := q3
      by_cases z : (u : Int) < uU ns c p
      · have := nb_lt c (show u < (uU ns c p).toNat by omega) q2
        omega
      · by_cases z2 : uU ns c p < u
        · have := nb_lt c (show (uU ns c p).toNat < u by omega) (by rw [Int.toNat_of_nonneg u0]; exact u2)
          omega
        · omega
    rw [q4, eu]
theorem lv_c0 {K : Nat} {C E : Nat → Int → Int} (rt : 1000 ≤ C 0 0) : 1000 ≤ lC K C E C E ((fun _ => (0 : Int), (0 : Int), fun _ => (0 : Int)) : ((Nat → Int) × Int × (Int → Int))) 0 ∨ lC K C E C E ((fun _ => (0 : Int), (0 : Int), fun _ => (0 : Int)) : ((Nat → Int) × Int × (Int → Int))) 0 = 200 := by
  have e : lC K C E C E ((fun _ => (0 : Int), (0 : Int), fun _ => (0 : Int)) : ((Nat → Int) × Int × (Int → Int))) 0 = lCd K C E C E ((fun _ => (0 : Int), (0 : Int), fun _ => (0 : Int)) : ((Nat → Int) × Int × (Int → Int))) := lC_at 0
  rw [e]
  by_cases one : oneX K C (((fun _ => (0 : Int), (0 : Int), fun _ => (0 : Int)) : ((Nat → Int) × Int × (Int → Int)))).1
  · rw [lCd_1 one]
    exact Or.inl rt
  · rw [lCd_0 one]
    have h : lH K C E C E ((fun _ => (0 : Int), (0 : Int), fun _ => (0 : Int)) : ((Nat → Int) × Int × (Int → Int))) = -1 := rfl
    rw [h]
    exact Or.inr rfl
/-- holes are not lost -/
theorem lv_up {K : Nat} {C E C0 E0 : Nat → Int → Int} {s0 : ((Nat → Int) × Int × (Int → Int))} (P : Nat) : (lS K C E C0 E0 s0 P).2.1 ≤ (lS K C E C0 E0 s0 (P + 1)).2.1 ∧ ∀ j, j < 4 * (lS K C E C0 E0 s0 P).2.1 → (lS K C E C0 E0 s0 (P + 1)).2.2 j = (lS K C E C0 E0 s0 P).2.2 j := by
  have e : lS K C E C0 E0 s0 (P + 1) = lNx K C E C0 E0 (lS K C E C0 E0 s0 P) := rfl
  rw [e]
  by_cases one : oneX K C (lS K C E C0 E0 s0 P).1
  · rw [lNx_1 one]
    exact ⟨Int.le_refl _, fun _ _ => rfl⟩
  · rw [lNx_0 one]
    by_cases g : 0 ≤ lH K C E C0 E0 (lS K C E C0 E0 s0 P)
    · rw [if_pos g]
      exact ⟨Int.le_refl _, fun _ _ => rfl⟩
    · rw [if_neg g]
      refine ⟨?_, fun j hj => ?_⟩
      · show (lS K C E C0 E0 s0 P).2.1 ≤ (lS K C E C0 E0 s0 P).2.1 + 1
        omega
      · show (if 4 * (lS K C E C0 E0 s0 P).2.1 ≤ j then (lS K C E C0 E0 s0 P).1 (j - 4 * (lS K C E C0 E0 s0 P).2.1).toNat else (lS K C E C0 E0 s0 P).2.2 j) = _
        rw [if_neg (by omega)]
theorem lv_mon {K : Nat} {C E C0 E0 : Nat → Int → Int} {s0 : ((Nat → Int) × Int × (Int → Int))} (P d : Nat) : (lS K C E C0 E0 s0 P).2.1 ≤ (lS K C E C0 E0 s0 (P + d)).2.1 ∧ ∀ j, j < 4 * (lS K C E C0 E0 s0 P).2.1 → (lS K C E C0 E0 s0 (P + d)).2.2 j = (lS K C E C0 E0 s0 P).2.2 j := by
  induction d with
  | zero => exact ⟨Int.le_refl _, fun _ _ => rfl⟩
  | succ d ih =>
    have a := lv_up (K := K) (C := C) (E := E) (C0 := C0) (E0 := E0) (s0 := s0) (P + d)
    refine ⟨Int.le_trans ih.1 a.1, fun j hj => ?_⟩
    have := a.2 j (by omega)
    rw [show P + (d + 1) = P + d + 1 by omega, this]
    exact ih.2 j hj
theorem lv_le {K : Nat} {C E C0 E0 : Nat → Int → Int} {s0 : ((Nat → Int) × Int × (Int → Int))} {P m : Nat} (h : P ≤ m) : (lS K C E C0 E0 s0 P).2.1 ≤ (lS K C E C0 E0 s0 m).2.1 ∧ ∀ j, j < 4 * (lS K C E C0 E0 s0 P).2.1 → (lS K C E C0 E0 s0 m).2.2 j = (lS K C E C0 E0 s0 P).2.2 j := by
  obtain ⟨d, rfl⟩ : ∃ d, m = P + d := ⟨m - P, by omega⟩
  exact lv_mon P d
theorem lv_17 {K : Nat} {C E C0 E0 : Nat → Int → Int} {s0 : ((Nat → Int) × Int × (Int → Int))} {q m : Nat} (h : q < m) (one : ¬ oneX K C (lS K C E C0 E0 s0 q).1) (g : ¬ 0 ≤ lH K C E C0 E0 (lS K C E C0 E0 s0 q)) : (lS K C E C0 E0 s0 q).2.1 + 1 ≤ (lS K C E C0 E0 s0 m).2.1 := by
  have a := (lv_le (K := K) (C := C) (E := E) (C0 := C0) (E0 := E0) (s0 := s0) (show q + 1 ≤ m by omega)).1
  have e : lS K C E C0 E0 s0 (q + 1) = lNx K C E C0 E0 (lS K C E C0 E0 s0 q) := rfl
  rw [e, lNx_0 one, if_neg g] at a
  exact a
/-- where no new hole is wanted the holes stay -/
theorem lv_stay {K : Nat} {C E C0 E0 : Nat → Int → Int} {s0 : ((Nat → Int) × Int × (Int → Int))} : ∀ m : Nat, (∀ q : Nat, q < m → ¬ (¬ oneX K C (lS K C E C0 E0 s0 q).1 ∧ ¬ 0 ≤ lH K C E C0 E0 (lS K C E C0 E0 s0 q))) → (lS K C E C0 E0 s0 m).2 = s0.2 := by
  intro m
  induction m with
  | zero => intro _; rfl
  | succ m ih =>
    intro h
    have e : lS K C E C0 E0 s0 (m + 1) = lNx K C E C0 E0 (lS K C E C0 E0 s0 m) := rfl
    have a := ih fun q hq => h q (by omega)
    rw [e, ← a]
    by_cases one : oneX K C (lS K C E C0 E0 s0 m).1
    · rw [lNx_1 one]
    · rw [lNx_0 one]
      by_cases g : 0 ≤ lH K C E C0 E0 (lS K C E C0 E0 s0 m)
      · rw [if_pos g]
      · exact absurd ⟨one, g⟩ (h m (by omega))
theorem lv_hb {K : Nat} {C E C0 E0 : Nat → Int → Int} {s0 : ((Nat → Int) × Int × (Int → Int))} {F : Int} {ns I : Int → Int} {n : Nat → Int} (K4 : K ≤ 4) {m : Nat} (LI' : ∀ P : Nat, P ≤ m → LI K C E C0 E0 s0 F ns I n P) (h0 : HBd K n s0) : ∀ P : Nat, P ≤ m → HBd K n (lS K C E C0 E0 s0 P) := by
  intro P
  induction P with
  | zero => intro _; exact h0
  | succ P ih =>
    intro h
    have d1 : 1 ≤ dd ns (lC K C E C0 E0 s0) P := (LI' (P + 1) h).1.1 P (by omega)
    exact HBd_s K4 (LI_x (LI' P (by omega)) d1) (ih (by omega))
/-- never two hundred holes -/
theorem lv_199 {K : Nat} {C E C0 E0 : Nat → Int → Int} {s0 : ((Nat → Int) × Int × (Int → Int))} {F : Int} {ns I : Int → Int} {n N L : Nat → Int} {u sl r na la : Nat → Int → Int} (T : ∀ k : Nat, k < K → Tr 0 F ns I (n k) (N k) (L k) (C k) (E k) (u k) (sl k) (r k) (na k) (la k)) (K1 : 1 ≤ K) {m : Nat} (LI' : ∀ P : Nat, P ≤ m → LI K C E C0 E0 s0 F ns I n P) (h0 : s0.2.1 = 0) {P : Nat} (hP : P < m) : 0 ≤ (lS K C E C0 E0 s0 P).2.1 ∧ (lS K C E C0 E0 s0 P).2.1 ≤ 199 := by
  have li := LI' P (by omega)
  have li2 := LI' (P + 1) (by omega)
  have d1 : 1 ≤ dd ns (lC K C E C0 E0 s0) P := li2.1.1 P (by omega)
  have p201 := (LI_40 T K1 li2).2.2
  have hn := li.2.2.2.2.2.1
  have nbb := nb_b (lC K C E C0 E0 s0) P
  rw [h0] at hn
  by_cases z : P = 0
  · omega
  · have l0 : 1000 ≤ (lC K C E C0 E0 s0) ((0 : Nat) : Int) := by
      refine Decidable.byContradiction fun l => ?_
      have e := dd_s ns (lC K C E C0 E0 s0) 0
      rw [if_neg l] at e
      have z0 : dd ns (lC K C E C0 E0 s0) 0 = 1 := rfl
      have a1 : 1 ≤ dd ns (lC K C E C0 E0 s0) (0 + 1) := li2.1.1 1 (by omega)
      omega
    have := nb_lt (lC K C E C0 E0 s0) (show 0 < P by omega) l0
    have := nb_b (lC K C E C0 E0 s0) 0
    omega
/-- every piece is one that its item asks for -/
theorem lv_okw {K : Nat} {C E C0 E0 : Nat → Int → Int} {s0 : ((Nat → Int) × Int × (Int → Int))} {F : Int} {ns I : Int → Int} {n N L : Nat → Int} {u sl r na la : Nat → Int → Int} (T : ∀ k : Nat, k < K → Tr 0 F ns I (n k) (N k) (L k) (C k) (E k) (u k) (sl k) (r k) (na k) (la k)) (K1 : 1 ≤ K) {m : Nat} (LI' : ∀ P : Nat, P ≤ m → LI K C E C0 E0 s0 F ns I n P) (h16 : (lS K C E C0 E0 s0 m).2.1 ≤ 16) (h0 : 0 ≤ s0.2.1) : OKW 1 ns I (lC K C E C0 E0 s0) m := fun q hq it hi => by
  have li := LI' q (by omega)
  have a := li.2.2.2.2.1 0 it hi 0 (by omega)
  have hn := li.2.2.2.2.2.1
  have ec : (lC K C E C0 E0 s0) q = lCd K C E C0 E0 (lS K C E C0 E0 s0 q) := lC_at q
  rw [ec]
  by_cases one : oneX K C (lS K C E C0 E0 s0 q).1
  · rw [lCd_1 one]
    have a : okc 0 it (C 0 ((lS K C E C0 E0 s0 q).1 0)) := a
    unfold okc at a ⊢
    omega
  · rw [lCd_0 one]
    refine Or.inr (Or.inr (Or.inr ⟨rfl, ?_⟩))
    by_cases g : 0 ≤ lH K C E C0 E0 (lS K C E C0 E0 s0 q)
    · rw [if_pos g]
      have b := (lH_b g).1
      have c := (lv_le (K := K) (C := C) (E := E) (C0 := C0) (E0 := E0) (s0 := s0) (show q ≤ m by omega)).1
      omega
    · rw [if_neg g]
      have b := lv_17 (K := K) (C := C) (E := E) (C0 := C0) (E0 := E0) (s0 := s0) hq one g
      omega
/-- what a hole of the row stands for: its first piece -/
theorem lv_head {K : Nat} {C E C0 E0 : Nat → Int → Int} {s0 : ((Nat → Int) × Int × (Int → Int))} {F : Int} {ns I : Int → Int} {n N L : Nat → Int} {u sl r na la : Nat → Int → Int} (T : ∀ k : Nat, k < K → Tr 0 F ns I (n k) (N k) (L k) (C k) (E k) (u k) (sl k) (r k) (na k) (la k)) (K1 : 1 ≤ K) (lf : ∀ y, 0 ≤ y → y < n 0 → ¬ 1000 ≤ C 0 y → C 0 y < 200) {m : Nat} (LI' : ∀ P : Nat, P ≤ m → LI K C E C0 E0 s0 F ns I n P) (h0 : 0 ≤ s0.2.1) (new : C0 = C ∨ ∀ q : Nat, q < m → ¬ (¬ oneX K C (lS K C E C0 E0 s0 q).1 ∧ ¬ 0 ≤ lH K C E C0 E0 (lS K C E C0 E0 s0 q))) {q : Nat} (hq : q < m) (c1 : 200 ≤ (lC K C E C0 E0 s0) q) (c2 : (lC K C E C0 E0 s0) q < 1000) : (0 ≤ (lC K C E C0 E0 s0) q - 200 ∧ (lC K C E C0 E0 s0) q - 200 < (lS K C E C0 E0 s0 m).2.1) ∧ ∀ it, (tgI ns I (lC K C E C0 E0 s0) q)[0]? = some it → okc 0 it (C0 0 ((lS K C E C0 E0 s0 m).2.2 (4 * ((lC K C E C0 E0 s0) q - 200)))) := by
  have li := LI' q (by omega)
  have li2 := LI' (q + 1) (by omega)
  have d1 : 1 ≤ dd ns (lC K C E C0 E0 s0) q := li2.1.1 q (by omega)
  have x0 := LI_x li d1 0 (by omega)
  have hn := li.2.2.2.2.2.1
  have ec : (lC K C E C0 E0 s0) q = lCd K C E C0 E0 (lS K C E C0 E0 s0 q) := lC_at q
  have no : ¬ oneX K C (lS K C E C0 E0 s0 q).1 := fun one => by
    rw [lCd_1 one] at ec
    have := lf _ x0.1 x0.2
    omega
  have its := fun it hi => li.2.2.2.2.1 0 it hi 0 (by omega)
  have mono := lv_le (K := K) (C := C) (E := E) (C0 := C0) (E0 := E0) (s0 := s0) (show q ≤ m by omega)
  rw [lCd_0 no] at ec
  by_cases g : 0 ≤ lH K C E C0 E0 (lS K C E C0 E0 s0 q)
  · rw [if_pos g] at ec
    obtain ⟨b1, b2⟩ := lH_b g
    obtain ⟨s1, s2⟩ := b2 0 (by omega)
    have ex := (T 0 (by omega)).2.1 _ x0.1 x0.2
    have s3 := s2 0 (Int.le_refl _) (by omega)
    rw [Int.add_zero, Int.add_zero] at s3
    have e1 : (lC K C E C0 E0 s0) q - 200 = lH K C E C0 E0 (lS K C E C0 E0 s0 q) := by omega
    refine ⟨by omega, fun it hi => ?_⟩
    rw [e1, mono.2 _ (by omega)]
    have a : okc 0 it (C 0 ((lS K C E C0 E0 s0 q).1 0)) := its it hi
    rw [s3] at a
    rw [show 4 * lH K C E C0 E0 (lS K C E C0 E0 s0 q) + ((0 : Nat) : Int) = 4 * lH K C E C0 E0 (lS K C E C0 E0 s0 q) by omega] at a
    exact a
  · rw [if_neg g] at ec
    rcases new with eC | no2
    · have b := lv_17 (K := K) (C := C) (E := E) (C0 := C0) (E0 := E0) (s0 := s0) hq no g
      have mo2 := lv_le (K := K) (C := C) (E := E) (C0 := C0) (E0 := E0) (s0 := s0) (show q + 1 ≤ m by omega)
      have eS : lS K C E C0 E0 s0 (q + 1) = lNx K C E C0 E0 (lS K C E C0 E0 s0 q) := rfl
      have e1 : (lC K C E C0 E0 s0) q - 200 = (lS K C E C0 E0 s0 q).2.1 := by omega
      refine ⟨by omega, fun it hi => ?_⟩
      have v1 : (lS K C E C0 E0 s0 (q + 1)).2.1 = (lS K C E C0 E0 s0 q).2.1 + 1 := by
        rw [eS, lNx_0 no, if_neg g]
      have v2 : (lS K C E C0 E0 s0 (q + 1)).2.2 (4 * (lS K C E C0 E0 s0 q).2.1) = (lS K C E C0 E0 s0 q).1 0 := by
        rw [eS, lNx_0 no, if_neg g]
        show (if 4 * (lS K C E C0 E0 s0 q).2.1 ≤ 4 * (lS K C E C0 E0 s0 q).2.1 then (lS K C E C0 E0 s0 q).1 (4 * (lS K C E C0 E0 s0 q).2.1 - 4 * (lS K C E C0 E0 s0 q).2.1).toNat else _) = _
        rw [if_pos (Int.le_refl _), Int.sub_self]
        rfl
      have e0 : C0 0 = C 0 := congrFun eC 0
      rw [e1, mo2.2 _ (by omega), v2, e0]
      exact its it hi
    · exact absurd ⟨no, g⟩ (no2 q hq)
/-- every hole stands somewhere -/
theorem lv_ex {K : Nat} {C E C0 E0 : Nat → Int → Int} {s0 : ((Nat → Int) × Int × (Int → Int))} (h0 : s0.2.1 = 0) : ∀ m : Nat, ∀ h : Int, 0 ≤ h → h < (lS K C E C0 E0 s0 m).2.1 → ∃ q : Nat, q < m ∧ (lC K C E C0 E0 s0) q = 200 + h := by
  intro m
  induction m with
  | zero =>
    intro h q0 q1
    have q1 : h < s0.2.1 := q1
    omega
  | succ m ih =>
    intro h q0 q1
    have e : lS K C E C0 E0 s0 (m + 1) = lNx K C E C0 E0 (lS K C E C0 E0 s0 m) := rfl
    have ec : (lC K C E C0 E0 s0) m = lCd K C E C0 E0 (lS K C E C0 E0 s0 m) := lC_at m
    by_cases z : h < (lS K C E C0 E0 s0 m).2.1
    · obtain ⟨q, a, b⟩ := ih h q0 z
      exact ⟨q, by omega, b⟩
    · by_cases one : oneX K C (lS K C E C0 E0 s0 m).1
      · rw [e, lNx_1 one] at q1
        exact absurd q1 z
      · by_cases g : 0 ≤ lH K C E C0 E0 (lS K C E C0 E0 s0 m)
        · rw [e, lNx_0 one, if_pos g] at q1
          exact absurd q1 z
        · rw [e, lNx_0 one, if_neg g] at q1
          have q1 : h < (lS K C E C0 E0 s0 m).2.1 + 1 := q1
          rw [lCd_0 one, if_neg g] at ec
          exact ⟨m, by omega, by omega⟩
end
