section
/-! at first -/
theorem gG_at {M : Nat → Nat → Value} {q : Nat} {f : Nat → Value} {j : Int} {v : Int32} (h : M q = f) (hv : f j.toNat = .int v) : gG M q j = v.toInt := by
  unfold gG
  rw [h, hv]
theorem lay_sub {μ : q_M} {a m : Nat} {l l2 : q_L} (h : q_lay μ a l) (h2 : ∀ k, k < l2.length → l[m + k]? = l2[k]?) : q_lay μ (a + m) l2 := by
  intro k x hx
  have hk : k < l2.length := (List.getElem?_eq_some_iff.mp hx).1
  rw [Nat.add_assoc]
  exact h (m + k) x (by rw [h2 k hk]; exact hx)
theorem lay_sub2 {μ : q_M} {a m w : Nat} {l l2 : q_L} (h : q_lay μ a l) (h2 : ∀ k, k < l2.length → l[m + w + k]? = l2[k]?) : q_lay μ (a + m + w) l2 := by
  rw [Nat.add_assoc]
  exact lay_sub h h2
theorem tree_0 {μ : q_M} {a : Nat} (h : q_lay μ a (L9 a)) : gG μ.2 a 0 = 0 ∧ gG μ.2 a 1 = 0 := by
  have c := (h 0 _ rfl).2
  exact ⟨(gG_at (q := a) (v := 0) c rfl).trans rfl, (gG_at (q := a) (v := 0) c rfl).trans rfl⟩
theorem lay_tree {μ : q_M} {B i : Nat} (h : q_lay μ B (L11 B)) (hi : i < 12) : q_lay μ (B + 398 + 10 * i) (L9 (B + 398 + 10 * i)) := lay_sub2 (L11x_of B ▸ h) (fun k hk => by
  rw [lL9] at hk
  exact sb11_3 hi hk)
theorem lay_turner {μ : q_M} {B : Nat} (h : q_lay μ B (L11 B)) : q_lay μ (B + 59) (L10 (B + 59)) := lay_sub (L11x_of B ▸ h) (fun k hk => by
  rw [lL10] at hk
  exact sb11_17 hk)
theorem lay_side {μ : q_M} {B i : Nat} (h : q_lay μ B (L11 B)) (hi : i < 12) : q_lay μ (B + 59 + 191 + 10 * i) (L9 (B + 59 + 191 + 10 * i)) := lay_sub2 (lay_turner h) (fun k hk => by
  rw [lL9] at hk
  exact sb10_5 hi hk)
theorem pairs_0 {μ : q_M} {B : Nat} (h : q_lay μ B (L11 B)) : gG μ.2 (B + 59) 0 = 0 ∧ gG μ.2 (B + 59) 1 = 0 := by
  have c := (lay_turner h 0 _ rfl).2
  exact ⟨(gG_at (q := B + 59) (v := 0) c rfl).trans rfl, (gG_at (q := B + 59) (v := 0) c rfl).trans rfl⟩
theorem turns_0 {μ : q_M} {B : Nat} (h : q_lay μ B (L11 B)) (k : Int) : gG μ.2 (B + 60) k = 0 ∧ gG μ.2 (B + 61) k = 0 := by
  have c1 := (lay_turner h 1 _ rfl).2
  have c2 := (lay_turner h 2 _ rfl).2
  exact ⟨(gG_at (q := B + 60) (v := 0) c1 rfl).trans rfl, (gG_at (q := B + 61) (v := 0) c2 rfl).trans rfl⟩
theorem shown_0 {μ : q_M} {B : Nat} (h2 : q_lay μ (B + 544) (L12 (B + 544))) : gG μ.2 (B + 544) 103 = 0 :=
  (gG_at (q := B + 544) (v := 0) (h2 0 _ rfl).2 rfl).trans rfl
theorem tell_0 {μ : q_M} {B : Nat} {i : Int} (h2 : q_lay μ (B + 544) (L12 (B + 544))) (q1 : 0 ≤ i) (q2 : i ≤ 11) : gG μ.2 (B + 544 + 16) i = -1 :=
  (gG_at (v := -1) (h2 16 _ rfl).2 (if_pos (by omega))).trans rfl
theorem turnTell_0 {μ : q_M} {B : Nat} {i : Int} (h2 : q_lay μ (B + 544) (L12 (B + 544))) (q1 : 0 ≤ i) (q2 : i ≤ 5) : gG μ.2 (B + 544 + 82) i = -1 :=
  (gG_at (v := -1) (h2 82 _ rfl).2 (if_pos (by omega))).trans rfl
theorem re_0 {μ : q_M} {B : Nat} (h1 : q_lay μ B (L11 B)) (h2 : q_lay μ (B + 544) (L12 (B + 544))) : IRe (gG μ.2) B := by
  obtain ⟨p0, p1⟩ := pairs_0 h1
  refine ⟨fun i q1 q2 => ?_, ⟨?_, ?_, ?_, fun k q1 q2 => ?_⟩, fun k q1 q2 => ?_⟩
  · obtain ⟨e0, e1⟩ := tree_0 (lay_tree h1 (i := i.toNat) (by omega))
    exact ⟨by omega, Or.inl ⟨e0, tell_0 h2 q1 q2⟩⟩
  · rw [shown_0 h2, p0]
  · omega
  · omega
  · omega
  · obtain ⟨e0, e1⟩ := tree_0 (lay_side h1 (i := 2 * k.toNat) (by omega))
    rw [show B + 59 + 191 + 10 * (2 * k.toNat) = B + 250 + 20 * k.toNat by omega] at e0 e1
    exact ⟨by omega, Or.inl ⟨(turns_0 h1 k).1, turnTell_0 h2 q1 q2⟩⟩
/-- at first all stands as it should -/
theorem inv_0 {μ : q_M} {B : Nat} (h1 : q_lay μ B (L11 B)) (h2 : q_lay μ (B + 544) (L12 (B + 544))) : Inv μ.1.1 (gR μ.2) (gG μ.2) B := by
  have c := fun k x hx => (h1 k x hx).2
  have d := fun k x hx => (h2 k x hx).2
  refine ⟨⟨B + 370, B + 370, B + 370, B + 398, L11x_of B ▸ ly_of h1, ly_of h2⟩, ?_, ?_, ?_, ?_, ?_, ?_, ?_, re_0 h1 h2⟩
  · intro v w h3 h4 h5 h6
    have e1 : gG μ.2 (B + 544 + 1) (12 * v + w) = 3 := by
      have hq : 12 * v + w < 24 := by omega
      rw [gG_at (v := 3) (d 1 _ rfl) (if_pos (by omega))]
      rfl
    have e2 : gG μ.2 (B + 370 + 14 * v.toNat + 1) w = 3 := by
      have hv : v = 0 ∨ v = 1 := by omega
      rcases hv with rfl | rfl
      · rw [show B + 370 + 14 * (0 : Int).toNat + 1 = B + 371 from rfl, gG_at (v := 3) (c 371 _ rfl) (if_pos (by omega))]
        rfl
      · rw [show B + 370 + 14 * (1 : Int).toNat + 1 = B + 385 from rfl, gG_at (v := 3) (c 385 _ rfl) (if_pos (by omega))]
        rfl
    rw [e1, e2]
    omega
  · intro v h3 h4
    have e1 : gG μ.2 (B + 370 + 14 * v.toNat) 1 = 0 := by
      have hv : v = 0 ∨ v = 1 := by omega
      rcases hv with rfl | rfl
      · rw [show B + 370 + 14 * (0 : Int).toNat = B + 370 from rfl, gG_at (v := 0) (c 370 _ rfl) rfl]
        rfl
      · rw [show B + 370 + 14 * (1 : Int).toNat = B + 384 from rfl, gG_at (v := 0) (c 384 _ rfl) rfl]
        rfl
    have e2 : gG μ.2 (B + 544 + 2) v = 0 := by
      rw [gG_at (v := 0) (d 2 _ rfl) rfl]
      rfl
    refine ⟨by rw [e1, e2], by omega, by omega, fun f h5 h6 => ?_⟩
    omega
  · intro t h3 h4
    have e1 : gG μ.2 (B + 3) t = 0 := by
      rw [gG_at (v := 0) (c 3 _ rfl) rfl]
      rfl
    have e2 : gG μ.2 (B + 544 + 15) t = 0 := by
      rw [gG_at (v := 0) (d 15 _ rfl) rfl]
      rfl
    refine ⟨by rw [e1, e2], by omega, by omega, fun i h5 h6 => ?_⟩
    omega
  · intro i h3 h4
    have e1 : gG μ.2 (B + 15) i = 0 := by
      rw [gG_at (v := 0) (c 15 _ rfl) rfl]
      rfl
    have e2 : gG μ.2 (B + 544 + 76) i = 0 := by
      rw [gG_at (v := 0) (d 76 _ rfl) rfl]
      rfl
    rw [e1, e2]
  · have e1 : gG μ.2 B 18 = 0 := by
      rw [gG_at (q := B) (v := 0) (c 0 _ rfl) rfl]
      rfl
    have e2 : gG μ.2 (B + 544) 93 = 0 := by
      rw [gG_at (q := B + 544) (v := 0) (d 0 _ rfl) rfl]
      rfl
    show zI _ = zI _
    rw [e1, e2]
  · intro s h3 h4
    refine Or.inl ⟨?_, ?_⟩
    · have hv : s = 0 ∨ s = 1 ∨ s = 2 ∨ s = 3 := by omega
      rcases hv with rfl | rfl | rfl | rfl
      · rw [show B + 518 + 2 * (0 : Int).toNat = B + 518 from rfl, gG_at (v := 0) (c 518 _ rfl) rfl]
        rfl
      · rw [show B + 518 + 2 * (1 : Int).toNat = B + 520 from rfl, gG_at (v := 0) (c 520 _ rfl) rfl]
        rfl
      · rw [show B + 518 + 2 * (2 : Int).toNat = B + 522 from rfl, gG_at (v := 0) (c 522 _ rfl) rfl]
        rfl
      · rw [show B + 518 + 2 * (3 : Int).toNat = B + 524 from rfl, gG_at (v := 0) (c 524 _ rfl) rfl]
        rfl
    · rw [gG_at (v := -1) (d 95 _ rfl) (if_pos (by omega))]
      rfl
  · intro f h3 h4
    have e1 : gG μ.2 (B + 17) f = -1 := by
      rw [gG_at (v := -1) (c 17 _ rfl) (if_pos (by omega))]
      rfl
    have e2 : gG μ.2 (B + 544 + 93) f = -1 := by
      rw [gG_at (v := -1) (d 93 _ rfl) (if_pos (by omega))]
      rfl
    refine ⟨by rw [e1, e2], by omega, by omega, fun h => ?_⟩
    omega
end
