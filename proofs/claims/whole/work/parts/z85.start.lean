section
/-! at first -/
theorem gG_at {M : Nat → Nat → Value} {q : Nat} {f : Nat → Value} {j : Int} {v : Int32} (h : M q = f) (hv : f j.toNat = .int v) : gG M q j = v.toInt := by
  unfold gG
  rw [h, hv]
theorem lay_sub {μ : q_M} {a m : Nat} {l l2 : q_L} (h : q_lay μ a l) (h2 : ∀ k, k < l2.length → l[m + k]? = l2[k]?) : q_lay μ (a + m) l2 := by
  intro k x hx
  have hk : k < l2.length := (List.getElem?_eq_some_iff.mp hx).1
  rw [Nat.add_assoc]
  exact h (m + k) x (by rw [h2 k hk]; exact hx)
theorem lay_sub2 {μ : q_M} {a m w : Nat} {l l2 : q_L} (h : q_lay μ a l) (h2 : ∀ k, k < l2.length → l[m + w + k]? = l2[k]?) : q_lay μ (a + m + w) l2 := by
  rw [Nat.add_assoc]
  exact lay_sub h h2
theorem tree_0 {μ : q_M} {a : Nat} (h : q_lay μ a (L9 a)) : gG μ.2 a 0 = 0 ∧ gG μ.2 a 1 = 0 := by
  have c := (h 0 _ rfl).2
  exact ⟨(gG_at (q := a) (v := 0) c rfl).trans rfl, (gG_at (q := a) (v := 0) c rfl).trans rfl⟩
theorem lay_tree {μ : q_M} {B i : Nat} (h : q_lay μ B (L11 B)) (hi : i < 12) : q_lay μ (B + 398 + 10 * i) (L9 (B + 398 + 10 * i)) := lay_sub2 (L11x_of B ▸ h) (fun k hk => by
  rw [lL9] at hk
  exact sb11_3 hi hk)
theorem lay_turner {μ : q_M} {B : Nat} (h : q_lay μ B (L11 B)) : q_lay μ (B + 59) (L10 (B + 59)) := lay_sub (L11x_of B ▸ h) (fun k hk => by
  rw [lL10] at hk
  exact sb11_17 hk)
theorem lay_side {μ : q_M} {B i : Nat} (h : q_lay μ B (L11 B)) (hi : i < 12) : q_lay μ (B + 59 + 191 + 10 * i) (L9 (B + 59 + 191 + 10 * i)) := lay_sub2 (lay_turner h) (fun k hk => by
  rw [lL9] at hk
  exact sb10_5 hi hk)
theorem pairs_0 {μ : q_M} {B : Nat} (h : q_lay μ B (L11 B)) : gG μ.2 (B + 59) 0 = 0 ∧ gG μ.2 (B + 59) 1 = 0 := by
  have c := (lay_turner h 0 _ rfl).2
  exact ⟨(gG_at (q := B + 59) (v := 0) c rfl).trans rfl, (gG_at (q := B + 59) (v := 0) c rfl).trans rfl⟩
theorem turns_0 {μ : q_M} {B : Nat} (h : q_lay μ B (L11 B)) (k : Int) : gG μ.2 (B + 60) k = 0 ∧ gG μ.2 (B + 61) k = 0 := by
  have c1 := (lay_turner h 1 _ rfl).2
  have c2 := (lay_turner h 2 _ rfl).2
  exact ⟨(gG_at (q := B + 60) (v := 0) c1 rfl).trans rfl, (gG_at (q := B + 61) (v := 0) c2 rfl).trans rfl⟩
theorem shown_0 {μ : q_M} {B : Nat} (h2 : q_lay μ (B + 544) (L12 (B + 544))) : gG μ.2 (B + 544) 103 = 0 :=
  (gG_at (q := B + 544) (f := F12_98 (B + 544)) (v := 0) (h2 0 _ rfl).2 (fsn (by decide) (fsn (by decide) (fsn (by decide) (fsn (by decide) (fsn (by decide) (fsn (by decide) (fsn (by decide) (fsn (by decide) (fsn (by decide) (fsn (by decide) (fsn (by decide) (fsn (by decide) (fsn (by decide) (fsn (by decide) (fsn (by decide) (fsn (by decide) (fsn (by decide) (fsn (by decide) (fsn (by decide) (fsn (by decide) (fsn (by decide) (fsn (by decide) (fsn (by decide) (fsn (by decide) (fsn (by decide) (fsn (by decide) (fsn (by decide) (fsn (by decide) (fsn (by decide) (fsn (by decide) (fsn (by decide) (fsn (by decide) (fsn (by decide) (fsn (by decide) (fsn (by decide) (fsn (by decide) (fsn (by decide) (fsn (by decide) (fsn (by decide) (fsn (by decide) (fsn (by decide) (fsn (by decide) (fsn (by decide) (fsn (by decide) (fsn (by decide) (fsn (by decide) (fsn (by decide) (fsn (by decide) (fsn (by decide) (fsn (by decide) (fsn (by decide) (fsn (by decide) (fsn (by decide) (fsn (by decide) (fsn (by decide) (fsn (by decide) (fsn (by decide) (fsn (by decide) (fsn (by decide) (fsn (by decide) (fsn (by decide) (fsn (by decide) (fsn (by decide) (fsn (by decide) (fsn (by decide) (fsn (by decide) (fsn (by decide) (fsn (by decide) (fsn (by decide) (fsn (by decide) (fsn (by decide) (fsn (by decide) (fsn (by decide) (fsn (by decide) (fsn (by decide) (fsn (by decide) (fsn (by decide) (fsn (by decide) (fsn (by decide) (fsn (by decide) (fsn (by decide) (fsn (by decide) (fsn (by decide) (fsn (by decide) (fsn (by decide) (fsn (by decide) (fsn (by decide) (fsn (by decide) (fsn (by decide) (fsn (by decide) (fsn (by decide) (fsn (by decide) (fsn (by decide) (fsn (by decide) (fsn (by decide) (fsn (by decide) (fsn (by decide) (fsn (by decide) rfl))))))))))))))))))))))))))))))))))))))))))))))))))))))))))))))))))))))))))))))))))))))))))))))))))).trans rfl
theorem tell_0 {μ : q_M} {B : Nat} {i : Int} (h2 : q_lay μ (B + 544) (L12 (B + 544))) (q1 : 0 ≤ i) (q2 : i ≤ 11) : gG μ.2 (B + 544 + 16) i = -1 :=
  (gG_at (v := -1) (h2 16 _ (gtc (gt_set_ne (by decide) (gt_set_ne (by decide) (gt_set_ne (by decide) (gt_set (gt_set_ne (by decide) (gt_app (gt_app (gt_app (gt_app (gt_app (gt_app (gt_app (gt_app (gt_app (gt_app (gt_app (gt_app (gt_app (gt_app (gt_app (gt_app (gt_app (gt_app (gt_app (gt_app (gt_app (gt_app (gt_app (gt_app (gt_app (gt_app (gt_app (gt_app (gt_app (gt_app (gt_app (gt_app (gt_app (gt_app (gt_app (gt_app (gt_app (gt_app (gt_app (gt_app (gt_app (gt_app (gt_app (gt_app (gt_app (gt_app (gt_app (gt_app (gt_app (gt_app (gt_app (gt_app (gt_app (gt_app (gt_app (gt_app (gt_app (gt_app (gt_app (gt_app (gt_app (gt_app (gt_app (gt_app (gt_app (gt_app (gt_app (gt_app (gt_app (gt_app (gt_app (gt_app (gt_app (gt_app (gt_app (gt_app (gt_app (gt_app (gt_app (gt_app (gt_app (gt_app (gt_last lC12_15)))))))))))))))))))))))))))))))))))))))))))))))))))))))))))))))))))))))))))))))))))))))))).2 (if_pos (by omega))).trans rfl
theorem turnTell_0 {μ : q_M} {B : Nat} {i : Int} (h2 : q_lay μ (B + 544) (L12 (B + 544))) (q1 : 0 ≤ i) (q2 : i ≤ 5) : gG μ.2 (B + 544 + 82) i = -1 :=
  (gG_at (v := -1) (h2 82 _ (gtc (gt_set_ne (by decide) (gt_set_ne (by decide) (gt_set (gt_set_ne (by decide) (gt_set_ne (by decide) (gt_app (gt_app (gt_app (gt_app (gt_app (gt_app (gt_app (gt_app (gt_app (gt_app (gt_app (gt_app (gt_app (gt_app (gt_app (gt_app (gt_last lC12_81)))))))))))))))))))))))).2 (if_pos (by omega))).trans rfl
theorem re_0 {μ : q_M} {B : Nat} (h1 : q_lay μ B (L11 B)) (h2 : q_lay μ (B + 544) (L12 (B + 544))) : IRe (gG μ.2) B := by
  obtain ⟨p0, p1⟩ := pairs_0 h1
  refine ⟨fun i q1 q2 => ?_, ⟨?_, ?_, ?_, fun k q1 q2 => ?_⟩, fun k q1 q2 => ?_⟩
  · obtain ⟨e0, e1⟩ := tree_0 (lay_tree h1 (i := i.toNat) (by omega))
    exact ⟨by omega, Or.inl ⟨e0, tell_0 h2 q1 q2⟩⟩
  · rw [shown_0 h2, p0]
  · omega
  · omega
  · omega
  · obtain ⟨e0, e1⟩ := tree_0 (lay_side h1 (i := 2 * k.toNat) (by omega))
    rw [show B + 59 + 191 + 10 * (2 * k.toNat) = B + 250 + 20 * k.toNat by omega] at e0 e1
    exact ⟨by omega, Or.inl ⟨(turns_0 h1 k).1, turnTell_0 h2 q1 q2⟩⟩
/-- at first all stands as it should -/
theorem inv_0 {μ : q_M} {B : Nat} (h1 : q_lay μ B (L11 B)) (h2 : q_lay μ (B + 544) (L12 (B + 544))) : Inv μ.1.1 (gR μ.2) (gG μ.2) B := by
  have hx : q_lay μ B (L11x B (B + 370) (B + 370) (B + 370) (B + 398)) := L11x_of B ▸ h1
  have l8 : ∀ i : Nat, i < 2 → q_lay μ (B + 370 + 14 * i) (L8 (B + 370 + 14 * i)) := fun i hi => lay_sub2 hx (fun k hk => sb11_0 hi hk)
  have l7 : ∀ i : Nat, i < 4 → q_lay μ (B + 518 + 2 * i) (L7 (B + 518 + 2 * i)) := fun i hi => lay_sub2 hx (fun k hk => sb11_9 hi hk)
  have c := fun k x hq => (hx k x hq).2
  have d := fun k x hx => (h2 k x hx).2
  refine ⟨⟨B + 370, B + 370, B + 370, B + 398, L11x_of B ▸ ly_of h1, ly_of h2⟩, ?_, ?_, ?_, ?_, ?_, ?_, ?_, re_0 h1 h2⟩
  · intro v w h3 h4 h5 h6
    have e1 : gG μ.2 (B + 544 + 1) (12 * v + w) = 3 := by
      have hq : 12 * v + w < 24 := by omega
      rw [gG_at (v := 3) (d 1 _ (gtc (gt_set_ne (by decide) (gt_set_ne (by decide) (gt_set_ne (by decide) (gt_set_ne (by decide) (gt_set (gt_app (gt_app (gt_app (gt_app (gt_app (gt_app (gt_app (gt_app (gt_app (gt_app (gt_app (gt_app (gt_app (gt_app (gt_app (gt_app (gt_app (gt_app (gt_app (gt_app (gt_app (gt_app (gt_app (gt_app (gt_app (gt_app (gt_app (gt_app (gt_app (gt_app (gt_app (gt_app (gt_app (gt_app (gt_app (gt_app (gt_app (gt_app (gt_app (gt_app (gt_app (gt_app (gt_app (gt_app (gt_app (gt_app (gt_app (gt_app (gt_app (gt_app (gt_app (gt_app (gt_app (gt_app (gt_app (gt_app (gt_app (gt_app (gt_app (gt_app (gt_app (gt_app (gt_app (gt_app (gt_app (gt_app (gt_app (gt_app (gt_app (gt_app (gt_app (gt_app (gt_app (gt_app (gt_app (gt_app (gt_app (gt_app (gt_app (gt_app (gt_app (gt_app (gt_app (gt_app (gt_app (gt_app (gt_app (gt_app (gt_app (gt_app (gt_app (gt_app (gt_app (gt_app (gt_app (gt_app (gt_app (gt_last lC12_0))))))))))))))))))))))))))))))))))))))))))))))))))))))))))))))))))))))))))))))))))))))))))))))))))))))))) (if_pos (by omega))]
      rfl
    have e2 : gG μ.2 (B + 370 + 14 * v.toNat + 1) w = 3 := by
      rw [gG_at (v := 3) (l8 v.toNat (by omega) 1 _ rfl).2 (if_pos (by omega))]
      rfl
    rw [e1, e2]
    omega
  · intro v h3 h4
    have e1 : gG μ.2 (B + 370 + 14 * v.toNat) 1 = 0 := by
      rw [gG_at (q := B + 370 + 14 * v.toNat) (v := 0) (l8 v.toNat (by omega) 0 _ rfl).2 rfl]
      rfl
    have e2 : gG μ.2 (B + 544 + 2) v = 0 := by
      rw [gG_at (v := 0) (d 2 _ (gtc (gt_set_ne (by decide) (gt_set_ne (by decide) (gt_set_ne (by decide) (gt_set_ne (by decide) (gt_set_ne (by decide) (gt_app (gt_app (gt_app (gt_app (gt_app (gt_app (gt_app (gt_app (gt_app (gt_app (gt_app (gt_app (gt_app (gt_app (gt_app (gt_app (gt_app (gt_app (gt_app (gt_app (gt_app (gt_app (gt_app (gt_app (gt_app (gt_app (gt_app (gt_app (gt_app (gt_app (gt_app (gt_app (gt_app (gt_app (gt_app (gt_app (gt_app (gt_app (gt_app (gt_app (gt_app (gt_app (gt_app (gt_app (gt_app (gt_app (gt_app (gt_app (gt_app (gt_app (gt_app (gt_app (gt_app (gt_app (gt_app (gt_app (gt_app (gt_app (gt_app (gt_app (gt_app (gt_app (gt_app (gt_app (gt_app (gt_app (gt_app (gt_app (gt_app (gt_app (gt_app (gt_app (gt_app (gt_app (gt_app (gt_app (gt_app (gt_app (gt_app (gt_app (gt_app (gt_app (gt_app (gt_app (gt_app (gt_app (gt_app (gt_app (gt_app (gt_app (gt_app (gt_app (gt_app (gt_app (gt_app (gt_app (gt_last lC12_1)))))))))))))))))))))))))))))))))))))))))))))))))))))))))))))))))))))))))))))))))))))))))))))))))))))))) rfl]
      rfl
    refine ⟨by rw [e1, e2], by omega, by omega, fun f h5 h6 => ?_⟩
    omega
  · intro t h3 h4
    have e1 : gG μ.2 (B + 3) t = 0 := by
      rw [gG_at (v := 0) (c 3 _ (gtc (gt_app (gt_app (gt_app (gt_set_ne (by decide) (gt_set_ne (by decide) (gt_app (gt_set_ne (by decide) (gt_app (gt_set_ne (by decide) (gt_app (gt_app (gt_app (gt_app (gt_app (gt_app (gt_app (gt_app (gt_app (gt_app (gt_app (gt_app (gt_app (gt_last lC11_2))))))))))))))))))))))))) rfl]
      rfl
    have e2 : gG μ.2 (B + 544 + 15) t = 0 := by
      rw [gG_at (v := 0) (d 15 _ (gtc (gt_set_ne (by decide) (gt_set_ne (by decide) (gt_set_ne (by decide) (gt_set_ne (by decide) (gt_set_ne (by decide) (gt_app (gt_app (gt_app (gt_app (gt_app (gt_app (gt_app (gt_app (gt_app (gt_app (gt_app (gt_app (gt_app (gt_app (gt_app (gt_app (gt_app (gt_app (gt_app (gt_app (gt_app (gt_app (gt_app (gt_app (gt_app (gt_app (gt_app (gt_app (gt_app (gt_app (gt_app (gt_app (gt_app (gt_app (gt_app (gt_app (gt_app (gt_app (gt_app (gt_app (gt_app (gt_app (gt_app (gt_app (gt_app (gt_app (gt_app (gt_app (gt_app (gt_app (gt_app (gt_app (gt_app (gt_app (gt_app (gt_app (gt_app (gt_app (gt_app (gt_app (gt_app (gt_app (gt_app (gt_app (gt_app (gt_app (gt_app (gt_app (gt_app (gt_app (gt_app (gt_app (gt_app (gt_app (gt_app (gt_app (gt_app (gt_app (gt_app (gt_app (gt_app (gt_app (gt_app (gt_last lC12_14))))))))))))))))))))))))))))))))))))))))))))))))))))))))))))))))))))))))))))))))))))))))))) rfl]
      rfl
    refine ⟨by rw [e1, e2], by omega, by omega, fun i h5 h6 => ?_⟩
    omega
  · intro i h3 h4
    have e1 : gG μ.2 (B + 15) i = 0 := by
      rw [gG_at (v := 0) (c 15 _ (gtc (gt_app (gt_app (gt_app (gt_set_ne (by decide) (gt_set_ne (by decide) (gt_app (gt_set_ne (by decide) (gt_app (gt_set_ne (by decide) (gt_app (gt_app (gt_app (gt_app (gt_app (gt_app (gt_app (gt_app (gt_app (gt_app (gt_last lC11_5)))))))))))))))))))))) rfl]
      rfl
    have e2 : gG μ.2 (B + 544 + 76) i = 0 := by
      rw [gG_at (v := 0) (d 76 _ (gtc (gt_set_ne (by decide) (gt_set_ne (by decide) (gt_set_ne (by decide) (gt_set_ne (by decide) (gt_set_ne (by decide) (gt_app (gt_app (gt_app (gt_app (gt_app (gt_app (gt_app (gt_app (gt_app (gt_app (gt_app (gt_app (gt_app (gt_app (gt_app (gt_app (gt_app (gt_app (gt_app (gt_app (gt_app (gt_app (gt_last lC12_75)))))))))))))))))))))))))))))) rfl]
      rfl
    rw [e1, e2]
  · have e1 : gG μ.2 B 18 = 0 := by
      rw [gG_at (q := B) (j := 18) (v := 0) (c 0 _ rfl) rfl]
      rfl
    have e2 : gG μ.2 (B + 544) 93 = 0 := by
      rw [gG_at (q := B + 544) (f := F12_98 (B + 544)) (j := 93) (v := 0) (d 0 _ rfl) (fsn (by decide) (fsn (by decide) (fsn (by decide) (fsn (by decide) (fsn (by decide) (fsn (by decide) (fsn (by decide) (fsn (by decide) (fsn (by decide) (fsn (by decide) (fsn (by decide) (fsn (by decide) (fsn (by decide) (fsn (by decide) (fsn (by decide) (fsn (by decide) (fsn (by decide) (fsn (by decide) (fsn (by decide) (fsn (by decide) (fsn (by decide) (fsn (by decide) (fsn (by decide) (fsn (by decide) (fsn (by decide) (fsn (by decide) (fsn (by decide) (fsn (by decide) (fsn (by decide) (fsn (by decide) (fsn (by decide) (fsn (by decide) (fsn (by decide) (fsn (by decide) (fsn (by decide) (fsn (by decide) (fsn (by decide) (fsn (by decide) (fsn (by decide) (fsn (by decide) (fsn (by decide) (fsn (by decide) (fsn (by decide) (fsn (by decide) (fsn (by decide) (fsn (by decide) (fsn (by decide) (fsn (by decide) (fsn (by decide) (fsn (by decide) (fsn (by decide) (fsn (by decide) (fsn (by decide) (fsn (by decide) (fsn (by decide) (fsn (by decide) (fsn (by decide) (fsn (by decide) (fsn (by decide) (fsn (by decide) (fsn (by decide) (fsn (by decide) (fsn (by decide) (fsn (by decide) (fsn (by decide) (fsn (by decide) (fsn (by decide) (fsn (by decide) (fsn (by decide) (fsn (by decide) (fsn (by decide) (fsn (by decide) (fsn (by decide) (fsn (by decide) (fsn (by decide) (fsn (by decide) (fsn (by decide) (fsn (by decide) (fsn (by decide) (fsn (by decide) (fsn (by decide) (fsn (by decide) (fsn (by decide) (fsn (by decide) (fsn (by decide) (fsn (by decide) (fsn (by decide) (fsn (by decide) (fsn (by decide) (fsn (by decide) (fsn (by decide) (fsn (by decide) (fsn (by decide) (fsn (by decide) (fsn (by decide) (fsn (by decide) (fsn (by decide) (fsn (by decide) rfl))))))))))))))))))))))))))))))))))))))))))))))))))))))))))))))))))))))))))))))))))))))))))))))))))]
      rfl
    show zI _ = zI _
    rw [e1, e2]
  · intro s h3 h4
    refine Or.inl ⟨?_, ?_⟩
    · rw [gG_at (q := B + 518 + 2 * s.toNat) (v := 0) (l7 s.toNat (by omega) 0 _ rfl).2 rfl]
      rfl
    · rw [gG_at (v := -1) (d 95 _ (gtc (gt_set_ne (by decide) (gt_set (gt_set_ne (by decide) (gt_set_ne (by decide) (gt_set_ne (by decide) (gt_app (gt_app (gt_app (gt_last lC12_94))))))))))) (if_pos (by omega))]
      rfl
  · intro f h3 h4
    have e1 : gG μ.2 (B + 17) f = -1 := by
      rw [gG_at (v := -1) (c 17 _ (gtc (gt_app (gt_app (gt_app (gt_set (gt_set_ne (by decide) (gt_app (gt_set_ne (by decide) (gt_app (gt_set_ne (by decide) (gt_app (gt_app (gt_app (gt_app (gt_app (gt_app (gt_app (gt_app (gt_last lC11_7)))))))))))))))))))) (if_pos (by omega))]
      rfl
    have e2 : gG μ.2 (B + 544 + 93) f = -1 := by
      rw [gG_at (v := -1) (d 93 _ (gtc (gt_set (gt_set_ne (by decide) (gt_set_ne (by decide) (gt_set_ne (by decide) (gt_set_ne (by decide) (gt_app (gt_app (gt_app (gt_app (gt_app (gt_last lC12_92))))))))))))) (if_pos (by omega))]
      rfl
    refine ⟨by rw [e1, e2], by omega, by omega, fun h => ?_⟩
    omega
end
