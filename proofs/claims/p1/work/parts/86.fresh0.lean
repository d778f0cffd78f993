section
theorem fr_at0 {μ : q_M} {B : Nat} (h1 : q_lay μ B (L11 B)) (h2 : q_lay μ (B + 544) (L12 (B + 544))) : Fr (gG μ.2) B := by
  obtain ⟨p0, p1⟩ := pairs_0 h1
  have c := fun k x hx => (h1 k x hx).2
  have d := fun k x hx => (h2 k x hx).2
  refine ⟨fun v q => ?_, fun v q => ?_, p0, shown_0 h2, fun v q1 q2 => ?_, fun t q1 q2 => ?_, fun s q1 q2 => ⟨?_, ?_⟩, fun f q1 q2 => ?_, fun v q1 q2 => tell_0 h2 q1 q2, fun v q1 q2 => turnTell_0 h2 q1 q2, ⟨?_, ?_, ?_, fun j q1 q2 => ?_⟩, ?_, ?_, ?_, ?_, fun j q1 q2 => ?_, fun j q1 q2 => ?_, fun k q1 q2 => (turns_0 h1 k).2⟩
  · have := (tree_0 (lay_tree h1 (i := v.toNat) (by omega))).1
    omega
  · have := (turns_0 h1 v).1
    omega
  · have hv : v = 0 ∨ v = 1 := by omega
    rcases hv with rfl | rfl
    · rw [show B + 370 + 14 * (0 : Int).toNat = B + 370 from rfl, gG_at (v := 0) (c 370 _ rfl) rfl]
      rfl
    · rw [show B + 370 + 14 * (1 : Int).toNat = B + 384 from rfl, gG_at (v := 0) (c 384 _ rfl) rfl]
      rfl
  · rw [gG_at (v := 0) (c 3 _ rfl) rfl]
    rfl
  · have hv : s = 0 ∨ s = 1 ∨ s = 2 ∨ s = 3 := by omega
    rcases hv with rfl | rfl | rfl | rfl
    · rw [show B + 518 + 2 * (0 : Int).toNat = B + 518 from rfl, gG_at (v := 0) (c 518 _ rfl) rfl]
      rfl
    · rw [show B + 518 + 2 * (1 : Int).toNat = B + 520 from rfl, gG_at (v := 0) (c 520 _ rfl) rfl]
      rfl
    · rw [show B + 518 + 2 * (2 : Int).toNat = B + 522 from rfl, gG_at (v := 0) (c 522 _ rfl) rfl]
      rfl
    · rw [show B + 518 + 2 * (3 : Int).toNat = B + 524 from rfl, gG_at (v := 0) (c 524 _ rfl) rfl]
      rfl
  · rw [gG_at (v := -1) (d 95 _ rfl) (if_pos (by omega))]
    rfl
  · rw [gG_at (v := -1) (c 17 _ rfl) (if_pos (by omega))]
    rfl
  · exact (gG_at (q := B + 20) (v := 0) (c 20 _ rfl) rfl).trans rfl
  · exact (gG_at (q := B + 20) (v := 0) (c 20 _ rfl) rfl).trans rfl
  · exact (gG_at (q := B + 20) (v := 0) (c 20 _ rfl) rfl).trans rfl
  · exact (gG_at (q := B + 20 + 3) (v := 0) (c 23 _ rfl) rfl).trans rfl
  · exact (gG_at (q := B + 526) (v := 0) (c 526 _ rfl) rfl).trans rfl
  · exact (gG_at (q := B + 544) (v := 0) (d 0 _ rfl) rfl).trans rfl
  · exact (gG_at (q := B + 544) (v := 0) (d 0 _ rfl) rfl).trans rfl
  · exact (gG_at (q := B + 544) (v := 0) (d 0 _ rfl) rfl).trans rfl
  · exact (gG_at (q := (B + 544 + 40)) (v := 0) (d 40 _ rfl) rfl).trans rfl
  · exact (gG_at (q := (B + 544 + 47)) (v := 0) (d 47 _ rfl) rfl).trans rfl
end
