section
/-- from a on the cells are as l says: what they are, and the references in them -/
def gRf (f : Nat → Value) : Nat → Option Value := fun j => match f j with
  | .int _ => none
  | v => some v
def Ly (T : Nat → Option q_T) (R : Nat → Nat → Option Value) (a : Nat) (l : q_L) : Prop := ∀ (k : Nat) (c : q_T × (Nat → Value)), l[k]? = some c → T (a + k) = some c.1 ∧ ∀ j, R (a + k) j = gRf c.2 j
theorem ly_of {μ : q_M} {a : Nat} {l : q_L} (h : q_lay μ a l) : Ly μ.1.1 (gR μ.2) a l := by
  intro k c hc
  have := h k c hc
  refine ⟨this.1, fun j => ?_⟩
  unfold gR gRf
  rw [this.2]
theorem gRf_if (p : Nat → Prop) [∀ j, Decidable (p j)] (v w : Int32) (j : Nat) : gRf (fun i => if p i then .int v else .int w) j = none := by
  unfold gRf
  by_cases h : p j
  · simp [h]
  · simp [h]
theorem gRf_r {N i : Nat} {f : Nat → Nat} (hi : i < N) : gRf (fun j => if j < N then Value.ref (f j) else Value.null) i = some (.ref (f i)) := by
  unfold gRf
  simp [hi]
theorem ly_v {T : Nat → Option q_T} {R : Nat → Nat → Option Value} {q j : Nat} {c : q_T × (Nat → Value)} (h : T q = some c.1 ∧ ∀ j, R q j = gRf c.2 j) (h2 : ∀ j, gRf c.2 j = none) : R q j = none := (h.2 j).trans (h2 j)
theorem ly_u {T : Nat → Option q_T} {R : Nat → Nat → Option Value} {q j : Nat} {c : q_T × (Nat → Value)} {v : Option Value} (h : T q = some c.1 ∧ ∀ j, R q j = gRf c.2 j) (h2 : gRf c.2 j = v) : R q j = v := (h.2 j).trans h2
theorem ly_sub {T : Nat → Option q_T} {R : Nat → Nat → Option Value} {a m : Nat} {l l2 : q_L} (h : Ly T R a l) (h2 : ∀ k, k < l2.length → l[m + k]? = l2[k]?) : Ly T R (a + m) l2 := by
  intro k c hc
  have hk : k < l2.length := (List.getElem?_eq_some_iff.mp hc).1
  have := h (m + k) c ((h2 k hk).trans hc)
  rw [← Nat.add_assoc] at this
  exact this
theorem ly_sub2 {T : Nat → Option q_T} {R : Nat → Nat → Option Value} {a m w : Nat} {l l2 : q_L} (h : Ly T R a l) (h2 : ∀ k, k < l2.length → l[m + w + k]? = l2[k]?) : Ly T R (a + m + w) l2 := by
  have := ly_sub (m := m + w) h h2
  rw [← Nat.add_assoc] at this
  exact this

def L11x (a a1 a2 a3 a4 : Nat) : q_L := (.inl 11, F11_22 a) :: (C11_19 a ++ L3 (a + 1 + (C11_19 a).length) a1 ++ L6 (a + 533) a2 ++ L5 (a + 540) a3 a4)
theorem L11x_of (a : Nat) : L11 a = L11x a (a + 370) (a + 370) (a + 370) (a + 398) := by
  simp only [L11, L11x, C11_22, C11_21, C11_20, lC11_21, lC11_20, lC11_19, lL3, lL6, List.length_append, Nat.reduceAdd, Nat.add_assoc]
theorem t0 {T : Nat → Option q_T} {R : Nat → Nat → Option Value} {a : Nat} (h : Ly T R a (L0 a)) : T a = some (.inl 0) := (h 0 _ rfl).1
theorem r0_0 {T : Nat → Option q_T} {R : Nat → Nat → Option Value} {a : Nat} (h : Ly T R a (L0 a)) : R a 0 = some (.ref (a + 1)) := (h 0 _ rfl).2 0
theorem t0_0 {T : Nat → Option q_T} {R : Nat → Nat → Option Value} {a : Nat} (h : Ly T R a (L0 a)) : T (a + 1) = some (.inr (.inl (.int, 201))) := (h 1 _ rfl).1
theorem v0_0 {T : Nat → Option q_T} {R : Nat → Nat → Option Value} {a : Nat} (h : Ly T R a (L0 a)) (j : Nat) : R (a + 1) j = none := ly_v (h 1 _ rfl) (by intro j; first | rfl | exact gRf_if _ _ _ _)
theorem w0_0 {T : Nat → Option q_T} {R : Nat → Nat → Option Value} {a : Nat} (h : Ly T R a (L0 a)) (j : Nat) : rN R (a + 1) j = R := rN_id (v0_0 h j)
theorem r0_2 {T : Nat → Option q_T} {R : Nat → Nat → Option Value} {a : Nat} (h : Ly T R a (L0 a)) : R a 2 = some (.ref (a + 2)) := (h 0 _ rfl).2 2
theorem t0_2 {T : Nat → Option q_T} {R : Nat → Nat → Option Value} {a : Nat} (h : Ly T R a (L0 a)) : T (a + 2) = some (.inr (.inl (.int, 201))) := (h 2 _ rfl).1
theorem v0_2 {T : Nat → Option q_T} {R : Nat → Nat → Option Value} {a : Nat} (h : Ly T R a (L0 a)) (j : Nat) : R (a + 2) j = none := ly_v (h 2 _ rfl) (by intro j; first | rfl | exact gRf_if _ _ _ _)
theorem w0_2 {T : Nat → Option q_T} {R : Nat → Nat → Option Value} {a : Nat} (h : Ly T R a (L0 a)) (j : Nat) : rN R (a + 2) j = R := rN_id (v0_2 h j)
theorem r0_3 {T : Nat → Option q_T} {R : Nat → Nat → Option Value} {a : Nat} (h : Ly T R a (L0 a)) : R a 3 = some (.ref (a + 3)) := (h 0 _ rfl).2 3
theorem t0_3 {T : Nat → Option q_T} {R : Nat → Nat → Option Value} {a : Nat} (h : Ly T R a (L0 a)) : T (a + 3) = some (.inr (.inl (.int, 201))) := (h 3 _ rfl).1
theorem v0_3 {T : Nat → Option q_T} {R : Nat → Nat → Option Value} {a : Nat} (h : Ly T R a (L0 a)) (j : Nat) : R (a + 3) j = none := ly_v (h 3 _ rfl) (by intro j; first | rfl | exact gRf_if _ _ _ _)
theorem w0_3 {T : Nat → Option q_T} {R : Nat → Nat → Option Value} {a : Nat} (h : Ly T R a (L0 a)) (j : Nat) : rN R (a + 3) j = R := rN_id (v0_3 h j)
theorem r0_4 {T : Nat → Option q_T} {R : Nat → Nat → Option Value} {a : Nat} (h : Ly T R a (L0 a)) : R a 4 = some (.ref (a + 4)) := (h 0 _ rfl).2 4
theorem t0_4 {T : Nat → Option q_T} {R : Nat → Nat → Option Value} {a : Nat} (h : Ly T R a (L0 a)) : T (a + 4) = some (.inr (.inl (.int, 201))) := (h 4 _ rfl).1
theorem v0_4 {T : Nat → Option q_T} {R : Nat → Nat → Option Value} {a : Nat} (h : Ly T R a (L0 a)) (j : Nat) : R (a + 4) j = none := ly_v (h 4 _ rfl) (by intro j; first | rfl | exact gRf_if _ _ _ _)
theorem w0_4 {T : Nat → Option q_T} {R : Nat → Nat → Option Value} {a : Nat} (h : Ly T R a (L0 a)) (j : Nat) : rN R (a + 4) j = R := rN_id (v0_4 h j)
theorem r0_1 {T : Nat → Option q_T} {R : Nat → Nat → Option Value} {a : Nat} (h : Ly T R a (L0 a)) : R a 1 = none := (h 0 _ rfl).2 1
theorem n0_1 {T : Nat → Option q_T} {R : Nat → Nat → Option Value} {a : Nat} (h : Ly T R a (L0 a)) : rN R a 1 = R := rN_id (r0_1 h)
theorem el1_3 {a : Nat} {i : Nat} (hi : i < 4) : (L1 a)[2 + i]? = some (.inr (.inl (.int, 201)), fun _ => .int 0) := by
  match i, hi with
  | 0, _ => rfl
  | 1, _ => rfl
  | 2, _ => rfl
  | 3, _ => rfl
  | n + 4, q => exact absurd q (by omega)
theorem el1_4 {a : Nat} {i : Nat} (hi : i < 4) : (L1 a)[7 + i]? = some (.inr (.inl (.int, 201)), fun _ => .int 0) := by
  match i, hi with
  | 0, _ => rfl
  | 1, _ => rfl
  | 2, _ => rfl
  | 3, _ => rfl
  | n + 4, q => exact absurd q (by omega)
theorem el1_5 {a : Nat} {i : Nat} (hi : i < 4) : (L1 a)[12 + i]? = some (.inr (.inl (.int, 201)), fun _ => .int 0) := by
  match i, hi with
  | 0, _ => rfl
  | 1, _ => rfl
  | 2, _ => rfl
  | 3, _ => rfl
  | n + 4, q => exact absurd q (by omega)
theorem t1 {T : Nat → Option q_T} {R : Nat → Nat → Option Value} {a : Nat} (h : Ly T R a (L1 a)) : T a = some (.inl 1) := (h 0 _ rfl).1
theorem r1_3 {T : Nat → Option q_T} {R : Nat → Nat → Option Value} {a : Nat} (h : Ly T R a (L1 a)) : R a 3 = some (.ref (a + 1)) := (h 0 _ rfl).2 3
theorem t1_3 {T : Nat → Option q_T} {R : Nat → Nat → Option Value} {a : Nat} (h : Ly T R a (L1 a)) : T (a + 1) = some (.inr (.inl (.array .int, 4))) := (h 1 _ rfl).1
theorem r1_4 {T : Nat → Option q_T} {R : Nat → Nat → Option Value} {a : Nat} (h : Ly T R a (L1 a)) : R a 4 = some (.ref (a + 6)) := (h 0 _ rfl).2 4
theorem t1_4 {T : Nat → Option q_T} {R : Nat → Nat → Option Value} {a : Nat} (h : Ly T R a (L1 a)) : T (a + 6) = some (.inr (.inl (.array .int, 4))) := (h 6 _ rfl).1
theorem r1_5 {T : Nat → Option q_T} {R : Nat → Nat → Option Value} {a : Nat} (h : Ly T R a (L1 a)) : R a 5 = some (.ref (a + 11)) := (h 0 _ rfl).2 5
theorem t1_5 {T : Nat → Option q_T} {R : Nat → Nat → Option Value} {a : Nat} (h : Ly T R a (L1 a)) : T (a + 11) = some (.inr (.inl (.array .int, 4))) := (h 11 _ rfl).1
theorem r1_6 {T : Nat → Option q_T} {R : Nat → Nat → Option Value} {a : Nat} (h : Ly T R a (L1 a)) : R a 6 = some (.ref (a + 16)) := (h 0 _ rfl).2 6
theorem t1_6 {T : Nat → Option q_T} {R : Nat → Nat → Option Value} {a : Nat} (h : Ly T R a (L1 a)) : T (a + 16) = some (.inr (.inl (.int, 4))) := (h 16 _ rfl).1
theorem v1_6 {T : Nat → Option q_T} {R : Nat → Nat → Option Value} {a : Nat} (h : Ly T R a (L1 a)) (j : Nat) : R (a + 16) j = none := ly_v (h 16 _ rfl) (by intro j; first | rfl | exact gRf_if _ _ _ _)
theorem w1_6 {T : Nat → Option q_T} {R : Nat → Nat → Option Value} {a : Nat} (h : Ly T R a (L1 a)) (j : Nat) : rN R (a + 16) j = R := rN_id (v1_6 h j)
theorem r1_7 {T : Nat → Option q_T} {R : Nat → Nat → Option Value} {a : Nat} (h : Ly T R a (L1 a)) : R a 7 = some (.ref (a + 17)) := (h 0 _ rfl).2 7
theorem t1_7 {T : Nat → Option q_T} {R : Nat → Nat → Option Value} {a : Nat} (h : Ly T R a (L1 a)) : T (a + 17) = some (.inr (.inl (.int, 201))) := (h 17 _ rfl).1
theorem v1_7 {T : Nat → Option q_T} {R : Nat → Nat → Option Value} {a : Nat} (h : Ly T R a (L1 a)) (j : Nat) : R (a + 17) j = none := ly_v (h 17 _ rfl) (by intro j; first | rfl | exact gRf_if _ _ _ _)
theorem w1_7 {T : Nat → Option q_T} {R : Nat → Nat → Option Value} {a : Nat} (h : Ly T R a (L1 a)) (j : Nat) : rN R (a + 17) j = R := rN_id (v1_7 h j)
theorem r1_8 {T : Nat → Option q_T} {R : Nat → Nat → Option Value} {a : Nat} (h : Ly T R a (L1 a)) : R a 8 = some (.ref (a + 18)) := (h 0 _ rfl).2 8
theorem t1_8 {T : Nat → Option q_T} {R : Nat → Nat → Option Value} {a : Nat} (h : Ly T R a (L1 a)) : T (a + 18) = some (.inr (.inl (.int, 40804))) := (h 18 _ rfl).1
theorem v1_8 {T : Nat → Option q_T} {R : Nat → Nat → Option Value} {a : Nat} (h : Ly T R a (L1 a)) (j : Nat) : R (a + 18) j = none := ly_v (h 18 _ rfl) (by intro j; first | rfl | exact gRf_if _ _ _ _)
theorem w1_8 {T : Nat → Option q_T} {R : Nat → Nat → Option Value} {a : Nat} (h : Ly T R a (L1 a)) (j : Nat) : rN R (a + 18) j = R := rN_id (v1_8 h j)
theorem r1_9 {T : Nat → Option q_T} {R : Nat → Nat → Option Value} {a : Nat} (h : Ly T R a (L1 a)) : R a 9 = some (.ref (a + 19)) := (h 0 _ rfl).2 9
theorem t1_9 {T : Nat → Option q_T} {R : Nat → Nat → Option Value} {a : Nat} (h : Ly T R a (L1 a)) : T (a + 19) = some (.inr (.inl (.int, 40401))) := (h 19 _ rfl).1
theorem v1_9 {T : Nat → Option q_T} {R : Nat → Nat → Option Value} {a : Nat} (h : Ly T R a (L1 a)) (j : Nat) : R (a + 19) j = none := ly_v (h 19 _ rfl) (by intro j; first | rfl | exact gRf_if _ _ _ _)
theorem w1_9 {T : Nat → Option q_T} {R : Nat → Nat → Option Value} {a : Nat} (h : Ly T R a (L1 a)) (j : Nat) : rN R (a + 19) j = R := rN_id (v1_9 h j)
theorem r1_0 {T : Nat → Option q_T} {R : Nat → Nat → Option Value} {a : Nat} (h : Ly T R a (L1 a)) : R a 0 = none := (h 0 _ rfl).2 0
theorem n1_0 {T : Nat → Option q_T} {R : Nat → Nat → Option Value} {a : Nat} (h : Ly T R a (L1 a)) : rN R a 0 = R := rN_id (r1_0 h)
theorem r1_1 {T : Nat → Option q_T} {R : Nat → Nat → Option Value} {a : Nat} (h : Ly T R a (L1 a)) : R a 1 = none := (h 0 _ rfl).2 1
theorem n1_1 {T : Nat → Option q_T} {R : Nat → Nat → Option Value} {a : Nat} (h : Ly T R a (L1 a)) : rN R a 1 = R := rN_id (r1_1 h)
theorem r1_2 {T : Nat → Option q_T} {R : Nat → Nat → Option Value} {a : Nat} (h : Ly T R a (L1 a)) : R a 2 = none := (h 0 _ rfl).2 2
theorem n1_2 {T : Nat → Option q_T} {R : Nat → Nat → Option Value} {a : Nat} (h : Ly T R a (L1 a)) : rN R a 2 = R := rN_id (r1_2 h)
theorem u1_3 {T : Nat → Option q_T} {R : Nat → Nat → Option Value} {a : Nat} (h : Ly T R a (L1 a)) {i : Nat} (hi : i < 4) : R (a + 1) i = some (.ref (a + 2 + i)) := ly_u (h 1 _ rfl) (by show (gRf (fun j => if j < 4 then Value.ref _ else Value.null) i) = _; rw [gRf_r hi])
theorem e1_3 {T : Nat → Option q_T} {R : Nat → Nat → Option Value} {a : Nat} (h : Ly T R a (L1 a)) {i : Nat} (hi : i < 4) : T (a + 2 + i) = some (.inr (.inl (.int, 201))) ∧ ∀ j, R (a + 2 + i) j = none := by
  have h1 := h (2 + i) (.inr (.inl (.int, 201)), fun _ => .int 0) (by exact el1_3 hi)
  rw [← Nat.add_assoc] at h1
  exact ⟨h1.1, h1.2⟩
theorem u1_4 {T : Nat → Option q_T} {R : Nat → Nat → Option Value} {a : Nat} (h : Ly T R a (L1 a)) {i : Nat} (hi : i < 4) : R (a + 6) i = some (.ref (a + 7 + i)) := ly_u (h 6 _ rfl) (by show (gRf (fun j => if j < 4 then Value.ref _ else Value.null) i) = _; rw [gRf_r hi])
theorem e1_4 {T : Nat → Option q_T} {R : Nat → Nat → Option Value} {a : Nat} (h : Ly T R a (L1 a)) {i : Nat} (hi : i < 4) : T (a + 7 + i) = some (.inr (.inl (.int, 201))) ∧ ∀ j, R (a + 7 + i) j = none := by
  have h1 := h (7 + i) (.inr (.inl (.int, 201)), fun _ => .int 0) (by exact el1_4 hi)
  rw [← Nat.add_assoc] at h1
  exact ⟨h1.1, h1.2⟩
theorem u1_5 {T : Nat → Option q_T} {R : Nat → Nat → Option Value} {a : Nat} (h : Ly T R a (L1 a)) {i : Nat} (hi : i < 4) : R (a + 11) i = some (.ref (a + 12 + i)) := ly_u (h 11 _ rfl) (by show (gRf (fun j => if j < 4 then Value.ref _ else Value.null) i) = _; rw [gRf_r hi])
theorem e1_5 {T : Nat → Option q_T} {R : Nat → Nat → Option Value} {a : Nat} (h : Ly T R a (L1 a)) {i : Nat} (hi : i < 4) : T (a + 12 + i) = some (.inr (.inl (.int, 201))) ∧ ∀ j, R (a + 12 + i) j = none := by
  have h1 := h (12 + i) (.inr (.inl (.int, 201)), fun _ => .int 0) (by exact el1_5 hi)
  rw [← Nat.add_assoc] at h1
  exact ⟨h1.1, h1.2⟩
theorem t2 {T : Nat → Option q_T} {R : Nat → Nat → Option Value} {a : Nat} (h : Ly T R a (L2 a)) : T a = some (.inl 2) := (h 0 _ rfl).1
theorem r2_3 {T : Nat → Option q_T} {R : Nat → Nat → Option Value} {a : Nat} (h : Ly T R a (L2 a)) : R a 3 = some (.ref (a + 1)) := (h 0 _ rfl).2 3
theorem t2_3 {T : Nat → Option q_T} {R : Nat → Nat → Option Value} {a : Nat} (h : Ly T R a (L2 a)) : T (a + 1) = some (.inr (.inl (.int, 441))) := (h 1 _ rfl).1
theorem v2_3 {T : Nat → Option q_T} {R : Nat → Nat → Option Value} {a : Nat} (h : Ly T R a (L2 a)) (j : Nat) : R (a + 1) j = none := ly_v (h 1 _ rfl) (by intro j; first | rfl | exact gRf_if _ _ _ _)
theorem w2_3 {T : Nat → Option q_T} {R : Nat → Nat → Option Value} {a : Nat} (h : Ly T R a (L2 a)) (j : Nat) : rN R (a + 1) j = R := rN_id (v2_3 h j)
theorem r2_4 {T : Nat → Option q_T} {R : Nat → Nat → Option Value} {a : Nat} (h : Ly T R a (L2 a)) : R a 4 = some (.ref (a + 2)) := (h 0 _ rfl).2 4
theorem t2_4 {T : Nat → Option q_T} {R : Nat → Nat → Option Value} {a : Nat} (h : Ly T R a (L2 a)) : T (a + 2) = some (.inr (.inl (.int, 441))) := (h 2 _ rfl).1
theorem v2_4 {T : Nat → Option q_T} {R : Nat → Nat → Option Value} {a : Nat} (h : Ly T R a (L2 a)) (j : Nat) : R (a + 2) j = none := ly_v (h 2 _ rfl) (by intro j; first | rfl | exact gRf_if _ _ _ _)
theorem w2_4 {T : Nat → Option q_T} {R : Nat → Nat → Option Value} {a : Nat} (h : Ly T R a (L2 a)) (j : Nat) : rN R (a + 2) j = R := rN_id (v2_4 h j)
theorem r2_5 {T : Nat → Option q_T} {R : Nat → Nat → Option Value} {a : Nat} (h : Ly T R a (L2 a)) : R a 5 = some (.ref (a + 3)) := (h 0 _ rfl).2 5
theorem t2_5 {T : Nat → Option q_T} {R : Nat → Nat → Option Value} {a : Nat} (h : Ly T R a (L2 a)) : T (a + 3) = some (.inr (.inl (.int, 441))) := (h 3 _ rfl).1
theorem v2_5 {T : Nat → Option q_T} {R : Nat → Nat → Option Value} {a : Nat} (h : Ly T R a (L2 a)) (j : Nat) : R (a + 3) j = none := ly_v (h 3 _ rfl) (by intro j; first | rfl | exact gRf_if _ _ _ _)
theorem w2_5 {T : Nat → Option q_T} {R : Nat → Nat → Option Value} {a : Nat} (h : Ly T R a (L2 a)) (j : Nat) : rN R (a + 3) j = R := rN_id (v2_5 h j)
theorem r2_6 {T : Nat → Option q_T} {R : Nat → Nat → Option Value} {a : Nat} (h : Ly T R a (L2 a)) : R a 6 = some (.ref (a + 4)) := (h 0 _ rfl).2 6
theorem t2_6 {T : Nat → Option q_T} {R : Nat → Nat → Option Value} {a : Nat} (h : Ly T R a (L2 a)) : T (a + 4) = some (.inr (.inl (.int, 441))) := (h 4 _ rfl).1
theorem v2_6 {T : Nat → Option q_T} {R : Nat → Nat → Option Value} {a : Nat} (h : Ly T R a (L2 a)) (j : Nat) : R (a + 4) j = none := ly_v (h 4 _ rfl) (by intro j; first | rfl | exact gRf_if _ _ _ _)
theorem w2_6 {T : Nat → Option q_T} {R : Nat → Nat → Option Value} {a : Nat} (h : Ly T R a (L2 a)) (j : Nat) : rN R (a + 4) j = R := rN_id (v2_6 h j)
theorem r2_7 {T : Nat → Option q_T} {R : Nat → Nat → Option Value} {a : Nat} (h : Ly T R a (L2 a)) : R a 7 = some (.ref (a + 5)) := (h 0 _ rfl).2 7
theorem t2_7 {T : Nat → Option q_T} {R : Nat → Nat → Option Value} {a : Nat} (h : Ly T R a (L2 a)) : T (a + 5) = some (.inr (.inl (.int, 441))) := (h 5 _ rfl).1
theorem v2_7 {T : Nat → Option q_T} {R : Nat → Nat → Option Value} {a : Nat} (h : Ly T R a (L2 a)) (j : Nat) : R (a + 5) j = none := ly_v (h 5 _ rfl) (by intro j; first | rfl | exact gRf_if _ _ _ _)
theorem w2_7 {T : Nat → Option q_T} {R : Nat → Nat → Option Value} {a : Nat} (h : Ly T R a (L2 a)) (j : Nat) : rN R (a + 5) j = R := rN_id (v2_7 h j)
theorem r2_8 {T : Nat → Option q_T} {R : Nat → Nat → Option Value} {a : Nat} (h : Ly T R a (L2 a)) : R a 8 = some (.ref (a + 6)) := (h 0 _ rfl).2 8
theorem t2_8 {T : Nat → Option q_T} {R : Nat → Nat → Option Value} {a : Nat} (h : Ly T R a (L2 a)) : T (a + 6) = some (.inr (.inl (.int, 201))) := (h 6 _ rfl).1
theorem v2_8 {T : Nat → Option q_T} {R : Nat → Nat → Option Value} {a : Nat} (h : Ly T R a (L2 a)) (j : Nat) : R (a + 6) j = none := ly_v (h 6 _ rfl) (by intro j; first | rfl | exact gRf_if _ _ _ _)
theorem w2_8 {T : Nat → Option q_T} {R : Nat → Nat → Option Value} {a : Nat} (h : Ly T R a (L2 a)) (j : Nat) : rN R (a + 6) j = R := rN_id (v2_8 h j)
theorem r2_9 {T : Nat → Option q_T} {R : Nat → Nat → Option Value} {a : Nat} (h : Ly T R a (L2 a)) : R a 9 = some (.ref (a + 7)) := (h 0 _ rfl).2 9
theorem t2_9 {T : Nat → Option q_T} {R : Nat → Nat → Option Value} {a : Nat} (h : Ly T R a (L2 a)) : T (a + 7) = some (.inr (.inl (.int, 201))) := (h 7 _ rfl).1
theorem v2_9 {T : Nat → Option q_T} {R : Nat → Nat → Option Value} {a : Nat} (h : Ly T R a (L2 a)) (j : Nat) : R (a + 7) j = none := ly_v (h 7 _ rfl) (by intro j; first | rfl | exact gRf_if _ _ _ _)
theorem w2_9 {T : Nat → Option q_T} {R : Nat → Nat → Option Value} {a : Nat} (h : Ly T R a (L2 a)) (j : Nat) : rN R (a + 7) j = R := rN_id (v2_9 h j)
theorem r2_0 {T : Nat → Option q_T} {R : Nat → Nat → Option Value} {a : Nat} (h : Ly T R a (L2 a)) : R a 0 = none := (h 0 _ rfl).2 0
theorem n2_0 {T : Nat → Option q_T} {R : Nat → Nat → Option Value} {a : Nat} (h : Ly T R a (L2 a)) : rN R a 0 = R := rN_id (r2_0 h)
theorem r2_1 {T : Nat → Option q_T} {R : Nat → Nat → Option Value} {a : Nat} (h : Ly T R a (L2 a)) : R a 1 = none := (h 0 _ rfl).2 1
theorem n2_1 {T : Nat → Option q_T} {R : Nat → Nat → Option Value} {a : Nat} (h : Ly T R a (L2 a)) : rN R a 1 = R := rN_id (r2_1 h)
theorem r2_2 {T : Nat → Option q_T} {R : Nat → Nat → Option Value} {a : Nat} (h : Ly T R a (L2 a)) : R a 2 = none := (h 0 _ rfl).2 2
theorem n2_2 {T : Nat → Option q_T} {R : Nat → Nat → Option Value} {a : Nat} (h : Ly T R a (L2 a)) : rN R a 2 = R := rN_id (r2_2 h)
theorem t3 {T : Nat → Option q_T} {R : Nat → Nat → Option Value} {a : Nat} {a1 : Nat} (h : Ly T R a (L3 a a1)) : T a = some (.inl 3) := (h 0 _ rfl).1
theorem r3_2 {T : Nat → Option q_T} {R : Nat → Nat → Option Value} {a : Nat} {a1 : Nat} (h : Ly T R a (L3 a a1)) : R a 2 = some (.ref (a + 1)) := (h 0 _ rfl).2 2
theorem t3_2 {T : Nat → Option q_T} {R : Nat → Nat → Option Value} {a : Nat} {a1 : Nat} (h : Ly T R a (L3 a a1)) : T (a + 1) = some (.inr (.inl (.int, 16))) := (h 1 _ rfl).1
theorem v3_2 {T : Nat → Option q_T} {R : Nat → Nat → Option Value} {a : Nat} {a1 : Nat} (h : Ly T R a (L3 a a1)) (j : Nat) : R (a + 1) j = none := ly_v (h 1 _ rfl) (by intro j; first | rfl | exact gRf_if _ _ _ _)
theorem w3_2 {T : Nat → Option q_T} {R : Nat → Nat → Option Value} {a : Nat} {a1 : Nat} (h : Ly T R a (L3 a a1)) (j : Nat) : rN R (a + 1) j = R := rN_id (v3_2 h j)
theorem r3_3 {T : Nat → Option q_T} {R : Nat → Nat → Option Value} {a : Nat} {a1 : Nat} (h : Ly T R a (L3 a a1)) : R a 3 = some (.ref (a + 2)) := (h 0 _ rfl).2 3
theorem t3_3 {T : Nat → Option q_T} {R : Nat → Nat → Option Value} {a : Nat} {a1 : Nat} (h : Ly T R a (L3 a a1)) : T (a + 2) = some (.inr (.inl (.int, 1734))) := (h 2 _ rfl).1
theorem v3_3 {T : Nat → Option q_T} {R : Nat → Nat → Option Value} {a : Nat} {a1 : Nat} (h : Ly T R a (L3 a a1)) (j : Nat) : R (a + 2) j = none := ly_v (h 2 _ rfl) (by intro j; first | rfl | exact gRf_if _ _ _ _)
theorem w3_3 {T : Nat → Option q_T} {R : Nat → Nat → Option Value} {a : Nat} {a1 : Nat} (h : Ly T R a (L3 a a1)) (j : Nat) : rN R (a + 2) j = R := rN_id (v3_3 h j)
theorem r3_4 {T : Nat → Option q_T} {R : Nat → Nat → Option Value} {a : Nat} {a1 : Nat} (h : Ly T R a (L3 a a1)) : R a 4 = some (.ref (a + 3)) := (h 0 _ rfl).2 4
theorem t3_4 {T : Nat → Option q_T} {R : Nat → Nat → Option Value} {a : Nat} {a1 : Nat} (h : Ly T R a (L3 a a1)) : T (a + 3) = some (.inr (.inl (.int, 20230))) := (h 3 _ rfl).1
theorem v3_4 {T : Nat → Option q_T} {R : Nat → Nat → Option Value} {a : Nat} {a1 : Nat} (h : Ly T R a (L3 a a1)) (j : Nat) : R (a + 3) j = none := ly_v (h 3 _ rfl) (by intro j; first | rfl | exact gRf_if _ _ _ _)
theorem w3_4 {T : Nat → Option q_T} {R : Nat → Nat → Option Value} {a : Nat} {a1 : Nat} (h : Ly T R a (L3 a a1)) (j : Nat) : rN R (a + 3) j = R := rN_id (v3_4 h j)
theorem r3_5 {T : Nat → Option q_T} {R : Nat → Nat → Option Value} {a : Nat} {a1 : Nat} (h : Ly T R a (L3 a a1)) : R a 5 = some (.ref (a + 4)) := (h 0 _ rfl).2 5
theorem t3_5 {T : Nat → Option q_T} {R : Nat → Nat → Option Value} {a : Nat} {a1 : Nat} (h : Ly T R a (L3 a a1)) : T (a + 4) = some (.inr (.inl (.int, 1734))) := (h 4 _ rfl).1
theorem v3_5 {T : Nat → Option q_T} {R : Nat → Nat → Option Value} {a : Nat} {a1 : Nat} (h : Ly T R a (L3 a a1)) (j : Nat) : R (a + 4) j = none := ly_v (h 4 _ rfl) (by intro j; first | rfl | exact gRf_if _ _ _ _)
theorem w3_5 {T : Nat → Option q_T} {R : Nat → Nat → Option Value} {a : Nat} {a1 : Nat} (h : Ly T R a (L3 a a1)) (j : Nat) : rN R (a + 4) j = R := rN_id (v3_5 h j)
theorem r3_6 {T : Nat → Option q_T} {R : Nat → Nat → Option Value} {a : Nat} {a1 : Nat} (h : Ly T R a (L3 a a1)) : R a 6 = some (.ref (a + 5)) := (h 0 _ rfl).2 6
theorem t3_6 {T : Nat → Option q_T} {R : Nat → Nat → Option Value} {a : Nat} {a1 : Nat} (h : Ly T R a (L3 a a1)) : T (a + 5) = some (.inr (.inl (.int, 20230))) := (h 5 _ rfl).1
theorem v3_6 {T : Nat → Option q_T} {R : Nat → Nat → Option Value} {a : Nat} {a1 : Nat} (h : Ly T R a (L3 a a1)) (j : Nat) : R (a + 5) j = none := ly_v (h 5 _ rfl) (by intro j; first | rfl | exact gRf_if _ _ _ _)
theorem w3_6 {T : Nat → Option q_T} {R : Nat → Nat → Option Value} {a : Nat} {a1 : Nat} (h : Ly T R a (L3 a a1)) (j : Nat) : rN R (a + 5) j = R := rN_id (v3_6 h j)
theorem r3_7 {T : Nat → Option q_T} {R : Nat → Nat → Option Value} {a : Nat} {a1 : Nat} (h : Ly T R a (L3 a a1)) : R a 7 = some (.ref (a + 6)) := (h 0 _ rfl).2 7
theorem t3_7 {T : Nat → Option q_T} {R : Nat → Nat → Option Value} {a : Nat} {a1 : Nat} (h : Ly T R a (L3 a a1)) : T (a + 6) = some (.inr (.inl (.int, 238))) := (h 6 _ rfl).1
theorem v3_7 {T : Nat → Option q_T} {R : Nat → Nat → Option Value} {a : Nat} {a1 : Nat} (h : Ly T R a (L3 a a1)) (j : Nat) : R (a + 6) j = none := ly_v (h 6 _ rfl) (by intro j; first | rfl | exact gRf_if _ _ _ _)
theorem w3_7 {T : Nat → Option q_T} {R : Nat → Nat → Option Value} {a : Nat} {a1 : Nat} (h : Ly T R a (L3 a a1)) (j : Nat) : rN R (a + 6) j = R := rN_id (v3_7 h j)
theorem r3_1 {T : Nat → Option q_T} {R : Nat → Nat → Option Value} {a : Nat} {a1 : Nat} (h : Ly T R a (L3 a a1)) : R a 1 = some (.ref a1) := (h 0 _ rfl).2 1
theorem r3_0 {T : Nat → Option q_T} {R : Nat → Nat → Option Value} {a : Nat} {a1 : Nat} (h : Ly T R a (L3 a a1)) : R a 0 = none := (h 0 _ rfl).2 0
theorem n3_0 {T : Nat → Option q_T} {R : Nat → Nat → Option Value} {a : Nat} {a1 : Nat} (h : Ly T R a (L3 a a1)) : rN R a 0 = R := rN_id (r3_0 h)
theorem t4 {T : Nat → Option q_T} {R : Nat → Nat → Option Value} {a : Nat} (h : Ly T R a (L4 a)) : T a = some (.inl 4) := (h 0 _ rfl).1
theorem r4_3 {T : Nat → Option q_T} {R : Nat → Nat → Option Value} {a : Nat} (h : Ly T R a (L4 a)) : R a 3 = some (.ref (a + 1)) := (h 0 _ rfl).2 3
theorem t4_3 {T : Nat → Option q_T} {R : Nat → Nat → Option Value} {a : Nat} (h : Ly T R a (L4 a)) : T (a + 1) = some (.inr (.inl (.int, 2400))) := (h 1 _ rfl).1
theorem v4_3 {T : Nat → Option q_T} {R : Nat → Nat → Option Value} {a : Nat} (h : Ly T R a (L4 a)) (j : Nat) : R (a + 1) j = none := ly_v (h 1 _ rfl) (by intro j; first | rfl | exact gRf_if _ _ _ _)
theorem w4_3 {T : Nat → Option q_T} {R : Nat → Nat → Option Value} {a : Nat} (h : Ly T R a (L4 a)) (j : Nat) : rN R (a + 1) j = R := rN_id (v4_3 h j)
theorem r4_4 {T : Nat → Option q_T} {R : Nat → Nat → Option Value} {a : Nat} (h : Ly T R a (L4 a)) : R a 4 = some (.ref (a + 2)) := (h 0 _ rfl).2 4
theorem t4_4 {T : Nat → Option q_T} {R : Nat → Nat → Option Value} {a : Nat} (h : Ly T R a (L4 a)) : T (a + 2) = some (.inr (.inl (.int, 2400))) := (h 2 _ rfl).1
theorem v4_4 {T : Nat → Option q_T} {R : Nat → Nat → Option Value} {a : Nat} (h : Ly T R a (L4 a)) (j : Nat) : R (a + 2) j = none := ly_v (h 2 _ rfl) (by intro j; first | rfl | exact gRf_if _ _ _ _)
theorem w4_4 {T : Nat → Option q_T} {R : Nat → Nat → Option Value} {a : Nat} (h : Ly T R a (L4 a)) (j : Nat) : rN R (a + 2) j = R := rN_id (v4_4 h j)
theorem r4_5 {T : Nat → Option q_T} {R : Nat → Nat → Option Value} {a : Nat} (h : Ly T R a (L4 a)) : R a 5 = some (.ref (a + 3)) := (h 0 _ rfl).2 5
theorem t4_5 {T : Nat → Option q_T} {R : Nat → Nat → Option Value} {a : Nat} (h : Ly T R a (L4 a)) : T (a + 3) = some (.inr (.inl (.int, 24))) := (h 3 _ rfl).1
theorem v4_5 {T : Nat → Option q_T} {R : Nat → Nat → Option Value} {a : Nat} (h : Ly T R a (L4 a)) (j : Nat) : R (a + 3) j = none := ly_v (h 3 _ rfl) (by intro j; first | rfl | exact gRf_if _ _ _ _)
theorem w4_5 {T : Nat → Option q_T} {R : Nat → Nat → Option Value} {a : Nat} (h : Ly T R a (L4 a)) (j : Nat) : rN R (a + 3) j = R := rN_id (v4_5 h j)
theorem r4_6 {T : Nat → Option q_T} {R : Nat → Nat → Option Value} {a : Nat} (h : Ly T R a (L4 a)) : R a 6 = some (.ref (a + 4)) := (h 0 _ rfl).2 6
theorem t4_6 {T : Nat → Option q_T} {R : Nat → Nat → Option Value} {a : Nat} (h : Ly T R a (L4 a)) : T (a + 4) = some (.inr (.inl (.int, 5))) := (h 4 _ rfl).1
theorem v4_6 {T : Nat → Option q_T} {R : Nat → Nat → Option Value} {a : Nat} (h : Ly T R a (L4 a)) (j : Nat) : R (a + 4) j = none := ly_v (h 4 _ rfl) (by intro j; first | rfl | exact gRf_if _ _ _ _)
theorem w4_6 {T : Nat → Option q_T} {R : Nat → Nat → Option Value} {a : Nat} (h : Ly T R a (L4 a)) (j : Nat) : rN R (a + 4) j = R := rN_id (v4_6 h j)
theorem r4_7 {T : Nat → Option q_T} {R : Nat → Nat → Option Value} {a : Nat} (h : Ly T R a (L4 a)) : R a 7 = some (.ref (a + 5)) := (h 0 _ rfl).2 7
theorem t4_7 {T : Nat → Option q_T} {R : Nat → Nat → Option Value} {a : Nat} (h : Ly T R a (L4 a)) : T (a + 5) = some (.inr (.inl (.int, 5))) := (h 5 _ rfl).1
theorem v4_7 {T : Nat → Option q_T} {R : Nat → Nat → Option Value} {a : Nat} (h : Ly T R a (L4 a)) (j : Nat) : R (a + 5) j = none := ly_v (h 5 _ rfl) (by intro j; first | rfl | exact gRf_if _ _ _ _)
theorem w4_7 {T : Nat → Option q_T} {R : Nat → Nat → Option Value} {a : Nat} (h : Ly T R a (L4 a)) (j : Nat) : rN R (a + 5) j = R := rN_id (v4_7 h j)
theorem r4_0 {T : Nat → Option q_T} {R : Nat → Nat → Option Value} {a : Nat} (h : Ly T R a (L4 a)) : R a 0 = none := (h 0 _ rfl).2 0
theorem n4_0 {T : Nat → Option q_T} {R : Nat → Nat → Option Value} {a : Nat} (h : Ly T R a (L4 a)) : rN R a 0 = R := rN_id (r4_0 h)
theorem r4_1 {T : Nat → Option q_T} {R : Nat → Nat → Option Value} {a : Nat} (h : Ly T R a (L4 a)) : R a 1 = none := (h 0 _ rfl).2 1
theorem n4_1 {T : Nat → Option q_T} {R : Nat → Nat → Option Value} {a : Nat} (h : Ly T R a (L4 a)) : rN R a 1 = R := rN_id (r4_1 h)
theorem r4_2 {T : Nat → Option q_T} {R : Nat → Nat → Option Value} {a : Nat} (h : Ly T R a (L4 a)) : R a 2 = none := (h 0 _ rfl).2 2
theorem n4_2 {T : Nat → Option q_T} {R : Nat → Nat → Option Value} {a : Nat} (h : Ly T R a (L4 a)) : rN R a 2 = R := rN_id (r4_2 h)
theorem t5 {T : Nat → Option q_T} {R : Nat → Nat → Option Value} {a : Nat} {a1 a2 : Nat} (h : Ly T R a (L5 a a1 a2)) : T a = some (.inl 5) := (h 0 _ rfl).1
theorem r5_5 {T : Nat → Option q_T} {R : Nat → Nat → Option Value} {a : Nat} {a1 a2 : Nat} (h : Ly T R a (L5 a a1 a2)) : R a 5 = some (.ref (a + 1)) := (h 0 _ rfl).2 5
theorem t5_5 {T : Nat → Option q_T} {R : Nat → Nat → Option Value} {a : Nat} {a1 a2 : Nat} (h : Ly T R a (L5 a a1 a2)) : T (a + 1) = some (.inr (.inl (.int, 16))) := (h 1 _ rfl).1
theorem v5_5 {T : Nat → Option q_T} {R : Nat → Nat → Option Value} {a : Nat} {a1 a2 : Nat} (h : Ly T R a (L5 a a1 a2)) (j : Nat) : R (a + 1) j = none := ly_v (h 1 _ rfl) (by intro j; first | rfl | exact gRf_if _ _ _ _)
theorem w5_5 {T : Nat → Option q_T} {R : Nat → Nat → Option Value} {a : Nat} {a1 a2 : Nat} (h : Ly T R a (L5 a a1 a2)) (j : Nat) : rN R (a + 1) j = R := rN_id (v5_5 h j)
theorem r5_6 {T : Nat → Option q_T} {R : Nat → Nat → Option Value} {a : Nat} {a1 a2 : Nat} (h : Ly T R a (L5 a a1 a2)) : R a 6 = some (.ref (a + 2)) := (h 0 _ rfl).2 6
theorem t5_6 {T : Nat → Option q_T} {R : Nat → Nat → Option Value} {a : Nat} {a1 a2 : Nat} (h : Ly T R a (L5 a a1 a2)) : T (a + 2) = some (.inr (.inl (.int, 16))) := (h 2 _ rfl).1
theorem v5_6 {T : Nat → Option q_T} {R : Nat → Nat → Option Value} {a : Nat} {a1 a2 : Nat} (h : Ly T R a (L5 a a1 a2)) (j : Nat) : R (a + 2) j = none := ly_v (h 2 _ rfl) (by intro j; first | rfl | exact gRf_if _ _ _ _)
theorem w5_6 {T : Nat → Option q_T} {R : Nat → Nat → Option Value} {a : Nat} {a1 a2 : Nat} (h : Ly T R a (L5 a a1 a2)) (j : Nat) : rN R (a + 2) j = R := rN_id (v5_6 h j)
theorem r5_7 {T : Nat → Option q_T} {R : Nat → Nat → Option Value} {a : Nat} {a1 a2 : Nat} (h : Ly T R a (L5 a a1 a2)) : R a 7 = some (.ref (a + 3)) := (h 0 _ rfl).2 7
theorem t5_7 {T : Nat → Option q_T} {R : Nat → Nat → Option Value} {a : Nat} {a1 a2 : Nat} (h : Ly T R a (L5 a a1 a2)) : T (a + 3) = some (.inr (.inl (.boolean, 16))) := (h 3 _ rfl).1
theorem v5_7 {T : Nat → Option q_T} {R : Nat → Nat → Option Value} {a : Nat} {a1 a2 : Nat} (h : Ly T R a (L5 a a1 a2)) (j : Nat) : R (a + 3) j = none := ly_v (h 3 _ rfl) (by intro j; first | rfl | exact gRf_if _ _ _ _)
theorem w5_7 {T : Nat → Option q_T} {R : Nat → Nat → Option Value} {a : Nat} {a1 a2 : Nat} (h : Ly T R a (L5 a a1 a2)) (j : Nat) : rN R (a + 3) j = R := rN_id (v5_7 h j)
theorem r5_2 {T : Nat → Option q_T} {R : Nat → Nat → Option Value} {a : Nat} {a1 a2 : Nat} (h : Ly T R a (L5 a a1 a2)) : R a 2 = some (.ref a1) := (h 0 _ rfl).2 2
theorem r5_3 {T : Nat → Option q_T} {R : Nat → Nat → Option Value} {a : Nat} {a1 a2 : Nat} (h : Ly T R a (L5 a a1 a2)) : R a 3 = some (.ref a2) := (h 0 _ rfl).2 3
theorem r5_0 {T : Nat → Option q_T} {R : Nat → Nat → Option Value} {a : Nat} {a1 a2 : Nat} (h : Ly T R a (L5 a a1 a2)) : R a 0 = none := (h 0 _ rfl).2 0
theorem n5_0 {T : Nat → Option q_T} {R : Nat → Nat → Option Value} {a : Nat} {a1 a2 : Nat} (h : Ly T R a (L5 a a1 a2)) : rN R a 0 = R := rN_id (r5_0 h)
theorem r5_1 {T : Nat → Option q_T} {R : Nat → Nat → Option Value} {a : Nat} {a1 a2 : Nat} (h : Ly T R a (L5 a a1 a2)) : R a 1 = none := (h 0 _ rfl).2 1
theorem n5_1 {T : Nat → Option q_T} {R : Nat → Nat → Option Value} {a : Nat} {a1 a2 : Nat} (h : Ly T R a (L5 a a1 a2)) : rN R a 1 = R := rN_id (r5_1 h)
theorem r5_4 {T : Nat → Option q_T} {R : Nat → Nat → Option Value} {a : Nat} {a1 a2 : Nat} (h : Ly T R a (L5 a a1 a2)) : R a 4 = none := (h 0 _ rfl).2 4
theorem n5_4 {T : Nat → Option q_T} {R : Nat → Nat → Option Value} {a : Nat} {a1 a2 : Nat} (h : Ly T R a (L5 a a1 a2)) : rN R a 4 = R := rN_id (r5_4 h)
theorem t6 {T : Nat → Option q_T} {R : Nat → Nat → Option Value} {a : Nat} {a1 : Nat} (h : Ly T R a (L6 a a1)) : T a = some (.inl 6) := (h 0 _ rfl).1
theorem r6_0 {T : Nat → Option q_T} {R : Nat → Nat → Option Value} {a : Nat} {a1 : Nat} (h : Ly T R a (L6 a a1)) : R a 0 = some (.ref (a + 1)) := (h 0 _ rfl).2 0
theorem t6_0 {T : Nat → Option q_T} {R : Nat → Nat → Option Value} {a : Nat} {a1 : Nat} (h : Ly T R a (L6 a a1)) : T (a + 1) = some (.inr (.inl (.int, 201))) := (h 1 _ rfl).1
theorem v6_0 {T : Nat → Option q_T} {R : Nat → Nat → Option Value} {a : Nat} {a1 : Nat} (h : Ly T R a (L6 a a1)) (j : Nat) : R (a + 1) j = none := ly_v (h 1 _ rfl) (by intro j; first | rfl | exact gRf_if _ _ _ _)
theorem w6_0 {T : Nat → Option q_T} {R : Nat → Nat → Option Value} {a : Nat} {a1 : Nat} (h : Ly T R a (L6 a a1)) (j : Nat) : rN R (a + 1) j = R := rN_id (v6_0 h j)
theorem r6_2 {T : Nat → Option q_T} {R : Nat → Nat → Option Value} {a : Nat} {a1 : Nat} (h : Ly T R a (L6 a a1)) : R a 2 = some (.ref (a + 2)) := (h 0 _ rfl).2 2
theorem t6_2 {T : Nat → Option q_T} {R : Nat → Nat → Option Value} {a : Nat} {a1 : Nat} (h : Ly T R a (L6 a a1)) : T (a + 2) = some (.inr (.inl (.int, 201))) := (h 2 _ rfl).1
theorem v6_2 {T : Nat → Option q_T} {R : Nat → Nat → Option Value} {a : Nat} {a1 : Nat} (h : Ly T R a (L6 a a1)) (j : Nat) : R (a + 2) j = none := ly_v (h 2 _ rfl) (by intro j; first | rfl | exact gRf_if _ _ _ _)
theorem w6_2 {T : Nat → Option q_T} {R : Nat → Nat → Option Value} {a : Nat} {a1 : Nat} (h : Ly T R a (L6 a a1)) (j : Nat) : rN R (a + 2) j = R := rN_id (v6_2 h j)
theorem r6_3 {T : Nat → Option q_T} {R : Nat → Nat → Option Value} {a : Nat} {a1 : Nat} (h : Ly T R a (L6 a a1)) : R a 3 = some (.ref (a + 3)) := (h 0 _ rfl).2 3
theorem t6_3 {T : Nat → Option q_T} {R : Nat → Nat → Option Value} {a : Nat} {a1 : Nat} (h : Ly T R a (L6 a a1)) : T (a + 3) = some (.inr (.inl (.int, 201))) := (h 3 _ rfl).1
theorem v6_3 {T : Nat → Option q_T} {R : Nat → Nat → Option Value} {a : Nat} {a1 : Nat} (h : Ly T R a (L6 a a1)) (j : Nat) : R (a + 3) j = none := ly_v (h 3 _ rfl) (by intro j; first | rfl | exact gRf_if _ _ _ _)
theorem w6_3 {T : Nat → Option q_T} {R : Nat → Nat → Option Value} {a : Nat} {a1 : Nat} (h : Ly T R a (L6 a a1)) (j : Nat) : rN R (a + 3) j = R := rN_id (v6_3 h j)
theorem r6_9 {T : Nat → Option q_T} {R : Nat → Nat → Option Value} {a : Nat} {a1 : Nat} (h : Ly T R a (L6 a a1)) : R a 9 = some (.ref (a + 4)) := (h 0 _ rfl).2 9
theorem t6_9 {T : Nat → Option q_T} {R : Nat → Nat → Option Value} {a : Nat} {a1 : Nat} (h : Ly T R a (L6 a a1)) : T (a + 4) = some (.inr (.inl (.int, 201))) := (h 4 _ rfl).1
theorem v6_9 {T : Nat → Option q_T} {R : Nat → Nat → Option Value} {a : Nat} {a1 : Nat} (h : Ly T R a (L6 a a1)) (j : Nat) : R (a + 4) j = none := ly_v (h 4 _ rfl) (by intro j; first | rfl | exact gRf_if _ _ _ _)
theorem w6_9 {T : Nat → Option q_T} {R : Nat → Nat → Option Value} {a : Nat} {a1 : Nat} (h : Ly T R a (L6 a a1)) (j : Nat) : rN R (a + 4) j = R := rN_id (v6_9 h j)
theorem r6_10 {T : Nat → Option q_T} {R : Nat → Nat → Option Value} {a : Nat} {a1 : Nat} (h : Ly T R a (L6 a a1)) : R a 10 = some (.ref (a + 5)) := (h 0 _ rfl).2 10
theorem t6_10 {T : Nat → Option q_T} {R : Nat → Nat → Option Value} {a : Nat} {a1 : Nat} (h : Ly T R a (L6 a a1)) : T (a + 5) = some (.inr (.inl (.int, 201))) := (h 5 _ rfl).1
theorem v6_10 {T : Nat → Option q_T} {R : Nat → Nat → Option Value} {a : Nat} {a1 : Nat} (h : Ly T R a (L6 a a1)) (j : Nat) : R (a + 5) j = none := ly_v (h 5 _ rfl) (by intro j; first | rfl | exact gRf_if _ _ _ _)
theorem w6_10 {T : Nat → Option q_T} {R : Nat → Nat → Option Value} {a : Nat} {a1 : Nat} (h : Ly T R a (L6 a a1)) (j : Nat) : rN R (a + 5) j = R := rN_id (v6_10 h j)
theorem r6_11 {T : Nat → Option q_T} {R : Nat → Nat → Option Value} {a : Nat} {a1 : Nat} (h : Ly T R a (L6 a a1)) : R a 11 = some (.ref (a + 6)) := (h 0 _ rfl).2 11
theorem t6_11 {T : Nat → Option q_T} {R : Nat → Nat → Option Value} {a : Nat} {a1 : Nat} (h : Ly T R a (L6 a a1)) : T (a + 6) = some (.inr (.inl (.int, 201))) := (h 6 _ rfl).1
theorem v6_11 {T : Nat → Option q_T} {R : Nat → Nat → Option Value} {a : Nat} {a1 : Nat} (h : Ly T R a (L6 a a1)) (j : Nat) : R (a + 6) j = none := ly_v (h 6 _ rfl) (by intro j; first | rfl | exact gRf_if _ _ _ _)
theorem w6_11 {T : Nat → Option q_T} {R : Nat → Nat → Option Value} {a : Nat} {a1 : Nat} (h : Ly T R a (L6 a a1)) (j : Nat) : rN R (a + 6) j = R := rN_id (v6_11 h j)
theorem r6_8 {T : Nat → Option q_T} {R : Nat → Nat → Option Value} {a : Nat} {a1 : Nat} (h : Ly T R a (L6 a a1)) : R a 8 = some (.ref a1) := (h 0 _ rfl).2 8
theorem r6_1 {T : Nat → Option q_T} {R : Nat → Nat → Option Value} {a : Nat} {a1 : Nat} (h : Ly T R a (L6 a a1)) : R a 1 = none := (h 0 _ rfl).2 1
theorem n6_1 {T : Nat → Option q_T} {R : Nat → Nat → Option Value} {a : Nat} {a1 : Nat} (h : Ly T R a (L6 a a1)) : rN R a 1 = R := rN_id (r6_1 h)
theorem r6_4 {T : Nat → Option q_T} {R : Nat → Nat → Option Value} {a : Nat} {a1 : Nat} (h : Ly T R a (L6 a a1)) : R a 4 = none := (h 0 _ rfl).2 4
theorem n6_4 {T : Nat → Option q_T} {R : Nat → Nat → Option Value} {a : Nat} {a1 : Nat} (h : Ly T R a (L6 a a1)) : rN R a 4 = R := rN_id (r6_4 h)
theorem r6_5 {T : Nat → Option q_T} {R : Nat → Nat → Option Value} {a : Nat} {a1 : Nat} (h : Ly T R a (L6 a a1)) : R a 5 = none := (h 0 _ rfl).2 5
theorem n6_5 {T : Nat → Option q_T} {R : Nat → Nat → Option Value} {a : Nat} {a1 : Nat} (h : Ly T R a (L6 a a1)) : rN R a 5 = R := rN_id (r6_5 h)
theorem r6_6 {T : Nat → Option q_T} {R : Nat → Nat → Option Value} {a : Nat} {a1 : Nat} (h : Ly T R a (L6 a a1)) : R a 6 = none := (h 0 _ rfl).2 6
theorem n6_6 {T : Nat → Option q_T} {R : Nat → Nat → Option Value} {a : Nat} {a1 : Nat} (h : Ly T R a (L6 a a1)) : rN R a 6 = R := rN_id (r6_6 h)
theorem r6_7 {T : Nat → Option q_T} {R : Nat → Nat → Option Value} {a : Nat} {a1 : Nat} (h : Ly T R a (L6 a a1)) : R a 7 = none := (h 0 _ rfl).2 7
theorem n6_7 {T : Nat → Option q_T} {R : Nat → Nat → Option Value} {a : Nat} {a1 : Nat} (h : Ly T R a (L6 a a1)) : rN R a 7 = R := rN_id (r6_7 h)
theorem r6_12 {T : Nat → Option q_T} {R : Nat → Nat → Option Value} {a : Nat} {a1 : Nat} (h : Ly T R a (L6 a a1)) : R a 12 = none := (h 0 _ rfl).2 12
theorem n6_12 {T : Nat → Option q_T} {R : Nat → Nat → Option Value} {a : Nat} {a1 : Nat} (h : Ly T R a (L6 a a1)) : rN R a 12 = R := rN_id (r6_12 h)
theorem r6_13 {T : Nat → Option q_T} {R : Nat → Nat → Option Value} {a : Nat} {a1 : Nat} (h : Ly T R a (L6 a a1)) : R a 13 = none := (h 0 _ rfl).2 13
theorem n6_13 {T : Nat → Option q_T} {R : Nat → Nat → Option Value} {a : Nat} {a1 : Nat} (h : Ly T R a (L6 a a1)) : rN R a 13 = R := rN_id (r6_13 h)
theorem r6_14 {T : Nat → Option q_T} {R : Nat → Nat → Option Value} {a : Nat} {a1 : Nat} (h : Ly T R a (L6 a a1)) : R a 14 = none := (h 0 _ rfl).2 14
theorem n6_14 {T : Nat → Option q_T} {R : Nat → Nat → Option Value} {a : Nat} {a1 : Nat} (h : Ly T R a (L6 a a1)) : rN R a 14 = R := rN_id (r6_14 h)
theorem r6_15 {T : Nat → Option q_T} {R : Nat → Nat → Option Value} {a : Nat} {a1 : Nat} (h : Ly T R a (L6 a a1)) : R a 15 = none := (h 0 _ rfl).2 15
theorem n6_15 {T : Nat → Option q_T} {R : Nat → Nat → Option Value} {a : Nat} {a1 : Nat} (h : Ly T R a (L6 a a1)) : rN R a 15 = R := rN_id (r6_15 h)
theorem r6_16 {T : Nat → Option q_T} {R : Nat → Nat → Option Value} {a : Nat} {a1 : Nat} (h : Ly T R a (L6 a a1)) : R a 16 = none := (h 0 _ rfl).2 16
theorem n6_16 {T : Nat → Option q_T} {R : Nat → Nat → Option Value} {a : Nat} {a1 : Nat} (h : Ly T R a (L6 a a1)) : rN R a 16 = R := rN_id (r6_16 h)
theorem r6_17 {T : Nat → Option q_T} {R : Nat → Nat → Option Value} {a : Nat} {a1 : Nat} (h : Ly T R a (L6 a a1)) : R a 17 = none := (h 0 _ rfl).2 17
theorem n6_17 {T : Nat → Option q_T} {R : Nat → Nat → Option Value} {a : Nat} {a1 : Nat} (h : Ly T R a (L6 a a1)) : rN R a 17 = R := rN_id (r6_17 h)
theorem t7 {T : Nat → Option q_T} {R : Nat → Nat → Option Value} {a : Nat} (h : Ly T R a (L7 a)) : T a = some (.inl 7) := (h 0 _ rfl).1
theorem r7_3 {T : Nat → Option q_T} {R : Nat → Nat → Option Value} {a : Nat} (h : Ly T R a (L7 a)) : R a 3 = some (.ref (a + 1)) := (h 0 _ rfl).2 3
theorem t7_3 {T : Nat → Option q_T} {R : Nat → Nat → Option Value} {a : Nat} (h : Ly T R a (L7 a)) : T (a + 1) = some (.inr (.inl (.int, 40))) := (h 1 _ rfl).1
theorem v7_3 {T : Nat → Option q_T} {R : Nat → Nat → Option Value} {a : Nat} (h : Ly T R a (L7 a)) (j : Nat) : R (a + 1) j = none := ly_v (h 1 _ rfl) (by intro j; first | rfl | exact gRf_if _ _ _ _)
theorem w7_3 {T : Nat → Option q_T} {R : Nat → Nat → Option Value} {a : Nat} (h : Ly T R a (L7 a)) (j : Nat) : rN R (a + 1) j = R := rN_id (v7_3 h j)
theorem r7_0 {T : Nat → Option q_T} {R : Nat → Nat → Option Value} {a : Nat} (h : Ly T R a (L7 a)) : R a 0 = none := (h 0 _ rfl).2 0
theorem n7_0 {T : Nat → Option q_T} {R : Nat → Nat → Option Value} {a : Nat} (h : Ly T R a (L7 a)) : rN R a 0 = R := rN_id (r7_0 h)
theorem r7_1 {T : Nat → Option q_T} {R : Nat → Nat → Option Value} {a : Nat} (h : Ly T R a (L7 a)) : R a 1 = none := (h 0 _ rfl).2 1
theorem n7_1 {T : Nat → Option q_T} {R : Nat → Nat → Option Value} {a : Nat} (h : Ly T R a (L7 a)) : rN R a 1 = R := rN_id (r7_1 h)
theorem r7_2 {T : Nat → Option q_T} {R : Nat → Nat → Option Value} {a : Nat} (h : Ly T R a (L7 a)) : R a 2 = none := (h 0 _ rfl).2 2
theorem n7_2 {T : Nat → Option q_T} {R : Nat → Nat → Option Value} {a : Nat} (h : Ly T R a (L7 a)) : rN R a 2 = R := rN_id (r7_2 h)
theorem t8 {T : Nat → Option q_T} {R : Nat → Nat → Option Value} {a : Nat} (h : Ly T R a (L8 a)) : T a = some (.inl 8) := (h 0 _ rfl).1
theorem r8_0 {T : Nat → Option q_T} {R : Nat → Nat → Option Value} {a : Nat} (h : Ly T R a (L8 a)) : R a 0 = some (.ref (a + 1)) := (h 0 _ rfl).2 0
theorem t8_0 {T : Nat → Option q_T} {R : Nat → Nat → Option Value} {a : Nat} (h : Ly T R a (L8 a)) : T (a + 1) = some (.inr (.inl (.int, 12))) := (h 1 _ rfl).1
theorem v8_0 {T : Nat → Option q_T} {R : Nat → Nat → Option Value} {a : Nat} (h : Ly T R a (L8 a)) (j : Nat) : R (a + 1) j = none := ly_v (h 1 _ rfl) (by intro j; first | rfl | exact gRf_if _ _ _ _)
theorem w8_0 {T : Nat → Option q_T} {R : Nat → Nat → Option Value} {a : Nat} (h : Ly T R a (L8 a)) (j : Nat) : rN R (a + 1) j = R := rN_id (v8_0 h j)
theorem r8_2 {T : Nat → Option q_T} {R : Nat → Nat → Option Value} {a : Nat} (h : Ly T R a (L8 a)) : R a 2 = some (.ref (a + 2)) := (h 0 _ rfl).2 2
theorem t8_2 {T : Nat → Option q_T} {R : Nat → Nat → Option Value} {a : Nat} (h : Ly T R a (L8 a)) : T (a + 2) = some (.inr (.inl (.int, 14))) := (h 2 _ rfl).1
theorem v8_2 {T : Nat → Option q_T} {R : Nat → Nat → Option Value} {a : Nat} (h : Ly T R a (L8 a)) (j : Nat) : R (a + 2) j = none := ly_v (h 2 _ rfl) (by intro j; first | rfl | exact gRf_if _ _ _ _)
theorem w8_2 {T : Nat → Option q_T} {R : Nat → Nat → Option Value} {a : Nat} (h : Ly T R a (L8 a)) (j : Nat) : rN R (a + 2) j = R := rN_id (v8_2 h j)
theorem r8_3 {T : Nat → Option q_T} {R : Nat → Nat → Option Value} {a : Nat} (h : Ly T R a (L8 a)) : R a 3 = some (.ref (a + 3)) := (h 0 _ rfl).2 3
theorem t8_3 {T : Nat → Option q_T} {R : Nat → Nat → Option Value} {a : Nat} (h : Ly T R a (L8 a)) : T (a + 3) = some (.inr (.inl (.int, 14))) := (h 3 _ rfl).1
theorem v8_3 {T : Nat → Option q_T} {R : Nat → Nat → Option Value} {a : Nat} (h : Ly T R a (L8 a)) (j : Nat) : R (a + 3) j = none := ly_v (h 3 _ rfl) (by intro j; first | rfl | exact gRf_if _ _ _ _)
theorem w8_3 {T : Nat → Option q_T} {R : Nat → Nat → Option Value} {a : Nat} (h : Ly T R a (L8 a)) (j : Nat) : rN R (a + 3) j = R := rN_id (v8_3 h j)
theorem r8_4 {T : Nat → Option q_T} {R : Nat → Nat → Option Value} {a : Nat} (h : Ly T R a (L8 a)) : R a 4 = some (.ref (a + 4)) := (h 0 _ rfl).2 4
theorem t8_4 {T : Nat → Option q_T} {R : Nat → Nat → Option Value} {a : Nat} (h : Ly T R a (L8 a)) : T (a + 4) = some (.inr (.inl (.int, 70))) := (h 4 _ rfl).1
theorem v8_4 {T : Nat → Option q_T} {R : Nat → Nat → Option Value} {a : Nat} (h : Ly T R a (L8 a)) (j : Nat) : R (a + 4) j = none := ly_v (h 4 _ rfl) (by intro j; first | rfl | exact gRf_if _ _ _ _)
theorem w8_4 {T : Nat → Option q_T} {R : Nat → Nat → Option Value} {a : Nat} (h : Ly T R a (L8 a)) (j : Nat) : rN R (a + 4) j = R := rN_id (v8_4 h j)
theorem r8_5 {T : Nat → Option q_T} {R : Nat → Nat → Option Value} {a : Nat} (h : Ly T R a (L8 a)) : R a 5 = some (.ref (a + 5)) := (h 0 _ rfl).2 5
theorem t8_5 {T : Nat → Option q_T} {R : Nat → Nat → Option Value} {a : Nat} (h : Ly T R a (L8 a)) : T (a + 5) = some (.inr (.inl (.int, 14))) := (h 5 _ rfl).1
theorem v8_5 {T : Nat → Option q_T} {R : Nat → Nat → Option Value} {a : Nat} (h : Ly T R a (L8 a)) (j : Nat) : R (a + 5) j = none := ly_v (h 5 _ rfl) (by intro j; first | rfl | exact gRf_if _ _ _ _)
theorem w8_5 {T : Nat → Option q_T} {R : Nat → Nat → Option Value} {a : Nat} (h : Ly T R a (L8 a)) (j : Nat) : rN R (a + 5) j = R := rN_id (v8_5 h j)
theorem r8_6 {T : Nat → Option q_T} {R : Nat → Nat → Option Value} {a : Nat} (h : Ly T R a (L8 a)) : R a 6 = some (.ref (a + 6)) := (h 0 _ rfl).2 6
theorem t8_6 {T : Nat → Option q_T} {R : Nat → Nat → Option Value} {a : Nat} (h : Ly T R a (L8 a)) : T (a + 6) = some (.inr (.inl (.int, 70))) := (h 6 _ rfl).1
theorem v8_6 {T : Nat → Option q_T} {R : Nat → Nat → Option Value} {a : Nat} (h : Ly T R a (L8 a)) (j : Nat) : R (a + 6) j = none := ly_v (h 6 _ rfl) (by intro j; first | rfl | exact gRf_if _ _ _ _)
theorem w8_6 {T : Nat → Option q_T} {R : Nat → Nat → Option Value} {a : Nat} (h : Ly T R a (L8 a)) (j : Nat) : rN R (a + 6) j = R := rN_id (v8_6 h j)
theorem r8_7 {T : Nat → Option q_T} {R : Nat → Nat → Option Value} {a : Nat} (h : Ly T R a (L8 a)) : R a 7 = some (.ref (a + 7)) := (h 0 _ rfl).2 7
theorem t8_7 {T : Nat → Option q_T} {R : Nat → Nat → Option Value} {a : Nat} (h : Ly T R a (L8 a)) : T (a + 7) = some (.inr (.inl (.int, 70))) := (h 7 _ rfl).1
theorem v8_7 {T : Nat → Option q_T} {R : Nat → Nat → Option Value} {a : Nat} (h : Ly T R a (L8 a)) (j : Nat) : R (a + 7) j = none := ly_v (h 7 _ rfl) (by intro j; first | rfl | exact gRf_if _ _ _ _)
theorem w8_7 {T : Nat → Option q_T} {R : Nat → Nat → Option Value} {a : Nat} (h : Ly T R a (L8 a)) (j : Nat) : rN R (a + 7) j = R := rN_id (v8_7 h j)
theorem r8_8 {T : Nat → Option q_T} {R : Nat → Nat → Option Value} {a : Nat} (h : Ly T R a (L8 a)) : R a 8 = some (.ref (a + 8)) := (h 0 _ rfl).2 8
theorem t8_8 {T : Nat → Option q_T} {R : Nat → Nat → Option Value} {a : Nat} (h : Ly T R a (L8 a)) : T (a + 8) = some (.inr (.inl (.int, 70))) := (h 8 _ rfl).1
theorem v8_8 {T : Nat → Option q_T} {R : Nat → Nat → Option Value} {a : Nat} (h : Ly T R a (L8 a)) (j : Nat) : R (a + 8) j = none := ly_v (h 8 _ rfl) (by intro j; first | rfl | exact gRf_if _ _ _ _)
theorem w8_8 {T : Nat → Option q_T} {R : Nat → Nat → Option Value} {a : Nat} (h : Ly T R a (L8 a)) (j : Nat) : rN R (a + 8) j = R := rN_id (v8_8 h j)
theorem r8_9 {T : Nat → Option q_T} {R : Nat → Nat → Option Value} {a : Nat} (h : Ly T R a (L8 a)) : R a 9 = some (.ref (a + 9)) := (h 0 _ rfl).2 9
theorem t8_9 {T : Nat → Option q_T} {R : Nat → Nat → Option Value} {a : Nat} (h : Ly T R a (L8 a)) : T (a + 9) = some (.inr (.inl (.int, 14))) := (h 9 _ rfl).1
theorem v8_9 {T : Nat → Option q_T} {R : Nat → Nat → Option Value} {a : Nat} (h : Ly T R a (L8 a)) (j : Nat) : R (a + 9) j = none := ly_v (h 9 _ rfl) (by intro j; first | rfl | exact gRf_if _ _ _ _)
theorem w8_9 {T : Nat → Option q_T} {R : Nat → Nat → Option Value} {a : Nat} (h : Ly T R a (L8 a)) (j : Nat) : rN R (a + 9) j = R := rN_id (v8_9 h j)
theorem r8_10 {T : Nat → Option q_T} {R : Nat → Nat → Option Value} {a : Nat} (h : Ly T R a (L8 a)) : R a 10 = some (.ref (a + 10)) := (h 0 _ rfl).2 10
theorem t8_10 {T : Nat → Option q_T} {R : Nat → Nat → Option Value} {a : Nat} (h : Ly T R a (L8 a)) : T (a + 10) = some (.inr (.inl (.boolean, 14))) := (h 10 _ rfl).1
theorem v8_10 {T : Nat → Option q_T} {R : Nat → Nat → Option Value} {a : Nat} (h : Ly T R a (L8 a)) (j : Nat) : R (a + 10) j = none := ly_v (h 10 _ rfl) (by intro j; first | rfl | exact gRf_if _ _ _ _)
theorem w8_10 {T : Nat → Option q_T} {R : Nat → Nat → Option Value} {a : Nat} (h : Ly T R a (L8 a)) (j : Nat) : rN R (a + 10) j = R := rN_id (v8_10 h j)
theorem r8_11 {T : Nat → Option q_T} {R : Nat → Nat → Option Value} {a : Nat} (h : Ly T R a (L8 a)) : R a 11 = some (.ref (a + 11)) := (h 0 _ rfl).2 11
theorem t8_11 {T : Nat → Option q_T} {R : Nat → Nat → Option Value} {a : Nat} (h : Ly T R a (L8 a)) : T (a + 11) = some (.inr (.inl (.int, 14))) := (h 11 _ rfl).1
theorem v8_11 {T : Nat → Option q_T} {R : Nat → Nat → Option Value} {a : Nat} (h : Ly T R a (L8 a)) (j : Nat) : R (a + 11) j = none := ly_v (h 11 _ rfl) (by intro j; first | rfl | exact gRf_if _ _ _ _)
theorem w8_11 {T : Nat → Option q_T} {R : Nat → Nat → Option Value} {a : Nat} (h : Ly T R a (L8 a)) (j : Nat) : rN R (a + 11) j = R := rN_id (v8_11 h j)
theorem r8_12 {T : Nat → Option q_T} {R : Nat → Nat → Option Value} {a : Nat} (h : Ly T R a (L8 a)) : R a 12 = some (.ref (a + 12)) := (h 0 _ rfl).2 12
theorem t8_12 {T : Nat → Option q_T} {R : Nat → Nat → Option Value} {a : Nat} (h : Ly T R a (L8 a)) : T (a + 12) = some (.inr (.inl (.int, 84))) := (h 12 _ rfl).1
theorem v8_12 {T : Nat → Option q_T} {R : Nat → Nat → Option Value} {a : Nat} (h : Ly T R a (L8 a)) (j : Nat) : R (a + 12) j = none := ly_v (h 12 _ rfl) (by intro j; first | rfl | exact gRf_if _ _ _ _)
theorem w8_12 {T : Nat → Option q_T} {R : Nat → Nat → Option Value} {a : Nat} (h : Ly T R a (L8 a)) (j : Nat) : rN R (a + 12) j = R := rN_id (v8_12 h j)
theorem r8_13 {T : Nat → Option q_T} {R : Nat → Nat → Option Value} {a : Nat} (h : Ly T R a (L8 a)) : R a 13 = some (.ref (a + 13)) := (h 0 _ rfl).2 13
theorem t8_13 {T : Nat → Option q_T} {R : Nat → Nat → Option Value} {a : Nat} (h : Ly T R a (L8 a)) : T (a + 13) = some (.inr (.inl (.int, 84))) := (h 13 _ rfl).1
theorem v8_13 {T : Nat → Option q_T} {R : Nat → Nat → Option Value} {a : Nat} (h : Ly T R a (L8 a)) (j : Nat) : R (a + 13) j = none := ly_v (h 13 _ rfl) (by intro j; first | rfl | exact gRf_if _ _ _ _)
theorem w8_13 {T : Nat → Option q_T} {R : Nat → Nat → Option Value} {a : Nat} (h : Ly T R a (L8 a)) (j : Nat) : rN R (a + 13) j = R := rN_id (v8_13 h j)
theorem r8_1 {T : Nat → Option q_T} {R : Nat → Nat → Option Value} {a : Nat} (h : Ly T R a (L8 a)) : R a 1 = none := (h 0 _ rfl).2 1
theorem n8_1 {T : Nat → Option q_T} {R : Nat → Nat → Option Value} {a : Nat} (h : Ly T R a (L8 a)) : rN R a 1 = R := rN_id (r8_1 h)
theorem t9 {T : Nat → Option q_T} {R : Nat → Nat → Option Value} {a : Nat} (h : Ly T R a (L9 a)) : T a = some (.inl 9) := (h 0 _ rfl).1
theorem r9_5 {T : Nat → Option q_T} {R : Nat → Nat → Option Value} {a : Nat} (h : Ly T R a (L9 a)) : R a 5 = some (.ref (a + 1)) := (h 0 _ rfl).2 5
theorem t9_5 {T : Nat → Option q_T} {R : Nat → Nat → Option Value} {a : Nat} (h : Ly T R a (L9 a)) : T (a + 1) = some (.inr (.inl (.int, 201))) := (h 1 _ rfl).1
theorem v9_5 {T : Nat → Option q_T} {R : Nat → Nat → Option Value} {a : Nat} (h : Ly T R a (L9 a)) (j : Nat) : R (a + 1) j = none := ly_v (h 1 _ rfl) (by intro j; first | rfl | exact gRf_if _ _ _ _)
theorem w9_5 {T : Nat → Option q_T} {R : Nat → Nat → Option Value} {a : Nat} (h : Ly T R a (L9 a)) (j : Nat) : rN R (a + 1) j = R := rN_id (v9_5 h j)
theorem r9_6 {T : Nat → Option q_T} {R : Nat → Nat → Option Value} {a : Nat} (h : Ly T R a (L9 a)) : R a 6 = some (.ref (a + 2)) := (h 0 _ rfl).2 6
theorem t9_6 {T : Nat → Option q_T} {R : Nat → Nat → Option Value} {a : Nat} (h : Ly T R a (L9 a)) : T (a + 2) = some (.inr (.inl (.int, 201))) := (h 2 _ rfl).1
theorem v9_6 {T : Nat → Option q_T} {R : Nat → Nat → Option Value} {a : Nat} (h : Ly T R a (L9 a)) (j : Nat) : R (a + 2) j = none := ly_v (h 2 _ rfl) (by intro j; first | rfl | exact gRf_if _ _ _ _)
theorem w9_6 {T : Nat → Option q_T} {R : Nat → Nat → Option Value} {a : Nat} (h : Ly T R a (L9 a)) (j : Nat) : rN R (a + 2) j = R := rN_id (v9_6 h j)
theorem r9_7 {T : Nat → Option q_T} {R : Nat → Nat → Option Value} {a : Nat} (h : Ly T R a (L9 a)) : R a 7 = some (.ref (a + 3)) := (h 0 _ rfl).2 7
theorem t9_7 {T : Nat → Option q_T} {R : Nat → Nat → Option Value} {a : Nat} (h : Ly T R a (L9 a)) : T (a + 3) = some (.inr (.inl (.int, 201))) := (h 3 _ rfl).1
theorem v9_7 {T : Nat → Option q_T} {R : Nat → Nat → Option Value} {a : Nat} (h : Ly T R a (L9 a)) (j : Nat) : R (a + 3) j = none := ly_v (h 3 _ rfl) (by intro j; first | rfl | exact gRf_if _ _ _ _)
theorem w9_7 {T : Nat → Option q_T} {R : Nat → Nat → Option Value} {a : Nat} (h : Ly T R a (L9 a)) (j : Nat) : rN R (a + 3) j = R := rN_id (v9_7 h j)
theorem r9_8 {T : Nat → Option q_T} {R : Nat → Nat → Option Value} {a : Nat} (h : Ly T R a (L9 a)) : R a 8 = some (.ref (a + 4)) := (h 0 _ rfl).2 8
theorem t9_8 {T : Nat → Option q_T} {R : Nat → Nat → Option Value} {a : Nat} (h : Ly T R a (L9 a)) : T (a + 4) = some (.inr (.inl (.int, 201))) := (h 4 _ rfl).1
theorem v9_8 {T : Nat → Option q_T} {R : Nat → Nat → Option Value} {a : Nat} (h : Ly T R a (L9 a)) (j : Nat) : R (a + 4) j = none := ly_v (h 4 _ rfl) (by intro j; first | rfl | exact gRf_if _ _ _ _)
theorem w9_8 {T : Nat → Option q_T} {R : Nat → Nat → Option Value} {a : Nat} (h : Ly T R a (L9 a)) (j : Nat) : rN R (a + 4) j = R := rN_id (v9_8 h j)
theorem r9_9 {T : Nat → Option q_T} {R : Nat → Nat → Option Value} {a : Nat} (h : Ly T R a (L9 a)) : R a 9 = some (.ref (a + 5)) := (h 0 _ rfl).2 9
theorem t9_9 {T : Nat → Option q_T} {R : Nat → Nat → Option Value} {a : Nat} (h : Ly T R a (L9 a)) : T (a + 5) = some (.inr (.inl (.int, 201))) := (h 5 _ rfl).1
theorem v9_9 {T : Nat → Option q_T} {R : Nat → Nat → Option Value} {a : Nat} (h : Ly T R a (L9 a)) (j : Nat) : R (a + 5) j = none := ly_v (h 5 _ rfl) (by intro j; first | rfl | exact gRf_if _ _ _ _)
theorem w9_9 {T : Nat → Option q_T} {R : Nat → Nat → Option Value} {a : Nat} (h : Ly T R a (L9 a)) (j : Nat) : rN R (a + 5) j = R := rN_id (v9_9 h j)
theorem r9_10 {T : Nat → Option q_T} {R : Nat → Nat → Option Value} {a : Nat} (h : Ly T R a (L9 a)) : R a 10 = some (.ref (a + 6)) := (h 0 _ rfl).2 10
theorem t9_10 {T : Nat → Option q_T} {R : Nat → Nat → Option Value} {a : Nat} (h : Ly T R a (L9 a)) : T (a + 6) = some (.inr (.inl (.int, 201))) := (h 6 _ rfl).1
theorem v9_10 {T : Nat → Option q_T} {R : Nat → Nat → Option Value} {a : Nat} (h : Ly T R a (L9 a)) (j : Nat) : R (a + 6) j = none := ly_v (h 6 _ rfl) (by intro j; first | rfl | exact gRf_if _ _ _ _)
theorem w9_10 {T : Nat → Option q_T} {R : Nat → Nat → Option Value} {a : Nat} (h : Ly T R a (L9 a)) (j : Nat) : rN R (a + 6) j = R := rN_id (v9_10 h j)
theorem r9_11 {T : Nat → Option q_T} {R : Nat → Nat → Option Value} {a : Nat} (h : Ly T R a (L9 a)) : R a 11 = some (.ref (a + 7)) := (h 0 _ rfl).2 11
theorem t9_11 {T : Nat → Option q_T} {R : Nat → Nat → Option Value} {a : Nat} (h : Ly T R a (L9 a)) : T (a + 7) = some (.inr (.inl (.int, 40))) := (h 7 _ rfl).1
theorem v9_11 {T : Nat → Option q_T} {R : Nat → Nat → Option Value} {a : Nat} (h : Ly T R a (L9 a)) (j : Nat) : R (a + 7) j = none := ly_v (h 7 _ rfl) (by intro j; first | rfl | exact gRf_if _ _ _ _)
theorem w9_11 {T : Nat → Option q_T} {R : Nat → Nat → Option Value} {a : Nat} (h : Ly T R a (L9 a)) (j : Nat) : rN R (a + 7) j = R := rN_id (v9_11 h j)
theorem r9_12 {T : Nat → Option q_T} {R : Nat → Nat → Option Value} {a : Nat} (h : Ly T R a (L9 a)) : R a 12 = some (.ref (a + 8)) := (h 0 _ rfl).2 12
theorem t9_12 {T : Nat → Option q_T} {R : Nat → Nat → Option Value} {a : Nat} (h : Ly T R a (L9 a)) : T (a + 8) = some (.inr (.inl (.int, 201))) := (h 8 _ rfl).1
theorem v9_12 {T : Nat → Option q_T} {R : Nat → Nat → Option Value} {a : Nat} (h : Ly T R a (L9 a)) (j : Nat) : R (a + 8) j = none := ly_v (h 8 _ rfl) (by intro j; first | rfl | exact gRf_if _ _ _ _)
theorem w9_12 {T : Nat → Option q_T} {R : Nat → Nat → Option Value} {a : Nat} (h : Ly T R a (L9 a)) (j : Nat) : rN R (a + 8) j = R := rN_id (v9_12 h j)
theorem r9_13 {T : Nat → Option q_T} {R : Nat → Nat → Option Value} {a : Nat} (h : Ly T R a (L9 a)) : R a 13 = some (.ref (a + 9)) := (h 0 _ rfl).2 13
theorem t9_13 {T : Nat → Option q_T} {R : Nat → Nat → Option Value} {a : Nat} (h : Ly T R a (L9 a)) : T (a + 9) = some (.inr (.inl (.int, 40))) := (h 9 _ rfl).1
theorem v9_13 {T : Nat → Option q_T} {R : Nat → Nat → Option Value} {a : Nat} (h : Ly T R a (L9 a)) (j : Nat) : R (a + 9) j = none := ly_v (h 9 _ rfl) (by intro j; first | rfl | exact gRf_if _ _ _ _)
theorem w9_13 {T : Nat → Option q_T} {R : Nat → Nat → Option Value} {a : Nat} (h : Ly T R a (L9 a)) (j : Nat) : rN R (a + 9) j = R := rN_id (v9_13 h j)
theorem r9_0 {T : Nat → Option q_T} {R : Nat → Nat → Option Value} {a : Nat} (h : Ly T R a (L9 a)) : R a 0 = none := (h 0 _ rfl).2 0
theorem n9_0 {T : Nat → Option q_T} {R : Nat → Nat → Option Value} {a : Nat} (h : Ly T R a (L9 a)) : rN R a 0 = R := rN_id (r9_0 h)
theorem r9_1 {T : Nat → Option q_T} {R : Nat → Nat → Option Value} {a : Nat} (h : Ly T R a (L9 a)) : R a 1 = none := (h 0 _ rfl).2 1
theorem n9_1 {T : Nat → Option q_T} {R : Nat → Nat → Option Value} {a : Nat} (h : Ly T R a (L9 a)) : rN R a 1 = R := rN_id (r9_1 h)
theorem r9_2 {T : Nat → Option q_T} {R : Nat → Nat → Option Value} {a : Nat} (h : Ly T R a (L9 a)) : R a 2 = none := (h 0 _ rfl).2 2
theorem n9_2 {T : Nat → Option q_T} {R : Nat → Nat → Option Value} {a : Nat} (h : Ly T R a (L9 a)) : rN R a 2 = R := rN_id (r9_2 h)
theorem r9_3 {T : Nat → Option q_T} {R : Nat → Nat → Option Value} {a : Nat} (h : Ly T R a (L9 a)) : R a 3 = none := (h 0 _ rfl).2 3
theorem n9_3 {T : Nat → Option q_T} {R : Nat → Nat → Option Value} {a : Nat} (h : Ly T R a (L9 a)) : rN R a 3 = R := rN_id (r9_3 h)
theorem r9_4 {T : Nat → Option q_T} {R : Nat → Nat → Option Value} {a : Nat} (h : Ly T R a (L9 a)) : R a 4 = none := (h 0 _ rfl).2 4
theorem n9_4 {T : Nat → Option q_T} {R : Nat → Nat → Option Value} {a : Nat} (h : Ly T R a (L9 a)) : rN R a 4 = R := rN_id (r9_4 h)
theorem sb10_10 {a : Nat} {k : Nat} (hk : k < 10) : (L10 a)[8 + k]? = (L9 (a + 8))[k]? := by
  match k, hk with
  | 0, _ => rfl
  | 1, _ => rfl
  | 2, _ => rfl
  | 3, _ => rfl
  | 4, _ => rfl
  | 5, _ => rfl
  | 6, _ => rfl
  | 7, _ => rfl
  | 8, _ => rfl
  | 9, _ => rfl
  | n + 10, q => exact absurd q (by omega)
theorem sb10_11 {a : Nat} {k : Nat} (hk : k < 10) : (L10 a)[18 + k]? = (L9 (a + 18))[k]? := by
  match k, hk with
  | 0, _ => rfl
  | 1, _ => rfl
  | 2, _ => rfl
  | 3, _ => rfl
  | 4, _ => rfl
  | 5, _ => rfl
  | 6, _ => rfl
  | 7, _ => rfl
  | 8, _ => rfl
  | 9, _ => rfl
  | n + 10, q => exact absurd q (by omega)
theorem el10_12 {a : Nat} {i : Nat} (hi : i < 60) : (L10 a)[29 + i]? = some (.inr (.inl (.int, 201)), fun _ => .int 0) := by
  match i, hi with
  | 0, _ => rfl
  | 1, _ => rfl
  | 2, _ => rfl
  | 3, _ => rfl
  | 4, _ => rfl
  | 5, _ => rfl
  | 6, _ => rfl
  | 7, _ => rfl
  | 8, _ => rfl
  | 9, _ => rfl
  | 10, _ => rfl
  | 11, _ => rfl
  | 12, _ => rfl
  | 13, _ => rfl
  | 14, _ => rfl
  | 15, _ => rfl
  | 16, _ => rfl
  | 17, _ => rfl
  | 18, _ => rfl
  | 19, _ => rfl
  | 20, _ => rfl
  | 21, _ => rfl
  | 22, _ => rfl
  | 23, _ => rfl
  | 24, _ => rfl
  | 25, _ => rfl
  | 26, _ => rfl
  | 27, _ => rfl
  | 28, _ => rfl
  | 29, _ => rfl
  | 30, _ => rfl
  | 31, _ => rfl
  | 32, _ => rfl
  | 33, _ => rfl
  | 34, _ => rfl
  | 35, _ => rfl
  | 36, _ => rfl
  | 37, _ => rfl
  | 38, _ => rfl
  | 39, _ => rfl
  | 40, _ => rfl
  | 41, _ => rfl
  | 42, _ => rfl
  | 43, _ => rfl
  | 44, _ => rfl
  | 45, _ => rfl
  | 46, _ => rfl
  | 47, _ => rfl
  | 48, _ => rfl
  | 49, _ => rfl
  | 50, _ => rfl
  | 51, _ => rfl
  | 52, _ => rfl
  | 53, _ => rfl
  | 54, _ => rfl
  | 55, _ => rfl
  | 56, _ => rfl
  | 57, _ => rfl
  | 58, _ => rfl
  | 59, _ => rfl
  | n + 60, q => exact absurd q (by omega)
theorem sb10_16 {a : Nat} {k : Nat} (hk : k < 10) : (L10 a)[91 + k]? = (L9 (a + 91))[k]? := by
  match k, hk with
  | 0, _ => rfl
  | 1, _ => rfl
  | 2, _ => rfl
  | 3, _ => rfl
  | 4, _ => rfl
  | 5, _ => rfl
  | 6, _ => rfl
  | 7, _ => rfl
  | 8, _ => rfl
  | 9, _ => rfl
  | n + 10, q => exact absurd q (by omega)
theorem sb10_17 {a : Nat} {k : Nat} (hk : k < 10) : (L10 a)[101 + k]? = (L9 (a + 101))[k]? := by
  match k, hk with
  | 0, _ => rfl
  | 1, _ => rfl
  | 2, _ => rfl
  | 3, _ => rfl
  | 4, _ => rfl
  | 5, _ => rfl
  | 6, _ => rfl
  | 7, _ => rfl
  | 8, _ => rfl
  | 9, _ => rfl
  | n + 10, q => exact absurd q (by omega)
theorem sb10_4 {a : Nat} {i k : Nat} (hi : i < 8) (hk : k < 10) : (L10 a)[111 + 10 * i + k]? = (L9 (a + 111 + 10 * i))[k]? := by
  match i, hi, k, hk with
  | 0, _, 0, _ => rfl
  | 0, _, 1, _ => rfl
  | 0, _, 2, _ => rfl
  | 0, _, 3, _ => rfl
  | 0, _, 4, _ => rfl
  | 0, _, 5, _ => rfl
  | 0, _, 6, _ => rfl
  | 0, _, 7, _ => rfl
  | 0, _, 8, _ => rfl
  | 0, _, 9, _ => rfl
  | 1, _, 0, _ => rfl
  | 1, _, 1, _ => rfl
  | 1, _, 2, _ => rfl
  | 1, _, 3, _ => rfl
  | 1, _, 4, _ => rfl
  | 1, _, 5, _ => rfl
  | 1, _, 6, _ => rfl
  | 1, _, 7, _ => rfl
  | 1, _, 8, _ => rfl
  | 1, _, 9, _ => rfl
  | 2, _, 0, _ => rfl
  | 2, _, 1, _ => rfl
  | 2, _, 2, _ => rfl
  | 2, _, 3, _ => rfl
  | 2, _, 4, _ => rfl
  | 2, _, 5, _ => rfl
  | 2, _, 6, _ => rfl
  | 2, _, 7, _ => rfl
  | 2, _, 8, _ => rfl
  | 2, _, 9, _ => rfl
  | 3, _, 0, _ => rfl
  | 3, _, 1, _ => rfl
  | 3, _, 2, _ => rfl
  | 3, _, 3, _ => rfl
  | 3, _, 4, _ => rfl
  | 3, _, 5, _ => rfl
  | 3, _, 6, _ => rfl
  | 3, _, 7, _ => rfl
  | 3, _, 8, _ => rfl
  | 3, _, 9, _ => rfl
  | 4, _, 0, _ => rfl
  | 4, _, 1, _ => rfl
  | 4, _, 2, _ => rfl
  | 4, _, 3, _ => rfl
  | 4, _, 4, _ => rfl
  | 4, _, 5, _ => rfl
  | 4, _, 6, _ => rfl
  | 4, _, 7, _ => rfl
  | 4, _, 8, _ => rfl
  | 4, _, 9, _ => rfl
  | 5, _, 0, _ => rfl
  | 5, _, 1, _ => rfl
  | 5, _, 2, _ => rfl
  | 5, _, 3, _ => rfl
  | 5, _, 4, _ => rfl
  | 5, _, 5, _ => rfl
  | 5, _, 6, _ => rfl
  | 5, _, 7, _ => rfl
  | 5, _, 8, _ => rfl
  | 5, _, 9, _ => rfl
  | 6, _, 0, _ => rfl
  | 6, _, 1, _ => rfl
  | 6, _, 2, _ => rfl
  | 6, _, 3, _ => rfl
  | 6, _, 4, _ => rfl
  | 6, _, 5, _ => rfl
  | 6, _, 6, _ => rfl
  | 6, _, 7, _ => rfl
  | 6, _, 8, _ => rfl
  | 6, _, 9, _ => rfl
  | 7, _, 0, _ => rfl
  | 7, _, 1, _ => rfl
  | 7, _, 2, _ => rfl
  | 7, _, 3, _ => rfl
  | 7, _, 4, _ => rfl
  | 7, _, 5, _ => rfl
  | 7, _, 6, _ => rfl
  | 7, _, 7, _ => rfl
  | 7, _, 8, _ => rfl
  | 7, _, 9, _ => rfl
  | n + 8, q, _, _ => exact absurd q (by omega)
  | _, _, n + 10, q => exact absurd q (by omega)
theorem sb10_5 {a : Nat} {i k : Nat} (hi : i < 12) (hk : k < 10) : (L10 a)[191 + 10 * i + k]? = (L9 (a + 191 + 10 * i))[k]? := by
  match i, hi, k, hk with
  | 0, _, 0, _ => rfl
  | 0, _, 1, _ => rfl
  | 0, _, 2, _ => rfl
  | 0, _, 3, _ => rfl
  | 0, _, 4, _ => rfl
  | 0, _, 5, _ => rfl
  | 0, _, 6, _ => rfl
  | 0, _, 7, _ => rfl
  | 0, _, 8, _ => rfl
  | 0, _, 9, _ => rfl
  | 1, _, 0, _ => rfl
  | 1, _, 1, _ => rfl
  | 1, _, 2, _ => rfl
  | 1, _, 3, _ => rfl
  | 1, _, 4, _ => rfl
  | 1, _, 5, _ => rfl
  | 1, _, 6, _ => rfl
  | 1, _, 7, _ => rfl
  | 1, _, 8, _ => rfl
  | 1, _, 9, _ => rfl
  | 2, _, 0, _ => rfl
  | 2, _, 1, _ => rfl
  | 2, _, 2, _ => rfl
  | 2, _, 3, _ => rfl
  | 2, _, 4, _ => rfl
  | 2, _, 5, _ => rfl
  | 2, _, 6, _ => rfl
  | 2, _, 7, _ => rfl
  | 2, _, 8, _ => rfl
  | 2, _, 9, _ => rfl
  | 3, _, 0, _ => rfl
  | 3, _, 1, _ => rfl
  | 3, _, 2, _ => rfl
  | 3, _, 3, _ => rfl
  | 3, _, 4, _ => rfl
  | 3, _, 5, _ => rfl
  | 3, _, 6, _ => rfl
  | 3, _, 7, _ => rfl
  | 3, _, 8, _ => rfl
  | 3, _, 9, _ => rfl
  | 4, _, 0, _ => rfl
  | 4, _, 1, _ => rfl
  | 4, _, 2, _ => rfl
  | 4, _, 3, _ => rfl
  | 4, _, 4, _ => rfl
  | 4, _, 5, _ => rfl
  | 4, _, 6, _ => rfl
  | 4, _, 7, _ => rfl
  | 4, _, 8, _ => rfl
  | 4, _, 9, _ => rfl
  | 5, _, 0, _ => rfl
  | 5, _, 1, _ => rfl
  | 5, _, 2, _ => rfl
  | 5, _, 3, _ => rfl
  | 5, _, 4, _ => rfl
  | 5, _, 5, _ => rfl
  | 5, _, 6, _ => rfl
  | 5, _, 7, _ => rfl
  | 5, _, 8, _ => rfl
  | 5, _, 9, _ => rfl
  | 6, _, 0, _ => rfl
  | 6, _, 1, _ => rfl
  | 6, _, 2, _ => rfl
  | 6, _, 3, _ => rfl
  | 6, _, 4, _ => rfl
  | 6, _, 5, _ => rfl
  | 6, _, 6, _ => rfl
  | 6, _, 7, _ => rfl
  | 6, _, 8, _ => rfl
  | 6, _, 9, _ => rfl
  | 7, _, 0, _ => rfl
  | 7, _, 1, _ => rfl
  | 7, _, 2, _ => rfl
  | 7, _, 3, _ => rfl
  | 7, _, 4, _ => rfl
  | 7, _, 5, _ => rfl
  | 7, _, 6, _ => rfl
  | 7, _, 7, _ => rfl
  | 7, _, 8, _ => rfl
  | 7, _, 9, _ => rfl
  | 8, _, 0, _ => rfl
  | 8, _, 1, _ => rfl
  | 8, _, 2, _ => rfl
  | 8, _, 3, _ => rfl
  | 8, _, 4, _ => rfl
  | 8, _, 5, _ => rfl
  | 8, _, 6, _ => rfl
  | 8, _, 7, _ => rfl
  | 8, _, 8, _ => rfl
  | 8, _, 9, _ => rfl
  | 9, _, 0, _ => rfl
  | 9, _, 1, _ => rfl
  | 9, _, 2, _ => rfl
  | 9, _, 3, _ => rfl
  | 9, _, 4, _ => rfl
  | 9, _, 5, _ => rfl
  | 9, _, 6, _ => rfl
  | 9, _, 7, _ => rfl
  | 9, _, 8, _ => rfl
  | 9, _, 9, _ => rfl
  | 10, _, 0, _ => rfl
  | 10, _, 1, _ => rfl
  | 10, _, 2, _ => rfl
  | 10, _, 3, _ => rfl
  | 10, _, 4, _ => rfl
  | 10, _, 5, _ => rfl
  | 10, _, 6, _ => rfl
  | 10, _, 7, _ => rfl
  | 10, _, 8, _ => rfl
  | 10, _, 9, _ => rfl
  | 11, _, 0, _ => rfl
  | 11, _, 1, _ => rfl
  | 11, _, 2, _ => rfl
  | 11, _, 3, _ => rfl
  | 11, _, 4, _ => rfl
  | 11, _, 5, _ => rfl
  | 11, _, 6, _ => rfl
  | 11, _, 7, _ => rfl
  | 11, _, 8, _ => rfl
  | 11, _, 9, _ => rfl
  | n + 12, q, _, _ => exact absurd q (by omega)
  | _, _, n + 10, q => exact absurd q (by omega)
theorem t10 {T : Nat → Option q_T} {R : Nat → Nat → Option Value} {a : Nat} (h : Ly T R a (L10 a)) : T a = some (.inl 10) := (h 0 _ rfl).1
theorem r10_2 {T : Nat → Option q_T} {R : Nat → Nat → Option Value} {a : Nat} (h : Ly T R a (L10 a)) : R a 2 = some (.ref (a + 1)) := (h 0 _ rfl).2 2
theorem t10_2 {T : Nat → Option q_T} {R : Nat → Nat → Option Value} {a : Nat} (h : Ly T R a (L10 a)) : T (a + 1) = some (.inr (.inl (.boolean, 6))) := (h 1 _ rfl).1
theorem v10_2 {T : Nat → Option q_T} {R : Nat → Nat → Option Value} {a : Nat} (h : Ly T R a (L10 a)) (j : Nat) : R (a + 1) j = none := ly_v (h 1 _ rfl) (by intro j; first | rfl | exact gRf_if _ _ _ _)
theorem w10_2 {T : Nat → Option q_T} {R : Nat → Nat → Option Value} {a : Nat} (h : Ly T R a (L10 a)) (j : Nat) : rN R (a + 1) j = R := rN_id (v10_2 h j)
theorem r10_3 {T : Nat → Option q_T} {R : Nat → Nat → Option Value} {a : Nat} (h : Ly T R a (L10 a)) : R a 3 = some (.ref (a + 2)) := (h 0 _ rfl).2 3
theorem t10_3 {T : Nat → Option q_T} {R : Nat → Nat → Option Value} {a : Nat} (h : Ly T R a (L10 a)) : T (a + 2) = some (.inr (.inl (.boolean, 6))) := (h 2 _ rfl).1
theorem v10_3 {T : Nat → Option q_T} {R : Nat → Nat → Option Value} {a : Nat} (h : Ly T R a (L10 a)) (j : Nat) : R (a + 2) j = none := ly_v (h 2 _ rfl) (by intro j; first | rfl | exact gRf_if _ _ _ _)
theorem w10_3 {T : Nat → Option q_T} {R : Nat → Nat → Option Value} {a : Nat} (h : Ly T R a (L10 a)) (j : Nat) : rN R (a + 2) j = R := rN_id (v10_3 h j)
theorem r10_4 {T : Nat → Option q_T} {R : Nat → Nat → Option Value} {a : Nat} (h : Ly T R a (L10 a)) : R a 4 = some (.ref (a + 3)) := (h 0 _ rfl).2 4
theorem r10_5 {T : Nat → Option q_T} {R : Nat → Nat → Option Value} {a : Nat} (h : Ly T R a (L10 a)) : R a 5 = some (.ref (a + 4)) := (h 0 _ rfl).2 5
theorem r10_6 {T : Nat → Option q_T} {R : Nat → Nat → Option Value} {a : Nat} (h : Ly T R a (L10 a)) : R a 6 = some (.ref (a + 5)) := (h 0 _ rfl).2 6
theorem t10_6 {T : Nat → Option q_T} {R : Nat → Nat → Option Value} {a : Nat} (h : Ly T R a (L10 a)) : T (a + 5) = some (.inr (.inl (.int, 4))) := (h 5 _ rfl).1
theorem v10_6 {T : Nat → Option q_T} {R : Nat → Nat → Option Value} {a : Nat} (h : Ly T R a (L10 a)) (j : Nat) : R (a + 5) j = none := ly_v (h 5 _ rfl) (by intro j; first | rfl | exact gRf_if _ _ _ _)
theorem w10_6 {T : Nat → Option q_T} {R : Nat → Nat → Option Value} {a : Nat} (h : Ly T R a (L10 a)) (j : Nat) : rN R (a + 5) j = R := rN_id (v10_6 h j)
theorem r10_7 {T : Nat → Option q_T} {R : Nat → Nat → Option Value} {a : Nat} (h : Ly T R a (L10 a)) : R a 7 = some (.ref (a + 6)) := (h 0 _ rfl).2 7
theorem t10_7 {T : Nat → Option q_T} {R : Nat → Nat → Option Value} {a : Nat} (h : Ly T R a (L10 a)) : T (a + 6) = some (.inr (.inl (.int, 64))) := (h 6 _ rfl).1
theorem v10_7 {T : Nat → Option q_T} {R : Nat → Nat → Option Value} {a : Nat} (h : Ly T R a (L10 a)) (j : Nat) : R (a + 6) j = none := ly_v (h 6 _ rfl) (by intro j; first | rfl | exact gRf_if _ _ _ _)
theorem w10_7 {T : Nat → Option q_T} {R : Nat → Nat → Option Value} {a : Nat} (h : Ly T R a (L10 a)) (j : Nat) : rN R (a + 6) j = R := rN_id (v10_7 h j)
theorem r10_9 {T : Nat → Option q_T} {R : Nat → Nat → Option Value} {a : Nat} (h : Ly T R a (L10 a)) : R a 9 = some (.ref (a + 7)) := (h 0 _ rfl).2 9
theorem t10_9 {T : Nat → Option q_T} {R : Nat → Nat → Option Value} {a : Nat} (h : Ly T R a (L10 a)) : T (a + 7) = some (.inr (.inl (.int, 16))) := (h 7 _ rfl).1
theorem v10_9 {T : Nat → Option q_T} {R : Nat → Nat → Option Value} {a : Nat} (h : Ly T R a (L10 a)) (j : Nat) : R (a + 7) j = none := ly_v (h 7 _ rfl) (by intro j; first | rfl | exact gRf_if _ _ _ _)
theorem w10_9 {T : Nat → Option q_T} {R : Nat → Nat → Option Value} {a : Nat} (h : Ly T R a (L10 a)) (j : Nat) : rN R (a + 7) j = R := rN_id (v10_9 h j)
theorem r10_10 {T : Nat → Option q_T} {R : Nat → Nat → Option Value} {a : Nat} (h : Ly T R a (L10 a)) : R a 10 = some (.ref (a + 8)) := (h 0 _ rfl).2 10
theorem r10_11 {T : Nat → Option q_T} {R : Nat → Nat → Option Value} {a : Nat} (h : Ly T R a (L10 a)) : R a 11 = some (.ref (a + 18)) := (h 0 _ rfl).2 11
theorem r10_12 {T : Nat → Option q_T} {R : Nat → Nat → Option Value} {a : Nat} (h : Ly T R a (L10 a)) : R a 12 = some (.ref (a + 28)) := (h 0 _ rfl).2 12
theorem t10_12 {T : Nat → Option q_T} {R : Nat → Nat → Option Value} {a : Nat} (h : Ly T R a (L10 a)) : T (a + 28) = some (.inr (.inl (.array .int, 60))) := (h 28 _ rfl).1
theorem r10_13 {T : Nat → Option q_T} {R : Nat → Nat → Option Value} {a : Nat} (h : Ly T R a (L10 a)) : R a 13 = some (.ref (a + 89)) := (h 0 _ rfl).2 13
theorem t10_13 {T : Nat → Option q_T} {R : Nat → Nat → Option Value} {a : Nat} (h : Ly T R a (L10 a)) : T (a + 89) = some (.inr (.inl (.int, 60))) := (h 89 _ rfl).1
theorem v10_13 {T : Nat → Option q_T} {R : Nat → Nat → Option Value} {a : Nat} (h : Ly T R a (L10 a)) (j : Nat) : R (a + 89) j = none := ly_v (h 89 _ rfl) (by intro j; first | rfl | exact gRf_if _ _ _ _)
theorem w10_13 {T : Nat → Option q_T} {R : Nat → Nat → Option Value} {a : Nat} (h : Ly T R a (L10 a)) (j : Nat) : rN R (a + 89) j = R := rN_id (v10_13 h j)
theorem r10_14 {T : Nat → Option q_T} {R : Nat → Nat → Option Value} {a : Nat} (h : Ly T R a (L10 a)) : R a 14 = some (.ref (a + 90)) := (h 0 _ rfl).2 14
theorem t10_14 {T : Nat → Option q_T} {R : Nat → Nat → Option Value} {a : Nat} (h : Ly T R a (L10 a)) : T (a + 90) = some (.inr (.inl (.int, 60))) := (h 90 _ rfl).1
theorem v10_14 {T : Nat → Option q_T} {R : Nat → Nat → Option Value} {a : Nat} (h : Ly T R a (L10 a)) (j : Nat) : R (a + 90) j = none := ly_v (h 90 _ rfl) (by intro j; first | rfl | exact gRf_if _ _ _ _)
theorem w10_14 {T : Nat → Option q_T} {R : Nat → Nat → Option Value} {a : Nat} (h : Ly T R a (L10 a)) (j : Nat) : rN R (a + 90) j = R := rN_id (v10_14 h j)
theorem r10_16 {T : Nat → Option q_T} {R : Nat → Nat → Option Value} {a : Nat} (h : Ly T R a (L10 a)) : R a 16 = some (.ref (a + 91)) := (h 0 _ rfl).2 16
theorem r10_17 {T : Nat → Option q_T} {R : Nat → Nat → Option Value} {a : Nat} (h : Ly T R a (L10 a)) : R a 17 = some (.ref (a + 101)) := (h 0 _ rfl).2 17
theorem r10_0 {T : Nat → Option q_T} {R : Nat → Nat → Option Value} {a : Nat} (h : Ly T R a (L10 a)) : R a 0 = none := (h 0 _ rfl).2 0
theorem n10_0 {T : Nat → Option q_T} {R : Nat → Nat → Option Value} {a : Nat} (h : Ly T R a (L10 a)) : rN R a 0 = R := rN_id (r10_0 h)
theorem r10_1 {T : Nat → Option q_T} {R : Nat → Nat → Option Value} {a : Nat} (h : Ly T R a (L10 a)) : R a 1 = none := (h 0 _ rfl).2 1
theorem n10_1 {T : Nat → Option q_T} {R : Nat → Nat → Option Value} {a : Nat} (h : Ly T R a (L10 a)) : rN R a 1 = R := rN_id (r10_1 h)
theorem r10_8 {T : Nat → Option q_T} {R : Nat → Nat → Option Value} {a : Nat} (h : Ly T R a (L10 a)) : R a 8 = none := (h 0 _ rfl).2 8
theorem n10_8 {T : Nat → Option q_T} {R : Nat → Nat → Option Value} {a : Nat} (h : Ly T R a (L10 a)) : rN R a 8 = R := rN_id (r10_8 h)
theorem r10_15 {T : Nat → Option q_T} {R : Nat → Nat → Option Value} {a : Nat} (h : Ly T R a (L10 a)) : R a 15 = none := (h 0 _ rfl).2 15
theorem n10_15 {T : Nat → Option q_T} {R : Nat → Nat → Option Value} {a : Nat} (h : Ly T R a (L10 a)) : rN R a 15 = R := rN_id (r10_15 h)
theorem o10_10 {T : Nat → Option q_T} {R : Nat → Nat → Option Value} {a : Nat} (h : Ly T R a (L10 a)) : Ly T R (a + 8) (L9 (a + 8)) := ly_sub h (fun k hk => by
    rw [lL9] at hk
    exact sb10_10 hk)
theorem o10_11 {T : Nat → Option q_T} {R : Nat → Nat → Option Value} {a : Nat} (h : Ly T R a (L10 a)) : Ly T R (a + 18) (L9 (a + 18)) := ly_sub h (fun k hk => by
    rw [lL9] at hk
    exact sb10_11 hk)
theorem u10_12 {T : Nat → Option q_T} {R : Nat → Nat → Option Value} {a : Nat} (h : Ly T R a (L10 a)) {i : Nat} (hi : i < 60) : R (a + 28) i = some (.ref (a + 29 + i)) := ly_u (h 28 _ rfl) (by show (gRf (fun j => if j < 60 then Value.ref _ else Value.null) i) = _; rw [gRf_r hi])
theorem e10_12 {T : Nat → Option q_T} {R : Nat → Nat → Option Value} {a : Nat} (h : Ly T R a (L10 a)) {i : Nat} (hi : i < 60) : T (a + 29 + i) = some (.inr (.inl (.int, 201))) ∧ ∀ j, R (a + 29 + i) j = none := by
  have h1 := h (29 + i) (.inr (.inl (.int, 201)), fun _ => .int 0) (by exact el10_12 hi)
  rw [← Nat.add_assoc] at h1
  exact ⟨h1.1, h1.2⟩
theorem o10_16 {T : Nat → Option q_T} {R : Nat → Nat → Option Value} {a : Nat} (h : Ly T R a (L10 a)) : Ly T R (a + 91) (L9 (a + 91)) := ly_sub h (fun k hk => by
    rw [lL9] at hk
    exact sb10_16 hk)
theorem o10_17 {T : Nat → Option q_T} {R : Nat → Nat → Option Value} {a : Nat} (h : Ly T R a (L10 a)) : Ly T R (a + 101) (L9 (a + 101)) := ly_sub h (fun k hk => by
    rw [lL9] at hk
    exact sb10_17 hk)
theorem t10_4 {T : Nat → Option q_T} {R : Nat → Nat → Option Value} {a : Nat} (h : Ly T R a (L10 a)) : T (a + 3) = some (.inr (.inl (.object "GrammarTools$Tree", 8))) := (h 3 _ rfl).1
theorem u10_4 {T : Nat → Option q_T} {R : Nat → Nat → Option Value} {a : Nat} (h : Ly T R a (L10 a)) {i : Nat} (hi : i < 8) : R (a + 3) i = some (.ref (a + 111 + 10 * i)) := ly_u (h 3 _ rfl) (by show (gRf (fun j => if j < 8 then Value.ref _ else Value.null) i) = _; rw [gRf_r hi])
theorem o10_4 {T : Nat → Option q_T} {R : Nat → Nat → Option Value} {a : Nat} (h : Ly T R a (L10 a)) {i : Nat} (hi : i < 8) : Ly T R (a + 111 + 10 * i) (L9 (a + 111 + 10 * i)) := ly_sub2 h (fun k hk => by
    rw [lL9] at hk
    exact sb10_4 hi hk)
theorem t10_5 {T : Nat → Option q_T} {R : Nat → Nat → Option Value} {a : Nat} (h : Ly T R a (L10 a)) : T (a + 4) = some (.inr (.inl (.object "GrammarTools$Tree", 12))) := (h 4 _ rfl).1
theorem u10_5 {T : Nat → Option q_T} {R : Nat → Nat → Option Value} {a : Nat} (h : Ly T R a (L10 a)) {i : Nat} (hi : i < 12) : R (a + 4) i = some (.ref (a + 191 + 10 * i)) := ly_u (h 4 _ rfl) (by show (gRf (fun j => if j < 12 then Value.ref _ else Value.null) i) = _; rw [gRf_r hi])
theorem o10_5 {T : Nat → Option q_T} {R : Nat → Nat → Option Value} {a : Nat} (h : Ly T R a (L10 a)) {i : Nat} (hi : i < 12) : Ly T R (a + 191 + 10 * i) (L9 (a + 191 + 10 * i)) := ly_sub2 h (fun k hk => by
    rw [lL9] at hk
    exact sb10_5 hi hk)
theorem sb11_4 {a a1 a2 a3 a4 : Nat} {k : Nat} (hk : k < 10) : (L11x a a1 a2 a3 a4)[5 + k]? = (L9 (a + 5))[k]? := by
  match k, hk with
  | 0, _ => rfl
  | 1, _ => rfl
  | 2, _ => rfl
  | 3, _ => rfl
  | 4, _ => rfl
  | 5, _ => rfl
  | 6, _ => rfl
  | 7, _ => rfl
  | 8, _ => rfl
  | 9, _ => rfl
  | n + 10, q => exact absurd q (by omega)
theorem sb11_11 {a a1 a2 a3 a4 : Nat} {k : Nat} (hk : k < 6) : (L11x a a1 a2 a3 a4)[20 + k]? = (L4 (a + 20))[k]? := by
  match k, hk with
  | 0, _ => rfl
  | 1, _ => rfl
  | 2, _ => rfl
  | 3, _ => rfl
  | 4, _ => rfl
  | 5, _ => rfl
  | n + 6, q => exact absurd q (by omega)
theorem sb11_13 {a a1 a2 a3 a4 : Nat} {k : Nat} (hk : k < 20) : (L11x a a1 a2 a3 a4)[26 + k]? = (L1 (a + 26))[k]? := by
  match k, hk with
  | 0, _ => rfl
  | 1, _ => rfl
  | 2, _ => rfl
  | 3, _ => rfl
  | 4, _ => rfl
  | 5, _ => rfl
  | 6, _ => rfl
  | 7, _ => rfl
  | 8, _ => rfl
  | 9, _ => rfl
  | 10, _ => rfl
  | 11, _ => rfl
  | 12, _ => rfl
  | 13, _ => rfl
  | 14, _ => rfl
  | 15, _ => rfl
  | 16, _ => rfl
  | 17, _ => rfl
  | 18, _ => rfl
  | 19, _ => rfl
  | n + 20, q => exact absurd q (by omega)
theorem sb11_14 {a a1 a2 a3 a4 : Nat} {k : Nat} (hk : k < 5) : (L11x a a1 a2 a3 a4)[46 + k]? = (L0 (a + 46))[k]? := by
  match k, hk with
  | 0, _ => rfl
  | 1, _ => rfl
  | 2, _ => rfl
  | 3, _ => rfl
  | 4, _ => rfl
  | n + 5, q => exact absurd q (by omega)
theorem sb11_15 {a a1 a2 a3 a4 : Nat} {k : Nat} (hk : k < 8) : (L11x a a1 a2 a3 a4)[51 + k]? = (L2 (a + 51))[k]? := by
  match k, hk with
  | 0, _ => rfl
  | 1, _ => rfl
  | 2, _ => rfl
  | 3, _ => rfl
  | 4, _ => rfl
  | 5, _ => rfl
  | 6, _ => rfl
  | 7, _ => rfl
  | n + 8, q => exact absurd q (by omega)
theorem sb11_17 {a a1 a2 a3 a4 : Nat} {k : Nat} (hk : k < 311) : (L11x a a1 a2 a3 a4)[59 + k]? = (L10 (a + 59))[k]? := by
  match k, hk with
  | 0, _ => rfl
  | 1, _ => rfl
  | 2, _ => rfl
  | 3, _ => rfl
  | 4, _ => rfl
  | 5, _ => rfl
  | 6, _ => rfl
  | 7, _ => rfl
  | 8, _ => rfl
  | 9, _ => rfl
  | 10, _ => rfl
  | 11, _ => rfl
  | 12, _ => rfl
  | 13, _ => rfl
  | 14, _ => rfl
  | 15, _ => rfl
  | 16, _ => rfl
  | 17, _ => rfl
  | 18, _ => rfl
  | 19, _ => rfl
  | 20, _ => rfl
  | 21, _ => rfl
  | 22, _ => rfl
  | 23, _ => rfl
  | 24, _ => rfl
  | 25, _ => rfl
  | 26, _ => rfl
  | 27, _ => rfl
  | 28, _ => rfl
  | 29, _ => rfl
  | 30, _ => rfl
  | 31, _ => rfl
  | 32, _ => rfl
  | 33, _ => rfl
  | 34, _ => rfl
  | 35, _ => rfl
  | 36, _ => rfl
  | 37, _ => rfl
  | 38, _ => rfl
  | 39, _ => rfl
  | 40, _ => rfl
  | 41, _ => rfl
  | 42, _ => rfl
  | 43, _ => rfl
  | 44, _ => rfl
  | 45, _ => rfl
  | 46, _ => rfl
  | 47, _ => rfl
  | 48, _ => rfl
  | 49, _ => rfl
  | 50, _ => rfl
  | 51, _ => rfl
  | 52, _ => rfl
  | 53, _ => rfl
  | 54, _ => rfl
  | 55, _ => rfl
  | 56, _ => rfl
  | 57, _ => rfl
  | 58, _ => rfl
  | 59, _ => rfl
  | 60, _ => rfl
  | 61, _ => rfl
  | 62, _ => rfl
  | 63, _ => rfl
  | 64, _ => rfl
  | 65, _ => rfl
  | 66, _ => rfl
  | 67, _ => rfl
  | 68, _ => rfl
  | 69, _ => rfl
  | 70, _ => rfl
  | 71, _ => rfl
  | 72, _ => rfl
  | 73, _ => rfl
  | 74, _ => rfl
  | 75, _ => rfl
  | 76, _ => rfl
  | 77, _ => rfl
  | 78, _ => rfl
  | 79, _ => rfl
  | 80, _ => rfl
  | 81, _ => rfl
  | 82, _ => rfl
  | 83, _ => rfl
  | 84, _ => rfl
  | 85, _ => rfl
  | 86, _ => rfl
  | 87, _ => rfl
  | 88, _ => rfl
  | 89, _ => rfl
  | 90, _ => rfl
  | 91, _ => rfl
  | 92, _ => rfl
  | 93, _ => rfl
  | 94, _ => rfl
  | 95, _ => rfl
  | 96, _ => rfl
  | 97, _ => rfl
  | 98, _ => rfl
  | 99, _ => rfl
  | 100, _ => rfl
  | 101, _ => rfl
  | 102, _ => rfl
  | 103, _ => rfl
  | 104, _ => rfl
  | 105, _ => rfl
  | 106, _ => rfl
  | 107, _ => rfl
  | 108, _ => rfl
  | 109, _ => rfl
  | 110, _ => rfl
  | 111, _ => rfl
  | 112, _ => rfl
  | 113, _ => rfl
  | 114, _ => rfl
  | 115, _ => rfl
  | 116, _ => rfl
  | 117, _ => rfl
  | 118, _ => rfl
  | 119, _ => rfl
  | 120, _ => rfl
  | 121, _ => rfl
  | 122, _ => rfl
  | 123, _ => rfl
  | 124, _ => rfl
  | 125, _ => rfl
  | 126, _ => rfl
  | 127, _ => rfl
  | 128, _ => rfl
  | 129, _ => rfl
  | 130, _ => rfl
  | 131, _ => rfl
  | 132, _ => rfl
  | 133, _ => rfl
  | 134, _ => rfl
  | 135, _ => rfl
  | 136, _ => rfl
  | 137, _ => rfl
  | 138, _ => rfl
  | 139, _ => rfl
  | 140, _ => rfl
  | 141, _ => rfl
  | 142, _ => rfl
  | 143, _ => rfl
  | 144, _ => rfl
  | 145, _ => rfl
  | 146, _ => rfl
  | 147, _ => rfl
  | 148, _ => rfl
  | 149, _ => rfl
  | 150, _ => rfl
  | 151, _ => rfl
  | 152, _ => rfl
  | 153, _ => rfl
  | 154, _ => rfl
  | 155, _ => rfl
  | 156, _ => rfl
  | 157, _ => rfl
  | 158, _ => rfl
  | 159, _ => rfl
  | 160, _ => rfl
  | 161, _ => rfl
  | 162, _ => rfl
  | 163, _ => rfl
  | 164, _ => rfl
  | 165, _ => rfl
  | 166, _ => rfl
  | 167, _ => rfl
  | 168, _ => rfl
  | 169, _ => rfl
  | 170, _ => rfl
  | 171, _ => rfl
  | 172, _ => rfl
  | 173, _ => rfl
  | 174, _ => rfl
  | 175, _ => rfl
  | 176, _ => rfl
  | 177, _ => rfl
  | 178, _ => rfl
  | 179, _ => rfl
  | 180, _ => rfl
  | 181, _ => rfl
  | 182, _ => rfl
  | 183, _ => rfl
  | 184, _ => rfl
  | 185, _ => rfl
  | 186, _ => rfl
  | 187, _ => rfl
  | 188, _ => rfl
  | 189, _ => rfl
  | 190, _ => rfl
  | 191, _ => rfl
  | 192, _ => rfl
  | 193, _ => rfl
  | 194, _ => rfl
  | 195, _ => rfl
  | 196, _ => rfl
  | 197, _ => rfl
  | 198, _ => rfl
  | 199, _ => rfl
  | 200, _ => rfl
  | 201, _ => rfl
  | 202, _ => rfl
  | 203, _ => rfl
  | 204, _ => rfl
  | 205, _ => rfl
  | 206, _ => rfl
  | 207, _ => rfl
  | 208, _ => rfl
  | 209, _ => rfl
  | 210, _ => rfl
  | 211, _ => rfl
  | 212, _ => rfl
  | 213, _ => rfl
  | 214, _ => rfl
  | 215, _ => rfl
  | 216, _ => rfl
  | 217, _ => rfl
  | 218, _ => rfl
  | 219, _ => rfl
  | 220, _ => rfl
  | 221, _ => rfl
  | 222, _ => rfl
  | 223, _ => rfl
  | 224, _ => rfl
  | 225, _ => rfl
  | 226, _ => rfl
  | 227, _ => rfl
  | 228, _ => rfl
  | 229, _ => rfl
  | 230, _ => rfl
  | 231, _ => rfl
  | 232, _ => rfl
  | 233, _ => rfl
  | 234, _ => rfl
  | 235, _ => rfl
  | 236, _ => rfl
  | 237, _ => rfl
  | 238, _ => rfl
  | 239, _ => rfl
  | 240, _ => rfl
  | 241, _ => rfl
  | 242, _ => rfl
  | 243, _ => rfl
  | 244, _ => rfl
  | 245, _ => rfl
  | 246, _ => rfl
  | 247, _ => rfl
  | 248, _ => rfl
  | 249, _ => rfl
  | 250, _ => rfl
  | 251, _ => rfl
  | 252, _ => rfl
  | 253, _ => rfl
  | 254, _ => rfl
  | 255, _ => rfl
  | 256, _ => rfl
  | 257, _ => rfl
  | 258, _ => rfl
  | 259, _ => rfl
  | 260, _ => rfl
  | 261, _ => rfl
  | 262, _ => rfl
  | 263, _ => rfl
  | 264, _ => rfl
  | 265, _ => rfl
  | 266, _ => rfl
  | 267, _ => rfl
  | 268, _ => rfl
  | 269, _ => rfl
  | 270, _ => rfl
  | 271, _ => rfl
  | 272, _ => rfl
  | 273, _ => rfl
  | 274, _ => rfl
  | 275, _ => rfl
  | 276, _ => rfl
  | 277, _ => rfl
  | 278, _ => rfl
  | 279, _ => rfl
  | 280, _ => rfl
  | 281, _ => rfl
  | 282, _ => rfl
  | 283, _ => rfl
  | 284, _ => rfl
  | 285, _ => rfl
  | 286, _ => rfl
  | 287, _ => rfl
  | 288, _ => rfl
  | 289, _ => rfl
  | 290, _ => rfl
  | 291, _ => rfl
  | 292, _ => rfl
  | 293, _ => rfl
  | 294, _ => rfl
  | 295, _ => rfl
  | 296, _ => rfl
  | 297, _ => rfl
  | 298, _ => rfl
  | 299, _ => rfl
  | 300, _ => rfl
  | 301, _ => rfl
  | 302, _ => rfl
  | 303, _ => rfl
  | 304, _ => rfl
  | 305, _ => rfl
  | 306, _ => rfl
  | 307, _ => rfl
  | 308, _ => rfl
  | 309, _ => rfl
  | 310, _ => rfl
  | n + 311, q => exact absurd q (by omega)
theorem sb11_0 {a a1 a2 a3 a4 : Nat} {i k : Nat} (hi : i < 2) (hk : k < 14) : (L11x a a1 a2 a3 a4)[370 + 14 * i + k]? = (L8 (a + 370 + 14 * i))[k]? := by
  match i, hi, k, hk with
  | 0, _, 0, _ => rfl
  | 0, _, 1, _ => rfl
  | 0, _, 2, _ => rfl
  | 0, _, 3, _ => rfl
  | 0, _, 4, _ => rfl
  | 0, _, 5, _ => rfl
  | 0, _, 6, _ => rfl
  | 0, _, 7, _ => rfl
  | 0, _, 8, _ => rfl
  | 0, _, 9, _ => rfl
  | 0, _, 10, _ => rfl
  | 0, _, 11, _ => rfl
  | 0, _, 12, _ => rfl
  | 0, _, 13, _ => rfl
  | 1, _, 0, _ => rfl
  | 1, _, 1, _ => rfl
  | 1, _, 2, _ => rfl
  | 1, _, 3, _ => rfl
  | 1, _, 4, _ => rfl
  | 1, _, 5, _ => rfl
  | 1, _, 6, _ => rfl
  | 1, _, 7, _ => rfl
  | 1, _, 8, _ => rfl
  | 1, _, 9, _ => rfl
  | 1, _, 10, _ => rfl
  | 1, _, 11, _ => rfl
  | 1, _, 12, _ => rfl
  | 1, _, 13, _ => rfl
  | n + 2, q, _, _ => exact absurd q (by omega)
  | _, _, n + 14, q => exact absurd q (by omega)
theorem sb11_3 {a a1 a2 a3 a4 : Nat} {i k : Nat} (hi : i < 12) (hk : k < 10) : (L11x a a1 a2 a3 a4)[398 + 10 * i + k]? = (L9 (a + 398 + 10 * i))[k]? := by
  match i, hi, k, hk with
  | 0, _, 0, _ => rfl
  | 0, _, 1, _ => rfl
  | 0, _, 2, _ => rfl
  | 0, _, 3, _ => rfl
  | 0, _, 4, _ => rfl
  | 0, _, 5, _ => rfl
  | 0, _, 6, _ => rfl
  | 0, _, 7, _ => rfl
  | 0, _, 8, _ => rfl
  | 0, _, 9, _ => rfl
  | 1, _, 0, _ => rfl
  | 1, _, 1, _ => rfl
  | 1, _, 2, _ => rfl
  | 1, _, 3, _ => rfl
  | 1, _, 4, _ => rfl
  | 1, _, 5, _ => rfl
  | 1, _, 6, _ => rfl
  | 1, _, 7, _ => rfl
  | 1, _, 8, _ => rfl
  | 1, _, 9, _ => rfl
  | 2, _, 0, _ => rfl
  | 2, _, 1, _ => rfl
  | 2, _, 2, _ => rfl
  | 2, _, 3, _ => rfl
  | 2, _, 4, _ => rfl
  | 2, _, 5, _ => rfl
  | 2, _, 6, _ => rfl
  | 2, _, 7, _ => rfl
  | 2, _, 8, _ => rfl
  | 2, _, 9, _ => rfl
  | 3, _, 0, _ => rfl
  | 3, _, 1, _ => rfl
  | 3, _, 2, _ => rfl
  | 3, _, 3, _ => rfl
  | 3, _, 4, _ => rfl
  | 3, _, 5, _ => rfl
  | 3, _, 6, _ => rfl
  | 3, _, 7, _ => rfl
  | 3, _, 8, _ => rfl
  | 3, _, 9, _ => rfl
  | 4, _, 0, _ => rfl
  | 4, _, 1, _ => rfl
  | 4, _, 2, _ => rfl
  | 4, _, 3, _ => rfl
  | 4, _, 4, _ => rfl
  | 4, _, 5, _ => rfl
  | 4, _, 6, _ => rfl
  | 4, _, 7, _ => rfl
  | 4, _, 8, _ => rfl
  | 4, _, 9, _ => rfl
  | 5, _, 0, _ => rfl
  | 5, _, 1, _ => rfl
  | 5, _, 2, _ => rfl
  | 5, _, 3, _ => rfl
  | 5, _, 4, _ => rfl
  | 5, _, 5, _ => rfl
  | 5, _, 6, _ => rfl
  | 5, _, 7, _ => rfl
  | 5, _, 8, _ => rfl
  | 5, _, 9, _ => rfl
  | 6, _, 0, _ => rfl
  | 6, _, 1, _ => rfl
  | 6, _, 2, _ => rfl
  | 6, _, 3, _ => rfl
  | 6, _, 4, _ => rfl
  | 6, _, 5, _ => rfl
  | 6, _, 6, _ => rfl
  | 6, _, 7, _ => rfl
  | 6, _, 8, _ => rfl
  | 6, _, 9, _ => rfl
  | 7, _, 0, _ => rfl
  | 7, _, 1, _ => rfl
  | 7, _, 2, _ => rfl
  | 7, _, 3, _ => rfl
  | 7, _, 4, _ => rfl
  | 7, _, 5, _ => rfl
  | 7, _, 6, _ => rfl
  | 7, _, 7, _ => rfl
  | 7, _, 8, _ => rfl
  | 7, _, 9, _ => rfl
  | 8, _, 0, _ => rfl
  | 8, _, 1, _ => rfl
  | 8, _, 2, _ => rfl
  | 8, _, 3, _ => rfl
  | 8, _, 4, _ => rfl
  | 8, _, 5, _ => rfl
  | 8, _, 6, _ => rfl
  | 8, _, 7, _ => rfl
  | 8, _, 8, _ => rfl
  | 8, _, 9, _ => rfl
  | 9, _, 0, _ => rfl
  | 9, _, 1, _ => rfl
  | 9, _, 2, _ => rfl
  | 9, _, 3, _ => rfl
  | 9, _, 4, _ => rfl
  | 9, _, 5, _ => rfl
  | 9, _, 6, _ => rfl
  | 9, _, 7, _ => rfl
  | 9, _, 8, _ => rfl
  | 9, _, 9, _ => rfl
  | 10, _, 0, _ => rfl
  | 10, _, 1, _ => rfl
  | 10, _, 2, _ => rfl
  | 10, _, 3, _ => rfl
  | 10, _, 4, _ => rfl
  | 10, _, 5, _ => rfl
  | 10, _, 6, _ => rfl
  | 10, _, 7, _ => rfl
  | 10, _, 8, _ => rfl
  | 10, _, 9, _ => rfl
  | 11, _, 0, _ => rfl
  | 11, _, 1, _ => rfl
  | 11, _, 2, _ => rfl
  | 11, _, 3, _ => rfl
  | 11, _, 4, _ => rfl
  | 11, _, 5, _ => rfl
  | 11, _, 6, _ => rfl
  | 11, _, 7, _ => rfl
  | 11, _, 8, _ => rfl
  | 11, _, 9, _ => rfl
  | n + 12, q, _, _ => exact absurd q (by omega)
  | _, _, n + 10, q => exact absurd q (by omega)
theorem sb11_9 {a a1 a2 a3 a4 : Nat} {i k : Nat} (hi : i < 4) (hk : k < 2) : (L11x a a1 a2 a3 a4)[518 + 2 * i + k]? = (L7 (a + 518 + 2 * i))[k]? := by
  match i, hi, k, hk with
  | 0, _, 0, _ => rfl
  | 0, _, 1, _ => rfl
  | 1, _, 0, _ => rfl
  | 1, _, 1, _ => rfl
  | 2, _, 0, _ => rfl
  | 2, _, 1, _ => rfl
  | 3, _, 0, _ => rfl
  | 3, _, 1, _ => rfl
  | n + 4, q, _, _ => exact absurd q (by omega)
  | _, _, n + 2, q => exact absurd q (by omega)
theorem sb11_10 {a a1 a2 a3 a4 : Nat} {k : Nat} (hk : k < 7) : (L11x a a1 a2 a3 a4)[526 + k]? = (L3 (a + 526) a1)[k]? := by
  match k, hk with
  | 0, _ => rfl
  | 1, _ => rfl
  | 2, _ => rfl
  | 3, _ => rfl
  | 4, _ => rfl
  | 5, _ => rfl
  | 6, _ => rfl
  | n + 7, q => exact absurd q (by omega)
theorem sb11_12 {a a1 a2 a3 a4 : Nat} {k : Nat} (hk : k < 7) : (L11x a a1 a2 a3 a4)[533 + k]? = (L6 (a + 533) a2)[k]? := by
  match k, hk with
  | 0, _ => rfl
  | 1, _ => rfl
  | 2, _ => rfl
  | 3, _ => rfl
  | 4, _ => rfl
  | 5, _ => rfl
  | 6, _ => rfl
  | n + 7, q => exact absurd q (by omega)
theorem sb11_16 {a a1 a2 a3 a4 : Nat} {k : Nat} (hk : k < 4) : (L11x a a1 a2 a3 a4)[540 + k]? = (L5 (a + 540) a3 a4)[k]? := by
  match k, hk with
  | 0, _ => rfl
  | 1, _ => rfl
  | 2, _ => rfl
  | 3, _ => rfl
  | n + 4, q => exact absurd q (by omega)
theorem t11 {T : Nat → Option q_T} {R : Nat → Nat → Option Value} {a : Nat} {a1 a2 a3 a4 : Nat} (h : Ly T R a (L11x a a1 a2 a3 a4)) : T a = some (.inl 11) := (h 0 _ rfl).1
theorem r11_0 {T : Nat → Option q_T} {R : Nat → Nat → Option Value} {a : Nat} {a1 a2 a3 a4 : Nat} (h : Ly T R a (L11x a a1 a2 a3 a4)) : R a 0 = some (.ref (a + 1)) := (h 0 _ rfl).2 0
theorem r11_1 {T : Nat → Option q_T} {R : Nat → Nat → Option Value} {a : Nat} {a1 a2 a3 a4 : Nat} (h : Ly T R a (L11x a a1 a2 a3 a4)) : R a 1 = some (.ref (a + 2)) := (h 0 _ rfl).2 1
theorem t11_1 {T : Nat → Option q_T} {R : Nat → Nat → Option Value} {a : Nat} {a1 a2 a3 a4 : Nat} (h : Ly T R a (L11x a a1 a2 a3 a4)) : T (a + 2) = some (.inr (.inl (.int, 128))) := (h 2 _ rfl).1
theorem v11_1 {T : Nat → Option q_T} {R : Nat → Nat → Option Value} {a : Nat} {a1 a2 a3 a4 : Nat} (h : Ly T R a (L11x a a1 a2 a3 a4)) (j : Nat) : R (a + 2) j = none := ly_v (h 2 _ rfl) (by intro j; first | rfl | exact gRf_if _ _ _ _)
theorem w11_1 {T : Nat → Option q_T} {R : Nat → Nat → Option Value} {a : Nat} {a1 a2 a3 a4 : Nat} (h : Ly T R a (L11x a a1 a2 a3 a4)) (j : Nat) : rN R (a + 2) j = R := rN_id (v11_1 h j)
theorem r11_2 {T : Nat → Option q_T} {R : Nat → Nat → Option Value} {a : Nat} {a1 a2 a3 a4 : Nat} (h : Ly T R a (L11x a a1 a2 a3 a4)) : R a 2 = some (.ref (a + 3)) := (h 0 _ rfl).2 2
theorem t11_2 {T : Nat → Option q_T} {R : Nat → Nat → Option Value} {a : Nat} {a1 a2 a3 a4 : Nat} (h : Ly T R a (L11x a a1 a2 a3 a4)) : T (a + 3) = some (.inr (.inl (.int, 8))) := (h 3 _ rfl).1
theorem v11_2 {T : Nat → Option q_T} {R : Nat → Nat → Option Value} {a : Nat} {a1 a2 a3 a4 : Nat} (h : Ly T R a (L11x a a1 a2 a3 a4)) (j : Nat) : R (a + 3) j = none := ly_v (h 3 _ rfl) (by intro j; first | rfl | exact gRf_if _ _ _ _)
theorem w11_2 {T : Nat → Option q_T} {R : Nat → Nat → Option Value} {a : Nat} {a1 a2 a3 a4 : Nat} (h : Ly T R a (L11x a a1 a2 a3 a4)) (j : Nat) : rN R (a + 3) j = R := rN_id (v11_2 h j)
theorem r11_3 {T : Nat → Option q_T} {R : Nat → Nat → Option Value} {a : Nat} {a1 a2 a3 a4 : Nat} (h : Ly T R a (L11x a a1 a2 a3 a4)) : R a 3 = some (.ref (a + 4)) := (h 0 _ rfl).2 3
theorem r11_4 {T : Nat → Option q_T} {R : Nat → Nat → Option Value} {a : Nat} {a1 a2 a3 a4 : Nat} (h : Ly T R a (L11x a a1 a2 a3 a4)) : R a 4 = some (.ref (a + 5)) := (h 0 _ rfl).2 4
theorem r11_5 {T : Nat → Option q_T} {R : Nat → Nat → Option Value} {a : Nat} {a1 a2 a3 a4 : Nat} (h : Ly T R a (L11x a a1 a2 a3 a4)) : R a 5 = some (.ref (a + 15)) := (h 0 _ rfl).2 5
theorem t11_5 {T : Nat → Option q_T} {R : Nat → Nat → Option Value} {a : Nat} {a1 a2 a3 a4 : Nat} (h : Ly T R a (L11x a a1 a2 a3 a4)) : T (a + 15) = some (.inr (.inl (.int, 64))) := (h 15 _ rfl).1
theorem v11_5 {T : Nat → Option q_T} {R : Nat → Nat → Option Value} {a : Nat} {a1 a2 a3 a4 : Nat} (h : Ly T R a (L11x a a1 a2 a3 a4)) (j : Nat) : R (a + 15) j = none := ly_v (h 15 _ rfl) (by intro j; first | rfl | exact gRf_if _ _ _ _)
theorem w11_5 {T : Nat → Option q_T} {R : Nat → Nat → Option Value} {a : Nat} {a1 a2 a3 a4 : Nat} (h : Ly T R a (L11x a a1 a2 a3 a4)) (j : Nat) : rN R (a + 15) j = R := rN_id (v11_5 h j)
theorem r11_6 {T : Nat → Option q_T} {R : Nat → Nat → Option Value} {a : Nat} {a1 a2 a3 a4 : Nat} (h : Ly T R a (L11x a a1 a2 a3 a4)) : R a 6 = some (.ref (a + 16)) := (h 0 _ rfl).2 6
theorem t11_6 {T : Nat → Option q_T} {R : Nat → Nat → Option Value} {a : Nat} {a1 a2 a3 a4 : Nat} (h : Ly T R a (L11x a a1 a2 a3 a4)) : T (a + 16) = some (.inr (.inl (.int, 5))) := (h 16 _ rfl).1
theorem v11_6 {T : Nat → Option q_T} {R : Nat → Nat → Option Value} {a : Nat} {a1 a2 a3 a4 : Nat} (h : Ly T R a (L11x a a1 a2 a3 a4)) (j : Nat) : R (a + 16) j = none := ly_v (h 16 _ rfl) (by intro j; first | rfl | exact gRf_if _ _ _ _)
theorem w11_6 {T : Nat → Option q_T} {R : Nat → Nat → Option Value} {a : Nat} {a1 a2 a3 a4 : Nat} (h : Ly T R a (L11x a a1 a2 a3 a4)) (j : Nat) : rN R (a + 16) j = R := rN_id (v11_6 h j)
theorem r11_7 {T : Nat → Option q_T} {R : Nat → Nat → Option Value} {a : Nat} {a1 a2 a3 a4 : Nat} (h : Ly T R a (L11x a a1 a2 a3 a4)) : R a 7 = some (.ref (a + 17)) := (h 0 _ rfl).2 7
theorem t11_7 {T : Nat → Option q_T} {R : Nat → Nat → Option Value} {a : Nat} {a1 a2 a3 a4 : Nat} (h : Ly T R a (L11x a a1 a2 a3 a4)) : T (a + 17) = some (.inr (.inl (.int, 14))) := (h 17 _ rfl).1
theorem v11_7 {T : Nat → Option q_T} {R : Nat → Nat → Option Value} {a : Nat} {a1 a2 a3 a4 : Nat} (h : Ly T R a (L11x a a1 a2 a3 a4)) (j : Nat) : R (a + 17) j = none := ly_v (h 17 _ rfl) (by intro j; first | rfl | exact gRf_if _ _ _ _)
theorem w11_7 {T : Nat → Option q_T} {R : Nat → Nat → Option Value} {a : Nat} {a1 a2 a3 a4 : Nat} (h : Ly T R a (L11x a a1 a2 a3 a4)) (j : Nat) : rN R (a + 17) j = R := rN_id (v11_7 h j)
theorem r11_8 {T : Nat → Option q_T} {R : Nat → Nat → Option Value} {a : Nat} {a1 a2 a3 a4 : Nat} (h : Ly T R a (L11x a a1 a2 a3 a4)) : R a 8 = some (.ref (a + 18)) := (h 0 _ rfl).2 8
theorem t11_8 {T : Nat → Option q_T} {R : Nat → Nat → Option Value} {a : Nat} {a1 a2 a3 a4 : Nat} (h : Ly T R a (L11x a a1 a2 a3 a4)) : T (a + 18) = some (.inr (.inl (.int, 70))) := (h 18 _ rfl).1
theorem v11_8 {T : Nat → Option q_T} {R : Nat → Nat → Option Value} {a : Nat} {a1 a2 a3 a4 : Nat} (h : Ly T R a (L11x a a1 a2 a3 a4)) (j : Nat) : R (a + 18) j = none := ly_v (h 18 _ rfl) (by intro j; first | rfl | exact gRf_if _ _ _ _)
theorem w11_8 {T : Nat → Option q_T} {R : Nat → Nat → Option Value} {a : Nat} {a1 a2 a3 a4 : Nat} (h : Ly T R a (L11x a a1 a2 a3 a4)) (j : Nat) : rN R (a + 18) j = R := rN_id (v11_8 h j)
theorem r11_9 {T : Nat → Option q_T} {R : Nat → Nat → Option Value} {a : Nat} {a1 a2 a3 a4 : Nat} (h : Ly T R a (L11x a a1 a2 a3 a4)) : R a 9 = some (.ref (a + 19)) := (h 0 _ rfl).2 9
theorem r11_11 {T : Nat → Option q_T} {R : Nat → Nat → Option Value} {a : Nat} {a1 a2 a3 a4 : Nat} (h : Ly T R a (L11x a a1 a2 a3 a4)) : R a 11 = some (.ref (a + 20)) := (h 0 _ rfl).2 11
theorem r11_13 {T : Nat → Option q_T} {R : Nat → Nat → Option Value} {a : Nat} {a1 a2 a3 a4 : Nat} (h : Ly T R a (L11x a a1 a2 a3 a4)) : R a 13 = some (.ref (a + 26)) := (h 0 _ rfl).2 13
theorem r11_14 {T : Nat → Option q_T} {R : Nat → Nat → Option Value} {a : Nat} {a1 a2 a3 a4 : Nat} (h : Ly T R a (L11x a a1 a2 a3 a4)) : R a 14 = some (.ref (a + 46)) := (h 0 _ rfl).2 14
theorem r11_15 {T : Nat → Option q_T} {R : Nat → Nat → Option Value} {a : Nat} {a1 a2 a3 a4 : Nat} (h : Ly T R a (L11x a a1 a2 a3 a4)) : R a 15 = some (.ref (a + 51)) := (h 0 _ rfl).2 15
theorem r11_17 {T : Nat → Option q_T} {R : Nat → Nat → Option Value} {a : Nat} {a1 a2 a3 a4 : Nat} (h : Ly T R a (L11x a a1 a2 a3 a4)) : R a 17 = some (.ref (a + 59)) := (h 0 _ rfl).2 17
theorem r11_10 {T : Nat → Option q_T} {R : Nat → Nat → Option Value} {a : Nat} {a1 a2 a3 a4 : Nat} (h : Ly T R a (L11x a a1 a2 a3 a4)) : R a 10 = some (.ref (a + 526)) := (h 0 _ rfl).2 10
theorem r11_12 {T : Nat → Option q_T} {R : Nat → Nat → Option Value} {a : Nat} {a1 a2 a3 a4 : Nat} (h : Ly T R a (L11x a a1 a2 a3 a4)) : R a 12 = some (.ref (a + 533)) := (h 0 _ rfl).2 12
theorem r11_16 {T : Nat → Option q_T} {R : Nat → Nat → Option Value} {a : Nat} {a1 a2 a3 a4 : Nat} (h : Ly T R a (L11x a a1 a2 a3 a4)) : R a 16 = some (.ref (a + 540)) := (h 0 _ rfl).2 16
theorem r11_18 {T : Nat → Option q_T} {R : Nat → Nat → Option Value} {a : Nat} {a1 a2 a3 a4 : Nat} (h : Ly T R a (L11x a a1 a2 a3 a4)) : R a 18 = none := (h 0 _ rfl).2 18
theorem n11_18 {T : Nat → Option q_T} {R : Nat → Nat → Option Value} {a : Nat} {a1 a2 a3 a4 : Nat} (h : Ly T R a (L11x a a1 a2 a3 a4)) : rN R a 18 = R := rN_id (r11_18 h)
theorem o11_4 {T : Nat → Option q_T} {R : Nat → Nat → Option Value} {a : Nat} {a1 a2 a3 a4 : Nat} (h : Ly T R a (L11x a a1 a2 a3 a4)) : Ly T R (a + 5) (L9 (a + 5)) := ly_sub h (fun k hk => by
    rw [lL9] at hk
    exact sb11_4 hk)
theorem o11_11 {T : Nat → Option q_T} {R : Nat → Nat → Option Value} {a : Nat} {a1 a2 a3 a4 : Nat} (h : Ly T R a (L11x a a1 a2 a3 a4)) : Ly T R (a + 20) (L4 (a + 20)) := ly_sub h (fun k hk => by
    rw [lL4] at hk
    exact sb11_11 hk)
theorem o11_13 {T : Nat → Option q_T} {R : Nat → Nat → Option Value} {a : Nat} {a1 a2 a3 a4 : Nat} (h : Ly T R a (L11x a a1 a2 a3 a4)) : Ly T R (a + 26) (L1 (a + 26)) := ly_sub h (fun k hk => by
    rw [lL1] at hk
    exact sb11_13 hk)
theorem o11_14 {T : Nat → Option q_T} {R : Nat → Nat → Option Value} {a : Nat} {a1 a2 a3 a4 : Nat} (h : Ly T R a (L11x a a1 a2 a3 a4)) : Ly T R (a + 46) (L0 (a + 46)) := ly_sub h (fun k hk => by
    rw [lL0] at hk
    exact sb11_14 hk)
theorem o11_15 {T : Nat → Option q_T} {R : Nat → Nat → Option Value} {a : Nat} {a1 a2 a3 a4 : Nat} (h : Ly T R a (L11x a a1 a2 a3 a4)) : Ly T R (a + 51) (L2 (a + 51)) := ly_sub h (fun k hk => by
    rw [lL2] at hk
    exact sb11_15 hk)
theorem o11_17 {T : Nat → Option q_T} {R : Nat → Nat → Option Value} {a : Nat} {a1 a2 a3 a4 : Nat} (h : Ly T R a (L11x a a1 a2 a3 a4)) : Ly T R (a + 59) (L10 (a + 59)) := ly_sub h (fun k hk => by
    rw [lL10] at hk
    exact sb11_17 hk)
theorem t11_0 {T : Nat → Option q_T} {R : Nat → Nat → Option Value} {a : Nat} {a1 a2 a3 a4 : Nat} (h : Ly T R a (L11x a a1 a2 a3 a4)) : T (a + 1) = some (.inr (.inl (.object "GrammarTools$Telling", 2))) := (h 1 _ rfl).1
theorem u11_0 {T : Nat → Option q_T} {R : Nat → Nat → Option Value} {a : Nat} {a1 a2 a3 a4 : Nat} (h : Ly T R a (L11x a a1 a2 a3 a4)) {i : Nat} (hi : i < 2) : R (a + 1) i = some (.ref (a + 370 + 14 * i)) := ly_u (h 1 _ rfl) (by show (gRf (fun j => if j < 2 then Value.ref _ else Value.null) i) = _; rw [gRf_r hi])
theorem o11_0 {T : Nat → Option q_T} {R : Nat → Nat → Option Value} {a : Nat} {a1 a2 a3 a4 : Nat} (h : Ly T R a (L11x a a1 a2 a3 a4)) {i : Nat} (hi : i < 2) : Ly T R (a + 370 + 14 * i) (L8 (a + 370 + 14 * i)) := ly_sub2 h (fun k hk => by
    rw [lL8] at hk
    exact sb11_0 hi hk)
theorem t11_3 {T : Nat → Option q_T} {R : Nat → Nat → Option Value} {a : Nat} {a1 a2 a3 a4 : Nat} (h : Ly T R a (L11x a a1 a2 a3 a4)) : T (a + 4) = some (.inr (.inl (.object "GrammarTools$Tree", 12))) := (h 4 _ rfl).1
theorem u11_3 {T : Nat → Option q_T} {R : Nat → Nat → Option Value} {a : Nat} {a1 a2 a3 a4 : Nat} (h : Ly T R a (L11x a a1 a2 a3 a4)) {i : Nat} (hi : i < 12) : R (a + 4) i = some (.ref (a + 398 + 10 * i)) := ly_u (h 4 _ rfl) (by show (gRf (fun j => if j < 12 then Value.ref _ else Value.null) i) = _; rw [gRf_r hi])
theorem o11_3 {T : Nat → Option q_T} {R : Nat → Nat → Option Value} {a : Nat} {a1 a2 a3 a4 : Nat} (h : Ly T R a (L11x a a1 a2 a3 a4)) {i : Nat} (hi : i < 12) : Ly T R (a + 398 + 10 * i) (L9 (a + 398 + 10 * i)) := ly_sub2 h (fun k hk => by
    rw [lL9] at hk
    exact sb11_3 hi hk)
theorem t11_9 {T : Nat → Option q_T} {R : Nat → Nat → Option Value} {a : Nat} {a1 a2 a3 a4 : Nat} (h : Ly T R a (L11x a a1 a2 a3 a4)) : T (a + 19) = some (.inr (.inl (.object "GrammarTools$Sheet", 4))) := (h 19 _ rfl).1
theorem u11_9 {T : Nat → Option q_T} {R : Nat → Nat → Option Value} {a : Nat} {a1 a2 a3 a4 : Nat} (h : Ly T R a (L11x a a1 a2 a3 a4)) {i : Nat} (hi : i < 4) : R (a + 19) i = some (.ref (a + 518 + 2 * i)) := ly_u (h 19 _ rfl) (by show (gRf (fun j => if j < 4 then Value.ref _ else Value.null) i) = _; rw [gRf_r hi])
theorem o11_9 {T : Nat → Option q_T} {R : Nat → Nat → Option Value} {a : Nat} {a1 a2 a3 a4 : Nat} (h : Ly T R a (L11x a a1 a2 a3 a4)) {i : Nat} (hi : i < 4) : Ly T R (a + 518 + 2 * i) (L7 (a + 518 + 2 * i)) := ly_sub2 h (fun k hk => by
    rw [lL7] at hk
    exact sb11_9 hi hk)
theorem o11_10 {T : Nat → Option q_T} {R : Nat → Nat → Option Value} {a : Nat} {a1 a2 a3 a4 : Nat} (h : Ly T R a (L11x a a1 a2 a3 a4)) : Ly T R (a + 526) (L3 (a + 526) a1) := ly_sub h (fun k hk => by
    rw [lL3] at hk
    exact sb11_10 hk)
theorem o11_12 {T : Nat → Option q_T} {R : Nat → Nat → Option Value} {a : Nat} {a1 a2 a3 a4 : Nat} (h : Ly T R a (L11x a a1 a2 a3 a4)) : Ly T R (a + 533) (L6 (a + 533) a2) := ly_sub h (fun k hk => by
    rw [lL6] at hk
    exact sb11_12 hk)
theorem o11_16 {T : Nat → Option q_T} {R : Nat → Nat → Option Value} {a : Nat} {a1 a2 a3 a4 : Nat} (h : Ly T R a (L11x a a1 a2 a3 a4)) : Ly T R (a + 540) (L5 (a + 540) a3 a4) := ly_sub h (fun k hk => by
    rw [lL5] at hk
    exact sb11_16 hk)
theorem t12 {T : Nat → Option q_T} {R : Nat → Nat → Option Value} {a : Nat} (h : Ly T R a (L12 a)) : T a = some (.inl 12) := (h 0 _ rfl).1
theorem r12_0 {T : Nat → Option q_T} {R : Nat → Nat → Option Value} {a : Nat} (h : Ly T R a (L12 a)) : R a 0 = some (.ref (a + 1)) := (h 0 _ rfl).2 0
theorem t12_0 {T : Nat → Option q_T} {R : Nat → Nat → Option Value} {a : Nat} (h : Ly T R a (L12 a)) : T (a + 1) = some (.inr (.inl (.int, 24))) := (h 1 _ rfl).1
theorem v12_0 {T : Nat → Option q_T} {R : Nat → Nat → Option Value} {a : Nat} (h : Ly T R a (L12 a)) (j : Nat) : R (a + 1) j = none := ly_v (h 1 _ rfl) (by intro j; first | rfl | exact gRf_if _ _ _ _)
theorem w12_0 {T : Nat → Option q_T} {R : Nat → Nat → Option Value} {a : Nat} (h : Ly T R a (L12 a)) (j : Nat) : rN R (a + 1) j = R := rN_id (v12_0 h j)
theorem r12_1 {T : Nat → Option q_T} {R : Nat → Nat → Option Value} {a : Nat} (h : Ly T R a (L12 a)) : R a 1 = some (.ref (a + 2)) := (h 0 _ rfl).2 1
theorem t12_1 {T : Nat → Option q_T} {R : Nat → Nat → Option Value} {a : Nat} (h : Ly T R a (L12 a)) : T (a + 2) = some (.inr (.inl (.int, 2))) := (h 2 _ rfl).1
theorem v12_1 {T : Nat → Option q_T} {R : Nat → Nat → Option Value} {a : Nat} (h : Ly T R a (L12 a)) (j : Nat) : R (a + 2) j = none := ly_v (h 2 _ rfl) (by intro j; first | rfl | exact gRf_if _ _ _ _)
theorem w12_1 {T : Nat → Option q_T} {R : Nat → Nat → Option Value} {a : Nat} (h : Ly T R a (L12 a)) (j : Nat) : rN R (a + 2) j = R := rN_id (v12_1 h j)
theorem r12_2 {T : Nat → Option q_T} {R : Nat → Nat → Option Value} {a : Nat} (h : Ly T R a (L12 a)) : R a 2 = some (.ref (a + 3)) := (h 0 _ rfl).2 2
theorem t12_2 {T : Nat → Option q_T} {R : Nat → Nat → Option Value} {a : Nat} (h : Ly T R a (L12 a)) : T (a + 3) = some (.inr (.inl (.int, 28))) := (h 3 _ rfl).1
theorem v12_2 {T : Nat → Option q_T} {R : Nat → Nat → Option Value} {a : Nat} (h : Ly T R a (L12 a)) (j : Nat) : R (a + 3) j = none := ly_v (h 3 _ rfl) (by intro j; first | rfl | exact gRf_if _ _ _ _)
theorem w12_2 {T : Nat → Option q_T} {R : Nat → Nat → Option Value} {a : Nat} (h : Ly T R a (L12 a)) (j : Nat) : rN R (a + 3) j = R := rN_id (v12_2 h j)
theorem r12_3 {T : Nat → Option q_T} {R : Nat → Nat → Option Value} {a : Nat} (h : Ly T R a (L12 a)) : R a 3 = some (.ref (a + 4)) := (h 0 _ rfl).2 3
theorem t12_3 {T : Nat → Option q_T} {R : Nat → Nat → Option Value} {a : Nat} (h : Ly T R a (L12 a)) : T (a + 4) = some (.inr (.inl (.int, 28))) := (h 4 _ rfl).1
theorem v12_3 {T : Nat → Option q_T} {R : Nat → Nat → Option Value} {a : Nat} (h : Ly T R a (L12 a)) (j : Nat) : R (a + 4) j = none := ly_v (h 4 _ rfl) (by intro j; first | rfl | exact gRf_if _ _ _ _)
theorem w12_3 {T : Nat → Option q_T} {R : Nat → Nat → Option Value} {a : Nat} (h : Ly T R a (L12 a)) (j : Nat) : rN R (a + 4) j = R := rN_id (v12_3 h j)
theorem r12_4 {T : Nat → Option q_T} {R : Nat → Nat → Option Value} {a : Nat} (h : Ly T R a (L12 a)) : R a 4 = some (.ref (a + 5)) := (h 0 _ rfl).2 4
theorem t12_4 {T : Nat → Option q_T} {R : Nat → Nat → Option Value} {a : Nat} (h : Ly T R a (L12 a)) : T (a + 5) = some (.inr (.inl (.int, 140))) := (h 5 _ rfl).1
theorem v12_4 {T : Nat → Option q_T} {R : Nat → Nat → Option Value} {a : Nat} (h : Ly T R a (L12 a)) (j : Nat) : R (a + 5) j = none := ly_v (h 5 _ rfl) (by intro j; first | rfl | exact gRf_if _ _ _ _)
theorem w12_4 {T : Nat → Option q_T} {R : Nat → Nat → Option Value} {a : Nat} (h : Ly T R a (L12 a)) (j : Nat) : rN R (a + 5) j = R := rN_id (v12_4 h j)
theorem r12_5 {T : Nat → Option q_T} {R : Nat → Nat → Option Value} {a : Nat} (h : Ly T R a (L12 a)) : R a 5 = some (.ref (a + 6)) := (h 0 _ rfl).2 5
theorem t12_5 {T : Nat → Option q_T} {R : Nat → Nat → Option Value} {a : Nat} (h : Ly T R a (L12 a)) : T (a + 6) = some (.inr (.inl (.int, 140))) := (h 6 _ rfl).1
theorem v12_5 {T : Nat → Option q_T} {R : Nat → Nat → Option Value} {a : Nat} (h : Ly T R a (L12 a)) (j : Nat) : R (a + 6) j = none := ly_v (h 6 _ rfl) (by intro j; first | rfl | exact gRf_if _ _ _ _)
theorem w12_5 {T : Nat → Option q_T} {R : Nat → Nat → Option Value} {a : Nat} (h : Ly T R a (L12 a)) (j : Nat) : rN R (a + 6) j = R := rN_id (v12_5 h j)
theorem r12_6 {T : Nat → Option q_T} {R : Nat → Nat → Option Value} {a : Nat} (h : Ly T R a (L12 a)) : R a 6 = some (.ref (a + 7)) := (h 0 _ rfl).2 6
theorem t12_6 {T : Nat → Option q_T} {R : Nat → Nat → Option Value} {a : Nat} (h : Ly T R a (L12 a)) : T (a + 7) = some (.inr (.inl (.int, 140))) := (h 7 _ rfl).1
theorem v12_6 {T : Nat → Option q_T} {R : Nat → Nat → Option Value} {a : Nat} (h : Ly T R a (L12 a)) (j : Nat) : R (a + 7) j = none := ly_v (h 7 _ rfl) (by intro j; first | rfl | exact gRf_if _ _ _ _)
theorem w12_6 {T : Nat → Option q_T} {R : Nat → Nat → Option Value} {a : Nat} (h : Ly T R a (L12 a)) (j : Nat) : rN R (a + 7) j = R := rN_id (v12_6 h j)
theorem r12_7 {T : Nat → Option q_T} {R : Nat → Nat → Option Value} {a : Nat} (h : Ly T R a (L12 a)) : R a 7 = some (.ref (a + 8)) := (h 0 _ rfl).2 7
theorem t12_7 {T : Nat → Option q_T} {R : Nat → Nat → Option Value} {a : Nat} (h : Ly T R a (L12 a)) : T (a + 8) = some (.inr (.inl (.boolean, 28))) := (h 8 _ rfl).1
theorem v12_7 {T : Nat → Option q_T} {R : Nat → Nat → Option Value} {a : Nat} (h : Ly T R a (L12 a)) (j : Nat) : R (a + 8) j = none := ly_v (h 8 _ rfl) (by intro j; first | rfl | exact gRf_if _ _ _ _)
theorem w12_7 {T : Nat → Option q_T} {R : Nat → Nat → Option Value} {a : Nat} (h : Ly T R a (L12 a)) (j : Nat) : rN R (a + 8) j = R := rN_id (v12_7 h j)
theorem r12_8 {T : Nat → Option q_T} {R : Nat → Nat → Option Value} {a : Nat} (h : Ly T R a (L12 a)) : R a 8 = some (.ref (a + 9)) := (h 0 _ rfl).2 8
theorem t12_8 {T : Nat → Option q_T} {R : Nat → Nat → Option Value} {a : Nat} (h : Ly T R a (L12 a)) : T (a + 9) = some (.inr (.inl (.int, 28))) := (h 9 _ rfl).1
theorem v12_8 {T : Nat → Option q_T} {R : Nat → Nat → Option Value} {a : Nat} (h : Ly T R a (L12 a)) (j : Nat) : R (a + 9) j = none := ly_v (h 9 _ rfl) (by intro j; first | rfl | exact gRf_if _ _ _ _)
theorem w12_8 {T : Nat → Option q_T} {R : Nat → Nat → Option Value} {a : Nat} (h : Ly T R a (L12 a)) (j : Nat) : rN R (a + 9) j = R := rN_id (v12_8 h j)
theorem r12_9 {T : Nat → Option q_T} {R : Nat → Nat → Option Value} {a : Nat} (h : Ly T R a (L12 a)) : R a 9 = some (.ref (a + 10)) := (h 0 _ rfl).2 9
theorem t12_9 {T : Nat → Option q_T} {R : Nat → Nat → Option Value} {a : Nat} (h : Ly T R a (L12 a)) : T (a + 10) = some (.inr (.inl (.int, 168))) := (h 10 _ rfl).1
theorem v12_9 {T : Nat → Option q_T} {R : Nat → Nat → Option Value} {a : Nat} (h : Ly T R a (L12 a)) (j : Nat) : R (a + 10) j = none := ly_v (h 10 _ rfl) (by intro j; first | rfl | exact gRf_if _ _ _ _)
theorem w12_9 {T : Nat → Option q_T} {R : Nat → Nat → Option Value} {a : Nat} (h : Ly T R a (L12 a)) (j : Nat) : rN R (a + 10) j = R := rN_id (v12_9 h j)
theorem r12_10 {T : Nat → Option q_T} {R : Nat → Nat → Option Value} {a : Nat} (h : Ly T R a (L12 a)) : R a 10 = some (.ref (a + 11)) := (h 0 _ rfl).2 10
theorem t12_10 {T : Nat → Option q_T} {R : Nat → Nat → Option Value} {a : Nat} (h : Ly T R a (L12 a)) : T (a + 11) = some (.inr (.inl (.int, 168))) := (h 11 _ rfl).1
theorem v12_10 {T : Nat → Option q_T} {R : Nat → Nat → Option Value} {a : Nat} (h : Ly T R a (L12 a)) (j : Nat) : R (a + 11) j = none := ly_v (h 11 _ rfl) (by intro j; first | rfl | exact gRf_if _ _ _ _)
theorem w12_10 {T : Nat → Option q_T} {R : Nat → Nat → Option Value} {a : Nat} (h : Ly T R a (L12 a)) (j : Nat) : rN R (a + 11) j = R := rN_id (v12_10 h j)
theorem r12_11 {T : Nat → Option q_T} {R : Nat → Nat → Option Value} {a : Nat} (h : Ly T R a (L12 a)) : R a 11 = some (.ref (a + 12)) := (h 0 _ rfl).2 11
theorem t12_11 {T : Nat → Option q_T} {R : Nat → Nat → Option Value} {a : Nat} (h : Ly T R a (L12 a)) : T (a + 12) = some (.inr (.inl (.int, 28))) := (h 12 _ rfl).1
theorem v12_11 {T : Nat → Option q_T} {R : Nat → Nat → Option Value} {a : Nat} (h : Ly T R a (L12 a)) (j : Nat) : R (a + 12) j = none := ly_v (h 12 _ rfl) (by intro j; first | rfl | exact gRf_if _ _ _ _)
theorem w12_11 {T : Nat → Option q_T} {R : Nat → Nat → Option Value} {a : Nat} (h : Ly T R a (L12 a)) (j : Nat) : rN R (a + 12) j = R := rN_id (v12_11 h j)
theorem r12_12 {T : Nat → Option q_T} {R : Nat → Nat → Option Value} {a : Nat} (h : Ly T R a (L12 a)) : R a 12 = some (.ref (a + 13)) := (h 0 _ rfl).2 12
theorem t12_12 {T : Nat → Option q_T} {R : Nat → Nat → Option Value} {a : Nat} (h : Ly T R a (L12 a)) : T (a + 13) = some (.inr (.inl (.int, 5))) := (h 13 _ rfl).1
theorem v12_12 {T : Nat → Option q_T} {R : Nat → Nat → Option Value} {a : Nat} (h : Ly T R a (L12 a)) (j : Nat) : R (a + 13) j = none := ly_v (h 13 _ rfl) (by intro j; first | rfl | exact gRf_if _ _ _ _)
theorem w12_12 {T : Nat → Option q_T} {R : Nat → Nat → Option Value} {a : Nat} (h : Ly T R a (L12 a)) (j : Nat) : rN R (a + 13) j = R := rN_id (v12_12 h j)
theorem r12_13 {T : Nat → Option q_T} {R : Nat → Nat → Option Value} {a : Nat} (h : Ly T R a (L12 a)) : R a 13 = some (.ref (a + 14)) := (h 0 _ rfl).2 13
theorem t12_13 {T : Nat → Option q_T} {R : Nat → Nat → Option Value} {a : Nat} (h : Ly T R a (L12 a)) : T (a + 14) = some (.inr (.inl (.int, 128))) := (h 14 _ rfl).1
theorem v12_13 {T : Nat → Option q_T} {R : Nat → Nat → Option Value} {a : Nat} (h : Ly T R a (L12 a)) (j : Nat) : R (a + 14) j = none := ly_v (h 14 _ rfl) (by intro j; first | rfl | exact gRf_if _ _ _ _)
theorem w12_13 {T : Nat → Option q_T} {R : Nat → Nat → Option Value} {a : Nat} (h : Ly T R a (L12 a)) (j : Nat) : rN R (a + 14) j = R := rN_id (v12_13 h j)
theorem r12_14 {T : Nat → Option q_T} {R : Nat → Nat → Option Value} {a : Nat} (h : Ly T R a (L12 a)) : R a 14 = some (.ref (a + 15)) := (h 0 _ rfl).2 14
theorem t12_14 {T : Nat → Option q_T} {R : Nat → Nat → Option Value} {a : Nat} (h : Ly T R a (L12 a)) : T (a + 15) = some (.inr (.inl (.int, 8))) := (h 15 _ rfl).1
theorem v12_14 {T : Nat → Option q_T} {R : Nat → Nat → Option Value} {a : Nat} (h : Ly T R a (L12 a)) (j : Nat) : R (a + 15) j = none := ly_v (h 15 _ rfl) (by intro j; first | rfl | exact gRf_if _ _ _ _)
theorem w12_14 {T : Nat → Option q_T} {R : Nat → Nat → Option Value} {a : Nat} (h : Ly T R a (L12 a)) (j : Nat) : rN R (a + 15) j = R := rN_id (v12_14 h j)
theorem r12_15 {T : Nat → Option q_T} {R : Nat → Nat → Option Value} {a : Nat} (h : Ly T R a (L12 a)) : R a 15 = some (.ref (a + 16)) := (h 0 _ rfl).2 15
theorem t12_15 {T : Nat → Option q_T} {R : Nat → Nat → Option Value} {a : Nat} (h : Ly T R a (L12 a)) : T (a + 16) = some (.inr (.inl (.int, 100))) := (h 16 _ rfl).1
theorem v12_15 {T : Nat → Option q_T} {R : Nat → Nat → Option Value} {a : Nat} (h : Ly T R a (L12 a)) (j : Nat) : R (a + 16) j = none := ly_v (h 16 _ rfl) (by intro j; first | rfl | exact gRf_if _ _ _ _)
theorem w12_15 {T : Nat → Option q_T} {R : Nat → Nat → Option Value} {a : Nat} (h : Ly T R a (L12 a)) (j : Nat) : rN R (a + 16) j = R := rN_id (v12_15 h j)
theorem r12_16 {T : Nat → Option q_T} {R : Nat → Nat → Option Value} {a : Nat} (h : Ly T R a (L12 a)) : R a 16 = some (.ref (a + 17)) := (h 0 _ rfl).2 16
theorem t12_16 {T : Nat → Option q_T} {R : Nat → Nat → Option Value} {a : Nat} (h : Ly T R a (L12 a)) : T (a + 17) = some (.inr (.inl (.int, 100))) := (h 17 _ rfl).1
theorem v12_16 {T : Nat → Option q_T} {R : Nat → Nat → Option Value} {a : Nat} (h : Ly T R a (L12 a)) (j : Nat) : R (a + 17) j = none := ly_v (h 17 _ rfl) (by intro j; first | rfl | exact gRf_if _ _ _ _)
theorem w12_16 {T : Nat → Option q_T} {R : Nat → Nat → Option Value} {a : Nat} (h : Ly T R a (L12 a)) (j : Nat) : rN R (a + 17) j = R := rN_id (v12_16 h j)
theorem r12_17 {T : Nat → Option q_T} {R : Nat → Nat → Option Value} {a : Nat} (h : Ly T R a (L12 a)) : R a 17 = some (.ref (a + 18)) := (h 0 _ rfl).2 17
theorem t12_17 {T : Nat → Option q_T} {R : Nat → Nat → Option Value} {a : Nat} (h : Ly T R a (L12 a)) : T (a + 18) = some (.inr (.inl (.int, 100))) := (h 18 _ rfl).1
theorem v12_17 {T : Nat → Option q_T} {R : Nat → Nat → Option Value} {a : Nat} (h : Ly T R a (L12 a)) (j : Nat) : R (a + 18) j = none := ly_v (h 18 _ rfl) (by intro j; first | rfl | exact gRf_if _ _ _ _)
theorem w12_17 {T : Nat → Option q_T} {R : Nat → Nat → Option Value} {a : Nat} (h : Ly T R a (L12 a)) (j : Nat) : rN R (a + 18) j = R := rN_id (v12_17 h j)
theorem r12_18 {T : Nat → Option q_T} {R : Nat → Nat → Option Value} {a : Nat} (h : Ly T R a (L12 a)) : R a 18 = some (.ref (a + 19)) := (h 0 _ rfl).2 18
theorem t12_18 {T : Nat → Option q_T} {R : Nat → Nat → Option Value} {a : Nat} (h : Ly T R a (L12 a)) : T (a + 19) = some (.inr (.inl (.int, 4000))) := (h 19 _ rfl).1
theorem v12_18 {T : Nat → Option q_T} {R : Nat → Nat → Option Value} {a : Nat} (h : Ly T R a (L12 a)) (j : Nat) : R (a + 19) j = none := ly_v (h 19 _ rfl) (by intro j; first | rfl | exact gRf_if _ _ _ _)
theorem w12_18 {T : Nat → Option q_T} {R : Nat → Nat → Option Value} {a : Nat} (h : Ly T R a (L12 a)) (j : Nat) : rN R (a + 19) j = R := rN_id (v12_18 h j)
theorem r12_19 {T : Nat → Option q_T} {R : Nat → Nat → Option Value} {a : Nat} (h : Ly T R a (L12 a)) : R a 19 = some (.ref (a + 20)) := (h 0 _ rfl).2 19
theorem t12_19 {T : Nat → Option q_T} {R : Nat → Nat → Option Value} {a : Nat} (h : Ly T R a (L12 a)) : T (a + 20) = some (.inr (.inl (.int, 4000))) := (h 20 _ rfl).1
theorem v12_19 {T : Nat → Option q_T} {R : Nat → Nat → Option Value} {a : Nat} (h : Ly T R a (L12 a)) (j : Nat) : R (a + 20) j = none := ly_v (h 20 _ rfl) (by intro j; first | rfl | exact gRf_if _ _ _ _)
theorem w12_19 {T : Nat → Option q_T} {R : Nat → Nat → Option Value} {a : Nat} (h : Ly T R a (L12 a)) (j : Nat) : rN R (a + 20) j = R := rN_id (v12_19 h j)
theorem r12_20 {T : Nat → Option q_T} {R : Nat → Nat → Option Value} {a : Nat} (h : Ly T R a (L12 a)) : R a 20 = some (.ref (a + 21)) := (h 0 _ rfl).2 20
theorem t12_20 {T : Nat → Option q_T} {R : Nat → Nat → Option Value} {a : Nat} (h : Ly T R a (L12 a)) : T (a + 21) = some (.inr (.inl (.int, 20000))) := (h 21 _ rfl).1
theorem v12_20 {T : Nat → Option q_T} {R : Nat → Nat → Option Value} {a : Nat} (h : Ly T R a (L12 a)) (j : Nat) : R (a + 21) j = none := ly_v (h 21 _ rfl) (by intro j; first | rfl | exact gRf_if _ _ _ _)
theorem w12_20 {T : Nat → Option q_T} {R : Nat → Nat → Option Value} {a : Nat} (h : Ly T R a (L12 a)) (j : Nat) : rN R (a + 21) j = R := rN_id (v12_20 h j)
theorem r12_21 {T : Nat → Option q_T} {R : Nat → Nat → Option Value} {a : Nat} (h : Ly T R a (L12 a)) : R a 21 = some (.ref (a + 22)) := (h 0 _ rfl).2 21
theorem t12_21 {T : Nat → Option q_T} {R : Nat → Nat → Option Value} {a : Nat} (h : Ly T R a (L12 a)) : T (a + 22) = some (.inr (.inl (.int, 4000))) := (h 22 _ rfl).1
theorem v12_21 {T : Nat → Option q_T} {R : Nat → Nat → Option Value} {a : Nat} (h : Ly T R a (L12 a)) (j : Nat) : R (a + 22) j = none := ly_v (h 22 _ rfl) (by intro j; first | rfl | exact gRf_if _ _ _ _)
theorem w12_21 {T : Nat → Option q_T} {R : Nat → Nat → Option Value} {a : Nat} (h : Ly T R a (L12 a)) (j : Nat) : rN R (a + 22) j = R := rN_id (v12_21 h j)
theorem r12_24 {T : Nat → Option q_T} {R : Nat → Nat → Option Value} {a : Nat} (h : Ly T R a (L12 a)) : R a 24 = some (.ref (a + 23)) := (h 0 _ rfl).2 24
theorem t12_24 {T : Nat → Option q_T} {R : Nat → Nat → Option Value} {a : Nat} (h : Ly T R a (L12 a)) : T (a + 23) = some (.inr (.inl (.int, 400))) := (h 23 _ rfl).1
theorem v12_24 {T : Nat → Option q_T} {R : Nat → Nat → Option Value} {a : Nat} (h : Ly T R a (L12 a)) (j : Nat) : R (a + 23) j = none := ly_v (h 23 _ rfl) (by intro j; first | rfl | exact gRf_if _ _ _ _)
theorem w12_24 {T : Nat → Option q_T} {R : Nat → Nat → Option Value} {a : Nat} (h : Ly T R a (L12 a)) (j : Nat) : rN R (a + 23) j = R := rN_id (v12_24 h j)
theorem r12_25 {T : Nat → Option q_T} {R : Nat → Nat → Option Value} {a : Nat} (h : Ly T R a (L12 a)) : R a 25 = some (.ref (a + 24)) := (h 0 _ rfl).2 25
theorem t12_25 {T : Nat → Option q_T} {R : Nat → Nat → Option Value} {a : Nat} (h : Ly T R a (L12 a)) : T (a + 24) = some (.inr (.inl (.int, 400))) := (h 24 _ rfl).1
theorem v12_25 {T : Nat → Option q_T} {R : Nat → Nat → Option Value} {a : Nat} (h : Ly T R a (L12 a)) (j : Nat) : R (a + 24) j = none := ly_v (h 24 _ rfl) (by intro j; first | rfl | exact gRf_if _ _ _ _)
theorem w12_25 {T : Nat → Option q_T} {R : Nat → Nat → Option Value} {a : Nat} (h : Ly T R a (L12 a)) (j : Nat) : rN R (a + 24) j = R := rN_id (v12_25 h j)
theorem r12_26 {T : Nat → Option q_T} {R : Nat → Nat → Option Value} {a : Nat} (h : Ly T R a (L12 a)) : R a 26 = some (.ref (a + 25)) := (h 0 _ rfl).2 26
theorem t12_26 {T : Nat → Option q_T} {R : Nat → Nat → Option Value} {a : Nat} (h : Ly T R a (L12 a)) : T (a + 25) = some (.inr (.inl (.int, 400))) := (h 25 _ rfl).1
theorem v12_26 {T : Nat → Option q_T} {R : Nat → Nat → Option Value} {a : Nat} (h : Ly T R a (L12 a)) (j : Nat) : R (a + 25) j = none := ly_v (h 25 _ rfl) (by intro j; first | rfl | exact gRf_if _ _ _ _)
theorem w12_26 {T : Nat → Option q_T} {R : Nat → Nat → Option Value} {a : Nat} (h : Ly T R a (L12 a)) (j : Nat) : rN R (a + 25) j = R := rN_id (v12_26 h j)
theorem r12_27 {T : Nat → Option q_T} {R : Nat → Nat → Option Value} {a : Nat} (h : Ly T R a (L12 a)) : R a 27 = some (.ref (a + 26)) := (h 0 _ rfl).2 27
theorem t12_27 {T : Nat → Option q_T} {R : Nat → Nat → Option Value} {a : Nat} (h : Ly T R a (L12 a)) : T (a + 26) = some (.inr (.inl (.int, 400))) := (h 26 _ rfl).1
theorem v12_27 {T : Nat → Option q_T} {R : Nat → Nat → Option Value} {a : Nat} (h : Ly T R a (L12 a)) (j : Nat) : R (a + 26) j = none := ly_v (h 26 _ rfl) (by intro j; first | rfl | exact gRf_if _ _ _ _)
theorem w12_27 {T : Nat → Option q_T} {R : Nat → Nat → Option Value} {a : Nat} (h : Ly T R a (L12 a)) (j : Nat) : rN R (a + 26) j = R := rN_id (v12_27 h j)
theorem r12_28 {T : Nat → Option q_T} {R : Nat → Nat → Option Value} {a : Nat} (h : Ly T R a (L12 a)) : R a 28 = some (.ref (a + 27)) := (h 0 _ rfl).2 28
theorem t12_28 {T : Nat → Option q_T} {R : Nat → Nat → Option Value} {a : Nat} (h : Ly T R a (L12 a)) : T (a + 27) = some (.inr (.inl (.int, 400))) := (h 27 _ rfl).1
theorem v12_28 {T : Nat → Option q_T} {R : Nat → Nat → Option Value} {a : Nat} (h : Ly T R a (L12 a)) (j : Nat) : R (a + 27) j = none := ly_v (h 27 _ rfl) (by intro j; first | rfl | exact gRf_if _ _ _ _)
theorem w12_28 {T : Nat → Option q_T} {R : Nat → Nat → Option Value} {a : Nat} (h : Ly T R a (L12 a)) (j : Nat) : rN R (a + 27) j = R := rN_id (v12_28 h j)
theorem r12_29 {T : Nat → Option q_T} {R : Nat → Nat → Option Value} {a : Nat} (h : Ly T R a (L12 a)) : R a 29 = some (.ref (a + 28)) := (h 0 _ rfl).2 29
theorem t12_29 {T : Nat → Option q_T} {R : Nat → Nat → Option Value} {a : Nat} (h : Ly T R a (L12 a)) : T (a + 28) = some (.inr (.inl (.int, 100))) := (h 28 _ rfl).1
theorem v12_29 {T : Nat → Option q_T} {R : Nat → Nat → Option Value} {a : Nat} (h : Ly T R a (L12 a)) (j : Nat) : R (a + 28) j = none := ly_v (h 28 _ rfl) (by intro j; first | rfl | exact gRf_if _ _ _ _)
theorem w12_29 {T : Nat → Option q_T} {R : Nat → Nat → Option Value} {a : Nat} (h : Ly T R a (L12 a)) (j : Nat) : rN R (a + 28) j = R := rN_id (v12_29 h j)
theorem r12_30 {T : Nat → Option q_T} {R : Nat → Nat → Option Value} {a : Nat} (h : Ly T R a (L12 a)) : R a 30 = some (.ref (a + 29)) := (h 0 _ rfl).2 30
theorem t12_30 {T : Nat → Option q_T} {R : Nat → Nat → Option Value} {a : Nat} (h : Ly T R a (L12 a)) : T (a + 29) = some (.inr (.inl (.int, 100))) := (h 29 _ rfl).1
theorem v12_30 {T : Nat → Option q_T} {R : Nat → Nat → Option Value} {a : Nat} (h : Ly T R a (L12 a)) (j : Nat) : R (a + 29) j = none := ly_v (h 29 _ rfl) (by intro j; first | rfl | exact gRf_if _ _ _ _)
theorem w12_30 {T : Nat → Option q_T} {R : Nat → Nat → Option Value} {a : Nat} (h : Ly T R a (L12 a)) (j : Nat) : rN R (a + 29) j = R := rN_id (v12_30 h j)
theorem r12_36 {T : Nat → Option q_T} {R : Nat → Nat → Option Value} {a : Nat} (h : Ly T R a (L12 a)) : R a 36 = some (.ref (a + 30)) := (h 0 _ rfl).2 36
theorem t12_36 {T : Nat → Option q_T} {R : Nat → Nat → Option Value} {a : Nat} (h : Ly T R a (L12 a)) : T (a + 30) = some (.inr (.inl (.int, 220))) := (h 30 _ rfl).1
theorem v12_36 {T : Nat → Option q_T} {R : Nat → Nat → Option Value} {a : Nat} (h : Ly T R a (L12 a)) (j : Nat) : R (a + 30) j = none := ly_v (h 30 _ rfl) (by intro j; first | rfl | exact gRf_if _ _ _ _)
theorem w12_36 {T : Nat → Option q_T} {R : Nat → Nat → Option Value} {a : Nat} (h : Ly T R a (L12 a)) (j : Nat) : rN R (a + 30) j = R := rN_id (v12_36 h j)
theorem r12_37 {T : Nat → Option q_T} {R : Nat → Nat → Option Value} {a : Nat} (h : Ly T R a (L12 a)) : R a 37 = some (.ref (a + 31)) := (h 0 _ rfl).2 37
theorem t12_37 {T : Nat → Option q_T} {R : Nat → Nat → Option Value} {a : Nat} (h : Ly T R a (L12 a)) : T (a + 31) = some (.inr (.inl (.int, 220))) := (h 31 _ rfl).1
theorem v12_37 {T : Nat → Option q_T} {R : Nat → Nat → Option Value} {a : Nat} (h : Ly T R a (L12 a)) (j : Nat) : R (a + 31) j = none := ly_v (h 31 _ rfl) (by intro j; first | rfl | exact gRf_if _ _ _ _)
theorem w12_37 {T : Nat → Option q_T} {R : Nat → Nat → Option Value} {a : Nat} (h : Ly T R a (L12 a)) (j : Nat) : rN R (a + 31) j = R := rN_id (v12_37 h j)
theorem r12_38 {T : Nat → Option q_T} {R : Nat → Nat → Option Value} {a : Nat} (h : Ly T R a (L12 a)) : R a 38 = some (.ref (a + 32)) := (h 0 _ rfl).2 38
theorem t12_38 {T : Nat → Option q_T} {R : Nat → Nat → Option Value} {a : Nat} (h : Ly T R a (L12 a)) : T (a + 32) = some (.inr (.inl (.int, 220))) := (h 32 _ rfl).1
theorem v12_38 {T : Nat → Option q_T} {R : Nat → Nat → Option Value} {a : Nat} (h : Ly T R a (L12 a)) (j : Nat) : R (a + 32) j = none := ly_v (h 32 _ rfl) (by intro j; first | rfl | exact gRf_if _ _ _ _)
theorem w12_38 {T : Nat → Option q_T} {R : Nat → Nat → Option Value} {a : Nat} (h : Ly T R a (L12 a)) (j : Nat) : rN R (a + 32) j = R := rN_id (v12_38 h j)
theorem r12_40 {T : Nat → Option q_T} {R : Nat → Nat → Option Value} {a : Nat} (h : Ly T R a (L12 a)) : R a 40 = some (.ref (a + 33)) := (h 0 _ rfl).2 40
theorem t12_40 {T : Nat → Option q_T} {R : Nat → Nat → Option Value} {a : Nat} (h : Ly T R a (L12 a)) : T (a + 33) = some (.inr (.inl (.int, 220))) := (h 33 _ rfl).1
theorem v12_40 {T : Nat → Option q_T} {R : Nat → Nat → Option Value} {a : Nat} (h : Ly T R a (L12 a)) (j : Nat) : R (a + 33) j = none := ly_v (h 33 _ rfl) (by intro j; first | rfl | exact gRf_if _ _ _ _)
theorem w12_40 {T : Nat → Option q_T} {R : Nat → Nat → Option Value} {a : Nat} (h : Ly T R a (L12 a)) (j : Nat) : rN R (a + 33) j = R := rN_id (v12_40 h j)
theorem r12_41 {T : Nat → Option q_T} {R : Nat → Nat → Option Value} {a : Nat} (h : Ly T R a (L12 a)) : R a 41 = some (.ref (a + 34)) := (h 0 _ rfl).2 41
theorem t12_41 {T : Nat → Option q_T} {R : Nat → Nat → Option Value} {a : Nat} (h : Ly T R a (L12 a)) : T (a + 34) = some (.inr (.inl (.int, 220))) := (h 34 _ rfl).1
theorem v12_41 {T : Nat → Option q_T} {R : Nat → Nat → Option Value} {a : Nat} (h : Ly T R a (L12 a)) (j : Nat) : R (a + 34) j = none := ly_v (h 34 _ rfl) (by intro j; first | rfl | exact gRf_if _ _ _ _)
theorem w12_41 {T : Nat → Option q_T} {R : Nat → Nat → Option Value} {a : Nat} (h : Ly T R a (L12 a)) (j : Nat) : rN R (a + 34) j = R := rN_id (v12_41 h j)
theorem r12_42 {T : Nat → Option q_T} {R : Nat → Nat → Option Value} {a : Nat} (h : Ly T R a (L12 a)) : R a 42 = some (.ref (a + 35)) := (h 0 _ rfl).2 42
theorem t12_42 {T : Nat → Option q_T} {R : Nat → Nat → Option Value} {a : Nat} (h : Ly T R a (L12 a)) : T (a + 35) = some (.inr (.inl (.int, 220))) := (h 35 _ rfl).1
theorem v12_42 {T : Nat → Option q_T} {R : Nat → Nat → Option Value} {a : Nat} (h : Ly T R a (L12 a)) (j : Nat) : R (a + 35) j = none := ly_v (h 35 _ rfl) (by intro j; first | rfl | exact gRf_if _ _ _ _)
theorem w12_42 {T : Nat → Option q_T} {R : Nat → Nat → Option Value} {a : Nat} (h : Ly T R a (L12 a)) (j : Nat) : rN R (a + 35) j = R := rN_id (v12_42 h j)
theorem r12_43 {T : Nat → Option q_T} {R : Nat → Nat → Option Value} {a : Nat} (h : Ly T R a (L12 a)) : R a 43 = some (.ref (a + 36)) := (h 0 _ rfl).2 43
theorem t12_43 {T : Nat → Option q_T} {R : Nat → Nat → Option Value} {a : Nat} (h : Ly T R a (L12 a)) : T (a + 36) = some (.inr (.inl (.int, 41))) := (h 36 _ rfl).1
theorem v12_43 {T : Nat → Option q_T} {R : Nat → Nat → Option Value} {a : Nat} (h : Ly T R a (L12 a)) (j : Nat) : R (a + 36) j = none := ly_v (h 36 _ rfl) (by intro j; first | rfl | exact gRf_if _ _ _ _)
theorem w12_43 {T : Nat → Option q_T} {R : Nat → Nat → Option Value} {a : Nat} (h : Ly T R a (L12 a)) (j : Nat) : rN R (a + 36) j = R := rN_id (v12_43 h j)
theorem r12_44 {T : Nat → Option q_T} {R : Nat → Nat → Option Value} {a : Nat} (h : Ly T R a (L12 a)) : R a 44 = some (.ref (a + 37)) := (h 0 _ rfl).2 44
theorem t12_44 {T : Nat → Option q_T} {R : Nat → Nat → Option Value} {a : Nat} (h : Ly T R a (L12 a)) : T (a + 37) = some (.inr (.inl (.int, 41))) := (h 37 _ rfl).1
theorem v12_44 {T : Nat → Option q_T} {R : Nat → Nat → Option Value} {a : Nat} (h : Ly T R a (L12 a)) (j : Nat) : R (a + 37) j = none := ly_v (h 37 _ rfl) (by intro j; first | rfl | exact gRf_if _ _ _ _)
theorem w12_44 {T : Nat → Option q_T} {R : Nat → Nat → Option Value} {a : Nat} (h : Ly T R a (L12 a)) (j : Nat) : rN R (a + 37) j = R := rN_id (v12_44 h j)
theorem r12_45 {T : Nat → Option q_T} {R : Nat → Nat → Option Value} {a : Nat} (h : Ly T R a (L12 a)) : R a 45 = some (.ref (a + 38)) := (h 0 _ rfl).2 45
theorem t12_45 {T : Nat → Option q_T} {R : Nat → Nat → Option Value} {a : Nat} (h : Ly T R a (L12 a)) : T (a + 38) = some (.inr (.inl (.int, 41))) := (h 38 _ rfl).1
theorem v12_45 {T : Nat → Option q_T} {R : Nat → Nat → Option Value} {a : Nat} (h : Ly T R a (L12 a)) (j : Nat) : R (a + 38) j = none := ly_v (h 38 _ rfl) (by intro j; first | rfl | exact gRf_if _ _ _ _)
theorem w12_45 {T : Nat → Option q_T} {R : Nat → Nat → Option Value} {a : Nat} (h : Ly T R a (L12 a)) (j : Nat) : rN R (a + 38) j = R := rN_id (v12_45 h j)
theorem r12_46 {T : Nat → Option q_T} {R : Nat → Nat → Option Value} {a : Nat} (h : Ly T R a (L12 a)) : R a 46 = some (.ref (a + 39)) := (h 0 _ rfl).2 46
theorem t12_46 {T : Nat → Option q_T} {R : Nat → Nat → Option Value} {a : Nat} (h : Ly T R a (L12 a)) : T (a + 39) = some (.inr (.inl (.int, 16))) := (h 39 _ rfl).1
theorem v12_46 {T : Nat → Option q_T} {R : Nat → Nat → Option Value} {a : Nat} (h : Ly T R a (L12 a)) (j : Nat) : R (a + 39) j = none := ly_v (h 39 _ rfl) (by intro j; first | rfl | exact gRf_if _ _ _ _)
theorem w12_46 {T : Nat → Option q_T} {R : Nat → Nat → Option Value} {a : Nat} (h : Ly T R a (L12 a)) (j : Nat) : rN R (a + 39) j = R := rN_id (v12_46 h j)
theorem r12_48 {T : Nat → Option q_T} {R : Nat → Nat → Option Value} {a : Nat} (h : Ly T R a (L12 a)) : R a 48 = some (.ref (a + 40)) := (h 0 _ rfl).2 48
theorem t12_48 {T : Nat → Option q_T} {R : Nat → Nat → Option Value} {a : Nat} (h : Ly T R a (L12 a)) : T (a + 40) = some (.inr (.inl (.int, 1734))) := (h 40 _ rfl).1
theorem v12_48 {T : Nat → Option q_T} {R : Nat → Nat → Option Value} {a : Nat} (h : Ly T R a (L12 a)) (j : Nat) : R (a + 40) j = none := ly_v (h 40 _ rfl) (by intro j; first | rfl | exact gRf_if _ _ _ _)
theorem w12_48 {T : Nat → Option q_T} {R : Nat → Nat → Option Value} {a : Nat} (h : Ly T R a (L12 a)) (j : Nat) : rN R (a + 40) j = R := rN_id (v12_48 h j)
theorem r12_49 {T : Nat → Option q_T} {R : Nat → Nat → Option Value} {a : Nat} (h : Ly T R a (L12 a)) : R a 49 = some (.ref (a + 41)) := (h 0 _ rfl).2 49
theorem t12_49 {T : Nat → Option q_T} {R : Nat → Nat → Option Value} {a : Nat} (h : Ly T R a (L12 a)) : T (a + 41) = some (.inr (.inl (.int, 102))) := (h 41 _ rfl).1
theorem v12_49 {T : Nat → Option q_T} {R : Nat → Nat → Option Value} {a : Nat} (h : Ly T R a (L12 a)) (j : Nat) : R (a + 41) j = none := ly_v (h 41 _ rfl) (by intro j; first | rfl | exact gRf_if _ _ _ _)
theorem w12_49 {T : Nat → Option q_T} {R : Nat → Nat → Option Value} {a : Nat} (h : Ly T R a (L12 a)) (j : Nat) : rN R (a + 41) j = R := rN_id (v12_49 h j)
theorem r12_51 {T : Nat → Option q_T} {R : Nat → Nat → Option Value} {a : Nat} (h : Ly T R a (L12 a)) : R a 51 = some (.ref (a + 42)) := (h 0 _ rfl).2 51
theorem t12_51 {T : Nat → Option q_T} {R : Nat → Nat → Option Value} {a : Nat} (h : Ly T R a (L12 a)) : T (a + 42) = some (.inr (.inl (.int, 220))) := (h 42 _ rfl).1
theorem v12_51 {T : Nat → Option q_T} {R : Nat → Nat → Option Value} {a : Nat} (h : Ly T R a (L12 a)) (j : Nat) : R (a + 42) j = none := ly_v (h 42 _ rfl) (by intro j; first | rfl | exact gRf_if _ _ _ _)
theorem w12_51 {T : Nat → Option q_T} {R : Nat → Nat → Option Value} {a : Nat} (h : Ly T R a (L12 a)) (j : Nat) : rN R (a + 42) j = R := rN_id (v12_51 h j)
theorem r12_52 {T : Nat → Option q_T} {R : Nat → Nat → Option Value} {a : Nat} (h : Ly T R a (L12 a)) : R a 52 = some (.ref (a + 43)) := (h 0 _ rfl).2 52
theorem t12_52 {T : Nat → Option q_T} {R : Nat → Nat → Option Value} {a : Nat} (h : Ly T R a (L12 a)) : T (a + 43) = some (.inr (.inl (.int, 220))) := (h 43 _ rfl).1
theorem v12_52 {T : Nat → Option q_T} {R : Nat → Nat → Option Value} {a : Nat} (h : Ly T R a (L12 a)) (j : Nat) : R (a + 43) j = none := ly_v (h 43 _ rfl) (by intro j; first | rfl | exact gRf_if _ _ _ _)
theorem w12_52 {T : Nat → Option q_T} {R : Nat → Nat → Option Value} {a : Nat} (h : Ly T R a (L12 a)) (j : Nat) : rN R (a + 43) j = R := rN_id (v12_52 h j)
theorem r12_53 {T : Nat → Option q_T} {R : Nat → Nat → Option Value} {a : Nat} (h : Ly T R a (L12 a)) : R a 53 = some (.ref (a + 44)) := (h 0 _ rfl).2 53
theorem t12_53 {T : Nat → Option q_T} {R : Nat → Nat → Option Value} {a : Nat} (h : Ly T R a (L12 a)) : T (a + 44) = some (.inr (.inl (.int, 220))) := (h 44 _ rfl).1
theorem v12_53 {T : Nat → Option q_T} {R : Nat → Nat → Option Value} {a : Nat} (h : Ly T R a (L12 a)) (j : Nat) : R (a + 44) j = none := ly_v (h 44 _ rfl) (by intro j; first | rfl | exact gRf_if _ _ _ _)
theorem w12_53 {T : Nat → Option q_T} {R : Nat → Nat → Option Value} {a : Nat} (h : Ly T R a (L12 a)) (j : Nat) : rN R (a + 44) j = R := rN_id (v12_53 h j)
theorem r12_54 {T : Nat → Option q_T} {R : Nat → Nat → Option Value} {a : Nat} (h : Ly T R a (L12 a)) : R a 54 = some (.ref (a + 45)) := (h 0 _ rfl).2 54
theorem t12_54 {T : Nat → Option q_T} {R : Nat → Nat → Option Value} {a : Nat} (h : Ly T R a (L12 a)) : T (a + 45) = some (.inr (.inl (.int, 220))) := (h 45 _ rfl).1
theorem v12_54 {T : Nat → Option q_T} {R : Nat → Nat → Option Value} {a : Nat} (h : Ly T R a (L12 a)) (j : Nat) : R (a + 45) j = none := ly_v (h 45 _ rfl) (by intro j; first | rfl | exact gRf_if _ _ _ _)
theorem w12_54 {T : Nat → Option q_T} {R : Nat → Nat → Option Value} {a : Nat} (h : Ly T R a (L12 a)) (j : Nat) : rN R (a + 45) j = R := rN_id (v12_54 h j)
theorem r12_55 {T : Nat → Option q_T} {R : Nat → Nat → Option Value} {a : Nat} (h : Ly T R a (L12 a)) : R a 55 = some (.ref (a + 46)) := (h 0 _ rfl).2 55
theorem t12_55 {T : Nat → Option q_T} {R : Nat → Nat → Option Value} {a : Nat} (h : Ly T R a (L12 a)) : T (a + 46) = some (.inr (.inl (.int, 220))) := (h 46 _ rfl).1
theorem v12_55 {T : Nat → Option q_T} {R : Nat → Nat → Option Value} {a : Nat} (h : Ly T R a (L12 a)) (j : Nat) : R (a + 46) j = none := ly_v (h 46 _ rfl) (by intro j; first | rfl | exact gRf_if _ _ _ _)
theorem w12_55 {T : Nat → Option q_T} {R : Nat → Nat → Option Value} {a : Nat} (h : Ly T R a (L12 a)) (j : Nat) : rN R (a + 46) j = R := rN_id (v12_55 h j)
theorem r12_56 {T : Nat → Option q_T} {R : Nat → Nat → Option Value} {a : Nat} (h : Ly T R a (L12 a)) : R a 56 = some (.ref (a + 47)) := (h 0 _ rfl).2 56
theorem t12_56 {T : Nat → Option q_T} {R : Nat → Nat → Option Value} {a : Nat} (h : Ly T R a (L12 a)) : T (a + 47) = some (.inr (.inl (.int, 30))) := (h 47 _ rfl).1
theorem v12_56 {T : Nat → Option q_T} {R : Nat → Nat → Option Value} {a : Nat} (h : Ly T R a (L12 a)) (j : Nat) : R (a + 47) j = none := ly_v (h 47 _ rfl) (by intro j; first | rfl | exact gRf_if _ _ _ _)
theorem w12_56 {T : Nat → Option q_T} {R : Nat → Nat → Option Value} {a : Nat} (h : Ly T R a (L12 a)) (j : Nat) : rN R (a + 47) j = R := rN_id (v12_56 h j)
theorem r12_57 {T : Nat → Option q_T} {R : Nat → Nat → Option Value} {a : Nat} (h : Ly T R a (L12 a)) : R a 57 = some (.ref (a + 48)) := (h 0 _ rfl).2 57
theorem t12_57 {T : Nat → Option q_T} {R : Nat → Nat → Option Value} {a : Nat} (h : Ly T R a (L12 a)) : T (a + 48) = some (.inr (.inl (.int, 3030))) := (h 48 _ rfl).1
theorem v12_57 {T : Nat → Option q_T} {R : Nat → Nat → Option Value} {a : Nat} (h : Ly T R a (L12 a)) (j : Nat) : R (a + 48) j = none := ly_v (h 48 _ rfl) (by intro j; first | rfl | exact gRf_if _ _ _ _)
theorem w12_57 {T : Nat → Option q_T} {R : Nat → Nat → Option Value} {a : Nat} (h : Ly T R a (L12 a)) (j : Nat) : rN R (a + 48) j = R := rN_id (v12_57 h j)
theorem r12_59 {T : Nat → Option q_T} {R : Nat → Nat → Option Value} {a : Nat} (h : Ly T R a (L12 a)) : R a 59 = some (.ref (a + 49)) := (h 0 _ rfl).2 59
theorem t12_59 {T : Nat → Option q_T} {R : Nat → Nat → Option Value} {a : Nat} (h : Ly T R a (L12 a)) : T (a + 49) = some (.inr (.inl (.int, 5))) := (h 49 _ rfl).1
theorem v12_59 {T : Nat → Option q_T} {R : Nat → Nat → Option Value} {a : Nat} (h : Ly T R a (L12 a)) (j : Nat) : R (a + 49) j = none := ly_v (h 49 _ rfl) (by intro j; first | rfl | exact gRf_if _ _ _ _)
theorem w12_59 {T : Nat → Option q_T} {R : Nat → Nat → Option Value} {a : Nat} (h : Ly T R a (L12 a)) (j : Nat) : rN R (a + 49) j = R := rN_id (v12_59 h j)
theorem r12_60 {T : Nat → Option q_T} {R : Nat → Nat → Option Value} {a : Nat} (h : Ly T R a (L12 a)) : R a 60 = some (.ref (a + 50)) := (h 0 _ rfl).2 60
theorem t12_60 {T : Nat → Option q_T} {R : Nat → Nat → Option Value} {a : Nat} (h : Ly T R a (L12 a)) : T (a + 50) = some (.inr (.inl (.int, 1734))) := (h 50 _ rfl).1
theorem v12_60 {T : Nat → Option q_T} {R : Nat → Nat → Option Value} {a : Nat} (h : Ly T R a (L12 a)) (j : Nat) : R (a + 50) j = none := ly_v (h 50 _ rfl) (by intro j; first | rfl | exact gRf_if _ _ _ _)
theorem w12_60 {T : Nat → Option q_T} {R : Nat → Nat → Option Value} {a : Nat} (h : Ly T R a (L12 a)) (j : Nat) : rN R (a + 50) j = R := rN_id (v12_60 h j)
theorem r12_61 {T : Nat → Option q_T} {R : Nat → Nat → Option Value} {a : Nat} (h : Ly T R a (L12 a)) : R a 61 = some (.ref (a + 51)) := (h 0 _ rfl).2 61
theorem t12_61 {T : Nat → Option q_T} {R : Nat → Nat → Option Value} {a : Nat} (h : Ly T R a (L12 a)) : T (a + 51) = some (.inr (.inl (.int, 102))) := (h 51 _ rfl).1
theorem v12_61 {T : Nat → Option q_T} {R : Nat → Nat → Option Value} {a : Nat} (h : Ly T R a (L12 a)) (j : Nat) : R (a + 51) j = none := ly_v (h 51 _ rfl) (by intro j; first | rfl | exact gRf_if _ _ _ _)
theorem w12_61 {T : Nat → Option q_T} {R : Nat → Nat → Option Value} {a : Nat} (h : Ly T R a (L12 a)) (j : Nat) : rN R (a + 51) j = R := rN_id (v12_61 h j)
theorem r12_62 {T : Nat → Option q_T} {R : Nat → Nat → Option Value} {a : Nat} (h : Ly T R a (L12 a)) : R a 62 = some (.ref (a + 52)) := (h 0 _ rfl).2 62
theorem t12_62 {T : Nat → Option q_T} {R : Nat → Nat → Option Value} {a : Nat} (h : Ly T R a (L12 a)) : T (a + 52) = some (.inr (.inl (.boolean, 40))) := (h 52 _ rfl).1
theorem v12_62 {T : Nat → Option q_T} {R : Nat → Nat → Option Value} {a : Nat} (h : Ly T R a (L12 a)) (j : Nat) : R (a + 52) j = none := ly_v (h 52 _ rfl) (by intro j; first | rfl | exact gRf_if _ _ _ _)
theorem w12_62 {T : Nat → Option q_T} {R : Nat → Nat → Option Value} {a : Nat} (h : Ly T R a (L12 a)) (j : Nat) : rN R (a + 52) j = R := rN_id (v12_62 h j)
theorem r12_63 {T : Nat → Option q_T} {R : Nat → Nat → Option Value} {a : Nat} (h : Ly T R a (L12 a)) : R a 63 = some (.ref (a + 53)) := (h 0 _ rfl).2 63
theorem t12_63 {T : Nat → Option q_T} {R : Nat → Nat → Option Value} {a : Nat} (h : Ly T R a (L12 a)) : T (a + 53) = some (.inr (.inl (.int, 40))) := (h 53 _ rfl).1
theorem v12_63 {T : Nat → Option q_T} {R : Nat → Nat → Option Value} {a : Nat} (h : Ly T R a (L12 a)) (j : Nat) : R (a + 53) j = none := ly_v (h 53 _ rfl) (by intro j; first | rfl | exact gRf_if _ _ _ _)
theorem w12_63 {T : Nat → Option q_T} {R : Nat → Nat → Option Value} {a : Nat} (h : Ly T R a (L12 a)) (j : Nat) : rN R (a + 53) j = R := rN_id (v12_63 h j)
theorem r12_64 {T : Nat → Option q_T} {R : Nat → Nat → Option Value} {a : Nat} (h : Ly T R a (L12 a)) : R a 64 = some (.ref (a + 54)) := (h 0 _ rfl).2 64
theorem t12_64 {T : Nat → Option q_T} {R : Nat → Nat → Option Value} {a : Nat} (h : Ly T R a (L12 a)) : T (a + 54) = some (.inr (.inl (.int, 220))) := (h 54 _ rfl).1
theorem v12_64 {T : Nat → Option q_T} {R : Nat → Nat → Option Value} {a : Nat} (h : Ly T R a (L12 a)) (j : Nat) : R (a + 54) j = none := ly_v (h 54 _ rfl) (by intro j; first | rfl | exact gRf_if _ _ _ _)
theorem w12_64 {T : Nat → Option q_T} {R : Nat → Nat → Option Value} {a : Nat} (h : Ly T R a (L12 a)) (j : Nat) : rN R (a + 54) j = R := rN_id (v12_64 h j)
theorem r12_65 {T : Nat → Option q_T} {R : Nat → Nat → Option Value} {a : Nat} (h : Ly T R a (L12 a)) : R a 65 = some (.ref (a + 55)) := (h 0 _ rfl).2 65
theorem t12_65 {T : Nat → Option q_T} {R : Nat → Nat → Option Value} {a : Nat} (h : Ly T R a (L12 a)) : T (a + 55) = some (.inr (.inl (.int, 220))) := (h 55 _ rfl).1
theorem v12_65 {T : Nat → Option q_T} {R : Nat → Nat → Option Value} {a : Nat} (h : Ly T R a (L12 a)) (j : Nat) : R (a + 55) j = none := ly_v (h 55 _ rfl) (by intro j; first | rfl | exact gRf_if _ _ _ _)
theorem w12_65 {T : Nat → Option q_T} {R : Nat → Nat → Option Value} {a : Nat} (h : Ly T R a (L12 a)) (j : Nat) : rN R (a + 55) j = R := rN_id (v12_65 h j)
theorem r12_70 {T : Nat → Option q_T} {R : Nat → Nat → Option Value} {a : Nat} (h : Ly T R a (L12 a)) : R a 70 = some (.ref (a + 56)) := (h 0 _ rfl).2 70
theorem t12_70 {T : Nat → Option q_T} {R : Nat → Nat → Option Value} {a : Nat} (h : Ly T R a (L12 a)) : T (a + 56) = some (.inr (.inl (.int, 8))) := (h 56 _ rfl).1
theorem v12_70 {T : Nat → Option q_T} {R : Nat → Nat → Option Value} {a : Nat} (h : Ly T R a (L12 a)) (j : Nat) : R (a + 56) j = none := ly_v (h 56 _ rfl) (by intro j; first | rfl | exact gRf_if _ _ _ _)
theorem w12_70 {T : Nat → Option q_T} {R : Nat → Nat → Option Value} {a : Nat} (h : Ly T R a (L12 a)) (j : Nat) : rN R (a + 56) j = R := rN_id (v12_70 h j)
theorem r12_71 {T : Nat → Option q_T} {R : Nat → Nat → Option Value} {a : Nat} (h : Ly T R a (L12 a)) : R a 71 = some (.ref (a + 57)) := (h 0 _ rfl).2 71
theorem t12_71 {T : Nat → Option q_T} {R : Nat → Nat → Option Value} {a : Nat} (h : Ly T R a (L12 a)) : T (a + 57) = some (.inr (.inl (.int, 420))) := (h 57 _ rfl).1
theorem v12_71 {T : Nat → Option q_T} {R : Nat → Nat → Option Value} {a : Nat} (h : Ly T R a (L12 a)) (j : Nat) : R (a + 57) j = none := ly_v (h 57 _ rfl) (by intro j; first | rfl | exact gRf_if _ _ _ _)
theorem w12_71 {T : Nat → Option q_T} {R : Nat → Nat → Option Value} {a : Nat} (h : Ly T R a (L12 a)) (j : Nat) : rN R (a + 57) j = R := rN_id (v12_71 h j)
theorem r12_72 {T : Nat → Option q_T} {R : Nat → Nat → Option Value} {a : Nat} (h : Ly T R a (L12 a)) : R a 72 = some (.ref (a + 58)) := (h 0 _ rfl).2 72
theorem t12_72 {T : Nat → Option q_T} {R : Nat → Nat → Option Value} {a : Nat} (h : Ly T R a (L12 a)) : T (a + 58) = some (.inr (.inl (.int, 420))) := (h 58 _ rfl).1
theorem v12_72 {T : Nat → Option q_T} {R : Nat → Nat → Option Value} {a : Nat} (h : Ly T R a (L12 a)) (j : Nat) : R (a + 58) j = none := ly_v (h 58 _ rfl) (by intro j; first | rfl | exact gRf_if _ _ _ _)
theorem w12_72 {T : Nat → Option q_T} {R : Nat → Nat → Option Value} {a : Nat} (h : Ly T R a (L12 a)) (j : Nat) : rN R (a + 58) j = R := rN_id (v12_72 h j)
theorem r12_73 {T : Nat → Option q_T} {R : Nat → Nat → Option Value} {a : Nat} (h : Ly T R a (L12 a)) : R a 73 = some (.ref (a + 59)) := (h 0 _ rfl).2 73
theorem t12_73 {T : Nat → Option q_T} {R : Nat → Nat → Option Value} {a : Nat} (h : Ly T R a (L12 a)) : T (a + 59) = some (.inr (.inl (.int, 2))) := (h 59 _ rfl).1
theorem v12_73 {T : Nat → Option q_T} {R : Nat → Nat → Option Value} {a : Nat} (h : Ly T R a (L12 a)) (j : Nat) : R (a + 59) j = none := ly_v (h 59 _ rfl) (by intro j; first | rfl | exact gRf_if _ _ _ _)
theorem w12_73 {T : Nat → Option q_T} {R : Nat → Nat → Option Value} {a : Nat} (h : Ly T R a (L12 a)) (j : Nat) : rN R (a + 59) j = R := rN_id (v12_73 h j)
theorem r12_74 {T : Nat → Option q_T} {R : Nat → Nat → Option Value} {a : Nat} (h : Ly T R a (L12 a)) : R a 74 = some (.ref (a + 60)) := (h 0 _ rfl).2 74
theorem t12_74 {T : Nat → Option q_T} {R : Nat → Nat → Option Value} {a : Nat} (h : Ly T R a (L12 a)) : T (a + 60) = some (.inr (.inl (.int, 41))) := (h 60 _ rfl).1
theorem v12_74 {T : Nat → Option q_T} {R : Nat → Nat → Option Value} {a : Nat} (h : Ly T R a (L12 a)) (j : Nat) : R (a + 60) j = none := ly_v (h 60 _ rfl) (by intro j; first | rfl | exact gRf_if _ _ _ _)
theorem w12_74 {T : Nat → Option q_T} {R : Nat → Nat → Option Value} {a : Nat} (h : Ly T R a (L12 a)) (j : Nat) : rN R (a + 60) j = R := rN_id (v12_74 h j)
theorem r12_75 {T : Nat → Option q_T} {R : Nat → Nat → Option Value} {a : Nat} (h : Ly T R a (L12 a)) : R a 75 = some (.ref (a + 61)) := (h 0 _ rfl).2 75
theorem t12_75 {T : Nat → Option q_T} {R : Nat → Nat → Option Value} {a : Nat} (h : Ly T R a (L12 a)) : T (a + 61) = some (.inr (.inl (.int, 44100))) := (h 61 _ rfl).1
theorem v12_75 {T : Nat → Option q_T} {R : Nat → Nat → Option Value} {a : Nat} (h : Ly T R a (L12 a)) (j : Nat) : R (a + 61) j = none := ly_v (h 61 _ rfl) (by intro j; first | rfl | exact gRf_if _ _ _ _)
theorem w12_75 {T : Nat → Option q_T} {R : Nat → Nat → Option Value} {a : Nat} (h : Ly T R a (L12 a)) (j : Nat) : rN R (a + 61) j = R := rN_id (v12_75 h j)
theorem r12_76 {T : Nat → Option q_T} {R : Nat → Nat → Option Value} {a : Nat} (h : Ly T R a (L12 a)) : R a 76 = some (.ref (a + 62)) := (h 0 _ rfl).2 76
theorem t12_76 {T : Nat → Option q_T} {R : Nat → Nat → Option Value} {a : Nat} (h : Ly T R a (L12 a)) : T (a + 62) = some (.inr (.inl (.int, 44521))) := (h 62 _ rfl).1
theorem v12_76 {T : Nat → Option q_T} {R : Nat → Nat → Option Value} {a : Nat} (h : Ly T R a (L12 a)) (j : Nat) : R (a + 62) j = none := ly_v (h 62 _ rfl) (by intro j; first | rfl | exact gRf_if _ _ _ _)
theorem w12_76 {T : Nat → Option q_T} {R : Nat → Nat → Option Value} {a : Nat} (h : Ly T R a (L12 a)) (j : Nat) : rN R (a + 62) j = R := rN_id (v12_76 h j)
theorem r12_78 {T : Nat → Option q_T} {R : Nat → Nat → Option Value} {a : Nat} (h : Ly T R a (L12 a)) : R a 78 = some (.ref (a + 63)) := (h 0 _ rfl).2 78
theorem t12_78 {T : Nat → Option q_T} {R : Nat → Nat → Option Value} {a : Nat} (h : Ly T R a (L12 a)) : T (a + 63) = some (.inr (.inl (.int, 220))) := (h 63 _ rfl).1
theorem v12_78 {T : Nat → Option q_T} {R : Nat → Nat → Option Value} {a : Nat} (h : Ly T R a (L12 a)) (j : Nat) : R (a + 63) j = none := ly_v (h 63 _ rfl) (by intro j; first | rfl | exact gRf_if _ _ _ _)
theorem w12_78 {T : Nat → Option q_T} {R : Nat → Nat → Option Value} {a : Nat} (h : Ly T R a (L12 a)) (j : Nat) : rN R (a + 63) j = R := rN_id (v12_78 h j)
theorem r12_79 {T : Nat → Option q_T} {R : Nat → Nat → Option Value} {a : Nat} (h : Ly T R a (L12 a)) : R a 79 = some (.ref (a + 64)) := (h 0 _ rfl).2 79
theorem t12_79 {T : Nat → Option q_T} {R : Nat → Nat → Option Value} {a : Nat} (h : Ly T R a (L12 a)) : T (a + 64) = some (.inr (.inl (.int, 220))) := (h 64 _ rfl).1
theorem v12_79 {T : Nat → Option q_T} {R : Nat → Nat → Option Value} {a : Nat} (h : Ly T R a (L12 a)) (j : Nat) : R (a + 64) j = none := ly_v (h 64 _ rfl) (by intro j; first | rfl | exact gRf_if _ _ _ _)
theorem w12_79 {T : Nat → Option q_T} {R : Nat → Nat → Option Value} {a : Nat} (h : Ly T R a (L12 a)) (j : Nat) : rN R (a + 64) j = R := rN_id (v12_79 h j)
theorem r12_80 {T : Nat → Option q_T} {R : Nat → Nat → Option Value} {a : Nat} (h : Ly T R a (L12 a)) : R a 80 = some (.ref (a + 65)) := (h 0 _ rfl).2 80
theorem t12_80 {T : Nat → Option q_T} {R : Nat → Nat → Option Value} {a : Nat} (h : Ly T R a (L12 a)) : T (a + 65) = some (.inr (.inl (.int, 220))) := (h 65 _ rfl).1
theorem v12_80 {T : Nat → Option q_T} {R : Nat → Nat → Option Value} {a : Nat} (h : Ly T R a (L12 a)) (j : Nat) : R (a + 65) j = none := ly_v (h 65 _ rfl) (by intro j; first | rfl | exact gRf_if _ _ _ _)
theorem w12_80 {T : Nat → Option q_T} {R : Nat → Nat → Option Value} {a : Nat} (h : Ly T R a (L12 a)) (j : Nat) : rN R (a + 65) j = R := rN_id (v12_80 h j)
theorem r12_81 {T : Nat → Option q_T} {R : Nat → Nat → Option Value} {a : Nat} (h : Ly T R a (L12 a)) : R a 81 = some (.ref (a + 66)) := (h 0 _ rfl).2 81
theorem t12_81 {T : Nat → Option q_T} {R : Nat → Nat → Option Value} {a : Nat} (h : Ly T R a (L12 a)) : T (a + 66) = some (.inr (.inl (.int, 220))) := (h 66 _ rfl).1
theorem v12_81 {T : Nat → Option q_T} {R : Nat → Nat → Option Value} {a : Nat} (h : Ly T R a (L12 a)) (j : Nat) : R (a + 66) j = none := ly_v (h 66 _ rfl) (by intro j; first | rfl | exact gRf_if _ _ _ _)
theorem w12_81 {T : Nat → Option q_T} {R : Nat → Nat → Option Value} {a : Nat} (h : Ly T R a (L12 a)) (j : Nat) : rN R (a + 66) j = R := rN_id (v12_81 h j)
theorem r12_82 {T : Nat → Option q_T} {R : Nat → Nat → Option Value} {a : Nat} (h : Ly T R a (L12 a)) : R a 82 = some (.ref (a + 67)) := (h 0 _ rfl).2 82
theorem t12_82 {T : Nat → Option q_T} {R : Nat → Nat → Option Value} {a : Nat} (h : Ly T R a (L12 a)) : T (a + 67) = some (.inr (.inl (.int, 220))) := (h 67 _ rfl).1
theorem v12_82 {T : Nat → Option q_T} {R : Nat → Nat → Option Value} {a : Nat} (h : Ly T R a (L12 a)) (j : Nat) : R (a + 67) j = none := ly_v (h 67 _ rfl) (by intro j; first | rfl | exact gRf_if _ _ _ _)
theorem w12_82 {T : Nat → Option q_T} {R : Nat → Nat → Option Value} {a : Nat} (h : Ly T R a (L12 a)) (j : Nat) : rN R (a + 67) j = R := rN_id (v12_82 h j)
theorem r12_83 {T : Nat → Option q_T} {R : Nat → Nat → Option Value} {a : Nat} (h : Ly T R a (L12 a)) : R a 83 = some (.ref (a + 68)) := (h 0 _ rfl).2 83
theorem t12_83 {T : Nat → Option q_T} {R : Nat → Nat → Option Value} {a : Nat} (h : Ly T R a (L12 a)) : T (a + 68) = some (.inr (.inl (.int, 220))) := (h 68 _ rfl).1
theorem v12_83 {T : Nat → Option q_T} {R : Nat → Nat → Option Value} {a : Nat} (h : Ly T R a (L12 a)) (j : Nat) : R (a + 68) j = none := ly_v (h 68 _ rfl) (by intro j; first | rfl | exact gRf_if _ _ _ _)
theorem w12_83 {T : Nat → Option q_T} {R : Nat → Nat → Option Value} {a : Nat} (h : Ly T R a (L12 a)) (j : Nat) : rN R (a + 68) j = R := rN_id (v12_83 h j)
theorem r12_85 {T : Nat → Option q_T} {R : Nat → Nat → Option Value} {a : Nat} (h : Ly T R a (L12 a)) : R a 85 = some (.ref (a + 69)) := (h 0 _ rfl).2 85
theorem t12_85 {T : Nat → Option q_T} {R : Nat → Nat → Option Value} {a : Nat} (h : Ly T R a (L12 a)) : T (a + 69) = some (.inr (.inl (.int, 420))) := (h 69 _ rfl).1
theorem v12_85 {T : Nat → Option q_T} {R : Nat → Nat → Option Value} {a : Nat} (h : Ly T R a (L12 a)) (j : Nat) : R (a + 69) j = none := ly_v (h 69 _ rfl) (by intro j; first | rfl | exact gRf_if _ _ _ _)
theorem w12_85 {T : Nat → Option q_T} {R : Nat → Nat → Option Value} {a : Nat} (h : Ly T R a (L12 a)) (j : Nat) : rN R (a + 69) j = R := rN_id (v12_85 h j)
theorem r12_86 {T : Nat → Option q_T} {R : Nat → Nat → Option Value} {a : Nat} (h : Ly T R a (L12 a)) : R a 86 = some (.ref (a + 70)) := (h 0 _ rfl).2 86
theorem t12_86 {T : Nat → Option q_T} {R : Nat → Nat → Option Value} {a : Nat} (h : Ly T R a (L12 a)) : T (a + 70) = some (.inr (.inl (.int, 420))) := (h 70 _ rfl).1
theorem v12_86 {T : Nat → Option q_T} {R : Nat → Nat → Option Value} {a : Nat} (h : Ly T R a (L12 a)) (j : Nat) : R (a + 70) j = none := ly_v (h 70 _ rfl) (by intro j; first | rfl | exact gRf_if _ _ _ _)
theorem w12_86 {T : Nat → Option q_T} {R : Nat → Nat → Option Value} {a : Nat} (h : Ly T R a (L12 a)) (j : Nat) : rN R (a + 70) j = R := rN_id (v12_86 h j)
theorem r12_87 {T : Nat → Option q_T} {R : Nat → Nat → Option Value} {a : Nat} (h : Ly T R a (L12 a)) : R a 87 = some (.ref (a + 71)) := (h 0 _ rfl).2 87
theorem t12_87 {T : Nat → Option q_T} {R : Nat → Nat → Option Value} {a : Nat} (h : Ly T R a (L12 a)) : T (a + 71) = some (.inr (.inl (.int, 420))) := (h 71 _ rfl).1
theorem v12_87 {T : Nat → Option q_T} {R : Nat → Nat → Option Value} {a : Nat} (h : Ly T R a (L12 a)) (j : Nat) : R (a + 71) j = none := ly_v (h 71 _ rfl) (by intro j; first | rfl | exact gRf_if _ _ _ _)
theorem w12_87 {T : Nat → Option q_T} {R : Nat → Nat → Option Value} {a : Nat} (h : Ly T R a (L12 a)) (j : Nat) : rN R (a + 71) j = R := rN_id (v12_87 h j)
theorem r12_88 {T : Nat → Option q_T} {R : Nat → Nat → Option Value} {a : Nat} (h : Ly T R a (L12 a)) : R a 88 = some (.ref (a + 72)) := (h 0 _ rfl).2 88
theorem t12_88 {T : Nat → Option q_T} {R : Nat → Nat → Option Value} {a : Nat} (h : Ly T R a (L12 a)) : T (a + 72) = some (.inr (.inl (.int, 420))) := (h 72 _ rfl).1
theorem v12_88 {T : Nat → Option q_T} {R : Nat → Nat → Option Value} {a : Nat} (h : Ly T R a (L12 a)) (j : Nat) : R (a + 72) j = none := ly_v (h 72 _ rfl) (by intro j; first | rfl | exact gRf_if _ _ _ _)
theorem w12_88 {T : Nat → Option q_T} {R : Nat → Nat → Option Value} {a : Nat} (h : Ly T R a (L12 a)) (j : Nat) : rN R (a + 72) j = R := rN_id (v12_88 h j)
theorem r12_89 {T : Nat → Option q_T} {R : Nat → Nat → Option Value} {a : Nat} (h : Ly T R a (L12 a)) : R a 89 = some (.ref (a + 73)) := (h 0 _ rfl).2 89
theorem t12_89 {T : Nat → Option q_T} {R : Nat → Nat → Option Value} {a : Nat} (h : Ly T R a (L12 a)) : T (a + 73) = some (.inr (.inl (.boolean, 420))) := (h 73 _ rfl).1
theorem v12_89 {T : Nat → Option q_T} {R : Nat → Nat → Option Value} {a : Nat} (h : Ly T R a (L12 a)) (j : Nat) : R (a + 73) j = none := ly_v (h 73 _ rfl) (by intro j; first | rfl | exact gRf_if _ _ _ _)
theorem w12_89 {T : Nat → Option q_T} {R : Nat → Nat → Option Value} {a : Nat} (h : Ly T R a (L12 a)) (j : Nat) : rN R (a + 73) j = R := rN_id (v12_89 h j)
theorem r12_90 {T : Nat → Option q_T} {R : Nat → Nat → Option Value} {a : Nat} (h : Ly T R a (L12 a)) : R a 90 = some (.ref (a + 74)) := (h 0 _ rfl).2 90
theorem t12_90 {T : Nat → Option q_T} {R : Nat → Nat → Option Value} {a : Nat} (h : Ly T R a (L12 a)) : T (a + 74) = some (.inr (.inl (.int, 220))) := (h 74 _ rfl).1
theorem v12_90 {T : Nat → Option q_T} {R : Nat → Nat → Option Value} {a : Nat} (h : Ly T R a (L12 a)) (j : Nat) : R (a + 74) j = none := ly_v (h 74 _ rfl) (by intro j; first | rfl | exact gRf_if _ _ _ _)
theorem w12_90 {T : Nat → Option q_T} {R : Nat → Nat → Option Value} {a : Nat} (h : Ly T R a (L12 a)) (j : Nat) : rN R (a + 74) j = R := rN_id (v12_90 h j)
theorem r12_91 {T : Nat → Option q_T} {R : Nat → Nat → Option Value} {a : Nat} (h : Ly T R a (L12 a)) : R a 91 = some (.ref (a + 75)) := (h 0 _ rfl).2 91
theorem t12_91 {T : Nat → Option q_T} {R : Nat → Nat → Option Value} {a : Nat} (h : Ly T R a (L12 a)) : T (a + 75) = some (.inr (.inl (.int, 220))) := (h 75 _ rfl).1
theorem v12_91 {T : Nat → Option q_T} {R : Nat → Nat → Option Value} {a : Nat} (h : Ly T R a (L12 a)) (j : Nat) : R (a + 75) j = none := ly_v (h 75 _ rfl) (by intro j; first | rfl | exact gRf_if _ _ _ _)
theorem w12_91 {T : Nat → Option q_T} {R : Nat → Nat → Option Value} {a : Nat} (h : Ly T R a (L12 a)) (j : Nat) : rN R (a + 75) j = R := rN_id (v12_91 h j)
theorem r12_92 {T : Nat → Option q_T} {R : Nat → Nat → Option Value} {a : Nat} (h : Ly T R a (L12 a)) : R a 92 = some (.ref (a + 76)) := (h 0 _ rfl).2 92
theorem t12_92 {T : Nat → Option q_T} {R : Nat → Nat → Option Value} {a : Nat} (h : Ly T R a (L12 a)) : T (a + 76) = some (.inr (.inl (.int, 64))) := (h 76 _ rfl).1
theorem v12_92 {T : Nat → Option q_T} {R : Nat → Nat → Option Value} {a : Nat} (h : Ly T R a (L12 a)) (j : Nat) : R (a + 76) j = none := ly_v (h 76 _ rfl) (by intro j; first | rfl | exact gRf_if _ _ _ _)
theorem w12_92 {T : Nat → Option q_T} {R : Nat → Nat → Option Value} {a : Nat} (h : Ly T R a (L12 a)) (j : Nat) : rN R (a + 76) j = R := rN_id (v12_92 h j)
theorem r12_95 {T : Nat → Option q_T} {R : Nat → Nat → Option Value} {a : Nat} (h : Ly T R a (L12 a)) : R a 95 = some (.ref (a + 77)) := (h 0 _ rfl).2 95
theorem t12_95 {T : Nat → Option q_T} {R : Nat → Nat → Option Value} {a : Nat} (h : Ly T R a (L12 a)) : T (a + 77) = some (.inr (.inl (.int, 41))) := (h 77 _ rfl).1
theorem v12_95 {T : Nat → Option q_T} {R : Nat → Nat → Option Value} {a : Nat} (h : Ly T R a (L12 a)) (j : Nat) : R (a + 77) j = none := ly_v (h 77 _ rfl) (by intro j; first | rfl | exact gRf_if _ _ _ _)
theorem w12_95 {T : Nat → Option q_T} {R : Nat → Nat → Option Value} {a : Nat} (h : Ly T R a (L12 a)) (j : Nat) : rN R (a + 77) j = R := rN_id (v12_95 h j)
theorem r12_96 {T : Nat → Option q_T} {R : Nat → Nat → Option Value} {a : Nat} (h : Ly T R a (L12 a)) : R a 96 = some (.ref (a + 78)) := (h 0 _ rfl).2 96
theorem t12_96 {T : Nat → Option q_T} {R : Nat → Nat → Option Value} {a : Nat} (h : Ly T R a (L12 a)) : T (a + 78) = some (.inr (.inl (.int, 41))) := (h 78 _ rfl).1
theorem v12_96 {T : Nat → Option q_T} {R : Nat → Nat → Option Value} {a : Nat} (h : Ly T R a (L12 a)) (j : Nat) : R (a + 78) j = none := ly_v (h 78 _ rfl) (by intro j; first | rfl | exact gRf_if _ _ _ _)
theorem w12_96 {T : Nat → Option q_T} {R : Nat → Nat → Option Value} {a : Nat} (h : Ly T R a (L12 a)) (j : Nat) : rN R (a + 78) j = R := rN_id (v12_96 h j)
theorem r12_97 {T : Nat → Option q_T} {R : Nat → Nat → Option Value} {a : Nat} (h : Ly T R a (L12 a)) : R a 97 = some (.ref (a + 79)) := (h 0 _ rfl).2 97
theorem t12_97 {T : Nat → Option q_T} {R : Nat → Nat → Option Value} {a : Nat} (h : Ly T R a (L12 a)) : T (a + 79) = some (.inr (.inl (.int, 41))) := (h 79 _ rfl).1
theorem v12_97 {T : Nat → Option q_T} {R : Nat → Nat → Option Value} {a : Nat} (h : Ly T R a (L12 a)) (j : Nat) : R (a + 79) j = none := ly_v (h 79 _ rfl) (by intro j; first | rfl | exact gRf_if _ _ _ _)
theorem w12_97 {T : Nat → Option q_T} {R : Nat → Nat → Option Value} {a : Nat} (h : Ly T R a (L12 a)) (j : Nat) : rN R (a + 79) j = R := rN_id (v12_97 h j)
theorem r12_99 {T : Nat → Option q_T} {R : Nat → Nat → Option Value} {a : Nat} (h : Ly T R a (L12 a)) : R a 99 = some (.ref (a + 80)) := (h 0 _ rfl).2 99
theorem t12_99 {T : Nat → Option q_T} {R : Nat → Nat → Option Value} {a : Nat} (h : Ly T R a (L12 a)) : T (a + 80) = some (.inr (.inl (.int, 41))) := (h 80 _ rfl).1
theorem v12_99 {T : Nat → Option q_T} {R : Nat → Nat → Option Value} {a : Nat} (h : Ly T R a (L12 a)) (j : Nat) : R (a + 80) j = none := ly_v (h 80 _ rfl) (by intro j; first | rfl | exact gRf_if _ _ _ _)
theorem w12_99 {T : Nat → Option q_T} {R : Nat → Nat → Option Value} {a : Nat} (h : Ly T R a (L12 a)) (j : Nat) : rN R (a + 80) j = R := rN_id (v12_99 h j)
theorem r12_100 {T : Nat → Option q_T} {R : Nat → Nat → Option Value} {a : Nat} (h : Ly T R a (L12 a)) : R a 100 = some (.ref (a + 81)) := (h 0 _ rfl).2 100
theorem t12_100 {T : Nat → Option q_T} {R : Nat → Nat → Option Value} {a : Nat} (h : Ly T R a (L12 a)) : T (a + 81) = some (.inr (.inl (.int, 41))) := (h 81 _ rfl).1
theorem v12_100 {T : Nat → Option q_T} {R : Nat → Nat → Option Value} {a : Nat} (h : Ly T R a (L12 a)) (j : Nat) : R (a + 81) j = none := ly_v (h 81 _ rfl) (by intro j; first | rfl | exact gRf_if _ _ _ _)
theorem w12_100 {T : Nat → Option q_T} {R : Nat → Nat → Option Value} {a : Nat} (h : Ly T R a (L12 a)) (j : Nat) : rN R (a + 81) j = R := rN_id (v12_100 h j)
theorem r12_104 {T : Nat → Option q_T} {R : Nat → Nat → Option Value} {a : Nat} (h : Ly T R a (L12 a)) : R a 104 = some (.ref (a + 82)) := (h 0 _ rfl).2 104
theorem t12_104 {T : Nat → Option q_T} {R : Nat → Nat → Option Value} {a : Nat} (h : Ly T R a (L12 a)) : T (a + 82) = some (.inr (.inl (.int, 6))) := (h 82 _ rfl).1
theorem v12_104 {T : Nat → Option q_T} {R : Nat → Nat → Option Value} {a : Nat} (h : Ly T R a (L12 a)) (j : Nat) : R (a + 82) j = none := ly_v (h 82 _ rfl) (by intro j; first | rfl | exact gRf_if _ _ _ _)
theorem w12_104 {T : Nat → Option q_T} {R : Nat → Nat → Option Value} {a : Nat} (h : Ly T R a (L12 a)) (j : Nat) : rN R (a + 82) j = R := rN_id (v12_104 h j)
theorem r12_105 {T : Nat → Option q_T} {R : Nat → Nat → Option Value} {a : Nat} (h : Ly T R a (L12 a)) : R a 105 = some (.ref (a + 83)) := (h 0 _ rfl).2 105
theorem t12_105 {T : Nat → Option q_T} {R : Nat → Nat → Option Value} {a : Nat} (h : Ly T R a (L12 a)) : T (a + 83) = some (.inr (.inl (.int, 6))) := (h 83 _ rfl).1
theorem v12_105 {T : Nat → Option q_T} {R : Nat → Nat → Option Value} {a : Nat} (h : Ly T R a (L12 a)) (j : Nat) : R (a + 83) j = none := ly_v (h 83 _ rfl) (by intro j; first | rfl | exact gRf_if _ _ _ _)
theorem w12_105 {T : Nat → Option q_T} {R : Nat → Nat → Option Value} {a : Nat} (h : Ly T R a (L12 a)) (j : Nat) : rN R (a + 83) j = R := rN_id (v12_105 h j)
theorem r12_106 {T : Nat → Option q_T} {R : Nat → Nat → Option Value} {a : Nat} (h : Ly T R a (L12 a)) : R a 106 = some (.ref (a + 84)) := (h 0 _ rfl).2 106
theorem t12_106 {T : Nat → Option q_T} {R : Nat → Nat → Option Value} {a : Nat} (h : Ly T R a (L12 a)) : T (a + 84) = some (.inr (.inl (.boolean, 6))) := (h 84 _ rfl).1
theorem v12_106 {T : Nat → Option q_T} {R : Nat → Nat → Option Value} {a : Nat} (h : Ly T R a (L12 a)) (j : Nat) : R (a + 84) j = none := ly_v (h 84 _ rfl) (by intro j; first | rfl | exact gRf_if _ _ _ _)
theorem w12_106 {T : Nat → Option q_T} {R : Nat → Nat → Option Value} {a : Nat} (h : Ly T R a (L12 a)) (j : Nat) : rN R (a + 84) j = R := rN_id (v12_106 h j)
theorem r12_108 {T : Nat → Option q_T} {R : Nat → Nat → Option Value} {a : Nat} (h : Ly T R a (L12 a)) : R a 108 = some (.ref (a + 85)) := (h 0 _ rfl).2 108
theorem t12_108 {T : Nat → Option q_T} {R : Nat → Nat → Option Value} {a : Nat} (h : Ly T R a (L12 a)) : T (a + 85) = some (.inr (.inl (.int, 880))) := (h 85 _ rfl).1
theorem v12_108 {T : Nat → Option q_T} {R : Nat → Nat → Option Value} {a : Nat} (h : Ly T R a (L12 a)) (j : Nat) : R (a + 85) j = none := ly_v (h 85 _ rfl) (by intro j; first | rfl | exact gRf_if _ _ _ _)
theorem w12_108 {T : Nat → Option q_T} {R : Nat → Nat → Option Value} {a : Nat} (h : Ly T R a (L12 a)) (j : Nat) : rN R (a + 85) j = R := rN_id (v12_108 h j)
theorem r12_109 {T : Nat → Option q_T} {R : Nat → Nat → Option Value} {a : Nat} (h : Ly T R a (L12 a)) : R a 109 = some (.ref (a + 86)) := (h 0 _ rfl).2 109
theorem t12_109 {T : Nat → Option q_T} {R : Nat → Nat → Option Value} {a : Nat} (h : Ly T R a (L12 a)) : T (a + 86) = some (.inr (.inl (.int, 220))) := (h 86 _ rfl).1
theorem v12_109 {T : Nat → Option q_T} {R : Nat → Nat → Option Value} {a : Nat} (h : Ly T R a (L12 a)) (j : Nat) : R (a + 86) j = none := ly_v (h 86 _ rfl) (by intro j; first | rfl | exact gRf_if _ _ _ _)
theorem w12_109 {T : Nat → Option q_T} {R : Nat → Nat → Option Value} {a : Nat} (h : Ly T R a (L12 a)) (j : Nat) : rN R (a + 86) j = R := rN_id (v12_109 h j)
theorem r12_110 {T : Nat → Option q_T} {R : Nat → Nat → Option Value} {a : Nat} (h : Ly T R a (L12 a)) : R a 110 = some (.ref (a + 87)) := (h 0 _ rfl).2 110
theorem t12_110 {T : Nat → Option q_T} {R : Nat → Nat → Option Value} {a : Nat} (h : Ly T R a (L12 a)) : T (a + 87) = some (.inr (.inl (.int, 220))) := (h 87 _ rfl).1
theorem v12_110 {T : Nat → Option q_T} {R : Nat → Nat → Option Value} {a : Nat} (h : Ly T R a (L12 a)) (j : Nat) : R (a + 87) j = none := ly_v (h 87 _ rfl) (by intro j; first | rfl | exact gRf_if _ _ _ _)
theorem w12_110 {T : Nat → Option q_T} {R : Nat → Nat → Option Value} {a : Nat} (h : Ly T R a (L12 a)) (j : Nat) : rN R (a + 87) j = R := rN_id (v12_110 h j)
theorem r12_112 {T : Nat → Option q_T} {R : Nat → Nat → Option Value} {a : Nat} (h : Ly T R a (L12 a)) : R a 112 = some (.ref (a + 88)) := (h 0 _ rfl).2 112
theorem t12_112 {T : Nat → Option q_T} {R : Nat → Nat → Option Value} {a : Nat} (h : Ly T R a (L12 a)) : T (a + 88) = some (.inr (.inl (.int, 880))) := (h 88 _ rfl).1
theorem v12_112 {T : Nat → Option q_T} {R : Nat → Nat → Option Value} {a : Nat} (h : Ly T R a (L12 a)) (j : Nat) : R (a + 88) j = none := ly_v (h 88 _ rfl) (by intro j; first | rfl | exact gRf_if _ _ _ _)
theorem w12_112 {T : Nat → Option q_T} {R : Nat → Nat → Option Value} {a : Nat} (h : Ly T R a (L12 a)) (j : Nat) : rN R (a + 88) j = R := rN_id (v12_112 h j)
theorem r12_113 {T : Nat → Option q_T} {R : Nat → Nat → Option Value} {a : Nat} (h : Ly T R a (L12 a)) : R a 113 = some (.ref (a + 89)) := (h 0 _ rfl).2 113
theorem t12_113 {T : Nat → Option q_T} {R : Nat → Nat → Option Value} {a : Nat} (h : Ly T R a (L12 a)) : T (a + 89) = some (.inr (.inl (.int, 4))) := (h 89 _ rfl).1
theorem v12_113 {T : Nat → Option q_T} {R : Nat → Nat → Option Value} {a : Nat} (h : Ly T R a (L12 a)) (j : Nat) : R (a + 89) j = none := ly_v (h 89 _ rfl) (by intro j; first | rfl | exact gRf_if _ _ _ _)
theorem w12_113 {T : Nat → Option q_T} {R : Nat → Nat → Option Value} {a : Nat} (h : Ly T R a (L12 a)) (j : Nat) : rN R (a + 89) j = R := rN_id (v12_113 h j)
theorem r12_115 {T : Nat → Option q_T} {R : Nat → Nat → Option Value} {a : Nat} (h : Ly T R a (L12 a)) : R a 115 = some (.ref (a + 90)) := (h 0 _ rfl).2 115
theorem t12_115 {T : Nat → Option q_T} {R : Nat → Nat → Option Value} {a : Nat} (h : Ly T R a (L12 a)) : T (a + 90) = some (.inr (.inl (.int, 220))) := (h 90 _ rfl).1
theorem v12_115 {T : Nat → Option q_T} {R : Nat → Nat → Option Value} {a : Nat} (h : Ly T R a (L12 a)) (j : Nat) : R (a + 90) j = none := ly_v (h 90 _ rfl) (by intro j; first | rfl | exact gRf_if _ _ _ _)
theorem w12_115 {T : Nat → Option q_T} {R : Nat → Nat → Option Value} {a : Nat} (h : Ly T R a (L12 a)) (j : Nat) : rN R (a + 90) j = R := rN_id (v12_115 h j)
theorem r12_116 {T : Nat → Option q_T} {R : Nat → Nat → Option Value} {a : Nat} (h : Ly T R a (L12 a)) : R a 116 = some (.ref (a + 91)) := (h 0 _ rfl).2 116
theorem t12_116 {T : Nat → Option q_T} {R : Nat → Nat → Option Value} {a : Nat} (h : Ly T R a (L12 a)) : T (a + 91) = some (.inr (.inl (.int, 220))) := (h 91 _ rfl).1
theorem v12_116 {T : Nat → Option q_T} {R : Nat → Nat → Option Value} {a : Nat} (h : Ly T R a (L12 a)) (j : Nat) : R (a + 91) j = none := ly_v (h 91 _ rfl) (by intro j; first | rfl | exact gRf_if _ _ _ _)
theorem w12_116 {T : Nat → Option q_T} {R : Nat → Nat → Option Value} {a : Nat} (h : Ly T R a (L12 a)) (j : Nat) : rN R (a + 91) j = R := rN_id (v12_116 h j)
theorem r12_117 {T : Nat → Option q_T} {R : Nat → Nat → Option Value} {a : Nat} (h : Ly T R a (L12 a)) : R a 117 = some (.ref (a + 92)) := (h 0 _ rfl).2 117
theorem t12_117 {T : Nat → Option q_T} {R : Nat → Nat → Option Value} {a : Nat} (h : Ly T R a (L12 a)) : T (a + 92) = some (.inr (.inl (.int, 60))) := (h 92 _ rfl).1
theorem v12_117 {T : Nat → Option q_T} {R : Nat → Nat → Option Value} {a : Nat} (h : Ly T R a (L12 a)) (j : Nat) : R (a + 92) j = none := ly_v (h 92 _ rfl) (by intro j; first | rfl | exact gRf_if _ _ _ _)
theorem w12_117 {T : Nat → Option q_T} {R : Nat → Nat → Option Value} {a : Nat} (h : Ly T R a (L12 a)) (j : Nat) : rN R (a + 92) j = R := rN_id (v12_117 h j)
theorem r12_118 {T : Nat → Option q_T} {R : Nat → Nat → Option Value} {a : Nat} (h : Ly T R a (L12 a)) : R a 118 = some (.ref (a + 93)) := (h 0 _ rfl).2 118
theorem t12_118 {T : Nat → Option q_T} {R : Nat → Nat → Option Value} {a : Nat} (h : Ly T R a (L12 a)) : T (a + 93) = some (.inr (.inl (.int, 14))) := (h 93 _ rfl).1
theorem v12_118 {T : Nat → Option q_T} {R : Nat → Nat → Option Value} {a : Nat} (h : Ly T R a (L12 a)) (j : Nat) : R (a + 93) j = none := ly_v (h 93 _ rfl) (by intro j; first | rfl | exact gRf_if _ _ _ _)
theorem w12_118 {T : Nat → Option q_T} {R : Nat → Nat → Option Value} {a : Nat} (h : Ly T R a (L12 a)) (j : Nat) : rN R (a + 93) j = R := rN_id (v12_118 h j)
theorem r12_119 {T : Nat → Option q_T} {R : Nat → Nat → Option Value} {a : Nat} (h : Ly T R a (L12 a)) : R a 119 = some (.ref (a + 94)) := (h 0 _ rfl).2 119
theorem t12_119 {T : Nat → Option q_T} {R : Nat → Nat → Option Value} {a : Nat} (h : Ly T R a (L12 a)) : T (a + 94) = some (.inr (.inl (.int, 70))) := (h 94 _ rfl).1
theorem v12_119 {T : Nat → Option q_T} {R : Nat → Nat → Option Value} {a : Nat} (h : Ly T R a (L12 a)) (j : Nat) : R (a + 94) j = none := ly_v (h 94 _ rfl) (by intro j; first | rfl | exact gRf_if _ _ _ _)
theorem w12_119 {T : Nat → Option q_T} {R : Nat → Nat → Option Value} {a : Nat} (h : Ly T R a (L12 a)) (j : Nat) : rN R (a + 94) j = R := rN_id (v12_119 h j)
theorem r12_122 {T : Nat → Option q_T} {R : Nat → Nat → Option Value} {a : Nat} (h : Ly T R a (L12 a)) : R a 122 = some (.ref (a + 95)) := (h 0 _ rfl).2 122
theorem t12_122 {T : Nat → Option q_T} {R : Nat → Nat → Option Value} {a : Nat} (h : Ly T R a (L12 a)) : T (a + 95) = some (.inr (.inl (.int, 4))) := (h 95 _ rfl).1
theorem v12_122 {T : Nat → Option q_T} {R : Nat → Nat → Option Value} {a : Nat} (h : Ly T R a (L12 a)) (j : Nat) : R (a + 95) j = none := ly_v (h 95 _ rfl) (by intro j; first | rfl | exact gRf_if _ _ _ _)
theorem w12_122 {T : Nat → Option q_T} {R : Nat → Nat → Option Value} {a : Nat} (h : Ly T R a (L12 a)) (j : Nat) : rN R (a + 95) j = R := rN_id (v12_122 h j)
theorem r12_123 {T : Nat → Option q_T} {R : Nat → Nat → Option Value} {a : Nat} (h : Ly T R a (L12 a)) : R a 123 = some (.ref (a + 96)) := (h 0 _ rfl).2 123
theorem t12_123 {T : Nat → Option q_T} {R : Nat → Nat → Option Value} {a : Nat} (h : Ly T R a (L12 a)) : T (a + 96) = some (.inr (.inl (.int, 4))) := (h 96 _ rfl).1
theorem v12_123 {T : Nat → Option q_T} {R : Nat → Nat → Option Value} {a : Nat} (h : Ly T R a (L12 a)) (j : Nat) : R (a + 96) j = none := ly_v (h 96 _ rfl) (by intro j; first | rfl | exact gRf_if _ _ _ _)
theorem w12_123 {T : Nat → Option q_T} {R : Nat → Nat → Option Value} {a : Nat} (h : Ly T R a (L12 a)) (j : Nat) : rN R (a + 96) j = R := rN_id (v12_123 h j)
theorem r12_124 {T : Nat → Option q_T} {R : Nat → Nat → Option Value} {a : Nat} (h : Ly T R a (L12 a)) : R a 124 = some (.ref (a + 97)) := (h 0 _ rfl).2 124
theorem t12_124 {T : Nat → Option q_T} {R : Nat → Nat → Option Value} {a : Nat} (h : Ly T R a (L12 a)) : T (a + 97) = some (.inr (.inl (.int, 160))) := (h 97 _ rfl).1
theorem v12_124 {T : Nat → Option q_T} {R : Nat → Nat → Option Value} {a : Nat} (h : Ly T R a (L12 a)) (j : Nat) : R (a + 97) j = none := ly_v (h 97 _ rfl) (by intro j; first | rfl | exact gRf_if _ _ _ _)
theorem w12_124 {T : Nat → Option q_T} {R : Nat → Nat → Option Value} {a : Nat} (h : Ly T R a (L12 a)) (j : Nat) : rN R (a + 97) j = R := rN_id (v12_124 h j)
theorem r12_125 {T : Nat → Option q_T} {R : Nat → Nat → Option Value} {a : Nat} (h : Ly T R a (L12 a)) : R a 125 = some (.ref (a + 98)) := (h 0 _ rfl).2 125
theorem t12_125 {T : Nat → Option q_T} {R : Nat → Nat → Option Value} {a : Nat} (h : Ly T R a (L12 a)) : T (a + 98) = some (.inr (.inl (.int, 40))) := (h 98 _ rfl).1
theorem v12_125 {T : Nat → Option q_T} {R : Nat → Nat → Option Value} {a : Nat} (h : Ly T R a (L12 a)) (j : Nat) : R (a + 98) j = none := ly_v (h 98 _ rfl) (by intro j; first | rfl | exact gRf_if _ _ _ _)
theorem w12_125 {T : Nat → Option q_T} {R : Nat → Nat → Option Value} {a : Nat} (h : Ly T R a (L12 a)) (j : Nat) : rN R (a + 98) j = R := rN_id (v12_125 h j)
theorem r12_22 {T : Nat → Option q_T} {R : Nat → Nat → Option Value} {a : Nat} (h : Ly T R a (L12 a)) : R a 22 = none := (h 0 _ rfl).2 22
theorem n12_22 {T : Nat → Option q_T} {R : Nat → Nat → Option Value} {a : Nat} (h : Ly T R a (L12 a)) : rN R a 22 = R := rN_id (r12_22 h)
theorem r12_23 {T : Nat → Option q_T} {R : Nat → Nat → Option Value} {a : Nat} (h : Ly T R a (L12 a)) : R a 23 = none := (h 0 _ rfl).2 23
theorem n12_23 {T : Nat → Option q_T} {R : Nat → Nat → Option Value} {a : Nat} (h : Ly T R a (L12 a)) : rN R a 23 = R := rN_id (r12_23 h)
theorem r12_31 {T : Nat → Option q_T} {R : Nat → Nat → Option Value} {a : Nat} (h : Ly T R a (L12 a)) : R a 31 = none := (h 0 _ rfl).2 31
theorem n12_31 {T : Nat → Option q_T} {R : Nat → Nat → Option Value} {a : Nat} (h : Ly T R a (L12 a)) : rN R a 31 = R := rN_id (r12_31 h)
theorem r12_32 {T : Nat → Option q_T} {R : Nat → Nat → Option Value} {a : Nat} (h : Ly T R a (L12 a)) : R a 32 = none := (h 0 _ rfl).2 32
theorem n12_32 {T : Nat → Option q_T} {R : Nat → Nat → Option Value} {a : Nat} (h : Ly T R a (L12 a)) : rN R a 32 = R := rN_id (r12_32 h)
theorem r12_33 {T : Nat → Option q_T} {R : Nat → Nat → Option Value} {a : Nat} (h : Ly T R a (L12 a)) : R a 33 = none := (h 0 _ rfl).2 33
theorem n12_33 {T : Nat → Option q_T} {R : Nat → Nat → Option Value} {a : Nat} (h : Ly T R a (L12 a)) : rN R a 33 = R := rN_id (r12_33 h)
theorem r12_34 {T : Nat → Option q_T} {R : Nat → Nat → Option Value} {a : Nat} (h : Ly T R a (L12 a)) : R a 34 = none := (h 0 _ rfl).2 34
theorem n12_34 {T : Nat → Option q_T} {R : Nat → Nat → Option Value} {a : Nat} (h : Ly T R a (L12 a)) : rN R a 34 = R := rN_id (r12_34 h)
theorem r12_35 {T : Nat → Option q_T} {R : Nat → Nat → Option Value} {a : Nat} (h : Ly T R a (L12 a)) : R a 35 = none := (h 0 _ rfl).2 35
theorem n12_35 {T : Nat → Option q_T} {R : Nat → Nat → Option Value} {a : Nat} (h : Ly T R a (L12 a)) : rN R a 35 = R := rN_id (r12_35 h)
theorem r12_39 {T : Nat → Option q_T} {R : Nat → Nat → Option Value} {a : Nat} (h : Ly T R a (L12 a)) : R a 39 = none := (h 0 _ rfl).2 39
theorem n12_39 {T : Nat → Option q_T} {R : Nat → Nat → Option Value} {a : Nat} (h : Ly T R a (L12 a)) : rN R a 39 = R := rN_id (r12_39 h)
theorem r12_47 {T : Nat → Option q_T} {R : Nat → Nat → Option Value} {a : Nat} (h : Ly T R a (L12 a)) : R a 47 = none := (h 0 _ rfl).2 47
theorem n12_47 {T : Nat → Option q_T} {R : Nat → Nat → Option Value} {a : Nat} (h : Ly T R a (L12 a)) : rN R a 47 = R := rN_id (r12_47 h)
theorem r12_50 {T : Nat → Option q_T} {R : Nat → Nat → Option Value} {a : Nat} (h : Ly T R a (L12 a)) : R a 50 = none := (h 0 _ rfl).2 50
theorem n12_50 {T : Nat → Option q_T} {R : Nat → Nat → Option Value} {a : Nat} (h : Ly T R a (L12 a)) : rN R a 50 = R := rN_id (r12_50 h)
theorem r12_58 {T : Nat → Option q_T} {R : Nat → Nat → Option Value} {a : Nat} (h : Ly T R a (L12 a)) : R a 58 = none := (h 0 _ rfl).2 58
theorem n12_58 {T : Nat → Option q_T} {R : Nat → Nat → Option Value} {a : Nat} (h : Ly T R a (L12 a)) : rN R a 58 = R := rN_id (r12_58 h)
theorem r12_66 {T : Nat → Option q_T} {R : Nat → Nat → Option Value} {a : Nat} (h : Ly T R a (L12 a)) : R a 66 = none := (h 0 _ rfl).2 66
theorem n12_66 {T : Nat → Option q_T} {R : Nat → Nat → Option Value} {a : Nat} (h : Ly T R a (L12 a)) : rN R a 66 = R := rN_id (r12_66 h)
theorem r12_67 {T : Nat → Option q_T} {R : Nat → Nat → Option Value} {a : Nat} (h : Ly T R a (L12 a)) : R a 67 = none := (h 0 _ rfl).2 67
theorem n12_67 {T : Nat → Option q_T} {R : Nat → Nat → Option Value} {a : Nat} (h : Ly T R a (L12 a)) : rN R a 67 = R := rN_id (r12_67 h)
theorem r12_68 {T : Nat → Option q_T} {R : Nat → Nat → Option Value} {a : Nat} (h : Ly T R a (L12 a)) : R a 68 = none := (h 0 _ rfl).2 68
theorem n12_68 {T : Nat → Option q_T} {R : Nat → Nat → Option Value} {a : Nat} (h : Ly T R a (L12 a)) : rN R a 68 = R := rN_id (r12_68 h)
theorem r12_69 {T : Nat → Option q_T} {R : Nat → Nat → Option Value} {a : Nat} (h : Ly T R a (L12 a)) : R a 69 = none := (h 0 _ rfl).2 69
theorem n12_69 {T : Nat → Option q_T} {R : Nat → Nat → Option Value} {a : Nat} (h : Ly T R a (L12 a)) : rN R a 69 = R := rN_id (r12_69 h)
theorem r12_77 {T : Nat → Option q_T} {R : Nat → Nat → Option Value} {a : Nat} (h : Ly T R a (L12 a)) : R a 77 = none := (h 0 _ rfl).2 77
theorem n12_77 {T : Nat → Option q_T} {R : Nat → Nat → Option Value} {a : Nat} (h : Ly T R a (L12 a)) : rN R a 77 = R := rN_id (r12_77 h)
theorem r12_84 {T : Nat → Option q_T} {R : Nat → Nat → Option Value} {a : Nat} (h : Ly T R a (L12 a)) : R a 84 = none := (h 0 _ rfl).2 84
theorem n12_84 {T : Nat → Option q_T} {R : Nat → Nat → Option Value} {a : Nat} (h : Ly T R a (L12 a)) : rN R a 84 = R := rN_id (r12_84 h)
theorem r12_93 {T : Nat → Option q_T} {R : Nat → Nat → Option Value} {a : Nat} (h : Ly T R a (L12 a)) : R a 93 = none := (h 0 _ rfl).2 93
theorem n12_93 {T : Nat → Option q_T} {R : Nat → Nat → Option Value} {a : Nat} (h : Ly T R a (L12 a)) : rN R a 93 = R := rN_id (r12_93 h)
theorem r12_94 {T : Nat → Option q_T} {R : Nat → Nat → Option Value} {a : Nat} (h : Ly T R a (L12 a)) : R a 94 = none := (h 0 _ rfl).2 94
theorem n12_94 {T : Nat → Option q_T} {R : Nat → Nat → Option Value} {a : Nat} (h : Ly T R a (L12 a)) : rN R a 94 = R := rN_id (r12_94 h)
theorem r12_98 {T : Nat → Option q_T} {R : Nat → Nat → Option Value} {a : Nat} (h : Ly T R a (L12 a)) : R a 98 = none := (h 0 _ rfl).2 98
theorem n12_98 {T : Nat → Option q_T} {R : Nat → Nat → Option Value} {a : Nat} (h : Ly T R a (L12 a)) : rN R a 98 = R := rN_id (r12_98 h)
theorem r12_101 {T : Nat → Option q_T} {R : Nat → Nat → Option Value} {a : Nat} (h : Ly T R a (L12 a)) : R a 101 = none := (h 0 _ rfl).2 101
theorem n12_101 {T : Nat → Option q_T} {R : Nat → Nat → Option Value} {a : Nat} (h : Ly T R a (L12 a)) : rN R a 101 = R := rN_id (r12_101 h)
theorem r12_102 {T : Nat → Option q_T} {R : Nat → Nat → Option Value} {a : Nat} (h : Ly T R a (L12 a)) : R a 102 = none := (h 0 _ rfl).2 102
theorem n12_102 {T : Nat → Option q_T} {R : Nat → Nat → Option Value} {a : Nat} (h : Ly T R a (L12 a)) : rN R a 102 = R := rN_id (r12_102 h)
theorem r12_103 {T : Nat → Option q_T} {R : Nat → Nat → Option Value} {a : Nat} (h : Ly T R a (L12 a)) : R a 103 = none := (h 0 _ rfl).2 103
theorem n12_103 {T : Nat → Option q_T} {R : Nat → Nat → Option Value} {a : Nat} (h : Ly T R a (L12 a)) : rN R a 103 = R := rN_id (r12_103 h)
theorem r12_107 {T : Nat → Option q_T} {R : Nat → Nat → Option Value} {a : Nat} (h : Ly T R a (L12 a)) : R a 107 = none := (h 0 _ rfl).2 107
theorem n12_107 {T : Nat → Option q_T} {R : Nat → Nat → Option Value} {a : Nat} (h : Ly T R a (L12 a)) : rN R a 107 = R := rN_id (r12_107 h)
theorem r12_111 {T : Nat → Option q_T} {R : Nat → Nat → Option Value} {a : Nat} (h : Ly T R a (L12 a)) : R a 111 = none := (h 0 _ rfl).2 111
theorem n12_111 {T : Nat → Option q_T} {R : Nat → Nat → Option Value} {a : Nat} (h : Ly T R a (L12 a)) : rN R a 111 = R := rN_id (r12_111 h)
theorem r12_114 {T : Nat → Option q_T} {R : Nat → Nat → Option Value} {a : Nat} (h : Ly T R a (L12 a)) : R a 114 = none := (h 0 _ rfl).2 114
theorem n12_114 {T : Nat → Option q_T} {R : Nat → Nat → Option Value} {a : Nat} (h : Ly T R a (L12 a)) : rN R a 114 = R := rN_id (r12_114 h)
theorem r12_120 {T : Nat → Option q_T} {R : Nat → Nat → Option Value} {a : Nat} (h : Ly T R a (L12 a)) : R a 120 = none := (h 0 _ rfl).2 120
theorem n12_120 {T : Nat → Option q_T} {R : Nat → Nat → Option Value} {a : Nat} (h : Ly T R a (L12 a)) : rN R a 120 = R := rN_id (r12_120 h)
theorem r12_121 {T : Nat → Option q_T} {R : Nat → Nat → Option Value} {a : Nat} (h : Ly T R a (L12 a)) : R a 121 = none := (h 0 _ rfl).2 121
theorem n12_121 {T : Nat → Option q_T} {R : Nat → Nat → Option Value} {a : Nat} (h : Ly T R a (L12 a)) : rN R a 121 = R := rN_id (r12_121 h)
end
