section
theorem lL0 {b : Nat} : (L0 b).length = 5 := rfl
theorem lL2 {b : Nat} : (L2 b).length = 8 := rfl
theorem lL4 {b : Nat} : (L4 b).length = 6 := rfl
theorem lL7 {b : Nat} : (L7 b).length = 2 := rfl
theorem lL8 {b : Nat} : (L8 b).length = 14 := rfl
theorem lL9 {b : Nat} : (L9 b).length = 10 := rfl
theorem gt_app {l l2 : q_L} {j : Nat} {c : q_T × (Nat → Value)} (h : l[j]? = some c) : (l ++ l2)[j]? = some c := by
  rw [List.getElem?_append_left (List.getElem?_eq_some_iff.mp h).1]
  exact h
theorem gt_last {l : q_L} {j : Nat} {c : q_T × (Nat → Value)} (h : l.length = j) : (l ++ [c])[j]? = some c := by
  subst h
  rw [List.getElem?_append_right (Nat.le_refl _), Nat.sub_self]
  rfl
theorem gt_hd {l r : q_L} {j : Nat} {c : q_T × (Nat → Value)} (h : l.length = j) : (l ++ c :: r)[j]? = some c := by
  subst h
  rw [List.getElem?_append_right (Nat.le_refl _), Nat.sub_self]
  rfl
theorem gt_set_ne {l : q_L} {j i : Nat} {c d : q_T × (Nat → Value)} (hne : ¬ i = j) (h : l[j]? = some c) : (l.set i d)[j]? = some c := by
  rw [List.getElem?_set_ne hne]
  exact h
theorem gt_set {l : q_L} {j : Nat} {c d : q_T × (Nat → Value)} (h : l[j]? = some c) : (l.set j d)[j]? = some d := by
  rw [List.getElem?_set_self (List.getElem?_eq_some_iff.mp h).1]
theorem fse {F : Nat → Value} {k b n : Nat} {l : q_L} (h : l.length = n) : q_fset F k (.ref (b + 1 + l.length)) k = .ref (b + 1 + n) := by
  unfold q_fset
  rw [if_pos rfl, h]
theorem fsn {F : Nat → Value} {k j : Nat} {v w : Value} (hne : ¬ j = k) (h : F j = w) : q_fset F k v j = w := by
  unfold q_fset
  rw [if_neg hne]
  exact h
theorem al_t {μ : q_M} {t t2 : q_T} {n q : Nat} {f : Nat → Value} (e : ¬ q = μ.1.2.1) (h : μ.1.1 q = some t2) : (q_al1 μ t n f).1.1 q = some t2 := by
  show (if q = μ.1.2.1 then some t else μ.1.1 q) = _
  rw [if_neg e]
  exact h
theorem al_m {μ : q_M} {t : q_T} {n q j : Nat} {f : Nat → Value} {v : Value} (e : ¬ q = μ.1.2.1) (h : μ.2 q j = v) : (q_al1 μ t n f).2 q j = v := by
  show (if q = μ.1.2.1 then f else μ.2 q) j = _
  rw [if_neg e]
  exact h
def C1_0 (b : Nat) : q_L := []
def F1_0 (b : Nat) : Nat → Value := q_df tyX1
def F1_1 (b : Nat) : Nat → Value := q_fset (F1_0 b) 3 (.ref (b + 1 + (C1_0 b).length))
def C1_1 (b : Nat) : q_L := C1_0 b ++ ((.inr (.inl (.array .int, 4)), fun j => if j < 4 then .ref (b + 1 + (C1_0 b).length + 1 + j) else .null) :: List.replicate 4 (.inr (.inl (.int, 201)), fun _ => .int 0))
def F1_2 (b : Nat) : Nat → Value := q_fset (F1_1 b) 4 (.ref (b + 1 + (C1_1 b).length))
def C1_2 (b : Nat) : q_L := C1_1 b ++ ((.inr (.inl (.array .int, 4)), fun j => if j < 4 then .ref (b + 1 + (C1_1 b).length + 1 + j) else .null) :: List.replicate 4 (.inr (.inl (.int, 201)), fun _ => .int 0))
def F1_3 (b : Nat) : Nat → Value := q_fset (F1_2 b) 5 (.ref (b + 1 + (C1_2 b).length))
def C1_3 (b : Nat) : q_L := C1_2 b ++ ((.inr (.inl (.array .int, 4)), fun j => if j < 4 then .ref (b + 1 + (C1_2 b).length + 1 + j) else .null) :: List.replicate 4 (.inr (.inl (.int, 201)), fun _ => .int 0))
def F1_4 (b : Nat) : Nat → Value := q_fset (F1_3 b) 6 (.ref (b + 1 + (C1_3 b).length))
def C1_4 (b : Nat) : q_L := C1_3 b ++ [(.inr (.inl (.int, 4)), fun _ => .int 0)]
def F1_5 (b : Nat) : Nat → Value := q_fset (F1_4 b) 7 (.ref (b + 1 + (C1_4 b).length))
def C1_5 (b : Nat) : q_L := C1_4 b ++ [(.inr (.inl (.int, 201)), fun _ => .int 0)]
def F1_6 (b : Nat) : Nat → Value := q_fset (F1_5 b) 8 (.ref (b + 1 + (C1_5 b).length))
def C1_6 (b : Nat) : q_L := C1_5 b ++ [(.inr (.inl (.int, 40804)), fun _ => .int 0)]
def F1_7 (b : Nat) : Nat → Value := q_fset (F1_6 b) 9 (.ref (b + 1 + (C1_6 b).length))
def C1_7 (b : Nat) : q_L := C1_6 b ++ [(.inr (.inl (.int, 40401)), fun _ => .int 0)]
def L1 (b : Nat) : q_L := (.inl 1, F1_7 b) :: C1_7 b
theorem lC1_0 {b : Nat} : (C1_0 b).length = 0 := by rfl
theorem lC1_1 {b : Nat} : (C1_1 b).length = 5 := by simp only [C1_1, lC1_0, List.length_append, List.length_cons, List.length_nil, List.length_replicate, List.length_set, q_rep_len (w := 10) (L2 := L9) (fun b => rfl), q_rep_len (w := 14) (L2 := L8) (fun b => rfl), q_rep_len (w := 2) (L2 := L7) (fun b => rfl), lL0, lL2, lL4, lL7, lL8, lL9]
theorem lC1_2 {b : Nat} : (C1_2 b).length = 10 := by simp only [C1_2, lC1_1, List.length_append, List.length_cons, List.length_nil, List.length_replicate, List.length_set, q_rep_len (w := 10) (L2 := L9) (fun b => rfl), q_rep_len (w := 14) (L2 := L8) (fun b => rfl), q_rep_len (w := 2) (L2 := L7) (fun b => rfl), lL0, lL2, lL4, lL7, lL8, lL9]
theorem lC1_3 {b : Nat} : (C1_3 b).length = 15 := by simp only [C1_3, lC1_2, List.length_append, List.length_cons, List.length_nil, List.length_replicate, List.length_set, q_rep_len (w := 10) (L2 := L9) (fun b => rfl), q_rep_len (w := 14) (L2 := L8) (fun b => rfl), q_rep_len (w := 2) (L2 := L7) (fun b => rfl), lL0, lL2, lL4, lL7, lL8, lL9]
theorem lC1_4 {b : Nat} : (C1_4 b).length = 16 := by simp only [C1_4, lC1_3, List.length_append, List.length_cons, List.length_nil, List.length_replicate, List.length_set, q_rep_len (w := 10) (L2 := L9) (fun b => rfl), q_rep_len (w := 14) (L2 := L8) (fun b => rfl), q_rep_len (w := 2) (L2 := L7) (fun b => rfl), lL0, lL2, lL4, lL7, lL8, lL9]
theorem lC1_5 {b : Nat} : (C1_5 b).length = 17 := by simp only [C1_5, lC1_4, List.length_append, List.length_cons, List.length_nil, List.length_replicate, List.length_set, q_rep_len (w := 10) (L2 := L9) (fun b => rfl), q_rep_len (w := 14) (L2 := L8) (fun b => rfl), q_rep_len (w := 2) (L2 := L7) (fun b => rfl), lL0, lL2, lL4, lL7, lL8, lL9]
theorem lC1_6 {b : Nat} : (C1_6 b).length = 18 := by simp only [C1_6, lC1_5, List.length_append, List.length_cons, List.length_nil, List.length_replicate, List.length_set, q_rep_len (w := 10) (L2 := L9) (fun b => rfl), q_rep_len (w := 14) (L2 := L8) (fun b => rfl), q_rep_len (w := 2) (L2 := L7) (fun b => rfl), lL0, lL2, lL4, lL7, lL8, lL9]
theorem lC1_7 {b : Nat} : (C1_7 b).length = 19 := by simp only [C1_7, lC1_6, List.length_append, List.length_cons, List.length_nil, List.length_replicate, List.length_set, q_rep_len (w := 10) (L2 := L9) (fun b => rfl), q_rep_len (w := 14) (L2 := L8) (fun b => rfl), q_rep_len (w := 2) (L2 := L7) (fun b => rfl), lL0, lL2, lL4, lL7, lL8, lL9]
theorem lL1 {b : Nat} : (L1 b).length = 20 := by simp only [L1, List.length_cons, lC1_7]

theorem k1 : q_mkca fX1_init 1 tyX1 19 83834 [] (fun b => L1 b) := by
  intro μ b K h1 h2 h3 h4 h5 hk
  simp only [fX1_init, sX1_init_, q_mk, q_sq]
  refine ⟨by simp [Value.category], by simp, ?_⟩
  refine q_st_sp (a := b) rfl ?_
  have g0 : q_bld μ μ b 1 (F1_0 b) (C1_0 b) 19 83834 := q_bld0 h1 h2 h3 h4 h5
  refine q_st_mu (a := b) (ci := 1) (k := 3) (N := 4) (K := 201) g0 rfl (by decide) (by decide) (by decide) (by decide) (by decide) (by decide) (by decide) (by decide) fun μ1 (g1 : q_bld μ1 μ b 1 (F1_1 b) (C1_1 b) 14 83026) => ?_
  refine q_st_mu (a := b) (ci := 1) (k := 4) (N := 4) (K := 201) g1 rfl (by decide) (by decide) (by decide) (by decide) (by decide) (by decide) (by decide) (by decide) fun μ2 (g2 : q_bld μ2 μ b 1 (F1_2 b) (C1_2 b) 9 82218) => ?_
  refine q_st_mu (a := b) (ci := 1) (k := 5) (N := 4) (K := 201) g2 rfl (by decide) (by decide) (by decide) (by decide) (by decide) (by decide) (by decide) (by decide) fun μ3 (g3 : q_bld μ3 μ b 1 (F1_3 b) (C1_3 b) 4 81410) => ?_
  refine q_st_na (a := b) (ci := 1) (k := 6) (n := 4) g3 rfl (by decide) (by decide) (by decide) (by decide) (by decide) fun μ4 (g4 : q_bld μ4 μ b 1 (F1_4 b) (C1_4 b) 3 81406) => ?_
  refine q_st_na (a := b) (ci := 1) (k := 7) (n := 201) g4 rfl (by decide) (by decide) (by decide) (by decide) (by decide) fun μ5 (g5 : q_bld μ5 μ b 1 (F1_5 b) (C1_5 b) 2 81205) => ?_
  refine q_st_na (a := b) (ci := 1) (k := 8) (n := 40804) g5 rfl (by decide) (by decide) (by decide) (by decide) (by decide) fun μ6 (g6 : q_bld μ6 μ b 1 (F1_6 b) (C1_6 b) 1 40401) => ?_
  refine q_st_na (a := b) (ci := 1) (k := 9) (n := 40401) g6 rfl (by decide) (by decide) (by decide) (by decide) (by decide) fun μ7 (g7 : q_bld μ7 μ b 1 (F1_7 b) (C1_7 b) 0 0) => ?_
  have g := q_bldE g7
  exact hk μ7 g.1 g.2.1 g.2.2
def C3_0 (b a1 : Nat) : q_L := []
def F3_0 (b a1 : Nat) : Nat → Value := q_df tyX3
def F3_1 (b a1 : Nat) : Nat → Value := q_fset (F3_0 b a1) 2 (.ref (b + 1 + (C3_0 b a1).length))
def C3_1 (b a1 : Nat) : q_L := C3_0 b a1 ++ [(.inr (.inl (.int, 16)), fun _ => .int 0)]
def F3_2 (b a1 : Nat) : Nat → Value := q_fset (F3_1 b a1) 3 (.ref (b + 1 + (C3_1 b a1).length))
def C3_2 (b a1 : Nat) : q_L := C3_1 b a1 ++ [(.inr (.inl (.int, 1734)), fun _ => .int 0)]
def F3_3 (b a1 : Nat) : Nat → Value := q_fset (F3_2 b a1) 4 (.ref (b + 1 + (C3_2 b a1).length))
def C3_3 (b a1 : Nat) : q_L := C3_2 b a1 ++ [(.inr (.inl (.int, 20230)), fun _ => .int 0)]
def F3_4 (b a1 : Nat) : Nat → Value := q_fset (F3_3 b a1) 5 (.ref (b + 1 + (C3_3 b a1).length))
def C3_4 (b a1 : Nat) : q_L := C3_3 b a1 ++ [(.inr (.inl (.int, 1734)), fun _ => .int 0)]
def F3_5 (b a1 : Nat) : Nat → Value := q_fset (F3_4 b a1) 6 (.ref (b + 1 + (C3_4 b a1).length))
def C3_5 (b a1 : Nat) : q_L := C3_4 b a1 ++ [(.inr (.inl (.int, 20230)), fun _ => .int 0)]
def F3_6 (b a1 : Nat) : Nat → Value := q_fset (F3_5 b a1) 7 (.ref (b + 1 + (C3_5 b a1).length))
def C3_6 (b a1 : Nat) : q_L := C3_5 b a1 ++ [(.inr (.inl (.int, 238)), fun _ => .int 0)]
def F3_7 (b a1 : Nat) : Nat → Value := q_fset (F3_6 b a1) 1 (.ref a1)
def C3_7 (b a1 : Nat) : q_L := C3_6 b a1
def L3 (b a1 : Nat) : q_L := (.inl 3, F3_7 b a1) :: C3_7 b a1
theorem lC3_0 {b a1 : Nat} : (C3_0 b a1).length = 0 := by rfl
theorem lC3_1 {b a1 : Nat} : (C3_1 b a1).length = 1 := by simp only [C3_1, lC3_0, List.length_append, List.length_cons, List.length_nil, List.length_replicate, List.length_set, q_rep_len (w := 10) (L2 := L9) (fun b => rfl), q_rep_len (w := 14) (L2 := L8) (fun b => rfl), q_rep_len (w := 2) (L2 := L7) (fun b => rfl), lL0, lL1, lL2, lL4, lL7, lL8, lL9]
theorem lC3_2 {b a1 : Nat} : (C3_2 b a1).length = 2 := by simp only [C3_2, lC3_1, List.length_append, List.length_cons, List.length_nil, List.length_replicate, List.length_set, q_rep_len (w := 10) (L2 := L9) (fun b => rfl), q_rep_len (w := 14) (L2 := L8) (fun b => rfl), q_rep_len (w := 2) (L2 := L7) (fun b => rfl), lL0, lL1, lL2, lL4, lL7, lL8, lL9]
theorem lC3_3 {b a1 : Nat} : (C3_3 b a1).length = 3 := by simp only [C3_3, lC3_2, List.length_append, List.length_cons, List.length_nil, List.length_replicate, List.length_set, q_rep_len (w := 10) (L2 := L9) (fun b => rfl), q_rep_len (w := 14) (L2 := L8) (fun b => rfl), q_rep_len (w := 2) (L2 := L7) (fun b => rfl), lL0, lL1, lL2, lL4, lL7, lL8, lL9]
theorem lC3_4 {b a1 : Nat} : (C3_4 b a1).length = 4 := by simp only [C3_4, lC3_3, List.length_append, List.length_cons, List.length_nil, List.length_replicate, List.length_set, q_rep_len (w := 10) (L2 := L9) (fun b => rfl), q_rep_len (w := 14) (L2 := L8) (fun b => rfl), q_rep_len (w := 2) (L2 := L7) (fun b => rfl), lL0, lL1, lL2, lL4, lL7, lL8, lL9]
theorem lC3_5 {b a1 : Nat} : (C3_5 b a1).length = 5 := by simp only [C3_5, lC3_4, List.length_append, List.length_cons, List.length_nil, List.length_replicate, List.length_set, q_rep_len (w := 10) (L2 := L9) (fun b => rfl), q_rep_len (w := 14) (L2 := L8) (fun b => rfl), q_rep_len (w := 2) (L2 := L7) (fun b => rfl), lL0, lL1, lL2, lL4, lL7, lL8, lL9]
theorem lC3_6 {b a1 : Nat} : (C3_6 b a1).length = 6 := by simp only [C3_6, lC3_5, List.length_append, List.length_cons, List.length_nil, List.length_replicate, List.length_set, q_rep_len (w := 10) (L2 := L9) (fun b => rfl), q_rep_len (w := 14) (L2 := L8) (fun b => rfl), q_rep_len (w := 2) (L2 := L7) (fun b => rfl), lL0, lL1, lL2, lL4, lL7, lL8, lL9]
theorem lC3_7 {b a1 : Nat} : (C3_7 b a1).length = 6 := by simp only [C3_7, lC3_6, List.length_append, List.length_cons, List.length_nil, List.length_replicate, List.length_set, q_rep_len (w := 10) (L2 := L9) (fun b => rfl), q_rep_len (w := 14) (L2 := L8) (fun b => rfl), q_rep_len (w := 2) (L2 := L7) (fun b => rfl), lL0, lL1, lL2, lL4, lL7, lL8, lL9]
theorem lL3 {b a1 : Nat} : (L3 b a1).length = 7 := by simp only [L3, List.length_cons, lC3_7]

theorem k3 (a1 : Nat) : q_mkca fX3_init 3 tyX3 6 44182 [.ref a1] (fun b => L3 b a1) := by
  intro μ b K h1 h2 h3 h4 h5 hk
  simp only [fX3_init, sX3_init_, q_mk, q_sq]
  refine ⟨by simp [Value.category], by simp, ?_⟩
  refine q_st_sp (a := b) rfl ?_
  have g0 : q_bld μ μ b 3 (F3_0 b a1) (C3_0 b a1) 6 44182 := q_bld0 h1 h2 h3 h4 h5
  refine q_st_na (a := b) (ci := 3) (k := 2) (n := 16) g0 rfl (by decide) (by decide) (by decide) (by decide) (by decide) fun μ1 (g1 : q_bld μ1 μ b 3 (F3_1 b a1) (C3_1 b a1) 5 44166) => ?_
  refine q_st_na (a := b) (ci := 3) (k := 3) (n := 1734) g1 rfl (by decide) (by decide) (by decide) (by decide) (by decide) fun μ2 (g2 : q_bld μ2 μ b 3 (F3_2 b a1) (C3_2 b a1) 4 42432) => ?_
  refine q_st_na (a := b) (ci := 3) (k := 4) (n := 20230) g2 rfl (by decide) (by decide) (by decide) (by decide) (by decide) fun μ3 (g3 : q_bld μ3 μ b 3 (F3_3 b a1) (C3_3 b a1) 3 22202) => ?_
  refine q_st_na (a := b) (ci := 3) (k := 5) (n := 1734) g3 rfl (by decide) (by decide) (by decide) (by decide) (by decide) fun μ4 (g4 : q_bld μ4 μ b 3 (F3_4 b a1) (C3_4 b a1) 2 20468) => ?_
  refine q_st_na (a := b) (ci := 3) (k := 6) (n := 20230) g4 rfl (by decide) (by decide) (by decide) (by decide) (by decide) fun μ5 (g5 : q_bld μ5 μ b 3 (F3_5 b a1) (C3_5 b a1) 1 238) => ?_
  refine q_st_na (a := b) (ci := 3) (k := 7) (n := 238) g5 rfl (by decide) (by decide) (by decide) (by decide) (by decide) fun μ6 (g6 : q_bld μ6 μ b 3 (F3_6 b a1) (C3_6 b a1) 0 0) => ?_
  refine q_st_fr (a := b) (ci := 3) (k := 1) (v := a1) g6 rfl rfl fun μ7 (g7 : q_bld μ7 μ b 3 (F3_7 b a1) (C3_7 b a1) 0 0) => ?_
  have g := q_bldE g7
  exact hk μ7 g.1 g.2.1 g.2.2
def C5_0 (b a1 a2 : Nat) : q_L := []
def F5_0 (b a1 a2 : Nat) : Nat → Value := q_df tyX5
def F5_1 (b a1 a2 : Nat) : Nat → Value := q_fset (F5_0 b a1 a2) 5 (.ref (b + 1 + (C5_0 b a1 a2).length))
def C5_1 (b a1 a2 : Nat) : q_L := C5_0 b a1 a2 ++ [(.inr (.inl (.int, 16)), fun _ => .int 0)]
def F5_2 (b a1 a2 : Nat) : Nat → Value := q_fset (F5_1 b a1 a2) 6 (.ref (b + 1 + (C5_1 b a1 a2).length))
def C5_2 (b a1 a2 : Nat) : q_L := C5_1 b a1 a2 ++ [(.inr (.inl (.int, 16)), fun _ => .int 0)]
def F5_3 (b a1 a2 : Nat) : Nat → Value := q_fset (F5_2 b a1 a2) 7 (.ref (b + 1 + (C5_2 b a1 a2).length))
def C5_3 (b a1 a2 : Nat) : q_L := C5_2 b a1 a2 ++ [(.inr (.inl (.boolean, 16)), fun _ => .int 0)]
def F5_4 (b a1 a2 : Nat) : Nat → Value := q_fset (F5_3 b a1 a2) 2 (.ref a1)
def C5_4 (b a1 a2 : Nat) : q_L := C5_3 b a1 a2
def F5_5 (b a1 a2 : Nat) : Nat → Value := q_fset (F5_4 b a1 a2) 3 (.ref a2)
def C5_5 (b a1 a2 : Nat) : q_L := C5_4 b a1 a2
def L5 (b a1 a2 : Nat) : q_L := (.inl 5, F5_5 b a1 a2) :: C5_5 b a1 a2
theorem lC5_0 {b a1 a2 : Nat} : (C5_0 b a1 a2).length = 0 := by rfl
theorem lC5_1 {b a1 a2 : Nat} : (C5_1 b a1 a2).length = 1 := by simp only [C5_1, lC5_0, List.length_append, List.length_cons, List.length_nil, List.length_replicate, List.length_set, q_rep_len (w := 10) (L2 := L9) (fun b => rfl), q_rep_len (w := 14) (L2 := L8) (fun b => rfl), q_rep_len (w := 2) (L2 := L7) (fun b => rfl), lL0, lL1, lL2, lL3, lL4, lL7, lL8, lL9]
theorem lC5_2 {b a1 a2 : Nat} : (C5_2 b a1 a2).length = 2 := by simp only [C5_2, lC5_1, List.length_append, List.length_cons, List.length_nil, List.length_replicate, List.length_set, q_rep_len (w := 10) (L2 := L9) (fun b => rfl), q_rep_len (w := 14) (L2 := L8) (fun b => rfl), q_rep_len (w := 2) (L2 := L7) (fun b => rfl), lL0, lL1, lL2, lL3, lL4, lL7, lL8, lL9]
theorem lC5_3 {b a1 a2 : Nat} : (C5_3 b a1 a2).length = 3 := by simp only [C5_3, lC5_2, List.length_append, List.length_cons, List.length_nil, List.length_replicate, List.length_set, q_rep_len (w := 10) (L2 := L9) (fun b => rfl), q_rep_len (w := 14) (L2 := L8) (fun b => rfl), q_rep_len (w := 2) (L2 := L7) (fun b => rfl), lL0, lL1, lL2, lL3, lL4, lL7, lL8, lL9]
theorem lC5_4 {b a1 a2 : Nat} : (C5_4 b a1 a2).length = 3 := by simp only [C5_4, lC5_3, List.length_append, List.length_cons, List.length_nil, List.length_replicate, List.length_set, q_rep_len (w := 10) (L2 := L9) (fun b => rfl), q_rep_len (w := 14) (L2 := L8) (fun b => rfl), q_rep_len (w := 2) (L2 := L7) (fun b => rfl), lL0, lL1, lL2, lL3, lL4, lL7, lL8, lL9]
theorem lC5_5 {b a1 a2 : Nat} : (C5_5 b a1 a2).length = 3 := by simp only [C5_5, lC5_4, List.length_append, List.length_cons, List.length_nil, List.length_replicate, List.length_set, q_rep_len (w := 10) (L2 := L9) (fun b => rfl), q_rep_len (w := 14) (L2 := L8) (fun b => rfl), q_rep_len (w := 2) (L2 := L7) (fun b => rfl), lL0, lL1, lL2, lL3, lL4, lL7, lL8, lL9]
theorem lL5 {b a1 a2 : Nat} : (L5 b a1 a2).length = 4 := by simp only [L5, List.length_cons, lC5_5]

theorem k5 (a1 a2 : Nat) : q_mkca fX5_init 5 tyX5 3 48 [.ref a1, .ref a2] (fun b => L5 b a1 a2) := by
  intro μ b K h1 h2 h3 h4 h5 hk
  simp only [fX5_init, sX5_init_, q_mk, q_sq]
  refine ⟨by simp [Value.category], by simp, ?_⟩
  refine q_st_sp (a := b) rfl ?_
  have g0 : q_bld μ μ b 5 (F5_0 b a1 a2) (C5_0 b a1 a2) 3 48 := q_bld0 h1 h2 h3 h4 h5
  refine q_st_na (a := b) (ci := 5) (k := 5) (n := 16) g0 rfl (by decide) (by decide) (by decide) (by decide) (by decide) fun μ1 (g1 : q_bld μ1 μ b 5 (F5_1 b a1 a2) (C5_1 b a1 a2) 2 32) => ?_
  refine q_st_na (a := b) (ci := 5) (k := 6) (n := 16) g1 rfl (by decide) (by decide) (by decide) (by decide) (by decide) fun μ2 (g2 : q_bld μ2 μ b 5 (F5_2 b a1 a2) (C5_2 b a1 a2) 1 16) => ?_
  refine q_st_na (a := b) (ci := 5) (k := 7) (n := 16) g2 rfl (by decide) (by decide) (by decide) (by decide) (by decide) fun μ3 (g3 : q_bld μ3 μ b 5 (F5_3 b a1 a2) (C5_3 b a1 a2) 0 0) => ?_
  refine q_st_fr (a := b) (ci := 5) (k := 2) (v := a1) g3 rfl rfl fun μ4 (g4 : q_bld μ4 μ b 5 (F5_4 b a1 a2) (C5_4 b a1 a2) 0 0) => ?_
  refine q_st_fr (a := b) (ci := 5) (k := 3) (v := a2) g4 rfl rfl fun μ5 (g5 : q_bld μ5 μ b 5 (F5_5 b a1 a2) (C5_5 b a1 a2) 0 0) => ?_
  have g := q_bldE g5
  exact hk μ5 g.1 g.2.1 g.2.2
def C6_0 (b a1 : Nat) : q_L := []
def F6_0 (b a1 : Nat) : Nat → Value := q_df tyX6
def F6_1 (b a1 : Nat) : Nat → Value := q_fset (F6_0 b a1) 0 (.ref (b + 1 + (C6_0 b a1).length))
def C6_1 (b a1 : Nat) : q_L := C6_0 b a1 ++ [(.inr (.inl (.int, 201)), fun _ => .int 0)]
def F6_2 (b a1 : Nat) : Nat → Value := q_fset (F6_1 b a1) 2 (.ref (b + 1 + (C6_1 b a1).length))
def C6_2 (b a1 : Nat) : q_L := C6_1 b a1 ++ [(.inr (.inl (.int, 201)), fun _ => .int 0)]
def F6_3 (b a1 : Nat) : Nat → Value := q_fset (F6_2 b a1) 3 (.ref (b + 1 + (C6_2 b a1).length))
def C6_3 (b a1 : Nat) : q_L := C6_2 b a1 ++ [(.inr (.inl (.int, 201)), fun _ => .int 0)]
def F6_4 (b a1 : Nat) : Nat → Value := q_fset (F6_3 b a1) 9 (.ref (b + 1 + (C6_3 b a1).length))
def C6_4 (b a1 : Nat) : q_L := C6_3 b a1 ++ [(.inr (.inl (.int, 201)), fun _ => .int 0)]
def F6_5 (b a1 : Nat) : Nat → Value := q_fset (F6_4 b a1) 10 (.ref (b + 1 + (C6_4 b a1).length))
def C6_5 (b a1 : Nat) : q_L := C6_4 b a1 ++ [(.inr (.inl (.int, 201)), fun _ => .int 0)]
def F6_6 (b a1 : Nat) : Nat → Value := q_fset (F6_5 b a1) 11 (.ref (b + 1 + (C6_5 b a1).length))
def C6_6 (b a1 : Nat) : q_L := C6_5 b a1 ++ [(.inr (.inl (.int, 201)), fun _ => .int 0)]
def F6_7 (b a1 : Nat) : Nat → Value := q_fset (F6_6 b a1) 8 (.ref a1)
def C6_7 (b a1 : Nat) : q_L := C6_6 b a1
def L6 (b a1 : Nat) : q_L := (.inl 6, F6_7 b a1) :: C6_7 b a1
theorem lC6_0 {b a1 : Nat} : (C6_0 b a1).length = 0 := by rfl
theorem lC6_1 {b a1 : Nat} : (C6_1 b a1).length = 1 := by simp only [C6_1, lC6_0, List.length_append, List.length_cons, List.length_nil, List.length_replicate, List.length_set, q_rep_len (w := 10) (L2 := L9) (fun b => rfl), q_rep_len (w := 14) (L2 := L8) (fun b => rfl), q_rep_len (w := 2) (L2 := L7) (fun b => rfl), lL0, lL1, lL2, lL3, lL4, lL5, lL7, lL8, lL9]
theorem lC6_2 {b a1 : Nat} : (C6_2 b a1).length = 2 := by simp only [C6_2, lC6_1, List.length_append, List.length_cons, List.length_nil, List.length_replicate, List.length_set, q_rep_len (w := 10) (L2 := L9) (fun b => rfl), q_rep_len (w := 14) (L2 := L8) (fun b => rfl), q_rep_len (w := 2) (L2 := L7) (fun b => rfl), lL0, lL1, lL2, lL3, lL4, lL5, lL7, lL8, lL9]
theorem lC6_3 {b a1 : Nat} : (C6_3 b a1).length = 3 := by simp only [C6_3, lC6_2, List.length_append, List.length_cons, List.length_nil, List.length_replicate, List.length_set, q_rep_len (w := 10) (L2 := L9) (fun b => rfl), q_rep_len (w := 14) (L2 := L8) (fun b => rfl), q_rep_len (w := 2) (L2 := L7) (fun b => rfl), lL0, lL1, lL2, lL3, lL4, lL5, lL7, lL8, lL9]
theorem lC6_4 {b a1 : Nat} : (C6_4 b a1).length = 4 := by simp only [C6_4, lC6_3, List.length_append, List.length_cons, List.length_nil, List.length_replicate, List.length_set, q_rep_len (w := 10) (L2 := L9) (fun b => rfl), q_rep_len (w := 14) (L2 := L8) (fun b => rfl), q_rep_len (w := 2) (L2 := L7) (fun b => rfl), lL0, lL1, lL2, lL3, lL4, lL5, lL7, lL8, lL9]
theorem lC6_5 {b a1 : Nat} : (C6_5 b a1).length = 5 := by simp only [C6_5, lC6_4, List.length_append, List.length_cons, List.length_nil, List.length_replicate, List.length_set, q_rep_len (w := 10) (L2 := L9) (fun b => rfl), q_rep_len (w := 14) (L2 := L8) (fun b => rfl), q_rep_len (w := 2) (L2 := L7) (fun b => rfl), lL0, lL1, lL2, lL3, lL4, lL5, lL7, lL8, lL9]
theorem lC6_6 {b a1 : Nat} : (C6_6 b a1).length = 6 := by simp only [C6_6, lC6_5, List.length_append, List.length_cons, List.length_nil, List.length_replicate, List.length_set, q_rep_len (w := 10) (L2 := L9) (fun b => rfl), q_rep_len (w := 14) (L2 := L8) (fun b => rfl), q_rep_len (w := 2) (L2 := L7) (fun b => rfl), lL0, lL1, lL2, lL3, lL4, lL5, lL7, lL8, lL9]
theorem lC6_7 {b a1 : Nat} : (C6_7 b a1).length = 6 := by simp only [C6_7, lC6_6, List.length_append, List.length_cons, List.length_nil, List.length_replicate, List.length_set, q_rep_len (w := 10) (L2 := L9) (fun b => rfl), q_rep_len (w := 14) (L2 := L8) (fun b => rfl), q_rep_len (w := 2) (L2 := L7) (fun b => rfl), lL0, lL1, lL2, lL3, lL4, lL5, lL7, lL8, lL9]
theorem lL6 {b a1 : Nat} : (L6 b a1).length = 7 := by simp only [L6, List.length_cons, lC6_7]

theorem k6 (a1 : Nat) : q_mkca fX6_init 6 tyX6 6 1206 [.ref a1] (fun b => L6 b a1) := by
  intro μ b K h1 h2 h3 h4 h5 hk
  simp only [fX6_init, sX6_init_, q_mk, q_sq]
  refine ⟨by simp [Value.category], by simp, ?_⟩
  refine q_st_sp (a := b) rfl ?_
  have g0 : q_bld μ μ b 6 (F6_0 b a1) (C6_0 b a1) 6 1206 := q_bld0 h1 h2 h3 h4 h5
  refine q_st_na (a := b) (ci := 6) (k := 0) (n := 201) g0 rfl (by decide) (by decide) (by decide) (by decide) (by decide) fun μ1 (g1 : q_bld μ1 μ b 6 (F6_1 b a1) (C6_1 b a1) 5 1005) => ?_
  refine q_st_na (a := b) (ci := 6) (k := 2) (n := 201) g1 rfl (by decide) (by decide) (by decide) (by decide) (by decide) fun μ2 (g2 : q_bld μ2 μ b 6 (F6_2 b a1) (C6_2 b a1) 4 804) => ?_
  refine q_st_na (a := b) (ci := 6) (k := 3) (n := 201) g2 rfl (by decide) (by decide) (by decide) (by decide) (by decide) fun μ3 (g3 : q_bld μ3 μ b 6 (F6_3 b a1) (C6_3 b a1) 3 603) => ?_
  refine q_st_na (a := b) (ci := 6) (k := 9) (n := 201) g3 rfl (by decide) (by decide) (by decide) (by decide) (by decide) fun μ4 (g4 : q_bld μ4 μ b 6 (F6_4 b a1) (C6_4 b a1) 2 402) => ?_
  refine q_st_na (a := b) (ci := 6) (k := 10) (n := 201) g4 rfl (by decide) (by decide) (by decide) (by decide) (by decide) fun μ5 (g5 : q_bld μ5 μ b 6 (F6_5 b a1) (C6_5 b a1) 1 201) => ?_
  refine q_st_na (a := b) (ci := 6) (k := 11) (n := 201) g5 rfl (by decide) (by decide) (by decide) (by decide) (by decide) fun μ6 (g6 : q_bld μ6 μ b 6 (F6_6 b a1) (C6_6 b a1) 0 0) => ?_
  refine q_st_fr (a := b) (ci := 6) (k := 8) (v := a1) g6 rfl rfl fun μ7 (g7 : q_bld μ7 μ b 6 (F6_7 b a1) (C6_7 b a1) 0 0) => ?_
  have g := q_bldE g7
  exact hk μ7 g.1 g.2.1 g.2.2
def C10_0 (b : Nat) : q_L := []
def F10_0 (b : Nat) : Nat → Value := q_df tyX10
def F10_1 (b : Nat) : Nat → Value := q_fset (F10_0 b) 2 (.ref (b + 1 + (C10_0 b).length))
def C10_1 (b : Nat) : q_L := C10_0 b ++ [(.inr (.inl (.boolean, 6)), fun _ => .int 0)]
def F10_2 (b : Nat) : Nat → Value := q_fset (F10_1 b) 3 (.ref (b + 1 + (C10_1 b).length))
def C10_2 (b : Nat) : q_L := C10_1 b ++ [(.inr (.inl (.boolean, 6)), fun _ => .int 0)]
def F10_3 (b : Nat) : Nat → Value := q_fset (F10_2 b) 4 (.ref (b + 1 + (C10_2 b).length))
def C10_3 (b : Nat) : q_L := C10_2 b ++ [(.inr (.inl (.object "GrammarTools$Tree", 8)), fun _ => .null)]
def F10_4 (b : Nat) : Nat → Value := q_fset (F10_3 b) 5 (.ref (b + 1 + (C10_3 b).length))
def C10_4 (b : Nat) : q_L := C10_3 b ++ [(.inr (.inl (.object "GrammarTools$Tree", 12)), fun _ => .null)]
def F10_5 (b : Nat) : Nat → Value := q_fset (F10_4 b) 6 (.ref (b + 1 + (C10_4 b).length))
def C10_5 (b : Nat) : q_L := C10_4 b ++ [(.inr (.inl (.int, 4)), fun _ => .int 0)]
def F10_6 (b : Nat) : Nat → Value := q_fset (F10_5 b) 7 (.ref (b + 1 + (C10_5 b).length))
def C10_6 (b : Nat) : q_L := C10_5 b ++ [(.inr (.inl (.int, 64)), fun _ => .int 0)]
def F10_7 (b : Nat) : Nat → Value := q_fset (F10_6 b) 9 (.ref (b + 1 + (C10_6 b).length))
def C10_7 (b : Nat) : q_L := C10_6 b ++ [(.inr (.inl (.int, 16)), fun _ => .int 0)]
def F10_8 (b : Nat) : Nat → Value := q_fset (F10_7 b) 10 (.ref (b + 1 + (C10_7 b).length))
def C10_8 (b : Nat) : q_L := C10_7 b ++ L9 (b + 1 + (C10_7 b).length)
def F10_9 (b : Nat) : Nat → Value := q_fset (F10_8 b) 11 (.ref (b + 1 + (C10_8 b).length))
def C10_9 (b : Nat) : q_L := C10_8 b ++ L9 (b + 1 + (C10_8 b).length)
def F10_10 (b : Nat) : Nat → Value := q_fset (F10_9 b) 12 (.ref (b + 1 + (C10_9 b).length))
def C10_10 (b : Nat) : q_L := C10_9 b ++ ((.inr (.inl (.array .int, 60)), fun j => if j < 60 then .ref (b + 1 + (C10_9 b).length + 1 + j) else .null) :: List.replicate 60 (.inr (.inl (.int, 201)), fun _ => .int 0))
def F10_11 (b : Nat) : Nat → Value := q_fset (F10_10 b) 13 (.ref (b + 1 + (C10_10 b).length))
def C10_11 (b : Nat) : q_L := C10_10 b ++ [(.inr (.inl (.int, 60)), fun _ => .int 0)]
def F10_12 (b : Nat) : Nat → Value := q_fset (F10_11 b) 14 (.ref (b + 1 + (C10_11 b).length))
def C10_12 (b : Nat) : q_L := C10_11 b ++ [(.inr (.inl (.int, 60)), fun _ => .int 0)]
def F10_13 (b : Nat) : Nat → Value := q_fset (F10_12 b) 16 (.ref (b + 1 + (C10_12 b).length))
def C10_13 (b : Nat) : q_L := C10_12 b ++ L9 (b + 1 + (C10_12 b).length)
def F10_14 (b : Nat) : Nat → Value := q_fset (F10_13 b) 17 (.ref (b + 1 + (C10_13 b).length))
def C10_14 (b : Nat) : q_L := C10_13 b ++ L9 (b + 1 + (C10_13 b).length)
def C10_15 (b : Nat) : q_L := (C10_14 b ++ q_rep L9 (b + 1 + (C10_14 b).length) 10 8).set 2 (.inr (.inl (.object "GrammarTools$Tree", 8)), fun j => if j < 8 then .ref (b + 1 + (C10_14 b).length + 10 * j) else .null)
def C10_16 (b : Nat) : q_L := (C10_15 b ++ q_rep L9 (b + 1 + (C10_15 b).length) 10 12).set 3 (.inr (.inl (.object "GrammarTools$Tree", 12)), fun j => if j < 12 then .ref (b + 1 + (C10_15 b).length + 10 * j) else .null)
def L10 (b : Nat) : q_L := (.inl 10, F10_14 b) :: C10_16 b
theorem lC10_0 {b : Nat} : (C10_0 b).length = 0 := by rfl
theorem lC10_1 {b : Nat} : (C10_1 b).length = 1 := by simp only [C10_1, lC10_0, List.length_append, List.length_cons, List.length_nil, List.length_replicate, List.length_set, q_rep_len (w := 10) (L2 := L9) (fun b => rfl), q_rep_len (w := 14) (L2 := L8) (fun b => rfl), q_rep_len (w := 2) (L2 := L7) (fun b => rfl), lL0, lL1, lL2, lL3, lL4, lL5, lL6, lL7, lL8, lL9]
theorem lC10_2 {b : Nat} : (C10_2 b).length = 2 := by simp only [C10_2, lC10_1, List.length_append, List.length_cons, List.length_nil, List.length_replicate, List.length_set, q_rep_len (w := 10) (L2 := L9) (fun b => rfl), q_rep_len (w := 14) (L2 := L8) (fun b => rfl), q_rep_len (w := 2) (L2 := L7) (fun b => rfl), lL0, lL1, lL2, lL3, lL4, lL5, lL6, lL7, lL8, lL9]
theorem lC10_3 {b : Nat} : (C10_3 b).length = 3 := by simp only [C10_3, lC10_2, List.length_append, List.length_cons, List.length_nil, List.length_replicate, List.length_set, q_rep_len (w := 10) (L2 := L9) (fun b => rfl), q_rep_len (w := 14) (L2 := L8) (fun b => rfl), q_rep_len (w := 2) (L2 := L7) (fun b => rfl), lL0, lL1, lL2, lL3, lL4, lL5, lL6, lL7, lL8, lL9]
theorem lC10_4 {b : Nat} : (C10_4 b).length = 4 := by simp only [C10_4, lC10_3, List.length_append, List.length_cons, List.length_nil, List.length_replicate, List.length_set, q_rep_len (w := 10) (L2 := L9) (fun b => rfl), q_rep_len (w := 14) (L2 := L8) (fun b => rfl), q_rep_len (w := 2) (L2 := L7) (fun b => rfl), lL0, lL1, lL2, lL3, lL4, lL5, lL6, lL7, lL8, lL9]
theorem lC10_5 {b : Nat} : (C10_5 b).length = 5 := by simp only [C10_5, lC10_4, List.length_append, List.length_cons, List.length_nil, List.length_replicate, List.length_set, q_rep_len (w := 10) (L2 := L9) (fun b => rfl), q_rep_len (w := 14) (L2 := L8) (fun b => rfl), q_rep_len (w := 2) (L2 := L7) (fun b => rfl), lL0, lL1, lL2, lL3, lL4, lL5, lL6, lL7, lL8, lL9]
theorem lC10_6 {b : Nat} : (C10_6 b).length = 6 := by simp only [C10_6, lC10_5, List.length_append, List.length_cons, List.length_nil, List.length_replicate, List.length_set, q_rep_len (w := 10) (L2 := L9) (fun b => rfl), q_rep_len (w := 14) (L2 := L8) (fun b => rfl), q_rep_len (w := 2) (L2 := L7) (fun b => rfl), lL0, lL1, lL2, lL3, lL4, lL5, lL6, lL7, lL8, lL9]
theorem lC10_7 {b : Nat} : (C10_7 b).length = 7 := by simp only [C10_7, lC10_6, List.length_append, List.length_cons, List.length_nil, List.length_replicate, List.length_set, q_rep_len (w := 10) (L2 := L9) (fun b => rfl), q_rep_len (w := 14) (L2 := L8) (fun b => rfl), q_rep_len (w := 2) (L2 := L7) (fun b => rfl), lL0, lL1, lL2, lL3, lL4, lL5, lL6, lL7, lL8, lL9]
theorem lC10_8 {b : Nat} : (C10_8 b).length = 17 := by simp only [C10_8, lC10_7, List.length_append, List.length_cons, List.length_nil, List.length_replicate, List.length_set, q_rep_len (w := 10) (L2 := L9) (fun b => rfl), q_rep_len (w := 14) (L2 := L8) (fun b => rfl), q_rep_len (w := 2) (L2 := L7) (fun b => rfl), lL0, lL1, lL2, lL3, lL4, lL5, lL6, lL7, lL8, lL9]
theorem lC10_9 {b : Nat} : (C10_9 b).length = 27 := by simp only [C10_9, lC10_8, List.length_append, List.length_cons, List.length_nil, List.length_replicate, List.length_set, q_rep_len (w := 10) (L2 := L9) (fun b => rfl), q_rep_len (w := 14) (L2 := L8) (fun b => rfl), q_rep_len (w := 2) (L2 := L7) (fun b => rfl), lL0, lL1, lL2, lL3, lL4, lL5, lL6, lL7, lL8, lL9]
theorem lC10_10 {b : Nat} : (C10_10 b).length = 88 := by simp only [C10_10, lC10_9, List.length_append, List.length_cons, List.length_nil, List.length_replicate, List.length_set, q_rep_len (w := 10) (L2 := L9) (fun b => rfl), q_rep_len (w := 14) (L2 := L8) (fun b => rfl), q_rep_len (w := 2) (L2 := L7) (fun b => rfl), lL0, lL1, lL2, lL3, lL4, lL5, lL6, lL7, lL8, lL9]
theorem lC10_11 {b : Nat} : (C10_11 b).length = 89 := by simp only [C10_11, lC10_10, List.length_append, List.length_cons, List.length_nil, List.length_replicate, List.length_set, q_rep_len (w := 10) (L2 := L9) (fun b => rfl), q_rep_len (w := 14) (L2 := L8) (fun b => rfl), q_rep_len (w := 2) (L2 := L7) (fun b => rfl), lL0, lL1, lL2, lL3, lL4, lL5, lL6, lL7, lL8, lL9]
theorem lC10_12 {b : Nat} : (C10_12 b).length = 90 := by simp only [C10_12, lC10_11, List.length_append, List.length_cons, List.length_nil, List.length_replicate, List.length_set, q_rep_len (w := 10) (L2 := L9) (fun b => rfl), q_rep_len (w := 14) (L2 := L8) (fun b => rfl), q_rep_len (w := 2) (L2 := L7) (fun b => rfl), lL0, lL1, lL2, lL3, lL4, lL5, lL6, lL7, lL8, lL9]
theorem lC10_13 {b : Nat} : (C10_13 b).length = 100 := by simp only [C10_13, lC10_12, List.length_append, List.length_cons, List.length_nil, List.length_replicate, List.length_set, q_rep_len (w := 10) (L2 := L9) (fun b => rfl), q_rep_len (w := 14) (L2 := L8) (fun b => rfl), q_rep_len (w := 2) (L2 := L7) (fun b => rfl), lL0, lL1, lL2, lL3, lL4, lL5, lL6, lL7, lL8, lL9]
theorem lC10_14 {b : Nat} : (C10_14 b).length = 110 := by simp only [C10_14, lC10_13, List.length_append, List.length_cons, List.length_nil, List.length_replicate, List.length_set, q_rep_len (w := 10) (L2 := L9) (fun b => rfl), q_rep_len (w := 14) (L2 := L8) (fun b => rfl), q_rep_len (w := 2) (L2 := L7) (fun b => rfl), lL0, lL1, lL2, lL3, lL4, lL5, lL6, lL7, lL8, lL9]
theorem lC10_15 {b : Nat} : (C10_15 b).length = 190 := by simp only [C10_15, lC10_14, List.length_append, List.length_cons, List.length_nil, List.length_replicate, List.length_set, q_rep_len (w := 10) (L2 := L9) (fun b => rfl), q_rep_len (w := 14) (L2 := L8) (fun b => rfl), q_rep_len (w := 2) (L2 := L7) (fun b => rfl), lL0, lL1, lL2, lL3, lL4, lL5, lL6, lL7, lL8, lL9]
theorem lC10_16 {b : Nat} : (C10_16 b).length = 310 := by simp only [C10_16, lC10_15, List.length_append, List.length_cons, List.length_nil, List.length_replicate, List.length_set, q_rep_len (w := 10) (L2 := L9) (fun b => rfl), q_rep_len (w := 14) (L2 := L8) (fun b => rfl), q_rep_len (w := 2) (L2 := L7) (fun b => rfl), lL0, lL1, lL2, lL3, lL4, lL5, lL6, lL7, lL8, lL9]
theorem lL10 {b : Nat} : (L10 b).length = 311 := by simp only [L10, List.length_cons, lC10_16]
theorem k10_s0 {μ μ0 : q_M} {b : Nat} {Kn : List Value → q_M → Prop} {Kr : Option Value → q_M → Prop} (g0 : q_bld μ μ0 b 10 (F10_0 b) (C10_0 b) 310 48380) (kk : ∀ μ', q_bld μ' μ0 b 10 (F10_1 b) (C10_1 b) 309 48374 → Kn [.ref b] μ') : (q_spf Value.ref (fun _ => True) 10 2 (q_r 0) (q_na .boolean (q_k 6))) [.ref b] μ Kn Kr :=
  q_st_na (a := b) (ci := 10) (k := 2) (n := 6) g0 rfl (by decide) (by decide) (by decide) (by decide) (by decide) kk
theorem k10_s1 {μ μ0 : q_M} {b : Nat} {Kn : List Value → q_M → Prop} {Kr : Option Value → q_M → Prop} (g1 : q_bld μ μ0 b 10 (F10_1 b) (C10_1 b) 309 48374) (kk : ∀ μ', q_bld μ' μ0 b 10 (F10_2 b) (C10_2 b) 308 48368 → Kn [.ref b] μ') : (q_spf Value.ref (fun _ => True) 10 3 (q_r 0) (q_na .boolean (q_k 6))) [.ref b] μ Kn Kr :=
  q_st_na (a := b) (ci := 10) (k := 3) (n := 6) g1 rfl (by decide) (by decide) (by decide) (by decide) (by decide) kk
theorem k10_s2 {μ μ0 : q_M} {b : Nat} {Kn : List Value → q_M → Prop} {Kr : Option Value → q_M → Prop} (g2 : q_bld μ μ0 b 10 (F10_2 b) (C10_2 b) 308 48368) (kk : ∀ μ', q_bld μ' μ0 b 10 (F10_3 b) (C10_3 b) 307 48360 → Kn [.ref b] μ') : (q_spf Value.ref (fun _ => True) 10 4 (q_r 0) (q_no2 "GrammarTools$Tree" (q_k 8))) [.ref b] μ Kn Kr :=
  q_st_no (a := b) (ci := 10) (k := 4) (n := 8) g2 rfl (by decide) (by decide) (by decide) (by decide) (by decide) kk
theorem k10_s3 {μ μ0 : q_M} {b : Nat} {Kn : List Value → q_M → Prop} {Kr : Option Value → q_M → Prop} (g3 : q_bld μ μ0 b 10 (F10_3 b) (C10_3 b) 307 48360) (kk : ∀ μ', q_bld μ' μ0 b 10 (F10_4 b) (C10_4 b) 306 48348 → Kn [.ref b] μ') : (q_spf Value.ref (fun _ => True) 10 5 (q_r 0) (q_no2 "GrammarTools$Tree" (q_k 12))) [.ref b] μ Kn Kr :=
  q_st_no (a := b) (ci := 10) (k := 5) (n := 12) g3 rfl (by decide) (by decide) (by decide) (by decide) (by decide) kk
theorem k10_s4 {μ μ0 : q_M} {b : Nat} {Kn : List Value → q_M → Prop} {Kr : Option Value → q_M → Prop} (g4 : q_bld μ μ0 b 10 (F10_4 b) (C10_4 b) 306 48348) (kk : ∀ μ', q_bld μ' μ0 b 10 (F10_5 b) (C10_5 b) 305 48344 → Kn [.ref b] μ') : (q_spf Value.ref (fun _ => True) 10 6 (q_r 0) (q_na .int (q_k 4))) [.ref b] μ Kn Kr :=
  q_st_na (a := b) (ci := 10) (k := 6) (n := 4) g4 rfl (by decide) (by decide) (by decide) (by decide) (by decide) kk
theorem k10_s5 {μ μ0 : q_M} {b : Nat} {Kn : List Value → q_M → Prop} {Kr : Option Value → q_M → Prop} (g5 : q_bld μ μ0 b 10 (F10_5 b) (C10_5 b) 305 48344) (kk : ∀ μ', q_bld μ' μ0 b 10 (F10_6 b) (C10_6 b) 304 48280 → Kn [.ref b] μ') : (q_spf Value.ref (fun _ => True) 10 7 (q_r 0) (q_na .int (q_k 64))) [.ref b] μ Kn Kr :=
  q_st_na (a := b) (ci := 10) (k := 7) (n := 64) g5 rfl (by decide) (by decide) (by decide) (by decide) (by decide) kk
theorem k10_s6 {μ μ0 : q_M} {b : Nat} {Kn : List Value → q_M → Prop} {Kr : Option Value → q_M → Prop} (g6 : q_bld μ μ0 b 10 (F10_6 b) (C10_6 b) 304 48280) (kk : ∀ μ', q_bld μ' μ0 b 10 (F10_7 b) (C10_7 b) 303 48264 → Kn [.ref b] μ') : (q_spf Value.ref (fun _ => True) 10 9 (q_r 0) (q_na .int (q_k 16))) [.ref b] μ Kn Kr :=
  q_st_na (a := b) (ci := 10) (k := 9) (n := 16) g6 rfl (by decide) (by decide) (by decide) (by decide) (by decide) kk
theorem k10_s7 {μ μ0 : q_M} {b : Nat} {Kn : List Value → q_M → Prop} {Kr : Option Value → q_M → Prop} (g7 : q_bld μ μ0 b 10 (F10_7 b) (C10_7 b) 303 48264) (kk : ∀ μ', q_bld μ' μ0 b 10 (F10_8 b) (C10_8 b) 293 46763 → Kn [.ref b] μ') : (q_spf Value.ref (fun _ => True) 10 10 (q_r 0) (q_nw 9 14 tyX9 0 9 1487 fX9_init q_an)) [.ref b] μ Kn Kr :=
  q_st_nw (a := b) (ci := 10) (k := 10) (L2 := L9) g7 rfl rfl (fun K h => h) (q_mkca_of k9) (fun b => ⟨_, _, rfl⟩) (by decide) (by decide) kk
theorem k10_s8 {μ μ0 : q_M} {b : Nat} {Kn : List Value → q_M → Prop} {Kr : Option Value → q_M → Prop} (g8 : q_bld μ μ0 b 10 (F10_8 b) (C10_8 b) 293 46763) (kk : ∀ μ', q_bld μ' μ0 b 10 (F10_9 b) (C10_9 b) 283 45262 → Kn [.ref b] μ') : (q_spf Value.ref (fun _ => True) 10 11 (q_r 0) (q_nw 9 14 tyX9 0 9 1487 fX9_init q_an)) [.ref b] μ Kn Kr :=
  q_st_nw (a := b) (ci := 10) (k := 11) (L2 := L9) g8 rfl rfl (fun K h => h) (q_mkca_of k9) (fun b => ⟨_, _, rfl⟩) (by decide) (by decide) kk
theorem k10_s9 {μ μ0 : q_M} {b : Nat} {Kn : List Value → q_M → Prop} {Kr : Option Value → q_M → Prop} (g9 : q_bld μ μ0 b 10 (F10_9 b) (C10_9 b) 283 45262) (kk : ∀ μ', q_bld μ' μ0 b 10 (F10_10 b) (C10_10 b) 222 33142 → Kn [.ref b] μ') : (q_spf Value.ref (fun _ => True) 10 12 (q_r 0) (q_mu (q_k 60) (q_k 201))) [.ref b] μ Kn Kr :=
  q_st_mu (a := b) (ci := 10) (k := 12) (N := 60) (K := 201) g9 rfl (by decide) (by decide) (by decide) (by decide) (by decide) (by decide) (by decide) (by decide) kk
theorem k10_s10 {μ μ0 : q_M} {b : Nat} {Kn : List Value → q_M → Prop} {Kr : Option Value → q_M → Prop} (g10 : q_bld μ μ0 b 10 (F10_10 b) (C10_10 b) 222 33142) (kk : ∀ μ', q_bld μ' μ0 b 10 (F10_11 b) (C10_11 b) 221 33082 → Kn [.ref b] μ') : (q_spf Value.ref (fun _ => True) 10 13 (q_r 0) (q_na .int (q_k 60))) [.ref b] μ Kn Kr :=
  q_st_na (a := b) (ci := 10) (k := 13) (n := 60) g10 rfl (by decide) (by decide) (by decide) (by decide) (by decide) kk
theorem k10_s11 {μ μ0 : q_M} {b : Nat} {Kn : List Value → q_M → Prop} {Kr : Option Value → q_M → Prop} (g11 : q_bld μ μ0 b 10 (F10_11 b) (C10_11 b) 221 33082) (kk : ∀ μ', q_bld μ' μ0 b 10 (F10_12 b) (C10_12 b) 220 33022 → Kn [.ref b] μ') : (q_spf Value.ref (fun _ => True) 10 14 (q_r 0) (q_na .int (q_k 60))) [.ref b] μ Kn Kr :=
  q_st_na (a := b) (ci := 10) (k := 14) (n := 60) g11 rfl (by decide) (by decide) (by decide) (by decide) (by decide) kk
theorem k10_s12 {μ μ0 : q_M} {b : Nat} {Kn : List Value → q_M → Prop} {Kr : Option Value → q_M → Prop} (g12 : q_bld μ μ0 b 10 (F10_12 b) (C10_12 b) 220 33022) (kk : ∀ μ', q_bld μ' μ0 b 10 (F10_13 b) (C10_13 b) 210 31521 → Kn [.ref b] μ') : (q_spf Value.ref (fun _ => True) 10 16 (q_r 0) (q_nw 9 14 tyX9 0 9 1487 fX9_init q_an)) [.ref b] μ Kn Kr :=
  q_st_nw (a := b) (ci := 10) (k := 16) (L2 := L9) g12 rfl rfl (fun K h => h) (q_mkca_of k9) (fun b => ⟨_, _, rfl⟩) (by decide) (by decide) kk
theorem k10_s13 {μ μ0 : q_M} {b : Nat} {Kn : List Value → q_M → Prop} {Kr : Option Value → q_M → Prop} (g13 : q_bld μ μ0 b 10 (F10_13 b) (C10_13 b) 210 31521) (kk : ∀ μ', q_bld μ' μ0 b 10 (F10_14 b) (C10_14 b) 200 30020 → Kn [.ref b] μ') : (q_spf Value.ref (fun _ => True) 10 17 (q_r 0) (q_nw 9 14 tyX9 0 9 1487 fX9_init q_an)) [.ref b] μ Kn Kr :=
  q_st_nw (a := b) (ci := 10) (k := 17) (L2 := L9) g13 rfl rfl (fun K h => h) (q_mkca_of k9) (fun b => ⟨_, _, rfl⟩) (by decide) (by decide) kk
theorem k10_s14 {μ μ0 : q_M} {b : Nat} {Kn : List Value → q_M → Prop} {Kr : Option Value → q_M → Prop} (g14 : q_bld μ μ0 b 10 (F10_14 b) (C10_14 b) 200 30020) (kk : ∀ μ', q_bld μ' μ0 b 10 (F10_14 b) (C10_15 b) 120 18012 → Kn [.ref b] μ') : (q_blk 1 (q_sq (q_sdec Value.int 1 (q_k 0)) (q_wh (q_cm q_Rlt (q_l 1) (q_k 8)) (q_sq (q_sar "GrammarTools$Tree" 9 (q_fr 10 4 (q_r 0)) (q_l 1) (q_nw 9 14 tyX9 0 9 1487 fX9_init q_an)) (q_sinc 1 1))))) [.ref b] μ Kn Kr :=
  q_st_ol (a := b) (ci := 10) (kf := 4) (j0 := 2) (w := 10) (N := 8) (C := "GrammarTools$Tree") (L2 := L9) g14 (fsn (by decide) (fsn (by decide) (fsn (by decide) (fsn (by decide) (fsn (by decide) (fsn (by decide) (fsn (by decide) (fsn (by decide) (fsn (by decide) (fsn (by decide) (fsn (by decide) (fse lC10_2)))))))))))) (gt_app (gt_app (gt_app (gt_app (gt_app (gt_app (gt_app (gt_app (gt_app (gt_app (gt_app (gt_last lC10_2)))))))))))) (by decide) (q_mkca_of k9) (fun b => ⟨_, _, rfl⟩) (fun b => rfl) (by decide) (by decide) kk
theorem k10_s15 {μ μ0 : q_M} {b : Nat} {Kn : List Value → q_M → Prop} {Kr : Option Value → q_M → Prop} (g15 : q_bld μ μ0 b 10 (F10_14 b) (C10_15 b) 120 18012) (kk : ∀ μ', q_bld μ' μ0 b 10 (F10_14 b) (C10_16 b) 0 0 → Kn [.ref b] μ') : (q_blk 1 (q_sq (q_sdec Value.int 1 (q_k 0)) (q_wh (q_cm q_Rlt (q_l 1) (q_k 12)) (q_sq (q_sar "GrammarTools$Tree" 9 (q_fr 10 5 (q_r 0)) (q_l 1) (q_nw 9 14 tyX9 0 9 1487 fX9_init q_an)) (q_sinc 1 1))))) [.ref b] μ Kn Kr :=
  q_st_ol (a := b) (ci := 10) (kf := 5) (j0 := 3) (w := 10) (N := 12) (C := "GrammarTools$Tree") (L2 := L9) g15 (fsn (by decide) (fsn (by decide) (fsn (by decide) (fsn (by decide) (fsn (by decide) (fsn (by decide) (fsn (by decide) (fsn (by decide) (fsn (by decide) (fsn (by decide) (fse lC10_3))))))))))) (gt_set_ne (by decide) (gt_app (gt_app (gt_app (gt_app (gt_app (gt_app (gt_app (gt_app (gt_app (gt_app (gt_app (gt_last lC10_3))))))))))))) (by decide) (q_mkca_of k9) (fun b => ⟨_, _, rfl⟩) (fun b => rfl) (by decide) (by decide) kk
set_option maxHeartbeats 16000000 in
set_option maxRecDepth 100000 in
theorem k10 : q_mkca fX10_init 10 tyX10 310 48380 [] (fun b => L10 b) := by
  intro μ b K h1 h2 h3 h4 h5 hk
  simp only [fX10_init, sX10_init_, q_mk, q_sq]
  refine ⟨by simp [Value.category], by simp, ?_⟩
  refine q_st_sp (a := b) rfl ?_
  have g0 : q_bld μ μ b 10 (F10_0 b) (C10_0 b) 310 48380 := q_bld0 h1 h2 h3 h4 h5
  refine k10_s0 g0 fun μ1 g1 => ?_
  refine k10_s1 g1 fun μ2 g2 => ?_
  refine k10_s2 g2 fun μ3 g3 => ?_
  refine k10_s3 g3 fun μ4 g4 => ?_
  refine k10_s4 g4 fun μ5 g5 => ?_
  refine k10_s5 g5 fun μ6 g6 => ?_
  refine k10_s6 g6 fun μ7 g7 => ?_
  refine k10_s7 g7 fun μ8 g8 => ?_
  refine k10_s8 g8 fun μ9 g9 => ?_
  refine k10_s9 g9 fun μ10 g10 => ?_
  refine k10_s10 g10 fun μ11 g11 => ?_
  refine k10_s11 g11 fun μ12 g12 => ?_
  refine k10_s12 g12 fun μ13 g13 => ?_
  refine k10_s13 g13 fun μ14 g14 => ?_
  refine k10_s14 g14 fun μ15 g15 => ?_
  refine k10_s15 g15 fun μ16 g16 => ?_
  have g := q_bldE g16
  exact hk μ16 g.1 g.2.1 g.2.2
def C11_0 (b : Nat) : q_L := []
def F11_0 (b : Nat) : Nat → Value := q_df tyX11
def F11_1 (b : Nat) : Nat → Value := q_fset (F11_0 b) 0 (.ref (b + 1 + (C11_0 b).length))
def C11_1 (b : Nat) : q_L := C11_0 b ++ [(.inr (.inl (.object "GrammarTools$Telling", 2)), fun _ => .null)]
def F11_2 (b : Nat) : Nat → Value := q_fset (F11_1 b) 1 (.ref (b + 1 + (C11_1 b).length))
def C11_2 (b : Nat) : q_L := C11_1 b ++ [(.inr (.inl (.int, 128)), fun _ => .int 0)]
def F11_3 (b : Nat) : Nat → Value := q_fset (F11_2 b) 2 (.ref (b + 1 + (C11_2 b).length))
def C11_3 (b : Nat) : q_L := C11_2 b ++ [(.inr (.inl (.int, 8)), fun _ => .int 0)]
def F11_4 (b : Nat) : Nat → Value := q_fset (F11_3 b) 3 (.ref (b + 1 + (C11_3 b).length))
def C11_4 (b : Nat) : q_L := C11_3 b ++ [(.inr (.inl (.object "GrammarTools$Tree", 12)), fun _ => .null)]
def F11_5 (b : Nat) : Nat → Value := q_fset (F11_4 b) 4 (.ref (b + 1 + (C11_4 b).length))
def C11_5 (b : Nat) : q_L := C11_4 b ++ L9 (b + 1 + (C11_4 b).length)
def F11_6 (b : Nat) : Nat → Value := q_fset (F11_5 b) 5 (.ref (b + 1 + (C11_5 b).length))
def C11_6 (b : Nat) : q_L := C11_5 b ++ [(.inr (.inl (.int, 64)), fun _ => .int 0)]
def F11_7 (b : Nat) : Nat → Value := q_fset (F11_6 b) 6 (.ref (b + 1 + (C11_6 b).length))
def C11_7 (b : Nat) : q_L := C11_6 b ++ [(.inr (.inl (.int, 5)), fun _ => .int 0)]
def F11_8 (b : Nat) : Nat → Value := q_fset (F11_7 b) 7 (.ref (b + 1 + (C11_7 b).length))
def C11_8 (b : Nat) : q_L := C11_7 b ++ [(.inr (.inl (.int, 14)), fun _ => .int 0)]
def F11_9 (b : Nat) : Nat → Value := q_fset (F11_8 b) 8 (.ref (b + 1 + (C11_8 b).length))
def C11_9 (b : Nat) : q_L := C11_8 b ++ [(.inr (.inl (.int, 70)), fun _ => .int 0)]
def F11_10 (b : Nat) : Nat → Value := q_fset (F11_9 b) 9 (.ref (b + 1 + (C11_9 b).length))
def C11_10 (b : Nat) : q_L := C11_9 b ++ [(.inr (.inl (.object "GrammarTools$Sheet", 4)), fun _ => .null)]
def F11_11 (b : Nat) : Nat → Value := q_fset (F11_10 b) 11 (.ref (b + 1 + (C11_10 b).length))
def C11_11 (b : Nat) : q_L := C11_10 b ++ L4 (b + 1 + (C11_10 b).length)
def F11_12 (b : Nat) : Nat → Value := q_fset (F11_11 b) 13 (.ref (b + 1 + (C11_11 b).length))
def C11_12 (b : Nat) : q_L := C11_11 b ++ L1 (b + 1 + (C11_11 b).length)
def F11_13 (b : Nat) : Nat → Value := q_fset (F11_12 b) 14 (.ref (b + 1 + (C11_12 b).length))
def C11_13 (b : Nat) : q_L := C11_12 b ++ L0 (b + 1 + (C11_12 b).length)
def F11_14 (b : Nat) : Nat → Value := q_fset (F11_13 b) 15 (.ref (b + 1 + (C11_13 b).length))
def C11_14 (b : Nat) : q_L := C11_13 b ++ L2 (b + 1 + (C11_13 b).length)
def F11_15 (b : Nat) : Nat → Value := q_fset (F11_14 b) 17 (.ref (b + 1 + (C11_14 b).length))
def C11_15 (b : Nat) : q_L := C11_14 b ++ L10 (b + 1 + (C11_14 b).length)
def C11_16 (b : Nat) : q_L := (C11_15 b ++ q_rep L8 (b + 1 + (C11_15 b).length) 14 2).set 0 (.inr (.inl (.object "GrammarTools$Telling", 2)), fun j => if j < 2 then .ref (b + 1 + (C11_15 b).length + 14 * j) else .null)
def C11_17 (b : Nat) : q_L := (C11_16 b ++ q_rep L9 (b + 1 + (C11_16 b).length) 10 12).set 3 (.inr (.inl (.object "GrammarTools$Tree", 12)), fun j => if j < 12 then .ref (b + 1 + (C11_16 b).length + 10 * j) else .null)
def C11_18 (b : Nat) : q_L := (C11_17 b ++ q_rep L7 (b + 1 + (C11_17 b).length) 2 4).set 18 (.inr (.inl (.object "GrammarTools$Sheet", 4)), fun j => if j < 4 then .ref (b + 1 + (C11_17 b).length + 2 * j) else .null)
def C11_19 (b : Nat) : q_L := (C11_18 b).set 16 (.inr (.inl (.int, 14)), fun i => if i < 14 then .int (-1) else .int 0)
def F11_20 (b : Nat) : Nat → Value := q_fset (F11_15 b) 10 (.ref (b + 1 + (C11_19 b).length))
def C11_20 (b : Nat) : q_L := C11_19 b ++ (fun z => L3 z (b + 1 + 369)) (b + 1 + (C11_19 b).length)
def F11_21 (b : Nat) : Nat → Value := q_fset (F11_20 b) 12 (.ref (b + 1 + (C11_20 b).length))
def C11_21 (b : Nat) : q_L := C11_20 b ++ (fun z => L6 z (b + 1 + 369)) (b + 1 + (C11_20 b).length)
def F11_22 (b : Nat) : Nat → Value := q_fset (F11_21 b) 16 (.ref (b + 1 + (C11_21 b).length))
def C11_22 (b : Nat) : q_L := C11_21 b ++ (fun z => L5 z (b + 1 + 369) (b + 1 + 397)) (b + 1 + (C11_21 b).length)
def L11 (b : Nat) : q_L := (.inl 11, F11_22 b) :: C11_22 b
theorem lC11_0 {b : Nat} : (C11_0 b).length = 0 := by rfl
theorem lC11_1 {b : Nat} : (C11_1 b).length = 1 := by simp only [C11_1, lC11_0, List.length_append, List.length_cons, List.length_nil, List.length_replicate, List.length_set, q_rep_len (w := 10) (L2 := L9) (fun b => rfl), q_rep_len (w := 14) (L2 := L8) (fun b => rfl), q_rep_len (w := 2) (L2 := L7) (fun b => rfl), lL0, lL1, lL2, lL3, lL4, lL5, lL6, lL7, lL8, lL9, lL10]
theorem lC11_2 {b : Nat} : (C11_2 b).length = 2 := by simp only [C11_2, lC11_1, List.length_append, List.length_cons, List.length_nil, List.length_replicate, List.length_set, q_rep_len (w := 10) (L2 := L9) (fun b => rfl), q_rep_len (w := 14) (L2 := L8) (fun b => rfl), q_rep_len (w := 2) (L2 := L7) (fun b => rfl), lL0, lL1, lL2, lL3, lL4, lL5, lL6, lL7, lL8, lL9, lL10]
theorem lC11_3 {b : Nat} : (C11_3 b).length = 3 := by simp only [C11_3, lC11_2, List.length_append, List.length_cons, List.length_nil, List.length_replicate, List.length_set, q_rep_len (w := 10) (L2 := L9) (fun b => rfl), q_rep_len (w := 14) (L2 := L8) (fun b => rfl), q_rep_len (w := 2) (L2 := L7) (fun b => rfl), lL0, lL1, lL2, lL3, lL4, lL5, lL6, lL7, lL8, lL9, lL10]
theorem lC11_4 {b : Nat} : (C11_4 b).length = 4 := by simp only [C11_4, lC11_3, List.length_append, List.length_cons, List.length_nil, List.length_replicate, List.length_set, q_rep_len (w := 10) (L2 := L9) (fun b => rfl), q_rep_len (w := 14) (L2 := L8) (fun b => rfl), q_rep_len (w := 2) (L2 := L7) (fun b => rfl), lL0, lL1, lL2, lL3, lL4, lL5, lL6, lL7, lL8, lL9, lL10]
theorem lC11_5 {b : Nat} : (C11_5 b).length = 14 := by simp only [C11_5, lC11_4, List.length_append, List.length_cons, List.length_nil, List.length_replicate, List.length_set, q_rep_len (w := 10) (L2 := L9) (fun b => rfl), q_rep_len (w := 14) (L2 := L8) (fun b => rfl), q_rep_len (w := 2) (L2 := L7) (fun b => rfl), lL0, lL1, lL2, lL3, lL4, lL5, lL6, lL7, lL8, lL9, lL10]
theorem lC11_6 {b : Nat} : (C11_6 b).length = 15 := by simp only [C11_6, lC11_5, List.length_append, List.length_cons, List.length_nil, List.length_replicate, List.length_set, q_rep_len (w := 10) (L2 := L9) (fun b => rfl), q_rep_len (w := 14) (L2 := L8) (fun b => rfl), q_rep_len (w := 2) (L2 := L7) (fun b => rfl), lL0, lL1, lL2, lL3, lL4, lL5, lL6, lL7, lL8, lL9, lL10]
theorem lC11_7 {b : Nat} : (C11_7 b).length = 16 := by simp only [C11_7, lC11_6, List.length_append, List.length_cons, List.length_nil, List.length_replicate, List.length_set, q_rep_len (w := 10) (L2 := L9) (fun b => rfl), q_rep_len (w := 14) (L2 := L8) (fun b => rfl), q_rep_len (w := 2) (L2 := L7) (fun b => rfl), lL0, lL1, lL2, lL3, lL4, lL5, lL6, lL7, lL8, lL9, lL10]
theorem lC11_8 {b : Nat} : (C11_8 b).length = 17 := by simp only [C11_8, lC11_7, List.length_append, List.length_cons, List.length_nil, List.length_replicate, List.length_set, q_rep_len (w := 10) (L2 := L9) (fun b => rfl), q_rep_len (w := 14) (L2 := L8) (fun b => rfl), q_rep_len (w := 2) (L2 := L7) (fun b => rfl), lL0, lL1, lL2, lL3, lL4, lL5, lL6, lL7, lL8, lL9, lL10]
theorem lC11_9 {b : Nat} : (C11_9 b).length = 18 := by simp only [C11_9, lC11_8, List.length_append, List.length_cons, List.length_nil, List.length_replicate, List.length_set, q_rep_len (w := 10) (L2 := L9) (fun b => rfl), q_rep_len (w := 14) (L2 := L8) (fun b => rfl), q_rep_len (w := 2) (L2 := L7) (fun b => rfl), lL0, lL1, lL2, lL3, lL4, lL5, lL6, lL7, lL8, lL9, lL10]
theorem lC11_10 {b : Nat} : (C11_10 b).length = 19 := by simp only [C11_10, lC11_9, List.length_append, List.length_cons, List.length_nil, List.length_replicate, List.length_set, q_rep_len (w := 10) (L2 := L9) (fun b => rfl), q_rep_len (w := 14) (L2 := L8) (fun b => rfl), q_rep_len (w := 2) (L2 := L7) (fun b => rfl), lL0, lL1, lL2, lL3, lL4, lL5, lL6, lL7, lL8, lL9, lL10]
theorem lC11_11 {b : Nat} : (C11_11 b).length = 25 := by simp only [C11_11, lC11_10, List.length_append, List.length_cons, List.length_nil, List.length_replicate, List.length_set, q_rep_len (w := 10) (L2 := L9) (fun b => rfl), q_rep_len (w := 14) (L2 := L8) (fun b => rfl), q_rep_len (w := 2) (L2 := L7) (fun b => rfl), lL0, lL1, lL2, lL3, lL4, lL5, lL6, lL7, lL8, lL9, lL10]
theorem lC11_12 {b : Nat} : (C11_12 b).length = 45 := by simp only [C11_12, lC11_11, List.length_append, List.length_cons, List.length_nil, List.length_replicate, List.length_set, q_rep_len (w := 10) (L2 := L9) (fun b => rfl), q_rep_len (w := 14) (L2 := L8) (fun b => rfl), q_rep_len (w := 2) (L2 := L7) (fun b => rfl), lL0, lL1, lL2, lL3, lL4, lL5, lL6, lL7, lL8, lL9, lL10]
theorem lC11_13 {b : Nat} : (C11_13 b).length = 50 := by simp only [C11_13, lC11_12, List.length_append, List.length_cons, List.length_nil, List.length_replicate, List.length_set, q_rep_len (w := 10) (L2 := L9) (fun b => rfl), q_rep_len (w := 14) (L2 := L8) (fun b => rfl), q_rep_len (w := 2) (L2 := L7) (fun b => rfl), lL0, lL1, lL2, lL3, lL4, lL5, lL6, lL7, lL8, lL9, lL10]
theorem lC11_14 {b : Nat} : (C11_14 b).length = 58 := by simp only [C11_14, lC11_13, List.length_append, List.length_cons, List.length_nil, List.length_replicate, List.length_set, q_rep_len (w := 10) (L2 := L9) (fun b => rfl), q_rep_len (w := 14) (L2 := L8) (fun b => rfl), q_rep_len (w := 2) (L2 := L7) (fun b => rfl), lL0, lL1, lL2, lL3, lL4, lL5, lL6, lL7, lL8, lL9, lL10]
theorem lC11_15 {b : Nat} : (C11_15 b).length = 369 := by simp only [C11_15, lC11_14, List.length_append, List.length_cons, List.length_nil, List.length_replicate, List.length_set, q_rep_len (w := 10) (L2 := L9) (fun b => rfl), q_rep_len (w := 14) (L2 := L8) (fun b => rfl), q_rep_len (w := 2) (L2 := L7) (fun b => rfl), lL0, lL1, lL2, lL3, lL4, lL5, lL6, lL7, lL8, lL9, lL10]
theorem lC11_16 {b : Nat} : (C11_16 b).length = 397 := by simp only [C11_16, lC11_15, List.length_append, List.length_cons, List.length_nil, List.length_replicate, List.length_set, q_rep_len (w := 10) (L2 := L9) (fun b => rfl), q_rep_len (w := 14) (L2 := L8) (fun b => rfl), q_rep_len (w := 2) (L2 := L7) (fun b => rfl), lL0, lL1, lL2, lL3, lL4, lL5, lL6, lL7, lL8, lL9, lL10]
theorem lC11_17 {b : Nat} : (C11_17 b).length = 517 := by simp only [C11_17, lC11_16, List.length_append, List.length_cons, List.length_nil, List.length_replicate, List.length_set, q_rep_len (w := 10) (L2 := L9) (fun b => rfl), q_rep_len (w := 14) (L2 := L8) (fun b => rfl), q_rep_len (w := 2) (L2 := L7) (fun b => rfl), lL0, lL1, lL2, lL3, lL4, lL5, lL6, lL7, lL8, lL9, lL10]
theorem lC11_18 {b : Nat} : (C11_18 b).length = 525 := by simp only [C11_18, lC11_17, List.length_append, List.length_cons, List.length_nil, List.length_replicate, List.length_set, q_rep_len (w := 10) (L2 := L9) (fun b => rfl), q_rep_len (w := 14) (L2 := L8) (fun b => rfl), q_rep_len (w := 2) (L2 := L7) (fun b => rfl), lL0, lL1, lL2, lL3, lL4, lL5, lL6, lL7, lL8, lL9, lL10]
theorem lC11_19 {b : Nat} : (C11_19 b).length = 525 := by simp only [C11_19, lC11_18, List.length_append, List.length_cons, List.length_nil, List.length_replicate, List.length_set, q_rep_len (w := 10) (L2 := L9) (fun b => rfl), q_rep_len (w := 14) (L2 := L8) (fun b => rfl), q_rep_len (w := 2) (L2 := L7) (fun b => rfl), lL0, lL1, lL2, lL3, lL4, lL5, lL6, lL7, lL8, lL9, lL10]
theorem lC11_20 {b : Nat} : (C11_20 b).length = 532 := by simp only [C11_20, lC11_19, List.length_append, List.length_cons, List.length_nil, List.length_replicate, List.length_set, q_rep_len (w := 10) (L2 := L9) (fun b => rfl), q_rep_len (w := 14) (L2 := L8) (fun b => rfl), q_rep_len (w := 2) (L2 := L7) (fun b => rfl), lL0, lL1, lL2, lL3, lL4, lL5, lL6, lL7, lL8, lL9, lL10]
theorem lC11_21 {b : Nat} : (C11_21 b).length = 539 := by simp only [C11_21, lC11_20, List.length_append, List.length_cons, List.length_nil, List.length_replicate, List.length_set, q_rep_len (w := 10) (L2 := L9) (fun b => rfl), q_rep_len (w := 14) (L2 := L8) (fun b => rfl), q_rep_len (w := 2) (L2 := L7) (fun b => rfl), lL0, lL1, lL2, lL3, lL4, lL5, lL6, lL7, lL8, lL9, lL10]
theorem lC11_22 {b : Nat} : (C11_22 b).length = 543 := by simp only [C11_22, lC11_21, List.length_append, List.length_cons, List.length_nil, List.length_replicate, List.length_set, q_rep_len (w := 10) (L2 := L9) (fun b => rfl), q_rep_len (w := 14) (L2 := L8) (fun b => rfl), q_rep_len (w := 2) (L2 := L7) (fun b => rfl), lL0, lL1, lL2, lL3, lL4, lL5, lL6, lL7, lL8, lL9, lL10]
theorem lL11 {b : Nat} : (L11 b).length = 544 := by simp only [L11, List.length_cons, lC11_22]
theorem ev11_10 {μ0 μ : q_M} {b : Nat} (g : q_bld μ μ0 b 11 (F11_15 b) (C11_19 b) 18 45470) : ∀ K : List Value → q_M → Prop, K [.ref (b + 1 + 369)] (q_al1 μ (.inl 3) 8 (q_df tyX3)) → (q_ac Value.ref (q_ar (q_fr 11 0 (q_r 0)) (q_k 0)) q_an) [.ref b] (q_al1 μ (.inl 3) 8 (q_df tyX3)) K := by
  intro K h
  have e0 : ¬ b = μ.1.2.1 := by have := g.2.2.1; omega
  have hq0 := g.2.2.2.1 0 _ (gt_set_ne (by decide) (gt_set_ne (by decide) (gt_app (gt_set_ne (by decide) (gt_app (gt_set (gt_app (gt_app (gt_app (gt_app (gt_app (gt_app (gt_app (gt_app (gt_app (gt_app (gt_app (gt_app (gt_app (gt_app (gt_app (gt_last lC11_0))))))))))))))))))))))
  have e1 : ¬ b + 1 + 0 = μ.1.2.1 := by have := g.2.2.1; rw [lC11_19] at this; omega
  refine ⟨b, rfl, al_t e0 g.1, b + 1 + 0, al_m e0 (by rw [g.2.1]; exact (fsn (by decide) (fsn (by decide) (fsn (by decide) (fsn (by decide) (fsn (by decide) (fsn (by decide) (fsn (by decide) (fsn (by decide) (fsn (by decide) (fsn (by decide) (fsn (by decide) (fsn (by decide) (fsn (by decide) (fsn (by decide) (fse lC11_0)))))))))))))))), _, _, al_t e1 hq0.1, rfl, (by unfold vp_in; decide), (b + 1 + 369), al_m e1 (by rw [hq0.2]; show (if 0 < 2 then Value.ref (b + 1 + (C11_15 b).length + 14 * 0) else .null) = _; rw [lC11_15]; rfl), h⟩
theorem ev11_12 {μ0 μ : q_M} {b : Nat} (g : q_bld μ μ0 b 11 (F11_20 b) (C11_20 b) 11 1280) : ∀ K : List Value → q_M → Prop, K [.ref (b + 1 + 369)] (q_al1 μ (.inl 6) 18 (q_df tyX6)) → (q_ac Value.ref (q_ar (q_fr 11 0 (q_r 0)) (q_k 0)) q_an) [.ref b] (q_al1 μ (.inl 6) 18 (q_df tyX6)) K := by
  intro K h
  have e0 : ¬ b = μ.1.2.1 := by have := g.2.2.1; omega
  have hq0 := g.2.2.2.1 0 _ (gt_app (gt_set_ne (by decide) (gt_set_ne (by decide) (gt_app (gt_set_ne (by decide) (gt_app (gt_set (gt_app (gt_app (gt_app (gt_app (gt_app (gt_app (gt_app (gt_app (gt_app (gt_app (gt_app (gt_app (gt_app (gt_app (gt_app (gt_last lC11_0)))))))))))))))))))))))
  have e1 : ¬ b + 1 + 0 = μ.1.2.1 := by have := g.2.2.1; rw [lC11_20] at this; omega
  refine ⟨b, rfl, al_t e0 g.1, b + 1 + 0, al_m e0 (by rw [g.2.1]; exact (fsn (by decide) (fsn (by decide) (fsn (by decide) (fsn (by decide) (fsn (by decide) (fsn (by decide) (fsn (by decide) (fsn (by decide) (fsn (by decide) (fsn (by decide) (fsn (by decide) (fsn (by decide) (fsn (by decide) (fsn (by decide) (fsn (by decide) (fse lC11_0))))))))))))))))), _, _, al_t e1 hq0.1, rfl, (by unfold vp_in; decide), (b + 1 + 369), al_m e1 (by rw [hq0.2]; show (if 0 < 2 then Value.ref (b + 1 + (C11_15 b).length + 14 * 0) else .null) = _; rw [lC11_15]; rfl), h⟩
theorem ev11_16 {μ0 μ : q_M} {b : Nat} (g : q_bld μ μ0 b 11 (F11_21 b) (C11_21 b) 4 56) : ∀ K : List Value → q_M → Prop, K [.ref (b + 1 + 369), .ref (b + 1 + 397)] (q_al1 μ (.inl 5) 8 (q_df tyX5)) → (q_ac Value.ref (q_ar (q_fr 11 0 (q_r 0)) (q_k 0)) (q_ac Value.ref (q_ar (q_fr 11 3 (q_r 0)) (q_k 0)) q_an)) [.ref b] (q_al1 μ (.inl 5) 8 (q_df tyX5)) K := by
  intro K h
  have e0 : ¬ b = μ.1.2.1 := by have := g.2.2.1; omega
  have hq0 := g.2.2.2.1 0 _ (gt_app (gt_app (gt_set_ne (by decide) (gt_set_ne (by decide) (gt_app (gt_set_ne (by decide) (gt_app (gt_set (gt_app (gt_app (gt_app (gt_app (gt_app (gt_app (gt_app (gt_app (gt_app (gt_app (gt_app (gt_app (gt_app (gt_app (gt_app (gt_last lC11_0))))))))))))))))))))))))
  have e1 : ¬ b + 1 + 0 = μ.1.2.1 := by have := g.2.2.1; rw [lC11_21] at this; omega
  have hq1 := g.2.2.2.1 3 _ (gt_app (gt_app (gt_set_ne (by decide) (gt_set_ne (by decide) (gt_app (gt_set (gt_app (gt_set_ne (by decide) (gt_app (gt_app (gt_app (gt_app (gt_app (gt_app (gt_app (gt_app (gt_app (gt_app (gt_app (gt_app (gt_last lC11_3)))))))))))))))))))))
  have e2 : ¬ b + 1 + 3 = μ.1.2.1 := by have := g.2.2.1; rw [lC11_21] at this; omega
  refine ⟨b, rfl, al_t e0 g.1, b + 1 + 0, al_m e0 (by rw [g.2.1]; exact (fsn (by decide) (fsn (by decide) (fsn (by decide) (fsn (by decide) (fsn (by decide) (fsn (by decide) (fsn (by decide) (fsn (by decide) (fsn (by decide) (fsn (by decide) (fsn (by decide) (fsn (by decide) (fsn (by decide) (fsn (by decide) (fsn (by decide) (fsn (by decide) (fse lC11_0)))))))))))))))))), _, _, al_t e1 hq0.1, rfl, (by unfold vp_in; decide), (b + 1 + 369), al_m e1 (by rw [hq0.2]; show (if 0 < 2 then Value.ref (b + 1 + (C11_15 b).length + 14 * 0) else .null) = _; rw [lC11_15]; rfl), ⟨b, rfl, al_t e0 g.1, b + 1 + 3, al_m e0 (by rw [g.2.1]; exact (fsn (by decide) (fsn (by decide) (fsn (by decide) (fsn (by decide) (fsn (by decide) (fsn (by decide) (fsn (by decide) (fsn (by decide) (fsn (by decide) (fsn (by decide) (fsn (by decide) (fsn (by decide) (fsn (by decide) (fse lC11_3))))))))))))))), _, _, al_t e2 hq1.1, rfl, (by unfold vp_in; decide), (b + 1 + 397), al_m e2 (by rw [hq1.2]; show (if 0 < 12 then Value.ref (b + 1 + (C11_16 b).length + 10 * 0) else .null) = _; rw [lC11_16]; rfl), h⟩⟩
theorem k11_s0 {μ μ0 : q_M} {b : Nat} {Kn : List Value → q_M → Prop} {Kr : Option Value → q_M → Prop} (g0 : q_bld μ μ0 b 11 (F11_0 b) (C11_0 b) 543 207092) (kk : ∀ μ', q_bld μ' μ0 b 11 (F11_1 b) (C11_1 b) 542 207090 → Kn [.ref b] μ') : (q_spf Value.ref (fun _ => True) 11 0 (q_r 0) (q_no2 "GrammarTools$Telling" (q_k 2))) [.ref b] μ Kn Kr :=
  q_st_no (a := b) (ci := 11) (k := 0) (n := 2) g0 rfl (by decide) (by decide) (by decide) (by decide) (by decide) kk
theorem k11_s1 {μ μ0 : q_M} {b : Nat} {Kn : List Value → q_M → Prop} {Kr : Option Value → q_M → Prop} (g1 : q_bld μ μ0 b 11 (F11_1 b) (C11_1 b) 542 207090) (kk : ∀ μ', q_bld μ' μ0 b 11 (F11_2 b) (C11_2 b) 541 206962 → Kn [.ref b] μ') : (q_spf Value.ref (fun _ => True) 11 1 (q_r 0) (q_na .int (q_k 128))) [.ref b] μ Kn Kr :=
  q_st_na (a := b) (ci := 11) (k := 1) (n := 128) g1 rfl (by decide) (by decide) (by decide) (by decide) (by decide) kk
theorem k11_s2 {μ μ0 : q_M} {b : Nat} {Kn : List Value → q_M → Prop} {Kr : Option Value → q_M → Prop} (g2 : q_bld μ μ0 b 11 (F11_2 b) (C11_2 b) 541 206962) (kk : ∀ μ', q_bld μ' μ0 b 11 (F11_3 b) (C11_3 b) 540 206954 → Kn [.ref b] μ') : (q_spf Value.ref (fun _ => True) 11 2 (q_r 0) (q_na .int (q_k 8))) [.ref b] μ Kn Kr :=
  q_st_na (a := b) (ci := 11) (k := 2) (n := 8) g2 rfl (by decide) (by decide) (by decide) (by decide) (by decide) kk
theorem k11_s3 {μ μ0 : q_M} {b : Nat} {Kn : List Value → q_M → Prop} {Kr : Option Value → q_M → Prop} (g3 : q_bld μ μ0 b 11 (F11_3 b) (C11_3 b) 540 206954) (kk : ∀ μ', q_bld μ' μ0 b 11 (F11_4 b) (C11_4 b) 539 206942 → Kn [.ref b] μ') : (q_spf Value.ref (fun _ => True) 11 3 (q_r 0) (q_no2 "GrammarTools$Tree" (q_k 12))) [.ref b] μ Kn Kr :=
  q_st_no (a := b) (ci := 11) (k := 3) (n := 12) g3 rfl (by decide) (by decide) (by decide) (by decide) (by decide) kk
theorem k11_s4 {μ μ0 : q_M} {b : Nat} {Kn : List Value → q_M → Prop} {Kr : Option Value → q_M → Prop} (g4 : q_bld μ μ0 b 11 (F11_4 b) (C11_4 b) 539 206942) (kk : ∀ μ', q_bld μ' μ0 b 11 (F11_5 b) (C11_5 b) 529 205441 → Kn [.ref b] μ') : (q_spf Value.ref (fun _ => True) 11 4 (q_r 0) (q_nw 9 14 tyX9 0 9 1487 fX9_init q_an)) [.ref b] μ Kn Kr :=
  q_st_nw (a := b) (ci := 11) (k := 4) (L2 := L9) g4 rfl rfl (fun K h => h) (q_mkca_of k9) (fun b => ⟨_, _, rfl⟩) (by decide) (by decide) kk
theorem k11_s5 {μ μ0 : q_M} {b : Nat} {Kn : List Value → q_M → Prop} {Kr : Option Value → q_M → Prop} (g5 : q_bld μ μ0 b 11 (F11_5 b) (C11_5 b) 529 205441) (kk : ∀ μ', q_bld μ' μ0 b 11 (F11_6 b) (C11_6 b) 528 205377 → Kn [.ref b] μ') : (q_spf Value.ref (fun _ => True) 11 5 (q_r 0) (q_na .int (q_k 64))) [.ref b] μ Kn Kr :=
  q_st_na (a := b) (ci := 11) (k := 5) (n := 64) g5 rfl (by decide) (by decide) (by decide) (by decide) (by decide) kk
theorem k11_s6 {μ μ0 : q_M} {b : Nat} {Kn : List Value → q_M → Prop} {Kr : Option Value → q_M → Prop} (g6 : q_bld μ μ0 b 11 (F11_6 b) (C11_6 b) 528 205377) (kk : ∀ μ', q_bld μ' μ0 b 11 (F11_7 b) (C11_7 b) 527 205372 → Kn [.ref b] μ') : (q_spf Value.ref (fun _ => True) 11 6 (q_r 0) (q_na .int (q_k 5))) [.ref b] μ Kn Kr :=
  q_st_na (a := b) (ci := 11) (k := 6) (n := 5) g6 rfl (by decide) (by decide) (by decide) (by decide) (by decide) kk
theorem k11_s7 {μ μ0 : q_M} {b : Nat} {Kn : List Value → q_M → Prop} {Kr : Option Value → q_M → Prop} (g7 : q_bld μ μ0 b 11 (F11_7 b) (C11_7 b) 527 205372) (kk : ∀ μ', q_bld μ' μ0 b 11 (F11_8 b) (C11_8 b) 526 205358 → Kn [.ref b] μ') : (q_spf Value.ref (fun _ => True) 11 7 (q_r 0) (q_na .int (q_k 14))) [.ref b] μ Kn Kr :=
  q_st_na (a := b) (ci := 11) (k := 7) (n := 14) g7 rfl (by decide) (by decide) (by decide) (by decide) (by decide) kk
theorem k11_s8 {μ μ0 : q_M} {b : Nat} {Kn : List Value → q_M → Prop} {Kr : Option Value → q_M → Prop} (g8 : q_bld μ μ0 b 11 (F11_8 b) (C11_8 b) 526 205358) (kk : ∀ μ', q_bld μ' μ0 b 11 (F11_9 b) (C11_9 b) 525 205288 → Kn [.ref b] μ') : (q_spf Value.ref (fun _ => True) 11 8 (q_r 0) (q_na .int (q_k 70))) [.ref b] μ Kn Kr :=
  q_st_na (a := b) (ci := 11) (k := 8) (n := 70) g8 rfl (by decide) (by decide) (by decide) (by decide) (by decide) kk
theorem k11_s9 {μ μ0 : q_M} {b : Nat} {Kn : List Value → q_M → Prop} {Kr : Option Value → q_M → Prop} (g9 : q_bld μ μ0 b 11 (F11_9 b) (C11_9 b) 525 205288) (kk : ∀ μ', q_bld μ' μ0 b 11 (F11_10 b) (C11_10 b) 524 205284 → Kn [.ref b] μ') : (q_spf Value.ref (fun _ => True) 11 9 (q_r 0) (q_no2 "GrammarTools$Sheet" (q_k 4))) [.ref b] μ Kn Kr :=
  q_st_no (a := b) (ci := 11) (k := 9) (n := 4) g9 rfl (by decide) (by decide) (by decide) (by decide) (by decide) kk
theorem k11_s10 {μ μ0 : q_M} {b : Nat} {Kn : List Value → q_M → Prop} {Kr : Option Value → q_M → Prop} (g10 : q_bld μ μ0 b 11 (F11_10 b) (C11_10 b) 524 205284) (kk : ∀ μ', q_bld μ' μ0 b 11 (F11_11 b) (C11_11 b) 518 200442 → Kn [.ref b] μ') : (q_spf Value.ref (fun _ => True) 11 11 (q_r 0) (q_nw 4 8 tyX4 0 5 4834 fX4_init q_an)) [.ref b] μ Kn Kr :=
  q_st_nw (a := b) (ci := 11) (k := 11) (L2 := L4) g10 rfl rfl (fun K h => h) (q_mkca_of k4) (fun b => ⟨_, _, rfl⟩) (by decide) (by decide) kk
theorem k11_s11 {μ μ0 : q_M} {b : Nat} {Kn : List Value → q_M → Prop} {Kr : Option Value → q_M → Prop} (g11 : q_bld μ μ0 b 11 (F11_11 b) (C11_11 b) 518 200442) (kk : ∀ μ', q_bld μ' μ0 b 11 (F11_12 b) (C11_12 b) 498 116598 → Kn [.ref b] μ') : (q_spf Value.ref (fun _ => True) 11 13 (q_r 0) (q_nw 1 10 tyX1 0 19 83834 fX1_init q_an)) [.ref b] μ Kn Kr :=
  q_st_nw (a := b) (ci := 11) (k := 13) (L2 := L1) g11 rfl rfl (fun K h => h) k1 (fun b => ⟨_, _, rfl⟩) (by decide) (by decide) kk
theorem k11_s12 {μ μ0 : q_M} {b : Nat} {Kn : List Value → q_M → Prop} {Kr : Option Value → q_M → Prop} (g12 : q_bld μ μ0 b 11 (F11_12 b) (C11_12 b) 498 116598) (kk : ∀ μ', q_bld μ' μ0 b 11 (F11_13 b) (C11_13 b) 493 115789 → Kn [.ref b] μ') : (q_spf Value.ref (fun _ => True) 11 14 (q_r 0) (q_nw 0 5 tyX0 0 4 804 fX0_init q_an)) [.ref b] μ Kn Kr :=
  q_st_nw (a := b) (ci := 11) (k := 14) (L2 := L0) g12 rfl rfl (fun K h => h) (q_mkca_of k0) (fun b => ⟨_, _, rfl⟩) (by decide) (by decide) kk
theorem k11_s13 {μ μ0 : q_M} {b : Nat} {Kn : List Value → q_M → Prop} {Kr : Option Value → q_M → Prop} (g13 : q_bld μ μ0 b 11 (F11_13 b) (C11_13 b) 493 115789) (kk : ∀ μ', q_bld μ' μ0 b 11 (F11_14 b) (C11_14 b) 485 113172 → Kn [.ref b] μ') : (q_spf Value.ref (fun _ => True) 11 15 (q_r 0) (q_nw 2 10 tyX2 0 7 2607 fX2_init q_an)) [.ref b] μ Kn Kr :=
  q_st_nw (a := b) (ci := 11) (k := 15) (L2 := L2) g13 rfl rfl (fun K h => h) (q_mkca_of k2) (fun b => ⟨_, _, rfl⟩) (by decide) (by decide) kk
theorem k11_s14 {μ μ0 : q_M} {b : Nat} {Kn : List Value → q_M → Prop} {Kr : Option Value → q_M → Prop} (g14 : q_bld μ μ0 b 11 (F11_14 b) (C11_14 b) 485 113172) (kk : ∀ μ', q_bld μ' μ0 b 11 (F11_15 b) (C11_15 b) 174 64774 → Kn [.ref b] μ') : (q_spf Value.ref (fun _ => True) 11 17 (q_r 0) (q_nw 10 18 tyX10 0 310 48380 fX10_init q_an)) [.ref b] μ Kn Kr :=
  q_st_nw (a := b) (ci := 11) (k := 17) (L2 := L10) g14 rfl rfl (fun K h => h) k10 (fun b => ⟨_, _, rfl⟩) (by decide) (by decide) kk
theorem k11_s15 {μ μ0 : q_M} {b : Nat} {Kn : List Value → q_M → Prop} {Kr : Option Value → q_M → Prop} (g15 : q_bld μ μ0 b 11 (F11_15 b) (C11_15 b) 174 64774) (kk : ∀ μ', q_bld μ' μ0 b 11 (F11_15 b) (C11_16 b) 146 63658 → Kn [.ref b] μ') : (q_blk 1 (q_sq (q_sdec Value.int 1 (q_k 0)) (q_wh (q_cm q_Rlt (q_l 1) (q_k 2)) (q_sq (q_sar "GrammarTools$Telling" 8 (q_fr 11 0 (q_r 0)) (q_l 1) (q_nw 8 14 tyX8 0 13 544 fX8_init q_an)) (q_sinc 1 1))))) [.ref b] μ Kn Kr :=
  q_st_ol (a := b) (ci := 11) (kf := 0) (j0 := 0) (w := 14) (N := 2) (C := "GrammarTools$Telling") (L2 := L8) g15 (fsn (by decide) (fsn (by decide) (fsn (by decide) (fsn (by decide) (fsn (by decide) (fsn (by decide) (fsn (by decide) (fsn (by decide) (fsn (by decide) (fsn (by decide) (fsn (by decide) (fsn (by decide) (fsn (by decide) (fsn (by decide) (fse lC11_0))))))))))))))) (gt_app (gt_app (gt_app (gt_app (gt_app (gt_app (gt_app (gt_app (gt_app (gt_app (gt_app (gt_app (gt_app (gt_app (gt_last lC11_0))))))))))))))) (by decide) (q_mkca_of k8) (fun b => ⟨_, _, rfl⟩) (fun b => rfl) (by decide) (by decide) kk
theorem k11_s16 {μ μ0 : q_M} {b : Nat} {Kn : List Value → q_M → Prop} {Kr : Option Value → q_M → Prop} (g16 : q_bld μ μ0 b 11 (F11_15 b) (C11_16 b) 146 63658) (kk : ∀ μ', q_bld μ' μ0 b 11 (F11_15 b) (C11_17 b) 26 45646 → Kn [.ref b] μ') : (q_blk 1 (q_sq (q_sdec Value.int 1 (q_k 0)) (q_wh (q_cm q_Rlt (q_l 1) (q_k 12)) (q_sq (q_sar "GrammarTools$Tree" 9 (q_fr 11 3 (q_r 0)) (q_l 1) (q_nw 9 14 tyX9 0 9 1487 fX9_init q_an)) (q_sinc 1 1))))) [.ref b] μ Kn Kr :=
  q_st_ol (a := b) (ci := 11) (kf := 3) (j0 := 3) (w := 10) (N := 12) (C := "GrammarTools$Tree") (L2 := L9) g16 (fsn (by decide) (fsn (by decide) (fsn (by decide) (fsn (by decide) (fsn (by decide) (fsn (by decide) (fsn (by decide) (fsn (by decide) (fsn (by decide) (fsn (by decide) (fsn (by decide) (fse lC11_3)))))))))))) (gt_set_ne (by decide) (gt_app (gt_app (gt_app (gt_app (gt_app (gt_app (gt_app (gt_app (gt_app (gt_app (gt_app (gt_app (gt_last lC11_3)))))))))))))) (by decide) (q_mkca_of k9) (fun b => ⟨_, _, rfl⟩) (fun b => rfl) (by decide) (by decide) kk
theorem k11_s17 {μ μ0 : q_M} {b : Nat} {Kn : List Value → q_M → Prop} {Kr : Option Value → q_M → Prop} (g17 : q_bld μ μ0 b 11 (F11_15 b) (C11_17 b) 26 45646) (kk : ∀ μ', q_bld μ' μ0 b 11 (F11_15 b) (C11_18 b) 18 45470 → Kn [.ref b] μ') : (q_blk 1 (q_sq (q_sdec Value.int 1 (q_k 0)) (q_wh (q_cm q_Rlt (q_l 1) (q_k 4)) (q_sq (q_sar "GrammarTools$Sheet" 7 (q_fr 11 9 (q_r 0)) (q_l 1) (q_nw 7 4 tyX7 0 1 40 fX7_init q_an)) (q_sinc 1 1))))) [.ref b] μ Kn Kr :=
  q_st_ol (a := b) (ci := 11) (kf := 9) (j0 := 18) (w := 2) (N := 4) (C := "GrammarTools$Sheet") (L2 := L7) g17 (fsn (by decide) (fsn (by decide) (fsn (by decide) (fsn (by decide) (fsn (by decide) (fse lC11_9)))))) (gt_set_ne (by decide) (gt_app (gt_set_ne (by decide) (gt_app (gt_app (gt_app (gt_app (gt_app (gt_app (gt_last lC11_9)))))))))) (by decide) (q_mkca_of k7) (fun b => ⟨_, _, rfl⟩) (fun b => rfl) (by decide) (by decide) kk
theorem k11_s18 {μ μ0 : q_M} {b : Nat} {Kn : List Value → q_M → Prop} {Kr : Option Value → q_M → Prop} (g18 : q_bld μ μ0 b 11 (F11_15 b) (C11_18 b) 18 45470) (kk : ∀ μ', q_bld μ' μ0 b 11 (F11_15 b) (C11_19 b) 18 45470 → Kn [.ref b] μ') : (q_sx (q_cs q_ov 2 0 0 fJ7_fill_53178 (q_ac Value.ref (q_fr 11 7 (q_r 0)) (q_ac Value.int (q_k (-1)) q_an)))) [.ref b] μ Kn Kr :=
  q_st_fill (a := b) (ci := 11) (k := 7) (j := 16) (n := 14) (f := fun _ => .int 0) (v := -1) g18 rfl (fsn (by decide) (fsn (by decide) (fsn (by decide) (fsn (by decide) (fsn (by decide) (fsn (by decide) (fsn (by decide) (fse lC11_7)))))))) (gt_set_ne (by decide) (gt_app (gt_set_ne (by decide) (gt_app (gt_set_ne (by decide) (gt_app (gt_app (gt_app (gt_app (gt_app (gt_app (gt_app (gt_app (gt_last lC11_7)))))))))))))) (by decide) kk
theorem k11_s19 {μ μ0 : q_M} {b : Nat} {Kn : List Value → q_M → Prop} {Kr : Option Value → q_M → Prop} (g19 : q_bld μ μ0 b 11 (F11_15 b) (C11_19 b) 18 45470) (kk : ∀ μ', q_bld μ' μ0 b 11 (F11_20 b) (C11_20 b) 11 1280 → Kn [.ref b] μ') : (q_spf Value.ref (fun _ => True) 11 10 (q_r 0) (q_nw 3 8 tyX3 1 6 44182 fX3_init (q_ac Value.ref (q_ar (q_fr 11 0 (q_r 0)) (q_k 0)) q_an))) [.ref b] μ Kn Kr :=
  q_st_nw (a := b) (ci := 11) (k := 10) (L2 := (fun z => L3 z (b + 1 + 369))) g19 rfl rfl (ev11_10 g19) (k3 (b + 1 + 369)) (fun b => ⟨_, _, rfl⟩) (by decide) (by decide) kk
theorem k11_s20 {μ μ0 : q_M} {b : Nat} {Kn : List Value → q_M → Prop} {Kr : Option Value → q_M → Prop} (g20 : q_bld μ μ0 b 11 (F11_20 b) (C11_20 b) 11 1280) (kk : ∀ μ', q_bld μ' μ0 b 11 (F11_21 b) (C11_21 b) 4 56 → Kn [.ref b] μ') : (q_spf Value.ref (fun _ => True) 11 12 (q_r 0) (q_nw 6 18 tyX6 1 6 1206 fX6_init (q_ac Value.ref (q_ar (q_fr 11 0 (q_r 0)) (q_k 0)) q_an))) [.ref b] μ Kn Kr :=
  q_st_nw (a := b) (ci := 11) (k := 12) (L2 := (fun z => L6 z (b + 1 + 369))) g20 rfl rfl (ev11_12 g20) (k6 (b + 1 + 369)) (fun b => ⟨_, _, rfl⟩) (by decide) (by decide) kk
theorem k11_s21 {μ μ0 : q_M} {b : Nat} {Kn : List Value → q_M → Prop} {Kr : Option Value → q_M → Prop} (g21 : q_bld μ μ0 b 11 (F11_21 b) (C11_21 b) 4 56) (kk : ∀ μ', q_bld μ' μ0 b 11 (F11_22 b) (C11_22 b) 0 0 → Kn [.ref b] μ') : (q_spf Value.ref (fun _ => True) 11 16 (q_r 0) (q_nw 5 8 tyX5 2 3 48 fX5_init (q_ac Value.ref (q_ar (q_fr 11 0 (q_r 0)) (q_k 0)) (q_ac Value.ref (q_ar (q_fr 11 3 (q_r 0)) (q_k 0)) q_an)))) [.ref b] μ Kn Kr :=
  q_st_nw (a := b) (ci := 11) (k := 16) (L2 := (fun z => L5 z (b + 1 + 369) (b + 1 + 397))) g21 rfl rfl (ev11_16 g21) (k5 (b + 1 + 369) (b + 1 + 397)) (fun b => ⟨_, _, rfl⟩) (by decide) (by decide) kk
set_option maxHeartbeats 16000000 in
set_option maxRecDepth 100000 in
theorem k11 : q_mkca fX11_init 11 tyX11 543 207092 [] (fun b => L11 b) := by
  intro μ b K h1 h2 h3 h4 h5 hk
  simp only [fX11_init, sX11_init_, q_mk, q_sq]
  refine ⟨by simp [Value.category], by simp, ?_⟩
  refine q_st_sp (a := b) rfl ?_
  have g0 : q_bld μ μ b 11 (F11_0 b) (C11_0 b) 543 207092 := q_bld0 h1 h2 h3 h4 h5
  refine k11_s0 g0 fun μ1 g1 => ?_
  refine k11_s1 g1 fun μ2 g2 => ?_
  refine k11_s2 g2 fun μ3 g3 => ?_
  refine k11_s3 g3 fun μ4 g4 => ?_
  refine k11_s4 g4 fun μ5 g5 => ?_
  refine k11_s5 g5 fun μ6 g6 => ?_
  refine k11_s6 g6 fun μ7 g7 => ?_
  refine k11_s7 g7 fun μ8 g8 => ?_
  refine k11_s8 g8 fun μ9 g9 => ?_
  refine k11_s9 g9 fun μ10 g10 => ?_
  refine k11_s10 g10 fun μ11 g11 => ?_
  refine k11_s11 g11 fun μ12 g12 => ?_
  refine k11_s12 g12 fun μ13 g13 => ?_
  refine k11_s13 g13 fun μ14 g14 => ?_
  refine k11_s14 g14 fun μ15 g15 => ?_
  refine k11_s15 g15 fun μ16 g16 => ?_
  refine k11_s16 g16 fun μ17 g17 => ?_
  refine k11_s17 g17 fun μ18 g18 => ?_
  refine k11_s18 g18 fun μ19 g19 => ?_
  refine k11_s19 g19 fun μ20 g20 => ?_
  refine k11_s20 g20 fun μ21 g21 => ?_
  refine k11_s21 g21 fun μ22 g22 => ?_
  have g := q_bldE g22
  exact hk μ22 g.1 g.2.1 g.2.2
def C12_0 (b : Nat) : q_L := []
def F12_0 (b : Nat) : Nat → Value := q_df tyX12
def F12_1 (b : Nat) : Nat → Value := q_fset (F12_0 b) 0 (.ref (b + 1 + (C12_0 b).length))
def C12_1 (b : Nat) : q_L := C12_0 b ++ [(.inr (.inl (.int, 24)), fun _ => .int 0)]
def F12_2 (b : Nat) : Nat → Value := q_fset (F12_1 b) 1 (.ref (b + 1 + (C12_1 b).length))
def C12_2 (b : Nat) : q_L := C12_1 b ++ [(.inr (.inl (.int, 2)), fun _ => .int 0)]
def F12_3 (b : Nat) : Nat → Value := q_fset (F12_2 b) 2 (.ref (b + 1 + (C12_2 b).length))
def C12_3 (b : Nat) : q_L := C12_2 b ++ [(.inr (.inl (.int, 28)), fun _ => .int 0)]
def F12_4 (b : Nat) : Nat → Value := q_fset (F12_3 b) 3 (.ref (b + 1 + (C12_3 b).length))
def C12_4 (b : Nat) : q_L := C12_3 b ++ [(.inr (.inl (.int, 28)), fun _ => .int 0)]
def F12_5 (b : Nat) : Nat → Value := q_fset (F12_4 b) 4 (.ref (b + 1 + (C12_4 b).length))
def C12_5 (b : Nat) : q_L := C12_4 b ++ [(.inr (.inl (.int, 140)), fun _ => .int 0)]
def F12_6 (b : Nat) : Nat → Value := q_fset (F12_5 b) 5 (.ref (b + 1 + (C12_5 b).length))
def C12_6 (b : Nat) : q_L := C12_5 b ++ [(.inr (.inl (.int, 140)), fun _ => .int 0)]
def F12_7 (b : Nat) : Nat → Value := q_fset (F12_6 b) 6 (.ref (b + 1 + (C12_6 b).length))
def C12_7 (b : Nat) : q_L := C12_6 b ++ [(.inr (.inl (.int, 140)), fun _ => .int 0)]
def F12_8 (b : Nat) : Nat → Value := q_fset (F12_7 b) 7 (.ref (b + 1 + (C12_7 b).length))
def C12_8 (b : Nat) : q_L := C12_7 b ++ [(.inr (.inl (.boolean, 28)), fun _ => .int 0)]
def F12_9 (b : Nat) : Nat → Value := q_fset (F12_8 b) 8 (.ref (b + 1 + (C12_8 b).length))
def C12_9 (b : Nat) : q_L := C12_8 b ++ [(.inr (.inl (.int, 28)), fun _ => .int 0)]
def F12_10 (b : Nat) : Nat → Value := q_fset (F12_9 b) 9 (.ref (b + 1 + (C12_9 b).length))
def C12_10 (b : Nat) : q_L := C12_9 b ++ [(.inr (.inl (.int, 168)), fun _ => .int 0)]
def F12_11 (b : Nat) : Nat → Value := q_fset (F12_10 b) 10 (.ref (b + 1 + (C12_10 b).length))
def C12_11 (b : Nat) : q_L := C12_10 b ++ [(.inr (.inl (.int, 168)), fun _ => .int 0)]
def F12_12 (b : Nat) : Nat → Value := q_fset (F12_11 b) 11 (.ref (b + 1 + (C12_11 b).length))
def C12_12 (b : Nat) : q_L := C12_11 b ++ [(.inr (.inl (.int, 28)), fun _ => .int 0)]
def F12_13 (b : Nat) : Nat → Value := q_fset (F12_12 b) 12 (.ref (b + 1 + (C12_12 b).length))
def C12_13 (b : Nat) : q_L := C12_12 b ++ [(.inr (.inl (.int, 5)), fun _ => .int 0)]
def F12_14 (b : Nat) : Nat → Value := q_fset (F12_13 b) 13 (.ref (b + 1 + (C12_13 b).length))
def C12_14 (b : Nat) : q_L := C12_13 b ++ [(.inr (.inl (.int, 128)), fun _ => .int 0)]
def F12_15 (b : Nat) : Nat → Value := q_fset (F12_14 b) 14 (.ref (b + 1 + (C12_14 b).length))
def C12_15 (b : Nat) : q_L := C12_14 b ++ [(.inr (.inl (.int, 8)), fun _ => .int 0)]
def F12_16 (b : Nat) : Nat → Value := q_fset (F12_15 b) 15 (.ref (b + 1 + (C12_15 b).length))
def C12_16 (b : Nat) : q_L := C12_15 b ++ [(.inr (.inl (.int, 100)), fun _ => .int 0)]
def F12_17 (b : Nat) : Nat → Value := q_fset (F12_16 b) 16 (.ref (b + 1 + (C12_16 b).length))
def C12_17 (b : Nat) : q_L := C12_16 b ++ [(.inr (.inl (.int, 100)), fun _ => .int 0)]
def F12_18 (b : Nat) : Nat → Value := q_fset (F12_17 b) 17 (.ref (b + 1 + (C12_17 b).length))
def C12_18 (b : Nat) : q_L := C12_17 b ++ [(.inr (.inl (.int, 100)), fun _ => .int 0)]
def F12_19 (b : Nat) : Nat → Value := q_fset (F12_18 b) 18 (.ref (b + 1 + (C12_18 b).length))
def C12_19 (b : Nat) : q_L := C12_18 b ++ [(.inr (.inl (.int, 4000)), fun _ => .int 0)]
def F12_20 (b : Nat) : Nat → Value := q_fset (F12_19 b) 19 (.ref (b + 1 + (C12_19 b).length))
def C12_20 (b : Nat) : q_L := C12_19 b ++ [(.inr (.inl (.int, 4000)), fun _ => .int 0)]
def F12_21 (b : Nat) : Nat → Value := q_fset (F12_20 b) 20 (.ref (b + 1 + (C12_20 b).length))
def C12_21 (b : Nat) : q_L := C12_20 b ++ [(.inr (.inl (.int, 20000)), fun _ => .int 0)]
def F12_22 (b : Nat) : Nat → Value := q_fset (F12_21 b) 21 (.ref (b + 1 + (C12_21 b).length))
def C12_22 (b : Nat) : q_L := C12_21 b ++ [(.inr (.inl (.int, 4000)), fun _ => .int 0)]
def F12_23 (b : Nat) : Nat → Value := q_fset (F12_22 b) 24 (.ref (b + 1 + (C12_22 b).length))
def C12_23 (b : Nat) : q_L := C12_22 b ++ [(.inr (.inl (.int, 400)), fun _ => .int 0)]
def F12_24 (b : Nat) : Nat → Value := q_fset (F12_23 b) 25 (.ref (b + 1 + (C12_23 b).length))
def C12_24 (b : Nat) : q_L := C12_23 b ++ [(.inr (.inl (.int, 400)), fun _ => .int 0)]
def F12_25 (b : Nat) : Nat → Value := q_fset (F12_24 b) 26 (.ref (b + 1 + (C12_24 b).length))
def C12_25 (b : Nat) : q_L := C12_24 b ++ [(.inr (.inl (.int, 400)), fun _ => .int 0)]
def F12_26 (b : Nat) : Nat → Value := q_fset (F12_25 b) 27 (.ref (b + 1 + (C12_25 b).length))
def C12_26 (b : Nat) : q_L := C12_25 b ++ [(.inr (.inl (.int, 400)), fun _ => .int 0)]
def F12_27 (b : Nat) : Nat → Value := q_fset (F12_26 b) 28 (.ref (b + 1 + (C12_26 b).length))
def C12_27 (b : Nat) : q_L := C12_26 b ++ [(.inr (.inl (.int, 400)), fun _ => .int 0)]
def F12_28 (b : Nat) : Nat → Value := q_fset (F12_27 b) 29 (.ref (b + 1 + (C12_27 b).length))
def C12_28 (b : Nat) : q_L := C12_27 b ++ [(.inr (.inl (.int, 100)), fun _ => .int 0)]
def F12_29 (b : Nat) : Nat → Value := q_fset (F12_28 b) 30 (.ref (b + 1 + (C12_28 b).length))
def C12_29 (b : Nat) : q_L := C12_28 b ++ [(.inr (.inl (.int, 100)), fun _ => .int 0)]
def F12_30 (b : Nat) : Nat → Value := q_fset (F12_29 b) 36 (.ref (b + 1 + (C12_29 b).length))
def C12_30 (b : Nat) : q_L := C12_29 b ++ [(.inr (.inl (.int, 220)), fun _ => .int 0)]
def F12_31 (b : Nat) : Nat → Value := q_fset (F12_30 b) 37 (.ref (b + 1 + (C12_30 b).length))
def C12_31 (b : Nat) : q_L := C12_30 b ++ [(.inr (.inl (.int, 220)), fun _ => .int 0)]
def F12_32 (b : Nat) : Nat → Value := q_fset (F12_31 b) 38 (.ref (b + 1 + (C12_31 b).length))
def C12_32 (b : Nat) : q_L := C12_31 b ++ [(.inr (.inl (.int, 220)), fun _ => .int 0)]
def F12_33 (b : Nat) : Nat → Value := q_fset (F12_32 b) 40 (.ref (b + 1 + (C12_32 b).length))
def C12_33 (b : Nat) : q_L := C12_32 b ++ [(.inr (.inl (.int, 220)), fun _ => .int 0)]
def F12_34 (b : Nat) : Nat → Value := q_fset (F12_33 b) 41 (.ref (b + 1 + (C12_33 b).length))
def C12_34 (b : Nat) : q_L := C12_33 b ++ [(.inr (.inl (.int, 220)), fun _ => .int 0)]
def F12_35 (b : Nat) : Nat → Value := q_fset (F12_34 b) 42 (.ref (b + 1 + (C12_34 b).length))
def C12_35 (b : Nat) : q_L := C12_34 b ++ [(.inr (.inl (.int, 220)), fun _ => .int 0)]
def F12_36 (b : Nat) : Nat → Value := q_fset (F12_35 b) 43 (.ref (b + 1 + (C12_35 b).length))
def C12_36 (b : Nat) : q_L := C12_35 b ++ [(.inr (.inl (.int, 41)), fun _ => .int 0)]
def F12_37 (b : Nat) : Nat → Value := q_fset (F12_36 b) 44 (.ref (b + 1 + (C12_36 b).length))
def C12_37 (b : Nat) : q_L := C12_36 b ++ [(.inr (.inl (.int, 41)), fun _ => .int 0)]
def F12_38 (b : Nat) : Nat → Value := q_fset (F12_37 b) 45 (.ref (b + 1 + (C12_37 b).length))
def C12_38 (b : Nat) : q_L := C12_37 b ++ [(.inr (.inl (.int, 41)), fun _ => .int 0)]
def F12_39 (b : Nat) : Nat → Value := q_fset (F12_38 b) 46 (.ref (b + 1 + (C12_38 b).length))
def C12_39 (b : Nat) : q_L := C12_38 b ++ [(.inr (.inl (.int, 16)), fun _ => .int 0)]
def F12_40 (b : Nat) : Nat → Value := q_fset (F12_39 b) 48 (.ref (b + 1 + (C12_39 b).length))
def C12_40 (b : Nat) : q_L := C12_39 b ++ [(.inr (.inl (.int, 1734)), fun _ => .int 0)]
def F12_41 (b : Nat) : Nat → Value := q_fset (F12_40 b) 49 (.ref (b + 1 + (C12_40 b).length))
def C12_41 (b : Nat) : q_L := C12_40 b ++ [(.inr (.inl (.int, 102)), fun _ => .int 0)]
def F12_42 (b : Nat) : Nat → Value := q_fset (F12_41 b) 51 (.ref (b + 1 + (C12_41 b).length))
def C12_42 (b : Nat) : q_L := C12_41 b ++ [(.inr (.inl (.int, 220)), fun _ => .int 0)]
def F12_43 (b : Nat) : Nat → Value := q_fset (F12_42 b) 52 (.ref (b + 1 + (C12_42 b).length))
def C12_43 (b : Nat) : q_L := C12_42 b ++ [(.inr (.inl (.int, 220)), fun _ => .int 0)]
def F12_44 (b : Nat) : Nat → Value := q_fset (F12_43 b) 53 (.ref (b + 1 + (C12_43 b).length))
def C12_44 (b : Nat) : q_L := C12_43 b ++ [(.inr (.inl (.int, 220)), fun _ => .int 0)]
def F12_45 (b : Nat) : Nat → Value := q_fset (F12_44 b) 54 (.ref (b + 1 + (C12_44 b).length))
def C12_45 (b : Nat) : q_L := C12_44 b ++ [(.inr (.inl (.int, 220)), fun _ => .int 0)]
def F12_46 (b : Nat) : Nat → Value := q_fset (F12_45 b) 55 (.ref (b + 1 + (C12_45 b).length))
def C12_46 (b : Nat) : q_L := C12_45 b ++ [(.inr (.inl (.int, 220)), fun _ => .int 0)]
def F12_47 (b : Nat) : Nat → Value := q_fset (F12_46 b) 56 (.ref (b + 1 + (C12_46 b).length))
def C12_47 (b : Nat) : q_L := C12_46 b ++ [(.inr (.inl (.int, 30)), fun _ => .int 0)]
def F12_48 (b : Nat) : Nat → Value := q_fset (F12_47 b) 57 (.ref (b + 1 + (C12_47 b).length))
def C12_48 (b : Nat) : q_L := C12_47 b ++ [(.inr (.inl (.int, 3030)), fun _ => .int 0)]
def F12_49 (b : Nat) : Nat → Value := q_fset (F12_48 b) 59 (.ref (b + 1 + (C12_48 b).length))
def C12_49 (b : Nat) : q_L := C12_48 b ++ [(.inr (.inl (.int, 5)), fun _ => .int 0)]
def F12_50 (b : Nat) : Nat → Value := q_fset (F12_49 b) 60 (.ref (b + 1 + (C12_49 b).length))
def C12_50 (b : Nat) : q_L := C12_49 b ++ [(.inr (.inl (.int, 1734)), fun _ => .int 0)]
def F12_51 (b : Nat) : Nat → Value := q_fset (F12_50 b) 61 (.ref (b + 1 + (C12_50 b).length))
def C12_51 (b : Nat) : q_L := C12_50 b ++ [(.inr (.inl (.int, 102)), fun _ => .int 0)]
def F12_52 (b : Nat) : Nat → Value := q_fset (F12_51 b) 62 (.ref (b + 1 + (C12_51 b).length))
def C12_52 (b : Nat) : q_L := C12_51 b ++ [(.inr (.inl (.boolean, 40)), fun _ => .int 0)]
def F12_53 (b : Nat) : Nat → Value := q_fset (F12_52 b) 63 (.ref (b + 1 + (C12_52 b).length))
def C12_53 (b : Nat) : q_L := C12_52 b ++ [(.inr (.inl (.int, 40)), fun _ => .int 0)]
def F12_54 (b : Nat) : Nat → Value := q_fset (F12_53 b) 64 (.ref (b + 1 + (C12_53 b).length))
def C12_54 (b : Nat) : q_L := C12_53 b ++ [(.inr (.inl (.int, 220)), fun _ => .int 0)]
def F12_55 (b : Nat) : Nat → Value := q_fset (F12_54 b) 65 (.ref (b + 1 + (C12_54 b).length))
def C12_55 (b : Nat) : q_L := C12_54 b ++ [(.inr (.inl (.int, 220)), fun _ => .int 0)]
def F12_56 (b : Nat) : Nat → Value := q_fset (F12_55 b) 70 (.ref (b + 1 + (C12_55 b).length))
def C12_56 (b : Nat) : q_L := C12_55 b ++ [(.inr (.inl (.int, 8)), fun _ => .int 0)]
def F12_57 (b : Nat) : Nat → Value := q_fset (F12_56 b) 71 (.ref (b + 1 + (C12_56 b).length))
def C12_57 (b : Nat) : q_L := C12_56 b ++ [(.inr (.inl (.int, 420)), fun _ => .int 0)]
def F12_58 (b : Nat) : Nat → Value := q_fset (F12_57 b) 72 (.ref (b + 1 + (C12_57 b).length))
def C12_58 (b : Nat) : q_L := C12_57 b ++ [(.inr (.inl (.int, 420)), fun _ => .int 0)]
def F12_59 (b : Nat) : Nat → Value := q_fset (F12_58 b) 73 (.ref (b + 1 + (C12_58 b).length))
def C12_59 (b : Nat) : q_L := C12_58 b ++ [(.inr (.inl (.int, 2)), fun _ => .int 0)]
def F12_60 (b : Nat) : Nat → Value := q_fset (F12_59 b) 74 (.ref (b + 1 + (C12_59 b).length))
def C12_60 (b : Nat) : q_L := C12_59 b ++ [(.inr (.inl (.int, 41)), fun _ => .int 0)]
def F12_61 (b : Nat) : Nat → Value := q_fset (F12_60 b) 75 (.ref (b + 1 + (C12_60 b).length))
def C12_61 (b : Nat) : q_L := C12_60 b ++ [(.inr (.inl (.int, 44100)), fun _ => .int 0)]
def F12_62 (b : Nat) : Nat → Value := q_fset (F12_61 b) 76 (.ref (b + 1 + (C12_61 b).length))
def C12_62 (b : Nat) : q_L := C12_61 b ++ [(.inr (.inl (.int, 44521)), fun _ => .int 0)]
def F12_63 (b : Nat) : Nat → Value := q_fset (F12_62 b) 78 (.ref (b + 1 + (C12_62 b).length))
def C12_63 (b : Nat) : q_L := C12_62 b ++ [(.inr (.inl (.int, 220)), fun _ => .int 0)]
def F12_64 (b : Nat) : Nat → Value := q_fset (F12_63 b) 79 (.ref (b + 1 + (C12_63 b).length))
def C12_64 (b : Nat) : q_L := C12_63 b ++ [(.inr (.inl (.int, 220)), fun _ => .int 0)]
def F12_65 (b : Nat) : Nat → Value := q_fset (F12_64 b) 80 (.ref (b + 1 + (C12_64 b).length))
def C12_65 (b : Nat) : q_L := C12_64 b ++ [(.inr (.inl (.int, 220)), fun _ => .int 0)]
def F12_66 (b : Nat) : Nat → Value := q_fset (F12_65 b) 81 (.ref (b + 1 + (C12_65 b).length))
def C12_66 (b : Nat) : q_L := C12_65 b ++ [(.inr (.inl (.int, 220)), fun _ => .int 0)]
def F12_67 (b : Nat) : Nat → Value := q_fset (F12_66 b) 82 (.ref (b + 1 + (C12_66 b).length))
def C12_67 (b : Nat) : q_L := C12_66 b ++ [(.inr (.inl (.int, 220)), fun _ => .int 0)]
def F12_68 (b : Nat) : Nat → Value := q_fset (F12_67 b) 83 (.ref (b + 1 + (C12_67 b).length))
def C12_68 (b : Nat) : q_L := C12_67 b ++ [(.inr (.inl (.int, 220)), fun _ => .int 0)]
def F12_69 (b : Nat) : Nat → Value := q_fset (F12_68 b) 85 (.ref (b + 1 + (C12_68 b).length))
def C12_69 (b : Nat) : q_L := C12_68 b ++ [(.inr (.inl (.int, 420)), fun _ => .int 0)]
def F12_70 (b : Nat) : Nat → Value := q_fset (F12_69 b) 86 (.ref (b + 1 + (C12_69 b).length))
def C12_70 (b : Nat) : q_L := C12_69 b ++ [(.inr (.inl (.int, 420)), fun _ => .int 0)]
def F12_71 (b : Nat) : Nat → Value := q_fset (F12_70 b) 87 (.ref (b + 1 + (C12_70 b).length))
def C12_71 (b : Nat) : q_L := C12_70 b ++ [(.inr (.inl (.int, 420)), fun _ => .int 0)]
def F12_72 (b : Nat) : Nat → Value := q_fset (F12_71 b) 88 (.ref (b + 1 + (C12_71 b).length))
def C12_72 (b : Nat) : q_L := C12_71 b ++ [(.inr (.inl (.int, 420)), fun _ => .int 0)]
def F12_73 (b : Nat) : Nat → Value := q_fset (F12_72 b) 89 (.ref (b + 1 + (C12_72 b).length))
def C12_73 (b : Nat) : q_L := C12_72 b ++ [(.inr (.inl (.boolean, 420)), fun _ => .int 0)]
def F12_74 (b : Nat) : Nat → Value := q_fset (F12_73 b) 90 (.ref (b + 1 + (C12_73 b).length))
def C12_74 (b : Nat) : q_L := C12_73 b ++ [(.inr (.inl (.int, 220)), fun _ => .int 0)]
def F12_75 (b : Nat) : Nat → Value := q_fset (F12_74 b) 91 (.ref (b + 1 + (C12_74 b).length))
def C12_75 (b : Nat) : q_L := C12_74 b ++ [(.inr (.inl (.int, 220)), fun _ => .int 0)]
def F12_76 (b : Nat) : Nat → Value := q_fset (F12_75 b) 92 (.ref (b + 1 + (C12_75 b).length))
def C12_76 (b : Nat) : q_L := C12_75 b ++ [(.inr (.inl (.int, 64)), fun _ => .int 0)]
def F12_77 (b : Nat) : Nat → Value := q_fset (F12_76 b) 95 (.ref (b + 1 + (C12_76 b).length))
def C12_77 (b : Nat) : q_L := C12_76 b ++ [(.inr (.inl (.int, 41)), fun _ => .int 0)]
def F12_78 (b : Nat) : Nat → Value := q_fset (F12_77 b) 96 (.ref (b + 1 + (C12_77 b).length))
def C12_78 (b : Nat) : q_L := C12_77 b ++ [(.inr (.inl (.int, 41)), fun _ => .int 0)]
def F12_79 (b : Nat) : Nat → Value := q_fset (F12_78 b) 97 (.ref (b + 1 + (C12_78 b).length))
def C12_79 (b : Nat) : q_L := C12_78 b ++ [(.inr (.inl (.int, 41)), fun _ => .int 0)]
def F12_80 (b : Nat) : Nat → Value := q_fset (F12_79 b) 99 (.ref (b + 1 + (C12_79 b).length))
def C12_80 (b : Nat) : q_L := C12_79 b ++ [(.inr (.inl (.int, 41)), fun _ => .int 0)]
def F12_81 (b : Nat) : Nat → Value := q_fset (F12_80 b) 100 (.ref (b + 1 + (C12_80 b).length))
def C12_81 (b : Nat) : q_L := C12_80 b ++ [(.inr (.inl (.int, 41)), fun _ => .int 0)]
def F12_82 (b : Nat) : Nat → Value := q_fset (F12_81 b) 104 (.ref (b + 1 + (C12_81 b).length))
def C12_82 (b : Nat) : q_L := C12_81 b ++ [(.inr (.inl (.int, 6)), fun _ => .int 0)]
def F12_83 (b : Nat) : Nat → Value := q_fset (F12_82 b) 105 (.ref (b + 1 + (C12_82 b).length))
def C12_83 (b : Nat) : q_L := C12_82 b ++ [(.inr (.inl (.int, 6)), fun _ => .int 0)]
def F12_84 (b : Nat) : Nat → Value := q_fset (F12_83 b) 106 (.ref (b + 1 + (C12_83 b).length))
def C12_84 (b : Nat) : q_L := C12_83 b ++ [(.inr (.inl (.boolean, 6)), fun _ => .int 0)]
def F12_85 (b : Nat) : Nat → Value := q_fset (F12_84 b) 108 (.ref (b + 1 + (C12_84 b).length))
def C12_85 (b : Nat) : q_L := C12_84 b ++ [(.inr (.inl (.int, 880)), fun _ => .int 0)]
def F12_86 (b : Nat) : Nat → Value := q_fset (F12_85 b) 109 (.ref (b + 1 + (C12_85 b).length))
def C12_86 (b : Nat) : q_L := C12_85 b ++ [(.inr (.inl (.int, 220)), fun _ => .int 0)]
def F12_87 (b : Nat) : Nat → Value := q_fset (F12_86 b) 110 (.ref (b + 1 + (C12_86 b).length))
def C12_87 (b : Nat) : q_L := C12_86 b ++ [(.inr (.inl (.int, 220)), fun _ => .int 0)]
def F12_88 (b : Nat) : Nat → Value := q_fset (F12_87 b) 112 (.ref (b + 1 + (C12_87 b).length))
def C12_88 (b : Nat) : q_L := C12_87 b ++ [(.inr (.inl (.int, 880)), fun _ => .int 0)]
def F12_89 (b : Nat) : Nat → Value := q_fset (F12_88 b) 113 (.ref (b + 1 + (C12_88 b).length))
def C12_89 (b : Nat) : q_L := C12_88 b ++ [(.inr (.inl (.int, 4)), fun _ => .int 0)]
def F12_90 (b : Nat) : Nat → Value := q_fset (F12_89 b) 115 (.ref (b + 1 + (C12_89 b).length))
def C12_90 (b : Nat) : q_L := C12_89 b ++ [(.inr (.inl (.int, 220)), fun _ => .int 0)]
def F12_91 (b : Nat) : Nat → Value := q_fset (F12_90 b) 116 (.ref (b + 1 + (C12_90 b).length))
def C12_91 (b : Nat) : q_L := C12_90 b ++ [(.inr (.inl (.int, 220)), fun _ => .int 0)]
def F12_92 (b : Nat) : Nat → Value := q_fset (F12_91 b) 117 (.ref (b + 1 + (C12_91 b).length))
def C12_92 (b : Nat) : q_L := C12_91 b ++ [(.inr (.inl (.int, 60)), fun _ => .int 0)]
def F12_93 (b : Nat) : Nat → Value := q_fset (F12_92 b) 118 (.ref (b + 1 + (C12_92 b).length))
def C12_93 (b : Nat) : q_L := C12_92 b ++ [(.inr (.inl (.int, 14)), fun _ => .int 0)]
def F12_94 (b : Nat) : Nat → Value := q_fset (F12_93 b) 119 (.ref (b + 1 + (C12_93 b).length))
def C12_94 (b : Nat) : q_L := C12_93 b ++ [(.inr (.inl (.int, 70)), fun _ => .int 0)]
def F12_95 (b : Nat) : Nat → Value := q_fset (F12_94 b) 122 (.ref (b + 1 + (C12_94 b).length))
def C12_95 (b : Nat) : q_L := C12_94 b ++ [(.inr (.inl (.int, 4)), fun _ => .int 0)]
def F12_96 (b : Nat) : Nat → Value := q_fset (F12_95 b) 123 (.ref (b + 1 + (C12_95 b).length))
def C12_96 (b : Nat) : q_L := C12_95 b ++ [(.inr (.inl (.int, 4)), fun _ => .int 0)]
def F12_97 (b : Nat) : Nat → Value := q_fset (F12_96 b) 124 (.ref (b + 1 + (C12_96 b).length))
def C12_97 (b : Nat) : q_L := C12_96 b ++ [(.inr (.inl (.int, 160)), fun _ => .int 0)]
def F12_98 (b : Nat) : Nat → Value := q_fset (F12_97 b) 125 (.ref (b + 1 + (C12_97 b).length))
def C12_98 (b : Nat) : q_L := C12_97 b ++ [(.inr (.inl (.int, 40)), fun _ => .int 0)]
def C12_99 (b : Nat) : q_L := (C12_98 b).set 0 (.inr (.inl (.int, 24)), fun j => if j < 24 then .int (3) else .int 0)
def C12_100 (b : Nat) : q_L := (C12_99 b).set 15 (.inr (.inl (.int, 100)), fun j => if j < 100 then .int (-1) else .int 0)
def C12_101 (b : Nat) : q_L := (C12_100 b).set 81 (.inr (.inl (.int, 6)), fun j => if j < 6 then .int (-1) else .int 0)
def C12_102 (b : Nat) : q_L := (C12_101 b).set 94 (.inr (.inl (.int, 4)), fun j => if j < 4 then .int (-1) else .int 0)
def C12_103 (b : Nat) : q_L := (C12_102 b).set 92 (.inr (.inl (.int, 14)), fun j => if j < 14 then .int (-1) else .int 0)
def L12 (b : Nat) : q_L := (.inl 12, F12_98 b) :: C12_103 b
theorem lC12_0 {b : Nat} : (C12_0 b).length = 0 := by rfl
theorem lC12_1 {b : Nat} : (C12_1 b).length = 1 := by simp only [C12_1, lC12_0, List.length_append, List.length_cons, List.length_nil, List.length_replicate, List.length_set, q_rep_len (w := 10) (L2 := L9) (fun b => rfl), q_rep_len (w := 14) (L2 := L8) (fun b => rfl), q_rep_len (w := 2) (L2 := L7) (fun b => rfl), lL0, lL1, lL2, lL3, lL4, lL5, lL6, lL7, lL8, lL9, lL10, lL11]
theorem lC12_2 {b : Nat} : (C12_2 b).length = 2 := by simp only [C12_2, lC12_1, List.length_append, List.length_cons, List.length_nil, List.length_replicate, List.length_set, q_rep_len (w := 10) (L2 := L9) (fun b => rfl), q_rep_len (w := 14) (L2 := L8) (fun b => rfl), q_rep_len (w := 2) (L2 := L7) (fun b => rfl), lL0, lL1, lL2, lL3, lL4, lL5, lL6, lL7, lL8, lL9, lL10, lL11]
theorem lC12_3 {b : Nat} : (C12_3 b).length = 3 := by simp only [C12_3, lC12_2, List.length_append, List.length_cons, List.length_nil, List.length_replicate, List.length_set, q_rep_len (w := 10) (L2 := L9) (fun b => rfl), q_rep_len (w := 14) (L2 := L8) (fun b => rfl), q_rep_len (w := 2) (L2 := L7) (fun b => rfl), lL0, lL1, lL2, lL3, lL4, lL5, lL6, lL7, lL8, lL9, lL10, lL11]
theorem lC12_4 {b : Nat} : (C12_4 b).length = 4 := by simp only [C12_4, lC12_3, List.length_append, List.length_cons, List.length_nil, List.length_replicate, List.length_set, q_rep_len (w := 10) (L2 := L9) (fun b => rfl), q_rep_len (w := 14) (L2 := L8) (fun b => rfl), q_rep_len (w := 2) (L2 := L7) (fun b => rfl), lL0, lL1, lL2, lL3, lL4, lL5, lL6, lL7, lL8, lL9, lL10, lL11]
theorem lC12_5 {b : Nat} : (C12_5 b).length = 5 := by simp only [C12_5, lC12_4, List.length_append, List.length_cons, List.length_nil, List.length_replicate, List.length_set, q_rep_len (w := 10) (L2 := L9) (fun b => rfl), q_rep_len (w := 14) (L2 := L8) (fun b => rfl), q_rep_len (w := 2) (L2 := L7) (fun b => rfl), lL0, lL1, lL2, lL3, lL4, lL5, lL6, lL7, lL8, lL9, lL10, lL11]
theorem lC12_6 {b : Nat} : (C12_6 b).length = 6 := by simp only [C12_6, lC12_5, List.length_append, List.length_cons, List.length_nil, List.length_replicate, List.length_set, q_rep_len (w := 10) (L2 := L9) (fun b => rfl), q_rep_len (w := 14) (L2 := L8) (fun b => rfl), q_rep_len (w := 2) (L2 := L7) (fun b => rfl), lL0, lL1, lL2, lL3, lL4, lL5, lL6, lL7, lL8, lL9, lL10, lL11]
theorem lC12_7 {b : Nat} : (C12_7 b).length = 7 := by simp only [C12_7, lC12_6, List.length_append, List.length_cons, List.length_nil, List.length_replicate, List.length_set, q_rep_len (w := 10) (L2 := L9) (fun b => rfl), q_rep_len (w := 14) (L2 := L8) (fun b => rfl), q_rep_len (w := 2) (L2 := L7) (fun b => rfl), lL0, lL1, lL2, lL3, lL4, lL5, lL6, lL7, lL8, lL9, lL10, lL11]
theorem lC12_8 {b : Nat} : (C12_8 b).length = 8 := by simp only [C12_8, lC12_7, List.length_append, List.length_cons, List.length_nil, List.length_replicate, List.length_set, q_rep_len (w := 10) (L2 := L9) (fun b => rfl), q_rep_len (w := 14) (L2 := L8) (fun b => rfl), q_rep_len (w := 2) (L2 := L7) (fun b => rfl), lL0, lL1, lL2, lL3, lL4, lL5, lL6, lL7, lL8, lL9, lL10, lL11]
theorem lC12_9 {b : Nat} : (C12_9 b).length = 9 := by simp only [C12_9, lC12_8, List.length_append, List.length_cons, List.length_nil, List.length_replicate, List.length_set, q_rep_len (w := 10) (L2 := L9) (fun b => rfl), q_rep_len (w := 14) (L2 := L8) (fun b => rfl), q_rep_len (w := 2) (L2 := L7) (fun b => rfl), lL0, lL1, lL2, lL3, lL4, lL5, lL6, lL7, lL8, lL9, lL10, lL11]
theorem lC12_10 {b : Nat} : (C12_10 b).length = 10 := by simp only [C12_10, lC12_9, List.length_append, List.length_cons, List.length_nil, List.length_replicate, List.length_set, q_rep_len (w := 10) (L2 := L9) (fun b => rfl), q_rep_len (w := 14) (L2 := L8) (fun b => rfl), q_rep_len (w := 2) (L2 := L7) (fun b => rfl), lL0, lL1, lL2, lL3, lL4, lL5, lL6, lL7, lL8, lL9, lL10, lL11]
theorem lC12_11 {b : Nat} : (C12_11 b).length = 11 := by simp only [C12_11, lC12_10, List.length_append, List.length_cons, List.length_nil, List.length_replicate, List.length_set, q_rep_len (w := 10) (L2 := L9) (fun b => rfl), q_rep_len (w := 14) (L2 := L8) (fun b => rfl), q_rep_len (w := 2) (L2 := L7) (fun b => rfl), lL0, lL1, lL2, lL3, lL4, lL5, lL6, lL7, lL8, lL9, lL10, lL11]
theorem lC12_12 {b : Nat} : (C12_12 b).length = 12 := by simp only [C12_12, lC12_11, List.length_append, List.length_cons, List.length_nil, List.length_replicate, List.length_set, q_rep_len (w := 10) (L2 := L9) (fun b => rfl), q_rep_len (w := 14) (L2 := L8) (fun b => rfl), q_rep_len (w := 2) (L2 := L7) (fun b => rfl), lL0, lL1, lL2, lL3, lL4, lL5, lL6, lL7, lL8, lL9, lL10, lL11]
theorem lC12_13 {b : Nat} : (C12_13 b).length = 13 := by simp only [C12_13, lC12_12, List.length_append, List.length_cons, List.length_nil, List.length_replicate, List.length_set, q_rep_len (w := 10) (L2 := L9) (fun b => rfl), q_rep_len (w := 14) (L2 := L8) (fun b => rfl), q_rep_len (w := 2) (L2 := L7) (fun b => rfl), lL0, lL1, lL2, lL3, lL4, lL5, lL6, lL7, lL8, lL9, lL10, lL11]
theorem lC12_14 {b : Nat} : (C12_14 b).length = 14 := by simp only [C12_14, lC12_13, List.length_append, List.length_cons, List.length_nil, List.length_replicate, List.length_set, q_rep_len (w := 10) (L2 := L9) (fun b => rfl), q_rep_len (w := 14) (L2 := L8) (fun b => rfl), q_rep_len (w := 2) (L2 := L7) (fun b => rfl), lL0, lL1, lL2, lL3, lL4, lL5, lL6, lL7, lL8, lL9, lL10, lL11]
theorem lC12_15 {b : Nat} : (C12_15 b).length = 15 := by simp only [C12_15, lC12_14, List.length_append, List.length_cons, List.length_nil, List.length_replicate, List.length_set, q_rep_len (w := 10) (L2 := L9) (fun b => rfl), q_rep_len (w := 14) (L2 := L8) (fun b => rfl), q_rep_len (w := 2) (L2 := L7) (fun b => rfl), lL0, lL1, lL2, lL3, lL4, lL5, lL6, lL7, lL8, lL9, lL10, lL11]
theorem lC12_16 {b : Nat} : (C12_16 b).length = 16 := by simp only [C12_16, lC12_15, List.length_append, List.length_cons, List.length_nil, List.length_replicate, List.length_set, q_rep_len (w := 10) (L2 := L9) (fun b => rfl), q_rep_len (w := 14) (L2 := L8) (fun b => rfl), q_rep_len (w := 2) (L2 := L7) (fun b => rfl), lL0, lL1, lL2, lL3, lL4, lL5, lL6, lL7, lL8, lL9, lL10, lL11]
theorem lC12_17 {b : Nat} : (C12_17 b).length = 17 := by simp only [C12_17, lC12_16, List.length_append, List.length_cons, List.length_nil, List.length_replicate, List.length_set, q_rep_len (w := 10) (L2 := L9) (fun b => rfl), q_rep_len (w := 14) (L2 := L8) (fun b => rfl), q_rep_len (w := 2) (L2 := L7) (fun b => rfl), lL0, lL1, lL2, lL3, lL4, lL5, lL6, lL7, lL8, lL9, lL10, lL11]
theorem lC12_18 {b : Nat} : (C12_18 b).length = 18 := by simp only [C12_18, lC12_17, List.length_append, List.length_cons, List.length_nil, List.length_replicate, List.length_set, q_rep_len (w := 10) (L2 := L9) (fun b => rfl), q_rep_len (w := 14) (L2 := L8) (fun b => rfl), q_rep_len (w := 2) (L2 := L7) (fun b => rfl), lL0, lL1, lL2, lL3, lL4, lL5, lL6, lL7, lL8, lL9, lL10, lL11]
theorem lC12_19 {b : Nat} : (C12_19 b).length = 19 := by simp only [C12_19, lC12_18, List.length_append, List.length_cons, List.length_nil, List.length_replicate, List.length_set, q_rep_len (w := 10) (L2 := L9) (fun b => rfl), q_rep_len (w := 14) (L2 := L8) (fun b => rfl), q_rep_len (w := 2) (L2 := L7) (fun b => rfl), lL0, lL1, lL2, lL3, lL4, lL5, lL6, lL7, lL8, lL9, lL10, lL11]
theorem lC12_20 {b : Nat} : (C12_20 b).length = 20 := by simp only [C12_20, lC12_19, List.length_append, List.length_cons, List.length_nil, List.length_replicate, List.length_set, q_rep_len (w := 10) (L2 := L9) (fun b => rfl), q_rep_len (w := 14) (L2 := L8) (fun b => rfl), q_rep_len (w := 2) (L2 := L7) (fun b => rfl), lL0, lL1, lL2, lL3, lL4, lL5, lL6, lL7, lL8, lL9, lL10, lL11]
theorem lC12_21 {b : Nat} : (C12_21 b).length = 21 := by simp only [C12_21, lC12_20, List.length_append, List.length_cons, List.length_nil, List.length_replicate, List.length_set, q_rep_len (w := 10) (L2 := L9) (fun b => rfl), q_rep_len (w := 14) (L2 := L8) (fun b => rfl), q_rep_len (w := 2) (L2 := L7) (fun b => rfl), lL0, lL1, lL2, lL3, lL4, lL5, lL6, lL7, lL8, lL9, lL10, lL11]
theorem lC12_22 {b : Nat} : (C12_22 b).length = 22 := by simp only [C12_22, lC12_21, List.length_append, List.length_cons, List.length_nil, List.length_replicate, List.length_set, q_rep_len (w := 10) (L2 := L9) (fun b => rfl), q_rep_len (w := 14) (L2 := L8) (fun b => rfl), q_rep_len (w := 2) (L2 := L7) (fun b => rfl), lL0, lL1, lL2, lL3, lL4, lL5, lL6, lL7, lL8, lL9, lL10, lL11]
theorem lC12_23 {b : Nat} : (C12_23 b).length = 23 := by simp only [C12_23, lC12_22, List.length_append, List.length_cons, List.length_nil, List.length_replicate, List.length_set, q_rep_len (w := 10) (L2 := L9) (fun b => rfl), q_rep_len (w := 14) (L2 := L8) (fun b => rfl), q_rep_len (w := 2) (L2 := L7) (fun b => rfl), lL0, lL1, lL2, lL3, lL4, lL5, lL6, lL7, lL8, lL9, lL10, lL11]
theorem lC12_24 {b : Nat} : (C12_24 b).length = 24 := by simp only [C12_24, lC12_23, List.length_append, List.length_cons, List.length_nil, List.length_replicate, List.length_set, q_rep_len (w := 10) (L2 := L9) (fun b => rfl), q_rep_len (w := 14) (L2 := L8) (fun b => rfl), q_rep_len (w := 2) (L2 := L7) (fun b => rfl), lL0, lL1, lL2, lL3, lL4, lL5, lL6, lL7, lL8, lL9, lL10, lL11]
theorem lC12_25 {b : Nat} : (C12_25 b).length = 25 := by simp only [C12_25, lC12_24, List.length_append, List.length_cons, List.length_nil, List.length_replicate, List.length_set, q_rep_len (w := 10) (L2 := L9) (fun b => rfl), q_rep_len (w := 14) (L2 := L8) (fun b => rfl), q_rep_len (w := 2) (L2 := L7) (fun b => rfl), lL0, lL1, lL2, lL3, lL4, lL5, lL6, lL7, lL8, lL9, lL10, lL11]
theorem lC12_26 {b : Nat} : (C12_26 b).length = 26 := by simp only [C12_26, lC12_25, List.length_append, List.length_cons, List.length_nil, List.length_replicate, List.length_set, q_rep_len (w := 10) (L2 := L9) (fun b => rfl), q_rep_len (w := 14) (L2 := L8) (fun b => rfl), q_rep_len (w := 2) (L2 := L7) (fun b => rfl), lL0, lL1, lL2, lL3, lL4, lL5, lL6, lL7, lL8, lL9, lL10, lL11]
theorem lC12_27 {b : Nat} : (C12_27 b).length = 27 := by simp only [C12_27, lC12_26, List.length_append, List.length_cons, List.length_nil, List.length_replicate, List.length_set, q_rep_len (w := 10) (L2 := L9) (fun b => rfl), q_rep_len (w := 14) (L2 := L8) (fun b => rfl), q_rep_len (w := 2) (L2 := L7) (fun b => rfl), lL0, lL1, lL2, lL3, lL4, lL5, lL6, lL7, lL8, lL9, lL10, lL11]
theorem lC12_28 {b : Nat} : (C12_28 b).length = 28 := by simp only [C12_28, lC12_27, List.length_append, List.length_cons, List.length_nil, List.length_replicate, List.length_set, q_rep_len (w := 10) (L2 := L9) (fun b => rfl), q_rep_len (w := 14) (L2 := L8) (fun b => rfl), q_rep_len (w := 2) (L2 := L7) (fun b => rfl), lL0, lL1, lL2, lL3, lL4, lL5, lL6, lL7, lL8, lL9, lL10, lL11]
theorem lC12_29 {b : Nat} : (C12_29 b).length = 29 := by simp only [C12_29, lC12_28, List.length_append, List.length_cons, List.length_nil, List.length_replicate, List.length_set, q_rep_len (w := 10) (L2 := L9) (fun b => rfl), q_rep_len (w := 14) (L2 := L8) (fun b => rfl), q_rep_len (w := 2) (L2 := L7) (fun b => rfl), lL0, lL1, lL2, lL3, lL4, lL5, lL6, lL7, lL8, lL9, lL10, lL11]
theorem lC12_30 {b : Nat} : (C12_30 b).length = 30 := by simp only [C12_30, lC12_29, List.length_append, List.length_cons, List.length_nil, List.length_replicate, List.length_set, q_rep_len (w := 10) (L2 := L9) (fun b => rfl), q_rep_len (w := 14) (L2 := L8) (fun b => rfl), q_rep_len (w := 2) (L2 := L7) (fun b => rfl), lL0, lL1, lL2, lL3, lL4, lL5, lL6, lL7, lL8, lL9, lL10, lL11]
theorem lC12_31 {b : Nat} : (C12_31 b).length = 31 := by simp only [C12_31, lC12_30, List.length_append, List.length_cons, List.length_nil, List.length_replicate, List.length_set, q_rep_len (w := 10) (L2 := L9) (fun b => rfl), q_rep_len (w := 14) (L2 := L8) (fun b => rfl), q_rep_len (w := 2) (L2 := L7) (fun b => rfl), lL0, lL1, lL2, lL3, lL4, lL5, lL6, lL7, lL8, lL9, lL10, lL11]
theorem lC12_32 {b : Nat} : (C12_32 b).length = 32 := by simp only [C12_32, lC12_31, List.length_append, List.length_cons, List.length_nil, List.length_replicate, List.length_set, q_rep_len (w := 10) (L2 := L9) (fun b => rfl), q_rep_len (w := 14) (L2 := L8) (fun b => rfl), q_rep_len (w := 2) (L2 := L7) (fun b => rfl), lL0, lL1, lL2, lL3, lL4, lL5, lL6, lL7, lL8, lL9, lL10, lL11]
theorem lC12_33 {b : Nat} : (C12_33 b).length = 33 := by simp only [C12_33, lC12_32, List.length_append, List.length_cons, List.length_nil, List.length_replicate, List.length_set, q_rep_len (w := 10) (L2 := L9) (fun b => rfl), q_rep_len (w := 14) (L2 := L8) (fun b => rfl), q_rep_len (w := 2) (L2 := L7) (fun b => rfl), lL0, lL1, lL2, lL3, lL4, lL5, lL6, lL7, lL8, lL9, lL10, lL11]
theorem lC12_34 {b : Nat} : (C12_34 b).length = 34 := by simp only [C12_34, lC12_33, List.length_append, List.length_cons, List.length_nil, List.length_replicate, List.length_set, q_rep_len (w := 10) (L2 := L9) (fun b => rfl), q_rep_len (w := 14) (L2 := L8) (fun b => rfl), q_rep_len (w := 2) (L2 := L7) (fun b => rfl), lL0, lL1, lL2, lL3, lL4, lL5, lL6, lL7, lL8, lL9, lL10, lL11]
theorem lC12_35 {b : Nat} : (C12_35 b).length = 35 := by simp only [C12_35, lC12_34, List.length_append, List.length_cons, List.length_nil, List.length_replicate, List.length_set, q_rep_len (w := 10) (L2 := L9) (fun b => rfl), q_rep_len (w := 14) (L2 := L8) (fun b => rfl), q_rep_len (w := 2) (L2 := L7) (fun b => rfl), lL0, lL1, lL2, lL3, lL4, lL5, lL6, lL7, lL8, lL9, lL10, lL11]
theorem lC12_36 {b : Nat} : (C12_36 b).length = 36 := by simp only [C12_36, lC12_35, List.length_append, List.length_cons, List.length_nil, List.length_replicate, List.length_set, q_rep_len (w := 10) (L2 := L9) (fun b => rfl), q_rep_len (w := 14) (L2 := L8) (fun b => rfl), q_rep_len (w := 2) (L2 := L7) (fun b => rfl), lL0, lL1, lL2, lL3, lL4, lL5, lL6, lL7, lL8, lL9, lL10, lL11]
theorem lC12_37 {b : Nat} : (C12_37 b).length = 37 := by simp only [C12_37, lC12_36, List.length_append, List.length_cons, List.length_nil, List.length_replicate, List.length_set, q_rep_len (w := 10) (L2 := L9) (fun b => rfl), q_rep_len (w := 14) (L2 := L8) (fun b => rfl), q_rep_len (w := 2) (L2 := L7) (fun b => rfl), lL0, lL1, lL2, lL3, lL4, lL5, lL6, lL7, lL8, lL9, lL10, lL11]
theorem lC12_38 {b : Nat} : (C12_38 b).length = 38 := by simp only [C12_38, lC12_37, List.length_append, List.length_cons, List.length_nil, List.length_replicate, List.length_set, q_rep_len (w := 10) (L2 := L9) (fun b => rfl), q_rep_len (w := 14) (L2 := L8) (fun b => rfl), q_rep_len (w := 2) (L2 := L7) (fun b => rfl), lL0, lL1, lL2, lL3, lL4, lL5, lL6, lL7, lL8, lL9, lL10, lL11]
theorem lC12_39 {b : Nat} : (C12_39 b).length = 39 := by simp only [C12_39, lC12_38, List.length_append, List.length_cons, List.length_nil, List.length_replicate, List.length_set, q_rep_len (w := 10) (L2 := L9) (fun b => rfl), q_rep_len (w := 14) (L2 := L8) (fun b => rfl), q_rep_len (w := 2) (L2 := L7) (fun b => rfl), lL0, lL1, lL2, lL3, lL4, lL5, lL6, lL7, lL8, lL9, lL10, lL11]
theorem lC12_40 {b : Nat} : (C12_40 b).length = 40 := by simp only [C12_40, lC12_39, List.length_append, List.length_cons, List.length_nil, List.length_replicate, List.length_set, q_rep_len (w := 10) (L2 := L9) (fun b => rfl), q_rep_len (w := 14) (L2 := L8) (fun b => rfl), q_rep_len (w := 2) (L2 := L7) (fun b => rfl), lL0, lL1, lL2, lL3, lL4, lL5, lL6, lL7, lL8, lL9, lL10, lL11]
theorem lC12_41 {b : Nat} : (C12_41 b).length = 41 := by simp only [C12_41, lC12_40, List.length_append, List.length_cons, List.length_nil, List.length_replicate, List.length_set, q_rep_len (w := 10) (L2 := L9) (fun b => rfl), q_rep_len (w := 14) (L2 := L8) (fun b => rfl), q_rep_len (w := 2) (L2 := L7) (fun b => rfl), lL0, lL1, lL2, lL3, lL4, lL5, lL6, lL7, lL8, lL9, lL10, lL11]
theorem lC12_42 {b : Nat} : (C12_42 b).length = 42 := by simp only [C12_42, lC12_41, List.length_append, List.length_cons, List.length_nil, List.length_replicate, List.length_set, q_rep_len (w := 10) (L2 := L9) (fun b => rfl), q_rep_len (w := 14) (L2 := L8) (fun b => rfl), q_rep_len (w := 2) (L2 := L7) (fun b => rfl), lL0, lL1, lL2, lL3, lL4, lL5, lL6, lL7, lL8, lL9, lL10, lL11]
theorem lC12_43 {b : Nat} : (C12_43 b).length = 43 := by simp only [C12_43, lC12_42, List.length_append, List.length_cons, List.length_nil, List.length_replicate, List.length_set, q_rep_len (w := 10) (L2 := L9) (fun b => rfl), q_rep_len (w := 14) (L2 := L8) (fun b => rfl), q_rep_len (w := 2) (L2 := L7) (fun b => rfl), lL0, lL1, lL2, lL3, lL4, lL5, lL6, lL7, lL8, lL9, lL10, lL11]
theorem lC12_44 {b : Nat} : (C12_44 b).length = 44 := by simp only [C12_44, lC12_43, List.length_append, List.length_cons, List.length_nil, List.length_replicate, List.length_set, q_rep_len (w := 10) (L2 := L9) (fun b => rfl), q_rep_len (w := 14) (L2 := L8) (fun b => rfl), q_rep_len (w := 2) (L2 := L7) (fun b => rfl), lL0, lL1, lL2, lL3, lL4, lL5, lL6, lL7, lL8, lL9, lL10, lL11]
theorem lC12_45 {b : Nat} : (C12_45 b).length = 45 := by simp only [C12_45, lC12_44, List.length_append, List.length_cons, List.length_nil, List.length_replicate, List.length_set, q_rep_len (w := 10) (L2 := L9) (fun b => rfl), q_rep_len (w := 14) (L2 := L8) (fun b => rfl), q_rep_len (w := 2) (L2 := L7) (fun b => rfl), lL0, lL1, lL2, lL3, lL4, lL5, lL6, lL7, lL8, lL9, lL10, lL11]
theorem lC12_46 {b : Nat} : (C12_46 b).length = 46 := by simp only [C12_46, lC12_45, List.length_append, List.length_cons, List.length_nil, List.length_replicate, List.length_set, q_rep_len (w := 10) (L2 := L9) (fun b => rfl), q_rep_len (w := 14) (L2 := L8) (fun b => rfl), q_rep_len (w := 2) (L2 := L7) (fun b => rfl), lL0, lL1, lL2, lL3, lL4, lL5, lL6, lL7, lL8, lL9, lL10, lL11]
theorem lC12_47 {b : Nat} : (C12_47 b).length = 47 := by simp only [C12_47, lC12_46, List.length_append, List.length_cons, List.length_nil, List.length_replicate, List.length_set, q_rep_len (w := 10) (L2 := L9) (fun b => rfl), q_rep_len (w := 14) (L2 := L8) (fun b => rfl), q_rep_len (w := 2) (L2 := L7) (fun b => rfl), lL0, lL1, lL2, lL3, lL4, lL5, lL6, lL7, lL8, lL9, lL10, lL11]
theorem lC12_48 {b : Nat} : (C12_48 b).length = 48 := by simp only [C12_48, lC12_47, List.length_append, List.length_cons, List.length_nil, List.length_replicate, List.length_set, q_rep_len (w := 10) (L2 := L9) (fun b => rfl), q_rep_len (w := 14) (L2 := L8) (fun b => rfl), q_rep_len (w := 2) (L2 := L7) (fun b => rfl), lL0, lL1, lL2, lL3, lL4, lL5, lL6, lL7, lL8, lL9, lL10, lL11]
theorem lC12_49 {b : Nat} : (C12_49 b).length = 49 := by simp only [C12_49, lC12_48, List.length_append, List.length_cons, List.length_nil, List.length_replicate, List.length_set, q_rep_len (w := 10) (L2 := L9) (fun b => rfl), q_rep_len (w := 14) (L2 := L8) (fun b => rfl), q_rep_len (w := 2) (L2 := L7) (fun b => rfl), lL0, lL1, lL2, lL3, lL4, lL5, lL6, lL7, lL8, lL9, lL10, lL11]
theorem lC12_50 {b : Nat} : (C12_50 b).length = 50 := by simp only [C12_50, lC12_49, List.length_append, List.length_cons, List.length_nil, List.length_replicate, List.length_set, q_rep_len (w := 10) (L2 := L9) (fun b => rfl), q_rep_len (w := 14) (L2 := L8) (fun b => rfl), q_rep_len (w := 2) (L2 := L7) (fun b => rfl), lL0, lL1, lL2, lL3, lL4, lL5, lL6, lL7, lL8, lL9, lL10, lL11]
theorem lC12_51 {b : Nat} : (C12_51 b).length = 51 := by simp only [C12_51, lC12_50, List.length_append, List.length_cons, List.length_nil, List.length_replicate, List.length_set, q_rep_len (w := 10) (L2 := L9) (fun b => rfl), q_rep_len (w := 14) (L2 := L8) (fun b => rfl), q_rep_len (w := 2) (L2 := L7) (fun b => rfl), lL0, lL1, lL2, lL3, lL4, lL5, lL6, lL7, lL8, lL9, lL10, lL11]
theorem lC12_52 {b : Nat} : (C12_52 b).length = 52 := by simp only [C12_52, lC12_51, List.length_append, List.length_cons, List.length_nil, List.length_replicate, List.length_set, q_rep_len (w := 10) (L2 := L9) (fun b => rfl), q_rep_len (w := 14) (L2 := L8) (fun b => rfl), q_rep_len (w := 2) (L2 := L7) (fun b => rfl), lL0, lL1, lL2, lL3, lL4, lL5, lL6, lL7, lL8, lL9, lL10, lL11]
theorem lC12_53 {b : Nat} : (C12_53 b).length = 53 := by simp only [C12_53, lC12_52, List.length_append, List.length_cons, List.length_nil, List.length_replicate, List.length_set, q_rep_len (w := 10) (L2 := L9) (fun b => rfl), q_rep_len (w := 14) (L2 := L8) (fun b => rfl), q_rep_len (w := 2) (L2 := L7) (fun b => rfl), lL0, lL1, lL2, lL3, lL4, lL5, lL6, lL7, lL8, lL9, lL10, lL11]
theorem lC12_54 {b : Nat} : (C12_54 b).length = 54 := by simp only [C12_54, lC12_53, List.length_append, List.length_cons, List.length_nil, List.length_replicate, List.length_set, q_rep_len (w := 10) (L2 := L9) (fun b => rfl), q_rep_len (w := 14) (L2 := L8) (fun b => rfl), q_rep_len (w := 2) (L2 := L7) (fun b => rfl), lL0, lL1, lL2, lL3, lL4, lL5, lL6, lL7, lL8, lL9, lL10, lL11]
theorem lC12_55 {b : Nat} : (C12_55 b).length = 55 := by simp only [C12_55, lC12_54, List.length_append, List.length_cons, List.length_nil, List.length_replicate, List.length_set, q_rep_len (w := 10) (L2 := L9) (fun b => rfl), q_rep_len (w := 14) (L2 := L8) (fun b => rfl), q_rep_len (w := 2) (L2 := L7) (fun b => rfl), lL0, lL1, lL2, lL3, lL4, lL5, lL6, lL7, lL8, lL9, lL10, lL11]
theorem lC12_56 {b : Nat} : (C12_56 b).length = 56 := by simp only [C12_56, lC12_55, List.length_append, List.length_cons, List.length_nil, List.length_replicate, List.length_set, q_rep_len (w := 10) (L2 := L9) (fun b => rfl), q_rep_len (w := 14) (L2 := L8) (fun b => rfl), q_rep_len (w := 2) (L2 := L7) (fun b => rfl), lL0, lL1, lL2, lL3, lL4, lL5, lL6, lL7, lL8, lL9, lL10, lL11]
theorem lC12_57 {b : Nat} : (C12_57 b).length = 57 := by simp only [C12_57, lC12_56, List.length_append, List.length_cons, List.length_nil, List.length_replicate, List.length_set, q_rep_len (w := 10) (L2 := L9) (fun b => rfl), q_rep_len (w := 14) (L2 := L8) (fun b => rfl), q_rep_len (w := 2) (L2 := L7) (fun b => rfl), lL0, lL1, lL2, lL3, lL4, lL5, lL6, lL7, lL8, lL9, lL10, lL11]
theorem lC12_58 {b : Nat} : (C12_58 b).length = 58 := by simp only [C12_58, lC12_57, List.length_append, List.length_cons, List.length_nil, List.length_replicate, List.length_set, q_rep_len (w := 10) (L2 := L9) (fun b => rfl), q_rep_len (w := 14) (L2 := L8) (fun b => rfl), q_rep_len (w := 2) (L2 := L7) (fun b => rfl), lL0, lL1, lL2, lL3, lL4, lL5, lL6, lL7, lL8, lL9, lL10, lL11]
theorem lC12_59 {b : Nat} : (C12_59 b).length = 59 := by simp only [C12_59, lC12_58, List.length_append, List.length_cons, List.length_nil, List.length_replicate, List.length_set, q_rep_len (w := 10) (L2 := L9) (fun b => rfl), q_rep_len (w := 14) (L2 := L8) (fun b => rfl), q_rep_len (w := 2) (L2 := L7) (fun b => rfl), lL0, lL1, lL2, lL3, lL4, lL5, lL6, lL7, lL8, lL9, lL10, lL11]
theorem lC12_60 {b : Nat} : (C12_60 b).length = 60 := by simp only [C12_60, lC12_59, List.length_append, List.length_cons, List.length_nil, List.length_replicate, List.length_set, q_rep_len (w := 10) (L2 := L9) (fun b => rfl), q_rep_len (w := 14) (L2 := L8) (fun b => rfl), q_rep_len (w := 2) (L2 := L7) (fun b => rfl), lL0, lL1, lL2, lL3, lL4, lL5, lL6, lL7, lL8, lL9, lL10, lL11]
theorem lC12_61 {b : Nat} : (C12_61 b).length = 61 := by simp only [C12_61, lC12_60, List.length_append, List.length_cons, List.length_nil, List.length_replicate, List.length_set, q_rep_len (w := 10) (L2 := L9) (fun b => rfl), q_rep_len (w := 14) (L2 := L8) (fun b => rfl), q_rep_len (w := 2) (L2 := L7) (fun b => rfl), lL0, lL1, lL2, lL3, lL4, lL5, lL6, lL7, lL8, lL9, lL10, lL11]
theorem lC12_62 {b : Nat} : (C12_62 b).length = 62 := by simp only [C12_62, lC12_61, List.length_append, List.length_cons, List.length_nil, List.length_replicate, List.length_set, q_rep_len (w := 10) (L2 := L9) (fun b => rfl), q_rep_len (w := 14) (L2 := L8) (fun b => rfl), q_rep_len (w := 2) (L2 := L7) (fun b => rfl), lL0, lL1, lL2, lL3, lL4, lL5, lL6, lL7, lL8, lL9, lL10, lL11]
theorem lC12_63 {b : Nat} : (C12_63 b).length = 63 := by simp only [C12_63, lC12_62, List.length_append, List.length_cons, List.length_nil, List.length_replicate, List.length_set, q_rep_len (w := 10) (L2 := L9) (fun b => rfl), q_rep_len (w := 14) (L2 := L8) (fun b => rfl), q_rep_len (w := 2) (L2 := L7) (fun b => rfl), lL0, lL1, lL2, lL3, lL4, lL5, lL6, lL7, lL8, lL9, lL10, lL11]
theorem lC12_64 {b : Nat} : (C12_64 b).length = 64 := by simp only [C12_64, lC12_63, List.length_append, List.length_cons, List.length_nil, List.length_replicate, List.length_set, q_rep_len (w := 10) (L2 := L9) (fun b => rfl), q_rep_len (w := 14) (L2 := L8) (fun b => rfl), q_rep_len (w := 2) (L2 := L7) (fun b => rfl), lL0, lL1, lL2, lL3, lL4, lL5, lL6, lL7, lL8, lL9, lL10, lL11]
theorem lC12_65 {b : Nat} : (C12_65 b).length = 65 := by simp only [C12_65, lC12_64, List.length_append, List.length_cons, List.length_nil, List.length_replicate, List.length_set, q_rep_len (w := 10) (L2 := L9) (fun b => rfl), q_rep_len (w := 14) (L2 := L8) (fun b => rfl), q_rep_len (w := 2) (L2 := L7) (fun b => rfl), lL0, lL1, lL2, lL3, lL4, lL5, lL6, lL7, lL8, lL9, lL10, lL11]
theorem lC12_66 {b : Nat} : (C12_66 b).length = 66 := by simp only [C12_66, lC12_65, List.length_append, List.length_cons, List.length_nil, List.length_replicate, List.length_set, q_rep_len (w := 10) (L2 := L9) (fun b => rfl), q_rep_len (w := 14) (L2 := L8) (fun b => rfl), q_rep_len (w := 2) (L2 := L7) (fun b => rfl), lL0, lL1, lL2, lL3, lL4, lL5, lL6, lL7, lL8, lL9, lL10, lL11]
theorem lC12_67 {b : Nat} : (C12_67 b).length = 67 := by simp only [C12_67, lC12_66, List.length_append, List.length_cons, List.length_nil, List.length_replicate, List.length_set, q_rep_len (w := 10) (L2 := L9) (fun b => rfl), q_rep_len (w := 14) (L2 := L8) (fun b => rfl), q_rep_len (w := 2) (L2 := L7) (fun b => rfl), lL0, lL1, lL2, lL3, lL4, lL5, lL6, lL7, lL8, lL9, lL10, lL11]
theorem lC12_68 {b : Nat} : (C12_68 b).length = 68 := by simp only [C12_68, lC12_67, List.length_append, List.length_cons, List.length_nil, List.length_replicate, List.length_set, q_rep_len (w := 10) (L2 := L9) (fun b => rfl), q_rep_len (w := 14) (L2 := L8) (fun b => rfl), q_rep_len (w := 2) (L2 := L7) (fun b => rfl), lL0, lL1, lL2, lL3, lL4, lL5, lL6, lL7, lL8, lL9, lL10, lL11]
theorem lC12_69 {b : Nat} : (C12_69 b).length = 69 := by simp only [C12_69, lC12_68, List.length_append, List.length_cons, List.length_nil, List.length_replicate, List.length_set, q_rep_len (w := 10) (L2 := L9) (fun b => rfl), q_rep_len (w := 14) (L2 := L8) (fun b => rfl), q_rep_len (w := 2) (L2 := L7) (fun b => rfl), lL0, lL1, lL2, lL3, lL4, lL5, lL6, lL7, lL8, lL9, lL10, lL11]
theorem lC12_70 {b : Nat} : (C12_70 b).length = 70 := by simp only [C12_70, lC12_69, List.length_append, List.length_cons, List.length_nil, List.length_replicate, List.length_set, q_rep_len (w := 10) (L2 := L9) (fun b => rfl), q_rep_len (w := 14) (L2 := L8) (fun b => rfl), q_rep_len (w := 2) (L2 := L7) (fun b => rfl), lL0, lL1, lL2, lL3, lL4, lL5, lL6, lL7, lL8, lL9, lL10, lL11]
theorem lC12_71 {b : Nat} : (C12_71 b).length = 71 := by simp only [C12_71, lC12_70, List.length_append, List.length_cons, List.length_nil, List.length_replicate, List.length_set, q_rep_len (w := 10) (L2 := L9) (fun b => rfl), q_rep_len (w := 14) (L2 := L8) (fun b => rfl), q_rep_len (w := 2) (L2 := L7) (fun b => rfl), lL0, lL1, lL2, lL3, lL4, lL5, lL6, lL7, lL8, lL9, lL10, lL11]
theorem lC12_72 {b : Nat} : (C12_72 b).length = 72 := by simp only [C12_72, lC12_71, List.length_append, List.length_cons, List.length_nil, List.length_replicate, List.length_set, q_rep_len (w := 10) (L2 := L9) (fun b => rfl), q_rep_len (w := 14) (L2 := L8) (fun b => rfl), q_rep_len (w := 2) (L2 := L7) (fun b => rfl), lL0, lL1, lL2, lL3, lL4, lL5, lL6, lL7, lL8, lL9, lL10, lL11]
theorem lC12_73 {b : Nat} : (C12_73 b).length = 73 := by simp only [C12_73, lC12_72, List.length_append, List.length_cons, List.length_nil, List.length_replicate, List.length_set, q_rep_len (w := 10) (L2 := L9) (fun b => rfl), q_rep_len (w := 14) (L2 := L8) (fun b => rfl), q_rep_len (w := 2) (L2 := L7) (fun b => rfl), lL0, lL1, lL2, lL3, lL4, lL5, lL6, lL7, lL8, lL9, lL10, lL11]
theorem lC12_74 {b : Nat} : (C12_74 b).length = 74 := by simp only [C12_74, lC12_73, List.length_append, List.length_cons, List.length_nil, List.length_replicate, List.length_set, q_rep_len (w := 10) (L2 := L9) (fun b => rfl), q_rep_len (w := 14) (L2 := L8) (fun b => rfl), q_rep_len (w := 2) (L2 := L7) (fun b => rfl), lL0, lL1, lL2, lL3, lL4, lL5, lL6, lL7, lL8, lL9, lL10, lL11]
theorem lC12_75 {b : Nat} : (C12_75 b).length = 75 := by simp only [C12_75, lC12_74, List.length_append, List.length_cons, List.length_nil, List.length_replicate, List.length_set, q_rep_len (w := 10) (L2 := L9) (fun b => rfl), q_rep_len (w := 14) (L2 := L8) (fun b => rfl), q_rep_len (w := 2) (L2 := L7) (fun b => rfl), lL0, lL1, lL2, lL3, lL4, lL5, lL6, lL7, lL8, lL9, lL10, lL11]
theorem lC12_76 {b : Nat} : (C12_76 b).length = 76 := by simp only [C12_76, lC12_75, List.length_append, List.length_cons, List.length_nil, List.length_replicate, List.length_set, q_rep_len (w := 10) (L2 := L9) (fun b => rfl), q_rep_len (w := 14) (L2 := L8) (fun b => rfl), q_rep_len (w := 2) (L2 := L7) (fun b => rfl), lL0, lL1, lL2, lL3, lL4, lL5, lL6, lL7, lL8, lL9, lL10, lL11]
theorem lC12_77 {b : Nat} : (C12_77 b).length = 77 := by simp only [C12_77, lC12_76, List.length_append, List.length_cons, List.length_nil, List.length_replicate, List.length_set, q_rep_len (w := 10) (L2 := L9) (fun b => rfl), q_rep_len (w := 14) (L2 := L8) (fun b => rfl), q_rep_len (w := 2) (L2 := L7) (fun b => rfl), lL0, lL1, lL2, lL3, lL4, lL5, lL6, lL7, lL8, lL9, lL10, lL11]
theorem lC12_78 {b : Nat} : (C12_78 b).length = 78 := by simp only [C12_78, lC12_77, List.length_append, List.length_cons, List.length_nil, List.length_replicate, List.length_set, q_rep_len (w := 10) (L2 := L9) (fun b => rfl), q_rep_len (w := 14) (L2 := L8) (fun b => rfl), q_rep_len (w := 2) (L2 := L7) (fun b => rfl), lL0, lL1, lL2, lL3, lL4, lL5, lL6, lL7, lL8, lL9, lL10, lL11]
theorem lC12_79 {b : Nat} : (C12_79 b).length = 79 := by simp only [C12_79, lC12_78, List.length_append, List.length_cons, List.length_nil, List.length_replicate, List.length_set, q_rep_len (w := 10) (L2 := L9) (fun b => rfl), q_rep_len (w := 14) (L2 := L8) (fun b => rfl), q_rep_len (w := 2) (L2 := L7) (fun b => rfl), lL0, lL1, lL2, lL3, lL4, lL5, lL6, lL7, lL8, lL9, lL10, lL11]
theorem lC12_80 {b : Nat} : (C12_80 b).length = 80 := by simp only [C12_80, lC12_79, List.length_append, List.length_cons, List.length_nil, List.length_replicate, List.length_set, q_rep_len (w := 10) (L2 := L9) (fun b => rfl), q_rep_len (w := 14) (L2 := L8) (fun b => rfl), q_rep_len (w := 2) (L2 := L7) (fun b => rfl), lL0, lL1, lL2, lL3, lL4, lL5, lL6, lL7, lL8, lL9, lL10, lL11]
theorem lC12_81 {b : Nat} : (C12_81 b).length = 81 := by simp only [C12_81, lC12_80, List.length_append, List.length_cons, List.length_nil, List.length_replicate, List.length_set, q_rep_len (w := 10) (L2 := L9) (fun b => rfl), q_rep_len (w := 14) (L2 := L8) (fun b => rfl), q_rep_len (w := 2) (L2 := L7) (fun b => rfl), lL0, lL1, lL2, lL3, lL4, lL5, lL6, lL7, lL8, lL9, lL10, lL11]
theorem lC12_82 {b : Nat} : (C12_82 b).length = 82 := by simp only [C12_82, lC12_81, List.length_append, List.length_cons, List.length_nil, List.length_replicate, List.length_set, q_rep_len (w := 10) (L2 := L9) (fun b => rfl), q_rep_len (w := 14) (L2 := L8) (fun b => rfl), q_rep_len (w := 2) (L2 := L7) (fun b => rfl), lL0, lL1, lL2, lL3, lL4, lL5, lL6, lL7, lL8, lL9, lL10, lL11]
theorem lC12_83 {b : Nat} : (C12_83 b).length = 83 := by simp only [C12_83, lC12_82, List.length_append, List.length_cons, List.length_nil, List.length_replicate, List.length_set, q_rep_len (w := 10) (L2 := L9) (fun b => rfl), q_rep_len (w := 14) (L2 := L8) (fun b => rfl), q_rep_len (w := 2) (L2 := L7) (fun b => rfl), lL0, lL1, lL2, lL3, lL4, lL5, lL6, lL7, lL8, lL9, lL10, lL11]
theorem lC12_84 {b : Nat} : (C12_84 b).length = 84 := by simp only [C12_84, lC12_83, List.length_append, List.length_cons, List.length_nil, List.length_replicate, List.length_set, q_rep_len (w := 10) (L2 := L9) (fun b => rfl), q_rep_len (w := 14) (L2 := L8) (fun b => rfl), q_rep_len (w := 2) (L2 := L7) (fun b => rfl), lL0, lL1, lL2, lL3, lL4, lL5, lL6, lL7, lL8, lL9, lL10, lL11]
theorem lC12_85 {b : Nat} : (C12_85 b).length = 85 := by simp only [C12_85, lC12_84, List.length_append, List.length_cons, List.length_nil, List.length_replicate, List.length_set, q_rep_len (w := 10) (L2 := L9) (fun b => rfl), q_rep_len (w := 14) (L2 := L8) (fun b => rfl), q_rep_len (w := 2) (L2 := L7) (fun b => rfl), lL0, lL1, lL2, lL3, lL4, lL5, lL6, lL7, lL8, lL9, lL10, lL11]
theorem lC12_86 {b : Nat} : (C12_86 b).length = 86 := by simp only [C12_86, lC12_85, List.length_append, List.length_cons, List.length_nil, List.length_replicate, List.length_set, q_rep_len (w := 10) (L2 := L9) (fun b => rfl), q_rep_len (w := 14) (L2 := L8) (fun b => rfl), q_rep_len (w := 2) (L2 := L7) (fun b => rfl), lL0, lL1, lL2, lL3, lL4, lL5, lL6, lL7, lL8, lL9, lL10, lL11]
theorem lC12_87 {b : Nat} : (C12_87 b).length = 87 := by simp only [C12_87, lC12_86, List.length_append, List.length_cons, List.length_nil, List.length_replicate, List.length_set, q_rep_len (w := 10) (L2 := L9) (fun b => rfl), q_rep_len (w := 14) (L2 := L8) (fun b => rfl), q_rep_len (w := 2) (L2 := L7) (fun b => rfl), lL0, lL1, lL2, lL3, lL4, lL5, lL6, lL7, lL8, lL9, lL10, lL11]
theorem lC12_88 {b : Nat} : (C12_88 b).length = 88 := by simp only [C12_88, lC12_87, List.length_append, List.length_cons, List.length_nil, List.length_replicate, List.length_set, q_rep_len (w := 10) (L2 := L9) (fun b => rfl), q_rep_len (w := 14) (L2 := L8) (fun b => rfl), q_rep_len (w := 2) (L2 := L7) (fun b => rfl), lL0, lL1, lL2, lL3, lL4, lL5, lL6, lL7, lL8, lL9, lL10, lL11]
theorem lC12_89 {b : Nat} : (C12_89 b).length = 89 := by simp only [C12_89, lC12_88, List.length_append, List.length_cons, List.length_nil, List.length_replicate, List.length_set, q_rep_len (w := 10) (L2 := L9) (fun b => rfl), q_rep_len (w := 14) (L2 := L8) (fun b => rfl), q_rep_len (w := 2) (L2 := L7) (fun b => rfl), lL0, lL1, lL2, lL3, lL4, lL5, lL6, lL7, lL8, lL9, lL10, lL11]
theorem lC12_90 {b : Nat} : (C12_90 b).length = 90 := by simp only [C12_90, lC12_89, List.length_append, List.length_cons, List.length_nil, List.length_replicate, List.length_set, q_rep_len (w := 10) (L2 := L9) (fun b => rfl), q_rep_len (w := 14) (L2 := L8) (fun b => rfl), q_rep_len (w := 2) (L2 := L7) (fun b => rfl), lL0, lL1, lL2, lL3, lL4, lL5, lL6, lL7, lL8, lL9, lL10, lL11]
theorem lC12_91 {b : Nat} : (C12_91 b).length = 91 := by simp only [C12_91, lC12_90, List.length_append, List.length_cons, List.length_nil, List.length_replicate, List.length_set, q_rep_len (w := 10) (L2 := L9) (fun b => rfl), q_rep_len (w := 14) (L2 := L8) (fun b => rfl), q_rep_len (w := 2) (L2 := L7) (fun b => rfl), lL0, lL1, lL2, lL3, lL4, lL5, lL6, lL7, lL8, lL9, lL10, lL11]
theorem lC12_92 {b : Nat} : (C12_92 b).length = 92 := by simp only [C12_92, lC12_91, List.length_append, List.length_cons, List.length_nil, List.length_replicate, List.length_set, q_rep_len (w := 10) (L2 := L9) (fun b => rfl), q_rep_len (w := 14) (L2 := L8) (fun b => rfl), q_rep_len (w := 2) (L2 := L7) (fun b => rfl), lL0, lL1, lL2, lL3, lL4, lL5, lL6, lL7, lL8, lL9, lL10, lL11]
theorem lC12_93 {b : Nat} : (C12_93 b).length = 93 := by simp only [C12_93, lC12_92, List.length_append, List.length_cons, List.length_nil, List.length_replicate, List.length_set, q_rep_len (w := 10) (L2 := L9) (fun b => rfl), q_rep_len (w := 14) (L2 := L8) (fun b => rfl), q_rep_len (w := 2) (L2 := L7) (fun b => rfl), lL0, lL1, lL2, lL3, lL4, lL5, lL6, lL7, lL8, lL9, lL10, lL11]
theorem lC12_94 {b : Nat} : (C12_94 b).length = 94 := by simp only [C12_94, lC12_93, List.length_append, List.length_cons, List.length_nil, List.length_replicate, List.length_set, q_rep_len (w := 10) (L2 := L9) (fun b => rfl), q_rep_len (w := 14) (L2 := L8) (fun b => rfl), q_rep_len (w := 2) (L2 := L7) (fun b => rfl), lL0, lL1, lL2, lL3, lL4, lL5, lL6, lL7, lL8, lL9, lL10, lL11]
theorem lC12_95 {b : Nat} : (C12_95 b).length = 95 := by simp only [C12_95, lC12_94, List.length_append, List.length_cons, List.length_nil, List.length_replicate, List.length_set, q_rep_len (w := 10) (L2 := L9) (fun b => rfl), q_rep_len (w := 14) (L2 := L8) (fun b => rfl), q_rep_len (w := 2) (L2 := L7) (fun b => rfl), lL0, lL1, lL2, lL3, lL4, lL5, lL6, lL7, lL8, lL9, lL10, lL11]
theorem lC12_96 {b : Nat} : (C12_96 b).length = 96 := by simp only [C12_96, lC12_95, List.length_append, List.length_cons, List.length_nil, List.length_replicate, List.length_set, q_rep_len (w := 10) (L2 := L9) (fun b => rfl), q_rep_len (w := 14) (L2 := L8) (fun b => rfl), q_rep_len (w := 2) (L2 := L7) (fun b => rfl), lL0, lL1, lL2, lL3, lL4, lL5, lL6, lL7, lL8, lL9, lL10, lL11]
theorem lC12_97 {b : Nat} : (C12_97 b).length = 97 := by simp only [C12_97, lC12_96, List.length_append, List.length_cons, List.length_nil, List.length_replicate, List.length_set, q_rep_len (w := 10) (L2 := L9) (fun b => rfl), q_rep_len (w := 14) (L2 := L8) (fun b => rfl), q_rep_len (w := 2) (L2 := L7) (fun b => rfl), lL0, lL1, lL2, lL3, lL4, lL5, lL6, lL7, lL8, lL9, lL10, lL11]
theorem lC12_98 {b : Nat} : (C12_98 b).length = 98 := by simp only [C12_98, lC12_97, List.length_append, List.length_cons, List.length_nil, List.length_replicate, List.length_set, q_rep_len (w := 10) (L2 := L9) (fun b => rfl), q_rep_len (w := 14) (L2 := L8) (fun b => rfl), q_rep_len (w := 2) (L2 := L7) (fun b => rfl), lL0, lL1, lL2, lL3, lL4, lL5, lL6, lL7, lL8, lL9, lL10, lL11]
theorem lC12_99 {b : Nat} : (C12_99 b).length = 98 := by simp only [C12_99, lC12_98, List.length_append, List.length_cons, List.length_nil, List.length_replicate, List.length_set, q_rep_len (w := 10) (L2 := L9) (fun b => rfl), q_rep_len (w := 14) (L2 := L8) (fun b => rfl), q_rep_len (w := 2) (L2 := L7) (fun b => rfl), lL0, lL1, lL2, lL3, lL4, lL5, lL6, lL7, lL8, lL9, lL10, lL11]
theorem lC12_100 {b : Nat} : (C12_100 b).length = 98 := by simp only [C12_100, lC12_99, List.length_append, List.length_cons, List.length_nil, List.length_replicate, List.length_set, q_rep_len (w := 10) (L2 := L9) (fun b => rfl), q_rep_len (w := 14) (L2 := L8) (fun b => rfl), q_rep_len (w := 2) (L2 := L7) (fun b => rfl), lL0, lL1, lL2, lL3, lL4, lL5, lL6, lL7, lL8, lL9, lL10, lL11]
theorem lC12_101 {b : Nat} : (C12_101 b).length = 98 := by simp only [C12_101, lC12_100, List.length_append, List.length_cons, List.length_nil, List.length_replicate, List.length_set, q_rep_len (w := 10) (L2 := L9) (fun b => rfl), q_rep_len (w := 14) (L2 := L8) (fun b => rfl), q_rep_len (w := 2) (L2 := L7) (fun b => rfl), lL0, lL1, lL2, lL3, lL4, lL5, lL6, lL7, lL8, lL9, lL10, lL11]
theorem lC12_102 {b : Nat} : (C12_102 b).length = 98 := by simp only [C12_102, lC12_101, List.length_append, List.length_cons, List.length_nil, List.length_replicate, List.length_set, q_rep_len (w := 10) (L2 := L9) (fun b => rfl), q_rep_len (w := 14) (L2 := L8) (fun b => rfl), q_rep_len (w := 2) (L2 := L7) (fun b => rfl), lL0, lL1, lL2, lL3, lL4, lL5, lL6, lL7, lL8, lL9, lL10, lL11]
theorem lC12_103 {b : Nat} : (C12_103 b).length = 98 := by simp only [C12_103, lC12_102, List.length_append, List.length_cons, List.length_nil, List.length_replicate, List.length_set, q_rep_len (w := 10) (L2 := L9) (fun b => rfl), q_rep_len (w := 14) (L2 := L8) (fun b => rfl), q_rep_len (w := 2) (L2 := L7) (fun b => rfl), lL0, lL1, lL2, lL3, lL4, lL5, lL6, lL7, lL8, lL9, lL10, lL11]
theorem lL12 {b : Nat} : (L12 b).length = 99 := by simp only [L12, List.length_cons, lC12_103]
theorem k12_s0 {μ μ0 : q_M} {b : Nat} {Kn : List Value → q_M → Prop} {Kr : Option Value → q_M → Prop} (g0 : q_bld μ μ0 b 12 (F12_0 b) (C12_0 b) 98 142034) (kk : ∀ μ', q_bld μ' μ0 b 12 (F12_1 b) (C12_1 b) 97 142010 → Kn [.ref b] μ') : (q_spf Value.ref (fun _ => True) 12 0 (q_r 0) (q_na .int (q_k 24))) [.ref b] μ Kn Kr :=
  q_st_na (a := b) (ci := 12) (k := 0) (n := 24) g0 rfl (by decide) (by decide) (by decide) (by decide) (by decide) kk
theorem k12_s1 {μ μ0 : q_M} {b : Nat} {Kn : List Value → q_M → Prop} {Kr : Option Value → q_M → Prop} (g1 : q_bld μ μ0 b 12 (F12_1 b) (C12_1 b) 97 142010) (kk : ∀ μ', q_bld μ' μ0 b 12 (F12_2 b) (C12_2 b) 96 142008 → Kn [.ref b] μ') : (q_spf Value.ref (fun _ => True) 12 1 (q_r 0) (q_na .int (q_k 2))) [.ref b] μ Kn Kr :=
  q_st_na (a := b) (ci := 12) (k := 1) (n := 2) g1 rfl (by decide) (by decide) (by decide) (by decide) (by decide) kk
theorem k12_s2 {μ μ0 : q_M} {b : Nat} {Kn : List Value → q_M → Prop} {Kr : Option Value → q_M → Prop} (g2 : q_bld μ μ0 b 12 (F12_2 b) (C12_2 b) 96 142008) (kk : ∀ μ', q_bld μ' μ0 b 12 (F12_3 b) (C12_3 b) 95 141980 → Kn [.ref b] μ') : (q_spf Value.ref (fun _ => True) 12 2 (q_r 0) (q_na .int (q_k 28))) [.ref b] μ Kn Kr :=
  q_st_na (a := b) (ci := 12) (k := 2) (n := 28) g2 rfl (by decide) (by decide) (by decide) (by decide) (by decide) kk
theorem k12_s3 {μ μ0 : q_M} {b : Nat} {Kn : List Value → q_M → Prop} {Kr : Option Value → q_M → Prop} (g3 : q_bld μ μ0 b 12 (F12_3 b) (C12_3 b) 95 141980) (kk : ∀ μ', q_bld μ' μ0 b 12 (F12_4 b) (C12_4 b) 94 141952 → Kn [.ref b] μ') : (q_spf Value.ref (fun _ => True) 12 3 (q_r 0) (q_na .int (q_k 28))) [.ref b] μ Kn Kr :=
  q_st_na (a := b) (ci := 12) (k := 3) (n := 28) g3 rfl (by decide) (by decide) (by decide) (by decide) (by decide) kk
theorem k12_s4 {μ μ0 : q_M} {b : Nat} {Kn : List Value → q_M → Prop} {Kr : Option Value → q_M → Prop} (g4 : q_bld μ μ0 b 12 (F12_4 b) (C12_4 b) 94 141952) (kk : ∀ μ', q_bld μ' μ0 b 12 (F12_5 b) (C12_5 b) 93 141812 → Kn [.ref b] μ') : (q_spf Value.ref (fun _ => True) 12 4 (q_r 0) (q_na .int (q_k 140))) [.ref b] μ Kn Kr :=
  q_st_na (a := b) (ci := 12) (k := 4) (n := 140) g4 rfl (by decide) (by decide) (by decide) (by decide) (by decide) kk
theorem k12_s5 {μ μ0 : q_M} {b : Nat} {Kn : List Value → q_M → Prop} {Kr : Option Value → q_M → Prop} (g5 : q_bld μ μ0 b 12 (F12_5 b) (C12_5 b) 93 141812) (kk : ∀ μ', q_bld μ' μ0 b 12 (F12_6 b) (C12_6 b) 92 141672 → Kn [.ref b] μ') : (q_spf Value.ref (fun _ => True) 12 5 (q_r 0) (q_na .int (q_k 140))) [.ref b] μ Kn Kr :=
  q_st_na (a := b) (ci := 12) (k := 5) (n := 140) g5 rfl (by decide) (by decide) (by decide) (by decide) (by decide) kk
theorem k12_s6 {μ μ0 : q_M} {b : Nat} {Kn : List Value → q_M → Prop} {Kr : Option Value → q_M → Prop} (g6 : q_bld μ μ0 b 12 (F12_6 b) (C12_6 b) 92 141672) (kk : ∀ μ', q_bld μ' μ0 b 12 (F12_7 b) (C12_7 b) 91 141532 → Kn [.ref b] μ') : (q_spf Value.ref (fun _ => True) 12 6 (q_r 0) (q_na .int (q_k 140))) [.ref b] μ Kn Kr :=
  q_st_na (a := b) (ci := 12) (k := 6) (n := 140) g6 rfl (by decide) (by decide) (by decide) (by decide) (by decide) kk
theorem k12_s7 {μ μ0 : q_M} {b : Nat} {Kn : List Value → q_M → Prop} {Kr : Option Value → q_M → Prop} (g7 : q_bld μ μ0 b 12 (F12_7 b) (C12_7 b) 91 141532) (kk : ∀ μ', q_bld μ' μ0 b 12 (F12_8 b) (C12_8 b) 90 141504 → Kn [.ref b] μ') : (q_spf Value.ref (fun _ => True) 12 7 (q_r 0) (q_na .boolean (q_k 28))) [.ref b] μ Kn Kr :=
  q_st_na (a := b) (ci := 12) (k := 7) (n := 28) g7 rfl (by decide) (by decide) (by decide) (by decide) (by decide) kk
theorem k12_s8 {μ μ0 : q_M} {b : Nat} {Kn : List Value → q_M → Prop} {Kr : Option Value → q_M → Prop} (g8 : q_bld μ μ0 b 12 (F12_8 b) (C12_8 b) 90 141504) (kk : ∀ μ', q_bld μ' μ0 b 12 (F12_9 b) (C12_9 b) 89 141476 → Kn [.ref b] μ') : (q_spf Value.ref (fun _ => True) 12 8 (q_r 0) (q_na .int (q_k 28))) [.ref b] μ Kn Kr :=
  q_st_na (a := b) (ci := 12) (k := 8) (n := 28) g8 rfl (by decide) (by decide) (by decide) (by decide) (by decide) kk
theorem k12_s9 {μ μ0 : q_M} {b : Nat} {Kn : List Value → q_M → Prop} {Kr : Option Value → q_M → Prop} (g9 : q_bld μ μ0 b 12 (F12_9 b) (C12_9 b) 89 141476) (kk : ∀ μ', q_bld μ' μ0 b 12 (F12_10 b) (C12_10 b) 88 141308 → Kn [.ref b] μ') : (q_spf Value.ref (fun _ => True) 12 9 (q_r 0) (q_na .int (q_k 168))) [.ref b] μ Kn Kr :=
  q_st_na (a := b) (ci := 12) (k := 9) (n := 168) g9 rfl (by decide) (by decide) (by decide) (by decide) (by decide) kk
theorem k12_s10 {μ μ0 : q_M} {b : Nat} {Kn : List Value → q_M → Prop} {Kr : Option Value → q_M → Prop} (g10 : q_bld μ μ0 b 12 (F12_10 b) (C12_10 b) 88 141308) (kk : ∀ μ', q_bld μ' μ0 b 12 (F12_11 b) (C12_11 b) 87 141140 → Kn [.ref b] μ') : (q_spf Value.ref (fun _ => True) 12 10 (q_r 0) (q_na .int (q_k 168))) [.ref b] μ Kn Kr :=
  q_st_na (a := b) (ci := 12) (k := 10) (n := 168) g10 rfl (by decide) (by decide) (by decide) (by decide) (by decide) kk
theorem k12_s11 {μ μ0 : q_M} {b : Nat} {Kn : List Value → q_M → Prop} {Kr : Option Value → q_M → Prop} (g11 : q_bld μ μ0 b 12 (F12_11 b) (C12_11 b) 87 141140) (kk : ∀ μ', q_bld μ' μ0 b 12 (F12_12 b) (C12_12 b) 86 141112 → Kn [.ref b] μ') : (q_spf Value.ref (fun _ => True) 12 11 (q_r 0) (q_na .int (q_k 28))) [.ref b] μ Kn Kr :=
  q_st_na (a := b) (ci := 12) (k := 11) (n := 28) g11 rfl (by decide) (by decide) (by decide) (by decide) (by decide) kk
theorem k12_s12 {μ μ0 : q_M} {b : Nat} {Kn : List Value → q_M → Prop} {Kr : Option Value → q_M → Prop} (g12 : q_bld μ μ0 b 12 (F12_12 b) (C12_12 b) 86 141112) (kk : ∀ μ', q_bld μ' μ0 b 12 (F12_13 b) (C12_13 b) 85 141107 → Kn [.ref b] μ') : (q_spf Value.ref (fun _ => True) 12 12 (q_r 0) (q_na .int (q_k 5))) [.ref b] μ Kn Kr :=
  q_st_na (a := b) (ci := 12) (k := 12) (n := 5) g12 rfl (by decide) (by decide) (by decide) (by decide) (by decide) kk
theorem k12_s13 {μ μ0 : q_M} {b : Nat} {Kn : List Value → q_M → Prop} {Kr : Option Value → q_M → Prop} (g13 : q_bld μ μ0 b 12 (F12_13 b) (C12_13 b) 85 141107) (kk : ∀ μ', q_bld μ' μ0 b 12 (F12_14 b) (C12_14 b) 84 140979 → Kn [.ref b] μ') : (q_spf Value.ref (fun _ => True) 12 13 (q_r 0) (q_na .int (q_k 128))) [.ref b] μ Kn Kr :=
  q_st_na (a := b) (ci := 12) (k := 13) (n := 128) g13 rfl (by decide) (by decide) (by decide) (by decide) (by decide) kk
theorem k12_s14 {μ μ0 : q_M} {b : Nat} {Kn : List Value → q_M → Prop} {Kr : Option Value → q_M → Prop} (g14 : q_bld μ μ0 b 12 (F12_14 b) (C12_14 b) 84 140979) (kk : ∀ μ', q_bld μ' μ0 b 12 (F12_15 b) (C12_15 b) 83 140971 → Kn [.ref b] μ') : (q_spf Value.ref (fun _ => True) 12 14 (q_r 0) (q_na .int (q_k 8))) [.ref b] μ Kn Kr :=
  q_st_na (a := b) (ci := 12) (k := 14) (n := 8) g14 rfl (by decide) (by decide) (by decide) (by decide) (by decide) kk
theorem k12_s15 {μ μ0 : q_M} {b : Nat} {Kn : List Value → q_M → Prop} {Kr : Option Value → q_M → Prop} (g15 : q_bld μ μ0 b 12 (F12_15 b) (C12_15 b) 83 140971) (kk : ∀ μ', q_bld μ' μ0 b 12 (F12_16 b) (C12_16 b) 82 140871 → Kn [.ref b] μ') : (q_spf Value.ref (fun _ => True) 12 15 (q_r 0) (q_na .int (q_k 100))) [.ref b] μ Kn Kr :=
  q_st_na (a := b) (ci := 12) (k := 15) (n := 100) g15 rfl (by decide) (by decide) (by decide) (by decide) (by decide) kk
theorem k12_s16 {μ μ0 : q_M} {b : Nat} {Kn : List Value → q_M → Prop} {Kr : Option Value → q_M → Prop} (g16 : q_bld μ μ0 b 12 (F12_16 b) (C12_16 b) 82 140871) (kk : ∀ μ', q_bld μ' μ0 b 12 (F12_17 b) (C12_17 b) 81 140771 → Kn [.ref b] μ') : (q_spf Value.ref (fun _ => True) 12 16 (q_r 0) (q_na .int (q_k 100))) [.ref b] μ Kn Kr :=
  q_st_na (a := b) (ci := 12) (k := 16) (n := 100) g16 rfl (by decide) (by decide) (by decide) (by decide) (by decide) kk
theorem k12_s17 {μ μ0 : q_M} {b : Nat} {Kn : List Value → q_M → Prop} {Kr : Option Value → q_M → Prop} (g17 : q_bld μ μ0 b 12 (F12_17 b) (C12_17 b) 81 140771) (kk : ∀ μ', q_bld μ' μ0 b 12 (F12_18 b) (C12_18 b) 80 140671 → Kn [.ref b] μ') : (q_spf Value.ref (fun _ => True) 12 17 (q_r 0) (q_na .int (q_k 100))) [.ref b] μ Kn Kr :=
  q_st_na (a := b) (ci := 12) (k := 17) (n := 100) g17 rfl (by decide) (by decide) (by decide) (by decide) (by decide) kk
theorem k12_s18 {μ μ0 : q_M} {b : Nat} {Kn : List Value → q_M → Prop} {Kr : Option Value → q_M → Prop} (g18 : q_bld μ μ0 b 12 (F12_18 b) (C12_18 b) 80 140671) (kk : ∀ μ', q_bld μ' μ0 b 12 (F12_19 b) (C12_19 b) 79 136671 → Kn [.ref b] μ') : (q_spf Value.ref (fun _ => True) 12 18 (q_r 0) (q_na .int (q_k 4000))) [.ref b] μ Kn Kr :=
  q_st_na (a := b) (ci := 12) (k := 18) (n := 4000) g18 rfl (by decide) (by decide) (by decide) (by decide) (by decide) kk
theorem k12_s19 {μ μ0 : q_M} {b : Nat} {Kn : List Value → q_M → Prop} {Kr : Option Value → q_M → Prop} (g19 : q_bld μ μ0 b 12 (F12_19 b) (C12_19 b) 79 136671) (kk : ∀ μ', q_bld μ' μ0 b 12 (F12_20 b) (C12_20 b) 78 132671 → Kn [.ref b] μ') : (q_spf Value.ref (fun _ => True) 12 19 (q_r 0) (q_na .int (q_k 4000))) [.ref b] μ Kn Kr :=
  q_st_na (a := b) (ci := 12) (k := 19) (n := 4000) g19 rfl (by decide) (by decide) (by decide) (by decide) (by decide) kk
theorem k12_s20 {μ μ0 : q_M} {b : Nat} {Kn : List Value → q_M → Prop} {Kr : Option Value → q_M → Prop} (g20 : q_bld μ μ0 b 12 (F12_20 b) (C12_20 b) 78 132671) (kk : ∀ μ', q_bld μ' μ0 b 12 (F12_21 b) (C12_21 b) 77 112671 → Kn [.ref b] μ') : (q_spf Value.ref (fun _ => True) 12 20 (q_r 0) (q_na .int (q_k 20000))) [.ref b] μ Kn Kr :=
  q_st_na (a := b) (ci := 12) (k := 20) (n := 20000) g20 rfl (by decide) (by decide) (by decide) (by decide) (by decide) kk
theorem k12_s21 {μ μ0 : q_M} {b : Nat} {Kn : List Value → q_M → Prop} {Kr : Option Value → q_M → Prop} (g21 : q_bld μ μ0 b 12 (F12_21 b) (C12_21 b) 77 112671) (kk : ∀ μ', q_bld μ' μ0 b 12 (F12_22 b) (C12_22 b) 76 108671 → Kn [.ref b] μ') : (q_spf Value.ref (fun _ => True) 12 21 (q_r 0) (q_na .int (q_k 4000))) [.ref b] μ Kn Kr :=
  q_st_na (a := b) (ci := 12) (k := 21) (n := 4000) g21 rfl (by decide) (by decide) (by decide) (by decide) (by decide) kk
theorem k12_s22 {μ μ0 : q_M} {b : Nat} {Kn : List Value → q_M → Prop} {Kr : Option Value → q_M → Prop} (g22 : q_bld μ μ0 b 12 (F12_22 b) (C12_22 b) 76 108671) (kk : ∀ μ', q_bld μ' μ0 b 12 (F12_23 b) (C12_23 b) 75 108271 → Kn [.ref b] μ') : (q_spf Value.ref (fun _ => True) 12 24 (q_r 0) (q_na .int (q_k 400))) [.ref b] μ Kn Kr :=
  q_st_na (a := b) (ci := 12) (k := 24) (n := 400) g22 rfl (by decide) (by decide) (by decide) (by decide) (by decide) kk
theorem k12_s23 {μ μ0 : q_M} {b : Nat} {Kn : List Value → q_M → Prop} {Kr : Option Value → q_M → Prop} (g23 : q_bld μ μ0 b 12 (F12_23 b) (C12_23 b) 75 108271) (kk : ∀ μ', q_bld μ' μ0 b 12 (F12_24 b) (C12_24 b) 74 107871 → Kn [.ref b] μ') : (q_spf Value.ref (fun _ => True) 12 25 (q_r 0) (q_na .int (q_k 400))) [.ref b] μ Kn Kr :=
  q_st_na (a := b) (ci := 12) (k := 25) (n := 400) g23 rfl (by decide) (by decide) (by decide) (by decide) (by decide) kk
theorem k12_s24 {μ μ0 : q_M} {b : Nat} {Kn : List Value → q_M → Prop} {Kr : Option Value → q_M → Prop} (g24 : q_bld μ μ0 b 12 (F12_24 b) (C12_24 b) 74 107871) (kk : ∀ μ', q_bld μ' μ0 b 12 (F12_25 b) (C12_25 b) 73 107471 → Kn [.ref b] μ') : (q_spf Value.ref (fun _ => True) 12 26 (q_r 0) (q_na .int (q_k 400))) [.ref b] μ Kn Kr :=
  q_st_na (a := b) (ci := 12) (k := 26) (n := 400) g24 rfl (by decide) (by decide) (by decide) (by decide) (by decide) kk
theorem k12_s25 {μ μ0 : q_M} {b : Nat} {Kn : List Value → q_M → Prop} {Kr : Option Value → q_M → Prop} (g25 : q_bld μ μ0 b 12 (F12_25 b) (C12_25 b) 73 107471) (kk : ∀ μ', q_bld μ' μ0 b 12 (F12_26 b) (C12_26 b) 72 107071 → Kn [.ref b] μ') : (q_spf Value.ref (fun _ => True) 12 27 (q_r 0) (q_na .int (q_k 400))) [.ref b] μ Kn Kr :=
  q_st_na (a := b) (ci := 12) (k := 27) (n := 400) g25 rfl (by decide) (by decide) (by decide) (by decide) (by decide) kk
theorem k12_s26 {μ μ0 : q_M} {b : Nat} {Kn : List Value → q_M → Prop} {Kr : Option Value → q_M → Prop} (g26 : q_bld μ μ0 b 12 (F12_26 b) (C12_26 b) 72 107071) (kk : ∀ μ', q_bld μ' μ0 b 12 (F12_27 b) (C12_27 b) 71 106671 → Kn [.ref b] μ') : (q_spf Value.ref (fun _ => True) 12 28 (q_r 0) (q_na .int (q_k 400))) [.ref b] μ Kn Kr :=
  q_st_na (a := b) (ci := 12) (k := 28) (n := 400) g26 rfl (by decide) (by decide) (by decide) (by decide) (by decide) kk
theorem k12_s27 {μ μ0 : q_M} {b : Nat} {Kn : List Value → q_M → Prop} {Kr : Option Value → q_M → Prop} (g27 : q_bld μ μ0 b 12 (F12_27 b) (C12_27 b) 71 106671) (kk : ∀ μ', q_bld μ' μ0 b 12 (F12_28 b) (C12_28 b) 70 106571 → Kn [.ref b] μ') : (q_spf Value.ref (fun _ => True) 12 29 (q_r 0) (q_na .int (q_k 100))) [.ref b] μ Kn Kr :=
  q_st_na (a := b) (ci := 12) (k := 29) (n := 100) g27 rfl (by decide) (by decide) (by decide) (by decide) (by decide) kk
theorem k12_s28 {μ μ0 : q_M} {b : Nat} {Kn : List Value → q_M → Prop} {Kr : Option Value → q_M → Prop} (g28 : q_bld μ μ0 b 12 (F12_28 b) (C12_28 b) 70 106571) (kk : ∀ μ', q_bld μ' μ0 b 12 (F12_29 b) (C12_29 b) 69 106471 → Kn [.ref b] μ') : (q_spf Value.ref (fun _ => True) 12 30 (q_r 0) (q_na .int (q_k 100))) [.ref b] μ Kn Kr :=
  q_st_na (a := b) (ci := 12) (k := 30) (n := 100) g28 rfl (by decide) (by decide) (by decide) (by decide) (by decide) kk
theorem k12_s29 {μ μ0 : q_M} {b : Nat} {Kn : List Value → q_M → Prop} {Kr : Option Value → q_M → Prop} (g29 : q_bld μ μ0 b 12 (F12_29 b) (C12_29 b) 69 106471) (kk : ∀ μ', q_bld μ' μ0 b 12 (F12_30 b) (C12_30 b) 68 106251 → Kn [.ref b] μ') : (q_spf Value.ref (fun _ => True) 12 36 (q_r 0) (q_na .int (q_k 220))) [.ref b] μ Kn Kr :=
  q_st_na (a := b) (ci := 12) (k := 36) (n := 220) g29 rfl (by decide) (by decide) (by decide) (by decide) (by decide) kk
theorem k12_s30 {μ μ0 : q_M} {b : Nat} {Kn : List Value → q_M → Prop} {Kr : Option Value → q_M → Prop} (g30 : q_bld μ μ0 b 12 (F12_30 b) (C12_30 b) 68 106251) (kk : ∀ μ', q_bld μ' μ0 b 12 (F12_31 b) (C12_31 b) 67 106031 → Kn [.ref b] μ') : (q_spf Value.ref (fun _ => True) 12 37 (q_r 0) (q_na .int (q_k 220))) [.ref b] μ Kn Kr :=
  q_st_na (a := b) (ci := 12) (k := 37) (n := 220) g30 rfl (by decide) (by decide) (by decide) (by decide) (by decide) kk
theorem k12_s31 {μ μ0 : q_M} {b : Nat} {Kn : List Value → q_M → Prop} {Kr : Option Value → q_M → Prop} (g31 : q_bld μ μ0 b 12 (F12_31 b) (C12_31 b) 67 106031) (kk : ∀ μ', q_bld μ' μ0 b 12 (F12_32 b) (C12_32 b) 66 105811 → Kn [.ref b] μ') : (q_spf Value.ref (fun _ => True) 12 38 (q_r 0) (q_na .int (q_k 220))) [.ref b] μ Kn Kr :=
  q_st_na (a := b) (ci := 12) (k := 38) (n := 220) g31 rfl (by decide) (by decide) (by decide) (by decide) (by decide) kk
theorem k12_s32 {μ μ0 : q_M} {b : Nat} {Kn : List Value → q_M → Prop} {Kr : Option Value → q_M → Prop} (g32 : q_bld μ μ0 b 12 (F12_32 b) (C12_32 b) 66 105811) (kk : ∀ μ', q_bld μ' μ0 b 12 (F12_33 b) (C12_33 b) 65 105591 → Kn [.ref b] μ') : (q_spf Value.ref (fun _ => True) 12 40 (q_r 0) (q_na .int (q_k 220))) [.ref b] μ Kn Kr :=
  q_st_na (a := b) (ci := 12) (k := 40) (n := 220) g32 rfl (by decide) (by decide) (by decide) (by decide) (by decide) kk
theorem k12_s33 {μ μ0 : q_M} {b : Nat} {Kn : List Value → q_M → Prop} {Kr : Option Value → q_M → Prop} (g33 : q_bld μ μ0 b 12 (F12_33 b) (C12_33 b) 65 105591) (kk : ∀ μ', q_bld μ' μ0 b 12 (F12_34 b) (C12_34 b) 64 105371 → Kn [.ref b] μ') : (q_spf Value.ref (fun _ => True) 12 41 (q_r 0) (q_na .int (q_k 220))) [.ref b] μ Kn Kr :=
  q_st_na (a := b) (ci := 12) (k := 41) (n := 220) g33 rfl (by decide) (by decide) (by decide) (by decide) (by decide) kk
theorem k12_s34 {μ μ0 : q_M} {b : Nat} {Kn : List Value → q_M → Prop} {Kr : Option Value → q_M → Prop} (g34 : q_bld μ μ0 b 12 (F12_34 b) (C12_34 b) 64 105371) (kk : ∀ μ', q_bld μ' μ0 b 12 (F12_35 b) (C12_35 b) 63 105151 → Kn [.ref b] μ') : (q_spf Value.ref (fun _ => True) 12 42 (q_r 0) (q_na .int (q_k 220))) [.ref b] μ Kn Kr :=
  q_st_na (a := b) (ci := 12) (k := 42) (n := 220) g34 rfl (by decide) (by decide) (by decide) (by decide) (by decide) kk
theorem k12_s35 {μ μ0 : q_M} {b : Nat} {Kn : List Value → q_M → Prop} {Kr : Option Value → q_M → Prop} (g35 : q_bld μ μ0 b 12 (F12_35 b) (C12_35 b) 63 105151) (kk : ∀ μ', q_bld μ' μ0 b 12 (F12_36 b) (C12_36 b) 62 105110 → Kn [.ref b] μ') : (q_spf Value.ref (fun _ => True) 12 43 (q_r 0) (q_na .int (q_k 41))) [.ref b] μ Kn Kr :=
  q_st_na (a := b) (ci := 12) (k := 43) (n := 41) g35 rfl (by decide) (by decide) (by decide) (by decide) (by decide) kk
theorem k12_s36 {μ μ0 : q_M} {b : Nat} {Kn : List Value → q_M → Prop} {Kr : Option Value → q_M → Prop} (g36 : q_bld μ μ0 b 12 (F12_36 b) (C12_36 b) 62 105110) (kk : ∀ μ', q_bld μ' μ0 b 12 (F12_37 b) (C12_37 b) 61 105069 → Kn [.ref b] μ') : (q_spf Value.ref (fun _ => True) 12 44 (q_r 0) (q_na .int (q_k 41))) [.ref b] μ Kn Kr :=
  q_st_na (a := b) (ci := 12) (k := 44) (n := 41) g36 rfl (by decide) (by decide) (by decide) (by decide) (by decide) kk
theorem k12_s37 {μ μ0 : q_M} {b : Nat} {Kn : List Value → q_M → Prop} {Kr : Option Value → q_M → Prop} (g37 : q_bld μ μ0 b 12 (F12_37 b) (C12_37 b) 61 105069) (kk : ∀ μ', q_bld μ' μ0 b 12 (F12_38 b) (C12_38 b) 60 105028 → Kn [.ref b] μ') : (q_spf Value.ref (fun _ => True) 12 45 (q_r 0) (q_na .int (q_k 41))) [.ref b] μ Kn Kr :=
  q_st_na (a := b) (ci := 12) (k := 45) (n := 41) g37 rfl (by decide) (by decide) (by decide) (by decide) (by decide) kk
theorem k12_s38 {μ μ0 : q_M} {b : Nat} {Kn : List Value → q_M → Prop} {Kr : Option Value → q_M → Prop} (g38 : q_bld μ μ0 b 12 (F12_38 b) (C12_38 b) 60 105028) (kk : ∀ μ', q_bld μ' μ0 b 12 (F12_39 b) (C12_39 b) 59 105012 → Kn [.ref b] μ') : (q_spf Value.ref (fun _ => True) 12 46 (q_r 0) (q_na .int (q_k 16))) [.ref b] μ Kn Kr :=
  q_st_na (a := b) (ci := 12) (k := 46) (n := 16) g38 rfl (by decide) (by decide) (by decide) (by decide) (by decide) kk
theorem k12_s39 {μ μ0 : q_M} {b : Nat} {Kn : List Value → q_M → Prop} {Kr : Option Value → q_M → Prop} (g39 : q_bld μ μ0 b 12 (F12_39 b) (C12_39 b) 59 105012) (kk : ∀ μ', q_bld μ' μ0 b 12 (F12_40 b) (C12_40 b) 58 103278 → Kn [.ref b] μ') : (q_spf Value.ref (fun _ => True) 12 48 (q_r 0) (q_na .int (q_k 1734))) [.ref b] μ Kn Kr :=
  q_st_na (a := b) (ci := 12) (k := 48) (n := 1734) g39 rfl (by decide) (by decide) (by decide) (by decide) (by decide) kk
theorem k12_s40 {μ μ0 : q_M} {b : Nat} {Kn : List Value → q_M → Prop} {Kr : Option Value → q_M → Prop} (g40 : q_bld μ μ0 b 12 (F12_40 b) (C12_40 b) 58 103278) (kk : ∀ μ', q_bld μ' μ0 b 12 (F12_41 b) (C12_41 b) 57 103176 → Kn [.ref b] μ') : (q_spf Value.ref (fun _ => True) 12 49 (q_r 0) (q_na .int (q_k 102))) [.ref b] μ Kn Kr :=
  q_st_na (a := b) (ci := 12) (k := 49) (n := 102) g40 rfl (by decide) (by decide) (by decide) (by decide) (by decide) kk
theorem k12_s41 {μ μ0 : q_M} {b : Nat} {Kn : List Value → q_M → Prop} {Kr : Option Value → q_M → Prop} (g41 : q_bld μ μ0 b 12 (F12_41 b) (C12_41 b) 57 103176) (kk : ∀ μ', q_bld μ' μ0 b 12 (F12_42 b) (C12_42 b) 56 102956 → Kn [.ref b] μ') : (q_spf Value.ref (fun _ => True) 12 51 (q_r 0) (q_na .int (q_k 220))) [.ref b] μ Kn Kr :=
  q_st_na (a := b) (ci := 12) (k := 51) (n := 220) g41 rfl (by decide) (by decide) (by decide) (by decide) (by decide) kk
theorem k12_s42 {μ μ0 : q_M} {b : Nat} {Kn : List Value → q_M → Prop} {Kr : Option Value → q_M → Prop} (g42 : q_bld μ μ0 b 12 (F12_42 b) (C12_42 b) 56 102956) (kk : ∀ μ', q_bld μ' μ0 b 12 (F12_43 b) (C12_43 b) 55 102736 → Kn [.ref b] μ') : (q_spf Value.ref (fun _ => True) 12 52 (q_r 0) (q_na .int (q_k 220))) [.ref b] μ Kn Kr :=
  q_st_na (a := b) (ci := 12) (k := 52) (n := 220) g42 rfl (by decide) (by decide) (by decide) (by decide) (by decide) kk
theorem k12_s43 {μ μ0 : q_M} {b : Nat} {Kn : List Value → q_M → Prop} {Kr : Option Value → q_M → Prop} (g43 : q_bld μ μ0 b 12 (F12_43 b) (C12_43 b) 55 102736) (kk : ∀ μ', q_bld μ' μ0 b 12 (F12_44 b) (C12_44 b) 54 102516 → Kn [.ref b] μ') : (q_spf Value.ref (fun _ => True) 12 53 (q_r 0) (q_na .int (q_k 220))) [.ref b] μ Kn Kr :=
  q_st_na (a := b) (ci := 12) (k := 53) (n := 220) g43 rfl (by decide) (by decide) (by decide) (by decide) (by decide) kk
theorem k12_s44 {μ μ0 : q_M} {b : Nat} {Kn : List Value → q_M → Prop} {Kr : Option Value → q_M → Prop} (g44 : q_bld μ μ0 b 12 (F12_44 b) (C12_44 b) 54 102516) (kk : ∀ μ', q_bld μ' μ0 b 12 (F12_45 b) (C12_45 b) 53 102296 → Kn [.ref b] μ') : (q_spf Value.ref (fun _ => True) 12 54 (q_r 0) (q_na .int (q_k 220))) [.ref b] μ Kn Kr :=
  q_st_na (a := b) (ci := 12) (k := 54) (n := 220) g44 rfl (by decide) (by decide) (by decide) (by decide) (by decide) kk
theorem k12_s45 {μ μ0 : q_M} {b : Nat} {Kn : List Value → q_M → Prop} {Kr : Option Value → q_M → Prop} (g45 : q_bld μ μ0 b 12 (F12_45 b) (C12_45 b) 53 102296) (kk : ∀ μ', q_bld μ' μ0 b 12 (F12_46 b) (C12_46 b) 52 102076 → Kn [.ref b] μ') : (q_spf Value.ref (fun _ => True) 12 55 (q_r 0) (q_na .int (q_k 220))) [.ref b] μ Kn Kr :=
  q_st_na (a := b) (ci := 12) (k := 55) (n := 220) g45 rfl (by decide) (by decide) (by decide) (by decide) (by decide) kk
theorem k12_s46 {μ μ0 : q_M} {b : Nat} {Kn : List Value → q_M → Prop} {Kr : Option Value → q_M → Prop} (g46 : q_bld μ μ0 b 12 (F12_46 b) (C12_46 b) 52 102076) (kk : ∀ μ', q_bld μ' μ0 b 12 (F12_47 b) (C12_47 b) 51 102046 → Kn [.ref b] μ') : (q_spf Value.ref (fun _ => True) 12 56 (q_r 0) (q_na .int (q_k 30))) [.ref b] μ Kn Kr :=
  q_st_na (a := b) (ci := 12) (k := 56) (n := 30) g46 rfl (by decide) (by decide) (by decide) (by decide) (by decide) kk
theorem k12_s47 {μ μ0 : q_M} {b : Nat} {Kn : List Value → q_M → Prop} {Kr : Option Value → q_M → Prop} (g47 : q_bld μ μ0 b 12 (F12_47 b) (C12_47 b) 51 102046) (kk : ∀ μ', q_bld μ' μ0 b 12 (F12_48 b) (C12_48 b) 50 99016 → Kn [.ref b] μ') : (q_spf Value.ref (fun _ => True) 12 57 (q_r 0) (q_na .int (q_k 3030))) [.ref b] μ Kn Kr :=
  q_st_na (a := b) (ci := 12) (k := 57) (n := 3030) g47 rfl (by decide) (by decide) (by decide) (by decide) (by decide) kk
theorem k12_s48 {μ μ0 : q_M} {b : Nat} {Kn : List Value → q_M → Prop} {Kr : Option Value → q_M → Prop} (g48 : q_bld μ μ0 b 12 (F12_48 b) (C12_48 b) 50 99016) (kk : ∀ μ', q_bld μ' μ0 b 12 (F12_49 b) (C12_49 b) 49 99011 → Kn [.ref b] μ') : (q_spf Value.ref (fun _ => True) 12 59 (q_r 0) (q_na .int (q_k 5))) [.ref b] μ Kn Kr :=
  q_st_na (a := b) (ci := 12) (k := 59) (n := 5) g48 rfl (by decide) (by decide) (by decide) (by decide) (by decide) kk
theorem k12_s49 {μ μ0 : q_M} {b : Nat} {Kn : List Value → q_M → Prop} {Kr : Option Value → q_M → Prop} (g49 : q_bld μ μ0 b 12 (F12_49 b) (C12_49 b) 49 99011) (kk : ∀ μ', q_bld μ' μ0 b 12 (F12_50 b) (C12_50 b) 48 97277 → Kn [.ref b] μ') : (q_spf Value.ref (fun _ => True) 12 60 (q_r 0) (q_na .int (q_k 1734))) [.ref b] μ Kn Kr :=
  q_st_na (a := b) (ci := 12) (k := 60) (n := 1734) g49 rfl (by decide) (by decide) (by decide) (by decide) (by decide) kk
theorem k12_s50 {μ μ0 : q_M} {b : Nat} {Kn : List Value → q_M → Prop} {Kr : Option Value → q_M → Prop} (g50 : q_bld μ μ0 b 12 (F12_50 b) (C12_50 b) 48 97277) (kk : ∀ μ', q_bld μ' μ0 b 12 (F12_51 b) (C12_51 b) 47 97175 → Kn [.ref b] μ') : (q_spf Value.ref (fun _ => True) 12 61 (q_r 0) (q_na .int (q_k 102))) [.ref b] μ Kn Kr :=
  q_st_na (a := b) (ci := 12) (k := 61) (n := 102) g50 rfl (by decide) (by decide) (by decide) (by decide) (by decide) kk
theorem k12_s51 {μ μ0 : q_M} {b : Nat} {Kn : List Value → q_M → Prop} {Kr : Option Value → q_M → Prop} (g51 : q_bld μ μ0 b 12 (F12_51 b) (C12_51 b) 47 97175) (kk : ∀ μ', q_bld μ' μ0 b 12 (F12_52 b) (C12_52 b) 46 97135 → Kn [.ref b] μ') : (q_spf Value.ref (fun _ => True) 12 62 (q_r 0) (q_na .boolean (q_k 40))) [.ref b] μ Kn Kr :=
  q_st_na (a := b) (ci := 12) (k := 62) (n := 40) g51 rfl (by decide) (by decide) (by decide) (by decide) (by decide) kk
theorem k12_s52 {μ μ0 : q_M} {b : Nat} {Kn : List Value → q_M → Prop} {Kr : Option Value → q_M → Prop} (g52 : q_bld μ μ0 b 12 (F12_52 b) (C12_52 b) 46 97135) (kk : ∀ μ', q_bld μ' μ0 b 12 (F12_53 b) (C12_53 b) 45 97095 → Kn [.ref b] μ') : (q_spf Value.ref (fun _ => True) 12 63 (q_r 0) (q_na .int (q_k 40))) [.ref b] μ Kn Kr :=
  q_st_na (a := b) (ci := 12) (k := 63) (n := 40) g52 rfl (by decide) (by decide) (by decide) (by decide) (by decide) kk
theorem k12_s53 {μ μ0 : q_M} {b : Nat} {Kn : List Value → q_M → Prop} {Kr : Option Value → q_M → Prop} (g53 : q_bld μ μ0 b 12 (F12_53 b) (C12_53 b) 45 97095) (kk : ∀ μ', q_bld μ' μ0 b 12 (F12_54 b) (C12_54 b) 44 96875 → Kn [.ref b] μ') : (q_spf Value.ref (fun _ => True) 12 64 (q_r 0) (q_na .int (q_k 220))) [.ref b] μ Kn Kr :=
  q_st_na (a := b) (ci := 12) (k := 64) (n := 220) g53 rfl (by decide) (by decide) (by decide) (by decide) (by decide) kk
theorem k12_s54 {μ μ0 : q_M} {b : Nat} {Kn : List Value → q_M → Prop} {Kr : Option Value → q_M → Prop} (g54 : q_bld μ μ0 b 12 (F12_54 b) (C12_54 b) 44 96875) (kk : ∀ μ', q_bld μ' μ0 b 12 (F12_55 b) (C12_55 b) 43 96655 → Kn [.ref b] μ') : (q_spf Value.ref (fun _ => True) 12 65 (q_r 0) (q_na .int (q_k 220))) [.ref b] μ Kn Kr :=
  q_st_na (a := b) (ci := 12) (k := 65) (n := 220) g54 rfl (by decide) (by decide) (by decide) (by decide) (by decide) kk
theorem k12_s55 {μ μ0 : q_M} {b : Nat} {Kn : List Value → q_M → Prop} {Kr : Option Value → q_M → Prop} (g55 : q_bld μ μ0 b 12 (F12_55 b) (C12_55 b) 43 96655) (kk : ∀ μ', q_bld μ' μ0 b 12 (F12_56 b) (C12_56 b) 42 96647 → Kn [.ref b] μ') : (q_spf Value.ref (fun _ => True) 12 70 (q_r 0) (q_na .int (q_k 8))) [.ref b] μ Kn Kr :=
  q_st_na (a := b) (ci := 12) (k := 70) (n := 8) g55 rfl (by decide) (by decide) (by decide) (by decide) (by decide) kk
theorem k12_s56 {μ μ0 : q_M} {b : Nat} {Kn : List Value → q_M → Prop} {Kr : Option Value → q_M → Prop} (g56 : q_bld μ μ0 b 12 (F12_56 b) (C12_56 b) 42 96647) (kk : ∀ μ', q_bld μ' μ0 b 12 (F12_57 b) (C12_57 b) 41 96227 → Kn [.ref b] μ') : (q_spf Value.ref (fun _ => True) 12 71 (q_r 0) (q_na .int (q_k 420))) [.ref b] μ Kn Kr :=
  q_st_na (a := b) (ci := 12) (k := 71) (n := 420) g56 rfl (by decide) (by decide) (by decide) (by decide) (by decide) kk
theorem k12_s57 {μ μ0 : q_M} {b : Nat} {Kn : List Value → q_M → Prop} {Kr : Option Value → q_M → Prop} (g57 : q_bld μ μ0 b 12 (F12_57 b) (C12_57 b) 41 96227) (kk : ∀ μ', q_bld μ' μ0 b 12 (F12_58 b) (C12_58 b) 40 95807 → Kn [.ref b] μ') : (q_spf Value.ref (fun _ => True) 12 72 (q_r 0) (q_na .int (q_k 420))) [.ref b] μ Kn Kr :=
  q_st_na (a := b) (ci := 12) (k := 72) (n := 420) g57 rfl (by decide) (by decide) (by decide) (by decide) (by decide) kk
theorem k12_s58 {μ μ0 : q_M} {b : Nat} {Kn : List Value → q_M → Prop} {Kr : Option Value → q_M → Prop} (g58 : q_bld μ μ0 b 12 (F12_58 b) (C12_58 b) 40 95807) (kk : ∀ μ', q_bld μ' μ0 b 12 (F12_59 b) (C12_59 b) 39 95805 → Kn [.ref b] μ') : (q_spf Value.ref (fun _ => True) 12 73 (q_r 0) (q_na .int (q_k 2))) [.ref b] μ Kn Kr :=
  q_st_na (a := b) (ci := 12) (k := 73) (n := 2) g58 rfl (by decide) (by decide) (by decide) (by decide) (by decide) kk
theorem k12_s59 {μ μ0 : q_M} {b : Nat} {Kn : List Value → q_M → Prop} {Kr : Option Value → q_M → Prop} (g59 : q_bld μ μ0 b 12 (F12_59 b) (C12_59 b) 39 95805) (kk : ∀ μ', q_bld μ' μ0 b 12 (F12_60 b) (C12_60 b) 38 95764 → Kn [.ref b] μ') : (q_spf Value.ref (fun _ => True) 12 74 (q_r 0) (q_na .int (q_k 41))) [.ref b] μ Kn Kr :=
  q_st_na (a := b) (ci := 12) (k := 74) (n := 41) g59 rfl (by decide) (by decide) (by decide) (by decide) (by decide) kk
theorem k12_s60 {μ μ0 : q_M} {b : Nat} {Kn : List Value → q_M → Prop} {Kr : Option Value → q_M → Prop} (g60 : q_bld μ μ0 b 12 (F12_60 b) (C12_60 b) 38 95764) (kk : ∀ μ', q_bld μ' μ0 b 12 (F12_61 b) (C12_61 b) 37 51664 → Kn [.ref b] μ') : (q_spf Value.ref (fun _ => True) 12 75 (q_r 0) (q_na .int (q_k 44100))) [.ref b] μ Kn Kr :=
  q_st_na (a := b) (ci := 12) (k := 75) (n := 44100) g60 rfl (by decide) (by decide) (by decide) (by decide) (by decide) kk
theorem k12_s61 {μ μ0 : q_M} {b : Nat} {Kn : List Value → q_M → Prop} {Kr : Option Value → q_M → Prop} (g61 : q_bld μ μ0 b 12 (F12_61 b) (C12_61 b) 37 51664) (kk : ∀ μ', q_bld μ' μ0 b 12 (F12_62 b) (C12_62 b) 36 7143 → Kn [.ref b] μ') : (q_spf Value.ref (fun _ => True) 12 76 (q_r 0) (q_na .int (q_k 44521))) [.ref b] μ Kn Kr :=
  q_st_na (a := b) (ci := 12) (k := 76) (n := 44521) g61 rfl (by decide) (by decide) (by decide) (by decide) (by decide) kk
theorem k12_s62 {μ μ0 : q_M} {b : Nat} {Kn : List Value → q_M → Prop} {Kr : Option Value → q_M → Prop} (g62 : q_bld μ μ0 b 12 (F12_62 b) (C12_62 b) 36 7143) (kk : ∀ μ', q_bld μ' μ0 b 12 (F12_63 b) (C12_63 b) 35 6923 → Kn [.ref b] μ') : (q_spf Value.ref (fun _ => True) 12 78 (q_r 0) (q_na .int (q_k 220))) [.ref b] μ Kn Kr :=
  q_st_na (a := b) (ci := 12) (k := 78) (n := 220) g62 rfl (by decide) (by decide) (by decide) (by decide) (by decide) kk
theorem k12_s63 {μ μ0 : q_M} {b : Nat} {Kn : List Value → q_M → Prop} {Kr : Option Value → q_M → Prop} (g63 : q_bld μ μ0 b 12 (F12_63 b) (C12_63 b) 35 6923) (kk : ∀ μ', q_bld μ' μ0 b 12 (F12_64 b) (C12_64 b) 34 6703 → Kn [.ref b] μ') : (q_spf Value.ref (fun _ => True) 12 79 (q_r 0) (q_na .int (q_k 220))) [.ref b] μ Kn Kr :=
  q_st_na (a := b) (ci := 12) (k := 79) (n := 220) g63 rfl (by decide) (by decide) (by decide) (by decide) (by decide) kk
theorem k12_s64 {μ μ0 : q_M} {b : Nat} {Kn : List Value → q_M → Prop} {Kr : Option Value → q_M → Prop} (g64 : q_bld μ μ0 b 12 (F12_64 b) (C12_64 b) 34 6703) (kk : ∀ μ', q_bld μ' μ0 b 12 (F12_65 b) (C12_65 b) 33 6483 → Kn [.ref b] μ') : (q_spf Value.ref (fun _ => True) 12 80 (q_r 0) (q_na .int (q_k 220))) [.ref b] μ Kn Kr :=
  q_st_na (a := b) (ci := 12) (k := 80) (n := 220) g64 rfl (by decide) (by decide) (by decide) (by decide) (by decide) kk
theorem k12_s65 {μ μ0 : q_M} {b : Nat} {Kn : List Value → q_M → Prop} {Kr : Option Value → q_M → Prop} (g65 : q_bld μ μ0 b 12 (F12_65 b) (C12_65 b) 33 6483) (kk : ∀ μ', q_bld μ' μ0 b 12 (F12_66 b) (C12_66 b) 32 6263 → Kn [.ref b] μ') : (q_spf Value.ref (fun _ => True) 12 81 (q_r 0) (q_na .int (q_k 220))) [.ref b] μ Kn Kr :=
  q_st_na (a := b) (ci := 12) (k := 81) (n := 220) g65 rfl (by decide) (by decide) (by decide) (by decide) (by decide) kk
theorem k12_s66 {μ μ0 : q_M} {b : Nat} {Kn : List Value → q_M → Prop} {Kr : Option Value → q_M → Prop} (g66 : q_bld μ μ0 b 12 (F12_66 b) (C12_66 b) 32 6263) (kk : ∀ μ', q_bld μ' μ0 b 12 (F12_67 b) (C12_67 b) 31 6043 → Kn [.ref b] μ') : (q_spf Value.ref (fun _ => True) 12 82 (q_r 0) (q_na .int (q_k 220))) [.ref b] μ Kn Kr :=
  q_st_na (a := b) (ci := 12) (k := 82) (n := 220) g66 rfl (by decide) (by decide) (by decide) (by decide) (by decide) kk
theorem k12_s67 {μ μ0 : q_M} {b : Nat} {Kn : List Value → q_M → Prop} {Kr : Option Value → q_M → Prop} (g67 : q_bld μ μ0 b 12 (F12_67 b) (C12_67 b) 31 6043) (kk : ∀ μ', q_bld μ' μ0 b 12 (F12_68 b) (C12_68 b) 30 5823 → Kn [.ref b] μ') : (q_spf Value.ref (fun _ => True) 12 83 (q_r 0) (q_na .int (q_k 220))) [.ref b] μ Kn Kr :=
  q_st_na (a := b) (ci := 12) (k := 83) (n := 220) g67 rfl (by decide) (by decide) (by decide) (by decide) (by decide) kk
theorem k12_s68 {μ μ0 : q_M} {b : Nat} {Kn : List Value → q_M → Prop} {Kr : Option Value → q_M → Prop} (g68 : q_bld μ μ0 b 12 (F12_68 b) (C12_68 b) 30 5823) (kk : ∀ μ', q_bld μ' μ0 b 12 (F12_69 b) (C12_69 b) 29 5403 → Kn [.ref b] μ') : (q_spf Value.ref (fun _ => True) 12 85 (q_r 0) (q_na .int (q_k 420))) [.ref b] μ Kn Kr :=
  q_st_na (a := b) (ci := 12) (k := 85) (n := 420) g68 rfl (by decide) (by decide) (by decide) (by decide) (by decide) kk
theorem k12_s69 {μ μ0 : q_M} {b : Nat} {Kn : List Value → q_M → Prop} {Kr : Option Value → q_M → Prop} (g69 : q_bld μ μ0 b 12 (F12_69 b) (C12_69 b) 29 5403) (kk : ∀ μ', q_bld μ' μ0 b 12 (F12_70 b) (C12_70 b) 28 4983 → Kn [.ref b] μ') : (q_spf Value.ref (fun _ => True) 12 86 (q_r 0) (q_na .int (q_k 420))) [.ref b] μ Kn Kr :=
  q_st_na (a := b) (ci := 12) (k := 86) (n := 420) g69 rfl (by decide) (by decide) (by decide) (by decide) (by decide) kk
theorem k12_s70 {μ μ0 : q_M} {b : Nat} {Kn : List Value → q_M → Prop} {Kr : Option Value → q_M → Prop} (g70 : q_bld μ μ0 b 12 (F12_70 b) (C12_70 b) 28 4983) (kk : ∀ μ', q_bld μ' μ0 b 12 (F12_71 b) (C12_71 b) 27 4563 → Kn [.ref b] μ') : (q_spf Value.ref (fun _ => True) 12 87 (q_r 0) (q_na .int (q_k 420))) [.ref b] μ Kn Kr :=
  q_st_na (a := b) (ci := 12) (k := 87) (n := 420) g70 rfl (by decide) (by decide) (by decide) (by decide) (by decide) kk
theorem k12_s71 {μ μ0 : q_M} {b : Nat} {Kn : List Value → q_M → Prop} {Kr : Option Value → q_M → Prop} (g71 : q_bld μ μ0 b 12 (F12_71 b) (C12_71 b) 27 4563) (kk : ∀ μ', q_bld μ' μ0 b 12 (F12_72 b) (C12_72 b) 26 4143 → Kn [.ref b] μ') : (q_spf Value.ref (fun _ => True) 12 88 (q_r 0) (q_na .int (q_k 420))) [.ref b] μ Kn Kr :=
  q_st_na (a := b) (ci := 12) (k := 88) (n := 420) g71 rfl (by decide) (by decide) (by decide) (by decide) (by decide) kk
theorem k12_s72 {μ μ0 : q_M} {b : Nat} {Kn : List Value → q_M → Prop} {Kr : Option Value → q_M → Prop} (g72 : q_bld μ μ0 b 12 (F12_72 b) (C12_72 b) 26 4143) (kk : ∀ μ', q_bld μ' μ0 b 12 (F12_73 b) (C12_73 b) 25 3723 → Kn [.ref b] μ') : (q_spf Value.ref (fun _ => True) 12 89 (q_r 0) (q_na .boolean (q_k 420))) [.ref b] μ Kn Kr :=
  q_st_na (a := b) (ci := 12) (k := 89) (n := 420) g72 rfl (by decide) (by decide) (by decide) (by decide) (by decide) kk
theorem k12_s73 {μ μ0 : q_M} {b : Nat} {Kn : List Value → q_M → Prop} {Kr : Option Value → q_M → Prop} (g73 : q_bld μ μ0 b 12 (F12_73 b) (C12_73 b) 25 3723) (kk : ∀ μ', q_bld μ' μ0 b 12 (F12_74 b) (C12_74 b) 24 3503 → Kn [.ref b] μ') : (q_spf Value.ref (fun _ => True) 12 90 (q_r 0) (q_na .int (q_k 220))) [.ref b] μ Kn Kr :=
  q_st_na (a := b) (ci := 12) (k := 90) (n := 220) g73 rfl (by decide) (by decide) (by decide) (by decide) (by decide) kk
theorem k12_s74 {μ μ0 : q_M} {b : Nat} {Kn : List Value → q_M → Prop} {Kr : Option Value → q_M → Prop} (g74 : q_bld μ μ0 b 12 (F12_74 b) (C12_74 b) 24 3503) (kk : ∀ μ', q_bld μ' μ0 b 12 (F12_75 b) (C12_75 b) 23 3283 → Kn [.ref b] μ') : (q_spf Value.ref (fun _ => True) 12 91 (q_r 0) (q_na .int (q_k 220))) [.ref b] μ Kn Kr :=
  q_st_na (a := b) (ci := 12) (k := 91) (n := 220) g74 rfl (by decide) (by decide) (by decide) (by decide) (by decide) kk
theorem k12_s75 {μ μ0 : q_M} {b : Nat} {Kn : List Value → q_M → Prop} {Kr : Option Value → q_M → Prop} (g75 : q_bld μ μ0 b 12 (F12_75 b) (C12_75 b) 23 3283) (kk : ∀ μ', q_bld μ' μ0 b 12 (F12_76 b) (C12_76 b) 22 3219 → Kn [.ref b] μ') : (q_spf Value.ref (fun _ => True) 12 92 (q_r 0) (q_na .int (q_k 64))) [.ref b] μ Kn Kr :=
  q_st_na (a := b) (ci := 12) (k := 92) (n := 64) g75 rfl (by decide) (by decide) (by decide) (by decide) (by decide) kk
theorem k12_s76 {μ μ0 : q_M} {b : Nat} {Kn : List Value → q_M → Prop} {Kr : Option Value → q_M → Prop} (g76 : q_bld μ μ0 b 12 (F12_76 b) (C12_76 b) 22 3219) (kk : ∀ μ', q_bld μ' μ0 b 12 (F12_77 b) (C12_77 b) 21 3178 → Kn [.ref b] μ') : (q_spf Value.ref (fun _ => True) 12 95 (q_r 0) (q_na .int (q_k 41))) [.ref b] μ Kn Kr :=
  q_st_na (a := b) (ci := 12) (k := 95) (n := 41) g76 rfl (by decide) (by decide) (by decide) (by decide) (by decide) kk
theorem k12_s77 {μ μ0 : q_M} {b : Nat} {Kn : List Value → q_M → Prop} {Kr : Option Value → q_M → Prop} (g77 : q_bld μ μ0 b 12 (F12_77 b) (C12_77 b) 21 3178) (kk : ∀ μ', q_bld μ' μ0 b 12 (F12_78 b) (C12_78 b) 20 3137 → Kn [.ref b] μ') : (q_spf Value.ref (fun _ => True) 12 96 (q_r 0) (q_na .int (q_k 41))) [.ref b] μ Kn Kr :=
  q_st_na (a := b) (ci := 12) (k := 96) (n := 41) g77 rfl (by decide) (by decide) (by decide) (by decide) (by decide) kk
theorem k12_s78 {μ μ0 : q_M} {b : Nat} {Kn : List Value → q_M → Prop} {Kr : Option Value → q_M → Prop} (g78 : q_bld μ μ0 b 12 (F12_78 b) (C12_78 b) 20 3137) (kk : ∀ μ', q_bld μ' μ0 b 12 (F12_79 b) (C12_79 b) 19 3096 → Kn [.ref b] μ') : (q_spf Value.ref (fun _ => True) 12 97 (q_r 0) (q_na .int (q_k 41))) [.ref b] μ Kn Kr :=
  q_st_na (a := b) (ci := 12) (k := 97) (n := 41) g78 rfl (by decide) (by decide) (by decide) (by decide) (by decide) kk
theorem k12_s79 {μ μ0 : q_M} {b : Nat} {Kn : List Value → q_M → Prop} {Kr : Option Value → q_M → Prop} (g79 : q_bld μ μ0 b 12 (F12_79 b) (C12_79 b) 19 3096) (kk : ∀ μ', q_bld μ' μ0 b 12 (F12_80 b) (C12_80 b) 18 3055 → Kn [.ref b] μ') : (q_spf Value.ref (fun _ => True) 12 99 (q_r 0) (q_na .int (q_k 41))) [.ref b] μ Kn Kr :=
  q_st_na (a := b) (ci := 12) (k := 99) (n := 41) g79 rfl (by decide) (by decide) (by decide) (by decide) (by decide) kk
theorem k12_s80 {μ μ0 : q_M} {b : Nat} {Kn : List Value → q_M → Prop} {Kr : Option Value → q_M → Prop} (g80 : q_bld μ μ0 b 12 (F12_80 b) (C12_80 b) 18 3055) (kk : ∀ μ', q_bld μ' μ0 b 12 (F12_81 b) (C12_81 b) 17 3014 → Kn [.ref b] μ') : (q_spf Value.ref (fun _ => True) 12 100 (q_r 0) (q_na .int (q_k 41))) [.ref b] μ Kn Kr :=
  q_st_na (a := b) (ci := 12) (k := 100) (n := 41) g80 rfl (by decide) (by decide) (by decide) (by decide) (by decide) kk
theorem k12_s81 {μ μ0 : q_M} {b : Nat} {Kn : List Value → q_M → Prop} {Kr : Option Value → q_M → Prop} (g81 : q_bld μ μ0 b 12 (F12_81 b) (C12_81 b) 17 3014) (kk : ∀ μ', q_bld μ' μ0 b 12 (F12_82 b) (C12_82 b) 16 3008 → Kn [.ref b] μ') : (q_spf Value.ref (fun _ => True) 12 104 (q_r 0) (q_na .int (q_k 6))) [.ref b] μ Kn Kr :=
  q_st_na (a := b) (ci := 12) (k := 104) (n := 6) g81 rfl (by decide) (by decide) (by decide) (by decide) (by decide) kk
theorem k12_s82 {μ μ0 : q_M} {b : Nat} {Kn : List Value → q_M → Prop} {Kr : Option Value → q_M → Prop} (g82 : q_bld μ μ0 b 12 (F12_82 b) (C12_82 b) 16 3008) (kk : ∀ μ', q_bld μ' μ0 b 12 (F12_83 b) (C12_83 b) 15 3002 → Kn [.ref b] μ') : (q_spf Value.ref (fun _ => True) 12 105 (q_r 0) (q_na .int (q_k 6))) [.ref b] μ Kn Kr :=
  q_st_na (a := b) (ci := 12) (k := 105) (n := 6) g82 rfl (by decide) (by decide) (by decide) (by decide) (by decide) kk
theorem k12_s83 {μ μ0 : q_M} {b : Nat} {Kn : List Value → q_M → Prop} {Kr : Option Value → q_M → Prop} (g83 : q_bld μ μ0 b 12 (F12_83 b) (C12_83 b) 15 3002) (kk : ∀ μ', q_bld μ' μ0 b 12 (F12_84 b) (C12_84 b) 14 2996 → Kn [.ref b] μ') : (q_spf Value.ref (fun _ => True) 12 106 (q_r 0) (q_na .boolean (q_k 6))) [.ref b] μ Kn Kr :=
  q_st_na (a := b) (ci := 12) (k := 106) (n := 6) g83 rfl (by decide) (by decide) (by decide) (by decide) (by decide) kk
theorem k12_s84 {μ μ0 : q_M} {b : Nat} {Kn : List Value → q_M → Prop} {Kr : Option Value → q_M → Prop} (g84 : q_bld μ μ0 b 12 (F12_84 b) (C12_84 b) 14 2996) (kk : ∀ μ', q_bld μ' μ0 b 12 (F12_85 b) (C12_85 b) 13 2116 → Kn [.ref b] μ') : (q_spf Value.ref (fun _ => True) 12 108 (q_r 0) (q_na .int (q_k 880))) [.ref b] μ Kn Kr :=
  q_st_na (a := b) (ci := 12) (k := 108) (n := 880) g84 rfl (by decide) (by decide) (by decide) (by decide) (by decide) kk
theorem k12_s85 {μ μ0 : q_M} {b : Nat} {Kn : List Value → q_M → Prop} {Kr : Option Value → q_M → Prop} (g85 : q_bld μ μ0 b 12 (F12_85 b) (C12_85 b) 13 2116) (kk : ∀ μ', q_bld μ' μ0 b 12 (F12_86 b) (C12_86 b) 12 1896 → Kn [.ref b] μ') : (q_spf Value.ref (fun _ => True) 12 109 (q_r 0) (q_na .int (q_k 220))) [.ref b] μ Kn Kr :=
  q_st_na (a := b) (ci := 12) (k := 109) (n := 220) g85 rfl (by decide) (by decide) (by decide) (by decide) (by decide) kk
theorem k12_s86 {μ μ0 : q_M} {b : Nat} {Kn : List Value → q_M → Prop} {Kr : Option Value → q_M → Prop} (g86 : q_bld μ μ0 b 12 (F12_86 b) (C12_86 b) 12 1896) (kk : ∀ μ', q_bld μ' μ0 b 12 (F12_87 b) (C12_87 b) 11 1676 → Kn [.ref b] μ') : (q_spf Value.ref (fun _ => True) 12 110 (q_r 0) (q_na .int (q_k 220))) [.ref b] μ Kn Kr :=
  q_st_na (a := b) (ci := 12) (k := 110) (n := 220) g86 rfl (by decide) (by decide) (by decide) (by decide) (by decide) kk
theorem k12_s87 {μ μ0 : q_M} {b : Nat} {Kn : List Value → q_M → Prop} {Kr : Option Value → q_M → Prop} (g87 : q_bld μ μ0 b 12 (F12_87 b) (C12_87 b) 11 1676) (kk : ∀ μ', q_bld μ' μ0 b 12 (F12_88 b) (C12_88 b) 10 796 → Kn [.ref b] μ') : (q_spf Value.ref (fun _ => True) 12 112 (q_r 0) (q_na .int (q_k 880))) [.ref b] μ Kn Kr :=
  q_st_na (a := b) (ci := 12) (k := 112) (n := 880) g87 rfl (by decide) (by decide) (by decide) (by decide) (by decide) kk
theorem k12_s88 {μ μ0 : q_M} {b : Nat} {Kn : List Value → q_M → Prop} {Kr : Option Value → q_M → Prop} (g88 : q_bld μ μ0 b 12 (F12_88 b) (C12_88 b) 10 796) (kk : ∀ μ', q_bld μ' μ0 b 12 (F12_89 b) (C12_89 b) 9 792 → Kn [.ref b] μ') : (q_spf Value.ref (fun _ => True) 12 113 (q_r 0) (q_na .int (q_k 4))) [.ref b] μ Kn Kr :=
  q_st_na (a := b) (ci := 12) (k := 113) (n := 4) g88 rfl (by decide) (by decide) (by decide) (by decide) (by decide) kk
theorem k12_s89 {μ μ0 : q_M} {b : Nat} {Kn : List Value → q_M → Prop} {Kr : Option Value → q_M → Prop} (g89 : q_bld μ μ0 b 12 (F12_89 b) (C12_89 b) 9 792) (kk : ∀ μ', q_bld μ' μ0 b 12 (F12_90 b) (C12_90 b) 8 572 → Kn [.ref b] μ') : (q_spf Value.ref (fun _ => True) 12 115 (q_r 0) (q_na .int (q_k 220))) [.ref b] μ Kn Kr :=
  q_st_na (a := b) (ci := 12) (k := 115) (n := 220) g89 rfl (by decide) (by decide) (by decide) (by decide) (by decide) kk
theorem k12_s90 {μ μ0 : q_M} {b : Nat} {Kn : List Value → q_M → Prop} {Kr : Option Value → q_M → Prop} (g90 : q_bld μ μ0 b 12 (F12_90 b) (C12_90 b) 8 572) (kk : ∀ μ', q_bld μ' μ0 b 12 (F12_91 b) (C12_91 b) 7 352 → Kn [.ref b] μ') : (q_spf Value.ref (fun _ => True) 12 116 (q_r 0) (q_na .int (q_k 220))) [.ref b] μ Kn Kr :=
  q_st_na (a := b) (ci := 12) (k := 116) (n := 220) g90 rfl (by decide) (by decide) (by decide) (by decide) (by decide) kk
theorem k12_s91 {μ μ0 : q_M} {b : Nat} {Kn : List Value → q_M → Prop} {Kr : Option Value → q_M → Prop} (g91 : q_bld μ μ0 b 12 (F12_91 b) (C12_91 b) 7 352) (kk : ∀ μ', q_bld μ' μ0 b 12 (F12_92 b) (C12_92 b) 6 292 → Kn [.ref b] μ') : (q_spf Value.ref (fun _ => True) 12 117 (q_r 0) (q_na .int (q_k 60))) [.ref b] μ Kn Kr :=
  q_st_na (a := b) (ci := 12) (k := 117) (n := 60) g91 rfl (by decide) (by decide) (by decide) (by decide) (by decide) kk
theorem k12_s92 {μ μ0 : q_M} {b : Nat} {Kn : List Value → q_M → Prop} {Kr : Option Value → q_M → Prop} (g92 : q_bld μ μ0 b 12 (F12_92 b) (C12_92 b) 6 292) (kk : ∀ μ', q_bld μ' μ0 b 12 (F12_93 b) (C12_93 b) 5 278 → Kn [.ref b] μ') : (q_spf Value.ref (fun _ => True) 12 118 (q_r 0) (q_na .int (q_k 14))) [.ref b] μ Kn Kr :=
  q_st_na (a := b) (ci := 12) (k := 118) (n := 14) g92 rfl (by decide) (by decide) (by decide) (by decide) (by decide) kk
theorem k12_s93 {μ μ0 : q_M} {b : Nat} {Kn : List Value → q_M → Prop} {Kr : Option Value → q_M → Prop} (g93 : q_bld μ μ0 b 12 (F12_93 b) (C12_93 b) 5 278) (kk : ∀ μ', q_bld μ' μ0 b 12 (F12_94 b) (C12_94 b) 4 208 → Kn [.ref b] μ') : (q_spf Value.ref (fun _ => True) 12 119 (q_r 0) (q_na .int (q_k 70))) [.ref b] μ Kn Kr :=
  q_st_na (a := b) (ci := 12) (k := 119) (n := 70) g93 rfl (by decide) (by decide) (by decide) (by decide) (by decide) kk
theorem k12_s94 {μ μ0 : q_M} {b : Nat} {Kn : List Value → q_M → Prop} {Kr : Option Value → q_M → Prop} (g94 : q_bld μ μ0 b 12 (F12_94 b) (C12_94 b) 4 208) (kk : ∀ μ', q_bld μ' μ0 b 12 (F12_95 b) (C12_95 b) 3 204 → Kn [.ref b] μ') : (q_spf Value.ref (fun _ => True) 12 122 (q_r 0) (q_na .int (q_k 4))) [.ref b] μ Kn Kr :=
  q_st_na (a := b) (ci := 12) (k := 122) (n := 4) g94 rfl (by decide) (by decide) (by decide) (by decide) (by decide) kk
theorem k12_s95 {μ μ0 : q_M} {b : Nat} {Kn : List Value → q_M → Prop} {Kr : Option Value → q_M → Prop} (g95 : q_bld μ μ0 b 12 (F12_95 b) (C12_95 b) 3 204) (kk : ∀ μ', q_bld μ' μ0 b 12 (F12_96 b) (C12_96 b) 2 200 → Kn [.ref b] μ') : (q_spf Value.ref (fun _ => True) 12 123 (q_r 0) (q_na .int (q_k 4))) [.ref b] μ Kn Kr :=
  q_st_na (a := b) (ci := 12) (k := 123) (n := 4) g95 rfl (by decide) (by decide) (by decide) (by decide) (by decide) kk
theorem k12_s96 {μ μ0 : q_M} {b : Nat} {Kn : List Value → q_M → Prop} {Kr : Option Value → q_M → Prop} (g96 : q_bld μ μ0 b 12 (F12_96 b) (C12_96 b) 2 200) (kk : ∀ μ', q_bld μ' μ0 b 12 (F12_97 b) (C12_97 b) 1 40 → Kn [.ref b] μ') : (q_spf Value.ref (fun _ => True) 12 124 (q_r 0) (q_na .int (q_k 160))) [.ref b] μ Kn Kr :=
  q_st_na (a := b) (ci := 12) (k := 124) (n := 160) g96 rfl (by decide) (by decide) (by decide) (by decide) (by decide) kk
theorem k12_s97 {μ μ0 : q_M} {b : Nat} {Kn : List Value → q_M → Prop} {Kr : Option Value → q_M → Prop} (g97 : q_bld μ μ0 b 12 (F12_97 b) (C12_97 b) 1 40) (kk : ∀ μ', q_bld μ' μ0 b 12 (F12_98 b) (C12_98 b) 0 0 → Kn [.ref b] μ') : (q_spf Value.ref (fun _ => True) 12 125 (q_r 0) (q_na .int (q_k 40))) [.ref b] μ Kn Kr :=
  q_st_na (a := b) (ci := 12) (k := 125) (n := 40) g97 rfl (by decide) (by decide) (by decide) (by decide) (by decide) kk
theorem k12_s98 {μ μ0 : q_M} {b : Nat} {Kn : List Value → q_M → Prop} {Kr : Option Value → q_M → Prop} (g98 : q_bld μ μ0 b 12 (F12_98 b) (C12_98 b) 0 0) (kk : ∀ μ', q_bld μ' μ0 b 12 (F12_98 b) (C12_99 b) 0 0 → Kn [.ref b] μ') : (q_blk 1 (q_sq (q_sdec Value.int 1 (q_k 0)) (q_wh (q_cm q_Rlt (q_l 1) (q_k 24)) (q_sq (q_sai (q_fr 12 0 (q_r 0)) (q_l 1) (q_k 3)) (q_sinc 1 1))))) [.ref b] μ Kn Kr :=
  q_st_il (a := b) (ci := 12) (kf := 0) (j0 := 0) (N := 24) (f := fun _ => .int 0) (v := 3) g98 (fsn (by decide) (fsn (by decide) (fsn (by decide) (fsn (by decide) (fsn (by decide) (fsn (by decide) (fsn (by decide) (fsn (by decide) (fsn (by decide) (fsn (by decide) (fsn (by decide) (fsn (by decide) (fsn (by decide) (fsn (by decide) (fsn (by decide) (fsn (by decide) (fsn (by decide) (fsn (by decide) (fsn (by decide) (fsn (by decide) (fsn (by decide) (fsn (by decide) (fsn (by decide) (fsn (by decide) (fsn (by decide) (fsn (by decide) (fsn (by decide) (fsn (by decide) (fsn (by decide) (fsn (by decide) (fsn (by decide) (fsn (by decide) (fsn (by decide) (fsn (by decide) (fsn (by decide) (fsn (by decide) (fsn (by decide) (fsn (by decide) (fsn (by decide) (fsn (by decide) (fsn (by decide) (fsn (by decide) (fsn (by decide) (fsn (by decide) (fsn (by decide) (fsn (by decide) (fsn (by decide) (fsn (by decide) (fsn (by decide) (fsn (by decide) (fsn (by decide) (fsn (by decide) (fsn (by decide) (fsn (by decide) (fsn (by decide) (fsn (by decide) (fsn (by decide) (fsn (by decide) (fsn (by decide) (fsn (by decide) (fsn (by decide) (fsn (by decide) (fsn (by decide) (fsn (by decide) (fsn (by decide) (fsn (by decide) (fsn (by decide) (fsn (by decide) (fsn (by decide) (fsn (by decide) (fsn (by decide) (fsn (by decide) (fsn (by decide) (fsn (by decide) (fsn (by decide) (fsn (by decide) (fsn (by decide) (fsn (by decide) (fsn (by decide) (fsn (by decide) (fsn (by decide) (fsn (by decide) (fsn (by decide) (fsn (by decide) (fsn (by decide) (fsn (by decide) (fsn (by decide) (fsn (by decide) (fsn (by decide) (fsn (by decide) (fsn (by decide) (fsn (by decide) (fsn (by decide) (fsn (by decide) (fsn (by decide) (fsn (by decide) (fsn (by decide) (fse lC12_0)))))))))))))))))))))))))))))))))))))))))))))))))))))))))))))))))))))))))))))))))))))))))))))))))) (gt_app (gt_app (gt_app (gt_app (gt_app (gt_app (gt_app (gt_app (gt_app (gt_app (gt_app (gt_app (gt_app (gt_app (gt_app (gt_app (gt_app (gt_app (gt_app (gt_app (gt_app (gt_app (gt_app (gt_app (gt_app (gt_app (gt_app (gt_app (gt_app (gt_app (gt_app (gt_app (gt_app (gt_app (gt_app (gt_app (gt_app (gt_app (gt_app (gt_app (gt_app (gt_app (gt_app (gt_app (gt_app (gt_app (gt_app (gt_app (gt_app (gt_app (gt_app (gt_app (gt_app (gt_app (gt_app (gt_app (gt_app (gt_app (gt_app (gt_app (gt_app (gt_app (gt_app (gt_app (gt_app (gt_app (gt_app (gt_app (gt_app (gt_app (gt_app (gt_app (gt_app (gt_app (gt_app (gt_app (gt_app (gt_app (gt_app (gt_app (gt_app (gt_app (gt_app (gt_app (gt_app (gt_app (gt_app (gt_app (gt_app (gt_app (gt_app (gt_app (gt_app (gt_app (gt_app (gt_app (gt_app (gt_last lC12_0)))))))))))))))))))))))))))))))))))))))))))))))))))))))))))))))))))))))))))))))))))))))))))))))))) (by decide) kk
theorem k12_s99 {μ μ0 : q_M} {b : Nat} {Kn : List Value → q_M → Prop} {Kr : Option Value → q_M → Prop} (g99 : q_bld μ μ0 b 12 (F12_98 b) (C12_99 b) 0 0) (kk : ∀ μ', q_bld μ' μ0 b 12 (F12_98 b) (C12_100 b) 0 0 → Kn [.ref b] μ') : (q_blk 1 (q_sq (q_sdec Value.int 1 (q_k 0)) (q_wh (q_cm q_Rlt (q_l 1) (q_k 100)) (q_sq (q_sai (q_fr 12 15 (q_r 0)) (q_l 1) (q_k (-1))) (q_sinc 1 1))))) [.ref b] μ Kn Kr :=
  q_st_il (a := b) (ci := 12) (kf := 15) (j0 := 15) (N := 100) (f := fun _ => .int 0) (v := -1) g99 (fsn (by decide) (fsn (by decide) (fsn (by decide) (fsn (by decide) (fsn (by decide) (fsn (by decide) (fsn (by decide) (fsn (by decide) (fsn (by decide) (fsn (by decide) (fsn (by decide) (fsn (by decide) (fsn (by decide) (fsn (by decide) (fsn (by decide) (fsn (by decide) (fsn (by decide) (fsn (by decide) (fsn (by decide) (fsn (by decide) (fsn (by decide) (fsn (by decide) (fsn (by decide) (fsn (by decide) (fsn (by decide) (fsn (by decide) (fsn (by decide) (fsn (by decide) (fsn (by decide) (fsn (by decide) (fsn (by decide) (fsn (by decide) (fsn (by decide) (fsn (by decide) (fsn (by decide) (fsn (by decide) (fsn (by decide) (fsn (by decide) (fsn (by decide) (fsn (by decide) (fsn (by decide) (fsn (by decide) (fsn (by decide) (fsn (by decide) (fsn (by decide) (fsn (by decide) (fsn (by decide) (fsn (by decide) (fsn (by decide) (fsn (by decide) (fsn (by decide) (fsn (by decide) (fsn (by decide) (fsn (by decide) (fsn (by decide) (fsn (by decide) (fsn (by decide) (fsn (by decide) (fsn (by decide) (fsn (by decide) (fsn (by decide) (fsn (by decide) (fsn (by decide) (fsn (by decide) (fsn (by decide) (fsn (by decide) (fsn (by decide) (fsn (by decide) (fsn (by decide) (fsn (by decide) (fsn (by decide) (fsn (by decide) (fsn (by decide) (fsn (by decide) (fsn (by decide) (fsn (by decide) (fsn (by decide) (fsn (by decide) (fsn (by decide) (fsn (by decide) (fsn (by decide) (fsn (by decide) (fse lC12_15))))))))))))))))))))))))))))))))))))))))))))))))))))))))))))))))))))))))))))))))))) (gt_set_ne (by decide) (gt_app (gt_app (gt_app (gt_app (gt_app (gt_app (gt_app (gt_app (gt_app (gt_app (gt_app (gt_app (gt_app (gt_app (gt_app (gt_app (gt_app (gt_app (gt_app (gt_app (gt_app (gt_app (gt_app (gt_app (gt_app (gt_app (gt_app (gt_app (gt_app (gt_app (gt_app (gt_app (gt_app (gt_app (gt_app (gt_app (gt_app (gt_app (gt_app (gt_app (gt_app (gt_app (gt_app (gt_app (gt_app (gt_app (gt_app (gt_app (gt_app (gt_app (gt_app (gt_app (gt_app (gt_app (gt_app (gt_app (gt_app (gt_app (gt_app (gt_app (gt_app (gt_app (gt_app (gt_app (gt_app (gt_app (gt_app (gt_app (gt_app (gt_app (gt_app (gt_app (gt_app (gt_app (gt_app (gt_app (gt_app (gt_app (gt_app (gt_app (gt_app (gt_app (gt_last lC12_15)))))))))))))))))))))))))))))))))))))))))))))))))))))))))))))))))))))))))))))))))))) (by decide) kk
theorem k12_s100 {μ μ0 : q_M} {b : Nat} {Kn : List Value → q_M → Prop} {Kr : Option Value → q_M → Prop} (g100 : q_bld μ μ0 b 12 (F12_98 b) (C12_100 b) 0 0) (kk : ∀ μ', q_bld μ' μ0 b 12 (F12_98 b) (C12_101 b) 0 0 → Kn [.ref b] μ') : (q_blk 1 (q_sq (q_sdec Value.int 1 (q_k 0)) (q_wh (q_cm q_Rlt (q_l 1) (q_k 6)) (q_sq (q_sai (q_fr 12 104 (q_r 0)) (q_l 1) (q_k (-1))) (q_sinc 1 1))))) [.ref b] μ Kn Kr :=
  q_st_il (a := b) (ci := 12) (kf := 104) (j0 := 81) (N := 6) (f := fun _ => .int 0) (v := -1) g100 (fsn (by decide) (fsn (by decide) (fsn (by decide) (fsn (by decide) (fsn (by decide) (fsn (by decide) (fsn (by decide) (fsn (by decide) (fsn (by decide) (fsn (by decide) (fsn (by decide) (fsn (by decide) (fsn (by decide) (fsn (by decide) (fsn (by decide) (fsn (by decide) (fse lC12_81))))))))))))))))) (gt_set_ne (by decide) (gt_set_ne (by decide) (gt_app (gt_app (gt_app (gt_app (gt_app (gt_app (gt_app (gt_app (gt_app (gt_app (gt_app (gt_app (gt_app (gt_app (gt_app (gt_app (gt_last lC12_81))))))))))))))))))) (by decide) kk
theorem k12_s101 {μ μ0 : q_M} {b : Nat} {Kn : List Value → q_M → Prop} {Kr : Option Value → q_M → Prop} (g101 : q_bld μ μ0 b 12 (F12_98 b) (C12_101 b) 0 0) (kk : ∀ μ', q_bld μ' μ0 b 12 (F12_98 b) (C12_102 b) 0 0 → Kn [.ref b] μ') : (q_blk 1 (q_sq (q_sdec Value.int 1 (q_k 0)) (q_wh (q_cm q_Rlt (q_l 1) (q_k 4)) (q_sq (q_sai (q_fr 12 122 (q_r 0)) (q_l 1) (q_k (-1))) (q_sinc 1 1))))) [.ref b] μ Kn Kr :=
  q_st_il (a := b) (ci := 12) (kf := 122) (j0 := 94) (N := 4) (f := fun _ => .int 0) (v := -1) g101 (fsn (by decide) (fsn (by decide) (fsn (by decide) (fse lC12_94)))) (gt_set_ne (by decide) (gt_set_ne (by decide) (gt_set_ne (by decide) (gt_app (gt_app (gt_app (gt_last lC12_94))))))) (by decide) kk
theorem k12_s102 {μ μ0 : q_M} {b : Nat} {Kn : List Value → q_M → Prop} {Kr : Option Value → q_M → Prop} (g102 : q_bld μ μ0 b 12 (F12_98 b) (C12_102 b) 0 0) (kk : ∀ μ', q_bld μ' μ0 b 12 (F12_98 b) (C12_103 b) 0 0 → Kn [.ref b] μ') : (q_blk 1 (q_sq (q_sdec Value.int 1 (q_k 0)) (q_wh (q_cm q_Rlt (q_l 1) (q_k 14)) (q_sq (q_sai (q_fr 12 118 (q_r 0)) (q_l 1) (q_k (-1))) (q_sinc 1 1))))) [.ref b] μ Kn Kr :=
  q_st_il (a := b) (ci := 12) (kf := 118) (j0 := 92) (N := 14) (f := fun _ => .int 0) (v := -1) g102 (fsn (by decide) (fsn (by decide) (fsn (by decide) (fsn (by decide) (fsn (by decide) (fse lC12_92)))))) (gt_set_ne (by decide) (gt_set_ne (by decide) (gt_set_ne (by decide) (gt_set_ne (by decide) (gt_app (gt_app (gt_app (gt_app (gt_app (gt_last lC12_92)))))))))) (by decide) kk
set_option maxHeartbeats 16000000 in
set_option maxRecDepth 100000 in
theorem k12 : q_mkca fX12_init 12 tyX12 98 142034 [] (fun b => L12 b) := by
  intro μ b K h1 h2 h3 h4 h5 hk
  simp only [fX12_init, sX12_init_, q_mk, q_sq]
  refine ⟨by simp [Value.category], by simp, ?_⟩
  refine q_st_sp (a := b) rfl ?_
  have g0 : q_bld μ μ b 12 (F12_0 b) (C12_0 b) 98 142034 := q_bld0 h1 h2 h3 h4 h5
  refine k12_s0 g0 fun μ1 g1 => ?_
  refine k12_s1 g1 fun μ2 g2 => ?_
  refine k12_s2 g2 fun μ3 g3 => ?_
  refine k12_s3 g3 fun μ4 g4 => ?_
  refine k12_s4 g4 fun μ5 g5 => ?_
  refine k12_s5 g5 fun μ6 g6 => ?_
  refine k12_s6 g6 fun μ7 g7 => ?_
  refine k12_s7 g7 fun μ8 g8 => ?_
  refine k12_s8 g8 fun μ9 g9 => ?_
  refine k12_s9 g9 fun μ10 g10 => ?_
  refine k12_s10 g10 fun μ11 g11 => ?_
  refine k12_s11 g11 fun μ12 g12 => ?_
  refine k12_s12 g12 fun μ13 g13 => ?_
  refine k12_s13 g13 fun μ14 g14 => ?_
  refine k12_s14 g14 fun μ15 g15 => ?_
  refine k12_s15 g15 fun μ16 g16 => ?_
  refine k12_s16 g16 fun μ17 g17 => ?_
  refine k12_s17 g17 fun μ18 g18 => ?_
  refine k12_s18 g18 fun μ19 g19 => ?_
  refine k12_s19 g19 fun μ20 g20 => ?_
  refine k12_s20 g20 fun μ21 g21 => ?_
  refine k12_s21 g21 fun μ22 g22 => ?_
  refine k12_s22 g22 fun μ23 g23 => ?_
  refine k12_s23 g23 fun μ24 g24 => ?_
  refine k12_s24 g24 fun μ25 g25 => ?_
  refine k12_s25 g25 fun μ26 g26 => ?_
  refine k12_s26 g26 fun μ27 g27 => ?_
  refine k12_s27 g27 fun μ28 g28 => ?_
  refine k12_s28 g28 fun μ29 g29 => ?_
  refine k12_s29 g29 fun μ30 g30 => ?_
  refine k12_s30 g30 fun μ31 g31 => ?_
  refine k12_s31 g31 fun μ32 g32 => ?_
  refine k12_s32 g32 fun μ33 g33 => ?_
  refine k12_s33 g33 fun μ34 g34 => ?_
  refine k12_s34 g34 fun μ35 g35 => ?_
  refine k12_s35 g35 fun μ36 g36 => ?_
  refine k12_s36 g36 fun μ37 g37 => ?_
  refine k12_s37 g37 fun μ38 g38 => ?_
  refine k12_s38 g38 fun μ39 g39 => ?_
  refine k12_s39 g39 fun μ40 g40 => ?_
  refine k12_s40 g40 fun μ41 g41 => ?_
  refine k12_s41 g41 fun μ42 g42 => ?_
  refine k12_s42 g42 fun μ43 g43 => ?_
  refine k12_s43 g43 fun μ44 g44 => ?_
  refine k12_s44 g44 fun μ45 g45 => ?_
  refine k12_s45 g45 fun μ46 g46 => ?_
  refine k12_s46 g46 fun μ47 g47 => ?_
  refine k12_s47 g47 fun μ48 g48 => ?_
  refine k12_s48 g48 fun μ49 g49 => ?_
  refine k12_s49 g49 fun μ50 g50 => ?_
  refine k12_s50 g50 fun μ51 g51 => ?_
  refine k12_s51 g51 fun μ52 g52 => ?_
  refine k12_s52 g52 fun μ53 g53 => ?_
  refine k12_s53 g53 fun μ54 g54 => ?_
  refine k12_s54 g54 fun μ55 g55 => ?_
  refine k12_s55 g55 fun μ56 g56 => ?_
  refine k12_s56 g56 fun μ57 g57 => ?_
  refine k12_s57 g57 fun μ58 g58 => ?_
  refine k12_s58 g58 fun μ59 g59 => ?_
  refine k12_s59 g59 fun μ60 g60 => ?_
  refine k12_s60 g60 fun μ61 g61 => ?_
  refine k12_s61 g61 fun μ62 g62 => ?_
  refine k12_s62 g62 fun μ63 g63 => ?_
  refine k12_s63 g63 fun μ64 g64 => ?_
  refine k12_s64 g64 fun μ65 g65 => ?_
  refine k12_s65 g65 fun μ66 g66 => ?_
  refine k12_s66 g66 fun μ67 g67 => ?_
  refine k12_s67 g67 fun μ68 g68 => ?_
  refine k12_s68 g68 fun μ69 g69 => ?_
  refine k12_s69 g69 fun μ70 g70 => ?_
  refine k12_s70 g70 fun μ71 g71 => ?_
  refine k12_s71 g71 fun μ72 g72 => ?_
  refine k12_s72 g72 fun μ73 g73 => ?_
  refine k12_s73 g73 fun μ74 g74 => ?_
  refine k12_s74 g74 fun μ75 g75 => ?_
  refine k12_s75 g75 fun μ76 g76 => ?_
  refine k12_s76 g76 fun μ77 g77 => ?_
  refine k12_s77 g77 fun μ78 g78 => ?_
  refine k12_s78 g78 fun μ79 g79 => ?_
  refine k12_s79 g79 fun μ80 g80 => ?_
  refine k12_s80 g80 fun μ81 g81 => ?_
  refine k12_s81 g81 fun μ82 g82 => ?_
  refine k12_s82 g82 fun μ83 g83 => ?_
  refine k12_s83 g83 fun μ84 g84 => ?_
  refine k12_s84 g84 fun μ85 g85 => ?_
  refine k12_s85 g85 fun μ86 g86 => ?_
  refine k12_s86 g86 fun μ87 g87 => ?_
  refine k12_s87 g87 fun μ88 g88 => ?_
  refine k12_s88 g88 fun μ89 g89 => ?_
  refine k12_s89 g89 fun μ90 g90 => ?_
  refine k12_s90 g90 fun μ91 g91 => ?_
  refine k12_s91 g91 fun μ92 g92 => ?_
  refine k12_s92 g92 fun μ93 g93 => ?_
  refine k12_s93 g93 fun μ94 g94 => ?_
  refine k12_s94 g94 fun μ95 g95 => ?_
  refine k12_s95 g95 fun μ96 g96 => ?_
  refine k12_s96 g96 fun μ97 g97 => ?_
  refine k12_s97 g97 fun μ98 g98 => ?_
  refine k12_s98 g98 fun μ99 g99 => ?_
  refine k12_s99 g99 fun μ100 g100 => ?_
  refine k12_s100 g100 fun μ101 g101 => ?_
  refine k12_s101 g101 fun μ102 g102 => ?_
  refine k12_s102 g102 fun μ103 g103 => ?_
  have g := q_bldE g103
  exact hk μ103 g.1 g.2.1 g.2.2
end
