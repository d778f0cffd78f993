section
theorem q_cell_moved {D : va_G} {base : Nat} {s u : State} (hvm : s.vm.Alike u.vm) {H : Heap} {a : Nat} {t : q_T} {f : Nat → Value} (h : q_cell D base s H a t f) : q_cell D base u H a t f := by
  rcases t with ci | ⟨ty, n⟩ | n
  · exact h
  · obtain ⟨h0, cA, h1, h2, h3⟩ := h
    exact ⟨h0, cA, arrOfT_moved hvm h1, h2.moved hvm, h3⟩
  · obtain ⟨scr, h1, h2, h3⟩ := h
    exact ⟨scr, h1, State.isArrayOf_alike hvm h2, h3⟩
theorem q_R_moved {D : va_G} {base : Nat} {s u : State} (hvm : s.vm.Alike u.vm) {H : Heap} {μ : q_M} (h : q_R D base s H μ) : q_R D base u H μ :=
  ⟨fun a t ht => q_cell_moved hvm (h.1 a t ht), h.2⟩
theorem q_cell_kept {D : va_G} {base : Nat} {s : State} {H H1 : Heap} {a : Nat} {t : q_T} {f : Nat → Value} (h : q_cell D base s H a t f) (hq : H1[a]? = H[a]?) : q_cell D base s H1 a t f := by
  rcases t with ci | ⟨ty, n⟩ | n
  · obtain ⟨h0, r, h1, h2⟩ := h
    exact ⟨h0, r, h1, h2.kept hq⟩
  · obtain ⟨h0, cA, h1, h2, h3⟩ := h
    exact ⟨h0, cA, h1, h2, hq.trans h3⟩
  · obtain ⟨scr, h1, h2⟩ := h
    exact ⟨scr, hq.trans h1, h2⟩
/-- one cell written: the others stay -/
theorem q_R_put {D : va_G} {base : Nat} {s : State} {H H1 : Heap} {μ : q_M} {a k : Nat} {v : Value} {t : q_T} (h : q_R D base s H μ) (ht : μ.1.1 a = some t) (hs : H1.size = H.size) (ho : ∀ q : Nat, q ≠ a → H1[q]? = H[q]?) (hc : q_cell D base s H1 a t (updV (μ.2 a) k v)) : q_R D base s H1 (q_set μ a k v) := by
  refine ⟨fun a' t' h' => ?_, hs.trans h.2⟩
  have h2 : μ.1.1 a' = some t' := h'
  by_cases e : a' = a
  · subst e
    rw [ht] at h2
    cases h2
    have e2 : (q_set μ a' k v).2 a' = updV (μ.2 a') k v := by
      funext j
      simp [q_set, q_upd, updV]
    rw [e2]
    exact hc
  · have e2 : (q_set μ a k v).2 a' = μ.2 a' := by
      funext j
      simp [q_set, q_upd, e]
    rw [e2]
    exact q_cell_kept (h.1 a' t' h2) (ho a' e)
-- fields
def q_gf (own : String) (index ci k : Nat) : Prop := ∃ (C : String) (T : u_T) (N : Nat), vwCl[ci]? = some (C, T, N) ∧ k < N ∧ (∀ w ∈ u_ws C T N, w ∈ q_tb) ∧ Cond.fieldLink own index (T k).1 (T k).2.1 (T k).2.2.1 ∈ q_tb
def q_pf (own : String) (index ci k : Nat) (ty : FieldType) : Prop := ∃ (C : String) (T : u_T) (N : Nat) (ty0 : Nat → FieldType), vwCl[ci]? = some (C, T, N) ∧ k < N ∧ (∀ w ∈ u_ws C T N, w ∈ q_tb) ∧ Cond.fieldLink own index (T k).1 (T k).2.1 (T k).2.2.1 ∈ q_tb ∧
  (∀ k, k < N → parseFieldDescriptor (T k).2.2.1 = some (ty0 k)) ∧ (∀ a, a < N → ∀ b, b < N → a ≠ b → (T a).2.1 ≠ (T b).2.1) ∧ (T k).2.2.2 = false ∧ parseFieldDescriptor (T k).2.2.1 = some ty
theorem q_get {y : q_Y} {x : q_X} (hx : q_CX y x) {pc index ci k a : Nat} (hg : q_gf y.2.2.1.cls index ci k) (hd : decode y.1 pc = .ok (.getfield index, 3)) {μ : q_M} {ls : Array Slot} {st : List Value} {H : Heap} {locs : List Loc} {i j : Nat} (hm : q_MO x μ H locs i j) (ht : μ.1.1 a = some (.inl ci))
    (kk : q_W x H locs i j (F0 x.2.1.1 (pc + 3) ls (μ.2 a k :: st))) : q_W x H locs i j (F0 x.2.1.1 pc ls (.ref a :: st)) := by
  obtain ⟨C, T, N, hc, hk, hin, hl⟩ := hg
  obtain ⟨hexec, hb, -, hown, hts, -, -, hK, -⟩ := hx
  obtain ⟨-, r, h1, cell, q1, q2, q3, q4⟩ := hm.1.1 a _ ht
  have hr : r = (C, T, N) := Option.some.inj (h1.symm.trans hc)
  subst hr
  obtain ⟨hS, hfc, kC, hkC, hkind⟩ := hK.1 ci _ hc
  obtain ⟨cf, kf, fi, f, hi, hsl⟩ := hS k hk
  refine W.getf hexec hb hown (hts _ hl) hi (u_facts hfc hkC (u_lays hts hin hk) hi).1 q1 (by rw [q3]; exact fun h => by cases h) (v := μ.2 a k) ?_ rfl rfl hd kk
  rw [hsl, q4 k hk]
theorem q_putf {y : q_Y} {x : q_X} (hx : q_CX y x) {pc index ci k a : Nat} {ty : FieldType} (hg : q_pf y.2.2.1.cls index ci k ty) (hd : decode y.1 pc = .ok (.putfield index, 3)) {μ : q_M} {ls : Array Slot} {st : List Value} {H : Heap} {locs : List Loc} {i j : Nat} {v : Value} (hm : q_MO x μ H locs i j) (ht : μ.1.1 a = some (.inl ci))
    (hn : narrow ty v = v) (hfit : fits ty v = true)
    (kk : ∀ (H1 : Heap) (locs1 : List Loc), q_MO x (q_set μ a k v) H1 locs1 i j → q_W x H1 locs1 i j (F0 x.2.1.1 (pc + 3) ls st)) : q_W x H locs i j (F0 x.2.1.1 pc ls (v :: .ref a :: st)) := by
  obtain ⟨C, T, N, ty0, hc, hk, hin, hl, hty, hnm, hfin, hdsc⟩ := hg
  obtain ⟨hexec, hb, -, hown, hts, -, -, hK, -⟩ := hx
  have hap := va_apart (own := y.2.2.1.cls) hts hin ty0 hty hnm hK hc
  obtain ⟨hba, r, h1, cell, q1, q2, q3, q4⟩ := hm.1.1 a _ ht
  have hr : r = (C, T, N) := Option.some.inj (h1.symm.trans hc)
  subst hr
  obtain ⟨hS, hfc, kC, hkC, hkind⟩ := hK.1 ci _ hc
  obtain ⟨cf, kf, fi, f, hi, hsl⟩ := hS k hk
  have hlay := hts _ (hin _ (u_in_lay hk))
  unfold u_lay at hlay
  rw [if_neg (by rw [hfin]; decide)] at hlay
  have hst := (u_facts hfc hkC (u_lays hts hin hk) hi).1
  have h6 := u_store hfc hkC hkind hlay hi hdsc hn hfit
  refine W.putK hexec hb (f := f) ⟨hown, hts _ hl, ⟨_, _, _, hi⟩, hst⟩ (by rw [q2]; exact h6) q1 q3 (by rw [hsl]; exact k2_hasslot (q4 k hk)) rfl rfl hd fun H' e1 e2 e3 => ?_
  rw [hsl] at e1 ⊢
  refine kk H' _ ⟨q_R_put hm.1 ht e2 e3 ⟨hba, _, hc, ⟨_, e1, q2, q3, t_set q4 hap hk v⟩⟩, hm.2.1.put e2 e3 hba, hm.2.2⟩
-- arrays
theorem q_arr {D : va_G} {base : Nat} {s : State} {H : Heap} {μ : q_M} {a n : Nat} {ty : FieldType} (h : q_R D base s H μ) (ht : μ.1.1 a = some (.inr (.inl (ty, n)))) : base ≤ a ∧ ∃ cA : ClassId, ArrOfT s cA ty ∧ va_RA s cA ty ∧ H[a]? = some (arrV cA n (μ.2 a)) := h.1 a _ ht
theorem q_ild {y : q_Y} {x : q_X} (hx : q_CX y x) {pc a n : Nat} (hd : decode y.1 pc = .ok (.iaload, 1)) {μ : q_M} {ls : Array Slot} {st : List Value} {H : Heap} {locs : List Loc} {i j : Nat} {u : Int32} (hm : q_MO x μ H locs i j) (ht : μ.1.1 a = some (.inr (.inl (.int, n)))) (hin : vp_in u n)
    (kk : q_W x H locs i j (F0 x.2.1.1 (pc + 1) ls (μ.2 a u.toNatClampNeg :: st))) : q_W x H locs i j (F0 x.2.1.1 pc ls (.int u :: .ref a :: st)) := by
  obtain ⟨-, cA, h1, -, h3⟩ := q_arr hm.1 ht
  have hlt : u.toNatClampNeg < n := Nat.not_le.mp fun q => hin (Or.inr q)
  exact W.iald hx.1 hx.2.1 h3 (h1 n _) (fun q => by cases q) (by rw [arrV_size]; exact hin) (by rw [arrV_read _ _ hlt]) rfl rfl hd kk
theorem q_zld {y : q_Y} {x : q_X} (hx : q_CX y x) {pc a n : Nat} (hd : decode y.1 pc = .ok (.baload, 1)) {μ : q_M} {ls : Array Slot} {st : List Value} {H : Heap} {locs : List Loc} {i j : Nat} {u : Int32} (hm : q_MO x μ H locs i j) (ht : μ.1.1 a = some (.inr (.inl (.boolean, n)))) (hin : vp_in u n)
    (kk : q_W x H locs i j (F0 x.2.1.1 (pc + 1) ls (μ.2 a u.toNatClampNeg :: st))) : q_W x H locs i j (F0 x.2.1.1 pc ls (.int u :: .ref a :: st)) := by
  obtain ⟨-, cA, h1, -, h3⟩ := q_arr hm.1 ht
  have hlt : u.toNatClampNeg < n := Nat.not_le.mp fun q => hin (Or.inr q)
  exact W.zald hx.1 hx.2.1 h3 (h1 n _) (fun q => by cases q) (by rw [arrV_size]; exact hin) (by rw [arrV_read _ _ hlt]) rfl rfl hd kk
theorem q_ald {y : q_Y} {x : q_X} (hx : q_CX y x) {pc a n : Nat} {ty : FieldType} (hty : ty.isReference = true) (hd : decode y.1 pc = .ok (.aaload, 1)) {μ : q_M} {ls : Array Slot} {st : List Value} {H : Heap} {locs : List Loc} {i j : Nat} {u : Int32} (hm : q_MO x μ H locs i j) (ht : μ.1.1 a = some (.inr (.inl (ty, n)))) (hin : vp_in u n)
    (kk : q_W x H locs i j (F0 x.2.1.1 (pc + 1) ls (μ.2 a u.toNatClampNeg :: st))) : q_W x H locs i j (F0 x.2.1.1 pc ls (.int u :: .ref a :: st)) := by
  obtain ⟨-, cA, h1, -, h3⟩ := q_arr hm.1 ht
  have hlt : u.toNatClampNeg < n := Nat.not_le.mp fun q => hin (Or.inr q)
  exact W.aald hx.1 hx.2.1 h3 (h1 n _) hty (fun q => by cases q) (by rw [arrV_size]; exact hin) (by rw [arrV_read _ _ hlt]) rfl rfl hd kk
theorem q_sld {y : q_Y} {x : q_X} (hx : q_CX y x) {pc a n : Nat} (hd : decode y.1 pc = .ok (.iaload, 1)) {μ : q_M} {ls : Array Slot} {st : List Value} {H : Heap} {locs : List Loc} {i j : Nat} {u : Int32} (hm : q_MO x μ H locs i j) (ht : μ.1.1 a = some (.inr (.inr n))) (hin : vp_in u n)
    (kk : q_W x H locs i j (F0 x.2.1.1 (pc + 1) ls (μ.2 a u.toNatClampNeg :: st))) : q_W x H locs i j (F0 x.2.1.1 pc ls (.int u :: .ref a :: st)) := by
  obtain ⟨scr, h1, h2, h3, h4, h5⟩ := hm.1.1 a _ ht
  have hlt : u.toNatClampNeg < n := Nat.not_le.mp fun q => hin (Or.inr q)
  exact W.iald hx.1 hx.2.1 h1 h2 h3 (by rw [h4]; exact hin) (h5 _ hlt) rfl rfl hd kk
theorem q_slen {y : q_Y} {x : q_X} (hx : q_CX y x) {pc a n : Nat} (hd : decode y.1 pc = .ok (.arraylength, 1)) {μ : q_M} {ls : Array Slot} {st : List Value} {H : Heap} {locs : List Loc} {i j : Nat} (hm : q_MO x μ H locs i j) (ht : μ.1.1 a = some (.inr (.inr n)))
    (kk : q_W x H locs i j (F0 x.2.1.1 (pc + 1) ls (.int (nI n) :: st))) : q_W x H locs i j (F0 x.2.1.1 pc ls (.ref a :: st)) := by
  obtain ⟨scr, h1, h2, h3, h4, h5⟩ := hm.1.1 a _ ht
  exact W.alen hx.1 hx.2.1 h1 h2 (n := nI n) (by rw [h4]; rfl) rfl rfl hd kk
theorem q_alen {y : q_Y} {x : q_X} (hx : q_CX y x) {pc a n : Nat} {ty : FieldType} (hd : decode y.1 pc = .ok (.arraylength, 1)) {μ : q_M} {ls : Array Slot} {st : List Value} {H : Heap} {locs : List Loc} {i j : Nat} (hm : q_MO x μ H locs i j) (ht : μ.1.1 a = some (.inr (.inl (ty, n))))
    (kk : q_W x H locs i j (F0 x.2.1.1 (pc + 1) ls (.int (nI n) :: st))) : q_W x H locs i j (F0 x.2.1.1 pc ls (.ref a :: st)) := by
  obtain ⟨-, cA, h1, -, h3⟩ := q_arr hm.1 ht
  exact W.alen hx.1 hx.2.1 h3 (h1 n _) (n := nI n) (by rw [arrV_size]; rfl) rfl rfl hd kk
theorem q_ist {y : q_Y} {x : q_X} (hx : q_CX y x) {pc a n : Nat} (hd : decode y.1 pc = .ok (.iastore, 1)) {μ : q_M} {ls : Array Slot} {st : List Value} {H : Heap} {locs : List Loc} {i j : Nat} {u v : Int32} (hm : q_MO x μ H locs i j) (ht : μ.1.1 a = some (.inr (.inl (.int, n)))) (hin : vp_in u n)
    (kk : ∀ (H1 : Heap) (locs1 : List Loc), q_MO x (q_set μ a u.toNatClampNeg (.int v)) H1 locs1 i j → q_W x H1 locs1 i j (F0 x.2.1.1 (pc + 1) ls st)) : q_W x H locs i j (F0 x.2.1.1 pc ls (.int v :: .int u :: .ref a :: st)) := by
  obtain ⟨hba, cA, h1, h2, h3⟩ := q_arr hm.1 ht
  refine W.iast hx.1 hx.2.1 h3 (h1 n _) (fun q => by cases q) (by rw [arrV_size]; exact hin) rfl rfl hd fun H1 e z oq => ?_
  refine kk H1 _ ⟨q_R_put hm.1 ht z oq ⟨hba, cA, h1, h2, ?_⟩, hm.2.1.put z oq hba, hm.2.2⟩
  rw [e, arrV_store]
theorem q_zst {y : q_Y} {x : q_X} (hx : q_CX y x) {pc a n : Nat} (hd : decode y.1 pc = .ok (.bastore, 1)) {μ : q_M} {ls : Array Slot} {st : List Value} {H : Heap} {locs : List Loc} {i j : Nat} {u v : Int32} (hm : q_MO x μ H locs i j) (ht : μ.1.1 a = some (.inr (.inl (.boolean, n)))) (hin : vp_in u n) (hn : narrow .boolean (.int v) = .int v)
    (kk : ∀ (H1 : Heap) (locs1 : List Loc), q_MO x (q_set μ a u.toNatClampNeg (.int v)) H1 locs1 i j → q_W x H1 locs1 i j (F0 x.2.1.1 (pc + 1) ls st)) : q_W x H locs i j (F0 x.2.1.1 pc ls (.int v :: .int u :: .ref a :: st)) := by
  obtain ⟨hba, cA, h1, h2, h3⟩ := q_arr hm.1 ht
  refine W.zast hx.1 hx.2.1 h3 (h1 n _) (fun q => by cases q) (by rw [arrV_size]; exact hin) rfl rfl hd fun H1 e z oq => ?_
  refine kk H1 _ ⟨q_R_put hm.1 ht z oq ⟨hba, cA, h1, h2, ?_⟩, hm.2.1.put z oq hba, hm.2.2⟩
  rw [e, arrV_store, hn]
end
