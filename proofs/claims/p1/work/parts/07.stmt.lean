section
def q_cm (R : Int32 → Int32 → Prop) (a b : q_E Int32) : q_C := fun env μ T F => a env μ fun u μ => b env μ fun v μ => (R u v → T μ) ∧ (¬ R u v → F μ)
def q_cz (R : Int32 → Int32 → Prop) (a : q_E Int32) : q_C := fun env μ T F => a env μ fun u μ => (R u 0 → T μ) ∧ (¬ R u 0 → F μ)
def q_Req (u v : Int32) : Prop := u = v
def q_Rne (u v : Int32) : Prop := ¬ u = v
def q_Rlt (u v : Int32) : Prop := u < v
def q_Rge (u v : Int32) : Prop := v ≤ u
def q_Rgt (u v : Int32) : Prop := v < u
def q_Rle (u v : Int32) : Prop := u ≤ v
theorem q_feq {y : q_Y} {k p0 p1 p2 tgt : Nat} {off : Int} {fa fb : q_E Int32} (ha : q_SI y k p0 p1 p1 fa) (hb : q_SI y (k + 1) p1 p2 p2 fb) (hd : decode y.1 p2 = .ok (.if_icmp .ne off, 3)) (ht : (p2 : Int) + off = (tgt : Int)) : q_SC y k p0 (p2 + 3) tgt (q_cm q_Req fa fb) := by
  intro x hx env μ KT KF ls st H locs a b he hw hm hf kT kF
  refine ha x hx env μ _ ls st H locs a b he hw hm hf fun u μ1 H1 l1 a1 b1 hm1 h1 => ?_
  have h2 := hb x hx env μ1 _ ls (.int u :: st) H1 l1 a1 b1 he (q_w_int hw) hm1 h1 fun v μ2 H2 l2 a2 b2 hm2 h2 => ?_
  · exact ⟨h2, h2⟩
  · have h3 := lv_icmp_ne (rest := st) (x := u) (y := v) hx.1 hx.2.1 hd ht (fun h => kF _ H2 l2 a2 b2 hm2 (h2.2 ((fun h => h) h))) (fun h => kT _ H2 l2 a2 b2 hm2 (h2.1 ((fun h => h) h)))
    exact ⟨h3, h3⟩
theorem q_teq {y : q_Y} {k p0 p1 p2 tgt : Nat} {off : Int} {fa fb : q_E Int32} (ha : q_SI y k p0 p1 p1 fa) (hb : q_SI y (k + 1) p1 p2 p2 fb) (hd : decode y.1 p2 = .ok (.if_icmp .eq off, 3)) (ht : (p2 : Int) + off = (tgt : Int)) : q_SC y k p0 tgt (p2 + 3) (q_cm q_Req fa fb) := by
  intro x hx env μ KT KF ls st H locs a b he hw hm hf kT kF
  refine ha x hx env μ _ ls st H locs a b he hw hm hf fun u μ1 H1 l1 a1 b1 hm1 h1 => ?_
  have h2 := hb x hx env μ1 _ ls (.int u :: st) H1 l1 a1 b1 he (q_w_int hw) hm1 h1 fun v μ2 H2 l2 a2 b2 hm2 h2 => ?_
  · exact ⟨h2, h2⟩
  · have h3 := lv_icmp_eq (rest := st) (x := u) (y := v) hx.1 hx.2.1 hd ht (fun h => kT _ H2 l2 a2 b2 hm2 (h2.1 h)) (fun h => kF _ H2 l2 a2 b2 hm2 (h2.2 (h)))
    exact ⟨h3, h3⟩
theorem q_zfeq {y : q_Y} {k p0 p1 tgt : Nat} {off : Int} {fa : q_E Int32} (ha : q_SI y k p0 p1 p1 fa) (hd : decode y.1 p1 = .ok (.ifCond .ne off, 3)) (ht : (p1 : Int) + off = (tgt : Int)) : q_SC y k p0 (p1 + 3) tgt (q_cz q_Req fa) := by
  intro x hx env μ KT KF ls st H locs a b he hw hm hf kT kF
  refine ha x hx env μ _ ls st H locs a b he hw hm hf fun u μ1 H1 l1 a1 b1 hm1 h1 => ?_
  have h3 := lv_if_ne (rest := st) (x := u) hx.1 hx.2.1 hd ht (fun h => kF _ H1 l1 a1 b1 hm1 (h1.2 ((fun h => h) h))) (fun h => kT _ H1 l1 a1 b1 hm1 (h1.1 ((fun h => h) h)))
  exact ⟨h3, h3⟩
theorem q_zteq {y : q_Y} {k p0 p1 tgt : Nat} {off : Int} {fa : q_E Int32} (ha : q_SI y k p0 p1 p1 fa) (hd : decode y.1 p1 = .ok (.ifCond .eq off, 3)) (ht : (p1 : Int) + off = (tgt : Int)) : q_SC y k p0 tgt (p1 + 3) (q_cz q_Req fa) := by
  intro x hx env μ KT KF ls st H locs a b he hw hm hf kT kF
  refine ha x hx env μ _ ls st H locs a b he hw hm hf fun u μ1 H1 l1 a1 b1 hm1 h1 => ?_
  have h3 := lv_if_eq (rest := st) (x := u) hx.1 hx.2.1 hd ht (fun h => kT _ H1 l1 a1 b1 hm1 (h1.1 h)) (fun h => kF _ H1 l1 a1 b1 hm1 (h1.2 (h)))
  exact ⟨h3, h3⟩
theorem q_fne {y : q_Y} {k p0 p1 p2 tgt : Nat} {off : Int} {fa fb : q_E Int32} (ha : q_SI y k p0 p1 p1 fa) (hb : q_SI y (k + 1) p1 p2 p2 fb) (hd : decode y.1 p2 = .ok (.if_icmp .eq off, 3)) (ht : (p2 : Int) + off = (tgt : Int)) : q_SC y k p0 (p2 + 3) tgt (q_cm q_Rne fa fb) := by
  intro x hx env μ KT KF ls st H locs a b he hw hm hf kT kF
  refine ha x hx env μ _ ls st H locs a b he hw hm hf fun u μ1 H1 l1 a1 b1 hm1 h1 => ?_
  have h2 := hb x hx env μ1 _ ls (.int u :: st) H1 l1 a1 b1 he (q_w_int hw) hm1 h1 fun v μ2 H2 l2 a2 b2 hm2 h2 => ?_
  · exact ⟨h2, h2⟩
  · have h3 := lv_icmp_eq (rest := st) (x := u) (y := v) hx.1 hx.2.1 hd ht (fun h => kF _ H2 l2 a2 b2 hm2 (h2.2 ((fun h k => k h) h))) (fun h => kT _ H2 l2 a2 b2 hm2 (h2.1 ((fun h => h) h)))
    exact ⟨h3, h3⟩
theorem q_tne {y : q_Y} {k p0 p1 p2 tgt : Nat} {off : Int} {fa fb : q_E Int32} (ha : q_SI y k p0 p1 p1 fa) (hb : q_SI y (k + 1) p1 p2 p2 fb) (hd : decode y.1 p2 = .ok (.if_icmp .ne off, 3)) (ht : (p2 : Int) + off = (tgt : Int)) : q_SC y k p0 tgt (p2 + 3) (q_cm q_Rne fa fb) := by
  intro x hx env μ KT KF ls st H locs a b he hw hm hf kT kF
  refine ha x hx env μ _ ls st H locs a b he hw hm hf fun u μ1 H1 l1 a1 b1 hm1 h1 => ?_
  have h2 := hb x hx env μ1 _ ls (.int u :: st) H1 l1 a1 b1 he (q_w_int hw) hm1 h1 fun v μ2 H2 l2 a2 b2 hm2 h2 => ?_
  · exact ⟨h2, h2⟩
  · have h3 := lv_icmp_ne (rest := st) (x := u) (y := v) hx.1 hx.2.1 hd ht (fun h => kT _ H2 l2 a2 b2 hm2 (h2.1 h)) (fun h => kF _ H2 l2 a2 b2 hm2 (h2.2 (fun k => k h)))
    exact ⟨h3, h3⟩
theorem q_zfne {y : q_Y} {k p0 p1 tgt : Nat} {off : Int} {fa : q_E Int32} (ha : q_SI y k p0 p1 p1 fa) (hd : decode y.1 p1 = .ok (.ifCond .eq off, 3)) (ht : (p1 : Int) + off = (tgt : Int)) : q_SC y k p0 (p1 + 3) tgt (q_cz q_Rne fa) := by
  intro x hx env μ KT KF ls st H locs a b he hw hm hf kT kF
  refine ha x hx env μ _ ls st H locs a b he hw hm hf fun u μ1 H1 l1 a1 b1 hm1 h1 => ?_
  have h3 := lv_if_eq (rest := st) (x := u) hx.1 hx.2.1 hd ht (fun h => kF _ H1 l1 a1 b1 hm1 (h1.2 ((fun h k => k h) h))) (fun h => kT _ H1 l1 a1 b1 hm1 (h1.1 ((fun h => h) h)))
  exact ⟨h3, h3⟩
theorem q_ztne {y : q_Y} {k p0 p1 tgt : Nat} {off : Int} {fa : q_E Int32} (ha : q_SI y k p0 p1 p1 fa) (hd : decode y.1 p1 = .ok (.ifCond .ne off, 3)) (ht : (p1 : Int) + off = (tgt : Int)) : q_SC y k p0 tgt (p1 + 3) (q_cz q_Rne fa) := by
  intro x hx env μ KT KF ls st H locs a b he hw hm hf kT kF
  refine ha x hx env μ _ ls st H locs a b he hw hm hf fun u μ1 H1 l1 a1 b1 hm1 h1 => ?_
  have h3 := lv_if_ne (rest := st) (x := u) hx.1 hx.2.1 hd ht (fun h => kT _ H1 l1 a1 b1 hm1 (h1.1 h)) (fun h => kF _ H1 l1 a1 b1 hm1 (h1.2 (fun k => k h)))
  exact ⟨h3, h3⟩
theorem q_flt {y : q_Y} {k p0 p1 p2 tgt : Nat} {off : Int} {fa fb : q_E Int32} (ha : q_SI y k p0 p1 p1 fa) (hb : q_SI y (k + 1) p1 p2 p2 fb) (hd : decode y.1 p2 = .ok (.if_icmp .ge off, 3)) (ht : (p2 : Int) + off = (tgt : Int)) : q_SC y k p0 (p2 + 3) tgt (q_cm q_Rlt fa fb) := by
  intro x hx env μ KT KF ls st H locs a b he hw hm hf kT kF
  refine ha x hx env μ _ ls st H locs a b he hw hm hf fun u μ1 H1 l1 a1 b1 hm1 h1 => ?_
  have h2 := hb x hx env μ1 _ ls (.int u :: st) H1 l1 a1 b1 he (q_w_int hw) hm1 h1 fun v μ2 H2 l2 a2 b2 hm2 h2 => ?_
  · exact ⟨h2, h2⟩
  · have h3 := lv_icmp_ge (rest := st) (x := u) (y := v) hx.1 hx.2.1 hd ht (fun h => kF _ H2 l2 a2 b2 hm2 (h2.2 ((fun h => Int32.not_lt.mpr h) h))) (fun h => kT _ H2 l2 a2 b2 hm2 (h2.1 ((fun h => Int32.not_le.mp h) h)))
    exact ⟨h3, h3⟩
theorem q_tlt {y : q_Y} {k p0 p1 p2 tgt : Nat} {off : Int} {fa fb : q_E Int32} (ha : q_SI y k p0 p1 p1 fa) (hb : q_SI y (k + 1) p1 p2 p2 fb) (hd : decode y.1 p2 = .ok (.if_icmp .lt off, 3)) (ht : (p2 : Int) + off = (tgt : Int)) : q_SC y k p0 tgt (p2 + 3) (q_cm q_Rlt fa fb) := by
  intro x hx env μ KT KF ls st H locs a b he hw hm hf kT kF
  refine ha x hx env μ _ ls st H locs a b he hw hm hf fun u μ1 H1 l1 a1 b1 hm1 h1 => ?_
  have h2 := hb x hx env μ1 _ ls (.int u :: st) H1 l1 a1 b1 he (q_w_int hw) hm1 h1 fun v μ2 H2 l2 a2 b2 hm2 h2 => ?_
  · exact ⟨h2, h2⟩
  · have h3 := lv_icmp_lt (rest := st) (x := u) (y := v) hx.1 hx.2.1 hd ht (fun h => kT _ H2 l2 a2 b2 hm2 (h2.1 h)) (fun h => kF _ H2 l2 a2 b2 hm2 (h2.2 (h)))
    exact ⟨h3, h3⟩
theorem q_zflt {y : q_Y} {k p0 p1 tgt : Nat} {off : Int} {fa : q_E Int32} (ha : q_SI y k p0 p1 p1 fa) (hd : decode y.1 p1 = .ok (.ifCond .ge off, 3)) (ht : (p1 : Int) + off = (tgt : Int)) : q_SC y k p0 (p1 + 3) tgt (q_cz q_Rlt fa) := by
  intro x hx env μ KT KF ls st H locs a b he hw hm hf kT kF
  refine ha x hx env μ _ ls st H locs a b he hw hm hf fun u μ1 H1 l1 a1 b1 hm1 h1 => ?_
  have h3 := lv_if_ge (rest := st) (x := u) hx.1 hx.2.1 hd ht (fun h => kF _ H1 l1 a1 b1 hm1 (h1.2 ((fun h => Int32.not_lt.mpr h) h))) (fun h => kT _ H1 l1 a1 b1 hm1 (h1.1 ((fun h => Int32.not_le.mp h) h)))
  exact ⟨h3, h3⟩
theorem q_ztlt {y : q_Y} {k p0 p1 tgt : Nat} {off : Int} {fa : q_E Int32} (ha : q_SI y k p0 p1 p1 fa) (hd : decode y.1 p1 = .ok (.ifCond .lt off, 3)) (ht : (p1 : Int) + off = (tgt : Int)) : q_SC y k p0 tgt (p1 + 3) (q_cz q_Rlt fa) := by
  intro x hx env μ KT KF ls st H locs a b he hw hm hf kT kF
  refine ha x hx env μ _ ls st H locs a b he hw hm hf fun u μ1 H1 l1 a1 b1 hm1 h1 => ?_
  have h3 := lv_if_lt (rest := st) (x := u) hx.1 hx.2.1 hd ht (fun h => kT _ H1 l1 a1 b1 hm1 (h1.1 h)) (fun h => kF _ H1 l1 a1 b1 hm1 (h1.2 (h)))
  exact ⟨h3, h3⟩
theorem q_fge {y : q_Y} {k p0 p1 p2 tgt : Nat} {off : Int} {fa fb : q_E Int32} (ha : q_SI y k p0 p1 p1 fa) (hb : q_SI y (k + 1) p1 p2 p2 fb) (hd : decode y.1 p2 = .ok (.if_icmp .lt off, 3)) (ht : (p2 : Int) + off = (tgt : Int)) : q_SC y k p0 (p2 + 3) tgt (q_cm q_Rge fa fb) := by
  intro x hx env μ KT KF ls st H locs a b he hw hm hf kT kF
  refine ha x hx env μ _ ls st H locs a b he hw hm hf fun u μ1 H1 l1 a1 b1 hm1 h1 => ?_
  have h2 := hb x hx env μ1 _ ls (.int u :: st) H1 l1 a1 b1 he (q_w_int hw) hm1 h1 fun v μ2 H2 l2 a2 b2 hm2 h2 => ?_
  · exact ⟨h2, h2⟩
  · have h3 := lv_icmp_lt (rest := st) (x := u) (y := v) hx.1 hx.2.1 hd ht (fun h => kF _ H2 l2 a2 b2 hm2 (h2.2 ((fun h => Int32.not_le.mpr h) h))) (fun h => kT _ H2 l2 a2 b2 hm2 (h2.1 ((fun h => Int32.not_lt.mp h) h)))
    exact ⟨h3, h3⟩
theorem q_tge {y : q_Y} {k p0 p1 p2 tgt : Nat} {off : Int} {fa fb : q_E Int32} (ha : q_SI y k p0 p1 p1 fa) (hb : q_SI y (k + 1) p1 p2 p2 fb) (hd : decode y.1 p2 = .ok (.if_icmp .ge off, 3)) (ht : (p2 : Int) + off = (tgt : Int)) : q_SC y k p0 tgt (p2 + 3) (q_cm q_Rge fa fb) := by
  intro x hx env μ KT KF ls st H locs a b he hw hm hf kT kF
  refine ha x hx env μ _ ls st H locs a b he hw hm hf fun u μ1 H1 l1 a1 b1 hm1 h1 => ?_
  have h2 := hb x hx env μ1 _ ls (.int u :: st) H1 l1 a1 b1 he (q_w_int hw) hm1 h1 fun v μ2 H2 l2 a2 b2 hm2 h2 => ?_
  · exact ⟨h2, h2⟩
  · have h3 := lv_icmp_ge (rest := st) (x := u) (y := v) hx.1 hx.2.1 hd ht (fun h => kT _ H2 l2 a2 b2 hm2 (h2.1 h)) (fun h => kF _ H2 l2 a2 b2 hm2 (h2.2 (h)))
    exact ⟨h3, h3⟩
theorem q_zfge {y : q_Y} {k p0 p1 tgt : Nat} {off : Int} {fa : q_E Int32} (ha : q_SI y k p0 p1 p1 fa) (hd : decode y.1 p1 = .ok (.ifCond .lt off, 3)) (ht : (p1 : Int) + off = (tgt : Int)) : q_SC y k p0 (p1 + 3) tgt (q_cz q_Rge fa) := by
  intro x hx env μ KT KF ls st H locs a b he hw hm hf kT kF
  refine ha x hx env μ _ ls st H locs a b he hw hm hf fun u μ1 H1 l1 a1 b1 hm1 h1 => ?_
  have h3 := lv_if_lt (rest := st) (x := u) hx.1 hx.2.1 hd ht (fun h => kF _ H1 l1 a1 b1 hm1 (h1.2 ((fun h => Int32.not_le.mpr h) h))) (fun h => kT _ H1 l1 a1 b1 hm1 (h1.1 ((fun h => Int32.not_lt.mp h) h)))
  exact ⟨h3, h3⟩
theorem q_ztge {y : q_Y} {k p0 p1 tgt : Nat} {off : Int} {fa : q_E Int32} (ha : q_SI y k p0 p1 p1 fa) (hd : decode y.1 p1 = .ok (.ifCond .ge off, 3)) (ht : (p1 : Int) + off = (tgt : Int)) : q_SC y k p0 tgt (p1 + 3) (q_cz q_Rge fa) := by
  intro x hx env μ KT KF ls st H locs a b he hw hm hf kT kF
  refine ha x hx env μ _ ls st H locs a b he hw hm hf fun u μ1 H1 l1 a1 b1 hm1 h1 => ?_
  have h3 := lv_if_ge (rest := st) (x := u) hx.1 hx.2.1 hd ht (fun h => kT _ H1 l1 a1 b1 hm1 (h1.1 h)) (fun h => kF _ H1 l1 a1 b1 hm1 (h1.2 (h)))
  exact ⟨h3, h3⟩
theorem q_fgt {y : q_Y} {k p0 p1 p2 tgt : Nat} {off : Int} {fa fb : q_E Int32} (ha : q_SI y k p0 p1 p1 fa) (hb : q_SI y (k + 1) p1 p2 p2 fb) (hd : decode y.1 p2 = .ok (.if_icmp .le off, 3)) (ht : (p2 : Int) + off = (tgt : Int)) : q_SC y k p0 (p2 + 3) tgt (q_cm q_Rgt fa fb) := by
  intro x hx env μ KT KF ls st H locs a b he hw hm hf kT kF
  refine ha x hx env μ _ ls st H locs a b he hw hm hf fun u μ1 H1 l1 a1 b1 hm1 h1 => ?_
  have h2 := hb x hx env μ1 _ ls (.int u :: st) H1 l1 a1 b1 he (q_w_int hw) hm1 h1 fun v μ2 H2 l2 a2 b2 hm2 h2 => ?_
  · exact ⟨h2, h2⟩
  · have h3 := lv_icmp_le (rest := st) (x := u) (y := v) hx.1 hx.2.1 hd ht (fun h => kF _ H2 l2 a2 b2 hm2 (h2.2 ((fun h => Int32.not_lt.mpr h) h))) (fun h => kT _ H2 l2 a2 b2 hm2 (h2.1 ((fun h => Int32.not_le.mp h) h)))
    exact ⟨h3, h3⟩
theorem q_tgt {y : q_Y} {k p0 p1 p2 tgt : Nat} {off : Int} {fa fb : q_E Int32} (ha : q_SI y k p0 p1 p1 fa) (hb : q_SI y (k + 1) p1 p2 p2 fb) (hd : decode y.1 p2 = .ok (.if_icmp .gt off, 3)) (ht : (p2 : Int) + off = (tgt : Int)) : q_SC y k p0 tgt (p2 + 3) (q_cm q_Rgt fa fb) := by
  intro x hx env μ KT KF ls st H locs a b he hw hm hf kT kF
  refine ha x hx env μ _ ls st H locs a b he hw hm hf fun u μ1 H1 l1 a1 b1 hm1 h1 => ?_
  have h2 := hb x hx env μ1 _ ls (.int u :: st) H1 l1 a1 b1 he (q_w_int hw) hm1 h1 fun v μ2 H2 l2 a2 b2 hm2 h2 => ?_
  · exact ⟨h2, h2⟩
  · have h3 := lv_icmp_gt (rest := st) (x := u) (y := v) hx.1 hx.2.1 hd ht (fun h => kT _ H2 l2 a2 b2 hm2 (h2.1 h)) (fun h => kF _ H2 l2 a2 b2 hm2 (h2.2 (h)))
    exact ⟨h3, h3⟩
theorem q_zfgt {y : q_Y} {k p0 p1 tgt : Nat} {off : Int} {fa : q_E Int32} (ha : q_SI y k p0 p1 p1 fa) (hd : decode y.1 p1 = .ok (.ifCond .le off, 3)) (ht : (p1 : Int) + off = (tgt : Int)) : q_SC y k p0 (p1 + 3) tgt (q_cz q_Rgt fa) := by
  intro x hx env μ KT KF ls st H locs a b he hw hm hf kT kF
  refine ha x hx env μ _ ls st H locs a b he hw hm hf fun u μ1 H1 l1 a1 b1 hm1 h1 => ?_
  have h3 := lv_if_le (rest := st) (x := u) hx.1 hx.2.1 hd ht (fun h => kF _ H1 l1 a1 b1 hm1 (h1.2 ((fun h => Int32.not_lt.mpr h) h))) (fun h => kT _ H1 l1 a1 b1 hm1 (h1.1 ((fun h => Int32.not_le.mp h) h)))
  exact ⟨h3, h3⟩
theorem q_ztgt {y : q_Y} {k p0 p1 tgt : Nat} {off : Int} {fa : q_E Int32} (ha : q_SI y k p0 p1 p1 fa) (hd : decode y.1 p1 = .ok (.ifCond .gt off, 3)) (ht : (p1 : Int) + off = (tgt : Int)) : q_SC y k p0 tgt (p1 + 3) (q_cz q_Rgt fa) := by
  intro x hx env μ KT KF ls st H locs a b he hw hm hf kT kF
  refine ha x hx env μ _ ls st H locs a b he hw hm hf fun u μ1 H1 l1 a1 b1 hm1 h1 => ?_
  have h3 := lv_if_gt (rest := st) (x := u) hx.1 hx.2.1 hd ht (fun h => kT _ H1 l1 a1 b1 hm1 (h1.1 h)) (fun h => kF _ H1 l1 a1 b1 hm1 (h1.2 (h)))
  exact ⟨h3, h3⟩
theorem q_fle {y : q_Y} {k p0 p1 p2 tgt : Nat} {off : Int} {fa fb : q_E Int32} (ha : q_SI y k p0 p1 p1 fa) (hb : q_SI y (k + 1) p1 p2 p2 fb) (hd : decode y.1 p2 = .ok (.if_icmp .gt off, 3)) (ht : (p2 : Int) + off = (tgt : Int)) : q_SC y k p0 (p2 + 3) tgt (q_cm q_Rle fa fb) := by
  intro x hx env μ KT KF ls st H locs a b he hw hm hf kT kF
  refine ha x hx env μ _ ls st H locs a b he hw hm hf fun u μ1 H1 l1 a1 b1 hm1 h1 => ?_
  have h2 := hb x hx env μ1 _ ls (.int u :: st) H1 l1 a1 b1 he (q_w_int hw) hm1 h1 fun v μ2 H2 l2 a2 b2 hm2 h2 => ?_
  · exact ⟨h2, h2⟩
  · have h3 := lv_icmp_gt (rest := st) (x := u) (y := v) hx.1 hx.2.1 hd ht (fun h => kF _ H2 l2 a2 b2 hm2 (h2.2 ((fun h => Int32.not_le.mpr h) h))) (fun h => kT _ H2 l2 a2 b2 hm2 (h2.1 ((fun h => Int32.not_lt.mp h) h)))
    exact ⟨h3, h3⟩
theorem q_tle {y : q_Y} {k p0 p1 p2 tgt : Nat} {off : Int} {fa fb : q_E Int32} (ha : q_SI y k p0 p1 p1 fa) (hb : q_SI y (k + 1) p1 p2 p2 fb) (hd : decode y.1 p2 = .ok (.if_icmp .le off, 3)) (ht : (p2 : Int) + off = (tgt : Int)) : q_SC y k p0 tgt (p2 + 3) (q_cm q_Rle fa fb) := by
  intro x hx env μ KT KF ls st H locs a b he hw hm hf kT kF
  refine ha x hx env μ _ ls st H locs a b he hw hm hf fun u μ1 H1 l1 a1 b1 hm1 h1 => ?_
  have h2 := hb x hx env μ1 _ ls (.int u :: st) H1 l1 a1 b1 he (q_w_int hw) hm1 h1 fun v μ2 H2 l2 a2 b2 hm2 h2 => ?_
  · exact ⟨h2, h2⟩
  · have h3 := lv_icmp_le (rest := st) (x := u) (y := v) hx.1 hx.2.1 hd ht (fun h => kT _ H2 l2 a2 b2 hm2 (h2.1 h)) (fun h => kF _ H2 l2 a2 b2 hm2 (h2.2 (h)))
    exact ⟨h3, h3⟩
theorem q_zfle {y : q_Y} {k p0 p1 tgt : Nat} {off : Int} {fa : q_E Int32} (ha : q_SI y k p0 p1 p1 fa) (hd : decode y.1 p1 = .ok (.ifCond .gt off, 3)) (ht : (p1 : Int) + off = (tgt : Int)) : q_SC y k p0 (p1 + 3) tgt (q_cz q_Rle fa) := by
  intro x hx env μ KT KF ls st H locs a b he hw hm hf kT kF
  refine ha x hx env μ _ ls st H locs a b he hw hm hf fun u μ1 H1 l1 a1 b1 hm1 h1 => ?_
  have h3 := lv_if_gt (rest := st) (x := u) hx.1 hx.2.1 hd ht (fun h => kF _ H1 l1 a1 b1 hm1 (h1.2 ((fun h => Int32.not_le.mpr h) h))) (fun h => kT _ H1 l1 a1 b1 hm1 (h1.1 ((fun h => Int32.not_lt.mp h) h)))
  exact ⟨h3, h3⟩
theorem q_ztle {y : q_Y} {k p0 p1 tgt : Nat} {off : Int} {fa : q_E Int32} (ha : q_SI y k p0 p1 p1 fa) (hd : decode y.1 p1 = .ok (.ifCond .le off, 3)) (ht : (p1 : Int) + off = (tgt : Int)) : q_SC y k p0 tgt (p1 + 3) (q_cz q_Rle fa) := by
  intro x hx env μ KT KF ls st H locs a b he hw hm hf kT kF
  refine ha x hx env μ _ ls st H locs a b he hw hm hf fun u μ1 H1 l1 a1 b1 hm1 h1 => ?_
  have h3 := lv_if_le (rest := st) (x := u) hx.1 hx.2.1 hd ht (fun h => kT _ H1 l1 a1 b1 hm1 (h1.1 h)) (fun h => kF _ H1 l1 a1 b1 hm1 (h1.2 (h)))
  exact ⟨h3, h3⟩
def q_an2 (c d : q_C) : q_C := fun env μ T F => c env μ (fun μ => d env μ T F) F
def q_or2 (c d : q_C) : q_C := fun env μ T F => c env μ T (fun μ => d env μ T F)
def q_no (c : q_C) : q_C := fun env μ T F => c env μ F T
def q_ci (c d e : q_C) : q_C := fun env μ T F => c env μ (fun μ => d env μ T F) (fun μ => e env μ T F)
theorem q_and {y : q_Y} {k p m t f : Nat} {c d : q_C} (hc : q_SC y k p m f c) (hd : q_SC y k m t f d) : q_SC y k p t f (q_an2 c d) := by
  intro x hx env μ KT KF ls st H locs a b he hw hm hf kT kF
  exact hc x hx env μ _ _ ls st H locs a b he hw hm hf (fun μ1 H1 l1 a1 b1 hm1 h1 => hd x hx env μ1 KT KF ls st H1 l1 a1 b1 he hw hm1 h1 kT kF) kF
theorem q_orr {y : q_Y} {k p m t f : Nat} {c d : q_C} (hc : q_SC y k p t m c) (hd : q_SC y k m t f d) : q_SC y k p t f (q_or2 c d) := by
  intro x hx env μ KT KF ls st H locs a b he hw hm hf kT kF
  exact hc x hx env μ _ _ ls st H locs a b he hw hm hf kT (fun μ1 H1 l1 a1 b1 hm1 h1 => hd x hx env μ1 KT KF ls st H1 l1 a1 b1 he hw hm1 h1 kT kF)
theorem q_not {y : q_Y} {k p t f : Nat} {c : q_C} (hc : q_SC y k p f t c) : q_SC y k p t f (q_no c) := by
  intro x hx env μ KT KF ls st H locs a b he hw hm hf kT kF
  exact hc x hx env μ _ _ ls st H locs a b he hw hm hf kF kT
theorem q_cci {y : q_Y} {k p m n t f : Nat} {c d e : q_C} (hc : q_SC y k p m n c) (hd : q_SC y k m t f d) (he2 : q_SC y k n t f e) : q_SC y k p t f (q_ci c d e) := by
  intro x hx env μ KT KF ls st H locs a b he hw hm hf kT kF
  exact hc x hx env μ _ _ ls st H locs a b he hw hm hf (fun μ1 H1 l1 a1 b1 hm1 h1 => hd x hx env μ1 KT KF ls st H1 l1 a1 b1 he hw hm1 h1 kT kF) (fun μ1 H1 l1 a1 b1 hm1 h1 => he2 x hx env μ1 KT KF ls st H1 l1 a1 b1 he hw hm1 h1 kT kF)
theorem q_cgoT {y : q_Y} {k p g t f : Nat} {off : Int} {c : q_C} (hc : q_SC y k p g f c) (hd : decode y.1 g = .ok (.goto off, 3)) (ht : (g : Int) + off = (t : Int)) : q_SC y k p t f c := by
  intro x hx env μ KT KF ls st H locs a b he hw hm hf kT kF
  exact hc x hx env μ _ _ ls st H locs a b he hw hm hf (fun μ1 H1 l1 a1 b1 hm1 h1 => lv_goto hx.1 hx.2.1 hd ht (kT μ1 H1 l1 a1 b1 hm1 h1)) kF
theorem q_cgoF {y : q_Y} {k p g t f : Nat} {off : Int} {c : q_C} (hc : q_SC y k p t g c) (hd : decode y.1 g = .ok (.goto off, 3)) (ht : (g : Int) + off = (f : Int)) : q_SC y k p t f c := by
  intro x hx env μ KT KF ls st H locs a b he hw hm hf kT kF
  exact hc x hx env μ _ _ ls st H locs a b he hw hm hf kT (fun μ1 H1 l1 a1 b1 hm1 h1 => lv_goto hx.1 hx.2.1 hd ht (kF μ1 H1 l1 a1 b1 hm1 h1))
-- locals written
def q_lvl (env : List Value) : List (Nat × Value) := env.zipIdx.map (fun p => (p.2, p.1))
theorem q_lvl_get {env : List Value} {i : Nat} {v : Value} (h : env[i]? = some v) : (q_lvl env)[i]? = some (i, v) := by
  simp [q_lvl, List.getElem?_map, List.getElem?_zipIdx, h]
theorem q_lvl_mem {env : List Value} {q : Nat × Value} (h : q ∈ q_lvl env) : env[q.1]? = some q.2 := by
  obtain ⟨p, hp, rfl⟩ := List.mem_map.mp h
  exact List.mem_zipIdx_iff_getElem?.mp hp
theorem q_lvl_has {y : q_Y} {ls : Array Slot} {env : List Value} (h : q_EO y ls env) : lv_has ls y.2.1 (q_lvl env) := ⟨h.1, h.2.1, fun q hq => (h.2.2 _ _ (q_lvl_mem hq)).2⟩
theorem q_EO_st {y : q_Y} {ls ls' : Array Slot} {env env' : List Value} {i : Nat} {z : Value} (h : q_EO y ls env) (hz : z.category = 1)
    (h' : lv_has ls' y.2.1 ((i, z) :: (q_lvl env).filter (fun q => !(q.1 == i) && !(q.1 + 1 == i && q.2.category == 2))))
    (he : ∀ (j : Nat) (v : Value), env'[j]? = some v → (j = i ∧ v = z) ∨ (j ≠ i ∧ env[j]? = some v)) : q_EO y ls' env' := by
  refine ⟨h'.1, h'.2.1, fun j v hj => ?_⟩
  rcases he j v hj with ⟨rfl, rfl⟩ | ⟨hne, hv⟩
  · exact ⟨hz, h'.2.2 (j, v) List.mem_cons_self⟩
  · have hc := (h.2.2 j v hv).1
    refine ⟨hc, h'.2.2 (j, v) (List.mem_cons_of_mem _ (List.mem_filter.mpr ⟨List.mem_of_getElem? (q_lvl_get hv), ?_⟩))⟩
    simp [hne, hc]
theorem q_env_set {env : List Value} {i j : Nat} {z v : Value} (h : (env.set i z)[j]? = some v) : (j = i ∧ v = z) ∨ (j ≠ i ∧ env[j]? = some v) := by
  by_cases e : j = i
  · subst e
    rw [List.getElem?_set] at h
    simp at h
    exact Or.inl ⟨rfl, h.2.symm⟩
  · rw [List.getElem?_set_ne (fun q => e q.symm)] at h
    exact Or.inr ⟨e, h⟩
theorem q_env_push {env : List Value} {i j : Nat} {z v : Value} (hi : env.length = i) (h : (env ++ [z])[j]? = some v) : (j = i ∧ v = z) ∨ (j ≠ i ∧ env[j]? = some v) := by
  by_cases e : j < env.length
  · rw [List.getElem?_append_left e] at h
    exact Or.inr ⟨by omega, h⟩
  · rw [List.getElem?_append_right (by omega)] at h
    have h1 : j - env.length < 1 := (List.getElem?_eq_some_iff.mp h).1
    have h2 : j = i := by omega
    subst h2
    rw [show j - env.length = 0 by omega] at h
    cases h
    exact Or.inl ⟨rfl, rfl⟩
def q_sset {V : Type} (u : V → Value) (i : Nat) (e : q_E V) : q_S := fun env μ Kn _ => e env μ fun v μ => i < env.length ∧ Kn (env.set i (u v)) μ
def q_sdec {V : Type} (u : V → Value) (i : Nat) (e : q_E V) : q_S := fun env μ Kn _ => e env μ fun v μ => env.length = i ∧ Kn (env ++ [u v]) μ
theorem q_istore_n_s {y : q_Y} {p0 p1 : Nat} {i : Fin 4} {z : Nat} {e : q_E Int32} (he : q_SI y 0 p0 p1 p1 e) (hd : decode y.1 p1 = .ok (.istore_n i, 1)) (hj : (i : Nat) = z) (hn : z < y.2.1) : q_SS y p0 (p1 + 1) (p1 + 1) (q_sset Value.int z e) := by
  subst hj
  intro x hx env μ Kn ls H locs a b heo hm hf kk
  refine he x hx env μ _ ls [] H locs a b heo (Nat.le_refl _) hm hf fun v μ1 H1 l1 a1 b1 hm1 h1 => ?_
  have h3 := lv_istore_n (rest := []) (x := v) hx.1 hx.2.1 hd rfl (q_lvl_has heo) hn rfl (fun ls' hl' => (kk (env.set _ (Value.int v)) μ1 ls' H1 l1 a1 b1 (q_EO_st heo rfl hl' (fun j w h => q_env_set h)) hm1 h1.2).1)
  exact ⟨h3, h3⟩
theorem q_istore_n_d {y : q_Y} {p0 p1 : Nat} {i : Fin 4} {z : Nat} {e : q_E Int32} (he : q_SI y 0 p0 p1 p1 e) (hd : decode y.1 p1 = .ok (.istore_n i, 1)) (hj : (i : Nat) = z) (hn : z < y.2.1) : q_SS y p0 (p1 + 1) (p1 + 1) (q_sdec Value.int z e) := by
  subst hj
  intro x hx env μ Kn ls H locs a b heo hm hf kk
  refine he x hx env μ _ ls [] H locs a b heo (Nat.le_refl _) hm hf fun v μ1 H1 l1 a1 b1 hm1 h1 => ?_
  have h3 := lv_istore_n (rest := []) (x := v) hx.1 hx.2.1 hd rfl (q_lvl_has heo) hn rfl (fun ls' hl' => (kk (env ++ [Value.int v]) μ1 ls' H1 l1 a1 b1 (q_EO_st heo rfl hl' (fun j w h => q_env_push h1.1 h)) hm1 h1.2).1)
  exact ⟨h3, h3⟩
theorem q_istore_s {y : q_Y} {p0 p1 : Nat} {z : Nat} {e : q_E Int32} (he : q_SI y 0 p0 p1 p1 e) (hd : decode y.1 p1 = .ok (.istore z, 2)) (hn : z < y.2.1) : q_SS y p0 (p1 + 2) (p1 + 2) (q_sset Value.int z e) := by
  skip
  intro x hx env μ Kn ls H locs a b heo hm hf kk
  refine he x hx env μ _ ls [] H locs a b heo (Nat.le_refl _) hm hf fun v μ1 H1 l1 a1 b1 hm1 h1 => ?_
  have h3 := lv_istore (rest := []) (x := v) hx.1 hx.2.1 hd (q_lvl_has heo) hn rfl (fun ls' hl' => (kk (env.set _ (Value.int v)) μ1 ls' H1 l1 a1 b1 (q_EO_st heo rfl hl' (fun j w h => q_env_set h)) hm1 h1.2).1)
  exact ⟨h3, h3⟩
theorem q_istore_d {y : q_Y} {p0 p1 : Nat} {z : Nat} {e : q_E Int32} (he : q_SI y 0 p0 p1 p1 e) (hd : decode y.1 p1 = .ok (.istore z, 2)) (hn : z < y.2.1) : q_SS y p0 (p1 + 2) (p1 + 2) (q_sdec Value.int z e) := by
  skip
  intro x hx env μ Kn ls H locs a b heo hm hf kk
  refine he x hx env μ _ ls [] H locs a b heo (Nat.le_refl _) hm hf fun v μ1 H1 l1 a1 b1 hm1 h1 => ?_
  have h3 := lv_istore (rest := []) (x := v) hx.1 hx.2.1 hd (q_lvl_has heo) hn rfl (fun ls' hl' => (kk (env ++ [Value.int v]) μ1 ls' H1 l1 a1 b1 (q_EO_st heo rfl hl' (fun j w h => q_env_push h1.1 h)) hm1 h1.2).1)
  exact ⟨h3, h3⟩
theorem q_astore_n_s {y : q_Y} {p0 p1 : Nat} {i : Fin 4} {z : Nat} {e : q_E Nat} (he : q_SR y 0 p0 p1 p1 e) (hd : decode y.1 p1 = .ok (.astore_n i, 1)) (hj : (i : Nat) = z) (hn : z < y.2.1) : q_SS y p0 (p1 + 1) (p1 + 1) (q_sset Value.ref z e) := by
  subst hj
  intro x hx env μ Kn ls H locs a b heo hm hf kk
  refine he x hx env μ _ ls [] H locs a b heo (Nat.le_refl _) hm hf fun v μ1 H1 l1 a1 b1 hm1 h1 => ?_
  have h3 := lv_astore_n (rest := []) (x := v) hx.1 hx.2.1 hd rfl (q_lvl_has heo) hn rfl (fun ls' hl' => (kk (env.set _ (Value.ref v)) μ1 ls' H1 l1 a1 b1 (q_EO_st heo rfl hl' (fun j w h => q_env_set h)) hm1 h1.2).1)
  exact ⟨h3, h3⟩
theorem q_astore_n_d {y : q_Y} {p0 p1 : Nat} {i : Fin 4} {z : Nat} {e : q_E Nat} (he : q_SR y 0 p0 p1 p1 e) (hd : decode y.1 p1 = .ok (.astore_n i, 1)) (hj : (i : Nat) = z) (hn : z < y.2.1) : q_SS y p0 (p1 + 1) (p1 + 1) (q_sdec Value.ref z e) := by
  subst hj
  intro x hx env μ Kn ls H locs a b heo hm hf kk
  refine he x hx env μ _ ls [] H locs a b heo (Nat.le_refl _) hm hf fun v μ1 H1 l1 a1 b1 hm1 h1 => ?_
  have h3 := lv_astore_n (rest := []) (x := v) hx.1 hx.2.1 hd rfl (q_lvl_has heo) hn rfl (fun ls' hl' => (kk (env ++ [Value.ref v]) μ1 ls' H1 l1 a1 b1 (q_EO_st heo rfl hl' (fun j w h => q_env_push h1.1 h)) hm1 h1.2).1)
  exact ⟨h3, h3⟩
theorem q_astore_s {y : q_Y} {p0 p1 : Nat} {z : Nat} {e : q_E Nat} (he : q_SR y 0 p0 p1 p1 e) (hd : decode y.1 p1 = .ok (.astore z, 2)) (hn : z < y.2.1) : q_SS y p0 (p1 + 2) (p1 + 2) (q_sset Value.ref z e) := by
  skip
  intro x hx env μ Kn ls H locs a b heo hm hf kk
  refine he x hx env μ _ ls [] H locs a b heo (Nat.le_refl _) hm hf fun v μ1 H1 l1 a1 b1 hm1 h1 => ?_
  have h3 := lv_astore (rest := []) (x := v) hx.1 hx.2.1 hd (q_lvl_has heo) hn rfl (fun ls' hl' => (kk (env.set _ (Value.ref v)) μ1 ls' H1 l1 a1 b1 (q_EO_st heo rfl hl' (fun j w h => q_env_set h)) hm1 h1.2).1)
  exact ⟨h3, h3⟩
theorem q_astore_d {y : q_Y} {p0 p1 : Nat} {z : Nat} {e : q_E Nat} (he : q_SR y 0 p0 p1 p1 e) (hd : decode y.1 p1 = .ok (.astore z, 2)) (hn : z < y.2.1) : q_SS y p0 (p1 + 2) (p1 + 2) (q_sdec Value.ref z e) := by
  skip
  intro x hx env μ Kn ls H locs a b heo hm hf kk
  refine he x hx env μ _ ls [] H locs a b heo (Nat.le_refl _) hm hf fun v μ1 H1 l1 a1 b1 hm1 h1 => ?_
  have h3 := lv_astore (rest := []) (x := v) hx.1 hx.2.1 hd (q_lvl_has heo) hn rfl (fun ls' hl' => (kk (env ++ [Value.ref v]) μ1 ls' H1 l1 a1 b1 (q_EO_st heo rfl hl' (fun j w h => q_env_push h1.1 h)) hm1 h1.2).1)
  exact ⟨h3, h3⟩
def q_sinc (i : Nat) (n : Int) : q_S := fun env μ Kn _ => ∃ v, env[i]? = some (.int v) ∧ Kn (env.set i (.int (v + Int32.ofInt n))) μ
theorem q_iinc {y : q_Y} {p0 i : Nat} {n : Int} (hd : decode y.1 p0 = .ok (.iinc i n, 3)) (hn : i < y.2.1) : q_SS y p0 (p0 + 3) (p0 + 3) (q_sinc i n) := by
  intro x hx env μ Kn ls H locs a b heo hm hf kk
  obtain ⟨v, hv, hk⟩ := hf
  exact lv_iinc (rest := []) hx.1 hx.2.1 hd (q_lvl_has heo) (q_lvl_get hv) rfl hn rfl (fun ls' hl' => (kk _ μ ls' H locs a b (q_EO_st heo rfl hl' (fun j w h => q_env_set h)) hm hk).1)
-- fields and arrays written
def q_bok (v : Int32) : Prop := narrow .boolean (.int v) = .int v ∧ fits .boolean (.int v) = true
def q_spf {V : Type} (u : V → Value) (ok : V → Prop) (ci k : Nat) (r : q_E Nat) (e : q_E V) : q_S := fun env μ Kn _ => r env μ fun a μ => e env μ fun v μ => μ.1.1 a = some (.inl ci) ∧ ok v ∧ Kn env (q_set μ a k (u v))
theorem q_putF {V : Type} {inj : V → List Value} {u : V → Value} {ok : V → Prop} {ty : FieldType} (hu : ∀ v, inj v = [u v]) (hok : ∀ v, ok v → narrow ty (u v) = u v ∧ fits ty (u v) = true) {y : q_Y} {p0 p1 p2 index ci kf : Nat} {fr : q_E Nat} {e : q_E V}
    (hr : q_SR y 0 p0 p1 p1 fr) (he : q_SV inj y 1 p1 p2 p2 e) (hd : decode y.1 p2 = .ok (.putfield index, 3)) (hg : q_pf y.2.2.1.cls index ci kf ty) : q_SS y p0 (p2 + 3) (p2 + 3) (q_spf u ok ci kf fr e) := by
  intro x hx env μ Kn ls H locs a b heo hm hf kk
  refine hr x hx env μ _ ls [] H locs a b heo (Nat.le_refl _) hm hf fun r μ1 H1 l1 a1 b1 hm1 h1 => ?_
  have h2 := he x hx env μ1 _ ls [.ref r] H1 l1 a1 b1 heo (q_w_ref (Nat.le_refl _)) hm1 h1 fun v μ2 H2 l2 a2 b2 hm2 h2 => ?_
  · exact ⟨h2, h2⟩
  · rw [hu]
    have h3 := q_putf hx hg hd (ls := ls) (st := []) hm2 h2.1 (hok v h2.2.1).1 (hok v h2.2.1).2 (fun H3 l3 hm3 => (kk env _ ls H3 l3 a2 b2 heo hm3 h2.2.2).1)
    exact ⟨h3, h3⟩
theorem q_putI {y : q_Y} {p0 p1 p2 index ci kf : Nat} {fr : q_E Nat} {e : q_E Int32} (hr : q_SR y 0 p0 p1 p1 fr) (he : q_SI y 1 p1 p2 p2 e) (hd : decode y.1 p2 = .ok (.putfield index, 3)) (hg : q_pf y.2.2.1.cls index ci kf .int) : q_SS y p0 (p2 + 3) (p2 + 3) (q_spf Value.int (fun _ => True) ci kf fr e) :=
  q_putF (fun _ => rfl) (fun _ _ => ⟨rfl, rfl⟩) hr he hd hg
theorem q_putZ {y : q_Y} {p0 p1 p2 index ci kf : Nat} {fr : q_E Nat} {e : q_E Int32} (hr : q_SR y 0 p0 p1 p1 fr) (he : q_SI y 1 p1 p2 p2 e) (hd : decode y.1 p2 = .ok (.putfield index, 3)) (hg : q_pf y.2.2.1.cls index ci kf .boolean) : q_SS y p0 (p2 + 3) (p2 + 3) (q_spf Value.int q_bok ci kf fr e) :=
  q_putF (fun _ => rfl) (fun _ h => h) hr he hd hg
theorem q_putR {y : q_Y} {p0 p1 p2 index ci kf : Nat} {C : String} {fr e : q_E Nat} (hr : q_SR y 0 p0 p1 p1 fr) (he : q_SR y 1 p1 p2 p2 e) (hd : decode y.1 p2 = .ok (.putfield index, 3)) (hg : q_pf y.2.2.1.cls index ci kf (.object C)) : q_SS y p0 (p2 + 3) (p2 + 3) (q_spf Value.ref (fun _ => True) ci kf fr e) :=
  q_putF (fun _ => rfl) (fun _ _ => ⟨rfl, rfl⟩) hr he hd hg
/-- the ints' operations that stand between a read and a write: by their opcode -/
def q_op (y : q_Y) (p : Nat) (g : Int32 → Int32 → Int32) : Prop := ∀ (x : q_X), q_CX y x → ∀ (u v : Int32) (ls : Array Slot) (st : List Value) (H : Heap) (locs : List Loc) (a b : Nat), q_W x H locs a b (F0 x.2.1.1 (p + 1) ls (.int (g u v) :: st)) → q_W x H locs a b (F0 x.2.1.1 p ls (.int v :: .int u :: st))
theorem q_op_iadd {y : q_Y} {p : Nat} (hd : decode y.1 p = .ok (.iadd, 1)) : q_op y p q_giadd := fun _ hx _ _ _ _ _ _ _ _ kk => lv_iadd hx.1 hx.2.1 hd kk
theorem q_op_isub {y : q_Y} {p : Nat} (hd : decode y.1 p = .ok (.isub, 1)) : q_op y p q_gisub := fun _ hx _ _ _ _ _ _ _ _ kk => lv_isub hx.1 hx.2.1 hd kk
theorem q_op_imul {y : q_Y} {p : Nat} (hd : decode y.1 p = .ok (.imul, 1)) : q_op y p q_gimul := fun _ hx _ _ _ _ _ _ _ _ kk => lv_imul hx.1 hx.2.1 hd kk
theorem q_op_ishl {y : q_Y} {p : Nat} (hd : decode y.1 p = .ok (.ishl, 1)) : q_op y p q_gishl := fun _ hx _ _ _ _ _ _ _ _ kk => lv_ishl hx.1 hx.2.1 hd kk
theorem q_op_ishr {y : q_Y} {p : Nat} (hd : decode y.1 p = .ok (.ishr, 1)) : q_op y p q_gishr := fun _ hx _ _ _ _ _ _ _ _ kk => lv_ishr hx.1 hx.2.1 hd kk
theorem q_op_iand {y : q_Y} {p : Nat} (hd : decode y.1 p = .ok (.iand, 1)) : q_op y p q_giand := fun _ hx _ _ _ _ _ _ _ _ kk => lv_iand hx.1 hx.2.1 hd kk
theorem q_op_ior {y : q_Y} {p : Nat} (hd : decode y.1 p = .ok (.ior, 1)) : q_op y p q_gior := fun _ hx _ _ _ _ _ _ _ _ kk => lv_ior hx.1 hx.2.1 hd kk
theorem q_op_ixor {y : q_Y} {p : Nat} (hd : decode y.1 p = .ok (.ixor, 1)) : q_op y p q_gixor := fun _ hx _ _ _ _ _ _ _ _ kk => lv_ixor hx.1 hx.2.1 hd kk
def q_sof (ci k : Nat) (g : Int32 → Int32 → Int32) (r : q_E Nat) (e : q_E Int32) : q_S := fun env μ Kn _ => r env μ fun a μ => μ.1.1 a = some (.inl ci) ∧ ∃ w, μ.2 a k = .int w ∧ e env μ fun v μ => μ.1.1 a = some (.inl ci) ∧ Kn env (q_set μ a k (.int (g w v)))
theorem q_opF {y : q_Y} {p0 p1 p2 i1 i2 ci kf : Nat} {g : Int32 → Int32 → Int32} {fr : q_E Nat} {e : q_E Int32} (hr : q_SR y 0 p0 p1 p1 fr) (hdup : decode y.1 p1 = .ok (.dup, 1)) (hd1 : decode y.1 (p1 + 1) = .ok (.getfield i1, 3)) (hg1 : q_gf y.2.2.1.cls i1 ci kf)
    (he : q_SI y 2 (p1 + 1 + 3) p2 p2 e) (hop : q_op y p2 g) (hd : decode y.1 (p2 + 1) = .ok (.putfield i2, 3)) (hg : q_pf y.2.2.1.cls i2 ci kf .int) : q_SS y p0 (p2 + 1 + 3) (p2 + 1 + 3) (q_sof ci kf g fr e) := by
  intro x hx env μ Kn ls H locs a b heo hm hf kk
  refine hr x hx env μ _ ls [] H locs a b heo (Nat.le_refl _) hm hf fun r μ1 H1 l1 a1 b1 hm1 h1 => ?_
  obtain ⟨ht, w, hw, h1⟩ := h1
  have h2 := he x hx env μ1 _ ls [.int w, .ref r] H1 l1 a1 b1 heo (q_w_int (q_w_ref (Nat.le_refl _))) hm1 h1 fun v μ2 H2 l2 a2 b2 hm2 h2 => ?_
  · have h4 := lv_dup (rest := []) (va := .ref r) hx.1 hx.2.1 hdup rfl (q_get hx hg1 hd1 (ls := ls) (st := [.ref r]) hm1 ht (by rw [hw]; exact h2))
    exact ⟨h4, h4⟩
  · have h3 := hop x hx w v ls [.ref r] H2 l2 a2 b2 (q_putf hx hg hd (ls := ls) (st := []) hm2 h2.1 rfl rfl (fun H3 l3 hm3 => (kk env _ ls H3 l3 a2 b2 heo hm3 h2.2).1))
    exact ⟨h3, h3⟩
def q_sai (r : q_E Nat) (i e : q_E Int32) : q_S := fun env μ Kn _ => r env μ fun a μ => i env μ fun j μ => e env μ fun v μ => ∃ n, μ.1.1 a = some (.inr (.inl (.int, n))) ∧ vp_in j n ∧ Kn env (q_set μ a j.toNatClampNeg (.int v))
theorem q_stI {y : q_Y} {p0 p1 p2 p3 : Nat} {fr : q_E Nat} {fi e : q_E Int32} (hr : q_SR y 0 p0 p1 p1 fr) (hi : q_SI y 1 p1 p2 p2 fi) (he : q_SI y 2 p2 p3 p3 e) (hd : decode y.1 p3 = .ok (.iastore, 1)) : q_SS y p0 (p3 + 1) (p3 + 1) (q_sai fr fi e) := by
  intro x hx env μ Kn ls H locs a b heo hm hf kk
  refine hr x hx env μ _ ls [] H locs a b heo (Nat.le_refl _) hm hf fun r μ1 H1 l1 a1 b1 hm1 h1 => ?_
  have g1 := hi x hx env μ1 _ ls [.ref r] H1 l1 a1 b1 heo (q_w_ref (Nat.le_refl _)) hm1 h1 fun j μ2 H2 l2 a2 b2 hm2 h2 => ?_
  · exact ⟨g1, g1⟩
  have g2 := he x hx env μ2 _ ls [.int j, .ref r] H2 l2 a2 b2 heo (q_w_int (q_w_ref (Nat.le_refl _))) hm2 h2 fun v μ3 H3 l3 a3 b3 hm3 h3 => ?_
  · exact ⟨g2, g2⟩
  obtain ⟨n, ht, hin, hk⟩ := h3
  have g3 := q_ist hx hd (ls := ls) (st := []) (v := v) hm3 ht hin (fun H4 l4 hm4 => (kk env _ ls H4 l4 a3 b3 heo hm4 hk).1)
  exact ⟨g3, g3⟩
def q_saz (r : q_E Nat) (i e : q_E Int32) : q_S := fun env μ Kn _ => r env μ fun a μ => i env μ fun j μ => e env μ fun v μ => ∃ n, μ.1.1 a = some (.inr (.inl (.boolean, n))) ∧ vp_in j n ∧ narrow .boolean (.int v) = .int v ∧ Kn env (q_set μ a j.toNatClampNeg (.int v))
theorem q_stZ {y : q_Y} {p0 p1 p2 p3 : Nat} {fr : q_E Nat} {fi e : q_E Int32} (hr : q_SR y 0 p0 p1 p1 fr) (hi : q_SI y 1 p1 p2 p2 fi) (he : q_SI y 2 p2 p3 p3 e) (hd : decode y.1 p3 = .ok (.bastore, 1)) : q_SS y p0 (p3 + 1) (p3 + 1) (q_saz fr fi e) := by
  intro x hx env μ Kn ls H locs a b heo hm hf kk
  refine hr x hx env μ _ ls [] H locs a b heo (Nat.le_refl _) hm hf fun r μ1 H1 l1 a1 b1 hm1 h1 => ?_
  have g1 := hi x hx env μ1 _ ls [.ref r] H1 l1 a1 b1 heo (q_w_ref (Nat.le_refl _)) hm1 h1 fun j μ2 H2 l2 a2 b2 hm2 h2 => ?_
  · exact ⟨g1, g1⟩
  have g2 := he x hx env μ2 _ ls [.int j, .ref r] H2 l2 a2 b2 heo (q_w_int (q_w_ref (Nat.le_refl _))) hm2 h2 fun v μ3 H3 l3 a3 b3 hm3 h3 => ?_
  · exact ⟨g2, g2⟩
  obtain ⟨n, ht, hin, hn, hk⟩ := h3
  have g3 := q_zst hx hd (ls := ls) (st := []) (v := v) hm3 ht hin hn (fun H4 l4 hm4 => (kk env _ ls H4 l4 a3 b3 heo hm4 hk).1)
  exact ⟨g3, g3⟩
def q_soa (g : Int32 → Int32 → Int32) (r : q_E Nat) (i e : q_E Int32) : q_S := fun env μ Kn _ => r env μ fun a μ => i env μ fun j μ => ∃ n, μ.1.1 a = some (.inr (.inl (.int, n))) ∧ vp_in j n ∧ ∃ w, μ.2 a j.toNatClampNeg = .int w ∧ e env μ fun v μ => μ.1.1 a = some (.inr (.inl (.int, n))) ∧ Kn env (q_set μ a j.toNatClampNeg (.int (g w v)))
theorem q_opA {y : q_Y} {p0 p1 p2 p3 : Nat} {g : Int32 → Int32 → Int32} {fr : q_E Nat} {fi e : q_E Int32} (hr : q_SR y 0 p0 p1 p1 fr) (hi : q_SI y 1 p1 p2 p2 fi) (hdup : decode y.1 p2 = .ok (.dup2, 1)) (hd1 : decode y.1 (p2 + 1) = .ok (.iaload, 1))
    (he : q_SI y 3 (p2 + 1 + 1) p3 p3 e) (hop : q_op y p3 g) (hd : decode y.1 (p3 + 1) = .ok (.iastore, 1)) : q_SS y p0 (p3 + 1 + 1) (p3 + 1 + 1) (q_soa g fr fi e) := by
  intro x hx env μ Kn ls H locs a b heo hm hf kk
  refine hr x hx env μ _ ls [] H locs a b heo (Nat.le_refl _) hm hf fun r μ1 H1 l1 a1 b1 hm1 h1 => ?_
  have g1 := hi x hx env μ1 _ ls [.ref r] H1 l1 a1 b1 heo (q_w_ref (Nat.le_refl _)) hm1 h1 fun j μ2 H2 l2 a2 b2 hm2 h2 => ?_
  · exact ⟨g1, g1⟩
  obtain ⟨n, ht, hin, w, hw, h2⟩ := h2
  have g2 := he x hx env μ2 _ ls [.int w, .int j, .ref r] H2 l2 a2 b2 heo (q_w_int (q_w_int (q_w_ref (Nat.le_refl _)))) hm2 h2 fun v μ3 H3 l3 a3 b3 hm3 h3 => ?_
  · have h4 := lv_dup2_11 (rest := []) (va := .int j) (vb := .ref r) hx.1 hx.2.1 hdup rfl rfl (q_ild hx hd1 (ls := ls) (st := [.int j, .ref r]) hm2 ht hin (by rw [hw]; exact g2))
    exact ⟨h4, h4⟩
  have g3 := hop x hx w v ls [.int j, .ref r] H3 l3 a3 b3 (q_ist hx hd (ls := ls) (st := []) hm3 h3.1 hin (fun H4 l4 hm4 => (kk env _ ls H4 l4 a3 b3 heo hm4 h3.2).1))
  exact ⟨g3, g3⟩
-- calls as statements
def q_sx {V : Type} (e : q_E V) : q_S := fun env μ Kn _ => e env μ fun _ μ => Kn env μ
theorem q_exV {y : q_Y} {p0 p1 : Nat} {e : q_E Unit} (he : q_SU y 0 p0 p1 p1 e) : q_SS y p0 p1 p1 (q_sx e) := by
  intro x hx env μ Kn ls H locs a b heo hm hf kk
  exact he x hx env μ _ ls [] H locs a b heo (Nat.le_refl _) hm hf fun v μ1 H1 l1 a1 b1 hm1 h1 => kk env μ1 ls H1 l1 a1 b1 heo hm1 h1
theorem q_exI {y : q_Y} {p0 p1 : Nat} {e : q_E Int32} (he : q_SI y 0 p0 p1 p1 e) (hd : decode y.1 p1 = .ok (.pop, 1)) : q_SS y p0 (p1 + 1) (p1 + 1) (q_sx e) := by
  intro x hx env μ Kn ls H locs a b heo hm hf kk
  refine he x hx env μ _ ls [] H locs a b heo (Nat.le_refl _) hm hf fun v μ1 H1 l1 a1 b1 hm1 h1 => ?_
  have h3 := lv_pop (rest := []) (va := .int v) hx.1 hx.2.1 hd rfl (kk env μ1 ls H1 l1 a1 b1 heo hm1 h1).1
  exact ⟨h3, h3⟩
-- the end of a method
theorem q_end {y : q_Y} {x : q_X} (hx : q_CX y x) {μ : q_M} {H : Heap} {locs : List Loc} {i j : Nat} (hm : q_MO x μ H locs i j) {r : Option Value} (hk : x.2.2.2.2 r μ) (t : State) (ht : t.heap = H) (hW : x.1.2.2.2.2.WarmedH t.vm) : q_Qc x.2.2.1 x.2.2.2.1 x.2.2.2.2 x.2.1.2.1 x.1.2.2.2.2 (.returned r) t := by
  refine ⟨r, μ, rfl, hk, va_K.moved hW.alike hx.2.2.2.2.2.2.2.1, by rw [ht]; exact q_R_moved hW.alike hm.1, by rw [ht]; exact hm.2.1.1, fun q h1 h2 => by rw [ht]; exact hm.2.1.2.1 q h1 h2⟩
def q_srv : q_S := fun _ μ _ Kr => Kr none μ
theorem q_retV {y : q_Y} {p e1 e2 : Nat} (hd : decode y.1 p = .ok (.return_, 1)) (hr : y.2.2.2.2 = none) : q_SS y p e1 e2 q_srv := by
  intro x hx env μ Kn ls H locs a b heo hm hf kk
  refine W.widen (k := x.1.2.2.2.1.cells) (n := x.1.2.2.2.1.slots) (by have := hm.2.2.1; omega) (by have := hm.2.2.2; omega) ?_
  exact W.vret (hlocks := hx.2.2.2.2.2.1) hx.1 hx.2.1 (hx.2.2.2.2.2.2.1.trans hr) (fun t ht hW => q_end hx hm hf t ht hW) hm.2.1.2.2 hd
def q_sri (ok : Int32 → Prop) (e : q_E Int32) : q_S := fun env μ _ Kr => e env μ fun v μ => ok v ∧ Kr (some (.int v)) μ
theorem q_retW {y : q_Y} {p p1 e1 e2 : Nat} {e : q_E Int32} {ok : Int32 → Prop} {ty : FieldType} (hok : ∀ v, ok v → narrow ty (.int v) = .int v) (he : q_SI y 0 p p1 p1 e) (hd : decode y.1 p1 = .ok (.ireturn, 1)) (hr : y.2.2.2.2 = some ty) : q_SS y p e1 e2 (q_sri ok e) := by
  intro x hx env μ Kn ls H locs a b heo hm hf kk
  refine he x hx env μ _ ls [] H locs a b heo (Nat.le_refl _) hm hf fun v μ1 H1 l1 a1 b1 hm1 h1 => ?_
  have h3 : q_W x H1 l1 a1 b1 (F0 x.2.1.1 p1 ls [.int v]) := by
    refine W.widen (k := x.1.2.2.2.1.cells) (n := x.1.2.2.2.1.slots) (by have := hm1.2.2.1; omega) (by have := hm1.2.2.2; omega) ?_
    exact W.zret (hlocks := hx.2.2.2.2.2.1) hx.1 hx.2.1 (hx.2.2.2.2.2.2.1.trans hr) (hok v h1.1) (fun t ht hW => q_end hx hm1 h1.2 t ht hW) hm1.2.1.2.2 hd
  exact ⟨h3, h3⟩
theorem q_retI {y : q_Y} {p p1 e1 e2 : Nat} {e : q_E Int32} (he : q_SI y 0 p p1 p1 e) (hd : decode y.1 p1 = .ok (.ireturn, 1)) (hr : y.2.2.2.2 = some .int) : q_SS y p e1 e2 (q_sri (fun _ => True) e) := q_retW (fun _ _ => rfl) he hd hr
theorem q_retZ {y : q_Y} {p p1 e1 e2 : Nat} {e : q_E Int32} (he : q_SI y 0 p p1 p1 e) (hd : decode y.1 p1 = .ok (.ireturn, 1)) (hr : y.2.2.2.2 = some .boolean) : q_SS y p e1 e2 (q_sri q_bok e) := q_retW (fun _ h => h.1) he hd hr
def q_srr (e : q_E Nat) : q_S := fun env μ _ Kr => e env μ fun v μ => Kr (some (.ref v)) μ
theorem q_retR {y : q_Y} {p p1 e1 e2 : Nat} {e : q_E Nat} {C : String} (he : q_SR y 0 p p1 p1 e) (hd : decode y.1 p1 = .ok (.areturn, 1)) (hr : y.2.2.2.2 = some (.object C)) : q_SS y p e1 e2 (q_srr e) := by
  intro x hx env μ Kn ls H locs a b heo hm hf kk
  refine he x hx env μ _ ls [] H locs a b heo (Nat.le_refl _) hm hf fun v μ1 H1 l1 a1 b1 hm1 h1 => ?_
  have h3 : q_W x H1 l1 a1 b1 (F0 x.2.1.1 p1 ls [.ref v]) := by
    refine W.widen (k := x.1.2.2.2.1.cells) (n := x.1.2.2.2.1.slots) (by have := hm1.2.2.1; omega) (by have := hm1.2.2.2; omega) ?_
    exact W.aret (hlocks := hx.2.2.2.2.2.1) hx.1 hx.2.1 (hx.2.2.2.2.2.2.1.trans hr) (Or.inl ⟨C, rfl⟩) (Or.inr ⟨v, rfl⟩) (fun t ht hW => q_end hx hm1 h1 t ht hW) hm1.2.1.2.2 hd
  exact ⟨h3, h3⟩
-- putting statements together
def q_nop : q_S := fun env μ Kn _ => Kn env μ
theorem q_skip {y : q_Y} {p : Nat} : q_SS y p p p q_nop := fun x hx env μ Kn ls H locs a b heo hm hf kk => (kk env μ ls H locs a b heo hm hf).1
def q_sq (s t : q_S) : q_S := fun env μ Kn Kr => s env μ (fun env μ => t env μ Kn Kr) Kr
theorem q_seq {y : q_Y} {p m e1 e2 : Nat} {s t : q_S} (hs : q_SS y p m m s) (ht : q_SS y m e1 e2 t) : q_SS y p e1 e2 (q_sq s t) := by
  intro x hx env μ Kn ls H locs a b heo hm hf kk
  refine hs x hx env μ _ ls H locs a b heo hm hf fun env1 μ1 ls1 H1 l1 a1 b1 heo1 hm1 h1 => ?_
  have h2 := ht x hx env1 μ1 Kn ls1 H1 l1 a1 b1 heo1 hm1 h1 kk
  exact ⟨h2, h2⟩
def q_blk (n : Nat) (s : q_S) : q_S := fun env μ Kn Kr => s env μ (fun env μ => Kn (env.take n) μ) Kr
theorem q_block {y : q_Y} {p e1 e2 n : Nat} {s : q_S} (hs : q_SS y p e1 e2 s) : q_SS y p e1 e2 (q_blk n s) := by
  intro x hx env μ Kn ls H locs a b heo hm hf kk
  refine hs x hx env μ _ ls H locs a b heo hm hf fun env1 μ1 ls1 H1 l1 a1 b1 heo1 hm1 h1 => ?_
  refine kk (env1.take n) μ1 ls1 H1 l1 a1 b1 ⟨heo1.1, heo1.2.1, fun i v hi => heo1.2.2 i v ?_⟩ hm1 h1
  rw [List.getElem?_take] at hi
  split at hi
  · exact hi
  · cases hi
theorem q_wk {y : q_Y} {p a b e1 e2 : Nat} {s : q_S} (h : q_SS y p a b s) (ha : a = e1 ∨ a = e2) (hb : b = e1 ∨ b = e2) : q_SS y p e1 e2 s := by
  intro x hx env μ Kn ls H locs i j heo hm hf kk
  refine h x hx env μ Kn ls H locs i j heo hm hf fun env1 μ1 ls1 H1 l1 a1 b1 heo1 hm1 h1 => ?_
  have h2 := kk env1 μ1 ls1 H1 l1 a1 b1 heo1 hm1 h1
  refine ⟨?_, ?_⟩
  · rcases ha with rfl | rfl
    · exact h2.1
    · exact h2.2
  · rcases hb with rfl | rfl
    · exact h2.1
    · exact h2.2
theorem q_go {y : q_Y} {p g t : Nat} {off : Int} {s : q_S} (h : q_SS y p g t s) (hd : decode y.1 g = .ok (.goto off, 3)) (ht : (g : Int) + off = (t : Int)) : q_SS y p t t s := by
  intro x hx env μ Kn ls H locs i j heo hm hf kk
  refine h x hx env μ Kn ls H locs i j heo hm hf fun env1 μ1 ls1 H1 l1 a1 b1 heo1 hm1 h1 => ?_
  have h2 := (kk env1 μ1 ls1 H1 l1 a1 b1 heo1 hm1 h1).1
  exact ⟨lv_goto hx.1 hx.2.1 hd ht h2, h2⟩
def q_if (c : q_C) (s t : q_S) : q_S := fun env μ Kn Kr => c env μ (fun μ => s env μ Kn Kr) (fun μ => t env μ Kn Kr)
theorem q_ite {y : q_Y} {p t f e1 e2 : Nat} {c : q_C} {s u : q_S} (hc : q_SC y 0 p t f c) (hs : q_SS y t e1 e2 s) (hu : q_SS y f e1 e2 u) : q_SS y p e1 e2 (q_if c s u) := by
  intro x hx env μ Kn ls H locs a b heo hm hf kk
  exact hc x hx env μ _ _ ls [] H locs a b heo (Nat.le_refl _) hm hf (fun μ1 H1 l1 a1 b1 hm1 h1 => hs x hx env μ1 Kn ls H1 l1 a1 b1 heo hm1 h1 kk) (fun μ1 H1 l1 a1 b1 hm1 h1 => hu x hx env μ1 Kn ls H1 l1 a1 b1 heo hm1 h1 kk)
def q_it (c : q_C) (s : q_S) (Kn : List Value → q_M → Prop) (Kr : Option Value → q_M → Prop) : Nat → List Value → q_M → Prop
  | 0 => fun _ _ => False
  | n + 1 => fun env μ => c env μ (fun μ => s env μ (q_it c s Kn Kr n) Kr) (fun μ => Kn env μ)
def q_wh (c : q_C) (s : q_S) : q_S := fun env μ Kn Kr => ∃ n, q_it c s Kn Kr n env μ
theorem q_while {y : q_Y} {p t f : Nat} {c : q_C} {s : q_S} (hc : q_SC y 0 p t f c) (hs : q_SS y t p p s) : q_SS y p f f (q_wh c s) := by
  intro x hx env μ Kn ls H locs a b heo hm hf kk
  obtain ⟨n, hn⟩ := hf
  induction n generalizing env μ ls H locs a b with
  | zero => exact absurd hn id
  | succ n ih =>
    refine hc x hx env μ _ _ ls [] H locs a b heo (Nat.le_refl _) hm hn (fun μ1 H1 l1 a1 b1 hm1 h1 => ?_) (fun μ1 H1 l1 a1 b1 hm1 h1 => (kk env μ1 ls H1 l1 a1 b1 heo hm1 h1).1)
    refine hs x hx env μ1 _ ls H1 l1 a1 b1 heo hm1 h1 fun env2 μ2 ls2 H2 l2 a2 b2 heo2 hm2 h2 => ?_
    have h3 := ih env2 μ2 ls2 H2 l2 a2 b2 heo2 hm2 h2
    exact ⟨h3, h3⟩
-- switches
def q_cas (env : List Value) (μ : q_M) (Kn : List Value → q_M → Prop) (Kr : Option Value → q_M → Prop) (v : Int32) : List q_S → Int → Prop
  | [], _ => True
  | s :: r, i => (v.toInt = i → s env μ Kn Kr) ∧ q_cas env μ Kn Kr v r (i + 1)
def q_sw (lo : Int) (cs : List q_S) (df : q_S) (e : q_E Int32) : q_S := fun env μ Kn Kr => e env μ fun v μ => q_cas env μ Kn Kr v cs lo ∧ ((v.toInt < lo ∨ lo + (cs.length : Int) ≤ v.toInt) → df env μ Kn Kr)
/-- each case's statement at its target -/
def q_SSs (y : q_Y) (pc e1 e2 : Nat) : List q_S → List Int → Prop
  | [], [] => True
  | s :: r, o :: os => (∃ t : Nat, (pc : Int) + o = (t : Int) ∧ q_SS y t e1 e2 s) ∧ q_SSs y pc e1 e2 r os
  | _, _ => False
theorem q_cas_get {env : List Value} {μ : q_M} {Kn : List Value → q_M → Prop} {Kr : Option Value → q_M → Prop} {v : Int32} {y : q_Y} {pc e1 e2 : Nat} : ∀ (cs : List q_S) (os : List Int) (lo : Int), q_cas env μ Kn Kr v cs lo → q_SSs y pc e1 e2 cs os → lo ≤ v.toInt → v.toInt < lo + (cs.length : Int) →
    ∃ (s : q_S) (o : Int) (t : Nat), os[(v.toInt - lo).toNat]? = some o ∧ (pc : Int) + o = (t : Int) ∧ q_SS y t e1 e2 s ∧ s env μ Kn Kr := by
  intro cs
  induction cs with
  | nil =>
    intro os lo _ _ h1 h2
    simp at h2
    omega
  | cons s r ih =>
    intro os lo hc hs h1 h2
    cases os with
    | nil => exact absurd hs id
    | cons o os =>
      by_cases e : v.toInt = lo
      · obtain ⟨⟨t, ht, hst⟩, -⟩ := hs
        refine ⟨s, o, t, ?_, ht, hst, hc.1 e⟩
        rw [show (v.toInt - lo).toNat = 0 by omega]
        rfl
      · obtain ⟨s2, o2, t2, g1, g2, g3, g4⟩ := ih os (lo + 1) hc.2 hs.2 (by omega) (by simp at h2; omega)
        refine ⟨s2, o2, t2, ?_, g2, g3, g4⟩
        rw [show (v.toInt - lo).toNat = (v.toInt - (lo + 1)).toNat + 1 by omega]
        exact g1
theorem q_switch {y : q_Y} {p p1 e1 e2 len d : Nat} {lo hi dflt : Int} {offs : Array Int} {os : List Int} {cs : List q_S} {df : q_S} {e : q_E Int32} (he : q_SI y 0 p p1 p1 e) (hd : decode y.1 p1 = .ok (.tableswitch dflt lo hi offs, len)) (hos : offs.toList = os) (hhi : lo + (cs.length : Int) = hi + 1)
    (hs : q_SSs y p1 e1 e2 cs os) (hdt : (p1 : Int) + dflt = (d : Int)) (hdf : q_SS y d e1 e2 df) : q_SS y p e1 e2 (q_sw lo cs df e) := by
  intro x hx env μ Kn ls H locs a b heo hm hf kk
  refine he x hx env μ _ ls [] H locs a b heo (Nat.le_refl _) hm hf fun v μ1 H1 l1 a1 b1 hm1 h1 => ?_
  have h3 : q_W x H1 l1 a1 b1 (F0 x.2.1.1 p1 ls [.int v]) := by
    by_cases h2 : v.toInt < lo ∨ hi < v.toInt
    · exact lv_tableOut (rest := []) hx.1 hx.2.1 hd h2 hdt (hdf x hx env μ1 Kn ls H1 l1 a1 b1 heo hm1 (h1.2 (by omega)) kk)
    · obtain ⟨s, o, t, g1, g2, g3, g4⟩ := q_cas_get cs os lo h1.1 hs (by omega) (by omega)
      exact lv_tableIn (rest := []) hx.1 hx.2.1 hd (by omega) (by omega) (by rw [← Array.getElem?_toList, hos]; exact g1) g2 (g3 x hx env μ1 Kn ls H1 l1 a1 b1 heo hm1 g4 kk)
  exact ⟨h3, h3⟩
end
