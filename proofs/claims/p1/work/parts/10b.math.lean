section
def q_gmmax (u v : Int32) : Int32 := if u < v then v else u
def q_gmmin (u v : Int32) : Int32 := if v < u then v else u
theorem q_mf1 : Cond.static Lib.Math.max.name ∈ q_tb := q_mt_4 131 rfl rfl
theorem q_mf2 : Cond.static Lib.Math.min.name ∈ q_tb := q_mt_4 86 rfl rfl
theorem q_mf3 : Cond.initialized "java/lang/Math" ∈ q_tb := q_mt_1 16 rfl rfl
theorem q_mf4 : Cond.code Lib.Math.max.name Lib.Math.max.code 2 (some .int) ∈ q_tb := q_mt_4 132 rfl rfl
theorem q_mf5 : Cond.code Lib.Math.min.name Lib.Math.min.code 2 (some .int) ∈ q_tb := q_mt_4 87 rfl rfl
theorem q_mmax {y : q_Y} {k p0 p1 p2 index : Nat} {fa fb : q_E Int32} (ha : q_SI y k p0 p1 p1 fa) (hb : q_SI y (k + 1) p1 p2 p2 fb) (hd : decode y.1 p2 = .ok (.invokestatic index, 3)) (hl : Cond.methodLink y.2.2.1.cls index Lib.Math.max.name ∈ q_tb) (hk : k ≤ 8) (hdep : 1 ≤ y.2.2.2.1) : q_SI y k p0 (p2 + 3) (p2 + 3) (q_2 q_gmmax fa fb) := by
  intro x hx env μ K ls st H locs a b he hw hm hf kk
  refine ha x hx env μ _ ls st H locs a b he hw hm hf fun u μ1 H1 l1 a1 b1 hm1 h1 => ?_
  have h2 := hb x hx env μ1 _ ls (.int u :: st) H1 l1 a1 b1 he (q_w_int hw) hm1 h1 fun v μ2 H2 l2 a2 b2 hm2 h2 => ?_
  · exact ⟨h2, h2⟩
  · have hfr : y.2.2.2.1 ≤ x.1.2.2.2.1.frames := hx.2.2.2.2.2.2.2.2.2.1
    have hlo : 64 * y.2.2.2.1 ≤ x.1.2.2.2.1.locals := hx.2.2.2.2.2.2.2.2.2.2.1
    have h3 := va_mmax (rest := st) (x := u) (y := v) hx.1 hx.2.1 (by rw [hx.2.2.1]; exact he.1.symm) hx.2.2.2.1 (hx.2.2.2.2.1 _ hl) (hx.2.2.2.2.1 _ q_mf1) (hx.2.2.2.2.1 _ q_mf3) (hx.2.2.2.2.1 _ q_mf4) (by omega) (by show q_w st + 13 ≤ _; omega) (by have := hm2.2.2.1; omega) (by have := hm2.2.2.2; omega) hd (kk _ μ2 H2 l2 a2 b2 hm2 h2).1
    exact ⟨h3, h3⟩
theorem q_mmin {y : q_Y} {k p0 p1 p2 index : Nat} {fa fb : q_E Int32} (ha : q_SI y k p0 p1 p1 fa) (hb : q_SI y (k + 1) p1 p2 p2 fb) (hd : decode y.1 p2 = .ok (.invokestatic index, 3)) (hl : Cond.methodLink y.2.2.1.cls index Lib.Math.min.name ∈ q_tb) (hk : k ≤ 8) (hdep : 1 ≤ y.2.2.2.1) : q_SI y k p0 (p2 + 3) (p2 + 3) (q_2 q_gmmin fa fb) := by
  intro x hx env μ K ls st H locs a b he hw hm hf kk
  refine ha x hx env μ _ ls st H locs a b he hw hm hf fun u μ1 H1 l1 a1 b1 hm1 h1 => ?_
  have h2 := hb x hx env μ1 _ ls (.int u :: st) H1 l1 a1 b1 he (q_w_int hw) hm1 h1 fun v μ2 H2 l2 a2 b2 hm2 h2 => ?_
  · exact ⟨h2, h2⟩
  · have hfr : y.2.2.2.1 ≤ x.1.2.2.2.1.frames := hx.2.2.2.2.2.2.2.2.2.1
    have hlo : 64 * y.2.2.2.1 ≤ x.1.2.2.2.1.locals := hx.2.2.2.2.2.2.2.2.2.2.1
    have h3 := va_mmin (rest := st) (x := u) (y := v) hx.1 hx.2.1 (by rw [hx.2.2.1]; exact he.1.symm) hx.2.2.2.1 (hx.2.2.2.2.1 _ hl) (hx.2.2.2.2.1 _ q_mf2) (hx.2.2.2.2.1 _ q_mf3) (hx.2.2.2.2.1 _ q_mf5) (by omega) (by show q_w st + 13 ≤ _; omega) (by have := hm2.2.2.1; omega) (by have := hm2.2.2.2; omega) hd (kk _ μ2 H2 l2 a2 b2 hm2 h2).1
    exact ⟨h3, h3⟩
end
