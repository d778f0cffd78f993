section
theorem q_w_int {u : Int32} {st : List Value} {k : Nat} (h : q_w st ≤ k) : q_w (.int u :: st) ≤ k + 1 := by rw [q_w_cons]; simp [Value.category]; omega
theorem q_w_ref {u : Nat} {st : List Value} {k : Nat} (h : q_w st ≤ k) : q_w (.ref u :: st) ≤ k + 1 := by rw [q_w_cons]; simp [Value.category]; omega
theorem q_w_long {u : Int64} {st : List Value} {k : Nat} (h : q_w st ≤ k) : q_w (.long u :: st) ≤ k + 2 := by rw [q_w_cons]; simp [Value.category]; omega
def q_giadd (u v : Int32) : Int32 := u + v
theorem q_iadd {y : q_Y} {k p0 p1 p2 : Nat} {fa fb : q_E Int32} (ha : q_SI y k p0 p1 p1 fa) (hb : q_SI y (k + 1) p1 p2 p2 fb) (hd : decode y.1 p2 = .ok (.iadd, 1)) : q_SI y k p0 (p2 + 1) (p2 + 1) (q_2 q_giadd fa fb) :=
  q_bin ha hb fun _ hx _ _ _ _ _ _ _ _ kk => lv_iadd hx.1 hx.2.1 hd kk
def q_gisub (u v : Int32) : Int32 := u - v
theorem q_isub {y : q_Y} {k p0 p1 p2 : Nat} {fa fb : q_E Int32} (ha : q_SI y k p0 p1 p1 fa) (hb : q_SI y (k + 1) p1 p2 p2 fb) (hd : decode y.1 p2 = .ok (.isub, 1)) : q_SI y k p0 (p2 + 1) (p2 + 1) (q_2 q_gisub fa fb) :=
  q_bin ha hb fun _ hx _ _ _ _ _ _ _ _ kk => lv_isub hx.1 hx.2.1 hd kk
def q_gimul (u v : Int32) : Int32 := u * v
theorem q_imul {y : q_Y} {k p0 p1 p2 : Nat} {fa fb : q_E Int32} (ha : q_SI y k p0 p1 p1 fa) (hb : q_SI y (k + 1) p1 p2 p2 fb) (hd : decode y.1 p2 = .ok (.imul, 1)) : q_SI y k p0 (p2 + 1) (p2 + 1) (q_2 q_gimul fa fb) :=
  q_bin ha hb fun _ hx _ _ _ _ _ _ _ _ kk => lv_imul hx.1 hx.2.1 hd kk
def q_gishl (u v : Int32) : Int32 := u <<< (v &&& 31)
theorem q_ishl {y : q_Y} {k p0 p1 p2 : Nat} {fa fb : q_E Int32} (ha : q_SI y k p0 p1 p1 fa) (hb : q_SI y (k + 1) p1 p2 p2 fb) (hd : decode y.1 p2 = .ok (.ishl, 1)) : q_SI y k p0 (p2 + 1) (p2 + 1) (q_2 q_gishl fa fb) :=
  q_bin ha hb fun _ hx _ _ _ _ _ _ _ _ kk => lv_ishl hx.1 hx.2.1 hd kk
def q_gishr (u v : Int32) : Int32 := u >>> (v &&& 31)
theorem q_ishr {y : q_Y} {k p0 p1 p2 : Nat} {fa fb : q_E Int32} (ha : q_SI y k p0 p1 p1 fa) (hb : q_SI y (k + 1) p1 p2 p2 fb) (hd : decode y.1 p2 = .ok (.ishr, 1)) : q_SI y k p0 (p2 + 1) (p2 + 1) (q_2 q_gishr fa fb) :=
  q_bin ha hb fun _ hx _ _ _ _ _ _ _ _ kk => lv_ishr hx.1 hx.2.1 hd kk
def q_giand (u v : Int32) : Int32 := u &&& v
theorem q_iand {y : q_Y} {k p0 p1 p2 : Nat} {fa fb : q_E Int32} (ha : q_SI y k p0 p1 p1 fa) (hb : q_SI y (k + 1) p1 p2 p2 fb) (hd : decode y.1 p2 = .ok (.iand, 1)) : q_SI y k p0 (p2 + 1) (p2 + 1) (q_2 q_giand fa fb) :=
  q_bin ha hb fun _ hx _ _ _ _ _ _ _ _ kk => lv_iand hx.1 hx.2.1 hd kk
def q_gior (u v : Int32) : Int32 := u ||| v
theorem q_ior {y : q_Y} {k p0 p1 p2 : Nat} {fa fb : q_E Int32} (ha : q_SI y k p0 p1 p1 fa) (hb : q_SI y (k + 1) p1 p2 p2 fb) (hd : decode y.1 p2 = .ok (.ior, 1)) : q_SI y k p0 (p2 + 1) (p2 + 1) (q_2 q_gior fa fb) :=
  q_bin ha hb fun _ hx _ _ _ _ _ _ _ _ kk => lv_ior hx.1 hx.2.1 hd kk
def q_gixor (u v : Int32) : Int32 := u ^^^ v
theorem q_ixor {y : q_Y} {k p0 p1 p2 : Nat} {fa fb : q_E Int32} (ha : q_SI y k p0 p1 p1 fa) (hb : q_SI y (k + 1) p1 p2 p2 fb) (hd : decode y.1 p2 = .ok (.ixor, 1)) : q_SI y k p0 (p2 + 1) (p2 + 1) (q_2 q_gixor fa fb) :=
  q_bin ha hb fun _ hx _ _ _ _ _ _ _ _ kk => lv_ixor hx.1 hx.2.1 hd kk
def q_giushr (u v : Int32) : Int32 := (u.toUInt32 >>> (v.toUInt32 &&& Int32.toUInt32 31)).toInt32
theorem q_iushr {y : q_Y} {k p0 p1 p2 : Nat} {fa fb : q_E Int32} (ha : q_SI y k p0 p1 p1 fa) (hb : q_SI y (k + 1) p1 p2 p2 fb) (hd : decode y.1 p2 = .ok (.iushr, 1)) : q_SI y k p0 (p2 + 1) (p2 + 1) (q_2 q_giushr fa fb) :=
  q_bin ha hb fun _ hx _ _ _ _ _ _ _ _ kk => lv_iushr hx.1 hx.2.1 hd rfl kk
def q_gidiv (u v : Int32) : Int32 := u / v
def q_2d (g : Int32 → Int32 → Int32) (a b : q_E Int32) : q_E Int32 := fun env μ K => a env μ fun u μ => b env μ fun v μ => ¬ v = 0 ∧ K (g u v) μ
theorem q_idiv {y : q_Y} {k p0 p1 p2 : Nat} {fa fb : q_E Int32} (ha : q_SI y k p0 p1 p1 fa) (hb : q_SI y (k + 1) p1 p2 p2 fb) (hd : decode y.1 p2 = .ok (.idiv, 1)) : q_SI y k p0 (p2 + 1) (p2 + 1) (q_2d q_gidiv fa fb) := by
  intro x hx env μ K ls st H locs a b he hw hm hf kk
  refine ha x hx env μ _ ls st H locs a b he hw hm hf fun u μ1 H1 l1 a1 b1 hm1 h1 => ?_
  have h2 := hb x hx env μ1 _ ls (.int u :: st) H1 l1 a1 b1 he (q_w_int hw) hm1 h1 fun v μ2 H2 l2 a2 b2 hm2 h2 => ?_
  · exact ⟨h2, h2⟩
  · have h3 := lv_idiv (rest := st) (x := u) (y := v) hx.1 hx.2.1 hd h2.1 (kk _ μ2 H2 l2 a2 b2 hm2 h2.2).1
    exact ⟨h3, h3⟩
def q_girem (u v : Int32) : Int32 := u - u / v * v
theorem q_irem {y : q_Y} {k p0 p1 p2 : Nat} {fa fb : q_E Int32} (ha : q_SI y k p0 p1 p1 fa) (hb : q_SI y (k + 1) p1 p2 p2 fb) (hd : decode y.1 p2 = .ok (.irem, 1)) : q_SI y k p0 (p2 + 1) (p2 + 1) (q_2d q_girem fa fb) := by
  intro x hx env μ K ls st H locs a b he hw hm hf kk
  refine ha x hx env μ _ ls st H locs a b he hw hm hf fun u μ1 H1 l1 a1 b1 hm1 h1 => ?_
  have h2 := hb x hx env μ1 _ ls (.int u :: st) H1 l1 a1 b1 he (q_w_int hw) hm1 h1 fun v μ2 H2 l2 a2 b2 hm2 h2 => ?_
  · exact ⟨h2, h2⟩
  · have h3 := lv_irem (rest := st) (x := u) (y := v) hx.1 hx.2.1 hd h2.1 (kk _ μ2 H2 l2 a2 b2 hm2 h2.2).1
    exact ⟨h3, h3⟩
def q_1 (g : Int32 → Int32) (a : q_E Int32) : q_E Int32 := fun env μ K => a env μ fun u μ => K (g u) μ
def q_gi2b (u : Int32) : Int32 := u.toInt8.toInt32
theorem q_i2b {y : q_Y} {k p0 p1 : Nat} {fa : q_E Int32} (ha : q_SI y k p0 p1 p1 fa) (hd : decode y.1 p1 = .ok (.i2b, 1)) : q_SI y k p0 (p1 + 1) (p1 + 1) (q_1 q_gi2b fa) := by
  intro x hx env μ K ls st H locs a b he hw hm hf kk
  refine ha x hx env μ _ ls st H locs a b he hw hm hf fun u μ1 H1 l1 a1 b1 hm1 h1 => ?_
  have h3 := lv_i2b (rest := st) (x := u) hx.1 hx.2.1 hd rfl (kk _ μ1 H1 l1 a1 b1 hm1 h1).1
  exact ⟨h3, h3⟩
def q_gi2s (u : Int32) : Int32 := u.toInt16.toInt32
theorem q_i2s {y : q_Y} {k p0 p1 : Nat} {fa : q_E Int32} (ha : q_SI y k p0 p1 p1 fa) (hd : decode y.1 p1 = .ok (.i2s, 1)) : q_SI y k p0 (p1 + 1) (p1 + 1) (q_1 q_gi2s fa) := by
  intro x hx env μ K ls st H locs a b he hw hm hf kk
  refine ha x hx env μ _ ls st H locs a b he hw hm hf fun u μ1 H1 l1 a1 b1 hm1 h1 => ?_
  have h3 := lv_i2s (rest := st) (x := u) hx.1 hx.2.1 hd rfl (kk _ μ1 H1 l1 a1 b1 hm1 h1).1
  exact ⟨h3, h3⟩
def q_gi2c (u : Int32) : Int32 := (u.toUInt32 % 65536).toInt32
theorem q_i2c {y : q_Y} {k p0 p1 : Nat} {fa : q_E Int32} (ha : q_SI y k p0 p1 p1 fa) (hd : decode y.1 p1 = .ok (.i2c, 1)) : q_SI y k p0 (p1 + 1) (p1 + 1) (q_1 q_gi2c fa) := by
  intro x hx env μ K ls st H locs a b he hw hm hf kk
  refine ha x hx env μ _ ls st H locs a b he hw hm hf fun u μ1 H1 l1 a1 b1 hm1 h1 => ?_
  have h3 := lv_i2c (rest := st) (x := u) hx.1 hx.2.1 hd rfl (kk _ μ1 H1 l1 a1 b1 hm1 h1).1
  exact ⟨h3, h3⟩
def q_kl (v : Int64) : q_E Int64 := fun _ μ K => K v μ
theorem q_lconst {y : q_Y} {k pc : Nat} {n : Fin 2} {v : Int64} (hd : decode y.1 pc = .ok (.lconst n, 1)) (hv : Int64.ofNat (n : Nat) = v) : q_SL y k pc (pc + 1) (pc + 1) (q_kl v) := by
  intro x hx env μ K ls st H locs a b he hw hm hf kk
  exact lv_lconst hx.1 hx.2.1 hd hv (kk v μ H locs a b hm hf).1
theorem q_ldc2 {y : q_Y} {k pc index : Nat} {v : Int64} (hd : decode y.1 pc = .ok (.ldc2_w index, 3)) (hm : Jvm.Cond.constantLong y.2.2.1.cls index v ∈ q_tb) : q_SL y k pc (pc + 3) (pc + 3) (q_kl v) := by
  intro x hx env μ K ls st H locs a b he hw hmo hf kk
  exact lv_ldc2 hx.1 hx.2.1 hx.2.2.2.1 (hx.2.2.2.2.1 _ hm) hd (kk v μ H locs a b hmo hf).1
theorem q_ldcw {y : q_Y} {k pc index : Nat} {v : Int32} (hd : decode y.1 pc = .ok (.ldc_w index, 3)) (hm : Jvm.Cond.constant y.2.2.1.cls index v ∈ q_tb) : q_SI y k pc (pc + 3) (pc + 3) (q_k v) := by
  intro x hx env μ K ls st H locs a b he hw hmo hf kk
  exact lv_ldcw hx.1 hx.2.1 hx.2.2.2.1 (hx.2.2.2.2.1 _ hm) hd (kk v μ H locs a b hmo hf).1
def q_il (a : q_E Int32) : q_E Int64 := fun env μ K => a env μ fun u μ => K u.toInt64 μ
theorem q_i2l {y : q_Y} {k p0 p1 : Nat} {fa : q_E Int32} (ha : q_SI y k p0 p1 p1 fa) (hd : decode y.1 p1 = .ok (.i2l, 1)) : q_SL y k p0 (p1 + 1) (p1 + 1) (q_il fa) := by
  intro x hx env μ K ls st H locs a b he hw hm hf kk
  refine ha x hx env μ _ ls st H locs a b he hw hm hf fun u μ1 H1 l1 a1 b1 hm1 h1 => ?_
  have h3 := lv_i2l (rest := st) (x := u) hx.1 hx.2.1 hd rfl (kk _ μ1 H1 l1 a1 b1 hm1 h1).1
  exact ⟨h3, h3⟩
def q_2l (g : Int64 → Int64 → Int64) (a b : q_E Int64) : q_E Int64 := fun env μ K => a env μ fun u μ => b env μ fun v μ => K (g u v) μ
def q_glmul (u v : Int64) : Int64 := u * v
theorem q_lmul {y : q_Y} {k p0 p1 p2 : Nat} {fa fb : q_E Int64} (ha : q_SL y k p0 p1 p1 fa) (hb : q_SL y (k + 2) p1 p2 p2 fb) (hd : decode y.1 p2 = .ok (.lmul, 1)) : q_SL y k p0 (p2 + 1) (p2 + 1) (q_2l q_glmul fa fb) := by
  intro x hx env μ K ls st H locs a b he hw hm hf kk
  refine ha x hx env μ _ ls st H locs a b he hw hm hf fun u μ1 H1 l1 a1 b1 hm1 h1 => ?_
  have h2 := hb x hx env μ1 _ ls (.long u :: st) H1 l1 a1 b1 he (q_w_long hw) hm1 h1 fun v μ2 H2 l2 a2 b2 hm2 h2 => ?_
  · exact ⟨h2, h2⟩
  · have h3 := lv_lmul (rest := st) (x := u) (y := v) hx.1 hx.2.1 hd (kk _ μ2 H2 l2 a2 b2 hm2 h2).1
    exact ⟨h3, h3⟩
def q_gladd (u v : Int64) : Int64 := u + v
theorem q_ladd {y : q_Y} {k p0 p1 p2 : Nat} {fa fb : q_E Int64} (ha : q_SL y k p0 p1 p1 fa) (hb : q_SL y (k + 2) p1 p2 p2 fb) (hd : decode y.1 p2 = .ok (.ladd, 1)) : q_SL y k p0 (p2 + 1) (p2 + 1) (q_2l q_gladd fa fb) := by
  intro x hx env μ K ls st H locs a b he hw hm hf kk
  refine ha x hx env μ _ ls st H locs a b he hw hm hf fun u μ1 H1 l1 a1 b1 hm1 h1 => ?_
  have h2 := hb x hx env μ1 _ ls (.long u :: st) H1 l1 a1 b1 he (q_w_long hw) hm1 h1 fun v μ2 H2 l2 a2 b2 hm2 h2 => ?_
  · exact ⟨h2, h2⟩
  · have h3 := lv_ladd (rest := st) (x := u) (y := v) hx.1 hx.2.1 hd (kk _ μ2 H2 l2 a2 b2 hm2 h2).1
    exact ⟨h3, h3⟩
def q_2c (a b : q_E Int64) : q_E Int32 := fun env μ K => a env μ fun u μ => b env μ fun v μ => K (lg_cmp u v) μ
theorem q_lcmp {y : q_Y} {k p0 p1 p2 : Nat} {fa fb : q_E Int64} (ha : q_SL y k p0 p1 p1 fa) (hb : q_SL y (k + 2) p1 p2 p2 fb) (hd : decode y.1 p2 = .ok (.lcmp, 1)) : q_SI y k p0 (p2 + 1) (p2 + 1) (q_2c fa fb) := by
  intro x hx env μ K ls st H locs a b he hw hm hf kk
  refine ha x hx env μ _ ls st H locs a b he hw hm hf fun u μ1 H1 l1 a1 b1 hm1 h1 => ?_
  have h2 := hb x hx env μ1 _ ls (.long u :: st) H1 l1 a1 b1 he (q_w_long hw) hm1 h1 fun v μ2 H2 l2 a2 b2 hm2 h2 => ?_
  · exact ⟨h2, h2⟩
  · have h3 := W.lcmp (rest := st) (x := u) (y := v) hx.1 hx.2.1 hd (kk _ μ2 H2 l2 a2 b2 hm2 h2).1
    exact ⟨h3, h3⟩
def q_fi (ci k : Nat) (r : q_E Nat) : q_E Int32 := fun env μ K => r env μ fun a μ => μ.1.1 a = some (.inl ci) ∧ ∃ v, μ.2 a k = .int v ∧ K v μ
theorem q_getfi {y : q_Y} {k p0 p1 index ci kf : Nat} {fr : q_E Nat} (hr : q_SR y k p0 p1 p1 fr) (hd : decode y.1 p1 = .ok (.getfield index, 3)) (hg : q_gf y.2.2.1.cls index ci kf) : q_SI y k p0 (p1 + 3) (p1 + 3) (q_fi ci kf fr) := by
  intro x hx env μ K ls st H locs a b he hw hm hf kk
  refine hr x hx env μ _ ls st H locs a b he hw hm hf fun u μ1 H1 l1 a1 b1 hm1 h1 => ?_
  obtain ⟨ht, v, hv, hk⟩ := h1
  have h3 := q_get hx hg hd (ls := ls) (st := st) hm1 ht (by rw [hv]; exact (kk v μ1 H1 l1 a1 b1 hm1 hk).1)
  exact ⟨h3, h3⟩
def q_fr (ci k : Nat) (r : q_E Nat) : q_E Nat := fun env μ K => r env μ fun a μ => μ.1.1 a = some (.inl ci) ∧ ∃ v, μ.2 a k = .ref v ∧ K v μ
theorem q_getfr {y : q_Y} {k p0 p1 index ci kf : Nat} {fr : q_E Nat} (hr : q_SR y k p0 p1 p1 fr) (hd : decode y.1 p1 = .ok (.getfield index, 3)) (hg : q_gf y.2.2.1.cls index ci kf) : q_SR y k p0 (p1 + 3) (p1 + 3) (q_fr ci kf fr) := by
  intro x hx env μ K ls st H locs a b he hw hm hf kk
  refine hr x hx env μ _ ls st H locs a b he hw hm hf fun u μ1 H1 l1 a1 b1 hm1 h1 => ?_
  obtain ⟨ht, v, hv, hk⟩ := h1
  have h3 := q_get hx hg hd (ls := ls) (st := st) hm1 ht (by rw [hv]; exact (kk v μ1 H1 l1 a1 b1 hm1 hk).1)
  exact ⟨h3, h3⟩
def q_ai (r : q_E Nat) (i : q_E Int32) : q_E Int32 := fun env μ K => r env μ fun a μ => i env μ fun j μ => ∃ n, μ.1.1 a = some (.inr (.inl (.int, n))) ∧ vp_in j n ∧ ∃ v, μ.2 a j.toNatClampNeg = .int v ∧ K v μ
theorem q_ai_ld {y : q_Y} {k p0 p1 p2 : Nat} {fr : q_E Nat} {fi : q_E Int32} (hr : q_SR y k p0 p1 p1 fr) (hi : q_SI y (k + 1) p1 p2 p2 fi) (hd : decode y.1 p2 = .ok (.iaload, 1)) : q_SI y k p0 (p2 + 1) (p2 + 1) (q_ai fr fi) := by
  intro x hx env μ K ls st H locs a b he hw hm hf kk
  refine hr x hx env μ _ ls st H locs a b he hw hm hf fun u μ1 H1 l1 a1 b1 hm1 h1 => ?_
  have h2 := hi x hx env μ1 _ ls (.ref u :: st) H1 l1 a1 b1 he (q_w_ref hw) hm1 h1 fun v μ2 H2 l2 a2 b2 hm2 h2 => ?_
  · exact ⟨h2, h2⟩
  · obtain ⟨n, ht, hin, w, hw2, hk⟩ := h2
    have h3 := q_ild hx hd (ls := ls) (st := st) hm2 ht hin (by rw [hw2]; exact (kk w μ2 H2 l2 a2 b2 hm2 hk).1)
    exact ⟨h3, h3⟩
def q_az (r : q_E Nat) (i : q_E Int32) : q_E Int32 := fun env μ K => r env μ fun a μ => i env μ fun j μ => ∃ n, μ.1.1 a = some (.inr (.inl (.boolean, n))) ∧ vp_in j n ∧ ∃ v, μ.2 a j.toNatClampNeg = .int v ∧ K v μ
theorem q_az_ld {y : q_Y} {k p0 p1 p2 : Nat} {fr : q_E Nat} {fi : q_E Int32} (hr : q_SR y k p0 p1 p1 fr) (hi : q_SI y (k + 1) p1 p2 p2 fi) (hd : decode y.1 p2 = .ok (.baload, 1)) : q_SI y k p0 (p2 + 1) (p2 + 1) (q_az fr fi) := by
  intro x hx env μ K ls st H locs a b he hw hm hf kk
  refine hr x hx env μ _ ls st H locs a b he hw hm hf fun u μ1 H1 l1 a1 b1 hm1 h1 => ?_
  have h2 := hi x hx env μ1 _ ls (.ref u :: st) H1 l1 a1 b1 he (q_w_ref hw) hm1 h1 fun v μ2 H2 l2 a2 b2 hm2 h2 => ?_
  · exact ⟨h2, h2⟩
  · obtain ⟨n, ht, hin, w, hw2, hk⟩ := h2
    have h3 := q_zld hx hd (ls := ls) (st := st) hm2 ht hin (by rw [hw2]; exact (kk w μ2 H2 l2 a2 b2 hm2 hk).1)
    exact ⟨h3, h3⟩
def q_ar (r : q_E Nat) (i : q_E Int32) : q_E Nat := fun env μ K => r env μ fun a μ => i env μ fun j μ => ∃ ty n, μ.1.1 a = some (.inr (.inl (ty, n))) ∧ ty.isReference = true ∧ vp_in j n ∧ ∃ v, μ.2 a j.toNatClampNeg = .ref v ∧ K v μ
theorem q_ar_ld {y : q_Y} {k p0 p1 p2 : Nat} {fr : q_E Nat} {fi : q_E Int32} (hr : q_SR y k p0 p1 p1 fr) (hi : q_SI y (k + 1) p1 p2 p2 fi) (hd : decode y.1 p2 = .ok (.aaload, 1)) : q_SR y k p0 (p2 + 1) (p2 + 1) (q_ar fr fi) := by
  intro x hx env μ K ls st H locs a b he hw hm hf kk
  refine hr x hx env μ _ ls st H locs a b he hw hm hf fun u μ1 H1 l1 a1 b1 hm1 h1 => ?_
  have h2 := hi x hx env μ1 _ ls (.ref u :: st) H1 l1 a1 b1 he (q_w_ref hw) hm1 h1 fun v μ2 H2 l2 a2 b2 hm2 h2 => ?_
  · exact ⟨h2, h2⟩
  · obtain ⟨ty, n, ht, hty, hin, w, hw2, hk⟩ := h2
    have h3 := q_ald hx hty hd (ls := ls) (st := st) hm2 ht hin (by rw [hw2]; exact (kk w μ2 H2 l2 a2 b2 hm2 hk).1)
    exact ⟨h3, h3⟩
/-- an int of the script, which nobody writes -/
def q_si (r : q_E Nat) (i : q_E Int32) : q_E Int32 := fun env μ K => r env μ fun a μ => i env μ fun j μ => ∃ n, μ.1.1 a = some (.inr (.inr n)) ∧ vp_in j n ∧ ∃ v, μ.2 a j.toNatClampNeg = .int v ∧ K v μ
theorem q_si_ld {y : q_Y} {k p0 p1 p2 : Nat} {fr : q_E Nat} {fi : q_E Int32} (hr : q_SR y k p0 p1 p1 fr) (hi : q_SI y (k + 1) p1 p2 p2 fi) (hd : decode y.1 p2 = .ok (.iaload, 1)) : q_SI y k p0 (p2 + 1) (p2 + 1) (q_si fr fi) := by
  intro x hx env μ K ls st H locs a b he hw hm hf kk
  refine hr x hx env μ _ ls st H locs a b he hw hm hf fun u μ1 H1 l1 a1 b1 hm1 h1 => ?_
  have h2 := hi x hx env μ1 _ ls (.ref u :: st) H1 l1 a1 b1 he (q_w_ref hw) hm1 h1 fun v μ2 H2 l2 a2 b2 hm2 h2 => ?_
  · exact ⟨h2, h2⟩
  · obtain ⟨n, ht, hin, w, hw2, hk⟩ := h2
    have h3 := q_sld hx hd (ls := ls) (st := st) hm2 ht hin (by rw [hw2]; exact (kk w μ2 H2 l2 a2 b2 hm2 hk).1)
    exact ⟨h3, h3⟩
def q_sl (r : q_E Nat) : q_E Int32 := fun env μ K => r env μ fun a μ => ∃ n, μ.1.1 a = some (.inr (.inr n)) ∧ K (nI n) μ
theorem q_sl_ld {y : q_Y} {k p0 p1 : Nat} {fr : q_E Nat} (hr : q_SR y k p0 p1 p1 fr) (hd : decode y.1 p1 = .ok (.arraylength, 1)) : q_SI y k p0 (p1 + 1) (p1 + 1) (q_sl fr) := by
  intro x hx env μ K ls st H locs a b he hw hm hf kk
  refine hr x hx env μ _ ls st H locs a b he hw hm hf fun u μ1 H1 l1 a1 b1 hm1 h1 => ?_
  obtain ⟨n, ht, hk⟩ := h1
  have h3 := q_slen hx hd (ls := ls) (st := st) hm1 ht (kk _ μ1 H1 l1 a1 b1 hm1 hk).1
  exact ⟨h3, h3⟩
def q_al (r : q_E Nat) : q_E Int32 := fun env μ K => r env μ fun a μ => ∃ ty n, μ.1.1 a = some (.inr (.inl (ty, n))) ∧ K (nI n) μ
theorem q_al_ld {y : q_Y} {k p0 p1 : Nat} {fr : q_E Nat} (hr : q_SR y k p0 p1 p1 fr) (hd : decode y.1 p1 = .ok (.arraylength, 1)) : q_SI y k p0 (p1 + 1) (p1 + 1) (q_al fr) := by
  intro x hx env μ K ls st H locs a b he hw hm hf kk
  refine hr x hx env μ _ ls st H locs a b he hw hm hf fun u μ1 H1 l1 a1 b1 hm1 h1 => ?_
  obtain ⟨ty, n, ht, hk⟩ := h1
  have h3 := q_alen hx hd (ls := ls) (st := st) hm1 ht (kk _ μ1 H1 l1 a1 b1 hm1 hk).1
  exact ⟨h3, h3⟩
/-- other exits -/
theorem q_wkV {V : Type} {inj : V → List Value} {y : q_Y} {k pc a b e1 e2 : Nat} {f : q_E V} (h : q_SV inj y k pc a b f) (ha : a = e1 ∨ a = e2) (hb : b = e1 ∨ b = e2) : q_SV inj y k pc e1 e2 f := by
  intro x hx env μ K ls st H locs i j he hw hm hf kk
  refine h x hx env μ K ls st H locs i j he hw hm hf fun v μ1 H1 l1 a1 b1 hm1 h1 => ?_
  have h2 := kk v μ1 H1 l1 a1 b1 hm1 h1
  refine ⟨?_, ?_⟩
  · rcases ha with rfl | rfl
    · exact h2.1
    · exact h2.2
  · rcases hb with rfl | rfl
    · exact h2.1
    · exact h2.2
/-- a jump behind it -/
theorem q_goV {V : Type} {inj : V → List Value} {y : q_Y} {k pc g e1 e2 : Nat} {off : Int} {f : q_E V} (h : q_SV inj y k pc g e2 f) (hd : decode y.1 g = .ok (.goto off, 3)) (ht : (g : Int) + off = (e1 : Int)) (he : e1 = e2) : q_SV inj y k pc e1 e1 f := by
  subst he
  intro x hx env μ K ls st H locs i j he hw hm hf kk
  refine h x hx env μ K ls st H locs i j he hw hm hf fun v μ1 H1 l1 a1 b1 hm1 h1 => ?_
  have h2 := (kk v μ1 H1 l1 a1 b1 hm1 h1).1
  exact ⟨lv_goto hx.1 hx.2.1 hd ht h2, h2⟩
theorem q_goV1 {V : Type} {inj : V → List Value} {y : q_Y} {k pc g e1 : Nat} {off : Int} {f : q_E V} (h : q_SV inj y k pc g g f) (hd : decode y.1 g = .ok (.goto off, 3)) (ht : (g : Int) + off = (e1 : Int)) : q_SV inj y k pc e1 e1 f := by
  intro x hx env μ K ls st H locs i j he hw hm hf kk
  refine h x hx env μ K ls st H locs i j he hw hm hf fun v μ1 H1 l1 a1 b1 hm1 h1 => ?_
  have h2 := lv_goto hx.1 hx.2.1 hd ht (kk v μ1 H1 l1 a1 b1 hm1 h1).1
  exact ⟨h2, h2⟩
def q_te {V : Type} (c : q_C) (a b : q_E V) : q_E V := fun env μ K => c env μ (fun μ => a env μ K) (fun μ => b env μ K)
theorem q_tern {V : Type} {inj : V → List Value} {y : q_Y} {k pc t f e1 e2 : Nat} {c : q_C} {a b : q_E V} (hc : q_SC y k pc t f c) (ha : q_SV inj y k t e1 e2 a) (hb : q_SV inj y k f e1 e2 b) : q_SV inj y k pc e1 e2 (q_te c a b) := by
  intro x hx env μ K ls st H locs i j he hw hm hf kk
  refine hc x hx env μ _ _ ls st H locs i j he hw hm hf (fun μ1 H1 l1 a1 b1 hm1 h1 => ?_) (fun μ1 H1 l1 a1 b1 hm1 h1 => ?_)
  · exact ha x hx env μ1 K ls st H1 l1 a1 b1 he hw hm1 h1 kk
  · exact hb x hx env μ1 K ls st H1 l1 a1 b1 he hw hm1 h1 kk
-- rows of arguments
def q_an : q_E (List Value) := fun _ μ K => K [] μ
theorem q_anil {y : q_Y} {k pc : Nat} : q_SA y k pc pc pc q_an := by
  intro x hx env μ K ls st H locs i j he hw hm hf kk
  exact (kk [] μ H locs i j hm hf).1
def q_ac {V : Type} (u : V → Value) (e : q_E V) (r : q_E (List Value)) : q_E (List Value) := fun env μ K => e env μ fun v μ => r env μ fun vs μ => K (u v :: vs) μ
theorem q_acons {V : Type} {inj : V → List Value} (u : V → Value) {w : Nat} (hu : ∀ v, inj v = [u v] ∧ (u v).category = w) {y : q_Y} {k p0 p1 p2 : Nat} {e : q_E V} {r : q_E (List Value)} (he : q_SV inj y k p0 p1 p1 e) (hr : q_SA y (k + w) p1 p2 p2 r) : q_SA y k p0 p2 p2 (q_ac u e r) := by
  intro x hx env μ K ls st H locs i j heo hw hm hf kk
  refine he x hx env μ _ ls st H locs i j heo hw hm hf fun v μ1 H1 l1 a1 b1 hm1 h1 => ?_
  rw [(hu v).1]
  have h2 := hr x hx env μ1 _ ls (u v :: st) H1 l1 a1 b1 heo (by rw [q_w_cons, (hu v).2]; omega) hm1 h1 fun vs μ2 H2 l2 a2 b2 hm2 h2 => ?_
  · exact ⟨h2, h2⟩
  · have h3 := kk _ μ2 H2 l2 a2 b2 hm2 h2
    simp only [q_ja, List.reverse_cons, List.append_assoc, List.singleton_append] at h3 ⊢
    exact h3
theorem q_aI {y : q_Y} {k p0 p1 p2 : Nat} {e : q_E Int32} {r : q_E (List Value)} (he : q_SI y k p0 p1 p1 e) (hr : q_SA y (k + 1) p1 p2 p2 r) : q_SA y k p0 p2 p2 (q_ac Value.int e r) := q_acons Value.int (fun _ => ⟨rfl, rfl⟩) he hr
theorem q_aR {y : q_Y} {k p0 p1 p2 : Nat} {e : q_E Nat} {r : q_E (List Value)} (he : q_SR y k p0 p1 p1 e) (hr : q_SA y (k + 1) p1 p2 p2 r) : q_SA y k p0 p2 p2 (q_ac Value.ref e r) := q_acons Value.ref (fun _ => ⟨rfl, rfl⟩) he hr
theorem q_aL {y : q_Y} {k p0 p1 p2 : Nat} {e : q_E Int64} {r : q_E (List Value)} (he : q_SL y k p0 p1 p1 e) (hr : q_SA y (k + 2) p1 p2 p2 r) : q_SA y k p0 p2 p2 (q_ac Value.long e r) := q_acons Value.long (fun _ => ⟨rfl, rfl⟩) he hr
end
