section
/-! constructors that call constructors, and loops of constructors -/
def q_mkca (f : q_F) (ci : Nat) (ty : Nat → FieldType) (mc ms : Nat) (As : List Value) (L : Nat → q_L) : Prop := ∀ (μ : q_M) (b : Nat) (K : Option Value → q_M → Prop), μ.1.1 b = some (.inl ci) → μ.2 b = q_df ty → μ.1.2.1 = b + 1 → μ.1.2.2.1 = mc → μ.1.2.2.2 = ms →
  (∀ μ', q_lay μ' b (L b) → μ'.1.2.1 = b + (L b).length → q_same μ' μ b → K none μ') → f (.ref b :: As) μ K
theorem q_mkca_of {f : q_F} {ci mc ms : Nat} {ty : Nat → FieldType} {L : Nat → q_L} (h : q_mkc f ci ty mc ms L) : q_mkca f ci ty mc ms [] L := h
theorem q_bld_f {μ μ0 : q_M} {a ci : Nat} {F : Nat → Value} {l : q_L} {rc rs k : Nat} {v : Value} (h : q_bld μ μ0 a ci F l rc rs) : q_bld (q_set μ a k v) μ0 a ci (q_fset F k v) l rc rs := by
  obtain ⟨h1, h2, h3, h4, h5, h6, h7⟩ := h
  have hM : ∀ q, q ≠ a → (q_set μ a k v).2 q = μ.2 q := by
    intro q hq
    funext j
    show (if q = a ∧ j = k then v else μ.2 q j) = _
    rw [if_neg (fun e => hq e.1)]
  refine ⟨h1, ?_, h3, ?_, ?_, h6, h7⟩
  · funext j
    show (if a = a ∧ j = k then v else μ.2 a j) = if j = k then v else F j
    rw [h2]
    by_cases e : j = k
    · rw [if_pos ⟨rfl, e⟩, if_pos e]
    · rw [if_neg (fun q => e q.2), if_neg e]
  · intro j c hc
    rw [hM _ (by omega)]
    exact h4 j c hc
  · intro q hq
    rw [hM _ (by omega)]
    exact h5 q hq
theorem q_nw_mk {μ μ0 : q_M} {a ci : Nat} {F : Nat → Value} {l : q_L} {rc rs ci2 N n mc ms : Nat} {ty2 : Nat → FieldType} {f2 : q_F} {e : q_E (List Value)} {As : List Value} {L2 : Nat → q_L} {env : List Value} {K : Nat → q_M → Prop}
    (h : q_bld μ μ0 a ci F l rc rs) (hlen : As.length = n) (hev : ∀ K' : List Value → q_M → Prop, K' As (q_al1 μ (.inl ci2) N (q_df ty2)) → e env (q_al1 μ (.inl ci2) N (q_df ty2)) K')
    (hc : q_mkca f2 ci2 ty2 mc ms As L2) (h0 : ∀ b, ∃ F2 l2, L2 b = (.inl ci2, F2) :: l2) (r1 : 1 + mc ≤ rc) (r2 : N + ms ≤ rs)
    (kk : ∀ μ', q_bld μ' μ0 a ci F (l ++ L2 (a + 1 + l.length)) (rc - 1 - mc) (rs - N - ms) → μ'.1.1 (a + 1 + l.length) = some (.inl ci2) → K (a + 1 + l.length) μ') :
    q_nw ci2 N ty2 n mc ms f2 e env μ K := by
  obtain ⟨h1, h2, h3, h4, h5, h6, h7⟩ := h
  refine ⟨by omega, by omega, hev _ ⟨hlen, ?_, ?_, ?_⟩⟩
  · show mc ≤ μ.1.2.2.1 - 1
    omega
  · show ms ≤ μ.1.2.2.2 - N
    omega
  · refine ⟨fun r m => r = none ∧ q_lay m μ.1.2.1 (L2 μ.1.2.1) ∧ m.1.2.1 = μ.1.2.1 + (L2 μ.1.2.1).length ∧ q_same m (q_al1 μ (.inl ci2) N (q_df ty2)) μ.1.2.1, ?_, ?_⟩
    · refine hc (q_bud mc ms (q_al1 μ (.inl ci2) N (q_df ty2))) μ.1.2.1 _ ?_ ?_ rfl rfl rfl fun μ' g1 g2 g3 => ⟨rfl, g1, g2, g3⟩
      · show (if μ.1.2.1 = μ.1.2.1 then some (Sum.inl ci2) else _) = _
        rw [if_pos rfl]
      · show (if μ.1.2.1 = μ.1.2.1 then q_df ty2 else _) = _
        rw [if_pos rfl]
    · intro r m ⟨e1, g1, g2, g3⟩
      refine ⟨e1, ?_⟩
      have hsm : q_same m μ (a + 1 + l.length) := by
        intro q hq
        have g := g3 q (by omega)
        have e1 : ¬ q = μ.1.2.1 := by omega
        refine ⟨g.1.trans ?_, g.2.trans ?_⟩
        · show (if q = μ.1.2.1 then some (Sum.inl ci2) else μ.1.1 q) = _
          rw [if_neg e1]
        · show (if q = μ.1.2.1 then q_df ty2 else μ.2 q) = _
          rw [if_neg e1]
      rw [h3] at g1 g2 ⊢
      obtain ⟨F2, l2, hL⟩ := h0 (a + 1 + l.length)
      refine kk _ ⟨(hsm a (by omega)).1.trans h1, (hsm a (by omega)).2.trans h2, ?_, ?_, ?_, ?_, ?_⟩ ?_
      · show m.1.2.1 = _
        rw [g2, List.length_append]
        omega
      · exact q_lay_app (q_lay_same h4 hsm (Nat.le_refl _)) g1
      · exact q_same_trans (b := a) (fun q hq => hsm q (by omega)) h5 (Nat.le_refl _)
      · show μ.1.2.2.1 - 1 - mc = _
        rw [h6]
      · show μ.1.2.2.2 - N - ms = _
        rw [h7]
      · have := g1 0 (.inl ci2, F2) (by rw [hL]; rfl)
        exact this.1
/-- this.f = an argument -/
theorem q_st_fr {μ μ0 : q_M} {a ci : Nat} {F : Nat → Value} {l : q_L} {rc rs k i v : Nat} {env : List Value} {Kn : List Value → q_M → Prop} {Kr : Option Value → q_M → Prop} (h : q_bld μ μ0 a ci F l rc rs) (he : env[0]? = some (.ref a)) (he2 : env[i]? = some (.ref v))
    (kk : ∀ μ', q_bld μ' μ0 a ci (q_fset F k (.ref v)) l rc rs → Kn env μ') : q_spf Value.ref (fun _ => True) ci k (q_r 0) (q_r i) env μ Kn Kr := ⟨a, he, v, he2, h.1, trivial, kk _ (q_bld_f h)⟩
/-- this.f = new C(..) -/
theorem q_st_nw {μ μ0 : q_M} {a ci : Nat} {F : Nat → Value} {l : q_L} {rc rs k ci2 N n mc ms : Nat} {ty2 : Nat → FieldType} {f2 : q_F} {e : q_E (List Value)} {As : List Value} {L2 : Nat → q_L} {env : List Value} {Kn : List Value → q_M → Prop} {Kr : Option Value → q_M → Prop}
    (h : q_bld μ μ0 a ci F l rc rs) (he : env[0]? = some (.ref a)) (hlen : As.length = n) (hev : ∀ K' : List Value → q_M → Prop, K' As (q_al1 μ (.inl ci2) N (q_df ty2)) → e env (q_al1 μ (.inl ci2) N (q_df ty2)) K')
    (hc : q_mkca f2 ci2 ty2 mc ms As L2) (h0 : ∀ b, ∃ F2 l2, L2 b = (.inl ci2, F2) :: l2) (r1 : 1 + mc ≤ rc) (r2 : N + ms ≤ rs)
    (kk : ∀ μ', q_bld μ' μ0 a ci (q_fset F k (.ref (a + 1 + l.length))) (l ++ L2 (a + 1 + l.length)) (rc - 1 - mc) (rs - N - ms) → Kn env μ') :
    q_spf Value.ref (fun _ => True) ci k (q_r 0) (q_nw ci2 N ty2 n mc ms f2 e) env μ Kn Kr :=
  ⟨a, he, q_nw_mk h hlen hev hc h0 r1 r2 fun μ' g _ => ⟨g.1, trivial, kk _ (q_bld_f g)⟩⟩
/-- this.f = new C[n] -/
theorem q_st_no {μ μ0 : q_M} {a ci : Nat} {F : Nat → Value} {l : q_L} {rc rs n k : Nat} {C : String} {v : Int32} {env : List Value} {Kn : List Value → q_M → Prop} {Kr : Option Value → q_M → Prop} (h : q_bld μ μ0 a ci F l rc rs) (he : env[0]? = some (.ref a)) (hv : v.toNatClampNeg = n) (h0 : ¬ v < 0) (h1 : n ≤ 65536) (h2 : 1 ≤ rc) (h3 : n ≤ rs)
    (kk : ∀ μ', q_bld μ' μ0 a ci (q_fset F k (.ref (a + 1 + l.length))) (l ++ [(.inr (.inl (.object C, n)), fun _ => .null)]) (rc - 1) (rs - n) → Kn env μ') : q_spf Value.ref (fun _ => True) ci k (q_r 0) (q_no2 C (q_k v)) env μ Kn Kr := by
  refine ⟨a, he, h0, by omega, by have := h.2.2.2.2.2.1; omega, by have := h.2.2.2.2.2.2; omega, ?_, trivial, ?_⟩
  · show (if a = μ.1.2.1 then some (.inr (.inl (.object C, v.toNatClampNeg))) else μ.1.1 a) = _
    rw [if_neg (by have := h.2.2.1; omega)]
    exact h.1
  · have h5 := q_bld_al (t := .inr (.inl (.object C, n))) (n := n) (k := k) (f := fun _ => .null) h
    rw [hv]
    exact kk _ h5
def q_rep (L2 : Nat → q_L) (na w : Nat) : Nat → q_L
  | 0 => []
  | i + 1 => q_rep L2 na w i ++ L2 (na + w * i)
theorem q_rep_len {L2 : Nat → q_L} {na w : Nat} (hw : ∀ b, (L2 b).length = w) : ∀ i, (q_rep L2 na w i).length = w * i := by
  intro i
  induction i with
  | zero => rfl
  | succ i ih => rw [q_rep, List.length_append, ih, hw, Nat.mul_succ]
/-- for (int i = 0; i < n; i++) { this.f[i] = new C(); } -/
theorem q_st_ol {μ μ0 : q_M} {a ci : Nat} {F : Nat → Value} {l : q_L} {rc rs ci2 N2 mc ms N j0 kf w : Nat} {C : String} {ty2 : Nat → FieldType} {f2 : q_F} {L2 : Nat → q_L} {Kn : List Value → q_M → Prop} {Kr : Option Value → q_M → Prop}
    (h : q_bld μ μ0 a ci F l rc rs) (hF : F kf = .ref (a + 1 + j0)) (hj : l[j0]? = some (.inr (.inl (.object C, N)), fun _ => .null)) (hN : N < 2 ^ 31) (hc : q_mkca f2 ci2 ty2 mc ms [] L2) (h0 : ∀ b, ∃ F2 l2, L2 b = (.inl ci2, F2) :: l2) (hw : ∀ b, (L2 b).length = w) (r1 : N * (1 + mc) ≤ rc) (r2 : N * (N2 + ms) ≤ rs)
    (kk : ∀ μ', q_bld μ' μ0 a ci F ((l ++ q_rep L2 (a + 1 + l.length) w N).set j0 (.inr (.inl (.object C, N)), fun j => if j < N then .ref (a + 1 + l.length + w * j) else .null)) (rc - N * (1 + mc)) (rs - N * (N2 + ms)) → Kn [.ref a] μ') :
    q_blk 1 (q_sq (q_sdec Value.int 1 (q_k 0)) (q_wh (q_cm q_Rlt (q_l 1) (q_k (nI N))) (q_sq (q_sar C ci2 (q_fr ci kf (q_r 0)) (q_l 1) (q_nw ci2 N2 ty2 0 mc ms f2 q_an)) (q_sinc 1 1)))) [.ref a] μ Kn Kr := by
  have hjl : j0 < l.length := (List.getElem?_eq_some_iff.mp hj).1
  have key : ∀ (m i : Nat) (μi : q_M), i + m = N → q_bld μi μ0 a ci F ((l ++ q_rep L2 (a + 1 + l.length) w i).set j0 (.inr (.inl (.object C, N)), fun j => if j < i then .ref (a + 1 + l.length + w * j) else .null)) (rc - i * (1 + mc)) (rs - i * (N2 + ms)) →
      q_it (q_cm q_Rlt (q_l 1) (q_k (nI N))) (q_sq (q_sar C ci2 (q_fr ci kf (q_r 0)) (q_l 1) (q_nw ci2 N2 ty2 0 mc ms f2 q_an)) (q_sinc 1 1)) (fun env μ => Kn (env.take 1) μ) Kr (m + 1) [.ref a, .int (nI i)] μi := by
    intro m
    induction m with
    | zero =>
      intro i μi hi hb
      have e : i = N := by omega
      subst e
      exact ⟨nI i, rfl, fun q => absurd q (nI_nlt (Nat.le_refl _) hN), fun _ => kk _ hb⟩
    | succ m ih =>
      intro i μi hi hb
      have hlt : i < N := by omega
      have h1 : (i + 1) * (1 + mc) ≤ N * (1 + mc) := Nat.mul_le_mul_right _ hlt
      have h2 : (i + 1) * (N2 + ms) ≤ N * (N2 + ms) := Nat.mul_le_mul_right _ hlt
      rw [Nat.succ_mul] at h1 h2
      refine ⟨nI i, rfl, fun _ => ?_, fun q => absurd (nI_lt hlt hN) q⟩
      refine ⟨a, rfl, hb.1, a + 1 + j0, by rw [hb.2.1]; exact hF, nI i, rfl, q_nw_mk hb rfl (fun K' h => h) hc h0 (by omega) (by omega) fun μ' g gt => ⟨N, ?_, vp_in_nI hlt hN, gt, nI i, rfl, ?_⟩⟩
      · have hq := g.2.2.2.1 j0 (.inr (.inl (.object C, N)), fun j => if j < i then .ref (a + 1 + l.length + w * j) else .null) ?_
        · exact hq.1
        · rw [List.getElem?_append_left (by simp; omega), List.getElem?_set_self (by simp; omega)]
      · have hlen : ((l ++ q_rep L2 (a + 1 + l.length) w i).set j0 (.inr (.inl (.object C, N)), fun j => if j < i then .ref (a + 1 + l.length + w * j) else .null)).length = l.length + w * i := by
          rw [List.length_set, List.length_append, q_rep_len hw]
        have hgj : ((l ++ q_rep L2 (a + 1 + l.length) w i).set j0 (.inr (.inl (.object C, N)), fun j => if j < i then .ref (a + 1 + l.length + w * j) else .null) ++ L2 (a + 1 + l.length + w * i))[j0]? = some ((.inr (.inl (.object C, N)), fun j => if j < i then .ref (a + 1 + l.length + w * j) else .null) : q_T × (Nat → Value)) := by
          rw [List.getElem?_append_left (by rw [hlen]; omega), List.getElem?_set_self (by simp; omega)]
        rw [hlen, show a + 1 + (l.length + w * i) = a + 1 + l.length + w * i by omega] at g ⊢
        have g2 := q_bld_set (f' := fun j => if j < i + 1 then .ref (a + 1 + l.length + w * j) else .null) g hgj (M := q_upd μ'.2 (a + 1 + j0) i (.ref (a + 1 + l.length + w * i))) ?_ ?_
        · rw [List.set_append_left _ _ (by rw [hlen]; omega), List.set_set, ← List.set_append_left _ _ (by rw [List.length_append]; omega), List.append_assoc] at g2
          have g3 := ih (i + 1) (q_set μ' (a + 1 + j0) i (.ref (a + 1 + l.length + w * i))) (by omega) (by
            rw [show rc - (i + 1) * (1 + mc) = rc - i * (1 + mc) - 1 - mc by rw [Nat.succ_mul]; omega, show rs - (i + 1) * (N2 + ms) = rs - i * (N2 + ms) - N2 - ms by rw [Nat.succ_mul]; omega]
            exact g2)
          rw [nI_clamp (by omega)]
          have e4 : nI i + Int32.ofInt 1 = nI (i + 1) := nI_1 i
          show q_it _ _ _ _ (m + 1) [.ref a, .int (nI i + Int32.ofInt 1)] _
          rw [e4]
          exact g3
        · funext j
          have hq := (g.2.2.2.1 j0 _ hgj).2
          show (if a + 1 + j0 = a + 1 + j0 ∧ j = i then Value.ref (a + 1 + l.length + w * i) else μ'.2 (a + 1 + j0) j) = _
          rw [hq]
          by_cases e1 : j = i
          · rw [if_pos ⟨rfl, e1⟩, e1, if_pos (by omega)]
          · rw [if_neg (fun q => e1 q.2)]
            show (if j < i then Value.ref (a + 1 + l.length + w * j) else Value.null) = _
            by_cases e2 : j < i
            · rw [if_pos e2, if_pos (by omega)]
            · rw [if_neg e2, if_neg (by omega)]
        · intro q hq
          funext j
          show (if q = a + 1 + j0 ∧ j = i then _ else μ'.2 q j) = _
          rw [if_neg (fun e => hq e.1)]
  have hb0 : q_bld μ μ0 a ci F ((l ++ q_rep L2 (a + 1 + l.length) w 0).set j0 (.inr (.inl (.object C, N)), fun j => if j < 0 then .ref (a + 1 + l.length + w * j) else .null)) (rc - 0 * (1 + mc)) (rs - 0 * (N2 + ms)) := by
    have e1 : (l ++ q_rep L2 (a + 1 + l.length) w 0).set j0 (.inr (.inl (.object C, N)), fun j => if j < 0 then .ref (a + 1 + l.length + w * j) else .null) = l := by
      rw [q_rep, List.append_nil]
      refine List.ext_getElem? fun k => ?_
      by_cases e : k = j0
      · subst e
        rw [List.getElem?_set_self hjl, hj]
        simp
      · rw [List.getElem?_set_ne (fun q => e q.symm)]
    rw [e1, Nat.zero_mul, Nat.zero_mul]
    exact h
  exact ⟨rfl, N + 1, key N 0 μ (by omega) hb0⟩
/-- for (int i = 0; i < n; i++) { this.f[i] = v; } -/
theorem q_st_il {μ μ0 : q_M} {a ci : Nat} {F : Nat → Value} {l : q_L} {rc rs N j0 kf : Nat} {f : Nat → Value} {v : Int32} {Kn : List Value → q_M → Prop} {Kr : Option Value → q_M → Prop}
    (h : q_bld μ μ0 a ci F l rc rs) (hF : F kf = .ref (a + 1 + j0)) (hj : l[j0]? = some (.inr (.inl (.int, N)), f)) (hN : N < 2 ^ 31)
    (kk : ∀ μ', q_bld μ' μ0 a ci F (l.set j0 (.inr (.inl (.int, N)), fun j => if j < N then .int v else f j)) rc rs → Kn [.ref a] μ') :
    q_blk 1 (q_sq (q_sdec Value.int 1 (q_k 0)) (q_wh (q_cm q_Rlt (q_l 1) (q_k (nI N))) (q_sq (q_sai (q_fr ci kf (q_r 0)) (q_l 1) (q_k v)) (q_sinc 1 1)))) [.ref a] μ Kn Kr := by
  have hjl : j0 < l.length := (List.getElem?_eq_some_iff.mp hj).1
  have key : ∀ (m i : Nat) (μi : q_M), i + m = N → q_bld μi μ0 a ci F (l.set j0 (.inr (.inl (.int, N)), fun j => if j < i then .int v else f j)) rc rs →
      q_it (q_cm q_Rlt (q_l 1) (q_k (nI N))) (q_sq (q_sai (q_fr ci kf (q_r 0)) (q_l 1) (q_k v)) (q_sinc 1 1)) (fun env μ => Kn (env.take 1) μ) Kr (m + 1) [.ref a, .int (nI i)] μi := by
    intro m
    induction m with
    | zero =>
      intro i μi hi hb
      have e : i = N := by omega
      subst e
      exact ⟨nI i, rfl, fun q => absurd q (nI_nlt (Nat.le_refl _) hN), fun _ => kk _ hb⟩
    | succ m ih =>
      intro i μi hi hb
      have hlt : i < N := by omega
      have hgj : (l.set j0 (.inr (.inl (.int, N)), fun j => if j < i then .int v else f j))[j0]? = some ((.inr (.inl (.int, N)), fun j => if j < i then .int v else f j) : q_T × (Nat → Value)) := by
        rw [List.getElem?_set_self hjl]
      have hq := hb.2.2.2.1 j0 _ hgj
      refine ⟨nI i, rfl, fun _ => ?_, fun q => absurd (nI_lt hlt hN) q⟩
      refine ⟨a, rfl, hb.1, a + 1 + j0, by rw [hb.2.1]; exact hF, nI i, rfl, N, hq.1, vp_in_nI hlt hN, nI i, rfl, ?_⟩
      have g2 := q_bld_set (f' := fun j => if j < i + 1 then .int v else f j) hb hgj (M := q_upd μi.2 (a + 1 + j0) i (.int v)) ?_ ?_
      · rw [List.set_set] at g2
        have g3 := ih (i + 1) (q_set μi (a + 1 + j0) i (.int v)) (by omega) g2
        rw [nI_clamp (by omega)]
        have e4 : nI i + Int32.ofInt 1 = nI (i + 1) := nI_1 i
        show q_it _ _ _ _ (m + 1) [.ref a, .int (nI i + Int32.ofInt 1)] _
        rw [e4]
        exact g3
      · funext j
        show (if a + 1 + j0 = a + 1 + j0 ∧ j = i then Value.int v else μi.2 (a + 1 + j0) j) = _
        rw [hq.2]
        by_cases e1 : j = i
        · rw [if_pos ⟨rfl, e1⟩, e1, if_pos (by omega)]
        · rw [if_neg (fun q => e1 q.2)]
          show (if j < i then Value.int v else f j) = _
          by_cases e2 : j < i
          · rw [if_pos e2, if_pos (by omega)]
          · rw [if_neg e2, if_neg (by omega)]
      · intro q hq
        funext j
        show (if q = a + 1 + j0 ∧ j = i then _ else μi.2 q j) = _
        rw [if_neg (fun e => hq e.1)]
  have hb0 : q_bld μ μ0 a ci F (l.set j0 (.inr (.inl (.int, N)), fun j => if j < 0 then .int v else f j)) rc rs := by
    have e1 : l.set j0 (.inr (.inl (.int, N)), fun j => if j < 0 then .int v else f j) = l := by
      refine List.ext_getElem? fun k => ?_
      by_cases e : k = j0
      · subst e
        rw [List.getElem?_set_self hjl, hj]
        simp
      · rw [List.getElem?_set_ne (fun q => e q.symm)]
    rw [e1]
    exact h
  exact ⟨rfl, N + 1, key N 0 μ (by omega) hb0⟩
end
