section
def q_ws (nm : MethodName) (bytes : ByteArray) (maxL : Nat) (ret : Option FieldType) : List Cond := Cond.code nm bytes maxL ret :: q_tb
def q_rm (d mc ms : Nat) : Room := { frames := d, cells := mc, slots := ms, locals := 64 * d }
def q_Pc (D : va_G) (base : Nat) (vs : List Value) (μ : q_M) : Array Value → State → Prop := fun a U => a = vs.toArray ∧ va_K D vwCl [] U ∧ q_R D base U U.heap μ ∧ base ≤ U.heap.size ∧ ∀ w ∈ q_nt, va_Nw w U
/-- a method's contract: what it does is f, at depth d, with so many new cells and slots -/
def q_Con (d : Nat) (nm : MethodName) (bytes : ByteArray) (maxL : Nat) (ret : Option FieldType) (mc ms : Nat) (f : q_F) : Prop :=
  ∀ (l : Launch) (D : va_G) (base : Nat) (vs : List Value) (μ : q_M) (K : Option Value → q_M → Prop), μ.1.2.2.1 = mc → μ.1.2.2.2 = ms → f vs μ K →
    Met l nm (q_ws nm bytes maxL ret) (q_rm d mc ms) (q_Pc D base vs μ) (q_Qc D base K) mc ms (fun q => base ≤ q)
theorem q_good {w : Cond} (hw : w ∈ q_tb) : (w.onTables && w.keeps) = true ∨ ∃ ty, w = .arrayClass ty := good_of_word (List.mem_filter.mp hw).2
/-- what a caller needs of a method's words -/
def q_mt (nm : MethodName) (bytes : ByteArray) (maxL : Nat) (ret : Option FieldType) (n : Nat) : Prop :=
  Cond.code nm bytes maxL ret ∈ q_tb ∧ Cond.initialized nm.cls ∈ q_tb ∧ (nm.cls ≠ "java/lang/invoke/MethodHandle" ∧ nm.cls ≠ "java/lang/invoke/VarHandle" ∧ (parseMethodDescriptor nm.desc).map (fun d => d.parameters.length) = some n) ∧ maxL ≤ 45
theorem q_wsIn {nm : MethodName} {bytes : ByteArray} {maxL : Nat} {ret : Option FieldType} (h : Cond.code nm bytes maxL ret ∈ q_tb) : GoodIn q_tb (q_ws nm bytes maxL ret) := by
  intro w hw
  rcases List.mem_cons.mp hw with rfl | hw
  · exact ⟨h, q_good h⟩
  · exact ⟨hw, q_good hw⟩
theorem q_blind {D : va_G} {base : Nat} {vs : List Value} {μ : q_M} : FrameBlind (q_Pc D base vs μ) := by
  intro a U g mk h
  obtain ⟨h1, h2, h3, h4, h5⟩ := h
  exact ⟨h1, va_K.moved (u := U) (U := U.calling g mk a) (Vm.Alike.refl U.vm) h2, q_R_moved (s := U) (u := U.calling g mk a) (Vm.Alike.refl U.vm) h3, h4, fun w hw => q_nt_warm (s := U) (U := U.calling g mk a) (State.WarmedH.refl U) h5 w hw⟩
theorem q_bud_R {D : va_G} {base : Nat} {s : State} {H : Heap} {μ : q_M} {i j : Nat} (h : q_R D base s H μ) : q_R D base s H (q_bud i j μ) := h
theorem q_pre {y : q_Y} {x : q_X} (hx : q_CX y x) {μ : q_M} {H : Heap} {locs : List Loc} {i j mc ms : Nat} (hm : q_MO x μ H locs i j) {vs : List Value} : PreS x.1.2.2.2.2 H (q_Pc x.2.2.1 x.2.2.2.1 vs (q_bud mc ms μ)) vs := by
  refine ⟨q_blind, fun U hU hW => ⟨rfl, va_K.moved hW.alike hx.2.2.2.2.2.2.2.1, ?_, ?_, q_nt_warm hW hx.2.2.2.2.2.2.2.2.2.2.2.1⟩⟩
  · rw [hU]
    exact q_R_moved hW.alike hm.1
  · rw [hU]
    exact Nat.le_trans hx.2.2.2.2.2.2.2.2.1 hm.2.1.1
theorem q_after {y : q_Y} {x : q_X} (hx : q_CX y x) {pc mc ms i j : Nat} {ls : Array Slot} {rest st0 : List Value} {H : Heap} {locs : List Loc} {μ : q_M} {A : Array Value} {K' : Option Value → q_M → Prop}
    (hm : q_MO x μ H locs i j) (hmc : mc ≤ μ.1.2.2.1) (hms : ms ≤ μ.1.2.2.2)
    (hr : va_Run x.1.1 x.1.2.1 x.1.2.2.1 x.1.2.2.2.1 x.1.2.2.2.2 x.2.1.1 x.2.1.2.1 x.2.1.2.2.1 x.2.1.2.2.2.1 x.2.1.2.2.2.2 H locs i j mc ms (F0 x.2.1.1 pc ls st0) rest (q_Qc x.2.2.1 x.2.2.2.1 K' A) (fun q => x.2.2.2.1 ≤ q))
    (kk : ∀ (r : Option Value) (μ' : q_M) (H' : Heap) (locs' : List Loc), K' r μ' → q_MO x (q_bud (μ.1.2.2.1 - mc) (μ.1.2.2.2 - ms) μ') H' locs' (i + mc) (j + ms) → q_W x H' locs' (i + mc) (j + ms) (F0 x.2.1.1 (pc + 3) ls (r.toList ++ rest))) :
    q_W x H locs i j (F0 x.2.1.1 pc ls st0) := by
  intro T hT X
  obtain ⟨v, st₀, t, T', L, h0, X', hL, e1, e2, ⟨r, μ', hv, hk, hK, hR, hz, hold⟩, st⟩ := hr T hT X
  cases hv
  rw [h0] at hz hold
  have hal : t.vm.Alike x.1.2.2.2.2.vm := by rw [← e2]; exact X'.warmed.alike.symm
  have hmo : q_MO x (q_bud (μ.1.2.2.1 - mc) (μ.1.2.2.2 - ms) μ') T'.heap (locs ++ L) (i + mc) (j + ms) := by
    refine ⟨by rw [e1]; exact q_bud_R (q_R_moved hal hR), ⟨Nat.le_trans hm.2.1.1 (by rw [e1]; exact hz), fun q h1 h2 => ?_, fun q hq => ?_⟩, ?_, ?_⟩
    · rw [e1, hold q (Nat.lt_of_lt_of_le h1 hm.2.1.1) h2]
      exact hm.2.1.2.1 q h1 h2
    · rcases List.mem_append.mp hq with h | h
      · exact hm.2.1.2.2 q h
      · exact hL q h
    · have := hm.2.2.1
      show i + mc + (μ.1.2.2.1 - mc) = _
      omega
    · have := hm.2.2.2
      show j + ms + (μ.1.2.2.2 - ms) = _
      omega
  obtain ⟨t2, a1, b1⟩ := kk v μ' T'.heap (locs ++ L) hk hmo T' rfl X'
  exact ⟨t2, st t2 a1, b1⟩
theorem q_callB {y : q_Y} {x : q_X} (hx : q_CX y x) {nm : MethodName} {bytes : ByteArray} {maxL : Nat} {ret : Option FieldType} {n index d mc ms : Nat} (hm : q_mt nm bytes maxL ret n) (hl : Cond.methodLink y.2.2.1.cls index nm ∈ q_tb) (hd : d + 1 ≤ y.2.2.2.1) :
    CallB x.1.2.2.2.1 x.1.2.2.2.2 x.2.1.2.1 y.2.2.1.cls index nm bytes maxL ret (q_ws nm bytes maxL ret) (q_rm d mc ms) mc ms n := by
  obtain ⟨-, -, -, -, hts, -, -, -, -, hf, hlo, hnt, -⟩ := hx
  refine callB_of n hts (q_wsIn hm.1) rfl rfl rfl (hts _ hm.2.1) (hts _ hl) hm.2.2.1 ⟨?_, ?_⟩
  · show d + 1 ≤ _
    omega
  · have := hm.2.2.2
    show 8 + (maxL + 11) + 64 * d ≤ _
    omega
theorem q_callN {y : q_Y} {x : q_X} (hx : q_CX y x) {nm : MethodName} {bytes : ByteArray} {maxL : Nat} {ret : Option FieldType} {n index d mc ms : Nat} {host : String} (hm : q_mt nm bytes maxL ret n) (hl : Cond.methodLinkNest y.2.2.1.cls index nm host ∈ q_nt) (hd : d + 1 ≤ y.2.2.2.1) :
    va_CN x.1.2.2.2.1 x.1.2.2.2.2 x.2.1.2.1 y.2.2.1.cls index nm host bytes maxL ret (q_ws nm bytes maxL ret) (q_rm d mc ms) mc ms n := by
  obtain ⟨-, -, -, -, hts, -, -, -, -, hf, hlo, hnt, -⟩ := hx
  refine va_cnB n hts (q_wsIn hm.1) rfl rfl rfl ?_ (hts _ hm.2.1) hm.2.2.1 ⟨?_, ?_⟩
  · exact hnt _ hl
  · show d + 1 ≤ _
    omega
  · have := hm.2.2.2
    show 8 + (maxL + 11) + 64 * d ≤ _
    omega
theorem q_fix {y : q_Y} {x : q_X} (hx : q_CX y x) : CallFix x.1.1 x.2.1.1 x.2.1.2.2.2.2 y.1 y.2.1 x.1.2.2.2.2 x.2.1.2.1 q_tb y.2.2.1.cls := ⟨hx.1, hx.2.1, hx.2.2.1, hx.2.2.2.1, hx.2.2.2.2.1⟩
/-- a static call: res tells what of the answer is laid on the stack -/
def q_cs {V : Type} (res : V → Option Value) (n mc ms : Nat) (f : q_F) (a : q_E (List Value)) : q_E V := fun env μ K => a env μ fun vs μ => vs.length = n ∧ mc ≤ μ.1.2.2.1 ∧ ms ≤ μ.1.2.2.2 ∧
  ∃ K' : Option Value → q_M → Prop, f vs (q_bud mc ms μ) K' ∧ ∀ (r : Option Value) (μ' : q_M), K' r μ' → ∃ v, r = res v ∧ K v (q_bud (μ.1.2.2.1 - mc) (μ.1.2.2.2 - ms) μ')
/-- a call on an object of class no. ci -/
def q_cv {V : Type} (res : V → Option Value) (ci n mc ms : Nat) (f : q_F) (r : q_E Nat) (a : q_E (List Value)) : q_E V := fun env μ K => r env μ fun b μ => a env μ fun vs μ => vs.length = n ∧ μ.1.1 b = some (.inl ci) ∧ mc ≤ μ.1.2.2.1 ∧ ms ≤ μ.1.2.2.2 ∧
  ∃ K' : Option Value → q_M → Prop, f (.ref b :: vs) (q_bud mc ms μ) K' ∧ ∀ (r : Option Value) (μ' : q_M), K' r μ' → ∃ v, r = res v ∧ K v (q_bud (μ.1.2.2.1 - mc) (μ.1.2.2.2 - ms) μ')
theorem q_static {V : Type} {inj : V → List Value} {res : V → Option Value} (hres : ∀ v, (res v).toList = inj v) {y : q_Y} {k p0 p1 : Nat} {fa : q_E (List Value)} {nm : MethodName} {bytes : ByteArray} {maxL : Nat} {ret : Option FieldType} {n index d mc ms : Nat} {f : q_F}
    (ha : q_SA y k p0 p1 p1 fa) (hd : decode y.1 p1 = .ok (.invokestatic index, 3)) (hM : q_Con d nm bytes maxL ret mc ms f) (hm : q_mt nm bytes maxL ret n) (hl : Cond.methodLink y.2.2.1.cls index nm ∈ q_tb) (hs : Cond.static nm ∈ q_tb) (hdep : d + 1 ≤ y.2.2.2.1) (hk8 : k ≤ 8) :
    q_SV inj y k p0 (p1 + 3) (p1 + 3) (q_cs res n mc ms f fa) := by
  intro x hx env μ K ls st H locs i j he hw hmo hf kk
  refine ha x hx env μ _ ls st H locs i j he hw hmo hf fun vs μ1 H1 l1 a1 b1 hm1 h1 => ?_
  obtain ⟨hlen, hmc, hms, K', hfK, hK'⟩ := h1
  have h3 : q_W x H1 l1 a1 b1 (F0 x.2.1.1 p1 ls (vs.reverse ++ st)) := by
    refine q_after hx hm1 hmc hms (va_runS (As := vs) (rest := st) (g := F0 x.2.1.1 p1 ls (vs.reverse ++ st)) (q_fix hx) (hM x.1.2.1 x.2.2.1 x.2.2.2.1 vs (q_bud mc ms μ1) K' rfl rfl hfK) ⟨q_callB hx hm hl hdep, hx.2.2.2.2.1 _ hs⟩ (q_pre hx hm1) rfl hlen he.1 rfl ?_ hd ⟨?_, ?_⟩) fun r μ' H' locs' hk hmo' => ?_
    · show 2 * 0 + q_w st ≤ 8
      omega
    · have := hm1.2.2.1
      omega
    · have := hm1.2.2.2
      omega
    · obtain ⟨v, rfl, hv⟩ := hK' r μ' hk
      rw [hres]
      exact (kk v _ H' locs' _ _ hmo' hv).1
  exact ⟨h3, h3⟩
theorem q_staticN {V : Type} {inj : V → List Value} {res : V → Option Value} (hres : ∀ v, (res v).toList = inj v) {y : q_Y} {k p0 p1 : Nat} {fa : q_E (List Value)} {nm : MethodName} {bytes : ByteArray} {maxL : Nat} {ret : Option FieldType} {n index d mc ms : Nat} {host : String} {f : q_F}
    (ha : q_SA y k p0 p1 p1 fa) (hd : decode y.1 p1 = .ok (.invokestatic index, 3)) (hM : q_Con d nm bytes maxL ret mc ms f) (hm : q_mt nm bytes maxL ret n) (hl : Cond.methodLinkNest y.2.2.1.cls index nm host ∈ q_nt) (hs : Cond.static nm ∈ q_tb) (hdep : d + 1 ≤ y.2.2.2.1) (hk8 : k ≤ 8) :
    q_SV inj y k p0 (p1 + 3) (p1 + 3) (q_cs res n mc ms f fa) := by
  intro x hx env μ K ls st H locs i j he hw hmo hf kk
  refine ha x hx env μ _ ls st H locs i j he hw hmo hf fun vs μ1 H1 l1 a1 b1 hm1 h1 => ?_
  obtain ⟨hlen, hmc, hms, K', hfK, hK'⟩ := h1
  have h3 : q_W x H1 l1 a1 b1 (F0 x.2.1.1 p1 ls (vs.reverse ++ st)) := by
    refine q_after hx hm1 hmc hms (va_runSN (As := vs) (rest := st) (g := F0 x.2.1.1 p1 ls (vs.reverse ++ st)) (q_fix hx) (hM x.1.2.1 x.2.2.1 x.2.2.2.1 vs (q_bud mc ms μ1) K' rfl rfl hfK) ⟨q_callN hx hm hl hdep, hx.2.2.2.2.1 _ hs, trivial⟩ (q_pre hx hm1) rfl hlen he.1 rfl ?_ hd ⟨?_, ?_⟩) fun r μ' H' locs' hk hmo' => ?_
    · show 2 * 0 + q_w st ≤ 8
      omega
    · have := hm1.2.2.1
      omega
    · have := hm1.2.2.2
      omega
    · obtain ⟨v, rfl, hv⟩ := hK' r μ' hk
      rw [hres]
      exact (kk v _ H' locs' _ _ hmo' hv).1
  exact ⟨h3, h3⟩
theorem q_preV {y : q_Y} {x : q_X} (hx : q_CX y x) {μ : q_M} {H : Heap} {locs : List Loc} {i j mc ms : Nat} (hm : q_MO x μ H locs i j) {As : List Value} {b ci : Nat} {C : String} (hb : μ.1.1 b = some (.inl ci)) (hC : (vwCl[ci]?).map (fun r => r.1) = some C) : PreV x.1.2.2.2.2 H C b (q_Pc x.2.2.1 x.2.2.2.1 (.ref b :: As) (q_bud mc ms μ)) As := by
  have h := q_pre (mc := mc) (ms := ms) hx hm (vs := .ref b :: As)
  refine ⟨h.1, ?_, h.2⟩
  obtain ⟨-, r, h1, cell, q1, q2, q3, -⟩ := hm.1.1 b _ hb
  rw [h1] at hC
  have hr : r.1 = C := Option.some.inj hC
  refine ⟨cell, q1, by rw [q3]; rfl, ?_⟩
  rw [q2, ← hr]
  exact (hx.2.2.2.2.2.2.2.1.1 ci r h1).2.1
theorem q_virtual {V : Type} {inj : V → List Value} {res : V → Option Value} (hres : ∀ v, (res v).toList = inj v) {y : q_Y} {k p0 p1 p2 : Nat} {fr : q_E Nat} {fa : q_E (List Value)} {nm : MethodName} {bytes : ByteArray} {maxL : Nat} {ret : Option FieldType} {n index d mc ms ci : Nat} {f : q_F}
    (hr : q_SR y k p0 p1 p1 fr) (ha : q_SA y (k + 1) p1 p2 p2 fa) (hd : decode y.1 p2 = .ok (.invokevirtual index, 3)) (hM : q_Con d nm bytes maxL ret mc ms f) (hm : q_mt nm bytes maxL ret n) (hl : Cond.methodLink y.2.2.1.cls index nm ∈ q_tb) (hi : Cond.instanceMethod nm ∈ q_tb) (hs : Cond.selects nm.cls nm nm ∈ q_tb)
    (hC : (vwCl[ci]?).map (fun r => r.1) = some nm.cls) (hdep : d + 1 ≤ y.2.2.2.1) (hk8 : k ≤ 8) :
    q_SV inj y k p0 (p2 + 3) (p2 + 3) (q_cv res ci n mc ms f fr fa) := by
  intro x hx env μ K ls st H locs i j he hw hmo hf kk
  refine hr x hx env μ _ ls st H locs i j he hw hmo hf fun b μ0 H0 l0 a0 b0 hm0 h0 => ?_
  have h2 := ha x hx env μ0 _ ls (.ref b :: st) H0 l0 a0 b0 he (q_w_ref hw) hm0 h0 fun vs μ1 H1 l1 a1 b1 hm1 h1 => ?_
  · exact ⟨h2, h2⟩
  obtain ⟨hlen, hb, hmc, hms, K', hfK, hK'⟩ := h1
  have h3 : q_W x H1 l1 a1 b1 (F0 x.2.1.1 p2 ls (vs.reverse ++ (.ref b :: st))) := by
    refine q_after hx hm1 hmc hms (va_runV (C := nm.cls) (b := b) (As := vs) (rest := st) (g := F0 x.2.1.1 p2 ls (vs.reverse ++ (.ref b :: st))) (q_fix hx) (hM x.1.2.1 x.2.2.1 x.2.2.2.1 (.ref b :: vs) (q_bud mc ms μ1) K' rfl rfl hfK) ⟨q_callB hx hm hl hdep, hx.2.2.2.2.1 _ hi, hx.2.2.2.2.1 _ hs⟩ (q_preV hx hm1 hb hC) rfl hlen he.1 rfl ?_ hd ⟨?_, ?_⟩) fun r μ' H' locs' hk hmo' => ?_
    · show 2 * 0 + q_w st ≤ 8
      omega
    · have := hm1.2.2.1
      omega
    · have := hm1.2.2.2
      omega
    · obtain ⟨v, rfl, hv⟩ := hK' r μ' hk
      rw [hres]
      exact (kk v _ H' locs' _ _ hmo' hv).1
  exact ⟨h3, h3⟩
def q_oi (v : Int32) : Option Value := some (.int v)
def q_or (v : Nat) : Option Value := some (.ref v)
def q_ov (_ : Unit) : Option Value := none
theorem q_hoi : ∀ v, (q_oi v).toList = q_ji v := fun _ => rfl
theorem q_hor : ∀ v, (q_or v).toList = q_jr v := fun _ => rfl
theorem q_hov : ∀ v, (q_ov v).toList = q_jv v := fun _ => rfl
/-- a method out of its body -/
theorem q_method {d maxL mc ms : Nat} {nm : MethodName} {bytes : ByteArray} {ret : Option FieldType} {f : q_S} {n : Nat} (hm : q_mt nm bytes maxL ret n) (hy : plainName nm.cls = true)
    (hb : q_SS (bytes, maxL, nm, d, ret) 0 0 0 f) : q_Con d nm bytes maxL ret mc ms (fun vs μ K => (∀ v ∈ vs, v.category = 1) ∧ vs.length ≤ maxL ∧ f vs μ (fun _ _ => False) K) := by
  intro l D base vs μ K hmc hms hf
  obtain ⟨hcat, hlen, hf⟩ := hf
  refine Met.ofW (cc := bytes) (maxL := maxL) (ret := ret) hy rfl ?_
  intro p e s m args below meth c s₁ B hml hv
  obtain ⟨rfl, hK, hR, hbase, hnt⟩ := hv
  have hts : ∀ w ∈ q_tb, w.before vs.toArray s = true := fun w hw => atoms_spec (ws := q_ws nm bytes maxL ret) B.pre w (List.mem_cons_of_mem _ hw)
  have hsl : lg_sl vs = vs.map Slot.val := by
    clear hlen hf hts B hbase hR hb
    induction vs with
    | nil => rfl
    | cons v vs ih =>
      have h1 : ¬ v.category = 2 := by
        rw [hcat v List.mem_cons_self]
        decide
      have := ih (fun w hw => hcat w (List.mem_cons_of_mem _ hw))
      simp only [lg_sl, List.flatMap_cons, h1, if_false, List.map_cons] at this ⊢
      rw [this]
      rfl
  have hle : (lg_sl vs).length ≤ maxL := by rw [hsl, List.length_map]; exact hlen
  have hl := lv_entry vs (n := maxL) hle
  rw [lg_entry_eq]
  have heo : q_EO (bytes, maxL, nm, d, ret) ((lg_sl vs ++ List.replicate (maxL - (lg_sl vs).length) Slot.unset).toArray) vs := by
    refine ⟨hl.1, hl.2.1, fun i v hi => ⟨hcat v (List.mem_of_getElem? hi), ?_⟩⟩
    have hil : i < vs.length := (List.getElem?_eq_some_iff.mp hi).1
    rw [hsl, List.getElem?_toArray, List.getElem?_append_left (by rw [List.length_map]; exact hil), List.getElem?_map, hi]
    rfl
  refine hb ((p, l, e, (headSpec (q_ws nm bytes maxL ret) (q_rm d mc ms)).room, s), (m, vs.toArray, below, meth, c), D, base, K) ⟨B.exec, B.bytes, hml, findClass_of_methodNamed B.named, hts, B.notSynchronized, B.returns, hK, hbase, Nat.le_refl _, Nat.le_refl _, hnt, (name_of_methodNamed B.named B.method).1⟩ vs μ (fun _ _ => False) _ s.heap [] 0 0 heo ⟨hR, va_S.rf, ?_, ?_⟩ hf ?_
  · show 0 + μ.1.2.2.1 = mc
    omega
  · show 0 + μ.1.2.2.2 = ms
    omega
  · intro env' μ' ls' H' locs' a' b' _ _ h
    exact absurd h id
end
