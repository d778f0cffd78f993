section
/-! what constructors need: new cells -/
def q_al1 (μ : q_M) (t : q_T) (n : Nat) (f : Nat → Value) : q_M := (((fun a => if a = μ.1.2.1 then some t else μ.1.1 a), μ.1.2.1 + 1, μ.1.2.2.1 - 1, μ.1.2.2.2 - n), fun a => if a = μ.1.2.1 then f else μ.2 a)
theorem q_MO_al1 {y : q_Y} {x : q_X} (hx : q_CX y x) {μ : q_M} {H H1 : Heap} {locs : List Loc} {i j n : Nat} {t : q_T} {f : Nat → Value} (hm : q_MO x μ H locs i j) (hz : H1.size = H.size + 1) (ho : ∀ q, q < H.size → H1[q]? = H[q]?)
    (hc : x.2.2.2.1 ≤ H.size → q_cell x.2.2.1 x.2.2.2.1 x.1.2.2.2.2 H1 H.size t f) (h1 : 1 ≤ μ.1.2.2.1) (h2 : n ≤ μ.1.2.2.2) : q_MO x (q_al1 μ t n f) H1 locs (i + 1) (j + n) := by
  obtain ⟨hR, hS, h3, h4⟩ := hm
  have hb : x.2.2.2.1 ≤ H.size := Nat.le_trans hx.2.2.2.2.2.2.2.2.1 hS.1
  refine ⟨⟨fun a t' ha => ?_, ?_⟩, ⟨by have := hS.1; omega, fun q g1 g2 => (ho q (Nat.lt_of_lt_of_le g1 hS.1)).trans (hS.2.1 q g1 g2), hS.2.2⟩, ?_, ?_⟩
  · have ha : (if a = μ.1.2.1 then some t else μ.1.1 a) = some t' := ha
    show q_cell _ _ _ _ a t' (if a = μ.1.2.1 then f else μ.2 a)
    by_cases e : a = μ.1.2.1
    · rw [if_pos e] at ha ⊢
      cases ha
      rw [e, ← hR.2]
      exact hc hb
    · rw [if_neg e] at ha ⊢
      have h5 := hR.1 a t' ha
      refine q_cell_kept h5 (ho a ?_)
      rcases t' with ci | ⟨ty, n'⟩ | n'
      · obtain ⟨-, r, -, cell, h6, -⟩ := h5
        exact (Array.getElem?_eq_some_iff.mp h6).1
      · obtain ⟨-, cA, -, -, h6⟩ := h5
        exact (Array.getElem?_eq_some_iff.mp h6).1
      · obtain ⟨scr, h6, -⟩ := h5
        exact (Array.getElem?_eq_some_iff.mp h6).1
  · show H1.size = μ.1.2.1 + 1
    rw [hz, hR.2]
  · show i + 1 + (μ.1.2.2.1 - 1) = _
    omega
  · show j + n + (μ.1.2.2.2 - n) = _
    omega
-- final fields, in a constructor
def q_pff (own : String) (index ci k : Nat) (ty : FieldType) : Prop := ∃ (C : String) (T : u_T) (N : Nat) (ty0 : Nat → FieldType), vwCl[ci]? = some (C, T, N) ∧ k < N ∧ (∀ w ∈ u_ws C T N, w ∈ q_tb) ∧ Cond.fieldLink own index (T k).1 (T k).2.1 (T k).2.2.1 ∈ q_tb ∧
  (∀ k, k < N → parseFieldDescriptor (T k).2.2.1 = some (ty0 k)) ∧ (∀ a, a < N → ∀ b, b < N → a ≠ b → (T a).2.1 ≠ (T b).2.1) ∧ (T k).2.2.2 = true ∧ (T k).1 = own ∧ parseFieldDescriptor (T k).2.2.1 = some ty
theorem q_putff {y : q_Y} {x : q_X} (hx : q_CX y x) (hini : y.2.2.1.name = "<init>") {pc index ci k a : Nat} {ty : FieldType} (hg : q_pff y.2.2.1.cls index ci k ty) (hd : decode y.1 pc = .ok (.putfield index, 3)) {μ : q_M} {ls : Array Slot} {st : List Value} {H : Heap} {locs : List Loc} {i j : Nat} {v : Value} (hm : q_MO x μ H locs i j) (ht : μ.1.1 a = some (.inl ci))
    (hn : narrow ty v = v) (hfit : fits ty v = true)
    (kk : ∀ (H1 : Heap) (locs1 : List Loc), q_MO x (q_set μ a k v) H1 locs1 i j → q_W x H1 locs1 i j (F0 x.2.1.1 (pc + 3) ls st)) : q_W x H locs i j (F0 x.2.1.1 pc ls (v :: .ref a :: st)) := by
  obtain ⟨C, T, N, ty0, hc, hk, hin, hl, hty, hnm, hfin, hdecl, hdsc⟩ := hg
  obtain ⟨hexec, hb, -, hown, hts, -, -, hK, -, -, -, -, hname⟩ := hx
  have hap := va_apart (own := y.2.2.1.cls) hts hin ty0 hty hnm hK hc
  obtain ⟨hba, r, h1, cell, q1, q2, q3, q4⟩ := hm.1.1 a _ ht
  have hr : r = (C, T, N) := Option.some.inj (h1.symm.trans hc)
  subst hr
  obtain ⟨hS, hfc, kC, hkC, hkind⟩ := hK.1 ci _ hc
  obtain ⟨cf, kf, fi, f, hi, hsl⟩ := hS k hk
  have hlay := hts _ (hin _ (u_in_lay hk))
  unfold u_lay at hlay
  rw [if_pos hfin] at hlay
  have hst := (u_facts hfc hkC (u_lays hts hin hk) hi).1
  have hcf : x.2.1.1.cls = cf := by
    obtain ⟨_, _, c', _, _, _, -, -, hf', -, -, -, hown2, -⟩ := Cond.laysFinal_spec hlay
    have e1 : c' = cf := by have := hi.symm.trans hf'; simp at this; exact this.1.symm
    rw [hdecl] at hown2
    rw [← e1]; exact Option.some.inj (hown.symm.trans hown2)
  have h6 := u_fits hfc hkC hkind (Or.inr hlay) hi hdsc hn hfit
  refine W.putFinK hexec hb hown (hts _ hl) hi hst hcf (hname.trans hini) (by rw [q2]; exact h6) q1 q3 (by rw [hsl]; exact k2_hasslot (q4 k hk)) rfl rfl hd fun H' e1 e2 e3 => ?_
  rw [hsl] at e1 ⊢
  refine kk H' _ ⟨q_R_put hm.1 ht e2 e3 ⟨hba, _, hc, ⟨_, e1, q2, q3, t_set q4 hap hk v⟩⟩, hm.2.1.put e2 e3 hba, hm.2.2⟩
theorem q_putFF {V : Type} {inj : V → List Value} {u : V → Value} {ok : V → Prop} {ty : FieldType} (hu : ∀ v, inj v = [u v]) (hok : ∀ v, ok v → narrow ty (u v) = u v ∧ fits ty (u v) = true) {y : q_Y} {p0 p1 p2 index ci kf : Nat} {fr : q_E Nat} {e : q_E V}
    (hr : q_SR y 0 p0 p1 p1 fr) (he : q_SV inj y 1 p1 p2 p2 e) (hd : decode y.1 p2 = .ok (.putfield index, 3)) (hg : q_pff y.2.2.1.cls index ci kf ty) (hini : y.2.2.1.name = "<init>") : q_SS y p0 (p2 + 3) (p2 + 3) (q_spf u ok ci kf fr e) := by
  intro x hx env μ Kn ls H locs a b heo hm hf kk
  refine hr x hx env μ _ ls [] H locs a b heo (Nat.le_refl _) hm hf fun r μ1 H1 l1 a1 b1 hm1 h1 => ?_
  have h2 := he x hx env μ1 _ ls [.ref r] H1 l1 a1 b1 heo (q_w_ref (Nat.le_refl _)) hm1 h1 fun v μ2 H2 l2 a2 b2 hm2 h2 => ?_
  · exact ⟨h2, h2⟩
  · rw [hu]
    have h3 := q_putff hx hini hg hd (ls := ls) (st := []) hm2 h2.1 (hok v h2.2.1).1 (hok v h2.2.1).2 (fun H3 l3 hm3 => (kk env _ ls H3 l3 a2 b2 heo hm3 h2.2.2).1)
    exact ⟨h3, h3⟩
theorem q_putFR {y : q_Y} {p0 p1 p2 index ci kf : Nat} {ty : FieldType} {fr e : q_E Nat} (hr : q_SR y 0 p0 p1 p1 fr) (he : q_SR y 1 p1 p2 p2 e) (hd : decode y.1 p2 = .ok (.putfield index, 3)) (hg : q_pff y.2.2.1.cls index ci kf ty) (hini : y.2.2.1.name = "<init>") (hty : ∀ v : Nat, narrow ty (.ref v) = .ref v ∧ fits ty (.ref v) = true) : q_SS y p0 (p2 + 3) (p2 + 3) (q_spf Value.ref (fun _ => True) ci kf fr e) :=
  q_putFF (fun _ => rfl) (fun v _ => hty v) hr he hd hg hini
-- the constructor of Object
def q_spr (i : Nat) : q_S := fun env μ Kn _ => ∃ v, env[i]? = some (.ref v) ∧ Kn env μ
theorem q_of : Cond.instanceMethod Lib.objectInit ∈ q_tb ∧ Cond.code Lib.objectInit ⟨#[0xb1]⟩ 1 none ∈ q_tb := by
  have h : ∀ w ∈ ([Cond.instanceMethod Lib.objectInit, Cond.code Lib.objectInit ⟨#[0xb1]⟩ 1 none] : List Cond), w ∈ q_tb := by
    intro w hw
    have h1 : ([Cond.instanceMethod Lib.objectInit, Cond.code Lib.objectInit ⟨#[0xb1]⟩ 1 none] : List Cond).all (fun w => decide (w ∈ tables_1_1) && goodWord w) = true := by decide +kernel
    have h2 := List.all_eq_true.mp h1 w hw
    simp only [Bool.and_eq_true, decide_eq_true_eq] at h2
    exact List.mem_filter.mpr ⟨q_ts1 w h2.1, h2.2⟩
  exact ⟨h _ (by simp), h _ (by simp)⟩
theorem q_super {y : q_Y} {p index : Nat} (h0 : decode y.1 p = .ok (.aload_n 0, 1)) (hd : decode y.1 (p + 1) = .ok (.invokespecial index, 3)) (hl : Cond.methodLink y.2.2.1.cls index Lib.objectInit ∈ q_tb) (hdep : 1 ≤ y.2.2.2.1) : q_SS y p (p + 1 + 3) (p + 1 + 3) (q_spr 0) := by
  intro x hx env μ Kn ls H locs a b heo hm hf kk
  obtain ⟨v, hv, hk⟩ := hf
  have hfr : y.2.2.2.1 ≤ x.1.2.2.2.1.frames := hx.2.2.2.2.2.2.2.2.2.1
  have hlo : 64 * y.2.2.2.1 ≤ x.1.2.2.2.1.locals := hx.2.2.2.2.2.2.2.2.2.2.1
  refine lv_aload_n hx.1 hx.2.1 h0 rfl (heo.2.2 _ _ hv).2 ?_
  exact W.objInit hx.1 hx.2.1 hx.2.2.2.1 (hx.2.2.2.2.1 _ hl) (hx.2.2.2.2.1 _ q_of.1) (hx.2.2.2.2.1 _ q_of.2) rfl (by rw [hx.2.2.1]; exact heo.1) rfl hd (by omega) (by show 2 * 0 + q_w [] + 12 ≤ _; simp [q_w]; omega) (kk env μ ls H locs a b heo hm hk).1
-- new objects
def q_df (ty : Nat → FieldType) : Nat → Value := fun j => defaultValue (ty j)
def q_nwf (own : String) (index ci N : Nat) (ty : Nat → FieldType) : Prop := ∃ (C : String) (T : u_T), vwCl[ci]? = some (C, T, N) ∧ (∀ w ∈ u_ws C T N, w ∈ q_tb) ∧ (∀ k, k < N → parseFieldDescriptor (T k).2.2.1 = some (ty k)) ∧ Cond.classLink own index C ∈ q_tb ∧ Cond.instantiable C N ∈ q_tb ∧ Cond.initialized C ∈ q_tb
def q_nw (ci N : Nat) (ty : Nat → FieldType) (n mc ms : Nat) (f : q_F) (e : q_E (List Value)) : q_E Nat := fun env μ K => 1 ≤ μ.1.2.2.1 ∧ N ≤ μ.1.2.2.2 ∧ e env (q_al1 μ (.inl ci) N (q_df ty)) fun vs μ1 => vs.length = n ∧ mc ≤ μ1.1.2.2.1 ∧ ms ≤ μ1.1.2.2.2 ∧
  ∃ K' : Option Value → q_M → Prop, f (.ref μ.1.2.1 :: vs) (q_bud mc ms μ1) K' ∧ ∀ (r : Option Value) (μ' : q_M), K' r μ' → r = none ∧ K μ.1.2.1 (q_bud (μ1.1.2.2.1 - mc) (μ1.1.2.2.2 - ms) μ')
theorem q_newo {y : q_Y} {x : q_X} (hx : q_CX y x) {pc index ci N : Nat} {ty : Nat → FieldType} (hg : q_nwf y.2.2.1.cls index ci N ty) (hd : decode y.1 pc = .ok (.new index, 3)) {μ : q_M} {ls : Array Slot} {st : List Value} {H : Heap} {locs : List Loc} {i j : Nat} (hm : q_MO x μ H locs i j) (h1 : 1 ≤ μ.1.2.2.1) (h2 : N ≤ μ.1.2.2.2)
    (kk : ∀ (H1 : Heap), q_MO x (q_al1 μ (.inl ci) N (q_df ty)) H1 locs (i + 1) (j + N) → q_W x H1 locs (i + 1) (j + N) (F0 x.2.1.1 (pc + 3) ls (.ref μ.1.2.1 :: st))) : q_W x H locs i j (F0 x.2.1.1 pc ls st) := by
  obtain ⟨C, T, hc, hin, hty, w1, w2, w3⟩ := hg
  have hts := hx.2.2.2.2.1
  have hK := hx.2.2.2.2.2.2.2.1
  have hKn := hK.1 ci _ hc
  refine W.newcK hx.1 hx.2.1 hx.2.2.2.1 (hts _ w1) (hts _ w2) (hts _ w3) rfl hd (by have := hm.2.2.1; omega) (by have := hm.2.2.2; omega) hKn.2.1 hm.1.2 fun H1 kC hkC e1 z1 o1 => ?_
  refine kk H1 (q_MO_al1 hx hm (by rw [z1, hm.1.2]) (fun q hq => o1 q (by rw [← hm.1.2]; exact hq)) (fun hb => ⟨hb, _, hc, ?_⟩) h1 h2)
  rw [hm.1.2]
  exact u_born ty hts hin hKn hkC e1 hty
theorem q_newS {y : q_Y} {k p0 p1 i1 i2 ci N n d mc ms maxL : Nat} {ty : Nat → FieldType} {e : q_E (List Value)} {nm : MethodName} {bytes : ByteArray} {f : q_F} (hd : decode y.1 p0 = .ok (.new i1, 3)) (hg : q_nwf y.2.2.1.cls i1 ci N ty) (hdup : decode y.1 (p0 + 3) = .ok (.dup, 1)) (he : q_SA y (k + 2) (p0 + 3 + 1) p1 p1 e)
    (hd2 : decode y.1 p1 = .ok (.invokespecial i2, 3)) (hM : q_Con d nm bytes maxL none mc ms f) (hm : q_mt nm bytes maxL none n) (hl : Cond.methodLink y.2.2.1.cls i2 nm ∈ q_tb) (hi : Cond.instanceMethod nm ∈ q_tb) (hn : nm.name = "<init>") (hdep : d + 1 ≤ y.2.2.2.1) (hk8 : k ≤ 7) :
    q_SR y k p0 (p1 + 3) (p1 + 3) (q_nw ci N ty n mc ms f e) := by
  intro x hx env μ K ls st H locs i j heo hw hmo hf kk
  obtain ⟨h1, h2, hf⟩ := hf
  refine q_newo hx hg hd hmo h1 h2 fun H1 hm1 => ?_
  refine lv_dup hx.1 hx.2.1 hdup rfl ?_
  refine he x hx env _ _ ls (.ref μ.1.2.1 :: .ref μ.1.2.1 :: st) H1 locs (i + 1) (j + N) heo (q_w_ref (q_w_ref hw)) hm1 hf fun vs μ2 H2 l2 a2 b2 hm2 h3 => ?_
  obtain ⟨hlen, hmc, hms, K', hfK, hK'⟩ := h3
  have h4 : q_W x H2 l2 a2 b2 (F0 x.2.1.1 p1 ls (vs.reverse ++ (.ref μ.1.2.1 :: .ref μ.1.2.1 :: st))) := by
    refine q_after hx hm2 hmc hms (va_runI (b := μ.1.2.1) (As := vs) (rest := .ref μ.1.2.1 :: st) (g := F0 x.2.1.1 p1 ls (vs.reverse ++ (.ref μ.1.2.1 :: .ref μ.1.2.1 :: st))) (q_fix hx) (hM x.1.2.1 x.2.2.1 x.2.2.2.1 (.ref μ.1.2.1 :: vs) (q_bud mc ms μ2) K' rfl rfl hfK) ⟨q_callB hx hm hl hdep, hn, hx.2.2.2.2.1 _ hi⟩ (q_pre hx hm2) rfl hlen heo.1 rfl ?_ hd2 ⟨?_, ?_⟩) fun r μ' H' locs' hk hmo' => ?_
    · show 2 * 0 + q_w (.ref μ.1.2.1 :: st) ≤ 8
      have := q_w_ref (u := μ.1.2.1) hw
      omega
    · have := hm2.2.2.1
      omega
    · have := hm2.2.2.2
      omega
    · obtain ⟨rfl, hv⟩ := hK' r μ' hk
      exact (kk μ.1.2.1 _ H' locs' _ _ hmo' hv).1
  exact ⟨h4, h4⟩
theorem q_newN {y : q_Y} {k p0 p1 i1 i2 ci N n d mc ms maxL : Nat} {host : String} {ty : Nat → FieldType} {e : q_E (List Value)} {nm : MethodName} {bytes : ByteArray} {f : q_F} (hd : decode y.1 p0 = .ok (.new i1, 3)) (hg : q_nwf y.2.2.1.cls i1 ci N ty) (hdup : decode y.1 (p0 + 3) = .ok (.dup, 1)) (he : q_SA y (k + 2) (p0 + 3 + 1) p1 p1 e)
    (hd2 : decode y.1 p1 = .ok (.invokespecial i2, 3)) (hM : q_Con d nm bytes maxL none mc ms f) (hm : q_mt nm bytes maxL none n) (hl : Cond.methodLinkNest y.2.2.1.cls i2 nm host ∈ q_nt) (hi : Cond.instanceMethod nm ∈ q_tb) (hn : nm.name = "<init>") (hdep : d + 1 ≤ y.2.2.2.1) (hk8 : k ≤ 7) :
    q_SR y k p0 (p1 + 3) (p1 + 3) (q_nw ci N ty n mc ms f e) := by
  intro x hx env μ K ls st H locs i j heo hw hmo hf kk
  obtain ⟨h1, h2, hf⟩ := hf
  refine q_newo hx hg hd hmo h1 h2 fun H1 hm1 => ?_
  refine lv_dup hx.1 hx.2.1 hdup rfl ?_
  refine he x hx env _ _ ls (.ref μ.1.2.1 :: .ref μ.1.2.1 :: st) H1 locs (i + 1) (j + N) heo (q_w_ref (q_w_ref hw)) hm1 hf fun vs μ2 H2 l2 a2 b2 hm2 h3 => ?_
  obtain ⟨hlen, hmc, hms, K', hfK, hK'⟩ := h3
  have h4 : q_W x H2 l2 a2 b2 (F0 x.2.1.1 p1 ls (vs.reverse ++ (.ref μ.1.2.1 :: .ref μ.1.2.1 :: st))) := by
    refine q_after hx hm2 hmc hms (va_runIN (b := μ.1.2.1) (As := vs) (rest := .ref μ.1.2.1 :: st) (g := F0 x.2.1.1 p1 ls (vs.reverse ++ (.ref μ.1.2.1 :: .ref μ.1.2.1 :: st))) (q_fix hx) (hM x.1.2.1 x.2.2.1 x.2.2.2.1 (.ref μ.1.2.1 :: vs) (q_bud mc ms μ2) K' rfl rfl hfK) ⟨q_callN hx hm hl hdep, hn, hx.2.2.2.2.1 _ hi⟩ (q_pre hx hm2) rfl hlen heo.1 rfl ?_ hd2 ⟨?_, ?_⟩) fun r μ' H' locs' hk hmo' => ?_
    · show 2 * 0 + q_w (.ref μ.1.2.1 :: st) ≤ 8
      have := q_w_ref (u := μ.1.2.1) hw
      omega
    · have := hm2.2.2.1
      omega
    · have := hm2.2.2.2
      omega
    · obtain ⟨rfl, hv⟩ := hK' r μ' hk
      exact (kk μ.1.2.1 _ H' locs' _ _ hmo' hv).1
  exact ⟨h4, h4⟩
-- new rows
def q_na (ty : FieldType) (e : q_E Int32) : q_E Nat := fun env μ K => e env μ fun v μ => ¬ v < 0 ∧ v.toNatClampNeg ≤ 65536 ∧ 1 ≤ μ.1.2.2.1 ∧ v.toNatClampNeg ≤ μ.1.2.2.2 ∧ K μ.1.2.1 (q_al1 μ (.inr (.inl (ty, v.toNatClampNeg))) v.toNatClampNeg (fun _ => defaultValue ty))
theorem q_newarr {y : q_Y} {k p0 p1 : Nat} {at0 : ArrayType} {ty : FieldType} {e : q_E Int32} (he : q_SI y k p0 p1 p1 e) (hd : decode y.1 p1 = .ok (.newarray at0, 2)) (hty : newarray.typeOf at0 = ty) (hcb : componentBytes ty ≤ 8) (har : Cond.arrayClass (newarray.typeOf at0) ∈ q_tb)
    (hra : ∀ (s : State) (cA : ClassId), s.vm.findClass ("[" ++ ty.toString) = some cA → va_RA s cA ty) : q_SR y k p0 (p1 + 2) (p1 + 2) (q_na ty e) := by
  subst hty
  intro x hx env μ K ls st H locs i j heo hw hmo hf kk
  refine he x hx env μ _ ls st H locs i j heo hw hmo hf fun v μ1 H1 l1 a1 b1 hm1 h1 => ?_
  obtain ⟨g1, g2, g3, g4, hk⟩ := h1
  have h3 : q_W x H1 l1 a1 b1 (F0 x.2.1.1 p1 ls (.int v :: st)) := by
    refine va_newaK hx.1 hx.2.1 (hx.2.2.2.2.1 _ har) rfl hd rfl g1 rfl ?_ (by have := hm1.2.2.1; omega) (by have := hm1.2.2.2; omega) hm1.1.2 fun H2 cA e1 z1 o1 hAr hNm => ?_
    · have : v.toNatClampNeg * componentBytes (newarray.typeOf at0) ≤ 65536 * 8 := Nat.mul_le_mul g2 hcb
      omega
    · have hm2 : q_MO x (q_al1 μ1 (.inr (.inl (newarray.typeOf at0, v.toNatClampNeg))) v.toNatClampNeg (fun _ => defaultValue (newarray.typeOf at0))) H2 l1 (a1 + 1) (b1 + v.toNatClampNeg) :=
        q_MO_al1 hx hm1 (by rw [z1, hm1.1.2]) (fun q hq => o1 q (by rw [← hm1.1.2]; exact hq)) (fun hb => ⟨hb, cA, hAr, hra _ _ hNm, by rw [hm1.1.2]; exact e1⟩) g3 g4
      exact (kk _ _ H2 l1 _ _ hm2 hk).1
  exact ⟨h3, h3⟩
theorem q_raI (s : State) (cA : ClassId) (h : s.vm.findClass ("[" ++ FieldType.int.toString) = some cA) : va_RA s cA .int := h
theorem q_raZ (s : State) (cA : ClassId) (h : s.vm.findClass ("[" ++ FieldType.boolean.toString) = some cA) : va_RA s cA .boolean := h
def q_no2 (C : String) (e : q_E Int32) : q_E Nat := fun env μ K => e env μ fun v μ => ¬ v < 0 ∧ v.toNatClampNeg ≤ 65536 ∧ 1 ≤ μ.1.2.2.1 ∧ v.toNatClampNeg ≤ μ.1.2.2.2 ∧ K μ.1.2.1 (q_al1 μ (.inr (.inl (.object C, v.toNatClampNeg))) v.toNatClampNeg (fun _ => .null))
theorem q_anew {y : q_Y} {k p0 p1 index : Nat} {C : String} {e : q_E Int32} (he : q_SI y k p0 p1 p1 e) (hd : decode y.1 p1 = .ok (.anewarray index, 3)) (hcl : Cond.classLink y.2.2.1.cls index C ∈ q_tb) (hov : Cond.arrayOver (.object C) ∈ q_nt) : q_SR y k p0 (p1 + 3) (p1 + 3) (q_no2 C e) := by
  intro x hx env μ K ls st H locs i j heo hw hmo hf kk
  refine he x hx env μ _ ls st H locs i j heo hw hmo hf fun v μ1 H1 l1 a1 b1 hm1 h1 => ?_
  obtain ⟨g1, g2, g3, g4, hk⟩ := h1
  have h3 : q_W x H1 l1 a1 b1 (F0 x.2.1.1 p1 ls (.int v :: st)) := by
    have hnt : va_AO C x.1.2.2.2.2 := hx.2.2.2.2.2.2.2.2.2.2.2.1 _ hov
    refine W.anew hx.1 hx.2.1 hx.2.2.2.1 (hx.2.2.2.2.1 _ hcl) (va_AO.use hnt) rfl hd rfl g1 (by omega) (by have := hm1.2.2.1; omega) (by have := hm1.2.2.2; omega) fun cA kA comp f1 f2 f3 f4 => ?_
    have hAr : ArrOfT x.1.2.2.2.2 cA (.object C) := fun N z => ⟨(fun k h => by cases h), kA, f2, comp, f3⟩
    have hm2 : q_MO x (q_al1 μ1 (.inr (.inl (.object C, v.toNatClampNeg))) v.toNatClampNeg (fun _ => .null)) (H1.push { cls := cA, slots := Array.replicate v.toNatClampNeg .null, vm := .none }) l1 (a1 + 1) (b1 + v.toNatClampNeg) :=
      q_MO_al1 hx hm1 (by rw [Array.size_push]) (fun q hq => by rw [Array.getElem?_push, if_neg (Nat.ne_of_lt hq)]) (fun hb => ⟨hb, cA, hAr, ⟨kA, comp, f2, f3, f4, f1⟩, by rw [Array.getElem?_push_size, ← arrV_new]⟩) g3 g4
    have h5 := (kk _ _ _ l1 _ _ hm2 hk).1
    rw [hm1.1.2]
    exact h5
  exact ⟨h3, h3⟩
/-- new int[n][k] -/
def q_al2 (μ : q_M) (N K : Nat) : q_M := (((fun a => if a = μ.1.2.1 then some (.inr (.inl (.array .int, N))) else if μ.1.2.1 < a ∧ a ≤ μ.1.2.1 + N then some (.inr (.inl (.int, K))) else μ.1.1 a), μ.1.2.1 + 1 + N, μ.1.2.2.1 - (1 + N), μ.1.2.2.2 - (N + N * K)),
  fun a => if a = μ.1.2.1 then (fun j => if j < N then .ref (μ.1.2.1 + 1 + j) else .null) else if μ.1.2.1 < a ∧ a ≤ μ.1.2.1 + N then (fun _ => .int 0) else μ.2 a)
def q_mu (e d : q_E Int32) : q_E Nat := fun env μ K => e env μ fun n μ => d env μ fun k μ => ¬ n < 0 ∧ ¬ k < 0 ∧ n.toNatClampNeg ≤ 65536 ∧ k.toNatClampNeg ≤ 65536 ∧ 1 + n.toNatClampNeg ≤ μ.1.2.2.1 ∧ n.toNatClampNeg + n.toNatClampNeg * k.toNatClampNeg ≤ μ.1.2.2.2 ∧ K μ.1.2.1 (q_al2 μ n.toNatClampNeg k.toNatClampNeg)
theorem q_outer (c : ClassId) (N h0 : Nat) : ∀ i : Nat, Jvm.Free.Multi.outerC c N h0 i = arrV c N (fun j => if j < i then .ref (h0 + 1 + j) else .null)
  | 0 => by
    show ({ cls := c, slots := Array.replicate N .null, vm := .none } : Cell) = _
    rw [arrV_new]
    refine congrArg (arrV c N) (funext fun j => ?_)
    simp
  | i + 1 => by
    show (Jvm.Free.Multi.outerC c N h0 i).setSlot i (.ref (h0 + 1 + i)) = _
    rw [q_outer c N h0 i, arrV_store]
    refine congrArg (arrV c N) (funext fun j => ?_)
    by_cases e : j = i
    · subst e
      simp [updV]
    · by_cases h : j < i
      · simp [updV, e, h, Nat.lt_succ_of_lt h]
      · simp [updV, e, h, show ¬ j < i + 1 by omega]
theorem q_multi {y : q_Y} {k p0 p1 p2 index : Nat} {e d : q_E Int32} (he : q_SI y k p0 p1 p1 e) (hdd : q_SI y (k + 1) p1 p2 p2 d) (hd : decode y.1 p2 = .ok (.multianewarray index 2, 4)) (hcl : Cond.classLink y.2.2.1.cls index "[[I" ∈ q_tb) (hov : Cond.arrayOver (.array .int) ∈ q_nt) (har : Cond.arrayClass .int ∈ q_tb) : q_SR y k p0 (p2 + 4) (p2 + 4) (q_mu e d) := by
  intro x hx env μ K ls st H locs i j heo hw hmo hf kk
  refine he x hx env μ _ ls st H locs i j heo hw hmo hf fun n μ0 H0 l0 a0 b0 hm0 h0 => ?_
  have hh := hdd x hx env μ0 _ ls (.int n :: st) H0 l0 a0 b0 heo (q_w_int hw) hm0 h0 fun v μ1 H1 l1 a1 b1 hm1 h1 => ?_
  · exact ⟨hh, hh⟩
  obtain ⟨g1, g2, g3, g4, g5, g6, hk⟩ := h1
  have h3 : q_W x H1 l1 a1 b1 (F0 x.2.1.1 p2 ls (.int v :: .int n :: st)) := by
    intro T hT X
    have hnt : (Cond.arrayOver (.array .int)).before x.2.1.2.1 x.1.2.2.2.2 = true := hx.2.2.2.2.2.2.2.2.2.2.2.1 _ hov
    obtain ⟨vm₁, cA, comp, -, fA, fC, hO, hI, X', step⟩ := X.multianewarray2F hx.1 hx.2.2.2.1 (ty := .int) (hx.2.2.2.2.1 _ hcl) hnt (hx.2.2.2.2.1 _ har) (g := F0 x.2.1.1 p2 ls (.int v :: .int n :: st)) rfl (by rw [hx.2.1]; exact hd) rfl g1 g2 (by omega) (by
      have : componentBytes .int ≤ 8 := by decide
      have := Nat.mul_le_mul g4 this
      omega) (by omega) rfl rfl (by have := hm1.2.2.1; omega) (by have := hm1.2.2.2; omega)
    generalize hF : Jvm.Free.Multi.fill (T.setVm vm₁) cA comp n.toNatClampNeg v.toNatClampNeg (defaultValue .int) n.toNatClampNeg = F at X' step
    have hTh : (T.setVm vm₁).heap = H1 := hT
    obtain ⟨f1, f2, -, -⟩ := Jvm.Free.Multi.fill_facts (T.setVm vm₁) cA comp n.toNatClampNeg v.toNatClampNeg (defaultValue .int) n.toNatClampNeg
    rw [hF, hTh] at f1 f2
    have hold : ∀ q : Nat, q < H1.size → F.heap[q]? = H1[q]? := fun q hq => by
      have := Jvm.Free.Multi.fill_old (T.setVm vm₁) cA comp n.toNatClampNeg v.toNatClampNeg (defaultValue .int) (a := q) (by rw [hTh]; exact hq) n.toNatClampNeg
      rw [hF, hTh] at this
      exact this
    have hrow : ∀ j : Nat, j < n.toNatClampNeg → F.heap[H1.size + 1 + j]? = some (arrV comp v.toNatClampNeg (fun _ => .int 0)) := fun j hj => by
      have := Jvm.Free.Multi.fill_inner (T.setVm vm₁) cA comp n.toNatClampNeg v.toNatClampNeg (defaultValue .int) n.toNatClampNeg j hj
      rw [hF, hTh] at this
      rw [this]
      show some ({ cls := comp, slots := Array.replicate v.toNatClampNeg (.int 0), vm := .none } : Cell) = _
      rw [← arrV_new]
    rw [q_outer] at f2
    have hArO : ArrOfT x.1.2.2.2.2 cA (.array .int) := fun N9 z9 => by
      obtain ⟨-, k9, hk9, cm9, hkk9⟩ := (hO 0 0 0).1
      exact ⟨(fun q hq => by cases hq), k9, hk9, cm9, hkk9⟩
    have hArI : ArrOfT x.1.2.2.2.2 comp .int := fun N9 z9 => by
      obtain ⟨-, k9, hk9, cm9, hkk9⟩ := (hI 0 (.int 0)).1
      exact ⟨(fun q hq => by cases hq), k9, hk9, cm9, hkk9⟩
    have hb : x.2.2.2.1 ≤ H1.size := Nat.le_trans hx.2.2.2.2.2.2.2.2.1 hm1.2.1.1
    have hnx : H1.size = μ1.1.2.1 := hm1.1.2
    have hm2 : q_MO x (q_al2 μ1 n.toNatClampNeg v.toNatClampNeg) F.heap l1 (a1 + 1 + n.toNatClampNeg) (b1 + n.toNatClampNeg + n.toNatClampNeg * v.toNatClampNeg) := by
      obtain ⟨hR, hS, h8, h9⟩ := hm1
      refine ⟨⟨fun a t' ha => ?_, ?_⟩, ⟨by have := hS.1; omega, fun q q1 q2 => (hold q (Nat.lt_of_lt_of_le q1 hS.1)).trans (hS.2.1 q q1 q2), hS.2.2⟩, ?_, ?_⟩
      · have ha : (if a = μ1.1.2.1 then some (.inr (.inl (.array .int, n.toNatClampNeg))) else if μ1.1.2.1 < a ∧ a ≤ μ1.1.2.1 + n.toNatClampNeg then some (.inr (.inl (.int, v.toNatClampNeg))) else μ1.1.1 a) = some t' := ha
        show q_cell _ _ _ _ a t' (if a = μ1.1.2.1 then (fun j => if j < n.toNatClampNeg then .ref (μ1.1.2.1 + 1 + j) else .null) else if μ1.1.2.1 < a ∧ a ≤ μ1.1.2.1 + n.toNatClampNeg then (fun _ => .int 0) else μ1.2 a)
        by_cases e : a = μ1.1.2.1
        · rw [if_pos e] at ha ⊢
          cases ha
          refine ⟨by omega, cA, hArO, fA, ?_⟩
          rw [e, ← hnx]
          exact f2
        · rw [if_neg e] at ha ⊢
          by_cases e2 : μ1.1.2.1 < a ∧ a ≤ μ1.1.2.1 + n.toNatClampNeg
          · rw [if_pos e2] at ha ⊢
            cases ha
            refine ⟨by omega, comp, hArI, fC, ?_⟩
            have := hrow (a - H1.size - 1) (by omega)
            rw [show H1.size + 1 + (a - H1.size - 1) = a by omega] at this
            exact this
          · rw [if_neg e2] at ha ⊢
            have h5 := hR.1 a t' ha
            refine q_cell_kept h5 (hold a ?_)
            rcases t' with ci | ⟨ty, n'⟩ | n'
            · obtain ⟨-, r, -, cell, h6, -⟩ := h5
              exact (Array.getElem?_eq_some_iff.mp h6).1
            · obtain ⟨-, cA, -, -, h6⟩ := h5
              exact (Array.getElem?_eq_some_iff.mp h6).1
            · obtain ⟨scr, h6, -⟩ := h5
              exact (Array.getElem?_eq_some_iff.mp h6).1
      · show F.heap.size = μ1.1.2.1 + 1 + n.toNatClampNeg
        rw [f1, hnx]
      · show a1 + 1 + n.toNatClampNeg + (μ1.1.2.2.1 - (1 + n.toNatClampNeg)) = _
        omega
      · show b1 + n.toNatClampNeg + n.toNatClampNeg * v.toNatClampNeg + (μ1.1.2.2.2 - (n.toNatClampNeg + n.toNatClampNeg * v.toNatClampNeg)) = _
        omega
    obtain ⟨t, c1, d1⟩ := (kk _ _ F.heap l1 _ _ hm2 hk).1 F rfl X'
    refine ⟨t, step t ?_, d1⟩
    have e : T.heap.size = μ1.1.2.1 := by rw [hT]; exact hnx
    rw [e]
    exact c1
  exact ⟨h3, h3⟩
/-- a row's place takes an object -/
def q_sar (C : String) (ci : Nat) (r : q_E Nat) (i : q_E Int32) (e : q_E Nat) : q_S := fun env μ Kn _ => r env μ fun a μ => i env μ fun j μ => e env μ fun v μ => ∃ n, μ.1.1 a = some (.inr (.inl (.object C, n))) ∧ vp_in j n ∧ μ.1.1 v = some (.inl ci) ∧ Kn env (q_set μ a j.toNatClampNeg (.ref v))
theorem q_stR {y : q_Y} {p0 p1 p2 p3 ci : Nat} {C : String} {fr e : q_E Nat} {fi : q_E Int32} (hr : q_SR y 0 p0 p1 p1 fr) (hi : q_SI y 1 p1 p2 p2 fi) (he : q_SR y 2 p2 p3 p3 e) (hd : decode y.1 p3 = .ok (.aastore, 1)) (hC : (vwCl[ci]?).map (fun r => r.1) = some C) : q_SS y p0 (p3 + 1) (p3 + 1) (q_sar C ci fr fi e) := by
  intro x hx env μ Kn ls H locs a b heo hm hf kk
  refine hr x hx env μ _ ls [] H locs a b heo (Nat.le_refl _) hm hf fun r μ1 H1 l1 a1 b1 hm1 h1 => ?_
  have g1 := hi x hx env μ1 _ ls [.ref r] H1 l1 a1 b1 heo (q_w_ref (Nat.le_refl _)) hm1 h1 fun j μ2 H2 l2 a2 b2 hm2 h2 => ?_
  · exact ⟨g1, g1⟩
  have g2 := he x hx env μ2 _ ls [.int j, .ref r] H2 l2 a2 b2 heo (q_w_int (q_w_ref (Nat.le_refl _))) hm2 h2 fun v μ3 H3 l3 a3 b3 hm3 h3 => ?_
  · exact ⟨g2, g2⟩
  obtain ⟨n, ht, hin, hv, hk⟩ := h3
  have hlt : j.toNatClampNeg < n := Nat.not_le.mp fun q => hin (Or.inr q)
  have h0 : ¬ j < 0 := fun q => hin (Or.inl q)
  obtain ⟨hba, cA, hA1, hA2, hA3⟩ := q_arr hm3.1 ht
  obtain ⟨-, rc, hrc, cellV, w1, w2, w3, -⟩ := hm3.1.1 v _ hv
  rw [hrc] at hC
  have hrC : rc.1 = C := Option.some.inj hC
  have hcls := (hx.2.2.2.2.2.2.2.1.1 ci rc hrc).2
  have hA2' := hA2
  obtain ⟨kA, comp, k1, k2, k3, -⟩ := hA2
  rw [← hrC] at k3
  have hcomp : comp = x.2.2.1.1 ci := Option.some.inj (k3.symm.trans hcls.1)
  subst hcomp
  obtain ⟨kC, hkC, -⟩ := hcls.2
  have g3 : q_W x H3 l3 a3 b3 (F0 x.2.1.1 p3 ls [.ref v, .int j, .ref r]) := by
    refine W.aast hx.1 hx.2.1 hA3 (fun q h => by cases h) (fun h => by cases h) k1 k2 rfl hkC ⟨h0, by rw [arrV_size]; exact hlt⟩ w1 (fun q h => by rw [w3] at h; cases h) (by rw [w2]; exact hkC) (by rw [w2]; exact va_assign hcls) rfl rfl hd fun H4 e z oq => ?_
    refine (kk env _ ls H4 _ a3 b3 heo ⟨q_R_put hm3.1 ht z oq ⟨hba, cA, hA1, hA2', ?_⟩, hm3.2.1.put z oq hba, hm3.2.2⟩ hk).1
    rw [e, arrV_store]
  exact ⟨g3, g3⟩
/-- a constructor out of its body, with room for what it makes -/
theorem q_ctor {d maxL mc ms : Nat} {nm : MethodName} {bytes : ByteArray} {ret : Option FieldType} {f : q_S} {n : Nat} (hm : q_mt nm bytes maxL ret n) (hy : plainName nm.cls = true)
    (hb : q_SS (bytes, maxL, nm, d, ret) 0 0 0 f) : q_Con d nm bytes maxL ret mc ms (q_mk maxL f) := q_method hm hy hb
end
