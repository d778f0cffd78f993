section
/-! A framework of one's own over the kit's rows: what a piece of bytecode does is told as a predicate transformer over a list of locals and an abstract memory; each rule says once that the bytecode keeps to it. -/
/-- the tables' words that ride from caller to callee as they stand -/
def q_tb : List Cond := lw_tbl.filter goodWord
def q_isn : Cond → Bool
  | .methodLinkNest .. => true
  | .arrayOver .. => true
  | _ => false
/-- those that ride by a law of their own -/
def q_nt : List Cond := lw_tbl.filter q_isn
theorem q_mem {w : Cond} (k : Nat) (h : lw_tbl[k]? = some w) (hg : goodWord w = true) : w ∈ q_tb := List.mem_filter.mpr ⟨List.mem_of_getElem? h, hg⟩
theorem q_memN {w : Cond} (k : Nat) (h : lw_tbl[k]? = some w) (hg : q_isn w = true) : w ∈ q_nt := List.mem_filter.mpr ⟨List.mem_of_getElem? h, hg⟩
theorem q_nt_warm {s U : State} (hW : s.WarmedH U.vm) (h : ∀ w ∈ q_nt, va_Nw w s) : ∀ w ∈ q_nt, va_Nw w U := by
  intro w hw
  have h1 := h w hw
  have h2 := (List.mem_filter.mp hw).2
  cases w with
  | methodLinkNest a i x hh => exact va_Nw.warmM hW h1
  | arrayOver ty => exact ((Cond.arrayOver_setVmC (args := #[]) hW.alike ty).trans h1)
  | _ => cases h2
theorem q_subs {ws : List Cond} (h : ∀ w ∈ ws, w ∈ lw_tbl) (hg : ws.all goodWord = true) : ∀ w ∈ ws, w ∈ q_tb := fun w hw => List.mem_filter.mpr ⟨h w hw, List.all_eq_true.mp hg w hw⟩
/-- what a cell is: an object of class no. ci of vwCl, or an array of so many of a type, or an old array of so many ints that nobody writes -/
abbrev q_T : Type := Nat ⊕ (FieldType × Nat) ⊕ Nat
/-- memory: what the cells are, the next address, the room left (cells, slots); and what they hold -/
abbrev q_M : Type := ((Nat → Option q_T) × Nat × Nat × Nat) × (Nat → Nat → Value)
def q_upd (M : Nat → Nat → Value) (a k : Nat) (v : Value) : Nat → Nat → Value := fun a' k' => if a' = a ∧ k' = k then v else M a' k'
def q_set (μ : q_M) (a k : Nat) (v : Value) : q_M := (μ.1, q_upd μ.2 a k v)
def q_bud (i j : Nat) (μ : q_M) : q_M := ((μ.1.1, μ.1.2.1, i, j), μ.2)
def q_cell (D : va_G) (base : Nat) (s : State) (H : Heap) (a : Nat) (t : q_T) (f : Nat → Value) : Prop := match t with
  | .inl ci => base ≤ a ∧ ∃ r : vw_C, vwCl[ci]? = some r ∧ t_OB a (D.1 ci) r.2.2 (D.2 ci) H f
  | .inr (.inl (ty, n)) => base ≤ a ∧ ∃ cA : ClassId, ArrOfT s cA ty ∧ va_RA s cA ty ∧ H[a]? = some (arrV cA n f)
  | .inr (.inr n) => ∃ scr : Cell, H[a]? = some scr ∧ s.isArrayOf scr .int ∧ scr.vm ≠ .unknown ∧ scr.slots.size = n ∧ ∀ j : Nat, j < n → scr.slots[j]? = some (f j)
def q_R (D : va_G) (base : Nat) (s : State) (H : Heap) (μ : q_M) : Prop := (∀ (a : Nat) (t : q_T), μ.1.1 a = some t → q_cell D base s H a t (μ.2 a)) ∧ H.size = μ.1.2.1
/-- the static side of a method: its bytes, its locals, its name, its depth, what it answers -/
abbrev q_Y : Type := ByteArray × Nat × MethodName × Nat × Option FieldType
/-- the machine around a method's walk -/
abbrev q_X : Type := (Program × Launch × Env × Room × State) × (MethodId × Array Value × List Frame × Method × Code) × va_G × Nat × (Option Value → q_M → Prop)
def q_Qc (D : va_G) (base : Nat) (K : Option Value → q_M → Prop) : Array Value → State → Outcome → State → Prop := fun _ st o t =>
  ∃ (r : Option Value) (μ : q_M), o = .returned r ∧ K r μ ∧ va_K D vwCl [] t ∧ q_R D base t t.heap μ ∧ st.heap.size ≤ t.heap.size ∧ ∀ q : Nat, q < st.heap.size → ¬ base ≤ q → t.heap[q]? = st.heap[q]?
abbrev q_W (x : q_X) (H : Heap) (locs : List Loc) (a b : Nat) (g : JFrame) : Prop :=
  W x.1.1 x.1.2.1 x.1.2.2.1 x.1.2.2.2.1 x.1.2.2.2.2 x.2.1.1 x.2.1.2.1 x.2.1.2.2.1 x.2.1.2.2.2.1 x.2.1.2.2.2.2 H locs a b
    (MQ x.2.1.2.2.1 (q_Qc x.2.2.1 x.2.2.2.1 x.2.2.2.2) x.2.1.2.1 x.1.2.2.2.2 x.1.2.2.2.1.cells x.1.2.2.2.1.slots (fun q => x.2.2.2.1 ≤ q)) g
def q_CX (y : q_Y) (x : q_X) : Prop :=
  x.1.1.tables.exec = Jvm.exec ∧ x.2.1.2.2.2.2.code = y.1 ∧ x.2.1.2.2.2.2.maxLocals = y.2.1 ∧ x.1.2.2.2.2.vm.findClass y.2.2.1.cls = some x.2.1.1.cls ∧
  (∀ w ∈ q_tb, w.before x.2.1.2.1 x.1.2.2.2.2 = true) ∧ x.2.1.2.2.2.1.locks = false ∧ x.2.1.2.2.2.1.sig.returnType = y.2.2.2.2 ∧ va_K x.2.2.1 vwCl [] x.1.2.2.2.2 ∧
  x.2.2.2.1 ≤ x.1.2.2.2.2.heap.size ∧ y.2.2.2.1 ≤ x.1.2.2.2.1.frames ∧ 64 * y.2.2.2.1 ≤ x.1.2.2.2.1.locals ∧ (∀ w ∈ q_nt, va_Nw w x.1.2.2.2.2) ∧ x.2.1.2.2.2.1.name = y.2.2.1.name
def q_MO (x : q_X) (μ : q_M) (H : Heap) (locs : List Loc) (a b : Nat) : Prop :=
  q_R x.2.2.1 x.2.2.2.1 x.1.2.2.2.2 H μ ∧ va_S (fun q => x.2.2.2.1 ≤ q) x.1.2.2.2.2.heap H locs ∧ a + μ.1.2.2.1 = x.1.2.2.2.1.cells ∧ b + μ.1.2.2.2 = x.1.2.2.2.1.slots
/-- the locals: the listed values from 0 on, all of one word -/
def q_EO (y : q_Y) (ls : Array Slot) (env : List Value) : Prop := ls.size = y.2.1 ∧ lv_wf ls ∧ ∀ (i : Nat) (v : Value), env[i]? = some v → v.category = 1 ∧ ls[i]? = some (.val v)
def q_w (st : List Value) : Nat := (st.map fun v => v.category).sum
abbrev q_E (V : Type) : Type := List Value → q_M → (V → q_M → Prop) → Prop
abbrev q_C : Type := List Value → q_M → (q_M → Prop) → (q_M → Prop) → Prop
abbrev q_S : Type := List Value → q_M → (List Value → q_M → Prop) → (Option Value → q_M → Prop) → Prop
abbrev q_F : Type := List Value → q_M → (Option Value → q_M → Prop) → Prop
/-- from pc the machine comes to e1 or e2 with the values 'inj v' laid on the stack -/
def q_SV {V : Type} (inj : V → List Value) (y : q_Y) (k pc e1 e2 : Nat) (f : q_E V) : Prop :=
  ∀ (x : q_X), q_CX y x → ∀ (env : List Value) (μ : q_M) (K : V → q_M → Prop) (ls : Array Slot) (st : List Value) (H : Heap) (locs : List Loc) (a b : Nat), q_EO y ls env → q_w st ≤ k → q_MO x μ H locs a b → f env μ K →
    (∀ (v : V) (μ' : q_M) (H' : Heap) (locs' : List Loc) (a' b' : Nat), q_MO x μ' H' locs' a' b' → K v μ' → q_W x H' locs' a' b' (F0 x.2.1.1 e1 ls (inj v ++ st)) ∧ q_W x H' locs' a' b' (F0 x.2.1.1 e2 ls (inj v ++ st))) →
    q_W x H locs a b (F0 x.2.1.1 pc ls st)
def q_ji (v : Int32) : List Value := [.int v]
def q_jr (v : Nat) : List Value := [.ref v]
def q_jl (v : Int64) : List Value := [.long v]
def q_jv (_ : Unit) : List Value := []
def q_ja (vs : List Value) : List Value := vs.reverse
abbrev q_SI := q_SV q_ji
abbrev q_SR := q_SV q_jr
abbrev q_SL := q_SV q_jl
abbrev q_SU := q_SV q_jv
abbrev q_SA := q_SV q_ja
def q_SC (y : q_Y) (k pc t1 f1 : Nat) (c : q_C) : Prop :=
  ∀ (x : q_X), q_CX y x → ∀ (env : List Value) (μ : q_M) (KT KF : q_M → Prop) (ls : Array Slot) (st : List Value) (H : Heap) (locs : List Loc) (a b : Nat), q_EO y ls env → q_w st ≤ k → q_MO x μ H locs a b → c env μ KT KF →
    (∀ (μ' : q_M) (H' : Heap) (locs' : List Loc) (a' b' : Nat), q_MO x μ' H' locs' a' b' → KT μ' → q_W x H' locs' a' b' (F0 x.2.1.1 t1 ls st)) →
    (∀ (μ' : q_M) (H' : Heap) (locs' : List Loc) (a' b' : Nat), q_MO x μ' H' locs' a' b' → KF μ' → q_W x H' locs' a' b' (F0 x.2.1.1 f1 ls st)) →
    q_W x H locs a b (F0 x.2.1.1 pc ls st)
def q_SS (y : q_Y) (pc e1 e2 : Nat) (f : q_S) : Prop :=
  ∀ (x : q_X), q_CX y x → ∀ (env : List Value) (μ : q_M) (Kn : List Value → q_M → Prop) (ls : Array Slot) (H : Heap) (locs : List Loc) (a b : Nat), q_EO y ls env → q_MO x μ H locs a b → f env μ Kn x.2.2.2.2 →
    (∀ (env' : List Value) (μ' : q_M) (ls' : Array Slot) (H' : Heap) (locs' : List Loc) (a' b' : Nat), q_EO y ls' env' → q_MO x μ' H' locs' a' b' → Kn env' μ' → q_W x H' locs' a' b' (F0 x.2.1.1 e1 ls' []) ∧ q_W x H' locs' a' b' (F0 x.2.1.1 e2 ls' [])) →
    q_W x H locs a b (F0 x.2.1.1 pc ls [])
theorem q_w_cons (v : Value) (st : List Value) : q_w (v :: st) = v.category + q_w st := by simp [q_w]
-- constants
def q_k (v : Int32) : q_E Int32 := fun _ μ K => K v μ
theorem q_iconst {y : q_Y} {k pc : Nat} {n : Int} {v : Int32} (hd : decode y.1 pc = .ok (.iconst n, 1)) (hv : Int32.ofInt n = v) : q_SI y k pc (pc + 1) (pc + 1) (q_k v) := by
  intro x hx env μ K ls st H locs a b he hw hm hf kk
  exact lv_iconst hx.1 hx.2.1 hd hv (kk v μ H locs a b hm hf).1
theorem q_bipush {y : q_Y} {k pc : Nat} {n : Int} {v : Int32} (hd : decode y.1 pc = .ok (.bipush n, 2)) (hv : (Int8.ofInt n).toInt32 = v) : q_SI y k pc (pc + 2) (pc + 2) (q_k v) := by
  intro x hx env μ K ls st H locs a b he hw hm hf kk
  exact lv_bipush hx.1 hx.2.1 hd hv (kk v μ H locs a b hm hf).1
theorem q_sipush {y : q_Y} {k pc : Nat} {n : Int} {v : Int32} (hd : decode y.1 pc = .ok (.sipush n, 3)) (hv : (Int16.ofInt n).toInt32 = v) : q_SI y k pc (pc + 3) (pc + 3) (q_k v) := by
  intro x hx env μ K ls st H locs a b he hw hm hf kk
  exact lv_sipush hx.1 hx.2.1 hd hv (kk v μ H locs a b hm hf).1
theorem q_ldc {y : q_Y} {k pc index : Nat} {v : Int32} (hd : decode y.1 pc = .ok (.ldc index, 2)) (hm : Jvm.Cond.constant y.2.2.1.cls index v ∈ q_tb) : q_SI y k pc (pc + 2) (pc + 2) (q_k v) := by
  intro x hx env μ K ls st H locs a b he hw hmo hf kk
  exact lv_ldc hx.1 hx.2.1 hx.2.2.2.1 (hx.2.2.2.2.1 _ hm) hd (kk v μ H locs a b hmo hf).1
-- locals
def q_l (i : Nat) : q_E Int32 := fun env μ K => ∃ v, env[i]? = some (.int v) ∧ K v μ
theorem q_iload_n {y : q_Y} {k pc j : Nat} {i : Fin 4} (hd : decode y.1 pc = .ok (.iload_n i, 1)) (hj : (i : Nat) = j) : q_SI y k pc (pc + 1) (pc + 1) (q_l j) := by
  subst hj
  intro x hx env μ K ls st H locs a b he hw hm hf kk
  obtain ⟨v, hv, hk⟩ := hf
  exact lv_iload_n hx.1 hx.2.1 hd rfl (he.2.2 _ _ hv).2 (kk v μ H locs a b hm hk).1
theorem q_iload {y : q_Y} {k pc i : Nat} (hd : decode y.1 pc = .ok (.iload i, 2)) : q_SI y k pc (pc + 2) (pc + 2) (q_l i) := by
  intro x hx env μ K ls st H locs a b he hw hm hf kk
  obtain ⟨v, hv, hk⟩ := hf
  exact lv_iload hx.1 hx.2.1 hd (he.2.2 _ _ hv).2 (kk v μ H locs a b hm hk).1
def q_r (i : Nat) : q_E Nat := fun env μ K => ∃ v, env[i]? = some (.ref v) ∧ K v μ
theorem q_aload_n {y : q_Y} {k pc j : Nat} {i : Fin 4} (hd : decode y.1 pc = .ok (.aload_n i, 1)) (hj : (i : Nat) = j) : q_SR y k pc (pc + 1) (pc + 1) (q_r j) := by
  subst hj
  intro x hx env μ K ls st H locs a b he hw hm hf kk
  obtain ⟨v, hv, hk⟩ := hf
  exact lv_aload_n hx.1 hx.2.1 hd rfl (he.2.2 _ _ hv).2 (kk v μ H locs a b hm hk).1
theorem q_aload {y : q_Y} {k pc i : Nat} (hd : decode y.1 pc = .ok (.aload i, 2)) : q_SR y k pc (pc + 2) (pc + 2) (q_r i) := by
  intro x hx env μ K ls st H locs a b he hw hm hf kk
  obtain ⟨v, hv, hk⟩ := hf
  exact lv_aload hx.1 hx.2.1 hd (he.2.2 _ _ hv).2 (kk v μ H locs a b hm hk).1
-- two ints to one
def q_2 (g : Int32 → Int32 → Int32) (a b : q_E Int32) : q_E Int32 := fun env μ K => a env μ fun u μ => b env μ fun v μ => K (g u v) μ
theorem q_bin {y : q_Y} {k p0 p1 p2 p3 : Nat} {fa fb : q_E Int32} {g : Int32 → Int32 → Int32} (ha : q_SI y k p0 p1 p1 fa) (hb : q_SI y (k + 1) p1 p2 p2 fb)
    (ho : ∀ (x : q_X), q_CX y x → ∀ (u v : Int32) (ls : Array Slot) (st : List Value) (H : Heap) (locs : List Loc) (a b : Nat), q_W x H locs a b (F0 x.2.1.1 p3 ls (.int (g u v) :: st)) → q_W x H locs a b (F0 x.2.1.1 p2 ls (.int v :: .int u :: st))) :
    q_SI y k p0 p3 p3 (q_2 g fa fb) := by
  intro x hx env μ K ls st H locs a b he hw hm hf kk
  refine ha x hx env μ _ ls st H locs a b he hw hm hf fun u μ1 H1 l1 a1 b1 hm1 h1 => ?_
  have h2 := hb x hx env μ1 _ ls (.int u :: st) H1 l1 a1 b1 he (by rw [q_w_cons]; simp [Value.category]; omega) hm1 h1 fun v μ2 H2 l2 a2 b2 hm2 h2 => ?_
  · exact ⟨h2, h2⟩
  · have h3 := ho x hx u v ls st H2 l2 a2 b2 (kk _ μ2 H2 l2 a2 b2 hm2 h2).1
    exact ⟨h3, h3⟩
end
