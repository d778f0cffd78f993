section
/-- a method's whole doing out of its body -/
def q_mk (maxL : Nat) (f : q_S) : q_F := fun vs μ K => (∀ v ∈ vs, v.category = 1) ∧ vs.length ≤ maxL ∧ f vs μ (fun _ _ => False) K
theorem q_meth {d maxL : Nat} {nm : MethodName} {bytes : ByteArray} {ret : Option FieldType} {f : q_S} {n : Nat} (hm : q_mt nm bytes maxL ret n) (hy : plainName nm.cls = true)
    (hb : q_SS (bytes, maxL, nm, d, ret) 0 0 0 f) : q_Con d nm bytes maxL ret 0 0 (q_mk maxL f) := q_method hm hy hb
theorem q_never {d maxL : Nat} {nm : MethodName} {bytes : ByteArray} {ret : Option FieldType} {mc ms : Nat} : q_Con d nm bytes maxL ret mc ms (fun _ _ _ => False) := fun _ _ _ _ _ _ _ _ h => absurd h id
-- System.arraycopy between rows of ints
def q_cpm (M : Nat → Nat → Value) (a sp b dp n : Nat) : Nat → Nat → Value := fun c k => if c = b ∧ dp ≤ k ∧ k < dp + n then M a (sp + (k - dp)) else M c k
def q_cpy (e : q_E (List Value)) : q_E Unit := fun env μ K => e env μ fun vs μ => ∃ (a b : Nat) (sp dp n : Int32) (n0 n1 : Nat), vs = [.ref a, .int sp, .ref b, .int dp, .int n] ∧ μ.1.1 a = some (.inr (.inl (.int, n0))) ∧ μ.1.1 b = some (.inr (.inl (.int, n1))) ∧
  ¬ sp < 0 ∧ ¬ dp < 0 ∧ ¬ n < 0 ∧ sp.toNatClampNeg + n.toNatClampNeg ≤ n0 ∧ dp.toNatClampNeg + n.toNatClampNeg ≤ n1 ∧ (∀ i, i < n.toNatClampNeg → ∃ z, μ.2 a (sp.toNatClampNeg + i) = .int z) ∧
  K () (μ.1, q_cpm μ.2 a sp.toNatClampNeg b dp.toNatClampNeg n.toNatClampNeg)
theorem q_acfacts : (Cond.native arraycopyName ∈ q_tb) ∧ (Cond.static arraycopyName ∈ q_tb) ∧ (Cond.initialized "java/lang/System" ∈ q_tb) := by
  have h : ∀ w ∈ ([Cond.native arraycopyName, Cond.static arraycopyName, Cond.initialized "java/lang/System"] : List Cond), w ∈ q_tb := by
    intro w hw
    have h1 : ([Cond.native arraycopyName, Cond.static arraycopyName, Cond.initialized "java/lang/System"] : List Cond).all (fun w => decide (w ∈ lw_tbl) && goodWord w) = true := by decide +kernel
    have h2 := List.all_eq_true.mp h1 w hw
    simp only [Bool.and_eq_true, decide_eq_true_eq] at h2
    exact List.mem_filter.mpr h2
  exact ⟨h _ (by simp), h _ (by simp), h _ (by simp)⟩
theorem q_nnn {z : Int32} (hz : ¬ z < 0) : z.toInt = (z.toNatClampNeg : Int) := by
  have hz0 : (0 : Int) ≤ z.toInt := by
    have := Int32.not_lt.mp hz
    simpa using Int32.le_iff_toInt_le.mp this
  show z.toInt = ((z.toInt.toNat : Nat) : Int)
  omega
theorem q_copy {y : q_Y} {k p0 p1 index : Nat} {e : q_E (List Value)} (he : q_SA y k p0 p1 p1 e) (hd : decode y.1 p1 = .ok (.invokestatic index, 3)) (hl : Cond.methodLink y.2.2.1.cls index arraycopyName ∈ q_tb) (hk : k ≤ 8) (hdep : 1 ≤ y.2.2.2.1) : q_SU y k p0 (p1 + 3) (p1 + 3) (q_cpy e) := by
  intro x hx env μ K ls st H locs i j heo hw hm hf kk
  refine he x hx env μ _ ls st H locs i j heo hw hm hf fun vs μ1 H1 l1 a1 b1 hm1 h1 => ?_
  obtain ⟨a, b, sp, dp, n, n0, n1, rfl, ha, hb, s1, s2, s3, s4, s5, hfit, hk1⟩ := h1
  have h3 : q_W x H1 l1 a1 b1 (F0 x.2.1.1 p1 ls (.int n :: .int dp :: .ref b :: .int sp :: .ref a :: st)) := by
    intro T hT X
    obtain ⟨hba, cA, hA1, hA2, hA3⟩ := q_arr hm1.1 ha
    obtain ⟨hbb, cB, hB1, hB2, hB3⟩ := q_arr hm1.1 hb
    obtain ⟨-, k0, hk0, cm0, hkk0⟩ := hA1 n0 (μ1.2 a)
    obtain ⟨-, k1, hk1', cm1, hkk1⟩ := hB1 n1 (μ1.2 b)
    have hts := hx.2.2.2.2.1
    have hfr : y.2.2.2.1 ≤ x.1.2.2.2.1.frames := hx.2.2.2.2.2.2.2.2.2.1
    have hlo : 64 * y.2.2.2.1 ≤ x.1.2.2.2.1.locals := hx.2.2.2.2.2.2.2.2.2.2.1
    obtain ⟨vm', X', step⟩ := X.arraycopy hx.1 hx.2.2.2.1 (hts _ hl) (hts _ q_acfacts.1) (hts _ q_acfacts.2.1) (hts _ q_acfacts.2.2) (src := a) (dst := b) (cs := arrV cA n0 (μ1.2 a)) (cd := arrV cB n1 (μ1.2 b)) (srcPos := sp) (destPos := dp) (n := n) (by rw [hT]; exact hA3) (by rw [hT]; exact hB3)
      (fun _ h => by cases h) (fun _ h => by cases h) (fun h => by cases h) (fun h => by cases h) hk0 hk1' hkk0 hkk1 (by simp [refKind]) s1 s2 s3
      (by rw [q_nnn s1, q_nnn s3]; show ¬ _ > ((arrV cA n0 (μ1.2 a)).slots.size : Int); rw [arrV_size]; omega)
      (by rw [q_nnn s2, q_nnn s3]; show ¬ _ > ((arrV cB n1 (μ1.2 b)).slots.size : Int); rw [arrV_size]; omega)
      (fun vm₁ _ i hi => by
        obtain ⟨z, hz⟩ := hfit i hi
        have e : (arrV cA n0 (μ1.2 a)).slots.getD (sp.toNatClampNeg + i) .null = .int z := by
          rw [Array.getD_eq_getD_getElem?, arrV_read _ _ (by omega)]
          exact hz
        refine ⟨?_, ?_⟩
        · rw [e]; rfl
        · rw [e]; exact trivial)
      (g := F0 x.2.1.1 p1 ls (.int n :: .int dp :: .ref b :: .int sp :: .ref a :: st)) rfl (by rw [hx.2.2.1]; exact heo.1) (rest := st) rfl (by rw [hx.2.1]; exact hd) (by omega) (by
        show 2 * 0 + q_w st + (nativeFrameWords "java/lang/System" "arraycopy" 5 + 11) ≤ _
        have : nativeFrameWords "java/lang/System" "arraycopy" 5 + 11 ≤ 50 := by decide +kernel
        omega)
    have e1 : copied (arrV cA n0 (μ1.2 a)) (arrV cB n1 (μ1.2 b)) sp dp n = arrV cB n1 (va_cpy (μ1.2 a) (μ1.2 b) sp.toNatClampNeg dp.toNatClampNeg n.toNatClampNeg) := va_copied (fun z => z) cA cB (μ1.2 a) (μ1.2 b) s4
    rw [e1] at X' step
    have hl2 : b < H1.size := (Array.getElem?_eq_some_iff.mp hB3).1
    have hheap : ((T.setVm vm').setCell b (arrV cB n1 (va_cpy (μ1.2 a) (μ1.2 b) sp.toNatClampNeg dp.toNatClampNeg n.toNatClampNeg))).heap = H1.setIfInBounds b (arrV cB n1 (va_cpy (μ1.2 a) (μ1.2 b) sp.toNatClampNeg dp.toNatClampNeg n.toNatClampNeg)) := by rw [← hT]; rfl
    have oq : ∀ q : Nat, q ≠ b → (H1.setIfInBounds b (arrV cB n1 (va_cpy (μ1.2 a) (μ1.2 b) sp.toNatClampNeg dp.toNatClampNeg n.toNatClampNeg)))[q]? = H1[q]? := fun q hq => by simp [Array.getElem?_setIfInBounds, Ne.symm hq]
    have hmo : ∀ L : List Loc, (∀ q ∈ L, q.base = b) → q_MO x (μ1.1, q_cpm μ1.2 a sp.toNatClampNeg b dp.toNatClampNeg n.toNatClampNeg) (H1.setIfInBounds b (arrV cB n1 (va_cpy (μ1.2 a) (μ1.2 b) sp.toNatClampNeg dp.toNatClampNeg n.toNatClampNeg))) (l1 ++ L) a1 b1 := by
      intro L hL
      refine ⟨⟨fun a' t' h' => ?_, by simp; exact hm1.1.2⟩, ⟨by simp; exact hm1.2.1.1, fun q g1 g2 => ?_, fun q hq => ?_⟩, hm1.2.2⟩
      · by_cases e : a' = b
        · subst e
          have h2 : μ1.1.1 a' = some t' := h'
          rw [hb] at h2
          cases h2
          refine ⟨hbb, cB, hB1, hB2, ?_⟩
          rw [show (H1.setIfInBounds a' (arrV cB n1 (va_cpy (μ1.2 a) (μ1.2 a') sp.toNatClampNeg dp.toNatClampNeg n.toNatClampNeg)))[a']? = some (arrV cB n1 (va_cpy (μ1.2 a) (μ1.2 a') sp.toNatClampNeg dp.toNatClampNeg n.toNatClampNeg)) by simp [Array.getElem?_setIfInBounds, hl2]]
          refine congrArg (fun f => some (arrV cB n1 f)) (funext fun j => ?_)
          simp [va_cpy, q_cpm]
        · refine q_cell_kept ?_ (oq a' e)
          have e2 : (q_cpm μ1.2 a sp.toNatClampNeg b dp.toNatClampNeg n.toNatClampNeg) a' = μ1.2 a' := by
            funext j
            simp [q_cpm, e]
          show q_cell _ _ _ _ _ _ ((q_cpm μ1.2 a sp.toNatClampNeg b dp.toNatClampNeg n.toNatClampNeg) a')
          rw [e2]
          exact hm1.1.1 a' t' h'
      · rw [oq q (fun e => g2 (by rw [e]; exact hbb))]
        exact hm1.2.1.2.1 q g1 g2
      · rcases List.mem_append.mp hq with h | h
        · exact hm1.2.1.2.2 q h
        · rw [hL q h]
          exact hbb
    obtain ⟨t, c1, d1⟩ := (kk () _ _ _ a1 b1 (hmo _ (fun q hq => by
      obtain ⟨z, -, hz⟩ := List.mem_map.mp hq
      rw [← hz])) hk1).1 _ hheap X'
    exact ⟨t, step t c1, d1⟩
  exact ⟨h3, h3⟩
end
