section
theorem q_lt {a b : Nat} (h : Nat.ble (a + 1) b = true) : a < b := Nat.le_of_ble_eq_true h
theorem q_dle {a D n : Nat} (h : a + 1 ≤ D) : a + 1 ≤ D + (n + 1) := by omega
/-- in(v, least, most) of the reference -/
def fX12_in : q_F := fun vs μ K => ∃ a b c : Int64, vs = [.long a, .long b, .long c] ∧ K (some (.int (if b ≤ a ∧ a ≤ c then 1 else 0))) μ
theorem q_cmp_lt {x y : Int64} : (lg_cmp x y < 0) ↔ x < y := by
  unfold lg_cmp
  by_cases h1 : x > y
  · rw [if_pos h1]
    exact ⟨fun h => absurd h (by decide), fun h => absurd (Int64.lt_trans h1 h) (Int64.lt_irrefl)⟩
  · rw [if_neg h1]
    by_cases h2 : x = y
    · rw [if_pos h2]
      exact ⟨fun h => absurd h (by decide), fun h => absurd (h2 ▸ h) (Int64.lt_irrefl)⟩
    · rw [if_neg h2]
      exact ⟨fun _ => Int64.lt_of_le_of_ne (Int64.not_lt.mp h1) h2, fun _ => by decide⟩
theorem q_cmp_gt {x y : Int64} : (0 < lg_cmp x y) ↔ y < x := by
  unfold lg_cmp
  by_cases h1 : x > y
  · rw [if_pos h1]
    exact ⟨fun _ => h1, fun _ => by decide⟩
  · rw [if_neg h1]
    by_cases h2 : x = y
    · rw [if_pos h2]
      exact ⟨fun h => absurd h (by decide), fun h => absurd h h1⟩
    · rw [if_neg h2]
      exact ⟨fun h => absurd h (by decide), fun h => absurd h h1⟩
set_option maxRecDepth 100000 in
theorem cX12_in_ok : q_Con 1 yX12_in cX12_in 6 (some .boolean) 0 0 fX12_in := by
  intro l D base vs μ K hmc hms hf
  obtain ⟨u, v, w, rfl, hf⟩ := hf
  refine Met.ofW (cc := cX12_in) (maxL := 6) (ret := some .boolean) (by decide +kernel) rfl ?_
  intro p e s m args below meth c s₁ B hml hv
  obtain ⟨rfl, hK, hR, hbase, hnt⟩ := hv
  have hts : ∀ w' ∈ q_tb, w'.before ([Value.long u, .long v, .long w]).toArray s = true := fun w' hw => atoms_spec (ws := q_ws yX12_in cX12_in 6 (some .boolean)) B.pre w' (List.mem_cons_of_mem _ hw)
  have hl := lv_entry ([Value.long u, .long v, .long w]) (n := 6) (Nat.le_of_ble_eq_true rfl)
  rw [lg_entry_eq]
  generalize (lg_sl ([Value.long u, .long v, .long w]) ++ List.replicate (6 - (lg_sl ([Value.long u, .long v, .long w])).length) Slot.unset).toArray = ls at hl ⊢
  have hl : lv_has ls 6 [(0, .long u), (2, .long v), (4, .long w)] := hl
  have hx : q_CX (cX12_in, 6, yX12_in, 1, some .boolean) ((p, l, e, (headSpec (q_ws yX12_in cX12_in 6 (some .boolean)) (q_rm 1 0 0)).room, s), (m, ([Value.long u, .long v, .long w]).toArray, below, meth, c), D, base, K) := ⟨B.exec, B.bytes, hml, findClass_of_methodNamed B.named, hts, B.notSynchronized, B.returns, hK, hbase, Nat.le_refl _, Nat.le_refl _, hnt, (name_of_methodNamed B.named B.method).1⟩
  have hmo : q_MO ((p, l, e, (headSpec (q_ws yX12_in cX12_in 6 (some .boolean)) (q_rm 1 0 0)).room, s), (m, ([Value.long u, .long v, .long w]).toArray, below, meth, c), D, base, K) μ s.heap [] 0 0 := ⟨hR, va_S.rf, by show 0 + μ.1.2.2.1 = 0; omega, by show 0 + μ.1.2.2.2 = 0; omega⟩
  have fin : ∀ (z : Int32), narrow .boolean (.int z) = .int z → K (some (.int z)) μ → W p l e (headSpec (q_ws yX12_in cX12_in 6 (some .boolean)) (q_rm 1 0 0)).room s m ([Value.long u, .long v, .long w]).toArray below meth c s.heap [] 0 0 (MQ below (q_Qc D base K) ([Value.long u, .long v, .long w]).toArray s 0 0 (fun q => base ≤ q)) (F0 m 18 ls [.int z]) := by
    intro z hz hk
    exact W.zret (hlocks := B.notSynchronized) B.exec B.bytes B.returns hz (fun t ht hW => q_end hx hmo hk t ht hW) (fun q hq => by cases hq) (by decide +kernel : decode cX12_in 18 = .ok (.ireturn, 1))
  refine lv_lload_n B.exec B.bytes (by decide +kernel : decode cX12_in 0 = .ok (.lload_n 0, 1)) rfl (lv_at hl 0 rfl) ?_
  refine lv_lload_n B.exec B.bytes (by decide +kernel : decode cX12_in 1 = .ok (.lload_n 2, 1)) rfl (lv_at hl 1 rfl) ?_
  refine W.lcmp B.exec B.bytes (by decide +kernel : decode cX12_in 2 = .ok (.lcmp, 1)) ?_
  refine lv_if_lt (tgt := 17) B.exec B.bytes (by decide +kernel : decode cX12_in 3 = .ok (.ifCond .lt 14, 3)) (by decide) (fun h => ?_) (fun h => ?_)
  · refine lv_iconst (v := 0) B.exec B.bytes (by decide +kernel : decode cX12_in 17 = .ok (.iconst 0, 1)) (by decide) ?_
    refine fin 0 rfl ?_
    rw [if_neg (fun q => Int64.not_lt.mpr q.1 (q_cmp_lt.mp h))] at hf
    exact hf
  · have h1 : v ≤ u := Int64.not_lt.mp (fun q => h (q_cmp_lt.mpr q))
    refine lv_lload_n B.exec B.bytes (by decide +kernel : decode cX12_in 6 = .ok (.lload_n 0, 1)) rfl (lv_at hl 0 rfl) ?_
    refine lv_lload B.exec B.bytes (by decide +kernel : decode cX12_in 7 = .ok (.lload 4, 2)) (lv_at hl 2 rfl) ?_
    refine W.lcmp B.exec B.bytes (by decide +kernel : decode cX12_in 9 = .ok (.lcmp, 1)) ?_
    refine lv_if_gt (tgt := 17) B.exec B.bytes (by decide +kernel : decode cX12_in 10 = .ok (.ifCond .gt 7, 3)) (by decide) (fun h2 => ?_) (fun h2 => ?_)
    · refine lv_iconst (v := 0) B.exec B.bytes (by decide +kernel : decode cX12_in 17 = .ok (.iconst 0, 1)) (by decide) ?_
      refine fin 0 rfl ?_
      rw [if_neg (fun q => Int64.not_lt.mpr q.2 (q_cmp_gt.mp h2))] at hf
      exact hf
    · have h3 : u ≤ w := Int64.not_lt.mp (fun q => h2 (q_cmp_gt.mpr q))
      refine lv_iconst (v := 1) B.exec B.bytes (by decide +kernel : decode cX12_in 13 = .ok (.iconst 1, 1)) (by decide) ?_
      refine lv_goto (tgt := 18) B.exec B.bytes (by decide +kernel : decode cX12_in 14 = .ok (.goto 4, 3)) (by decide) ?_
      refine fin 1 rfl ?_
      rw [if_pos ⟨h1, h3⟩] at hf
      exact hf
end
