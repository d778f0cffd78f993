section
/-! lay: what the class needs to place a row -/
theorem plh_of {T : Nat → Option q_T} {nx o t N : Nat} {R : Nat → Nat → Option Value} {G : Nat → Int → Int} {sb up len : Int → Int} {l : List (Int × Int × Int)} (oS : Ly T R o (L6 o t)) (o8 : Ly T R t (L8 t)) (ht : t + 14 ≤ o) (N40 : N ≤ 40) (hu2 : ∀ n : Int, 0 < n → n < N → 0 ≤ up n ∧ up n < n) (hlen : ∀ w, 0 ≤ w → w ≤ 11 → (1 ≤ len w ∧ len w ≤ 9)) (hl : G (t + 1) = len) (hev : ∀ k : Int, 0 < k → k < (l.length : Int) → (0 ≤ (fun k => (l.getD k.toNat (0, 0, 0)).2.1) k ∧ (fun k => (l.getD k.toNat (0, 0, 0)).2.1) k < N ∧ 0 ≤ (fun k => (l.getD k.toNat (0, 0, 0)).2.2) k ∧ (fun k => (l.getD k.toNat (0, 0, 0)).2.2) k ≤ 2) ∨ (fun k => (l.getD k.toNat (0, 0, 0)).2.2) k = 0) (hcd : ∀ k : Int, 0 ≤ k → k < (l.length : Int) → 0 ≤ (fun k => (l.getD k.toNat (0, 0, 0)).1) k ∧ (fun k => (l.getD k.toNat (0, 0, 0)).1) k ≤ 1013) (wc : Wc (G (o + 1)) 0 l) (wg : WG (G (o + 4)) (G (o + 5)) (G (o + 6)) sb up 0 l) : PLH T nx R G o l.length (brR sb (fun k => (l.getD k.toNat (0, 0, 0)).2.1) (fun k => (l.getD k.toNat (0, 0, 0)).2.2)) (inR sb up (fun k => (l.getD k.toNat (0, 0, 0)).2.1) (fun k => (l.getD k.toNat (0, 0, 0)).2.2)) (fun _ => blR (fun k => (l.getD k.toNat (0, 0, 0)).2.2)) (fun k => wdC len ((fun k => (l.getD k.toNat (0, 0, 0)).1) k)) := by
  have get : ∀ k : Int, 0 ≤ k → k < (l.length : Int) → ∃ ev, l.getD k.toNat (0, 0, 0) = ev ∧ l[k.toNat]? = some ev := fun k k0 k1 => by
    have lt : k.toNat < l.length := by omega
    have e := List.getElem?_eq_getElem lt
    refine ⟨_, ?_, e⟩
    rw [List.getD_eq_getElem?_getD, e]
    rfl
  refine ⟨fun S S256 => ⟨row_hb hu2 N40 hlen hev, ⟨if_neg (fun w => absurd w.1 (by omega)), if_neg (fun w => absurd w.1 (by omega))⟩, fun k k0 k1 => ?_⟩, fun k k0 k1 => ?_⟩
  · obtain ⟨ev, e1, e2⟩ := get k (by omega) k1
    have w := wg k.toNat ev e2
    rw [Int.zero_add, Int.toNat_of_nonneg (by omega)] at w
    rcases w with w | ⟨w1, w2, w3⟩
    · omega
    · have hv := hev k k0 k1
      have ea : (fun k => (l.getD k.toNat (0, 0, 0)).2.1) k = ev.2.1 := by show (l.getD k.toNat (0, 0, 0)).2.1 = _; rw [e1]
      have eh : (fun k => (l.getD k.toNat (0, 0, 0)).2.2) k = ev.2.2 := by show (l.getD k.toNat (0, 0, 0)).2.2 = _; rw [e1]
      rw [ea, eh] at hv
      have eb : brR sb (fun k => (l.getD k.toNat (0, 0, 0)).2.1) (fun k => (l.getD k.toNat (0, 0, 0)).2.2) S k = if ev.2.2 = 2 ∧ opS sb S ev.2.1 = 1 then 1 else 0 := by
        unfold brR
        rw [ea, eh]
        by_cases c : ev.2.2 = 2 ∧ opS sb S ev.2.1 = 1
        · rw [if_pos c, if_pos ⟨k0, c⟩]
        · rw [if_neg c, if_neg (fun z => c z.2)]
      have op : opS sb S ev.2.1 = 1 ↔ ¬ ownN sb ev.2.1 = -1 ∧ S.testBit (ownN sb ev.2.1).toNat = true := by
        unfold opS
        by_cases c : ¬ ownN sb ev.2.1 = -1 ∧ S.testBit (ownN sb ev.2.1).toNat = true
        · rw [if_pos c]
          exact ⟨fun _ => c, fun _ => rfl⟩
        · rw [if_neg c]
          exact ⟨fun z => absurd z (by decide), fun z => absurd z c⟩
      have ob := ownN_b sb ev.2.1
      refine ⟨by rw [w1]; omega, _, inN sb up 41 ev.2.1, w2, ?_, w3, inN_b _ _ _ _, ?_, fun b1 => ?_, fun _ => ?_⟩
      · split <;> omega
      · rw [eb]
        by_cases h2 : ev.2.2 = 2
        · rw [if_pos h2]
          by_cases c : opS sb S ev.2.1 = 1
          · rw [if_pos ⟨h2, c⟩, if_pos (op.mp c)]
          · rw [if_neg (fun z => c z.2), if_neg (fun z => c (op.mpr z))]
        · rw [if_neg h2, if_neg (fun z => h2 z.1), if_neg (fun z => z.1 rfl)]
      · unfold inR
        rw [if_pos b1, ea]
        rw [eb] at b1
        by_cases c : ev.2.2 = 2 ∧ opS sb S ev.2.1 = 1
        · rcases hv with ⟨v1, v2, _⟩ | v
          · rcases in_open (S := S) (sb := sb) hu2 41 ev.2.1 v1 v2 with y | y
            · rw [y]
            · omega
          · omega
        · rw [if_neg c] at b1
          omega
      · show blR (fun k => (l.getD k.toNat (0, 0, 0)).2.2) k = _
        unfold blR
        rw [eh, w1]
        by_cases z : ev.2.2 = 0
        · rw [if_neg (fun y => y.2 z), if_pos z]
        · rw [if_pos ⟨k0, z⟩, if_neg z]
  · obtain ⟨ev, e1, e2⟩ := get k k0 k1
    have w := wc k.toNat ev e2
    rw [Int.zero_add, Int.toNat_of_nonneg k0] at w
    have ec : (fun k => (l.getD k.toNat (0, 0, 0)).1) k = ev.1 := by show (l.getD k.toNat (0, 0, 0)).1 = _; rw [e1]
    have cb := hcd k k0 k1
    rw [ec] at cb
    refine ⟨by rw [w]; exact cb, fun G1 f K => ?_⟩
    rw [w]
    show _ = K (some (.int (zI (wdC len ((fun k => (l.getD k.toNat (0, 0, 0)).1) k))))) _
    rw [ec, ← hl, ← f (t + 1) (by omega) (by omega) (by omega)]
    exact c6_lengthOf oS o8 cb.1 cb.2 K
end
