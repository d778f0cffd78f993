section
/-! lay: laying a row of codes -/
theorem and_val (a b : Nat) (ha : a < 256) (hb : b < 256) : q_giand (zI (a : Int)) (zI (b : Int)) = zI ((a &&& b : Nat) : Int) := by
  show (Int32.ofInt (a : Int)) &&& (Int32.ofInt (b : Int)) = Int32.ofInt ((a &&& b : Nat) : Int)
  rw [show ∀ n : Nat, Int32.ofInt (n : Int) = Int32.ofNat n from fun n => rfl, show ∀ n : Nat, Int32.ofInt (n : Int) = Int32.ofNat n from fun n => rfl, show ∀ n : Nat, Int32.ofInt (n : Int) = Int32.ofNat n from fun n => rfl]
  apply Int32.toBitVec_inj.mp
  rw [Int32.toBitVec_and]
  exact (BitVec.ofNat_and ..).symm
theorem bit_val : ∀ (S : Fin 256) (g : Fin 8), q_giand (q_gishr (zI (S.val : Int)) (zI (g.val : Int))) (zI 1) = zI (if S.val.testBit g.val then 1 else 0) := by decide +kernel
/-- where a row of codes is laid to: column, what stands over, lines ended, widest line ended -/
def layS (br ind bl wd : Int → Int) (W : Int) : Nat → Int × Int × Int × Int
  | 0 => (0, 0, 0, 0)
  | k + 1 => if br k = 1 then (ind k + wd k, (layS br ind bl wd W k).2.1 + max 0 ((layS br ind bl wd W k).1 - W), (layS br ind bl wd W k).2.2.1 + 1, max (layS br ind bl wd W k).2.2.2 (layS br ind bl wd W k).1) else ((layS br ind bl wd W k).1 + bl k + wd k, (layS br ind bl wd W k).2.1, (layS br ind bl wd W k).2.2.1, (layS br ind bl wd W k).2.2.2)
def layC (br ind bl wd : Int → Int) (W : Int) (k : Nat) : Int := if br k = 1 then ind k else (layS br ind bl wd W k).1 + bl k
def layR (br ind bl wd : Int → Int) (W : Int) : Nat → Int
  | 0 => 0
  | k + 1 => max (layR br ind bl wd W k) (layS br ind bl wd W (k + 1)).1
theorem lay_b {br ind bl wd : Int → Int} {W n : Int} (hb : ∀ k : Int, 0 ≤ k → k < n → (0 ≤ ind k ∧ ind k ≤ 16) ∧ (0 ≤ bl k ∧ bl k ≤ 1) ∧ (1 ≤ wd k ∧ wd k ≤ 9)) (n0 : n ≤ 200) (W0 : 0 ≤ W) : ∀ k : Nat, (k : Int) ≤ n → (0 ≤ (layS br ind bl wd W k).1 ∧ (layS br ind bl wd W k).1 ≤ 16 + 10 * k) ∧ (0 ≤ (layS br ind bl wd W k).2.1 ∧ (layS br ind bl wd W k).2.1 ≤ 2100 * k) ∧ (0 ≤ (layS br ind bl wd W k).2.2.1 ∧ (layS br ind bl wd W k).2.2.1 ≤ k) ∧ (0 ≤ (layS br ind bl wd W k).2.2.2 ∧ (layS br ind bl wd W k).2.2.2 ≤ 2100) := by
  intro k
  induction k with
  | zero =>
    intro _
    have e : layS br ind bl wd W 0 = (0, 0, 0, 0) := rfl
    rw [e]
    refine ⟨⟨?_, ?_⟩, ⟨?_, ?_⟩, ⟨?_, ?_⟩, ⟨?_, ?_⟩⟩ <;> (dsimp only; omega)
  | succ k ih =>
    intro hk
    obtain ⟨a1, a2, a3, a4⟩ := ih (by omega)
    obtain ⟨b1, b2, b3⟩ := hb k (by omega) (by omega)
    rw [layS]
    by_cases c : br k = 1
    · rw [if_pos c]
      refine ⟨⟨?_, ?_⟩, ⟨?_, ?_⟩, ⟨?_, ?_⟩, ⟨?_, ?_⟩⟩ <;> (show _ ≤ _; dsimp only; omega)
    · rw [if_neg c]
      refine ⟨⟨?_, ?_⟩, ⟨?_, ?_⟩, ⟨?_, ?_⟩, ⟨?_, ?_⟩⟩ <;> (show _ ≤ _; dsimp only; omega)
theorem layC_b {br ind bl wd : Int → Int} {W n : Int} (hb : ∀ k : Int, 0 ≤ k → k < n → (0 ≤ ind k ∧ ind k ≤ 16) ∧ (0 ≤ bl k ∧ bl k ≤ 1) ∧ (1 ≤ wd k ∧ wd k ≤ 9)) (n0 : n ≤ 200) (W0 : 0 ≤ W) {k : Nat} (hk : (k : Int) < n) : 0 ≤ layC br ind bl wd W k ∧ layC br ind bl wd W k ≤ 2100 := by
  obtain ⟨a1, _⟩ := lay_b (br := br) hb n0 W0 k (by omega)
  obtain ⟨b1, b2, b3⟩ := hb k (by omega) hk
  unfold layC
  split <;> omega
theorem layS_c {br ind bl wd : Int → Int} {W : Int} (k : Nat) : (layS br ind bl wd W (k + 1)).1 = layC br ind bl wd W k + wd k := by
  rw [layS, layC]
  split <;> rfl
/-- the class's reach is the widest line, the last one too -/
theorem lay_reach {br ind bl wd : Int → Int} {W n : Int} (hb : ∀ k : Int, 0 ≤ k → k < n → (0 ≤ ind k ∧ ind k ≤ 16) ∧ (0 ≤ bl k ∧ bl k ≤ 1) ∧ (1 ≤ wd k ∧ wd k ≤ 9)) (n0 : n ≤ 200) (W0 : 0 ≤ W) : ∀ k : Nat, (k : Int) ≤ n → layR br ind bl wd W k = max (layS br ind bl wd W k).2.2.2 (layS br ind bl wd W k).1 := by
  intro k
  induction k with
  | zero => intro _; rfl
  | succ k ih =>
    intro hk
    obtain ⟨a1, a2, a3, a4⟩ := lay_b (br := br) hb n0 W0 k (by omega)
    obtain ⟨b1, b2, b3⟩ := hb k (by omega) (by omega)
    rw [layR, ih (by omega), layS]
    by_cases c : br k = 1
    · rw [if_pos c]
    · rw [if_neg c]
      dsimp only
      omega
theorem layR_b {br ind bl wd : Int → Int} {W n : Int} (hb : ∀ k : Int, 0 ≤ k → k < n → (0 ≤ ind k ∧ ind k ≤ 16) ∧ (0 ≤ bl k ∧ bl k ≤ 1) ∧ (1 ≤ wd k ∧ wd k ≤ 9)) (n0 : n ≤ 200) (W0 : 0 ≤ W) (k : Nat) (hk : (k : Int) ≤ n) : 0 ≤ layR br ind bl wd W k ∧ layR br ind bl wd W k ≤ 2100 := by
  obtain ⟨a1, a2, a3, a4⟩ := lay_b (br := br) hb n0 W0 k hk
  rw [lay_reach hb n0 W0 k hk]
  omega
end
