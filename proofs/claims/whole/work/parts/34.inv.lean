section
theorem mulc (x : Int) (n : Nat) : x * (OfNat.ofNat n : Int) = (OfNat.ofNat n : Int) * x := Int.mul_comm _ _
/-- codes of cells -/
def isCd (c : Int) : Prop := ((0 ≤ c ∧ c ≤ 11) ∨ (20 ≤ c ∧ c ≤ 35)) ∨ (40 ≤ c ∧ c ≤ 139)
/-- texts: class and reference alike -/
def ITx (G : Nat → Int → Int) (B : Nat) : Prop := ∀ t : Int, 0 ≤ t → t ≤ 7 → G (B + 544 + 15) t = G (B + 3) t ∧ 0 ≤ G (B + 3) t ∧ G (B + 3) t ≤ 16 ∧ ∀ i : Int, 0 ≤ i → i < G (B + 3) t → G (B + 544 + 14) (16 * t + i) = G (B + 2) (16 * t + i) ∧ isCd (G (B + 2) (16 * t + i))
/-- worlds and the latest value -/
def IWo (G : Nat → Int → Int) (B : Nat) : Prop := (∀ i : Int, 0 ≤ i → i < 64 → G (B + 544 + 76) i = G (B + 15) i) ∧ zI (G (B + 544) 93) = zI (G B 18)
end
