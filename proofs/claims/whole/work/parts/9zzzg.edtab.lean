section
/-! distance: the table's equations (pure) -/
/-- the least cost from the pieces i .. E - 1 to the pieces j .. E' - 1 -/
def EDt (L e L' e' : Int → Int) (i E j E' : Int) : Int := (Ed (Fw L e i (E - i).toNat) (Fw L' e' j (E' - j).toNat) : Nat)
theorem Fw_cons {L e : Int → Int} {i E : Int} (h : i < E) : Fw L e i (E - i).toNat = (L i, (e i - i - 1).toNat) :: Fw L e (i + 1) (E - (i + 1)).toNat := by
  rw [show (E - i).toNat = (E - (i + 1)).toNat + 1 by omega, Fw]
theorem EDt_l {L e L' e' : Int → Int} {E j E' : Int} : EDt L e L' e' E E j E' = (E' - j).toNat := by
  unfold EDt
  rw [Int.sub_self, show Fw L e E (0 : Int).toNat = [] from rfl, ed_nl, Fw_len]
theorem EDt_r {L e L' e' : Int → Int} {i E E' : Int} : EDt L e L' e' i E E' E' = (E - i).toNat := by
  unfold EDt
  rw [Int.sub_self, show Fw L' e' E' (0 : Int).toNat = [] from rfl, ed_nr, Fw_len]
theorem EDt_b {L e L' e' : Int → Int} {i E j E' : Int} : 0 ≤ EDt L e L' e' i E j E' := by
  unfold EDt
  omega
theorem EDt_both {L e L' e' : Int → Int} {i E j E' : Int} (hi : i < E) (hj : j < E') (ei : e i = E) (ej : e' j = E') : EDt L e L' e' i E j E' = min (1 + min (EDt L e L' e' (i + 1) E j E') (EDt L e L' e' i E (j + 1) E')) (EDt L e L' e' (i + 1) E (j + 1) E' + if L i = L' j then 0 else 1) := by
  have a := Fw_cons (L := L) (e := e) hi
  have b := Fw_cons (L := L') (e := e') hj
  unfold EDt
  rw [a, b, ed_both (by rw [Fw_len, ei]; omega) (by rw [Fw_len, ej]; omega)]
  split <;> omega
theorem EDt_two {L e L' e' : Int → Int} {i E j E' : Int} (ni : Nst e i E) (nj : Nst e' j E') (hi : i < E) (hj : j < E') : EDt L e L' e' i E j E' = min (1 + min (EDt L e L' e' (i + 1) E j E') (EDt L e L' e' i E (j + 1) E')) (EDt L e L' e' (e i) E (e' j) E' + EDt L e L' e' i (e i) j (e' j)) := by
  have a := Fw_cons (L := L) (e := e) hi
  have b := Fw_cons (L := L') (e := e') hj
  have bi := ni.1 i (Int.le_refl _) hi
  have bj := nj.1 j (Int.le_refl _) hj
  have f1 := Fw_ok (L := L) (e := e) _ (E - i).toNat i (Nat.le_refl _) (by rw [show i + (((E - i).toNat : Nat) : Int) = E by omega]; exact ni)
  have f2 := Fw_ok (L := L') (e := e') _ (E' - j).toNat j (Nat.le_refl _) (by rw [show j + (((E' - j).toNat : Nat) : Int) = E' by omega]; exact nj)
  have a2 := Fw_cons (L := L) (e := e) bi.1
  have b2 := Fw_cons (L := L') (e := e') bj.1
  rw [a] at f1
  rw [b] at f2
  have k := ed_two f1 f2
  rw [Fw_take _ _ _ (by omega), Fw_take _ _ _ (by omega), Fw_drop _ _ _ (by omega), Fw_drop _ _ _ (by omega)] at k
  have z1 : (E - (i + 1)).toNat - (e i - i - 1).toNat = (E - e i).toNat := by omega
  have z2 : (E' - (j + 1)).toNat - (e' j - j - 1).toNat = (E' - e' j).toNat := by omega
  have z3 : i + 1 + (((e i - i - 1).toNat : Nat) : Int) = e i := by omega
  have z4 : j + 1 + (((e' j - j - 1).toNat : Nat) : Int) = e' j := by omega
  have z5 : (e i - (i + 1)).toNat = (e i - i - 1).toNat := by omega
  have z6 : (e' j - (j + 1)).toNat = (e' j - j - 1).toNat := by omega
  rw [z1, z2, z3, z4] at k
  rw [z5] at a2
  rw [z6] at b2
  rw [← a2, ← b2, ← a, ← b] at k
  unfold EDt
  omega
end
