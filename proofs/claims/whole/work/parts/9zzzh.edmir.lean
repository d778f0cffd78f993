section
/-! distance: a mirrored row (pure) -/
theorem Fw_split {L e : Int → Int} {m a : Nat} {p : Int} (h : a ≤ m) : Fw L e p m = Fw L e p a ++ Fw L e (p + a) (m - a) := by
  rw [← Fw_take m a p h, ← Fw_drop m a p h, List.take_append_drop]
theorem Fw_mir {L e Lm em lev : Int → Int} {n : Int} (N : Nst e 0 n) (hm : ∀ q, 0 ≤ q → q < n → Lm (n - e q + lev q) = L q ∧ em (n - e q + lev q) = n - e q + lev q + (e q - q)) (h1 : ∀ q, 0 ≤ q → q < n → q + 1 < e q → lev (q + 1) = lev q + 1) (h2 : ∀ u q, 0 ≤ u → u < q → q < n → e q < e u → lev q = lev u + 1 → lev (e q) = lev u + 1) : ∀ (m : Nat) (p u : Int), (e u - p).toNat ≤ m → 0 ≤ u → u < n → u < p → p ≤ e u → (p < e u → lev p = lev u + 1) → Fw Lm em (n - e u + lev u + 1) (e u - p).toNat = mir (Fw L e p (e u - p).toNat) := by
  intro m
  induction m with
  | zero =>
    intro p u hm' _ _ _ _ _
    rw [show (e u - p).toNat = 0 by omega]
    exact mir_nil.symm
  | succ m ih =>
    intro p u hm' u0 un up pe lp
    have bu := N.1 u u0 un
    by_cases g : p < e u
    · have lp := lp g
      have bp := N.1 p (by omega) (by omega)
      have eu := N.2 u p u0 up g (by omega)
      have i1 := ih (e p) u (by omega) u0 un (by omega) eu (fun z => h2 u p u0 up (by omega) z lp)
      have i2 := ih (p + 1) p (by omega) (by omega) (by omega) (by omega) (by omega) (fun z => h1 p (by omega) (by omega) z)
      rw [Fw_cons g, mir_cons, Fw_take _ _ _ (by omega), Fw_drop _ _ _ (by omega), show (e u - (p + 1)).toNat - (e p - p - 1).toNat = (e u - e p).toNat by omega, show p + 1 + (((e p - p - 1).toNat : Nat) : Int) = e p by omega, ← i1, show (e p - p - 1).toNat = (e p - (p + 1)).toNat by omega, ← i2]
      rw [Fw_split (a := (e u - e p).toNat) (by omega), show (e u - p).toNat - (e u - e p).toNat = (e p - (p + 1)).toNat + 1 by omega, show n - e u + lev u + 1 + (((e u - e p).toNat : Nat) : Int) = n - e p + lev p by omega, Fw, (hm p (by omega) (by omega)).1, (hm p (by omega) (by omega)).2, show (n - e p + lev p + (e p - p) - (n - e p + lev p) - 1).toNat = (e p - (p + 1)).toNat by omega]
    · rw [show (e u - p).toNat = 0 by omega]
      exact mir_nil.symm
/-- the whole tree -/
theorem Fw_mir0 {L e Lm em lev : Int → Int} {n : Int} (N : Nst e 0 n) (hm : ∀ q, 0 ≤ q → q < n → Lm (n - e q + lev q) = L q ∧ em (n - e q + lev q) = n - e q + lev q + (e q - q)) (h1 : ∀ q, 0 ≤ q → q < n → q + 1 < e q → lev (q + 1) = lev q + 1) (h2 : ∀ u q, 0 ≤ u → u < q → q < n → e q < e u → lev q = lev u + 1 → lev (e q) = lev u + 1) (n0 : 0 < n) (e0 : e 0 = n) (l0 : lev 0 = 0) : Fw Lm em 0 n.toNat = mir (Fw L e 0 n.toNat) := by
  have k := Fw_mir N hm h1 h2 n.toNat 1 0 (by omega) (Int.le_refl _) n0 (by omega) (by omega) (fun z => by
    have := h1 0 (Int.le_refl _) n0 (by omega)
    rw [show (0 : Int) + 1 = 1 by omega] at this
    exact this)
  have h0 := hm 0 (Int.le_refl _) n0
  rw [e0, l0, show n - n + 0 = 0 by omega] at h0
  rw [e0, l0, show n - n + 0 + 1 = 1 by omega] at k
  have c := Fw_cons (L := L) (e := e) (i := 0) (E := n) n0
  have d := Fw_cons (L := Lm) (e := em) (i := 0) (E := n) n0
  rw [Int.sub_zero] at c d
  rw [show (0 : Int) + 1 = 1 by omega] at c d
  rw [c, d, h0.1, h0.2, e0, k, mir_one (by rw [Fw_len]; omega), show (0 + (n - 0) - 0 - 1).toNat = (n - 0 - 1).toNat by omega]
/-- the least cost is the same for mirrored rows -/
theorem EDt_mir {L e Lm em L' e' Lm' em' : Int → Int} {n n' : Int} (N : Nst e 0 n) (N' : Nst e' 0 n') (h : Fw Lm em 0 n.toNat = mir (Fw L e 0 n.toNat)) (h' : Fw Lm' em' 0 n'.toNat = mir (Fw L' e' 0 n'.toNat)) (n0 : 0 < n) (n0' : 0 < n') : EDt Lm em Lm' em' 0 n 0 n' = EDt L e L' e' 0 n 0 n' := by
  unfold EDt
  rw [Int.sub_zero, Int.sub_zero, h, h', ed_mir _ _ (Fw_ok _ _ _ (Nat.le_refl _) (by rw [show (0 : Int) + ((n.toNat : Nat) : Int) = n by omega]; exact N)) (Fw_ok _ _ _ (Nat.le_refl _) (by rw [show (0 : Int) + ((n'.toNat : Nat) : Int) = n' by omega]; exact N'))]
end
