section
/-! a tree spelled: codes, each with the node and the gap ahead -/
def spi (rc : Int → Int → Int → List (Int × Int × Int)) (C g e : Int → Int) (f nn : Int) : Nat → Int → Int → Int → Int → List (Int × Int × Int)
  | 0, _, _, _, _ => []
  | m + 1, k, q, ah, hw => if 0 ≤ C (5 * f + k) ∧ C (5 * f + k) ≤ 11 then (C (5 * f + k), ah, hw) :: spi rc C g e f nn m (k + 1) q nn (g (5 * f + k)) else rc q ah hw ++ spi rc C g e f nn m (k + 1) (e q) nn (g (5 * f + k))
def spl (nI C g c e r : Int → Int) : Nat → Int → Int → Int → List (Int × Int × Int)
  | 0, _, _, _ => []
  | d + 1, p, ah, hw => if 1000 ≤ c p then spi (spl nI C g c e r d) C g e (c p - 1000) (r p) (nI (c p - 1000)).toNat 0 (p + 1) ah hw else [(c p, ah, hw)]
/-- the list stands in three rows from m on -/
def Wl (A N W : Int → Int) (m : Int) (l : List (Int × Int × Int)) : Prop := ∀ (x : Nat) (ev : Int × Int × Int), l[x]? = some ev → A (m + x) = ev.1 ∧ N (m + x) = ev.2.1 ∧ W (m + x) = ev.2.2
theorem Wl_nil {A N W : Int → Int} {m : Int} : Wl A N W m [] := fun x ev h => by rw [List.getElem?_nil] at h; exact absurd h (by simp)
theorem Wl_one {A N W : Int → Int} {m : Int} {ev : Int × Int × Int} (h1 : A m = ev.1) (h2 : N m = ev.2.1) (h3 : W m = ev.2.2) : Wl A N W m [ev] := by
  intro x e h
  cases x with
  | zero =>
    have : ev = e := Option.some.inj h
    rw [← this, show m + ((0 : Nat) : Int) = m by omega]
    exact ⟨h1, h2, h3⟩
  | succ x => exact absurd h (by simp)
theorem Wl_app {A N W : Int → Int} {m : Int} {l l2 : List (Int × Int × Int)} (h1 : Wl A N W m l) (h2 : Wl A N W (m + l.length) l2) : Wl A N W m (l ++ l2) := by
  intro x ev h
  by_cases c : x < l.length
  · rw [List.getElem?_append_left c] at h
    exact h1 x ev h
  · rw [List.getElem?_append_right (by omega)] at h
    have w := h2 (x - l.length) ev h
    rw [show m + (l.length : Int) + ((x - l.length : Nat) : Int) = m + x by omega] at w
    exact w
theorem Wl_congr {A N W A' N' W' : Int → Int} {m : Int} {l : List (Int × Int × Int)} (h : ∀ j, m ≤ j → j < m + l.length → A' j = A j ∧ N' j = N j ∧ W' j = W j) (w : Wl A N W m l) : Wl A' N' W' m l := by
  intro x ev hx
  have lx := (List.getElem?_eq_some_iff.mp hx).1
  obtain ⟨e1, e2, e3⟩ := h (m + x) (by omega) (by omega)
  rw [e1, e2, e3]
  exact w x ev hx
theorem nsl_w (c : Int → Int) {k : Nat} (h : 0 ≤ c k ∧ c k ≤ 11) : nsl c (k + 1) = nsl c k := by
  show nsl c k + (if 0 ≤ c k ∧ c k ≤ 11 then 0 else 1) = nsl c k
  rw [if_pos h, Int.add_zero]
theorem nsl_n (c : Int → Int) {k : Nat} (h : ¬ (0 ≤ c k ∧ c k ≤ 11)) : nsl c (k + 1) = nsl c k + 1 := by
  show nsl c k + (if 0 ≤ c k ∧ c k ≤ 11 then 0 else 1) = nsl c k + 1
  rw [if_neg h]
/-- leaves before q -/
def lv (c : Int → Int) (q : Int) : Int := q - nb c q.toNat
theorem nbi_s (c : Int → Int) {q : Int} (h : 0 ≤ q) : nb c (q + 1).toNat = nb c q.toNat + if 1000 ≤ c q then 1 else 0 := by
  rw [show (q + 1).toNat = q.toNat + 1 by omega, nb_s, Int.toNat_of_nonneg h]
theorem lv_mono (c : Int → Int) {q p : Int} (h0 : 0 ≤ q) (h : q ≤ p) : lv c q ≤ lv c p := by
  obtain ⟨k, hk⟩ : ∃ k : Nat, p = q + k := ⟨(p - q).toNat, by omega⟩
  subst hk
  clear h
  induction k with
  | zero => rw [show q + ((0 : Nat) : Int) = q by omega]; exact Int.le_refl _
  | succ k ih =>
    refine Int.le_trans ih ?_
    have := nbi_s c (q := q + k) (by omega)
    unfold lv
    rw [show q + ((k + 1 : Nat) : Int) = q + k + 1 by omega, this]
    by_cases g : 1000 ≤ c (q + k)
    · rw [if_pos g]; omega
    · rw [if_neg g]; omega
end
