section
/-! kept: the class asks whether a way is open -/
theorem gdiv12 : ∀ j : Fin 12, q_gidiv (zI (j.val : Int)) 2 = zI ((j.val / 2 : Nat) : Int) ∧ q_girem (zI (j.val : Int)) 2 = zI ((j.val % 2 : Nat) : Int) ∧ q_gixor (zI (j.val : Int)) (zI 1) = zI ((if j.val % 2 = 0 then j.val + 1 else j.val - 1 : Nat) : Int) := by decide +kernel
theorem k_div12 {env : List Value} {μ : q_M} {K : Int32 → q_M → Prop} {i j : Nat} (hj : j < 12) (h : env[i]? = some (.int (zI (j : Int)))) : q_2d q_gidiv (q_l i) (q_k 2) env μ K = K (zI ((j / 2 : Nat) : Int)) μ := by
  have e := (gdiv12 ⟨j, hj⟩).1
  have e : q_gidiv (zI (j : Int)) 2 = zI ((j / 2 : Nat) : Int) := e
  refine propext ⟨fun ⟨x, a, b, d⟩ => ?_, fun k => ⟨_, h, by decide, by rw [e]; exact k⟩⟩
  rw [h] at a
  injection a with a
  injection a with a
  rw [← a, e] at d
  exact d
theorem k_rem12 {env : List Value} {μ : q_M} {K : Int32 → q_M → Prop} {i j : Nat} (hj : j < 12) (h : env[i]? = some (.int (zI (j : Int)))) : q_2d q_girem (q_l i) (q_k 2) env μ K = K (zI ((j % 2 : Nat) : Int)) μ := by
  have e := (gdiv12 ⟨j, hj⟩).2.1
  have e : q_girem (zI (j : Int)) 2 = zI ((j % 2 : Nat) : Int) := e
  refine propext ⟨fun ⟨x, a, b, d⟩ => ?_, fun k => ⟨_, h, by decide, by rw [e]; exact k⟩⟩
  rw [h] at a
  injection a with a
  injection a with a
  rw [← a, e] at d
  exact d
def jxN (j : Nat) : Nat := if j % 2 = 0 then j + 1 else j - 1
theorem k_xor12 {μ : q_M} {K : Int32 → q_M → Prop} {j : Nat} (hj : j < 12) : opK (q_gixor (zI (j : Int)) (zI 1)) μ K = K (zI (jxN j : Nat)) μ := by
  have e := (gdiv12 ⟨j, hj⟩).2.2
  have e : q_gixor (zI (j : Int)) (zI 1) = zI ((jxN j : Nat) : Int) := e
  rw [e]
  rfl
/-- the sets of holes are alike iff none is lost -/
theorem hs_sub {c0 c1 : Int → Int} {n0 n1 : Nat} (tie : ∀ p, 0 ≤ p → p < (n1 : Int) → 200 ≤ c1 p → c1 p < 1000 → ∃ q, 0 ≤ q ∧ q < (n0 : Int) ∧ c0 q = c1 p) (l0 : ∀ q, 0 ≤ q → q < (n0 : Int) → 200 ≤ c0 q → c0 q < 1000 → c0 q ≤ 215) : hsN c0 n0 = hsN c1 n1 ↔ ∀ y, 0 ≤ y → y < (n0 : Int) → isHo (c0 y) → ∃ p', 0 ≤ p' ∧ p' < (n1 : Int) ∧ c1 p' = c0 y := by
  constructor
  · intro e y y0 y1 hh
    have b : (hsN c0 n0).testBit (c0 y - 200).toNat = true := by
      rw [hsN_t]
      unfold isHo at hh
      refine ⟨by omega, y.toNat, by omega, ?_⟩
      rw [Int.toNat_of_nonneg y0]
      omega
    rw [e, hsN_t] at b
    obtain ⟨_, q, q1, q2⟩ := b
    refine ⟨q, by omega, by omega, ?_⟩
    rw [q2]
    unfold isHo at hh
    omega
  · intro h
    refine Nat.eq_of_testBit_eq fun i => ?_
    rw [Bool.eq_iff_iff, hsN_t, hsN_t]
    constructor
    · intro ⟨a, q, q1, q2⟩
      obtain ⟨p', z0, z1, z2⟩ := h q (by omega) (by omega) (by unfold isHo; omega)
      refine ⟨a, p'.toNat, by omega, ?_⟩
      rw [Int.toNat_of_nonneg z0, z2, q2]
    · intro ⟨a, q, q1, q2⟩
      obtain ⟨p', z0, z1, z2⟩ := tie q (by omega) (by omega) (by omega) (by omega)
      refine ⟨a, p'.toNat, by omega, ?_⟩
      rw [Int.toNat_of_nonneg z0, z2, q2]
def kOpen (G0 : Nat → Int → Int) (B : Nat) (v : Int) (j : Nat) : Prop := (G0 (B + 60) ((j / 2 : Nat) : Int) = 1 ∧ G0 (B + 61) ((j / 2 : Nat) : Int) = 1 ∧ G0 (B + 250 + 20 * (j / 2)) 1 = v) ∧ (j % 2 = 0 ∨ kSub G0 B (j / 2))
theorem c10_isWay {T : Nat → Option q_T} {nx B j : Nat} {R : Nat → Nat → Option Value} {G0 G : Nat → Int → Int} {v : Int} (oT : Ly T R (B + 59) (L10 (B + 59))) (oS : ∀ k : Nat, k < 12 → Ly T R (B + 250 + 10 * k) (L9 (B + 250 + 10 * k))) (hF : IFm G0 B) (iRe : IRe G0 B) (kc : KC G0 G B) (hj : j < 12) (kv : 0 ≤ v ∧ v ≤ 1) :
    ∃ y : Int, ((y = 1 ∧ kOpen G0 B v j) ∨ (y = 0 ∧ ¬ kOpen G0 B v j)) ∧ ∀ K : Option Value → q_M → Prop, fX10_isWay [.ref (B + 59), .int (zI j), .int (zI v)] (st T nx 0 0 R G) K = K (some (.int (zI y))) (st T nx 0 0 R G) := by
  have hd : ∀ (e : List Value) (μ : q_M) (K : Int32 → q_M → Prop), q_2d q_gidiv (q_l 1) (q_k 2) (.ref (B + 59) :: .int (zI (j : Int)) :: e) μ K = K (zI ((j / 2 : Nat) : Int)) μ := fun e μ K => k_div12 hj rfl
  have hr : ∀ (e : List Value) (μ : q_M) (K : Int32 → q_M → Prop), q_2d q_girem (q_l 1) (q_k 2) (.ref (B + 59) :: .int (zI (j : Int)) :: e) μ K = K (zI ((j % 2 : Nat) : Int)) μ := fun e μ K => k_rem12 hj rfl
  unfold kOpen
  obtain ⟨l, hl⟩ : ∃ l, l = j / 2 := ⟨_, rfl⟩
  rw [← hl] at hd ⊢
  have l6 : l < 6 := by omega
  have lI : 0 ≤ (l : Int) ∧ (l : Int) < 6 := by omega
  have e60 : G (B + 60) = G0 (B + 60) := kc.1 _ (by omega) (by omega) (by omega)
  have e61 : G (B + 61) = G0 (B + 61) := kc.1 _ (by omega) (by omega) (by omega)
  have one : ¬ (1 : Int) = 0 := by omega
  have zn := iRe.2.2 l (by omega) (by omega)
  rw [Int.toNat_natCast] at zn
  obtain ⟨t, ht⟩ : ∃ t, t = G0 (B + 60) (l : Int) := ⟨_, rfl⟩
  have g60 : G (B + 60) (l : Int) = t := by rw [e60, ht]
  by_cases th : t = 1
  · obtain ⟨v', x1, x2, ta, tz, aN, tt, ⟨_, law0, law1⟩, _, ca, cz, la, lz, tie⟩ := turn_ok hF iRe (k := (l : Int)) ⟨⟨by omega, by omega⟩, by rw [← ht]; exact th⟩
    sorry
  · sorry
end
