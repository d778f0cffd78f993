section
/-! a loop that counts, told by what holds after k turns -/
theorem seq_ex {α : Type} (P : Nat → α → Prop) (S : Nat → α → α → Prop) (a : α) : ∀ N : Nat, P 0 a → (∀ k, k < N → ∀ x, P k x → ∃ y, P (k + 1) y ∧ S k x y) → ∃ M : Nat → α, M 0 = a ∧ (∀ k, k ≤ N → P k (M k)) ∧ ∀ k, k < N → S k (M k) (M (k + 1)) := by
  intro N
  induction N with
  | zero => intro h _; exact ⟨fun _ => a, rfl, fun k hk => by rw [show k = 0 by omega]; exact h, fun k hk => absurd hk (by omega)⟩
  | succ N ih =>
    intro h hs
    obtain ⟨M, m0, m1, m2⟩ := ih h (fun k hk => hs k (by omega))
    obtain ⟨y, y1, y2⟩ := hs N (by omega) (M N) (m1 N (Nat.le_refl _))
    refine ⟨fun k => if k ≤ N then M k else y, ?_, fun k hk => ?_, fun k hk => ?_⟩
    · show (if 0 ≤ N then M 0 else y) = a
      rw [if_pos (Nat.zero_le _)]
      exact m0
    · show P k (if k ≤ N then M k else y)
      by_cases e : k ≤ N
      · rw [if_pos e]
        exact m1 k e
      · rw [if_neg e, show k = N + 1 by omega]
        exact y1
    · show S k (if k ≤ N then M k else y) (if k + 1 ≤ N then M (k + 1) else y)
      rw [if_pos (by omega)]
      by_cases e : k + 1 ≤ N
      · rw [if_pos e]
        exact m2 k (by omega)
      · rw [if_neg e, show k = N by omega]
        exact y2
theorem q_forE {c : q_C} {s w : q_S} (hd : q_dS w) (hl : ∀ (Kn : List Value → q_M → Prop) (Kr : Option Value → q_M → Prop) (I : Nat → List Value → q_M → Prop) (_ : ∀ n env μ, I n env μ → c env μ (fun μ' => s env μ' (fun e m => ∃ k, k < n ∧ I k e m) Kr) (fun μ' => Kn env μ')), ∀ n env μ, I n env μ → w env μ Kn Kr)
    (E : Nat → List Value) (mem : (Nat → Int → Int) → q_M) (P : Nat → (Nat → Int → Int) → Prop) (N : Nat) (G : Nat → Int → Int) (h0 : P 0 G)
    (step : ∀ k : Nat, k < N → ∀ G, P k G → ∃ G', P (k + 1) G' ∧ ∀ (Kn : List Value → q_M → Prop) (Kf : q_M → Prop), Kn (E (k + 1)) (mem G') → c (E k) (mem G) (fun μ' => s (E k) μ' Kn (fun _ _ => False)) Kf)
    (last : ∀ G, P N G → ∀ (Kt Kf : q_M → Prop), Kf (mem G) → c (E N) (mem G) Kt Kf) : ∃ G', P N G' ∧ ∀ (Kn : List Value → q_M → Prop) (Kr : Option Value → q_M → Prop), w (E 0) (mem G) Kn Kr = Kn (E N) (mem G') := by
  obtain ⟨M, m0, m1, m2⟩ := seq_ex P (fun k G G' => ∀ (Kn : List Value → q_M → Prop) (Kf : q_M → Prop), Kn (E (k + 1)) (mem G') → c (E k) (mem G) (fun μ' => s (E k) μ' Kn (fun _ _ => False)) Kf) G N h0 step
  refine ⟨M N, m1 N (Nat.le_refl _), fun Kn Kr => ?_⟩
  have f := q_for hd hl E (fun k => mem (M k)) N (fun k hk Kn Kf h => m2 k hk Kn Kf h) (last (M N) (m1 N (Nat.le_refl _))) Kn Kr
  rw [m0] at f
  exact f
end
section
/-! readings, counted up to 1000: what the two tables have in common -/
def sumN (F : Int → Int) (lo : Int) : Nat → Int
  | 0 => 0
  | n + 1 => sumN F lo n + F (lo + n)
theorem sumN_congr {F F' : Int → Int} {lo : Int} : ∀ {n : Nat}, (∀ k : Nat, k < n → F (lo + k) = F' (lo + k)) → sumN F lo n = sumN F' lo n := by
  intro n
  induction n with
  | zero => intro _; rfl
  | succ n ih =>
    intro h
    rw [sumN, sumN, ih (fun k hk => h k (by omega)), h n (by omega)]
theorem sumN_nn {F : Int → Int} {lo : Int} : ∀ {n : Nat}, (∀ k : Nat, k < n → 0 ≤ F (lo + k)) → 0 ≤ sumN F lo n := by
  intro n
  induction n with
  | zero => intro _; exact Int.le_refl 0
  | succ n ih =>
    intro h
    have h1 := ih (fun k hk => h k (by omega))
    have h2 := h n (by omega)
    rw [sumN]
    omega
theorem sumN_pos {F : Int → Int} {lo : Int} : ∀ {n : Nat}, (∀ k : Nat, k < n → 0 ≤ F (lo + k)) → (0 < sumN F lo n ↔ ∃ k : Nat, k < n ∧ 0 < F (lo + k)) := by
  intro n
  induction n with
  | zero => intro _; exact ⟨fun h => absurd h (by show ¬ (0 : Int) < 0; omega), fun ⟨k, hk, _⟩ => absurd hk (by omega)⟩
  | succ n ih =>
    intro h
    have h1 := ih (fun k hk => h k (by omega))
    have h2 := h n (by omega)
    have h3 := sumN_nn (fun k hk => h k (by omega) : ∀ k : Nat, k < n → 0 ≤ F (lo + k))
    rw [sumN]
    constructor
    · intro h4
      by_cases h5 : 0 < F (lo + n)
      · exact ⟨n, by omega, h5⟩
      · obtain ⟨k, hk, h6⟩ := h1.mp (by omega)
        exact ⟨k, by omega, h6⟩
    · intro ⟨k, hk, h4⟩
      by_cases h5 : k = n
      · subst h5
        omega
      · have := h1.mpr ⟨k, by omega, h4⟩
        omega
theorem sumN_zero {F : Int → Int} {lo : Int} {n : Nat} (h : ∀ k : Nat, k < n → F (lo + k) = 0) : sumN F lo n = 0 := by
  induction n with
  | zero => rfl
  | succ n ih => rw [sumN, ih (fun k hk => h k (by omega)), h n (by omega)]; rfl
/-- in how many ways the items read the cells from p to 'to', up to 1000 -/
def rW (wy : Int → Int → Int → Int) (ft : Int → Int → Bool) (to : Int) : List Int → Int → Int
  | [], p => if p = to then 1 else 0
  | it :: r, p => if 60 ≤ it then min 1000 (sumN (fun q => wy (it - 60) p q * rW wy ft to r q) (p + 1) (to - p).toNat) else if p < to ∧ ft it p then rW wy ft to r (p + 1) else 0
theorem rW_end {wy : Int → Int → Int → Int} {ft : Int → Int → Bool} {to it : Int} {r : List Int} : rW wy ft to (it :: r) to = 0 := by
  rw [rW]
  by_cases h : 60 ≤ it
  · rw [if_pos h, show (to - to).toNat = 0 by omega]
    rfl
  · rw [if_neg h, if_neg (by omega)]
theorem rW_b {wy : Int → Int → Int → Int} {ft : Int → Int → Bool} {to : Int} {l : List Int} : ∀ {p : Int}, (∀ s a b, p ≤ a → a < b → b ≤ to → 0 ≤ wy s a b) → p ≤ to → 0 ≤ rW wy ft to l p ∧ rW wy ft to l p ≤ 1000 := by
  induction l with
  | nil =>
    intro p _ _
    rw [rW]
    split <;> omega
  | cons it r ih =>
    intro p hw hp
    rw [rW]
    by_cases h : 60 ≤ it
    · rw [if_pos h]
      have h1 : 0 ≤ sumN (fun q => wy (it - 60) p q * rW wy ft to r q) (p + 1) (to - p).toNat := by
        refine sumN_nn fun k hk => ?_
        have h2 := hw (it - 60) p (p + 1 + k) (by omega) (by omega) (by omega)
        have h3 := ih (p := p + 1 + k) (fun s a b q1 q2 q3 => hw s a b (by omega) q2 q3) (by omega)
        exact Int.mul_nonneg h2 h3.1
      omega
    · rw [if_neg h]
      by_cases h2 : p < to ∧ ft it p
      · rw [if_pos h2]
        exact ih (fun s a b q1 q2 q3 => hw s a b (by omega) q2 q3) (by omega)
      · rw [if_neg h2]
        omega
theorem rW_congr {wy wy' : Int → Int → Int → Int} {ft : Int → Int → Bool} {to : Int} {l : List Int} : ∀ {p : Int}, (∀ s a b, p ≤ a → a < b → b ≤ to → wy s a b = wy' s a b) → rW wy ft to l p = rW wy' ft to l p := by
  induction l with
  | nil => intro p _; rfl
  | cons it r ih =>
    intro p hw
    rw [rW, rW]
    by_cases h : 60 ≤ it
    · rw [if_pos h, if_pos h, sumN_congr fun k hk => ?_]
      rw [hw (it - 60) p (p + 1 + k) (by omega) (by omega) (by omega), ih (p := p + 1 + k) fun s a b q1 q2 q3 => hw s a b (by omega) q2 q3]
    · rw [if_neg h, if_neg h]
      by_cases h2 : p < to ∧ ft it p
      · rw [if_pos h2, if_pos h2, ih fun s a b q1 q2 q3 => hw s a b (by omega) q2 q3]
      · rw [if_neg h2, if_neg h2]
/-- at the head of a form: the whole span is asked of a sort alone only where that sort is all that there is -/
theorem rW_head {wy wy' : Int → Int → Int → Int} {ft : Int → Int → Bool} {i j : Int} {l : List Int} (hl : l ≠ []) (hw : ∀ s a b, i ≤ a → a < b → b ≤ j → b - a < j - i → wy s a b = wy' s a b) (h1 : ∀ it, l = [it] → 60 ≤ it → wy (it - 60) i j = wy' (it - 60) i j) : rW wy ft j l i = rW wy' ft j l i := by
  cases l with
  | nil => exact absurd rfl hl
  | cons it r =>
    rw [rW, rW]
    by_cases h : 60 ≤ it
    · rw [if_pos h, if_pos h, sumN_congr fun k hk => ?_]
      have e2 : rW wy ft j r (i + 1 + k) = rW wy' ft j r (i + 1 + k) := rW_congr fun s a b q1 q2 q3 => hw s a b (by omega) q2 q3 (by omega)
      by_cases h2 : i + 1 + (k : Int) = j
      · cases r with
        | nil =>
          rw [h2, h1 it rfl h]
          rfl
        | cons it2 r2 => rw [h2, rW_end, rW_end, Int.mul_zero, Int.mul_zero]
      · rw [hw (it - 60) i (i + 1 + k) (by omega) (by omega) (by omega) (by omega), e2]
    · rw [if_neg h, if_neg h]
      by_cases h2 : i < j ∧ ft it i
      · rw [if_pos h2, if_pos h2]
        exact rW_congr fun s a b q1 q2 q3 => hw s a b (by omega) q2 q3 (by omega)
      · rw [if_neg h2, if_neg h2]
/-- the table of ways: sort s on the cells from i to j -/
def WOk (nf : Int) (sf : Int → Int) (fi : Int → List Int) (ft : Int → Int → Bool) (n : Int) (wy : Int → Int → Int → Int) : Prop :=
  ∀ s i j : Int, 0 ≤ s → s ≤ 5 → 0 ≤ i → i < j → j ≤ n → wy s i j = min 1000 (sumN (fun f => if sf f = s then rW wy ft j (fi f) i else 0) 0 nf.toNat)
/-- forms as they may be: some item, sorts 0 to 5, one that is a sort alone leads upwards -/
def FOk (nf : Int) (sf : Int → Int) (fi : Int → List Int) : Prop := ∀ f : Int, 0 ≤ f → f < nf → fi f ≠ [] ∧ (∀ it ∈ fi f, it ≤ 65) ∧ ∀ it, fi f = [it] → 60 ≤ it → sf f < it - 60
theorem sumF {nf : Int} {F F' : Int → Int} (h : ∀ f : Int, 0 ≤ f → f < nf → F f = F' f) : sumN F 0 nf.toNat = sumN F' 0 nf.toNat := sumN_congr fun k hk => h (0 + k) (by omega) (by omega)
theorem W_one {nf n : Int} {sf : Int → Int} {fi : Int → List Int} {ft : Int → Int → Bool} {wy wy' : Int → Int → Int → Int} (hF : FOk nf sf fi) (h1 : WOk nf sf fi ft n wy) (h2 : WOk nf sf fi ft n wy')
    (hx : ∀ s a b, ¬ (0 ≤ s ∧ s ≤ 5) → wy s a b = wy' s a b) : ∀ (d : Nat) (i j s : Int), 0 ≤ i → i < j → j ≤ n → (j - i).toNat ≤ d → wy s i j = wy' s i j := by
  intro d
  induction d with
  | zero => intro i j s h3 h4 h5 h6; omega
  | succ d ihd =>
    intro i j s h3 h4 h5 h6
    have key : ∀ (m : Nat) (s : Int), 0 ≤ s → s ≤ 5 → (5 - s).toNat ≤ m → wy s i j = wy' s i j := by
      intro m
      induction m with
      | zero =>
        intro s q1 q2 q3
        rw [h1 s i j q1 q2 h3 h4 h5, h2 s i j q1 q2 h3 h4 h5]
        congr 1
        refine sumF fun f q4 q5 => ?_
        by_cases e : sf f = s
        · rw [if_pos e, if_pos e]
          have g := hF f q4 q5
          refine rW_head g.1 (fun s a b w1 w2 w3 w4 => ihd a b s (by omega) w2 (by omega) (by omega)) fun it w1 w2 => ?_
          have := g.2.2 it w1 w2
          exact hx _ _ _ (by omega)
        · rw [if_neg e, if_neg e]
      | succ m ihm =>
        intro s q1 q2 q3
        rw [h1 s i j q1 q2 h3 h4 h5, h2 s i j q1 q2 h3 h4 h5]
        congr 1
        refine sumF fun f q4 q5 => ?_
        by_cases e : sf f = s
        · rw [if_pos e, if_pos e]
          have g := hF f q4 q5
          refine rW_head g.1 (fun s a b w1 w2 w3 w4 => ihd a b s (by omega) w2 (by omega) (by omega)) fun it w1 w2 => ?_
          have g3 := g.2.2 it w1 w2
          have g4 := g.2.1 it (by rw [w1]; exact List.mem_cons_self)
          exact ihm _ (by omega) (by omega) (by omega)
        · rw [if_neg e, if_neg e]
    by_cases hs : 0 ≤ s ∧ s ≤ 5
    · exact key _ s hs.1 hs.2 (Nat.le_refl _)
    · exact hx s i j hs
end
