section
/-! idle: sets of sorts as numbers -/
def neN (c : Int → Int) : Nat → Nat
  | 0 => 0
  | k + 1 => neN c k ||| (if 60 ≤ c k then 2 ^ (c k - 60).toNat else 0)
theorem neN_s (c : Int → Int) (k : Nat) : neN c (k + 1) = neN c k ||| (if 60 ≤ c k then 2 ^ (c k - 60).toNat else 0) := by rw [neN]
theorem p2_b {k : Nat} (h : k < 6) : 2 ^ k < 64 := by
  have : 2 ^ k ≤ 2 ^ 5 := Nat.pow_le_pow_right (by omega) (by omega)
  omega
theorem or_b {a b : Nat} (ha : a < 64) (hb : b < 64) : a ||| b < 64 := Nat.or_lt_two_pow (n := 6) ha hb
theorem neN_b {c : Int → Int} : ∀ {n : Nat}, (∀ k : Nat, k < n → c k ≤ 65) → neN c n < 64 := by
  intro n
  induction n with
  | zero => intro _; show (0 : Nat) < 64; omega
  | succ n ih =>
    intro h
    rw [neN_s]
    have a := ih (fun k hk => h k (by omega))
    refine or_b a ?_
    have := h n (by omega)
    split
    · exact p2_b (by omega)
    · omega
theorem neN_congr {c c' : Int → Int} : ∀ {n : Nat}, (∀ k : Nat, k < n → c k = c' k) → neN c n = neN c' n := by
  intro n
  induction n with
  | zero => intro _; rfl
  | succ n ih =>
    intro h
    rw [neN_s, neN_s, ih (fun k hk => h k (by omega)), h n (by omega)]
def andn (a m : Nat) : Nat := a &&& (63 ^^^ m)
theorem gandn : ∀ a m : Fin 64, q_giand (zI (a.val : Int)) (q_gixor (zI (m.val : Int)) (zI (-1))) = zI ((andn a.val m.val : Nat) : Int) := by decide +kernel
theorem andn_0 : ∀ a m : Fin 64, (andn a.val m.val = 0 ↔ a.val ||| m.val = m.val) ∧ andn a.val m.val < 64 := by decide +kernel
theorem pop_or : ∀ a b : Fin 64, a.val ||| b.val = b.val → ¬ a.val = b.val → pop a.val + 1 ≤ pop b.val := by decide +kernel
theorem pop_6 : ∀ a : Fin 64, 0 ≤ pop a.val ∧ pop a.val ≤ 6 := by decide +kernel
theorem k_andn {a m : Nat} {μ : q_M} {K : Int32 → q_M → Prop} (ha : a < 64) (hm : m < 64) : opK (q_giand (zI (a : Int)) (q_gixor (zI (m : Int)) (zI (-1)))) μ K = K (zI ((andn a m : Nat) : Int)) μ := by
  have := gandn ⟨a, ha⟩ ⟨m, hm⟩
  rw [this]
  rfl
theorem k_orn {a b : Nat} {μ : q_M} {K : Int32 → q_M → Prop} (ha : a < 64) (hb : b < 64) : opK (q_gior (zI (a : Int)) (zI (b : Int))) μ K = K (zI ((a ||| b : Nat) : Int)) μ := by
  rw [gor (by omega) (by omega)]
  rfl
theorem k_shln {x : Int} {k : Nat} {μ : q_M} {K : Int32 → q_M → Prop} (hx : x = k) (hk : k < 8) : opK (q_gishl (zI 1) (zI x)) μ K = K (zI ((2 ^ k : Nat) : Int)) μ := by
  have := gshl ⟨k, hk⟩
  rw [hx, this]
  rfl
theorem k_xorr {u v : Int32} {μ : q_M} {K : Int32 → q_M → Prop} : opK (q_gixor u v) μ K = K (q_gixor u v) μ := rfl
theorem k_tb {m k : Nat} {x : Int} {μ : q_M} {K : Int32 → q_M → Prop} (hm : m < 64) (hk : k < 6) (hx : x = k) : opK (q_giand (q_gishr (zI (m : Int)) (zI x)) (zI 1)) μ K = K (zI (if m.testBit k then 1 else 0)) μ := by
  have := tb_val ⟨m, hm⟩ ⟨k, hk⟩
  rw [hx, this]
  rfl
/-- forms: F of them, form f of sort s f, with needs n f -/
def abF (s n : Nat → Nat) (m : Nat) : Nat → Nat
  | 0 => m
  | f + 1 => abF s n m f ||| (if n f ||| abF s n m f = abF s n m f then 2 ^ s f else 0)
theorem abF_s (s n : Nat → Nat) (m f : Nat) : abF s n m (f + 1) = abF s n m f ||| (if n f ||| abF s n m f = abF s n m f then 2 ^ s f else 0) := by rw [abF]
def rcF (s n : Nat → Nat) (ab m : Nat) : Nat → Nat
  | 0 => m
  | f + 1 => rcF s n ab m f ||| (if (rcF s n ab m f).testBit (s f) = true ∧ n f ||| ab = ab then n f else 0)
theorem rcF_s (s n : Nat → Nat) (ab m f : Nat) : rcF s n ab m (f + 1) = rcF s n ab m f ||| (if (rcF s n ab m f).testBit (s f) = true ∧ n f ||| ab = ab then n f else 0) := by rw [rcF]
def itn (g : Nat → Nat) (x : Nat) : Nat → Nat
  | 0 => x
  | k + 1 => g (itn g x k)
theorem itn_s (g : Nat → Nat) (x k : Nat) : itn g x (k + 1) = g (itn g x k) := rfl
/-- the set of forms that are not used, x f the sorts reached as form f is looked at -/
def idI (x s n : Nat → Nat) (ab : Nat) : Nat → Int32
  | 0 => zI 0
  | f + 1 => q_gior (idI x s n ab f) (if (x f).testBit (s f) = true ∧ n f ||| ab = ab then zI 0 else q_gishl (zI 1) (zI (f : Int)))
theorem idI_s (x s n : Nat → Nat) (ab f : Nat) : idI x s n ab (f + 1) = q_gior (idI x s n ab f) (if (x f).testBit (s f) = true ∧ n f ||| ab = ab then zI 0 else q_gishl (zI 1) (zI (f : Int))) := by rw [idI]
theorem or_id (a : Nat) : a ||| a = a := Nat.or_self a
theorem sub_or (a b : Nat) : a ||| (a ||| b) = a ||| b := by rw [← Nat.or_assoc, Nat.or_self]
theorem sub_tr {a b c : Nat} (h : a ||| b = b) (k : b ||| c = c) : a ||| c = c := by rw [← k, ← Nat.or_assoc, h]
theorem sub_eq {a b : Nat} (h : a ||| b = b) (k : b ||| a = a) : a = b := by rw [← k, Nat.or_comm b a, h]
theorem abF_b {s n : Nat → Nat} {m : Nat} (hm : m < 64) : ∀ F : Nat, (∀ f, f < F → s f < 6) → abF s n m F < 64 := by
  intro F
  induction F with
  | zero => intro _; exact hm
  | succ F ih =>
    intro h
    rw [abF_s]
    refine or_b (ih (fun f hf => h f (by omega))) ?_
    split
    · exact p2_b (h F (by omega))
    · omega
theorem rcF_b {s n : Nat → Nat} {ab m : Nat} (hm : m < 64) : ∀ F : Nat, (∀ f, f < F → n f < 64) → rcF s n ab m F < 64 := by
  intro F
  induction F with
  | zero => intro _; exact hm
  | succ F ih =>
    intro h
    rw [rcF_s]
    refine or_b (ih (fun f hf => h f (by omega))) ?_
    split
    · exact h F (by omega)
    · omega
theorem abF_up {s n : Nat → Nat} {m : Nat} : ∀ d f : Nat, abF s n m f ||| abF s n m (f + d) = abF s n m (f + d) := by
  intro d
  induction d with
  | zero => intro f; exact or_id _
  | succ d ih =>
    intro f
    refine sub_tr (ih f) ?_
    rw [show f + (d + 1) = f + d + 1 by omega, abF_s]
    exact sub_or _ _
theorem rcF_up {s n : Nat → Nat} {ab m : Nat} : ∀ d f : Nat, rcF s n ab m f ||| rcF s n ab m (f + d) = rcF s n ab m (f + d) := by
  intro d
  induction d with
  | zero => intro f; exact or_id _
  | succ d ih =>
    intro f
    refine sub_tr (ih f) ?_
    rw [show f + (d + 1) = f + d + 1 by omega, rcF_s]
    exact sub_or _ _
/-- six turns are enough -/
theorem fix6 {g : Nat → Nat} {x : Nat} (hx : x < 64) (hg : ∀ y, y < 64 → g y < 64 ∧ y ||| g y = g y) : g (itn g x 6) = itn g x 6 := by
  have hb : ∀ k, itn g x k < 64 := by
    intro k
    induction k with
    | zero => exact hx
    | succ k ih => exact (hg _ ih).1
  refine Classical.byContradiction fun h => ?_
  have ne : ∀ k, k ≤ 6 → ¬ g (itn g x k) = itn g x k := fun k hk e => h (by
    have : ∀ d, itn g x (k + d) = itn g x k := by
      intro d
      induction d with
      | zero => rfl
      | succ d ih =>
        rw [show k + (d + 1) = k + d + 1 by omega, itn_s, ih, e]
    have e6 := this (6 - k)
    rw [show k + (6 - k) = 6 by omega] at e6
    rw [e6]
    exact e)
  have up : ∀ k : Nat, k ≤ 7 → (k : Int) ≤ pop (itn g x k) := by
    intro k
    induction k with
    | zero => intro _; exact (pop_6 ⟨_, hb 0⟩).1
    | succ k ih =>
      intro hk
      have a := ih (by omega)
      have b := pop_or ⟨itn g x k, hb k⟩ ⟨itn g x (k + 1), hb (k + 1)⟩ (hg _ (hb k)).2 (fun e => ne k (by omega) e.symm)
      have b : pop (itn g x k) + 1 ≤ pop (itn g x (k + 1)) := b
      omega
  have a := up 7 (by omega)
  have b := (pop_6 ⟨_, hb 7⟩).2
  have b : pop (itn g x 7) ≤ 6 := b
  omega
def ables (s n : Nat → Nat) (F : Nat) : Nat := itn (fun m => abF s n m F) 0 6
theorem ables_b {s n : Nat → Nat} {F : Nat} (hs : ∀ f, f < F → s f < 6) : ∀ k, itn (fun m => abF s n m F) 0 k < 64 := by
  intro k
  induction k with
  | zero => show (0 : Nat) < 64; omega
  | succ k ih => exact abF_b ih F hs
theorem ables_fix {s n : Nat → Nat} {F : Nat} (hs : ∀ f, f < F → s f < 6) : abF s n (ables s n F) F = ables s n F := fix6 (g := fun m => abF s n m F) (by omega) (fun y hy => ⟨abF_b hy F hs, by have := abF_up (s := s) (n := n) (m := y) F 0; rw [Nat.zero_add] at this; exact this⟩)
theorem tb_p2 (k : Nat) : (2 ^ k).testBit k = true := by rw [Nat.testBit_two_pow_self]
theorem tb_or {a b : Nat} (k : Nat) (h : a ||| b = b) (ha : a.testBit k = true) : b.testBit k = true := by
  rw [← h, Nat.testBit_or, ha]
  rfl
/-- a form within what is able makes its sort able -/
theorem ables_in {s n : Nat → Nat} {F f : Nat} (hs : ∀ f, f < F → s f < 6) (hf : f < F) (h : n f ||| ables s n F = ables s n F) : (ables s n F).testBit (s f) = true := by
  have fx := ables_fix (n := n) hs
  have lo := abF_up (s := s) (n := n) (m := ables s n F) f 0
  have hi := abF_up (s := s) (n := n) (m := ables s n F) (F - f) f
  rw [Nat.zero_add] at lo
  rw [show f + (F - f) = F by omega, fx] at hi
  have e : abF s n (ables s n F) f = ables s n F := (sub_eq lo hi).symm
  have hi2 := abF_up (s := s) (n := n) (m := ables s n F) (F - (f + 1)) (f + 1)
  rw [show f + 1 + (F - (f + 1)) = F by omega, fx, abF_s, e, if_pos h] at hi2
  refine tb_or (s f) ?_ (tb_p2 (s f))
  refine sub_tr ?_ hi2
  rw [Nat.or_comm (ables s n F), sub_or]
def rch1 (s n : Nat → Nat) (ab F x : Nat) (k : Nat) : Nat := itn (fun m => rcF s n ab m F) x k
theorem rch1_b {s n : Nat → Nat} {ab F x : Nat} (hx : x < 64) (hn : ∀ f, f < F → n f < 64) : ∀ k, rch1 s n ab F x k < 64 := by
  intro k
  induction k with
  | zero => exact hx
  | succ k ih => exact rcF_b ih F hn
theorem rch1_fix {s n : Nat → Nat} {ab F x : Nat} (hx : x < 64) (hn : ∀ f, f < F → n f < 64) : ∀ f, f ≤ F → rcF s n ab (rch1 s n ab F x 6) f = rch1 s n ab F x 6 := by
  intro f hf
  have fx : rcF s n ab (rch1 s n ab F x 6) F = rch1 s n ab F x 6 := fix6 (g := fun m => rcF s n ab m F) hx (fun y hy => ⟨rcF_b hy F hn, by have := rcF_up (s := s) (n := n) (ab := ab) (m := y) F 0; rw [Nat.zero_add] at this; exact this⟩)
  have lo := rcF_up (s := s) (n := n) (ab := ab) (m := rch1 s n ab F x 6) f 0
  have hi := rcF_up (s := s) (n := n) (ab := ab) (m := rch1 s n ab F x 6) (F - f) f
  rw [Nat.zero_add] at lo
  rw [show f + (F - f) = F by omega, fx] at hi
  exact (sub_eq lo hi).symm
theorem idI_congr {x x' s n : Nat → Nat} {ab : Nat} : ∀ F : Nat, (∀ f, f < F → ((x f).testBit (s f) = true ∧ n f ||| ab = ab ↔ (x' f).testBit (s f) = true ∧ n f ||| ab = ab)) → idI x s n ab F = idI x' s n ab F := by
  intro F
  induction F with
  | zero => intro _; rfl
  | succ F ih =>
    intro h
    rw [idI_s, idI_s, ih (fun f hf => h f (by omega))]
    have e := h F (by omega)
    by_cases g : (x F).testBit (s F) = true ∧ n F ||| ab = ab
    · rw [if_pos g, if_pos (e.mp g)]
    · rw [if_neg g, if_neg (fun z => g (e.mpr z))]
/-- where the first sort isn't able nothing more is reached -/
theorem rcF_none {s n : Nat → Nat} {F m : Nat} (hs : ∀ f, f < F → s f < 6) (h0 : ¬ (ables s n F).testBit 0 = true) (hm : m = 0 ∨ m = 1) : ∀ f, f ≤ F → rcF s n (ables s n F) m f = m := by
  intro f
  induction f with
  | zero => intro _; rfl
  | succ f ih =>
    intro hf
    rw [rcF_s, ih (by omega), if_neg, Nat.or_zero]
    intro ⟨a, b⟩
    have c := ables_in hs (by omega) b
    rcases hm with e | e
    · rw [e, Nat.zero_testBit] at a
      exact absurd a (by decide)
    · have : s f = 0 := by
        by_cases z : s f = 0
        · exact z
        · rw [e, show (1 : Nat) = 2 ^ 0 by rfl, Nat.testBit_two_pow] at a
          have := of_decide_eq_true a
          omega
      rw [this] at c
      exact h0 c
/-- what the class answers is what the reference answers -/
theorem idle_eq {s n : Nat → Nat} {F : Nat} (hs : ∀ f, f < F → s f < 6) (hn : ∀ f, f < F → n f < 64) :
    idI (fun _ => rch1 s n (ables s n F) F 1 6) s n (ables s n F) F = idI (fun f => rcF s n (ables s n F) (rch1 s n (ables s n F) F (if (ables s n F).testBit 0 = true then 1 else 0) 6) f) s n (ables s n F) F := by
  refine idI_congr F fun f hf => ?_
  by_cases h0 : (ables s n F).testBit 0 = true
  · rw [if_pos h0, rch1_fix (by omega) hn f (by omega)]
  · rw [if_neg h0]
    have r : ∀ m, m = 0 ∨ m = 1 → ∀ k, rch1 s n (ables s n F) F m k = m := by
      intro m hm k
      induction k with
      | zero => rfl
      | succ k ih =>
        show rcF s n (ables s n F) (rch1 s n (ables s n F) F m k) F = m
        rw [ih]
        exact rcF_none hs h0 hm F (Nat.le_refl _)
    rw [r 1 (Or.inr rfl), r 0 (Or.inl rfl), rcF_none hs h0 (Or.inl rfl) f (by omega)]
    constructor
    · intro ⟨a, b⟩
      exfalso
      have c := rcF_none (m := 1) hs h0 (Or.inr rfl) (f + 1) (by omega)
      have z : s f = 0 := by
        by_cases z : s f = 0
        · exact z
        · rw [show (1 : Nat) = 2 ^ 0 by rfl, Nat.testBit_two_pow] at a
          have := of_decide_eq_true a
          omega
      have d := ables_in hs hf b
      rw [z] at d
      exact h0 d
    · intro ⟨a, _⟩
      rw [Nat.zero_testBit] at a
      exact absurd a (by decide)
end
