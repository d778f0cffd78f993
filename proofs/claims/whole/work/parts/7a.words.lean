section
/-! a row of codes that is a tree: how many places wait before each piece -/
def dd (ns c : Int → Int) : Nat → Int
  | 0 => 1
  | k + 1 => dd ns c k - 1 + if 1000 ≤ c k then ns (c k - 1000) else 0
def D (ns c : Int → Int) (p : Int) : Int := dd ns c p.toNat
theorem D_0 (ns c : Int → Int) : D ns c 0 = 1 := rfl
theorem D_n {ns c : Int → Int} {p : Int} (h0 : 0 ≤ p) (h : 1000 ≤ c p) : D ns c (p + 1) = D ns c p - 1 + ns (c p - 1000) := by
  unfold D
  rw [show (p + 1).toNat = p.toNat + 1 by omega, dd, Int.toNat_of_nonneg h0, if_pos h]
theorem D_l {ns c : Int → Int} {p : Int} (h0 : 0 ≤ p) (h : ¬ 1000 ≤ c p) : D ns c (p + 1) = D ns c p - 1 := by
  unfold D
  rw [show (p + 1).toNat = p.toNat + 1 by omega, dd, Int.toNat_of_nonneg h0, if_neg h]
  omega
/-- a row of n pieces -/
def Wd (ns c : Int → Int) (n : Int) : Prop := 1 ≤ n ∧ n ≤ 201 ∧ (∀ p, 0 ≤ p → p < n → 1 ≤ D ns c p) ∧ D ns c n = 0 ∧ ∀ p, 0 ≤ p → p < n → 1000 ≤ c p → 0 ≤ ns (c p - 1000)
theorem D_step {ns c : Int → Int} {n : Int} (w : Wd ns c n) {p : Int} (h0 : 0 ≤ p) (h1 : p < n) : D ns c p - 1 ≤ D ns c (p + 1) := by
  by_cases g : 1000 ≤ c p
  · rw [D_n h0 g]
    have := w.2.2.2.2 p h0 h1 g
    omega
  · rw [D_l h0 g]
    omega
/-- the first place from q on below b -/
def sE (d : Int → Int) (b : Int) : Nat → Int → Int
  | 0, q => q
  | k + 1, q => if d q < b then q else sE d b k (q + 1)
theorem sE_f (d : Int → Int) (b : Int) : ∀ (k : Nat) (q m : Int), q ≤ m → m < q + k → d m < b → q ≤ sE d b k q ∧ sE d b k q ≤ m ∧ d (sE d b k q) < b ∧ ∀ x, q ≤ x → x < sE d b k q → ¬ d x < b := by
  intro k
  induction k with
  | zero => intro q m h1 h2; omega
  | succ k ih =>
    intro q m h1 h2 h3
    rw [sE]
    by_cases g : d q < b
    · rw [if_pos g]
      exact ⟨Int.le_refl _, h1, g, fun x x1 x2 => by omega⟩
    · rw [if_neg g]
      have hqm : ¬ q = m := fun e => g (by rw [e]; exact h3)
      obtain ⟨a1, a2, a3, a4⟩ := ih (q + 1) m (by omega) (by omega) h3
      refine ⟨by omega, a2, a3, fun x x1 x2 => ?_⟩
      by_cases e : x = q
      · rw [e]; exact g
      · exact a4 x (by omega) x2
/-- the last place from q down that is not above b -/
def sU (d : Int → Int) (b : Int) : Nat → Int → Int
  | 0, q => q
  | k + 1, q => if d q ≤ b then q else sU d b k (q - 1)
theorem sU_f (d : Int → Int) (b : Int) : ∀ (k : Nat) (q m : Int), m ≤ q → q < m + k → d m ≤ b → m ≤ sU d b k q ∧ sU d b k q ≤ q ∧ d (sU d b k q) ≤ b ∧ ∀ x, sU d b k q < x → x ≤ q → ¬ d x ≤ b := by
  intro k
  induction k with
  | zero => intro q m h1 h2; omega
  | succ k ih =>
    intro q m h1 h2 h3
    rw [sU]
    by_cases g : d q ≤ b
    · rw [if_pos g]
      exact ⟨h1, Int.le_refl _, g, fun x x1 x2 => by omega⟩
    · rw [if_neg g]
      have hqm : ¬ q = m := fun e => g (by rw [e]; exact h3)
      obtain ⟨a1, a2, a3, a4⟩ := ih (q - 1) m (by omega) (by omega) h3
      refine ⟨a1, by omega, a3, fun x x1 x2 => ?_⟩
      by_cases e : x = q
      · rw [e]; exact g
      · exact a4 x x1 (by omega)
def eE (ns c : Int → Int) (p : Int) : Int := sE (D ns c) (D ns c p) 202 (p + 1)
def uU (ns c : Int → Int) (p : Int) : Int := if p = 0 then -1 else sU (D ns c) (D ns c p) 202 (p - 1)
def sS (ns c : Int → Int) (p : Int) : Int := if p = 0 then 0 else D ns c (uU ns c p) - 1 + ns (c (uU ns c p) - 1000) - D ns c p
theorem eE_f {ns c : Int → Int} {n : Int} (w : Wd ns c n) {p : Int} (h0 : 0 ≤ p) (h1 : p < n) : p < eE ns c p ∧ eE ns c p ≤ n ∧ D ns c (eE ns c p) = D ns c p - 1 ∧ ∀ x, p < x → x < eE ns c p → D ns c p ≤ D ns c x := by
  obtain ⟨w1, w2, w3, w4, w5⟩ := w
  have pp := w3 p h0 h1
  obtain ⟨a1, a2, a3, a4⟩ := sE_f (D ns c) (D ns c p) 202 (p + 1) n (by omega) (by omega) (by omega)
  have a1 : p + 1 ≤ eE ns c p := a1
  have a2 : eE ns c p ≤ n := a2
  have a3 : D ns c (eE ns c p) < D ns c p := a3
  have a4 : ∀ x, p + 1 ≤ x → x < eE ns c p → ¬ D ns c x < D ns c p := a4
  refine ⟨by omega, a2, ?_, fun x x1 x2 => by have := a4 x (by omega) x2; omega⟩
  have st := D_step ⟨w1, w2, w3, w4, w5⟩ (p := eE ns c p - 1) (by omega) (by omega)
  rw [show eE ns c p - 1 + 1 = eE ns c p by omega] at st
  by_cases e : eE ns c p - 1 = p
  · rw [e] at st
    omega
  · have := a4 (eE ns c p - 1) (by omega) (by omega)
    omega
/-- what is first below is the end -/
theorem eE_is {ns c : Int → Int} {n : Int} (w : Wd ns c n) {p q : Int} (h0 : 0 ≤ p) (h1 : p < n) (h2 : p < q) (h3 : q ≤ n) (h4 : D ns c q < D ns c p) (h5 : ∀ x, p < x → x < q → D ns c p ≤ D ns c x) : eE ns c p = q := by
  obtain ⟨a1, a2, a3, a4⟩ := eE_f w h0 h1
  by_cases g : eE ns c p < q
  · have := h5 _ a1 g
    omega
  · by_cases g2 : q < eE ns c p
    · have := a4 _ h2 g2
      omega
    · omega
theorem uU_f {ns c : Int → Int} {n : Int} (w : Wd ns c n) {p : Int} (h0 : 0 < p) (h1 : p < n) : 0 ≤ uU ns c p ∧ uU ns c p < p ∧ D ns c (uU ns c p) ≤ D ns c p ∧ (∀ x, uU ns c p < x → x < p → D ns c p < D ns c x) ∧ 1000 ≤ c (uU ns c p) ∧ 0 ≤ sS ns c p ∧ sS ns c p < ns (c (uU ns c p) - 1000) ∧ D ns c p = D ns c (uU ns c p) - 1 + ns (c (uU ns c p) - 1000) - sS ns c p := by
  have w0 := w
  obtain ⟨w1, w2, w3, w4, w5⟩ := w
  have pp := w3 p (by omega) h1
  have d0 := D_0 ns c
  have e : uU ns c p = sU (D ns c) (D ns c p) 202 (p - 1) := by unfold uU; rw [if_neg (by omega)]
  obtain ⟨a1, a2, a3, a4⟩ := sU_f (D ns c) (D ns c p) 202 (p - 1) 0 (by omega) (by omega) (by omega)
  rw [← e] at a1 a2 a3 a4
  have es : sS ns c p = D ns c (uU ns c p) - 1 + ns (c (uU ns c p) - 1000) - D ns c p := by unfold sS; rw [if_neg (by omega)]
  have a5 : ∀ x, uU ns c p < x → x < p → D ns c p < D ns c x := fun x x1 x2 => by
    have := a4 x x1 (by omega)
    omega
  have up : D ns c p ≤ D ns c (uU ns c p + 1) := by
    by_cases g : uU ns c p + 1 = p
    · rw [g]
      exact Int.le_refl _
    · have := a5 (uU ns c p + 1) (by omega) (by omega)
      omega
  have hn : 1000 ≤ c (uU ns c p) := by
    by_cases g : 1000 ≤ c (uU ns c p)
    · exact g
    · have := D_l (ns := ns) a1 g
      omega
  have dn := D_n (ns := ns) a1 hn
  exact ⟨a1, by omega, a3, a5, hn, by omega, by omega, by omega⟩
/-- what is the last one not above is the piece that it is in -/
theorem uU_is {ns c : Int → Int} {n : Int} (w : Wd ns c n) {p q : Int} (h0 : 0 ≤ q) (h1 : q < p) (h2 : p < n) (h3 : D ns c q ≤ D ns c p) (h4 : ∀ x, q < x → x < p → D ns c p < D ns c x) : uU ns c p = q := by
  obtain ⟨a1, a2, a3, a4, _⟩ := uU_f w (p := p) (by omega) h2
  by_cases g : uU ns c p < q
  · have := a4 _ g h1
    omega
  · by_cases g2 : q < uU ns c p
    · have := h4 _ g2 a2
      omega
    · omega
theorem ch_f {ns c : Int → Int} {n : Int} (w : Wd ns c n) {q : Int} (h0 : 0 ≤ q) (h1 : q < n) (hn : 1000 ≤ c q) : ∀ i : Nat, (i : Int) ≤ ns (c q - 1000) → q < chI (eE ns c) q i ∧ chI (eE ns c) q i ≤ n ∧ D ns c (chI (eE ns c) q i) = D ns c q - 1 + ns (c q - 1000) - i ∧ ∀ x, q < x → x < chI (eE ns c) q i → D ns c (chI (eE ns c) q i) < D ns c x := by
  intro i
  induction i with
  | zero =>
    intro _
    refine ⟨by show q < q + 1; omega, by show q + 1 ≤ n; omega, ?_, fun x x1 x2 => ?_⟩
    · show D ns c (q + 1) = _
      rw [D_n h0 hn]
      omega
    · have x2 : x < q + 1 := x2
      omega
  | succ i ih =>
    intro hi
    obtain ⟨a1, a2, a3, a4⟩ := ih (by omega)
    have qq := w.2.2.1 q h0 h1
    have lt : chI (eE ns c) q i < n := by
      refine Int.not_le.mp fun g => ?_
      have : chI (eE ns c) q i = n := by omega
      rw [this, w.2.2.2.1] at a3
      omega
    obtain ⟨b1, b2, b3, b4⟩ := eE_f w (p := chI (eE ns c) q i) (by omega) lt
    have e : chI (eE ns c) q (i + 1) = eE ns c (chI (eE ns c) q i) := rfl
    rw [e]
    refine ⟨by omega, b2, by omega, fun x x1 x2 => ?_⟩
    by_cases g : x < chI (eE ns c) q i
    · have := a4 x x1 g
      omega
    · by_cases g2 : x = chI (eE ns c) q i
      · rw [g2]
        omega
      · have := b4 x (by omega) x2
        omega
theorem ch_end {ns c : Int → Int} {n : Int} (w : Wd ns c n) {q : Int} (h0 : 0 ≤ q) (h1 : q < n) (hn : 1000 ≤ c q) : chI (eE ns c) q (ns (c q - 1000)).toNat = eE ns c q := by
  have nn := w.2.2.2.2 q h0 h1 hn
  obtain ⟨a1, a2, a3, a4⟩ := ch_f w h0 h1 hn (ns (c q - 1000)).toNat (by omega)
  exact (eE_is w h0 h1 a1 a2 (by omega) (fun x x1 x2 => by have := a4 x x1 x2; omega)).symm
theorem ch_par {ns c : Int → Int} {n : Int} (w : Wd ns c n) {q : Int} (h0 : 0 ≤ q) (h1 : q < n) (hn : 1000 ≤ c q) {i : Nat} (hi : (i : Int) < ns (c q - 1000)) : chI (eE ns c) q i < n ∧ uU ns c (chI (eE ns c) q i) = q ∧ sS ns c (chI (eE ns c) q i) = i := by
  obtain ⟨a1, a2, a3, a4⟩ := ch_f w h0 h1 hn i (by omega)
  have qq := w.2.2.1 q h0 h1
  have lt : chI (eE ns c) q i < n := by
    refine Int.not_le.mp fun g => ?_
    have : chI (eE ns c) q i = n := by omega
    rw [this, w.2.2.2.1] at a3
    omega
  have u := uU_is w h0 a1 lt (by omega) (fun x x1 x2 => by have := a4 x x1 x2; omega)
  refine ⟨lt, u, ?_⟩
  unfold sS
  rw [if_neg (by omega), u]
  omega
theorem ch_is {ns c : Int → Int} {n : Int} (w : Wd ns c n) {p : Int} (h0 : 0 < p) (h1 : p < n) : chI (eE ns c) (uU ns c p) (sS ns c p).toNat = p := by
  obtain ⟨a1, a2, a3, a4, a5, a6, a7, a8⟩ := uU_f w h0 h1
  obtain ⟨b1, b2, b3, b4⟩ := ch_f w a1 (by omega) a5 (sS ns c p).toNat (by omega)
  by_cases g : p < chI (eE ns c) (uU ns c p) (sS ns c p).toNat
  · have := b4 p a2 g
    omega
  · by_cases g2 : chI (eE ns c) (uU ns c p) (sS ns c p).toNat < p
    · have := a4 _ b1 g2
      omega
    · omega
theorem nb_find (c : Int → Int) : ∀ (n : Nat) (m : Int), 0 ≤ m → m < nb c n → ∃ p : Int, 0 ≤ p ∧ p < n ∧ 1000 ≤ c p ∧ nb c p.toNat = m := by
  intro n
  induction n with
  | zero =>
    intro m h0 h1
    have h1 : m < 0 := h1
    omega
  | succ n ih =>
    intro m h0 h1
    rw [nb_s] at h1
    by_cases g : m < nb c n
    · obtain ⟨p, p0, p1, p2, p3⟩ := ih m h0 g
      exact ⟨p, p0, by omega, p2, p3⟩
    · by_cases g2 : 1000 ≤ c n
      · rw [if_pos g2] at h1
        exact ⟨n, by omega, by omega, g2, by rw [show ((n : Int)).toNat = n by omega]; omega⟩
      · rw [if_neg g2] at h1
        omega
theorem lb_find (c : Int → Int) : ∀ (n : Nat) (m : Int), 0 ≤ m → m < n - nb c n → ∃ p : Int, 0 ≤ p ∧ p < n ∧ ¬ 1000 ≤ c p ∧ p - nb c p.toNat = m := by
  intro n
  induction n with
  | zero =>
    intro m h0 h1
    have h1 : m < 0 - 0 := h1
    omega
  | succ n ih =>
    intro m h0 h1
    rw [nb_s] at h1
    by_cases g : m < n - nb c n
    · obtain ⟨p, p0, p1, p2, p3⟩ := ih m h0 g
      exact ⟨p, p0, by omega, p2, p3⟩
    · by_cases g2 : 1000 ≤ c n
      · rw [if_pos g2] at h1
        omega
      · rw [if_neg g2] at h1
        exact ⟨n, by omega, by omega, g2, by rw [show ((n : Int)).toNat = n by omega]; omega⟩
/-- arrays that tell a row's tree -/
def Ix (ns c : Int → Int) (n : Int) (e u s r na la : Int → Int) : Prop := ∀ p, 0 ≤ p → p < n → e p = eE ns c p ∧ u p = uU ns c p ∧ s p = sS ns c p ∧ (1000 ≤ c p → r p = nb c p.toNat ∧ na (nb c p.toNat) = p) ∧ (¬ 1000 ≤ c p → r p = p - nb c p.toNat ∧ la (p - nb c p.toNat) = p)
theorem chI_eqv {e e' : Int → Int} {p : Int} : ∀ {i : Nat}, (∀ k : Nat, k < i → e' (chI e p k) = e (chI e p k)) → chI e' p i = chI e p i := by
  intro i
  induction i with
  | zero => intro _; rfl
  | succ i ih =>
    intro h
    show e' (chI e' p i) = e (chI e p i)
    rw [ih (fun k hk => h k (by omega)), h i (by omega)]
/-- a row whose pieces fit their places is a tree -/
theorem Tr_words {h F : Int} {ns I c e u s r na la : Int → Int} {n N L : Int} (w : Wd ns c n) (hF : ∀ p, 0 ≤ p → p < n → 1000 ≤ c p → c p - 1000 < F) (hl : ∀ p, 0 ≤ p → p < n → ¬ 1000 ≤ c p → 20 ≤ c p) (ok : ∀ p, 0 < p → p < n → okc h (I (5 * (c (uU ns c p) - 1000) + sS ns c p)) (c p)) (ix : Ix ns c n e u s r na la) (hN : N = nb c n.toNat) (N40 : N ≤ 40) (hL : L = n - N) : Tr h F ns I n N L c e u s r na la := by
  have w1 := w.1
  have w2 := w.2.1
  have nbb := nb_b c n.toNat
  have ech : ∀ q, 0 ≤ q → q < n → 1000 ≤ c q → ∀ i : Nat, (i : Int) ≤ ns (c q - 1000) → chI e q i = chI (eE ns c) q i := fun q q0 q1 q2 i hi => chI_eqv fun k hk => by
    obtain ⟨a1, _⟩ := ch_f w q0 q1 q2 k (by omega)
    exact (ix _ (by omega) (ch_par w q0 q1 q2 (i := k) (by omega)).1).1
  refine ⟨⟨w1, w2, by omega, N40, by omega, by omega, ?_, ?_⟩, fun p p0 p1 => ?_, fun p p0 p1 => ?_, fun p p0 p1 p2 => ?_, fun p p0 p1 p2 => ?_, hN, fun p p0 p1 => ⟨(ix p p0 p1).2.2.2.1, (ix p p0 p1).2.2.2.2⟩, fun m m0 m1 => ?_, fun l l0 l1 => ?_⟩
  · rw [(ix 0 (Int.le_refl _) (by omega)).1]
    refine eE_is w (Int.le_refl _) (by omega) (by omega) (Int.le_refl _) ?_ (fun x x1 x2 => ?_)
    · rw [w.2.2.2.1, D_0]
      omega
    · rw [D_0]
      exact w.2.2.1 x (by omega) x2
  · rw [(ix 0 (Int.le_refl _) (by omega)).2.1]
    exact if_pos rfl
  · rw [(ix p p0 p1).1]
    have := eE_f w p0 p1
    exact ⟨this.1, this.2.1⟩
  · obtain ⟨_, e2, e3, _⟩ := ix p (by omega) p1
    obtain ⟨a1, a2, a3, a4, a5, a6, a7, a8⟩ := uU_f w p0 p1
    rw [e2, e3]
    refine ⟨a1, a2, a5, a6, a7, ?_⟩
    rw [ech _ a1 (by omega) a5 _ (by omega)]
    exact ch_is w p0 p1
  · have nn := w.2.2.2.2 p p0 p1 p2
    refine ⟨hF p p0 p1 p2, ?_, fun i hi => ?_⟩
    · rw [ech p p0 p1 p2 _ (by omega), (ix p p0 p1).1]
      exact ch_end w p0 p1 p2
    · obtain ⟨a1, _⟩ := ch_f w p0 p1 p2 i (by omega)
      obtain ⟨b1, b2, b3⟩ := ch_par w p0 p1 p2 hi
      obtain ⟨_, e2, e3, _⟩ := ix (chI (eE ns c) p i) (by omega) b1
      rw [ech p p0 p1 p2 i (by omega)]
      refine ⟨a1, b1, by rw [e2, b2], by rw [e3, b3], ?_⟩
      have := ok (chI (eE ns c) p i) (by omega) b1
      rw [b2, b3] at this
      exact this
  · refine ⟨hl p p0 p1 p2, ?_⟩
    rw [(ix p p0 p1).1]
    refine eE_is w p0 p1 (by omega) (by omega) ?_ (fun x x1 x2 => by omega)
    rw [D_l p0 p2]
    omega
  · obtain ⟨p, p0, p1, p2, p3⟩ := nb_find c n.toNat m m0 (by omega)
    have := ((ix p p0 (by omega)).2.2.2.1 p2).2
    rw [p3] at this
    rw [this]
    exact ⟨p0, by omega, p2, p3⟩
  · obtain ⟨p, p0, p1, p2, p3⟩ := lb_find c n.toNat l l0 (by omega)
    have := ((ix p p0 (by omega)).2.2.2.2 p2).2
    rw [p3] at this
    rw [this]
    exact ⟨p0, by omega, p2, p3⟩
/-- a tree's row is such a row -/
theorem Wd_Tr {h F : Int} {ns I : Int → Int} {n N L : Int} {c e u s r na la : Int → Int} (hn : ∀ f, 0 ≤ f → f < F → 0 ≤ ns f) (t : Tr h F ns I n N L c e u s r na la) : Wd ns c n ∧ (∀ p, 0 ≤ p → p < n → D ns c (e p) = D ns c p - 1 ∧ ∀ x, p < x → x < e p → D ns c p ≤ D ns c x) := by
  have n1 := t.1.1
  have n2 := t.1.2.1
  have e0 := t.1.2.2.2.2.2.2.1
  have key : ∀ (k : Nat) (p : Int), 0 ≤ p → p < n → e p - p ≤ k → D ns c (e p) = D ns c p - 1 ∧ ∀ x, p < x → x < e p → D ns c p ≤ D ns c x := by
    intro k
    induction k with
    | zero =>
      intro p p0 p1 hk
      have := t.2.1 p p0 p1
      omega
    | succ k ih =>
      intro p p0 p1 hk
      by_cases g : 1000 ≤ c p
      · obtain ⟨f1, f2, f3⟩ := t.2.2.2.1 p p0 p1 g
        have nn := hn (c p - 1000) (by omega) f1
        have ch : ∀ i : Nat, (i : Int) ≤ ns (c p - 1000) → p < chI e p i ∧ chI e p i ≤ n ∧ D ns c (chI e p i) = D ns c p - 1 + ns (c p - 1000) - i ∧ ∀ x, p < x → x < chI e p i → D ns c (chI e p i) < D ns c x := by
          intro i
          induction i with
          | zero =>
            intro _
            refine ⟨by show p < p + 1; omega, by show p + 1 ≤ n; omega, ?_, fun x x1 x2 => ?_⟩
            · show D ns c (p + 1) = _
              rw [D_n p0 g]
              omega
            · have x2 : x < p + 1 := x2
              omega
          | succ i ihi =>
            intro hi
            obtain ⟨a1, a2, a3, a4⟩ := ihi (by omega)
            have cc := Tr_che t p0 p1 g (i := i) (by omega)
            have fi := f3 i (by omega)
            obtain ⟨b1, b2⟩ := ih (chI e p i) (by omega) fi.2.1 (by omega)
            have ee := t.2.1 _ (show 0 ≤ chI e p i by omega) fi.2.1
            have e1 : chI e p (i + 1) = e (chI e p i) := rfl
            rw [e1]
            refine ⟨by omega, by omega, by omega, fun x x1 x2 => ?_⟩
            by_cases q : x < chI e p i
            · have := a4 x x1 q
              omega
            · by_cases q2 : x = chI e p i
              · rw [q2]
                omega
              · have := b2 x (by omega) x2
                omega
        obtain ⟨a1, a2, a3, a4⟩ := ch (ns (c p - 1000)).toNat (by omega)
        rw [f2] at a1 a2 a3 a4
        exact ⟨by omega, fun x x1 x2 => by have := a4 x x1 x2; omega⟩
      · have el := (t.2.2.2.2.1 p p0 p1 g).2
        rw [el]
        exact ⟨D_l p0 g, fun x x1 x2 => by omega⟩
  have d0 := D_0 ns c
  obtain ⟨k1, k2⟩ := key 202 0 (Int.le_refl _) (by omega) (by omega)
  rw [e0] at k1 k2
  refine ⟨⟨n1, n2, fun p p0 p1 => ?_, by omega, fun p p0 p1 g => hn _ (by omega) (t.2.2.2.1 p p0 p1 g).1⟩, fun p p0 p1 => key 202 p p0 p1 (by have := t.2.1 p p0 p1; omega)⟩
  by_cases e : p = 0
  · rw [e]
    omega
  · have := k2 p (by omega) p1
    omega
end
