section
/-! trees: a row of pieces in the class, numbered nodes in the reference -/
/-- where the i-th piece of the piece at p begins (e: where pieces end) -/
def chI (e : Int → Int) (p : Int) : Nat → Int
  | 0 => p + 1
  | i + 1 => e (chI e p i)
/-- a piece c in the place of an item (h = 1: holes may stand) -/
def okc (h it c : Int) : Prop := (60 ≤ it ∧ 1000 ≤ c) ∨ (it = 20 ∧ 20 ≤ c ∧ c ≤ 35) ∨ (it = 40 ∧ 40 ≤ c ∧ c ≤ 139) ∨ (h = 1 ∧ 200 ≤ c ∧ c ≤ 215)
def TrS (n N L : Int) (e u : Int → Int) : Prop := 1 ≤ n ∧ n ≤ 201 ∧ 0 ≤ N ∧ N ≤ 40 ∧ 0 ≤ L ∧ N + L = n ∧ e 0 = n ∧ u 0 = -1
def TrE (n : Int) (e : Int → Int) : Prop := ∀ p, 0 ≤ p → p < n → p < e p ∧ e p ≤ n
def TrU (n : Int) (ns c e u s : Int → Int) : Prop := ∀ p, 0 < p → p < n → 0 ≤ u p ∧ u p < p ∧ 1000 ≤ c (u p) ∧ 0 ≤ s p ∧ s p < ns (c (u p) - 1000) ∧ chI e (u p) (s p).toNat = p
def TrN (h F : Int) (ns I : Int → Int) (n : Int) (c e u s : Int → Int) : Prop := ∀ p, 0 ≤ p → p < n → 1000 ≤ c p → c p - 1000 < F ∧ chI e p (ns (c p - 1000)).toNat = e p ∧ ∀ i : Nat, (i : Int) < ns (c p - 1000) → p < chI e p i ∧ chI e p i < n ∧ u (chI e p i) = p ∧ s (chI e p i) = i ∧ okc h (I (5 * (c p - 1000) + i)) (c (chI e p i))
def TrL (n : Int) (c e : Int → Int) : Prop := ∀ p, 0 ≤ p → p < n → ¬ 1000 ≤ c p → 20 ≤ c p ∧ e p = p + 1
/-- how many of the first k pieces are nodes -/
def nb (c : Int → Int) : Nat → Int
  | 0 => 0
  | k + 1 => nb c k + if 1000 ≤ c k then 1 else 0
def TrR (n N L : Int) (c r na la : Int → Int) : Prop := N = nb c n.toNat ∧ (∀ p, 0 ≤ p → p < n → (1000 ≤ c p → r p = nb c p.toNat ∧ na (nb c p.toNat) = p) ∧ (¬ 1000 ≤ c p → r p = p - nb c p.toNat ∧ la (p - nb c p.toNat) = p)) ∧
  (∀ m, 0 ≤ m → m < N → 0 ≤ na m ∧ na m < n ∧ 1000 ≤ c (na m) ∧ nb c (na m).toNat = m) ∧ (∀ l, 0 ≤ l → l < L → 0 ≤ la l ∧ la l < n ∧ ¬ 1000 ≤ c (la l) ∧ la l - nb c (la l).toNat = l)
/-- a tree of the class: n pieces, N nodes, L leaves; code, end, up, slot, rank, nodeAt, leafAt -/
def Tr (h F : Int) (ns I : Int → Int) (n N L : Int) (c e u s r na la : Int → Int) : Prop := TrS n N L e u ∧ TrE n e ∧ TrU n ns c e u s ∧ TrN h F ns I n c e u s ∧ TrL n c e ∧ TrR n N L c r na la
/-- the name of the piece at q for the reference -/
def pc (c r : Int → Int) (q : Int) : Int := if 1000 ≤ c q then 1000 + r q else c q
/-- the same tree in the reference: tree number i -/
def Rl (ns : Int → Int) (N : Int) (c e u r na : Int → Int) (i : Int) (nodes root f0 u0 s0 : Int → Int) : Prop := nodes i = N ∧ (N = 0 → root i = c 0) ∧
  ∀ m, 0 ≤ m → m < N → f0 (40 * i + m) = c (na m) - 1000 ∧ u0 (40 * i + m) = (if u (na m) = -1 then -1 else r (u (na m))) ∧ ∀ k : Nat, (k : Int) < ns (c (na m) - 1000) → s0 (5 * (40 * i + m) + k) = pc c r (chI e (na m) k)
def tvA (B : Nat) (v : Int) : Nat := B + 370 + 14 * v.toNat
def TRa (h F : Int) (ns I : Int → Int) (G : Nat → Int → Int) (a : Nat) : Prop := Tr h F ns I (G a 2) (G a 3) (G a 4) (G (a + 1)) (G (a + 2)) (G (a + 3)) (G (a + 4)) (G (a + 6)) (G (a + 7)) (G (a + 8))
def RLa (ns : Int → Int) (G : Nat → Int → Int) (B : Nat) (i : Int) (a : Nat) : Prop := Rl ns (G a 3) (G (a + 1)) (G (a + 2)) (G (a + 3)) (G (a + 6)) (G (a + 7)) i (G (B + 544 + 17)) (G (B + 544 + 18)) (G (B + 544 + 19)) (G (B + 544 + 20)) (G (B + 544 + 21))
/-- the class's tree at a and the reference's tree i are one, of telling v -/
def TOK (G : Nat → Int → Int) (B : Nat) (h i v : Int) (a : Nat) : Prop := G a 1 = v ∧ G (B + 544 + 16) i = v ∧ (0 ≤ v ∧ v ≤ 1) ∧ TRa h (G (tvA B v) 1) (G (tvA B v + 5)) (G (tvA B v + 6)) G a ∧ RLa (G (tvA B v + 5)) G B i a
def PIN (G : Nat → Int → Int) (B : Nat) (i : Int) (a : Nat) : Prop := ∀ m, 0 ≤ m → m < G a 3 → G (B + 544 + 22) (40 * i + m) = G (a + 9) m ∧ 0 ≤ G (a + 9) m ∧ G (a + 9) m ≤ 2
def ITr (G : Nat → Int → Int) (B : Nat) (i : Int) (a : Nat) : Prop := (0 ≤ G a 1 ∧ G a 1 ≤ 1) ∧ ((G a 0 = 0 ∧ G (B + 544 + 16) i = -1) ∨ (G a 0 = 1 ∧ TOK G B 0 i (G a 1) a ∧ 1 ≤ G a 3 ∧ PIN G B i a))
/-- the shown trees -/
def ISw (G : Nat → Int → Int) (B : Nat) : Prop := G (B + 544) 103 = G (B + 59) 0 ∧ (0 ≤ G (B + 59) 0 ∧ G (B + 59) 0 ≤ 4) ∧ (0 ≤ G (B + 59) 1 ∧ G (B + 59) 1 ≤ 1) ∧
  ∀ k : Int, 0 ≤ k → k < 2 * G (B + 59) 0 → TOK G B 0 (12 + k) (G (B + 59) 1) (B + 170 + 10 * k.toNat) ∧ 1 ≤ G (B + 170 + 10 * k.toNat) 3
/-- the kind of an item -/
def ki (x : Int) : Int := if 60 ≤ x then 60 else x
/-- what ties the two sides of a turn: every hole of the after is one of the before; a hole alone stands for nodes -/
def Tie (I c0 u0 s0 c1 u1 s1 : Int → Int) (n0 n1 N1 : Int) : Prop := (∀ p, 0 ≤ p → p < n1 → 200 ≤ c1 p → c1 p < 1000 → ∃ q, 0 ≤ q ∧ q < n0 ∧ c0 q = c1 p) ∧ ((N1 = 0 → 200 ≤ c1 0 ∧ c1 0 ≤ 215 ∧ ∀ q, 0 < q → q < n0 → c0 q = c1 0 → 60 ≤ I (5 * (c0 (u0 q) - 1000) + s0 q))) ∧ ∀ p q, 0 < p → p < n1 → 0 < q → q < n0 → 200 ≤ c1 p → c1 p < 1000 → c0 q = c1 p → ki (I (5 * (c1 (u1 p) - 1000) + s1 p)) = ki (I (5 * (c0 (u0 q) - 1000) + s0 q))
def ITu (G : Nat → Int → Int) (B : Nat) (k : Int) (a b : Nat) : Prop := (0 ≤ G a 1 ∧ G a 1 ≤ 1) ∧ ((G (B + 60) k = 0 ∧ G (B + 544 + 82) k = -1) ∨
  (G (B + 60) k = 1 ∧ G (B + 544 + 82) k = G a 1 ∧ TOK G B 1 (20 + 2 * k) (G a 1) a ∧ TOK G B 1 (21 + 2 * k) (G a 1) b ∧ 1 ≤ G a 3 ∧ (G (B + 544 + 84) k = G (B + 61) k ∧ 0 ≤ G (B + 61) k ∧ G (B + 61) k ≤ 1) ∧
    Tie (G (tvA B (G a 1) + 6)) (G (a + 1)) (G (a + 3)) (G (a + 4)) (G (b + 1)) (G (b + 3)) (G (b + 4)) (G a 2) (G b 2) (G b 3)))
/-- trees and turns -/
def IRe (G : Nat → Int → Int) (B : Nat) : Prop := (∀ i : Int, 0 ≤ i → i ≤ 11 → ITr G B i (B + 398 + 10 * i.toNat)) ∧ ISw G B ∧ ∀ k : Int, 0 ≤ k → k ≤ 5 → ITu G B k (B + 250 + 20 * k.toNat) (B + 260 + 20 * k.toNat)
theorem Tr_tell {h F F' : Int} {ns ns' I I' : Int → Int} {n N L : Int} {c e u s r na la : Int → Int} (hF : F ≤ F') (h1 : ∀ f, 0 ≤ f → f < F → ns' f = ns f) (h2 : ∀ f k, 0 ≤ f → f < F → 0 ≤ k → k < ns f → I' (5 * f + k) = I (5 * f + k)) (t : Tr h F ns I n N L c e u s r na la) : Tr h F' ns' I' n N L c e u s r na la := by
  obtain ⟨tS, tE, tU, tN, tL, tR⟩ := t
  refine ⟨tS, tE, fun p q1 q2 => ?_, fun p q1 q2 q3 => ?_, tL, tR⟩
  · obtain ⟨a1, a2, a3, a4, a5, a6⟩ := tU p q1 q2
    have := (tN (u p) a1 (by omega) a3).1
    exact ⟨a1, a2, a3, a4, by rw [h1 _ (by omega) this]; exact a5, a6⟩
  · obtain ⟨a1, a2, a3⟩ := tN p q1 q2 q3
    rw [h1 _ (by omega) a1]
    exact ⟨by omega, a2, fun i qi => by
      rw [h2 _ _ (by omega) a1 (by omega) qi]
      exact a3 i qi⟩
theorem Rl_tell {h F : Int} {ns ns' I : Int → Int} {n N L : Int} {c e u s r na la : Int → Int} {i : Int} {nodes root f0 u0 s0 : Int → Int} (h1 : ∀ f, 0 ≤ f → f < F → ns' f = ns f) (t : Tr h F ns I n N L c e u s r na la) (w : Rl ns N c e u r na i nodes root f0 u0 s0) : Rl ns' N c e u r na i nodes root f0 u0 s0 := by
  obtain ⟨tS, tE, tU, tN, tL, tR⟩ := t
  refine ⟨w.1, w.2.1, fun m q1 q2 => ?_⟩
  obtain ⟨a1, a2, a3, a4⟩ := tR.2.2.1 m q1 q2
  have := (tN _ a1 a2 a3).1
  rw [h1 _ (by omega) this]
  exact w.2.2 m q1 q2
/-- the tellings grow alone -/
def Gro (G G' : Nat → Int → Int) (B : Nat) : Prop := ∀ v : Int, 0 ≤ v → v ≤ 1 → G (tvA B v) 1 ≤ G' (tvA B v) 1 ∧ ∀ f, 0 ≤ f → f < G (tvA B v) 1 → G' (tvA B v + 5) f = G (tvA B v + 5) f ∧ ∀ k, 0 ≤ k → k < G (tvA B v + 5) f → G' (tvA B v + 6) (5 * f + k) = G (tvA B v + 6) (5 * f + k)
theorem TOK_congr {G G' : Nat → Int → Int} {B : Nat} {h i v : Int} {a : Nat} (hg : Gro G G' B) (ha : ∀ x, a ≤ x → x < a + 10 → G' x = G x) (hm : ∀ x, B + 544 + 16 ≤ x → x ≤ B + 544 + 21 → G' x = G x) (t : TOK G B h i v a) : TOK G' B h i v a := by
  obtain ⟨t1, t2, t3, t4, t5⟩ := t
  obtain ⟨g1, g2⟩ := hg v t3.1 t3.2
  refine ⟨by rw [ha a (by omega) (by omega)]; exact t1, by rw [hm _ (by omega) (by omega)]; exact t2, t3, ?_, ?_⟩
  · unfold TRa
    rw [ha a (by omega) (by omega), ha (a + 1) (by omega) (by omega), ha (a + 2) (by omega) (by omega), ha (a + 3) (by omega) (by omega), ha (a + 4) (by omega) (by omega), ha (a + 6) (by omega) (by omega), ha (a + 7) (by omega) (by omega), ha (a + 8) (by omega) (by omega)]
    exact Tr_tell g1 (fun f q1 q2 => (g2 f q1 q2).1) (fun f k q1 q2 q3 q4 => (g2 f q1 q2).2 k q3 q4) t4
  · unfold RLa
    rw [ha a (by omega) (by omega), ha (a + 1) (by omega) (by omega), ha (a + 2) (by omega) (by omega), ha (a + 3) (by omega) (by omega), ha (a + 6) (by omega) (by omega), ha (a + 7) (by omega) (by omega), hm (B + 544 + 17) (by omega) (by omega), hm (B + 544 + 18) (by omega) (by omega), hm (B + 544 + 19) (by omega) (by omega), hm (B + 544 + 20) (by omega) (by omega), hm (B + 544 + 21) (by omega) (by omega)]
    exact Rl_tell (fun f q1 q2 => (g2 f q1 q2).1) t4 t5
theorem ITr_congr {G G' : Nat → Int → Int} {B : Nat} {i : Int} {a : Nat} (hg : Gro G G' B) (ha : ∀ x, a ≤ x → x < a + 10 → G' x = G x) (hm : ∀ x, B + 544 + 16 ≤ x → x ≤ B + 544 + 22 → G' x = G x) (t : ITr G B i a) : ITr G' B i a := by
  obtain ⟨t0, t⟩ := t
  unfold ITr PIN
  rw [ha a (by omega) (by omega), ha (a + 9) (by omega) (by omega), hm (B + 544 + 16) (by omega) (by omega), hm (B + 544 + 22) (by omega) (by omega)]
  exact ⟨t0, t.imp id fun ⟨t1, t2, t3, t4⟩ => ⟨t1, TOK_congr hg ha (fun x q1 q2 => hm x q1 (by omega)) t2, t3, t4⟩⟩
theorem ISw_congr {G G' : Nat → Int → Int} {B : Nat} (hg : Gro G G' B) (h0 : G' (B + 544) 103 = G (B + 544) 103) (h1 : G' (B + 59) 0 = G (B + 59) 0) (h2 : G' (B + 59) 1 = G (B + 59) 1) (ha : ∀ x, B + 170 ≤ x → x < B + 250 → G' x = G x) (hm : ∀ x, B + 544 + 16 ≤ x → x ≤ B + 544 + 21 → G' x = G x) (t : ISw G B) : ISw G' B := by
  obtain ⟨t0, t1, t2, t3⟩ := t
  unfold ISw
  rw [h0, h1, h2]
  refine ⟨t0, t1, t2, fun k q1 q2 => ?_⟩
  have hk : k < 8 := by omega
  rw [ha (B + 170 + 10 * k.toNat) (by omega) (by omega)]
  exact ⟨TOK_congr hg (fun x q3 q4 => ha x (by omega) (by omega)) hm (t3 k q1 q2).1, (t3 k q1 q2).2⟩
theorem Tie_tell {h h1 F : Int} {ns I I' : Int → Int} {n0 N0 L0 n1 N1 L1 : Int} {c e u s r na la c1 e1 u1 s1 r1 na1 la1 : Int → Int} (h2 : ∀ f k, 0 ≤ f → f < F → 0 ≤ k → k < ns f → I' (5 * f + k) = I (5 * f + k)) (t : Tr h F ns I n0 N0 L0 c e u s r na la) (y : Tr h1 F ns I n1 N1 L1 c1 e1 u1 s1 r1 na1 la1) (w : Tie I c u s c1 u1 s1 n0 n1 N1) : Tie I' c u s c1 u1 s1 n0 n1 N1 := by
  have i0 : ∀ q, 0 < q → q < n0 → I' (5 * (c (u q) - 1000) + s q) = I (5 * (c (u q) - 1000) + s q) := fun q q1 q2 => by
    obtain ⟨tS, tE, tU, tN, tL, tR⟩ := t
    obtain ⟨a1, a2, a3, a4, a5, a6⟩ := tU q q1 q2
    rw [h2 _ _ (by omega) (tN _ a1 (by omega) a3).1 a4 a5]
  have i1 : ∀ q, 0 < q → q < n1 → I' (5 * (c1 (u1 q) - 1000) + s1 q) = I (5 * (c1 (u1 q) - 1000) + s1 q) := fun q q1 q2 => by
    obtain ⟨tS, tE, tU, tN, tL, tR⟩ := y
    obtain ⟨a1, a2, a3, a4, a5, a6⟩ := tU q q1 q2
    rw [h2 _ _ (by omega) (tN _ a1 (by omega) a3).1 a4 a5]
  refine ⟨w.1, fun z => ⟨(w.2.1 z).1, (w.2.1 z).2.1, fun q q1 q2 q3 => ?_⟩, fun p q p0 p1 q0 q1 g1 g2 g3 => ?_⟩
  · rw [i0 q q1 q2]
    exact (w.2.1 z).2.2 q q1 q2 q3
  · rw [i0 q q0 q1, i1 p p0 p1]
    exact w.2.2 p q p0 p1 q0 q1 g1 g2 g3
theorem ITu_congr {G G' : Nat → Int → Int} {B : Nat} {k : Int} {a b : Nat} (hg : Gro G G' B) (h0 : G' (B + 60) k = G (B + 60) k) (h1 : G' (B + 61) k = G (B + 61) k) (h2 : G' (B + 544 + 82) k = G (B + 544 + 82) k) (h3 : G' (B + 544 + 84) k = G (B + 544 + 84) k) (ha : ∀ x, a ≤ x → x < a + 10 → G' x = G x) (hb : ∀ x, b ≤ x → x < b + 10 → G' x = G x) (hm : ∀ x, B + 544 + 16 ≤ x → x ≤ B + 544 + 21 → G' x = G x) (t : ITu G B k a b) : ITu G' B k a b := by
  obtain ⟨t0, t⟩ := t
  unfold ITu
  rw [h0, h1, h2, h3, ha a (by omega) (by omega), hb b (by omega) (by omega), ha (a + 1) (by omega) (by omega), ha (a + 3) (by omega) (by omega), ha (a + 4) (by omega) (by omega), hb (b + 1) (by omega) (by omega), hb (b + 3) (by omega) (by omega), hb (b + 4) (by omega) (by omega)]
  refine ⟨t0, t.imp id fun ⟨t1, t2, t3, t4, t5, t6, t7⟩ => ⟨t1, t2, TOK_congr hg ha hm t3, TOK_congr hg hb hm t4, t5, t6, ?_⟩⟩
  obtain ⟨w1, w2, w3, w4, w5⟩ := t3
  exact Tie_tell (fun f k q1 q2 q3 q4 => ((hg _ w3.1 w3.2).2 f q1 q2).2 k q3 q4) w4 t4.2.2.2.1 t7
/-- the tellings grow, and no tree's cell changes -/
theorem IRe_gro {G G' : Nat → Int → Int} {B : Nat} (hg : Gro G G' B) (ht : ∀ a, (B + 398 ≤ a ∧ a < B + 518) ∨ (B + 170 ≤ a ∧ a < B + 370) ∨ (B + 59 ≤ a ∧ a ≤ B + 61) ∨ (B + 544 + 16 ≤ a ∧ a ≤ B + 544 + 22) ∨ (B + 544 + 82 ≤ a ∧ a ≤ B + 544 + 84) → G' a = G a) (h2 : G' (B + 544) 103 = G (B + 544) 103) (h : IRe G B) : IRe G' B := by
  obtain ⟨i1, i2, i3⟩ := h
  refine ⟨fun i q1 q2 => ITr_congr hg (fun x q3 q4 => ht x (by omega)) (fun x q3 q4 => ht x (by omega)) (i1 i q1 q2), ISw_congr hg h2 (by rw [ht _ (by omega)]) (by rw [ht _ (by omega)]) (fun x q3 q4 => ht x (by omega)) (fun x q3 q4 => ht x (by omega)) i2, fun k q1 q2 => ITu_congr hg (by rw [ht _ (by omega)]) (by rw [ht _ (by omega)]) (by rw [ht (B + 544 + 82) (by omega)]) (by rw [ht (B + 544 + 84) (by omega)]) (fun x q3 q4 => ht x (by omega)) (fun x q3 q4 => ht x (by omega)) (fun x q3 q4 => ht x (by omega)) (i3 k q1 q2)⟩
end
