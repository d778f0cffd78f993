section
/-! values: the reference works a tree -/
def WN (T : Nat → Option q_T) (nx : Nat) (R : Nat → Nat → Option Value) (G0 : Nat → Int → Int) (B a : Nat) (iT v w F : Int) (W : Int → Int) (k : Nat) (p : Int) : Prop := ∀ (G : Nat → Int → Int) (d u : Int) (L : List (Int × Int)), (∀ x, B + 544 ≤ x → ¬ ((B + 544 + 77) ≤ x ∧ x ≤ (B + 544 + 81)) → ¬ x = B + 544 → G x = G0 x) → NS G B d (G0 (a + 6) p) 0 (inS (G0 (tvA B v + 9) (G0 (a + 1) p - 1000)) (G0 (tvA B v + 5) (G0 (a + 1) p - 1000))) L u → 1 ≤ u → u ≤ F → 0 ≤ d → d + (nb (G0 (a + 1)) (G0 (a + 2) p).toNat - nb (G0 (a + 1)) p.toNat) ≤ 40 → (L.length : Int) ≤ d →
  (∃ (x u' i' : Int) (G' : Nat → Int → Int), evP (G0 (tvA B v + 5)) (G0 (tvA B v + 9)) (G0 (a + 1)) (G0 (a + 2)) W F k p L (u - 1) = some (x, u') ∧ (1 ≤ u' ∧ u' ≤ F) ∧ CR G G' B ∧ BLo G G' B d L.length ∧ NS G' B d (G0 (a + 6) p) i' x L u' ∧ (0 ≤ i' ∧ i' ≤ 5) ∧ nxS (G0 (tvA B v + 9) (G0 (a + 1) p - 1000)) (G0 (tvA B v + 5) (G0 (a + 1) p - 1000)) i' x (pc (G0 (a + 1)) (G0 (a + 6)) (p + 1)) = -1 ∧ WST T nx R B iT w F G G') ∨ (evP (G0 (tvA B v + 5)) (G0 (tvA B v + 9)) (G0 (a + 1)) (G0 (a + 2)) W F k p L (u - 1) = none ∧ WFA T nx R B iT w F G)
theorem FW_CR {G0 G G' : Nat → Int → Int} {B : Nat} (fw : ∀ x, B + 544 ≤ x → ¬ ((B + 544 + 77) ≤ x ∧ x ≤ (B + 544 + 81)) → ¬ x = B + 544 → G x = G0 x) (k : CR G G' B) : ∀ x, B + 544 ≤ x → ¬ ((B + 544 + 77) ≤ x ∧ x ≤ (B + 544 + 81)) → ¬ x = B + 544 → G' x = G0 x := fun x q1 q2 q3 => by rw [k.1 x q2 q3, fw x q1 q2 q3]
theorem WFA_st {T : Nat → Option q_T} {nx B : Nat} {R : Nat → Nat → Option Value} {G : Nat → Int → Int} {iT w F : Int} {G' : Nat → Int → Int} (k : CR G G' B) (h1 : WST T nx R B iT w F G G') (h2 : WFA T nx R B iT w F G') : WFA T nx R B iT w F G := by
  obtain ⟨G2, f1, f2⟩ := h2
  exact ⟨G2, CR_tr k f1, fun Kn Kr hh => h1 Kn Kr (f2 Kn Kr hh)⟩
theorem WST_tr {T : Nat → Option q_T} {nx B : Nat} {R : Nat → Nat → Option Value} {G : Nat → Int → Int} {iT w F : Int} {G1 G2 : Nat → Int → Int} (h1 : WST T nx R B iT w F G G1) (h2 : WST T nx R B iT w F G1 G2) : WST T nx R B iT w F G G2 := fun Kn Kr hh => h1 Kn Kr (h2 Kn Kr hh)
theorem c1_name {c r : Int → Int} {q : Int} (hr : 1000 ≤ c q → 0 ≤ r q) : (20 ≤ pc c r q ∧ pc c r q ≤ 35) ↔ (20 ≤ c q ∧ c q ≤ 35) := by
  unfold pc
  by_cases g : 1000 ≤ c q
  · rw [if_pos g]
    have := hr g
    omega
  · rw [if_neg g]
theorem cstep {T : Nat → Option q_T} {nx B a : Nat} {R : Nat → Nat → Option Value} {G0 G : Nat → Int → Int} {h iT v p d i s u w F : Int} {L : List (Int × Int)} {W : Int → Int} {y k : Nat} (hM : Ly T R (B + 544) (L12 (B + 544))) (i0 : 0 ≤ iT) (i1 : iT < 100) (hF : IFm G0 B) (tk : TOK G0 B h iT v a) (fw : ∀ x, B + 544 ≤ x → ¬ ((B + 544 + 77) ≤ x ∧ x ≤ (B + 544 + 81)) → ¬ x = B + 544 → G x = G0 x) (p0 : 0 ≤ p) (p1 : p < G0 a 2) (l : 1000 ≤ G0 (a + 1) p) (w0 : 0 ≤ w) (w3 : w ≤ 3) (hW : ∀ j, 0 ≤ j → j < 16 → zI (G0 (B + 544 + 76) (16 * w + j)) = zI (W j)) (cb : ∀ q, 0 ≤ q → q < G0 a 2 → 20 ≤ G0 (a + 1) q ∧ G0 (a + 1) q ≤ 1013) (cl : ∀ q, 0 ≤ q → q < G0 a 2 → ¬ 1000 ≤ G0 (a + 1) q → isLf (G0 (a + 1) q)) (F1 : 1 ≤ F) (F2 : F ≤ 1000) (IH : ∀ q, p < q → q < G0 (a + 2) p → 1000 ≤ G0 (a + 1) q → WN T nx R G0 B a iT v w F W k q) (k1 : ∀ q, p < q → q < G0 (a + 2) p → G0 (a + 2) q - q ≤ k) (d0 : 0 ≤ d) (d1 : d + (nb (G0 (a + 1)) (G0 (a + 2) p).toNat - nb (G0 (a + 1)) p.toNat) ≤ 40) (ib : 0 ≤ i ∧ i ≤ 4) (nS : NS G B d (G0 (a + 6) p) i s L u) (u1 : 1 ≤ u) (u2 : u ≤ F) (hL : (L.length : Int) ≤ d + 1) (hy : (y : Int) < (G0 (tvA B v + 5) (G0 (a + 1) p - 1000))) (hx : nxS (G0 (tvA B v + 9) (G0 (a + 1) p - 1000)) (G0 (tvA B v + 5) (G0 (a + 1) p - 1000)) i s (pc (G0 (a + 1)) (G0 (a + 6)) (p + 1)) = y) (h4 : (G0 (tvA B v + 9) (G0 (a + 1) p - 1000)) = 4 → (i = 0 ∧ 20 ≤ G0 (a + 1) (p + 1) ∧ G0 (a + 1) (p + 1) ≤ 35) ∨ (0 < i ∧ L ≠ [])) :
    (∃ (x u' : Int) (G' : Nat → Int → Int), evP (G0 (tvA B v + 5)) (G0 (tvA B v + 9)) (G0 (a + 1)) (G0 (a + 2)) W F k (chI (G0 (a + 2)) p y) L u = some (x, u') ∧ (1 ≤ u' ∧ u' ≤ F) ∧ CR G G' B ∧ BLo G G' B d L.length ∧ NS G' B d (G0 (a + 6) p) (i + 1) (tkS (G0 (tvA B v + 9) (G0 (a + 1) p - 1000)) i s x) (tkL (G0 (tvA B v + 9) (G0 (a + 1) p - 1000)) i (G0 (a + 1) (p + 1) - 20) x L) u' ∧ WST T nx R B iT w F G G') ∨ (evP (G0 (tvA B v + 5)) (G0 (tvA B v + 9)) (G0 (a + 1)) (G0 (a + 2)) W F k (chI (G0 (a + 2)) p y) L u = none ∧ WFA T nx R B iT w F G) := by
  have tb := TOK_b tk
  have kT := tk.2.2.2.1
  have nbp := nbi_lt (G0 (a + 1)) p0 (show p < G0 (a + 2) p by have := kT.2.1 p p0 p1; omega) l
  obtain ⟨f, N, ef, f0, f1, eN, N1, N5, _, hf', hN, hC, hgp, hns, hend, hch⟩ := nodeF hF tk p0 p1 l
  have nb5 := nsl_b (fun k => G0 (tvA B v + 4) (5 * f + k)) N.toNat
  rw [← hns, ef] at nb5
  obtain ⟨⟨z1, z2, z3, z4⟩, _⟩ := hch y (by rw [ef]; exact hy)
  have che := Tr_che kT p0 p1 l (i := y) (by omega)
  have A5 : (G0 (tvA B v + 9) (G0 (a + 1) p - 1000)) ≤ 5 := by
    refine Int.not_lt.mp fun g => ?_
    rw [nxS, if_pos (by omega)] at hx
    omega
  by_cases hl : 1000 ≤ G0 (a + 1) (chI (G0 (a + 2)) p y)
  · have nbq := nbi_mono (G0 (a + 1)) che.2
    have nbp1 := nbi_lt (G0 (a + 1)) p0 z1 l
    by_cases g : u = F
    · refine Or.inr ⟨?_, t_out (T := T) (nx := nx) (R := R) (G := G) (d := d) (i := i) (s := s) (L := L) (u := u) hM i0 i1 hF tk fw p0 p1 l F1 F2 d0 (by omega) ib nS cb g hy hx hl⟩
      obtain ⟨k', hk⟩ : ∃ k', k = k' + 1 := ⟨k - 1, by have := k1 _ z1 (by omega); omega⟩
      subst hk
      rw [evP, if_pos hl, if_pos (by omega)]
    · obtain ⟨G1, a1, a2, a3, a4⟩ := t_push (T := T) (nx := nx) (R := R) (G := G) (d := d) (i := i) (s := s) (L := L) (u := u) (w := w) (F := F) hM i0 i1 hF tk fw p0 p1 l F1 F2 d0 (by omega) ib nS cb u1 (by omega) hy hx hl
      obtain ⟨q, hq⟩ : ∃ q, q = chI (G0 (a + 2)) p y := ⟨_, rfl⟩
      rw [← hq] at z1 z2 z3 z4 che nbq nbp1 hl a3 ⊢
      rcases IH q z1 (by omega) hl G1 (d + 1) (u + 1) L (FW_CR fw a1) a3 (by omega) (by omega) (by omega) (by omega) (by omega) with ⟨x, u', i', G2, b1, b2, b3, b4, b5, b6, b7, b8⟩ | ⟨b1, b2⟩
      · rw [show u + 1 - 1 = u by omega] at b1
        have rows := a2.1 d (by omega)
        have rows2 := b4.1 d (by omega)
        obtain ⟨G3, c1, c2, c3, c4⟩ := t_pop (T := T) (nx := nx) (R := R) (G := G2) (p := q) (d := d + 1) (d' := d) (i := i') (s := x) (L := L) (u := u') (p' := p) (i' := i) (s' := s) (w := w) (F := F) hM i0 i1 hF tk (FW_CR (FW_CR fw a1) b3) (by omega) z2 hl F1 F2 rfl d0 (by omega) b6 b5 cb b7 (by omega) p0 p1 l ib (by rw [rows2.1, rows.1]; exact nS.2.1) (by rw [rows2.2.1, rows.2.1]; exact nS.2.2.1) (by rw [rows2.2.2, rows.2.2]; exact nS.2.2.2.1) A5 (by omega) h4
        exact Or.inl ⟨x, u', G3, b1, b2, CR_tr a1 (CR_tr b3 c1), BLo_tr (BLo_tr a2 b4 (Int.le_refl _) (Int.le_refl _) |> fun z => ⟨fun j qj => z.1 j (by omega), z.2⟩) c2 (Int.le_refl _) (Int.le_refl _), c3, WST_tr a4 (WST_tr b8 c4)⟩
      · rw [show u + 1 - 1 = u by omega] at b1
        exact Or.inr ⟨b1, WFA_st a1 a4 b2⟩
  · obtain ⟨G1, a1, a2, a3, a4⟩ := t_leaf (T := T) (nx := nx) (R := R) (G := G) (d := d) (i := i) (s := s) (L := L) (u := u) (W := W) (w := w) (F := F) hM i0 i1 hF tk fw p0 p1 l w0 w3 (by rw [fw _ (by omega) (by omega) (by omega)]; exact hW) F1 F2 d0 (by omega) ib nS cb cl (by omega) hy hx hl h4
    obtain ⟨k', hk⟩ : ∃ k', k = k' + 1 := ⟨k - 1, by have := k1 _ z1 (by omega); have := kT.2.1 _ (by omega) z2; omega⟩
    subst hk
    refine Or.inl ⟨_, u, G1, by rw [evP, if_neg hl], ⟨u1, u2⟩, a1, a2, a3, a4⟩
theorem upA_tk {A : Int} {i : Nat} {s x : Int} (h3 : 0 ≤ A ∧ A ≤ 3) (h0 : i = 0 → s = inA A) (h1 : A = 0 → i = 0) : tkS A i s x = upA A i s x := by
  have hA : A = 0 ∨ A = 1 ∨ A = 2 ∨ A = 3 := by omega
  rcases hA with e | e | e | e
  · subst e
    have := h0 (h1 rfl)
    rw [show inA 0 = 0 from rfl] at this
    rw [tkS, if_neg (by omega), if_neg (by omega), if_neg (by omega), if_neg (by omega), upA, if_neg (by omega), if_neg (by omega)]
    omega
  · subst e
    rw [tkS, if_pos rfl, upA, if_neg (by omega), if_neg (by omega)]
  · subst e
    rw [tkS, if_neg (by omega), if_pos rfl, upA, if_pos rfl]
  · subst e
    by_cases g : 0 < i
    · rw [tkS, if_neg (by omega), if_neg (by omega), if_pos ⟨rfl, by omega⟩, upA, if_neg (by omega), if_pos ⟨rfl, g⟩]
    · have := h0 (by omega)
      rw [show inA 3 = 0 from rfl] at this
      rw [tkS, if_neg (by omega), if_neg (by omega), if_neg (by omega), if_neg (by omega), upA, if_neg (by omega), if_neg (by omega)]
      omega
theorem nx_run {A n s c1 : Int} {i : Nat} (h3 : 0 ≤ A ∧ A ≤ 3) (n0 : 0 ≤ n) (hi : (i : Int) < wnA A n) : nxS A n i s c1 = i := by
  unfold wnA at hi
  have hA : A = 0 ∨ A = 1 ∨ A = 2 ∨ A = 3 := by omega
  rcases hA with e | e | e | e
  · subst e
    rw [if_pos rfl] at hi
    rw [nxS, if_neg (by omega), if_pos rfl, if_pos (by omega)]
    omega
  all_goals
    subst e
    rw [if_neg (by omega)] at hi
    rw [nxS, if_neg (by omega), if_neg (by omega), if_neg (by omega), if_neg (by omega), if_pos (by omega)]
theorem nx_end {A n s c1 : Int} {i : Nat} (h3 : 0 ≤ A ∧ A ≤ 3) (n0 : 0 ≤ n) (hi : (i : Int) = wnA A n) : nxS A n i s c1 = -1 := by
  unfold wnA at hi
  have hA : A = 0 ∨ A = 1 ∨ A = 2 ∨ A = 3 := by omega
  rcases hA with e | e | e | e
  · subst e
    rw [if_pos rfl] at hi
    by_cases g : n < 1
    · rw [nxS, if_pos (by omega)]
    · rw [nxS, if_neg (by omega), if_pos rfl, if_neg (by omega)]
  all_goals
    subst e
    rw [if_neg (by omega)] at hi
    by_cases g : n < 1
    · first
        | rw [nxS, if_pos (by omega)]
        | rw [nxS, if_neg (by omega), if_neg (by omega), if_neg (by omega), if_neg (by omega), if_neg (by omega)]
    · rw [nxS, if_neg (by omega), if_neg (by omega), if_neg (by omega), if_neg (by omega), if_neg (by omega)]
theorem work_node {T : Nat → Option q_T} {nx B a : Nat} {R : Nat → Nat → Option Value} {G0 : Nat → Int → Int} {h iT v p w F : Int} {W : Int → Int} (hM : Ly T R (B + 544) (L12 (B + 544))) (i0 : 0 ≤ iT) (i1 : iT < 100) (hF : IFm G0 B) (tk : TOK G0 B h iT v a) (w0 : 0 ≤ w) (w3 : w ≤ 3) (hW : ∀ j, 0 ≤ j → j < 16 → zI (G0 (B + 544 + 76) (16 * w + j)) = zI (W j)) (cb : ∀ q, 0 ≤ q → q < G0 a 2 → 20 ≤ G0 (a + 1) q ∧ G0 (a + 1) q ≤ 1013) (cl : ∀ q, 0 ≤ q → q < G0 a 2 → ¬ 1000 ≤ G0 (a + 1) q → isLf (G0 (a + 1) q)) (F1 : 1 ≤ F) (F2 : F ≤ 1000) : ∀ (k : Nat) (p : Int), 0 ≤ p → p < G0 a 2 → 1000 ≤ G0 (a + 1) p → G0 (a + 2) p - p ≤ k → WN T nx R G0 B a iT v w F W k p := by
  have tb := TOK_b tk
  have kT := tk.2.2.2.1
  intro k
  induction k with
  | zero =>
    intro p p0 p1 l hk
    have := kT.2.1 p p0 p1
    omega
  | succ k ih =>
    intro p p0 p1 l hk G d u L fw nS u1 u2 d0 d1 hL
    have pe := kT.2.1 p p0 p1
    have nbp := nbi_lt (G0 (a + 1)) p0 (show p < G0 (a + 2) p by omega) l
    obtain ⟨f, n, A, ef, f0, f1, en, n0, n5, eA, A0, A7, rb, kv, ht, hf, ha, fr, e3, e4, hs⟩ := nodeR hF tk fw p0 p1 l
    have sub : ∀ q, p < q → q < G0 (a + 2) p → G0 (a + 2) q - q ≤ k := fun q q0 q1 => by
      have := Tr_nest kT (p := q) (x := p) p0 (by omega) q1 (by omega)
      omega
    have IH : ∀ q, p < q → q < G0 (a + 2) p → 1000 ≤ G0 (a + 1) q → WN T nx R G0 B a iT v w F W k q := fun q q0 q1 q2 => ih q (by omega) (by omega) q2 (sub q q0 q1)
    have c1n : 0 < n → ((20 ≤ (pc (G0 (a + 1)) (G0 (a + 6)) (p + 1)) ∧ (pc (G0 (a + 1)) (G0 (a + 6)) (p + 1)) ≤ 35) ↔ (20 ≤ G0 (a + 1) (p + 1) ∧ G0 (a + 1) (p + 1) ≤ 35)) := fun hn => by
      obtain ⟨_, z2, z3⟩ := hs 0 (by omega)
      have z3 : p + 1 < G0 a 2 := z3
      exact c1_name fun g => (Tr_n kT (p := p + 1) (by omega) z3 g).1 ▸ (Tr_n kT (p := p + 1) (by omega) z3 g).2.2.1
    -- a slot
    have step := fun (y : Nat) (G : Nat → Int → Int) (i s u : Int) (L : List (Int × Int)) (fw : ∀ x, B + 544 ≤ x → ¬ ((B + 544 + 77) ≤ x ∧ x ≤ (B + 544 + 81)) → ¬ x = B + 544 → G x = G0 x) => cstep (T := T) (nx := nx) (R := R) (G := G) (i := i) (s := s) (d := d) (u := u) (L := L) (W := W) (w := w) (F := F) (y := y) (k := k) hM i0 i1 hF tk fw p0 p1 l w0 w3 hW cb cl F1 F2 IH sub d0 d1
    unfold WN at *
    rw [← ef, ← en, ← eA] at nS step ⊢
    have e1 : evP (G0 (tvA B v + 5)) (G0 (tvA B v + 9)) (G0 (a + 1)) (G0 (a + 2)) W F (k + 1) p L (u - 1) = if A = 4 then (if n < 3 then some (0, u) else if 20 ≤ G0 (a + 1) (p + 1) ∧ G0 (a + 1) (p + 1) ≤ 35 then bnd (evP (G0 (tvA B v + 5)) (G0 (tvA B v + 9)) (G0 (a + 1)) (G0 (a + 2)) W F k (chI (G0 (a + 2)) p 1) L u) (fun x u2 => evP (G0 (tvA B v + 5)) (G0 (tvA B v + 9)) (G0 (a + 1)) (G0 (a + 2)) W F k (chI (G0 (a + 2)) p 2) ((G0 (a + 1) (p + 1) - 20, x) :: L) u2) else some (0, u))
      else if A = 5 then (if n < 3 then some (0, u) else bnd (evP (G0 (tvA B v + 5)) (G0 (tvA B v + 9)) (G0 (a + 1)) (G0 (a + 2)) W F k (chI (G0 (a + 2)) p 0) L u) (fun x u2 => evP (G0 (tvA B v + 5)) (G0 (tvA B v + 9)) (G0 (a + 1)) (G0 (a + 2)) W F k (chI (G0 (a + 2)) p (if zI x = zI 0 then 1 else 2)) L u2))
      else if A = 6 then some (7, u) else if A = 7 then some (n, u)
      else evl (fun q u2 => evP (G0 (tvA B v + 5)) (G0 (tvA B v + 9)) (G0 (a + 1)) (G0 (a + 2)) W F k q L u2) (G0 (a + 2)) p A (wnA A n).toNat 0 (inA A) u := by
      rw [evP, if_pos l, if_neg (by omega), ← ef, ← en, ← eA, show u - 1 + 1 = u by omega]
    rw [e1]
    clear e1
    have stay : ∀ x : Int, x = inS A n → nxS A n 0 x (pc (G0 (a + 1)) (G0 (a + 6)) (p + 1)) = -1 → ∃ (x' u' i' : Int) (G' : Nat → Int → Int), some (x, u) = some (x', u') ∧ (1 ≤ u' ∧ u' ≤ F) ∧ CR G G' B ∧ BLo G G' B d L.length ∧ NS G' B d (G0 (a + 6) p) i' x' L u' ∧ (0 ≤ i' ∧ i' ≤ 5) ∧ nxS A n i' x' (pc (G0 (a + 1)) (G0 (a + 6)) (p + 1)) = -1 ∧ WST T nx R B iT w F G G' := fun x hx hn => ⟨x, u, 0, G, rfl, ⟨u1, u2⟩, CR_rfl _ _, BLo_rfl _ _ _ _, by rw [hx]; exact nS, by omega, hn, fun _ _ hh => hh⟩
    have hA4 : (0 ≤ A ∧ A ≤ 3) ∨ A = 4 ∨ A = 5 ∨ A = 6 ∨ A = 7 := by omega
    rcases hA4 with g | g | g | g | g
    · rw [if_neg (by omega), if_neg (by omega), if_neg (by omega), if_neg (by omega)]
      have wb : 0 ≤ wnA A n ∧ wnA A n ≤ n := by unfold wnA; split <;> omega
      have eS : inS A n = inA A := by
        unfold inS inA
        by_cases z : A = 2
        · rw [if_pos z, if_pos z]
        · rw [if_neg z, if_neg z, if_neg (by omega), if_neg (by omega)]
      rw [eS] at nS
      have key : ∀ (rr i : Nat) (s u : Int) (G : Nat → Int → Int), i + rr = (wnA A n).toNat → (i = 0 → s = inA A) → (∀ x, B + 544 ≤ x → ¬ ((B + 544 + 77) ≤ x ∧ x ≤ (B + 544 + 81)) → ¬ x = B + 544 → G x = G0 x) → NS G B d (G0 (a + 6) p) i s L u → 1 ≤ u → u ≤ F →
          (∃ (x u' i' : Int) (G' : Nat → Int → Int), evl (fun q u2 => evP (G0 (tvA B v + 5)) (G0 (tvA B v + 9)) (G0 (a + 1)) (G0 (a + 2)) W F k q L u2) (G0 (a + 2)) p A rr i s u = some (x, u') ∧ (1 ≤ u' ∧ u' ≤ F) ∧ CR G G' B ∧ BLo G G' B d L.length ∧ NS G' B d (G0 (a + 6) p) i' x L u' ∧ (0 ≤ i' ∧ i' ≤ 5) ∧ nxS A n i' x (pc (G0 (a + 1)) (G0 (a + 6)) (p + 1)) = -1 ∧ WST T nx R B iT w F G G') ∨ (evl (fun q u2 => evP (G0 (tvA B v + 5)) (G0 (tvA B v + 9)) (G0 (a + 1)) (G0 (a + 2)) W F k q L u2) (G0 (a + 2)) p A rr i s u = none ∧ WFA T nx R B iT w F G) := by
        intro rr
        induction rr with
        | zero =>
          intro i s u G hi h0 fw nS u1 u2
          exact Or.inl ⟨s, u, i, G, rfl, ⟨u1, u2⟩, CR_rfl _ _, BLo_rfl _ _ _ _, nS, by omega, nx_end g n0 (by omega), fun _ _ hh => hh⟩
        | succ rr ihr =>
          intro i s u G hi h0 fw nS u1 u2
          have iw : (i : Int) < wnA A n := by omega
          have e1 : evl (fun q u2 => evP (G0 (tvA B v + 5)) (G0 (tvA B v + 9)) (G0 (a + 1)) (G0 (a + 2)) W F k q L u2) (G0 (a + 2)) p A (rr + 1) i s u = bnd (evP (G0 (tvA B v + 5)) (G0 (tvA B v + 9)) (G0 (a + 1)) (G0 (a + 2)) W F k (chI (G0 (a + 2)) p i) L u) (fun x u2 => evl (fun q u2 => evP (G0 (tvA B v + 5)) (G0 (tvA B v + 9)) (G0 (a + 1)) (G0 (a + 2)) W F k q L u2) (G0 (a + 2)) p A rr (i + 1) (upA A i s x) u2) := rfl
          rw [e1]
          rcases step i G i s u L fw (by omega) nS u1 u2 (by omega) (by omega) (nx_run g n0 iw) (fun z => by omega) with ⟨x, u', G1, b1, b2, b3, b4, b5, b6⟩ | ⟨b1, b2⟩
          · rw [b1]
            have tkl : tkL A i (G0 (a + 1) (p + 1) - 20) x L = L := by rw [tkL, if_neg (by omega), if_neg (by omega)]
            rw [tkl, upA_tk g h0 (fun z => by unfold wnA at iw; rw [if_pos z] at iw; omega)] at b5
            rcases ihr (i + 1) (upA A i s x) u' G1 (by omega) (fun z => by omega) (FW_CR fw b3) (by rw [show ((i + 1 : Nat) : Int) = (i : Int) + 1 by omega]; exact b5) b2.1 b2.2 with ⟨x2, u3, i3, G2, c1, c2, c3, c4, c5, c6, c7, c8⟩ | ⟨c1, c2⟩
            · exact Or.inl ⟨x2, u3, i3, G2, c1, c2, CR_tr b3 c3, BLo_tr b4 c4 (Int.le_refl _) (Int.le_refl _), c5, c6, c7, WST_tr b6 c8⟩
            · exact Or.inr ⟨c1, WFA_st b3 b6 c2⟩
          · rw [b1]
            exact Or.inr ⟨rfl, b2⟩
      exact key (wnA A n).toNat 0 (inA A) u G (by omega) (fun _ => rfl) fw nS u1 u2
    · rw [if_pos g]
      have eS : inS A n = 0 := by rw [inS, if_neg (by omega), if_neg (by omega), if_neg (by omega)]
      by_cases q : n < 3
      · rw [if_pos q]
        exact Or.inl (stay 0 eS.symm (by rw [nxS, if_pos (by omega)]))
      · rw [if_neg q]
        have c1n := c1n (by omega)
        by_cases nm : 20 ≤ G0 (a + 1) (p + 1) ∧ G0 (a + 1) (p + 1) ≤ 35
        · rw [if_pos nm]
          have nm' := c1n.mpr nm
          rw [eS] at nS
          rcases step 1 G 0 0 u L fw (by omega) nS u1 u2 (by omega) (by omega) (by rw [nxS, if_neg (by omega), if_neg (by omega), if_pos g, if_pos (by omega)]; rfl) (fun _ => Or.inl ⟨rfl, nm⟩) with ⟨x, u', G1, b1, b2, b3, b4, b5, b6⟩ | ⟨b1, b2⟩
          · rw [b1]
            rw [show tkS A 0 0 x = 0 by rw [tkS, if_neg (by omega), if_neg (by omega), if_neg (by omega), if_pos ⟨g, rfl⟩], show tkL A 0 (G0 (a + 1) (p + 1) - 20) x L = (G0 (a + 1) (p + 1) - 20, x) :: L by rw [tkL, if_pos ⟨g, rfl⟩]] at b5
            show (∃ (x2 u3 i3 : Int) (G' : Nat → Int → Int), evP (G0 (tvA B v + 5)) (G0 (tvA B v + 9)) (G0 (a + 1)) (G0 (a + 2)) W F k (chI (G0 (a + 2)) p 2) ((G0 (a + 1) (p + 1) - 20, x) :: L) u' = some (x2, u3) ∧ _) ∨ (evP (G0 (tvA B v + 5)) (G0 (tvA B v + 9)) (G0 (a + 1)) (G0 (a + 2)) W F k (chI (G0 (a + 2)) p 2) ((G0 (a + 1) (p + 1) - 20, x) :: L) u' = none ∧ _)
            rcases step 2 G1 (0 + 1) 0 u' ((G0 (a + 1) (p + 1) - 20, x) :: L) (FW_CR fw b3) (by omega) b5 b2.1 b2.2 (by rw [List.length_cons]; omega) (by omega) (by rw [nxS, if_neg (by omega), if_neg (by omega), if_pos g, if_pos (by omega)]; rfl) (fun _ => Or.inr ⟨by omega, List.cons_ne_nil _ _⟩) with ⟨x2, u3, G2, c1, c2, c3, c4, c5, c6⟩ | ⟨c1, c2⟩
            · rw [show tkS A (0 + 1) 0 x2 = x2 by rw [tkS, if_neg (by omega), if_neg (by omega), if_neg (by omega), if_neg (by omega)], show tkL A (0 + 1) (G0 (a + 1) (p + 1) - 20) x2 ((G0 (a + 1) (p + 1) - 20, x) :: L) = L by rw [tkL, if_neg (by omega), if_pos g]; rfl] at c5
              exact Or.inl ⟨x2, u3, 0 + 1 + 1, G2, c1, c2, CR_tr b3 c3, BLo_tr b4 c4 (Int.le_refl _) (by rw [List.length_cons]; omega), c5, by omega, by rw [nxS, if_neg (by omega), if_neg (by omega), if_pos g, if_neg (by omega)], WST_tr b6 c6⟩
            · exact Or.inr ⟨c1, WFA_st b3 b6 c2⟩
          · rw [b1]
            exact Or.inr ⟨rfl, b2⟩
        · rw [if_neg nm]
          have nm' := fun z => nm (c1n.mp z)
          exact Or.inl (stay 0 eS.symm (by rw [nxS, if_pos (by omega)]))
    · rw [if_neg (by omega), if_pos g]
      have eS : inS A n = 0 := by rw [inS, if_neg (by omega), if_neg (by omega), if_neg (by omega)]
      by_cases q : n < 3
      · rw [if_pos q]
        exact Or.inl (stay 0 eS.symm (by rw [nxS, if_pos (by omega)]))
      · rw [if_neg q]
        rw [eS] at nS
        rcases step 0 G 0 0 u L fw (by omega) nS u1 u2 (by omega) (by omega) (by rw [nxS, if_neg (by omega), if_neg (by omega), if_neg (by omega), if_pos g, if_pos rfl]; rfl) (fun z => by omega) with ⟨x, u', G1, b1, b2, b3, b4, b5, b6⟩ | ⟨b1, b2⟩
        · rw [b1]
          rw [show tkS A 0 0 x = x by rw [tkS, if_neg (by omega), if_neg (by omega), if_neg (by omega), if_neg (by omega)], show tkL A 0 (G0 (a + 1) (p + 1) - 20) x L = L by rw [tkL, if_neg (by omega), if_neg (by omega)]] at b5
          obtain ⟨jj, hjj⟩ : ∃ jj : Nat, jj = if zI x = zI 0 then 1 else 2 := ⟨_, rfl⟩
          show (∃ (x2 u3 i3 : Int) (G' : Nat → Int → Int), evP (G0 (tvA B v + 5)) (G0 (tvA B v + 9)) (G0 (a + 1)) (G0 (a + 2)) W F k (chI (G0 (a + 2)) p (if zI x = zI 0 then 1 else 2)) L u' = some (x2, u3) ∧ _) ∨ (evP (G0 (tvA B v + 5)) (G0 (tvA B v + 9)) (G0 (a + 1)) (G0 (a + 2)) W F k (chI (G0 (a + 2)) p (if zI x = zI 0 then 1 else 2)) L u' = none ∧ _)
          rw [← hjj]
          have nxj : nxS A n (0 + 1) x (pc (G0 (a + 1)) (G0 (a + 6)) (p + 1)) = (jj : Int) := by
            rw [nxS, if_neg (by omega), if_neg (by omega), if_neg (by omega), if_pos g, if_neg (by omega), if_neg (by omega), hjj]
            by_cases z : zI x = zI 0
            · rw [if_pos z, if_pos z]; rfl
            · rw [if_neg z, if_neg z]; rfl
          rcases step jj G1 (0 + 1) x u' L (FW_CR fw b3) (by omega) b5 b2.1 b2.2 (by omega) (by rw [hjj]; split <;> omega) nxj (fun z => by omega) with ⟨x2, u3, G2, c1, c2, c3, c4, c5, c6⟩ | ⟨c1, c2⟩
          · rw [show tkS A (0 + 1) x x2 = x2 by rw [tkS, if_neg (by omega), if_neg (by omega), if_neg (by omega), if_neg (by omega)], show tkL A (0 + 1) (G0 (a + 1) (p + 1) - 20) x2 L = L by rw [tkL, if_neg (by omega), if_neg (by omega)]] at c5
            exact Or.inl ⟨x2, u3, 0 + 1 + 1, G2, c1, c2, CR_tr b3 c3, BLo_tr b4 c4 (Int.le_refl _) (Int.le_refl _), c5, by omega, by rw [nxS, if_neg (by omega), if_neg (by omega), if_neg (by omega), if_pos g, if_neg (by omega), if_pos (by omega)], WST_tr b6 c6⟩
          · exact Or.inr ⟨c1, WFA_st b3 b6 c2⟩
        · rw [b1]
          exact Or.inr ⟨rfl, b2⟩
    · rw [if_neg (by omega), if_neg (by omega), if_pos g]
      exact Or.inl (stay 7 (by rw [inS, if_neg (by omega), if_pos g]) (by rw [nxS, if_pos (by omega)]))
    · rw [if_neg (by omega), if_neg (by omega), if_neg (by omega), if_pos g]
      exact Or.inl (stay n (by rw [inS, if_neg (by omega), if_neg (by omega), if_pos g]) (by rw [nxS, if_pos (by omega)]))
end
