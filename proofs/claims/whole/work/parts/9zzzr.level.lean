section
/-! distance: levels and mirrored places (pure) -/
/-- lev: how many pieces a piece lies in -/
def LEV (n : Int) (e u lev : Int → Int) : Prop := Nst e 0 n ∧ (0 < n ∧ e 0 = n ∧ lev 0 = 0) ∧ (∀ p, 0 < p → p < n → 0 ≤ u p ∧ u p < p ∧ p < e (u p) ∧ lev p = lev (u p) + 1) ∧ ∀ x p, 0 ≤ x → x < p → p < e x → p < n → x ≤ u p
set_option maxHeartbeats 200000 in
theorem LEV_of {h F : Int} {ns I : Int → Int} {n N L : Int} {c e u s r na la lev : Int → Int} (t : Tr h F ns I n N L c e u s r na la) (l0 : lev 0 = 0) (l1 : ∀ p, 0 < p → p < n → lev p = lev (u p) + 1) : LEV n e u lev := by
  have n1 := t.1.1
  have e0 := t.1.2.2.2.2.2.2.1
  refine ⟨⟨fun q q0 q1 => t.2.1 q q0 q1, fun q x q0 q1 q2 q3 => (Tr_nest t q0 (by omega) q2 q3).1⟩, ⟨by omega, e0, l0⟩, fun p p0 p1 => ?_, fun x p x0 x1 x2 x3 => (Tr_nest t x0 (by omega) x2 x3).2 x1⟩
  have := Tr_par t p0 p1
  exact ⟨this.1, this.2.1, this.2.2.2.1, l1 p p0 p1⟩
set_option maxHeartbeats 200000 in
theorem lev_in {n : Int} {e u lev : Int → Int} (h : LEV n e u lev) : ∀ (m : Nat) (w x : Int), w < m → 0 ≤ x → x < w → w < e x → w < n → lev x < lev w := by
  intro m
  induction m with
  | zero =>
    intro w x a b c d
    omega
  | succ m ih =>
    intro w x wm x0 xw we wn
    obtain ⟨b1, b2, b3, b4⟩ := h.2.2.1 w (by omega) wn
    have c := h.2.2.2 x w x0 xw we wn
    by_cases g : x = u w
    · rw [b4, ← g]
      omega
    · have := ih (u w) x (by omega) x0 (by omega) (by omega) (by omega)
      omega
set_option maxHeartbeats 200000 in
theorem lev_b {n : Int} {e u lev : Int → Int} (h : LEV n e u lev) : ∀ (m : Nat) (p : Int), p < m → 0 ≤ p → p < n → 0 ≤ lev p ∧ lev p ≤ p := by
  intro m
  induction m with
  | zero =>
    intro p a b c
    omega
  | succ m ih =>
    intro p pm p0 pn
    by_cases g : p = 0
    · rw [g, h.2.1.2.2]
      omega
    · obtain ⟨b1, b2, b3, b4⟩ := h.2.2.1 p (by omega) pn
      have := ih (u p) (by omega) b1 (by omega)
      omega
set_option maxHeartbeats 200000 in
theorem lev_bb {n : Int} {e u lev : Int → Int} (h : LEV n e u lev) {p : Int} (p0 : 0 ≤ p) (p1 : p < n) : 0 ≤ lev p ∧ lev p ≤ p := lev_b h (p.toNat + 1) p (by omega) p0 p1
set_option maxHeartbeats 200000 in
theorem lev_i {n : Int} {e u lev : Int → Int} (h : LEV n e u lev) {x w : Int} (x0 : 0 ≤ x) (xw : x < w) (we : w < e x) (wn : w < n) : lev x < lev w := lev_in h (w.toNat + 1) w x (by omega) x0 xw we wn
set_option maxHeartbeats 200000 in
theorem lev_1 {n : Int} {e u lev : Int → Int} (h : LEV n e u lev) (q : Int) (q0 : 0 ≤ q) (q1 : q < n) (g : q + 1 < e q) : lev (q + 1) = lev q + 1 := by
  have b := h.1.1 q q0 q1
  obtain ⟨b1, b2, b3, b4⟩ := h.2.2.1 (q + 1) (by omega) (by omega)
  have c := h.2.2.2 q (q + 1) q0 (by omega) g (by omega)
  rw [b4, show u (q + 1) = q by omega]
set_option maxHeartbeats 200000 in
theorem lev_2 {n : Int} {e u lev : Int → Int} (h : LEV n e u lev) (x q : Int) (x0 : 0 ≤ x) (xq : x < q) (qn : q < n) (g : e q < e x) (l : lev q = lev x + 1) : lev (e q) = lev x + 1 := by
  have bx := h.1.1 x x0 (by omega)
  have bq := h.1.1 q (by omega) qn
  obtain ⟨b1, b2, b3, b4⟩ := h.2.2.1 (e q) (by omega) (by omega)
  obtain ⟨d1, d2, d3, d4⟩ := h.2.2.1 q (by omega) qn
  have c := h.2.2.2 x (e q) x0 (by omega) g (by omega)
  have c2 := h.2.2.2 x q x0 xq (by omega) qn
  have uq : u q = x := by
    by_cases z : u q = x
    · exact z
    · have := lev_i h x0 (show x < u q by omega) (by omega) (by omega)
      omega
  have ux : u (e q) = x := by
    by_cases z : u (e q) = x
    · exact z
    · exfalso
      by_cases z1 : u (e q) < q
      · have := h.2.2.2 (u (e q)) q b1 z1 (by omega) qn
        omega
      · by_cases z2 : u (e q) = q
        · rw [z2] at b3
          omega
        · have := h.1.2 q (u (e q)) (by omega) (by omega) b2 (by omega)
          omega
  rw [b4, ux]
set_option maxHeartbeats 200000 in
theorem lev_e {n : Int} {e u lev : Int → Int} (h : LEV n e u lev) {p : Int} (p0 : 0 ≤ p) (pn : p < n) (g : e p < n) : lev (e p) ≤ lev p := by
  have bp := h.1.1 p p0 pn
  obtain ⟨b1, b2, b3, b4⟩ := h.2.2.1 (e p) (by omega) g
  have wp : u (e p) < p := by
    refine Int.not_le.mp fun z => ?_
    by_cases z1 : u (e p) = p
    · rw [z1] at b3
      omega
    · have := h.1.2 p (u (e p)) p0 (by omega) b2 (by omega)
      omega
  have := lev_i h b1 wp (by omega) pn
  omega
set_option maxHeartbeats 200000 in
theorem lev_s {n : Int} {e u lev : Int → Int} (h : LEV n e u lev) {q : Int} (q0 : 0 ≤ q) (q1 : q + 1 < n) : lev (q + 1) ≤ lev q + 1 := by
  obtain ⟨b1, b2, b3, b4⟩ := h.2.2.1 (q + 1) (by omega) q1
  by_cases z : u (q + 1) = q
  · rw [b4, z]
    exact Int.le_refl _
  · have := lev_i h b1 (show u (q + 1) < q by omega) (by omega) (by omega)
    omega
set_option maxHeartbeats 200000 in
theorem lev_d {n : Int} {e u lev : Int → Int} (h : LEV n e u lev) {p : Int} (p0 : 0 ≤ p) : ∀ (d : Nat), p + d < n → lev (p + d) ≤ lev p + d := by
  intro d
  induction d with
  | zero =>
    intro _
    rw [show p + ((0 : Nat) : Int) = p by omega]
    omega
  | succ d ih =>
    intro hd
    have a := ih (by omega)
    have b := lev_s h (q := p + d) (by omega) (by omega)
    rw [show p + (d : Int) + 1 = p + ((d + 1 : Nat) : Int) by omega] at b
    omega
/-- the mirrored place -/
def mpl (n : Int) (e lev : Int → Int) (p : Int) : Int := n - e p + lev p
set_option maxHeartbeats 200000 in
theorem mpl_in {n : Int} {e u lev : Int → Int} (h : LEV n e u lev) {p w : Int} (p0 : 0 ≤ p) (pw : p < w) (we : w < e p) (wn : w < n) : mpl n e lev p < mpl n e lev w ∧ n - w + lev w ≤ n - p + lev p := by
  have a := lev_i h p0 pw we wn
  have b := h.1.2 p w p0 pw we wn
  have d := lev_d h p0 (w - p).toNat (by omega)
  rw [show p + (((w - p).toNat : Nat) : Int) = w by omega] at d
  unfold mpl
  omega
set_option maxHeartbeats 200000 in
theorem mpl_out {n : Int} {e u lev : Int → Int} (h : LEV n e u lev) {p w : Int} (p0 : 0 ≤ p) (pn : p < n) (we : e p ≤ w) (wn : w < n) : n - w + lev w ≤ mpl n e lev p ∧ mpl n e lev w < mpl n e lev p := by
  have bp := h.1.1 p p0 pn
  have bw := h.1.1 w (by omega) wn
  have a := lev_e h p0 pn (by omega)
  have d := lev_d h (p := e p) (by omega) (w - e p).toNat (by omega)
  rw [show e p + (((w - e p).toNat : Nat) : Int) = w by omega] at d
  unfold mpl
  omega
set_option maxHeartbeats 200000 in
theorem mpl_b {n : Int} {e u lev : Int → Int} (h : LEV n e u lev) {p : Int} (p0 : 0 ≤ p) (pn : p < n) : 0 ≤ mpl n e lev p ∧ mpl n e lev p < n := by
  have bp := h.1.1 p p0 pn
  have a := lev_bb h p0 pn
  unfold mpl
  omega
set_option maxHeartbeats 200000 in
theorem mpl_inj {n : Int} {e u lev : Int → Int} (h : LEV n e u lev) {p w : Int} (p0 : 0 ≤ p) (pn : p < n) (w0 : 0 ≤ w) (wn : w < n) (g : mpl n e lev p = mpl n e lev w) : p = w := by
  by_cases a : p < w
  · by_cases b : w < e p
    · have := (mpl_in h p0 a b wn).1
      omega
    · have := (mpl_out h p0 pn (show e p ≤ w by omega) wn).2
      omega
  · by_cases c : w < p
    · by_cases b : p < e w
      · have := (mpl_in h w0 c b pn).1
        omega
      · have := (mpl_out h w0 wn (show e w ≤ p by omega) pn).2
        omega
    · omega
set_option maxHeartbeats 200000 in
theorem mpl_sur {n : Int} {e u lev : Int → Int} (h : LEV n e u lev) {z : Int} (z0 : 0 ≤ z) (zn : z < n) : ∃ p, 0 ≤ p ∧ p < n ∧ mpl n e lev p = z := by
  refine Classical.byContradiction fun ne => ?_
  have k := pig n.toNat n.toNat (fun k => if k < n.toNat then mpl n e lev k else z) (fun k hk => by
    show 0 ≤ (if k < n.toNat then mpl n e lev k else z) ∧ (if k < n.toNat then mpl n e lev k else z) < _
    split
    · have := mpl_b h (p := (k : Int)) (by omega) (by omega)
      omega
    · omega) (fun j k hj hk => by
    show (if j < n.toNat then mpl n e lev j else z) = (if k < n.toNat then mpl n e lev k else z) → _
    intro g
    by_cases a : j < n.toNat
    · rw [if_pos a] at g
      by_cases b : k < n.toNat
      · rw [if_pos b] at g
        have := mpl_inj h (p := (j : Int)) (w := (k : Int)) (by omega) (by omega) (by omega) (by omega) g
        omega
      · rw [if_neg b] at g
        exact absurd ⟨(j : Int), by omega, by omega, g⟩ ne
    · rw [if_neg a] at g
      by_cases b : k < n.toNat
      · rw [if_pos b] at g
        exact absurd ⟨(k : Int), by omega, by omega, g.symm⟩ ne
      · omega)
  omega
/-- the mirrored row of e, L -/
def MRo (n : Int) (L e lev Lm em : Int → Int) : Prop := ∀ q, 0 ≤ q → q < n → Lm (mpl n e lev q) = L q ∧ em (mpl n e lev q) = mpl n e lev q + (e q - q)
set_option maxHeartbeats 200000 in
theorem MRo_N {n : Int} {e u lev : Int → Int} (h : LEV n e u lev) {L Lm em : Int → Int} (m : MRo n L e lev Lm em) : Nst em 0 n := by
  refine ⟨fun z z0 z1 => ?_, fun z y z0 zy yz yn => ?_⟩
  · obtain ⟨p, p0, p1, hp⟩ := mpl_sur h z0 z1
    have b := (m p p0 p1).2
    rw [hp] at b
    have bp := h.1.1 p p0 p1
    have lb := lev_bb h p0 p1
    unfold mpl at hp
    omega
  · obtain ⟨p, p0, p1, hp⟩ := mpl_sur h z0 (show z < n by omega)
    obtain ⟨w, w0, w1, hw⟩ := mpl_sur h (show 0 ≤ y by omega) yn
    have b := (m p p0 p1).2
    have d := (m w w0 w1).2
    rw [hp] at b
    rw [hw] at d
    have ep : mpl n e lev p + (e p - p) = n - p + lev p := by unfold mpl; omega
    have ew : mpl n e lev w + (e w - w) = n - w + lev w := by unfold mpl; omega
    by_cases a : p < w
    · by_cases g : w < e p
      · have := (mpl_in h p0 a g w1).2
        omega
      · have := (mpl_out h p0 p1 (show e p ≤ w by omega) w1).2
        omega
    · by_cases c : w < p
      · by_cases g : p < e w
        · have := (mpl_in h w0 c g p1).1
          omega
        · have := (mpl_out h w0 w1 (show e w ≤ p by omega) p1).1
          omega
      · have : p = w := by omega
        rw [this] at hp
        omega
set_option maxHeartbeats 200000 in
theorem MRo_0 {n : Int} {e u lev : Int → Int} (h : LEV n e u lev) {L Lm em : Int → Int} (m : MRo n L e lev Lm em) : em 0 = n := by
  have b := (m 0 (Int.le_refl _) h.2.1.1).2
  have e0 : mpl n e lev 0 = 0 := by
    unfold mpl
    rw [h.2.1.2.1, h.2.1.2.2]
    omega
  rw [e0, h.2.1.2.1] at b
  omega
set_option maxHeartbeats 200000 in
theorem MRo_F {n : Int} {e u lev : Int → Int} (h : LEV n e u lev) {L Lm em : Int → Int} (m : MRo n L e lev Lm em) : Fw Lm em 0 n.toNat = mir (Fw L e 0 n.toNat) := Fw_mir0 h.1 (fun q q0 q1 => m q q0 q1) (fun q q0 q1 g => lev_1 h q q0 q1 g) (fun x q x0 xq qn g l => lev_2 h x q x0 xq qn g l) h.2.1.1 h.2.1.2.1 h.2.1.2.2
set_option maxHeartbeats 200000 in
theorem MRo_EDt {n n' : Int} {L e u lev Lm em L' e' u' lev' Lm' em' : Int → Int} (h : LEV n e u lev) (h' : LEV n' e' u' lev') (m : MRo n L e lev Lm em) (m' : MRo n' L' e' lev' Lm' em') : EDt Lm em Lm' em' 0 n 0 n' = EDt L e L' e' 0 n 0 n' := EDt_mir h.1 h'.1 (MRo_F h m) (MRo_F h' m') h.2.1.1 h'.2.1.1
end
