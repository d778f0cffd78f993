section
/-! kept: trees told by their words alone -/
def wf (w : List Int) : Int → Int := fun z => w.getD z.toNat 0
theorem wf_at (w : List Int) (q : Nat) : wf w q = w.getD q 0 := by
  unfold wf
  rw [Int.toNat_natCast]
theorem At_wf (w : List Int) : At (wf w) 0 w := At_self w 0 _ fun z hz => by
  rw [show (((0 : Nat) : Int) + (z : Int)) = (z : Int) by omega, wf_at]
theorem wf_in {w : List Int} {q : Nat} (h : q < w.length) : wf w q ∈ w := by
  rw [wf_at, List.getD_eq_getElem?_getD, List.getElem?_eq_getElem h]
  exact List.getElem_mem h
theorem wf_out {w : List Int} {q : Nat} (h : ¬ q < w.length) : wf w q = 0 := by
  rw [wf_at, List.getD_eq_getElem?_getD, List.getElem?_eq_none (by omega)]
  rfl
theorem wf_ext {w w' : List Int} (hl : w.length = w'.length) (h : ∀ q : Nat, q < w.length → wf w q = wf w' q) : w = w' := by
  refine List.ext_getElem hl fun q h1 h2 => ?_
  have := h q h1
  rw [wf_at, wf_at, List.getD_eq_getElem?_getD, List.getElem?_eq_getElem h1, List.getD_eq_getElem?_getD, List.getElem?_eq_getElem h2] at this
  exact this
theorem sgL_wf (w : List Int) : sgL (wf w) 0 w.length = w := by
  refine (wf_ext (by rw [sgL_len]) fun q hq => ?_).symm
  have h := At_sg (At_wf (sgL (wf w) 0 w.length)) q (by omega) (by omega)
  rw [show (((0 : Nat) : Int) + (q : Int)) = (q : Int) by omega, show (0 : Int) + (q : Int) = q by omega] at h
  exact h.symm
theorem wf_of_At {c : Int → Int} {w : List Int} (h : At c 0 w) {q : Nat} (hq : q < w.length) : c q = wf w q := by
  have := At_get h q hq
  rw [show (((0 : Nat) : Int) + (q : Int)) = (q : Int) by omega] at this
  rw [this, wf_at]
/-- a word that is a tree of telling v, with holes, no more than 40 nodes -/
def GW1 (G : Nat → Int → Int) (B : Nat) (v : Int) (w : List Int) : Prop := (∃ k, PW 1 (G (tvA B v) 1) (G (tvA B v + 5)) (G (tvA B v + 6)) k 60 w) ∧ nb (wf w) w.length ≤ 40
theorem GW_row {G : Nat → Int → Int} {B : Nat} {v : Int} {w : List Int} (hF : IFm G B) (kv : 0 ≤ v ∧ v ≤ 1) (g : GW1 G B v w) : (∀ q : Nat, 1000 ≤ wf w q → ns0 (wf w q) (G (tvA B v + 5))) ∧ Pre (G (tvA B v + 5)) (wf w) w.length ∧ dd (G (tvA B v + 5)) (wf w) w.length = 0 ∧ OKW 1 (G (tvA B v + 5)) (G (tvA B v + 6)) (wf w) w.length ∧ 1 ≤ w.length ∧ w.length ≤ 201 ∧ (∀ q : Nat, q < w.length → 20 ≤ wf w q ∧ wf w q ≤ 1013 ∧ (1000 ≤ wf w q → wf w q - 1000 < G (tvA B v) 1)) ∧ ∀ q : Nat, q < w.length → ¬ 1000 ≤ wf w q → isLf (wf w q) := by
  obtain ⟨⟨k, pw⟩, n40⟩ := g
  have hF14 := (hF v kv.1 kv.2).2.2.1
  have n0 : ∀ f, 0 ≤ f → f < G (tvA B v) 1 → 0 ≤ (G (tvA B v + 5)) f := fun f f0 f1 => (IFm_ns hF kv f0 f1).1
  have tv1 : G (tvA B v) 1 ≤ 14 := hF14
  have cq : ∀ q : Nat, q < w.length → 20 ≤ wf w q ∧ (1000 ≤ wf w q → wf w q - 1000 < G (tvA B v) 1) := fun q hq => PW_codes pw _ (wf_in hq)
  have n5 : ∀ q : Nat, 1000 ≤ wf w q → ns0 (wf w q) (G (tvA B v + 5)) := fun q l => by
    by_cases hq : q < w.length
    · have z := (cq q hq).2 l
      have y := IFm_ns hF kv (show 0 ≤ wf w q - 1000 by omega) z
      exact ⟨by omega, y.1, y.2⟩
    · have := wf_out (w := w) hq
      omega
  have pr0 : Pre (G (tvA B v + 5)) (wf w) 0 := ⟨fun q hq => absurd hq (by omega), fun q hq => absurd hq (by omega)⟩
  obtain ⟨s1, s2, _, _, s5⟩ := pw_seg n0 _ 60 w 0 pw (At_wf w) pr0 (Int.le_refl _)
  rw [Nat.zero_add] at s1 s2 s5
  have s2 : dd (G (tvA B v + 5)) (wf w) w.length = 0 := s2
  have s5 := s5 (fun q hq => absurd hq (by omega)) rfl
  have room := dd_room (ns := (G (tvA B v + 5))) (c := wf w) (P := w.length) (fun q _ h => (n5 q h).2.2)
  have len1 : 1 ≤ w.length := by
    refine Nat.one_le_iff_ne_zero.mpr fun e => ?_
    rw [e] at s2
    have s2 : (1 : Int) = 0 := s2
    omega
  refine ⟨n5, s1, s2, s5, len1, by omega, fun q hq => ?_, fun q hq l => ?_⟩
  · have z := cq q hq
    refine ⟨z.1, ?_, z.2⟩
    by_cases l : 1000 ≤ wf w q
    · have := z.2 l
      omega
    · omega
  · obtain ⟨t, t1, _⟩ := tg_some (Pre_le s1 (show q ≤ w.length by omega)) (s1.1 q hq)
    have it : ∃ it, (tgI (G (tvA B v + 5)) (G (tvA B v + 6)) (wf w) q)[0]? = some it := by
      rcases tgI_get (I := (G (tvA B v + 6))) q 0 t t1 with ⟨_, z⟩ | ⟨_, _, _, _, z⟩
      · exact ⟨_, z⟩
      · exact ⟨_, z⟩
    obtain ⟨it, hi⟩ := it
    have := s5 q hq it hi
    unfold okc at this
    unfold isLf
    omega
/-- a nodes' place, a leaf's place -/
noncomputable def naW (c : Int → Int) (n : Nat) (m : Int) : Int := @dite Int (∃ p : Int, 0 ≤ p ∧ p < n ∧ 1000 ≤ c p ∧ nb c p.toNat = m) (Classical.propDecidable _) (fun h => Classical.choose h) (fun _ => 0)
noncomputable def laW (c : Int → Int) (n : Nat) (m : Int) : Int := @dite Int (∃ p : Int, 0 ≤ p ∧ p < n ∧ ¬ 1000 ≤ c p ∧ p - nb c p.toNat = m) (Classical.propDecidable _) (fun h => Classical.choose h) (fun _ => 0)
theorem naW_at {c : Int → Int} {n : Nat} {p : Int} (p0 : 0 ≤ p) (p1 : p < n) (l : 1000 ≤ c p) : naW c n (nb c p.toNat) = p := by
  have h : ∃ q : Int, 0 ≤ q ∧ q < n ∧ 1000 ≤ c q ∧ nb c q.toNat = nb c p.toNat := ⟨p, p0, p1, l, rfl⟩
  unfold naW
  rw [dif_pos h]
  obtain ⟨a, b, d, f⟩ := Classical.choose_spec h
  by_cases g : Classical.choose h < p
  · have := nbi_lt c a g d
    omega
  · by_cases g2 : p < Classical.choose h
    · have := nbi_lt c p0 g2 l
      omega
    · omega
theorem laW_at {c : Int → Int} {n : Nat} {p : Int} (p0 : 0 ≤ p) (p1 : p < n) (l : ¬ 1000 ≤ c p) : laW c n (p - nb c p.toNat) = p := by
  have h : ∃ q : Int, 0 ≤ q ∧ q < n ∧ ¬ 1000 ≤ c q ∧ q - nb c q.toNat = p - nb c p.toNat := ⟨p, p0, p1, l, rfl⟩
  unfold laW
  rw [dif_pos h]
  obtain ⟨a, b, d, f⟩ := Classical.choose_spec h
  have key : ∀ x y : Int, 0 ≤ x → x < y → ¬ 1000 ≤ c x → x - nb c x.toNat + 1 ≤ y - nb c y.toNat := fun x y x0 xy lx => by
    have g : ∀ k : Nat, nb c (x.toNat + 1 + k) ≤ nb c (x.toNat + 1) + k := by
      intro k
      induction k with
      | zero =>
        show nb c (x.toNat + 1) ≤ nb c (x.toNat + 1) + ((0 : Nat) : Int)
        omega
      | succ k ih =>
        rw [show x.toNat + 1 + (k + 1) = x.toNat + 1 + k + 1 by omega, nb_s]
        split <;> omega
    have s := nb_s c x.toNat
    rw [Int.toNat_of_nonneg x0, if_neg lx] at s
    have := g (y.toNat - (x.toNat + 1))
    rw [show x.toNat + 1 + (y.toNat - (x.toNat + 1)) = y.toNat by omega] at this
    omega
  by_cases g : Classical.choose h < p
  · have := key _ _ a g d
    omega
  · by_cases g2 : p < Classical.choose h
    · have := key _ _ p0 g2 l
      omega
    · omega
/-- a memory in which the class's tree at a is the word w's -/
noncomputable def fab (G : Nat → Int → Int) (a : Nat) (v : Int) (ns : Int → Int) (w : List Int) : Nat → Int → Int := fun x => if x = a then (fun j => if j = 1 then v else if j = 2 then (w.length : Int) else if j = 3 then nb (wf w) w.length else if j = 4 then (w.length : Int) - nb (wf w) w.length else G a j) else if x = a + 1 then (wf w) else if x = a + 2 then eE ns (wf w) else if x = a + 3 then uU ns (wf w) else if x = a + 4 then sS ns (wf w) else if x = a + 6 then (fun p => if 1000 ≤ (wf w) p then nb (wf w) p.toNat else p - nb (wf w) p.toNat) else if x = a + 7 then naW (wf w) w.length else if x = a + 8 then laW (wf w) w.length else G x
theorem fab_ne {G : Nat → Int → Int} {a x : Nat} {v : Int} {ns : Int → Int} {w : List Int} (h : ¬ (a ≤ x ∧ x ≤ a + 8)) : fab G a v ns w x = G x := by
  unfold fab
  rw [if_neg (by omega), if_neg (by omega), if_neg (by omega), if_neg (by omega), if_neg (by omega), if_neg (by omega), if_neg (by omega), if_neg (by omega)]
theorem fab_is {G : Nat → Int → Int} {a : Nat} {v : Int} {ns : Int → Int} {w : List Int} : (fab G a v ns w a 1 = v ∧ fab G a v ns w a 2 = (w.length : Int) ∧ fab G a v ns w a 3 = nb (wf w) w.length ∧ fab G a v ns w a 4 = (w.length : Int) - nb (wf w) w.length) ∧ fab G a v ns w (a + 1) = (wf w) ∧ fab G a v ns w (a + 2) = eE ns (wf w) ∧ fab G a v ns w (a + 3) = uU ns (wf w) ∧ fab G a v ns w (a + 4) = sS ns (wf w) ∧ fab G a v ns w (a + 6) = (fun p => if 1000 ≤ (wf w) p then nb (wf w) p.toNat else p - nb (wf w) p.toNat) ∧ fab G a v ns w (a + 7) = naW (wf w) w.length ∧ fab G a v ns w (a + 8) = laW (wf w) w.length := by
  unfold fab
  refine ⟨⟨?_, ?_, ?_, ?_⟩, ?_, ?_, ?_, ?_, ?_, ?_, ?_⟩
  · rw [if_pos rfl]; rfl
  · rw [if_pos rfl]; rfl
  · rw [if_pos rfl]; rfl
  · rw [if_pos rfl]; rfl
  · rw [if_neg (by omega), if_pos rfl]
  · rw [if_neg (by omega), if_neg (by omega), if_pos rfl]
  · rw [if_neg (by omega), if_neg (by omega), if_neg (by omega), if_pos rfl]
  · rw [if_neg (by omega), if_neg (by omega), if_neg (by omega), if_neg (by omega), if_pos rfl]
  · rw [if_neg (by omega), if_neg (by omega), if_neg (by omega), if_neg (by omega), if_neg (by omega), if_pos rfl]
  · rw [if_neg (by omega), if_neg (by omega), if_neg (by omega), if_neg (by omega), if_neg (by omega), if_neg (by omega), if_pos rfl]
  · rw [if_neg (by omega), if_neg (by omega), if_neg (by omega), if_neg (by omega), if_neg (by omega), if_neg (by omega), if_neg (by omega), if_pos rfl]
/-- the reference's row i holds the word w -/
def RowW (G : Nat → Int → Int) (B : Nat) (i v : Int) (w : List Int) : Prop := GW1 G B v w ∧ BS (G (tvA B v + 5)) (wf w) G B i v w.length
theorem ix_fab {ns : Int → Int} {w : List Int} : Ix ns (wf w) w.length (eE ns (wf w)) (uU ns (wf w)) (sS ns (wf w)) (fun p => if 1000 ≤ (wf w) p then nb (wf w) p.toNat else p - nb (wf w) p.toNat) (naW (wf w) w.length) (laW (wf w) w.length) := fun p p0 p1 => ⟨rfl, rfl, rfl, fun l => ⟨if_pos l, naW_at p0 p1 l⟩, fun l => ⟨if_neg l, laW_at p0 p1 l⟩⟩
theorem fab_tok {G : Nat → Int → Int} {B a : Nat} {i v : Int} {w : List Int} (hF : IFm G B) (kv : 0 ≤ v ∧ v ≤ 1) (ha : B + 59 ≤ a ∧ a + 10 ≤ B + 370 ∨ B + 398 ≤ a ∧ a + 10 ≤ B + 544) (r : RowW G B i v w) : TOK (fab G a v (G (tvA B v + 5)) w) B 1 i v a ∧ IFm (fab G a v (G (tvA B v + 5)) w) B := by
  obtain ⟨g, bs⟩ := r
  obtain ⟨n5, pr, d0, ok, len1, len201, hcd, lf⟩ := GW_row hF kv g
  obtain ⟨⟨f1, f2, f3, f4⟩, g1, g2, g3, g4, g6, g7, g8⟩ := fab_is (G := G) (a := a) (v := v) (ns := (G (tvA B v + 5))) (w := w)
  have tvb : B + 370 ≤ tvA B v ∧ tvA B v + 14 ≤ B + 398 := by unfold tvA; omega
  have e0 : fab G a v (G (tvA B v + 5)) w (tvA B v) = G (tvA B v) := fab_ne (by omega)
  have e5 : fab G a v (G (tvA B v + 5)) w (tvA B v + 5) = G (tvA B v + 5) := fab_ne (by omega)
  have e6 : fab G a v (G (tvA B v + 5)) w (tvA B v + 6) = G (tvA B v + 6) := fab_ne (by omega)
  have en : ((w.length : Nat) : Int).toNat = w.length := Int.toNat_natCast _
  have hcdI : ∀ p : Int, 0 ≤ p → p < (w.length : Int) → 20 ≤ (wf w) p ∧ (1000 ≤ (wf w) p → (wf w) p - 1000 < G (tvA B v) 1) := fun p p0 p1 => by
    have := hcd p.toNat (by omega)
    rw [Int.toNat_of_nonneg p0] at this
    exact ⟨this.1, this.2.2⟩
  refine ⟨BS_TOK (n := (w.length : Int)) kv f1 f2 ?_ ?_ (by omega) ?_ ?_ ?_ ?_ ?_ (fun p p0 p1 l => ?_) (fun p p0 p1 l => ?_) ?_, IFm_congr (fun x q1 q2 _ _ => fab_ne (by omega)) (fun x q1 q2 => fab_ne (by omega)) hF⟩
  · rw [e5, g1, en]; exact pr
  · rw [e5, g1, en]; exact d0
  · rw [e5, g1, en]; exact BS_congr (fun x q1 q2 => fab_ne (by omega)) bs
  · rw [g1, en]; exact g.2
  · rw [e5, g1, g2, g3, g4, g6, g7, g8]; exact ix_fab
  · rw [f3, g1, en]
  · rw [f4, g1, en]
  · rw [g1] at l ⊢
    rw [e0]
    exact (hcdI p p0 p1).2 l
  · rw [g1]
    exact (hcdI p p0 p1).1
  · rw [e5, e6, g1, en]; exact ok
end
