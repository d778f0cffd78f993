section
/-! rows: the table (pure) -/
/-- m cells in N parts, in the order of both sides -/
def comps : Nat → Nat → List (List Int)
  | 1, 1 => [[1]]
  | 2, 1 => [[2]]
  | 2, 2 => [[1, 1]]
  | 3, 1 => [[3]]
  | 3, 2 => [[1, 2], [2, 1]]
  | 3, 3 => [[1, 1, 1]]
  | 4, 1 => [[4]]
  | 4, 2 => [[1, 3], [2, 2], [3, 1]]
  | 4, 3 => [[1, 1, 2], [1, 2, 1], [2, 1, 1]]
  | 4, 4 => [[1, 1, 1, 1]]
  | _, _ => []
set_option maxHeartbeats 400000 in
theorem comps_p : ∀ m : Fin 5, ∀ N : Fin 6, ∀ W ∈ comps m.val N.val, W.length = N.val ∧ (∀ w ∈ W, 1 ≤ w ∧ w ≤ (m.val : Int) ∧ (¬ N.val = 1 → w < (m.val : Int))) ∧ sumL (W.map Int.toNat) = m.val := by decide +kernel
set_option maxHeartbeats 400000 in
theorem comps_ok {m N : Nat} (hm : m ≤ 4) (hN : N ≤ 5) {W : List Int} (h : W ∈ comps m N) : W.length = N ∧ (∀ w ∈ W, 1 ≤ w ∧ w ≤ (m : Int) ∧ (¬ N = 1 → w < (m : Int))) ∧ sumL (W.map Int.toNat) = m := comps_p ⟨m, by omega⟩ ⟨N, by omega⟩ W h
def partE (T : Int → Int → (Int × (Int → List Int) × (Int → Int))) (it w : Int) : (Int × (Int → List Int) × (Int → Int)) := if 60 ≤ it then T (it - 60) w else if w = 1 then (1, fun _ => [it], fun _ => 1) else (0, fun _ => [], fun _ => 0)
def partsE (T : Int → Int → (Int × (Int → List Int) × (Int → Int))) : List Int → List Int → List (Int × (Int → List Int) × (Int → Int))
  | it :: l, w :: W => partE T it w :: partsE T l W
  | _, _ => []
def gW (T : Int → Int → (Int × (Int → List Int) × (Int → Int))) (l : List Int) : List (List Int) → (Int × (Int → List Int) × (Int → Int)) → Option (Int × (Int → List Int) × (Int → Int))
  | [], E => some E
  | W :: r, E => (stF (partsE T l W) E).bind (gW T l r)
def E0 : (Int × (Int → List Int) × (Int → Int)) := (0, fun _ => [], fun _ => 0)
def gF (T : Int → Int → (Int × (Int → List Int) × (Int → Int))) (sf : Int → Int) (fi : Int → List Int) (s : Int) (m : Nat) : Nat → Option (Int × (Int → List Int) × (Int → Int))
  | 0 => some E0
  | k + 1 => (gF T sf fi s m k).bind fun E => if sf k = s then gW T (fi k) (comps m (fi k).length) E else some E
set_option maxHeartbeats 400000 in
theorem E0_ok (m : Nat) : EOk m E0 := ⟨by show (0 : Int) ≤ 0 ∧ (0 : Int) ≤ 100; omega, fun k a b => absurd b (by show ¬ k < 0; omega), fun i j a b c => absurd c (by show ¬ j < 0; omega)⟩
/-- forms that rows can be made of -/
def FWR (nf : Int) (sf : Int → Int) (fi : Int → List Int) : Prop := (0 ≤ nf ∧ nf ≤ 14) ∧ ∀ f, 0 ≤ f → f < nf → (0 ≤ sf f ∧ sf f ≤ 5) ∧ (1 ≤ (fi f).length ∧ (fi f).length ≤ 5) ∧ (∀ it, it ∈ fi f → okC it ∨ (60 ≤ it ∧ it ≤ 65)) ∧ ∀ it, fi f = [it] → 60 ≤ it → sf f < it - 60
/-- what lies before a sort with m cells -/
def bef (s : Int) (m : Nat) (s' : Int) (w : Int) : Prop := (0 ≤ s' ∧ s' ≤ 5) ∧ 1 ≤ w ∧ (w < (m : Int) ∨ (w = (m : Int) ∧ s < s'))
set_option maxHeartbeats 400000 in
theorem partE_ok {T : Int → Int → (Int × (Int → List Int) × (Int → Int))} {it w : Int} (w1 : 1 ≤ w) (hi : okC it ∨ (60 ≤ it ∧ it ≤ 65)) (h : 60 ≤ it → EOk w.toNat (T (it - 60) w)) : EOk w.toNat (partE T it w) := by
  unfold partE
  by_cases g : 60 ≤ it
  · rw [if_pos g]
    exact h g
  · rw [if_neg g]
    have oc : okC it := by
      rcases hi with hi | hi
      · exact hi
      · exact absurd hi.1 g
    by_cases z : w = 1
    · rw [if_pos z, z]
      refine ⟨by show (0 : Int) ≤ 1 ∧ (1 : Int) ≤ 100; omega, fun k a b => ⟨fun x hx => ?_, rfl, by show (1 : Int) ≤ 1; omega, by show (1 : Int) ≤ 2; omega⟩, fun i j a b c => ?_⟩
      · have : x = it := List.mem_singleton.mp hx
        rw [this]
        exact oc
      · have c : j < 1 := c
        omega
    · rw [if_neg z]
      exact ⟨by show (0 : Int) ≤ 0 ∧ (0 : Int) ≤ 100; omega, fun k a b => absurd b (by show ¬ k < 0; omega), fun i j a b c => absurd c (by show ¬ j < 0; omega)⟩
set_option maxHeartbeats 400000 in
theorem partsE_ok {T : Int → Int → (Int × (Int → List Int) × (Int → Int))} : ∀ (l W : List Int), l.length = W.length → (∀ it, it ∈ l → okC it ∨ (60 ≤ it ∧ it ≤ 65)) → (∀ w, w ∈ W → 1 ≤ w) → (∀ it w, it ∈ l → w ∈ W → 60 ≤ it → EOk w.toNat (T (it - 60) w)) → POk (partsE T l W) (W.map Int.toNat) := by
  intro l
  induction l with
  | nil =>
    intro W hl _ _ _
    cases W with
    | nil => exact trivial
    | cons w W => simp at hl
  | cons it l ih =>
    intro W hl hi hw h
    cases W with
    | nil => simp at hl
    | cons w W =>
      simp only [List.length_cons, Nat.add_right_cancel_iff] at hl
      exact ⟨partE_ok (hw w List.mem_cons_self) (hi it List.mem_cons_self) (fun g => h it w List.mem_cons_self List.mem_cons_self g), ih W hl (fun x hx => hi x (List.mem_cons_of_mem _ hx)) (fun x hx => hw x (List.mem_cons_of_mem _ hx)) (fun x y hx hy g => h x y (List.mem_cons_of_mem _ hx) (List.mem_cons_of_mem _ hy) g)⟩
set_option maxHeartbeats 400000 in
theorem partsE_cg {T T' : Int → Int → (Int × (Int → List Int) × (Int → Int))} : ∀ (l W : List Int), (∀ it w, it ∈ l → w ∈ W → 60 ≤ it → T' (it - 60) w = T (it - 60) w) → partsE T' l W = partsE T l W := by
  intro l
  induction l with
  | nil => intro W _; rfl
  | cons it l ih =>
    intro W h
    cases W with
    | nil => rfl
    | cons w W =>
      show partE T' it w :: partsE T' l W = partE T it w :: partsE T l W
      rw [ih W (fun x y hx hy g => h x y (List.mem_cons_of_mem _ hx) (List.mem_cons_of_mem _ hy) g)]
      unfold partE
      by_cases g : 60 ≤ it
      · rw [if_pos g, if_pos g, h it w List.mem_cons_self List.mem_cons_self g]
      · rw [if_neg g, if_neg g]
set_option maxHeartbeats 400000 in
/-- the sorts that a form's parts ask for lie before -/
theorem FWR_bef {nf : Int} {sf : Int → Int} {fi : Int → List Int} (hF : FWR nf sf fi) {f : Int} (f0 : 0 ≤ f) (f1 : f < nf) {m : Nat} (m4 : m ≤ 4) {W : List Int} (hW : W ∈ comps m (fi f).length) {it w : Int} (hi : it ∈ fi f) (hw : w ∈ W) (g : 60 ≤ it) : bef (sf f) m (it - 60) w := by
  obtain ⟨a1, a2, a3, a4⟩ := hF.2 f f0 f1
  obtain ⟨c1, c2, c3⟩ := comps_ok m4 a2.2 hW
  obtain ⟨d1, d2, d3⟩ := c2 w hw
  have oi : 60 ≤ it ∧ it ≤ 65 := by
    rcases a3 it hi with z | z
    · unfold okC at z
      omega
    · exact z
  refine ⟨by omega, d1, ?_⟩
  by_cases z : (fi f).length = 1
  · obtain ⟨x, hx⟩ : ∃ x, fi f = [x] := by
      cases hh : fi f with
      | nil => rw [hh] at z; simp at z
      | cons x r =>
        rw [hh] at z
        simp only [List.length_cons, Nat.add_eq_right] at z
        exact ⟨x, by rw [List.eq_nil_of_length_eq_zero z]⟩
    rw [hx] at hi
    have hi : it = x := List.mem_singleton.mp hi
    have := a4 x hx (by omega)
    omega
  · exact Or.inl (d3 z)
set_option maxHeartbeats 400000 in
theorem parts_ok {T : Int → Int → (Int × (Int → List Int) × (Int → Int))} {nf : Int} {sf : Int → Int} {fi : Int → List Int} (hF : FWR nf sf fi) {f : Int} (f0 : 0 ≤ f) (f1 : f < nf) {m : Nat} (m4 : m ≤ 4) (hT : ∀ s' w, bef (sf f) m s' w → EOk w.toNat (T s' w)) {W : List Int} (hW : W ∈ comps m (fi f).length) : POk (partsE T (fi f) W) (W.map Int.toNat) ∧ sumL (W.map Int.toNat) = m := by
  obtain ⟨a1, a2, a3, a4⟩ := hF.2 f f0 f1
  obtain ⟨c1, c2, c3⟩ := comps_ok m4 a2.2 hW
  exact ⟨partsE_ok _ _ c1.symm a3 (fun w hw => (c2 w hw).1) (fun it w hi hw g => hT _ _ (FWR_bef hF f0 f1 m4 hW hi hw g)), c3⟩
set_option maxHeartbeats 400000 in
theorem gW_ok {T : Int → Int → (Int × (Int → List Int) × (Int → Int))} {l : List Int} {m : Nat} : ∀ (Ws : List (List Int)) (E E' : (Int × (Int → List Int) × (Int → Int))), (∀ W, W ∈ Ws → POk (partsE T l W) (W.map Int.toNat) ∧ sumL (W.map Int.toNat) = m) → EOk m E → gW T l Ws E = some E' → EOk m E' := by
  intro Ws
  induction Ws with
  | nil =>
    intro E E' _ h e
    have e := Option.some.inj e
    rw [← e]
    exact h
  | cons W r ih =>
    intro E E' hp h e
    obtain ⟨p1, p2⟩ := hp W List.mem_cons_self
    have e : (stF (partsE T l W) E).bind (gW T l r) = some E' := e
    rw [stF_run p1 p2 h] at e
    obtain ⟨E1, e1⟩ : ∃ E1, runE (partsE T l W) (prE (partsE T l W)).toNat 0 E = E1 := ⟨_, rfl⟩
    rw [e1] at e
    cases E1 with
    | none => exact absurd e (by simp)
    | some E1 =>
      have nn := prE_nn _ _ p1
      exact ih E1 E' (fun W hW => hp W (List.mem_cons_of_mem _ hW)) (runE_ok p1 p2 _ 0 E E1 (Int.le_refl _) (by omega) h e1).1 e
set_option maxHeartbeats 400000 in
theorem gF_ok {T : Int → Int → (Int × (Int → List Int) × (Int → Int))} {nf : Int} {sf : Int → Int} {fi : Int → List Int} (hF : FWR nf sf fi) {s : Int} {m : Nat} (m4 : m ≤ 4) (hT : ∀ s' w, bef s m s' w → EOk w.toNat (T s' w)) : ∀ (k : Nat) (E : (Int × (Int → List Int) × (Int → Int))), (k : Int) ≤ nf → gF T sf fi s m k = some E → EOk m E := by
  intro k
  induction k with
  | zero =>
    intro E _ e
    have e := Option.some.inj e
    rw [← e]
    exact E0_ok m
  | succ k ih =>
    intro E kn e
    have e : (gF T sf fi s m k).bind (fun E => if sf k = s then gW T (fi k) (comps m (fi k).length) E else some E) = some E := e
    obtain ⟨E1, e1⟩ : ∃ E1, gF T sf fi s m k = E1 := ⟨_, rfl⟩
    rw [e1] at e
    cases E1 with
    | none => exact absurd e (by simp)
    | some E1 =>
      have h1 := ih E1 (by omega) e1
      have e : (if sf k = s then gW T (fi k) (comps m (fi k).length) E1 else some E1) = some E := e
      by_cases z : sf k = s
      · rw [if_pos z] at e
        exact gW_ok _ E1 E (fun W hW => parts_ok hF (by omega) (by omega) m4 (by rw [z]; exact hT) hW) h1 e
      · rw [if_neg z] at e
        have e := Option.some.inj e
        rw [← e]
        exact h1
set_option maxHeartbeats 400000 in
theorem gW_cg {T T' : Int → Int → (Int × (Int → List Int) × (Int → Int))} {l : List Int} : ∀ (Ws : List (List Int)) (E : (Int × (Int → List Int) × (Int → Int))), (∀ W, W ∈ Ws → partsE T' l W = partsE T l W) → gW T' l Ws E = gW T l Ws E := by
  intro Ws
  induction Ws with
  | nil => intro E _; rfl
  | cons W r ih =>
    intro E h
    show (stF (partsE T' l W) E).bind (gW T' l r) = (stF (partsE T l W) E).bind (gW T l r)
    rw [h W List.mem_cons_self]
    cases stF (partsE T l W) E with
    | none => rfl
    | some E1 => exact ih E1 (fun W hW => h W (List.mem_cons_of_mem _ hW))
set_option maxHeartbeats 400000 in
theorem gF_cg {T T' : Int → Int → (Int × (Int → List Int) × (Int → Int))} {nf : Int} {sf : Int → Int} {fi : Int → List Int} (hF : FWR nf sf fi) {s : Int} {m : Nat} (m4 : m ≤ 4) (hT : ∀ s' w, bef s m s' w → T' s' w = T s' w) : ∀ (k : Nat), (k : Int) ≤ nf → gF T' sf fi s m k = gF T sf fi s m k := by
  intro k
  induction k with
  | zero => intro _; rfl
  | succ k ih =>
    intro kn
    show (gF T' sf fi s m k).bind (fun E => if sf k = s then gW T' (fi k) (comps m (fi k).length) E else some E) = (gF T sf fi s m k).bind (fun E => if sf k = s then gW T (fi k) (comps m (fi k).length) E else some E)
    rw [ih (by omega)]
    cases gF T sf fi s m k with
    | none => rfl
    | some E1 =>
      show (if sf k = s then gW T' (fi k) (comps m (fi k).length) E1 else some E1) = (if sf k = s then gW T (fi k) (comps m (fi k).length) E1 else some E1)
      by_cases z : sf k = s
      · rw [if_pos z, if_pos z]
        exact gW_cg _ E1 (fun W hW => partsE_cg _ _ (fun it w hi hw g => hT _ _ (by rw [← z]; exact FWR_bef hF (by omega) (by omega) m4 hW hi hw g)))
      · rw [if_neg z, if_neg z]
/-- T is right for all that lies before sort s with m cells -/
def CLO (T : Int → Int → (Int × (Int → List Int) × (Int → Int))) (nf : Int) (sf : Int → Int) (fi : Int → List Int) (s : Int) (m : Nat) : Prop := ∀ s' (w : Nat), bef s m s' w → gF T sf fi s' w nf.toNat = some (T s' w)
set_option maxHeartbeats 400000 in
theorem bef_tr {s s' s'' w' : Int} {m w : Nat} (h : bef s m s' w) (k : bef s' w s'' w') : bef s m s'' w' := by
  unfold bef at h k ⊢
  omega
set_option maxHeartbeats 400000 in
theorem CLO_ok {T : Int → Int → (Int × (Int → List Int) × (Int → Int))} {nf : Int} {sf : Int → Int} {fi : Int → List Int} (hF : FWR nf sf fi) {s : Int} {m : Nat} (m4 : m ≤ 4) (c : CLO T nf sf fi s m) : ∀ (d : Nat) (s' : Int) (w : Nat), 6 * (w : Int) + (5 - s') < d → bef s m s' w → EOk w (T s' w) := by
  intro d
  induction d with
  | zero =>
    intro s' w hd b
    unfold bef at b
    omega
  | succ d ih =>
    intro s' w hd b
    refine gF_ok hF (m := w) (by unfold bef at b; omega) (fun s'' w'' b2 => ?_) nf.toNat _ (by have := hF.1; omega) (c s' w b)
    have e : ((w''.toNat : Nat) : Int) = w'' := by unfold bef at b2; omega
    have := ih s'' w''.toNat (by unfold bef at b2 b; omega) (by rw [e]; exact bef_tr b b2)
    rw [e] at this
    exact this
set_option maxHeartbeats 400000 in
/-- two tables that are right are one -/
theorem CLO_one {T T' : Int → Int → (Int × (Int → List Int) × (Int → Int))} {nf : Int} {sf : Int → Int} {fi : Int → List Int} (hF : FWR nf sf fi) {s : Int} {m : Nat} (m4 : m ≤ 4) (c : CLO T nf sf fi s m) (c' : CLO T' nf sf fi s m) : ∀ (d : Nat) (s' : Int) (w : Nat), 6 * (w : Int) + (5 - s') < d → bef s m s' w → T' s' w = T s' w := by
  intro d
  induction d with
  | zero =>
    intro s' w hd b
    unfold bef at b
    omega
  | succ d ih =>
    intro s' w hd b
    have a := c s' w b
    have a' := c' s' w b
    rw [gF_cg hF (m := w) (T := T) (T' := T') (by unfold bef at b; omega) (fun s'' w'' b2 => by
      have e : ((w''.toNat : Nat) : Int) = w'' := by unfold bef at b2; omega
      have := ih s'' w''.toNat (by unfold bef at b2 b; omega) (by rw [e]; exact bef_tr b b2)
      rw [e] at this
      exact this) nf.toNat (by have := hF.1; omega), a] at a'
    exact (Option.some.inj a').symm
end
