section
/-! two: an entry's weights are the readings, up to 2 (pure) -/
def sumC (F : List Int → Int) : List (List Int) → Int
  | [] => 0
  | W :: r => F W + sumC F r
set_option maxHeartbeats 400000 in
theorem sumC_nn {F : List Int → Int} : ∀ Ws : List (List Int), (∀ W, W ∈ Ws → 0 ≤ F W) → 0 ≤ sumC F Ws := by
  intro Ws
  induction Ws with
  | nil => intro _; exact Int.le_refl 0
  | cons W r ih =>
    intro h
    have a := h W List.mem_cons_self
    have b := ih (fun X hX => h X (List.mem_cons_of_mem _ hX))
    rw [sumC]
    omega
set_option maxHeartbeats 400000 in
theorem sumC_app {F : List Int → Int} : ∀ A C : List (List Int), sumC F (A ++ C) = sumC F A + sumC F C := by
  intro A
  induction A with
  | nil => intro C; rw [List.nil_append, sumC, Int.zero_add]
  | cons W r ih => intro C; rw [List.cons_append, sumC, sumC, ih, Int.add_assoc]
set_option maxHeartbeats 400000 in
theorem sumC_map {F : List Int → Int} {g : List Int → List Int} : ∀ A : List (List Int), sumC F (A.map g) = sumC (fun W => F (g W)) A := by
  intro A
  induction A with
  | nil => rfl
  | cons W r ih => rw [List.map_cons, sumC, sumC, ih]
set_option maxHeartbeats 400000 in
theorem sumC_mul {F : List Int → Int} {c : Int} : ∀ A : List (List Int), sumC (fun W => c * F W) A = c * sumC F A := by
  intro A
  induction A with
  | nil => rw [sumC, sumC, Int.mul_zero]
  | cons W r ih => rw [sumC, sumC, ih, Int.mul_add]
set_option maxHeartbeats 400000 in
theorem sumC_range {F : List Int → Int} {g : Nat → List (List Int)} : ∀ n : Nat, sumC F ((List.range n).flatMap g) = sumN (fun k => sumC F (g k.toNat)) 0 n := by
  intro n
  induction n with
  | zero => rfl
  | succ n ih =>
    rw [List.range_succ, List.flatMap_append, sumC_app, ih, sumN]
    congr 1
    rw [List.flatMap_cons, List.flatMap_nil, List.append_nil, show (0 + (n : Int)).toNat = n by omega]
set_option maxHeartbeats 400000 in
theorem sumN_c2 {F F' : Int → Int} {lo : Int} : ∀ {n : Nat}, (∀ k : Nat, k < n → (0 ≤ F (lo + k) ∧ 0 ≤ F' (lo + k)) ∧ c2 (F (lo + k)) = c2 (F' (lo + k))) → c2 (sumN F lo n) = c2 (sumN F' lo n) := by
  intro n
  induction n with
  | zero => intro _; rfl
  | succ n ih =>
    intro h
    have h1 := ih (fun k hk => h k (by omega))
    have h2 := h n (by omega)
    have p1 := sumN_nn (F := F) (lo := lo) (n := n) (fun k hk => (h k (by omega)).1.1)
    have p2 := sumN_nn (F := F') (lo := lo) (n := n) (fun k hk => (h k (by omega)).1.2)
    rw [sumN, sumN]
    unfold c2 at h1 h2 ⊢
    omega
set_option maxHeartbeats 400000 in
theorem gW_wg {T : Int → Int → (Int × (Int → List Int) × (Int → Int))} {l v : List Int} {m : Nat} : ∀ (Ws : List (List Int)) (E E' : (Int × (Int → List Int) × (Int → Int))), (∀ W, W ∈ Ws → POk (partsE T l W) (W.map Int.toNat) ∧ sumL (W.map Int.toNat) = m) → EOk m E → gW T l Ws E = some E' → wgt E' v = c2 (wgt E v + sumC (fun W => pwW (partsE T l W) (W.map Int.toNat) v) Ws) := by
  intro Ws
  induction Ws with
  | nil =>
    intro E E' _ h e
    have e := Option.some.inj e
    have wb := wgt_b h v
    rw [← e, sumC]
    unfold c2
    omega
  | cons W r ih =>
    intro E E' hp h e
    obtain ⟨p1, p2⟩ := hp W List.mem_cons_self
    have e : (stF (partsE T l W) E).bind (gW T l r) = some E' := e
    obtain ⟨E1, e1⟩ : ∃ E1, stF (partsE T l W) E = E1 := ⟨_, rfl⟩
    rw [e1] at e
    cases E1 with
    | none => exact absurd e (by simp)
    | some E1 =>
      have nn := prE_nn _ _ p1
      have o1 : EOk m E1 := by
        rw [stF_run p1 p2 h] at e1
        exact (runE_ok p1 p2 _ 0 E E1 (Int.le_refl _) (by omega) h e1).1
      have k1 := stF_wg p1 p2 h (v := v) e1
      have k2 := ih E1 E' (fun X hX => hp X (List.mem_cons_of_mem _ hX)) o1 e
      have wb := wgt_b h v
      have n1 := pw_nn _ _ v p1
      have n2 := sumC_nn (F := (fun W => pwW (partsE T l W) (W.map Int.toNat) v)) r (fun X hX => pw_nn _ _ v (hp X (List.mem_cons_of_mem _ hX)).1)
      rw [k2, k1, sumC]
      unfold c2
      omega
set_option maxHeartbeats 400000 in
theorem gF_wg {T : Int → Int → (Int × (Int → List Int) × (Int → Int))} {nf : Int} {sf : Int → Int} {fi : Int → List Int} (hF : FWR nf sf fi) {s : Int} {m : Nat} (m4 : m ≤ 4) (hT : ∀ s' w, bef s m s' w → EOk w.toNat (T s' w)) {v : List Int} : ∀ (k : Nat) (E : (Int × (Int → List Int) × (Int → Int))), (k : Int) ≤ nf → gF T sf fi s m k = some E → wgt E v = c2 (sumN (fun f => if sf f = s then sumC (fun W => pwW (partsE T (fi f) W) (W.map Int.toNat) v) (comps m (fi f).length) else 0) 0 k) ∧ 0 ≤ sumN (fun f => if sf f = s then sumC (fun W => pwW (partsE T (fi f) W) (W.map Int.toNat) v) (comps m (fi f).length) else 0) 0 k := by
  intro k
  induction k with
  | zero =>
    intro E _ e
    have e := Option.some.inj e
    rw [← e, wgt_no (E0_ok m) (fun ⟨k, a, b, _⟩ => by
      have b : k < 0 := b
      omega)]
    exact ⟨rfl, Int.le_refl 0⟩
  | succ k ih =>
    intro E kn e
    have e : (gF T sf fi s m k).bind (fun E => if sf k = s then gW T (fi k) (comps m (fi k).length) E else some E) = some E := e
    obtain ⟨E1, e1⟩ : ∃ E1, gF T sf fi s m k = E1 := ⟨_, rfl⟩
    rw [e1] at e
    cases E1 with
    | none => exact absurd e (by simp)
    | some E1 =>
      obtain ⟨i1, i2⟩ := ih E1 (by omega) e1
      have o1 := gF_ok hF m4 hT k E1 (by omega) e1
      have e : (if sf k = s then gW T (fi k) (comps m (fi k).length) E1 else some E1) = some E := e
      have wb := wgt_b o1 v
      rw [sumN, Int.zero_add]
      by_cases z : sf k = s
      · rw [if_pos z] at e ⊢
        have pk : ∀ W, W ∈ comps m (fi k).length → POk (partsE T (fi k) W) (W.map Int.toNat) ∧ sumL (W.map Int.toNat) = m := fun W hW => parts_ok hF (by omega) (by omega) m4 (by rw [z]; exact hT) hW
        have g := gW_wg (v := v) _ E1 E pk o1 e
        have n2 := sumC_nn (F := fun W => pwW (partsE T (fi k) W) (W.map Int.toNat) v) (comps m (fi k).length) (fun X hX => pw_nn _ _ v (pk X hX).1)
        rw [g, i1]
        unfold c2
        omega
      · rw [if_neg z] at e ⊢
        have e := Option.some.inj e
        rw [← e, i1]
        unfold c2
        omega
def comps2 : Nat → Nat → List (List Int)
  | 0, m => if m = 0 then [[]] else []
  | N + 1, m => (List.range m).flatMap fun w => (comps2 N (m - (w + 1))).map fun W => ((w + 1 : Nat) : Int) :: W
set_option maxHeartbeats 400000 in
theorem comps_2 : ∀ m : Fin 5, ∀ N : Fin 6, 1 ≤ m.val → 1 ≤ N.val → comps m.val N.val = comps2 N.val m.val := by decide +kernel
/-- the same, by cells from p to 'to' -/
def cP (T : Int → Int → (Int × (Int → List Int) × (Int → Int))) (x : Int → Int) (to : Int) : List Int → Int → Int
  | [], p => if p = to then 1 else 0
  | it :: l, p => sumN (fun q => wgt (partE T it (q - p)) (il x p (q - p).toNat) * cP T x to l q) (p + 1) (to - p).toNat
set_option maxHeartbeats 400000 in
theorem il_take {x : Int → Int} : ∀ (n k : Nat) (p : Int), k ≤ n → (il x p n).take k = il x p k := by
  intro n
  induction n with
  | zero => intro k p h; rw [show k = 0 by omega]; rfl
  | succ n ih =>
    intro k p h
    cases k with
    | zero => rfl
    | succ k => rw [il, List.take_succ_cons, ih k (p + 1) (by omega), il]
set_option maxHeartbeats 400000 in
theorem il_drop {x : Int → Int} : ∀ (n k : Nat) (p : Int), k ≤ n → (il x p n).drop k = il x (p + k) (n - k) := by
  intro n
  induction n with
  | zero =>
    intro k p h
    rw [show k = 0 by omega]
    rfl
  | succ n ih =>
    intro k p h
    cases k with
    | zero =>
      rw [List.drop_zero, show p + ((0 : Nat) : Int) = p by omega]
      rfl
    | succ k => rw [il, List.drop_succ_cons, ih k (p + 1) (by omega), show p + 1 + (k : Int) = p + ((k + 1 : Nat) : Int) by omega, Nat.succ_sub_succ]
set_option maxHeartbeats 400000 in
theorem comps_cP {T : Int → Int → (Int × (Int → List Int) × (Int → Int))} {x : Int → Int} {to : Int} : ∀ (l : List Int) (p : Int), p ≤ to → sumC (fun W => pwW (partsE T l W) (W.map Int.toNat) (il x p (to - p).toNat)) (comps2 l.length (to - p).toNat) = cP T x to l p := by
  intro l
  induction l with
  | nil =>
    intro p h
    show sumC _ (if (to - p).toNat = 0 then [[]] else []) = if p = to then 1 else 0
    by_cases z : p = to
    · rw [if_pos z, if_pos (by omega), z, show (to - to).toNat = 0 by omega]
      rfl
    · rw [if_neg z, if_neg (by omega)]
      rfl
  | cons it l ih =>
    intro p h
    show sumC _ ((List.range (to - p).toNat).flatMap fun w => (comps2 l.length ((to - p).toNat - (w + 1))).map fun W => ((w + 1 : Nat) : Int) :: W) = sumN (fun q => wgt (partE T it (q - p)) (il x p (q - p).toNat) * cP T x to l q) (p + 1) (to - p).toNat
    rw [sumC_range, sumN_sh (lo := p + 1)]
    refine sumN_congr fun k hk => ?_
    show sumC _ ((comps2 l.length ((to - p).toNat - ((0 + (k : Int)).toNat + 1))).map fun W => ((((0 + (k : Int)).toNat + 1 : Nat)) : Int) :: W) = wgt (partE T it (p + 1 + (0 + (k : Int)) - p)) (il x p (p + 1 + (0 + (k : Int)) - p).toNat) * cP T x to l (p + 1 + (0 + (k : Int)))
    rw [show (0 + (k : Int)).toNat = k by omega, show p + 1 + (0 + (k : Int)) - p = ((k + 1 : Nat) : Int) by omega, show p + 1 + (0 + (k : Int)) = p + ((k + 1 : Nat) : Int) by omega, sumC_map, Int.toNat_natCast, ← ih (p + ((k + 1 : Nat) : Int)) (by omega), ← sumC_mul]
    rw [show (to - (p + ((k + 1 : Nat) : Int))).toNat = (to - p).toNat - (k + 1) by omega]
    congr 1
    funext W
    show wgt (partE T it ((k + 1 : Nat) : Int)) ((il x p (to - p).toNat).take ((k + 1 : Nat) : Int).toNat) * pwW (partsE T l W) (W.map Int.toNat) ((il x p (to - p).toNat).drop ((k + 1 : Nat) : Int).toNat) = _
    rw [Int.toNat_natCast, il_take _ _ _ (by omega), il_drop _ _ _ (by omega)]
end
