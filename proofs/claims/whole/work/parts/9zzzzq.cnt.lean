section
/-! two: a row's weight is the number of its readings, up to 2 (pure) -/
set_option maxHeartbeats 400000 in
theorem sutB_ok {it y : Int} (h : okC it) (k : okC y) : sutB it y = true ↔ it = y := by
  unfold sutB
  unfold okC at h k
  by_cases a : it = 20
  · rw [if_pos a, decide_eq_true_iff]
    omega
  · by_cases b : it = 40
    · rw [if_neg a, if_pos b, decide_eq_true_iff]
      omega
    · rw [if_neg a, if_neg b, decide_eq_true_iff]
set_option maxHeartbeats 400000 in
theorem partE_nn {T : Int → Int → (Int × (Int → List Int) × (Int → Int))} {it w : Int} {v : List Int} (w1 : 1 ≤ w) (hi : okC it ∨ (60 ≤ it ∧ it ≤ 65)) (h : 60 ≤ it → 0 ≤ wgt (T (it - 60) w) v) : 0 ≤ wgt (partE T it w) v := by
  by_cases g : 60 ≤ it
  · unfold partE
    rw [if_pos g]
    exact h g
  · exact (wgt_b (partE_ok (T := T) w1 hi (fun q => absurd q g)) v).1
set_option maxHeartbeats 400000 in
theorem cP_nn {T : Int → Int → (Int × (Int → List Int) × (Int → Int))} {x : Int → Int} {to : Int} : ∀ (l : List Int) (p : Int), p ≤ to → (∀ it, it ∈ l → okC it ∨ (60 ≤ it ∧ it ≤ 65)) → (∀ s a b, 0 ≤ s → s ≤ 5 → p ≤ a → a < b → b ≤ to → 0 ≤ wgt (T s (b - a)) (il x a (b - a).toNat)) → 0 ≤ cP T x to l p := by
  intro l
  induction l with
  | nil =>
    intro p _ _ _
    rw [cP]
    split <;> omega
  | cons it l ih =>
    intro p h hi hw
    rw [cP]
    refine sumN_nn fun k hk => ?_
    have oi := hi it List.mem_cons_self
    exact Int.mul_nonneg (partE_nn (by omega) oi (fun g => hw (it - 60) p (p + 1 + k) (by omega) (by unfold okC at oi; omega) (by omega) (by omega) (by omega))) (ih (p + 1 + k) (by omega) (fun y hy => hi y (List.mem_cons_of_mem _ hy)) (fun s a b s0 s5 q1 q2 q3 => hw s a b s0 s5 (by omega) q2 q3))
set_option maxHeartbeats 400000 in
theorem rW_cP {T : Int → Int → (Int × (Int → List Int) × (Int → Int))} {wy : Int → Int → Int → Int} {ft : Int → Int → Bool} {x : Int → Int} {to : Int} : ∀ (l : List Int) (p : Int), p ≤ to → (∀ it, it ∈ l → okC it ∨ (60 ≤ it ∧ it ≤ 65)) → (∀ q, p ≤ q → q < to → okC (x q)) → (∀ it q, ft it q = sutB it (x q)) → (∀ s a b, p ≤ a → a < b → b ≤ to → 0 ≤ wy s a b) → (∀ s a b, 0 ≤ s → s ≤ 5 → p ≤ a → a < b → b ≤ to → (0 ≤ wgt (T s (b - a)) (il x a (b - a).toNat) ∧ wgt (T s (b - a)) (il x a (b - a).toNat) ≤ 2) ∧ c2 (wy s a b) = wgt (T s (b - a)) (il x a (b - a).toNat)) → c2 (rW wy ft to l p) = c2 (cP T x to l p) := by
  intro l
  induction l with
  | nil => intro p _ _ _ _ _ _; rfl
  | cons it l ih =>
    intro p h hi hx hf hn hw
    have oi := hi it List.mem_cons_self
    have il' := fun y hy => hi y (List.mem_cons_of_mem it hy)
    have cn := fun (q : Int) (a : p ≤ q) (b : q ≤ to) => cP_nn (T := T) (x := x) (to := to) l q b il' (fun s a b s0 s5 q1 q2 q3 => (hw s a b s0 s5 (by omega) q2 q3).1.1)
    have rn := fun (q : Int) (a : p ≤ q) (b : q ≤ to) => (rW_b (wy := wy) (ft := ft) (to := to) (l := l) (p := q) (fun s a b q1 q2 q3 => hn s a b (by omega) q2 q3) b).1
    have rc := fun (q : Int) (a : p ≤ q) (b : q ≤ to) => ih q b il' (fun y y0 y1 => hx y (by omega) y1) hf (fun s a b q1 q2 q3 => hn s a b (by omega) q2 q3) (fun s a b s0 s5 q1 q2 q3 => hw s a b s0 s5 (by omega) q2 q3)
    rw [rW, cP]
    by_cases g : 60 ≤ it
    · rw [if_pos g]
      have e : ∀ S : Int, c2 (min 1000 S) = c2 S := fun S => by unfold c2; omega
      rw [e]
      refine sumN_c2 fun k hk => ?_
      have w := hw (it - 60) p (p + 1 + k) (by omega) (by unfold okC at oi; omega) (Int.le_refl _) (by omega) (by omega)
      have n1 := hn (it - 60) p (p + 1 + k) (Int.le_refl _) (by omega) (by omega)
      have pe : partE T it (p + 1 + k - p) = T (it - 60) (p + 1 + k - p) := by unfold partE; exact if_pos g
      rw [pe]
      refine ⟨⟨Int.mul_nonneg n1 (rn _ (by omega) (by omega)), Int.mul_nonneg w.1.1 (cn _ (by omega) (by omega))⟩, c2_mm n1 (rn _ (by omega) (by omega)) w.1.1 (cn _ (by omega) (by omega)) ?_ (rc _ (by omega) (by omega))⟩
      rw [w.2]
      unfold c2
      omega
    · rw [if_neg g]
      have oc : okC it := by
        rcases oi with z | z
        · exact z
        · exact absurd z.1 g
      have oE := fun (w : Int) (w1 : 1 ≤ w) => partE_ok (T := T) (it := it) w1 (Or.inl oc) (fun q => absurd q g)
      have big : ∀ (w : Int) (v : List Int), 1 ≤ w → ¬ w = 1 → wgt (partE T it w) v = 0 := fun w v w1 wn => wgt_no (oE w w1) (fun ⟨k, a, b, _⟩ => by
        unfold partE at b
        rw [if_neg g, if_neg wn] at b
        have b : k < 0 := b
        omega)
      by_cases z : p < to
      · rw [sumN_first (by omega) (fun k k0 k1 => by rw [big _ _ (by omega) (by omega), Int.zero_mul])]
        have e1 : p + 1 - p = 1 := by omega
        rw [e1]
        have one : (partE T it 1).1 = 1 ∧ (partE T it 1).2.1 0 = [it] ∧ (partE T it 1).2.2 0 = 1 := by
          unfold partE
          rw [if_neg g, if_pos rfl]
          exact ⟨rfl, rfl, rfl⟩
        have vv : il x p (1 : Int).toNat = [x p] := rfl
        rw [vv]
        by_cases y : it = x p
        · rw [if_pos ⟨z, by rw [hf]; exact (sutB_ok oc (hx p (Int.le_refl _) z)).mpr y⟩]
          have k := wgt_at (oE 1 (Int.le_refl _)) (k := 0) (Int.le_refl _) (by rw [one.1]; omega)
          rw [one.2.1, one.2.2, y] at k
          rw [y] at *
          rw [k, Int.one_mul]
          exact rc (p + 1) (by omega) (by omega)
        · rw [if_neg (fun q => y ((sutB_ok oc (hx p (Int.le_refl _) z)).mp (by rw [← hf]; exact q.2))), wgt_no (oE 1 (Int.le_refl _)) (fun ⟨k, a, b, c⟩ => by
            rw [one.1] at b
            rw [show k = 0 by omega, one.2.1] at c
            exact y (List.cons.inj c).1), Int.zero_mul]
      · rw [if_neg (fun q => z q.1), show (to - p).toNat = 0 by omega]
        rfl
set_option maxHeartbeats 400000 in
theorem cnt_ok {nf n : Int} {sf : Int → Int} {fi : Int → List Int} {T : Int → Int → (Int × (Int → List Int) × (Int → Int))} {wy : Int → Int → Int → Int} {ft : Int → Int → Bool} {x : Int → Int} (hF : FWR nf sf fi) (n1 : 1 ≤ n) (n4 : n ≤ 4) (hT : CLO T nf sf fi 5 (n + 1).toNat) (hx : ∀ q, 0 ≤ q → q < n → okC (x q)) (hf : ∀ it q, ft it q = sutB it (x q)) (hn : ∀ s a b, 0 ≤ a → a < b → b ≤ n → 0 ≤ wy s a b) (hW : WOk nf sf fi ft n wy) : ∀ (d : Nat) (i j s : Int), 0 ≤ s → s ≤ 5 → 0 ≤ i → i < j → j ≤ n → 6 * (j - i) + (5 - s) < d → c2 (wy s i j) = wgt (T s (j - i)) (il x i (j - i).toNat) := by
  have ok : ∀ s w, 0 ≤ s → s ≤ 5 → 1 ≤ w → w ≤ n → EOk w.toNat (T s w) := fun s w s0 s5 w1 wn => by
    have ew : ((w.toNat : Nat) : Int) = w := by omega
    have := CLO_ok (s := -1) (m := n.toNat) hF (by omega) (T := T) (fun s' w' b => hT s' w' (by unfold bef at b ⊢; omega)) (6 * w.toNat + 6) s w.toNat (by omega) (by unfold bef; omega)
    rw [ew] at this
    exact this
  intro d
  induction d with
  | zero => intro i j s s0 s5 i0 ij jn hd; omega
  | succ d ih =>
    intro i j s s0 s5 i0 ij jn hd
    obtain ⟨m, hm⟩ : ∃ m, m = (j - i).toNat := ⟨_, rfl⟩
    have em : ((m : Nat) : Int) = j - i := by omega
    have c := hT s m (by unfold bef; omega)
    rw [em] at c
    have g := (gF_wg hF (m := m) (by omega) (T := T) (s := s) (fun s' w b => ok s' w (by unfold bef at b; omega) (by unfold bef at b; omega) (by unfold bef at b; omega) (by unfold bef at b; omega)) (v := il x i m) nf.toNat (T s (j - i)) (by have := hF.1; omega) c).1
    rw [← hm, g, hW s i j s0 s5 i0 ij jn]
    have e : ∀ S : Int, c2 (min 1000 S) = c2 S := fun S => by unfold c2; omega
    rw [e]
    refine sumN_c2 fun k hk => ?_
    have f0 : 0 ≤ 0 + (k : Int) := by omega
    have f1 : 0 + (k : Int) < nf := by omega
    obtain ⟨f, hf0⟩ : ∃ f, f = 0 + (k : Int) := ⟨_, rfl⟩
    rw [← hf0] at f0 f1 ⊢
    obtain ⟨a1, a2, a3, a4⟩ := hF.2 f f0 f1
    by_cases z : sf f = s
    · rw [if_pos z, if_pos z]
      have ec : comps m (fi f).length = comps2 (fi f).length m := comps_2 ⟨m, by omega⟩ ⟨(fi f).length, by omega⟩ (by show 1 ≤ m; omega) a2.1
      have k1 := comps_cP (T := T) (x := x) (to := j) (fi f) i (by omega)
      rw [← hm] at k1
      rw [ec, k1]
      have wg := fun (s' a b : Int) (q0 : 0 ≤ s') (q5 : s' ≤ 5) (q1 : i ≤ a) (q2 : a < b) (q3 : b ≤ j) => wgt_b (ok s' (b - a) q0 q5 (by omega) (by omega)) (il x a (b - a).toNat)
      obtain ⟨wz, hwz⟩ : ∃ wz : Int → Int → Int → Int, wz = fun s' a b => if (a = i ∧ b = j ∧ ¬ s < s') ∧ 0 ≤ s' ∧ s' ≤ 5 then wgt (T s' (b - a)) (il x a (b - a).toNat) else wy s' a b := ⟨_, rfl⟩
      have wp : ∀ s' a b, (a = i ∧ b = j ∧ ¬ s < s') ∧ 0 ≤ s' ∧ s' ≤ 5 → wz s' a b = wgt (T s' (b - a)) (il x a (b - a).toNat) := fun s' a b q => by rw [hwz]; exact if_pos q
      have wn : ∀ s' a b, ¬ ((a = i ∧ b = j ∧ ¬ s < s') ∧ 0 ≤ s' ∧ s' ≤ 5) → wz s' a b = wy s' a b := fun s' a b q => by rw [hwz]; exact if_neg q
      have hd' := rW_head (wy := wy) (wy' := wz) (ft := ft) (i := i) (j := j) (l := fi f) (fun q => by rw [q] at a2; exact absurd a2.1 (by decide)) (fun s' a b q1 q2 q3 q4 => (wn s' a b (by omega)).symm) (fun it q1 q2 => (wn _ i j (by have := a4 it q1 q2; omega)).symm)
      rw [hd']
      have nz : ∀ s' a b, i ≤ a → a < b → b ≤ j → 0 ≤ wz s' a b := fun s' a b q1 q2 q3 => by
        by_cases y : (a = i ∧ b = j ∧ ¬ s < s') ∧ 0 ≤ s' ∧ s' ≤ 5
        · rw [wp s' a b y]
          exact (wg s' a b y.2.1 y.2.2 q1 q2 q3).1
        · rw [wn s' a b y]
          exact hn s' a b (by omega) q2 (by omega)
      refine ⟨⟨(rW_b nz (by omega)).1, cP_nn (fi f) i (by omega) a3 (fun s' a b q0 q5 q1 q2 q3 => (wg s' a b q0 q5 q1 q2 q3).1)⟩, rW_cP (fi f) i (by omega) a3 (fun q q0 q1 => hx q (by omega) (by omega)) hf nz (fun s' a b q0 q5 q1 q2 q3 => ⟨⟨(wg s' a b q0 q5 q1 q2 q3).1, (wg s' a b q0 q5 q1 q2 q3).2.1⟩, ?_⟩)⟩
      by_cases y : (a = i ∧ b = j ∧ ¬ s < s') ∧ 0 ≤ s' ∧ s' ≤ 5
      · rw [wp s' a b y]
        have := wg s' a b q0 q5 q1 q2 q3
        unfold c2
        omega
      · rw [wn s' a b y]
        exact ih a b s' q0 q5 (by omega) q2 (by omega) (by omega)
    · rw [if_neg z, if_neg z]
      exact ⟨⟨Int.le_refl 0, Int.le_refl 0⟩, rfl⟩
end
