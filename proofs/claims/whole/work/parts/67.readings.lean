section
/-! the reader's telling is set -/
theorem x3_told {T : Nat → Option q_T} {R : Nat → Nat → Option Value} {a t r : Nat} {nx rc rs : Nat} {G : Nat → Int → Int} (h : Ly T R a (L3 a t)) {env : List Value} {Kn : List Value → q_M → Prop} : spK Value.ref (fun _ => True) 3 1 a r env (st T nx rc rs R G) Kn = Kn env (st T nx rc rs (rS R a 1 (.ref r)) G) := by
  refine propext ⟨fun k => ?_, fun k => ⟨t3 h, trivial, ?_⟩⟩
  · have := k.2.2
    rw [st_setR] at this
    exact this
  · rw [st_setR]
    exact k
theorem Ly_set {T : Nat → Option q_T} {R : Nat → Nat → Option Value} {a m f n : Nat} {P C Q : q_L} {t : q_T} {F F' : Nat → Value} (h : Ly T R a (P ++ ((t, F) :: (C ++ Q)))) (hP : P.length = m) (hF : ∀ j, F' j = if j = f then .ref n else F j) : Ly T (rS R (a + m) f (.ref n)) a (P ++ ((t, F') :: (C ++ Q))) := by
  subst hP
  intro k c hk
  rcases Nat.lt_trichotomy k P.length with e | e | e
  · rw [List.getElem?_append_left e] at hk
    have w := h k c (by rw [List.getElem?_append_left e]; exact hk)
    refine ⟨w.1, fun j => ?_⟩
    show (if a + k = a + P.length ∧ j = f then some (Value.ref n) else R (a + k) j) = _
    rw [if_neg (by omega)]
    exact w.2 j
  · subst e
    have e0 : c = (t, F') := by
      rw [List.getElem?_append_right (Nat.le_refl _), Nat.sub_self] at hk
      exact (Option.some.inj hk).symm
    subst e0
    have w := h P.length (t, F) (by rw [List.getElem?_append_right (Nat.le_refl _), Nat.sub_self]; rfl)
    refine ⟨w.1, fun j => ?_⟩
    show (if a + P.length = a + P.length ∧ j = f then some (Value.ref n) else R (a + P.length) j) = gRf F' j
    by_cases hj : j = f
    · rw [if_pos ⟨rfl, hj⟩]
      unfold gRf
      rw [hF j, if_pos hj]
    · rw [if_neg (fun q => hj q.2), w.2 j]
      unfold gRf
      rw [hF j, if_neg hj]
  · obtain ⟨i, hi⟩ : ∃ i, k = P.length + (i + 1) := ⟨k - P.length - 1, by omega⟩
    subst hi
    rw [List.getElem?_append_right (by omega), Nat.add_sub_cancel_left] at hk
    have w := h (P.length + (i + 1)) c (by rw [List.getElem?_append_right (by omega), Nat.add_sub_cancel_left]; exact hk)
    refine ⟨w.1, fun j => ?_⟩
    show (if a + (P.length + (i + 1)) = a + P.length ∧ j = f then some (Value.ref n) else R (a + (P.length + (i + 1))) j) = _
    rw [if_neg (by omega)]
    exact w.2 j
theorem L11x_3 (a a1 a2 a3 a4 : Nat) : L11x a a1 a2 a3 a4 = ((.inl 11, F11_22 a) :: C11_19 a) ++ ((.inl 3, F3_7 (a + 526) a1) :: (C3_7 (a + 526) a1 ++ (L6 (a + 533) a2 ++ L5 (a + 540) a3 a4))) := by
  simp only [L11x, lC11_19, L3, List.cons_append, List.append_assoc, Nat.add_assoc, Nat.reduceAdd]
theorem Ly_told {T : Nat → Option q_T} {R : Nat → Nat → Option Value} {a a1 a2 a3 a4 r : Nat} (h : Ly T R a (L11x a a1 a2 a3 a4)) : Ly T (rS R (a + 526) 1 (.ref r)) a (L11x a r a2 a3 a4) := by
  rw [L11x_3] at h ⊢
  refine Ly_set h (by rw [List.length_cons, lC11_19]) (fun j => ?_)
  show (if j = 1 then Value.ref r else F3_6 (a + 526) r j) = (if j = 1 then Value.ref r else (if j = 1 then Value.ref a1 else F3_6 (a + 526) a1 j))
  by_cases e : j = 1
  · rw [if_pos e, if_pos e]
  · rw [if_neg e, if_neg e, if_neg e]
    first | done | rfl
/-- what lies elsewhere lies there still -/
theorem Ly_rS {T : Nat → Option q_T} {R : Nat → Nat → Option Value} {a b f : Nat} {v : Value} {l : q_L} (h : Ly T R a l) (hb : ∀ k, k < l.length → ¬ a + k = b) : Ly T (rS R b f v) a l := by
  intro k c hk
  have w := h k c hk
  refine ⟨w.1, fun j => ?_⟩
  show (if a + k = b ∧ j = f then some v else R (a + k) j) = _
  rw [if_neg (fun q => hb k (List.getElem?_eq_some_iff.mp hk).1 q.1)]
  exact w.2 j
end
section
/-! readings -/
theorem lo_told {B r : Nat} {R : Nat → Nat → Option Value} {G G' : Nat → Int → Int} (h : ∀ a : Nat, a < B → G' a = G a) : Lo B R (rS R (B + 526) 1 (.ref r)) G G' := fun a ha => ⟨funext fun j => if_neg (fun q => by have := q.1; omega), h a ha⟩
theorem M_rS {T : Nat → Option q_T} {R : Nat → Nat → Option Value} {B f : Nat} {v : Value} (h : Ly T R (B + 544) (L12 (B + 544))) : Ly T (rS R (B + 526) f v) (B + 544) (L12 (B + 544)) := Ly_rS h (fun k hk => by omega)
/-- the reader opens a row -/
theorem c3_open {T : Nat → Option q_T} {nx rc rs B t1 t2 t3 t4 r : Nat} {R : Nat → Nat → Option Value} {G : Nat → Int → Int} {f n : Int} {K : Option Value → q_M → Prop} (hL : Ly T R B (L11x B t1 t2 t3 t4)) (n0 : 0 ≤ n) (n1 : n ≤ 16) (f0 : 0 ≤ f) (f1 : f + n ≤ 128) :
    fX3_open [.ref (B + 526), .ref r, .ref (B + 2), .int (zI f), .int (zI n)] (st T nx rc rs R G) K = K none (st T nx rc rs (rS R (B + 526) 1 (.ref r)) (cpG (gs G (B + 526) 0 n) (B + 2) f (B + 527) 0 n)) := by
  have o := o11_10 hL
  have hL2 := Ly_told (r := r) hL
  have o2 := o11_10 hL2
  simp (disch := omega) only [↓fX3_open.eq_1, ↓sX3_open_.eq_1, ↓k_mk, ↓k_sq, ↓k_sk, ↓k_bk, ↓k_if, ↓k_te, ↓k_cm, ↓k_cz, ↓k_an2, ↓k_or2, ↓k_no, ↓k_ci, ↓k_l0, ↓k_r0, ↓k_se0, ↓k_ic0, ↓k_l1, ↓k_r1, ↓k_se1, ↓k_ic1, ↓k_de1, ↓k_tk1, ↓k_l2, ↓k_r2, ↓k_se2, ↓k_ic2, ↓k_de2, ↓k_tk2, ↓k_l3, ↓k_r3, ↓k_se3, ↓k_ic3, ↓k_de3, ↓k_tk3, ↓k_l4, ↓k_r4, ↓k_se4, ↓k_ic4, ↓k_de4, ↓k_tk4, ↓k_l5, ↓k_r5, ↓k_se5, ↓k_ic5, ↓k_de5, ↓k_tk5, ↓k_l6, ↓k_r6, ↓k_se6, ↓k_ic6, ↓k_de6, ↓k_tk6, ↓k_l7, ↓k_r7, ↓k_se7, ↓k_ic7, ↓k_de7, ↓k_tk7, ↓k_l8, ↓k_r8, ↓k_se8, ↓k_ic8, ↓k_de8, ↓k_tk8, ↓k_l9, ↓k_r9, ↓k_se9, ↓k_ic9, ↓k_de9, ↓k_tk9, ↓k_l10, ↓k_r10, ↓k_se10, ↓k_ic10, ↓k_de10, ↓k_tk10, ↓k_l11, ↓k_r11, ↓k_se11, ↓k_ic11, ↓k_de11, ↓k_tk11, ↓k_l12, ↓k_r12, ↓k_se12, ↓k_ic12, ↓k_de12, ↓k_tk12, ↓k_l13, ↓k_r13, ↓k_se13, ↓k_ic13, ↓k_de13, ↓k_tk13, ↓k_l14, ↓k_r14, ↓k_se14, ↓k_ic14, ↓k_de14, ↓k_tk14, ↓k_l15, ↓k_r15, ↓k_se15, ↓k_ic15, ↓k_de15, ↓k_tk15, ↓k_l16, ↓k_r16, ↓k_se16, ↓k_ic16, ↓k_de16, ↓k_tk16, ↓k_l17, ↓k_r17, ↓k_se17, ↓k_ic17, ↓k_de17, ↓k_tk17, ↓k_l18, ↓k_r18, ↓k_se18, ↓k_ic18, ↓k_de18, ↓k_tk18, ↓k_l19, ↓k_r19, ↓k_se19, ↓k_ic19, ↓k_de19, ↓k_tk19, ↓k_l20, ↓k_r20, ↓k_se20, ↓k_ic20, ↓k_de20, ↓k_tk20, ↓k_l21, ↓k_r21, ↓k_se21, ↓k_ic21, ↓k_de21, ↓k_tk21, ↓k_l22, ↓k_r22, ↓k_se22, ↓k_ic22, ↓k_de22, ↓k_tk22, ↓k_l23, ↓k_r23, ↓k_se23, ↓k_ic23, ↓k_de23, ↓k_tk23, ↓k_l24, ↓k_r24, ↓k_se24, ↓k_ic24, ↓k_de24, ↓k_tk24, ↓k_l25, ↓k_r25, ↓k_se25, ↓k_ic25, ↓k_de25, ↓k_tk25, ↓k_k, ↓k_kn, ↓k_kl, ↓k_kln, ↓k_il, ↓k_2, ↓k_1, ↓k_2c, ↓k_2l, ↓k_ac, ↓k_an, ↓k_cs, ↓k_cv, ↓k_fi, ↓k_fr, ↓k_ai, ↓k_az, ↓k_ar, ↓k_sai, ↓k_saz, ↓k_soa, ↓k_sof, ↓k_spf, ↓k_sx, ↓k_blk, ↓k_sset, ↓k_sdec, ↓k_sri, ↓k_srv, ↓k_srr, ↓k_nop, ↓k_add, ↓k_sub, ↓k_mul, ↓k_min, ↓k_max, ↓k_shr, ↓k_shl, ↓k_or, ↓k_ilz, ↓k_addl, ↓k_rt, ↓k_rb, ↓k_rbz, ↓k_rsi, ↓k_rsr, ↓k_rsv, ↓reduceIte, ↓(x3_told o), ↓e_cpy, ↓(cp_mk (t11_1 hL2) (t3_2 o2) (v11_1 hL2) (v3_2 o2)), ↓xi3_0 o2, ↓xp3_0 o2, ↓xb3_0 o2, ↓xf3_0 o2, ↓xg3_0 o2, ↓xh3_0 o2, ↓xr3_2 o2, ↓xa3_2 o2, ↓xs3_2 o2, ↓xo3_2 o2, ↓xc3_2 o2, ↓xd3_2 o2, List.length_cons, List.length_nil, List.forall_mem_cons, List.not_mem_nil, Value.category, true_and, and_true, false_and, and_false, or_true, true_or, or_false, false_or, Nat.zero_le, forall_const, implies_true, false_implies, Nat.zero_add, Nat.reduceAdd, Nat.reduceLT, Nat.reduceLeDiff, Nat.le_refl, not_true_eq_false, not_false_eq_true, r_eq, r_ne, r_lt, r_ge, r_gt, r_le, bz_ne, nn_toNat, cn_of, cn_0, cn_1, i10, Int.reduceLE, Int.reduceLT, Int.reduceEq, bz_T, bz_F, ite_self, mulc, st_bud]
theorem rW_ft {wy : Int → Int → Int → Int} {ft ft' : Int → Int → Bool} {to : Int} : ∀ (l : List Int) (p : Int), (∀ it q, p ≤ q → q < to → ft it q = ft' it q) → rW wy ft to l p = rW wy ft' to l p := by
  intro l
  induction l with
  | nil => intro p _; rfl
  | cons it r ih =>
    intro p h
    rw [rW, rW]
    by_cases c : 60 ≤ it
    · rw [if_pos c, if_pos c, sumN_congr fun k hk => ?_]
      rw [ih (p + 1 + k) (fun it q q1 q2 => h it q (by omega) q2)]
    · rw [if_neg c, if_neg c]
      by_cases d : p < to
      · rw [h it p (Int.le_refl _) d]
        by_cases e : p < to ∧ ft' it p = true
        · rw [if_pos e, if_pos e]
          exact ih (p + 1) (fun it q q1 q2 => h it q (by omega) q2)
        · rw [if_neg e, if_neg e]
      · rw [if_neg (fun z => d z.1), if_neg (fun z => d z.1)]
theorem il_congr {g g' : Int → Int} : ∀ (m : Nat) (k : Int), (∀ x, k ≤ x → x < k + m → g x = g' x) → il g k m = il g' k m := by
  intro m
  induction m with
  | zero => intro k _; rfl
  | succ m ih =>
    intro k h
    rw [il, il, h k (Int.le_refl _) (by omega), ih (k + 1) (fun x q1 q2 => h x (by omega) (by omega))]
theorem il_mem {g : Int → Int} : ∀ (m : Nat) (k : Int) (it : Int), it ∈ il g k m → ∃ x, k ≤ x ∧ x < k + m ∧ it = g x := by
  intro m
  induction m with
  | zero => intro k it h; exact absurd h List.not_mem_nil
  | succ m ih =>
    intro k it h
    rcases List.mem_cons.mp h with h | h
    · exact ⟨k, Int.le_refl _, by omega, h⟩
    · obtain ⟨x, x1, x2, x3⟩ := ih (k + 1) it h
      exact ⟨x, by omega, by omega, x3⟩
theorem sumN_sh {F : Int → Int} {lo : Int} : ∀ n : Nat, sumN F lo n = sumN (fun f => F (lo + f)) 0 n := by
  intro n
  induction n with
  | zero => rfl
  | succ n ih =>
    rw [sumN, sumN, ih, show (0 : Int) + n = n by omega]
theorem FT_of {G : Nat → Int → Int} {B : Nat} {v : Int} (h : IFm G B) (v0 : 0 ≤ v) (v1 : v ≤ 1) : FT G (B + 370 + 14 * v.toNat) := by
  obtain ⟨f1, f2, f3, f4⟩ := h v v0 v1
  refine ⟨⟨f2, f3⟩, fun f q1 q2 => ?_⟩
  obtain ⟨so, ⟨⟨s1, s2, s3⟩, it, iu, i1⟩, _⟩ := f4 f q1 q2
  refine ⟨⟨so.2.1, so.2.2⟩, ⟨s2, s3⟩, fun k k0 k1 => ?_, fun z1 z2 => ?_⟩
  · have := (it k k0 k1).2
    unfold isIt at this
    omega
  · rw [show 5 * f + 0 = 5 * f by omega] at z2 ⊢
    exact i1 z1 z2
/-- form f of telling v in the reference -/
theorem FR_eq {G : Nat → Int → Int} {B : Nat} {v : Int} (h : IFm G B) (v0 : 0 ≤ v) (v1 : v ≤ 1) : G (B + 544 + 2) v = G (B + 370 + 14 * v.toNat) 1 ∧ ∀ f, 0 ≤ f → f < G (B + 370 + 14 * v.toNat) 1 → G (B + 544 + 3) (14 * v + f) = G (B + 370 + 14 * v.toNat + 2) f ∧ G (B + 544 + 4) (14 * v + f) = G (B + 370 + 14 * v.toNat + 3) f ∧ ∀ k, 0 ≤ k → k < G (B + 370 + 14 * v.toNat + 3) f → G (B + 544 + 5) (5 * (14 * v + f) + k) = G (B + 370 + 14 * v.toNat + 4) (5 * f + k) := by
  obtain ⟨f1, f2, f3, f4⟩ := h v v0 v1
  refine ⟨f1, fun f q1 q2 => ?_⟩
  obtain ⟨so, ⟨⟨s1, s2, s3⟩, it, iu, i1⟩, _⟩ := f4 f q1 q2
  exact ⟨so.1, s1, fun k k0 k1 => (it k k0 k1).1⟩
theorem FTr_of {G : Nat → Int → Int} {B : Nat} {v : Int} (h : IFm G B) (v0 : 0 ≤ v) (v1 : v ≤ 1) : FTr G B v := by
  obtain ⟨e1, e2⟩ := FR_eq h v0 v1
  obtain ⟨g1, g2⟩ := FT_of h v0 v1
  refine ⟨by rw [e1]; exact g1, fun f q1 q2 => ?_⟩
  obtain ⟨f', hf⟩ : ∃ f', f = 14 * v + f' := ⟨f - 14 * v, by omega⟩
  subst hf
  obtain ⟨a1, a2, a3⟩ := e2 f' (by omega) (by omega)
  obtain ⟨b1, b2, b3, b4⟩ := g2 f' (by omega) (by omega)
  rw [a1, a2]
  refine ⟨b1, b2, fun k k0 k1 => by rw [a3 k k0 k1]; exact b3 k k0 k1, fun z1 z2 => ?_⟩
  rw [a3 0 (by omega) (by omega)] at z2 ⊢
  exact b4 z1 z2
/-- the two tables are one: P what the class has, Q what the reference has; v's forms in both -/
theorem ways_eq {P Q : Nat → Int → Int} {B a t : Nat} {v n : Int} (hF : FT P t) (n0 : 1 ≤ n) (n1 : n ≤ 16) (hP : PD P a t (fun _ y => y < 1 + n)) (hQ : PDr Q B v (fun _ y => y ≤ n)) (e1 : Q (B + 544 + 2) v = P t 1)
    (e2 : ∀ f, 0 ≤ f → f < P t 1 → Q (B + 544 + 3) (14 * v + f) = P (t + 2) f ∧ Q (B + 544 + 4) (14 * v + f) = P (t + 3) f ∧ ∀ k, 0 ≤ k → k < P (t + 3) f → Q (B + 544 + 5) (5 * (14 * v + f) + k) = P (t + 4) (5 * f + k)) (e3 : ∀ p, 0 ≤ p → p < n → Q (B + 544 + 39) p = P (a + 1) p) : ∀ s i j, 0 ≤ s → s ≤ 5 → 0 ≤ i → i < j → j ≤ n → P (a + 2) (289 * s + 17 * i + j) = Q (B + 544 + 40) (289 * s + 17 * i + j) := by
  have g1 := hF.1
  have hO : FOk (P t 1) (P (t + 2)) (fun f => il (gC (P (t + 4)) f) 0 (P (t + 3) f - 0).toNat) := fun f q1 q2 => by
    obtain ⟨u1, u2, u3, u4⟩ := hF.2 f q1 q2
    have e : il (gC (P (t + 4)) f) 0 (P (t + 3) f - 0).toNat = P (t + 4) (5 * f + 0) :: il (gC (P (t + 4)) f) (0 + 1) (P (t + 3) f - (0 + 1)).toNat := il_c (by omega)
    refine ⟨by show il _ _ _ ≠ []; rw [e]; exact List.cons_ne_nil _ _, fun it q3 => ?_, fun it q3 q4 => ?_⟩
    · obtain ⟨x, x1, x2, x3⟩ := il_mem _ _ _ q3
      have := u3 x x1 (by omega)
      rw [x3]
      exact this.2
    · have q3 : il (gC (P (t + 4)) f) 0 (P (t + 3) f - 0).toNat = [it] := q3
      have l1 : (P (t + 3) f - 0).toNat = 1 := by
        rw [← il_len (gC (P (t + 4)) f) (P (t + 3) f - 0).toNat 0, q3]
        rfl
      rw [e] at q3
      have a1 : P (t + 4) (5 * f + 0) = it := (List.cons.inj q3).1
      rw [← a1]
      exact u4 (by omega) (by omega)
  have h1 : WOk (P t 1) (P (t + 2)) (fun f => il (gC (P (t + 4)) f) 0 (P (t + 3) f - 0).toNat) (ftX (P (a + 1))) n (wyc (P (a + 2))) := fun s i j s0 s1 i0 ij jn => by
    rw [wyc_in ⟨s0, s1⟩]
    exact ((hP i j i0 ij (by omega) (by omega)).1 s s0 s1).2
  have h2 : WOk (P t 1) (P (t + 2)) (fun f => il (gC (P (t + 4)) f) 0 (P (t + 3) f - 0).toNat) (ftX (P (a + 1))) n (wyc (Q (B + 544 + 40))) := fun s i j s0 s1 i0 ij jn => by
    have w := hQ i j i0 ij (by omega) jn s s0 s1
    rw [wyc_in ⟨s0, s1⟩, w]
    unfold sVr
    rw [e1, sumN_sh]
    congr 1
    refine sumN_congr fun m hm => ?_
    obtain ⟨a1, a2, a3⟩ := e2 (0 + m) (by omega) (by omega)
    show (if Q (B + 544 + 3) (14 * v + (0 + m)) = s then _ else _) = _
    rw [a1]
    by_cases c : P (t + 2) (0 + m) = s
    · rw [if_pos c, if_pos c]
      unfold rV
      rw [a2, il_congr (g := gC (Q (B + 544 + 5)) (14 * v + (0 + m))) (g' := gC (P (t + 4)) (0 + m)) _ 0 (fun x x1 x2 => a3 x x1 (by omega))]
      exact rW_ft _ _ fun it q q1 q2 => by
        show sutB it (Q (B + 544 + 39) q) = sutB it (P (a + 1) q)
        rw [e3 q (by omega) (by omega)]
    · rw [if_neg c, if_neg c]
  intro s i j s0 s1 i0 ij jn
  have w := W_one hO h1 h2 (fun s x y c => by rw [wyc_out c, wyc_out c]) (j - i).toNat i j s i0 ij jn (Nat.le_refl _)
  rw [wyc_in ⟨s0, s1⟩, wyc_in ⟨s0, s1⟩] at w
  exact w
end
