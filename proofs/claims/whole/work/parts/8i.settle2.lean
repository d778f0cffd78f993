section
/-! the class settles a sort on one span: all its forms -/
def LKp (nf : Int) (sf L Rr : Int → Int) (i j : Int) : Prop := ∀ f, 0 ≤ f → f < nf → L (289 * sf f + 17 * i + j) ≤ Rr (289 * (5 * f + 0) + 17 * i + j)
/-- what one settling leaves -/
def SS (Q : Int → Int → Int → Int) (ft : Int → Int → Bool) (nf : Int) (sf C n : Int → Int) (a : Nat) (i j : Int) (G G' : Nat → Int → Int) : Prop := FrL G G' a ∧ (∀ s x y, 0 ≤ s → s ≤ 5 → 0 ≤ x → x ≤ 16 → 0 ≤ y → y ≤ 16 → ¬ (x = i ∧ y = j) → G' (a + 4) (289 * s + 17 * x + y) = G (a + 4) (289 * s + 17 * x + y)) ∧ (∀ f k x y, 0 ≤ f → f < nf → 0 ≤ k → k < n f → 0 ≤ x → x ≤ 16 → 0 ≤ y → y ≤ 16 → ¬ (x = i ∧ y = j) → G' (a + 5) (289 * (5 * f + k) + 17 * x + y) = G (a + 5) (289 * (5 * f + k) + 17 * x + y)) ∧
  SL Q (G' (a + 4)) i j ∧ SR Q ft nf C n (G' (a + 5)) i j ∧ LKp nf sf (G' (a + 4)) (G' (a + 5)) i j ∧ (∀ s, 0 ≤ s → s ≤ 5 → G' (a + 4) (289 * s + 17 * i + j) ≤ G (a + 4) (289 * s + 17 * i + j)) ∧ ∀ f k, 0 ≤ f → f < nf → 0 ≤ k → k < n f → G' (a + 5) (289 * (5 * f + k) + 17 * i + j) ≤ G (a + 5) (289 * (5 * f + k) + 17 * i + j)
theorem SS_tr {Q : Int → Int → Int → Int} {ft : Int → Int → Bool} {nf : Int} {sf C n : Int → Int} {a : Nat} {i j : Int} {G G1 G2 : Nat → Int → Int} (h : SS Q ft nf sf C n a i j G G1) (k : SS Q ft nf sf C n a i j G1 G2) : SS Q ft nf sf C n a i j G G2 := by
  obtain ⟨h1, h2, h3, _, _, _, h7, h8⟩ := h
  obtain ⟨k1, k2, k3, k4, k5, k6, k7, k8⟩ := k
  exact ⟨FrL_tr h1 k1, fun s x y a b c d e f g => by rw [k2 s x y a b c d e f g, h2 s x y a b c d e f g], fun f k x y a b c d e g h i j => by rw [k3 f k x y a b c d e g h i j, h3 f k x y a b c d e g h i j], k4, k5, k6, fun s a b => Int.le_trans (k7 s a b) (h7 s a b), fun f k a b c d => Int.le_trans (k8 f k a b c d) (h8 f k a b c d)⟩
theorem SS_rfl {Q : Int → Int → Int → Int} {ft : Int → Int → Bool} {nf : Int} {sf C n : Int → Int} {a : Nat} {i j : Int} {G : Nat → Int → Int} (sl : SL Q (G (a + 4)) i j) (sr : SR Q ft nf C n (G (a + 5)) i j) (lk : LKp nf sf (G (a + 4)) (G (a + 5)) i j) : SS Q ft nf sf C n a i j G G := ⟨fun _ _ _ => rfl, fun _ _ _ _ _ _ _ _ _ _ => rfl, fun _ _ _ _ _ _ _ _ _ _ _ _ _ => rfl, sl, sr, lk, fun _ _ _ => Int.le_refl _, fun _ _ _ _ _ _ => Int.le_refl _⟩
theorem SS_pq {Q : Int → Int → Int → Int} {ft : Int → Int → Bool} {nf : Int} {sf C n : Int → Int} {a : Nat} {i j : Int} {G G' : Nat → Int → Int} (i0 : 0 ≤ i) (j1 : j ≤ 16) (h : SS Q ft nf sf C n a i j G G') : ∀ s x y, i ≤ x → x ≤ y → y ≤ j → pq 16777216 (G' (a + 4)) s x y ≤ pq 16777216 (G (a + 4)) s x y := fun s x y q1 q2 q3 => by
  by_cases c : 0 ≤ s ∧ s ≤ 5
  · rw [pq_in c, pq_in c]
    by_cases d : x = i ∧ y = j
    · rw [d.1, d.2]
      exact h.2.2.2.2.2.2.1 s c.1 c.2
    · exact Int.le_of_eq (h.2.1 s x y c.1 c.2 (by omega) (by omega) (by omega) (by omega) d)
  · rw [pq_out c, pq_out c]
    exact Int.le_refl _
theorem c3_settleSort {T : Nat → Option q_T} {nx rc rs a t : Nat} {R : Nat → Nat → Option Value} {G : Nat → Int → Int} {N nf i j : Int} {sf C n : Int → Int} {ft : Int → Int → Bool} {Q : Int → Int → Int → Int} {s : Int} (o : Ly T R a (L3 a t)) (o8 : Ly T R t (L8 t)) (ht : t + 14 ≤ a) (hF : FO5 nf sf (fun ff => il (gC C ff) 0 (n ff - 0).toNat)) (hQ : QOK nf sf (fun ff => il (gC C ff) 0 (n ff - 0).toNat) ft N Q) (n16 : N ≤ 16) (tc : TC G t nf sf C n) (nt : NFt G a ft N (fun _ => True)) (i0 : 0 ≤ i) (ij : i ≤ j) (jN : j ≤ N) (sl : SL Q (G (a + 4)) i j) (sr : SR Q ft nf C n (G (a + 5)) i j) (lk : LKp nf sf (G (a + 4)) (G (a + 5)) i j) (s0 : 0 ≤ s) (s1 : s ≤ 5) :
    ∃ G' y, SS Q ft nf sf C n a i j G G' ∧ (∀ f k, 0 ≤ f → f < nf → sf f = s → 0 ≤ k → k < n f → G' (a + 5) (289 * (5 * f + k) + 17 * i + j) ≤ rF 16777216 (pq 16777216 (G (a + 4))) ft C n j f k i) ∧ ((y = 0 ∧ G' (a + 4) = G (a + 4) ∧ G' (a + 5) = G (a + 5)) ∨ y = 1) ∧
      ∀ K : Option Value → q_M → Prop, fX3_settleSort [.ref a, .int (zI s), .int (zI i), .int (zI j)] (st T nx rc rs R G) K = K (some (.int (zI y))) (st T nx rc rs R G') := by
  obtain ⟨p, hp⟩ : ∃ p, p = 289 * s + 17 * i + j := ⟨_, rfl⟩
  have tc' := tc
  obtain ⟨c1, c2, c3, c4, c5, c6⟩ := tc'
  have key : ∀ m : Nat, (m : Int) ≤ nf → ∃ G1 y1, SS Q ft nf sf C n a i j G G1 ∧ (∀ f k, 0 ≤ f → f < (m : Int) → sf f = s → 0 ≤ k → k < n f → G1 (a + 5) (289 * (5 * f + k) + 17 * i + j) ≤ rF 16777216 (pq 16777216 (G (a + 4))) ft C n j f k i) ∧ ((y1 = 0 ∧ G1 (a + 4) = G (a + 4) ∧ G1 (a + 5) = G (a + 5)) ∨ y1 = 1) ∧
      ∀ (Kn : List Value → q_M → Prop) (Kr : Option Value → q_M → Prop), q_wh wcX3_settleSort_0 wsX3_settleSort_0 [.ref a, .int (zI s), .int (zI i), .int (zI j), .int (zI y1), .int (zI p), .int (zI m)] (st T nx rc rs R G1) Kn Kr → q_wh wcX3_settleSort_0 wsX3_settleSort_0 [.ref a, .int (zI s), .int (zI i), .int (zI j), .int (zI 0), .int (zI p), .int (zI 0)] (st T nx rc rs R G) Kn Kr := by
    intro m
    induction m with
    | zero =>
      intro _
      exact ⟨G, 0, SS_rfl sl sr lk, fun f k q0 q1 => by omega, Or.inl ⟨rfl, rfl, rfl⟩, fun Kn Kr h => h⟩
    | succ m ih =>
      intro hm
      obtain ⟨G1, y1, p1, p2, p3, st1⟩ := ih (by omega)
      obtain ⟨f, hf⟩ : ∃ f : Int, f = m := ⟨_, rfl⟩
      have y1b : y1 = 0 ∨ y1 = 1 := by omega
      have p1' := p1
      obtain ⟨h1, h2, h3, h4, h5, h6, h7, h8⟩ := p1'
      have tc1 := TC_fr h1 ht tc
      have nt1 := NFt_fr h1 nt
      obtain ⟨b1, b2, b3⟩ := c6 f (by omega) (by omega)
      have g1 : G1 t 1 = nf := tc1.1
      have g2 : G1 (t + 2) f = sf f := by rw [tc1.2.1]
      have g3 : G1 (t + 3) f = n f := by rw [tc1.2.2.1]
      have hz : f < nf := by omega
      have e7 : ((m + 1 : Nat) : Int) = f + 1 := by omega
      have fb : 0 ≤ f ∧ f < 14 ∧ i ≤ 16 ∧ j ≤ 16 := by omega
      by_cases c : sf f = s
      · obtain ⟨G2, y2, q1, q2, q3, q4, q5, lw⟩ := ss_form (T := T) (nx := nx) (rc := rc) (rs := rs) (R := R) (G := G1) (p := p) (f := f) (s := s) (y := y1) o o8 ht hF hQ n16 tc1 nt1 i0 ij jN h4 h5 (by omega) (by omega) c y1b
        obtain ⟨z, hzz⟩ : ∃ z, z = G2 (a + 5) (289 * (5 * f + 0) + 17 * i + j) := ⟨_, rfl⟩
        obtain ⟨l, hl⟩ : ∃ l, l = G1 (a + 4) p := ⟨_, rfl⟩
        obtain ⟨w, hw⟩ : ∃ w, w = min l z := ⟨_, rfl⟩
        obtain ⟨G3, e⟩ : ∃ M, M = gs G2 (a + 4) p w := ⟨_, rfl⟩
        have e24 : G2 (a + 4) = G1 (a + 4) := q1 _ (by omega)
        have n3 : ∀ x, ¬ x = p → G3 (a + 4) x = G1 (a + 4) x := fun x q => by rw [e, gs_eq, fu_ne q, e24]
        have o3 : G3 (a + 4) p = w := by rw [e, gs_same]
        have e35 : G3 (a + 5) = G2 (a + 5) := by rw [e, gs_ne (by omega)]
        have zb := q3.2 f 0 (by omega) (by omega) (Int.le_refl _) (by omega)
        have lb := h4.2 s s0 s1
        rw [← hp, ← hl] at lb
        have Qr : Q s i j ≤ rF 1000000 Q ft C n j f 0 i := (hQ.2 s i j s0 s1 i0 ij jN).2.2.1 f (by omega) (by omega) c
        have clQ := cl_mono Qr (rF_cap (by omega))
        have ne : ∀ s' x y, 0 ≤ s' → s' ≤ 5 → 0 ≤ x → x ≤ 16 → 0 ≤ y → y ≤ 16 → ¬ (s' = s ∧ x = i ∧ y = j) → ¬ 289 * s' + 17 * x + y = p := fun s' x y _ _ z3 z4 z5 z6 z7 q => z7 (ix_inj z3 z4 z5 z6 i0 (by omega) (by omega) (by omega) (by rw [← hp]; exact q))
        have oth : ∀ f' k', 0 ≤ f' → f' < nf → 0 ≤ k' → k' < n f' → ¬ f' = f → G2 (a + 5) (289 * (5 * f' + k') + 17 * i + j) = G1 (a + 5) (289 * (5 * f' + k') + 17 * i + j) := fun f' k' r0 r1 r2 r3 r4 => q2 _ fun k r5 r6 => by
          have := (c6 f' r0 r1).2.1
          omega
        have ss3 : SS Q ft nf sf C n a i j G1 G3 := by
          refine ⟨fun x r1 r2 => by rw [e, gs_ne r1, q1 x r2], fun s' x y r0 r1 r2 r3 r4 r5 r6 => n3 _ (ne s' x y r0 r1 r2 r3 r4 r5 (fun q => r6 q.2)), fun f' k' x y r0 r1 r2 r3 r4 r5 r6 r7 r8 => ?_, ⟨fun s' x y r0 r1 r2 r3 r4 r5 => ?_, fun s' r0 r1 => ?_⟩, by rw [e35]; exact q3, fun f' r0 r1 => ?_, fun s' r0 r1 => ?_, fun f' k' r0 r1 r2 r3 => ?_⟩
          · rw [e35]
            refine q2 _ fun k' r9 r10 q => ?_
            have := (ix_inj (by omega) (by omega) (by omega) (by omega) i0 (by omega) (by omega) (by omega) q).2
            exact r8 this
          · rw [n3 _ (ne s' x y r0 r1 (by omega) (by omega) (by omega) (by omega) (fun q => r5 q.2))]
            exact h4.1 s' x y r0 r1 r2 r3 r4 r5
          · by_cases q : s' = s
            · rw [q, ← hp, o3, hw]
              omega
            · rw [n3 _ (ne s' i j r0 r1 i0 (by omega) (by omega) (by omega) (fun q' => q q'.1))]
              exact h4.2 s' r0 r1
          · rw [e35]
            have l6 := h6 f' r0 r1
            have sfb := (c6 f' r0 r1).1
            have nfb := (c6 f' r0 r1).2.1
            by_cases q : f' = f
            · rw [q, c, ← hp, o3, ← hzz, hw]
              omega
            · rw [oth f' 0 r0 r1 (Int.le_refl _) (by omega) q]
              by_cases q' : sf f' = s
              · rw [q', ← hp] at l6 ⊢
                rw [o3, hw]
                omega
              · rw [n3 _ (ne (sf f') i j sfb.1 sfb.2 i0 (by omega) (by omega) (by omega) (fun q'' => q' q''.1))]
                exact l6
          · by_cases q : s' = s
            · rw [q, ← hp, o3, hw]
              omega
            · rw [n3 _ (ne s' i j r0 r1 i0 (by omega) (by omega) (by omega) (fun q' => q q'.1))]
              exact Int.le_refl _
          · rw [e35]
            by_cases q : f' = f
            · rw [q] at r3 ⊢
              exact (q4 k' r2 r3).1
            · rw [oth f' k' r0 r1 r2 r3 q]
              exact Int.le_refl _
        refine ⟨G3, y2, SS_tr p1 ss3, fun f' k' r0 r1 r2 r3 r4 => ?_, ?_, fun Kn Kr h => st1 Kn Kr (q_backR (fun K Kf hk => ?_) h)⟩
        · rw [e35]
          by_cases q : f' = f
          · rw [q] at r4 ⊢
            have a1 := (q4 k' r3 r4).2
            have a2 : rF 16777216 (pq 16777216 (G1 (a + 4))) ft C n j f k' i ≤ rF 16777216 (pq 16777216 (G (a + 4))) ft C n j f k' i := rP_mono (SS_pq i0 (by omega) p1)
            omega
          · rw [oth f' k' r0 (by omega) r3 r4 q]
            exact p2 f' k' r0 (by omega) r2 r3 r4
        · rcases q5 with ⟨r1, r2, r3⟩ | r
          · refine p3.elim (fun ⟨u1, u2, u3⟩ => Or.inl ⟨r1, ?_, by rw [e35, r3, u3]⟩) (fun u => by omega)
            have l6 := h6 f (by omega) (by omega)
            rw [c, ← hp, ← hl, ← r3, ← hzz] at l6
            rw [← u2]
            funext x
            by_cases q : x = p
            · rw [q, o3, ← hl, hw]
              omega
            · exact n3 x q
          · exact Or.inr r
        · have y2b : y2 = 0 ∨ y2 = 1 := by omega
          have g2a : G2 (t + 2) f = s := by rw [q1 _ (by omega), g2, c]
          have z0 : G2 (a + 5) (289 * (5 * f) + 17 * i + j) = z := by rw [hzz, show 5 * f + 0 = 5 * f by omega]
          have l0 : G2 (a + 4) p = l := by rw [e24, hl]
          have zb2 : 0 ≤ z ∧ z ≤ 16777216 := by
            have := cl_b (show 0 ≤ rF 1000000 Q ft C n j f 0 i from rF_nn (by omega) fun s a b q1 q2 q3 => (Q_nn hQ s (show 0 ≤ a by omega) q2 (by omega)).1)
            omega
          have lb2 : 0 ≤ l ∧ l ≤ 16777216 := by
            have := cl_b (hQ.2 s i j s0 s1 i0 ij jN).1.1
            omega
          rw [e7, e, hw] at hk
          rw [← hf]
          have pb : 0 ≤ p ∧ p < 1734 := by omega
          clear p1 p2 p3 q2 q3 q4 q5 ss3 oth ne n3 o3 e35 h2 h3 h4 h5 h6 h7 h8 tc1 nt1 tc nt sl sr hF hQ c6 b3 ih st1 zb lb Qr clQ e hl hzz lk
          simp (disch := omega) only [↓wcX3_settleSort_0.eq_1, ↓wsX3_settleSort_0.eq_1, ↓(k_cs3 dX3_spot), ↓k_mk, ↓k_sq, ↓k_sk, ↓k_bk, ↓k_if, ↓k_te, ↓k_cm, ↓k_cz, ↓k_an2, ↓k_or2, ↓k_no, ↓k_ci, ↓k_l0, ↓k_r0, ↓k_se0, ↓k_ic0, ↓k_l1, ↓k_r1, ↓k_se1, ↓k_ic1, ↓k_de1, ↓k_tk1, ↓k_l2, ↓k_r2, ↓k_se2, ↓k_ic2, ↓k_de2, ↓k_tk2, ↓k_l3, ↓k_r3, ↓k_se3, ↓k_ic3, ↓k_de3, ↓k_tk3, ↓k_l4, ↓k_r4, ↓k_se4, ↓k_ic4, ↓k_de4, ↓k_tk4, ↓k_l5, ↓k_r5, ↓k_se5, ↓k_ic5, ↓k_de5, ↓k_tk5, ↓k_l6, ↓k_r6, ↓k_se6, ↓k_ic6, ↓k_de6, ↓k_tk6, ↓k_l7, ↓k_r7, ↓k_se7, ↓k_ic7, ↓k_de7, ↓k_tk7, ↓k_l8, ↓k_r8, ↓k_se8, ↓k_ic8, ↓k_de8, ↓k_tk8, ↓k_l9, ↓k_r9, ↓k_se9, ↓k_ic9, ↓k_de9, ↓k_tk9, ↓k_l10, ↓k_r10, ↓k_se10, ↓k_ic10, ↓k_de10, ↓k_tk10, ↓k_l11, ↓k_r11, ↓k_se11, ↓k_ic11, ↓k_de11, ↓k_tk11, ↓k_l12, ↓k_r12, ↓k_se12, ↓k_ic12, ↓k_de12, ↓k_tk12, ↓k_l13, ↓k_r13, ↓k_se13, ↓k_ic13, ↓k_de13, ↓k_tk13, ↓k_l14, ↓k_r14, ↓k_se14, ↓k_ic14, ↓k_de14, ↓k_tk14, ↓k_l15, ↓k_r15, ↓k_se15, ↓k_ic15, ↓k_de15, ↓k_tk15, ↓k_l16, ↓k_r16, ↓k_se16, ↓k_ic16, ↓k_de16, ↓k_tk16, ↓k_l17, ↓k_r17, ↓k_se17, ↓k_ic17, ↓k_de17, ↓k_tk17, ↓k_l18, ↓k_r18, ↓k_se18, ↓k_ic18, ↓k_de18, ↓k_tk18, ↓k_l19, ↓k_r19, ↓k_se19, ↓k_ic19, ↓k_de19, ↓k_tk19, ↓k_l20, ↓k_r20, ↓k_se20, ↓k_ic20, ↓k_de20, ↓k_tk20, ↓k_l21, ↓k_r21, ↓k_se21, ↓k_ic21, ↓k_de21, ↓k_tk21, ↓k_l22, ↓k_r22, ↓k_se22, ↓k_ic22, ↓k_de22, ↓k_tk22, ↓k_l23, ↓k_r23, ↓k_se23, ↓k_ic23, ↓k_de23, ↓k_tk23, ↓k_l24, ↓k_r24, ↓k_se24, ↓k_ic24, ↓k_de24, ↓k_tk24, ↓k_l25, ↓k_r25, ↓k_se25, ↓k_ic25, ↓k_de25, ↓k_tk25, ↓k_k, ↓k_kn, ↓k_kl, ↓k_kln, ↓k_il, ↓k_2, ↓k_1, ↓k_2c, ↓k_2l, ↓k_ac, ↓k_an, ↓k_cs, ↓k_cv, ↓k_fi, ↓k_fr, ↓k_ai, ↓k_az, ↓k_ar, ↓k_sai, ↓k_saz, ↓k_soa, ↓k_sof, ↓k_spf, ↓k_sx, ↓k_blk, ↓k_sset, ↓k_sdec, ↓k_sri, ↓k_srv, ↓k_srr, ↓k_nop, ↓k_add, ↓k_sub, ↓k_mul, ↓k_min, ↓k_max, ↓k_shr, ↓k_shl, ↓k_or, ↓k_ilz, ↓k_addl, ↓k_rt, ↓k_rb, ↓k_rbz, ↓k_rsi, ↓k_rsr, ↓k_rsv, ↓reduceIte, g1, hz, g3, ↓lw, g2a, eq_self, ↓c3_spot, z0, l0, ↓xr3_1 o, ↓xr3_5 o, ↓xa3_5 o, ↓xs3_5 o, ↓xo3_5 o, ↓xc3_5 o, ↓xd3_5 o, ↓xr3_6 o, ↓xa3_6 o, ↓xs3_6 o, ↓xo3_6 o, ↓xc3_6 o, ↓xd3_6 o, ↓xi8_1 o8, ↓xp8_1 o8, ↓xb8_1 o8, ↓xf8_1 o8, ↓xg8_1 o8, ↓xh8_1 o8, ↓xr8_2 o8, ↓xa8_2 o8, ↓xs8_2 o8, ↓xo8_2 o8, ↓xc8_2 o8, ↓xd8_2 o8, ↓xr8_3 o8, ↓xa8_3 o8, ↓xs8_3 o8, ↓xo8_3 o8, ↓xc8_3 o8, ↓xd8_3 o8, List.length_cons, List.length_nil, List.forall_mem_cons, List.not_mem_nil, Value.category, true_and, and_true, false_and, and_false, or_true, true_or, or_false, false_or, Nat.zero_le, forall_const, implies_true, false_implies, Nat.zero_add, Nat.reduceAdd, Nat.reduceLT, Nat.reduceLeDiff, Nat.le_refl, not_true_eq_false, not_false_eq_true, r_eq, r_ne, r_lt, r_ge, r_gt, r_le, bz_ne, nn_toNat, cn_of, cn_0, cn_1, i10, Int.reduceLE, Int.reduceLT, Int.reduceEq, bz_T, bz_F, ite_self, mulc, st_bud]
          exact hk
      · have cn : ¬ G1 (t + 2) f = s := by rw [g2]; exact c
        have lw : ∀ (Kn : List Value → q_M → Prop) (Kr : Option Value → q_M → Prop), wX3_settleSort_1 [.ref a, .int (zI s), .int (zI i), .int (zI j), .int (zI y1), .int (zI p), .int (zI f), .int (zI (n f - 1))] (st T nx rc rs R G1) Kn Kr = Kn [.ref a, .int (zI s), .int (zI i), .int (zI j), .int (zI y1), .int (zI p), .int (zI f), .int (zI (n f - 1))] (st T nx rc rs R G1) := eX3_settleSort_1.eqn (q_outR (fun Kt Kf hk => by
          have hz2 : 0 ≤ n f - 1 := by omega
          clear p1 p2 p3 h2 h3 h4 h5 h6 h7 h8 tc1 nt1 tc nt sl sr hF hQ c6 b3 ih st1 lk
          simp (disch := omega) only [↓wcX3_settleSort_1.eq_1, ↓k_mk, ↓k_sq, ↓k_sk, ↓k_bk, ↓k_if, ↓k_te, ↓k_cm, ↓k_cz, ↓k_an2, ↓k_or2, ↓k_no, ↓k_ci, ↓k_l0, ↓k_r0, ↓k_se0, ↓k_ic0, ↓k_l1, ↓k_r1, ↓k_se1, ↓k_ic1, ↓k_de1, ↓k_tk1, ↓k_l2, ↓k_r2, ↓k_se2, ↓k_ic2, ↓k_de2, ↓k_tk2, ↓k_l3, ↓k_r3, ↓k_se3, ↓k_ic3, ↓k_de3, ↓k_tk3, ↓k_l4, ↓k_r4, ↓k_se4, ↓k_ic4, ↓k_de4, ↓k_tk4, ↓k_l5, ↓k_r5, ↓k_se5, ↓k_ic5, ↓k_de5, ↓k_tk5, ↓k_l6, ↓k_r6, ↓k_se6, ↓k_ic6, ↓k_de6, ↓k_tk6, ↓k_l7, ↓k_r7, ↓k_se7, ↓k_ic7, ↓k_de7, ↓k_tk7, ↓k_l8, ↓k_r8, ↓k_se8, ↓k_ic8, ↓k_de8, ↓k_tk8, ↓k_l9, ↓k_r9, ↓k_se9, ↓k_ic9, ↓k_de9, ↓k_tk9, ↓k_l10, ↓k_r10, ↓k_se10, ↓k_ic10, ↓k_de10, ↓k_tk10, ↓k_l11, ↓k_r11, ↓k_se11, ↓k_ic11, ↓k_de11, ↓k_tk11, ↓k_l12, ↓k_r12, ↓k_se12, ↓k_ic12, ↓k_de12, ↓k_tk12, ↓k_l13, ↓k_r13, ↓k_se13, ↓k_ic13, ↓k_de13, ↓k_tk13, ↓k_l14, ↓k_r14, ↓k_se14, ↓k_ic14, ↓k_de14, ↓k_tk14, ↓k_l15, ↓k_r15, ↓k_se15, ↓k_ic15, ↓k_de15, ↓k_tk15, ↓k_l16, ↓k_r16, ↓k_se16, ↓k_ic16, ↓k_de16, ↓k_tk16, ↓k_l17, ↓k_r17, ↓k_se17, ↓k_ic17, ↓k_de17, ↓k_tk17, ↓k_l18, ↓k_r18, ↓k_se18, ↓k_ic18, ↓k_de18, ↓k_tk18, ↓k_l19, ↓k_r19, ↓k_se19, ↓k_ic19, ↓k_de19, ↓k_tk19, ↓k_l20, ↓k_r20, ↓k_se20, ↓k_ic20, ↓k_de20, ↓k_tk20, ↓k_l21, ↓k_r21, ↓k_se21, ↓k_ic21, ↓k_de21, ↓k_tk21, ↓k_l22, ↓k_r22, ↓k_se22, ↓k_ic22, ↓k_de22, ↓k_tk22, ↓k_l23, ↓k_r23, ↓k_se23, ↓k_ic23, ↓k_de23, ↓k_tk23, ↓k_l24, ↓k_r24, ↓k_se24, ↓k_ic24, ↓k_de24, ↓k_tk24, ↓k_l25, ↓k_r25, ↓k_se25, ↓k_ic25, ↓k_de25, ↓k_tk25, ↓k_k, ↓k_kn, ↓k_kl, ↓k_kln, ↓k_il, ↓k_2, ↓k_1, ↓k_2c, ↓k_2l, ↓k_ac, ↓k_an, ↓k_cs, ↓k_cv, ↓k_fi, ↓k_fr, ↓k_ai, ↓k_az, ↓k_ar, ↓k_sai, ↓k_saz, ↓k_soa, ↓k_sof, ↓k_spf, ↓k_sx, ↓k_blk, ↓k_sset, ↓k_sdec, ↓k_sri, ↓k_srv, ↓k_srr, ↓k_nop, ↓k_add, ↓k_sub, ↓k_mul, ↓k_min, ↓k_max, ↓k_shr, ↓k_shl, ↓k_or, ↓k_ilz, ↓k_addl, ↓k_rt, ↓k_rb, ↓k_rbz, ↓k_rsi, ↓k_rsr, ↓k_rsv, ↓reduceIte, hz2, cn, ↓xr3_1 o, ↓xr8_2 o8, ↓xa8_2 o8, ↓xs8_2 o8, ↓xo8_2 o8, ↓xc8_2 o8, ↓xd8_2 o8, List.length_cons, List.length_nil, List.forall_mem_cons, List.not_mem_nil, Value.category, true_and, and_true, false_and, and_false, or_true, true_or, or_false, false_or, Nat.zero_le, forall_const, implies_true, false_implies, Nat.zero_add, Nat.reduceAdd, Nat.reduceLT, Nat.reduceLeDiff, Nat.le_refl, not_true_eq_false, not_false_eq_true, r_eq, r_ne, r_lt, r_ge, r_gt, r_le, bz_ne, nn_toNat, cn_of, cn_0, cn_1, i10, Int.reduceLE, Int.reduceLT, Int.reduceEq, bz_T, bz_F, ite_self, mulc, st_bud]
          exact hk) ⟨rfl, rfl⟩)
        refine ⟨G1, y1, p1, fun f' k' r0 r1 r2 r3 r4 => ?_, p3, fun Kn Kr h => st1 Kn Kr (q_backR (fun K Kf hk => ?_) h)⟩
        · by_cases q : f' = f
          · rw [q] at r2
            exact absurd r2 c
          · exact p2 f' k' r0 (by omega) r2 r3 r4
        · rw [e7] at hk
          rw [← hf]
          clear p1 p2 p3 h2 h3 h4 h5 h6 h7 h8 tc1 nt1 tc nt sl sr hF hQ c6 b3 ih st1 lk
          simp (disch := omega) only [↓wcX3_settleSort_0.eq_1, ↓wsX3_settleSort_0.eq_1, ↓(k_cs3 dX3_spot), ↓k_mk, ↓k_sq, ↓k_sk, ↓k_bk, ↓k_if, ↓k_te, ↓k_cm, ↓k_cz, ↓k_an2, ↓k_or2, ↓k_no, ↓k_ci, ↓k_l0, ↓k_r0, ↓k_se0, ↓k_ic0, ↓k_l1, ↓k_r1, ↓k_se1, ↓k_ic1, ↓k_de1, ↓k_tk1, ↓k_l2, ↓k_r2, ↓k_se2, ↓k_ic2, ↓k_de2, ↓k_tk2, ↓k_l3, ↓k_r3, ↓k_se3, ↓k_ic3, ↓k_de3, ↓k_tk3, ↓k_l4, ↓k_r4, ↓k_se4, ↓k_ic4, ↓k_de4, ↓k_tk4, ↓k_l5, ↓k_r5, ↓k_se5, ↓k_ic5, ↓k_de5, ↓k_tk5, ↓k_l6, ↓k_r6, ↓k_se6, ↓k_ic6, ↓k_de6, ↓k_tk6, ↓k_l7, ↓k_r7, ↓k_se7, ↓k_ic7, ↓k_de7, ↓k_tk7, ↓k_l8, ↓k_r8, ↓k_se8, ↓k_ic8, ↓k_de8, ↓k_tk8, ↓k_l9, ↓k_r9, ↓k_se9, ↓k_ic9, ↓k_de9, ↓k_tk9, ↓k_l10, ↓k_r10, ↓k_se10, ↓k_ic10, ↓k_de10, ↓k_tk10, ↓k_l11, ↓k_r11, ↓k_se11, ↓k_ic11, ↓k_de11, ↓k_tk11, ↓k_l12, ↓k_r12, ↓k_se12, ↓k_ic12, ↓k_de12, ↓k_tk12, ↓k_l13, ↓k_r13, ↓k_se13, ↓k_ic13, ↓k_de13, ↓k_tk13, ↓k_l14, ↓k_r14, ↓k_se14, ↓k_ic14, ↓k_de14, ↓k_tk14, ↓k_l15, ↓k_r15, ↓k_se15, ↓k_ic15, ↓k_de15, ↓k_tk15, ↓k_l16, ↓k_r16, ↓k_se16, ↓k_ic16, ↓k_de16, ↓k_tk16, ↓k_l17, ↓k_r17, ↓k_se17, ↓k_ic17, ↓k_de17, ↓k_tk17, ↓k_l18, ↓k_r18, ↓k_se18, ↓k_ic18, ↓k_de18, ↓k_tk18, ↓k_l19, ↓k_r19, ↓k_se19, ↓k_ic19, ↓k_de19, ↓k_tk19, ↓k_l20, ↓k_r20, ↓k_se20, ↓k_ic20, ↓k_de20, ↓k_tk20, ↓k_l21, ↓k_r21, ↓k_se21, ↓k_ic21, ↓k_de21, ↓k_tk21, ↓k_l22, ↓k_r22, ↓k_se22, ↓k_ic22, ↓k_de22, ↓k_tk22, ↓k_l23, ↓k_r23, ↓k_se23, ↓k_ic23, ↓k_de23, ↓k_tk23, ↓k_l24, ↓k_r24, ↓k_se24, ↓k_ic24, ↓k_de24, ↓k_tk24, ↓k_l25, ↓k_r25, ↓k_se25, ↓k_ic25, ↓k_de25, ↓k_tk25, ↓k_k, ↓k_kn, ↓k_kl, ↓k_kln, ↓k_il, ↓k_2, ↓k_1, ↓k_2c, ↓k_2l, ↓k_ac, ↓k_an, ↓k_cs, ↓k_cv, ↓k_fi, ↓k_fr, ↓k_ai, ↓k_az, ↓k_ar, ↓k_sai, ↓k_saz, ↓k_soa, ↓k_sof, ↓k_spf, ↓k_sx, ↓k_blk, ↓k_sset, ↓k_sdec, ↓k_sri, ↓k_srv, ↓k_srr, ↓k_nop, ↓k_add, ↓k_sub, ↓k_mul, ↓k_min, ↓k_max, ↓k_shr, ↓k_shl, ↓k_or, ↓k_ilz, ↓k_addl, ↓k_rt, ↓k_rb, ↓k_rbz, ↓k_rsi, ↓k_rsr, ↓k_rsv, ↓reduceIte, g1, hz, g3, ↓lw, cn, ↓xr3_1 o, ↓xi8_1 o8, ↓xp8_1 o8, ↓xb8_1 o8, ↓xf8_1 o8, ↓xg8_1 o8, ↓xh8_1 o8, ↓xr8_2 o8, ↓xa8_2 o8, ↓xs8_2 o8, ↓xo8_2 o8, ↓xc8_2 o8, ↓xd8_2 o8, ↓xr8_3 o8, ↓xa8_3 o8, ↓xs8_3 o8, ↓xo8_3 o8, ↓xc8_3 o8, ↓xd8_3 o8, List.length_cons, List.length_nil, List.forall_mem_cons, List.not_mem_nil, Value.category, true_and, and_true, false_and, and_false, or_true, true_or, or_false, false_or, Nat.zero_le, forall_const, implies_true, false_implies, Nat.zero_add, Nat.reduceAdd, Nat.reduceLT, Nat.reduceLeDiff, Nat.le_refl, not_true_eq_false, not_false_eq_true, r_eq, r_ne, r_lt, r_ge, r_gt, r_le, bz_ne, nn_toNat, cn_of, cn_0, cn_1, i10, Int.reduceLE, Int.reduceLT, Int.reduceEq, bz_T, bz_F, ite_self, mulc, st_bud]
          exact hk
  obtain ⟨G', y, p1, p2, p3, st1⟩ := key nf.toNat (by omega)
  have en : ((nf.toNat : Nat) : Int) = nf := by omega
  rw [en] at p2 st1
  have g1 : G' t 1 = nf := (TC_fr p1.1 ht tc).1
  have lw : ∀ (Kn : List Value → q_M → Prop) (Kr : Option Value → q_M → Prop), wX3_settleSort_0 [.ref a, .int (zI s), .int (zI i), .int (zI j), .int (zI 0), .int (zI p), .int (zI 0)] (st T nx rc rs R G) Kn Kr = Kn [.ref a, .int (zI s), .int (zI i), .int (zI j), .int (zI y), .int (zI p), .int (zI nf)] (st T nx rc rs R G') := eX3_settleSort_0.eqn (st1 _ _ (q_outR (fun Kt Kf hk => by
    have hz : ¬ nf < nf := by omega
    clear p1 p2 p3 tc nt sl sr hF hQ c6 st1 lk key
    simp (disch := omega) only [↓wcX3_settleSort_0.eq_1, ↓k_mk, ↓k_sq, ↓k_sk, ↓k_bk, ↓k_if, ↓k_te, ↓k_cm, ↓k_cz, ↓k_an2, ↓k_or2, ↓k_no, ↓k_ci, ↓k_l0, ↓k_r0, ↓k_se0, ↓k_ic0, ↓k_l1, ↓k_r1, ↓k_se1, ↓k_ic1, ↓k_de1, ↓k_tk1, ↓k_l2, ↓k_r2, ↓k_se2, ↓k_ic2, ↓k_de2, ↓k_tk2, ↓k_l3, ↓k_r3, ↓k_se3, ↓k_ic3, ↓k_de3, ↓k_tk3, ↓k_l4, ↓k_r4, ↓k_se4, ↓k_ic4, ↓k_de4, ↓k_tk4, ↓k_l5, ↓k_r5, ↓k_se5, ↓k_ic5, ↓k_de5, ↓k_tk5, ↓k_l6, ↓k_r6, ↓k_se6, ↓k_ic6, ↓k_de6, ↓k_tk6, ↓k_l7, ↓k_r7, ↓k_se7, ↓k_ic7, ↓k_de7, ↓k_tk7, ↓k_l8, ↓k_r8, ↓k_se8, ↓k_ic8, ↓k_de8, ↓k_tk8, ↓k_l9, ↓k_r9, ↓k_se9, ↓k_ic9, ↓k_de9, ↓k_tk9, ↓k_l10, ↓k_r10, ↓k_se10, ↓k_ic10, ↓k_de10, ↓k_tk10, ↓k_l11, ↓k_r11, ↓k_se11, ↓k_ic11, ↓k_de11, ↓k_tk11, ↓k_l12, ↓k_r12, ↓k_se12, ↓k_ic12, ↓k_de12, ↓k_tk12, ↓k_l13, ↓k_r13, ↓k_se13, ↓k_ic13, ↓k_de13, ↓k_tk13, ↓k_l14, ↓k_r14, ↓k_se14, ↓k_ic14, ↓k_de14, ↓k_tk14, ↓k_l15, ↓k_r15, ↓k_se15, ↓k_ic15, ↓k_de15, ↓k_tk15, ↓k_l16, ↓k_r16, ↓k_se16, ↓k_ic16, ↓k_de16, ↓k_tk16, ↓k_l17, ↓k_r17, ↓k_se17, ↓k_ic17, ↓k_de17, ↓k_tk17, ↓k_l18, ↓k_r18, ↓k_se18, ↓k_ic18, ↓k_de18, ↓k_tk18, ↓k_l19, ↓k_r19, ↓k_se19, ↓k_ic19, ↓k_de19, ↓k_tk19, ↓k_l20, ↓k_r20, ↓k_se20, ↓k_ic20, ↓k_de20, ↓k_tk20, ↓k_l21, ↓k_r21, ↓k_se21, ↓k_ic21, ↓k_de21, ↓k_tk21, ↓k_l22, ↓k_r22, ↓k_se22, ↓k_ic22, ↓k_de22, ↓k_tk22, ↓k_l23, ↓k_r23, ↓k_se23, ↓k_ic23, ↓k_de23, ↓k_tk23, ↓k_l24, ↓k_r24, ↓k_se24, ↓k_ic24, ↓k_de24, ↓k_tk24, ↓k_l25, ↓k_r25, ↓k_se25, ↓k_ic25, ↓k_de25, ↓k_tk25, ↓k_k, ↓k_kn, ↓k_kl, ↓k_kln, ↓k_il, ↓k_2, ↓k_1, ↓k_2c, ↓k_2l, ↓k_ac, ↓k_an, ↓k_cs, ↓k_cv, ↓k_fi, ↓k_fr, ↓k_ai, ↓k_az, ↓k_ar, ↓k_sai, ↓k_saz, ↓k_soa, ↓k_sof, ↓k_spf, ↓k_sx, ↓k_blk, ↓k_sset, ↓k_sdec, ↓k_sri, ↓k_srv, ↓k_srr, ↓k_nop, ↓k_add, ↓k_sub, ↓k_mul, ↓k_min, ↓k_max, ↓k_shr, ↓k_shl, ↓k_or, ↓k_ilz, ↓k_addl, ↓k_rt, ↓k_rb, ↓k_rbz, ↓k_rsi, ↓k_rsr, ↓k_rsv, ↓reduceIte, g1, hz, ↓xr3_1 o, ↓xi8_1 o8, ↓xp8_1 o8, ↓xb8_1 o8, ↓xf8_1 o8, ↓xg8_1 o8, ↓xh8_1 o8, List.length_cons, List.length_nil, List.forall_mem_cons, List.not_mem_nil, Value.category, true_and, and_true, false_and, and_false, or_true, true_or, or_false, false_or, Nat.zero_le, forall_const, implies_true, false_implies, Nat.zero_add, Nat.reduceAdd, Nat.reduceLT, Nat.reduceLeDiff, Nat.le_refl, not_true_eq_false, not_false_eq_true, r_eq, r_ne, r_lt, r_ge, r_gt, r_le, bz_ne, nn_toNat, cn_of, cn_0, cn_1, i10, Int.reduceLE, Int.reduceLT, Int.reduceEq, bz_T, bz_F, ite_self, mulc, st_bud]
    exact hk) ⟨rfl, rfl⟩))
  refine ⟨G', y, p1, p2, p3, fun K => ?_⟩
  have yb : y = 0 ∨ y = 1 := by omega
  have hp' : 289 * s + 17 * i + j = p := hp.symm
  clear p1 p2 p3 tc nt sl sr hF hQ c6 st1 lk key
  rcases yb with q | q
  · subst q
    simp (disch := omega) only [↓fX3_settleSort.eq_1, ↓uX3_settleSort, ↓(k_cs3 dX3_spot), ↓k_mk, ↓k_sq, ↓k_sk, ↓k_bk, ↓k_if, ↓k_te, ↓k_cm, ↓k_cz, ↓k_an2, ↓k_or2, ↓k_no, ↓k_ci, ↓k_l0, ↓k_r0, ↓k_se0, ↓k_ic0, ↓k_l1, ↓k_r1, ↓k_se1, ↓k_ic1, ↓k_de1, ↓k_tk1, ↓k_l2, ↓k_r2, ↓k_se2, ↓k_ic2, ↓k_de2, ↓k_tk2, ↓k_l3, ↓k_r3, ↓k_se3, ↓k_ic3, ↓k_de3, ↓k_tk3, ↓k_l4, ↓k_r4, ↓k_se4, ↓k_ic4, ↓k_de4, ↓k_tk4, ↓k_l5, ↓k_r5, ↓k_se5, ↓k_ic5, ↓k_de5, ↓k_tk5, ↓k_l6, ↓k_r6, ↓k_se6, ↓k_ic6, ↓k_de6, ↓k_tk6, ↓k_l7, ↓k_r7, ↓k_se7, ↓k_ic7, ↓k_de7, ↓k_tk7, ↓k_l8, ↓k_r8, ↓k_se8, ↓k_ic8, ↓k_de8, ↓k_tk8, ↓k_l9, ↓k_r9, ↓k_se9, ↓k_ic9, ↓k_de9, ↓k_tk9, ↓k_l10, ↓k_r10, ↓k_se10, ↓k_ic10, ↓k_de10, ↓k_tk10, ↓k_l11, ↓k_r11, ↓k_se11, ↓k_ic11, ↓k_de11, ↓k_tk11, ↓k_l12, ↓k_r12, ↓k_se12, ↓k_ic12, ↓k_de12, ↓k_tk12, ↓k_l13, ↓k_r13, ↓k_se13, ↓k_ic13, ↓k_de13, ↓k_tk13, ↓k_l14, ↓k_r14, ↓k_se14, ↓k_ic14, ↓k_de14, ↓k_tk14, ↓k_l15, ↓k_r15, ↓k_se15, ↓k_ic15, ↓k_de15, ↓k_tk15, ↓k_l16, ↓k_r16, ↓k_se16, ↓k_ic16, ↓k_de16, ↓k_tk16, ↓k_l17, ↓k_r17, ↓k_se17, ↓k_ic17, ↓k_de17, ↓k_tk17, ↓k_l18, ↓k_r18, ↓k_se18, ↓k_ic18, ↓k_de18, ↓k_tk18, ↓k_l19, ↓k_r19, ↓k_se19, ↓k_ic19, ↓k_de19, ↓k_tk19, ↓k_l20, ↓k_r20, ↓k_se20, ↓k_ic20, ↓k_de20, ↓k_tk20, ↓k_l21, ↓k_r21, ↓k_se21, ↓k_ic21, ↓k_de21, ↓k_tk21, ↓k_l22, ↓k_r22, ↓k_se22, ↓k_ic22, ↓k_de22, ↓k_tk22, ↓k_l23, ↓k_r23, ↓k_se23, ↓k_ic23, ↓k_de23, ↓k_tk23, ↓k_l24, ↓k_r24, ↓k_se24, ↓k_ic24, ↓k_de24, ↓k_tk24, ↓k_l25, ↓k_r25, ↓k_se25, ↓k_ic25, ↓k_de25, ↓k_tk25, ↓k_k, ↓k_kn, ↓k_kl, ↓k_kln, ↓k_il, ↓k_2, ↓k_1, ↓k_2c, ↓k_2l, ↓k_ac, ↓k_an, ↓k_cs, ↓k_cv, ↓k_fi, ↓k_fr, ↓k_ai, ↓k_az, ↓k_ar, ↓k_sai, ↓k_saz, ↓k_soa, ↓k_sof, ↓k_spf, ↓k_sx, ↓k_blk, ↓k_sset, ↓k_sdec, ↓k_sri, ↓k_srv, ↓k_srr, ↓k_nop, ↓k_add, ↓k_sub, ↓k_mul, ↓k_min, ↓k_max, ↓k_shr, ↓k_shl, ↓k_or, ↓k_ilz, ↓k_addl, ↓k_rt, ↓k_rb, ↓k_rbz, ↓k_rsi, ↓k_rsr, ↓k_rsv, ↓reduceIte, ↓c3_spot, hp', ↓lw, eq_self, List.length_cons, List.length_nil, List.forall_mem_cons, List.not_mem_nil, Value.category, true_and, and_true, false_and, and_false, or_true, true_or, or_false, false_or, Nat.zero_le, forall_const, implies_true, false_implies, Nat.zero_add, Nat.reduceAdd, Nat.reduceLT, Nat.reduceLeDiff, Nat.le_refl, not_true_eq_false, not_false_eq_true, r_eq, r_ne, r_lt, r_ge, r_gt, r_le, bz_ne, nn_toNat, cn_of, cn_0, cn_1, i10, Int.reduceLE, Int.reduceLT, Int.reduceEq, bz_T, bz_F, ite_self, mulc, st_bud]
  · subst q
    simp (disch := omega) only [↓fX3_settleSort.eq_1, ↓uX3_settleSort, ↓(k_cs3 dX3_spot), ↓k_mk, ↓k_sq, ↓k_sk, ↓k_bk, ↓k_if, ↓k_te, ↓k_cm, ↓k_cz, ↓k_an2, ↓k_or2, ↓k_no, ↓k_ci, ↓k_l0, ↓k_r0, ↓k_se0, ↓k_ic0, ↓k_l1, ↓k_r1, ↓k_se1, ↓k_ic1, ↓k_de1, ↓k_tk1, ↓k_l2, ↓k_r2, ↓k_se2, ↓k_ic2, ↓k_de2, ↓k_tk2, ↓k_l3, ↓k_r3, ↓k_se3, ↓k_ic3, ↓k_de3, ↓k_tk3, ↓k_l4, ↓k_r4, ↓k_se4, ↓k_ic4, ↓k_de4, ↓k_tk4, ↓k_l5, ↓k_r5, ↓k_se5, ↓k_ic5, ↓k_de5, ↓k_tk5, ↓k_l6, ↓k_r6, ↓k_se6, ↓k_ic6, ↓k_de6, ↓k_tk6, ↓k_l7, ↓k_r7, ↓k_se7, ↓k_ic7, ↓k_de7, ↓k_tk7, ↓k_l8, ↓k_r8, ↓k_se8, ↓k_ic8, ↓k_de8, ↓k_tk8, ↓k_l9, ↓k_r9, ↓k_se9, ↓k_ic9, ↓k_de9, ↓k_tk9, ↓k_l10, ↓k_r10, ↓k_se10, ↓k_ic10, ↓k_de10, ↓k_tk10, ↓k_l11, ↓k_r11, ↓k_se11, ↓k_ic11, ↓k_de11, ↓k_tk11, ↓k_l12, ↓k_r12, ↓k_se12, ↓k_ic12, ↓k_de12, ↓k_tk12, ↓k_l13, ↓k_r13, ↓k_se13, ↓k_ic13, ↓k_de13, ↓k_tk13, ↓k_l14, ↓k_r14, ↓k_se14, ↓k_ic14, ↓k_de14, ↓k_tk14, ↓k_l15, ↓k_r15, ↓k_se15, ↓k_ic15, ↓k_de15, ↓k_tk15, ↓k_l16, ↓k_r16, ↓k_se16, ↓k_ic16, ↓k_de16, ↓k_tk16, ↓k_l17, ↓k_r17, ↓k_se17, ↓k_ic17, ↓k_de17, ↓k_tk17, ↓k_l18, ↓k_r18, ↓k_se18, ↓k_ic18, ↓k_de18, ↓k_tk18, ↓k_l19, ↓k_r19, ↓k_se19, ↓k_ic19, ↓k_de19, ↓k_tk19, ↓k_l20, ↓k_r20, ↓k_se20, ↓k_ic20, ↓k_de20, ↓k_tk20, ↓k_l21, ↓k_r21, ↓k_se21, ↓k_ic21, ↓k_de21, ↓k_tk21, ↓k_l22, ↓k_r22, ↓k_se22, ↓k_ic22, ↓k_de22, ↓k_tk22, ↓k_l23, ↓k_r23, ↓k_se23, ↓k_ic23, ↓k_de23, ↓k_tk23, ↓k_l24, ↓k_r24, ↓k_se24, ↓k_ic24, ↓k_de24, ↓k_tk24, ↓k_l25, ↓k_r25, ↓k_se25, ↓k_ic25, ↓k_de25, ↓k_tk25, ↓k_k, ↓k_kn, ↓k_kl, ↓k_kln, ↓k_il, ↓k_2, ↓k_1, ↓k_2c, ↓k_2l, ↓k_ac, ↓k_an, ↓k_cs, ↓k_cv, ↓k_fi, ↓k_fr, ↓k_ai, ↓k_az, ↓k_ar, ↓k_sai, ↓k_saz, ↓k_soa, ↓k_sof, ↓k_spf, ↓k_sx, ↓k_blk, ↓k_sset, ↓k_sdec, ↓k_sri, ↓k_srv, ↓k_srr, ↓k_nop, ↓k_add, ↓k_sub, ↓k_mul, ↓k_min, ↓k_max, ↓k_shr, ↓k_shl, ↓k_or, ↓k_ilz, ↓k_addl, ↓k_rt, ↓k_rb, ↓k_rbz, ↓k_rsi, ↓k_rsr, ↓k_rsv, ↓reduceIte, ↓c3_spot, hp', ↓lw, eq_self, List.length_cons, List.length_nil, List.forall_mem_cons, List.not_mem_nil, Value.category, true_and, and_true, false_and, and_false, or_true, true_or, or_false, false_or, Nat.zero_le, forall_const, implies_true, false_implies, Nat.zero_add, Nat.reduceAdd, Nat.reduceLT, Nat.reduceLeDiff, Nat.le_refl, not_true_eq_false, not_false_eq_true, r_eq, r_ne, r_lt, r_ge, r_gt, r_le, bz_ne, nn_toNat, cn_of, cn_0, cn_1, i10, Int.reduceLE, Int.reduceLT, Int.reduceEq, bz_T, bz_F, ite_self, mulc, st_bud]
end
