section
/-! the reference looks whether a carried row stands: one node -/
/-- what is known of a row that is whole -/
def RWO (G : Nat → Int → Int) (B : Nat) (c : Int → Int) (n : Nat) : Prop := IFm G B ∧ Pre (G (tvA B 1 + 5)) c n ∧ dd (G (tvA B 1 + 5)) c n = 0 ∧ n ≤ 201 ∧ BS (G (tvA B 1 + 5)) c G B 92 1 n ∧ (1 ≤ nb c n ∧ nb c n ≤ 40) ∧ ∀ q : Nat, q < n → 20 ≤ c q ∧ c q ≤ 1013 ∧ (1000 ≤ c q → c q - 1000 < G (tvA B 1) 1)
/-- a node of the row and the piece in a slot of it -/
theorem rw_kid {G : Nat → Int → Int} {B : Nat} {c : Int → Int} {n : Nat} (rw' : RWO G B c n) {p : Int} (p0 : 0 ≤ p) (p1 : p < n) (l : 1000 ≤ c p) {i : Nat} (hi : (i : Int) < G (tvA B 1 + 5) (c p - 1000)) :
    ∃ q : Nat, 0 < q ∧ q < n ∧ uU (G (tvA B 1 + 5)) c q = p ∧ (tgI (G (tvA B 1 + 5)) (G (tvA B 1 + 6)) c q)[0]? = some (G (tvA B 1 + 6) (5 * (c p - 1000) + i)) ∧ G (B + 544 + 21) (5 * (40 * 92 + nb c p.toNat) + i) = (if 1000 ≤ c q then 1000 + nb c q else c q) ∧ (1000 ≤ c q → G (B + 544 + 19) (40 * 92 + nb c q) = c q - 1000 ∧ nb c q < 40) ∧ (q : Int) = chI (eE (G (tvA B 1 + 5)) c) p i := by
  obtain ⟨hF, pr, d0, n201, bs, N40, hcd⟩ := rw'
  have wd := Wd_of pr d0 n201
  obtain ⟨a1, a2, a3⟩ := ch_par wd p0 p1 l hi
  obtain ⟨b1, _, _⟩ := ch_f wd p0 p1 l i (by omega)
  obtain ⟨q, hq⟩ : ∃ q : Nat, (q : Int) = chI (eE (G (tvA B 1 + 5)) c) p i := ⟨(chI (eE (G (tvA B 1 + 5)) c) p i).toNat, by omega⟩
  rw [← hq] at a1 a2 a3 b1
  obtain ⟨t, ht, _⟩ := tg_some (Pre_le pr (show q ≤ n by omega)) (pr.1 q (by omega))
  have th := tg_head wd (p := q) (by omega) a1 (t := t) (by rw [Int.toNat_natCast]; exact ht)
  rw [a2, a3] at th
  have nbp := nb_b c p.toNat
  refine ⟨q, by omega, by omega, a2, ?_, ?_, fun lq => ?_, hq⟩
  · rcases tgI_get (I := G (tvA B 1 + 6)) q 0 t ht with ⟨z, _⟩ | ⟨u, u1, u2, u3, u4⟩
    · rw [th] at z
      injection z with z1 z2
      omega
    · rw [th] at u3 u4
      have u3 : nb c p.toNat = nb c u := u3
      have eu : (u : Int) = p := by
        by_cases z : (u : Int) < p
        · have := nb_lt c (show u < p.toNat by omega) u2
          omega
        · by_cases z2 : p < u
          · have := nb_lt c (show p.toNat < u by omega) (by rw [Int.toNat_of_nonneg p0]; exact l)
            omega
          · omega
      rw [eu] at u4
      exact u4
  · obtain ⟨w1, w2⟩ := bs.2.2 q (by omega) t ht
    rw [th] at w1 w2
    by_cases lq : 1000 ≤ c q
    · rw [if_pos lq]
      exact (w1 lq).2.2 nbp.1
    · rw [if_neg lq]
      exact (w2 lq).2 nbp.1
  · have := nb_lt c (show q < n by omega) lq
    exact ⟨((bs.2.2 q (by omega) t ht).1 lq).1, by omega⟩
theorem st_in {T : Nat → Option q_T} {nx B : Nat} {R : Nat → Nat → Option Value} {G : Nat → Int → Int} {c : Int → Int} {n : Nat} (hM : Ly T R (B + 544) (L12 (B + 544))) (rwo : RWO G B c n) {p : Int} (p0 : 0 ≤ p) (p1 : p < n) (l : 1000 ≤ c p) (ib : ∀ f i, 0 ≤ f → f < G (tvA B 1) 1 → 0 ≤ i → i < G (tvA B 1 + 5) f → 0 ≤ G (tvA B 1 + 6) (5 * f + i) ∧ G (tvA B 1 + 6) (5 * f + i) ≤ 65) {v : Int} {A : Prop} (hv : (v = 1 ∧ A) ∨ (v = 0 ∧ ¬ A)) :
    ∃ v' : Int, ((v' = 1 ∧ A ∧ ∀ q : Nat, 0 < q → q < n → uU (G (tvA B 1 + 5)) c q = p → SQ (G (tvA B 1 + 5)) (G (tvA B 1 + 2)) (G (tvA B 1 + 6)) c q) ∨ (v' = 0 ∧ ¬ (A ∧ ∀ q : Nat, 0 < q → q < n → uU (G (tvA B 1 + 5)) c q = p → SQ (G (tvA B 1 + 5)) (G (tvA B 1 + 2)) (G (tvA B 1 + 6)) c q))) ∧ ∀ (Kn : List Value → q_M → Prop) (Kr : Option Value → q_M → Prop), wX12_stands_1 [.ref (B + 544), .int (zI 92), .int (zI v), .int (zI (nb c p.toNat)), .int (zI (14 * 1 + (c p - 1000))), .int (zI 0)] (st T nx 0 0 R G) Kn Kr = Kn [.ref (B + 544), .int (zI 92), .int (zI v'), .int (zI (nb c p.toNat)), .int (zI (14 * 1 + (c p - 1000))), .int (zI (G (tvA B 1 + 5) (c p - 1000)))] (st T nx 0 0 R G) := by
  have rwo' := rwo
  obtain ⟨hF, pr, d0, n201, bs, N40, hcd⟩ := rwo'
  have hcp := hcd p.toNat (by omega)
  rw [Int.toNat_of_nonneg p0] at hcp
  have nN := IFm_ns hF (show (0 : Int) ≤ 1 ∧ (1 : Int) ≤ 1 by omega) (show 0 ≤ c p - 1000 by omega) (hcp.2.2 l)
  have wd := Wd_of pr d0 n201
  obtain ⟨m, hm⟩ : ∃ m, m = nb c p.toNat := ⟨_, rfl⟩
  have mb : 0 ≤ m ∧ m < 40 := by
    have := nb_b c p.toNat
    have := nb_lt c (show p.toNat < n by omega) (by rw [Int.toNat_of_nonneg p0]; exact l)
    omega
  obtain ⟨f, hf⟩ : ∃ f, f = c p - 1000 := ⟨_, rfl⟩
  obtain ⟨N, hN⟩ : ∃ N, N = G (tvA B 1 + 5) (c p - 1000) := ⟨_, rfl⟩
  have fb : 0 ≤ f ∧ f < 14 := by omega
  have f1 : f < G (tvA B 1) 1 := by rw [hf]; exact hcp.2.2 l
  have frF := (hF 1 (by omega) (by omega)).2.2.2 f fb.1 f1
  obtain ⟨F, hFF⟩ : ∃ F, F = 14 * 1 + f := ⟨_, rfl⟩
  have cS : ∀ K : Option Value → q_M → Prop, fX12_slotsOf [.ref (B + 544), .int (zI F)] (st T nx 0 0 R G) K = K (some (.int (zI N))) (st T nx 0 0 R G) := fun K => by
    have := c12_slotsFX (T := T) (nx := nx) (rc := 0) (rs := 0) (R := R) (G := G) (G1 := G) (v := 1) (f := f) (K := K) hM frF rfl rfl (by omega) (by omega) fb.1 fb.2
    rw [hFF, hN, ← hf]
    exact this
  rw [← hf, ← hFF, ← hm]
  rw [← hN] at nN
  have hN' : G (tvA B 1 + 5) f = N := by rw [hf, hN]
  rw [hN']
  have Fb : 14 ≤ F ∧ F < 28 := by omega
  have one : ¬ (1 : Int) = 0 := by omega
  have key : ∀ k : Nat, (k : Int) ≤ N → ∃ v' : Int, ((v' = 1 ∧ A ∧ ∀ i : Nat, i < k → ∀ q : Nat, (q : Int) = chI (eE (G (tvA B 1 + 5)) c) p i → SQ (G (tvA B 1 + 5)) (G (tvA B 1 + 2)) (G (tvA B 1 + 6)) c q) ∨ (v' = 0 ∧ ¬ (A ∧ ∀ i : Nat, i < k → ∀ q : Nat, (q : Int) = chI (eE (G (tvA B 1 + 5)) c) p i → SQ (G (tvA B 1 + 5)) (G (tvA B 1 + 2)) (G (tvA B 1 + 6)) c q))) ∧ ∀ (Kn : List Value → q_M → Prop) (Kr : Option Value → q_M → Prop), q_wh wcX12_stands_1 wsX12_stands_1 [.ref (B + 544), .int (zI 92), .int (zI v'), .int (zI m), .int (zI F), .int (zI k)] (st T nx 0 0 R G) Kn Kr → q_wh wcX12_stands_1 wsX12_stands_1 [.ref (B + 544), .int (zI 92), .int (zI v), .int (zI m), .int (zI F), .int (zI 0)] (st T nx 0 0 R G) Kn Kr := by
    intro k
    induction k with
    | zero =>
      intro _
      refine ⟨v, hv.imp (fun z => ⟨z.1, z.2, fun i hi => absurd hi (by omega)⟩) (fun z => ⟨z.1, fun y => z.2 y.1⟩), fun Kn Kr z => z⟩
    | succ k ih =>
      intro hk
      obtain ⟨w, hw, st1⟩ := ih (by omega)
      obtain ⟨q, q0, q1, q2, q3, q4, q5, eq⟩ := rw_kid rwo p0 p1 l (i := k) (by rw [← hN]; omega)
      rw [← hm] at q4
      rw [← hf] at q3
      have hcq := hcd q q1
      obtain ⟨it, hit⟩ : ∃ it, it = G (tvA B 1 + 6) (5 * f + k) := ⟨_, rfl⟩
      rw [← hit] at q3
      have hz : (k : Int) < N := by omega
      have kb : (k : Int) < 5 := by omega
      have c1 := fun K : Option Value → q_M → Prop => c12_slotAt (T := T) (nx := nx) (rc := 0) (rs := 0) (R := R) (G := G) (v1 := 92) (v2 := m) (v3 := k) (K := K) hM (by omega) (by omega)
      have more : ∀ w' : Int, ((w' = 1 ∧ w = 1 ∧ SQ (G (tvA B 1 + 5)) (G (tvA B 1 + 2)) (G (tvA B 1 + 6)) c q) ∨ (w' = 0 ∧ ¬ (w = 1 ∧ SQ (G (tvA B 1 + 5)) (G (tvA B 1 + 2)) (G (tvA B 1 + 6)) c q))) → (w' = 1 ∧ A ∧ ∀ i : Nat, i < k + 1 → ∀ q : Nat, (q : Int) = chI (eE (G (tvA B 1 + 5)) c) p i → SQ (G (tvA B 1 + 5)) (G (tvA B 1 + 2)) (G (tvA B 1 + 6)) c q) ∨ (w' = 0 ∧ ¬ (A ∧ ∀ i : Nat, i < k + 1 → ∀ q : Nat, (q : Int) = chI (eE (G (tvA B 1 + 5)) c) p i → SQ (G (tvA B 1 + 5)) (G (tvA B 1 + 2)) (G (tvA B 1 + 6)) c q)) := fun w' hw' => by
        rcases hw' with ⟨z1, z2, z3⟩ | ⟨z1, z2⟩
        · refine Or.inl ⟨z1, ?_, fun i hi q' hq' => ?_⟩
          · rcases hw with y | y
            · exact y.2.1
            · omega
          · by_cases e : i = k
            · subst e
              have : q' = q := by omega
              rw [this]
              exact z3
            · rcases hw with y | y
              · exact y.2.2 i (by omega) q' hq'
              · omega
        · refine Or.inr ⟨z1, fun y => z2 ⟨?_, y.2 k (by omega) q eq⟩⟩
          rcases hw with u | u
          · exact u.1
          · exact absurd ⟨y.1, fun i hi q' hq' => y.2 i (by omega) q' hq'⟩ u.2
      have wb : w = 0 ∨ w = 1 := by omega
      by_cases lq : 1000 ≤ c q
      · rw [if_pos lq] at q4
        obtain ⟨r1, r2⟩ := q5 lq
        have nbq := nb_b c q
        obtain ⟨r, hr⟩ : ∃ r, r = nb c q := ⟨_, rfl⟩
        rw [← hr] at q4 r1 r2 nbq
        have c1' : ∀ K : Option Value → q_M → Prop, fX12_slotAt [.ref (B + 544), .int (zI 92), .int (zI m), .int (zI k)] (st T nx 0 0 R G) K = K (some (.int (zI (1000 + r)))) (st T nx 0 0 R G) := fun K => by rw [c1, q4]
        obtain ⟨f2, hf2⟩ : ∃ f2, f2 = c q - 1000 := ⟨_, rfl⟩
        rw [← hf2] at r1
        have f2b : 0 ≤ f2 ∧ f2 < 14 := by omega
        have frQ := (hF 1 (by omega) (by omega)).2.2.2 f2 f2b.1 (by
          have : f2 < G (tvA B 1) 1 := by rw [hf2]; exact hcq.2.2 lq
          exact this)
        obtain ⟨so, hso⟩ : ∃ so, so = G (tvA B 1 + 2) f2 := ⟨_, rfl⟩
        have es : G (B + 544 + 3) (14 * 1 + f2) = so := by rw [hso]; exact frQ.1.1
        have sob := frQ.1.2
        have sob' : 0 ≤ so ∧ so ≤ 5 := by rw [hso]; exact sob
        have cF := fun K : Option Value → q_M → Prop => c12_formAtV (T := T) (nx := nx) (rc := 0) (rs := 0) (R := R) (G := G) (i := 92) (n := 1000 + r - 1000) (v := 1) (f := f2) (K := K) hM (by omega) (by omega) (by omega) (by omega) bs.1 (by rw [show 1000 + r - 1000 = r by omega]; exact r1)
        have cI : ∀ K : Option Value → q_M → Prop, fX12_slotItem [.ref (B + 544), .int (zI F), .int (zI k)] (st T nx 0 0 R G) K = K (some (.int (zI it))) (st T nx 0 0 R G) := fun K => by
          have := c12_slotItemFX (T := T) (nx := nx) (rc := 0) (rs := 0) (R := R) (G := G) (G1 := G) (v := 1) (f := f) (s := k) (K := K) hM frF rfl rfl (by omega) (by omega) fb.1 fb.2 (by omega) (by
            have : (k : Int) < G (tvA B 1 + 5) f := by rw [hN']; exact hz
            exact this)
          rw [hFF, hit]
          exact this
        obtain ⟨F2, hF2⟩ : ∃ F2, F2 = 14 * 1 + f2 := ⟨_, rfl⟩
        rw [← hF2] at cF es
        have F2b : 14 ≤ F2 ∧ F2 < 28 := by omega
        have sq : SQ (G (tvA B 1 + 5)) (G (tvA B 1 + 2)) (G (tvA B 1 + 6)) c q ↔ so = it - 60 := by
          unfold SQ
          rw [← hf2, ← hso]
          exact ⟨fun z => z lq it q3, fun z _ it' hi => by
            rw [q3] at hi
            injection hi with hi
            rw [← hi]
            exact z⟩
        have itb : 0 ≤ it ∧ it ≤ 65 := by
          rw [hit]
          exact ib f k fb.1 f1 (by omega) (by rw [hN']; exact hz)
        have g2 : ¬ 1000 + r < 1000 := by omega
        by_cases sm : so = it - 60
        · refine ⟨w, more w (by
            rcases wb with z | z
            · exact Or.inr ⟨z, fun y => by omega⟩
            · exact Or.inl ⟨z, z, sq.mpr sm⟩), fun Kn Kr hh => st1 Kn Kr (q_backR (fun K Kf hk2 => ?_) hh)⟩
          rw [show ((k + 1 : Nat) : Int) = (k : Int) + 1 by omega] at hk2
          clear more hw hv wd bs pr hF hcd rwo q3 sq ih st1 frF frQ hcq hcp
          rcases wb with z | z
          · subst z
            obtain ⟨X, hX⟩ : ∃ X, X = 1000 + r := ⟨_, rfl⟩
            rw [← hX] at c1'
            clear hX g2 cF cI es sm q4 r1
            simp (disch := omega) only [↓wcX12_stands_1.eq_1, ↓wsX12_stands_1.eq_1, ↓(k_cv1 dX12_slotsOf (t12 hM)), ↓(k_cv2 dX12_formAt (t12 hM)), ↓(k_cv2 dX12_slotItem (t12 hM)), ↓(k_cv3 dX12_slotAt (t12 hM)), ↓k_mk, ↓k_sq, ↓k_sk, ↓k_bk, ↓k_if, ↓k_te, ↓k_cm, ↓k_cz, ↓k_an2, ↓k_or2, ↓k_no, ↓k_ci, ↓k_l0, ↓k_r0, ↓k_se0, ↓k_ic0, ↓k_l1, ↓k_r1, ↓k_se1, ↓k_ic1, ↓k_de1, ↓k_tk1, ↓k_l2, ↓k_r2, ↓k_se2, ↓k_ic2, ↓k_de2, ↓k_tk2, ↓k_l3, ↓k_r3, ↓k_se3, ↓k_ic3, ↓k_de3, ↓k_tk3, ↓k_l4, ↓k_r4, ↓k_se4, ↓k_ic4, ↓k_de4, ↓k_tk4, ↓k_l5, ↓k_r5, ↓k_se5, ↓k_ic5, ↓k_de5, ↓k_tk5, ↓k_l6, ↓k_r6, ↓k_se6, ↓k_ic6, ↓k_de6, ↓k_tk6, ↓k_l7, ↓k_r7, ↓k_se7, ↓k_ic7, ↓k_de7, ↓k_tk7, ↓k_l8, ↓k_r8, ↓k_se8, ↓k_ic8, ↓k_de8, ↓k_tk8, ↓k_l9, ↓k_r9, ↓k_se9, ↓k_ic9, ↓k_de9, ↓k_tk9, ↓k_l10, ↓k_r10, ↓k_se10, ↓k_ic10, ↓k_de10, ↓k_tk10, ↓k_l11, ↓k_r11, ↓k_se11, ↓k_ic11, ↓k_de11, ↓k_tk11, ↓k_l12, ↓k_r12, ↓k_se12, ↓k_ic12, ↓k_de12, ↓k_tk12, ↓k_l13, ↓k_r13, ↓k_se13, ↓k_ic13, ↓k_de13, ↓k_tk13, ↓k_l14, ↓k_r14, ↓k_se14, ↓k_ic14, ↓k_de14, ↓k_tk14, ↓k_l15, ↓k_r15, ↓k_se15, ↓k_ic15, ↓k_de15, ↓k_tk15, ↓k_l16, ↓k_r16, ↓k_se16, ↓k_ic16, ↓k_de16, ↓k_tk16, ↓k_l17, ↓k_r17, ↓k_se17, ↓k_ic17, ↓k_de17, ↓k_tk17, ↓k_l18, ↓k_r18, ↓k_se18, ↓k_ic18, ↓k_de18, ↓k_tk18, ↓k_l19, ↓k_r19, ↓k_se19, ↓k_ic19, ↓k_de19, ↓k_tk19, ↓k_l20, ↓k_r20, ↓k_se20, ↓k_ic20, ↓k_de20, ↓k_tk20, ↓k_l21, ↓k_r21, ↓k_se21, ↓k_ic21, ↓k_de21, ↓k_tk21, ↓k_l22, ↓k_r22, ↓k_se22, ↓k_ic22, ↓k_de22, ↓k_tk22, ↓k_l23, ↓k_r23, ↓k_se23, ↓k_ic23, ↓k_de23, ↓k_tk23, ↓k_l24, ↓k_r24, ↓k_se24, ↓k_ic24, ↓k_de24, ↓k_tk24, ↓k_l25, ↓k_r25, ↓k_se25, ↓k_ic25, ↓k_de25, ↓k_tk25, ↓k_k, ↓k_kn, ↓k_kl, ↓k_kln, ↓k_il, ↓k_2, ↓k_1, ↓k_2c, ↓k_2l, ↓k_ac, ↓k_an, ↓k_cs, ↓k_cv, ↓k_fi, ↓k_fr, ↓k_ai, ↓k_az, ↓k_ar, ↓k_sai, ↓k_saz, ↓k_soa, ↓k_sof, ↓k_spf, ↓k_sx, ↓k_blk, ↓k_sset, ↓k_sdec, ↓k_sri, ↓k_srv, ↓k_srr, ↓k_nop, ↓k_add, ↓k_sub, ↓k_mul, ↓k_min, ↓k_max, ↓k_shr, ↓k_shl, ↓k_or, ↓k_ilz, ↓k_addl, ↓k_rt, ↓k_rb, ↓k_rbz, ↓k_rsi, ↓k_rsr, ↓k_rsv, ↓reduceIte, ↓(k_cv1 dX12_slotsOf (t12 hM)), ↓cS, hz, ↓(k_cv3 dX12_slotAt (t12 hM)), ↓c1', eq_self, ↓xr12_2 hM, ↓xa12_2 hM, ↓xs12_2 hM, ↓xo12_2 hM, ↓xc12_2 hM, ↓xd12_2 hM, List.length_cons, List.length_nil, List.forall_mem_cons, List.not_mem_nil, Value.category, true_and, and_true, false_and, and_false, or_true, true_or, or_false, false_or, Nat.zero_le, forall_const, implies_true, false_implies, Nat.zero_add, Nat.reduceAdd, Nat.reduceLT, Nat.reduceLeDiff, Nat.le_refl, not_true_eq_false, not_false_eq_true, r_eq, r_ne, r_lt, r_ge, r_gt, r_le, bz_ne, nn_toNat, cn_of, cn_0, cn_1, i10, Int.reduceLE, Int.reduceLT, Int.reduceEq, bz_T, bz_F, ite_self, mulc, st_bud]
            exact hk2
          · subst z
            simp (disch := omega) only [↓wcX12_stands_1.eq_1, ↓wsX12_stands_1.eq_1, ↓(k_cv1 dX12_slotsOf (t12 hM)), ↓(k_cv2 dX12_formAt (t12 hM)), ↓(k_cv2 dX12_slotItem (t12 hM)), ↓(k_cv3 dX12_slotAt (t12 hM)), ↓k_mk, ↓k_sq, ↓k_sk, ↓k_bk, ↓k_if, ↓k_te, ↓k_cm, ↓k_cz, ↓k_an2, ↓k_or2, ↓k_no, ↓k_ci, ↓k_l0, ↓k_r0, ↓k_se0, ↓k_ic0, ↓k_l1, ↓k_r1, ↓k_se1, ↓k_ic1, ↓k_de1, ↓k_tk1, ↓k_l2, ↓k_r2, ↓k_se2, ↓k_ic2, ↓k_de2, ↓k_tk2, ↓k_l3, ↓k_r3, ↓k_se3, ↓k_ic3, ↓k_de3, ↓k_tk3, ↓k_l4, ↓k_r4, ↓k_se4, ↓k_ic4, ↓k_de4, ↓k_tk4, ↓k_l5, ↓k_r5, ↓k_se5, ↓k_ic5, ↓k_de5, ↓k_tk5, ↓k_l6, ↓k_r6, ↓k_se6, ↓k_ic6, ↓k_de6, ↓k_tk6, ↓k_l7, ↓k_r7, ↓k_se7, ↓k_ic7, ↓k_de7, ↓k_tk7, ↓k_l8, ↓k_r8, ↓k_se8, ↓k_ic8, ↓k_de8, ↓k_tk8, ↓k_l9, ↓k_r9, ↓k_se9, ↓k_ic9, ↓k_de9, ↓k_tk9, ↓k_l10, ↓k_r10, ↓k_se10, ↓k_ic10, ↓k_de10, ↓k_tk10, ↓k_l11, ↓k_r11, ↓k_se11, ↓k_ic11, ↓k_de11, ↓k_tk11, ↓k_l12, ↓k_r12, ↓k_se12, ↓k_ic12, ↓k_de12, ↓k_tk12, ↓k_l13, ↓k_r13, ↓k_se13, ↓k_ic13, ↓k_de13, ↓k_tk13, ↓k_l14, ↓k_r14, ↓k_se14, ↓k_ic14, ↓k_de14, ↓k_tk14, ↓k_l15, ↓k_r15, ↓k_se15, ↓k_ic15, ↓k_de15, ↓k_tk15, ↓k_l16, ↓k_r16, ↓k_se16, ↓k_ic16, ↓k_de16, ↓k_tk16, ↓k_l17, ↓k_r17, ↓k_se17, ↓k_ic17, ↓k_de17, ↓k_tk17, ↓k_l18, ↓k_r18, ↓k_se18, ↓k_ic18, ↓k_de18, ↓k_tk18, ↓k_l19, ↓k_r19, ↓k_se19, ↓k_ic19, ↓k_de19, ↓k_tk19, ↓k_l20, ↓k_r20, ↓k_se20, ↓k_ic20, ↓k_de20, ↓k_tk20, ↓k_l21, ↓k_r21, ↓k_se21, ↓k_ic21, ↓k_de21, ↓k_tk21, ↓k_l22, ↓k_r22, ↓k_se22, ↓k_ic22, ↓k_de22, ↓k_tk22, ↓k_l23, ↓k_r23, ↓k_se23, ↓k_ic23, ↓k_de23, ↓k_tk23, ↓k_l24, ↓k_r24, ↓k_se24, ↓k_ic24, ↓k_de24, ↓k_tk24, ↓k_l25, ↓k_r25, ↓k_se25, ↓k_ic25, ↓k_de25, ↓k_tk25, ↓k_k, ↓k_kn, ↓k_kl, ↓k_kln, ↓k_il, ↓k_2, ↓k_1, ↓k_2c, ↓k_2l, ↓k_ac, ↓k_an, ↓k_cs, ↓k_cv, ↓k_fi, ↓k_fr, ↓k_ai, ↓k_az, ↓k_ar, ↓k_sai, ↓k_saz, ↓k_soa, ↓k_sof, ↓k_spf, ↓k_sx, ↓k_blk, ↓k_sset, ↓k_sdec, ↓k_sri, ↓k_srv, ↓k_srr, ↓k_nop, ↓k_add, ↓k_sub, ↓k_mul, ↓k_min, ↓k_max, ↓k_shr, ↓k_shl, ↓k_or, ↓k_ilz, ↓k_addl, ↓k_rt, ↓k_rb, ↓k_rbz, ↓k_rsi, ↓k_rsr, ↓k_rsv, ↓reduceIte, ↓(k_cv1 dX12_slotsOf (t12 hM)), ↓cS, hz, ↓(k_cv3 dX12_slotAt (t12 hM)), ↓c1', one, g2, ↓(k_cv2 dX12_formAt (t12 hM)), ↓cF, es, ↓(k_cv2 dX12_slotItem (t12 hM)), ↓cI, sm, eq_self, ↓xr12_2 hM, ↓xa12_2 hM, ↓xs12_2 hM, ↓xo12_2 hM, ↓xc12_2 hM, ↓xd12_2 hM, List.length_cons, List.length_nil, List.forall_mem_cons, List.not_mem_nil, Value.category, true_and, and_true, false_and, and_false, or_true, true_or, or_false, false_or, Nat.zero_le, forall_const, implies_true, false_implies, Nat.zero_add, Nat.reduceAdd, Nat.reduceLT, Nat.reduceLeDiff, Nat.le_refl, not_true_eq_false, not_false_eq_true, r_eq, r_ne, r_lt, r_ge, r_gt, r_le, bz_ne, nn_toNat, cn_of, cn_0, cn_1, i10, Int.reduceLE, Int.reduceLT, Int.reduceEq, bz_T, bz_F, ite_self, mulc, st_bud]
            exact hk2
        · refine ⟨0, more 0 (Or.inr ⟨rfl, fun y => sm (sq.mp y.2)⟩), fun Kn Kr hh => st1 Kn Kr (q_backR (fun K Kf hk2 => ?_) hh)⟩
          rw [show ((k + 1 : Nat) : Int) = (k : Int) + 1 by omega] at hk2
          clear more hw hv wd bs pr hF hcd rwo q3 sq ih st1 frF frQ hcq hcp
          rcases wb with z | z
          · subst z
            obtain ⟨X, hX⟩ : ∃ X, X = 1000 + r := ⟨_, rfl⟩
            rw [← hX] at c1'
            clear hX g2 cF cI es sm q4 r1
            simp (disch := omega) only [↓wcX12_stands_1.eq_1, ↓wsX12_stands_1.eq_1, ↓(k_cv1 dX12_slotsOf (t12 hM)), ↓(k_cv2 dX12_formAt (t12 hM)), ↓(k_cv2 dX12_slotItem (t12 hM)), ↓(k_cv3 dX12_slotAt (t12 hM)), ↓k_mk, ↓k_sq, ↓k_sk, ↓k_bk, ↓k_if, ↓k_te, ↓k_cm, ↓k_cz, ↓k_an2, ↓k_or2, ↓k_no, ↓k_ci, ↓k_l0, ↓k_r0, ↓k_se0, ↓k_ic0, ↓k_l1, ↓k_r1, ↓k_se1, ↓k_ic1, ↓k_de1, ↓k_tk1, ↓k_l2, ↓k_r2, ↓k_se2, ↓k_ic2, ↓k_de2, ↓k_tk2, ↓k_l3, ↓k_r3, ↓k_se3, ↓k_ic3, ↓k_de3, ↓k_tk3, ↓k_l4, ↓k_r4, ↓k_se4, ↓k_ic4, ↓k_de4, ↓k_tk4, ↓k_l5, ↓k_r5, ↓k_se5, ↓k_ic5, ↓k_de5, ↓k_tk5, ↓k_l6, ↓k_r6, ↓k_se6, ↓k_ic6, ↓k_de6, ↓k_tk6, ↓k_l7, ↓k_r7, ↓k_se7, ↓k_ic7, ↓k_de7, ↓k_tk7, ↓k_l8, ↓k_r8, ↓k_se8, ↓k_ic8, ↓k_de8, ↓k_tk8, ↓k_l9, ↓k_r9, ↓k_se9, ↓k_ic9, ↓k_de9, ↓k_tk9, ↓k_l10, ↓k_r10, ↓k_se10, ↓k_ic10, ↓k_de10, ↓k_tk10, ↓k_l11, ↓k_r11, ↓k_se11, ↓k_ic11, ↓k_de11, ↓k_tk11, ↓k_l12, ↓k_r12, ↓k_se12, ↓k_ic12, ↓k_de12, ↓k_tk12, ↓k_l13, ↓k_r13, ↓k_se13, ↓k_ic13, ↓k_de13, ↓k_tk13, ↓k_l14, ↓k_r14, ↓k_se14, ↓k_ic14, ↓k_de14, ↓k_tk14, ↓k_l15, ↓k_r15, ↓k_se15, ↓k_ic15, ↓k_de15, ↓k_tk15, ↓k_l16, ↓k_r16, ↓k_se16, ↓k_ic16, ↓k_de16, ↓k_tk16, ↓k_l17, ↓k_r17, ↓k_se17, ↓k_ic17, ↓k_de17, ↓k_tk17, ↓k_l18, ↓k_r18, ↓k_se18, ↓k_ic18, ↓k_de18, ↓k_tk18, ↓k_l19, ↓k_r19, ↓k_se19, ↓k_ic19, ↓k_de19, ↓k_tk19, ↓k_l20, ↓k_r20, ↓k_se20, ↓k_ic20, ↓k_de20, ↓k_tk20, ↓k_l21, ↓k_r21, ↓k_se21, ↓k_ic21, ↓k_de21, ↓k_tk21, ↓k_l22, ↓k_r22, ↓k_se22, ↓k_ic22, ↓k_de22, ↓k_tk22, ↓k_l23, ↓k_r23, ↓k_se23, ↓k_ic23, ↓k_de23, ↓k_tk23, ↓k_l24, ↓k_r24, ↓k_se24, ↓k_ic24, ↓k_de24, ↓k_tk24, ↓k_l25, ↓k_r25, ↓k_se25, ↓k_ic25, ↓k_de25, ↓k_tk25, ↓k_k, ↓k_kn, ↓k_kl, ↓k_kln, ↓k_il, ↓k_2, ↓k_1, ↓k_2c, ↓k_2l, ↓k_ac, ↓k_an, ↓k_cs, ↓k_cv, ↓k_fi, ↓k_fr, ↓k_ai, ↓k_az, ↓k_ar, ↓k_sai, ↓k_saz, ↓k_soa, ↓k_sof, ↓k_spf, ↓k_sx, ↓k_blk, ↓k_sset, ↓k_sdec, ↓k_sri, ↓k_srv, ↓k_srr, ↓k_nop, ↓k_add, ↓k_sub, ↓k_mul, ↓k_min, ↓k_max, ↓k_shr, ↓k_shl, ↓k_or, ↓k_ilz, ↓k_addl, ↓k_rt, ↓k_rb, ↓k_rbz, ↓k_rsi, ↓k_rsr, ↓k_rsv, ↓reduceIte, ↓(k_cv1 dX12_slotsOf (t12 hM)), ↓cS, hz, ↓(k_cv3 dX12_slotAt (t12 hM)), ↓c1', eq_self, ↓xr12_2 hM, ↓xa12_2 hM, ↓xs12_2 hM, ↓xo12_2 hM, ↓xc12_2 hM, ↓xd12_2 hM, List.length_cons, List.length_nil, List.forall_mem_cons, List.not_mem_nil, Value.category, true_and, and_true, false_and, and_false, or_true, true_or, or_false, false_or, Nat.zero_le, forall_const, implies_true, false_implies, Nat.zero_add, Nat.reduceAdd, Nat.reduceLT, Nat.reduceLeDiff, Nat.le_refl, not_true_eq_false, not_false_eq_true, r_eq, r_ne, r_lt, r_ge, r_gt, r_le, bz_ne, nn_toNat, cn_of, cn_0, cn_1, i10, Int.reduceLE, Int.reduceLT, Int.reduceEq, bz_T, bz_F, ite_self, mulc, st_bud]
            exact hk2
          · subst z
            simp (disch := omega) only [↓wcX12_stands_1.eq_1, ↓wsX12_stands_1.eq_1, ↓(k_cv1 dX12_slotsOf (t12 hM)), ↓(k_cv2 dX12_formAt (t12 hM)), ↓(k_cv2 dX12_slotItem (t12 hM)), ↓(k_cv3 dX12_slotAt (t12 hM)), ↓k_mk, ↓k_sq, ↓k_sk, ↓k_bk, ↓k_if, ↓k_te, ↓k_cm, ↓k_cz, ↓k_an2, ↓k_or2, ↓k_no, ↓k_ci, ↓k_l0, ↓k_r0, ↓k_se0, ↓k_ic0, ↓k_l1, ↓k_r1, ↓k_se1, ↓k_ic1, ↓k_de1, ↓k_tk1, ↓k_l2, ↓k_r2, ↓k_se2, ↓k_ic2, ↓k_de2, ↓k_tk2, ↓k_l3, ↓k_r3, ↓k_se3, ↓k_ic3, ↓k_de3, ↓k_tk3, ↓k_l4, ↓k_r4, ↓k_se4, ↓k_ic4, ↓k_de4, ↓k_tk4, ↓k_l5, ↓k_r5, ↓k_se5, ↓k_ic5, ↓k_de5, ↓k_tk5, ↓k_l6, ↓k_r6, ↓k_se6, ↓k_ic6, ↓k_de6, ↓k_tk6, ↓k_l7, ↓k_r7, ↓k_se7, ↓k_ic7, ↓k_de7, ↓k_tk7, ↓k_l8, ↓k_r8, ↓k_se8, ↓k_ic8, ↓k_de8, ↓k_tk8, ↓k_l9, ↓k_r9, ↓k_se9, ↓k_ic9, ↓k_de9, ↓k_tk9, ↓k_l10, ↓k_r10, ↓k_se10, ↓k_ic10, ↓k_de10, ↓k_tk10, ↓k_l11, ↓k_r11, ↓k_se11, ↓k_ic11, ↓k_de11, ↓k_tk11, ↓k_l12, ↓k_r12, ↓k_se12, ↓k_ic12, ↓k_de12, ↓k_tk12, ↓k_l13, ↓k_r13, ↓k_se13, ↓k_ic13, ↓k_de13, ↓k_tk13, ↓k_l14, ↓k_r14, ↓k_se14, ↓k_ic14, ↓k_de14, ↓k_tk14, ↓k_l15, ↓k_r15, ↓k_se15, ↓k_ic15, ↓k_de15, ↓k_tk15, ↓k_l16, ↓k_r16, ↓k_se16, ↓k_ic16, ↓k_de16, ↓k_tk16, ↓k_l17, ↓k_r17, ↓k_se17, ↓k_ic17, ↓k_de17, ↓k_tk17, ↓k_l18, ↓k_r18, ↓k_se18, ↓k_ic18, ↓k_de18, ↓k_tk18, ↓k_l19, ↓k_r19, ↓k_se19, ↓k_ic19, ↓k_de19, ↓k_tk19, ↓k_l20, ↓k_r20, ↓k_se20, ↓k_ic20, ↓k_de20, ↓k_tk20, ↓k_l21, ↓k_r21, ↓k_se21, ↓k_ic21, ↓k_de21, ↓k_tk21, ↓k_l22, ↓k_r22, ↓k_se22, ↓k_ic22, ↓k_de22, ↓k_tk22, ↓k_l23, ↓k_r23, ↓k_se23, ↓k_ic23, ↓k_de23, ↓k_tk23, ↓k_l24, ↓k_r24, ↓k_se24, ↓k_ic24, ↓k_de24, ↓k_tk24, ↓k_l25, ↓k_r25, ↓k_se25, ↓k_ic25, ↓k_de25, ↓k_tk25, ↓k_k, ↓k_kn, ↓k_kl, ↓k_kln, ↓k_il, ↓k_2, ↓k_1, ↓k_2c, ↓k_2l, ↓k_ac, ↓k_an, ↓k_cs, ↓k_cv, ↓k_fi, ↓k_fr, ↓k_ai, ↓k_az, ↓k_ar, ↓k_sai, ↓k_saz, ↓k_soa, ↓k_sof, ↓k_spf, ↓k_sx, ↓k_blk, ↓k_sset, ↓k_sdec, ↓k_sri, ↓k_srv, ↓k_srr, ↓k_nop, ↓k_add, ↓k_sub, ↓k_mul, ↓k_min, ↓k_max, ↓k_shr, ↓k_shl, ↓k_or, ↓k_ilz, ↓k_addl, ↓k_rt, ↓k_rb, ↓k_rbz, ↓k_rsi, ↓k_rsr, ↓k_rsv, ↓reduceIte, ↓(k_cv1 dX12_slotsOf (t12 hM)), ↓cS, hz, ↓(k_cv3 dX12_slotAt (t12 hM)), ↓c1', one, g2, ↓(k_cv2 dX12_formAt (t12 hM)), ↓cF, es, ↓(k_cv2 dX12_slotItem (t12 hM)), ↓cI, sm, ↓xr12_2 hM, ↓xa12_2 hM, ↓xs12_2 hM, ↓xo12_2 hM, ↓xc12_2 hM, ↓xd12_2 hM, List.length_cons, List.length_nil, List.forall_mem_cons, List.not_mem_nil, Value.category, true_and, and_true, false_and, and_false, or_true, true_or, or_false, false_or, Nat.zero_le, forall_const, implies_true, false_implies, Nat.zero_add, Nat.reduceAdd, Nat.reduceLT, Nat.reduceLeDiff, Nat.le_refl, not_true_eq_false, not_false_eq_true, r_eq, r_ne, r_lt, r_ge, r_gt, r_le, bz_ne, nn_toNat, cn_of, cn_0, cn_1, i10, Int.reduceLE, Int.reduceLT, Int.reduceEq, bz_T, bz_F, ite_self, mulc, st_bud]
            exact hk2
      · rw [if_neg lq] at q4
        obtain ⟨x, hx⟩ : ∃ x, x = c q := ⟨_, rfl⟩
        rw [← hx] at q4 hcq lq
        have g2 : x < 1000 := by omega
        have c1' : ∀ K : Option Value → q_M → Prop, fX12_slotAt [.ref (B + 544), .int (zI 92), .int (zI m), .int (zI k)] (st T nx 0 0 R G) K = K (some (.int (zI x))) (st T nx 0 0 R G) := fun K => by rw [c1, q4]
        refine ⟨w, more w (by
          rcases wb with z | z
          · exact Or.inr ⟨z, fun y => by omega⟩
          · exact Or.inl ⟨z, z, fun l2 => absurd l2 (by rw [← hx]; exact lq)⟩), fun Kn Kr hh => st1 Kn Kr (q_backR (fun K Kf hk2 => ?_) hh)⟩
        rw [show ((k + 1 : Nat) : Int) = (k : Int) + 1 by omega] at hk2
        clear more hw hv wd bs pr hF hcd rwo q3 ih st1 frF hcp hx
        rcases wb with z | z
        · subst z
          simp (disch := omega) only [↓wcX12_stands_1.eq_1, ↓wsX12_stands_1.eq_1, ↓(k_cv1 dX12_slotsOf (t12 hM)), ↓(k_cv2 dX12_formAt (t12 hM)), ↓(k_cv2 dX12_slotItem (t12 hM)), ↓(k_cv3 dX12_slotAt (t12 hM)), ↓k_mk, ↓k_sq, ↓k_sk, ↓k_bk, ↓k_if, ↓k_te, ↓k_cm, ↓k_cz, ↓k_an2, ↓k_or2, ↓k_no, ↓k_ci, ↓k_l0, ↓k_r0, ↓k_se0, ↓k_ic0, ↓k_l1, ↓k_r1, ↓k_se1, ↓k_ic1, ↓k_de1, ↓k_tk1, ↓k_l2, ↓k_r2, ↓k_se2, ↓k_ic2, ↓k_de2, ↓k_tk2, ↓k_l3, ↓k_r3, ↓k_se3, ↓k_ic3, ↓k_de3, ↓k_tk3, ↓k_l4, ↓k_r4, ↓k_se4, ↓k_ic4, ↓k_de4, ↓k_tk4, ↓k_l5, ↓k_r5, ↓k_se5, ↓k_ic5, ↓k_de5, ↓k_tk5, ↓k_l6, ↓k_r6, ↓k_se6, ↓k_ic6, ↓k_de6, ↓k_tk6, ↓k_l7, ↓k_r7, ↓k_se7, ↓k_ic7, ↓k_de7, ↓k_tk7, ↓k_l8, ↓k_r8, ↓k_se8, ↓k_ic8, ↓k_de8, ↓k_tk8, ↓k_l9, ↓k_r9, ↓k_se9, ↓k_ic9, ↓k_de9, ↓k_tk9, ↓k_l10, ↓k_r10, ↓k_se10, ↓k_ic10, ↓k_de10, ↓k_tk10, ↓k_l11, ↓k_r11, ↓k_se11, ↓k_ic11, ↓k_de11, ↓k_tk11, ↓k_l12, ↓k_r12, ↓k_se12, ↓k_ic12, ↓k_de12, ↓k_tk12, ↓k_l13, ↓k_r13, ↓k_se13, ↓k_ic13, ↓k_de13, ↓k_tk13, ↓k_l14, ↓k_r14, ↓k_se14, ↓k_ic14, ↓k_de14, ↓k_tk14, ↓k_l15, ↓k_r15, ↓k_se15, ↓k_ic15, ↓k_de15, ↓k_tk15, ↓k_l16, ↓k_r16, ↓k_se16, ↓k_ic16, ↓k_de16, ↓k_tk16, ↓k_l17, ↓k_r17, ↓k_se17, ↓k_ic17, ↓k_de17, ↓k_tk17, ↓k_l18, ↓k_r18, ↓k_se18, ↓k_ic18, ↓k_de18, ↓k_tk18, ↓k_l19, ↓k_r19, ↓k_se19, ↓k_ic19, ↓k_de19, ↓k_tk19, ↓k_l20, ↓k_r20, ↓k_se20, ↓k_ic20, ↓k_de20, ↓k_tk20, ↓k_l21, ↓k_r21, ↓k_se21, ↓k_ic21, ↓k_de21, ↓k_tk21, ↓k_l22, ↓k_r22, ↓k_se22, ↓k_ic22, ↓k_de22, ↓k_tk22, ↓k_l23, ↓k_r23, ↓k_se23, ↓k_ic23, ↓k_de23, ↓k_tk23, ↓k_l24, ↓k_r24, ↓k_se24, ↓k_ic24, ↓k_de24, ↓k_tk24, ↓k_l25, ↓k_r25, ↓k_se25, ↓k_ic25, ↓k_de25, ↓k_tk25, ↓k_k, ↓k_kn, ↓k_kl, ↓k_kln, ↓k_il, ↓k_2, ↓k_1, ↓k_2c, ↓k_2l, ↓k_ac, ↓k_an, ↓k_cs, ↓k_cv, ↓k_fi, ↓k_fr, ↓k_ai, ↓k_az, ↓k_ar, ↓k_sai, ↓k_saz, ↓k_soa, ↓k_sof, ↓k_spf, ↓k_sx, ↓k_blk, ↓k_sset, ↓k_sdec, ↓k_sri, ↓k_srv, ↓k_srr, ↓k_nop, ↓k_add, ↓k_sub, ↓k_mul, ↓k_min, ↓k_max, ↓k_shr, ↓k_shl, ↓k_or, ↓k_ilz, ↓k_addl, ↓k_rt, ↓k_rb, ↓k_rbz, ↓k_rsi, ↓k_rsr, ↓k_rsv, ↓reduceIte, ↓(k_cv1 dX12_slotsOf (t12 hM)), ↓cS, hz, ↓(k_cv3 dX12_slotAt (t12 hM)), ↓c1', eq_self, ↓xr12_2 hM, ↓xa12_2 hM, ↓xs12_2 hM, ↓xo12_2 hM, ↓xc12_2 hM, ↓xd12_2 hM, List.length_cons, List.length_nil, List.forall_mem_cons, List.not_mem_nil, Value.category, true_and, and_true, false_and, and_false, or_true, true_or, or_false, false_or, Nat.zero_le, forall_const, implies_true, false_implies, Nat.zero_add, Nat.reduceAdd, Nat.reduceLT, Nat.reduceLeDiff, Nat.le_refl, not_true_eq_false, not_false_eq_true, r_eq, r_ne, r_lt, r_ge, r_gt, r_le, bz_ne, nn_toNat, cn_of, cn_0, cn_1, i10, Int.reduceLE, Int.reduceLT, Int.reduceEq, bz_T, bz_F, ite_self, mulc, st_bud]
          exact hk2
        · subst z
          simp (disch := omega) only [↓wcX12_stands_1.eq_1, ↓wsX12_stands_1.eq_1, ↓(k_cv1 dX12_slotsOf (t12 hM)), ↓(k_cv2 dX12_formAt (t12 hM)), ↓(k_cv2 dX12_slotItem (t12 hM)), ↓(k_cv3 dX12_slotAt (t12 hM)), ↓k_mk, ↓k_sq, ↓k_sk, ↓k_bk, ↓k_if, ↓k_te, ↓k_cm, ↓k_cz, ↓k_an2, ↓k_or2, ↓k_no, ↓k_ci, ↓k_l0, ↓k_r0, ↓k_se0, ↓k_ic0, ↓k_l1, ↓k_r1, ↓k_se1, ↓k_ic1, ↓k_de1, ↓k_tk1, ↓k_l2, ↓k_r2, ↓k_se2, ↓k_ic2, ↓k_de2, ↓k_tk2, ↓k_l3, ↓k_r3, ↓k_se3, ↓k_ic3, ↓k_de3, ↓k_tk3, ↓k_l4, ↓k_r4, ↓k_se4, ↓k_ic4, ↓k_de4, ↓k_tk4, ↓k_l5, ↓k_r5, ↓k_se5, ↓k_ic5, ↓k_de5, ↓k_tk5, ↓k_l6, ↓k_r6, ↓k_se6, ↓k_ic6, ↓k_de6, ↓k_tk6, ↓k_l7, ↓k_r7, ↓k_se7, ↓k_ic7, ↓k_de7, ↓k_tk7, ↓k_l8, ↓k_r8, ↓k_se8, ↓k_ic8, ↓k_de8, ↓k_tk8, ↓k_l9, ↓k_r9, ↓k_se9, ↓k_ic9, ↓k_de9, ↓k_tk9, ↓k_l10, ↓k_r10, ↓k_se10, ↓k_ic10, ↓k_de10, ↓k_tk10, ↓k_l11, ↓k_r11, ↓k_se11, ↓k_ic11, ↓k_de11, ↓k_tk11, ↓k_l12, ↓k_r12, ↓k_se12, ↓k_ic12, ↓k_de12, ↓k_tk12, ↓k_l13, ↓k_r13, ↓k_se13, ↓k_ic13, ↓k_de13, ↓k_tk13, ↓k_l14, ↓k_r14, ↓k_se14, ↓k_ic14, ↓k_de14, ↓k_tk14, ↓k_l15, ↓k_r15, ↓k_se15, ↓k_ic15, ↓k_de15, ↓k_tk15, ↓k_l16, ↓k_r16, ↓k_se16, ↓k_ic16, ↓k_de16, ↓k_tk16, ↓k_l17, ↓k_r17, ↓k_se17, ↓k_ic17, ↓k_de17, ↓k_tk17, ↓k_l18, ↓k_r18, ↓k_se18, ↓k_ic18, ↓k_de18, ↓k_tk18, ↓k_l19, ↓k_r19, ↓k_se19, ↓k_ic19, ↓k_de19, ↓k_tk19, ↓k_l20, ↓k_r20, ↓k_se20, ↓k_ic20, ↓k_de20, ↓k_tk20, ↓k_l21, ↓k_r21, ↓k_se21, ↓k_ic21, ↓k_de21, ↓k_tk21, ↓k_l22, ↓k_r22, ↓k_se22, ↓k_ic22, ↓k_de22, ↓k_tk22, ↓k_l23, ↓k_r23, ↓k_se23, ↓k_ic23, ↓k_de23, ↓k_tk23, ↓k_l24, ↓k_r24, ↓k_se24, ↓k_ic24, ↓k_de24, ↓k_tk24, ↓k_l25, ↓k_r25, ↓k_se25, ↓k_ic25, ↓k_de25, ↓k_tk25, ↓k_k, ↓k_kn, ↓k_kl, ↓k_kln, ↓k_il, ↓k_2, ↓k_1, ↓k_2c, ↓k_2l, ↓k_ac, ↓k_an, ↓k_cs, ↓k_cv, ↓k_fi, ↓k_fr, ↓k_ai, ↓k_az, ↓k_ar, ↓k_sai, ↓k_saz, ↓k_soa, ↓k_sof, ↓k_spf, ↓k_sx, ↓k_blk, ↓k_sset, ↓k_sdec, ↓k_sri, ↓k_srv, ↓k_srr, ↓k_nop, ↓k_add, ↓k_sub, ↓k_mul, ↓k_min, ↓k_max, ↓k_shr, ↓k_shl, ↓k_or, ↓k_ilz, ↓k_addl, ↓k_rt, ↓k_rb, ↓k_rbz, ↓k_rsi, ↓k_rsr, ↓k_rsv, ↓reduceIte, ↓(k_cv1 dX12_slotsOf (t12 hM)), ↓cS, hz, ↓(k_cv3 dX12_slotAt (t12 hM)), ↓c1', one, g2, eq_self, ↓xr12_2 hM, ↓xa12_2 hM, ↓xs12_2 hM, ↓xo12_2 hM, ↓xc12_2 hM, ↓xd12_2 hM, List.length_cons, List.length_nil, List.forall_mem_cons, List.not_mem_nil, Value.category, true_and, and_true, false_and, and_false, or_true, true_or, or_false, false_or, Nat.zero_le, forall_const, implies_true, false_implies, Nat.zero_add, Nat.reduceAdd, Nat.reduceLT, Nat.reduceLeDiff, Nat.le_refl, not_true_eq_false, not_false_eq_true, r_eq, r_ne, r_lt, r_ge, r_gt, r_le, bz_ne, nn_toNat, cn_of, cn_0, cn_1, i10, Int.reduceLE, Int.reduceLT, Int.reduceEq, bz_T, bz_F, ite_self, mulc, st_bud]
          exact hk2
  obtain ⟨w, hw, st1⟩ := key N.toNat (by omega)
  have conv : (∀ i : Nat, i < N.toNat → ∀ q : Nat, (q : Int) = chI (eE (G (tvA B 1 + 5)) c) p i → SQ (G (tvA B 1 + 5)) (G (tvA B 1 + 2)) (G (tvA B 1 + 6)) c q) ↔ ∀ q : Nat, 0 < q → q < n → uU (G (tvA B 1 + 5)) c q = p → SQ (G (tvA B 1 + 5)) (G (tvA B 1 + 2)) (G (tvA B 1 + 6)) c q := by
    constructor
    · intro a q q0 q1 q2
      obtain ⟨_, _, _, _, _, s0, s1, _⟩ := uU_f wd (p := q) (by omega) (by omega)
      have ci := ch_is wd (p := q) (by omega) (by omega)
      rw [q2] at ci s1
      rw [← hN] at s1
      exact a (sS (G (tvA B 1 + 5)) c q).toNat (by omega) q ci.symm
    · intro a i hi q hq
      obtain ⟨b1, b2, b3⟩ := ch_par wd p0 p1 l (i := i) (by rw [← hN]; omega)
      obtain ⟨d1, _, _⟩ := ch_f wd p0 p1 l i (by rw [← hN]; omega)
      rw [← hq] at b1 b2 d1
      exact a q (by omega) (by omega) b2
  rw [conv] at hw
  refine ⟨w, hw, eX12_stands_1.eqn (st1 _ _ (q_outR (fun Kt Kf hk => ?_) ⟨by rw [show ((N.toNat : Nat) : Int) = N by omega], rfl⟩))⟩
  rw [show ((N.toNat : Nat) : Int) = N by omega] at *
  have hz : ¬ N < N := by omega
  clear key st1 conv hw hv wd bs pr hF hcd rwo frF hcp ib
  simp (disch := omega) only [↓wcX12_stands_1.eq_1, ↓(k_cv1 dX12_slotsOf (t12 hM)), ↓k_mk, ↓k_sq, ↓k_sk, ↓k_bk, ↓k_if, ↓k_te, ↓k_cm, ↓k_cz, ↓k_an2, ↓k_or2, ↓k_no, ↓k_ci, ↓k_l0, ↓k_r0, ↓k_se0, ↓k_ic0, ↓k_l1, ↓k_r1, ↓k_se1, ↓k_ic1, ↓k_de1, ↓k_tk1, ↓k_l2, ↓k_r2, ↓k_se2, ↓k_ic2, ↓k_de2, ↓k_tk2, ↓k_l3, ↓k_r3, ↓k_se3, ↓k_ic3, ↓k_de3, ↓k_tk3, ↓k_l4, ↓k_r4, ↓k_se4, ↓k_ic4, ↓k_de4, ↓k_tk4, ↓k_l5, ↓k_r5, ↓k_se5, ↓k_ic5, ↓k_de5, ↓k_tk5, ↓k_l6, ↓k_r6, ↓k_se6, ↓k_ic6, ↓k_de6, ↓k_tk6, ↓k_l7, ↓k_r7, ↓k_se7, ↓k_ic7, ↓k_de7, ↓k_tk7, ↓k_l8, ↓k_r8, ↓k_se8, ↓k_ic8, ↓k_de8, ↓k_tk8, ↓k_l9, ↓k_r9, ↓k_se9, ↓k_ic9, ↓k_de9, ↓k_tk9, ↓k_l10, ↓k_r10, ↓k_se10, ↓k_ic10, ↓k_de10, ↓k_tk10, ↓k_l11, ↓k_r11, ↓k_se11, ↓k_ic11, ↓k_de11, ↓k_tk11, ↓k_l12, ↓k_r12, ↓k_se12, ↓k_ic12, ↓k_de12, ↓k_tk12, ↓k_l13, ↓k_r13, ↓k_se13, ↓k_ic13, ↓k_de13, ↓k_tk13, ↓k_l14, ↓k_r14, ↓k_se14, ↓k_ic14, ↓k_de14, ↓k_tk14, ↓k_l15, ↓k_r15, ↓k_se15, ↓k_ic15, ↓k_de15, ↓k_tk15, ↓k_l16, ↓k_r16, ↓k_se16, ↓k_ic16, ↓k_de16, ↓k_tk16, ↓k_l17, ↓k_r17, ↓k_se17, ↓k_ic17, ↓k_de17, ↓k_tk17, ↓k_l18, ↓k_r18, ↓k_se18, ↓k_ic18, ↓k_de18, ↓k_tk18, ↓k_l19, ↓k_r19, ↓k_se19, ↓k_ic19, ↓k_de19, ↓k_tk19, ↓k_l20, ↓k_r20, ↓k_se20, ↓k_ic20, ↓k_de20, ↓k_tk20, ↓k_l21, ↓k_r21, ↓k_se21, ↓k_ic21, ↓k_de21, ↓k_tk21, ↓k_l22, ↓k_r22, ↓k_se22, ↓k_ic22, ↓k_de22, ↓k_tk22, ↓k_l23, ↓k_r23, ↓k_se23, ↓k_ic23, ↓k_de23, ↓k_tk23, ↓k_l24, ↓k_r24, ↓k_se24, ↓k_ic24, ↓k_de24, ↓k_tk24, ↓k_l25, ↓k_r25, ↓k_se25, ↓k_ic25, ↓k_de25, ↓k_tk25, ↓k_k, ↓k_kn, ↓k_kl, ↓k_kln, ↓k_il, ↓k_2, ↓k_1, ↓k_2c, ↓k_2l, ↓k_ac, ↓k_an, ↓k_cs, ↓k_cv, ↓k_fi, ↓k_fr, ↓k_ai, ↓k_az, ↓k_ar, ↓k_sai, ↓k_saz, ↓k_soa, ↓k_sof, ↓k_spf, ↓k_sx, ↓k_blk, ↓k_sset, ↓k_sdec, ↓k_sri, ↓k_srv, ↓k_srr, ↓k_nop, ↓k_add, ↓k_sub, ↓k_mul, ↓k_min, ↓k_max, ↓k_shr, ↓k_shl, ↓k_or, ↓k_ilz, ↓k_addl, ↓k_rt, ↓k_rb, ↓k_rbz, ↓k_rsi, ↓k_rsr, ↓k_rsv, ↓reduceIte, ↓(k_cv1 dX12_slotsOf (t12 hM)), ↓cS, hz, List.length_cons, List.length_nil, List.forall_mem_cons, List.not_mem_nil, Value.category, true_and, and_true, false_and, and_false, or_true, true_or, or_false, false_or, Nat.zero_le, forall_const, implies_true, false_implies, Nat.zero_add, Nat.reduceAdd, Nat.reduceLT, Nat.reduceLeDiff, Nat.le_refl, not_true_eq_false, not_false_eq_true, r_eq, r_ne, r_lt, r_ge, r_gt, r_le, bz_ne, nn_toNat, cn_of, cn_0, cn_1, i10, Int.reduceLE, Int.reduceLT, Int.reduceEq, bz_T, bz_F, ite_self, mulc, st_bud]
  exact hk
end
