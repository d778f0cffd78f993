section
/-! kept: the reference looks whether a side is so, and turns, told by words -/
/-- the ghost: the tree of w stands at B + 398 -/
noncomputable def gst (G0 Gr : Nat → Int → Int) (B : Nat) (v : Int) (w : List Int) : Nat → Int → Int := fab (mixM B G0 Gr) (B + 398) v (G0 (tvA B v + 5)) w
theorem gst_all {B : Nat} {G0 Gr : Nat → Int → Int} {i v ia iz : Int} {ua uz : Nat} {w : List Int} (iFm : IFm G0 B) (kv : 0 ≤ v ∧ v ≤ 1) (kf : KF G0 Gr B) (r : RowR G0 Gr B i v w) (ta : TOK G0 B 1 ia v ua) (tz : TOK G0 B 1 iz v uz) (ia0 : 0 ≤ ia) (ia1 : ia ≤ 31) (iz0 : 0 ≤ iz) (iz1 : iz ≤ 31) (hu : B + 250 ≤ ua ∧ ua + 10 ≤ B + 370) (hz : B + 250 ≤ uz ∧ uz + 10 ≤ B + 370) :
    IFm (gst G0 Gr B v w) B ∧ TOK (gst G0 Gr B v w) B 1 i v (B + 398) ∧ TOK (gst G0 Gr B v w) B 1 ia v ua ∧ TOK (gst G0 Gr B v w) B 1 iz v uz ∧ (∀ x, B + 544 ≤ x → gst G0 Gr B v w x = Gr x) ∧ (∀ x, x < B + 544 → ¬ (B + 398 ≤ x ∧ x ≤ B + 406) → gst G0 Gr B v w x = G0 x) ∧ gst G0 Gr B v w (B + 398) 2 = (w.length : Int) ∧ gst G0 Gr B v w (B + 398) 3 = nb (wf w) w.length ∧ gst G0 Gr B v w (B + 398 + 1) = (wf w) ∧ gst G0 Gr B v w (B + 398 + 2) = (eE (G0 (tvA B v + 5)) (wf w)) ∧ gst G0 Gr B v w (B + 398 + 6) = (fun p => if 1000 ≤ (wf w) p then nb (wf w) p.toNat else p - nb (wf w) p.toNat) ∧ gst G0 Gr B v w (B + 398 + 7) = naW (wf w) w.length := by
  have tvb := tv_b (B := B) kv
  have n5e : mixM B G0 Gr (tvA B v + 5) = (G0 (tvA B v + 5)) := mix_lo (by omega)
  obtain ⟨t1, iF1⟩ := fab_tok (a := B + 398) (KF_m iFm kf) kv (Or.inr (by omega)) (RowR_m kv r)
  rw [n5e] at t1 iF1
  obtain ⟨⟨_, f2, f3, _⟩, g1, g2, _, _, g6, g7, _⟩ := fab_is (G := mixM B G0 Gr) (a := B + 398) (v := v) (ns := (G0 (tvA B v + 5))) (w := w)
  have ne : ∀ x, ¬ (B + 398 ≤ x ∧ x ≤ B + 406) → gst G0 Gr B v w x = mixM B G0 Gr x := fun x q => fab_ne (by omega)
  have lo : ∀ x, x < B + 544 → ¬ (B + 398 ≤ x ∧ x ≤ B + 406) → gst G0 Gr B v w x = G0 x := fun x q1 q2 => by rw [ne x q2]; exact mix_lo q1
  have hi : ∀ x, B + 544 ≤ x → gst G0 Gr B v w x = Gr x := fun x q => by rw [ne x (by omega)]; exact mix_hi q
  have row : ∀ j, 0 ≤ j → j ≤ 31 → RowE G0 (gst G0 Gr B v w) B j := fun j q1 q2 => RowE_trans (kf.1 j q1 q2) (RowE_of fun x q3 q4 => hi x (by omega))
  exact ⟨iF1, t1, TOK_row iFm (fun x q1 q2 => lo x (by omega) (by omega)) (fun x q1 q2 => lo x (by omega) (by omega)) (row ia ia0 ia1) ta, TOK_row iFm (fun x q1 q2 => lo x (by omega) (by omega)) (fun x q1 q2 => lo x (by omega) (by omega)) (row iz iz0 iz1) tz, hi, lo, f2, f3, g1, g2, g6, g7⟩
theorem gst_fit {B : Nat} {G0 Gr : Nat → Int → Int} {v p : Int} {ua : Nat} {w : List Int} (kv : 0 ≤ v ∧ v ≤ 1) (hu : B + 250 ≤ ua ∧ ua + 10 ≤ B + 370) (lo : ∀ x, x < B + 544 → ¬ (B + 398 ≤ x ∧ x ≤ B + 406) → (gst G0 Gr B v w) x = G0 x) (g1 : (gst G0 Gr B v w) (B + 398 + 1) = (wf w)) (g2 : (gst G0 Gr B v w) (B + 398 + 2) = (eE (G0 (tvA B v + 5)) (wf w))) : FitC (gst G0 Gr B v w) (tvA B v) ua (B + 398) p ↔ fitW G0 B v ua w p := by
  have tvb := tv_b (B := B) kv
  unfold FitC fitW hlW
  rw [g1, g2, lo (tvA B v + 2) (by omega) (by omega), lo (tvA B v + 5) (by omega) (by omega), lo (ua + 1) (by omega) (by omega), lo (ua + 2) (by omega) (by omega)]
/-- memories that differ in the low part: what the ghost's run is in fact -/
def upM (B : Nat) (Gr X : Nat → Int → Int) : Nat → Int → Int := fun x => if x < B + 544 then Gr x else X x
theorem upM_lo {B x : Nat} {Gr X : Nat → Int → Int} (h : x < B + 544) : upM B Gr X x = Gr x := if_pos h
theorem upM_hi {B x : Nat} {Gr X : Nat → Int → Int} (h : B + 544 ≤ x) : upM B Gr X x = X x := if_neg (by omega)
theorem k_fits {T : Nat → Option q_T} {nx B : Nat} {R : Nat → Nat → Option Value} {G0 Gr : Nat → Int → Int} {i v ia iz m : Int} {ua uz : Nat} {w : List Int} (hM : Ly T R (B + 544) (L12 (B + 544))) (iFm : IFm G0 B) (kv : 0 ≤ v ∧ v ≤ 1) (kf : KF G0 Gr B) (i0 : 0 ≤ i) (i1 : i < 100) (r : RowR G0 Gr B i v w) (wy : WAY G0 B v ia iz ua uz) (ia0 : 0 ≤ ia) (ia1 : ia ≤ 31) (iz0 : 0 ≤ iz) (iz1 : iz ≤ 31) (hu : B + 250 ≤ ua ∧ ua + 10 ≤ B + 370) (hz : B + 250 ≤ uz ∧ uz + 10 ≤ B + 370) (m0 : 0 ≤ m) (m1 : m < nb (wf w) w.length) :
    ∃ G' y, MCh Gr G' B ∧ ((y = 1 ∧ fitW G0 B v ua w (naW (wf w) w.length m)) ∨ (y = 0 ∧ ¬ fitW G0 B v ua w (naW (wf w) w.length m))) ∧ ∀ K : Option Value → q_M → Prop, fX12_fitsAt [.ref (B + 544), .int (zI ia), .int (zI i), .int (zI m)] (st T nx 0 0 R Gr) K = K (some (.int (zI y))) (st T nx 0 0 R G') := by
  obtain ⟨ta, tz, ca, cz, la, lz, kk⟩ := wy
  obtain ⟨iF, t1, ta', tz', hi, lo, f2, f3, g1, g2, g6, g7⟩ := gst_all (Gr := Gr) iFm kv kf r ta tz ia0 ia1 iz0 iz1 hu hz
  obtain ⟨n5, pr, d0, ok, len1, len201, hcd, lf⟩ := GW_row iFm kv r.1
  have cdI : ∀ q : Int, 0 ≤ q → q < (w.length : Int) → 20 ≤ (wf w) q ∧ (wf w) q ≤ 1013 := fun q q0 q1 => by
    have := hcd q.toNat (by omega)
    rw [Int.toNat_of_nonneg q0] at this
    exact ⟨this.1, this.2.1⟩
  have a0 : (gst G0 Gr B v w) ua = G0 ua := lo _ (by omega) (by omega)
  have a1 : (gst G0 Gr B v w) (ua + 1) = G0 (ua + 1) := lo _ (by omega) (by omega)
  obtain ⟨R', s1, s2⟩ := low_sw T nx 0 0 B R Gr
  obtain ⟨Gx, y, m1', m2, m3⟩ := c12_fitsAt (T := T) (nx := nx) (R := R') (G0 := (gst G0 Gr B v w)) (G := (gst G0 Gr B v w)) (ga := 1) (gb := 1) (ia := ia) (ib := i) (v := v) (a := ua) (b := B + 398) (n0 := m) (low_M s1 hM) ia0 (by omega) i0 i1 iF ta' t1 (by rw [a0, a1]; exact ca) (by rw [f2, g1]; exact cdI) (by rw [a0, a1]; exact la) (by omega) (MCh_rfl _ _) m0 (by rw [f3]; exact m1)
  have fo := gst_fit (Gr := Gr) (w := w) (p := naW (wf w) w.length m) kv hu lo g1 g2
  rw [g7, fo] at m2
  have lowx : ∀ x, x < B + 544 → Gx x = (gst G0 Gr B v w) x := fun x q => m1'.1 x (by omega) (by omega) (by omega) (by omega) (by omega)
  refine ⟨upM B Gr Gx, y, ⟨fun x q1 q2 q3 q4 q5 => ?_, fun j q => ?_⟩, m2.imp (fun z => ⟨z.1, z.2.1⟩) id, fun K => ?_⟩
  · by_cases q : x < B + 544
    · exact upM_lo q
    · rw [upM_hi (by omega), m1'.1 x q1 q2 q3 q4 q5, hi x (by omega)]
  · rw [upM_hi (by omega), m1'.2 j q, hi _ (by omega)]
  · have := m3 K
    rw [s2 (gst G0 Gr B v w), mix_id hi, s2 Gx] at this
    exact this
theorem k_turn {T : Nat → Option q_T} {nx B : Nat} {R : Nat → Nat → Option Value} {G0 Gr : Nat → Int → Int} {i v tu s m p : Int} {ua uz : Nat} {w w' : List Int} (hM : Ly T R (B + 544) (L12 (B + 544))) (iFm : IFm G0 B) (kv : 0 ≤ v ∧ v ≤ 1) (kf : KF G0 Gr B) (i0 : 0 ≤ i) (i1 : i < 92) (r : RowR G0 Gr B i v w) (tu0 : 0 ≤ tu ∧ tu ≤ 5) (s01 : 0 ≤ s ∧ s ≤ 1) (wy : WAY G0 B v (20 + 2 * tu + s) (21 + 2 * tu - s) ua uz) (hu : B + 250 ≤ ua ∧ ua + 10 ≤ B + 370) (hz : B + 250 ≤ uz ∧ uz + 10 ≤ B + 370) (m0 : 0 ≤ m) (m1 : m < nb (wf w) w.length) (hp : p = naW (wf w) w.length m) (ft : fitW G0 B v ua w p) (ho : outW G0 B v ua uz w p w') :
    ∃ G', (∀ x, ¬ (B + 560 ≤ x ∧ x ≤ B + 573) → ¬ x = (B + 544 + 90) → ¬ x = (B + 544 + 91) → ¬ x = B + 544 → G' x = Gr x) ∧ (∀ j, ¬ j = 92 → RowE Gr G' B j ∧ ∀ k, 40 * j ≤ k → k < 40 * j + 40 → G' (B + 544 + 22) k = Gr (B + 544 + 22) k) ∧ (∀ j, ¬ j = 22 → ¬ j = 23 → ¬ j = 31 → ¬ j = 32 → ¬ j = 33 → ¬ j = 34 → ¬ j = 114 → G' (B + 544) j = Gr (B + 544) j) ∧ ((nb (wf w') w'.length ≤ 40 ∧ G' (B + 544) 22 = 0 ∧ BS (G0 (tvA B v + 5)) (wf w') G' B 92 v w'.length) ∨ (40 < nb (wf w') w'.length ∧ G' (B + 544) 22 = 1)) ∧ ∀ K : Option Value → q_M → Prop, fX12_turnInto [.ref (B + 544), .int (zI tu), .int (zI s), .int (zI i), .int (zI m), .int (zI 92)] (st T nx 0 0 R Gr) K = K none (st T nx 0 0 R G') := by
  have pwo := (out_ex iFm kv wy r.1 (by
    have := (Tr_m (trW iFm kv r.1) m0 m1).1
    rw [hp]
    exact this) (by
    have := (Tr_m (trW iFm kv r.1) m0 m1).2.1
    rw [hp]
    exact this) ft).2 w' ho
  obtain ⟨ta, tz, ca, cz, la, lz, kk⟩ := wy
  obtain ⟨iF, t1, ta', tz', hi, lo, f2, f3, g1, g2, g6, g7⟩ := gst_all (Gr := Gr) iFm kv kf r ta tz (by omega) (by omega) (by omega) (by omega) hu hz
  obtain ⟨n5, pr, d0, ok, len1, len201, hcd, lf⟩ := GW_row iFm kv r.1
  have tvb := tv_b (B := B) kv
  have cdI : ∀ q : Int, 0 ≤ q → q < (w.length : Int) → 20 ≤ (wf w) q ∧ (wf w) q ≤ 1013 := fun q q0 q1 => by
    have := hcd q.toNat (by omega)
    rw [Int.toNat_of_nonneg q0] at this
    exact ⟨this.1, this.2.1⟩
  obtain ⟨q1, q2, q3, q4, q5⟩ := Tr_m (trW iFm kv r.1) m0 m1
  rw [← hp] at q1 q2 q3 q4 q5
  have a0 : (gst G0 Gr B v w) ua = G0 ua := lo _ (by omega) (by omega)
  have a1 : (gst G0 Gr B v w) (ua + 1) = G0 (ua + 1) := lo _ (by omega) (by omega)
  have a2 : (gst G0 Gr B v w) (ua + 2) = G0 (ua + 2) := lo _ (by omega) (by omega)
  have b0 : (gst G0 Gr B v w) uz = G0 uz := lo _ (by omega) (by omega)
  have b1 : (gst G0 Gr B v w) (uz + 1) = G0 (uz + 1) := lo _ (by omega) (by omega)
  have b2 : (gst G0 Gr B v w) (uz + 2) = G0 (uz + 2) := lo _ (by omega) (by omega)
  have b3 : (gst G0 Gr B v w) (uz + 3) = G0 (uz + 3) := lo _ (by omega) (by omega)
  have b4 : (gst G0 Gr B v w) (uz + 4) = G0 (uz + 4) := lo _ (by omega) (by omega)
  have e0 : (gst G0 Gr B v w) (tvA B v) = G0 (tvA B v) := lo _ (by omega) (by omega)
  have e5 : (gst G0 Gr B v w) (tvA B v + 5) = G0 (tvA B v + 5) := lo _ (by omega) (by omega)
  have e6 : (gst G0 Gr B v w) (tvA B v + 6) = G0 (tvA B v + 6) := lo _ (by omega) (by omega)
  have fo := gst_fit (Gr := Gr) (w := w) (p := p) kv hu lo g1 g2
  have tk : TUW (gst G0 Gr B v w) B ua uz tu s 1 i v p (B + 398) := by
    refine ⟨tu0, iF, ta', tz', ⟨s01, hu, hz⟩, t1, ⟨by omega, by omega⟩, by rw [a0, a1]; exact ca, by rw [b0, b1]; exact cz, by rw [f2, g1]; exact cdI, by rw [a0, a1]; exact la, by rw [b0, b1]; exact lz, ⟨by rw [f2]; exact ⟨q1, q2⟩, fo.mpr ft, ?_⟩⟩
    have := kk w p r.1 q1 q2 ft
    rw [b0, b1, b3, b4, e5, e6, a1, a2, g1, g2, f2]
    exact this
  obtain ⟨k, pw⟩ := pwo
  have n5' : ∀ q : Nat, 1000 ≤ wf w' q → ns0 (wf w' q) (G0 (tvA B v + 5)) := fun q l => by
    have hF14 := (iFm v kv.1 kv.2).2.2.1
    have tv1 : (G0 (tvA B v) 1) ≤ 14 := hF14
    by_cases hq : q < w'.length
    · have z := (PW_codes pw _ (wf_in hq)).2 l
      have y := IFm_ns iFm kv (show 0 ≤ wf w' q - 1000 by omega) z
      exact ⟨by omega, y.1, y.2⟩
    · have := wf_out (w := w') hq
      omega
  obtain ⟨d, hw⟩ := ho
  obtain ⟨R', s1, s2⟩ := low_sw T nx 0 0 B R Gr
  have okc0 := ok 0 (by omega) 60 rfl
  have er : (gst G0 Gr B v w) (B + 398 + 6) p = m := by
    rw [g6]
    show (if 1000 ≤ (wf w) p then nb (wf w) p.toNat else p - nb (wf w) p.toNat) = m
    rw [if_pos q3, q4]
  obtain ⟨Gx, x1, x2, x3⟩ := u_all (T := T) (nx := nx) (R := R') (G0 := (gst G0 Gr B v w)) (b := B + 398) (tu := tu) (s := s) (gt := 1) (ib := i) (v := v) (p := p) (c := wf w') (k := 202) (w := w') (d := d) (low_M s1 hM) i0 i1 tk (by rw [e5]; exact n5') (by rw [g1]; exact okc0) (by
    rw [e5, a1, a2, b1, b2, g1, g2]
    exact hw) (At_wf w')
  rw [er] at x3
  rw [e5] at x2
  refine ⟨upM B Gr Gx, fun x q1 q2 q3 q4 => ?_, fun j q => ?_, fun j z1 z2 z3 z4 z5 z6 z7 => ?_, ?_, fun K => ?_⟩
  · by_cases q : x < B + 544
    · exact upM_lo q
    · rw [upM_hi (by omega), x1.1.1 x q1 q2 q3 q4, hi x (by omega)]
  · obtain ⟨y1, y2⟩ := x1.1.2 j q
    refine ⟨RowE_trans (RowE_of fun x z1 z2 => hi x (by omega)) (RowE_trans y1 (RowE_of fun x z1 z2 => upM_hi (by omega))), fun k k0 k1 => ?_⟩
    rw [upM_hi (by omega), y2 k k0 k1, hi _ (by omega)]
  · rw [upM_hi (by omega), x1.2 j z1 z2 z3 z4 z5 z6 z7, hi _ (by omega)]
  · rw [upM_hi (by omega)]
    exact x2.imp (fun ⟨z1, _, z3, z4⟩ => ⟨z1, z3, BS_congr (fun x y1 y2 => upM_hi (by omega)) z4⟩) id
  · have := x3 K
    rw [s2 (gst G0 Gr B v w), mix_id hi, s2 Gx] at this
    exact this
/-- a row is copied -/
theorem BS_cpt {ns c : Int → Int} {G G' : Nat → Int → Int} {B : Nat} {f t v : Int} {n : Nat} (h : Cpt G G' B f t) (pr : Pre ns c n) (h5 : ∀ q' : Nat, q' < n → 1000 ≤ c q' → ns (c q' - 1000) ≤ 5) (N40 : nb c n ≤ 40) (s : BS ns c G B f v n) : BS ns c G' B t v n := by
  obtain ⟨⟨a1, a2, a3⟩, a4, a5, _⟩ := h
  obtain ⟨s1, s2, s3⟩ := s
  refine ⟨by rw [a1]; exact s1, by rw [a2]; exact s2, fun q hq tt ht => ?_⟩
  have old := s3 q hq tt ht
  have pre : Pre ns c q := Pre_le pr (by omega)
  have nbq := nb_b c q
  have mono := nb_mono c (show q ≤ n by omega)
  have tb : tt.1 = -1 ∨ (0 ≤ tt.1 ∧ tt.1 < 40 ∧ 0 ≤ tt.2 ∧ tt.2 < 5) := by
    rcases tg_b pre (fun x hx => h5 x (by omega)) ht with ⟨_, z⟩ | ⟨_, z1, z2, z3, z4⟩
    · exact Or.inl (by rw [z])
    · exact Or.inr (by omega)
  have f40 : 1000 ≤ c q → nb c q < 40 := fun l => by
    have := nb_lt c (show q < n by omega) l
    omega
  have sl : 0 ≤ tt.1 → G' (B + 544 + 21) (5 * (40 * t + tt.1) + tt.2) = G (B + 544 + 21) (5 * (40 * f + tt.1) + tt.2) := fun z => by
    have := a5 (5 * tt.1 + tt.2) (by omega) (by omega)
    rw [show 5 * (40 * t + tt.1) + tt.2 = 200 * t + (5 * tt.1 + tt.2) by omega, show 5 * (40 * f + tt.1) + tt.2 = 200 * f + (5 * tt.1 + tt.2) by omega]
    exact this
  refine ⟨fun l => ?_, fun l => ⟨fun z => by rw [a3]; exact (old.2 l).1 z, fun z => by rw [sl z]; exact (old.2 l).2 z⟩⟩
  have := f40 l
  rw [(a4 (nb c q) (by omega) (by omega)).1, (a4 (nb c q) (by omega) (by omega)).2.1]
  exact ⟨(old.1 l).1, (old.1 l).2.1, fun z => by rw [sl z]; exact (old.1 l).2.2 z⟩
end
