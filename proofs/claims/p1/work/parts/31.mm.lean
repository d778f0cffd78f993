section
/-! memory of whole numbers: R tells the references, G the numbers (address, place) -/
def zI (z : Int) : Int32 := Int32.ofInt z
theorem zI_add (a b : Int) : zI a + zI b = zI (a + b) := (Int32.ofInt_add a b).symm
theorem zI_sub (a b : Int) : zI a - zI b = zI (a - b) := (Int32.ofInt_sub a b).symm
theorem zI_mul (a b : Int) : zI a * zI b = zI (a * b) := (Int32.ofInt_mul a b).symm
theorem zI_neg (a : Int) : -zI a = zI (-a) := (Int32.ofInt_neg a).symm
theorem zI_toInt {z : Int} (h1 : -2147483648 ≤ z) (h2 : z < 2147483648) : (zI z).toInt = z := Int32.toInt_ofInt_of_le h1 h2
theorem zI_of (x : Int32) : x = zI x.toInt := (Int32.ofInt_toInt x).symm
theorem zI_bd (x : Int32) : -2147483648 ≤ x.toInt ∧ x.toInt < 2147483648 := ⟨Int32.le_toInt x, Int32.toInt_lt x⟩
theorem zI_ex (x : Int32) : ∃ z : Int, x = zI z ∧ -2147483648 ≤ z ∧ z < 2147483648 := ⟨x.toInt, zI_of x, zI_bd x⟩
theorem zI_lt {a b : Int} (h1 : -2147483648 ≤ a) (h2 : a < 2147483648) (h3 : -2147483648 ≤ b) (h4 : b < 2147483648) : (zI a < zI b) = (a < b) := by
  rw [Int32.lt_iff_toInt_lt, zI_toInt h1 h2, zI_toInt h3 h4]
theorem zI_le {a b : Int} (h1 : -2147483648 ≤ a) (h2 : a < 2147483648) (h3 : -2147483648 ≤ b) (h4 : b < 2147483648) : (zI a ≤ zI b) = (a ≤ b) := by
  rw [Int32.le_iff_toInt_le, zI_toInt h1 h2, zI_toInt h3 h4]
theorem zI_eq {a b : Int} (h1 : -2147483648 ≤ a) (h2 : a < 2147483648) (h3 : -2147483648 ≤ b) (h4 : b < 2147483648) : (zI a = zI b) = (a = b) := by
  refine propext ⟨fun h => ?_, fun h => by rw [h]⟩
  rw [← zI_toInt h1 h2, ← zI_toInt h3 h4, h]
theorem zI_clamp {a : Int} (h1 : -2147483648 ≤ a) (h2 : a < 2147483648) : (zI a).toNatClampNeg = a.toNat := Int32.toNatClampNeg_ofInt_of_le h1 h2
theorem zI_inI {a : Int} {n : Nat} (h1 : 0 ≤ a) (h2 : a < n) (h3 : n ≤ 65536) : vp_in (zI a) n = True := by
  refine eq_true fun h => ?_
  rcases h with h | h
  · rw [show (0 : Int32) = zI 0 from rfl, zI_lt (by omega) (by omega) (by omega) (by omega)] at h
    omega
  · rw [zI_clamp (by omega) (by omega)] at h
    omega
theorem r_eq {a b : Int} (h1 : -2147483648 ≤ a) (h2 : a < 2147483648) (h3 : -2147483648 ≤ b) (h4 : b < 2147483648) : q_Req (zI a) (zI b) = (a = b) := zI_eq h1 h2 h3 h4
theorem r_ne {a b : Int} (h1 : -2147483648 ≤ a) (h2 : a < 2147483648) (h3 : -2147483648 ≤ b) (h4 : b < 2147483648) : q_Rne (zI a) (zI b) = (¬ a = b) := by rw [q_Rne, zI_eq h1 h2 h3 h4]
theorem r_lt {a b : Int} (h1 : -2147483648 ≤ a) (h2 : a < 2147483648) (h3 : -2147483648 ≤ b) (h4 : b < 2147483648) : q_Rlt (zI a) (zI b) = (a < b) := zI_lt h1 h2 h3 h4
theorem r_ge {a b : Int} (h1 : -2147483648 ≤ a) (h2 : a < 2147483648) (h3 : -2147483648 ≤ b) (h4 : b < 2147483648) : q_Rge (zI a) (zI b) = (b ≤ a) := zI_le h3 h4 h1 h2
theorem r_gt {a b : Int} (h1 : -2147483648 ≤ a) (h2 : a < 2147483648) (h3 : -2147483648 ≤ b) (h4 : b < 2147483648) : q_Rgt (zI a) (zI b) = (b < a) := zI_lt h3 h4 h1 h2
theorem r_le {a b : Int} (h1 : -2147483648 ≤ a) (h2 : a < 2147483648) (h3 : -2147483648 ≤ b) (h4 : b < 2147483648) : q_Rle (zI a) (zI b) = (a ≤ b) := zI_le h1 h2 h3 h4
/-- a truth as a number -/
def bz (p : Prop) [Decidable p] : Int := if p then 1 else 0
theorem bz_b (p : Prop) [Decidable p] : 0 ≤ bz p ∧ bz p ≤ 1 := by
  unfold bz
  split <;> omega
theorem bz_ne {p : Prop} [Decidable p] : q_Rne (zI (bz p)) (zI 0) = p := by
  unfold bz
  rw [q_Rne]
  split
  · rename_i h
    rw [zI_eq (by omega) (by omega) (by omega) (by omega)]
    simp [h]
  · rename_i h
    simp [h]
theorem bz_t {p : Prop} [Decidable p] (h : p) : bz p = 1 := if_pos h
theorem bz_f {p : Prop} [Decidable p] (h : ¬ p) : bz p = 0 := if_neg h
theorem bz_c {p q : Prop} [Decidable p] [Decidable q] (h : p ↔ q) : bz p = bz q := by
  unfold bz
  by_cases hp : p
  · rw [if_pos hp, if_pos (h.mp hp)]
  · rw [if_neg hp, if_neg (fun hq => hp (h.mpr hq))]
theorem g_add (a b : Int) : q_giadd (zI a) (zI b) = zI (a + b) := zI_add a b
theorem g_sub (a b : Int) : q_gisub (zI a) (zI b) = zI (a - b) := zI_sub a b
theorem g_mul (a b : Int) : q_gimul (zI a) (zI b) = zI (a * b) := zI_mul a b
theorem g_min {a b : Int} (h1 : -2147483648 ≤ a) (h2 : a < 2147483648) (h3 : -2147483648 ≤ b) (h4 : b < 2147483648) : q_gmmin (zI a) (zI b) = zI (min a b) := by
  unfold q_gmmin
  simp only [zI_lt h3 h4 h1 h2]
  split
  · rw [show min a b = b by omega]
  · rw [show min a b = a by omega]
theorem g_max {a b : Int} (h1 : -2147483648 ≤ a) (h2 : a < 2147483648) (h3 : -2147483648 ≤ b) (h4 : b < 2147483648) : q_gmmax (zI a) (zI b) = zI (max a b) := by
  unfold q_gmmax
  simp only [zI_lt h1 h2 h3 h4]
  split
  · rw [show max a b = b by omega]
  · rw [show max a b = a by omega]
theorem zI_n (n : Nat) : (OfNat.ofNat n : Int32) = zI (OfNat.ofNat n : Int) := by
  show Int32.ofNat n = Int32.ofInt (n : Int)
  first | exact Int32.ofInt_eq_ofNat.symm | exact (Int32.ofInt_eq_ofNat n).symm | rfl | simp
theorem e_k (n : Nat) (env : List Value) (μ : q_M) (K : Int32 → q_M → Prop) : q_k (no_index (OfNat.ofNat n)) env μ K = K (zI (OfNat.ofNat n)) μ := by
  rw [← zI_n]
  rfl
theorem e_kn (n : Nat) (env : List Value) (μ : q_M) (K : Int32 → q_M → Prop) : q_k (-(no_index (OfNat.ofNat n))) env μ K = K (zI (-(OfNat.ofNat n))) μ := by
  rw [← zI_neg, ← zI_n]
  rfl
theorem e_cz (R : Int32 → Int32 → Prop) (a : q_E Int32) (env : List Value) (μ : q_M) (T F : q_M → Prop) : q_cz R a env μ T F = a env μ fun u μ => (R u (zI 0) → T μ) ∧ (¬ R u (zI 0) → F μ) := rfl
theorem e_inc (i : Nat) (n : Int) (env : List Value) (μ : q_M) (Kn : List Value → q_M → Prop) (Kr : Option Value → q_M → Prop) : q_sinc i n env μ Kn Kr = ∃ v, env[i]? = some (.int v) ∧ Kn (env.set i (.int (v + zI n))) μ := rfl
def mm (R : Nat → Nat → Option Value) (G : Nat → Int → Int) : Nat → Nat → Value := fun a k => (R a k).getD (.int (zI (G a (k : Int))))
def gs (G : Nat → Int → Int) (a : Nat) (j v : Int) : Nat → Int → Int := fun a' j' => if a' = a ∧ j' = j then v else G a' j'
def rN (R : Nat → Nat → Option Value) (a k : Nat) : Nat → Nat → Option Value := fun a' k' => if a' = a ∧ k' = k then none else R a' k'
def rS (R : Nat → Nat → Option Value) (a k : Nat) (v : Value) : Nat → Nat → Option Value := fun a' k' => if a' = a ∧ k' = k then some v else R a' k'
/-- a state: what the cells are, the next address, the room; the references and the numbers -/
def st (T : Nat → Option q_T) (nx rc rs : Nat) (R : Nat → Nat → Option Value) (G : Nat → Int → Int) : q_M := ((T, nx, rc, rs), mm R G)
theorem st_T (T : Nat → Option q_T) (nx rc rs : Nat) (R : Nat → Nat → Option Value) (G : Nat → Int → Int) : (st T nx rc rs R G).1.1 = T := rfl
theorem st_rc (T : Nat → Option q_T) (nx rc rs : Nat) (R : Nat → Nat → Option Value) (G : Nat → Int → Int) : (st T nx rc rs R G).1.2.2.1 = rc := rfl
theorem st_rs (T : Nat → Option q_T) (nx rc rs : Nat) (R : Nat → Nat → Option Value) (G : Nat → Int → Int) : (st T nx rc rs R G).1.2.2.2 = rs := rfl
theorem st_M (T : Nat → Option q_T) (nx rc rs : Nat) (R : Nat → Nat → Option Value) (G : Nat → Int → Int) (a k : Nat) : (st T nx rc rs R G).2 a k = (R a k).getD (.int (zI (G a (k : Int)))) := rfl
theorem st_bud (T : Nat → Option q_T) (nx rc rs : Nat) (R : Nat → Nat → Option Value) (G : Nat → Int → Int) (i j : Nat) : q_bud i j (st T nx rc rs R G) = st T nx i j R G := rfl
theorem st_set (T : Nat → Option q_T) (nx rc rs : Nat) (R : Nat → Nat → Option Value) (G : Nat → Int → Int) (a k : Nat) (v : Int) : q_set (st T nx rc rs R G) a k (.int (zI v)) = st T nx rc rs (rN R a k) (gs G a (k : Int) v) := by
  refine Prod.ext rfl ?_
  funext a' k'
  show (if a' = a ∧ k' = k then Value.int (zI v) else (R a' k').getD (.int (zI (G a' (k' : Int))))) = ((if a' = a ∧ k' = k then none else R a' k').getD (.int (zI (if a' = a ∧ (k' : Int) = (k : Int) then v else G a' k'))))
  by_cases h : a' = a ∧ k' = k
  · rw [if_pos h, if_pos h, if_pos ⟨h.1, by omega⟩]
    rfl
  · rw [if_neg h, if_neg h, if_neg (fun q => h ⟨q.1, by omega⟩)]
theorem st_setR (T : Nat → Option q_T) (nx rc rs : Nat) (R : Nat → Nat → Option Value) (G : Nat → Int → Int) (a k r : Nat) : q_set (st T nx rc rs R G) a k (.ref r) = st T nx rc rs (rS R a k (.ref r)) G := by
  refine Prod.ext rfl ?_
  funext a' k'
  show (if a' = a ∧ k' = k then Value.ref r else (R a' k').getD (.int (zI (G a' (k' : Int))))) = ((if a' = a ∧ k' = k then some (.ref r) else R a' k').getD (.int (zI (G a' k'))))
  by_cases h : a' = a ∧ k' = k
  · rw [if_pos h, if_pos h]
    rfl
  · rw [if_neg h, if_neg h]
theorem rN_id {R : Nat → Nat → Option Value} {a k : Nat} (h : R a k = none) : rN R a k = R := by
  funext a' k'
  unfold rN
  by_cases e : a' = a ∧ k' = k
  · rw [if_pos e, e.1, e.2, h]
  · rw [if_neg e]
/-- any memory is one of these -/
def gR (M : Nat → Nat → Value) : Nat → Nat → Option Value := fun a k => match M a k with
  | .int _ => none
  | v => some v
def gG (M : Nat → Nat → Value) : Nat → Int → Int := fun a j => match M a j.toNat with
  | .int v => v.toInt
  | _ => 0
theorem mm_of (M : Nat → Nat → Value) : mm (gR M) (gG M) = M := by
  funext a k
  unfold mm gR gG
  rw [Int.toNat_natCast]
  cases M a k <;> simp [← zI_of]
theorem gG_b (M : Nat → Nat → Value) (a : Nat) (j : Int) : -2147483648 ≤ gG M a j ∧ gG M a j < 2147483648 := by
  unfold gG
  split
  · exact zI_bd _
  · omega
theorem gs_ne {G : Nat → Int → Int} {a a' : Nat} {j v : Int} (h : ¬ a' = a) : gs G a j v a' = G a' := by
  funext j'
  unfold gs
  rw [if_neg (fun q => h q.1)]
theorem gs_same (G : Nat → Int → Int) (a : Nat) (j v : Int) : gs G a j v a j = v := if_pos ⟨rfl, rfl⟩
theorem gs_at (G : Nat → Int → Int) (a : Nat) (j v j' : Int) : gs G a j v a j' = if j' = j then v else G a j' := by
  unfold gs
  by_cases h : j' = j
  · rw [if_pos ⟨rfl, h⟩, if_pos h]
  · rw [if_neg (fun q => h q.2), if_neg h]
theorem bok_bz {p : Prop} [Decidable p] : q_bok (zI (bz p)) = True := by
  unfold bz
  split
  · exact q_bok1
  · exact q_bok0
theorem bok_z1 : q_bok (zI 1) = True := q_bok1
theorem bok_z0 : q_bok (zI 0) = True := q_bok0
theorem bok_b {b : Int} (h0 : 0 ≤ b) (h1 : b ≤ 1) : q_bok (zI b) = True := by
  have : b = 0 ∨ b = 1 := by omega
  rcases this with h | h
  · rw [h]; exact q_bok0
  · rw [h]; exact q_bok1
theorem nar_b {b : Int} (h0 : 0 ≤ b) (h1 : b ≤ 1) : (narrow .boolean (.int (zI b)) = .int (zI b)) = True := by
  have := bok_b h0 h1
  rw [eq_iff_iff, iff_true] at this ⊢
  exact this.1
theorem nn_toNat {j : Int} (h : 0 ≤ j) : ((j.toNat : Nat) : Int) = j := Int.toNat_of_nonneg h
theorem cn_of (n : Nat) : (((no_index (OfNat.ofNat n)) : Nat) : Int) = (OfNat.ofNat n : Int) := rfl
theorem cn_0 : ((0 : Nat) : Int) = 0 := rfl
theorem cn_1 : ((1 : Nat) : Int) = 1 := rfl
end
section
def zL (z : Int) : Int64 := Int64.ofInt z
theorem zL_toInt {z : Int} (h1 : -9223372036854775808 ≤ z) (h2 : z < 9223372036854775808) : (zL z).toInt = z := Int64.toInt_ofInt_of_le h1 h2
theorem zI_long {z : Int} (h1 : -2147483648 ≤ z) (h2 : z < 2147483648) : (zI z).toInt64 = zL z := by
  refine Int64.toInt_inj.mp ?_
  rw [Int32.toInt_toInt64, zI_toInt h1 h2, zL_toInt (by omega) (by omega)]
theorem zL_le {a b : Int} (h1 : -9223372036854775808 ≤ a) (h2 : a < 9223372036854775808) (h3 : -9223372036854775808 ≤ b) (h4 : b < 9223372036854775808) : (zL a ≤ zL b) = (a ≤ b) := by
  rw [Int64.le_iff_toInt_le, zL_toInt h1 h2, zL_toInt h3 h4]
theorem zL_of (x : Int64) : x = zL x.toInt := (Int64.ofInt_toInt x).symm
theorem zL_n (n : Nat) : (OfNat.ofNat n : Int64) = zL (OfNat.ofNat n : Int) := by
  show Int64.ofNat n = Int64.ofInt (n : Int)
  first | exact Int64.ofInt_eq_ofNat.symm | exact (Int64.ofInt_eq_ofNat n).symm | rfl | simp
theorem e_kl (n : Nat) (env : List Value) (μ : q_M) (K : Int64 → q_M → Prop) : q_kl (no_index (OfNat.ofNat n)) env μ K = K (zL (OfNat.ofNat n)) μ := by
  rw [← zL_n]
  rfl
theorem zL_add (a b : Int) : q_gladd (zL a) (zL b) = zL (a + b) := (Int64.ofInt_add a b).symm
theorem e_il (a : q_E Int32) (env : List Value) (μ : q_M) (K : Int64 → q_M → Prop) : q_il a env μ K = a env μ fun u μ => K u.toInt64 μ := rfl
theorem isref_o (C : String) : (FieldType.object C).isReference = true := rfl
theorem isref_a (t : FieldType) : (FieldType.array t).isReference = true := rfl
theorem c12_in {a b c : Int} {μ : q_M} {K : Option Value → q_M → Prop} (ha1 : -9223372036854775808 ≤ a) (ha2 : a < 9223372036854775808) (hb1 : -9223372036854775808 ≤ b) (hb2 : b < 9223372036854775808) (hc1 : -9223372036854775808 ≤ c) (hc2 : c < 9223372036854775808) : fX12_in [.long (zL a), .long (zL b), .long (zL c)] μ K = K (some (.int (zI (bz (b ≤ a ∧ a ≤ c))))) μ := by
  have e : (if zL b ≤ zL a ∧ zL a ≤ zL c then (1 : Int32) else 0) = zI (bz (b ≤ a ∧ a ≤ c)) := by
    simp only [zL_le hb1 hb2 ha1 ha2, zL_le ha1 ha2 hc1 hc2]
    unfold bz
    split <;> rfl
  refine propext ⟨fun ⟨x, y, z, h, hk⟩ => ?_, fun h => ⟨_, _, _, rfl, by rw [e]; exact h⟩⟩
  simp only [List.cons.injEq, Value.long.injEq, and_true] at h
  obtain ⟨rfl, rfl, rfl⟩ := h
  rw [e] at hk
  exact hk
end
theorem mulc (x : Int) (n : Nat) : x * (no_index (OfNat.ofNat n) : Int) = (OfNat.ofNat n : Int) * x := Int.mul_comm _ _
/-- codes of cells -/
def isCd (c : Int) : Prop := ((0 ≤ c ∧ c ≤ 11) ∨ (20 ≤ c ∧ c ≤ 35)) ∨ (40 ≤ c ∧ c ≤ 139)
section
/-- cells copied -/
def cpG (G : Nat → Int → Int) (a : Nat) (s : Int) (b : Nat) (d n : Int) : Nat → Int → Int := fun c j => if c = b ∧ d ≤ j ∧ j < d + n then G a (s + (j - d)) else G c j
def flG (G : Nat → Int → Int) (a : Nat) (n v : Int) : Nat → Int → Int := fun c j => if c = a ∧ j < n then v else G c j
theorem cpG_ne {G : Nat → Int → Int} {a b c : Nat} {s d n : Int} (h : ¬ c = b) : cpG G a s b d n c = G c := by
  funext j
  unfold cpG
  rw [if_neg (fun q => h q.1)]
theorem flG_ne {G : Nat → Int → Int} {a c : Nat} {n v : Int} (h : ¬ c = a) : flG G a n v c = G c := by
  funext j
  unfold flG
  rw [if_neg (fun q => h q.1)]
theorem st_cpm {T : Nat → Option q_T} {nx rc rs a b : Nat} {R : Nat → Nat → Option Value} {G : Nat → Int → Int} {s d n : Int} (ha : ∀ k, R a k = none) (hb : ∀ k, R b k = none) (hs : 0 ≤ s) (hd : 0 ≤ d) (hn : 0 ≤ n) :
    (((T, nx, rc, rs), q_cpm (mm R G) a s.toNat b d.toNat n.toNat) : q_M) = st T nx rc rs R (cpG G a s b d n) := by
  refine Prod.ext rfl ?_
  funext c k
  show (if c = b ∧ d.toNat ≤ k ∧ k < d.toNat + n.toNat then mm R G a (s.toNat + (k - d.toNat)) else mm R G c k) = (R c k).getD (.int (zI (if c = b ∧ d ≤ (k : Int) ∧ (k : Int) < d + n then G a (s + ((k : Int) - d)) else G c (k : Int))))
  by_cases h : c = b ∧ d.toNat ≤ k ∧ k < d.toNat + n.toNat
  · rw [if_pos h, if_pos ⟨h.1, by omega, by omega⟩, h.1, hb]
    unfold mm
    rw [ha, show ((s.toNat + (k - d.toNat) : Nat) : Int) = s + ((k : Int) - d) by omega]
    try rfl
  · rw [if_neg h, if_neg (fun q => h ⟨q.1, by omega, by omega⟩)]
    try rfl
theorem cpy_mk {T : Nat → Option q_T} {nx rc rs A Bq m0 m1 : Nat} {R : Nat → Nat → Option Value} {G : Nat → Int → Int} {S D N : Int} {K : Unit → q_M → Prop} (hTa : T A = some (.inr (.inl (.int, m0)))) (hTb : T Bq = some (.inr (.inl (.int, m1)))) (ha : ∀ k, R A k = none) (hb : ∀ k, R Bq k = none)
    (hs : 0 ≤ S) (hd : 0 ≤ D) (hn : 0 ≤ N) (h1 : S + N ≤ m0) (h2 : D + N ≤ m1) (hm0 : m0 ≤ 65536) (hm1 : m1 ≤ 65536) :
    (∃ (a b : Nat) (sp dp n : Int32) (n0 n1 : Nat), ([.ref A, .int (zI S), .ref Bq, .int (zI D), .int (zI N)] : List Value) = [.ref a, .int sp, .ref b, .int dp, .int n] ∧ (st T nx rc rs R G).1.1 a = some (.inr (.inl (.int, n0))) ∧ (st T nx rc rs R G).1.1 b = some (.inr (.inl (.int, n1))) ∧
      ¬ sp < 0 ∧ ¬ dp < 0 ∧ ¬ n < 0 ∧ sp.toNatClampNeg + n.toNatClampNeg ≤ n0 ∧ dp.toNatClampNeg + n.toNatClampNeg ≤ n1 ∧ (∀ i, i < n.toNatClampNeg → ∃ z, (st T nx rc rs R G).2 a (sp.toNatClampNeg + i) = .int z) ∧
      K () ((st T nx rc rs R G).1, q_cpm (st T nx rc rs R G).2 a sp.toNatClampNeg b dp.toNatClampNeg n.toNatClampNeg)) = K () (st T nx rc rs R (cpG G A S Bq D N)) := by
  have z0 : (0 : Int32) = zI 0 := rfl
  refine propext ⟨fun ⟨a, b, sp, dp, n, n0, n1, e, _, _, _, _, _, _, _, _, hk⟩ => ?_, fun hk => ⟨A, Bq, zI S, zI D, zI N, m0, m1, rfl, hTa, hTb, ?_, ?_, ?_, ?_, ?_, ?_, ?_⟩⟩
  · simp only [List.cons.injEq, Value.ref.injEq, Value.int.injEq, and_true] at e
    obtain ⟨rfl, rfl, rfl, rfl, rfl⟩ := e
    rw [zI_clamp (by omega) (by omega), zI_clamp (by omega) (by omega), zI_clamp (by omega) (by omega)] at hk
    rw [← st_cpm ha hb hs hd hn]
    exact hk
  · rw [z0, zI_lt (by omega) (by omega) (by omega) (by omega)]; omega
  · rw [z0, zI_lt (by omega) (by omega) (by omega) (by omega)]; omega
  · rw [z0, zI_lt (by omega) (by omega) (by omega) (by omega)]; omega
  · rw [zI_clamp (by omega) (by omega), zI_clamp (by omega) (by omega)]; omega
  · rw [zI_clamp (by omega) (by omega), zI_clamp (by omega) (by omega)]; omega
  · intro i _
    rw [st_M, ha]
    exact ⟨_, rfl⟩
  · rw [zI_clamp (by omega) (by omega), zI_clamp (by omega) (by omega), zI_clamp (by omega) (by omega)]
    rw [← st_cpm ha hb hs hd hn] at hk
    exact hk
theorem c7_fill {T : Nat → Option q_T} {nx rc rs a n : Nat} {R : Nat → Nat → Option Value} {G : Nat → Int → Int} {v : Int} {K : Option Value → q_M → Prop} (hT : T a = some (.inr (.inl (.int, n)))) (hR : ∀ k, R a k = none) (hn : n < 2 ^ 31) : fJ7_fill_53178 [.ref a, .int (zI v)] (st T nx rc rs R G) K = K none (st T nx rc rs R (flG G a n v)) := by
  have e : (((T, nx, rc, rs), q_fillm (mm R G) a n (.int (zI v))) : q_M) = st T nx rc rs R (flG G a n v) := by
    refine Prod.ext rfl ?_
    funext c k
    show (if c = a ∧ k < n then Value.int (zI v) else mm R G c k) = (R c k).getD (.int (zI (if c = a ∧ (k : Int) < (n : Int) then v else G c (k : Int))))
    by_cases h : c = a ∧ k < n
    · rw [if_pos h, if_pos ⟨h.1, by omega⟩, h.1, hR]
      rfl
    · rw [if_neg h, if_neg (fun q => h ⟨q.1, by omega⟩)]
      rfl
  refine propext (q_dF.is dJ7_fill_53178 ?_ K)
  exact h_fill (μ := st T nx rc rs R G) hT hn ⟨rfl, e⟩
end
section
/-- a stretch of a row written -/
def wr (G : Nat → Int → Int) (a : Nat) (lo hi : Int) (f : Int → Int) : Nat → Int → Int := fun c j => if c = a ∧ lo ≤ j ∧ j < hi then f j else G c j
theorem wr_ne {G : Nat → Int → Int} {a c : Nat} {lo hi : Int} {f : Int → Int} (h : ¬ c = a) : wr G a lo hi f c = G c := by
  funext j
  unfold wr
  rw [if_neg (fun q => h q.1)]
theorem wr_0 (G : Nat → Int → Int) (a : Nat) (lo hi : Int) (f : Int → Int) (h : hi ≤ lo) : wr G a lo hi f = G := by
  funext c j
  unfold wr
  rw [if_neg (fun q => by omega)]
theorem wr_s {G : Nat → Int → Int} {a : Nat} {lo hi v : Int} {f : Int → Int} (h : lo ≤ hi) (hv : v = f hi) : gs (wr G a lo hi f) a hi v = wr G a lo (hi + 1) f := by
  funext c j
  unfold gs wr
  subst hv
  by_cases e : c = a ∧ j = hi
  · obtain ⟨rfl, rfl⟩ := e
    rw [if_pos ⟨rfl, rfl⟩, if_pos ⟨rfl, h, by omega⟩]
  · rw [if_neg e]
    by_cases g : c = a ∧ lo ≤ j ∧ j < hi
    · rw [if_pos g, if_pos ⟨g.1, g.2.1, by omega⟩]
    · rw [if_neg g, if_neg (fun q => by
        have : ¬ j = hi := fun w => e ⟨q.1, w⟩
        exact g ⟨q.1, q.2.1, by omega⟩)]
def fw (g : Int → Int) (lo hi : Int) (f : Int → Int) : Int → Int := fun j => if lo ≤ j ∧ j < hi then f j else g j
theorem wr_eq (G : Nat → Int → Int) (a : Nat) (lo hi : Int) (f : Int → Int) : wr G a lo hi f a = fw (G a) lo hi f := by
  funext j
  unfold wr fw
  by_cases e : lo ≤ j ∧ j < hi
  · rw [if_pos ⟨rfl, e⟩, if_pos e]
  · rw [if_neg (fun q => e q.2), if_neg e]
theorem fw_in {g : Int → Int} {lo hi j : Int} {f : Int → Int} (h1 : lo ≤ j) (h2 : j < hi) : fw g lo hi f j = f j := if_pos ⟨h1, h2⟩
theorem fw_out {g : Int → Int} {lo hi j : Int} {f : Int → Int} (h : j < lo ∨ hi ≤ j) : fw g lo hi f j = g j := if_neg (fun q => by omega)
theorem cp_eq (G : Nat → Int → Int) (a b : Nat) (s d n : Int) : cpG G a s b d n b = fw (G b) d (d + n) (fun j => G a (s + (j - d))) := by
  funext j
  unfold cpG fw
  by_cases e : d ≤ j ∧ j < d + n
  · rw [if_pos ⟨rfl, e⟩, if_pos e]
  · rw [if_neg (fun q => e q.2), if_neg e]
theorem fl_at (G : Nat → Int → Int) (a : Nat) (n v j : Int) : flG G a n v a j = if j < n then v else G a j := by
  unfold flG
  by_cases e : j < n
  · rw [if_pos ⟨rfl, e⟩, if_pos e]
  · rw [if_neg (fun q => e q.2), if_neg e]
end
theorem i10 : ((1 : Int) = 0) = False := by simp
theorem i01 : ((0 : Int) < 1) = True := by simp
section
theorem q_cI {z : Int32} {m0 : q_M} {P : Int32 → q_M → Prop} : (∃ K' : Option Value → q_M → Prop, K' (some (.int z)) m0 ∧ ∀ (r : Option Value) (μ' : q_M), K' r μ' → ∃ v, r = some (.int v) ∧ P v μ') = P z m0 := propext q_callI
theorem q_cR {z : Nat} {m0 : q_M} {P : Nat → q_M → Prop} : (∃ K' : Option Value → q_M → Prop, K' (some (.ref z)) m0 ∧ ∀ (r : Option Value) (μ' : q_M), K' r μ' → ∃ v, r = some (.ref v) ∧ P v μ') = P z m0 :=
  propext ⟨fun ⟨K', h1, h2⟩ => by
    obtain ⟨v, e, hp⟩ := h2 _ _ h1
    cases e
    exact hp, fun h => ⟨fun r m => r = some (.ref z) ∧ m = m0, ⟨rfl, rfl⟩, fun r m ⟨e1, e2⟩ => ⟨z, e1, by rw [e2]; exact h⟩⟩⟩
theorem q_cV {m0 : q_M} {P : q_M → Prop} : (∃ K' : Option Value → q_M → Prop, K' none m0 ∧ ∀ (r : Option Value) (μ' : q_M), K' r μ' → r = none ∧ ∃ _ : Unit, P μ') = P m0 :=
  propext ⟨fun ⟨K', h1, h2⟩ => by
    obtain ⟨e, _, hp⟩ := h2 _ _ h1
    exact hp, fun h => ⟨fun r m => r = none ∧ m = m0, ⟨rfl, rfl⟩, fun r m ⟨e1, e2⟩ => ⟨e1, (), by rw [e2]; exact h⟩⟩⟩
theorem q_cV2 {m0 : q_M} {P : q_M → Prop} : (∃ K' : Option Value → q_M → Prop, K' none m0 ∧ ∀ (r : Option Value) (μ' : q_M), K' r μ' → ∃ _ : Unit, r = none ∧ P μ') = P m0 :=
  propext ⟨fun ⟨K', h1, h2⟩ => by
    obtain ⟨_, e, hp⟩ := h2 _ _ h1
    exact hp, fun h => ⟨fun r m => r = none ∧ m = m0, ⟨rfl, rfl⟩, fun r m ⟨e1, e2⟩ => ⟨(), e1, by rw [e2]; exact h⟩⟩⟩
theorem q_budz (μ : q_M) : q_bud μ.1.2.2.1 μ.1.2.2.2 (q_bud 0 0 μ) = μ := rfl
end
