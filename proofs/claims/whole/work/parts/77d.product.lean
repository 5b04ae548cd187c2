/-! products -/
theorem mh_e {m n : Nat} (hm : m < 2 ^ 62) (hn : n < 2 ^ 62) : q_Math_multiplyHigh (lN m) (lN n) = lN (m * n / 2 ^ 64) := by
  have e1 : shr_ (lN m) (32 : Int32) = lN (m / 2 ^ 32) := shr_lN63 (k := 32) (by omega) (by decide)
  have e2 : shr_ (lN n) (32 : Int32) = lN (n / 2 ^ 32) := shr_lN63 (k := 32) (by omega) (by decide)
  have e3 : lN m &&& (4294967295 : Int64) = lN (m % 2 ^ 32) := wb_mask (k := 32) (by omega) (by decide)
  have e4 : lN n &&& (4294967295 : Int64) = lN (n % 2 ^ 32) := wb_mask (k := 32) (by omega) (by decide)
  have hN : m * n = m / 2 ^ 32 * (n / 2 ^ 32) * 2 ^ 64 + (m / 2 ^ 32 * (n % 2 ^ 32) + m % 2 ^ 32 * (n / 2 ^ 32)) * 2 ^ 32 + m % 2 ^ 32 * (n % 2 ^ 32) := by
    have d1 := Nat.div_add_mod m (2 ^ 32)
    have d2 := Nat.div_add_mod n (2 ^ 32)
    generalize m / 2 ^ 32 = x1 at *
    generalize m % 2 ^ 32 = x2 at *
    generalize n / 2 ^ 32 = y1 at *
    generalize n % 2 ^ 32 = y2 at *
    rw [← d1, ← d2, Nat.add_mul, Nat.mul_add, Nat.mul_add, Nat.mul_mul_mul_comm, Nat.mul_assoc (2 ^ 32) x1 y2, Nat.mul_left_comm x2 (2 ^ 32) y1]
    generalize x1 * y1 = a
    generalize x1 * y2 = b
    generalize x2 * y1 = c
    generalize x2 * y2 = d
    omega
  have b12 : m / 2 ^ 32 * (n % 2 ^ 32) < 2 ^ 62 := by
    have h1 : m / 2 ^ 32 * (n % 2 ^ 32) ≤ 2 ^ 30 * (n % 2 ^ 32) := Nat.mul_le_mul_right _ (by omega)
    omega
  have b21 : m % 2 ^ 32 * (n / 2 ^ 32) < 2 ^ 62 := by
    have h1 : m % 2 ^ 32 * (n / 2 ^ 32) ≤ m % 2 ^ 32 * 2 ^ 30 := Nat.mul_le_mul_left _ (by omega)
    omega
  have b22 : m % 2 ^ 32 * (n % 2 ^ 32) < 2 ^ 64 := by
    have h1 : m % 2 ^ 32 * (n % 2 ^ 32) ≤ 2 ^ 32 * (n % 2 ^ 32) := Nat.mul_le_mul_right _ (by omega)
    omega
  unfold q_Math_multiplyHigh
  rw [e1, e2, e3, e4, lN_mul, lN_mul, lN_mul, lN_mul, hN]
  clear e1 e2 e3 e4 hN hm hn
  generalize m / 2 ^ 32 * (n / 2 ^ 32) = a at *
  generalize m / 2 ^ 32 * (n % 2 ^ 32) = b at *
  generalize m % 2 ^ 32 * (n / 2 ^ 32) = c at *
  generalize m % 2 ^ 32 * (n % 2 ^ 32) = d at *
  rw [show ush_ (lN d) (32 : Int32) = lN (d / 2 ^ 32) from ush_lN (k := 32) b22 (by decide), lN_add]
  have ht : b + d / 2 ^ 32 < 2 ^ 63 := by omega
  rw [show shr_ (lN (b + d / 2 ^ 32)) (32 : Int32) = lN ((b + d / 2 ^ 32) / 2 ^ 32) from shr_lN63 (k := 32) ht (by decide), show lN (b + d / 2 ^ 32) &&& (4294967295 : Int64) = lN ((b + d / 2 ^ 32) % 2 ^ 32) from wb_mask (k := 32) (by omega) (by decide), lN_add, lN_add,
    show shr_ (lN ((b + d / 2 ^ 32) % 2 ^ 32 + c)) (32 : Int32) = lN (((b + d / 2 ^ 32) % 2 ^ 32 + c) / 2 ^ 32) from shr_lN63 (k := 32) (by omega) (by decide), lN_add]
  congr 1
  have e : (a * 2 ^ 64 + (b + c) * 2 ^ 32 + d) / 2 ^ 64 = (a * 2 ^ 32 + (b + d / 2 ^ 32 + c)) / 2 ^ 32 := by
    rw [show (2 : Nat) ^ 64 = 2 ^ 32 * 2 ^ 32 from rfl, ← Nat.div_div_eq_div_mul]
    congr 1
    omega
  rw [e]
  clear e b12 b21 b22
  generalize b + d / 2 ^ 32 = t at *
  omega
/-- a significand moved up -/
theorem fa_e {i W F B n : Nat} (h : ff_ i W F B) (hn : n < 2 ^ W) (hz : q_Form_isZero i (lN n) = 0) : ∃ j : Nat, 9 ≤ j ∧ j ≤ 61 ∧ q_Floats_raised i (lN n) = lN (sg_ F (n % 2 ^ (W - 1)) * 2 ^ j) ∧ q_Floats_raisedScale i (lN n) = zI (((ex_ F (n % 2 ^ (W - 1)) : Nat) : Int) - B - F - j) ∧ 2 ^ 61 ≤ sg_ F (n % 2 ^ (W - 1)) * 2 ^ j ∧ sg_ F (n % 2 ^ (W - 1)) * 2 ^ j < 2 ^ 62 := by
  have hpos : 0 < sg_ F (n % 2 ^ (W - 1)) := sg_pos (Nat.pos_of_ne_zero ((nn_z h hn).mp hz))
  have hl := ff_sgl h n
  unfold q_Floats_raised q_Floats_raisedScale
  rw [cs_sg h hn, cs_sc h hn]
  generalize sg_ F (n % 2 ^ (W - 1)) = m at *
  generalize ((ex_ F (n % 2 ^ (W - 1)) : Nat) : Int) - B - F = x
  have hL : m.log2 < 53 := (Nat.log2_lt (by omega)).mpr hl
  obtain ⟨lo, hi⟩ := log2_bd_ hpos
  have e : nI (63 - m.log2) - (2 : Int32) = nI (61 - m.log2) := (pk_sub (b := 2) (by omega)).trans (by congr 1; omega)
  refine ⟨61 - m.log2, by omega, by omega, ?_, ?_, ?_, ?_⟩
  · rw [nlz_e hpos (by omega), e, shl_lN m (by omega)]
  · rw [nlz_e hpos (by omega), e, ← zI_n, zI_sub]
  · have := Nat.mul_le_mul_right (2 ^ (61 - m.log2)) lo
    rw [← Nat.pow_add, show m.log2 + (61 - m.log2) = 61 by omega] at this
    exact this
  · have := Nat.mul_lt_mul_of_pos_right hi (Nat.two_pow_pos (61 - m.log2))
    rw [← Nat.pow_add, show m.log2 + 1 + (61 - m.log2) = 62 by omega] at this
    exact this
theorem mk_pos {m r : Nat} (h : 0 < m) : 0 < mk_ m r := by
  unfold mk_
  split
  · exact h
  · rw [or1_]; omega
theorem rf_Q {F B m P : Nat} (hm : 0 < m) : rR_ F B (2 * (m * 2 ^ P) + (if (0 : Int32) = 0 then 0 else 1)) (-2201) = rR_ F B m ((P : Int) - 2200) := by
  have := rf_P (F := F) (B := B) (P := P) hm
  rw [Nat.zero_add] at this
  exact this
theorem ff_F2 {i W F B : Nat} (h : ff_ i W F B) : F + 2 ≤ 54 := by rcases h with ⟨-, -, rfl, -⟩ | ⟨-, -, rfl, -⟩ <;> decide
theorem ff_x2 {i W F B : Nat} (h : ff_ i W F B) (n : Nat) : -1074 ≤ ((ex_ F (n % 2 ^ (W - 1)) : Nat) : Int) - B - F ∧ ((ex_ F (n % 2 ^ (W - 1)) : Nat) : Int) - B - F ≤ 972 := by
  have he := ff_e h n
  unfold ex_
  generalize n % 2 ^ (W - 1) / 2 ^ F = q at *
  rcases h with ⟨rfl, rfl, rfl, rfl⟩ | ⟨rfl, rfl, rfl, rfl⟩ <;> omega
theorem pr_main {i W F B n k : Nat} (h : ff_ i W F B) (hn : n < 2 ^ W) (hk : k < 2 ^ W) (hz1 : q_Form_isZero i (lN n) = 0) (hz2 : q_Form_isZero i (lN k) = 0) (sg : Int64) :
    q_Form_rounded i sg (q_Bits_marked (q_Math_multiplyHigh (q_Floats_raised i (lN n)) (q_Floats_raised i (lN k))) ((q_Floats_raised i (lN n)) * (q_Floats_raised i (lN k)))) (((q_Floats_raisedScale i (lN n)) + (q_Floats_raisedScale i (lN k))) + (64 : Int32)) = sg ||| lN (rR_ F B (2 * (un_ (q_Ref_split_am (nI W) (nI F) (nI B) (lN n)) * un_ (q_Ref_split_am (nI W) (nI F) (nI B) (lN k)) * 2 ^ (w2_ (q_Ref_split_we (nI W) (nI F) (nI B) (lN n)) (q_Ref_split_we (nI W) (nI F) (nI B) (lN k)))) + (if (0 : Int32) = 0 then 0 else 1)) (-2201)) := by
  obtain ⟨j1, a1, a2, a3, a4, a5, a6⟩ := fa_e h hn hz1
  obtain ⟨j2, b1, b2, b3, b4, b5, b6⟩ := fa_e h hk hz2
  have p1 : 0 < sg_ F (n % 2 ^ (W - 1)) := sg_pos (Nat.pos_of_ne_zero ((nn_z h hn).mp hz1))
  have p2 : 0 < sg_ F (k % 2 ^ (W - 1)) := sg_pos (Nat.pos_of_ne_zero ((nn_z h hk).mp hz2))
  have l1 := ff_sgl h n
  have l2 := ff_sgl h k
  have x1 := ff_x2 h n
  have x2 := ff_x2 h k
  have hF := ff_F2 h
  rw [a3, b3, a4, b4, rs_am h hn, rs_am h hk, un_of (by omega), un_of (by omega), rs_we h hn, rs_we h hk, rf_Q (Nat.mul_pos p1 p2), mh_e a6 b6, lN_mul]
  clear a3 b3 a4 b4
  generalize ((ex_ F (n % 2 ^ (W - 1)) : Nat) : Int) - B - F = x at *
  generalize ((ex_ F (k % 2 ^ (W - 1)) : Nat) : Int) - B - F = y at *
  have ew : ((w2_ (zI x) (zI y) : Nat) : Int) - 2200 = x + y ∨ x + y < -2200 := by
    unfold w2_
    rw [zI_t ⟨by omega, by omega⟩, zI_t ⟨by omega, by omega⟩]
    omega
  have hxy : -2200 ≤ x + y := by omega
  rw [ew.resolve_right (by omega)]
  have hMN : 2 ^ 61 * 2 ^ 61 ≤ sg_ F (n % 2 ^ (W - 1)) * 2 ^ j1 * (sg_ F (k % 2 ^ (W - 1)) * 2 ^ j2) := Nat.mul_le_mul a5 b5
  have eMN : sg_ F (n % 2 ^ (W - 1)) * 2 ^ j1 * (sg_ F (k % 2 ^ (W - 1)) * 2 ^ j2) = sg_ F (n % 2 ^ (W - 1)) * sg_ F (k % 2 ^ (W - 1)) * 2 ^ (j1 + j2) := by
    rw [Nat.mul_mul_mul_comm, Nat.pow_add]
  have hsh := rR_shift_ (F := F) (B := B) (j1 + j2) (e := x - j1 + (y - j2)) (Nat.mul_pos p1 p2)
  rw [← eMN] at hsh
  have hlt : sg_ F (n % 2 ^ (W - 1)) * 2 ^ j1 * (sg_ F (k % 2 ^ (W - 1)) * 2 ^ j2) < 2 ^ 62 * 2 ^ 62 := Nat.mul_lt_mul'' a6 b6
  clear eMN
  generalize sg_ F (n % 2 ^ (W - 1)) * 2 ^ j1 * (sg_ F (k % 2 ^ (W - 1)) * 2 ^ j2) = MN at *
  have hq : 2 ^ 58 ≤ MN / 2 ^ 64 := by omega
  rw [wb_mod MN, marked_e (by omega) (Nat.mod_lt _ (by decide)), show (64 : Int32) = zI 64 from rfl, zI_add, zI_add, rounded_e (ff_b h) (mk_pos (by omega)) (mk_lt_ (by omega)) ⟨by omega, by omega⟩]
  have hm := rR_mark_ (F := F) (B := B) (m := MN / 2 ^ 64) (r := MN % 2 ^ 64) (j := 64) (e := x - j1 + (y - j2)) (by omega) (Nat.mod_lt _ (by decide)) (fun _ => by
    have : 58 ≤ (MN / 2 ^ 64).log2 := (Nat.le_log2 (by omega)).mpr hq
    omega)
  rw [Nat.div_add_mod'] at hm
  have e3 : x - (j1 : Int) + (y - j2) + ((j1 + j2 : Nat) : Int) = x + y := by omega
  rw [e3] at hsh
  rw [← hsh, hm]
  rfl
theorem pr_e {i W F B n k : Nat} (h : ff_ i W F B) (hn : n < 2 ^ W) (hk : k < 2 ^ W) : q_Floats_product i (lN n) (lN k) = q_Ref_product F B (nI W) (nI F) (nI B) (lN n) (lN k) := by
  unfold q_Floats_product q_Ref_product
  rw [rs_in h hn, rs_in h hk, rs_z h hn, rs_z h hk, rs_is h, rs_sx h hn hk, rs_sx h hn hk, rs_sx h hn hk, ff_n h, or_0]
  by_cases z1 : q_Form_isZero i (lN n) = 0
  · by_cases z2 : q_Form_isZero i (lN k) = 0
    · rw [pr_main h hn hk z1 z2]
      by_cases c1 : q_Form_isInfinite i (lN n) = 0 <;> by_cases c2 : q_Form_isInfinite i (lN k) = 0 <;> simp only [z1, z2, c1, c2, ↓reduceIte]
    · by_cases c1 : q_Form_isInfinite i (lN n) = 0 <;> by_cases c2 : q_Form_isInfinite i (lN k) = 0 <;> simp only [z1, z2, c1, c2, ↓reduceIte]
  · by_cases z2 : q_Form_isZero i (lN k) = 0 <;> by_cases c1 : q_Form_isInfinite i (lN n) = 0 <;> by_cases c2 : q_Form_isInfinite i (lN k) = 0 <;> simp only [z1, z2, c1, c2, ↓reduceIte]
