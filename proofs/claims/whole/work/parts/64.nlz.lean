/-! leading zeros -/
theorem log2_div_ {n s : Nat} (h : 2 ^ s ≤ n) : n.log2 = (n / 2 ^ s).log2 + s := by
  have hp := Nat.two_pow_pos s
  have h0 : n / 2 ^ s ≠ 0 := by
    have := (Nat.le_div_iff_mul_le hp (x := 1) (y := n)).mpr (by omega)
    omega
  have e := log2_fill_ (m := n / 2 ^ s) (r := n % 2 ^ s) (j := s) (Nat.pos_of_ne_zero h0) (Nat.mod_lt _ hp)
  rw [Nat.div_add_mod'] at e
  exact e
theorem iush_nI {n k : Nat} (hn : n < 2 ^ 32) (y : Int32) (hy : ((y.toUInt32 &&& Int32.toUInt32 31).toBitVec % 32).toNat = k) : iush_ (nI n) y = nI (n / 2 ^ k) := pk_ushrN hn y k hy
def nl5_ (i n : Int32) : Int32 := n - iush_ i 1
def nl4_ (i n : Int32) : Int32 := if i < 4 then nl5_ i n else nl5_ (iush_ i 2) (n + (-2))
def nl3_ (i n : Int32) : Int32 := if i < 16 then nl4_ i n else nl4_ (iush_ i 4) (n + (-4))
def nl2_ (i n : Int32) : Int32 := if i < 256 then nl3_ i n else nl3_ (iush_ i 8) (n + (-8))
def nl1_ (i n : Int32) : Int32 := if i < 65536 then nl2_ i n else nl2_ (iush_ i 16) (n + (-16))
theorem nl5_e {n k : Nat} (h0 : 0 < n) (h : n < 4) (hk : k < 64) (hk2 : 1 ≤ k) : nl5_ (nI n) (nI k) = nI (k - n.log2) := by
  unfold nl5_
  rw [iush_nI (k := 1) (by omega) 1 (by decide), pk_sub (by omega)]
  have h3 : n = 1 ∨ n = 2 ∨ n = 3 := by omega
  rcases h3 with rfl | rfl | rfl <;> rfl
theorem nl_add {k j : Nat} (h : j ≤ k) : nI k + (-(nI j)) = nI (k - j) := by
  rw [← pk_sub h, Int32.sub_eq_add_neg]
theorem nl4_e {n k : Nat} (h0 : 0 < n) (h : n < 16) (hk : k < 64) (hk2 : 3 ≤ k) : nl4_ (nI n) (nI k) = nI (k - n.log2) := by
  unfold nl4_
  have hc : nI n < 4 ↔ n < 4 := nI_ltI (b := 4) (by omega) (by decide)
  by_cases c : n < 4
  · rw [if_pos (hc.mpr c), nl5_e h0 c hk (by omega)]
  · rw [if_neg (fun z => c (hc.mp z)), iush_nI (k := 2) (by omega) 2 (by decide), show nI k + (-2) = nI (k - 2) from nl_add (j := 2) (by omega), nl5_e (by omega) (by omega) (by omega) (by omega), log2_div_ (n := n) (s := 2) (by omega)]
    congr 1; omega
theorem nl3_e {n k : Nat} (h0 : 0 < n) (h : n < 256) (hk : k < 64) (hk2 : 7 ≤ k) : nl3_ (nI n) (nI k) = nI (k - n.log2) := by
  unfold nl3_
  have hc : nI n < 16 ↔ n < 16 := nI_ltI (b := 16) (by omega) (by decide)
  by_cases c : n < 16
  · rw [if_pos (hc.mpr c), nl4_e h0 c hk (by omega)]
  · rw [if_neg (fun z => c (hc.mp z)), iush_nI (k := 4) (by omega) 4 (by decide), show nI k + (-4) = nI (k - 4) from nl_add (j := 4) (by omega), nl4_e (by omega) (by omega) (by omega) (by omega), log2_div_ (n := n) (s := 4) (by omega)]
    congr 1; omega
theorem nl2_e {n k : Nat} (h0 : 0 < n) (h : n < 65536) (hk : k < 64) (hk2 : 15 ≤ k) : nl2_ (nI n) (nI k) = nI (k - n.log2) := by
  unfold nl2_
  have hc : nI n < 256 ↔ n < 256 := nI_ltI (b := 256) (by omega) (by decide)
  by_cases c : n < 256
  · rw [if_pos (hc.mpr c), nl3_e h0 c hk (by omega)]
  · rw [if_neg (fun z => c (hc.mp z)), iush_nI (k := 8) (by omega) 8 (by decide), show nI k + (-8) = nI (k - 8) from nl_add (j := 8) (by omega), nl3_e (by omega) (by omega) (by omega) (by omega), log2_div_ (n := n) (s := 8) (by omega)]
    congr 1; omega
theorem nl1_e {n : Nat} (h0 : 0 < n) (h : n < 2 ^ 31) : nl1_ (nI n) 31 = nI (31 - n.log2) := by
  unfold nl1_
  have hc : nI n < 65536 ↔ n < 65536 := nI_ltI (b := 65536) (by omega) (by decide)
  by_cases c : n < 65536
  · rw [if_pos (hc.mpr c)]
    exact nl2_e (k := 31) h0 c (by omega) (by omega)
  · rw [if_neg (fun z => c (hc.mp z)), iush_nI (k := 16) (by omega) 16 (by decide), show (31 : Int32) + (-16) = nI 15 by decide, nl2_e (by omega) (by omega) (by omega) (by omega), log2_div_ (n := n) (s := 16) (by omega)]
    congr 1; omega

theorem nlz_i {n : Nat} (h0 : 0 < n) (h : n < 2 ^ 32) : q_Integer_numberOfLeadingZeros (nI n) = nI (31 - n.log2) := by
  by_cases c : n < 2 ^ 31
  · have hp : (0 : Int32) < nI n := (nI_ltI (a := 0) (by decide) c).mpr h0
    unfold q_Integer_numberOfLeadingZeros
    rw [if_pos hp]
    exact nl1_e h0 c
  · have e : n.log2 = 31 := (Nat.log2_eq_iff (by omega)).mpr ⟨by omega, by omega⟩
    have hneg : (nI n).toInt = (n : Int) - 2 ^ 32 := by
      show (Int32.ofNat n).toBitVec.toInt = _
      rw [BitVec.toInt_eq_toNat_cond, show (Int32.ofNat n).toBitVec.toNat = n from pk_tn h]
      split <;> omega
    have hp : ¬ (0 : Int32) < nI n := by
      rw [Int32.lt_iff_toInt_lt, hneg, show (0 : Int32).toInt = 0 from rfl]; omega
    have hz : ¬ nI n = 0 := fun z => by rw [z, show (0 : Int32).toInt = 0 from rfl] at hneg; omega
    unfold q_Integer_numberOfLeadingZeros
    rw [if_neg hp, if_neg hz, e]
    rfl
theorem nI_z32 {n : Nat} (h : n < 2 ^ 32) (z : nI n = 0) : n = 0 := by
  have e := congrArg (fun q : Int32 => q.toBitVec.toNat) z
  exact (pk_tn h).symm.trans e
theorem nI_md (n : Nat) : nI n = nI (n % 2 ^ 32) := by
  apply Int32.toBitVec_inj.mp
  show BitVec.ofNat 32 n = BitVec.ofNat 32 (n % 2 ^ 32)
  apply BitVec.eq_of_toNat_eq
  rw [BitVec.toNat_ofNat, BitVec.toNat_ofNat, Nat.mod_mod]
theorem nlz_e {m : Nat} (h0 : 0 < m) (hm : m < 2 ^ 64) : q_Long_numberOfLeadingZeros (lN m) = nI (63 - m.log2) := by
  unfold q_Long_numberOfLeadingZeros
  rw [show (32 : Int32) = nI 32 from rfl, ush_lN hm (by decide), lN_i, lN_i]
  by_cases c : m < 2 ^ 32
  · rw [Nat.div_eq_of_lt c, if_pos (show nI 0 = 0 from rfl), nlz_i h0 c]
    have hL : m.log2 < 32 := (Nat.log2_lt (by omega)).mpr c
    rw [nI_add]; congr 1; omega
  · have hq : m / 2 ^ 32 < 2 ^ 32 := by omega
    have hne : ¬ nI (m / 2 ^ 32) = 0 := fun z => by have := nI_z32 hq z; omega
    rw [if_neg hne, nlz_i (by omega) hq, log2_div_ (n := m) (s := 32) (by omega)]
    congr 1; omega
theorem nlz_0 : q_Long_numberOfLeadingZeros 0 = 64 := by decide
