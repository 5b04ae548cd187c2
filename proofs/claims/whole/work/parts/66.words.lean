/-! words of 32 and 64 bits as numbers -/
def sy_ (W y : Nat) : Int := if y < 2 ^ (W - 1) then (y : Int) else (y : Int) - 2 ^ W
def wd_ (W : Nat) : Prop := W = 32 ∨ W = 64
theorem un_l (a : Int64) : un_ a < 2 ^ 64 := un_lt a
theorem zL_t {a : Int} (h1 : -2 ^ 63 ≤ a) (h2 : a < 2 ^ 63) : (zL a).toInt = a := Int64.toInt_ofInt_of_le (by omega) (by omega)
theorem zL_lt {a b : Int} (h1 : -2 ^ 63 ≤ a ∧ a < 2 ^ 63) (h2 : -2 ^ 63 ≤ b ∧ b < 2 ^ 63) : zL a < zL b ↔ a < b := by rw [Int64.lt_iff_toInt_lt, zL_t h1.1 h1.2, zL_t h2.1 h2.2]
theorem zL_le {a b : Int} (h1 : -2 ^ 63 ≤ a ∧ a < 2 ^ 63) (h2 : -2 ^ 63 ≤ b ∧ b < 2 ^ 63) : zL a ≤ zL b ↔ a ≤ b := by rw [Int64.le_iff_toInt_le, zL_t h1.1 h1.2, zL_t h2.1 h2.2]
theorem zL_eq {a b : Int} (h1 : -2 ^ 63 ≤ a ∧ a < 2 ^ 63) (h2 : -2 ^ 63 ≤ b ∧ b < 2 ^ 63) : zL a = zL b ↔ a = b :=
  ⟨fun h => by have := congrArg Int64.toInt h; rwa [zL_t h1.1 h1.2, zL_t h2.1 h2.2] at this, fun h => by rw [h]⟩
theorem sy_r {W y : Nat} (hW : wd_ W) (hy : y < 2 ^ W) : -2 ^ 63 ≤ sy_ W y ∧ sy_ W y < 2 ^ 63 := by
  unfold sy_
  rcases hW with rfl | rfl <;> split <;> omega
theorem sy_lt {W y z : Nat} (hW : wd_ W) (hy : y < 2 ^ W) (hz : z < 2 ^ W) : sy_ W y = sy_ W z ↔ y = z := by
  unfold sy_
  rcases hW with rfl | rfl <;> split <;> split <;> omega
/-- a number taken from the other side -/
theorem zL_wrap (a : Int) : zL a = zL (a + 2 ^ 64) := by
  apply Int64.toBitVec_inj.mp
  show BitVec.ofInt 64 a = BitVec.ofInt 64 (a + 2 ^ 64)
  apply BitVec.eq_of_toNat_eq
  rw [BitVec.toNat_ofInt, BitVec.toNat_ofInt]
  omega
/-- a word with its sign, as a word of 64 bits -/
def se_ (W y : Nat) : Nat := if y < 2 ^ (W - 1) then y else y + (2 ^ 64 - 2 ^ W)
theorem se_lt {W y : Nat} (hW : wd_ W) (hy : y < 2 ^ W) : se_ W y < 2 ^ 64 := by
  unfold se_
  rcases hW with rfl | rfl <;> split <;> omega
theorem se_e {W y : Nat} (hW : wd_ W) (hy : y < 2 ^ W) : zL (sy_ W y) = lN (se_ W y) := by
  unfold se_ sy_
  rcases hW with rfl | rfl
  · split
    · exact zL_n _
    · rw [zL_wrap, ← zL_n]; congr 1; omega
  · split
    · exact zL_n _
    · rw [zL_wrap, ← zL_n]; congr 1; omega
theorem se_mono {W y z : Nat} (hW : wd_ W) (hy : y < 2 ^ W) (hz : z < 2 ^ W) : (se_ W y < se_ W z ↔ y < z) ∧ (se_ W y = se_ W z ↔ y = z) := by
  unfold se_
  rcases hW with rfl | rfl <;> split <;> split <;> omega
theorem nI_ti {y : Nat} (h : y < 2 ^ 32) : (nI y).toInt = sy_ 32 y := by
  show (Int32.ofNat y).toBitVec.toInt = _
  rw [BitVec.toInt_eq_toNat_cond, show (Int32.ofNat y).toBitVec.toNat = y from pk_tn h]
  unfold sy_
  split <;> split <;> omega
theorem nI_sx {y : Nat} (h : y < 2 ^ 32) : Int32.toInt64 (nI y) = zL (sy_ 32 y) := by
  have hr := sy_r (W := 32) (Or.inl rfl) h
  apply Int64.toInt_inj.mp
  rw [Int32.toInt_toInt64, nI_ti h, zL_t hr.1 hr.2]
theorem low_W {W : Nat} (hW : wd_ W) (a : Int64) : q_Bits_lowest (nI W) a = lN (un_ a % 2 ^ W) := by
  rcases hW with rfl | rfl
  · show a &&& (4294967295 : Int64) = _
    obtain ⟨n, hn, rfl⟩ := wb_of a
    rw [un_of hn]
    exact wb_mask (k := 32) hn (by decide)
  · show a = _
    rw [Nat.mod_eq_of_lt (un_lt a)]
    exact un_lN a
theorem sig_W {W : Nat} (hW : wd_ W) (a : Int64) : q_Bits_signed (nI W) a = zL (sy_ W (un_ a % 2 ^ W)) := by
  rcases hW with rfl | rfl
  · show Int32.toInt64 (Int64.toInt32 a) = _
    obtain ⟨n, hn, rfl⟩ := wb_of a
    rw [un_of hn, lN_i, nI_md, nI_sx (Nat.mod_lt _ (by decide))]
  · show a = _
    rw [Nat.mod_eq_of_lt (un_lt a), se_e (Or.inr rfl) (un_lt a), show se_ 64 (un_ a) = un_ a by unfold se_; split <;> omega]
    exact un_lN a
theorem lo32_ (a : Int64) : a &&& (4294967295 : Int64) = lN (un_ a % 2 ^ 32) := low_W (Or.inl rfl) a
theorem mk_even {k : Int32} (h : k - k / 2 * 2 = 0) (a : Int64) : mk1_ k a = lN (un_ a % 2 ^ 32) := by unfold mk1_; rw [if_pos h]; exact lo32_ a
theorem mk_odd {k : Int32} (h : ¬ k - k / 2 * 2 = 0) (a : Int64) : mk1_ k a = lN (un_ a % 2 ^ 64) := by unfold mk1_; rw [if_neg h, Nat.mod_eq_of_lt (un_lt a)]; exact un_lN a
theorem ws_W {W y : Nat} (hW : wd_ W) (hy : y < 2 ^ W) : q_Ref_withSign (lN y) (nI W) = zL (sy_ W y) := by
  rcases hW with rfl | rfl
  · unfold q_Ref_withSign
    rw [if_neg (show ¬ nI 32 = (64 : Int32) by decide), show nI 32 - (1 : Int32) = nI 31 from rfl, shr_lN (k := 31) (by omega) (by decide), wb_a1 (by omega)]
    have e : lN (y / 2 ^ 31 % 2) = 0 ↔ y < 2 ^ 31 := by
      rw [lN_z64 (by omega)]
      omega
    unfold sy_
    by_cases c : y < 2 ^ 31
    · rw [if_pos (e.mpr c), if_pos c, zL_n]
    · rw [if_neg (fun z => c (e.mp z)), if_neg c, show shl_ (-1 : Int64) (nI 32) = lN ((2 ^ 32 - 1) * 2 ^ 32) by decide, g_or' (k := 32) (p := 2 ^ 32) rfl hy (by omega), zL_wrap, ← zL_n]
      congr 1
      omega
  · show lN y = _
    rw [se_e (Or.inr rfl) hy, show se_ 64 y = y by unfold se_; split <;> omega]
theorem cu_e {a b : Nat} (ha : a < 2 ^ 64) (hb : b < 2 ^ 64) : q_Long_compareUnsigned (lN a) (lN b) = if a < b then -1 else if a = b then 0 else 1 := by
  have mt : ∀ {a : Nat}, a < 2 ^ 64 → (lN a + (-9223372036854775808)).toInt = (a : Int) - 2 ^ 63 := fun {a} h => by
    rw [show (-9223372036854775808 : Int64) = lN (2 ^ 63) by decide, lN_add, wb_mod, lN_ti (Nat.mod_lt _ (by decide))]
    split <;> omega
  unfold q_Long_compareUnsigned q_Long_compare
  have e1 : (lN b + (-9223372036854775808) ≤ lN a + (-9223372036854775808)) ↔ b ≤ a := by rw [Int64.le_iff_toInt_le, mt ha, mt hb]; omega
  have e2 : (lN a + (-9223372036854775808) = lN b + (-9223372036854775808)) ↔ a = b := by rw [← Int64.toInt_inj, mt ha, mt hb]; omega
  by_cases c1 : a < b
  · rw [if_neg (fun z => by have := e1.mp z; omega), if_pos c1]
  · rw [if_pos (e1.mpr (by omega)), if_neg c1]
    by_cases c2 : a = b
    · rw [if_pos (e2.mpr c2), if_pos c2]
    · rw [if_neg (fun z => c2 (e2.mp z)), if_neg c2]
theorem be_e {a b : Nat} (ha : a < 2 ^ 64) (hb : b < 2 ^ 64) : q_Ref_below (lN a) (lN b) = if a < b then 1 else 0 := by
  unfold q_Ref_below
  have e := ultL ha hb
  by_cases c : a < b
  · rw [if_pos c, if_neg (fun z => by have := e.mp z; omega)]
  · rw [if_neg c, if_pos (e.mpr (by omega))]
