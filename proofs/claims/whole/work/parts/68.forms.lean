/-! floats as numbers: the class's words and the reference's -/
theorem zL_md (z : Int) : zL z = lN (z % 2 ^ 64).toNat := by
  apply Int64.toBitVec_inj.mp
  show BitVec.ofInt 64 z = BitVec.ofNat 64 _
  apply BitVec.eq_of_toNat_eq
  rw [BitVec.toNat_ofInt, BitVec.toNat_ofNat]
  omega
theorem shr_t (x : Int64) {k : Nat} (hk : k < 64) : (shr_ x (nI k)).toInt = x.toInt / ((2 ^ k : Nat) : Int) := by
  unfold shr_
  rw [wb_c k hk]
  have hD : ((lN k).toBitVec.smod 64).toNat = k := by rw [wb_tb, wb_sm k hk, BitVec.toNat_ofNat, Nat.mod_eq_of_lt (by omega)]
  have e : (x >>> lN k).toInt = x.toInt >>> k := by
    show (x.toBitVec.sshiftRight ((lN k).toBitVec.smod 64).toNat).toInt = _
    rw [hD]
    exact BitVec.toInt_sshiftRight ..
  rw [e, Int.shiftRight_eq_div_pow]
theorem shr_bit {n k : Nat} (hn : n < 2 ^ 64) (hk : k < 64) : shr_ (lN n) (nI k) &&& 1 = lN (n / 2 ^ k % 2) := by
  have e := shr_t (lN n) hk
  rw [lN_ti hn] at e
  have hp := Nat.two_pow_pos k
  have hq : (n : Int) / ((2 ^ k : Nat) : Int) = ((n / 2 ^ k : Nat) : Int) := (Int.natCast_ediv n (2 ^ k)).symm
  rw [zL_of (shr_ (lN n) (nI k)), e, zL_md, wb_a1 (by omega)]
  congr 1
  split
  · rw [hq]
    generalize n / 2 ^ k = q
    omega
  · have e2 : (2 : Nat) ^ 64 = 2 ^ k * (2 * 2 ^ (63 - k)) := by rw [← Nat.pow_succ', ← Nat.pow_add]; congr 1; omega
    have e3 : (n : Int) - 2 ^ 64 = (n : Int) + ((2 ^ k : Nat) : Int) * (-(2 * ((2 ^ (63 - k) : Nat) : Int))) := by
      have := congrArg (fun q : Nat => (q : Int)) e2
      simp only [Int.natCast_mul] at this
      rw [Int.mul_neg]
      generalize ((2 ^ k : Nat) : Int) * (((2 : Nat) : Int) * ((2 ^ (63 - k) : Nat) : Int)) = t at *
      omega
    rw [e3, Int.add_mul_ediv_left _ _ (by omega), hq]
    generalize n / 2 ^ k = q
    generalize (2 : Nat) ^ (63 - k) = t
    omega
theorem lN_le63 {a b : Nat} (ha : a < 2 ^ 63) (hb : b < 2 ^ 63) : lN a ≤ lN b ↔ a ≤ b := by rw [Int64.le_iff_toInt_le, lN_ti (by omega), lN_ti (by omega), if_pos ha, if_pos hb]; omega
theorem lN_lt63 {a b : Nat} (ha : a < 2 ^ 63) (hb : b < 2 ^ 63) : lN a < lN b ↔ a < b := by rw [Int64.lt_iff_toInt_lt, lN_ti (by omega), lN_ti (by omega), if_pos ha, if_pos hb]; omega
theorem and_bit_ (n k : Nat) : n &&& 2 ^ k = n / 2 ^ k % 2 * 2 ^ k := by
  apply Nat.eq_of_testBit_eq
  intro j
  rcases Nat.mod_two_eq_zero_or_one (n / 2 ^ k) with z | z
  · rw [z, Nat.zero_mul, Nat.testBit_and, Nat.testBit_two_pow, Nat.zero_testBit]
    by_cases c : k = j
    · subst c
      rw [Nat.testBit_eq_decide_div_mod_eq, z]; rfl
    · rw [decide_eq_false c, Bool.and_false]
  · rw [z, Nat.one_mul, Nat.testBit_and, Nat.testBit_two_pow]
    by_cases c : k = j
    · subst c
      rw [Nat.testBit_eq_decide_div_mod_eq, z]; simp
    · rw [decide_eq_false c, Bool.and_false]
theorem and_bit {n k : Nat} (hn : n < 2 ^ 64) (hk : k < 64) : lN n &&& lN (2 ^ k) = lN (n / 2 ^ k % 2 * 2 ^ k) := by
  rw [wb_and hn (Nat.pow_lt_pow_right (by decide) hk), and_bit_]
/-- i is the form of width W, F fraction bits and bias B -/
def ff_ (i W F B : Nat) : Prop := (i = 0 ∧ W = 32 ∧ F = 23 ∧ B = 127) ∨ (i = 1 ∧ W = 64 ∧ F = 52 ∧ B = 1023)
theorem ff_0 : ff_ 0 32 23 127 := Or.inl ⟨rfl, rfl, rfl, rfl⟩
theorem ff_1 : ff_ 1 64 52 1023 := Or.inr ⟨rfl, rfl, rfl, rfl⟩
theorem ff_b {i W F B : Nat} (h : ff_ i W F B) : fb_ i F B := by
  rcases h with ⟨a, -, b, c⟩ | ⟨a, -, b, c⟩
  · exact Or.inl ⟨a, b, c⟩
  · exact Or.inr ⟨a, b, c⟩
theorem ff_R {i W F B : Nat} (h : ff_ i W F B) : fmR (nI W) (nI F) (nI B) F B := by
  rcases h with ⟨-, rfl, rfl, rfl⟩ | ⟨-, rfl, rfl, rfl⟩
  · exact Or.inl ⟨rfl, rfl, rfl, rfl, rfl⟩
  · exact Or.inr ⟨rfl, rfl, rfl, rfl, rfl⟩
theorem ff_s {i W F B : Nat} (h : ff_ i W F B) : fm_s i = lN (2 ^ (W - 1)) := by rcases h with ⟨rfl, rfl, rfl, rfl⟩ | ⟨rfl, rfl, rfl, rfl⟩ <;> decide
theorem ff_n {i W F B : Nat} (h : ff_ i W F B) : fm_n i = q_Ref_noNumber (nI W) := by rcases h with ⟨rfl, rfl, rfl, rfl⟩ | ⟨rfl, rfl, rfl, rfl⟩ <;> decide
theorem ff_w {i W F B : Nat} (h : ff_ i W F B) : W - 1 < 64 := by rcases h with ⟨rfl, rfl, rfl, rfl⟩ | ⟨rfl, rfl, rfl, rfl⟩ <;> decide
theorem ff_64 {i W F B n : Nat} (h : ff_ i W F B) (hn : n < 2 ^ W) : n < 2 ^ 64 := by rcases h with ⟨rfl, rfl, rfl, rfl⟩ | ⟨rfl, rfl, rfl, rfl⟩ <;> omega
theorem ff_inf {i W F B : Nat} (h : ff_ i W F B) : (2 * B + 1) * 2 ^ F < 2 ^ (W - 1) ∧ 2 ^ (W - 1) ≤ 2 ^ 63 ∧ 2 ^ W = 2 * 2 ^ (W - 1) ∧ 2 ^ (W - 1) = (2 * B + 2) * 2 ^ F := by rcases h with ⟨rfl, rfl, rfl, rfl⟩ | ⟨rfl, rfl, rfl, rfl⟩ <;> decide
theorem ff_y {i W F B : Nat} (h : ff_ i W F B) (n : Nat) : n % 2 ^ (W - 1) < 2 ^ (W - 1) := Nat.mod_lt _ (Nat.two_pow_pos _)
theorem ff_y63 {i W F B : Nat} (h : ff_ i W F B) (n : Nat) : n % 2 ^ (W - 1) < 2 ^ 63 := Nat.lt_of_lt_of_le (ff_y h n) (ff_inf h).2.1
theorem ff_e {i W F B : Nat} (h : ff_ i W F B) (n : Nat) : n % 2 ^ (W - 1) / 2 ^ F < 2 ^ 11 ∧ n % 2 ^ (W - 1) / 2 ^ F ≤ 2 * B + 1 := by
  have hy := ff_y h n
  rcases h with ⟨rfl, rfl, rfl, rfl⟩ | ⟨rfl, rfl, rfl, rfl⟩ <;> omega
theorem cs_wo {i W F B n : Nat} (h : ff_ i W F B) (hn : n < 2 ^ W) : q_Form_withoutSign i (lN n) = lN (n % 2 ^ (W - 1)) := by
  have h64 := ff_64 h hn
  have hp := Nat.two_pow_pos (W - 1)
  unfold q_Form_withoutSign
  rw [ff_s h, show (1 : Int64) = lN 1 from rfl, lN_sub (by omega)]
  exact wb_mask h64 (ff_w h)
theorem cs_si {i W F B n : Nat} (h : ff_ i W F B) (hn : n < 2 ^ W) : q_Form_sign i (lN n) = lN (n / 2 ^ (W - 1) * 2 ^ (W - 1)) := by
  have h64 := ff_64 h hn
  unfold q_Form_sign
  rw [ff_s h, and_bit h64 (ff_w h)]
  have h2 := (ff_inf h).2.2.1
  have : n / 2 ^ (W - 1) < 2 := (Nat.div_lt_iff_lt_mul (Nat.two_pow_pos _)).mpr (by omega)
  rw [Nat.mod_eq_of_lt this]
theorem ff_sg {i W F B n : Nat} (h : ff_ i W F B) (hn : n < 2 ^ W) : n / 2 ^ (W - 1) = 0 ∨ n / 2 ^ (W - 1) = 1 := by
  have h2 := (ff_inf h).2.2.1
  have : n / 2 ^ (W - 1) < 2 := (Nat.div_lt_iff_lt_mul (Nat.two_pow_pos _)).mpr (by omega)
  revert this
  generalize n / 2 ^ (W - 1) = q
  omega
theorem cs_nn {i W F B n : Nat} (h : ff_ i W F B) (hn : n < 2 ^ W) : q_Form_isNoNumber i (lN n) = if n % 2 ^ (W - 1) ≤ (2 * B + 1) * 2 ^ F then 0 else 1 := by
  have hi := ff_inf h
  unfold q_Form_isNoNumber
  rw [cs_wo h hn, fb_i (ff_b h)]
  simp only [lN_le63 (ff_y63 h n) (show (2 * B + 1) * 2 ^ F < 2 ^ 63 by omega)]
theorem cs_in {i W F B n : Nat} (h : ff_ i W F B) (hn : n < 2 ^ W) : q_Form_isInfinite i (lN n) = if n % 2 ^ (W - 1) = (2 * B + 1) * 2 ^ F then 1 else 0 := by
  have hi := ff_inf h
  have hy := ff_y63 h n
  unfold q_Form_isInfinite
  rw [cs_wo h hn, fb_i (ff_b h)]
  simp only [lN_inj64 (show n % 2 ^ (W - 1) < 2 ^ 64 by omega) (show (2 * B + 1) * 2 ^ F < 2 ^ 64 by omega)]
theorem cs_z {i W F B n : Nat} (h : ff_ i W F B) (hn : n < 2 ^ W) : q_Form_isZero i (lN n) = if n % 2 ^ (W - 1) = 0 then 1 else 0 := by
  have hy := ff_y63 h n
  unfold q_Form_isZero
  rw [cs_wo h hn]
  simp only [lN_z64 (show n % 2 ^ (W - 1) < 2 ^ 64 by omega)]
theorem cs_ex {i W F B n : Nat} (h : ff_ i W F B) (hn : n < 2 ^ W) : q_Form_exponent i (lN n) = nI (n % 2 ^ (W - 1) / 2 ^ F) := by
  have hy := ff_y63 h n
  have e := cs_wo h hn
  have hF : F < 64 := by rcases h with ⟨-, -, rfl, -⟩ | ⟨-, -, rfl, -⟩ <;> decide
  unfold q_Form_withoutSign at e
  unfold q_Form_exponent
  rw [e, fb_f (ff_b h), ush_lN (by omega) hF, lN_i]
theorem ff_mF {i W F B : Nat} (h : ff_ i W F B) (n : Nat) : n % 2 ^ F = n % 2 ^ (W - 1) % 2 ^ F := by
  refine (Nat.mod_mod_of_dvd n (Nat.pow_dvd_pow 2 ?_)).symm
  rcases h with ⟨-, rfl, rfl, -⟩ | ⟨-, rfl, rfl, -⟩ <;> decide
theorem nI_e0 {a : Nat} (h : a < 2 ^ 31) : nI a = 0 ↔ a = 0 := nI_eq (b := 0) h (by decide)
theorem cs_sg {i W F B n : Nat} (h : ff_ i W F B) (hn : n < 2 ^ W) : q_Form_significand i (lN n) = lN (sg_ F (n % 2 ^ (W - 1))) := by
  have h64 := ff_64 h hn
  have he := ff_e h n
  have hF : F < 62 := by rcases h with ⟨-, -, rfl, -⟩ | ⟨-, -, rfl, -⟩ <;> decide
  have hp := Nat.two_pow_pos F
  have hF2 : 2 ^ F < 2 ^ 62 := Nat.pow_lt_pow_right (by decide) hF
  have hm : shl_ (1 : Int64) (nI F) = lN (2 ^ F) := by rw [show (1 : Int64) = lN 1 from rfl, shl_lN 1 (by omega), Nat.one_mul]
  have hm1 : lN (2 ^ F) - (1 : Int64) = lN (2 ^ F - 1) := by rw [show (1 : Int64) = lN 1 from rfl, lN_sub (by omega)]
  unfold q_Form_significand sg_
  rw [cs_ex h hn, fb_f (ff_b h), hm, hm1, wb_mask h64 (by omega), ff_mF h n]
  have hl := Nat.mod_lt (n % 2 ^ (W - 1)) hp
  generalize n % 2 ^ (W - 1) / 2 ^ F = q at *
  generalize n % 2 ^ (W - 1) % 2 ^ F = r at *
  by_cases c : q = 0
  · rw [if_pos ((nI_e0 (by omega)).mpr c), if_pos c]
  · rw [if_neg (fun z => c ((nI_e0 (by omega)).mp z)), if_neg c]
    have := g_or' (k := F) (p := 2 ^ F) (a := r) (b := 1) rfl hl (by omega)
    rw [Nat.one_mul] at this
    exact this
theorem cs_sc {i W F B n : Nat} (h : ff_ i W F B) (hn : n < 2 ^ W) : q_Form_scale i (lN n) = zI ((ex_ F (n % 2 ^ (W - 1)) : Nat) - B - F) := by
  have he := ff_e h n
  have hB : B < 2000 := by rcases h with ⟨-, -, -, rfl⟩ | ⟨-, -, -, rfl⟩ <;> decide
  unfold q_Form_scale ex_
  rw [cs_ex h hn]
  generalize n % 2 ^ (W - 1) / 2 ^ F = q at *
  rw [fb_f (ff_b h), fb_b (ff_b h), ← zI_n, ← zI_n, ← zI_n, show (1 : Int32) = zI 1 from rfl, max_e ⟨by omega, by omega⟩ ⟨by omega, by omega⟩, zI_sub, zI_sub]
  congr 1
  omega
/-! the reference's -/
theorem rs_size {i W F B n : Nat} (h : ff_ i W F B) (hn : n < 2 ^ W) : q_Ref_size (nI W) (lN n) = q_Form_withoutSign i (lN n) := by
  rw [cs_wo h hn]
  have h64 := ff_64 h hn
  unfold q_Ref_size
  have hw : nI W - 1 = nI (W - 1) := by rcases h with ⟨-, rfl, -⟩ | ⟨-, rfl, -⟩ <;> rfl
  have hp := Nat.two_pow_pos (W - 1)
  rw [hw, show (1 : Int64) = lN 1 from rfl, shl_lN 1 (ff_w h), Nat.one_mul, lN_sub (by omega)]
  exact wb_mask h64 (ff_w h)
theorem rs_mi {i W F B n : Nat} (h : ff_ i W F B) (hn : n < 2 ^ W) : q_Ref_isMinus (nI W) (lN n) = nI (n / 2 ^ (W - 1)) := by
  have h64 := ff_64 h hn
  unfold q_Ref_isMinus
  have hw : nI W - 1 = nI (W - 1) := by rcases h with ⟨-, rfl, -⟩ | ⟨-, rfl, -⟩ <;> rfl
  rw [hw, shr_bit h64 (ff_w h)]
  rcases ff_sg h hn with z | z <;> rw [z] <;> rfl
theorem rs_inf {i W F B : Nat} (h : ff_ i W F B) : q_Ref_infinite (nI W) (nI F) (nI B) 0 = fm_i i := by rcases h with ⟨rfl, rfl, rfl, rfl⟩ | ⟨rfl, rfl, rfl, rfl⟩ <;> decide
theorem rs_nn {i W F B n : Nat} (h : ff_ i W F B) (hn : n < 2 ^ W) : q_Ref_isNone (nI W) (nI F) (nI B) (lN n) = q_Form_isNoNumber i (lN n) := by
  unfold q_Ref_isNone q_Form_isNoNumber
  rw [rs_size h hn, rs_inf h]
theorem rs_in {i W F B n : Nat} (h : ff_ i W F B) (hn : n < 2 ^ W) : q_Ref_isInfinite (nI W) (nI F) (nI B) (lN n) = q_Form_isInfinite i (lN n) := by
  unfold q_Ref_isInfinite q_Form_isInfinite
  rw [rs_size h hn, rs_inf h]
theorem rs_z {i W F B n : Nat} (h : ff_ i W F B) (hn : n < 2 ^ W) : q_Ref_isZero (nI W) (lN n) = q_Form_isZero i (lN n) := by
  unfold q_Ref_isZero q_Form_isZero
  rw [rs_size h hn]
theorem rs_am {i W F B n : Nat} (h : ff_ i W F B) (hn : n < 2 ^ W) : q_Ref_split_am (nI W) (nI F) (nI B) (lN n) = lN (sg_ F (n % 2 ^ (W - 1))) := by
  obtain ⟨W', y, hW, hy, hs, h63, -, ham, -, -⟩ := sp_all (ff_R h) n (ff_64 h hn)
  have : W' = W - 1 := by rcases h with ⟨-, rfl, rfl, -⟩ | ⟨-, rfl, rfl, -⟩ <;> omega
  rw [ham, hy, this]
theorem rs_we {i W F B n : Nat} (h : ff_ i W F B) (hn : n < 2 ^ W) : q_Ref_split_we (nI W) (nI F) (nI B) (lN n) = zI ((ex_ F (n % 2 ^ (W - 1)) : Nat) - B - F) := by
  obtain ⟨W', y, hW, hy, hs, h63, -, -, -, hwe⟩ := sp_all (ff_R h) n (ff_64 h hn)
  have : W' = W - 1 := by rcases h with ⟨-, rfl, rfl, -⟩ | ⟨-, rfl, rfl, -⟩ <;> omega
  rw [hwe, hy, this]
theorem rs_sd {i W F B : Nat} (h : ff_ i W F B) {s : Nat} (hs : s = 0 ∨ s = 1) (x : Int64) : q_Ref_signed (nI W) x (nI s) = lN (s * 2 ^ (W - 1)) ||| x := by
  unfold q_Ref_signed
  have hw : nI W - 1 = nI (W - 1) := by rcases h with ⟨-, rfl, -⟩ | ⟨-, rfl, -⟩ <;> rfl
  rcases hs with rfl | rfl
  · rw [if_pos (show nI 0 = 0 from rfl), Nat.zero_mul]
    show x = 0 ||| x
    rw [Int64.zero_or]
  · rw [if_neg (show ¬ nI 1 = 0 by decide), hw, show (1 : Int64) = lN 1 from rfl, shl_lN 1 (ff_w h), Int64.or_comm]
/-- with the sign of a value -/
theorem rs_sm {i W F B n : Nat} (h : ff_ i W F B) (hn : n < 2 ^ W) (x : Int64) : q_Ref_signed (nI W) x (q_Ref_isMinus (nI W) (lN n)) = q_Form_sign i (lN n) ||| x := by
  rw [rs_mi h hn, rs_sd h (ff_sg h hn), cs_si h hn]
/-- with the sign of a product -/
theorem rs_sx {i W F B n k : Nat} (h : ff_ i W F B) (hn : n < 2 ^ W) (hk : k < 2 ^ W) (x : Int64) : q_Ref_signed (nI W) x (if q_Ref_isMinus (nI W) (lN n) = q_Ref_isMinus (nI W) (lN k) then 0 else 1) = q_Form_sign i (lN n ^^^ lN k) ||| x := by
  have e : q_Form_sign i (lN n ^^^ lN k) = q_Form_sign i (lN n) ^^^ q_Form_sign i (lN k) := by
    have n64 := ff_64 h hn
    have k64 := ff_64 h hk
    have hs := Nat.pow_lt_pow_right (show 1 < 2 by decide) (ff_w h)
    unfold q_Form_sign
    rw [ff_s h, lN_xor, wb_and (Nat.xor_lt_two_pow n64 k64) hs, wb_and n64 hs, wb_and k64 hs, lN_xor, Nat.and_xor_distrib_right]
  rw [e, cs_si h hn, cs_si h hk, rs_mi h hn, rs_mi h hk]
  rcases ff_sg h hn with z | z <;> rcases ff_sg h hk with w | w <;> rw [z, w]
  · rw [if_pos rfl, lN_xor, Nat.xor_self]
    exact (rs_sd h (Or.inl rfl) x).trans (by rw [Nat.zero_mul])
  · rw [if_neg (by decide), lN_xor, Nat.zero_mul, Nat.zero_xor]
    exact rs_sd h (Or.inr rfl) x
  · rw [if_neg (by decide), lN_xor, Nat.zero_mul, Nat.xor_zero]
    exact rs_sd h (Or.inr rfl) x
  · rw [if_pos rfl, lN_xor, Nat.xor_self]
    exact (rs_sd h (Or.inl rfl) x).trans (by rw [Nat.zero_mul])
theorem rs_is {i W F B : Nat} (h : ff_ i W F B) (a : Int32) : q_Ref_infinite (nI W) (nI F) (nI B) a = q_Ref_signed (nI W) (fm_i i) a := by
  rw [← rs_inf h]
  rfl
theorem rs_ms {i W F B n : Nat} (h : ff_ i W F B) (hn : n < 2 ^ W) : q_Ref_isMinus (nI W) (lN n) = 0 ↔ q_Form_sign i (lN n) = 0 := by
  rw [rs_mi h hn, cs_si h hn]
  have hw := ff_inf h
  rcases ff_sg h hn with z | z <;> rw [z]
  · rw [Nat.zero_mul]; exact ⟨fun _ => rfl, fun _ => rfl⟩
  · rw [Nat.one_mul, lN_z64 (by omega)]
    have := Nat.two_pow_pos (W - 1)
    exact ⟨fun q => absurd q (by decide), fun q => by omega⟩
