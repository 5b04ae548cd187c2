/-! whole numbers and floats made floats -/
theorem rf_P {F B m P : Nat} (hm : 0 < m) : rR_ F B (2 * (0 + m * 2 ^ P) + (if (0 : Int32) = 0 then 0 else 1)) (-2201) = rR_ F B m ((P : Int) - 2200) := by
  rw [if_pos rfl, Nat.add_zero, Nat.zero_add, show 2 * (m * 2 ^ P) = m * 2 ^ (P + 1) by rw [Nat.pow_succ', Nat.mul_left_comm], rR_shift_ (P + 1) hm]
  congr 1
  omega
theorem fl_u {i W F B n : Nat} (h : ff_ i W F B) (hn : n < 2 ^ 64) : q_Conversions_fromUnsigned i (lN n) = q_Ref_floating F B (nI W) (lN n) 0 := by
  unfold q_Conversions_fromUnsigned q_Ref_floating
  by_cases c : lN n = 0
  · rw [if_pos c, if_pos c]
  · have h0 : 0 < n := Nat.pos_of_ne_zero (fun z => c ((lN_z64 hn).mpr z))
    rw [if_neg c, if_neg c, if_pos (show (0 : Int32) = 0 from rfl), if_pos (show (0 : Int32) = 0 from rfl), un_of hn, rf_P h0]
    rw [show (0 : Int32) = zI 0 from rfl, rounded_e (ff_b h) h0 hn ⟨by decide, by decide⟩]
    show (0 : Int64) ||| _ = q_Ref_signed _ _ 0
    rw [Int64.zero_or]
    rfl
theorem fl_s {i W F B n : Nat} (h : ff_ i W F B) (hn : n < 2 ^ 64) : q_Conversions_fromSigned i (lN n) = q_Ref_floating F B (nI W) (lN n) 1 := by
  unfold q_Conversions_fromSigned
  have e1 : q_Ref_floating F B (nI W) (lN n) 1 = if (0 : Int64) ≤ lN n then q_Ref_floating F B (nI W) (lN n) 0 else q_Ref_signed (nI W) (lN (rR_ F B (2 * (0 + un_ (-lN n) * 2 ^ 2200) + (if (0 : Int32) = 0 then 0 else 1)) (-2201))) 1 := by
    unfold q_Ref_floating
    by_cases c : lN n = 0
    · rw [if_pos c, if_pos c, if_pos (by rw [c]; decide)]
    · by_cases c2 : (0 : Int64) ≤ lN n
      · simp (decide := true) only [c, c2, ↓reduceIte]
      · simp (decide := true) only [c, c2, ↓reduceIte]
  rw [e1]
  by_cases c2 : (0 : Int64) ≤ lN n
  · rw [if_pos c2, if_pos c2, fl_u h hn]
  · rw [if_neg c2, if_neg c2]
    have hge : ¬ n < 2 ^ 63 := fun z => c2 ((lN_nn hn).mpr z)
    have e2 : -lN n = lN (2 ^ 64 - n) := by
      rw [lN_ng, zL_md]
      congr 1
      omega
    rw [e2, un_of (by omega), rf_P (by omega), show (0 : Int32) = zI 0 from rfl, rounded_e (ff_b h) (by omega) (by omega) ⟨by decide, by decide⟩, ff_s h]
    have := rs_sd h (s := 1) (Or.inr rfl) (lN (rR_ F B (2 ^ 64 - n) ((2200 : Nat) - 2200)))
    rw [Nat.one_mul] at this
    exact this.symm
theorem rf_we {F B m : Nat} {x : Int} (hm : 0 < m) (hx : -2000 ≤ x ∧ x ≤ 2000) : rR_ F B (2 * (0 + m * 2 ^ (wt_ (zI x))) + (if (0 : Int32) = 0 then 0 else 1)) (-2201) = rR_ F B m x := by
  rw [rf_P hm]
  congr 1
  unfold wt_
  rw [zI_t ⟨by omega, by omega⟩]
  omega
theorem ff_x {i W F B : Nat} (h : ff_ i W F B) (n : Nat) : -2000 ≤ ((ex_ F (n % 2 ^ (W - 1)) : Nat) : Int) - B - F ∧ ((ex_ F (n % 2 ^ (W - 1)) : Nat) : Int) - B - F ≤ 2000 := by
  have he := ff_e h n
  unfold ex_
  generalize n % 2 ^ (W - 1) / 2 ^ F = q at *
  rcases h with ⟨rfl, rfl, rfl, rfl⟩ | ⟨rfl, rfl, rfl, rfl⟩ <;> omega
theorem ff_sgl {i W F B : Nat} (h : ff_ i W F B) (n : Nat) : sg_ F (n % 2 ^ (W - 1)) < 2 ^ 53 := by
  have h1 := sg_lt F (n % 2 ^ (W - 1))
  have h2 : 2 ^ (F + 1) ≤ 2 ^ 53 := Nat.pow_le_pow_right (by decide) (by rcases h with ⟨-, -, rfl, -⟩ | ⟨-, -, rfl, -⟩ <;> decide)
  omega
theorem rf_e {i W F B j W2 F2 B2 n : Nat} (h : ff_ i W F B) (h2 : ff_ j W2 F2 B2) (hn : n < 2 ^ W) : q_Conversions_fromFloat i (lN n) j = q_Ref_reformed F B F2 B2 (nI W) (nI F) (nI B) (lN n) (nI W2) := by
  have ew : q_Ref_format_wi (nI W2) = nI W2 := rfl
  have ef : q_Ref_format_fr (nI W2) = nI F2 := by rcases h2 with ⟨-, rfl, rfl, rfl⟩ | ⟨-, rfl, rfl, rfl⟩ <;> decide
  have eb : q_Ref_format_bi (nI W2) = nI B2 := by rcases h2 with ⟨-, rfl, rfl, rfl⟩ | ⟨-, rfl, rfl, rfl⟩ <;> decide
  unfold q_Conversions_fromFloat q_Ref_reformed
  rw [rs_nn h hn, rs_in h hn, rs_z h hn, ew, ef, eb, rs_is h2]
  have ms := rs_ms h hn
  have hmi := rs_mi h hn
  have hs1 := ff_s h2
  by_cases c1 : q_Form_isNoNumber i (lN n) = 0
  · rw [if_pos c1, if_pos c1]
    have sd : ∀ x : Int64, q_Ref_signed (nI W2) x (q_Ref_isMinus (nI W) (lN n)) = (if q_Form_sign i (lN n) = 0 then 0 else fm_s j) ||| x := by
      intro x
      rw [hmi]
      by_cases c : q_Form_sign i (lN n) = 0
      · have := ms.mpr c
        rw [hmi] at this
        have hz : n / 2 ^ (W - 1) = 0 := by
          rcases ff_sg h hn with z | z
          · exact z
          · rw [z] at this; exact absurd this (by decide)
        rw [hz, if_pos c, rs_sd h2 (Or.inl rfl), Nat.zero_mul]
        rfl
      · have hz : n / 2 ^ (W - 1) = 1 := by
          rcases ff_sg h hn with z | z
          · exact absurd (ms.mp (by rw [hmi, z]; rfl)) c
          · exact z
        rw [hz, if_neg c, rs_sd h2 (Or.inr rfl), Nat.one_mul, hs1]
    rw [sd, sd, sd]
    by_cases c3 : q_Form_isInfinite i (lN n) = 0
    · by_cases c4 : q_Form_isZero i (lN n) = 0
      · have hpos : 0 < sg_ F (n % 2 ^ (W - 1)) := sg_pos (Nat.pos_of_ne_zero ((nn_z h hn).mp c4))
        have hl := ff_sgl h n
        have hx := ff_x h n
        rw [rs_am h hn, un_of (by omega), rs_we h hn, rf_we hpos hx, cs_sg h hn, cs_sc h hn, rounded_e (ff_b h2) hpos (by omega) ⟨by omega, by omega⟩, rounded_e (ff_b h2) hpos (by omega) ⟨by omega, by omega⟩]
        by_cases c : q_Form_sign i (lN n) = 0
        · simp only [c, c3, c4, ↓reduceIte]
        · simp only [c, c3, c4, ↓reduceIte]
      · by_cases c : q_Form_sign i (lN n) = 0
        · simp only [c, c3, c4, ↓reduceIte]; rfl
        · simp only [c, c3, c4, ↓reduceIte]; rw [or_0]
    · by_cases c : q_Form_sign i (lN n) = 0
      · simp only [c, c3, ↓reduceIte]
      · simp only [c, c3, ↓reduceIte]
  · rw [if_neg c1, if_neg c1, ff_n h2]
