/-! whole numbers: all that is reckoned, 103 .. 138 -/
theorem sa_ {W : Nat} (hW : wd_ W) (b : Int64) : Int64.toInt32 (b &&& Int32.toInt64 (nI W - 1)) = nI (un_ b % W) := by
  rcases hW with rfl | rfl
  · exact rk_32 b
  · exact rk_64 b
theorem sa_r {W : Nat} (hW : wd_ W) (b : Int64) : Int64.toInt32 (lN (un_ b % 2 ^ W) &&& Int32.toInt64 (nI W - 1)) = nI (un_ b % W) := by
  rw [sa_ hW, un_of (W_64 hW (Nat.mod_lt _ (Nat.two_pow_pos W)))]
  congr 1
  rcases hW with rfl | rfl <;> omega
theorem sm_W {W : Nat} (hW : wd_ W) (b : Int64) : un_ b % W < W := Nat.mod_lt _ (by rcases hW with rfl | rfl <;> decide)
theorem cb_add {W : Nat} (hW : wd_ W) (a b : Int64) : q_Bits_lowest (nI W) (a + b) = q_Bits_lowest (nI W) (lN (un_ a % 2 ^ W) + lN (un_ b % 2 ^ W)) := by
  obtain ⟨n, hn, rfl⟩ := wb_of a
  obtain ⟨k, hk, rfl⟩ := wb_of b
  rw [un_of hn, un_of hk, lN_add, lN_add, low_lN hW, low_lN hW, ← Nat.add_mod]
theorem cb_mul {W : Nat} (hW : wd_ W) (a b : Int64) : q_Bits_lowest (nI W) (a * b) = q_Bits_lowest (nI W) (lN (un_ a % 2 ^ W) * lN (un_ b % 2 ^ W)) := by
  obtain ⟨n, hn, rfl⟩ := wb_of a
  obtain ⟨k, hk, rfl⟩ := wb_of b
  rw [un_of hn, un_of hk, lN_mul, lN_mul, low_lN hW, low_lN hW, ← Nat.mul_mod]
theorem cb_sub {W : Nat} (hW : wd_ W) (a b : Int64) : q_Bits_lowest (nI W) (a - b) = q_Bits_lowest (nI W) (lN (un_ a % 2 ^ W) - lN (un_ b % 2 ^ W)) := by
  obtain ⟨n, hn, rfl⟩ := wb_of a
  obtain ⟨k, hk, rfl⟩ := wb_of b
  rw [un_of hn, un_of hk, ← zL_n, ← zL_n, ← zL_n, ← zL_n, zL_sub, zL_sub, zL_md, zL_md, low_lN hW, low_lN hW]
  congr 1
  rcases hW with rfl | rfl <;> omega
theorem cb_and {W : Nat} (hW : wd_ W) (a b : Int64) : q_Bits_lowest (nI W) (a &&& b) = q_Bits_lowest (nI W) (lN (un_ a % 2 ^ W) &&& lN (un_ b % 2 ^ W)) := by
  obtain ⟨n, hn, rfl⟩ := wb_of a
  obtain ⟨k, hk, rfl⟩ := wb_of b
  have h1 := W_64 hW (Nat.mod_lt n (Nat.two_pow_pos W))
  have h2 := W_64 hW (Nat.mod_lt k (Nat.two_pow_pos W))
  rw [un_of hn, un_of hk, wb_and hn hk, wb_and h1 h2, low_lN hW, low_lN hW, Nat.and_mod_two_pow, Nat.and_mod_two_pow, Nat.mod_mod, Nat.mod_mod]
theorem cb_or {W : Nat} (hW : wd_ W) (a b : Int64) : q_Bits_lowest (nI W) (a ||| b) = q_Bits_lowest (nI W) (lN (un_ a % 2 ^ W) ||| lN (un_ b % 2 ^ W)) := by
  obtain ⟨n, hn, rfl⟩ := wb_of a
  obtain ⟨k, hk, rfl⟩ := wb_of b
  have h1 := W_64 hW (Nat.mod_lt n (Nat.two_pow_pos W))
  have h2 := W_64 hW (Nat.mod_lt k (Nat.two_pow_pos W))
  rw [un_of hn, un_of hk, wb_or hn hk, wb_or h1 h2, low_lN hW, low_lN hW, Nat.or_mod_two_pow, Nat.or_mod_two_pow, Nat.mod_mod, Nat.mod_mod]
theorem cb_xor {W : Nat} (hW : wd_ W) (a b : Int64) : q_Bits_lowest (nI W) (a ^^^ b) = q_Bits_lowest (nI W) (lN (un_ a % 2 ^ W) ^^^ lN (un_ b % 2 ^ W)) := by
  obtain ⟨n, hn, rfl⟩ := wb_of a
  obtain ⟨k, hk, rfl⟩ := wb_of b
  rw [un_of hn, un_of hk, lN_xor, lN_xor, low_lN hW, low_lN hW, Nat.xor_mod_two_pow, Nat.xor_mod_two_pow, Nat.mod_mod, Nat.mod_mod]
theorem wc_ {W : Nat} (hW : wd_ W) : (nI W).toNatClampNeg = W := by rcases hW with rfl | rfl <;> decide
theorem low_c {W c : Nat} (hW : wd_ W) (hc : c < 2 ^ 31) : q_Bits_lowest (nI W) (Int32.toInt64 (nI c)) = Int32.toInt64 (nI c) := by
  rw [nI_l hc, low_lN hW]
  congr 1
  rcases hW with rfl | rfl <;> omega
theorem cz_0 {W A : Nat} (hW : wd_ W) (hA : A < 2 ^ W) : Int32.toInt64 (q_Long_numberOfLeadingZeros (lN A) - (64 - nI W)) = q_Bits_lowest (nI W) (Int32.toInt64 (q_Ref_count (lN A) (nI W) 0)) := by
  have h64 : W ≤ 64 := by rcases hW with rfl | rfl <;> decide
  have e : q_Ref_count (lN A) (nI W) 0 = if A / 2 ^ (W - W) = 0 then nI W else nI (W - 1 - A.log2) := by
    unfold q_Ref_count
    rw [wc_ hW]
    exact ct_0 rfl hA h64 W (Nat.le_refl _) _ _ _
  rw [Nat.sub_self, Nat.pow_zero, Nat.div_one] at e
  have e6 : (64 : Int32) - nI W = nI (64 - W) := pk_sub (a := 64) h64
  by_cases c : A = 0
  · rw [e, if_pos c, c, low_c hW (by omega), e6]
    rcases hW with rfl | rfl <;> decide
  · have hl : A.log2 < W := (Nat.log2_lt c).mpr hA
    rw [e, if_neg c, low_c hW (by omega), e6, nlz_e (by omega) (W_64 hW hA), pk_sub (by omega)]
    congr 2
    omega
theorem tz_z (k : Nat) : tz_ k 0 = k := by
  induction k with
  | zero => rfl
  | succ k ih => unfold tz_; rw [if_neg (by decide), Nat.zero_div, ih]; omega
theorem cz_1 {W A : Nat} (hW : wd_ W) (hA : A < 2 ^ W) : (if lN A = (0 : Int64) then Int32.toInt64 (nI W) else Int32.toInt64 (q_Long_numberOfTrailingZeros (lN A))) = q_Bits_lowest (nI W) (Int32.toInt64 (q_Ref_count (lN A) (nI W) 1)) := by
  have h64 : W ≤ 64 := by rcases hW with rfl | rfl <;> decide
  have hA64 := W_64 hW hA
  have e : q_Ref_count (lN A) (nI W) 1 = nI (W - W + tz_ W (A / 2 ^ (W - W))) := by
    unfold q_Ref_count
    rw [wc_ hW]
    exact ct_1 rfl hA64 h64 W (Nat.le_refl _) _ _
  rw [Nat.sub_self, Nat.pow_zero, Nat.div_one, Nat.zero_add] at e
  by_cases c : A = 0
  · rw [e, if_pos ((lN_z64 hA64).mpr c), c, tz_z, low_c hW (by omega)]
  · obtain ⟨h1, d, hd⟩ := tz_spec W A (by rw [Nat.mod_eq_of_lt hA]; exact c)
    rw [e, if_neg (fun z => c ((lN_z64 hA64).mp z)), low_c hW (by omega), ntz_e hA64 hd]
theorem cz_2 {W A : Nat} (hW : wd_ W) (hA : A < 2 ^ W) : Int32.toInt64 (q_Long_bitCount (lN A)) = q_Bits_lowest (nI W) (Int32.toInt64 (q_Ref_count (lN A) (nI W) 2)) := by
  have h64 : W ≤ 64 := by rcases hW with rfl | rfl <;> decide
  have hA64 := W_64 hW hA
  have e : q_Ref_count (lN A) (nI W) 2 = nI (0 + pb_ W (A / 2 ^ (W - W))) := by
    unfold q_Ref_count
    rw [wc_ hW]
    exact ct_2 rfl hA64 h64 W (Nat.le_refl _) 0 _ _
  rw [Nat.sub_self, Nat.pow_zero, Nat.div_one, Nat.zero_add] at e
  have hp : pb_ 64 A = pb_ W A := by
    rw [show 64 = W + (64 - W) by omega, pb_add, Nat.div_eq_of_lt hA, pb_z, Nat.add_zero]
  have := pb_le W A
  rw [e, low_c hW (by omega), bc_e hA64, hp]
theorem ok_w {a0 p : Int32} {W : Nat} (V R : Int64 → Int64 → Int64) (han : ∀ a1 a2, q_Operations_answer a0 a1 a2 = if (q_Wholes_calculate p (nI W) a1 a2).1 = 0 then (0, (q_Wholes_calculate p (nI W) a1 a2).2) else ((q_Wholes_calculate p (nI W) a1 a2).1, 0)) (hc : ∀ a1 a2, q_Wholes_calculate p (nI W) a1 a2 = (0, V a1 a2)) (hrc : ∀ m1 m2, q_Ref_answer_cd 0 a0 m1 m2 = 0) (hra : ∀ m1 m2, q_Ref_answer 0 a0 m1 m2 = R m1 m2) (hk : ∀ a, mk1_ (q_Ref_first a0) a = lN (un_ a % 2 ^ W)) (hr : ∀ a, mk1_ (q_Ref_result a0) a = q_Bits_lowest (nI W) a) (hv : ∀ a1 a2, V a1 a2 = q_Bits_lowest (nI W) (R (lN (un_ a1 % 2 ^ W)) (lN (un_ a2 % 2 ^ W)))) : OK_ a0 := by
  refine ok_pure V R (fun a1 a2 => ?_) hrc hra (fun a1 a2 => ?_)
  · rw [han, hc]; rfl
  · rw [hr, hk, hk]; exact hv a1 a2
theorem ok_d {a0 p k : Int32} {W : Nat} (hW : wd_ W) (han : ∀ a1 a2, q_Operations_answer a0 a1 a2 = if (q_Wholes_calculate p (nI W) a1 a2).1 = 0 then (0, (q_Wholes_calculate p (nI W) a1 a2).2) else ((q_Wholes_calculate p (nI W) a1 a2).1, 0)) (hc : ∀ a1 a2, q_Wholes_calculate p (nI W) a1 a2 = if (q_Wholes_divided p (nI W) a1 a2).1 = 0 then (0, q_Bits_lowest (nI W) (q_Wholes_divided p (nI W) a1 a2).2) else ((q_Wholes_divided p (nI W) a1 a2).1, 0)) (hrc : ∀ m1 m2, q_Ref_answer_cd 0 a0 m1 m2 = q_Ref_byDivision_cd 0 k (nI W) m1 m2) (hra : ∀ m1 m2, q_Ref_answer 0 a0 m1 m2 = q_Ref_byDivision 0 k (nI W) m1 m2) (hk : ∀ a, mk1_ (q_Ref_first a0) a = lN (un_ a % 2 ^ W)) (hr : ∀ a, mk1_ (q_Ref_result a0) a = q_Bits_lowest (nI W) a)
    (hv : ∀ a1 a2, un_ a2 % 2 ^ W ≠ 0 → (∃ v, q_Wholes_divided p (nI W) a1 a2 = (0, v) ∧ q_Ref_byDivision_cd 0 k (nI W) (lN (un_ a1 % 2 ^ W)) (lN (un_ a2 % 2 ^ W)) = 0 ∧ q_Ref_byDivision 0 k (nI W) (lN (un_ a1 % 2 ^ W)) (lN (un_ a2 % 2 ^ W)) = v) ∨ (q_Wholes_divided p (nI W) a1 a2 = (3, 0) ∧ q_Ref_byDivision_cd 0 k (nI W) (lN (un_ a1 % 2 ^ W)) (lN (un_ a2 % 2 ^ W)) = 3)) : OK_ a0 := by
  refine ok_th (fun a1 a2 => ?_)
  rw [hrc, hra, hk, hk, hr]
  by_cases c : un_ a2 % 2 ^ W = 0
  · refine Or.inr ⟨2, by decide, by decide, ?_, ?_⟩
    · have e : q_Wholes_divided p (nI W) a1 a2 = (2, 0) := by
        unfold q_Wholes_divided
        rw [if_pos (show q_Bits_signed (nI W) a2 = 0 by rw [sig_W hW, c]; unfold sy_; rw [if_pos (Nat.two_pow_pos _)]; rfl)]
      rw [han, hc, e]; rfl
    · rw [c]; exact dq_0 (A := 0) 0 _
  · rcases hv a1 a2 c with ⟨v, e1, e2, e3⟩ | ⟨e1, e2⟩
    · refine Or.inl ⟨q_Bits_lowest (nI W) v, ?_, e2, by rw [e3]⟩
      rw [han, hc, e1]; rfl
    · refine Or.inr ⟨3, by decide, by decide, ?_, e2⟩
      rw [han, hc, e1]; rfl
theorem sg_n0 {W : Nat} (hW : wd_ W) {b : Int64} (h : un_ b % 2 ^ W ≠ 0) : ¬ q_Bits_signed (nI W) b = 0 ∧ ¬ q_Bits_lowest (nI W) b = 0 := by
  have hl := Nat.mod_lt (un_ b) (Nat.two_pow_pos W)
  constructor
  · rw [sig_W hW, show (0 : Int64) = zL (sy_ W 0) by rcases hW with rfl | rfl <;> decide, zL_eq (sy_r hW hl) (sy_r hW (Nat.two_pow_pos W)), sy_lt hW hl (Nat.two_pow_pos W)]
    exact h
  · rw [low_W hW, lN_z64 (W_64 hW hl)]; exact h
theorem dk_6 {W : Nat} (hW : wd_ W) (a1 a2 : Int64) (h : un_ a2 % 2 ^ W ≠ 0) : (∃ v, q_Wholes_divided 109 (nI W) a1 a2 = (0, v) ∧ q_Ref_byDivision_cd 0 6 (nI W) (lN (un_ a1 % 2 ^ W)) (lN (un_ a2 % 2 ^ W)) = 0 ∧ q_Ref_byDivision 0 6 (nI W) (lN (un_ a1 % 2 ^ W)) (lN (un_ a2 % 2 ^ W)) = v) ∨ (q_Wholes_divided 109 (nI W) a1 a2 = (3, 0) ∧ q_Ref_byDivision_cd 0 6 (nI W) (lN (un_ a1 % 2 ^ W)) (lN (un_ a2 % 2 ^ W)) = 3) := by
  obtain ⟨n1, n2⟩ := sg_n0 hW h
  have h1 := Nat.mod_lt (un_ a1) (Nat.two_pow_pos W)
  have h2 := Nat.mod_lt (un_ a2) (Nat.two_pow_pos W)
  obtain ⟨d1, d2⟩ := dq_6 hW h1 h2 (Nat.pos_of_ne_zero h)
  have e : q_Wholes_divided 109 (nI W) a1 a2 = if q_Bits_signed (nI W) a2 = -1 then (if q_Bits_signed (nI W) a1 = shl_ (-1 : Int64) (nI W - 1) then (3, 0) else (0, q_Bits_signed (nI W) a1 / q_Bits_signed (nI W) a2)) else (0, q_Bits_signed (nI W) a1 / q_Bits_signed (nI W) a2) := by
    unfold q_Wholes_divided
    rw [if_neg n1, if_neg n2]
    simp (decide := true) only [↓reduceIte]
  rw [e, sig_W hW a1, sig_W hW a2]
  by_cases c1 : zL (sy_ W (un_ a2 % 2 ^ W)) = -1
  · rw [if_pos c1]
    by_cases c2 : zL (sy_ W (un_ a1 % 2 ^ W)) = shl_ (-1 : Int64) (nI W - 1)
    · rw [if_pos c2]; exact Or.inr ⟨rfl, d1 ⟨c1, c2⟩⟩
    · rw [if_neg c2]
      have d3 := d2 (fun q => c2 q.2)
      exact Or.inl ⟨_, rfl, d3.1, d3.2⟩
  · rw [if_neg c1]
    have d3 := d2 (fun q => c1 q.1)
    exact Or.inl ⟨_, rfl, d3.1, d3.2⟩
theorem dk_7 {W : Nat} (hW : wd_ W) (a1 a2 : Int64) (h : un_ a2 % 2 ^ W ≠ 0) : (∃ v, q_Wholes_divided 110 (nI W) a1 a2 = (0, v) ∧ q_Ref_byDivision_cd 0 7 (nI W) (lN (un_ a1 % 2 ^ W)) (lN (un_ a2 % 2 ^ W)) = 0 ∧ q_Ref_byDivision 0 7 (nI W) (lN (un_ a1 % 2 ^ W)) (lN (un_ a2 % 2 ^ W)) = v) ∨ (q_Wholes_divided 110 (nI W) a1 a2 = (3, 0) ∧ q_Ref_byDivision_cd 0 7 (nI W) (lN (un_ a1 % 2 ^ W)) (lN (un_ a2 % 2 ^ W)) = 3) := by
  obtain ⟨n1, n2⟩ := sg_n0 hW h
  obtain ⟨d1, d2⟩ := dq_7 (W := W) (W_64 hW (Nat.mod_lt (un_ a1) (Nat.two_pow_pos W))) (W_64 hW (Nat.mod_lt (un_ a2) (Nat.two_pow_pos W))) (Nat.pos_of_ne_zero h)
  refine Or.inl ⟨_, ?_, d1, d2⟩
  unfold q_Wholes_divided
  rw [if_neg n1, if_neg n2, low_W hW, low_W hW]
  simp (decide := true) only [↓reduceIte]
theorem dk_8 {W : Nat} (hW : wd_ W) (a1 a2 : Int64) (h : un_ a2 % 2 ^ W ≠ 0) : (∃ v, q_Wholes_divided 111 (nI W) a1 a2 = (0, v) ∧ q_Ref_byDivision_cd 0 8 (nI W) (lN (un_ a1 % 2 ^ W)) (lN (un_ a2 % 2 ^ W)) = 0 ∧ q_Ref_byDivision 0 8 (nI W) (lN (un_ a1 % 2 ^ W)) (lN (un_ a2 % 2 ^ W)) = v) ∨ (q_Wholes_divided 111 (nI W) a1 a2 = (3, 0) ∧ q_Ref_byDivision_cd 0 8 (nI W) (lN (un_ a1 % 2 ^ W)) (lN (un_ a2 % 2 ^ W)) = 3) := by
  obtain ⟨n1, n2⟩ := sg_n0 hW h
  obtain ⟨d1, d2⟩ := dq_8 hW (Nat.mod_lt (un_ a1) (Nat.two_pow_pos W)) (Nat.mod_lt (un_ a2) (Nat.two_pow_pos W)) (Nat.pos_of_ne_zero h)
  refine Or.inl ⟨_, ?_, d1, d2⟩
  unfold q_Wholes_divided
  rw [if_neg n1, if_neg n2, sig_W hW, sig_W hW]
  simp (decide := true) only [↓reduceIte]
theorem dk_9 {W : Nat} (hW : wd_ W) (a1 a2 : Int64) (h : un_ a2 % 2 ^ W ≠ 0) : (∃ v, q_Wholes_divided 112 (nI W) a1 a2 = (0, v) ∧ q_Ref_byDivision_cd 0 9 (nI W) (lN (un_ a1 % 2 ^ W)) (lN (un_ a2 % 2 ^ W)) = 0 ∧ q_Ref_byDivision 0 9 (nI W) (lN (un_ a1 % 2 ^ W)) (lN (un_ a2 % 2 ^ W)) = v) ∨ (q_Wholes_divided 112 (nI W) a1 a2 = (3, 0) ∧ q_Ref_byDivision_cd 0 9 (nI W) (lN (un_ a1 % 2 ^ W)) (lN (un_ a2 % 2 ^ W)) = 3) := by
  obtain ⟨n1, n2⟩ := sg_n0 hW h
  obtain ⟨d1, d2⟩ := dq_9 (W := W) (W_64 hW (Nat.mod_lt (un_ a1) (Nat.two_pow_pos W))) (W_64 hW (Nat.mod_lt (un_ a2) (Nat.two_pow_pos W))) (Nat.pos_of_ne_zero h)
  refine Or.inl ⟨_, ?_, d1, d2⟩
  unfold q_Wholes_divided
  rw [if_neg n1, if_neg n2, low_W hW, low_W hW]
  simp (decide := true) only [↓reduceIte]
theorem mx_13 {W : Nat} (hW : wd_ W) (a b : Int64) : q_Bits_lowest (nI W) (shl_ a (Int64.toInt32 (b &&& Int32.toInt64 (nI W - 1)))) = q_Bits_lowest (nI W) (q_Ref_moved 13 (nI W) (lN (un_ a % 2 ^ W)) (Int64.toInt32 (lN (un_ b % 2 ^ W) &&& Int32.toInt64 (nI W - 1)))) := by
  have hs := sm_W hW b
  have hs64 : un_ b % W < 64 := by rcases hW with rfl | rfl <;> omega
  rw [sa_ hW, sa_r hW, md_e hW (Nat.mod_lt _ (Nat.two_pow_pos W)) hs64 13 (Or.inl rfl), if_pos rfl]
  obtain ⟨n, hn, rfl⟩ := wb_of a
  rw [un_of hn, shl_lN n hs64, low_lN hW, low_lN hW, Nat.mod_mul_mod]
theorem mx_14 {W : Nat} (hW : wd_ W) (a b : Int64) : q_Bits_lowest (nI W) (shr_ (q_Bits_signed (nI W) a) (Int64.toInt32 (b &&& Int32.toInt64 (nI W - 1)))) = q_Bits_lowest (nI W) (q_Ref_moved 14 (nI W) (lN (un_ a % 2 ^ W)) (Int64.toInt32 (lN (un_ b % 2 ^ W) &&& Int32.toInt64 (nI W - 1)))) := by
  have hs := sm_W hW b
  have hs64 : un_ b % W < 64 := by rcases hW with rfl | rfl <;> omega
  have hl := Nat.mod_lt (un_ a) (Nat.two_pow_pos W)
  rw [sa_ hW, sa_r hW, md_e hW hl hs64 14 (Or.inr (Or.inl rfl)), if_neg (by decide), if_pos rfl, sig_W hW, sh_zL (sy_r hW hl) hs64]
theorem mx_15 {W : Nat} (hW : wd_ W) (a b : Int64) : q_Bits_lowest (nI W) (ush_ (q_Bits_lowest (nI W) a) (Int64.toInt32 (b &&& Int32.toInt64 (nI W - 1)))) = q_Bits_lowest (nI W) (q_Ref_moved 15 (nI W) (lN (un_ a % 2 ^ W)) (Int64.toInt32 (lN (un_ b % 2 ^ W) &&& Int32.toInt64 (nI W - 1)))) := by
  have hs := sm_W hW b
  have hs64 : un_ b % W < 64 := by rcases hW with rfl | rfl <;> omega
  have hl := Nat.mod_lt (un_ a) (Nat.two_pow_pos W)
  rw [sa_ hW, sa_r hW, md_e hW hl hs64 15 (Or.inr (Or.inr rfl)), if_neg (by decide), if_neg (by decide), low_W hW a, ush_lN (W_64 hW hl) hs64]
theorem mx_16 {W : Nat} (hW : wd_ W) (a b : Int64) : q_Bits_lowest (nI W) (q_Wholes_turnedUp (nI W) a (Int64.toInt32 (b &&& Int32.toInt64 (nI W - 1)))) = q_Bits_lowest (nI W) (q_Ref_turned (lN (un_ a % 2 ^ W)) (nI W) (Int64.toInt32 (lN (un_ b % 2 ^ W) &&& Int32.toInt64 (nI W - 1)))) := by
  have hs := sm_W hW b
  have hl := Nat.mod_lt (un_ a) (Nat.two_pow_pos W)
  rw [sa_ hW, sa_r hW, tu_e hW a hs, tr_e hW hl hs, low_lN hW, Nat.mod_eq_of_lt (ru_lt (by omega) hl)]
theorem wn_32 : ∀ s : Nat, s < 32 → ((nI 32 - nI s) &&& (nI 32 - 1)) = nI ((32 - s) % 32) := by decide +kernel
theorem wn_64 : ∀ s : Nat, s < 64 → ((nI 64 - nI s) &&& (nI 64 - 1)) = nI ((64 - s) % 64) := by decide +kernel
theorem wn_ {W : Nat} (hW : wd_ W) {s : Nat} (hs : s < W) : ((nI W - nI s) &&& (nI W - 1)) = nI ((W - s) % W) := by
  rcases hW with rfl | rfl
  · exact wn_32 s hs
  · exact wn_64 s hs
theorem wm_ {W : Nat} (hW : wd_ W) {s : Nat} (hs : s < W) : (nI W - nI s) - (nI W - nI s) / nI W * nI W = nI ((W - s) % W) := by
  rcases hW with rfl | rfl
  · exact rk_t32 s hs
  · exact rk_t64 s hs
theorem mx_17 {W : Nat} (hW : wd_ W) (a b : Int64) : q_Bits_lowest (nI W) (q_Wholes_turnedUp (nI W) a ((nI W - Int64.toInt32 (b &&& Int32.toInt64 (nI W - 1))) &&& (nI W - 1))) = q_Bits_lowest (nI W) (q_Ref_turned (lN (un_ a % 2 ^ W)) (nI W) ((nI W - (Int64.toInt32 (lN (un_ b % 2 ^ W) &&& Int32.toInt64 (nI W - 1)))) - (nI W - (Int64.toInt32 (lN (un_ b % 2 ^ W) &&& Int32.toInt64 (nI W - 1)))) / nI W * nI W)) := by
  have hs := sm_W hW b
  have hl := Nat.mod_lt (un_ a) (Nat.two_pow_pos W)
  have hs2 : (W - un_ b % W) % W < W := Nat.mod_lt _ (by omega)
  rw [sa_ hW, sa_r hW, wn_ hW hs, wm_ hW hs, tu_e hW a hs2, tr_e hW hl hs2, low_lN hW, Nat.mod_eq_of_lt (ru_lt (by omega) hl)]
theorem rc_103 (m1 m2 : Int64) : q_Ref_answer_cd 0 103 m1 m2 = 0 := by unfold q_Ref_answer_cd q_Ref_reckoned_cd; simp (decide := true) only [↓reduceIte, Int32.reduceSub]
theorem ra_103 (m1 m2 : Int64) : q_Ref_answer 0 103 m1 m2 = Int32.toInt64 (q_Ref_count m1 32 0) := by unfold q_Ref_answer q_Ref_reckoned; simp (decide := true) only [↓reduceIte, Int32.reduceSub]
theorem wcl_103 (a b : Int64) : q_Wholes_calculate 103 32 a b = (0, Int32.toInt64 (q_Long_numberOfLeadingZeros (q_Bits_lowest 32 a) - (64 - (32 : Int32)))) := by unfold q_Wholes_calculate q_Wholes_counted; simp (decide := true) only [↓reduceIte]
theorem ok_103 : OK_ 103 := ok_w (p := 103) (W := 32) (fun a b => Int32.toInt64 (q_Long_numberOfLeadingZeros (q_Bits_lowest 32 a) - (64 - (32 : Int32)))) (fun m1 m2 => Int32.toInt64 (q_Ref_count m1 32 0)) (an_c32 (p := 103) (by decide +kernel) (by decide +kernel) (by decide +kernel) (by decide +kernel) (by decide +kernel) (by decide +kernel) (by decide +kernel) (by decide +kernel)) wcl_103 rc_103 ra_103 (mk_even (k := q_Ref_first 103) (by decide +kernel)) (fun a => (mk_even (k := q_Ref_result 103) (by decide +kernel) a).trans (low_W (Or.inl rfl : wd_ 32) a).symm) (fun a b => (congrArg (fun t => Int32.toInt64 (q_Long_numberOfLeadingZeros t - (64 - nI 32))) (low_W (Or.inl rfl : wd_ 32) a)).trans (cz_0 (Or.inl rfl : wd_ 32) (Nat.mod_lt _ (by decide))))
theorem rc_104 (m1 m2 : Int64) : q_Ref_answer_cd 0 104 m1 m2 = 0 := by unfold q_Ref_answer_cd q_Ref_reckoned_cd; simp (decide := true) only [↓reduceIte, Int32.reduceSub]
theorem ra_104 (m1 m2 : Int64) : q_Ref_answer 0 104 m1 m2 = Int32.toInt64 (q_Ref_count m1 32 1) := by unfold q_Ref_answer q_Ref_reckoned; simp (decide := true) only [↓reduceIte, Int32.reduceSub]
theorem wcl_104 (a b : Int64) : q_Wholes_calculate 104 32 a b = (0, (if q_Bits_lowest 32 a = (0 : Int64) then Int32.toInt64 (32 : Int32) else Int32.toInt64 (q_Long_numberOfTrailingZeros (q_Bits_lowest 32 a)))) := by unfold q_Wholes_calculate q_Wholes_counted; simp (decide := true) only [↓reduceIte]
theorem ok_104 : OK_ 104 := ok_w (p := 104) (W := 32) (fun a b => (if q_Bits_lowest 32 a = (0 : Int64) then Int32.toInt64 (32 : Int32) else Int32.toInt64 (q_Long_numberOfTrailingZeros (q_Bits_lowest 32 a)))) (fun m1 m2 => Int32.toInt64 (q_Ref_count m1 32 1)) (an_c32 (p := 104) (by decide +kernel) (by decide +kernel) (by decide +kernel) (by decide +kernel) (by decide +kernel) (by decide +kernel) (by decide +kernel) (by decide +kernel)) wcl_104 rc_104 ra_104 (mk_even (k := q_Ref_first 104) (by decide +kernel)) (fun a => (mk_even (k := q_Ref_result 104) (by decide +kernel) a).trans (low_W (Or.inl rfl : wd_ 32) a).symm) (fun a b => (congrArg (fun t => if t = (0 : Int64) then Int32.toInt64 (nI 32) else Int32.toInt64 (q_Long_numberOfTrailingZeros t)) (low_W (Or.inl rfl : wd_ 32) a)).trans (cz_1 (Or.inl rfl : wd_ 32) (Nat.mod_lt _ (by decide))))
theorem rc_105 (m1 m2 : Int64) : q_Ref_answer_cd 0 105 m1 m2 = 0 := by unfold q_Ref_answer_cd q_Ref_reckoned_cd; simp (decide := true) only [↓reduceIte, Int32.reduceSub]
theorem ra_105 (m1 m2 : Int64) : q_Ref_answer 0 105 m1 m2 = Int32.toInt64 (q_Ref_count m1 32 2) := by unfold q_Ref_answer q_Ref_reckoned; simp (decide := true) only [↓reduceIte, Int32.reduceSub]
theorem wcl_105 (a b : Int64) : q_Wholes_calculate 105 32 a b = (0, Int32.toInt64 (q_Long_bitCount (q_Bits_lowest 32 a))) := by unfold q_Wholes_calculate q_Wholes_counted; simp (decide := true) only [↓reduceIte]
theorem ok_105 : OK_ 105 := ok_w (p := 105) (W := 32) (fun a b => Int32.toInt64 (q_Long_bitCount (q_Bits_lowest 32 a))) (fun m1 m2 => Int32.toInt64 (q_Ref_count m1 32 2)) (an_c32 (p := 105) (by decide +kernel) (by decide +kernel) (by decide +kernel) (by decide +kernel) (by decide +kernel) (by decide +kernel) (by decide +kernel) (by decide +kernel)) wcl_105 rc_105 ra_105 (mk_even (k := q_Ref_first 105) (by decide +kernel)) (fun a => (mk_even (k := q_Ref_result 105) (by decide +kernel) a).trans (low_W (Or.inl rfl : wd_ 32) a).symm) (fun a b => (congrArg (fun t => Int32.toInt64 (q_Long_bitCount t)) (low_W (Or.inl rfl : wd_ 32) a)).trans (cz_2 (Or.inl rfl : wd_ 32) (Nat.mod_lt _ (by decide))))
theorem rc_106 (m1 m2 : Int64) : q_Ref_answer_cd 0 106 m1 m2 = 0 := by unfold q_Ref_answer_cd q_Ref_reckoned_cd; simp (decide := true) only [↓reduceIte, Int32.reduceSub]
theorem ra_106 (m1 m2 : Int64) : q_Ref_answer 0 106 m1 m2 = m1 + m2 := by unfold q_Ref_answer q_Ref_reckoned; simp (decide := true) only [↓reduceIte, Int32.reduceSub]
theorem wcl_106 (a b : Int64) : q_Wholes_calculate 106 32 a b = (0, q_Bits_lowest 32 (a + b)) := by unfold q_Wholes_calculate q_Wholes_combined; simp (decide := true) only [↓reduceIte]
theorem ok_106 : OK_ 106 := ok_w (p := 106) (W := 32) (fun a b => q_Bits_lowest 32 (a + b)) (fun m1 m2 => m1 + m2) (an_c32 (p := 106) (by decide +kernel) (by decide +kernel) (by decide +kernel) (by decide +kernel) (by decide +kernel) (by decide +kernel) (by decide +kernel) (by decide +kernel)) wcl_106 rc_106 ra_106 (mk_even (k := q_Ref_first 106) (by decide +kernel)) (fun a => (mk_even (k := q_Ref_result 106) (by decide +kernel) a).trans (low_W (Or.inl rfl : wd_ 32) a).symm) (cb_add (Or.inl rfl : wd_ 32))
theorem rc_107 (m1 m2 : Int64) : q_Ref_answer_cd 0 107 m1 m2 = 0 := by unfold q_Ref_answer_cd q_Ref_reckoned_cd; simp (decide := true) only [↓reduceIte, Int32.reduceSub]
theorem ra_107 (m1 m2 : Int64) : q_Ref_answer 0 107 m1 m2 = m1 - m2 := by unfold q_Ref_answer q_Ref_reckoned; simp (decide := true) only [↓reduceIte, Int32.reduceSub]
theorem wcl_107 (a b : Int64) : q_Wholes_calculate 107 32 a b = (0, q_Bits_lowest 32 (a - b)) := by unfold q_Wholes_calculate q_Wholes_combined; simp (decide := true) only [↓reduceIte]
theorem ok_107 : OK_ 107 := ok_w (p := 107) (W := 32) (fun a b => q_Bits_lowest 32 (a - b)) (fun m1 m2 => m1 - m2) (an_c32 (p := 107) (by decide +kernel) (by decide +kernel) (by decide +kernel) (by decide +kernel) (by decide +kernel) (by decide +kernel) (by decide +kernel) (by decide +kernel)) wcl_107 rc_107 ra_107 (mk_even (k := q_Ref_first 107) (by decide +kernel)) (fun a => (mk_even (k := q_Ref_result 107) (by decide +kernel) a).trans (low_W (Or.inl rfl : wd_ 32) a).symm) (cb_sub (Or.inl rfl : wd_ 32))
theorem rc_108 (m1 m2 : Int64) : q_Ref_answer_cd 0 108 m1 m2 = 0 := by unfold q_Ref_answer_cd q_Ref_reckoned_cd; simp (decide := true) only [↓reduceIte, Int32.reduceSub]
theorem ra_108 (m1 m2 : Int64) : q_Ref_answer 0 108 m1 m2 = m1 * m2 := by unfold q_Ref_answer q_Ref_reckoned; simp (decide := true) only [↓reduceIte, Int32.reduceSub]
theorem wcl_108 (a b : Int64) : q_Wholes_calculate 108 32 a b = (0, q_Bits_lowest 32 (a * b)) := by unfold q_Wholes_calculate q_Wholes_combined; simp (decide := true) only [↓reduceIte]
theorem ok_108 : OK_ 108 := ok_w (p := 108) (W := 32) (fun a b => q_Bits_lowest 32 (a * b)) (fun m1 m2 => m1 * m2) (an_c32 (p := 108) (by decide +kernel) (by decide +kernel) (by decide +kernel) (by decide +kernel) (by decide +kernel) (by decide +kernel) (by decide +kernel) (by decide +kernel)) wcl_108 rc_108 ra_108 (mk_even (k := q_Ref_first 108) (by decide +kernel)) (fun a => (mk_even (k := q_Ref_result 108) (by decide +kernel) a).trans (low_W (Or.inl rfl : wd_ 32) a).symm) (cb_mul (Or.inl rfl : wd_ 32))
theorem rc_109 (m1 m2 : Int64) : q_Ref_answer_cd 0 109 m1 m2 = q_Ref_byDivision_cd 0 6 32 m1 m2 := by unfold q_Ref_answer_cd q_Ref_reckoned_cd; simp (decide := true) only [↓reduceIte, Int32.reduceSub]
theorem ra_109 (m1 m2 : Int64) : q_Ref_answer 0 109 m1 m2 = q_Ref_byDivision 0 6 32 m1 m2 := by unfold q_Ref_answer q_Ref_reckoned; simp (decide := true) only [↓reduceIte, Int32.reduceSub]
theorem wcl_109 (a b : Int64) : q_Wholes_calculate 109 32 a b = if (q_Wholes_divided 109 32 a b).1 = 0 then (0, q_Bits_lowest 32 (q_Wholes_divided 109 32 a b).2) else ((q_Wholes_divided 109 32 a b).1, 0) := by unfold q_Wholes_calculate; simp (decide := true) only [↓reduceIte]
theorem ok_109 : OK_ 109 := ok_d (p := 109) (k := 6) (W := 32) (Or.inl rfl : wd_ 32) (an_c32 (p := 109) (by decide +kernel) (by decide +kernel) (by decide +kernel) (by decide +kernel) (by decide +kernel) (by decide +kernel) (by decide +kernel) (by decide +kernel)) wcl_109 rc_109 ra_109 (mk_even (k := q_Ref_first 109) (by decide +kernel)) (fun a => (mk_even (k := q_Ref_result 109) (by decide +kernel) a).trans (low_W (Or.inl rfl : wd_ 32) a).symm) (dk_6 (Or.inl rfl : wd_ 32))
theorem rc_110 (m1 m2 : Int64) : q_Ref_answer_cd 0 110 m1 m2 = q_Ref_byDivision_cd 0 7 32 m1 m2 := by unfold q_Ref_answer_cd q_Ref_reckoned_cd; simp (decide := true) only [↓reduceIte, Int32.reduceSub]
theorem ra_110 (m1 m2 : Int64) : q_Ref_answer 0 110 m1 m2 = q_Ref_byDivision 0 7 32 m1 m2 := by unfold q_Ref_answer q_Ref_reckoned; simp (decide := true) only [↓reduceIte, Int32.reduceSub]
theorem wcl_110 (a b : Int64) : q_Wholes_calculate 110 32 a b = if (q_Wholes_divided 110 32 a b).1 = 0 then (0, q_Bits_lowest 32 (q_Wholes_divided 110 32 a b).2) else ((q_Wholes_divided 110 32 a b).1, 0) := by unfold q_Wholes_calculate; simp (decide := true) only [↓reduceIte]
theorem ok_110 : OK_ 110 := ok_d (p := 110) (k := 7) (W := 32) (Or.inl rfl : wd_ 32) (an_c32 (p := 110) (by decide +kernel) (by decide +kernel) (by decide +kernel) (by decide +kernel) (by decide +kernel) (by decide +kernel) (by decide +kernel) (by decide +kernel)) wcl_110 rc_110 ra_110 (mk_even (k := q_Ref_first 110) (by decide +kernel)) (fun a => (mk_even (k := q_Ref_result 110) (by decide +kernel) a).trans (low_W (Or.inl rfl : wd_ 32) a).symm) (dk_7 (Or.inl rfl : wd_ 32))
theorem rc_111 (m1 m2 : Int64) : q_Ref_answer_cd 0 111 m1 m2 = q_Ref_byDivision_cd 0 8 32 m1 m2 := by unfold q_Ref_answer_cd q_Ref_reckoned_cd; simp (decide := true) only [↓reduceIte, Int32.reduceSub]
theorem ra_111 (m1 m2 : Int64) : q_Ref_answer 0 111 m1 m2 = q_Ref_byDivision 0 8 32 m1 m2 := by unfold q_Ref_answer q_Ref_reckoned; simp (decide := true) only [↓reduceIte, Int32.reduceSub]
theorem wcl_111 (a b : Int64) : q_Wholes_calculate 111 32 a b = if (q_Wholes_divided 111 32 a b).1 = 0 then (0, q_Bits_lowest 32 (q_Wholes_divided 111 32 a b).2) else ((q_Wholes_divided 111 32 a b).1, 0) := by unfold q_Wholes_calculate; simp (decide := true) only [↓reduceIte]
theorem ok_111 : OK_ 111 := ok_d (p := 111) (k := 8) (W := 32) (Or.inl rfl : wd_ 32) (an_c32 (p := 111) (by decide +kernel) (by decide +kernel) (by decide +kernel) (by decide +kernel) (by decide +kernel) (by decide +kernel) (by decide +kernel) (by decide +kernel)) wcl_111 rc_111 ra_111 (mk_even (k := q_Ref_first 111) (by decide +kernel)) (fun a => (mk_even (k := q_Ref_result 111) (by decide +kernel) a).trans (low_W (Or.inl rfl : wd_ 32) a).symm) (dk_8 (Or.inl rfl : wd_ 32))
theorem rc_112 (m1 m2 : Int64) : q_Ref_answer_cd 0 112 m1 m2 = q_Ref_byDivision_cd 0 9 32 m1 m2 := by unfold q_Ref_answer_cd q_Ref_reckoned_cd; simp (decide := true) only [↓reduceIte, Int32.reduceSub]
theorem ra_112 (m1 m2 : Int64) : q_Ref_answer 0 112 m1 m2 = q_Ref_byDivision 0 9 32 m1 m2 := by unfold q_Ref_answer q_Ref_reckoned; simp (decide := true) only [↓reduceIte, Int32.reduceSub]
theorem wcl_112 (a b : Int64) : q_Wholes_calculate 112 32 a b = if (q_Wholes_divided 112 32 a b).1 = 0 then (0, q_Bits_lowest 32 (q_Wholes_divided 112 32 a b).2) else ((q_Wholes_divided 112 32 a b).1, 0) := by unfold q_Wholes_calculate; simp (decide := true) only [↓reduceIte]
theorem ok_112 : OK_ 112 := ok_d (p := 112) (k := 9) (W := 32) (Or.inl rfl : wd_ 32) (an_c32 (p := 112) (by decide +kernel) (by decide +kernel) (by decide +kernel) (by decide +kernel) (by decide +kernel) (by decide +kernel) (by decide +kernel) (by decide +kernel)) wcl_112 rc_112 ra_112 (mk_even (k := q_Ref_first 112) (by decide +kernel)) (fun a => (mk_even (k := q_Ref_result 112) (by decide +kernel) a).trans (low_W (Or.inl rfl : wd_ 32) a).symm) (dk_9 (Or.inl rfl : wd_ 32))
theorem rc_113 (m1 m2 : Int64) : q_Ref_answer_cd 0 113 m1 m2 = 0 := by unfold q_Ref_answer_cd q_Ref_reckoned_cd; simp (decide := true) only [↓reduceIte, Int32.reduceSub]
theorem ra_113 (m1 m2 : Int64) : q_Ref_answer 0 113 m1 m2 = m1 &&& m2 := by unfold q_Ref_answer q_Ref_reckoned; simp (decide := true) only [↓reduceIte, Int32.reduceSub]
theorem wcl_113 (a b : Int64) : q_Wholes_calculate 113 32 a b = (0, q_Bits_lowest 32 (a &&& b)) := by unfold q_Wholes_calculate q_Wholes_combined; simp (decide := true) only [↓reduceIte]
theorem ok_113 : OK_ 113 := ok_w (p := 113) (W := 32) (fun a b => q_Bits_lowest 32 (a &&& b)) (fun m1 m2 => m1 &&& m2) (an_c32 (p := 113) (by decide +kernel) (by decide +kernel) (by decide +kernel) (by decide +kernel) (by decide +kernel) (by decide +kernel) (by decide +kernel) (by decide +kernel)) wcl_113 rc_113 ra_113 (mk_even (k := q_Ref_first 113) (by decide +kernel)) (fun a => (mk_even (k := q_Ref_result 113) (by decide +kernel) a).trans (low_W (Or.inl rfl : wd_ 32) a).symm) (cb_and (Or.inl rfl : wd_ 32))
theorem rc_114 (m1 m2 : Int64) : q_Ref_answer_cd 0 114 m1 m2 = 0 := by unfold q_Ref_answer_cd q_Ref_reckoned_cd; simp (decide := true) only [↓reduceIte, Int32.reduceSub]
theorem ra_114 (m1 m2 : Int64) : q_Ref_answer 0 114 m1 m2 = m1 ||| m2 := by unfold q_Ref_answer q_Ref_reckoned; simp (decide := true) only [↓reduceIte, Int32.reduceSub]
theorem wcl_114 (a b : Int64) : q_Wholes_calculate 114 32 a b = (0, q_Bits_lowest 32 (a ||| b)) := by unfold q_Wholes_calculate q_Wholes_combined; simp (decide := true) only [↓reduceIte]
theorem ok_114 : OK_ 114 := ok_w (p := 114) (W := 32) (fun a b => q_Bits_lowest 32 (a ||| b)) (fun m1 m2 => m1 ||| m2) (an_c32 (p := 114) (by decide +kernel) (by decide +kernel) (by decide +kernel) (by decide +kernel) (by decide +kernel) (by decide +kernel) (by decide +kernel) (by decide +kernel)) wcl_114 rc_114 ra_114 (mk_even (k := q_Ref_first 114) (by decide +kernel)) (fun a => (mk_even (k := q_Ref_result 114) (by decide +kernel) a).trans (low_W (Or.inl rfl : wd_ 32) a).symm) (cb_or (Or.inl rfl : wd_ 32))
theorem rc_115 (m1 m2 : Int64) : q_Ref_answer_cd 0 115 m1 m2 = 0 := by unfold q_Ref_answer_cd q_Ref_reckoned_cd; simp (decide := true) only [↓reduceIte, Int32.reduceSub]
theorem ra_115 (m1 m2 : Int64) : q_Ref_answer 0 115 m1 m2 = m1 ^^^ m2 := by unfold q_Ref_answer q_Ref_reckoned; simp (decide := true) only [↓reduceIte, Int32.reduceSub]
theorem wcl_115 (a b : Int64) : q_Wholes_calculate 115 32 a b = (0, q_Bits_lowest 32 (a ^^^ b)) := by unfold q_Wholes_calculate q_Wholes_combined; simp (decide := true) only [↓reduceIte]
theorem ok_115 : OK_ 115 := ok_w (p := 115) (W := 32) (fun a b => q_Bits_lowest 32 (a ^^^ b)) (fun m1 m2 => m1 ^^^ m2) (an_c32 (p := 115) (by decide +kernel) (by decide +kernel) (by decide +kernel) (by decide +kernel) (by decide +kernel) (by decide +kernel) (by decide +kernel) (by decide +kernel)) wcl_115 rc_115 ra_115 (mk_even (k := q_Ref_first 115) (by decide +kernel)) (fun a => (mk_even (k := q_Ref_result 115) (by decide +kernel) a).trans (low_W (Or.inl rfl : wd_ 32) a).symm) (cb_xor (Or.inl rfl : wd_ 32))
theorem rc_116 (m1 m2 : Int64) : q_Ref_answer_cd 0 116 m1 m2 = 0 := by unfold q_Ref_answer_cd q_Ref_reckoned_cd; simp (decide := true) only [↓reduceIte, Int32.reduceSub]
theorem ra_116 (m1 m2 : Int64) : q_Ref_answer 0 116 m1 m2 = q_Ref_moved 13 32 m1 (Int64.toInt32 (m2 &&& (Int32.toInt64 ((32 : Int32) - (1 : Int32))))) := by unfold q_Ref_answer q_Ref_reckoned; simp (decide := true) only [↓reduceIte, Int32.reduceSub]
theorem wcl_116 (a b : Int64) : q_Wholes_calculate 116 32 a b = (0, q_Bits_lowest 32 (shl_ a (Int64.toInt32 (b &&& (Int32.toInt64 ((32 : Int32) - (1 : Int32))))))) := by unfold q_Wholes_calculate q_Wholes_moved; simp (decide := true) only [↓reduceIte]
theorem ok_116 : OK_ 116 := ok_w (p := 116) (W := 32) (fun a b => q_Bits_lowest 32 (shl_ a (Int64.toInt32 (b &&& (Int32.toInt64 ((32 : Int32) - (1 : Int32))))))) (fun m1 m2 => q_Ref_moved 13 32 m1 (Int64.toInt32 (m2 &&& (Int32.toInt64 ((32 : Int32) - (1 : Int32)))))) (an_c32 (p := 116) (by decide +kernel) (by decide +kernel) (by decide +kernel) (by decide +kernel) (by decide +kernel) (by decide +kernel) (by decide +kernel) (by decide +kernel)) wcl_116 rc_116 ra_116 (mk_even (k := q_Ref_first 116) (by decide +kernel)) (fun a => (mk_even (k := q_Ref_result 116) (by decide +kernel) a).trans (low_W (Or.inl rfl : wd_ 32) a).symm) (mx_13 (Or.inl rfl : wd_ 32))
theorem rc_117 (m1 m2 : Int64) : q_Ref_answer_cd 0 117 m1 m2 = 0 := by unfold q_Ref_answer_cd q_Ref_reckoned_cd; simp (decide := true) only [↓reduceIte, Int32.reduceSub]
theorem ra_117 (m1 m2 : Int64) : q_Ref_answer 0 117 m1 m2 = q_Ref_moved 14 32 m1 (Int64.toInt32 (m2 &&& (Int32.toInt64 ((32 : Int32) - (1 : Int32))))) := by unfold q_Ref_answer q_Ref_reckoned; simp (decide := true) only [↓reduceIte, Int32.reduceSub]
theorem wcl_117 (a b : Int64) : q_Wholes_calculate 117 32 a b = (0, q_Bits_lowest 32 (shr_ (q_Bits_signed 32 a) (Int64.toInt32 (b &&& (Int32.toInt64 ((32 : Int32) - (1 : Int32))))))) := by unfold q_Wholes_calculate q_Wholes_moved; simp (decide := true) only [↓reduceIte]
theorem ok_117 : OK_ 117 := ok_w (p := 117) (W := 32) (fun a b => q_Bits_lowest 32 (shr_ (q_Bits_signed 32 a) (Int64.toInt32 (b &&& (Int32.toInt64 ((32 : Int32) - (1 : Int32))))))) (fun m1 m2 => q_Ref_moved 14 32 m1 (Int64.toInt32 (m2 &&& (Int32.toInt64 ((32 : Int32) - (1 : Int32)))))) (an_c32 (p := 117) (by decide +kernel) (by decide +kernel) (by decide +kernel) (by decide +kernel) (by decide +kernel) (by decide +kernel) (by decide +kernel) (by decide +kernel)) wcl_117 rc_117 ra_117 (mk_even (k := q_Ref_first 117) (by decide +kernel)) (fun a => (mk_even (k := q_Ref_result 117) (by decide +kernel) a).trans (low_W (Or.inl rfl : wd_ 32) a).symm) (mx_14 (Or.inl rfl : wd_ 32))
theorem rc_118 (m1 m2 : Int64) : q_Ref_answer_cd 0 118 m1 m2 = 0 := by unfold q_Ref_answer_cd q_Ref_reckoned_cd; simp (decide := true) only [↓reduceIte, Int32.reduceSub]
theorem ra_118 (m1 m2 : Int64) : q_Ref_answer 0 118 m1 m2 = q_Ref_moved 15 32 m1 (Int64.toInt32 (m2 &&& (Int32.toInt64 ((32 : Int32) - (1 : Int32))))) := by unfold q_Ref_answer q_Ref_reckoned; simp (decide := true) only [↓reduceIte, Int32.reduceSub]
theorem wcl_118 (a b : Int64) : q_Wholes_calculate 118 32 a b = (0, q_Bits_lowest 32 (ush_ (q_Bits_lowest 32 a) (Int64.toInt32 (b &&& (Int32.toInt64 ((32 : Int32) - (1 : Int32))))))) := by unfold q_Wholes_calculate q_Wholes_moved; simp (decide := true) only [↓reduceIte]
theorem ok_118 : OK_ 118 := ok_w (p := 118) (W := 32) (fun a b => q_Bits_lowest 32 (ush_ (q_Bits_lowest 32 a) (Int64.toInt32 (b &&& (Int32.toInt64 ((32 : Int32) - (1 : Int32))))))) (fun m1 m2 => q_Ref_moved 15 32 m1 (Int64.toInt32 (m2 &&& (Int32.toInt64 ((32 : Int32) - (1 : Int32)))))) (an_c32 (p := 118) (by decide +kernel) (by decide +kernel) (by decide +kernel) (by decide +kernel) (by decide +kernel) (by decide +kernel) (by decide +kernel) (by decide +kernel)) wcl_118 rc_118 ra_118 (mk_even (k := q_Ref_first 118) (by decide +kernel)) (fun a => (mk_even (k := q_Ref_result 118) (by decide +kernel) a).trans (low_W (Or.inl rfl : wd_ 32) a).symm) (mx_15 (Or.inl rfl : wd_ 32))
theorem rc_119 (m1 m2 : Int64) : q_Ref_answer_cd 0 119 m1 m2 = 0 := by unfold q_Ref_answer_cd q_Ref_reckoned_cd; simp (decide := true) only [↓reduceIte, Int32.reduceSub]
theorem ra_119 (m1 m2 : Int64) : q_Ref_answer 0 119 m1 m2 = q_Ref_turned m1 32 (Int64.toInt32 (m2 &&& (Int32.toInt64 ((32 : Int32) - (1 : Int32))))) := by unfold q_Ref_answer q_Ref_reckoned; simp (decide := true) only [↓reduceIte, Int32.reduceSub]
theorem wcl_119 (a b : Int64) : q_Wholes_calculate 119 32 a b = (0, q_Bits_lowest 32 (q_Wholes_turnedUp 32 a (Int64.toInt32 (b &&& (Int32.toInt64 ((32 : Int32) - (1 : Int32))))))) := by unfold q_Wholes_calculate q_Wholes_moved; simp (decide := true) only [↓reduceIte]
theorem ok_119 : OK_ 119 := ok_w (p := 119) (W := 32) (fun a b => q_Bits_lowest 32 (q_Wholes_turnedUp 32 a (Int64.toInt32 (b &&& (Int32.toInt64 ((32 : Int32) - (1 : Int32))))))) (fun m1 m2 => q_Ref_turned m1 32 (Int64.toInt32 (m2 &&& (Int32.toInt64 ((32 : Int32) - (1 : Int32)))))) (an_c32 (p := 119) (by decide +kernel) (by decide +kernel) (by decide +kernel) (by decide +kernel) (by decide +kernel) (by decide +kernel) (by decide +kernel) (by decide +kernel)) wcl_119 rc_119 ra_119 (mk_even (k := q_Ref_first 119) (by decide +kernel)) (fun a => (mk_even (k := q_Ref_result 119) (by decide +kernel) a).trans (low_W (Or.inl rfl : wd_ 32) a).symm) (mx_16 (Or.inl rfl : wd_ 32))
theorem rc_120 (m1 m2 : Int64) : q_Ref_answer_cd 0 120 m1 m2 = 0 := by unfold q_Ref_answer_cd q_Ref_reckoned_cd; simp (decide := true) only [↓reduceIte, Int32.reduceSub]
theorem ra_120 (m1 m2 : Int64) : q_Ref_answer 0 120 m1 m2 = q_Ref_turned m1 32 (((32 : Int32) - (Int64.toInt32 (m2 &&& (Int32.toInt64 ((32 : Int32) - (1 : Int32)))))) - ((32 : Int32) - (Int64.toInt32 (m2 &&& (Int32.toInt64 ((32 : Int32) - (1 : Int32)))))) / (32 : Int32) * (32 : Int32)) := by unfold q_Ref_answer q_Ref_reckoned; simp (decide := true) only [↓reduceIte, Int32.reduceSub]
theorem wcl_120 (a b : Int64) : q_Wholes_calculate 120 32 a b = (0, q_Bits_lowest 32 (q_Wholes_turnedUp 32 a (((32 : Int32) - (Int64.toInt32 (b &&& (Int32.toInt64 ((32 : Int32) - (1 : Int32)))))) &&& ((32 : Int32) - 1)))) := by unfold q_Wholes_calculate q_Wholes_moved; simp (decide := true) only [↓reduceIte]
theorem ok_120 : OK_ 120 := ok_w (p := 120) (W := 32) (fun a b => q_Bits_lowest 32 (q_Wholes_turnedUp 32 a (((32 : Int32) - (Int64.toInt32 (b &&& (Int32.toInt64 ((32 : Int32) - (1 : Int32)))))) &&& ((32 : Int32) - 1)))) (fun m1 m2 => q_Ref_turned m1 32 (((32 : Int32) - (Int64.toInt32 (m2 &&& (Int32.toInt64 ((32 : Int32) - (1 : Int32)))))) - ((32 : Int32) - (Int64.toInt32 (m2 &&& (Int32.toInt64 ((32 : Int32) - (1 : Int32)))))) / (32 : Int32) * (32 : Int32))) (an_c32 (p := 120) (by decide +kernel) (by decide +kernel) (by decide +kernel) (by decide +kernel) (by decide +kernel) (by decide +kernel) (by decide +kernel) (by decide +kernel)) wcl_120 rc_120 ra_120 (mk_even (k := q_Ref_first 120) (by decide +kernel)) (fun a => (mk_even (k := q_Ref_result 120) (by decide +kernel) a).trans (low_W (Or.inl rfl : wd_ 32) a).symm) (mx_17 (Or.inl rfl : wd_ 32))
theorem rc_121 (m1 m2 : Int64) : q_Ref_answer_cd 0 121 m1 m2 = 0 := by unfold q_Ref_answer_cd q_Ref_reckoned_cd; simp (decide := true) only [↓reduceIte, Int32.reduceSub]
theorem ra_121 (m1 m2 : Int64) : q_Ref_answer 0 121 m1 m2 = Int32.toInt64 (q_Ref_count m1 64 0) := by unfold q_Ref_answer q_Ref_reckoned; simp (decide := true) only [↓reduceIte, Int32.reduceSub]
theorem wcl_121 (a b : Int64) : q_Wholes_calculate 103 64 a b = (0, Int32.toInt64 (q_Long_numberOfLeadingZeros (q_Bits_lowest 64 a) - (64 - (64 : Int32)))) := by unfold q_Wholes_calculate q_Wholes_counted; simp (decide := true) only [↓reduceIte]
theorem ok_121 : OK_ 121 := ok_w (p := 103) (W := 64) (fun a b => Int32.toInt64 (q_Long_numberOfLeadingZeros (q_Bits_lowest 64 a) - (64 - (64 : Int32)))) (fun m1 m2 => Int32.toInt64 (q_Ref_count m1 64 0)) (an_c64 (p := 103) (by decide +kernel) (by decide +kernel) (by decide +kernel) (by decide +kernel) (by decide +kernel) (by decide +kernel) (by decide +kernel) (by decide +kernel)) wcl_121 rc_121 ra_121 (mk_odd (k := q_Ref_first 121) (by decide +kernel)) (fun a => (mk_odd (k := q_Ref_result 121) (by decide +kernel) a).trans (low_W (Or.inr rfl : wd_ 64) a).symm) (fun a b => (congrArg (fun t => Int32.toInt64 (q_Long_numberOfLeadingZeros t - (64 - nI 64))) (low_W (Or.inr rfl : wd_ 64) a)).trans (cz_0 (Or.inr rfl : wd_ 64) (Nat.mod_lt _ (by decide))))
theorem rc_122 (m1 m2 : Int64) : q_Ref_answer_cd 0 122 m1 m2 = 0 := by unfold q_Ref_answer_cd q_Ref_reckoned_cd; simp (decide := true) only [↓reduceIte, Int32.reduceSub]
theorem ra_122 (m1 m2 : Int64) : q_Ref_answer 0 122 m1 m2 = Int32.toInt64 (q_Ref_count m1 64 1) := by unfold q_Ref_answer q_Ref_reckoned; simp (decide := true) only [↓reduceIte, Int32.reduceSub]
theorem wcl_122 (a b : Int64) : q_Wholes_calculate 104 64 a b = (0, (if q_Bits_lowest 64 a = (0 : Int64) then Int32.toInt64 (64 : Int32) else Int32.toInt64 (q_Long_numberOfTrailingZeros (q_Bits_lowest 64 a)))) := by unfold q_Wholes_calculate q_Wholes_counted; simp (decide := true) only [↓reduceIte]
theorem ok_122 : OK_ 122 := ok_w (p := 104) (W := 64) (fun a b => (if q_Bits_lowest 64 a = (0 : Int64) then Int32.toInt64 (64 : Int32) else Int32.toInt64 (q_Long_numberOfTrailingZeros (q_Bits_lowest 64 a)))) (fun m1 m2 => Int32.toInt64 (q_Ref_count m1 64 1)) (an_c64 (p := 104) (by decide +kernel) (by decide +kernel) (by decide +kernel) (by decide +kernel) (by decide +kernel) (by decide +kernel) (by decide +kernel) (by decide +kernel)) wcl_122 rc_122 ra_122 (mk_odd (k := q_Ref_first 122) (by decide +kernel)) (fun a => (mk_odd (k := q_Ref_result 122) (by decide +kernel) a).trans (low_W (Or.inr rfl : wd_ 64) a).symm) (fun a b => (congrArg (fun t => if t = (0 : Int64) then Int32.toInt64 (nI 64) else Int32.toInt64 (q_Long_numberOfTrailingZeros t)) (low_W (Or.inr rfl : wd_ 64) a)).trans (cz_1 (Or.inr rfl : wd_ 64) (Nat.mod_lt _ (by decide))))
theorem rc_123 (m1 m2 : Int64) : q_Ref_answer_cd 0 123 m1 m2 = 0 := by unfold q_Ref_answer_cd q_Ref_reckoned_cd; simp (decide := true) only [↓reduceIte, Int32.reduceSub]
theorem ra_123 (m1 m2 : Int64) : q_Ref_answer 0 123 m1 m2 = Int32.toInt64 (q_Ref_count m1 64 2) := by unfold q_Ref_answer q_Ref_reckoned; simp (decide := true) only [↓reduceIte, Int32.reduceSub]
theorem wcl_123 (a b : Int64) : q_Wholes_calculate 105 64 a b = (0, Int32.toInt64 (q_Long_bitCount (q_Bits_lowest 64 a))) := by unfold q_Wholes_calculate q_Wholes_counted; simp (decide := true) only [↓reduceIte]
theorem ok_123 : OK_ 123 := ok_w (p := 105) (W := 64) (fun a b => Int32.toInt64 (q_Long_bitCount (q_Bits_lowest 64 a))) (fun m1 m2 => Int32.toInt64 (q_Ref_count m1 64 2)) (an_c64 (p := 105) (by decide +kernel) (by decide +kernel) (by decide +kernel) (by decide +kernel) (by decide +kernel) (by decide +kernel) (by decide +kernel) (by decide +kernel)) wcl_123 rc_123 ra_123 (mk_odd (k := q_Ref_first 123) (by decide +kernel)) (fun a => (mk_odd (k := q_Ref_result 123) (by decide +kernel) a).trans (low_W (Or.inr rfl : wd_ 64) a).symm) (fun a b => (congrArg (fun t => Int32.toInt64 (q_Long_bitCount t)) (low_W (Or.inr rfl : wd_ 64) a)).trans (cz_2 (Or.inr rfl : wd_ 64) (Nat.mod_lt _ (by decide))))
theorem rc_124 (m1 m2 : Int64) : q_Ref_answer_cd 0 124 m1 m2 = 0 := by unfold q_Ref_answer_cd q_Ref_reckoned_cd; simp (decide := true) only [↓reduceIte, Int32.reduceSub]
theorem ra_124 (m1 m2 : Int64) : q_Ref_answer 0 124 m1 m2 = m1 + m2 := by unfold q_Ref_answer q_Ref_reckoned; simp (decide := true) only [↓reduceIte, Int32.reduceSub]
theorem wcl_124 (a b : Int64) : q_Wholes_calculate 106 64 a b = (0, q_Bits_lowest 64 (a + b)) := by unfold q_Wholes_calculate q_Wholes_combined; simp (decide := true) only [↓reduceIte]
theorem ok_124 : OK_ 124 := ok_w (p := 106) (W := 64) (fun a b => q_Bits_lowest 64 (a + b)) (fun m1 m2 => m1 + m2) (an_c64 (p := 106) (by decide +kernel) (by decide +kernel) (by decide +kernel) (by decide +kernel) (by decide +kernel) (by decide +kernel) (by decide +kernel) (by decide +kernel)) wcl_124 rc_124 ra_124 (mk_odd (k := q_Ref_first 124) (by decide +kernel)) (fun a => (mk_odd (k := q_Ref_result 124) (by decide +kernel) a).trans (low_W (Or.inr rfl : wd_ 64) a).symm) (cb_add (Or.inr rfl : wd_ 64))
theorem rc_125 (m1 m2 : Int64) : q_Ref_answer_cd 0 125 m1 m2 = 0 := by unfold q_Ref_answer_cd q_Ref_reckoned_cd; simp (decide := true) only [↓reduceIte, Int32.reduceSub]
theorem ra_125 (m1 m2 : Int64) : q_Ref_answer 0 125 m1 m2 = m1 - m2 := by unfold q_Ref_answer q_Ref_reckoned; simp (decide := true) only [↓reduceIte, Int32.reduceSub]
theorem wcl_125 (a b : Int64) : q_Wholes_calculate 107 64 a b = (0, q_Bits_lowest 64 (a - b)) := by unfold q_Wholes_calculate q_Wholes_combined; simp (decide := true) only [↓reduceIte]
theorem ok_125 : OK_ 125 := ok_w (p := 107) (W := 64) (fun a b => q_Bits_lowest 64 (a - b)) (fun m1 m2 => m1 - m2) (an_c64 (p := 107) (by decide +kernel) (by decide +kernel) (by decide +kernel) (by decide +kernel) (by decide +kernel) (by decide +kernel) (by decide +kernel) (by decide +kernel)) wcl_125 rc_125 ra_125 (mk_odd (k := q_Ref_first 125) (by decide +kernel)) (fun a => (mk_odd (k := q_Ref_result 125) (by decide +kernel) a).trans (low_W (Or.inr rfl : wd_ 64) a).symm) (cb_sub (Or.inr rfl : wd_ 64))
theorem rc_126 (m1 m2 : Int64) : q_Ref_answer_cd 0 126 m1 m2 = 0 := by unfold q_Ref_answer_cd q_Ref_reckoned_cd; simp (decide := true) only [↓reduceIte, Int32.reduceSub]
theorem ra_126 (m1 m2 : Int64) : q_Ref_answer 0 126 m1 m2 = m1 * m2 := by unfold q_Ref_answer q_Ref_reckoned; simp (decide := true) only [↓reduceIte, Int32.reduceSub]
theorem wcl_126 (a b : Int64) : q_Wholes_calculate 108 64 a b = (0, q_Bits_lowest 64 (a * b)) := by unfold q_Wholes_calculate q_Wholes_combined; simp (decide := true) only [↓reduceIte]
theorem ok_126 : OK_ 126 := ok_w (p := 108) (W := 64) (fun a b => q_Bits_lowest 64 (a * b)) (fun m1 m2 => m1 * m2) (an_c64 (p := 108) (by decide +kernel) (by decide +kernel) (by decide +kernel) (by decide +kernel) (by decide +kernel) (by decide +kernel) (by decide +kernel) (by decide +kernel)) wcl_126 rc_126 ra_126 (mk_odd (k := q_Ref_first 126) (by decide +kernel)) (fun a => (mk_odd (k := q_Ref_result 126) (by decide +kernel) a).trans (low_W (Or.inr rfl : wd_ 64) a).symm) (cb_mul (Or.inr rfl : wd_ 64))
theorem rc_127 (m1 m2 : Int64) : q_Ref_answer_cd 0 127 m1 m2 = q_Ref_byDivision_cd 0 6 64 m1 m2 := by unfold q_Ref_answer_cd q_Ref_reckoned_cd; simp (decide := true) only [↓reduceIte, Int32.reduceSub]
theorem ra_127 (m1 m2 : Int64) : q_Ref_answer 0 127 m1 m2 = q_Ref_byDivision 0 6 64 m1 m2 := by unfold q_Ref_answer q_Ref_reckoned; simp (decide := true) only [↓reduceIte, Int32.reduceSub]
theorem wcl_127 (a b : Int64) : q_Wholes_calculate 109 64 a b = if (q_Wholes_divided 109 64 a b).1 = 0 then (0, q_Bits_lowest 64 (q_Wholes_divided 109 64 a b).2) else ((q_Wholes_divided 109 64 a b).1, 0) := by unfold q_Wholes_calculate; simp (decide := true) only [↓reduceIte]
theorem ok_127 : OK_ 127 := ok_d (p := 109) (k := 6) (W := 64) (Or.inr rfl : wd_ 64) (an_c64 (p := 109) (by decide +kernel) (by decide +kernel) (by decide +kernel) (by decide +kernel) (by decide +kernel) (by decide +kernel) (by decide +kernel) (by decide +kernel)) wcl_127 rc_127 ra_127 (mk_odd (k := q_Ref_first 127) (by decide +kernel)) (fun a => (mk_odd (k := q_Ref_result 127) (by decide +kernel) a).trans (low_W (Or.inr rfl : wd_ 64) a).symm) (dk_6 (Or.inr rfl : wd_ 64))
theorem rc_128 (m1 m2 : Int64) : q_Ref_answer_cd 0 128 m1 m2 = q_Ref_byDivision_cd 0 7 64 m1 m2 := by unfold q_Ref_answer_cd q_Ref_reckoned_cd; simp (decide := true) only [↓reduceIte, Int32.reduceSub]
theorem ra_128 (m1 m2 : Int64) : q_Ref_answer 0 128 m1 m2 = q_Ref_byDivision 0 7 64 m1 m2 := by unfold q_Ref_answer q_Ref_reckoned; simp (decide := true) only [↓reduceIte, Int32.reduceSub]
theorem wcl_128 (a b : Int64) : q_Wholes_calculate 110 64 a b = if (q_Wholes_divided 110 64 a b).1 = 0 then (0, q_Bits_lowest 64 (q_Wholes_divided 110 64 a b).2) else ((q_Wholes_divided 110 64 a b).1, 0) := by unfold q_Wholes_calculate; simp (decide := true) only [↓reduceIte]
theorem ok_128 : OK_ 128 := ok_d (p := 110) (k := 7) (W := 64) (Or.inr rfl : wd_ 64) (an_c64 (p := 110) (by decide +kernel) (by decide +kernel) (by decide +kernel) (by decide +kernel) (by decide +kernel) (by decide +kernel) (by decide +kernel) (by decide +kernel)) wcl_128 rc_128 ra_128 (mk_odd (k := q_Ref_first 128) (by decide +kernel)) (fun a => (mk_odd (k := q_Ref_result 128) (by decide +kernel) a).trans (low_W (Or.inr rfl : wd_ 64) a).symm) (dk_7 (Or.inr rfl : wd_ 64))
theorem rc_129 (m1 m2 : Int64) : q_Ref_answer_cd 0 129 m1 m2 = q_Ref_byDivision_cd 0 8 64 m1 m2 := by unfold q_Ref_answer_cd q_Ref_reckoned_cd; simp (decide := true) only [↓reduceIte, Int32.reduceSub]
theorem ra_129 (m1 m2 : Int64) : q_Ref_answer 0 129 m1 m2 = q_Ref_byDivision 0 8 64 m1 m2 := by unfold q_Ref_answer q_Ref_reckoned; simp (decide := true) only [↓reduceIte, Int32.reduceSub]
theorem wcl_129 (a b : Int64) : q_Wholes_calculate 111 64 a b = if (q_Wholes_divided 111 64 a b).1 = 0 then (0, q_Bits_lowest 64 (q_Wholes_divided 111 64 a b).2) else ((q_Wholes_divided 111 64 a b).1, 0) := by unfold q_Wholes_calculate; simp (decide := true) only [↓reduceIte]
theorem ok_129 : OK_ 129 := ok_d (p := 111) (k := 8) (W := 64) (Or.inr rfl : wd_ 64) (an_c64 (p := 111) (by decide +kernel) (by decide +kernel) (by decide +kernel) (by decide +kernel) (by decide +kernel) (by decide +kernel) (by decide +kernel) (by decide +kernel)) wcl_129 rc_129 ra_129 (mk_odd (k := q_Ref_first 129) (by decide +kernel)) (fun a => (mk_odd (k := q_Ref_result 129) (by decide +kernel) a).trans (low_W (Or.inr rfl : wd_ 64) a).symm) (dk_8 (Or.inr rfl : wd_ 64))
theorem rc_130 (m1 m2 : Int64) : q_Ref_answer_cd 0 130 m1 m2 = q_Ref_byDivision_cd 0 9 64 m1 m2 := by unfold q_Ref_answer_cd q_Ref_reckoned_cd; simp (decide := true) only [↓reduceIte, Int32.reduceSub]
theorem ra_130 (m1 m2 : Int64) : q_Ref_answer 0 130 m1 m2 = q_Ref_byDivision 0 9 64 m1 m2 := by unfold q_Ref_answer q_Ref_reckoned; simp (decide := true) only [↓reduceIte, Int32.reduceSub]
theorem wcl_130 (a b : Int64) : q_Wholes_calculate 112 64 a b = if (q_Wholes_divided 112 64 a b).1 = 0 then (0, q_Bits_lowest 64 (q_Wholes_divided 112 64 a b).2) else ((q_Wholes_divided 112 64 a b).1, 0) := by unfold q_Wholes_calculate; simp (decide := true) only [↓reduceIte]
theorem ok_130 : OK_ 130 := ok_d (p := 112) (k := 9) (W := 64) (Or.inr rfl : wd_ 64) (an_c64 (p := 112) (by decide +kernel) (by decide +kernel) (by decide +kernel) (by decide +kernel) (by decide +kernel) (by decide +kernel) (by decide +kernel) (by decide +kernel)) wcl_130 rc_130 ra_130 (mk_odd (k := q_Ref_first 130) (by decide +kernel)) (fun a => (mk_odd (k := q_Ref_result 130) (by decide +kernel) a).trans (low_W (Or.inr rfl : wd_ 64) a).symm) (dk_9 (Or.inr rfl : wd_ 64))
theorem rc_131 (m1 m2 : Int64) : q_Ref_answer_cd 0 131 m1 m2 = 0 := by unfold q_Ref_answer_cd q_Ref_reckoned_cd; simp (decide := true) only [↓reduceIte, Int32.reduceSub]
theorem ra_131 (m1 m2 : Int64) : q_Ref_answer 0 131 m1 m2 = m1 &&& m2 := by unfold q_Ref_answer q_Ref_reckoned; simp (decide := true) only [↓reduceIte, Int32.reduceSub]
theorem wcl_131 (a b : Int64) : q_Wholes_calculate 113 64 a b = (0, q_Bits_lowest 64 (a &&& b)) := by unfold q_Wholes_calculate q_Wholes_combined; simp (decide := true) only [↓reduceIte]
theorem ok_131 : OK_ 131 := ok_w (p := 113) (W := 64) (fun a b => q_Bits_lowest 64 (a &&& b)) (fun m1 m2 => m1 &&& m2) (an_c64 (p := 113) (by decide +kernel) (by decide +kernel) (by decide +kernel) (by decide +kernel) (by decide +kernel) (by decide +kernel) (by decide +kernel) (by decide +kernel)) wcl_131 rc_131 ra_131 (mk_odd (k := q_Ref_first 131) (by decide +kernel)) (fun a => (mk_odd (k := q_Ref_result 131) (by decide +kernel) a).trans (low_W (Or.inr rfl : wd_ 64) a).symm) (cb_and (Or.inr rfl : wd_ 64))
theorem rc_132 (m1 m2 : Int64) : q_Ref_answer_cd 0 132 m1 m2 = 0 := by unfold q_Ref_answer_cd q_Ref_reckoned_cd; simp (decide := true) only [↓reduceIte, Int32.reduceSub]
theorem ra_132 (m1 m2 : Int64) : q_Ref_answer 0 132 m1 m2 = m1 ||| m2 := by unfold q_Ref_answer q_Ref_reckoned; simp (decide := true) only [↓reduceIte, Int32.reduceSub]
theorem wcl_132 (a b : Int64) : q_Wholes_calculate 114 64 a b = (0, q_Bits_lowest 64 (a ||| b)) := by unfold q_Wholes_calculate q_Wholes_combined; simp (decide := true) only [↓reduceIte]
theorem ok_132 : OK_ 132 := ok_w (p := 114) (W := 64) (fun a b => q_Bits_lowest 64 (a ||| b)) (fun m1 m2 => m1 ||| m2) (an_c64 (p := 114) (by decide +kernel) (by decide +kernel) (by decide +kernel) (by decide +kernel) (by decide +kernel) (by decide +kernel) (by decide +kernel) (by decide +kernel)) wcl_132 rc_132 ra_132 (mk_odd (k := q_Ref_first 132) (by decide +kernel)) (fun a => (mk_odd (k := q_Ref_result 132) (by decide +kernel) a).trans (low_W (Or.inr rfl : wd_ 64) a).symm) (cb_or (Or.inr rfl : wd_ 64))
theorem rc_133 (m1 m2 : Int64) : q_Ref_answer_cd 0 133 m1 m2 = 0 := by unfold q_Ref_answer_cd q_Ref_reckoned_cd; simp (decide := true) only [↓reduceIte, Int32.reduceSub]
theorem ra_133 (m1 m2 : Int64) : q_Ref_answer 0 133 m1 m2 = m1 ^^^ m2 := by unfold q_Ref_answer q_Ref_reckoned; simp (decide := true) only [↓reduceIte, Int32.reduceSub]
theorem wcl_133 (a b : Int64) : q_Wholes_calculate 115 64 a b = (0, q_Bits_lowest 64 (a ^^^ b)) := by unfold q_Wholes_calculate q_Wholes_combined; simp (decide := true) only [↓reduceIte]
theorem ok_133 : OK_ 133 := ok_w (p := 115) (W := 64) (fun a b => q_Bits_lowest 64 (a ^^^ b)) (fun m1 m2 => m1 ^^^ m2) (an_c64 (p := 115) (by decide +kernel) (by decide +kernel) (by decide +kernel) (by decide +kernel) (by decide +kernel) (by decide +kernel) (by decide +kernel) (by decide +kernel)) wcl_133 rc_133 ra_133 (mk_odd (k := q_Ref_first 133) (by decide +kernel)) (fun a => (mk_odd (k := q_Ref_result 133) (by decide +kernel) a).trans (low_W (Or.inr rfl : wd_ 64) a).symm) (cb_xor (Or.inr rfl : wd_ 64))
theorem rc_134 (m1 m2 : Int64) : q_Ref_answer_cd 0 134 m1 m2 = 0 := by unfold q_Ref_answer_cd q_Ref_reckoned_cd; simp (decide := true) only [↓reduceIte, Int32.reduceSub]
theorem ra_134 (m1 m2 : Int64) : q_Ref_answer 0 134 m1 m2 = q_Ref_moved 13 64 m1 (Int64.toInt32 (m2 &&& (Int32.toInt64 ((64 : Int32) - (1 : Int32))))) := by unfold q_Ref_answer q_Ref_reckoned; simp (decide := true) only [↓reduceIte, Int32.reduceSub]
theorem wcl_134 (a b : Int64) : q_Wholes_calculate 116 64 a b = (0, q_Bits_lowest 64 (shl_ a (Int64.toInt32 (b &&& (Int32.toInt64 ((64 : Int32) - (1 : Int32))))))) := by unfold q_Wholes_calculate q_Wholes_moved; simp (decide := true) only [↓reduceIte]
theorem ok_134 : OK_ 134 := ok_w (p := 116) (W := 64) (fun a b => q_Bits_lowest 64 (shl_ a (Int64.toInt32 (b &&& (Int32.toInt64 ((64 : Int32) - (1 : Int32))))))) (fun m1 m2 => q_Ref_moved 13 64 m1 (Int64.toInt32 (m2 &&& (Int32.toInt64 ((64 : Int32) - (1 : Int32)))))) (an_c64 (p := 116) (by decide +kernel) (by decide +kernel) (by decide +kernel) (by decide +kernel) (by decide +kernel) (by decide +kernel) (by decide +kernel) (by decide +kernel)) wcl_134 rc_134 ra_134 (mk_odd (k := q_Ref_first 134) (by decide +kernel)) (fun a => (mk_odd (k := q_Ref_result 134) (by decide +kernel) a).trans (low_W (Or.inr rfl : wd_ 64) a).symm) (mx_13 (Or.inr rfl : wd_ 64))
theorem rc_135 (m1 m2 : Int64) : q_Ref_answer_cd 0 135 m1 m2 = 0 := by unfold q_Ref_answer_cd q_Ref_reckoned_cd; simp (decide := true) only [↓reduceIte, Int32.reduceSub]
theorem ra_135 (m1 m2 : Int64) : q_Ref_answer 0 135 m1 m2 = q_Ref_moved 14 64 m1 (Int64.toInt32 (m2 &&& (Int32.toInt64 ((64 : Int32) - (1 : Int32))))) := by unfold q_Ref_answer q_Ref_reckoned; simp (decide := true) only [↓reduceIte, Int32.reduceSub]
theorem wcl_135 (a b : Int64) : q_Wholes_calculate 117 64 a b = (0, q_Bits_lowest 64 (shr_ (q_Bits_signed 64 a) (Int64.toInt32 (b &&& (Int32.toInt64 ((64 : Int32) - (1 : Int32))))))) := by unfold q_Wholes_calculate q_Wholes_moved; simp (decide := true) only [↓reduceIte]
theorem ok_135 : OK_ 135 := ok_w (p := 117) (W := 64) (fun a b => q_Bits_lowest 64 (shr_ (q_Bits_signed 64 a) (Int64.toInt32 (b &&& (Int32.toInt64 ((64 : Int32) - (1 : Int32))))))) (fun m1 m2 => q_Ref_moved 14 64 m1 (Int64.toInt32 (m2 &&& (Int32.toInt64 ((64 : Int32) - (1 : Int32)))))) (an_c64 (p := 117) (by decide +kernel) (by decide +kernel) (by decide +kernel) (by decide +kernel) (by decide +kernel) (by decide +kernel) (by decide +kernel) (by decide +kernel)) wcl_135 rc_135 ra_135 (mk_odd (k := q_Ref_first 135) (by decide +kernel)) (fun a => (mk_odd (k := q_Ref_result 135) (by decide +kernel) a).trans (low_W (Or.inr rfl : wd_ 64) a).symm) (mx_14 (Or.inr rfl : wd_ 64))
theorem rc_136 (m1 m2 : Int64) : q_Ref_answer_cd 0 136 m1 m2 = 0 := by unfold q_Ref_answer_cd q_Ref_reckoned_cd; simp (decide := true) only [↓reduceIte, Int32.reduceSub]
theorem ra_136 (m1 m2 : Int64) : q_Ref_answer 0 136 m1 m2 = q_Ref_moved 15 64 m1 (Int64.toInt32 (m2 &&& (Int32.toInt64 ((64 : Int32) - (1 : Int32))))) := by unfold q_Ref_answer q_Ref_reckoned; simp (decide := true) only [↓reduceIte, Int32.reduceSub]
theorem wcl_136 (a b : Int64) : q_Wholes_calculate 118 64 a b = (0, q_Bits_lowest 64 (ush_ (q_Bits_lowest 64 a) (Int64.toInt32 (b &&& (Int32.toInt64 ((64 : Int32) - (1 : Int32))))))) := by unfold q_Wholes_calculate q_Wholes_moved; simp (decide := true) only [↓reduceIte]
theorem ok_136 : OK_ 136 := ok_w (p := 118) (W := 64) (fun a b => q_Bits_lowest 64 (ush_ (q_Bits_lowest 64 a) (Int64.toInt32 (b &&& (Int32.toInt64 ((64 : Int32) - (1 : Int32))))))) (fun m1 m2 => q_Ref_moved 15 64 m1 (Int64.toInt32 (m2 &&& (Int32.toInt64 ((64 : Int32) - (1 : Int32)))))) (an_c64 (p := 118) (by decide +kernel) (by decide +kernel) (by decide +kernel) (by decide +kernel) (by decide +kernel) (by decide +kernel) (by decide +kernel) (by decide +kernel)) wcl_136 rc_136 ra_136 (mk_odd (k := q_Ref_first 136) (by decide +kernel)) (fun a => (mk_odd (k := q_Ref_result 136) (by decide +kernel) a).trans (low_W (Or.inr rfl : wd_ 64) a).symm) (mx_15 (Or.inr rfl : wd_ 64))
theorem rc_137 (m1 m2 : Int64) : q_Ref_answer_cd 0 137 m1 m2 = 0 := by unfold q_Ref_answer_cd q_Ref_reckoned_cd; simp (decide := true) only [↓reduceIte, Int32.reduceSub]
theorem ra_137 (m1 m2 : Int64) : q_Ref_answer 0 137 m1 m2 = q_Ref_turned m1 64 (Int64.toInt32 (m2 &&& (Int32.toInt64 ((64 : Int32) - (1 : Int32))))) := by unfold q_Ref_answer q_Ref_reckoned; simp (decide := true) only [↓reduceIte, Int32.reduceSub]
theorem wcl_137 (a b : Int64) : q_Wholes_calculate 119 64 a b = (0, q_Bits_lowest 64 (q_Wholes_turnedUp 64 a (Int64.toInt32 (b &&& (Int32.toInt64 ((64 : Int32) - (1 : Int32))))))) := by unfold q_Wholes_calculate q_Wholes_moved; simp (decide := true) only [↓reduceIte]
theorem ok_137 : OK_ 137 := ok_w (p := 119) (W := 64) (fun a b => q_Bits_lowest 64 (q_Wholes_turnedUp 64 a (Int64.toInt32 (b &&& (Int32.toInt64 ((64 : Int32) - (1 : Int32))))))) (fun m1 m2 => q_Ref_turned m1 64 (Int64.toInt32 (m2 &&& (Int32.toInt64 ((64 : Int32) - (1 : Int32)))))) (an_c64 (p := 119) (by decide +kernel) (by decide +kernel) (by decide +kernel) (by decide +kernel) (by decide +kernel) (by decide +kernel) (by decide +kernel) (by decide +kernel)) wcl_137 rc_137 ra_137 (mk_odd (k := q_Ref_first 137) (by decide +kernel)) (fun a => (mk_odd (k := q_Ref_result 137) (by decide +kernel) a).trans (low_W (Or.inr rfl : wd_ 64) a).symm) (mx_16 (Or.inr rfl : wd_ 64))
theorem rc_138 (m1 m2 : Int64) : q_Ref_answer_cd 0 138 m1 m2 = 0 := by unfold q_Ref_answer_cd q_Ref_reckoned_cd; simp (decide := true) only [↓reduceIte, Int32.reduceSub]
theorem ra_138 (m1 m2 : Int64) : q_Ref_answer 0 138 m1 m2 = q_Ref_turned m1 64 (((64 : Int32) - (Int64.toInt32 (m2 &&& (Int32.toInt64 ((64 : Int32) - (1 : Int32)))))) - ((64 : Int32) - (Int64.toInt32 (m2 &&& (Int32.toInt64 ((64 : Int32) - (1 : Int32)))))) / (64 : Int32) * (64 : Int32)) := by unfold q_Ref_answer q_Ref_reckoned; simp (decide := true) only [↓reduceIte, Int32.reduceSub]
theorem wcl_138 (a b : Int64) : q_Wholes_calculate 120 64 a b = (0, q_Bits_lowest 64 (q_Wholes_turnedUp 64 a (((64 : Int32) - (Int64.toInt32 (b &&& (Int32.toInt64 ((64 : Int32) - (1 : Int32)))))) &&& ((64 : Int32) - 1)))) := by unfold q_Wholes_calculate q_Wholes_moved; simp (decide := true) only [↓reduceIte]
theorem ok_138 : OK_ 138 := ok_w (p := 120) (W := 64) (fun a b => q_Bits_lowest 64 (q_Wholes_turnedUp 64 a (((64 : Int32) - (Int64.toInt32 (b &&& (Int32.toInt64 ((64 : Int32) - (1 : Int32)))))) &&& ((64 : Int32) - 1)))) (fun m1 m2 => q_Ref_turned m1 64 (((64 : Int32) - (Int64.toInt32 (m2 &&& (Int32.toInt64 ((64 : Int32) - (1 : Int32)))))) - ((64 : Int32) - (Int64.toInt32 (m2 &&& (Int32.toInt64 ((64 : Int32) - (1 : Int32)))))) / (64 : Int32) * (64 : Int32))) (an_c64 (p := 120) (by decide +kernel) (by decide +kernel) (by decide +kernel) (by decide +kernel) (by decide +kernel) (by decide +kernel) (by decide +kernel) (by decide +kernel)) wcl_138 rc_138 ra_138 (mk_odd (k := q_Ref_first 138) (by decide +kernel)) (fun a => (mk_odd (k := q_Ref_result 138) (by decide +kernel) a).trans (low_W (Or.inr rfl : wd_ 64) a).symm) (mx_17 (Or.inr rfl : wd_ 64))
