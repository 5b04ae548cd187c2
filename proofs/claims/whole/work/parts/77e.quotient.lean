/-! quotients -/
theorem tw_pow (q P : Nat) : 2 * (q * 2 ^ P) = q * 2 ^ (P + 1) := by rw [Nat.pow_succ', Nat.mul_left_comm]
theorem ld_e {n : Nat} (hn : n < 2 ^ 62) (a0 : Int64) : ∀ k q r j : Nat, q < 2 ^ j → j + k ≤ 62 → r < 2 * n → lf_Floats_longDivision a0 (lN n) k (lN q) (lN r) = q_Bits_marked (lN (dv_ n k q r).1) (lN (dv_ n k q r).2) := by
  intro k
  induction k with
  | zero => intro q r j _ _ _; unfold lf_Floats_longDivision dv_; rfl
  | succ k ih =>
    intro q r j hq hj hr
    have hj2 : 2 ^ (j + 1) ≤ 2 ^ 62 := Nat.pow_le_pow_right (by decide) (by omega)
    have hps : 2 ^ (j + 1) = 2 * 2 ^ j := Nat.pow_succ'
    have e1 : shl_ (lN q) (1 : Int32) = lN (2 * q) := by rw [show (1 : Int32) = nI 1 from rfl, shl_lN q (by decide)]; congr 1; omega
    have e2 : shl_ (lN r) (1 : Int32) = lN (2 * r) := by rw [show (1 : Int32) = nI 1 from rfl, shl_lN r (by decide)]; congr 1; omega
    have hc : lN r < lN n ↔ r < n := lN_lt63 (by omega) (by omega)
    unfold lf_Floats_longDivision dv_
    by_cases c : r < n
    · rw [if_pos (hc.mpr c), if_neg (by omega), e1, e2]
      exact ih _ _ (j + 1) (by omega) (by omega) (by omega)
    · have e3 : shl_ (lN (r - n)) (1 : Int32) = lN (2 * (r - n)) := by rw [show (1 : Int32) = nI 1 from rfl, shl_lN _ (by decide)]; congr 1; omega
      have e4 : lN (2 * q) ||| (1 : Int64) = lN (2 * q + 1) := by rw [or1_lN (by omega), or1_]; congr 1; omega
      rw [if_neg (fun z => c (hc.mp z)), if_pos (by omega), e1, lN_sub (by omega), e3, e4]
      exact ih _ _ (j + 1) (by omega) (by omega) (by omega)
theorem qt_ {F B A D k : Nat} (j : Nat) {e : Int} (hD : 0 < D) (hl : F + 2 ≤ (A * 2 ^ k / D).log2) (hq : 0 < A * 2 ^ k / D) : rR_ F B (mk_ (A * 2 ^ (k + j) / D) (A * 2 ^ (k + j) % D)) e = rR_ F B (mk_ (A * 2 ^ k / D) (A * 2 ^ k % D)) (e + j) := by
  have hdm := Nat.div_add_mod (A * 2 ^ k) D
  have hr := Nat.mod_lt (A * 2 ^ k) hD
  have e1 : A * 2 ^ (k + j) = D * (A * 2 ^ k / D * 2 ^ j) + A * 2 ^ k % D * 2 ^ j := by
    rw [Nat.pow_add, ← Nat.mul_assoc, ← Nat.mul_assoc, ← Nat.add_mul, hdm]
  rw [e1, Nat.mul_add_div hD, Nat.mul_add_mod]
  clear e1
  generalize A * 2 ^ k / D = q at *
  generalize A * 2 ^ k % D = r at *
  have hp := Nat.two_pow_pos j
  have h1 : r * 2 ^ j / D < 2 ^ j := by
    rw [Nat.div_lt_iff_lt_mul hD, Nat.mul_comm (2 ^ j)]
    exact Nat.mul_lt_mul_of_pos_right hr hp
  rw [rR_mark2_ hq h1 (fun _ => hl)]
  congr 1
  have hz : r * 2 ^ j / D + r * 2 ^ j % D = 0 ↔ r = 0 := by
    constructor
    · intro z
      have := Nat.div_add_mod (r * 2 ^ j) D
      obtain ⟨z1, z2⟩ := Nat.add_eq_zero_iff.mp z
      rw [z1, z2] at this
      rcases Nat.eq_zero_or_pos r with c | c
      · exact c
      · have := Nat.mul_pos c hp
        omega
    · intro z; rw [z, Nat.zero_mul, Nat.zero_div, Nat.zero_mod]
  unfold mk_
  by_cases c : r = 0
  · rw [if_pos (hz.mpr c), if_pos c]
  · rw [if_neg (fun z => c (hz.mp z)), if_neg c]
theorem mk_eqv {q r s : Nat} (h : r = 0 ↔ s = 0) : mk_ q r = mk_ q s := by
  unfold mk_
  by_cases c : r = 0
  · rw [if_pos c, if_pos (h.mp c)]
  · rw [if_neg c, if_neg (fun z => c (h.mpr z))]
theorem qo_main {i W F B n k : Nat} (h : ff_ i W F B) (hn : n < 2 ^ W) (hk : k < 2 ^ W) (hz1 : q_Form_isZero i (lN n) = 0) (hz2 : q_Form_isZero i (lN k) = 0) (sg : Int64) :
    q_Form_rounded i sg (q_Floats_longDivision (q_Floats_raised i (lN n)) (q_Floats_raised i (lN k))) (((q_Floats_raisedScale i (lN n)) - (q_Floats_raisedScale i (lN k))) - (59 : Int32)) = sg ||| lN (rR_ F B (2 * (un_ (q_Ref_split_am (nI W) (nI F) (nI B) (lN n)) * 2 ^ 110 / un_ (q_Ref_split_am (nI W) (nI F) (nI B) (lN k)) * 2 ^ (w3_ (q_Ref_split_we (nI W) (nI F) (nI B) (lN n)) (q_Ref_split_we (nI W) (nI F) (nI B) (lN k)))) + (if un_ (q_Ref_split_am (nI W) (nI F) (nI B) (lN n)) * 2 ^ 110 % un_ (q_Ref_split_am (nI W) (nI F) (nI B) (lN k)) = 0 then 0 else 1)) (-2201)) := by
  obtain ⟨j1, a1, a2, a3, a4, a5, a6⟩ := fa_e h hn hz1
  obtain ⟨j2, b1, b2, b3, b4, b5, b6⟩ := fa_e h hk hz2
  have p1 : 0 < sg_ F (n % 2 ^ (W - 1)) := sg_pos (Nat.pos_of_ne_zero ((nn_z h hn).mp hz1))
  have p2 : 0 < sg_ F (k % 2 ^ (W - 1)) := sg_pos (Nat.pos_of_ne_zero ((nn_z h hk).mp hz2))
  have l1 := ff_sgl h n
  have l2 := ff_sgl h k
  have x1 := ff_x2 h n
  have x2 := ff_x2 h k
  have hF := ff_F2 h
  rw [a3, b3, a4, b4, rs_am h hn, rs_am h hk, un_of (by omega), un_of (by omega), rs_we h hn, rs_we h hk]
  clear a3 b3 a4 b4
  generalize ((ex_ F (n % 2 ^ (W - 1)) : Nat) : Int) - B - F = x at *
  generalize ((ex_ F (k % 2 ^ (W - 1)) : Nat) : Int) - B - F = y at *
  generalize sg_ F (n % 2 ^ (W - 1)) = A at *
  generalize sg_ F (k % 2 ^ (W - 1)) = D at *
  have hp2 := Nat.two_pow_pos j2
  -- the class's
  have hQ : q_Floats_longDivision (lN (A * 2 ^ j1)) (lN (D * 2 ^ j2)) = lN (mk_ (A * 2 ^ (j1 + 59 - j2) / D) (A * 2 ^ (j1 + 59 - j2) % D)) ∧ 2 ^ 58 ≤ A * 2 ^ (j1 + 59 - j2) / D ∧ A * 2 ^ (j1 + 59 - j2) / D < 2 ^ 62 := by
    unfold q_Floats_longDivision
    have hld := ld_e b6 (lN (A * 2 ^ j1)) 60 0 (A * 2 ^ j1) 0 (by decide) (by decide) (by omega)
    rw [show lN 0 = (0 : Int64) from rfl] at hld
    rw [hld]
    obtain ⟨i1, i2⟩ := dv_inv_ (n := D * 2 ^ j2) 60 0 (A * 2 ^ j1) (by omega)
    have i3 := dv_bound_ (n := D * 2 ^ j2) 60 0 (A * 2 ^ j1) 0 (by decide)
    rw [Nat.mul_zero, Nat.zero_add] at i1
    rw [Nat.zero_add] at i3
    revert i1 i2 i3
    generalize (dv_ (D * 2 ^ j2) 60 0 (A * 2 ^ j1)).1 = Q
    generalize (dv_ (D * 2 ^ j2) 60 0 (A * 2 ^ j1)).2 = R
    intro i1 i2 i3
    have hN0 : 0 < 2 * (D * 2 ^ j2) := by omega
    have hQ1 : A * 2 ^ j1 * 2 ^ 60 / (2 * (D * 2 ^ j2)) = Q := by rw [i1, Nat.mul_add_div hN0, Nat.div_eq_of_lt i2, Nat.add_zero]
    have hR1 : A * 2 ^ j1 * 2 ^ 60 % (2 * (D * 2 ^ j2)) = R := by rw [i1, Nat.mul_add_mod, Nat.mod_eq_of_lt i2]
    have eA : A * 2 ^ j1 * 2 ^ 60 = A * 2 ^ (j1 + 59 - j2) * 2 ^ (j2 + 1) := by
      rw [Nat.mul_assoc, Nat.mul_assoc, ← Nat.pow_add, ← Nat.pow_add]; congr 2; omega
    have eD : 2 * (D * 2 ^ j2) = D * 2 ^ (j2 + 1) := by rw [Nat.pow_succ', Nat.mul_left_comm]
    rw [eA, eD] at hQ1 hR1
    rw [Nat.mul_div_mul_right _ _ (Nat.two_pow_pos _)] at hQ1
    rw [Nat.mul_mod_mul_right] at hR1
    refine ⟨?_, ?_, ?_⟩
    · rw [marked_e (by omega) (by omega), hQ1, mk_eqv (q := Q) (r := R) (s := A * 2 ^ (j1 + 59 - j2) % D)]
      rw [← hR1]
      constructor
      · intro z
        rcases Nat.mul_eq_zero.mp z with q | q
        · exact q
        · have := Nat.two_pow_pos (j2 + 1); omega
      · intro z; rw [z, Nat.zero_mul]
    · rw [hQ1]
      have i4 : 2 ^ 61 * 2 ^ 60 ≤ A * 2 ^ j1 * 2 ^ 60 := Nat.mul_le_mul_right _ a5
      rcases Nat.lt_or_ge Q (2 ^ 58) with q | q
      · exfalso
        have i5 : 2 * (D * 2 ^ j2) * (Q + 1) ≤ 2 * (D * 2 ^ j2) * 2 ^ 58 := Nat.mul_le_mul_left _ q
        rw [Nat.mul_add, Nat.mul_one] at i5
        generalize 2 * (D * 2 ^ j2) * Q = T at *
        generalize D * 2 ^ j2 = N at *
        omega
      · exact q
    · rw [hQ1]; omega
  obtain ⟨q1, q2, q3⟩ := hQ
  have ew : ((w3_ (zI x) (zI y) : Nat) : Int) = 2090 + x - y := by
    unfold w3_
    rw [zI_t ⟨by omega, by omega⟩, zI_t ⟨by omega, by omega⟩]
    omega
  have r57 : 2 ^ 57 ≤ A * 2 ^ 110 / D := by
    rw [Nat.le_div_iff_mul_le p2]
    have h1 : 2 ^ 57 * D ≤ 2 ^ 57 * 2 ^ 53 := Nat.mul_le_mul_left _ (by omega)
    have h2 : 1 * 2 ^ 110 ≤ A * 2 ^ 110 := Nat.mul_le_mul_right _ p1
    refine Nat.le_trans h1 (Nat.le_trans (Nat.le_of_eq ?_) h2)
    rw [Nat.one_mul, ← Nat.pow_add]
  have lr : F + 2 ≤ (A * 2 ^ 110 / D).log2 := by
    have : 57 ≤ (A * 2 ^ 110 / D).log2 := (Nat.le_log2 (by omega)).mpr r57
    omega
  have lc : F + 2 ≤ (A * 2 ^ (j1 + 59 - j2) / D).log2 := by
    have : 58 ≤ (A * 2 ^ (j1 + 59 - j2) / D).log2 := (Nat.le_log2 (by omega)).mpr q2
    omega
  -- the reference's
  have href : rR_ F B (2 * (A * 2 ^ 110 / D * 2 ^ (w3_ (zI x) (zI y))) + (if A * 2 ^ 110 % D = 0 then 0 else 1)) (-2201) = rR_ F B (mk_ (A * 2 ^ 110 / D) (A * 2 ^ 110 % D)) (x - y - 110) := by
    have hm := rR_mark_ (F := F) (B := B) (m := A * 2 ^ 110 / D) (r := if A * 2 ^ 110 % D = 0 then 0 else 1) (j := w3_ (zI x) (zI y) + 1) (e := -2201) (by omega) (by
      have := Nat.two_pow_pos (w3_ (zI x) (zI y))
      rw [Nat.pow_succ]
      split <;> omega) (fun _ => lr)
    rw [show 2 * (A * 2 ^ 110 / D * 2 ^ (w3_ (zI x) (zI y))) = A * 2 ^ 110 / D * 2 ^ (w3_ (zI x) (zI y) + 1) from tw_pow _ _, hm]
    rw [mk_eqv (r := if A * 2 ^ 110 % D = 0 then 0 else 1) (s := A * 2 ^ 110 % D) (by
      by_cases c : A * 2 ^ 110 % D = 0
      · rw [if_pos c]; exact ⟨fun _ => c, fun _ => rfl⟩
      · rw [if_neg c]; exact ⟨fun z => absurd z (by decide), fun z => absurd z c⟩)]
    congr 1
    omega
  rw [href, q1, show (59 : Int32) = zI 59 from rfl, zI_sub, zI_sub, rounded_e (ff_b h) (mk_pos (by omega)) (mk_lt_ (by omega)) ⟨by omega, by omega⟩]
  congr 2
  rw [show x - (j1 : Int) - (y - j2) - 59 = x - y - ((j1 + 59 - j2 : Nat) : Int) by omega]
  generalize j1 + 59 - j2 = kc at *
  by_cases c : kc ≤ 110
  · have := qt_ (F := F) (B := B) (A := A) (D := D) (k := kc) (110 - kc) (e := x - y - 110) p2 lc (by omega)
    rw [show kc + (110 - kc) = 110 by omega] at this
    rw [this]
    congr 1
    omega
  · have := qt_ (F := F) (B := B) (A := A) (D := D) (k := 110) (kc - 110) (e := x - y - kc) p2 lr (by omega)
    rw [show 110 + (kc - 110) = kc by omega] at this
    rw [this]
    congr 1
    omega
theorem zi_no {i W F B n : Nat} (h : ff_ i W F B) (hn : n < 2 ^ W) (hz : ¬ q_Form_isZero i (lN n) = 0) : q_Form_isInfinite i (lN n) = 0 := by
  have hz2 : n % 2 ^ (W - 1) = 0 := Decidable.not_not.mp (fun q => hz ((nn_z h hn).mpr q))
  rw [cs_in h hn, hz2, if_neg (fun q => by
    have := Nat.mul_pos (show 0 < 2 * B + 1 by omega) (Nat.two_pow_pos F)
    omega)]
theorem qo_e {i W F B n k : Nat} (h : ff_ i W F B) (hn : n < 2 ^ W) (hk : k < 2 ^ W) : q_Floats_quotient i (lN n) (lN k) = q_Ref_quotient F B (nI W) (nI F) (nI B) (lN n) (lN k) := by
  unfold q_Floats_quotient q_Ref_quotient
  rw [rs_in h hn, rs_in h hk, rs_z h hn, rs_z h hk, rs_is h, rs_sx h hn hk, rs_sx h hn hk, rs_sx h hn hk, ff_n h, or_0]
  by_cases z1 : q_Form_isZero i (lN n) = 0
  · by_cases z2 : q_Form_isZero i (lN k) = 0
    · rw [qo_main h hn hk z1 z2]
      by_cases c1 : q_Form_isInfinite i (lN n) = 0 <;> by_cases c2 : q_Form_isInfinite i (lN k) = 0 <;> simp only [z1, z2, c1, c2, ↓reduceIte]
    · have c2 := zi_no h hk z2
      by_cases c1 : q_Form_isInfinite i (lN n) = 0 <;> simp only [z1, z2, c1, c2, ↓reduceIte]
  · have c1 := zi_no h hn z1
    by_cases z2 : q_Form_isZero i (lN k) = 0
    · by_cases c2 : q_Form_isInfinite i (lN k) = 0 <;> simp only [z1, z2, c1, c2, ↓reduceIte]
    · have c2 := zi_no h hk z2
      simp only [z1, z2, c1, c2, ↓reduceIte]
