/-! the whole numbers next to a float -/
def wT_ (am : Int64) (D : Int32) : Int64 := if D ≤ (62 : Int32) then shr_ am D else (0 : Int64)
def wX_ (am : Int64) (D : Int32) : Int32 := if (62 : Int32) < D then (1 : Int32) else (if am = shl_ (wT_ am D) D then (0 : Int32) else (1 : Int32))
def wH_ (am : Int64) (D : Int32) : Int32 := if (63 : Int32) < D then (0 : Int32) else (if (shr_ am (D - (1 : Int32)) &&& (1 : Int64)) = (1 : Int64) then (1 : Int32) else (0 : Int32))
def wU_ (a0 mi : Int32) (am : Int64) (D : Int32) : Int32 := if a0 = (3 : Int32) then (if wX_ am D = 0 then (0 : Int32) else (if mi = 0 then (1 : Int32) else (0 : Int32))) else (if a0 = (4 : Int32) then (if wX_ am D = 0 then (0 : Int32) else (if mi = 0 then (0 : Int32) else (1 : Int32))) else (if a0 = (6 : Int32) then (if wH_ am D = 0 then (0 : Int32) else (if (if wH_ am D = 0 then (0 : Int32) else (if am = shl_ (((2 : Int64) * wT_ am D) + (1 : Int64)) (D - (1 : Int32)) then (0 : Int32) else (1 : Int32))) = 0 then (if (wT_ am D &&& (1 : Int64)) = (1 : Int64) then (1 : Int32) else (0 : Int32)) else (1 : Int32))) else (0 : Int32)))
def wV_ (a0 mi : Int32) (am : Int64) (D : Int32) : Int64 := if wU_ a0 mi am D = 0 then wT_ am D else (wT_ am D + (1 : Int64))
theorem wh_u (F B : Nat) (wi fr bi a0 : Int32) (a1 : Int64) : q_Ref_whole F B wi fr bi a0 a1 = if q_Ref_isInfinite wi fr bi a1 = 0 then (if q_Ref_isZero wi a1 = 0 then (if q_Ref_split_we wi fr bi a1 < 0 then (if wV_ a0 (q_Ref_split_mi wi fr bi a1) (q_Ref_split_am wi fr bi a1) (-(q_Ref_split_we wi fr bi a1)) = (0 : Int64) then q_Ref_signed wi (0 : Int64) (q_Ref_split_mi wi fr bi a1) else q_Ref_signed wi (lN (rR_ F B (2 * (0 + un_ (wV_ a0 (q_Ref_split_mi wi fr bi a1) (q_Ref_split_am wi fr bi a1) (-(q_Ref_split_we wi fr bi a1))) * 2 ^ 2200) + (if (0 : Int32) = 0 then 0 else 1)) (-2201))) (q_Ref_split_mi wi fr bi a1)) else a1) else a1) else a1 := by
  unfold q_Ref_whole wV_ wU_ wH_ wX_ wT_
  rfl
theorem nI_le62 {D c : Nat} (hD : D < 2 ^ 31) (hc : c < 2 ^ 31) : nI D ≤ nI c ↔ D ≤ c := by
  rw [← zI_n, ← zI_n, zI_le ⟨by omega, by omega⟩ ⟨by omega, by omega⟩]; omega
theorem wT_e {m D : Nat} (hm : m < 2 ^ 53) (hD : D < 2 ^ 31) : wT_ (lN m) (nI D) = lN (m / 2 ^ D) := by
  unfold wT_
  have c : nI D ≤ (62 : Int32) ↔ D ≤ 62 := nI_le62 (c := 62) hD (by decide)
  by_cases h : D ≤ 62
  · rw [if_pos (c.mpr h), shr_lN63 (by omega) (by omega)]
  · rw [if_neg (fun q => h (c.mp q)), Nat.div_eq_of_lt (Nat.lt_of_lt_of_le hm (Nat.pow_le_pow_right (by decide) (by omega)))]
    rfl
theorem wX_e {m D : Nat} (hm : m < 2 ^ 53) (h0 : 0 < m) (hD : D < 2 ^ 31) : wX_ (lN m) (nI D) = if m % 2 ^ D = 0 then 0 else 1 := by
  unfold wX_
  rw [wT_e hm hD]
  have c : (62 : Int32) < nI D ↔ 62 < D := nI_ltI (a := 62) (by decide) hD
  by_cases h : 62 < D
  · rw [if_pos (c.mpr h), Nat.mod_eq_of_lt (Nat.lt_of_lt_of_le hm (Nat.pow_le_pow_right (by decide) (by omega))), if_neg (by omega)]
  · rw [if_neg (fun q => h (c.mp q)), shl_lN _ (by omega)]
    have hdm := Nat.div_add_mod' m (2 ^ D)
    have : lN m = lN (m / 2 ^ D * 2 ^ D) ↔ m % 2 ^ D = 0 := by
      rw [lN_inj64 (by omega) (by omega)]; omega
    simp only [this]
theorem wH_e {m D : Nat} (hm : m < 2 ^ 53) (hD : D < 2 ^ 31) (h1 : 1 ≤ D) : wH_ (lN m) (nI D) = if m / 2 ^ (D - 1) % 2 = 1 then 1 else 0 := by
  unfold wH_
  have c : (63 : Int32) < nI D ↔ 63 < D := nI_ltI (a := 63) (by decide) hD
  by_cases h : 63 < D
  · rw [if_pos (c.mpr h), Nat.div_eq_of_lt (Nat.lt_of_lt_of_le hm (Nat.pow_le_pow_right (by decide) (by omega))), if_neg (by decide)]
  · rw [if_neg (fun q => h (c.mp q)), show nI D - (1 : Int32) = nI (D - 1) from pk_sub (b := 1) h1]
    simp only [cn_bit (a := lN m) (n := m) (j := D - 1) rfl (by omega) (by omega)]
theorem hf_ (m D : Nat) (h1 : 1 ≤ D) : m / 2 ^ (D - 1) = 2 * (m / 2 ^ D) + m / 2 ^ (D - 1) % 2 := by
  have e : m / 2 ^ D = m / 2 ^ (D - 1) / 2 := by rw [Nat.div_div_eq_div_mul, ← Nat.pow_succ]; congr 2; omega
  rw [e]; omega
theorem wU_6e {m D : Nat} (mi : Int32) (hm : m < 2 ^ 53) (hD : D < 2 ^ 31) (h1 : 1 ≤ D) : wU_ 6 mi (lN m) (nI D) = nI (if m / 2 ^ (D - 1) % 2 = 1 ∧ (m % 2 ^ (D - 1) ≠ 0 ∨ m / 2 ^ D % 2 = 1) then 1 else 0) := by
  unfold wU_
  simp (decide := true) only [↓reduceIte]
  rw [wH_e hm hD h1, wT_e hm hD]
  by_cases c : m / 2 ^ (D - 1) % 2 = 1
  · simp (decide := true) only [c, ↓reduceIte, true_and]
    have hD64 : D - 1 < 53 := by
      rcases Nat.lt_or_ge (D - 1) 53 with q | q
      · exact q
      · rw [Nat.div_eq_of_lt (Nat.lt_of_lt_of_le hm (Nat.pow_le_pow_right (by decide) q))] at c
        exact absurd c (by decide)
    have hh := hf_ m D h1
    have hdm := Nat.div_add_mod' m (2 ^ (D - 1))
    have hdl := Nat.div_le_self m (2 ^ D)
    rw [show nI D - (1 : Int32) = nI (D - 1) from pk_sub (b := 1) h1, show (2 : Int64) * lN (m / 2 ^ D) + 1 = lN (2 * (m / 2 ^ D) + 1) by rw [show (2 : Int64) = lN 2 from rfl, lN_mul, lN_1], shl_lN _ (by omega), wb_a1 (by omega)]
    rw [c] at hh
    rw [← hh]
    have e1 : lN m = lN (m / 2 ^ (D - 1) * 2 ^ (D - 1)) ↔ m % 2 ^ (D - 1) = 0 := by
      rw [lN_inj64 (by omega) (by omega)]; omega
    have e2 : lN (m / 2 ^ D % 2) = (1 : Int64) ↔ m / 2 ^ D % 2 = 1 := lN_inj64 (b := 1) (by omega) (by decide)
    simp only [e1, e2]
    by_cases c2 : m % 2 ^ (D - 1) = 0
    · by_cases c3 : m / 2 ^ D % 2 = 1
      · simp (decide := true) only [c2, c3, ↓reduceIte]
      · simp (decide := true) only [c2, c3, ↓reduceIte]
    · simp (decide := true) only [c2, ↓reduceIte, ne_eq, not_false_eq_true, true_or]
  · simp (decide := true) only [c, ↓reduceIte, false_and]
theorem wV_e {m D u : Nat} (a0 mi : Int32) (hm : m < 2 ^ 53) (hD : D < 2 ^ 31) (hu : u = 0 ∨ u = 1) (e : wU_ a0 mi (lN m) (nI D) = nI u) : wV_ a0 mi (lN m) (nI D) = lN (m / 2 ^ D + u) := by
  unfold wV_
  rw [e, wT_e hm hD]
  rcases hu with rfl | rfl
  · rw [if_pos (show nI 0 = 0 from rfl), Nat.add_zero]
  · rw [if_neg (show ¬ nI 1 = 0 by decide), lN_1]
/-- the reference's answer, where the float isn't whole by its exponent alone -/
theorem wh_D {i W F B n D u : Nat} (h : ff_ i W F B) (hn : n < 2 ^ W) (hz : q_Form_isZero i (lN n) = 0) (hi : q_Form_isInfinite i (lN n) = 0) (hD1 : 1 ≤ D) (hD : ((ex_ F (n % 2 ^ (W - 1)) : Nat) : Int) - B - F = -(D : Int)) (a0 : Int32) (hu : u = 0 ∨ u = 1) (e : wU_ a0 (q_Ref_isMinus (nI W) (lN n)) (lN (sg_ F (n % 2 ^ (W - 1)))) (nI D) = nI u) : q_Ref_whole F B (nI W) (nI F) (nI B) a0 (lN n) = q_Form_sign i (lN n) ||| lN (if sg_ F (n % 2 ^ (W - 1)) / 2 ^ D + u = 0 then 0 else rR_ F B (sg_ F (n % 2 ^ (W - 1)) / 2 ^ D + u) 0) := by
  have hl := ff_sgl h n
  have hx := ff_x2 h n
  have hd2 := Nat.div_le_self (sg_ F (n % 2 ^ (W - 1))) (2 ^ D)
  rw [wh_u, rs_in h hn, rs_z h hn, if_pos hi, if_pos hz]
  unfold q_Ref_split_mi
  rw [rs_we h hn, hD, if_pos (show zI (-(D : Int)) < 0 from (zI_lt (b := 0) ⟨by omega, by omega⟩ ⟨by omega, by omega⟩).mpr (by omega)), zI_neg, Int.neg_neg, zI_n, rs_am h hn, wV_e a0 _ hl (by omega) hu e]
  generalize sg_ F (n % 2 ^ (W - 1)) / 2 ^ D = t at *
  by_cases c : t + u = 0
  · rw [if_pos c, if_pos (by rw [c]; rfl), rs_sm h hn]
    rfl
  · rw [if_neg c, if_neg (fun q => c ((lN_z64 (by omega)).mp q)), rs_sm h hn, un_of (by omega), rf_P (by omega)]
    rfl
theorem rR_int {F B m L : Nat} (hL : L ≤ F) (h1 : 2 ^ L ≤ m) (h2 : m ≤ 2 ^ (L + 1)) (hB : 1 ≤ L + B) (hB2 : L + 1 ≤ B) : rR_ F B m 0 = (L + B - 1) * 2 ^ F + m * 2 ^ (F - L) := by
  have hpL := Nat.two_pow_pos L
  have hm0 : m ≠ 0 := by omega
  rcases Nat.lt_or_ge m (2 ^ (L + 1)) with c | c
  · have hl : m.log2 = L := (Nat.log2_eq_iff hm0).mpr ⟨h1, c⟩
    have hdr : dr_ F B m 0 = (L : Int) - F := by unfold dr_; rw [hl, if_neg (by omega)]; omega
    unfold rR_
    rw [hdr, hl, if_neg (by omega), if_pos (by omega)]
    congr 2
    · omega
    · congr 1; omega
  · have hm : m = 2 ^ (L + 1) := by omega
    have hl : m.log2 = L + 1 := (Nat.log2_eq_iff hm0).mpr ⟨c, by rw [hm]; exact Nat.pow_lt_pow_right (by decide) (by omega)⟩
    have hdr : dr_ F B m 0 = (L : Int) + 1 - F := by unfold dr_; rw [hl, if_neg (by omega)]; omega
    have hK : (if dr_ F B m 0 ≤ 0 then m * 2 ^ (-dr_ F B m 0).toNat else rd_ m (dr_ F B m 0).toNat) = 2 ^ F := by
      rw [hdr]
      rcases Nat.lt_or_ge L F with q | q
      · rw [if_pos (by omega), hm, ← Nat.pow_add]; congr 1; omega
      · have : L = F := by omega
        rw [if_neg (by omega), this, show ((F : Int) + 1 - F).toNat = 1 by omega, hm, this, Nat.pow_succ]
        exact rd_exact_ (2 ^ F) 1
    have e2 : m * 2 ^ (F - L) = 2 * 2 ^ F := by
      rw [hm, ← Nat.pow_add, show L + 1 + (F - L) = F + 1 by omega, Nat.pow_succ']
    unfold rR_
    rw [hK, hl, if_neg (by omega), e2, show (max (0 + ((L + 1 : Nat) : Int) + B) 1 - 1).toNat = (L + B - 1) + 1 by omega, Nat.add_mul (L + B - 1) 1]
    omega
theorem ga_e (s : Int64) : q_Steps_goesAway 141 s = (if s = 0 then 1 else 0) ∧ q_Steps_goesAway 142 s = (if s = 0 then 0 else 1) ∧ q_Steps_goesAway 143 s = 0 := by
  unfold q_Steps_goesAway
  refine ⟨?_, ?_, ?_⟩ <;> simp (decide := true) only [↓reduceIte]
/-- what the mode says: 1 away from 0 -/
def wm_m (p : Int32) (s m D : Nat) : Nat := if p = 141 then (if m % 2 ^ D = 0 then 0 else if s = 0 then 1 else 0) else if p = 142 then (if m % 2 ^ D = 0 then 0 else if s = 0 then 0 else 1) else if p = 143 then 0 else (if m / 2 ^ (D - 1) % 2 = 1 ∧ (m % 2 ^ (D - 1) ≠ 0 ∨ m / 2 ^ D % 2 = 1) then 1 else 0)
theorem wm_01 (p : Int32) (s m D : Nat) : wm_m p s m D = 0 ∨ wm_m p s m D = 1 := by
  unfold wm_m
  (repeat' split) <;> first | exact Or.inl rfl | exact Or.inr rfl
theorem wm_U {m D s : Nat} {a0 p : Int32} (hp : (a0 = 3 ∧ p = 141) ∨ (a0 = 4 ∧ p = 142) ∨ (a0 = 5 ∧ p = 143) ∨ (a0 = 6 ∧ p = 144)) (hm : m < 2 ^ 53) (h0 : 0 < m) (hD : D < 2 ^ 31) (h1 : 1 ≤ D) (hs : s = 0 ∨ s = 1) : wU_ a0 (nI s) (lN m) (nI D) = nI (wm_m p s m D) := by
  rcases hp with ⟨rfl, rfl⟩ | ⟨rfl, rfl⟩ | ⟨rfl, rfl⟩ | ⟨rfl, rfl⟩
  · unfold wU_ wm_m
    simp (decide := true) only [↓reduceIte]
    rw [wX_e hm h0 hD]
    by_cases c : m % 2 ^ D = 0
    · simp (decide := true) only [c, ↓reduceIte]
    · rcases hs with rfl | rfl <;> simp (decide := true) only [c, ↓reduceIte]
  · unfold wU_ wm_m
    simp (decide := true) only [↓reduceIte]
    rw [wX_e hm h0 hD]
    by_cases c : m % 2 ^ D = 0
    · simp (decide := true) only [c, ↓reduceIte]
    · rcases hs with rfl | rfl <;> simp (decide := true) only [c, ↓reduceIte]
  · unfold wU_ wm_m
    simp (decide := true) only [↓reduceIte]
  · rw [wU_6e _ hm hD h1]
    unfold wm_m
    simp (decide := true) only [↓reduceIte]
