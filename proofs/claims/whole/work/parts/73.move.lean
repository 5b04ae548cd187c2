/-! shifts and turns -/
theorem mv_13 (w : Int32) (a : Int64) (N : Nat) : ∀ k n : Nat, lf_Ref_moved 13 w a N k (lN n) = lN (n * 2 ^ k) := by
  intro k
  induction k with
  | zero => intro n; rw [Nat.pow_zero, Nat.mul_one]; unfold lf_Ref_moved; rfl
  | succ k ih =>
    intro n
    unfold lf_Ref_moved
    simp (decide := true) only [↓reduceIte]
    rw [show (2 : Int64) = lN 2 from rfl, lN_mul, ih, Nat.pow_succ]
    congr 1
    rw [Nat.mul_comm 2 n, Nat.mul_assoc, Nat.mul_comm 2]
theorem ush_1 {n : Nat} (hn : n < 2 ^ 64) : ush_ (lN n) (1 : Int32) = lN (n / 2) := ush_lN (k := 1) hn (by decide)
theorem mv_15 (w : Int32) (a : Int64) (N : Nat) : ∀ k n : Nat, n < 2 ^ 64 → lf_Ref_moved 15 w a N k (lN n) = lN (n / 2 ^ k) := by
  intro k
  induction k with
  | zero => intro n _; rw [Nat.pow_zero, Nat.div_one]; unfold lf_Ref_moved; rfl
  | succ k ih =>
    intro n hn
    unfold lf_Ref_moved
    simp (decide := true) only [↓reduceIte]
    rw [ush_1 hn, ih _ (by omega), Nat.div_div_eq_div_mul, Nat.pow_succ']
theorem mv_14p (w : Int32) (a : Int64) (h : ¬ shr_ a (w - 1) &&& 1 = 1) (N : Nat) : ∀ k n : Nat, n < 2 ^ 64 → lf_Ref_moved 14 w a N k (lN n) = lN (n / 2 ^ k) := by
  intro k
  induction k with
  | zero => intro n _; rw [Nat.pow_zero, Nat.div_one]; unfold lf_Ref_moved; rfl
  | succ k ih =>
    intro n hn
    unfold lf_Ref_moved
    simp (decide := true) only [↓reduceIte]
    rw [if_neg h, ush_1 hn, ih _ (by omega), Nat.div_div_eq_div_mul, Nat.pow_succ']
theorem mv_14n {W : Nat} (hW : wd_ W) (a : Int64) (h : shr_ a (nI W - 1) &&& 1 = 1) (N : Nat) : ∀ k V : Nat, 2 ^ (W - 1) ≤ V → V < 2 ^ W → lf_Ref_moved 14 (nI W) a N k (lN V) = lN (((V : Int) - 2 ^ W) / ((2 ^ k : Nat) : Int) + 2 ^ W).toNat := by
  intro k
  have h64 : 2 ^ W ≤ 2 ^ 64 := by rcases hW with rfl | rfl <;> decide
  have hw2 : (2 : Nat) ^ W = 2 * 2 ^ (W - 1) := by rcases hW with rfl | rfl <;> decide
  induction k with
  | zero =>
    intro V h1 h2
    rw [Nat.pow_zero]
    unfold lf_Ref_moved
    have : ((V : Int) - 2 ^ W) / ((1 : Nat) : Int) = (V : Int) - 2 ^ W := Int.ediv_one _
    rw [this]
    congr 1
    rcases hW with rfl | rfl <;> omega
  | succ k ih =>
    intro V h1 h2
    have e1 : shl_ (1 : Int64) (nI W - 1) = lN (1 * 2 ^ (W - 1)) := by rcases hW with rfl | rfl <;> decide
    unfold lf_Ref_moved
    simp (decide := true) only [↓reduceIte]
    rw [if_pos h, ush_1 (by omega), e1, g_or' (k := W - 1) (p := 2 ^ (W - 1)) rfl (by omega) (by omega), Nat.one_mul, ih _ (by omega) (by omega)]
    have e2 : (((V / 2 + 2 ^ (W - 1) : Nat) : Int) - 2 ^ W) = ((V : Int) - 2 ^ W) / 2 := by
      rcases hW with rfl | rfl <;> omega
    rw [e2, Int.ediv_ediv_of_nonneg (by decide), Nat.pow_succ']
    rfl
theorem md_e {W A s : Nat} (hW : wd_ W) (hA : A < 2 ^ W) (hs : s < 64) (a0 : Int32) (h : a0 = 13 ∨ a0 = 14 ∨ a0 = 15) : q_Bits_lowest (nI W) (q_Ref_moved a0 (nI W) (lN A) (nI s)) = q_Bits_lowest (nI W) (if a0 = 13 then lN (A * 2 ^ s) else if a0 = 14 then zL (sy_ W A / ((2 ^ s : Nat) : Int)) else lN (A / 2 ^ s)) := by
  have hA64 := W_64 hW hA
  have hc : (nI s).toNatClampNeg = s := by
    revert s; decide +kernel
  unfold q_Ref_moved
  rw [hc]
  rcases h with rfl | rfl | rfl
  · rw [mv_13, if_pos rfl]
  · rw [if_neg (by decide), if_pos rfl]
    have hb : shr_ (lN A) (nI W - 1) &&& 1 = 1 ↔ A / 2 ^ (W - 1) % 2 = 1 := by
      rw [show nI W - 1 = nI (W - 1) by rcases hW with rfl | rfl <;> rfl]
      exact cn_bit rfl hA64 (by rcases hW with rfl | rfl <;> decide)
    by_cases c : A < 2 ^ (W - 1)
    · rw [mv_14p _ _ (fun q => by have := hb.mp q; rw [Nat.div_eq_of_lt c] at this; exact absurd this (by decide)) _ _ _ hA64]
      unfold sy_
      rw [if_pos c, ← Int.natCast_ediv, zL_n]
    · have hb1 : A / 2 ^ (W - 1) % 2 = 1 := by rcases hW with rfl | rfl <;> omega
      rw [mv_14n hW _ (hb.mpr hb1) _ _ _ (by omega) hA]
      unfold sy_
      rw [if_neg c]
      have hx : (A : Int) - 2 ^ W < 0 ∧ -(2 ^ 63 : Int) ≤ (A : Int) - 2 ^ W ∧ -(2 ^ W : Int) ≤ (A : Int) - 2 ^ W := by rcases hW with rfl | rfl <;> omega
      have hp : (1 : Int) ≤ ((2 ^ s : Nat) : Int) := by have := Nat.two_pow_pos s; omega
      have hz1 : ((A : Int) - 2 ^ W) / ((2 ^ s : Nat) : Int) < 0 := Int.ediv_neg_of_neg_of_pos hx.1 (by omega)
      have hz2 : (A : Int) - 2 ^ W ≤ ((A : Int) - 2 ^ W) / ((2 ^ s : Nat) : Int) := by
        rw [Int.le_ediv_iff_mul_le (by omega)]
        have := Int.mul_le_mul_of_nonpos_left (a := (A : Int) - 2 ^ W) (b := ((2 ^ s : Nat) : Int)) (c := 1) (by omega) hp
        rw [Int.mul_one] at this
        exact this
      generalize ((A : Int) - 2 ^ W) / ((2 ^ s : Nat) : Int) = z at *
      rw [low_W hW, low_W hW, zL_md, un_of (by rcases hW with rfl | rfl <;> omega), un_of (by omega)]
      congr 1
      rcases hW with rfl | rfl <;> omega
  · rw [if_neg (by decide), if_neg (by decide), mv_15 _ _ _ _ _ hA64]
theorem sh_zL {x : Int} (hx : -2 ^ 63 ≤ x ∧ x < 2 ^ 63) {s : Nat} (hs : s < 64) : shr_ (zL x) (nI s) = zL (x / ((2 ^ s : Nat) : Int)) := by
  rw [zL_of (shr_ (zL x) (nI s)), shr_t _ hs, zL_t hx.1 hx.2]
/-! turns -/
def ru_ (W A s : Nat) : Nat := A % 2 ^ (W - s) * 2 ^ s + A / 2 ^ (W - s)
theorem ru_lt {W A s : Nat} (hs : s ≤ W) (hA : A < 2 ^ W) : ru_ W A s < 2 ^ W := by
  unfold ru_
  have hp := Nat.two_pow_pos (W - s)
  have h1 := Nat.mod_lt A hp
  have e : 2 ^ W = 2 ^ (W - s) * 2 ^ s := by rw [← Nat.pow_add]; congr 1; omega
  have h2 : A / 2 ^ (W - s) < 2 ^ s := by rw [Nat.div_lt_iff_lt_mul hp, Nat.mul_comm, ← e]; exact hA
  have h3 : (A % 2 ^ (W - s) + 1) * 2 ^ s ≤ 2 ^ (W - s) * 2 ^ s := Nat.mul_le_mul_right _ h1
  rw [Nat.add_mul, Nat.one_mul] at h3
  omega
theorem rt_step {W V : Nat} (hW : wd_ W) (hV : V < 2 ^ W) : (if nI W = (32 : Int32) then (((shl_ (lN V) (1 : Int32)) &&& (4294967295 : Int64)) ||| ((shr_ (lN V) (nI W - (1 : Int32))) &&& (1 : Int64))) else ((shl_ (lN V) (1 : Int32)) ||| ((shr_ (lN V) (nI W - (1 : Int32))) &&& (1 : Int64)))) = lN (2 * (V % 2 ^ (W - 1)) + V / 2 ^ (W - 1)) := by
  have e1 : shl_ (lN V) (1 : Int32) = lN (V * 2) := by rw [show (1 : Int32) = nI 1 from rfl, shl_lN V (by decide)]
  have hV64 := W_64 hW hV
  rw [e1]
  rcases hW with rfl | rfl
  · rw [if_pos (show nI 32 = (32 : Int32) from rfl), show nI 32 - (1 : Int32) = nI 31 from rfl, shr_bit hV64 (by decide), show (4294967295 : Int64) = lN (2 ^ 32 - 1) from rfl, wb_mask (by omega) (by decide), show V * 2 % 2 ^ 32 = (V % 2 ^ 31) * 2 by omega, g_or (k := 1) (p := 2) rfl (by omega) (by omega)]
    congr 1; omega
  · rw [if_neg (by decide), show nI 64 - (1 : Int32) = nI 63 from rfl, shr_bit hV64 (by decide), wb_mod (V * 2), show V * 2 % 2 ^ 64 = (V % 2 ^ 63) * 2 by omega, g_or (k := 1) (p := 2) rfl (by omega) (by omega)]
    congr 1; omega
theorem rt_ind {W : Nat} (hW : wd_ W) (a : Int64) (N : Nat) : ∀ k : Nat, k ≤ W → ∀ q r : Nat, q < 2 ^ k → r < 2 ^ (W - k) → lf_Ref_turned a (nI W) N k (lN (q * 2 ^ (W - k) + r)) = lN (r * 2 ^ k + q) := by
  intro k
  induction k with
  | zero =>
    intro _ q r hq hr
    rw [Nat.pow_zero] at hq
    have : q = 0 := by omega
    subst this
    unfold lf_Ref_turned
    rw [Nat.zero_mul, Nat.pow_zero, Nat.zero_add, Nat.mul_one, Nat.add_zero]
  | succ k ih =>
    intro hk q r hq hr
    have hp := Nat.two_pow_pos k
    have hP := Nat.two_pow_pos (W - (k + 1))
    have eW1 : 2 ^ (W - 1) = 2 ^ k * 2 ^ (W - (k + 1)) := by rw [← Nat.pow_add]; congr 1; omega
    have eW : 2 ^ W = 2 * (2 ^ k * 2 ^ (W - (k + 1))) := by rw [← eW1, ← Nat.pow_succ']; congr 1; omega
    have eK : 2 ^ (W - k) = 2 * 2 ^ (W - (k + 1)) := by rw [← Nat.pow_succ']; congr 1; omega
    have hb : q / 2 ^ k < 2 := by rw [Nat.div_lt_iff_lt_mul hp, ← Nat.pow_succ']; exact hq
    have hq' := Nat.mod_lt q hp
    have hdm := Nat.div_add_mod q (2 ^ k)
    have eV : q * 2 ^ (W - (k + 1)) + r = 2 ^ k * 2 ^ (W - (k + 1)) * (q / 2 ^ k) + (q % 2 ^ k * 2 ^ (W - (k + 1)) + r) := by
      conv => lhs; rw [← hdm]
      rw [Nat.add_mul, Nat.mul_right_comm, Nat.add_assoc]
    have hlow : q % 2 ^ k * 2 ^ (W - (k + 1)) + r < 2 ^ k * 2 ^ (W - (k + 1)) := by
      have h3 : (q % 2 ^ k + 1) * 2 ^ (W - (k + 1)) ≤ 2 ^ k * 2 ^ (W - (k + 1)) := Nat.mul_le_mul_right _ hq'
      rw [Nat.add_mul, Nat.one_mul] at h3
      omega
    have hpos : 0 < 2 ^ k * 2 ^ (W - (k + 1)) := Nat.mul_pos hp hP
    have hd : (q * 2 ^ (W - (k + 1)) + r) / 2 ^ (W - 1) = q / 2 ^ k := by
      rw [eV, eW1, Nat.mul_add_div hpos, Nat.div_eq_of_lt hlow, Nat.add_zero]
    have hm : (q * 2 ^ (W - (k + 1)) + r) % 2 ^ (W - 1) = q % 2 ^ k * 2 ^ (W - (k + 1)) + r := by
      rw [eV, eW1, Nat.mul_add_mod, Nat.mod_eq_of_lt hlow]
    have hVW : q * 2 ^ (W - (k + 1)) + r < 2 ^ W := by
      have h3 : (q + 1) * 2 ^ (W - (k + 1)) ≤ 2 ^ (k + 1) * 2 ^ (W - (k + 1)) := Nat.mul_le_mul_right _ hq
      rw [Nat.add_mul, Nat.one_mul, Nat.pow_succ' (n := k), Nat.mul_assoc, ← eW] at h3
      omega
    have hst := rt_step hW hVW
    rw [hd, hm] at hst
    have goal1 : lf_Ref_turned a (nI W) N (k + 1) (lN (q * 2 ^ (W - (k + 1)) + r)) = lf_Ref_turned a (nI W) N k (lN (2 * (q % 2 ^ k * 2 ^ (W - (k + 1)) + r) + q / 2 ^ k)) := by
      rw [← hst]
      conv => lhs; unfold lf_Ref_turned
      split
      · rfl
      · rfl
    rw [goal1, show 2 * (q % 2 ^ k * 2 ^ (W - (k + 1)) + r) + q / 2 ^ k = q % 2 ^ k * 2 ^ (W - k) + (2 * r + q / 2 ^ k) by
      rw [eK, Nat.mul_left_comm]; omega, ih (by omega) _ _ hq' (by omega)]
    congr 1
    rw [Nat.pow_succ, Nat.add_mul, Nat.mul_comm (2 * r), ← Nat.mul_assoc]
    rw [show r * (2 ^ k * 2) = 2 ^ k * 2 * r by rw [Nat.mul_comm], Nat.mul_comm (q / 2 ^ k)]
    omega
theorem tr_e {W A s : Nat} (hW : wd_ W) (hA : A < 2 ^ W) (hs : s < W) : q_Ref_turned (lN A) (nI W) (nI s) = lN (ru_ W A s) := by
  have hs64 : s < 64 := by rcases hW with rfl | rfl <;> omega
  have hc : (nI s).toNatClampNeg = s := by
    clear hs
    revert s; decide +kernel
  unfold q_Ref_turned
  rw [hc]
  have hp := Nat.two_pow_pos (W - s)
  have e : 2 ^ W = 2 ^ (W - s) * 2 ^ s := by rw [← Nat.pow_add]; congr 1; omega
  have h2 : A / 2 ^ (W - s) < 2 ^ s := by rw [Nat.div_lt_iff_lt_mul hp, Nat.mul_comm, ← e]; exact hA
  have h := rt_ind hW (lN A) s s (by omega) (A / 2 ^ (W - s)) (A % 2 ^ (W - s)) h2 (Nat.mod_lt _ hp)
  rw [Nat.div_add_mod'] at h
  exact h
theorem ng_64 : ∀ s : Nat, s < 64 → ((-(nI s)).toInt64.toUInt64 &&& Int64.toUInt64 63) = ((nI ((64 - s) % 64)).toInt64.toUInt64 &&& Int64.toUInt64 63) := by decide +kernel
theorem ng_32 : ∀ s : Nat, s < 32 → (((-(nI s)).toUInt32 &&& Int32.toUInt32 31).toBitVec % 32).toNat = (32 - s) % 32 ∧ (nI s &&& 31) = nI s ∧ (nI s).toBitVec.smod 32 = BitVec.ofNat 32 s := by decide +kernel
theorem or_pw {b k a : Nat} (ha : a < 2 ^ k) : b * 2 ^ k ||| a = b * 2 ^ k + a := by rw [← Nat.shiftLeft_eq, Nat.shiftLeft_add_eq_or_of_lt ha]
theorem nI_or {a b : Nat} (ha : a < 2 ^ 32) (hb : b < 2 ^ 32) : nI a ||| nI b = nI (a ||| b) := by
  apply Int32.toBitVec_inj.mp
  show BitVec.ofNat 32 a ||| BitVec.ofNat 32 b = BitVec.ofNat 32 (a ||| b)
  apply BitVec.eq_of_toNat_eq
  rw [BitVec.toNat_or, BitVec.toNat_ofNat, BitVec.toNat_ofNat, BitVec.toNat_ofNat, Nat.mod_eq_of_lt ha, Nat.mod_eq_of_lt hb, Nat.mod_eq_of_lt (Nat.or_lt_two_pow ha hb)]
theorem nI_shl {A s : Nat} (hs : s < 32) : nI A <<< (nI s &&& 31) = nI (A * 2 ^ s) := by
  obtain ⟨-, e1, e2⟩ := ng_32 s hs
  rw [e1]
  apply Int32.toBitVec_inj.mp
  rw [Int32.toBitVec_shiftLeft, e2]
  apply BitVec.eq_of_toNat_eq
  show ((BitVec.ofNat 32 A) <<< BitVec.ofNat 32 s).toNat = (BitVec.ofNat 32 (A * 2 ^ s)).toNat
  rw [BitVec.shiftLeft_eq', BitVec.toNat_shiftLeft, BitVec.toNat_ofNat, BitVec.toNat_ofNat, BitVec.toNat_ofNat, Nat.shiftLeft_eq, Nat.mod_eq_of_lt (show s < 2 ^ 32 by omega), Nat.mod_mul_mod]
theorem md_sh {W A s : Nat} (hs : s ≤ W) : A * 2 ^ s % 2 ^ W = A % 2 ^ (W - s) * 2 ^ s := by
  rw [show 2 ^ W = 2 ^ (W - s) * 2 ^ s by rw [← Nat.pow_add]; congr 1; omega, Nat.mul_mod_mul_right]
theorem tu_32 {A s : Nat} (hA : A < 2 ^ 32) (hs : s < 32) : q_Integer_rotateLeft (nI A) (nI s) = nI (ru_ 32 A s) := by
  unfold q_Integer_rotateLeft ru_
  rw [nI_shl hs, iush_nI hA _ (ng_32 s hs).1, nI_md (A * 2 ^ s), md_sh (by omega)]
  rcases Nat.eq_zero_or_pos s with rfl | h0
  · rw [show (32 - 0) % 32 = 0 from rfl, Nat.sub_zero, Nat.pow_zero, Nat.mul_one, Nat.div_one, Nat.mod_eq_of_lt hA, Nat.div_eq_of_lt hA, Nat.add_zero, nI_or hA hA, Nat.or_self]
  · rw [Nat.mod_eq_of_lt (show 32 - s < 32 by omega)]
    have hp := Nat.two_pow_pos (32 - s)
    have e : 2 ^ 32 = 2 ^ (32 - s) * 2 ^ s := by rw [← Nat.pow_add]; congr 1; omega
    have h2 : A / 2 ^ (32 - s) < 2 ^ s := by rw [Nat.div_lt_iff_lt_mul hp, Nat.mul_comm, ← e]; exact hA
    rw [nI_or (by rw [← md_sh (by omega)]; exact Nat.mod_lt _ (by decide)) (Nat.lt_of_le_of_lt (Nat.div_le_self _ _) hA), or_pw h2]
theorem tu_64 {A s : Nat} (hA : A < 2 ^ 64) (hs : s < 64) : q_Long_rotateLeft (lN A) (nI s) = lN (ru_ 64 A s) := by
  unfold q_Long_rotateLeft ru_
  have e1 : ush_ (lN A) (-(nI s)) = ush_ (lN A) (nI ((64 - s) % 64)) := by unfold ush_; rw [ng_64 s hs]
  rw [e1, ush_lN hA (Nat.mod_lt _ (by decide)), shl_lN A hs, wb_mod (A * 2 ^ s), md_sh (by omega)]
  rcases Nat.eq_zero_or_pos s with rfl | h0
  · rw [show (64 - 0) % 64 = 0 from rfl, Nat.sub_zero, Nat.pow_zero, Nat.mul_one, Nat.div_one, Nat.mod_eq_of_lt hA, Nat.div_eq_of_lt hA, Nat.add_zero, Int64.or_self]
  · rw [Nat.mod_eq_of_lt (show 64 - s < 64 by omega)]
    have hp := Nat.two_pow_pos (64 - s)
    have e : 2 ^ 64 = 2 ^ (64 - s) * 2 ^ s := by rw [← Nat.pow_add]; congr 1; omega
    have h2 : A / 2 ^ (64 - s) < 2 ^ s := by rw [Nat.div_lt_iff_lt_mul hp, Nat.mul_comm, ← e]; exact hA
    have h3 := ru_lt (W := 64) (A := A) (s := s) (by omega) hA
    unfold ru_ at h3
    exact g_or (k := s) rfl h2 h3
theorem low_lN {W : Nat} (hW : wd_ W) (m : Nat) : q_Bits_lowest (nI W) (lN m) = lN (m % 2 ^ W) := by
  rw [low_W hW, wb_mod m, un_of (Nat.mod_lt _ (by decide))]
  congr 1
  rcases hW with rfl | rfl
  · exact Nat.mod_mod_of_dvd m (by decide)
  · exact Nat.mod_mod m _
theorem tu_e {W s : Nat} (hW : wd_ W) (a : Int64) (hs : s < W) : q_Bits_lowest (nI W) (q_Wholes_turnedUp (nI W) a (nI s)) = lN (ru_ W (un_ a % 2 ^ W) s) := by
  obtain ⟨n, hn, rfl⟩ := wb_of a
  rw [un_of hn]
  unfold q_Wholes_turnedUp
  rcases hW with rfl | rfl
  · have hl := ru_lt (W := 32) (s := s) (by omega) (Nat.mod_lt n (show 0 < 2 ^ 32 by decide))
    rw [if_pos (show nI 32 = (32 : Int32) from rfl), lN_i, nI_md n, tu_32 (Nat.mod_lt _ (by decide)) hs, nI_sx hl, se_e (Or.inl rfl) hl, low_lN (Or.inl rfl)]
    congr 1
    unfold se_
    generalize ru_ 32 (n % 2 ^ 32) s = R at *
    split <;> omega
  · rw [if_neg (by decide), Nat.mod_eq_of_lt hn, tu_64 hn hs, low_lN (Or.inr rfl), Nat.mod_eq_of_lt (ru_lt (by omega) hn)]
