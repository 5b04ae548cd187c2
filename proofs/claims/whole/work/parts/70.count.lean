/-! counts of bits -/
def pb_ : Nat → Nat → Nat
  | 0, _ => 0
  | k + 1, n => n % 2 + pb_ k (n / 2)
theorem pb_le (k n : Nat) : pb_ k n ≤ k := by
  induction k generalizing n with
  | zero => exact Nat.le_refl 0
  | succ k ih => have := ih (n / 2); unfold pb_; omega
theorem cn_bit {a : Int64} {n j : Nat} (ha : a = lN n) (hn : n < 2 ^ 64) (hj : j < 64) : (shr_ a (nI j) &&& (1 : Int64) = 1) ↔ n / 2 ^ j % 2 = 1 := by
  rw [ha, shr_bit hn hj, show (1 : Int64) = lN 1 from rfl, lN_inj64 (by omega) (by decide)]
/-- how many bits are 1 -/
theorem ct_2 {a : Int64} {n N : Nat} (ha : a = lN n) (hn : n < 2 ^ 64) (hN : N ≤ 64) : ∀ (k : Nat), k ≤ N → ∀ (c : Nat) (v6 v7 : Int32), lf_Ref_count a N 2 k (nI c) v6 v7 = nI (c + pb_ k (n / 2 ^ (N - k))) := by
  intro k
  induction k with
  | zero => intro _ c v6 v7; simp (decide := true) only [lf_Ref_count, ↓reduceIte]; rfl
  | succ k ih =>
    intro hk c v6 v7
    have hb := cn_bit ha hn (show N - (k + 1) < 64 by omega)
    have hd : n / 2 ^ (N - (k + 1)) / 2 = n / 2 ^ (N - k) := by
      rw [Nat.div_div_eq_div_mul, ← Nat.pow_succ]; congr 2; omega
    have e : c + pb_ (k + 1) (n / 2 ^ (N - (k + 1))) = c + n / 2 ^ (N - (k + 1)) % 2 + pb_ k (n / 2 ^ (N - k)) := by
      show c + (_ + pb_ k (_ / 2)) = _
      rw [hd]; omega
    rw [e]
    unfold lf_Ref_count
    rcases Nat.mod_two_eq_zero_or_one (n / 2 ^ (N - (k + 1))) with z | z
    · rw [if_neg (fun q => by have := hb.mp q; omega), ih (by omega), z, Nat.add_zero]
    · rw [if_pos (hb.mpr z), z, show nI c + (1 : Int32) = nI (c + 1) from nI_add c 1]
      split
      · exact ih (by omega) _ _ _
      · exact ih (by omega) _ _ _
/-- leading zeros: where the highest 1 is -/
theorem ct_0 {a : Int64} {n N : Nat} (ha : a = lN n) (hn : n < 2 ^ N) (hN : N ≤ 64) : ∀ (k : Nat), k ≤ N → ∀ (v5 v6 v7 : Int32), lf_Ref_count a N 0 k v5 v6 v7 = if n / 2 ^ (N - k) = 0 then v6 else nI (N - 1 - n.log2) := by
  have hn64 : n < 2 ^ 64 := Nat.lt_of_lt_of_le hn (Nat.pow_le_pow_right (by decide) hN)
  intro k
  induction k with
  | zero =>
    intro _ v5 v6 v7
    rw [Nat.sub_zero, Nat.div_eq_of_lt hn, if_pos rfl]
    simp (decide := true) only [lf_Ref_count, ↓reduceIte]
  | succ k ih =>
    intro hk v5 v6 v7
    have hb := cn_bit ha hn64 (show N - (k + 1) < 64 by omega)
    have hd : n / 2 ^ (N - (k + 1)) / 2 = n / 2 ^ (N - k) := by
      rw [Nat.div_div_eq_div_mul, ← Nat.pow_succ]; congr 2; omega
    have hs : ((nI N - (1 : Int32)) - nI (N - (k + 1))) = nI (N - 1 - (N - (k + 1))) := by
      rw [show nI N - (1 : Int32) = nI (N - 1) from pk_sub (b := 1) (by omega), pk_sub (by omega)]
    have key : ∀ v, (if n / 2 ^ (N - k) = 0 then nI (N - 1 - (N - (k + 1))) else v) = (if n / 2 ^ (N - (k + 1)) = 0 then v6 else (if n / 2 ^ (N - k) = 0 then nI (N - 1 - (N - (k + 1))) else v)) ∨ n / 2 ^ (N - (k + 1)) % 2 = 0 := by
      intro v
      rcases Nat.mod_two_eq_zero_or_one (n / 2 ^ (N - (k + 1))) with z | z
      · exact Or.inr z
      · refine Or.inl ?_
        rw [if_neg (show ¬ n / 2 ^ (N - (k + 1)) = 0 by omega)]
    unfold lf_Ref_count
    rcases Nat.mod_two_eq_zero_or_one (n / 2 ^ (N - (k + 1))) with z | z
    · rw [if_neg (fun q => by have := hb.mp q; omega), ih (by omega)]
      by_cases c : n / 2 ^ (N - k) = 0
      · rw [if_pos c, if_pos (by omega)]
      · rw [if_neg c, if_neg (by omega)]
    · have hne : ¬ n / 2 ^ (N - (k + 1)) = 0 := by omega
      rw [if_pos (hb.mpr z), if_neg hne, hs]
      have fin : (if n / 2 ^ (N - k) = 0 then nI (N - 1 - (N - (k + 1))) else nI (N - 1 - n.log2)) = nI (N - 1 - n.log2) := by
        split
        · rename_i c
          have h1 : n / 2 ^ (N - (k + 1)) = 1 := by omega
          have h0 : n ≠ 0 := by intro q; rw [q, Nat.zero_div] at h1; omega
          have hl : n.log2 = N - (k + 1) := by
            rw [Nat.log2_eq_iff h0]
            have hp := Nat.two_pow_pos (N - (k + 1))
            have hdm := Nat.div_add_mod n (2 ^ (N - (k + 1)))
            have hm := Nat.mod_lt n hp
            rw [h1, Nat.mul_one] at hdm
            rw [Nat.pow_succ]
            omega
          rw [hl]
        · rfl
      split
      · rw [ih (by omega)]; exact fin
      · rw [ih (by omega)]; exact fin
/-- trailing zeros -/
def tz_ : Nat → Nat → Nat
  | 0, _ => 0
  | k + 1, n => if n % 2 = 1 then 0 else 1 + tz_ k (n / 2)
theorem ct_1a {a : Int64} {n N : Nat} : ∀ (k : Nat), k ≤ N → ∀ (v5 v6 v7 : Int32), ¬ v7 = nI N → lf_Ref_count a N 1 k v5 v6 v7 = v7 := by
  intro k
  induction k with
  | zero => intro _ v5 v6 v7 _; simp (decide := true) only [lf_Ref_count, ↓reduceIte]
  | succ k ih =>
    intro hk v5 v6 v7 h7
    unfold lf_Ref_count
    split
    · exact ih (by omega) _ _ _ h7
    · exact ih (by omega) _ _ _ h7
theorem ct_1 {a : Int64} {n N : Nat} (ha : a = lN n) (hn : n < 2 ^ 64) (hN : N ≤ 64) : ∀ (k : Nat), k ≤ N → ∀ (v5 v6 : Int32), lf_Ref_count a N 1 k v5 v6 (nI N) = nI (N - k + tz_ k (n / 2 ^ (N - k))) := by
  intro k
  induction k with
  | zero => intro _ v5 v6; simp (decide := true) only [lf_Ref_count, ↓reduceIte]; rfl
  | succ k ih =>
    intro hk v5 v6
    have hb := cn_bit ha hn (show N - (k + 1) < 64 by omega)
    have hd : n / 2 ^ (N - (k + 1)) / 2 = n / 2 ^ (N - k) := by
      rw [Nat.div_div_eq_div_mul, ← Nat.pow_succ]; congr 2; omega
    unfold lf_Ref_count tz_
    rw [hd]
    rcases Nat.mod_two_eq_zero_or_one (n / 2 ^ (N - (k + 1))) with z | z
    · rw [if_neg (fun q => by have := hb.mp q; omega), ih (by omega), z, if_neg (by decide)]
      congr 1; omega
    · rw [if_pos (hb.mpr z), if_pos rfl, if_pos z, Nat.add_zero]
      exact ct_1a (n := n) k (by omega) _ _ _ (fun q => by have := (nI_eq (by omega) (by omega)).mp q; omega)
/-! the class's trailing zeros -/
theorem tz_spec : ∀ (k n : Nat), n % 2 ^ k ≠ 0 → tz_ k n < k ∧ ∃ c, n = (2 * c + 1) * 2 ^ tz_ k n := by
  intro k
  induction k with
  | zero => intro n h; exact absurd (Nat.mod_one n) h
  | succ k ih =>
    intro n h
    unfold tz_
    by_cases z : n % 2 = 1
    · rw [if_pos z]
      exact ⟨by omega, n / 2, by omega⟩
    · rw [if_neg z]
      have h2 : n / 2 % 2 ^ k ≠ 0 := by
        intro q
        apply h
        have e : n = 2 * (n / 2) := by omega
        rw [e, Nat.pow_succ', Nat.mul_mod_mul_left, q]
      obtain ⟨h3, c, hc⟩ := ih (n / 2) h2
      refine ⟨by omega, c, ?_⟩
      rw [Nat.add_comm 1, Nat.pow_succ, ← Nat.mul_assoc, ← hc]
      omega
theorem nt_mask {t c n : Nat} (hn : n < 2 ^ 32) (e : n = (2 * c + 1) * 2 ^ t) : (2 ^ 32 - (n + 1)) &&& (n - 1) = 2 ^ t - 1 := by
  have hp := Nat.two_pow_pos t
  have ht : t < 32 := by
    rcases Nat.lt_or_ge t 32 with h | h
    · exact h
    · have h1 := Nat.pow_le_pow_right (show 0 < 2 by decide) h
      have h2 : 1 * 2 ^ t ≤ (2 * c + 1) * 2 ^ t := Nat.mul_le_mul_right _ (by omega)
      omega
  have e1 : n = 2 ^ t * (2 * c + 1) + 0 := by rw [e, Nat.mul_comm]; rfl
  have e2 : n - 1 = 2 ^ t * (2 * c) + (2 ^ t - 1) := by
    rw [e1, Nat.mul_add, Nat.mul_one]; omega
  apply Nat.eq_of_testBit_eq
  intro j
  rw [Nat.testBit_and, Nat.testBit_two_pow_sub_succ hn, e2, Nat.testBit_two_pow_mul_add _ (show 2 ^ t - 1 < 2 ^ t by omega), Nat.testBit_two_pow_sub_one]
  rw [e1, Nat.testBit_two_pow_mul_add _ hp]
  by_cases c1 : j < t
  · rw [if_pos c1, if_pos c1, Nat.zero_testBit]
    simp [c1]; omega
  · rw [if_neg c1, if_neg c1, decide_eq_false c1]
    generalize hm : j - t = m
    cases m with
    | zero => simp [Nat.testBit_zero]
    | succ m =>
      rw [Nat.testBit_succ, Nat.testBit_succ, show (2 * c + 1) / 2 = c by omega, show 2 * c / 2 = c by omega]
      cases c.testBit m <;> simp
