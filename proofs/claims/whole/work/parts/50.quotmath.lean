/-! quotients, bit by bit -/
theorem qu_step {X d : Nat} (hd : d < 163) : X * 2 ^ (163 - d) / 2 ^ 53 = 2 * (X * 2 ^ (162 - d) / 2 ^ 53) + (if 110 ≤ d then X / 2 ^ (d - 110) % 2 else 0) := by
  by_cases c : 110 ≤ d
  · rw [if_pos c]
    have e1 : X * 2 ^ (163 - d) / 2 ^ 53 = X / 2 ^ (d - 110) := by
      rw [show (2 : Nat) ^ 53 = 2 ^ (d - 110) * 2 ^ (163 - d) by rw [← Nat.pow_add]; congr 1; omega, Nat.mul_div_mul_right _ _ (Nat.two_pow_pos _)]
    have e2 : X * 2 ^ (162 - d) / 2 ^ 53 = X / 2 ^ (d - 110) / 2 := by
      rw [show (2 : Nat) ^ 53 = 2 ^ (d - 110) * 2 * 2 ^ (162 - d) by rw [← Nat.pow_succ, ← Nat.pow_add]; congr 1; omega, Nat.mul_div_mul_right _ _ (Nat.two_pow_pos _), Nat.div_div_eq_div_mul]
    rw [e1, e2]; omega
  · rw [if_neg c, Nat.add_zero]
    rw [show X * 2 ^ (163 - d) = X * 2 ^ (110 - d) * 2 ^ 53 by rw [Nat.mul_assoc, ← Nat.pow_add]; congr 2; omega, Nat.mul_div_cancel _ (Nat.two_pow_pos _)]
    rw [show X * 2 ^ (162 - d) = X * 2 ^ (109 - d) * 2 ^ 53 by rw [Nat.mul_assoc, ← Nat.pow_add]; congr 2; omega, Nat.mul_div_cancel _ (Nat.two_pow_pos _)]
    rw [show 110 - d = 109 - d + 1 by omega, Nat.pow_succ, ← Nat.mul_assoc, Nat.mul_comm 2]
theorem qu_bit {X d : Nat} {k : Int32} (hX : X < 2 ^ 53) (hd : d < 163) (hk : k = zI ((d : Int) - 110)) : (if (0 : Int32) ≤ k then shr_ (lN X) k &&& 1 else (0 : Int64)) = lN (if 110 ≤ d then X / 2 ^ (d - 110) % 2 else 0) := by
  subst hk
  by_cases c : 110 ≤ d
  · rw [if_pos c, show zI ((d : Int) - 110) = nI (d - 110) by rw [← zI_n]; congr 1; omega, if_pos (nI_pos' (by omega)), shr_lN63 (by omega) (by omega), wb_a1 (Nat.lt_of_le_of_lt (Nat.div_le_self _ _) (by omega))]
  · rw [if_neg c, if_neg (fun q => ?_)]
    · rfl
    · rw [show (0 : Int32) = zI 0 from rfl, zI_le ⟨by omega, by omega⟩ ⟨by omega, by omega⟩] at q
      omega
theorem qu_fit {Q P d : Nat} (hQ : Q < 2 ^ (163 - (d + 1))) (hd : d < 163) (hP : P ≤ 4140) : Q * 2 ^ (P + (d + 1)) + un_ (1 : Int64) * 2 ^ (P + d) < 2 ^ 4399 := by
  rw [show un_ (1 : Int64) = 1 from rfl, Nat.one_mul]
  have h1 : Q * 2 ^ (P + (d + 1)) ≤ 2 ^ 4303 := by
    refine Nat.le_trans (Nat.mul_le_mul_right _ (Nat.le_of_lt hQ)) ?_
    rw [← Nat.pow_add]
    exact Nat.pow_le_pow_right (by decide) (by omega)
  have h2 : 2 ^ (P + d) ≤ 2 ^ 4303 := Nat.pow_le_pow_right (by decide) (by omega)
  have h3 : (2 : Nat) ^ 4303 + 2 ^ 4303 < 2 ^ 4399 := by decide +kernel
  exact Nat.lt_of_le_of_lt (Nat.add_le_add h1 h2) h3
def w3_ (x y : Int32) : Nat := (2090 + x.toInt - y.toInt).toNat
theorem sp_P3 {wi fr bi : Int32} {F B : Nat} (h : fmR wi fr bi F B) (u v : Int64) : (2200 : Int32) + (-q_Ref_split_we wi fr bi v + q_Ref_split_we wi fr bi u) = nI (w3_ (q_Ref_split_we wi fr bi u) (q_Ref_split_we wi fr bi v) + 110) ∧ 1 ≤ w3_ (q_Ref_split_we wi fr bi u) (q_Ref_split_we wi fr bi v) ∧ w3_ (q_Ref_split_we wi fr bi u) (q_Ref_split_we wi fr bi v) ≤ 4136 := by
  have h1 := sp_we2 h u
  have h2 := sp_we2 h v
  unfold w3_
  generalize q_Ref_split_we wi fr bi u = x at *
  generalize q_Ref_split_we wi fr bi v = y at *
  refine ⟨?_, by omega, by omega⟩
  rw [zI_of x, zI_of y, show (2200 : Int32) = zI 2200 from rfl, zI_neg, zI_add, zI_add, ← zI_n]
  rw [← zI_of x, ← zI_of y]
  congr 1; omega
