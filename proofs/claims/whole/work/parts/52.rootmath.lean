/-! roots, digit by digit -/
def ro_ (X : Nat) : Nat → Nat × Nat
  | 0 => (0, 0)
  | i + 1 => if 4 * (ro_ X i).1 + 1 ≤ 4 * (ro_ X i).2 + X * 4 ^ (i + 1) / 4 ^ 27 % 4 then (2 * (ro_ X i).1 + 1, 4 * (ro_ X i).2 + X * 4 ^ (i + 1) / 4 ^ 27 % 4 - (4 * (ro_ X i).1 + 1)) else (2 * (ro_ X i).1, 4 * (ro_ X i).2 + X * 4 ^ (i + 1) / 4 ^ 27 % 4)
theorem ro_div {X i : Nat} : X * 4 ^ (i + 1) / 4 ^ 27 = 4 * (X * 4 ^ i / 4 ^ 27) + X * 4 ^ (i + 1) / 4 ^ 27 % 4 := by
  have h : X * 4 ^ (i + 1) / 4 ^ 27 / 4 = X * 4 ^ i / 4 ^ 27 := by
    rw [Nat.div_div_eq_div_mul, Nat.mul_comm (4 ^ 27) 4, ← Nat.div_div_eq_div_mul, Nat.pow_succ, ← Nat.mul_assoc, Nat.mul_div_cancel _ (by decide)]
  have := Nat.div_add_mod (X * 4 ^ (i + 1) / 4 ^ 27) 4
  rw [h] at this
  omega
theorem ro_inv {X : Nat} (hX : X < 4 ^ 27) : ∀ i : Nat, (ro_ X i).1 * (ro_ X i).1 + (ro_ X i).2 = X * 4 ^ i / 4 ^ 27 ∧ (ro_ X i).2 ≤ 2 * (ro_ X i).1 ∧ (ro_ X i).1 < 2 ^ i := by
  intro i
  induction i with
  | zero => refine ⟨?_, by simp [ro_], by simp [ro_]⟩; simp [ro_]; exact (Nat.div_eq_of_lt hX).symm
  | succ i ih =>
    obtain ⟨h1, h2, h3⟩ := ih
    have hd := ro_div (X := X) (i := i)
    have h4 : X * 4 ^ (i + 1) / 4 ^ 27 % 4 < 4 := Nat.mod_lt _ (by decide)
    rw [← h1] at hd
    rw [Nat.pow_succ 2 i]
    unfold ro_
    generalize X * 4 ^ (i + 1) / 4 ^ 27 % 4 = c at *
    generalize X * 4 ^ (i + 1) / 4 ^ 27 = V at *
    generalize (ro_ X i).1 = x at *
    generalize (ro_ X i).2 = r at *
    have e1 : (2 * x + 1) * (2 * x + 1) = 4 * (x * x) + (4 * x + 1) := by
      rw [Nat.add_mul, Nat.mul_add, Nat.one_mul, Nat.mul_one, show 2 * x * (2 * x) = 4 * (x * x) by rw [Nat.mul_mul_mul_comm]]; omega
    have e2 : 2 * x * (2 * x) = 4 * (x * x) := by rw [Nat.mul_mul_mul_comm]
    split
    · rename_i g
      dsimp only
      rw [e1]
      generalize x * x = y at *
      refine ⟨by omega, by omega, by omega⟩
    · rename_i g
      dsimp only
      rw [e2]
      generalize x * x = y at *
      refine ⟨by omega, by omega, by omega⟩
theorem ro_pos {X : Nat} (h : 4 ^ 26 ≤ X) (hX : X < 4 ^ 27) : 0 < (ro_ X 57).1 := by
  obtain ⟨h1, h2, -⟩ := ro_inv hX 57
  rcases Nat.eq_zero_or_pos (ro_ X 57).1 with z | z
  · exfalso
    rw [z] at h1 h2
    have h3 : X * 4 ^ 57 / 4 ^ 27 = X * 4 ^ 30 := by rw [show (4 : Nat) ^ 57 = 4 ^ 30 * 4 ^ 27 by rw [← Nat.pow_add], ← Nat.mul_assoc, Nat.mul_div_cancel _ (by decide)]
    rw [h3] at h1
    omega
  · exact z
/-- the two bits that come -/
theorem ro_bits {X i : Nat} {k : Int32} (hX : X < 4 ^ 27) (hi : i < 57) (hk : k = zI (26 - (i : Int))) : (if (0 : Int32) ≤ k then shr_ (lN X) (2 * k) &&& 3 else (0 : Int64)) = lN (X * 4 ^ (i + 1) / 4 ^ 27 % 4) := by
  subst hk
  by_cases c : i ≤ 26
  · rw [show zI (26 - (i : Int)) = nI (26 - i) by rw [← zI_n]; congr 1; omega, if_pos (nI_pos' (by omega)), show (2 : Int32) * nI (26 - i) = nI (2 * (26 - i)) from pk_mul 2 _, shr_lN63 (by omega) (by omega)]
    rw [show (3 : Int64) = lN (2 ^ 2 - 1) from rfl, wb_mask (Nat.lt_of_le_of_lt (Nat.div_le_self _ _) (by omega)) (by decide)]
    congr 2
    rw [show (4 : Nat) ^ 27 = 4 ^ (26 - i) * 4 ^ (i + 1) by rw [← Nat.pow_add]; congr 1; omega, Nat.mul_div_mul_right _ _ (Nat.pow_pos (by decide)), show (2 : Nat) ^ (2 * (26 - i)) = 4 ^ (26 - i) by rw [Nat.pow_mul]]
  · rw [if_neg (fun q => ?_)]
    · rw [show X * 4 ^ (i + 1) = X * 4 ^ (i - 27) * 4 * 4 ^ 27 by rw [Nat.mul_assoc, Nat.mul_assoc, show 4 * 4 ^ 27 = 4 ^ 28 from rfl, ← Nat.pow_add]; congr 2; omega, Nat.mul_div_cancel _ (by decide), Nat.mul_mod_left]
      rfl
    · rw [show (0 : Int32) = zI 0 from rfl, zI_le ⟨by omega, by omega⟩ ⟨by omega, by omega⟩] at q
      omega
