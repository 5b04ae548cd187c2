/-! adding and taking away, bit by bit, as numbers -/
theorem add_div_ {N n P i c S : Nat} (hS : S = N + n * 2 ^ P) (hc : c * 2 ^ (P + i) + S % 2 ^ (P + i) = N % 2 ^ (P + i) + n % 2 ^ i * 2 ^ P) : S / 2 ^ (P + i) = N / 2 ^ (P + i) + n / 2 ^ i + c := by
  have hW : 0 < 2 ^ (P + i) := Nat.two_pow_pos _
  have h1 := Nat.div_add_mod N (2 ^ (P + i))
  have h2 := Nat.div_add_mod n (2 ^ i)
  have h3 : n * 2 ^ P = 2 ^ (P + i) * (n / 2 ^ i) + n % 2 ^ i * 2 ^ P := by
    rw [← h2, Nat.add_mul, Nat.mul_add_div (Nat.two_pow_pos i), Nat.div_eq_of_lt (Nat.mod_lt n (Nat.two_pow_pos i)), Nat.add_zero, Nat.mul_add_mod, Nat.mod_mod, Nat.pow_add]
    congr 1
    rw [Nat.mul_comm (2 ^ i), Nat.mul_comm (2 ^ P) (2 ^ i), Nat.mul_comm (2 ^ i) (2 ^ P), Nat.mul_comm (2 ^ P * 2 ^ i), Nat.mul_assoc, Nat.mul_comm (2 ^ i)]
  have e : S = 2 ^ (P + i) * (N / 2 ^ (P + i) + n / 2 ^ i + c) + S % 2 ^ (P + i) := by
    rw [Nat.mul_add, Nat.mul_add, Nat.mul_comm _ c]
    generalize S % 2 ^ (P + i) = S0 at *
    omega
  have hlt := Nat.mod_lt S hW
  rw [e, Nat.mul_add_div hW, Nat.div_eq_of_lt hlt, Nat.add_zero]
theorem add_step_ {N n P i c S : Nat} (hS : S = N + n * 2 ^ P) (hc : c * 2 ^ (P + i) + S % 2 ^ (P + i) = N % 2 ^ (P + i) + n % 2 ^ i * 2 ^ P) :
    S / 2 ^ (P + i) % 2 = (N / 2 ^ (P + i) % 2 + n / 2 ^ i % 2 + c) % 2 ∧ (N / 2 ^ (P + i) % 2 + n / 2 ^ i % 2 + c) / 2 * 2 ^ (P + (i + 1)) + S % 2 ^ (P + (i + 1)) = N % 2 ^ (P + (i + 1)) + n % 2 ^ (i + 1) * 2 ^ P := by
  have hd := add_div_ hS hc
  have h1 : S / 2 ^ (P + i) % 2 = (N / 2 ^ (P + i) % 2 + n / 2 ^ i % 2 + c) % 2 := by omega
  refine ⟨h1, ?_⟩
  rw [show P + (i + 1) = P + i + 1 by omega, mod_succ_ S, mod_succ_ N, mod_succ_ n, h1, Nat.add_mul, Nat.mul_assoc _ (2 ^ i), ← Nat.pow_add, Nat.add_comm i P, Nat.pow_succ]
  generalize N / 2 ^ (P + i) % 2 = x at *
  generalize n / 2 ^ i % 2 = y at *
  have hs : (x + y + c) = 2 * ((x + y + c) / 2) + (x + y + c) % 2 := by omega
  have e2 : (x + y + c) / 2 * (2 ^ (P + i) * 2) + (x + y + c) % 2 * 2 ^ (P + i) = (x + y + c) * 2 ^ (P + i) := by
    rw [show (x + y + c) / 2 * (2 ^ (P + i) * 2) = 2 * ((x + y + c) / 2) * 2 ^ (P + i) by rw [Nat.mul_comm (2 ^ (P + i)) 2, ← Nat.mul_assoc, Nat.mul_comm _ 2], ← Nat.add_mul, ← hs]
  rw [Nat.add_mul, Nat.add_mul] at e2
  generalize 2 ^ (P + i) = W at *
  omega
theorem ad_b : ∀ s : Nat, s < 4 → vp_nar .byte (Int8.toInt32 (Int32.toInt8 (nI s &&& 1))) = nI (s % 2) := by decide
theorem ad_c : ∀ s : Nat, s < 4 → nI s >>> ((1 : Int32) &&& 31) = nI (s / 2) := by decide
theorem ad_l {n : Nat} (hn : n < 2 ^ 64) : Int64.toInt32 (lN n &&& 1) = nI (n % 2) := by rw [wb_a1 hn, lN_i]
theorem ad_h {n : Nat} (hn : n < 2 ^ 64) : ush_ (lN n) 1 = lN (n / 2) := ush_lN (k := 1) hn (by decide)
