/-! Rounding of m * 2^e (m a natural number, not 0) to a float of F fraction bits and bias B, to nearest, of two the even one: bits without the sign. -/
def rd_ (m k : Nat) : Nat := if 2 ^ k < 2 * (m % 2 ^ k) ∨ (2 * (m % 2 ^ k) = 2 ^ k ∧ m / 2 ^ k % 2 = 1) then m / 2 ^ k + 1 else m / 2 ^ k
/-- how many bits go -/
def dr_ (F B m : Nat) (e : Int) : Int := (m.log2 : Int) - F + (if e + m.log2 + B < 1 then 1 - (e + m.log2 + B) else 0)
def rR_ (F B m : Nat) (e : Int) : Nat :=
  if 2 * (B : Int) < e + m.log2 + B then (2 * B + 1) * 2 ^ F
  else (max (e + m.log2 + B) 1 - 1).toNat * 2 ^ F + (if dr_ F B m e ≤ 0 then m * 2 ^ (-dr_ F B m e).toNat else rd_ m (dr_ F B m e).toNat)
/-- a mark for what is below -/
def mk_ (m r : Nat) : Nat := if r = 0 then m else m ||| 1
theorem log2_fill_ {m r j : Nat} (h : 0 < m) (hr : r < 2 ^ j) : (m * 2 ^ j + r).log2 = m.log2 + j := by
  have h0 : m ≠ 0 := by omega
  have hp : 0 < 2 ^ j := Nat.two_pow_pos j
  have hm := Nat.mul_pos h hp
  have h1 : m * 2 ^ j + r ≠ 0 := by omega
  rw [Nat.log2_eq_iff h1]
  obtain ⟨a, b⟩ := (Nat.log2_eq_iff h0).mp rfl
  constructor
  · have := Nat.mul_le_mul_right (2 ^ j) a
    rw [Nat.pow_add]; omega
  · have h2 : (m + 1) * 2 ^ j ≤ 2 ^ (m.log2 + 1) * 2 ^ j := Nat.mul_le_mul_right _ b
    rw [Nat.add_mul] at h2
    rw [show m.log2 + j + 1 = (m.log2 + 1) + j by omega, Nat.pow_add]; omega
theorem or1_ (m : Nat) : m ||| 1 = m + (1 - m % 2) := by
  have e : 2 ^ 1 * (m / 2) + 1 = 2 ^ 1 * (m / 2) ||| 1 := Nat.two_pow_add_eq_or_of_lt (by decide) _
  rcases Nat.mod_two_eq_zero_or_one m with h | h
  · have e2 : m = 2 ^ 1 * (m / 2) := by omega
    rw [h]
    calc m ||| 1 = 2 ^ 1 * (m / 2) ||| 1 := by rw [← e2]
      _ = 2 ^ 1 * (m / 2) + 1 := e.symm
      _ = m + (1 - 0) := by omega
  · have e2 : m = 2 ^ 1 * (m / 2) + 1 := by omega
    rw [h]
    calc m ||| 1 = (2 ^ 1 * (m / 2) + 1) ||| 1 := by rw [← e2]
      _ = (2 ^ 1 * (m / 2) ||| 1) ||| 1 := by rw [e]
      _ = 2 ^ 1 * (m / 2) ||| (1 ||| 1) := Nat.or_assoc _ _ _
      _ = 2 ^ 1 * (m / 2) ||| 1 := rfl
      _ = 2 ^ 1 * (m / 2) + 1 := e.symm
      _ = m + (1 - 1) := by omega
theorem log2_mk_ {m r : Nat} (h : 0 < m) : (mk_ m r).log2 = m.log2 := by
  unfold mk_
  split
  · rfl
  · rw [or1_]
    have h0 : m ≠ 0 := by omega
    obtain ⟨a, b⟩ := (Nat.log2_eq_iff h0).mp rfl
    rw [Nat.log2_eq_iff (by omega)]
    rw [Nat.pow_succ] at b ⊢
    omega
theorem rd_scale_ (m k j : Nat) : rd_ (m * 2 ^ j) (k + j) = rd_ m k := by
  have hp : 0 < 2 ^ j := Nat.two_pow_pos j
  have h1 : m * 2 ^ j / 2 ^ (k + j) = m / 2 ^ k := by rw [Nat.pow_add, Nat.mul_div_mul_right _ _ hp]
  have h2 : m * 2 ^ j % 2 ^ (k + j) = m % 2 ^ k * 2 ^ j := by rw [Nat.pow_add, Nat.mul_mod_mul_right]
  unfold rd_
  rw [h1, h2]
  have e1 : 2 * (m % 2 ^ k * 2 ^ j) = (2 * (m % 2 ^ k)) * 2 ^ j := by rw [Nat.mul_assoc]
  rw [e1, Nat.pow_add]
  have e2 : (2 ^ k * 2 ^ j < 2 * (m % 2 ^ k) * 2 ^ j) ↔ (2 ^ k < 2 * (m % 2 ^ k)) := Nat.mul_lt_mul_right hp
  have e3 : (2 * (m % 2 ^ k) * 2 ^ j = 2 ^ k * 2 ^ j) ↔ (2 * (m % 2 ^ k) = 2 ^ k) := Nat.mul_left_inj (by omega)
  simp only [e2, e3]
theorem rd_exact_ (n k : Nat) : rd_ (n * 2 ^ k) k = n := by
  have hp : 0 < 2 ^ k := Nat.two_pow_pos k
  unfold rd_
  rw [Nat.mul_mod_left, Nat.mul_div_cancel _ hp, if_neg (by omega)]
theorem rd_mark_ (m k j r : Nat) (hk : 2 ≤ k) (h0 : 0 < r) (hr : r < 2 ^ j) : rd_ (m * 2 ^ j + r) (k + j) = rd_ (m ||| 1) k := by
  unfold rd_
  rw [or1_, Nat.pow_add]
  obtain ⟨c, hc⟩ : ∃ c, 2 ^ k = 4 * c := ⟨2 ^ (k - 2), by rw [show 4 = 2 ^ 2 from rfl, ← Nat.pow_add]; congr 1; omega⟩
  have hc0 : 0 < c := by have := Nat.two_pow_pos k; omega
  have hJ : 0 < 2 ^ j := Nat.two_pow_pos j
  revert hr hJ
  generalize 2 ^ j = J
  intro hr hJ
  rw [hc]
  have hP : 0 < 4 * c := by omega
  have hdm := Nat.div_add_mod m (4 * c)
  have htl := Nat.mod_lt m hP
  revert hdm htl
  generalize m / (4 * c) = q
  generalize m % (4 * c) = t
  intro hdm htl
  subst hdm
  have e1 : (4 * c * q + t) * J + r = (4 * c * J) * q + (t * J + r) := by
    rw [Nat.add_mul, Nat.mul_right_comm]; omega
  have e3 : t * J + r < 4 * c * J := by
    have h := Nat.mul_le_mul_right J (show t + 1 ≤ 4 * c from htl)
    rw [Nat.add_mul, Nat.one_mul] at h; omega
  have hPJ : 0 < 4 * c * J := Nat.mul_pos hP hJ
  have d1 : ((4 * c * q + t) * J + r) / (4 * c * J) = q := by
    rw [e1, Nat.mul_add_div hPJ, Nat.div_eq_of_lt e3]; omega
  have d2 : ((4 * c * q + t) * J + r) % (4 * c * J) = t * J + r := by
    rw [e1, Nat.mul_add_mod, Nat.mod_eq_of_lt e3]
  have hm2 : (4 * c * q + t) % 2 = t % 2 := by
    rw [show 4 * c * q = 2 * (2 * c * q) by rw [← Nat.mul_assoc, ← Nat.mul_assoc]]; omega
  have hu : t + (1 - t % 2) < 4 * c := by omega
  have d3 : (4 * c * q + t + (1 - (4 * c * q + t) % 2)) / (4 * c) = q := by
    rw [hm2, Nat.add_assoc, Nat.mul_add_div hP, Nat.div_eq_of_lt hu]; omega
  have d4 : (4 * c * q + t + (1 - (4 * c * q + t) % 2)) % (4 * c) = t + (1 - t % 2) := by
    rw [hm2, Nat.add_assoc, Nat.mul_add_mod, Nat.mod_eq_of_lt hu]
  rw [d1, d2, d3, d4]
  have e4 : 4 * c * J = 2 * (2 * c * J) := by rw [← Nat.mul_assoc, ← Nat.mul_assoc]
  by_cases h : 2 * c ≤ t
  · have hX : 2 * c * J ≤ t * J := Nat.mul_le_mul_right J h
    rw [if_pos (Or.inl (by omega)), if_pos (Or.inl (by omega))]
  · have hX : (t + 1) * J ≤ 2 * c * J := Nat.mul_le_mul_right J (by omega)
    rw [Nat.add_mul, Nat.one_mul] at hX
    rw [if_neg (by omega), if_neg (by omega)]
theorem rR_mark_ {F B m r j : Nat} {e : Int} (hm : 0 < m) (hr : r < 2 ^ j) (hd : r ≠ 0 → F + 2 ≤ m.log2) : rR_ F B (m * 2 ^ j + r) e = rR_ F B (mk_ m r) (e + j) := by
  have hL := log2_fill_ hm hr
  have hL' := log2_mk_ (r := r) hm
  have hE : e + ((m * 2 ^ j + r).log2 : Int) + B = e + j + ((mk_ m r).log2 : Int) + B := by rw [hL, hL']; omega
  have hD : dr_ F B (m * 2 ^ j + r) e = dr_ F B (mk_ m r) (e + j) + j := by
    unfold dr_; rw [hE, hL, hL']; omega
  unfold rR_
  rw [hE, hD]
  by_cases hbig : 2 * (B : Int) < e + j + ((mk_ m r).log2 : Int) + B
  · rw [if_pos hbig, if_pos hbig]
  · rw [if_neg hbig, if_neg hbig]
    congr 1
    generalize hDD : dr_ F B (mk_ m r) (e + j) = D
    by_cases h0 : r = 0
    · subst h0
      simp only [mk_, if_true, Nat.add_zero]
      by_cases h1 : D + j ≤ 0
      · rw [if_pos h1, if_pos (by omega), Nat.mul_assoc, ← Nat.pow_add]
        congr 2; omega
      · rw [if_neg h1]
        by_cases h2 : D ≤ 0
        · rw [if_pos h2, show m * 2 ^ j = (m * 2 ^ (-D).toNat) * 2 ^ (D + j).toNat by rw [Nat.mul_assoc, ← Nat.pow_add]; congr 2; omega, rd_exact_]
        · rw [if_neg h2, show (D + j).toNat = D.toNat + j by omega, rd_scale_]
    · have h2 : 2 ≤ D := by
        rw [← hDD]; unfold dr_; rw [hL']; have := hd h0; split <;> omega
      rw [if_neg (by omega), if_neg (by omega), show (D + j).toNat = D.toNat + j by omega, rd_mark_ _ _ _ _ (by omega) (by omega) hr]
      unfold mk_; rw [if_neg h0]
theorem rR_shift_ {F B m : Nat} (j : Nat) {e : Int} (hm : 0 < m) : rR_ F B (m * 2 ^ j) e = rR_ F B m (e + j) := by
  have h := rR_mark_ (F := F) (B := B) (r := 0) (e := e) hm (Nat.two_pow_pos j) (fun h => absurd rfl h)
  rw [Nat.add_zero] at h
  rw [h]; rfl
/-- a mark upon a mark -/
theorem rR_mark2_ {F B m r x j : Nat} {e : Int} (hm : 0 < m) (hr : r < 2 ^ j) (hd : r + x ≠ 0 → F + 2 ≤ m.log2) : rR_ F B (mk_ (m * 2 ^ j + r) x) e = rR_ F B (mk_ m (r + x)) (e + j) := by
  by_cases hx : x = 0
  · subst hx
    rw [show mk_ (m * 2 ^ j + r) 0 = m * 2 ^ j + r from rfl, Nat.add_zero]
    exact rR_mark_ hm hr (by simpa using hd)
  · rw [show mk_ (m * 2 ^ j + r) x = (m * 2 ^ j + r) ||| 1 by unfold mk_; rw [if_neg hx], or1_]
    cases j with
    | zero =>
      have h0 : r = 0 := by omega
      subst h0
      rw [show mk_ m (0 + x) = m ||| 1 by unfold mk_; rw [if_neg (by omega)], or1_]
      simp
    | succ j =>
      rw [Nat.pow_succ] at hr
      have hp := Nat.two_pow_pos j
      have e1 : (m * 2 ^ (j + 1) + r) % 2 = r % 2 := by
        rw [Nat.pow_succ, show m * (2 ^ j * 2) = 2 * (m * 2 ^ j) by rw [← Nat.mul_assoc, Nat.mul_comm]]; omega
      rw [e1, Nat.add_assoc, rR_mark_ (r := r + (1 - r % 2)) hm (by rw [Nat.pow_succ]; omega) (fun _ => hd (by omega))]
      have e2 : mk_ m (r + (1 - r % 2)) = mk_ m (r + x) := by
        unfold mk_; rw [if_neg (by omega), if_neg (by omega)]
      rw [e2]
theorem log2_bd_ {m : Nat} (h0 : 0 < m) : 2 ^ m.log2 ≤ m ∧ m < 2 ^ (m.log2 + 1) := (Nat.log2_eq_iff (by omega)).mp rfl
