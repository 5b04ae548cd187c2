/-! sums, quotients and roots as natural numbers, tied to rR_ by marks -/
theorem sum_plus_ {F B M S d : Nat} {e : Int} (hM : M % 2 = 0) (h0 : 0 < M + S / 2 ^ d) (hd : S % 2 ^ d ≠ 0 → F + 2 ≤ (M + S / 2 ^ d).log2) :
    rR_ F B (M * 2 ^ d + S) (e - d) = rR_ F B (M + mk_ (S / 2 ^ d) (S % 2 ^ d)) e := by
  have e1 : M * 2 ^ d + S = (M + S / 2 ^ d) * 2 ^ d + S % 2 ^ d := by
    have h := Nat.div_add_mod' S (2 ^ d)
    rw [Nat.add_mul]; omega
  rw [e1, rR_mark_ h0 (Nat.mod_lt _ (Nat.two_pow_pos d)) hd, show e - (d : Int) + d = e by omega]
  congr 1
  unfold mk_
  split
  · rfl
  · rw [or1_, or1_]; omega
theorem sum_minus_ {F B M S d : Nat} {e : Int} (hM : M % 2 = 0) (hlt : S < M * 2 ^ d) (hd : S % 2 ^ d ≠ 0 → F + 2 ≤ (M - S / 2 ^ d - 1).log2) :
    rR_ F B (M * 2 ^ d - S) (e - d) = rR_ F B (M - mk_ (S / 2 ^ d) (S % 2 ^ d)) e := by
  have hp : 0 < 2 ^ d := Nat.two_pow_pos d
  have hq : S / 2 ^ d < M := (Nat.div_lt_iff_lt_mul hp).mpr hlt
  have h := Nat.div_add_mod' S (2 ^ d)
  have hr : S % 2 ^ d < 2 ^ d := Nat.mod_lt _ hp
  by_cases h0 : S % 2 ^ d = 0
  · have e1 : M * 2 ^ d - S = (M - S / 2 ^ d) * 2 ^ d := by rw [Nat.sub_mul]; omega
    rw [e1, rR_shift_ d (by omega), show e - (d : Int) + d = e by omega, h0]
    rfl
  · have hl := hd h0
    have hpos : 0 < M - S / 2 ^ d - 1 := by
      rcases Nat.eq_zero_or_pos (M - S / 2 ^ d - 1) with z | z
      · rw [z] at hl; simp at hl
      · exact z
    have e1 : M * 2 ^ d - S = (M - S / 2 ^ d - 1) * 2 ^ d + (2 ^ d - S % 2 ^ d) := by
      have a : M * 2 ^ d = (M - S / 2 ^ d - 1) * 2 ^ d + (S / 2 ^ d + 1) * 2 ^ d := by rw [← Nat.add_mul]; congr 1; omega
      rw [Nat.add_mul, Nat.one_mul] at a
      omega
    rw [e1, rR_mark_ hpos (by omega) (fun _ => hl), show e - (d : Int) + d = e by omega]
    congr 1
    unfold mk_
    rw [if_neg (by omega), if_neg h0, or1_, or1_]; omega
/-- the division digit by digit -/
def dv_ (n : Nat) : Nat → Nat → Nat → Nat × Nat
  | 0, q, r => (q, r)
  | k + 1, q, r => if n ≤ r then dv_ n k (2 * q + 1) (2 * (r - n)) else dv_ n k (2 * q) (2 * r)
theorem dv_inv_ {n : Nat} : ∀ (k q r : Nat), r < 2 * n → (2 * n * q + r) * 2 ^ k = 2 * n * (dv_ n k q r).1 + (dv_ n k q r).2 ∧ (dv_ n k q r).2 < 2 * n := by
  intro k
  induction k with
  | zero => intro q r h; simp [dv_]; exact h
  | succ k ih =>
    intro q r h
    unfold dv_
    split
    · rename_i hc
      obtain ⟨a, b⟩ := ih (2 * q + 1) (2 * (r - n)) (by omega)
      refine ⟨?_, b⟩
      rw [← a, Nat.pow_succ, Nat.mul_comm (2 ^ k) 2, ← Nat.mul_assoc]
      congr 1
      rw [Nat.mul_add, Nat.mul_one, ← Nat.mul_assoc, Nat.mul_right_comm (2 * n) 2 q]
      omega
    · rename_i hc
      obtain ⟨a, b⟩ := ih (2 * q) (2 * r) (by omega)
      refine ⟨?_, b⟩
      rw [← a, Nat.pow_succ, Nat.mul_comm (2 ^ k) 2, ← Nat.mul_assoc]
      congr 1
      rw [← Nat.mul_assoc, Nat.mul_right_comm (2 * n) 2 q]
      omega
theorem dv_bound_ {n : Nat} : ∀ (k q r j : Nat), q < 2 ^ j → (dv_ n k q r).1 < 2 ^ (j + k) := by
  intro k
  induction k with
  | zero => intro q r j h; simpa [dv_] using h
  | succ k ih =>
    intro q r j h
    unfold dv_
    split
    · have := ih (2 * q + 1) (2 * (r - n)) (j + 1) (by rw [Nat.pow_succ]; omega)
      rw [show j + (k + 1) = j + 1 + k by omega]; exact this
    · have := ih (2 * q) (2 * r) (j + 1) (by rw [Nat.pow_succ]; omega)
      rw [show j + (k + 1) = j + 1 + k by omega]; exact this
/-- the root digit by digit; c: what comes, of 64 bits -/
def rt_ : Nat → Nat → Nat → Nat → Nat × Nat
  | 0, x, r, _ => (x, r)
  | k + 1, x, r, c => if 4 * x + 1 ≤ 4 * r + c / 2 ^ 62 then rt_ k (2 * x + 1) (4 * r + c / 2 ^ 62 - (4 * x + 1)) (4 * c % 2 ^ 64) else rt_ k (2 * x) (4 * r + c / 2 ^ 62) (4 * c % 2 ^ 64)
theorem rt_inv_ : ∀ (k x r c : Nat), r ≤ 2 * x → c < 2 ^ 64 → ∃ cf, cf < 2 ^ 64 ∧ ((x * x + r) * 2 ^ 64 + c) * 4 ^ k = ((rt_ k x r c).1 * (rt_ k x r c).1 + (rt_ k x r c).2) * 2 ^ 64 + cf ∧ (rt_ k x r c).2 ≤ 2 * (rt_ k x r c).1 := by
  intro k
  induction k with
  | zero => intro x r c h hc; exact ⟨c, hc, by simp [rt_], h⟩
  | succ k ih =>
    intro x r c h hc
    have hm : 4 * c = (c / 2 ^ 62) * 2 ^ 64 + 4 * c % 2 ^ 64 := by omega
    have hc4 : c / 2 ^ 62 ≤ 3 := by omega
    unfold rt_
    split
    · rename_i hg
      obtain ⟨cf, h1, h2, h3⟩ := ih (2 * x + 1) (4 * r + c / 2 ^ 62 - (4 * x + 1)) (4 * c % 2 ^ 64) (by omega) (by omega)
      refine ⟨cf, h1, ?_, h3⟩
      rw [← h2, show (4 : Nat) ^ (k + 1) = 4 * 4 ^ k from Nat.pow_succ', ← Nat.mul_assoc]
      refine congrArg (fun q => q * 4 ^ k) ?_
      have e : (2 * x + 1) * (2 * x + 1) = 4 * (x * x) + (4 * x + 1) := by
        rw [Nat.add_mul, Nat.mul_add, Nat.one_mul, Nat.mul_one, show 2 * x * (2 * x) = 4 * (x * x) by rw [Nat.mul_mul_mul_comm]]; omega
      rw [e]
      clear h1 h2 h3 ih
      generalize x * x = y
      generalize c / 2 ^ 62 = u at *
      generalize 4 * c % 2 ^ 64 = v at *
      omega
    · rename_i hg
      obtain ⟨cf, h1, h2, h3⟩ := ih (2 * x) (4 * r + c / 2 ^ 62) (4 * c % 2 ^ 64) (by omega) (by omega)
      refine ⟨cf, h1, ?_, h3⟩
      rw [← h2, show (4 : Nat) ^ (k + 1) = 4 * 4 ^ k from Nat.pow_succ', ← Nat.mul_assoc]
      refine congrArg (fun q => q * 4 ^ k) ?_
      have e : 2 * x * (2 * x) = 4 * (x * x) := by rw [Nat.mul_mul_mul_comm]
      rw [e]
      clear h1 h2 h3 ih
      generalize x * x = y
      generalize c / 2 ^ 62 = u at *
      generalize 4 * c % 2 ^ 64 = v at *
      omega
theorem rt_bound_ : ∀ (k x r c j : Nat), x < 2 ^ j → (rt_ k x r c).1 < 2 ^ (j + k) := by
  intro k
  induction k with
  | zero => intro x r c j h; simpa [rt_] using h
  | succ k ih =>
    intro x r c j h
    unfold rt_
    split
    · have := ih (2 * x + 1) (4 * r + c / 2 ^ 62 - (4 * x + 1)) (4 * c % 2 ^ 64) (j + 1) (by rw [Nat.pow_succ]; omega)
      rw [show j + (k + 1) = j + 1 + k by omega]; exact this
    · have := ih (2 * x) (4 * r + c / 2 ^ 62) (4 * c % 2 ^ 64) (j + 1) (by rw [Nat.pow_succ]; omega)
      rw [show j + (k + 1) = j + 1 + k by omega]; exact this
/-- what comes out of 56 steps from m: the whole root of m * 2^48 -/
theorem rt_fin {Y m cf : Nat} (h : ((0 * 0 + 0) * 2 ^ 64 + m) * 4 ^ 56 = Y * 2 ^ 64 + cf) (hcf : cf < 2 ^ 64) : Y = m * 2 ^ 48 := by
  have e : (4 : Nat) ^ 56 = 2 ^ 48 * 2 ^ 64 := by decide
  rw [e, Nat.zero_mul, Nat.zero_add, ← Nat.mul_assoc] at h
  omega
theorem rt_56_ {m : Nat} (hm : m < 2 ^ 64) : (rt_ 56 0 0 m).1 * (rt_ 56 0 0 m).1 + (rt_ 56 0 0 m).2 = m * 2 ^ 48 ∧ (rt_ 56 0 0 m).2 ≤ 2 * (rt_ 56 0 0 m).1 := by
  obtain ⟨cf, h1, h2, h3⟩ := rt_inv_ 56 0 0 m (by omega) hm
  exact ⟨rt_fin h2 h1, h3⟩
