/-! products, bit by bit -/
theorem pr_step {X Y P j : Nat} : X % 2 ^ (j + 1) * Y * 2 ^ P = X % 2 ^ j * Y * 2 ^ P + X / 2 ^ j % 2 * (Y * 2 ^ (P + j)) := by
  rw [mod_succ_ X j, Nat.add_mul, Nat.add_mul, Nat.pow_add]
  congr 1
  rw [Nat.mul_assoc, Nat.mul_assoc, Nat.mul_left_comm (2 ^ j) Y, Nat.mul_comm (2 ^ j) (2 ^ P)]
theorem pr_fit {X Y P j : Nat} (hX : X < 2 ^ 53) (hY : Y < 2 ^ 53) (hP : P ≤ 4200) : X % 2 ^ j * Y * 2 ^ P + Y * 2 ^ (P + j) < 2 ^ 4399 ∨ 53 ≤ j := by
  rcases Nat.lt_or_ge j 53 with h | h
  · left
    have h1 : X % 2 ^ j * Y * 2 ^ P ≤ 2 ^ 53 * 2 ^ 53 * 2 ^ 4200 := by
      refine Nat.mul_le_mul (Nat.mul_le_mul ?_ (by omega)) (Nat.pow_le_pow_right (by decide) hP)
      have := Nat.mod_le X (2 ^ j); omega
    have h2 : Y * 2 ^ (P + j) ≤ 2 ^ 53 * 2 ^ 4253 := Nat.mul_le_mul (by omega) (Nat.pow_le_pow_right (by decide) (by omega))
    have h3 : (2 : Nat) ^ 53 * 2 ^ 53 * 2 ^ 4200 + 2 ^ 53 * 2 ^ 4253 < 2 ^ 4399 := by decide +kernel
    exact Nat.lt_of_le_of_lt (Nat.add_le_add h1 h2) h3
  · exact Or.inr h
theorem am_lt {wi fr bi : Int32} {F B : Nat} (h : fmR wi fr bi F B) (v : Int64) : un_ (q_Ref_split_am wi fr bi v) < 2 ^ 53 := by
  obtain ⟨n, hn, rfl⟩ := wb_of v
  obtain ⟨W, y, hW, hy, hs, h63, -, ham, -, -⟩ := sp_all h n hn
  have hFB := fmR_FB h
  have h1 := sg_lt F y
  have h2 : 2 ^ (F + 1) ≤ 2 ^ 53 := Nat.pow_le_pow_right (by decide) (by omega)
  rw [ham, un_of (by omega)]
  omega
/-- the scale of a product, of a quotient -/
def w2_ (x y : Int32) : Nat := (2200 + x.toInt + y.toInt).toNat
theorem sp_we2 {wi fr bi : Int32} {F B : Nat} (h : fmR wi fr bi F B) (v : Int64) : -1074 ≤ (q_Ref_split_we wi fr bi v).toInt ∧ (q_Ref_split_we wi fr bi v).toInt ≤ 972 := by
  obtain ⟨n, hn, rfl⟩ := wb_of v
  obtain ⟨W, y, -, -, h1, h2, -, e⟩ := sp_we h n hn
  have hFB := fmR_FB h
  rw [e]
  generalize y / 2 ^ F = q at *
  rw [zI_t ⟨by omega, by omega⟩]
  omega
theorem sp_P2 {wi fr bi : Int32} {F B : Nat} (h : fmR wi fr bi F B) (u v : Int64) : (2200 : Int32) + (q_Ref_split_we wi fr bi u + q_Ref_split_we wi fr bi v) = nI (w2_ (q_Ref_split_we wi fr bi u) (q_Ref_split_we wi fr bi v)) ∧ 52 ≤ w2_ (q_Ref_split_we wi fr bi u) (q_Ref_split_we wi fr bi v) ∧ w2_ (q_Ref_split_we wi fr bi u) (q_Ref_split_we wi fr bi v) ≤ 4144 := by
  have h1 := sp_we2 h u
  have h2 := sp_we2 h v
  unfold w2_
  generalize q_Ref_split_we wi fr bi u = x at *
  generalize q_Ref_split_we wi fr bi v = y at *
  refine ⟨?_, by omega, by omega⟩
  rw [zI_of x, zI_of y, show (2200 : Int32) = zI 2200 from rfl, zI_add, zI_add, ← zI_n]
  rw [← zI_of x, ← zI_of y]
  congr 1; omega
theorem lv_63 {n j : Nat} (hn : n < 2 ^ 53) (hj : j < 53) : (shr_ (lN n) (nI j) &&& 1 = 1) ↔ n / 2 ^ j % 2 = 1 := by
  have : n / 2 ^ j < 2 ^ 64 := Nat.lt_of_le_of_lt (Nat.div_le_self _ _) (by omega)
  rw [shr_lN63 (by omega) (by omega), wb_a1 this, show (1 : Int64) = lN 1 from rfl, lN_inj64 (by omega) (by decide)]
