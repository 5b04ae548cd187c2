/-! a float's amount as a number -/
def sg_ (F y : Nat) : Nat := if y / 2 ^ F = 0 then y % 2 ^ F else y % 2 ^ F + 2 ^ F
def ex_ (F y : Nat) : Nat := max (y / 2 ^ F) 1
theorem sg_lt (F y : Nat) : sg_ F y < 2 ^ (F + 1) := by
  have := Nat.mod_lt y (Nat.two_pow_pos F)
  unfold sg_; rw [Nat.pow_succ]; split <;> omega
theorem sg_pos {F y : Nat} (h : 0 < y) : 0 < sg_ F y := by
  have hp := Nat.two_pow_pos F
  have := Nat.div_add_mod y (2 ^ F)
  unfold sg_
  split
  · rename_i c; rw [c, Nat.mul_zero] at this; omega
  · omega
/-- amounts grow with their bits -/
theorem am_mono {F x y : Nat} (h : x < y) : sg_ F x * 2 ^ (ex_ F x - 1) < sg_ F y * 2 ^ (ex_ F y - 1) := by
  have hp := Nat.two_pow_pos F
  have hx := Nat.div_add_mod x (2 ^ F)
  have hy := Nat.div_add_mod y (2 ^ F)
  have hxm := Nat.mod_lt x hp
  have hym := Nat.mod_lt y hp
  have hle : x / 2 ^ F ≤ y / 2 ^ F := Nat.div_le_div_right (by omega)
  unfold sg_ ex_
  generalize x / 2 ^ F = e1 at *
  generalize x % 2 ^ F = m1 at *
  generalize y / 2 ^ F = e2 at *
  generalize y % 2 ^ F = m2 at *
  generalize 2 ^ F = W at *
  by_cases c : e1 = e2
  · subst c
    refine Nat.mul_lt_mul_of_pos_right ?_ (Nat.two_pow_pos _)
    split <;> omega
  · have hlt : e1 < e2 := by omega
    rw [if_neg (show ¬ e2 = 0 by omega), show max e2 1 = e2 by omega]
    have h2 : W * 2 ^ (e2 - 1) ≤ (m2 + W) * 2 ^ (e2 - 1) := Nat.mul_le_mul_right _ (by omega)
    refine Nat.lt_of_lt_of_le ?_ h2
    by_cases c0 : e1 = 0
    · rw [if_pos c0, c0, show max 0 1 - 1 = 0 from rfl, Nat.pow_zero, Nat.mul_one]
      exact Nat.lt_of_lt_of_le hxm (Nat.le_mul_of_pos_right _ (Nat.two_pow_pos _))
    · rw [if_neg c0, show max e1 1 = e1 by omega]
      have h3 : (m1 + W) * 2 ^ (e1 - 1) < W * 2 * 2 ^ (e1 - 1) := Nat.mul_lt_mul_of_pos_right (by omega) (Nat.two_pow_pos _)
      refine Nat.lt_of_lt_of_le h3 ?_
      rw [Nat.mul_assoc, ← Nat.pow_succ', show (e1 - 1).succ = e1 by omega]
      exact Nat.mul_le_mul_left _ (Nat.pow_le_pow_right (by decide) (by omega))
/-- all that 'split' tells, as numbers -/
theorem sp_all {wi fr bi : Int32} {F B : Nat} (h : fmR wi fr bi F B) (n : Nat) (hn : n < 2 ^ 64) : ∃ W y : Nat, (W = 31 ∧ F = 23 ∨ W = 63 ∧ F = 52) ∧ y = n % 2 ^ W ∧ q_Ref_size wi (lN n) = lN y ∧ y < 2 ^ 63 ∧ ex_ F y ≤ 2 * B + 1 ∧ q_Ref_split_am wi fr bi (lN n) = lN (sg_ F y) ∧ wt_ (q_Ref_split_we wi fr bi (lN n)) = 2201 - B - F + (ex_ F y - 1) ∧ q_Ref_split_we wi fr bi (lN n) = zI (ex_ F y - B - F) := by
  obtain ⟨W, y, hW, hy, h1, h2, hsh, hwe⟩ := sp_we h n hn
  have hf := fmR_f h
  have hFB := fmR_FB h
  have hp := Nat.two_pow_pos F
  have h63 : y < 2 ^ 63 := by
    have := Nat.mod_lt n (Nat.two_pow_pos W)
    rcases hW with ⟨rfl, -⟩ | ⟨rfl, -⟩ <;> omega
  have hs : q_Ref_size wi (lN n) = lN y := by
    obtain ⟨W', hW', e⟩ := sz_lN h n hn
    rw [e, hy]
    have : W' = W := by omega
    rw [this]
  have hm : n % 2 ^ F = y % 2 ^ F := by rw [hy]; exact (Nat.mod_mod_of_dvd n (Nat.pow_dvd_pow 2 (by omega))).symm
  refine ⟨W, y, hW, hy, hs, h63, by unfold ex_; omega, ?_, ?_, hwe⟩
  · unfold q_Ref_split_am
    rw [hsh, hf, show (1 : Int64) = lN 1 from rfl, shl_lN 1 (by omega), Nat.one_mul, show lN (2 ^ F) - lN 1 = lN (2 ^ F - 1) from lN_sub (b := 1) (by omega), wb_mask hn (by omega), hm]
    unfold sg_
    rw [show (0 : Int64) = lN 0 from rfl]
    by_cases c : y / 2 ^ F = 0
    · rw [c, if_pos rfl, if_pos rfl]
    · rw [if_neg (fun z => c ((lN_inj64 (by omega) (by decide)).mp z)), if_neg c, lN_add]
  · rw [hwe]
    unfold wt_ ex_
    generalize y / 2 ^ F = q at *
    rw [zI_t ⟨by omega, by omega⟩]
    omega
theorem sg_63 {F y : Nat} (hF : F ≤ 52) : sg_ F y < 2 ^ 63 := by
  have h1 := sg_lt F y
  have h2 : 2 ^ (F + 1) ≤ 2 ^ 53 := Nat.pow_le_pow_right (by decide) (by omega)
  omega
theorem am_pos {wi fr bi : Int32} {F B : Nat} {v : Int64} (h : fmR wi fr bi F B) (hz : q_Ref_isZero wi v = 0) : 0 < un_ (q_Ref_split_am wi fr bi v) := by
  obtain ⟨n, hn, rfl⟩ := wb_of v
  obtain ⟨W, y, hW, hy, hs, h63, -, ham, -, -⟩ := sp_all h n hn
  have hFB := fmR_FB h
  rw [ham, un_of (by have := sg_63 (F := F) (y := y) (by omega); omega)]
  apply sg_pos
  rcases Nat.eq_zero_or_pos y with z | z
  · exfalso
    unfold q_Ref_isZero at hz
    rw [hs, z, if_pos (show lN 0 = (0 : Int64) from rfl)] at hz
    exact absurd hz (by decide)
  · exact z
theorem rf_pos {wi fr bi : Int32} {F B P : Nat} {v : Int64} (h : fmR wi fr bi F B) (hz : q_Ref_isZero wi v = 0) : 0 < 0 + un_ (q_Ref_split_am wi fr bi v) * 2 ^ P := by
  rw [Nat.zero_add]; exact Nat.mul_pos (am_pos h hz) (Nat.two_pow_pos _)
theorem wh_pos {x : Int64} {P : Nat} (h : ¬ x = 0) : 0 < 0 + un_ x * 2 ^ P := by
  rw [Nat.zero_add]; exact Nat.mul_pos (un_pos h) (Nat.two_pow_pos _)
