/-! the class's rounding is rR_ -/
/-- i is the form of F fraction bits and bias B -/
def fb_ (i F B : Nat) : Prop := (i = 0 ∧ F = 23 ∧ B = 127) ∨ (i = 1 ∧ F = 52 ∧ B = 1023)
theorem fb_f {i F B : Nat} (h : fb_ i F B) : fm_f i = nI F := by rcases h with ⟨rfl, rfl, rfl⟩ | ⟨rfl, rfl, rfl⟩ <;> rfl
theorem fb_b {i F B : Nat} (h : fb_ i F B) : fm_b i = nI B := by rcases h with ⟨rfl, rfl, rfl⟩ | ⟨rfl, rfl, rfl⟩ <;> rfl
theorem fb_i {i F B : Nat} (h : fb_ i F B) : fm_i i = lN ((2 * B + 1) * 2 ^ F) := by rcases h with ⟨rfl, rfl, rfl⟩ | ⟨rfl, rfl, rfl⟩ <;> decide
theorem mod_shift_ {t d : Nat} (hd : d ≤ 64) : t * 2 ^ (64 - d) % 2 ^ 64 = t % 2 ^ d * 2 ^ (64 - d) := by
  have e : 2 ^ 64 = 2 ^ d * 2 ^ (64 - d) := by rw [← Nat.pow_add]; congr 1; omega
  rw [e, Nat.mul_mod_mul_right]
/-- the nearest, by what is kept and what goes -/
theorem nearest_e {t d : Nat} (h1 : 1 ≤ d) (h2 : d ≤ 64) (ht : t < 2 ^ 64) : q_Form_nearest (lN (t / 2 ^ d)) (lN (t * 2 ^ (64 - d))) = lN (rd_ t d) := by
  have hp : 2 ^ d = 2 * 2 ^ (d - 1) := by rw [← Nat.pow_succ']; congr 1; omega
  have hq : 2 ^ 63 = 2 ^ (d - 1) * 2 ^ (64 - d) := by rw [← Nat.pow_add]; congr 1; omega
  have hj := Nat.two_pow_pos (64 - d)
  have hl : t % 2 ^ d * 2 ^ (64 - d) < 2 ^ 64 := by rw [← mod_shift_ h2]; exact Nat.mod_lt _ (by decide)
  have hk : t / 2 ^ d < 2 ^ 64 := Nat.lt_of_le_of_lt (Nat.div_le_self _ _) ht
  rw [wb_mod (t * 2 ^ (64 - d)), mod_shift_ h2]
  have e1 : 2 ^ (d - 1) ≤ t % 2 ^ d → (shl_ (lN (t % 2 ^ d * 2 ^ (64 - d))) (1 : Int32) = 0 ↔ t % 2 ^ d = 2 ^ (d - 1)) := by
    intro hge
    have hx : 2 ^ 63 ≤ t % 2 ^ d * 2 ^ (64 - d) := by rw [hq]; exact Nat.mul_le_mul_right _ hge
    have hz : t % 2 ^ d = 2 ^ (d - 1) ↔ t % 2 ^ d * 2 ^ (64 - d) = 2 ^ 63 := by rw [hq]; exact (Nat.mul_left_inj (by omega)).symm
    rw [show (1 : Int32) = nI 1 from rfl, shl_lN _ (by decide), wb_mod (_ * 2 ^ 1), lN_z64 (Nat.mod_lt _ (by decide)), hz]
    clear hz hq hge
    generalize t % 2 ^ d * 2 ^ (64 - d) = x at *
    omega
  have e2 : lN (t % 2 ^ d * 2 ^ (64 - d)) < 0 ↔ 2 ^ (d - 1) ≤ t % 2 ^ d := by
    rw [lN_neg hl, hq]
    exact Nat.mul_le_mul_right_iff hj
  unfold q_Form_nearest rd_
  rw [hp] at *
  generalize 2 ^ (d - 1) = P at *
  generalize t / (2 * P) = k at *
  generalize t % (2 * P) = r at *
  by_cases c2 : P ≤ r
  · rw [if_pos (e2.mpr c2)]
    by_cases c1 : r = P
    · rw [if_pos ((e1 c2).mpr c1), wb_a1 hk, lN_add]
      rcases Nat.mod_two_eq_zero_or_one k with z | z
      · rw [if_neg (by omega), z]; rfl
      · rw [if_pos (by omega), z]
    · rw [if_neg (fun z => c1 ((e1 c2).mp z)), if_pos (by omega)]; exact lN_1 k
  · rw [if_neg (fun z => c2 (e2.mp z)), if_neg (by omega)]
theorem mk_lt_ {m r : Nat} (hm : m < 2 ^ 64) : mk_ m r < 2 ^ 64 := by
  unfold mk_
  split
  · exact hm
  · exact Nat.or_lt_two_pow hm (by decide)
theorem marked_e {m r : Nat} (hm : m < 2 ^ 64) (hr : r < 2 ^ 64) : q_Bits_marked (lN m) (lN r) = lN (mk_ m r) := by
  unfold q_Bits_marked mk_
  by_cases c : r = 0
  · rw [if_pos ((lN_z64 hr).mpr c), if_pos c]
  · rw [if_neg (fun z => c ((lN_z64 hr).mp z)), if_neg c, or1_lN hm]
theorem movedDown_e {m d : Nat} (hm : m < 2 ^ 64) (hd : d < 2 ^ 31) : q_Bits_movedDown (lN m) (nI d) = lN (mk_ (m / 2 ^ d) (m % 2 ^ d)) := by
  unfold q_Bits_movedDown
  have h0 : (0 : Int32) < nI d ↔ 0 < d := nI_ltI (a := 0) (by decide) hd
  have h64 : nI d < 64 ↔ d < 64 := nI_ltI (b := 64) hd (by decide)
  by_cases c0 : 0 < d
  · rw [if_pos (h0.mpr c0)]
    by_cases c : d < 64
    · rw [if_pos (h64.mpr c), ush_lN hm c, show (64 : Int32) - nI d = nI (64 - d) from pk_sub (a := 64) (by omega), shl_lN m (by omega), wb_mod (m * 2 ^ (64 - d)), mod_shift_ (by omega),
        marked_e (Nat.lt_of_le_of_lt (Nat.div_le_self _ _) hm) (by rw [← mod_shift_ (by omega)]; exact Nat.mod_lt _ (by decide))]
      congr 1
      have hp := Nat.two_pow_pos (64 - d)
      unfold mk_
      by_cases z : m % 2 ^ d = 0
      · rw [if_pos z, if_pos (by rw [z, Nat.zero_mul])]
      · rw [if_neg z, if_neg (fun q => z ((Nat.mul_eq_zero.mp q).resolve_right (by omega)))]
    · rw [if_neg (fun z => c (h64.mp z)), show (0 : Int64) = lN 0 from rfl, marked_e (by decide) hm]
      have hle : 2 ^ 64 ≤ 2 ^ d := Nat.pow_le_pow_right (by decide) (by omega)
      rw [Nat.div_eq_of_lt (by omega), Nat.mod_eq_of_lt (by omega)]
  · rw [if_neg (fun z => c0 (h0.mp z))]
    have : d = 0 := by omega
    subst this
    simp [mk_]
    rw [Nat.mod_one]; rfl
/-- a number raised to the highest bit is rounded like itself -/
theorem rd_top_ {m d : Nat} {D : Int} (h0 : 0 < m) (hm : m < 2 ^ 64) (hd : (d : Int) = 63 - m.log2 + D) : rd_ (m * 2 ^ (63 - m.log2)) d = if D ≤ 0 then m * 2 ^ (-D).toNat else rd_ m D.toNat := by
  have hL : m.log2 < 64 := (Nat.log2_lt (by omega)).mpr hm
  split
  · rename_i c
    have e : m * 2 ^ (63 - m.log2) = (m * 2 ^ (-D).toNat) * 2 ^ d := by
      rw [Nat.mul_assoc, ← Nat.pow_add]; congr 2; omega
    rw [e, rd_exact_]
  · rename_i c
    have e : d = D.toNat + (63 - m.log2) := by omega
    rw [e, rd_scale_]
theorem rd_small_ {m k : Nat} (h : 2 * m < 2 ^ k) : rd_ m k = 0 := by
  have h1 : m < 2 ^ k := by omega
  unfold rd_
  rw [Nat.div_eq_of_lt h1, Nat.mod_eq_of_lt h1, if_neg (by omega)]
theorem max_e {a b : Int} (ha : ir_ a) (hb : ir_ b) : q_Math_max (zI a) (zI b) = zI (max a b) := by
  unfold q_Math_max
  by_cases c : a < b
  · rw [if_pos ((zI_lt ha hb).mpr c), Int.max_def, if_pos (by omega)]
  · rw [if_neg (fun z => c ((zI_lt ha hb).mp z)), Int.max_def]
    split
    · congr 1; omega
    · rfl
theorem rounded_e {i F B m : Nat} (hf : fb_ i F B) (h0 : 0 < m) (hm : m < 2 ^ 64) {z : Int} (hz : -100000 ≤ z ∧ z ≤ 100000) (sg : Int64) : q_Form_rounded i sg (lN m) (zI z) = sg ||| lN (rR_ F B m z) := by
  have hL : m.log2 < 64 := (Nat.log2_lt (by omega)).mpr hm
  have hFB : (F = 23 ∧ B = 127) ∨ (F = 52 ∧ B = 1023) := by rcases hf with ⟨-, a, b⟩ | ⟨-, a, b⟩ <;> omega
  have hraise := nlz_e h0 hm
  have htop : shl_ (lN m) (nI (63 - m.log2)) = lN (m * 2 ^ (63 - m.log2)) := shl_lN m (by omega)
  have hE : zI z - nI (63 - m.log2) + 63 + nI B = zI (z + m.log2 + B) := by
    rw [← zI_n, ← zI_n, show (63 : Int32) = zI 63 from rfl, zI_sub, zI_add, zI_add]; congr 1; omega
  have h2B : (2 : Int32) * nI B = zI (2 * B) := by rw [← zI_n, show (2 : Int32) = zI 2 from rfl, zI_mul]
  obtain ⟨lo, hi⟩ := log2_bd_ h0
  have ht2 : m * 2 ^ (63 - m.log2) < 2 ^ 64 := by
    have h := Nat.mul_lt_mul_of_pos_right hi (Nat.two_pow_pos (63 - m.log2))
    rw [← Nat.pow_add, show m.log2 + 1 + (63 - m.log2) = 64 by omega] at h; exact h
  unfold q_Form_rounded
  rw [hraise, htop, fb_f hf, fb_b hf, hE, h2B]
  unfold rR_
  have hD : dr_ F B m z = (m.log2 : Int) - F + max (1 - (z + m.log2 + B)) 0 := by unfold dr_; split <;> omega
  rw [hD]
  generalize hEe : z + (m.log2 : Int) + B = E
  have hEr : -200000 ≤ E ∧ E ≤ 200000 := by omega
  have rE : ir_ E := ⟨by omega, by omega⟩
  have r2 : ir_ (2 * (B : Int)) := ⟨by omega, by omega⟩
  by_cases c1 : 2 * (B : Int) < E
  · rw [if_neg (fun q => by have := (zI_le rE r2).mp q; omega), if_pos c1, fb_i hf]
  · rw [if_pos ((zI_le rE r2).mpr (by omega)), if_neg c1]
    have hmax : q_Math_max ((1 : Int32) - zI E) 0 = zI (max (1 - E) 0) := by
      rw [show (1 : Int32) = zI 1 from rfl, zI_sub]
      exact max_e (b := 0) ⟨by omega, by omega⟩ ⟨by omega, by omega⟩
    have hmax1 : q_Math_max (zI E) 1 = zI (max E 1) := max_e (b := 1) rE ⟨by omega, by omega⟩
    have hdrop : (63 : Int32) - nI F + zI (max (1 - E) 0) = zI (63 - F + max (1 - E) 0) := by
      rw [← zI_n, show (63 : Int32) = zI 63 from rfl, zI_sub, zI_add]
    rw [hmax, hmax1, hdrop]
    have rD : ir_ (63 - F + max (1 - E) 0) := ⟨by omega, by omega⟩
    have h649 : (zI (63 - F + max (1 - E) 0) ≤ (64 : Int32)) ↔ 63 - (F : Int) + max (1 - E) 0 ≤ 64 := zI_le (b := 64) rD ⟨by omega, by omega⟩
    by_cases c2 : 63 - (F : Int) + max (1 - E) 0 ≤ 64
    · rw [if_pos (h649.mpr c2)]
      obtain ⟨d, hd⟩ : ∃ d : Nat, (d : Int) = 63 - (F : Int) + max (1 - E) 0 := ⟨(63 - (F : Int) + max (1 - E) 0).toNat, by omega⟩
      have hbelow : shl_ (Int32.toInt64 (zI (max E 1) - 1)) (nI F) = lN ((max E 1 - 1).toNat * 2 ^ F) := by
        rw [show (1 : Int32) = zI 1 from rfl, zI_sub, show zI (max E 1 - 1) = nI (max E 1 - 1).toNat by rw [← zI_n]; congr 1; omega, nI_l (by omega), shl_lN _ (by omega)]
      rw [← hd, zI_n, hbelow]
      have hsub : (64 : Int32) - nI d = nI (64 - d) := pk_sub (a := 64) (by omega)
      rw [hsub, shl_lN _ (by omega)]
      have hrd := rd_top_ (d := d) (D := (m.log2 : Int) - F + max (1 - E) 0) h0 hm (by omega)
      rw [← hrd]
      by_cases c3 : d = 64
      · rw [if_pos (by rw [c3]; rfl)]
        have h64 : m * 2 ^ (63 - m.log2) / 2 ^ 64 = 0 := Nat.div_eq_of_lt ht2
        have hn := nearest_e (d := d) (by omega) (by omega) ht2
        rw [c3, h64] at hn
        rw [c3, show (0 : Int64) = lN 0 from rfl, hn, lN_add]
      · have hne : ¬ nI d = 64 := fun q => c3 ((nI_eq (b := 64) (by omega) (by decide)).mp q)
        rw [if_neg hne, ush_lN ht2 (by omega), nearest_e (by omega) (by omega) ht2, lN_add]
    · rw [if_neg (fun q => c2 (h649.mp q))]
      have e1 : (max E 1 - 1).toNat = 0 := by omega
      have e2 : rd_ m ((m.log2 : Int) - F + max (1 - E) 0).toNat = 0 := by
        apply rd_small_
        have h : 2 ^ (m.log2 + 2) ≤ 2 ^ ((m.log2 : Int) - F + max (1 - E) 0).toNat := Nat.pow_le_pow_right (by decide) (by omega)
        rw [Nat.pow_succ] at h; omega
      rw [e1, if_neg (by omega), e2, Nat.zero_mul]
      show sg = sg ||| 0
      rw [Int64.or_zero]
