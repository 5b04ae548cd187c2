/-! the class's steps -/
theorem bw_s {i W F B n : Nat} (h : ff_ i W F B) (hn : n < 2 ^ W) : q_Form_sign i (lN n) = 0 ↔ n / 2 ^ (W - 1) = 0 := by
  rw [← rs_ms h hn, rs_mi h hn]
  rcases ff_sg h hn with z | z <;> rw [z]
  · exact ⟨fun _ => rfl, fun _ => rfl⟩
  · exact ⟨fun q => absurd q (by decide), fun q => absurd q (by decide)⟩
theorem bw_one {i W F B : Nat} (h : ff_ i W F B) : shl_ (Int32.toInt64 (fm_b i)) (fm_f i) = lN (B * 2 ^ F) ∧ shl_ (Int32.toInt64 (fm_b i - (1 : Int32))) (fm_f i) = lN ((B - 1) * 2 ^ F) := by
  rcases h with ⟨rfl, rfl, rfl, rfl⟩ | ⟨rfl, rfl, rfl, rfl⟩ <;> decide
theorem bw_e {i W F B n D : Nat} (h : ff_ i W F B) (hn : n < 2 ^ W) (h0 : 0 < n % 2 ^ (W - 1)) (hE : n % 2 ^ (W - 1) / 2 ^ F < B) (hD : D + ex_ F (n % 2 ^ (W - 1)) = B + F) (p : Int32) (hp : p = 141 ∨ p = 142 ∨ p = 143 ∨ p = 144) : q_Steps_belowOne p i (lN n) = q_Form_sign i (lN n) ||| lN (if sg_ F (n % 2 ^ (W - 1)) / 2 ^ D + wm_m p (n / 2 ^ (W - 1)) (sg_ F (n % 2 ^ (W - 1))) D = 0 then 0 else rR_ F B (sg_ F (n % 2 ^ (W - 1)) / 2 ^ D + wm_m p (n / 2 ^ (W - 1)) (sg_ F (n % 2 ^ (W - 1))) D) 0) := by
  have hsl := sg_lt F (n % 2 ^ (W - 1))
  have hs0 : 0 < sg_ F (n % 2 ^ (W - 1)) := sg_pos h0
  have hB3 : 3 ≤ B ∧ F < 60 := by rcases h with ⟨-, -, rfl, rfl⟩ | ⟨-, -, rfl, rfl⟩ <;> decide
  have hDF : F + 1 ≤ D := by unfold ex_ at hD; omega
  have hlt : sg_ F (n % 2 ^ (W - 1)) < 2 ^ D := Nat.lt_of_lt_of_le hsl (Nat.pow_le_pow_right (by decide) hDF)
  obtain ⟨e1, e2⟩ := bw_one h
  have hone : rR_ F B 1 0 = B * 2 ^ F := by
    rw [rR_int (L := 0) (Nat.zero_le _) (by decide) (by decide) (by omega) (by omega), Nat.sub_zero, Nat.one_mul, ← Nat.succ_mul]
    congr 1; omega
  have hsi := bw_s h hn
  have ga := ga_e (q_Form_sign i (lN n))
  have hmod : sg_ F (n % 2 ^ (W - 1)) % 2 ^ D = sg_ F (n % 2 ^ (W - 1)) := Nat.mod_eq_of_lt hlt
  have key : ∀ u : Nat, (u = 0 ∨ u = 1) → (lN (if 0 + u = 0 then 0 else rR_ F B (0 + u) 0)) = if u = 0 then 0 else lN (B * 2 ^ F) := by
    intro u hu
    rcases hu with rfl | rfl
    · rfl
    · rw [if_neg (by decide), if_neg (by decide), Nat.zero_add, hone]
  rw [Nat.div_eq_of_lt hlt, key _ (wm_01 _ _ _ _)]
  have hne : ¬ sg_ F (n % 2 ^ (W - 1)) = 0 := by omega
  unfold q_Steps_belowOne
  rw [e1, e2]
  rcases hp with rfl | rfl | rfl | rfl
  · unfold wm_m
    simp (decide := true) only [↓reduceIte]
    rw [ga.1, hmod]
    by_cases c : n / 2 ^ (W - 1) = 0
    · have c' := hsi.mpr c
      simp (decide := true) only [c, c', hne, ↓reduceIte]
    · have c' : ¬ q_Form_sign i (lN n) = 0 := fun q => c (hsi.mp q)
      simp (decide := true) only [c, c', hne, ↓reduceIte, or_0]
  · unfold wm_m
    simp (decide := true) only [↓reduceIte]
    rw [ga.2.1, hmod]
    by_cases c : n / 2 ^ (W - 1) = 0
    · have c' := hsi.mpr c
      simp (decide := true) only [c, c', hne, ↓reduceIte, or_0]
    · have c' : ¬ q_Form_sign i (lN n) = 0 := fun q => c (hsi.mp q)
      simp (decide := true) only [c, c', hne, ↓reduceIte]
  · unfold wm_m
    simp (decide := true) only [↓reduceIte, ga.2.2, or_0]
  · unfold wm_m
    simp (decide := true) only [↓reduceIte]
    have hi := ff_inf h
    have hBl : (B - 1) * 2 ^ F < 2 ^ 63 := by
      have : (B - 1) * 2 ^ F ≤ (2 * B + 1) * 2 ^ F := Nat.mul_le_mul_right _ (by omega)
      omega
    rw [cs_wo h hn]
    have cle : lN (n % 2 ^ (W - 1)) ≤ lN ((B - 1) * 2 ^ F) ↔ n % 2 ^ (W - 1) ≤ (B - 1) * 2 ^ F := lN_le63 (ff_y63 h n) hBl
    have hdm := Nat.div_add_mod (n % 2 ^ (W - 1)) (2 ^ F)
    have hml := Nat.mod_lt (n % 2 ^ (W - 1)) (Nat.two_pow_pos F)
    have hdec : (sg_ F (n % 2 ^ (W - 1)) / 2 ^ (D - 1) % 2 = 1 ∧ (sg_ F (n % 2 ^ (W - 1)) % 2 ^ (D - 1) ≠ 0 ∨ sg_ F (n % 2 ^ (W - 1)) / 2 ^ D % 2 = 1)) ↔ ¬ n % 2 ^ (W - 1) ≤ (B - 1) * 2 ^ F := by
      rw [Nat.div_eq_of_lt hlt]
      rcases Nat.lt_or_ge (F + 1) D with q | q
      · have h3 : sg_ F (n % 2 ^ (W - 1)) < 2 ^ (D - 1) := Nat.lt_of_lt_of_le hsl (Nat.pow_le_pow_right (by decide) (by omega))
        rw [Nat.div_eq_of_lt h3]
        have h4 : n % 2 ^ (W - 1) / 2 ^ F + 1 ≤ B - 1 := by unfold ex_ at hD; omega
        have h5 := Nat.mul_le_mul_left (2 ^ F) h4
        rw [Nat.mul_add, Nat.mul_one] at h5
        rw [Nat.mul_comm (B - 1)]
        exact ⟨fun z => absurd z.1 (by decide), fun z => absurd (by omega) z⟩
      · have hDe : D - 1 = F := by omega
        have hEe : n % 2 ^ (W - 1) / 2 ^ F = B - 1 := by unfold ex_ at hD; omega
        have hsg : sg_ F (n % 2 ^ (W - 1)) = n % 2 ^ (W - 1) % 2 ^ F + 2 ^ F := by unfold sg_; rw [if_neg (by omega)]
        rw [hDe, hsg, Nat.add_div_right _ (Nat.two_pow_pos F), Nat.div_eq_of_lt hml, Nat.add_mod_right, Nat.mod_mod]
        rw [hEe, Nat.mul_comm] at hdm
        generalize n % 2 ^ (W - 1) % 2 ^ F = f at *
        generalize (B - 1) * 2 ^ F = G at *
        omega
    by_cases c : n % 2 ^ (W - 1) ≤ (B - 1) * 2 ^ F
    · rw [if_pos (cle.mpr c), if_neg (fun q => hdec.mp q c), if_pos rfl, or_0]
    · rw [if_neg (fun q => c (cle.mp q)), if_pos (hdec.mpr c), if_neg (by decide)]
theorem fo_f {i W F B n D : Nat} (h : ff_ i W F B) (hE : B ≤ n % 2 ^ (W - 1) / 2 ^ F) : sg_ F (n % 2 ^ (W - 1)) = n % 2 ^ (W - 1) % 2 ^ F + 2 ^ F := by
  have := ff_B1 h
  unfold sg_; rw [if_neg (by omega)]
theorem fo_m {i W F B n k : Nat} (h : ff_ i W F B) (hE : B ≤ n % 2 ^ (W - 1) / 2 ^ F) (hk : k ≤ F) : n % 2 ^ k = sg_ F (n % 2 ^ (W - 1)) % 2 ^ k := by
  rw [fo_f (D := 0) h hE, ← ff_mF h n]
  have hd : 2 ^ k ∣ 2 ^ F := Nat.pow_dvd_pow 2 hk
  rw [Nat.add_mod, Nat.mod_eq_zero_of_dvd hd, Nat.add_zero, Nat.mod_mod, Nat.mod_mod_of_dvd n hd]
theorem fo_v {i W F B n D u : Nat} (h : ff_ i W F B) (hn : n < 2 ^ W) (hE : B ≤ n % 2 ^ (W - 1) / 2 ^ F) (hD1 : 1 ≤ D) (hD : D + n % 2 ^ (W - 1) / 2 ^ F = B + F) (hu : u = 0 ∨ u = 1) : q_Form_sign i (lN n) ||| lN (if sg_ F (n % 2 ^ (W - 1)) / 2 ^ D + u = 0 then 0 else rR_ F B (sg_ F (n % 2 ^ (W - 1)) / 2 ^ D + u) 0) = lN (n - n % 2 ^ D + u * 2 ^ D) := by
  have hDF : D ≤ F := by omega
  have hFB : F ≤ B := by rcases h with ⟨-, -, rfl, rfl⟩ | ⟨-, -, rfl, rfl⟩ <;> decide
  have hi := ff_inf h
  have hm := fo_m h hE hDF
  have hf := fo_f (D := 0) h hE
  have hfl := Nat.mod_lt (n % 2 ^ (W - 1)) (Nat.two_pow_pos F)
  have hdF : 2 ^ F = 2 ^ (F - D) * 2 ^ D := by rw [← Nat.pow_add]; congr 1; omega
  have hpD := Nat.two_pow_pos D
  have ht1 : 2 ^ (F - D) ≤ sg_ F (n % 2 ^ (W - 1)) / 2 ^ D := by
    rw [Nat.le_div_iff_mul_le hpD, ← hdF]; omega
  have ht2 : sg_ F (n % 2 ^ (W - 1)) / 2 ^ D < 2 ^ (F - D + 1) := by
    rw [Nat.div_lt_iff_lt_mul hpD, Nat.pow_succ, Nat.mul_right_comm, ← hdF]; omega
  have hpL := Nat.two_pow_pos (F - D)
  have hr := rR_int (F := F) (B := B) (m := sg_ F (n % 2 ^ (W - 1)) / 2 ^ D + u) (L := F - D) (by omega) (by omega) (by omega) (by omega) (by omega)
  have hle := rR_le (F := F) (B := B) (m := sg_ F (n % 2 ^ (W - 1)) / 2 ^ D + u) (e := 0) (by omega) (ff_B1 h)
  rw [if_neg (by omega), cs_si h hn, g_or (k := W - 1) rfl (by omega) (by
    have : n / 2 ^ (W - 1) * 2 ^ (W - 1) ≤ 1 * 2 ^ (W - 1) := Nat.mul_le_mul_right _ (by rcases ff_sg h hn with z | z <;> omega)
    omega), hr, show F - (F - D) = D by omega, Nat.add_mul]
  congr 1
  have d1 := Nat.div_add_mod' n (2 ^ (W - 1))
  have d2 := Nat.div_add_mod' (n % 2 ^ (W - 1)) (2 ^ F)
  have d3 := Nat.div_add_mod' (sg_ F (n % 2 ^ (W - 1))) (2 ^ D)
  rw [← hm] at d3
  have d4 : n % 2 ^ (W - 1) / 2 ^ F * 2 ^ F = (F - D + B - 1) * 2 ^ F + 2 ^ F := by rw [← Nat.succ_mul]; congr 1; omega
  have d5 : n % 2 ^ D ≤ n := Nat.mod_le _ _
  rw [hf] at d3 ⊢
  clear ht1 ht2 hr hle hm hfl
  generalize n / 2 ^ (W - 1) * 2 ^ (W - 1) = S at *
  generalize n % 2 ^ (W - 1) / 2 ^ F * 2 ^ F = T at *
  generalize (F - D + B - 1) * 2 ^ F = V at *
  generalize (n % 2 ^ (W - 1) % 2 ^ F + 2 ^ F) / 2 ^ D * 2 ^ D = Z at *
  generalize n % 2 ^ (W - 1) % 2 ^ F = f at *
  generalize n % 2 ^ D = r at *
  generalize u * 2 ^ D = U at *
  generalize 2 ^ F = P at *
  generalize n % 2 ^ (W - 1) = y at *
  clear hdF hpD hpL hi hE hD
  omega
theorem fo_bit {i W F B n D : Nat} (h : ff_ i W F B) (hE : B ≤ n % 2 ^ (W - 1) / 2 ^ F) (hD1 : 1 ≤ D) (hD : D + n % 2 ^ (W - 1) / 2 ^ F = B + F) : n / 2 ^ D % 2 = sg_ F (n % 2 ^ (W - 1)) / 2 ^ D % 2 := by
  rcases Nat.lt_or_ge D F with c | c
  · have h1 := fo_m h hE (show D + 1 ≤ F by omega)
    have h2 := fo_m h hE (show D ≤ F by omega)
    rw [mod_succ_, mod_succ_, h2] at h1
    exact Nat.eq_of_mul_eq_mul_right (Nat.two_pow_pos D) (Nat.add_left_cancel h1)
  · have hDe : D = F := by omega
    have hEe : n % 2 ^ (W - 1) / 2 ^ F = B := by omega
    have hfl := Nat.mod_lt (n % 2 ^ (W - 1)) (Nat.two_pow_pos F)
    rw [hDe, fo_f (D := 0) h hE, Nat.add_div_right _ (Nat.two_pow_pos F), Nat.div_eq_of_lt hfl]
    clear hfl hE hD c hD1 hDe
    rcases h with ⟨-, rfl, rfl, rfl⟩ | ⟨-, rfl, rfl, rfl⟩ <;> omega
theorem fo_e {i W F B n D : Nat} (h : ff_ i W F B) (hn : n < 2 ^ W) (hE : B ≤ n % 2 ^ (W - 1) / 2 ^ F) (hD1 : 1 ≤ D) (hD : D + n % 2 ^ (W - 1) / 2 ^ F = B + F) (p : Int32) (hp : p = 141 ∨ p = 142 ∨ p = 143 ∨ p = 144) : q_Steps_fromOneOn p i (lN n) (nI D) = lN (n - n % 2 ^ D + wm_m p (n / 2 ^ (W - 1)) (sg_ F (n % 2 ^ (W - 1))) D * 2 ^ D) := by
  have hDF : D ≤ F := by omega
  have hF : F ≤ 52 := by have := ff_F2 h; omega
  have n64 := ff_64 h hn
  have hm := fo_m h hE hDF
  have hm1 := fo_m h hE (show D - 1 ≤ F by omega)
  have hbit := fo_bit h hE hD1 hD
  have hpD := Nat.two_pow_pos D
  have hpl : 2 ^ D ≤ 2 ^ 52 := Nat.pow_le_pow_right (by decide) (by omega)
  have hp2 : 2 ^ D = 2 * 2 ^ (D - 1) := by rw [← Nat.pow_succ']; congr 1; omega
  have hmd := mod_succ_ (sg_ F (n % 2 ^ (W - 1))) (D - 1)
  rw [show D - 1 + 1 = D by omega, ← hm] at hmd
  have hml := Nat.mod_lt n hpD
  have hmle := Nat.mod_le n (2 ^ D)
  have hl1 := Nat.mod_lt (sg_ F (n % 2 ^ (W - 1))) (Nat.two_pow_pos (D - 1))
  have e1 : shl_ (1 : Int64) (nI D) = lN (2 ^ D) := by rw [show (1 : Int64) = lN 1 from rfl, shl_lN 1 (by omega), Nat.one_mul]
  have e2 : lN (2 ^ D) - (1 : Int64) = lN (2 ^ D - 1) := by rw [show (1 : Int64) = lN 1 from rfl, lN_sub (by omega)]
  have hsi := bw_s h hn
  have ga := ga_e (q_Form_sign i (lN n))
  unfold q_Steps_fromOneOn
  rw [e1, e2, wb_mask n64 (by omega), lN_sub hmle]
  by_cases c0 : n % 2 ^ D = 0
  · have hu : wm_m p (n / 2 ^ (W - 1)) (sg_ F (n % 2 ^ (W - 1))) D = 0 := by
      have c0' : sg_ F (n % 2 ^ (W - 1)) % 2 ^ D = 0 := by rw [← hm]; exact c0
      unfold wm_m
      rcases hp with rfl | rfl | rfl | rfl
      · simp (decide := true) only [c0', ↓reduceIte]
      · simp (decide := true) only [c0', ↓reduceIte]
      · simp (decide := true) only [↓reduceIte]
      · simp (decide := true) only [↓reduceIte]
        rw [if_neg (fun q => by
          rw [q.1, c0] at hmd
          omega)]
    rw [if_pos (by rw [c0]; rfl), hu, c0, Nat.zero_mul]
    rfl
  · rw [if_neg (fun q => c0 ((lN_z64 (by omega)).mp q))]
    have c0' : ¬ sg_ F (n % 2 ^ (W - 1)) % 2 ^ D = 0 := by rw [← hm]; exact c0
    rcases hp with rfl | rfl | rfl | rfl
    · unfold wm_m
      simp (decide := true) only [c0', ↓reduceIte]
      rw [ga.1]
      by_cases c : n / 2 ^ (W - 1) = 0
      · have c' := hsi.mpr c
        simp (decide := true) only [c, c', ↓reduceIte]
        rw [lN_add, Nat.one_mul]
      · have c' : ¬ q_Form_sign i (lN n) = 0 := fun q => c (hsi.mp q)
        simp (decide := true) only [c, c', ↓reduceIte]
        rw [Nat.zero_mul, Nat.add_zero]
    · unfold wm_m
      simp (decide := true) only [c0', ↓reduceIte]
      rw [ga.2.1]
      by_cases c : n / 2 ^ (W - 1) = 0
      · have c' := hsi.mpr c
        simp (decide := true) only [c, c', ↓reduceIte]
        rw [Nat.zero_mul, Nat.add_zero]
      · have c' : ¬ q_Form_sign i (lN n) = 0 := fun q => c (hsi.mp q)
        simp (decide := true) only [c, c', ↓reduceIte]
        rw [lN_add, Nat.one_mul]
    · unfold wm_m
      simp (decide := true) only [↓reduceIte, ga.2.2]
      rw [Nat.zero_mul, Nat.add_zero]
    · unfold wm_m
      simp (decide := true) only [↓reduceIte]
      have hna : q_Steps_isNearerAway (lN (n - n % 2 ^ D)) (lN (n % 2 ^ D)) (lN (2 ^ D)) = nI (if sg_ F (n % 2 ^ (W - 1)) / 2 ^ (D - 1) % 2 = 1 ∧ (sg_ F (n % 2 ^ (W - 1)) % 2 ^ (D - 1) ≠ 0 ∨ sg_ F (n % 2 ^ (W - 1)) / 2 ^ D % 2 = 1) then 1 else 0) := by
        unfold q_Steps_isNearerAway
        have e3 : ush_ (lN (2 ^ D)) (1 : Int32) = lN (2 ^ (D - 1)) := by
          rw [ush_1 (by omega)]; congr 1; omega
        have e4 : (n - n % 2 ^ D) / 2 ^ D = n / 2 ^ D := by
          have := Nat.div_add_mod n (2 ^ D)
          rw [show n - n % 2 ^ D = 2 ^ D * (n / 2 ^ D) by omega, Nat.mul_div_cancel_left _ hpD]
        rw [e3, and_bit (by omega) (by omega), e4, hbit]
        have q1 : lN (2 ^ (D - 1)) < lN (n % 2 ^ D) ↔ 2 ^ (D - 1) < n % 2 ^ D := lN_lt63 (by omega) (by omega)
        have q2 : lN (n % 2 ^ D) = lN (2 ^ (D - 1)) ↔ n % 2 ^ D = 2 ^ (D - 1) := lN_inj64 (by omega) (by omega)
        have hb2 : sg_ F (n % 2 ^ (W - 1)) / 2 ^ D % 2 = 0 ∨ sg_ F (n % 2 ^ (W - 1)) / 2 ^ D % 2 = 1 := by omega
        have hb3 : sg_ F (n % 2 ^ (W - 1)) / 2 ^ (D - 1) % 2 = 0 ∨ sg_ F (n % 2 ^ (W - 1)) / 2 ^ (D - 1) % 2 = 1 := by omega
        have q3 : lN (sg_ F (n % 2 ^ (W - 1)) / 2 ^ D % 2 * 2 ^ D) = 0 ↔ sg_ F (n % 2 ^ (W - 1)) / 2 ^ D % 2 = 0 := by
          rcases hb2 with z | z <;> rw [z]
          · rw [Nat.zero_mul]; exact ⟨fun _ => rfl, fun _ => rfl⟩
          · rw [Nat.one_mul, lN_z64 (by omega)]; omega
        simp only [q1, q2, q3]
        clear q1 q2 q3 e3 e4 hbit hm hm1 c0' c0 hsi ga
        generalize sg_ F (n % 2 ^ (W - 1)) / 2 ^ D % 2 = b at *
        generalize sg_ F (n % 2 ^ (W - 1)) / 2 ^ (D - 1) % 2 = a at *
        generalize sg_ F (n % 2 ^ (W - 1)) % 2 ^ (D - 1) = l at *
        generalize n % 2 ^ D = r at *
        generalize 2 ^ (D - 1) = Q at *
        rcases hb3 with z | z
        · rw [z, Nat.zero_mul, Nat.add_zero] at hmd
          rw [if_neg (by omega), if_neg (by omega), if_neg (fun q => by have := q.1; omega)]
          rfl
        · rw [z, Nat.one_mul] at hmd
          by_cases c : l = 0
          · rw [if_neg (by omega), if_pos (by omega)]
            rcases hb2 with w | w
            · rw [if_pos w, if_neg (fun q => by rcases q.2 with q | q <;> omega)]; rfl
            · rw [if_neg (by omega), if_pos ⟨z, Or.inr w⟩]; rfl
          · rw [if_pos (by omega), if_pos ⟨z, Or.inl c⟩]; rfl
      rw [hna]
      by_cases c : sg_ F (n % 2 ^ (W - 1)) / 2 ^ (D - 1) % 2 = 1 ∧ (sg_ F (n % 2 ^ (W - 1)) % 2 ^ (D - 1) ≠ 0 ∨ sg_ F (n % 2 ^ (W - 1)) / 2 ^ D % 2 = 1)
      · rw [if_pos c, if_neg (by decide), lN_add, Nat.one_mul]
      · rw [if_neg c, if_pos (show nI 0 = 0 from rfl), Nat.zero_mul, Nat.add_zero]
theorem st_e {i W F B n : Nat} (h : ff_ i W F B) (hn : n < 2 ^ W) {a0 p : Int32} (hp : (a0 = 3 ∧ p = 141) ∨ (a0 = 4 ∧ p = 142) ∨ (a0 = 5 ∧ p = 143) ∨ (a0 = 6 ∧ p = 144)) : q_Steps_toWhole p i (lN n) = q_Ref_whole F B (nI W) (nI F) (nI B) a0 (lN n) := by
  have he := ff_e h n
  have hB1 := ff_B1 h
  have hBF : B < 2000 ∧ F ≤ 52 ∧ 3 ≤ B ∧ F ≤ B := by rcases h with ⟨-, -, rfl, rfl⟩ | ⟨-, -, rfl, rfl⟩ <;> decide
  have hp' : p = 141 ∨ p = 142 ∨ p = 143 ∨ p = 144 := by
    rcases hp with ⟨-, q⟩ | ⟨-, q⟩ | ⟨-, q⟩ | ⟨-, q⟩
    · exact Or.inl q
    · exact Or.inr (Or.inl q)
    · exact Or.inr (Or.inr (Or.inl q))
    · exact Or.inr (Or.inr (Or.inr q))
  have epl : fm_f i - (q_Form_exponent i (lN n) - fm_b i) = zI ((F : Int) + B - (n % 2 ^ (W - 1) / 2 ^ F : Nat)) := by
    rw [cs_ex h hn, fb_f (ff_b h), fb_b (ff_b h), ← zI_n, ← zI_n, ← zI_n, zI_sub, zI_sub]; congr 1; omega
  unfold q_Steps_toWhole
  rw [epl]
  have c1 : zI ((F : Int) + B - (n % 2 ^ (W - 1) / 2 ^ F : Nat)) ≤ (0 : Int32) ↔ F + B ≤ n % 2 ^ (W - 1) / 2 ^ F := by
    generalize n % 2 ^ (W - 1) / 2 ^ F = E at *
    exact (zI_le (b := 0) ⟨by omega, by omega⟩ ⟨by omega, by omega⟩).trans (by omega)
  by_cases hz : q_Form_isZero i (lN n) = 0
  · have h0 : 0 < n % 2 ^ (W - 1) := Nat.pos_of_ne_zero ((nn_z h hn).mp hz)
    by_cases hb : F + B ≤ n % 2 ^ (W - 1) / 2 ^ F
    · rw [if_pos (c1.mpr hb), wh_u]
      have hwe : ¬ q_Ref_split_we (nI W) (nI F) (nI B) (lN n) < 0 := by
        have hx := ff_x2 h n
        rw [rs_we h hn]
        intro q
        have := (zI_lt (b := 0) ⟨by omega, by omega⟩ ⟨by omega, by omega⟩).mp q
        unfold ex_ at this
        omega
      rw [if_neg hwe, ite_self, ite_self]
    · rw [if_neg (fun q => hb (c1.mp q)), if_pos hz]
      have hinf : q_Form_isInfinite i (lN n) = 0 := by
        rw [cs_in h hn, if_neg (fun q => by
          rw [q, Nat.mul_div_cancel _ (Nat.two_pow_pos F)] at hb
          omega)]
      have hexl : 1 ≤ ex_ F (n % 2 ^ (W - 1)) ∧ ex_ F (n % 2 ^ (W - 1)) < B + F := by unfold ex_; omega
      obtain ⟨D, hD⟩ : ∃ D : Nat, D + ex_ F (n % 2 ^ (W - 1)) = B + F := ⟨B + F - ex_ F (n % 2 ^ (W - 1)), by omega⟩
      have hl := ff_sgl h n
      have hU := wm_U (m := sg_ F (n % 2 ^ (W - 1))) (D := D) (s := n / 2 ^ (W - 1)) hp hl (sg_pos h0) (by omega) (by omega) (ff_sg h hn)
      rw [← rs_mi h hn] at hU
      rw [wh_D h hn hz hinf (by omega) (by omega) a0 (wm_01 _ _ _ _) hU]
      have c2 : zI ((F : Int) + B - (n % 2 ^ (W - 1) / 2 ^ F : Nat)) ≤ fm_f i ↔ B ≤ n % 2 ^ (W - 1) / 2 ^ F := by
        rw [fb_f (ff_b h), ← zI_n]
        generalize n % 2 ^ (W - 1) / 2 ^ F = E at *
        exact (zI_le ⟨by omega, by omega⟩ ⟨by omega, by omega⟩).trans (by omega)
      by_cases hE : B ≤ n % 2 ^ (W - 1) / 2 ^ F
      · have hDE : D + n % 2 ^ (W - 1) / 2 ^ F = B + F := by unfold ex_ at hD; omega
        rw [if_pos (c2.mpr hE), fo_v h hn hE (by omega) hDE (wm_01 _ _ _ _), show zI ((F : Int) + B - (n % 2 ^ (W - 1) / 2 ^ F : Nat)) = nI D by rw [← zI_n]; congr 1; omega]
        exact fo_e h hn hE (by omega) hDE p hp'
      · rw [if_neg (fun q => hE (c2.mp q))]
        exact bw_e h hn h0 (by omega) hD p hp'
  · have hinf := zi_no h hn hz
    rw [if_neg hz, ite_self, wh_u, rs_in h hn, rs_z h hn, if_pos hinf, if_neg hz]
