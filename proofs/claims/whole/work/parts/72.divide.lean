/-! divisions of whole numbers -/
theorem ok_th {a0 : Int32} (h : ∀ a1 a2 : Int64, (∃ v, q_Operations_answer a0 a1 a2 = (0, v) ∧ q_Ref_answer_cd 0 a0 (mk1_ (q_Ref_first a0) a1) (mk1_ (q_Ref_first a0) a2) = 0 ∧ v = mk1_ (q_Ref_result a0) (q_Ref_answer 0 a0 (mk1_ (q_Ref_first a0) a1) (mk1_ (q_Ref_first a0) a2))) ∨ (∃ c : Nat, 1 ≤ c ∧ c ≤ 4 ∧ q_Operations_answer a0 a1 a2 = (c, 0) ∧ q_Ref_answer_cd 0 a0 (mk1_ (q_Ref_first a0) a1) (mk1_ (q_Ref_first a0) a2) = nI c)) : OK_ a0 := by
  intro a1 a2
  rcases h a1 a2 with ⟨v, e1, e2, e3⟩ | ⟨c, h1, h4, e1, e2⟩
  · rw [e1, e2]
    exact ⟨Nat.zero_le _, rfl, fun _ => e3⟩
  · rw [e1, e2]
    exact ⟨h4, rfl, fun z => absurd z (by dsimp only; omega)⟩
theorem lN_nn {n : Nat} (hn : n < 2 ^ 64) : (0 : Int64) ≤ lN n ↔ n < 2 ^ 63 := by
  rw [Int64.le_iff_toInt_le, lN_ti hn, show (0 : Int64).toInt = 0 from rfl]
  split <;> omega
theorem dd_ {n d : Nat} (hn : n < 2 ^ 64) (hd : d < 2 ^ 64) (h0 : 0 < d) (a2 : Int32) : ∀ k : Nat, k ≤ 64 → ∀ q r : Nat, n / 2 ^ k = q * d + r → r < d → lf_Ref_divided (lN n) (lN d) a2 k (lN r) (lN q) = if a2 = 0 then lN (n / d) else lN (n % d) := by
  intro k
  induction k with
  | zero =>
    intro _ q r e hr
    rw [Nat.pow_zero, Nat.div_one] at e
    have e1 : n / d = q := by rw [e, Nat.add_comm, Nat.add_mul_div_right _ _ h0, Nat.div_eq_of_lt hr, Nat.zero_add]
    have e2 : n % d = r := by rw [e, Nat.add_comm, Nat.add_mul_mod_self_right, Nat.mod_eq_of_lt hr]
    rw [e1, e2]
    unfold lf_Ref_divided
    rfl
  | succ k ih =>
    intro hk q r e hr
    have hb : n / 2 ^ k % 2 < 2 := Nat.mod_lt _ (by decide)
    have hs : n / 2 ^ k = 2 * (n / 2 ^ (k + 1)) + n / 2 ^ k % 2 := by
      rw [Nat.pow_succ, ← Nat.div_div_eq_div_mul]; omega
    have eb := shr_bit hn (show k < 64 by omega)
    have et : (2 : Int64) * lN r + lN (n / 2 ^ k % 2) = lN (2 * r + n / 2 ^ k % 2) := by
      rw [show (2 : Int64) = lN 2 from rfl, lN_mul, lN_add]
    have eq1 : shl_ (lN q) (1 : Int32) = lN (2 * q) := by
      rw [show (1 : Int32) = nI 1 from rfl, shl_lN q (by decide)]; congr 1; omega
    have ih2 := ih (by omega) (2 * q + 1) (2 * r + n / 2 ^ k % 2 - d)
    have ih1 := ih (by omega) (2 * q) (2 * r + n / 2 ^ k % 2)
    rw [e] at hs
    have m1 : (2 * q) * d = 2 * (q * d) := by rw [Nat.mul_assoc]
    have m2 : (2 * q + 1) * d = 2 * (q * d) + d := by rw [Nat.add_mul, Nat.one_mul, Nat.mul_assoc]
    rw [m2] at ih2
    rw [m1] at ih1
    unfold lf_Ref_divided
    rw [eb, et, eq1, show lN (2 * q) + (1 : Int64) = lN (2 * q + 1) from lN_1 _]
    generalize n / 2 ^ k % 2 = b at *
    generalize n / 2 ^ k = N at *
    generalize q * d = qd at *
    by_cases c : r < 2 ^ 63
    · rw [if_pos ((lN_nn (by omega)).mpr c), be_e (by omega) hd]
      by_cases c2 : 2 * r + b < d
      · rw [if_pos c2, if_neg (by decide)]
        exact ih1 (by omega) c2
      · rw [if_neg c2, if_pos rfl, lN_sub (by omega)]
        exact ih2 (by omega) (by omega)
    · rw [if_neg (fun z => c ((lN_nn (by omega)).mp z)), lN_sub (by omega)]
      exact ih2 (by omega) (by omega)
theorem dd_e {n d : Nat} (hn : n < 2 ^ 64) (hd : d < 2 ^ 64) (h0 : 0 < d) (a2 : Int32) : q_Ref_divided (lN n) (lN d) a2 = if a2 = 0 then lN (n / d) else lN (n % d) := by
  unfold q_Ref_divided
  exact dd_ hn hd h0 a2 64 (Nat.le_refl _) 0 0 (by rw [Nat.div_eq_of_lt hn]; omega) h0
theorem uq_e {n d : Nat} (hn : n < 2 ^ 64) (hd : d < 2 ^ 64) (h0 : 0 < d) : q_Wholes_unsignedQuotient (lN n) (lN d) = lN (n / d) := by
  unfold q_Wholes_unsignedQuotient
  have hc : ∀ {a b : Nat}, a < 2 ^ 64 → b < 2 ^ 64 → ((0 : Int32) ≤ q_Long_compareUnsigned (lN a) (lN b) ↔ ¬ a < b) := fun {a b} ha hb => by
    rw [cu_e ha hb]
    rcases Nat.lt_trichotomy a b with c | c | c
    · rw [if_pos c]; exact ⟨fun q => absurd q (by decide), fun q => absurd c q⟩
    · rw [if_neg (by omega), if_pos c]; exact ⟨fun _ => by omega, fun _ => by decide⟩
    · rw [if_neg (by omega), if_neg (by omega)]; exact ⟨fun _ => by omega, fun _ => by decide⟩
  by_cases c : d < 2 ^ 63
  · rw [if_pos ((lN_nn hd).mpr c)]
    have e1 : ush_ (lN n) (1 : Int32) = lN (n / 2) := ush_lN (k := 1) hn (by decide)
    have e2 : lN (n / 2) / lN d = lN (n / 2 / d) := (Int64.ofNat_div (by omega) c).symm
    have e3 : shl_ (lN (n / 2 / d)) (1 : Int32) = lN (2 * (n / 2 / d)) := by
      rw [show (1 : Int32) = nI 1 from rfl, shl_lN _ (by decide)]; congr 1; omega
    have hdm := Nat.div_add_mod (n / 2) d
    have hlt := Nat.mod_lt (n / 2) h0
    have em : 2 * (n / 2 / d) * d = 2 * (d * (n / 2 / d)) := by rw [Nat.mul_assoc, Nat.mul_comm d]
    rw [e1, e2, e3, lN_mul, em, lN_sub (by omega)]
    have hx : n = d * (2 * (n / 2 / d)) + (n - 2 * (d * (n / 2 / d))) := by
      rw [← Nat.mul_assoc, Nat.mul_comm d 2, Nat.mul_assoc]; omega
    have hq : n / d = 2 * (n / 2 / d) + (n - 2 * (d * (n / 2 / d))) / d := by
      conv => lhs; rw [hx]
      rw [Nat.mul_add_div h0]
    rw [hq]
    generalize 2 * (n / 2 / d) = Q at *
    have hR : n - 2 * (d * (n / 2 / d)) < 2 * d := by omega
    have hRn : n - 2 * (d * (n / 2 / d)) < 2 ^ 64 := by omega
    revert hR hRn
    generalize n - 2 * (d * (n / 2 / d)) = R
    intro hR hRn
    by_cases c2 : R < d
    · rw [if_neg (fun z => ((hc hRn hd).mp z) c2), Nat.div_eq_of_lt c2, Nat.add_zero]
    · rw [if_pos ((hc hRn hd).mpr c2), show R / d = 1 by rw [Nat.div_eq_iff h0]; omega]
      exact lN_1 _
  · rw [if_neg (fun z => c ((lN_nn hd).mp z))]
    by_cases c2 : n < d
    · rw [if_neg (fun z => ((hc hn hd).mp z) c2), Nat.div_eq_of_lt c2]; rfl
    · rw [if_pos ((hc hn hd).mpr c2), show n / d = 1 by rw [Nat.div_eq_iff h0]; omega]; rfl
theorem sy_cs {W A : Nat} (hW : wd_ W) (hA : A < 2 ^ W) : (∃ a : Nat, a < 2 ^ (W - 1) ∧ a < 2 ^ 63 ∧ sy_ W A = (a : Int)) ∨ (∃ a : Nat, 1 ≤ a ∧ a ≤ 2 ^ (W - 1) ∧ a ≤ 2 ^ 63 ∧ sy_ W A = -(a : Int)) := by
  unfold sy_
  split
  · exact Or.inl ⟨A, by assumption, by rcases hW with rfl | rfl <;> omega, rfl⟩
  · exact Or.inr ⟨2 ^ W - A, by omega, by rcases hW with rfl | rfl <;> omega, by rcases hW with rfl | rfl <;> omega, by rcases hW with rfl | rfl <;> omega⟩
theorem ab_p {a : Nat} (h : a < 2 ^ 63) : (0 : Int64) ≤ zL (a : Int) := by
  rw [show (0 : Int64) = zL 0 from rfl, zL_le ⟨by omega, by omega⟩ ⟨by omega, by omega⟩]; omega
theorem ab_n {a : Nat} (h1 : 1 ≤ a) (h : a ≤ 2 ^ 63) : ¬ (0 : Int64) ≤ zL (-(a : Int)) := by
  rw [show (0 : Int64) = zL 0 from rfl, zL_le ⟨by omega, by omega⟩ ⟨by omega, by omega⟩]; omega
theorem zL_ng (a : Nat) : -zL (-(a : Int)) = lN a := by rw [zL_neg, Int.neg_neg, zL_n]
theorem lN_ng (a : Nat) : -lN a = zL (-(a : Int)) := by rw [← zL_n, zL_neg]
theorem zL_dv {x y : Int} (hx : -2 ^ 63 ≤ x ∧ x < 2 ^ 63) (hy : -2 ^ 63 ≤ y ∧ y < 2 ^ 63) : zL x / zL y = zL (x.tdiv y) :=
  (Int64.ofInt_tdiv (a := x) (b := y) (by rw [show Int64.minValue.toInt = -2 ^ 63 by decide]; omega) (by rw [show Int64.maxValue.toInt = 2 ^ 63 - 1 by decide]; omega) (by rw [show Int64.minValue.toInt = -2 ^ 63 by decide]; omega) (by rw [show Int64.maxValue.toInt = 2 ^ 63 - 1 by decide]; omega)).symm
theorem dq_0 {W A : Nat} {k : Int32} (cd : Int32) (m : Int64) : q_Ref_byDivision_cd cd k (nI W) m 0 = 2 := by unfold q_Ref_byDivision_cd; rw [if_pos rfl]
theorem dq_7 {W A D : Nat} (hA : A < 2 ^ 64) (hD : D < 2 ^ 64) (h0 : 0 < D) : q_Ref_byDivision_cd 0 7 (nI W) (lN A) (lN D) = 0 ∧ q_Ref_byDivision 0 7 (nI W) (lN A) (lN D) = q_Wholes_unsignedQuotient (lN A) (lN D) := by
  have hne : ¬ lN D = 0 := fun z => by have := (lN_z64 hD).mp z; omega
  constructor
  · unfold q_Ref_byDivision_cd
    rw [if_neg hne]
    simp (decide := true) only [↓reduceIte]
  · unfold q_Ref_byDivision
    rw [if_neg hne, uq_e hA hD h0]
    simp (decide := true) only [↓reduceIte]
    rw [dd_e hA hD h0, if_pos rfl]
theorem dq_9 {W A D : Nat} (hA : A < 2 ^ 64) (hD : D < 2 ^ 64) (h0 : 0 < D) : q_Ref_byDivision_cd 0 9 (nI W) (lN A) (lN D) = 0 ∧ q_Ref_byDivision 0 9 (nI W) (lN A) (lN D) = lN A - q_Wholes_unsignedQuotient (lN A) (lN D) * lN D := by
  have hne : ¬ lN D = 0 := fun z => by have := (lN_z64 hD).mp z; omega
  constructor
  · unfold q_Ref_byDivision_cd
    rw [if_neg hne]
    simp (decide := true) only [↓reduceIte]
  · unfold q_Ref_byDivision
    rw [if_neg hne, uq_e hA hD h0, lN_mul, lN_sub (Nat.div_mul_le_self A D)]
    simp (decide := true) only [↓reduceIte]
    rw [dd_e hA hD h0, if_neg (by decide)]
    congr 1
    have := Nat.div_add_mod A D
    rw [Nat.mul_comm (A / D) D]
    omega
theorem dv_le1 {a b M : Nat} (h : a < M) : ¬ a / b = M := fun q => by
  have := Nat.div_le_self a b
  omega
theorem dq_8 {W A D : Nat} (hW : wd_ W) (hA : A < 2 ^ W) (hD : D < 2 ^ W) (h0 : 0 < D) : q_Ref_byDivision_cd 0 8 (nI W) (lN A) (lN D) = 0 ∧ q_Ref_byDivision 0 8 (nI W) (lN A) (lN D) = zL (sy_ W A) - zL (sy_ W A) / zL (sy_ W D) * zL (sy_ W D) := by
  have hne : ¬ lN D = 0 := fun z => by have := (lN_z64 (W_64 hW hD)).mp z; omega
  have hy0 : sy_ W D ≠ 0 := fun z => by
    have e := (sy_lt hW hD (show 0 < 2 ^ W from Nat.two_pow_pos W)).mp (by rw [z]; unfold sy_; rw [if_pos (Nat.two_pow_pos _)]; rfl)
    omega
  constructor
  · unfold q_Ref_byDivision_cd
    rw [if_neg hne]
    simp (decide := true) only [↓reduceIte]
  · rw [zL_dv (sy_r hW hA) (sy_r hW hD), zL_mul, zL_sub, Int.mul_comm, ← Int.tmod_def]
    unfold q_Ref_byDivision
    rw [if_neg hne, ws_W hW hA, ws_W hW hD]
    rcases sy_cs hW hA with ⟨a, -, ha, ea⟩ | ⟨a, ha1, -, ha, ea⟩ <;> rcases sy_cs hW hD with ⟨b, -, hb, eb⟩ | ⟨b, hb1, -, hb, eb⟩ <;> rw [ea, eb] <;> rw [eb] at hy0
    · simp (decide := true) only [ab_p ha, ab_p hb, ↓reduceIte]
      rw [zL_n, zL_n, dd_e (by omega) (by omega) (by omega), if_neg (by decide), ← Int.ofNat_tmod, zL_n]
    · simp (decide := true) only [ab_p ha, ab_n hb1 hb, ↓reduceIte]
      rw [zL_n, zL_ng, dd_e (by omega) (by omega) (by omega), if_neg (by decide), Int.tmod_neg, ← Int.ofNat_tmod, zL_n]
    · simp (decide := true) only [ab_n ha1 ha, ab_p hb, ↓reduceIte]
      rw [zL_n, zL_ng, dd_e (by omega) (by omega) (by omega), if_neg (by decide), Int.neg_tmod, ← Int.ofNat_tmod, lN_ng]
    · simp (decide := true) only [ab_n ha1 ha, ab_n hb1 hb, ↓reduceIte]
      rw [zL_ng, zL_ng, dd_e (by omega) (by omega) (by omega), if_neg (by decide), Int.neg_tmod, Int.tmod_neg, ← Int.ofNat_tmod, lN_ng]
theorem dq_s1 {W : Nat} (hW : wd_ W) : shl_ (1 : Int64) (nI W - 1) = lN (2 ^ (W - 1)) ∧ shl_ (-1 : Int64) (nI W - 1) = zL (-((2 ^ (W - 1) : Nat) : Int)) := by
  rcases hW with rfl | rfl <;> decide
theorem dq_6 {W A D : Nat} (hW : wd_ W) (hA : A < 2 ^ W) (hD : D < 2 ^ W) (h0 : 0 < D) : (zL (sy_ W D) = -1 ∧ zL (sy_ W A) = shl_ (-1 : Int64) (nI W - 1) → q_Ref_byDivision_cd 0 6 (nI W) (lN A) (lN D) = 3) ∧ (¬ (zL (sy_ W D) = -1 ∧ zL (sy_ W A) = shl_ (-1 : Int64) (nI W - 1)) → q_Ref_byDivision_cd 0 6 (nI W) (lN A) (lN D) = 0 ∧ q_Ref_byDivision 0 6 (nI W) (lN A) (lN D) = zL (sy_ W A) / zL (sy_ W D)) := by
  have hne : ¬ lN D = 0 := fun z => by have := (lN_z64 (W_64 hW hD)).mp z; omega
  have hp63 : 2 ^ (W - 1) ≤ 2 ^ 63 := by rcases hW with rfl | rfl <;> decide
  have hp := Nat.two_pow_pos (W - 1)
  have hy0 : sy_ W D ≠ 0 := fun z => by
    have e := (sy_lt hW hD (show 0 < 2 ^ W from Nat.two_pow_pos W)).mp (by rw [z]; unfold sy_; rw [if_pos (Nat.two_pow_pos _)]; rfl)
    omega
  obtain ⟨s1, s2⟩ := dq_s1 hW
  have c1 : zL (sy_ W D) = -1 ↔ sy_ W D = -1 := by
    rw [show (-1 : Int64) = zL (-1) by decide]; exact zL_eq (sy_r hW hD) ⟨by omega, by omega⟩
  have c2 : zL (sy_ W A) = shl_ (-1 : Int64) (nI W - 1) ↔ sy_ W A = -((2 ^ (W - 1) : Nat) : Int) := by
    rw [s2]; exact zL_eq (sy_r hW hA) ⟨by omega, by omega⟩
  rw [c1, c2, zL_dv (sy_r hW hA) (sy_r hW hD)]
  unfold q_Ref_byDivision q_Ref_byDivision_cd
  rw [if_neg hne, if_neg hne, ws_W hW hA, ws_W hW hD, s1]
  clear c1 c2 s1 s2 hne
  rcases sy_cs hW hA with ⟨a, ha2, ha, ea⟩ | ⟨a, ha1, ha2, ha, ea⟩ <;> rcases sy_cs hW hD with ⟨b, hb2, hb, eb⟩ | ⟨b, hb1, hb2, hb, eb⟩ <;> rw [ea, eb] <;> rw [eb] at hy0
  · refine ⟨fun q => by omega, fun _ => ?_⟩
    simp (decide := true) only [ab_p ha, ab_p hb, ↓reduceIte]
    have hdv : ¬ lN (a / b) = lN (2 ^ (W - 1)) := fun z => dv_le1 ha2 ((lN_inj64 (Nat.lt_of_le_of_lt (Nat.div_le_self _ _) (by omega)) (by omega)).mp z)
    rw [zL_n, zL_n, dd_e (by omega) (by omega) (by omega), if_pos rfl, if_neg hdv, if_neg hdv, ← Int.ofNat_tdiv, zL_n]
    exact ⟨rfl, rfl⟩
  · refine ⟨fun q => by omega, fun _ => ?_⟩
    simp (decide := true) only [ab_p ha, ab_n hb1 hb, ↓reduceIte]
    rw [zL_n, zL_ng, dd_e (by omega) (by omega) (by omega), if_pos rfl, Int.tdiv_neg, ← Int.ofNat_tdiv, lN_ng]
    exact ⟨trivial, rfl⟩
  · refine ⟨fun q => by omega, fun _ => ?_⟩
    simp (decide := true) only [ab_n ha1 ha, ab_p hb, ↓reduceIte]
    rw [zL_n, zL_ng, dd_e (by omega) (by omega) (by omega), if_pos rfl, Int.neg_tdiv, ← Int.ofNat_tdiv, lN_ng]
    exact ⟨trivial, rfl⟩
  · simp (decide := true) only [ab_n ha1 ha, ab_n hb1 hb, ↓reduceIte]
    rw [zL_ng, zL_ng, dd_e (by omega) (by omega) (by omega), if_pos rfl, Int.neg_tdiv_neg, ← Int.ofNat_tdiv, zL_n]
    have hdv : lN (a / b) = lN (2 ^ (W - 1)) ↔ a / b = 2 ^ (W - 1) := lN_inj64 (Nat.lt_of_le_of_lt (Nat.div_le_self _ _) (by omega)) (by omega)
    constructor
    · intro q
      have hb : b = 1 := by omega
      have haa : a = 2 ^ (W - 1) := by omega
      rw [if_pos (hdv.mpr (by rw [hb, haa, Nat.div_one]))]
    · intro q
      have hnd : ¬ a / b = 2 ^ (W - 1) := fun z => by
        apply q
        rcases Nat.lt_or_ge b 2 with h | h
        · have hb : b = 1 := by omega
          rw [hb, Nat.div_one] at z
          omega
        · have h3 : a / b ≤ a / 2 := Nat.div_le_div_left h (by decide)
          omega
      rw [if_neg (fun z => hnd (hdv.mp z)), if_neg (fun z => hnd (hdv.mp z))]
      exact ⟨rfl, rfl⟩
