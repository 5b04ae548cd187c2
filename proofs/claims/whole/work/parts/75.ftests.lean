/-! the tests of floats; the lesser and the greater -/
theorem aw_e {i W F B n : Nat} (h : ff_ i W F B) (hn : n < 2 ^ W) : q_Floats_asWhole i (lN n) = if q_Ref_isMinus (nI W) (lN n) = 0 then q_Ref_size (nI W) (lN n) else -(q_Ref_size (nI W) (lN n)) := by
  unfold q_Floats_asWhole
  have e := rs_ms h hn
  rw [rs_size h hn]
  by_cases c : q_Form_sign i (lN n) = 0
  · rw [if_pos c, if_pos (e.mpr c), cs_wo h hn]
    have hi := ff_inf h
    rw [cs_si h hn] at c
    rcases ff_sg h hn with z | z
    · have hlt : n < 2 ^ (W - 1) := by
        have := Nat.div_add_mod n (2 ^ (W - 1))
        have h2 := Nat.mod_lt n (Nat.two_pow_pos (W - 1))
        rw [z, Nat.mul_zero] at this
        omega
      rw [Nat.mod_eq_of_lt hlt]
    · exfalso
      rw [z, Nat.one_mul, lN_z64 (by omega)] at c
      have := Nat.two_pow_pos (W - 1)
      omega
  · rw [if_neg c, if_neg (fun q => c (e.mp q))]
theorem le_e {i W F B n k : Nat} (h : ff_ i W F B) (hn : n < 2 ^ W) (hk : k < 2 ^ W) (a1 : Int32) : q_Ref_less (nI W) (lN n) a1 (lN k) = if q_Floats_asWhole i (lN n) < q_Floats_asWhole i (lN k) then 1 else if a1 = 0 then 0 else if q_Floats_asWhole i (lN n) = q_Floats_asWhole i (lN k) then 1 else 0 := by
  unfold q_Ref_less
  rw [aw_e h hn, aw_e h hk]
  by_cases c1 : q_Ref_isMinus (nI W) (lN n) = 0 <;> by_cases c2 : q_Ref_isMinus (nI W) (lN k) = 0 <;> simp only [c1, c2, ↓reduceIte]
theorem tri_ (X Y : Int64) : (X < Y ∧ ¬ Y < X ∧ ¬ X = Y ∧ ¬ Y = X ∧ X ≤ Y ∧ ¬ Y ≤ X) ∨ (X = Y) ∨ (Y < X ∧ ¬ X < Y ∧ ¬ X = Y ∧ ¬ Y = X ∧ Y ≤ X ∧ ¬ X ≤ Y) := by
  rw [Int64.lt_iff_toInt_lt, Int64.lt_iff_toInt_lt, Int64.le_iff_toInt_le, Int64.le_iff_toInt_le, ← Int64.toInt_inj, ← Int64.toInt_inj]
  omega
theorem i64_irr (X : Int64) : ¬ X < X ∧ X ≤ X := by
  rw [Int64.lt_iff_toInt_lt, Int64.le_iff_toInt_le]
  omega
theorem ft_0 {i W F B n k : Nat} (h : ff_ i W F B) (hn : n < 2 ^ W) (hk : k < 2 ^ W) : q_Floats_test 91 i (lN n) (lN k) = q_Ref_compared (nI W) (nI F) (nI B) 0 (lN n) (lN k) := by
  unfold q_Floats_test q_Ref_compared
  rw [rs_nn h hn, rs_nn h hk]
  by_cases c1 : q_Form_isNoNumber i (lN n) = 0
  · by_cases c2 : q_Form_isNoNumber i (lN k) = 0
    · rw [if_pos c1, if_pos c1, if_pos c2, if_pos c2, le_e h hn hk, le_e h hk hn, le_e h hn hk, le_e h hk hn]
      generalize q_Floats_asWhole i (lN n) = X
      generalize q_Floats_asWhole i (lN k) = Y
      rcases tri_ X Y with ⟨t1, t2, t3, t4, t5, t6⟩ | t | ⟨t1, t2, t3, t4, t5, t6⟩
      · simp (decide := true) only [t1, t2, t3, t4, t5, t6, ↓reduceIte]
      · subst t
        obtain ⟨t1, t2⟩ := i64_irr X
        simp (decide := true) only [t1, t2, ↓reduceIte]
      · simp (decide := true) only [t1, t2, t3, t4, t5, t6, ↓reduceIte]
    · rw [if_pos c1, if_pos c1, if_neg c2, if_neg c2]
      simp (decide := true) only [↓reduceIte]
  · rw [if_neg c1, if_neg c1]
    simp (decide := true) only [↓reduceIte]
theorem ft_1 {i W F B n k : Nat} (h : ff_ i W F B) (hn : n < 2 ^ W) (hk : k < 2 ^ W) : q_Floats_test 92 i (lN n) (lN k) = q_Ref_compared (nI W) (nI F) (nI B) 1 (lN n) (lN k) := by
  unfold q_Floats_test q_Ref_compared
  rw [rs_nn h hn, rs_nn h hk]
  by_cases c1 : q_Form_isNoNumber i (lN n) = 0
  · by_cases c2 : q_Form_isNoNumber i (lN k) = 0
    · rw [if_pos c1, if_pos c1, if_pos c2, if_pos c2, le_e h hn hk, le_e h hk hn, le_e h hn hk, le_e h hk hn]
      generalize q_Floats_asWhole i (lN n) = X
      generalize q_Floats_asWhole i (lN k) = Y
      rcases tri_ X Y with ⟨t1, t2, t3, t4, t5, t6⟩ | t | ⟨t1, t2, t3, t4, t5, t6⟩
      · simp (decide := true) only [t1, t2, t3, t4, t5, t6, ↓reduceIte]
      · subst t
        obtain ⟨t1, t2⟩ := i64_irr X
        simp (decide := true) only [t1, t2, ↓reduceIte]
      · simp (decide := true) only [t1, t2, t3, t4, t5, t6, ↓reduceIte]
    · rw [if_pos c1, if_pos c1, if_neg c2, if_neg c2]
      simp (decide := true) only [↓reduceIte]
  · rw [if_neg c1, if_neg c1]
    simp (decide := true) only [↓reduceIte]
theorem ft_2 {i W F B n k : Nat} (h : ff_ i W F B) (hn : n < 2 ^ W) (hk : k < 2 ^ W) : q_Floats_test 93 i (lN n) (lN k) = q_Ref_compared (nI W) (nI F) (nI B) 2 (lN n) (lN k) := by
  unfold q_Floats_test q_Ref_compared
  rw [rs_nn h hn, rs_nn h hk]
  by_cases c1 : q_Form_isNoNumber i (lN n) = 0
  · by_cases c2 : q_Form_isNoNumber i (lN k) = 0
    · rw [if_pos c1, if_pos c1, if_pos c2, if_pos c2, le_e h hn hk, le_e h hk hn, le_e h hn hk, le_e h hk hn]
      generalize q_Floats_asWhole i (lN n) = X
      generalize q_Floats_asWhole i (lN k) = Y
      rcases tri_ X Y with ⟨t1, t2, t3, t4, t5, t6⟩ | t | ⟨t1, t2, t3, t4, t5, t6⟩
      · simp (decide := true) only [t1, t2, t3, t4, t5, t6, ↓reduceIte]
      · subst t
        obtain ⟨t1, t2⟩ := i64_irr X
        simp (decide := true) only [t1, t2, ↓reduceIte]
      · simp (decide := true) only [t1, t2, t3, t4, t5, t6, ↓reduceIte]
    · rw [if_pos c1, if_pos c1, if_neg c2, if_neg c2]
      simp (decide := true) only [↓reduceIte]
  · rw [if_neg c1, if_neg c1]
    simp (decide := true) only [↓reduceIte]
theorem ft_3 {i W F B n k : Nat} (h : ff_ i W F B) (hn : n < 2 ^ W) (hk : k < 2 ^ W) : q_Floats_test 94 i (lN n) (lN k) = q_Ref_compared (nI W) (nI F) (nI B) 3 (lN n) (lN k) := by
  unfold q_Floats_test q_Ref_compared
  rw [rs_nn h hn, rs_nn h hk]
  by_cases c1 : q_Form_isNoNumber i (lN n) = 0
  · by_cases c2 : q_Form_isNoNumber i (lN k) = 0
    · rw [if_pos c1, if_pos c1, if_pos c2, if_pos c2, le_e h hn hk, le_e h hk hn, le_e h hn hk, le_e h hk hn]
      generalize q_Floats_asWhole i (lN n) = X
      generalize q_Floats_asWhole i (lN k) = Y
      rcases tri_ X Y with ⟨t1, t2, t3, t4, t5, t6⟩ | t | ⟨t1, t2, t3, t4, t5, t6⟩
      · simp (decide := true) only [t1, t2, t3, t4, t5, t6, ↓reduceIte]
      · subst t
        obtain ⟨t1, t2⟩ := i64_irr X
        simp (decide := true) only [t1, t2, ↓reduceIte]
      · simp (decide := true) only [t1, t2, t3, t4, t5, t6, ↓reduceIte]
    · rw [if_pos c1, if_pos c1, if_neg c2, if_neg c2]
      simp (decide := true) only [↓reduceIte]
  · rw [if_neg c1, if_neg c1]
    simp (decide := true) only [↓reduceIte]
theorem ft_4 {i W F B n k : Nat} (h : ff_ i W F B) (hn : n < 2 ^ W) (hk : k < 2 ^ W) : q_Floats_test 95 i (lN n) (lN k) = q_Ref_compared (nI W) (nI F) (nI B) 4 (lN n) (lN k) := by
  unfold q_Floats_test q_Ref_compared
  rw [rs_nn h hn, rs_nn h hk]
  by_cases c1 : q_Form_isNoNumber i (lN n) = 0
  · by_cases c2 : q_Form_isNoNumber i (lN k) = 0
    · rw [if_pos c1, if_pos c1, if_pos c2, if_pos c2, le_e h hn hk, le_e h hk hn, le_e h hn hk, le_e h hk hn]
      generalize q_Floats_asWhole i (lN n) = X
      generalize q_Floats_asWhole i (lN k) = Y
      rcases tri_ X Y with ⟨t1, t2, t3, t4, t5, t6⟩ | t | ⟨t1, t2, t3, t4, t5, t6⟩
      · simp (decide := true) only [t1, t2, t3, t4, t5, t6, ↓reduceIte]
      · subst t
        obtain ⟨t1, t2⟩ := i64_irr X
        simp (decide := true) only [t1, t2, ↓reduceIte]
      · simp (decide := true) only [t1, t2, t3, t4, t5, t6, ↓reduceIte]
    · rw [if_pos c1, if_pos c1, if_neg c2, if_neg c2]
      simp (decide := true) only [↓reduceIte]
  · rw [if_neg c1, if_neg c1]
    simp (decide := true) only [↓reduceIte]
theorem ft_5 {i W F B n k : Nat} (h : ff_ i W F B) (hn : n < 2 ^ W) (hk : k < 2 ^ W) : q_Floats_test 96 i (lN n) (lN k) = q_Ref_compared (nI W) (nI F) (nI B) 5 (lN n) (lN k) := by
  unfold q_Floats_test q_Ref_compared
  rw [rs_nn h hn, rs_nn h hk]
  by_cases c1 : q_Form_isNoNumber i (lN n) = 0
  · by_cases c2 : q_Form_isNoNumber i (lN k) = 0
    · rw [if_pos c1, if_pos c1, if_pos c2, if_pos c2, le_e h hn hk, le_e h hk hn, le_e h hn hk, le_e h hk hn]
      generalize q_Floats_asWhole i (lN n) = X
      generalize q_Floats_asWhole i (lN k) = Y
      rcases tri_ X Y with ⟨t1, t2, t3, t4, t5, t6⟩ | t | ⟨t1, t2, t3, t4, t5, t6⟩
      · simp (decide := true) only [t1, t2, t3, t4, t5, t6, ↓reduceIte]
      · subst t
        obtain ⟨t1, t2⟩ := i64_irr X
        simp (decide := true) only [t1, t2, ↓reduceIte]
      · simp (decide := true) only [t1, t2, t3, t4, t5, t6, ↓reduceIte]
    · rw [if_pos c1, if_pos c1, if_neg c2, if_neg c2]
      simp (decide := true) only [↓reduceIte]
  · rw [if_neg c1, if_neg c1]
    simp (decide := true) only [↓reduceIte]
theorem ok_f {a0 : Int32} {W : Nat} (V R : Int64 → Int64 → Int64) (han : ∀ a1 a2, q_Operations_answer a0 a1 a2 = (0, V (q_Bits_lowest (nI W) a1) (q_Bits_lowest (nI W) a2))) (hW : wd_ W) (hrc : ∀ m1 m2, q_Ref_answer_cd 0 a0 m1 m2 = 0) (hra : ∀ m1 m2, q_Ref_answer 0 a0 m1 m2 = R m1 m2) (hk : ∀ a, mk1_ (q_Ref_first a0) a = lN (un_ a % 2 ^ W)) (hv : ∀ n k : Nat, n < 2 ^ W → k < 2 ^ W → V (lN n) (lN k) = mk1_ (q_Ref_result a0) (R (lN n) (lN k))) : OK_ a0 := by
  refine ok_pure (fun a1 a2 => V (q_Bits_lowest (nI W) a1) (q_Bits_lowest (nI W) a2)) R han hrc hra (fun a1 a2 => ?_)
  rw [hk, hk, low_W hW, low_W hW]
  exact hv _ _ (Nat.mod_lt _ (Nat.two_pow_pos W)) (Nat.mod_lt _ (Nat.two_pow_pos W))
theorem rc_91 (m1 m2 : Int64) : q_Ref_answer_cd 0 91 m1 m2 = 0 := by unfold q_Ref_answer_cd; simp (decide := true) only [↓reduceIte]
theorem ra_91 (m1 m2 : Int64) : q_Ref_answer 0 91 m1 m2 = if q_Ref_compared 32 23 127 0 m1 m2 = 0 then 0 else 1 := by unfold q_Ref_answer q_Ref_format_wi q_Ref_format_fr q_Ref_format_bi; simp (decide := true) only [↓reduceIte, Int32.reduceSub]
theorem ok_91 : OK_ 91 := ok_f (W := 32) (fun x y => if q_Floats_test 91 0 x y = 0 then 0 else 1) (fun x y => if q_Ref_compared 32 23 127 0 x y = 0 then 0 else 1) (an_ft32 (p := 91) (by decide +kernel) (by decide +kernel) (by decide +kernel) (by decide +kernel) (by decide +kernel) (by decide +kernel) (by decide +kernel) (by decide +kernel)) (Or.inl rfl : wd_ 32) rc_91 ra_91 (mk_even (k := q_Ref_first 91) (by decide +kernel)) (fun n k hn hk => (congrArg (fun t : Int32 => if t = 0 then (0 : Int64) else 1) (ft_0 ff_0 hn hk)).trans mk_ite.symm)
theorem rc_92 (m1 m2 : Int64) : q_Ref_answer_cd 0 92 m1 m2 = 0 := by unfold q_Ref_answer_cd; simp (decide := true) only [↓reduceIte]
theorem ra_92 (m1 m2 : Int64) : q_Ref_answer 0 92 m1 m2 = if q_Ref_compared 32 23 127 1 m1 m2 = 0 then 0 else 1 := by unfold q_Ref_answer q_Ref_format_wi q_Ref_format_fr q_Ref_format_bi; simp (decide := true) only [↓reduceIte, Int32.reduceSub]
theorem ok_92 : OK_ 92 := ok_f (W := 32) (fun x y => if q_Floats_test 92 0 x y = 0 then 0 else 1) (fun x y => if q_Ref_compared 32 23 127 1 x y = 0 then 0 else 1) (an_ft32 (p := 92) (by decide +kernel) (by decide +kernel) (by decide +kernel) (by decide +kernel) (by decide +kernel) (by decide +kernel) (by decide +kernel) (by decide +kernel)) (Or.inl rfl : wd_ 32) rc_92 ra_92 (mk_even (k := q_Ref_first 92) (by decide +kernel)) (fun n k hn hk => (congrArg (fun t : Int32 => if t = 0 then (0 : Int64) else 1) (ft_1 ff_0 hn hk)).trans mk_ite.symm)
theorem rc_93 (m1 m2 : Int64) : q_Ref_answer_cd 0 93 m1 m2 = 0 := by unfold q_Ref_answer_cd; simp (decide := true) only [↓reduceIte]
theorem ra_93 (m1 m2 : Int64) : q_Ref_answer 0 93 m1 m2 = if q_Ref_compared 32 23 127 2 m1 m2 = 0 then 0 else 1 := by unfold q_Ref_answer q_Ref_format_wi q_Ref_format_fr q_Ref_format_bi; simp (decide := true) only [↓reduceIte, Int32.reduceSub]
theorem ok_93 : OK_ 93 := ok_f (W := 32) (fun x y => if q_Floats_test 93 0 x y = 0 then 0 else 1) (fun x y => if q_Ref_compared 32 23 127 2 x y = 0 then 0 else 1) (an_ft32 (p := 93) (by decide +kernel) (by decide +kernel) (by decide +kernel) (by decide +kernel) (by decide +kernel) (by decide +kernel) (by decide +kernel) (by decide +kernel)) (Or.inl rfl : wd_ 32) rc_93 ra_93 (mk_even (k := q_Ref_first 93) (by decide +kernel)) (fun n k hn hk => (congrArg (fun t : Int32 => if t = 0 then (0 : Int64) else 1) (ft_2 ff_0 hn hk)).trans mk_ite.symm)
theorem rc_94 (m1 m2 : Int64) : q_Ref_answer_cd 0 94 m1 m2 = 0 := by unfold q_Ref_answer_cd; simp (decide := true) only [↓reduceIte]
theorem ra_94 (m1 m2 : Int64) : q_Ref_answer 0 94 m1 m2 = if q_Ref_compared 32 23 127 3 m1 m2 = 0 then 0 else 1 := by unfold q_Ref_answer q_Ref_format_wi q_Ref_format_fr q_Ref_format_bi; simp (decide := true) only [↓reduceIte, Int32.reduceSub]
theorem ok_94 : OK_ 94 := ok_f (W := 32) (fun x y => if q_Floats_test 94 0 x y = 0 then 0 else 1) (fun x y => if q_Ref_compared 32 23 127 3 x y = 0 then 0 else 1) (an_ft32 (p := 94) (by decide +kernel) (by decide +kernel) (by decide +kernel) (by decide +kernel) (by decide +kernel) (by decide +kernel) (by decide +kernel) (by decide +kernel)) (Or.inl rfl : wd_ 32) rc_94 ra_94 (mk_even (k := q_Ref_first 94) (by decide +kernel)) (fun n k hn hk => (congrArg (fun t : Int32 => if t = 0 then (0 : Int64) else 1) (ft_3 ff_0 hn hk)).trans mk_ite.symm)
theorem rc_95 (m1 m2 : Int64) : q_Ref_answer_cd 0 95 m1 m2 = 0 := by unfold q_Ref_answer_cd; simp (decide := true) only [↓reduceIte]
theorem ra_95 (m1 m2 : Int64) : q_Ref_answer 0 95 m1 m2 = if q_Ref_compared 32 23 127 4 m1 m2 = 0 then 0 else 1 := by unfold q_Ref_answer q_Ref_format_wi q_Ref_format_fr q_Ref_format_bi; simp (decide := true) only [↓reduceIte, Int32.reduceSub]
theorem ok_95 : OK_ 95 := ok_f (W := 32) (fun x y => if q_Floats_test 95 0 x y = 0 then 0 else 1) (fun x y => if q_Ref_compared 32 23 127 4 x y = 0 then 0 else 1) (an_ft32 (p := 95) (by decide +kernel) (by decide +kernel) (by decide +kernel) (by decide +kernel) (by decide +kernel) (by decide +kernel) (by decide +kernel) (by decide +kernel)) (Or.inl rfl : wd_ 32) rc_95 ra_95 (mk_even (k := q_Ref_first 95) (by decide +kernel)) (fun n k hn hk => (congrArg (fun t : Int32 => if t = 0 then (0 : Int64) else 1) (ft_4 ff_0 hn hk)).trans mk_ite.symm)
theorem rc_96 (m1 m2 : Int64) : q_Ref_answer_cd 0 96 m1 m2 = 0 := by unfold q_Ref_answer_cd; simp (decide := true) only [↓reduceIte]
theorem ra_96 (m1 m2 : Int64) : q_Ref_answer 0 96 m1 m2 = if q_Ref_compared 32 23 127 5 m1 m2 = 0 then 0 else 1 := by unfold q_Ref_answer q_Ref_format_wi q_Ref_format_fr q_Ref_format_bi; simp (decide := true) only [↓reduceIte, Int32.reduceSub]
theorem ok_96 : OK_ 96 := ok_f (W := 32) (fun x y => if q_Floats_test 96 0 x y = 0 then 0 else 1) (fun x y => if q_Ref_compared 32 23 127 5 x y = 0 then 0 else 1) (an_ft32 (p := 96) (by decide +kernel) (by decide +kernel) (by decide +kernel) (by decide +kernel) (by decide +kernel) (by decide +kernel) (by decide +kernel) (by decide +kernel)) (Or.inl rfl : wd_ 32) rc_96 ra_96 (mk_even (k := q_Ref_first 96) (by decide +kernel)) (fun n k hn hk => (congrArg (fun t : Int32 => if t = 0 then (0 : Int64) else 1) (ft_5 ff_0 hn hk)).trans mk_ite.symm)
theorem rc_97 (m1 m2 : Int64) : q_Ref_answer_cd 0 97 m1 m2 = 0 := by unfold q_Ref_answer_cd; simp (decide := true) only [↓reduceIte]
theorem ra_97 (m1 m2 : Int64) : q_Ref_answer 0 97 m1 m2 = if q_Ref_compared 64 52 1023 0 m1 m2 = 0 then 0 else 1 := by unfold q_Ref_answer q_Ref_format_wi q_Ref_format_fr q_Ref_format_bi; simp (decide := true) only [↓reduceIte, Int32.reduceSub]
theorem ok_97 : OK_ 97 := ok_f (W := 64) (fun x y => if q_Floats_test 91 1 x y = 0 then 0 else 1) (fun x y => if q_Ref_compared 64 52 1023 0 x y = 0 then 0 else 1) (an_ft64 (p := 91) (by decide +kernel) (by decide +kernel) (by decide +kernel) (by decide +kernel) (by decide +kernel) (by decide +kernel) (by decide +kernel) (by decide +kernel)) (Or.inr rfl : wd_ 64) rc_97 ra_97 (mk_odd (k := q_Ref_first 97) (by decide +kernel)) (fun n k hn hk => (congrArg (fun t : Int32 => if t = 0 then (0 : Int64) else 1) (ft_0 ff_1 hn hk)).trans mk_ite.symm)
theorem rc_98 (m1 m2 : Int64) : q_Ref_answer_cd 0 98 m1 m2 = 0 := by unfold q_Ref_answer_cd; simp (decide := true) only [↓reduceIte]
theorem ra_98 (m1 m2 : Int64) : q_Ref_answer 0 98 m1 m2 = if q_Ref_compared 64 52 1023 1 m1 m2 = 0 then 0 else 1 := by unfold q_Ref_answer q_Ref_format_wi q_Ref_format_fr q_Ref_format_bi; simp (decide := true) only [↓reduceIte, Int32.reduceSub]
theorem ok_98 : OK_ 98 := ok_f (W := 64) (fun x y => if q_Floats_test 92 1 x y = 0 then 0 else 1) (fun x y => if q_Ref_compared 64 52 1023 1 x y = 0 then 0 else 1) (an_ft64 (p := 92) (by decide +kernel) (by decide +kernel) (by decide +kernel) (by decide +kernel) (by decide +kernel) (by decide +kernel) (by decide +kernel) (by decide +kernel)) (Or.inr rfl : wd_ 64) rc_98 ra_98 (mk_odd (k := q_Ref_first 98) (by decide +kernel)) (fun n k hn hk => (congrArg (fun t : Int32 => if t = 0 then (0 : Int64) else 1) (ft_1 ff_1 hn hk)).trans mk_ite.symm)
theorem rc_99 (m1 m2 : Int64) : q_Ref_answer_cd 0 99 m1 m2 = 0 := by unfold q_Ref_answer_cd; simp (decide := true) only [↓reduceIte]
theorem ra_99 (m1 m2 : Int64) : q_Ref_answer 0 99 m1 m2 = if q_Ref_compared 64 52 1023 2 m1 m2 = 0 then 0 else 1 := by unfold q_Ref_answer q_Ref_format_wi q_Ref_format_fr q_Ref_format_bi; simp (decide := true) only [↓reduceIte, Int32.reduceSub]
theorem ok_99 : OK_ 99 := ok_f (W := 64) (fun x y => if q_Floats_test 93 1 x y = 0 then 0 else 1) (fun x y => if q_Ref_compared 64 52 1023 2 x y = 0 then 0 else 1) (an_ft64 (p := 93) (by decide +kernel) (by decide +kernel) (by decide +kernel) (by decide +kernel) (by decide +kernel) (by decide +kernel) (by decide +kernel) (by decide +kernel)) (Or.inr rfl : wd_ 64) rc_99 ra_99 (mk_odd (k := q_Ref_first 99) (by decide +kernel)) (fun n k hn hk => (congrArg (fun t : Int32 => if t = 0 then (0 : Int64) else 1) (ft_2 ff_1 hn hk)).trans mk_ite.symm)
theorem rc_100 (m1 m2 : Int64) : q_Ref_answer_cd 0 100 m1 m2 = 0 := by unfold q_Ref_answer_cd; simp (decide := true) only [↓reduceIte]
theorem ra_100 (m1 m2 : Int64) : q_Ref_answer 0 100 m1 m2 = if q_Ref_compared 64 52 1023 3 m1 m2 = 0 then 0 else 1 := by unfold q_Ref_answer q_Ref_format_wi q_Ref_format_fr q_Ref_format_bi; simp (decide := true) only [↓reduceIte, Int32.reduceSub]
theorem ok_100 : OK_ 100 := ok_f (W := 64) (fun x y => if q_Floats_test 94 1 x y = 0 then 0 else 1) (fun x y => if q_Ref_compared 64 52 1023 3 x y = 0 then 0 else 1) (an_ft64 (p := 94) (by decide +kernel) (by decide +kernel) (by decide +kernel) (by decide +kernel) (by decide +kernel) (by decide +kernel) (by decide +kernel) (by decide +kernel)) (Or.inr rfl : wd_ 64) rc_100 ra_100 (mk_odd (k := q_Ref_first 100) (by decide +kernel)) (fun n k hn hk => (congrArg (fun t : Int32 => if t = 0 then (0 : Int64) else 1) (ft_3 ff_1 hn hk)).trans mk_ite.symm)
theorem rc_101 (m1 m2 : Int64) : q_Ref_answer_cd 0 101 m1 m2 = 0 := by unfold q_Ref_answer_cd; simp (decide := true) only [↓reduceIte]
theorem ra_101 (m1 m2 : Int64) : q_Ref_answer 0 101 m1 m2 = if q_Ref_compared 64 52 1023 4 m1 m2 = 0 then 0 else 1 := by unfold q_Ref_answer q_Ref_format_wi q_Ref_format_fr q_Ref_format_bi; simp (decide := true) only [↓reduceIte, Int32.reduceSub]
theorem ok_101 : OK_ 101 := ok_f (W := 64) (fun x y => if q_Floats_test 95 1 x y = 0 then 0 else 1) (fun x y => if q_Ref_compared 64 52 1023 4 x y = 0 then 0 else 1) (an_ft64 (p := 95) (by decide +kernel) (by decide +kernel) (by decide +kernel) (by decide +kernel) (by decide +kernel) (by decide +kernel) (by decide +kernel) (by decide +kernel)) (Or.inr rfl : wd_ 64) rc_101 ra_101 (mk_odd (k := q_Ref_first 101) (by decide +kernel)) (fun n k hn hk => (congrArg (fun t : Int32 => if t = 0 then (0 : Int64) else 1) (ft_4 ff_1 hn hk)).trans mk_ite.symm)
theorem rc_102 (m1 m2 : Int64) : q_Ref_answer_cd 0 102 m1 m2 = 0 := by unfold q_Ref_answer_cd; simp (decide := true) only [↓reduceIte]
theorem ra_102 (m1 m2 : Int64) : q_Ref_answer 0 102 m1 m2 = if q_Ref_compared 64 52 1023 5 m1 m2 = 0 then 0 else 1 := by unfold q_Ref_answer q_Ref_format_wi q_Ref_format_fr q_Ref_format_bi; simp (decide := true) only [↓reduceIte, Int32.reduceSub]
theorem ok_102 : OK_ 102 := ok_f (W := 64) (fun x y => if q_Floats_test 96 1 x y = 0 then 0 else 1) (fun x y => if q_Ref_compared 64 52 1023 5 x y = 0 then 0 else 1) (an_ft64 (p := 96) (by decide +kernel) (by decide +kernel) (by decide +kernel) (by decide +kernel) (by decide +kernel) (by decide +kernel) (by decide +kernel) (by decide +kernel)) (Or.inr rfl : wd_ 64) rc_102 ra_102 (mk_odd (k := q_Ref_first 102) (by decide +kernel)) (fun n k hn hk => (congrArg (fun t : Int32 => if t = 0 then (0 : Int64) else 1) (ft_5 ff_1 hn hk)).trans mk_ite.symm)
