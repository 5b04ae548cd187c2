/-! floats: all that is reckoned, 139 .. 166 -/
theorem rR_le' {F B m : Nat} {e : Int} (hB : 1 ≤ B) : rR_ F B m e ≤ (2 * B + 1) * 2 ^ F := by
  rcases Nat.eq_zero_or_pos m with z | z
  · subst z
    unfold rR_
    split
    · exact Nat.le_refl _
    · rename_i c
      have hK : (if dr_ F B 0 e ≤ 0 then 0 * 2 ^ (-dr_ F B 0 e).toNat else rd_ 0 (dr_ F B 0 e).toNat) = 0 := by
        split
        · exact Nat.zero_mul _
        · exact rd_small_ (by have := Nat.two_pow_pos (dr_ F B 0 e).toNat; omega)
      rw [hK, Nat.add_zero]
      exact Nat.mul_le_mul_right _ (by omega)
  · exact rR_le z hB
theorem fit_q {i W F B m : Nat} {e : Int} (h : ff_ i W F B) (c : Int32) : fit_ W (q_Ref_signed (nI W) (lN (rR_ F B m e)) c) :=
  fit_s h (Nat.lt_of_le_of_lt (rR_le' (ff_B1 h)) (ff_inf h).1) c
theorem fit_su {i W F B n k : Nat} (h : ff_ i W F B) (hn : n < 2 ^ W) (hk : k < 2 ^ W) : fit_ W (q_Ref_sum F B (nI W) (nI F) (nI B) (lN n) (lN k)) := by
  unfold q_Ref_sum
  repeat' (first | with_reducible exact fit_q h _ | with_reducible exact fit_0 h _ | with_reducible exact fit_i h _ | with_reducible exact fit_no h | with_reducible exact fit_n (ff_wd h) hn | with_reducible exact fit_n (ff_wd h) hk | split)
theorem fit_pr {i W F B n k : Nat} (h : ff_ i W F B) (hn : n < 2 ^ W) (hk : k < 2 ^ W) : fit_ W (q_Ref_product F B (nI W) (nI F) (nI B) (lN n) (lN k)) := by
  unfold q_Ref_product
  repeat' (first | with_reducible exact fit_q h _ | with_reducible exact fit_0 h _ | with_reducible exact fit_i h _ | with_reducible exact fit_no h | with_reducible exact fit_n (ff_wd h) hn | with_reducible exact fit_n (ff_wd h) hk | split)
theorem fit_qo {i W F B n k : Nat} (h : ff_ i W F B) (hn : n < 2 ^ W) (hk : k < 2 ^ W) : fit_ W (q_Ref_quotient F B (nI W) (nI F) (nI B) (lN n) (lN k)) := by
  unfold q_Ref_quotient
  repeat' (first | with_reducible exact fit_q h _ | with_reducible exact fit_0 h _ | with_reducible exact fit_i h _ | with_reducible exact fit_no h | with_reducible exact fit_n (ff_wd h) hn | with_reducible exact fit_n (ff_wd h) hk | split)
theorem fit_sr {i W F B n : Nat} (h : ff_ i W F B) (hn : n < 2 ^ W) : fit_ W (q_Ref_root F B (nI W) (nI F) (nI B) (lN n)) := by
  unfold q_Ref_root
  repeat' (first | with_reducible exact fit_q h _ | with_reducible exact fit_0 h _ | with_reducible exact fit_i h _ | with_reducible exact fit_no h | with_reducible exact fit_n (ff_wd h) hn | split)
theorem fit_wh {i W F B n : Nat} (h : ff_ i W F B) (hn : n < 2 ^ W) (a0 : Int32) : fit_ W (q_Ref_whole F B (nI W) (nI F) (nI B) a0 (lN n)) := by
  rw [wh_u]
  repeat' (first | with_reducible exact fit_q h _ | with_reducible exact fit_0 h _ | with_reducible exact fit_i h _ | with_reducible exact fit_no h | with_reducible exact fit_n (ff_wd h) hn | split)
theorem fit_le {i W F B n k : Nat} (h : ff_ i W F B) (hn : n < 2 ^ W) (hk : k < 2 ^ W) (a0 : Int32) : fit_ W (q_Ref_lesser (nI W) a0 (lN n) (lN k)) := by
  unfold q_Ref_lesser
  repeat' (first | with_reducible exact fit_q h _ | with_reducible exact fit_0 h _ | with_reducible exact fit_i h _ | with_reducible exact fit_no h | with_reducible exact fit_n (ff_wd h) hn | with_reducible exact fit_n (ff_wd h) hk | split)
theorem ng_e {i W F B n : Nat} (h : ff_ i W F B) (hn : n < 2 ^ W) : lN n ^^^ fm_s i = lN (n ^^^ 2 ^ (W - 1)) ∧ n ^^^ 2 ^ (W - 1) < 2 ^ W := by
  have hi := ff_inf h
  refine ⟨by rw [ff_s h, lN_xor], Nat.xor_lt_two_pow hn ?_⟩
  have := Nat.two_pow_pos (W - 1)
  omega
theorem fc_0 {i W F B n k : Nat} (h : ff_ i W F B) (hn : n < 2 ^ W) (hk : k < 2 ^ W) : q_Floats_calculate 139 i (lN n) (lN k) = q_Ref_floated F B (nI W) (nI F) (nI B) 0 (lN n) (lN k) ∧ fit_ W (q_Ref_floated F B (nI W) (nI F) (nI B) 0 (lN n) (lN k)) := by
  unfold q_Floats_calculate q_Ref_floated
  simp (decide := true) only [↓reduceIte]
  rw [rs_size h hn]
  refine ⟨rfl, ?_⟩
  rw [cs_wo h hn]
  have hi := ff_inf h
  have hy := ff_y h n
  exact fit_n (ff_wd h) (by omega)
theorem fc_1 {i W F B n k : Nat} (h : ff_ i W F B) (hn : n < 2 ^ W) (hk : k < 2 ^ W) : q_Floats_calculate 140 i (lN n) (lN k) = q_Ref_floated F B (nI W) (nI F) (nI B) 1 (lN n) (lN k) ∧ fit_ W (q_Ref_floated F B (nI W) (nI F) (nI B) 1 (lN n) (lN k)) := by
  unfold q_Floats_calculate q_Ref_floated
  simp (decide := true) only [↓reduceIte]
  rw [fs_sh h]
  refine ⟨rfl, ?_⟩
  obtain ⟨e, hl⟩ := ng_e h hn
  rw [e]
  exact fit_n (ff_wd h) hl
theorem fc_13 {i W F B n k : Nat} (h : ff_ i W F B) (hn : n < 2 ^ W) (hk : k < 2 ^ W) : q_Floats_calculate 152 i (lN n) (lN k) = q_Ref_floated F B (nI W) (nI F) (nI B) 13 (lN n) (lN k) ∧ fit_ W (q_Ref_floated F B (nI W) (nI F) (nI B) 13 (lN n) (lN k)) := by
  unfold q_Floats_calculate q_Ref_floated
  simp (decide := true) only [↓reduceIte]
  have e := rs_sm h hk (q_Form_withoutSign i (lN n))
  rw [rs_size h hn]
  refine ⟨?_, ?_⟩
  · rw [e, Int64.or_comm]
  · rw [cs_wo h hn]
    exact fit_s h (ff_y h n) _
theorem fc_2 {i W F B n k : Nat} (h : ff_ i W F B) (hn : n < 2 ^ W) (hk : k < 2 ^ W) : q_Floats_calculate 141 i (lN n) (lN k) = q_Ref_floated F B (nI W) (nI F) (nI B) 2 (lN n) (lN k) ∧ fit_ W (q_Ref_floated F B (nI W) (nI F) (nI B) 2 (lN n) (lN k)) := by
  unfold q_Floats_calculate q_Ref_floated
  simp (decide := true) only [↓reduceIte]
  rw [rs_nn h hn, ff_n h]
  by_cases c : q_Form_isNoNumber i (lN n) = 0
  · rw [if_pos c, if_pos c]
    exact ⟨st_e h hn (Or.inl ⟨rfl, rfl⟩), fit_wh h hn _⟩
  · rw [if_neg c, if_neg c]
    exact ⟨rfl, fit_no h⟩
theorem fc_3 {i W F B n k : Nat} (h : ff_ i W F B) (hn : n < 2 ^ W) (hk : k < 2 ^ W) : q_Floats_calculate 142 i (lN n) (lN k) = q_Ref_floated F B (nI W) (nI F) (nI B) 3 (lN n) (lN k) ∧ fit_ W (q_Ref_floated F B (nI W) (nI F) (nI B) 3 (lN n) (lN k)) := by
  unfold q_Floats_calculate q_Ref_floated
  simp (decide := true) only [↓reduceIte]
  rw [rs_nn h hn, ff_n h]
  by_cases c : q_Form_isNoNumber i (lN n) = 0
  · rw [if_pos c, if_pos c]
    exact ⟨st_e h hn (Or.inr (Or.inl ⟨rfl, rfl⟩)), fit_wh h hn _⟩
  · rw [if_neg c, if_neg c]
    exact ⟨rfl, fit_no h⟩
theorem fc_4 {i W F B n k : Nat} (h : ff_ i W F B) (hn : n < 2 ^ W) (hk : k < 2 ^ W) : q_Floats_calculate 143 i (lN n) (lN k) = q_Ref_floated F B (nI W) (nI F) (nI B) 4 (lN n) (lN k) ∧ fit_ W (q_Ref_floated F B (nI W) (nI F) (nI B) 4 (lN n) (lN k)) := by
  unfold q_Floats_calculate q_Ref_floated
  simp (decide := true) only [↓reduceIte]
  rw [rs_nn h hn, ff_n h]
  by_cases c : q_Form_isNoNumber i (lN n) = 0
  · rw [if_pos c, if_pos c]
    exact ⟨st_e h hn (Or.inr (Or.inr (Or.inl ⟨rfl, rfl⟩))), fit_wh h hn _⟩
  · rw [if_neg c, if_neg c]
    exact ⟨rfl, fit_no h⟩
theorem fc_5 {i W F B n k : Nat} (h : ff_ i W F B) (hn : n < 2 ^ W) (hk : k < 2 ^ W) : q_Floats_calculate 144 i (lN n) (lN k) = q_Ref_floated F B (nI W) (nI F) (nI B) 5 (lN n) (lN k) ∧ fit_ W (q_Ref_floated F B (nI W) (nI F) (nI B) 5 (lN n) (lN k)) := by
  unfold q_Floats_calculate q_Ref_floated
  simp (decide := true) only [↓reduceIte]
  rw [rs_nn h hn, ff_n h]
  by_cases c : q_Form_isNoNumber i (lN n) = 0
  · rw [if_pos c, if_pos c]
    exact ⟨st_e h hn (Or.inr (Or.inr (Or.inr ⟨rfl, rfl⟩))), fit_wh h hn _⟩
  · rw [if_neg c, if_neg c]
    exact ⟨rfl, fit_no h⟩
theorem fc_6 {i W F B n k : Nat} (h : ff_ i W F B) (hn : n < 2 ^ W) (hk : k < 2 ^ W) : q_Floats_calculate 145 i (lN n) (lN k) = q_Ref_floated F B (nI W) (nI F) (nI B) 6 (lN n) (lN k) ∧ fit_ W (q_Ref_floated F B (nI W) (nI F) (nI B) 6 (lN n) (lN k)) := by
  unfold q_Floats_calculate q_Ref_floated
  simp (decide := true) only [↓reduceIte]
  rw [rs_nn h hn, ff_n h]
  by_cases c : q_Form_isNoNumber i (lN n) = 0
  · rw [if_pos c, if_pos c]
    exact ⟨sr_e h hn, fit_sr h hn⟩
  · rw [if_neg c, if_neg c]
    exact ⟨rfl, fit_no h⟩
theorem fc_7 {i W F B n k : Nat} (h : ff_ i W F B) (hn : n < 2 ^ W) (hk : k < 2 ^ W) : q_Floats_calculate 146 i (lN n) (lN k) = q_Ref_floated F B (nI W) (nI F) (nI B) 7 (lN n) (lN k) ∧ fit_ W (q_Ref_floated F B (nI W) (nI F) (nI B) 7 (lN n) (lN k)) := by
  unfold q_Floats_calculate q_Ref_floated
  simp (decide := true) only [↓reduceIte]
  rw [rs_nn h hn, rs_nn h hk, ff_n h]
  by_cases c : q_Form_isNoNumber i (lN n) = 0
  · by_cases c2 : q_Form_isNoNumber i (lN k) = 0
    · simp only [c, c2, ↓reduceIte]
      exact ⟨su_e h hn hk, fit_su h hn hk⟩
    · simp only [c, c2, ↓reduceIte]
      exact ⟨trivial, fit_no h⟩
  · simp only [c, ↓reduceIte]
    exact ⟨trivial, fit_no h⟩
theorem fc_8 {i W F B n k : Nat} (h : ff_ i W F B) (hn : n < 2 ^ W) (hk : k < 2 ^ W) : q_Floats_calculate 147 i (lN n) (lN k) = q_Ref_floated F B (nI W) (nI F) (nI B) 8 (lN n) (lN k) ∧ fit_ W (q_Ref_floated F B (nI W) (nI F) (nI B) 8 (lN n) (lN k)) := by
  unfold q_Floats_calculate q_Ref_floated
  simp (decide := true) only [↓reduceIte]
  rw [rs_nn h hn, rs_nn h hk, ff_n h]
  by_cases c : q_Form_isNoNumber i (lN n) = 0
  · by_cases c2 : q_Form_isNoNumber i (lN k) = 0
    · simp only [c, c2, ↓reduceIte]
      exact ⟨by rw [fs_sh h, (ng_e h hk).1]; exact su_e h hn (ng_e h hk).2, by rw [fs_sh h, (ng_e h hk).1]; exact fit_su h hn (ng_e h hk).2⟩
    · simp only [c, c2, ↓reduceIte]
      exact ⟨trivial, fit_no h⟩
  · simp only [c, ↓reduceIte]
    exact ⟨trivial, fit_no h⟩
theorem fc_9 {i W F B n k : Nat} (h : ff_ i W F B) (hn : n < 2 ^ W) (hk : k < 2 ^ W) : q_Floats_calculate 148 i (lN n) (lN k) = q_Ref_floated F B (nI W) (nI F) (nI B) 9 (lN n) (lN k) ∧ fit_ W (q_Ref_floated F B (nI W) (nI F) (nI B) 9 (lN n) (lN k)) := by
  unfold q_Floats_calculate q_Ref_floated
  simp (decide := true) only [↓reduceIte]
  rw [rs_nn h hn, rs_nn h hk, ff_n h]
  by_cases c : q_Form_isNoNumber i (lN n) = 0
  · by_cases c2 : q_Form_isNoNumber i (lN k) = 0
    · simp only [c, c2, ↓reduceIte]
      exact ⟨pr_e h hn hk, fit_pr h hn hk⟩
    · simp only [c, c2, ↓reduceIte]
      exact ⟨trivial, fit_no h⟩
  · simp only [c, ↓reduceIte]
    exact ⟨trivial, fit_no h⟩
theorem fc_10 {i W F B n k : Nat} (h : ff_ i W F B) (hn : n < 2 ^ W) (hk : k < 2 ^ W) : q_Floats_calculate 149 i (lN n) (lN k) = q_Ref_floated F B (nI W) (nI F) (nI B) 10 (lN n) (lN k) ∧ fit_ W (q_Ref_floated F B (nI W) (nI F) (nI B) 10 (lN n) (lN k)) := by
  unfold q_Floats_calculate q_Ref_floated
  simp (decide := true) only [↓reduceIte]
  rw [rs_nn h hn, rs_nn h hk, ff_n h]
  by_cases c : q_Form_isNoNumber i (lN n) = 0
  · by_cases c2 : q_Form_isNoNumber i (lN k) = 0
    · simp only [c, c2, ↓reduceIte]
      exact ⟨qo_e h hn hk, fit_qo h hn hk⟩
    · simp only [c, c2, ↓reduceIte]
      exact ⟨trivial, fit_no h⟩
  · simp only [c, ↓reduceIte]
    exact ⟨trivial, fit_no h⟩
theorem fc_11 {i W F B n k : Nat} (h : ff_ i W F B) (hn : n < 2 ^ W) (hk : k < 2 ^ W) : q_Floats_calculate 150 i (lN n) (lN k) = q_Ref_floated F B (nI W) (nI F) (nI B) 11 (lN n) (lN k) ∧ fit_ W (q_Ref_floated F B (nI W) (nI F) (nI B) 11 (lN n) (lN k)) := by
  unfold q_Floats_calculate q_Ref_floated
  simp (decide := true) only [↓reduceIte]
  rw [rs_nn h hn, rs_nn h hk, ff_n h]
  by_cases c : q_Form_isNoNumber i (lN n) = 0
  · by_cases c2 : q_Form_isNoNumber i (lN k) = 0
    · simp only [c, c2, ↓reduceIte]
      exact ⟨mm_0 h hn hk, fit_le h hn hk _⟩
    · simp only [c, c2, ↓reduceIte]
      exact ⟨trivial, fit_no h⟩
  · simp only [c, ↓reduceIte]
    exact ⟨trivial, fit_no h⟩
theorem fc_12 {i W F B n k : Nat} (h : ff_ i W F B) (hn : n < 2 ^ W) (hk : k < 2 ^ W) : q_Floats_calculate 151 i (lN n) (lN k) = q_Ref_floated F B (nI W) (nI F) (nI B) 12 (lN n) (lN k) ∧ fit_ W (q_Ref_floated F B (nI W) (nI F) (nI B) 12 (lN n) (lN k)) := by
  unfold q_Floats_calculate q_Ref_floated
  simp (decide := true) only [↓reduceIte]
  rw [rs_nn h hn, rs_nn h hk, ff_n h]
  by_cases c : q_Form_isNoNumber i (lN n) = 0
  · by_cases c2 : q_Form_isNoNumber i (lN k) = 0
    · simp only [c, c2, ↓reduceIte]
      exact ⟨mm_1 h hn hk, fit_le h hn hk _⟩
    · simp only [c, c2, ↓reduceIte]
      exact ⟨trivial, fit_no h⟩
  · simp only [c, ↓reduceIte]
    exact ⟨trivial, fit_no h⟩
theorem rc_139 (m1 m2 : Int64) : q_Ref_answer_cd 0 139 m1 m2 = 0 := by unfold q_Ref_answer_cd; simp (decide := true) only [↓reduceIte]
theorem ra_139 (m1 m2 : Int64) : q_Ref_answer 0 139 m1 m2 = q_Ref_floated 23 127 32 23 127 0 m1 m2 := by unfold q_Ref_answer; simp (decide := true) only [↓reduceIte, Int32.reduceSub, q_Ref_format_wi, q_Ref_format_fr, q_Ref_format_bi, show fF 32 = 23 from rfl, show fF 64 = 52 from rfl, show fB 32 = 127 from rfl, show fB 64 = 1023 from rfl]
theorem ok_139 : OK_ 139 := ok_f (W := 32) (q_Floats_calculate 139 0) (q_Ref_floated 23 127 32 23 127 0) (an_fc32 (p := 139) (by decide +kernel) (by decide +kernel) (by decide +kernel) (by decide +kernel) (by decide +kernel) (by decide +kernel) (by decide +kernel) (by decide +kernel) (by decide +kernel)) (Or.inl rfl : wd_ 32) rc_139 ra_139 (mk_even (k := q_Ref_first 139) (by decide +kernel)) (fun n k hn hk => (fc_0 ff_0 hn hk).1.trans (mk_fit (fun a => (mk_even (k := q_Ref_result 139) (by decide +kernel) a).trans (low_W (Or.inl rfl : wd_ 32) a).symm) (fc_0 ff_0 hn hk).2).symm)
theorem rc_140 (m1 m2 : Int64) : q_Ref_answer_cd 0 140 m1 m2 = 0 := by unfold q_Ref_answer_cd; simp (decide := true) only [↓reduceIte]
theorem ra_140 (m1 m2 : Int64) : q_Ref_answer 0 140 m1 m2 = q_Ref_floated 23 127 32 23 127 1 m1 m2 := by unfold q_Ref_answer; simp (decide := true) only [↓reduceIte, Int32.reduceSub, q_Ref_format_wi, q_Ref_format_fr, q_Ref_format_bi, show fF 32 = 23 from rfl, show fF 64 = 52 from rfl, show fB 32 = 127 from rfl, show fB 64 = 1023 from rfl]
theorem ok_140 : OK_ 140 := ok_f (W := 32) (q_Floats_calculate 140 0) (q_Ref_floated 23 127 32 23 127 1) (an_fc32 (p := 140) (by decide +kernel) (by decide +kernel) (by decide +kernel) (by decide +kernel) (by decide +kernel) (by decide +kernel) (by decide +kernel) (by decide +kernel) (by decide +kernel)) (Or.inl rfl : wd_ 32) rc_140 ra_140 (mk_even (k := q_Ref_first 140) (by decide +kernel)) (fun n k hn hk => (fc_1 ff_0 hn hk).1.trans (mk_fit (fun a => (mk_even (k := q_Ref_result 140) (by decide +kernel) a).trans (low_W (Or.inl rfl : wd_ 32) a).symm) (fc_1 ff_0 hn hk).2).symm)
theorem rc_141 (m1 m2 : Int64) : q_Ref_answer_cd 0 141 m1 m2 = 0 := by unfold q_Ref_answer_cd; simp (decide := true) only [↓reduceIte]
theorem ra_141 (m1 m2 : Int64) : q_Ref_answer 0 141 m1 m2 = q_Ref_floated 23 127 32 23 127 2 m1 m2 := by unfold q_Ref_answer; simp (decide := true) only [↓reduceIte, Int32.reduceSub, q_Ref_format_wi, q_Ref_format_fr, q_Ref_format_bi, show fF 32 = 23 from rfl, show fF 64 = 52 from rfl, show fB 32 = 127 from rfl, show fB 64 = 1023 from rfl]
theorem ok_141 : OK_ 141 := ok_f (W := 32) (q_Floats_calculate 141 0) (q_Ref_floated 23 127 32 23 127 2) (an_fc32 (p := 141) (by decide +kernel) (by decide +kernel) (by decide +kernel) (by decide +kernel) (by decide +kernel) (by decide +kernel) (by decide +kernel) (by decide +kernel) (by decide +kernel)) (Or.inl rfl : wd_ 32) rc_141 ra_141 (mk_even (k := q_Ref_first 141) (by decide +kernel)) (fun n k hn hk => (fc_2 ff_0 hn hk).1.trans (mk_fit (fun a => (mk_even (k := q_Ref_result 141) (by decide +kernel) a).trans (low_W (Or.inl rfl : wd_ 32) a).symm) (fc_2 ff_0 hn hk).2).symm)
theorem rc_142 (m1 m2 : Int64) : q_Ref_answer_cd 0 142 m1 m2 = 0 := by unfold q_Ref_answer_cd; simp (decide := true) only [↓reduceIte]
theorem ra_142 (m1 m2 : Int64) : q_Ref_answer 0 142 m1 m2 = q_Ref_floated 23 127 32 23 127 3 m1 m2 := by unfold q_Ref_answer; simp (decide := true) only [↓reduceIte, Int32.reduceSub, q_Ref_format_wi, q_Ref_format_fr, q_Ref_format_bi, show fF 32 = 23 from rfl, show fF 64 = 52 from rfl, show fB 32 = 127 from rfl, show fB 64 = 1023 from rfl]
theorem ok_142 : OK_ 142 := ok_f (W := 32) (q_Floats_calculate 142 0) (q_Ref_floated 23 127 32 23 127 3) (an_fc32 (p := 142) (by decide +kernel) (by decide +kernel) (by decide +kernel) (by decide +kernel) (by decide +kernel) (by decide +kernel) (by decide +kernel) (by decide +kernel) (by decide +kernel)) (Or.inl rfl : wd_ 32) rc_142 ra_142 (mk_even (k := q_Ref_first 142) (by decide +kernel)) (fun n k hn hk => (fc_3 ff_0 hn hk).1.trans (mk_fit (fun a => (mk_even (k := q_Ref_result 142) (by decide +kernel) a).trans (low_W (Or.inl rfl : wd_ 32) a).symm) (fc_3 ff_0 hn hk).2).symm)
theorem rc_143 (m1 m2 : Int64) : q_Ref_answer_cd 0 143 m1 m2 = 0 := by unfold q_Ref_answer_cd; simp (decide := true) only [↓reduceIte]
theorem ra_143 (m1 m2 : Int64) : q_Ref_answer 0 143 m1 m2 = q_Ref_floated 23 127 32 23 127 4 m1 m2 := by unfold q_Ref_answer; simp (decide := true) only [↓reduceIte, Int32.reduceSub, q_Ref_format_wi, q_Ref_format_fr, q_Ref_format_bi, show fF 32 = 23 from rfl, show fF 64 = 52 from rfl, show fB 32 = 127 from rfl, show fB 64 = 1023 from rfl]
theorem ok_143 : OK_ 143 := ok_f (W := 32) (q_Floats_calculate 143 0) (q_Ref_floated 23 127 32 23 127 4) (an_fc32 (p := 143) (by decide +kernel) (by decide +kernel) (by decide +kernel) (by decide +kernel) (by decide +kernel) (by decide +kernel) (by decide +kernel) (by decide +kernel) (by decide +kernel)) (Or.inl rfl : wd_ 32) rc_143 ra_143 (mk_even (k := q_Ref_first 143) (by decide +kernel)) (fun n k hn hk => (fc_4 ff_0 hn hk).1.trans (mk_fit (fun a => (mk_even (k := q_Ref_result 143) (by decide +kernel) a).trans (low_W (Or.inl rfl : wd_ 32) a).symm) (fc_4 ff_0 hn hk).2).symm)
theorem rc_144 (m1 m2 : Int64) : q_Ref_answer_cd 0 144 m1 m2 = 0 := by unfold q_Ref_answer_cd; simp (decide := true) only [↓reduceIte]
theorem ra_144 (m1 m2 : Int64) : q_Ref_answer 0 144 m1 m2 = q_Ref_floated 23 127 32 23 127 5 m1 m2 := by unfold q_Ref_answer; simp (decide := true) only [↓reduceIte, Int32.reduceSub, q_Ref_format_wi, q_Ref_format_fr, q_Ref_format_bi, show fF 32 = 23 from rfl, show fF 64 = 52 from rfl, show fB 32 = 127 from rfl, show fB 64 = 1023 from rfl]
theorem ok_144 : OK_ 144 := ok_f (W := 32) (q_Floats_calculate 144 0) (q_Ref_floated 23 127 32 23 127 5) (an_fc32 (p := 144) (by decide +kernel) (by decide +kernel) (by decide +kernel) (by decide +kernel) (by decide +kernel) (by decide +kernel) (by decide +kernel) (by decide +kernel) (by decide +kernel)) (Or.inl rfl : wd_ 32) rc_144 ra_144 (mk_even (k := q_Ref_first 144) (by decide +kernel)) (fun n k hn hk => (fc_5 ff_0 hn hk).1.trans (mk_fit (fun a => (mk_even (k := q_Ref_result 144) (by decide +kernel) a).trans (low_W (Or.inl rfl : wd_ 32) a).symm) (fc_5 ff_0 hn hk).2).symm)
theorem rc_145 (m1 m2 : Int64) : q_Ref_answer_cd 0 145 m1 m2 = 0 := by unfold q_Ref_answer_cd; simp (decide := true) only [↓reduceIte]
theorem ra_145 (m1 m2 : Int64) : q_Ref_answer 0 145 m1 m2 = q_Ref_floated 23 127 32 23 127 6 m1 m2 := by unfold q_Ref_answer; simp (decide := true) only [↓reduceIte, Int32.reduceSub, q_Ref_format_wi, q_Ref_format_fr, q_Ref_format_bi, show fF 32 = 23 from rfl, show fF 64 = 52 from rfl, show fB 32 = 127 from rfl, show fB 64 = 1023 from rfl]
theorem ok_145 : OK_ 145 := ok_f (W := 32) (q_Floats_calculate 145 0) (q_Ref_floated 23 127 32 23 127 6) (an_fc32 (p := 145) (by decide +kernel) (by decide +kernel) (by decide +kernel) (by decide +kernel) (by decide +kernel) (by decide +kernel) (by decide +kernel) (by decide +kernel) (by decide +kernel)) (Or.inl rfl : wd_ 32) rc_145 ra_145 (mk_even (k := q_Ref_first 145) (by decide +kernel)) (fun n k hn hk => (fc_6 ff_0 hn hk).1.trans (mk_fit (fun a => (mk_even (k := q_Ref_result 145) (by decide +kernel) a).trans (low_W (Or.inl rfl : wd_ 32) a).symm) (fc_6 ff_0 hn hk).2).symm)
theorem rc_146 (m1 m2 : Int64) : q_Ref_answer_cd 0 146 m1 m2 = 0 := by unfold q_Ref_answer_cd; simp (decide := true) only [↓reduceIte]
theorem ra_146 (m1 m2 : Int64) : q_Ref_answer 0 146 m1 m2 = q_Ref_floated 23 127 32 23 127 7 m1 m2 := by unfold q_Ref_answer; simp (decide := true) only [↓reduceIte, Int32.reduceSub, q_Ref_format_wi, q_Ref_format_fr, q_Ref_format_bi, show fF 32 = 23 from rfl, show fF 64 = 52 from rfl, show fB 32 = 127 from rfl, show fB 64 = 1023 from rfl]
theorem ok_146 : OK_ 146 := ok_f (W := 32) (q_Floats_calculate 146 0) (q_Ref_floated 23 127 32 23 127 7) (an_fc32 (p := 146) (by decide +kernel) (by decide +kernel) (by decide +kernel) (by decide +kernel) (by decide +kernel) (by decide +kernel) (by decide +kernel) (by decide +kernel) (by decide +kernel)) (Or.inl rfl : wd_ 32) rc_146 ra_146 (mk_even (k := q_Ref_first 146) (by decide +kernel)) (fun n k hn hk => (fc_7 ff_0 hn hk).1.trans (mk_fit (fun a => (mk_even (k := q_Ref_result 146) (by decide +kernel) a).trans (low_W (Or.inl rfl : wd_ 32) a).symm) (fc_7 ff_0 hn hk).2).symm)
theorem rc_147 (m1 m2 : Int64) : q_Ref_answer_cd 0 147 m1 m2 = 0 := by unfold q_Ref_answer_cd; simp (decide := true) only [↓reduceIte]
theorem ra_147 (m1 m2 : Int64) : q_Ref_answer 0 147 m1 m2 = q_Ref_floated 23 127 32 23 127 8 m1 m2 := by unfold q_Ref_answer; simp (decide := true) only [↓reduceIte, Int32.reduceSub, q_Ref_format_wi, q_Ref_format_fr, q_Ref_format_bi, show fF 32 = 23 from rfl, show fF 64 = 52 from rfl, show fB 32 = 127 from rfl, show fB 64 = 1023 from rfl]
theorem ok_147 : OK_ 147 := ok_f (W := 32) (q_Floats_calculate 147 0) (q_Ref_floated 23 127 32 23 127 8) (an_fc32 (p := 147) (by decide +kernel) (by decide +kernel) (by decide +kernel) (by decide +kernel) (by decide +kernel) (by decide +kernel) (by decide +kernel) (by decide +kernel) (by decide +kernel)) (Or.inl rfl : wd_ 32) rc_147 ra_147 (mk_even (k := q_Ref_first 147) (by decide +kernel)) (fun n k hn hk => (fc_8 ff_0 hn hk).1.trans (mk_fit (fun a => (mk_even (k := q_Ref_result 147) (by decide +kernel) a).trans (low_W (Or.inl rfl : wd_ 32) a).symm) (fc_8 ff_0 hn hk).2).symm)
theorem rc_148 (m1 m2 : Int64) : q_Ref_answer_cd 0 148 m1 m2 = 0 := by unfold q_Ref_answer_cd; simp (decide := true) only [↓reduceIte]
theorem ra_148 (m1 m2 : Int64) : q_Ref_answer 0 148 m1 m2 = q_Ref_floated 23 127 32 23 127 9 m1 m2 := by unfold q_Ref_answer; simp (decide := true) only [↓reduceIte, Int32.reduceSub, q_Ref_format_wi, q_Ref_format_fr, q_Ref_format_bi, show fF 32 = 23 from rfl, show fF 64 = 52 from rfl, show fB 32 = 127 from rfl, show fB 64 = 1023 from rfl]
theorem ok_148 : OK_ 148 := ok_f (W := 32) (q_Floats_calculate 148 0) (q_Ref_floated 23 127 32 23 127 9) (an_fc32 (p := 148) (by decide +kernel) (by decide +kernel) (by decide +kernel) (by decide +kernel) (by decide +kernel) (by decide +kernel) (by decide +kernel) (by decide +kernel) (by decide +kernel)) (Or.inl rfl : wd_ 32) rc_148 ra_148 (mk_even (k := q_Ref_first 148) (by decide +kernel)) (fun n k hn hk => (fc_9 ff_0 hn hk).1.trans (mk_fit (fun a => (mk_even (k := q_Ref_result 148) (by decide +kernel) a).trans (low_W (Or.inl rfl : wd_ 32) a).symm) (fc_9 ff_0 hn hk).2).symm)
theorem rc_149 (m1 m2 : Int64) : q_Ref_answer_cd 0 149 m1 m2 = 0 := by unfold q_Ref_answer_cd; simp (decide := true) only [↓reduceIte]
theorem ra_149 (m1 m2 : Int64) : q_Ref_answer 0 149 m1 m2 = q_Ref_floated 23 127 32 23 127 10 m1 m2 := by unfold q_Ref_answer; simp (decide := true) only [↓reduceIte, Int32.reduceSub, q_Ref_format_wi, q_Ref_format_fr, q_Ref_format_bi, show fF 32 = 23 from rfl, show fF 64 = 52 from rfl, show fB 32 = 127 from rfl, show fB 64 = 1023 from rfl]
theorem ok_149 : OK_ 149 := ok_f (W := 32) (q_Floats_calculate 149 0) (q_Ref_floated 23 127 32 23 127 10) (an_fc32 (p := 149) (by decide +kernel) (by decide +kernel) (by decide +kernel) (by decide +kernel) (by decide +kernel) (by decide +kernel) (by decide +kernel) (by decide +kernel) (by decide +kernel)) (Or.inl rfl : wd_ 32) rc_149 ra_149 (mk_even (k := q_Ref_first 149) (by decide +kernel)) (fun n k hn hk => (fc_10 ff_0 hn hk).1.trans (mk_fit (fun a => (mk_even (k := q_Ref_result 149) (by decide +kernel) a).trans (low_W (Or.inl rfl : wd_ 32) a).symm) (fc_10 ff_0 hn hk).2).symm)
theorem rc_150 (m1 m2 : Int64) : q_Ref_answer_cd 0 150 m1 m2 = 0 := by unfold q_Ref_answer_cd; simp (decide := true) only [↓reduceIte]
theorem ra_150 (m1 m2 : Int64) : q_Ref_answer 0 150 m1 m2 = q_Ref_floated 23 127 32 23 127 11 m1 m2 := by unfold q_Ref_answer; simp (decide := true) only [↓reduceIte, Int32.reduceSub, q_Ref_format_wi, q_Ref_format_fr, q_Ref_format_bi, show fF 32 = 23 from rfl, show fF 64 = 52 from rfl, show fB 32 = 127 from rfl, show fB 64 = 1023 from rfl]
theorem ok_150 : OK_ 150 := ok_f (W := 32) (q_Floats_calculate 150 0) (q_Ref_floated 23 127 32 23 127 11) (an_fc32 (p := 150) (by decide +kernel) (by decide +kernel) (by decide +kernel) (by decide +kernel) (by decide +kernel) (by decide +kernel) (by decide +kernel) (by decide +kernel) (by decide +kernel)) (Or.inl rfl : wd_ 32) rc_150 ra_150 (mk_even (k := q_Ref_first 150) (by decide +kernel)) (fun n k hn hk => (fc_11 ff_0 hn hk).1.trans (mk_fit (fun a => (mk_even (k := q_Ref_result 150) (by decide +kernel) a).trans (low_W (Or.inl rfl : wd_ 32) a).symm) (fc_11 ff_0 hn hk).2).symm)
theorem rc_151 (m1 m2 : Int64) : q_Ref_answer_cd 0 151 m1 m2 = 0 := by unfold q_Ref_answer_cd; simp (decide := true) only [↓reduceIte]
theorem ra_151 (m1 m2 : Int64) : q_Ref_answer 0 151 m1 m2 = q_Ref_floated 23 127 32 23 127 12 m1 m2 := by unfold q_Ref_answer; simp (decide := true) only [↓reduceIte, Int32.reduceSub, q_Ref_format_wi, q_Ref_format_fr, q_Ref_format_bi, show fF 32 = 23 from rfl, show fF 64 = 52 from rfl, show fB 32 = 127 from rfl, show fB 64 = 1023 from rfl]
theorem ok_151 : OK_ 151 := ok_f (W := 32) (q_Floats_calculate 151 0) (q_Ref_floated 23 127 32 23 127 12) (an_fc32 (p := 151) (by decide +kernel) (by decide +kernel) (by decide +kernel) (by decide +kernel) (by decide +kernel) (by decide +kernel) (by decide +kernel) (by decide +kernel) (by decide +kernel)) (Or.inl rfl : wd_ 32) rc_151 ra_151 (mk_even (k := q_Ref_first 151) (by decide +kernel)) (fun n k hn hk => (fc_12 ff_0 hn hk).1.trans (mk_fit (fun a => (mk_even (k := q_Ref_result 151) (by decide +kernel) a).trans (low_W (Or.inl rfl : wd_ 32) a).symm) (fc_12 ff_0 hn hk).2).symm)
theorem rc_152 (m1 m2 : Int64) : q_Ref_answer_cd 0 152 m1 m2 = 0 := by unfold q_Ref_answer_cd; simp (decide := true) only [↓reduceIte]
theorem ra_152 (m1 m2 : Int64) : q_Ref_answer 0 152 m1 m2 = q_Ref_floated 23 127 32 23 127 13 m1 m2 := by unfold q_Ref_answer; simp (decide := true) only [↓reduceIte, Int32.reduceSub, q_Ref_format_wi, q_Ref_format_fr, q_Ref_format_bi, show fF 32 = 23 from rfl, show fF 64 = 52 from rfl, show fB 32 = 127 from rfl, show fB 64 = 1023 from rfl]
theorem ok_152 : OK_ 152 := ok_f (W := 32) (q_Floats_calculate 152 0) (q_Ref_floated 23 127 32 23 127 13) (an_fc32 (p := 152) (by decide +kernel) (by decide +kernel) (by decide +kernel) (by decide +kernel) (by decide +kernel) (by decide +kernel) (by decide +kernel) (by decide +kernel) (by decide +kernel)) (Or.inl rfl : wd_ 32) rc_152 ra_152 (mk_even (k := q_Ref_first 152) (by decide +kernel)) (fun n k hn hk => (fc_13 ff_0 hn hk).1.trans (mk_fit (fun a => (mk_even (k := q_Ref_result 152) (by decide +kernel) a).trans (low_W (Or.inl rfl : wd_ 32) a).symm) (fc_13 ff_0 hn hk).2).symm)
theorem rc_153 (m1 m2 : Int64) : q_Ref_answer_cd 0 153 m1 m2 = 0 := by unfold q_Ref_answer_cd; simp (decide := true) only [↓reduceIte]
theorem ra_153 (m1 m2 : Int64) : q_Ref_answer 0 153 m1 m2 = q_Ref_floated 52 1023 64 52 1023 0 m1 m2 := by unfold q_Ref_answer; simp (decide := true) only [↓reduceIte, Int32.reduceSub, q_Ref_format_wi, q_Ref_format_fr, q_Ref_format_bi, show fF 32 = 23 from rfl, show fF 64 = 52 from rfl, show fB 32 = 127 from rfl, show fB 64 = 1023 from rfl]
theorem ok_153 : OK_ 153 := ok_f (W := 64) (q_Floats_calculate 139 1) (q_Ref_floated 52 1023 64 52 1023 0) (an_fc64 (p := 139) (by decide +kernel) (by decide +kernel) (by decide +kernel) (by decide +kernel) (by decide +kernel) (by decide +kernel) (by decide +kernel) (by decide +kernel) (by decide +kernel)) (Or.inr rfl : wd_ 64) rc_153 ra_153 (mk_odd (k := q_Ref_first 153) (by decide +kernel)) (fun n k hn hk => (fc_0 ff_1 hn hk).1.trans (mk_fit (fun a => (mk_odd (k := q_Ref_result 153) (by decide +kernel) a).trans (low_W (Or.inr rfl : wd_ 64) a).symm) (fc_0 ff_1 hn hk).2).symm)
theorem rc_154 (m1 m2 : Int64) : q_Ref_answer_cd 0 154 m1 m2 = 0 := by unfold q_Ref_answer_cd; simp (decide := true) only [↓reduceIte]
theorem ra_154 (m1 m2 : Int64) : q_Ref_answer 0 154 m1 m2 = q_Ref_floated 52 1023 64 52 1023 1 m1 m2 := by unfold q_Ref_answer; simp (decide := true) only [↓reduceIte, Int32.reduceSub, q_Ref_format_wi, q_Ref_format_fr, q_Ref_format_bi, show fF 32 = 23 from rfl, show fF 64 = 52 from rfl, show fB 32 = 127 from rfl, show fB 64 = 1023 from rfl]
theorem ok_154 : OK_ 154 := ok_f (W := 64) (q_Floats_calculate 140 1) (q_Ref_floated 52 1023 64 52 1023 1) (an_fc64 (p := 140) (by decide +kernel) (by decide +kernel) (by decide +kernel) (by decide +kernel) (by decide +kernel) (by decide +kernel) (by decide +kernel) (by decide +kernel) (by decide +kernel)) (Or.inr rfl : wd_ 64) rc_154 ra_154 (mk_odd (k := q_Ref_first 154) (by decide +kernel)) (fun n k hn hk => (fc_1 ff_1 hn hk).1.trans (mk_fit (fun a => (mk_odd (k := q_Ref_result 154) (by decide +kernel) a).trans (low_W (Or.inr rfl : wd_ 64) a).symm) (fc_1 ff_1 hn hk).2).symm)
theorem rc_155 (m1 m2 : Int64) : q_Ref_answer_cd 0 155 m1 m2 = 0 := by unfold q_Ref_answer_cd; simp (decide := true) only [↓reduceIte]
theorem ra_155 (m1 m2 : Int64) : q_Ref_answer 0 155 m1 m2 = q_Ref_floated 52 1023 64 52 1023 2 m1 m2 := by unfold q_Ref_answer; simp (decide := true) only [↓reduceIte, Int32.reduceSub, q_Ref_format_wi, q_Ref_format_fr, q_Ref_format_bi, show fF 32 = 23 from rfl, show fF 64 = 52 from rfl, show fB 32 = 127 from rfl, show fB 64 = 1023 from rfl]
theorem ok_155 : OK_ 155 := ok_f (W := 64) (q_Floats_calculate 141 1) (q_Ref_floated 52 1023 64 52 1023 2) (an_fc64 (p := 141) (by decide +kernel) (by decide +kernel) (by decide +kernel) (by decide +kernel) (by decide +kernel) (by decide +kernel) (by decide +kernel) (by decide +kernel) (by decide +kernel)) (Or.inr rfl : wd_ 64) rc_155 ra_155 (mk_odd (k := q_Ref_first 155) (by decide +kernel)) (fun n k hn hk => (fc_2 ff_1 hn hk).1.trans (mk_fit (fun a => (mk_odd (k := q_Ref_result 155) (by decide +kernel) a).trans (low_W (Or.inr rfl : wd_ 64) a).symm) (fc_2 ff_1 hn hk).2).symm)
theorem rc_156 (m1 m2 : Int64) : q_Ref_answer_cd 0 156 m1 m2 = 0 := by unfold q_Ref_answer_cd; simp (decide := true) only [↓reduceIte]
theorem ra_156 (m1 m2 : Int64) : q_Ref_answer 0 156 m1 m2 = q_Ref_floated 52 1023 64 52 1023 3 m1 m2 := by unfold q_Ref_answer; simp (decide := true) only [↓reduceIte, Int32.reduceSub, q_Ref_format_wi, q_Ref_format_fr, q_Ref_format_bi, show fF 32 = 23 from rfl, show fF 64 = 52 from rfl, show fB 32 = 127 from rfl, show fB 64 = 1023 from rfl]
theorem ok_156 : OK_ 156 := ok_f (W := 64) (q_Floats_calculate 142 1) (q_Ref_floated 52 1023 64 52 1023 3) (an_fc64 (p := 142) (by decide +kernel) (by decide +kernel) (by decide +kernel) (by decide +kernel) (by decide +kernel) (by decide +kernel) (by decide +kernel) (by decide +kernel) (by decide +kernel)) (Or.inr rfl : wd_ 64) rc_156 ra_156 (mk_odd (k := q_Ref_first 156) (by decide +kernel)) (fun n k hn hk => (fc_3 ff_1 hn hk).1.trans (mk_fit (fun a => (mk_odd (k := q_Ref_result 156) (by decide +kernel) a).trans (low_W (Or.inr rfl : wd_ 64) a).symm) (fc_3 ff_1 hn hk).2).symm)
theorem rc_157 (m1 m2 : Int64) : q_Ref_answer_cd 0 157 m1 m2 = 0 := by unfold q_Ref_answer_cd; simp (decide := true) only [↓reduceIte]
theorem ra_157 (m1 m2 : Int64) : q_Ref_answer 0 157 m1 m2 = q_Ref_floated 52 1023 64 52 1023 4 m1 m2 := by unfold q_Ref_answer; simp (decide := true) only [↓reduceIte, Int32.reduceSub, q_Ref_format_wi, q_Ref_format_fr, q_Ref_format_bi, show fF 32 = 23 from rfl, show fF 64 = 52 from rfl, show fB 32 = 127 from rfl, show fB 64 = 1023 from rfl]
theorem ok_157 : OK_ 157 := ok_f (W := 64) (q_Floats_calculate 143 1) (q_Ref_floated 52 1023 64 52 1023 4) (an_fc64 (p := 143) (by decide +kernel) (by decide +kernel) (by decide +kernel) (by decide +kernel) (by decide +kernel) (by decide +kernel) (by decide +kernel) (by decide +kernel) (by decide +kernel)) (Or.inr rfl : wd_ 64) rc_157 ra_157 (mk_odd (k := q_Ref_first 157) (by decide +kernel)) (fun n k hn hk => (fc_4 ff_1 hn hk).1.trans (mk_fit (fun a => (mk_odd (k := q_Ref_result 157) (by decide +kernel) a).trans (low_W (Or.inr rfl : wd_ 64) a).symm) (fc_4 ff_1 hn hk).2).symm)
theorem rc_158 (m1 m2 : Int64) : q_Ref_answer_cd 0 158 m1 m2 = 0 := by unfold q_Ref_answer_cd; simp (decide := true) only [↓reduceIte]
theorem ra_158 (m1 m2 : Int64) : q_Ref_answer 0 158 m1 m2 = q_Ref_floated 52 1023 64 52 1023 5 m1 m2 := by unfold q_Ref_answer; simp (decide := true) only [↓reduceIte, Int32.reduceSub, q_Ref_format_wi, q_Ref_format_fr, q_Ref_format_bi, show fF 32 = 23 from rfl, show fF 64 = 52 from rfl, show fB 32 = 127 from rfl, show fB 64 = 1023 from rfl]
theorem ok_158 : OK_ 158 := ok_f (W := 64) (q_Floats_calculate 144 1) (q_Ref_floated 52 1023 64 52 1023 5) (an_fc64 (p := 144) (by decide +kernel) (by decide +kernel) (by decide +kernel) (by decide +kernel) (by decide +kernel) (by decide +kernel) (by decide +kernel) (by decide +kernel) (by decide +kernel)) (Or.inr rfl : wd_ 64) rc_158 ra_158 (mk_odd (k := q_Ref_first 158) (by decide +kernel)) (fun n k hn hk => (fc_5 ff_1 hn hk).1.trans (mk_fit (fun a => (mk_odd (k := q_Ref_result 158) (by decide +kernel) a).trans (low_W (Or.inr rfl : wd_ 64) a).symm) (fc_5 ff_1 hn hk).2).symm)
theorem rc_159 (m1 m2 : Int64) : q_Ref_answer_cd 0 159 m1 m2 = 0 := by unfold q_Ref_answer_cd; simp (decide := true) only [↓reduceIte]
theorem ra_159 (m1 m2 : Int64) : q_Ref_answer 0 159 m1 m2 = q_Ref_floated 52 1023 64 52 1023 6 m1 m2 := by unfold q_Ref_answer; simp (decide := true) only [↓reduceIte, Int32.reduceSub, q_Ref_format_wi, q_Ref_format_fr, q_Ref_format_bi, show fF 32 = 23 from rfl, show fF 64 = 52 from rfl, show fB 32 = 127 from rfl, show fB 64 = 1023 from rfl]
theorem ok_159 : OK_ 159 := ok_f (W := 64) (q_Floats_calculate 145 1) (q_Ref_floated 52 1023 64 52 1023 6) (an_fc64 (p := 145) (by decide +kernel) (by decide +kernel) (by decide +kernel) (by decide +kernel) (by decide +kernel) (by decide +kernel) (by decide +kernel) (by decide +kernel) (by decide +kernel)) (Or.inr rfl : wd_ 64) rc_159 ra_159 (mk_odd (k := q_Ref_first 159) (by decide +kernel)) (fun n k hn hk => (fc_6 ff_1 hn hk).1.trans (mk_fit (fun a => (mk_odd (k := q_Ref_result 159) (by decide +kernel) a).trans (low_W (Or.inr rfl : wd_ 64) a).symm) (fc_6 ff_1 hn hk).2).symm)
theorem rc_160 (m1 m2 : Int64) : q_Ref_answer_cd 0 160 m1 m2 = 0 := by unfold q_Ref_answer_cd; simp (decide := true) only [↓reduceIte]
theorem ra_160 (m1 m2 : Int64) : q_Ref_answer 0 160 m1 m2 = q_Ref_floated 52 1023 64 52 1023 7 m1 m2 := by unfold q_Ref_answer; simp (decide := true) only [↓reduceIte, Int32.reduceSub, q_Ref_format_wi, q_Ref_format_fr, q_Ref_format_bi, show fF 32 = 23 from rfl, show fF 64 = 52 from rfl, show fB 32 = 127 from rfl, show fB 64 = 1023 from rfl]
theorem ok_160 : OK_ 160 := ok_f (W := 64) (q_Floats_calculate 146 1) (q_Ref_floated 52 1023 64 52 1023 7) (an_fc64 (p := 146) (by decide +kernel) (by decide +kernel) (by decide +kernel) (by decide +kernel) (by decide +kernel) (by decide +kernel) (by decide +kernel) (by decide +kernel) (by decide +kernel)) (Or.inr rfl : wd_ 64) rc_160 ra_160 (mk_odd (k := q_Ref_first 160) (by decide +kernel)) (fun n k hn hk => (fc_7 ff_1 hn hk).1.trans (mk_fit (fun a => (mk_odd (k := q_Ref_result 160) (by decide +kernel) a).trans (low_W (Or.inr rfl : wd_ 64) a).symm) (fc_7 ff_1 hn hk).2).symm)
theorem rc_161 (m1 m2 : Int64) : q_Ref_answer_cd 0 161 m1 m2 = 0 := by unfold q_Ref_answer_cd; simp (decide := true) only [↓reduceIte]
theorem ra_161 (m1 m2 : Int64) : q_Ref_answer 0 161 m1 m2 = q_Ref_floated 52 1023 64 52 1023 8 m1 m2 := by unfold q_Ref_answer; simp (decide := true) only [↓reduceIte, Int32.reduceSub, q_Ref_format_wi, q_Ref_format_fr, q_Ref_format_bi, show fF 32 = 23 from rfl, show fF 64 = 52 from rfl, show fB 32 = 127 from rfl, show fB 64 = 1023 from rfl]
theorem ok_161 : OK_ 161 := ok_f (W := 64) (q_Floats_calculate 147 1) (q_Ref_floated 52 1023 64 52 1023 8) (an_fc64 (p := 147) (by decide +kernel) (by decide +kernel) (by decide +kernel) (by decide +kernel) (by decide +kernel) (by decide +kernel) (by decide +kernel) (by decide +kernel) (by decide +kernel)) (Or.inr rfl : wd_ 64) rc_161 ra_161 (mk_odd (k := q_Ref_first 161) (by decide +kernel)) (fun n k hn hk => (fc_8 ff_1 hn hk).1.trans (mk_fit (fun a => (mk_odd (k := q_Ref_result 161) (by decide +kernel) a).trans (low_W (Or.inr rfl : wd_ 64) a).symm) (fc_8 ff_1 hn hk).2).symm)
theorem rc_162 (m1 m2 : Int64) : q_Ref_answer_cd 0 162 m1 m2 = 0 := by unfold q_Ref_answer_cd; simp (decide := true) only [↓reduceIte]
theorem ra_162 (m1 m2 : Int64) : q_Ref_answer 0 162 m1 m2 = q_Ref_floated 52 1023 64 52 1023 9 m1 m2 := by unfold q_Ref_answer; simp (decide := true) only [↓reduceIte, Int32.reduceSub, q_Ref_format_wi, q_Ref_format_fr, q_Ref_format_bi, show fF 32 = 23 from rfl, show fF 64 = 52 from rfl, show fB 32 = 127 from rfl, show fB 64 = 1023 from rfl]
theorem ok_162 : OK_ 162 := ok_f (W := 64) (q_Floats_calculate 148 1) (q_Ref_floated 52 1023 64 52 1023 9) (an_fc64 (p := 148) (by decide +kernel) (by decide +kernel) (by decide +kernel) (by decide +kernel) (by decide +kernel) (by decide +kernel) (by decide +kernel) (by decide +kernel) (by decide +kernel)) (Or.inr rfl : wd_ 64) rc_162 ra_162 (mk_odd (k := q_Ref_first 162) (by decide +kernel)) (fun n k hn hk => (fc_9 ff_1 hn hk).1.trans (mk_fit (fun a => (mk_odd (k := q_Ref_result 162) (by decide +kernel) a).trans (low_W (Or.inr rfl : wd_ 64) a).symm) (fc_9 ff_1 hn hk).2).symm)
theorem rc_163 (m1 m2 : Int64) : q_Ref_answer_cd 0 163 m1 m2 = 0 := by unfold q_Ref_answer_cd; simp (decide := true) only [↓reduceIte]
theorem ra_163 (m1 m2 : Int64) : q_Ref_answer 0 163 m1 m2 = q_Ref_floated 52 1023 64 52 1023 10 m1 m2 := by unfold q_Ref_answer; simp (decide := true) only [↓reduceIte, Int32.reduceSub, q_Ref_format_wi, q_Ref_format_fr, q_Ref_format_bi, show fF 32 = 23 from rfl, show fF 64 = 52 from rfl, show fB 32 = 127 from rfl, show fB 64 = 1023 from rfl]
theorem ok_163 : OK_ 163 := ok_f (W := 64) (q_Floats_calculate 149 1) (q_Ref_floated 52 1023 64 52 1023 10) (an_fc64 (p := 149) (by decide +kernel) (by decide +kernel) (by decide +kernel) (by decide +kernel) (by decide +kernel) (by decide +kernel) (by decide +kernel) (by decide +kernel) (by decide +kernel)) (Or.inr rfl : wd_ 64) rc_163 ra_163 (mk_odd (k := q_Ref_first 163) (by decide +kernel)) (fun n k hn hk => (fc_10 ff_1 hn hk).1.trans (mk_fit (fun a => (mk_odd (k := q_Ref_result 163) (by decide +kernel) a).trans (low_W (Or.inr rfl : wd_ 64) a).symm) (fc_10 ff_1 hn hk).2).symm)
theorem rc_164 (m1 m2 : Int64) : q_Ref_answer_cd 0 164 m1 m2 = 0 := by unfold q_Ref_answer_cd; simp (decide := true) only [↓reduceIte]
theorem ra_164 (m1 m2 : Int64) : q_Ref_answer 0 164 m1 m2 = q_Ref_floated 52 1023 64 52 1023 11 m1 m2 := by unfold q_Ref_answer; simp (decide := true) only [↓reduceIte, Int32.reduceSub, q_Ref_format_wi, q_Ref_format_fr, q_Ref_format_bi, show fF 32 = 23 from rfl, show fF 64 = 52 from rfl, show fB 32 = 127 from rfl, show fB 64 = 1023 from rfl]
theorem ok_164 : OK_ 164 := ok_f (W := 64) (q_Floats_calculate 150 1) (q_Ref_floated 52 1023 64 52 1023 11) (an_fc64 (p := 150) (by decide +kernel) (by decide +kernel) (by decide +kernel) (by decide +kernel) (by decide +kernel) (by decide +kernel) (by decide +kernel) (by decide +kernel) (by decide +kernel)) (Or.inr rfl : wd_ 64) rc_164 ra_164 (mk_odd (k := q_Ref_first 164) (by decide +kernel)) (fun n k hn hk => (fc_11 ff_1 hn hk).1.trans (mk_fit (fun a => (mk_odd (k := q_Ref_result 164) (by decide +kernel) a).trans (low_W (Or.inr rfl : wd_ 64) a).symm) (fc_11 ff_1 hn hk).2).symm)
theorem rc_165 (m1 m2 : Int64) : q_Ref_answer_cd 0 165 m1 m2 = 0 := by unfold q_Ref_answer_cd; simp (decide := true) only [↓reduceIte]
theorem ra_165 (m1 m2 : Int64) : q_Ref_answer 0 165 m1 m2 = q_Ref_floated 52 1023 64 52 1023 12 m1 m2 := by unfold q_Ref_answer; simp (decide := true) only [↓reduceIte, Int32.reduceSub, q_Ref_format_wi, q_Ref_format_fr, q_Ref_format_bi, show fF 32 = 23 from rfl, show fF 64 = 52 from rfl, show fB 32 = 127 from rfl, show fB 64 = 1023 from rfl]
theorem ok_165 : OK_ 165 := ok_f (W := 64) (q_Floats_calculate 151 1) (q_Ref_floated 52 1023 64 52 1023 12) (an_fc64 (p := 151) (by decide +kernel) (by decide +kernel) (by decide +kernel) (by decide +kernel) (by decide +kernel) (by decide +kernel) (by decide +kernel) (by decide +kernel) (by decide +kernel)) (Or.inr rfl : wd_ 64) rc_165 ra_165 (mk_odd (k := q_Ref_first 165) (by decide +kernel)) (fun n k hn hk => (fc_12 ff_1 hn hk).1.trans (mk_fit (fun a => (mk_odd (k := q_Ref_result 165) (by decide +kernel) a).trans (low_W (Or.inr rfl : wd_ 64) a).symm) (fc_12 ff_1 hn hk).2).symm)
theorem rc_166 (m1 m2 : Int64) : q_Ref_answer_cd 0 166 m1 m2 = 0 := by unfold q_Ref_answer_cd; simp (decide := true) only [↓reduceIte]
theorem ra_166 (m1 m2 : Int64) : q_Ref_answer 0 166 m1 m2 = q_Ref_floated 52 1023 64 52 1023 13 m1 m2 := by unfold q_Ref_answer; simp (decide := true) only [↓reduceIte, Int32.reduceSub, q_Ref_format_wi, q_Ref_format_fr, q_Ref_format_bi, show fF 32 = 23 from rfl, show fF 64 = 52 from rfl, show fB 32 = 127 from rfl, show fB 64 = 1023 from rfl]
theorem ok_166 : OK_ 166 := ok_f (W := 64) (q_Floats_calculate 152 1) (q_Ref_floated 52 1023 64 52 1023 13) (an_fc64 (p := 152) (by decide +kernel) (by decide +kernel) (by decide +kernel) (by decide +kernel) (by decide +kernel) (by decide +kernel) (by decide +kernel) (by decide +kernel) (by decide +kernel)) (Or.inr rfl : wd_ 64) rc_166 ra_166 (mk_odd (k := q_Ref_first 166) (by decide +kernel)) (fun n k hn hk => (fc_13 ff_1 hn hk).1.trans (mk_fit (fun a => (mk_odd (k := q_Ref_result 166) (by decide +kernel) a).trans (low_W (Or.inr rfl : wd_ 64) a).symm) (fc_13 ff_1 hn hk).2).symm)
