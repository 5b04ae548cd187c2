/-! what holds of an operation; the groups of operations -/
def OK_ (a0 : Int32) : Prop := ∀ a1 a2 : Int64, (q_Operations_answer a0 a1 a2).1 ≤ 4 ∧ nI (q_Operations_answer a0 a1 a2).1 = q_Ref_answer_cd 0 a0 (mk1_ (q_Ref_first a0) a1) (mk1_ (q_Ref_first a0) a2) ∧ ((q_Operations_answer a0 a1 a2).1 = 0 → (q_Operations_answer a0 a1 a2).2 = mk1_ (q_Ref_result a0) (q_Ref_answer 0 a0 (mk1_ (q_Ref_first a0) a1) (mk1_ (q_Ref_first a0) a2)))
theorem ok_pure {a0 : Int32} (f g : Int64 → Int64 → Int64) (h1 : ∀ a1 a2, q_Operations_answer a0 a1 a2 = (0, f a1 a2)) (h2 : ∀ m1 m2, q_Ref_answer_cd 0 a0 m1 m2 = 0) (h3 : ∀ m1 m2, q_Ref_answer 0 a0 m1 m2 = g m1 m2) (h4 : ∀ a1 a2, f a1 a2 = mk1_ (q_Ref_result a0) (g (mk1_ (q_Ref_first a0) a1) (mk1_ (q_Ref_first a0) a2))) : OK_ a0 := by
  intro a1 a2
  rw [h1, h2, h3]
  exact ⟨Nat.zero_le _, rfl, fun _ => h4 a1 a2⟩
theorem ite_pr {c : Prop} [Decidable c] {x y : Int64} : (if c then ((0, x) : Nat × Int64) else (0, y)) = (0, if c then x else y) := by split <;> rfl
theorem pr_if {w : Nat × Int64} (h : w.1 ≠ 0 → w.2 = 0) : (if w.1 = 0 then ((0, w.2) : Nat × Int64) else (w.1, 0)) = w := by
  obtain ⟨a, b⟩ := w
  dsimp only at h ⊢
  split
  · rename_i c; rw [c]
  · rename_i c; rw [h c]
theorem an_t32 {a0 p : Int32} (he : ¬ q_Operations_exists a0 = 0) (h1 : a0 < 178) (h2 : a0 < 167) (ht : q_Operations_isTwin a0 = 0) (ho : q_Operations_of32 a0 = p) (hp : ¬ 79 < p) (a1 a2 : Int64) : q_Operations_answer a0 a1 a2 = (0, if q_Wholes_test p (q_Bits_signed 32 a1) (q_Bits_signed 32 a2) = 0 then 0 else 1) := by
  unfold q_Operations_answer
  rw [if_neg he, if_pos h1, if_pos h2, if_pos ht, ho, if_neg hp, ite_pr]
theorem an_t64 {a0 p : Int32} (he : ¬ q_Operations_exists a0 = 0) (h1 : a0 < 178) (h2 : a0 < 167) (ht : ¬ q_Operations_isTwin a0 = 0) (ho : q_Operations_of32 a0 = p) (hp : ¬ 79 < p) (a1 a2 : Int64) : q_Operations_answer a0 a1 a2 = (0, if q_Wholes_test p (q_Bits_signed 64 a1) (q_Bits_signed 64 a2) = 0 then 0 else 1) := by
  unfold q_Operations_answer
  rw [if_neg he, if_pos h1, if_pos h2, if_neg ht, ho, if_neg hp, ite_pr]
theorem an_c32 {a0 p : Int32} (he : ¬ q_Operations_exists a0 = 0) (h1 : a0 < 178) (h2 : a0 < 167) (ht : q_Operations_isTwin a0 = 0) (ho : q_Operations_of32 a0 = p) (hp : 79 < p) (hp2 : ¬ p < 103) (hp3 : ¬ 120 < p) (a1 a2 : Int64) : q_Operations_answer a0 a1 a2 = if (q_Wholes_calculate p 32 a1 a2).1 = 0 then (0, (q_Wholes_calculate p 32 a1 a2).2) else ((q_Wholes_calculate p 32 a1 a2).1, 0) := by
  unfold q_Operations_answer
  rw [if_neg he, if_pos h1, if_pos h2, if_pos ht, ho, if_pos hp, if_neg hp2, if_neg hp3]
theorem an_c64 {a0 p : Int32} (he : ¬ q_Operations_exists a0 = 0) (h1 : a0 < 178) (h2 : a0 < 167) (ht : ¬ q_Operations_isTwin a0 = 0) (ho : q_Operations_of32 a0 = p) (hp : 79 < p) (hp2 : ¬ p < 103) (hp3 : ¬ 120 < p) (a1 a2 : Int64) : q_Operations_answer a0 a1 a2 = if (q_Wholes_calculate p 64 a1 a2).1 = 0 then (0, (q_Wholes_calculate p 64 a1 a2).2) else ((q_Wholes_calculate p 64 a1 a2).1, 0) := by
  unfold q_Operations_answer
  rw [if_neg he, if_pos h1, if_pos h2, if_neg ht, ho, if_pos hp, if_neg hp2, if_neg hp3]
theorem an_ft32 {a0 p : Int32} (he : ¬ q_Operations_exists a0 = 0) (h1 : a0 < 178) (h2 : a0 < 167) (ht : q_Operations_isTwin a0 = 0) (ho : q_Operations_of32 a0 = p) (hp : 79 < p) (hp2 : p < 103) (hp3 : ¬ 96 < p) (a1 a2 : Int64) : q_Operations_answer a0 a1 a2 = (0, if q_Floats_test p 0 (q_Bits_lowest 32 a1) (q_Bits_lowest 32 a2) = 0 then 0 else 1) := by
  unfold q_Operations_answer
  rw [if_neg he, if_pos h1, if_pos h2, if_pos ht, ho, if_pos hp, if_pos hp2, if_neg hp3, ite_pr]
theorem an_ft64 {a0 p : Int32} (he : ¬ q_Operations_exists a0 = 0) (h1 : a0 < 178) (h2 : a0 < 167) (ht : ¬ q_Operations_isTwin a0 = 0) (ho : q_Operations_of32 a0 = p) (hp : 79 < p) (hp2 : p < 103) (hp3 : ¬ 96 < p) (a1 a2 : Int64) : q_Operations_answer a0 a1 a2 = (0, if q_Floats_test p 1 (q_Bits_lowest 64 a1) (q_Bits_lowest 64 a2) = 0 then 0 else 1) := by
  unfold q_Operations_answer
  rw [if_neg he, if_pos h1, if_pos h2, if_neg ht, ho, if_pos hp, if_pos hp2, if_neg hp3, ite_pr]
theorem an_fc32 {a0 p : Int32} (he : ¬ q_Operations_exists a0 = 0) (h1 : a0 < 178) (h2 : a0 < 167) (ht : q_Operations_isTwin a0 = 0) (ho : q_Operations_of32 a0 = p) (hp : 79 < p) (hp2 : ¬ p < 103) (hp3 : 120 < p) (hp4 : 96 < p) (a1 a2 : Int64) : q_Operations_answer a0 a1 a2 = (0, q_Floats_calculate p 0 (q_Bits_lowest 32 a1) (q_Bits_lowest 32 a2)) := by
  unfold q_Operations_answer
  rw [if_neg he, if_pos h1, if_pos h2, if_pos ht, ho, if_pos hp, if_neg hp2, if_pos hp3, if_pos hp4]
theorem an_fc64 {a0 p : Int32} (he : ¬ q_Operations_exists a0 = 0) (h1 : a0 < 178) (h2 : a0 < 167) (ht : ¬ q_Operations_isTwin a0 = 0) (ho : q_Operations_of32 a0 = p) (hp : 79 < p) (hp2 : ¬ p < 103) (hp3 : 120 < p) (hp4 : 96 < p) (a1 a2 : Int64) : q_Operations_answer a0 a1 a2 = (0, q_Floats_calculate p 1 (q_Bits_lowest 64 a1) (q_Bits_lowest 64 a2)) := by
  unfold q_Operations_answer
  rw [if_neg he, if_pos h1, if_pos h2, if_neg ht, ho, if_pos hp, if_neg hp2, if_pos hp3, if_pos hp4]
theorem an_wb1 {a0 : Int32} (he : ¬ q_Operations_exists a0 = 0) (h1 : a0 < 178) (h2 : ¬ a0 < 167) (a1 a2 : Int64) : q_Operations_answer a0 a1 a2 = if (q_Conversions_toWholeOrBits a0 a1).1 = 0 then (0, (q_Conversions_toWholeOrBits a0 a1).2) else ((q_Conversions_toWholeOrBits a0 a1).1, 0) := by
  unfold q_Operations_answer
  rw [if_neg he, if_pos h1, if_neg h2]
theorem an_wb2 {a0 : Int32} (he : ¬ q_Operations_exists a0 = 0) (h1 : ¬ a0 < 178) (h2 : 187 < a0) (h3 : ¬ a0 < 167) (a1 a2 : Int64) : q_Operations_answer a0 a1 a2 = if (q_Conversions_toWholeOrBits a0 a1).1 = 0 then (0, (q_Conversions_toWholeOrBits a0 a1).2) else ((q_Conversions_toWholeOrBits a0 a1).1, 0) := by
  unfold q_Operations_answer
  rw [if_neg he, if_neg h1, if_pos h2, if_neg h3]
theorem an_tf {a0 : Int32} (he : ¬ q_Operations_exists a0 = 0) (h1 : ¬ a0 < 178) (h2 : ¬ 187 < a0) (a1 a2 : Int64) : q_Operations_answer a0 a1 a2 = (0, q_Conversions_toFloat a0 a1) := by
  unfold q_Operations_answer
  rw [if_neg he, if_neg h1, if_neg h2]
