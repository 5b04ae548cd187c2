theorem eq_run (la : Int64) (a0 : Int32) (a1 a2 : Int64) : (q_Operations_answer a0 a1 a2).1 ≤ 4 ∧ nI (q_Operations_answer a0 a1 a2).1 = q_Ref_run_cd la a0 a1 a2 ∧ ((q_Operations_answer a0 a1 a2).1 = 0 → (q_Operations_answer a0 a1 a2).2 = q_Ref_run la a0 a1 a2 ∧ q_Ref_run_la la a0 a1 a2 = (q_Operations_answer a0 a1 a2).2) ∧ (¬ (q_Operations_answer a0 a1 a2).1 = 0 → q_Ref_run_la la a0 a1 a2 = la) := by
  by_cases h1 : a0 < 69
  · exact run_no (ans_no (by unfold q_Operations_exists; rw [if_pos h1])) (by unfold q_Ref_isIn; rw [if_pos h1])
  by_cases h2 : 191 < a0
  · exact run_no (ans_no (by unfold q_Operations_exists; rw [if_neg h1, if_pos h2])) (by unfold q_Ref_isIn; rw [if_neg h1, if_pos h2])
  sorry
