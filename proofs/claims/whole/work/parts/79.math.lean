theorem eq_run (la : Int64) (a0 : Int32) (a1 a2 : Int64) : (q_Operations_answer a0 a1 a2).1 ≤ 4 ∧ nI (q_Operations_answer a0 a1 a2).1 = q_Ref_run_cd la a0 a1 a2 ∧ ((q_Operations_answer a0 a1 a2).1 = 0 → (q_Operations_answer a0 a1 a2).2 = q_Ref_run la a0 a1 a2 ∧ q_Ref_run_la la a0 a1 a2 = (q_Operations_answer a0 a1 a2).2) ∧ (¬ (q_Operations_answer a0 a1 a2).1 = 0 → q_Ref_run_la la a0 a1 a2 = la) := by
  sorry
theorem eq_kind (a0 a1 : Int32) : q_Main_kind a0 a1 = q_Ref_kind a0 a1 := by
  sorry
