/-! THE NUMBERS OF THE OPERATIONS, and their kinds -/
theorem op_rng {a0 : Int32} (h1 : ¬ a0 < 69) (h2 : ¬ 191 < a0) : ∃ n : Nat, n < 123 ∧ a0 = nI (69 + n) := by
  rw [Int32.lt_iff_toInt_lt] at h1 h2
  have e1 : (69 : Int32).toInt = 69 := by decide
  have e2 : (191 : Int32).toInt = 191 := by decide
  refine ⟨(a0.toInt - 69).toNat, by omega, ?_⟩
  rw [← zI_n, zI_of a0]
  congr 1
  rw [← zI_of a0]
  omega
theorem kd_all : ∀ n : Nat, n < 123 → q_Kinds_ofAnswer (nI (69 + n)) = q_Ref_result (nI (69 + n)) ∧ q_Kinds_ofFirst (nI (69 + n)) = q_Ref_first (nI (69 + n)) ∧ q_Kinds_ofSecond (nI (69 + n)) = q_Ref_second (nI (69 + n)) := by decide +kernel
theorem eq_kind (a0 a1 : Int32) : q_Main_kind a0 a1 = q_Ref_kind a0 a1 := by
  unfold q_Main_kind q_Ref_kind q_Operations_exists q_Ref_isIn
  by_cases h1 : a0 < 69
  · simp only [if_pos h1]; rfl
  by_cases h2 : 191 < a0
  · simp only [if_neg h1, if_pos h2]; rfl
  obtain ⟨n, hn, rfl⟩ := op_rng h1 h2
  obtain ⟨k1, k2, k3⟩ := kd_all n hn
  rw [if_neg h1, if_neg h2, if_neg (show ¬ (1 : Int32) = 0 by decide), if_neg (show ¬ (1 : Int32) = 0 by decide), k1, k2, k3]
/-- the values that an operation takes and gives, cut to its kind's bits -/
def mk1_ (k : Int32) (a : Int64) : Int64 := if k - k / 2 * 2 = 0 then a &&& 4294967295 else a
theorem run_of {la : Int64} {a0 : Int32} {a1 a2 : Int64} {w : Nat × Int64} (h1 : ¬ a0 < 69) (h2 : ¬ 191 < a0) (h4 : w.1 ≤ 4) (hc : nI w.1 = q_Ref_answer_cd 0 a0 (mk1_ (q_Ref_first a0) a1) (mk1_ (q_Ref_first a0) a2)) (hv : w.1 = 0 → w.2 = mk1_ (q_Ref_result a0) (q_Ref_answer 0 a0 (mk1_ (q_Ref_first a0) a1) (mk1_ (q_Ref_first a0) a2))) :
    w.1 ≤ 4 ∧ nI w.1 = q_Ref_run_cd la a0 a1 a2 ∧ (w.1 = 0 → w.2 = q_Ref_run la a0 a1 a2 ∧ q_Ref_run_la la a0 a1 a2 = w.2) ∧ (¬ w.1 = 0 → q_Ref_run_la la a0 a1 a2 = la) := by
  have e0 : (if q_Ref_isIn a0 69 191 = 0 then (1 : Int32) else 0) = 0 := by
    unfold q_Ref_isIn
    rw [if_neg h1, if_neg h2]
    decide
  have hcd : q_Ref_run_cd la a0 a1 a2 = q_Ref_answer_cd 0 a0 (mk1_ (q_Ref_first a0) a1) (mk1_ (q_Ref_first a0) a2) := by
    unfold q_Ref_run_cd
    rw [e0, if_pos (by decide)]
    exact ite_self _
  refine ⟨h4, hc.trans hcd.symm, fun h0 => ?_, fun h0 => ?_⟩
  · have hz : q_Ref_answer_cd 0 a0 (mk1_ (q_Ref_first a0) a1) (mk1_ (q_Ref_first a0) a2) ≤ 0 := by rw [← hc, h0]; decide
    have e1 : q_Ref_run la a0 a1 a2 = mk1_ (q_Ref_result a0) (q_Ref_answer 0 a0 (mk1_ (q_Ref_first a0) a1) (mk1_ (q_Ref_first a0) a2)) := by
      unfold q_Ref_run
      rw [e0, if_pos (by decide)]
      exact if_pos hz
    have e2 : q_Ref_run_la la a0 a1 a2 = mk1_ (q_Ref_result a0) (q_Ref_answer 0 a0 (mk1_ (q_Ref_first a0) a1) (mk1_ (q_Ref_first a0) a2)) := by
      unfold q_Ref_run_la
      rw [e0, if_pos (by decide)]
      exact if_pos hz
    exact ⟨(hv h0).trans e1.symm, e2.trans (hv h0).symm⟩
  · have hz : ¬ q_Ref_answer_cd 0 a0 (mk1_ (q_Ref_first a0) a1) (mk1_ (q_Ref_first a0) a2) ≤ 0 := by
      rw [← hc]
      rcases (show w.1 = 1 ∨ w.1 = 2 ∨ w.1 = 3 ∨ w.1 = 4 by omega) with h | h | h | h <;> rw [h] <;> decide
    unfold q_Ref_run_la
    rw [e0, if_pos (by decide)]
    exact if_neg hz
theorem run_no {la : Int64} {a0 : Int32} {a1 a2 : Int64} {w : Nat × Int64} (hw : w = (1, 0)) (h : q_Ref_isIn a0 69 191 = 0) :
    w.1 ≤ 4 ∧ nI w.1 = q_Ref_run_cd la a0 a1 a2 ∧ (w.1 = 0 → w.2 = q_Ref_run la a0 a1 a2 ∧ q_Ref_run_la la a0 a1 a2 = w.2) ∧ (¬ w.1 = 0 → q_Ref_run_la la a0 a1 a2 = la) := by
  have e1 : q_Ref_run_cd la a0 a1 a2 = 1 := by unfold q_Ref_run_cd; rw [h]; rfl
  have e2 : q_Ref_run_la la a0 a1 a2 = la := by unfold q_Ref_run_la; rw [h]; rfl
  rw [e1, e2, hw]
  exact ⟨by decide, rfl, (fun z => absurd z (by decide)), fun _ => rfl⟩
theorem ans_no {a0 : Int32} {a1 a2 : Int64} (h : q_Operations_exists a0 = 0) : q_Operations_answer a0 a1 a2 = (1, 0) := by unfold q_Operations_answer; rw [if_pos h]
