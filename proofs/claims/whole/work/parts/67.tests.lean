/-! what holds of an operation, and the tests of whole numbers -/
def OK_ (a0 : Int32) : Prop := ∀ a1 a2 : Int64, (q_Operations_answer a0 a1 a2).1 ≤ 4 ∧ nI (q_Operations_answer a0 a1 a2).1 = q_Ref_answer_cd 0 a0 (mk1_ (q_Ref_first a0) a1) (mk1_ (q_Ref_first a0) a2) ∧ ((q_Operations_answer a0 a1 a2).1 = 0 → (q_Operations_answer a0 a1 a2).2 = mk1_ (q_Ref_result a0) (q_Ref_answer 0 a0 (mk1_ (q_Ref_first a0) a1) (mk1_ (q_Ref_first a0) a2)))
theorem ok_pure {a0 : Int32} (f g : Int64 → Int64 → Int64) (h1 : ∀ a1 a2, q_Operations_answer a0 a1 a2 = (0, f a1 a2)) (h2 : ∀ m1 m2, q_Ref_answer_cd 0 a0 m1 m2 = 0) (h3 : ∀ m1 m2, q_Ref_answer 0 a0 m1 m2 = g m1 m2) (h4 : ∀ a1 a2, f a1 a2 = mk1_ (q_Ref_result a0) (g (mk1_ (q_Ref_first a0) a1) (mk1_ (q_Ref_first a0) a2))) : OK_ a0 := by
  intro a1 a2
  rw [h1, h2, h3]
  exact ⟨Nat.zero_le _, rfl, fun _ => h4 a1 a2⟩
theorem ite_pr {c : Prop} [Decidable c] {x y : Int64} : (if c then ((0, x) : Nat × Int64) else (0, y)) = (0, if c then x else y) := by split <;> rfl
theorem ts_ {W : Nat} (hW : wd_ W) {y z : Nat} (hy : y < 2 ^ W) (hz : z < 2 ^ W) : ∀ k : Nat, k < 10 → q_Wholes_test (nI (70 + k)) (zL (sy_ W y)) (zL (sy_ W z)) = q_Ref_isSo (nI k) (nI W) (lN y) (lN z) := by
  have ry := sy_r hW hy
  have rz := sy_r hW hz
  have h64 : (2 : Nat) ^ W ≤ 2 ^ 64 := by rcases hW with rfl | rfl <;> decide
  have ey : (zL (sy_ W y) = zL (sy_ W z)) ↔ lN y = lN z := by rw [zL_eq ry rz, sy_lt hW hy hz, lN_inj64 (by omega) (by omega)]
  have cu : q_Long_compareUnsigned (zL (sy_ W y)) (zL (sy_ W z)) = if y < z then -1 else if y = z then 0 else 1 := by
    rw [se_e hW hy, se_e hW hz, cu_e (se_lt hW hy) (se_lt hW hz)]
    have m := se_mono hW hy hz
    simp only [m.1, m.2]
  have b1 := be_e (a := y) (b := z) (by omega) (by omega)
  have b2 := be_e (a := z) (b := y) (by omega) (by omega)
  have w1 := ws_W hW hy
  have w2 := ws_W hW hz
  intro k hk
  match k, hk with
  | 0, _ => show (if zL (sy_ W y) = zL (sy_ W z) then (1 : Int32) else 0) = if lN y = lN z then 1 else 0; simp only [ey]
  | 1, _ => show (if zL (sy_ W y) = zL (sy_ W z) then (0 : Int32) else 1) = if lN y = lN z then 0 else 1; simp only [ey]
  | 2, _ => show (if zL (sy_ W z) ≤ zL (sy_ W y) then (0 : Int32) else 1) = if q_Ref_withSign (lN z) (nI W) ≤ q_Ref_withSign (lN y) (nI W) then 0 else 1; rw [w1, w2]
  | 3, _ => show (if 0 ≤ q_Long_compareUnsigned (zL (sy_ W y)) (zL (sy_ W z)) then (0 : Int32) else 1) = q_Ref_below (lN y) (lN z); rw [cu, b1]; (repeat' split) <;> first | rfl | omega | (exact absurd ‹_› (by decide))
  | 4, _ => show (if zL (sy_ W y) ≤ zL (sy_ W z) then (0 : Int32) else 1) = if q_Ref_withSign (lN y) (nI W) ≤ q_Ref_withSign (lN z) (nI W) then 0 else 1; rw [w1, w2]
  | 5, _ => show (if q_Long_compareUnsigned (zL (sy_ W y)) (zL (sy_ W z)) ≤ 0 then (0 : Int32) else 1) = q_Ref_below (lN z) (lN y); rw [cu, b2]; (repeat' split) <;> first | rfl | omega | (exact absurd ‹_› (by decide))
  | 6, _ => show (if zL (sy_ W z) < zL (sy_ W y) then (0 : Int32) else 1) = if q_Ref_withSign (lN z) (nI W) < q_Ref_withSign (lN y) (nI W) then 0 else 1; rw [w1, w2]
  | 7, _ => show (if 0 < q_Long_compareUnsigned (zL (sy_ W y)) (zL (sy_ W z)) then (0 : Int32) else 1) = if q_Ref_below (lN z) (lN y) = 0 then 1 else 0; rw [cu, b2]; (repeat' split) <;> first | rfl | omega | (exact absurd ‹_› (by decide))
  | 8, _ => show (if zL (sy_ W y) < zL (sy_ W z) then (0 : Int32) else 1) = if q_Ref_withSign (lN y) (nI W) < q_Ref_withSign (lN z) (nI W) then 0 else 1; rw [w1, w2]
  | 9, _ => show (if q_Long_compareUnsigned (zL (sy_ W y)) (zL (sy_ W z)) < 0 then (0 : Int32) else 1) = if q_Ref_below (lN y) (lN z) = 0 then 1 else 0; rw [cu, b1]; (repeat' split) <;> first | rfl | omega | (exact absurd ‹_› (by decide))
theorem mk_small {k : Int32} {v : Int64} (h : v = 0 ∨ v = 1) : mk1_ k v = v := by
  unfold mk1_
  split
  · rcases h with rfl | rfl <;> decide
  · rfl
theorem mk_ite {k : Int32} {c : Prop} [Decidable c] : mk1_ k (if c then (0 : Int64) else 1) = if c then 0 else 1 := mk_small (by split; exact Or.inl rfl; exact Or.inr rfl)
theorem ok_70 : OK_ 70 := by
  refine ok_pure (fun a1 a2 => if q_Wholes_test 70 (q_Bits_signed 32 a1) (q_Bits_signed 32 a2) = 0 then 0 else 1) (fun m1 m2 => if q_Ref_isSo 0 32 m1 m2 = 0 then 0 else 1) (fun a1 a2 => ?_) (fun _ _ => rfl) (fun _ _ => rfl) (fun a1 a2 => ?_)
  · exact (show q_Operations_answer 70 a1 a2 = if q_Wholes_test 70 (q_Bits_signed 32 a1) (q_Bits_signed 32 a2) = 0 then (0, 0) else (0, 1) from rfl).trans ite_pr
  · have e := ts_ (W := 32) (Or.inl rfl) (y := un_ a1 % 2 ^ 32) (z := un_ a2 % 2 ^ 32) (Nat.mod_lt _ (by decide)) (Nat.mod_lt _ (by decide)) 0 (by decide)
    rw [← sig_W (Or.inl rfl) a1, ← sig_W (Or.inl rfl) a2, ← mk_even (k := q_Ref_first 70) (by decide) a1, ← mk_even (k := q_Ref_first 70) (by decide) a2] at e
    exact (congrArg (fun t : Int32 => if t = 0 then (0 : Int64) else 1) e).trans mk_ite.symm
theorem ok_71 : OK_ 71 := by
  refine ok_pure (fun a1 a2 => if q_Wholes_test 71 (q_Bits_signed 32 a1) (q_Bits_signed 32 a2) = 0 then 0 else 1) (fun m1 m2 => if q_Ref_isSo 1 32 m1 m2 = 0 then 0 else 1) (fun a1 a2 => ?_) (fun _ _ => rfl) (fun _ _ => rfl) (fun a1 a2 => ?_)
  · exact (show q_Operations_answer 71 a1 a2 = if q_Wholes_test 71 (q_Bits_signed 32 a1) (q_Bits_signed 32 a2) = 0 then (0, 0) else (0, 1) from rfl).trans ite_pr
  · have e := ts_ (W := 32) (Or.inl rfl) (y := un_ a1 % 2 ^ 32) (z := un_ a2 % 2 ^ 32) (Nat.mod_lt _ (by decide)) (Nat.mod_lt _ (by decide)) 1 (by decide)
    rw [← sig_W (Or.inl rfl) a1, ← sig_W (Or.inl rfl) a2, ← mk_even (k := q_Ref_first 71) (by decide) a1, ← mk_even (k := q_Ref_first 71) (by decide) a2] at e
    exact (congrArg (fun t : Int32 => if t = 0 then (0 : Int64) else 1) e).trans mk_ite.symm
theorem ok_72 : OK_ 72 := by
  refine ok_pure (fun a1 a2 => if q_Wholes_test 72 (q_Bits_signed 32 a1) (q_Bits_signed 32 a2) = 0 then 0 else 1) (fun m1 m2 => if q_Ref_isSo 2 32 m1 m2 = 0 then 0 else 1) (fun a1 a2 => ?_) (fun _ _ => rfl) (fun _ _ => rfl) (fun a1 a2 => ?_)
  · exact (show q_Operations_answer 72 a1 a2 = if q_Wholes_test 72 (q_Bits_signed 32 a1) (q_Bits_signed 32 a2) = 0 then (0, 0) else (0, 1) from rfl).trans ite_pr
  · have e := ts_ (W := 32) (Or.inl rfl) (y := un_ a1 % 2 ^ 32) (z := un_ a2 % 2 ^ 32) (Nat.mod_lt _ (by decide)) (Nat.mod_lt _ (by decide)) 2 (by decide)
    rw [← sig_W (Or.inl rfl) a1, ← sig_W (Or.inl rfl) a2, ← mk_even (k := q_Ref_first 72) (by decide) a1, ← mk_even (k := q_Ref_first 72) (by decide) a2] at e
    exact (congrArg (fun t : Int32 => if t = 0 then (0 : Int64) else 1) e).trans mk_ite.symm
theorem ok_73 : OK_ 73 := by
  refine ok_pure (fun a1 a2 => if q_Wholes_test 73 (q_Bits_signed 32 a1) (q_Bits_signed 32 a2) = 0 then 0 else 1) (fun m1 m2 => if q_Ref_isSo 3 32 m1 m2 = 0 then 0 else 1) (fun a1 a2 => ?_) (fun _ _ => rfl) (fun _ _ => rfl) (fun a1 a2 => ?_)
  · exact (show q_Operations_answer 73 a1 a2 = if q_Wholes_test 73 (q_Bits_signed 32 a1) (q_Bits_signed 32 a2) = 0 then (0, 0) else (0, 1) from rfl).trans ite_pr
  · have e := ts_ (W := 32) (Or.inl rfl) (y := un_ a1 % 2 ^ 32) (z := un_ a2 % 2 ^ 32) (Nat.mod_lt _ (by decide)) (Nat.mod_lt _ (by decide)) 3 (by decide)
    rw [← sig_W (Or.inl rfl) a1, ← sig_W (Or.inl rfl) a2, ← mk_even (k := q_Ref_first 73) (by decide) a1, ← mk_even (k := q_Ref_first 73) (by decide) a2] at e
    exact (congrArg (fun t : Int32 => if t = 0 then (0 : Int64) else 1) e).trans mk_ite.symm
theorem ok_74 : OK_ 74 := by
  refine ok_pure (fun a1 a2 => if q_Wholes_test 74 (q_Bits_signed 32 a1) (q_Bits_signed 32 a2) = 0 then 0 else 1) (fun m1 m2 => if q_Ref_isSo 4 32 m1 m2 = 0 then 0 else 1) (fun a1 a2 => ?_) (fun _ _ => rfl) (fun _ _ => rfl) (fun a1 a2 => ?_)
  · exact (show q_Operations_answer 74 a1 a2 = if q_Wholes_test 74 (q_Bits_signed 32 a1) (q_Bits_signed 32 a2) = 0 then (0, 0) else (0, 1) from rfl).trans ite_pr
  · have e := ts_ (W := 32) (Or.inl rfl) (y := un_ a1 % 2 ^ 32) (z := un_ a2 % 2 ^ 32) (Nat.mod_lt _ (by decide)) (Nat.mod_lt _ (by decide)) 4 (by decide)
    rw [← sig_W (Or.inl rfl) a1, ← sig_W (Or.inl rfl) a2, ← mk_even (k := q_Ref_first 74) (by decide) a1, ← mk_even (k := q_Ref_first 74) (by decide) a2] at e
    exact (congrArg (fun t : Int32 => if t = 0 then (0 : Int64) else 1) e).trans mk_ite.symm
theorem ok_75 : OK_ 75 := by
  refine ok_pure (fun a1 a2 => if q_Wholes_test 75 (q_Bits_signed 32 a1) (q_Bits_signed 32 a2) = 0 then 0 else 1) (fun m1 m2 => if q_Ref_isSo 5 32 m1 m2 = 0 then 0 else 1) (fun a1 a2 => ?_) (fun _ _ => rfl) (fun _ _ => rfl) (fun a1 a2 => ?_)
  · exact (show q_Operations_answer 75 a1 a2 = if q_Wholes_test 75 (q_Bits_signed 32 a1) (q_Bits_signed 32 a2) = 0 then (0, 0) else (0, 1) from rfl).trans ite_pr
  · have e := ts_ (W := 32) (Or.inl rfl) (y := un_ a1 % 2 ^ 32) (z := un_ a2 % 2 ^ 32) (Nat.mod_lt _ (by decide)) (Nat.mod_lt _ (by decide)) 5 (by decide)
    rw [← sig_W (Or.inl rfl) a1, ← sig_W (Or.inl rfl) a2, ← mk_even (k := q_Ref_first 75) (by decide) a1, ← mk_even (k := q_Ref_first 75) (by decide) a2] at e
    exact (congrArg (fun t : Int32 => if t = 0 then (0 : Int64) else 1) e).trans mk_ite.symm
theorem ok_76 : OK_ 76 := by
  refine ok_pure (fun a1 a2 => if q_Wholes_test 76 (q_Bits_signed 32 a1) (q_Bits_signed 32 a2) = 0 then 0 else 1) (fun m1 m2 => if q_Ref_isSo 6 32 m1 m2 = 0 then 0 else 1) (fun a1 a2 => ?_) (fun _ _ => rfl) (fun _ _ => rfl) (fun a1 a2 => ?_)
  · exact (show q_Operations_answer 76 a1 a2 = if q_Wholes_test 76 (q_Bits_signed 32 a1) (q_Bits_signed 32 a2) = 0 then (0, 0) else (0, 1) from rfl).trans ite_pr
  · have e := ts_ (W := 32) (Or.inl rfl) (y := un_ a1 % 2 ^ 32) (z := un_ a2 % 2 ^ 32) (Nat.mod_lt _ (by decide)) (Nat.mod_lt _ (by decide)) 6 (by decide)
    rw [← sig_W (Or.inl rfl) a1, ← sig_W (Or.inl rfl) a2, ← mk_even (k := q_Ref_first 76) (by decide) a1, ← mk_even (k := q_Ref_first 76) (by decide) a2] at e
    exact (congrArg (fun t : Int32 => if t = 0 then (0 : Int64) else 1) e).trans mk_ite.symm
theorem ok_77 : OK_ 77 := by
  refine ok_pure (fun a1 a2 => if q_Wholes_test 77 (q_Bits_signed 32 a1) (q_Bits_signed 32 a2) = 0 then 0 else 1) (fun m1 m2 => if q_Ref_isSo 7 32 m1 m2 = 0 then 0 else 1) (fun a1 a2 => ?_) (fun _ _ => rfl) (fun _ _ => rfl) (fun a1 a2 => ?_)
  · exact (show q_Operations_answer 77 a1 a2 = if q_Wholes_test 77 (q_Bits_signed 32 a1) (q_Bits_signed 32 a2) = 0 then (0, 0) else (0, 1) from rfl).trans ite_pr
  · have e := ts_ (W := 32) (Or.inl rfl) (y := un_ a1 % 2 ^ 32) (z := un_ a2 % 2 ^ 32) (Nat.mod_lt _ (by decide)) (Nat.mod_lt _ (by decide)) 7 (by decide)
    rw [← sig_W (Or.inl rfl) a1, ← sig_W (Or.inl rfl) a2, ← mk_even (k := q_Ref_first 77) (by decide) a1, ← mk_even (k := q_Ref_first 77) (by decide) a2] at e
    exact (congrArg (fun t : Int32 => if t = 0 then (0 : Int64) else 1) e).trans mk_ite.symm
theorem ok_78 : OK_ 78 := by
  refine ok_pure (fun a1 a2 => if q_Wholes_test 78 (q_Bits_signed 32 a1) (q_Bits_signed 32 a2) = 0 then 0 else 1) (fun m1 m2 => if q_Ref_isSo 8 32 m1 m2 = 0 then 0 else 1) (fun a1 a2 => ?_) (fun _ _ => rfl) (fun _ _ => rfl) (fun a1 a2 => ?_)
  · exact (show q_Operations_answer 78 a1 a2 = if q_Wholes_test 78 (q_Bits_signed 32 a1) (q_Bits_signed 32 a2) = 0 then (0, 0) else (0, 1) from rfl).trans ite_pr
  · have e := ts_ (W := 32) (Or.inl rfl) (y := un_ a1 % 2 ^ 32) (z := un_ a2 % 2 ^ 32) (Nat.mod_lt _ (by decide)) (Nat.mod_lt _ (by decide)) 8 (by decide)
    rw [← sig_W (Or.inl rfl) a1, ← sig_W (Or.inl rfl) a2, ← mk_even (k := q_Ref_first 78) (by decide) a1, ← mk_even (k := q_Ref_first 78) (by decide) a2] at e
    exact (congrArg (fun t : Int32 => if t = 0 then (0 : Int64) else 1) e).trans mk_ite.symm
theorem ok_79 : OK_ 79 := by
  refine ok_pure (fun a1 a2 => if q_Wholes_test 79 (q_Bits_signed 32 a1) (q_Bits_signed 32 a2) = 0 then 0 else 1) (fun m1 m2 => if q_Ref_isSo 9 32 m1 m2 = 0 then 0 else 1) (fun a1 a2 => ?_) (fun _ _ => rfl) (fun _ _ => rfl) (fun a1 a2 => ?_)
  · exact (show q_Operations_answer 79 a1 a2 = if q_Wholes_test 79 (q_Bits_signed 32 a1) (q_Bits_signed 32 a2) = 0 then (0, 0) else (0, 1) from rfl).trans ite_pr
  · have e := ts_ (W := 32) (Or.inl rfl) (y := un_ a1 % 2 ^ 32) (z := un_ a2 % 2 ^ 32) (Nat.mod_lt _ (by decide)) (Nat.mod_lt _ (by decide)) 9 (by decide)
    rw [← sig_W (Or.inl rfl) a1, ← sig_W (Or.inl rfl) a2, ← mk_even (k := q_Ref_first 79) (by decide) a1, ← mk_even (k := q_Ref_first 79) (by decide) a2] at e
    exact (congrArg (fun t : Int32 => if t = 0 then (0 : Int64) else 1) e).trans mk_ite.symm
theorem ok_81 : OK_ 81 := by
  refine ok_pure (fun a1 a2 => if q_Wholes_test 70 (q_Bits_signed 64 a1) (q_Bits_signed 64 a2) = 0 then 0 else 1) (fun m1 m2 => if q_Ref_isSo 0 64 m1 m2 = 0 then 0 else 1) (fun a1 a2 => ?_) (fun _ _ => rfl) (fun _ _ => rfl) (fun a1 a2 => ?_)
  · exact (show q_Operations_answer 81 a1 a2 = if q_Wholes_test 70 (q_Bits_signed 64 a1) (q_Bits_signed 64 a2) = 0 then (0, 0) else (0, 1) from rfl).trans ite_pr
  · have e := ts_ (W := 64) (Or.inr rfl) (y := un_ a1 % 2 ^ 64) (z := un_ a2 % 2 ^ 64) (Nat.mod_lt _ (by decide)) (Nat.mod_lt _ (by decide)) 0 (by decide)
    rw [← sig_W (Or.inr rfl) a1, ← sig_W (Or.inr rfl) a2, ← mk_odd (k := q_Ref_first 81) (by decide) a1, ← mk_odd (k := q_Ref_first 81) (by decide) a2] at e
    exact (congrArg (fun t : Int32 => if t = 0 then (0 : Int64) else 1) e).trans mk_ite.symm
theorem ok_82 : OK_ 82 := by
  refine ok_pure (fun a1 a2 => if q_Wholes_test 71 (q_Bits_signed 64 a1) (q_Bits_signed 64 a2) = 0 then 0 else 1) (fun m1 m2 => if q_Ref_isSo 1 64 m1 m2 = 0 then 0 else 1) (fun a1 a2 => ?_) (fun _ _ => rfl) (fun _ _ => rfl) (fun a1 a2 => ?_)
  · exact (show q_Operations_answer 82 a1 a2 = if q_Wholes_test 71 (q_Bits_signed 64 a1) (q_Bits_signed 64 a2) = 0 then (0, 0) else (0, 1) from rfl).trans ite_pr
  · have e := ts_ (W := 64) (Or.inr rfl) (y := un_ a1 % 2 ^ 64) (z := un_ a2 % 2 ^ 64) (Nat.mod_lt _ (by decide)) (Nat.mod_lt _ (by decide)) 1 (by decide)
    rw [← sig_W (Or.inr rfl) a1, ← sig_W (Or.inr rfl) a2, ← mk_odd (k := q_Ref_first 82) (by decide) a1, ← mk_odd (k := q_Ref_first 82) (by decide) a2] at e
    exact (congrArg (fun t : Int32 => if t = 0 then (0 : Int64) else 1) e).trans mk_ite.symm
theorem ok_83 : OK_ 83 := by
  refine ok_pure (fun a1 a2 => if q_Wholes_test 72 (q_Bits_signed 64 a1) (q_Bits_signed 64 a2) = 0 then 0 else 1) (fun m1 m2 => if q_Ref_isSo 2 64 m1 m2 = 0 then 0 else 1) (fun a1 a2 => ?_) (fun _ _ => rfl) (fun _ _ => rfl) (fun a1 a2 => ?_)
  · exact (show q_Operations_answer 83 a1 a2 = if q_Wholes_test 72 (q_Bits_signed 64 a1) (q_Bits_signed 64 a2) = 0 then (0, 0) else (0, 1) from rfl).trans ite_pr
  · have e := ts_ (W := 64) (Or.inr rfl) (y := un_ a1 % 2 ^ 64) (z := un_ a2 % 2 ^ 64) (Nat.mod_lt _ (by decide)) (Nat.mod_lt _ (by decide)) 2 (by decide)
    rw [← sig_W (Or.inr rfl) a1, ← sig_W (Or.inr rfl) a2, ← mk_odd (k := q_Ref_first 83) (by decide) a1, ← mk_odd (k := q_Ref_first 83) (by decide) a2] at e
    exact (congrArg (fun t : Int32 => if t = 0 then (0 : Int64) else 1) e).trans mk_ite.symm
theorem ok_84 : OK_ 84 := by
  refine ok_pure (fun a1 a2 => if q_Wholes_test 73 (q_Bits_signed 64 a1) (q_Bits_signed 64 a2) = 0 then 0 else 1) (fun m1 m2 => if q_Ref_isSo 3 64 m1 m2 = 0 then 0 else 1) (fun a1 a2 => ?_) (fun _ _ => rfl) (fun _ _ => rfl) (fun a1 a2 => ?_)
  · exact (show q_Operations_answer 84 a1 a2 = if q_Wholes_test 73 (q_Bits_signed 64 a1) (q_Bits_signed 64 a2) = 0 then (0, 0) else (0, 1) from rfl).trans ite_pr
  · have e := ts_ (W := 64) (Or.inr rfl) (y := un_ a1 % 2 ^ 64) (z := un_ a2 % 2 ^ 64) (Nat.mod_lt _ (by decide)) (Nat.mod_lt _ (by decide)) 3 (by decide)
    rw [← sig_W (Or.inr rfl) a1, ← sig_W (Or.inr rfl) a2, ← mk_odd (k := q_Ref_first 84) (by decide) a1, ← mk_odd (k := q_Ref_first 84) (by decide) a2] at e
    exact (congrArg (fun t : Int32 => if t = 0 then (0 : Int64) else 1) e).trans mk_ite.symm
theorem ok_85 : OK_ 85 := by
  refine ok_pure (fun a1 a2 => if q_Wholes_test 74 (q_Bits_signed 64 a1) (q_Bits_signed 64 a2) = 0 then 0 else 1) (fun m1 m2 => if q_Ref_isSo 4 64 m1 m2 = 0 then 0 else 1) (fun a1 a2 => ?_) (fun _ _ => rfl) (fun _ _ => rfl) (fun a1 a2 => ?_)
  · exact (show q_Operations_answer 85 a1 a2 = if q_Wholes_test 74 (q_Bits_signed 64 a1) (q_Bits_signed 64 a2) = 0 then (0, 0) else (0, 1) from rfl).trans ite_pr
  · have e := ts_ (W := 64) (Or.inr rfl) (y := un_ a1 % 2 ^ 64) (z := un_ a2 % 2 ^ 64) (Nat.mod_lt _ (by decide)) (Nat.mod_lt _ (by decide)) 4 (by decide)
    rw [← sig_W (Or.inr rfl) a1, ← sig_W (Or.inr rfl) a2, ← mk_odd (k := q_Ref_first 85) (by decide) a1, ← mk_odd (k := q_Ref_first 85) (by decide) a2] at e
    exact (congrArg (fun t : Int32 => if t = 0 then (0 : Int64) else 1) e).trans mk_ite.symm
theorem ok_86 : OK_ 86 := by
  refine ok_pure (fun a1 a2 => if q_Wholes_test 75 (q_Bits_signed 64 a1) (q_Bits_signed 64 a2) = 0 then 0 else 1) (fun m1 m2 => if q_Ref_isSo 5 64 m1 m2 = 0 then 0 else 1) (fun a1 a2 => ?_) (fun _ _ => rfl) (fun _ _ => rfl) (fun a1 a2 => ?_)
  · exact (show q_Operations_answer 86 a1 a2 = if q_Wholes_test 75 (q_Bits_signed 64 a1) (q_Bits_signed 64 a2) = 0 then (0, 0) else (0, 1) from rfl).trans ite_pr
  · have e := ts_ (W := 64) (Or.inr rfl) (y := un_ a1 % 2 ^ 64) (z := un_ a2 % 2 ^ 64) (Nat.mod_lt _ (by decide)) (Nat.mod_lt _ (by decide)) 5 (by decide)
    rw [← sig_W (Or.inr rfl) a1, ← sig_W (Or.inr rfl) a2, ← mk_odd (k := q_Ref_first 86) (by decide) a1, ← mk_odd (k := q_Ref_first 86) (by decide) a2] at e
    exact (congrArg (fun t : Int32 => if t = 0 then (0 : Int64) else 1) e).trans mk_ite.symm
theorem ok_87 : OK_ 87 := by
  refine ok_pure (fun a1 a2 => if q_Wholes_test 76 (q_Bits_signed 64 a1) (q_Bits_signed 64 a2) = 0 then 0 else 1) (fun m1 m2 => if q_Ref_isSo 6 64 m1 m2 = 0 then 0 else 1) (fun a1 a2 => ?_) (fun _ _ => rfl) (fun _ _ => rfl) (fun a1 a2 => ?_)
  · exact (show q_Operations_answer 87 a1 a2 = if q_Wholes_test 76 (q_Bits_signed 64 a1) (q_Bits_signed 64 a2) = 0 then (0, 0) else (0, 1) from rfl).trans ite_pr
  · have e := ts_ (W := 64) (Or.inr rfl) (y := un_ a1 % 2 ^ 64) (z := un_ a2 % 2 ^ 64) (Nat.mod_lt _ (by decide)) (Nat.mod_lt _ (by decide)) 6 (by decide)
    rw [← sig_W (Or.inr rfl) a1, ← sig_W (Or.inr rfl) a2, ← mk_odd (k := q_Ref_first 87) (by decide) a1, ← mk_odd (k := q_Ref_first 87) (by decide) a2] at e
    exact (congrArg (fun t : Int32 => if t = 0 then (0 : Int64) else 1) e).trans mk_ite.symm
theorem ok_88 : OK_ 88 := by
  refine ok_pure (fun a1 a2 => if q_Wholes_test 77 (q_Bits_signed 64 a1) (q_Bits_signed 64 a2) = 0 then 0 else 1) (fun m1 m2 => if q_Ref_isSo 7 64 m1 m2 = 0 then 0 else 1) (fun a1 a2 => ?_) (fun _ _ => rfl) (fun _ _ => rfl) (fun a1 a2 => ?_)
  · exact (show q_Operations_answer 88 a1 a2 = if q_Wholes_test 77 (q_Bits_signed 64 a1) (q_Bits_signed 64 a2) = 0 then (0, 0) else (0, 1) from rfl).trans ite_pr
  · have e := ts_ (W := 64) (Or.inr rfl) (y := un_ a1 % 2 ^ 64) (z := un_ a2 % 2 ^ 64) (Nat.mod_lt _ (by decide)) (Nat.mod_lt _ (by decide)) 7 (by decide)
    rw [← sig_W (Or.inr rfl) a1, ← sig_W (Or.inr rfl) a2, ← mk_odd (k := q_Ref_first 88) (by decide) a1, ← mk_odd (k := q_Ref_first 88) (by decide) a2] at e
    exact (congrArg (fun t : Int32 => if t = 0 then (0 : Int64) else 1) e).trans mk_ite.symm
theorem ok_89 : OK_ 89 := by
  refine ok_pure (fun a1 a2 => if q_Wholes_test 78 (q_Bits_signed 64 a1) (q_Bits_signed 64 a2) = 0 then 0 else 1) (fun m1 m2 => if q_Ref_isSo 8 64 m1 m2 = 0 then 0 else 1) (fun a1 a2 => ?_) (fun _ _ => rfl) (fun _ _ => rfl) (fun a1 a2 => ?_)
  · exact (show q_Operations_answer 89 a1 a2 = if q_Wholes_test 78 (q_Bits_signed 64 a1) (q_Bits_signed 64 a2) = 0 then (0, 0) else (0, 1) from rfl).trans ite_pr
  · have e := ts_ (W := 64) (Or.inr rfl) (y := un_ a1 % 2 ^ 64) (z := un_ a2 % 2 ^ 64) (Nat.mod_lt _ (by decide)) (Nat.mod_lt _ (by decide)) 8 (by decide)
    rw [← sig_W (Or.inr rfl) a1, ← sig_W (Or.inr rfl) a2, ← mk_odd (k := q_Ref_first 89) (by decide) a1, ← mk_odd (k := q_Ref_first 89) (by decide) a2] at e
    exact (congrArg (fun t : Int32 => if t = 0 then (0 : Int64) else 1) e).trans mk_ite.symm
theorem ok_90 : OK_ 90 := by
  refine ok_pure (fun a1 a2 => if q_Wholes_test 79 (q_Bits_signed 64 a1) (q_Bits_signed 64 a2) = 0 then 0 else 1) (fun m1 m2 => if q_Ref_isSo 9 64 m1 m2 = 0 then 0 else 1) (fun a1 a2 => ?_) (fun _ _ => rfl) (fun _ _ => rfl) (fun a1 a2 => ?_)
  · exact (show q_Operations_answer 90 a1 a2 = if q_Wholes_test 79 (q_Bits_signed 64 a1) (q_Bits_signed 64 a2) = 0 then (0, 0) else (0, 1) from rfl).trans ite_pr
  · have e := ts_ (W := 64) (Or.inr rfl) (y := un_ a1 % 2 ^ 64) (z := un_ a2 % 2 ^ 64) (Nat.mod_lt _ (by decide)) (Nat.mod_lt _ (by decide)) 9 (by decide)
    rw [← sig_W (Or.inr rfl) a1, ← sig_W (Or.inr rfl) a2, ← mk_odd (k := q_Ref_first 90) (by decide) a1, ← mk_odd (k := q_Ref_first 90) (by decide) a2] at e
    exact (congrArg (fun t : Int32 => if t = 0 then (0 : Int64) else 1) e).trans mk_ite.symm
theorem ok_69 : OK_ 69 := by
  refine ok_pure (fun a1 a2 => if q_Wholes_test 69 (q_Bits_signed 32 a1) (q_Bits_signed 32 a2) = 0 then 0 else 1) (fun m1 m2 => if m1 = 0 then 1 else 0) (fun a1 a2 => ?_) (fun _ _ => rfl) (fun _ _ => rfl) (fun a1 a2 => ?_)
  · exact (show q_Operations_answer 69 a1 a2 = if q_Wholes_test 69 (q_Bits_signed 32 a1) (q_Bits_signed 32 a2) = 0 then (0, 0) else (0, 1) from rfl).trans ite_pr
  · have e : (q_Bits_signed 32 a1 = 0) ↔ (mk1_ (q_Ref_first 69) a1 = 0) := by
      rw [show (32 : Int32) = nI 32 from rfl, sig_W (Or.inl rfl), mk_even (by decide), show (0 : Int64) = zL (sy_ 32 0) by decide, zL_eq (sy_r (Or.inl rfl) (Nat.mod_lt _ (by decide))) (sy_r (Or.inl rfl) (by decide)), sy_lt (Or.inl rfl) (Nat.mod_lt _ (by decide)) (by decide), show zL (sy_ 32 0) = lN 0 by decide, lN_inj64 (Nat.lt_of_lt_of_le (Nat.mod_lt _ (by decide)) (by decide)) (by decide)]
    show (if (if q_Bits_signed 32 a1 = 0 then (1 : Int32) else 0) = 0 then (0 : Int64) else 1) = mk1_ _ (if mk1_ (q_Ref_first 69) a1 = 0 then 1 else 0)
    rw [mk_small (by split; exact Or.inr rfl; exact Or.inl rfl)]
    by_cases c : mk1_ (q_Ref_first 69) a1 = 0
    · rw [if_pos c, if_pos (e.mpr c)]; rfl
    · rw [if_neg c, if_neg (fun z => c (e.mp z))]; rfl
theorem ok_80 : OK_ 80 := by
  refine ok_pure (fun a1 a2 => if q_Wholes_test 69 (q_Bits_signed 64 a1) (q_Bits_signed 64 a2) = 0 then 0 else 1) (fun m1 m2 => if m1 = 0 then 1 else 0) (fun a1 a2 => ?_) (fun _ _ => rfl) (fun _ _ => rfl) (fun a1 a2 => ?_)
  · exact (show q_Operations_answer 80 a1 a2 = if q_Wholes_test 69 (q_Bits_signed 64 a1) (q_Bits_signed 64 a2) = 0 then (0, 0) else (0, 1) from rfl).trans ite_pr
  · have e : (q_Bits_signed 64 a1 = 0) ↔ (mk1_ (q_Ref_first 80) a1 = 0) := by
      rw [show (64 : Int32) = nI 64 from rfl, sig_W (Or.inr rfl), mk_odd (by decide), show (0 : Int64) = zL (sy_ 64 0) by decide, zL_eq (sy_r (Or.inr rfl) (Nat.mod_lt _ (by decide))) (sy_r (Or.inr rfl) (by decide)), sy_lt (Or.inr rfl) (Nat.mod_lt _ (by decide)) (by decide), show zL (sy_ 64 0) = lN 0 by decide, lN_inj64 (Nat.lt_of_lt_of_le (Nat.mod_lt _ (by decide)) (by decide)) (by decide)]
    show (if (if q_Bits_signed 64 a1 = 0 then (1 : Int32) else 0) = 0 then (0 : Int64) else 1) = mk1_ _ (if mk1_ (q_Ref_first 80) a1 = 0 then 1 else 0)
    rw [mk_small (by split; exact Or.inr rfl; exact Or.inl rfl)]
    by_cases c : mk1_ (q_Ref_first 80) a1 = 0
    · rw [if_pos c, if_pos (e.mpr c)]; rfl
    · rw [if_neg c, if_neg (fun z => c (e.mp z))]; rfl
