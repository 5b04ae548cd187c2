/-! the tests of whole numbers -/
theorem wq_69 (x y : Int64) : q_Wholes_test 69 x y = (if x = 0 then 1 else 0) := by unfold q_Wholes_test; simp (decide := true) only [↓reduceIte]
theorem wq_70 (x y : Int64) : q_Wholes_test 70 x y = (if x = y then 1 else 0) := by unfold q_Wholes_test; simp (decide := true) only [↓reduceIte]
theorem wq_71 (x y : Int64) : q_Wholes_test 71 x y = (if x = y then 0 else 1) := by unfold q_Wholes_test; simp (decide := true) only [↓reduceIte]
theorem wq_72 (x y : Int64) : q_Wholes_test 72 x y = (if y ≤ x then 0 else 1) := by unfold q_Wholes_test; simp (decide := true) only [↓reduceIte]
theorem wq_73 (x y : Int64) : q_Wholes_test 73 x y = (if 0 ≤ q_Long_compareUnsigned x y then 0 else 1) := by unfold q_Wholes_test; simp (decide := true) only [↓reduceIte]
theorem wq_74 (x y : Int64) : q_Wholes_test 74 x y = (if x ≤ y then 0 else 1) := by unfold q_Wholes_test; simp (decide := true) only [↓reduceIte]
theorem wq_75 (x y : Int64) : q_Wholes_test 75 x y = (if q_Long_compareUnsigned x y ≤ 0 then 0 else 1) := by unfold q_Wholes_test; simp (decide := true) only [↓reduceIte]
theorem wq_76 (x y : Int64) : q_Wholes_test 76 x y = (if y < x then 0 else 1) := by unfold q_Wholes_test; simp (decide := true) only [↓reduceIte]
theorem wq_77 (x y : Int64) : q_Wholes_test 77 x y = (if 0 < q_Long_compareUnsigned x y then 0 else 1) := by unfold q_Wholes_test; simp (decide := true) only [↓reduceIte]
theorem wq_78 (x y : Int64) : q_Wholes_test 78 x y = (if x < y then 0 else 1) := by unfold q_Wholes_test; simp (decide := true) only [↓reduceIte]
theorem wq_79 (x y : Int64) : q_Wholes_test 79 x y = (if q_Long_compareUnsigned x y < 0 then 0 else 1) := by unfold q_Wholes_test; simp (decide := true) only [↓reduceIte]
theorem is_0 (w : Int32) (x y : Int64) : q_Ref_isSo 0 w x y = (if x = y then 1 else 0) := by unfold q_Ref_isSo; simp (decide := true) only [↓reduceIte]
theorem is_1 (w : Int32) (x y : Int64) : q_Ref_isSo 1 w x y = (if x = y then 0 else 1) := by unfold q_Ref_isSo; simp (decide := true) only [↓reduceIte]
theorem is_2 (w : Int32) (x y : Int64) : q_Ref_isSo 2 w x y = (if q_Ref_withSign y w ≤ q_Ref_withSign x w then 0 else 1) := by unfold q_Ref_isSo; simp (decide := true) only [↓reduceIte]
theorem is_3 (w : Int32) (x y : Int64) : q_Ref_isSo 3 w x y = (q_Ref_below x y) := by unfold q_Ref_isSo; simp (decide := true) only [↓reduceIte]
theorem is_4 (w : Int32) (x y : Int64) : q_Ref_isSo 4 w x y = (if q_Ref_withSign x w ≤ q_Ref_withSign y w then 0 else 1) := by unfold q_Ref_isSo; simp (decide := true) only [↓reduceIte]
theorem is_5 (w : Int32) (x y : Int64) : q_Ref_isSo 5 w x y = (q_Ref_below y x) := by unfold q_Ref_isSo; simp (decide := true) only [↓reduceIte]
theorem is_6 (w : Int32) (x y : Int64) : q_Ref_isSo 6 w x y = (if q_Ref_withSign y w < q_Ref_withSign x w then 0 else 1) := by unfold q_Ref_isSo; simp (decide := true) only [↓reduceIte]
theorem is_7 (w : Int32) (x y : Int64) : q_Ref_isSo 7 w x y = (if q_Ref_below y x = 0 then 1 else 0) := by unfold q_Ref_isSo; simp (decide := true) only [↓reduceIte]
theorem is_8 (w : Int32) (x y : Int64) : q_Ref_isSo 8 w x y = (if q_Ref_withSign x w < q_Ref_withSign y w then 0 else 1) := by unfold q_Ref_isSo; simp (decide := true) only [↓reduceIte]
theorem is_9 (w : Int32) (x y : Int64) : q_Ref_isSo 9 w x y = (if q_Ref_below x y = 0 then 1 else 0) := by unfold q_Ref_isSo; simp (decide := true) only [↓reduceIte]
theorem mk_small {k : Int32} {v : Int64} (h : v = 0 ∨ v = 1) : mk1_ k v = v := by
  unfold mk1_
  split
  · rcases h with rfl | rfl <;> decide
  · rfl
theorem mk_ite {k : Int32} {c : Prop} [Decidable c] : mk1_ k (if c then (0 : Int64) else 1) = if c then 0 else 1 := mk_small (by split; exact Or.inl rfl; exact Or.inr rfl)
theorem mk_ite' {k : Int32} {c : Prop} [Decidable c] : mk1_ k (if c then (1 : Int64) else 0) = if c then 1 else 0 := mk_small (by split; exact Or.inr rfl; exact Or.inl rfl)
theorem cu_W {W : Nat} (hW : wd_ W) {y z : Nat} (hy : y < 2 ^ W) (hz : z < 2 ^ W) : q_Long_compareUnsigned (zL (sy_ W y)) (zL (sy_ W z)) = if y < z then -1 else if y = z then 0 else 1 := by
  rw [se_e hW hy, se_e hW hz, cu_e (se_lt hW hy) (se_lt hW hz)]
  have m := se_mono hW hy hz
  simp only [m.1, m.2]
theorem W_64 {W y : Nat} (hW : wd_ W) (hy : y < 2 ^ W) : y < 2 ^ 64 := by rcases hW with rfl | rfl <;> omega
theorem ts_0 {W : Nat} (hW : wd_ W) {y z : Nat} (hy : y < 2 ^ W) (hz : z < 2 ^ W) : q_Wholes_test 70 (zL (sy_ W y)) (zL (sy_ W z)) = q_Ref_isSo 0 (nI W) (lN y) (lN z) := by
  rw [wq_70, is_0]
  simp only [zL_eq (sy_r hW hy) (sy_r hW hz), sy_lt hW hy hz, lN_inj64 (W_64 hW hy) (W_64 hW hz)]
theorem ts_1 {W : Nat} (hW : wd_ W) {y z : Nat} (hy : y < 2 ^ W) (hz : z < 2 ^ W) : q_Wholes_test 71 (zL (sy_ W y)) (zL (sy_ W z)) = q_Ref_isSo 1 (nI W) (lN y) (lN z) := by
  rw [wq_71, is_1]
  simp only [zL_eq (sy_r hW hy) (sy_r hW hz), sy_lt hW hy hz, lN_inj64 (W_64 hW hy) (W_64 hW hz)]
theorem ts_2 {W : Nat} (hW : wd_ W) {y z : Nat} (hy : y < 2 ^ W) (hz : z < 2 ^ W) : q_Wholes_test 72 (zL (sy_ W y)) (zL (sy_ W z)) = q_Ref_isSo 2 (nI W) (lN y) (lN z) := by
  rw [wq_72, is_2]
  rw [ws_W hW hy, ws_W hW hz]
theorem ts_3 {W : Nat} (hW : wd_ W) {y z : Nat} (hy : y < 2 ^ W) (hz : z < 2 ^ W) : q_Wholes_test 73 (zL (sy_ W y)) (zL (sy_ W z)) = q_Ref_isSo 3 (nI W) (lN y) (lN z) := by
  rw [wq_73, is_3]
  rw [cu_W hW hy hz, be_e (W_64 hW hy) (W_64 hW hz)]
  rcases Nat.lt_trichotomy y z with c | c | c
  · simp (decide := true) only [c, Nat.lt_asymm c, Nat.ne_of_lt c, ↓reduceIte]
  · simp (decide := true) only [c, Nat.lt_irrefl, ↓reduceIte]
  · simp (decide := true) only [c, Nat.lt_asymm c, Nat.ne_of_gt c, ↓reduceIte]
theorem ts_4 {W : Nat} (hW : wd_ W) {y z : Nat} (hy : y < 2 ^ W) (hz : z < 2 ^ W) : q_Wholes_test 74 (zL (sy_ W y)) (zL (sy_ W z)) = q_Ref_isSo 4 (nI W) (lN y) (lN z) := by
  rw [wq_74, is_4]
  rw [ws_W hW hy, ws_W hW hz]
theorem ts_5 {W : Nat} (hW : wd_ W) {y z : Nat} (hy : y < 2 ^ W) (hz : z < 2 ^ W) : q_Wholes_test 75 (zL (sy_ W y)) (zL (sy_ W z)) = q_Ref_isSo 5 (nI W) (lN y) (lN z) := by
  rw [wq_75, is_5]
  rw [cu_W hW hy hz, be_e (W_64 hW hz) (W_64 hW hy)]
  rcases Nat.lt_trichotomy y z with c | c | c
  · simp (decide := true) only [c, Nat.lt_asymm c, Nat.ne_of_lt c, ↓reduceIte]
  · simp (decide := true) only [c, Nat.lt_irrefl, ↓reduceIte]
  · simp (decide := true) only [c, Nat.lt_asymm c, Nat.ne_of_gt c, ↓reduceIte]
theorem ts_6 {W : Nat} (hW : wd_ W) {y z : Nat} (hy : y < 2 ^ W) (hz : z < 2 ^ W) : q_Wholes_test 76 (zL (sy_ W y)) (zL (sy_ W z)) = q_Ref_isSo 6 (nI W) (lN y) (lN z) := by
  rw [wq_76, is_6]
  rw [ws_W hW hy, ws_W hW hz]
theorem ts_7 {W : Nat} (hW : wd_ W) {y z : Nat} (hy : y < 2 ^ W) (hz : z < 2 ^ W) : q_Wholes_test 77 (zL (sy_ W y)) (zL (sy_ W z)) = q_Ref_isSo 7 (nI W) (lN y) (lN z) := by
  rw [wq_77, is_7]
  rw [cu_W hW hy hz, be_e (W_64 hW hz) (W_64 hW hy)]
  rcases Nat.lt_trichotomy y z with c | c | c
  · simp (decide := true) only [c, Nat.lt_asymm c, Nat.ne_of_lt c, ↓reduceIte]
  · simp (decide := true) only [c, Nat.lt_irrefl, ↓reduceIte]
  · simp (decide := true) only [c, Nat.lt_asymm c, Nat.ne_of_gt c, ↓reduceIte]
theorem ts_8 {W : Nat} (hW : wd_ W) {y z : Nat} (hy : y < 2 ^ W) (hz : z < 2 ^ W) : q_Wholes_test 78 (zL (sy_ W y)) (zL (sy_ W z)) = q_Ref_isSo 8 (nI W) (lN y) (lN z) := by
  rw [wq_78, is_8]
  rw [ws_W hW hy, ws_W hW hz]
theorem ts_9 {W : Nat} (hW : wd_ W) {y z : Nat} (hy : y < 2 ^ W) (hz : z < 2 ^ W) : q_Wholes_test 79 (zL (sy_ W y)) (zL (sy_ W z)) = q_Ref_isSo 9 (nI W) (lN y) (lN z) := by
  rw [wq_79, is_9]
  rw [cu_W hW hy hz, be_e (W_64 hW hy) (W_64 hW hz)]
  rcases Nat.lt_trichotomy y z with c | c | c
  · simp (decide := true) only [c, Nat.lt_asymm c, Nat.ne_of_lt c, ↓reduceIte]
  · simp (decide := true) only [c, Nat.lt_irrefl, ↓reduceIte]
  · simp (decide := true) only [c, Nat.lt_asymm c, Nat.ne_of_gt c, ↓reduceIte]
theorem ra_70 (m1 m2 : Int64) : q_Ref_answer 0 70 m1 m2 = if q_Ref_isSo 0 32 m1 m2 = 0 then 0 else 1 := by unfold q_Ref_answer; simp (decide := true) only [↓reduceIte, Int32.reduceSub]
theorem rc_70 (m1 m2 : Int64) : q_Ref_answer_cd 0 70 m1 m2 = 0 := by unfold q_Ref_answer_cd; simp (decide := true) only [↓reduceIte]
theorem ok_70 : OK_ 70 := by
  refine ok_pure _ _ (an_t32 (p := 70) (by decide +kernel) (by decide +kernel) (by decide +kernel) (by decide +kernel) (by decide +kernel) (by decide +kernel)) rc_70 ra_70 (fun a1 a2 => ?_)
  have e := ts_0 (W := 32) (Or.inl rfl) (y := un_ a1 % 2 ^ 32) (z := un_ a2 % 2 ^ 32) (Nat.mod_lt _ (by decide)) (Nat.mod_lt _ (by decide))
  rw [← sig_W (Or.inl rfl) a1, ← sig_W (Or.inl rfl) a2, ← mk_even (k := q_Ref_first 70) (by decide +kernel) a1, ← mk_even (k := q_Ref_first 70) (by decide +kernel) a2] at e
  rw [mk_ite]
  exact congrArg (fun t : Int32 => if t = 0 then (0 : Int64) else 1) e
theorem ra_71 (m1 m2 : Int64) : q_Ref_answer 0 71 m1 m2 = if q_Ref_isSo 1 32 m1 m2 = 0 then 0 else 1 := by unfold q_Ref_answer; simp (decide := true) only [↓reduceIte, Int32.reduceSub]
theorem rc_71 (m1 m2 : Int64) : q_Ref_answer_cd 0 71 m1 m2 = 0 := by unfold q_Ref_answer_cd; simp (decide := true) only [↓reduceIte]
theorem ok_71 : OK_ 71 := by
  refine ok_pure _ _ (an_t32 (p := 71) (by decide +kernel) (by decide +kernel) (by decide +kernel) (by decide +kernel) (by decide +kernel) (by decide +kernel)) rc_71 ra_71 (fun a1 a2 => ?_)
  have e := ts_1 (W := 32) (Or.inl rfl) (y := un_ a1 % 2 ^ 32) (z := un_ a2 % 2 ^ 32) (Nat.mod_lt _ (by decide)) (Nat.mod_lt _ (by decide))
  rw [← sig_W (Or.inl rfl) a1, ← sig_W (Or.inl rfl) a2, ← mk_even (k := q_Ref_first 71) (by decide +kernel) a1, ← mk_even (k := q_Ref_first 71) (by decide +kernel) a2] at e
  rw [mk_ite]
  exact congrArg (fun t : Int32 => if t = 0 then (0 : Int64) else 1) e
theorem ra_72 (m1 m2 : Int64) : q_Ref_answer 0 72 m1 m2 = if q_Ref_isSo 2 32 m1 m2 = 0 then 0 else 1 := by unfold q_Ref_answer; simp (decide := true) only [↓reduceIte, Int32.reduceSub]
theorem rc_72 (m1 m2 : Int64) : q_Ref_answer_cd 0 72 m1 m2 = 0 := by unfold q_Ref_answer_cd; simp (decide := true) only [↓reduceIte]
theorem ok_72 : OK_ 72 := by
  refine ok_pure _ _ (an_t32 (p := 72) (by decide +kernel) (by decide +kernel) (by decide +kernel) (by decide +kernel) (by decide +kernel) (by decide +kernel)) rc_72 ra_72 (fun a1 a2 => ?_)
  have e := ts_2 (W := 32) (Or.inl rfl) (y := un_ a1 % 2 ^ 32) (z := un_ a2 % 2 ^ 32) (Nat.mod_lt _ (by decide)) (Nat.mod_lt _ (by decide))
  rw [← sig_W (Or.inl rfl) a1, ← sig_W (Or.inl rfl) a2, ← mk_even (k := q_Ref_first 72) (by decide +kernel) a1, ← mk_even (k := q_Ref_first 72) (by decide +kernel) a2] at e
  rw [mk_ite]
  exact congrArg (fun t : Int32 => if t = 0 then (0 : Int64) else 1) e
theorem ra_73 (m1 m2 : Int64) : q_Ref_answer 0 73 m1 m2 = if q_Ref_isSo 3 32 m1 m2 = 0 then 0 else 1 := by unfold q_Ref_answer; simp (decide := true) only [↓reduceIte, Int32.reduceSub]
theorem rc_73 (m1 m2 : Int64) : q_Ref_answer_cd 0 73 m1 m2 = 0 := by unfold q_Ref_answer_cd; simp (decide := true) only [↓reduceIte]
theorem ok_73 : OK_ 73 := by
  refine ok_pure _ _ (an_t32 (p := 73) (by decide +kernel) (by decide +kernel) (by decide +kernel) (by decide +kernel) (by decide +kernel) (by decide +kernel)) rc_73 ra_73 (fun a1 a2 => ?_)
  have e := ts_3 (W := 32) (Or.inl rfl) (y := un_ a1 % 2 ^ 32) (z := un_ a2 % 2 ^ 32) (Nat.mod_lt _ (by decide)) (Nat.mod_lt _ (by decide))
  rw [← sig_W (Or.inl rfl) a1, ← sig_W (Or.inl rfl) a2, ← mk_even (k := q_Ref_first 73) (by decide +kernel) a1, ← mk_even (k := q_Ref_first 73) (by decide +kernel) a2] at e
  rw [mk_ite]
  exact congrArg (fun t : Int32 => if t = 0 then (0 : Int64) else 1) e
theorem ra_74 (m1 m2 : Int64) : q_Ref_answer 0 74 m1 m2 = if q_Ref_isSo 4 32 m1 m2 = 0 then 0 else 1 := by unfold q_Ref_answer; simp (decide := true) only [↓reduceIte, Int32.reduceSub]
theorem rc_74 (m1 m2 : Int64) : q_Ref_answer_cd 0 74 m1 m2 = 0 := by unfold q_Ref_answer_cd; simp (decide := true) only [↓reduceIte]
theorem ok_74 : OK_ 74 := by
  refine ok_pure _ _ (an_t32 (p := 74) (by decide +kernel) (by decide +kernel) (by decide +kernel) (by decide +kernel) (by decide +kernel) (by decide +kernel)) rc_74 ra_74 (fun a1 a2 => ?_)
  have e := ts_4 (W := 32) (Or.inl rfl) (y := un_ a1 % 2 ^ 32) (z := un_ a2 % 2 ^ 32) (Nat.mod_lt _ (by decide)) (Nat.mod_lt _ (by decide))
  rw [← sig_W (Or.inl rfl) a1, ← sig_W (Or.inl rfl) a2, ← mk_even (k := q_Ref_first 74) (by decide +kernel) a1, ← mk_even (k := q_Ref_first 74) (by decide +kernel) a2] at e
  rw [mk_ite]
  exact congrArg (fun t : Int32 => if t = 0 then (0 : Int64) else 1) e
theorem ra_75 (m1 m2 : Int64) : q_Ref_answer 0 75 m1 m2 = if q_Ref_isSo 5 32 m1 m2 = 0 then 0 else 1 := by unfold q_Ref_answer; simp (decide := true) only [↓reduceIte, Int32.reduceSub]
theorem rc_75 (m1 m2 : Int64) : q_Ref_answer_cd 0 75 m1 m2 = 0 := by unfold q_Ref_answer_cd; simp (decide := true) only [↓reduceIte]
theorem ok_75 : OK_ 75 := by
  refine ok_pure _ _ (an_t32 (p := 75) (by decide +kernel) (by decide +kernel) (by decide +kernel) (by decide +kernel) (by decide +kernel) (by decide +kernel)) rc_75 ra_75 (fun a1 a2 => ?_)
  have e := ts_5 (W := 32) (Or.inl rfl) (y := un_ a1 % 2 ^ 32) (z := un_ a2 % 2 ^ 32) (Nat.mod_lt _ (by decide)) (Nat.mod_lt _ (by decide))
  rw [← sig_W (Or.inl rfl) a1, ← sig_W (Or.inl rfl) a2, ← mk_even (k := q_Ref_first 75) (by decide +kernel) a1, ← mk_even (k := q_Ref_first 75) (by decide +kernel) a2] at e
  rw [mk_ite]
  exact congrArg (fun t : Int32 => if t = 0 then (0 : Int64) else 1) e
theorem ra_76 (m1 m2 : Int64) : q_Ref_answer 0 76 m1 m2 = if q_Ref_isSo 6 32 m1 m2 = 0 then 0 else 1 := by unfold q_Ref_answer; simp (decide := true) only [↓reduceIte, Int32.reduceSub]
theorem rc_76 (m1 m2 : Int64) : q_Ref_answer_cd 0 76 m1 m2 = 0 := by unfold q_Ref_answer_cd; simp (decide := true) only [↓reduceIte]
theorem ok_76 : OK_ 76 := by
  refine ok_pure _ _ (an_t32 (p := 76) (by decide +kernel) (by decide +kernel) (by decide +kernel) (by decide +kernel) (by decide +kernel) (by decide +kernel)) rc_76 ra_76 (fun a1 a2 => ?_)
  have e := ts_6 (W := 32) (Or.inl rfl) (y := un_ a1 % 2 ^ 32) (z := un_ a2 % 2 ^ 32) (Nat.mod_lt _ (by decide)) (Nat.mod_lt _ (by decide))
  rw [← sig_W (Or.inl rfl) a1, ← sig_W (Or.inl rfl) a2, ← mk_even (k := q_Ref_first 76) (by decide +kernel) a1, ← mk_even (k := q_Ref_first 76) (by decide +kernel) a2] at e
  rw [mk_ite]
  exact congrArg (fun t : Int32 => if t = 0 then (0 : Int64) else 1) e
theorem ra_77 (m1 m2 : Int64) : q_Ref_answer 0 77 m1 m2 = if q_Ref_isSo 7 32 m1 m2 = 0 then 0 else 1 := by unfold q_Ref_answer; simp (decide := true) only [↓reduceIte, Int32.reduceSub]
theorem rc_77 (m1 m2 : Int64) : q_Ref_answer_cd 0 77 m1 m2 = 0 := by unfold q_Ref_answer_cd; simp (decide := true) only [↓reduceIte]
theorem ok_77 : OK_ 77 := by
  refine ok_pure _ _ (an_t32 (p := 77) (by decide +kernel) (by decide +kernel) (by decide +kernel) (by decide +kernel) (by decide +kernel) (by decide +kernel)) rc_77 ra_77 (fun a1 a2 => ?_)
  have e := ts_7 (W := 32) (Or.inl rfl) (y := un_ a1 % 2 ^ 32) (z := un_ a2 % 2 ^ 32) (Nat.mod_lt _ (by decide)) (Nat.mod_lt _ (by decide))
  rw [← sig_W (Or.inl rfl) a1, ← sig_W (Or.inl rfl) a2, ← mk_even (k := q_Ref_first 77) (by decide +kernel) a1, ← mk_even (k := q_Ref_first 77) (by decide +kernel) a2] at e
  rw [mk_ite]
  exact congrArg (fun t : Int32 => if t = 0 then (0 : Int64) else 1) e
theorem ra_78 (m1 m2 : Int64) : q_Ref_answer 0 78 m1 m2 = if q_Ref_isSo 8 32 m1 m2 = 0 then 0 else 1 := by unfold q_Ref_answer; simp (decide := true) only [↓reduceIte, Int32.reduceSub]
theorem rc_78 (m1 m2 : Int64) : q_Ref_answer_cd 0 78 m1 m2 = 0 := by unfold q_Ref_answer_cd; simp (decide := true) only [↓reduceIte]
theorem ok_78 : OK_ 78 := by
  refine ok_pure _ _ (an_t32 (p := 78) (by decide +kernel) (by decide +kernel) (by decide +kernel) (by decide +kernel) (by decide +kernel) (by decide +kernel)) rc_78 ra_78 (fun a1 a2 => ?_)
  have e := ts_8 (W := 32) (Or.inl rfl) (y := un_ a1 % 2 ^ 32) (z := un_ a2 % 2 ^ 32) (Nat.mod_lt _ (by decide)) (Nat.mod_lt _ (by decide))
  rw [← sig_W (Or.inl rfl) a1, ← sig_W (Or.inl rfl) a2, ← mk_even (k := q_Ref_first 78) (by decide +kernel) a1, ← mk_even (k := q_Ref_first 78) (by decide +kernel) a2] at e
  rw [mk_ite]
  exact congrArg (fun t : Int32 => if t = 0 then (0 : Int64) else 1) e
theorem ra_79 (m1 m2 : Int64) : q_Ref_answer 0 79 m1 m2 = if q_Ref_isSo 9 32 m1 m2 = 0 then 0 else 1 := by unfold q_Ref_answer; simp (decide := true) only [↓reduceIte, Int32.reduceSub]
theorem rc_79 (m1 m2 : Int64) : q_Ref_answer_cd 0 79 m1 m2 = 0 := by unfold q_Ref_answer_cd; simp (decide := true) only [↓reduceIte]
theorem ok_79 : OK_ 79 := by
  refine ok_pure _ _ (an_t32 (p := 79) (by decide +kernel) (by decide +kernel) (by decide +kernel) (by decide +kernel) (by decide +kernel) (by decide +kernel)) rc_79 ra_79 (fun a1 a2 => ?_)
  have e := ts_9 (W := 32) (Or.inl rfl) (y := un_ a1 % 2 ^ 32) (z := un_ a2 % 2 ^ 32) (Nat.mod_lt _ (by decide)) (Nat.mod_lt _ (by decide))
  rw [← sig_W (Or.inl rfl) a1, ← sig_W (Or.inl rfl) a2, ← mk_even (k := q_Ref_first 79) (by decide +kernel) a1, ← mk_even (k := q_Ref_first 79) (by decide +kernel) a2] at e
  rw [mk_ite]
  exact congrArg (fun t : Int32 => if t = 0 then (0 : Int64) else 1) e
theorem ra_81 (m1 m2 : Int64) : q_Ref_answer 0 81 m1 m2 = if q_Ref_isSo 0 64 m1 m2 = 0 then 0 else 1 := by unfold q_Ref_answer; simp (decide := true) only [↓reduceIte, Int32.reduceSub]
theorem rc_81 (m1 m2 : Int64) : q_Ref_answer_cd 0 81 m1 m2 = 0 := by unfold q_Ref_answer_cd; simp (decide := true) only [↓reduceIte]
theorem ok_81 : OK_ 81 := by
  refine ok_pure _ _ (an_t64 (p := 70) (by decide +kernel) (by decide +kernel) (by decide +kernel) (by decide +kernel) (by decide +kernel) (by decide +kernel)) rc_81 ra_81 (fun a1 a2 => ?_)
  have e := ts_0 (W := 64) (Or.inr rfl) (y := un_ a1 % 2 ^ 64) (z := un_ a2 % 2 ^ 64) (Nat.mod_lt _ (by decide)) (Nat.mod_lt _ (by decide))
  rw [← sig_W (Or.inr rfl) a1, ← sig_W (Or.inr rfl) a2, ← mk_odd (k := q_Ref_first 81) (by decide +kernel) a1, ← mk_odd (k := q_Ref_first 81) (by decide +kernel) a2] at e
  rw [mk_ite]
  exact congrArg (fun t : Int32 => if t = 0 then (0 : Int64) else 1) e
theorem ra_82 (m1 m2 : Int64) : q_Ref_answer 0 82 m1 m2 = if q_Ref_isSo 1 64 m1 m2 = 0 then 0 else 1 := by unfold q_Ref_answer; simp (decide := true) only [↓reduceIte, Int32.reduceSub]
theorem rc_82 (m1 m2 : Int64) : q_Ref_answer_cd 0 82 m1 m2 = 0 := by unfold q_Ref_answer_cd; simp (decide := true) only [↓reduceIte]
theorem ok_82 : OK_ 82 := by
  refine ok_pure _ _ (an_t64 (p := 71) (by decide +kernel) (by decide +kernel) (by decide +kernel) (by decide +kernel) (by decide +kernel) (by decide +kernel)) rc_82 ra_82 (fun a1 a2 => ?_)
  have e := ts_1 (W := 64) (Or.inr rfl) (y := un_ a1 % 2 ^ 64) (z := un_ a2 % 2 ^ 64) (Nat.mod_lt _ (by decide)) (Nat.mod_lt _ (by decide))
  rw [← sig_W (Or.inr rfl) a1, ← sig_W (Or.inr rfl) a2, ← mk_odd (k := q_Ref_first 82) (by decide +kernel) a1, ← mk_odd (k := q_Ref_first 82) (by decide +kernel) a2] at e
  rw [mk_ite]
  exact congrArg (fun t : Int32 => if t = 0 then (0 : Int64) else 1) e
theorem ra_83 (m1 m2 : Int64) : q_Ref_answer 0 83 m1 m2 = if q_Ref_isSo 2 64 m1 m2 = 0 then 0 else 1 := by unfold q_Ref_answer; simp (decide := true) only [↓reduceIte, Int32.reduceSub]
theorem rc_83 (m1 m2 : Int64) : q_Ref_answer_cd 0 83 m1 m2 = 0 := by unfold q_Ref_answer_cd; simp (decide := true) only [↓reduceIte]
theorem ok_83 : OK_ 83 := by
  refine ok_pure _ _ (an_t64 (p := 72) (by decide +kernel) (by decide +kernel) (by decide +kernel) (by decide +kernel) (by decide +kernel) (by decide +kernel)) rc_83 ra_83 (fun a1 a2 => ?_)
  have e := ts_2 (W := 64) (Or.inr rfl) (y := un_ a1 % 2 ^ 64) (z := un_ a2 % 2 ^ 64) (Nat.mod_lt _ (by decide)) (Nat.mod_lt _ (by decide))
  rw [← sig_W (Or.inr rfl) a1, ← sig_W (Or.inr rfl) a2, ← mk_odd (k := q_Ref_first 83) (by decide +kernel) a1, ← mk_odd (k := q_Ref_first 83) (by decide +kernel) a2] at e
  rw [mk_ite]
  exact congrArg (fun t : Int32 => if t = 0 then (0 : Int64) else 1) e
theorem ra_84 (m1 m2 : Int64) : q_Ref_answer 0 84 m1 m2 = if q_Ref_isSo 3 64 m1 m2 = 0 then 0 else 1 := by unfold q_Ref_answer; simp (decide := true) only [↓reduceIte, Int32.reduceSub]
theorem rc_84 (m1 m2 : Int64) : q_Ref_answer_cd 0 84 m1 m2 = 0 := by unfold q_Ref_answer_cd; simp (decide := true) only [↓reduceIte]
theorem ok_84 : OK_ 84 := by
  refine ok_pure _ _ (an_t64 (p := 73) (by decide +kernel) (by decide +kernel) (by decide +kernel) (by decide +kernel) (by decide +kernel) (by decide +kernel)) rc_84 ra_84 (fun a1 a2 => ?_)
  have e := ts_3 (W := 64) (Or.inr rfl) (y := un_ a1 % 2 ^ 64) (z := un_ a2 % 2 ^ 64) (Nat.mod_lt _ (by decide)) (Nat.mod_lt _ (by decide))
  rw [← sig_W (Or.inr rfl) a1, ← sig_W (Or.inr rfl) a2, ← mk_odd (k := q_Ref_first 84) (by decide +kernel) a1, ← mk_odd (k := q_Ref_first 84) (by decide +kernel) a2] at e
  rw [mk_ite]
  exact congrArg (fun t : Int32 => if t = 0 then (0 : Int64) else 1) e
theorem ra_85 (m1 m2 : Int64) : q_Ref_answer 0 85 m1 m2 = if q_Ref_isSo 4 64 m1 m2 = 0 then 0 else 1 := by unfold q_Ref_answer; simp (decide := true) only [↓reduceIte, Int32.reduceSub]
theorem rc_85 (m1 m2 : Int64) : q_Ref_answer_cd 0 85 m1 m2 = 0 := by unfold q_Ref_answer_cd; simp (decide := true) only [↓reduceIte]
theorem ok_85 : OK_ 85 := by
  refine ok_pure _ _ (an_t64 (p := 74) (by decide +kernel) (by decide +kernel) (by decide +kernel) (by decide +kernel) (by decide +kernel) (by decide +kernel)) rc_85 ra_85 (fun a1 a2 => ?_)
  have e := ts_4 (W := 64) (Or.inr rfl) (y := un_ a1 % 2 ^ 64) (z := un_ a2 % 2 ^ 64) (Nat.mod_lt _ (by decide)) (Nat.mod_lt _ (by decide))
  rw [← sig_W (Or.inr rfl) a1, ← sig_W (Or.inr rfl) a2, ← mk_odd (k := q_Ref_first 85) (by decide +kernel) a1, ← mk_odd (k := q_Ref_first 85) (by decide +kernel) a2] at e
  rw [mk_ite]
  exact congrArg (fun t : Int32 => if t = 0 then (0 : Int64) else 1) e
theorem ra_86 (m1 m2 : Int64) : q_Ref_answer 0 86 m1 m2 = if q_Ref_isSo 5 64 m1 m2 = 0 then 0 else 1 := by unfold q_Ref_answer; simp (decide := true) only [↓reduceIte, Int32.reduceSub]
theorem rc_86 (m1 m2 : Int64) : q_Ref_answer_cd 0 86 m1 m2 = 0 := by unfold q_Ref_answer_cd; simp (decide := true) only [↓reduceIte]
theorem ok_86 : OK_ 86 := by
  refine ok_pure _ _ (an_t64 (p := 75) (by decide +kernel) (by decide +kernel) (by decide +kernel) (by decide +kernel) (by decide +kernel) (by decide +kernel)) rc_86 ra_86 (fun a1 a2 => ?_)
  have e := ts_5 (W := 64) (Or.inr rfl) (y := un_ a1 % 2 ^ 64) (z := un_ a2 % 2 ^ 64) (Nat.mod_lt _ (by decide)) (Nat.mod_lt _ (by decide))
  rw [← sig_W (Or.inr rfl) a1, ← sig_W (Or.inr rfl) a2, ← mk_odd (k := q_Ref_first 86) (by decide +kernel) a1, ← mk_odd (k := q_Ref_first 86) (by decide +kernel) a2] at e
  rw [mk_ite]
  exact congrArg (fun t : Int32 => if t = 0 then (0 : Int64) else 1) e
theorem ra_87 (m1 m2 : Int64) : q_Ref_answer 0 87 m1 m2 = if q_Ref_isSo 6 64 m1 m2 = 0 then 0 else 1 := by unfold q_Ref_answer; simp (decide := true) only [↓reduceIte, Int32.reduceSub]
theorem rc_87 (m1 m2 : Int64) : q_Ref_answer_cd 0 87 m1 m2 = 0 := by unfold q_Ref_answer_cd; simp (decide := true) only [↓reduceIte]
theorem ok_87 : OK_ 87 := by
  refine ok_pure _ _ (an_t64 (p := 76) (by decide +kernel) (by decide +kernel) (by decide +kernel) (by decide +kernel) (by decide +kernel) (by decide +kernel)) rc_87 ra_87 (fun a1 a2 => ?_)
  have e := ts_6 (W := 64) (Or.inr rfl) (y := un_ a1 % 2 ^ 64) (z := un_ a2 % 2 ^ 64) (Nat.mod_lt _ (by decide)) (Nat.mod_lt _ (by decide))
  rw [← sig_W (Or.inr rfl) a1, ← sig_W (Or.inr rfl) a2, ← mk_odd (k := q_Ref_first 87) (by decide +kernel) a1, ← mk_odd (k := q_Ref_first 87) (by decide +kernel) a2] at e
  rw [mk_ite]
  exact congrArg (fun t : Int32 => if t = 0 then (0 : Int64) else 1) e
theorem ra_88 (m1 m2 : Int64) : q_Ref_answer 0 88 m1 m2 = if q_Ref_isSo 7 64 m1 m2 = 0 then 0 else 1 := by unfold q_Ref_answer; simp (decide := true) only [↓reduceIte, Int32.reduceSub]
theorem rc_88 (m1 m2 : Int64) : q_Ref_answer_cd 0 88 m1 m2 = 0 := by unfold q_Ref_answer_cd; simp (decide := true) only [↓reduceIte]
theorem ok_88 : OK_ 88 := by
  refine ok_pure _ _ (an_t64 (p := 77) (by decide +kernel) (by decide +kernel) (by decide +kernel) (by decide +kernel) (by decide +kernel) (by decide +kernel)) rc_88 ra_88 (fun a1 a2 => ?_)
  have e := ts_7 (W := 64) (Or.inr rfl) (y := un_ a1 % 2 ^ 64) (z := un_ a2 % 2 ^ 64) (Nat.mod_lt _ (by decide)) (Nat.mod_lt _ (by decide))
  rw [← sig_W (Or.inr rfl) a1, ← sig_W (Or.inr rfl) a2, ← mk_odd (k := q_Ref_first 88) (by decide +kernel) a1, ← mk_odd (k := q_Ref_first 88) (by decide +kernel) a2] at e
  rw [mk_ite]
  exact congrArg (fun t : Int32 => if t = 0 then (0 : Int64) else 1) e
theorem ra_89 (m1 m2 : Int64) : q_Ref_answer 0 89 m1 m2 = if q_Ref_isSo 8 64 m1 m2 = 0 then 0 else 1 := by unfold q_Ref_answer; simp (decide := true) only [↓reduceIte, Int32.reduceSub]
theorem rc_89 (m1 m2 : Int64) : q_Ref_answer_cd 0 89 m1 m2 = 0 := by unfold q_Ref_answer_cd; simp (decide := true) only [↓reduceIte]
theorem ok_89 : OK_ 89 := by
  refine ok_pure _ _ (an_t64 (p := 78) (by decide +kernel) (by decide +kernel) (by decide +kernel) (by decide +kernel) (by decide +kernel) (by decide +kernel)) rc_89 ra_89 (fun a1 a2 => ?_)
  have e := ts_8 (W := 64) (Or.inr rfl) (y := un_ a1 % 2 ^ 64) (z := un_ a2 % 2 ^ 64) (Nat.mod_lt _ (by decide)) (Nat.mod_lt _ (by decide))
  rw [← sig_W (Or.inr rfl) a1, ← sig_W (Or.inr rfl) a2, ← mk_odd (k := q_Ref_first 89) (by decide +kernel) a1, ← mk_odd (k := q_Ref_first 89) (by decide +kernel) a2] at e
  rw [mk_ite]
  exact congrArg (fun t : Int32 => if t = 0 then (0 : Int64) else 1) e
theorem ra_90 (m1 m2 : Int64) : q_Ref_answer 0 90 m1 m2 = if q_Ref_isSo 9 64 m1 m2 = 0 then 0 else 1 := by unfold q_Ref_answer; simp (decide := true) only [↓reduceIte, Int32.reduceSub]
theorem rc_90 (m1 m2 : Int64) : q_Ref_answer_cd 0 90 m1 m2 = 0 := by unfold q_Ref_answer_cd; simp (decide := true) only [↓reduceIte]
theorem ok_90 : OK_ 90 := by
  refine ok_pure _ _ (an_t64 (p := 79) (by decide +kernel) (by decide +kernel) (by decide +kernel) (by decide +kernel) (by decide +kernel) (by decide +kernel)) rc_90 ra_90 (fun a1 a2 => ?_)
  have e := ts_9 (W := 64) (Or.inr rfl) (y := un_ a1 % 2 ^ 64) (z := un_ a2 % 2 ^ 64) (Nat.mod_lt _ (by decide)) (Nat.mod_lt _ (by decide))
  rw [← sig_W (Or.inr rfl) a1, ← sig_W (Or.inr rfl) a2, ← mk_odd (k := q_Ref_first 90) (by decide +kernel) a1, ← mk_odd (k := q_Ref_first 90) (by decide +kernel) a2] at e
  rw [mk_ite]
  exact congrArg (fun t : Int32 => if t = 0 then (0 : Int64) else 1) e
theorem ra_69 (m1 m2 : Int64) : q_Ref_answer 0 69 m1 m2 = if m1 = 0 then 1 else 0 := by unfold q_Ref_answer; simp (decide := true) only [↓reduceIte]
theorem rc_69 (m1 m2 : Int64) : q_Ref_answer_cd 0 69 m1 m2 = 0 := by unfold q_Ref_answer_cd; simp (decide := true) only [↓reduceIte]
theorem ok_69 : OK_ 69 := by
  refine ok_pure _ _ (an_t32 (p := 69) (by decide +kernel) (by decide +kernel) (by decide +kernel) (by decide +kernel) (by decide +kernel) (by decide +kernel)) rc_69 ra_69 (fun a1 a2 => ?_)
  rw [mk_ite', wq_69, show (q_Bits_signed 32 a1) = _ from sig_W (W := 32) (Or.inl rfl) a1, mk_even (k := q_Ref_first 69) (by decide +kernel) a1]
  have hl : un_ a1 % 2 ^ 32 < 2 ^ 32 := Nat.mod_lt _ (by decide)
  have e : (zL (sy_ 32 (un_ a1 % 2 ^ 32)) = 0) ↔ un_ a1 % 2 ^ 32 = 0 := by
    rw [show (0 : Int64) = zL (sy_ 32 0) by decide, zL_eq (sy_r (Or.inl rfl) hl) (sy_r (Or.inl rfl) (by decide)), sy_lt (Or.inl rfl) hl (by decide)]
  have e2 : (lN (un_ a1 % 2 ^ 32) = 0) ↔ un_ a1 % 2 ^ 32 = 0 := lN_z64 (W_64 (W := 32) (Or.inl rfl) hl)
  simp only [e, e2]
  by_cases c : un_ a1 % 2 ^ 32 = 0
  · rw [if_pos c, if_pos c]; rfl
  · rw [if_neg c, if_neg c]; rfl
theorem ra_80 (m1 m2 : Int64) : q_Ref_answer 0 80 m1 m2 = if m1 = 0 then 1 else 0 := by unfold q_Ref_answer; simp (decide := true) only [↓reduceIte]
theorem rc_80 (m1 m2 : Int64) : q_Ref_answer_cd 0 80 m1 m2 = 0 := by unfold q_Ref_answer_cd; simp (decide := true) only [↓reduceIte]
theorem ok_80 : OK_ 80 := by
  refine ok_pure _ _ (an_t64 (p := 69) (by decide +kernel) (by decide +kernel) (by decide +kernel) (by decide +kernel) (by decide +kernel) (by decide +kernel)) rc_80 ra_80 (fun a1 a2 => ?_)
  rw [mk_ite', wq_69, show (q_Bits_signed 64 a1) = _ from sig_W (W := 64) (Or.inr rfl) a1, mk_odd (k := q_Ref_first 80) (by decide +kernel) a1]
  have hl : un_ a1 % 2 ^ 64 < 2 ^ 64 := Nat.mod_lt _ (by decide)
  have e : (zL (sy_ 64 (un_ a1 % 2 ^ 64)) = 0) ↔ un_ a1 % 2 ^ 64 = 0 := by
    rw [show (0 : Int64) = zL (sy_ 64 0) by decide, zL_eq (sy_r (Or.inr rfl) hl) (sy_r (Or.inr rfl) (by decide)), sy_lt (Or.inr rfl) hl (by decide)]
  have e2 : (lN (un_ a1 % 2 ^ 64) = 0) ↔ un_ a1 % 2 ^ 64 = 0 := lN_z64 (W_64 (W := 64) (Or.inr rfl) hl)
  simp only [e, e2]
  by_cases c : un_ a1 % 2 ^ 64 = 0
  · rw [if_pos c, if_pos c]; rfl
  · rw [if_neg c, if_neg c]; rfl
