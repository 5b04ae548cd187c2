/-! the lesser, the greater, and signs -/
theorem or_0 (x : Int64) : x ||| 0 = x := by rw [Int64.or_zero]
theorem fs_sh {i W F B : Nat} (h : ff_ i W F B) : shl_ (1 : Int64) (nI W - 1) = fm_s i := by rcases h with ⟨rfl, rfl, rfl, rfl⟩ | ⟨rfl, rfl, rfl, rfl⟩ <;> decide
theorem aw_v {i W F B n : Nat} (h : ff_ i W F B) (hn : n < 2 ^ W) : q_Floats_asWhole i (lN n) = zL (if n / 2 ^ (W - 1) = 0 then ((n % 2 ^ (W - 1) : Nat) : Int) else -((n % 2 ^ (W - 1) : Nat) : Int)) := by
  rw [aw_e h hn, rs_mi h hn, rs_size h hn, cs_wo h hn]
  rcases ff_sg h hn with z | z <;> rw [z]
  · rw [if_pos (show nI 0 = 0 from rfl), if_pos rfl, zL_n]
  · rw [if_neg (show ¬ nI 1 = 0 by decide), if_neg (by decide), lN_ng]
theorem aw_inj {i W F B n k : Nat} (h : ff_ i W F B) (hn : n < 2 ^ W) (hk : k < 2 ^ W) (e : q_Floats_asWhole i (lN n) = q_Floats_asWhole i (lN k)) (hz : ¬ (n % 2 ^ (W - 1) = 0 ∧ k % 2 ^ (W - 1) = 0)) : n = k := by
  rw [aw_v h hn, aw_v h hk] at e
  have y1 := ff_y63 h n
  have y2 := ff_y63 h k
  have d1 := Nat.div_add_mod n (2 ^ (W - 1))
  have d2 := Nat.div_add_mod k (2 ^ (W - 1))
  rw [zL_eq (by split <;> omega) (by split <;> omega)] at e
  rcases ff_sg h hn with z | z <;> rcases ff_sg h hk with z' | z' <;> rw [z, z'] at e <;> rw [z] at d1 <;> rw [z'] at d2
  · simp only [↓reduceIte] at e; omega
  · rw [if_pos rfl, if_neg (by decide)] at e; omega
  · rw [if_pos rfl, if_neg (by decide)] at e; omega
  · rw [if_neg (by decide)] at e; omega
theorem nn_z {i W F B n : Nat} (h : ff_ i W F B) (hn : n < 2 ^ W) : q_Form_isZero i (lN n) = 0 ↔ ¬ n % 2 ^ (W - 1) = 0 := by
  rw [cs_z h hn]
  by_cases c : n % 2 ^ (W - 1) = 0
  · rw [if_pos c]; exact ⟨fun q => absurd q (by decide), fun q => absurd c q⟩
  · rw [if_neg c]; exact ⟨fun _ => c, fun _ => rfl⟩
theorem lz_cases {i W F B n : Nat} (h : ff_ i W F B) (hn : n < 2 ^ W) (hz : n % 2 ^ (W - 1) = 0) : n = 0 ∨ n = 2 ^ (W - 1) := by
  have d1 := Nat.div_add_mod n (2 ^ (W - 1))
  rcases ff_sg h hn with z | z <;> rw [z, hz] at d1
  · left; omega
  · right; omega
theorem mm_0 {i W F B n k : Nat} (h : ff_ i W F B) (hn : n < 2 ^ W) (hk : k < 2 ^ W) : (if q_Floats_isBelow i (lN k) (lN n) = 0 then lN n else lN k) = q_Ref_lesser (nI W) 0 (lN n) (lN k) := by
  by_cases hz : n % 2 ^ (W - 1) = 0 ∧ k % 2 ^ (W - 1) = 0
  · have h1 := lz_cases h hn hz.1
    have h2 := lz_cases h hk hz.2
    rcases h with ⟨rfl, rfl, rfl, rfl⟩ | ⟨rfl, rfl, rfl, rfl⟩ <;> rcases h1 with rfl | rfl <;> rcases h2 with rfl | rfl <;> decide +kernel
  · have e1 : q_Floats_isBelow i (lN k) (lN n) = if q_Floats_asWhole i (lN n) ≤ q_Floats_asWhole i (lN k) then 0 else 1 := by
      unfold q_Floats_isBelow
      by_cases c : q_Form_isZero i (lN k) = 0
      · rw [if_pos c]
      · rw [if_neg c, if_pos ((nn_z h hn).mpr (fun q => c ((nn_z h hk).mpr (fun q2 => hz ⟨q, q2⟩))))]
    have e2 : q_Ref_lesser (nI W) 0 (lN n) (lN k) = if q_Ref_less (nI W) (lN n) 1 (lN k) = 0 then lN k else lN n := by
      unfold q_Ref_lesser
      rw [rs_z h hn, rs_z h hk]
      by_cases c : q_Form_isZero i (lN n) = 0
      · rw [if_pos c]
      · rw [if_neg c, if_pos ((nn_z h hk).mpr (fun q => c ((nn_z h hn).mpr (fun q2 => hz ⟨q2, q⟩))))]
    rw [e1, e2, le_e h hn hk]
    generalize q_Floats_asWhole i (lN n) = X
    generalize q_Floats_asWhole i (lN k) = Y
    rcases tri_ X Y with ⟨t1, t2, t3, t4, t5, t6⟩ | t | ⟨t1, t2, t3, t4, t5, t6⟩
    · simp (decide := true) only [t1, t2, t3, t4, t5, t6, ↓reduceIte]
    · subst t
      obtain ⟨t1, t2⟩ := i64_irr X
      simp (decide := true) only [t1, t2, ↓reduceIte]
    · simp (decide := true) only [t1, t2, t3, t4, t5, t6, ↓reduceIte]
theorem mm_1 {i W F B n k : Nat} (h : ff_ i W F B) (hn : n < 2 ^ W) (hk : k < 2 ^ W) : (if q_Floats_isBelow i (lN n) (lN k) = 0 then lN n else lN k) = q_Ref_lesser (nI W) 1 (lN n) (lN k) := by
  by_cases hz : n % 2 ^ (W - 1) = 0 ∧ k % 2 ^ (W - 1) = 0
  · have h1 := lz_cases h hn hz.1
    have h2 := lz_cases h hk hz.2
    rcases h with ⟨rfl, rfl, rfl, rfl⟩ | ⟨rfl, rfl, rfl, rfl⟩ <;> rcases h1 with rfl | rfl <;> rcases h2 with rfl | rfl <;> decide +kernel
  · have e1 : q_Floats_isBelow i (lN n) (lN k) = if q_Floats_asWhole i (lN k) ≤ q_Floats_asWhole i (lN n) then 0 else 1 := by
      unfold q_Floats_isBelow
      by_cases c : q_Form_isZero i (lN n) = 0
      · rw [if_pos c]
      · rw [if_neg c, if_pos ((nn_z h hk).mpr (fun q => c ((nn_z h hn).mpr (fun q2 => hz ⟨q2, q⟩))))]
    have e2 : q_Ref_lesser (nI W) 1 (lN n) (lN k) = if q_Ref_less (nI W) (lN n) 1 (lN k) = 1 then lN k else lN n := by
      unfold q_Ref_lesser
      rw [rs_z h hn, rs_z h hk]
      by_cases c : q_Form_isZero i (lN n) = 0
      · rw [if_pos c]
      · rw [if_neg c, if_pos ((nn_z h hk).mpr (fun q => c ((nn_z h hn).mpr (fun q2 => hz ⟨q2, q⟩))))]
    have inj : q_Floats_asWhole i (lN n) = q_Floats_asWhole i (lN k) → lN n = lN k := fun e => by rw [aw_inj h hn hk e hz]
    rw [e1, e2, le_e h hn hk]
    revert inj
    generalize q_Floats_asWhole i (lN n) = X
    generalize q_Floats_asWhole i (lN k) = Y
    intro inj
    rcases tri_ X Y with ⟨t1, t2, t3, t4, t5, t6⟩ | t | ⟨t1, t2, t3, t4, t5, t6⟩
    · simp (decide := true) only [t1, t2, t3, t4, t5, t6, ↓reduceIte]
    · have e3 := inj t
      subst t
      obtain ⟨t1, t2⟩ := i64_irr X
      simp (decide := true) only [t1, t2, e3, ↓reduceIte]
    · simp (decide := true) only [t1, t2, t3, t4, t5, t6, ↓reduceIte]
