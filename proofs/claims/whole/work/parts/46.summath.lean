/-! the two amounts of a sum -/
theorem un_am {wi fr bi : Int32} {F B : Nat} (h : fmR wi fr bi F B) (v : Int64) : ∃ y : Nat, y < 2 ^ 63 ∧ q_Ref_size wi v = lN y ∧ un_ (q_Ref_split_am wi fr bi v) * 2 ^ wt_ (q_Ref_split_we wi fr bi v) = sg_ F y * 2 ^ (ex_ F y - 1) * 2 ^ (2201 - B - F) := by
  obtain ⟨n, hn, rfl⟩ := wb_of v
  obtain ⟨W, y, hW, hy, hs, h63, -, ham, hwt, -⟩ := sp_all h n hn
  have hFB := fmR_FB h
  refine ⟨y, h63, hs, ?_⟩
  rw [ham, un_of (by have := sg_63 (F := F) (y := y) (by omega); omega), hwt, Nat.pow_add, Nat.mul_comm (2 ^ (2201 - B - F)), Nat.mul_assoc]
theorem su_mono {wi fr bi : Int32} {F B : Nat} (h : fmR wi fr bi F B) (u v : Int64) : (q_Ref_size wi u ≤ q_Ref_size wi v → un_ (q_Ref_split_am wi fr bi u) * 2 ^ wt_ (q_Ref_split_we wi fr bi u) ≤ un_ (q_Ref_split_am wi fr bi v) * 2 ^ wt_ (q_Ref_split_we wi fr bi v)) ∧ (q_Ref_size wi u < q_Ref_size wi v → un_ (q_Ref_split_am wi fr bi u) * 2 ^ wt_ (q_Ref_split_we wi fr bi u) < un_ (q_Ref_split_am wi fr bi v) * 2 ^ wt_ (q_Ref_split_we wi fr bi v)) := by
  obtain ⟨x, hx, sx, ex⟩ := un_am h u
  obtain ⟨y, hy, sy, ey⟩ := un_am h v
  rw [sx, sy, ex, ey, pk_lLE hx hy, pk_lLT hx hy]
  have hs : x < y → sg_ F x * 2 ^ (ex_ F x - 1) * 2 ^ (2201 - B - F) < sg_ F y * 2 ^ (ex_ F y - 1) * 2 ^ (2201 - B - F) := fun q => Nat.mul_lt_mul_of_pos_right (am_mono q) (Nat.two_pow_pos _)
  refine ⟨fun q => ?_, hs⟩
  rcases Nat.lt_or_ge x y with z | z
  · exact Nat.le_of_lt (hs z)
  · have : x = y := by omega
    subst this; exact Nat.le_refl _
theorem su_le {wi fr bi : Int32} {F B : Nat} {a0 a1 : Int64} (h : fmR wi fr bi F B) :
    un_ (q_Ref_split_am wi fr bi (if (if q_Ref_size wi a1 ≤ q_Ref_size wi a0 then (0 : Int32) else (1 : Int32)) = 0 then a1 else a0)) * 2 ^ wt_ (q_Ref_split_we wi fr bi (if (if q_Ref_size wi a1 ≤ q_Ref_size wi a0 then (0 : Int32) else (1 : Int32)) = 0 then a1 else a0)) ≤ 0 + un_ (q_Ref_split_am wi fr bi (if (if q_Ref_size wi a1 ≤ q_Ref_size wi a0 then (0 : Int32) else (1 : Int32)) = 0 then a0 else a1)) * 2 ^ wt_ (q_Ref_split_we wi fr bi (if (if q_Ref_size wi a1 ≤ q_Ref_size wi a0 then (0 : Int32) else (1 : Int32)) = 0 then a0 else a1)) := by
  rw [Nat.zero_add]
  by_cases c : q_Ref_size wi a1 ≤ q_Ref_size wi a0
  · rw [if_pos c, if_pos rfl, if_pos rfl]; exact (su_mono h a1 a0).1 c
  · rw [if_neg c, if_neg (by decide), if_neg (by decide)]
    exact Nat.le_of_lt ((su_mono h a0 a1).2 (Int64.not_le.mp c))
theorem su_lt {wi fr bi : Int32} {F B : Nat} {a0 a1 : Int64} (h : fmR wi fr bi F B) (hn : ¬ q_Ref_size wi a0 = q_Ref_size wi a1) :
    0 < 0 + un_ (q_Ref_split_am wi fr bi (if (if q_Ref_size wi a1 ≤ q_Ref_size wi a0 then (0 : Int32) else (1 : Int32)) = 0 then a0 else a1)) * 2 ^ wt_ (q_Ref_split_we wi fr bi (if (if q_Ref_size wi a1 ≤ q_Ref_size wi a0 then (0 : Int32) else (1 : Int32)) = 0 then a0 else a1)) - un_ (q_Ref_split_am wi fr bi (if (if q_Ref_size wi a1 ≤ q_Ref_size wi a0 then (0 : Int32) else (1 : Int32)) = 0 then a1 else a0)) * 2 ^ wt_ (q_Ref_split_we wi fr bi (if (if q_Ref_size wi a1 ≤ q_Ref_size wi a0 then (0 : Int32) else (1 : Int32)) = 0 then a1 else a0)) := by
  rw [Nat.zero_add]
  apply Nat.sub_pos_of_lt
  by_cases c : q_Ref_size wi a1 ≤ q_Ref_size wi a0
  · rw [if_pos c, if_pos rfl, if_pos rfl]
    refine (su_mono h a1 a0).2 (Int64.lt_iff_le_and_ne.mpr ⟨c, fun q => hn q.symm⟩)
  · rw [if_neg c, if_neg (by decide), if_neg (by decide)]
    exact (su_mono h a0 a1).2 (Int64.not_le.mp c)
theorem fits_two {x y : Int64} {P Q : Nat} (hP : P ≤ 3400) (hQ : Q ≤ 3400) : 0 + un_ x * 2 ^ P + un_ y * 2 ^ Q < 2 ^ 4399 := by
  have h : ∀ (z : Int64) (K : Nat), K ≤ 3400 → un_ z * 2 ^ K < 2 ^ 4000 := by
    intro z K hK
    have h1 : un_ z * 2 ^ K < 2 ^ 64 * 2 ^ K := Nat.mul_lt_mul_of_pos_right (un_lt z) (Nat.two_pow_pos K)
    rw [← Nat.pow_add] at h1
    exact Nat.lt_of_lt_of_le h1 (Nat.pow_le_pow_right (by decide) (by omega))
  have h1 := h x P hP
  have h2 := h y Q hQ
  have h3 : (2 : Nat) ^ 4000 + 2 ^ 4000 ≤ 2 ^ 4399 := by decide +kernel
  rw [Nat.zero_add]
  exact Nat.lt_of_lt_of_le (Nat.add_lt_add h1 h2) h3
