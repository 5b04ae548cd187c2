/-! what fits its width; conversions -/
theorem rd_le {m k : Nat} : rd_ m k ≤ m / 2 ^ k + 1 := by unfold rd_; split <;> omega
theorem rR_le {F B m : Nat} {e : Int} (hm : 0 < m) (hB : 1 ≤ B) : rR_ F B m e ≤ (2 * B + 1) * 2 ^ F := by
  obtain ⟨lo, hi⟩ := log2_bd_ hm
  unfold rR_
  split
  · exact Nat.le_refl _
  · rename_i c
    have hK : (if dr_ F B m e ≤ 0 then m * 2 ^ (-dr_ F B m e).toNat else rd_ m (dr_ F B m e).toNat) ≤ 2 ^ (F + 1) := by
      have hd : (m.log2 : Int) - F ≤ dr_ F B m e := by unfold dr_; split <;> omega
      generalize dr_ F B m e = D at *
      split
      · have h1 : m * 2 ^ (-D).toNat ≤ 2 ^ (m.log2 + 1) * 2 ^ (-D).toNat := Nat.mul_le_mul_right _ (Nat.le_of_lt hi)
        rw [← Nat.pow_add] at h1
        exact Nat.le_trans h1 (Nat.pow_le_pow_right (by decide) (by omega))
      · have h1 : m / 2 ^ D.toNat < 2 ^ (F + 1) := by
          rw [Nat.div_lt_iff_lt_mul (Nat.two_pow_pos _), ← Nat.pow_add]
          exact Nat.lt_of_lt_of_le hi (Nat.pow_le_pow_right (by decide) (by omega))
        have := rd_le (m := m) (k := D.toNat)
        omega
    generalize (if dr_ F B m e ≤ 0 then m * 2 ^ (-dr_ F B m e).toNat else rd_ m (dr_ F B m e).toNat) = K at *
    have h2 : (max (e + (m.log2 : Int) + B) 1 - 1).toNat ≤ 2 * B - 1 := by omega
    have h3 := Nat.mul_le_mul_right (2 ^ F) h2
    have h4 : (2 * B + 1) * 2 ^ F = (2 * B - 1) * 2 ^ F + 2 * 2 ^ F := by rw [← Nat.add_mul]; congr 1; omega
    rw [Nat.pow_succ'] at hK
    omega
theorem ff_B1 {i W F B : Nat} (h : ff_ i W F B) : 1 ≤ B := by rcases h with ⟨-, -, -, rfl⟩ | ⟨-, -, -, rfl⟩ <;> decide
theorem ff_wd {i W F B : Nat} (h : ff_ i W F B) : wd_ W := by rcases h with ⟨-, rfl, -⟩ | ⟨-, rfl, -⟩; exact Or.inl rfl; exact Or.inr rfl
def fit_ (W : Nat) (v : Int64) : Prop := q_Bits_lowest (nI W) v = v
theorem fit_n {W n : Nat} (hW : wd_ W) (hn : n < 2 ^ W) : fit_ W (lN n) := by
  unfold fit_
  rw [low_lN hW, Nat.mod_eq_of_lt hn]
theorem fit_s {i W F B x : Nat} (h : ff_ i W F B) (hx : x < 2 ^ (W - 1)) (c : Int32) : fit_ W (q_Ref_signed (nI W) (lN x) c) := by
  have hi := ff_inf h
  unfold q_Ref_signed
  split
  · exact fit_n (ff_wd h) (by omega)
  · rw [fs_sh h, ff_s h]
    have := g_or' (k := W - 1) (p := 2 ^ (W - 1)) (a := x) (b := 1) rfl hx (by omega)
    rw [Nat.one_mul] at this
    rw [this]
    exact fit_n (ff_wd h) (by omega)
theorem fit_r {i W F B m : Nat} {e : Int} (h : ff_ i W F B) (hm : 0 < m) (c : Int32) : fit_ W (q_Ref_signed (nI W) (lN (rR_ F B m e)) c) := by
  have hi := ff_inf h
  exact fit_s h (Nat.lt_of_le_of_lt (rR_le hm (ff_B1 h)) hi.1) c
theorem fit_0 {i W F B : Nat} (h : ff_ i W F B) (c : Int32) : fit_ W (q_Ref_signed (nI W) (0 : Int64) c) := fit_s (x := 0) h (Nat.two_pow_pos _) c
theorem fit_i {i W F B : Nat} (h : ff_ i W F B) (c : Int32) : fit_ W (q_Ref_infinite (nI W) (nI F) (nI B) c) := by
  rw [rs_is h, fb_i (ff_b h)]
  exact fit_s h (ff_inf h).1 c
theorem fit_no {i W F B : Nat} (h : ff_ i W F B) : fit_ W (q_Ref_noNumber (nI W)) := by
  unfold fit_
  rcases h with ⟨-, rfl, -⟩ | ⟨-, rfl, -⟩ <;> decide
theorem mk_fit {W : Nat} {k : Int32} {v : Int64} (hk : ∀ a, mk1_ k a = q_Bits_lowest (nI W) a) (h : fit_ W v) : mk1_ k v = v := (hk v).trans h
theorem fit_fl {i W F B n : Nat} (h : ff_ i W F B) (hn : n < 2 ^ 64) (c : Int32) : fit_ W (q_Ref_floating F B (nI W) (lN n) c) := by
  unfold q_Ref_floating
  by_cases z : lN n = 0
  · rw [if_pos z]; exact fit_n (n := 0) (ff_wd h) (Nat.two_pow_pos W)
  · rw [if_neg z]
    apply fit_r h
    have h1 : ¬ (if (if c = 0 then (0 : Int32) else (if (0 : Int64) ≤ lN n then (0 : Int32) else (1 : Int32))) = 0 then lN n else (-lN n)) = 0 := by
      generalize (if c = 0 then (0 : Int32) else (if (0 : Int64) ≤ lN n then (0 : Int32) else (1 : Int32))) = d
      split
      · exact z
      · intro q
        apply z
        rw [← Int64.neg_neg (a := lN n), q]
        rfl
    have h2 := wh_pos (P := 2200) h1
    omega
theorem fit_rf {i W F B j W2 F2 B2 n : Nat} (h : ff_ i W F B) (h2 : ff_ j W2 F2 B2) (hn : n < 2 ^ W) : fit_ W2 (q_Ref_reformed F B F2 B2 (nI W) (nI F) (nI B) (lN n) (nI W2)) := by
  have ew : q_Ref_format_wi (nI W2) = nI W2 := rfl
  have ef : q_Ref_format_fr (nI W2) = nI F2 := by rcases h2 with ⟨-, rfl, rfl, rfl⟩ | ⟨-, rfl, rfl, rfl⟩ <;> decide
  have eb : q_Ref_format_bi (nI W2) = nI B2 := by rcases h2 with ⟨-, rfl, rfl, rfl⟩ | ⟨-, rfl, rfl, rfl⟩ <;> decide
  unfold q_Ref_reformed
  rw [ew, ef, eb]
  split
  · split
    · split
      · rename_i c
        have h3 := rf_pos (P := wt_ (q_Ref_split_we (nI W) (nI F) (nI B) (lN n))) (ff_R h) c
        exact fit_r h2 (by omega) _
      · exact fit_0 h2 _
    · exact fit_i h2 _
  · exact fit_no h2
/-! floats cut to whole numbers -/
theorem cm_e {i W F B n : Nat} (h : ff_ i W F B) (hn : n < 2 ^ W) : q_Conversions_cutAmount i (lN n) = if q_Ref_split_we (nI W) (nI F) (nI B) (lN n) < 0 then (if (-(q_Ref_split_we (nI W) (nI F) (nI B) (lN n))) ≤ (62 : Int32) then shr_ (q_Ref_split_am (nI W) (nI F) (nI B) (lN n)) (-(q_Ref_split_we (nI W) (nI F) (nI B) (lN n))) else (0 : Int64)) else shl_ (q_Ref_split_am (nI W) (nI F) (nI B) (lN n)) (q_Ref_split_we (nI W) (nI F) (nI B) (lN n)) := by
  unfold q_Conversions_cutAmount
  rw [cs_sc h hn, cs_sg h hn, rs_we h hn, rs_am h hn]
  have hx := ff_x h n
  have hl := ff_sgl h n
  generalize ((ex_ F (n % 2 ^ (W - 1)) : Nat) : Int) - B - F = x at *
  generalize sg_ F (n % 2 ^ (W - 1)) = m at *
  have rx : ir_ x := ⟨by omega, by omega⟩
  have c1 : ((-64 : Int32) < zI x) ↔ -64 < x := by
    rw [show (-64 : Int32) = zI (-64) by decide]
    exact zI_lt ⟨by omega, by omega⟩ rx
  have c2 : (zI x < (0 : Int32)) ↔ x < 0 := zI_lt (b := 0) rx ⟨by omega, by omega⟩
  by_cases h2 : x < 0
  · obtain ⟨D, hD⟩ : ∃ D : Nat, x = -(D : Int) := ⟨(-x).toNat, by omega⟩
    have en : -(zI x) = nI D := by rw [zI_neg, ← zI_n]; congr 1; omega
    have hc2 := c2.mpr h2
    simp only [hc2, ↓reduceIte, en]
    have c3 : (nI D ≤ (62 : Int32)) ↔ D ≤ 62 := by
      rw [← zI_n]
      exact (zI_le (b := 62) ⟨by omega, by omega⟩ ⟨by omega, by omega⟩).trans (by omega)
    by_cases h1 : -64 < x
    · rw [if_pos (c1.mpr h1), ush_lN (by omega) (by omega)]
      by_cases h3 : D ≤ 62
      · rw [if_pos (c3.mpr h3), shr_lN63 (by omega) (by omega)]
      · rw [if_neg (fun q => h3 (c3.mp q)), show D = 63 by omega, Nat.div_eq_of_lt (by omega)]
        rfl
    · rw [if_neg (fun q => h1 (c1.mp q)), if_neg (fun q => by have := c3.mp q; omega)]
  · rw [if_pos (c1.mpr (by omega)), if_neg (fun q => h2 (c2.mp q)), if_neg (fun q => h2 (c2.mp q))]
theorem cmp_le (x y : Int64) : (q_Long_compareUnsigned x y ≤ 0) ↔ q_Ref_below y x = 0 := by
  have hx := un_lt x
  have hy := un_lt y
  rw [un_lN x, un_lN y, cu_e hx hy, be_e hy hx]
  rcases Nat.lt_trichotomy (un_ x) (un_ y) with c | c | c
  · rw [if_pos c, if_neg (by omega)]; decide
  · rw [if_neg (by omega), if_pos c, if_neg (by omega)]; decide
  · rw [if_neg (by omega), if_neg (by omega), if_pos c]; decide
theorem gr_e {w : Nat} (hw : wd_ w) (sg : Int32) (hs : sg = 0 ∨ sg = 1) (mi : Int32) : q_Conversions_greatest mi (nI w) sg = if sg = 0 then (if mi = 0 then (if nI w = (64 : Int32) then (-1 : Int64) else (4294967295 : Int64)) else (0 : Int64)) else (if mi = 0 then ((shl_ (1 : Int64) (nI w - (1 : Int32))) - (1 : Int64)) else (shl_ (1 : Int64) (nI w - (1 : Int32)))) := by
  unfold q_Conversions_greatest
  have e : q_Bits_lowest (nI w) (-1 : Int64) = if nI w = (64 : Int32) then (-1 : Int64) else (4294967295 : Int64) := by rcases hw with rfl | rfl <;> decide
  rw [e]
theorem cut_e {i W F B n w : Nat} (h : ff_ i W F B) (hn : n < 2 ^ W) (hw : wd_ w) (sg : Int32) (hs : sg = 0 ∨ sg = 1) (a : Int64) (ha : q_Bits_lowest (fm_w i) a = lN n) : (∃ v, q_Conversions_cut i a (nI w) sg = (0, q_Bits_lowest (nI w) v) ∧ q_Ref_cut_cd 0 (nI W) (nI F) (nI B) 0 0 0 (lN n) (nI w) sg = 0 ∧ q_Ref_cut 0 (nI W) (nI F) (nI B) 0 0 0 (lN n) (nI w) sg = v) ∨ (∃ c : Nat, 1 ≤ c ∧ c ≤ 4 ∧ q_Conversions_cut i a (nI w) sg = (c, 0) ∧ q_Ref_cut_cd 0 (nI W) (nI F) (nI B) 0 0 0 (lN n) (nI w) sg = nI c) := by
  unfold q_Conversions_cut q_Ref_cut_cd q_Ref_cut q_Ref_split_mi
  rw [ha, rs_nn h hn, rs_in h hn]
  by_cases c1' : ¬ q_Form_isNoNumber i (lN n) = 0
  · rw [if_neg c1', if_neg c1']
    exact Or.inr ⟨4, by decide, by decide, rfl, rfl⟩
  have c1 := Decidable.not_not.mp c1'
  rw [if_pos c1, if_pos c1, if_pos c1]
  have he := ff_e h n
  have hex := cs_ex h hn
  have hwe := rs_we h hn
  have ham := rs_am h hn
  have hB : B < 2000 := by rcases h with ⟨-, -, -, rfl⟩ | ⟨-, -, -, rfl⟩ <;> decide
  have hlt : (q_Form_exponent i (lN n) - fm_b i < (64 : Int32)) ↔ n % 2 ^ (W - 1) / 2 ^ F < B + 64 := by
    rw [hex, fb_b (ff_b h), ← zI_n, ← zI_n, zI_sub]
    generalize n % 2 ^ (W - 1) / 2 ^ F = q at *
    exact (zI_lt (b := 64) ⟨by omega, by omega⟩ ⟨by omega, by omega⟩).trans (by omega)
  have hinf : ¬ q_Form_isInfinite i (lN n) = 0 → ¬ n % 2 ^ (W - 1) / 2 ^ F < B + 64 := by
    rw [cs_in h hn]
    intro q
    have : n % 2 ^ (W - 1) = (2 * B + 1) * 2 ^ F := by
      by_cases c : n % 2 ^ (W - 1) = (2 * B + 1) * 2 ^ F
      · exact c
      · rw [if_neg c] at q; exact absurd rfl q
    rw [this, Nat.mul_div_cancel _ (Nat.two_pow_pos F)]
    rcases h with ⟨-, -, -, rfl⟩ | ⟨-, -, -, rfl⟩ <;> decide
  have hok : ((if q_Ref_split_am (nI W) (nI F) (nI B) (lN n) = (0 : Int64) then (0 : Int32) else (if q_Ref_split_we (nI W) (nI F) (nI B) (lN n) ≤ ((11 : Int32) + (if nI W = (32 : Int32) then (29 : Int32) else (0 : Int32))) then (0 : Int32) else (1 : Int32))) = 0) ↔ n % 2 ^ (W - 1) / 2 ^ F < B + 64 := by
    have hl := ff_sgl h n
    have hx := ff_x h n
    rw [hwe, ham, show (11 : Int32) + (if nI W = (32 : Int32) then (29 : Int32) else (0 : Int32)) = zI (63 - F) by rcases h with ⟨-, rfl, rfl, -⟩ | ⟨-, rfl, rfl, -⟩ <;> decide]
    have hz : lN (sg_ F (n % 2 ^ (W - 1))) = 0 → n % 2 ^ (W - 1) / 2 ^ F = 0 := by
      intro q
      have q2 := (lN_z64 (by omega)).mp q
      unfold sg_ at q2
      by_cases c : n % 2 ^ (W - 1) / 2 ^ F = 0
      · exact c
      · rw [if_neg c] at q2
        have := Nat.two_pow_pos F
        omega
    have hle : (zI (((ex_ F (n % 2 ^ (W - 1)) : Nat) : Int) - B - F) ≤ zI (63 - F)) ↔ n % 2 ^ (W - 1) / 2 ^ F < B + 64 := by
      rw [zI_le ⟨by omega, by omega⟩ ⟨by rcases h with ⟨-, -, rfl, -⟩ | ⟨-, -, rfl, -⟩ <;> decide, by rcases h with ⟨-, -, rfl, -⟩ | ⟨-, -, rfl, -⟩ <;> decide⟩]
      unfold ex_
      generalize n % 2 ^ (W - 1) / 2 ^ F = q at *
      omega
    by_cases c : lN (sg_ F (n % 2 ^ (W - 1))) = 0
    · rw [if_pos c]
      exact ⟨fun _ => by have := hz c; omega, fun _ => rfl⟩
    · rw [if_neg c]
      by_cases c2 : zI (((ex_ F (n % 2 ^ (W - 1)) : Nat) : Int) - B - F) ≤ zI (63 - F)
      · rw [if_pos c2]; exact ⟨fun _ => hle.mp c2, fun _ => rfl⟩
      · rw [if_neg c2]; exact ⟨fun q => absurd q (by decide), fun q => absurd (hle.mpr q) c2⟩
  have hcm := cm_e h hn
  have ms := rs_ms h hn
  have gr := gr_e hw sg hs
  by_cases c2 : n % 2 ^ (W - 1) / 2 ^ F < B + 64
  · have c3 : q_Form_isInfinite i (lN n) = 0 := by
      by_cases c : q_Form_isInfinite i (lN n) = 0
      · exact c
      · exact absurd c2 (hinf c)
    rw [if_pos c3, if_pos c3, if_pos (hok.mpr c2), if_pos (hok.mpr c2), if_pos (hok.mpr c2), ← hcm]
    by_cases c4 : q_Form_sign i (lN n) = 0
    · have c5 := ms.mpr c4
      rw [if_pos c4, if_pos (hlt.mpr c2), c5, gr]
      simp only [↓reduceIte]
      by_cases c6 : q_Long_compareUnsigned (q_Conversions_cutAmount i (lN n)) (if sg = 0 then (if nI w = (64 : Int32) then (-1 : Int64) else (4294967295 : Int64)) else ((shl_ (1 : Int64) (nI w - (1 : Int32))) - (1 : Int64))) ≤ 0
      · rw [if_pos c6, if_pos ((cmp_le _ _).mp c6), if_pos ((cmp_le _ _).mp c6)]
        exact Or.inl ⟨_, rfl, rfl, rfl⟩
      · rw [if_neg c6, if_neg (fun q => c6 ((cmp_le _ _).mpr q))]
        exact Or.inr ⟨3, by decide, by decide, rfl, rfl⟩
    · have c5 : ¬ q_Ref_isMinus (nI W) (lN n) = 0 := fun q => c4 (ms.mp q)
      rw [if_neg c4, if_pos (hlt.mpr c2), gr]
      simp (decide := true) only [c5, ↓reduceIte]
      by_cases c6 : q_Long_compareUnsigned (q_Conversions_cutAmount i (lN n)) (if sg = 0 then (0 : Int64) else (shl_ (1 : Int64) (nI w - (1 : Int32)))) ≤ 0
      · rw [if_pos c6, if_pos ((cmp_le _ _).mp c6), if_pos ((cmp_le _ _).mp c6)]
        exact Or.inl ⟨_, rfl, rfl, rfl⟩
      · rw [if_neg c6, if_neg (fun q => c6 ((cmp_le _ _).mpr q))]
        exact Or.inr ⟨3, by decide, by decide, rfl, rfl⟩
  · have hcls : (if q_Form_sign i (lN n) = 0 then (if q_Form_exponent i (lN n) - fm_b i < (64 : Int32) then (if q_Long_compareUnsigned (q_Conversions_cutAmount i (lN n)) (q_Conversions_greatest (0 : Int32) (nI w) sg) ≤ 0 then ((0, q_Bits_lowest (nI w) (q_Conversions_cutAmount i (lN n))) : Nat × Int64) else (3, 0)) else (3, 0)) else (if q_Form_exponent i (lN n) - fm_b i < (64 : Int32) then (if q_Long_compareUnsigned (q_Conversions_cutAmount i (lN n)) (q_Conversions_greatest (1 : Int32) (nI w) sg) ≤ 0 then (0, q_Bits_lowest (nI w) (-(q_Conversions_cutAmount i (lN n)))) else (3, 0)) else (3, 0))) = (3, 0) := by
      rw [if_neg (fun q => c2 (hlt.mp q)), if_neg (fun q => c2 (hlt.mp q)), ite_self]
    rw [hcls]
    refine Or.inr ⟨3, by decide, by decide, rfl, ?_⟩
    by_cases c3 : q_Form_isInfinite i (lN n) = 0
    · rw [if_pos c3, if_neg (fun q => c2 (hok.mp q))]; rfl
    · rw [if_neg c3]; rfl
theorem ok_cut {a0 : Int32} {i W F B w : Nat} {sg : Int32} (h : ff_ i W F B) (hw : wd_ w) (hs : sg = 0 ∨ sg = 1) (han : ∀ a1 a2, q_Operations_answer a0 a1 a2 = if (q_Conversions_toWholeOrBits a0 a1).1 = 0 then (0, (q_Conversions_toWholeOrBits a0 a1).2) else ((q_Conversions_toWholeOrBits a0 a1).1, 0)) (hc : ∀ a1, q_Conversions_toWholeOrBits a0 a1 = if (q_Conversions_cut i a1 (nI w) sg).1 = 0 then (0, (q_Conversions_cut i a1 (nI w) sg).2) else ((q_Conversions_cut i a1 (nI w) sg).1, 0)) (hrc : ∀ m1 m2, q_Ref_answer_cd 0 a0 m1 m2 = q_Ref_cut_cd 0 (nI W) (nI F) (nI B) 0 0 0 m1 (nI w) sg) (hra : ∀ m1 m2, q_Ref_answer 0 a0 m1 m2 = q_Ref_cut 0 (nI W) (nI F) (nI B) 0 0 0 m1 (nI w) sg) (hk : ∀ a, mk1_ (q_Ref_first a0) a = lN (un_ a % 2 ^ W)) (hr : ∀ a, mk1_ (q_Ref_result a0) a = q_Bits_lowest (nI w) a) : OK_ a0 := by
  refine ok_th (fun a1 a2 => ?_)
  rw [hrc, hra, hk, hr]
  have ew : fm_w i = nI W := by rcases h with ⟨rfl, rfl, -⟩ | ⟨rfl, rfl, -⟩ <;> decide
  rcases cut_e h (Nat.mod_lt (un_ a1) (Nat.two_pow_pos W)) hw sg hs a1 (by rw [ew, low_W (ff_wd h)]) with ⟨v, e1, e2, e3⟩ | ⟨c, h1, h4, e1, e2⟩
  · refine Or.inl ⟨q_Bits_lowest (nI w) v, ?_, e2, by rw [e3]⟩
    rw [han, hc, e1]; rfl
  · refine Or.inr ⟨c, h1, h4, ?_, e2⟩
    have hcz : ¬ c = 0 := by omega
    rw [han, hc, e1]
    simp only [hcz, ↓reduceIte]
theorem rc_168 (m1 m2 : Int64) : q_Ref_answer_cd 0 168 m1 m2 = q_Ref_cut_cd 0 32 23 127 0 0 0 m1 32 1 := by unfold q_Ref_answer_cd q_Ref_turnedInto_cd; simp (decide := true) only [↓reduceIte, q_Ref_format_wi, q_Ref_format_fr, q_Ref_format_bi, show fF 32 = 23 from rfl, show fF 64 = 52 from rfl, show fB 32 = 127 from rfl, show fB 64 = 1023 from rfl]
theorem ra_168 (m1 m2 : Int64) : q_Ref_answer 0 168 m1 m2 = q_Ref_cut 0 32 23 127 0 0 0 m1 32 1 := by unfold q_Ref_answer q_Ref_turnedInto; simp (decide := true) only [↓reduceIte, q_Ref_format_wi, q_Ref_format_fr, q_Ref_format_bi, show fF 32 = 23 from rfl, show fF 64 = 52 from rfl, show fB 32 = 127 from rfl, show fB 64 = 1023 from rfl]
theorem wcl_168 (a : Int64) : q_Conversions_toWholeOrBits 168 a = if (q_Conversions_cut 0 a 32 1).1 = 0 then (0, (q_Conversions_cut 0 a 32 1).2) else ((q_Conversions_cut 0 a 32 1).1, 0) := by unfold q_Conversions_toWholeOrBits; simp (decide := true) only [↓reduceIte]
theorem ok_168 : OK_ 168 := ok_cut (w := 32) (sg := 1) ff_0 (Or.inl rfl : wd_ 32) (by decide) (an_wb1 (by decide +kernel) (by decide +kernel) (by decide +kernel)) wcl_168 rc_168 ra_168 (mk_even (k := q_Ref_first 168) (by decide +kernel)) (fun a => (mk_even (k := q_Ref_result 168) (by decide +kernel) a).trans (low_W (Or.inl rfl : wd_ 32) a).symm)
theorem rc_169 (m1 m2 : Int64) : q_Ref_answer_cd 0 169 m1 m2 = q_Ref_cut_cd 0 32 23 127 0 0 0 m1 32 0 := by unfold q_Ref_answer_cd q_Ref_turnedInto_cd; simp (decide := true) only [↓reduceIte, q_Ref_format_wi, q_Ref_format_fr, q_Ref_format_bi, show fF 32 = 23 from rfl, show fF 64 = 52 from rfl, show fB 32 = 127 from rfl, show fB 64 = 1023 from rfl]
theorem ra_169 (m1 m2 : Int64) : q_Ref_answer 0 169 m1 m2 = q_Ref_cut 0 32 23 127 0 0 0 m1 32 0 := by unfold q_Ref_answer q_Ref_turnedInto; simp (decide := true) only [↓reduceIte, q_Ref_format_wi, q_Ref_format_fr, q_Ref_format_bi, show fF 32 = 23 from rfl, show fF 64 = 52 from rfl, show fB 32 = 127 from rfl, show fB 64 = 1023 from rfl]
theorem wcl_169 (a : Int64) : q_Conversions_toWholeOrBits 169 a = if (q_Conversions_cut 0 a 32 0).1 = 0 then (0, (q_Conversions_cut 0 a 32 0).2) else ((q_Conversions_cut 0 a 32 0).1, 0) := by unfold q_Conversions_toWholeOrBits; simp (decide := true) only [↓reduceIte]
theorem ok_169 : OK_ 169 := ok_cut (w := 32) (sg := 0) ff_0 (Or.inl rfl : wd_ 32) (by decide) (an_wb1 (by decide +kernel) (by decide +kernel) (by decide +kernel)) wcl_169 rc_169 ra_169 (mk_even (k := q_Ref_first 169) (by decide +kernel)) (fun a => (mk_even (k := q_Ref_result 169) (by decide +kernel) a).trans (low_W (Or.inl rfl : wd_ 32) a).symm)
theorem rc_170 (m1 m2 : Int64) : q_Ref_answer_cd 0 170 m1 m2 = q_Ref_cut_cd 0 64 52 1023 0 0 0 m1 32 1 := by unfold q_Ref_answer_cd q_Ref_turnedInto_cd; simp (decide := true) only [↓reduceIte, q_Ref_format_wi, q_Ref_format_fr, q_Ref_format_bi, show fF 32 = 23 from rfl, show fF 64 = 52 from rfl, show fB 32 = 127 from rfl, show fB 64 = 1023 from rfl]
theorem ra_170 (m1 m2 : Int64) : q_Ref_answer 0 170 m1 m2 = q_Ref_cut 0 64 52 1023 0 0 0 m1 32 1 := by unfold q_Ref_answer q_Ref_turnedInto; simp (decide := true) only [↓reduceIte, q_Ref_format_wi, q_Ref_format_fr, q_Ref_format_bi, show fF 32 = 23 from rfl, show fF 64 = 52 from rfl, show fB 32 = 127 from rfl, show fB 64 = 1023 from rfl]
theorem wcl_170 (a : Int64) : q_Conversions_toWholeOrBits 170 a = if (q_Conversions_cut 1 a 32 1).1 = 0 then (0, (q_Conversions_cut 1 a 32 1).2) else ((q_Conversions_cut 1 a 32 1).1, 0) := by unfold q_Conversions_toWholeOrBits; simp (decide := true) only [↓reduceIte]
theorem ok_170 : OK_ 170 := ok_cut (w := 32) (sg := 1) ff_1 (Or.inl rfl : wd_ 32) (by decide) (an_wb1 (by decide +kernel) (by decide +kernel) (by decide +kernel)) wcl_170 rc_170 ra_170 (mk_odd (k := q_Ref_first 170) (by decide +kernel)) (fun a => (mk_even (k := q_Ref_result 170) (by decide +kernel) a).trans (low_W (Or.inl rfl : wd_ 32) a).symm)
theorem rc_171 (m1 m2 : Int64) : q_Ref_answer_cd 0 171 m1 m2 = q_Ref_cut_cd 0 64 52 1023 0 0 0 m1 32 0 := by unfold q_Ref_answer_cd q_Ref_turnedInto_cd; simp (decide := true) only [↓reduceIte, q_Ref_format_wi, q_Ref_format_fr, q_Ref_format_bi, show fF 32 = 23 from rfl, show fF 64 = 52 from rfl, show fB 32 = 127 from rfl, show fB 64 = 1023 from rfl]
theorem ra_171 (m1 m2 : Int64) : q_Ref_answer 0 171 m1 m2 = q_Ref_cut 0 64 52 1023 0 0 0 m1 32 0 := by unfold q_Ref_answer q_Ref_turnedInto; simp (decide := true) only [↓reduceIte, q_Ref_format_wi, q_Ref_format_fr, q_Ref_format_bi, show fF 32 = 23 from rfl, show fF 64 = 52 from rfl, show fB 32 = 127 from rfl, show fB 64 = 1023 from rfl]
theorem wcl_171 (a : Int64) : q_Conversions_toWholeOrBits 171 a = if (q_Conversions_cut 1 a 32 0).1 = 0 then (0, (q_Conversions_cut 1 a 32 0).2) else ((q_Conversions_cut 1 a 32 0).1, 0) := by unfold q_Conversions_toWholeOrBits; simp (decide := true) only [↓reduceIte]
theorem ok_171 : OK_ 171 := ok_cut (w := 32) (sg := 0) ff_1 (Or.inl rfl : wd_ 32) (by decide) (an_wb1 (by decide +kernel) (by decide +kernel) (by decide +kernel)) wcl_171 rc_171 ra_171 (mk_odd (k := q_Ref_first 171) (by decide +kernel)) (fun a => (mk_even (k := q_Ref_result 171) (by decide +kernel) a).trans (low_W (Or.inl rfl : wd_ 32) a).symm)
theorem rc_174 (m1 m2 : Int64) : q_Ref_answer_cd 0 174 m1 m2 = q_Ref_cut_cd 0 32 23 127 0 0 0 m1 64 1 := by unfold q_Ref_answer_cd q_Ref_turnedInto_cd; simp (decide := true) only [↓reduceIte, q_Ref_format_wi, q_Ref_format_fr, q_Ref_format_bi, show fF 32 = 23 from rfl, show fF 64 = 52 from rfl, show fB 32 = 127 from rfl, show fB 64 = 1023 from rfl]
theorem ra_174 (m1 m2 : Int64) : q_Ref_answer 0 174 m1 m2 = q_Ref_cut 0 32 23 127 0 0 0 m1 64 1 := by unfold q_Ref_answer q_Ref_turnedInto; simp (decide := true) only [↓reduceIte, q_Ref_format_wi, q_Ref_format_fr, q_Ref_format_bi, show fF 32 = 23 from rfl, show fF 64 = 52 from rfl, show fB 32 = 127 from rfl, show fB 64 = 1023 from rfl]
theorem wcl_174 (a : Int64) : q_Conversions_toWholeOrBits 174 a = if (q_Conversions_cut 0 a 64 1).1 = 0 then (0, (q_Conversions_cut 0 a 64 1).2) else ((q_Conversions_cut 0 a 64 1).1, 0) := by unfold q_Conversions_toWholeOrBits; simp (decide := true) only [↓reduceIte]
theorem ok_174 : OK_ 174 := ok_cut (w := 64) (sg := 1) ff_0 (Or.inr rfl : wd_ 64) (by decide) (an_wb1 (by decide +kernel) (by decide +kernel) (by decide +kernel)) wcl_174 rc_174 ra_174 (mk_even (k := q_Ref_first 174) (by decide +kernel)) (fun a => (mk_odd (k := q_Ref_result 174) (by decide +kernel) a).trans (low_W (Or.inr rfl : wd_ 64) a).symm)
theorem rc_175 (m1 m2 : Int64) : q_Ref_answer_cd 0 175 m1 m2 = q_Ref_cut_cd 0 32 23 127 0 0 0 m1 64 0 := by unfold q_Ref_answer_cd q_Ref_turnedInto_cd; simp (decide := true) only [↓reduceIte, q_Ref_format_wi, q_Ref_format_fr, q_Ref_format_bi, show fF 32 = 23 from rfl, show fF 64 = 52 from rfl, show fB 32 = 127 from rfl, show fB 64 = 1023 from rfl]
theorem ra_175 (m1 m2 : Int64) : q_Ref_answer 0 175 m1 m2 = q_Ref_cut 0 32 23 127 0 0 0 m1 64 0 := by unfold q_Ref_answer q_Ref_turnedInto; simp (decide := true) only [↓reduceIte, q_Ref_format_wi, q_Ref_format_fr, q_Ref_format_bi, show fF 32 = 23 from rfl, show fF 64 = 52 from rfl, show fB 32 = 127 from rfl, show fB 64 = 1023 from rfl]
theorem wcl_175 (a : Int64) : q_Conversions_toWholeOrBits 175 a = if (q_Conversions_cut 0 a 64 0).1 = 0 then (0, (q_Conversions_cut 0 a 64 0).2) else ((q_Conversions_cut 0 a 64 0).1, 0) := by unfold q_Conversions_toWholeOrBits; simp (decide := true) only [↓reduceIte]
theorem ok_175 : OK_ 175 := ok_cut (w := 64) (sg := 0) ff_0 (Or.inr rfl : wd_ 64) (by decide) (an_wb1 (by decide +kernel) (by decide +kernel) (by decide +kernel)) wcl_175 rc_175 ra_175 (mk_even (k := q_Ref_first 175) (by decide +kernel)) (fun a => (mk_odd (k := q_Ref_result 175) (by decide +kernel) a).trans (low_W (Or.inr rfl : wd_ 64) a).symm)
theorem rc_176 (m1 m2 : Int64) : q_Ref_answer_cd 0 176 m1 m2 = q_Ref_cut_cd 0 64 52 1023 0 0 0 m1 64 1 := by unfold q_Ref_answer_cd q_Ref_turnedInto_cd; simp (decide := true) only [↓reduceIte, q_Ref_format_wi, q_Ref_format_fr, q_Ref_format_bi, show fF 32 = 23 from rfl, show fF 64 = 52 from rfl, show fB 32 = 127 from rfl, show fB 64 = 1023 from rfl]
theorem ra_176 (m1 m2 : Int64) : q_Ref_answer 0 176 m1 m2 = q_Ref_cut 0 64 52 1023 0 0 0 m1 64 1 := by unfold q_Ref_answer q_Ref_turnedInto; simp (decide := true) only [↓reduceIte, q_Ref_format_wi, q_Ref_format_fr, q_Ref_format_bi, show fF 32 = 23 from rfl, show fF 64 = 52 from rfl, show fB 32 = 127 from rfl, show fB 64 = 1023 from rfl]
theorem wcl_176 (a : Int64) : q_Conversions_toWholeOrBits 176 a = if (q_Conversions_cut 1 a 64 1).1 = 0 then (0, (q_Conversions_cut 1 a 64 1).2) else ((q_Conversions_cut 1 a 64 1).1, 0) := by unfold q_Conversions_toWholeOrBits; simp (decide := true) only [↓reduceIte]
theorem ok_176 : OK_ 176 := ok_cut (w := 64) (sg := 1) ff_1 (Or.inr rfl : wd_ 64) (by decide) (an_wb1 (by decide +kernel) (by decide +kernel) (by decide +kernel)) wcl_176 rc_176 ra_176 (mk_odd (k := q_Ref_first 176) (by decide +kernel)) (fun a => (mk_odd (k := q_Ref_result 176) (by decide +kernel) a).trans (low_W (Or.inr rfl : wd_ 64) a).symm)
theorem rc_177 (m1 m2 : Int64) : q_Ref_answer_cd 0 177 m1 m2 = q_Ref_cut_cd 0 64 52 1023 0 0 0 m1 64 0 := by unfold q_Ref_answer_cd q_Ref_turnedInto_cd; simp (decide := true) only [↓reduceIte, q_Ref_format_wi, q_Ref_format_fr, q_Ref_format_bi, show fF 32 = 23 from rfl, show fF 64 = 52 from rfl, show fB 32 = 127 from rfl, show fB 64 = 1023 from rfl]
theorem ra_177 (m1 m2 : Int64) : q_Ref_answer 0 177 m1 m2 = q_Ref_cut 0 64 52 1023 0 0 0 m1 64 0 := by unfold q_Ref_answer q_Ref_turnedInto; simp (decide := true) only [↓reduceIte, q_Ref_format_wi, q_Ref_format_fr, q_Ref_format_bi, show fF 32 = 23 from rfl, show fF 64 = 52 from rfl, show fB 32 = 127 from rfl, show fB 64 = 1023 from rfl]
theorem wcl_177 (a : Int64) : q_Conversions_toWholeOrBits 177 a = if (q_Conversions_cut 1 a 64 0).1 = 0 then (0, (q_Conversions_cut 1 a 64 0).2) else ((q_Conversions_cut 1 a 64 0).1, 0) := by unfold q_Conversions_toWholeOrBits; simp (decide := true) only [↓reduceIte]
theorem ok_177 : OK_ 177 := ok_cut (w := 64) (sg := 0) ff_1 (Or.inr rfl : wd_ 64) (by decide) (an_wb1 (by decide +kernel) (by decide +kernel) (by decide +kernel)) wcl_177 rc_177 ra_177 (mk_odd (k := q_Ref_first 177) (by decide +kernel)) (fun a => (mk_odd (k := q_Ref_result 177) (by decide +kernel) a).trans (low_W (Or.inr rfl : wd_ 64) a).symm)
theorem rc_167 (m1 m2 : Int64) : q_Ref_answer_cd 0 167 m1 m2 = 0 := by unfold q_Ref_answer_cd q_Ref_turnedInto_cd; simp (decide := true) only [↓reduceIte, q_Ref_format_wi, q_Ref_format_fr, q_Ref_format_bi, show fF 32 = 23 from rfl, show fF 64 = 52 from rfl, show fB 32 = 127 from rfl, show fB 64 = 1023 from rfl]
theorem ra_167 (m1 m2 : Int64) : q_Ref_answer 0 167 m1 m2 = m1 := by unfold q_Ref_answer q_Ref_turnedInto; simp (decide := true) only [↓reduceIte, q_Ref_format_wi, q_Ref_format_fr, q_Ref_format_bi, show fF 32 = 23 from rfl, show fF 64 = 52 from rfl, show fB 32 = 127 from rfl, show fB 64 = 1023 from rfl]
theorem wcl_167 (a : Int64) : q_Conversions_toWholeOrBits 167 a = (0, q_Bits_lowest 32 a) := by unfold q_Conversions_toWholeOrBits; simp (decide := true) only [↓reduceIte]
theorem ok_167 : OK_ 167 := by
  refine ok_pure (fun a _ => q_Bits_lowest 32 a) (fun M _ => M) (fun a1 a2 => ?_) rc_167 ra_167 (fun a1 a2 => ?_)
  · rw [an_wb1 (by decide +kernel) (by decide +kernel) (by decide +kernel), wcl_167]; rfl
  · show q_Bits_lowest 32 a1 = mk1_ (q_Ref_result 167) (mk1_ (q_Ref_first 167) a1)
    rw [mk_odd (k := q_Ref_first 167) (by decide +kernel), mk_even (k := q_Ref_result 167) (by decide +kernel), un_of (W_64 (Or.inr rfl : wd_ 64) (Nat.mod_lt _ (by decide)))]
    refine (low_W (Or.inl rfl : wd_ 32) a1).trans ?_
    congr 1
    omega
theorem rc_173 (m1 m2 : Int64) : q_Ref_answer_cd 0 173 m1 m2 = 0 := by unfold q_Ref_answer_cd q_Ref_turnedInto_cd; simp (decide := true) only [↓reduceIte, q_Ref_format_wi, q_Ref_format_fr, q_Ref_format_bi, show fF 32 = 23 from rfl, show fF 64 = 52 from rfl, show fB 32 = 127 from rfl, show fB 64 = 1023 from rfl]
theorem ra_173 (m1 m2 : Int64) : q_Ref_answer 0 173 m1 m2 = m1 := by unfold q_Ref_answer q_Ref_turnedInto; simp (decide := true) only [↓reduceIte, q_Ref_format_wi, q_Ref_format_fr, q_Ref_format_bi, show fF 32 = 23 from rfl, show fF 64 = 52 from rfl, show fB 32 = 127 from rfl, show fB 64 = 1023 from rfl]
theorem wcl_173 (a : Int64) : q_Conversions_toWholeOrBits 173 a = (0, q_Bits_lowest 32 a) := by unfold q_Conversions_toWholeOrBits; simp (decide := true) only [↓reduceIte]
theorem ok_173 : OK_ 173 := by
  refine ok_pure (fun a _ => q_Bits_lowest 32 a) (fun M _ => M) (fun a1 a2 => ?_) rc_173 ra_173 (fun a1 a2 => ?_)
  · rw [an_wb1 (by decide +kernel) (by decide +kernel) (by decide +kernel), wcl_173]; rfl
  · show q_Bits_lowest 32 a1 = mk1_ (q_Ref_result 173) (mk1_ (q_Ref_first 173) a1)
    rw [mk_even (k := q_Ref_first 173) (by decide +kernel), mk_odd (k := q_Ref_result 173) (by decide +kernel), un_of (W_64 (Or.inl rfl : wd_ 32) (Nat.mod_lt _ (by decide)))]
    refine (low_W (Or.inl rfl : wd_ 32) a1).trans ?_
    congr 1
    omega
theorem rc_188 (m1 m2 : Int64) : q_Ref_answer_cd 0 188 m1 m2 = 0 := by unfold q_Ref_answer_cd q_Ref_turnedInto_cd; simp (decide := true) only [↓reduceIte, q_Ref_format_wi, q_Ref_format_fr, q_Ref_format_bi, show fF 32 = 23 from rfl, show fF 64 = 52 from rfl, show fB 32 = 127 from rfl, show fB 64 = 1023 from rfl]
theorem ra_188 (m1 m2 : Int64) : q_Ref_answer 0 188 m1 m2 = m1 := by unfold q_Ref_answer q_Ref_turnedInto; simp (decide := true) only [↓reduceIte, q_Ref_format_wi, q_Ref_format_fr, q_Ref_format_bi, show fF 32 = 23 from rfl, show fF 64 = 52 from rfl, show fB 32 = 127 from rfl, show fB 64 = 1023 from rfl]
theorem wcl_188 (a : Int64) : q_Conversions_toWholeOrBits 188 a = (0, q_Bits_lowest 32 a) := by unfold q_Conversions_toWholeOrBits; simp (decide := true) only [↓reduceIte]
theorem ok_188 : OK_ 188 := by
  refine ok_pure (fun a _ => q_Bits_lowest 32 a) (fun M _ => M) (fun a1 a2 => ?_) rc_188 ra_188 (fun a1 a2 => ?_)
  · rw [an_wb2 (by decide +kernel) (by decide +kernel) (by decide +kernel) (by decide +kernel), wcl_188]; rfl
  · show q_Bits_lowest 32 a1 = mk1_ (q_Ref_result 188) (mk1_ (q_Ref_first 188) a1)
    rw [mk_even (k := q_Ref_first 188) (by decide +kernel), mk_even (k := q_Ref_result 188) (by decide +kernel), un_of (W_64 (Or.inl rfl : wd_ 32) (Nat.mod_lt _ (by decide)))]
    refine (low_W (Or.inl rfl : wd_ 32) a1).trans ?_
    congr 1
    omega
theorem rc_190 (m1 m2 : Int64) : q_Ref_answer_cd 0 190 m1 m2 = 0 := by unfold q_Ref_answer_cd q_Ref_turnedInto_cd; simp (decide := true) only [↓reduceIte, q_Ref_format_wi, q_Ref_format_fr, q_Ref_format_bi, show fF 32 = 23 from rfl, show fF 64 = 52 from rfl, show fB 32 = 127 from rfl, show fB 64 = 1023 from rfl]
theorem ra_190 (m1 m2 : Int64) : q_Ref_answer 0 190 m1 m2 = m1 := by unfold q_Ref_answer q_Ref_turnedInto; simp (decide := true) only [↓reduceIte, q_Ref_format_wi, q_Ref_format_fr, q_Ref_format_bi, show fF 32 = 23 from rfl, show fF 64 = 52 from rfl, show fB 32 = 127 from rfl, show fB 64 = 1023 from rfl]
theorem wcl_190 (a : Int64) : q_Conversions_toWholeOrBits 190 a = (0, q_Bits_lowest 32 a) := by unfold q_Conversions_toWholeOrBits; simp (decide := true) only [↓reduceIte]
theorem ok_190 : OK_ 190 := by
  refine ok_pure (fun a _ => q_Bits_lowest 32 a) (fun M _ => M) (fun a1 a2 => ?_) rc_190 ra_190 (fun a1 a2 => ?_)
  · rw [an_wb2 (by decide +kernel) (by decide +kernel) (by decide +kernel) (by decide +kernel), wcl_190]; rfl
  · show q_Bits_lowest 32 a1 = mk1_ (q_Ref_result 190) (mk1_ (q_Ref_first 190) a1)
    rw [mk_even (k := q_Ref_first 190) (by decide +kernel), mk_even (k := q_Ref_result 190) (by decide +kernel), un_of (W_64 (Or.inl rfl : wd_ 32) (Nat.mod_lt _ (by decide)))]
    refine (low_W (Or.inl rfl : wd_ 32) a1).trans ?_
    congr 1
    omega
theorem rc_189 (m1 m2 : Int64) : q_Ref_answer_cd 0 189 m1 m2 = 0 := by unfold q_Ref_answer_cd q_Ref_turnedInto_cd; simp (decide := true) only [↓reduceIte, q_Ref_format_wi, q_Ref_format_fr, q_Ref_format_bi, show fF 32 = 23 from rfl, show fF 64 = 52 from rfl, show fB 32 = 127 from rfl, show fB 64 = 1023 from rfl]
theorem ra_189 (m1 m2 : Int64) : q_Ref_answer 0 189 m1 m2 = m1 := by unfold q_Ref_answer q_Ref_turnedInto; simp (decide := true) only [↓reduceIte, q_Ref_format_wi, q_Ref_format_fr, q_Ref_format_bi, show fF 32 = 23 from rfl, show fF 64 = 52 from rfl, show fB 32 = 127 from rfl, show fB 64 = 1023 from rfl]
theorem wcl_189 (a : Int64) : q_Conversions_toWholeOrBits 189 a = (0, a) := by unfold q_Conversions_toWholeOrBits; simp (decide := true) only [↓reduceIte]
theorem ok_189 : OK_ 189 := by
  refine ok_pure (fun a _ => a) (fun M _ => M) (fun a1 a2 => ?_) rc_189 ra_189 (fun a1 a2 => ?_)
  · rw [an_wb2 (by decide +kernel) (by decide +kernel) (by decide +kernel) (by decide +kernel), wcl_189]; rfl
  · show a1 = mk1_ (q_Ref_result 189) (mk1_ (q_Ref_first 189) a1)
    rw [mk_odd (k := q_Ref_first 189) (by decide +kernel), mk_odd (k := q_Ref_result 189) (by decide +kernel), un_of (Nat.mod_lt _ (by decide)), Nat.mod_mod, Nat.mod_eq_of_lt (un_lt a1)]
    exact un_lN a1
theorem rc_191 (m1 m2 : Int64) : q_Ref_answer_cd 0 191 m1 m2 = 0 := by unfold q_Ref_answer_cd q_Ref_turnedInto_cd; simp (decide := true) only [↓reduceIte, q_Ref_format_wi, q_Ref_format_fr, q_Ref_format_bi, show fF 32 = 23 from rfl, show fF 64 = 52 from rfl, show fB 32 = 127 from rfl, show fB 64 = 1023 from rfl]
theorem ra_191 (m1 m2 : Int64) : q_Ref_answer 0 191 m1 m2 = m1 := by unfold q_Ref_answer q_Ref_turnedInto; simp (decide := true) only [↓reduceIte, q_Ref_format_wi, q_Ref_format_fr, q_Ref_format_bi, show fF 32 = 23 from rfl, show fF 64 = 52 from rfl, show fB 32 = 127 from rfl, show fB 64 = 1023 from rfl]
theorem wcl_191 (a : Int64) : q_Conversions_toWholeOrBits 191 a = (0, a) := by unfold q_Conversions_toWholeOrBits; simp (decide := true) only [↓reduceIte]
theorem ok_191 : OK_ 191 := by
  refine ok_pure (fun a _ => a) (fun M _ => M) (fun a1 a2 => ?_) rc_191 ra_191 (fun a1 a2 => ?_)
  · rw [an_wb2 (by decide +kernel) (by decide +kernel) (by decide +kernel) (by decide +kernel), wcl_191]; rfl
  · show a1 = mk1_ (q_Ref_result 191) (mk1_ (q_Ref_first 191) a1)
    rw [mk_odd (k := q_Ref_first 191) (by decide +kernel), mk_odd (k := q_Ref_result 191) (by decide +kernel), un_of (Nat.mod_lt _ (by decide)), Nat.mod_mod, Nat.mod_eq_of_lt (un_lt a1)]
    exact un_lN a1
theorem rc_172 (m1 m2 : Int64) : q_Ref_answer_cd 0 172 m1 m2 = 0 := by unfold q_Ref_answer_cd q_Ref_turnedInto_cd; simp (decide := true) only [↓reduceIte, q_Ref_format_wi, q_Ref_format_fr, q_Ref_format_bi, show fF 32 = 23 from rfl, show fF 64 = 52 from rfl, show fB 32 = 127 from rfl, show fB 64 = 1023 from rfl]
theorem ra_172 (m1 m2 : Int64) : q_Ref_answer 0 172 m1 m2 = q_Ref_withSign m1 32 := by unfold q_Ref_answer q_Ref_turnedInto; simp (decide := true) only [↓reduceIte, q_Ref_format_wi, q_Ref_format_fr, q_Ref_format_bi, show fF 32 = 23 from rfl, show fF 64 = 52 from rfl, show fB 32 = 127 from rfl, show fB 64 = 1023 from rfl]
theorem wcl_172 (a : Int64) : q_Conversions_toWholeOrBits 172 a = (0, q_Bits_signed 32 a) := by unfold q_Conversions_toWholeOrBits; simp (decide := true) only [↓reduceIte]
theorem ok_172 : OK_ 172 := by
  refine ok_pure (fun a _ => q_Bits_signed 32 a) (fun M _ => q_Ref_withSign M 32) (fun a1 a2 => ?_) rc_172 ra_172 (fun a1 a2 => ?_)
  · rw [an_wb1 (by decide +kernel) (by decide +kernel) (by decide +kernel), wcl_172]; rfl
  · show q_Bits_signed 32 a1 = mk1_ (q_Ref_result 172) (q_Ref_withSign (mk1_ (q_Ref_first 172) a1) 32)
    rw [mk_even (k := q_Ref_first 172) (by decide +kernel), show q_Ref_withSign (lN (un_ a1 % 2 ^ 32)) 32 = _ from ws_W (Or.inl rfl : wd_ 32) (Nat.mod_lt _ (by decide)), show q_Bits_signed 32 a1 = _ from sig_W (Or.inl rfl : wd_ 32) a1, mk_odd (k := q_Ref_result 172) (by decide +kernel), Nat.mod_eq_of_lt (un_lt _)]
    exact un_lN _
theorem rc_178 (m1 m2 : Int64) : q_Ref_answer_cd 0 178 m1 m2 = 0 := by unfold q_Ref_answer_cd q_Ref_turnedInto_cd; simp (decide := true) only [↓reduceIte, q_Ref_format_wi, q_Ref_format_fr, q_Ref_format_bi, show fF 32 = 23 from rfl, show fF 64 = 52 from rfl, show fB 32 = 127 from rfl, show fB 64 = 1023 from rfl]
theorem ra_178 (m1 m2 : Int64) : q_Ref_answer 0 178 m1 m2 = q_Ref_floating 23 127 32 (q_Ref_withSign m1 32) 1 := by unfold q_Ref_answer q_Ref_turnedInto; simp (decide := true) only [↓reduceIte, q_Ref_format_wi, q_Ref_format_fr, q_Ref_format_bi, show fF 32 = 23 from rfl, show fF 64 = 52 from rfl, show fB 32 = 127 from rfl, show fB 64 = 1023 from rfl]
theorem wcl_178 (a : Int64) : q_Conversions_toFloat 178 a = q_Conversions_fromSigned 0 (q_Bits_signed 32 a) := by unfold q_Conversions_toFloat; simp (decide := true) only [↓reduceIte]
theorem ok_178 : OK_ 178 := by
  refine ok_pure (fun a _ => q_Conversions_fromSigned 0 (q_Bits_signed 32 a)) (fun M _ => q_Ref_floating 23 127 32 (q_Ref_withSign M 32) 1) (fun a1 a2 => ?_) rc_178 ra_178 (fun a1 a2 => ?_)
  · rw [an_tf (by decide +kernel) (by decide +kernel) (by decide +kernel), wcl_178]
  · rw [mk_even (k := q_Ref_first 178) (by decide +kernel)]
    rw [show q_Ref_withSign (lN (un_ a1 % 2 ^ 32)) 32 = _ from ws_W (Or.inl rfl : wd_ 32) (Nat.mod_lt (un_ a1) (show 0 < 2 ^ 32 by decide)), show q_Bits_signed 32 a1 = _ from sig_W (Or.inl rfl : wd_ 32) a1, se_e (Or.inl rfl : wd_ 32) (Nat.mod_lt (un_ a1) (show 0 < 2 ^ 32 by decide))]
    exact (fl_s ff_0 (se_lt (Or.inl rfl : wd_ 32) (Nat.mod_lt (un_ a1) (show 0 < 2 ^ 32 by decide)))).trans (mk_fit (fun a => (mk_even (k := q_Ref_result 178) (by decide +kernel) a).trans (low_W (Or.inl rfl : wd_ 32) a).symm) (fit_fl ff_0 (se_lt (Or.inl rfl : wd_ 32) (Nat.mod_lt (un_ a1) (show 0 < 2 ^ 32 by decide))) 1)).symm
theorem rc_179 (m1 m2 : Int64) : q_Ref_answer_cd 0 179 m1 m2 = 0 := by unfold q_Ref_answer_cd q_Ref_turnedInto_cd; simp (decide := true) only [↓reduceIte, q_Ref_format_wi, q_Ref_format_fr, q_Ref_format_bi, show fF 32 = 23 from rfl, show fF 64 = 52 from rfl, show fB 32 = 127 from rfl, show fB 64 = 1023 from rfl]
theorem ra_179 (m1 m2 : Int64) : q_Ref_answer 0 179 m1 m2 = q_Ref_floating 23 127 32 (m1) 0 := by unfold q_Ref_answer q_Ref_turnedInto; simp (decide := true) only [↓reduceIte, q_Ref_format_wi, q_Ref_format_fr, q_Ref_format_bi, show fF 32 = 23 from rfl, show fF 64 = 52 from rfl, show fB 32 = 127 from rfl, show fB 64 = 1023 from rfl]
theorem wcl_179 (a : Int64) : q_Conversions_toFloat 179 a = q_Conversions_fromUnsigned 0 (q_Bits_lowest 32 a) := by unfold q_Conversions_toFloat; simp (decide := true) only [↓reduceIte]
theorem ok_179 : OK_ 179 := by
  refine ok_pure (fun a _ => q_Conversions_fromUnsigned 0 (q_Bits_lowest 32 a)) (fun M _ => q_Ref_floating 23 127 32 (M) 0) (fun a1 a2 => ?_) rc_179 ra_179 (fun a1 a2 => ?_)
  · rw [an_tf (by decide +kernel) (by decide +kernel) (by decide +kernel), wcl_179]
  · rw [mk_even (k := q_Ref_first 179) (by decide +kernel)]
    rw [show q_Bits_lowest 32 a1 = _ from low_W (Or.inl rfl : wd_ 32) a1]
    exact (fl_u ff_0 (W_64 (Or.inl rfl : wd_ 32) (Nat.mod_lt (un_ a1) (show 0 < 2 ^ 32 by decide)))).trans (mk_fit (fun a => (mk_even (k := q_Ref_result 179) (by decide +kernel) a).trans (low_W (Or.inl rfl : wd_ 32) a).symm) (fit_fl ff_0 (W_64 (Or.inl rfl : wd_ 32) (Nat.mod_lt (un_ a1) (show 0 < 2 ^ 32 by decide))) 0)).symm
theorem rc_180 (m1 m2 : Int64) : q_Ref_answer_cd 0 180 m1 m2 = 0 := by unfold q_Ref_answer_cd q_Ref_turnedInto_cd; simp (decide := true) only [↓reduceIte, q_Ref_format_wi, q_Ref_format_fr, q_Ref_format_bi, show fF 32 = 23 from rfl, show fF 64 = 52 from rfl, show fB 32 = 127 from rfl, show fB 64 = 1023 from rfl]
theorem ra_180 (m1 m2 : Int64) : q_Ref_answer 0 180 m1 m2 = q_Ref_floating 23 127 32 (m1) 1 := by unfold q_Ref_answer q_Ref_turnedInto; simp (decide := true) only [↓reduceIte, q_Ref_format_wi, q_Ref_format_fr, q_Ref_format_bi, show fF 32 = 23 from rfl, show fF 64 = 52 from rfl, show fB 32 = 127 from rfl, show fB 64 = 1023 from rfl]
theorem wcl_180 (a : Int64) : q_Conversions_toFloat 180 a = q_Conversions_fromSigned 0 (a) := by unfold q_Conversions_toFloat; simp (decide := true) only [↓reduceIte]
theorem ok_180 : OK_ 180 := by
  refine ok_pure (fun a _ => q_Conversions_fromSigned 0 (a)) (fun M _ => q_Ref_floating 23 127 32 (M) 1) (fun a1 a2 => ?_) rc_180 ra_180 (fun a1 a2 => ?_)
  · rw [an_tf (by decide +kernel) (by decide +kernel) (by decide +kernel), wcl_180]
  · rw [mk_odd (k := q_Ref_first 180) (by decide +kernel)]
    rw [show lN (un_ a1 % 2 ^ 64) = a1 by rw [Nat.mod_eq_of_lt (un_lt a1), ← un_lN a1], un_lN a1]
    exact (fl_s ff_0 (un_lt a1)).trans (mk_fit (fun a => (mk_even (k := q_Ref_result 180) (by decide +kernel) a).trans (low_W (Or.inl rfl : wd_ 32) a).symm) (fit_fl ff_0 (un_lt a1) 1)).symm
theorem rc_181 (m1 m2 : Int64) : q_Ref_answer_cd 0 181 m1 m2 = 0 := by unfold q_Ref_answer_cd q_Ref_turnedInto_cd; simp (decide := true) only [↓reduceIte, q_Ref_format_wi, q_Ref_format_fr, q_Ref_format_bi, show fF 32 = 23 from rfl, show fF 64 = 52 from rfl, show fB 32 = 127 from rfl, show fB 64 = 1023 from rfl]
theorem ra_181 (m1 m2 : Int64) : q_Ref_answer 0 181 m1 m2 = q_Ref_floating 23 127 32 (m1) 0 := by unfold q_Ref_answer q_Ref_turnedInto; simp (decide := true) only [↓reduceIte, q_Ref_format_wi, q_Ref_format_fr, q_Ref_format_bi, show fF 32 = 23 from rfl, show fF 64 = 52 from rfl, show fB 32 = 127 from rfl, show fB 64 = 1023 from rfl]
theorem wcl_181 (a : Int64) : q_Conversions_toFloat 181 a = q_Conversions_fromUnsigned 0 (a) := by unfold q_Conversions_toFloat; simp (decide := true) only [↓reduceIte]
theorem ok_181 : OK_ 181 := by
  refine ok_pure (fun a _ => q_Conversions_fromUnsigned 0 (a)) (fun M _ => q_Ref_floating 23 127 32 (M) 0) (fun a1 a2 => ?_) rc_181 ra_181 (fun a1 a2 => ?_)
  · rw [an_tf (by decide +kernel) (by decide +kernel) (by decide +kernel), wcl_181]
  · rw [mk_odd (k := q_Ref_first 181) (by decide +kernel)]
    rw [show lN (un_ a1 % 2 ^ 64) = a1 by rw [Nat.mod_eq_of_lt (un_lt a1), ← un_lN a1], un_lN a1]
    exact (fl_u ff_0 (un_lt a1)).trans (mk_fit (fun a => (mk_even (k := q_Ref_result 181) (by decide +kernel) a).trans (low_W (Or.inl rfl : wd_ 32) a).symm) (fit_fl ff_0 (un_lt a1) 0)).symm
theorem rc_183 (m1 m2 : Int64) : q_Ref_answer_cd 0 183 m1 m2 = 0 := by unfold q_Ref_answer_cd q_Ref_turnedInto_cd; simp (decide := true) only [↓reduceIte, q_Ref_format_wi, q_Ref_format_fr, q_Ref_format_bi, show fF 32 = 23 from rfl, show fF 64 = 52 from rfl, show fB 32 = 127 from rfl, show fB 64 = 1023 from rfl]
theorem ra_183 (m1 m2 : Int64) : q_Ref_answer 0 183 m1 m2 = q_Ref_floating 52 1023 64 (q_Ref_withSign m1 32) 1 := by unfold q_Ref_answer q_Ref_turnedInto; simp (decide := true) only [↓reduceIte, q_Ref_format_wi, q_Ref_format_fr, q_Ref_format_bi, show fF 32 = 23 from rfl, show fF 64 = 52 from rfl, show fB 32 = 127 from rfl, show fB 64 = 1023 from rfl]
theorem wcl_183 (a : Int64) : q_Conversions_toFloat 183 a = q_Conversions_fromSigned 1 (q_Bits_signed 32 a) := by unfold q_Conversions_toFloat; simp (decide := true) only [↓reduceIte]
theorem ok_183 : OK_ 183 := by
  refine ok_pure (fun a _ => q_Conversions_fromSigned 1 (q_Bits_signed 32 a)) (fun M _ => q_Ref_floating 52 1023 64 (q_Ref_withSign M 32) 1) (fun a1 a2 => ?_) rc_183 ra_183 (fun a1 a2 => ?_)
  · rw [an_tf (by decide +kernel) (by decide +kernel) (by decide +kernel), wcl_183]
  · rw [mk_even (k := q_Ref_first 183) (by decide +kernel)]
    rw [show q_Ref_withSign (lN (un_ a1 % 2 ^ 32)) 32 = _ from ws_W (Or.inl rfl : wd_ 32) (Nat.mod_lt (un_ a1) (show 0 < 2 ^ 32 by decide)), show q_Bits_signed 32 a1 = _ from sig_W (Or.inl rfl : wd_ 32) a1, se_e (Or.inl rfl : wd_ 32) (Nat.mod_lt (un_ a1) (show 0 < 2 ^ 32 by decide))]
    exact (fl_s ff_1 (se_lt (Or.inl rfl : wd_ 32) (Nat.mod_lt (un_ a1) (show 0 < 2 ^ 32 by decide)))).trans (mk_fit (fun a => (mk_odd (k := q_Ref_result 183) (by decide +kernel) a).trans (low_W (Or.inr rfl : wd_ 64) a).symm) (fit_fl ff_1 (se_lt (Or.inl rfl : wd_ 32) (Nat.mod_lt (un_ a1) (show 0 < 2 ^ 32 by decide))) 1)).symm
theorem rc_184 (m1 m2 : Int64) : q_Ref_answer_cd 0 184 m1 m2 = 0 := by unfold q_Ref_answer_cd q_Ref_turnedInto_cd; simp (decide := true) only [↓reduceIte, q_Ref_format_wi, q_Ref_format_fr, q_Ref_format_bi, show fF 32 = 23 from rfl, show fF 64 = 52 from rfl, show fB 32 = 127 from rfl, show fB 64 = 1023 from rfl]
theorem ra_184 (m1 m2 : Int64) : q_Ref_answer 0 184 m1 m2 = q_Ref_floating 52 1023 64 (m1) 0 := by unfold q_Ref_answer q_Ref_turnedInto; simp (decide := true) only [↓reduceIte, q_Ref_format_wi, q_Ref_format_fr, q_Ref_format_bi, show fF 32 = 23 from rfl, show fF 64 = 52 from rfl, show fB 32 = 127 from rfl, show fB 64 = 1023 from rfl]
theorem wcl_184 (a : Int64) : q_Conversions_toFloat 184 a = q_Conversions_fromUnsigned 1 (q_Bits_lowest 32 a) := by unfold q_Conversions_toFloat; simp (decide := true) only [↓reduceIte]
theorem ok_184 : OK_ 184 := by
  refine ok_pure (fun a _ => q_Conversions_fromUnsigned 1 (q_Bits_lowest 32 a)) (fun M _ => q_Ref_floating 52 1023 64 (M) 0) (fun a1 a2 => ?_) rc_184 ra_184 (fun a1 a2 => ?_)
  · rw [an_tf (by decide +kernel) (by decide +kernel) (by decide +kernel), wcl_184]
  · rw [mk_even (k := q_Ref_first 184) (by decide +kernel)]
    rw [show q_Bits_lowest 32 a1 = _ from low_W (Or.inl rfl : wd_ 32) a1]
    exact (fl_u ff_1 (W_64 (Or.inl rfl : wd_ 32) (Nat.mod_lt (un_ a1) (show 0 < 2 ^ 32 by decide)))).trans (mk_fit (fun a => (mk_odd (k := q_Ref_result 184) (by decide +kernel) a).trans (low_W (Or.inr rfl : wd_ 64) a).symm) (fit_fl ff_1 (W_64 (Or.inl rfl : wd_ 32) (Nat.mod_lt (un_ a1) (show 0 < 2 ^ 32 by decide))) 0)).symm
theorem rc_185 (m1 m2 : Int64) : q_Ref_answer_cd 0 185 m1 m2 = 0 := by unfold q_Ref_answer_cd q_Ref_turnedInto_cd; simp (decide := true) only [↓reduceIte, q_Ref_format_wi, q_Ref_format_fr, q_Ref_format_bi, show fF 32 = 23 from rfl, show fF 64 = 52 from rfl, show fB 32 = 127 from rfl, show fB 64 = 1023 from rfl]
theorem ra_185 (m1 m2 : Int64) : q_Ref_answer 0 185 m1 m2 = q_Ref_floating 52 1023 64 (m1) 1 := by unfold q_Ref_answer q_Ref_turnedInto; simp (decide := true) only [↓reduceIte, q_Ref_format_wi, q_Ref_format_fr, q_Ref_format_bi, show fF 32 = 23 from rfl, show fF 64 = 52 from rfl, show fB 32 = 127 from rfl, show fB 64 = 1023 from rfl]
theorem wcl_185 (a : Int64) : q_Conversions_toFloat 185 a = q_Conversions_fromSigned 1 (a) := by unfold q_Conversions_toFloat; simp (decide := true) only [↓reduceIte]
theorem ok_185 : OK_ 185 := by
  refine ok_pure (fun a _ => q_Conversions_fromSigned 1 (a)) (fun M _ => q_Ref_floating 52 1023 64 (M) 1) (fun a1 a2 => ?_) rc_185 ra_185 (fun a1 a2 => ?_)
  · rw [an_tf (by decide +kernel) (by decide +kernel) (by decide +kernel), wcl_185]
  · rw [mk_odd (k := q_Ref_first 185) (by decide +kernel)]
    rw [show lN (un_ a1 % 2 ^ 64) = a1 by rw [Nat.mod_eq_of_lt (un_lt a1), ← un_lN a1], un_lN a1]
    exact (fl_s ff_1 (un_lt a1)).trans (mk_fit (fun a => (mk_odd (k := q_Ref_result 185) (by decide +kernel) a).trans (low_W (Or.inr rfl : wd_ 64) a).symm) (fit_fl ff_1 (un_lt a1) 1)).symm
theorem rc_186 (m1 m2 : Int64) : q_Ref_answer_cd 0 186 m1 m2 = 0 := by unfold q_Ref_answer_cd q_Ref_turnedInto_cd; simp (decide := true) only [↓reduceIte, q_Ref_format_wi, q_Ref_format_fr, q_Ref_format_bi, show fF 32 = 23 from rfl, show fF 64 = 52 from rfl, show fB 32 = 127 from rfl, show fB 64 = 1023 from rfl]
theorem ra_186 (m1 m2 : Int64) : q_Ref_answer 0 186 m1 m2 = q_Ref_floating 52 1023 64 (m1) 0 := by unfold q_Ref_answer q_Ref_turnedInto; simp (decide := true) only [↓reduceIte, q_Ref_format_wi, q_Ref_format_fr, q_Ref_format_bi, show fF 32 = 23 from rfl, show fF 64 = 52 from rfl, show fB 32 = 127 from rfl, show fB 64 = 1023 from rfl]
theorem wcl_186 (a : Int64) : q_Conversions_toFloat 186 a = q_Conversions_fromUnsigned 1 (a) := by unfold q_Conversions_toFloat; simp (decide := true) only [↓reduceIte]
theorem ok_186 : OK_ 186 := by
  refine ok_pure (fun a _ => q_Conversions_fromUnsigned 1 (a)) (fun M _ => q_Ref_floating 52 1023 64 (M) 0) (fun a1 a2 => ?_) rc_186 ra_186 (fun a1 a2 => ?_)
  · rw [an_tf (by decide +kernel) (by decide +kernel) (by decide +kernel), wcl_186]
  · rw [mk_odd (k := q_Ref_first 186) (by decide +kernel)]
    rw [show lN (un_ a1 % 2 ^ 64) = a1 by rw [Nat.mod_eq_of_lt (un_lt a1), ← un_lN a1], un_lN a1]
    exact (fl_u ff_1 (un_lt a1)).trans (mk_fit (fun a => (mk_odd (k := q_Ref_result 186) (by decide +kernel) a).trans (low_W (Or.inr rfl : wd_ 64) a).symm) (fit_fl ff_1 (un_lt a1) 0)).symm
theorem rc_182 (m1 m2 : Int64) : q_Ref_answer_cd 0 182 m1 m2 = 0 := by unfold q_Ref_answer_cd q_Ref_turnedInto_cd; simp (decide := true) only [↓reduceIte, q_Ref_format_wi, q_Ref_format_fr, q_Ref_format_bi, show fF 32 = 23 from rfl, show fF 64 = 52 from rfl, show fB 32 = 127 from rfl, show fB 64 = 1023 from rfl]
theorem ra_182 (m1 m2 : Int64) : q_Ref_answer 0 182 m1 m2 = q_Ref_reformed 52 1023 23 127 64 52 1023 m1 32 := by unfold q_Ref_answer q_Ref_turnedInto; simp (decide := true) only [↓reduceIte, q_Ref_format_wi, q_Ref_format_fr, q_Ref_format_bi, show fF 32 = 23 from rfl, show fF 64 = 52 from rfl, show fB 32 = 127 from rfl, show fB 64 = 1023 from rfl]
theorem wcl_182 (a : Int64) : q_Conversions_toFloat 182 a = q_Conversions_fromFloat 1 (a) 0 := by unfold q_Conversions_toFloat; simp (decide := true) only [↓reduceIte]
theorem ok_182 : OK_ 182 := by
  refine ok_pure (fun a _ => q_Conversions_fromFloat 1 (a) 0) (fun M _ => q_Ref_reformed 52 1023 23 127 64 52 1023 M 32) (fun a1 a2 => ?_) rc_182 ra_182 (fun a1 a2 => ?_)
  · rw [an_tf (by decide +kernel) (by decide +kernel) (by decide +kernel), wcl_182]
  · rw [mk_odd (k := q_Ref_first 182) (by decide +kernel)]
    have hl := Nat.mod_lt (un_ a1) (show 0 < 2 ^ 64 by decide)
    conv => lhs; rw [show a1 = lN (un_ a1 % 2 ^ 64) by rw [Nat.mod_eq_of_lt (un_lt a1)]; exact un_lN a1]
    exact (rf_e ff_1 ff_0 hl).trans (mk_fit (fun a => (mk_even (k := q_Ref_result 182) (by decide +kernel) a).trans (low_W (Or.inl rfl : wd_ 32) a).symm) (fit_rf ff_1 ff_0 hl)).symm
theorem rc_187 (m1 m2 : Int64) : q_Ref_answer_cd 0 187 m1 m2 = 0 := by unfold q_Ref_answer_cd q_Ref_turnedInto_cd; simp (decide := true) only [↓reduceIte, q_Ref_format_wi, q_Ref_format_fr, q_Ref_format_bi, show fF 32 = 23 from rfl, show fF 64 = 52 from rfl, show fB 32 = 127 from rfl, show fB 64 = 1023 from rfl]
theorem ra_187 (m1 m2 : Int64) : q_Ref_answer 0 187 m1 m2 = q_Ref_reformed 23 127 52 1023 32 23 127 m1 64 := by unfold q_Ref_answer q_Ref_turnedInto; simp (decide := true) only [↓reduceIte, q_Ref_format_wi, q_Ref_format_fr, q_Ref_format_bi, show fF 32 = 23 from rfl, show fF 64 = 52 from rfl, show fB 32 = 127 from rfl, show fB 64 = 1023 from rfl]
theorem wcl_187 (a : Int64) : q_Conversions_toFloat 187 a = q_Conversions_fromFloat 0 (q_Bits_lowest 32 a) 1 := by unfold q_Conversions_toFloat; simp (decide := true) only [↓reduceIte]
theorem ok_187 : OK_ 187 := by
  refine ok_pure (fun a _ => q_Conversions_fromFloat 0 (q_Bits_lowest 32 a) 1) (fun M _ => q_Ref_reformed 23 127 52 1023 32 23 127 M 64) (fun a1 a2 => ?_) rc_187 ra_187 (fun a1 a2 => ?_)
  · rw [an_tf (by decide +kernel) (by decide +kernel) (by decide +kernel), wcl_187]
  · rw [mk_even (k := q_Ref_first 187) (by decide +kernel)]
    have hl := Nat.mod_lt (un_ a1) (show 0 < 2 ^ 32 by decide)
    rw [show q_Bits_lowest 32 a1 = _ from low_W (Or.inl rfl : wd_ 32) a1]
    exact (rf_e ff_0 ff_1 hl).trans (mk_fit (fun a => (mk_odd (k := q_Ref_result 187) (by decide +kernel) a).trans (low_W (Or.inr rfl : wd_ 64) a).symm) (fit_rf ff_0 ff_1 hl)).symm
