/-! sums -/
theorem sx_zero {i W F B n k : Nat} (h : ff_ i W F B) (hn : n < 2 ^ W) (hk : k < 2 ^ W) : (if q_Ref_isMinus (nI W) (lN n) = 0 then q_Ref_signed (nI W) (0 : Int64) (0 : Int32) else q_Ref_signed (nI W) (0 : Int64) (if q_Ref_isMinus (nI W) (lN k) = 0 then (0 : Int32) else (1 : Int32))) = q_Form_sign i (lN n &&& lN k) := by
  have e : q_Form_sign i (lN n &&& lN k) = q_Form_sign i (lN n) &&& q_Form_sign i (lN k) := by
    unfold q_Form_sign
    rw [Int64.and_assoc, Int64.and_assoc]
    congr 1
    rw [← Int64.and_assoc, Int64.and_comm (fm_s i), Int64.and_assoc, Int64.and_self]
  rw [e, cs_si h hn, cs_si h hk, rs_mi h hn, rs_mi h hk]
  have e0 := rs_sd h (s := 0) (Or.inl rfl) 0
  have e1 := rs_sd h (s := 1) (Or.inr rfl) 0
  rw [or_0] at e0 e1
  rw [Nat.zero_mul] at e0
  have z0 : ∀ x : Int64, x &&& lN 0 = lN 0 := fun x => by show x &&& 0 = 0; rw [Int64.and_zero]
  rcases ff_sg h hn with z | z <;> rcases ff_sg h hk with w | w <;> rw [z, w]
  · rw [if_pos (show nI 0 = 0 from rfl), Nat.zero_mul, z0]; exact e0
  · rw [if_pos (show nI 0 = 0 from rfl), Nat.zero_mul, Int64.and_comm, z0]; exact e0
  · rw [if_neg (show ¬ nI 1 = 0 by decide), if_pos (show nI 0 = 0 from rfl), Nat.zero_mul, z0]; exact e0
  · rw [if_neg (show ¬ nI 1 = 0 by decide), if_neg (show ¬ nI 1 = 0 by decide), Int64.and_self]; exact e1
theorem sx_sg {i W F B n k : Nat} (h : ff_ i W F B) (hn : n < 2 ^ W) (hk : k < 2 ^ W) : q_Form_sign i (lN n) = q_Form_sign i (lN k) ↔ q_Ref_isMinus (nI W) (lN n) = q_Ref_isMinus (nI W) (lN k) := by
  have hw := ff_inf h
  have hp := Nat.two_pow_pos (W - 1)
  rw [cs_si h hn, cs_si h hk, rs_mi h hn, rs_mi h hk]
  rcases ff_sg h hn with z | z <;> rcases ff_sg h hk with w | w <;> rw [z, w]
  · exact ⟨fun _ => rfl, fun _ => rfl⟩
  · rw [Nat.zero_mul, Nat.one_mul, lN_inj64 (by decide) (by omega)]
    exact ⟨fun q => by omega, fun q => absurd q (by decide)⟩
  · rw [Nat.zero_mul, Nat.one_mul, lN_inj64 (by omega) (by decide)]
    exact ⟨fun q => by omega, fun q => absurd q (by decide)⟩
  · exact ⟨fun _ => rfl, fun _ => rfl⟩
theorem ex_mono {F x y : Nat} (h : x ≤ y) : ex_ F x ≤ ex_ F y := by
  have : x / 2 ^ F ≤ y / 2 ^ F := Nat.div_le_div_right h
  unfold ex_
  omega
theorem sg_big {F y : Nat} (h : 2 ≤ ex_ F y) : 2 ^ F ≤ sg_ F y := by
  unfold ex_ at h
  unfold sg_
  rw [if_neg (by omega)]
  omega
/-- what is lost has a great number above it -/
theorem lost_ {F X Y d : Nat} (hF : F ≤ 52) (hY : Y < 2 ^ (F + 1)) (hX : 11 ≤ d → 2 ^ F ≤ X) (hr : Y * 2 ^ 10 % 2 ^ d ≠ 0) : F + 2 ≤ (X * 2 ^ 10 + Y * 2 ^ 10 / 2 ^ d).log2 ∧ F + 2 ≤ (X * 2 ^ 10 - Y * 2 ^ 10 / 2 ^ d - 1).log2 := by
  have hd : 11 ≤ d := by
    rcases Nat.lt_or_ge d 11 with c | c
    · exfalso
      apply hr
      rw [show (2 : Nat) ^ 10 = 2 ^ (10 - d) * 2 ^ d by rw [← Nat.pow_add]; congr 1; omega, ← Nat.mul_assoc, Nat.mul_mod_left]
    · exact c
  have h1 := hX hd
  have h2 : Y * 2 ^ 10 / 2 ^ d < 2 ^ F := by
    rw [Nat.div_lt_iff_lt_mul (Nat.two_pow_pos d)]
    have h3 : Y * 2 ^ 10 < 2 ^ (F + 1) * 2 ^ 10 := Nat.mul_lt_mul_of_pos_right hY (by decide)
    have h4 : 2 ^ F * 2 ^ 11 ≤ 2 ^ F * 2 ^ d := Nat.mul_le_mul_left _ (Nat.pow_le_pow_right (by decide) hd)
    rw [show (2 : Nat) ^ (F + 1) = 2 * 2 ^ F from Nat.pow_succ'] at h3
    clear hY hr h1 hX
    generalize 2 ^ F = P at *
    generalize P * 2 ^ d = Q at *
    omega
  have hp := Nat.two_pow_pos F
  have e4 : 2 ^ (F + 2) = 4 * 2 ^ F := by rw [Nat.pow_succ, Nat.pow_succ]; omega
  generalize Y * 2 ^ 10 / 2 ^ d = q at *
  constructor
  · exact (Nat.le_log2 (by omega)).mpr (by rw [e4]; omega)
  · exact (Nat.le_log2 (by omega)).mpr (by rw [e4]; omega)
theorem mk_lt2 {q r M : Nat} (hM : M % 2 = 0) (h : q < M) : mk_ q r < M := by
  unfold mk_
  split
  · exact h
  · rw [or1_]; omega
theorem rf_T {F B T P : Nat} {x : Int} (hT : 0 < T) (hx : (P : Int) - 2200 = x) {N : Nat} (hN : N = T * 2 ^ P) : rR_ F B (2 * N + (if (0 : Int32) = 0 then 0 else 1)) (-2201) = rR_ F B T x := by
  rw [hN, rf_Q hT, hx]
theorem fs_main {i W F B n k : Nat} (h : ff_ i W F B) (hn : n < 2 ^ W) (hk : k < 2 ^ W) (hle : k % 2 ^ (W - 1) ≤ n % 2 ^ (W - 1)) : q_Floats_finiteSum i (lN n) (lN k) = if q_Ref_isMinus (nI W) (lN n) = q_Ref_isMinus (nI W) (lN k) then (if n % 2 ^ (W - 1) = 0 then q_Form_sign i (lN n &&& lN k) else q_Form_sign i (lN n) ||| lN (rR_ F B (2 * ((0 + un_ (q_Ref_split_am (nI W) (nI F) (nI B) (lN n)) * 2 ^ (wt_ (q_Ref_split_we (nI W) (nI F) (nI B) (lN n)))) + un_ (q_Ref_split_am (nI W) (nI F) (nI B) (lN k)) * 2 ^ (wt_ (q_Ref_split_we (nI W) (nI F) (nI B) (lN k)))) + (if (0 : Int32) = 0 then 0 else 1)) (-2201))) else (if n % 2 ^ (W - 1) = k % 2 ^ (W - 1) then q_Form_sign i (lN n &&& lN k) else q_Form_sign i (lN n) ||| lN (rR_ F B (2 * ((0 + un_ (q_Ref_split_am (nI W) (nI F) (nI B) (lN n)) * 2 ^ (wt_ (q_Ref_split_we (nI W) (nI F) (nI B) (lN n)))) - un_ (q_Ref_split_am (nI W) (nI F) (nI B) (lN k)) * 2 ^ (wt_ (q_Ref_split_we (nI W) (nI F) (nI B) (lN k)))) + (if (0 : Int32) = 0 then 0 else 1)) (-2201))) := by
  have l1 := ff_sgl h n
  have l2 := ff_sgl h k
  have x1 := ff_x2 h n
  have x2 := ff_x2 h k
  have hF : F ≤ 52 := by have := ff_F2 h; omega
  have hY := sg_lt F (k % 2 ^ (W - 1))
  have hem := ex_mono (F := F) hle
  have hek : 1 ≤ ex_ F (k % 2 ^ (W - 1)) := by unfold ex_; omega
  have hbig := sg_big (F := F) (y := n % 2 ^ (W - 1))
  have hps : ∀ y : Nat, 0 < y → 0 < sg_ F y := fun y hy => sg_pos hy
  have hz0 : sg_ F 0 = 0 := by unfold sg_; rw [Nat.zero_div, if_pos rfl, Nat.zero_mod]
  have hmono : k % 2 ^ (W - 1) < n % 2 ^ (W - 1) → _ := fun q => am_mono (F := F) q
  unfold q_Floats_finiteSum
  rw [rs_am h hn, rs_am h hk, un_of (by omega), un_of (by omega), rs_we h hn, rs_we h hk, cs_sg h hn, cs_sg h hk, cs_sc h hn, cs_sc h hk, Nat.zero_add]
  generalize n % 2 ^ (W - 1) = yn at *
  generalize k % 2 ^ (W - 1) = yk at *
  obtain ⟨d, hd⟩ : ∃ d : Nat, ex_ F yn = ex_ F yk + d := ⟨ex_ F yn - ex_ F yk, by omega⟩
  have hX : 11 ≤ d → 2 ^ F ≤ sg_ F yn := fun q => hbig (by omega)
  have hlt : yk < yn → sg_ F yk < sg_ F yn * 2 ^ d := by
    intro q
    have := hmono q
    rw [hd, show ex_ F yk + d - 1 = d + (ex_ F yk - 1) by omega, Nat.pow_add, ← Nat.mul_assoc] at this
    exact Nat.lt_of_mul_lt_mul_right this
  have e10 : ∀ x : Nat, shl_ (lN x) (10 : Int32) = lN (x * 2 ^ 10) := fun x => by rw [show (10 : Int32) = nI 10 from rfl, shl_lN x (by decide)]
  have esc : zI (((ex_ F yn : Nat) : Int) - B - F) - zI (((ex_ F yk : Nat) : Int) - B - F) = nI d := by rw [zI_sub, ← zI_n]; congr 1; omega
  have es10 : zI (((ex_ F yn : Nat) : Int) - B - F) - (10 : Int32) = zI (((ex_ F yk : Nat) : Int) - B - F + d - 10) := by
    rw [show (10 : Int32) = zI 10 from rfl, zI_sub]; congr 1; omega
  have ewn : wt_ (zI (((ex_ F yn : Nat) : Int) - B - F)) = wt_ (zI (((ex_ F yk : Nat) : Int) - B - F)) + d := by
    unfold wt_
    rw [zI_t ⟨by omega, by omega⟩, zI_t ⟨by omega, by omega⟩]
    omega
  have ewk : ((wt_ (zI (((ex_ F yk : Nat) : Int) - B - F)) : Nat) : Int) - 2200 = ((ex_ F yk : Nat) : Int) - B - F := by
    unfold wt_
    rw [zI_t ⟨by omega, by omega⟩]
    omega
  have hd31 : d < 2 ^ 31 := by omega
  rw [e10, e10, esc, es10, movedDown_e (by omega) hd31, ewn]
  have hxr : -100000 ≤ ((ex_ F yk : Nat) : Int) - B - F + d - 10 ∧ ((ex_ F yk : Nat) : Int) - B - F + d - 10 ≤ 100000 := by omega
  clear esc es10 e10 x1 x2 hem hek hbig hmono ewn
  generalize wt_ (zI (((ex_ F yk : Nat) : Int) - B - F)) = P at *
  generalize ((ex_ F yk : Nat) : Int) - B - F = x at *
  have hn0 : 0 < yn → 0 < sg_ F yn := hps yn
  have hyk0 : yn = 0 → sg_ F yn = 0 ∧ sg_ F yk = 0 := fun q => by
    have : yk = 0 := by omega
    rw [q, this]; exact ⟨hz0, hz0⟩
  have heq : yn = yk → sg_ F yn = sg_ F yk ∧ d = 0 := fun q => by rw [q] at hd ⊢; exact ⟨rfl, by omega⟩
  clear hz0 hps hd
  generalize sg_ F yn = X at *
  generalize sg_ F yk = Y at *
  have hms : mk_ (Y * 2 ^ 10 / 2 ^ d) (Y * 2 ^ 10 % 2 ^ d) < 2 ^ 63 := by
    apply mk_lt2 (by decide)
    exact Nat.lt_of_le_of_lt (Nat.div_le_self _ _) (by omega)
  have eT : ∀ a b : Nat, a * 2 ^ (P + d) + b * 2 ^ P = (a * 2 ^ d + b) * 2 ^ P := fun a b => by rw [Nat.pow_add, Nat.add_mul, Nat.mul_assoc, Nat.mul_comm (2 ^ P)]
  have eTm : ∀ a b : Nat, a * 2 ^ (P + d) - b * 2 ^ P = (a * 2 ^ d - b) * 2 ^ P := fun a b => by rw [Nat.pow_add, Nat.sub_mul, Nat.mul_assoc, Nat.mul_comm (2 ^ P)]
  by_cases c1 : q_Form_sign i (lN n) = q_Form_sign i (lN k)
  · rw [if_pos c1, if_pos ((sx_sg h hn hk).mp c1), lN_add]
    by_cases c2 : yn = 0
    · obtain ⟨q1, q2⟩ := hyk0 c2
      rw [if_pos c2, if_pos (by rw [q1, q2, Nat.zero_mul, Nat.zero_div, Nat.zero_mod]; rfl)]
    · have hX0 := hn0 (by omega)
      have hne : ¬ lN (X * 2 ^ 10 + mk_ (Y * 2 ^ 10 / 2 ^ d) (Y * 2 ^ 10 % 2 ^ d)) = 0 := by
        rw [lN_z64 (by omega)]; omega
      rw [if_neg c2, if_neg hne, rounded_e (ff_b h) (by omega) (by omega) hxr, rf_T (T := X * 2 ^ d + Y) (by
        have := Nat.mul_pos hX0 (Nat.two_pow_pos d); omega) ewk (eT X Y)]
      congr 2
      have hs := sum_plus_ (F := F) (B := B) (M := X * 2 ^ 10) (S := Y * 2 ^ 10) (d := d) (e := x + d - 10) (by omega) (Nat.add_pos_left (by omega) _) (fun q => (lost_ hF hY hX q).1)
      rw [← hs, show X * 2 ^ 10 * 2 ^ d + Y * 2 ^ 10 = (X * 2 ^ d + Y) * 2 ^ 10 by rw [Nat.add_mul, Nat.mul_right_comm], rR_shift_ 10 (by
        have := Nat.mul_pos hX0 (Nat.two_pow_pos d); omega)]
      congr 1
      omega
  · rw [if_neg c1, if_neg (fun q => c1 ((sx_sg h hn hk).mpr q))]
    by_cases c2 : yn = yk
    · obtain ⟨q1, q2⟩ := heq c2
      rw [if_pos c2, if_pos (by
        rw [q1, q2, Nat.pow_zero, Nat.div_one, Nat.mod_one, show mk_ (Y * 2 ^ 10) 0 = Y * 2 ^ 10 from rfl, lN_sub (Nat.le_refl _), Nat.sub_self]; rfl)]
    · have hl := hlt (by omega)
      have hS : Y * 2 ^ 10 < X * 2 ^ 10 * 2 ^ d := by
        rw [Nat.mul_right_comm]; exact Nat.mul_lt_mul_of_pos_right hl (by decide)
      have hq : Y * 2 ^ 10 / 2 ^ d < X * 2 ^ 10 := (Nat.div_lt_iff_lt_mul (Nat.two_pow_pos d)).mpr hS
      have hmk := mk_lt2 (r := Y * 2 ^ 10 % 2 ^ d) (show X * 2 ^ 10 % 2 = 0 by omega) hq
      rw [lN_sub (by omega)]
      have hne : ¬ lN (X * 2 ^ 10 - mk_ (Y * 2 ^ 10 / 2 ^ d) (Y * 2 ^ 10 % 2 ^ d)) = 0 := by
        rw [lN_z64 (by omega)]; omega
      rw [if_neg c2, if_neg hne, rounded_e (ff_b h) (by omega) (by omega) hxr, rf_T (T := X * 2 ^ d - Y) (by omega) ewk (eTm X Y)]
      congr 2
      have hs := sum_minus_ (F := F) (B := B) (M := X * 2 ^ 10) (S := Y * 2 ^ 10) (d := d) (e := x + d - 10) (by omega) hS (fun q => (lost_ hF hY hX q).2)
      rw [← hs, show X * 2 ^ 10 * 2 ^ d - Y * 2 ^ 10 = (X * 2 ^ d - Y) * 2 ^ 10 by rw [Nat.sub_mul, Nat.mul_right_comm], rR_shift_ 10 (by omega)]
      congr 1
      omega
theorem su_e {i W F B n k : Nat} (h : ff_ i W F B) (hn : n < 2 ^ W) (hk : k < 2 ^ W) : q_Floats_sum i (lN n) (lN k) = q_Ref_sum F B (nI W) (nI F) (nI B) (lN n) (lN k) := by
  have y1 := ff_y63 h n
  have y2 := ff_y63 h k
  have clt : (lN (n % 2 ^ (W - 1)) < lN (k % 2 ^ (W - 1))) ↔ n % 2 ^ (W - 1) < k % 2 ^ (W - 1) := lN_lt63 y1 y2
  have cle : (lN (k % 2 ^ (W - 1)) ≤ lN (n % 2 ^ (W - 1))) ↔ k % 2 ^ (W - 1) ≤ n % 2 ^ (W - 1) := lN_le63 y2 y1
  have ceq : (lN (n % 2 ^ (W - 1)) = lN (k % 2 ^ (W - 1))) ↔ n % 2 ^ (W - 1) = k % 2 ^ (W - 1) := lN_inj64 (by omega) (by omega)
  unfold q_Floats_sum q_Ref_sum q_Ref_split_mi
  rw [rs_in h hn, rs_in h hk, rs_size h hn, rs_size h hk, cs_wo h hn, cs_wo h hk, ff_n h, sx_zero h hn hk]
  by_cases c1 : q_Form_isInfinite i (lN n) = 0
  · by_cases c2 : q_Form_isInfinite i (lN k) = 0
    · rw [if_pos c1, if_pos c2, if_pos c1, if_pos c2]
      by_cases c : k % 2 ^ (W - 1) ≤ n % 2 ^ (W - 1)
      · have c' := cle.mpr c
        have n' : ¬ lN (n % 2 ^ (W - 1)) < lN (k % 2 ^ (W - 1)) := fun q => by have := clt.mp q; omega
        rw [if_neg n', fs_main h hn hk c]
        simp only [c', ↓reduceIte, rs_z h hn, rs_sm h hn]
        by_cases e : n % 2 ^ (W - 1) = k % 2 ^ (W - 1)
        · have e' := ceq.mpr e
          by_cases m : q_Ref_isMinus (nI W) (lN n) = q_Ref_isMinus (nI W) (lN k)
          · by_cases z : n % 2 ^ (W - 1) = 0
            · have z' : ¬ q_Form_isZero i (lN n) = 0 := fun q => (nn_z h hn).mp q z
              simp only [e', m, z, z', ↓reduceIte, ite_self]
            · have z' := (nn_z h hn).mpr z
              simp only [e', m, z, z', ↓reduceIte]
          · simp (decide := true) only [e', e, m, ↓reduceIte]
        · have e' : ¬ lN (n % 2 ^ (W - 1)) = lN (k % 2 ^ (W - 1)) := fun q => e (ceq.mp q)
          have z : ¬ n % 2 ^ (W - 1) = 0 := by omega
          have z' := (nn_z h hn).mpr z
          by_cases m : q_Ref_isMinus (nI W) (lN n) = q_Ref_isMinus (nI W) (lN k)
          · simp only [e', m, z, z', ↓reduceIte]
          · simp (decide := true) only [e', e, m, z', ↓reduceIte]
      · have c' : ¬ lN (k % 2 ^ (W - 1)) ≤ lN (n % 2 ^ (W - 1)) := fun q => c (cle.mp q)
        have n' : lN (n % 2 ^ (W - 1)) < lN (k % 2 ^ (W - 1)) := clt.mpr (by omega)
        rw [if_pos n', fs_main h hk hn (by omega)]
        simp (decide := true) only [c', ↓reduceIte, rs_z h hk, rs_sm h hk]
        have e : ¬ n % 2 ^ (W - 1) = k % 2 ^ (W - 1) := by omega
        have e2 : ¬ k % 2 ^ (W - 1) = n % 2 ^ (W - 1) := by omega
        have e' : ¬ lN (n % 2 ^ (W - 1)) = lN (k % 2 ^ (W - 1)) := fun q => e (ceq.mp q)
        have z : ¬ k % 2 ^ (W - 1) = 0 := by omega
        have z' := (nn_z h hk).mpr z
        by_cases m : q_Ref_isMinus (nI W) (lN n) = q_Ref_isMinus (nI W) (lN k)
        · simp only [e', m, z, z', ↓reduceIte]
        · have m2 : ¬ q_Ref_isMinus (nI W) (lN k) = q_Ref_isMinus (nI W) (lN n) := fun q => m q.symm
          simp (decide := true) only [e', e2, m, m2, z', ↓reduceIte]
    · simp only [c1, c2, ↓reduceIte]
  · by_cases c2 : q_Form_isInfinite i (lN k) = 0
    · simp only [c1, c2, ↓reduceIte]
    · simp only [c1, c2, ↓reduceIte]
