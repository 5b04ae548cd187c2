/-! roots -/
theorem lr_e (a0 : Int64) : ∀ k x r c j : Nat, x < 2 ^ j → j + k ≤ 56 → r ≤ 2 * x → c < 2 ^ 64 → lf_Floats_longRoot a0 k (lN x) (lN r) (lN c) = q_Bits_marked (lN (rt_ k x r c).1) (lN (rt_ k x r c).2) := by
  intro k
  induction k with
  | zero => intro x r c j _ _ _ _; unfold lf_Floats_longRoot rt_; rfl
  | succ k ih =>
    intro x r c j hx hj hr hc
    have hj2 : 2 ^ (j + 1) ≤ 2 ^ 56 := Nat.pow_le_pow_right (by decide) (by omega)
    have hps : 2 ^ (j + 1) = 2 * 2 ^ j := Nat.pow_succ'
    have e1 : shl_ (lN x) (1 : Int32) = lN (2 * x) := by rw [show (1 : Int32) = nI 1 from rfl, shl_lN x (by decide)]; congr 1; omega
    have e2 : shl_ (lN x) (2 : Int32) = lN (4 * x) := by rw [show (2 : Int32) = nI 2 from rfl, shl_lN x (by decide)]; congr 1; omega
    have e3 : shl_ (lN r) (2 : Int32) = lN (r * 2 ^ 2) := by rw [show (2 : Int32) = nI 2 from rfl, shl_lN r (by decide)]
    have e4 : shl_ (lN c) (2 : Int32) = lN (4 * c % 2 ^ 64) := by rw [show (2 : Int32) = nI 2 from rfl, shl_lN c (by decide), wb_mod (c * 2 ^ 2)]; congr 1; omega
    have e5 : ush_ (lN c) (62 : Int32) = lN (c / 2 ^ 62) := ush_lN (k := 62) hc (by decide)
    have hc4 : c / 2 ^ 62 < 4 := by omega
    have hm4 : 4 * c % 2 ^ 64 < 2 ^ 64 := Nat.mod_lt _ (by decide)
    have e6 : lN (r * 2 ^ 2) ||| lN (c / 2 ^ 62) = lN (4 * r + c / 2 ^ 62) := by rw [g_or (k := 2) (p := 2 ^ 2) rfl (by omega) (by omega)]; congr 1; omega
    have e7 : lN (4 * x) ||| (1 : Int64) = lN (4 * x + 1) := by rw [or1_lN (by omega), or1_]; congr 1; omega
    have e8 : lN (2 * x) ||| (1 : Int64) = lN (2 * x + 1) := by rw [or1_lN (by omega), or1_]; congr 1; omega
    have hcmp : lN (4 * r + c / 2 ^ 62) < lN (4 * x + 1) ↔ 4 * r + c / 2 ^ 62 < 4 * x + 1 := lN_lt63 (by omega) (by omega)
    unfold lf_Floats_longRoot rt_
    rw [e1, e2, e3, e4, e5, e6, e7, e8]
    clear e1 e2 e3 e4 e5 e6 e7 e8
    generalize c / 2 ^ 62 = u at *
    generalize 4 * c % 2 ^ 64 = v at *
    by_cases g : 4 * r + u < 4 * x + 1
    · rw [if_pos (hcmp.mpr g), if_neg (by omega)]
      exact ih _ _ _ (j + 1) (by omega) (by omega) (by omega) hm4
    · rw [if_neg (fun z => g (hcmp.mp z)), if_pos (by omega), lN_sub (by omega)]
      exact ih _ _ _ (j + 1) (by omega) (by omega) (by omega) hm4
theorem sq_ {x r z s N P : Nat} (hP : 0 < P) (h1 : x * x + r = N) (h2 : r ≤ 2 * x) (h3 : z * z + s = N * (P * P)) (h4 : s ≤ 2 * z) : z / P = x ∧ (z % P + s = 0 ↔ r = 0) := by
  have ez : (z + 1) * (z + 1) = z * z + 2 * z + 1 := by rw [Nat.add_mul, Nat.mul_add]; omega
  have ex : (x + 1) * (x + 1) = x * x + 2 * x + 1 := by rw [Nat.add_mul, Nat.mul_add]; omega
  have exP : x * P * (x * P) = x * x * (P * P) := Nat.mul_mul_mul_comm _ _ _ _
  have ex1P : (x + 1) * P * ((x + 1) * P) = (x + 1) * (x + 1) * (P * P) := Nat.mul_mul_mul_comm _ _ _ _
  have hPP : 0 < P * P := Nat.mul_pos hP hP
  have g1 : x * P < z + 1 := by
    apply Nat.mul_self_lt_mul_self_iff.mp
    rw [exP, ez]
    have : x * x * (P * P) ≤ N * (P * P) := Nat.mul_le_mul_right _ (by omega)
    omega
  have g2 : z < (x + 1) * P := by
    apply Nat.mul_self_lt_mul_self_iff.mp
    rw [ex1P]
    have : (N + 1) * (P * P) ≤ (x + 1) * (x + 1) * (P * P) := Nat.mul_le_mul_right _ (by omega)
    rw [Nat.add_mul, Nat.one_mul] at this
    omega
  have hd : z / P = x := by
    rw [Nat.div_eq_iff hP]
    rw [Nat.add_mul, Nat.one_mul] at g2
    omega
  refine ⟨hd, ?_⟩
  have hdm := Nat.div_add_mod z P
  rw [hd] at hdm
  constructor
  · intro q
    obtain ⟨q1, q2⟩ := Nat.add_eq_zero_iff.mp q
    rw [q1, Nat.add_zero, Nat.mul_comm] at hdm
    rw [q2, ← hdm, exP, Nat.add_zero] at h3
    have := Nat.eq_of_mul_eq_mul_right hPP h3
    omega
  · intro q
    rw [q, Nat.add_zero] at h1
    rw [← h1, ← exP] at h3
    have hle : x * P ≤ z := by omega
    have : x * P * (x * P) ≤ z * z := Nat.mul_self_le_mul_self hle
    have hs : s = 0 := by omega
    have hzz : z = x * P := by
      rcases Nat.lt_or_ge (x * P) z with c | c
      · have := Nat.mul_self_lt_mul_self_iff.mpr c
        omega
      · omega
    rw [hs, hzz, Nat.mul_mod_left]
theorem zI_and1 (z : Int) : zI z &&& 1 = nI (z % 2).toNat := by
  have e := pk_and (zI z) (m := 1) 1 (by decide)
  rw [e]
  congr 1
  show (BitVec.ofInt 32 z).toNat % 2 ^ 1 = _
  rw [BitVec.toNat_ofInt]
  omega
theorem zI_shr1 {z : Int} (h : ir_ z) : zI z >>> ((1 : Int32) &&& 31) = zI (z / 2) := by
  apply Int32.toInt_inj.mp
  have e : (zI z >>> ((1 : Int32) &&& 31)).toInt = (zI z).toInt >>> 1 := by
    show ((zI z).toBitVec.sshiftRight (((1 : Int32) &&& 31).toBitVec.smod 32).toNat).toInt = _
    rw [show (((1 : Int32) &&& 31).toBitVec.smod 32).toNat = 1 by decide]
    exact BitVec.toInt_sshiftRight ..
  have h1 := h.1
  have h2 := h.2
  rw [e, Int.shiftRight_eq_div_pow, zI_t h, zI_t ⟨by omega, by omega⟩]
  rfl
theorem sr_main {i W F B n : Nat} (h : ff_ i W F B) (hn : n < 2 ^ W) (hz1 : q_Form_isZero i (lN n) = 0) :
    q_Form_rounded i (0 : Int64) (q_Floats_longRoot (shl_ (q_Floats_raised i (lN n)) ((q_Floats_raisedScale i (lN n)) &&& (1 : Int32)))) ((((q_Floats_raisedScale i (lN n)) - ((q_Floats_raisedScale i (lN n)) &&& (1 : Int32))) >>> ((1 : Int32) &&& 31)) - (24 : Int32)) = lN (rR_ F B (2 * ((ro_ ((rx_ (q_Ref_split_am (nI W) (nI F) (nI B) (lN n)) (q_Ref_split_we (nI W) (nI F) (nI B) (lN n))) * 4 ^ rt9_ (rx_ (q_Ref_split_am (nI W) (nI F) (nI B) (lN n)) (q_Ref_split_we (nI W) (nI F) (nI B) (lN n)))) 57).1 * 2 ^ (2170 + (rh_ (q_Ref_split_we (nI W) (nI F) (nI B) (lN n)) - (rt9_ (rx_ (q_Ref_split_am (nI W) (nI F) (nI B) (lN n)) (q_Ref_split_we (nI W) (nI F) (nI B) (lN n))) : Nat))).toNat) + (if (ro_ ((rx_ (q_Ref_split_am (nI W) (nI F) (nI B) (lN n)) (q_Ref_split_we (nI W) (nI F) (nI B) (lN n))) * 4 ^ rt9_ (rx_ (q_Ref_split_am (nI W) (nI F) (nI B) (lN n)) (q_Ref_split_we (nI W) (nI F) (nI B) (lN n)))) 57).2 = 0 then 0 else 1)) (-2201)) := by
  obtain ⟨j1, a1, a2, a3, a4, a5, a6⟩ := fa_e h hn hz1
  have p1 : 0 < sg_ F (n % 2 ^ (W - 1)) := sg_pos (Nat.pos_of_ne_zero ((nn_z h hn).mp hz1))
  have l1 := ff_sgl h n
  have x1 := ff_x2 h n
  have hF := ff_F2 h
  have hX54 := rx_lt (v := lN n) (we := q_Ref_split_we (nI W) (nI F) (nI B) (lN n)) (ff_R h)
  rw [rs_am h hn, rs_we h hn] at hX54
  rw [a3, a4, rs_am h hn, rs_we h hn]
  clear a3 a4
  generalize ((ex_ F (n % 2 ^ (W - 1)) : Nat) : Int) - B - F = w at *
  generalize sg_ F (n % 2 ^ (W - 1)) = A at *
  obtain ⟨o, ho, ho2⟩ : ∃ o : Nat, (o : Int) = (w - j1) % 2 ∧ o < 2 := ⟨((w - j1) % 2).toNat, by omega, by omega⟩
  obtain ⟨p, hp, hp2⟩ : ∃ p : Nat, (p : Int) = w % 2 ∧ p < 2 := ⟨(w % 2).toNat, by omega, by omega⟩
  have eo : zI (w - j1) &&& (1 : Int32) = nI o := by rw [zI_and1]; congr 1; omega
  have ep : zI w &&& (1 : Int32) = nI p := by rw [zI_and1]; congr 1; omega
  have erx : rx_ (lN A) (zI w) = A * 2 ^ p := by
    unfold rx_
    rw [ep, un_of (by omega)]
    rcases (show p = 0 ∨ p = 1 by omega) with q | q <;> rw [q]
    · rw [if_pos (show nI 0 = 0 from rfl), Nat.pow_zero, Nat.mul_one]
    · rw [if_neg (show ¬ nI 1 = 0 by decide), Nat.pow_one, Nat.mul_comm]
  have erh : rh_ (zI w) = (w - p) / 2 := by
    unfold rh_
    rw [ep, zI_t ⟨by omega, by omega⟩]
    rcases (show p = 0 ∨ p = 1 by omega) with q | q <;> rw [q]
    · rw [if_pos (show nI 0 = 0 from rfl)]; congr 1; omega
    · rw [if_neg (show ¬ nI 1 = 0 by decide)]; rfl
  rw [erx] at hX54
  rw [eo, erx, erh]
  have hX0 : 0 < A * 2 ^ p := Nat.mul_pos p1 (Nat.two_pow_pos p)
  obtain ⟨t1, t2, -, t4⟩ := rt9_ok hX0 hX54
  generalize rt9_ (A * 2 ^ p) = t at *
  -- the reference's root
  obtain ⟨r1, r2, r3⟩ := ro_inv t2 57
  have rp := ro_pos t1 t2
  have r4 : A * 2 ^ p * 4 ^ t * 4 ^ 57 / 4 ^ 27 = A * 2 ^ p * 4 ^ t * 4 ^ 30 := by
    rw [show (4 : Nat) ^ 57 = 4 ^ 30 * 4 ^ 27 from (Nat.pow_add 4 30 27), ← Nat.mul_assoc, Nat.mul_div_cancel _ (Nat.pow_pos (by decide))]
  rw [r4] at r1
  revert r1 r2 r3 rp
  generalize (ro_ (A * 2 ^ p * 4 ^ t) 57).1 = z
  generalize (ro_ (A * 2 ^ p * 4 ^ t) 57).2 = s
  intro r1 r2 r3 rp
  -- the class's root
  have hM : A * 2 ^ j1 * 2 ^ o < 2 ^ 63 := by
    rcases (show o = 0 ∨ o = 1 by omega) with q | q <;> rw [q]
    · rw [Nat.pow_zero]; omega
    · rw [Nat.pow_one]; omega
  have hM61 : 2 ^ 61 ≤ A * 2 ^ j1 * 2 ^ o := Nat.le_trans a5 (Nat.le_mul_of_pos_right _ (Nat.two_pow_pos o))
  have eL : q_Floats_longRoot (lN (A * 2 ^ j1 * 2 ^ o)) = lN (mk_ (rt_ 56 0 0 (A * 2 ^ j1 * 2 ^ o)).1 (rt_ 56 0 0 (A * 2 ^ j1 * 2 ^ o)).2) := by
    unfold q_Floats_longRoot
    have := lr_e (lN (A * 2 ^ j1 * 2 ^ o)) 56 0 0 (A * 2 ^ j1 * 2 ^ o) 0 (by decide) (by decide) (by decide) (by omega)
    rw [show lN 0 = (0 : Int64) from rfl] at this
    rw [this]
    have b1 := rt_bound_ 56 0 0 (A * 2 ^ j1 * 2 ^ o) 0 (by decide)
    obtain ⟨b2, b3⟩ := rt_56_ (m := A * 2 ^ j1 * 2 ^ o) (by omega)
    exact marked_e (by omega) (by omega)
  obtain ⟨b2, b3⟩ := rt_56_ (m := A * 2 ^ j1 * 2 ^ o) (by omega)
  have b1 := rt_bound_ 56 0 0 (A * 2 ^ j1 * 2 ^ o) 0 (by decide)
  rw [shl_lN _ (by omega), eL]
  clear eL
  revert b1 b2 b3
  generalize (rt_ 56 0 0 (A * 2 ^ j1 * 2 ^ o)).1 = x
  generalize (rt_ 56 0 0 (A * 2 ^ j1 * 2 ^ o)).2 = r
  intro b2 b3 b1
  have hx54 : 2 ^ 54 ≤ x := by
    rcases Nat.lt_or_ge x (2 ^ 54) with q | q
    · exfalso
      have h3 : (x + 1) * (x + 1) ≤ 2 ^ 54 * 2 ^ 54 := Nat.mul_self_le_mul_self q
      rw [Nat.add_mul, Nat.mul_add] at h3
      generalize x * x = y at *
      omega
    · exact q
  have lx : F + 2 ≤ x.log2 := by
    have : 54 ≤ x.log2 := (Nat.le_log2 (by omega)).mpr hx54
    omega
  -- how they stand to each other
  obtain ⟨d, hd⟩ : ∃ d : Nat, (j1 : Int) + o + 48 + 2 * d = p + 2 * t + 60 := by
    rcases Int.le_total ((j1 : Int) + o + 48) (p + 2 * t + 60) with c | c
    · exact ⟨((p : Int) + 2 * t + 60 - (j1 + o + 48)).toNat / 2, by omega⟩
    · exfalso
      have e1 : A * 2 ^ p * 4 ^ t * 4 ^ 30 = A * 2 ^ (p + 2 * t + 60) := by
        rw [show (4 : Nat) ^ t = 2 ^ (2 * t) by rw [Nat.pow_mul], show (4 : Nat) ^ 30 = 2 ^ 60 from (Nat.pow_mul 2 2 30).symm, Nat.mul_assoc, Nat.mul_assoc, ← Nat.pow_add, ← Nat.pow_add]; (try congr 2) <;> (try omega)
      have e2 : A * 2 ^ j1 * 2 ^ o * 2 ^ 48 = A * 2 ^ (j1 + o + 48) := by
        rw [Nat.mul_assoc, Nat.mul_assoc, ← Nat.pow_add, ← Nat.pow_add]; (try congr 2) <;> (try omega)
      have e3 : A * 2 ^ (p + 2 * t + 60) ≤ A * 2 ^ (j1 + o + 48) := Nat.mul_le_mul_left _ (Nat.pow_le_pow_right (by decide) (by omega))
      rw [← e1, ← e2] at e3
      have e4 : 4 ^ 26 * 4 ^ 30 ≤ A * 2 ^ p * 4 ^ t * 4 ^ 30 := Nat.mul_le_mul_right _ t1
      have e5 : A * 2 ^ j1 * 2 ^ o * 2 ^ 48 < 2 ^ 63 * 2 ^ 48 := Nat.mul_lt_mul_of_pos_right hM (by decide)
      have e6 : (2 : Nat) ^ 63 * 2 ^ 48 < 4 ^ 26 * 4 ^ 30 := by decide
      exact absurd (Nat.lt_of_le_of_lt (Nat.le_trans e4 e3) (Nat.lt_trans e5 e6)) (Nat.lt_irrefl _)
  have eN : A * 2 ^ p * 4 ^ t * 4 ^ 30 = A * 2 ^ j1 * 2 ^ o * 2 ^ 48 * (2 ^ d * 2 ^ d) := by
    rw [show (4 : Nat) ^ t = 2 ^ (2 * t) by rw [Nat.pow_mul], show (4 : Nat) ^ 30 = 2 ^ 60 from (Nat.pow_mul 2 2 30).symm, Nat.mul_assoc, Nat.mul_assoc, Nat.mul_assoc, Nat.mul_assoc, Nat.mul_assoc, ← Nat.pow_add, ← Nat.pow_add, ← Nat.pow_add, ← Nat.pow_add, ← Nat.pow_add, ← Nat.pow_add]; congr 2; omega
  rw [eN] at r1
  obtain ⟨s1, s2⟩ := sq_ (Nat.two_pow_pos d) b2 b3 r1 r2
  clear r1 b2 eN r4 t1 t2
  -- both sides rounded
  have hzx : z = x * 2 ^ d + z % 2 ^ d := by have := Nat.div_add_mod' z (2 ^ d); rw [s1] at this; omega
  have lz : F + 2 ≤ z.log2 := by
    have hzz : x ≤ z := by
      have := Nat.le_mul_of_pos_right x (Nat.two_pow_pos d)
      omega
    have : 54 ≤ z.log2 := (Nat.le_log2 (by omega)).mpr (by omega)
    omega
  have hP : (((2170 + ((w - p) / 2 - (t : Nat))).toNat : Nat) : Int) = 2170 + ((w - p) / 2 - t) := by omega
  have hm := rR_mark_ (F := F) (B := B) (m := z) (r := if s = 0 then 0 else 1) (j := (2170 + ((w - p) / 2 - (t : Nat))).toNat + 1) (e := -2201) rp (by
    have := Nat.two_pow_pos (2170 + ((w - p) / 2 - (t : Nat))).toNat
    rw [Nat.pow_succ]
    split <;> omega) (fun _ => lz)
  rw [tw_pow, hm, mk_eqv (r := if s = 0 then 0 else 1) (s := s) (by
    by_cases c : s = 0
    · rw [if_pos c]; exact ⟨fun _ => c, fun _ => rfl⟩
    · rw [if_neg c]; exact ⟨fun z => absurd z (by decide), fun z => absurd z c⟩)]
  have hm2 := rR_mark2_ (F := F) (B := B) (m := x) (r := z % 2 ^ d) (x := s) (j := d) (e := -2201 + (((2170 + ((w - p) / 2 - (t : Nat))).toNat + 1 : Nat) : Int)) (by omega) (Nat.mod_lt _ (Nat.two_pow_pos d)) (fun _ => lx)
  rw [← hzx, mk_eqv s2] at hm2
  rw [hm2, ← zI_n, zI_sub, zI_shr1 ⟨by omega, by omega⟩, show (24 : Int32) = zI 24 from rfl, zI_sub, rounded_e (ff_b h) (mk_pos (by omega)) (mk_lt_ (by omega)) ⟨by omega, by omega⟩, Int64.zero_or]
  congr 2
  omega
theorem sr_e {i W F B n : Nat} (h : ff_ i W F B) (hn : n < 2 ^ W) : q_Floats_root i (lN n) = q_Ref_root F B (nI W) (nI F) (nI B) (lN n) := by
  unfold q_Floats_root q_Ref_root
  rw [rs_in h hn, rs_z h hn, ff_n h, ite_self]
  have ms := rs_ms h hn
  by_cases z1 : q_Form_isZero i (lN n) = 0
  · rw [if_pos z1, if_pos z1]
    by_cases c : q_Form_sign i (lN n) = 0
    · rw [if_pos c, if_pos (ms.mpr c), sr_main h hn z1]
      have e : ∀ x : Int64, q_Ref_signed (nI W) x 0 = x := fun x => by unfold q_Ref_signed; rw [if_pos rfl]
      rw [e]
    · rw [if_neg c, if_neg (fun q => c (ms.mp q))]
  · rw [if_neg z1, if_neg z1]
