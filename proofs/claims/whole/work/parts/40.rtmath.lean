/-! the reference's rounding is rR_ -/
theorem pk_mulI (a b : Nat) : nI a * nI b = nI (a * b) := pk_mul a b
theorem rt_math {F B K e9 Lst C : Nat} (wi a0 : Int32) (hFB : (F = 23 ∧ B = 127) ∨ (F = 52 ∧ B = 1023)) (hK : K ≤ 2 ^ (F + 1)) (hC : C = Lst + e9) (hC4 : C < 4401) (hlow : K < 2 ^ F → e9 = 0) :
    q_Rt wi (nI F) (nI B) (nI C) (nI Lst) (lN K) a0 = q_Ref_signed wi (lN (if 2 * B < e9 + 1 ∧ 2 ^ F ≤ K then (2 * B + 1) * 2 ^ F else e9 * 2 ^ F + K)) a0 := by
  have hF : F ≤ 52 := by omega
  have hB : B ≤ 1023 := by omega
  have hp : 0 < 2 ^ F := Nat.two_pow_pos F
  have hp52 : 2 ^ F ≤ 2 ^ 52 := Nat.pow_le_pow_right (by decide) hF
  rw [Nat.pow_succ] at hK
  have hK62 : K < 2 ^ 62 := by omega
  have hsub : nI C - nI Lst = nI e9 := by rw [pk_sub (by omega)]; congr 1; omega
  have h2B : (2 : Int32) * nI B = nI (2 * B) := pk_mul 2 B
  have hinf : q_Ref_infinite wi (nI F) (nI B) a0 = q_Ref_signed wi (lN ((2 * B + 1) * 2 ^ F)) a0 := by
    unfold q_Ref_infinite
    rw [nI_l (by omega), show (2 : Int64) = lN 2 from rfl, lN_mul, lN_1, shl_lN _ (by omega)]
  have hmask : shl_ (1 : Int64) (nI F) - 1 = lN (2 ^ F - 1) := by
    rw [show (1 : Int64) = lN 1 from rfl, shl_lN 1 (by omega), Nat.one_mul]
    exact lN_sub (b := 1) (by omega)
  have hjoin : ∀ E M : Nat, E < 2 ^ 11 → M < 2 ^ F → shl_ (Int32.toInt64 (nI E)) (nI F) ||| lN M = lN (E * 2 ^ F + M) := by
    intro E M hE hM
    rw [nI_l (by omega), shl_lN _ (by omega)]
    have : E * 2 ^ F ≤ 2 ^ 11 * 2 ^ F := Nat.mul_le_mul_right _ (by omega)
    exact g_or rfl hM (by omega)
  have hs := shr_lN (k := F) hK62 (by omega)
  unfold q_Rt
  rw [hs, hsub, h2B, hinf, hmask, nI_1, nI_1]
  have hd : K / 2 ^ F < 2 ^ 62 := Nat.lt_of_le_of_lt (Nat.div_le_self _ _) hK62
  rw [show (2 : Int64) = lN 2 from rfl, show (0 : Int64) = lN 0 from rfl]
  rw [show shr_ (lN K) 1 = lN (K / 2 ^ 1) from shr_lN (k := 1) hK62 (by omega)]
  have hK2 : K / 2 ^ 1 < 2 ^ 62 := by omega
  rw [shr_lN (k := F) hK2 (by omega)]
  have i2 := lN_inj64 (a := K / 2 ^ F) (b := 2) (by omega) (by decide)
  have i0 := lN_inj64 (a := K / 2 ^ F) (b := 0) (by omega) (by decide)
  have hKd := Nat.div_add_mod K (2 ^ F)
  have hKm := Nat.mod_lt K hp
  by_cases c2 : K = 2 ^ F * 2
  · have e2 : K / 2 ^ F = 2 := by rw [c2, Nat.mul_div_cancel_left _ hp]
    have e3 : K / 2 ^ 1 = 2 ^ F := by omega
    rw [if_pos (i2.mpr e2), e3, Nat.div_self hp, if_neg (by decide)]
    have hm0 : lN (2 ^ F) &&& lN (2 ^ F - 1) = lN 0 := by rw [wb_mask (by omega) (by omega), Nat.mod_self]
    rw [hm0]
    by_cases c3 : e9 + 1 + 1 ≤ 2 * B
    · rw [if_pos (nI_le c3 (by omega)), hjoin (e9 + 1 + 1) 0 (by omega) hp, if_neg (by omega)]
      congr 2
      rw [c2, Nat.add_mul, Nat.add_mul]; omega
    · rw [if_neg (nI_ge (by omega) (by omega))]
      by_cases c4 : 2 * B < e9 + 1
      · rw [if_pos ⟨c4, by omega⟩]
      · rw [if_neg (fun q => c4 q.1)]
        congr 2
        rw [c2, show e9 = 2 * B - 1 by omega]
        have : (2 * B - 1) * 2 ^ F + 2 ^ F * 2 = (2 * B - 1 + 2) * 2 ^ F := by rw [Nat.add_mul]; omega
        rw [this]; congr 1; omega
  · by_cases c1 : 2 ^ F ≤ K
    · have e1 : K / 2 ^ F = 1 := Nat.div_eq_of_lt_le (by omega) (by omega)
      rw [if_neg (fun q => by have := i2.mp q; omega), if_neg (fun q => by have := i0.mp q; omega)]
      rw [e1] at hKd
      rw [wb_mask (by omega) (by omega)]
      by_cases c3 : e9 + 1 ≤ 2 * B
      · rw [if_pos (nI_le c3 (by omega)), hjoin (e9 + 1) _ (by omega) hKm, if_neg (by omega)]
        congr 2
        rw [Nat.add_mul]; omega
      · rw [if_neg (nI_ge (by omega) (by omega)), if_pos ⟨by omega, c1⟩]
    · have e0 : K / 2 ^ F = 0 := Nat.div_eq_of_lt (by omega)
      rw [if_neg (fun q => by have := i2.mp q; omega), if_pos (i0.mpr e0), if_neg (fun q => c1 q.2), hlow (by omega), Nat.zero_mul, Nat.zero_add]
theorem rr_final {N F B C Lst rb : Nat} (h0 : 0 < N) (hr : rb ≤ 1) (hFB : (F = 23 ∧ B = 127) ∨ (F = 52 ∧ B = 1023)) (hLst : Lst = 2201 - B - F) (hC : C = max (N.log2 - F) Lst) :
    (if 2 * B < C - Lst + 1 ∧ 2 ^ F ≤ rd_ (2 * N + rb) (C + 1) then (2 * B + 1) * 2 ^ F else (C - Lst) * 2 ^ F + rd_ (2 * N + rb) (C + 1)) = rR_ F B (2 * N + rb) (-2201) ∧ rd_ (2 * N + rb) (C + 1) ≤ 2 ^ (F + 1) ∧ (rd_ (2 * N + rb) (C + 1) < 2 ^ F → C - Lst = 0) := by
  obtain ⟨lo, hi⟩ := log2_bd_ h0
  have hL : (2 * N + rb).log2 = N.log2 + 1 := by
    have := log2_fill_ (m := N) (r := rb) (j := 1) h0 (by omega)
    rw [show N * 2 ^ 1 + rb = 2 * N + rb by omega] at this
    exact this
  have hq : rd_ (2 * N + rb) (C + 1) = N / 2 ^ C ∨ rd_ (2 * N + rb) (C + 1) = N / 2 ^ C + 1 := by
    rw [rd_up_ (by omega) hr]
    split
    · exact Or.inr rfl
    · exact Or.inl rfl
  have hKlt : N / 2 ^ C < 2 ^ (F + 1) := by
    rw [Nat.div_lt_iff_lt_mul (Nat.two_pow_pos C), ← Nat.pow_add]
    exact Nat.lt_of_lt_of_le hi (Nat.pow_le_pow_right (by decide) (by omega))
  have hKge : Lst < C → 2 ^ F ≤ N / 2 ^ C := by
    intro h
    rw [Nat.le_div_iff_mul_le (Nat.two_pow_pos C), ← Nat.pow_add]
    exact Nat.le_trans (Nat.pow_le_pow_right (by decide) (by omega)) lo
  have hdr : dr_ F B (2 * N + rb) (-2201) = C + 1 := by
    unfold dr_; rw [hL]; split <;> omega
  refine ⟨?_, by omega, fun h => ?_⟩
  · unfold rR_
    rw [hdr, hL, if_neg (show ¬ ((C : Int) + 1 ≤ 0) by omega), show ((C : Int) + 1).toNat = C + 1 by omega]
    generalize rd_ (2 * N + rb) (C + 1) = K at *
    by_cases c : 2 * (B : Int) < -2201 + ((N.log2 + 1 : Nat) : Int) + B
    · have hg := hKge (by omega)
      rw [if_pos c, if_pos ⟨by omega, by omega⟩]
    · rw [if_neg c, if_neg (fun q => by have := q.1; omega)]
      congr 2
      omega
  · generalize rd_ (2 * N + rb) (C + 1) = K at *
    by_cases c : Lst < C
    · have hg := hKge c
      omega
    · omega
theorem c_Ref_rounded (l : Launch) (A : Nat → Prop) (ad : Nat → Nat) (D : va_G) (cB cJ : ClassId) (o r : Nat) (hne : o ≠ r) (hA : ∀ q, rA o r q → A q) (cd : Int32) (la : Int64) (lo hi re wi fr bi mi : Int32) (am : Int64) (we : Int32) (f : Nat → Int32) (a0 : Int32) (N F B : Nat) (hf : RowIs f N) (hI : RI lo hi N) (h0 : 0 < N) (hre : re = 0 ∨ re = 1) (hfr : fr = nI F) (hbi : bi = nI B) (hFB : (F = 23 ∧ B = 127) ∨ (F = 52 ∧ B = 1023)) :
    Met l y_Ref_rounded (Cond.code y_Ref_rounded b_Ref_rounded 10 (some .long) :: BT) ({ frames := 2, cells := 0, slots := 0, locals := 44 } : Room) (PR A ad D cB cJ o r (rf_ cd la r lo hi re wi fr bi mi am we) f [.int a0]) (QRl D cB o r (q_Ref_signed wi (lN (rR_ F B (2 * N + (if re = 0 then 0 else 1)) (-2201))) a0) (rf_ cd la r lo hi re wi fr bi mi am we) f) 0 0 (rA o r) := by
  have hrb : ((if re = 0 then 0 else 1) : Nat) ≤ 1 := by split <;> omega
  obtain ⟨e1, e2, e3⟩ := rr_final (C := max (N.log2 - F) (2201 - B - F)) h0 hrb hFB rfl rfl
  have hI9 := hI
  obtain ⟨a, b, -, -, ha, hb4, h1, h2⟩ := hI9
  have hL4 : N.log2 ≤ b := by
    have := (Nat.log2_lt (n := N) (k := b + 1) (by omega)).mpr h2
    omega
  refine c_Ref_rounded0 l A ad D cB cJ o r hne hA cd la lo hi re wi fr bi mi am we f a0 N F B (max (N.log2 - F) (2201 - B - F)) (2201 - B - F) hf hI h0 hre hfr hbi hFB rfl rfl _ ?_
  rw [hfr, hbi, rt_math (e9 := max (N.log2 - F) (2201 - B - F) - (2201 - B - F)) wi a0 hFB e2 (by omega) (by omega) e3, e1]
