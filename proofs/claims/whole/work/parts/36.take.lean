theorem kB_Ref_take : RB y_Ref_take b_Ref_take 9 none 2 := ⟨wt_666, wt_665, wt_26, wt_36, by decide +kernel⟩
set_option maxHeartbeats 4000000 in
set_option maxRecDepth 100000 in
theorem lp_Ref_take {p : Program} {l : Launch} {e : Env} {s : State} {m : MethodId} {args : Array Value} {below : List Frame} {meth : Method} {c9 : Code} {A : Nat → Prop} {ad : Nat → Nat} {D : va_G} {cB cJ : ClassId} {o r : Nat} (hq : FR p s m args c9 A ad D cB cJ b_Ref_take 9 y_Ref_take.cls) (hne : o ≠ r) (hA : ∀ q, rA o r q → A q) (hr : meth.sig.returnType = none) (hk : meth.locks = false) (cd : Int32) (la : Int64) (re wi fr bi mi : Int32) (am : Int64) (we : Int32) (a P N n S : Nat) (hn : n < 2 ^ 64) (hSS : N = S + n * 2 ^ P) (hN4 : N < 2 ^ 4399) (ha : a ≤ P) (hNa : N % 2 ^ a = 0) (k : Option Value → List Value → (Nat → Int32) → Prop)
    (hkk : ∀ (f : Nat → Int32) (b : Nat), RowIs f S → RI (nI a) (nI b) S → k none (rf_ cd la r (nI a) (nI b) re wi fr bi mi am we) f) :
    ∀ (z i c b : Nat) (f : Nat → Int32) (H : Heap) (locs : List Loc) (ls : Array Slot), 4400 - (P + i) = z → c ≤ 1 → P + i ≤ 4400 → b < 4400 → P + i ≤ b + 1 → N < 2 ^ (b + 1) → c * 2 ^ (P + i) + N % 2 ^ (P + i) = S % 2 ^ (P + i) + n % 2 ^ i * 2 ^ P → (∀ q, q < 4400 → f q = nI ((if q < P + i then S else N) / 2 ^ q % 2)) →
      lv_has ls 9 [(5, .int (nI (P + i))), (6, .long (lN (n / 2 ^ i))), (4, .int (nI c)), (0, .ref o)] → va_P D clR (rw_ o r cB (rf_ cd la r (nI a) (nI b) re wi fr bi mi am we) f) H → va_S (rA o r) s.heap H locs →
      W p l e ({ frames := 1, cells := 0, slots := 0, locals := 22 } : Room) s m args below meth c9 H locs 0 0 (MQ below (QP D cB o r k) args s 0 0 (rA o r)) (F0 m 21 ls []) := by
  have hx := hq.1
  have hb := hq.2.1
  have hts := hq.2.2.2.2.1
  intro z
  induction z using Nat.strongRecOn with
  | ind z ih =>
  intro i c b f H locs ls hz hc1 hPi hb4 hPb hNb hc hf hl hP hS
  have hni : n / 2 ^ i < 2 ^ 64 := Nat.lt_of_le_of_lt (Nat.div_le_self _ _) hn
  have hdv := add_div_ hSS hc
  have turn : ¬ (n / 2 ^ i = 0 ∧ c = 0) → W p l e ({ frames := 1, cells := 0, slots := 0, locals := 22 } : Room) s m args below meth c9 H locs 0 0 (MQ below (QP D cB o r k) args s 0 0 (rA o r)) (F0 m 33 ls []) := by
    intro hnz
    have hge : 2 ^ (P + i) ≤ N := by
      have h1 : 1 ≤ N / 2 ^ (P + i) := by
        rw [hdv]; revert hnz; generalize n / 2 ^ i = u; generalize S / 2 ^ (P + i) = v; intro hnz; omega
      have := (Nat.le_div_iff_mul_le (Nat.two_pow_pos (P + i))).mp h1
      omega
    have hin : P + i < 4399 := (Nat.pow_lt_pow_iff_right (by decide : 1 < 2)).mp (Nat.lt_of_le_of_lt hge hN4)
    have hin4 : P + i < 4400 := by omega
    obtain ⟨st1, st2⟩ := add_step_ hSS hc
    have hx0 : f (P + i) = nI (N / 2 ^ (P + i) % 2) := by rw [hf (P + i) hin4, if_neg (by omega)]
    have hx2 : N / 2 ^ (P + i) % 2 < 2 := Nat.mod_lt _ (by decide)
    have hy2 : n / 2 ^ i % 2 < 2 := Nat.mod_lt _ (by decide)
    have hz2 : S / 2 ^ (P + i) % 2 < 2 := Nat.mod_lt _ (by decide)
    obtain ⟨tk1, tk2, tk3⟩ := tk_bit hx2 hy2 hc1 hz2 st1
    have hsum : f (P + i) - Int64.toInt32 (lN (n / 2 ^ i) &&& 1) - nI c = zI ((N / 2 ^ (P + i) % 2 : Nat) - (n / 2 ^ i % 2 : Nat) - c) := by rw [hx0, ad_l hni, ← zI_n, ← zI_n, ← zI_n, zI_sub, zI_sub]
    generalize hsm : zI ((N / 2 ^ (P + i) % 2 : Nat) - (n / 2 ^ i % 2 : Nat) - c) = sm at *
    generalize hcn : (S / 2 ^ (P + i) % 2 + n / 2 ^ i % 2 + c) / 2 = cn at *
    refine lv_aload_n hx hb d_Ref_take_33 rfl (lv_at hl 3 rfl) ?_
    refine rg_ 2 hq hP (by decide) wt_486 rfl rfl d_Ref_take_34 ?_
    refine lv_iload hx hb d_Ref_take_37 (lv_at hl 0 rfl) ?_
    refine rb_ (j := (P + i)) hq hP hin4 d_Ref_take_39 ?_
    refine lv_lload hx hb d_Ref_take_40 (lv_at hl 1 rfl) ?_
    refine lv_lconst (v := (1 : Int64)) hx hb d_Ref_take_42 (by decide) ?_
    refine lv_land hx hb d_Ref_take_43 ?_
    refine lv_l2i (v := (Int64.toInt32 ((lN (n / 2 ^ i)) &&& (1 : Int64)))) hx hb d_Ref_take_44 rfl ?_
    refine lv_isub hx hb d_Ref_take_45 ?_
    refine lv_iload hx hb d_Ref_take_46 (lv_at hl 2 rfl) ?_
    refine lv_isub hx hb d_Ref_take_48 ?_
    rw [hsum]
    refine lv_istore (lv' := [(8, .int sm), (5, .int (nI (P + i))), (6, .long (lN (n / 2 ^ i))), (4, .int (nI c)), (0, .ref o)]) hx hb d_Ref_take_49 hl (by decide) rfl (fun ls hl => ?_)
    refine lv_aload_n hx hb d_Ref_take_51 rfl (lv_at hl 4 rfl) ?_
    refine rg_ 2 hq hP (by decide) wt_486 rfl rfl d_Ref_take_52 ?_
    refine lv_iload hx hb d_Ref_take_55 (lv_at hl 1 rfl) ?_
    refine lv_iload hx hb d_Ref_take_57 (lv_at hl 0 rfl) ?_
    refine lv_iconst (v := (1 : Int32)) hx hb d_Ref_take_59 (by decide) ?_
    refine lv_iand hx hb d_Ref_take_60 ?_
    refine lv_i2b (v := (Int8.toInt32 (Int32.toInt8 (sm &&& (1 : Int32))))) hx hb d_Ref_take_61 rfl ?_
    refine rs_ (j := (P + i)) hq hne hP hS hin4 d_Ref_take_62 (fun H locs hP hS => ?_)
    have hP : va_P D clR (rw_ o r cB (rf_ cd la r (nI a) (nI b) re wi fr bi mi am we) (upd f (P + i) (vp_nar .byte (Int8.toInt32 (Int32.toInt8 (sm &&& (1 : Int32))))))) H := hP
    refine lv_iload hx hb d_Ref_take_63 (lv_at hl 0 rfl) ?_
    refine jn_ (J := 73) (ls := ls) (v := .int (if 0 ≤ sm then (0 : Int32) else (1 : Int32))) (rest := []) (fun hj => ?_) ?_
    · refine lv_if_ge (tgt := 72) hx hb d_Ref_take_65 (by decide) (fun c_1 => ?_) (fun c_1 => ?_)
      · refine lv_iconst (v := (0 : Int32)) hx hb d_Ref_take_72 (by decide) ?_
        exact (by rw [if_pos c_1] at hj; exact hj)
      · refine lv_iconst (v := (1 : Int32)) hx hb d_Ref_take_68 (by decide) ?_
        refine lv_goto (tgt := 73) hx hb d_Ref_take_69 (by decide) ?_
        exact (by rw [if_neg c_1] at hj; exact hj)
    rw [tk3]
    refine lv_istore (lv' := [(4, .int (nI cn)), (8, .int sm), (5, .int (nI (P + i))), (6, .long (lN (n / 2 ^ i))), (0, .ref o)]) hx hb d_Ref_take_73 hl (by decide) rfl (fun ls hl => ?_)
    refine lv_aload_n hx hb d_Ref_take_75 rfl (lv_at hl 4 rfl) ?_
    refine lv_iload hx hb d_Ref_take_76 (lv_at hl 2 rfl) ?_
    refine lv_iload hx hb d_Ref_take_78 (lv_at hl 2 rfl) ?_
    refine rv_v (As := [.int (nI (P + i)), .int (nI (P + i))]) (rest := []) hq hA hP hS (c_Ref_reach l A ad D cB cJ o r hne hA cd la (nI a) (nI b) re wi fr bi mi am we (upd f (P + i) (vp_nar .byte (Int8.toInt32 (Int32.toInt8 (sm &&& (1 : Int32)))))) (nI (P + i)) (nI (P + i))) kB_Ref_reach wt_615 ⟨rfl, rfl, Nat.le_of_ble_eq_true rfl, Nat.le_of_ble_eq_true rfl⟩ rfl hl.1 rfl (Nat.le_of_ble_eq_true rfl) d_Ref_take_80 ⟨Nat.zero_le _, Nat.zero_le _⟩ (fun H locs hP hS => ?_)
    have elo : q_Ref_reach_lo (nI a) (nI b) (nI (P + i)) (nI (P + i)) = nI a := by unfold q_Ref_reach_lo; rw [if_pos (nI_le (by omega) (by omega))]
    have ehi : q_Ref_reach_hi (nI a) (nI b) (nI (P + i)) (nI (P + i)) = nI (max b (P + i)) := by
      unfold q_Ref_reach_hi
      by_cases cc9 : P + i ≤ b
      · rw [if_pos (nI_le cc9 (by omega))]; congr 1; omega
      · rw [if_neg (nI_ge (by omega) (by omega))]; congr 1; omega
    rw [elo, ehi] at hP
    refine lv_lload hx hb d_Ref_take_83 (lv_at hl 3 rfl) ?_
    refine lv_iconst (v := (1 : Int32)) hx hb d_Ref_take_85 (by decide) ?_
    refine lv_lushr (v := (ush_ (lN (n / 2 ^ i)) (1 : Int32))) hx hb d_Ref_take_86 rfl ?_
    rw [ad_h hni, Nat.div_div_eq_div_mul, ← Nat.pow_succ]
    refine lv_lstore (lv' := [(6, .long (lN (n / 2 ^ (i + 1)))), (4, .int (nI cn)), (8, .int sm), (5, .int (nI (P + i))), (0, .ref o)]) hx hb d_Ref_take_87 hl (by decide) rfl (fun ls hl => ?_)
    refine lv_iinc (v := nI (P + (i + 1))) (lv' := [(5, .int (nI (P + (i + 1)))), (6, .long (lN (n / 2 ^ (i + 1)))), (4, .int (nI cn)), (8, .int sm), (0, .ref o)]) hx hb d_Ref_take_89 hl (k := 3) rfl (nI_1 (P + i)) (by decide) rfl (fun ls hl => ?_)
    refine lv_goto (tgt := 21) hx hb d_Ref_take_92 (by decide) ?_
    refine ih (4400 - (P + (i + 1))) (by omega) (i + 1) cn (max b (P + i)) _ H locs ls rfl (by omega) (by omega) (by omega) (by omega) (Nat.lt_of_lt_of_le hNb (Nat.pow_le_pow_right (by decide) (by omega))) st2 (fun q hq9 => ?_) (lv_sub hl [0, 1, 2, 4] rfl) hP hS
    by_cases e1 : q = P + i
    · subst e1
      rw [pk_us, tk2, if_pos (by omega)]
    · rw [pk_un e1, hf q hq9]
      by_cases e2 : q < P + i
      · rw [if_pos e2, if_pos (by omega)]
      · rw [if_neg e2, if_neg (by omega)]
  refine lv_lload hx hb d_Ref_take_21 (lv_at hl 1 rfl) ?_
  refine lv_lconst (v := (0 : Int64)) hx hb d_Ref_take_23 (by decide) ?_
  refine W.lcmp hx hb d_Ref_take_24 ?_
  refine lv_if_ne (tgt := 33) hx hb d_Ref_take_25 (by decide) (fun c_1 => ?_) (fun c_1 => ?_)
  · rw [lg_cmp_eq] at c_1
    exact turn (fun q9 => c_1 (by rw [q9.1]; rfl))
  · rw [lg_cmp_eq, show (0 : Int64) = lN 0 from rfl, lN_inj64 hni (by decide)] at c_1
    refine lv_iload hx hb d_Ref_take_28 (lv_at hl 2 rfl) ?_
    refine lv_if_le (tgt := 95) hx hb d_Ref_take_30 (by decide) (fun c_2 => ?_) (fun c_2 => turn (fun q9 => c_2 (by rw [q9.2]; decide)))
    have hc0 : c = 0 := by
      rcases (show c = 0 ∨ c = 1 by omega) with e9 | e9
      · exact e9
      · subst e9; exact absurd c_2 (by decide)
    subst hc0
    simp only [c_1, Nat.add_zero] at hdv
    refine qr_v hq hr hk hP hS (hkk f b (fun q hq9 => ?_) ⟨a, b, rfl, rfl, by omega, hb4, ?_, ?_⟩) d_Ref_take_95
    · rw [hf q hq9]
      by_cases e2 : q < P + i
      · rw [if_pos e2]
      · rw [if_neg e2, show q = P + i + (q - (P + i)) by omega, Nat.pow_add, ← Nat.div_div_eq_div_mul, ← Nat.div_div_eq_div_mul, hdv]
    · have h9 := hNa
      rw [hSS, show n * 2 ^ P = n * 2 ^ (P - a) * 2 ^ a by rw [Nat.mul_assoc, ← Nat.pow_add]; congr 2; omega, Nat.add_mul_mod_self_right] at h9
      exact h9
    · have hle9 : S ≤ N := by rw [hSS]; exact Nat.le_add_right _ _
      exact Nat.lt_of_le_of_lt hle9 hNb
set_option maxHeartbeats 4000000 in
set_option maxRecDepth 100000 in
theorem c_Ref_take (l : Launch) (A : Nat → Prop) (ad : Nat → Nat) (D : va_G) (cB cJ : ClassId) (o r : Nat) (hne : o ≠ r) (hA : ∀ q, rA o r q → A q) (cd : Int32) (la : Int64) (lo hi re wi fr bi mi : Int32) (am : Int64) (we : Int32) (f : Nat → Int32) (N : Nat) (hf : RowIs f N) (hI : RI lo hi N) (n : Nat) (hn : n < 2 ^ 64) (a1 : Int32) (P : Nat) (hP9 : (2200 : Int32) + a1 = nI P) (hP4 : P < 4400) (hN4 : N < 2 ^ 4399) (S : Nat) (hSS : N = S + n * 2 ^ P) : Met l y_Ref_take (Cond.code y_Ref_take b_Ref_take 9 none :: BT) ({ frames := 1, cells := 0, slots := 0, locals := 22 } : Room) (PR A ad D cB cJ o r (rf_ cd la r lo hi re wi fr bi mi am we) f [.long (lN n), .int a1]) (QP D cB o r (fun v fs' f' => v = none ∧ ∃ lo' hi', fs' = (rf_ cd la r lo' hi' re wi fr bi mi am we) ∧ RowIs f' S ∧ RI lo' hi' S)) 0 0 (rA o r) := by
  obtain ⟨a, b, rfl, rfl, ha, hb4, h1, h2⟩ := hI
  refine pr_ (by decide) (Nat.le_of_ble_eq_true rfl) ?_
  intro p e s m below meth c hq hP hS hr hk ls hl
  have hx := hq.1
  have hb := hq.2.1
  have hts := hq.2.2.2.2.1
  have hl : lv_has ls 9 [(0, .ref o), (1, .long (lN n)), (3, .int a1)] := hl
  refine lv_iconst (v := (0 : Int32)) hx hb d_Ref_take_0 (by decide) ?_
  refine lv_istore (lv' := [(4, .int (0 : Int32)), (0, .ref o), (1, .long (lN n)), (3, .int a1)]) hx hb d_Ref_take_1 hl (by decide) rfl (fun ls hl => ?_)
  refine lv_sipush (v := (2200 : Int32)) hx hb d_Ref_take_3 (by decide) ?_
  refine lv_iload_n hx hb d_Ref_take_6 rfl (lv_at hl 3 rfl) ?_
  refine lv_iadd hx hb d_Ref_take_7 ?_
  rw [hP9]
  refine lv_istore (lv' := [(5, .int (nI P)), (4, .int (0 : Int32)), (0, .ref o), (1, .long (lN n)), (3, .int a1)]) hx hb d_Ref_take_8 hl (by decide) rfl (fun ls hl => ?_)
  refine lv_lload_n hx hb d_Ref_take_10 rfl (lv_at hl 3 rfl) ?_
  refine lv_lstore (lv' := [(6, .long (lN n)), (5, .int (nI P)), (4, .int (0 : Int32)), (0, .ref o), (1, .long (lN n)), (3, .int a1)]) hx hb d_Ref_take_11 hl (by decide) rfl (fun ls hl => ?_)
  refine lv_aload_n hx hb d_Ref_take_13 rfl (lv_at hl 3 rfl) ?_
  refine lv_iload hx hb d_Ref_take_14 (lv_at hl 1 rfl) ?_
  refine lv_iload hx hb d_Ref_take_16 (lv_at hl 1 rfl) ?_
  refine rv_v (As := [.int (nI P), .int (nI P)]) (rest := []) hq hA hP hS (c_Ref_reach l A ad D cB cJ o r hne hA cd la (nI a) (nI b) re wi fr bi mi am we f (nI P) (nI P)) kB_Ref_reach wt_615 ⟨rfl, rfl, Nat.le_of_ble_eq_true rfl, Nat.le_of_ble_eq_true rfl⟩ rfl hl.1 rfl (Nat.le_of_ble_eq_true rfl) d_Ref_take_18 ⟨Nat.zero_le _, Nat.zero_le _⟩ (fun H locs hP hS => ?_)
  have elo : q_Ref_reach_lo (nI a) (nI b) (nI P) (nI P) = nI (min a P) := by
    unfold q_Ref_reach_lo
    by_cases cc9 : a ≤ P
    · rw [if_pos (nI_le cc9 (by omega))]; congr 1; omega
    · rw [if_neg (nI_ge (by omega) (by omega))]; congr 1; omega
  have ehi : q_Ref_reach_hi (nI a) (nI b) (nI P) (nI P) = nI (max b P) := by
    unfold q_Ref_reach_hi
    by_cases cc9 : P ≤ b
    · rw [if_pos (nI_le cc9 (by omega))]; congr 1; omega
    · rw [if_neg (nI_ge (by omega) (by omega))]; congr 1; omega
  rw [elo, ehi] at hP
  have hNm : N % 2 ^ (min a P) = 0 := by
    have hd9 : 2 ^ (min a P) ∣ 2 ^ a := Nat.pow_dvd_pow 2 (by omega)
    exact Nat.mod_eq_zero_of_dvd (Nat.dvd_trans hd9 (Nat.dvd_of_mod_eq_zero h1))
  refine lp_Ref_take hq hne hA hr hk cd la re wi fr bi mi am we (min a P) P N n S hn hSS hN4 (by omega) hNm _ (fun f9 b9 g1 g2 => ⟨rfl, nI (min a P), nI b9, rfl, g1, g2⟩) (4400 - (P + 0)) 0 0 (max b P) f _ _ ls rfl (by omega) (by omega) (by omega) (by omega) (Nat.lt_of_lt_of_le h2 (Nat.pow_le_pow_right (by decide) (by omega))) ?_ (fun q hq9 => ?_) ?_ hP hS
  · rw [Nat.pow_zero, Nat.mod_one, Nat.zero_mul, Nat.zero_mul, Nat.add_zero, Nat.add_zero, Nat.zero_add, hSS, Nat.add_mul_mod_self_right]
  · rw [hf q hq9]
    by_cases e2 : q < P + 0
    · rw [if_pos e2, hSS, show n * 2 ^ P = 2 ^ q * (n * 2 ^ (P - q - 1) * 2) by rw [show 2 ^ P = 2 ^ q * (2 ^ (P - q - 1) * 2) by rw [← Nat.pow_succ, ← Nat.pow_add]; congr 1; omega, Nat.mul_left_comm, Nat.mul_assoc n], Nat.add_mul_div_left _ _ (Nat.two_pow_pos q), Nat.add_mul_mod_self_right]
    · rw [if_neg e2]
  · have hl2 := lv_sub (l' := [(5, .int (nI P)), (6, .long (lN n)), (4, .int (0 : Int32)), (0, .ref o)]) hl [1, 0, 2, 3] rfl
    rw [Nat.pow_zero, Nat.div_one]
    exact hl2
