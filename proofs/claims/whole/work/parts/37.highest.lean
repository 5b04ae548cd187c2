theorem kB_Ref_highest : RB y_Ref_highest b_Ref_highest 2 (some .int) 0 := ⟨wt_626, wt_625, wt_17, wt_36, by decide +kernel⟩
set_option maxHeartbeats 4000000 in
set_option maxRecDepth 100000 in
theorem lp_Ref_highest {p : Program} {l : Launch} {e : Env} {s : State} {m : MethodId} {args : Array Value} {below : List Frame} {meth : Method} {c : Code} {A : Nat → Prop} {ad : Nat → Nat} {D : va_G} {cB cJ : ClassId} {o r : Nat} (hq : FR p s m args c A ad D cB cJ b_Ref_highest 2 y_Ref_highest.cls) (hne : o ≠ r) (hA : ∀ q, rA o r q → A q) (hr : meth.sig.returnType = some .int) (hk : meth.locks = false) (cd : Int32) (la : Int64) (re wi fr bi mi : Int32) (am : Int64) (we : Int32) (a b N : Nat) (f : Nat → Int32) (hf : RowIs f N) (h0 : 0 < N) (haL : a ≤ N.log2) (hb4 : b < 4400) :
    ∀ (d j : Nat) (ls : Array Slot) (H : Heap) (locs : List Loc), j = N.log2 + d → j ≤ b → lv_has ls 2 [(1, .int (nI j)), (0, .ref o)] → va_P D clR (rw_ o r cB (rf_ cd la r (nI a) (nI b) re wi fr bi mi am we) f) H → va_S (rA o r) s.heap H locs → W p l e ({ frames := 0, cells := 0, slots := 0, locals := 0 } : Room) s m args below meth c H locs 0 0 (MQ below (QRi D cB o r (nI N.log2) (rf_ cd la r (nI a) (nI b) re wi fr bi mi am we) f) args s 0 0 (rA o r)) (F0 m 5 ls []) := by
  have hx := hq.1
  have hb := hq.2.1
  have hts := hq.2.2.2.2.1
  obtain ⟨lo9, hi9⟩ := log2_bd_ h0
  intro d
  induction d with
  | zero =>
    intro j ls H locs hj hjb hl hP hS
    refine lv_iload_n hx hb d_Ref_highest_5 rfl (lv_at hl 0 rfl) ?_
    refine lv_aload_n hx hb d_Ref_highest_6 rfl (lv_at hl 1 rfl) ?_
    refine rg_ 3 hq hP (by decide) wt_487 rfl rfl d_Ref_highest_7 ?_
    refine lv_icmp_lt (tgt := 28) hx hb d_Ref_highest_10 (by decide) (fun c9 => absurd c9 (nI_nlt (show a ≤ j by omega) (by omega))) (fun _ => ?_)
    refine lv_aload_n hx hb d_Ref_highest_13 rfl (lv_at hl 1 rfl) ?_
    refine rg_ 2 hq hP (by decide) wt_486 rfl rfl d_Ref_highest_14 ?_
    refine lv_iload_n hx hb d_Ref_highest_17 rfl (lv_at hl 0 rfl) ?_
    refine rb_ (j := j) hq hP (show j < 4400 by omega) d_Ref_highest_18 ?_
    have hbit : f j = nI 1 := by
      rw [hf j (by omega), hj, Nat.add_zero, show N / 2 ^ N.log2 = 1 from Nat.div_eq_of_lt_le (by omega) (by rw [Nat.pow_succ] at hi9; omega)]
    refine lv_if_ne (tgt := 28) hx hb d_Ref_highest_19 (by decide) (fun _ => ?_) (fun c9 => absurd c9 (by rw [hbit]; decide))
    refine lv_iload_n hx hb d_Ref_highest_28 rfl (lv_at hl 0 rfl) ?_
    refine lv_aload_n hx hb d_Ref_highest_29 rfl (lv_at hl 1 rfl) ?_
    refine rg_ 3 hq hP (by decide) wt_487 rfl rfl d_Ref_highest_30 ?_
    refine lv_icmp_lt (tgt := 40) hx hb d_Ref_highest_33 (by decide) (fun c9 => absurd c9 (nI_nlt (show a ≤ j by omega) (by omega))) (fun _ => ?_)
    refine lv_iload_n hx hb d_Ref_highest_36 rfl (lv_at hl 0 rfl) ?_
    refine lv_goto (tgt := 41) hx hb d_Ref_highest_37 (by decide) ?_
    exact rr_i hq hr hk hP hS (by rw [hj, Nat.add_zero]) rfl rfl d_Ref_highest_41
  | succ d ih =>
    intro j ls H locs hj hjb hl hP hS
    refine lv_iload_n hx hb d_Ref_highest_5 rfl (lv_at hl 0 rfl) ?_
    refine lv_aload_n hx hb d_Ref_highest_6 rfl (lv_at hl 1 rfl) ?_
    refine rg_ 3 hq hP (by decide) wt_487 rfl rfl d_Ref_highest_7 ?_
    refine lv_icmp_lt (tgt := 28) hx hb d_Ref_highest_10 (by decide) (fun c9 => absurd c9 (nI_nlt (show a ≤ j by omega) (by omega))) (fun _ => ?_)
    refine lv_aload_n hx hb d_Ref_highest_13 rfl (lv_at hl 1 rfl) ?_
    refine rg_ 2 hq hP (by decide) wt_486 rfl rfl d_Ref_highest_14 ?_
    refine lv_iload_n hx hb d_Ref_highest_17 rfl (lv_at hl 0 rfl) ?_
    refine rb_ (j := j) hq hP (show j < 4400 by omega) d_Ref_highest_18 ?_
    have hbit : f j = nI 0 := by
      rw [hf j (by omega), Nat.div_eq_of_lt (Nat.lt_of_lt_of_le hi9 (Nat.pow_le_pow_right (by decide) (by omega)))]
    refine lv_if_ne (tgt := 28) hx hb d_Ref_highest_19 (by decide) (fun c9 => absurd hbit c9) (fun _ => ?_)
    obtain ⟨j2, rfl⟩ : ∃ j2, j = j2 + 1 := ⟨j - 1, by omega⟩
    refine lv_iinc (v := nI j2) (lv' := [(1, .int (nI j2)), (0, .ref o)]) hx hb d_Ref_highest_22 hl (k := 0) rfl (pk_m1 j2) (by decide) rfl (fun ls hl => ?_)
    refine lv_goto (tgt := 5) hx hb d_Ref_highest_25 (by decide) ?_
    exact ih j2 ls H locs (by omega) (by omega) hl hP hS
set_option maxHeartbeats 4000000 in
set_option maxRecDepth 100000 in
theorem c_Ref_highest (l : Launch) (A : Nat → Prop) (ad : Nat → Nat) (D : va_G) (cB cJ : ClassId) (o r : Nat) (hne : o ≠ r) (hA : ∀ q, rA o r q → A q) (cd : Int32) (la : Int64) (lo hi re wi fr bi mi : Int32) (am : Int64) (we : Int32) (f : Nat → Int32) (N : Nat) (hf : RowIs f N) (hI : RI lo hi N) (h0 : 0 < N) : Met l y_Ref_highest (Cond.code y_Ref_highest b_Ref_highest 2 (some .int) :: BT) ({ frames := 0, cells := 0, slots := 0, locals := 0 } : Room) (PR A ad D cB cJ o r (rf_ cd la r lo hi re wi fr bi mi am we) f []) (QRi D cB o r (nI N.log2) (rf_ cd la r lo hi re wi fr bi mi am we) f) 0 0 (rA o r) := by
  obtain ⟨a, b, rfl, rfl, ha, hb4, h1, h2⟩ := hI
  have haL : a ≤ N.log2 := by
    rw [Nat.le_log2 (by omega)]
    exact Nat.le_of_dvd h0 (Nat.dvd_of_mod_eq_zero h1)
  have hLb : N.log2 ≤ b := by
    have := (Nat.log2_lt (n := N) (k := b + 1) (by omega)).mpr h2
    omega
  refine pr_ (by decide) (Nat.le_of_ble_eq_true rfl) ?_
  intro p e s m below meth c hq hP hS hr hk ls hl
  have hx := hq.1
  have hb := hq.2.1
  have hts := hq.2.2.2.2.1
  have hl : lv_has ls 2 [(0, .ref o)] := hl
  refine lv_aload_n hx hb d_Ref_highest_0 rfl (lv_at hl 0 rfl) ?_
  refine rg_ 4 hq hP (by decide) wt_488 rfl rfl d_Ref_highest_1 ?_
  refine lv_istore_n (lv' := [(1, .int (nI b)), (0, .ref o)]) hx hb d_Ref_highest_4 rfl hl (by decide) rfl (fun ls hl => ?_)
  exact lp_Ref_highest hq hne hA hr hk cd la re wi fr bi mi am we a b N f hf h0 haL hb4 (b - N.log2) b ls _ _ (by omega) (Nat.le_refl _) hl hP hS
theorem kB_Ref_isBelow : RB y_Ref_isBelow b_Ref_isBelow 4 (some .boolean) 1 := ⟨wt_630, wt_629, wt_18, wt_36, by decide +kernel⟩
def q_Ref_isBelow (re : Int32) (N c : Nat) : Int32 := if re = 0 ∧ N % 2 ^ c = 0 then 0 else 1
theorem zb_Ref_isBelow (re : Int32) (N c : Nat) : q_Ref_isBelow re N c = 0 ∨ q_Ref_isBelow re N c = 1 := by
  unfold q_Ref_isBelow
  split
  · exact Or.inl rfl
  · exact Or.inr rfl
set_option maxHeartbeats 4000000 in
set_option maxRecDepth 100000 in
theorem lp_Ref_isBelow {p : Program} {l : Launch} {e : Env} {s : State} {m : MethodId} {args : Array Value} {below : List Frame} {meth : Method} {c : Code} {A : Nat → Prop} {ad : Nat → Nat} {D : va_G} {cB cJ : ClassId} {o r : Nat} (hq : FR p s m args c A ad D cB cJ b_Ref_isBelow 4 y_Ref_isBelow.cls) (hne : o ≠ r) (hA : ∀ q, rA o r q → A q) (hr : meth.sig.returnType = some .boolean) (hk : meth.locks = false) (cd : Int32) (la : Int64) (re wi fr bi mi : Int32) (am : Int64) (we : Int32) (a b N C : Nat) (f : Nat → Int32) (hf : RowIs f N) (hb4 : b < 4400) (hC : C < 2 ^ 31) (h2 : N < 2 ^ (b + 1)) :
    ∀ (d j : Nat) (ls : Array Slot) (H : Heap) (locs : List Loc), C - j = d → j ≤ 4400 → (j ≤ C ∨ N % 2 ^ j = 0) → lv_has ls 4 [(3, .int (nI j)), (2, .int (q_Ref_isBelow re N j)), (0, .ref o), (1, .int (nI C))] → va_P D clR (rw_ o r cB (rf_ cd la r (nI a) (nI b) re wi fr bi mi am we) f) H → va_S (rA o r) s.heap H locs → W p l e ({ frames := 0, cells := 0, slots := 0, locals := 0 } : Room) s m args below meth c H locs 0 0 (MQ below (QRi D cB o r (q_Ref_isBelow re N C) (rf_ cd la r (nI a) (nI b) re wi fr bi mi am we) f) args s 0 0 (rA o r)) (F0 m 10 ls []) := by
  have hx := hq.1
  have hb := hq.2.1
  have hts := hq.2.2.2.2.1
  intro d
  induction d with
  | zero =>
    intro j ls H locs hd hj hor hl hP hS
    refine lv_iload_n hx hb d_Ref_isBelow_10 rfl (lv_at hl 0 rfl) ?_
    refine lv_iload_n hx hb d_Ref_isBelow_11 rfl (lv_at hl 3 rfl) ?_
    refine lv_icmp_ge (tgt := 48) hx hb d_Ref_isBelow_12 (by decide) (fun _ => ?_) (fun c9 => absurd (nI_le (show C ≤ j by omega) (by omega)) c9)
    refine lv_iload_n hx hb d_Ref_isBelow_48 rfl (lv_at hl 1 rfl) ?_
    refine rr_z hq hr hk (nb_ (zb_Ref_isBelow re N j)) hP hS ?_ rfl rfl d_Ref_isBelow_49
    unfold q_Ref_isBelow
    rcases hor with e9 | e9
    · rw [show j = C by omega]
    · have e8 : N % 2 ^ C = 0 := Nat.mod_eq_zero_of_dvd (Nat.dvd_trans (Nat.pow_dvd_pow 2 (show C ≤ j by omega)) (Nat.dvd_of_mod_eq_zero e9))
      rw [e8, e9]
  | succ d ih =>
    intro j ls H locs hd hj hor hl hP hS
    refine lv_iload_n hx hb d_Ref_isBelow_10 rfl (lv_at hl 0 rfl) ?_
    refine lv_iload_n hx hb d_Ref_isBelow_11 rfl (lv_at hl 3 rfl) ?_
    refine lv_icmp_ge (tgt := 48) hx hb d_Ref_isBelow_12 (by decide) (fun c9 => absurd c9 (nI_ge (show j < C by omega) hC)) (fun _ => ?_)
    refine lv_iload_n hx hb d_Ref_isBelow_15 rfl (lv_at hl 0 rfl) ?_
    refine lv_aload_n hx hb d_Ref_isBelow_16 rfl (lv_at hl 2 rfl) ?_
    refine rg_ 4 hq hP (by decide) wt_488 rfl rfl d_Ref_isBelow_17 ?_
    by_cases hjb : b < j
    · refine lv_icmp_gt (tgt := 48) hx hb d_Ref_isBelow_20 (by decide) (fun _ => ?_) (fun c9 => absurd (nI_lt hjb (by omega)) c9)
      refine lv_iload_n hx hb d_Ref_isBelow_48 rfl (lv_at hl 1 rfl) ?_
      refine rr_z hq hr hk (nb_ (zb_Ref_isBelow re N j)) hP hS ?_ rfl rfl d_Ref_isBelow_49
      have e9 : 2 ^ (b + 1) ≤ 2 ^ j := Nat.pow_le_pow_right (by decide) hjb
      have e8 : 2 ^ (b + 1) ≤ 2 ^ C := Nat.pow_le_pow_right (by decide) (by omega)
      unfold q_Ref_isBelow
      rw [Nat.mod_eq_of_lt (show N < 2 ^ j by omega), Nat.mod_eq_of_lt (show N < 2 ^ C by omega)]
    · refine lv_icmp_gt (tgt := 48) hx hb d_Ref_isBelow_20 (by decide) (fun c9 => absurd c9 (nI_nlt (show j ≤ b by omega) (by omega))) (fun _ => ?_)
      refine lv_iload_n hx hb d_Ref_isBelow_23 rfl (lv_at hl 1 rfl) ?_
      refine jn_ (J := 41) (ls := ls) (v := .int (if (q_Ref_isBelow re N j) = 0 then (if (f j) = 0 then (0 : Int32) else (1 : Int32)) else (1 : Int32))) (rest := []) (fun hj => ?_) ?_
      · refine lv_if_ne (tgt := 36) hx hb d_Ref_isBelow_24 (by decide) (fun c_1 => ?_) (fun c_1 => ?_)
        · refine lv_iconst (v := (1 : Int32)) hx hb d_Ref_isBelow_36 (by decide) ?_
          refine lv_goto (tgt := 41) hx hb d_Ref_isBelow_37 (by decide) ?_
          exact (by rw [if_neg c_1] at hj; exact hj)
        · refine lv_aload_n hx hb d_Ref_isBelow_27 rfl (lv_at hl 2 rfl) ?_
          refine rg_ 2 hq hP (by decide) wt_486 rfl rfl d_Ref_isBelow_28 ?_
          refine lv_iload_n hx hb d_Ref_isBelow_31 rfl (lv_at hl 0 rfl) ?_
          refine rb_ (j := j) hq hP (show j < 4400 by omega) d_Ref_isBelow_32 ?_
          refine jn_ (J := 41) (ls := ls) (v := .int (if (f j) = 0 then (0 : Int32) else (1 : Int32))) (rest := []) (fun hj => ?_) ?_
          · refine lv_if_eq (tgt := 40) hx hb d_Ref_isBelow_33 (by decide) (fun c_2 => ?_) (fun c_2 => ?_)
            · refine lv_iconst (v := (0 : Int32)) hx hb d_Ref_isBelow_40 (by decide) ?_
              exact (by rw [if_pos c_2] at hj; exact hj)
            · refine lv_iconst (v := (1 : Int32)) hx hb d_Ref_isBelow_36 (by decide) ?_
              refine lv_goto (tgt := 41) hx hb d_Ref_isBelow_37 (by decide) ?_
              exact (by rw [if_neg c_2] at hj; exact hj)
          exact (by rw [if_pos c_1] at hj; exact hj)
      have hstep : (if (q_Ref_isBelow re N j) = 0 then (if (f j) = 0 then (0 : Int32) else (1 : Int32)) else (1 : Int32)) = q_Ref_isBelow re N (j + 1) := by
        rw [hf j (by omega)]
        unfold q_Ref_isBelow
        rw [mod_succ_ N j]
        have hp := Nat.two_pow_pos j
        rcases Nat.mod_two_eq_zero_or_one (N / 2 ^ j) with e9 | e9
        · rw [e9, Nat.zero_mul, Nat.add_zero]
          by_cases e8 : re = 0 ∧ N % 2 ^ j = 0
          · rw [if_pos e8]; rfl
          · rw [if_neg e8]; rfl
        · rw [e9, Nat.one_mul, if_neg (show ¬ (re = 0 ∧ N % 2 ^ j + 2 ^ j = 0) by omega)]
          by_cases e8 : re = 0 ∧ N % 2 ^ j = 0
          · rw [if_pos e8]; rfl
          · rw [if_neg e8]; rfl
      rw [hstep]
      refine lv_istore_n (lv' := [(2, .int (q_Ref_isBelow re N (j + 1))), (3, .int (nI j)), (0, .ref o), (1, .int (nI C))]) hx hb d_Ref_isBelow_41 rfl hl (by decide) rfl (fun ls hl => ?_)
      refine lv_iinc (v := nI (j + 1)) (lv' := [(3, .int (nI (j + 1))), (2, .int (q_Ref_isBelow re N (j + 1))), (0, .ref o), (1, .int (nI C))]) hx hb d_Ref_isBelow_42 hl (k := 1) rfl (nI_1 j) (by decide) rfl (fun ls hl => ?_)
      refine lv_goto (tgt := 10) hx hb d_Ref_isBelow_45 (by decide) ?_
      exact ih (j + 1) ls H locs (by omega) (by omega) (Or.inl (by omega)) hl hP hS
set_option maxHeartbeats 4000000 in
set_option maxRecDepth 100000 in
theorem c_Ref_isBelow (l : Launch) (A : Nat → Prop) (ad : Nat → Nat) (D : va_G) (cB cJ : ClassId) (o r : Nat) (hne : o ≠ r) (hA : ∀ q, rA o r q → A q) (cd : Int32) (la : Int64) (lo hi re wi fr bi mi : Int32) (am : Int64) (we : Int32) (f : Nat → Int32) (a0 : Int32) (N C : Nat) (hC0 : a0 = nI C) (hC : C < 2 ^ 31) (hre : re = 0 ∨ re = 1) (hf : RowIs f N) (hI : RI lo hi N) : Met l y_Ref_isBelow (Cond.code y_Ref_isBelow b_Ref_isBelow 4 (some .boolean) :: BT) ({ frames := 0, cells := 0, slots := 0, locals := 0 } : Room) (PR A ad D cB cJ o r (rf_ cd la r lo hi re wi fr bi mi am we) f [.int a0]) (QRi D cB o r (q_Ref_isBelow re N C) (rf_ cd la r lo hi re wi fr bi mi am we) f) 0 0 (rA o r) := by
  subst hC0
  obtain ⟨a, b, rfl, rfl, ha, hb4, h1, h2⟩ := hI
  refine pr_ (by decide) (Nat.le_of_ble_eq_true rfl) ?_
  intro p e s m below meth c hq hP hS hr hk ls hl
  have hx := hq.1
  have hb := hq.2.1
  have hts := hq.2.2.2.2.1
  have hl : lv_has ls 4 [(0, .ref o), (1, .int (nI C))] := hl
  refine lv_aload_n hx hb d_Ref_isBelow_0 rfl (lv_at hl 0 rfl) ?_
  refine rg_ 5 hq hP (by decide) wt_489 rfl rfl d_Ref_isBelow_1 ?_
  refine lv_istore_n (lv' := [(2, .int re), (0, .ref o), (1, .int (nI C))]) hx hb d_Ref_isBelow_4 rfl hl (by decide) rfl (fun ls hl => ?_)
  refine lv_aload_n hx hb d_Ref_isBelow_5 rfl (lv_at hl 1 rfl) ?_
  refine rg_ 3 hq hP (by decide) wt_487 rfl rfl d_Ref_isBelow_6 ?_
  refine lv_istore_n (lv' := [(3, .int (nI a)), (2, .int re), (0, .ref o), (1, .int (nI C))]) hx hb d_Ref_isBelow_9 rfl hl (by decide) rfl (fun ls hl => ?_)
  have e7 : re = q_Ref_isBelow re N a := by
    unfold q_Ref_isBelow
    rcases hre with e9 | e9
    · rw [if_pos ⟨e9, h1⟩]; exact e9
    · rw [if_neg (fun q => by rw [e9] at q; exact absurd q.1 (by decide))]; exact e9
  have hl2 := lv_sub (l' := [(3, .int (nI a)), (2, .int re), (0, .ref o), (1, .int (nI C))]) hl [0, 1, 2, 3] rfl
  exact lp_Ref_isBelow hq hne hA hr hk cd la re wi fr bi mi am we a b N C f hf hb4 hC h2 (C - a) a ls _ _ rfl ha (Or.inr h1) (by rw [← e7]; exact hl2) hP hS
