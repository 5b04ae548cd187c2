def q_Conversions_fromUnsigned (j0 : Nat) (a1 : Int64) : Int64 :=
  if a1 = (0 : Int64) then
    (0 : Int64)
  else
    (q_Form_rounded j0 (0 : Int64) a1 (0 : Int32))
theorem kB_Conversions_fromUnsigned : SB y_Conversions_fromUnsigned b_Conversions_fromUnsigned 3 (some .long) 2 := ⟨wt_220, wt_219, wt_42, by decide +kernel⟩
set_option maxHeartbeats 4000000 in
set_option maxRecDepth 100000 in
theorem c_Conversions_fromUnsigned (l : Launch) (A : Nat → Prop) (ad : Nat → Nat) (j0 : Nat) (hj0 : j0 < 2) (a1 : Int64) : Met l y_Conversions_fromUnsigned (Cond.code y_Conversions_fromUnsigned b_Conversions_fromUnsigned 3 (some .long) :: BT) ({ frames := 3, cells := 0, slots := 0, locals := 78 }) (PC A ad [.ref (ad j0), .long a1]) (vp_Sl (fun r => r = q_Conversions_fromUnsigned j0 a1)) 0 0 (fun _ => False) := by
  refine pm_ (by decide +kernel) (Nat.le_of_ble_eq_true rfl) ?_
  intro p e s m below meth c hq hr hk ls hl
  have hx := hq.1
  have hb := hq.2.1
  have hts := hq.2.2.2.2.1
  have hl : lv_has ls 3 [(0, .ref (ad j0)), (1, .long a1)] := hl
  refine lv_lload_n hx hb d_Conversions_fromUnsigned_0 rfl (lv_at hl 1 rfl) ?_
  refine lv_lconst (v := (0 : Int64)) hx hb d_Conversions_fromUnsigned_1 (by decide) ?_
  refine W.lcmp hx hb d_Conversions_fromUnsigned_2 ?_
  refine lv_if_ne (tgt := 10) hx hb d_Conversions_fromUnsigned_3 (by decide) (fun c_1 => ?_) (fun c_1 => ?_)
  · rw [lg_cmp_eq] at c_1
    refine lv_aload_n hx hb d_Conversions_fromUnsigned_10 rfl (lv_at hl 0 rfl) ?_
    refine lv_lconst (v := (0 : Int64)) hx hb d_Conversions_fromUnsigned_11 (by decide) ?_
    refine lv_lload_n hx hb d_Conversions_fromUnsigned_12 rfl (lv_at hl 1 rfl) ?_
    refine lv_iconst (v := (0 : Int32)) hx hb d_Conversions_fromUnsigned_13 (by decide) ?_
    refine vl_ (As := [.long (0 : Int64), .long a1, .int (0 : Int32)]) (rest := []) hq hj0 (c_Form_rounded l A ad j0 hj0 (0 : Int64) a1 (0 : Int32)) kB_Form_rounded wt_201 ⟨rfl, rfl, Nat.le_of_ble_eq_true rfl, Nat.le_of_ble_eq_true rfl⟩ rfl hl.1 rfl (Nat.le_of_ble_eq_true rfl) d_Conversions_fromUnsigned_14 ⟨Nat.zero_le _, Nat.zero_le _⟩ ?_
    exact rl_ hx hb hr hk (by rw [q_Conversions_fromUnsigned, if_neg c_1]) d_Conversions_fromUnsigned_17
  · rw [lg_cmp_eq] at c_1
    refine lv_lconst (v := (0 : Int64)) hx hb d_Conversions_fromUnsigned_6 (by decide) ?_
    refine lv_goto (tgt := 17) hx hb d_Conversions_fromUnsigned_7 (by decide) ?_
    exact rl_ hx hb hr hk (by rw [q_Conversions_fromUnsigned, if_pos c_1]) d_Conversions_fromUnsigned_17
def q_Conversions_fromSigned (j0 : Nat) (a1 : Int64) : Int64 :=
  if (0 : Int64) ≤ a1 then
    (q_Conversions_fromUnsigned j0 a1)
  else
    (q_Form_rounded j0 (fm_s j0) (-a1) (0 : Int32))
theorem kB_Conversions_fromSigned : SB y_Conversions_fromSigned b_Conversions_fromSigned 3 (some .long) 2 := ⟨wt_200, wt_199, wt_42, by decide +kernel⟩
set_option maxHeartbeats 4000000 in
set_option maxRecDepth 100000 in
theorem c_Conversions_fromSigned (l : Launch) (A : Nat → Prop) (ad : Nat → Nat) (j0 : Nat) (hj0 : j0 < 2) (a1 : Int64) : Met l y_Conversions_fromSigned (Cond.code y_Conversions_fromSigned b_Conversions_fromSigned 3 (some .long) :: BT) ({ frames := 4, cells := 0, slots := 0, locals := 100 }) (PC A ad [.ref (ad j0), .long a1]) (vp_Sl (fun r => r = q_Conversions_fromSigned j0 a1)) 0 0 (fun _ => False) := by
  refine pm_ (by decide +kernel) (Nat.le_of_ble_eq_true rfl) ?_
  intro p e s m below meth c hq hr hk ls hl
  have hx := hq.1
  have hb := hq.2.1
  have hts := hq.2.2.2.2.1
  have hl : lv_has ls 3 [(0, .ref (ad j0)), (1, .long a1)] := hl
  refine lv_lload_n hx hb d_Conversions_fromSigned_0 rfl (lv_at hl 1 rfl) ?_
  refine lv_lconst (v := (0 : Int64)) hx hb d_Conversions_fromSigned_1 (by decide) ?_
  refine W.lcmp hx hb d_Conversions_fromSigned_2 ?_
  refine lv_if_ge (tgt := 20) hx hb d_Conversions_fromSigned_3 (by decide) (fun c_1 => ?_) (fun c_1 => ?_)
  · rw [lg_cmp_ge] at c_1
    refine lv_aload_n hx hb d_Conversions_fromSigned_20 rfl (lv_at hl 0 rfl) ?_
    refine lv_lload_n hx hb d_Conversions_fromSigned_21 rfl (lv_at hl 1 rfl) ?_
    refine sl_ (As := [.ref (ad j0), .long a1]) (rest := []) hq (c_Conversions_fromUnsigned l A ad j0 hj0 a1) kB_Conversions_fromUnsigned wt_218 ⟨rfl, rfl, Nat.le_of_ble_eq_true rfl, Nat.le_of_ble_eq_true rfl⟩ rfl hl.1 rfl (Nat.le_of_ble_eq_true rfl) d_Conversions_fromSigned_22 ⟨Nat.zero_le _, Nat.zero_le _⟩ ?_
    exact rl_ hx hb hr hk (by rw [q_Conversions_fromSigned, if_pos c_1]) d_Conversions_fromSigned_25
  · rw [lg_cmp_ge] at c_1
    refine lv_aload_n hx hb d_Conversions_fromSigned_6 rfl (lv_at hl 0 rfl) ?_
    refine lv_aload_n hx hb d_Conversions_fromSigned_7 rfl (lv_at hl 0 rfl) ?_
    refine gf_s hq hj0 wt_722 d_Conversions_fromSigned_8 ?_
    refine lv_lload_n hx hb d_Conversions_fromSigned_11 rfl (lv_at hl 1 rfl) ?_
    refine lv_lneg hx hb d_Conversions_fromSigned_12 ?_
    refine lv_iconst (v := (0 : Int32)) hx hb d_Conversions_fromSigned_13 (by decide) ?_
    refine vl_ (As := [.long (fm_s j0), .long (-a1), .int (0 : Int32)]) (rest := []) hq hj0 (c_Form_rounded l A ad j0 hj0 (fm_s j0) (-a1) (0 : Int32)) kB_Form_rounded wt_201 ⟨rfl, rfl, Nat.le_of_ble_eq_true rfl, Nat.le_of_ble_eq_true rfl⟩ rfl hl.1 rfl (Nat.le_of_ble_eq_true rfl) d_Conversions_fromSigned_14 ⟨Nat.zero_le _, Nat.zero_le _⟩ ?_
    refine lv_goto (tgt := 25) hx hb d_Conversions_fromSigned_17 (by decide) ?_
    exact rl_ hx hb hr hk (by rw [q_Conversions_fromSigned, if_neg c_1]) d_Conversions_fromSigned_25
def q_Conversions_fromFloat (j0 : Nat) (a1 : Int64) (j2 : Nat) : Int64 :=
  if (q_Form_isNoNumber j0 a1) = 0 then
    if (q_Form_sign j0 a1) = (0 : Int64) then
      if (q_Form_isInfinite j0 a1) = 0 then
        if (q_Form_isZero j0 a1) = 0 then
          (q_Form_rounded j2 (0 : Int64) (q_Form_significand j0 a1) (q_Form_scale j0 a1))
        else
          (0 : Int64)
      else
        ((0 : Int64) ||| (fm_i j2))
    else
      if (q_Form_isInfinite j0 a1) = 0 then
        if (q_Form_isZero j0 a1) = 0 then
          (q_Form_rounded j2 (fm_s j2) (q_Form_significand j0 a1) (q_Form_scale j0 a1))
        else
          (fm_s j2)
      else
        ((fm_s j2) ||| (fm_i j2))
  else
    (fm_n j2)
theorem kB_Conversions_fromFloat : SB y_Conversions_fromFloat b_Conversions_fromFloat 6 (some .long) 3 := ⟨wt_229, wt_228, wt_42, by decide +kernel⟩
set_option maxHeartbeats 4000000 in
set_option maxRecDepth 100000 in
theorem c_Conversions_fromFloat (l : Launch) (A : Nat → Prop) (ad : Nat → Nat) (j0 : Nat) (hj0 : j0 < 2) (a1 : Int64) (j2 : Nat) (hj2 : j2 < 2) : Met l y_Conversions_fromFloat (Cond.code y_Conversions_fromFloat b_Conversions_fromFloat 6 (some .long) :: BT) ({ frames := 3, cells := 0, slots := 0, locals := 78 }) (PC A ad [.ref (ad j0), .long a1, .ref (ad j2)]) (vp_Sl (fun r => r = q_Conversions_fromFloat j0 a1 j2)) 0 0 (fun _ => False) := by
  refine pm_ (by decide +kernel) (Nat.le_of_ble_eq_true rfl) ?_
  intro p e s m below meth c hq hr hk ls hl
  have hx := hq.1
  have hb := hq.2.1
  have hts := hq.2.2.2.2.1
  have hl : lv_has ls 6 [(0, .ref (ad j0)), (1, .long a1), (3, .ref (ad j2))] := hl
  refine lv_aload_n hx hb d_Conversions_fromFloat_0 rfl (lv_at hl 0 rfl) ?_
  refine lv_lload_n hx hb d_Conversions_fromFloat_1 rfl (lv_at hl 1 rfl) ?_
  refine vi_ (As := [.long a1]) (rest := []) hq hj0 (c_Form_isNoNumber l A ad j0 hj0 a1) kB_Form_isNoNumber wt_230 ⟨rfl, rfl, Nat.le_of_ble_eq_true rfl, Nat.le_of_ble_eq_true rfl⟩ rfl hl.1 rfl (Nat.le_of_ble_eq_true rfl) d_Conversions_fromFloat_2 ⟨Nat.zero_le _, Nat.zero_le _⟩ ?_
  refine lv_if_eq (tgt := 13) hx hb d_Conversions_fromFloat_5 (by decide) (fun c_1 => ?_) (fun c_1 => ?_)
  · refine lv_aload_n hx hb d_Conversions_fromFloat_13 rfl (lv_at hl 0 rfl) ?_
    refine lv_lload_n hx hb d_Conversions_fromFloat_14 rfl (lv_at hl 1 rfl) ?_
    refine vl_ (As := [.long a1]) (rest := []) hq hj0 (c_Form_sign l A ad j0 hj0 a1) kB_Form_sign wt_238 ⟨rfl, rfl, Nat.le_of_ble_eq_true rfl, Nat.le_of_ble_eq_true rfl⟩ rfl hl.1 rfl (Nat.le_of_ble_eq_true rfl) d_Conversions_fromFloat_15 ⟨Nat.zero_le _, Nat.zero_le _⟩ ?_
    refine lv_lconst (v := (0 : Int64)) hx hb d_Conversions_fromFloat_18 (by decide) ?_
    refine W.lcmp hx hb d_Conversions_fromFloat_19 ?_
    refine lv_if_ne (tgt := 27) hx hb d_Conversions_fromFloat_20 (by decide) (fun c_2 => ?_) (fun c_2 => ?_)
    · rw [lg_cmp_eq] at c_2
      refine lv_aload_n hx hb d_Conversions_fromFloat_27 rfl (lv_at hl 2 rfl) ?_
      refine gf_s hq hj2 wt_722 d_Conversions_fromFloat_28 ?_
      refine lv_lstore (lv' := [(4, .long (fm_s j2)), (0, .ref (ad j0)), (1, .long a1), (3, .ref (ad j2))]) hx hb d_Conversions_fromFloat_31 hl (by decide) rfl (fun ls hl => ?_)
      refine lv_aload_n hx hb d_Conversions_fromFloat_33 rfl (lv_at hl 1 rfl) ?_
      refine lv_lload_n hx hb d_Conversions_fromFloat_34 rfl (lv_at hl 2 rfl) ?_
      refine vi_ (As := [.long a1]) (rest := []) hq hj0 (c_Form_isInfinite l A ad j0 hj0 a1) kB_Form_isInfinite wt_242 ⟨rfl, rfl, Nat.le_of_ble_eq_true rfl, Nat.le_of_ble_eq_true rfl⟩ rfl hl.1 rfl (Nat.le_of_ble_eq_true rfl) d_Conversions_fromFloat_35 ⟨Nat.zero_le _, Nat.zero_le _⟩ ?_
      refine lv_if_eq (tgt := 49) hx hb d_Conversions_fromFloat_38 (by decide) (fun c_3 => ?_) (fun c_3 => ?_)
      · refine lv_aload_n hx hb d_Conversions_fromFloat_49 rfl (lv_at hl 1 rfl) ?_
        refine lv_lload_n hx hb d_Conversions_fromFloat_50 rfl (lv_at hl 2 rfl) ?_
        refine vi_ (As := [.long a1]) (rest := []) hq hj0 (c_Form_isZero l A ad j0 hj0 a1) kB_Form_isZero wt_246 ⟨rfl, rfl, Nat.le_of_ble_eq_true rfl, Nat.le_of_ble_eq_true rfl⟩ rfl hl.1 rfl (Nat.le_of_ble_eq_true rfl) d_Conversions_fromFloat_51 ⟨Nat.zero_le _, Nat.zero_le _⟩ ?_
        refine lv_if_eq (tgt := 60) hx hb d_Conversions_fromFloat_54 (by decide) (fun c_4 => ?_) (fun c_4 => ?_)
        · refine lv_aload_n hx hb d_Conversions_fromFloat_60 rfl (lv_at hl 3 rfl) ?_
          refine lv_lload hx hb d_Conversions_fromFloat_61 (lv_at hl 0 rfl) ?_
          refine lv_aload_n hx hb d_Conversions_fromFloat_63 rfl (lv_at hl 1 rfl) ?_
          refine lv_lload_n hx hb d_Conversions_fromFloat_64 rfl (lv_at hl 2 rfl) ?_
          refine vl_ (As := [.long a1]) (rest := [.long (fm_s j2), .ref (ad j2)]) hq hj0 (c_Form_significand l A ad j0 hj0 a1) kB_Form_significand wt_250 ⟨rfl, rfl, Nat.le_of_ble_eq_true rfl, Nat.le_of_ble_eq_true rfl⟩ rfl hl.1 rfl (Nat.le_of_ble_eq_true rfl) d_Conversions_fromFloat_65 ⟨Nat.zero_le _, Nat.zero_le _⟩ ?_
          refine lv_aload_n hx hb d_Conversions_fromFloat_68 rfl (lv_at hl 1 rfl) ?_
          refine lv_lload_n hx hb d_Conversions_fromFloat_69 rfl (lv_at hl 2 rfl) ?_
          refine vi_ (As := [.long a1]) (rest := [.long (q_Form_significand j0 a1), .long (fm_s j2), .ref (ad j2)]) hq hj0 (c_Form_scale l A ad j0 hj0 a1) kB_Form_scale wt_258 ⟨rfl, rfl, Nat.le_of_ble_eq_true rfl, Nat.le_of_ble_eq_true rfl⟩ rfl hl.1 rfl (Nat.le_of_ble_eq_true rfl) d_Conversions_fromFloat_70 ⟨Nat.zero_le _, Nat.zero_le _⟩ ?_
          refine vl_ (As := [.long (fm_s j2), .long (q_Form_significand j0 a1), .int (q_Form_scale j0 a1)]) (rest := []) hq hj2 (c_Form_rounded l A ad j2 hj2 (fm_s j2) (q_Form_significand j0 a1) (q_Form_scale j0 a1)) kB_Form_rounded wt_201 ⟨rfl, rfl, Nat.le_of_ble_eq_true rfl, Nat.le_of_ble_eq_true rfl⟩ rfl hl.1 rfl (Nat.le_of_ble_eq_true rfl) d_Conversions_fromFloat_73 ⟨Nat.zero_le _, Nat.zero_le _⟩ ?_
          exact rl_ hx hb hr hk (by rw [q_Conversions_fromFloat, if_pos c_1, if_neg c_2, if_pos c_3, if_pos c_4]) d_Conversions_fromFloat_76
        · refine lv_lload hx hb d_Conversions_fromFloat_57 (lv_at hl 0 rfl) ?_
          exact rl_ hx hb hr hk (by rw [q_Conversions_fromFloat, if_pos c_1, if_neg c_2, if_pos c_3, if_neg c_4]) d_Conversions_fromFloat_59
      · refine lv_lload hx hb d_Conversions_fromFloat_41 (lv_at hl 0 rfl) ?_
        refine lv_aload_n hx hb d_Conversions_fromFloat_43 rfl (lv_at hl 3 rfl) ?_
        refine gf_i hq hj2 wt_728 d_Conversions_fromFloat_44 ?_
        refine lv_lor hx hb d_Conversions_fromFloat_47 ?_
        exact rl_ hx hb hr hk (by rw [q_Conversions_fromFloat, if_pos c_1, if_neg c_2, if_neg c_3]) d_Conversions_fromFloat_48
    · rw [lg_cmp_eq] at c_2
      refine lv_lconst (v := (0 : Int64)) hx hb d_Conversions_fromFloat_23 (by decide) ?_
      refine lv_goto (tgt := 31) hx hb d_Conversions_fromFloat_24 (by decide) ?_
      refine lv_lstore (lv' := [(4, .long (0 : Int64)), (0, .ref (ad j0)), (1, .long a1), (3, .ref (ad j2))]) hx hb d_Conversions_fromFloat_31 hl (by decide) rfl (fun ls hl => ?_)
      refine lv_aload_n hx hb d_Conversions_fromFloat_33 rfl (lv_at hl 1 rfl) ?_
      refine lv_lload_n hx hb d_Conversions_fromFloat_34 rfl (lv_at hl 2 rfl) ?_
      refine vi_ (As := [.long a1]) (rest := []) hq hj0 (c_Form_isInfinite l A ad j0 hj0 a1) kB_Form_isInfinite wt_242 ⟨rfl, rfl, Nat.le_of_ble_eq_true rfl, Nat.le_of_ble_eq_true rfl⟩ rfl hl.1 rfl (Nat.le_of_ble_eq_true rfl) d_Conversions_fromFloat_35 ⟨Nat.zero_le _, Nat.zero_le _⟩ ?_
      refine lv_if_eq (tgt := 49) hx hb d_Conversions_fromFloat_38 (by decide) (fun c_5 => ?_) (fun c_5 => ?_)
      · refine lv_aload_n hx hb d_Conversions_fromFloat_49 rfl (lv_at hl 1 rfl) ?_
        refine lv_lload_n hx hb d_Conversions_fromFloat_50 rfl (lv_at hl 2 rfl) ?_
        refine vi_ (As := [.long a1]) (rest := []) hq hj0 (c_Form_isZero l A ad j0 hj0 a1) kB_Form_isZero wt_246 ⟨rfl, rfl, Nat.le_of_ble_eq_true rfl, Nat.le_of_ble_eq_true rfl⟩ rfl hl.1 rfl (Nat.le_of_ble_eq_true rfl) d_Conversions_fromFloat_51 ⟨Nat.zero_le _, Nat.zero_le _⟩ ?_
        refine lv_if_eq (tgt := 60) hx hb d_Conversions_fromFloat_54 (by decide) (fun c_6 => ?_) (fun c_6 => ?_)
        · refine lv_aload_n hx hb d_Conversions_fromFloat_60 rfl (lv_at hl 3 rfl) ?_
          refine lv_lload hx hb d_Conversions_fromFloat_61 (lv_at hl 0 rfl) ?_
          refine lv_aload_n hx hb d_Conversions_fromFloat_63 rfl (lv_at hl 1 rfl) ?_
          refine lv_lload_n hx hb d_Conversions_fromFloat_64 rfl (lv_at hl 2 rfl) ?_
          refine vl_ (As := [.long a1]) (rest := [.long (0 : Int64), .ref (ad j2)]) hq hj0 (c_Form_significand l A ad j0 hj0 a1) kB_Form_significand wt_250 ⟨rfl, rfl, Nat.le_of_ble_eq_true rfl, Nat.le_of_ble_eq_true rfl⟩ rfl hl.1 rfl (Nat.le_of_ble_eq_true rfl) d_Conversions_fromFloat_65 ⟨Nat.zero_le _, Nat.zero_le _⟩ ?_
          refine lv_aload_n hx hb d_Conversions_fromFloat_68 rfl (lv_at hl 1 rfl) ?_
          refine lv_lload_n hx hb d_Conversions_fromFloat_69 rfl (lv_at hl 2 rfl) ?_
          refine vi_ (As := [.long a1]) (rest := [.long (q_Form_significand j0 a1), .long (0 : Int64), .ref (ad j2)]) hq hj0 (c_Form_scale l A ad j0 hj0 a1) kB_Form_scale wt_258 ⟨rfl, rfl, Nat.le_of_ble_eq_true rfl, Nat.le_of_ble_eq_true rfl⟩ rfl hl.1 rfl (Nat.le_of_ble_eq_true rfl) d_Conversions_fromFloat_70 ⟨Nat.zero_le _, Nat.zero_le _⟩ ?_
          refine vl_ (As := [.long (0 : Int64), .long (q_Form_significand j0 a1), .int (q_Form_scale j0 a1)]) (rest := []) hq hj2 (c_Form_rounded l A ad j2 hj2 (0 : Int64) (q_Form_significand j0 a1) (q_Form_scale j0 a1)) kB_Form_rounded wt_201 ⟨rfl, rfl, Nat.le_of_ble_eq_true rfl, Nat.le_of_ble_eq_true rfl⟩ rfl hl.1 rfl (Nat.le_of_ble_eq_true rfl) d_Conversions_fromFloat_73 ⟨Nat.zero_le _, Nat.zero_le _⟩ ?_
          exact rl_ hx hb hr hk (by rw [q_Conversions_fromFloat, if_pos c_1, if_pos c_2, if_pos c_5, if_pos c_6]) d_Conversions_fromFloat_76
        · refine lv_lload hx hb d_Conversions_fromFloat_57 (lv_at hl 0 rfl) ?_
          exact rl_ hx hb hr hk (by rw [q_Conversions_fromFloat, if_pos c_1, if_pos c_2, if_pos c_5, if_neg c_6]) d_Conversions_fromFloat_59
      · refine lv_lload hx hb d_Conversions_fromFloat_41 (lv_at hl 0 rfl) ?_
        refine lv_aload_n hx hb d_Conversions_fromFloat_43 rfl (lv_at hl 3 rfl) ?_
        refine gf_i hq hj2 wt_728 d_Conversions_fromFloat_44 ?_
        refine lv_lor hx hb d_Conversions_fromFloat_47 ?_
        exact rl_ hx hb hr hk (by rw [q_Conversions_fromFloat, if_pos c_1, if_pos c_2, if_neg c_5]) d_Conversions_fromFloat_48
  · refine lv_aload_n hx hb d_Conversions_fromFloat_8 rfl (lv_at hl 2 rfl) ?_
    refine gf_n hq hj2 wt_727 d_Conversions_fromFloat_9 ?_
    exact rl_ hx hb hr hk (by rw [q_Conversions_fromFloat, if_neg c_1]) d_Conversions_fromFloat_12
def q_Conversions_toFloat (a0 : Int32) (a1 : Int64) : Int64 :=
  if a0 = (178 : Int32) then
    (q_Conversions_fromSigned 0 (q_Bits_signed (32 : Int32) a1))
  else
    if a0 = (179 : Int32) then
      (q_Conversions_fromUnsigned 0 (q_Bits_lowest (32 : Int32) a1))
    else
      if a0 = (180 : Int32) then
        (q_Conversions_fromSigned 0 a1)
      else
        if a0 = (181 : Int32) then
          (q_Conversions_fromUnsigned 0 a1)
        else
          if a0 = (182 : Int32) then
            (q_Conversions_fromFloat 1 a1 0)
          else
            if a0 = (183 : Int32) then
              (q_Conversions_fromSigned 1 (q_Bits_signed (32 : Int32) a1))
            else
              if a0 = (184 : Int32) then
                (q_Conversions_fromUnsigned 1 (q_Bits_lowest (32 : Int32) a1))
              else
                if a0 = (185 : Int32) then
                  (q_Conversions_fromSigned 1 a1)
                else
                  if a0 = (186 : Int32) then
                    (q_Conversions_fromUnsigned 1 a1)
                  else
                    (q_Conversions_fromFloat 0 (q_Bits_lowest (32 : Int32) a1) 1)
theorem kB_Conversions_toFloat : SB y_Conversions_toFloat b_Conversions_toFloat 3 (some .long) 2 := ⟨wt_192, wt_191, wt_42, by decide +kernel⟩
set_option maxHeartbeats 4000000 in
set_option maxRecDepth 100000 in
theorem c_Conversions_toFloat (l : Launch) (A : Nat → Prop) (ad : Nat → Nat) (a0 : Int32) (a1 : Int64) : Met l y_Conversions_toFloat (Cond.code y_Conversions_toFloat b_Conversions_toFloat 3 (some .long) :: BT) ({ frames := 5, cells := 0, slots := 0, locals := 122 }) (PC A ad [.int a0, .long a1]) (vp_Sl (fun r => r = q_Conversions_toFloat a0 a1)) 0 0 (fun _ => False) := by
  refine pm_ (by decide +kernel) (Nat.le_of_ble_eq_true rfl) ?_
  intro p e s m below meth c hq hr hk ls hl
  have hx := hq.1
  have hb := hq.2.1
  have hts := hq.2.2.2.2.1
  have hl : lv_has ls 3 [(0, .int a0), (1, .long a1)] := hl
  refine lv_iload_n hx hb d_Conversions_toFloat_0 rfl (lv_at hl 0 rfl) ?_
  by_cases c_1 : a0 = (178 : Int32)
  · refine lv_tableIn (tgt := 52) hx hb d_Conversions_toFloat_1 (by rw [c_1]; decide) (by rw [c_1]; decide) (by rw [c_1]; rfl) (by decide) ?_
    refine gs_0 hq wt_193 d_Conversions_toFloat_52 ?_
    refine lv_bipush (v := (32 : Int32)) hx hb d_Conversions_toFloat_55 (by decide) ?_
    refine lv_lload_n hx hb d_Conversions_toFloat_57 rfl (lv_at hl 1 rfl) ?_
    refine sl_ (As := [.int (32 : Int32), .long a1]) (rest := [.ref (ad 0)]) hq (c_Bits_signed l A ad (32 : Int32) a1) kB_Bits_signed wt_195 ⟨rfl, rfl, Nat.le_of_ble_eq_true rfl, Nat.le_of_ble_eq_true rfl⟩ rfl hl.1 rfl (Nat.le_of_ble_eq_true rfl) d_Conversions_toFloat_58 ⟨Nat.zero_le _, Nat.zero_le _⟩ ?_
    refine sl_ (As := [.ref (ad 0), .long (q_Bits_signed (32 : Int32) a1)]) (rest := []) hq (c_Conversions_fromSigned l A ad 0 (by decide) (q_Bits_signed (32 : Int32) a1)) kB_Conversions_fromSigned wt_198 ⟨rfl, rfl, Nat.le_of_ble_eq_true rfl, Nat.le_of_ble_eq_true rfl⟩ rfl hl.1 rfl (Nat.le_of_ble_eq_true rfl) d_Conversions_toFloat_61 ⟨Nat.zero_le _, Nat.zero_le _⟩ ?_
    exact rl_ hx hb hr hk (by rw [q_Conversions_toFloat, if_pos c_1]) d_Conversions_toFloat_64
  by_cases c_2 : a0 = (179 : Int32)
  · refine lv_tableIn (tgt := 65) hx hb d_Conversions_toFloat_1 (by rw [c_2]; decide) (by rw [c_2]; decide) (by rw [c_2]; rfl) (by decide) ?_
    refine gs_0 hq wt_193 d_Conversions_toFloat_65 ?_
    refine lv_bipush (v := (32 : Int32)) hx hb d_Conversions_toFloat_68 (by decide) ?_
    refine lv_lload_n hx hb d_Conversions_toFloat_70 rfl (lv_at hl 1 rfl) ?_
    refine sl_ (As := [.int (32 : Int32), .long a1]) (rest := [.ref (ad 0)]) hq (c_Bits_lowest l A ad (32 : Int32) a1) kB_Bits_lowest wt_221 ⟨rfl, rfl, Nat.le_of_ble_eq_true rfl, Nat.le_of_ble_eq_true rfl⟩ rfl hl.1 rfl (Nat.le_of_ble_eq_true rfl) d_Conversions_toFloat_71 ⟨Nat.zero_le _, Nat.zero_le _⟩ ?_
    refine sl_ (As := [.ref (ad 0), .long (q_Bits_lowest (32 : Int32) a1)]) (rest := []) hq (c_Conversions_fromUnsigned l A ad 0 (by decide) (q_Bits_lowest (32 : Int32) a1)) kB_Conversions_fromUnsigned wt_218 ⟨rfl, rfl, Nat.le_of_ble_eq_true rfl, Nat.le_of_ble_eq_true rfl⟩ rfl hl.1 rfl (Nat.le_of_ble_eq_true rfl) d_Conversions_toFloat_74 ⟨Nat.zero_le _, Nat.zero_le _⟩ ?_
    exact rl_ hx hb hr hk (by rw [q_Conversions_toFloat, if_neg c_1, if_pos c_2]) d_Conversions_toFloat_77
  by_cases c_3 : a0 = (180 : Int32)
  · refine lv_tableIn (tgt := 78) hx hb d_Conversions_toFloat_1 (by rw [c_3]; decide) (by rw [c_3]; decide) (by rw [c_3]; rfl) (by decide) ?_
    refine gs_0 hq wt_193 d_Conversions_toFloat_78 ?_
    refine lv_lload_n hx hb d_Conversions_toFloat_81 rfl (lv_at hl 1 rfl) ?_
    refine sl_ (As := [.ref (ad 0), .long a1]) (rest := []) hq (c_Conversions_fromSigned l A ad 0 (by decide) a1) kB_Conversions_fromSigned wt_198 ⟨rfl, rfl, Nat.le_of_ble_eq_true rfl, Nat.le_of_ble_eq_true rfl⟩ rfl hl.1 rfl (Nat.le_of_ble_eq_true rfl) d_Conversions_toFloat_82 ⟨Nat.zero_le _, Nat.zero_le _⟩ ?_
    exact rl_ hx hb hr hk (by rw [q_Conversions_toFloat, if_neg c_1, if_neg c_2, if_pos c_3]) d_Conversions_toFloat_85
  by_cases c_4 : a0 = (181 : Int32)
  · refine lv_tableIn (tgt := 86) hx hb d_Conversions_toFloat_1 (by rw [c_4]; decide) (by rw [c_4]; decide) (by rw [c_4]; rfl) (by decide) ?_
    refine gs_0 hq wt_193 d_Conversions_toFloat_86 ?_
    refine lv_lload_n hx hb d_Conversions_toFloat_89 rfl (lv_at hl 1 rfl) ?_
    refine sl_ (As := [.ref (ad 0), .long a1]) (rest := []) hq (c_Conversions_fromUnsigned l A ad 0 (by decide) a1) kB_Conversions_fromUnsigned wt_218 ⟨rfl, rfl, Nat.le_of_ble_eq_true rfl, Nat.le_of_ble_eq_true rfl⟩ rfl hl.1 rfl (Nat.le_of_ble_eq_true rfl) d_Conversions_toFloat_90 ⟨Nat.zero_le _, Nat.zero_le _⟩ ?_
    exact rl_ hx hb hr hk (by rw [q_Conversions_toFloat, if_neg c_1, if_neg c_2, if_neg c_3, if_pos c_4]) d_Conversions_toFloat_93
  by_cases c_5 : a0 = (182 : Int32)
  · refine lv_tableIn (tgt := 94) hx hb d_Conversions_toFloat_1 (by rw [c_5]; decide) (by rw [c_5]; decide) (by rw [c_5]; rfl) (by decide) ?_
    refine gs_1 hq wt_225 d_Conversions_toFloat_94 ?_
    refine lv_lload_n hx hb d_Conversions_toFloat_97 rfl (lv_at hl 1 rfl) ?_
    refine gs_0 hq wt_193 d_Conversions_toFloat_98 ?_
    refine sl_ (As := [.ref (ad 1), .long a1, .ref (ad 0)]) (rest := []) hq (c_Conversions_fromFloat l A ad 1 (by decide) a1 0 (by decide)) kB_Conversions_fromFloat wt_227 ⟨rfl, rfl, Nat.le_of_ble_eq_true rfl, Nat.le_of_ble_eq_true rfl⟩ rfl hl.1 rfl (Nat.le_of_ble_eq_true rfl) d_Conversions_toFloat_101 ⟨Nat.zero_le _, Nat.zero_le _⟩ ?_
    exact rl_ hx hb hr hk (by rw [q_Conversions_toFloat, if_neg c_1, if_neg c_2, if_neg c_3, if_neg c_4, if_pos c_5]) d_Conversions_toFloat_104
  by_cases c_6 : a0 = (183 : Int32)
  · refine lv_tableIn (tgt := 105) hx hb d_Conversions_toFloat_1 (by rw [c_6]; decide) (by rw [c_6]; decide) (by rw [c_6]; rfl) (by decide) ?_
    refine gs_1 hq wt_225 d_Conversions_toFloat_105 ?_
    refine lv_bipush (v := (32 : Int32)) hx hb d_Conversions_toFloat_108 (by decide) ?_
    refine lv_lload_n hx hb d_Conversions_toFloat_110 rfl (lv_at hl 1 rfl) ?_
    refine sl_ (As := [.int (32 : Int32), .long a1]) (rest := [.ref (ad 1)]) hq (c_Bits_signed l A ad (32 : Int32) a1) kB_Bits_signed wt_195 ⟨rfl, rfl, Nat.le_of_ble_eq_true rfl, Nat.le_of_ble_eq_true rfl⟩ rfl hl.1 rfl (Nat.le_of_ble_eq_true rfl) d_Conversions_toFloat_111 ⟨Nat.zero_le _, Nat.zero_le _⟩ ?_
    refine sl_ (As := [.ref (ad 1), .long (q_Bits_signed (32 : Int32) a1)]) (rest := []) hq (c_Conversions_fromSigned l A ad 1 (by decide) (q_Bits_signed (32 : Int32) a1)) kB_Conversions_fromSigned wt_198 ⟨rfl, rfl, Nat.le_of_ble_eq_true rfl, Nat.le_of_ble_eq_true rfl⟩ rfl hl.1 rfl (Nat.le_of_ble_eq_true rfl) d_Conversions_toFloat_114 ⟨Nat.zero_le _, Nat.zero_le _⟩ ?_
    exact rl_ hx hb hr hk (by rw [q_Conversions_toFloat, if_neg c_1, if_neg c_2, if_neg c_3, if_neg c_4, if_neg c_5, if_pos c_6]) d_Conversions_toFloat_117
  by_cases c_7 : a0 = (184 : Int32)
  · refine lv_tableIn (tgt := 118) hx hb d_Conversions_toFloat_1 (by rw [c_7]; decide) (by rw [c_7]; decide) (by rw [c_7]; rfl) (by decide) ?_
    refine gs_1 hq wt_225 d_Conversions_toFloat_118 ?_
    refine lv_bipush (v := (32 : Int32)) hx hb d_Conversions_toFloat_121 (by decide) ?_
    refine lv_lload_n hx hb d_Conversions_toFloat_123 rfl (lv_at hl 1 rfl) ?_
    refine sl_ (As := [.int (32 : Int32), .long a1]) (rest := [.ref (ad 1)]) hq (c_Bits_lowest l A ad (32 : Int32) a1) kB_Bits_lowest wt_221 ⟨rfl, rfl, Nat.le_of_ble_eq_true rfl, Nat.le_of_ble_eq_true rfl⟩ rfl hl.1 rfl (Nat.le_of_ble_eq_true rfl) d_Conversions_toFloat_124 ⟨Nat.zero_le _, Nat.zero_le _⟩ ?_
    refine sl_ (As := [.ref (ad 1), .long (q_Bits_lowest (32 : Int32) a1)]) (rest := []) hq (c_Conversions_fromUnsigned l A ad 1 (by decide) (q_Bits_lowest (32 : Int32) a1)) kB_Conversions_fromUnsigned wt_218 ⟨rfl, rfl, Nat.le_of_ble_eq_true rfl, Nat.le_of_ble_eq_true rfl⟩ rfl hl.1 rfl (Nat.le_of_ble_eq_true rfl) d_Conversions_toFloat_127 ⟨Nat.zero_le _, Nat.zero_le _⟩ ?_
    exact rl_ hx hb hr hk (by rw [q_Conversions_toFloat, if_neg c_1, if_neg c_2, if_neg c_3, if_neg c_4, if_neg c_5, if_neg c_6, if_pos c_7]) d_Conversions_toFloat_130
  by_cases c_8 : a0 = (185 : Int32)
  · refine lv_tableIn (tgt := 131) hx hb d_Conversions_toFloat_1 (by rw [c_8]; decide) (by rw [c_8]; decide) (by rw [c_8]; rfl) (by decide) ?_
    refine gs_1 hq wt_225 d_Conversions_toFloat_131 ?_
    refine lv_lload_n hx hb d_Conversions_toFloat_134 rfl (lv_at hl 1 rfl) ?_
    refine sl_ (As := [.ref (ad 1), .long a1]) (rest := []) hq (c_Conversions_fromSigned l A ad 1 (by decide) a1) kB_Conversions_fromSigned wt_198 ⟨rfl, rfl, Nat.le_of_ble_eq_true rfl, Nat.le_of_ble_eq_true rfl⟩ rfl hl.1 rfl (Nat.le_of_ble_eq_true rfl) d_Conversions_toFloat_135 ⟨Nat.zero_le _, Nat.zero_le _⟩ ?_
    exact rl_ hx hb hr hk (by rw [q_Conversions_toFloat, if_neg c_1, if_neg c_2, if_neg c_3, if_neg c_4, if_neg c_5, if_neg c_6, if_neg c_7, if_pos c_8]) d_Conversions_toFloat_138
  by_cases c_9 : a0 = (186 : Int32)
  · refine lv_tableIn (tgt := 139) hx hb d_Conversions_toFloat_1 (by rw [c_9]; decide) (by rw [c_9]; decide) (by rw [c_9]; rfl) (by decide) ?_
    refine gs_1 hq wt_225 d_Conversions_toFloat_139 ?_
    refine lv_lload_n hx hb d_Conversions_toFloat_142 rfl (lv_at hl 1 rfl) ?_
    refine sl_ (As := [.ref (ad 1), .long a1]) (rest := []) hq (c_Conversions_fromUnsigned l A ad 1 (by decide) a1) kB_Conversions_fromUnsigned wt_218 ⟨rfl, rfl, Nat.le_of_ble_eq_true rfl, Nat.le_of_ble_eq_true rfl⟩ rfl hl.1 rfl (Nat.le_of_ble_eq_true rfl) d_Conversions_toFloat_143 ⟨Nat.zero_le _, Nat.zero_le _⟩ ?_
    exact rl_ hx hb hr hk (by rw [q_Conversions_toFloat, if_neg c_1, if_neg c_2, if_neg c_3, if_neg c_4, if_neg c_5, if_neg c_6, if_neg c_7, if_neg c_8, if_pos c_9]) d_Conversions_toFloat_146
  have hsw : a0.toInt < 178 ∨ 186 < a0.toInt := by
    have := lv_neT c_1 (a := 178) (by decide)
    have := lv_neT c_2 (a := 179) (by decide)
    have := lv_neT c_3 (a := 180) (by decide)
    have := lv_neT c_4 (a := 181) (by decide)
    have := lv_neT c_5 (a := 182) (by decide)
    have := lv_neT c_6 (a := 183) (by decide)
    have := lv_neT c_7 (a := 184) (by decide)
    have := lv_neT c_8 (a := 185) (by decide)
    have := lv_neT c_9 (a := 186) (by decide)
    omega
  refine lv_tableOut (tgt := 147) hx hb d_Conversions_toFloat_1 hsw (by decide) ?_
  refine gs_0 hq wt_193 d_Conversions_toFloat_147 ?_
  refine lv_bipush (v := (32 : Int32)) hx hb d_Conversions_toFloat_150 (by decide) ?_
  refine lv_lload_n hx hb d_Conversions_toFloat_152 rfl (lv_at hl 1 rfl) ?_
  refine sl_ (As := [.int (32 : Int32), .long a1]) (rest := [.ref (ad 0)]) hq (c_Bits_lowest l A ad (32 : Int32) a1) kB_Bits_lowest wt_221 ⟨rfl, rfl, Nat.le_of_ble_eq_true rfl, Nat.le_of_ble_eq_true rfl⟩ rfl hl.1 rfl (Nat.le_of_ble_eq_true rfl) d_Conversions_toFloat_153 ⟨Nat.zero_le _, Nat.zero_le _⟩ ?_
  refine gs_1 hq wt_225 d_Conversions_toFloat_156 ?_
  refine sl_ (As := [.ref (ad 0), .long (q_Bits_lowest (32 : Int32) a1), .ref (ad 1)]) (rest := []) hq (c_Conversions_fromFloat l A ad 0 (by decide) (q_Bits_lowest (32 : Int32) a1) 1 (by decide)) kB_Conversions_fromFloat wt_227 ⟨rfl, rfl, Nat.le_of_ble_eq_true rfl, Nat.le_of_ble_eq_true rfl⟩ rfl hl.1 rfl (Nat.le_of_ble_eq_true rfl) d_Conversions_toFloat_159 ⟨Nat.zero_le _, Nat.zero_le _⟩ ?_
  exact rl_ hx hb hr hk (by rw [q_Conversions_toFloat, if_neg c_1, if_neg c_2, if_neg c_3, if_neg c_4, if_neg c_5, if_neg c_6, if_neg c_7, if_neg c_8, if_neg c_9]) d_Conversions_toFloat_162
def q_Conversions_cutAmount (j0 : Nat) (a1 : Int64) : Int64 :=
  if (-64 : Int32) < (q_Form_scale j0 a1) then
    if (q_Form_scale j0 a1) < 0 then
      (ush_ (q_Form_significand j0 a1) (-(q_Form_scale j0 a1)))
    else
      (shl_ (q_Form_significand j0 a1) (q_Form_scale j0 a1))
  else
    (0 : Int64)
theorem kB_Conversions_cutAmount : SB y_Conversions_cutAmount b_Conversions_cutAmount 6 (some .long) 2 := ⟨wt_287, wt_286, wt_42, by decide +kernel⟩
set_option maxHeartbeats 4000000 in
set_option maxRecDepth 100000 in
theorem c_Conversions_cutAmount (l : Launch) (A : Nat → Prop) (ad : Nat → Nat) (j0 : Nat) (hj0 : j0 < 2) (a1 : Int64) : Met l y_Conversions_cutAmount (Cond.code y_Conversions_cutAmount b_Conversions_cutAmount 6 (some .long) :: BT) ({ frames := 2, cells := 0, slots := 0, locals := 48 }) (PC A ad [.ref (ad j0), .long a1]) (vp_Sl (fun r => r = q_Conversions_cutAmount j0 a1)) 0 0 (fun _ => False) := by
  refine pm_ (by decide +kernel) (Nat.le_of_ble_eq_true rfl) ?_
  intro p e s m below meth c hq hr hk ls hl
  have hx := hq.1
  have hb := hq.2.1
  have hts := hq.2.2.2.2.1
  have hl : lv_has ls 6 [(0, .ref (ad j0)), (1, .long a1)] := hl
  refine lv_aload_n hx hb d_Conversions_cutAmount_0 rfl (lv_at hl 0 rfl) ?_
  refine lv_lload_n hx hb d_Conversions_cutAmount_1 rfl (lv_at hl 1 rfl) ?_
  refine vi_ (As := [.long a1]) (rest := []) hq hj0 (c_Form_scale l A ad j0 hj0 a1) kB_Form_scale wt_258 ⟨rfl, rfl, Nat.le_of_ble_eq_true rfl, Nat.le_of_ble_eq_true rfl⟩ rfl hl.1 rfl (Nat.le_of_ble_eq_true rfl) d_Conversions_cutAmount_2 ⟨Nat.zero_le _, Nat.zero_le _⟩ ?_
  refine lv_istore_n (lv' := [(3, .int (q_Form_scale j0 a1)), (0, .ref (ad j0)), (1, .long a1)]) hx hb d_Conversions_cutAmount_5 rfl hl (by decide) rfl (fun ls hl => ?_)
  refine lv_iload_n hx hb d_Conversions_cutAmount_6 rfl (lv_at hl 0 rfl) ?_
  refine lv_bipush (v := (-64 : Int32)) hx hb d_Conversions_cutAmount_7 (by decide) ?_
  refine lv_icmp_gt (tgt := 14) hx hb d_Conversions_cutAmount_9 (by decide) (fun c_1 => ?_) (fun c_1 => ?_)
  · refine lv_aload_n hx hb d_Conversions_cutAmount_14 rfl (lv_at hl 1 rfl) ?_
    refine lv_lload_n hx hb d_Conversions_cutAmount_15 rfl (lv_at hl 2 rfl) ?_
    refine vl_ (As := [.long a1]) (rest := []) hq hj0 (c_Form_significand l A ad j0 hj0 a1) kB_Form_significand wt_250 ⟨rfl, rfl, Nat.le_of_ble_eq_true rfl, Nat.le_of_ble_eq_true rfl⟩ rfl hl.1 rfl (Nat.le_of_ble_eq_true rfl) d_Conversions_cutAmount_16 ⟨Nat.zero_le _, Nat.zero_le _⟩ ?_
    refine lv_lstore (lv' := [(4, .long (q_Form_significand j0 a1)), (3, .int (q_Form_scale j0 a1)), (0, .ref (ad j0)), (1, .long a1)]) hx hb d_Conversions_cutAmount_19 hl (by decide) rfl (fun ls hl => ?_)
    refine lv_iload_n hx hb d_Conversions_cutAmount_21 rfl (lv_at hl 1 rfl) ?_
    refine lv_if_lt (tgt := 32) hx hb d_Conversions_cutAmount_22 (by decide) (fun c_2 => ?_) (fun c_2 => ?_)
    · refine lv_lload hx hb d_Conversions_cutAmount_32 (lv_at hl 0 rfl) ?_
      refine lv_iload_n hx hb d_Conversions_cutAmount_34 rfl (lv_at hl 1 rfl) ?_
      refine lv_ineg hx hb d_Conversions_cutAmount_35 ?_
      refine lv_lushr (v := (ush_ (q_Form_significand j0 a1) (-(q_Form_scale j0 a1)))) hx hb d_Conversions_cutAmount_36 rfl ?_
      exact rl_ hx hb hr hk (by rw [q_Conversions_cutAmount, if_pos c_1, if_pos c_2]) d_Conversions_cutAmount_37
    · refine lv_lload hx hb d_Conversions_cutAmount_25 (lv_at hl 0 rfl) ?_
      refine lv_iload_n hx hb d_Conversions_cutAmount_27 rfl (lv_at hl 1 rfl) ?_
      refine lv_lshl (v := (shl_ (q_Form_significand j0 a1) (q_Form_scale j0 a1))) hx hb d_Conversions_cutAmount_28 rfl ?_
      refine lv_goto (tgt := 37) hx hb d_Conversions_cutAmount_29 (by decide) ?_
      exact rl_ hx hb hr hk (by rw [q_Conversions_cutAmount, if_pos c_1, if_neg c_2]) d_Conversions_cutAmount_37
  · refine lv_lconst (v := (0 : Int64)) hx hb d_Conversions_cutAmount_12 (by decide) ?_
    exact rl_ hx hb hr hk (by rw [q_Conversions_cutAmount, if_neg c_1]) d_Conversions_cutAmount_13
def q_Conversions_greatest (a0 : Int32) (a1 : Int32) (a2 : Int32) : Int64 :=
  if a2 = 0 then
    if a0 = 0 then
      (q_Bits_lowest a1 (-1 : Int64))
    else
      (0 : Int64)
  else
    if a0 = 0 then
      ((shl_ (1 : Int64) (a1 - (1 : Int32))) - (1 : Int64))
    else
      (shl_ (1 : Int64) (a1 - (1 : Int32)))
theorem kB_Conversions_greatest : SB y_Conversions_greatest b_Conversions_greatest 5 (some .long) 3 := ⟨wt_290, wt_289, wt_42, by decide +kernel⟩
set_option maxHeartbeats 4000000 in
set_option maxRecDepth 100000 in
theorem c_Conversions_greatest (l : Launch) (A : Nat → Prop) (ad : Nat → Nat) (a0 : Int32) (a1 : Int32) (a2 : Int32) : Met l y_Conversions_greatest (Cond.code y_Conversions_greatest b_Conversions_greatest 5 (some .long) :: BT) ({ frames := 1, cells := 0, slots := 0, locals := 22 }) (PC A ad [.int a0, .int a1, .int a2]) (vp_Sl (fun r => r = q_Conversions_greatest a0 a1 a2)) 0 0 (fun _ => False) := by
  refine pm_ (by decide +kernel) (Nat.le_of_ble_eq_true rfl) ?_
  intro p e s m below meth c hq hr hk ls hl
  have hx := hq.1
  have hb := hq.2.1
  have hts := hq.2.2.2.2.1
  have hl : lv_has ls 5 [(0, .int a0), (1, .int a1), (2, .int a2)] := hl
  refine lv_lconst (v := (1 : Int64)) hx hb d_Conversions_greatest_0 (by decide) ?_
  refine lv_iload_n hx hb d_Conversions_greatest_1 rfl (lv_at hl 1 rfl) ?_
  refine lv_iconst (v := (1 : Int32)) hx hb d_Conversions_greatest_2 (by decide) ?_
  refine lv_isub hx hb d_Conversions_greatest_3 ?_
  refine lv_lshl (v := (shl_ (1 : Int64) (a1 - (1 : Int32)))) hx hb d_Conversions_greatest_4 rfl ?_
  refine lv_lstore_n (lv' := [(3, .long (shl_ (1 : Int64) (a1 - (1 : Int32)))), (0, .int a0), (1, .int a1), (2, .int a2)]) hx hb d_Conversions_greatest_5 rfl hl (by decide) rfl (fun ls hl => ?_)
  refine lv_iload_n hx hb d_Conversions_greatest_6 rfl (lv_at hl 3 rfl) ?_
  refine lv_if_eq (tgt := 22) hx hb d_Conversions_greatest_7 (by decide) (fun c_1 => ?_) (fun c_1 => ?_)
  · refine lv_iload_n hx hb d_Conversions_greatest_22 rfl (lv_at hl 1 rfl) ?_
    refine lv_if_eq (tgt := 30) hx hb d_Conversions_greatest_23 (by decide) (fun c_2 => ?_) (fun c_2 => ?_)
    · refine lv_iload_n hx hb d_Conversions_greatest_30 rfl (lv_at hl 2 rfl) ?_
      refine lv_ldc2 (v := (-1 : Int64)) hx hb hq.2.2.2.1 (hts _ wt_291) d_Conversions_greatest_31 ?_
      refine sl_ (As := [.int a1, .long (-1 : Int64)]) (rest := []) hq (c_Bits_lowest l A ad a1 (-1 : Int64)) kB_Bits_lowest wt_221 ⟨rfl, rfl, Nat.le_of_ble_eq_true rfl, Nat.le_of_ble_eq_true rfl⟩ rfl hl.1 rfl (Nat.le_of_ble_eq_true rfl) d_Conversions_greatest_34 ⟨Nat.zero_le _, Nat.zero_le _⟩ ?_
      exact rl_ hx hb hr hk (by rw [q_Conversions_greatest, if_pos c_1, if_pos c_2]) d_Conversions_greatest_37
    · refine lv_lconst (v := (0 : Int64)) hx hb d_Conversions_greatest_26 (by decide) ?_
      refine lv_goto (tgt := 37) hx hb d_Conversions_greatest_27 (by decide) ?_
      exact rl_ hx hb hr hk (by rw [q_Conversions_greatest, if_pos c_1, if_neg c_2]) d_Conversions_greatest_37
  · refine lv_iload_n hx hb d_Conversions_greatest_10 rfl (lv_at hl 1 rfl) ?_
    refine lv_if_eq (tgt := 18) hx hb d_Conversions_greatest_11 (by decide) (fun c_3 => ?_) (fun c_3 => ?_)
    · refine lv_lload_n hx hb d_Conversions_greatest_18 rfl (lv_at hl 0 rfl) ?_
      refine lv_lconst (v := (1 : Int64)) hx hb d_Conversions_greatest_19 (by decide) ?_
      refine lv_lsub hx hb d_Conversions_greatest_20 ?_
      exact rl_ hx hb hr hk (by rw [q_Conversions_greatest, if_neg c_1, if_pos c_3]) d_Conversions_greatest_21
    · refine lv_lload_n hx hb d_Conversions_greatest_14 rfl (lv_at hl 0 rfl) ?_
      refine lv_goto (tgt := 21) hx hb d_Conversions_greatest_15 (by decide) ?_
      exact rl_ hx hb hr hk (by rw [q_Conversions_greatest, if_neg c_1, if_neg c_3]) d_Conversions_greatest_21
