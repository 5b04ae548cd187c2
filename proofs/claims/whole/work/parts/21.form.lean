def q_Form_sign (i : Nat) (a0 : Int64) : Int64 :=
  (a0 &&& (fm_s i))
theorem kB_Form_sign : VB y_Form_sign b_Form_sign 3 (some .long) 1 := ⟨wt_241, wt_239, wt_240, wt_44, by decide +kernel⟩
set_option maxHeartbeats 4000000 in
set_option maxRecDepth 100000 in
theorem c_Form_sign (l : Launch) (A : Nat → Prop) (ad : Nat → Nat) (i : Nat) (hi : i < 2) (a0 : Int64) : Met l y_Form_sign (Cond.code y_Form_sign b_Form_sign 3 (some .long) :: BT) ({ frames := 0, cells := 0, slots := 0, locals := 0 }) (PC A ad [.ref (ad i), .long a0]) (vp_Sl (fun r => r = q_Form_sign i a0)) 0 0 (fun _ => False) := by
  refine pm_ (by decide +kernel) (Nat.le_of_ble_eq_true rfl) ?_
  intro p e s m below meth c hq hr hk ls hl
  have hx := hq.1
  have hb := hq.2.1
  have hts := hq.2.2.2.2.1
  have hl : lv_has ls 3 [(0, .ref (ad i)), (1, .long a0)] := hl
  refine lv_lload_n hx hb d_Form_sign_0 rfl (lv_at hl 1 rfl) ?_
  refine lv_aload_n hx hb d_Form_sign_1 rfl (lv_at hl 0 rfl) ?_
  refine gf_s hq hi wt_726 d_Form_sign_2 ?_
  refine lv_land hx hb d_Form_sign_5 ?_
  exact rl_ hx hb hr hk (by rw [q_Form_sign]) d_Form_sign_6
def q_Form_withoutSign (i : Nat) (a0 : Int64) : Int64 :=
  (a0 &&& ((fm_s i) - (1 : Int64)))
theorem kB_Form_withoutSign : VB y_Form_withoutSign b_Form_withoutSign 3 (some .long) 1 := ⟨wt_237, wt_235, wt_236, wt_44, by decide +kernel⟩
set_option maxHeartbeats 4000000 in
set_option maxRecDepth 100000 in
theorem c_Form_withoutSign (l : Launch) (A : Nat → Prop) (ad : Nat → Nat) (i : Nat) (hi : i < 2) (a0 : Int64) : Met l y_Form_withoutSign (Cond.code y_Form_withoutSign b_Form_withoutSign 3 (some .long) :: BT) ({ frames := 0, cells := 0, slots := 0, locals := 0 }) (PC A ad [.ref (ad i), .long a0]) (vp_Sl (fun r => r = q_Form_withoutSign i a0)) 0 0 (fun _ => False) := by
  refine pm_ (by decide +kernel) (Nat.le_of_ble_eq_true rfl) ?_
  intro p e s m below meth c hq hr hk ls hl
  have hx := hq.1
  have hb := hq.2.1
  have hts := hq.2.2.2.2.1
  have hl : lv_has ls 3 [(0, .ref (ad i)), (1, .long a0)] := hl
  refine lv_lload_n hx hb d_Form_withoutSign_0 rfl (lv_at hl 1 rfl) ?_
  refine lv_aload_n hx hb d_Form_withoutSign_1 rfl (lv_at hl 0 rfl) ?_
  refine gf_s hq hi wt_726 d_Form_withoutSign_2 ?_
  refine lv_lconst (v := (1 : Int64)) hx hb d_Form_withoutSign_5 (by decide) ?_
  refine lv_lsub hx hb d_Form_withoutSign_6 ?_
  refine lv_land hx hb d_Form_withoutSign_7 ?_
  exact rl_ hx hb hr hk (by rw [q_Form_withoutSign]) d_Form_withoutSign_8
def q_Form_isNoNumber (i : Nat) (a0 : Int64) : Int32 :=
  if (q_Form_withoutSign i a0) ≤ (fm_i i) then
    (0 : Int32)
  else
    (1 : Int32)
theorem kB_Form_isNoNumber : VB y_Form_isNoNumber b_Form_isNoNumber 3 (some .boolean) 1 := ⟨wt_233, wt_231, wt_232, wt_44, by decide +kernel⟩
set_option maxHeartbeats 4000000 in
set_option maxRecDepth 100000 in
theorem c_Form_isNoNumber (l : Launch) (A : Nat → Prop) (ad : Nat → Nat) (i : Nat) (hi : i < 2) (a0 : Int64) : Met l y_Form_isNoNumber (Cond.code y_Form_isNoNumber b_Form_isNoNumber 3 (some .boolean) :: BT) ({ frames := 1, cells := 0, slots := 0, locals := 22 }) (PC A ad [.ref (ad i), .long a0]) (vp_Si (fun r => r = q_Form_isNoNumber i a0)) 0 0 (fun _ => False) := by
  refine pm_ (by decide +kernel) (Nat.le_of_ble_eq_true rfl) ?_
  intro p e s m below meth c hq hr hk ls hl
  have hx := hq.1
  have hb := hq.2.1
  have hts := hq.2.2.2.2.1
  have hl : lv_has ls 3 [(0, .ref (ad i)), (1, .long a0)] := hl
  refine lv_aload_n hx hb d_Form_isNoNumber_0 rfl (lv_at hl 0 rfl) ?_
  refine lv_lload_n hx hb d_Form_isNoNumber_1 rfl (lv_at hl 1 rfl) ?_
  refine vl_ (As := [.long a0]) (rest := []) hq hi (c_Form_withoutSign l A ad i hi a0) kB_Form_withoutSign wt_234 ⟨rfl, rfl, Nat.le_of_ble_eq_true rfl, Nat.le_of_ble_eq_true rfl⟩ rfl hl.1 rfl (Nat.le_of_ble_eq_true rfl) d_Form_isNoNumber_2 ⟨Nat.zero_le _, Nat.zero_le _⟩ ?_
  refine lv_aload_n hx hb d_Form_isNoNumber_5 rfl (lv_at hl 0 rfl) ?_
  refine gf_i hq hi wt_724 d_Form_isNoNumber_6 ?_
  refine W.lcmp hx hb d_Form_isNoNumber_9 ?_
  refine lv_if_le (tgt := 17) hx hb d_Form_isNoNumber_10 (by decide) (fun c_1 => ?_) (fun c_1 => ?_)
  · rw [lg_cmp_le] at c_1
    refine lv_iconst (v := (0 : Int32)) hx hb d_Form_isNoNumber_17 (by decide) ?_
    exact rz_ hx hb hr hk (by decide) (by rw [q_Form_isNoNumber, if_pos c_1]) d_Form_isNoNumber_18
  · rw [lg_cmp_le] at c_1
    refine lv_iconst (v := (1 : Int32)) hx hb d_Form_isNoNumber_13 (by decide) ?_
    refine lv_goto (tgt := 18) hx hb d_Form_isNoNumber_14 (by decide) ?_
    exact rz_ hx hb hr hk (by decide) (by rw [q_Form_isNoNumber, if_neg c_1]) d_Form_isNoNumber_18
def q_Form_isInfinite (i : Nat) (a0 : Int64) : Int32 :=
  if (q_Form_withoutSign i a0) = (fm_i i) then
    (1 : Int32)
  else
    (0 : Int32)
theorem kB_Form_isInfinite : VB y_Form_isInfinite b_Form_isInfinite 3 (some .boolean) 1 := ⟨wt_245, wt_243, wt_244, wt_44, by decide +kernel⟩
set_option maxHeartbeats 4000000 in
set_option maxRecDepth 100000 in
theorem c_Form_isInfinite (l : Launch) (A : Nat → Prop) (ad : Nat → Nat) (i : Nat) (hi : i < 2) (a0 : Int64) : Met l y_Form_isInfinite (Cond.code y_Form_isInfinite b_Form_isInfinite 3 (some .boolean) :: BT) ({ frames := 1, cells := 0, slots := 0, locals := 22 }) (PC A ad [.ref (ad i), .long a0]) (vp_Si (fun r => r = q_Form_isInfinite i a0)) 0 0 (fun _ => False) := by
  refine pm_ (by decide +kernel) (Nat.le_of_ble_eq_true rfl) ?_
  intro p e s m below meth c hq hr hk ls hl
  have hx := hq.1
  have hb := hq.2.1
  have hts := hq.2.2.2.2.1
  have hl : lv_has ls 3 [(0, .ref (ad i)), (1, .long a0)] := hl
  refine lv_aload_n hx hb d_Form_isInfinite_0 rfl (lv_at hl 0 rfl) ?_
  refine lv_lload_n hx hb d_Form_isInfinite_1 rfl (lv_at hl 1 rfl) ?_
  refine vl_ (As := [.long a0]) (rest := []) hq hi (c_Form_withoutSign l A ad i hi a0) kB_Form_withoutSign wt_234 ⟨rfl, rfl, Nat.le_of_ble_eq_true rfl, Nat.le_of_ble_eq_true rfl⟩ rfl hl.1 rfl (Nat.le_of_ble_eq_true rfl) d_Form_isInfinite_2 ⟨Nat.zero_le _, Nat.zero_le _⟩ ?_
  refine lv_aload_n hx hb d_Form_isInfinite_5 rfl (lv_at hl 0 rfl) ?_
  refine gf_i hq hi wt_724 d_Form_isInfinite_6 ?_
  refine W.lcmp hx hb d_Form_isInfinite_9 ?_
  refine lv_if_ne (tgt := 17) hx hb d_Form_isInfinite_10 (by decide) (fun c_1 => ?_) (fun c_1 => ?_)
  · rw [lg_cmp_eq] at c_1
    refine lv_iconst (v := (0 : Int32)) hx hb d_Form_isInfinite_17 (by decide) ?_
    exact rz_ hx hb hr hk (by decide) (by rw [q_Form_isInfinite, if_neg c_1]) d_Form_isInfinite_18
  · rw [lg_cmp_eq] at c_1
    refine lv_iconst (v := (1 : Int32)) hx hb d_Form_isInfinite_13 (by decide) ?_
    refine lv_goto (tgt := 18) hx hb d_Form_isInfinite_14 (by decide) ?_
    exact rz_ hx hb hr hk (by decide) (by rw [q_Form_isInfinite, if_pos c_1]) d_Form_isInfinite_18
def q_Form_isZero (i : Nat) (a0 : Int64) : Int32 :=
  if (q_Form_withoutSign i a0) = (0 : Int64) then
    (1 : Int32)
  else
    (0 : Int32)
theorem kB_Form_isZero : VB y_Form_isZero b_Form_isZero 3 (some .boolean) 1 := ⟨wt_249, wt_247, wt_248, wt_44, by decide +kernel⟩
set_option maxHeartbeats 4000000 in
set_option maxRecDepth 100000 in
theorem c_Form_isZero (l : Launch) (A : Nat → Prop) (ad : Nat → Nat) (i : Nat) (hi : i < 2) (a0 : Int64) : Met l y_Form_isZero (Cond.code y_Form_isZero b_Form_isZero 3 (some .boolean) :: BT) ({ frames := 1, cells := 0, slots := 0, locals := 22 }) (PC A ad [.ref (ad i), .long a0]) (vp_Si (fun r => r = q_Form_isZero i a0)) 0 0 (fun _ => False) := by
  refine pm_ (by decide +kernel) (Nat.le_of_ble_eq_true rfl) ?_
  intro p e s m below meth c hq hr hk ls hl
  have hx := hq.1
  have hb := hq.2.1
  have hts := hq.2.2.2.2.1
  have hl : lv_has ls 3 [(0, .ref (ad i)), (1, .long a0)] := hl
  refine lv_aload_n hx hb d_Form_isZero_0 rfl (lv_at hl 0 rfl) ?_
  refine lv_lload_n hx hb d_Form_isZero_1 rfl (lv_at hl 1 rfl) ?_
  refine vl_ (As := [.long a0]) (rest := []) hq hi (c_Form_withoutSign l A ad i hi a0) kB_Form_withoutSign wt_234 ⟨rfl, rfl, Nat.le_of_ble_eq_true rfl, Nat.le_of_ble_eq_true rfl⟩ rfl hl.1 rfl (Nat.le_of_ble_eq_true rfl) d_Form_isZero_2 ⟨Nat.zero_le _, Nat.zero_le _⟩ ?_
  refine lv_lconst (v := (0 : Int64)) hx hb d_Form_isZero_5 (by decide) ?_
  refine W.lcmp hx hb d_Form_isZero_6 ?_
  refine lv_if_ne (tgt := 14) hx hb d_Form_isZero_7 (by decide) (fun c_1 => ?_) (fun c_1 => ?_)
  · rw [lg_cmp_eq] at c_1
    refine lv_iconst (v := (0 : Int32)) hx hb d_Form_isZero_14 (by decide) ?_
    exact rz_ hx hb hr hk (by decide) (by rw [q_Form_isZero, if_neg c_1]) d_Form_isZero_15
  · rw [lg_cmp_eq] at c_1
    refine lv_iconst (v := (1 : Int32)) hx hb d_Form_isZero_10 (by decide) ?_
    refine lv_goto (tgt := 15) hx hb d_Form_isZero_11 (by decide) ?_
    exact rz_ hx hb hr hk (by decide) (by rw [q_Form_isZero, if_pos c_1]) d_Form_isZero_15
def q_Form_exponent (i : Nat) (a0 : Int64) : Int32 :=
  (Int64.toInt32 (ush_ (a0 &&& ((fm_s i) - (1 : Int64))) (fm_f i)))
theorem kB_Form_exponent : VB y_Form_exponent b_Form_exponent 3 (some .int) 1 := ⟨wt_257, wt_255, wt_256, wt_44, by decide +kernel⟩
set_option maxHeartbeats 4000000 in
set_option maxRecDepth 100000 in
theorem c_Form_exponent (l : Launch) (A : Nat → Prop) (ad : Nat → Nat) (i : Nat) (hi : i < 2) (a0 : Int64) : Met l y_Form_exponent (Cond.code y_Form_exponent b_Form_exponent 3 (some .int) :: BT) ({ frames := 0, cells := 0, slots := 0, locals := 0 }) (PC A ad [.ref (ad i), .long a0]) (vp_Si (fun r => r = q_Form_exponent i a0)) 0 0 (fun _ => False) := by
  refine pm_ (by decide +kernel) (Nat.le_of_ble_eq_true rfl) ?_
  intro p e s m below meth c hq hr hk ls hl
  have hx := hq.1
  have hb := hq.2.1
  have hts := hq.2.2.2.2.1
  have hl : lv_has ls 3 [(0, .ref (ad i)), (1, .long a0)] := hl
  refine lv_lload_n hx hb d_Form_exponent_0 rfl (lv_at hl 1 rfl) ?_
  refine lv_aload_n hx hb d_Form_exponent_1 rfl (lv_at hl 0 rfl) ?_
  refine gf_s hq hi wt_726 d_Form_exponent_2 ?_
  refine lv_lconst (v := (1 : Int64)) hx hb d_Form_exponent_5 (by decide) ?_
  refine lv_lsub hx hb d_Form_exponent_6 ?_
  refine lv_land hx hb d_Form_exponent_7 ?_
  refine lv_aload_n hx hb d_Form_exponent_8 rfl (lv_at hl 0 rfl) ?_
  refine gf_f hq hi wt_725 d_Form_exponent_9 ?_
  refine lv_lushr (v := (ush_ (a0 &&& ((fm_s i) - (1 : Int64))) (fm_f i))) hx hb d_Form_exponent_12 rfl ?_
  refine lv_l2i (v := (Int64.toInt32 (ush_ (a0 &&& ((fm_s i) - (1 : Int64))) (fm_f i)))) hx hb d_Form_exponent_13 rfl ?_
  exact ri_ hx hb hr hk (by rw [q_Form_exponent]) d_Form_exponent_14
def q_Form_significand (i : Nat) (a0 : Int64) : Int64 :=
  if (q_Form_exponent i a0) = 0 then
    (a0 &&& ((shl_ (1 : Int64) (fm_f i)) - (1 : Int64)))
  else
    ((a0 &&& ((shl_ (1 : Int64) (fm_f i)) - (1 : Int64))) ||| (shl_ (1 : Int64) (fm_f i)))
theorem kB_Form_significand : VB y_Form_significand b_Form_significand 7 (some .long) 1 := ⟨wt_253, wt_251, wt_252, wt_44, by decide +kernel⟩
set_option maxHeartbeats 4000000 in
set_option maxRecDepth 100000 in
theorem c_Form_significand (l : Launch) (A : Nat → Prop) (ad : Nat → Nat) (i : Nat) (hi : i < 2) (a0 : Int64) : Met l y_Form_significand (Cond.code y_Form_significand b_Form_significand 7 (some .long) :: BT) ({ frames := 1, cells := 0, slots := 0, locals := 22 }) (PC A ad [.ref (ad i), .long a0]) (vp_Sl (fun r => r = q_Form_significand i a0)) 0 0 (fun _ => False) := by
  refine pm_ (by decide +kernel) (Nat.le_of_ble_eq_true rfl) ?_
  intro p e s m below meth c hq hr hk ls hl
  have hx := hq.1
  have hb := hq.2.1
  have hts := hq.2.2.2.2.1
  have hl : lv_has ls 7 [(0, .ref (ad i)), (1, .long a0)] := hl
  refine lv_lconst (v := (1 : Int64)) hx hb d_Form_significand_0 (by decide) ?_
  refine lv_aload_n hx hb d_Form_significand_1 rfl (lv_at hl 0 rfl) ?_
  refine gf_f hq hi wt_725 d_Form_significand_2 ?_
  refine lv_lshl (v := (shl_ (1 : Int64) (fm_f i))) hx hb d_Form_significand_5 rfl ?_
  refine lv_lstore_n (lv' := [(3, .long (shl_ (1 : Int64) (fm_f i))), (0, .ref (ad i)), (1, .long a0)]) hx hb d_Form_significand_6 rfl hl (by decide) rfl (fun ls hl => ?_)
  refine lv_lload_n hx hb d_Form_significand_7 rfl (lv_at hl 2 rfl) ?_
  refine lv_lload_n hx hb d_Form_significand_8 rfl (lv_at hl 0 rfl) ?_
  refine lv_lconst (v := (1 : Int64)) hx hb d_Form_significand_9 (by decide) ?_
  refine lv_lsub hx hb d_Form_significand_10 ?_
  refine lv_land hx hb d_Form_significand_11 ?_
  refine lv_lstore (lv' := [(5, .long (a0 &&& ((shl_ (1 : Int64) (fm_f i)) - (1 : Int64)))), (3, .long (shl_ (1 : Int64) (fm_f i))), (0, .ref (ad i)), (1, .long a0)]) hx hb d_Form_significand_12 hl (by decide) rfl (fun ls hl => ?_)
  refine lv_aload_n hx hb d_Form_significand_14 rfl (lv_at hl 2 rfl) ?_
  refine lv_lload_n hx hb d_Form_significand_15 rfl (lv_at hl 3 rfl) ?_
  refine vi_ (As := [.long a0]) (rest := []) hq hi (c_Form_exponent l A ad i hi a0) kB_Form_exponent wt_254 ⟨rfl, rfl, Nat.le_of_ble_eq_true rfl, Nat.le_of_ble_eq_true rfl⟩ rfl hl.1 rfl (Nat.le_of_ble_eq_true rfl) d_Form_significand_16 ⟨Nat.zero_le _, Nat.zero_le _⟩ ?_
  refine lv_if_ne (tgt := 27) hx hb d_Form_significand_19 (by decide) (fun c_1 => ?_) (fun c_1 => ?_)
  · refine lv_lload hx hb d_Form_significand_27 (lv_at hl 0 rfl) ?_
    refine lv_lload_n hx hb d_Form_significand_29 rfl (lv_at hl 1 rfl) ?_
    refine lv_lor hx hb d_Form_significand_30 ?_
    exact rl_ hx hb hr hk (by rw [q_Form_significand, if_neg c_1]) d_Form_significand_31
  · refine lv_lload hx hb d_Form_significand_22 (lv_at hl 0 rfl) ?_
    refine lv_goto (tgt := 31) hx hb d_Form_significand_24 (by decide) ?_
    exact rl_ hx hb hr hk (by rw [q_Form_significand, if_pos c_1]) d_Form_significand_31
def q_Form_scale (i : Nat) (a0 : Int64) : Int32 :=
  (((q_Math_max (q_Form_exponent i a0) (1 : Int32)) - (fm_b i)) - (fm_f i))
theorem kB_Form_scale : VB y_Form_scale b_Form_scale 3 (some .int) 1 := ⟨wt_261, wt_259, wt_260, wt_44, by decide +kernel⟩
set_option maxHeartbeats 4000000 in
set_option maxRecDepth 100000 in
theorem c_Form_scale (l : Launch) (A : Nat → Prop) (ad : Nat → Nat) (i : Nat) (hi : i < 2) (a0 : Int64) : Met l y_Form_scale (Cond.code y_Form_scale b_Form_scale 3 (some .int) :: BT) ({ frames := 1, cells := 0, slots := 0, locals := 22 }) (PC A ad [.ref (ad i), .long a0]) (vp_Si (fun r => r = q_Form_scale i a0)) 0 0 (fun _ => False) := by
  refine pm_ (by decide +kernel) (Nat.le_of_ble_eq_true rfl) ?_
  intro p e s m below meth c hq hr hk ls hl
  have hx := hq.1
  have hb := hq.2.1
  have hts := hq.2.2.2.2.1
  have hl : lv_has ls 3 [(0, .ref (ad i)), (1, .long a0)] := hl
  refine lv_aload_n hx hb d_Form_scale_0 rfl (lv_at hl 0 rfl) ?_
  refine lv_lload_n hx hb d_Form_scale_1 rfl (lv_at hl 1 rfl) ?_
  refine vi_ (As := [.long a0]) (rest := []) hq hi (c_Form_exponent l A ad i hi a0) kB_Form_exponent wt_254 ⟨rfl, rfl, Nat.le_of_ble_eq_true rfl, Nat.le_of_ble_eq_true rfl⟩ rfl hl.1 rfl (Nat.le_of_ble_eq_true rfl) d_Form_scale_2 ⟨Nat.zero_le _, Nat.zero_le _⟩ ?_
  refine lv_iconst (v := (1 : Int32)) hx hb d_Form_scale_5 (by decide) ?_
  refine si_ (As := [.int (q_Form_exponent i a0), .int (1 : Int32)]) (rest := []) hq (c_Math_max l A ad (q_Form_exponent i a0) (1 : Int32)) kB_Math_max wt_212 ⟨rfl, rfl, Nat.le_of_ble_eq_true rfl, Nat.le_of_ble_eq_true rfl⟩ rfl hl.1 rfl (Nat.le_of_ble_eq_true rfl) d_Form_scale_6 ⟨Nat.zero_le _, Nat.zero_le _⟩ ?_
  refine lv_aload_n hx hb d_Form_scale_9 rfl (lv_at hl 0 rfl) ?_
  refine gf_b hq hi wt_723 d_Form_scale_10 ?_
  refine lv_isub hx hb d_Form_scale_13 ?_
  refine lv_aload_n hx hb d_Form_scale_14 rfl (lv_at hl 0 rfl) ?_
  refine gf_f hq hi wt_725 d_Form_scale_15 ?_
  refine lv_isub hx hb d_Form_scale_18 ?_
  exact ri_ hx hb hr hk (by rw [q_Form_scale]) d_Form_scale_19
def q_Form_nearest (a0 : Int64) (a1 : Int64) : Int64 :=
  if a1 < (0 : Int64) then
    if (shl_ a1 (1 : Int32)) = (0 : Int64) then
      (a0 + (a0 &&& (1 : Int64)))
    else
      (a0 + (1 : Int64))
  else
    a0
theorem kB_Form_nearest : SB y_Form_nearest b_Form_nearest 5 (some .long) 2 := ⟨wt_217, wt_216, wt_44, by decide +kernel⟩
set_option maxHeartbeats 4000000 in
set_option maxRecDepth 100000 in
theorem c_Form_nearest (l : Launch) (A : Nat → Prop) (ad : Nat → Nat) (a0 : Int64) (a1 : Int64) : Met l y_Form_nearest (Cond.code y_Form_nearest b_Form_nearest 5 (some .long) :: BT) ({ frames := 0, cells := 0, slots := 0, locals := 0 }) (PC A ad [.long a0, .long a1]) (vp_Sl (fun r => r = q_Form_nearest a0 a1)) 0 0 (fun _ => False) := by
  refine pm_ (by decide +kernel) (Nat.le_of_ble_eq_true rfl) ?_
  intro p e s m below meth c hq hr hk ls hl
  have hx := hq.1
  have hb := hq.2.1
  have hts := hq.2.2.2.2.1
  have hl : lv_has ls 5 [(0, .long a0), (2, .long a1)] := hl
  refine lv_lload_n hx hb d_Form_nearest_0 rfl (lv_at hl 1 rfl) ?_
  refine lv_lconst (v := (0 : Int64)) hx hb d_Form_nearest_1 (by decide) ?_
  refine W.lcmp hx hb d_Form_nearest_2 ?_
  refine lv_if_lt (tgt := 8) hx hb d_Form_nearest_3 (by decide) (fun c_1 => ?_) (fun c_1 => ?_)
  · rw [lg_cmp_lt] at c_1
    refine lv_lload_n hx hb d_Form_nearest_8 rfl (lv_at hl 1 rfl) ?_
    refine lv_iconst (v := (1 : Int32)) hx hb d_Form_nearest_9 (by decide) ?_
    refine lv_lshl (v := (shl_ a1 (1 : Int32))) hx hb d_Form_nearest_10 rfl ?_
    refine lv_lconst (v := (0 : Int64)) hx hb d_Form_nearest_11 (by decide) ?_
    refine W.lcmp hx hb d_Form_nearest_12 ?_
    refine lv_if_ne (tgt := 20) hx hb d_Form_nearest_13 (by decide) (fun c_2 => ?_) (fun c_2 => ?_)
    · rw [lg_cmp_eq] at c_2
      refine lv_iconst (v := (0 : Int32)) hx hb d_Form_nearest_20 (by decide) ?_
      refine lv_istore (lv' := [(4, .int (0 : Int32)), (0, .long a0), (2, .long a1)]) hx hb d_Form_nearest_21 hl (by decide) rfl (fun ls hl => ?_)
      refine lv_iload hx hb d_Form_nearest_23 (lv_at hl 0 rfl) ?_
      refine lv_if_eq (tgt := 36) hx hb d_Form_nearest_25 (by decide) (fun _ => ?_) (fun c => absurd (by decide) c)
      refine lv_lload_n hx hb d_Form_nearest_36 rfl (lv_at hl 1 rfl) ?_
      refine lv_lconst (v := (1 : Int64)) hx hb d_Form_nearest_37 (by decide) ?_
      refine lv_ladd hx hb d_Form_nearest_38 ?_
      exact rl_ hx hb hr hk (by rw [q_Form_nearest, if_pos c_1, if_neg c_2]) d_Form_nearest_39
    · rw [lg_cmp_eq] at c_2
      refine lv_iconst (v := (1 : Int32)) hx hb d_Form_nearest_16 (by decide) ?_
      refine lv_goto (tgt := 21) hx hb d_Form_nearest_17 (by decide) ?_
      refine lv_istore (lv' := [(4, .int (1 : Int32)), (0, .long a0), (2, .long a1)]) hx hb d_Form_nearest_21 hl (by decide) rfl (fun ls hl => ?_)
      refine lv_iload hx hb d_Form_nearest_23 (lv_at hl 0 rfl) ?_
      refine lv_if_eq (tgt := 36) hx hb d_Form_nearest_25 (by decide) (fun c => absurd c (by decide)) (fun _ => ?_)
      refine lv_lload_n hx hb d_Form_nearest_28 rfl (lv_at hl 1 rfl) ?_
      refine lv_lload_n hx hb d_Form_nearest_29 rfl (lv_at hl 1 rfl) ?_
      refine lv_lconst (v := (1 : Int64)) hx hb d_Form_nearest_30 (by decide) ?_
      refine lv_land hx hb d_Form_nearest_31 ?_
      refine lv_ladd hx hb d_Form_nearest_32 ?_
      refine lv_goto (tgt := 39) hx hb d_Form_nearest_33 (by decide) ?_
      exact rl_ hx hb hr hk (by rw [q_Form_nearest, if_pos c_1, if_pos c_2]) d_Form_nearest_39
  · rw [lg_cmp_lt] at c_1
    refine lv_lload_n hx hb d_Form_nearest_6 rfl (lv_at hl 0 rfl) ?_
    exact rl_ hx hb hr hk (by rw [q_Form_nearest, if_neg c_1]) d_Form_nearest_7
def q_Form_rounded (i : Nat) (a0 : Int64) (a1 : Int64) (a2 : Int32) : Int64 :=
  if (((a2 - (q_Long_numberOfLeadingZeros a1)) + (63 : Int32)) + (fm_b i)) ≤ ((2 : Int32) * (fm_b i)) then
    if (((63 : Int32) - (fm_f i)) + (q_Math_max ((1 : Int32) - (((a2 - (q_Long_numberOfLeadingZeros a1)) + (63 : Int32)) + (fm_b i))) (0 : Int32))) ≤ (64 : Int32) then
      if (((63 : Int32) - (fm_f i)) + (q_Math_max ((1 : Int32) - (((a2 - (q_Long_numberOfLeadingZeros a1)) + (63 : Int32)) + (fm_b i))) (0 : Int32))) = (64 : Int32) then
        (a0 ||| ((shl_ (Int32.toInt64 ((q_Math_max (((a2 - (q_Long_numberOfLeadingZeros a1)) + (63 : Int32)) + (fm_b i)) (1 : Int32)) - (1 : Int32))) (fm_f i)) + (q_Form_nearest (0 : Int64) (shl_ (shl_ a1 (q_Long_numberOfLeadingZeros a1)) ((64 : Int32) - (((63 : Int32) - (fm_f i)) + (q_Math_max ((1 : Int32) - (((a2 - (q_Long_numberOfLeadingZeros a1)) + (63 : Int32)) + (fm_b i))) (0 : Int32))))))))
      else
        (a0 ||| ((shl_ (Int32.toInt64 ((q_Math_max (((a2 - (q_Long_numberOfLeadingZeros a1)) + (63 : Int32)) + (fm_b i)) (1 : Int32)) - (1 : Int32))) (fm_f i)) + (q_Form_nearest (ush_ (shl_ a1 (q_Long_numberOfLeadingZeros a1)) (((63 : Int32) - (fm_f i)) + (q_Math_max ((1 : Int32) - (((a2 - (q_Long_numberOfLeadingZeros a1)) + (63 : Int32)) + (fm_b i))) (0 : Int32)))) (shl_ (shl_ a1 (q_Long_numberOfLeadingZeros a1)) ((64 : Int32) - (((63 : Int32) - (fm_f i)) + (q_Math_max ((1 : Int32) - (((a2 - (q_Long_numberOfLeadingZeros a1)) + (63 : Int32)) + (fm_b i))) (0 : Int32))))))))
    else
      a0
  else
    (a0 ||| (fm_i i))
theorem kB_Form_rounded : VB y_Form_rounded b_Form_rounded 16 (some .long) 3 := ⟨wt_204, wt_202, wt_203, wt_44, by decide +kernel⟩
set_option maxHeartbeats 4000000 in
set_option maxRecDepth 100000 in
theorem c_Form_rounded (l : Launch) (A : Nat → Prop) (ad : Nat → Nat) (i : Nat) (hi : i < 2) (a0 : Int64) (a1 : Int64) (a2 : Int32) : Met l y_Form_rounded (Cond.code y_Form_rounded b_Form_rounded 16 (some .long) :: BT) ({ frames := 2, cells := 0, slots := 0, locals := 43 }) (PC A ad [.ref (ad i), .long a0, .long a1, .int a2]) (vp_Sl (fun r => r = q_Form_rounded i a0 a1 a2)) 0 0 (fun _ => False) := by
  refine pm_ (by decide +kernel) (Nat.le_of_ble_eq_true rfl) ?_
  intro p e s m below meth c hq hr hk ls hl
  have hx := hq.1
  have hb := hq.2.1
  have hts := hq.2.2.2.2.1
  have hl : lv_has ls 16 [(0, .ref (ad i)), (1, .long a0), (3, .long a1), (5, .int a2)] := hl
  refine lv_lload_n hx hb d_Form_rounded_0 rfl (lv_at hl 2 rfl) ?_
  refine si_ (As := [.long a1]) (rest := []) hq (c_Long_numberOfLeadingZeros l A ad a1) kB_Long_numberOfLeadingZeros wt_205 ⟨rfl, rfl, Nat.le_of_ble_eq_true rfl, Nat.le_of_ble_eq_true rfl⟩ rfl hl.1 rfl (Nat.le_of_ble_eq_true rfl) d_Form_rounded_1 ⟨Nat.zero_le _, Nat.zero_le _⟩ ?_
  refine lv_istore (lv' := [(6, .int (q_Long_numberOfLeadingZeros a1)), (0, .ref (ad i)), (1, .long a0), (3, .long a1), (5, .int a2)]) hx hb d_Form_rounded_4 hl (by decide) rfl (fun ls hl => ?_)
  refine lv_lload_n hx hb d_Form_rounded_6 rfl (lv_at hl 3 rfl) ?_
  refine lv_iload hx hb d_Form_rounded_7 (lv_at hl 0 rfl) ?_
  refine lv_lshl (v := (shl_ a1 (q_Long_numberOfLeadingZeros a1))) hx hb d_Form_rounded_9 rfl ?_
  refine lv_lstore (lv' := [(7, .long (shl_ a1 (q_Long_numberOfLeadingZeros a1))), (6, .int (q_Long_numberOfLeadingZeros a1)), (0, .ref (ad i)), (1, .long a0), (3, .long a1), (5, .int a2)]) hx hb d_Form_rounded_10 hl (by decide) rfl (fun ls hl => ?_)
  refine lv_iload hx hb d_Form_rounded_12 (lv_at hl 5 rfl) ?_
  refine lv_iload hx hb d_Form_rounded_14 (lv_at hl 1 rfl) ?_
  refine lv_isub hx hb d_Form_rounded_16 ?_
  refine lv_bipush (v := (63 : Int32)) hx hb d_Form_rounded_17 (by decide) ?_
  refine lv_iadd hx hb d_Form_rounded_19 ?_
  refine lv_aload_n hx hb d_Form_rounded_20 rfl (lv_at hl 2 rfl) ?_
  refine gf_b hq hi wt_723 d_Form_rounded_21 ?_
  refine lv_iadd hx hb d_Form_rounded_24 ?_
  refine lv_istore (lv' := [(9, .int (((a2 - (q_Long_numberOfLeadingZeros a1)) + (63 : Int32)) + (fm_b i))), (7, .long (shl_ a1 (q_Long_numberOfLeadingZeros a1))), (6, .int (q_Long_numberOfLeadingZeros a1)), (0, .ref (ad i)), (1, .long a0), (3, .long a1), (5, .int a2)]) hx hb d_Form_rounded_25 hl (by decide) rfl (fun ls hl => ?_)
  refine lv_iload hx hb d_Form_rounded_27 (lv_at hl 0 rfl) ?_
  refine lv_iconst (v := (2 : Int32)) hx hb d_Form_rounded_29 (by decide) ?_
  refine lv_aload_n hx hb d_Form_rounded_30 rfl (lv_at hl 3 rfl) ?_
  refine gf_b hq hi wt_723 d_Form_rounded_31 ?_
  refine lv_imul hx hb d_Form_rounded_34 ?_
  refine lv_icmp_le (tgt := 45) hx hb d_Form_rounded_35 (by decide) (fun c_1 => ?_) (fun c_1 => ?_)
  · refine lv_iconst (v := (1 : Int32)) hx hb d_Form_rounded_45 (by decide) ?_
    refine lv_iload hx hb d_Form_rounded_46 (lv_at hl 0 rfl) ?_
    refine lv_isub hx hb d_Form_rounded_48 ?_
    refine lv_iconst (v := (0 : Int32)) hx hb d_Form_rounded_49 (by decide) ?_
    refine si_ (As := [.int ((1 : Int32) - (((a2 - (q_Long_numberOfLeadingZeros a1)) + (63 : Int32)) + (fm_b i))), .int (0 : Int32)]) (rest := []) hq (c_Math_max l A ad ((1 : Int32) - (((a2 - (q_Long_numberOfLeadingZeros a1)) + (63 : Int32)) + (fm_b i))) (0 : Int32)) kB_Math_max wt_212 ⟨rfl, rfl, Nat.le_of_ble_eq_true rfl, Nat.le_of_ble_eq_true rfl⟩ rfl hl.1 rfl (Nat.le_of_ble_eq_true rfl) d_Form_rounded_50 ⟨Nat.zero_le _, Nat.zero_le _⟩ ?_
    refine lv_istore (lv' := [(10, .int (q_Math_max ((1 : Int32) - (((a2 - (q_Long_numberOfLeadingZeros a1)) + (63 : Int32)) + (fm_b i))) (0 : Int32))), (9, .int (((a2 - (q_Long_numberOfLeadingZeros a1)) + (63 : Int32)) + (fm_b i))), (7, .long (shl_ a1 (q_Long_numberOfLeadingZeros a1))), (6, .int (q_Long_numberOfLeadingZeros a1)), (0, .ref (ad i)), (1, .long a0), (3, .long a1), (5, .int a2)]) hx hb d_Form_rounded_53 hl (by decide) rfl (fun ls hl => ?_)
    refine lv_bipush (v := (63 : Int32)) hx hb d_Form_rounded_55 (by decide) ?_
    refine lv_aload_n hx hb d_Form_rounded_57 rfl (lv_at hl 4 rfl) ?_
    refine gf_f hq hi wt_725 d_Form_rounded_58 ?_
    refine lv_isub hx hb d_Form_rounded_61 ?_
    refine lv_iload hx hb d_Form_rounded_62 (lv_at hl 0 rfl) ?_
    refine lv_iadd hx hb d_Form_rounded_64 ?_
    refine lv_istore (lv' := [(11, .int (((63 : Int32) - (fm_f i)) + (q_Math_max ((1 : Int32) - (((a2 - (q_Long_numberOfLeadingZeros a1)) + (63 : Int32)) + (fm_b i))) (0 : Int32)))), (10, .int (q_Math_max ((1 : Int32) - (((a2 - (q_Long_numberOfLeadingZeros a1)) + (63 : Int32)) + (fm_b i))) (0 : Int32))), (9, .int (((a2 - (q_Long_numberOfLeadingZeros a1)) + (63 : Int32)) + (fm_b i))), (7, .long (shl_ a1 (q_Long_numberOfLeadingZeros a1))), (6, .int (q_Long_numberOfLeadingZeros a1)), (0, .ref (ad i)), (1, .long a0), (3, .long a1), (5, .int a2)]) hx hb d_Form_rounded_65 hl (by decide) rfl (fun ls hl => ?_)
    refine lv_iload hx hb d_Form_rounded_67 (lv_at hl 0 rfl) ?_
    refine lv_bipush (v := (64 : Int32)) hx hb d_Form_rounded_69 (by decide) ?_
    refine lv_icmp_le (tgt := 76) hx hb d_Form_rounded_71 (by decide) (fun c_2 => ?_) (fun c_2 => ?_)
    · refine lv_iload hx hb d_Form_rounded_76 (lv_at hl 0 rfl) ?_
      refine lv_bipush (v := (64 : Int32)) hx hb d_Form_rounded_78 (by decide) ?_
      refine lv_icmp_ne (tgt := 87) hx hb d_Form_rounded_80 (by decide) (fun c_3 => ?_) (fun c_3 => ?_)
      · refine lv_lload hx hb d_Form_rounded_87 (lv_at hl 3 rfl) ?_
        refine lv_iload hx hb d_Form_rounded_89 (lv_at hl 0 rfl) ?_
        refine lv_lushr (v := (ush_ (shl_ a1 (q_Long_numberOfLeadingZeros a1)) (((63 : Int32) - (fm_f i)) + (q_Math_max ((1 : Int32) - (((a2 - (q_Long_numberOfLeadingZeros a1)) + (63 : Int32)) + (fm_b i))) (0 : Int32))))) hx hb d_Form_rounded_91 rfl ?_
        refine lv_lstore (lv' := [(12, .long (ush_ (shl_ a1 (q_Long_numberOfLeadingZeros a1)) (((63 : Int32) - (fm_f i)) + (q_Math_max ((1 : Int32) - (((a2 - (q_Long_numberOfLeadingZeros a1)) + (63 : Int32)) + (fm_b i))) (0 : Int32))))), (11, .int (((63 : Int32) - (fm_f i)) + (q_Math_max ((1 : Int32) - (((a2 - (q_Long_numberOfLeadingZeros a1)) + (63 : Int32)) + (fm_b i))) (0 : Int32)))), (10, .int (q_Math_max ((1 : Int32) - (((a2 - (q_Long_numberOfLeadingZeros a1)) + (63 : Int32)) + (fm_b i))) (0 : Int32))), (9, .int (((a2 - (q_Long_numberOfLeadingZeros a1)) + (63 : Int32)) + (fm_b i))), (7, .long (shl_ a1 (q_Long_numberOfLeadingZeros a1))), (6, .int (q_Long_numberOfLeadingZeros a1)), (0, .ref (ad i)), (1, .long a0), (3, .long a1), (5, .int a2)]) hx hb d_Form_rounded_92 hl (by decide) rfl (fun ls hl => ?_)
        refine lv_iload hx hb d_Form_rounded_94 (lv_at hl 3 rfl) ?_
        refine lv_iconst (v := (1 : Int32)) hx hb d_Form_rounded_96 (by decide) ?_
        refine si_ (As := [.int (((a2 - (q_Long_numberOfLeadingZeros a1)) + (63 : Int32)) + (fm_b i)), .int (1 : Int32)]) (rest := []) hq (c_Math_max l A ad (((a2 - (q_Long_numberOfLeadingZeros a1)) + (63 : Int32)) + (fm_b i)) (1 : Int32)) kB_Math_max wt_212 ⟨rfl, rfl, Nat.le_of_ble_eq_true rfl, Nat.le_of_ble_eq_true rfl⟩ rfl hl.1 rfl (Nat.le_of_ble_eq_true rfl) d_Form_rounded_97 ⟨Nat.zero_le _, Nat.zero_le _⟩ ?_
        refine lv_iconst (v := (1 : Int32)) hx hb d_Form_rounded_100 (by decide) ?_
        refine lv_isub hx hb d_Form_rounded_101 ?_
        refine lv_i2l (v := (Int32.toInt64 ((q_Math_max (((a2 - (q_Long_numberOfLeadingZeros a1)) + (63 : Int32)) + (fm_b i)) (1 : Int32)) - (1 : Int32)))) hx hb d_Form_rounded_102 rfl ?_
        refine lv_aload_n hx hb d_Form_rounded_103 rfl (lv_at hl 6 rfl) ?_
        refine gf_f hq hi wt_725 d_Form_rounded_104 ?_
        refine lv_lshl (v := (shl_ (Int32.toInt64 ((q_Math_max (((a2 - (q_Long_numberOfLeadingZeros a1)) + (63 : Int32)) + (fm_b i)) (1 : Int32)) - (1 : Int32))) (fm_f i))) hx hb d_Form_rounded_107 rfl ?_
        refine lv_lstore (lv' := [(14, .long (shl_ (Int32.toInt64 ((q_Math_max (((a2 - (q_Long_numberOfLeadingZeros a1)) + (63 : Int32)) + (fm_b i)) (1 : Int32)) - (1 : Int32))) (fm_f i))), (12, .long (ush_ (shl_ a1 (q_Long_numberOfLeadingZeros a1)) (((63 : Int32) - (fm_f i)) + (q_Math_max ((1 : Int32) - (((a2 - (q_Long_numberOfLeadingZeros a1)) + (63 : Int32)) + (fm_b i))) (0 : Int32))))), (11, .int (((63 : Int32) - (fm_f i)) + (q_Math_max ((1 : Int32) - (((a2 - (q_Long_numberOfLeadingZeros a1)) + (63 : Int32)) + (fm_b i))) (0 : Int32)))), (10, .int (q_Math_max ((1 : Int32) - (((a2 - (q_Long_numberOfLeadingZeros a1)) + (63 : Int32)) + (fm_b i))) (0 : Int32))), (9, .int (((a2 - (q_Long_numberOfLeadingZeros a1)) + (63 : Int32)) + (fm_b i))), (7, .long (shl_ a1 (q_Long_numberOfLeadingZeros a1))), (6, .int (q_Long_numberOfLeadingZeros a1)), (0, .ref (ad i)), (1, .long a0), (3, .long a1), (5, .int a2)]) hx hb d_Form_rounded_108 hl (by decide) rfl (fun ls hl => ?_)
        refine lv_lload_n hx hb d_Form_rounded_110 rfl (lv_at hl 8 rfl) ?_
        refine lv_lload hx hb d_Form_rounded_111 (lv_at hl 0 rfl) ?_
        refine lv_lload hx hb d_Form_rounded_113 (lv_at hl 1 rfl) ?_
        refine lv_lload hx hb d_Form_rounded_115 (lv_at hl 5 rfl) ?_
        refine lv_bipush (v := (64 : Int32)) hx hb d_Form_rounded_117 (by decide) ?_
        refine lv_iload hx hb d_Form_rounded_119 (lv_at hl 2 rfl) ?_
        refine lv_isub hx hb d_Form_rounded_121 ?_
        refine lv_lshl (v := (shl_ (shl_ a1 (q_Long_numberOfLeadingZeros a1)) ((64 : Int32) - (((63 : Int32) - (fm_f i)) + (q_Math_max ((1 : Int32) - (((a2 - (q_Long_numberOfLeadingZeros a1)) + (63 : Int32)) + (fm_b i))) (0 : Int32)))))) hx hb d_Form_rounded_122 rfl ?_
        refine sl_ (As := [.long (ush_ (shl_ a1 (q_Long_numberOfLeadingZeros a1)) (((63 : Int32) - (fm_f i)) + (q_Math_max ((1 : Int32) - (((a2 - (q_Long_numberOfLeadingZeros a1)) + (63 : Int32)) + (fm_b i))) (0 : Int32)))), .long (shl_ (shl_ a1 (q_Long_numberOfLeadingZeros a1)) ((64 : Int32) - (((63 : Int32) - (fm_f i)) + (q_Math_max ((1 : Int32) - (((a2 - (q_Long_numberOfLeadingZeros a1)) + (63 : Int32)) + (fm_b i))) (0 : Int32)))))]) (rest := [.long (shl_ (Int32.toInt64 ((q_Math_max (((a2 - (q_Long_numberOfLeadingZeros a1)) + (63 : Int32)) + (fm_b i)) (1 : Int32)) - (1 : Int32))) (fm_f i)), .long a0]) hq (c_Form_nearest l A ad (ush_ (shl_ a1 (q_Long_numberOfLeadingZeros a1)) (((63 : Int32) - (fm_f i)) + (q_Math_max ((1 : Int32) - (((a2 - (q_Long_numberOfLeadingZeros a1)) + (63 : Int32)) + (fm_b i))) (0 : Int32)))) (shl_ (shl_ a1 (q_Long_numberOfLeadingZeros a1)) ((64 : Int32) - (((63 : Int32) - (fm_f i)) + (q_Math_max ((1 : Int32) - (((a2 - (q_Long_numberOfLeadingZeros a1)) + (63 : Int32)) + (fm_b i))) (0 : Int32)))))) kB_Form_nearest wt_215 ⟨rfl, rfl, Nat.le_of_ble_eq_true rfl, Nat.le_of_ble_eq_true rfl⟩ rfl hl.1 rfl (Nat.le_of_ble_eq_true rfl) d_Form_rounded_123 ⟨Nat.zero_le _, Nat.zero_le _⟩ ?_
        refine lv_ladd hx hb d_Form_rounded_126 ?_
        refine lv_lor hx hb d_Form_rounded_127 ?_
        exact rl_ hx hb hr hk (by rw [q_Form_rounded, if_pos c_1, if_pos c_2, if_neg c_3]) d_Form_rounded_128
      · refine lv_lconst (v := (0 : Int64)) hx hb d_Form_rounded_83 (by decide) ?_
        refine lv_goto (tgt := 92) hx hb d_Form_rounded_84 (by decide) ?_
        refine lv_lstore (lv' := [(12, .long (0 : Int64)), (11, .int (((63 : Int32) - (fm_f i)) + (q_Math_max ((1 : Int32) - (((a2 - (q_Long_numberOfLeadingZeros a1)) + (63 : Int32)) + (fm_b i))) (0 : Int32)))), (10, .int (q_Math_max ((1 : Int32) - (((a2 - (q_Long_numberOfLeadingZeros a1)) + (63 : Int32)) + (fm_b i))) (0 : Int32))), (9, .int (((a2 - (q_Long_numberOfLeadingZeros a1)) + (63 : Int32)) + (fm_b i))), (7, .long (shl_ a1 (q_Long_numberOfLeadingZeros a1))), (6, .int (q_Long_numberOfLeadingZeros a1)), (0, .ref (ad i)), (1, .long a0), (3, .long a1), (5, .int a2)]) hx hb d_Form_rounded_92 hl (by decide) rfl (fun ls hl => ?_)
        refine lv_iload hx hb d_Form_rounded_94 (lv_at hl 3 rfl) ?_
        refine lv_iconst (v := (1 : Int32)) hx hb d_Form_rounded_96 (by decide) ?_
        refine si_ (As := [.int (((a2 - (q_Long_numberOfLeadingZeros a1)) + (63 : Int32)) + (fm_b i)), .int (1 : Int32)]) (rest := []) hq (c_Math_max l A ad (((a2 - (q_Long_numberOfLeadingZeros a1)) + (63 : Int32)) + (fm_b i)) (1 : Int32)) kB_Math_max wt_212 ⟨rfl, rfl, Nat.le_of_ble_eq_true rfl, Nat.le_of_ble_eq_true rfl⟩ rfl hl.1 rfl (Nat.le_of_ble_eq_true rfl) d_Form_rounded_97 ⟨Nat.zero_le _, Nat.zero_le _⟩ ?_
        refine lv_iconst (v := (1 : Int32)) hx hb d_Form_rounded_100 (by decide) ?_
        refine lv_isub hx hb d_Form_rounded_101 ?_
        refine lv_i2l (v := (Int32.toInt64 ((q_Math_max (((a2 - (q_Long_numberOfLeadingZeros a1)) + (63 : Int32)) + (fm_b i)) (1 : Int32)) - (1 : Int32)))) hx hb d_Form_rounded_102 rfl ?_
        refine lv_aload_n hx hb d_Form_rounded_103 rfl (lv_at hl 6 rfl) ?_
        refine gf_f hq hi wt_725 d_Form_rounded_104 ?_
        refine lv_lshl (v := (shl_ (Int32.toInt64 ((q_Math_max (((a2 - (q_Long_numberOfLeadingZeros a1)) + (63 : Int32)) + (fm_b i)) (1 : Int32)) - (1 : Int32))) (fm_f i))) hx hb d_Form_rounded_107 rfl ?_
        refine lv_lstore (lv' := [(14, .long (shl_ (Int32.toInt64 ((q_Math_max (((a2 - (q_Long_numberOfLeadingZeros a1)) + (63 : Int32)) + (fm_b i)) (1 : Int32)) - (1 : Int32))) (fm_f i))), (12, .long (0 : Int64)), (11, .int (((63 : Int32) - (fm_f i)) + (q_Math_max ((1 : Int32) - (((a2 - (q_Long_numberOfLeadingZeros a1)) + (63 : Int32)) + (fm_b i))) (0 : Int32)))), (10, .int (q_Math_max ((1 : Int32) - (((a2 - (q_Long_numberOfLeadingZeros a1)) + (63 : Int32)) + (fm_b i))) (0 : Int32))), (9, .int (((a2 - (q_Long_numberOfLeadingZeros a1)) + (63 : Int32)) + (fm_b i))), (7, .long (shl_ a1 (q_Long_numberOfLeadingZeros a1))), (6, .int (q_Long_numberOfLeadingZeros a1)), (0, .ref (ad i)), (1, .long a0), (3, .long a1), (5, .int a2)]) hx hb d_Form_rounded_108 hl (by decide) rfl (fun ls hl => ?_)
        refine lv_lload_n hx hb d_Form_rounded_110 rfl (lv_at hl 8 rfl) ?_
        refine lv_lload hx hb d_Form_rounded_111 (lv_at hl 0 rfl) ?_
        refine lv_lload hx hb d_Form_rounded_113 (lv_at hl 1 rfl) ?_
        refine lv_lload hx hb d_Form_rounded_115 (lv_at hl 5 rfl) ?_
        refine lv_bipush (v := (64 : Int32)) hx hb d_Form_rounded_117 (by decide) ?_
        refine lv_iload hx hb d_Form_rounded_119 (lv_at hl 2 rfl) ?_
        refine lv_isub hx hb d_Form_rounded_121 ?_
        refine lv_lshl (v := (shl_ (shl_ a1 (q_Long_numberOfLeadingZeros a1)) ((64 : Int32) - (((63 : Int32) - (fm_f i)) + (q_Math_max ((1 : Int32) - (((a2 - (q_Long_numberOfLeadingZeros a1)) + (63 : Int32)) + (fm_b i))) (0 : Int32)))))) hx hb d_Form_rounded_122 rfl ?_
        refine sl_ (As := [.long (0 : Int64), .long (shl_ (shl_ a1 (q_Long_numberOfLeadingZeros a1)) ((64 : Int32) - (((63 : Int32) - (fm_f i)) + (q_Math_max ((1 : Int32) - (((a2 - (q_Long_numberOfLeadingZeros a1)) + (63 : Int32)) + (fm_b i))) (0 : Int32)))))]) (rest := [.long (shl_ (Int32.toInt64 ((q_Math_max (((a2 - (q_Long_numberOfLeadingZeros a1)) + (63 : Int32)) + (fm_b i)) (1 : Int32)) - (1 : Int32))) (fm_f i)), .long a0]) hq (c_Form_nearest l A ad (0 : Int64) (shl_ (shl_ a1 (q_Long_numberOfLeadingZeros a1)) ((64 : Int32) - (((63 : Int32) - (fm_f i)) + (q_Math_max ((1 : Int32) - (((a2 - (q_Long_numberOfLeadingZeros a1)) + (63 : Int32)) + (fm_b i))) (0 : Int32)))))) kB_Form_nearest wt_215 ⟨rfl, rfl, Nat.le_of_ble_eq_true rfl, Nat.le_of_ble_eq_true rfl⟩ rfl hl.1 rfl (Nat.le_of_ble_eq_true rfl) d_Form_rounded_123 ⟨Nat.zero_le _, Nat.zero_le _⟩ ?_
        refine lv_ladd hx hb d_Form_rounded_126 ?_
        refine lv_lor hx hb d_Form_rounded_127 ?_
        exact rl_ hx hb hr hk (by rw [q_Form_rounded, if_pos c_1, if_pos c_2, if_pos c_3]) d_Form_rounded_128
    · refine lv_lload_n hx hb d_Form_rounded_74 rfl (lv_at hl 6 rfl) ?_
      exact rl_ hx hb hr hk (by rw [q_Form_rounded, if_pos c_1, if_neg c_2]) d_Form_rounded_75
  · refine lv_lload_n hx hb d_Form_rounded_38 rfl (lv_at hl 4 rfl) ?_
    refine lv_aload_n hx hb d_Form_rounded_39 rfl (lv_at hl 3 rfl) ?_
    refine gf_i hq hi wt_724 d_Form_rounded_40 ?_
    refine lv_lor hx hb d_Form_rounded_43 ?_
    exact rl_ hx hb hr hk (by rw [q_Form_rounded, if_neg c_1]) d_Form_rounded_44
