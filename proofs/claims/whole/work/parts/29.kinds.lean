theorem in_25 {x : Int32} (h1 : ¬ x < 0) (h2 : ¬ (25 : Int32) ≤ x) : vp_in x 25 := by
  rw [vp_in_iff]
  rw [Int32.lt_iff_toInt_lt] at h1
  rw [Int32.le_iff_toInt_le] at h2
  have e0 : (0 : Int32).toInt = 0 := by decide
  have e1 : (25 : Int32).toInt = 25 := by decide
  omega
def q_Kinds_entry2 (a1 : Int32) : Int32 :=
  if a1 < 0 then
    (-1 : Int32)
  else
    if (25 : Int32) ≤ a1 then
      (-1 : Int32)
    else
      (tb_from.getD a1.toNatClampNeg 0)
theorem kB_Kinds_entry : SB y_Kinds_entry b_Kinds_entry 2 (some .int) 2 := ⟨wt_86, wt_85, wt_55, by decide +kernel⟩
set_option maxHeartbeats 4000000 in
set_option maxRecDepth 100000 in
theorem c_Kinds_entry2 (l : Launch) (A : Nat → Prop) (ad : Nat → Nat) (a1 : Int32) : Met l y_Kinds_entry (Cond.code y_Kinds_entry b_Kinds_entry 2 (some .int) :: BT) ({ frames := 0, cells := 0, slots := 0, locals := 0 }) (PC A ad [.ref (ad 2), .int a1]) (vp_Si (fun r => r = q_Kinds_entry2 a1)) 0 0 (fun _ => False) := by
  refine pm_ (by decide +kernel) (Nat.le_of_ble_eq_true rfl) ?_
  intro p e s m below meth c hq hr hk ls hl
  have hx := hq.1
  have hb := hq.2.1
  have hts := hq.2.2.2.2.1
  have hl : lv_has ls 2 [(0, .ref (ad 2)), (1, .int a1)] := hl
  refine lv_iload_n hx hb d_Kinds_entry_0 rfl (lv_at hl 1 rfl) ?_
  refine lv_if_lt (tgt := 16) hx hb d_Kinds_entry_1 (by decide) (fun c_1 => ?_) (fun c_1 => ?_)
  · refine lv_iconst (v := (-1 : Int32)) hx hb d_Kinds_entry_16 (by decide) ?_
    exact ri_ hx hb hr hk (by rw [q_Kinds_entry2, if_pos c_1]) d_Kinds_entry_17
  · refine lv_iload_n hx hb d_Kinds_entry_4 rfl (lv_at hl 1 rfl) ?_
    refine lv_aload_n hx hb d_Kinds_entry_5 rfl (lv_at hl 0 rfl) ?_
    refine va_tlen (v := (25 : Int32)) hx hb hq.2.2.2.2.2.2.2.2.2.1.2 va_S.rf (by decide) d_Kinds_entry_6 ?_
    refine lv_icmp_ge (tgt := 16) hx hb d_Kinds_entry_7 (by decide) (fun c_2 => ?_) (fun c_2 => ?_)
    · refine lv_iconst (v := (-1 : Int32)) hx hb d_Kinds_entry_16 (by decide) ?_
      exact ri_ hx hb hr hk (by rw [q_Kinds_entry2, if_neg c_1, if_pos c_2]) d_Kinds_entry_17
    · refine lv_aload_n hx hb d_Kinds_entry_10 rfl (lv_at hl 0 rfl) ?_
      refine lv_iload_n hx hb d_Kinds_entry_11 rfl (lv_at hl 1 rfl) ?_
      refine va_ti (v := .int (tb_from.getD a1.toNatClampNeg 0)) hx hb hq.2.2.2.2.2.2.2.2.2.1.2 va_S.rf (in_25 c_1 c_2) rfl d_Kinds_entry_12 ?_
      refine lv_goto (tgt := 17) hx hb d_Kinds_entry_13 (by decide) ?_
      exact ri_ hx hb hr hk (by rw [q_Kinds_entry2, if_neg c_1, if_neg c_2]) d_Kinds_entry_17
def q_Kinds_entry3 (a1 : Int32) : Int32 :=
  if a1 < 0 then
    (-1 : Int32)
  else
    if (25 : Int32) ≤ a1 then
      (-1 : Int32)
    else
      (tb_to.getD a1.toNatClampNeg 0)
set_option maxHeartbeats 4000000 in
set_option maxRecDepth 100000 in
theorem c_Kinds_entry3 (l : Launch) (A : Nat → Prop) (ad : Nat → Nat) (a1 : Int32) : Met l y_Kinds_entry (Cond.code y_Kinds_entry b_Kinds_entry 2 (some .int) :: BT) ({ frames := 0, cells := 0, slots := 0, locals := 0 }) (PC A ad [.ref (ad 3), .int a1]) (vp_Si (fun r => r = q_Kinds_entry3 a1)) 0 0 (fun _ => False) := by
  refine pm_ (by decide +kernel) (Nat.le_of_ble_eq_true rfl) ?_
  intro p e s m below meth c hq hr hk ls hl
  have hx := hq.1
  have hb := hq.2.1
  have hts := hq.2.2.2.2.1
  have hl : lv_has ls 2 [(0, .ref (ad 3)), (1, .int a1)] := hl
  refine lv_iload_n hx hb d_Kinds_entry_0 rfl (lv_at hl 1 rfl) ?_
  refine lv_if_lt (tgt := 16) hx hb d_Kinds_entry_1 (by decide) (fun c_1 => ?_) (fun c_1 => ?_)
  · refine lv_iconst (v := (-1 : Int32)) hx hb d_Kinds_entry_16 (by decide) ?_
    exact ri_ hx hb hr hk (by rw [q_Kinds_entry3, if_pos c_1]) d_Kinds_entry_17
  · refine lv_iload_n hx hb d_Kinds_entry_4 rfl (lv_at hl 1 rfl) ?_
    refine lv_aload_n hx hb d_Kinds_entry_5 rfl (lv_at hl 0 rfl) ?_
    refine va_tlen (v := (25 : Int32)) hx hb hq.2.2.2.2.2.2.2.2.2.2.1.2 va_S.rf (by decide) d_Kinds_entry_6 ?_
    refine lv_icmp_ge (tgt := 16) hx hb d_Kinds_entry_7 (by decide) (fun c_2 => ?_) (fun c_2 => ?_)
    · refine lv_iconst (v := (-1 : Int32)) hx hb d_Kinds_entry_16 (by decide) ?_
      exact ri_ hx hb hr hk (by rw [q_Kinds_entry3, if_neg c_1, if_pos c_2]) d_Kinds_entry_17
    · refine lv_aload_n hx hb d_Kinds_entry_10 rfl (lv_at hl 0 rfl) ?_
      refine lv_iload_n hx hb d_Kinds_entry_11 rfl (lv_at hl 1 rfl) ?_
      refine va_ti (v := .int (tb_to.getD a1.toNatClampNeg 0)) hx hb hq.2.2.2.2.2.2.2.2.2.2.1.2 va_S.rf (in_25 c_1 c_2) rfl d_Kinds_entry_12 ?_
      refine lv_goto (tgt := 17) hx hb d_Kinds_entry_13 (by decide) ?_
      exact ri_ hx hb hr hk (by rw [q_Kinds_entry3, if_neg c_1, if_neg c_2]) d_Kinds_entry_17
def q_Kinds_ofFirst (a0 : Int32) : Int32 :=
  if a0 < (167 : Int32) then
    if (q_Operations_of32 a0) ≤ (79 : Int32) then
      if (q_Operations_isTwin a0) = 0 then
        (0 : Int32)
      else
        (1 : Int32)
    else
      if (q_Operations_of32 a0) < (103 : Int32) then
        if (q_Operations_isTwin a0) = 0 then
          (2 : Int32)
        else
          (3 : Int32)
      else
        if (120 : Int32) < (q_Operations_of32 a0) then
          if (q_Operations_isTwin a0) = 0 then
            (2 : Int32)
          else
            (3 : Int32)
        else
          if (q_Operations_isTwin a0) = 0 then
            (0 : Int32)
          else
            (1 : Int32)
  else
    (q_Kinds_entry2 (a0 - (167 : Int32)))
theorem kB_Kinds_ofFirst : SB y_Kinds_ofFirst b_Kinds_ofFirst 3 (some .int) 1 := ⟨wt_89, wt_88, wt_55, by decide +kernel⟩
set_option maxHeartbeats 4000000 in
set_option maxRecDepth 100000 in
theorem c_Kinds_ofFirst (l : Launch) (A : Nat → Prop) (ad : Nat → Nat) (a0 : Int32) : Met l y_Kinds_ofFirst (Cond.code y_Kinds_ofFirst b_Kinds_ofFirst 3 (some .int) :: BT) ({ frames := 2, cells := 0, slots := 0, locals := 40 }) (PC A ad [.int a0]) (vp_Si (fun r => r = q_Kinds_ofFirst a0)) 0 0 (fun _ => False) := by
  refine pm_ (by decide +kernel) (Nat.le_of_ble_eq_true rfl) ?_
  intro p e s m below meth c hq hr hk ls hl
  have hx := hq.1
  have hb := hq.2.1
  have hts := hq.2.2.2.2.1
  have hl : lv_has ls 3 [(0, .int a0)] := hl
  refine lv_iload_n hx hb d_Kinds_ofFirst_0 rfl (lv_at hl 0 rfl) ?_
  refine lv_sipush (v := (167 : Int32)) hx hb d_Kinds_ofFirst_1 (by decide) ?_
  refine lv_icmp_lt (tgt := 19) hx hb d_Kinds_ofFirst_4 (by decide) (fun c_1 => ?_) (fun c_1 => ?_)
  · refine lv_iload_n hx hb d_Kinds_ofFirst_19 rfl (lv_at hl 0 rfl) ?_
    refine si_ (As := [.int a0]) (rest := []) hq (c_Operations_of32 l A ad a0) kB_Operations_of32 wt_92 ⟨rfl, rfl, Nat.le_of_ble_eq_true rfl, Nat.le_of_ble_eq_true rfl⟩ rfl hl.1 rfl (Nat.le_of_ble_eq_true rfl) d_Kinds_ofFirst_20 ⟨Nat.zero_le _, Nat.zero_le _⟩ ?_
    refine lv_istore_n (lv' := [(1, .int (q_Operations_of32 a0)), (0, .int a0)]) hx hb d_Kinds_ofFirst_23 rfl hl (by decide) rfl (fun ls hl => ?_)
    refine lv_iload_n hx hb d_Kinds_ofFirst_24 rfl (lv_at hl 1 rfl) ?_
    refine si_ (As := [.int a0]) (rest := []) hq (c_Operations_isTwin l A ad a0) kB_Operations_isTwin wt_98 ⟨rfl, rfl, Nat.le_of_ble_eq_true rfl, Nat.le_of_ble_eq_true rfl⟩ rfl hl.1 rfl (Nat.le_of_ble_eq_true rfl) d_Kinds_ofFirst_25 ⟨Nat.zero_le _, Nat.zero_le _⟩ ?_
    refine lv_istore_n (lv' := [(2, .int (q_Operations_isTwin a0)), (1, .int (q_Operations_of32 a0)), (0, .int a0)]) hx hb d_Kinds_ofFirst_28 rfl hl (by decide) rfl (fun ls hl => ?_)
    refine lv_iload_n hx hb d_Kinds_ofFirst_29 rfl (lv_at hl 1 rfl) ?_
    refine lv_bipush (v := (79 : Int32)) hx hb d_Kinds_ofFirst_30 (by decide) ?_
    refine lv_icmp_le (tgt := 47) hx hb d_Kinds_ofFirst_32 (by decide) (fun c_2 => ?_) (fun c_2 => ?_)
    · refine lv_iload_n hx hb d_Kinds_ofFirst_47 rfl (lv_at hl 0 rfl) ?_
      refine lv_if_eq (tgt := 55) hx hb d_Kinds_ofFirst_48 (by decide) (fun c_3 => ?_) (fun c_3 => ?_)
      · refine lv_iconst (v := (0 : Int32)) hx hb d_Kinds_ofFirst_55 (by decide) ?_
        exact ri_ hx hb hr hk (by rw [q_Kinds_ofFirst, if_pos c_1, if_pos c_2, if_pos c_3]) d_Kinds_ofFirst_56
      · refine lv_iconst (v := (1 : Int32)) hx hb d_Kinds_ofFirst_51 (by decide) ?_
        refine lv_goto (tgt := 56) hx hb d_Kinds_ofFirst_52 (by decide) ?_
        exact ri_ hx hb hr hk (by rw [q_Kinds_ofFirst, if_pos c_1, if_pos c_2, if_neg c_3]) d_Kinds_ofFirst_56
    · refine lv_iload_n hx hb d_Kinds_ofFirst_35 rfl (lv_at hl 1 rfl) ?_
      refine lv_bipush (v := (103 : Int32)) hx hb d_Kinds_ofFirst_36 (by decide) ?_
      refine lv_icmp_lt (tgt := 57) hx hb d_Kinds_ofFirst_38 (by decide) (fun c_4 => ?_) (fun c_4 => ?_)
      · refine lv_iload_n hx hb d_Kinds_ofFirst_57 rfl (lv_at hl 0 rfl) ?_
        refine lv_if_eq (tgt := 65) hx hb d_Kinds_ofFirst_58 (by decide) (fun c_5 => ?_) (fun c_5 => ?_)
        · refine lv_iconst (v := (2 : Int32)) hx hb d_Kinds_ofFirst_65 (by decide) ?_
          exact ri_ hx hb hr hk (by rw [q_Kinds_ofFirst, if_pos c_1, if_neg c_2, if_pos c_4, if_pos c_5]) d_Kinds_ofFirst_66
        · refine lv_iconst (v := (3 : Int32)) hx hb d_Kinds_ofFirst_61 (by decide) ?_
          refine lv_goto (tgt := 66) hx hb d_Kinds_ofFirst_62 (by decide) ?_
          exact ri_ hx hb hr hk (by rw [q_Kinds_ofFirst, if_pos c_1, if_neg c_2, if_pos c_4, if_neg c_5]) d_Kinds_ofFirst_66
      · refine lv_iload_n hx hb d_Kinds_ofFirst_41 rfl (lv_at hl 1 rfl) ?_
        refine lv_bipush (v := (120 : Int32)) hx hb d_Kinds_ofFirst_42 (by decide) ?_
        refine lv_icmp_gt (tgt := 57) hx hb d_Kinds_ofFirst_44 (by decide) (fun c_6 => ?_) (fun c_6 => ?_)
        · refine lv_iload_n hx hb d_Kinds_ofFirst_57 rfl (lv_at hl 0 rfl) ?_
          refine lv_if_eq (tgt := 65) hx hb d_Kinds_ofFirst_58 (by decide) (fun c_7 => ?_) (fun c_7 => ?_)
          · refine lv_iconst (v := (2 : Int32)) hx hb d_Kinds_ofFirst_65 (by decide) ?_
            exact ri_ hx hb hr hk (by rw [q_Kinds_ofFirst, if_pos c_1, if_neg c_2, if_neg c_4, if_pos c_6, if_pos c_7]) d_Kinds_ofFirst_66
          · refine lv_iconst (v := (3 : Int32)) hx hb d_Kinds_ofFirst_61 (by decide) ?_
            refine lv_goto (tgt := 66) hx hb d_Kinds_ofFirst_62 (by decide) ?_
            exact ri_ hx hb hr hk (by rw [q_Kinds_ofFirst, if_pos c_1, if_neg c_2, if_neg c_4, if_pos c_6, if_neg c_7]) d_Kinds_ofFirst_66
        · refine lv_iload_n hx hb d_Kinds_ofFirst_47 rfl (lv_at hl 0 rfl) ?_
          refine lv_if_eq (tgt := 55) hx hb d_Kinds_ofFirst_48 (by decide) (fun c_8 => ?_) (fun c_8 => ?_)
          · refine lv_iconst (v := (0 : Int32)) hx hb d_Kinds_ofFirst_55 (by decide) ?_
            exact ri_ hx hb hr hk (by rw [q_Kinds_ofFirst, if_pos c_1, if_neg c_2, if_neg c_4, if_neg c_6, if_pos c_8]) d_Kinds_ofFirst_56
          · refine lv_iconst (v := (1 : Int32)) hx hb d_Kinds_ofFirst_51 (by decide) ?_
            refine lv_goto (tgt := 56) hx hb d_Kinds_ofFirst_52 (by decide) ?_
            exact ri_ hx hb hr hk (by rw [q_Kinds_ofFirst, if_pos c_1, if_neg c_2, if_neg c_4, if_neg c_6, if_neg c_8]) d_Kinds_ofFirst_56
  · refine gs_2 hq wt_90 d_Kinds_ofFirst_7 ?_
    refine lv_iload_n hx hb d_Kinds_ofFirst_10 rfl (lv_at hl 0 rfl) ?_
    refine lv_sipush (v := (167 : Int32)) hx hb d_Kinds_ofFirst_11 (by decide) ?_
    refine lv_isub hx hb d_Kinds_ofFirst_14 ?_
    refine si_ (As := [.ref (ad 2), .int (a0 - (167 : Int32))]) (rest := []) hq (c_Kinds_entry2 l A ad (a0 - (167 : Int32))) kB_Kinds_entry wt_84 ⟨rfl, rfl, Nat.le_of_ble_eq_true rfl, Nat.le_of_ble_eq_true rfl⟩ rfl hl.1 rfl (Nat.le_of_ble_eq_true rfl) d_Kinds_ofFirst_15 ⟨Nat.zero_le _, Nat.zero_le _⟩ ?_
    exact ri_ hx hb hr hk (by rw [q_Kinds_ofFirst, if_neg c_1]) d_Kinds_ofFirst_18
def q_Kinds_ofAnswer (a0 : Int32) : Int32 :=
  if a0 < (167 : Int32) then
    if (102 : Int32) < a0 then
      (q_Kinds_ofFirst a0)
    else
      (0 : Int32)
  else
    (q_Kinds_entry3 (a0 - (167 : Int32)))
theorem kB_Kinds_ofAnswer : SB y_Kinds_ofAnswer b_Kinds_ofAnswer 1 (some .int) 1 := ⟨wt_81, wt_80, wt_55, by decide +kernel⟩
set_option maxHeartbeats 4000000 in
set_option maxRecDepth 100000 in
theorem c_Kinds_ofAnswer (l : Launch) (A : Nat → Prop) (ad : Nat → Nat) (a0 : Int32) : Met l y_Kinds_ofAnswer (Cond.code y_Kinds_ofAnswer b_Kinds_ofAnswer 1 (some .int) :: BT) ({ frames := 3, cells := 0, slots := 0, locals := 62 }) (PC A ad [.int a0]) (vp_Si (fun r => r = q_Kinds_ofAnswer a0)) 0 0 (fun _ => False) := by
  refine pm_ (by decide +kernel) (Nat.le_of_ble_eq_true rfl) ?_
  intro p e s m below meth c hq hr hk ls hl
  have hx := hq.1
  have hb := hq.2.1
  have hts := hq.2.2.2.2.1
  have hl : lv_has ls 1 [(0, .int a0)] := hl
  refine lv_iload_n hx hb d_Kinds_ofAnswer_0 rfl (lv_at hl 0 rfl) ?_
  refine lv_sipush (v := (167 : Int32)) hx hb d_Kinds_ofAnswer_1 (by decide) ?_
  refine lv_icmp_lt (tgt := 19) hx hb d_Kinds_ofAnswer_4 (by decide) (fun c_1 => ?_) (fun c_1 => ?_)
  · refine lv_iload_n hx hb d_Kinds_ofAnswer_19 rfl (lv_at hl 0 rfl) ?_
    refine lv_bipush (v := (102 : Int32)) hx hb d_Kinds_ofAnswer_20 (by decide) ?_
    refine lv_icmp_gt (tgt := 29) hx hb d_Kinds_ofAnswer_22 (by decide) (fun c_2 => ?_) (fun c_2 => ?_)
    · refine lv_iload_n hx hb d_Kinds_ofAnswer_29 rfl (lv_at hl 0 rfl) ?_
      refine si_ (As := [.int a0]) (rest := []) hq (c_Kinds_ofFirst l A ad a0) kB_Kinds_ofFirst wt_87 ⟨rfl, rfl, Nat.le_of_ble_eq_true rfl, Nat.le_of_ble_eq_true rfl⟩ rfl hl.1 rfl (Nat.le_of_ble_eq_true rfl) d_Kinds_ofAnswer_30 ⟨Nat.zero_le _, Nat.zero_le _⟩ ?_
      exact ri_ hx hb hr hk (by rw [q_Kinds_ofAnswer, if_pos c_1, if_pos c_2]) d_Kinds_ofAnswer_33
    · refine lv_iconst (v := (0 : Int32)) hx hb d_Kinds_ofAnswer_25 (by decide) ?_
      refine lv_goto (tgt := 33) hx hb d_Kinds_ofAnswer_26 (by decide) ?_
      exact ri_ hx hb hr hk (by rw [q_Kinds_ofAnswer, if_pos c_1, if_neg c_2]) d_Kinds_ofAnswer_33
  · refine gs_3 hq wt_82 d_Kinds_ofAnswer_7 ?_
    refine lv_iload_n hx hb d_Kinds_ofAnswer_10 rfl (lv_at hl 0 rfl) ?_
    refine lv_sipush (v := (167 : Int32)) hx hb d_Kinds_ofAnswer_11 (by decide) ?_
    refine lv_isub hx hb d_Kinds_ofAnswer_14 ?_
    refine si_ (As := [.ref (ad 3), .int (a0 - (167 : Int32))]) (rest := []) hq (c_Kinds_entry3 l A ad (a0 - (167 : Int32))) kB_Kinds_entry wt_84 ⟨rfl, rfl, Nat.le_of_ble_eq_true rfl, Nat.le_of_ble_eq_true rfl⟩ rfl hl.1 rfl (Nat.le_of_ble_eq_true rfl) d_Kinds_ofAnswer_15 ⟨Nat.zero_le _, Nat.zero_le _⟩ ?_
    exact ri_ hx hb hr hk (by rw [q_Kinds_ofAnswer, if_neg c_1]) d_Kinds_ofAnswer_18
def q_Kinds_hasOneValue (a0 : Int32) : Int32 :=
  if (q_Operations_of32 a0) = (69 : Int32) then
    (1 : Int32)
  else
    if (q_Operations_of32 a0) < (103 : Int32) then
      if (q_Operations_of32 a0) < (139 : Int32) then
        if (q_Operations_of32 a0) < (167 : Int32) then
          (0 : Int32)
        else
          (1 : Int32)
      else
        if (q_Operations_of32 a0) ≤ (145 : Int32) then
          (1 : Int32)
        else
          if (q_Operations_of32 a0) < (167 : Int32) then
            (0 : Int32)
          else
            (1 : Int32)
    else
      if (q_Operations_of32 a0) ≤ (105 : Int32) then
        (1 : Int32)
      else
        if (q_Operations_of32 a0) < (139 : Int32) then
          if (q_Operations_of32 a0) < (167 : Int32) then
            (0 : Int32)
          else
            (1 : Int32)
        else
          if (q_Operations_of32 a0) ≤ (145 : Int32) then
            (1 : Int32)
          else
            if (q_Operations_of32 a0) < (167 : Int32) then
              (0 : Int32)
            else
              (1 : Int32)
theorem kB_Kinds_hasOneValue : SB y_Kinds_hasOneValue b_Kinds_hasOneValue 2 (some .boolean) 1 := ⟨wt_105, wt_104, wt_55, by decide +kernel⟩
set_option maxHeartbeats 4000000 in
set_option maxRecDepth 100000 in
theorem c_Kinds_hasOneValue (l : Launch) (A : Nat → Prop) (ad : Nat → Nat) (a0 : Int32) : Met l y_Kinds_hasOneValue (Cond.code y_Kinds_hasOneValue b_Kinds_hasOneValue 2 (some .boolean) :: BT) ({ frames := 2, cells := 0, slots := 0, locals := 40 }) (PC A ad [.int a0]) (vp_Si (fun r => r = q_Kinds_hasOneValue a0)) 0 0 (fun _ => False) := by
  refine pm_ (by decide +kernel) (Nat.le_of_ble_eq_true rfl) ?_
  intro p e s m below meth c hq hr hk ls hl
  have hx := hq.1
  have hb := hq.2.1
  have hts := hq.2.2.2.2.1
  have hl : lv_has ls 2 [(0, .int a0)] := hl
  refine lv_iload_n hx hb d_Kinds_hasOneValue_0 rfl (lv_at hl 0 rfl) ?_
  refine si_ (As := [.int a0]) (rest := []) hq (c_Operations_of32 l A ad a0) kB_Operations_of32 wt_92 ⟨rfl, rfl, Nat.le_of_ble_eq_true rfl, Nat.le_of_ble_eq_true rfl⟩ rfl hl.1 rfl (Nat.le_of_ble_eq_true rfl) d_Kinds_hasOneValue_1 ⟨Nat.zero_le _, Nat.zero_le _⟩ ?_
  refine lv_istore_n (lv' := [(1, .int (q_Operations_of32 a0)), (0, .int a0)]) hx hb d_Kinds_hasOneValue_4 rfl hl (by decide) rfl (fun ls hl => ?_)
  refine lv_iload_n hx hb d_Kinds_hasOneValue_5 rfl (lv_at hl 0 rfl) ?_
  refine lv_bipush (v := (69 : Int32)) hx hb d_Kinds_hasOneValue_6 (by decide) ?_
  refine lv_icmp_eq (tgt := 44) hx hb d_Kinds_hasOneValue_8 (by decide) (fun c_1 => ?_) (fun c_1 => ?_)
  · refine lv_iconst (v := (1 : Int32)) hx hb d_Kinds_hasOneValue_44 (by decide) ?_
    refine lv_goto (tgt := 49) hx hb d_Kinds_hasOneValue_45 (by decide) ?_
    exact rz_ hx hb hr hk (by decide) (by rw [q_Kinds_hasOneValue, if_pos c_1]) d_Kinds_hasOneValue_49
  · refine lv_iload_n hx hb d_Kinds_hasOneValue_11 rfl (lv_at hl 0 rfl) ?_
    refine lv_bipush (v := (103 : Int32)) hx hb d_Kinds_hasOneValue_12 (by decide) ?_
    refine lv_icmp_lt (tgt := 23) hx hb d_Kinds_hasOneValue_14 (by decide) (fun c_2 => ?_) (fun c_2 => ?_)
    · refine lv_iload_n hx hb d_Kinds_hasOneValue_23 rfl (lv_at hl 0 rfl) ?_
      refine lv_sipush (v := (139 : Int32)) hx hb d_Kinds_hasOneValue_24 (by decide) ?_
      refine lv_icmp_lt (tgt := 37) hx hb d_Kinds_hasOneValue_27 (by decide) (fun c_3 => ?_) (fun c_3 => ?_)
      · refine lv_iload_n hx hb d_Kinds_hasOneValue_37 rfl (lv_at hl 0 rfl) ?_
        refine lv_sipush (v := (167 : Int32)) hx hb d_Kinds_hasOneValue_38 (by decide) ?_
        refine lv_icmp_lt (tgt := 48) hx hb d_Kinds_hasOneValue_41 (by decide) (fun c_4 => ?_) (fun c_4 => ?_)
        · refine lv_iconst (v := (0 : Int32)) hx hb d_Kinds_hasOneValue_48 (by decide) ?_
          exact rz_ hx hb hr hk (by decide) (by rw [q_Kinds_hasOneValue, if_neg c_1, if_pos c_2, if_pos c_3, if_pos c_4]) d_Kinds_hasOneValue_49
        · refine lv_iconst (v := (1 : Int32)) hx hb d_Kinds_hasOneValue_44 (by decide) ?_
          refine lv_goto (tgt := 49) hx hb d_Kinds_hasOneValue_45 (by decide) ?_
          exact rz_ hx hb hr hk (by decide) (by rw [q_Kinds_hasOneValue, if_neg c_1, if_pos c_2, if_pos c_3, if_neg c_4]) d_Kinds_hasOneValue_49
      · refine lv_iload_n hx hb d_Kinds_hasOneValue_30 rfl (lv_at hl 0 rfl) ?_
        refine lv_sipush (v := (145 : Int32)) hx hb d_Kinds_hasOneValue_31 (by decide) ?_
        refine lv_icmp_le (tgt := 44) hx hb d_Kinds_hasOneValue_34 (by decide) (fun c_5 => ?_) (fun c_5 => ?_)
        · refine lv_iconst (v := (1 : Int32)) hx hb d_Kinds_hasOneValue_44 (by decide) ?_
          refine lv_goto (tgt := 49) hx hb d_Kinds_hasOneValue_45 (by decide) ?_
          exact rz_ hx hb hr hk (by decide) (by rw [q_Kinds_hasOneValue, if_neg c_1, if_pos c_2, if_neg c_3, if_pos c_5]) d_Kinds_hasOneValue_49
        · refine lv_iload_n hx hb d_Kinds_hasOneValue_37 rfl (lv_at hl 0 rfl) ?_
          refine lv_sipush (v := (167 : Int32)) hx hb d_Kinds_hasOneValue_38 (by decide) ?_
          refine lv_icmp_lt (tgt := 48) hx hb d_Kinds_hasOneValue_41 (by decide) (fun c_6 => ?_) (fun c_6 => ?_)
          · refine lv_iconst (v := (0 : Int32)) hx hb d_Kinds_hasOneValue_48 (by decide) ?_
            exact rz_ hx hb hr hk (by decide) (by rw [q_Kinds_hasOneValue, if_neg c_1, if_pos c_2, if_neg c_3, if_neg c_5, if_pos c_6]) d_Kinds_hasOneValue_49
          · refine lv_iconst (v := (1 : Int32)) hx hb d_Kinds_hasOneValue_44 (by decide) ?_
            refine lv_goto (tgt := 49) hx hb d_Kinds_hasOneValue_45 (by decide) ?_
            exact rz_ hx hb hr hk (by decide) (by rw [q_Kinds_hasOneValue, if_neg c_1, if_pos c_2, if_neg c_3, if_neg c_5, if_neg c_6]) d_Kinds_hasOneValue_49
    · refine lv_iload_n hx hb d_Kinds_hasOneValue_17 rfl (lv_at hl 0 rfl) ?_
      refine lv_bipush (v := (105 : Int32)) hx hb d_Kinds_hasOneValue_18 (by decide) ?_
      refine lv_icmp_le (tgt := 44) hx hb d_Kinds_hasOneValue_20 (by decide) (fun c_7 => ?_) (fun c_7 => ?_)
      · refine lv_iconst (v := (1 : Int32)) hx hb d_Kinds_hasOneValue_44 (by decide) ?_
        refine lv_goto (tgt := 49) hx hb d_Kinds_hasOneValue_45 (by decide) ?_
        exact rz_ hx hb hr hk (by decide) (by rw [q_Kinds_hasOneValue, if_neg c_1, if_neg c_2, if_pos c_7]) d_Kinds_hasOneValue_49
      · refine lv_iload_n hx hb d_Kinds_hasOneValue_23 rfl (lv_at hl 0 rfl) ?_
        refine lv_sipush (v := (139 : Int32)) hx hb d_Kinds_hasOneValue_24 (by decide) ?_
        refine lv_icmp_lt (tgt := 37) hx hb d_Kinds_hasOneValue_27 (by decide) (fun c_8 => ?_) (fun c_8 => ?_)
        · refine lv_iload_n hx hb d_Kinds_hasOneValue_37 rfl (lv_at hl 0 rfl) ?_
          refine lv_sipush (v := (167 : Int32)) hx hb d_Kinds_hasOneValue_38 (by decide) ?_
          refine lv_icmp_lt (tgt := 48) hx hb d_Kinds_hasOneValue_41 (by decide) (fun c_9 => ?_) (fun c_9 => ?_)
          · refine lv_iconst (v := (0 : Int32)) hx hb d_Kinds_hasOneValue_48 (by decide) ?_
            exact rz_ hx hb hr hk (by decide) (by rw [q_Kinds_hasOneValue, if_neg c_1, if_neg c_2, if_neg c_7, if_pos c_8, if_pos c_9]) d_Kinds_hasOneValue_49
          · refine lv_iconst (v := (1 : Int32)) hx hb d_Kinds_hasOneValue_44 (by decide) ?_
            refine lv_goto (tgt := 49) hx hb d_Kinds_hasOneValue_45 (by decide) ?_
            exact rz_ hx hb hr hk (by decide) (by rw [q_Kinds_hasOneValue, if_neg c_1, if_neg c_2, if_neg c_7, if_pos c_8, if_neg c_9]) d_Kinds_hasOneValue_49
        · refine lv_iload_n hx hb d_Kinds_hasOneValue_30 rfl (lv_at hl 0 rfl) ?_
          refine lv_sipush (v := (145 : Int32)) hx hb d_Kinds_hasOneValue_31 (by decide) ?_
          refine lv_icmp_le (tgt := 44) hx hb d_Kinds_hasOneValue_34 (by decide) (fun c_10 => ?_) (fun c_10 => ?_)
          · refine lv_iconst (v := (1 : Int32)) hx hb d_Kinds_hasOneValue_44 (by decide) ?_
            refine lv_goto (tgt := 49) hx hb d_Kinds_hasOneValue_45 (by decide) ?_
            exact rz_ hx hb hr hk (by decide) (by rw [q_Kinds_hasOneValue, if_neg c_1, if_neg c_2, if_neg c_7, if_neg c_8, if_pos c_10]) d_Kinds_hasOneValue_49
          · refine lv_iload_n hx hb d_Kinds_hasOneValue_37 rfl (lv_at hl 0 rfl) ?_
            refine lv_sipush (v := (167 : Int32)) hx hb d_Kinds_hasOneValue_38 (by decide) ?_
            refine lv_icmp_lt (tgt := 48) hx hb d_Kinds_hasOneValue_41 (by decide) (fun c_11 => ?_) (fun c_11 => ?_)
            · refine lv_iconst (v := (0 : Int32)) hx hb d_Kinds_hasOneValue_48 (by decide) ?_
              exact rz_ hx hb hr hk (by decide) (by rw [q_Kinds_hasOneValue, if_neg c_1, if_neg c_2, if_neg c_7, if_neg c_8, if_neg c_10, if_pos c_11]) d_Kinds_hasOneValue_49
            · refine lv_iconst (v := (1 : Int32)) hx hb d_Kinds_hasOneValue_44 (by decide) ?_
              refine lv_goto (tgt := 49) hx hb d_Kinds_hasOneValue_45 (by decide) ?_
              exact rz_ hx hb hr hk (by decide) (by rw [q_Kinds_hasOneValue, if_neg c_1, if_neg c_2, if_neg c_7, if_neg c_8, if_neg c_10, if_neg c_11]) d_Kinds_hasOneValue_49
def q_Kinds_ofSecond (a0 : Int32) : Int32 :=
  if (q_Kinds_hasOneValue a0) = 0 then
    (q_Kinds_ofFirst a0)
  else
    (-1 : Int32)
theorem kB_Kinds_ofSecond : SB y_Kinds_ofSecond b_Kinds_ofSecond 1 (some .int) 1 := ⟨wt_102, wt_101, wt_55, by decide +kernel⟩
set_option maxHeartbeats 4000000 in
set_option maxRecDepth 100000 in
theorem c_Kinds_ofSecond (l : Launch) (A : Nat → Prop) (ad : Nat → Nat) (a0 : Int32) : Met l y_Kinds_ofSecond (Cond.code y_Kinds_ofSecond b_Kinds_ofSecond 1 (some .int) :: BT) ({ frames := 3, cells := 0, slots := 0, locals := 62 }) (PC A ad [.int a0]) (vp_Si (fun r => r = q_Kinds_ofSecond a0)) 0 0 (fun _ => False) := by
  refine pm_ (by decide +kernel) (Nat.le_of_ble_eq_true rfl) ?_
  intro p e s m below meth c hq hr hk ls hl
  have hx := hq.1
  have hb := hq.2.1
  have hts := hq.2.2.2.2.1
  have hl : lv_has ls 1 [(0, .int a0)] := hl
  refine lv_iload_n hx hb d_Kinds_ofSecond_0 rfl (lv_at hl 0 rfl) ?_
  refine si_ (As := [.int a0]) (rest := []) hq (c_Kinds_hasOneValue l A ad a0) kB_Kinds_hasOneValue wt_103 ⟨rfl, rfl, Nat.le_of_ble_eq_true rfl, Nat.le_of_ble_eq_true rfl⟩ rfl hl.1 rfl (Nat.le_of_ble_eq_true rfl) d_Kinds_ofSecond_1 ⟨Nat.zero_le _, Nat.zero_le _⟩ ?_
  refine lv_if_eq (tgt := 11) hx hb d_Kinds_ofSecond_4 (by decide) (fun c_1 => ?_) (fun c_1 => ?_)
  · refine lv_iload_n hx hb d_Kinds_ofSecond_11 rfl (lv_at hl 0 rfl) ?_
    refine si_ (As := [.int a0]) (rest := []) hq (c_Kinds_ofFirst l A ad a0) kB_Kinds_ofFirst wt_87 ⟨rfl, rfl, Nat.le_of_ble_eq_true rfl, Nat.le_of_ble_eq_true rfl⟩ rfl hl.1 rfl (Nat.le_of_ble_eq_true rfl) d_Kinds_ofSecond_12 ⟨Nat.zero_le _, Nat.zero_le _⟩ ?_
    exact ri_ hx hb hr hk (by rw [q_Kinds_ofSecond, if_pos c_1]) d_Kinds_ofSecond_15
  · refine lv_iconst (v := (-1 : Int32)) hx hb d_Kinds_ofSecond_7 (by decide) ?_
    refine lv_goto (tgt := 15) hx hb d_Kinds_ofSecond_8 (by decide) ?_
    exact ri_ hx hb hr hk (by rw [q_Kinds_ofSecond, if_neg c_1]) d_Kinds_ofSecond_15
