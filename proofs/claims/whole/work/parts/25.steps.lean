def q_Steps_goesAway (a0 : Int32) (a1 : Int64) : Int32 :=
  if a0 = (141 : Int32) then
    if a1 = (0 : Int64) then
      (1 : Int32)
    else
      if a0 = (142 : Int32) then
        if a1 = (0 : Int64) then
          (0 : Int32)
        else
          (1 : Int32)
      else
        (0 : Int32)
  else
    if a0 = (142 : Int32) then
      if a1 = (0 : Int64) then
        (0 : Int32)
      else
        (1 : Int32)
    else
      (0 : Int32)
theorem kB_Steps_goesAway : SB y_Steps_goesAway b_Steps_goesAway 3 (some .boolean) 2 := ⟨wt_457, wt_456, wt_54, by decide +kernel⟩
set_option maxHeartbeats 4000000 in
set_option maxRecDepth 100000 in
theorem c_Steps_goesAway (l : Launch) (A : Nat → Prop) (ad : Nat → Nat) (a0 : Int32) (a1 : Int64) : Met l y_Steps_goesAway (Cond.code y_Steps_goesAway b_Steps_goesAway 3 (some .boolean) :: BT) ({ frames := 0, cells := 0, slots := 0, locals := 0 }) (PC A ad [.int a0, .long a1]) (vp_Si (fun r => r = q_Steps_goesAway a0 a1)) 0 0 (fun _ => False) := by
  refine pm_ (by decide +kernel) (Nat.le_of_ble_eq_true rfl) ?_
  intro p e s m below meth c hq hr hk ls hl
  have hx := hq.1
  have hb := hq.2.1
  have hts := hq.2.2.2.2.1
  have hl : lv_has ls 3 [(0, .int a0), (1, .long a1)] := hl
  refine lv_iload_n hx hb d_Steps_goesAway_0 rfl (lv_at hl 0 rfl) ?_
  refine lv_sipush (v := (141 : Int32)) hx hb d_Steps_goesAway_1 (by decide) ?_
  refine lv_icmp_ne (tgt := 13) hx hb d_Steps_goesAway_4 (by decide) (fun c_1 => ?_) (fun c_1 => ?_)
  · refine lv_iload_n hx hb d_Steps_goesAway_13 rfl (lv_at hl 0 rfl) ?_
    refine lv_sipush (v := (142 : Int32)) hx hb d_Steps_goesAway_14 (by decide) ?_
    refine lv_icmp_ne (tgt := 30) hx hb d_Steps_goesAway_17 (by decide) (fun c_2 => ?_) (fun c_2 => ?_)
    · refine lv_iconst (v := (0 : Int32)) hx hb d_Steps_goesAway_30 (by decide) ?_
      exact rz_ hx hb hr hk (by decide) (by rw [q_Steps_goesAway, if_neg c_1, if_neg c_2]) d_Steps_goesAway_31
    · refine lv_lload_n hx hb d_Steps_goesAway_20 rfl (lv_at hl 1 rfl) ?_
      refine lv_lconst (v := (0 : Int64)) hx hb d_Steps_goesAway_21 (by decide) ?_
      refine W.lcmp hx hb d_Steps_goesAway_22 ?_
      refine lv_if_eq (tgt := 30) hx hb d_Steps_goesAway_23 (by decide) (fun c_3 => ?_) (fun c_3 => ?_)
      · rw [lg_cmp_eq] at c_3
        refine lv_iconst (v := (0 : Int32)) hx hb d_Steps_goesAway_30 (by decide) ?_
        exact rz_ hx hb hr hk (by decide) (by rw [q_Steps_goesAway, if_neg c_1, if_pos c_2, if_pos c_3]) d_Steps_goesAway_31
      · rw [lg_cmp_eq] at c_3
        refine lv_iconst (v := (1 : Int32)) hx hb d_Steps_goesAway_26 (by decide) ?_
        refine lv_goto (tgt := 31) hx hb d_Steps_goesAway_27 (by decide) ?_
        exact rz_ hx hb hr hk (by decide) (by rw [q_Steps_goesAway, if_neg c_1, if_pos c_2, if_neg c_3]) d_Steps_goesAway_31
  · refine lv_lload_n hx hb d_Steps_goesAway_7 rfl (lv_at hl 1 rfl) ?_
    refine lv_lconst (v := (0 : Int64)) hx hb d_Steps_goesAway_8 (by decide) ?_
    refine W.lcmp hx hb d_Steps_goesAway_9 ?_
    refine lv_if_eq (tgt := 26) hx hb d_Steps_goesAway_10 (by decide) (fun c_4 => ?_) (fun c_4 => ?_)
    · rw [lg_cmp_eq] at c_4
      refine lv_iconst (v := (1 : Int32)) hx hb d_Steps_goesAway_26 (by decide) ?_
      refine lv_goto (tgt := 31) hx hb d_Steps_goesAway_27 (by decide) ?_
      exact rz_ hx hb hr hk (by decide) (by rw [q_Steps_goesAway, if_pos c_1, if_pos c_4]) d_Steps_goesAway_31
    · rw [lg_cmp_eq] at c_4
      refine lv_iload_n hx hb d_Steps_goesAway_13 rfl (lv_at hl 0 rfl) ?_
      refine lv_sipush (v := (142 : Int32)) hx hb d_Steps_goesAway_14 (by decide) ?_
      refine lv_icmp_ne (tgt := 30) hx hb d_Steps_goesAway_17 (by decide) (fun c_5 => ?_) (fun c_5 => ?_)
      · refine lv_iconst (v := (0 : Int32)) hx hb d_Steps_goesAway_30 (by decide) ?_
        exact rz_ hx hb hr hk (by decide) (by rw [q_Steps_goesAway, if_pos c_1, if_neg c_4, if_neg c_5]) d_Steps_goesAway_31
      · refine lv_lload_n hx hb d_Steps_goesAway_20 rfl (lv_at hl 1 rfl) ?_
        refine lv_lconst (v := (0 : Int64)) hx hb d_Steps_goesAway_21 (by decide) ?_
        refine W.lcmp hx hb d_Steps_goesAway_22 ?_
        refine lv_if_eq (tgt := 30) hx hb d_Steps_goesAway_23 (by decide) (fun c_6 => ?_) (fun c_6 => ?_)
        · rw [lg_cmp_eq] at c_6
          refine lv_iconst (v := (0 : Int32)) hx hb d_Steps_goesAway_30 (by decide) ?_
          exact rz_ hx hb hr hk (by decide) (by rw [q_Steps_goesAway, if_pos c_1, if_neg c_4, if_pos c_5, if_pos c_6]) d_Steps_goesAway_31
        · rw [lg_cmp_eq] at c_6
          refine lv_iconst (v := (1 : Int32)) hx hb d_Steps_goesAway_26 (by decide) ?_
          refine lv_goto (tgt := 31) hx hb d_Steps_goesAway_27 (by decide) ?_
          exact rz_ hx hb hr hk (by decide) (by rw [q_Steps_goesAway, if_pos c_1, if_neg c_4, if_pos c_5, if_neg c_6]) d_Steps_goesAway_31
def q_Steps_isNearerAway (a0 : Int64) (a1 : Int64) (a2 : Int64) : Int32 :=
  if (ush_ a2 (1 : Int32)) < a1 then
    (1 : Int32)
  else
    if a1 = (ush_ a2 (1 : Int32)) then
      if (a0 &&& a2) = (0 : Int64) then
        (0 : Int32)
      else
        (1 : Int32)
    else
      (0 : Int32)
theorem kB_Steps_isNearerAway : SB y_Steps_isNearerAway b_Steps_isNearerAway 8 (some .boolean) 3 := ⟨wt_463, wt_462, wt_54, by decide +kernel⟩
set_option maxHeartbeats 4000000 in
set_option maxRecDepth 100000 in
theorem c_Steps_isNearerAway (l : Launch) (A : Nat → Prop) (ad : Nat → Nat) (a0 : Int64) (a1 : Int64) (a2 : Int64) : Met l y_Steps_isNearerAway (Cond.code y_Steps_isNearerAway b_Steps_isNearerAway 8 (some .boolean) :: BT) ({ frames := 0, cells := 0, slots := 0, locals := 0 }) (PC A ad [.long a0, .long a1, .long a2]) (vp_Si (fun r => r = q_Steps_isNearerAway a0 a1 a2)) 0 0 (fun _ => False) := by
  refine pm_ (by decide +kernel) (Nat.le_of_ble_eq_true rfl) ?_
  intro p e s m below meth c hq hr hk ls hl
  have hx := hq.1
  have hb := hq.2.1
  have hts := hq.2.2.2.2.1
  have hl : lv_has ls 8 [(0, .long a0), (2, .long a1), (4, .long a2)] := hl
  refine lv_lload hx hb d_Steps_isNearerAway_0 (lv_at hl 2 rfl) ?_
  refine lv_iconst (v := (1 : Int32)) hx hb d_Steps_isNearerAway_2 (by decide) ?_
  refine lv_lushr (v := (ush_ a2 (1 : Int32))) hx hb d_Steps_isNearerAway_3 rfl ?_
  refine lv_lstore (lv' := [(6, .long (ush_ a2 (1 : Int32))), (0, .long a0), (2, .long a1), (4, .long a2)]) hx hb d_Steps_isNearerAway_4 hl (by decide) rfl (fun ls hl => ?_)
  refine lv_lload_n hx hb d_Steps_isNearerAway_6 rfl (lv_at hl 2 rfl) ?_
  refine lv_lload hx hb d_Steps_isNearerAway_7 (lv_at hl 0 rfl) ?_
  refine W.lcmp hx hb d_Steps_isNearerAway_9 ?_
  refine lv_if_gt (tgt := 29) hx hb d_Steps_isNearerAway_10 (by decide) (fun c_1 => ?_) (fun c_1 => ?_)
  · rw [lg_cmp_gt] at c_1
    refine lv_iconst (v := (1 : Int32)) hx hb d_Steps_isNearerAway_29 (by decide) ?_
    refine lv_goto (tgt := 34) hx hb d_Steps_isNearerAway_30 (by decide) ?_
    exact rz_ hx hb hr hk (by decide) (by rw [q_Steps_isNearerAway, if_pos c_1]) d_Steps_isNearerAway_34
  · rw [lg_cmp_gt] at c_1
    refine lv_lload_n hx hb d_Steps_isNearerAway_13 rfl (lv_at hl 2 rfl) ?_
    refine lv_lload hx hb d_Steps_isNearerAway_14 (lv_at hl 0 rfl) ?_
    refine W.lcmp hx hb d_Steps_isNearerAway_16 ?_
    refine lv_if_ne (tgt := 33) hx hb d_Steps_isNearerAway_17 (by decide) (fun c_2 => ?_) (fun c_2 => ?_)
    · rw [lg_cmp_eq] at c_2
      refine lv_iconst (v := (0 : Int32)) hx hb d_Steps_isNearerAway_33 (by decide) ?_
      exact rz_ hx hb hr hk (by decide) (by rw [q_Steps_isNearerAway, if_neg c_1, if_neg c_2]) d_Steps_isNearerAway_34
    · rw [lg_cmp_eq] at c_2
      refine lv_lload_n hx hb d_Steps_isNearerAway_20 rfl (lv_at hl 1 rfl) ?_
      refine lv_lload hx hb d_Steps_isNearerAway_21 (lv_at hl 3 rfl) ?_
      refine lv_land hx hb d_Steps_isNearerAway_23 ?_
      refine lv_lconst (v := (0 : Int64)) hx hb d_Steps_isNearerAway_24 (by decide) ?_
      refine W.lcmp hx hb d_Steps_isNearerAway_25 ?_
      refine lv_if_eq (tgt := 33) hx hb d_Steps_isNearerAway_26 (by decide) (fun c_3 => ?_) (fun c_3 => ?_)
      · rw [lg_cmp_eq] at c_3
        refine lv_iconst (v := (0 : Int32)) hx hb d_Steps_isNearerAway_33 (by decide) ?_
        exact rz_ hx hb hr hk (by decide) (by rw [q_Steps_isNearerAway, if_neg c_1, if_pos c_2, if_pos c_3]) d_Steps_isNearerAway_34
      · rw [lg_cmp_eq] at c_3
        refine lv_iconst (v := (1 : Int32)) hx hb d_Steps_isNearerAway_29 (by decide) ?_
        refine lv_goto (tgt := 34) hx hb d_Steps_isNearerAway_30 (by decide) ?_
        exact rz_ hx hb hr hk (by decide) (by rw [q_Steps_isNearerAway, if_neg c_1, if_pos c_2, if_neg c_3]) d_Steps_isNearerAway_34
def q_Steps_fromOneOn (a0 : Int32) (j1 : Nat) (a2 : Int64) (a3 : Int32) : Int64 :=
  if (a2 &&& ((shl_ (1 : Int64) a3) - (1 : Int64))) = (0 : Int64) then
    a2
  else
    if a0 = (144 : Int32) then
      if (q_Steps_isNearerAway (a2 - (a2 &&& ((shl_ (1 : Int64) a3) - (1 : Int64)))) (a2 &&& ((shl_ (1 : Int64) a3) - (1 : Int64))) (shl_ (1 : Int64) a3)) = 0 then
        (a2 - (a2 &&& ((shl_ (1 : Int64) a3) - (1 : Int64))))
      else
        ((a2 - (a2 &&& ((shl_ (1 : Int64) a3) - (1 : Int64)))) + (shl_ (1 : Int64) a3))
    else
      if (q_Steps_goesAway a0 (q_Form_sign j1 a2)) = 0 then
        (a2 - (a2 &&& ((shl_ (1 : Int64) a3) - (1 : Int64))))
      else
        ((a2 - (a2 &&& ((shl_ (1 : Int64) a3) - (1 : Int64)))) + (shl_ (1 : Int64) a3))
theorem kB_Steps_fromOneOn : SB y_Steps_fromOneOn b_Steps_fromOneOn 12 (some .long) 4 := ⟨wt_460, wt_459, wt_54, by decide +kernel⟩
set_option maxHeartbeats 4000000 in
set_option maxRecDepth 100000 in
theorem c_Steps_fromOneOn (l : Launch) (A : Nat → Prop) (ad : Nat → Nat) (a0 : Int32) (j1 : Nat) (hj1 : j1 < 2) (a2 : Int64) (a3 : Int32) : Met l y_Steps_fromOneOn (Cond.code y_Steps_fromOneOn b_Steps_fromOneOn 12 (some .long) :: BT) ({ frames := 1, cells := 0, slots := 0, locals := 27 }) (PC A ad [.int a0, .ref (ad j1), .long a2, .int a3]) (vp_Sl (fun r => r = q_Steps_fromOneOn a0 j1 a2 a3)) 0 0 (fun _ => False) := by
  refine pm_ (by decide +kernel) (Nat.le_of_ble_eq_true rfl) ?_
  intro p e s m below meth c hq hr hk ls hl
  have hx := hq.1
  have hb := hq.2.1
  have hts := hq.2.2.2.2.1
  have hl : lv_has ls 12 [(0, .int a0), (1, .ref (ad j1)), (2, .long a2), (4, .int a3)] := hl
  refine lv_lconst (v := (1 : Int64)) hx hb d_Steps_fromOneOn_0 (by decide) ?_
  refine lv_iload hx hb d_Steps_fromOneOn_1 (lv_at hl 3 rfl) ?_
  refine lv_lshl (v := (shl_ (1 : Int64) a3)) hx hb d_Steps_fromOneOn_3 rfl ?_
  refine lv_lstore (lv' := [(5, .long (shl_ (1 : Int64) a3)), (0, .int a0), (1, .ref (ad j1)), (2, .long a2), (4, .int a3)]) hx hb d_Steps_fromOneOn_4 hl (by decide) rfl (fun ls hl => ?_)
  refine lv_lload_n hx hb d_Steps_fromOneOn_6 rfl (lv_at hl 3 rfl) ?_
  refine lv_lload hx hb d_Steps_fromOneOn_7 (lv_at hl 0 rfl) ?_
  refine lv_lconst (v := (1 : Int64)) hx hb d_Steps_fromOneOn_9 (by decide) ?_
  refine lv_lsub hx hb d_Steps_fromOneOn_10 ?_
  refine lv_land hx hb d_Steps_fromOneOn_11 ?_
  refine lv_lstore (lv' := [(7, .long (a2 &&& ((shl_ (1 : Int64) a3) - (1 : Int64)))), (5, .long (shl_ (1 : Int64) a3)), (0, .int a0), (1, .ref (ad j1)), (2, .long a2), (4, .int a3)]) hx hb d_Steps_fromOneOn_12 hl (by decide) rfl (fun ls hl => ?_)
  refine lv_lload_n hx hb d_Steps_fromOneOn_14 rfl (lv_at hl 4 rfl) ?_
  refine lv_lload hx hb d_Steps_fromOneOn_15 (lv_at hl 0 rfl) ?_
  refine lv_lsub hx hb d_Steps_fromOneOn_17 ?_
  refine lv_lstore (lv' := [(9, .long (a2 - (a2 &&& ((shl_ (1 : Int64) a3) - (1 : Int64))))), (7, .long (a2 &&& ((shl_ (1 : Int64) a3) - (1 : Int64)))), (5, .long (shl_ (1 : Int64) a3)), (0, .int a0), (1, .ref (ad j1)), (2, .long a2), (4, .int a3)]) hx hb d_Steps_fromOneOn_18 hl (by decide) rfl (fun ls hl => ?_)
  refine lv_lload hx hb d_Steps_fromOneOn_20 (lv_at hl 1 rfl) ?_
  refine lv_lconst (v := (0 : Int64)) hx hb d_Steps_fromOneOn_22 (by decide) ?_
  refine W.lcmp hx hb d_Steps_fromOneOn_23 ?_
  refine lv_if_ne (tgt := 29) hx hb d_Steps_fromOneOn_24 (by decide) (fun c_1 => ?_) (fun c_1 => ?_)
  · rw [lg_cmp_eq] at c_1
    refine lv_iload_n hx hb d_Steps_fromOneOn_29 rfl (lv_at hl 3 rfl) ?_
    refine lv_sipush (v := (144 : Int32)) hx hb d_Steps_fromOneOn_30 (by decide) ?_
    refine lv_icmp_ne (tgt := 48) hx hb d_Steps_fromOneOn_33 (by decide) (fun c_2 => ?_) (fun c_2 => ?_)
    · refine lv_iload_n hx hb d_Steps_fromOneOn_48 rfl (lv_at hl 3 rfl) ?_
      refine lv_aload_n hx hb d_Steps_fromOneOn_49 rfl (lv_at hl 4 rfl) ?_
      refine lv_lload_n hx hb d_Steps_fromOneOn_50 rfl (lv_at hl 5 rfl) ?_
      refine vl_ (As := [.long a2]) (rest := [.int a0]) hq hj1 (c_Form_sign l A ad j1 hj1 a2) kB_Form_sign wt_453 ⟨rfl, rfl, Nat.le_of_ble_eq_true rfl, Nat.le_of_ble_eq_true rfl⟩ rfl hl.1 rfl (Nat.le_of_ble_eq_true rfl) d_Steps_fromOneOn_51 ⟨Nat.zero_le _, Nat.zero_le _⟩ ?_
      refine si_ (As := [.int a0, .long (q_Form_sign j1 a2)]) (rest := []) hq (c_Steps_goesAway l A ad a0 (q_Form_sign j1 a2)) kB_Steps_goesAway wt_455 ⟨rfl, rfl, Nat.le_of_ble_eq_true rfl, Nat.le_of_ble_eq_true rfl⟩ rfl hl.1 rfl (Nat.le_of_ble_eq_true rfl) d_Steps_fromOneOn_54 ⟨Nat.zero_le _, Nat.zero_le _⟩ ?_
      refine lv_istore (lv' := [(11, .int (q_Steps_goesAway a0 (q_Form_sign j1 a2))), (9, .long (a2 - (a2 &&& ((shl_ (1 : Int64) a3) - (1 : Int64))))), (7, .long (a2 &&& ((shl_ (1 : Int64) a3) - (1 : Int64)))), (5, .long (shl_ (1 : Int64) a3)), (0, .int a0), (1, .ref (ad j1)), (2, .long a2), (4, .int a3)]) hx hb d_Steps_fromOneOn_57 hl (by decide) rfl (fun ls hl => ?_)
      refine lv_iload hx hb d_Steps_fromOneOn_59 (lv_at hl 0 rfl) ?_
      refine lv_if_eq (tgt := 72) hx hb d_Steps_fromOneOn_61 (by decide) (fun c_3 => ?_) (fun c_3 => ?_)
      · refine lv_lload hx hb d_Steps_fromOneOn_72 (lv_at hl 1 rfl) ?_
        exact rl_ hx hb hr hk (by rw [q_Steps_fromOneOn, if_neg c_1, if_neg c_2, if_pos c_3]) d_Steps_fromOneOn_74
      · refine lv_lload hx hb d_Steps_fromOneOn_64 (lv_at hl 1 rfl) ?_
        refine lv_lload hx hb d_Steps_fromOneOn_66 (lv_at hl 3 rfl) ?_
        refine lv_ladd hx hb d_Steps_fromOneOn_68 ?_
        refine lv_goto (tgt := 74) hx hb d_Steps_fromOneOn_69 (by decide) ?_
        exact rl_ hx hb hr hk (by rw [q_Steps_fromOneOn, if_neg c_1, if_neg c_2, if_neg c_3]) d_Steps_fromOneOn_74
    · refine lv_lload hx hb d_Steps_fromOneOn_36 (lv_at hl 0 rfl) ?_
      refine lv_lload hx hb d_Steps_fromOneOn_38 (lv_at hl 1 rfl) ?_
      refine lv_lload hx hb d_Steps_fromOneOn_40 (lv_at hl 2 rfl) ?_
      refine si_ (As := [.long (a2 - (a2 &&& ((shl_ (1 : Int64) a3) - (1 : Int64)))), .long (a2 &&& ((shl_ (1 : Int64) a3) - (1 : Int64))), .long (shl_ (1 : Int64) a3)]) (rest := []) hq (c_Steps_isNearerAway l A ad (a2 - (a2 &&& ((shl_ (1 : Int64) a3) - (1 : Int64)))) (a2 &&& ((shl_ (1 : Int64) a3) - (1 : Int64))) (shl_ (1 : Int64) a3)) kB_Steps_isNearerAway wt_461 ⟨rfl, rfl, Nat.le_of_ble_eq_true rfl, Nat.le_of_ble_eq_true rfl⟩ rfl hl.1 rfl (Nat.le_of_ble_eq_true rfl) d_Steps_fromOneOn_42 ⟨Nat.zero_le _, Nat.zero_le _⟩ ?_
      refine lv_goto (tgt := 57) hx hb d_Steps_fromOneOn_45 (by decide) ?_
      refine lv_istore (lv' := [(11, .int (q_Steps_isNearerAway (a2 - (a2 &&& ((shl_ (1 : Int64) a3) - (1 : Int64)))) (a2 &&& ((shl_ (1 : Int64) a3) - (1 : Int64))) (shl_ (1 : Int64) a3))), (9, .long (a2 - (a2 &&& ((shl_ (1 : Int64) a3) - (1 : Int64))))), (7, .long (a2 &&& ((shl_ (1 : Int64) a3) - (1 : Int64)))), (5, .long (shl_ (1 : Int64) a3)), (0, .int a0), (1, .ref (ad j1)), (2, .long a2), (4, .int a3)]) hx hb d_Steps_fromOneOn_57 hl (by decide) rfl (fun ls hl => ?_)
      refine lv_iload hx hb d_Steps_fromOneOn_59 (lv_at hl 0 rfl) ?_
      refine lv_if_eq (tgt := 72) hx hb d_Steps_fromOneOn_61 (by decide) (fun c_4 => ?_) (fun c_4 => ?_)
      · refine lv_lload hx hb d_Steps_fromOneOn_72 (lv_at hl 1 rfl) ?_
        exact rl_ hx hb hr hk (by rw [q_Steps_fromOneOn, if_neg c_1, if_pos c_2, if_pos c_4]) d_Steps_fromOneOn_74
      · refine lv_lload hx hb d_Steps_fromOneOn_64 (lv_at hl 1 rfl) ?_
        refine lv_lload hx hb d_Steps_fromOneOn_66 (lv_at hl 3 rfl) ?_
        refine lv_ladd hx hb d_Steps_fromOneOn_68 ?_
        refine lv_goto (tgt := 74) hx hb d_Steps_fromOneOn_69 (by decide) ?_
        exact rl_ hx hb hr hk (by rw [q_Steps_fromOneOn, if_neg c_1, if_pos c_2, if_neg c_4]) d_Steps_fromOneOn_74
  · rw [lg_cmp_eq] at c_1
    refine lv_lload_n hx hb d_Steps_fromOneOn_27 rfl (lv_at hl 5 rfl) ?_
    exact rl_ hx hb hr hk (by rw [q_Steps_fromOneOn, if_pos c_1]) d_Steps_fromOneOn_28
def q_Steps_belowOne (a0 : Int32) (j1 : Nat) (a2 : Int64) : Int64 :=
  if a0 = (144 : Int32) then
    if (q_Form_withoutSign j1 a2) ≤ (shl_ (Int32.toInt64 ((fm_b j1) - (1 : Int32))) (fm_f j1)) then
      (q_Form_sign j1 a2)
    else
      ((q_Form_sign j1 a2) ||| (shl_ (Int32.toInt64 (fm_b j1)) (fm_f j1)))
  else
    if (q_Steps_goesAway a0 (q_Form_sign j1 a2)) = 0 then
      (q_Form_sign j1 a2)
    else
      ((q_Form_sign j1 a2) ||| (shl_ (Int32.toInt64 (fm_b j1)) (fm_f j1)))
theorem kB_Steps_belowOne : SB y_Steps_belowOne b_Steps_belowOne 11 (some .long) 3 := ⟨wt_452, wt_451, wt_54, by decide +kernel⟩
set_option maxHeartbeats 4000000 in
set_option maxRecDepth 100000 in
theorem c_Steps_belowOne (l : Launch) (A : Nat → Prop) (ad : Nat → Nat) (a0 : Int32) (j1 : Nat) (hj1 : j1 < 2) (a2 : Int64) : Met l y_Steps_belowOne (Cond.code y_Steps_belowOne b_Steps_belowOne 11 (some .long) :: BT) ({ frames := 1, cells := 0, slots := 0, locals := 22 }) (PC A ad [.int a0, .ref (ad j1), .long a2]) (vp_Sl (fun r => r = q_Steps_belowOne a0 j1 a2)) 0 0 (fun _ => False) := by
  refine pm_ (by decide +kernel) (Nat.le_of_ble_eq_true rfl) ?_
  intro p e s m below meth c hq hr hk ls hl
  have hx := hq.1
  have hb := hq.2.1
  have hts := hq.2.2.2.2.1
  have hl : lv_has ls 11 [(0, .int a0), (1, .ref (ad j1)), (2, .long a2)] := hl
  refine lv_aload_n hx hb d_Steps_belowOne_0 rfl (lv_at hl 1 rfl) ?_
  refine lv_lload_n hx hb d_Steps_belowOne_1 rfl (lv_at hl 2 rfl) ?_
  refine vl_ (As := [.long a2]) (rest := []) hq hj1 (c_Form_sign l A ad j1 hj1 a2) kB_Form_sign wt_453 ⟨rfl, rfl, Nat.le_of_ble_eq_true rfl, Nat.le_of_ble_eq_true rfl⟩ rfl hl.1 rfl (Nat.le_of_ble_eq_true rfl) d_Steps_belowOne_2 ⟨Nat.zero_le _, Nat.zero_le _⟩ ?_
  refine lv_lstore (lv' := [(4, .long (q_Form_sign j1 a2)), (0, .int a0), (1, .ref (ad j1)), (2, .long a2)]) hx hb d_Steps_belowOne_5 hl (by decide) rfl (fun ls hl => ?_)
  refine lv_aload_n hx hb d_Steps_belowOne_7 rfl (lv_at hl 2 rfl) ?_
  refine gf_b hq hj1 wt_735 d_Steps_belowOne_8 ?_
  refine lv_i2l (v := (Int32.toInt64 (fm_b j1))) hx hb d_Steps_belowOne_11 rfl ?_
  refine lv_aload_n hx hb d_Steps_belowOne_12 rfl (lv_at hl 2 rfl) ?_
  refine gf_f hq hj1 wt_734 d_Steps_belowOne_13 ?_
  refine lv_lshl (v := (shl_ (Int32.toInt64 (fm_b j1)) (fm_f j1))) hx hb d_Steps_belowOne_16 rfl ?_
  refine lv_lstore (lv' := [(6, .long (shl_ (Int32.toInt64 (fm_b j1)) (fm_f j1))), (4, .long (q_Form_sign j1 a2)), (0, .int a0), (1, .ref (ad j1)), (2, .long a2)]) hx hb d_Steps_belowOne_17 hl (by decide) rfl (fun ls hl => ?_)
  refine lv_aload_n hx hb d_Steps_belowOne_19 rfl (lv_at hl 3 rfl) ?_
  refine gf_b hq hj1 wt_735 d_Steps_belowOne_20 ?_
  refine lv_iconst (v := (1 : Int32)) hx hb d_Steps_belowOne_23 (by decide) ?_
  refine lv_isub hx hb d_Steps_belowOne_24 ?_
  refine lv_i2l (v := (Int32.toInt64 ((fm_b j1) - (1 : Int32)))) hx hb d_Steps_belowOne_25 rfl ?_
  refine lv_aload_n hx hb d_Steps_belowOne_26 rfl (lv_at hl 3 rfl) ?_
  refine gf_f hq hj1 wt_734 d_Steps_belowOne_27 ?_
  refine lv_lshl (v := (shl_ (Int32.toInt64 ((fm_b j1) - (1 : Int32))) (fm_f j1))) hx hb d_Steps_belowOne_30 rfl ?_
  refine lv_lstore (lv' := [(8, .long (shl_ (Int32.toInt64 ((fm_b j1) - (1 : Int32))) (fm_f j1))), (6, .long (shl_ (Int32.toInt64 (fm_b j1)) (fm_f j1))), (4, .long (q_Form_sign j1 a2)), (0, .int a0), (1, .ref (ad j1)), (2, .long a2)]) hx hb d_Steps_belowOne_31 hl (by decide) rfl (fun ls hl => ?_)
  refine lv_iload_n hx hb d_Steps_belowOne_33 rfl (lv_at hl 3 rfl) ?_
  refine lv_sipush (v := (144 : Int32)) hx hb d_Steps_belowOne_34 (by decide) ?_
  refine lv_icmp_ne (tgt := 59) hx hb d_Steps_belowOne_37 (by decide) (fun c_1 => ?_) (fun c_1 => ?_)
  · refine lv_iload_n hx hb d_Steps_belowOne_59 rfl (lv_at hl 3 rfl) ?_
    refine lv_lload hx hb d_Steps_belowOne_60 (lv_at hl 2 rfl) ?_
    refine si_ (As := [.int a0, .long (q_Form_sign j1 a2)]) (rest := []) hq (c_Steps_goesAway l A ad a0 (q_Form_sign j1 a2)) kB_Steps_goesAway wt_455 ⟨rfl, rfl, Nat.le_of_ble_eq_true rfl, Nat.le_of_ble_eq_true rfl⟩ rfl hl.1 rfl (Nat.le_of_ble_eq_true rfl) d_Steps_belowOne_62 ⟨Nat.zero_le _, Nat.zero_le _⟩ ?_
    refine lv_istore (lv' := [(10, .int (q_Steps_goesAway a0 (q_Form_sign j1 a2))), (8, .long (shl_ (Int32.toInt64 ((fm_b j1) - (1 : Int32))) (fm_f j1))), (6, .long (shl_ (Int32.toInt64 (fm_b j1)) (fm_f j1))), (4, .long (q_Form_sign j1 a2)), (0, .int a0), (1, .ref (ad j1)), (2, .long a2)]) hx hb d_Steps_belowOne_65 hl (by decide) rfl (fun ls hl => ?_)
    refine lv_iload hx hb d_Steps_belowOne_67 (lv_at hl 0 rfl) ?_
    refine lv_if_eq (tgt := 80) hx hb d_Steps_belowOne_69 (by decide) (fun c_2 => ?_) (fun c_2 => ?_)
    · refine lv_lload hx hb d_Steps_belowOne_80 (lv_at hl 3 rfl) ?_
      exact rl_ hx hb hr hk (by rw [q_Steps_belowOne, if_neg c_1, if_pos c_2]) d_Steps_belowOne_82
    · refine lv_lload hx hb d_Steps_belowOne_72 (lv_at hl 3 rfl) ?_
      refine lv_lload hx hb d_Steps_belowOne_74 (lv_at hl 2 rfl) ?_
      refine lv_lor hx hb d_Steps_belowOne_76 ?_
      refine lv_goto (tgt := 82) hx hb d_Steps_belowOne_77 (by decide) ?_
      exact rl_ hx hb hr hk (by rw [q_Steps_belowOne, if_neg c_1, if_neg c_2]) d_Steps_belowOne_82
  · refine lv_aload_n hx hb d_Steps_belowOne_40 rfl (lv_at hl 4 rfl) ?_
    refine lv_lload_n hx hb d_Steps_belowOne_41 rfl (lv_at hl 5 rfl) ?_
    refine vl_ (As := [.long a2]) (rest := []) hq hj1 (c_Form_withoutSign l A ad j1 hj1 a2) kB_Form_withoutSign wt_454 ⟨rfl, rfl, Nat.le_of_ble_eq_true rfl, Nat.le_of_ble_eq_true rfl⟩ rfl hl.1 rfl (Nat.le_of_ble_eq_true rfl) d_Steps_belowOne_42 ⟨Nat.zero_le _, Nat.zero_le _⟩ ?_
    refine lv_lload hx hb d_Steps_belowOne_45 (lv_at hl 0 rfl) ?_
    refine W.lcmp hx hb d_Steps_belowOne_47 ?_
    refine lv_if_le (tgt := 55) hx hb d_Steps_belowOne_48 (by decide) (fun c_3 => ?_) (fun c_3 => ?_)
    · rw [lg_cmp_le] at c_3
      refine lv_iconst (v := (0 : Int32)) hx hb d_Steps_belowOne_55 (by decide) ?_
      refine lv_goto (tgt := 65) hx hb d_Steps_belowOne_56 (by decide) ?_
      refine lv_istore (lv' := [(10, .int (0 : Int32)), (8, .long (shl_ (Int32.toInt64 ((fm_b j1) - (1 : Int32))) (fm_f j1))), (6, .long (shl_ (Int32.toInt64 (fm_b j1)) (fm_f j1))), (4, .long (q_Form_sign j1 a2)), (0, .int a0), (1, .ref (ad j1)), (2, .long a2)]) hx hb d_Steps_belowOne_65 hl (by decide) rfl (fun ls hl => ?_)
      refine lv_iload hx hb d_Steps_belowOne_67 (lv_at hl 0 rfl) ?_
      refine lv_if_eq (tgt := 80) hx hb d_Steps_belowOne_69 (by decide) (fun _ => ?_) (fun c => absurd (by decide) c)
      refine lv_lload hx hb d_Steps_belowOne_80 (lv_at hl 3 rfl) ?_
      exact rl_ hx hb hr hk (by rw [q_Steps_belowOne, if_pos c_1, if_pos c_3]) d_Steps_belowOne_82
    · rw [lg_cmp_le] at c_3
      refine lv_iconst (v := (1 : Int32)) hx hb d_Steps_belowOne_51 (by decide) ?_
      refine lv_goto (tgt := 65) hx hb d_Steps_belowOne_52 (by decide) ?_
      refine lv_istore (lv' := [(10, .int (1 : Int32)), (8, .long (shl_ (Int32.toInt64 ((fm_b j1) - (1 : Int32))) (fm_f j1))), (6, .long (shl_ (Int32.toInt64 (fm_b j1)) (fm_f j1))), (4, .long (q_Form_sign j1 a2)), (0, .int a0), (1, .ref (ad j1)), (2, .long a2)]) hx hb d_Steps_belowOne_65 hl (by decide) rfl (fun ls hl => ?_)
      refine lv_iload hx hb d_Steps_belowOne_67 (lv_at hl 0 rfl) ?_
      refine lv_if_eq (tgt := 80) hx hb d_Steps_belowOne_69 (by decide) (fun c => absurd c (by decide)) (fun _ => ?_)
      refine lv_lload hx hb d_Steps_belowOne_72 (lv_at hl 3 rfl) ?_
      refine lv_lload hx hb d_Steps_belowOne_74 (lv_at hl 2 rfl) ?_
      refine lv_lor hx hb d_Steps_belowOne_76 ?_
      refine lv_goto (tgt := 82) hx hb d_Steps_belowOne_77 (by decide) ?_
      exact rl_ hx hb hr hk (by rw [q_Steps_belowOne, if_pos c_1, if_neg c_3]) d_Steps_belowOne_82
def q_Steps_toWhole (a0 : Int32) (j1 : Nat) (a2 : Int64) : Int64 :=
  if ((fm_f j1) - ((q_Form_exponent j1 a2) - (fm_b j1))) ≤ 0 then
    a2
  else
    if (q_Form_isZero j1 a2) = 0 then
      if ((fm_f j1) - ((q_Form_exponent j1 a2) - (fm_b j1))) ≤ (fm_f j1) then
        (q_Steps_fromOneOn a0 j1 a2 ((fm_f j1) - ((q_Form_exponent j1 a2) - (fm_b j1))))
      else
        (q_Steps_belowOne a0 j1 a2)
    else
      a2
theorem kB_Steps_toWhole : SB y_Steps_toWhole b_Steps_toWhole 5 (some .long) 3 := ⟨wt_447, wt_446, wt_54, by decide +kernel⟩
set_option maxHeartbeats 4000000 in
set_option maxRecDepth 100000 in
theorem c_Steps_toWhole (l : Launch) (A : Nat → Prop) (ad : Nat → Nat) (a0 : Int32) (j1 : Nat) (hj1 : j1 < 2) (a2 : Int64) : Met l y_Steps_toWhole (Cond.code y_Steps_toWhole b_Steps_toWhole 5 (some .long) :: BT) ({ frames := 2, cells := 0, slots := 0, locals := 58 }) (PC A ad [.int a0, .ref (ad j1), .long a2]) (vp_Sl (fun r => r = q_Steps_toWhole a0 j1 a2)) 0 0 (fun _ => False) := by
  refine pm_ (by decide +kernel) (Nat.le_of_ble_eq_true rfl) ?_
  intro p e s m below meth c hq hr hk ls hl
  have hx := hq.1
  have hb := hq.2.1
  have hts := hq.2.2.2.2.1
  have hl : lv_has ls 5 [(0, .int a0), (1, .ref (ad j1)), (2, .long a2)] := hl
  refine lv_aload_n hx hb d_Steps_toWhole_0 rfl (lv_at hl 1 rfl) ?_
  refine gf_f hq hj1 wt_734 d_Steps_toWhole_1 ?_
  refine lv_aload_n hx hb d_Steps_toWhole_4 rfl (lv_at hl 1 rfl) ?_
  refine lv_lload_n hx hb d_Steps_toWhole_5 rfl (lv_at hl 2 rfl) ?_
  refine vi_ (As := [.long a2]) (rest := [.int (fm_f j1)]) hq hj1 (c_Form_exponent l A ad j1 hj1 a2) kB_Form_exponent wt_448 ⟨rfl, rfl, Nat.le_of_ble_eq_true rfl, Nat.le_of_ble_eq_true rfl⟩ rfl hl.1 rfl (Nat.le_of_ble_eq_true rfl) d_Steps_toWhole_6 ⟨Nat.zero_le _, Nat.zero_le _⟩ ?_
  refine lv_aload_n hx hb d_Steps_toWhole_9 rfl (lv_at hl 1 rfl) ?_
  refine gf_b hq hj1 wt_735 d_Steps_toWhole_10 ?_
  refine lv_isub hx hb d_Steps_toWhole_13 ?_
  refine lv_isub hx hb d_Steps_toWhole_14 ?_
  refine lv_istore (lv' := [(4, .int ((fm_f j1) - ((q_Form_exponent j1 a2) - (fm_b j1)))), (0, .int a0), (1, .ref (ad j1)), (2, .long a2)]) hx hb d_Steps_toWhole_15 hl (by decide) rfl (fun ls hl => ?_)
  refine lv_iload hx hb d_Steps_toWhole_17 (lv_at hl 0 rfl) ?_
  refine lv_if_le (tgt := 30) hx hb d_Steps_toWhole_19 (by decide) (fun c_1 => ?_) (fun c_1 => ?_)
  · refine lv_lload_n hx hb d_Steps_toWhole_30 rfl (lv_at hl 3 rfl) ?_
    exact rl_ hx hb hr hk (by rw [q_Steps_toWhole, if_pos c_1]) d_Steps_toWhole_31
  · refine lv_aload_n hx hb d_Steps_toWhole_22 rfl (lv_at hl 2 rfl) ?_
    refine lv_lload_n hx hb d_Steps_toWhole_23 rfl (lv_at hl 3 rfl) ?_
    refine vi_ (As := [.long a2]) (rest := []) hq hj1 (c_Form_isZero l A ad j1 hj1 a2) kB_Form_isZero wt_449 ⟨rfl, rfl, Nat.le_of_ble_eq_true rfl, Nat.le_of_ble_eq_true rfl⟩ rfl hl.1 rfl (Nat.le_of_ble_eq_true rfl) d_Steps_toWhole_24 ⟨Nat.zero_le _, Nat.zero_le _⟩ ?_
    refine lv_if_eq (tgt := 32) hx hb d_Steps_toWhole_27 (by decide) (fun c_2 => ?_) (fun c_2 => ?_)
    · refine lv_iload hx hb d_Steps_toWhole_32 (lv_at hl 0 rfl) ?_
      refine lv_aload_n hx hb d_Steps_toWhole_34 rfl (lv_at hl 2 rfl) ?_
      refine gf_f hq hj1 wt_734 d_Steps_toWhole_35 ?_
      refine lv_icmp_le (tgt := 50) hx hb d_Steps_toWhole_38 (by decide) (fun c_3 => ?_) (fun c_3 => ?_)
      · refine lv_iload_n hx hb d_Steps_toWhole_50 rfl (lv_at hl 1 rfl) ?_
        refine lv_aload_n hx hb d_Steps_toWhole_51 rfl (lv_at hl 2 rfl) ?_
        refine lv_lload_n hx hb d_Steps_toWhole_52 rfl (lv_at hl 3 rfl) ?_
        refine lv_iload hx hb d_Steps_toWhole_53 (lv_at hl 0 rfl) ?_
        refine sl_ (As := [.int a0, .ref (ad j1), .long a2, .int ((fm_f j1) - ((q_Form_exponent j1 a2) - (fm_b j1)))]) (rest := []) hq (c_Steps_fromOneOn l A ad a0 j1 hj1 a2 ((fm_f j1) - ((q_Form_exponent j1 a2) - (fm_b j1)))) kB_Steps_fromOneOn wt_458 ⟨rfl, rfl, Nat.le_of_ble_eq_true rfl, Nat.le_of_ble_eq_true rfl⟩ rfl hl.1 rfl (Nat.le_of_ble_eq_true rfl) d_Steps_toWhole_55 ⟨Nat.zero_le _, Nat.zero_le _⟩ ?_
        exact rl_ hx hb hr hk (by rw [q_Steps_toWhole, if_neg c_1, if_pos c_2, if_pos c_3]) d_Steps_toWhole_58
      · refine lv_iload_n hx hb d_Steps_toWhole_41 rfl (lv_at hl 1 rfl) ?_
        refine lv_aload_n hx hb d_Steps_toWhole_42 rfl (lv_at hl 2 rfl) ?_
        refine lv_lload_n hx hb d_Steps_toWhole_43 rfl (lv_at hl 3 rfl) ?_
        refine sl_ (As := [.int a0, .ref (ad j1), .long a2]) (rest := []) hq (c_Steps_belowOne l A ad a0 j1 hj1 a2) kB_Steps_belowOne wt_450 ⟨rfl, rfl, Nat.le_of_ble_eq_true rfl, Nat.le_of_ble_eq_true rfl⟩ rfl hl.1 rfl (Nat.le_of_ble_eq_true rfl) d_Steps_toWhole_44 ⟨Nat.zero_le _, Nat.zero_le _⟩ ?_
        refine lv_goto (tgt := 58) hx hb d_Steps_toWhole_47 (by decide) ?_
        exact rl_ hx hb hr hk (by rw [q_Steps_toWhole, if_neg c_1, if_pos c_2, if_neg c_3]) d_Steps_toWhole_58
    · refine lv_lload_n hx hb d_Steps_toWhole_30 rfl (lv_at hl 3 rfl) ?_
      exact rl_ hx hb hr hk (by rw [q_Steps_toWhole, if_neg c_1, if_neg c_2]) d_Steps_toWhole_31
