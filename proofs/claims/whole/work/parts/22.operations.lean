def q_Operations_exists (a0 : Int32) : Int32 :=
  if a0 < (69 : Int32) then
    (0 : Int32)
  else
    if (191 : Int32) < a0 then
      (0 : Int32)
    else
      (1 : Int32)
theorem kB_Operations_exists : SB y_Operations_exists b_Operations_exists 1 (some .boolean) 1 := ⟨wt_78, wt_77, wt_37, by decide +kernel⟩
set_option maxHeartbeats 4000000 in
set_option maxRecDepth 100000 in
theorem c_Operations_exists (l : Launch) (A : Nat → Prop) (ad : Nat → Nat) (a0 : Int32) : Met l y_Operations_exists (Cond.code y_Operations_exists b_Operations_exists 1 (some .boolean) :: BT) ({ frames := 0, cells := 0, slots := 0, locals := 0 }) (PC A ad [.int a0]) (vp_Si (fun r => r = q_Operations_exists a0)) 0 0 (fun _ => False) := by
  refine pm_ (by decide +kernel) (Nat.le_of_ble_eq_true rfl) ?_
  intro p e s m below meth c hq hr hk ls hl
  have hx := hq.1
  have hb := hq.2.1
  have hts := hq.2.2.2.2.1
  have hl : lv_has ls 1 [(0, .int a0)] := hl
  refine lv_iload_n hx hb d_Operations_exists_0 rfl (lv_at hl 0 rfl) ?_
  refine lv_bipush (v := (69 : Int32)) hx hb d_Operations_exists_1 (by decide) ?_
  refine lv_icmp_lt (tgt := 17) hx hb d_Operations_exists_3 (by decide) (fun c_1 => ?_) (fun c_1 => ?_)
  · refine lv_iconst (v := (0 : Int32)) hx hb d_Operations_exists_17 (by decide) ?_
    exact rz_ hx hb hr hk (by decide) (by rw [q_Operations_exists, if_pos c_1]) d_Operations_exists_18
  · refine lv_iload_n hx hb d_Operations_exists_6 rfl (lv_at hl 0 rfl) ?_
    refine lv_sipush (v := (191 : Int32)) hx hb d_Operations_exists_7 (by decide) ?_
    refine lv_icmp_gt (tgt := 17) hx hb d_Operations_exists_10 (by decide) (fun c_2 => ?_) (fun c_2 => ?_)
    · refine lv_iconst (v := (0 : Int32)) hx hb d_Operations_exists_17 (by decide) ?_
      exact rz_ hx hb hr hk (by decide) (by rw [q_Operations_exists, if_neg c_1, if_pos c_2]) d_Operations_exists_18
    · refine lv_iconst (v := (1 : Int32)) hx hb d_Operations_exists_13 (by decide) ?_
      refine lv_goto (tgt := 18) hx hb d_Operations_exists_14 (by decide) ?_
      exact rz_ hx hb hr hk (by decide) (by rw [q_Operations_exists, if_neg c_1, if_neg c_2]) d_Operations_exists_18
def q_Operations_isTwin (a0 : Int32) : Int32 :=
  if a0 < (80 : Int32) then
    if a0 < (97 : Int32) then
      if a0 < (121 : Int32) then
        if a0 < (153 : Int32) then
          (0 : Int32)
        else
          if (166 : Int32) < a0 then
            (0 : Int32)
          else
            (1 : Int32)
      else
        if a0 ≤ (138 : Int32) then
          (1 : Int32)
        else
          if a0 < (153 : Int32) then
            (0 : Int32)
          else
            if (166 : Int32) < a0 then
              (0 : Int32)
            else
              (1 : Int32)
    else
      if a0 ≤ (102 : Int32) then
        (1 : Int32)
      else
        if a0 < (121 : Int32) then
          if a0 < (153 : Int32) then
            (0 : Int32)
          else
            if (166 : Int32) < a0 then
              (0 : Int32)
            else
              (1 : Int32)
        else
          if a0 ≤ (138 : Int32) then
            (1 : Int32)
          else
            if a0 < (153 : Int32) then
              (0 : Int32)
            else
              if (166 : Int32) < a0 then
                (0 : Int32)
              else
                (1 : Int32)
  else
    if a0 ≤ (90 : Int32) then
      (1 : Int32)
    else
      if a0 < (97 : Int32) then
        if a0 < (121 : Int32) then
          if a0 < (153 : Int32) then
            (0 : Int32)
          else
            if (166 : Int32) < a0 then
              (0 : Int32)
            else
              (1 : Int32)
        else
          if a0 ≤ (138 : Int32) then
            (1 : Int32)
          else
            if a0 < (153 : Int32) then
              (0 : Int32)
            else
              if (166 : Int32) < a0 then
                (0 : Int32)
              else
                (1 : Int32)
      else
        if a0 ≤ (102 : Int32) then
          (1 : Int32)
        else
          if a0 < (121 : Int32) then
            if a0 < (153 : Int32) then
              (0 : Int32)
            else
              if (166 : Int32) < a0 then
                (0 : Int32)
              else
                (1 : Int32)
          else
            if a0 ≤ (138 : Int32) then
              (1 : Int32)
            else
              if a0 < (153 : Int32) then
                (0 : Int32)
              else
                if (166 : Int32) < a0 then
                  (0 : Int32)
                else
                  (1 : Int32)
theorem kB_Operations_isTwin : SB y_Operations_isTwin b_Operations_isTwin 1 (some .boolean) 1 := ⟨wt_97, wt_96, wt_37, by decide +kernel⟩
set_option maxHeartbeats 4000000 in
set_option maxRecDepth 100000 in
theorem c_Operations_isTwin (l : Launch) (A : Nat → Prop) (ad : Nat → Nat) (a0 : Int32) : Met l y_Operations_isTwin (Cond.code y_Operations_isTwin b_Operations_isTwin 1 (some .boolean) :: BT) ({ frames := 0, cells := 0, slots := 0, locals := 0 }) (PC A ad [.int a0]) (vp_Si (fun r => r = q_Operations_isTwin a0)) 0 0 (fun _ => False) := by
  refine pm_ (by decide +kernel) (Nat.le_of_ble_eq_true rfl) ?_
  intro p e s m below meth c hq hr hk ls hl
  have hx := hq.1
  have hb := hq.2.1
  have hts := hq.2.2.2.2.1
  have hl : lv_has ls 1 [(0, .int a0)] := hl
  refine lv_iload_n hx hb d_Operations_isTwin_0 rfl (lv_at hl 0 rfl) ?_
  refine lv_bipush (v := (80 : Int32)) hx hb d_Operations_isTwin_1 (by decide) ?_
  refine lv_icmp_lt (tgt := 12) hx hb d_Operations_isTwin_3 (by decide) (fun c_1 => ?_) (fun c_1 => ?_)
  · refine lv_iload_n hx hb d_Operations_isTwin_12 rfl (lv_at hl 0 rfl) ?_
    refine lv_bipush (v := (97 : Int32)) hx hb d_Operations_isTwin_13 (by decide) ?_
    refine lv_icmp_lt (tgt := 24) hx hb d_Operations_isTwin_15 (by decide) (fun c_2 => ?_) (fun c_2 => ?_)
    · refine lv_iload_n hx hb d_Operations_isTwin_24 rfl (lv_at hl 0 rfl) ?_
      refine lv_bipush (v := (121 : Int32)) hx hb d_Operations_isTwin_25 (by decide) ?_
      refine lv_icmp_lt (tgt := 37) hx hb d_Operations_isTwin_27 (by decide) (fun c_3 => ?_) (fun c_3 => ?_)
      · refine lv_iload_n hx hb d_Operations_isTwin_37 rfl (lv_at hl 0 rfl) ?_
        refine lv_sipush (v := (153 : Int32)) hx hb d_Operations_isTwin_38 (by decide) ?_
        refine lv_icmp_lt (tgt := 55) hx hb d_Operations_isTwin_41 (by decide) (fun c_4 => ?_) (fun c_4 => ?_)
        · refine lv_iconst (v := (0 : Int32)) hx hb d_Operations_isTwin_55 (by decide) ?_
          exact rz_ hx hb hr hk (by decide) (by rw [q_Operations_isTwin, if_pos c_1, if_pos c_2, if_pos c_3, if_pos c_4]) d_Operations_isTwin_56
        · refine lv_iload_n hx hb d_Operations_isTwin_44 rfl (lv_at hl 0 rfl) ?_
          refine lv_sipush (v := (166 : Int32)) hx hb d_Operations_isTwin_45 (by decide) ?_
          refine lv_icmp_gt (tgt := 55) hx hb d_Operations_isTwin_48 (by decide) (fun c_5 => ?_) (fun c_5 => ?_)
          · refine lv_iconst (v := (0 : Int32)) hx hb d_Operations_isTwin_55 (by decide) ?_
            exact rz_ hx hb hr hk (by decide) (by rw [q_Operations_isTwin, if_pos c_1, if_pos c_2, if_pos c_3, if_neg c_4, if_pos c_5]) d_Operations_isTwin_56
          · refine lv_iconst (v := (1 : Int32)) hx hb d_Operations_isTwin_51 (by decide) ?_
            refine lv_goto (tgt := 56) hx hb d_Operations_isTwin_52 (by decide) ?_
            exact rz_ hx hb hr hk (by decide) (by rw [q_Operations_isTwin, if_pos c_1, if_pos c_2, if_pos c_3, if_neg c_4, if_neg c_5]) d_Operations_isTwin_56
      · refine lv_iload_n hx hb d_Operations_isTwin_30 rfl (lv_at hl 0 rfl) ?_
        refine lv_sipush (v := (138 : Int32)) hx hb d_Operations_isTwin_31 (by decide) ?_
        refine lv_icmp_le (tgt := 51) hx hb d_Operations_isTwin_34 (by decide) (fun c_6 => ?_) (fun c_6 => ?_)
        · refine lv_iconst (v := (1 : Int32)) hx hb d_Operations_isTwin_51 (by decide) ?_
          refine lv_goto (tgt := 56) hx hb d_Operations_isTwin_52 (by decide) ?_
          exact rz_ hx hb hr hk (by decide) (by rw [q_Operations_isTwin, if_pos c_1, if_pos c_2, if_neg c_3, if_pos c_6]) d_Operations_isTwin_56
        · refine lv_iload_n hx hb d_Operations_isTwin_37 rfl (lv_at hl 0 rfl) ?_
          refine lv_sipush (v := (153 : Int32)) hx hb d_Operations_isTwin_38 (by decide) ?_
          refine lv_icmp_lt (tgt := 55) hx hb d_Operations_isTwin_41 (by decide) (fun c_7 => ?_) (fun c_7 => ?_)
          · refine lv_iconst (v := (0 : Int32)) hx hb d_Operations_isTwin_55 (by decide) ?_
            exact rz_ hx hb hr hk (by decide) (by rw [q_Operations_isTwin, if_pos c_1, if_pos c_2, if_neg c_3, if_neg c_6, if_pos c_7]) d_Operations_isTwin_56
          · refine lv_iload_n hx hb d_Operations_isTwin_44 rfl (lv_at hl 0 rfl) ?_
            refine lv_sipush (v := (166 : Int32)) hx hb d_Operations_isTwin_45 (by decide) ?_
            refine lv_icmp_gt (tgt := 55) hx hb d_Operations_isTwin_48 (by decide) (fun c_8 => ?_) (fun c_8 => ?_)
            · refine lv_iconst (v := (0 : Int32)) hx hb d_Operations_isTwin_55 (by decide) ?_
              exact rz_ hx hb hr hk (by decide) (by rw [q_Operations_isTwin, if_pos c_1, if_pos c_2, if_neg c_3, if_neg c_6, if_neg c_7, if_pos c_8]) d_Operations_isTwin_56
            · refine lv_iconst (v := (1 : Int32)) hx hb d_Operations_isTwin_51 (by decide) ?_
              refine lv_goto (tgt := 56) hx hb d_Operations_isTwin_52 (by decide) ?_
              exact rz_ hx hb hr hk (by decide) (by rw [q_Operations_isTwin, if_pos c_1, if_pos c_2, if_neg c_3, if_neg c_6, if_neg c_7, if_neg c_8]) d_Operations_isTwin_56
    · refine lv_iload_n hx hb d_Operations_isTwin_18 rfl (lv_at hl 0 rfl) ?_
      refine lv_bipush (v := (102 : Int32)) hx hb d_Operations_isTwin_19 (by decide) ?_
      refine lv_icmp_le (tgt := 51) hx hb d_Operations_isTwin_21 (by decide) (fun c_9 => ?_) (fun c_9 => ?_)
      · refine lv_iconst (v := (1 : Int32)) hx hb d_Operations_isTwin_51 (by decide) ?_
        refine lv_goto (tgt := 56) hx hb d_Operations_isTwin_52 (by decide) ?_
        exact rz_ hx hb hr hk (by decide) (by rw [q_Operations_isTwin, if_pos c_1, if_neg c_2, if_pos c_9]) d_Operations_isTwin_56
      · refine lv_iload_n hx hb d_Operations_isTwin_24 rfl (lv_at hl 0 rfl) ?_
        refine lv_bipush (v := (121 : Int32)) hx hb d_Operations_isTwin_25 (by decide) ?_
        refine lv_icmp_lt (tgt := 37) hx hb d_Operations_isTwin_27 (by decide) (fun c_10 => ?_) (fun c_10 => ?_)
        · refine lv_iload_n hx hb d_Operations_isTwin_37 rfl (lv_at hl 0 rfl) ?_
          refine lv_sipush (v := (153 : Int32)) hx hb d_Operations_isTwin_38 (by decide) ?_
          refine lv_icmp_lt (tgt := 55) hx hb d_Operations_isTwin_41 (by decide) (fun c_11 => ?_) (fun c_11 => ?_)
          · refine lv_iconst (v := (0 : Int32)) hx hb d_Operations_isTwin_55 (by decide) ?_
            exact rz_ hx hb hr hk (by decide) (by rw [q_Operations_isTwin, if_pos c_1, if_neg c_2, if_neg c_9, if_pos c_10, if_pos c_11]) d_Operations_isTwin_56
          · refine lv_iload_n hx hb d_Operations_isTwin_44 rfl (lv_at hl 0 rfl) ?_
            refine lv_sipush (v := (166 : Int32)) hx hb d_Operations_isTwin_45 (by decide) ?_
            refine lv_icmp_gt (tgt := 55) hx hb d_Operations_isTwin_48 (by decide) (fun c_12 => ?_) (fun c_12 => ?_)
            · refine lv_iconst (v := (0 : Int32)) hx hb d_Operations_isTwin_55 (by decide) ?_
              exact rz_ hx hb hr hk (by decide) (by rw [q_Operations_isTwin, if_pos c_1, if_neg c_2, if_neg c_9, if_pos c_10, if_neg c_11, if_pos c_12]) d_Operations_isTwin_56
            · refine lv_iconst (v := (1 : Int32)) hx hb d_Operations_isTwin_51 (by decide) ?_
              refine lv_goto (tgt := 56) hx hb d_Operations_isTwin_52 (by decide) ?_
              exact rz_ hx hb hr hk (by decide) (by rw [q_Operations_isTwin, if_pos c_1, if_neg c_2, if_neg c_9, if_pos c_10, if_neg c_11, if_neg c_12]) d_Operations_isTwin_56
        · refine lv_iload_n hx hb d_Operations_isTwin_30 rfl (lv_at hl 0 rfl) ?_
          refine lv_sipush (v := (138 : Int32)) hx hb d_Operations_isTwin_31 (by decide) ?_
          refine lv_icmp_le (tgt := 51) hx hb d_Operations_isTwin_34 (by decide) (fun c_13 => ?_) (fun c_13 => ?_)
          · refine lv_iconst (v := (1 : Int32)) hx hb d_Operations_isTwin_51 (by decide) ?_
            refine lv_goto (tgt := 56) hx hb d_Operations_isTwin_52 (by decide) ?_
            exact rz_ hx hb hr hk (by decide) (by rw [q_Operations_isTwin, if_pos c_1, if_neg c_2, if_neg c_9, if_neg c_10, if_pos c_13]) d_Operations_isTwin_56
          · refine lv_iload_n hx hb d_Operations_isTwin_37 rfl (lv_at hl 0 rfl) ?_
            refine lv_sipush (v := (153 : Int32)) hx hb d_Operations_isTwin_38 (by decide) ?_
            refine lv_icmp_lt (tgt := 55) hx hb d_Operations_isTwin_41 (by decide) (fun c_14 => ?_) (fun c_14 => ?_)
            · refine lv_iconst (v := (0 : Int32)) hx hb d_Operations_isTwin_55 (by decide) ?_
              exact rz_ hx hb hr hk (by decide) (by rw [q_Operations_isTwin, if_pos c_1, if_neg c_2, if_neg c_9, if_neg c_10, if_neg c_13, if_pos c_14]) d_Operations_isTwin_56
            · refine lv_iload_n hx hb d_Operations_isTwin_44 rfl (lv_at hl 0 rfl) ?_
              refine lv_sipush (v := (166 : Int32)) hx hb d_Operations_isTwin_45 (by decide) ?_
              refine lv_icmp_gt (tgt := 55) hx hb d_Operations_isTwin_48 (by decide) (fun c_15 => ?_) (fun c_15 => ?_)
              · refine lv_iconst (v := (0 : Int32)) hx hb d_Operations_isTwin_55 (by decide) ?_
                exact rz_ hx hb hr hk (by decide) (by rw [q_Operations_isTwin, if_pos c_1, if_neg c_2, if_neg c_9, if_neg c_10, if_neg c_13, if_neg c_14, if_pos c_15]) d_Operations_isTwin_56
              · refine lv_iconst (v := (1 : Int32)) hx hb d_Operations_isTwin_51 (by decide) ?_
                refine lv_goto (tgt := 56) hx hb d_Operations_isTwin_52 (by decide) ?_
                exact rz_ hx hb hr hk (by decide) (by rw [q_Operations_isTwin, if_pos c_1, if_neg c_2, if_neg c_9, if_neg c_10, if_neg c_13, if_neg c_14, if_neg c_15]) d_Operations_isTwin_56
  · refine lv_iload_n hx hb d_Operations_isTwin_6 rfl (lv_at hl 0 rfl) ?_
    refine lv_bipush (v := (90 : Int32)) hx hb d_Operations_isTwin_7 (by decide) ?_
    refine lv_icmp_le (tgt := 51) hx hb d_Operations_isTwin_9 (by decide) (fun c_16 => ?_) (fun c_16 => ?_)
    · refine lv_iconst (v := (1 : Int32)) hx hb d_Operations_isTwin_51 (by decide) ?_
      refine lv_goto (tgt := 56) hx hb d_Operations_isTwin_52 (by decide) ?_
      exact rz_ hx hb hr hk (by decide) (by rw [q_Operations_isTwin, if_neg c_1, if_pos c_16]) d_Operations_isTwin_56
    · refine lv_iload_n hx hb d_Operations_isTwin_12 rfl (lv_at hl 0 rfl) ?_
      refine lv_bipush (v := (97 : Int32)) hx hb d_Operations_isTwin_13 (by decide) ?_
      refine lv_icmp_lt (tgt := 24) hx hb d_Operations_isTwin_15 (by decide) (fun c_17 => ?_) (fun c_17 => ?_)
      · refine lv_iload_n hx hb d_Operations_isTwin_24 rfl (lv_at hl 0 rfl) ?_
        refine lv_bipush (v := (121 : Int32)) hx hb d_Operations_isTwin_25 (by decide) ?_
        refine lv_icmp_lt (tgt := 37) hx hb d_Operations_isTwin_27 (by decide) (fun c_18 => ?_) (fun c_18 => ?_)
        · refine lv_iload_n hx hb d_Operations_isTwin_37 rfl (lv_at hl 0 rfl) ?_
          refine lv_sipush (v := (153 : Int32)) hx hb d_Operations_isTwin_38 (by decide) ?_
          refine lv_icmp_lt (tgt := 55) hx hb d_Operations_isTwin_41 (by decide) (fun c_19 => ?_) (fun c_19 => ?_)
          · refine lv_iconst (v := (0 : Int32)) hx hb d_Operations_isTwin_55 (by decide) ?_
            exact rz_ hx hb hr hk (by decide) (by rw [q_Operations_isTwin, if_neg c_1, if_neg c_16, if_pos c_17, if_pos c_18, if_pos c_19]) d_Operations_isTwin_56
          · refine lv_iload_n hx hb d_Operations_isTwin_44 rfl (lv_at hl 0 rfl) ?_
            refine lv_sipush (v := (166 : Int32)) hx hb d_Operations_isTwin_45 (by decide) ?_
            refine lv_icmp_gt (tgt := 55) hx hb d_Operations_isTwin_48 (by decide) (fun c_20 => ?_) (fun c_20 => ?_)
            · refine lv_iconst (v := (0 : Int32)) hx hb d_Operations_isTwin_55 (by decide) ?_
              exact rz_ hx hb hr hk (by decide) (by rw [q_Operations_isTwin, if_neg c_1, if_neg c_16, if_pos c_17, if_pos c_18, if_neg c_19, if_pos c_20]) d_Operations_isTwin_56
            · refine lv_iconst (v := (1 : Int32)) hx hb d_Operations_isTwin_51 (by decide) ?_
              refine lv_goto (tgt := 56) hx hb d_Operations_isTwin_52 (by decide) ?_
              exact rz_ hx hb hr hk (by decide) (by rw [q_Operations_isTwin, if_neg c_1, if_neg c_16, if_pos c_17, if_pos c_18, if_neg c_19, if_neg c_20]) d_Operations_isTwin_56
        · refine lv_iload_n hx hb d_Operations_isTwin_30 rfl (lv_at hl 0 rfl) ?_
          refine lv_sipush (v := (138 : Int32)) hx hb d_Operations_isTwin_31 (by decide) ?_
          refine lv_icmp_le (tgt := 51) hx hb d_Operations_isTwin_34 (by decide) (fun c_21 => ?_) (fun c_21 => ?_)
          · refine lv_iconst (v := (1 : Int32)) hx hb d_Operations_isTwin_51 (by decide) ?_
            refine lv_goto (tgt := 56) hx hb d_Operations_isTwin_52 (by decide) ?_
            exact rz_ hx hb hr hk (by decide) (by rw [q_Operations_isTwin, if_neg c_1, if_neg c_16, if_pos c_17, if_neg c_18, if_pos c_21]) d_Operations_isTwin_56
          · refine lv_iload_n hx hb d_Operations_isTwin_37 rfl (lv_at hl 0 rfl) ?_
            refine lv_sipush (v := (153 : Int32)) hx hb d_Operations_isTwin_38 (by decide) ?_
            refine lv_icmp_lt (tgt := 55) hx hb d_Operations_isTwin_41 (by decide) (fun c_22 => ?_) (fun c_22 => ?_)
            · refine lv_iconst (v := (0 : Int32)) hx hb d_Operations_isTwin_55 (by decide) ?_
              exact rz_ hx hb hr hk (by decide) (by rw [q_Operations_isTwin, if_neg c_1, if_neg c_16, if_pos c_17, if_neg c_18, if_neg c_21, if_pos c_22]) d_Operations_isTwin_56
            · refine lv_iload_n hx hb d_Operations_isTwin_44 rfl (lv_at hl 0 rfl) ?_
              refine lv_sipush (v := (166 : Int32)) hx hb d_Operations_isTwin_45 (by decide) ?_
              refine lv_icmp_gt (tgt := 55) hx hb d_Operations_isTwin_48 (by decide) (fun c_23 => ?_) (fun c_23 => ?_)
              · refine lv_iconst (v := (0 : Int32)) hx hb d_Operations_isTwin_55 (by decide) ?_
                exact rz_ hx hb hr hk (by decide) (by rw [q_Operations_isTwin, if_neg c_1, if_neg c_16, if_pos c_17, if_neg c_18, if_neg c_21, if_neg c_22, if_pos c_23]) d_Operations_isTwin_56
              · refine lv_iconst (v := (1 : Int32)) hx hb d_Operations_isTwin_51 (by decide) ?_
                refine lv_goto (tgt := 56) hx hb d_Operations_isTwin_52 (by decide) ?_
                exact rz_ hx hb hr hk (by decide) (by rw [q_Operations_isTwin, if_neg c_1, if_neg c_16, if_pos c_17, if_neg c_18, if_neg c_21, if_neg c_22, if_neg c_23]) d_Operations_isTwin_56
      · refine lv_iload_n hx hb d_Operations_isTwin_18 rfl (lv_at hl 0 rfl) ?_
        refine lv_bipush (v := (102 : Int32)) hx hb d_Operations_isTwin_19 (by decide) ?_
        refine lv_icmp_le (tgt := 51) hx hb d_Operations_isTwin_21 (by decide) (fun c_24 => ?_) (fun c_24 => ?_)
        · refine lv_iconst (v := (1 : Int32)) hx hb d_Operations_isTwin_51 (by decide) ?_
          refine lv_goto (tgt := 56) hx hb d_Operations_isTwin_52 (by decide) ?_
          exact rz_ hx hb hr hk (by decide) (by rw [q_Operations_isTwin, if_neg c_1, if_neg c_16, if_neg c_17, if_pos c_24]) d_Operations_isTwin_56
        · refine lv_iload_n hx hb d_Operations_isTwin_24 rfl (lv_at hl 0 rfl) ?_
          refine lv_bipush (v := (121 : Int32)) hx hb d_Operations_isTwin_25 (by decide) ?_
          refine lv_icmp_lt (tgt := 37) hx hb d_Operations_isTwin_27 (by decide) (fun c_25 => ?_) (fun c_25 => ?_)
          · refine lv_iload_n hx hb d_Operations_isTwin_37 rfl (lv_at hl 0 rfl) ?_
            refine lv_sipush (v := (153 : Int32)) hx hb d_Operations_isTwin_38 (by decide) ?_
            refine lv_icmp_lt (tgt := 55) hx hb d_Operations_isTwin_41 (by decide) (fun c_26 => ?_) (fun c_26 => ?_)
            · refine lv_iconst (v := (0 : Int32)) hx hb d_Operations_isTwin_55 (by decide) ?_
              exact rz_ hx hb hr hk (by decide) (by rw [q_Operations_isTwin, if_neg c_1, if_neg c_16, if_neg c_17, if_neg c_24, if_pos c_25, if_pos c_26]) d_Operations_isTwin_56
            · refine lv_iload_n hx hb d_Operations_isTwin_44 rfl (lv_at hl 0 rfl) ?_
              refine lv_sipush (v := (166 : Int32)) hx hb d_Operations_isTwin_45 (by decide) ?_
              refine lv_icmp_gt (tgt := 55) hx hb d_Operations_isTwin_48 (by decide) (fun c_27 => ?_) (fun c_27 => ?_)
              · refine lv_iconst (v := (0 : Int32)) hx hb d_Operations_isTwin_55 (by decide) ?_
                exact rz_ hx hb hr hk (by decide) (by rw [q_Operations_isTwin, if_neg c_1, if_neg c_16, if_neg c_17, if_neg c_24, if_pos c_25, if_neg c_26, if_pos c_27]) d_Operations_isTwin_56
              · refine lv_iconst (v := (1 : Int32)) hx hb d_Operations_isTwin_51 (by decide) ?_
                refine lv_goto (tgt := 56) hx hb d_Operations_isTwin_52 (by decide) ?_
                exact rz_ hx hb hr hk (by decide) (by rw [q_Operations_isTwin, if_neg c_1, if_neg c_16, if_neg c_17, if_neg c_24, if_pos c_25, if_neg c_26, if_neg c_27]) d_Operations_isTwin_56
          · refine lv_iload_n hx hb d_Operations_isTwin_30 rfl (lv_at hl 0 rfl) ?_
            refine lv_sipush (v := (138 : Int32)) hx hb d_Operations_isTwin_31 (by decide) ?_
            refine lv_icmp_le (tgt := 51) hx hb d_Operations_isTwin_34 (by decide) (fun c_28 => ?_) (fun c_28 => ?_)
            · refine lv_iconst (v := (1 : Int32)) hx hb d_Operations_isTwin_51 (by decide) ?_
              refine lv_goto (tgt := 56) hx hb d_Operations_isTwin_52 (by decide) ?_
              exact rz_ hx hb hr hk (by decide) (by rw [q_Operations_isTwin, if_neg c_1, if_neg c_16, if_neg c_17, if_neg c_24, if_neg c_25, if_pos c_28]) d_Operations_isTwin_56
            · refine lv_iload_n hx hb d_Operations_isTwin_37 rfl (lv_at hl 0 rfl) ?_
              refine lv_sipush (v := (153 : Int32)) hx hb d_Operations_isTwin_38 (by decide) ?_
              refine lv_icmp_lt (tgt := 55) hx hb d_Operations_isTwin_41 (by decide) (fun c_29 => ?_) (fun c_29 => ?_)
              · refine lv_iconst (v := (0 : Int32)) hx hb d_Operations_isTwin_55 (by decide) ?_
                exact rz_ hx hb hr hk (by decide) (by rw [q_Operations_isTwin, if_neg c_1, if_neg c_16, if_neg c_17, if_neg c_24, if_neg c_25, if_neg c_28, if_pos c_29]) d_Operations_isTwin_56
              · refine lv_iload_n hx hb d_Operations_isTwin_44 rfl (lv_at hl 0 rfl) ?_
                refine lv_sipush (v := (166 : Int32)) hx hb d_Operations_isTwin_45 (by decide) ?_
                refine lv_icmp_gt (tgt := 55) hx hb d_Operations_isTwin_48 (by decide) (fun c_30 => ?_) (fun c_30 => ?_)
                · refine lv_iconst (v := (0 : Int32)) hx hb d_Operations_isTwin_55 (by decide) ?_
                  exact rz_ hx hb hr hk (by decide) (by rw [q_Operations_isTwin, if_neg c_1, if_neg c_16, if_neg c_17, if_neg c_24, if_neg c_25, if_neg c_28, if_neg c_29, if_pos c_30]) d_Operations_isTwin_56
                · refine lv_iconst (v := (1 : Int32)) hx hb d_Operations_isTwin_51 (by decide) ?_
                  refine lv_goto (tgt := 56) hx hb d_Operations_isTwin_52 (by decide) ?_
                  exact rz_ hx hb hr hk (by decide) (by rw [q_Operations_isTwin, if_neg c_1, if_neg c_16, if_neg c_17, if_neg c_24, if_neg c_25, if_neg c_28, if_neg c_29, if_neg c_30]) d_Operations_isTwin_56
def q_Operations_of32 (a0 : Int32) : Int32 :=
  if (q_Operations_isTwin a0) = 0 then
    a0
  else
    if (90 : Int32) < a0 then
      if (102 : Int32) < a0 then
        if (138 : Int32) < a0 then
          (a0 - (14 : Int32))
        else
          (a0 - (18 : Int32))
      else
        (a0 - (6 : Int32))
    else
      (a0 - (11 : Int32))
theorem kB_Operations_of32 : SB y_Operations_of32 b_Operations_of32 1 (some .int) 1 := ⟨wt_94, wt_93, wt_37, by decide +kernel⟩
set_option maxHeartbeats 4000000 in
set_option maxRecDepth 100000 in
theorem c_Operations_of32 (l : Launch) (A : Nat → Prop) (ad : Nat → Nat) (a0 : Int32) : Met l y_Operations_of32 (Cond.code y_Operations_of32 b_Operations_of32 1 (some .int) :: BT) ({ frames := 1, cells := 0, slots := 0, locals := 20 }) (PC A ad [.int a0]) (vp_Si (fun r => r = q_Operations_of32 a0)) 0 0 (fun _ => False) := by
  refine pm_ (by decide +kernel) (Nat.le_of_ble_eq_true rfl) ?_
  intro p e s m below meth c hq hr hk ls hl
  have hx := hq.1
  have hb := hq.2.1
  have hts := hq.2.2.2.2.1
  have hl : lv_has ls 1 [(0, .int a0)] := hl
  refine lv_iload_n hx hb d_Operations_of32_0 rfl (lv_at hl 0 rfl) ?_
  refine si_ (As := [.int a0]) (rest := []) hq (c_Operations_isTwin l A ad a0) kB_Operations_isTwin wt_95 ⟨rfl, rfl, Nat.le_of_ble_eq_true rfl, Nat.le_of_ble_eq_true rfl⟩ rfl hl.1 rfl (Nat.le_of_ble_eq_true rfl) d_Operations_of32_1 ⟨Nat.zero_le _, Nat.zero_le _⟩ ?_
  refine lv_if_ne (tgt := 9) hx hb d_Operations_of32_4 (by decide) (fun c_1 => ?_) (fun c_1 => ?_)
  · refine lv_iload_n hx hb d_Operations_of32_9 rfl (lv_at hl 0 rfl) ?_
    refine lv_bipush (v := (90 : Int32)) hx hb d_Operations_of32_10 (by decide) ?_
    refine lv_icmp_gt (tgt := 20) hx hb d_Operations_of32_12 (by decide) (fun c_2 => ?_) (fun c_2 => ?_)
    · refine lv_iload_n hx hb d_Operations_of32_20 rfl (lv_at hl 0 rfl) ?_
      refine lv_bipush (v := (102 : Int32)) hx hb d_Operations_of32_21 (by decide) ?_
      refine lv_icmp_gt (tgt := 31) hx hb d_Operations_of32_23 (by decide) (fun c_3 => ?_) (fun c_3 => ?_)
      · refine lv_iload_n hx hb d_Operations_of32_31 rfl (lv_at hl 0 rfl) ?_
        refine lv_sipush (v := (138 : Int32)) hx hb d_Operations_of32_32 (by decide) ?_
        refine lv_icmp_gt (tgt := 43) hx hb d_Operations_of32_35 (by decide) (fun c_4 => ?_) (fun c_4 => ?_)
        · refine lv_iload_n hx hb d_Operations_of32_43 rfl (lv_at hl 0 rfl) ?_
          refine lv_bipush (v := (14 : Int32)) hx hb d_Operations_of32_44 (by decide) ?_
          refine lv_isub hx hb d_Operations_of32_46 ?_
          exact ri_ hx hb hr hk (by rw [q_Operations_of32, if_neg c_1, if_pos c_2, if_pos c_3, if_pos c_4]) d_Operations_of32_47
        · refine lv_iload_n hx hb d_Operations_of32_38 rfl (lv_at hl 0 rfl) ?_
          refine lv_bipush (v := (18 : Int32)) hx hb d_Operations_of32_39 (by decide) ?_
          refine lv_isub hx hb d_Operations_of32_41 ?_
          exact ri_ hx hb hr hk (by rw [q_Operations_of32, if_neg c_1, if_pos c_2, if_pos c_3, if_neg c_4]) d_Operations_of32_42
      · refine lv_iload_n hx hb d_Operations_of32_26 rfl (lv_at hl 0 rfl) ?_
        refine lv_bipush (v := (6 : Int32)) hx hb d_Operations_of32_27 (by decide) ?_
        refine lv_isub hx hb d_Operations_of32_29 ?_
        exact ri_ hx hb hr hk (by rw [q_Operations_of32, if_neg c_1, if_pos c_2, if_neg c_3]) d_Operations_of32_30
    · refine lv_iload_n hx hb d_Operations_of32_15 rfl (lv_at hl 0 rfl) ?_
      refine lv_bipush (v := (11 : Int32)) hx hb d_Operations_of32_16 (by decide) ?_
      refine lv_isub hx hb d_Operations_of32_18 ?_
      exact ri_ hx hb hr hk (by rw [q_Operations_of32, if_neg c_1, if_neg c_2]) d_Operations_of32_19
  · refine lv_iload_n hx hb d_Operations_of32_7 rfl (lv_at hl 0 rfl) ?_
    exact ri_ hx hb hr hk (by rw [q_Operations_of32, if_pos c_1]) d_Operations_of32_8
