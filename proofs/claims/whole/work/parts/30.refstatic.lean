theorem dn_ (k : Nat) : nI k + Int32.ofInt (-1) = zI ((k : Nat) - 1) := by
  rw [← zI_n]
  exact zI_add k (-1)
theorem up_ (k : Nat) : zI (((k + 1 : Nat) : Int) - 1) = nI k := by
  rw [← zI_n]; congr 1; omega
theorem nb_ {x : Int32} (h : x = 0 ∨ x = 1) : narrow .boolean (.int x) = .int x := by
  rcases h with rfl | rfl <;> rfl
def q_Ref_isIn (a0 : Int32) (a1 : Int32) (a2 : Int32) : Int32 :=
  if a0 < a1 then
    (0 : Int32)
  else
    if a2 < a0 then
      (0 : Int32)
    else
      (1 : Int32)
theorem zb_Ref_isIn (a0 : Int32) (a1 : Int32) (a2 : Int32) : q_Ref_isIn a0 a1 a2 = 0 ∨ q_Ref_isIn a0 a1 a2 = 1 := by
  unfold q_Ref_isIn
  repeat' split
  all_goals first | exact Or.inl rfl | exact Or.inr rfl
theorem kB_Ref_isIn : SB y_Ref_isIn b_Ref_isIn 3 (some .boolean) 3 := ⟨wt_535, wt_534, wt_36, by decide +kernel⟩
set_option maxHeartbeats 4000000 in
set_option maxRecDepth 100000 in
theorem c_Ref_isIn (l : Launch) (A : Nat → Prop) (ad : Nat → Nat) (a0 : Int32) (a1 : Int32) (a2 : Int32) : Met l y_Ref_isIn (Cond.code y_Ref_isIn b_Ref_isIn 3 (some .boolean) :: BT) ({ frames := 0, cells := 0, slots := 0, locals := 0 }) (PC A ad [.int a0, .int a1, .int a2]) (vp_Si (fun r => r = q_Ref_isIn a0 a1 a2)) 0 0 (fun _ => False) := by
  refine pm_ (by decide +kernel) (Nat.le_of_ble_eq_true rfl) ?_
  intro p e s m below meth c hq hr hk ls hl
  have hx := hq.1
  have hb := hq.2.1
  have hts := hq.2.2.2.2.1
  have hl : lv_has ls 3 [(0, .int a0), (1, .int a1), (2, .int a2)] := hl
  refine lv_iload_n hx hb d_Ref_isIn_0 rfl (lv_at hl 0 rfl) ?_
  refine lv_iload_n hx hb d_Ref_isIn_1 rfl (lv_at hl 1 rfl) ?_
  refine lv_icmp_lt (tgt := 14) hx hb d_Ref_isIn_2 (by decide) (fun c_1 => ?_) (fun c_1 => ?_)
  · refine lv_iconst (v := (0 : Int32)) hx hb d_Ref_isIn_14 (by decide) ?_
    exact rz_ hx hb hr hk (by decide) (by rw [q_Ref_isIn, if_pos c_1]) d_Ref_isIn_15
  · refine lv_iload_n hx hb d_Ref_isIn_5 rfl (lv_at hl 0 rfl) ?_
    refine lv_iload_n hx hb d_Ref_isIn_6 rfl (lv_at hl 2 rfl) ?_
    refine lv_icmp_gt (tgt := 14) hx hb d_Ref_isIn_7 (by decide) (fun c_2 => ?_) (fun c_2 => ?_)
    · refine lv_iconst (v := (0 : Int32)) hx hb d_Ref_isIn_14 (by decide) ?_
      exact rz_ hx hb hr hk (by decide) (by rw [q_Ref_isIn, if_neg c_1, if_pos c_2]) d_Ref_isIn_15
    · refine lv_iconst (v := (1 : Int32)) hx hb d_Ref_isIn_10 (by decide) ?_
      refine lv_goto (tgt := 15) hx hb d_Ref_isIn_11 (by decide) ?_
      exact rz_ hx hb hr hk (by decide) (by rw [q_Ref_isIn, if_neg c_1, if_neg c_2]) d_Ref_isIn_15
def q_Ref_result (a0 : Int32) : Int32 :=
  if (120 : Int32) < a0 then
    if (166 : Int32) < a0 then
      if (177 : Int32) < a0 then
        if (182 : Int32) < a0 then
          if (187 : Int32) < a0 then
            (a0 - (188 : Int32))
          else
            (3 : Int32)
        else
          (2 : Int32)
      else
        if (171 : Int32) < a0 then
          (1 : Int32)
        else
          (0 : Int32)
    else
      if (138 : Int32) < a0 then
        if (152 : Int32) < a0 then
          (3 : Int32)
        else
          (2 : Int32)
      else
        (1 : Int32)
  else
    (0 : Int32)
theorem kB_Ref_result : SB y_Ref_result b_Ref_result 1 (some .int) 1 := ⟨wt_538, wt_537, wt_36, by decide +kernel⟩
set_option maxHeartbeats 4000000 in
set_option maxRecDepth 100000 in
theorem c_Ref_result (l : Launch) (A : Nat → Prop) (ad : Nat → Nat) (a0 : Int32) : Met l y_Ref_result (Cond.code y_Ref_result b_Ref_result 1 (some .int) :: BT) ({ frames := 0, cells := 0, slots := 0, locals := 0 }) (PC A ad [.int a0]) (vp_Si (fun r => r = q_Ref_result a0)) 0 0 (fun _ => False) := by
  refine pm_ (by decide +kernel) (Nat.le_of_ble_eq_true rfl) ?_
  intro p e s m below meth c hq hr hk ls hl
  have hx := hq.1
  have hb := hq.2.1
  have hts := hq.2.2.2.2.1
  have hl : lv_has ls 1 [(0, .int a0)] := hl
  refine lv_iload_n hx hb d_Ref_result_0 rfl (lv_at hl 0 rfl) ?_
  refine lv_bipush (v := (120 : Int32)) hx hb d_Ref_result_1 (by decide) ?_
  refine lv_icmp_gt (tgt := 8) hx hb d_Ref_result_3 (by decide) (fun c_1 => ?_) (fun c_1 => ?_)
  · refine lv_iload_n hx hb d_Ref_result_8 rfl (lv_at hl 0 rfl) ?_
    refine lv_sipush (v := (166 : Int32)) hx hb d_Ref_result_9 (by decide) ?_
    refine lv_icmp_gt (tgt := 39) hx hb d_Ref_result_12 (by decide) (fun c_2 => ?_) (fun c_2 => ?_)
    · refine lv_iload_n hx hb d_Ref_result_39 rfl (lv_at hl 0 rfl) ?_
      refine lv_sipush (v := (177 : Int32)) hx hb d_Ref_result_40 (by decide) ?_
      refine lv_icmp_gt (tgt := 59) hx hb d_Ref_result_43 (by decide) (fun c_3 => ?_) (fun c_3 => ?_)
      · refine lv_iload_n hx hb d_Ref_result_59 rfl (lv_at hl 0 rfl) ?_
        refine lv_sipush (v := (182 : Int32)) hx hb d_Ref_result_60 (by decide) ?_
        refine lv_icmp_gt (tgt := 70) hx hb d_Ref_result_63 (by decide) (fun c_4 => ?_) (fun c_4 => ?_)
        · refine lv_iload_n hx hb d_Ref_result_70 rfl (lv_at hl 0 rfl) ?_
          refine lv_sipush (v := (187 : Int32)) hx hb d_Ref_result_71 (by decide) ?_
          refine lv_icmp_gt (tgt := 81) hx hb d_Ref_result_74 (by decide) (fun c_5 => ?_) (fun c_5 => ?_)
          · refine lv_iload_n hx hb d_Ref_result_81 rfl (lv_at hl 0 rfl) ?_
            refine lv_sipush (v := (188 : Int32)) hx hb d_Ref_result_82 (by decide) ?_
            refine lv_isub hx hb d_Ref_result_85 ?_
            exact ri_ hx hb hr hk (by rw [q_Ref_result, if_pos c_1, if_pos c_2, if_pos c_3, if_pos c_4, if_pos c_5]) d_Ref_result_86
          · refine lv_iconst (v := (3 : Int32)) hx hb d_Ref_result_77 (by decide) ?_
            refine lv_goto (tgt := 86) hx hb d_Ref_result_78 (by decide) ?_
            exact ri_ hx hb hr hk (by rw [q_Ref_result, if_pos c_1, if_pos c_2, if_pos c_3, if_pos c_4, if_neg c_5]) d_Ref_result_86
        · refine lv_iconst (v := (2 : Int32)) hx hb d_Ref_result_66 (by decide) ?_
          refine lv_goto (tgt := 86) hx hb d_Ref_result_67 (by decide) ?_
          exact ri_ hx hb hr hk (by rw [q_Ref_result, if_pos c_1, if_pos c_2, if_pos c_3, if_neg c_4]) d_Ref_result_86
      · refine lv_iload_n hx hb d_Ref_result_46 rfl (lv_at hl 0 rfl) ?_
        refine lv_sipush (v := (171 : Int32)) hx hb d_Ref_result_47 (by decide) ?_
        refine lv_icmp_gt (tgt := 57) hx hb d_Ref_result_50 (by decide) (fun c_6 => ?_) (fun c_6 => ?_)
        · refine lv_iconst (v := (1 : Int32)) hx hb d_Ref_result_57 (by decide) ?_
          exact ri_ hx hb hr hk (by rw [q_Ref_result, if_pos c_1, if_pos c_2, if_neg c_3, if_pos c_6]) d_Ref_result_58
        · refine lv_iconst (v := (0 : Int32)) hx hb d_Ref_result_53 (by decide) ?_
          refine lv_goto (tgt := 58) hx hb d_Ref_result_54 (by decide) ?_
          exact ri_ hx hb hr hk (by rw [q_Ref_result, if_pos c_1, if_pos c_2, if_neg c_3, if_neg c_6]) d_Ref_result_58
    · refine lv_iload_n hx hb d_Ref_result_15 rfl (lv_at hl 0 rfl) ?_
      refine lv_sipush (v := (138 : Int32)) hx hb d_Ref_result_16 (by decide) ?_
      refine lv_icmp_gt (tgt := 26) hx hb d_Ref_result_19 (by decide) (fun c_7 => ?_) (fun c_7 => ?_)
      · refine lv_iload_n hx hb d_Ref_result_26 rfl (lv_at hl 0 rfl) ?_
        refine lv_sipush (v := (152 : Int32)) hx hb d_Ref_result_27 (by decide) ?_
        refine lv_icmp_gt (tgt := 37) hx hb d_Ref_result_30 (by decide) (fun c_8 => ?_) (fun c_8 => ?_)
        · refine lv_iconst (v := (3 : Int32)) hx hb d_Ref_result_37 (by decide) ?_
          exact ri_ hx hb hr hk (by rw [q_Ref_result, if_pos c_1, if_neg c_2, if_pos c_7, if_pos c_8]) d_Ref_result_38
        · refine lv_iconst (v := (2 : Int32)) hx hb d_Ref_result_33 (by decide) ?_
          refine lv_goto (tgt := 38) hx hb d_Ref_result_34 (by decide) ?_
          exact ri_ hx hb hr hk (by rw [q_Ref_result, if_pos c_1, if_neg c_2, if_pos c_7, if_neg c_8]) d_Ref_result_38
      · refine lv_iconst (v := (1 : Int32)) hx hb d_Ref_result_22 (by decide) ?_
        refine lv_goto (tgt := 38) hx hb d_Ref_result_23 (by decide) ?_
        exact ri_ hx hb hr hk (by rw [q_Ref_result, if_pos c_1, if_neg c_2, if_neg c_7]) d_Ref_result_38
  · refine lv_iconst (v := (0 : Int32)) hx hb d_Ref_result_6 (by decide) ?_
    exact ri_ hx hb hr hk (by rw [q_Ref_result, if_neg c_1]) d_Ref_result_7
def q_Ref_first (a0 : Int32) : Int32 :=
  if (102 : Int32) < a0 then
    if (166 : Int32) < a0 then
      if a0 = (167 : Int32) then
        (1 : Int32)
      else
        if a0 = (168 : Int32) then
          (2 : Int32)
        else
          if a0 = (169 : Int32) then
            (2 : Int32)
          else
            if a0 = (170 : Int32) then
              (3 : Int32)
            else
              if a0 = (171 : Int32) then
                (3 : Int32)
              else
                if a0 = (174 : Int32) then
                  (2 : Int32)
                else
                  if a0 = (175 : Int32) then
                    (2 : Int32)
                  else
                    if a0 = (176 : Int32) then
                      (3 : Int32)
                    else
                      if a0 = (177 : Int32) then
                        (3 : Int32)
                      else
                        if a0 = (180 : Int32) then
                          (1 : Int32)
                        else
                          if a0 = (181 : Int32) then
                            (1 : Int32)
                          else
                            if a0 = (182 : Int32) then
                              (3 : Int32)
                            else
                              if a0 = (185 : Int32) then
                                (1 : Int32)
                              else
                                if a0 = (186 : Int32) then
                                  (1 : Int32)
                                else
                                  if a0 = (187 : Int32) then
                                    (2 : Int32)
                                  else
                                    if a0 = (188 : Int32) then
                                      (2 : Int32)
                                    else
                                      if a0 = (189 : Int32) then
                                        (3 : Int32)
                                      else
                                        if a0 = (191 : Int32) then
                                          (1 : Int32)
                                        else
                                          (0 : Int32)
    else
      (q_Ref_result a0)
  else
    if (79 : Int32) < a0 then
      if (90 : Int32) < a0 then
        if (96 : Int32) < a0 then
          (3 : Int32)
        else
          (2 : Int32)
      else
        (1 : Int32)
    else
      (0 : Int32)
theorem kB_Ref_first : SB y_Ref_first b_Ref_first 1 (some .int) 1 := ⟨wt_541, wt_540, wt_36, by decide +kernel⟩
set_option maxHeartbeats 4000000 in
set_option maxRecDepth 100000 in
theorem c_Ref_first (l : Launch) (A : Nat → Prop) (ad : Nat → Nat) (a0 : Int32) : Met l y_Ref_first (Cond.code y_Ref_first b_Ref_first 1 (some .int) :: BT) ({ frames := 1, cells := 0, slots := 0, locals := 20 }) (PC A ad [.int a0]) (vp_Si (fun r => r = q_Ref_first a0)) 0 0 (fun _ => False) := by
  refine pm_ (by decide +kernel) (Nat.le_of_ble_eq_true rfl) ?_
  intro p e s m below meth c hq hr hk ls hl
  have hx := hq.1
  have hb := hq.2.1
  have hts := hq.2.2.2.2.1
  have hl : lv_has ls 1 [(0, .int a0)] := hl
  refine lv_iload_n hx hb d_Ref_first_0 rfl (lv_at hl 0 rfl) ?_
  refine lv_bipush (v := (102 : Int32)) hx hb d_Ref_first_1 (by decide) ?_
  refine lv_icmp_gt (tgt := 38) hx hb d_Ref_first_3 (by decide) (fun c_1 => ?_) (fun c_1 => ?_)
  · refine lv_iload_n hx hb d_Ref_first_38 rfl (lv_at hl 0 rfl) ?_
    refine lv_sipush (v := (166 : Int32)) hx hb d_Ref_first_39 (by decide) ?_
    refine lv_icmp_gt (tgt := 50) hx hb d_Ref_first_42 (by decide) (fun c_2 => ?_) (fun c_2 => ?_)
    · refine lv_iload_n hx hb d_Ref_first_50 rfl (lv_at hl 0 rfl) ?_
      by_cases c_3 : a0 = (167 : Int32)
      · refine lv_tableIn (tgt := 164) hx hb d_Ref_first_51 (by rw [c_3]; decide) (by rw [c_3]; decide) (by rw [c_3]; rfl) (by decide) ?_
        refine lv_iconst (v := (1 : Int32)) hx hb d_Ref_first_164 (by decide) ?_
        exact ri_ hx hb hr hk (by rw [q_Ref_first, if_pos c_1, if_pos c_2, if_pos c_3]) d_Ref_first_165
      by_cases c_4 : a0 = (168 : Int32)
      · refine lv_tableIn (tgt := 166) hx hb d_Ref_first_51 (by rw [c_4]; decide) (by rw [c_4]; decide) (by rw [c_4]; rfl) (by decide) ?_
        refine lv_iconst (v := (2 : Int32)) hx hb d_Ref_first_166 (by decide) ?_
        exact ri_ hx hb hr hk (by rw [q_Ref_first, if_pos c_1, if_pos c_2, if_neg c_3, if_pos c_4]) d_Ref_first_167
      by_cases c_5 : a0 = (169 : Int32)
      · refine lv_tableIn (tgt := 166) hx hb d_Ref_first_51 (by rw [c_5]; decide) (by rw [c_5]; decide) (by rw [c_5]; rfl) (by decide) ?_
        refine lv_iconst (v := (2 : Int32)) hx hb d_Ref_first_166 (by decide) ?_
        exact ri_ hx hb hr hk (by rw [q_Ref_first, if_pos c_1, if_pos c_2, if_neg c_3, if_neg c_4, if_pos c_5]) d_Ref_first_167
      by_cases c_6 : a0 = (170 : Int32)
      · refine lv_tableIn (tgt := 168) hx hb d_Ref_first_51 (by rw [c_6]; decide) (by rw [c_6]; decide) (by rw [c_6]; rfl) (by decide) ?_
        refine lv_iconst (v := (3 : Int32)) hx hb d_Ref_first_168 (by decide) ?_
        exact ri_ hx hb hr hk (by rw [q_Ref_first, if_pos c_1, if_pos c_2, if_neg c_3, if_neg c_4, if_neg c_5, if_pos c_6]) d_Ref_first_169
      by_cases c_7 : a0 = (171 : Int32)
      · refine lv_tableIn (tgt := 168) hx hb d_Ref_first_51 (by rw [c_7]; decide) (by rw [c_7]; decide) (by rw [c_7]; rfl) (by decide) ?_
        refine lv_iconst (v := (3 : Int32)) hx hb d_Ref_first_168 (by decide) ?_
        exact ri_ hx hb hr hk (by rw [q_Ref_first, if_pos c_1, if_pos c_2, if_neg c_3, if_neg c_4, if_neg c_5, if_neg c_6, if_pos c_7]) d_Ref_first_169
      by_cases c_8 : a0 = (174 : Int32)
      · refine lv_tableIn (tgt := 166) hx hb d_Ref_first_51 (by rw [c_8]; decide) (by rw [c_8]; decide) (by rw [c_8]; rfl) (by decide) ?_
        refine lv_iconst (v := (2 : Int32)) hx hb d_Ref_first_166 (by decide) ?_
        exact ri_ hx hb hr hk (by rw [q_Ref_first, if_pos c_1, if_pos c_2, if_neg c_3, if_neg c_4, if_neg c_5, if_neg c_6, if_neg c_7, if_pos c_8]) d_Ref_first_167
      by_cases c_9 : a0 = (175 : Int32)
      · refine lv_tableIn (tgt := 166) hx hb d_Ref_first_51 (by rw [c_9]; decide) (by rw [c_9]; decide) (by rw [c_9]; rfl) (by decide) ?_
        refine lv_iconst (v := (2 : Int32)) hx hb d_Ref_first_166 (by decide) ?_
        exact ri_ hx hb hr hk (by rw [q_Ref_first, if_pos c_1, if_pos c_2, if_neg c_3, if_neg c_4, if_neg c_5, if_neg c_6, if_neg c_7, if_neg c_8, if_pos c_9]) d_Ref_first_167
      by_cases c_10 : a0 = (176 : Int32)
      · refine lv_tableIn (tgt := 168) hx hb d_Ref_first_51 (by rw [c_10]; decide) (by rw [c_10]; decide) (by rw [c_10]; rfl) (by decide) ?_
        refine lv_iconst (v := (3 : Int32)) hx hb d_Ref_first_168 (by decide) ?_
        exact ri_ hx hb hr hk (by rw [q_Ref_first, if_pos c_1, if_pos c_2, if_neg c_3, if_neg c_4, if_neg c_5, if_neg c_6, if_neg c_7, if_neg c_8, if_neg c_9, if_pos c_10]) d_Ref_first_169
      by_cases c_11 : a0 = (177 : Int32)
      · refine lv_tableIn (tgt := 168) hx hb d_Ref_first_51 (by rw [c_11]; decide) (by rw [c_11]; decide) (by rw [c_11]; rfl) (by decide) ?_
        refine lv_iconst (v := (3 : Int32)) hx hb d_Ref_first_168 (by decide) ?_
        exact ri_ hx hb hr hk (by rw [q_Ref_first, if_pos c_1, if_pos c_2, if_neg c_3, if_neg c_4, if_neg c_5, if_neg c_6, if_neg c_7, if_neg c_8, if_neg c_9, if_neg c_10, if_pos c_11]) d_Ref_first_169
      by_cases c_12 : a0 = (180 : Int32)
      · refine lv_tableIn (tgt := 164) hx hb d_Ref_first_51 (by rw [c_12]; decide) (by rw [c_12]; decide) (by rw [c_12]; rfl) (by decide) ?_
        refine lv_iconst (v := (1 : Int32)) hx hb d_Ref_first_164 (by decide) ?_
        exact ri_ hx hb hr hk (by rw [q_Ref_first, if_pos c_1, if_pos c_2, if_neg c_3, if_neg c_4, if_neg c_5, if_neg c_6, if_neg c_7, if_neg c_8, if_neg c_9, if_neg c_10, if_neg c_11, if_pos c_12]) d_Ref_first_165
      by_cases c_13 : a0 = (181 : Int32)
      · refine lv_tableIn (tgt := 164) hx hb d_Ref_first_51 (by rw [c_13]; decide) (by rw [c_13]; decide) (by rw [c_13]; rfl) (by decide) ?_
        refine lv_iconst (v := (1 : Int32)) hx hb d_Ref_first_164 (by decide) ?_
        exact ri_ hx hb hr hk (by rw [q_Ref_first, if_pos c_1, if_pos c_2, if_neg c_3, if_neg c_4, if_neg c_5, if_neg c_6, if_neg c_7, if_neg c_8, if_neg c_9, if_neg c_10, if_neg c_11, if_neg c_12, if_pos c_13]) d_Ref_first_165
      by_cases c_14 : a0 = (182 : Int32)
      · refine lv_tableIn (tgt := 168) hx hb d_Ref_first_51 (by rw [c_14]; decide) (by rw [c_14]; decide) (by rw [c_14]; rfl) (by decide) ?_
        refine lv_iconst (v := (3 : Int32)) hx hb d_Ref_first_168 (by decide) ?_
        exact ri_ hx hb hr hk (by rw [q_Ref_first, if_pos c_1, if_pos c_2, if_neg c_3, if_neg c_4, if_neg c_5, if_neg c_6, if_neg c_7, if_neg c_8, if_neg c_9, if_neg c_10, if_neg c_11, if_neg c_12, if_neg c_13, if_pos c_14]) d_Ref_first_169
      by_cases c_15 : a0 = (185 : Int32)
      · refine lv_tableIn (tgt := 164) hx hb d_Ref_first_51 (by rw [c_15]; decide) (by rw [c_15]; decide) (by rw [c_15]; rfl) (by decide) ?_
        refine lv_iconst (v := (1 : Int32)) hx hb d_Ref_first_164 (by decide) ?_
        exact ri_ hx hb hr hk (by rw [q_Ref_first, if_pos c_1, if_pos c_2, if_neg c_3, if_neg c_4, if_neg c_5, if_neg c_6, if_neg c_7, if_neg c_8, if_neg c_9, if_neg c_10, if_neg c_11, if_neg c_12, if_neg c_13, if_neg c_14, if_pos c_15]) d_Ref_first_165
      by_cases c_16 : a0 = (186 : Int32)
      · refine lv_tableIn (tgt := 164) hx hb d_Ref_first_51 (by rw [c_16]; decide) (by rw [c_16]; decide) (by rw [c_16]; rfl) (by decide) ?_
        refine lv_iconst (v := (1 : Int32)) hx hb d_Ref_first_164 (by decide) ?_
        exact ri_ hx hb hr hk (by rw [q_Ref_first, if_pos c_1, if_pos c_2, if_neg c_3, if_neg c_4, if_neg c_5, if_neg c_6, if_neg c_7, if_neg c_8, if_neg c_9, if_neg c_10, if_neg c_11, if_neg c_12, if_neg c_13, if_neg c_14, if_neg c_15, if_pos c_16]) d_Ref_first_165
      by_cases c_17 : a0 = (187 : Int32)
      · refine lv_tableIn (tgt := 166) hx hb d_Ref_first_51 (by rw [c_17]; decide) (by rw [c_17]; decide) (by rw [c_17]; rfl) (by decide) ?_
        refine lv_iconst (v := (2 : Int32)) hx hb d_Ref_first_166 (by decide) ?_
        exact ri_ hx hb hr hk (by rw [q_Ref_first, if_pos c_1, if_pos c_2, if_neg c_3, if_neg c_4, if_neg c_5, if_neg c_6, if_neg c_7, if_neg c_8, if_neg c_9, if_neg c_10, if_neg c_11, if_neg c_12, if_neg c_13, if_neg c_14, if_neg c_15, if_neg c_16, if_pos c_17]) d_Ref_first_167
      by_cases c_18 : a0 = (188 : Int32)
      · refine lv_tableIn (tgt := 166) hx hb d_Ref_first_51 (by rw [c_18]; decide) (by rw [c_18]; decide) (by rw [c_18]; rfl) (by decide) ?_
        refine lv_iconst (v := (2 : Int32)) hx hb d_Ref_first_166 (by decide) ?_
        exact ri_ hx hb hr hk (by rw [q_Ref_first, if_pos c_1, if_pos c_2, if_neg c_3, if_neg c_4, if_neg c_5, if_neg c_6, if_neg c_7, if_neg c_8, if_neg c_9, if_neg c_10, if_neg c_11, if_neg c_12, if_neg c_13, if_neg c_14, if_neg c_15, if_neg c_16, if_neg c_17, if_pos c_18]) d_Ref_first_167
      by_cases c_19 : a0 = (189 : Int32)
      · refine lv_tableIn (tgt := 168) hx hb d_Ref_first_51 (by rw [c_19]; decide) (by rw [c_19]; decide) (by rw [c_19]; rfl) (by decide) ?_
        refine lv_iconst (v := (3 : Int32)) hx hb d_Ref_first_168 (by decide) ?_
        exact ri_ hx hb hr hk (by rw [q_Ref_first, if_pos c_1, if_pos c_2, if_neg c_3, if_neg c_4, if_neg c_5, if_neg c_6, if_neg c_7, if_neg c_8, if_neg c_9, if_neg c_10, if_neg c_11, if_neg c_12, if_neg c_13, if_neg c_14, if_neg c_15, if_neg c_16, if_neg c_17, if_neg c_18, if_pos c_19]) d_Ref_first_169
      by_cases c_20 : a0 = (191 : Int32)
      · refine lv_tableIn (tgt := 164) hx hb d_Ref_first_51 (by rw [c_20]; decide) (by rw [c_20]; decide) (by rw [c_20]; rfl) (by decide) ?_
        refine lv_iconst (v := (1 : Int32)) hx hb d_Ref_first_164 (by decide) ?_
        exact ri_ hx hb hr hk (by rw [q_Ref_first, if_pos c_1, if_pos c_2, if_neg c_3, if_neg c_4, if_neg c_5, if_neg c_6, if_neg c_7, if_neg c_8, if_neg c_9, if_neg c_10, if_neg c_11, if_neg c_12, if_neg c_13, if_neg c_14, if_neg c_15, if_neg c_16, if_neg c_17, if_neg c_18, if_neg c_19, if_pos c_20]) d_Ref_first_165
      have hsw : a0.toInt < 167 ∨ 191 < a0.toInt ∨ a0.toInt = 172 ∨ a0.toInt = 173 ∨ a0.toInt = 178 ∨ a0.toInt = 179 ∨ a0.toInt = 183 ∨ a0.toInt = 184 ∨ a0.toInt = 190 := by
        have := lv_neT c_3 (a := 167) (by decide)
        have := lv_neT c_4 (a := 168) (by decide)
        have := lv_neT c_5 (a := 169) (by decide)
        have := lv_neT c_6 (a := 170) (by decide)
        have := lv_neT c_7 (a := 171) (by decide)
        have := lv_neT c_8 (a := 174) (by decide)
        have := lv_neT c_9 (a := 175) (by decide)
        have := lv_neT c_10 (a := 176) (by decide)
        have := lv_neT c_11 (a := 177) (by decide)
        have := lv_neT c_12 (a := 180) (by decide)
        have := lv_neT c_13 (a := 181) (by decide)
        have := lv_neT c_14 (a := 182) (by decide)
        have := lv_neT c_15 (a := 185) (by decide)
        have := lv_neT c_16 (a := 186) (by decide)
        have := lv_neT c_17 (a := 187) (by decide)
        have := lv_neT c_18 (a := 188) (by decide)
        have := lv_neT c_19 (a := 189) (by decide)
        have := lv_neT c_20 (a := 191) (by decide)
        omega
      have hs2 : a0.toInt < 167 ∨ 191 < a0.toInt ∨ (¬ a0.toInt < 167 ∧ ¬ 191 < a0.toInt ∧ (#[113, 115, 115, 117, 117, 119, 119, 115, 115, 117, 117, 119, 119, 113, 113, 117, 119, 119, 113, 113, 115, 115, 117, 119, 113] : Array Int)[(a0.toInt - 167).toNat]? = some 119) := by
        rcases hsw with h9 | h9 | h9 | h9 | h9 | h9 | h9 | h9 | h9
        · exact Or.inl h9
        · exact Or.inr (Or.inl h9)
        all_goals exact Or.inr (Or.inr ⟨by rw [h9]; decide, by rw [h9]; decide, by rw [h9] <;> rfl⟩)
      refine tb_dflt (tgt := 170) hx hb d_Ref_first_51 hs2 (by decide) ?_
      refine lv_iconst (v := (0 : Int32)) hx hb d_Ref_first_170 (by decide) ?_
      exact ri_ hx hb hr hk (by rw [q_Ref_first, if_pos c_1, if_pos c_2, if_neg c_3, if_neg c_4, if_neg c_5, if_neg c_6, if_neg c_7, if_neg c_8, if_neg c_9, if_neg c_10, if_neg c_11, if_neg c_12, if_neg c_13, if_neg c_14, if_neg c_15, if_neg c_16, if_neg c_17, if_neg c_18, if_neg c_19, if_neg c_20]) d_Ref_first_171
    · refine lv_iload_n hx hb d_Ref_first_45 rfl (lv_at hl 0 rfl) ?_
      refine si_ (As := [.int a0]) (rest := []) hq (c_Ref_result l A ad a0) kB_Ref_result wt_536 ⟨rfl, rfl, Nat.le_of_ble_eq_true rfl, Nat.le_of_ble_eq_true rfl⟩ rfl hl.1 rfl (Nat.le_of_ble_eq_true rfl) d_Ref_first_46 ⟨Nat.zero_le _, Nat.zero_le _⟩ ?_
      exact ri_ hx hb hr hk (by rw [q_Ref_first, if_pos c_1, if_neg c_2]) d_Ref_first_49
  · refine lv_iload_n hx hb d_Ref_first_6 rfl (lv_at hl 0 rfl) ?_
    refine lv_bipush (v := (79 : Int32)) hx hb d_Ref_first_7 (by decide) ?_
    refine lv_icmp_gt (tgt := 16) hx hb d_Ref_first_9 (by decide) (fun c_21 => ?_) (fun c_21 => ?_)
    · refine lv_iload_n hx hb d_Ref_first_16 rfl (lv_at hl 0 rfl) ?_
      refine lv_bipush (v := (90 : Int32)) hx hb d_Ref_first_17 (by decide) ?_
      refine lv_icmp_gt (tgt := 26) hx hb d_Ref_first_19 (by decide) (fun c_22 => ?_) (fun c_22 => ?_)
      · refine lv_iload_n hx hb d_Ref_first_26 rfl (lv_at hl 0 rfl) ?_
        refine lv_bipush (v := (96 : Int32)) hx hb d_Ref_first_27 (by decide) ?_
        refine lv_icmp_gt (tgt := 36) hx hb d_Ref_first_29 (by decide) (fun c_23 => ?_) (fun c_23 => ?_)
        · refine lv_iconst (v := (3 : Int32)) hx hb d_Ref_first_36 (by decide) ?_
          exact ri_ hx hb hr hk (by rw [q_Ref_first, if_neg c_1, if_pos c_21, if_pos c_22, if_pos c_23]) d_Ref_first_37
        · refine lv_iconst (v := (2 : Int32)) hx hb d_Ref_first_32 (by decide) ?_
          refine lv_goto (tgt := 37) hx hb d_Ref_first_33 (by decide) ?_
          exact ri_ hx hb hr hk (by rw [q_Ref_first, if_neg c_1, if_pos c_21, if_pos c_22, if_neg c_23]) d_Ref_first_37
      · refine lv_iconst (v := (1 : Int32)) hx hb d_Ref_first_22 (by decide) ?_
        refine lv_goto (tgt := 37) hx hb d_Ref_first_23 (by decide) ?_
        exact ri_ hx hb hr hk (by rw [q_Ref_first, if_neg c_1, if_pos c_21, if_neg c_22]) d_Ref_first_37
    · refine lv_iconst (v := (0 : Int32)) hx hb d_Ref_first_12 (by decide) ?_
      refine lv_goto (tgt := 37) hx hb d_Ref_first_13 (by decide) ?_
      exact ri_ hx hb hr hk (by rw [q_Ref_first, if_neg c_1, if_neg c_21]) d_Ref_first_37
def q_Ref_second (a0 : Int32) : Int32 :=
  if (q_Ref_isIn a0 (70 : Int32) (79 : Int32)) = 0 then
    if (q_Ref_isIn a0 (81 : Int32) (102 : Int32)) = 0 then
      if (q_Ref_isIn a0 (106 : Int32) (120 : Int32)) = 0 then
        if (q_Ref_isIn a0 (124 : Int32) (138 : Int32)) = 0 then
          if (q_Ref_isIn a0 (146 : Int32) (152 : Int32)) = 0 then
            if (q_Ref_isIn a0 (160 : Int32) (166 : Int32)) = 0 then
              (-1 : Int32)
            else
              (q_Ref_first a0)
          else
            (q_Ref_first a0)
        else
          (q_Ref_first a0)
      else
        (q_Ref_first a0)
    else
      (q_Ref_first a0)
  else
    (q_Ref_first a0)
theorem kB_Ref_second : SB y_Ref_second b_Ref_second 2 (some .int) 1 := ⟨wt_544, wt_543, wt_36, by decide +kernel⟩
set_option maxHeartbeats 4000000 in
set_option maxRecDepth 100000 in
theorem c_Ref_second (l : Launch) (A : Nat → Prop) (ad : Nat → Nat) (a0 : Int32) : Met l y_Ref_second (Cond.code y_Ref_second b_Ref_second 2 (some .int) :: BT) ({ frames := 2, cells := 0, slots := 0, locals := 40 }) (PC A ad [.int a0]) (vp_Si (fun r => r = q_Ref_second a0)) 0 0 (fun _ => False) := by
  refine pm_ (by decide +kernel) (Nat.le_of_ble_eq_true rfl) ?_
  intro p e s m below meth c hq hr hk ls hl
  have hx := hq.1
  have hb := hq.2.1
  have hts := hq.2.2.2.2.1
  have hl : lv_has ls 2 [(0, .int a0)] := hl
  refine lv_iload_n hx hb d_Ref_second_0 rfl (lv_at hl 0 rfl) ?_
  refine lv_bipush (v := (70 : Int32)) hx hb d_Ref_second_1 (by decide) ?_
  refine lv_bipush (v := (79 : Int32)) hx hb d_Ref_second_3 (by decide) ?_
  refine si_ (As := [.int a0, .int (70 : Int32), .int (79 : Int32)]) (rest := []) hq (c_Ref_isIn l A ad a0 (70 : Int32) (79 : Int32)) kB_Ref_isIn wt_533 ⟨rfl, rfl, Nat.le_of_ble_eq_true rfl, Nat.le_of_ble_eq_true rfl⟩ rfl hl.1 rfl (Nat.le_of_ble_eq_true rfl) d_Ref_second_5 ⟨Nat.zero_le _, Nat.zero_le _⟩ ?_
  refine lv_if_ne (tgt := 71) hx hb d_Ref_second_8 (by decide) (fun c_1 => ?_) (fun c_1 => ?_)
  · refine lv_iconst (v := (1 : Int32)) hx hb d_Ref_second_71 (by decide) ?_
    refine lv_goto (tgt := 76) hx hb d_Ref_second_72 (by decide) ?_
    refine lv_istore_n (lv' := [(1, .int (1 : Int32)), (0, .int a0)]) hx hb d_Ref_second_76 rfl hl (by decide) rfl (fun ls hl => ?_)
    refine lv_iload_n hx hb d_Ref_second_77 rfl (lv_at hl 0 rfl) ?_
    refine lv_if_eq (tgt := 88) hx hb d_Ref_second_78 (by decide) (fun c => absurd c (by decide)) (fun _ => ?_)
    refine lv_iload_n hx hb d_Ref_second_81 rfl (lv_at hl 1 rfl) ?_
    refine si_ (As := [.int a0]) (rest := []) hq (c_Ref_first l A ad a0) kB_Ref_first wt_539 ⟨rfl, rfl, Nat.le_of_ble_eq_true rfl, Nat.le_of_ble_eq_true rfl⟩ rfl hl.1 rfl (Nat.le_of_ble_eq_true rfl) d_Ref_second_82 ⟨Nat.zero_le _, Nat.zero_le _⟩ ?_
    refine lv_goto (tgt := 89) hx hb d_Ref_second_85 (by decide) ?_
    exact ri_ hx hb hr hk (by rw [q_Ref_second, if_neg c_1]) d_Ref_second_89
  · refine lv_iload_n hx hb d_Ref_second_11 rfl (lv_at hl 0 rfl) ?_
    refine lv_bipush (v := (81 : Int32)) hx hb d_Ref_second_12 (by decide) ?_
    refine lv_bipush (v := (102 : Int32)) hx hb d_Ref_second_14 (by decide) ?_
    refine si_ (As := [.int a0, .int (81 : Int32), .int (102 : Int32)]) (rest := []) hq (c_Ref_isIn l A ad a0 (81 : Int32) (102 : Int32)) kB_Ref_isIn wt_533 ⟨rfl, rfl, Nat.le_of_ble_eq_true rfl, Nat.le_of_ble_eq_true rfl⟩ rfl hl.1 rfl (Nat.le_of_ble_eq_true rfl) d_Ref_second_16 ⟨Nat.zero_le _, Nat.zero_le _⟩ ?_
    refine lv_if_ne (tgt := 71) hx hb d_Ref_second_19 (by decide) (fun c_2 => ?_) (fun c_2 => ?_)
    · refine lv_iconst (v := (1 : Int32)) hx hb d_Ref_second_71 (by decide) ?_
      refine lv_goto (tgt := 76) hx hb d_Ref_second_72 (by decide) ?_
      refine lv_istore_n (lv' := [(1, .int (1 : Int32)), (0, .int a0)]) hx hb d_Ref_second_76 rfl hl (by decide) rfl (fun ls hl => ?_)
      refine lv_iload_n hx hb d_Ref_second_77 rfl (lv_at hl 0 rfl) ?_
      refine lv_if_eq (tgt := 88) hx hb d_Ref_second_78 (by decide) (fun c => absurd c (by decide)) (fun _ => ?_)
      refine lv_iload_n hx hb d_Ref_second_81 rfl (lv_at hl 1 rfl) ?_
      refine si_ (As := [.int a0]) (rest := []) hq (c_Ref_first l A ad a0) kB_Ref_first wt_539 ⟨rfl, rfl, Nat.le_of_ble_eq_true rfl, Nat.le_of_ble_eq_true rfl⟩ rfl hl.1 rfl (Nat.le_of_ble_eq_true rfl) d_Ref_second_82 ⟨Nat.zero_le _, Nat.zero_le _⟩ ?_
      refine lv_goto (tgt := 89) hx hb d_Ref_second_85 (by decide) ?_
      exact ri_ hx hb hr hk (by rw [q_Ref_second, if_pos c_1, if_neg c_2]) d_Ref_second_89
    · refine lv_iload_n hx hb d_Ref_second_22 rfl (lv_at hl 0 rfl) ?_
      refine lv_bipush (v := (106 : Int32)) hx hb d_Ref_second_23 (by decide) ?_
      refine lv_bipush (v := (120 : Int32)) hx hb d_Ref_second_25 (by decide) ?_
      refine si_ (As := [.int a0, .int (106 : Int32), .int (120 : Int32)]) (rest := []) hq (c_Ref_isIn l A ad a0 (106 : Int32) (120 : Int32)) kB_Ref_isIn wt_533 ⟨rfl, rfl, Nat.le_of_ble_eq_true rfl, Nat.le_of_ble_eq_true rfl⟩ rfl hl.1 rfl (Nat.le_of_ble_eq_true rfl) d_Ref_second_27 ⟨Nat.zero_le _, Nat.zero_le _⟩ ?_
      refine lv_if_ne (tgt := 71) hx hb d_Ref_second_30 (by decide) (fun c_3 => ?_) (fun c_3 => ?_)
      · refine lv_iconst (v := (1 : Int32)) hx hb d_Ref_second_71 (by decide) ?_
        refine lv_goto (tgt := 76) hx hb d_Ref_second_72 (by decide) ?_
        refine lv_istore_n (lv' := [(1, .int (1 : Int32)), (0, .int a0)]) hx hb d_Ref_second_76 rfl hl (by decide) rfl (fun ls hl => ?_)
        refine lv_iload_n hx hb d_Ref_second_77 rfl (lv_at hl 0 rfl) ?_
        refine lv_if_eq (tgt := 88) hx hb d_Ref_second_78 (by decide) (fun c => absurd c (by decide)) (fun _ => ?_)
        refine lv_iload_n hx hb d_Ref_second_81 rfl (lv_at hl 1 rfl) ?_
        refine si_ (As := [.int a0]) (rest := []) hq (c_Ref_first l A ad a0) kB_Ref_first wt_539 ⟨rfl, rfl, Nat.le_of_ble_eq_true rfl, Nat.le_of_ble_eq_true rfl⟩ rfl hl.1 rfl (Nat.le_of_ble_eq_true rfl) d_Ref_second_82 ⟨Nat.zero_le _, Nat.zero_le _⟩ ?_
        refine lv_goto (tgt := 89) hx hb d_Ref_second_85 (by decide) ?_
        exact ri_ hx hb hr hk (by rw [q_Ref_second, if_pos c_1, if_pos c_2, if_neg c_3]) d_Ref_second_89
      · refine lv_iload_n hx hb d_Ref_second_33 rfl (lv_at hl 0 rfl) ?_
        refine lv_bipush (v := (124 : Int32)) hx hb d_Ref_second_34 (by decide) ?_
        refine lv_sipush (v := (138 : Int32)) hx hb d_Ref_second_36 (by decide) ?_
        refine si_ (As := [.int a0, .int (124 : Int32), .int (138 : Int32)]) (rest := []) hq (c_Ref_isIn l A ad a0 (124 : Int32) (138 : Int32)) kB_Ref_isIn wt_533 ⟨rfl, rfl, Nat.le_of_ble_eq_true rfl, Nat.le_of_ble_eq_true rfl⟩ rfl hl.1 rfl (Nat.le_of_ble_eq_true rfl) d_Ref_second_39 ⟨Nat.zero_le _, Nat.zero_le _⟩ ?_
        refine lv_if_ne (tgt := 71) hx hb d_Ref_second_42 (by decide) (fun c_4 => ?_) (fun c_4 => ?_)
        · refine lv_iconst (v := (1 : Int32)) hx hb d_Ref_second_71 (by decide) ?_
          refine lv_goto (tgt := 76) hx hb d_Ref_second_72 (by decide) ?_
          refine lv_istore_n (lv' := [(1, .int (1 : Int32)), (0, .int a0)]) hx hb d_Ref_second_76 rfl hl (by decide) rfl (fun ls hl => ?_)
          refine lv_iload_n hx hb d_Ref_second_77 rfl (lv_at hl 0 rfl) ?_
          refine lv_if_eq (tgt := 88) hx hb d_Ref_second_78 (by decide) (fun c => absurd c (by decide)) (fun _ => ?_)
          refine lv_iload_n hx hb d_Ref_second_81 rfl (lv_at hl 1 rfl) ?_
          refine si_ (As := [.int a0]) (rest := []) hq (c_Ref_first l A ad a0) kB_Ref_first wt_539 ⟨rfl, rfl, Nat.le_of_ble_eq_true rfl, Nat.le_of_ble_eq_true rfl⟩ rfl hl.1 rfl (Nat.le_of_ble_eq_true rfl) d_Ref_second_82 ⟨Nat.zero_le _, Nat.zero_le _⟩ ?_
          refine lv_goto (tgt := 89) hx hb d_Ref_second_85 (by decide) ?_
          exact ri_ hx hb hr hk (by rw [q_Ref_second, if_pos c_1, if_pos c_2, if_pos c_3, if_neg c_4]) d_Ref_second_89
        · refine lv_iload_n hx hb d_Ref_second_45 rfl (lv_at hl 0 rfl) ?_
          refine lv_sipush (v := (146 : Int32)) hx hb d_Ref_second_46 (by decide) ?_
          refine lv_sipush (v := (152 : Int32)) hx hb d_Ref_second_49 (by decide) ?_
          refine si_ (As := [.int a0, .int (146 : Int32), .int (152 : Int32)]) (rest := []) hq (c_Ref_isIn l A ad a0 (146 : Int32) (152 : Int32)) kB_Ref_isIn wt_533 ⟨rfl, rfl, Nat.le_of_ble_eq_true rfl, Nat.le_of_ble_eq_true rfl⟩ rfl hl.1 rfl (Nat.le_of_ble_eq_true rfl) d_Ref_second_52 ⟨Nat.zero_le _, Nat.zero_le _⟩ ?_
          refine lv_if_ne (tgt := 71) hx hb d_Ref_second_55 (by decide) (fun c_5 => ?_) (fun c_5 => ?_)
          · refine lv_iconst (v := (1 : Int32)) hx hb d_Ref_second_71 (by decide) ?_
            refine lv_goto (tgt := 76) hx hb d_Ref_second_72 (by decide) ?_
            refine lv_istore_n (lv' := [(1, .int (1 : Int32)), (0, .int a0)]) hx hb d_Ref_second_76 rfl hl (by decide) rfl (fun ls hl => ?_)
            refine lv_iload_n hx hb d_Ref_second_77 rfl (lv_at hl 0 rfl) ?_
            refine lv_if_eq (tgt := 88) hx hb d_Ref_second_78 (by decide) (fun c => absurd c (by decide)) (fun _ => ?_)
            refine lv_iload_n hx hb d_Ref_second_81 rfl (lv_at hl 1 rfl) ?_
            refine si_ (As := [.int a0]) (rest := []) hq (c_Ref_first l A ad a0) kB_Ref_first wt_539 ⟨rfl, rfl, Nat.le_of_ble_eq_true rfl, Nat.le_of_ble_eq_true rfl⟩ rfl hl.1 rfl (Nat.le_of_ble_eq_true rfl) d_Ref_second_82 ⟨Nat.zero_le _, Nat.zero_le _⟩ ?_
            refine lv_goto (tgt := 89) hx hb d_Ref_second_85 (by decide) ?_
            exact ri_ hx hb hr hk (by rw [q_Ref_second, if_pos c_1, if_pos c_2, if_pos c_3, if_pos c_4, if_neg c_5]) d_Ref_second_89
          · refine lv_iload_n hx hb d_Ref_second_58 rfl (lv_at hl 0 rfl) ?_
            refine lv_sipush (v := (160 : Int32)) hx hb d_Ref_second_59 (by decide) ?_
            refine lv_sipush (v := (166 : Int32)) hx hb d_Ref_second_62 (by decide) ?_
            refine si_ (As := [.int a0, .int (160 : Int32), .int (166 : Int32)]) (rest := []) hq (c_Ref_isIn l A ad a0 (160 : Int32) (166 : Int32)) kB_Ref_isIn wt_533 ⟨rfl, rfl, Nat.le_of_ble_eq_true rfl, Nat.le_of_ble_eq_true rfl⟩ rfl hl.1 rfl (Nat.le_of_ble_eq_true rfl) d_Ref_second_65 ⟨Nat.zero_le _, Nat.zero_le _⟩ ?_
            refine lv_if_eq (tgt := 75) hx hb d_Ref_second_68 (by decide) (fun c_6 => ?_) (fun c_6 => ?_)
            · refine lv_iconst (v := (0 : Int32)) hx hb d_Ref_second_75 (by decide) ?_
              refine lv_istore_n (lv' := [(1, .int (0 : Int32)), (0, .int a0)]) hx hb d_Ref_second_76 rfl hl (by decide) rfl (fun ls hl => ?_)
              refine lv_iload_n hx hb d_Ref_second_77 rfl (lv_at hl 0 rfl) ?_
              refine lv_if_eq (tgt := 88) hx hb d_Ref_second_78 (by decide) (fun _ => ?_) (fun c => absurd (by decide) c)
              refine lv_iconst (v := (-1 : Int32)) hx hb d_Ref_second_88 (by decide) ?_
              exact ri_ hx hb hr hk (by rw [q_Ref_second, if_pos c_1, if_pos c_2, if_pos c_3, if_pos c_4, if_pos c_5, if_pos c_6]) d_Ref_second_89
            · refine lv_iconst (v := (1 : Int32)) hx hb d_Ref_second_71 (by decide) ?_
              refine lv_goto (tgt := 76) hx hb d_Ref_second_72 (by decide) ?_
              refine lv_istore_n (lv' := [(1, .int (1 : Int32)), (0, .int a0)]) hx hb d_Ref_second_76 rfl hl (by decide) rfl (fun ls hl => ?_)
              refine lv_iload_n hx hb d_Ref_second_77 rfl (lv_at hl 0 rfl) ?_
              refine lv_if_eq (tgt := 88) hx hb d_Ref_second_78 (by decide) (fun c => absurd c (by decide)) (fun _ => ?_)
              refine lv_iload_n hx hb d_Ref_second_81 rfl (lv_at hl 1 rfl) ?_
              refine si_ (As := [.int a0]) (rest := []) hq (c_Ref_first l A ad a0) kB_Ref_first wt_539 ⟨rfl, rfl, Nat.le_of_ble_eq_true rfl, Nat.le_of_ble_eq_true rfl⟩ rfl hl.1 rfl (Nat.le_of_ble_eq_true rfl) d_Ref_second_82 ⟨Nat.zero_le _, Nat.zero_le _⟩ ?_
              refine lv_goto (tgt := 89) hx hb d_Ref_second_85 (by decide) ?_
              exact ri_ hx hb hr hk (by rw [q_Ref_second, if_pos c_1, if_pos c_2, if_pos c_3, if_pos c_4, if_pos c_5, if_neg c_6]) d_Ref_second_89
def q_Ref_withSign (a0 : Int64) (a1 : Int32) : Int64 :=
  if a1 = (64 : Int32) then
    a0
  else
    if ((shr_ a0 (a1 - (1 : Int32))) &&& (1 : Int64)) = (0 : Int64) then
      a0
    else
      (a0 ||| (shl_ (-1 : Int64) a1))
theorem kB_Ref_withSign : SB y_Ref_withSign b_Ref_withSign 3 (some .long) 2 := ⟨wt_602, wt_601, wt_36, by decide +kernel⟩
set_option maxHeartbeats 4000000 in
set_option maxRecDepth 100000 in
theorem c_Ref_withSign (l : Launch) (A : Nat → Prop) (ad : Nat → Nat) (a0 : Int64) (a1 : Int32) : Met l y_Ref_withSign (Cond.code y_Ref_withSign b_Ref_withSign 3 (some .long) :: BT) ({ frames := 0, cells := 0, slots := 0, locals := 0 }) (PC A ad [.long a0, .int a1]) (vp_Sl (fun r => r = q_Ref_withSign a0 a1)) 0 0 (fun _ => False) := by
  refine pm_ (by decide +kernel) (Nat.le_of_ble_eq_true rfl) ?_
  intro p e s m below meth c hq hr hk ls hl
  have hx := hq.1
  have hb := hq.2.1
  have hts := hq.2.2.2.2.1
  have hl : lv_has ls 3 [(0, .long a0), (2, .int a1)] := hl
  refine lv_iload_n hx hb d_Ref_withSign_0 rfl (lv_at hl 1 rfl) ?_
  refine lv_bipush (v := (64 : Int32)) hx hb d_Ref_withSign_1 (by decide) ?_
  refine lv_icmp_eq (tgt := 18) hx hb d_Ref_withSign_3 (by decide) (fun c_1 => ?_) (fun c_1 => ?_)
  · refine lv_lload_n hx hb d_Ref_withSign_18 rfl (lv_at hl 0 rfl) ?_
    refine lv_goto (tgt := 29) hx hb d_Ref_withSign_19 (by decide) ?_
    exact rl_ hx hb hr hk (by rw [q_Ref_withSign, if_pos c_1]) d_Ref_withSign_29
  · refine lv_lload_n hx hb d_Ref_withSign_6 rfl (lv_at hl 0 rfl) ?_
    refine lv_iload_n hx hb d_Ref_withSign_7 rfl (lv_at hl 1 rfl) ?_
    refine lv_iconst (v := (1 : Int32)) hx hb d_Ref_withSign_8 (by decide) ?_
    refine lv_isub hx hb d_Ref_withSign_9 ?_
    refine lv_lshr (v := (shr_ a0 (a1 - (1 : Int32)))) hx hb d_Ref_withSign_10 rfl ?_
    refine lv_lconst (v := (1 : Int64)) hx hb d_Ref_withSign_11 (by decide) ?_
    refine lv_land hx hb d_Ref_withSign_12 ?_
    refine lv_lconst (v := (0 : Int64)) hx hb d_Ref_withSign_13 (by decide) ?_
    refine W.lcmp hx hb d_Ref_withSign_14 ?_
    refine lv_if_ne (tgt := 22) hx hb d_Ref_withSign_15 (by decide) (fun c_2 => ?_) (fun c_2 => ?_)
    · rw [lg_cmp_eq] at c_2
      refine lv_lload_n hx hb d_Ref_withSign_22 rfl (lv_at hl 0 rfl) ?_
      refine lv_ldc2 (v := (-1 : Int64)) hx hb hq.2.2.2.1 (hts _ wt_595) d_Ref_withSign_23 ?_
      refine lv_iload_n hx hb d_Ref_withSign_26 rfl (lv_at hl 1 rfl) ?_
      refine lv_lshl (v := (shl_ (-1 : Int64) a1)) hx hb d_Ref_withSign_27 rfl ?_
      refine lv_lor hx hb d_Ref_withSign_28 ?_
      exact rl_ hx hb hr hk (by rw [q_Ref_withSign, if_neg c_1, if_neg c_2]) d_Ref_withSign_29
    · rw [lg_cmp_eq] at c_2
      refine lv_lload_n hx hb d_Ref_withSign_18 rfl (lv_at hl 0 rfl) ?_
      refine lv_goto (tgt := 29) hx hb d_Ref_withSign_19 (by decide) ?_
      exact rl_ hx hb hr hk (by rw [q_Ref_withSign, if_neg c_1, if_pos c_2]) d_Ref_withSign_29
def q_Ref_below (a0 : Int64) (a1 : Int64) : Int32 :=
  if (a1 ^^^ (-9223372036854775808 : Int64)) ≤ (a0 ^^^ (-9223372036854775808 : Int64)) then
    (0 : Int32)
  else
    (1 : Int32)
theorem zb_Ref_below (a0 : Int64) (a1 : Int64) : q_Ref_below a0 a1 = 0 ∨ q_Ref_below a0 a1 = 1 := by
  unfold q_Ref_below
  repeat' split
  all_goals first | exact Or.inl rfl | exact Or.inr rfl
theorem kB_Ref_below : SB y_Ref_below b_Ref_below 4 (some .boolean) 2 := ⟨wt_598, wt_597, wt_36, by decide +kernel⟩
set_option maxHeartbeats 4000000 in
set_option maxRecDepth 100000 in
theorem c_Ref_below (l : Launch) (A : Nat → Prop) (ad : Nat → Nat) (a0 : Int64) (a1 : Int64) : Met l y_Ref_below (Cond.code y_Ref_below b_Ref_below 4 (some .boolean) :: BT) ({ frames := 0, cells := 0, slots := 0, locals := 0 }) (PC A ad [.long a0, .long a1]) (vp_Si (fun r => r = q_Ref_below a0 a1)) 0 0 (fun _ => False) := by
  refine pm_ (by decide +kernel) (Nat.le_of_ble_eq_true rfl) ?_
  intro p e s m below meth c hq hr hk ls hl
  have hx := hq.1
  have hb := hq.2.1
  have hts := hq.2.2.2.2.1
  have hl : lv_has ls 4 [(0, .long a0), (2, .long a1)] := hl
  refine lv_lload_n hx hb d_Ref_below_0 rfl (lv_at hl 0 rfl) ?_
  refine lv_ldc2 (v := (-9223372036854775808 : Int64)) hx hb hq.2.2.2.1 (hts _ wt_599) d_Ref_below_1 ?_
  refine lv_lxor hx hb d_Ref_below_4 ?_
  refine lv_lload_n hx hb d_Ref_below_5 rfl (lv_at hl 1 rfl) ?_
  refine lv_ldc2 (v := (-9223372036854775808 : Int64)) hx hb hq.2.2.2.1 (hts _ wt_599) d_Ref_below_6 ?_
  refine lv_lxor hx hb d_Ref_below_9 ?_
  refine W.lcmp hx hb d_Ref_below_10 ?_
  refine lv_if_ge (tgt := 18) hx hb d_Ref_below_11 (by decide) (fun c_1 => ?_) (fun c_1 => ?_)
  · rw [lg_cmp_ge] at c_1
    refine lv_iconst (v := (0 : Int32)) hx hb d_Ref_below_18 (by decide) ?_
    exact rz_ hx hb hr hk (by decide) (by rw [q_Ref_below, if_pos c_1]) d_Ref_below_19
  · rw [lg_cmp_ge] at c_1
    refine lv_iconst (v := (1 : Int32)) hx hb d_Ref_below_14 (by decide) ?_
    refine lv_goto (tgt := 19) hx hb d_Ref_below_15 (by decide) ?_
    exact rz_ hx hb hr hk (by decide) (by rw [q_Ref_below, if_neg c_1]) d_Ref_below_19
def q_Ref_isSo (a0 : Int32) (a1 : Int32) (a2 : Int64) (a3 : Int64) : Int32 :=
  if a0 = (0 : Int32) then
    if a2 = a3 then
      (1 : Int32)
    else
      (0 : Int32)
  else
    if a0 = (1 : Int32) then
      if a2 = a3 then
        (0 : Int32)
      else
        (1 : Int32)
    else
      if a0 = (2 : Int32) then
        if (q_Ref_withSign a3 a1) ≤ (q_Ref_withSign a2 a1) then
          (0 : Int32)
        else
          (1 : Int32)
      else
        if a0 = (3 : Int32) then
          (q_Ref_below a2 a3)
        else
          if a0 = (4 : Int32) then
            if (q_Ref_withSign a2 a1) ≤ (q_Ref_withSign a3 a1) then
              (0 : Int32)
            else
              (1 : Int32)
          else
            if a0 = (5 : Int32) then
              (q_Ref_below a3 a2)
            else
              if a0 = (6 : Int32) then
                if (q_Ref_withSign a3 a1) < (q_Ref_withSign a2 a1) then
                  (0 : Int32)
                else
                  (1 : Int32)
              else
                if a0 = (7 : Int32) then
                  if (q_Ref_below a3 a2) = 0 then
                    (1 : Int32)
                  else
                    (0 : Int32)
                else
                  if a0 = (8 : Int32) then
                    if (q_Ref_withSign a2 a1) < (q_Ref_withSign a3 a1) then
                      (0 : Int32)
                    else
                      (1 : Int32)
                  else
                    if (q_Ref_below a2 a3) = 0 then
                      (1 : Int32)
                    else
                      (0 : Int32)
theorem zb_Ref_isSo (a0 : Int32) (a1 : Int32) (a2 : Int64) (a3 : Int64) : q_Ref_isSo a0 a1 a2 a3 = 0 ∨ q_Ref_isSo a0 a1 a2 a3 = 1 := by
  unfold q_Ref_isSo
  repeat' split
  all_goals first | exact Or.inl rfl | exact Or.inr rfl | exact zb_Ref_below a2 a3 | exact zb_Ref_below a3 a2
theorem kB_Ref_isSo : SB y_Ref_isSo b_Ref_isSo 10 (some .boolean) 4 := ⟨wt_709, wt_708, wt_36, by decide +kernel⟩
set_option maxHeartbeats 4000000 in
set_option maxRecDepth 100000 in
theorem c_Ref_isSo (l : Launch) (A : Nat → Prop) (ad : Nat → Nat) (a0 : Int32) (a1 : Int32) (a2 : Int64) (a3 : Int64) : Met l y_Ref_isSo (Cond.code y_Ref_isSo b_Ref_isSo 10 (some .boolean) :: BT) ({ frames := 1, cells := 0, slots := 0, locals := 23 }) (PC A ad [.int a0, .int a1, .long a2, .long a3]) (vp_Si (fun r => r = q_Ref_isSo a0 a1 a2 a3)) 0 0 (fun _ => False) := by
  refine pm_ (by decide +kernel) (Nat.le_of_ble_eq_true rfl) ?_
  intro p e s m below meth c hq hr hk ls hl
  have hx := hq.1
  have hb := hq.2.1
  have hts := hq.2.2.2.2.1
  have hl : lv_has ls 10 [(0, .int a0), (1, .int a1), (2, .long a2), (4, .long a3)] := hl
  refine lv_lload_n hx hb d_Ref_isSo_0 rfl (lv_at hl 2 rfl) ?_
  refine lv_iload_n hx hb d_Ref_isSo_1 rfl (lv_at hl 1 rfl) ?_
  refine sl_ (As := [.long a2, .int a1]) (rest := []) hq (c_Ref_withSign l A ad a2 a1) kB_Ref_withSign wt_600 ⟨rfl, rfl, Nat.le_of_ble_eq_true rfl, Nat.le_of_ble_eq_true rfl⟩ rfl hl.1 rfl (Nat.le_of_ble_eq_true rfl) d_Ref_isSo_2 ⟨Nat.zero_le _, Nat.zero_le _⟩ ?_
  refine lv_lstore (lv' := [(6, .long (q_Ref_withSign a2 a1)), (0, .int a0), (1, .int a1), (2, .long a2), (4, .long a3)]) hx hb d_Ref_isSo_5 hl (by decide) rfl (fun ls hl => ?_)
  refine lv_lload hx hb d_Ref_isSo_7 (lv_at hl 4 rfl) ?_
  refine lv_iload_n hx hb d_Ref_isSo_9 rfl (lv_at hl 2 rfl) ?_
  refine sl_ (As := [.long a3, .int a1]) (rest := []) hq (c_Ref_withSign l A ad a3 a1) kB_Ref_withSign wt_600 ⟨rfl, rfl, Nat.le_of_ble_eq_true rfl, Nat.le_of_ble_eq_true rfl⟩ rfl hl.1 rfl (Nat.le_of_ble_eq_true rfl) d_Ref_isSo_10 ⟨Nat.zero_le _, Nat.zero_le _⟩ ?_
  refine lv_lstore (lv' := [(8, .long (q_Ref_withSign a3 a1)), (6, .long (q_Ref_withSign a2 a1)), (0, .int a0), (1, .int a1), (2, .long a2), (4, .long a3)]) hx hb d_Ref_isSo_13 hl (by decide) rfl (fun ls hl => ?_)
  refine lv_iload_n hx hb d_Ref_isSo_15 rfl (lv_at hl 2 rfl) ?_
  by_cases c_1 : a0 = (0 : Int32)
  · refine lv_tableIn (tgt := 68) hx hb d_Ref_isSo_16 (by rw [c_1]; decide) (by rw [c_1]; decide) (by rw [c_1]; rfl) (by decide) ?_
    refine lv_lload_n hx hb d_Ref_isSo_68 rfl (lv_at hl 4 rfl) ?_
    refine lv_lload hx hb d_Ref_isSo_69 (lv_at hl 5 rfl) ?_
    refine W.lcmp hx hb d_Ref_isSo_71 ?_
    refine lv_if_ne (tgt := 79) hx hb d_Ref_isSo_72 (by decide) (fun c_2 => ?_) (fun c_2 => ?_)
    · rw [lg_cmp_eq] at c_2
      refine lv_iconst (v := (0 : Int32)) hx hb d_Ref_isSo_79 (by decide) ?_
      exact rz_ hx hb hr hk (by decide) (by rw [q_Ref_isSo, if_pos c_1, if_neg c_2]) d_Ref_isSo_80
    · rw [lg_cmp_eq] at c_2
      refine lv_iconst (v := (1 : Int32)) hx hb d_Ref_isSo_75 (by decide) ?_
      refine lv_goto (tgt := 80) hx hb d_Ref_isSo_76 (by decide) ?_
      exact rz_ hx hb hr hk (by decide) (by rw [q_Ref_isSo, if_pos c_1, if_pos c_2]) d_Ref_isSo_80
  by_cases c_3 : a0 = (1 : Int32)
  · refine lv_tableIn (tgt := 81) hx hb d_Ref_isSo_16 (by rw [c_3]; decide) (by rw [c_3]; decide) (by rw [c_3]; rfl) (by decide) ?_
    refine lv_lload_n hx hb d_Ref_isSo_81 rfl (lv_at hl 4 rfl) ?_
    refine lv_lload hx hb d_Ref_isSo_82 (lv_at hl 5 rfl) ?_
    refine W.lcmp hx hb d_Ref_isSo_84 ?_
    refine lv_if_eq (tgt := 92) hx hb d_Ref_isSo_85 (by decide) (fun c_4 => ?_) (fun c_4 => ?_)
    · rw [lg_cmp_eq] at c_4
      refine lv_iconst (v := (0 : Int32)) hx hb d_Ref_isSo_92 (by decide) ?_
      exact rz_ hx hb hr hk (by decide) (by rw [q_Ref_isSo, if_neg c_1, if_pos c_3, if_pos c_4]) d_Ref_isSo_93
    · rw [lg_cmp_eq] at c_4
      refine lv_iconst (v := (1 : Int32)) hx hb d_Ref_isSo_88 (by decide) ?_
      refine lv_goto (tgt := 93) hx hb d_Ref_isSo_89 (by decide) ?_
      exact rz_ hx hb hr hk (by decide) (by rw [q_Ref_isSo, if_neg c_1, if_pos c_3, if_neg c_4]) d_Ref_isSo_93
  by_cases c_5 : a0 = (2 : Int32)
  · refine lv_tableIn (tgt := 94) hx hb d_Ref_isSo_16 (by rw [c_5]; decide) (by rw [c_5]; decide) (by rw [c_5]; rfl) (by decide) ?_
    refine lv_lload hx hb d_Ref_isSo_94 (lv_at hl 1 rfl) ?_
    refine lv_lload hx hb d_Ref_isSo_96 (lv_at hl 0 rfl) ?_
    refine W.lcmp hx hb d_Ref_isSo_98 ?_
    refine lv_if_ge (tgt := 106) hx hb d_Ref_isSo_99 (by decide) (fun c_6 => ?_) (fun c_6 => ?_)
    · rw [lg_cmp_ge] at c_6
      refine lv_iconst (v := (0 : Int32)) hx hb d_Ref_isSo_106 (by decide) ?_
      exact rz_ hx hb hr hk (by decide) (by rw [q_Ref_isSo, if_neg c_1, if_neg c_3, if_pos c_5, if_pos c_6]) d_Ref_isSo_107
    · rw [lg_cmp_ge] at c_6
      refine lv_iconst (v := (1 : Int32)) hx hb d_Ref_isSo_102 (by decide) ?_
      refine lv_goto (tgt := 107) hx hb d_Ref_isSo_103 (by decide) ?_
      exact rz_ hx hb hr hk (by decide) (by rw [q_Ref_isSo, if_neg c_1, if_neg c_3, if_pos c_5, if_neg c_6]) d_Ref_isSo_107
  by_cases c_7 : a0 = (3 : Int32)
  · refine lv_tableIn (tgt := 108) hx hb d_Ref_isSo_16 (by rw [c_7]; decide) (by rw [c_7]; decide) (by rw [c_7]; rfl) (by decide) ?_
    refine lv_lload_n hx hb d_Ref_isSo_108 rfl (lv_at hl 4 rfl) ?_
    refine lv_lload hx hb d_Ref_isSo_109 (lv_at hl 5 rfl) ?_
    refine si_ (As := [.long a2, .long a3]) (rest := []) hq (c_Ref_below l A ad a2 a3) kB_Ref_below wt_596 ⟨rfl, rfl, Nat.le_of_ble_eq_true rfl, Nat.le_of_ble_eq_true rfl⟩ rfl hl.1 rfl (Nat.le_of_ble_eq_true rfl) d_Ref_isSo_111 ⟨Nat.zero_le _, Nat.zero_le _⟩ ?_
    exact rz_ hx hb hr hk (nb_ (zb_Ref_below a2 a3)) (by rw [q_Ref_isSo, if_neg c_1, if_neg c_3, if_neg c_5, if_pos c_7]) d_Ref_isSo_114
  by_cases c_8 : a0 = (4 : Int32)
  · refine lv_tableIn (tgt := 115) hx hb d_Ref_isSo_16 (by rw [c_8]; decide) (by rw [c_8]; decide) (by rw [c_8]; rfl) (by decide) ?_
    refine lv_lload hx hb d_Ref_isSo_115 (lv_at hl 1 rfl) ?_
    refine lv_lload hx hb d_Ref_isSo_117 (lv_at hl 0 rfl) ?_
    refine W.lcmp hx hb d_Ref_isSo_119 ?_
    refine lv_if_le (tgt := 127) hx hb d_Ref_isSo_120 (by decide) (fun c_9 => ?_) (fun c_9 => ?_)
    · rw [lg_cmp_le] at c_9
      refine lv_iconst (v := (0 : Int32)) hx hb d_Ref_isSo_127 (by decide) ?_
      exact rz_ hx hb hr hk (by decide) (by rw [q_Ref_isSo, if_neg c_1, if_neg c_3, if_neg c_5, if_neg c_7, if_pos c_8, if_pos c_9]) d_Ref_isSo_128
    · rw [lg_cmp_le] at c_9
      refine lv_iconst (v := (1 : Int32)) hx hb d_Ref_isSo_123 (by decide) ?_
      refine lv_goto (tgt := 128) hx hb d_Ref_isSo_124 (by decide) ?_
      exact rz_ hx hb hr hk (by decide) (by rw [q_Ref_isSo, if_neg c_1, if_neg c_3, if_neg c_5, if_neg c_7, if_pos c_8, if_neg c_9]) d_Ref_isSo_128
  by_cases c_10 : a0 = (5 : Int32)
  · refine lv_tableIn (tgt := 129) hx hb d_Ref_isSo_16 (by rw [c_10]; decide) (by rw [c_10]; decide) (by rw [c_10]; rfl) (by decide) ?_
    refine lv_lload hx hb d_Ref_isSo_129 (lv_at hl 5 rfl) ?_
    refine lv_lload_n hx hb d_Ref_isSo_131 rfl (lv_at hl 4 rfl) ?_
    refine si_ (As := [.long a3, .long a2]) (rest := []) hq (c_Ref_below l A ad a3 a2) kB_Ref_below wt_596 ⟨rfl, rfl, Nat.le_of_ble_eq_true rfl, Nat.le_of_ble_eq_true rfl⟩ rfl hl.1 rfl (Nat.le_of_ble_eq_true rfl) d_Ref_isSo_132 ⟨Nat.zero_le _, Nat.zero_le _⟩ ?_
    exact rz_ hx hb hr hk (nb_ (zb_Ref_below a3 a2)) (by rw [q_Ref_isSo, if_neg c_1, if_neg c_3, if_neg c_5, if_neg c_7, if_neg c_8, if_pos c_10]) d_Ref_isSo_135
  by_cases c_11 : a0 = (6 : Int32)
  · refine lv_tableIn (tgt := 136) hx hb d_Ref_isSo_16 (by rw [c_11]; decide) (by rw [c_11]; decide) (by rw [c_11]; rfl) (by decide) ?_
    refine lv_lload hx hb d_Ref_isSo_136 (lv_at hl 1 rfl) ?_
    refine lv_lload hx hb d_Ref_isSo_138 (lv_at hl 0 rfl) ?_
    refine W.lcmp hx hb d_Ref_isSo_140 ?_
    refine lv_if_gt (tgt := 148) hx hb d_Ref_isSo_141 (by decide) (fun c_12 => ?_) (fun c_12 => ?_)
    · rw [lg_cmp_gt] at c_12
      refine lv_iconst (v := (0 : Int32)) hx hb d_Ref_isSo_148 (by decide) ?_
      exact rz_ hx hb hr hk (by decide) (by rw [q_Ref_isSo, if_neg c_1, if_neg c_3, if_neg c_5, if_neg c_7, if_neg c_8, if_neg c_10, if_pos c_11, if_pos c_12]) d_Ref_isSo_149
    · rw [lg_cmp_gt] at c_12
      refine lv_iconst (v := (1 : Int32)) hx hb d_Ref_isSo_144 (by decide) ?_
      refine lv_goto (tgt := 149) hx hb d_Ref_isSo_145 (by decide) ?_
      exact rz_ hx hb hr hk (by decide) (by rw [q_Ref_isSo, if_neg c_1, if_neg c_3, if_neg c_5, if_neg c_7, if_neg c_8, if_neg c_10, if_pos c_11, if_neg c_12]) d_Ref_isSo_149
  by_cases c_13 : a0 = (7 : Int32)
  · refine lv_tableIn (tgt := 150) hx hb d_Ref_isSo_16 (by rw [c_13]; decide) (by rw [c_13]; decide) (by rw [c_13]; rfl) (by decide) ?_
    refine lv_lload hx hb d_Ref_isSo_150 (lv_at hl 5 rfl) ?_
    refine lv_lload_n hx hb d_Ref_isSo_152 rfl (lv_at hl 4 rfl) ?_
    refine si_ (As := [.long a3, .long a2]) (rest := []) hq (c_Ref_below l A ad a3 a2) kB_Ref_below wt_596 ⟨rfl, rfl, Nat.le_of_ble_eq_true rfl, Nat.le_of_ble_eq_true rfl⟩ rfl hl.1 rfl (Nat.le_of_ble_eq_true rfl) d_Ref_isSo_153 ⟨Nat.zero_le _, Nat.zero_le _⟩ ?_
    refine lv_if_ne (tgt := 163) hx hb d_Ref_isSo_156 (by decide) (fun c_14 => ?_) (fun c_14 => ?_)
    · refine lv_iconst (v := (0 : Int32)) hx hb d_Ref_isSo_163 (by decide) ?_
      exact rz_ hx hb hr hk (by decide) (by rw [q_Ref_isSo, if_neg c_1, if_neg c_3, if_neg c_5, if_neg c_7, if_neg c_8, if_neg c_10, if_neg c_11, if_pos c_13, if_neg c_14]) d_Ref_isSo_164
    · refine lv_iconst (v := (1 : Int32)) hx hb d_Ref_isSo_159 (by decide) ?_
      refine lv_goto (tgt := 164) hx hb d_Ref_isSo_160 (by decide) ?_
      exact rz_ hx hb hr hk (by decide) (by rw [q_Ref_isSo, if_neg c_1, if_neg c_3, if_neg c_5, if_neg c_7, if_neg c_8, if_neg c_10, if_neg c_11, if_pos c_13, if_pos c_14]) d_Ref_isSo_164
  by_cases c_15 : a0 = (8 : Int32)
  · refine lv_tableIn (tgt := 165) hx hb d_Ref_isSo_16 (by rw [c_15]; decide) (by rw [c_15]; decide) (by rw [c_15]; rfl) (by decide) ?_
    refine lv_lload hx hb d_Ref_isSo_165 (lv_at hl 1 rfl) ?_
    refine lv_lload hx hb d_Ref_isSo_167 (lv_at hl 0 rfl) ?_
    refine W.lcmp hx hb d_Ref_isSo_169 ?_
    refine lv_if_lt (tgt := 177) hx hb d_Ref_isSo_170 (by decide) (fun c_16 => ?_) (fun c_16 => ?_)
    · rw [lg_cmp_lt] at c_16
      refine lv_iconst (v := (0 : Int32)) hx hb d_Ref_isSo_177 (by decide) ?_
      exact rz_ hx hb hr hk (by decide) (by rw [q_Ref_isSo, if_neg c_1, if_neg c_3, if_neg c_5, if_neg c_7, if_neg c_8, if_neg c_10, if_neg c_11, if_neg c_13, if_pos c_15, if_pos c_16]) d_Ref_isSo_178
    · rw [lg_cmp_lt] at c_16
      refine lv_iconst (v := (1 : Int32)) hx hb d_Ref_isSo_173 (by decide) ?_
      refine lv_goto (tgt := 178) hx hb d_Ref_isSo_174 (by decide) ?_
      exact rz_ hx hb hr hk (by decide) (by rw [q_Ref_isSo, if_neg c_1, if_neg c_3, if_neg c_5, if_neg c_7, if_neg c_8, if_neg c_10, if_neg c_11, if_neg c_13, if_pos c_15, if_neg c_16]) d_Ref_isSo_178
  have hsw : a0.toInt < 0 ∨ 8 < a0.toInt := by
    have := lv_neT c_1 (a := 0) (by decide)
    have := lv_neT c_3 (a := 1) (by decide)
    have := lv_neT c_5 (a := 2) (by decide)
    have := lv_neT c_7 (a := 3) (by decide)
    have := lv_neT c_8 (a := 4) (by decide)
    have := lv_neT c_10 (a := 5) (by decide)
    have := lv_neT c_11 (a := 6) (by decide)
    have := lv_neT c_13 (a := 7) (by decide)
    have := lv_neT c_15 (a := 8) (by decide)
    omega
  refine lv_tableOut (tgt := 179) hx hb d_Ref_isSo_16 hsw (by decide) ?_
  refine lv_lload_n hx hb d_Ref_isSo_179 rfl (lv_at hl 4 rfl) ?_
  refine lv_lload hx hb d_Ref_isSo_180 (lv_at hl 5 rfl) ?_
  refine si_ (As := [.long a2, .long a3]) (rest := []) hq (c_Ref_below l A ad a2 a3) kB_Ref_below wt_596 ⟨rfl, rfl, Nat.le_of_ble_eq_true rfl, Nat.le_of_ble_eq_true rfl⟩ rfl hl.1 rfl (Nat.le_of_ble_eq_true rfl) d_Ref_isSo_182 ⟨Nat.zero_le _, Nat.zero_le _⟩ ?_
  refine lv_if_ne (tgt := 192) hx hb d_Ref_isSo_185 (by decide) (fun c_17 => ?_) (fun c_17 => ?_)
  · refine lv_iconst (v := (0 : Int32)) hx hb d_Ref_isSo_192 (by decide) ?_
    exact rz_ hx hb hr hk (by decide) (by rw [q_Ref_isSo, if_neg c_1, if_neg c_3, if_neg c_5, if_neg c_7, if_neg c_8, if_neg c_10, if_neg c_11, if_neg c_13, if_neg c_15, if_neg c_17]) d_Ref_isSo_193
  · refine lv_iconst (v := (1 : Int32)) hx hb d_Ref_isSo_188 (by decide) ?_
    refine lv_goto (tgt := 193) hx hb d_Ref_isSo_189 (by decide) ?_
    exact rz_ hx hb hr hk (by decide) (by rw [q_Ref_isSo, if_neg c_1, if_neg c_3, if_neg c_5, if_neg c_7, if_neg c_8, if_neg c_10, if_neg c_11, if_neg c_13, if_neg c_15, if_pos c_17]) d_Ref_isSo_193
def lf_Ref_count (a0 : Int64) (N : Nat) (a2 : Int32) : Nat → Int32 → Int32 → Int32 → Int32
  | 0, v5, v6, v7 =>
    if a2 = 0 then
      v6
    else
      if a2 = (1 : Int32) then
        v7
      else
        v5
  | k + 1, v5, v6, v7 =>
    if ((shr_ a0 (nI (N - (k + 1)))) &&& (1 : Int64)) = (1 : Int64) then
      if v7 = (nI N) then
        lf_Ref_count a0 N a2 k (v5 + (1 : Int32)) (((nI N) - (1 : Int32)) - (nI (N - (k + 1)))) (nI (N - (k + 1)))
      else
        lf_Ref_count a0 N a2 k (v5 + (1 : Int32)) (((nI N) - (1 : Int32)) - (nI (N - (k + 1)))) v7
    else
      lf_Ref_count a0 N a2 k v5 v6 v7
theorem kB_Ref_count : SB y_Ref_count b_Ref_count 10 (some .int) 3 := ⟨wt_689, wt_688, wt_36, by decide +kernel⟩
set_option maxHeartbeats 4000000 in
set_option maxRecDepth 100000 in
theorem lp_Ref_count {p : Program} {l : Launch} {e : Env} {s : State} {m : MethodId} {args : Array Value} {below : List Frame} {meth : Method} {c : Code} {A : Nat → Prop} {ad : Nat → Nat} (hq : FX p s m args c A ad b_Ref_count 10 y_Ref_count.cls) (hr : meth.sig.returnType = (some .int)) (hk : meth.locks = false) (a0 : Int64) (N : Nat) (a2 : Int32) (hN : N < 2 ^ 31) (w : Int32) :
    ∀ k : Nat, k ≤ N → ∀ (v5 : Int32) (v6 : Int32) (v7 : Int32) (ls : Array Slot), lv_has ls 10 [(8, .int (nI (N - k))), (5, .int v5), (6, .int v6), (7, .int v7), (0, .long a0), (2, .int (nI N)), (3, .int a2), (4, .int (0 : Int32))] → w = lf_Ref_count a0 N a2 k v5 v6 v7 → W p l e ({ frames := 0, cells := 0, slots := 0, locals := 0 } : Room) s m args below meth c s.heap [] 0 0 (MQ below (vp_Si (fun r => r = w)) args s 0 0 (fun _ => False)) (F0 m 15 ls []) := by
  have hx := hq.1
  have hb := hq.2.1
  have hts := hq.2.2.2.2.1
  intro k
  induction k with
  | zero =>
    intro _ v5 v6 v7 ls hl hw
    refine lv_iload hx hb d_Ref_count_15 (lv_at hl 0 rfl) ?_
    refine lv_iload_n hx hb d_Ref_count_17 rfl (lv_at hl 5 rfl) ?_
    refine lv_icmp_ge (tgt := 99) hx hb d_Ref_count_18 (by decide) (fun _ => ?_) (fun c => absurd (by rw [Nat.sub_zero]; exact Int32.le_refl _) c)
    refine lv_iload_n hx hb d_Ref_count_99 rfl (lv_at hl 6 rfl) ?_
    refine lv_if_ne (tgt := 108) hx hb d_Ref_count_100 (by decide) (fun c_101 => ?_) (fun c_101 => ?_)
    · refine lv_iload_n hx hb d_Ref_count_108 rfl (lv_at hl 6 rfl) ?_
      refine lv_iconst (v := (1 : Int32)) hx hb d_Ref_count_109 (by decide) ?_
      refine lv_icmp_ne (tgt := 118) hx hb d_Ref_count_110 (by decide) (fun c_102 => ?_) (fun c_102 => ?_)
      · refine lv_iload hx hb d_Ref_count_118 (lv_at hl 1 rfl) ?_
        refine lv_istore (lv' := [(4, .int v5), (8, .int (nI (N - 0))), (5, .int v5), (6, .int v6), (7, .int v7), (0, .long a0), (2, .int (nI N)), (3, .int a2)]) hx hb d_Ref_count_120 hl (by decide) rfl (fun ls hl => ?_)
        refine lv_iload hx hb d_Ref_count_122 (lv_at hl 0 rfl) ?_
        exact ri_ hx hb hr hk (by rw [hw, lf_Ref_count, if_neg c_101, if_neg c_102]) d_Ref_count_124
      · refine lv_iload hx hb d_Ref_count_113 (lv_at hl 3 rfl) ?_
        refine lv_goto (tgt := 120) hx hb d_Ref_count_115 (by decide) ?_
        refine lv_istore (lv' := [(4, .int v7), (8, .int (nI (N - 0))), (5, .int v5), (6, .int v6), (7, .int v7), (0, .long a0), (2, .int (nI N)), (3, .int a2)]) hx hb d_Ref_count_120 hl (by decide) rfl (fun ls hl => ?_)
        refine lv_iload hx hb d_Ref_count_122 (lv_at hl 0 rfl) ?_
        exact ri_ hx hb hr hk (by rw [hw, lf_Ref_count, if_neg c_101, if_pos c_102]) d_Ref_count_124
    · refine lv_iload hx hb d_Ref_count_103 (lv_at hl 2 rfl) ?_
      refine lv_goto (tgt := 120) hx hb d_Ref_count_105 (by decide) ?_
      refine lv_istore (lv' := [(4, .int v6), (8, .int (nI (N - 0))), (5, .int v5), (6, .int v6), (7, .int v7), (0, .long a0), (2, .int (nI N)), (3, .int a2)]) hx hb d_Ref_count_120 hl (by decide) rfl (fun ls hl => ?_)
      refine lv_iload hx hb d_Ref_count_122 (lv_at hl 0 rfl) ?_
      exact ri_ hx hb hr hk (by rw [hw, lf_Ref_count, if_pos c_101]) d_Ref_count_124
  | succ k ih =>
    intro hle v5 v6 v7 ls hl hw
    refine lv_iload hx hb d_Ref_count_15 (lv_at hl 0 rfl) ?_
    refine lv_iload_n hx hb d_Ref_count_17 rfl (lv_at hl 5 rfl) ?_
    refine lv_icmp_ge (tgt := 99) hx hb d_Ref_count_18 (by decide) (fun c => absurd c (nI_ge (show N - (k + 1) < N by omega) hN)) (fun _ => ?_)
    refine lv_lload_n hx hb d_Ref_count_21 rfl (lv_at hl 4 rfl) ?_
    refine lv_iload hx hb d_Ref_count_22 (lv_at hl 0 rfl) ?_
    refine lv_lshr (v := (shr_ a0 (nI (N - (k + 1))))) hx hb d_Ref_count_24 rfl ?_
    refine lv_lconst (v := (1 : Int64)) hx hb d_Ref_count_25 (by decide) ?_
    refine lv_land hx hb d_Ref_count_26 ?_
    refine lv_lconst (v := (1 : Int64)) hx hb d_Ref_count_27 (by decide) ?_
    refine W.lcmp hx hb d_Ref_count_28 ?_
    refine lv_if_ne (tgt := 36) hx hb d_Ref_count_29 (by decide) (fun c_1 => ?_) (fun c_1 => ?_)
    · rw [lg_cmp_eq] at c_1
      refine lv_iconst (v := (0 : Int32)) hx hb d_Ref_count_36 (by decide) ?_
      refine lv_istore (lv' := [(9, .int (0 : Int32)), (8, .int (nI (N - (k + 1)))), (5, .int v5), (6, .int v6), (7, .int v7), (0, .long a0), (2, .int (nI N)), (3, .int a2), (4, .int (0 : Int32))]) hx hb d_Ref_count_37 hl (by decide) rfl (fun ls hl => ?_)
      refine lv_iload hx hb d_Ref_count_39 (lv_at hl 0 rfl) ?_
      refine lv_if_eq (tgt := 51) hx hb d_Ref_count_41 (by decide) (fun _ => ?_) (fun c => absurd (by decide) c)
      refine lv_iload hx hb d_Ref_count_51 (lv_at hl 2 rfl) ?_
      refine lv_istore (lv' := [(5, .int v5), (9, .int (0 : Int32)), (8, .int (nI (N - (k + 1)))), (6, .int v6), (7, .int v7), (0, .long a0), (2, .int (nI N)), (3, .int a2), (4, .int (0 : Int32))]) hx hb d_Ref_count_53 hl (by decide) rfl (fun ls hl => ?_)
      refine lv_iload hx hb d_Ref_count_55 (lv_at hl 1 rfl) ?_
      refine lv_if_eq (tgt := 69) hx hb d_Ref_count_57 (by decide) (fun _ => ?_) (fun c => absurd (by decide) c)
      refine lv_iload hx hb d_Ref_count_69 (lv_at hl 3 rfl) ?_
      refine lv_istore (lv' := [(6, .int v6), (5, .int v5), (9, .int (0 : Int32)), (8, .int (nI (N - (k + 1)))), (7, .int v7), (0, .long a0), (2, .int (nI N)), (3, .int a2), (4, .int (0 : Int32))]) hx hb d_Ref_count_71 hl (by decide) rfl (fun ls hl => ?_)
      refine lv_iload hx hb d_Ref_count_73 (lv_at hl 2 rfl) ?_
      refine lv_if_eq (tgt := 89) hx hb d_Ref_count_75 (by decide) (fun _ => ?_) (fun c => absurd (by decide) c)
      refine lv_iload hx hb d_Ref_count_89 (lv_at hl 4 rfl) ?_
      refine lv_istore (lv' := [(7, .int v7), (6, .int v6), (5, .int v5), (9, .int (0 : Int32)), (8, .int (nI (N - (k + 1)))), (0, .long a0), (2, .int (nI N)), (3, .int a2), (4, .int (0 : Int32))]) hx hb d_Ref_count_91 hl (by decide) rfl (fun ls hl => ?_)
      have hl := lv_sub (l' := [(7, .int v7), (6, .int v6), (5, .int v5), (8, .int (nI (N - (k + 1)))), (0, .long a0), (2, .int (nI N)), (3, .int a2), (4, .int (0 : Int32))]) hl [0, 1, 2, 4, 5, 6, 7, 8] rfl
      refine lv_iinc (v := (nI (N - k))) (lv' := [(8, .int (nI (N - k))), (7, .int v7), (6, .int v6), (5, .int v5), (0, .long a0), (2, .int (nI N)), (3, .int a2), (4, .int (0 : Int32))]) hx hb d_Ref_count_93 hl (k := 3) rfl (by show nI (N - (k + 1)) + 1 = nI (N - k); rw [nI_1]; congr 1; omega) (by decide) rfl (fun ls hl => ?_)
      refine lv_goto (tgt := 15) hx hb d_Ref_count_96 (by decide) ?_
      exact ih (by omega) v5 v6 v7 ls (lv_sub hl [0, 3, 2, 1, 4, 5, 6, 7] rfl) (by rw [hw, lf_Ref_count, if_neg c_1])
    · rw [lg_cmp_eq] at c_1
      refine lv_iconst (v := (1 : Int32)) hx hb d_Ref_count_32 (by decide) ?_
      refine lv_goto (tgt := 37) hx hb d_Ref_count_33 (by decide) ?_
      refine lv_istore (lv' := [(9, .int (1 : Int32)), (8, .int (nI (N - (k + 1)))), (5, .int v5), (6, .int v6), (7, .int v7), (0, .long a0), (2, .int (nI N)), (3, .int a2), (4, .int (0 : Int32))]) hx hb d_Ref_count_37 hl (by decide) rfl (fun ls hl => ?_)
      refine lv_iload hx hb d_Ref_count_39 (lv_at hl 0 rfl) ?_
      refine lv_if_eq (tgt := 51) hx hb d_Ref_count_41 (by decide) (fun c => absurd c (by decide)) (fun _ => ?_)
      refine lv_iload hx hb d_Ref_count_44 (lv_at hl 2 rfl) ?_
      refine lv_iconst (v := (1 : Int32)) hx hb d_Ref_count_46 (by decide) ?_
      refine lv_iadd hx hb d_Ref_count_47 ?_
      refine lv_goto (tgt := 53) hx hb d_Ref_count_48 (by decide) ?_
      refine lv_istore (lv' := [(5, .int (v5 + (1 : Int32))), (9, .int (1 : Int32)), (8, .int (nI (N - (k + 1)))), (6, .int v6), (7, .int v7), (0, .long a0), (2, .int (nI N)), (3, .int a2), (4, .int (0 : Int32))]) hx hb d_Ref_count_53 hl (by decide) rfl (fun ls hl => ?_)
      refine lv_iload hx hb d_Ref_count_55 (lv_at hl 1 rfl) ?_
      refine lv_if_eq (tgt := 69) hx hb d_Ref_count_57 (by decide) (fun c => absurd c (by decide)) (fun _ => ?_)
      refine lv_iload_n hx hb d_Ref_count_60 rfl (lv_at hl 6 rfl) ?_
      refine lv_iconst (v := (1 : Int32)) hx hb d_Ref_count_61 (by decide) ?_
      refine lv_isub hx hb d_Ref_count_62 ?_
      refine lv_iload hx hb d_Ref_count_63 (lv_at hl 2 rfl) ?_
      refine lv_isub hx hb d_Ref_count_65 ?_
      refine lv_goto (tgt := 71) hx hb d_Ref_count_66 (by decide) ?_
      refine lv_istore (lv' := [(6, .int (((nI N) - (1 : Int32)) - (nI (N - (k + 1))))), (5, .int (v5 + (1 : Int32))), (9, .int (1 : Int32)), (8, .int (nI (N - (k + 1)))), (7, .int v7), (0, .long a0), (2, .int (nI N)), (3, .int a2), (4, .int (0 : Int32))]) hx hb d_Ref_count_71 hl (by decide) rfl (fun ls hl => ?_)
      refine lv_iload hx hb d_Ref_count_73 (lv_at hl 2 rfl) ?_
      refine lv_if_eq (tgt := 89) hx hb d_Ref_count_75 (by decide) (fun c => absurd c (by decide)) (fun _ => ?_)
      refine lv_iload hx hb d_Ref_count_78 (lv_at hl 4 rfl) ?_
      refine lv_iload_n hx hb d_Ref_count_80 rfl (lv_at hl 6 rfl) ?_
      refine lv_icmp_ne (tgt := 89) hx hb d_Ref_count_81 (by decide) (fun c_2 => ?_) (fun c_2 => ?_)
      · refine lv_iload hx hb d_Ref_count_89 (lv_at hl 4 rfl) ?_
        refine lv_istore (lv' := [(7, .int v7), (6, .int (((nI N) - (1 : Int32)) - (nI (N - (k + 1))))), (5, .int (v5 + (1 : Int32))), (9, .int (1 : Int32)), (8, .int (nI (N - (k + 1)))), (0, .long a0), (2, .int (nI N)), (3, .int a2), (4, .int (0 : Int32))]) hx hb d_Ref_count_91 hl (by decide) rfl (fun ls hl => ?_)
        have hl := lv_sub (l' := [(7, .int v7), (6, .int (((nI N) - (1 : Int32)) - (nI (N - (k + 1))))), (5, .int (v5 + (1 : Int32))), (8, .int (nI (N - (k + 1)))), (0, .long a0), (2, .int (nI N)), (3, .int a2), (4, .int (0 : Int32))]) hl [0, 1, 2, 4, 5, 6, 7, 8] rfl
        refine lv_iinc (v := (nI (N - k))) (lv' := [(8, .int (nI (N - k))), (7, .int v7), (6, .int (((nI N) - (1 : Int32)) - (nI (N - (k + 1))))), (5, .int (v5 + (1 : Int32))), (0, .long a0), (2, .int (nI N)), (3, .int a2), (4, .int (0 : Int32))]) hx hb d_Ref_count_93 hl (k := 3) rfl (by show nI (N - (k + 1)) + 1 = nI (N - k); rw [nI_1]; congr 1; omega) (by decide) rfl (fun ls hl => ?_)
        refine lv_goto (tgt := 15) hx hb d_Ref_count_96 (by decide) ?_
        exact ih (by omega) (v5 + (1 : Int32)) (((nI N) - (1 : Int32)) - (nI (N - (k + 1)))) v7 ls (lv_sub hl [0, 3, 2, 1, 4, 5, 6, 7] rfl) (by rw [hw, lf_Ref_count, if_pos c_1, if_neg c_2])
      · refine lv_iload hx hb d_Ref_count_84 (lv_at hl 3 rfl) ?_
        refine lv_goto (tgt := 91) hx hb d_Ref_count_86 (by decide) ?_
        refine lv_istore (lv' := [(7, .int (nI (N - (k + 1)))), (6, .int (((nI N) - (1 : Int32)) - (nI (N - (k + 1))))), (5, .int (v5 + (1 : Int32))), (9, .int (1 : Int32)), (8, .int (nI (N - (k + 1)))), (0, .long a0), (2, .int (nI N)), (3, .int a2), (4, .int (0 : Int32))]) hx hb d_Ref_count_91 hl (by decide) rfl (fun ls hl => ?_)
        have hl := lv_sub (l' := [(7, .int (nI (N - (k + 1)))), (6, .int (((nI N) - (1 : Int32)) - (nI (N - (k + 1))))), (5, .int (v5 + (1 : Int32))), (8, .int (nI (N - (k + 1)))), (0, .long a0), (2, .int (nI N)), (3, .int a2), (4, .int (0 : Int32))]) hl [0, 1, 2, 4, 5, 6, 7, 8] rfl
        refine lv_iinc (v := (nI (N - k))) (lv' := [(8, .int (nI (N - k))), (7, .int (nI (N - (k + 1)))), (6, .int (((nI N) - (1 : Int32)) - (nI (N - (k + 1))))), (5, .int (v5 + (1 : Int32))), (0, .long a0), (2, .int (nI N)), (3, .int a2), (4, .int (0 : Int32))]) hx hb d_Ref_count_93 hl (k := 3) rfl (by show nI (N - (k + 1)) + 1 = nI (N - k); rw [nI_1]; congr 1; omega) (by decide) rfl (fun ls hl => ?_)
        refine lv_goto (tgt := 15) hx hb d_Ref_count_96 (by decide) ?_
        exact ih (by omega) (v5 + (1 : Int32)) (((nI N) - (1 : Int32)) - (nI (N - (k + 1)))) (nI (N - (k + 1))) ls (lv_sub hl [0, 3, 2, 1, 4, 5, 6, 7] rfl) (by rw [hw, lf_Ref_count, if_pos c_1, if_pos c_2])
def q_Ref_count (a0 : Int64) (a1 : Int32) (a2 : Int32) : Int32 := lf_Ref_count a0 a1.toNatClampNeg a2 a1.toNatClampNeg (0 : Int32) a1 a1
set_option maxHeartbeats 4000000 in
set_option maxRecDepth 100000 in
theorem c_Ref_count (l : Launch) (A : Nat → Prop) (ad : Nat → Nat) (a0 : Int64) (a1 : Int32) (a2 : Int32) (hn : ¬ a1 < 0) : Met l y_Ref_count (Cond.code y_Ref_count b_Ref_count 10 (some .int) :: BT) ({ frames := 0, cells := 0, slots := 0, locals := 0 } : Room) (PC A ad [.long a0, .int a1, .int a2]) (vp_Si (fun r => r = q_Ref_count a0 a1 a2)) 0 0 (fun _ => False) := by
  obtain ⟨N, hN, rfl⟩ := nI_of hn
  have hqe : q_Ref_count a0 (nI N) a2 = lf_Ref_count a0 N a2 N (0 : Int32) (nI N) (nI N) := by unfold q_Ref_count; rw [nI_clamp hN]
  rw [hqe]
  refine pm_ (by decide +kernel) (Nat.le_of_ble_eq_true rfl) ?_
  intro p e s m below meth c hq hr hk ls hl
  have hx := hq.1
  have hb := hq.2.1
  have hts := hq.2.2.2.2.1
  have hl : lv_has ls 10 [(0, .long a0), (2, .int (nI N)), (3, .int a2)] := hl
  refine lv_iconst (v := (0 : Int32)) hx hb d_Ref_count_0 (by decide) ?_
  refine lv_istore (lv' := [(4, .int (0 : Int32)), (0, .long a0), (2, .int (nI N)), (3, .int a2)]) hx hb d_Ref_count_1 hl (by decide) rfl (fun ls hl => ?_)
  refine lv_iconst (v := (0 : Int32)) hx hb d_Ref_count_3 (by decide) ?_
  refine lv_istore (lv' := [(5, .int (0 : Int32)), (4, .int (0 : Int32)), (0, .long a0), (2, .int (nI N)), (3, .int a2)]) hx hb d_Ref_count_4 hl (by decide) rfl (fun ls hl => ?_)
  refine lv_iload_n hx hb d_Ref_count_6 rfl (lv_at hl 3 rfl) ?_
  refine lv_istore (lv' := [(6, .int (nI N)), (5, .int (0 : Int32)), (4, .int (0 : Int32)), (0, .long a0), (2, .int (nI N)), (3, .int a2)]) hx hb d_Ref_count_7 hl (by decide) rfl (fun ls hl => ?_)
  refine lv_iload_n hx hb d_Ref_count_9 rfl (lv_at hl 4 rfl) ?_
  refine lv_istore (lv' := [(7, .int (nI N)), (6, .int (nI N)), (5, .int (0 : Int32)), (4, .int (0 : Int32)), (0, .long a0), (2, .int (nI N)), (3, .int a2)]) hx hb d_Ref_count_10 hl (by decide) rfl (fun ls hl => ?_)
  refine lv_iconst (v := (0 : Int32)) hx hb d_Ref_count_12 (by decide) ?_
  refine lv_istore (lv' := [(8, .int (0 : Int32)), (7, .int (nI N)), (6, .int (nI N)), (5, .int (0 : Int32)), (4, .int (0 : Int32)), (0, .long a0), (2, .int (nI N)), (3, .int a2)]) hx hb d_Ref_count_13 hl (by decide) rfl (fun ls hl => ?_)
  have hl : lv_has ls 10 [(8, .int (nI (N - N))), (5, .int (0 : Int32)), (6, .int (nI N)), (7, .int (nI N)), (0, .long a0), (2, .int (nI N)), (3, .int a2), (4, .int (0 : Int32))] := by rw [Nat.sub_self]; exact lv_sub hl [0, 3, 2, 1, 5, 6, 7, 4] rfl
  exact lp_Ref_count hq hr hk a0 N a2 hN _ N (by omega) (0 : Int32) (nI N) (nI N) ls hl rfl
def lf_Ref_turned (a0 : Int64) (a1 : Int32) (N : Nat) : Nat → Int64 → Int64
  | 0, v4 =>
    v4
  | k + 1, v4 =>
    if a1 = (32 : Int32) then
      lf_Ref_turned a0 a1 N k (((shl_ v4 (1 : Int32)) &&& (4294967295 : Int64)) ||| ((shr_ v4 (a1 - (1 : Int32))) &&& (1 : Int64)))
    else
      lf_Ref_turned a0 a1 N k ((shl_ v4 (1 : Int32)) ||| ((shr_ v4 (a1 - (1 : Int32))) &&& (1 : Int64)))
theorem kB_Ref_turned : SB y_Ref_turned b_Ref_turned 9 (some .long) 3 := ⟨wt_702, wt_701, wt_36, by decide +kernel⟩
set_option maxHeartbeats 4000000 in
set_option maxRecDepth 100000 in
theorem lp_Ref_turned {p : Program} {l : Launch} {e : Env} {s : State} {m : MethodId} {args : Array Value} {below : List Frame} {meth : Method} {c : Code} {A : Nat → Prop} {ad : Nat → Nat} (hq : FX p s m args c A ad b_Ref_turned 9 y_Ref_turned.cls) (hr : meth.sig.returnType = (some .long)) (hk : meth.locks = false) (a0 : Int64) (a1 : Int32) (N : Nat) (hN : N < 2 ^ 31) (w : Int64) :
    ∀ k : Nat, k ≤ N → ∀ (v4 : Int64) (ls : Array Slot), lv_has ls 9 [(6, .int (nI (N - k))), (4, .long v4), (0, .long a0), (2, .int a1), (3, .int (nI N))] → w = lf_Ref_turned a0 a1 N k v4 → W p l e ({ frames := 0, cells := 0, slots := 0, locals := 0 } : Room) s m args below meth c s.heap [] 0 0 (MQ below (vp_Sl (fun r => r = w)) args s 0 0 (fun _ => False)) (F0 m 6 ls []) := by
  have hx := hq.1
  have hb := hq.2.1
  have hts := hq.2.2.2.2.1
  intro k
  induction k with
  | zero =>
    intro _ v4 ls hl hw
    refine lv_iload hx hb d_Ref_turned_6 (lv_at hl 0 rfl) ?_
    refine lv_iload_n hx hb d_Ref_turned_8 rfl (lv_at hl 4 rfl) ?_
    refine lv_icmp_ge (tgt := 54) hx hb d_Ref_turned_9 (by decide) (fun _ => ?_) (fun c => absurd (by rw [Nat.sub_zero]; exact Int32.le_refl _) c)
    refine lv_lload hx hb d_Ref_turned_54 (lv_at hl 1 rfl) ?_
    exact rl_ hx hb hr hk (by rw [hw, lf_Ref_turned]) d_Ref_turned_56
  | succ k ih =>
    intro hle v4 ls hl hw
    refine lv_iload hx hb d_Ref_turned_6 (lv_at hl 0 rfl) ?_
    refine lv_iload_n hx hb d_Ref_turned_8 rfl (lv_at hl 4 rfl) ?_
    refine lv_icmp_ge (tgt := 54) hx hb d_Ref_turned_9 (by decide) (fun c => absurd c (nI_ge (show N - (k + 1) < N by omega) hN)) (fun _ => ?_)
    refine lv_lload hx hb d_Ref_turned_12 (lv_at hl 1 rfl) ?_
    refine lv_iload_n hx hb d_Ref_turned_14 rfl (lv_at hl 3 rfl) ?_
    refine lv_iconst (v := (1 : Int32)) hx hb d_Ref_turned_15 (by decide) ?_
    refine lv_isub hx hb d_Ref_turned_16 ?_
    refine lv_lshr (v := (shr_ v4 (a1 - (1 : Int32)))) hx hb d_Ref_turned_17 rfl ?_
    refine lv_lconst (v := (1 : Int64)) hx hb d_Ref_turned_18 (by decide) ?_
    refine lv_land hx hb d_Ref_turned_19 ?_
    refine lv_lstore (lv' := [(7, .long ((shr_ v4 (a1 - (1 : Int32))) &&& (1 : Int64))), (6, .int (nI (N - (k + 1)))), (4, .long v4), (0, .long a0), (2, .int a1), (3, .int (nI N))]) hx hb d_Ref_turned_20 hl (by decide) rfl (fun ls hl => ?_)
    refine lv_iload_n hx hb d_Ref_turned_22 rfl (lv_at hl 4 rfl) ?_
    refine lv_bipush (v := (32 : Int32)) hx hb d_Ref_turned_23 (by decide) ?_
    refine lv_icmp_ne (tgt := 39) hx hb d_Ref_turned_25 (by decide) (fun c_1 => ?_) (fun c_1 => ?_)
    · refine lv_lload hx hb d_Ref_turned_39 (lv_at hl 2 rfl) ?_
      refine lv_iconst (v := (1 : Int32)) hx hb d_Ref_turned_41 (by decide) ?_
      refine lv_lshl (v := (shl_ v4 (1 : Int32))) hx hb d_Ref_turned_42 rfl ?_
      refine lv_lload hx hb d_Ref_turned_43 (lv_at hl 0 rfl) ?_
      refine lv_lor hx hb d_Ref_turned_45 ?_
      refine lv_lstore (lv' := [(4, .long ((shl_ v4 (1 : Int32)) ||| ((shr_ v4 (a1 - (1 : Int32))) &&& (1 : Int64)))), (7, .long ((shr_ v4 (a1 - (1 : Int32))) &&& (1 : Int64))), (6, .int (nI (N - (k + 1)))), (0, .long a0), (2, .int a1), (3, .int (nI N))]) hx hb d_Ref_turned_46 hl (by decide) rfl (fun ls hl => ?_)
      have hl := lv_sub (l' := [(4, .long ((shl_ v4 (1 : Int32)) ||| ((shr_ v4 (a1 - (1 : Int32))) &&& (1 : Int64)))), (6, .int (nI (N - (k + 1)))), (0, .long a0), (2, .int a1), (3, .int (nI N))]) hl [0, 2, 3, 4, 5] rfl
      refine lv_iinc (v := (nI (N - k))) (lv' := [(6, .int (nI (N - k))), (4, .long ((shl_ v4 (1 : Int32)) ||| ((shr_ v4 (a1 - (1 : Int32))) &&& (1 : Int64)))), (0, .long a0), (2, .int a1), (3, .int (nI N))]) hx hb d_Ref_turned_48 hl (k := 1) rfl (by show nI (N - (k + 1)) + 1 = nI (N - k); rw [nI_1]; congr 1; omega) (by decide) rfl (fun ls hl => ?_)
      refine lv_goto (tgt := 6) hx hb d_Ref_turned_51 (by decide) ?_
      exact ih (by omega) ((shl_ v4 (1 : Int32)) ||| ((shr_ v4 (a1 - (1 : Int32))) &&& (1 : Int64))) ls (lv_sub hl [0, 1, 2, 3, 4] rfl) (by rw [hw, lf_Ref_turned, if_neg c_1])
    · refine lv_lload hx hb d_Ref_turned_28 (lv_at hl 2 rfl) ?_
      refine lv_iconst (v := (1 : Int32)) hx hb d_Ref_turned_30 (by decide) ?_
      refine lv_lshl (v := (shl_ v4 (1 : Int32))) hx hb d_Ref_turned_31 rfl ?_
      refine lv_ldc2 (v := (4294967295 : Int64)) hx hb hq.2.2.2.1 (hts _ wt_549) d_Ref_turned_32 ?_
      refine lv_land hx hb d_Ref_turned_35 ?_
      refine lv_goto (tgt := 43) hx hb d_Ref_turned_36 (by decide) ?_
      refine lv_lload hx hb d_Ref_turned_43 (lv_at hl 0 rfl) ?_
      refine lv_lor hx hb d_Ref_turned_45 ?_
      refine lv_lstore (lv' := [(4, .long (((shl_ v4 (1 : Int32)) &&& (4294967295 : Int64)) ||| ((shr_ v4 (a1 - (1 : Int32))) &&& (1 : Int64)))), (7, .long ((shr_ v4 (a1 - (1 : Int32))) &&& (1 : Int64))), (6, .int (nI (N - (k + 1)))), (0, .long a0), (2, .int a1), (3, .int (nI N))]) hx hb d_Ref_turned_46 hl (by decide) rfl (fun ls hl => ?_)
      have hl := lv_sub (l' := [(4, .long (((shl_ v4 (1 : Int32)) &&& (4294967295 : Int64)) ||| ((shr_ v4 (a1 - (1 : Int32))) &&& (1 : Int64)))), (6, .int (nI (N - (k + 1)))), (0, .long a0), (2, .int a1), (3, .int (nI N))]) hl [0, 2, 3, 4, 5] rfl
      refine lv_iinc (v := (nI (N - k))) (lv' := [(6, .int (nI (N - k))), (4, .long (((shl_ v4 (1 : Int32)) &&& (4294967295 : Int64)) ||| ((shr_ v4 (a1 - (1 : Int32))) &&& (1 : Int64)))), (0, .long a0), (2, .int a1), (3, .int (nI N))]) hx hb d_Ref_turned_48 hl (k := 1) rfl (by show nI (N - (k + 1)) + 1 = nI (N - k); rw [nI_1]; congr 1; omega) (by decide) rfl (fun ls hl => ?_)
      refine lv_goto (tgt := 6) hx hb d_Ref_turned_51 (by decide) ?_
      exact ih (by omega) (((shl_ v4 (1 : Int32)) &&& (4294967295 : Int64)) ||| ((shr_ v4 (a1 - (1 : Int32))) &&& (1 : Int64))) ls (lv_sub hl [0, 1, 2, 3, 4] rfl) (by rw [hw, lf_Ref_turned, if_pos c_1])
def q_Ref_turned (a0 : Int64) (a1 : Int32) (a2 : Int32) : Int64 := lf_Ref_turned a0 a1 a2.toNatClampNeg a2.toNatClampNeg a0
set_option maxHeartbeats 4000000 in
set_option maxRecDepth 100000 in
theorem c_Ref_turned (l : Launch) (A : Nat → Prop) (ad : Nat → Nat) (a0 : Int64) (a1 : Int32) (a2 : Int32) (hn : ¬ a2 < 0) : Met l y_Ref_turned (Cond.code y_Ref_turned b_Ref_turned 9 (some .long) :: BT) ({ frames := 0, cells := 0, slots := 0, locals := 0 } : Room) (PC A ad [.long a0, .int a1, .int a2]) (vp_Sl (fun r => r = q_Ref_turned a0 a1 a2)) 0 0 (fun _ => False) := by
  obtain ⟨N, hN, rfl⟩ := nI_of hn
  have hqe : q_Ref_turned a0 a1 (nI N) = lf_Ref_turned a0 a1 N N a0 := by unfold q_Ref_turned; rw [nI_clamp hN]
  rw [hqe]
  refine pm_ (by decide +kernel) (Nat.le_of_ble_eq_true rfl) ?_
  intro p e s m below meth c hq hr hk ls hl
  have hx := hq.1
  have hb := hq.2.1
  have hts := hq.2.2.2.2.1
  have hl : lv_has ls 9 [(0, .long a0), (2, .int a1), (3, .int (nI N))] := hl
  refine lv_lload_n hx hb d_Ref_turned_0 rfl (lv_at hl 0 rfl) ?_
  refine lv_lstore (lv' := [(4, .long a0), (0, .long a0), (2, .int a1), (3, .int (nI N))]) hx hb d_Ref_turned_1 hl (by decide) rfl (fun ls hl => ?_)
  refine lv_iconst (v := (0 : Int32)) hx hb d_Ref_turned_3 (by decide) ?_
  refine lv_istore (lv' := [(6, .int (0 : Int32)), (4, .long a0), (0, .long a0), (2, .int a1), (3, .int (nI N))]) hx hb d_Ref_turned_4 hl (by decide) rfl (fun ls hl => ?_)
  have hl : lv_has ls 9 [(6, .int (nI (N - N))), (4, .long a0), (0, .long a0), (2, .int a1), (3, .int (nI N))] := by rw [Nat.sub_self]; exact lv_sub hl [0, 1, 2, 3, 4] rfl
  exact lp_Ref_turned hq hr hk a0 a1 N hN _ N (by omega) a0 ls hl rfl
def lf_Ref_moved (a0 : Int32) (a1 : Int32) (a2 : Int64) (N : Nat) : Nat → Int64 → Int64
  | 0, v5 =>
    v5
  | k + 1, v5 =>
    if a0 = (13 : Int32) then
      if a0 = (14 : Int32) then
        if ((shr_ a2 (a1 - (1 : Int32))) &&& (1 : Int64)) = (1 : Int64) then
          lf_Ref_moved a0 a1 a2 N k (((2 : Int64) * v5) ||| (shl_ (1 : Int64) (a1 - (1 : Int32))))
        else
          lf_Ref_moved a0 a1 a2 N k ((2 : Int64) * v5)
      else
        lf_Ref_moved a0 a1 a2 N k ((2 : Int64) * v5)
    else
      if a0 = (14 : Int32) then
        if ((shr_ a2 (a1 - (1 : Int32))) &&& (1 : Int64)) = (1 : Int64) then
          lf_Ref_moved a0 a1 a2 N k ((ush_ v5 (1 : Int32)) ||| (shl_ (1 : Int64) (a1 - (1 : Int32))))
        else
          lf_Ref_moved a0 a1 a2 N k (ush_ v5 (1 : Int32))
      else
        lf_Ref_moved a0 a1 a2 N k (ush_ v5 (1 : Int32))
theorem kB_Ref_moved : SB y_Ref_moved b_Ref_moved 8 (some .long) 4 := ⟨wt_699, wt_698, wt_36, by decide +kernel⟩
set_option maxHeartbeats 4000000 in
set_option maxRecDepth 100000 in
theorem lp_Ref_moved {p : Program} {l : Launch} {e : Env} {s : State} {m : MethodId} {args : Array Value} {below : List Frame} {meth : Method} {c : Code} {A : Nat → Prop} {ad : Nat → Nat} (hq : FX p s m args c A ad b_Ref_moved 8 y_Ref_moved.cls) (hr : meth.sig.returnType = (some .long)) (hk : meth.locks = false) (a0 : Int32) (a1 : Int32) (a2 : Int64) (N : Nat) (hN : N < 2 ^ 31) (w : Int64) :
    ∀ k : Nat, k ≤ N → ∀ (v5 : Int64) (ls : Array Slot), lv_has ls 8 [(7, .int (nI (N - k))), (5, .long v5), (0, .int a0), (1, .int a1), (2, .long a2), (4, .int (nI N))] → w = lf_Ref_moved a0 a1 a2 N k v5 → W p l e ({ frames := 0, cells := 0, slots := 0, locals := 0 } : Room) s m args below meth c s.heap [] 0 0 (MQ below (vp_Sl (fun r => r = w)) args s 0 0 (fun _ => False)) (F0 m 6 ls []) := by
  have hx := hq.1
  have hb := hq.2.1
  have hts := hq.2.2.2.2.1
  intro k
  induction k with
  | zero =>
    intro _ v5 ls hl hw
    refine lv_iload hx hb d_Ref_moved_6 (lv_at hl 0 rfl) ?_
    refine lv_iload hx hb d_Ref_moved_8 (lv_at hl 5 rfl) ?_
    refine lv_icmp_ge (tgt := 73) hx hb d_Ref_moved_10 (by decide) (fun _ => ?_) (fun c => absurd (by rw [Nat.sub_zero]; exact Int32.le_refl _) c)
    refine lv_lload hx hb d_Ref_moved_73 (lv_at hl 1 rfl) ?_
    exact rl_ hx hb hr hk (by rw [hw, lf_Ref_moved]) d_Ref_moved_75
  | succ k ih =>
    intro hle v5 ls hl hw
    refine lv_iload hx hb d_Ref_moved_6 (lv_at hl 0 rfl) ?_
    refine lv_iload hx hb d_Ref_moved_8 (lv_at hl 5 rfl) ?_
    refine lv_icmp_ge (tgt := 73) hx hb d_Ref_moved_10 (by decide) (fun c => absurd c (nI_ge (show N - (k + 1) < N by omega) hN)) (fun _ => ?_)
    refine lv_iload_n hx hb d_Ref_moved_13 rfl (lv_at hl 2 rfl) ?_
    refine lv_bipush (v := (13 : Int32)) hx hb d_Ref_moved_14 (by decide) ?_
    refine lv_icmp_ne (tgt := 28) hx hb d_Ref_moved_16 (by decide) (fun c_1 => ?_) (fun c_1 => ?_)
    · refine lv_lload hx hb d_Ref_moved_28 (lv_at hl 1 rfl) ?_
      refine lv_iconst (v := (1 : Int32)) hx hb d_Ref_moved_30 (by decide) ?_
      refine lv_lushr (v := (ush_ v5 (1 : Int32))) hx hb d_Ref_moved_31 rfl ?_
      refine lv_lstore (lv' := [(5, .long (ush_ v5 (1 : Int32))), (7, .int (nI (N - (k + 1)))), (0, .int a0), (1, .int a1), (2, .long a2), (4, .int (nI N))]) hx hb d_Ref_moved_32 hl (by decide) rfl (fun ls hl => ?_)
      refine lv_iload_n hx hb d_Ref_moved_34 rfl (lv_at hl 2 rfl) ?_
      refine lv_bipush (v := (14 : Int32)) hx hb d_Ref_moved_35 (by decide) ?_
      refine lv_icmp_ne (tgt := 63) hx hb d_Ref_moved_37 (by decide) (fun c_2 => ?_) (fun c_2 => ?_)
      · refine lv_lload hx hb d_Ref_moved_63 (lv_at hl 0 rfl) ?_
        refine lv_lstore (lv' := [(5, .long (ush_ v5 (1 : Int32))), (7, .int (nI (N - (k + 1)))), (0, .int a0), (1, .int a1), (2, .long a2), (4, .int (nI N))]) hx hb d_Ref_moved_65 hl (by decide) rfl (fun ls hl => ?_)
        have hl := lv_sub (l' := [(5, .long (ush_ v5 (1 : Int32))), (7, .int (nI (N - (k + 1)))), (0, .int a0), (1, .int a1), (2, .long a2), (4, .int (nI N))]) hl [0, 1, 2, 3, 4, 5] rfl
        refine lv_iinc (v := (nI (N - k))) (lv' := [(7, .int (nI (N - k))), (5, .long (ush_ v5 (1 : Int32))), (0, .int a0), (1, .int a1), (2, .long a2), (4, .int (nI N))]) hx hb d_Ref_moved_67 hl (k := 1) rfl (by show nI (N - (k + 1)) + 1 = nI (N - k); rw [nI_1]; congr 1; omega) (by decide) rfl (fun ls hl => ?_)
        refine lv_goto (tgt := 6) hx hb d_Ref_moved_70 (by decide) ?_
        exact ih (by omega) (ush_ v5 (1 : Int32)) ls (lv_sub hl [0, 1, 2, 3, 4, 5] rfl) (by rw [hw, lf_Ref_moved, if_neg c_1, if_neg c_2])
      · refine lv_lload_n hx hb d_Ref_moved_40 rfl (lv_at hl 4 rfl) ?_
        refine lv_iload_n hx hb d_Ref_moved_41 rfl (lv_at hl 3 rfl) ?_
        refine lv_iconst (v := (1 : Int32)) hx hb d_Ref_moved_42 (by decide) ?_
        refine lv_isub hx hb d_Ref_moved_43 ?_
        refine lv_lshr (v := (shr_ a2 (a1 - (1 : Int32)))) hx hb d_Ref_moved_44 rfl ?_
        refine lv_lconst (v := (1 : Int64)) hx hb d_Ref_moved_45 (by decide) ?_
        refine lv_land hx hb d_Ref_moved_46 ?_
        refine lv_lconst (v := (1 : Int64)) hx hb d_Ref_moved_47 (by decide) ?_
        refine W.lcmp hx hb d_Ref_moved_48 ?_
        refine lv_if_ne (tgt := 63) hx hb d_Ref_moved_49 (by decide) (fun c_3 => ?_) (fun c_3 => ?_)
        · rw [lg_cmp_eq] at c_3
          refine lv_lload hx hb d_Ref_moved_63 (lv_at hl 0 rfl) ?_
          refine lv_lstore (lv' := [(5, .long (ush_ v5 (1 : Int32))), (7, .int (nI (N - (k + 1)))), (0, .int a0), (1, .int a1), (2, .long a2), (4, .int (nI N))]) hx hb d_Ref_moved_65 hl (by decide) rfl (fun ls hl => ?_)
          have hl := lv_sub (l' := [(5, .long (ush_ v5 (1 : Int32))), (7, .int (nI (N - (k + 1)))), (0, .int a0), (1, .int a1), (2, .long a2), (4, .int (nI N))]) hl [0, 1, 2, 3, 4, 5] rfl
          refine lv_iinc (v := (nI (N - k))) (lv' := [(7, .int (nI (N - k))), (5, .long (ush_ v5 (1 : Int32))), (0, .int a0), (1, .int a1), (2, .long a2), (4, .int (nI N))]) hx hb d_Ref_moved_67 hl (k := 1) rfl (by show nI (N - (k + 1)) + 1 = nI (N - k); rw [nI_1]; congr 1; omega) (by decide) rfl (fun ls hl => ?_)
          refine lv_goto (tgt := 6) hx hb d_Ref_moved_70 (by decide) ?_
          exact ih (by omega) (ush_ v5 (1 : Int32)) ls (lv_sub hl [0, 1, 2, 3, 4, 5] rfl) (by rw [hw, lf_Ref_moved, if_neg c_1, if_pos c_2, if_neg c_3])
        · rw [lg_cmp_eq] at c_3
          refine lv_lload hx hb d_Ref_moved_52 (lv_at hl 0 rfl) ?_
          refine lv_lconst (v := (1 : Int64)) hx hb d_Ref_moved_54 (by decide) ?_
          refine lv_iload_n hx hb d_Ref_moved_55 rfl (lv_at hl 3 rfl) ?_
          refine lv_iconst (v := (1 : Int32)) hx hb d_Ref_moved_56 (by decide) ?_
          refine lv_isub hx hb d_Ref_moved_57 ?_
          refine lv_lshl (v := (shl_ (1 : Int64) (a1 - (1 : Int32)))) hx hb d_Ref_moved_58 rfl ?_
          refine lv_lor hx hb d_Ref_moved_59 ?_
          refine lv_goto (tgt := 65) hx hb d_Ref_moved_60 (by decide) ?_
          refine lv_lstore (lv' := [(5, .long ((ush_ v5 (1 : Int32)) ||| (shl_ (1 : Int64) (a1 - (1 : Int32))))), (7, .int (nI (N - (k + 1)))), (0, .int a0), (1, .int a1), (2, .long a2), (4, .int (nI N))]) hx hb d_Ref_moved_65 hl (by decide) rfl (fun ls hl => ?_)
          have hl := lv_sub (l' := [(5, .long ((ush_ v5 (1 : Int32)) ||| (shl_ (1 : Int64) (a1 - (1 : Int32))))), (7, .int (nI (N - (k + 1)))), (0, .int a0), (1, .int a1), (2, .long a2), (4, .int (nI N))]) hl [0, 1, 2, 3, 4, 5] rfl
          refine lv_iinc (v := (nI (N - k))) (lv' := [(7, .int (nI (N - k))), (5, .long ((ush_ v5 (1 : Int32)) ||| (shl_ (1 : Int64) (a1 - (1 : Int32))))), (0, .int a0), (1, .int a1), (2, .long a2), (4, .int (nI N))]) hx hb d_Ref_moved_67 hl (k := 1) rfl (by show nI (N - (k + 1)) + 1 = nI (N - k); rw [nI_1]; congr 1; omega) (by decide) rfl (fun ls hl => ?_)
          refine lv_goto (tgt := 6) hx hb d_Ref_moved_70 (by decide) ?_
          exact ih (by omega) ((ush_ v5 (1 : Int32)) ||| (shl_ (1 : Int64) (a1 - (1 : Int32)))) ls (lv_sub hl [0, 1, 2, 3, 4, 5] rfl) (by rw [hw, lf_Ref_moved, if_neg c_1, if_pos c_2, if_pos c_3])
    · refine lv_ldc2 (v := (2 : Int64)) hx hb hq.2.2.2.1 (hts _ wt_578) d_Ref_moved_19 ?_
      refine lv_lload hx hb d_Ref_moved_22 (lv_at hl 1 rfl) ?_
      refine lv_lmul hx hb d_Ref_moved_24 ?_
      refine lv_goto (tgt := 32) hx hb d_Ref_moved_25 (by decide) ?_
      refine lv_lstore (lv' := [(5, .long ((2 : Int64) * v5)), (7, .int (nI (N - (k + 1)))), (0, .int a0), (1, .int a1), (2, .long a2), (4, .int (nI N))]) hx hb d_Ref_moved_32 hl (by decide) rfl (fun ls hl => ?_)
      refine lv_iload_n hx hb d_Ref_moved_34 rfl (lv_at hl 2 rfl) ?_
      refine lv_bipush (v := (14 : Int32)) hx hb d_Ref_moved_35 (by decide) ?_
      refine lv_icmp_ne (tgt := 63) hx hb d_Ref_moved_37 (by decide) (fun c_4 => ?_) (fun c_4 => ?_)
      · refine lv_lload hx hb d_Ref_moved_63 (lv_at hl 0 rfl) ?_
        refine lv_lstore (lv' := [(5, .long ((2 : Int64) * v5)), (7, .int (nI (N - (k + 1)))), (0, .int a0), (1, .int a1), (2, .long a2), (4, .int (nI N))]) hx hb d_Ref_moved_65 hl (by decide) rfl (fun ls hl => ?_)
        have hl := lv_sub (l' := [(5, .long ((2 : Int64) * v5)), (7, .int (nI (N - (k + 1)))), (0, .int a0), (1, .int a1), (2, .long a2), (4, .int (nI N))]) hl [0, 1, 2, 3, 4, 5] rfl
        refine lv_iinc (v := (nI (N - k))) (lv' := [(7, .int (nI (N - k))), (5, .long ((2 : Int64) * v5)), (0, .int a0), (1, .int a1), (2, .long a2), (4, .int (nI N))]) hx hb d_Ref_moved_67 hl (k := 1) rfl (by show nI (N - (k + 1)) + 1 = nI (N - k); rw [nI_1]; congr 1; omega) (by decide) rfl (fun ls hl => ?_)
        refine lv_goto (tgt := 6) hx hb d_Ref_moved_70 (by decide) ?_
        exact ih (by omega) ((2 : Int64) * v5) ls (lv_sub hl [0, 1, 2, 3, 4, 5] rfl) (by rw [hw, lf_Ref_moved, if_pos c_1, if_neg c_4])
      · refine lv_lload_n hx hb d_Ref_moved_40 rfl (lv_at hl 4 rfl) ?_
        refine lv_iload_n hx hb d_Ref_moved_41 rfl (lv_at hl 3 rfl) ?_
        refine lv_iconst (v := (1 : Int32)) hx hb d_Ref_moved_42 (by decide) ?_
        refine lv_isub hx hb d_Ref_moved_43 ?_
        refine lv_lshr (v := (shr_ a2 (a1 - (1 : Int32)))) hx hb d_Ref_moved_44 rfl ?_
        refine lv_lconst (v := (1 : Int64)) hx hb d_Ref_moved_45 (by decide) ?_
        refine lv_land hx hb d_Ref_moved_46 ?_
        refine lv_lconst (v := (1 : Int64)) hx hb d_Ref_moved_47 (by decide) ?_
        refine W.lcmp hx hb d_Ref_moved_48 ?_
        refine lv_if_ne (tgt := 63) hx hb d_Ref_moved_49 (by decide) (fun c_5 => ?_) (fun c_5 => ?_)
        · rw [lg_cmp_eq] at c_5
          refine lv_lload hx hb d_Ref_moved_63 (lv_at hl 0 rfl) ?_
          refine lv_lstore (lv' := [(5, .long ((2 : Int64) * v5)), (7, .int (nI (N - (k + 1)))), (0, .int a0), (1, .int a1), (2, .long a2), (4, .int (nI N))]) hx hb d_Ref_moved_65 hl (by decide) rfl (fun ls hl => ?_)
          have hl := lv_sub (l' := [(5, .long ((2 : Int64) * v5)), (7, .int (nI (N - (k + 1)))), (0, .int a0), (1, .int a1), (2, .long a2), (4, .int (nI N))]) hl [0, 1, 2, 3, 4, 5] rfl
          refine lv_iinc (v := (nI (N - k))) (lv' := [(7, .int (nI (N - k))), (5, .long ((2 : Int64) * v5)), (0, .int a0), (1, .int a1), (2, .long a2), (4, .int (nI N))]) hx hb d_Ref_moved_67 hl (k := 1) rfl (by show nI (N - (k + 1)) + 1 = nI (N - k); rw [nI_1]; congr 1; omega) (by decide) rfl (fun ls hl => ?_)
          refine lv_goto (tgt := 6) hx hb d_Ref_moved_70 (by decide) ?_
          exact ih (by omega) ((2 : Int64) * v5) ls (lv_sub hl [0, 1, 2, 3, 4, 5] rfl) (by rw [hw, lf_Ref_moved, if_pos c_1, if_pos c_4, if_neg c_5])
        · rw [lg_cmp_eq] at c_5
          refine lv_lload hx hb d_Ref_moved_52 (lv_at hl 0 rfl) ?_
          refine lv_lconst (v := (1 : Int64)) hx hb d_Ref_moved_54 (by decide) ?_
          refine lv_iload_n hx hb d_Ref_moved_55 rfl (lv_at hl 3 rfl) ?_
          refine lv_iconst (v := (1 : Int32)) hx hb d_Ref_moved_56 (by decide) ?_
          refine lv_isub hx hb d_Ref_moved_57 ?_
          refine lv_lshl (v := (shl_ (1 : Int64) (a1 - (1 : Int32)))) hx hb d_Ref_moved_58 rfl ?_
          refine lv_lor hx hb d_Ref_moved_59 ?_
          refine lv_goto (tgt := 65) hx hb d_Ref_moved_60 (by decide) ?_
          refine lv_lstore (lv' := [(5, .long (((2 : Int64) * v5) ||| (shl_ (1 : Int64) (a1 - (1 : Int32))))), (7, .int (nI (N - (k + 1)))), (0, .int a0), (1, .int a1), (2, .long a2), (4, .int (nI N))]) hx hb d_Ref_moved_65 hl (by decide) rfl (fun ls hl => ?_)
          have hl := lv_sub (l' := [(5, .long (((2 : Int64) * v5) ||| (shl_ (1 : Int64) (a1 - (1 : Int32))))), (7, .int (nI (N - (k + 1)))), (0, .int a0), (1, .int a1), (2, .long a2), (4, .int (nI N))]) hl [0, 1, 2, 3, 4, 5] rfl
          refine lv_iinc (v := (nI (N - k))) (lv' := [(7, .int (nI (N - k))), (5, .long (((2 : Int64) * v5) ||| (shl_ (1 : Int64) (a1 - (1 : Int32))))), (0, .int a0), (1, .int a1), (2, .long a2), (4, .int (nI N))]) hx hb d_Ref_moved_67 hl (k := 1) rfl (by show nI (N - (k + 1)) + 1 = nI (N - k); rw [nI_1]; congr 1; omega) (by decide) rfl (fun ls hl => ?_)
          refine lv_goto (tgt := 6) hx hb d_Ref_moved_70 (by decide) ?_
          exact ih (by omega) (((2 : Int64) * v5) ||| (shl_ (1 : Int64) (a1 - (1 : Int32)))) ls (lv_sub hl [0, 1, 2, 3, 4, 5] rfl) (by rw [hw, lf_Ref_moved, if_pos c_1, if_pos c_4, if_pos c_5])
def q_Ref_moved (a0 : Int32) (a1 : Int32) (a2 : Int64) (a3 : Int32) : Int64 := lf_Ref_moved a0 a1 a2 a3.toNatClampNeg a3.toNatClampNeg a2
set_option maxHeartbeats 4000000 in
set_option maxRecDepth 100000 in
theorem c_Ref_moved (l : Launch) (A : Nat → Prop) (ad : Nat → Nat) (a0 : Int32) (a1 : Int32) (a2 : Int64) (a3 : Int32) (hn : ¬ a3 < 0) : Met l y_Ref_moved (Cond.code y_Ref_moved b_Ref_moved 8 (some .long) :: BT) ({ frames := 0, cells := 0, slots := 0, locals := 0 } : Room) (PC A ad [.int a0, .int a1, .long a2, .int a3]) (vp_Sl (fun r => r = q_Ref_moved a0 a1 a2 a3)) 0 0 (fun _ => False) := by
  obtain ⟨N, hN, rfl⟩ := nI_of hn
  have hqe : q_Ref_moved a0 a1 a2 (nI N) = lf_Ref_moved a0 a1 a2 N N a2 := by unfold q_Ref_moved; rw [nI_clamp hN]
  rw [hqe]
  refine pm_ (by decide +kernel) (Nat.le_of_ble_eq_true rfl) ?_
  intro p e s m below meth c hq hr hk ls hl
  have hx := hq.1
  have hb := hq.2.1
  have hts := hq.2.2.2.2.1
  have hl : lv_has ls 8 [(0, .int a0), (1, .int a1), (2, .long a2), (4, .int (nI N))] := hl
  refine lv_lload_n hx hb d_Ref_moved_0 rfl (lv_at hl 2 rfl) ?_
  refine lv_lstore (lv' := [(5, .long a2), (0, .int a0), (1, .int a1), (2, .long a2), (4, .int (nI N))]) hx hb d_Ref_moved_1 hl (by decide) rfl (fun ls hl => ?_)
  refine lv_iconst (v := (0 : Int32)) hx hb d_Ref_moved_3 (by decide) ?_
  refine lv_istore (lv' := [(7, .int (0 : Int32)), (5, .long a2), (0, .int a0), (1, .int a1), (2, .long a2), (4, .int (nI N))]) hx hb d_Ref_moved_4 hl (by decide) rfl (fun ls hl => ?_)
  have hl : lv_has ls 8 [(7, .int (nI (N - N))), (5, .long a2), (0, .int a0), (1, .int a1), (2, .long a2), (4, .int (nI N))] := by rw [Nat.sub_self]; exact lv_sub hl [0, 1, 2, 3, 4, 5] rfl
  exact lp_Ref_moved hq hr hk a0 a1 a2 N hN _ N (by omega) a2 ls hl rfl
def lf_Ref_divided (a0 : Int64) (a1 : Int64) (a2 : Int32) : Nat → Int64 → Int64 → Int64
  | 0, v5, v7 =>
    if a2 = 0 then
      v7
    else
      v5
  | k + 1, v5, v7 =>
    if (0 : Int64) ≤ v5 then
      if (q_Ref_below (((2 : Int64) * v5) + ((shr_ a0 (nI k)) &&& (1 : Int64))) a1) = 0 then
        lf_Ref_divided a0 a1 a2 k ((((2 : Int64) * v5) + ((shr_ a0 (nI k)) &&& (1 : Int64))) - a1) ((shl_ v7 (1 : Int32)) + (1 : Int64))
      else
        lf_Ref_divided a0 a1 a2 k (((2 : Int64) * v5) + ((shr_ a0 (nI k)) &&& (1 : Int64))) (shl_ v7 (1 : Int32))
    else
      lf_Ref_divided a0 a1 a2 k ((((2 : Int64) * v5) + ((shr_ a0 (nI k)) &&& (1 : Int64))) - a1) ((shl_ v7 (1 : Int32)) + (1 : Int64))
theorem kB_Ref_divided : SB y_Ref_divided b_Ref_divided 11 (some .long) 3 := ⟨wt_696, wt_695, wt_36, by decide +kernel⟩
set_option maxHeartbeats 4000000 in
set_option maxRecDepth 100000 in
theorem lp_Ref_divided {p : Program} {l : Launch} {e : Env} {s : State} {m : MethodId} {args : Array Value} {below : List Frame} {meth : Method} {c : Code} {A : Nat → Prop} {ad : Nat → Nat} (hq : FX p s m args c A ad b_Ref_divided 11 y_Ref_divided.cls) (hr : meth.sig.returnType = (some .long)) (hk : meth.locks = false) (a0 : Int64) (a1 : Int64) (a2 : Int32) (w : Int64) :
    ∀ k : Nat, k ≤ 64 → ∀ (v5 : Int64) (v7 : Int64) (ls : Array Slot), lv_has ls 11 [(9, .int (zI ((k : Nat) - 1))), (5, .long v5), (7, .long v7), (0, .long a0), (2, .long a1), (4, .int a2)] → w = lf_Ref_divided a0 a1 a2 k v5 v7 → W p l e ({ frames := 1, cells := 0, slots := 0, locals := 23 } : Room) s m args below meth c s.heap [] 0 0 (MQ below (vp_Sl (fun r => r = w)) args s 0 0 (fun _ => False)) (F0 m 10 ls []) := by
  have hx := hq.1
  have hb := hq.2.1
  have hts := hq.2.2.2.2.1
  intro k
  induction k with
  | zero =>
    intro _ v5 v7 ls hl hw
    refine lv_iload hx hb d_Ref_divided_10 (lv_at hl 0 rfl) ?_
    refine lv_if_lt (tgt := 82) hx hb d_Ref_divided_12 (by decide) (fun _ => ?_) (fun c => absurd (by decide) c)
    refine lv_iload hx hb d_Ref_divided_82 (lv_at hl 5 rfl) ?_
    refine lv_if_eq (tgt := 92) hx hb d_Ref_divided_84 (by decide) (fun c_101 => ?_) (fun c_101 => ?_)
    · refine lv_lload hx hb d_Ref_divided_92 (lv_at hl 2 rfl) ?_
      exact rl_ hx hb hr hk (by rw [hw, lf_Ref_divided, if_pos c_101]) d_Ref_divided_94
    · refine lv_lload hx hb d_Ref_divided_87 (lv_at hl 1 rfl) ?_
      refine lv_goto (tgt := 94) hx hb d_Ref_divided_89 (by decide) ?_
      exact rl_ hx hb hr hk (by rw [hw, lf_Ref_divided, if_neg c_101]) d_Ref_divided_94
  | succ k ih =>
    intro hle v5 v7 ls hl hw
    have hl : lv_has ls 11 [(9, .int (nI k)), (5, .long v5), (7, .long v7), (0, .long a0), (2, .long a1), (4, .int a2)] := by rw [← up_ k]; exact hl
    refine lv_iload hx hb d_Ref_divided_10 (lv_at hl 0 rfl) ?_
    refine lv_if_lt (tgt := 82) hx hb d_Ref_divided_12 (by decide) (fun c => absurd c (nI_pos (by omega))) (fun _ => ?_)
    refine lv_lload hx hb d_Ref_divided_15 (lv_at hl 1 rfl) ?_
    refine lv_lconst (v := (0 : Int64)) hx hb d_Ref_divided_17 (by decide) ?_
    refine W.lcmp hx hb d_Ref_divided_18 ?_
    refine lv_if_ge (tgt := 26) hx hb d_Ref_divided_19 (by decide) (fun c_1 => ?_) (fun c_1 => ?_)
    · rw [lg_cmp_ge] at c_1
      refine lv_iconst (v := (0 : Int32)) hx hb d_Ref_divided_26 (by decide) ?_
      refine lv_istore (lv' := [(10, .int (0 : Int32)), (9, .int (nI k)), (5, .long v5), (7, .long v7), (0, .long a0), (2, .long a1), (4, .int a2)]) hx hb d_Ref_divided_27 hl (by decide) rfl (fun ls hl => ?_)
      refine lv_ldc2 (v := (2 : Int64)) hx hb hq.2.2.2.1 (hts _ wt_578) d_Ref_divided_29 ?_
      refine lv_lload hx hb d_Ref_divided_32 (lv_at hl 2 rfl) ?_
      refine lv_lmul hx hb d_Ref_divided_34 ?_
      refine lv_lload_n hx hb d_Ref_divided_35 rfl (lv_at hl 4 rfl) ?_
      refine lv_iload hx hb d_Ref_divided_36 (lv_at hl 1 rfl) ?_
      refine lv_lshr (v := (shr_ a0 (nI k))) hx hb d_Ref_divided_38 rfl ?_
      refine lv_lconst (v := (1 : Int64)) hx hb d_Ref_divided_39 (by decide) ?_
      refine lv_land hx hb d_Ref_divided_40 ?_
      refine lv_ladd hx hb d_Ref_divided_41 ?_
      refine lv_lstore (lv' := [(5, .long (((2 : Int64) * v5) + ((shr_ a0 (nI k)) &&& (1 : Int64)))), (10, .int (0 : Int32)), (9, .int (nI k)), (7, .long v7), (0, .long a0), (2, .long a1), (4, .int a2)]) hx hb d_Ref_divided_42 hl (by decide) rfl (fun ls hl => ?_)
      refine lv_lload hx hb d_Ref_divided_44 (lv_at hl 3 rfl) ?_
      refine lv_iconst (v := (1 : Int32)) hx hb d_Ref_divided_46 (by decide) ?_
      refine lv_lshl (v := (shl_ v7 (1 : Int32))) hx hb d_Ref_divided_47 rfl ?_
      refine lv_lstore (lv' := [(7, .long (shl_ v7 (1 : Int32))), (5, .long (((2 : Int64) * v5) + ((shr_ a0 (nI k)) &&& (1 : Int64)))), (10, .int (0 : Int32)), (9, .int (nI k)), (0, .long a0), (2, .long a1), (4, .int a2)]) hx hb d_Ref_divided_48 hl (by decide) rfl (fun ls hl => ?_)
      refine lv_iload hx hb d_Ref_divided_50 (lv_at hl 2 rfl) ?_
      refine lv_if_ne (tgt := 64) hx hb d_Ref_divided_52 (by decide) (fun c => absurd (by decide) c) (fun _ => ?_)
      refine lv_lload hx hb d_Ref_divided_55 (lv_at hl 1 rfl) ?_
      refine lv_lload_n hx hb d_Ref_divided_57 rfl (lv_at hl 5 rfl) ?_
      refine si_ (As := [.long (((2 : Int64) * v5) + ((shr_ a0 (nI k)) &&& (1 : Int64))), .long a1]) (rest := []) hq (c_Ref_below l A ad (((2 : Int64) * v5) + ((shr_ a0 (nI k)) &&& (1 : Int64))) a1) kB_Ref_below wt_596 ⟨rfl, rfl, Nat.le_of_ble_eq_true rfl, Nat.le_of_ble_eq_true rfl⟩ rfl hl.1 rfl (Nat.le_of_ble_eq_true rfl) d_Ref_divided_58 ⟨Nat.zero_le _, Nat.zero_le _⟩ ?_
      refine lv_if_ne (tgt := 76) hx hb d_Ref_divided_61 (by decide) (fun c_2 => ?_) (fun c_2 => ?_)
      · have hl := lv_sub (l' := [(7, .long (shl_ v7 (1 : Int32))), (5, .long (((2 : Int64) * v5) + ((shr_ a0 (nI k)) &&& (1 : Int64)))), (9, .int (nI k)), (0, .long a0), (2, .long a1), (4, .int a2)]) hl [0, 1, 3, 4, 5, 6] rfl
        refine lv_iinc (v := (zI ((k : Nat) - 1))) (lv' := [(9, .int (zI ((k : Nat) - 1))), (7, .long (shl_ v7 (1 : Int32))), (5, .long (((2 : Int64) * v5) + ((shr_ a0 (nI k)) &&& (1 : Int64)))), (0, .long a0), (2, .long a1), (4, .int a2)]) hx hb d_Ref_divided_76 hl (k := 2) rfl (dn_ k) (by decide) rfl (fun ls hl => ?_)
        refine lv_goto (tgt := 10) hx hb d_Ref_divided_79 (by decide) ?_
        exact ih (by omega) (((2 : Int64) * v5) + ((shr_ a0 (nI k)) &&& (1 : Int64))) (shl_ v7 (1 : Int32)) ls (lv_sub hl [0, 2, 1, 3, 4, 5] rfl) (by rw [hw, lf_Ref_divided, if_pos c_1, if_neg c_2])
      · refine lv_lload hx hb d_Ref_divided_64 (lv_at hl 1 rfl) ?_
        refine lv_lload_n hx hb d_Ref_divided_66 rfl (lv_at hl 5 rfl) ?_
        refine lv_lsub hx hb d_Ref_divided_67 ?_
        refine lv_lstore (lv' := [(5, .long ((((2 : Int64) * v5) + ((shr_ a0 (nI k)) &&& (1 : Int64))) - a1)), (7, .long (shl_ v7 (1 : Int32))), (10, .int (0 : Int32)), (9, .int (nI k)), (0, .long a0), (2, .long a1), (4, .int a2)]) hx hb d_Ref_divided_68 hl (by decide) rfl (fun ls hl => ?_)
        refine lv_lload hx hb d_Ref_divided_70 (lv_at hl 1 rfl) ?_
        refine lv_lconst (v := (1 : Int64)) hx hb d_Ref_divided_72 (by decide) ?_
        refine lv_ladd hx hb d_Ref_divided_73 ?_
        refine lv_lstore (lv' := [(7, .long ((shl_ v7 (1 : Int32)) + (1 : Int64))), (5, .long ((((2 : Int64) * v5) + ((shr_ a0 (nI k)) &&& (1 : Int64))) - a1)), (10, .int (0 : Int32)), (9, .int (nI k)), (0, .long a0), (2, .long a1), (4, .int a2)]) hx hb d_Ref_divided_74 hl (by decide) rfl (fun ls hl => ?_)
        have hl := lv_sub (l' := [(7, .long ((shl_ v7 (1 : Int32)) + (1 : Int64))), (5, .long ((((2 : Int64) * v5) + ((shr_ a0 (nI k)) &&& (1 : Int64))) - a1)), (9, .int (nI k)), (0, .long a0), (2, .long a1), (4, .int a2)]) hl [0, 1, 3, 4, 5, 6] rfl
        refine lv_iinc (v := (zI ((k : Nat) - 1))) (lv' := [(9, .int (zI ((k : Nat) - 1))), (7, .long ((shl_ v7 (1 : Int32)) + (1 : Int64))), (5, .long ((((2 : Int64) * v5) + ((shr_ a0 (nI k)) &&& (1 : Int64))) - a1)), (0, .long a0), (2, .long a1), (4, .int a2)]) hx hb d_Ref_divided_76 hl (k := 2) rfl (dn_ k) (by decide) rfl (fun ls hl => ?_)
        refine lv_goto (tgt := 10) hx hb d_Ref_divided_79 (by decide) ?_
        exact ih (by omega) ((((2 : Int64) * v5) + ((shr_ a0 (nI k)) &&& (1 : Int64))) - a1) ((shl_ v7 (1 : Int32)) + (1 : Int64)) ls (lv_sub hl [0, 2, 1, 3, 4, 5] rfl) (by rw [hw, lf_Ref_divided, if_pos c_1, if_pos c_2])
    · rw [lg_cmp_ge] at c_1
      refine lv_iconst (v := (1 : Int32)) hx hb d_Ref_divided_22 (by decide) ?_
      refine lv_goto (tgt := 27) hx hb d_Ref_divided_23 (by decide) ?_
      refine lv_istore (lv' := [(10, .int (1 : Int32)), (9, .int (nI k)), (5, .long v5), (7, .long v7), (0, .long a0), (2, .long a1), (4, .int a2)]) hx hb d_Ref_divided_27 hl (by decide) rfl (fun ls hl => ?_)
      refine lv_ldc2 (v := (2 : Int64)) hx hb hq.2.2.2.1 (hts _ wt_578) d_Ref_divided_29 ?_
      refine lv_lload hx hb d_Ref_divided_32 (lv_at hl 2 rfl) ?_
      refine lv_lmul hx hb d_Ref_divided_34 ?_
      refine lv_lload_n hx hb d_Ref_divided_35 rfl (lv_at hl 4 rfl) ?_
      refine lv_iload hx hb d_Ref_divided_36 (lv_at hl 1 rfl) ?_
      refine lv_lshr (v := (shr_ a0 (nI k))) hx hb d_Ref_divided_38 rfl ?_
      refine lv_lconst (v := (1 : Int64)) hx hb d_Ref_divided_39 (by decide) ?_
      refine lv_land hx hb d_Ref_divided_40 ?_
      refine lv_ladd hx hb d_Ref_divided_41 ?_
      refine lv_lstore (lv' := [(5, .long (((2 : Int64) * v5) + ((shr_ a0 (nI k)) &&& (1 : Int64)))), (10, .int (1 : Int32)), (9, .int (nI k)), (7, .long v7), (0, .long a0), (2, .long a1), (4, .int a2)]) hx hb d_Ref_divided_42 hl (by decide) rfl (fun ls hl => ?_)
      refine lv_lload hx hb d_Ref_divided_44 (lv_at hl 3 rfl) ?_
      refine lv_iconst (v := (1 : Int32)) hx hb d_Ref_divided_46 (by decide) ?_
      refine lv_lshl (v := (shl_ v7 (1 : Int32))) hx hb d_Ref_divided_47 rfl ?_
      refine lv_lstore (lv' := [(7, .long (shl_ v7 (1 : Int32))), (5, .long (((2 : Int64) * v5) + ((shr_ a0 (nI k)) &&& (1 : Int64)))), (10, .int (1 : Int32)), (9, .int (nI k)), (0, .long a0), (2, .long a1), (4, .int a2)]) hx hb d_Ref_divided_48 hl (by decide) rfl (fun ls hl => ?_)
      refine lv_iload hx hb d_Ref_divided_50 (lv_at hl 2 rfl) ?_
      refine lv_if_ne (tgt := 64) hx hb d_Ref_divided_52 (by decide) (fun _ => ?_) (fun c => absurd c (by decide))
      refine lv_lload hx hb d_Ref_divided_64 (lv_at hl 1 rfl) ?_
      refine lv_lload_n hx hb d_Ref_divided_66 rfl (lv_at hl 5 rfl) ?_
      refine lv_lsub hx hb d_Ref_divided_67 ?_
      refine lv_lstore (lv' := [(5, .long ((((2 : Int64) * v5) + ((shr_ a0 (nI k)) &&& (1 : Int64))) - a1)), (7, .long (shl_ v7 (1 : Int32))), (10, .int (1 : Int32)), (9, .int (nI k)), (0, .long a0), (2, .long a1), (4, .int a2)]) hx hb d_Ref_divided_68 hl (by decide) rfl (fun ls hl => ?_)
      refine lv_lload hx hb d_Ref_divided_70 (lv_at hl 1 rfl) ?_
      refine lv_lconst (v := (1 : Int64)) hx hb d_Ref_divided_72 (by decide) ?_
      refine lv_ladd hx hb d_Ref_divided_73 ?_
      refine lv_lstore (lv' := [(7, .long ((shl_ v7 (1 : Int32)) + (1 : Int64))), (5, .long ((((2 : Int64) * v5) + ((shr_ a0 (nI k)) &&& (1 : Int64))) - a1)), (10, .int (1 : Int32)), (9, .int (nI k)), (0, .long a0), (2, .long a1), (4, .int a2)]) hx hb d_Ref_divided_74 hl (by decide) rfl (fun ls hl => ?_)
      have hl := lv_sub (l' := [(7, .long ((shl_ v7 (1 : Int32)) + (1 : Int64))), (5, .long ((((2 : Int64) * v5) + ((shr_ a0 (nI k)) &&& (1 : Int64))) - a1)), (9, .int (nI k)), (0, .long a0), (2, .long a1), (4, .int a2)]) hl [0, 1, 3, 4, 5, 6] rfl
      refine lv_iinc (v := (zI ((k : Nat) - 1))) (lv' := [(9, .int (zI ((k : Nat) - 1))), (7, .long ((shl_ v7 (1 : Int32)) + (1 : Int64))), (5, .long ((((2 : Int64) * v5) + ((shr_ a0 (nI k)) &&& (1 : Int64))) - a1)), (0, .long a0), (2, .long a1), (4, .int a2)]) hx hb d_Ref_divided_76 hl (k := 2) rfl (dn_ k) (by decide) rfl (fun ls hl => ?_)
      refine lv_goto (tgt := 10) hx hb d_Ref_divided_79 (by decide) ?_
      exact ih (by omega) ((((2 : Int64) * v5) + ((shr_ a0 (nI k)) &&& (1 : Int64))) - a1) ((shl_ v7 (1 : Int32)) + (1 : Int64)) ls (lv_sub hl [0, 2, 1, 3, 4, 5] rfl) (by rw [hw, lf_Ref_divided, if_neg c_1])
def q_Ref_divided (a0 : Int64) (a1 : Int64) (a2 : Int32) : Int64 := lf_Ref_divided a0 a1 a2 64 (0 : Int64) (0 : Int64)
set_option maxHeartbeats 4000000 in
set_option maxRecDepth 100000 in
theorem c_Ref_divided (l : Launch) (A : Nat → Prop) (ad : Nat → Nat) (a0 : Int64) (a1 : Int64) (a2 : Int32) : Met l y_Ref_divided (Cond.code y_Ref_divided b_Ref_divided 11 (some .long) :: BT) ({ frames := 1, cells := 0, slots := 0, locals := 23 } : Room) (PC A ad [.long a0, .long a1, .int a2]) (vp_Sl (fun r => r = q_Ref_divided a0 a1 a2)) 0 0 (fun _ => False) := by
  refine pm_ (by decide +kernel) (Nat.le_of_ble_eq_true rfl) ?_
  intro p e s m below meth c hq hr hk ls hl
  have hx := hq.1
  have hb := hq.2.1
  have hts := hq.2.2.2.2.1
  have hl : lv_has ls 11 [(0, .long a0), (2, .long a1), (4, .int a2)] := hl
  refine lv_lconst (v := (0 : Int64)) hx hb d_Ref_divided_0 (by decide) ?_
  refine lv_lstore (lv' := [(5, .long (0 : Int64)), (0, .long a0), (2, .long a1), (4, .int a2)]) hx hb d_Ref_divided_1 hl (by decide) rfl (fun ls hl => ?_)
  refine lv_lconst (v := (0 : Int64)) hx hb d_Ref_divided_3 (by decide) ?_
  refine lv_lstore (lv' := [(7, .long (0 : Int64)), (5, .long (0 : Int64)), (0, .long a0), (2, .long a1), (4, .int a2)]) hx hb d_Ref_divided_4 hl (by decide) rfl (fun ls hl => ?_)
  refine lv_bipush (v := (63 : Int32)) hx hb d_Ref_divided_6 (by decide) ?_
  refine lv_istore (lv' := [(9, .int (63 : Int32)), (7, .long (0 : Int64)), (5, .long (0 : Int64)), (0, .long a0), (2, .long a1), (4, .int a2)]) hx hb d_Ref_divided_8 hl (by decide) rfl (fun ls hl => ?_)
  have hl : lv_has ls 11 [(9, .int (zI ((64 : Nat) - 1))), (5, .long (0 : Int64)), (7, .long (0 : Int64)), (0, .long a0), (2, .long a1), (4, .int a2)] := lv_sub hl [0, 2, 1, 3, 4, 5] rfl
  exact lp_Ref_divided hq hr hk a0 a1 a2 _ 64 (by omega) (0 : Int64) (0 : Int64) ls hl rfl
