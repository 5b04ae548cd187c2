def q_Wholes_test (a0 : Int32) (a1 : Int64) (a2 : Int64) : Int32 :=
  if a0 = (69 : Int32) then
    if a1 = (0 : Int64) then
      (1 : Int32)
    else
      (0 : Int32)
  else
    if a0 = (70 : Int32) then
      if a1 = a2 then
        (1 : Int32)
      else
        (0 : Int32)
    else
      if a0 = (71 : Int32) then
        if a1 = a2 then
          (0 : Int32)
        else
          (1 : Int32)
      else
        if a0 = (72 : Int32) then
          if a2 ≤ a1 then
            (0 : Int32)
          else
            (1 : Int32)
        else
          if a0 = (73 : Int32) then
            if 0 ≤ (q_Long_compareUnsigned a1 a2) then
              (0 : Int32)
            else
              (1 : Int32)
          else
            if a0 = (74 : Int32) then
              if a1 ≤ a2 then
                (0 : Int32)
              else
                (1 : Int32)
            else
              if a0 = (75 : Int32) then
                if (q_Long_compareUnsigned a1 a2) ≤ 0 then
                  (0 : Int32)
                else
                  (1 : Int32)
              else
                if a0 = (76 : Int32) then
                  if a2 < a1 then
                    (0 : Int32)
                  else
                    (1 : Int32)
                else
                  if a0 = (77 : Int32) then
                    if 0 < (q_Long_compareUnsigned a1 a2) then
                      (0 : Int32)
                    else
                      (1 : Int32)
                  else
                    if a0 = (78 : Int32) then
                      if a1 < a2 then
                        (0 : Int32)
                      else
                        (1 : Int32)
                    else
                      if (q_Long_compareUnsigned a1 a2) < 0 then
                        (0 : Int32)
                      else
                        (1 : Int32)
theorem kB_Wholes_test : SB y_Wholes_test b_Wholes_test 5 (some .boolean) 3 := ⟨wt_319, wt_318, wt_51, by decide +kernel⟩
set_option maxHeartbeats 4000000 in
set_option maxRecDepth 100000 in
theorem c_Wholes_test (l : Launch) (A : Nat → Prop) (ad : Nat → Nat) (a0 : Int32) (a1 : Int64) (a2 : Int64) : Met l y_Wholes_test (Cond.code y_Wholes_test b_Wholes_test 5 (some .boolean) :: BT) ({ frames := 2, cells := 0, slots := 0, locals := 46 }) (PC A ad [.int a0, .long a1, .long a2]) (vp_Si (fun r => r = q_Wholes_test a0 a1 a2)) 0 0 (fun _ => False) := by
  refine pm_ (by decide +kernel) (Nat.le_of_ble_eq_true rfl) ?_
  intro p e s m below meth c hq hr hk ls hl
  have hx := hq.1
  have hb := hq.2.1
  have hts := hq.2.2.2.2.1
  have hl : lv_has ls 5 [(0, .int a0), (1, .long a1), (3, .long a2)] := hl
  refine lv_iload_n hx hb d_Wholes_test_0 rfl (lv_at hl 0 rfl) ?_
  by_cases c_1 : a0 = (69 : Int32)
  · refine lv_tableIn (tgt := 56) hx hb d_Wholes_test_1 (by rw [c_1]; decide) (by rw [c_1]; decide) (by rw [c_1]; rfl) (by decide) ?_
    refine lv_lload_n hx hb d_Wholes_test_56 rfl (lv_at hl 1 rfl) ?_
    refine lv_lconst (v := (0 : Int64)) hx hb d_Wholes_test_57 (by decide) ?_
    refine W.lcmp hx hb d_Wholes_test_58 ?_
    refine lv_if_ne (tgt := 66) hx hb d_Wholes_test_59 (by decide) (fun c_2 => ?_) (fun c_2 => ?_)
    · rw [lg_cmp_eq] at c_2
      refine lv_iconst (v := (0 : Int32)) hx hb d_Wholes_test_66 (by decide) ?_
      exact rz_ hx hb hr hk (by decide) (by rw [q_Wholes_test, if_pos c_1, if_neg c_2]) d_Wholes_test_67
    · rw [lg_cmp_eq] at c_2
      refine lv_iconst (v := (1 : Int32)) hx hb d_Wholes_test_62 (by decide) ?_
      refine lv_goto (tgt := 67) hx hb d_Wholes_test_63 (by decide) ?_
      exact rz_ hx hb hr hk (by decide) (by rw [q_Wholes_test, if_pos c_1, if_pos c_2]) d_Wholes_test_67
  by_cases c_3 : a0 = (70 : Int32)
  · refine lv_tableIn (tgt := 68) hx hb d_Wholes_test_1 (by rw [c_3]; decide) (by rw [c_3]; decide) (by rw [c_3]; rfl) (by decide) ?_
    refine lv_lload_n hx hb d_Wholes_test_68 rfl (lv_at hl 1 rfl) ?_
    refine lv_lload_n hx hb d_Wholes_test_69 rfl (lv_at hl 2 rfl) ?_
    refine W.lcmp hx hb d_Wholes_test_70 ?_
    refine lv_if_ne (tgt := 78) hx hb d_Wholes_test_71 (by decide) (fun c_4 => ?_) (fun c_4 => ?_)
    · rw [lg_cmp_eq] at c_4
      refine lv_iconst (v := (0 : Int32)) hx hb d_Wholes_test_78 (by decide) ?_
      exact rz_ hx hb hr hk (by decide) (by rw [q_Wholes_test, if_neg c_1, if_pos c_3, if_neg c_4]) d_Wholes_test_79
    · rw [lg_cmp_eq] at c_4
      refine lv_iconst (v := (1 : Int32)) hx hb d_Wholes_test_74 (by decide) ?_
      refine lv_goto (tgt := 79) hx hb d_Wholes_test_75 (by decide) ?_
      exact rz_ hx hb hr hk (by decide) (by rw [q_Wholes_test, if_neg c_1, if_pos c_3, if_pos c_4]) d_Wholes_test_79
  by_cases c_5 : a0 = (71 : Int32)
  · refine lv_tableIn (tgt := 80) hx hb d_Wholes_test_1 (by rw [c_5]; decide) (by rw [c_5]; decide) (by rw [c_5]; rfl) (by decide) ?_
    refine lv_lload_n hx hb d_Wholes_test_80 rfl (lv_at hl 1 rfl) ?_
    refine lv_lload_n hx hb d_Wholes_test_81 rfl (lv_at hl 2 rfl) ?_
    refine W.lcmp hx hb d_Wholes_test_82 ?_
    refine lv_if_eq (tgt := 90) hx hb d_Wholes_test_83 (by decide) (fun c_6 => ?_) (fun c_6 => ?_)
    · rw [lg_cmp_eq] at c_6
      refine lv_iconst (v := (0 : Int32)) hx hb d_Wholes_test_90 (by decide) ?_
      exact rz_ hx hb hr hk (by decide) (by rw [q_Wholes_test, if_neg c_1, if_neg c_3, if_pos c_5, if_pos c_6]) d_Wholes_test_91
    · rw [lg_cmp_eq] at c_6
      refine lv_iconst (v := (1 : Int32)) hx hb d_Wholes_test_86 (by decide) ?_
      refine lv_goto (tgt := 91) hx hb d_Wholes_test_87 (by decide) ?_
      exact rz_ hx hb hr hk (by decide) (by rw [q_Wholes_test, if_neg c_1, if_neg c_3, if_pos c_5, if_neg c_6]) d_Wholes_test_91
  by_cases c_7 : a0 = (72 : Int32)
  · refine lv_tableIn (tgt := 92) hx hb d_Wholes_test_1 (by rw [c_7]; decide) (by rw [c_7]; decide) (by rw [c_7]; rfl) (by decide) ?_
    refine lv_lload_n hx hb d_Wholes_test_92 rfl (lv_at hl 1 rfl) ?_
    refine lv_lload_n hx hb d_Wholes_test_93 rfl (lv_at hl 2 rfl) ?_
    refine W.lcmp hx hb d_Wholes_test_94 ?_
    refine lv_if_ge (tgt := 102) hx hb d_Wholes_test_95 (by decide) (fun c_8 => ?_) (fun c_8 => ?_)
    · rw [lg_cmp_ge] at c_8
      refine lv_iconst (v := (0 : Int32)) hx hb d_Wholes_test_102 (by decide) ?_
      exact rz_ hx hb hr hk (by decide) (by rw [q_Wholes_test, if_neg c_1, if_neg c_3, if_neg c_5, if_pos c_7, if_pos c_8]) d_Wholes_test_103
    · rw [lg_cmp_ge] at c_8
      refine lv_iconst (v := (1 : Int32)) hx hb d_Wholes_test_98 (by decide) ?_
      refine lv_goto (tgt := 103) hx hb d_Wholes_test_99 (by decide) ?_
      exact rz_ hx hb hr hk (by decide) (by rw [q_Wholes_test, if_neg c_1, if_neg c_3, if_neg c_5, if_pos c_7, if_neg c_8]) d_Wholes_test_103
  by_cases c_9 : a0 = (73 : Int32)
  · refine lv_tableIn (tgt := 104) hx hb d_Wholes_test_1 (by rw [c_9]; decide) (by rw [c_9]; decide) (by rw [c_9]; rfl) (by decide) ?_
    refine lv_lload_n hx hb d_Wholes_test_104 rfl (lv_at hl 1 rfl) ?_
    refine lv_lload_n hx hb d_Wholes_test_105 rfl (lv_at hl 2 rfl) ?_
    refine si_ (As := [.long a1, .long a2]) (rest := []) hq (c_Long_compareUnsigned l A ad a1 a2) kB_Long_compareUnsigned wt_320 ⟨rfl, rfl, Nat.le_of_ble_eq_true rfl, Nat.le_of_ble_eq_true rfl⟩ rfl hl.1 rfl (Nat.le_of_ble_eq_true rfl) d_Wholes_test_106 ⟨Nat.zero_le _, Nat.zero_le _⟩ ?_
    refine lv_if_ge (tgt := 116) hx hb d_Wholes_test_109 (by decide) (fun c_10 => ?_) (fun c_10 => ?_)
    · refine lv_iconst (v := (0 : Int32)) hx hb d_Wholes_test_116 (by decide) ?_
      exact rz_ hx hb hr hk (by decide) (by rw [q_Wholes_test, if_neg c_1, if_neg c_3, if_neg c_5, if_neg c_7, if_pos c_9, if_pos c_10]) d_Wholes_test_117
    · refine lv_iconst (v := (1 : Int32)) hx hb d_Wholes_test_112 (by decide) ?_
      refine lv_goto (tgt := 117) hx hb d_Wholes_test_113 (by decide) ?_
      exact rz_ hx hb hr hk (by decide) (by rw [q_Wholes_test, if_neg c_1, if_neg c_3, if_neg c_5, if_neg c_7, if_pos c_9, if_neg c_10]) d_Wholes_test_117
  by_cases c_11 : a0 = (74 : Int32)
  · refine lv_tableIn (tgt := 118) hx hb d_Wholes_test_1 (by rw [c_11]; decide) (by rw [c_11]; decide) (by rw [c_11]; rfl) (by decide) ?_
    refine lv_lload_n hx hb d_Wholes_test_118 rfl (lv_at hl 1 rfl) ?_
    refine lv_lload_n hx hb d_Wholes_test_119 rfl (lv_at hl 2 rfl) ?_
    refine W.lcmp hx hb d_Wholes_test_120 ?_
    refine lv_if_le (tgt := 128) hx hb d_Wholes_test_121 (by decide) (fun c_12 => ?_) (fun c_12 => ?_)
    · rw [lg_cmp_le] at c_12
      refine lv_iconst (v := (0 : Int32)) hx hb d_Wholes_test_128 (by decide) ?_
      exact rz_ hx hb hr hk (by decide) (by rw [q_Wholes_test, if_neg c_1, if_neg c_3, if_neg c_5, if_neg c_7, if_neg c_9, if_pos c_11, if_pos c_12]) d_Wholes_test_129
    · rw [lg_cmp_le] at c_12
      refine lv_iconst (v := (1 : Int32)) hx hb d_Wholes_test_124 (by decide) ?_
      refine lv_goto (tgt := 129) hx hb d_Wholes_test_125 (by decide) ?_
      exact rz_ hx hb hr hk (by decide) (by rw [q_Wholes_test, if_neg c_1, if_neg c_3, if_neg c_5, if_neg c_7, if_neg c_9, if_pos c_11, if_neg c_12]) d_Wholes_test_129
  by_cases c_13 : a0 = (75 : Int32)
  · refine lv_tableIn (tgt := 130) hx hb d_Wholes_test_1 (by rw [c_13]; decide) (by rw [c_13]; decide) (by rw [c_13]; rfl) (by decide) ?_
    refine lv_lload_n hx hb d_Wholes_test_130 rfl (lv_at hl 1 rfl) ?_
    refine lv_lload_n hx hb d_Wholes_test_131 rfl (lv_at hl 2 rfl) ?_
    refine si_ (As := [.long a1, .long a2]) (rest := []) hq (c_Long_compareUnsigned l A ad a1 a2) kB_Long_compareUnsigned wt_320 ⟨rfl, rfl, Nat.le_of_ble_eq_true rfl, Nat.le_of_ble_eq_true rfl⟩ rfl hl.1 rfl (Nat.le_of_ble_eq_true rfl) d_Wholes_test_132 ⟨Nat.zero_le _, Nat.zero_le _⟩ ?_
    refine lv_if_le (tgt := 142) hx hb d_Wholes_test_135 (by decide) (fun c_14 => ?_) (fun c_14 => ?_)
    · refine lv_iconst (v := (0 : Int32)) hx hb d_Wholes_test_142 (by decide) ?_
      exact rz_ hx hb hr hk (by decide) (by rw [q_Wholes_test, if_neg c_1, if_neg c_3, if_neg c_5, if_neg c_7, if_neg c_9, if_neg c_11, if_pos c_13, if_pos c_14]) d_Wholes_test_143
    · refine lv_iconst (v := (1 : Int32)) hx hb d_Wholes_test_138 (by decide) ?_
      refine lv_goto (tgt := 143) hx hb d_Wholes_test_139 (by decide) ?_
      exact rz_ hx hb hr hk (by decide) (by rw [q_Wholes_test, if_neg c_1, if_neg c_3, if_neg c_5, if_neg c_7, if_neg c_9, if_neg c_11, if_pos c_13, if_neg c_14]) d_Wholes_test_143
  by_cases c_15 : a0 = (76 : Int32)
  · refine lv_tableIn (tgt := 144) hx hb d_Wholes_test_1 (by rw [c_15]; decide) (by rw [c_15]; decide) (by rw [c_15]; rfl) (by decide) ?_
    refine lv_lload_n hx hb d_Wholes_test_144 rfl (lv_at hl 1 rfl) ?_
    refine lv_lload_n hx hb d_Wholes_test_145 rfl (lv_at hl 2 rfl) ?_
    refine W.lcmp hx hb d_Wholes_test_146 ?_
    refine lv_if_gt (tgt := 154) hx hb d_Wholes_test_147 (by decide) (fun c_16 => ?_) (fun c_16 => ?_)
    · rw [lg_cmp_gt] at c_16
      refine lv_iconst (v := (0 : Int32)) hx hb d_Wholes_test_154 (by decide) ?_
      exact rz_ hx hb hr hk (by decide) (by rw [q_Wholes_test, if_neg c_1, if_neg c_3, if_neg c_5, if_neg c_7, if_neg c_9, if_neg c_11, if_neg c_13, if_pos c_15, if_pos c_16]) d_Wholes_test_155
    · rw [lg_cmp_gt] at c_16
      refine lv_iconst (v := (1 : Int32)) hx hb d_Wholes_test_150 (by decide) ?_
      refine lv_goto (tgt := 155) hx hb d_Wholes_test_151 (by decide) ?_
      exact rz_ hx hb hr hk (by decide) (by rw [q_Wholes_test, if_neg c_1, if_neg c_3, if_neg c_5, if_neg c_7, if_neg c_9, if_neg c_11, if_neg c_13, if_pos c_15, if_neg c_16]) d_Wholes_test_155
  by_cases c_17 : a0 = (77 : Int32)
  · refine lv_tableIn (tgt := 156) hx hb d_Wholes_test_1 (by rw [c_17]; decide) (by rw [c_17]; decide) (by rw [c_17]; rfl) (by decide) ?_
    refine lv_lload_n hx hb d_Wholes_test_156 rfl (lv_at hl 1 rfl) ?_
    refine lv_lload_n hx hb d_Wholes_test_157 rfl (lv_at hl 2 rfl) ?_
    refine si_ (As := [.long a1, .long a2]) (rest := []) hq (c_Long_compareUnsigned l A ad a1 a2) kB_Long_compareUnsigned wt_320 ⟨rfl, rfl, Nat.le_of_ble_eq_true rfl, Nat.le_of_ble_eq_true rfl⟩ rfl hl.1 rfl (Nat.le_of_ble_eq_true rfl) d_Wholes_test_158 ⟨Nat.zero_le _, Nat.zero_le _⟩ ?_
    refine lv_if_gt (tgt := 168) hx hb d_Wholes_test_161 (by decide) (fun c_18 => ?_) (fun c_18 => ?_)
    · refine lv_iconst (v := (0 : Int32)) hx hb d_Wholes_test_168 (by decide) ?_
      exact rz_ hx hb hr hk (by decide) (by rw [q_Wholes_test, if_neg c_1, if_neg c_3, if_neg c_5, if_neg c_7, if_neg c_9, if_neg c_11, if_neg c_13, if_neg c_15, if_pos c_17, if_pos c_18]) d_Wholes_test_169
    · refine lv_iconst (v := (1 : Int32)) hx hb d_Wholes_test_164 (by decide) ?_
      refine lv_goto (tgt := 169) hx hb d_Wholes_test_165 (by decide) ?_
      exact rz_ hx hb hr hk (by decide) (by rw [q_Wholes_test, if_neg c_1, if_neg c_3, if_neg c_5, if_neg c_7, if_neg c_9, if_neg c_11, if_neg c_13, if_neg c_15, if_pos c_17, if_neg c_18]) d_Wholes_test_169
  by_cases c_19 : a0 = (78 : Int32)
  · refine lv_tableIn (tgt := 170) hx hb d_Wholes_test_1 (by rw [c_19]; decide) (by rw [c_19]; decide) (by rw [c_19]; rfl) (by decide) ?_
    refine lv_lload_n hx hb d_Wholes_test_170 rfl (lv_at hl 1 rfl) ?_
    refine lv_lload_n hx hb d_Wholes_test_171 rfl (lv_at hl 2 rfl) ?_
    refine W.lcmp hx hb d_Wholes_test_172 ?_
    refine lv_if_lt (tgt := 180) hx hb d_Wholes_test_173 (by decide) (fun c_20 => ?_) (fun c_20 => ?_)
    · rw [lg_cmp_lt] at c_20
      refine lv_iconst (v := (0 : Int32)) hx hb d_Wholes_test_180 (by decide) ?_
      exact rz_ hx hb hr hk (by decide) (by rw [q_Wholes_test, if_neg c_1, if_neg c_3, if_neg c_5, if_neg c_7, if_neg c_9, if_neg c_11, if_neg c_13, if_neg c_15, if_neg c_17, if_pos c_19, if_pos c_20]) d_Wholes_test_181
    · rw [lg_cmp_lt] at c_20
      refine lv_iconst (v := (1 : Int32)) hx hb d_Wholes_test_176 (by decide) ?_
      refine lv_goto (tgt := 181) hx hb d_Wholes_test_177 (by decide) ?_
      exact rz_ hx hb hr hk (by decide) (by rw [q_Wholes_test, if_neg c_1, if_neg c_3, if_neg c_5, if_neg c_7, if_neg c_9, if_neg c_11, if_neg c_13, if_neg c_15, if_neg c_17, if_pos c_19, if_neg c_20]) d_Wholes_test_181
  have hsw : a0.toInt < 69 ∨ 78 < a0.toInt := by
    have := lv_neT c_1 (a := 69) (by decide)
    have := lv_neT c_3 (a := 70) (by decide)
    have := lv_neT c_5 (a := 71) (by decide)
    have := lv_neT c_7 (a := 72) (by decide)
    have := lv_neT c_9 (a := 73) (by decide)
    have := lv_neT c_11 (a := 74) (by decide)
    have := lv_neT c_13 (a := 75) (by decide)
    have := lv_neT c_15 (a := 76) (by decide)
    have := lv_neT c_17 (a := 77) (by decide)
    have := lv_neT c_19 (a := 78) (by decide)
    omega
  refine lv_tableOut (tgt := 182) hx hb d_Wholes_test_1 hsw (by decide) ?_
  refine lv_lload_n hx hb d_Wholes_test_182 rfl (lv_at hl 1 rfl) ?_
  refine lv_lload_n hx hb d_Wholes_test_183 rfl (lv_at hl 2 rfl) ?_
  refine si_ (As := [.long a1, .long a2]) (rest := []) hq (c_Long_compareUnsigned l A ad a1 a2) kB_Long_compareUnsigned wt_320 ⟨rfl, rfl, Nat.le_of_ble_eq_true rfl, Nat.le_of_ble_eq_true rfl⟩ rfl hl.1 rfl (Nat.le_of_ble_eq_true rfl) d_Wholes_test_184 ⟨Nat.zero_le _, Nat.zero_le _⟩ ?_
  refine lv_if_lt (tgt := 194) hx hb d_Wholes_test_187 (by decide) (fun c_21 => ?_) (fun c_21 => ?_)
  · refine lv_iconst (v := (0 : Int32)) hx hb d_Wholes_test_194 (by decide) ?_
    exact rz_ hx hb hr hk (by decide) (by rw [q_Wholes_test, if_neg c_1, if_neg c_3, if_neg c_5, if_neg c_7, if_neg c_9, if_neg c_11, if_neg c_13, if_neg c_15, if_neg c_17, if_neg c_19, if_pos c_21]) d_Wholes_test_195
  · refine lv_iconst (v := (1 : Int32)) hx hb d_Wholes_test_190 (by decide) ?_
    refine lv_goto (tgt := 195) hx hb d_Wholes_test_191 (by decide) ?_
    exact rz_ hx hb hr hk (by decide) (by rw [q_Wholes_test, if_neg c_1, if_neg c_3, if_neg c_5, if_neg c_7, if_neg c_9, if_neg c_11, if_neg c_13, if_neg c_15, if_neg c_17, if_neg c_19, if_neg c_21]) d_Wholes_test_195
def q_Wholes_counted (a0 : Int32) (a1 : Int32) (a2 : Int64) : Int64 :=
  if a0 = (103 : Int32) then
    (Int32.toInt64 ((q_Long_numberOfLeadingZeros a2) - ((64 : Int32) - a1)))
  else
    if a0 = (104 : Int32) then
      if a2 = (0 : Int64) then
        (Int32.toInt64 a1)
      else
        (Int32.toInt64 (q_Long_numberOfTrailingZeros a2))
    else
      (Int32.toInt64 (q_Long_bitCount a2))
theorem kB_Wholes_counted : SB y_Wholes_counted b_Wholes_counted 4 (some .long) 3 := ⟨wt_327, wt_326, wt_51, by decide +kernel⟩
set_option maxHeartbeats 4000000 in
set_option maxRecDepth 100000 in
theorem c_Wholes_counted (l : Launch) (A : Nat → Prop) (ad : Nat → Nat) (a0 : Int32) (a1 : Int32) (a2 : Int64) : Met l y_Wholes_counted (Cond.code y_Wholes_counted b_Wholes_counted 4 (some .long) :: BT) ({ frames := 2, cells := 0, slots := 0, locals := 43 }) (PC A ad [.int a0, .int a1, .long a2]) (vp_Sl (fun r => r = q_Wholes_counted a0 a1 a2)) 0 0 (fun _ => False) := by
  refine pm_ (by decide +kernel) (Nat.le_of_ble_eq_true rfl) ?_
  intro p e s m below meth c hq hr hk ls hl
  have hx := hq.1
  have hb := hq.2.1
  have hts := hq.2.2.2.2.1
  have hl : lv_has ls 4 [(0, .int a0), (1, .int a1), (2, .long a2)] := hl
  refine lv_iload_n hx hb d_Wholes_counted_0 rfl (lv_at hl 0 rfl) ?_
  by_cases c_1 : a0 = (103 : Int32)
  · refine lv_lookup (off := (27 : Int)) (tgt := 28) hx hb d_Wholes_counted_1 (by decide) (by rw [c_1] <;> rfl) (by decide) ?_
    refine lv_lload_n hx hb d_Wholes_counted_28 rfl (lv_at hl 2 rfl) ?_
    refine si_ (As := [.long a2]) (rest := []) hq (c_Long_numberOfLeadingZeros l A ad a2) kB_Long_numberOfLeadingZeros wt_328 ⟨rfl, rfl, Nat.le_of_ble_eq_true rfl, Nat.le_of_ble_eq_true rfl⟩ rfl hl.1 rfl (Nat.le_of_ble_eq_true rfl) d_Wholes_counted_29 ⟨Nat.zero_le _, Nat.zero_le _⟩ ?_
    refine lv_bipush (v := (64 : Int32)) hx hb d_Wholes_counted_32 (by decide) ?_
    refine lv_iload_n hx hb d_Wholes_counted_34 rfl (lv_at hl 1 rfl) ?_
    refine lv_isub hx hb d_Wholes_counted_35 ?_
    refine lv_isub hx hb d_Wholes_counted_36 ?_
    refine lv_i2l (v := (Int32.toInt64 ((q_Long_numberOfLeadingZeros a2) - ((64 : Int32) - a1)))) hx hb d_Wholes_counted_37 rfl ?_
    exact rl_ hx hb hr hk (by rw [q_Wholes_counted, if_pos c_1]) d_Wholes_counted_38
  by_cases c_2 : a0 = (104 : Int32)
  · refine lv_lookup (off := (38 : Int)) (tgt := 39) hx hb d_Wholes_counted_1 (by decide) (by rw [c_2] <;> rfl) (by decide) ?_
    refine lv_lload_n hx hb d_Wholes_counted_39 rfl (lv_at hl 2 rfl) ?_
    refine lv_lconst (v := (0 : Int64)) hx hb d_Wholes_counted_40 (by decide) ?_
    refine W.lcmp hx hb d_Wholes_counted_41 ?_
    refine lv_if_ne (tgt := 50) hx hb d_Wholes_counted_42 (by decide) (fun c_3 => ?_) (fun c_3 => ?_)
    · rw [lg_cmp_eq] at c_3
      refine lv_lload_n hx hb d_Wholes_counted_50 rfl (lv_at hl 2 rfl) ?_
      refine si_ (As := [.long a2]) (rest := []) hq (c_Long_numberOfTrailingZeros l A ad a2) kB_Long_numberOfTrailingZeros wt_329 ⟨rfl, rfl, Nat.le_of_ble_eq_true rfl, Nat.le_of_ble_eq_true rfl⟩ rfl hl.1 rfl (Nat.le_of_ble_eq_true rfl) d_Wholes_counted_51 ⟨Nat.zero_le _, Nat.zero_le _⟩ ?_
      refine lv_i2l (v := (Int32.toInt64 (q_Long_numberOfTrailingZeros a2))) hx hb d_Wholes_counted_54 rfl ?_
      exact rl_ hx hb hr hk (by rw [q_Wholes_counted, if_neg c_1, if_pos c_2, if_neg c_3]) d_Wholes_counted_55
    · rw [lg_cmp_eq] at c_3
      refine lv_iload_n hx hb d_Wholes_counted_45 rfl (lv_at hl 1 rfl) ?_
      refine lv_i2l (v := (Int32.toInt64 a1)) hx hb d_Wholes_counted_46 rfl ?_
      refine lv_goto (tgt := 55) hx hb d_Wholes_counted_47 (by decide) ?_
      exact rl_ hx hb hr hk (by rw [q_Wholes_counted, if_neg c_1, if_pos c_2, if_pos c_3]) d_Wholes_counted_55
  refine lv_lookup (off := (55 : Int)) (tgt := 56) hx hb d_Wholes_counted_1 (by decide) ((lv_osw c_1 (by decide)).trans <| (lv_osw c_2 (by decide)).trans <| rfl) (by decide) ?_
  refine lv_lload_n hx hb d_Wholes_counted_56 rfl (lv_at hl 2 rfl) ?_
  refine si_ (As := [.long a2]) (rest := []) hq (c_Long_bitCount l A ad a2) kB_Long_bitCount wt_335 ⟨rfl, rfl, Nat.le_of_ble_eq_true rfl, Nat.le_of_ble_eq_true rfl⟩ rfl hl.1 rfl (Nat.le_of_ble_eq_true rfl) d_Wholes_counted_57 ⟨Nat.zero_le _, Nat.zero_le _⟩ ?_
  refine lv_i2l (v := (Int32.toInt64 (q_Long_bitCount a2))) hx hb d_Wholes_counted_60 rfl ?_
  exact rl_ hx hb hr hk (by rw [q_Wholes_counted, if_neg c_1, if_neg c_2]) d_Wholes_counted_61
def q_Wholes_combined (a0 : Int32) (a1 : Int64) (a2 : Int64) : Int64 :=
  if a0 = (106 : Int32) then
    (a1 + a2)
  else
    if a0 = (107 : Int32) then
      (a1 - a2)
    else
      if a0 = (108 : Int32) then
        (a1 * a2)
      else
        if a0 = (113 : Int32) then
          (a1 &&& a2)
        else
          if a0 = (114 : Int32) then
            (a1 ||| a2)
          else
            (a1 ^^^ a2)
theorem kB_Wholes_combined : SB y_Wholes_combined b_Wholes_combined 5 (some .long) 3 := ⟨wt_382, wt_381, wt_51, by decide +kernel⟩
set_option maxHeartbeats 4000000 in
set_option maxRecDepth 100000 in
theorem c_Wholes_combined (l : Launch) (A : Nat → Prop) (ad : Nat → Nat) (a0 : Int32) (a1 : Int64) (a2 : Int64) : Met l y_Wholes_combined (Cond.code y_Wholes_combined b_Wholes_combined 5 (some .long) :: BT) ({ frames := 0, cells := 0, slots := 0, locals := 0 }) (PC A ad [.int a0, .long a1, .long a2]) (vp_Sl (fun r => r = q_Wholes_combined a0 a1 a2)) 0 0 (fun _ => False) := by
  refine pm_ (by decide +kernel) (Nat.le_of_ble_eq_true rfl) ?_
  intro p e s m below meth c hq hr hk ls hl
  have hx := hq.1
  have hb := hq.2.1
  have hts := hq.2.2.2.2.1
  have hl : lv_has ls 5 [(0, .int a0), (1, .long a1), (3, .long a2)] := hl
  refine lv_iload_n hx hb d_Wholes_combined_0 rfl (lv_at hl 0 rfl) ?_
  by_cases c_1 : a0 = (106 : Int32)
  · refine lv_tableIn (tgt := 52) hx hb d_Wholes_combined_1 (by rw [c_1]; decide) (by rw [c_1]; decide) (by rw [c_1]; rfl) (by decide) ?_
    refine lv_lload_n hx hb d_Wholes_combined_52 rfl (lv_at hl 1 rfl) ?_
    refine lv_lload_n hx hb d_Wholes_combined_53 rfl (lv_at hl 2 rfl) ?_
    refine lv_ladd hx hb d_Wholes_combined_54 ?_
    exact rl_ hx hb hr hk (by rw [q_Wholes_combined, if_pos c_1]) d_Wholes_combined_55
  by_cases c_2 : a0 = (107 : Int32)
  · refine lv_tableIn (tgt := 56) hx hb d_Wholes_combined_1 (by rw [c_2]; decide) (by rw [c_2]; decide) (by rw [c_2]; rfl) (by decide) ?_
    refine lv_lload_n hx hb d_Wholes_combined_56 rfl (lv_at hl 1 rfl) ?_
    refine lv_lload_n hx hb d_Wholes_combined_57 rfl (lv_at hl 2 rfl) ?_
    refine lv_lsub hx hb d_Wholes_combined_58 ?_
    exact rl_ hx hb hr hk (by rw [q_Wholes_combined, if_neg c_1, if_pos c_2]) d_Wholes_combined_59
  by_cases c_3 : a0 = (108 : Int32)
  · refine lv_tableIn (tgt := 60) hx hb d_Wholes_combined_1 (by rw [c_3]; decide) (by rw [c_3]; decide) (by rw [c_3]; rfl) (by decide) ?_
    refine lv_lload_n hx hb d_Wholes_combined_60 rfl (lv_at hl 1 rfl) ?_
    refine lv_lload_n hx hb d_Wholes_combined_61 rfl (lv_at hl 2 rfl) ?_
    refine lv_lmul hx hb d_Wholes_combined_62 ?_
    exact rl_ hx hb hr hk (by rw [q_Wholes_combined, if_neg c_1, if_neg c_2, if_pos c_3]) d_Wholes_combined_63
  by_cases c_4 : a0 = (113 : Int32)
  · refine lv_tableIn (tgt := 64) hx hb d_Wholes_combined_1 (by rw [c_4]; decide) (by rw [c_4]; decide) (by rw [c_4]; rfl) (by decide) ?_
    refine lv_lload_n hx hb d_Wholes_combined_64 rfl (lv_at hl 1 rfl) ?_
    refine lv_lload_n hx hb d_Wholes_combined_65 rfl (lv_at hl 2 rfl) ?_
    refine lv_land hx hb d_Wholes_combined_66 ?_
    exact rl_ hx hb hr hk (by rw [q_Wholes_combined, if_neg c_1, if_neg c_2, if_neg c_3, if_pos c_4]) d_Wholes_combined_67
  by_cases c_5 : a0 = (114 : Int32)
  · refine lv_tableIn (tgt := 68) hx hb d_Wholes_combined_1 (by rw [c_5]; decide) (by rw [c_5]; decide) (by rw [c_5]; rfl) (by decide) ?_
    refine lv_lload_n hx hb d_Wholes_combined_68 rfl (lv_at hl 1 rfl) ?_
    refine lv_lload_n hx hb d_Wholes_combined_69 rfl (lv_at hl 2 rfl) ?_
    refine lv_lor hx hb d_Wholes_combined_70 ?_
    exact rl_ hx hb hr hk (by rw [q_Wholes_combined, if_neg c_1, if_neg c_2, if_neg c_3, if_neg c_4, if_pos c_5]) d_Wholes_combined_71
  have hsw : a0.toInt < 106 ∨ 114 < a0.toInt ∨ a0.toInt = 109 ∨ a0.toInt = 110 ∨ a0.toInt = 111 ∨ a0.toInt = 112 := by
    have := lv_neT c_1 (a := 106) (by decide)
    have := lv_neT c_2 (a := 107) (by decide)
    have := lv_neT c_3 (a := 108) (by decide)
    have := lv_neT c_4 (a := 113) (by decide)
    have := lv_neT c_5 (a := 114) (by decide)
    omega
  have hs2 : a0.toInt < 106 ∨ 114 < a0.toInt ∨ (¬ a0.toInt < 106 ∧ ¬ 114 < a0.toInt ∧ (#[51, 55, 59, 71, 71, 71, 71, 63, 67] : Array Int)[(a0.toInt - 106).toNat]? = some 71) := by
    rcases hsw with h9 | h9 | h9 | h9 | h9 | h9
    · exact Or.inl h9
    · exact Or.inr (Or.inl h9)
    all_goals exact Or.inr (Or.inr ⟨by rw [h9]; decide, by rw [h9]; decide, by rw [h9] <;> rfl⟩)
  refine tb_dflt (tgt := 72) hx hb d_Wholes_combined_1 hs2 (by decide) ?_
  refine lv_lload_n hx hb d_Wholes_combined_72 rfl (lv_at hl 1 rfl) ?_
  refine lv_lload_n hx hb d_Wholes_combined_73 rfl (lv_at hl 2 rfl) ?_
  refine lv_lxor hx hb d_Wholes_combined_74 ?_
  exact rl_ hx hb hr hk (by rw [q_Wholes_combined, if_neg c_1, if_neg c_2, if_neg c_3, if_neg c_4, if_neg c_5]) d_Wholes_combined_75
def q_Wholes_unsignedQuotient (a0 : Int64) (a1 : Int64) : Int64 :=
  if (0 : Int64) ≤ a1 then
    if 0 ≤ (q_Long_compareUnsigned (a0 - ((shl_ ((ush_ a0 (1 : Int32)) / a1) (1 : Int32)) * a1)) a1) then
      ((shl_ ((ush_ a0 (1 : Int32)) / a1) (1 : Int32)) + (1 : Int64))
    else
      (shl_ ((ush_ a0 (1 : Int32)) / a1) (1 : Int32))
  else
    if 0 ≤ (q_Long_compareUnsigned a0 a1) then
      (1 : Int64)
    else
      (0 : Int64)
theorem kB_Wholes_unsignedQuotient : SB y_Wholes_unsignedQuotient b_Wholes_unsignedQuotient 8 (some .long) 2 := ⟨wt_367, wt_366, wt_51, by decide +kernel⟩
set_option maxHeartbeats 4000000 in
set_option maxRecDepth 100000 in
theorem c_Wholes_unsignedQuotient (l : Launch) (A : Nat → Prop) (ad : Nat → Nat) (a0 : Int64) (a1 : Int64) (hz : ¬ a1 = 0) : Met l y_Wholes_unsignedQuotient (Cond.code y_Wholes_unsignedQuotient b_Wholes_unsignedQuotient 8 (some .long) :: BT) ({ frames := 2, cells := 0, slots := 0, locals := 46 }) (PC A ad [.long a0, .long a1]) (vp_Sl (fun r => r = q_Wholes_unsignedQuotient a0 a1)) 0 0 (fun _ => False) := by
  refine pm_ (by decide +kernel) (Nat.le_of_ble_eq_true rfl) ?_
  intro p e s m below meth c hq hr hk ls hl
  have hx := hq.1
  have hb := hq.2.1
  have hts := hq.2.2.2.2.1
  have hl : lv_has ls 8 [(0, .long a0), (2, .long a1)] := hl
  refine lv_lload_n hx hb d_Wholes_unsignedQuotient_0 rfl (lv_at hl 1 rfl) ?_
  refine lv_lconst (v := (0 : Int64)) hx hb d_Wholes_unsignedQuotient_1 (by decide) ?_
  refine W.lcmp hx hb d_Wholes_unsignedQuotient_2 ?_
  refine lv_if_ge (tgt := 20) hx hb d_Wholes_unsignedQuotient_3 (by decide) (fun c_1 => ?_) (fun c_1 => ?_)
  · rw [lg_cmp_ge] at c_1
    refine lv_lload_n hx hb d_Wholes_unsignedQuotient_20 rfl (lv_at hl 0 rfl) ?_
    refine lv_iconst (v := (1 : Int32)) hx hb d_Wholes_unsignedQuotient_21 (by decide) ?_
    refine lv_lushr (v := (ush_ a0 (1 : Int32))) hx hb d_Wholes_unsignedQuotient_22 rfl ?_
    refine lv_lload_n hx hb d_Wholes_unsignedQuotient_23 rfl (lv_at hl 1 rfl) ?_
    refine lv_ldiv hx hb d_Wholes_unsignedQuotient_24 hz ?_
    refine lv_iconst (v := (1 : Int32)) hx hb d_Wholes_unsignedQuotient_25 (by decide) ?_
    refine lv_lshl (v := (shl_ ((ush_ a0 (1 : Int32)) / a1) (1 : Int32))) hx hb d_Wholes_unsignedQuotient_26 rfl ?_
    refine lv_lstore (lv' := [(4, .long (shl_ ((ush_ a0 (1 : Int32)) / a1) (1 : Int32))), (0, .long a0), (2, .long a1)]) hx hb d_Wholes_unsignedQuotient_27 hl (by decide) rfl (fun ls hl => ?_)
    refine lv_lload_n hx hb d_Wholes_unsignedQuotient_29 rfl (lv_at hl 1 rfl) ?_
    refine lv_lload hx hb d_Wholes_unsignedQuotient_30 (lv_at hl 0 rfl) ?_
    refine lv_lload_n hx hb d_Wholes_unsignedQuotient_32 rfl (lv_at hl 2 rfl) ?_
    refine lv_lmul hx hb d_Wholes_unsignedQuotient_33 ?_
    refine lv_lsub hx hb d_Wholes_unsignedQuotient_34 ?_
    refine lv_lstore (lv' := [(6, .long (a0 - ((shl_ ((ush_ a0 (1 : Int32)) / a1) (1 : Int32)) * a1))), (4, .long (shl_ ((ush_ a0 (1 : Int32)) / a1) (1 : Int32))), (0, .long a0), (2, .long a1)]) hx hb d_Wholes_unsignedQuotient_35 hl (by decide) rfl (fun ls hl => ?_)
    refine lv_lload hx hb d_Wholes_unsignedQuotient_37 (lv_at hl 0 rfl) ?_
    refine lv_lload_n hx hb d_Wholes_unsignedQuotient_39 rfl (lv_at hl 3 rfl) ?_
    refine si_ (As := [.long (a0 - ((shl_ ((ush_ a0 (1 : Int32)) / a1) (1 : Int32)) * a1)), .long a1]) (rest := []) hq (c_Long_compareUnsigned l A ad (a0 - ((shl_ ((ush_ a0 (1 : Int32)) / a1) (1 : Int32)) * a1)) a1) kB_Long_compareUnsigned wt_320 ⟨rfl, rfl, Nat.le_of_ble_eq_true rfl, Nat.le_of_ble_eq_true rfl⟩ rfl hl.1 rfl (Nat.le_of_ble_eq_true rfl) d_Wholes_unsignedQuotient_40 ⟨Nat.zero_le _, Nat.zero_le _⟩ ?_
    refine lv_if_ge (tgt := 51) hx hb d_Wholes_unsignedQuotient_43 (by decide) (fun c_2 => ?_) (fun c_2 => ?_)
    · refine lv_lload hx hb d_Wholes_unsignedQuotient_51 (lv_at hl 1 rfl) ?_
      refine lv_lconst (v := (1 : Int64)) hx hb d_Wholes_unsignedQuotient_53 (by decide) ?_
      refine lv_ladd hx hb d_Wholes_unsignedQuotient_54 ?_
      exact rl_ hx hb hr hk (by rw [q_Wholes_unsignedQuotient, if_pos c_1, if_pos c_2]) d_Wholes_unsignedQuotient_55
    · refine lv_lload hx hb d_Wholes_unsignedQuotient_46 (lv_at hl 1 rfl) ?_
      refine lv_goto (tgt := 55) hx hb d_Wholes_unsignedQuotient_48 (by decide) ?_
      exact rl_ hx hb hr hk (by rw [q_Wholes_unsignedQuotient, if_pos c_1, if_neg c_2]) d_Wholes_unsignedQuotient_55
  · rw [lg_cmp_ge] at c_1
    refine lv_lload_n hx hb d_Wholes_unsignedQuotient_6 rfl (lv_at hl 0 rfl) ?_
    refine lv_lload_n hx hb d_Wholes_unsignedQuotient_7 rfl (lv_at hl 1 rfl) ?_
    refine si_ (As := [.long a0, .long a1]) (rest := []) hq (c_Long_compareUnsigned l A ad a0 a1) kB_Long_compareUnsigned wt_320 ⟨rfl, rfl, Nat.le_of_ble_eq_true rfl, Nat.le_of_ble_eq_true rfl⟩ rfl hl.1 rfl (Nat.le_of_ble_eq_true rfl) d_Wholes_unsignedQuotient_8 ⟨Nat.zero_le _, Nat.zero_le _⟩ ?_
    refine lv_if_ge (tgt := 18) hx hb d_Wholes_unsignedQuotient_11 (by decide) (fun c_3 => ?_) (fun c_3 => ?_)
    · refine lv_lconst (v := (1 : Int64)) hx hb d_Wholes_unsignedQuotient_18 (by decide) ?_
      exact rl_ hx hb hr hk (by rw [q_Wholes_unsignedQuotient, if_neg c_1, if_pos c_3]) d_Wholes_unsignedQuotient_19
    · refine lv_lconst (v := (0 : Int64)) hx hb d_Wholes_unsignedQuotient_14 (by decide) ?_
      refine lv_goto (tgt := 19) hx hb d_Wholes_unsignedQuotient_15 (by decide) ?_
      exact rl_ hx hb hr hk (by rw [q_Wholes_unsignedQuotient, if_neg c_1, if_neg c_3]) d_Wholes_unsignedQuotient_19
def q_Wholes_turnedUp (a0 : Int32) (a1 : Int64) (a2 : Int32) : Int64 :=
  if a0 = (32 : Int32) then
    (Int32.toInt64 (q_Integer_rotateLeft (Int64.toInt32 a1) a2))
  else
    (q_Long_rotateLeft a1 a2)
theorem kB_Wholes_turnedUp : SB y_Wholes_turnedUp b_Wholes_turnedUp 4 (some .long) 3 := ⟨wt_373, wt_372, wt_51, by decide +kernel⟩
set_option maxHeartbeats 4000000 in
set_option maxRecDepth 100000 in
theorem c_Wholes_turnedUp (l : Launch) (A : Nat → Prop) (ad : Nat → Nat) (a0 : Int32) (a1 : Int64) (a2 : Int32) : Met l y_Wholes_turnedUp (Cond.code y_Wholes_turnedUp b_Wholes_turnedUp 4 (some .long) :: BT) ({ frames := 1, cells := 0, slots := 0, locals := 22 }) (PC A ad [.int a0, .long a1, .int a2]) (vp_Sl (fun r => r = q_Wholes_turnedUp a0 a1 a2)) 0 0 (fun _ => False) := by
  refine pm_ (by decide +kernel) (Nat.le_of_ble_eq_true rfl) ?_
  intro p e s m below meth c hq hr hk ls hl
  have hx := hq.1
  have hb := hq.2.1
  have hts := hq.2.2.2.2.1
  have hl : lv_has ls 4 [(0, .int a0), (1, .long a1), (3, .int a2)] := hl
  refine lv_iload_n hx hb d_Wholes_turnedUp_0 rfl (lv_at hl 0 rfl) ?_
  refine lv_bipush (v := (32 : Int32)) hx hb d_Wholes_turnedUp_1 (by decide) ?_
  refine lv_icmp_ne (tgt := 16) hx hb d_Wholes_turnedUp_3 (by decide) (fun c_1 => ?_) (fun c_1 => ?_)
  · refine lv_lload_n hx hb d_Wholes_turnedUp_16 rfl (lv_at hl 1 rfl) ?_
    refine lv_iload_n hx hb d_Wholes_turnedUp_17 rfl (lv_at hl 2 rfl) ?_
    refine sl_ (As := [.long a1, .int a2]) (rest := []) hq (c_Long_rotateLeft l A ad a1 a2) kB_Long_rotateLeft wt_377 ⟨rfl, rfl, Nat.le_of_ble_eq_true rfl, Nat.le_of_ble_eq_true rfl⟩ rfl hl.1 rfl (Nat.le_of_ble_eq_true rfl) d_Wholes_turnedUp_18 ⟨Nat.zero_le _, Nat.zero_le _⟩ ?_
    exact rl_ hx hb hr hk (by rw [q_Wholes_turnedUp, if_neg c_1]) d_Wholes_turnedUp_21
  · refine lv_lload_n hx hb d_Wholes_turnedUp_6 rfl (lv_at hl 1 rfl) ?_
    refine lv_l2i (v := (Int64.toInt32 a1)) hx hb d_Wholes_turnedUp_7 rfl ?_
    refine lv_iload_n hx hb d_Wholes_turnedUp_8 rfl (lv_at hl 2 rfl) ?_
    refine si_ (As := [.int (Int64.toInt32 a1), .int a2]) (rest := []) hq (c_Integer_rotateLeft l A ad (Int64.toInt32 a1) a2) kB_Integer_rotateLeft wt_374 ⟨rfl, rfl, Nat.le_of_ble_eq_true rfl, Nat.le_of_ble_eq_true rfl⟩ rfl hl.1 rfl (Nat.le_of_ble_eq_true rfl) d_Wholes_turnedUp_9 ⟨Nat.zero_le _, Nat.zero_le _⟩ ?_
    refine lv_i2l (v := (Int32.toInt64 (q_Integer_rotateLeft (Int64.toInt32 a1) a2))) hx hb d_Wholes_turnedUp_12 rfl ?_
    refine lv_goto (tgt := 21) hx hb d_Wholes_turnedUp_13 (by decide) ?_
    exact rl_ hx hb hr hk (by rw [q_Wholes_turnedUp, if_pos c_1]) d_Wholes_turnedUp_21
def q_Wholes_moved (a0 : Int32) (a1 : Int32) (a2 : Int64) (a3 : Int32) : Int64 :=
  if a0 = (116 : Int32) then
    (shl_ a2 a3)
  else
    if a0 = (117 : Int32) then
      (shr_ (q_Bits_signed a1 a2) a3)
    else
      if a0 = (118 : Int32) then
        (ush_ (q_Bits_lowest a1 a2) a3)
      else
        if a0 = (119 : Int32) then
          (q_Wholes_turnedUp a1 a2 a3)
        else
          (q_Wholes_turnedUp a1 a2 ((a1 - a3) &&& (a1 - (1 : Int32))))
theorem kB_Wholes_moved : SB y_Wholes_moved b_Wholes_moved 5 (some .long) 4 := ⟨wt_370, wt_369, wt_51, by decide +kernel⟩
set_option maxHeartbeats 4000000 in
set_option maxRecDepth 100000 in
theorem c_Wholes_moved (l : Launch) (A : Nat → Prop) (ad : Nat → Nat) (a0 : Int32) (a1 : Int32) (a2 : Int64) (a3 : Int32) : Met l y_Wholes_moved (Cond.code y_Wholes_moved b_Wholes_moved 5 (some .long) :: BT) ({ frames := 2, cells := 0, slots := 0, locals := 45 }) (PC A ad [.int a0, .int a1, .long a2, .int a3]) (vp_Sl (fun r => r = q_Wholes_moved a0 a1 a2 a3)) 0 0 (fun _ => False) := by
  refine pm_ (by decide +kernel) (Nat.le_of_ble_eq_true rfl) ?_
  intro p e s m below meth c hq hr hk ls hl
  have hx := hq.1
  have hb := hq.2.1
  have hts := hq.2.2.2.2.1
  have hl : lv_has ls 5 [(0, .int a0), (1, .int a1), (2, .long a2), (4, .int a3)] := hl
  refine lv_iload_n hx hb d_Wholes_moved_0 rfl (lv_at hl 0 rfl) ?_
  by_cases c_1 : a0 = (116 : Int32)
  · refine lv_tableIn (tgt := 32) hx hb d_Wholes_moved_1 (by rw [c_1]; decide) (by rw [c_1]; decide) (by rw [c_1]; rfl) (by decide) ?_
    refine lv_lload_n hx hb d_Wholes_moved_32 rfl (lv_at hl 2 rfl) ?_
    refine lv_iload hx hb d_Wholes_moved_33 (lv_at hl 3 rfl) ?_
    refine lv_lshl (v := (shl_ a2 a3)) hx hb d_Wholes_moved_35 rfl ?_
    exact rl_ hx hb hr hk (by rw [q_Wholes_moved, if_pos c_1]) d_Wholes_moved_36
  by_cases c_2 : a0 = (117 : Int32)
  · refine lv_tableIn (tgt := 37) hx hb d_Wholes_moved_1 (by rw [c_2]; decide) (by rw [c_2]; decide) (by rw [c_2]; rfl) (by decide) ?_
    refine lv_iload_n hx hb d_Wholes_moved_37 rfl (lv_at hl 1 rfl) ?_
    refine lv_lload_n hx hb d_Wholes_moved_38 rfl (lv_at hl 2 rfl) ?_
    refine sl_ (As := [.int a1, .long a2]) (rest := []) hq (c_Bits_signed l A ad a1 a2) kB_Bits_signed wt_344 ⟨rfl, rfl, Nat.le_of_ble_eq_true rfl, Nat.le_of_ble_eq_true rfl⟩ rfl hl.1 rfl (Nat.le_of_ble_eq_true rfl) d_Wholes_moved_39 ⟨Nat.zero_le _, Nat.zero_le _⟩ ?_
    refine lv_iload hx hb d_Wholes_moved_42 (lv_at hl 3 rfl) ?_
    refine lv_lshr (v := (shr_ (q_Bits_signed a1 a2) a3)) hx hb d_Wholes_moved_44 rfl ?_
    exact rl_ hx hb hr hk (by rw [q_Wholes_moved, if_neg c_1, if_pos c_2]) d_Wholes_moved_45
  by_cases c_3 : a0 = (118 : Int32)
  · refine lv_tableIn (tgt := 46) hx hb d_Wholes_moved_1 (by rw [c_3]; decide) (by rw [c_3]; decide) (by rw [c_3]; rfl) (by decide) ?_
    refine lv_iload_n hx hb d_Wholes_moved_46 rfl (lv_at hl 1 rfl) ?_
    refine lv_lload_n hx hb d_Wholes_moved_47 rfl (lv_at hl 2 rfl) ?_
    refine sl_ (As := [.int a1, .long a2]) (rest := []) hq (c_Bits_lowest l A ad a1 a2) kB_Bits_lowest wt_324 ⟨rfl, rfl, Nat.le_of_ble_eq_true rfl, Nat.le_of_ble_eq_true rfl⟩ rfl hl.1 rfl (Nat.le_of_ble_eq_true rfl) d_Wholes_moved_48 ⟨Nat.zero_le _, Nat.zero_le _⟩ ?_
    refine lv_iload hx hb d_Wholes_moved_51 (lv_at hl 3 rfl) ?_
    refine lv_lushr (v := (ush_ (q_Bits_lowest a1 a2) a3)) hx hb d_Wholes_moved_53 rfl ?_
    exact rl_ hx hb hr hk (by rw [q_Wholes_moved, if_neg c_1, if_neg c_2, if_pos c_3]) d_Wholes_moved_54
  by_cases c_4 : a0 = (119 : Int32)
  · refine lv_tableIn (tgt := 55) hx hb d_Wholes_moved_1 (by rw [c_4]; decide) (by rw [c_4]; decide) (by rw [c_4]; rfl) (by decide) ?_
    refine lv_iload_n hx hb d_Wholes_moved_55 rfl (lv_at hl 1 rfl) ?_
    refine lv_lload_n hx hb d_Wholes_moved_56 rfl (lv_at hl 2 rfl) ?_
    refine lv_iload hx hb d_Wholes_moved_57 (lv_at hl 3 rfl) ?_
    refine sl_ (As := [.int a1, .long a2, .int a3]) (rest := []) hq (c_Wholes_turnedUp l A ad a1 a2 a3) kB_Wholes_turnedUp wt_371 ⟨rfl, rfl, Nat.le_of_ble_eq_true rfl, Nat.le_of_ble_eq_true rfl⟩ rfl hl.1 rfl (Nat.le_of_ble_eq_true rfl) d_Wholes_moved_59 ⟨Nat.zero_le _, Nat.zero_le _⟩ ?_
    exact rl_ hx hb hr hk (by rw [q_Wholes_moved, if_neg c_1, if_neg c_2, if_neg c_3, if_pos c_4]) d_Wholes_moved_62
  have hsw : a0.toInt < 116 ∨ 119 < a0.toInt := by
    have := lv_neT c_1 (a := 116) (by decide)
    have := lv_neT c_2 (a := 117) (by decide)
    have := lv_neT c_3 (a := 118) (by decide)
    have := lv_neT c_4 (a := 119) (by decide)
    omega
  refine lv_tableOut (tgt := 63) hx hb d_Wholes_moved_1 hsw (by decide) ?_
  refine lv_iload_n hx hb d_Wholes_moved_63 rfl (lv_at hl 1 rfl) ?_
  refine lv_lload_n hx hb d_Wholes_moved_64 rfl (lv_at hl 2 rfl) ?_
  refine lv_iload_n hx hb d_Wholes_moved_65 rfl (lv_at hl 1 rfl) ?_
  refine lv_iload hx hb d_Wholes_moved_66 (lv_at hl 3 rfl) ?_
  refine lv_isub hx hb d_Wholes_moved_68 ?_
  refine lv_iload_n hx hb d_Wholes_moved_69 rfl (lv_at hl 1 rfl) ?_
  refine lv_iconst (v := (1 : Int32)) hx hb d_Wholes_moved_70 (by decide) ?_
  refine lv_isub hx hb d_Wholes_moved_71 ?_
  refine lv_iand hx hb d_Wholes_moved_72 ?_
  refine sl_ (As := [.int a1, .long a2, .int ((a1 - a3) &&& (a1 - (1 : Int32)))]) (rest := []) hq (c_Wholes_turnedUp l A ad a1 a2 ((a1 - a3) &&& (a1 - (1 : Int32)))) kB_Wholes_turnedUp wt_371 ⟨rfl, rfl, Nat.le_of_ble_eq_true rfl, Nat.le_of_ble_eq_true rfl⟩ rfl hl.1 rfl (Nat.le_of_ble_eq_true rfl) d_Wholes_moved_73 ⟨Nat.zero_le _, Nat.zero_le _⟩ ?_
  exact rl_ hx hb hr hk (by rw [q_Wholes_moved, if_neg c_1, if_neg c_2, if_neg c_3, if_neg c_4]) d_Wholes_moved_76
