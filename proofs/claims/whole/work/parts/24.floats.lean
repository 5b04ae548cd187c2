def q_Floats_asWhole (j0 : Nat) (a1 : Int64) : Int64 :=
  if (q_Form_sign j0 a1) = (0 : Int64) then
    a1
  else
    (-(q_Form_withoutSign j0 a1))
theorem kB_Floats_asWhole : SB y_Floats_asWhole b_Floats_asWhole 3 (some .long) 2 := ⟨wt_392, wt_391, wt_53, by decide +kernel⟩
set_option maxHeartbeats 4000000 in
set_option maxRecDepth 100000 in
theorem c_Floats_asWhole (l : Launch) (A : Nat → Prop) (ad : Nat → Nat) (j0 : Nat) (hj0 : j0 < 2) (a1 : Int64) : Met l y_Floats_asWhole (Cond.code y_Floats_asWhole b_Floats_asWhole 3 (some .long) :: BT) ({ frames := 1, cells := 0, slots := 0, locals := 22 }) (PC A ad [.ref (ad j0), .long a1]) (vp_Sl (fun r => r = q_Floats_asWhole j0 a1)) 0 0 (fun _ => False) := by
  refine pm_ (by decide +kernel) (Nat.le_of_ble_eq_true rfl) ?_
  intro p e s m below meth c hq hr hk ls hl
  have hx := hq.1
  have hb := hq.2.1
  have hts := hq.2.2.2.2.1
  have hl : lv_has ls 3 [(0, .ref (ad j0)), (1, .long a1)] := hl
  refine lv_aload_n hx hb d_Floats_asWhole_0 rfl (lv_at hl 0 rfl) ?_
  refine lv_lload_n hx hb d_Floats_asWhole_1 rfl (lv_at hl 1 rfl) ?_
  refine vl_ (As := [.long a1]) (rest := []) hq hj0 (c_Form_sign l A ad j0 hj0 a1) kB_Form_sign wt_393 ⟨rfl, rfl, Nat.le_of_ble_eq_true rfl, Nat.le_of_ble_eq_true rfl⟩ rfl hl.1 rfl (Nat.le_of_ble_eq_true rfl) d_Floats_asWhole_2 ⟨Nat.zero_le _, Nat.zero_le _⟩ ?_
  refine lv_lconst (v := (0 : Int64)) hx hb d_Floats_asWhole_5 (by decide) ?_
  refine W.lcmp hx hb d_Floats_asWhole_6 ?_
  refine lv_if_ne (tgt := 14) hx hb d_Floats_asWhole_7 (by decide) (fun c_1 => ?_) (fun c_1 => ?_)
  · rw [lg_cmp_eq] at c_1
    refine lv_aload_n hx hb d_Floats_asWhole_14 rfl (lv_at hl 0 rfl) ?_
    refine lv_lload_n hx hb d_Floats_asWhole_15 rfl (lv_at hl 1 rfl) ?_
    refine vl_ (As := [.long a1]) (rest := []) hq hj0 (c_Form_withoutSign l A ad j0 hj0 a1) kB_Form_withoutSign wt_394 ⟨rfl, rfl, Nat.le_of_ble_eq_true rfl, Nat.le_of_ble_eq_true rfl⟩ rfl hl.1 rfl (Nat.le_of_ble_eq_true rfl) d_Floats_asWhole_16 ⟨Nat.zero_le _, Nat.zero_le _⟩ ?_
    refine lv_lneg hx hb d_Floats_asWhole_19 ?_
    exact rl_ hx hb hr hk (by rw [q_Floats_asWhole, if_neg c_1]) d_Floats_asWhole_20
  · rw [lg_cmp_eq] at c_1
    refine lv_lload_n hx hb d_Floats_asWhole_10 rfl (lv_at hl 1 rfl) ?_
    refine lv_goto (tgt := 20) hx hb d_Floats_asWhole_11 (by decide) ?_
    exact rl_ hx hb hr hk (by rw [q_Floats_asWhole, if_pos c_1]) d_Floats_asWhole_20
def q_Floats_test (a0 : Int32) (j1 : Nat) (a2 : Int64) (a3 : Int64) : Int32 :=
  if (q_Form_isNoNumber j1 a2) = 0 then
    if (q_Form_isNoNumber j1 a3) = 0 then
      if a0 = (91 : Int32) then
        if (q_Floats_asWhole j1 a2) = (q_Floats_asWhole j1 a3) then
          (1 : Int32)
        else
          (0 : Int32)
      else
        if a0 = (92 : Int32) then
          if (q_Floats_asWhole j1 a2) = (q_Floats_asWhole j1 a3) then
            (0 : Int32)
          else
            (1 : Int32)
        else
          if a0 = (93 : Int32) then
            if (q_Floats_asWhole j1 a3) ≤ (q_Floats_asWhole j1 a2) then
              (0 : Int32)
            else
              (1 : Int32)
          else
            if a0 = (94 : Int32) then
              if (q_Floats_asWhole j1 a2) ≤ (q_Floats_asWhole j1 a3) then
                (0 : Int32)
              else
                (1 : Int32)
            else
              if a0 = (95 : Int32) then
                if (q_Floats_asWhole j1 a3) < (q_Floats_asWhole j1 a2) then
                  (0 : Int32)
                else
                  (1 : Int32)
              else
                if (q_Floats_asWhole j1 a2) < (q_Floats_asWhole j1 a3) then
                  (0 : Int32)
                else
                  (1 : Int32)
    else
      if a0 = (92 : Int32) then
        (1 : Int32)
      else
        (0 : Int32)
  else
    if a0 = (92 : Int32) then
      (1 : Int32)
    else
      (0 : Int32)
theorem kB_Floats_test : SB y_Floats_test b_Floats_test 10 (some .boolean) 4 := ⟨wt_388, wt_387, wt_53, by decide +kernel⟩
set_option maxHeartbeats 4000000 in
set_option maxRecDepth 100000 in
theorem c_Floats_test (l : Launch) (A : Nat → Prop) (ad : Nat → Nat) (a0 : Int32) (j1 : Nat) (hj1 : j1 < 2) (a2 : Int64) (a3 : Int64) : Met l y_Floats_test (Cond.code y_Floats_test b_Floats_test 10 (some .boolean) :: BT) ({ frames := 2, cells := 0, slots := 0, locals := 44 }) (PC A ad [.int a0, .ref (ad j1), .long a2, .long a3]) (vp_Si (fun r => r = q_Floats_test a0 j1 a2 a3)) 0 0 (fun _ => False) := by
  refine pm_ (by decide +kernel) (Nat.le_of_ble_eq_true rfl) ?_
  intro p e s m below meth c hq hr hk ls hl
  have hx := hq.1
  have hb := hq.2.1
  have hts := hq.2.2.2.2.1
  have hl : lv_has ls 10 [(0, .int a0), (1, .ref (ad j1)), (2, .long a2), (4, .long a3)] := hl
  refine lv_aload_n hx hb d_Floats_test_0 rfl (lv_at hl 1 rfl) ?_
  refine lv_lload_n hx hb d_Floats_test_1 rfl (lv_at hl 2 rfl) ?_
  refine vi_ (As := [.long a2]) (rest := []) hq hj1 (c_Form_isNoNumber l A ad j1 hj1 a2) kB_Form_isNoNumber wt_389 ⟨rfl, rfl, Nat.le_of_ble_eq_true rfl, Nat.le_of_ble_eq_true rfl⟩ rfl hl.1 rfl (Nat.le_of_ble_eq_true rfl) d_Floats_test_2 ⟨Nat.zero_le _, Nat.zero_le _⟩ ?_
  refine lv_if_ne (tgt := 17) hx hb d_Floats_test_5 (by decide) (fun c_1 => ?_) (fun c_1 => ?_)
  · refine lv_iload_n hx hb d_Floats_test_17 rfl (lv_at hl 0 rfl) ?_
    refine lv_bipush (v := (92 : Int32)) hx hb d_Floats_test_18 (by decide) ?_
    refine lv_icmp_ne (tgt := 27) hx hb d_Floats_test_20 (by decide) (fun c_2 => ?_) (fun c_2 => ?_)
    · refine lv_iconst (v := (0 : Int32)) hx hb d_Floats_test_27 (by decide) ?_
      exact rz_ hx hb hr hk (by decide) (by rw [q_Floats_test, if_neg c_1, if_neg c_2]) d_Floats_test_28
    · refine lv_iconst (v := (1 : Int32)) hx hb d_Floats_test_23 (by decide) ?_
      refine lv_goto (tgt := 28) hx hb d_Floats_test_24 (by decide) ?_
      exact rz_ hx hb hr hk (by decide) (by rw [q_Floats_test, if_neg c_1, if_pos c_2]) d_Floats_test_28
  · refine lv_aload_n hx hb d_Floats_test_8 rfl (lv_at hl 1 rfl) ?_
    refine lv_lload hx hb d_Floats_test_9 (lv_at hl 3 rfl) ?_
    refine vi_ (As := [.long a3]) (rest := []) hq hj1 (c_Form_isNoNumber l A ad j1 hj1 a3) kB_Form_isNoNumber wt_389 ⟨rfl, rfl, Nat.le_of_ble_eq_true rfl, Nat.le_of_ble_eq_true rfl⟩ rfl hl.1 rfl (Nat.le_of_ble_eq_true rfl) d_Floats_test_11 ⟨Nat.zero_le _, Nat.zero_le _⟩ ?_
    refine lv_if_eq (tgt := 29) hx hb d_Floats_test_14 (by decide) (fun c_3 => ?_) (fun c_3 => ?_)
    · refine lv_aload_n hx hb d_Floats_test_29 rfl (lv_at hl 1 rfl) ?_
      refine lv_lload_n hx hb d_Floats_test_30 rfl (lv_at hl 2 rfl) ?_
      refine sl_ (As := [.ref (ad j1), .long a2]) (rest := []) hq (c_Floats_asWhole l A ad j1 hj1 a2) kB_Floats_asWhole wt_390 ⟨rfl, rfl, Nat.le_of_ble_eq_true rfl, Nat.le_of_ble_eq_true rfl⟩ rfl hl.1 rfl (Nat.le_of_ble_eq_true rfl) d_Floats_test_31 ⟨Nat.zero_le _, Nat.zero_le _⟩ ?_
      refine lv_lstore (lv' := [(6, .long (q_Floats_asWhole j1 a2)), (0, .int a0), (1, .ref (ad j1)), (2, .long a2), (4, .long a3)]) hx hb d_Floats_test_34 hl (by decide) rfl (fun ls hl => ?_)
      refine lv_aload_n hx hb d_Floats_test_36 rfl (lv_at hl 2 rfl) ?_
      refine lv_lload hx hb d_Floats_test_37 (lv_at hl 4 rfl) ?_
      refine sl_ (As := [.ref (ad j1), .long a3]) (rest := []) hq (c_Floats_asWhole l A ad j1 hj1 a3) kB_Floats_asWhole wt_390 ⟨rfl, rfl, Nat.le_of_ble_eq_true rfl, Nat.le_of_ble_eq_true rfl⟩ rfl hl.1 rfl (Nat.le_of_ble_eq_true rfl) d_Floats_test_39 ⟨Nat.zero_le _, Nat.zero_le _⟩ ?_
      refine lv_lstore (lv' := [(8, .long (q_Floats_asWhole j1 a3)), (6, .long (q_Floats_asWhole j1 a2)), (0, .int a0), (1, .ref (ad j1)), (2, .long a2), (4, .long a3)]) hx hb d_Floats_test_42 hl (by decide) rfl (fun ls hl => ?_)
      refine lv_iload_n hx hb d_Floats_test_44 rfl (lv_at hl 2 rfl) ?_
      by_cases c_4 : a0 = (91 : Int32)
      · refine lv_tableIn (tgt := 80) hx hb d_Floats_test_45 (by rw [c_4]; decide) (by rw [c_4]; decide) (by rw [c_4]; rfl) (by decide) ?_
        refine lv_lload hx hb d_Floats_test_80 (lv_at hl 1 rfl) ?_
        refine lv_lload hx hb d_Floats_test_82 (lv_at hl 0 rfl) ?_
        refine W.lcmp hx hb d_Floats_test_84 ?_
        refine lv_if_ne (tgt := 92) hx hb d_Floats_test_85 (by decide) (fun c_5 => ?_) (fun c_5 => ?_)
        · rw [lg_cmp_eq] at c_5
          refine lv_iconst (v := (0 : Int32)) hx hb d_Floats_test_92 (by decide) ?_
          exact rz_ hx hb hr hk (by decide) (by rw [q_Floats_test, if_pos c_1, if_pos c_3, if_pos c_4, if_neg c_5]) d_Floats_test_93
        · rw [lg_cmp_eq] at c_5
          refine lv_iconst (v := (1 : Int32)) hx hb d_Floats_test_88 (by decide) ?_
          refine lv_goto (tgt := 93) hx hb d_Floats_test_89 (by decide) ?_
          exact rz_ hx hb hr hk (by decide) (by rw [q_Floats_test, if_pos c_1, if_pos c_3, if_pos c_4, if_pos c_5]) d_Floats_test_93
      by_cases c_6 : a0 = (92 : Int32)
      · refine lv_tableIn (tgt := 94) hx hb d_Floats_test_45 (by rw [c_6]; decide) (by rw [c_6]; decide) (by rw [c_6]; rfl) (by decide) ?_
        refine lv_lload hx hb d_Floats_test_94 (lv_at hl 1 rfl) ?_
        refine lv_lload hx hb d_Floats_test_96 (lv_at hl 0 rfl) ?_
        refine W.lcmp hx hb d_Floats_test_98 ?_
        refine lv_if_eq (tgt := 106) hx hb d_Floats_test_99 (by decide) (fun c_7 => ?_) (fun c_7 => ?_)
        · rw [lg_cmp_eq] at c_7
          refine lv_iconst (v := (0 : Int32)) hx hb d_Floats_test_106 (by decide) ?_
          exact rz_ hx hb hr hk (by decide) (by rw [q_Floats_test, if_pos c_1, if_pos c_3, if_neg c_4, if_pos c_6, if_pos c_7]) d_Floats_test_107
        · rw [lg_cmp_eq] at c_7
          refine lv_iconst (v := (1 : Int32)) hx hb d_Floats_test_102 (by decide) ?_
          refine lv_goto (tgt := 107) hx hb d_Floats_test_103 (by decide) ?_
          exact rz_ hx hb hr hk (by decide) (by rw [q_Floats_test, if_pos c_1, if_pos c_3, if_neg c_4, if_pos c_6, if_neg c_7]) d_Floats_test_107
      by_cases c_8 : a0 = (93 : Int32)
      · refine lv_tableIn (tgt := 108) hx hb d_Floats_test_45 (by rw [c_8]; decide) (by rw [c_8]; decide) (by rw [c_8]; rfl) (by decide) ?_
        refine lv_lload hx hb d_Floats_test_108 (lv_at hl 1 rfl) ?_
        refine lv_lload hx hb d_Floats_test_110 (lv_at hl 0 rfl) ?_
        refine W.lcmp hx hb d_Floats_test_112 ?_
        refine lv_if_ge (tgt := 120) hx hb d_Floats_test_113 (by decide) (fun c_9 => ?_) (fun c_9 => ?_)
        · rw [lg_cmp_ge] at c_9
          refine lv_iconst (v := (0 : Int32)) hx hb d_Floats_test_120 (by decide) ?_
          exact rz_ hx hb hr hk (by decide) (by rw [q_Floats_test, if_pos c_1, if_pos c_3, if_neg c_4, if_neg c_6, if_pos c_8, if_pos c_9]) d_Floats_test_121
        · rw [lg_cmp_ge] at c_9
          refine lv_iconst (v := (1 : Int32)) hx hb d_Floats_test_116 (by decide) ?_
          refine lv_goto (tgt := 121) hx hb d_Floats_test_117 (by decide) ?_
          exact rz_ hx hb hr hk (by decide) (by rw [q_Floats_test, if_pos c_1, if_pos c_3, if_neg c_4, if_neg c_6, if_pos c_8, if_neg c_9]) d_Floats_test_121
      by_cases c_10 : a0 = (94 : Int32)
      · refine lv_tableIn (tgt := 122) hx hb d_Floats_test_45 (by rw [c_10]; decide) (by rw [c_10]; decide) (by rw [c_10]; rfl) (by decide) ?_
        refine lv_lload hx hb d_Floats_test_122 (lv_at hl 1 rfl) ?_
        refine lv_lload hx hb d_Floats_test_124 (lv_at hl 0 rfl) ?_
        refine W.lcmp hx hb d_Floats_test_126 ?_
        refine lv_if_le (tgt := 134) hx hb d_Floats_test_127 (by decide) (fun c_11 => ?_) (fun c_11 => ?_)
        · rw [lg_cmp_le] at c_11
          refine lv_iconst (v := (0 : Int32)) hx hb d_Floats_test_134 (by decide) ?_
          exact rz_ hx hb hr hk (by decide) (by rw [q_Floats_test, if_pos c_1, if_pos c_3, if_neg c_4, if_neg c_6, if_neg c_8, if_pos c_10, if_pos c_11]) d_Floats_test_135
        · rw [lg_cmp_le] at c_11
          refine lv_iconst (v := (1 : Int32)) hx hb d_Floats_test_130 (by decide) ?_
          refine lv_goto (tgt := 135) hx hb d_Floats_test_131 (by decide) ?_
          exact rz_ hx hb hr hk (by decide) (by rw [q_Floats_test, if_pos c_1, if_pos c_3, if_neg c_4, if_neg c_6, if_neg c_8, if_pos c_10, if_neg c_11]) d_Floats_test_135
      by_cases c_12 : a0 = (95 : Int32)
      · refine lv_tableIn (tgt := 136) hx hb d_Floats_test_45 (by rw [c_12]; decide) (by rw [c_12]; decide) (by rw [c_12]; rfl) (by decide) ?_
        refine lv_lload hx hb d_Floats_test_136 (lv_at hl 1 rfl) ?_
        refine lv_lload hx hb d_Floats_test_138 (lv_at hl 0 rfl) ?_
        refine W.lcmp hx hb d_Floats_test_140 ?_
        refine lv_if_gt (tgt := 148) hx hb d_Floats_test_141 (by decide) (fun c_13 => ?_) (fun c_13 => ?_)
        · rw [lg_cmp_gt] at c_13
          refine lv_iconst (v := (0 : Int32)) hx hb d_Floats_test_148 (by decide) ?_
          exact rz_ hx hb hr hk (by decide) (by rw [q_Floats_test, if_pos c_1, if_pos c_3, if_neg c_4, if_neg c_6, if_neg c_8, if_neg c_10, if_pos c_12, if_pos c_13]) d_Floats_test_149
        · rw [lg_cmp_gt] at c_13
          refine lv_iconst (v := (1 : Int32)) hx hb d_Floats_test_144 (by decide) ?_
          refine lv_goto (tgt := 149) hx hb d_Floats_test_145 (by decide) ?_
          exact rz_ hx hb hr hk (by decide) (by rw [q_Floats_test, if_pos c_1, if_pos c_3, if_neg c_4, if_neg c_6, if_neg c_8, if_neg c_10, if_pos c_12, if_neg c_13]) d_Floats_test_149
      have hsw : a0.toInt < 91 ∨ 95 < a0.toInt := by
        have := lv_neT c_4 (a := 91) (by decide)
        have := lv_neT c_6 (a := 92) (by decide)
        have := lv_neT c_8 (a := 93) (by decide)
        have := lv_neT c_10 (a := 94) (by decide)
        have := lv_neT c_12 (a := 95) (by decide)
        omega
      refine lv_tableOut (tgt := 150) hx hb d_Floats_test_45 hsw (by decide) ?_
      refine lv_lload hx hb d_Floats_test_150 (lv_at hl 1 rfl) ?_
      refine lv_lload hx hb d_Floats_test_152 (lv_at hl 0 rfl) ?_
      refine W.lcmp hx hb d_Floats_test_154 ?_
      refine lv_if_lt (tgt := 162) hx hb d_Floats_test_155 (by decide) (fun c_14 => ?_) (fun c_14 => ?_)
      · rw [lg_cmp_lt] at c_14
        refine lv_iconst (v := (0 : Int32)) hx hb d_Floats_test_162 (by decide) ?_
        exact rz_ hx hb hr hk (by decide) (by rw [q_Floats_test, if_pos c_1, if_pos c_3, if_neg c_4, if_neg c_6, if_neg c_8, if_neg c_10, if_neg c_12, if_pos c_14]) d_Floats_test_163
      · rw [lg_cmp_lt] at c_14
        refine lv_iconst (v := (1 : Int32)) hx hb d_Floats_test_158 (by decide) ?_
        refine lv_goto (tgt := 163) hx hb d_Floats_test_159 (by decide) ?_
        exact rz_ hx hb hr hk (by decide) (by rw [q_Floats_test, if_pos c_1, if_pos c_3, if_neg c_4, if_neg c_6, if_neg c_8, if_neg c_10, if_neg c_12, if_neg c_14]) d_Floats_test_163
    · refine lv_iload_n hx hb d_Floats_test_17 rfl (lv_at hl 0 rfl) ?_
      refine lv_bipush (v := (92 : Int32)) hx hb d_Floats_test_18 (by decide) ?_
      refine lv_icmp_ne (tgt := 27) hx hb d_Floats_test_20 (by decide) (fun c_15 => ?_) (fun c_15 => ?_)
      · refine lv_iconst (v := (0 : Int32)) hx hb d_Floats_test_27 (by decide) ?_
        exact rz_ hx hb hr hk (by decide) (by rw [q_Floats_test, if_pos c_1, if_neg c_3, if_neg c_15]) d_Floats_test_28
      · refine lv_iconst (v := (1 : Int32)) hx hb d_Floats_test_23 (by decide) ?_
        refine lv_goto (tgt := 28) hx hb d_Floats_test_24 (by decide) ?_
        exact rz_ hx hb hr hk (by decide) (by rw [q_Floats_test, if_pos c_1, if_neg c_3, if_pos c_15]) d_Floats_test_28
def q_Floats_isBelow (j0 : Nat) (a1 : Int64) (a2 : Int64) : Int32 :=
  if (q_Form_isZero j0 a1) = 0 then
    if (q_Floats_asWhole j0 a2) ≤ (q_Floats_asWhole j0 a1) then
      (0 : Int32)
    else
      (1 : Int32)
  else
    if (q_Form_isZero j0 a2) = 0 then
      if (q_Floats_asWhole j0 a2) ≤ (q_Floats_asWhole j0 a1) then
        (0 : Int32)
      else
        (1 : Int32)
    else
      if (q_Form_sign j0 a1) = (0 : Int64) then
        (0 : Int32)
      else
        if (q_Form_sign j0 a2) = (0 : Int64) then
          (1 : Int32)
        else
          (0 : Int32)
theorem kB_Floats_isBelow : SB y_Floats_isBelow b_Floats_isBelow 5 (some .boolean) 3 := ⟨wt_444, wt_443, wt_53, by decide +kernel⟩
set_option maxHeartbeats 4000000 in
set_option maxRecDepth 100000 in
theorem c_Floats_isBelow (l : Launch) (A : Nat → Prop) (ad : Nat → Nat) (j0 : Nat) (hj0 : j0 < 2) (a1 : Int64) (a2 : Int64) : Met l y_Floats_isBelow (Cond.code y_Floats_isBelow b_Floats_isBelow 5 (some .boolean) :: BT) ({ frames := 2, cells := 0, slots := 0, locals := 44 }) (PC A ad [.ref (ad j0), .long a1, .long a2]) (vp_Si (fun r => r = q_Floats_isBelow j0 a1 a2)) 0 0 (fun _ => False) := by
  refine pm_ (by decide +kernel) (Nat.le_of_ble_eq_true rfl) ?_
  intro p e s m below meth c hq hr hk ls hl
  have hx := hq.1
  have hb := hq.2.1
  have hts := hq.2.2.2.2.1
  have hl : lv_has ls 5 [(0, .ref (ad j0)), (1, .long a1), (3, .long a2)] := hl
  refine lv_aload_n hx hb d_Floats_isBelow_0 rfl (lv_at hl 0 rfl) ?_
  refine lv_lload_n hx hb d_Floats_isBelow_1 rfl (lv_at hl 1 rfl) ?_
  refine vi_ (As := [.long a1]) (rest := []) hq hj0 (c_Form_isZero l A ad j0 hj0 a1) kB_Form_isZero wt_401 ⟨rfl, rfl, Nat.le_of_ble_eq_true rfl, Nat.le_of_ble_eq_true rfl⟩ rfl hl.1 rfl (Nat.le_of_ble_eq_true rfl) d_Floats_isBelow_2 ⟨Nat.zero_le _, Nat.zero_le _⟩ ?_
  refine lv_if_eq (tgt := 42) hx hb d_Floats_isBelow_5 (by decide) (fun c_1 => ?_) (fun c_1 => ?_)
  · refine lv_aload_n hx hb d_Floats_isBelow_42 rfl (lv_at hl 0 rfl) ?_
    refine lv_lload_n hx hb d_Floats_isBelow_43 rfl (lv_at hl 1 rfl) ?_
    refine sl_ (As := [.ref (ad j0), .long a1]) (rest := []) hq (c_Floats_asWhole l A ad j0 hj0 a1) kB_Floats_asWhole wt_390 ⟨rfl, rfl, Nat.le_of_ble_eq_true rfl, Nat.le_of_ble_eq_true rfl⟩ rfl hl.1 rfl (Nat.le_of_ble_eq_true rfl) d_Floats_isBelow_44 ⟨Nat.zero_le _, Nat.zero_le _⟩ ?_
    refine lv_aload_n hx hb d_Floats_isBelow_47 rfl (lv_at hl 0 rfl) ?_
    refine lv_lload_n hx hb d_Floats_isBelow_48 rfl (lv_at hl 2 rfl) ?_
    refine sl_ (As := [.ref (ad j0), .long a2]) (rest := [.long (q_Floats_asWhole j0 a1)]) hq (c_Floats_asWhole l A ad j0 hj0 a2) kB_Floats_asWhole wt_390 ⟨rfl, rfl, Nat.le_of_ble_eq_true rfl, Nat.le_of_ble_eq_true rfl⟩ rfl hl.1 rfl (Nat.le_of_ble_eq_true rfl) d_Floats_isBelow_49 ⟨Nat.zero_le _, Nat.zero_le _⟩ ?_
    refine W.lcmp hx hb d_Floats_isBelow_52 ?_
    refine lv_if_ge (tgt := 60) hx hb d_Floats_isBelow_53 (by decide) (fun c_2 => ?_) (fun c_2 => ?_)
    · rw [lg_cmp_ge] at c_2
      refine lv_iconst (v := (0 : Int32)) hx hb d_Floats_isBelow_60 (by decide) ?_
      exact rz_ hx hb hr hk (by decide) (by rw [q_Floats_isBelow, if_pos c_1, if_pos c_2]) d_Floats_isBelow_61
    · rw [lg_cmp_ge] at c_2
      refine lv_iconst (v := (1 : Int32)) hx hb d_Floats_isBelow_56 (by decide) ?_
      refine lv_goto (tgt := 61) hx hb d_Floats_isBelow_57 (by decide) ?_
      exact rz_ hx hb hr hk (by decide) (by rw [q_Floats_isBelow, if_pos c_1, if_neg c_2]) d_Floats_isBelow_61
  · refine lv_aload_n hx hb d_Floats_isBelow_8 rfl (lv_at hl 0 rfl) ?_
    refine lv_lload_n hx hb d_Floats_isBelow_9 rfl (lv_at hl 2 rfl) ?_
    refine vi_ (As := [.long a2]) (rest := []) hq hj0 (c_Form_isZero l A ad j0 hj0 a2) kB_Form_isZero wt_401 ⟨rfl, rfl, Nat.le_of_ble_eq_true rfl, Nat.le_of_ble_eq_true rfl⟩ rfl hl.1 rfl (Nat.le_of_ble_eq_true rfl) d_Floats_isBelow_10 ⟨Nat.zero_le _, Nat.zero_le _⟩ ?_
    refine lv_if_eq (tgt := 42) hx hb d_Floats_isBelow_13 (by decide) (fun c_3 => ?_) (fun c_3 => ?_)
    · refine lv_aload_n hx hb d_Floats_isBelow_42 rfl (lv_at hl 0 rfl) ?_
      refine lv_lload_n hx hb d_Floats_isBelow_43 rfl (lv_at hl 1 rfl) ?_
      refine sl_ (As := [.ref (ad j0), .long a1]) (rest := []) hq (c_Floats_asWhole l A ad j0 hj0 a1) kB_Floats_asWhole wt_390 ⟨rfl, rfl, Nat.le_of_ble_eq_true rfl, Nat.le_of_ble_eq_true rfl⟩ rfl hl.1 rfl (Nat.le_of_ble_eq_true rfl) d_Floats_isBelow_44 ⟨Nat.zero_le _, Nat.zero_le _⟩ ?_
      refine lv_aload_n hx hb d_Floats_isBelow_47 rfl (lv_at hl 0 rfl) ?_
      refine lv_lload_n hx hb d_Floats_isBelow_48 rfl (lv_at hl 2 rfl) ?_
      refine sl_ (As := [.ref (ad j0), .long a2]) (rest := [.long (q_Floats_asWhole j0 a1)]) hq (c_Floats_asWhole l A ad j0 hj0 a2) kB_Floats_asWhole wt_390 ⟨rfl, rfl, Nat.le_of_ble_eq_true rfl, Nat.le_of_ble_eq_true rfl⟩ rfl hl.1 rfl (Nat.le_of_ble_eq_true rfl) d_Floats_isBelow_49 ⟨Nat.zero_le _, Nat.zero_le _⟩ ?_
      refine W.lcmp hx hb d_Floats_isBelow_52 ?_
      refine lv_if_ge (tgt := 60) hx hb d_Floats_isBelow_53 (by decide) (fun c_4 => ?_) (fun c_4 => ?_)
      · rw [lg_cmp_ge] at c_4
        refine lv_iconst (v := (0 : Int32)) hx hb d_Floats_isBelow_60 (by decide) ?_
        exact rz_ hx hb hr hk (by decide) (by rw [q_Floats_isBelow, if_neg c_1, if_pos c_3, if_pos c_4]) d_Floats_isBelow_61
      · rw [lg_cmp_ge] at c_4
        refine lv_iconst (v := (1 : Int32)) hx hb d_Floats_isBelow_56 (by decide) ?_
        refine lv_goto (tgt := 61) hx hb d_Floats_isBelow_57 (by decide) ?_
        exact rz_ hx hb hr hk (by decide) (by rw [q_Floats_isBelow, if_neg c_1, if_pos c_3, if_neg c_4]) d_Floats_isBelow_61
    · refine lv_aload_n hx hb d_Floats_isBelow_16 rfl (lv_at hl 0 rfl) ?_
      refine lv_lload_n hx hb d_Floats_isBelow_17 rfl (lv_at hl 1 rfl) ?_
      refine vl_ (As := [.long a1]) (rest := []) hq hj0 (c_Form_sign l A ad j0 hj0 a1) kB_Form_sign wt_393 ⟨rfl, rfl, Nat.le_of_ble_eq_true rfl, Nat.le_of_ble_eq_true rfl⟩ rfl hl.1 rfl (Nat.le_of_ble_eq_true rfl) d_Floats_isBelow_18 ⟨Nat.zero_le _, Nat.zero_le _⟩ ?_
      refine lv_lconst (v := (0 : Int64)) hx hb d_Floats_isBelow_21 (by decide) ?_
      refine W.lcmp hx hb d_Floats_isBelow_22 ?_
      refine lv_if_eq (tgt := 40) hx hb d_Floats_isBelow_23 (by decide) (fun c_5 => ?_) (fun c_5 => ?_)
      · rw [lg_cmp_eq] at c_5
        refine lv_iconst (v := (0 : Int32)) hx hb d_Floats_isBelow_40 (by decide) ?_
        exact rz_ hx hb hr hk (by decide) (by rw [q_Floats_isBelow, if_neg c_1, if_neg c_3, if_pos c_5]) d_Floats_isBelow_41
      · rw [lg_cmp_eq] at c_5
        refine lv_aload_n hx hb d_Floats_isBelow_26 rfl (lv_at hl 0 rfl) ?_
        refine lv_lload_n hx hb d_Floats_isBelow_27 rfl (lv_at hl 2 rfl) ?_
        refine vl_ (As := [.long a2]) (rest := []) hq hj0 (c_Form_sign l A ad j0 hj0 a2) kB_Form_sign wt_393 ⟨rfl, rfl, Nat.le_of_ble_eq_true rfl, Nat.le_of_ble_eq_true rfl⟩ rfl hl.1 rfl (Nat.le_of_ble_eq_true rfl) d_Floats_isBelow_28 ⟨Nat.zero_le _, Nat.zero_le _⟩ ?_
        refine lv_lconst (v := (0 : Int64)) hx hb d_Floats_isBelow_31 (by decide) ?_
        refine W.lcmp hx hb d_Floats_isBelow_32 ?_
        refine lv_if_ne (tgt := 40) hx hb d_Floats_isBelow_33 (by decide) (fun c_6 => ?_) (fun c_6 => ?_)
        · rw [lg_cmp_eq] at c_6
          refine lv_iconst (v := (0 : Int32)) hx hb d_Floats_isBelow_40 (by decide) ?_
          exact rz_ hx hb hr hk (by decide) (by rw [q_Floats_isBelow, if_neg c_1, if_neg c_3, if_neg c_5, if_neg c_6]) d_Floats_isBelow_41
        · rw [lg_cmp_eq] at c_6
          refine lv_iconst (v := (1 : Int32)) hx hb d_Floats_isBelow_36 (by decide) ?_
          refine lv_goto (tgt := 41) hx hb d_Floats_isBelow_37 (by decide) ?_
          exact rz_ hx hb hr hk (by decide) (by rw [q_Floats_isBelow, if_neg c_1, if_neg c_3, if_neg c_5, if_pos c_6]) d_Floats_isBelow_41
def q_Floats_finiteSum (j0 : Nat) (a1 : Int64) (a2 : Int64) : Int64 :=
  if (q_Form_sign j0 a1) = (q_Form_sign j0 a2) then
    if ((shl_ (q_Form_significand j0 a1) (10 : Int32)) + (q_Bits_movedDown (shl_ (q_Form_significand j0 a2) (10 : Int32)) ((q_Form_scale j0 a1) - (q_Form_scale j0 a2)))) = (0 : Int64) then
      (q_Form_sign j0 (a1 &&& a2))
    else
      (q_Form_rounded j0 (q_Form_sign j0 a1) ((shl_ (q_Form_significand j0 a1) (10 : Int32)) + (q_Bits_movedDown (shl_ (q_Form_significand j0 a2) (10 : Int32)) ((q_Form_scale j0 a1) - (q_Form_scale j0 a2)))) ((q_Form_scale j0 a1) - (10 : Int32)))
  else
    if ((shl_ (q_Form_significand j0 a1) (10 : Int32)) - (q_Bits_movedDown (shl_ (q_Form_significand j0 a2) (10 : Int32)) ((q_Form_scale j0 a1) - (q_Form_scale j0 a2)))) = (0 : Int64) then
      (q_Form_sign j0 (a1 &&& a2))
    else
      (q_Form_rounded j0 (q_Form_sign j0 a1) ((shl_ (q_Form_significand j0 a1) (10 : Int32)) - (q_Bits_movedDown (shl_ (q_Form_significand j0 a2) (10 : Int32)) ((q_Form_scale j0 a1) - (q_Form_scale j0 a2)))) ((q_Form_scale j0 a1) - (10 : Int32)))
theorem kB_Floats_finiteSum : SB y_Floats_finiteSum b_Floats_finiteSum 12 (some .long) 3 := ⟨wt_424, wt_423, wt_53, by decide +kernel⟩
set_option maxHeartbeats 4000000 in
set_option maxRecDepth 100000 in
theorem c_Floats_finiteSum (l : Launch) (A : Nat → Prop) (ad : Nat → Nat) (j0 : Nat) (hj0 : j0 < 2) (a1 : Int64) (a2 : Int64) : Met l y_Floats_finiteSum (Cond.code y_Floats_finiteSum b_Floats_finiteSum 12 (some .long) :: BT) ({ frames := 3, cells := 0, slots := 0, locals := 78 }) (PC A ad [.ref (ad j0), .long a1, .long a2]) (vp_Sl (fun r => r = q_Floats_finiteSum j0 a1 a2)) 0 0 (fun _ => False) := by
  refine pm_ (by decide +kernel) (Nat.le_of_ble_eq_true rfl) ?_
  intro p e s m below meth c hq hr hk ls hl
  have hx := hq.1
  have hb := hq.2.1
  have hts := hq.2.2.2.2.1
  have hl : lv_has ls 12 [(0, .ref (ad j0)), (1, .long a1), (3, .long a2)] := hl
  refine lv_aload_n hx hb d_Floats_finiteSum_0 rfl (lv_at hl 0 rfl) ?_
  refine lv_lload_n hx hb d_Floats_finiteSum_1 rfl (lv_at hl 1 rfl) ?_
  refine vi_ (As := [.long a1]) (rest := []) hq hj0 (c_Form_scale l A ad j0 hj0 a1) kB_Form_scale wt_406 ⟨rfl, rfl, Nat.le_of_ble_eq_true rfl, Nat.le_of_ble_eq_true rfl⟩ rfl hl.1 rfl (Nat.le_of_ble_eq_true rfl) d_Floats_finiteSum_2 ⟨Nat.zero_le _, Nat.zero_le _⟩ ?_
  refine lv_istore (lv' := [(5, .int (q_Form_scale j0 a1)), (0, .ref (ad j0)), (1, .long a1), (3, .long a2)]) hx hb d_Floats_finiteSum_5 hl (by decide) rfl (fun ls hl => ?_)
  refine lv_aload_n hx hb d_Floats_finiteSum_7 rfl (lv_at hl 1 rfl) ?_
  refine lv_lload_n hx hb d_Floats_finiteSum_8 rfl (lv_at hl 2 rfl) ?_
  refine vl_ (As := [.long a1]) (rest := []) hq hj0 (c_Form_significand l A ad j0 hj0 a1) kB_Form_significand wt_407 ⟨rfl, rfl, Nat.le_of_ble_eq_true rfl, Nat.le_of_ble_eq_true rfl⟩ rfl hl.1 rfl (Nat.le_of_ble_eq_true rfl) d_Floats_finiteSum_9 ⟨Nat.zero_le _, Nat.zero_le _⟩ ?_
  refine lv_bipush (v := (10 : Int32)) hx hb d_Floats_finiteSum_12 (by decide) ?_
  refine lv_lshl (v := (shl_ (q_Form_significand j0 a1) (10 : Int32))) hx hb d_Floats_finiteSum_14 rfl ?_
  refine lv_lstore (lv' := [(6, .long (shl_ (q_Form_significand j0 a1) (10 : Int32))), (5, .int (q_Form_scale j0 a1)), (0, .ref (ad j0)), (1, .long a1), (3, .long a2)]) hx hb d_Floats_finiteSum_15 hl (by decide) rfl (fun ls hl => ?_)
  refine lv_aload_n hx hb d_Floats_finiteSum_17 rfl (lv_at hl 2 rfl) ?_
  refine lv_lload_n hx hb d_Floats_finiteSum_18 rfl (lv_at hl 4 rfl) ?_
  refine vl_ (As := [.long a2]) (rest := []) hq hj0 (c_Form_significand l A ad j0 hj0 a2) kB_Form_significand wt_407 ⟨rfl, rfl, Nat.le_of_ble_eq_true rfl, Nat.le_of_ble_eq_true rfl⟩ rfl hl.1 rfl (Nat.le_of_ble_eq_true rfl) d_Floats_finiteSum_19 ⟨Nat.zero_le _, Nat.zero_le _⟩ ?_
  refine lv_bipush (v := (10 : Int32)) hx hb d_Floats_finiteSum_22 (by decide) ?_
  refine lv_lshl (v := (shl_ (q_Form_significand j0 a2) (10 : Int32))) hx hb d_Floats_finiteSum_24 rfl ?_
  refine lv_iload hx hb d_Floats_finiteSum_25 (lv_at hl 1 rfl) ?_
  refine lv_aload_n hx hb d_Floats_finiteSum_27 rfl (lv_at hl 2 rfl) ?_
  refine lv_lload_n hx hb d_Floats_finiteSum_28 rfl (lv_at hl 4 rfl) ?_
  refine vi_ (As := [.long a2]) (rest := [.int (q_Form_scale j0 a1), .long (shl_ (q_Form_significand j0 a2) (10 : Int32))]) hq hj0 (c_Form_scale l A ad j0 hj0 a2) kB_Form_scale wt_406 ⟨rfl, rfl, Nat.le_of_ble_eq_true rfl, Nat.le_of_ble_eq_true rfl⟩ rfl hl.1 rfl (Nat.le_of_ble_eq_true rfl) d_Floats_finiteSum_29 ⟨Nat.zero_le _, Nat.zero_le _⟩ ?_
  refine lv_isub hx hb d_Floats_finiteSum_32 ?_
  refine sl_ (As := [.long (shl_ (q_Form_significand j0 a2) (10 : Int32)), .int ((q_Form_scale j0 a1) - (q_Form_scale j0 a2))]) (rest := []) hq (c_Bits_movedDown l A ad (shl_ (q_Form_significand j0 a2) (10 : Int32)) ((q_Form_scale j0 a1) - (q_Form_scale j0 a2))) kB_Bits_movedDown wt_425 ⟨rfl, rfl, Nat.le_of_ble_eq_true rfl, Nat.le_of_ble_eq_true rfl⟩ rfl hl.1 rfl (Nat.le_of_ble_eq_true rfl) d_Floats_finiteSum_33 ⟨Nat.zero_le _, Nat.zero_le _⟩ ?_
  refine lv_lstore (lv' := [(8, .long (q_Bits_movedDown (shl_ (q_Form_significand j0 a2) (10 : Int32)) ((q_Form_scale j0 a1) - (q_Form_scale j0 a2)))), (6, .long (shl_ (q_Form_significand j0 a1) (10 : Int32))), (5, .int (q_Form_scale j0 a1)), (0, .ref (ad j0)), (1, .long a1), (3, .long a2)]) hx hb d_Floats_finiteSum_36 hl (by decide) rfl (fun ls hl => ?_)
  refine lv_aload_n hx hb d_Floats_finiteSum_38 rfl (lv_at hl 3 rfl) ?_
  refine lv_lload_n hx hb d_Floats_finiteSum_39 rfl (lv_at hl 4 rfl) ?_
  refine vl_ (As := [.long a1]) (rest := []) hq hj0 (c_Form_sign l A ad j0 hj0 a1) kB_Form_sign wt_393 ⟨rfl, rfl, Nat.le_of_ble_eq_true rfl, Nat.le_of_ble_eq_true rfl⟩ rfl hl.1 rfl (Nat.le_of_ble_eq_true rfl) d_Floats_finiteSum_40 ⟨Nat.zero_le _, Nat.zero_le _⟩ ?_
  refine lv_aload_n hx hb d_Floats_finiteSum_43 rfl (lv_at hl 3 rfl) ?_
  refine lv_lload_n hx hb d_Floats_finiteSum_44 rfl (lv_at hl 5 rfl) ?_
  refine vl_ (As := [.long a2]) (rest := [.long (q_Form_sign j0 a1)]) hq hj0 (c_Form_sign l A ad j0 hj0 a2) kB_Form_sign wt_393 ⟨rfl, rfl, Nat.le_of_ble_eq_true rfl, Nat.le_of_ble_eq_true rfl⟩ rfl hl.1 rfl (Nat.le_of_ble_eq_true rfl) d_Floats_finiteSum_45 ⟨Nat.zero_le _, Nat.zero_le _⟩ ?_
  refine W.lcmp hx hb d_Floats_finiteSum_48 ?_
  refine lv_if_ne (tgt := 60) hx hb d_Floats_finiteSum_49 (by decide) (fun c_1 => ?_) (fun c_1 => ?_)
  · rw [lg_cmp_eq] at c_1
    refine lv_lload hx hb d_Floats_finiteSum_60 (lv_at hl 1 rfl) ?_
    refine lv_lload hx hb d_Floats_finiteSum_62 (lv_at hl 0 rfl) ?_
    refine lv_lsub hx hb d_Floats_finiteSum_64 ?_
    refine lv_lstore (lv' := [(10, .long ((shl_ (q_Form_significand j0 a1) (10 : Int32)) - (q_Bits_movedDown (shl_ (q_Form_significand j0 a2) (10 : Int32)) ((q_Form_scale j0 a1) - (q_Form_scale j0 a2))))), (8, .long (q_Bits_movedDown (shl_ (q_Form_significand j0 a2) (10 : Int32)) ((q_Form_scale j0 a1) - (q_Form_scale j0 a2)))), (6, .long (shl_ (q_Form_significand j0 a1) (10 : Int32))), (5, .int (q_Form_scale j0 a1)), (0, .ref (ad j0)), (1, .long a1), (3, .long a2)]) hx hb d_Floats_finiteSum_65 hl (by decide) rfl (fun ls hl => ?_)
    refine lv_lload hx hb d_Floats_finiteSum_67 (lv_at hl 0 rfl) ?_
    refine lv_lconst (v := (0 : Int64)) hx hb d_Floats_finiteSum_69 (by decide) ?_
    refine W.lcmp hx hb d_Floats_finiteSum_70 ?_
    refine lv_if_ne (tgt := 82) hx hb d_Floats_finiteSum_71 (by decide) (fun c_2 => ?_) (fun c_2 => ?_)
    · rw [lg_cmp_eq] at c_2
      refine lv_aload_n hx hb d_Floats_finiteSum_82 rfl (lv_at hl 4 rfl) ?_
      refine lv_aload_n hx hb d_Floats_finiteSum_83 rfl (lv_at hl 4 rfl) ?_
      refine lv_lload_n hx hb d_Floats_finiteSum_84 rfl (lv_at hl 5 rfl) ?_
      refine vl_ (As := [.long a1]) (rest := [.ref (ad j0)]) hq hj0 (c_Form_sign l A ad j0 hj0 a1) kB_Form_sign wt_393 ⟨rfl, rfl, Nat.le_of_ble_eq_true rfl, Nat.le_of_ble_eq_true rfl⟩ rfl hl.1 rfl (Nat.le_of_ble_eq_true rfl) d_Floats_finiteSum_85 ⟨Nat.zero_le _, Nat.zero_le _⟩ ?_
      refine lv_lload hx hb d_Floats_finiteSum_88 (lv_at hl 0 rfl) ?_
      refine lv_iload hx hb d_Floats_finiteSum_90 (lv_at hl 3 rfl) ?_
      refine lv_bipush (v := (10 : Int32)) hx hb d_Floats_finiteSum_92 (by decide) ?_
      refine lv_isub hx hb d_Floats_finiteSum_94 ?_
      refine vl_ (As := [.long (q_Form_sign j0 a1), .long ((shl_ (q_Form_significand j0 a1) (10 : Int32)) - (q_Bits_movedDown (shl_ (q_Form_significand j0 a2) (10 : Int32)) ((q_Form_scale j0 a1) - (q_Form_scale j0 a2)))), .int ((q_Form_scale j0 a1) - (10 : Int32))]) (rest := []) hq hj0 (c_Form_rounded l A ad j0 hj0 (q_Form_sign j0 a1) ((shl_ (q_Form_significand j0 a1) (10 : Int32)) - (q_Bits_movedDown (shl_ (q_Form_significand j0 a2) (10 : Int32)) ((q_Form_scale j0 a1) - (q_Form_scale j0 a2)))) ((q_Form_scale j0 a1) - (10 : Int32))) kB_Form_rounded wt_418 ⟨rfl, rfl, Nat.le_of_ble_eq_true rfl, Nat.le_of_ble_eq_true rfl⟩ rfl hl.1 rfl (Nat.le_of_ble_eq_true rfl) d_Floats_finiteSum_95 ⟨Nat.zero_le _, Nat.zero_le _⟩ ?_
      exact rl_ hx hb hr hk (by rw [q_Floats_finiteSum, if_neg c_1, if_neg c_2]) d_Floats_finiteSum_98
    · rw [lg_cmp_eq] at c_2
      refine lv_aload_n hx hb d_Floats_finiteSum_74 rfl (lv_at hl 4 rfl) ?_
      refine lv_lload_n hx hb d_Floats_finiteSum_75 rfl (lv_at hl 5 rfl) ?_
      refine lv_lload_n hx hb d_Floats_finiteSum_76 rfl (lv_at hl 6 rfl) ?_
      refine lv_land hx hb d_Floats_finiteSum_77 ?_
      refine vl_ (As := [.long (a1 &&& a2)]) (rest := []) hq hj0 (c_Form_sign l A ad j0 hj0 (a1 &&& a2)) kB_Form_sign wt_393 ⟨rfl, rfl, Nat.le_of_ble_eq_true rfl, Nat.le_of_ble_eq_true rfl⟩ rfl hl.1 rfl (Nat.le_of_ble_eq_true rfl) d_Floats_finiteSum_78 ⟨Nat.zero_le _, Nat.zero_le _⟩ ?_
      exact rl_ hx hb hr hk (by rw [q_Floats_finiteSum, if_neg c_1, if_pos c_2]) d_Floats_finiteSum_81
  · rw [lg_cmp_eq] at c_1
    refine lv_lload hx hb d_Floats_finiteSum_52 (lv_at hl 1 rfl) ?_
    refine lv_lload hx hb d_Floats_finiteSum_54 (lv_at hl 0 rfl) ?_
    refine lv_ladd hx hb d_Floats_finiteSum_56 ?_
    refine lv_goto (tgt := 65) hx hb d_Floats_finiteSum_57 (by decide) ?_
    refine lv_lstore (lv' := [(10, .long ((shl_ (q_Form_significand j0 a1) (10 : Int32)) + (q_Bits_movedDown (shl_ (q_Form_significand j0 a2) (10 : Int32)) ((q_Form_scale j0 a1) - (q_Form_scale j0 a2))))), (8, .long (q_Bits_movedDown (shl_ (q_Form_significand j0 a2) (10 : Int32)) ((q_Form_scale j0 a1) - (q_Form_scale j0 a2)))), (6, .long (shl_ (q_Form_significand j0 a1) (10 : Int32))), (5, .int (q_Form_scale j0 a1)), (0, .ref (ad j0)), (1, .long a1), (3, .long a2)]) hx hb d_Floats_finiteSum_65 hl (by decide) rfl (fun ls hl => ?_)
    refine lv_lload hx hb d_Floats_finiteSum_67 (lv_at hl 0 rfl) ?_
    refine lv_lconst (v := (0 : Int64)) hx hb d_Floats_finiteSum_69 (by decide) ?_
    refine W.lcmp hx hb d_Floats_finiteSum_70 ?_
    refine lv_if_ne (tgt := 82) hx hb d_Floats_finiteSum_71 (by decide) (fun c_3 => ?_) (fun c_3 => ?_)
    · rw [lg_cmp_eq] at c_3
      refine lv_aload_n hx hb d_Floats_finiteSum_82 rfl (lv_at hl 4 rfl) ?_
      refine lv_aload_n hx hb d_Floats_finiteSum_83 rfl (lv_at hl 4 rfl) ?_
      refine lv_lload_n hx hb d_Floats_finiteSum_84 rfl (lv_at hl 5 rfl) ?_
      refine vl_ (As := [.long a1]) (rest := [.ref (ad j0)]) hq hj0 (c_Form_sign l A ad j0 hj0 a1) kB_Form_sign wt_393 ⟨rfl, rfl, Nat.le_of_ble_eq_true rfl, Nat.le_of_ble_eq_true rfl⟩ rfl hl.1 rfl (Nat.le_of_ble_eq_true rfl) d_Floats_finiteSum_85 ⟨Nat.zero_le _, Nat.zero_le _⟩ ?_
      refine lv_lload hx hb d_Floats_finiteSum_88 (lv_at hl 0 rfl) ?_
      refine lv_iload hx hb d_Floats_finiteSum_90 (lv_at hl 3 rfl) ?_
      refine lv_bipush (v := (10 : Int32)) hx hb d_Floats_finiteSum_92 (by decide) ?_
      refine lv_isub hx hb d_Floats_finiteSum_94 ?_
      refine vl_ (As := [.long (q_Form_sign j0 a1), .long ((shl_ (q_Form_significand j0 a1) (10 : Int32)) + (q_Bits_movedDown (shl_ (q_Form_significand j0 a2) (10 : Int32)) ((q_Form_scale j0 a1) - (q_Form_scale j0 a2)))), .int ((q_Form_scale j0 a1) - (10 : Int32))]) (rest := []) hq hj0 (c_Form_rounded l A ad j0 hj0 (q_Form_sign j0 a1) ((shl_ (q_Form_significand j0 a1) (10 : Int32)) + (q_Bits_movedDown (shl_ (q_Form_significand j0 a2) (10 : Int32)) ((q_Form_scale j0 a1) - (q_Form_scale j0 a2)))) ((q_Form_scale j0 a1) - (10 : Int32))) kB_Form_rounded wt_418 ⟨rfl, rfl, Nat.le_of_ble_eq_true rfl, Nat.le_of_ble_eq_true rfl⟩ rfl hl.1 rfl (Nat.le_of_ble_eq_true rfl) d_Floats_finiteSum_95 ⟨Nat.zero_le _, Nat.zero_le _⟩ ?_
      exact rl_ hx hb hr hk (by rw [q_Floats_finiteSum, if_pos c_1, if_neg c_3]) d_Floats_finiteSum_98
    · rw [lg_cmp_eq] at c_3
      refine lv_aload_n hx hb d_Floats_finiteSum_74 rfl (lv_at hl 4 rfl) ?_
      refine lv_lload_n hx hb d_Floats_finiteSum_75 rfl (lv_at hl 5 rfl) ?_
      refine lv_lload_n hx hb d_Floats_finiteSum_76 rfl (lv_at hl 6 rfl) ?_
      refine lv_land hx hb d_Floats_finiteSum_77 ?_
      refine vl_ (As := [.long (a1 &&& a2)]) (rest := []) hq hj0 (c_Form_sign l A ad j0 hj0 (a1 &&& a2)) kB_Form_sign wt_393 ⟨rfl, rfl, Nat.le_of_ble_eq_true rfl, Nat.le_of_ble_eq_true rfl⟩ rfl hl.1 rfl (Nat.le_of_ble_eq_true rfl) d_Floats_finiteSum_78 ⟨Nat.zero_le _, Nat.zero_le _⟩ ?_
      exact rl_ hx hb hr hk (by rw [q_Floats_finiteSum, if_pos c_1, if_pos c_3]) d_Floats_finiteSum_81
def q_Floats_sum (j0 : Nat) (a1 : Int64) (a2 : Int64) : Int64 :=
  if (q_Form_isInfinite j0 a1) = 0 then
    if (q_Form_isInfinite j0 a2) = 0 then
      if (q_Form_withoutSign j0 a1) < (q_Form_withoutSign j0 a2) then
        (q_Floats_finiteSum j0 a2 a1)
      else
        (q_Floats_finiteSum j0 a1 a2)
    else
      a2
  else
    if (q_Form_isInfinite j0 a2) = 0 then
      a1
    else
      if a1 = a2 then
        a1
      else
        (fm_n j0)
theorem kB_Floats_sum : SB y_Floats_sum b_Floats_sum 6 (some .long) 3 := ⟨wt_421, wt_420, wt_53, by decide +kernel⟩
set_option maxHeartbeats 4000000 in
set_option maxRecDepth 100000 in
theorem c_Floats_sum (l : Launch) (A : Nat → Prop) (ad : Nat → Nat) (j0 : Nat) (hj0 : j0 < 2) (a1 : Int64) (a2 : Int64) : Met l y_Floats_sum (Cond.code y_Floats_sum b_Floats_sum 6 (some .long) :: BT) ({ frames := 4, cells := 0, slots := 0, locals := 109 }) (PC A ad [.ref (ad j0), .long a1, .long a2]) (vp_Sl (fun r => r = q_Floats_sum j0 a1 a2)) 0 0 (fun _ => False) := by
  refine pm_ (by decide +kernel) (Nat.le_of_ble_eq_true rfl) ?_
  intro p e s m below meth c hq hr hk ls hl
  have hx := hq.1
  have hb := hq.2.1
  have hts := hq.2.2.2.2.1
  have hl : lv_has ls 6 [(0, .ref (ad j0)), (1, .long a1), (3, .long a2)] := hl
  refine lv_aload_n hx hb d_Floats_sum_0 rfl (lv_at hl 0 rfl) ?_
  refine lv_lload_n hx hb d_Floats_sum_1 rfl (lv_at hl 1 rfl) ?_
  refine vi_ (As := [.long a1]) (rest := []) hq hj0 (c_Form_isInfinite l A ad j0 hj0 a1) kB_Form_isInfinite wt_402 ⟨rfl, rfl, Nat.le_of_ble_eq_true rfl, Nat.le_of_ble_eq_true rfl⟩ rfl hl.1 rfl (Nat.le_of_ble_eq_true rfl) d_Floats_sum_2 ⟨Nat.zero_le _, Nat.zero_le _⟩ ?_
  refine lv_if_eq (tgt := 31) hx hb d_Floats_sum_5 (by decide) (fun c_1 => ?_) (fun c_1 => ?_)
  · refine lv_aload_n hx hb d_Floats_sum_31 rfl (lv_at hl 0 rfl) ?_
    refine lv_lload_n hx hb d_Floats_sum_32 rfl (lv_at hl 2 rfl) ?_
    refine vi_ (As := [.long a2]) (rest := []) hq hj0 (c_Form_isInfinite l A ad j0 hj0 a2) kB_Form_isInfinite wt_402 ⟨rfl, rfl, Nat.le_of_ble_eq_true rfl, Nat.le_of_ble_eq_true rfl⟩ rfl hl.1 rfl (Nat.le_of_ble_eq_true rfl) d_Floats_sum_33 ⟨Nat.zero_le _, Nat.zero_le _⟩ ?_
    refine lv_if_eq (tgt := 41) hx hb d_Floats_sum_36 (by decide) (fun c_2 => ?_) (fun c_2 => ?_)
    · refine lv_aload_n hx hb d_Floats_sum_41 rfl (lv_at hl 0 rfl) ?_
      refine lv_lload_n hx hb d_Floats_sum_42 rfl (lv_at hl 1 rfl) ?_
      refine vl_ (As := [.long a1]) (rest := []) hq hj0 (c_Form_withoutSign l A ad j0 hj0 a1) kB_Form_withoutSign wt_394 ⟨rfl, rfl, Nat.le_of_ble_eq_true rfl, Nat.le_of_ble_eq_true rfl⟩ rfl hl.1 rfl (Nat.le_of_ble_eq_true rfl) d_Floats_sum_43 ⟨Nat.zero_le _, Nat.zero_le _⟩ ?_
      refine lv_aload_n hx hb d_Floats_sum_46 rfl (lv_at hl 0 rfl) ?_
      refine lv_lload_n hx hb d_Floats_sum_47 rfl (lv_at hl 2 rfl) ?_
      refine vl_ (As := [.long a2]) (rest := [.long (q_Form_withoutSign j0 a1)]) hq hj0 (c_Form_withoutSign l A ad j0 hj0 a2) kB_Form_withoutSign wt_394 ⟨rfl, rfl, Nat.le_of_ble_eq_true rfl, Nat.le_of_ble_eq_true rfl⟩ rfl hl.1 rfl (Nat.le_of_ble_eq_true rfl) d_Floats_sum_48 ⟨Nat.zero_le _, Nat.zero_le _⟩ ?_
      refine W.lcmp hx hb d_Floats_sum_51 ?_
      refine lv_if_lt (tgt := 59) hx hb d_Floats_sum_52 (by decide) (fun c_3 => ?_) (fun c_3 => ?_)
      · rw [lg_cmp_lt] at c_3
        refine lv_iconst (v := (0 : Int32)) hx hb d_Floats_sum_59 (by decide) ?_
        refine lv_istore (lv' := [(5, .int (0 : Int32)), (0, .ref (ad j0)), (1, .long a1), (3, .long a2)]) hx hb d_Floats_sum_60 hl (by decide) rfl (fun ls hl => ?_)
        refine lv_iload hx hb d_Floats_sum_62 (lv_at hl 0 rfl) ?_
        refine lv_if_eq (tgt := 76) hx hb d_Floats_sum_64 (by decide) (fun _ => ?_) (fun c => absurd (by decide) c)
        refine lv_aload_n hx hb d_Floats_sum_76 rfl (lv_at hl 1 rfl) ?_
        refine lv_lload_n hx hb d_Floats_sum_77 rfl (lv_at hl 3 rfl) ?_
        refine lv_lload_n hx hb d_Floats_sum_78 rfl (lv_at hl 2 rfl) ?_
        refine sl_ (As := [.ref (ad j0), .long a2, .long a1]) (rest := []) hq (c_Floats_finiteSum l A ad j0 hj0 a2 a1) kB_Floats_finiteSum wt_422 ⟨rfl, rfl, Nat.le_of_ble_eq_true rfl, Nat.le_of_ble_eq_true rfl⟩ rfl hl.1 rfl (Nat.le_of_ble_eq_true rfl) d_Floats_sum_79 ⟨Nat.zero_le _, Nat.zero_le _⟩ ?_
        exact rl_ hx hb hr hk (by rw [q_Floats_sum, if_pos c_1, if_pos c_2, if_pos c_3]) d_Floats_sum_82
      · rw [lg_cmp_lt] at c_3
        refine lv_iconst (v := (1 : Int32)) hx hb d_Floats_sum_55 (by decide) ?_
        refine lv_goto (tgt := 60) hx hb d_Floats_sum_56 (by decide) ?_
        refine lv_istore (lv' := [(5, .int (1 : Int32)), (0, .ref (ad j0)), (1, .long a1), (3, .long a2)]) hx hb d_Floats_sum_60 hl (by decide) rfl (fun ls hl => ?_)
        refine lv_iload hx hb d_Floats_sum_62 (lv_at hl 0 rfl) ?_
        refine lv_if_eq (tgt := 76) hx hb d_Floats_sum_64 (by decide) (fun c => absurd c (by decide)) (fun _ => ?_)
        refine lv_aload_n hx hb d_Floats_sum_67 rfl (lv_at hl 1 rfl) ?_
        refine lv_lload_n hx hb d_Floats_sum_68 rfl (lv_at hl 2 rfl) ?_
        refine lv_lload_n hx hb d_Floats_sum_69 rfl (lv_at hl 3 rfl) ?_
        refine sl_ (As := [.ref (ad j0), .long a1, .long a2]) (rest := []) hq (c_Floats_finiteSum l A ad j0 hj0 a1 a2) kB_Floats_finiteSum wt_422 ⟨rfl, rfl, Nat.le_of_ble_eq_true rfl, Nat.le_of_ble_eq_true rfl⟩ rfl hl.1 rfl (Nat.le_of_ble_eq_true rfl) d_Floats_sum_70 ⟨Nat.zero_le _, Nat.zero_le _⟩ ?_
        refine lv_goto (tgt := 82) hx hb d_Floats_sum_73 (by decide) ?_
        exact rl_ hx hb hr hk (by rw [q_Floats_sum, if_pos c_1, if_pos c_2, if_neg c_3]) d_Floats_sum_82
    · refine lv_lload_n hx hb d_Floats_sum_39 rfl (lv_at hl 2 rfl) ?_
      exact rl_ hx hb hr hk (by rw [q_Floats_sum, if_pos c_1, if_neg c_2]) d_Floats_sum_40
  · refine lv_aload_n hx hb d_Floats_sum_8 rfl (lv_at hl 0 rfl) ?_
    refine lv_lload_n hx hb d_Floats_sum_9 rfl (lv_at hl 2 rfl) ?_
    refine vi_ (As := [.long a2]) (rest := []) hq hj0 (c_Form_isInfinite l A ad j0 hj0 a2) kB_Form_isInfinite wt_402 ⟨rfl, rfl, Nat.le_of_ble_eq_true rfl, Nat.le_of_ble_eq_true rfl⟩ rfl hl.1 rfl (Nat.le_of_ble_eq_true rfl) d_Floats_sum_10 ⟨Nat.zero_le _, Nat.zero_le _⟩ ?_
    refine lv_if_eq (tgt := 29) hx hb d_Floats_sum_13 (by decide) (fun c_4 => ?_) (fun c_4 => ?_)
    · refine lv_lload_n hx hb d_Floats_sum_29 rfl (lv_at hl 1 rfl) ?_
      exact rl_ hx hb hr hk (by rw [q_Floats_sum, if_neg c_1, if_pos c_4]) d_Floats_sum_30
    · refine lv_lload_n hx hb d_Floats_sum_16 rfl (lv_at hl 1 rfl) ?_
      refine lv_lload_n hx hb d_Floats_sum_17 rfl (lv_at hl 2 rfl) ?_
      refine W.lcmp hx hb d_Floats_sum_18 ?_
      refine lv_if_eq (tgt := 29) hx hb d_Floats_sum_19 (by decide) (fun c_5 => ?_) (fun c_5 => ?_)
      · rw [lg_cmp_eq] at c_5
        refine lv_lload_n hx hb d_Floats_sum_29 rfl (lv_at hl 1 rfl) ?_
        exact rl_ hx hb hr hk (by rw [q_Floats_sum, if_neg c_1, if_neg c_4, if_pos c_5]) d_Floats_sum_30
      · rw [lg_cmp_eq] at c_5
        refine lv_aload_n hx hb d_Floats_sum_22 rfl (lv_at hl 0 rfl) ?_
        refine gf_n hq hj0 wt_732 d_Floats_sum_23 ?_
        refine lv_goto (tgt := 30) hx hb d_Floats_sum_26 (by decide) ?_
        exact rl_ hx hb hr hk (by rw [q_Floats_sum, if_neg c_1, if_neg c_4, if_neg c_5]) d_Floats_sum_30
def q_Floats_raised (j0 : Nat) (a1 : Int64) : Int64 :=
  (shl_ (q_Form_significand j0 a1) ((q_Long_numberOfLeadingZeros (q_Form_significand j0 a1)) - (2 : Int32)))
theorem kB_Floats_raised : SB y_Floats_raised b_Floats_raised 5 (some .long) 2 := ⟨wt_411, wt_410, wt_53, by decide +kernel⟩
set_option maxHeartbeats 4000000 in
set_option maxRecDepth 100000 in
theorem c_Floats_raised (l : Launch) (A : Nat → Prop) (ad : Nat → Nat) (j0 : Nat) (hj0 : j0 < 2) (a1 : Int64) : Met l y_Floats_raised (Cond.code y_Floats_raised b_Floats_raised 5 (some .long) :: BT) ({ frames := 2, cells := 0, slots := 0, locals := 48 }) (PC A ad [.ref (ad j0), .long a1]) (vp_Sl (fun r => r = q_Floats_raised j0 a1)) 0 0 (fun _ => False) := by
  refine pm_ (by decide +kernel) (Nat.le_of_ble_eq_true rfl) ?_
  intro p e s m below meth c hq hr hk ls hl
  have hx := hq.1
  have hb := hq.2.1
  have hts := hq.2.2.2.2.1
  have hl : lv_has ls 5 [(0, .ref (ad j0)), (1, .long a1)] := hl
  refine lv_aload_n hx hb d_Floats_raised_0 rfl (lv_at hl 0 rfl) ?_
  refine lv_lload_n hx hb d_Floats_raised_1 rfl (lv_at hl 1 rfl) ?_
  refine vl_ (As := [.long a1]) (rest := []) hq hj0 (c_Form_significand l A ad j0 hj0 a1) kB_Form_significand wt_407 ⟨rfl, rfl, Nat.le_of_ble_eq_true rfl, Nat.le_of_ble_eq_true rfl⟩ rfl hl.1 rfl (Nat.le_of_ble_eq_true rfl) d_Floats_raised_2 ⟨Nat.zero_le _, Nat.zero_le _⟩ ?_
  refine lv_lstore_n (lv' := [(3, .long (q_Form_significand j0 a1)), (0, .ref (ad j0)), (1, .long a1)]) hx hb d_Floats_raised_5 rfl hl (by decide) rfl (fun ls hl => ?_)
  refine lv_lload_n hx hb d_Floats_raised_6 rfl (lv_at hl 0 rfl) ?_
  refine lv_lload_n hx hb d_Floats_raised_7 rfl (lv_at hl 0 rfl) ?_
  refine si_ (As := [.long (q_Form_significand j0 a1)]) (rest := [.long (q_Form_significand j0 a1)]) hq (c_Long_numberOfLeadingZeros l A ad (q_Form_significand j0 a1)) kB_Long_numberOfLeadingZeros wt_408 ⟨rfl, rfl, Nat.le_of_ble_eq_true rfl, Nat.le_of_ble_eq_true rfl⟩ rfl hl.1 rfl (Nat.le_of_ble_eq_true rfl) d_Floats_raised_8 ⟨Nat.zero_le _, Nat.zero_le _⟩ ?_
  refine lv_iconst (v := (2 : Int32)) hx hb d_Floats_raised_11 (by decide) ?_
  refine lv_isub hx hb d_Floats_raised_12 ?_
  refine lv_lshl (v := (shl_ (q_Form_significand j0 a1) ((q_Long_numberOfLeadingZeros (q_Form_significand j0 a1)) - (2 : Int32)))) hx hb d_Floats_raised_13 rfl ?_
  exact rl_ hx hb hr hk (by rw [q_Floats_raised]) d_Floats_raised_14
def q_Floats_raisedScale (j0 : Nat) (a1 : Int64) : Int32 :=
  ((q_Form_scale j0 a1) - ((q_Long_numberOfLeadingZeros (q_Form_significand j0 a1)) - (2 : Int32)))
theorem kB_Floats_raisedScale : SB y_Floats_raisedScale b_Floats_raisedScale 3 (some .int) 2 := ⟨wt_405, wt_404, wt_53, by decide +kernel⟩
set_option maxHeartbeats 4000000 in
set_option maxRecDepth 100000 in
theorem c_Floats_raisedScale (l : Launch) (A : Nat → Prop) (ad : Nat → Nat) (j0 : Nat) (hj0 : j0 < 2) (a1 : Int64) : Met l y_Floats_raisedScale (Cond.code y_Floats_raisedScale b_Floats_raisedScale 3 (some .int) :: BT) ({ frames := 2, cells := 0, slots := 0, locals := 48 }) (PC A ad [.ref (ad j0), .long a1]) (vp_Si (fun r => r = q_Floats_raisedScale j0 a1)) 0 0 (fun _ => False) := by
  refine pm_ (by decide +kernel) (Nat.le_of_ble_eq_true rfl) ?_
  intro p e s m below meth c hq hr hk ls hl
  have hx := hq.1
  have hb := hq.2.1
  have hts := hq.2.2.2.2.1
  have hl : lv_has ls 3 [(0, .ref (ad j0)), (1, .long a1)] := hl
  refine lv_aload_n hx hb d_Floats_raisedScale_0 rfl (lv_at hl 0 rfl) ?_
  refine lv_lload_n hx hb d_Floats_raisedScale_1 rfl (lv_at hl 1 rfl) ?_
  refine vi_ (As := [.long a1]) (rest := []) hq hj0 (c_Form_scale l A ad j0 hj0 a1) kB_Form_scale wt_406 ⟨rfl, rfl, Nat.le_of_ble_eq_true rfl, Nat.le_of_ble_eq_true rfl⟩ rfl hl.1 rfl (Nat.le_of_ble_eq_true rfl) d_Floats_raisedScale_2 ⟨Nat.zero_le _, Nat.zero_le _⟩ ?_
  refine lv_aload_n hx hb d_Floats_raisedScale_5 rfl (lv_at hl 0 rfl) ?_
  refine lv_lload_n hx hb d_Floats_raisedScale_6 rfl (lv_at hl 1 rfl) ?_
  refine vl_ (As := [.long a1]) (rest := [.int (q_Form_scale j0 a1)]) hq hj0 (c_Form_significand l A ad j0 hj0 a1) kB_Form_significand wt_407 ⟨rfl, rfl, Nat.le_of_ble_eq_true rfl, Nat.le_of_ble_eq_true rfl⟩ rfl hl.1 rfl (Nat.le_of_ble_eq_true rfl) d_Floats_raisedScale_7 ⟨Nat.zero_le _, Nat.zero_le _⟩ ?_
  refine si_ (As := [.long (q_Form_significand j0 a1)]) (rest := [.int (q_Form_scale j0 a1)]) hq (c_Long_numberOfLeadingZeros l A ad (q_Form_significand j0 a1)) kB_Long_numberOfLeadingZeros wt_408 ⟨rfl, rfl, Nat.le_of_ble_eq_true rfl, Nat.le_of_ble_eq_true rfl⟩ rfl hl.1 rfl (Nat.le_of_ble_eq_true rfl) d_Floats_raisedScale_10 ⟨Nat.zero_le _, Nat.zero_le _⟩ ?_
  refine lv_iconst (v := (2 : Int32)) hx hb d_Floats_raisedScale_13 (by decide) ?_
  refine lv_isub hx hb d_Floats_raisedScale_14 ?_
  refine lv_isub hx hb d_Floats_raisedScale_15 ?_
  exact ri_ hx hb hr hk (by rw [q_Floats_raisedScale]) d_Floats_raisedScale_16
def q_Floats_product (j0 : Nat) (a1 : Int64) (a2 : Int64) : Int64 :=
  if (q_Form_isZero j0 a1) = 0 then
    if (q_Form_isZero j0 a2) = 0 then
      if (q_Form_isInfinite j0 a1) = 0 then
        if (q_Form_isInfinite j0 a2) = 0 then
          (q_Form_rounded j0 (q_Form_sign j0 (a1 ^^^ a2)) (q_Bits_marked (q_Math_multiplyHigh (q_Floats_raised j0 a1) (q_Floats_raised j0 a2)) ((q_Floats_raised j0 a1) * (q_Floats_raised j0 a2))) (((q_Floats_raisedScale j0 a1) + (q_Floats_raisedScale j0 a2)) + (64 : Int32)))
        else
          ((q_Form_sign j0 (a1 ^^^ a2)) ||| (fm_i j0))
      else
        ((q_Form_sign j0 (a1 ^^^ a2)) ||| (fm_i j0))
    else
      if (q_Form_isInfinite j0 a1) = 0 then
        if (q_Form_isInfinite j0 a2) = 0 then
          (q_Form_sign j0 (a1 ^^^ a2))
        else
          (fm_n j0)
      else
        (fm_n j0)
  else
    if (q_Form_isInfinite j0 a1) = 0 then
      if (q_Form_isInfinite j0 a2) = 0 then
        (q_Form_sign j0 (a1 ^^^ a2))
      else
        (fm_n j0)
    else
      (fm_n j0)
theorem kB_Floats_product : SB y_Floats_product b_Floats_product 14 (some .long) 3 := ⟨wt_431, wt_430, wt_53, by decide +kernel⟩
set_option maxHeartbeats 4000000 in
set_option maxRecDepth 100000 in
theorem c_Floats_product (l : Launch) (A : Nat → Prop) (ad : Nat → Nat) (j0 : Nat) (hj0 : j0 < 2) (a1 : Int64) (a2 : Int64) : Met l y_Floats_product (Cond.code y_Floats_product b_Floats_product 14 (some .long) :: BT) ({ frames := 3, cells := 0, slots := 0, locals := 78 }) (PC A ad [.ref (ad j0), .long a1, .long a2]) (vp_Sl (fun r => r = q_Floats_product j0 a1 a2)) 0 0 (fun _ => False) := by
  refine pm_ (by decide +kernel) (Nat.le_of_ble_eq_true rfl) ?_
  intro p e s m below meth c hq hr hk ls hl
  have hx := hq.1
  have hb := hq.2.1
  have hts := hq.2.2.2.2.1
  have hl : lv_has ls 14 [(0, .ref (ad j0)), (1, .long a1), (3, .long a2)] := hl
  refine lv_aload_n hx hb d_Floats_product_0 rfl (lv_at hl 0 rfl) ?_
  refine lv_lload_n hx hb d_Floats_product_1 rfl (lv_at hl 1 rfl) ?_
  refine lv_lload_n hx hb d_Floats_product_2 rfl (lv_at hl 2 rfl) ?_
  refine lv_lxor hx hb d_Floats_product_3 ?_
  refine vl_ (As := [.long (a1 ^^^ a2)]) (rest := []) hq hj0 (c_Form_sign l A ad j0 hj0 (a1 ^^^ a2)) kB_Form_sign wt_393 ⟨rfl, rfl, Nat.le_of_ble_eq_true rfl, Nat.le_of_ble_eq_true rfl⟩ rfl hl.1 rfl (Nat.le_of_ble_eq_true rfl) d_Floats_product_4 ⟨Nat.zero_le _, Nat.zero_le _⟩ ?_
  refine lv_lstore (lv' := [(5, .long (q_Form_sign j0 (a1 ^^^ a2))), (0, .ref (ad j0)), (1, .long a1), (3, .long a2)]) hx hb d_Floats_product_7 hl (by decide) rfl (fun ls hl => ?_)
  refine lv_aload_n hx hb d_Floats_product_9 rfl (lv_at hl 1 rfl) ?_
  refine lv_lload_n hx hb d_Floats_product_10 rfl (lv_at hl 2 rfl) ?_
  refine vi_ (As := [.long a1]) (rest := []) hq hj0 (c_Form_isZero l A ad j0 hj0 a1) kB_Form_isZero wt_401 ⟨rfl, rfl, Nat.le_of_ble_eq_true rfl, Nat.le_of_ble_eq_true rfl⟩ rfl hl.1 rfl (Nat.le_of_ble_eq_true rfl) d_Floats_product_11 ⟨Nat.zero_le _, Nat.zero_le _⟩ ?_
  refine lv_if_ne (tgt := 25) hx hb d_Floats_product_14 (by decide) (fun c_1 => ?_) (fun c_1 => ?_)
  · refine lv_iconst (v := (1 : Int32)) hx hb d_Floats_product_25 (by decide) ?_
    refine lv_goto (tgt := 30) hx hb d_Floats_product_26 (by decide) ?_
    refine lv_istore (lv' := [(7, .int (1 : Int32)), (5, .long (q_Form_sign j0 (a1 ^^^ a2))), (0, .ref (ad j0)), (1, .long a1), (3, .long a2)]) hx hb d_Floats_product_30 hl (by decide) rfl (fun ls hl => ?_)
    refine lv_aload_n hx hb d_Floats_product_32 rfl (lv_at hl 2 rfl) ?_
    refine lv_lload_n hx hb d_Floats_product_33 rfl (lv_at hl 3 rfl) ?_
    refine vi_ (As := [.long a1]) (rest := []) hq hj0 (c_Form_isInfinite l A ad j0 hj0 a1) kB_Form_isInfinite wt_402 ⟨rfl, rfl, Nat.le_of_ble_eq_true rfl, Nat.le_of_ble_eq_true rfl⟩ rfl hl.1 rfl (Nat.le_of_ble_eq_true rfl) d_Floats_product_34 ⟨Nat.zero_le _, Nat.zero_le _⟩ ?_
    refine lv_if_ne (tgt := 48) hx hb d_Floats_product_37 (by decide) (fun c_2 => ?_) (fun c_2 => ?_)
    · refine lv_iload hx hb d_Floats_product_48 (lv_at hl 0 rfl) ?_
      refine lv_if_eq (tgt := 60) hx hb d_Floats_product_50 (by decide) (fun c => absurd c (by decide)) (fun _ => ?_)
      refine lv_aload_n hx hb d_Floats_product_53 rfl (lv_at hl 2 rfl) ?_
      refine gf_n hq hj0 wt_732 d_Floats_product_54 ?_
      refine lv_goto (tgt := 67) hx hb d_Floats_product_57 (by decide) ?_
      exact rl_ hx hb hr hk (by rw [q_Floats_product, if_neg c_1, if_neg c_2]) d_Floats_product_67
    · refine lv_aload_n hx hb d_Floats_product_40 rfl (lv_at hl 2 rfl) ?_
      refine lv_lload_n hx hb d_Floats_product_41 rfl (lv_at hl 4 rfl) ?_
      refine vi_ (As := [.long a2]) (rest := []) hq hj0 (c_Form_isInfinite l A ad j0 hj0 a2) kB_Form_isInfinite wt_402 ⟨rfl, rfl, Nat.le_of_ble_eq_true rfl, Nat.le_of_ble_eq_true rfl⟩ rfl hl.1 rfl (Nat.le_of_ble_eq_true rfl) d_Floats_product_42 ⟨Nat.zero_le _, Nat.zero_le _⟩ ?_
      refine lv_if_eq (tgt := 68) hx hb d_Floats_product_45 (by decide) (fun c_3 => ?_) (fun c_3 => ?_)
      · refine lv_iload hx hb d_Floats_product_68 (lv_at hl 0 rfl) ?_
        refine lv_if_eq (tgt := 76) hx hb d_Floats_product_70 (by decide) (fun c => absurd c (by decide)) (fun _ => ?_)
        refine lv_lload hx hb d_Floats_product_73 (lv_at hl 1 rfl) ?_
        exact rl_ hx hb hr hk (by rw [q_Floats_product, if_neg c_1, if_pos c_2, if_pos c_3]) d_Floats_product_75
      · refine lv_iload hx hb d_Floats_product_48 (lv_at hl 0 rfl) ?_
        refine lv_if_eq (tgt := 60) hx hb d_Floats_product_50 (by decide) (fun c => absurd c (by decide)) (fun _ => ?_)
        refine lv_aload_n hx hb d_Floats_product_53 rfl (lv_at hl 2 rfl) ?_
        refine gf_n hq hj0 wt_732 d_Floats_product_54 ?_
        refine lv_goto (tgt := 67) hx hb d_Floats_product_57 (by decide) ?_
        exact rl_ hx hb hr hk (by rw [q_Floats_product, if_neg c_1, if_pos c_2, if_neg c_3]) d_Floats_product_67
  · refine lv_aload_n hx hb d_Floats_product_17 rfl (lv_at hl 1 rfl) ?_
    refine lv_lload_n hx hb d_Floats_product_18 rfl (lv_at hl 3 rfl) ?_
    refine vi_ (As := [.long a2]) (rest := []) hq hj0 (c_Form_isZero l A ad j0 hj0 a2) kB_Form_isZero wt_401 ⟨rfl, rfl, Nat.le_of_ble_eq_true rfl, Nat.le_of_ble_eq_true rfl⟩ rfl hl.1 rfl (Nat.le_of_ble_eq_true rfl) d_Floats_product_19 ⟨Nat.zero_le _, Nat.zero_le _⟩ ?_
    refine lv_if_eq (tgt := 29) hx hb d_Floats_product_22 (by decide) (fun c_4 => ?_) (fun c_4 => ?_)
    · refine lv_iconst (v := (0 : Int32)) hx hb d_Floats_product_29 (by decide) ?_
      refine lv_istore (lv' := [(7, .int (0 : Int32)), (5, .long (q_Form_sign j0 (a1 ^^^ a2))), (0, .ref (ad j0)), (1, .long a1), (3, .long a2)]) hx hb d_Floats_product_30 hl (by decide) rfl (fun ls hl => ?_)
      refine lv_aload_n hx hb d_Floats_product_32 rfl (lv_at hl 2 rfl) ?_
      refine lv_lload_n hx hb d_Floats_product_33 rfl (lv_at hl 3 rfl) ?_
      refine vi_ (As := [.long a1]) (rest := []) hq hj0 (c_Form_isInfinite l A ad j0 hj0 a1) kB_Form_isInfinite wt_402 ⟨rfl, rfl, Nat.le_of_ble_eq_true rfl, Nat.le_of_ble_eq_true rfl⟩ rfl hl.1 rfl (Nat.le_of_ble_eq_true rfl) d_Floats_product_34 ⟨Nat.zero_le _, Nat.zero_le _⟩ ?_
      refine lv_if_ne (tgt := 48) hx hb d_Floats_product_37 (by decide) (fun c_5 => ?_) (fun c_5 => ?_)
      · refine lv_iload hx hb d_Floats_product_48 (lv_at hl 0 rfl) ?_
        refine lv_if_eq (tgt := 60) hx hb d_Floats_product_50 (by decide) (fun _ => ?_) (fun c => absurd (by decide) c)
        refine lv_lload hx hb d_Floats_product_60 (lv_at hl 1 rfl) ?_
        refine lv_aload_n hx hb d_Floats_product_62 rfl (lv_at hl 2 rfl) ?_
        refine gf_i hq hj0 wt_733 d_Floats_product_63 ?_
        refine lv_lor hx hb d_Floats_product_66 ?_
        exact rl_ hx hb hr hk (by rw [q_Floats_product, if_pos c_1, if_pos c_4, if_neg c_5]) d_Floats_product_67
      · refine lv_aload_n hx hb d_Floats_product_40 rfl (lv_at hl 2 rfl) ?_
        refine lv_lload_n hx hb d_Floats_product_41 rfl (lv_at hl 4 rfl) ?_
        refine vi_ (As := [.long a2]) (rest := []) hq hj0 (c_Form_isInfinite l A ad j0 hj0 a2) kB_Form_isInfinite wt_402 ⟨rfl, rfl, Nat.le_of_ble_eq_true rfl, Nat.le_of_ble_eq_true rfl⟩ rfl hl.1 rfl (Nat.le_of_ble_eq_true rfl) d_Floats_product_42 ⟨Nat.zero_le _, Nat.zero_le _⟩ ?_
        refine lv_if_eq (tgt := 68) hx hb d_Floats_product_45 (by decide) (fun c_6 => ?_) (fun c_6 => ?_)
        · refine lv_iload hx hb d_Floats_product_68 (lv_at hl 0 rfl) ?_
          refine lv_if_eq (tgt := 76) hx hb d_Floats_product_70 (by decide) (fun _ => ?_) (fun c => absurd (by decide) c)
          refine lv_aload_n hx hb d_Floats_product_76 rfl (lv_at hl 2 rfl) ?_
          refine lv_lload_n hx hb d_Floats_product_77 rfl (lv_at hl 3 rfl) ?_
          refine sl_ (As := [.ref (ad j0), .long a1]) (rest := []) hq (c_Floats_raised l A ad j0 hj0 a1) kB_Floats_raised wt_409 ⟨rfl, rfl, Nat.le_of_ble_eq_true rfl, Nat.le_of_ble_eq_true rfl⟩ rfl hl.1 rfl (Nat.le_of_ble_eq_true rfl) d_Floats_product_78 ⟨Nat.zero_le _, Nat.zero_le _⟩ ?_
          refine lv_lstore (lv' := [(8, .long (q_Floats_raised j0 a1)), (7, .int (0 : Int32)), (5, .long (q_Form_sign j0 (a1 ^^^ a2))), (0, .ref (ad j0)), (1, .long a1), (3, .long a2)]) hx hb d_Floats_product_81 hl (by decide) rfl (fun ls hl => ?_)
          refine lv_aload_n hx hb d_Floats_product_83 rfl (lv_at hl 3 rfl) ?_
          refine lv_lload_n hx hb d_Floats_product_84 rfl (lv_at hl 5 rfl) ?_
          refine sl_ (As := [.ref (ad j0), .long a2]) (rest := []) hq (c_Floats_raised l A ad j0 hj0 a2) kB_Floats_raised wt_409 ⟨rfl, rfl, Nat.le_of_ble_eq_true rfl, Nat.le_of_ble_eq_true rfl⟩ rfl hl.1 rfl (Nat.le_of_ble_eq_true rfl) d_Floats_product_85 ⟨Nat.zero_le _, Nat.zero_le _⟩ ?_
          refine lv_lstore (lv' := [(10, .long (q_Floats_raised j0 a2)), (8, .long (q_Floats_raised j0 a1)), (7, .int (0 : Int32)), (5, .long (q_Form_sign j0 (a1 ^^^ a2))), (0, .ref (ad j0)), (1, .long a1), (3, .long a2)]) hx hb d_Floats_product_88 hl (by decide) rfl (fun ls hl => ?_)
          refine lv_lload hx hb d_Floats_product_90 (lv_at hl 1 rfl) ?_
          refine lv_lload hx hb d_Floats_product_92 (lv_at hl 0 rfl) ?_
          refine sl_ (As := [.long (q_Floats_raised j0 a1), .long (q_Floats_raised j0 a2)]) (rest := []) hq (c_Math_multiplyHigh l A ad (q_Floats_raised j0 a1) (q_Floats_raised j0 a2)) kB_Math_multiplyHigh wt_432 ⟨rfl, rfl, Nat.le_of_ble_eq_true rfl, Nat.le_of_ble_eq_true rfl⟩ rfl hl.1 rfl (Nat.le_of_ble_eq_true rfl) d_Floats_product_94 ⟨Nat.zero_le _, Nat.zero_le _⟩ ?_
          refine lv_lload hx hb d_Floats_product_97 (lv_at hl 1 rfl) ?_
          refine lv_lload hx hb d_Floats_product_99 (lv_at hl 0 rfl) ?_
          refine lv_lmul hx hb d_Floats_product_101 ?_
          refine sl_ (As := [.long (q_Math_multiplyHigh (q_Floats_raised j0 a1) (q_Floats_raised j0 a2)), .long ((q_Floats_raised j0 a1) * (q_Floats_raised j0 a2))]) (rest := []) hq (c_Bits_marked l A ad (q_Math_multiplyHigh (q_Floats_raised j0 a1) (q_Floats_raised j0 a2)) ((q_Floats_raised j0 a1) * (q_Floats_raised j0 a2))) kB_Bits_marked wt_415 ⟨rfl, rfl, Nat.le_of_ble_eq_true rfl, Nat.le_of_ble_eq_true rfl⟩ rfl hl.1 rfl (Nat.le_of_ble_eq_true rfl) d_Floats_product_102 ⟨Nat.zero_le _, Nat.zero_le _⟩ ?_
          refine lv_lstore (lv' := [(12, .long (q_Bits_marked (q_Math_multiplyHigh (q_Floats_raised j0 a1) (q_Floats_raised j0 a2)) ((q_Floats_raised j0 a1) * (q_Floats_raised j0 a2)))), (10, .long (q_Floats_raised j0 a2)), (8, .long (q_Floats_raised j0 a1)), (7, .int (0 : Int32)), (5, .long (q_Form_sign j0 (a1 ^^^ a2))), (0, .ref (ad j0)), (1, .long a1), (3, .long a2)]) hx hb d_Floats_product_105 hl (by decide) rfl (fun ls hl => ?_)
          refine lv_aload_n hx hb d_Floats_product_107 rfl (lv_at hl 5 rfl) ?_
          refine lv_lload hx hb d_Floats_product_108 (lv_at hl 4 rfl) ?_
          refine lv_lload hx hb d_Floats_product_110 (lv_at hl 0 rfl) ?_
          refine lv_aload_n hx hb d_Floats_product_112 rfl (lv_at hl 5 rfl) ?_
          refine lv_lload_n hx hb d_Floats_product_113 rfl (lv_at hl 6 rfl) ?_
          refine si_ (As := [.ref (ad j0), .long a1]) (rest := [.long (q_Bits_marked (q_Math_multiplyHigh (q_Floats_raised j0 a1) (q_Floats_raised j0 a2)) ((q_Floats_raised j0 a1) * (q_Floats_raised j0 a2))), .long (q_Form_sign j0 (a1 ^^^ a2)), .ref (ad j0)]) hq (c_Floats_raisedScale l A ad j0 hj0 a1) kB_Floats_raisedScale wt_403 ⟨rfl, rfl, Nat.le_of_ble_eq_true rfl, Nat.le_of_ble_eq_true rfl⟩ rfl hl.1 rfl (Nat.le_of_ble_eq_true rfl) d_Floats_product_114 ⟨Nat.zero_le _, Nat.zero_le _⟩ ?_
          refine lv_aload_n hx hb d_Floats_product_117 rfl (lv_at hl 5 rfl) ?_
          refine lv_lload_n hx hb d_Floats_product_118 rfl (lv_at hl 7 rfl) ?_
          refine si_ (As := [.ref (ad j0), .long a2]) (rest := [.int (q_Floats_raisedScale j0 a1), .long (q_Bits_marked (q_Math_multiplyHigh (q_Floats_raised j0 a1) (q_Floats_raised j0 a2)) ((q_Floats_raised j0 a1) * (q_Floats_raised j0 a2))), .long (q_Form_sign j0 (a1 ^^^ a2)), .ref (ad j0)]) hq (c_Floats_raisedScale l A ad j0 hj0 a2) kB_Floats_raisedScale wt_403 ⟨rfl, rfl, Nat.le_of_ble_eq_true rfl, Nat.le_of_ble_eq_true rfl⟩ rfl hl.1 rfl (Nat.le_of_ble_eq_true rfl) d_Floats_product_119 ⟨Nat.zero_le _, Nat.zero_le _⟩ ?_
          refine lv_iadd hx hb d_Floats_product_122 ?_
          refine lv_bipush (v := (64 : Int32)) hx hb d_Floats_product_123 (by decide) ?_
          refine lv_iadd hx hb d_Floats_product_125 ?_
          refine vl_ (As := [.long (q_Form_sign j0 (a1 ^^^ a2)), .long (q_Bits_marked (q_Math_multiplyHigh (q_Floats_raised j0 a1) (q_Floats_raised j0 a2)) ((q_Floats_raised j0 a1) * (q_Floats_raised j0 a2))), .int (((q_Floats_raisedScale j0 a1) + (q_Floats_raisedScale j0 a2)) + (64 : Int32))]) (rest := []) hq hj0 (c_Form_rounded l A ad j0 hj0 (q_Form_sign j0 (a1 ^^^ a2)) (q_Bits_marked (q_Math_multiplyHigh (q_Floats_raised j0 a1) (q_Floats_raised j0 a2)) ((q_Floats_raised j0 a1) * (q_Floats_raised j0 a2))) (((q_Floats_raisedScale j0 a1) + (q_Floats_raisedScale j0 a2)) + (64 : Int32))) kB_Form_rounded wt_418 ⟨rfl, rfl, Nat.le_of_ble_eq_true rfl, Nat.le_of_ble_eq_true rfl⟩ rfl hl.1 rfl (Nat.le_of_ble_eq_true rfl) d_Floats_product_126 ⟨Nat.zero_le _, Nat.zero_le _⟩ ?_
          exact rl_ hx hb hr hk (by rw [q_Floats_product, if_pos c_1, if_pos c_4, if_pos c_5, if_pos c_6]) d_Floats_product_129
        · refine lv_iload hx hb d_Floats_product_48 (lv_at hl 0 rfl) ?_
          refine lv_if_eq (tgt := 60) hx hb d_Floats_product_50 (by decide) (fun _ => ?_) (fun c => absurd (by decide) c)
          refine lv_lload hx hb d_Floats_product_60 (lv_at hl 1 rfl) ?_
          refine lv_aload_n hx hb d_Floats_product_62 rfl (lv_at hl 2 rfl) ?_
          refine gf_i hq hj0 wt_733 d_Floats_product_63 ?_
          refine lv_lor hx hb d_Floats_product_66 ?_
          exact rl_ hx hb hr hk (by rw [q_Floats_product, if_pos c_1, if_pos c_4, if_pos c_5, if_neg c_6]) d_Floats_product_67
    · refine lv_iconst (v := (1 : Int32)) hx hb d_Floats_product_25 (by decide) ?_
      refine lv_goto (tgt := 30) hx hb d_Floats_product_26 (by decide) ?_
      refine lv_istore (lv' := [(7, .int (1 : Int32)), (5, .long (q_Form_sign j0 (a1 ^^^ a2))), (0, .ref (ad j0)), (1, .long a1), (3, .long a2)]) hx hb d_Floats_product_30 hl (by decide) rfl (fun ls hl => ?_)
      refine lv_aload_n hx hb d_Floats_product_32 rfl (lv_at hl 2 rfl) ?_
      refine lv_lload_n hx hb d_Floats_product_33 rfl (lv_at hl 3 rfl) ?_
      refine vi_ (As := [.long a1]) (rest := []) hq hj0 (c_Form_isInfinite l A ad j0 hj0 a1) kB_Form_isInfinite wt_402 ⟨rfl, rfl, Nat.le_of_ble_eq_true rfl, Nat.le_of_ble_eq_true rfl⟩ rfl hl.1 rfl (Nat.le_of_ble_eq_true rfl) d_Floats_product_34 ⟨Nat.zero_le _, Nat.zero_le _⟩ ?_
      refine lv_if_ne (tgt := 48) hx hb d_Floats_product_37 (by decide) (fun c_7 => ?_) (fun c_7 => ?_)
      · refine lv_iload hx hb d_Floats_product_48 (lv_at hl 0 rfl) ?_
        refine lv_if_eq (tgt := 60) hx hb d_Floats_product_50 (by decide) (fun c => absurd c (by decide)) (fun _ => ?_)
        refine lv_aload_n hx hb d_Floats_product_53 rfl (lv_at hl 2 rfl) ?_
        refine gf_n hq hj0 wt_732 d_Floats_product_54 ?_
        refine lv_goto (tgt := 67) hx hb d_Floats_product_57 (by decide) ?_
        exact rl_ hx hb hr hk (by rw [q_Floats_product, if_pos c_1, if_neg c_4, if_neg c_7]) d_Floats_product_67
      · refine lv_aload_n hx hb d_Floats_product_40 rfl (lv_at hl 2 rfl) ?_
        refine lv_lload_n hx hb d_Floats_product_41 rfl (lv_at hl 4 rfl) ?_
        refine vi_ (As := [.long a2]) (rest := []) hq hj0 (c_Form_isInfinite l A ad j0 hj0 a2) kB_Form_isInfinite wt_402 ⟨rfl, rfl, Nat.le_of_ble_eq_true rfl, Nat.le_of_ble_eq_true rfl⟩ rfl hl.1 rfl (Nat.le_of_ble_eq_true rfl) d_Floats_product_42 ⟨Nat.zero_le _, Nat.zero_le _⟩ ?_
        refine lv_if_eq (tgt := 68) hx hb d_Floats_product_45 (by decide) (fun c_8 => ?_) (fun c_8 => ?_)
        · refine lv_iload hx hb d_Floats_product_68 (lv_at hl 0 rfl) ?_
          refine lv_if_eq (tgt := 76) hx hb d_Floats_product_70 (by decide) (fun c => absurd c (by decide)) (fun _ => ?_)
          refine lv_lload hx hb d_Floats_product_73 (lv_at hl 1 rfl) ?_
          exact rl_ hx hb hr hk (by rw [q_Floats_product, if_pos c_1, if_neg c_4, if_pos c_7, if_pos c_8]) d_Floats_product_75
        · refine lv_iload hx hb d_Floats_product_48 (lv_at hl 0 rfl) ?_
          refine lv_if_eq (tgt := 60) hx hb d_Floats_product_50 (by decide) (fun c => absurd c (by decide)) (fun _ => ?_)
          refine lv_aload_n hx hb d_Floats_product_53 rfl (lv_at hl 2 rfl) ?_
          refine gf_n hq hj0 wt_732 d_Floats_product_54 ?_
          refine lv_goto (tgt := 67) hx hb d_Floats_product_57 (by decide) ?_
          exact rl_ hx hb hr hk (by rw [q_Floats_product, if_pos c_1, if_neg c_4, if_pos c_7, if_neg c_8]) d_Floats_product_67
