def q_Wholes_divided (a0 : Int32) (a1 : Int32) (a2 : Int64) (a3 : Int64) : Nat × Int64 :=
  if (q_Bits_signed a1 a3) = (0 : Int64) then
    (2, 0)
  else
    if (q_Bits_lowest a1 a3) = (0 : Int64) then
      (2, 0)
    else
      if a0 = (109 : Int32) then
        if (q_Bits_signed a1 a3) = (-1 : Int64) then
          if (q_Bits_signed a1 a2) = (shl_ (-1 : Int64) (a1 - (1 : Int32))) then
            (3, 0)
          else
            if a0 = (109 : Int32) then
              (0, ((q_Bits_signed a1 a2) / (q_Bits_signed a1 a3)))
            else
              if a0 = (110 : Int32) then
                (0, (q_Wholes_unsignedQuotient (q_Bits_lowest a1 a2) (q_Bits_lowest a1 a3)))
              else
                if a0 = (111 : Int32) then
                  (0, ((q_Bits_signed a1 a2) - (q_Bits_signed a1 a2) / (q_Bits_signed a1 a3) * (q_Bits_signed a1 a3)))
                else
                  (0, ((q_Bits_lowest a1 a2) - ((q_Wholes_unsignedQuotient (q_Bits_lowest a1 a2) (q_Bits_lowest a1 a3)) * (q_Bits_lowest a1 a3))))
        else
          if a0 = (109 : Int32) then
            (0, ((q_Bits_signed a1 a2) / (q_Bits_signed a1 a3)))
          else
            if a0 = (110 : Int32) then
              (0, (q_Wholes_unsignedQuotient (q_Bits_lowest a1 a2) (q_Bits_lowest a1 a3)))
            else
              if a0 = (111 : Int32) then
                (0, ((q_Bits_signed a1 a2) - (q_Bits_signed a1 a2) / (q_Bits_signed a1 a3) * (q_Bits_signed a1 a3)))
              else
                (0, ((q_Bits_lowest a1 a2) - ((q_Wholes_unsignedQuotient (q_Bits_lowest a1 a2) (q_Bits_lowest a1 a3)) * (q_Bits_lowest a1 a3))))
      else
        if a0 = (109 : Int32) then
          (0, ((q_Bits_signed a1 a2) / (q_Bits_signed a1 a3)))
        else
          if a0 = (110 : Int32) then
            (0, (q_Wholes_unsignedQuotient (q_Bits_lowest a1 a2) (q_Bits_lowest a1 a3)))
          else
            if a0 = (111 : Int32) then
              (0, ((q_Bits_signed a1 a2) - (q_Bits_signed a1 a2) / (q_Bits_signed a1 a3) * (q_Bits_signed a1 a3)))
            else
              (0, ((q_Bits_lowest a1 a2) - ((q_Wholes_unsignedQuotient (q_Bits_lowest a1 a2) (q_Bits_lowest a1 a3)) * (q_Bits_lowest a1 a3))))
theorem kB_Wholes_divided : SB y_Wholes_divided b_Wholes_divided 14 (some .long) 4 := ⟨wt_343, wt_342, wt_51, by decide +kernel⟩
theorem ta_Wholes_divided_44 {ad : Nat → Nat} {args : Array Value} {s : State} (hts : ∀ w ∈ BT, w.before args s = true) (hN : NW ad s) : ∀ w ∈ vx_atS "BitArithmetic$Wholes" 54 (exN 2) exU, w.before args s = true := th_at [38, 143, 152, 157, 160, 162, 144, 145, 62, 63, 146, 151, 158, 178, 133, 179, 135, 180, 137, 147, 149, 139, 174, 175, 177, 139, 356, 357, 358, 168, 168, 169, 170, 171, 171, 172, 173, 174, 355, 346, 348, 154, 349, 350, 351, 352, 142, 141, 353] hts hN (by decide +kernel) (by decide +kernel)
theorem ta_Wholes_divided_82 {ad : Nat → Nat} {args : Array Value} {s : State} (hts : ∀ w ∈ BT, w.before args s = true) (hN : NW ad s) : ∀ w ∈ vx_atS "BitArithmetic$Wholes" 63 (exN 3) exU, w.before args s = true := th_at [38, 143, 152, 157, 160, 162, 144, 145, 62, 63, 146, 151, 158, 178, 133, 179, 135, 180, 137, 147, 149, 139, 174, 175, 177, 139, 310, 311, 312, 168, 168, 169, 170, 171, 171, 172, 173, 174, 364, 300, 302, 155, 303, 304, 305, 306, 142, 141, 307] hts hN (by decide +kernel) (by decide +kernel)
set_option maxHeartbeats 4000000 in
set_option maxRecDepth 100000 in
theorem c_Wholes_divided (l : Launch) (hlt : l.stackTraces = false) (A : Nat → Prop) (ad : Nat → Nat) (a0 : Int32) (a1 : Int32) (a2 : Int64) (a3 : Int64) : vx_Met l y_Wholes_divided (Cond.code y_Wholes_divided b_Wholes_divided 14 (some .long) :: BT) ({ frames := 6, cells := 1, slots := 6, locals := 82 }) (PT A ad [.int a0, .int a1, .long a2, .long a3]) (te_S (q_Wholes_divided a0 a1 a2 a3)) (te_X (q_Wholes_divided a0 a1 a2 a3)) 1 6 (fun _ => False) := by
  refine pt_ (by decide) (Nat.le_of_ble_eq_true rfl) ?_
  intro p e s m below meth c hq hN ht hr hk ls hl
  have hx := hq.1
  have hb := hq.2.1
  have hts := hq.2.2.2.2.1
  have hl : lv_has ls 14 [(0, .int a0), (1, .int a1), (2, .long a2), (4, .long a3)] := hl
  refine lv_iload_n hx hb d_Wholes_divided_0 rfl (lv_at hl 1 rfl) ?_
  refine lv_lload_n hx hb d_Wholes_divided_1 rfl (lv_at hl 2 rfl) ?_
  refine sl_ (As := [.int a1, .long a2]) (rest := []) hq (c_Bits_signed l A ad a1 a2) kB_Bits_signed wt_344 ⟨rfl, rfl, Nat.le_of_ble_eq_true rfl, Nat.le_of_ble_eq_true rfl⟩ rfl hl.1 rfl (Nat.le_of_ble_eq_true rfl) d_Wholes_divided_2 ⟨Nat.le_of_ble_eq_true rfl, Nat.le_of_ble_eq_true rfl⟩ ?_
  refine lv_lstore (lv' := [(6, .long (q_Bits_signed a1 a2)), (0, .int a0), (1, .int a1), (2, .long a2), (4, .long a3)]) hx hb d_Wholes_divided_5 hl (by decide) rfl (fun ls hl => ?_)
  refine lv_iload_n hx hb d_Wholes_divided_7 rfl (lv_at hl 2 rfl) ?_
  refine lv_lload hx hb d_Wholes_divided_8 (lv_at hl 4 rfl) ?_
  refine sl_ (As := [.int a1, .long a3]) (rest := []) hq (c_Bits_signed l A ad a1 a3) kB_Bits_signed wt_344 ⟨rfl, rfl, Nat.le_of_ble_eq_true rfl, Nat.le_of_ble_eq_true rfl⟩ rfl hl.1 rfl (Nat.le_of_ble_eq_true rfl) d_Wholes_divided_10 ⟨Nat.le_of_ble_eq_true rfl, Nat.le_of_ble_eq_true rfl⟩ ?_
  refine lv_lstore (lv' := [(8, .long (q_Bits_signed a1 a3)), (6, .long (q_Bits_signed a1 a2)), (0, .int a0), (1, .int a1), (2, .long a2), (4, .long a3)]) hx hb d_Wholes_divided_13 hl (by decide) rfl (fun ls hl => ?_)
  refine lv_iload_n hx hb d_Wholes_divided_15 rfl (lv_at hl 3 rfl) ?_
  refine lv_lload_n hx hb d_Wholes_divided_16 rfl (lv_at hl 4 rfl) ?_
  refine sl_ (As := [.int a1, .long a2]) (rest := []) hq (c_Bits_lowest l A ad a1 a2) kB_Bits_lowest wt_324 ⟨rfl, rfl, Nat.le_of_ble_eq_true rfl, Nat.le_of_ble_eq_true rfl⟩ rfl hl.1 rfl (Nat.le_of_ble_eq_true rfl) d_Wholes_divided_17 ⟨Nat.le_of_ble_eq_true rfl, Nat.le_of_ble_eq_true rfl⟩ ?_
  refine lv_lstore (lv' := [(10, .long (q_Bits_lowest a1 a2)), (8, .long (q_Bits_signed a1 a3)), (6, .long (q_Bits_signed a1 a2)), (0, .int a0), (1, .int a1), (2, .long a2), (4, .long a3)]) hx hb d_Wholes_divided_20 hl (by decide) rfl (fun ls hl => ?_)
  refine lv_iload_n hx hb d_Wholes_divided_22 rfl (lv_at hl 4 rfl) ?_
  refine lv_lload hx hb d_Wholes_divided_23 (lv_at hl 6 rfl) ?_
  refine sl_ (As := [.int a1, .long a3]) (rest := []) hq (c_Bits_lowest l A ad a1 a3) kB_Bits_lowest wt_324 ⟨rfl, rfl, Nat.le_of_ble_eq_true rfl, Nat.le_of_ble_eq_true rfl⟩ rfl hl.1 rfl (Nat.le_of_ble_eq_true rfl) d_Wholes_divided_25 ⟨Nat.le_of_ble_eq_true rfl, Nat.le_of_ble_eq_true rfl⟩ ?_
  refine lv_lstore (lv' := [(12, .long (q_Bits_lowest a1 a3)), (10, .long (q_Bits_lowest a1 a2)), (8, .long (q_Bits_signed a1 a3)), (6, .long (q_Bits_signed a1 a2)), (0, .int a0), (1, .int a1), (2, .long a2), (4, .long a3)]) hx hb d_Wholes_divided_28 hl (by decide) rfl (fun ls hl => ?_)
  refine lv_lload hx hb d_Wholes_divided_30 (lv_at hl 2 rfl) ?_
  refine lv_lconst (v := (0 : Int64)) hx hb d_Wholes_divided_32 (by decide) ?_
  refine W.lcmp hx hb d_Wholes_divided_33 ?_
  refine lv_if_eq (tgt := 44) hx hb d_Wholes_divided_34 (by decide) (fun c_1 => ?_) (fun c_1 => ?_)
  · rw [lg_cmp_eq] at c_1
    exact th_ (k := 2) hq hlt ht hk (by rw [q_Wholes_divided, if_pos c_1]) (by decide) (by decide +kernel) wt_345 wt_52 hN.2.2.2.2.2.2.2.2.2.2.1 (ta_Wholes_divided_44 hts hN) (by decide +kernel) hl.1 d_Wholes_divided_44 d_Wholes_divided_47 d_Wholes_divided_48 d_Wholes_divided_50 d_Wholes_divided_53 ⟨Nat.le_of_ble_eq_true rfl, Nat.le_of_ble_eq_true rfl, Nat.le_of_ble_eq_true rfl, Nat.le_of_ble_eq_true rfl⟩
  · rw [lg_cmp_eq] at c_1
    refine lv_lload hx hb d_Wholes_divided_37 (lv_at hl 0 rfl) ?_
    refine lv_lconst (v := (0 : Int64)) hx hb d_Wholes_divided_39 (by decide) ?_
    refine W.lcmp hx hb d_Wholes_divided_40 ?_
    refine lv_if_ne (tgt := 54) hx hb d_Wholes_divided_41 (by decide) (fun c_2 => ?_) (fun c_2 => ?_)
    · rw [lg_cmp_eq] at c_2
      refine lv_iload_n hx hb d_Wholes_divided_54 rfl (lv_at hl 4 rfl) ?_
      refine lv_bipush (v := (109 : Int32)) hx hb d_Wholes_divided_55 (by decide) ?_
      refine lv_icmp_ne (tgt := 92) hx hb d_Wholes_divided_57 (by decide) (fun c_3 => ?_) (fun c_3 => ?_)
      · refine lv_iload_n hx hb d_Wholes_divided_92 rfl (lv_at hl 4 rfl) ?_
        by_cases c_4 : a0 = (109 : Int32)
        · refine lv_tableIn (tgt := 120) hx hb d_Wholes_divided_93 (by rw [c_4]; decide) (by rw [c_4]; decide) (by rw [c_4]; rfl) (by decide) ?_
          refine lv_lload hx hb d_Wholes_divided_120 (lv_at hl 3 rfl) ?_
          refine lv_lload hx hb d_Wholes_divided_122 (lv_at hl 2 rfl) ?_
          refine lv_ldiv hx hb d_Wholes_divided_124 c_1 ?_
          exact rt_l hx hb hr hk (by rw [q_Wholes_divided, if_neg c_1, if_neg c_2, if_neg c_3, if_pos c_4]) d_Wholes_divided_125 ⟨by decide, by decide⟩
        by_cases c_5 : a0 = (110 : Int32)
        · refine lv_tableIn (tgt := 126) hx hb d_Wholes_divided_93 (by rw [c_5]; decide) (by rw [c_5]; decide) (by rw [c_5]; rfl) (by decide) ?_
          refine lv_lload hx hb d_Wholes_divided_126 (lv_at hl 1 rfl) ?_
          refine lv_lload hx hb d_Wholes_divided_128 (lv_at hl 0 rfl) ?_
          refine sl_ (As := [.long (q_Bits_lowest a1 a2), .long (q_Bits_lowest a1 a3)]) (rest := []) hq (c_Wholes_unsignedQuotient l A ad (q_Bits_lowest a1 a2) (q_Bits_lowest a1 a3) c_2) kB_Wholes_unsignedQuotient wt_365 ⟨rfl, rfl, Nat.le_of_ble_eq_true rfl, Nat.le_of_ble_eq_true rfl⟩ rfl hl.1 rfl (Nat.le_of_ble_eq_true rfl) d_Wholes_divided_130 ⟨Nat.le_of_ble_eq_true rfl, Nat.le_of_ble_eq_true rfl⟩ ?_
          exact rt_l hx hb hr hk (by rw [q_Wholes_divided, if_neg c_1, if_neg c_2, if_neg c_3, if_neg c_4, if_pos c_5]) d_Wholes_divided_133 ⟨by decide, by decide⟩
        by_cases c_6 : a0 = (111 : Int32)
        · refine lv_tableIn (tgt := 134) hx hb d_Wholes_divided_93 (by rw [c_6]; decide) (by rw [c_6]; decide) (by rw [c_6]; rfl) (by decide) ?_
          refine lv_lload hx hb d_Wholes_divided_134 (lv_at hl 3 rfl) ?_
          refine lv_lload hx hb d_Wholes_divided_136 (lv_at hl 2 rfl) ?_
          refine lv_lrem hx hb d_Wholes_divided_138 c_1 ?_
          exact rt_l hx hb hr hk (by rw [q_Wholes_divided, if_neg c_1, if_neg c_2, if_neg c_3, if_neg c_4, if_neg c_5, if_pos c_6]) d_Wholes_divided_139 ⟨by decide, by decide⟩
        have hsw : a0.toInt < 109 ∨ 111 < a0.toInt := by
          have := lv_neT c_4 (a := 109) (by decide)
          have := lv_neT c_5 (a := 110) (by decide)
          have := lv_neT c_6 (a := 111) (by decide)
          omega
        refine lv_tableOut (tgt := 140) hx hb d_Wholes_divided_93 hsw (by decide) ?_
        refine lv_lload hx hb d_Wholes_divided_140 (lv_at hl 1 rfl) ?_
        refine lv_lload hx hb d_Wholes_divided_142 (lv_at hl 1 rfl) ?_
        refine lv_lload hx hb d_Wholes_divided_144 (lv_at hl 0 rfl) ?_
        refine sl_ (As := [.long (q_Bits_lowest a1 a2), .long (q_Bits_lowest a1 a3)]) (rest := [.long (q_Bits_lowest a1 a2)]) hq (c_Wholes_unsignedQuotient l A ad (q_Bits_lowest a1 a2) (q_Bits_lowest a1 a3) c_2) kB_Wholes_unsignedQuotient wt_365 ⟨rfl, rfl, Nat.le_of_ble_eq_true rfl, Nat.le_of_ble_eq_true rfl⟩ rfl hl.1 rfl (Nat.le_of_ble_eq_true rfl) d_Wholes_divided_146 ⟨Nat.le_of_ble_eq_true rfl, Nat.le_of_ble_eq_true rfl⟩ ?_
        refine lv_lload hx hb d_Wholes_divided_149 (lv_at hl 0 rfl) ?_
        refine lv_lmul hx hb d_Wholes_divided_151 ?_
        refine lv_lsub hx hb d_Wholes_divided_152 ?_
        exact rt_l hx hb hr hk (by rw [q_Wholes_divided, if_neg c_1, if_neg c_2, if_neg c_3, if_neg c_4, if_neg c_5, if_neg c_6]) d_Wholes_divided_153 ⟨by decide, by decide⟩
      · refine lv_lload hx hb d_Wholes_divided_60 (lv_at hl 2 rfl) ?_
        refine lv_ldc2 (v := (-1 : Int64)) hx hb hq.2.2.2.1 (hts _ wt_361) d_Wholes_divided_62 ?_
        refine W.lcmp hx hb d_Wholes_divided_65 ?_
        refine lv_if_ne (tgt := 92) hx hb d_Wholes_divided_66 (by decide) (fun c_7 => ?_) (fun c_7 => ?_)
        · rw [lg_cmp_eq] at c_7
          refine lv_iload_n hx hb d_Wholes_divided_92 rfl (lv_at hl 4 rfl) ?_
          by_cases c_8 : a0 = (109 : Int32)
          · refine lv_tableIn (tgt := 120) hx hb d_Wholes_divided_93 (by rw [c_8]; decide) (by rw [c_8]; decide) (by rw [c_8]; rfl) (by decide) ?_
            refine lv_lload hx hb d_Wholes_divided_120 (lv_at hl 3 rfl) ?_
            refine lv_lload hx hb d_Wholes_divided_122 (lv_at hl 2 rfl) ?_
            refine lv_ldiv hx hb d_Wholes_divided_124 c_1 ?_
            exact rt_l hx hb hr hk (by rw [q_Wholes_divided, if_neg c_1, if_neg c_2, if_pos c_3, if_neg c_7, if_pos c_8]) d_Wholes_divided_125 ⟨by decide, by decide⟩
          by_cases c_9 : a0 = (110 : Int32)
          · refine lv_tableIn (tgt := 126) hx hb d_Wholes_divided_93 (by rw [c_9]; decide) (by rw [c_9]; decide) (by rw [c_9]; rfl) (by decide) ?_
            refine lv_lload hx hb d_Wholes_divided_126 (lv_at hl 1 rfl) ?_
            refine lv_lload hx hb d_Wholes_divided_128 (lv_at hl 0 rfl) ?_
            refine sl_ (As := [.long (q_Bits_lowest a1 a2), .long (q_Bits_lowest a1 a3)]) (rest := []) hq (c_Wholes_unsignedQuotient l A ad (q_Bits_lowest a1 a2) (q_Bits_lowest a1 a3) c_2) kB_Wholes_unsignedQuotient wt_365 ⟨rfl, rfl, Nat.le_of_ble_eq_true rfl, Nat.le_of_ble_eq_true rfl⟩ rfl hl.1 rfl (Nat.le_of_ble_eq_true rfl) d_Wholes_divided_130 ⟨Nat.le_of_ble_eq_true rfl, Nat.le_of_ble_eq_true rfl⟩ ?_
            exact rt_l hx hb hr hk (by rw [q_Wholes_divided, if_neg c_1, if_neg c_2, if_pos c_3, if_neg c_7, if_neg c_8, if_pos c_9]) d_Wholes_divided_133 ⟨by decide, by decide⟩
          by_cases c_10 : a0 = (111 : Int32)
          · refine lv_tableIn (tgt := 134) hx hb d_Wholes_divided_93 (by rw [c_10]; decide) (by rw [c_10]; decide) (by rw [c_10]; rfl) (by decide) ?_
            refine lv_lload hx hb d_Wholes_divided_134 (lv_at hl 3 rfl) ?_
            refine lv_lload hx hb d_Wholes_divided_136 (lv_at hl 2 rfl) ?_
            refine lv_lrem hx hb d_Wholes_divided_138 c_1 ?_
            exact rt_l hx hb hr hk (by rw [q_Wholes_divided, if_neg c_1, if_neg c_2, if_pos c_3, if_neg c_7, if_neg c_8, if_neg c_9, if_pos c_10]) d_Wholes_divided_139 ⟨by decide, by decide⟩
          have hsw : a0.toInt < 109 ∨ 111 < a0.toInt := by
            have := lv_neT c_8 (a := 109) (by decide)
            have := lv_neT c_9 (a := 110) (by decide)
            have := lv_neT c_10 (a := 111) (by decide)
            omega
          refine lv_tableOut (tgt := 140) hx hb d_Wholes_divided_93 hsw (by decide) ?_
          refine lv_lload hx hb d_Wholes_divided_140 (lv_at hl 1 rfl) ?_
          refine lv_lload hx hb d_Wholes_divided_142 (lv_at hl 1 rfl) ?_
          refine lv_lload hx hb d_Wholes_divided_144 (lv_at hl 0 rfl) ?_
          refine sl_ (As := [.long (q_Bits_lowest a1 a2), .long (q_Bits_lowest a1 a3)]) (rest := [.long (q_Bits_lowest a1 a2)]) hq (c_Wholes_unsignedQuotient l A ad (q_Bits_lowest a1 a2) (q_Bits_lowest a1 a3) c_2) kB_Wholes_unsignedQuotient wt_365 ⟨rfl, rfl, Nat.le_of_ble_eq_true rfl, Nat.le_of_ble_eq_true rfl⟩ rfl hl.1 rfl (Nat.le_of_ble_eq_true rfl) d_Wholes_divided_146 ⟨Nat.le_of_ble_eq_true rfl, Nat.le_of_ble_eq_true rfl⟩ ?_
          refine lv_lload hx hb d_Wholes_divided_149 (lv_at hl 0 rfl) ?_
          refine lv_lmul hx hb d_Wholes_divided_151 ?_
          refine lv_lsub hx hb d_Wholes_divided_152 ?_
          exact rt_l hx hb hr hk (by rw [q_Wholes_divided, if_neg c_1, if_neg c_2, if_pos c_3, if_neg c_7, if_neg c_8, if_neg c_9, if_neg c_10]) d_Wholes_divided_153 ⟨by decide, by decide⟩
        · rw [lg_cmp_eq] at c_7
          refine lv_lload hx hb d_Wholes_divided_69 (lv_at hl 3 rfl) ?_
          refine lv_ldc2 (v := (-1 : Int64)) hx hb hq.2.2.2.1 (hts _ wt_361) d_Wholes_divided_71 ?_
          refine lv_iload_n hx hb d_Wholes_divided_74 rfl (lv_at hl 5 rfl) ?_
          refine lv_iconst (v := (1 : Int32)) hx hb d_Wholes_divided_75 (by decide) ?_
          refine lv_isub hx hb d_Wholes_divided_76 ?_
          refine lv_lshl (v := (shl_ (-1 : Int64) (a1 - (1 : Int32)))) hx hb d_Wholes_divided_77 rfl ?_
          refine W.lcmp hx hb d_Wholes_divided_78 ?_
          refine lv_if_ne (tgt := 92) hx hb d_Wholes_divided_79 (by decide) (fun c_11 => ?_) (fun c_11 => ?_)
          · rw [lg_cmp_eq] at c_11
            refine lv_iload_n hx hb d_Wholes_divided_92 rfl (lv_at hl 4 rfl) ?_
            by_cases c_12 : a0 = (109 : Int32)
            · refine lv_tableIn (tgt := 120) hx hb d_Wholes_divided_93 (by rw [c_12]; decide) (by rw [c_12]; decide) (by rw [c_12]; rfl) (by decide) ?_
              refine lv_lload hx hb d_Wholes_divided_120 (lv_at hl 3 rfl) ?_
              refine lv_lload hx hb d_Wholes_divided_122 (lv_at hl 2 rfl) ?_
              refine lv_ldiv hx hb d_Wholes_divided_124 c_1 ?_
              exact rt_l hx hb hr hk (by rw [q_Wholes_divided, if_neg c_1, if_neg c_2, if_pos c_3, if_pos c_7, if_neg c_11, if_pos c_12]) d_Wholes_divided_125 ⟨by decide, by decide⟩
            by_cases c_13 : a0 = (110 : Int32)
            · refine lv_tableIn (tgt := 126) hx hb d_Wholes_divided_93 (by rw [c_13]; decide) (by rw [c_13]; decide) (by rw [c_13]; rfl) (by decide) ?_
              refine lv_lload hx hb d_Wholes_divided_126 (lv_at hl 1 rfl) ?_
              refine lv_lload hx hb d_Wholes_divided_128 (lv_at hl 0 rfl) ?_
              refine sl_ (As := [.long (q_Bits_lowest a1 a2), .long (q_Bits_lowest a1 a3)]) (rest := []) hq (c_Wholes_unsignedQuotient l A ad (q_Bits_lowest a1 a2) (q_Bits_lowest a1 a3) c_2) kB_Wholes_unsignedQuotient wt_365 ⟨rfl, rfl, Nat.le_of_ble_eq_true rfl, Nat.le_of_ble_eq_true rfl⟩ rfl hl.1 rfl (Nat.le_of_ble_eq_true rfl) d_Wholes_divided_130 ⟨Nat.le_of_ble_eq_true rfl, Nat.le_of_ble_eq_true rfl⟩ ?_
              exact rt_l hx hb hr hk (by rw [q_Wholes_divided, if_neg c_1, if_neg c_2, if_pos c_3, if_pos c_7, if_neg c_11, if_neg c_12, if_pos c_13]) d_Wholes_divided_133 ⟨by decide, by decide⟩
            by_cases c_14 : a0 = (111 : Int32)
            · refine lv_tableIn (tgt := 134) hx hb d_Wholes_divided_93 (by rw [c_14]; decide) (by rw [c_14]; decide) (by rw [c_14]; rfl) (by decide) ?_
              refine lv_lload hx hb d_Wholes_divided_134 (lv_at hl 3 rfl) ?_
              refine lv_lload hx hb d_Wholes_divided_136 (lv_at hl 2 rfl) ?_
              refine lv_lrem hx hb d_Wholes_divided_138 c_1 ?_
              exact rt_l hx hb hr hk (by rw [q_Wholes_divided, if_neg c_1, if_neg c_2, if_pos c_3, if_pos c_7, if_neg c_11, if_neg c_12, if_neg c_13, if_pos c_14]) d_Wholes_divided_139 ⟨by decide, by decide⟩
            have hsw : a0.toInt < 109 ∨ 111 < a0.toInt := by
              have := lv_neT c_12 (a := 109) (by decide)
              have := lv_neT c_13 (a := 110) (by decide)
              have := lv_neT c_14 (a := 111) (by decide)
              omega
            refine lv_tableOut (tgt := 140) hx hb d_Wholes_divided_93 hsw (by decide) ?_
            refine lv_lload hx hb d_Wholes_divided_140 (lv_at hl 1 rfl) ?_
            refine lv_lload hx hb d_Wholes_divided_142 (lv_at hl 1 rfl) ?_
            refine lv_lload hx hb d_Wholes_divided_144 (lv_at hl 0 rfl) ?_
            refine sl_ (As := [.long (q_Bits_lowest a1 a2), .long (q_Bits_lowest a1 a3)]) (rest := [.long (q_Bits_lowest a1 a2)]) hq (c_Wholes_unsignedQuotient l A ad (q_Bits_lowest a1 a2) (q_Bits_lowest a1 a3) c_2) kB_Wholes_unsignedQuotient wt_365 ⟨rfl, rfl, Nat.le_of_ble_eq_true rfl, Nat.le_of_ble_eq_true rfl⟩ rfl hl.1 rfl (Nat.le_of_ble_eq_true rfl) d_Wholes_divided_146 ⟨Nat.le_of_ble_eq_true rfl, Nat.le_of_ble_eq_true rfl⟩ ?_
            refine lv_lload hx hb d_Wholes_divided_149 (lv_at hl 0 rfl) ?_
            refine lv_lmul hx hb d_Wholes_divided_151 ?_
            refine lv_lsub hx hb d_Wholes_divided_152 ?_
            exact rt_l hx hb hr hk (by rw [q_Wholes_divided, if_neg c_1, if_neg c_2, if_pos c_3, if_pos c_7, if_neg c_11, if_neg c_12, if_neg c_13, if_neg c_14]) d_Wholes_divided_153 ⟨by decide, by decide⟩
          · rw [lg_cmp_eq] at c_11
            exact th_ (k := 3) hq hlt ht hk (by rw [q_Wholes_divided, if_neg c_1, if_neg c_2, if_pos c_3, if_pos c_7, if_pos c_11]) (by decide) (by decide +kernel) wt_362 wt_50 hN.2.2.2.2.2.2.2.2.2.2.2 (ta_Wholes_divided_82 hts hN) (by decide +kernel) hl.1 d_Wholes_divided_82 d_Wholes_divided_85 d_Wholes_divided_86 d_Wholes_divided_88 d_Wholes_divided_91 ⟨Nat.le_of_ble_eq_true rfl, Nat.le_of_ble_eq_true rfl, Nat.le_of_ble_eq_true rfl, Nat.le_of_ble_eq_true rfl⟩
    · rw [lg_cmp_eq] at c_2
      exact th_ (k := 2) hq hlt ht hk (by rw [q_Wholes_divided, if_neg c_1, if_pos c_2]) (by decide) (by decide +kernel) wt_345 wt_52 hN.2.2.2.2.2.2.2.2.2.2.1 (ta_Wholes_divided_44 hts hN) (by decide +kernel) hl.1 d_Wholes_divided_44 d_Wholes_divided_47 d_Wholes_divided_48 d_Wholes_divided_50 d_Wholes_divided_53 ⟨Nat.le_of_ble_eq_true rfl, Nat.le_of_ble_eq_true rfl, Nat.le_of_ble_eq_true rfl, Nat.le_of_ble_eq_true rfl⟩
def q_Wholes_calculate (a0 : Int32) (a1 : Int32) (a2 : Int64) (a3 : Int64) : Nat × Int64 :=
  if (105 : Int32) < a0 then
    if a0 < (109 : Int32) then
      if a0 < (116 : Int32) then
        (0, (q_Bits_lowest a1 (q_Wholes_combined a0 a2 a3)))
      else
        (0, (q_Bits_lowest a1 (q_Wholes_moved a0 a1 a2 (Int64.toInt32 (a3 &&& (Int32.toInt64 (a1 - (1 : Int32))))))))
    else
      if (112 : Int32) < a0 then
        if a0 < (116 : Int32) then
          (0, (q_Bits_lowest a1 (q_Wholes_combined a0 a2 a3)))
        else
          (0, (q_Bits_lowest a1 (q_Wholes_moved a0 a1 a2 (Int64.toInt32 (a3 &&& (Int32.toInt64 (a1 - (1 : Int32))))))))
      else
        if (q_Wholes_divided a0 a1 a2 a3).1 = 0 then
          (0, (q_Bits_lowest a1 ((q_Wholes_divided a0 a1 a2 a3).2)))
        else
          ((q_Wholes_divided a0 a1 a2 a3).1, 0)
  else
    (0, (q_Wholes_counted a0 a1 (q_Bits_lowest a1 a2)))
theorem kB_Wholes_calculate : SB y_Wholes_calculate b_Wholes_calculate 6 (some .long) 4 := ⟨wt_323, wt_322, wt_51, by decide +kernel⟩
set_option maxHeartbeats 4000000 in
set_option maxRecDepth 100000 in
theorem c_Wholes_calculate (l : Launch) (hlt : l.stackTraces = false) (A : Nat → Prop) (ad : Nat → Nat) (a0 : Int32) (a1 : Int32) (a2 : Int64) (a3 : Int64) : vx_Met l y_Wholes_calculate (Cond.code y_Wholes_calculate b_Wholes_calculate 6 (some .long) :: BT) ({ frames := 7, cells := 1, slots := 6, locals := 115 }) (PT A ad [.int a0, .int a1, .long a2, .long a3]) (te_S (q_Wholes_calculate a0 a1 a2 a3)) (te_X (q_Wholes_calculate a0 a1 a2 a3)) 1 6 (fun _ => False) := by
  refine pt_ (by decide) (Nat.le_of_ble_eq_true rfl) ?_
  intro p e s m below meth c hq hN ht hr hk ls hl
  have hx := hq.1
  have hb := hq.2.1
  have hts := hq.2.2.2.2.1
  have hl : lv_has ls 6 [(0, .int a0), (1, .int a1), (2, .long a2), (4, .long a3)] := hl
  refine lv_iload_n hx hb d_Wholes_calculate_0 rfl (lv_at hl 0 rfl) ?_
  refine lv_bipush (v := (105 : Int32)) hx hb d_Wholes_calculate_1 (by decide) ?_
  refine lv_icmp_gt (tgt := 17) hx hb d_Wholes_calculate_3 (by decide) (fun c_1 => ?_) (fun c_1 => ?_)
  · refine lv_iload_n hx hb d_Wholes_calculate_17 rfl (lv_at hl 0 rfl) ?_
    refine lv_bipush (v := (109 : Int32)) hx hb d_Wholes_calculate_18 (by decide) ?_
    refine lv_icmp_lt (tgt := 42) hx hb d_Wholes_calculate_20 (by decide) (fun c_2 => ?_) (fun c_2 => ?_)
    · refine lv_iload_n hx hb d_Wholes_calculate_42 rfl (lv_at hl 0 rfl) ?_
      refine lv_bipush (v := (116 : Int32)) hx hb d_Wholes_calculate_43 (by decide) ?_
      refine lv_icmp_lt (tgt := 67) hx hb d_Wholes_calculate_45 (by decide) (fun c_3 => ?_) (fun c_3 => ?_)
      · refine lv_iload_n hx hb d_Wholes_calculate_67 rfl (lv_at hl 1 rfl) ?_
        refine lv_iload_n hx hb d_Wholes_calculate_68 rfl (lv_at hl 0 rfl) ?_
        refine lv_lload_n hx hb d_Wholes_calculate_69 rfl (lv_at hl 2 rfl) ?_
        refine lv_lload hx hb d_Wholes_calculate_70 (lv_at hl 3 rfl) ?_
        refine sl_ (As := [.int a0, .long a2, .long a3]) (rest := [.int a1]) hq (c_Wholes_combined l A ad a0 a2 a3) kB_Wholes_combined wt_380 ⟨rfl, rfl, Nat.le_of_ble_eq_true rfl, Nat.le_of_ble_eq_true rfl⟩ rfl hl.1 rfl (Nat.le_of_ble_eq_true rfl) d_Wholes_calculate_72 ⟨Nat.le_of_ble_eq_true rfl, Nat.le_of_ble_eq_true rfl⟩ ?_
        refine sl_ (As := [.int a1, .long (q_Wholes_combined a0 a2 a3)]) (rest := []) hq (c_Bits_lowest l A ad a1 (q_Wholes_combined a0 a2 a3)) kB_Bits_lowest wt_324 ⟨rfl, rfl, Nat.le_of_ble_eq_true rfl, Nat.le_of_ble_eq_true rfl⟩ rfl hl.1 rfl (Nat.le_of_ble_eq_true rfl) d_Wholes_calculate_75 ⟨Nat.le_of_ble_eq_true rfl, Nat.le_of_ble_eq_true rfl⟩ ?_
        exact rt_l hx hb hr hk (by rw [q_Wholes_calculate, if_pos c_1, if_pos c_2, if_pos c_3]) d_Wholes_calculate_78 ⟨by decide, by decide⟩
      · refine lv_iload_n hx hb d_Wholes_calculate_48 rfl (lv_at hl 1 rfl) ?_
        refine lv_iload_n hx hb d_Wholes_calculate_49 rfl (lv_at hl 0 rfl) ?_
        refine lv_iload_n hx hb d_Wholes_calculate_50 rfl (lv_at hl 1 rfl) ?_
        refine lv_lload_n hx hb d_Wholes_calculate_51 rfl (lv_at hl 2 rfl) ?_
        refine lv_lload hx hb d_Wholes_calculate_52 (lv_at hl 3 rfl) ?_
        refine lv_iload_n hx hb d_Wholes_calculate_54 rfl (lv_at hl 1 rfl) ?_
        refine lv_iconst (v := (1 : Int32)) hx hb d_Wholes_calculate_55 (by decide) ?_
        refine lv_isub hx hb d_Wholes_calculate_56 ?_
        refine lv_i2l (v := (Int32.toInt64 (a1 - (1 : Int32)))) hx hb d_Wholes_calculate_57 rfl ?_
        refine lv_land hx hb d_Wholes_calculate_58 ?_
        refine lv_l2i (v := (Int64.toInt32 (a3 &&& (Int32.toInt64 (a1 - (1 : Int32)))))) hx hb d_Wholes_calculate_59 rfl ?_
        refine sl_ (As := [.int a0, .int a1, .long a2, .int (Int64.toInt32 (a3 &&& (Int32.toInt64 (a1 - (1 : Int32)))))]) (rest := [.int a1]) hq (c_Wholes_moved l A ad a0 a1 a2 (Int64.toInt32 (a3 &&& (Int32.toInt64 (a1 - (1 : Int32)))))) kB_Wholes_moved wt_368 ⟨rfl, rfl, Nat.le_of_ble_eq_true rfl, Nat.le_of_ble_eq_true rfl⟩ rfl hl.1 rfl (Nat.le_of_ble_eq_true rfl) d_Wholes_calculate_60 ⟨Nat.le_of_ble_eq_true rfl, Nat.le_of_ble_eq_true rfl⟩ ?_
        refine sl_ (As := [.int a1, .long (q_Wholes_moved a0 a1 a2 (Int64.toInt32 (a3 &&& (Int32.toInt64 (a1 - (1 : Int32))))))]) (rest := []) hq (c_Bits_lowest l A ad a1 (q_Wholes_moved a0 a1 a2 (Int64.toInt32 (a3 &&& (Int32.toInt64 (a1 - (1 : Int32))))))) kB_Bits_lowest wt_324 ⟨rfl, rfl, Nat.le_of_ble_eq_true rfl, Nat.le_of_ble_eq_true rfl⟩ rfl hl.1 rfl (Nat.le_of_ble_eq_true rfl) d_Wholes_calculate_63 ⟨Nat.le_of_ble_eq_true rfl, Nat.le_of_ble_eq_true rfl⟩ ?_
        exact rt_l hx hb hr hk (by rw [q_Wholes_calculate, if_pos c_1, if_pos c_2, if_neg c_3]) d_Wholes_calculate_66 ⟨by decide, by decide⟩
    · refine lv_iload_n hx hb d_Wholes_calculate_23 rfl (lv_at hl 0 rfl) ?_
      refine lv_bipush (v := (112 : Int32)) hx hb d_Wholes_calculate_24 (by decide) ?_
      refine lv_icmp_gt (tgt := 42) hx hb d_Wholes_calculate_26 (by decide) (fun c_4 => ?_) (fun c_4 => ?_)
      · refine lv_iload_n hx hb d_Wholes_calculate_42 rfl (lv_at hl 0 rfl) ?_
        refine lv_bipush (v := (116 : Int32)) hx hb d_Wholes_calculate_43 (by decide) ?_
        refine lv_icmp_lt (tgt := 67) hx hb d_Wholes_calculate_45 (by decide) (fun c_5 => ?_) (fun c_5 => ?_)
        · refine lv_iload_n hx hb d_Wholes_calculate_67 rfl (lv_at hl 1 rfl) ?_
          refine lv_iload_n hx hb d_Wholes_calculate_68 rfl (lv_at hl 0 rfl) ?_
          refine lv_lload_n hx hb d_Wholes_calculate_69 rfl (lv_at hl 2 rfl) ?_
          refine lv_lload hx hb d_Wholes_calculate_70 (lv_at hl 3 rfl) ?_
          refine sl_ (As := [.int a0, .long a2, .long a3]) (rest := [.int a1]) hq (c_Wholes_combined l A ad a0 a2 a3) kB_Wholes_combined wt_380 ⟨rfl, rfl, Nat.le_of_ble_eq_true rfl, Nat.le_of_ble_eq_true rfl⟩ rfl hl.1 rfl (Nat.le_of_ble_eq_true rfl) d_Wholes_calculate_72 ⟨Nat.le_of_ble_eq_true rfl, Nat.le_of_ble_eq_true rfl⟩ ?_
          refine sl_ (As := [.int a1, .long (q_Wholes_combined a0 a2 a3)]) (rest := []) hq (c_Bits_lowest l A ad a1 (q_Wholes_combined a0 a2 a3)) kB_Bits_lowest wt_324 ⟨rfl, rfl, Nat.le_of_ble_eq_true rfl, Nat.le_of_ble_eq_true rfl⟩ rfl hl.1 rfl (Nat.le_of_ble_eq_true rfl) d_Wholes_calculate_75 ⟨Nat.le_of_ble_eq_true rfl, Nat.le_of_ble_eq_true rfl⟩ ?_
          exact rt_l hx hb hr hk (by rw [q_Wholes_calculate, if_pos c_1, if_neg c_2, if_pos c_4, if_pos c_5]) d_Wholes_calculate_78 ⟨by decide, by decide⟩
        · refine lv_iload_n hx hb d_Wholes_calculate_48 rfl (lv_at hl 1 rfl) ?_
          refine lv_iload_n hx hb d_Wholes_calculate_49 rfl (lv_at hl 0 rfl) ?_
          refine lv_iload_n hx hb d_Wholes_calculate_50 rfl (lv_at hl 1 rfl) ?_
          refine lv_lload_n hx hb d_Wholes_calculate_51 rfl (lv_at hl 2 rfl) ?_
          refine lv_lload hx hb d_Wholes_calculate_52 (lv_at hl 3 rfl) ?_
          refine lv_iload_n hx hb d_Wholes_calculate_54 rfl (lv_at hl 1 rfl) ?_
          refine lv_iconst (v := (1 : Int32)) hx hb d_Wholes_calculate_55 (by decide) ?_
          refine lv_isub hx hb d_Wholes_calculate_56 ?_
          refine lv_i2l (v := (Int32.toInt64 (a1 - (1 : Int32)))) hx hb d_Wholes_calculate_57 rfl ?_
          refine lv_land hx hb d_Wholes_calculate_58 ?_
          refine lv_l2i (v := (Int64.toInt32 (a3 &&& (Int32.toInt64 (a1 - (1 : Int32)))))) hx hb d_Wholes_calculate_59 rfl ?_
          refine sl_ (As := [.int a0, .int a1, .long a2, .int (Int64.toInt32 (a3 &&& (Int32.toInt64 (a1 - (1 : Int32)))))]) (rest := [.int a1]) hq (c_Wholes_moved l A ad a0 a1 a2 (Int64.toInt32 (a3 &&& (Int32.toInt64 (a1 - (1 : Int32)))))) kB_Wholes_moved wt_368 ⟨rfl, rfl, Nat.le_of_ble_eq_true rfl, Nat.le_of_ble_eq_true rfl⟩ rfl hl.1 rfl (Nat.le_of_ble_eq_true rfl) d_Wholes_calculate_60 ⟨Nat.le_of_ble_eq_true rfl, Nat.le_of_ble_eq_true rfl⟩ ?_
          refine sl_ (As := [.int a1, .long (q_Wholes_moved a0 a1 a2 (Int64.toInt32 (a3 &&& (Int32.toInt64 (a1 - (1 : Int32))))))]) (rest := []) hq (c_Bits_lowest l A ad a1 (q_Wholes_moved a0 a1 a2 (Int64.toInt32 (a3 &&& (Int32.toInt64 (a1 - (1 : Int32))))))) kB_Bits_lowest wt_324 ⟨rfl, rfl, Nat.le_of_ble_eq_true rfl, Nat.le_of_ble_eq_true rfl⟩ rfl hl.1 rfl (Nat.le_of_ble_eq_true rfl) d_Wholes_calculate_63 ⟨Nat.le_of_ble_eq_true rfl, Nat.le_of_ble_eq_true rfl⟩ ?_
          exact rt_l hx hb hr hk (by rw [q_Wholes_calculate, if_pos c_1, if_neg c_2, if_pos c_4, if_neg c_5]) d_Wholes_calculate_66 ⟨by decide, by decide⟩
      · refine lv_iload_n hx hb d_Wholes_calculate_29 rfl (lv_at hl 1 rfl) ?_
        refine lv_iload_n hx hb d_Wholes_calculate_30 rfl (lv_at hl 0 rfl) ?_
        refine lv_iload_n hx hb d_Wholes_calculate_31 rfl (lv_at hl 1 rfl) ?_
        refine lv_lload_n hx hb d_Wholes_calculate_32 rfl (lv_at hl 2 rfl) ?_
        refine lv_lload hx hb d_Wholes_calculate_33 (lv_at hl 3 rfl) ?_
        refine tl_ (As := [.int a0, .int a1, .long a2, .long a3]) (rest := [.int a1]) hq hN ht hk (c_Wholes_divided l hlt A ad a0 a1 a2 a3) kB_Wholes_divided wt_341 ⟨rfl, rfl, Nat.le_of_ble_eq_true rfl, Nat.le_of_ble_eq_true rfl⟩ rfl hl.1 rfl (Nat.le_of_ble_eq_true rfl) d_Wholes_calculate_35 ⟨Nat.le_of_ble_eq_true rfl, Nat.le_of_ble_eq_true rfl⟩ (fun hz => by rw [q_Wholes_calculate, if_pos c_1, if_neg c_2, if_neg c_4, if_neg hz]) (fun c_6 => ?_)
        refine sl_ (As := [.int a1, .long ((q_Wholes_divided a0 a1 a2 a3).2)]) (rest := []) hq (c_Bits_lowest l A ad a1 ((q_Wholes_divided a0 a1 a2 a3).2)) kB_Bits_lowest wt_324 ⟨rfl, rfl, Nat.le_of_ble_eq_true rfl, Nat.le_of_ble_eq_true rfl⟩ rfl hl.1 rfl (Nat.le_of_ble_eq_true rfl) d_Wholes_calculate_38 ⟨Nat.le_of_ble_eq_true rfl, Nat.le_of_ble_eq_true rfl⟩ ?_
        exact rt_l hx hb hr hk (by rw [q_Wholes_calculate, if_pos c_1, if_neg c_2, if_neg c_4, if_pos c_6]) d_Wholes_calculate_41 ⟨by decide, by decide⟩
  · refine lv_iload_n hx hb d_Wholes_calculate_6 rfl (lv_at hl 0 rfl) ?_
    refine lv_iload_n hx hb d_Wholes_calculate_7 rfl (lv_at hl 1 rfl) ?_
    refine lv_iload_n hx hb d_Wholes_calculate_8 rfl (lv_at hl 1 rfl) ?_
    refine lv_lload_n hx hb d_Wholes_calculate_9 rfl (lv_at hl 2 rfl) ?_
    refine sl_ (As := [.int a1, .long a2]) (rest := [.int a1, .int a0]) hq (c_Bits_lowest l A ad a1 a2) kB_Bits_lowest wt_324 ⟨rfl, rfl, Nat.le_of_ble_eq_true rfl, Nat.le_of_ble_eq_true rfl⟩ rfl hl.1 rfl (Nat.le_of_ble_eq_true rfl) d_Wholes_calculate_10 ⟨Nat.le_of_ble_eq_true rfl, Nat.le_of_ble_eq_true rfl⟩ ?_
    refine sl_ (As := [.int a0, .int a1, .long (q_Bits_lowest a1 a2)]) (rest := []) hq (c_Wholes_counted l A ad a0 a1 (q_Bits_lowest a1 a2)) kB_Wholes_counted wt_325 ⟨rfl, rfl, Nat.le_of_ble_eq_true rfl, Nat.le_of_ble_eq_true rfl⟩ rfl hl.1 rfl (Nat.le_of_ble_eq_true rfl) d_Wholes_calculate_13 ⟨Nat.le_of_ble_eq_true rfl, Nat.le_of_ble_eq_true rfl⟩ ?_
    exact rt_l hx hb hr hk (by rw [q_Wholes_calculate, if_neg c_1]) d_Wholes_calculate_16 ⟨by decide, by decide⟩
def q_Conversions_cut (j0 : Nat) (a1 : Int64) (a2 : Int32) (a3 : Int32) : Nat × Int64 :=
  if (q_Form_isNoNumber j0 (q_Bits_lowest (fm_w j0) a1)) = 0 then
    if (q_Form_sign j0 (q_Bits_lowest (fm_w j0) a1)) = (0 : Int64) then
      if ((q_Form_exponent j0 (q_Bits_lowest (fm_w j0) a1)) - (fm_b j0)) < (64 : Int32) then
        if (q_Long_compareUnsigned (q_Conversions_cutAmount j0 (q_Bits_lowest (fm_w j0) a1)) (q_Conversions_greatest (0 : Int32) a2 a3)) ≤ 0 then
          (0, (q_Bits_lowest a2 (q_Conversions_cutAmount j0 (q_Bits_lowest (fm_w j0) a1))))
        else
          (3, 0)
      else
        (3, 0)
    else
      if ((q_Form_exponent j0 (q_Bits_lowest (fm_w j0) a1)) - (fm_b j0)) < (64 : Int32) then
        if (q_Long_compareUnsigned (q_Conversions_cutAmount j0 (q_Bits_lowest (fm_w j0) a1)) (q_Conversions_greatest (1 : Int32) a2 a3)) ≤ 0 then
          (0, (q_Bits_lowest a2 (-(q_Conversions_cutAmount j0 (q_Bits_lowest (fm_w j0) a1)))))
        else
          (3, 0)
      else
        (3, 0)
  else
    (4, 0)
theorem kB_Conversions_cut : SB y_Conversions_cut b_Conversions_cut 11 (some .long) 4 := ⟨wt_267, wt_266, wt_42, by decide +kernel⟩
theorem ta_Conversions_cut_108 {ad : Nat → Nat} {args : Array Value} {s : State} (hts : ∀ w ∈ BT, w.before args s = true) (hN : NW ad s) : ∀ w ∈ vx_atS "BitArithmetic$Conversions" 111 (exN 3) exU, w.before args s = true := th_at [38, 143, 152, 157, 160, 162, 144, 145, 62, 63, 146, 151, 158, 178, 133, 179, 135, 180, 137, 147, 149, 139, 174, 175, 177, 139, 310, 311, 312, 168, 168, 169, 170, 171, 171, 172, 173, 174, 309, 300, 302, 155, 303, 304, 305, 306, 142, 141, 307] hts hN (by decide +kernel) (by decide +kernel)
theorem ta_Conversions_cut_19 {ad : Nat → Nat} {args : Array Value} {s : State} (hts : ∀ w ∈ BT, w.before args s = true) (hN : NW ad s) : ∀ w ∈ vx_atS "BitArithmetic$Conversions" 85 (exN 4) exU, w.before args s = true := th_at [38, 143, 152, 157, 160, 162, 144, 145, 62, 63, 146, 151, 158, 178, 133, 179, 135, 180, 137, 147, 149, 139, 174, 175, 177, 139, 279, 280, 281, 168, 168, 169, 170, 171, 171, 172, 173, 174, 278, 269, 271, 156, 272, 273, 274, 275, 142, 141, 276] hts hN (by decide +kernel) (by decide +kernel)
set_option maxHeartbeats 4000000 in
set_option maxRecDepth 100000 in
theorem c_Conversions_cut (l : Launch) (hlt : l.stackTraces = false) (A : Nat → Prop) (ad : Nat → Nat) (j0 : Nat) (hj0 : j0 < 2) (a1 : Int64) (a2 : Int32) (a3 : Int32) : vx_Met l y_Conversions_cut (Cond.code y_Conversions_cut b_Conversions_cut 11 (some .long) :: BT) ({ frames := 6, cells := 1, slots := 6, locals := 82 }) (PT A ad [.ref (ad j0), .long a1, .int a2, .int a3]) (te_S (q_Conversions_cut j0 a1 a2 a3)) (te_X (q_Conversions_cut j0 a1 a2 a3)) 1 6 (fun _ => False) := by
  refine pt_ (by decide) (Nat.le_of_ble_eq_true rfl) ?_
  intro p e s m below meth c hq hN ht hr hk ls hl
  have hx := hq.1
  have hb := hq.2.1
  have hts := hq.2.2.2.2.1
  have hl : lv_has ls 11 [(0, .ref (ad j0)), (1, .long a1), (3, .int a2), (4, .int a3)] := hl
  refine lv_aload_n hx hb d_Conversions_cut_0 rfl (lv_at hl 0 rfl) ?_
  refine gf_w hq hj0 wt_729 d_Conversions_cut_1 ?_
  refine lv_lload_n hx hb d_Conversions_cut_4 rfl (lv_at hl 1 rfl) ?_
  refine sl_ (As := [.int (fm_w j0), .long a1]) (rest := []) hq (c_Bits_lowest l A ad (fm_w j0) a1) kB_Bits_lowest wt_221 ⟨rfl, rfl, Nat.le_of_ble_eq_true rfl, Nat.le_of_ble_eq_true rfl⟩ rfl hl.1 rfl (Nat.le_of_ble_eq_true rfl) d_Conversions_cut_5 ⟨Nat.le_of_ble_eq_true rfl, Nat.le_of_ble_eq_true rfl⟩ ?_
  refine lv_lstore (lv' := [(5, .long (q_Bits_lowest (fm_w j0) a1)), (0, .ref (ad j0)), (1, .long a1), (3, .int a2), (4, .int a3)]) hx hb d_Conversions_cut_8 hl (by decide) rfl (fun ls hl => ?_)
  refine lv_aload_n hx hb d_Conversions_cut_10 rfl (lv_at hl 1 rfl) ?_
  refine lv_lload hx hb d_Conversions_cut_11 (lv_at hl 0 rfl) ?_
  refine vi_ (As := [.long (q_Bits_lowest (fm_w j0) a1)]) (rest := []) hq hj0 (c_Form_isNoNumber l A ad j0 hj0 (q_Bits_lowest (fm_w j0) a1)) kB_Form_isNoNumber wt_230 ⟨rfl, rfl, Nat.le_of_ble_eq_true rfl, Nat.le_of_ble_eq_true rfl⟩ rfl hl.1 rfl (Nat.le_of_ble_eq_true rfl) d_Conversions_cut_13 ⟨Nat.le_of_ble_eq_true rfl, Nat.le_of_ble_eq_true rfl⟩ ?_
  refine lv_if_eq (tgt := 29) hx hb d_Conversions_cut_16 (by decide) (fun c_1 => ?_) (fun c_1 => ?_)
  · refine lv_aload_n hx hb d_Conversions_cut_29 rfl (lv_at hl 1 rfl) ?_
    refine lv_lload hx hb d_Conversions_cut_30 (lv_at hl 0 rfl) ?_
    refine vl_ (As := [.long (q_Bits_lowest (fm_w j0) a1)]) (rest := []) hq hj0 (c_Form_sign l A ad j0 hj0 (q_Bits_lowest (fm_w j0) a1)) kB_Form_sign wt_238 ⟨rfl, rfl, Nat.le_of_ble_eq_true rfl, Nat.le_of_ble_eq_true rfl⟩ rfl hl.1 rfl (Nat.le_of_ble_eq_true rfl) d_Conversions_cut_32 ⟨Nat.le_of_ble_eq_true rfl, Nat.le_of_ble_eq_true rfl⟩ ?_
    refine lv_lconst (v := (0 : Int64)) hx hb d_Conversions_cut_35 (by decide) ?_
    refine W.lcmp hx hb d_Conversions_cut_36 ?_
    refine lv_if_eq (tgt := 44) hx hb d_Conversions_cut_37 (by decide) (fun c_2 => ?_) (fun c_2 => ?_)
    · rw [lg_cmp_eq] at c_2
      refine lv_iconst (v := (0 : Int32)) hx hb d_Conversions_cut_44 (by decide) ?_
      refine lv_istore (lv' := [(7, .int (0 : Int32)), (5, .long (q_Bits_lowest (fm_w j0) a1)), (0, .ref (ad j0)), (1, .long a1), (3, .int a2), (4, .int a3)]) hx hb d_Conversions_cut_45 hl (by decide) rfl (fun ls hl => ?_)
      refine lv_aload_n hx hb d_Conversions_cut_47 rfl (lv_at hl 2 rfl) ?_
      refine lv_lload hx hb d_Conversions_cut_48 (lv_at hl 1 rfl) ?_
      refine vi_ (As := [.long (q_Bits_lowest (fm_w j0) a1)]) (rest := []) hq hj0 (c_Form_exponent l A ad j0 hj0 (q_Bits_lowest (fm_w j0) a1)) kB_Form_exponent wt_284 ⟨rfl, rfl, Nat.le_of_ble_eq_true rfl, Nat.le_of_ble_eq_true rfl⟩ rfl hl.1 rfl (Nat.le_of_ble_eq_true rfl) d_Conversions_cut_50 ⟨Nat.le_of_ble_eq_true rfl, Nat.le_of_ble_eq_true rfl⟩ ?_
      refine lv_aload_n hx hb d_Conversions_cut_53 rfl (lv_at hl 2 rfl) ?_
      refine gf_b hq hj0 wt_730 d_Conversions_cut_54 ?_
      refine lv_isub hx hb d_Conversions_cut_57 ?_
      refine lv_bipush (v := (64 : Int32)) hx hb d_Conversions_cut_58 (by decide) ?_
      refine lv_icmp_lt (tgt := 67) hx hb d_Conversions_cut_60 (by decide) (fun c_3 => ?_) (fun c_3 => ?_)
      · refine lv_iconst (v := (0 : Int32)) hx hb d_Conversions_cut_67 (by decide) ?_
        refine lv_istore (lv' := [(8, .int (0 : Int32)), (7, .int (0 : Int32)), (5, .long (q_Bits_lowest (fm_w j0) a1)), (0, .ref (ad j0)), (1, .long a1), (3, .int a2), (4, .int a3)]) hx hb d_Conversions_cut_68 hl (by decide) rfl (fun ls hl => ?_)
        refine lv_iload hx hb d_Conversions_cut_70 (lv_at hl 0 rfl) ?_
        refine lv_if_eq (tgt := 79) hx hb d_Conversions_cut_72 (by decide) (fun _ => ?_) (fun c => absurd (by decide) c)
        refine lv_aload_n hx hb d_Conversions_cut_79 rfl (lv_at hl 3 rfl) ?_
        refine lv_lload hx hb d_Conversions_cut_80 (lv_at hl 2 rfl) ?_
        refine sl_ (As := [.ref (ad j0), .long (q_Bits_lowest (fm_w j0) a1)]) (rest := []) hq (c_Conversions_cutAmount l A ad j0 hj0 (q_Bits_lowest (fm_w j0) a1)) kB_Conversions_cutAmount wt_285 ⟨rfl, rfl, Nat.le_of_ble_eq_true rfl, Nat.le_of_ble_eq_true rfl⟩ rfl hl.1 rfl (Nat.le_of_ble_eq_true rfl) d_Conversions_cut_82 ⟨Nat.le_of_ble_eq_true rfl, Nat.le_of_ble_eq_true rfl⟩ ?_
        refine lv_lstore (lv' := [(9, .long (q_Conversions_cutAmount j0 (q_Bits_lowest (fm_w j0) a1))), (8, .int (0 : Int32)), (7, .int (0 : Int32)), (5, .long (q_Bits_lowest (fm_w j0) a1)), (0, .ref (ad j0)), (1, .long a1), (3, .int a2), (4, .int a3)]) hx hb d_Conversions_cut_85 hl (by decide) rfl (fun ls hl => ?_)
        refine lv_iload hx hb d_Conversions_cut_87 (lv_at hl 1 rfl) ?_
        refine lv_if_ne (tgt := 108) hx hb d_Conversions_cut_89 (by decide) (fun c => absurd (by decide) c) (fun _ => ?_)
        refine lv_lload hx hb d_Conversions_cut_92 (lv_at hl 0 rfl) ?_
        refine lv_iload hx hb d_Conversions_cut_94 (lv_at hl 2 rfl) ?_
        refine lv_iload_n hx hb d_Conversions_cut_96 rfl (lv_at hl 6 rfl) ?_
        refine lv_iload hx hb d_Conversions_cut_97 (lv_at hl 7 rfl) ?_
        refine sl_ (As := [.int (0 : Int32), .int a2, .int a3]) (rest := [.long (q_Conversions_cutAmount j0 (q_Bits_lowest (fm_w j0) a1))]) hq (c_Conversions_greatest l A ad (0 : Int32) a2 a3) kB_Conversions_greatest wt_288 ⟨rfl, rfl, Nat.le_of_ble_eq_true rfl, Nat.le_of_ble_eq_true rfl⟩ rfl hl.1 rfl (Nat.le_of_ble_eq_true rfl) d_Conversions_cut_99 ⟨Nat.le_of_ble_eq_true rfl, Nat.le_of_ble_eq_true rfl⟩ ?_
        refine si_ (As := [.long (q_Conversions_cutAmount j0 (q_Bits_lowest (fm_w j0) a1)), .long (q_Conversions_greatest (0 : Int32) a2 a3)]) (rest := []) hq (c_Long_compareUnsigned l A ad (q_Conversions_cutAmount j0 (q_Bits_lowest (fm_w j0) a1)) (q_Conversions_greatest (0 : Int32) a2 a3)) kB_Long_compareUnsigned wt_292 ⟨rfl, rfl, Nat.le_of_ble_eq_true rfl, Nat.le_of_ble_eq_true rfl⟩ rfl hl.1 rfl (Nat.le_of_ble_eq_true rfl) d_Conversions_cut_102 ⟨Nat.le_of_ble_eq_true rfl, Nat.le_of_ble_eq_true rfl⟩ ?_
        refine lv_if_le (tgt := 118) hx hb d_Conversions_cut_105 (by decide) (fun c_4 => ?_) (fun c_4 => ?_)
        · refine lv_iload_n hx hb d_Conversions_cut_118 rfl (lv_at hl 6 rfl) ?_
          refine lv_iload hx hb d_Conversions_cut_119 (lv_at hl 2 rfl) ?_
          refine lv_if_eq (tgt := 130) hx hb d_Conversions_cut_121 (by decide) (fun _ => ?_) (fun c => absurd (by decide) c)
          refine lv_lload hx hb d_Conversions_cut_130 (lv_at hl 0 rfl) ?_
          refine sl_ (As := [.int a2, .long (q_Conversions_cutAmount j0 (q_Bits_lowest (fm_w j0) a1))]) (rest := []) hq (c_Bits_lowest l A ad a2 (q_Conversions_cutAmount j0 (q_Bits_lowest (fm_w j0) a1))) kB_Bits_lowest wt_221 ⟨rfl, rfl, Nat.le_of_ble_eq_true rfl, Nat.le_of_ble_eq_true rfl⟩ rfl hl.1 rfl (Nat.le_of_ble_eq_true rfl) d_Conversions_cut_132 ⟨Nat.le_of_ble_eq_true rfl, Nat.le_of_ble_eq_true rfl⟩ ?_
          exact rt_l hx hb hr hk (by rw [q_Conversions_cut, if_pos c_1, if_pos c_2, if_pos c_3, if_pos c_4]) d_Conversions_cut_135 ⟨by decide, by decide⟩
        · exact th_ (k := 3) hq hlt ht hk (by rw [q_Conversions_cut, if_pos c_1, if_pos c_2, if_pos c_3, if_neg c_4]) (by decide) (by decide +kernel) wt_299 wt_50 hN.2.2.2.2.2.2.2.2.2.1 (ta_Conversions_cut_108 hts hN) (by decide +kernel) hl.1 d_Conversions_cut_108 d_Conversions_cut_111 d_Conversions_cut_112 d_Conversions_cut_114 d_Conversions_cut_117 ⟨Nat.le_of_ble_eq_true rfl, Nat.le_of_ble_eq_true rfl, Nat.le_of_ble_eq_true rfl, Nat.le_of_ble_eq_true rfl⟩
      · refine lv_iconst (v := (1 : Int32)) hx hb d_Conversions_cut_63 (by decide) ?_
        refine lv_goto (tgt := 68) hx hb d_Conversions_cut_64 (by decide) ?_
        refine lv_istore (lv' := [(8, .int (1 : Int32)), (7, .int (0 : Int32)), (5, .long (q_Bits_lowest (fm_w j0) a1)), (0, .ref (ad j0)), (1, .long a1), (3, .int a2), (4, .int a3)]) hx hb d_Conversions_cut_68 hl (by decide) rfl (fun ls hl => ?_)
        refine lv_iload hx hb d_Conversions_cut_70 (lv_at hl 0 rfl) ?_
        refine lv_if_eq (tgt := 79) hx hb d_Conversions_cut_72 (by decide) (fun c => absurd c (by decide)) (fun _ => ?_)
        refine lv_lconst (v := (0 : Int64)) hx hb d_Conversions_cut_75 (by decide) ?_
        refine lv_goto (tgt := 85) hx hb d_Conversions_cut_76 (by decide) ?_
        refine lv_lstore (lv' := [(9, .long (0 : Int64)), (8, .int (1 : Int32)), (7, .int (0 : Int32)), (5, .long (q_Bits_lowest (fm_w j0) a1)), (0, .ref (ad j0)), (1, .long a1), (3, .int a2), (4, .int a3)]) hx hb d_Conversions_cut_85 hl (by decide) rfl (fun ls hl => ?_)
        refine lv_iload hx hb d_Conversions_cut_87 (lv_at hl 1 rfl) ?_
        refine lv_if_ne (tgt := 108) hx hb d_Conversions_cut_89 (by decide) (fun _ => ?_) (fun c => absurd c (by decide))
        exact th_ (k := 3) hq hlt ht hk (by rw [q_Conversions_cut, if_pos c_1, if_pos c_2, if_neg c_3]) (by decide) (by decide +kernel) wt_299 wt_50 hN.2.2.2.2.2.2.2.2.2.1 (ta_Conversions_cut_108 hts hN) (by decide +kernel) hl.1 d_Conversions_cut_108 d_Conversions_cut_111 d_Conversions_cut_112 d_Conversions_cut_114 d_Conversions_cut_117 ⟨Nat.le_of_ble_eq_true rfl, Nat.le_of_ble_eq_true rfl, Nat.le_of_ble_eq_true rfl, Nat.le_of_ble_eq_true rfl⟩
    · rw [lg_cmp_eq] at c_2
      refine lv_iconst (v := (1 : Int32)) hx hb d_Conversions_cut_40 (by decide) ?_
      refine lv_goto (tgt := 45) hx hb d_Conversions_cut_41 (by decide) ?_
      refine lv_istore (lv' := [(7, .int (1 : Int32)), (5, .long (q_Bits_lowest (fm_w j0) a1)), (0, .ref (ad j0)), (1, .long a1), (3, .int a2), (4, .int a3)]) hx hb d_Conversions_cut_45 hl (by decide) rfl (fun ls hl => ?_)
      refine lv_aload_n hx hb d_Conversions_cut_47 rfl (lv_at hl 2 rfl) ?_
      refine lv_lload hx hb d_Conversions_cut_48 (lv_at hl 1 rfl) ?_
      refine vi_ (As := [.long (q_Bits_lowest (fm_w j0) a1)]) (rest := []) hq hj0 (c_Form_exponent l A ad j0 hj0 (q_Bits_lowest (fm_w j0) a1)) kB_Form_exponent wt_284 ⟨rfl, rfl, Nat.le_of_ble_eq_true rfl, Nat.le_of_ble_eq_true rfl⟩ rfl hl.1 rfl (Nat.le_of_ble_eq_true rfl) d_Conversions_cut_50 ⟨Nat.le_of_ble_eq_true rfl, Nat.le_of_ble_eq_true rfl⟩ ?_
      refine lv_aload_n hx hb d_Conversions_cut_53 rfl (lv_at hl 2 rfl) ?_
      refine gf_b hq hj0 wt_730 d_Conversions_cut_54 ?_
      refine lv_isub hx hb d_Conversions_cut_57 ?_
      refine lv_bipush (v := (64 : Int32)) hx hb d_Conversions_cut_58 (by decide) ?_
      refine lv_icmp_lt (tgt := 67) hx hb d_Conversions_cut_60 (by decide) (fun c_5 => ?_) (fun c_5 => ?_)
      · refine lv_iconst (v := (0 : Int32)) hx hb d_Conversions_cut_67 (by decide) ?_
        refine lv_istore (lv' := [(8, .int (0 : Int32)), (7, .int (1 : Int32)), (5, .long (q_Bits_lowest (fm_w j0) a1)), (0, .ref (ad j0)), (1, .long a1), (3, .int a2), (4, .int a3)]) hx hb d_Conversions_cut_68 hl (by decide) rfl (fun ls hl => ?_)
        refine lv_iload hx hb d_Conversions_cut_70 (lv_at hl 0 rfl) ?_
        refine lv_if_eq (tgt := 79) hx hb d_Conversions_cut_72 (by decide) (fun _ => ?_) (fun c => absurd (by decide) c)
        refine lv_aload_n hx hb d_Conversions_cut_79 rfl (lv_at hl 3 rfl) ?_
        refine lv_lload hx hb d_Conversions_cut_80 (lv_at hl 2 rfl) ?_
        refine sl_ (As := [.ref (ad j0), .long (q_Bits_lowest (fm_w j0) a1)]) (rest := []) hq (c_Conversions_cutAmount l A ad j0 hj0 (q_Bits_lowest (fm_w j0) a1)) kB_Conversions_cutAmount wt_285 ⟨rfl, rfl, Nat.le_of_ble_eq_true rfl, Nat.le_of_ble_eq_true rfl⟩ rfl hl.1 rfl (Nat.le_of_ble_eq_true rfl) d_Conversions_cut_82 ⟨Nat.le_of_ble_eq_true rfl, Nat.le_of_ble_eq_true rfl⟩ ?_
        refine lv_lstore (lv' := [(9, .long (q_Conversions_cutAmount j0 (q_Bits_lowest (fm_w j0) a1))), (8, .int (0 : Int32)), (7, .int (1 : Int32)), (5, .long (q_Bits_lowest (fm_w j0) a1)), (0, .ref (ad j0)), (1, .long a1), (3, .int a2), (4, .int a3)]) hx hb d_Conversions_cut_85 hl (by decide) rfl (fun ls hl => ?_)
        refine lv_iload hx hb d_Conversions_cut_87 (lv_at hl 1 rfl) ?_
        refine lv_if_ne (tgt := 108) hx hb d_Conversions_cut_89 (by decide) (fun c => absurd (by decide) c) (fun _ => ?_)
        refine lv_lload hx hb d_Conversions_cut_92 (lv_at hl 0 rfl) ?_
        refine lv_iload hx hb d_Conversions_cut_94 (lv_at hl 2 rfl) ?_
        refine lv_iload_n hx hb d_Conversions_cut_96 rfl (lv_at hl 6 rfl) ?_
        refine lv_iload hx hb d_Conversions_cut_97 (lv_at hl 7 rfl) ?_
        refine sl_ (As := [.int (1 : Int32), .int a2, .int a3]) (rest := [.long (q_Conversions_cutAmount j0 (q_Bits_lowest (fm_w j0) a1))]) hq (c_Conversions_greatest l A ad (1 : Int32) a2 a3) kB_Conversions_greatest wt_288 ⟨rfl, rfl, Nat.le_of_ble_eq_true rfl, Nat.le_of_ble_eq_true rfl⟩ rfl hl.1 rfl (Nat.le_of_ble_eq_true rfl) d_Conversions_cut_99 ⟨Nat.le_of_ble_eq_true rfl, Nat.le_of_ble_eq_true rfl⟩ ?_
        refine si_ (As := [.long (q_Conversions_cutAmount j0 (q_Bits_lowest (fm_w j0) a1)), .long (q_Conversions_greatest (1 : Int32) a2 a3)]) (rest := []) hq (c_Long_compareUnsigned l A ad (q_Conversions_cutAmount j0 (q_Bits_lowest (fm_w j0) a1)) (q_Conversions_greatest (1 : Int32) a2 a3)) kB_Long_compareUnsigned wt_292 ⟨rfl, rfl, Nat.le_of_ble_eq_true rfl, Nat.le_of_ble_eq_true rfl⟩ rfl hl.1 rfl (Nat.le_of_ble_eq_true rfl) d_Conversions_cut_102 ⟨Nat.le_of_ble_eq_true rfl, Nat.le_of_ble_eq_true rfl⟩ ?_
        refine lv_if_le (tgt := 118) hx hb d_Conversions_cut_105 (by decide) (fun c_6 => ?_) (fun c_6 => ?_)
        · refine lv_iload_n hx hb d_Conversions_cut_118 rfl (lv_at hl 6 rfl) ?_
          refine lv_iload hx hb d_Conversions_cut_119 (lv_at hl 2 rfl) ?_
          refine lv_if_eq (tgt := 130) hx hb d_Conversions_cut_121 (by decide) (fun c => absurd c (by decide)) (fun _ => ?_)
          refine lv_lload hx hb d_Conversions_cut_124 (lv_at hl 0 rfl) ?_
          refine lv_lneg hx hb d_Conversions_cut_126 ?_
          refine lv_goto (tgt := 132) hx hb d_Conversions_cut_127 (by decide) ?_
          refine sl_ (As := [.int a2, .long (-(q_Conversions_cutAmount j0 (q_Bits_lowest (fm_w j0) a1)))]) (rest := []) hq (c_Bits_lowest l A ad a2 (-(q_Conversions_cutAmount j0 (q_Bits_lowest (fm_w j0) a1)))) kB_Bits_lowest wt_221 ⟨rfl, rfl, Nat.le_of_ble_eq_true rfl, Nat.le_of_ble_eq_true rfl⟩ rfl hl.1 rfl (Nat.le_of_ble_eq_true rfl) d_Conversions_cut_132 ⟨Nat.le_of_ble_eq_true rfl, Nat.le_of_ble_eq_true rfl⟩ ?_
          exact rt_l hx hb hr hk (by rw [q_Conversions_cut, if_pos c_1, if_neg c_2, if_pos c_5, if_pos c_6]) d_Conversions_cut_135 ⟨by decide, by decide⟩
        · exact th_ (k := 3) hq hlt ht hk (by rw [q_Conversions_cut, if_pos c_1, if_neg c_2, if_pos c_5, if_neg c_6]) (by decide) (by decide +kernel) wt_299 wt_50 hN.2.2.2.2.2.2.2.2.2.1 (ta_Conversions_cut_108 hts hN) (by decide +kernel) hl.1 d_Conversions_cut_108 d_Conversions_cut_111 d_Conversions_cut_112 d_Conversions_cut_114 d_Conversions_cut_117 ⟨Nat.le_of_ble_eq_true rfl, Nat.le_of_ble_eq_true rfl, Nat.le_of_ble_eq_true rfl, Nat.le_of_ble_eq_true rfl⟩
      · refine lv_iconst (v := (1 : Int32)) hx hb d_Conversions_cut_63 (by decide) ?_
        refine lv_goto (tgt := 68) hx hb d_Conversions_cut_64 (by decide) ?_
        refine lv_istore (lv' := [(8, .int (1 : Int32)), (7, .int (1 : Int32)), (5, .long (q_Bits_lowest (fm_w j0) a1)), (0, .ref (ad j0)), (1, .long a1), (3, .int a2), (4, .int a3)]) hx hb d_Conversions_cut_68 hl (by decide) rfl (fun ls hl => ?_)
        refine lv_iload hx hb d_Conversions_cut_70 (lv_at hl 0 rfl) ?_
        refine lv_if_eq (tgt := 79) hx hb d_Conversions_cut_72 (by decide) (fun c => absurd c (by decide)) (fun _ => ?_)
        refine lv_lconst (v := (0 : Int64)) hx hb d_Conversions_cut_75 (by decide) ?_
        refine lv_goto (tgt := 85) hx hb d_Conversions_cut_76 (by decide) ?_
        refine lv_lstore (lv' := [(9, .long (0 : Int64)), (8, .int (1 : Int32)), (7, .int (1 : Int32)), (5, .long (q_Bits_lowest (fm_w j0) a1)), (0, .ref (ad j0)), (1, .long a1), (3, .int a2), (4, .int a3)]) hx hb d_Conversions_cut_85 hl (by decide) rfl (fun ls hl => ?_)
        refine lv_iload hx hb d_Conversions_cut_87 (lv_at hl 1 rfl) ?_
        refine lv_if_ne (tgt := 108) hx hb d_Conversions_cut_89 (by decide) (fun _ => ?_) (fun c => absurd c (by decide))
        exact th_ (k := 3) hq hlt ht hk (by rw [q_Conversions_cut, if_pos c_1, if_neg c_2, if_neg c_5]) (by decide) (by decide +kernel) wt_299 wt_50 hN.2.2.2.2.2.2.2.2.2.1 (ta_Conversions_cut_108 hts hN) (by decide +kernel) hl.1 d_Conversions_cut_108 d_Conversions_cut_111 d_Conversions_cut_112 d_Conversions_cut_114 d_Conversions_cut_117 ⟨Nat.le_of_ble_eq_true rfl, Nat.le_of_ble_eq_true rfl, Nat.le_of_ble_eq_true rfl, Nat.le_of_ble_eq_true rfl⟩
  · exact th_ (k := 4) hq hlt ht hk (by rw [q_Conversions_cut, if_neg c_1]) (by decide) (by decide +kernel) wt_268 wt_49 hN.2.2.2.2.2.2.2.2.1 (ta_Conversions_cut_19 hts hN) (by decide +kernel) hl.1 d_Conversions_cut_19 d_Conversions_cut_22 d_Conversions_cut_23 d_Conversions_cut_25 d_Conversions_cut_28 ⟨Nat.le_of_ble_eq_true rfl, Nat.le_of_ble_eq_true rfl, Nat.le_of_ble_eq_true rfl, Nat.le_of_ble_eq_true rfl⟩
def q_Conversions_toWholeOrBits (a0 : Int32) (a1 : Int64) : Nat × Int64 :=
  if a0 = (168 : Int32) then
    if (q_Conversions_cut 0 a1 (32 : Int32) (1 : Int32)).1 = 0 then
      (0, (q_Conversions_cut 0 a1 (32 : Int32) (1 : Int32)).2)
    else
      ((q_Conversions_cut 0 a1 (32 : Int32) (1 : Int32)).1, 0)
  else
    if a0 = (169 : Int32) then
      if (q_Conversions_cut 0 a1 (32 : Int32) (0 : Int32)).1 = 0 then
        (0, (q_Conversions_cut 0 a1 (32 : Int32) (0 : Int32)).2)
      else
        ((q_Conversions_cut 0 a1 (32 : Int32) (0 : Int32)).1, 0)
    else
      if a0 = (170 : Int32) then
        if (q_Conversions_cut 1 a1 (32 : Int32) (1 : Int32)).1 = 0 then
          (0, (q_Conversions_cut 1 a1 (32 : Int32) (1 : Int32)).2)
        else
          ((q_Conversions_cut 1 a1 (32 : Int32) (1 : Int32)).1, 0)
      else
        if a0 = (171 : Int32) then
          if (q_Conversions_cut 1 a1 (32 : Int32) (0 : Int32)).1 = 0 then
            (0, (q_Conversions_cut 1 a1 (32 : Int32) (0 : Int32)).2)
          else
            ((q_Conversions_cut 1 a1 (32 : Int32) (0 : Int32)).1, 0)
        else
          if a0 = (172 : Int32) then
            (0, (q_Bits_signed (32 : Int32) a1))
          else
            if a0 = (174 : Int32) then
              if (q_Conversions_cut 0 a1 (64 : Int32) (1 : Int32)).1 = 0 then
                (0, (q_Conversions_cut 0 a1 (64 : Int32) (1 : Int32)).2)
              else
                ((q_Conversions_cut 0 a1 (64 : Int32) (1 : Int32)).1, 0)
            else
              if a0 = (175 : Int32) then
                if (q_Conversions_cut 0 a1 (64 : Int32) (0 : Int32)).1 = 0 then
                  (0, (q_Conversions_cut 0 a1 (64 : Int32) (0 : Int32)).2)
                else
                  ((q_Conversions_cut 0 a1 (64 : Int32) (0 : Int32)).1, 0)
              else
                if a0 = (176 : Int32) then
                  if (q_Conversions_cut 1 a1 (64 : Int32) (1 : Int32)).1 = 0 then
                    (0, (q_Conversions_cut 1 a1 (64 : Int32) (1 : Int32)).2)
                  else
                    ((q_Conversions_cut 1 a1 (64 : Int32) (1 : Int32)).1, 0)
                else
                  if a0 = (177 : Int32) then
                    if (q_Conversions_cut 1 a1 (64 : Int32) (0 : Int32)).1 = 0 then
                      (0, (q_Conversions_cut 1 a1 (64 : Int32) (0 : Int32)).2)
                    else
                      ((q_Conversions_cut 1 a1 (64 : Int32) (0 : Int32)).1, 0)
                  else
                    if a0 = (189 : Int32) then
                      (0, a1)
                    else
                      if a0 = (191 : Int32) then
                        (0, a1)
                      else
                        (0, (q_Bits_lowest (32 : Int32) a1))
theorem kB_Conversions_toWholeOrBits : SB y_Conversions_toWholeOrBits b_Conversions_toWholeOrBits 3 (some .long) 2 := ⟨wt_264, wt_263, wt_42, by decide +kernel⟩
set_option maxHeartbeats 4000000 in
set_option maxRecDepth 100000 in
theorem c_Conversions_toWholeOrBits (l : Launch) (hlt : l.stackTraces = false) (A : Nat → Prop) (ad : Nat → Nat) (a0 : Int32) (a1 : Int64) : vx_Met l y_Conversions_toWholeOrBits (Cond.code y_Conversions_toWholeOrBits b_Conversions_toWholeOrBits 3 (some .long) :: BT) ({ frames := 7, cells := 1, slots := 6, locals := 112 }) (PT A ad [.int a0, .long a1]) (te_S (q_Conversions_toWholeOrBits a0 a1)) (te_X (q_Conversions_toWholeOrBits a0 a1)) 1 6 (fun _ => False) := by
  refine pt_ (by decide) (Nat.le_of_ble_eq_true rfl) ?_
  intro p e s m below meth c hq hN ht hr hk ls hl
  have hx := hq.1
  have hb := hq.2.1
  have hts := hq.2.2.2.2.1
  have hl : lv_has ls 3 [(0, .int a0), (1, .long a1)] := hl
  refine lv_iload_n hx hb d_Conversions_toWholeOrBits_0 rfl (lv_at hl 0 rfl) ?_
  by_cases c_1 : a0 = (168 : Int32)
  · refine lv_tableIn (tgt := 112) hx hb d_Conversions_toWholeOrBits_1 (by rw [c_1]; decide) (by rw [c_1]; decide) (by rw [c_1]; rfl) (by decide) ?_
    refine gs_0 hq wt_193 d_Conversions_toWholeOrBits_112 ?_
    refine lv_lload_n hx hb d_Conversions_toWholeOrBits_115 rfl (lv_at hl 1 rfl) ?_
    refine lv_bipush (v := (32 : Int32)) hx hb d_Conversions_toWholeOrBits_116 (by decide) ?_
    refine lv_iconst (v := (1 : Int32)) hx hb d_Conversions_toWholeOrBits_118 (by decide) ?_
    refine tl_ (As := [.ref (ad 0), .long a1, .int (32 : Int32), .int (1 : Int32)]) (rest := []) hq hN ht hk (c_Conversions_cut l hlt A ad 0 (by decide) a1 (32 : Int32) (1 : Int32)) kB_Conversions_cut wt_265 ⟨rfl, rfl, Nat.le_of_ble_eq_true rfl, Nat.le_of_ble_eq_true rfl⟩ rfl hl.1 rfl (Nat.le_of_ble_eq_true rfl) d_Conversions_toWholeOrBits_119 ⟨Nat.le_of_ble_eq_true rfl, Nat.le_of_ble_eq_true rfl⟩ (fun hz => by rw [q_Conversions_toWholeOrBits, if_pos c_1, if_neg hz]) (fun c_2 => ?_)
    exact rt_l hx hb hr hk (by rw [q_Conversions_toWholeOrBits, if_pos c_1, if_pos c_2]) d_Conversions_toWholeOrBits_122 ⟨by decide, by decide⟩
  by_cases c_3 : a0 = (169 : Int32)
  · refine lv_tableIn (tgt := 123) hx hb d_Conversions_toWholeOrBits_1 (by rw [c_3]; decide) (by rw [c_3]; decide) (by rw [c_3]; rfl) (by decide) ?_
    refine gs_0 hq wt_193 d_Conversions_toWholeOrBits_123 ?_
    refine lv_lload_n hx hb d_Conversions_toWholeOrBits_126 rfl (lv_at hl 1 rfl) ?_
    refine lv_bipush (v := (32 : Int32)) hx hb d_Conversions_toWholeOrBits_127 (by decide) ?_
    refine lv_iconst (v := (0 : Int32)) hx hb d_Conversions_toWholeOrBits_129 (by decide) ?_
    refine tl_ (As := [.ref (ad 0), .long a1, .int (32 : Int32), .int (0 : Int32)]) (rest := []) hq hN ht hk (c_Conversions_cut l hlt A ad 0 (by decide) a1 (32 : Int32) (0 : Int32)) kB_Conversions_cut wt_265 ⟨rfl, rfl, Nat.le_of_ble_eq_true rfl, Nat.le_of_ble_eq_true rfl⟩ rfl hl.1 rfl (Nat.le_of_ble_eq_true rfl) d_Conversions_toWholeOrBits_130 ⟨Nat.le_of_ble_eq_true rfl, Nat.le_of_ble_eq_true rfl⟩ (fun hz => by rw [q_Conversions_toWholeOrBits, if_neg c_1, if_pos c_3, if_neg hz]) (fun c_4 => ?_)
    exact rt_l hx hb hr hk (by rw [q_Conversions_toWholeOrBits, if_neg c_1, if_pos c_3, if_pos c_4]) d_Conversions_toWholeOrBits_133 ⟨by decide, by decide⟩
  by_cases c_5 : a0 = (170 : Int32)
  · refine lv_tableIn (tgt := 134) hx hb d_Conversions_toWholeOrBits_1 (by rw [c_5]; decide) (by rw [c_5]; decide) (by rw [c_5]; rfl) (by decide) ?_
    refine gs_1 hq wt_225 d_Conversions_toWholeOrBits_134 ?_
    refine lv_lload_n hx hb d_Conversions_toWholeOrBits_137 rfl (lv_at hl 1 rfl) ?_
    refine lv_bipush (v := (32 : Int32)) hx hb d_Conversions_toWholeOrBits_138 (by decide) ?_
    refine lv_iconst (v := (1 : Int32)) hx hb d_Conversions_toWholeOrBits_140 (by decide) ?_
    refine tl_ (As := [.ref (ad 1), .long a1, .int (32 : Int32), .int (1 : Int32)]) (rest := []) hq hN ht hk (c_Conversions_cut l hlt A ad 1 (by decide) a1 (32 : Int32) (1 : Int32)) kB_Conversions_cut wt_265 ⟨rfl, rfl, Nat.le_of_ble_eq_true rfl, Nat.le_of_ble_eq_true rfl⟩ rfl hl.1 rfl (Nat.le_of_ble_eq_true rfl) d_Conversions_toWholeOrBits_141 ⟨Nat.le_of_ble_eq_true rfl, Nat.le_of_ble_eq_true rfl⟩ (fun hz => by rw [q_Conversions_toWholeOrBits, if_neg c_1, if_neg c_3, if_pos c_5, if_neg hz]) (fun c_6 => ?_)
    exact rt_l hx hb hr hk (by rw [q_Conversions_toWholeOrBits, if_neg c_1, if_neg c_3, if_pos c_5, if_pos c_6]) d_Conversions_toWholeOrBits_144 ⟨by decide, by decide⟩
  by_cases c_7 : a0 = (171 : Int32)
  · refine lv_tableIn (tgt := 145) hx hb d_Conversions_toWholeOrBits_1 (by rw [c_7]; decide) (by rw [c_7]; decide) (by rw [c_7]; rfl) (by decide) ?_
    refine gs_1 hq wt_225 d_Conversions_toWholeOrBits_145 ?_
    refine lv_lload_n hx hb d_Conversions_toWholeOrBits_148 rfl (lv_at hl 1 rfl) ?_
    refine lv_bipush (v := (32 : Int32)) hx hb d_Conversions_toWholeOrBits_149 (by decide) ?_
    refine lv_iconst (v := (0 : Int32)) hx hb d_Conversions_toWholeOrBits_151 (by decide) ?_
    refine tl_ (As := [.ref (ad 1), .long a1, .int (32 : Int32), .int (0 : Int32)]) (rest := []) hq hN ht hk (c_Conversions_cut l hlt A ad 1 (by decide) a1 (32 : Int32) (0 : Int32)) kB_Conversions_cut wt_265 ⟨rfl, rfl, Nat.le_of_ble_eq_true rfl, Nat.le_of_ble_eq_true rfl⟩ rfl hl.1 rfl (Nat.le_of_ble_eq_true rfl) d_Conversions_toWholeOrBits_152 ⟨Nat.le_of_ble_eq_true rfl, Nat.le_of_ble_eq_true rfl⟩ (fun hz => by rw [q_Conversions_toWholeOrBits, if_neg c_1, if_neg c_3, if_neg c_5, if_pos c_7, if_neg hz]) (fun c_8 => ?_)
    exact rt_l hx hb hr hk (by rw [q_Conversions_toWholeOrBits, if_neg c_1, if_neg c_3, if_neg c_5, if_pos c_7, if_pos c_8]) d_Conversions_toWholeOrBits_155 ⟨by decide, by decide⟩
  by_cases c_9 : a0 = (172 : Int32)
  · refine lv_tableIn (tgt := 156) hx hb d_Conversions_toWholeOrBits_1 (by rw [c_9]; decide) (by rw [c_9]; decide) (by rw [c_9]; rfl) (by decide) ?_
    refine lv_bipush (v := (32 : Int32)) hx hb d_Conversions_toWholeOrBits_156 (by decide) ?_
    refine lv_lload_n hx hb d_Conversions_toWholeOrBits_158 rfl (lv_at hl 1 rfl) ?_
    refine sl_ (As := [.int (32 : Int32), .long a1]) (rest := []) hq (c_Bits_signed l A ad (32 : Int32) a1) kB_Bits_signed wt_195 ⟨rfl, rfl, Nat.le_of_ble_eq_true rfl, Nat.le_of_ble_eq_true rfl⟩ rfl hl.1 rfl (Nat.le_of_ble_eq_true rfl) d_Conversions_toWholeOrBits_159 ⟨Nat.le_of_ble_eq_true rfl, Nat.le_of_ble_eq_true rfl⟩ ?_
    exact rt_l hx hb hr hk (by rw [q_Conversions_toWholeOrBits, if_neg c_1, if_neg c_3, if_neg c_5, if_neg c_7, if_pos c_9]) d_Conversions_toWholeOrBits_162 ⟨by decide, by decide⟩
  by_cases c_10 : a0 = (174 : Int32)
  · refine lv_tableIn (tgt := 163) hx hb d_Conversions_toWholeOrBits_1 (by rw [c_10]; decide) (by rw [c_10]; decide) (by rw [c_10]; rfl) (by decide) ?_
    refine gs_0 hq wt_193 d_Conversions_toWholeOrBits_163 ?_
    refine lv_lload_n hx hb d_Conversions_toWholeOrBits_166 rfl (lv_at hl 1 rfl) ?_
    refine lv_bipush (v := (64 : Int32)) hx hb d_Conversions_toWholeOrBits_167 (by decide) ?_
    refine lv_iconst (v := (1 : Int32)) hx hb d_Conversions_toWholeOrBits_169 (by decide) ?_
    refine tl_ (As := [.ref (ad 0), .long a1, .int (64 : Int32), .int (1 : Int32)]) (rest := []) hq hN ht hk (c_Conversions_cut l hlt A ad 0 (by decide) a1 (64 : Int32) (1 : Int32)) kB_Conversions_cut wt_265 ⟨rfl, rfl, Nat.le_of_ble_eq_true rfl, Nat.le_of_ble_eq_true rfl⟩ rfl hl.1 rfl (Nat.le_of_ble_eq_true rfl) d_Conversions_toWholeOrBits_170 ⟨Nat.le_of_ble_eq_true rfl, Nat.le_of_ble_eq_true rfl⟩ (fun hz => by rw [q_Conversions_toWholeOrBits, if_neg c_1, if_neg c_3, if_neg c_5, if_neg c_7, if_neg c_9, if_pos c_10, if_neg hz]) (fun c_11 => ?_)
    exact rt_l hx hb hr hk (by rw [q_Conversions_toWholeOrBits, if_neg c_1, if_neg c_3, if_neg c_5, if_neg c_7, if_neg c_9, if_pos c_10, if_pos c_11]) d_Conversions_toWholeOrBits_173 ⟨by decide, by decide⟩
  by_cases c_12 : a0 = (175 : Int32)
  · refine lv_tableIn (tgt := 174) hx hb d_Conversions_toWholeOrBits_1 (by rw [c_12]; decide) (by rw [c_12]; decide) (by rw [c_12]; rfl) (by decide) ?_
    refine gs_0 hq wt_193 d_Conversions_toWholeOrBits_174 ?_
    refine lv_lload_n hx hb d_Conversions_toWholeOrBits_177 rfl (lv_at hl 1 rfl) ?_
    refine lv_bipush (v := (64 : Int32)) hx hb d_Conversions_toWholeOrBits_178 (by decide) ?_
    refine lv_iconst (v := (0 : Int32)) hx hb d_Conversions_toWholeOrBits_180 (by decide) ?_
    refine tl_ (As := [.ref (ad 0), .long a1, .int (64 : Int32), .int (0 : Int32)]) (rest := []) hq hN ht hk (c_Conversions_cut l hlt A ad 0 (by decide) a1 (64 : Int32) (0 : Int32)) kB_Conversions_cut wt_265 ⟨rfl, rfl, Nat.le_of_ble_eq_true rfl, Nat.le_of_ble_eq_true rfl⟩ rfl hl.1 rfl (Nat.le_of_ble_eq_true rfl) d_Conversions_toWholeOrBits_181 ⟨Nat.le_of_ble_eq_true rfl, Nat.le_of_ble_eq_true rfl⟩ (fun hz => by rw [q_Conversions_toWholeOrBits, if_neg c_1, if_neg c_3, if_neg c_5, if_neg c_7, if_neg c_9, if_neg c_10, if_pos c_12, if_neg hz]) (fun c_13 => ?_)
    exact rt_l hx hb hr hk (by rw [q_Conversions_toWholeOrBits, if_neg c_1, if_neg c_3, if_neg c_5, if_neg c_7, if_neg c_9, if_neg c_10, if_pos c_12, if_pos c_13]) d_Conversions_toWholeOrBits_184 ⟨by decide, by decide⟩
  by_cases c_14 : a0 = (176 : Int32)
  · refine lv_tableIn (tgt := 185) hx hb d_Conversions_toWholeOrBits_1 (by rw [c_14]; decide) (by rw [c_14]; decide) (by rw [c_14]; rfl) (by decide) ?_
    refine gs_1 hq wt_225 d_Conversions_toWholeOrBits_185 ?_
    refine lv_lload_n hx hb d_Conversions_toWholeOrBits_188 rfl (lv_at hl 1 rfl) ?_
    refine lv_bipush (v := (64 : Int32)) hx hb d_Conversions_toWholeOrBits_189 (by decide) ?_
    refine lv_iconst (v := (1 : Int32)) hx hb d_Conversions_toWholeOrBits_191 (by decide) ?_
    refine tl_ (As := [.ref (ad 1), .long a1, .int (64 : Int32), .int (1 : Int32)]) (rest := []) hq hN ht hk (c_Conversions_cut l hlt A ad 1 (by decide) a1 (64 : Int32) (1 : Int32)) kB_Conversions_cut wt_265 ⟨rfl, rfl, Nat.le_of_ble_eq_true rfl, Nat.le_of_ble_eq_true rfl⟩ rfl hl.1 rfl (Nat.le_of_ble_eq_true rfl) d_Conversions_toWholeOrBits_192 ⟨Nat.le_of_ble_eq_true rfl, Nat.le_of_ble_eq_true rfl⟩ (fun hz => by rw [q_Conversions_toWholeOrBits, if_neg c_1, if_neg c_3, if_neg c_5, if_neg c_7, if_neg c_9, if_neg c_10, if_neg c_12, if_pos c_14, if_neg hz]) (fun c_15 => ?_)
    exact rt_l hx hb hr hk (by rw [q_Conversions_toWholeOrBits, if_neg c_1, if_neg c_3, if_neg c_5, if_neg c_7, if_neg c_9, if_neg c_10, if_neg c_12, if_pos c_14, if_pos c_15]) d_Conversions_toWholeOrBits_195 ⟨by decide, by decide⟩
  by_cases c_16 : a0 = (177 : Int32)
  · refine lv_tableIn (tgt := 196) hx hb d_Conversions_toWholeOrBits_1 (by rw [c_16]; decide) (by rw [c_16]; decide) (by rw [c_16]; rfl) (by decide) ?_
    refine gs_1 hq wt_225 d_Conversions_toWholeOrBits_196 ?_
    refine lv_lload_n hx hb d_Conversions_toWholeOrBits_199 rfl (lv_at hl 1 rfl) ?_
    refine lv_bipush (v := (64 : Int32)) hx hb d_Conversions_toWholeOrBits_200 (by decide) ?_
    refine lv_iconst (v := (0 : Int32)) hx hb d_Conversions_toWholeOrBits_202 (by decide) ?_
    refine tl_ (As := [.ref (ad 1), .long a1, .int (64 : Int32), .int (0 : Int32)]) (rest := []) hq hN ht hk (c_Conversions_cut l hlt A ad 1 (by decide) a1 (64 : Int32) (0 : Int32)) kB_Conversions_cut wt_265 ⟨rfl, rfl, Nat.le_of_ble_eq_true rfl, Nat.le_of_ble_eq_true rfl⟩ rfl hl.1 rfl (Nat.le_of_ble_eq_true rfl) d_Conversions_toWholeOrBits_203 ⟨Nat.le_of_ble_eq_true rfl, Nat.le_of_ble_eq_true rfl⟩ (fun hz => by rw [q_Conversions_toWholeOrBits, if_neg c_1, if_neg c_3, if_neg c_5, if_neg c_7, if_neg c_9, if_neg c_10, if_neg c_12, if_neg c_14, if_pos c_16, if_neg hz]) (fun c_17 => ?_)
    exact rt_l hx hb hr hk (by rw [q_Conversions_toWholeOrBits, if_neg c_1, if_neg c_3, if_neg c_5, if_neg c_7, if_neg c_9, if_neg c_10, if_neg c_12, if_neg c_14, if_pos c_16, if_pos c_17]) d_Conversions_toWholeOrBits_206 ⟨by decide, by decide⟩
  by_cases c_18 : a0 = (189 : Int32)
  · refine lv_tableIn (tgt := 207) hx hb d_Conversions_toWholeOrBits_1 (by rw [c_18]; decide) (by rw [c_18]; decide) (by rw [c_18]; rfl) (by decide) ?_
    refine lv_lload_n hx hb d_Conversions_toWholeOrBits_207 rfl (lv_at hl 1 rfl) ?_
    exact rt_l hx hb hr hk (by rw [q_Conversions_toWholeOrBits, if_neg c_1, if_neg c_3, if_neg c_5, if_neg c_7, if_neg c_9, if_neg c_10, if_neg c_12, if_neg c_14, if_neg c_16, if_pos c_18]) d_Conversions_toWholeOrBits_208 ⟨by decide, by decide⟩
  by_cases c_19 : a0 = (191 : Int32)
  · refine lv_tableIn (tgt := 209) hx hb d_Conversions_toWholeOrBits_1 (by rw [c_19]; decide) (by rw [c_19]; decide) (by rw [c_19]; rfl) (by decide) ?_
    refine lv_lload_n hx hb d_Conversions_toWholeOrBits_209 rfl (lv_at hl 1 rfl) ?_
    exact rt_l hx hb hr hk (by rw [q_Conversions_toWholeOrBits, if_neg c_1, if_neg c_3, if_neg c_5, if_neg c_7, if_neg c_9, if_neg c_10, if_neg c_12, if_neg c_14, if_neg c_16, if_neg c_18, if_pos c_19]) d_Conversions_toWholeOrBits_210 ⟨by decide, by decide⟩
  have hsw : a0.toInt < 168 ∨ 191 < a0.toInt ∨ a0.toInt = 173 ∨ a0.toInt = 178 ∨ a0.toInt = 179 ∨ a0.toInt = 180 ∨ a0.toInt = 181 ∨ a0.toInt = 182 ∨ a0.toInt = 183 ∨ a0.toInt = 184 ∨ a0.toInt = 185 ∨ a0.toInt = 186 ∨ a0.toInt = 187 ∨ a0.toInt = 188 ∨ a0.toInt = 190 := by
    have := lv_neT c_1 (a := 168) (by decide)
    have := lv_neT c_3 (a := 169) (by decide)
    have := lv_neT c_5 (a := 170) (by decide)
    have := lv_neT c_7 (a := 171) (by decide)
    have := lv_neT c_9 (a := 172) (by decide)
    have := lv_neT c_10 (a := 174) (by decide)
    have := lv_neT c_12 (a := 175) (by decide)
    have := lv_neT c_14 (a := 176) (by decide)
    have := lv_neT c_16 (a := 177) (by decide)
    have := lv_neT c_18 (a := 189) (by decide)
    have := lv_neT c_19 (a := 191) (by decide)
    omega
  have hs2 : a0.toInt < 168 ∨ 191 < a0.toInt ∨ (¬ a0.toInt < 168 ∧ ¬ 191 < a0.toInt ∧ (#[111, 122, 133, 144, 155, 210, 162, 173, 184, 195, 210, 210, 210, 210, 210, 210, 210, 210, 210, 210, 210, 206, 210, 208] : Array Int)[(a0.toInt - 168).toNat]? = some 210) := by
    rcases hsw with h9 | h9 | h9 | h9 | h9 | h9 | h9 | h9 | h9 | h9 | h9 | h9 | h9 | h9 | h9
    · exact Or.inl h9
    · exact Or.inr (Or.inl h9)
    all_goals exact Or.inr (Or.inr ⟨by rw [h9]; decide, by rw [h9]; decide, by rw [h9] <;> rfl⟩)
  refine tb_dflt (tgt := 211) hx hb d_Conversions_toWholeOrBits_1 hs2 (by decide) ?_
  refine lv_bipush (v := (32 : Int32)) hx hb d_Conversions_toWholeOrBits_211 (by decide) ?_
  refine lv_lload_n hx hb d_Conversions_toWholeOrBits_213 rfl (lv_at hl 1 rfl) ?_
  refine sl_ (As := [.int (32 : Int32), .long a1]) (rest := []) hq (c_Bits_lowest l A ad (32 : Int32) a1) kB_Bits_lowest wt_221 ⟨rfl, rfl, Nat.le_of_ble_eq_true rfl, Nat.le_of_ble_eq_true rfl⟩ rfl hl.1 rfl (Nat.le_of_ble_eq_true rfl) d_Conversions_toWholeOrBits_214 ⟨Nat.le_of_ble_eq_true rfl, Nat.le_of_ble_eq_true rfl⟩ ?_
  exact rt_l hx hb hr hk (by rw [q_Conversions_toWholeOrBits, if_neg c_1, if_neg c_3, if_neg c_5, if_neg c_7, if_neg c_9, if_neg c_10, if_neg c_12, if_neg c_14, if_neg c_16, if_neg c_18, if_neg c_19]) d_Conversions_toWholeOrBits_217 ⟨by decide, by decide⟩
def q_Operations_answer (a0 : Int32) (a1 : Int64) (a2 : Int64) : Nat × Int64 :=
  if (q_Operations_exists a0) = 0 then
    (1, 0)
  else
    if a0 < (178 : Int32) then
      if a0 < (167 : Int32) then
        if (q_Operations_isTwin a0) = 0 then
          if (79 : Int32) < (q_Operations_of32 a0) then
            if (q_Operations_of32 a0) < (103 : Int32) then
              if (96 : Int32) < (q_Operations_of32 a0) then
                (0, (q_Floats_calculate (q_Operations_of32 a0) 0 (q_Bits_lowest (32 : Int32) a1) (q_Bits_lowest (32 : Int32) a2)))
              else
                if (q_Floats_test (q_Operations_of32 a0) 0 (q_Bits_lowest (32 : Int32) a1) (q_Bits_lowest (32 : Int32) a2)) = 0 then
                  (0, (0 : Int64))
                else
                  (0, (1 : Int64))
            else
              if (120 : Int32) < (q_Operations_of32 a0) then
                if (96 : Int32) < (q_Operations_of32 a0) then
                  (0, (q_Floats_calculate (q_Operations_of32 a0) 0 (q_Bits_lowest (32 : Int32) a1) (q_Bits_lowest (32 : Int32) a2)))
                else
                  if (q_Floats_test (q_Operations_of32 a0) 0 (q_Bits_lowest (32 : Int32) a1) (q_Bits_lowest (32 : Int32) a2)) = 0 then
                    (0, (0 : Int64))
                  else
                    (0, (1 : Int64))
              else
                if (q_Wholes_calculate (q_Operations_of32 a0) (32 : Int32) a1 a2).1 = 0 then
                  (0, (q_Wholes_calculate (q_Operations_of32 a0) (32 : Int32) a1 a2).2)
                else
                  ((q_Wholes_calculate (q_Operations_of32 a0) (32 : Int32) a1 a2).1, 0)
          else
            if (q_Wholes_test (q_Operations_of32 a0) (q_Bits_signed (32 : Int32) a1) (q_Bits_signed (32 : Int32) a2)) = 0 then
              (0, (0 : Int64))
            else
              (0, (1 : Int64))
        else
          if (79 : Int32) < (q_Operations_of32 a0) then
            if (q_Operations_of32 a0) < (103 : Int32) then
              if (96 : Int32) < (q_Operations_of32 a0) then
                (0, (q_Floats_calculate (q_Operations_of32 a0) 1 (q_Bits_lowest (64 : Int32) a1) (q_Bits_lowest (64 : Int32) a2)))
              else
                if (q_Floats_test (q_Operations_of32 a0) 1 (q_Bits_lowest (64 : Int32) a1) (q_Bits_lowest (64 : Int32) a2)) = 0 then
                  (0, (0 : Int64))
                else
                  (0, (1 : Int64))
            else
              if (120 : Int32) < (q_Operations_of32 a0) then
                if (96 : Int32) < (q_Operations_of32 a0) then
                  (0, (q_Floats_calculate (q_Operations_of32 a0) 1 (q_Bits_lowest (64 : Int32) a1) (q_Bits_lowest (64 : Int32) a2)))
                else
                  if (q_Floats_test (q_Operations_of32 a0) 1 (q_Bits_lowest (64 : Int32) a1) (q_Bits_lowest (64 : Int32) a2)) = 0 then
                    (0, (0 : Int64))
                  else
                    (0, (1 : Int64))
              else
                if (q_Wholes_calculate (q_Operations_of32 a0) (64 : Int32) a1 a2).1 = 0 then
                  (0, (q_Wholes_calculate (q_Operations_of32 a0) (64 : Int32) a1 a2).2)
                else
                  ((q_Wholes_calculate (q_Operations_of32 a0) (64 : Int32) a1 a2).1, 0)
          else
            if (q_Wholes_test (q_Operations_of32 a0) (q_Bits_signed (64 : Int32) a1) (q_Bits_signed (64 : Int32) a2)) = 0 then
              (0, (0 : Int64))
            else
              (0, (1 : Int64))
      else
        if (q_Conversions_toWholeOrBits a0 a1).1 = 0 then
          (0, (q_Conversions_toWholeOrBits a0 a1).2)
        else
          ((q_Conversions_toWholeOrBits a0 a1).1, 0)
    else
      if (187 : Int32) < a0 then
        if a0 < (167 : Int32) then
          if (q_Operations_isTwin a0) = 0 then
            if (79 : Int32) < (q_Operations_of32 a0) then
              if (q_Operations_of32 a0) < (103 : Int32) then
                if (96 : Int32) < (q_Operations_of32 a0) then
                  (0, (q_Floats_calculate (q_Operations_of32 a0) 0 (q_Bits_lowest (32 : Int32) a1) (q_Bits_lowest (32 : Int32) a2)))
                else
                  if (q_Floats_test (q_Operations_of32 a0) 0 (q_Bits_lowest (32 : Int32) a1) (q_Bits_lowest (32 : Int32) a2)) = 0 then
                    (0, (0 : Int64))
                  else
                    (0, (1 : Int64))
              else
                if (120 : Int32) < (q_Operations_of32 a0) then
                  if (96 : Int32) < (q_Operations_of32 a0) then
                    (0, (q_Floats_calculate (q_Operations_of32 a0) 0 (q_Bits_lowest (32 : Int32) a1) (q_Bits_lowest (32 : Int32) a2)))
                  else
                    if (q_Floats_test (q_Operations_of32 a0) 0 (q_Bits_lowest (32 : Int32) a1) (q_Bits_lowest (32 : Int32) a2)) = 0 then
                      (0, (0 : Int64))
                    else
                      (0, (1 : Int64))
                else
                  if (q_Wholes_calculate (q_Operations_of32 a0) (32 : Int32) a1 a2).1 = 0 then
                    (0, (q_Wholes_calculate (q_Operations_of32 a0) (32 : Int32) a1 a2).2)
                  else
                    ((q_Wholes_calculate (q_Operations_of32 a0) (32 : Int32) a1 a2).1, 0)
            else
              if (q_Wholes_test (q_Operations_of32 a0) (q_Bits_signed (32 : Int32) a1) (q_Bits_signed (32 : Int32) a2)) = 0 then
                (0, (0 : Int64))
              else
                (0, (1 : Int64))
          else
            if (79 : Int32) < (q_Operations_of32 a0) then
              if (q_Operations_of32 a0) < (103 : Int32) then
                if (96 : Int32) < (q_Operations_of32 a0) then
                  (0, (q_Floats_calculate (q_Operations_of32 a0) 1 (q_Bits_lowest (64 : Int32) a1) (q_Bits_lowest (64 : Int32) a2)))
                else
                  if (q_Floats_test (q_Operations_of32 a0) 1 (q_Bits_lowest (64 : Int32) a1) (q_Bits_lowest (64 : Int32) a2)) = 0 then
                    (0, (0 : Int64))
                  else
                    (0, (1 : Int64))
              else
                if (120 : Int32) < (q_Operations_of32 a0) then
                  if (96 : Int32) < (q_Operations_of32 a0) then
                    (0, (q_Floats_calculate (q_Operations_of32 a0) 1 (q_Bits_lowest (64 : Int32) a1) (q_Bits_lowest (64 : Int32) a2)))
                  else
                    if (q_Floats_test (q_Operations_of32 a0) 1 (q_Bits_lowest (64 : Int32) a1) (q_Bits_lowest (64 : Int32) a2)) = 0 then
                      (0, (0 : Int64))
                    else
                      (0, (1 : Int64))
                else
                  if (q_Wholes_calculate (q_Operations_of32 a0) (64 : Int32) a1 a2).1 = 0 then
                    (0, (q_Wholes_calculate (q_Operations_of32 a0) (64 : Int32) a1 a2).2)
                  else
                    ((q_Wholes_calculate (q_Operations_of32 a0) (64 : Int32) a1 a2).1, 0)
            else
              if (q_Wholes_test (q_Operations_of32 a0) (q_Bits_signed (64 : Int32) a1) (q_Bits_signed (64 : Int32) a2)) = 0 then
                (0, (0 : Int64))
              else
                (0, (1 : Int64))
        else
          if (q_Conversions_toWholeOrBits a0 a1).1 = 0 then
            (0, (q_Conversions_toWholeOrBits a0 a1).2)
          else
            ((q_Conversions_toWholeOrBits a0 a1).1, 0)
      else
        (0, (q_Conversions_toFloat a0 a1))
theorem kB_Operations_answer : SB y_Operations_answer b_Operations_answer 8 (some .long) 3 := ⟨wt_119, wt_118, wt_37, by decide +kernel⟩
theorem ta_Operations_answer_7 {ad : Nat → Nat} {args : Array Value} {s : State} (hts : ∀ w ∈ BT, w.before args s = true) (hN : NW ad s) : ∀ w ∈ vx_atS "BitArithmetic$Operations" 20 (exN 1) exU, w.before args s = true := th_at [38, 143, 152, 157, 160, 162, 144, 145, 62, 63, 146, 151, 158, 178, 133, 179, 135, 180, 137, 147, 149, 139, 174, 175, 177, 139, 165, 166, 167, 168, 168, 169, 170, 171, 171, 172, 173, 174, 164, 122, 130, 131, 132, 134, 136, 138, 142, 141, 140] hts hN (by decide +kernel) (by decide +kernel)
set_option maxHeartbeats 4000000 in
set_option maxRecDepth 100000 in
theorem c_Operations_answer (l : Launch) (hlt : l.stackTraces = false) (A : Nat → Prop) (ad : Nat → Nat) (a0 : Int32) (a1 : Int64) (a2 : Int64) : vx_Met l y_Operations_answer (Cond.code y_Operations_answer b_Operations_answer 8 (some .long) :: BT) ({ frames := 8, cells := 1, slots := 6, locals := 160 }) (PT A ad [.int a0, .long a1, .long a2]) (te_S (q_Operations_answer a0 a1 a2)) (te_X (q_Operations_answer a0 a1 a2)) 1 6 (fun _ => False) := by
  refine pt_ (by decide) (Nat.le_of_ble_eq_true rfl) ?_
  intro p e s m below meth c hq hN ht hr hk ls hl
  have hx := hq.1
  have hb := hq.2.1
  have hts := hq.2.2.2.2.1
  have hl : lv_has ls 8 [(0, .int a0), (1, .long a1), (3, .long a2)] := hl
  refine lv_iload_n hx hb d_Operations_answer_0 rfl (lv_at hl 0 rfl) ?_
  refine si_ (As := [.int a0]) (rest := []) hq (c_Operations_exists l A ad a0) kB_Operations_exists wt_120 ⟨rfl, rfl, Nat.le_of_ble_eq_true rfl, Nat.le_of_ble_eq_true rfl⟩ rfl hl.1 rfl (Nat.le_of_ble_eq_true rfl) d_Operations_answer_1 ⟨Nat.le_of_ble_eq_true rfl, Nat.le_of_ble_eq_true rfl⟩ ?_
  refine lv_if_ne (tgt := 17) hx hb d_Operations_answer_4 (by decide) (fun c_1 => ?_) (fun c_1 => ?_)
  · refine lv_iload_n hx hb d_Operations_answer_17 rfl (lv_at hl 0 rfl) ?_
    refine lv_sipush (v := (178 : Int32)) hx hb d_Operations_answer_18 (by decide) ?_
    refine lv_icmp_lt (tgt := 37) hx hb d_Operations_answer_21 (by decide) (fun c_2 => ?_) (fun c_2 => ?_)
    · refine lv_iload_n hx hb d_Operations_answer_37 rfl (lv_at hl 0 rfl) ?_
      refine lv_sipush (v := (167 : Int32)) hx hb d_Operations_answer_38 (by decide) ?_
      refine lv_icmp_lt (tgt := 50) hx hb d_Operations_answer_41 (by decide) (fun c_3 => ?_) (fun c_3 => ?_)
      · refine lv_iload_n hx hb d_Operations_answer_50 rfl (lv_at hl 0 rfl) ?_
        refine si_ (As := [.int a0]) (rest := []) hq (c_Operations_of32 l A ad a0) kB_Operations_of32 wt_315 ⟨rfl, rfl, Nat.le_of_ble_eq_true rfl, Nat.le_of_ble_eq_true rfl⟩ rfl hl.1 rfl (Nat.le_of_ble_eq_true rfl) d_Operations_answer_51 ⟨Nat.le_of_ble_eq_true rfl, Nat.le_of_ble_eq_true rfl⟩ ?_
        refine lv_istore (lv' := [(5, .int (q_Operations_of32 a0)), (0, .int a0), (1, .long a1), (3, .long a2)]) hx hb d_Operations_answer_54 hl (by decide) rfl (fun ls hl => ?_)
        refine lv_iload_n hx hb d_Operations_answer_56 rfl (lv_at hl 1 rfl) ?_
        refine si_ (As := [.int a0]) (rest := []) hq (c_Operations_isTwin l A ad a0) kB_Operations_isTwin wt_95 ⟨rfl, rfl, Nat.le_of_ble_eq_true rfl, Nat.le_of_ble_eq_true rfl⟩ rfl hl.1 rfl (Nat.le_of_ble_eq_true rfl) d_Operations_answer_57 ⟨Nat.le_of_ble_eq_true rfl, Nat.le_of_ble_eq_true rfl⟩ ?_
        refine lv_if_eq (tgt := 68) hx hb d_Operations_answer_60 (by decide) (fun c_4 => ?_) (fun c_4 => ?_)
        · refine lv_bipush (v := (32 : Int32)) hx hb d_Operations_answer_68 (by decide) ?_
          refine lv_istore (lv' := [(6, .int (32 : Int32)), (5, .int (q_Operations_of32 a0)), (0, .int a0), (1, .long a1), (3, .long a2)]) hx hb d_Operations_answer_70 hl (by decide) rfl (fun ls hl => ?_)
          refine lv_iload hx hb d_Operations_answer_72 (lv_at hl 1 rfl) ?_
          refine lv_bipush (v := (79 : Int32)) hx hb d_Operations_answer_74 (by decide) ?_
          refine lv_icmp_gt (tgt := 105) hx hb d_Operations_answer_76 (by decide) (fun c_5 => ?_) (fun c_5 => ?_)
          · refine lv_iload hx hb d_Operations_answer_105 (lv_at hl 1 rfl) ?_
            refine lv_bipush (v := (103 : Int32)) hx hb d_Operations_answer_107 (by decide) ?_
            refine lv_icmp_lt (tgt := 129) hx hb d_Operations_answer_109 (by decide) (fun c_6 => ?_) (fun c_6 => ?_)
            · refine lv_iload hx hb d_Operations_answer_129 (lv_at hl 0 rfl) ?_
              refine lv_bipush (v := (32 : Int32)) hx hb d_Operations_answer_131 (by decide) ?_
              refine lv_icmp_ne (tgt := 142) hx hb d_Operations_answer_133 (by decide) (fun c => absurd (by decide) c) (fun _ => ?_)
              refine gs_0 hq wt_383 d_Operations_answer_136 ?_
              refine lv_goto (tgt := 145) hx hb d_Operations_answer_139 (by decide) ?_
              refine lv_astore (lv' := [(7, .ref (ad 0)), (6, .int (32 : Int32)), (5, .int (q_Operations_of32 a0)), (0, .int a0), (1, .long a1), (3, .long a2)]) hx hb d_Operations_answer_145 hl (by decide) rfl (fun ls hl => ?_)
              refine lv_iload hx hb d_Operations_answer_147 (lv_at hl 2 rfl) ?_
              refine lv_bipush (v := (96 : Int32)) hx hb d_Operations_answer_149 (by decide) ?_
              refine lv_icmp_gt (tgt := 182) hx hb d_Operations_answer_151 (by decide) (fun c_7 => ?_) (fun c_7 => ?_)
              · refine lv_iload hx hb d_Operations_answer_182 (lv_at hl 2 rfl) ?_
                refine lv_aload hx hb d_Operations_answer_184 (lv_at hl 0 rfl) ?_
                refine lv_iload hx hb d_Operations_answer_186 (lv_at hl 1 rfl) ?_
                refine lv_lload_n hx hb d_Operations_answer_188 rfl (lv_at hl 4 rfl) ?_
                refine sl_ (As := [.int (32 : Int32), .long a1]) (rest := [.ref (ad 0), .int (q_Operations_of32 a0)]) hq (c_Bits_lowest l A ad (32 : Int32) a1) kB_Bits_lowest wt_385 ⟨rfl, rfl, Nat.le_of_ble_eq_true rfl, Nat.le_of_ble_eq_true rfl⟩ rfl hl.1 rfl (Nat.le_of_ble_eq_true rfl) d_Operations_answer_189 ⟨Nat.le_of_ble_eq_true rfl, Nat.le_of_ble_eq_true rfl⟩ ?_
                refine lv_iload hx hb d_Operations_answer_192 (lv_at hl 1 rfl) ?_
                refine lv_lload_n hx hb d_Operations_answer_194 rfl (lv_at hl 5 rfl) ?_
                refine sl_ (As := [.int (32 : Int32), .long a2]) (rest := [.long (q_Bits_lowest (32 : Int32) a1), .ref (ad 0), .int (q_Operations_of32 a0)]) hq (c_Bits_lowest l A ad (32 : Int32) a2) kB_Bits_lowest wt_385 ⟨rfl, rfl, Nat.le_of_ble_eq_true rfl, Nat.le_of_ble_eq_true rfl⟩ rfl hl.1 rfl (Nat.le_of_ble_eq_true rfl) d_Operations_answer_195 ⟨Nat.le_of_ble_eq_true rfl, Nat.le_of_ble_eq_true rfl⟩ ?_
                refine sl_ (As := [.int (q_Operations_of32 a0), .ref (ad 0), .long (q_Bits_lowest (32 : Int32) a1), .long (q_Bits_lowest (32 : Int32) a2)]) (rest := []) hq (c_Floats_calculate l A ad (q_Operations_of32 a0) 0 (by decide) (q_Bits_lowest (32 : Int32) a1) (q_Bits_lowest (32 : Int32) a2)) kB_Floats_calculate wt_395 ⟨rfl, rfl, Nat.le_of_ble_eq_true rfl, Nat.le_of_ble_eq_true rfl⟩ rfl hl.1 rfl (Nat.le_of_ble_eq_true rfl) d_Operations_answer_198 ⟨Nat.le_of_ble_eq_true rfl, Nat.le_of_ble_eq_true rfl⟩ ?_
                exact rt_l hx hb hr hk (by rw [q_Operations_answer, if_neg c_1, if_pos c_2, if_pos c_3, if_pos c_4, if_pos c_5, if_pos c_6, if_pos c_7]) d_Operations_answer_201 ⟨by decide, by decide⟩
              · refine lv_iload hx hb d_Operations_answer_154 (lv_at hl 2 rfl) ?_
                refine lv_aload hx hb d_Operations_answer_156 (lv_at hl 0 rfl) ?_
                refine lv_iload hx hb d_Operations_answer_158 (lv_at hl 1 rfl) ?_
                refine lv_lload_n hx hb d_Operations_answer_160 rfl (lv_at hl 4 rfl) ?_
                refine sl_ (As := [.int (32 : Int32), .long a1]) (rest := [.ref (ad 0), .int (q_Operations_of32 a0)]) hq (c_Bits_lowest l A ad (32 : Int32) a1) kB_Bits_lowest wt_385 ⟨rfl, rfl, Nat.le_of_ble_eq_true rfl, Nat.le_of_ble_eq_true rfl⟩ rfl hl.1 rfl (Nat.le_of_ble_eq_true rfl) d_Operations_answer_161 ⟨Nat.le_of_ble_eq_true rfl, Nat.le_of_ble_eq_true rfl⟩ ?_
                refine lv_iload hx hb d_Operations_answer_164 (lv_at hl 1 rfl) ?_
                refine lv_lload_n hx hb d_Operations_answer_166 rfl (lv_at hl 5 rfl) ?_
                refine sl_ (As := [.int (32 : Int32), .long a2]) (rest := [.long (q_Bits_lowest (32 : Int32) a1), .ref (ad 0), .int (q_Operations_of32 a0)]) hq (c_Bits_lowest l A ad (32 : Int32) a2) kB_Bits_lowest wt_385 ⟨rfl, rfl, Nat.le_of_ble_eq_true rfl, Nat.le_of_ble_eq_true rfl⟩ rfl hl.1 rfl (Nat.le_of_ble_eq_true rfl) d_Operations_answer_167 ⟨Nat.le_of_ble_eq_true rfl, Nat.le_of_ble_eq_true rfl⟩ ?_
                refine si_ (As := [.int (q_Operations_of32 a0), .ref (ad 0), .long (q_Bits_lowest (32 : Int32) a1), .long (q_Bits_lowest (32 : Int32) a2)]) (rest := []) hq (c_Floats_test l A ad (q_Operations_of32 a0) 0 (by decide) (q_Bits_lowest (32 : Int32) a1) (q_Bits_lowest (32 : Int32) a2)) kB_Floats_test wt_386 ⟨rfl, rfl, Nat.le_of_ble_eq_true rfl, Nat.le_of_ble_eq_true rfl⟩ rfl hl.1 rfl (Nat.le_of_ble_eq_true rfl) d_Operations_answer_170 ⟨Nat.le_of_ble_eq_true rfl, Nat.le_of_ble_eq_true rfl⟩ ?_
                refine lv_if_eq (tgt := 180) hx hb d_Operations_answer_173 (by decide) (fun c_8 => ?_) (fun c_8 => ?_)
                · refine lv_lconst (v := (0 : Int64)) hx hb d_Operations_answer_180 (by decide) ?_
                  exact rt_l hx hb hr hk (by rw [q_Operations_answer, if_neg c_1, if_pos c_2, if_pos c_3, if_pos c_4, if_pos c_5, if_pos c_6, if_neg c_7, if_pos c_8]) d_Operations_answer_181 ⟨by decide, by decide⟩
                · refine lv_lconst (v := (1 : Int64)) hx hb d_Operations_answer_176 (by decide) ?_
                  refine lv_goto (tgt := 181) hx hb d_Operations_answer_177 (by decide) ?_
                  exact rt_l hx hb hr hk (by rw [q_Operations_answer, if_neg c_1, if_pos c_2, if_pos c_3, if_pos c_4, if_pos c_5, if_pos c_6, if_neg c_7, if_neg c_8]) d_Operations_answer_181 ⟨by decide, by decide⟩
            · refine lv_iload hx hb d_Operations_answer_112 (lv_at hl 1 rfl) ?_
              refine lv_bipush (v := (120 : Int32)) hx hb d_Operations_answer_114 (by decide) ?_
              refine lv_icmp_gt (tgt := 129) hx hb d_Operations_answer_116 (by decide) (fun c_9 => ?_) (fun c_9 => ?_)
              · refine lv_iload hx hb d_Operations_answer_129 (lv_at hl 0 rfl) ?_
                refine lv_bipush (v := (32 : Int32)) hx hb d_Operations_answer_131 (by decide) ?_
                refine lv_icmp_ne (tgt := 142) hx hb d_Operations_answer_133 (by decide) (fun c => absurd (by decide) c) (fun _ => ?_)
                refine gs_0 hq wt_383 d_Operations_answer_136 ?_
                refine lv_goto (tgt := 145) hx hb d_Operations_answer_139 (by decide) ?_
                refine lv_astore (lv' := [(7, .ref (ad 0)), (6, .int (32 : Int32)), (5, .int (q_Operations_of32 a0)), (0, .int a0), (1, .long a1), (3, .long a2)]) hx hb d_Operations_answer_145 hl (by decide) rfl (fun ls hl => ?_)
                refine lv_iload hx hb d_Operations_answer_147 (lv_at hl 2 rfl) ?_
                refine lv_bipush (v := (96 : Int32)) hx hb d_Operations_answer_149 (by decide) ?_
                refine lv_icmp_gt (tgt := 182) hx hb d_Operations_answer_151 (by decide) (fun c_10 => ?_) (fun c_10 => ?_)
                · refine lv_iload hx hb d_Operations_answer_182 (lv_at hl 2 rfl) ?_
                  refine lv_aload hx hb d_Operations_answer_184 (lv_at hl 0 rfl) ?_
                  refine lv_iload hx hb d_Operations_answer_186 (lv_at hl 1 rfl) ?_
                  refine lv_lload_n hx hb d_Operations_answer_188 rfl (lv_at hl 4 rfl) ?_
                  refine sl_ (As := [.int (32 : Int32), .long a1]) (rest := [.ref (ad 0), .int (q_Operations_of32 a0)]) hq (c_Bits_lowest l A ad (32 : Int32) a1) kB_Bits_lowest wt_385 ⟨rfl, rfl, Nat.le_of_ble_eq_true rfl, Nat.le_of_ble_eq_true rfl⟩ rfl hl.1 rfl (Nat.le_of_ble_eq_true rfl) d_Operations_answer_189 ⟨Nat.le_of_ble_eq_true rfl, Nat.le_of_ble_eq_true rfl⟩ ?_
                  refine lv_iload hx hb d_Operations_answer_192 (lv_at hl 1 rfl) ?_
                  refine lv_lload_n hx hb d_Operations_answer_194 rfl (lv_at hl 5 rfl) ?_
                  refine sl_ (As := [.int (32 : Int32), .long a2]) (rest := [.long (q_Bits_lowest (32 : Int32) a1), .ref (ad 0), .int (q_Operations_of32 a0)]) hq (c_Bits_lowest l A ad (32 : Int32) a2) kB_Bits_lowest wt_385 ⟨rfl, rfl, Nat.le_of_ble_eq_true rfl, Nat.le_of_ble_eq_true rfl⟩ rfl hl.1 rfl (Nat.le_of_ble_eq_true rfl) d_Operations_answer_195 ⟨Nat.le_of_ble_eq_true rfl, Nat.le_of_ble_eq_true rfl⟩ ?_
                  refine sl_ (As := [.int (q_Operations_of32 a0), .ref (ad 0), .long (q_Bits_lowest (32 : Int32) a1), .long (q_Bits_lowest (32 : Int32) a2)]) (rest := []) hq (c_Floats_calculate l A ad (q_Operations_of32 a0) 0 (by decide) (q_Bits_lowest (32 : Int32) a1) (q_Bits_lowest (32 : Int32) a2)) kB_Floats_calculate wt_395 ⟨rfl, rfl, Nat.le_of_ble_eq_true rfl, Nat.le_of_ble_eq_true rfl⟩ rfl hl.1 rfl (Nat.le_of_ble_eq_true rfl) d_Operations_answer_198 ⟨Nat.le_of_ble_eq_true rfl, Nat.le_of_ble_eq_true rfl⟩ ?_
                  exact rt_l hx hb hr hk (by rw [q_Operations_answer, if_neg c_1, if_pos c_2, if_pos c_3, if_pos c_4, if_pos c_5, if_neg c_6, if_pos c_9, if_pos c_10]) d_Operations_answer_201 ⟨by decide, by decide⟩
                · refine lv_iload hx hb d_Operations_answer_154 (lv_at hl 2 rfl) ?_
                  refine lv_aload hx hb d_Operations_answer_156 (lv_at hl 0 rfl) ?_
                  refine lv_iload hx hb d_Operations_answer_158 (lv_at hl 1 rfl) ?_
                  refine lv_lload_n hx hb d_Operations_answer_160 rfl (lv_at hl 4 rfl) ?_
                  refine sl_ (As := [.int (32 : Int32), .long a1]) (rest := [.ref (ad 0), .int (q_Operations_of32 a0)]) hq (c_Bits_lowest l A ad (32 : Int32) a1) kB_Bits_lowest wt_385 ⟨rfl, rfl, Nat.le_of_ble_eq_true rfl, Nat.le_of_ble_eq_true rfl⟩ rfl hl.1 rfl (Nat.le_of_ble_eq_true rfl) d_Operations_answer_161 ⟨Nat.le_of_ble_eq_true rfl, Nat.le_of_ble_eq_true rfl⟩ ?_
                  refine lv_iload hx hb d_Operations_answer_164 (lv_at hl 1 rfl) ?_
                  refine lv_lload_n hx hb d_Operations_answer_166 rfl (lv_at hl 5 rfl) ?_
                  refine sl_ (As := [.int (32 : Int32), .long a2]) (rest := [.long (q_Bits_lowest (32 : Int32) a1), .ref (ad 0), .int (q_Operations_of32 a0)]) hq (c_Bits_lowest l A ad (32 : Int32) a2) kB_Bits_lowest wt_385 ⟨rfl, rfl, Nat.le_of_ble_eq_true rfl, Nat.le_of_ble_eq_true rfl⟩ rfl hl.1 rfl (Nat.le_of_ble_eq_true rfl) d_Operations_answer_167 ⟨Nat.le_of_ble_eq_true rfl, Nat.le_of_ble_eq_true rfl⟩ ?_
                  refine si_ (As := [.int (q_Operations_of32 a0), .ref (ad 0), .long (q_Bits_lowest (32 : Int32) a1), .long (q_Bits_lowest (32 : Int32) a2)]) (rest := []) hq (c_Floats_test l A ad (q_Operations_of32 a0) 0 (by decide) (q_Bits_lowest (32 : Int32) a1) (q_Bits_lowest (32 : Int32) a2)) kB_Floats_test wt_386 ⟨rfl, rfl, Nat.le_of_ble_eq_true rfl, Nat.le_of_ble_eq_true rfl⟩ rfl hl.1 rfl (Nat.le_of_ble_eq_true rfl) d_Operations_answer_170 ⟨Nat.le_of_ble_eq_true rfl, Nat.le_of_ble_eq_true rfl⟩ ?_
                  refine lv_if_eq (tgt := 180) hx hb d_Operations_answer_173 (by decide) (fun c_11 => ?_) (fun c_11 => ?_)
                  · refine lv_lconst (v := (0 : Int64)) hx hb d_Operations_answer_180 (by decide) ?_
                    exact rt_l hx hb hr hk (by rw [q_Operations_answer, if_neg c_1, if_pos c_2, if_pos c_3, if_pos c_4, if_pos c_5, if_neg c_6, if_pos c_9, if_neg c_10, if_pos c_11]) d_Operations_answer_181 ⟨by decide, by decide⟩
                  · refine lv_lconst (v := (1 : Int64)) hx hb d_Operations_answer_176 (by decide) ?_
                    refine lv_goto (tgt := 181) hx hb d_Operations_answer_177 (by decide) ?_
                    exact rt_l hx hb hr hk (by rw [q_Operations_answer, if_neg c_1, if_pos c_2, if_pos c_3, if_pos c_4, if_pos c_5, if_neg c_6, if_pos c_9, if_neg c_10, if_neg c_11]) d_Operations_answer_181 ⟨by decide, by decide⟩
              · refine lv_iload hx hb d_Operations_answer_119 (lv_at hl 1 rfl) ?_
                refine lv_iload hx hb d_Operations_answer_121 (lv_at hl 0 rfl) ?_
                refine lv_lload_n hx hb d_Operations_answer_123 rfl (lv_at hl 3 rfl) ?_
                refine lv_lload_n hx hb d_Operations_answer_124 rfl (lv_at hl 4 rfl) ?_
                refine tl_ (As := [.int (q_Operations_of32 a0), .int (32 : Int32), .long a1, .long a2]) (rest := []) hq hN ht hk (c_Wholes_calculate l hlt A ad (q_Operations_of32 a0) (32 : Int32) a1 a2) kB_Wholes_calculate wt_321 ⟨rfl, rfl, Nat.le_of_ble_eq_true rfl, Nat.le_of_ble_eq_true rfl⟩ rfl hl.1 rfl (Nat.le_of_ble_eq_true rfl) d_Operations_answer_125 ⟨Nat.le_of_ble_eq_true rfl, Nat.le_of_ble_eq_true rfl⟩ (fun hz => by rw [q_Operations_answer, if_neg c_1, if_pos c_2, if_pos c_3, if_pos c_4, if_pos c_5, if_neg c_6, if_neg c_9, if_neg hz]) (fun c_12 => ?_)
                exact rt_l hx hb hr hk (by rw [q_Operations_answer, if_neg c_1, if_pos c_2, if_pos c_3, if_pos c_4, if_pos c_5, if_neg c_6, if_neg c_9, if_pos c_12]) d_Operations_answer_128 ⟨by decide, by decide⟩
          · refine lv_iload hx hb d_Operations_answer_79 (lv_at hl 1 rfl) ?_
            refine lv_iload hx hb d_Operations_answer_81 (lv_at hl 0 rfl) ?_
            refine lv_lload_n hx hb d_Operations_answer_83 rfl (lv_at hl 3 rfl) ?_
            refine sl_ (As := [.int (32 : Int32), .long a1]) (rest := [.int (q_Operations_of32 a0)]) hq (c_Bits_signed l A ad (32 : Int32) a1) kB_Bits_signed wt_316 ⟨rfl, rfl, Nat.le_of_ble_eq_true rfl, Nat.le_of_ble_eq_true rfl⟩ rfl hl.1 rfl (Nat.le_of_ble_eq_true rfl) d_Operations_answer_84 ⟨Nat.le_of_ble_eq_true rfl, Nat.le_of_ble_eq_true rfl⟩ ?_
            refine lv_iload hx hb d_Operations_answer_87 (lv_at hl 0 rfl) ?_
            refine lv_lload_n hx hb d_Operations_answer_89 rfl (lv_at hl 4 rfl) ?_
            refine sl_ (As := [.int (32 : Int32), .long a2]) (rest := [.long (q_Bits_signed (32 : Int32) a1), .int (q_Operations_of32 a0)]) hq (c_Bits_signed l A ad (32 : Int32) a2) kB_Bits_signed wt_316 ⟨rfl, rfl, Nat.le_of_ble_eq_true rfl, Nat.le_of_ble_eq_true rfl⟩ rfl hl.1 rfl (Nat.le_of_ble_eq_true rfl) d_Operations_answer_90 ⟨Nat.le_of_ble_eq_true rfl, Nat.le_of_ble_eq_true rfl⟩ ?_
            refine si_ (As := [.int (q_Operations_of32 a0), .long (q_Bits_signed (32 : Int32) a1), .long (q_Bits_signed (32 : Int32) a2)]) (rest := []) hq (c_Wholes_test l A ad (q_Operations_of32 a0) (q_Bits_signed (32 : Int32) a1) (q_Bits_signed (32 : Int32) a2)) kB_Wholes_test wt_317 ⟨rfl, rfl, Nat.le_of_ble_eq_true rfl, Nat.le_of_ble_eq_true rfl⟩ rfl hl.1 rfl (Nat.le_of_ble_eq_true rfl) d_Operations_answer_93 ⟨Nat.le_of_ble_eq_true rfl, Nat.le_of_ble_eq_true rfl⟩ ?_
            refine lv_if_eq (tgt := 103) hx hb d_Operations_answer_96 (by decide) (fun c_13 => ?_) (fun c_13 => ?_)
            · refine lv_lconst (v := (0 : Int64)) hx hb d_Operations_answer_103 (by decide) ?_
              exact rt_l hx hb hr hk (by rw [q_Operations_answer, if_neg c_1, if_pos c_2, if_pos c_3, if_pos c_4, if_neg c_5, if_pos c_13]) d_Operations_answer_104 ⟨by decide, by decide⟩
            · refine lv_lconst (v := (1 : Int64)) hx hb d_Operations_answer_99 (by decide) ?_
              refine lv_goto (tgt := 104) hx hb d_Operations_answer_100 (by decide) ?_
              exact rt_l hx hb hr hk (by rw [q_Operations_answer, if_neg c_1, if_pos c_2, if_pos c_3, if_pos c_4, if_neg c_5, if_neg c_13]) d_Operations_answer_104 ⟨by decide, by decide⟩
        · refine lv_bipush (v := (64 : Int32)) hx hb d_Operations_answer_63 (by decide) ?_
          refine lv_goto (tgt := 70) hx hb d_Operations_answer_65 (by decide) ?_
          refine lv_istore (lv' := [(6, .int (64 : Int32)), (5, .int (q_Operations_of32 a0)), (0, .int a0), (1, .long a1), (3, .long a2)]) hx hb d_Operations_answer_70 hl (by decide) rfl (fun ls hl => ?_)
          refine lv_iload hx hb d_Operations_answer_72 (lv_at hl 1 rfl) ?_
          refine lv_bipush (v := (79 : Int32)) hx hb d_Operations_answer_74 (by decide) ?_
          refine lv_icmp_gt (tgt := 105) hx hb d_Operations_answer_76 (by decide) (fun c_14 => ?_) (fun c_14 => ?_)
          · refine lv_iload hx hb d_Operations_answer_105 (lv_at hl 1 rfl) ?_
            refine lv_bipush (v := (103 : Int32)) hx hb d_Operations_answer_107 (by decide) ?_
            refine lv_icmp_lt (tgt := 129) hx hb d_Operations_answer_109 (by decide) (fun c_15 => ?_) (fun c_15 => ?_)
            · refine lv_iload hx hb d_Operations_answer_129 (lv_at hl 0 rfl) ?_
              refine lv_bipush (v := (32 : Int32)) hx hb d_Operations_answer_131 (by decide) ?_
              refine lv_icmp_ne (tgt := 142) hx hb d_Operations_answer_133 (by decide) (fun _ => ?_) (fun c => absurd c (by decide))
              refine gs_1 hq wt_384 d_Operations_answer_142 ?_
              refine lv_astore (lv' := [(7, .ref (ad 1)), (6, .int (64 : Int32)), (5, .int (q_Operations_of32 a0)), (0, .int a0), (1, .long a1), (3, .long a2)]) hx hb d_Operations_answer_145 hl (by decide) rfl (fun ls hl => ?_)
              refine lv_iload hx hb d_Operations_answer_147 (lv_at hl 2 rfl) ?_
              refine lv_bipush (v := (96 : Int32)) hx hb d_Operations_answer_149 (by decide) ?_
              refine lv_icmp_gt (tgt := 182) hx hb d_Operations_answer_151 (by decide) (fun c_16 => ?_) (fun c_16 => ?_)
              · refine lv_iload hx hb d_Operations_answer_182 (lv_at hl 2 rfl) ?_
                refine lv_aload hx hb d_Operations_answer_184 (lv_at hl 0 rfl) ?_
                refine lv_iload hx hb d_Operations_answer_186 (lv_at hl 1 rfl) ?_
                refine lv_lload_n hx hb d_Operations_answer_188 rfl (lv_at hl 4 rfl) ?_
                refine sl_ (As := [.int (64 : Int32), .long a1]) (rest := [.ref (ad 1), .int (q_Operations_of32 a0)]) hq (c_Bits_lowest l A ad (64 : Int32) a1) kB_Bits_lowest wt_385 ⟨rfl, rfl, Nat.le_of_ble_eq_true rfl, Nat.le_of_ble_eq_true rfl⟩ rfl hl.1 rfl (Nat.le_of_ble_eq_true rfl) d_Operations_answer_189 ⟨Nat.le_of_ble_eq_true rfl, Nat.le_of_ble_eq_true rfl⟩ ?_
                refine lv_iload hx hb d_Operations_answer_192 (lv_at hl 1 rfl) ?_
                refine lv_lload_n hx hb d_Operations_answer_194 rfl (lv_at hl 5 rfl) ?_
                refine sl_ (As := [.int (64 : Int32), .long a2]) (rest := [.long (q_Bits_lowest (64 : Int32) a1), .ref (ad 1), .int (q_Operations_of32 a0)]) hq (c_Bits_lowest l A ad (64 : Int32) a2) kB_Bits_lowest wt_385 ⟨rfl, rfl, Nat.le_of_ble_eq_true rfl, Nat.le_of_ble_eq_true rfl⟩ rfl hl.1 rfl (Nat.le_of_ble_eq_true rfl) d_Operations_answer_195 ⟨Nat.le_of_ble_eq_true rfl, Nat.le_of_ble_eq_true rfl⟩ ?_
                refine sl_ (As := [.int (q_Operations_of32 a0), .ref (ad 1), .long (q_Bits_lowest (64 : Int32) a1), .long (q_Bits_lowest (64 : Int32) a2)]) (rest := []) hq (c_Floats_calculate l A ad (q_Operations_of32 a0) 1 (by decide) (q_Bits_lowest (64 : Int32) a1) (q_Bits_lowest (64 : Int32) a2)) kB_Floats_calculate wt_395 ⟨rfl, rfl, Nat.le_of_ble_eq_true rfl, Nat.le_of_ble_eq_true rfl⟩ rfl hl.1 rfl (Nat.le_of_ble_eq_true rfl) d_Operations_answer_198 ⟨Nat.le_of_ble_eq_true rfl, Nat.le_of_ble_eq_true rfl⟩ ?_
                exact rt_l hx hb hr hk (by rw [q_Operations_answer, if_neg c_1, if_pos c_2, if_pos c_3, if_neg c_4, if_pos c_14, if_pos c_15, if_pos c_16]) d_Operations_answer_201 ⟨by decide, by decide⟩
              · refine lv_iload hx hb d_Operations_answer_154 (lv_at hl 2 rfl) ?_
                refine lv_aload hx hb d_Operations_answer_156 (lv_at hl 0 rfl) ?_
                refine lv_iload hx hb d_Operations_answer_158 (lv_at hl 1 rfl) ?_
                refine lv_lload_n hx hb d_Operations_answer_160 rfl (lv_at hl 4 rfl) ?_
                refine sl_ (As := [.int (64 : Int32), .long a1]) (rest := [.ref (ad 1), .int (q_Operations_of32 a0)]) hq (c_Bits_lowest l A ad (64 : Int32) a1) kB_Bits_lowest wt_385 ⟨rfl, rfl, Nat.le_of_ble_eq_true rfl, Nat.le_of_ble_eq_true rfl⟩ rfl hl.1 rfl (Nat.le_of_ble_eq_true rfl) d_Operations_answer_161 ⟨Nat.le_of_ble_eq_true rfl, Nat.le_of_ble_eq_true rfl⟩ ?_
                refine lv_iload hx hb d_Operations_answer_164 (lv_at hl 1 rfl) ?_
                refine lv_lload_n hx hb d_Operations_answer_166 rfl (lv_at hl 5 rfl) ?_
                refine sl_ (As := [.int (64 : Int32), .long a2]) (rest := [.long (q_Bits_lowest (64 : Int32) a1), .ref (ad 1), .int (q_Operations_of32 a0)]) hq (c_Bits_lowest l A ad (64 : Int32) a2) kB_Bits_lowest wt_385 ⟨rfl, rfl, Nat.le_of_ble_eq_true rfl, Nat.le_of_ble_eq_true rfl⟩ rfl hl.1 rfl (Nat.le_of_ble_eq_true rfl) d_Operations_answer_167 ⟨Nat.le_of_ble_eq_true rfl, Nat.le_of_ble_eq_true rfl⟩ ?_
                refine si_ (As := [.int (q_Operations_of32 a0), .ref (ad 1), .long (q_Bits_lowest (64 : Int32) a1), .long (q_Bits_lowest (64 : Int32) a2)]) (rest := []) hq (c_Floats_test l A ad (q_Operations_of32 a0) 1 (by decide) (q_Bits_lowest (64 : Int32) a1) (q_Bits_lowest (64 : Int32) a2)) kB_Floats_test wt_386 ⟨rfl, rfl, Nat.le_of_ble_eq_true rfl, Nat.le_of_ble_eq_true rfl⟩ rfl hl.1 rfl (Nat.le_of_ble_eq_true rfl) d_Operations_answer_170 ⟨Nat.le_of_ble_eq_true rfl, Nat.le_of_ble_eq_true rfl⟩ ?_
                refine lv_if_eq (tgt := 180) hx hb d_Operations_answer_173 (by decide) (fun c_17 => ?_) (fun c_17 => ?_)
                · refine lv_lconst (v := (0 : Int64)) hx hb d_Operations_answer_180 (by decide) ?_
                  exact rt_l hx hb hr hk (by rw [q_Operations_answer, if_neg c_1, if_pos c_2, if_pos c_3, if_neg c_4, if_pos c_14, if_pos c_15, if_neg c_16, if_pos c_17]) d_Operations_answer_181 ⟨by decide, by decide⟩
                · refine lv_lconst (v := (1 : Int64)) hx hb d_Operations_answer_176 (by decide) ?_
                  refine lv_goto (tgt := 181) hx hb d_Operations_answer_177 (by decide) ?_
                  exact rt_l hx hb hr hk (by rw [q_Operations_answer, if_neg c_1, if_pos c_2, if_pos c_3, if_neg c_4, if_pos c_14, if_pos c_15, if_neg c_16, if_neg c_17]) d_Operations_answer_181 ⟨by decide, by decide⟩
            · refine lv_iload hx hb d_Operations_answer_112 (lv_at hl 1 rfl) ?_
              refine lv_bipush (v := (120 : Int32)) hx hb d_Operations_answer_114 (by decide) ?_
              refine lv_icmp_gt (tgt := 129) hx hb d_Operations_answer_116 (by decide) (fun c_18 => ?_) (fun c_18 => ?_)
              · refine lv_iload hx hb d_Operations_answer_129 (lv_at hl 0 rfl) ?_
                refine lv_bipush (v := (32 : Int32)) hx hb d_Operations_answer_131 (by decide) ?_
                refine lv_icmp_ne (tgt := 142) hx hb d_Operations_answer_133 (by decide) (fun _ => ?_) (fun c => absurd c (by decide))
                refine gs_1 hq wt_384 d_Operations_answer_142 ?_
                refine lv_astore (lv' := [(7, .ref (ad 1)), (6, .int (64 : Int32)), (5, .int (q_Operations_of32 a0)), (0, .int a0), (1, .long a1), (3, .long a2)]) hx hb d_Operations_answer_145 hl (by decide) rfl (fun ls hl => ?_)
                refine lv_iload hx hb d_Operations_answer_147 (lv_at hl 2 rfl) ?_
                refine lv_bipush (v := (96 : Int32)) hx hb d_Operations_answer_149 (by decide) ?_
                refine lv_icmp_gt (tgt := 182) hx hb d_Operations_answer_151 (by decide) (fun c_19 => ?_) (fun c_19 => ?_)
                · refine lv_iload hx hb d_Operations_answer_182 (lv_at hl 2 rfl) ?_
                  refine lv_aload hx hb d_Operations_answer_184 (lv_at hl 0 rfl) ?_
                  refine lv_iload hx hb d_Operations_answer_186 (lv_at hl 1 rfl) ?_
                  refine lv_lload_n hx hb d_Operations_answer_188 rfl (lv_at hl 4 rfl) ?_
                  refine sl_ (As := [.int (64 : Int32), .long a1]) (rest := [.ref (ad 1), .int (q_Operations_of32 a0)]) hq (c_Bits_lowest l A ad (64 : Int32) a1) kB_Bits_lowest wt_385 ⟨rfl, rfl, Nat.le_of_ble_eq_true rfl, Nat.le_of_ble_eq_true rfl⟩ rfl hl.1 rfl (Nat.le_of_ble_eq_true rfl) d_Operations_answer_189 ⟨Nat.le_of_ble_eq_true rfl, Nat.le_of_ble_eq_true rfl⟩ ?_
                  refine lv_iload hx hb d_Operations_answer_192 (lv_at hl 1 rfl) ?_
                  refine lv_lload_n hx hb d_Operations_answer_194 rfl (lv_at hl 5 rfl) ?_
                  refine sl_ (As := [.int (64 : Int32), .long a2]) (rest := [.long (q_Bits_lowest (64 : Int32) a1), .ref (ad 1), .int (q_Operations_of32 a0)]) hq (c_Bits_lowest l A ad (64 : Int32) a2) kB_Bits_lowest wt_385 ⟨rfl, rfl, Nat.le_of_ble_eq_true rfl, Nat.le_of_ble_eq_true rfl⟩ rfl hl.1 rfl (Nat.le_of_ble_eq_true rfl) d_Operations_answer_195 ⟨Nat.le_of_ble_eq_true rfl, Nat.le_of_ble_eq_true rfl⟩ ?_
                  refine sl_ (As := [.int (q_Operations_of32 a0), .ref (ad 1), .long (q_Bits_lowest (64 : Int32) a1), .long (q_Bits_lowest (64 : Int32) a2)]) (rest := []) hq (c_Floats_calculate l A ad (q_Operations_of32 a0) 1 (by decide) (q_Bits_lowest (64 : Int32) a1) (q_Bits_lowest (64 : Int32) a2)) kB_Floats_calculate wt_395 ⟨rfl, rfl, Nat.le_of_ble_eq_true rfl, Nat.le_of_ble_eq_true rfl⟩ rfl hl.1 rfl (Nat.le_of_ble_eq_true rfl) d_Operations_answer_198 ⟨Nat.le_of_ble_eq_true rfl, Nat.le_of_ble_eq_true rfl⟩ ?_
                  exact rt_l hx hb hr hk (by rw [q_Operations_answer, if_neg c_1, if_pos c_2, if_pos c_3, if_neg c_4, if_pos c_14, if_neg c_15, if_pos c_18, if_pos c_19]) d_Operations_answer_201 ⟨by decide, by decide⟩
                · refine lv_iload hx hb d_Operations_answer_154 (lv_at hl 2 rfl) ?_
                  refine lv_aload hx hb d_Operations_answer_156 (lv_at hl 0 rfl) ?_
                  refine lv_iload hx hb d_Operations_answer_158 (lv_at hl 1 rfl) ?_
                  refine lv_lload_n hx hb d_Operations_answer_160 rfl (lv_at hl 4 rfl) ?_
                  refine sl_ (As := [.int (64 : Int32), .long a1]) (rest := [.ref (ad 1), .int (q_Operations_of32 a0)]) hq (c_Bits_lowest l A ad (64 : Int32) a1) kB_Bits_lowest wt_385 ⟨rfl, rfl, Nat.le_of_ble_eq_true rfl, Nat.le_of_ble_eq_true rfl⟩ rfl hl.1 rfl (Nat.le_of_ble_eq_true rfl) d_Operations_answer_161 ⟨Nat.le_of_ble_eq_true rfl, Nat.le_of_ble_eq_true rfl⟩ ?_
                  refine lv_iload hx hb d_Operations_answer_164 (lv_at hl 1 rfl) ?_
                  refine lv_lload_n hx hb d_Operations_answer_166 rfl (lv_at hl 5 rfl) ?_
                  refine sl_ (As := [.int (64 : Int32), .long a2]) (rest := [.long (q_Bits_lowest (64 : Int32) a1), .ref (ad 1), .int (q_Operations_of32 a0)]) hq (c_Bits_lowest l A ad (64 : Int32) a2) kB_Bits_lowest wt_385 ⟨rfl, rfl, Nat.le_of_ble_eq_true rfl, Nat.le_of_ble_eq_true rfl⟩ rfl hl.1 rfl (Nat.le_of_ble_eq_true rfl) d_Operations_answer_167 ⟨Nat.le_of_ble_eq_true rfl, Nat.le_of_ble_eq_true rfl⟩ ?_
                  refine si_ (As := [.int (q_Operations_of32 a0), .ref (ad 1), .long (q_Bits_lowest (64 : Int32) a1), .long (q_Bits_lowest (64 : Int32) a2)]) (rest := []) hq (c_Floats_test l A ad (q_Operations_of32 a0) 1 (by decide) (q_Bits_lowest (64 : Int32) a1) (q_Bits_lowest (64 : Int32) a2)) kB_Floats_test wt_386 ⟨rfl, rfl, Nat.le_of_ble_eq_true rfl, Nat.le_of_ble_eq_true rfl⟩ rfl hl.1 rfl (Nat.le_of_ble_eq_true rfl) d_Operations_answer_170 ⟨Nat.le_of_ble_eq_true rfl, Nat.le_of_ble_eq_true rfl⟩ ?_
                  refine lv_if_eq (tgt := 180) hx hb d_Operations_answer_173 (by decide) (fun c_20 => ?_) (fun c_20 => ?_)
                  · refine lv_lconst (v := (0 : Int64)) hx hb d_Operations_answer_180 (by decide) ?_
                    exact rt_l hx hb hr hk (by rw [q_Operations_answer, if_neg c_1, if_pos c_2, if_pos c_3, if_neg c_4, if_pos c_14, if_neg c_15, if_pos c_18, if_neg c_19, if_pos c_20]) d_Operations_answer_181 ⟨by decide, by decide⟩
                  · refine lv_lconst (v := (1 : Int64)) hx hb d_Operations_answer_176 (by decide) ?_
                    refine lv_goto (tgt := 181) hx hb d_Operations_answer_177 (by decide) ?_
                    exact rt_l hx hb hr hk (by rw [q_Operations_answer, if_neg c_1, if_pos c_2, if_pos c_3, if_neg c_4, if_pos c_14, if_neg c_15, if_pos c_18, if_neg c_19, if_neg c_20]) d_Operations_answer_181 ⟨by decide, by decide⟩
              · refine lv_iload hx hb d_Operations_answer_119 (lv_at hl 1 rfl) ?_
                refine lv_iload hx hb d_Operations_answer_121 (lv_at hl 0 rfl) ?_
                refine lv_lload_n hx hb d_Operations_answer_123 rfl (lv_at hl 3 rfl) ?_
                refine lv_lload_n hx hb d_Operations_answer_124 rfl (lv_at hl 4 rfl) ?_
                refine tl_ (As := [.int (q_Operations_of32 a0), .int (64 : Int32), .long a1, .long a2]) (rest := []) hq hN ht hk (c_Wholes_calculate l hlt A ad (q_Operations_of32 a0) (64 : Int32) a1 a2) kB_Wholes_calculate wt_321 ⟨rfl, rfl, Nat.le_of_ble_eq_true rfl, Nat.le_of_ble_eq_true rfl⟩ rfl hl.1 rfl (Nat.le_of_ble_eq_true rfl) d_Operations_answer_125 ⟨Nat.le_of_ble_eq_true rfl, Nat.le_of_ble_eq_true rfl⟩ (fun hz => by rw [q_Operations_answer, if_neg c_1, if_pos c_2, if_pos c_3, if_neg c_4, if_pos c_14, if_neg c_15, if_neg c_18, if_neg hz]) (fun c_21 => ?_)
                exact rt_l hx hb hr hk (by rw [q_Operations_answer, if_neg c_1, if_pos c_2, if_pos c_3, if_neg c_4, if_pos c_14, if_neg c_15, if_neg c_18, if_pos c_21]) d_Operations_answer_128 ⟨by decide, by decide⟩
          · refine lv_iload hx hb d_Operations_answer_79 (lv_at hl 1 rfl) ?_
            refine lv_iload hx hb d_Operations_answer_81 (lv_at hl 0 rfl) ?_
            refine lv_lload_n hx hb d_Operations_answer_83 rfl (lv_at hl 3 rfl) ?_
            refine sl_ (As := [.int (64 : Int32), .long a1]) (rest := [.int (q_Operations_of32 a0)]) hq (c_Bits_signed l A ad (64 : Int32) a1) kB_Bits_signed wt_316 ⟨rfl, rfl, Nat.le_of_ble_eq_true rfl, Nat.le_of_ble_eq_true rfl⟩ rfl hl.1 rfl (Nat.le_of_ble_eq_true rfl) d_Operations_answer_84 ⟨Nat.le_of_ble_eq_true rfl, Nat.le_of_ble_eq_true rfl⟩ ?_
            refine lv_iload hx hb d_Operations_answer_87 (lv_at hl 0 rfl) ?_
            refine lv_lload_n hx hb d_Operations_answer_89 rfl (lv_at hl 4 rfl) ?_
            refine sl_ (As := [.int (64 : Int32), .long a2]) (rest := [.long (q_Bits_signed (64 : Int32) a1), .int (q_Operations_of32 a0)]) hq (c_Bits_signed l A ad (64 : Int32) a2) kB_Bits_signed wt_316 ⟨rfl, rfl, Nat.le_of_ble_eq_true rfl, Nat.le_of_ble_eq_true rfl⟩ rfl hl.1 rfl (Nat.le_of_ble_eq_true rfl) d_Operations_answer_90 ⟨Nat.le_of_ble_eq_true rfl, Nat.le_of_ble_eq_true rfl⟩ ?_
            refine si_ (As := [.int (q_Operations_of32 a0), .long (q_Bits_signed (64 : Int32) a1), .long (q_Bits_signed (64 : Int32) a2)]) (rest := []) hq (c_Wholes_test l A ad (q_Operations_of32 a0) (q_Bits_signed (64 : Int32) a1) (q_Bits_signed (64 : Int32) a2)) kB_Wholes_test wt_317 ⟨rfl, rfl, Nat.le_of_ble_eq_true rfl, Nat.le_of_ble_eq_true rfl⟩ rfl hl.1 rfl (Nat.le_of_ble_eq_true rfl) d_Operations_answer_93 ⟨Nat.le_of_ble_eq_true rfl, Nat.le_of_ble_eq_true rfl⟩ ?_
            refine lv_if_eq (tgt := 103) hx hb d_Operations_answer_96 (by decide) (fun c_22 => ?_) (fun c_22 => ?_)
            · refine lv_lconst (v := (0 : Int64)) hx hb d_Operations_answer_103 (by decide) ?_
              exact rt_l hx hb hr hk (by rw [q_Operations_answer, if_neg c_1, if_pos c_2, if_pos c_3, if_neg c_4, if_neg c_14, if_pos c_22]) d_Operations_answer_104 ⟨by decide, by decide⟩
            · refine lv_lconst (v := (1 : Int64)) hx hb d_Operations_answer_99 (by decide) ?_
              refine lv_goto (tgt := 104) hx hb d_Operations_answer_100 (by decide) ?_
              exact rt_l hx hb hr hk (by rw [q_Operations_answer, if_neg c_1, if_pos c_2, if_pos c_3, if_neg c_4, if_neg c_14, if_neg c_22]) d_Operations_answer_104 ⟨by decide, by decide⟩
      · refine lv_iload_n hx hb d_Operations_answer_44 rfl (lv_at hl 0 rfl) ?_
        refine lv_lload_n hx hb d_Operations_answer_45 rfl (lv_at hl 1 rfl) ?_
        refine tl_ (As := [.int a0, .long a1]) (rest := []) hq hN ht hk (c_Conversions_toWholeOrBits l hlt A ad a0 a1) kB_Conversions_toWholeOrBits wt_262 ⟨rfl, rfl, Nat.le_of_ble_eq_true rfl, Nat.le_of_ble_eq_true rfl⟩ rfl hl.1 rfl (Nat.le_of_ble_eq_true rfl) d_Operations_answer_46 ⟨Nat.le_of_ble_eq_true rfl, Nat.le_of_ble_eq_true rfl⟩ (fun hz => by rw [q_Operations_answer, if_neg c_1, if_pos c_2, if_neg c_3, if_neg hz]) (fun c_23 => ?_)
        exact rt_l hx hb hr hk (by rw [q_Operations_answer, if_neg c_1, if_pos c_2, if_neg c_3, if_pos c_23]) d_Operations_answer_49 ⟨by decide, by decide⟩
    · refine lv_iload_n hx hb d_Operations_answer_24 rfl (lv_at hl 0 rfl) ?_
      refine lv_sipush (v := (187 : Int32)) hx hb d_Operations_answer_25 (by decide) ?_
      refine lv_icmp_gt (tgt := 37) hx hb d_Operations_answer_28 (by decide) (fun c_24 => ?_) (fun c_24 => ?_)
      · refine lv_iload_n hx hb d_Operations_answer_37 rfl (lv_at hl 0 rfl) ?_
        refine lv_sipush (v := (167 : Int32)) hx hb d_Operations_answer_38 (by decide) ?_
        refine lv_icmp_lt (tgt := 50) hx hb d_Operations_answer_41 (by decide) (fun c_25 => ?_) (fun c_25 => ?_)
        · refine lv_iload_n hx hb d_Operations_answer_50 rfl (lv_at hl 0 rfl) ?_
          refine si_ (As := [.int a0]) (rest := []) hq (c_Operations_of32 l A ad a0) kB_Operations_of32 wt_315 ⟨rfl, rfl, Nat.le_of_ble_eq_true rfl, Nat.le_of_ble_eq_true rfl⟩ rfl hl.1 rfl (Nat.le_of_ble_eq_true rfl) d_Operations_answer_51 ⟨Nat.le_of_ble_eq_true rfl, Nat.le_of_ble_eq_true rfl⟩ ?_
          refine lv_istore (lv' := [(5, .int (q_Operations_of32 a0)), (0, .int a0), (1, .long a1), (3, .long a2)]) hx hb d_Operations_answer_54 hl (by decide) rfl (fun ls hl => ?_)
          refine lv_iload_n hx hb d_Operations_answer_56 rfl (lv_at hl 1 rfl) ?_
          refine si_ (As := [.int a0]) (rest := []) hq (c_Operations_isTwin l A ad a0) kB_Operations_isTwin wt_95 ⟨rfl, rfl, Nat.le_of_ble_eq_true rfl, Nat.le_of_ble_eq_true rfl⟩ rfl hl.1 rfl (Nat.le_of_ble_eq_true rfl) d_Operations_answer_57 ⟨Nat.le_of_ble_eq_true rfl, Nat.le_of_ble_eq_true rfl⟩ ?_
          refine lv_if_eq (tgt := 68) hx hb d_Operations_answer_60 (by decide) (fun c_26 => ?_) (fun c_26 => ?_)
          · refine lv_bipush (v := (32 : Int32)) hx hb d_Operations_answer_68 (by decide) ?_
            refine lv_istore (lv' := [(6, .int (32 : Int32)), (5, .int (q_Operations_of32 a0)), (0, .int a0), (1, .long a1), (3, .long a2)]) hx hb d_Operations_answer_70 hl (by decide) rfl (fun ls hl => ?_)
            refine lv_iload hx hb d_Operations_answer_72 (lv_at hl 1 rfl) ?_
            refine lv_bipush (v := (79 : Int32)) hx hb d_Operations_answer_74 (by decide) ?_
            refine lv_icmp_gt (tgt := 105) hx hb d_Operations_answer_76 (by decide) (fun c_27 => ?_) (fun c_27 => ?_)
            · refine lv_iload hx hb d_Operations_answer_105 (lv_at hl 1 rfl) ?_
              refine lv_bipush (v := (103 : Int32)) hx hb d_Operations_answer_107 (by decide) ?_
              refine lv_icmp_lt (tgt := 129) hx hb d_Operations_answer_109 (by decide) (fun c_28 => ?_) (fun c_28 => ?_)
              · refine lv_iload hx hb d_Operations_answer_129 (lv_at hl 0 rfl) ?_
                refine lv_bipush (v := (32 : Int32)) hx hb d_Operations_answer_131 (by decide) ?_
                refine lv_icmp_ne (tgt := 142) hx hb d_Operations_answer_133 (by decide) (fun c => absurd (by decide) c) (fun _ => ?_)
                refine gs_0 hq wt_383 d_Operations_answer_136 ?_
                refine lv_goto (tgt := 145) hx hb d_Operations_answer_139 (by decide) ?_
                refine lv_astore (lv' := [(7, .ref (ad 0)), (6, .int (32 : Int32)), (5, .int (q_Operations_of32 a0)), (0, .int a0), (1, .long a1), (3, .long a2)]) hx hb d_Operations_answer_145 hl (by decide) rfl (fun ls hl => ?_)
                refine lv_iload hx hb d_Operations_answer_147 (lv_at hl 2 rfl) ?_
                refine lv_bipush (v := (96 : Int32)) hx hb d_Operations_answer_149 (by decide) ?_
                refine lv_icmp_gt (tgt := 182) hx hb d_Operations_answer_151 (by decide) (fun c_29 => ?_) (fun c_29 => ?_)
                · refine lv_iload hx hb d_Operations_answer_182 (lv_at hl 2 rfl) ?_
                  refine lv_aload hx hb d_Operations_answer_184 (lv_at hl 0 rfl) ?_
                  refine lv_iload hx hb d_Operations_answer_186 (lv_at hl 1 rfl) ?_
                  refine lv_lload_n hx hb d_Operations_answer_188 rfl (lv_at hl 4 rfl) ?_
                  refine sl_ (As := [.int (32 : Int32), .long a1]) (rest := [.ref (ad 0), .int (q_Operations_of32 a0)]) hq (c_Bits_lowest l A ad (32 : Int32) a1) kB_Bits_lowest wt_385 ⟨rfl, rfl, Nat.le_of_ble_eq_true rfl, Nat.le_of_ble_eq_true rfl⟩ rfl hl.1 rfl (Nat.le_of_ble_eq_true rfl) d_Operations_answer_189 ⟨Nat.le_of_ble_eq_true rfl, Nat.le_of_ble_eq_true rfl⟩ ?_
                  refine lv_iload hx hb d_Operations_answer_192 (lv_at hl 1 rfl) ?_
                  refine lv_lload_n hx hb d_Operations_answer_194 rfl (lv_at hl 5 rfl) ?_
                  refine sl_ (As := [.int (32 : Int32), .long a2]) (rest := [.long (q_Bits_lowest (32 : Int32) a1), .ref (ad 0), .int (q_Operations_of32 a0)]) hq (c_Bits_lowest l A ad (32 : Int32) a2) kB_Bits_lowest wt_385 ⟨rfl, rfl, Nat.le_of_ble_eq_true rfl, Nat.le_of_ble_eq_true rfl⟩ rfl hl.1 rfl (Nat.le_of_ble_eq_true rfl) d_Operations_answer_195 ⟨Nat.le_of_ble_eq_true rfl, Nat.le_of_ble_eq_true rfl⟩ ?_
                  refine sl_ (As := [.int (q_Operations_of32 a0), .ref (ad 0), .long (q_Bits_lowest (32 : Int32) a1), .long (q_Bits_lowest (32 : Int32) a2)]) (rest := []) hq (c_Floats_calculate l A ad (q_Operations_of32 a0) 0 (by decide) (q_Bits_lowest (32 : Int32) a1) (q_Bits_lowest (32 : Int32) a2)) kB_Floats_calculate wt_395 ⟨rfl, rfl, Nat.le_of_ble_eq_true rfl, Nat.le_of_ble_eq_true rfl⟩ rfl hl.1 rfl (Nat.le_of_ble_eq_true rfl) d_Operations_answer_198 ⟨Nat.le_of_ble_eq_true rfl, Nat.le_of_ble_eq_true rfl⟩ ?_
                  exact rt_l hx hb hr hk (by rw [q_Operations_answer, if_neg c_1, if_neg c_2, if_pos c_24, if_pos c_25, if_pos c_26, if_pos c_27, if_pos c_28, if_pos c_29]) d_Operations_answer_201 ⟨by decide, by decide⟩
                · refine lv_iload hx hb d_Operations_answer_154 (lv_at hl 2 rfl) ?_
                  refine lv_aload hx hb d_Operations_answer_156 (lv_at hl 0 rfl) ?_
                  refine lv_iload hx hb d_Operations_answer_158 (lv_at hl 1 rfl) ?_
                  refine lv_lload_n hx hb d_Operations_answer_160 rfl (lv_at hl 4 rfl) ?_
                  refine sl_ (As := [.int (32 : Int32), .long a1]) (rest := [.ref (ad 0), .int (q_Operations_of32 a0)]) hq (c_Bits_lowest l A ad (32 : Int32) a1) kB_Bits_lowest wt_385 ⟨rfl, rfl, Nat.le_of_ble_eq_true rfl, Nat.le_of_ble_eq_true rfl⟩ rfl hl.1 rfl (Nat.le_of_ble_eq_true rfl) d_Operations_answer_161 ⟨Nat.le_of_ble_eq_true rfl, Nat.le_of_ble_eq_true rfl⟩ ?_
                  refine lv_iload hx hb d_Operations_answer_164 (lv_at hl 1 rfl) ?_
                  refine lv_lload_n hx hb d_Operations_answer_166 rfl (lv_at hl 5 rfl) ?_
                  refine sl_ (As := [.int (32 : Int32), .long a2]) (rest := [.long (q_Bits_lowest (32 : Int32) a1), .ref (ad 0), .int (q_Operations_of32 a0)]) hq (c_Bits_lowest l A ad (32 : Int32) a2) kB_Bits_lowest wt_385 ⟨rfl, rfl, Nat.le_of_ble_eq_true rfl, Nat.le_of_ble_eq_true rfl⟩ rfl hl.1 rfl (Nat.le_of_ble_eq_true rfl) d_Operations_answer_167 ⟨Nat.le_of_ble_eq_true rfl, Nat.le_of_ble_eq_true rfl⟩ ?_
                  refine si_ (As := [.int (q_Operations_of32 a0), .ref (ad 0), .long (q_Bits_lowest (32 : Int32) a1), .long (q_Bits_lowest (32 : Int32) a2)]) (rest := []) hq (c_Floats_test l A ad (q_Operations_of32 a0) 0 (by decide) (q_Bits_lowest (32 : Int32) a1) (q_Bits_lowest (32 : Int32) a2)) kB_Floats_test wt_386 ⟨rfl, rfl, Nat.le_of_ble_eq_true rfl, Nat.le_of_ble_eq_true rfl⟩ rfl hl.1 rfl (Nat.le_of_ble_eq_true rfl) d_Operations_answer_170 ⟨Nat.le_of_ble_eq_true rfl, Nat.le_of_ble_eq_true rfl⟩ ?_
                  refine lv_if_eq (tgt := 180) hx hb d_Operations_answer_173 (by decide) (fun c_30 => ?_) (fun c_30 => ?_)
                  · refine lv_lconst (v := (0 : Int64)) hx hb d_Operations_answer_180 (by decide) ?_
                    exact rt_l hx hb hr hk (by rw [q_Operations_answer, if_neg c_1, if_neg c_2, if_pos c_24, if_pos c_25, if_pos c_26, if_pos c_27, if_pos c_28, if_neg c_29, if_pos c_30]) d_Operations_answer_181 ⟨by decide, by decide⟩
                  · refine lv_lconst (v := (1 : Int64)) hx hb d_Operations_answer_176 (by decide) ?_
                    refine lv_goto (tgt := 181) hx hb d_Operations_answer_177 (by decide) ?_
                    exact rt_l hx hb hr hk (by rw [q_Operations_answer, if_neg c_1, if_neg c_2, if_pos c_24, if_pos c_25, if_pos c_26, if_pos c_27, if_pos c_28, if_neg c_29, if_neg c_30]) d_Operations_answer_181 ⟨by decide, by decide⟩
              · refine lv_iload hx hb d_Operations_answer_112 (lv_at hl 1 rfl) ?_
                refine lv_bipush (v := (120 : Int32)) hx hb d_Operations_answer_114 (by decide) ?_
                refine lv_icmp_gt (tgt := 129) hx hb d_Operations_answer_116 (by decide) (fun c_31 => ?_) (fun c_31 => ?_)
                · refine lv_iload hx hb d_Operations_answer_129 (lv_at hl 0 rfl) ?_
                  refine lv_bipush (v := (32 : Int32)) hx hb d_Operations_answer_131 (by decide) ?_
                  refine lv_icmp_ne (tgt := 142) hx hb d_Operations_answer_133 (by decide) (fun c => absurd (by decide) c) (fun _ => ?_)
                  refine gs_0 hq wt_383 d_Operations_answer_136 ?_
                  refine lv_goto (tgt := 145) hx hb d_Operations_answer_139 (by decide) ?_
                  refine lv_astore (lv' := [(7, .ref (ad 0)), (6, .int (32 : Int32)), (5, .int (q_Operations_of32 a0)), (0, .int a0), (1, .long a1), (3, .long a2)]) hx hb d_Operations_answer_145 hl (by decide) rfl (fun ls hl => ?_)
                  refine lv_iload hx hb d_Operations_answer_147 (lv_at hl 2 rfl) ?_
                  refine lv_bipush (v := (96 : Int32)) hx hb d_Operations_answer_149 (by decide) ?_
                  refine lv_icmp_gt (tgt := 182) hx hb d_Operations_answer_151 (by decide) (fun c_32 => ?_) (fun c_32 => ?_)
                  · refine lv_iload hx hb d_Operations_answer_182 (lv_at hl 2 rfl) ?_
                    refine lv_aload hx hb d_Operations_answer_184 (lv_at hl 0 rfl) ?_
                    refine lv_iload hx hb d_Operations_answer_186 (lv_at hl 1 rfl) ?_
                    refine lv_lload_n hx hb d_Operations_answer_188 rfl (lv_at hl 4 rfl) ?_
                    refine sl_ (As := [.int (32 : Int32), .long a1]) (rest := [.ref (ad 0), .int (q_Operations_of32 a0)]) hq (c_Bits_lowest l A ad (32 : Int32) a1) kB_Bits_lowest wt_385 ⟨rfl, rfl, Nat.le_of_ble_eq_true rfl, Nat.le_of_ble_eq_true rfl⟩ rfl hl.1 rfl (Nat.le_of_ble_eq_true rfl) d_Operations_answer_189 ⟨Nat.le_of_ble_eq_true rfl, Nat.le_of_ble_eq_true rfl⟩ ?_
                    refine lv_iload hx hb d_Operations_answer_192 (lv_at hl 1 rfl) ?_
                    refine lv_lload_n hx hb d_Operations_answer_194 rfl (lv_at hl 5 rfl) ?_
                    refine sl_ (As := [.int (32 : Int32), .long a2]) (rest := [.long (q_Bits_lowest (32 : Int32) a1), .ref (ad 0), .int (q_Operations_of32 a0)]) hq (c_Bits_lowest l A ad (32 : Int32) a2) kB_Bits_lowest wt_385 ⟨rfl, rfl, Nat.le_of_ble_eq_true rfl, Nat.le_of_ble_eq_true rfl⟩ rfl hl.1 rfl (Nat.le_of_ble_eq_true rfl) d_Operations_answer_195 ⟨Nat.le_of_ble_eq_true rfl, Nat.le_of_ble_eq_true rfl⟩ ?_
                    refine sl_ (As := [.int (q_Operations_of32 a0), .ref (ad 0), .long (q_Bits_lowest (32 : Int32) a1), .long (q_Bits_lowest (32 : Int32) a2)]) (rest := []) hq (c_Floats_calculate l A ad (q_Operations_of32 a0) 0 (by decide) (q_Bits_lowest (32 : Int32) a1) (q_Bits_lowest (32 : Int32) a2)) kB_Floats_calculate wt_395 ⟨rfl, rfl, Nat.le_of_ble_eq_true rfl, Nat.le_of_ble_eq_true rfl⟩ rfl hl.1 rfl (Nat.le_of_ble_eq_true rfl) d_Operations_answer_198 ⟨Nat.le_of_ble_eq_true rfl, Nat.le_of_ble_eq_true rfl⟩ ?_
                    exact rt_l hx hb hr hk (by rw [q_Operations_answer, if_neg c_1, if_neg c_2, if_pos c_24, if_pos c_25, if_pos c_26, if_pos c_27, if_neg c_28, if_pos c_31, if_pos c_32]) d_Operations_answer_201 ⟨by decide, by decide⟩
                  · refine lv_iload hx hb d_Operations_answer_154 (lv_at hl 2 rfl) ?_
                    refine lv_aload hx hb d_Operations_answer_156 (lv_at hl 0 rfl) ?_
                    refine lv_iload hx hb d_Operations_answer_158 (lv_at hl 1 rfl) ?_
                    refine lv_lload_n hx hb d_Operations_answer_160 rfl (lv_at hl 4 rfl) ?_
                    refine sl_ (As := [.int (32 : Int32), .long a1]) (rest := [.ref (ad 0), .int (q_Operations_of32 a0)]) hq (c_Bits_lowest l A ad (32 : Int32) a1) kB_Bits_lowest wt_385 ⟨rfl, rfl, Nat.le_of_ble_eq_true rfl, Nat.le_of_ble_eq_true rfl⟩ rfl hl.1 rfl (Nat.le_of_ble_eq_true rfl) d_Operations_answer_161 ⟨Nat.le_of_ble_eq_true rfl, Nat.le_of_ble_eq_true rfl⟩ ?_
                    refine lv_iload hx hb d_Operations_answer_164 (lv_at hl 1 rfl) ?_
                    refine lv_lload_n hx hb d_Operations_answer_166 rfl (lv_at hl 5 rfl) ?_
                    refine sl_ (As := [.int (32 : Int32), .long a2]) (rest := [.long (q_Bits_lowest (32 : Int32) a1), .ref (ad 0), .int (q_Operations_of32 a0)]) hq (c_Bits_lowest l A ad (32 : Int32) a2) kB_Bits_lowest wt_385 ⟨rfl, rfl, Nat.le_of_ble_eq_true rfl, Nat.le_of_ble_eq_true rfl⟩ rfl hl.1 rfl (Nat.le_of_ble_eq_true rfl) d_Operations_answer_167 ⟨Nat.le_of_ble_eq_true rfl, Nat.le_of_ble_eq_true rfl⟩ ?_
                    refine si_ (As := [.int (q_Operations_of32 a0), .ref (ad 0), .long (q_Bits_lowest (32 : Int32) a1), .long (q_Bits_lowest (32 : Int32) a2)]) (rest := []) hq (c_Floats_test l A ad (q_Operations_of32 a0) 0 (by decide) (q_Bits_lowest (32 : Int32) a1) (q_Bits_lowest (32 : Int32) a2)) kB_Floats_test wt_386 ⟨rfl, rfl, Nat.le_of_ble_eq_true rfl, Nat.le_of_ble_eq_true rfl⟩ rfl hl.1 rfl (Nat.le_of_ble_eq_true rfl) d_Operations_answer_170 ⟨Nat.le_of_ble_eq_true rfl, Nat.le_of_ble_eq_true rfl⟩ ?_
                    refine lv_if_eq (tgt := 180) hx hb d_Operations_answer_173 (by decide) (fun c_33 => ?_) (fun c_33 => ?_)
                    · refine lv_lconst (v := (0 : Int64)) hx hb d_Operations_answer_180 (by decide) ?_
                      exact rt_l hx hb hr hk (by rw [q_Operations_answer, if_neg c_1, if_neg c_2, if_pos c_24, if_pos c_25, if_pos c_26, if_pos c_27, if_neg c_28, if_pos c_31, if_neg c_32, if_pos c_33]) d_Operations_answer_181 ⟨by decide, by decide⟩
                    · refine lv_lconst (v := (1 : Int64)) hx hb d_Operations_answer_176 (by decide) ?_
                      refine lv_goto (tgt := 181) hx hb d_Operations_answer_177 (by decide) ?_
                      exact rt_l hx hb hr hk (by rw [q_Operations_answer, if_neg c_1, if_neg c_2, if_pos c_24, if_pos c_25, if_pos c_26, if_pos c_27, if_neg c_28, if_pos c_31, if_neg c_32, if_neg c_33]) d_Operations_answer_181 ⟨by decide, by decide⟩
                · refine lv_iload hx hb d_Operations_answer_119 (lv_at hl 1 rfl) ?_
                  refine lv_iload hx hb d_Operations_answer_121 (lv_at hl 0 rfl) ?_
                  refine lv_lload_n hx hb d_Operations_answer_123 rfl (lv_at hl 3 rfl) ?_
                  refine lv_lload_n hx hb d_Operations_answer_124 rfl (lv_at hl 4 rfl) ?_
                  refine tl_ (As := [.int (q_Operations_of32 a0), .int (32 : Int32), .long a1, .long a2]) (rest := []) hq hN ht hk (c_Wholes_calculate l hlt A ad (q_Operations_of32 a0) (32 : Int32) a1 a2) kB_Wholes_calculate wt_321 ⟨rfl, rfl, Nat.le_of_ble_eq_true rfl, Nat.le_of_ble_eq_true rfl⟩ rfl hl.1 rfl (Nat.le_of_ble_eq_true rfl) d_Operations_answer_125 ⟨Nat.le_of_ble_eq_true rfl, Nat.le_of_ble_eq_true rfl⟩ (fun hz => by rw [q_Operations_answer, if_neg c_1, if_neg c_2, if_pos c_24, if_pos c_25, if_pos c_26, if_pos c_27, if_neg c_28, if_neg c_31, if_neg hz]) (fun c_34 => ?_)
                  exact rt_l hx hb hr hk (by rw [q_Operations_answer, if_neg c_1, if_neg c_2, if_pos c_24, if_pos c_25, if_pos c_26, if_pos c_27, if_neg c_28, if_neg c_31, if_pos c_34]) d_Operations_answer_128 ⟨by decide, by decide⟩
            · refine lv_iload hx hb d_Operations_answer_79 (lv_at hl 1 rfl) ?_
              refine lv_iload hx hb d_Operations_answer_81 (lv_at hl 0 rfl) ?_
              refine lv_lload_n hx hb d_Operations_answer_83 rfl (lv_at hl 3 rfl) ?_
              refine sl_ (As := [.int (32 : Int32), .long a1]) (rest := [.int (q_Operations_of32 a0)]) hq (c_Bits_signed l A ad (32 : Int32) a1) kB_Bits_signed wt_316 ⟨rfl, rfl, Nat.le_of_ble_eq_true rfl, Nat.le_of_ble_eq_true rfl⟩ rfl hl.1 rfl (Nat.le_of_ble_eq_true rfl) d_Operations_answer_84 ⟨Nat.le_of_ble_eq_true rfl, Nat.le_of_ble_eq_true rfl⟩ ?_
              refine lv_iload hx hb d_Operations_answer_87 (lv_at hl 0 rfl) ?_
              refine lv_lload_n hx hb d_Operations_answer_89 rfl (lv_at hl 4 rfl) ?_
              refine sl_ (As := [.int (32 : Int32), .long a2]) (rest := [.long (q_Bits_signed (32 : Int32) a1), .int (q_Operations_of32 a0)]) hq (c_Bits_signed l A ad (32 : Int32) a2) kB_Bits_signed wt_316 ⟨rfl, rfl, Nat.le_of_ble_eq_true rfl, Nat.le_of_ble_eq_true rfl⟩ rfl hl.1 rfl (Nat.le_of_ble_eq_true rfl) d_Operations_answer_90 ⟨Nat.le_of_ble_eq_true rfl, Nat.le_of_ble_eq_true rfl⟩ ?_
              refine si_ (As := [.int (q_Operations_of32 a0), .long (q_Bits_signed (32 : Int32) a1), .long (q_Bits_signed (32 : Int32) a2)]) (rest := []) hq (c_Wholes_test l A ad (q_Operations_of32 a0) (q_Bits_signed (32 : Int32) a1) (q_Bits_signed (32 : Int32) a2)) kB_Wholes_test wt_317 ⟨rfl, rfl, Nat.le_of_ble_eq_true rfl, Nat.le_of_ble_eq_true rfl⟩ rfl hl.1 rfl (Nat.le_of_ble_eq_true rfl) d_Operations_answer_93 ⟨Nat.le_of_ble_eq_true rfl, Nat.le_of_ble_eq_true rfl⟩ ?_
              refine lv_if_eq (tgt := 103) hx hb d_Operations_answer_96 (by decide) (fun c_35 => ?_) (fun c_35 => ?_)
              · refine lv_lconst (v := (0 : Int64)) hx hb d_Operations_answer_103 (by decide) ?_
                exact rt_l hx hb hr hk (by rw [q_Operations_answer, if_neg c_1, if_neg c_2, if_pos c_24, if_pos c_25, if_pos c_26, if_neg c_27, if_pos c_35]) d_Operations_answer_104 ⟨by decide, by decide⟩
              · refine lv_lconst (v := (1 : Int64)) hx hb d_Operations_answer_99 (by decide) ?_
                refine lv_goto (tgt := 104) hx hb d_Operations_answer_100 (by decide) ?_
                exact rt_l hx hb hr hk (by rw [q_Operations_answer, if_neg c_1, if_neg c_2, if_pos c_24, if_pos c_25, if_pos c_26, if_neg c_27, if_neg c_35]) d_Operations_answer_104 ⟨by decide, by decide⟩
          · refine lv_bipush (v := (64 : Int32)) hx hb d_Operations_answer_63 (by decide) ?_
            refine lv_goto (tgt := 70) hx hb d_Operations_answer_65 (by decide) ?_
            refine lv_istore (lv' := [(6, .int (64 : Int32)), (5, .int (q_Operations_of32 a0)), (0, .int a0), (1, .long a1), (3, .long a2)]) hx hb d_Operations_answer_70 hl (by decide) rfl (fun ls hl => ?_)
            refine lv_iload hx hb d_Operations_answer_72 (lv_at hl 1 rfl) ?_
            refine lv_bipush (v := (79 : Int32)) hx hb d_Operations_answer_74 (by decide) ?_
            refine lv_icmp_gt (tgt := 105) hx hb d_Operations_answer_76 (by decide) (fun c_36 => ?_) (fun c_36 => ?_)
            · refine lv_iload hx hb d_Operations_answer_105 (lv_at hl 1 rfl) ?_
              refine lv_bipush (v := (103 : Int32)) hx hb d_Operations_answer_107 (by decide) ?_
              refine lv_icmp_lt (tgt := 129) hx hb d_Operations_answer_109 (by decide) (fun c_37 => ?_) (fun c_37 => ?_)
              · refine lv_iload hx hb d_Operations_answer_129 (lv_at hl 0 rfl) ?_
                refine lv_bipush (v := (32 : Int32)) hx hb d_Operations_answer_131 (by decide) ?_
                refine lv_icmp_ne (tgt := 142) hx hb d_Operations_answer_133 (by decide) (fun _ => ?_) (fun c => absurd c (by decide))
                refine gs_1 hq wt_384 d_Operations_answer_142 ?_
                refine lv_astore (lv' := [(7, .ref (ad 1)), (6, .int (64 : Int32)), (5, .int (q_Operations_of32 a0)), (0, .int a0), (1, .long a1), (3, .long a2)]) hx hb d_Operations_answer_145 hl (by decide) rfl (fun ls hl => ?_)
                refine lv_iload hx hb d_Operations_answer_147 (lv_at hl 2 rfl) ?_
                refine lv_bipush (v := (96 : Int32)) hx hb d_Operations_answer_149 (by decide) ?_
                refine lv_icmp_gt (tgt := 182) hx hb d_Operations_answer_151 (by decide) (fun c_38 => ?_) (fun c_38 => ?_)
                · refine lv_iload hx hb d_Operations_answer_182 (lv_at hl 2 rfl) ?_
                  refine lv_aload hx hb d_Operations_answer_184 (lv_at hl 0 rfl) ?_
                  refine lv_iload hx hb d_Operations_answer_186 (lv_at hl 1 rfl) ?_
                  refine lv_lload_n hx hb d_Operations_answer_188 rfl (lv_at hl 4 rfl) ?_
                  refine sl_ (As := [.int (64 : Int32), .long a1]) (rest := [.ref (ad 1), .int (q_Operations_of32 a0)]) hq (c_Bits_lowest l A ad (64 : Int32) a1) kB_Bits_lowest wt_385 ⟨rfl, rfl, Nat.le_of_ble_eq_true rfl, Nat.le_of_ble_eq_true rfl⟩ rfl hl.1 rfl (Nat.le_of_ble_eq_true rfl) d_Operations_answer_189 ⟨Nat.le_of_ble_eq_true rfl, Nat.le_of_ble_eq_true rfl⟩ ?_
                  refine lv_iload hx hb d_Operations_answer_192 (lv_at hl 1 rfl) ?_
                  refine lv_lload_n hx hb d_Operations_answer_194 rfl (lv_at hl 5 rfl) ?_
                  refine sl_ (As := [.int (64 : Int32), .long a2]) (rest := [.long (q_Bits_lowest (64 : Int32) a1), .ref (ad 1), .int (q_Operations_of32 a0)]) hq (c_Bits_lowest l A ad (64 : Int32) a2) kB_Bits_lowest wt_385 ⟨rfl, rfl, Nat.le_of_ble_eq_true rfl, Nat.le_of_ble_eq_true rfl⟩ rfl hl.1 rfl (Nat.le_of_ble_eq_true rfl) d_Operations_answer_195 ⟨Nat.le_of_ble_eq_true rfl, Nat.le_of_ble_eq_true rfl⟩ ?_
                  refine sl_ (As := [.int (q_Operations_of32 a0), .ref (ad 1), .long (q_Bits_lowest (64 : Int32) a1), .long (q_Bits_lowest (64 : Int32) a2)]) (rest := []) hq (c_Floats_calculate l A ad (q_Operations_of32 a0) 1 (by decide) (q_Bits_lowest (64 : Int32) a1) (q_Bits_lowest (64 : Int32) a2)) kB_Floats_calculate wt_395 ⟨rfl, rfl, Nat.le_of_ble_eq_true rfl, Nat.le_of_ble_eq_true rfl⟩ rfl hl.1 rfl (Nat.le_of_ble_eq_true rfl) d_Operations_answer_198 ⟨Nat.le_of_ble_eq_true rfl, Nat.le_of_ble_eq_true rfl⟩ ?_
                  exact rt_l hx hb hr hk (by rw [q_Operations_answer, if_neg c_1, if_neg c_2, if_pos c_24, if_pos c_25, if_neg c_26, if_pos c_36, if_pos c_37, if_pos c_38]) d_Operations_answer_201 ⟨by decide, by decide⟩
                · refine lv_iload hx hb d_Operations_answer_154 (lv_at hl 2 rfl) ?_
                  refine lv_aload hx hb d_Operations_answer_156 (lv_at hl 0 rfl) ?_
                  refine lv_iload hx hb d_Operations_answer_158 (lv_at hl 1 rfl) ?_
                  refine lv_lload_n hx hb d_Operations_answer_160 rfl (lv_at hl 4 rfl) ?_
                  refine sl_ (As := [.int (64 : Int32), .long a1]) (rest := [.ref (ad 1), .int (q_Operations_of32 a0)]) hq (c_Bits_lowest l A ad (64 : Int32) a1) kB_Bits_lowest wt_385 ⟨rfl, rfl, Nat.le_of_ble_eq_true rfl, Nat.le_of_ble_eq_true rfl⟩ rfl hl.1 rfl (Nat.le_of_ble_eq_true rfl) d_Operations_answer_161 ⟨Nat.le_of_ble_eq_true rfl, Nat.le_of_ble_eq_true rfl⟩ ?_
                  refine lv_iload hx hb d_Operations_answer_164 (lv_at hl 1 rfl) ?_
                  refine lv_lload_n hx hb d_Operations_answer_166 rfl (lv_at hl 5 rfl) ?_
                  refine sl_ (As := [.int (64 : Int32), .long a2]) (rest := [.long (q_Bits_lowest (64 : Int32) a1), .ref (ad 1), .int (q_Operations_of32 a0)]) hq (c_Bits_lowest l A ad (64 : Int32) a2) kB_Bits_lowest wt_385 ⟨rfl, rfl, Nat.le_of_ble_eq_true rfl, Nat.le_of_ble_eq_true rfl⟩ rfl hl.1 rfl (Nat.le_of_ble_eq_true rfl) d_Operations_answer_167 ⟨Nat.le_of_ble_eq_true rfl, Nat.le_of_ble_eq_true rfl⟩ ?_
                  refine si_ (As := [.int (q_Operations_of32 a0), .ref (ad 1), .long (q_Bits_lowest (64 : Int32) a1), .long (q_Bits_lowest (64 : Int32) a2)]) (rest := []) hq (c_Floats_test l A ad (q_Operations_of32 a0) 1 (by decide) (q_Bits_lowest (64 : Int32) a1) (q_Bits_lowest (64 : Int32) a2)) kB_Floats_test wt_386 ⟨rfl, rfl, Nat.le_of_ble_eq_true rfl, Nat.le_of_ble_eq_true rfl⟩ rfl hl.1 rfl (Nat.le_of_ble_eq_true rfl) d_Operations_answer_170 ⟨Nat.le_of_ble_eq_true rfl, Nat.le_of_ble_eq_true rfl⟩ ?_
                  refine lv_if_eq (tgt := 180) hx hb d_Operations_answer_173 (by decide) (fun c_39 => ?_) (fun c_39 => ?_)
                  · refine lv_lconst (v := (0 : Int64)) hx hb d_Operations_answer_180 (by decide) ?_
                    exact rt_l hx hb hr hk (by rw [q_Operations_answer, if_neg c_1, if_neg c_2, if_pos c_24, if_pos c_25, if_neg c_26, if_pos c_36, if_pos c_37, if_neg c_38, if_pos c_39]) d_Operations_answer_181 ⟨by decide, by decide⟩
                  · refine lv_lconst (v := (1 : Int64)) hx hb d_Operations_answer_176 (by decide) ?_
                    refine lv_goto (tgt := 181) hx hb d_Operations_answer_177 (by decide) ?_
                    exact rt_l hx hb hr hk (by rw [q_Operations_answer, if_neg c_1, if_neg c_2, if_pos c_24, if_pos c_25, if_neg c_26, if_pos c_36, if_pos c_37, if_neg c_38, if_neg c_39]) d_Operations_answer_181 ⟨by decide, by decide⟩
              · refine lv_iload hx hb d_Operations_answer_112 (lv_at hl 1 rfl) ?_
                refine lv_bipush (v := (120 : Int32)) hx hb d_Operations_answer_114 (by decide) ?_
                refine lv_icmp_gt (tgt := 129) hx hb d_Operations_answer_116 (by decide) (fun c_40 => ?_) (fun c_40 => ?_)
                · refine lv_iload hx hb d_Operations_answer_129 (lv_at hl 0 rfl) ?_
                  refine lv_bipush (v := (32 : Int32)) hx hb d_Operations_answer_131 (by decide) ?_
                  refine lv_icmp_ne (tgt := 142) hx hb d_Operations_answer_133 (by decide) (fun _ => ?_) (fun c => absurd c (by decide))
                  refine gs_1 hq wt_384 d_Operations_answer_142 ?_
                  refine lv_astore (lv' := [(7, .ref (ad 1)), (6, .int (64 : Int32)), (5, .int (q_Operations_of32 a0)), (0, .int a0), (1, .long a1), (3, .long a2)]) hx hb d_Operations_answer_145 hl (by decide) rfl (fun ls hl => ?_)
                  refine lv_iload hx hb d_Operations_answer_147 (lv_at hl 2 rfl) ?_
                  refine lv_bipush (v := (96 : Int32)) hx hb d_Operations_answer_149 (by decide) ?_
                  refine lv_icmp_gt (tgt := 182) hx hb d_Operations_answer_151 (by decide) (fun c_41 => ?_) (fun c_41 => ?_)
                  · refine lv_iload hx hb d_Operations_answer_182 (lv_at hl 2 rfl) ?_
                    refine lv_aload hx hb d_Operations_answer_184 (lv_at hl 0 rfl) ?_
                    refine lv_iload hx hb d_Operations_answer_186 (lv_at hl 1 rfl) ?_
                    refine lv_lload_n hx hb d_Operations_answer_188 rfl (lv_at hl 4 rfl) ?_
                    refine sl_ (As := [.int (64 : Int32), .long a1]) (rest := [.ref (ad 1), .int (q_Operations_of32 a0)]) hq (c_Bits_lowest l A ad (64 : Int32) a1) kB_Bits_lowest wt_385 ⟨rfl, rfl, Nat.le_of_ble_eq_true rfl, Nat.le_of_ble_eq_true rfl⟩ rfl hl.1 rfl (Nat.le_of_ble_eq_true rfl) d_Operations_answer_189 ⟨Nat.le_of_ble_eq_true rfl, Nat.le_of_ble_eq_true rfl⟩ ?_
                    refine lv_iload hx hb d_Operations_answer_192 (lv_at hl 1 rfl) ?_
                    refine lv_lload_n hx hb d_Operations_answer_194 rfl (lv_at hl 5 rfl) ?_
                    refine sl_ (As := [.int (64 : Int32), .long a2]) (rest := [.long (q_Bits_lowest (64 : Int32) a1), .ref (ad 1), .int (q_Operations_of32 a0)]) hq (c_Bits_lowest l A ad (64 : Int32) a2) kB_Bits_lowest wt_385 ⟨rfl, rfl, Nat.le_of_ble_eq_true rfl, Nat.le_of_ble_eq_true rfl⟩ rfl hl.1 rfl (Nat.le_of_ble_eq_true rfl) d_Operations_answer_195 ⟨Nat.le_of_ble_eq_true rfl, Nat.le_of_ble_eq_true rfl⟩ ?_
                    refine sl_ (As := [.int (q_Operations_of32 a0), .ref (ad 1), .long (q_Bits_lowest (64 : Int32) a1), .long (q_Bits_lowest (64 : Int32) a2)]) (rest := []) hq (c_Floats_calculate l A ad (q_Operations_of32 a0) 1 (by decide) (q_Bits_lowest (64 : Int32) a1) (q_Bits_lowest (64 : Int32) a2)) kB_Floats_calculate wt_395 ⟨rfl, rfl, Nat.le_of_ble_eq_true rfl, Nat.le_of_ble_eq_true rfl⟩ rfl hl.1 rfl (Nat.le_of_ble_eq_true rfl) d_Operations_answer_198 ⟨Nat.le_of_ble_eq_true rfl, Nat.le_of_ble_eq_true rfl⟩ ?_
                    exact rt_l hx hb hr hk (by rw [q_Operations_answer, if_neg c_1, if_neg c_2, if_pos c_24, if_pos c_25, if_neg c_26, if_pos c_36, if_neg c_37, if_pos c_40, if_pos c_41]) d_Operations_answer_201 ⟨by decide, by decide⟩
                  · refine lv_iload hx hb d_Operations_answer_154 (lv_at hl 2 rfl) ?_
                    refine lv_aload hx hb d_Operations_answer_156 (lv_at hl 0 rfl) ?_
                    refine lv_iload hx hb d_Operations_answer_158 (lv_at hl 1 rfl) ?_
                    refine lv_lload_n hx hb d_Operations_answer_160 rfl (lv_at hl 4 rfl) ?_
                    refine sl_ (As := [.int (64 : Int32), .long a1]) (rest := [.ref (ad 1), .int (q_Operations_of32 a0)]) hq (c_Bits_lowest l A ad (64 : Int32) a1) kB_Bits_lowest wt_385 ⟨rfl, rfl, Nat.le_of_ble_eq_true rfl, Nat.le_of_ble_eq_true rfl⟩ rfl hl.1 rfl (Nat.le_of_ble_eq_true rfl) d_Operations_answer_161 ⟨Nat.le_of_ble_eq_true rfl, Nat.le_of_ble_eq_true rfl⟩ ?_
                    refine lv_iload hx hb d_Operations_answer_164 (lv_at hl 1 rfl) ?_
                    refine lv_lload_n hx hb d_Operations_answer_166 rfl (lv_at hl 5 rfl) ?_
                    refine sl_ (As := [.int (64 : Int32), .long a2]) (rest := [.long (q_Bits_lowest (64 : Int32) a1), .ref (ad 1), .int (q_Operations_of32 a0)]) hq (c_Bits_lowest l A ad (64 : Int32) a2) kB_Bits_lowest wt_385 ⟨rfl, rfl, Nat.le_of_ble_eq_true rfl, Nat.le_of_ble_eq_true rfl⟩ rfl hl.1 rfl (Nat.le_of_ble_eq_true rfl) d_Operations_answer_167 ⟨Nat.le_of_ble_eq_true rfl, Nat.le_of_ble_eq_true rfl⟩ ?_
                    refine si_ (As := [.int (q_Operations_of32 a0), .ref (ad 1), .long (q_Bits_lowest (64 : Int32) a1), .long (q_Bits_lowest (64 : Int32) a2)]) (rest := []) hq (c_Floats_test l A ad (q_Operations_of32 a0) 1 (by decide) (q_Bits_lowest (64 : Int32) a1) (q_Bits_lowest (64 : Int32) a2)) kB_Floats_test wt_386 ⟨rfl, rfl, Nat.le_of_ble_eq_true rfl, Nat.le_of_ble_eq_true rfl⟩ rfl hl.1 rfl (Nat.le_of_ble_eq_true rfl) d_Operations_answer_170 ⟨Nat.le_of_ble_eq_true rfl, Nat.le_of_ble_eq_true rfl⟩ ?_
                    refine lv_if_eq (tgt := 180) hx hb d_Operations_answer_173 (by decide) (fun c_42 => ?_) (fun c_42 => ?_)
                    · refine lv_lconst (v := (0 : Int64)) hx hb d_Operations_answer_180 (by decide) ?_
                      exact rt_l hx hb hr hk (by rw [q_Operations_answer, if_neg c_1, if_neg c_2, if_pos c_24, if_pos c_25, if_neg c_26, if_pos c_36, if_neg c_37, if_pos c_40, if_neg c_41, if_pos c_42]) d_Operations_answer_181 ⟨by decide, by decide⟩
                    · refine lv_lconst (v := (1 : Int64)) hx hb d_Operations_answer_176 (by decide) ?_
                      refine lv_goto (tgt := 181) hx hb d_Operations_answer_177 (by decide) ?_
                      exact rt_l hx hb hr hk (by rw [q_Operations_answer, if_neg c_1, if_neg c_2, if_pos c_24, if_pos c_25, if_neg c_26, if_pos c_36, if_neg c_37, if_pos c_40, if_neg c_41, if_neg c_42]) d_Operations_answer_181 ⟨by decide, by decide⟩
                · refine lv_iload hx hb d_Operations_answer_119 (lv_at hl 1 rfl) ?_
                  refine lv_iload hx hb d_Operations_answer_121 (lv_at hl 0 rfl) ?_
                  refine lv_lload_n hx hb d_Operations_answer_123 rfl (lv_at hl 3 rfl) ?_
                  refine lv_lload_n hx hb d_Operations_answer_124 rfl (lv_at hl 4 rfl) ?_
                  refine tl_ (As := [.int (q_Operations_of32 a0), .int (64 : Int32), .long a1, .long a2]) (rest := []) hq hN ht hk (c_Wholes_calculate l hlt A ad (q_Operations_of32 a0) (64 : Int32) a1 a2) kB_Wholes_calculate wt_321 ⟨rfl, rfl, Nat.le_of_ble_eq_true rfl, Nat.le_of_ble_eq_true rfl⟩ rfl hl.1 rfl (Nat.le_of_ble_eq_true rfl) d_Operations_answer_125 ⟨Nat.le_of_ble_eq_true rfl, Nat.le_of_ble_eq_true rfl⟩ (fun hz => by rw [q_Operations_answer, if_neg c_1, if_neg c_2, if_pos c_24, if_pos c_25, if_neg c_26, if_pos c_36, if_neg c_37, if_neg c_40, if_neg hz]) (fun c_43 => ?_)
                  exact rt_l hx hb hr hk (by rw [q_Operations_answer, if_neg c_1, if_neg c_2, if_pos c_24, if_pos c_25, if_neg c_26, if_pos c_36, if_neg c_37, if_neg c_40, if_pos c_43]) d_Operations_answer_128 ⟨by decide, by decide⟩
            · refine lv_iload hx hb d_Operations_answer_79 (lv_at hl 1 rfl) ?_
              refine lv_iload hx hb d_Operations_answer_81 (lv_at hl 0 rfl) ?_
              refine lv_lload_n hx hb d_Operations_answer_83 rfl (lv_at hl 3 rfl) ?_
              refine sl_ (As := [.int (64 : Int32), .long a1]) (rest := [.int (q_Operations_of32 a0)]) hq (c_Bits_signed l A ad (64 : Int32) a1) kB_Bits_signed wt_316 ⟨rfl, rfl, Nat.le_of_ble_eq_true rfl, Nat.le_of_ble_eq_true rfl⟩ rfl hl.1 rfl (Nat.le_of_ble_eq_true rfl) d_Operations_answer_84 ⟨Nat.le_of_ble_eq_true rfl, Nat.le_of_ble_eq_true rfl⟩ ?_
              refine lv_iload hx hb d_Operations_answer_87 (lv_at hl 0 rfl) ?_
              refine lv_lload_n hx hb d_Operations_answer_89 rfl (lv_at hl 4 rfl) ?_
              refine sl_ (As := [.int (64 : Int32), .long a2]) (rest := [.long (q_Bits_signed (64 : Int32) a1), .int (q_Operations_of32 a0)]) hq (c_Bits_signed l A ad (64 : Int32) a2) kB_Bits_signed wt_316 ⟨rfl, rfl, Nat.le_of_ble_eq_true rfl, Nat.le_of_ble_eq_true rfl⟩ rfl hl.1 rfl (Nat.le_of_ble_eq_true rfl) d_Operations_answer_90 ⟨Nat.le_of_ble_eq_true rfl, Nat.le_of_ble_eq_true rfl⟩ ?_
              refine si_ (As := [.int (q_Operations_of32 a0), .long (q_Bits_signed (64 : Int32) a1), .long (q_Bits_signed (64 : Int32) a2)]) (rest := []) hq (c_Wholes_test l A ad (q_Operations_of32 a0) (q_Bits_signed (64 : Int32) a1) (q_Bits_signed (64 : Int32) a2)) kB_Wholes_test wt_317 ⟨rfl, rfl, Nat.le_of_ble_eq_true rfl, Nat.le_of_ble_eq_true rfl⟩ rfl hl.1 rfl (Nat.le_of_ble_eq_true rfl) d_Operations_answer_93 ⟨Nat.le_of_ble_eq_true rfl, Nat.le_of_ble_eq_true rfl⟩ ?_
              refine lv_if_eq (tgt := 103) hx hb d_Operations_answer_96 (by decide) (fun c_44 => ?_) (fun c_44 => ?_)
              · refine lv_lconst (v := (0 : Int64)) hx hb d_Operations_answer_103 (by decide) ?_
                exact rt_l hx hb hr hk (by rw [q_Operations_answer, if_neg c_1, if_neg c_2, if_pos c_24, if_pos c_25, if_neg c_26, if_neg c_36, if_pos c_44]) d_Operations_answer_104 ⟨by decide, by decide⟩
              · refine lv_lconst (v := (1 : Int64)) hx hb d_Operations_answer_99 (by decide) ?_
                refine lv_goto (tgt := 104) hx hb d_Operations_answer_100 (by decide) ?_
                exact rt_l hx hb hr hk (by rw [q_Operations_answer, if_neg c_1, if_neg c_2, if_pos c_24, if_pos c_25, if_neg c_26, if_neg c_36, if_neg c_44]) d_Operations_answer_104 ⟨by decide, by decide⟩
        · refine lv_iload_n hx hb d_Operations_answer_44 rfl (lv_at hl 0 rfl) ?_
          refine lv_lload_n hx hb d_Operations_answer_45 rfl (lv_at hl 1 rfl) ?_
          refine tl_ (As := [.int a0, .long a1]) (rest := []) hq hN ht hk (c_Conversions_toWholeOrBits l hlt A ad a0 a1) kB_Conversions_toWholeOrBits wt_262 ⟨rfl, rfl, Nat.le_of_ble_eq_true rfl, Nat.le_of_ble_eq_true rfl⟩ rfl hl.1 rfl (Nat.le_of_ble_eq_true rfl) d_Operations_answer_46 ⟨Nat.le_of_ble_eq_true rfl, Nat.le_of_ble_eq_true rfl⟩ (fun hz => by rw [q_Operations_answer, if_neg c_1, if_neg c_2, if_pos c_24, if_neg c_25, if_neg hz]) (fun c_45 => ?_)
          exact rt_l hx hb hr hk (by rw [q_Operations_answer, if_neg c_1, if_neg c_2, if_pos c_24, if_neg c_25, if_pos c_45]) d_Operations_answer_49 ⟨by decide, by decide⟩
      · refine lv_iload_n hx hb d_Operations_answer_31 rfl (lv_at hl 0 rfl) ?_
        refine lv_lload_n hx hb d_Operations_answer_32 rfl (lv_at hl 1 rfl) ?_
        refine sl_ (As := [.int a0, .long a1]) (rest := []) hq (c_Conversions_toFloat l A ad a0 a1) kB_Conversions_toFloat wt_190 ⟨rfl, rfl, Nat.le_of_ble_eq_true rfl, Nat.le_of_ble_eq_true rfl⟩ rfl hl.1 rfl (Nat.le_of_ble_eq_true rfl) d_Operations_answer_33 ⟨Nat.le_of_ble_eq_true rfl, Nat.le_of_ble_eq_true rfl⟩ ?_
        exact rt_l hx hb hr hk (by rw [q_Operations_answer, if_neg c_1, if_neg c_2, if_neg c_24]) d_Operations_answer_36 ⟨by decide, by decide⟩
  · exact th_ (k := 1) hq hlt ht hk (by rw [q_Operations_answer, if_pos c_1]) (by decide) (by decide +kernel) wt_121 wt_41 hN.2.2.2.2.2.2.2.1 (ta_Operations_answer_7 hts hN) (by decide +kernel) hl.1 d_Operations_answer_7 d_Operations_answer_10 d_Operations_answer_11 d_Operations_answer_13 d_Operations_answer_16 ⟨Nat.le_of_ble_eq_true rfl, Nat.le_of_ble_eq_true rfl, Nat.le_of_ble_eq_true rfl, Nat.le_of_ble_eq_true rfl⟩
